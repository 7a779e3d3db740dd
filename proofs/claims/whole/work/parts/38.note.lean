/-! PURE: rows copied, note and remember -/
def RwC (k0 a0 k1 a1 n : Nat) (M M' : MT) : Prop := (∀ k f, ¬ (k = k1 ∧ a1 ≤ f ∧ f < a1 + n) → M'.1 k f = M.1 k f) ∧ (∀ q, q < n → M'.1 k1 (a1 + q) = M.1 k0 (a0 + q)) ∧ M'.2 = M.2
set_option maxRecDepth 20000 in
theorem rwc_no (k0 a0 k1 a1 : Nat) (M : MT) : RwC k0 a0 k1 a1 0 M M := ⟨fun _ _ _ => rfl, fun q h => absurd h (Nat.not_lt_zero q), rfl⟩
set_option maxRecDepth 20000 in
theorem RwC.one {k0 a0 k1 a1 n : Nat} {M M' : MT} (h : RwC k0 a0 k1 a1 n M M') (hs : ¬ (k0 = k1 ∧ a1 ≤ a0 + n ∧ a0 + n < a1 + n)) : RwC k0 a0 k1 a1 (n + 1) M (mi M' k1 (a1 + n) (M'.1 k0 (a0 + n))) := by
  refine ⟨fun k f hq => ?_, fun q hq => ?_, h.2.2⟩
  · show (if k = k1 ∧ f = a1 + n then _ else M'.1 k f) = _
    rw [if_neg (fun c => hq ⟨c.1, by omega, by omega⟩)]
    exact h.1 k f (fun c => hq ⟨c.1, c.2.1, by omega⟩)
  · show (if k1 = k1 ∧ a1 + q = a1 + n then _ else M'.1 k1 (a1 + q)) = _
    by_cases c : q = n
    · subst c
      rw [if_pos ⟨rfl, rfl⟩]
      exact h.1 k0 (a0 + q) hs
    · rw [if_neg (fun d => c (by omega))]
      exact h.2.1 q (by omega)
set_option maxRecDepth 20000 in
theorem RwC.k {k0 a0 k1 a1 n : Nat} {M M' : MT} (h : RwC k0 a0 k1 a1 n M M') {k : Nat} (hk : k ≠ k1) : M'.1 k = M.1 k := funext fun f => h.1 k f fun c => hk c.1
set_option maxRecDepth 20000 in
theorem m264 (a b : Nat) : (264 : Int32) * nI a + nI b = nI (264 * a + b) := by
  rw [show (264 : Int32) = nI 264 from rfl, pk_mul, nI_add]
set_option maxRecDepth 20000 in
theorem rem52 {M : MT} {cn : Nat} (hc : cn < 6) (h27 : M.1 0 27 = nI cn) : ∀ d i f (Mi : MT), RwC 1 0 4 (264 * cn) i M Mi → i + d = 264 → d < f → EX (f_X12_remember_52 f Mi (nI i)) (fun M' => ∃ M1, RwC 1 0 4 (264 * cn) 264 M M1 ∧ M' = mi M1 0 27 (nI (cn + 1))) := by
  intro d
  induction d with
  | zero =>
    intro i f Mi hr hi hf
    obtain ⟨f, rfl⟩ := fuel hf
    obtain rfl : i = 264 := by omega
    unfold f_X12_remember_52
    rw [if_pos (by decide), bnd_s, hr.k (by decide), h27, show nI cn + 1 = nI (cn + 1) from nI_add cn 1]
    exact ex_s ⟨Mi, hr, rfl⟩
  | succ d ih =>
    intro i f Mi hr hi hf
    obtain ⟨f, rfl⟩ := fuel hf
    unfold f_X12_remember_52
    rw [if_neg (show ¬ (264 : Int32) ≤ nI i from nI_ge (a := i) (b := 264) (by omega) (by decide)), hr.k (by decide : (0 : Nat) ≠ 4), h27, m264, gd_t (nI_in (by omega) (by decide)), gd_t (nI_in (by omega) (by decide)), nI_clamp (by omega), nI_clamp (by omega), bnd_s, show nI i + 1 = nI (i + 1) from nI_add i 1]
    have h2 := hr.one (by omega)
    rw [Nat.zero_add] at h2
    exact ih (i + 1) f _ h2 (by omega) (by omega)
set_option maxRecDepth 20000 in
theorem rem11 {M : MT} (h27 : M.1 0 27 = nI 6) : ∀ d i f (Mi : MT), RwC 4 264 4 0 i M Mi → i + d = 1320 → d < f → EX (f_X12_remember_11 f Mi (nI i)) (fun M' => ∃ M1 M2, RwC 4 264 4 0 1320 M M1 ∧ RwC 1 0 4 (264 * 5) 264 (mi M1 0 27 (nI 5)) M2 ∧ M' = mi M2 0 27 (nI 6)) := by
  intro d
  induction d with
  | zero =>
    intro i f Mi hr hi hf
    obtain ⟨f, rfl⟩ := fuel hf
    obtain rfl : i = 1320 := by omega
    unfold f_X12_remember_11
    rw [if_pos (by decide), bnd_s, hr.k (by decide), h27, show nI 6 - 1 = nI 5 from by decide]
    refine (rem52 (M := mi Mi 0 27 (nI 5)) (cn := 5) (by decide) (by simp [mi]) 264 0 2000 _ (rwc_no _ _ _ _ _) rfl (by decide)).mono fun M' h' => ?_
    obtain ⟨M2, h2, rfl⟩ := h'
    exact ⟨Mi, M2, hr, h2, rfl⟩
  | succ d ih =>
    intro i f Mi hr hi hf
    obtain ⟨f, rfl⟩ := fuel hf
    unfold f_X12_remember_11
    rw [if_neg (show ¬ (1320 : Int32) ≤ nI i from nI_ge (a := i) (b := 1320) (by omega) (by decide)), show nI i + 264 = nI (i + 264) from nI_add i 264, bnd_s, gd_t (nI_in (by omega) (by decide)), gd_t (nI_in (by omega) (by decide)), nI_clamp (by omega), nI_clamp (by omega), bnd_s, show nI i + 1 = nI (i + 1) from nI_add i 1]
    have h2 := hr.one (by omega)
    rw [Nat.zero_add, Nat.add_comm 264 i] at h2
    exact ih (i + 1) f _ h2 (by omega) (by omega)
set_option maxRecDepth 20000 in
/-- what 'remember' does: the row goes behind the rows kept, the oldest of six falls out -/
theorem rem_ {M : MT} {cn : Nat} (hc : cn ≤ 6) (h27 : M.1 0 27 = nI cn) : ∃ M', f_X12_remember M = some M' ∧ M'.2 = M.2 ∧ (∀ k, k ≠ 0 → k ≠ 4 → M'.1 k = M.1 k) ∧ (∀ f, f ≠ 27 → M'.1 0 f = M.1 0 f) ∧ ((cn < 6 ∧ M'.1 0 27 = nI (cn + 1) ∧ (∀ t q, t < cn → q < 264 → M'.1 4 (264 * t + q) = M.1 4 (264 * t + q)) ∧ (∀ q, q < 264 → M'.1 4 (264 * cn + q) = M.1 1 q)) ∨ (cn = 6 ∧ M'.1 0 27 = nI 6 ∧ (∀ t q, t < 5 → q < 264 → M'.1 4 (264 * t + q) = M.1 4 (264 * (t + 1) + q)) ∧ (∀ q, q < 264 → M'.1 4 (264 * 5 + q) = M.1 1 q))) := by
  unfold f_X12_remember
  rw [h27]
  by_cases c : cn = 6
  · subst c
    rw [if_pos (show nI 6 = (6 : Int32) from rfl)]
    obtain ⟨M', e, M1, M2, r1, r2, rfl⟩ := rem11 h27 1320 0 2000 M (rwc_no _ _ _ _ _) rfl (by decide)
    have e0 : ∀ f, f ≠ 27 → (mi M2 0 27 (nI 6)).1 0 f = M.1 0 f := by
      intro f hf
      show (if 0 = 0 ∧ f = 27 then _ else M2.1 0 f) = _
      rw [if_neg (fun d => hf d.2), r2.k (by decide)]
      show (if 0 = 0 ∧ f = 27 then _ else M1.1 0 f) = _
      rw [if_neg (fun d => hf d.2), r1.k (by decide)]
    have e4 : ∀ f, (mi M2 0 27 (nI 6)).1 4 f = M2.1 4 f := fun f => congrFun (mi_ne (by decide)) f
    have e4' : ∀ f, (mi M1 0 27 (nI 5)).1 4 f = M1.1 4 f := fun f => congrFun (mi_ne (by decide)) f
    refine ⟨_, e, r2.2.2.trans r1.2.2, fun k h0 h4 => ?_, e0, Or.inr ⟨rfl, by simp [mi], fun t q ht hq => ?_, fun q hq => ?_⟩⟩
    · rw [mi_ne h0, r2.k h4, mi_ne h0, r1.k h4]
    · rw [e4, r2.1 4 _ (by omega), e4']
      have := r1.2.1 (264 * t + q) (by omega)
      rw [Nat.zero_add] at this
      rw [this]
      exact congrArg (M.1 4) (by omega)
    · rw [e4, r2.2.1 q hq, Nat.zero_add, mi_ne (by decide), r1.k (by decide)]
  · rw [if_neg (show ¬ nI cn = (6 : Int32) from fun d => c ((nI_eq (b := 6) (by omega) (by decide)).mp d))]
    obtain ⟨M', e, M1, r1, rfl⟩ := rem52 (by omega) h27 264 0 2000 M (rwc_no _ _ _ _ _) rfl (by decide)
    have e0 : ∀ f, f ≠ 27 → (mi M1 0 27 (nI (cn + 1))).1 0 f = M.1 0 f := by
      intro f hf
      show (if 0 = 0 ∧ f = 27 then _ else M1.1 0 f) = _
      rw [if_neg (fun d => hf d.2), r1.k (by decide)]
    have e4 : ∀ f, (mi M1 0 27 (nI (cn + 1))).1 4 f = M1.1 4 f := fun f => congrFun (mi_ne (by decide)) f
    refine ⟨_, e, r1.2.2, fun k h0 h4 => ?_, e0, Or.inl ⟨by omega, by simp [mi], fun t q ht hq => ?_, fun q hq => ?_⟩⟩
    · rw [mi_ne h0, r1.k h4]
    · rw [e4, r1.1 4 _ (by omega)]
    · rw [e4, r1.2.1 q hq, Nat.zero_add]
set_option maxRecDepth 20000 in
/-- a relation read at places below 264 only -/
theorem sgT_eq {r r' : Nat → Int32} (e : ∀ q, q < 264 → r' q = r q) : sgT r' = sgT r := by
  unfold sgT
  rw [e (iT 0 3) (by decide), e (iT 1 3) (by decide), e (iT 2 3) (by decide), e (iT 3 3) (by decide), e (iT 4 3) (by decide)]
set_option maxRecDepth 20000 in
theorem BRn.row {X : XT} {j : Nat} {r r' : Nat → Int32} {nc nv ng np nl nt nb : Nat} (h : BRn X j r nc nv ng np nl nt nb) (e : ∀ q, q < 264 → r' q = r q) : BRn X j r' nc nv ng np nl nt nb := by
  obtain ⟨⟨b1, b2, b3, b4, b5, b6, b7⟩, c, m, h1, h2, h3, h4, h5, h6, h7, h8, h9⟩ := h
  refine ⟨⟨b1, b2, b3, b4, b5, b6, b7⟩, ?_, ?_, ?_, ?_, ?_, ?_, ?_, ?_, ?_, ?_, ?_⟩
  · rw [e 3 (by decide), e 4 (by decide), e 5 (by decide), e 6 (by decide), e 7 (by decide), e 8 (by decide), e 9 (by decide)]
    exact c
  · rw [e 1 (by decide), e 10 (by decide), e 2 (by decide), e 11 (by decide), sgT_eq e]
    exact m
  · intro k hk
    rw [e (12 + k) (by omega)]
    exact h1 k hk
  · intro k hk
    have := h2 k hk
    unfold VR at this ⊢
    rw [e (iV k 0) (by unfold iV; omega), e (iV k 1) (by unfold iV; omega)]
    refine ⟨this.1, fun g hg => ?_⟩
    rw [e (iV k (2 + g)) (by unfold iV; omega)]
    exact this.2 g hg
  · intro k hk
    rw [e (iG k 0) (by unfold iG; omega), e (iG k 1) (by unfold iG; omega)]
    exact h3 k hk
  · intro k hk
    have := h4 k hk
    unfold PR at this ⊢
    rw [e (iP k 0) (by unfold iP; omega), e (iP k 1) (by unfold iP; omega), e (iP k 2) (by unfold iP; omega), e 0 (by decide)]
    exact this
  · intro k hk
    have := h5 k hk
    unfold LR at this ⊢
    rw [e (iL k 0) (by unfold iL; omega), e (iL k 1) (by unfold iL; omega), e (iL k 2) (by unfold iL; omega), e (iL k 3) (by unfold iL; omega), e (iL k 4) (by unfold iL; omega), e (iL k 5) (by unfold iL; omega)]
    exact this
  · intro k hk
    have := h6 k hk
    unfold TR at this ⊢
    rw [e (iT k 0) (by unfold iT; omega), e (iT k 1) (by unfold iT; omega), e (iT k 2) (by unfold iT; omega), e (iT k 3) (by unfold iT; omega)]
    exact this
  · intro k hk
    have := h7 k hk
    unfold OR at this ⊢
    rw [e (iB k 0) (by unfold iB; omega), e (iB k 1) (by unfold iB; omega), e (iB k 2) (by unfold iB; omega), e (iB k 3) (by unfold iB; omega)]
    exact this
  · intro k hk hk5
    rw [e (iT k 1) (by unfold iT; omega), e (iT k 3) (by unfold iT; omega)]
    exact h8 k hk hk5
  · intro k hk hk4 g hg
    rw [e (iV k (2 + g)) (by unfold iV; omega)]
    exact h9 k hk hk4 g hg
set_option maxRecDepth 20000 in
theorem BR.eq {X X' : XT} {j j' : Nat} {r r' : Nat → Int32} (h : BR X j r) (e : ∀ k i f, inB k i f → X' k j' i f = X k j i f) (er : ∀ q, q < 264 → r' q = r q) : BR X' j' r' := by
  obtain ⟨nc, nv, ng, np, nl, nt, nb, hb⟩ := h
  exact ⟨nc, nv, ng, np, nl, nt, nb, (hb.eq e).row er⟩
set_option maxRecDepth 20000 in
/-- the history and the saved books stay -/
theorem HI.eq {X X' : XT} {M M' : MT} (h : HI X M) (e4 : ∀ f, X' 4 0 0 f = X 4 0 0 f) (eb : ∀ j, 2 ≤ j → j < 8 → ∀ k i f, inB k i f → X' k j i f = X k j i f) (m27 : M'.1 0 27 = M.1 0 27) (m4 : M'.1 4 = M.1 4) : HI X' M' := by
  obtain ⟨nx, cn, h1, h2, h3, h4, h5, h6⟩ := h
  refine ⟨nx, cn, h1, h2, by rw [e4, h3], by rw [e4, h4], by rw [m27, h5], fun t ht => ?_⟩
  rw [m4]
  exact (h6 t ht).eq (eb _ (by omega) (by omega)) fun _ _ => rfl
set_option maxRecDepth 20000 in
theorem SV.eq {X X' : XT} {M M' : MT} (h : SV X M) (e7 : ∀ f, X' 7 0 0 f = X 7 0 0 f) (eb : ∀ j, 8 ≤ j → j < 10 → ∀ k i f, inB k i f → X' k j i f = X k j i f) (m29 : M'.1 0 29 = M.1 0 29) (m5 : M'.1 5 = M.1 5) : SV X' M' := by
  obtain ⟨b0, b1, h1, h2, h3, h4, h5, h6, h7⟩ := h
  refine ⟨b0, b1, h1, h2, by rw [e7, h3], by rw [e7, h4], by rw [m29, h5], fun c => ?_, fun c => ?_⟩
  · rw [m5]
    exact (h6 c).eq (eb 8 (by decide) (by decide)) fun _ _ => rfl
  · rw [m5]
    exact (h7 c).eq (eb 9 (by decide) (by decide)) fun _ _ => rfl
set_option maxRecDepth 20000 in
theorem RR.mk' {X X' : XT} {M M' : MT} (h : RR X M) (hb : BR X' 1 (M'.1 1)) (bo : BO X') (e2 : M'.2 = M.2) (el : ∀ k, (k = 1 ∨ k = 2 ∨ k = 3 ∨ k = 8 ∨ k = 9) → ∀ f, X' k 0 0 f = X k 0 0 f) (em0 : ∀ f, f ≠ 0 → f ≠ 27 → f ≠ 29 → M'.1 0 f = M.1 0 f) (m3 : M'.1 3 = M.1 3) (m6 : M'.1 6 = M.1 6) (hi : HI X' M') (sv : SV X' M') : RR X' M' := by
  obtain ⟨h1, h2, h3, h4, h5, h6, h7, h8, h9⟩ := h
  refine ⟨by rw [e2]; exact h1, bo, hb, ?_, ?_, hi, sv, ?_, ?_⟩
  · obtain ⟨n, n1, n2, n3, n4⟩ := h4
    refine ⟨n, n1, by rw [el 2 (by decide), n2], by rw [em0 5 (by decide) (by decide) (by decide), n3], fun i hi => ?_⟩
    rw [el 3 (by decide), m3]
    exact n4 i hi
  · rw [el 1 (by decide), el 1 (by decide), em0 30 (by decide) (by decide) (by decide), em0 31 (by decide) (by decide) (by decide)]
    exact h5
  · obtain ⟨t, t1, t2, t3, t4⟩ := h8
    refine ⟨t, t1, by rw [el 8 (by decide), t2], by rw [em0 33 (by decide) (by decide) (by decide), t3], fun q hq => ?_⟩
    rw [el 9 (by decide), m6]
    exact t4 q hq
  · unfold WD
    rw [e2]
    exact h9
set_option maxRecDepth 20000 in
theorem next6 : ∀ n, n < 6 → (nI n + 1) - (nI n + 1) / 6 * 6 = nI ((n + 1) % 6) := by decide
set_option maxRecDepth 20000 in
theorem cap6 : ∀ n, n ≤ 6 → (if 6 < nI n + 1 then 6 else nI n + 1) = nI (if n = 6 then 6 else n + 1) := by decide
set_option maxRecDepth 20000 in
/-- note beside remember -/
theorem note_ {X : XT} {M : MT} (h : RR X M) : ∃ X1 M1, f_X4_note X 1 = some X1 ∧ f_X12_remember M = some M1 ∧ RR X1 M1 ∧ (∀ k i f, inB k i f → X1 k 1 i f = X k 1 i f) ∧ (∀ f, X1 7 0 0 f = X 7 0 0 f) ∧ M1.1 1 = M.1 1 ∧ M1.1 5 = M.1 5 ∧ M1.1 0 0 = M.1 0 0 ∧ M1.1 0 29 = M.1 0 29 := by
  obtain ⟨nx, cn, n1, n2, n3, n4, n5, n6⟩ := h.2.2.2.2.2.1
  obtain ⟨M1, e, q2, qk, q0, qh⟩ := rem_ n2 n5
  obtain ⟨Z, eZ, cZ⟩ := cp_X0 (X := X) (j := 2 + nx) (j1 := 1) (by omega) fun i hi => h.2.1 1 (by decide) i hi
  have z4 : ∀ f, Z 4 0 0 f = X 4 0 0 f := fun f => cZ.2 4 0 0 f (Or.inr id)
  let X1 : XT := xs (xs Z 4 0 0 1 (nI ((nx + 1) % 6))) 4 0 0 2 (nI (if cn = 6 then 6 else cn + 1))
  have x1 : ∀ k j i f, k ≠ 4 → X1 k j i f = Z k j i f := by
    intro k j i f hk
    show xs _ _ _ _ _ _ k j i f = _
    unfold xs
    rw [if_neg (fun c => hk c.1), if_neg (fun c => hk c.1)]
  have e1 : f_X4_note X 1 = some X1 := by
    unfold f_X4_note
    rw [n3, gd_t (nI_in n1 (by decide)), nI_clamp (by omega), eZ, bn1_s, bnd_s, bnd_s, z4, n3, next6 nx n1]
    have : (xs Z 4 0 0 1 (nI ((nx + 1) % 6))) 4 0 0 2 = nI cn := by
      rw [← n4, ← z4 2]
      rfl
    rw [this, cap6 cn n2]
  have b1 : ∀ k i f, inB k i f → X1 k 1 i f = X k 1 i f := by
    intro k i f hq
    rw [x1 k 1 i f (by rintro rfl; exact hq), cZ.2 k 1 i f (Or.inl (by omega))]
  have bj : ∀ j, j ≠ 2 + nx → ∀ k i f, inB k i f → X1 k j i f = X k j i f := by
    intro j hj k i f hq
    rw [x1 k j i f (by rintro rfl; exact hq), cZ.2 k j i f (Or.inl hj)]
  have bn : ∀ k i f, inB k i f → X1 k (2 + nx) i f = X k 1 i f := by
    intro k i f hq
    rw [x1 k (2 + nx) i f (by rintro rfl; exact hq), cZ.1 k i f hq]
  have xl : ∀ k, k ≠ 4 → (∀ i f, ¬ inB k i f) → ∀ i f, X1 k 0 i f = X k 0 i f := by
    intro k hk hn i f
    rw [x1 k 0 i f hk, cZ.2 k 0 i f (Or.inr (hn i f))]
  have c1 : M1.1 1 = M.1 1 := qk 1 (by decide) (by decide)
  have c5 : M1.1 5 = M.1 5 := qk 5 (by decide) (by decide)
  refine ⟨X1, M1, e1, e, ?_, b1, xl 7 (by decide) (fun _ _ => id) 0, c1, c5, q0 0 (by decide), q0 29 (by decide)⟩
  refine h.mk' ?_ ?_ q2 ?_ (fun f _ h27 _ => q0 f h27) (qk 3 (by decide) (by decide)) (qk 6 (by decide) (by decide)) ?_ ?_
  · rw [c1]
    exact h.2.2.1.eq b1 fun _ _ => rfl
  · intro j hj i hi
    by_cases c : j = 2 + nx
    · rw [c, bn 22 i 7 (by show _ ∧ _; omega)]
      exact h.2.1 1 (by decide) i hi
    · rw [bj j c 22 i 7 (by show _ ∧ _; omega)]
      exact h.2.1 j hj i hi
  · intro k hk f
    rcases hk with rfl | rfl | rfl | rfl | rfl
    · exact xl 1 (by decide) (fun _ _ => id) 0 f
    · exact xl 2 (by decide) (fun _ _ => id) 0 f
    · exact xl 3 (by decide) (fun _ _ => id) 0 f
    · exact xl 8 (by decide) (fun _ _ => id) 0 f
    · exact xl 9 (by decide) (fun _ _ => id) 0 f
  · have a1 : X1 4 0 0 1 = nI ((nx + 1) % 6) := rfl
    have a2 : X1 4 0 0 2 = nI (if cn = 6 then 6 else cn + 1) := rfl
    rcases qh with ⟨c, r27, r4, r4'⟩ | ⟨c, r27, r4, r4'⟩
    · rw [if_neg (by omega)] at a2
      refine ⟨(nx + 1) % 6, cn + 1, by omega, by omega, a1, a2, r27, fun t ht => ?_⟩
      by_cases d : t = cn
      · subst d
        rw [show 2 + ((nx + 1) % 6 + 6 - (t + 1) + t) % 6 = 2 + nx by omega]
        exact h.2.2.1.eq bn r4'
      · rw [show 2 + ((nx + 1) % 6 + 6 - (cn + 1) + t) % 6 = 2 + (nx + 6 - cn + t) % 6 by omega]
        exact (n6 t (by omega)).eq (bj _ (by omega)) fun q hq => r4 t q (by omega) hq
    · rw [if_pos c] at a2
      subst c
      refine ⟨(nx + 1) % 6, 6, by omega, by omega, a1, a2, r27, fun t ht => ?_⟩
      by_cases d : t = 5
      · subst d
        rw [show 2 + ((nx + 1) % 6 + 6 - 6 + 5) % 6 = 2 + nx by omega]
        exact h.2.2.1.eq bn r4'
      · rw [show 2 + ((nx + 1) % 6 + 6 - 6 + t) % 6 = 2 + (nx + 6 - 6 + (t + 1)) % 6 by omega]
        exact (n6 (t + 1) (by omega)).eq (bj _ (by omega)) fun q hq => r4 t q (by omega) hq
  · exact h.2.2.2.2.2.2.1.eq (xl 7 (by decide) (fun _ _ => id) 0) (fun j h1 h2 => bj j (by omega)) (q0 29 (by decide)) c5
