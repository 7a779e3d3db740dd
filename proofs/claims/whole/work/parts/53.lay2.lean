/-! PURE: a new variety; a book opened -/
section VARI
variable {X : XT} {j : Nat} {M : MT} {nc nv ng np nl nt nb : Nat}
set_option maxRecDepth 20000 in
theorem zero_prices {X0 : XT} {v : Nat} (hv : v < 4) (hc : nc ≤ 4) (c1 : X0 11 j 0 3 = nI nc) (c2 : X0 11 j 0 4 = nI (v + 1)) : ∀ d i f (X : XT), i + d = nc → d < f → (∀ k j' i' f', (k ≠ 14 ∨ j' ≠ j ∨ i' ≠ 0 ∨ f' < v * 4 ∨ v * 4 + 4 ≤ f') → X k j' i' f' = X0 k j' i' f') → (∀ g, g < i → X 14 j 0 (v * 4 + g) = 0) → ∃ X', f_X1_addVariety_32 j (nI v) f X (nI i) = some X' ∧ (∀ k j' i' f', (k ≠ 14 ∨ j' ≠ j ∨ i' ≠ 0 ∨ f' < v * 4 ∨ v * 4 + 4 ≤ f') → X' k j' i' f' = X0 k j' i' f') ∧ ∀ g, g < nc → X' 14 j 0 (v * 4 + g) = 0 := by
  intro d
  induction d with
  | zero =>
    intro i f X hi hf hx hz
    obtain ⟨f, rfl⟩ := fuel hf
    rw [f_X1_addVariety_32, hx 11 j 0 3 (Or.inl (by decide)), c1, if_pos (nI_le (by omega) (by omega))]
    exact ⟨X, rfl, hx, fun g hg => hz g (by omega)⟩
  | succ d ih =>
    intro i f X hi hf hx hz
    obtain ⟨f, rfl⟩ := fuel hf
    have hp : f_X1_putPrice X j (nI v) (nI i) 0 = some (xs X 14 j 0 (v * 4 + i) 0) := by
      unfold f_X1_putPrice f_X1_hasVariety f_X1_hasGrade
      rw [hx 11 j 0 3 (Or.inl (by decide)), c1, hx 11 j 0 4 (Or.inl (by decide)), c2, if_neg (nI_pos (by omega)), if_neg (nI_ge (by omega) (by omega)), bn1_s, if_neg (by decide), if_neg (nI_pos (by omega)), if_neg (nI_ge (by omega) (by omega)), bn1_s, if_neg (by decide), show nI v * 4 + nI i = nI (v * 4 + i) by rw [show (4 : Int32) = nI 4 from rfl, pk_mul, nI_add], gd_t (nI_in (by omega) (by decide)), nI_clamp (by omega), bnd_s]
    rw [f_X1_addVariety_32, hx 11 j 0 3 (Or.inl (by decide)), c1, if_neg (nI_ge (by omega) (by omega)), hp, bn1_s, show nI i + 1 = nI (i + 1) from nI_add i 1]
    refine ih (i + 1) f _ (by omega) (by omega) (fun k j' i' f' q => ?_) (fun g hg => ?_)
    · rw [xs_o (by omega)]; exact hx k j' i' f' q
    · by_cases c : g = i
      · subst c; exact xs_i
      · rw [xs_o (by omega)]; exact hz g (by omega)
set_option maxRecDepth 20000 in
theorem variety_ (h : BRn X j (M.1 M.2.2) nc nv ng np nl nt nb) (hn : nv < 4) {a b c : Int32} (hw : nmR a b c) : ∃ X' M', f_X1_addVariety X j a = some X' ∧ f_X12_layVariety M b c = some M' ∧ UB X M j X' M' ∧ BRn X' j (M'.1 M'.2.2) nc (nv + 1) ng np nl nt nb ∧ (∀ i, X' 22 j i 7 = X 22 j i 7) ∧ M'.1 M.2.2 0 = M.1 M.2.2 0 := by
  have iv : (16 : Int32) + 6 * nI nv = nI (iV nv 0) := by
    rw [show (16 : Int32) = nI 16 from rfl, show (6 : Int32) = nI 6 from rfl, pk_mul, nI_add]; rfl
  let X1 : XT := xs (xs X 13 j 0 nv a) 11 j 0 4 (nI (nv + 1))
  have hbb := h.b
  obtain ⟨X', eX, hx, hz⟩ := zero_prices (j := j) (nc := nc) (X0 := X1) hn hbb.1 (by
    show xs _ _ _ _ _ _ 11 j 0 3 = _
    rw [xs_o (by omega), xs_o (by omega)]; exact h.c.1.1) xs_i nc 0 2000 X1 (by omega) (by omega) (fun _ _ _ _ _ => rfl) (fun g hg => absurd hg (Nat.not_lt_zero _))
  have ex : ∀ k i f, k ≠ 13 → k ≠ 11 → k ≠ 14 → X' k j i f = X k j i f := fun k i f a b c => by
    rw [hx k j i f (Or.inl c)]
    show xs _ _ _ _ _ _ k j i f = _
    rw [xs_o (by omega), xs_o (by omega)]
  have x13 : ∀ k, X' 13 j 0 k = if k = nv then a else X 13 j 0 k := fun k => by
    rw [hx 13 j 0 k (Or.inl (by decide))]
    show xs _ _ _ _ _ _ 13 j 0 k = _
    rw [xs_o (by omega)]
    by_cases d : k = nv
    · rw [if_pos d, d, xs_i]
    · rw [if_neg d, xs_o (by omega)]
  have x14 : ∀ f, (f < nv * 4 ∨ nv * 4 + 4 ≤ f) → X' 14 j 0 f = X 14 j 0 f := fun f q => by
    rw [hx 14 j 0 f (by omega)]
    show xs _ _ _ _ _ _ 14 j 0 f = _
    rw [xs_o (by omega), xs_o (by omega)]
  have x114 : X' 11 j 0 4 = nI (nv + 1) := (hx 11 j 0 4 (Or.inl (by decide))).trans xs_i
  have x113 : X' 11 j 0 3 = X 11 j 0 3 := by
    rw [hx 11 j 0 3 (Or.inl (by decide))]
    show xs _ _ _ _ _ _ 11 j 0 3 = _
    rw [xs_o (by omega), xs_o (by omega)]
  let M' : MT := mi (mi (mi M M.2.2 4 (nI (nv + 1))) M.2.2 (iV nv 0) b) M.2.2 (iV nv 1) c
  refine ⟨X', M', ?_, ?_, ?_, ?_, fun i => ex 22 i 7 (by decide) (by decide) (by decide), by
    show (mi _ _ _ _).1 M.2.2 0 = _
    rw [mi_o (by unfold iV; omega), mi_o (by unfold iV; omega), mi_o (by decide)]⟩
  · unfold f_X1_addVariety
    rw [h.c.2.1.1, if_neg (show ¬ (4 : Int32) ≤ nI nv from nI_ge (b := 4) hn (by decide)), gd_t (nI_in hn (by decide)), nI_clamp (by omega), bnd_s, xs_o (by omega), h.c.2.1.1, show nI nv + 1 = nI (nv + 1) from nI_add nv 1, bnd_s]
    exact eX
  · unfold f_X12_layVariety
    rw [h.c.2.1.2, iv, show nI nv + 1 = nI (nv + 1) from nI_add nv 1, bnd_s, bnd_s, show nI (iV nv 0) + 0 = nI (iV nv 0) from nI_add _ 0, gd_t (nI_in (by unfold iV; omega) (by decide)), nI_clamp (by unfold iV; omega), bnd_s, show nI (iV nv 0) + 1 = nI (iV nv 1) from nI_add _ 1, gd_t (nI_in (by unfold iV; omega) (by decide)), nI_clamp (by unfold iV; omega), bnd_s]
    rfl
  · refine ⟨fun k j' i f q => ?_, (UB.m (UB.m (UB.m ub_no)) : UB X M j X M').2⟩
    rw [hx k j' i f (by omega)]
    show xs _ _ _ _ _ _ k j' i f = _
    rw [xs_o (by omega), xs_o (by omega)]
  · have er : ∀ q, q ≠ 4 → q ≠ iV nv 0 → q ≠ iV nv 1 → M'.1 M.2.2 q = M.1 M.2.2 q := fun q p1 p2 p3 => by
      show (mi _ _ _ _).1 M.2.2 q = _
      rw [mi_o p3, mi_o p2, mi_o p1]
    have e4 : M'.1 M.2.2 4 = nI (nv + 1) := by
      show (mi _ _ _ _).1 M.2.2 _ = _
      rw [mi_o (by unfold iV; omega), mi_o (by unfold iV; omega), mi_i]
    have ea : M'.1 M.2.2 (iV nv 0) = b := by
      show (mi _ _ _ _).1 M.2.2 _ = _
      rw [mi_o (by unfold iV; omega), mi_i]
    have eb : M'.1 M.2.2 (iV nv 1) = c := mi_i
    have hzv : ∀ g, g < 4 → M.1 M.2.2 (iV nv (2 + g)) = 0 := fun g hg => h.zv (Nat.le_refl _) hn hg
    obtain ⟨⟨b1, b2, b3, b4, b5, b6, b7⟩, hc', m, h1, h2, h3, h4, h5, h6, h7, h8, h9⟩ := h
    show BRn X' j (M'.1 M.2.2) _ _ _ _ _ _ _
    generalize M'.1 M.2.2 = r' at er e4 ea eb ⊢
    have em : ∀ q, q ≠ 4 → (q < 16 ∨ 40 ≤ q) → r' q = M.1 M.2.2 q := fun q p1 p2 => er q p1 (by unfold iV; omega) (by unfold iV; omega)
    refine ⟨⟨b1, by omega, b3, b4, b5, b6, b7⟩, ?_, ?_, ?_, ?_, ?_, ?_, ?_, ?_, ?_, ?_, ?_⟩
    · rw [ex 15 _ _ (by decide) (by decide) (by decide), ex 15 _ _ (by decide) (by decide) (by decide), ex 20 _ _ (by decide) (by decide) (by decide), ex 23 _ _ (by decide) (by decide) (by decide), ex 23 _ _ (by decide) (by decide) (by decide), x114, x113, e4, em 3 (by decide) (by decide), em 5 (by decide) (by decide), em 6 (by decide) (by decide), em 7 (by decide) (by decide), em 8 (by decide) (by decide), em 9 (by decide) (by decide)]
      exact ⟨hc'.1, ⟨rfl, rfl⟩, hc'.2.2⟩
    · rw [ex 10 _ _ (by decide) (by decide) (by decide), ex 10 _ _ (by decide) (by decide) (by decide), ex 10 _ _ (by decide) (by decide) (by decide), psum_eq (X := X) (j := j) nl (fun i _ => ex 22 _ _ (by decide) (by decide) (by decide)), em 1 (by decide) (by decide), em 10 (by decide) (by decide), em 2 (by decide) (by decide), em 11 (by decide) (by decide), sgT_same (fun k hk => em _ (by unfold iT; omega) (by unfold iT; omega))]
      exact m
    · exact cl_eq h1 b1 (fun f => ex 12 _ _ (by decide) (by decide) (by decide)) (fun q q1 q2 => em q (by omega) (by omega))
    · intro k hk
      unfold VR
      by_cases d : k = nv
      · subst d
        rw [x13, if_pos rfl, ea, eb]
        refine ⟨hw, fun g hg => ⟨0, by decide, (hz g hg).trans rfl, ?_⟩⟩
        rw [er _ (by unfold iV; omega) (by unfold iV; omega) (by unfold iV; omega), hzv g (by omega)]
        rfl
      · obtain ⟨v1, v2⟩ := h2 k (by omega)
        rw [x13, if_neg d, er (iV k 0) (by unfold iV; omega) (by unfold iV; omega) (by unfold iV; omega), er (iV k 1) (by unfold iV; omega) (by unfold iV; omega) (by unfold iV; omega)]
        refine ⟨v1, fun g hg => ?_⟩
        rw [x14 _ (by omega), er _ (by unfold iV; omega) (by unfold iV; omega) (by unfold iV; omega)]
        exact v2 g hg
    · exact gr_eq h3 b3 (fun f => ex 16 _ _ (by decide) (by decide) (by decide)) (fun q q1 q2 => em q (by omega) (by omega))
    · exact fun k hk => (pr_eq h4 b4 (fun f => ex 17 _ _ (by decide) (by decide) (by decide)) (fun f => ex 18 _ _ (by decide) (by decide) (by decide)) (fun f => ex 19 _ _ (by decide) (by decide) (by decide)) (em 0 (by decide) (by decide)) (fun q q1 q2 => em q (by omega) (by omega)) k hk).mono (Nat.le_refl _) (by omega)
    · exact fun k hk => lr_eq (h5 k hk) (fun f => ex 17 _ _ (by decide) (by decide) (by decide)) (fun f => ex 18 _ _ (by decide) (by decide) (by decide)) (fun f => ex 22 _ _ (by decide) (by decide) (by decide)) (fun w hw => em _ (by unfold iL; omega) (by unfold iL; omega))
    · exact fun k hk => (tr_eq (h6 k hk) (fun f => ex 26 _ _ (by decide) (by decide) (by decide)) (fun w hw => em _ (by unfold iT; omega) (by unfold iT; omega))).mono (by omega)
    · exact fun k hk => (or_eq (h7 k hk) (fun f => ex 27 _ _ (by decide) (by decide) (by decide)) (fun w hw => em _ (by unfold iB; omega) (by unfold iB; omega))).mono (by omega)
    · intro k q1 q2
      rw [em _ (by unfold iT; omega) (by unfold iT; omega), em _ (by unfold iT; omega) (by unfold iT; omega)]
      exact h8 k q1 q2
    · intro k q1 q2 g hg
      rw [er _ (by unfold iV; omega) (by unfold iV; omega) (by unfold iV; omega)]
      exact h9 k (by omega) q2 g hg
end VARI
set_option maxRecDepth 20000 in
/-- an empty book -/
theorem empty_ {X : XT} {j : Nat} {r : Nat → Int32} {ca : Nat} (hca : ca ≤ 99999) (x : X 11 j 0 3 = 0 ∧ X 11 j 0 4 = 0 ∧ X 15 j 0 4 = 0 ∧ X 15 j 0 5 = 0 ∧ X 20 j 0 1 = 0 ∧ X 23 j 0 2 = 0 ∧ X 23 j 0 3 = 0) (c : X 10 j 0 4 = nI ca ∧ X 10 j 0 5 = 0 ∧ X 10 j 0 6 = nI ca) (r1 : r 1 = nI ca) (r2 : r 2 = nI ca) (rz : ∀ q, 3 ≤ q → q < 264 → r q = 0) : BRn X j r 0 0 0 0 0 0 0 := by
  have no : ∀ {P : Nat → Prop} (k : Nat), k < 0 → P k := fun k hk => absurd hk (Nat.not_lt_zero _)
  refine ⟨⟨by decide, by decide, by decide, by decide, by decide, by decide, by decide⟩, ⟨⟨x.1, rz 3 (by decide) (by decide)⟩, ⟨x.2.1, rz 4 (by decide) (by decide)⟩, ⟨x.2.2.1, rz 5 (by decide) (by decide)⟩, ⟨x.2.2.2.1, rz 6 (by decide) (by decide)⟩, ⟨x.2.2.2.2.1, rz 7 (by decide) (by decide)⟩, ⟨x.2.2.2.2.2.1, rz 8 (by decide) (by decide)⟩, ⟨x.2.2.2.2.2.2, rz 9 (by decide) (by decide)⟩⟩, ⟨c.1.trans r1.symm, c.2.1.trans (rz 10 (by decide) (by decide)).symm, c.2.2.trans r2.symm, ⟨ca, by omega, r2⟩, rz 11 (by decide) (by decide), ?_⟩, no, no, no, no, no, no, no, fun k _ hk => ⟨rz _ (by unfold iT; omega) (by unfold iT; omega), rz _ (by unfold iT; omega) (by unfold iT; omega)⟩, fun k _ hk g hg => rz _ (by unfold iV; omega) (by unfold iV; omega)⟩
  unfold sgT
  rw [rz (iT 0 3) (by decide) (by decide), rz (iT 1 3) (by decide) (by decide), rz (iT 2 3) (by decide) (by decide), rz (iT 3 3) (by decide) (by decide), rz (iT 4 3) (by decide) (by decide)]
  decide
