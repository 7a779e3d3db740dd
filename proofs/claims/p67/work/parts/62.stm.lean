/-! PURE: the statements of a text, read into the draft -/
/-- the draft holds this much of what D tells; vn, gn: the names; P: the prices -/
def DV (X : XT) (D : NF) (vn gn : Nat → Int32) (P : Nat → Nat) (nc nv ng np nt : Nat) : Prop :=
  (nc ≤ 4 ∧ nv ≤ 4 ∧ ng ≤ 6 ∧ np ≤ 8 ∧ nt ≤ 5) ∧
  (X 11 0 0 3 = nI nc ∧ X 11 0 0 4 = nI nv ∧ X 15 0 0 4 = nI ng ∧ X 15 0 0 5 = nI np ∧ X 20 0 0 1 = 0 ∧ X 23 0 0 2 = nI nt ∧ X 23 0 0 3 = 0) ∧
  (X 10 0 0 4 = nI (D 0 5) ∧ X 10 0 0 5 = 0 ∧ X 10 0 0 6 = nI (D 0 5) ∧ X 1 0 0 2 = nI (D 0 6)) ∧
  (∀ k, k < nc → X 12 0 0 k = nI (D 1 k)) ∧ (∀ v, v < nv → X 13 0 0 v = vn v) ∧ (∀ g, g < ng → X 16 0 0 g = gn g) ∧
  (∀ v, v < nv → ∀ g, g < nc → X 14 0 0 (v * 4 + g) = nI (P (v * 4 + g))) ∧
  (∀ p, p < np → X 17 0 0 p = nI (D 2 p) ∧ X 18 0 0 p = nI (D 3 p) ∧ X 19 0 0 p = nI (D 4 p)) ∧
  (∀ t, t < nt → X 26 0 t 0 = nI (D 5 t) ∧ X 26 0 t 1 = 0 ∧ X 26 0 t 2 = -1 ∧ X 26 0 t 3 = 0)
/-- all else is as before -/
def FO (X0 X : XT) : Prop := (∀ k j i f, k ≠ 1 → k ≠ 2 → k ≠ 3 → (j ≠ 0 ∨ k < 10) → X k j i f = X0 k j i f) ∧ (∀ i, i < 20 → X 22 0 i 7 = 0 ∨ X 22 0 i 7 = 1) ∧ X 1 0 0 3 = 0 ∧ X 1 0 0 4 = -1
def DS (X0 X : XT) (T w r : List Int32) (D : NF) (vn gn : Nat → Int32) (P : Nat → Nat) (nc nv ng np nt : Nat) : Prop := AT X T w r ∧ DV X D vn gn P nc nv ng np nt ∧ FO X0 X
/-- what follows begins with the token w, or it is the end -/
def NX (rest w r : List Int32) : Prop := (rest = w ++ r ∧ wd 2 w ∧ hd 2 r) ∨ (rest = [] ∧ w = [] ∧ r = [])
def nmw (nm : List Int32) (a : Int32) : Prop := wd 2 nm ∧ nm.length ≤ 4 ∧ namL nm = a ∧ a ≠ 0
section STM
variable {X X0 X' : XT} {T w r w' r' rest nm : List Int32} {D : NF} {vn gn : Nat → Int32} {P : Nat → Nat} {nc nv ng np nt : Nat}
set_option maxRecDepth 20000 in
theorem DV.eq (h : DV X D vn gn P nc nv ng np nt) (e : ∀ k i f, (10 ≤ k ∨ k = 1) → X' k 0 i f = X k 0 i f) : DV X' D vn gn P nc nv ng np nt := by
  have e10 : ∀ k i f, 10 ≤ k → X' k 0 i f = X k 0 i f := fun k i f q => e k i f (Or.inl q)
  obtain ⟨h1, h2, h3, h4, h5, h6, h7, h8, h9⟩ := h
  refine ⟨h1, ?_, ?_, fun k hk => ?_, fun k hk => ?_, fun k hk => ?_, fun v hv g hg => ?_, fun k hk => ?_, fun k hk => ?_⟩
  · rw [e10 _ _ _ (by decide), e10 _ _ _ (by decide), e10 _ _ _ (by decide), e10 _ _ _ (by decide), e10 _ _ _ (by decide), e10 _ _ _ (by decide), e10 _ _ _ (by decide)]; exact h2
  · rw [e10 _ _ _ (by decide), e10 _ _ _ (by decide), e10 _ _ _ (by decide), e 1 _ _ (Or.inr rfl)]; exact h3
  · rw [e10 _ _ _ (by decide)]; exact h4 k hk
  · rw [e10 _ _ _ (by decide)]; exact h5 k hk
  · rw [e10 _ _ _ (by decide)]; exact h6 k hk
  · rw [e10 _ _ _ (by decide)]; exact h7 v hv g hg
  · rw [e10 _ _ _ (by decide), e10 _ _ _ (by decide), e10 _ _ _ (by decide)]; exact h8 k hk
  · rw [e10 _ _ _ (by decide), e10 _ _ _ (by decide), e10 _ _ _ (by decide), e10 _ _ _ (by decide)]; exact h9 k hk
set_option maxRecDepth 20000 in
theorem DV.fr (h : DV X D vn gn P nc nv ng np nt) (g : FR X X') : DV X' D vn gn P nc nv ng np nt := h.eq fun k i f q => g k 0 i f (Or.inl (by omega))
set_option maxRecDepth 20000 in
theorem FO.fr (h : FO X0 X) (g : FR X X') : FO X0 X' := by
  obtain ⟨h1, h2, h3, h4⟩ := h
  refine ⟨fun k j i f a b c d => (g k j i f (Or.inl b)).trans (h1 k j i f a b c d), fun i hi => ?_, (g _ _ _ _ (Or.inl (by decide))).trans h3, (g _ _ _ _ (Or.inl (by decide))).trans h4⟩
  rw [g 22 0 i 7 (Or.inl (by decide))]
  exact h2 i hi
set_option maxRecDepth 20000 in
/-- a change of the draft alone -/
theorem FO.up (h : FO X0 X) (e : ∀ k j i f, (j ≠ 0 ∨ k < 10) → X' k j i f = X k j i f) (fl : ∀ i, i < 20 → X' 22 0 i 7 = X 22 0 i 7) : FO X0 X' := by
  obtain ⟨h1, h2, h3, h4⟩ := h
  refine ⟨fun k j i f a b c d => (e k j i f d).trans (h1 k j i f a b c d), fun i hi => ?_, (e _ _ _ _ (Or.inr (by decide))).trans h3, (e _ _ _ _ (Or.inr (by decide))).trans h4⟩
  rw [fl i hi]
  exact h2 i hi
set_option maxRecDepth 20000 in
theorem at_nx {w0 : List Int32} (h : AT X T w0 rest) (n : NX rest w r) : ∃ X', f_X10_toNext X = some X' ∧ AT X' T w r ∧ FR X X' := by
  rcases n with ⟨e, h1, h2⟩ | ⟨e1, e2, e3⟩
  · subst e
    exact at_run (sp := []) h (fun x hx => absurd hx List.not_mem_nil) h1 h2
  · subst e1 e2 e3
    exact at_end h
set_option maxRecDepth 20000 in
theorem hd_semi (c : Int32) (hc : c = 2 ∨ c = 3) (rest : List Int32) : hd c ([59] ++ rest) := by
  intro x t e
  have : x = 59 := by
    have := congrArg List.head? e
    simp at this
    exact this.symm
  rw [this]
  rcases hc with q | q <;> rw [q] <;> decide
set_option maxRecDepth 20000 in
theorem hd_sp (c : Int32) (hc : c = 2 ∨ c = 3) (rest : List Int32) : hd c ([32] ++ rest) := by
  intro x t e
  have : x = 32 := by
    have := congrArg List.head? e
    simp at this
    exact this.symm
  rw [this]
  rcases hc with q | q <;> rw [q] <;> decide
set_option maxRecDepth 20000 in
theorem sp32 : ∀ x ∈ ([32] : List Int32), kb x = 1 := by decide
set_option maxRecDepth 20000 in
theorem p_semi (h : AT X T [59] rest) (n : NX rest w r) : ∃ X', f_X8_readSemicolon X = some (1, X') ∧ AT X' T w r ∧ FR X X' := by
  obtain ⟨X', a, b, c⟩ := at_nx h n
  have k4 : X 2 0 0 2 = 4 := h.kind
  refine ⟨X', ?_, b, c⟩
  unfold f_X8_readSemicolon f_X8_isSemicolonHere
  rw [if_pos k4, bn2_s, if_neg (by decide), a, bn1_s]
set_option maxRecDepth 20000 in
theorem p_num {n : Nat} (h : AT X T (decL n) r) (hn : n < 100000) {lo hi : Int32} (h1 : ¬ nI n < lo) (h2 : nI n ≤ hi) (e : f_X10_toNext X = some X') : f_X8_readNumber X lo hi = some (nI n, X') := by
  obtain ⟨q1, q2, -⟩ := h.wk (dec_wd n)
  have q2 := (q2 rfl).trans (dec_num hn)
  unfold f_X8_readNumber f_X8_isNumberHere
  rw [if_pos q1, q2, if_neg h1, if_pos h2, bn2_s, if_neg (by decide), e, bn1_s, q2]
set_option maxRecDepth 20000 in
theorem vN (hn : X 11 0 0 4 = nI nv) (h4 : nv ≤ 4) {v : Nat} (hv : v < nv) {a : Int32} (ha : X 13 0 0 v = a) (hne : ∀ i, i < v → ¬ X 13 0 0 i = a) : f_X1_varietyNamed X 0 a = some (nI v) := by
  have go : ∀ d i f, i + d = v → d < f → f_X1_varietyNamed_2 X 0 a f (nI i) = some (nI v) := by
    intro d
    induction d with
    | zero =>
      intro i f hi hf
      obtain ⟨f, rfl⟩ := fuel hf
      obtain rfl : i = v := by omega
      rw [f_X1_varietyNamed_2, hn, if_neg (nI_ge (by omega) (by omega)), gd_t (nI_in (by omega) (by decide)), nI_clamp (by omega), if_pos ha]
    | succ d ih =>
      intro i f hi hf
      obtain ⟨f, rfl⟩ := fuel hf
      rw [f_X1_varietyNamed_2, hn, if_neg (nI_ge (by omega) (by omega)), gd_t (nI_in (by omega) (by decide)), nI_clamp (by omega), if_neg (hne i (by omega)), show nI i + 1 = nI (i + 1) from nI_add i 1]
      exact ih (i + 1) f (by omega) (by omega)
  exact go v 0 2000 (by omega) (by omega)
set_option maxRecDepth 20000 in
theorem vN0 (hn : X 11 0 0 4 = nI nv) (h4 : nv ≤ 4) {a : Int32} (hne : ∀ i, i < nv → ¬ X 13 0 0 i = a) : f_X1_varietyNamed X 0 a = some (-1) := by
  have go : ∀ d i f, i + d = nv → d < f → f_X1_varietyNamed_2 X 0 a f (nI i) = some (-1) := by
    intro d
    induction d with
    | zero =>
      intro i f hi hf
      obtain ⟨f, rfl⟩ := fuel hf
      rw [f_X1_varietyNamed_2, hn, if_pos (nI_le (by omega) (by omega))]
    | succ d ih =>
      intro i f hi hf
      obtain ⟨f, rfl⟩ := fuel hf
      rw [f_X1_varietyNamed_2, hn, if_neg (nI_ge (by omega) (by omega)), gd_t (nI_in (by omega) (by decide)), nI_clamp (by omega), if_neg (hne i (by omega)), show nI i + 1 = nI (i + 1) from nI_add i 1]
      exact ih (i + 1) f (by omega) (by omega)
  exact go nv 0 2000 (by omega) (by omega)
set_option maxRecDepth 20000 in
theorem gN (hn : X 15 0 0 4 = nI ng) (h4 : ng ≤ 6) {v : Nat} (hv : v < ng) {a : Int32} (ha : X 16 0 0 v = a) (hne : ∀ i, i < v → ¬ X 16 0 0 i = a) : f_X5_growerNamed X 0 a = some (nI v) := by
  have go : ∀ d i f, i + d = v → d < f → f_X5_growerNamed_2 X 0 a f (nI i) = some (nI v) := by
    intro d
    induction d with
    | zero =>
      intro i f hi hf
      obtain ⟨f, rfl⟩ := fuel hf
      obtain rfl : i = v := by omega
      rw [f_X5_growerNamed_2, hn, if_neg (nI_ge (by omega) (by omega)), gd_t (nI_in (by omega) (by decide)), nI_clamp (by omega), if_pos ha]
    | succ d ih =>
      intro i f hi hf
      obtain ⟨f, rfl⟩ := fuel hf
      rw [f_X5_growerNamed_2, hn, if_neg (nI_ge (by omega) (by omega)), gd_t (nI_in (by omega) (by decide)), nI_clamp (by omega), if_neg (hne i (by omega)), show nI i + 1 = nI (i + 1) from nI_add i 1]
      exact ih (i + 1) f (by omega) (by omega)
  exact go v 0 2000 (by omega) (by omega)
set_option maxRecDepth 20000 in
theorem gN0 (hn : X 15 0 0 4 = nI ng) (h4 : ng ≤ 6) {a : Int32} (hne : ∀ i, i < ng → ¬ X 16 0 0 i = a) : f_X5_growerNamed X 0 a = some (-1) := by
  have go : ∀ d i f, i + d = ng → d < f → f_X5_growerNamed_2 X 0 a f (nI i) = some (-1) := by
    intro d
    induction d with
    | zero =>
      intro i f hi hf
      obtain ⟨f, rfl⟩ := fuel hf
      rw [f_X5_growerNamed_2, hn, if_pos (nI_le (by omega) (by omega))]
    | succ d ih =>
      intro i f hi hf
      obtain ⟨f, rfl⟩ := fuel hf
      rw [f_X5_growerNamed_2, hn, if_neg (nI_ge (by omega) (by omega)), gd_t (nI_in (by omega) (by decide)), nI_clamp (by omega), if_neg (hne i (by omega)), show nI i + 1 = nI (i + 1) from nI_add i 1]
      exact ih (i + 1) f (by omega) (by omega)
  exact go ng 0 2000 (by omega) (by omega)
set_option maxRecDepth 20000 in
/-- a new name is read -/
theorem p_nnm (h : AT X T nm ([59] ++ rest)) {a : Int32} (n : nmw nm a) (d : DV X D vn gn P nc nv ng np nt) (n1 : ∀ i, i < nv → vn i ≠ a) (n2 : ∀ i, i < ng → gn i ≠ a) : ∃ X', f_X8_readNewName X = some (a, X') ∧ AT X' T [59] rest ∧ FR X X' := by
  obtain ⟨m1, m2, m3, m4⟩ := n
  obtain ⟨X', a1, a2, a3⟩ := at_semi (sp := []) h (fun x hx => absurd hx List.not_mem_nil)
  obtain ⟨q1, -, q3⟩ := h.wk m1
  have q3 := (q3 rfl m2).trans m3
  obtain ⟨b, c, -, -, e5, e6, -⟩ := d
  refine ⟨X', ?_, a2, a3⟩
  unfold f_X8_readNewName f_X8_isWordHere f_X0_isNameTaken
  rw [if_pos q1, bn2_s, if_neg (by decide), q3, if_neg m4, vN0 c.2.1 b.2.1 (fun i hi => by rw [e5 i hi]; exact n1 i hi), bn1_s, if_pos rfl, gN0 c.2.2.1 b.2.2.1 (fun i hi => by rw [e6 i hi]; exact n2 i hi), bn1_s, if_pos rfl, bn1_s, if_pos rfl, a1, bn1_s]
set_option maxRecDepth 20000 in
/-- a name of a variety is read -/
theorem p_var {a : Int32} (h : AT X T nm ([32] ++ rest)) (n : nmw nm a) (d : DV X D vn gn P nc nv ng np nt) {v : Nat} (hv : v < nv) (ha : vn v = a) (hne : ∀ i, i < v → vn i ≠ a) (e : f_X10_toNext X = some X') : f_X8_readVarietyName X = some (nI v, X') := by
  obtain ⟨m1, m2, m3, m4⟩ := n
  obtain ⟨q1, -, q3⟩ := h.wk m1
  have q3 := (q3 rfl m2).trans m3
  obtain ⟨b, c, -, -, e5, e6, -⟩ := d
  unfold f_X8_readVarietyName f_X8_isWordHere
  rw [if_pos q1, bn2_s, if_neg (by decide), q3, vN c.2.1 b.2.1 hv (by rw [e5 v hv]; exact ha) (fun i hi => by rw [e5 i (by omega)]; exact hne i hi), bn1_s, if_neg (nI_m1 (by omega)), e, bn1_s]
set_option maxRecDepth 20000 in
theorem p_gro {a : Int32} (h : AT X T nm ([32] ++ rest)) (n : nmw nm a) (d : DV X D vn gn P nc nv ng np nt) {v : Nat} (hv : v < ng) (ha : gn v = a) (hne : ∀ i, i < v → gn i ≠ a) (e : f_X10_toNext X = some X') : f_X8_readGrowerName X = some (nI v, X') := by
  obtain ⟨m1, m2, m3, m4⟩ := n
  obtain ⟨q1, -, q3⟩ := h.wk m1
  have q3 := (q3 rfl m2).trans m3
  obtain ⟨b, c, -, -, e5, e6, -⟩ := d
  unfold f_X8_readGrowerName f_X8_isWordHere
  rw [if_pos q1, bn2_s, if_neg (by decide), q3, gN c.2.2.1 b.2.2.1 hv (by rw [e6 v hv]; exact ha) (fun i hi => by rw [e6 i (by omega)]; exact hne i hi), bn1_s, if_neg (nI_m1 (by omega)), e, bn1_s]
set_option maxRecDepth 20000 in
theorem adv_ (h4 : nv < 4) (hc : nc ≤ 4) : ∀ d g f (Y : XT), Y 11 0 0 3 = nI nc → Y 11 0 0 4 = nI (nv + 1) → g + d = nc → d < f → ∃ Y', f_X1_addVariety_32 0 (nI nv) f Y (nI g) = some Y' ∧ (∀ k j i q, ¬ (k = 14 ∧ j = 0 ∧ i = 0 ∧ nv * 4 + g ≤ q ∧ q < nv * 4 + nc) → Y' k j i q = Y k j i q) ∧ (∀ q, g ≤ q → q < nc → Y' 14 0 0 (nv * 4 + q) = 0) := by
  intro d
  induction d with
  | zero =>
    intro g f Y y3 y4 hg hf
    obtain ⟨f, rfl⟩ := fuel hf
    refine ⟨Y, ?_, fun _ _ _ _ _ => rfl, fun q h1 h2 => by omega⟩
    rw [f_X1_addVariety_32, y3, if_pos (nI_le (by omega) (by omega))]
  | succ d ih =>
    intro g f Y y3 y4 hg hf
    obtain ⟨f, rfl⟩ := fuel hf
    obtain ⟨Y', e1, e2, e3⟩ := ih (g + 1) f (xs Y 14 0 0 (nv * 4 + g) 0) ((xs_o (by omega)).trans y3) ((xs_o (by omega)).trans y4) (by omega) (by omega)
    have ei : nI nv * 4 + nI g = nI (nv * 4 + g) := by rw [show (4 : Int32) = nI 4 from rfl, pk_mul, nI_add]
    refine ⟨Y', ?_, fun k j i q n => ?_, fun q h1 h2 => ?_⟩
    · rw [f_X1_addVariety_32, y3, if_neg (nI_ge (by omega) (by omega))]
      unfold f_X1_putPrice f_X1_hasVariety f_X1_hasGrade
      rw [if_neg (nI_pos (by omega)), y4, if_neg (nI_ge (by omega) (by omega)), bn1_s, if_neg (by decide), if_neg (nI_pos (by omega)), y3, if_neg (nI_ge (by omega) (by omega)), bn1_s, if_neg (by decide), ei, gd_t (nI_in (by omega) (by decide)), nI_clamp (by omega), bnd_s, bn1_s, nI_1]
      exact e1
    · rw [e2 k j i q (by omega), xs_o (by omega)]
    · by_cases c : q = g
      · subst c
        rw [e2 14 0 0 _ (by omega), xs_i]
      · exact e3 q (by omega) h2
set_option maxRecDepth 20000 in
theorem stm_v (h : DS X0 X T (strB.getD 2 []) ([32] ++ (nm ++ ([59] ++ rest))) D vn gn P nc nv ng np nt) (hv : nv < 4) (n : nmw nm (vn nv)) (n1 : ∀ i, i < nv → vn i ≠ vn nv) (n2 : ∀ i, i < ng → gn i ≠ vn nv) (hP : ∀ g, g < 4 → P (nv * 4 + g) = 0) (hx : NX rest w r) : ∃ X', f_X8_readStatement X = some (1, X') ∧ DS X0 X' T w r D vn gn P nc (nv + 1) ng np nt := by
  obtain ⟨ha, hd, ho⟩ := h
  obtain ⟨X1, e1, a1, f1⟩ := at_run (sp := [32]) ha sp32 n.1 (hd_semi 2 (Or.inl rfl) rest)
  have d1 := hd.fr f1
  obtain ⟨X2, e2, a2, f2⟩ := p_nnm a1 n d1 n1 n2
  have d2 := d1.fr f2
  have o2 := (ho.fr f1).fr f2
  have d2' := d2
  obtain ⟨b, c, m, c1, c2, c3, c4, c5, c6⟩ := d2'
  obtain ⟨X3, e3, g1, g2⟩ := adv_ (nv := nv) (nc := nc) hv b.1 nc 0 2000 (xs (xs X2 13 0 0 nv (vn nv)) 11 0 0 4 (nI (nv + 1))) (by rw [xs_o (by omega), xs_o (by omega)]; exact c.1) xs_i (by omega) (by omega)
  have go : ∀ k j i q, ¬ (k = 13 ∧ j = 0 ∧ i = 0 ∧ q = nv) → ¬ (k = 11 ∧ j = 0 ∧ q = 4) → ¬ (k = 14 ∧ j = 0 ∧ nv * 4 ≤ q) → X3 k j i q = X2 k j i q := fun k j i q q1 q2 q3 => by
    rw [g1 k j i q (by omega), xs_o (by omega), xs_o (by omega)]
  have a3 : AT X3 T [59] rest := a2.up (fun f => go 2 0 0 f (by omega) (by omega) (by omega)) (fun i => go 3 0 0 i (by omega) (by omega) (by omega))
  obtain ⟨X4, e4, a4, f4⟩ := p_semi a3 hx
  have o3 : FO X0 X3 := o2.up (fun k j i f q => go k j i f (by omega) (by omega) (by omega)) (fun i _ => go 22 0 i 7 (by omega) (by omega) (by omega))
  have d3 : DV X3 D vn gn P nc (nv + 1) ng np nt := by
    refine ⟨⟨b.1, by omega, b.2.2⟩, ?_, ?_, fun k hk => ?_, fun v hv' => ?_, fun g hg => ?_, fun v hv' g hg => ?_, fun p hp => ?_, fun t ht => ?_⟩
    · rw [go 11 0 0 3 (by omega) (by omega) (by omega), g1 11 0 0 4 (by omega), xs_i, go 15 0 0 4 (by omega) (by omega) (by omega), go 15 0 0 5 (by omega) (by omega) (by omega), go 20 0 0 1 (by omega) (by omega) (by omega), go 23 0 0 2 (by omega) (by omega) (by omega), go 23 0 0 3 (by omega) (by omega) (by omega)]
      exact ⟨c.1, rfl, c.2.2⟩
    · rw [go 10 0 0 4 (by omega) (by omega) (by omega), go 10 0 0 5 (by omega) (by omega) (by omega), go 10 0 0 6 (by omega) (by omega) (by omega), go 1 0 0 2 (by omega) (by omega) (by omega)]
      exact m
    · rw [go 12 0 0 k (by omega) (by omega) (by omega)]; exact c1 k hk
    · by_cases q : v = nv
      · rw [q, g1 13 0 0 nv (by omega), xs_o (by omega), xs_i]
      · rw [go 13 0 0 v (by omega) (by omega) (by omega)]; exact c2 v (by omega)
    · rw [go 16 0 0 g (by omega) (by omega) (by omega)]; exact c3 g hg
    · by_cases q : v = nv
      · rw [q, g2 g (by omega) hg, hP g (by omega)]
        rfl
      · rw [go 14 0 0 _ (by omega) (by omega) (by omega)]; exact c4 v (by omega) g hg
    · rw [go 17 0 0 p (by omega) (by omega) (by omega), go 18 0 0 p (by omega) (by omega) (by omega), go 19 0 0 p (by omega) (by omega) (by omega)]; exact c5 p hp
    · rw [go 26 0 t 0 (by omega) (by omega) (by omega), go 26 0 t 1 (by omega) (by omega) (by omega), go 26 0 t 2 (by omega) (by omega) (by omega), go 26 0 t 3 (by omega) (by omega) (by omega)]; exact c6 t ht
  refine ⟨X4, ?_, a4, d3.fr f4, o3.fr f4⟩
  have ev : f_X1_addVariety X2 0 (vn nv) = some X3 := by
    unfold f_X1_addVariety
    rw [c.2.1, if_neg (show ¬ (4 : Int32) ≤ nI nv from nI_ge (b := 4) hv (by decide)), gd_t (nI_in (by omega) (by decide)), nI_clamp (by omega), bnd_s, xs_o (by omega), c.2.1, nI_1, bnd_s]
    exact e3
  unfold f_X8_readStatement f_X8_readVariety
  rw [ha.spl (u := 2) (by decide) (by decide), bn1_s, if_neg (show ¬ (if 2 = 2 then (1 : Int32) else 0) = 0 by decide), hd.2.1.2.1, if_pos (show nI nv < 4 from nI_lt (b := 4) hv (by decide)), e1, bn1_s, e2, bn2_s, if_neg n.2.2.2, ev, bn1_s, e4, bn2_s, gd_t (by decide), bn2_s, gd_t (by decide)]
/-- a price laid into the list -/
def upP (P : Nat → Nat) (q c : Nat) : Nat → Nat := fun i => if i = q then c else P i
set_option maxRecDepth 20000 in
theorem stm_p {g c : Nat} (h : DS X0 X T (strB.getD 3 []) ([32] ++ (nm ++ ([32] ++ (decL g ++ ([32] ++ (decL c ++ ([59] ++ rest))))))) D vn gn P nc nv ng np nt) {v : Nat} (hv : v < nv) (hg : g < nc) (hc : c ≤ 999) {a : Int32} (n : nmw nm a) (ha : vn v = a) (n1 : ∀ i, i < v → vn i ≠ a) (hx : NX rest w r) : ∃ X', f_X8_readStatement X = some (1, X') ∧ DS X0 X' T w r D vn gn (upP P (v * 4 + g) c) nc nv ng np nt := by
  obtain ⟨hat, hd, ho⟩ := h
  have hbb := hd.1
  obtain ⟨X1, e1, a1, f1⟩ := at_run (sp := [32]) hat sp32 n.1 (hd_sp 2 (Or.inl rfl) _)
  obtain ⟨X2, e2, a2, f2⟩ := at_run (sp := [32]) a1 sp32 (dec_wd g) (hd_sp 3 (Or.inr rfl) _)
  obtain ⟨X3, e3, a3, f3⟩ := at_run (sp := [32]) a2 sp32 (dec_wd c) (hd_semi 3 (Or.inr rfl) _)
  obtain ⟨X4, e4, a4, f4⟩ := at_semi (sp := []) a3 (fun x hx => absurd hx List.not_mem_nil)
  have fr := ((f1.tr f2).tr f3).tr f4
  have d1 := hd.fr f1
  have d2 := d1.fr f2
  have d4 := hd.fr fr
  have o4 := ho.fr fr
  have d4' := d4
  obtain ⟨b, cc, m, c1, c2, c3, c4, c5, c6⟩ := d4'
  have a5 : AT (xs X4 14 0 0 (v * 4 + g) (nI c)) T [59] rest := a4.up (fun f => xs_o (by omega)) (fun i => xs_o (by omega))
  obtain ⟨X6, e6, a6, f6⟩ := p_semi a5 hx
  have d5 : DV (xs X4 14 0 0 (v * 4 + g) (nI c)) D vn gn (upP P (v * 4 + g) c) nc nv ng np nt := by
    refine ⟨b, ?_, ?_, fun k hk => ?_, fun v hv' => ?_, fun g hg => ?_, fun v' hv' g' hg' => ?_, fun p hp => ?_, fun t ht => ?_⟩
    · rw [xs_o (by omega), xs_o (by omega), xs_o (by omega), xs_o (by omega), xs_o (by omega), xs_o (by omega), xs_o (by omega)]
      exact cc
    · rw [xs_o (by omega), xs_o (by omega), xs_o (by omega), xs_o (by omega)]
      exact m
    · rw [xs_o (by omega)]; exact c1 k hk
    · rw [xs_o (by omega)]; exact c2 v hv'
    · rw [xs_o (by omega)]; exact c3 g hg
    · unfold upP
      by_cases q : v' * 4 + g' = v * 4 + g
      · rw [q, xs_i, if_pos rfl]
      · rw [xs_o (by omega), if_neg q]; exact c4 v' hv' g' hg'
    · rw [xs_o (by omega), xs_o (by omega), xs_o (by omega)]; exact c5 p hp
    · rw [xs_o (by omega), xs_o (by omega), xs_o (by omega), xs_o (by omega)]; exact c6 t ht
  have o5 : FO X0 (xs X4 14 0 0 (v * 4 + g) (nI c)) := o4.up (fun k j i f q => xs_o (by omega)) (fun i _ => xs_o (by omega))
  refine ⟨X6, ?_, a6, d5.fr f6, o5.fr f6⟩
  have ei : nI v * 4 + nI g = nI (v * 4 + g) := by rw [show (4 : Int32) = nI 4 from rfl, pk_mul, nI_add]
  have eput : f_X1_putPrice X4 0 (nI v) (nI g) (nI c) = some (xs X4 14 0 0 (v * 4 + g) (nI c)) := by
    unfold f_X1_putPrice f_X1_hasVariety f_X1_hasGrade
    rw [if_neg (nI_pos (by omega)), cc.2.1, if_neg (nI_ge hv (by omega)), bn1_s, if_neg (by decide), if_neg (nI_pos (by omega)), cc.1, if_neg (nI_ge hg (by omega)), bn1_s, if_neg (by decide), ei, gd_t (nI_in (by omega) (by decide)), nI_clamp (by omega), bnd_s]
  have e5 := p_var a1 n d1 hv ha n1 e2
  have e7 : f_X8_readNumber X2 0 (X2 11 0 0 3 - 1) = some (nI g, X3) := by
    rw [d2.2.1.1, show nI nc - 1 = nI (nc - 1) from pk_sub (b := 1) (by omega)]
    exact p_num a2 (by omega) (nI_pos (by omega)) (nI_le (by omega) (by omega)) e3
  have e8 : f_X8_readNumber X3 0 999 = some (nI c, X4) := p_num a3 (by omega) (nI_pos (by omega)) (nI_le (b := 999) (by omega) (by decide)) e4
  unfold f_X8_readStatement f_X8_readPrice
  rw [hat.spl (u := 2) (by decide) (by decide), bn1_s, if_pos (show (if 2 = 3 then (1 : Int32) else 0) = 0 by decide), hat.spl (u := 3) (by decide) (by decide), bn1_s, if_neg (show ¬ (if 3 = 3 then (1 : Int32) else 0) = 0 by decide), e1, bn1_s, e5, bn2_s, if_neg (nI_m1 (by omega)), e7, bn2_s, if_neg (nI_m1 (by omega)), e8, bn2_s, if_neg (nI_m1 (by omega)), eput, bn1_s, e6, bn2_s, gd_t (by decide), bn2_s, gd_t (by decide)]
set_option maxRecDepth 20000 in
theorem stm_g (h : DS X0 X T (strB.getD 4 []) ([32] ++ (nm ++ ([59] ++ rest))) D vn gn P nc nv ng np nt) (hg : ng < 6) (n : nmw nm (gn ng)) (n1 : ∀ i, i < nv → vn i ≠ gn ng) (n2 : ∀ i, i < ng → gn i ≠ gn ng) (hx : NX rest w r) : ∃ X', f_X8_readStatement X = some (1, X') ∧ DS X0 X' T w r D vn gn P nc nv (ng + 1) np nt := by
  obtain ⟨ha, hd, ho⟩ := h
  obtain ⟨X1, e1, a1, f1⟩ := at_run (sp := [32]) ha sp32 n.1 (hd_semi 2 (Or.inl rfl) rest)
  have d1 := hd.fr f1
  obtain ⟨X2, e2, a2, f2⟩ := p_nnm a1 n d1 n1 n2
  have d2 := d1.fr f2
  have o2 := (ho.fr f1).fr f2
  obtain ⟨b, c, m, c1, c2, c3, c4, c5, c6⟩ := d2
  obtain ⟨X3, hX3⟩ : ∃ X3, X3 = xs (xs X2 16 0 0 ng (gn ng)) 15 0 0 4 (nI (ng + 1)) := ⟨_, rfl⟩
  have go : ∀ k j i q, ¬ (k = 16 ∧ j = 0 ∧ i = 0 ∧ q = ng) → ¬ (k = 15 ∧ j = 0 ∧ q = 4) → X3 k j i q = X2 k j i q := fun k j i q q1 q2 => by
    rw [hX3, xs_o (by omega), xs_o (by omega)]
  have a3 : AT X3 T [59] rest := a2.up (fun f => go 2 0 0 f (by omega) (by omega)) (fun i => go 3 0 0 i (by omega) (by omega))
  obtain ⟨X4, e4, a4, f4⟩ := p_semi a3 hx
  have o3 : FO X0 X3 := o2.up (fun k j i f q => go k j i f (by omega) (by omega)) (fun i _ => go 22 0 i 7 (by omega) (by omega))
  have d3 : DV X3 D vn gn P nc nv (ng + 1) np nt := by
    refine ⟨⟨b.1, b.2.1, by omega, b.2.2.2⟩, ?_, ?_, fun k hk => ?_, fun v hv' => ?_, fun g hg => ?_, fun v hv' g hg => ?_, fun p hp => ?_, fun t ht => ?_⟩
    · rw [go 11 0 0 3 (by omega) (by omega), go 11 0 0 4 (by omega) (by omega), show X3 15 0 0 4 = nI (ng + 1) by rw [hX3, xs_i], go 15 0 0 5 (by omega) (by omega), go 20 0 0 1 (by omega) (by omega), go 23 0 0 2 (by omega) (by omega), go 23 0 0 3 (by omega) (by omega)]
      exact ⟨c.1, c.2.1, rfl, c.2.2.2⟩
    · rw [go 10 0 0 4 (by omega) (by omega), go 10 0 0 5 (by omega) (by omega), go 10 0 0 6 (by omega) (by omega), go 1 0 0 2 (by omega) (by omega)]
      exact m
    · rw [go 12 0 0 k (by omega) (by omega)]; exact c1 k hk
    · rw [go 13 0 0 v (by omega) (by omega)]; exact c2 v hv'
    · by_cases q : g = ng
      · rw [q, hX3, xs_o (by omega), xs_i]
      · rw [go 16 0 0 g (by omega) (by omega)]; exact c3 g (by omega)
    · rw [go 14 0 0 _ (by omega) (by omega)]; exact c4 v hv' g hg
    · rw [go 17 0 0 p (by omega) (by omega), go 18 0 0 p (by omega) (by omega), go 19 0 0 p (by omega) (by omega)]; exact c5 p hp
    · rw [go 26 0 t 0 (by omega) (by omega), go 26 0 t 1 (by omega) (by omega), go 26 0 t 2 (by omega) (by omega), go 26 0 t 3 (by omega) (by omega)]; exact c6 t ht
  refine ⟨X4, ?_, a4, d3.fr f4, o3.fr f4⟩
  have ev : f_X5_addGrower X2 0 (gn ng) = some X3 := by
    unfold f_X5_addGrower
    rw [c.2.2.1, if_neg (show ¬ (6 : Int32) ≤ nI ng from nI_ge (b := 6) hg (by decide)), gd_t (nI_in (by omega) (by decide)), nI_clamp (by omega), bnd_s, xs_o (by omega), c.2.2.1, nI_1, bnd_s, ← hX3]
  unfold f_X8_readStatement f_X8_readGrower
  rw [ha.spl (u := 2) (by decide) (by decide), bn1_s, if_pos (show (if 2 = 4 then (1 : Int32) else 0) = 0 by decide), ha.spl (u := 3) (by decide) (by decide), bn1_s, if_pos (show (if 3 = 4 then (1 : Int32) else 0) = 0 by decide), ha.spl (u := 4) (by decide) (by decide), bn1_s, if_neg (show ¬ (if 4 = 4 then (1 : Int32) else 0) = 0 by decide), hd.2.1.2.2.1, if_pos (show nI ng < 6 from nI_lt (b := 6) hg (by decide)), e1, bn1_s, e2, bn2_s, if_neg n.2.2.2, ev, bn1_s, e4, bn2_s, gd_t (by decide), bn2_s, gd_t (by decide)]
set_option maxRecDepth 20000 in
theorem stm_l {nm2 : List Int32} {ar : Nat} (h : DS X0 X T (strB.getD 5 []) ([32] ++ (nm ++ ([32] ++ (nm2 ++ ([32] ++ (decL ar ++ ([59] ++ rest))))))) D vn gn P nc nv ng np nt) (hp : np < 8) {o v : Nat} (hov : o < ng) (hv : v < nv) (h1 : 1 ≤ ar) (h9 : ar ≤ 99) {a a2 : Int32} (n : nmw nm a) (n2 : nmw nm2 a2) (ha : gn o = a) (na : ∀ i, i < o → gn i ≠ a) (hb : vn v = a2) (nb : ∀ i, i < v → vn i ≠ a2) (d2 : D 2 np = o) (d3 : D 3 np = v) (d4 : D 4 np = ar * D 0 6) (hx : NX rest w r) : ∃ X', f_X8_readStatement X = some (1, X') ∧ DS X0 X' T w r D vn gn P nc nv ng (np + 1) nt := by
  obtain ⟨hat, hd, ho⟩ := h
  have hbb := hd.1
  obtain ⟨X1, e1, a1, f1⟩ := at_run (sp := [32]) hat sp32 n.1 (hd_sp 2 (Or.inl rfl) _)
  obtain ⟨X2, e2, a2', f2⟩ := at_run (sp := [32]) a1 sp32 n2.1 (hd_sp 2 (Or.inl rfl) _)
  obtain ⟨X3, e3, a3, f3⟩ := at_run (sp := [32]) a2' sp32 (dec_wd ar) (hd_semi 3 (Or.inr rfl) _)
  obtain ⟨X4, e4, a4, f4⟩ := at_semi (sp := []) a3 (fun x hx => absurd hx List.not_mem_nil)
  have fr := ((f1.tr f2).tr f3).tr f4
  have e5 := p_gro a1 n (hd.fr f1) hov ha na e2
  have e6 := p_var a2' n2 ((hd.fr f1).fr f2) hv hb nb e3
  have e8 : f_X8_readNumber X3 1 99 = some (nI ar, X4) := p_num a3 (by omega) (show ¬ nI ar < 1 from nI_nlt (b := 1) h1 (by omega)) (nI_le (b := 99) (by omega) (by decide)) e4
  have o4 := ho.fr fr
  obtain ⟨b, c, m, c1, c2, c3, c4, c5, c6⟩ := hd.fr fr
  obtain ⟨X5, hX5⟩ : ∃ X5, X5 = xs (xs (xs (xs X4 17 0 0 np (nI o)) 18 0 0 np (nI v)) 19 0 0 np (nI (ar * D 0 6))) 15 0 0 5 (nI (np + 1)) := ⟨_, rfl⟩
  have go : ∀ k j i q, ¬ (17 ≤ k ∧ k ≤ 19 ∧ j = 0 ∧ q = np) → ¬ (k = 15 ∧ j = 0 ∧ q = 5) → X5 k j i q = X4 k j i q := fun k j i q q1 q2 => by
    rw [hX5, xs_o (by omega), xs_o (by omega), xs_o (by omega), xs_o (by omega)]
  have a5 : AT X5 T [59] rest := a4.up (fun f => go 2 0 0 f (by omega) (by omega)) (fun i => go 3 0 0 i (by omega) (by omega))
  obtain ⟨X6, e7, a6, f6⟩ := p_semi a5 hx
  have o5 : FO X0 X5 := o4.up (fun k j i f q => go k j i f (by omega) (by omega)) (fun i _ => go 22 0 i 7 (by omega) (by omega))
  have d5 : DV X5 D vn gn P nc nv ng (np + 1) nt := by
    refine ⟨⟨b.1, b.2.1, b.2.2.1, by omega, b.2.2.2.2⟩, ?_, ?_, fun k hk => ?_, fun v hv' => ?_, fun g hg => ?_, fun v hv' g hg => ?_, fun p hp => ?_, fun t ht => ?_⟩
    · rw [go 11 0 0 3 (by omega) (by omega), go 11 0 0 4 (by omega) (by omega), go 15 0 0 4 (by omega) (by omega), show X5 15 0 0 5 = nI (np + 1) by rw [hX5, xs_i], go 20 0 0 1 (by omega) (by omega), go 23 0 0 2 (by omega) (by omega), go 23 0 0 3 (by omega) (by omega)]
      exact ⟨c.1, c.2.1, c.2.2.1, rfl, c.2.2.2.2⟩
    · rw [go 10 0 0 4 (by omega) (by omega), go 10 0 0 5 (by omega) (by omega), go 10 0 0 6 (by omega) (by omega), go 1 0 0 2 (by omega) (by omega)]
      exact m
    · rw [go 12 0 0 k (by omega) (by omega)]; exact c1 k hk
    · rw [go 13 0 0 v (by omega) (by omega)]; exact c2 v hv'
    · rw [go 16 0 0 g (by omega) (by omega)]; exact c3 g hg
    · rw [go 14 0 0 _ (by omega) (by omega)]; exact c4 v hv' g hg
    · by_cases q : p = np
      · rw [q, hX5, xs_o (by omega), xs_o (by omega), xs_o (by omega), xs_i, xs_o (by omega), xs_o (by omega), xs_i, xs_o (by omega), xs_i, d2, d3, d4]
        exact ⟨rfl, rfl, rfl⟩
      · rw [go 17 0 0 p (by omega) (by omega), go 18 0 0 p (by omega) (by omega), go 19 0 0 p (by omega) (by omega)]; exact c5 p (by omega)
    · rw [go 26 0 t 0 (by omega) (by omega), go 26 0 t 1 (by omega) (by omega), go 26 0 t 2 (by omega) (by omega), go 26 0 t 3 (by omega) (by omega)]; exact c6 t ht
  refine ⟨X6, ?_, a6, d5.fr f6, o5.fr f6⟩
  have ev : f_X5_addPlot X4 0 (nI o) (nI v) (nI ar * X4 1 0 0 2) = some X5 := by
    unfold f_X5_addPlot
    have i1 : xs X4 17 0 0 np (nI o) 15 0 0 5 = nI np := (xs_o (by omega)).trans c.2.2.2.1
    have i2 : xs (xs X4 17 0 0 np (nI o)) 18 0 0 np (nI v) 15 0 0 5 = nI np := (xs_o (by omega)).trans i1
    have i3 : ∀ z : Int32, xs (xs (xs X4 17 0 0 np (nI o)) 18 0 0 np (nI v)) 19 0 0 np z 15 0 0 5 = nI np := fun z => (xs_o (by omega)).trans i2
    have hg : ¬ (nI np < 0 ∨ 8 ≤ (nI np).toNatClampNeg) := nI_in (by omega) (by decide)
    have hcl : (nI np).toNatClampNeg = np := nI_clamp (by omega)
    rw [m.2.2.2, pk_mul, c.2.2.2.1, if_neg (show ¬ (8 : Int32) ≤ nI np from nI_ge (b := 8) hp (by decide)), gd_t hg, hcl, bnd_s, i1, gd_t hg, hcl, bnd_s, i2, gd_t hg, hcl, bnd_s, i3, nI_1, bnd_s, ← hX5]
  unfold f_X8_readStatement f_X8_readPlot
  rw [hat.spl (u := 2) (by decide) (by decide), bn1_s, if_pos (show (if 2 = 5 then (1 : Int32) else 0) = 0 by decide), hat.spl (u := 3) (by decide) (by decide), bn1_s, if_pos (show (if 3 = 5 then (1 : Int32) else 0) = 0 by decide), hat.spl (u := 4) (by decide) (by decide), bn1_s, if_pos (show (if 4 = 5 then (1 : Int32) else 0) = 0 by decide), hat.spl (u := 5) (by decide) (by decide), bn1_s, if_neg (show ¬ (if 5 = 5 then (1 : Int32) else 0) = 0 by decide), hd.2.1.2.2.2.1, if_pos (show nI np < 8 from nI_lt (b := 8) hp (by decide)), e1, bn1_s, e5, bn2_s, if_neg (nI_m1 (by omega)), e6, bn2_s, if_neg (nI_m1 (by omega)), e8, bn2_s, if_neg (nI_m1 (by omega)), ev, bn1_s, e7, bn2_s, gd_t (by decide), bn2_s, gd_t (by decide)]
set_option maxRecDepth 20000 in
theorem stm_t {ca : Nat} (h : DS X0 X T (strB.getD 6 []) ([32] ++ (decL ca ++ ([59] ++ rest))) D vn gn P nc nv ng np nt) (ht : nt < 5) (h1 : 1 ≤ ca) (h9 : ca ≤ 20000) (d5 : D 5 nt = ca) (hx : NX rest w r) : ∃ X', f_X8_readStatement X = some (1, X') ∧ DS X0 X' T w r D vn gn P nc nv ng np (nt + 1) := by
  obtain ⟨hat, hd, ho⟩ := h
  have hbb := hd.1
  obtain ⟨X1, e1, a1, f1⟩ := at_run (sp := [32]) hat sp32 (dec_wd ca) (hd_semi 3 (Or.inr rfl) _)
  obtain ⟨X2, e2, a2, f2⟩ := at_semi (sp := []) a1 (fun x hx => absurd hx List.not_mem_nil)
  have fr := f1.tr f2
  have e8 : f_X8_readNumber X1 1 20000 = some (nI ca, X2) := p_num a1 (by omega) (show ¬ nI ca < 1 from nI_nlt (b := 1) h1 (by omega)) (nI_le (b := 20000) (by omega) (by decide)) e2
  have o4 := ho.fr fr
  obtain ⟨b, c, m, c1, c2, c3, c4, c5, c6⟩ := hd.fr fr
  obtain ⟨X5, hX5⟩ : ∃ X5, X5 = xs (xs (xs (xs (xs X2 26 0 nt 1 0) 26 0 nt 2 (-1)) 26 0 nt 3 0) 26 0 nt 0 (nI ca)) 23 0 0 2 (nI (nt + 1)) := ⟨_, rfl⟩
  have go : ∀ k j i q, ¬ (k = 26 ∧ j = 0 ∧ i = nt) → ¬ (k = 23 ∧ j = 0 ∧ q = 2) → X5 k j i q = X2 k j i q := fun k j i q q1 q2 => by
    rw [hX5, xs_o (by omega), xs_o (by omega), xs_o (by omega), xs_o (by omega), xs_o (by omega)]
  have a5 : AT X5 T [59] rest := a2.up (fun f => go 2 0 0 f (by omega) (by omega)) (fun i => go 3 0 0 i (by omega) (by omega))
  obtain ⟨X6, e7, a6, f6⟩ := p_semi a5 hx
  have o5 : FO X0 X5 := o4.up (fun k j i f q => go k j i f (by omega) (by omega)) (fun i _ => go 22 0 i 7 (by omega) (by omega))
  have d5 : DV X5 D vn gn P nc nv ng np (nt + 1) := by
    refine ⟨⟨b.1, b.2.1, b.2.2.1, b.2.2.2.1, by omega⟩, ?_, ?_, fun k hk => ?_, fun v hv' => ?_, fun g hg => ?_, fun v hv' g hg => ?_, fun p hp => ?_, fun t ht => ?_⟩
    · rw [go 11 0 0 3 (by omega) (by omega), go 11 0 0 4 (by omega) (by omega), go 15 0 0 4 (by omega) (by omega), go 15 0 0 5 (by omega) (by omega), go 20 0 0 1 (by omega) (by omega), show X5 23 0 0 2 = nI (nt + 1) by rw [hX5, xs_i], go 23 0 0 3 (by omega) (by omega)]
      exact ⟨c.1, c.2.1, c.2.2.1, c.2.2.2.1, c.2.2.2.2.1, rfl, c.2.2.2.2.2.2⟩
    · rw [go 10 0 0 4 (by omega) (by omega), go 10 0 0 5 (by omega) (by omega), go 10 0 0 6 (by omega) (by omega), go 1 0 0 2 (by omega) (by omega)]
      exact m
    · rw [go 12 0 0 k (by omega) (by omega)]; exact c1 k hk
    · rw [go 13 0 0 v (by omega) (by omega)]; exact c2 v hv'
    · rw [go 16 0 0 g (by omega) (by omega)]; exact c3 g hg
    · rw [go 14 0 0 _ (by omega) (by omega)]; exact c4 v hv' g hg
    · rw [go 17 0 0 p (by omega) (by omega), go 18 0 0 p (by omega) (by omega), go 19 0 0 p (by omega) (by omega)]; exact c5 p hp
    · by_cases q : t = nt
      · rw [q, hX5, xs_o (by omega), xs_i, xs_o (by omega), xs_o (by omega), xs_o (by omega), xs_o (by omega), xs_i, xs_o (by omega), xs_o (by omega), xs_o (by omega), xs_i, xs_o (by omega), xs_o (by omega), xs_i, d5]
        exact ⟨rfl, rfl, rfl, rfl⟩
      · rw [go 26 0 t 0 (by omega) (by omega), go 26 0 t 1 (by omega) (by omega), go 26 0 t 2 (by omega) (by omega), go 26 0 t 3 (by omega) (by omega)]; exact c6 t (by omega)
  refine ⟨X6, ?_, a6, d5.fr f6, o5.fr f6⟩
  have ev : f_X2_addTank X2 0 (nI ca) = some X5 := by
    unfold f_X2_addTank f_X9_makeEmpty
    have i1 : xs (xs (xs X2 26 0 nt 1 0) 26 0 nt 2 (-1)) 26 0 nt 3 0 23 0 0 2 = nI nt := by rw [xs_o (by omega), xs_o (by omega), xs_o (by omega)]; exact c.2.2.2.2.2.1
    have i2 : ∀ z : Int32, xs (xs (xs (xs X2 26 0 nt 1 0) 26 0 nt 2 (-1)) 26 0 nt 3 0) 26 0 nt 0 z 23 0 0 2 = nI nt := fun z => (xs_o (by omega)).trans i1
    have hg : ¬ (nI nt < 0 ∨ 5 ≤ (nI nt).toNatClampNeg) := nI_in (by omega) (by decide)
    have hcl : (nI nt).toNatClampNeg = nt := nI_clamp (by omega)
    rw [c.2.2.2.2.2.1, if_neg (show ¬ (5 : Int32) ≤ nI nt from nI_ge (b := 5) ht (by decide)), gd_t hg, hcl, bnd_s, bnd_s, bnd_s, bn1_s, i1, gd_t hg, hcl, bnd_s, i2, nI_1, bnd_s, ← hX5]
  unfold f_X8_readStatement f_X8_readTank
  rw [hat.spl (u := 2) (by decide) (by decide), bn1_s, if_pos (show (if 2 = 6 then (1 : Int32) else 0) = 0 by decide), hat.spl (u := 3) (by decide) (by decide), bn1_s, if_pos (show (if 3 = 6 then (1 : Int32) else 0) = 0 by decide), hat.spl (u := 4) (by decide) (by decide), bn1_s, if_pos (show (if 4 = 6 then (1 : Int32) else 0) = 0 by decide), hat.spl (u := 5) (by decide) (by decide), bn1_s, if_pos (show (if 5 = 6 then (1 : Int32) else 0) = 0 by decide), hat.spl (u := 6) (by decide) (by decide), bn1_s, if_neg (show ¬ (if 6 = 6 then (1 : Int32) else 0) = 0 by decide), hd.2.1.2.2.2.2.2.1, if_pos (show nI nt < 5 from nI_lt (b := 5) ht (by decide)), e1, bn1_s, e8, bn2_s, if_neg (nI_m1 (by omega)), ev, bn1_s, e7, bn2_s, gd_t (by decide), bn2_s, gd_t (by decide)]
end STM
