/-! PURE: books copied: note, undo -/
def EX {α : Type} (o : Option α) (R : α → Prop) : Prop := ∃ Z, o = some Z ∧ R Z
set_option maxRecDepth 20000 in
theorem ex_s {α : Type} {a : α} {R : α → Prop} (h : R a) : EX (some a) R := ⟨a, rfl, h⟩
set_option maxRecDepth 20000 in
theorem ex_gd {α : Type} {c : Prop} [Decidable c] {a : Option α} {R : α → Prop} (h : c) (k : EX a R) : EX (gd c a) R := by rw [gd_t h]; exact k
set_option maxRecDepth 20000 in
theorem ex_bn1 {α β : Type} {a : Option α} {K : α → Option β} {R1 : α → Prop} {R : β → Prop} (h : EX a R1) (k : ∀ Z, R1 Z → EX (K Z) R) : EX (bn1 a K) R := by
  obtain ⟨Z, e, r⟩ := h
  rw [e]
  exact k Z r
set_option maxRecDepth 20000 in
theorem EX.mono {α : Type} {o : Option α} {R R' : α → Prop} (h : EX o R) (k : ∀ Z, R Z → R' Z) : EX o R' := by
  obtain ⟨Z, e, r⟩ := h
  exact ⟨Z, e, k Z r⟩
/-- X' is X, but the places Q of book j are those of book j1 -/
def CP (Q : Nat → Nat → Nat → Prop) (X : XT) (j j1 : Nat) (X' : XT) : Prop := (∀ k i f, Q k i f → X' k j i f = X k j1 i f) ∧ (∀ k j' i f, (j' ≠ j ∨ ¬ Q k i f) → X' k j' i f = X k j' i f)
set_option maxRecDepth 20000 in
theorem CP.mono {Q Q' : Nat → Nat → Nat → Prop} {X X' : XT} {j j1 : Nat} (h : CP Q X j j1 X') (q : ∀ k i f, Q k i f ↔ Q' k i f) : CP Q' X j j1 X' :=
  ⟨fun k i f hq => h.1 k i f ((q k i f).mpr hq), fun k j' i f hq => h.2 k j' i f (hq.imp id fun n c => n ((q k i f).mp c))⟩
set_option maxRecDepth 20000 in
theorem CP.comp {Q R : Nat → Nat → Nat → Prop} {X X1 X2 : XT} {j j1 : Nat} (hj : j1 ≠ j) (h : CP Q X j j1 X1) (h2 : CP R X1 j j1 X2) : CP (fun k i f => Q k i f ∨ R k i f) X j j1 X2 := by
  refine ⟨fun k i f hq => ?_, fun k j' i f hq => ?_⟩
  · by_cases c : R k i f
    · rw [h2.1 k i f c]
      exact h.2 k j1 i f (Or.inl hj)
    · rw [h2.2 k j i f (Or.inr c)]
      exact h.1 k i f (hq.resolve_right c)
  · rw [h2.2 k j' i f (hq.imp id fun n c => n (Or.inr c)), h.2 k j' i f (hq.imp id fun n c => n (Or.inl c))]
set_option maxRecDepth 20000 in
theorem cp_no (X : XT) (j j1 : Nat) : CP (fun k _ _ => k < 0) X j j1 X := ⟨fun k _ _ h => absurd h (Nat.not_lt_zero k), fun _ _ _ _ _ => rfl⟩
set_option maxRecDepth 20000 in
theorem cp_xs (X : XT) (k j i f j1 : Nat) : CP (fun k' i' f' => k' = k ∧ i' = i ∧ f' = f) X j j1 (xs X k j i f (X k j1 i f)) := by
  refine ⟨fun k' i' f' hq => ?_, fun k' j' i' f' hq => ?_⟩
  · obtain ⟨rfl, rfl, rfl⟩ := hq
    simp [xs]
  · unfold xs
    rw [if_neg]
    rintro ⟨a, b, c, d⟩
    rcases hq with hq | hq
    · exact hq b
    · exact hq ⟨a, c, d⟩
set_option maxRecDepth 20000 in
theorem cp_xcp (X : XT) (kk j1 j N : Nat) : CP (fun k' i' f' => k' = kk ∧ i' = 0 ∧ f' < N) X j j1 (xcp X kk j1 j N) := by
  refine ⟨fun k' i' f' hq => ?_, fun k' j' i' f' hq => ?_⟩
  · obtain ⟨rfl, rfl, h⟩ := hq
    unfold xcp
    rw [if_pos ⟨rfl, rfl, rfl, h⟩]
  · unfold xcp
    rw [if_neg]
    rintro ⟨a, b, c, d⟩
    rcases hq with hq | hq
    · exact hq b
    · exact hq ⟨a, c, d⟩
section CPS
variable {X Y : XT} {j j1 : Nat} {Q : Nat → Nat → Nat → Prop}
set_option maxRecDepth 20000 in
theorem ex_xs {α : Type} {R : α → Prop} {k i f : Nat} {K : XT → Option α} (hj : j1 ≠ j) (c : CP Q X j j1 Y) (hk : ∀ Y', CP (fun k' i' f' => Q k' i' f' ∨ (k' = k ∧ i' = i ∧ f' = f)) X j j1 Y' → EX (K Y') R) : EX (bnd (xs Y k j i f (Y k j1 i f)) K) R :=
  hk _ (c.comp hj (cp_xs Y k j i f j1))
set_option maxRecDepth 20000 in
theorem ex_xcp {α : Type} {R : α → Prop} {k N : Nat} {K : XT → Option α} (hj : j1 ≠ j) (c : CP Q X j j1 Y) (hk : ∀ Y', CP (fun k' i' f' => Q k' i' f' ∨ (k' = k ∧ i' = 0 ∧ f' < N)) X j j1 Y' → EX (K Y') R) : EX (gd (¬ j1 = j) (bnd (xcp Y k j1 j N) K)) R :=
  ex_gd hj (hk _ (c.comp hj (cp_xcp Y k j1 j N)))
set_option maxRecDepth 20000 in
theorem cp_X1 (hj : j1 ≠ j) : EX (f_X1_copyFrom X j j1) (CP (fun k i f => ((k = 12 ∨ k = 13) ∧ i = 0 ∧ f < 4) ∨ (k = 14 ∧ i = 0 ∧ f < 16) ∨ (k = 11 ∧ i = 0 ∧ (f = 3 ∨ f = 4))) X j j1) := by
  unfold f_X1_copyFrom
  refine ex_xcp hj (cp_no X j j1) fun _ c => ?_
  refine ex_xcp hj c fun _ c => ?_
  refine ex_xcp hj c fun _ c => ?_
  refine ex_xs hj c fun _ c => ?_
  refine ex_xs hj c fun _ c => ?_
  exact ex_s (c.mono fun k i f => by omega)
set_option maxRecDepth 20000 in
theorem cp_X5 (hj : j1 ≠ j) : EX (f_X5_copyFrom X j j1) (CP (fun k i f => (k = 16 ∧ i = 0 ∧ f < 6) ∨ ((k = 17 ∨ k = 18 ∨ k = 19) ∧ i = 0 ∧ f < 8) ∨ (k = 15 ∧ i = 0 ∧ (f = 4 ∨ f = 5))) X j j1) := by
  unfold f_X5_copyFrom
  refine ex_xcp hj (cp_no X j j1) fun _ c => ?_
  refine ex_xcp hj c fun _ c => ?_
  refine ex_xcp hj c fun _ c => ?_
  refine ex_xcp hj c fun _ c => ?_
  refine ex_xs hj c fun _ c => ?_
  refine ex_xs hj c fun _ c => ?_
  exact ex_s (c.mono fun k i f => by omega)
set_option maxRecDepth 20000 in
theorem cp_X6 (hj : j1 ≠ j) {i : Nat} (hb : X 22 j1 i 7 = 0 ∨ X 22 j1 i 7 = 1) : EX (f_X6_copyFrom X j i j1 i) (CP (fun k i' f => k = 22 ∧ i' = i ∧ f < 9) X j j1) := by
  unfold f_X6_copyFrom
  refine ex_xs hj (cp_no X j j1) fun _ c => ?_
  refine ex_xs hj c fun _ c => ?_
  refine ex_xs hj c fun _ c => ?_
  refine ex_xs hj c fun _ c => ?_
  refine ex_xs hj c fun _ c => ?_
  refine ex_xs hj c fun _ c => ?_
  refine ex_xs hj c fun _ c => ?_
  refine ex_gd ?_ ?_
  · rw [c.2 22 j1 i 7 (Or.inl hj)]
    rcases hb with e | e <;> rw [e] <;> decide
  refine ex_xs hj c fun _ c => ?_
  refine ex_xs hj c fun _ c => ?_
  exact ex_s (c.mono fun k i f => by omega)
set_option maxRecDepth 20000 in
theorem cp_X9 (hj : j1 ≠ j) {i : Nat} : EX (f_X9_copyFrom X j i j1 i) (CP (fun k i' f => k = 26 ∧ i' = i ∧ f < 4) X j j1) := by
  unfold f_X9_copyFrom
  refine ex_xs hj (cp_no X j j1) fun _ c => ?_
  refine ex_xs hj c fun _ c => ?_
  refine ex_xs hj c fun _ c => ?_
  refine ex_xs hj c fun _ c => ?_
  exact ex_s (c.mono fun k i f => by omega)
set_option maxRecDepth 20000 in
theorem cp_X7 (hj : j1 ≠ j) {i : Nat} : EX (f_X7_copyFrom X j i j1 i) (CP (fun k i' f => k = 27 ∧ i' = i ∧ f < 4) X j j1) := by
  unfold f_X7_copyFrom
  refine ex_xs hj (cp_no X j j1) fun _ c => ?_
  refine ex_xs hj c fun _ c => ?_
  refine ex_xs hj c fun _ c => ?_
  refine ex_xs hj c fun _ c => ?_
  exact ex_s (c.mono fun k i f => by omega)
set_option maxRecDepth 20000 in
theorem cp_X3_2 (hj : j1 ≠ j) : ∀ d k f (Y : XT), (∀ i, i < 20 → Y 22 j1 i 7 = 0 ∨ Y 22 j1 i 7 = 1) → k + d = 20 → d < f → EX (f_X3_copyFrom_2 j j1 f Y (nI k)) (CP (fun k' i f => (k' = 22 ∧ k ≤ i ∧ i < 20 ∧ f < 9) ∨ (k' = 20 ∧ i = 0 ∧ f = 1)) Y j j1) := by
  intro d
  induction d with
  | zero =>
    intro k f Y hb hk hf
    obtain ⟨f, rfl⟩ := fuel hf
    obtain rfl : k = 20 := by omega
    unfold f_X3_copyFrom_2
    rw [if_pos (by decide)]
    exact ex_xs hj (cp_no Y j j1) fun _ c => ex_s (c.mono fun k i f => by omega)
  | succ d ih =>
    intro k f Y hb hk hf
    obtain ⟨f, rfl⟩ := fuel hf
    unfold f_X3_copyFrom_2
    rw [if_neg (show ¬ (20 : Int32) ≤ nI k from nI_ge (a := k) (b := 20) (by omega) (by decide)), gd_t (nI_in (by omega) (by decide)), gd_t (nI_in (by omega) (by decide)), nI_clamp (by omega)]
    refine ex_bn1 (cp_X6 hj (hb k (by omega))) fun Z c => ?_
    rw [show nI k + 1 = nI (k + 1) from nI_add k 1]
    refine (ih (k + 1) f Z (fun i hi => by rw [c.2 22 j1 i 7 (Or.inl hj)]; exact hb i hi) (by omega) (by omega)).mono fun W c2 => ?_
    exact (c.comp hj c2).mono fun k' i f => by omega
set_option maxRecDepth 20000 in
theorem cp_X3 (hj : j1 ≠ j) (hb : ∀ i, i < 20 → X 22 j1 i 7 = 0 ∨ X 22 j1 i 7 = 1) : EX (f_X3_copyFrom X j j1) (CP (fun k i f => (k = 22 ∧ i < 20 ∧ f < 9) ∨ (k = 20 ∧ i = 0 ∧ f = 1)) X j j1) := by
  unfold f_X3_copyFrom
  exact (cp_X3_2 hj 20 0 2000 X hb rfl (by decide)).mono fun W c => c.mono fun k i f => by omega
set_option maxRecDepth 20000 in
theorem cp_X2_30 (hj : j1 ≠ j) : ∀ d k f (Y : XT), k + d = 12 → d < f → EX (f_X2_copyFrom_30 j j1 f Y (nI k)) (CP (fun k' i f => (k' = 27 ∧ k ≤ i ∧ i < 12 ∧ f < 4) ∨ (k' = 23 ∧ i = 0 ∧ (f = 2 ∨ f = 3))) Y j j1) := by
  intro d
  induction d with
  | zero =>
    intro k f Y hk hf
    obtain ⟨f, rfl⟩ := fuel hf
    obtain rfl : k = 12 := by omega
    unfold f_X2_copyFrom_30
    rw [if_pos (by decide)]
    exact ex_xs hj (cp_no Y j j1) fun _ c => ex_xs hj c fun _ c => ex_s (c.mono fun k i f => by omega)
  | succ d ih =>
    intro k f Y hk hf
    obtain ⟨f, rfl⟩ := fuel hf
    unfold f_X2_copyFrom_30
    rw [if_neg (show ¬ (12 : Int32) ≤ nI k from nI_ge (a := k) (b := 12) (by omega) (by decide)), gd_t (nI_in (by omega) (by decide)), gd_t (nI_in (by omega) (by decide)), nI_clamp (by omega)]
    refine ex_bn1 (cp_X7 hj) fun Z c => ?_
    rw [show nI k + 1 = nI (k + 1) from nI_add k 1]
    refine (ih (k + 1) f Z (by omega) (by omega)).mono fun W c2 => ?_
    exact (c.comp hj c2).mono fun k' i f => by omega
set_option maxRecDepth 20000 in
theorem cp_X2_2 (hj : j1 ≠ j) : ∀ d k f (Y : XT), k + d = 5 → d < f → EX (f_X2_copyFrom_2 j j1 f Y (nI k)) (CP (fun k' i f => (k' = 26 ∧ k ≤ i ∧ i < 5 ∧ f < 4) ∨ (k' = 27 ∧ i < 12 ∧ f < 4) ∨ (k' = 23 ∧ i = 0 ∧ (f = 2 ∨ f = 3))) Y j j1) := by
  intro d
  induction d with
  | zero =>
    intro k f Y hk hf
    obtain ⟨f, rfl⟩ := fuel hf
    obtain rfl : k = 5 := by omega
    unfold f_X2_copyFrom_2
    rw [if_pos (by decide)]
    exact (cp_X2_30 hj 12 0 2000 Y rfl (by decide)).mono fun W c => c.mono fun k i f => by omega
  | succ d ih =>
    intro k f Y hk hf
    obtain ⟨f, rfl⟩ := fuel hf
    unfold f_X2_copyFrom_2
    rw [if_neg (show ¬ (5 : Int32) ≤ nI k from nI_ge (a := k) (b := 5) (by omega) (by decide)), gd_t (nI_in (by omega) (by decide)), gd_t (nI_in (by omega) (by decide)), nI_clamp (by omega)]
    refine ex_bn1 (cp_X9 hj) fun Z c => ?_
    rw [show nI k + 1 = nI (k + 1) from nI_add k 1]
    refine (ih (k + 1) f Z (by omega) (by omega)).mono fun W c2 => ?_
    exact (c.comp hj c2).mono fun k' i f => by omega
/-- the places of a book that count -/
def inB (k i f : Nat) : Prop := match k with
  | 10 => i = 0 ∧ 4 ≤ f ∧ f ≤ 6
  | 11 => i = 0 ∧ (f = 3 ∨ f = 4)
  | 12 => i = 0 ∧ f < 4
  | 13 => i = 0 ∧ f < 4
  | 14 => i = 0 ∧ f < 16
  | 15 => i = 0 ∧ (f = 4 ∨ f = 5)
  | 16 => i = 0 ∧ f < 6
  | 17 => i = 0 ∧ f < 8
  | 18 => i = 0 ∧ f < 8
  | 19 => i = 0 ∧ f < 8
  | 20 => i = 0 ∧ f = 1
  | 22 => i < 20 ∧ f < 9
  | 23 => i = 0 ∧ (f = 2 ∨ f = 3)
  | 26 => i < 5 ∧ f < 4
  | 27 => i < 12 ∧ f < 4
  | _ => False
set_option maxRecDepth 20000 in
theorem cp_X0 (hj : j1 ≠ j) (hb : ∀ i, i < 20 → X 22 j1 i 7 = 0 ∨ X 22 j1 i 7 = 1) : EX (f_X0_copyFrom X j j1) (CP inB X j j1) := by
  unfold f_X0_copyFrom
  refine ex_bn1 (cp_X1 hj) fun _ c => ?_
  refine ex_bn1 (cp_X5 hj) fun _ c' => ?_
  have c := c.comp hj c'
  refine ex_bn1 (cp_X3 hj fun i hi => by rw [c.2 22 j1 i 7 (Or.inl hj)]; exact hb i hi) fun _ c' => ?_
  have c := c.comp hj c'
  refine ex_bn1 (cp_X2_2 hj 5 0 2000 _ rfl (by decide)) fun _ c' => ?_
  have c := c.comp hj c'
  refine ex_xs hj c fun _ c => ?_
  refine ex_xs hj c fun _ c => ?_
  refine ex_xs hj c fun _ c => ?_
  exact ex_s (c.mono fun k i f => by unfold inB; split <;> first | (simp; done) | (simp; omega) | (rename_i q0 q1 q2 q3 q4 q5 q6 q7 q8 q9 q10 q11 q12 q13 q14; simp [show ¬ k = 10 from q0, show ¬ k = 11 from q1, show ¬ k = 12 from q2, show ¬ k = 13 from q3, show ¬ k = 14 from q4, show ¬ k = 15 from q5, show ¬ k = 16 from q6, show ¬ k = 17 from q7, show ¬ k = 18 from q8, show ¬ k = 19 from q9, show ¬ k = 20 from q10, show ¬ k = 22 from q11, show ¬ k = 23 from q12, show ¬ k = 26 from q13, show ¬ k = 27 from q14]; done))
end CPS
set_option maxRecDepth 20000 in
theorem xs_o {X : XT} {k j i f k' j' i' f' : Nat} {v : Int32} (h : k' ≠ k ∨ j' ≠ j ∨ i' ≠ i ∨ f' ≠ f) : xs X k j i f v k' j' i' f' = X k' j' i' f' := if_neg (by omega)
set_option maxRecDepth 20000 in
theorem xs_i {X : XT} {k j i f : Nat} {v : Int32} : xs X k j i f v k j i f = v := if_pos ⟨rfl, rfl, rfl, rfl⟩
set_option maxRecDepth 20000 in
theorem next6 : ∀ n, n < 6 → (nI n + 1) - (nI n + 1) / 6 * 6 = nI ((n + 1) % 6) := by decide
set_option maxRecDepth 20000 in
theorem prev6 : ∀ n, n < 6 → ((nI n + 6) - 1) - ((nI n + 6) - 1) / 6 * 6 = nI ((n + 5) % 6) := by decide
set_option maxRecDepth 20000 in
theorem cap6 : ∀ n, n ≤ 6 → (if 6 < nI n + 1 then 6 else nI n + 1) = nI (if n = 6 then 6 else n + 1) := by decide
set_option maxRecDepth 20000 in
/-- the invariant reads places of book 1 that count -/
theorem IV.eq {X X' : XT} {C A : NF} (hC : CO C) (h : IV X C A) (e : ∀ k i f, inB k i f → X' k 1 i f = X k 1 i f) : IV X' C A := by
  have hb := h.b
  have hCb := hC.b
  obtain ⟨h0, h1, h2, h3, h4, h5, h6, h7, h8, h9, h10⟩ := h
  refine ⟨h0, ?_, ?_, ?_, ?_, ?_, ?_, ?_, ?_, h9, ?_⟩
  · rw [e 11 0 3 (by show _ ∧ _; omega), e 11 0 4 (by show _ ∧ _; omega), e 15 0 4 (by show _ ∧ _; omega), e 15 0 5 (by show _ ∧ _; omega), e 20 0 1 (by show _ ∧ _; omega), e 23 0 2 (by show _ ∧ _; omega), e 23 0 3 (by show _ ∧ _; omega)]
    exact h1
  · rw [e 10 0 4 (by show _ ∧ _; omega), e 10 0 5 (by show _ ∧ _; omega), e 10 0 6 (by show _ ∧ _; omega)]
    exact h2
  · intro k hk
    rw [e 12 0 k (by show _ ∧ _; omega)]
    exact h3 k hk
  · intro v hv g hg
    rw [e 14 0 (v * 4 + g) (by show _ ∧ _; omega)]
    exact h4 v hv g hg
  · intro p hp
    rw [e 17 0 p (by show _ ∧ _; omega), e 18 0 p (by show _ ∧ _; omega), e 19 0 p (by show _ ∧ _; omega)]
    exact h5 p hp
  · intro k hk
    have := h6 k hk
    unfold LV at this ⊢
    rw [e 22 k 0 (by show _ ∧ _; omega), e 22 k 1 (by show _ ∧ _; omega), e 22 k 2 (by show _ ∧ _; omega), e 22 k 3 (by show _ ∧ _; omega), e 22 k 4 (by show _ ∧ _; omega), e 22 k 5 (by show _ ∧ _; omega), e 22 k 6 (by show _ ∧ _; omega), e 22 k 7 (by show _ ∧ _; omega), e 22 k 8 (by show _ ∧ _; omega)]
    exact this
  · intro t ht
    have := h7 t ht
    unfold TV at this ⊢
    rw [e 26 t 0 (by show _ ∧ _; omega), e 26 t 1 (by show _ ∧ _; omega), e 26 t 2 (by show _ ∧ _; omega), e 26 t 3 (by show _ ∧ _; omega)]
    exact this
  · intro b hb'
    have := h8 b hb'
    unfold OV at this ⊢
    rw [e 27 b 0 (by show _ ∧ _; omega), e 27 b 1 (by show _ ∧ _; omega), e 27 b 2 (by show _ ∧ _; omega), e 27 b 3 (by show _ ∧ _; omega)]
    exact this
  · intro k hk
    rw [e 22 k 7 (by show _ ∧ _; omega)]
    exact h10 k hk
/-- the history's ring -/
def HS (X : XT) : Prop := ∃ nx cn, nx < 6 ∧ cn ≤ 6 ∧ X 4 0 0 1 = nI nx ∧ X 4 0 0 2 = nI cn
/-- X1 remembers the book of X -/
def NT (X X1 : XT) : Prop := ∃ nx cn, nx < 6 ∧ 1 ≤ cn ∧ cn ≤ 6 ∧ X1 4 0 0 1 = nI nx ∧ X1 4 0 0 2 = nI cn ∧ ∀ k i f, inB k i f → X1 k (2 + (nx + 5) % 6) i f = X k 1 i f
set_option maxRecDepth 20000 in
theorem NT.hs {X X1 : XT} (h : NT X X1) : HS X1 := by
  obtain ⟨nx, cn, h1, h2, h3, h4, h5, -⟩ := h
  exact ⟨nx, cn, h1, h3, h4, h5⟩
/-- only book 1 changes -/
def OB (X X' : XT) : Prop := ∀ k j i f, j ≠ 1 → X' k j i f = X k j i f
set_option maxRecDepth 20000 in
theorem OB.no (X : XT) : OB X X := fun _ _ _ _ _ => rfl
set_option maxRecDepth 20000 in
theorem OB.x {X X' : XT} (h : OB X X') {k i f : Nat} {v : Int32} : OB X (xs X' k 1 i f v) := fun k' j' i' f' q => by rw [xs_o (by omega)]; exact h k' j' i' f' q
set_option maxRecDepth 20000 in
theorem NT.ob {X X1 X2 : XT} (h : NT X X1) (u : OB X1 X2) : NT X X2 := by
  obtain ⟨nx, cn, h1, h2, h3, h4, h5, h6⟩ := h
  refine ⟨nx, cn, h1, h2, h3, ?_, ?_, fun k i f q => ?_⟩
  · rw [u 4 0 0 1 (by decide)]; exact h4
  · rw [u 4 0 0 2 (by decide)]; exact h5
  · rw [u k _ i f (by omega)]; exact h6 k i f q
set_option maxRecDepth 20000 in
theorem note_ {X : XT} (hH : HS X) (hb : ∀ i, i < 20 → X 22 1 i 7 = 0 ∨ X 22 1 i 7 = 1) : ∃ X1, f_X4_note X 1 = some X1 ∧ (∀ k i f, X1 k 1 i f = X k 1 i f) ∧ NT X X1 := by
  obtain ⟨nx, cn, n1, n2, n3, n4⟩ := hH
  obtain ⟨Z, eZ, cZ⟩ := cp_X0 (X := X) (j := 2 + nx) (j1 := 1) (by omega) hb
  unfold f_X4_note
  have z1 : Z 4 0 0 1 = nI nx := by rw [cZ.2 4 0 0 1 (Or.inl (by omega))]; exact n3
  have z2 : Z 4 0 0 2 = nI cn := by rw [cZ.2 4 0 0 2 (Or.inl (by omega))]; exact n4
  refine ⟨_, by rw [n3, gd_t (nI_in (by omega) (by decide)), nI_clamp (by omega), eZ, bn1_s, bnd_s, bnd_s], ?_, ?_⟩
  · intro k i f
    rw [xs_o (by omega), xs_o (by omega)]
    exact cZ.2 k 1 i f (Or.inl (by omega))
  · refine ⟨(nx + 1) % 6, (if cn = 6 then 6 else cn + 1), by omega, by split <;> omega, by split <;> omega, ?_, ?_, fun k i f q => ?_⟩
    · rw [xs_o (by omega), xs_i, z1, next6 nx n1]
    · rw [xs_i, xs_o (by omega), z2, cap6 cn n2]
    · rw [xs_o (by omega), xs_o (by omega), show 2 + ((nx + 1) % 6 + 5) % 6 = 2 + nx by omega]
      exact cZ.1 k i f q
set_option maxRecDepth 20000 in
theorem undo_ {X X2 : XT} (hb : ∀ i, i < 20 → X 22 1 i 7 = 0 ∨ X 22 1 i 7 = 1) (h : NT X X2) : ∃ r X3, f_X11_undo X2 = some (r, X3) ∧ ¬ r < 0 ∧ HS X3 ∧ (∀ k i f, inB k i f → X3 k 1 i f = X k 1 i f) := by
  obtain ⟨nx, cn, n1, n2, n3, n4, n5, n6⟩ := h
  obtain ⟨X0, e0⟩ : ∃ X0, X0 = xs (xs X2 4 0 0 1 (nI ((nx + 5) % 6))) 4 0 0 2 (nI (cn - 1)) := ⟨_, rfl⟩
  have x1 : X0 4 0 0 1 = nI ((nx + 5) % 6) := by rw [e0]; rfl
  have x2 : X0 4 0 0 2 = nI (cn - 1) := by rw [e0]; rfl
  have xo : ∀ k j i f, 1 ≤ j → X0 k j i f = X2 k j i f := fun k j i f q => by rw [e0, xs_o (by omega), xs_o (by omega)]
  obtain ⟨Z, eZ, cZ⟩ := cp_X0 (X := X0) (j := 1) (j1 := 2 + (nx + 5) % 6) (by omega) (fun i hi => by
    rw [xo 22 _ i 7 (by omega), n6 22 i 7 (by show _ ∧ _; omega)]
    exact hb i hi)
  have z1 : Z 4 0 0 1 = nI ((nx + 5) % 6) := by rw [cZ.2 4 0 0 1 (Or.inl (by omega))]; exact x1
  have z2 : Z 4 0 0 2 = nI (cn - 1) := by rw [cZ.2 4 0 0 2 (Or.inl (by omega))]; exact x2
  refine ⟨nI (cn - 1), Z, ?_, nI_pos (by omega), ⟨(nx + 5) % 6, cn - 1, by omega, by omega, z1, z2⟩, fun k i f q => ?_⟩
  · unfold f_X11_undo f_X4_bringBack
    rw [n5, if_neg (nI_ne0 (by omega) (by omega)), n4, prev6 nx n1, bnd_s]
    have : (xs X2 4 0 0 1 (nI ((nx + 5) % 6))) 4 0 0 2 = nI cn := n5
    rw [this, show nI cn - 1 = nI (cn - 1) from pk_sub (a := cn) (b := 1) (by omega), bnd_s, ← e0, x1, gd_t (nI_in (by omega) (by decide)), nI_clamp (by omega), eZ, bn1_s, bn1_s, z2]
  · rw [cZ.1 k i f q, xo k _ i f (by omega), n6 k i f q]
