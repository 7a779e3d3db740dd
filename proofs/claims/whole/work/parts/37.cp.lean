/-! PURE: books copied, rows copied: note and remember, undo, save, restore -/
def EX {α : Type} (o : Option α) (R : α → Prop) : Prop := ∃ Z, o = some Z ∧ R Z
set_option maxRecDepth 20000 in
theorem ex_s {α : Type} {a : α} {R : α → Prop} (h : R a) : EX (some a) R := ⟨a, rfl, h⟩
set_option maxRecDepth 20000 in
theorem ex_gd {α : Type} {c : Prop} [Decidable c] {a : Option α} {R : α → Prop} (h : c) (k : EX a R) : EX (gd c a) R := by rw [gd_t h]; exact k
set_option maxRecDepth 20000 in
theorem ex_bn1 {α β : Type} {a : Option α} {K : α → Option β} {R1 : α → Prop} {R : β → Prop} (h : EX a R1) (k : ∀ Z, R1 Z → EX (K Z) R) : EX (bn1 a K) R := by
  obtain ⟨Z, e, r⟩ := h
  rw [e]
  exact k Z r
set_option maxRecDepth 20000 in
theorem EX.mono {α : Type} {o : Option α} {R R' : α → Prop} (h : EX o R) (k : ∀ Z, R Z → R' Z) : EX o R' := by
  obtain ⟨Z, e, r⟩ := h
  exact ⟨Z, e, k Z r⟩
/-- X' is X, but the places Q of book j are those of book j1 -/
def CP (Q : Nat → Nat → Nat → Prop) (X : XT) (j j1 : Nat) (X' : XT) : Prop := (∀ k i f, Q k i f → X' k j i f = X k j1 i f) ∧ (∀ k j' i f, (j' ≠ j ∨ ¬ Q k i f) → X' k j' i f = X k j' i f)
set_option maxRecDepth 20000 in
theorem CP.mono {Q Q' : Nat → Nat → Nat → Prop} {X X' : XT} {j j1 : Nat} (h : CP Q X j j1 X') (q : ∀ k i f, Q k i f ↔ Q' k i f) : CP Q' X j j1 X' :=
  ⟨fun k i f hq => h.1 k i f ((q k i f).mpr hq), fun k j' i f hq => h.2 k j' i f (hq.imp id fun n c => n ((q k i f).mp c))⟩
set_option maxRecDepth 20000 in
theorem CP.comp {Q R : Nat → Nat → Nat → Prop} {X X1 X2 : XT} {j j1 : Nat} (hj : j1 ≠ j) (h : CP Q X j j1 X1) (h2 : CP R X1 j j1 X2) : CP (fun k i f => Q k i f ∨ R k i f) X j j1 X2 := by
  refine ⟨fun k i f hq => ?_, fun k j' i f hq => ?_⟩
  · by_cases c : R k i f
    · rw [h2.1 k i f c]
      exact h.2 k j1 i f (Or.inl hj)
    · rw [h2.2 k j i f (Or.inr c)]
      exact h.1 k i f (hq.resolve_right c)
  · rw [h2.2 k j' i f (hq.imp id fun n c => n (Or.inr c)), h.2 k j' i f (hq.imp id fun n c => n (Or.inl c))]
set_option maxRecDepth 20000 in
theorem cp_no (X : XT) (j j1 : Nat) : CP (fun k _ _ => k < 0) X j j1 X := ⟨fun k _ _ h => absurd h (Nat.not_lt_zero k), fun _ _ _ _ _ => rfl⟩
set_option maxRecDepth 20000 in
theorem cp_xs (X : XT) (k j i f j1 : Nat) : CP (fun k' i' f' => k' = k ∧ i' = i ∧ f' = f) X j j1 (xs X k j i f (X k j1 i f)) := by
  refine ⟨fun k' i' f' hq => ?_, fun k' j' i' f' hq => ?_⟩
  · obtain ⟨rfl, rfl, rfl⟩ := hq
    simp [xs]
  · unfold xs
    rw [if_neg]
    rintro ⟨a, b, c, d⟩
    rcases hq with hq | hq
    · exact hq b
    · exact hq ⟨a, c, d⟩
set_option maxRecDepth 20000 in
theorem cp_xcp (X : XT) (kk j1 j N : Nat) : CP (fun k' i' f' => k' = kk ∧ i' = 0 ∧ f' < N) X j j1 (xcp X kk j1 j N) := by
  refine ⟨fun k' i' f' hq => ?_, fun k' j' i' f' hq => ?_⟩
  · obtain ⟨rfl, rfl, h⟩ := hq
    unfold xcp
    rw [if_pos ⟨rfl, rfl, rfl, h⟩]
  · unfold xcp
    rw [if_neg]
    rintro ⟨a, b, c, d⟩
    rcases hq with hq | hq
    · exact hq b
    · exact hq ⟨a, c, d⟩
section CPS
variable {X Y : XT} {j j1 : Nat} {Q : Nat → Nat → Nat → Prop}
set_option maxRecDepth 20000 in
theorem ex_xs {α : Type} {R : α → Prop} {k i f : Nat} {K : XT → Option α} (hj : j1 ≠ j) (c : CP Q X j j1 Y) (hk : ∀ Y', CP (fun k' i' f' => Q k' i' f' ∨ (k' = k ∧ i' = i ∧ f' = f)) X j j1 Y' → EX (K Y') R) : EX (bnd (xs Y k j i f (Y k j1 i f)) K) R :=
  hk _ (c.comp hj (cp_xs Y k j i f j1))
set_option maxRecDepth 20000 in
theorem ex_xcp {α : Type} {R : α → Prop} {k N : Nat} {K : XT → Option α} (hj : j1 ≠ j) (c : CP Q X j j1 Y) (hk : ∀ Y', CP (fun k' i' f' => Q k' i' f' ∨ (k' = k ∧ i' = 0 ∧ f' < N)) X j j1 Y' → EX (K Y') R) : EX (gd (¬ j1 = j) (bnd (xcp Y k j1 j N) K)) R :=
  ex_gd hj (hk _ (c.comp hj (cp_xcp Y k j1 j N)))
set_option maxRecDepth 20000 in
theorem cp_X1 (hj : j1 ≠ j) : EX (f_X1_copyFrom X j j1) (CP (fun k i f => ((k = 12 ∨ k = 13) ∧ i = 0 ∧ f < 4) ∨ (k = 14 ∧ i = 0 ∧ f < 16) ∨ (k = 11 ∧ i = 0 ∧ (f = 3 ∨ f = 4))) X j j1) := by
  unfold f_X1_copyFrom
  refine ex_xcp hj (cp_no X j j1) fun _ c => ?_
  refine ex_xcp hj c fun _ c => ?_
  refine ex_xcp hj c fun _ c => ?_
  refine ex_xs hj c fun _ c => ?_
  refine ex_xs hj c fun _ c => ?_
  exact ex_s (c.mono fun k i f => by omega)
set_option maxRecDepth 20000 in
theorem cp_X5 (hj : j1 ≠ j) : EX (f_X5_copyFrom X j j1) (CP (fun k i f => (k = 16 ∧ i = 0 ∧ f < 6) ∨ ((k = 17 ∨ k = 18 ∨ k = 19) ∧ i = 0 ∧ f < 8) ∨ (k = 15 ∧ i = 0 ∧ (f = 4 ∨ f = 5))) X j j1) := by
  unfold f_X5_copyFrom
  refine ex_xcp hj (cp_no X j j1) fun _ c => ?_
  refine ex_xcp hj c fun _ c => ?_
  refine ex_xcp hj c fun _ c => ?_
  refine ex_xcp hj c fun _ c => ?_
  refine ex_xs hj c fun _ c => ?_
  refine ex_xs hj c fun _ c => ?_
  exact ex_s (c.mono fun k i f => by omega)
set_option maxRecDepth 20000 in
theorem cp_X6 (hj : j1 ≠ j) {i : Nat} (hb : X 22 j1 i 7 = 0 ∨ X 22 j1 i 7 = 1) : EX (f_X6_copyFrom X j i j1 i) (CP (fun k i' f => k = 22 ∧ i' = i ∧ f < 9) X j j1) := by
  unfold f_X6_copyFrom
  refine ex_xs hj (cp_no X j j1) fun _ c => ?_
  refine ex_xs hj c fun _ c => ?_
  refine ex_xs hj c fun _ c => ?_
  refine ex_xs hj c fun _ c => ?_
  refine ex_xs hj c fun _ c => ?_
  refine ex_xs hj c fun _ c => ?_
  refine ex_xs hj c fun _ c => ?_
  refine ex_gd ?_ ?_
  · rw [c.2 22 j1 i 7 (Or.inl hj)]
    rcases hb with e | e <;> rw [e] <;> decide
  refine ex_xs hj c fun _ c => ?_
  refine ex_xs hj c fun _ c => ?_
  exact ex_s (c.mono fun k i f => by omega)
set_option maxRecDepth 20000 in
theorem cp_X9 (hj : j1 ≠ j) {i : Nat} : EX (f_X9_copyFrom X j i j1 i) (CP (fun k i' f => k = 26 ∧ i' = i ∧ f < 4) X j j1) := by
  unfold f_X9_copyFrom
  refine ex_xs hj (cp_no X j j1) fun _ c => ?_
  refine ex_xs hj c fun _ c => ?_
  refine ex_xs hj c fun _ c => ?_
  refine ex_xs hj c fun _ c => ?_
  exact ex_s (c.mono fun k i f => by omega)
set_option maxRecDepth 20000 in
theorem cp_X7 (hj : j1 ≠ j) {i : Nat} : EX (f_X7_copyFrom X j i j1 i) (CP (fun k i' f => k = 27 ∧ i' = i ∧ f < 4) X j j1) := by
  unfold f_X7_copyFrom
  refine ex_xs hj (cp_no X j j1) fun _ c => ?_
  refine ex_xs hj c fun _ c => ?_
  refine ex_xs hj c fun _ c => ?_
  refine ex_xs hj c fun _ c => ?_
  exact ex_s (c.mono fun k i f => by omega)
set_option maxRecDepth 20000 in
theorem cp_X3_2 (hj : j1 ≠ j) : ∀ d k f (Y : XT), (∀ i, i < 20 → Y 22 j1 i 7 = 0 ∨ Y 22 j1 i 7 = 1) → k + d = 20 → d < f → EX (f_X3_copyFrom_2 j j1 f Y (nI k)) (CP (fun k' i f => (k' = 22 ∧ k ≤ i ∧ i < 20 ∧ f < 9) ∨ (k' = 20 ∧ i = 0 ∧ f = 1)) Y j j1) := by
  intro d
  induction d with
  | zero =>
    intro k f Y hb hk hf
    obtain ⟨f, rfl⟩ := fuel hf
    obtain rfl : k = 20 := by omega
    unfold f_X3_copyFrom_2
    rw [if_pos (by decide)]
    exact ex_xs hj (cp_no Y j j1) fun _ c => ex_s (c.mono fun k i f => by omega)
  | succ d ih =>
    intro k f Y hb hk hf
    obtain ⟨f, rfl⟩ := fuel hf
    unfold f_X3_copyFrom_2
    rw [if_neg (show ¬ (20 : Int32) ≤ nI k from nI_ge (a := k) (b := 20) (by omega) (by decide)), gd_t (nI_in (by omega) (by decide)), gd_t (nI_in (by omega) (by decide)), nI_clamp (by omega)]
    refine ex_bn1 (cp_X6 hj (hb k (by omega))) fun Z c => ?_
    rw [show nI k + 1 = nI (k + 1) from nI_add k 1]
    refine (ih (k + 1) f Z (fun i hi => by rw [c.2 22 j1 i 7 (Or.inl hj)]; exact hb i hi) (by omega) (by omega)).mono fun W c2 => ?_
    exact (c.comp hj c2).mono fun k' i f => by omega
set_option maxRecDepth 20000 in
theorem cp_X3 (hj : j1 ≠ j) (hb : ∀ i, i < 20 → X 22 j1 i 7 = 0 ∨ X 22 j1 i 7 = 1) : EX (f_X3_copyFrom X j j1) (CP (fun k i f => (k = 22 ∧ i < 20 ∧ f < 9) ∨ (k = 20 ∧ i = 0 ∧ f = 1)) X j j1) := by
  unfold f_X3_copyFrom
  exact (cp_X3_2 hj 20 0 2000 X hb rfl (by decide)).mono fun W c => c.mono fun k i f => by omega
set_option maxRecDepth 20000 in
theorem cp_X2_30 (hj : j1 ≠ j) : ∀ d k f (Y : XT), k + d = 12 → d < f → EX (f_X2_copyFrom_30 j j1 f Y (nI k)) (CP (fun k' i f => (k' = 27 ∧ k ≤ i ∧ i < 12 ∧ f < 4) ∨ (k' = 23 ∧ i = 0 ∧ (f = 2 ∨ f = 3))) Y j j1) := by
  intro d
  induction d with
  | zero =>
    intro k f Y hk hf
    obtain ⟨f, rfl⟩ := fuel hf
    obtain rfl : k = 12 := by omega
    unfold f_X2_copyFrom_30
    rw [if_pos (by decide)]
    exact ex_xs hj (cp_no Y j j1) fun _ c => ex_xs hj c fun _ c => ex_s (c.mono fun k i f => by omega)
  | succ d ih =>
    intro k f Y hk hf
    obtain ⟨f, rfl⟩ := fuel hf
    unfold f_X2_copyFrom_30
    rw [if_neg (show ¬ (12 : Int32) ≤ nI k from nI_ge (a := k) (b := 12) (by omega) (by decide)), gd_t (nI_in (by omega) (by decide)), gd_t (nI_in (by omega) (by decide)), nI_clamp (by omega)]
    refine ex_bn1 (cp_X7 hj) fun Z c => ?_
    rw [show nI k + 1 = nI (k + 1) from nI_add k 1]
    refine (ih (k + 1) f Z (by omega) (by omega)).mono fun W c2 => ?_
    exact (c.comp hj c2).mono fun k' i f => by omega
set_option maxRecDepth 20000 in
theorem cp_X2_2 (hj : j1 ≠ j) : ∀ d k f (Y : XT), k + d = 5 → d < f → EX (f_X2_copyFrom_2 j j1 f Y (nI k)) (CP (fun k' i f => (k' = 26 ∧ k ≤ i ∧ i < 5 ∧ f < 4) ∨ (k' = 27 ∧ i < 12 ∧ f < 4) ∨ (k' = 23 ∧ i = 0 ∧ (f = 2 ∨ f = 3))) Y j j1) := by
  intro d
  induction d with
  | zero =>
    intro k f Y hk hf
    obtain ⟨f, rfl⟩ := fuel hf
    obtain rfl : k = 5 := by omega
    unfold f_X2_copyFrom_2
    rw [if_pos (by decide)]
    exact (cp_X2_30 hj 12 0 2000 Y rfl (by decide)).mono fun W c => c.mono fun k i f => by omega
  | succ d ih =>
    intro k f Y hk hf
    obtain ⟨f, rfl⟩ := fuel hf
    unfold f_X2_copyFrom_2
    rw [if_neg (show ¬ (5 : Int32) ≤ nI k from nI_ge (a := k) (b := 5) (by omega) (by decide)), gd_t (nI_in (by omega) (by decide)), gd_t (nI_in (by omega) (by decide)), nI_clamp (by omega)]
    refine ex_bn1 (cp_X9 hj) fun Z c => ?_
    rw [show nI k + 1 = nI (k + 1) from nI_add k 1]
    refine (ih (k + 1) f Z (by omega) (by omega)).mono fun W c2 => ?_
    exact (c.comp hj c2).mono fun k' i f => by omega
/-- the places of a book that count -/
def inB (k i f : Nat) : Prop := match k with
  | 10 => i = 0 ∧ 4 ≤ f ∧ f ≤ 6
  | 11 => i = 0 ∧ (f = 3 ∨ f = 4)
  | 12 => i = 0 ∧ f < 4
  | 13 => i = 0 ∧ f < 4
  | 14 => i = 0 ∧ f < 16
  | 15 => i = 0 ∧ (f = 4 ∨ f = 5)
  | 16 => i = 0 ∧ f < 6
  | 17 => i = 0 ∧ f < 8
  | 18 => i = 0 ∧ f < 8
  | 19 => i = 0 ∧ f < 8
  | 20 => i = 0 ∧ f = 1
  | 22 => i < 20 ∧ f < 9
  | 23 => i = 0 ∧ (f = 2 ∨ f = 3)
  | 26 => i < 5 ∧ f < 4
  | 27 => i < 12 ∧ f < 4
  | _ => False
set_option maxRecDepth 20000 in
theorem cp_X0 (hj : j1 ≠ j) (hb : ∀ i, i < 20 → X 22 j1 i 7 = 0 ∨ X 22 j1 i 7 = 1) : EX (f_X0_copyFrom X j j1) (CP inB X j j1) := by
  unfold f_X0_copyFrom
  refine ex_bn1 (cp_X1 hj) fun _ c => ?_
  refine ex_bn1 (cp_X5 hj) fun _ c' => ?_
  have c := c.comp hj c'
  refine ex_bn1 (cp_X3 hj fun i hi => by rw [c.2 22 j1 i 7 (Or.inl hj)]; exact hb i hi) fun _ c' => ?_
  have c := c.comp hj c'
  refine ex_bn1 (cp_X2_2 hj 5 0 2000 _ rfl (by decide)) fun _ c' => ?_
  have c := c.comp hj c'
  refine ex_xs hj c fun _ c => ?_
  refine ex_xs hj c fun _ c => ?_
  refine ex_xs hj c fun _ c => ?_
  exact ex_s (c.mono fun k i f => by unfold inB; split <;> first | (simp; done) | (simp; omega) | (rename_i q0 q1 q2 q3 q4 q5 q6 q7 q8 q9 q10 q11 q12 q13 q14; simp [show ¬ k = 10 from q0, show ¬ k = 11 from q1, show ¬ k = 12 from q2, show ¬ k = 13 from q3, show ¬ k = 14 from q4, show ¬ k = 15 from q5, show ¬ k = 16 from q6, show ¬ k = 17 from q7, show ¬ k = 18 from q8, show ¬ k = 19 from q9, show ¬ k = 20 from q10, show ¬ k = 22 from q11, show ¬ k = 23 from q12, show ¬ k = 26 from q13, show ¬ k = 27 from q14]; done))
end CPS
set_option maxRecDepth 20000 in
/-- the relation of a book and a row reads only places that count -/
theorem psum_eq {X X' : XT} {j j' : Nat} : ∀ n, (∀ i, i < n → X' 22 j' i 8 = X 22 j i 8) → psum X' j' n = psum X j n := by
  intro n
  induction n with
  | zero => intro _; rfl
  | succ n ih =>
    intro h
    show psum X' j' n + X' 22 j' n 8 = psum X j n + X 22 j n 8
    rw [ih fun i hi => h i (by omega), h n (by omega)]
set_option maxRecDepth 20000 in
theorem BRn.eq {X X' : XT} {j j' : Nat} {r : Nat → Int32} {nc nv ng np nl nt nb : Nat} (h : BRn X j r nc nv ng np nl nt nb) (e : ∀ k i f, inB k i f → X' k j' i f = X k j i f) : BRn X' j' r nc nv ng np nl nt nb := by
  obtain ⟨⟨b1, b2, b3, b4, b5, b6, b7⟩, c, m, h1, h2, h3, h4, h5, h6, h7, h8, h9⟩ := h
  refine ⟨⟨b1, b2, b3, b4, b5, b6, b7⟩, ?_, ?_, ?_, ?_, ?_, ?_, ?_, ?_, ?_, h8, h9⟩
  · rw [e 11 0 3 (by show _ ∧ _; omega), e 11 0 4 (by show _ ∧ _; omega), e 15 0 4 (by show _ ∧ _; omega), e 15 0 5 (by show _ ∧ _; omega), e 20 0 1 (by show _ ∧ _; omega), e 23 0 2 (by show _ ∧ _; omega), e 23 0 3 (by show _ ∧ _; omega)]
    exact c
  · rw [e 10 0 4 (by show _ ∧ _; omega), e 10 0 5 (by show _ ∧ _; omega), e 10 0 6 (by show _ ∧ _; omega), psum_eq nl fun i hi => e 22 i 8 (by show _ ∧ _; omega)]
    exact m
  · intro k hk
    rw [e 12 0 k (by show _ ∧ _; omega)]
    exact h1 k hk
  · intro k hk
    have := h2 k hk
    unfold VR at this ⊢
    rw [e 13 0 k (by show _ ∧ _; omega)]
    refine ⟨this.1, fun g hg => ?_⟩
    rw [e 14 0 (k * 4 + g) (by show _ ∧ _; omega)]
    exact this.2 g hg
  · intro k hk
    rw [e 16 0 k (by show _ ∧ _; omega)]
    exact h3 k hk
  · intro k hk
    have := h4 k hk
    unfold PR at this ⊢
    rw [e 17 0 k (by show _ ∧ _; omega), e 18 0 k (by show _ ∧ _; omega), e 19 0 k (by show _ ∧ _; omega)]
    exact this
  · intro k hk
    obtain ⟨p, w, s, g, t, hp, rest⟩ := h5 k hk
    refine ⟨p, w, s, g, t, hp, ?_⟩
    rw [e 22 k 0 (by show _ ∧ _; omega), e 22 k 1 (by show _ ∧ _; omega), e 22 k 2 (by show _ ∧ _; omega), e 22 k 3 (by show _ ∧ _; omega), e 22 k 4 (by show _ ∧ _; omega), e 22 k 5 (by show _ ∧ _; omega), e 22 k 6 (by show _ ∧ _; omega), e 22 k 7 (by show _ ∧ _; omega), e 22 k 8 (by show _ ∧ _; omega), e 17 0 p (by show _ ∧ _; omega), e 18 0 p (by show _ ∧ _; omega)]
    exact rest
  · intro k hk
    have := h6 k hk
    unfold TR at this ⊢
    rw [e 26 k 0 (by show _ ∧ _; omega), e 26 k 1 (by show _ ∧ _; omega), e 26 k 2 (by show _ ∧ _; omega), e 26 k 3 (by show _ ∧ _; omega)]
    exact this
  · intro k hk
    have := h7 k hk
    unfold OR at this ⊢
    rw [e 27 k 0 (by show _ ∧ _; omega), e 27 k 1 (by show _ ∧ _; omega), e 27 k 2 (by show _ ∧ _; omega), e 27 k 3 (by show _ ∧ _; omega)]
    exact this
