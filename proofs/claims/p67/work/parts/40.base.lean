/-! PURE: the class's numbers beside the script's: small facts, sums, the invariant -/
set_option maxRecDepth 20000 in
theorem bn1_s {α β : Type} (a : α) (k : α → Option β) : bn1 (some a) k = k a := rfl
set_option maxRecDepth 20000 in
theorem bn2_s {α γ β : Type} (a : α) (b : γ) (k : α → γ → Option β) : bn2 (some (a, b)) k = k a b := rfl
set_option maxRecDepth 20000 in
theorem bnd_s {α β : Type} (a : α) (k : α → β) : bnd a k = k a := rfl
set_option maxRecDepth 20000 in
theorem gd_t {α : Type} {c : Prop} [Decidable c] (h : c) (a : Option α) : gd c a = a := if_pos h
set_option maxRecDepth 20000 in
theorem fuel {d f : Nat} (h : d < f) : ∃ f', f = f' + 1 := ⟨f - 1, by omega⟩
set_option maxRecDepth 20000 in
theorem nI_m1 {k : Nat} (h : k < 2 ^ 31) : ¬ nI k = -1 := by
  intro e
  have := congrArg Int32.toInt e
  rw [nI_toInt h] at this
  have h2 : (-1 : Int32).toInt = -1 := by decide
  omega
set_option maxRecDepth 20000 in
theorem m1_lt0 : ((-1 : Int32) < 0) := by decide
set_option maxRecDepth 20000 in
theorem nI_01 {k : Nat} (h : k < 2 ^ 31) : nI k = 0 ↔ k = 0 := nI_eq h (by decide)
set_option maxRecDepth 20000 in
theorem nI_le0 {k : Nat} (h : k < 2 ^ 31) : nI k ≤ 0 ↔ k = 0 := by
  have := nI_leI (a := k) (b := 0) h (by decide)
  exact this.trans Nat.le_zero
set_option maxRecDepth 20000 in
theorem nI_0le {k : Nat} (h : k < 2 ^ 31) : 0 < nI k ↔ 0 < k := nI_ltI (a := 0) (by decide) h
set_option maxRecDepth 20000 in
theorem nI_lt0 {k : Nat} (h : k < 2 ^ 31) : nI k < 0 ↔ False := ⟨fun q => nI_pos h q, fun q => q.elim⟩
set_option maxRecDepth 20000 in
theorem nI_add1 (a : Nat) : 1 + nI a = nI (1 + a) := nI_add 1 a
set_option maxRecDepth 20000 in
theorem nI_in' {c N : Nat} (h : c < N) (hN : N < 2 ^ 31) : (nI c < 0 ∨ N ≤ (nI c).toNatClampNeg) ↔ False := ⟨nI_in h hN, fun q => q.elim⟩
/-- the sum of f from k on, d terms -/
def SR (f : Nat → Nat) (k : Nat) : Nat → Nat | 0 => 0 | d + 1 => f k + SR f (k + 1) d
set_option maxRecDepth 20000 in
theorem SR_last (f : Nat → Nat) : ∀ d k, SR f k (d + 1) = SR f k d + f (k + d) := by
  intro d
  induction d with
  | zero =>
    intro k
    simp [SR]
  | succ d ih =>
    intro k
    rw [SR, ih (k + 1), SR]
    have : k + 1 + d = k + (d + 1) := by omega
    rw [this]
    omega
set_option maxRecDepth 20000 in
theorem SR_succ (f : Nat → Nat) (d : Nat) : SR f 0 (d + 1) = SR f 0 d + f d := by
  rw [SR_last, Nat.zero_add]
set_option maxRecDepth 20000 in
theorem SR_congr {f g : Nat → Nat} : ∀ d k, (∀ i, k ≤ i → i < k + d → f i = g i) → SR f k d = SR g k d := by
  intro d
  induction d with
  | zero => exact fun _ _ => rfl
  | succ d ih =>
    intro k h
    rw [SR, SR, h k (by omega) (by omega), ih (k + 1) (fun i h1 h2 => h i (by omega) (by omega))]
set_option maxRecDepth 20000 in
theorem SR_le {f : Nat → Nat} {B : Nat} : ∀ d k, (∀ i, k ≤ i → i < k + d → f i ≤ B) → SR f k d ≤ d * B := by
  intro d
  induction d with
  | zero => exact fun _ _ => Nat.zero_le _
  | succ d ih =>
    intro k h
    have h1 := h k (by omega) (by omega)
    have h2 := ih (k + 1) (fun i h1 h2 => h i (by omega) (by omega))
    rw [SR, Nat.succ_mul]
    omega
set_option maxRecDepth 20000 in
theorem SR_mono {f g : Nat → Nat} : ∀ d k, (∀ i, k ≤ i → i < k + d → f i ≤ g i) → SR f k d ≤ SR g k d := by
  intro d
  induction d with
  | zero => exact fun _ _ => Nat.le_refl _
  | succ d ih =>
    intro k h
    have h1 := h k (by omega) (by omega)
    have h2 := ih (k + 1) (fun i h1 h2 => h i (by omega) (by omega))
    rw [SR, SR]
    omega
set_option maxRecDepth 20000 in
theorem SR_one {f : Nat → Nat} {d i : Nat} (h : i < d) : f i ≤ SR f 0 d := by
  induction d with
  | zero => omega
  | succ d ih =>
    rw [SR_succ]
    by_cases q : i = d
    · subst q
      omega
    · have := ih (by omega)
      omega
set_option maxRecDepth 20000 in
/-- one term of a sum changes -/
theorem SR_upd {f g : Nat → Nat} {i : Nat} : ∀ d k, k ≤ i → i < k + d → (∀ j, j ≠ i → g j = f j) → SR g k d + f i = SR f k d + g i := by
  intro d
  induction d with
  | zero =>
    intro k h1 h2
    omega
  | succ d ih =>
    intro k h1 h2 h3
    rw [SR, SR]
    by_cases q : k = i
    · subst q
      rw [SR_congr (f := g) (g := f) d (k + 1) (fun j a _ => h3 j (by omega))]
      omega
    · have := ih (k + 1) (by omega) (by omega) h3
      rw [h3 k q]
      omega
abbrev NF : Type := Nat → Nat → Nat
/-- the class of a sugar -/
def grL (C : NF) (s : Nat) : Nat → Nat → Int32 | 0, _ => -1 | d + 1, k => if s < C 1 k then grL C s d (k + 1) else nI k
def gr (C : NF) (s : Nat) : Int32 := grL C s (C 0 0) 0
/-- what a plot has brought with the first k loads -/
def kil (A : NF) (p k : Nat) : Nat := SR (fun i => if A 1 i = p then A 2 i else 0) 0 k
def CO (C : NF) : Prop := (1 ≤ C 0 0 ∧ C 0 0 ≤ 4 ∧ C 0 1 ≤ 3 ∧ C 0 2 ≤ 4 ∧ C 0 3 ≤ 5 ∧ C 0 4 ≤ 5) ∧ (∀ p, p < C 0 3 → C 2 p < C 0 2 ∧ C 3 p < C 0 1 ∧ C 4 p ≤ 2400) ∧ (∀ t, t < C 0 4 → C 5 t ≤ 3000) ∧ (∀ k, k < C 0 0 → C 1 k ≤ 200)
def LV (X : XT) (C A : NF) (k : Nat) : Prop := (A 1 k < C 0 3 ∧ 1 ≤ A 2 k ∧ A 2 k ≤ 700 ∧ A 3 k < 190 ∧ A 4 k < C 0 0 ∧ A 5 k < C 0 4) ∧ (X 22 1 k 0 = nI (A 1 k) ∧ X 22 1 k 1 = nI (C 2 (A 1 k)) ∧ X 22 1 k 2 = nI (C 3 (A 1 k)) ∧ X 22 1 k 3 = nI (A 2 k) ∧ X 22 1 k 4 = nI (A 3 k) ∧ X 22 1 k 5 = nI (A 4 k) ∧ X 22 1 k 6 = nI (A 5 k)) ∧ (X 22 1 k 7 = nI (A 6 k) ∧ A 6 k ≤ 1 ∧ X 22 1 k 8 = nI (A 7 k) ∧ A 7 k ≤ 27300 ∧ (A 6 k = 0 → A 7 k = 0)) ∧ nI (A 4 k) = (if C 4 (A 1 k) < kil A (A 1 k) (k + 1) then nI (C 0 0 - 1) else gr C (A 3 k)) ∧ ¬ gr C (A 3 k) = -1
def TV (X : XT) (C A : NF) (t : Nat) : Prop := A 9 t ≤ C 5 t ∧ X 26 1 t 0 = nI (C 5 t) ∧ X 26 1 t 1 = nI (A 9 t) ∧ X 26 1 t 2 = (if A 9 t = 0 then -1 else nI (A 10 t)) ∧ X 26 1 t 3 = nI (A 11 t) ∧ (0 < A 9 t → A 10 t < C 0 1) ∧ (A 9 t = 0 → A 11 t = 0)
def OV (X : XT) (C A : NF) (b : Nat) : Prop := (A 12 b < C 0 1 ∧ A 15 b ≤ A 14 b ∧ A 13 b ≤ 2660000) ∧ X 27 1 b 0 = nI (A 12 b) ∧ X 27 1 b 1 = nI (A 13 b) ∧ X 27 1 b 2 = nI (A 14 b) ∧ X 27 1 b 3 = nI (A 15 b)
/-- book 1 holds what A says, of a cooperative as C tells it -/
def IV (X : XT) (C A : NF) : Prop :=
  (A 0 0 ≤ 20 ∧ A 0 1 ≤ 12 ∧ A 0 2 ≤ 1000000000) ∧
  (X 11 1 0 3 = nI (C 0 0) ∧ X 11 1 0 4 = nI (C 0 1) ∧ X 15 1 0 4 = nI (C 0 2) ∧ X 15 1 0 5 = nI (C 0 3) ∧ X 20 1 0 1 = nI (A 0 0) ∧ X 23 1 0 2 = nI (C 0 4) ∧ X 23 1 0 3 = nI (A 0 1)) ∧
  (X 10 1 0 6 = nI (A 0 2) ∧ X 10 1 0 4 + X 10 1 0 5 = nI (SR (A 7) 0 (A 0 0)) + X 10 1 0 6) ∧
  (∀ k, k < C 0 0 → X 12 1 0 k = nI (C 1 k)) ∧
  (∀ v, v < C 0 1 → ∀ g, g < C 0 0 → X 14 1 0 (v * 4 + g) = nI (A 8 (v * 4 + g)) ∧ A 8 (v * 4 + g) ≤ 39) ∧
  (∀ p, p < C 0 3 → X 17 1 0 p = nI (C 2 p) ∧ X 18 1 0 p = nI (C 3 p) ∧ X 19 1 0 p = nI (C 4 p)) ∧
  (∀ k, k < A 0 0 → LV X C A k) ∧ (∀ t, t < C 0 4 → TV X C A t) ∧ (∀ b, b < A 0 1 → OV X C A b) ∧
  (SR (A 2) 0 (A 0 0) = SR (A 9) 0 (C 0 4) + SR (A 14) 0 (A 0 1) ∧ SR (A 11) 0 (C 0 4) ≤ 133000 * A 0 0) ∧
  (∀ k, k < 20 → X 22 1 k 7 = 0 ∨ X 22 1 k 7 = 1)
section IVS
variable {X : XT} {C A : NF}
set_option maxRecDepth 20000 in
theorem CO.b (h : CO C) : 1 ≤ C 0 0 ∧ C 0 0 ≤ 4 ∧ C 0 1 ≤ 3 ∧ C 0 2 ≤ 4 ∧ C 0 3 ≤ 5 ∧ C 0 4 ≤ 5 := h.1
set_option maxRecDepth 20000 in
theorem CO.p (h : CO C) {p : Nat} (hp : p < C 0 3) : C 2 p < C 0 2 ∧ C 3 p < C 0 1 ∧ C 4 p ≤ 2400 := h.2.1 p hp
set_option maxRecDepth 20000 in
theorem CO.t (h : CO C) {t : Nat} (ht : t < C 0 4) : C 5 t ≤ 3000 := h.2.2.1 t ht
set_option maxRecDepth 20000 in
theorem CO.k (h : CO C) {k : Nat} (hk : k < C 0 0) : C 1 k ≤ 200 := h.2.2.2 k hk
set_option maxRecDepth 20000 in
theorem IV.b (h : IV X C A) : A 0 0 ≤ 20 ∧ A 0 1 ≤ 12 ∧ A 0 2 ≤ 1000000000 := h.1
set_option maxRecDepth 20000 in
theorem IV.c (h : IV X C A) : X 11 1 0 3 = nI (C 0 0) ∧ X 11 1 0 4 = nI (C 0 1) ∧ X 15 1 0 4 = nI (C 0 2) ∧ X 15 1 0 5 = nI (C 0 3) ∧ X 20 1 0 1 = nI (A 0 0) ∧ X 23 1 0 2 = nI (C 0 4) ∧ X 23 1 0 3 = nI (A 0 1) := h.2.1
set_option maxRecDepth 20000 in
theorem IV.m (h : IV X C A) : X 10 1 0 6 = nI (A 0 2) ∧ X 10 1 0 4 + X 10 1 0 5 = nI (SR (A 7) 0 (A 0 0)) + X 10 1 0 6 := h.2.2.1
set_option maxRecDepth 20000 in
theorem IV.cl (h : IV X C A) {k : Nat} (hk : k < C 0 0) : X 12 1 0 k = nI (C 1 k) := h.2.2.2.1 k hk
set_option maxRecDepth 20000 in
theorem IV.pr (h : IV X C A) {v g : Nat} (hv : v < C 0 1) (hg : g < C 0 0) : X 14 1 0 (v * 4 + g) = nI (A 8 (v * 4 + g)) ∧ A 8 (v * 4 + g) ≤ 39 := h.2.2.2.2.1 v hv g hg
set_option maxRecDepth 20000 in
theorem IV.p (h : IV X C A) {p : Nat} (hp : p < C 0 3) : X 17 1 0 p = nI (C 2 p) ∧ X 18 1 0 p = nI (C 3 p) ∧ X 19 1 0 p = nI (C 4 p) := h.2.2.2.2.2.1 p hp
set_option maxRecDepth 20000 in
theorem IV.l (h : IV X C A) {k : Nat} (hk : k < A 0 0) : LV X C A k := h.2.2.2.2.2.2.1 k hk
set_option maxRecDepth 20000 in
theorem IV.t (h : IV X C A) {t : Nat} (ht : t < C 0 4) : TV X C A t := h.2.2.2.2.2.2.2.1 t ht
set_option maxRecDepth 20000 in
theorem IV.o (h : IV X C A) {b : Nat} (hb : b < A 0 1) : OV X C A b := h.2.2.2.2.2.2.2.2.1 b hb
set_option maxRecDepth 20000 in
theorem IV.s (h : IV X C A) : SR (A 2) 0 (A 0 0) = SR (A 9) 0 (C 0 4) + SR (A 14) 0 (A 0 1) ∧ SR (A 11) 0 (C 0 4) ≤ 133000 * A 0 0 := h.2.2.2.2.2.2.2.2.2.1
set_option maxRecDepth 20000 in
theorem IV.f (h : IV X C A) {k : Nat} (hk : k < 20) : X 22 1 k 7 = 0 ∨ X 22 1 k 7 = 1 := h.2.2.2.2.2.2.2.2.2.2 k hk
end IVS
set_option maxRecDepth 20000 in
theorem grL_ok {C : NF} {s : Nat} : ∀ d k, k + d = C 0 0 → grL C s d k = -1 ∨ ∃ g, g < C 0 0 ∧ grL C s d k = nI g := by
  intro d
  induction d with
  | zero => exact fun _ _ => Or.inl rfl
  | succ d ih =>
    intro k h
    rw [grL]
    split
    · exact ih (k + 1) (by omega)
    · exact Or.inr ⟨k, by omega, rfl⟩
set_option maxRecDepth 20000 in
theorem gr_or (C : NF) (s : Nat) : gr C s = -1 ∨ ∃ g, g < C 0 0 ∧ gr C s = nI g := grL_ok _ 0 (by omega)
/-- a draw of the script -/
def dr (sc : Nat × (Nat → Int32)) (k n : Nat) : Nat := (if k < sc.1 then (sc.2 k).toBitVec.toNat % 2 ^ 31 else 0) % n
set_option maxRecDepth 20000 in
theorem dr_lt {sc : Nat × (Nat → Int32)} {k n : Nat} (h : 0 < n) : dr sc k n < n := Nat.mod_lt _ h
set_option maxRecDepth 20000 in
theorem draw_ok {sc : Nat × (Nat → Int32)} (hL : sc.1 ≤ 260) {k n : Nat} (hk : k < 2 ^ 31) (h0 : 0 < n) (hn : n < 2 ^ 31) : f_L_draw sc (nI k) (nI n) = some (nI (dr sc k n)) := by
  unfold f_L_draw dr
  have e : ∀ x : Int32, x &&& 2147483647 = nI (x.toBitVec.toNat % 2 ^ 31) := fun x => pk_and x 31 (by decide)
  rw [bnd_s]
  by_cases h : k < sc.1
  · rw [if_neg (nI_ge h (by omega)), if_pos h, gd_t (nI_in h (by omega)), nI_clamp hk, bnd_s, gd_t (nI_ne0 h0 hn), e, pk_rem (Nat.mod_lt _ (by decide)) h0 hn]
  · rw [if_pos (nI_le (by omega) hk), if_neg h, gd_t (nI_ne0 h0 hn), show (0 : Int32) &&& 2147483647 = nI 0 by decide, pk_rem (by decide) h0 hn]
