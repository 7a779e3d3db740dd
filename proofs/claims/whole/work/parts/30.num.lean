/-! PURE: the class's numbers beside the reference's: small facts, places of the reference's row, the relation of a book and a row -/
theorem bn1_s {α β : Type} (a : α) (k : α → Option β) : bn1 (some a) k = k a := rfl
theorem bn2_s {α γ β : Type} (a : α) (b : γ) (k : α → γ → Option β) : bn2 (some (a, b)) k = k a b := rfl
theorem bnd_s {α β : Type} (a : α) (k : α → β) : bnd a k = k a := rfl
theorem gd_t {α : Type} {c : Prop} [Decidable c] (h : c) (a : Option α) : gd c a = a := if_pos h
theorem fuel {d f : Nat} (h : d < f) : ∃ f', f = f' + 1 := ⟨f - 1, by omega⟩
theorem nI_m1 {k : Nat} (h : k < 2 ^ 31) : ¬ nI k = -1 := by
  intro e
  have := congrArg Int32.toInt e
  rw [nI_toInt h] at this
  have h2 : (-1 : Int32).toInt = -1 := by decide
  omega
theorem m1_lt0 : ((-1 : Int32) < 0) := by decide
theorem nI_01 {k : Nat} (h : k < 2 ^ 31) : nI k = 0 ↔ k = 0 := nI_eq h (by decide)
theorem nI_le0 {k : Nat} (h : k < 2 ^ 31) : nI k ≤ 0 ↔ k = 0 := by
  have := nI_leI (a := k) (b := 0) h (by decide)
  exact this.trans Nat.le_zero
/-- places of the reference's row -/
def iL (k w : Nat) : Nat := 76 + 6 * k + w
def iP (k w : Nat) : Nat := 52 + 3 * k + w
def iT (k w : Nat) : Nat := 196 + 4 * k + w
def iB (k w : Nat) : Nat := 216 + 4 * k + w
def iV (k w : Nat) : Nat := 16 + 6 * k + w
def iG (k w : Nat) : Nat := 40 + 2 * k + w
theorem ix_L (k w : Nat) : ((76 : Int32) + 6 * nI k) + nI w = nI (iL k w) := by
  rw [show (76 : Int32) = nI 76 from rfl, show (6 : Int32) = nI 6 from rfl, pk_mul, nI_add, nI_add]; rfl
theorem ix_P (k w : Nat) : ((52 : Int32) + 3 * nI k) + nI w = nI (iP k w) := by
  rw [show (52 : Int32) = nI 52 from rfl, show (3 : Int32) = nI 3 from rfl, pk_mul, nI_add, nI_add]; rfl
theorem ix_T (k w : Nat) : ((196 : Int32) + 4 * nI k) + nI w = nI (iT k w) := by
  rw [show (196 : Int32) = nI 196 from rfl, show (4 : Int32) = nI 4 from rfl, pk_mul, nI_add, nI_add]; rfl
theorem ix_B (k w : Nat) : ((216 : Int32) + 4 * nI k) + nI w = nI (iB k w) := by
  rw [show (216 : Int32) = nI 216 from rfl, show (4 : Int32) = nI 4 from rfl, pk_mul, nI_add, nI_add]; rfl
theorem ix_V (k w : Nat) : ((16 : Int32) + 6 * nI k) + nI w = nI (iV k w) := by
  rw [show (16 : Int32) = nI 16 from rfl, show (6 : Int32) = nI 6 from rfl, pk_mul, nI_add, nI_add]; rfl
theorem ix_G (k w : Nat) : ((40 : Int32) + 2 * nI k) + nI w = nI (iG k w) := by
  rw [show (40 : Int32) = nI 40 from rfl, show (2 : Int32) = nI 2 from rfl, pk_mul, nI_add, nI_add]; rfl
theorem ix_V2 (k g : Nat) : (((16 : Int32) + 6 * nI k) + 2) + nI g = nI (iV k (2 + g)) := by
  have := ix_V k 2
  rw [show (nI 2 : Int32) = 2 from rfl] at this
  rw [this, nI_add]
  exact congrArg nI (by unfold iV; omega)
section ACC
variable {M : MT} {k w : Nat}
theorem oL (h : k < 20) (hw : w < 6) : f_X12_ofLoad M (nI k) (nI w) = some (M.1 M.2.2 (iL k w)) := by
  unfold f_X12_ofLoad
  rw [bnd_s, ix_L, gd_t (nI_in (N := 264) (by unfold iL; omega) (by decide)), nI_clamp (by unfold iL; omega)]
theorem oP (h : k < 8) (hw : w < 3) : f_X12_ofPlot M (nI k) (nI w) = some (M.1 M.2.2 (iP k w)) := by
  unfold f_X12_ofPlot
  rw [bnd_s, ix_P, gd_t (nI_in (N := 264) (by unfold iP; omega) (by decide)), nI_clamp (by unfold iP; omega)]
theorem oT (h : k < 5) (hw : w < 4) : f_X12_ofTank M (nI k) (nI w) = some (M.1 M.2.2 (iT k w)) := by
  unfold f_X12_ofTank
  rw [bnd_s, ix_T, gd_t (nI_in (N := 264) (by unfold iT; omega) (by decide)), nI_clamp (by unfold iT; omega)]
theorem oB (h : k < 12) (hw : w < 4) : f_X12_ofLot M (nI k) (nI w) = some (M.1 M.2.2 (iB k w)) := by
  unfold f_X12_ofLot
  rw [bnd_s, ix_B, gd_t (nI_in (N := 264) (by unfold iB; omega) (by decide)), nI_clamp (by unfold iB; omega)]
theorem oV (h : k < 4) (hw : w < 4) : f_X12_priceOf M (nI k) (nI w) = some (M.1 M.2.2 (iV k (2 + w))) := by
  unfold f_X12_priceOf
  rw [bnd_s, ix_V2, gd_t (nI_in (N := 264) (by unfold iV; omega) (by decide)), nI_clamp (by unfold iV; omega)]
theorem sL (h : k < 20) (hw : w < 6) (v : Int32) : f_X12_setLoad M (nI k) (nI w) v = some (mi M M.2.2 (iL k w) v) := by
  unfold f_X12_setLoad
  rw [ix_L, gd_t (nI_in (N := 264) (by unfold iL; omega) (by decide)), nI_clamp (by unfold iL; omega)]; rfl
theorem sT (h : k < 5) (hw : w < 4) (v : Int32) : f_X12_setTank M (nI k) (nI w) v = some (mi M M.2.2 (iT k w) v) := by
  unfold f_X12_setTank
  rw [ix_T, gd_t (nI_in (N := 264) (by unfold iT; omega) (by decide)), nI_clamp (by unfold iT; omega)]; rfl
theorem sB (h : k < 12) (hw : w < 4) (v : Int32) : f_X12_setLot M (nI k) (nI w) v = some (mi M M.2.2 (iB k w) v) := by
  unfold f_X12_setLot
  rw [ix_B, gd_t (nI_in (N := 264) (by unfold iB; omega) (by decide)), nI_clamp (by unfold iB; omega)]; rfl
theorem sV (h : k < 4) (hw : w < 4) (v : Int32) : f_X12_setPriceNow M (nI k) (nI w) v = some (mi M M.2.2 (iV k (2 + w)) v) := by
  unfold f_X12_setPriceNow
  rw [ix_V2, gd_t (nI_in (N := 264) (by unfold iV; omega) (by decide)), nI_clamp (by unfold iV; omega)]; rfl
end ACC
/-- a word as the list of its letters, the last one first, packed to the base B -/
def pkN (B : Nat) : List Nat → Nat | [] => 0 | x :: w => B * pkN B w + x
def isW (w : List Nat) : Prop := ∀ x ∈ w, 1 ≤ x ∧ x ≤ 26
def nmR (a b c : Int32) : Prop := ∃ w : List Nat, 1 ≤ w.length ∧ w.length ≤ 4 ∧ isW w ∧ a = nI (pkN 32 w) ∧ b = nI (pkN 27 w) ∧ c = nI w.length
/-- what is paid for the first k loads -/
def psum (X : XT) (j : Nat) : Nat → Int32 | 0 => 0 | k + 1 => psum X j k + X 22 j k 8
/-- the sugar in the five tanks -/
def sgT (r : Nat → Int32) : Nat := (r (iT 0 3)).toNatClampNeg + (r (iT 1 3)).toNatClampNeg + (r (iT 2 3)).toNatClampNeg + (r (iT 3 3)).toNatClampNeg + (r (iT 4 3)).toNatClampNeg
def LR (X : XT) (j : Nat) (r : Nat → Int32) (nc np nt k : Nat) : Prop := ∃ p w s g t, p < np ∧ 1 ≤ w ∧ w ≤ 5000 ∧ s ≤ 250 ∧ g < nc ∧ t < nt ∧ (X 22 j k 0 = nI p ∧ r (iL k 0) = nI p) ∧ X 22 j k 1 = X 17 j 0 p ∧ X 22 j k 2 = X 18 j 0 p ∧ (X 22 j k 3 = nI w ∧ r (iL k 1) = nI w) ∧ (X 22 j k 4 = nI s ∧ r (iL k 2) = nI s) ∧ (X 22 j k 5 = nI g ∧ r (iL k 3) = nI g) ∧ (X 22 j k 6 = nI t ∧ r (iL k 4) = nI t) ∧ ((X 22 j k 7 = 0 ∧ r (iL k 5) = -1 ∧ X 22 j k 8 = 0) ∨ (X 22 j k 7 = 1 ∧ ∃ q, q ≤ 4995000 ∧ r (iL k 5) = nI q ∧ X 22 j k 8 = nI q))
def TR (X : XT) (j : Nat) (r : Nat → Int32) (nv k : Nat) : Prop := ∃ ca co sg, co ≤ ca ∧ ca ≤ 20000 ∧ sg < 2 ^ 30 ∧ (X 26 j k 0 = nI ca ∧ r (iT k 0) = nI ca) ∧ (X 26 j k 1 = nI co ∧ r (iT k 1) = nI co) ∧ X 26 j k 2 = r (iT k 2) ∧ (X 26 j k 3 = nI sg ∧ r (iT k 3) = nI sg) ∧ ((co = 0 ∧ r (iT k 2) = -1 ∧ sg = 0) ∨ (0 < co ∧ ∃ v, v < nv ∧ r (iT k 2) = nI v))
def OR (X : XT) (j : Nat) (r : Nat → Int32) (nv k : Nat) : Prop := ∃ v s m u, v < nv ∧ s < 2 ^ 30 ∧ m ≤ 20000 ∧ u ≤ m ∧ (X 27 j k 0 = nI v ∧ r (iB k 0) = nI v) ∧ (X 27 j k 1 = nI s ∧ r (iB k 1) = nI s) ∧ (X 27 j k 2 = nI m ∧ r (iB k 2) = nI m) ∧ (X 27 j k 3 = nI u ∧ r (iB k 3) = nI u)
def VR (X : XT) (j : Nat) (r : Nat → Int32) (nc k : Nat) : Prop := nmR (X 13 j 0 k) (r (iV k 0)) (r (iV k 1)) ∧ ∀ g, g < nc → ∃ c, c ≤ 999 ∧ X 14 j 0 (k * 4 + g) = nI c ∧ r (iV k (2 + g)) = nI c
def PR (X : XT) (j : Nat) (r : Nat → Int32) (ng nv k : Nat) : Prop := ∃ o v, o < ng ∧ v < nv ∧ (X 17 j 0 k = nI o ∧ r (iP k 0) = nI o) ∧ (X 18 j 0 k = nI v ∧ r (iP k 1) = nI v) ∧ X 19 j 0 k = r (iP k 2) * r 0
def BRn (X : XT) (j : Nat) (r : Nat → Int32) (nc nv ng np nl nt nb : Nat) : Prop :=
  (nc ≤ 4 ∧ nv ≤ 4 ∧ ng ≤ 6 ∧ np ≤ 8 ∧ nl ≤ 20 ∧ nt ≤ 5 ∧ nb ≤ 12) ∧
  ((X 11 j 0 3 = nI nc ∧ r 3 = nI nc) ∧ (X 11 j 0 4 = nI nv ∧ r 4 = nI nv) ∧ (X 15 j 0 4 = nI ng ∧ r 5 = nI ng) ∧ (X 15 j 0 5 = nI np ∧ r 6 = nI np) ∧ (X 20 j 0 1 = nI nl ∧ r 7 = nI nl) ∧ (X 23 j 0 2 = nI nt ∧ r 8 = nI nt) ∧ (X 23 j 0 3 = nI nb ∧ r 9 = nI nb)) ∧
  (X 10 j 0 4 = r 1 ∧ X 10 j 0 5 = r 10 ∧ X 10 j 0 6 = r 2 ∧ (∃ ca, ca ≤ 1000000000 ∧ r 2 = nI ca) ∧ r 11 = psum X j nl ∧ sgT r ≤ 1250000 * nl) ∧
  (∀ k, k < nc → X 12 j 0 k = r (12 + k)) ∧ (∀ k, k < nv → VR X j r nc k) ∧ (∀ k, k < ng → nmR (X 16 j 0 k) (r (iG k 0)) (r (iG k 1))) ∧ (∀ k, k < np → PR X j r ng nv k) ∧
  (∀ k, k < nl → LR X j r nc np nt k) ∧ (∀ k, k < nt → TR X j r nv k) ∧ (∀ k, k < nb → OR X j r nv k) ∧
  (∀ k, nt ≤ k → k < 5 → r (iT k 1) = 0 ∧ r (iT k 3) = 0) ∧ (∀ k, nv ≤ k → k < 4 → ∀ g, g < 4 → r (iV k (2 + g)) = 0)
def BR (X : XT) (j : Nat) (r : Nat → Int32) : Prop := ∃ nc nv ng np nl nt nb, BRn X j r nc nv ng np nl nt nb
section BRS
variable {X : XT} {j : Nat} {r : Nat → Int32} {nc nv ng np nl nt nb : Nat}
theorem BRn.b (h : BRn X j r nc nv ng np nl nt nb) : nc ≤ 4 ∧ nv ≤ 4 ∧ ng ≤ 6 ∧ np ≤ 8 ∧ nl ≤ 20 ∧ nt ≤ 5 ∧ nb ≤ 12 := h.1
theorem BRn.c (h : BRn X j r nc nv ng np nl nt nb) : (X 11 j 0 3 = nI nc ∧ r 3 = nI nc) ∧ (X 11 j 0 4 = nI nv ∧ r 4 = nI nv) ∧ (X 15 j 0 4 = nI ng ∧ r 5 = nI ng) ∧ (X 15 j 0 5 = nI np ∧ r 6 = nI np) ∧ (X 20 j 0 1 = nI nl ∧ r 7 = nI nl) ∧ (X 23 j 0 2 = nI nt ∧ r 8 = nI nt) ∧ (X 23 j 0 3 = nI nb ∧ r 9 = nI nb) := h.2.1
theorem BRn.m (h : BRn X j r nc nv ng np nl nt nb) : X 10 j 0 4 = r 1 ∧ X 10 j 0 5 = r 10 ∧ X 10 j 0 6 = r 2 ∧ (∃ ca, ca ≤ 1000000000 ∧ r 2 = nI ca) ∧ r 11 = psum X j nl ∧ sgT r ≤ 1250000 * nl := h.2.2.1
theorem BRn.cl (h : BRn X j r nc nv ng np nl nt nb) {k : Nat} (hk : k < nc) : X 12 j 0 k = r (12 + k) := h.2.2.2.1 k hk
theorem BRn.v (h : BRn X j r nc nv ng np nl nt nb) {k : Nat} (hk : k < nv) : VR X j r nc k := h.2.2.2.2.1 k hk
theorem BRn.g (h : BRn X j r nc nv ng np nl nt nb) {k : Nat} (hk : k < ng) : nmR (X 16 j 0 k) (r (iG k 0)) (r (iG k 1)) := h.2.2.2.2.2.1 k hk
theorem BRn.p (h : BRn X j r nc nv ng np nl nt nb) {k : Nat} (hk : k < np) : PR X j r ng nv k := h.2.2.2.2.2.2.1 k hk
theorem BRn.l (h : BRn X j r nc nv ng np nl nt nb) {k : Nat} (hk : k < nl) : LR X j r nc np nt k := h.2.2.2.2.2.2.2.1 k hk
theorem BRn.t (h : BRn X j r nc nv ng np nl nt nb) {k : Nat} (hk : k < nt) : TR X j r nv k := h.2.2.2.2.2.2.2.2.1 k hk
theorem BRn.o (h : BRn X j r nc nv ng np nl nt nb) {k : Nat} (hk : k < nb) : OR X j r nv k := h.2.2.2.2.2.2.2.2.2.1 k hk
theorem BRn.zt (h : BRn X j r nc nv ng np nl nt nb) {k : Nat} (h1 : nt ≤ k) (h2 : k < 5) : r (iT k 1) = 0 ∧ r (iT k 3) = 0 := h.2.2.2.2.2.2.2.2.2.2.1 k h1 h2
theorem BRn.zv (h : BRn X j r nc nv ng np nl nt nb) {k g : Nat} (h1 : nv ≤ k) (h2 : k < 4) (h3 : g < 4) : r (iV k (2 + g)) = 0 := h.2.2.2.2.2.2.2.2.2.2.2 k h1 h2 g h3
end BRS
