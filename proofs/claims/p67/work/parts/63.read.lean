/-! PURE: a whole text is read -/
/-- the names as they are written -/
def vw (v : Nat) : List Int32 := strB.getD (winS v) []
def gwd (g : Nat) : List Int32 := strB.getD (groS g) []
def tT (D : NF) : Nat → Nat → List Int32 | 0, _ => [] | d + 1, k => strB.getD 6 [] ++ ([32] ++ (decL (D 5 k) ++ ([59] ++ tT D d (k + 1))))
def lT (D : NF) : Nat → Nat → List Int32 | 0, _ => tT D (D 0 4) 0 | d + 1, k => strB.getD 5 [] ++ ([32] ++ (gwd (D 2 k) ++ ([32] ++ (vw (D 3 k) ++ ([32] ++ (decL (D 6 k) ++ ([59] ++ lT D d (k + 1))))))))
def gT (D : NF) : Nat → Nat → List Int32 | 0, _ => lT D (D 0 3) 0 | d + 1, k => strB.getD 4 [] ++ ([32] ++ (gwd k ++ ([59] ++ gT D d (k + 1))))
def pI (D : NF) (v : Nat) (rest : List Int32) : Nat → Nat → List Int32 | 0, _ => rest | d + 1, g => strB.getD 3 [] ++ ([32] ++ (vw v ++ ([32] ++ (decL g ++ ([32] ++ (decL (D 7 (v * 4 + g)) ++ ([59] ++ pI D v rest d (g + 1))))))))
def pT (D : NF) : Nat → Nat → List Int32 | 0, _ => gT D (D 0 2) 0 | d + 1, v => pI D v (pT D d (v + 1)) (D 0 0) 0
def vT (D : NF) : Nat → Nat → List Int32 | 0, _ => pT D (D 0 1) 0 | d + 1, k => strB.getD 2 [] ++ ([32] ++ (vw k ++ ([59] ++ vT D d (k + 1))))
def clT (D : NF) : Nat → Nat → List Int32 | 0, _ => [59] ++ vT D (D 0 1) 0 | d + 1, k => [32] ++ (decL (D 1 k) ++ clT D d (k + 1))
def fT (D : NF) : List Int32 := strB.getD 0 [] ++ ([32] ++ (decL (D 0 6) ++ ([32] ++ (decL (D 0 5) ++ ([59] ++ (strB.getD 1 [] ++ clT D (D 0 0) 0))))))
/-- a piece of text that begins with a keyword, or nothing -/
def OKL (L : List Int32) : Prop := L = [] ∨ ∃ t R, t < 12 ∧ L = strB.getD t [] ++ ([32] ++ R)
set_option maxRecDepth 20000 in
theorem str_wd {t : Nat} (h : t < 12) : wd 2 (strB.getD t []) := ⟨(str_in t h).1, Or.inl rfl, (str_in t h).2.1⟩
set_option maxRecDepth 20000 in
theorem OKL.nx {L : List Int32} (h : OKL L) : ∃ w r, NX L w r := by
  rcases h with rfl | ⟨t, R, h1, rfl⟩
  · exact ⟨[], [], Or.inr ⟨rfl, rfl, rfl⟩⟩
  · exact ⟨_, _, Or.inl ⟨rfl, str_wd h1, hd_sp 2 (Or.inl rfl) _⟩⟩
set_option maxRecDepth 20000 in
theorem run_u {c : Int32} : ∀ (w w' r r' : List Int32), (∀ x ∈ w, kb x = c) → (∀ x ∈ w', kb x = c) → hd c r → hd c r' → w ++ r = w' ++ r' → w = w' ∧ r = r' := by
  intro w
  induction w with
  | nil =>
    intro w' r r' _ h2 h3 _ e
    cases w' with
    | nil => exact ⟨rfl, e⟩
    | cons x t => exact absurd (h2 x List.mem_cons_self) (h3 x (t ++ r') e)
  | cons y u ih =>
    intro w' r r' h1 h2 h3 h4 e
    cases w' with
    | nil => exact absurd (h1 y List.mem_cons_self) (h4 y (u ++ r) e.symm)
    | cons x t =>
      have e1 : y = x := by
        have := congrArg List.head? e
        simpa using this
      have e2 : u ++ r = t ++ r' := by
        have := congrArg List.tail e
        simpa using this
      obtain ⟨q1, q2⟩ := ih t r r' (fun z hz => h1 z (List.mem_cons_of_mem _ hz)) (fun z hz => h2 z (List.mem_cons_of_mem _ hz)) h3 h4 e2
      exact ⟨by rw [e1, q1], q2⟩
set_option maxRecDepth 20000 in
theorem NX.is {t : Nat} {R w r : List Int32} (ht : t < 12) (h : NX (strB.getD t [] ++ ([32] ++ R)) w r) : w = strB.getD t [] ∧ r = [32] ++ R := by
  rcases h with ⟨e, h1, h2⟩ | ⟨e, -, -⟩
  · obtain ⟨q1, q2⟩ := run_u _ _ _ _ (str_wd ht).2.2 h1.2.2 (hd_sp 2 (Or.inl rfl) _) h2 e
    exact ⟨q1.symm, q2.symm⟩
  · have := congrArg List.length e
    simp at this
set_option maxRecDepth 20000 in
theorem ok_t (D : NF) (d k : Nat) : OKL (tT D d k) := by
  cases d with
  | zero => exact Or.inl rfl
  | succ d => exact Or.inr ⟨6, _, by decide, rfl⟩
set_option maxRecDepth 20000 in
theorem ok_l (D : NF) (d k : Nat) : OKL (lT D d k) := by
  cases d with
  | zero => exact ok_t D _ _
  | succ d => exact Or.inr ⟨5, _, by decide, rfl⟩
set_option maxRecDepth 20000 in
theorem ok_g (D : NF) (d k : Nat) : OKL (gT D d k) := by
  cases d with
  | zero => exact ok_l D _ _
  | succ d => exact Or.inr ⟨4, _, by decide, rfl⟩
set_option maxRecDepth 20000 in
theorem ok_pI (D : NF) (v : Nat) {rest : List Int32} (h : OKL rest) (d g : Nat) : OKL (pI D v rest d g) := by
  cases d with
  | zero => exact h
  | succ d => exact Or.inr ⟨3, _, by decide, rfl⟩
set_option maxRecDepth 20000 in
theorem ok_p (D : NF) : ∀ d v : Nat, OKL (pT D d v) := by
  intro d
  induction d with
  | zero => exact fun _ => ok_g D _ _
  | succ d ih => exact fun v => ok_pI D v (ih (v + 1)) _ _
set_option maxRecDepth 20000 in
theorem ok_v (D : NF) (d k : Nat) : OKL (vT D d k) := by
  cases d with
  | zero => exact ok_p D _ _
  | succ d => exact Or.inr ⟨2, _, by decide, rfl⟩
/-- what the text tells must be so -/
def TO (D : NF) (vn gn : Nat → Int32) : Prop :=
  (1 ≤ D 0 0 ∧ D 0 0 ≤ 4 ∧ D 0 1 ≤ 3 ∧ D 0 2 ≤ 4 ∧ D 0 3 ≤ 5 ∧ D 0 4 ≤ 5 ∧ D 0 5 ≤ 99999 ∧ 1 ≤ D 0 6 ∧ D 0 6 ≤ 200) ∧
  (∀ k, k < D 0 0 → D 1 k ≤ 200 ∧ (0 < k → D 1 k < D 1 (k - 1))) ∧
  (∀ v, v < 3 → nmw (vw v) (vn v)) ∧ (∀ g, g < 4 → nmw (gwd g) (gn g)) ∧ (∀ v, v < 3 → ∀ i, i < v → vn i ≠ vn v) ∧ (∀ g, g < 4 → ∀ i, i < g → gn i ≠ gn g) ∧ (∀ v, v < 3 → ∀ g, g < 4 → vn v ≠ gn g) ∧
  (∀ q, D 7 q ≤ 999) ∧ (∀ p, p < D 0 3 → D 2 p < D 0 2 ∧ D 3 p < D 0 1 ∧ 1 ≤ D 6 p ∧ D 6 p ≤ 99 ∧ D 4 p = D 6 p * D 0 6) ∧ (∀ t, t < D 0 4 → 1 ≤ D 5 t ∧ D 5 t ≤ 20000)
section READ
variable {X X0 : XT} {T : List Int32} {D : NF} {vn gn : Nat → Int32}
/-- the prices once the first q of them are read -/
def prU (D : NF) (v g : Nat) : Nat → Nat := fun q => if q % 4 < D 0 0 ∧ (q / 4 < v ∨ (q / 4 = v ∧ q % 4 < g)) then D 7 q else 0
/-- the end of a text -/
def FIN (X0 : XT) (T : List Int32) (D : NF) (vn gn : Nat → Int32) (o : Option (Int32 × XT)) : Prop := ∃ X', o = some (1, xs X' 2 0 0 1 0) ∧ DV X' D vn gn (prU D (D 0 1) 0) (D 0 0) (D 0 1) (D 0 2) (D 0 3) (D 0 4) ∧ FO X0 X'
set_option maxRecDepth 20000 in
theorem step46 {t : Nat} {r : List Int32} {X' : XT} (ht : t < 12) (h : AT X T (strB.getD t []) r) (e : f_X8_readStatement X = some (1, X')) {i f : Nat} (hi : i < 600) : f_X8_readAll_46 (f + 1) X 1 (nI i) = f_X8_readAll_46 f X' 1 (nI (i + 1)) := by
  have k2 := (h.wk (str_wd ht)).1
  rw [f_X8_readAll_46, if_neg (show ¬ (600 : Int32) ≤ nI i from nI_ge (b := 600) hi (by decide)), if_neg (by decide), k2, if_neg (by decide), e, bn2_s, nI_1]
set_option maxRecDepth 20000 in
theorem r_t (hD : TO D vn gn) : ∀ d k f i (X : XT) (w r : List Int32), k + d = D 0 4 → d < f → i + d < 600 → NX (tT D d k) w r → DS X0 X T w r D vn gn (prU D (D 0 1) 0) (D 0 0) (D 0 1) (D 0 2) (D 0 3) k → FIN X0 T D vn gn (f_X8_readAll_46 f X 1 (nI i)) := by
  obtain ⟨b, b1, b2, b3, b4, b5, b6, b7, b8, b9⟩ := hD
  intro d
  induction d with
  | zero =>
    intro k f i X w r hk hf hi n h
    obtain ⟨f, rfl⟩ := fuel hf
    rcases n with ⟨e, h1, -⟩ | ⟨-, rfl, rfl⟩
    · have := congrArg List.length e
      have hl := List.length_pos_iff.mpr h1.1
      simp [tT] at this
      omega
    · obtain ⟨ha, hd, ho⟩ := h
      have : k = D 0 4 := hk
      subst this
      refine ⟨X, ?_, hd, ho⟩
      rw [f_X8_readAll_46, if_neg (show ¬ (600 : Int32) ≤ nI i from nI_ge (b := 600) (by omega) (by decide)), if_neg (by decide), ha.kend, if_pos rfl, bnd_s, gd_t (by decide)]
  | succ d ih =>
    intro k f i X w r hk hf hi n h
    obtain ⟨f, rfl⟩ := fuel hf
    rw [tT] at n
    obtain ⟨rfl, rfl⟩ := n.is (by decide)
    obtain ⟨w', r', n'⟩ := (ok_t D d (k + 1)).nx
    have hb := b9 k (by omega)
    obtain ⟨X', e, h'⟩ := stm_t h (by omega) hb.1 hb.2 rfl n'
    rw [step46 (by decide) h.1 e (by omega)]
    exact ih (k + 1) f (i + 1) X' w' r' (by omega) (by omega) (by omega) n' h'
set_option maxRecDepth 20000 in
theorem r_l (hD : TO D vn gn) : ∀ d k f i (X : XT) (w r : List Int32), k + d = D 0 3 → d + 10 < f → i + d + 10 < 600 → NX (lT D d k) w r → DS X0 X T w r D vn gn (prU D (D 0 1) 0) (D 0 0) (D 0 1) (D 0 2) k 0 → FIN X0 T D vn gn (f_X8_readAll_46 f X 1 (nI i)) := by
  have hD' := hD
  obtain ⟨b, b1, b2, b3, b4, b5, b6, b7, b8, b9⟩ := hD'
  intro d
  induction d with
  | zero =>
    intro k f i X w r hk hf hi n h
    have : k = D 0 3 := hk
    subst this
    exact r_t hD (D 0 4) 0 f i X w r (by omega) (by omega) (by omega) n h
  | succ d ih =>
    intro k f i X w r hk hf hi n h
    obtain ⟨f, rfl⟩ : ∃ f', f = f' + 1 := ⟨f - 1, by omega⟩
    rw [lT] at n
    obtain ⟨rfl, rfl⟩ := n.is (by decide)
    obtain ⟨w', r', n'⟩ := (ok_l D d (k + 1)).nx
    obtain ⟨h1, h2, h3, h4, h5⟩ := b8 k (by omega)
    obtain ⟨X', e, h'⟩ := stm_l h (by omega) h1 h2 h3 h4 (b3 _ (by omega)) (b2 _ (by omega)) rfl (b5 _ (by omega)) rfl (b4 _ (by omega)) rfl rfl h5 n'
    rw [step46 (by decide) h.1 e (by omega)]
    exact ih (k + 1) f (i + 1) X' w' r' (by omega) (by omega) (by omega) n' h'
set_option maxRecDepth 20000 in
theorem r_g (hD : TO D vn gn) : ∀ d k f i (X : XT) (w r : List Int32), k + d = D 0 2 → d + 20 < f → i + d + 20 < 600 → NX (gT D d k) w r → DS X0 X T w r D vn gn (prU D (D 0 1) 0) (D 0 0) (D 0 1) k 0 0 → FIN X0 T D vn gn (f_X8_readAll_46 f X 1 (nI i)) := by
  have hD' := hD
  obtain ⟨b, b1, b2, b3, b4, b5, b6, b7, b8, b9⟩ := hD'
  intro d
  induction d with
  | zero =>
    intro k f i X w r hk hf hi n h
    have : k = D 0 2 := hk
    subst this
    exact r_l hD (D 0 3) 0 f i X w r (by omega) (by omega) (by omega) n h
  | succ d ih =>
    intro k f i X w r hk hf hi n h
    obtain ⟨f, rfl⟩ : ∃ f', f = f' + 1 := ⟨f - 1, by omega⟩
    rw [gT] at n
    obtain ⟨rfl, rfl⟩ := n.is (by decide)
    obtain ⟨w', r', n'⟩ := (ok_g D d (k + 1)).nx
    obtain ⟨X', e, h'⟩ := stm_g h (by omega) (b3 _ (by omega)) (fun i hi => b6 i (by omega) k (by omega)) (b5 _ (by omega)) n'
    rw [step46 (by decide) h.1 e (by omega)]
    exact ih (k + 1) f (i + 1) X' w' r' (by omega) (by omega) (by omega) n' h'
set_option maxRecDepth 20000 in
theorem prU_1 (D : NF) {v g : Nat} (hg : g < D 0 0) (hc : D 0 0 ≤ 4) : upP (prU D v g) (v * 4 + g) (D 7 (v * 4 + g)) = prU D v (g + 1) := by
  funext q
  unfold upP prU
  by_cases e : q = v * 4 + g
  · subst e
    rw [if_pos rfl, if_pos (by omega)]
  · rw [if_neg e]
    by_cases c : q % 4 < D 0 0 ∧ (q / 4 < v ∨ (q / 4 = v ∧ q % 4 < g))
    · rw [if_pos c, if_pos (by omega)]
    · rw [if_neg c, if_neg (by omega)]
set_option maxRecDepth 20000 in
theorem prU_2 (D : NF) (v : Nat) : prU D v (D 0 0) = prU D (v + 1) 0 := by
  funext q
  unfold prU
  by_cases c : q % 4 < D 0 0 ∧ (q / 4 < v ∨ (q / 4 = v ∧ q % 4 < D 0 0))
  · rw [if_pos c, if_pos (by omega)]
  · rw [if_neg c, if_neg (by omega)]
set_option maxRecDepth 20000 in
theorem r_p (hD : TO D vn gn) : ∀ d v f i (X : XT) (w r : List Int32), v + d = D 0 1 → 5 * d + 30 < f → i + 5 * d + 30 < 600 → NX (pT D d v) w r → DS X0 X T w r D vn gn (prU D v 0) (D 0 0) (D 0 1) 0 0 0 → FIN X0 T D vn gn (f_X8_readAll_46 f X 1 (nI i)) := by
  have hD' := hD
  obtain ⟨b, b1, b2, b3, b4, b5, b6, b7, b8, b9⟩ := hD'
  intro d
  induction d with
  | zero =>
    intro v f i X w r hk hf hi n h
    have : v = D 0 1 := hk
    subst this
    exact r_g hD (D 0 2) 0 f i X w r (by omega) (by omega) (by omega) n h
  | succ d ih =>
    intro v f i X w r hk hf hi n h
    have inner : ∀ e g f i (X : XT) (w r : List Int32), g + e = D 0 0 → e + 5 * d + 30 < f → i + e + 5 * d + 30 < 600 → NX (pI D v (pT D d (v + 1)) e g) w r → DS X0 X T w r D vn gn (prU D v g) (D 0 0) (D 0 1) 0 0 0 → FIN X0 T D vn gn (f_X8_readAll_46 f X 1 (nI i)) := by
      intro e
      induction e with
      | zero =>
        intro g f i X w r hg hf hi n h
        have : g = D 0 0 := hg
        subst this
        rw [prU_2] at h
        exact ih (v + 1) f i X w r (by omega) (by omega) (by omega) n h
      | succ e ih2 =>
        intro g f i X w r hg hf hi n h
        obtain ⟨f, rfl⟩ : ∃ f', f = f' + 1 := ⟨f - 1, by omega⟩
        rw [pI] at n
        obtain ⟨rfl, rfl⟩ := n.is (by decide)
        obtain ⟨w', r', n'⟩ := (ok_pI D v (ok_p D d (v + 1)) e (g + 1)).nx
        obtain ⟨X', e', h'⟩ := stm_p h (v := v) (by omega) (by omega) (b7 _) (b2 v (by omega)) rfl (b4 v (by omega)) n'
        rw [step46 (by decide) h.1 e' (by omega)]
        rw [prU_1 D (by omega) (by omega)] at h'
        exact ih2 (g + 1) f (i + 1) X' w' r' (by omega) (by omega) (by omega) n' h'
    exact inner (D 0 0) 0 f i X w r (by omega) (by omega) (by omega) n h
set_option maxRecDepth 20000 in
theorem prU_0 (D : NF) (q : Nat) : prU D 0 0 q = 0 := if_neg (by omega)
set_option maxRecDepth 20000 in
theorem r_v (hD : TO D vn gn) : ∀ d k f i (X : XT) (w r : List Int32), k + d = D 0 1 → d + 60 < f → i + d + 60 < 600 → NX (vT D d k) w r → DS X0 X T w r D vn gn (prU D 0 0) (D 0 0) k 0 0 0 → FIN X0 T D vn gn (f_X8_readAll_46 f X 1 (nI i)) := by
  have hD' := hD
  obtain ⟨b, b1, b2, b3, b4, b5, b6, b7, b8, b9⟩ := hD'
  intro d
  induction d with
  | zero =>
    intro k f i X w r hk hf hi n h
    have : k = D 0 1 := hk
    subst this
    exact r_p hD (D 0 1) 0 f i X w r (by omega) (by omega) (by omega) n h
  | succ d ih =>
    intro k f i X w r hk hf hi n h
    obtain ⟨f, rfl⟩ : ∃ f', f = f' + 1 := ⟨f - 1, by omega⟩
    rw [vT] at n
    obtain ⟨rfl, rfl⟩ := n.is (by decide)
    obtain ⟨w', r', n'⟩ := (ok_v D d (k + 1)).nx
    obtain ⟨X', e, h'⟩ := stm_v h (by omega) (b2 _ (by omega)) (b4 _ (by omega)) (fun i hi => absurd hi (Nat.not_lt_zero _)) (fun g _ => prU_0 D _) n'
    rw [step46 (by decide) h.1 e (by omega)]
    exact ih (k + 1) f (i + 1) X' w' r' (by omega) (by omega) (by omega) n' h'
end READ
