/-! THE FIRST TEXT: the class reads it, the reference lays it -/
def fTxl : List Int32 := strB.getD 12 [] ++ strB.getD 13 [] ++ strB.getD 14 [] ++ strB.getD 15 [] ++ strB.getD 16 [] ++ strB.getD 17 []
def fTx (i : Nat) : Int32 := fTxl.getD i 0
set_option maxRecDepth 20000 in
theorem tx_b : ∀ i, i < 291 → (fTx i).toInt8.toInt32 = fTx i := by decide +kernel
def MDx : MT := ((fun k f => if k = 3 then fTx f else nI 291), fun _ => 0, 1)
def BX (X : XT) : Prop := X 2 0 0 1 = nI 291 ∧ ∀ i, i < 291 → X 3 0 0 i = fTx i
def FR (X X' : XT) : Prop := ∀ k j i f, (k ≠ 2 ∨ f < 2) → X' k j i f = X k j i f
set_option maxRecDepth 20000 in
theorem FR.no {X : XT} : FR X X := fun _ _ _ _ _ => rfl
set_option maxRecDepth 20000 in
theorem FR.tr {X X1 X2 : XT} (h : FR X X1) (g : FR X1 X2) : FR X X2 := fun k j i f q => (g k j i f q).trans (h k j i f q)
set_option maxRecDepth 20000 in
theorem FR.x {X X' : XT} (h : FR X X') {j i f : Nat} {v : Int32} (hf : 2 ≤ f) : FR X (xs X' 2 j i f v) := fun k j' i' f' q => (xs_o (by omega)).trans (h k j' i' f' q)
set_option maxRecDepth 20000 in
theorem BX.fr {X X' : XT} (h : BX X) (g : FR X X') : BX X' := ⟨(g 2 0 0 1 (Or.inr (by decide))).trans h.1, fun i hi => (g 3 0 0 i (Or.inl (by decide))).trans (h.2 i hi)⟩
set_option maxRecDepth 20000 in
theorem BX.bf {X : XT} (h : BX X) : BFn X MDx 291 := ⟨by decide, h.1, rfl, fun i hi => ⟨h.2 i hi, by rw [h.2 i hi]; exact tx_b i hi⟩⟩
def numV (s : Nat) : Nat → Int32 | 0 => 0 | k + 1 => if 1000000 ≤ numV s k then numV s k else ((10 * numV s k) + fTx (s + k)) - 48
def nameV (s : Nat) : Nat → Int32 | 0 => 0 | k + 1 => (((nameV s k <<< ((5 : Int32) &&& 31)) + fTx (s + k)) - 97) + 1
set_option maxRecDepth 20000 in
theorem runX {X0 : XT} (b0 : BX X0) {s e' : Nat} {kk : Int32} (he : e' ≤ 291) (hr : ∀ i, i < e' → s ≤ i → kb (fTx i) = kk) (hkk : kk = 2 ∨ kk = 3) (hse : s < e') (hend : e' = 291 ∨ (e' < 291 ∧ kb (fTx e') ≠ kk)) : ∀ d k f (X : XT), s + k + d = e' → d < f → FR X0 X → X 2 0 0 2 = kk → X 2 0 0 3 = nI s → X 2 0 0 4 = nI (s + k) → (kk = 3 → X 2 0 0 5 = numV s k) → (kk = 2 → X 2 0 0 6 = nameV s k) → ∃ X', f_X10_toNext_74 f X = some X' ∧ FR X0 X' ∧ X' 2 0 0 2 = kk ∧ X' 2 0 0 3 = nI s ∧ X' 2 0 0 4 = nI e' ∧ (kk = 3 → X' 2 0 0 5 = numV s (e' - s)) ∧ (kk = 2 → X' 2 0 0 6 = if e' - s ≤ 4 then nameV s (e' - s) else 0) := by
  intro d
  induction d with
  | zero =>
    intro k f X hq hf fr x2 x3 x4 x5 x6
    obtain ⟨f, rfl⟩ := fuel hf
    have b := (b0.fr fr)
    have hk : k = e' - s := by omega
    rw [show s + k = e' by omega] at x4
    rw [run_end b.bf he x3 x4 (by omega) (hend.imp id fun q => ⟨q.1, by rw [b.2 e' q.1, x2]; exact q.2⟩)]
    subst hk
    refine ⟨_, rfl, ?_, ?_, ?_, ?_, fun q => ?_, fun q => ?_⟩
    · split
      · exact fr
      · exact fr.x (by decide)
    · split
      · exact x2
      · rw [xs_o (by omega)]; exact x2
    · split
      · exact x3
      · rw [xs_o (by omega)]; exact x3
    · split
      · exact x4
      · rw [xs_o (by omega)]; exact x4
    · split
      · exact x5 q
      · rw [xs_o (by omega)]; exact x5 q
    · by_cases c : e' - s ≤ 4
      · rw [if_pos c, if_pos c]; exact x6 q
      · rw [if_neg c, if_neg c, xs_i]
  | succ d ih =>
    intro k f X hq hf fr x2 x3 x4 x5 x6
    obtain ⟨f, rfl⟩ := fuel hf
    have b := (b0.fr fr)
    have hb := b.2 (s + k) (by omega)
    rw [run_go b.bf (q := s + k) (by omega) x3 x4 (by omega) (by rw [hb, x2]; exact hr _ (by omega) (by omega)) (by rw [x2]; exact hkk), hb]
    unfold f_X10_takeSign
    rcases hkk with rfl | rfl
    · rw [if_pos x2, bnd_s, bn1_s, xs_o (by omega), x4, show nI (s + k) + 1 = nI (s + (k + 1)) from nI_add (s + k) 1, bnd_s]
      refine ih (k + 1) f _ (by omega) (by omega) ((fr.x (by decide)).x (by decide)) ?_ ?_ xs_i (fun q => absurd q (by decide)) (fun _ => ?_)
      · rw [xs_o (by omega), xs_o (by omega)]; exact x2
      · rw [xs_o (by omega), xs_o (by omega)]; exact x3
      · rw [xs_o (by omega), xs_i, x6 rfl]; rfl
    · have h2 : ¬ X 2 0 0 2 = 2 := by rw [x2]; decide
      rw [if_neg h2, if_pos x2, x5 rfl]
      by_cases c : 1000000 ≤ numV s k
      · rw [if_pos c, bn1_s, x4, show nI (s + k) + 1 = nI (s + (k + 1)) from nI_add (s + k) 1, bnd_s]
        refine ih (k + 1) f _ (by omega) (by omega) (fr.x (by decide)) ?_ ?_ xs_i (fun _ => ?_) (fun q => absurd q (by decide))
        · rw [xs_o (by omega)]; exact x2
        · rw [xs_o (by omega)]; exact x3
        · rw [xs_o (by omega), x5 rfl, numV, if_pos c]
      · rw [if_neg c, bnd_s, bn1_s, xs_o (by omega), x4, show nI (s + k) + 1 = nI (s + (k + 1)) from nI_add (s + k) 1, bnd_s]
        refine ih (k + 1) f _ (by omega) (by omega) ((fr.x (by decide)).x (by decide)) ?_ ?_ xs_i (fun _ => ?_) (fun q => absurd q (by decide))
        · rw [xs_o (by omega), xs_o (by omega)]; exact x2
        · rw [xs_o (by omega), xs_o (by omega)]; exact x3
        · rw [xs_o (by omega), xs_i, numV, if_neg c]
/-- the token from s to e, the next one behind it -/
def CTk (X : XT) (s e : Nat) : Prop := X 2 0 0 3 = nI s ∧ X 2 0 0 4 = nI e ∧ (s = 291 → X 2 0 0 2 = 0) ∧ (s < 291 → X 2 0 0 2 = kb (fTx s) ∧ (kb (fTx s) = 3 → X 2 0 0 5 = numV s (e - s)) ∧ (kb (fTx s) = 2 → X 2 0 0 6 = if e - s ≤ 4 then nameV s (e - s) else 0))
abbrev tokOK (e s e' : Nat) : Prop := e ≤ s ∧ (∀ i, i < s → e ≤ i → kb (fTx i) = 1) ∧ ((s = 291 ∧ e' = 291) ∨ (s < e' ∧ e' ≤ 291 ∧ kb (fTx s) ≠ 1 ∧ (((kb (fTx s) = 2 ∨ kb (fTx s) = 3) ∧ (∀ i, i < e' → s ≤ i → kb (fTx i) = kb (fTx s)) ∧ (e' = 291 ∨ (e' < 291 ∧ kb (fTx e') ≠ kb (fTx s)))) ∨ (kb (fTx s) = 4 ∧ e' = s + 1))))
set_option maxRecDepth 20000 in
theorem skipX {X0 : XT} (b0 : BX X0) {s : Nat} (hs : s ≤ 291) : ∀ d p f (X : XT), p + d = s → d < f → (∀ i, i < s → p ≤ i → kb (fTx i) = 1) → FR X0 X → X 2 0 0 3 = nI p → ∃ f' X', f_X10_toNext_8 f X = f_X10_toNext_8 (f' + 1) X' ∧ X' 2 0 0 3 = nI s ∧ FR X0 X' := by
  intro d
  induction d with
  | zero =>
    intro p f X hp hf hb fr x3
    obtain ⟨f, rfl⟩ := fuel hf
    exact ⟨f, X, rfl, by rw [x3]; exact congrArg nI (by omega), fr⟩
  | succ d ih =>
    intro p f X hp hf hb fr x3
    obtain ⟨f, rfl⟩ := fuel hf
    have b := b0.fr fr
    have c1 : kb (X 3 0 0 p) = 1 := by rw [b.2 p (by omega)]; exact hb p (by omega) (Nat.le_refl _)
    obtain ⟨f', X', e1, e2, e3⟩ := ih (p + 1) f (xs X 2 0 0 3 (nI (p + 1))) (by omega) (by omega) (fun i h1 h2 => hb i h1 (by omega)) (fr.x (by decide)) xs_i
    refine ⟨f', X', ?_, e2, e3⟩
    rw [← e1, f_X10_toNext_8, b.1, x3, if_neg (show ¬ nI 291 ≤ nI p from nI_ge (by omega) (by decide)), kindAt_ b.bf (i := p) (by omega), bn1_s, if_pos c1, show nI p + 1 = nI (p + 1) from nI_add p 1, bnd_s]
set_option maxRecDepth 20000 in
theorem tokX {X : XT} (b : BX X) {e s e' : Nat} (x4 : X 2 0 0 4 = nI e) (h : tokOK e s e') : ∃ X', f_X10_toNext X = some X' ∧ FR X X' ∧ CTk X' s e' := by
  obtain ⟨h1, h2, h3⟩ := h
  have hs : s ≤ 291 := by
    rcases h3 with h3 | h3
    · omega
    · omega
  obtain ⟨f', X1, e1, y3, fr⟩ := skipX (X0 := X) b hs (s - e) e 2000 (xs X 2 0 0 3 (nI e)) (by omega) (by omega) h2 (FR.no.x (by decide)) xs_i
  have b1 := b.fr fr
  unfold f_X10_toNext
  rw [bnd_s, x4, e1]
  rcases h3 with ⟨rfl, rfl⟩ | ⟨g1, g2, g3, g4⟩
  · have y3' := y3
    obtain ⟨X2, hX2⟩ : ∃ Z : XT, Z = xs (xs (xs (xs X1 2 0 0 2 0) 2 0 0 4 (nI 291)) 2 0 0 6 0) 2 0 0 5 0 := ⟨_, rfl⟩
    have z3 : X2 2 0 0 3 = nI 291 := by rw [hX2, xs_o (by omega), xs_o (by omega), xs_o (by omega), xs_o (by omega)]; exact y3
    have z4 : X2 2 0 0 4 = nI 291 := by rw [hX2, xs_o (by omega), xs_o (by omega), xs_i]
    have z2 : X2 2 0 0 2 = 0 := by rw [hX2, xs_o (by omega), xs_o (by omega), xs_o (by omega), xs_i]
    have fr2 : FR X X2 := by rw [hX2]; exact (((fr.x (by decide)).x (by decide)).x (by decide)).x (by decide)
    have := run_end (b.fr fr2).bf (Nat.le_refl _) z3 z4 (Nat.le_refl _) (Or.inl rfl) 1999
    rw [Nat.sub_self, if_pos (by decide)] at this
    refine ⟨X2, ?_, fr2, z3, z4, fun _ => z2, fun q => absurd q (by decide)⟩
    rw [f_X10_toNext_8, b1.1, y3, if_pos (nI_le (Nat.le_refl _) (by decide)), kindAt_n b1.bf, bn1_s, bnd_s, xs_o (by omega), y3, bnd_s, bnd_s, bnd_s, ← hX2]
    exact this
  · have hb := b1.2 s (by omega)
    obtain ⟨X2, hX2⟩ : ∃ Z : XT, Z = xs (xs (xs (xs X1 2 0 0 2 (kb (fTx s))) 2 0 0 4 (nI s)) 2 0 0 6 0) 2 0 0 5 0 := ⟨_, rfl⟩
    have z3 : X2 2 0 0 3 = nI s := by rw [hX2, xs_o (by omega), xs_o (by omega), xs_o (by omega), xs_o (by omega)]; exact y3
    have z4 : X2 2 0 0 4 = nI s := by rw [hX2, xs_o (by omega), xs_o (by omega), xs_i]
    have z2 : X2 2 0 0 2 = kb (fTx s) := by rw [hX2, xs_o (by omega), xs_o (by omega), xs_o (by omega), xs_i]
    have z6 : X2 2 0 0 6 = 0 := by rw [hX2, xs_o (by omega), xs_i]
    have z5 : X2 2 0 0 5 = 0 := by rw [hX2]; exact xs_i
    have fr2 : FR X X2 := by rw [hX2]; exact (((fr.x (by decide)).x (by decide)).x (by decide)).x (by decide)
    have eX : f_X10_toNext_8 (f' + 1) X1 = f_X10_toNext_74 2000 X2 := by
      rw [f_X10_toNext_8, b1.1, y3, if_neg (show ¬ nI 291 ≤ nI s from nI_ge (by omega) (by decide)), kindAt_ b1.bf (i := s) (by omega), bn1_s, hb, if_neg g3, bn1_s, bnd_s, xs_o (by omega), y3, bnd_s, bnd_s, bnd_s, ← hX2]
    rw [eX]
    rcases g4 with ⟨k1, k2, k3⟩ | ⟨k1, rfl⟩
    · obtain ⟨X', w1, w2, w3, w4, w5, w6, w7⟩ := runX (X0 := X) b (s := s) (e' := e') (kk := kb (fTx s)) g2 k2 k1 g1 k3 (e' - s) 0 2000 X2 (by omega) (by omega) fr2 z2 z3 (by rw [Nat.add_zero]; exact z4) (fun _ => z5) (fun _ => z6)
      exact ⟨X', w1, w2, w4, w5, fun q => by omega, fun _ => ⟨w3, w6, w7⟩⟩
    · have b2 := b.fr fr2
      rw [one_run (X0 := X2) (M0 := MDx) b2.bf NF.no (by omega) (by rw [z2, b2.2 s (by omega)]) z3 z4 (by rw [z2, k1]; decide) (by rw [z2, k1]; decide)]
      refine ⟨_, rfl, fr2.x (by decide), ?_, xs_i, fun q => by omega, fun _ => ⟨?_, fun q => by rw [k1] at q; exact absurd q (by decide), fun q => by rw [k1] at q; exact absurd q (by decide)⟩⟩
      · rw [xs_o (by omega)]; exact z3
      · rw [xs_o (by omega)]; exact z2
/-- the words -/
abbrev SPL (s e t : Nat) : Prop := e = s + strN.getD t 0 ∧ ∀ i, i < strN.getD t 0 → fTx (s + i) = sch t i
abbrev NSP (s e t : Nat) : Prop := ¬ e = s + strN.getD t 0 ∨ ∃ k, k < strN.getD t 0 ∧ (∀ i, i < k → fTx (s + i) = sch t i) ∧ ¬ fTx (s + k) = sch t k
set_option maxRecDepth 20000 in
theorem sl_N : ∀ t, t < 12 → slen t = nI (strN.getD t 0) ∧ strN.getD t 0 < 20 := by decide +kernel
set_option maxRecDepth 20000 in
theorem sp_1 {X : XT} (b : BX X) {s e t : Nat} (c : CTk X s e) (hs : s < e) (he : e ≤ 291) (hk : kb (fTx s) = 2) (ht : t < 12) (h : SPL s e t) : f_X10_spells X t = some 1 := by
  obtain ⟨h1, h2⟩ := h
  obtain ⟨c1, c2, -, c4⟩ := c
  obtain ⟨c5, -⟩ := c4 (by omega)
  obtain ⟨l1, l2⟩ := sl_N t ht
  have go : ∀ d i f, i + d = strN.getD t 0 → d < f → f_X10_spells_28 X t f (nI i) = some 1 := by
    intro d
    induction d with
    | zero =>
      intro i f hi hf
      obtain ⟨f, rfl⟩ := fuel hf
      rw [f_X10_spells_28, l1, if_pos (nI_le (by omega) (by omega))]
    | succ d ih =>
      intro i f hi hf
      obtain ⟨f, rfl⟩ := fuel hf
      rw [f_X10_spells_28, l1, if_neg (nI_ge (by omega) (by omega)), c1, nI_add, signAt_ b.bf (i := s + i) (by omega), bn1_s, gd_t (nI_in (by omega) (by omega)), nI_clamp (by omega), b.2 _ (by omega), if_pos (h2 i (by omega)), show nI i + 1 = nI (i + 1) from nI_add i 1]
      exact ih (i + 1) f (by omega) (by omega)
  unfold f_X10_spells
  rw [if_pos (c5.trans hk), c2, c1, pk_sub (by omega), l1, if_pos (congrArg nI (by omega))]
  exact go (strN.getD t 0) 0 2000 (by omega) (by omega)
set_option maxRecDepth 20000 in
theorem sp_0 {X : XT} (b : BX X) {s e t : Nat} (c : CTk X s e) (hs : s < e) (he : e ≤ 291) (hk : kb (fTx s) = 2) (ht : t < 12) (h : NSP s e t) : f_X10_spells X t = some 0 := by
  obtain ⟨c1, c2, -, c4⟩ := c
  obtain ⟨c5, -⟩ := c4 (by omega)
  obtain ⟨l1, l2⟩ := sl_N t ht
  unfold f_X10_spells
  rw [if_pos (c5.trans hk), c2, c1, pk_sub (by omega), l1]
  by_cases q : e = s + strN.getD t 0
  · obtain ⟨k, k1, k2, k3⟩ := h.resolve_left (fun n => n q)
    have go : ∀ d i f, i + d = k → d < f → f_X10_spells_28 X t f (nI i) = some 0 := by
      intro d
      induction d with
      | zero =>
        intro i f hi hf
        obtain ⟨f, rfl⟩ := fuel hf
        obtain rfl : i = k := by omega
        rw [f_X10_spells_28, l1, if_neg (nI_ge (by omega) (by omega)), c1, nI_add, signAt_ b.bf (i := s + i) (by omega), bn1_s, gd_t (nI_in (by omega) (by omega)), nI_clamp (by omega), b.2 _ (by omega), if_neg k3]
      | succ d ih =>
        intro i f hi hf
        obtain ⟨f, rfl⟩ := fuel hf
        rw [f_X10_spells_28, l1, if_neg (nI_ge (by omega) (by omega)), c1, nI_add, signAt_ b.bf (i := s + i) (by omega), bn1_s, gd_t (nI_in (by omega) (by omega)), nI_clamp (by omega), b.2 _ (by omega), if_pos (k2 i (by omega)), show nI i + 1 = nI (i + 1) from nI_add i 1]
        exact ih (i + 1) f (by omega) (by omega)
    rw [if_pos (congrArg nI (by omega))]
    exact go k 0 2000 (by omega) (by omega)
  · rw [if_neg (fun n => q (by have := (nI_eq (by omega) (by omega)).mp n; omega))]
