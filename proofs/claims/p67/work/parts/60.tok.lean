/-! PURE: the tokens of a text -/
def kb (b : Int32) : Int32 := if b < 97 then (if b < 48 then (if b = 59 then 4 else (if b = 32 then 1 else (if b = 10 then 1 else 5))) else (if 57 < b then (if b = 59 then 4 else (if b = 32 then 1 else (if b = 10 then 1 else 5))) else 3)) else (if 122 < b then (if b < 48 then (if b = 59 then 4 else (if b = 32 then 1 else (if b = 10 then 1 else 5))) else (if 57 < b then (if b = 59 then 4 else (if b = 32 then 1 else (if b = 10 then 1 else 5))) else 3)) else 2)
set_option maxRecDepth 20000 in
theorem isRun_2 {X : XT} (h : X 2 0 0 2 = 2) : f_X10_isRun X = some 1 := by unfold f_X10_isRun; rw [if_pos h]
set_option maxRecDepth 20000 in
theorem isRun_3 {X : XT} (h : X 2 0 0 2 = 3) : f_X10_isRun X = some 1 := by unfold f_X10_isRun; rw [if_neg (by rw [h]; decide), if_pos h]
/-- the buffer holds the text tx of N signs -/
def BX (X : XT) (tx : Nat → Int32) (N : Nat) : Prop := N ≤ 600 ∧ X 2 0 0 1 = nI N ∧ ∀ i, i < N → X 3 0 0 i = tx i
set_option maxRecDepth 20000 in
theorem kindAt_ {X : XT} {tx : Nat → Int32} {n i : Nat} (h : BX X tx n) (hi : i < n) : f_X10_kindAt X (nI i) = some (kb (X 3 0 0 i)) := by
  obtain ⟨h1, h2, h3⟩ := h
  unfold f_X10_kindAt kb
  rw [if_neg (nI_pos (by omega)), h2, if_pos (nI_lt hi (by omega)), gd_t (nI_in (by omega) (by decide)), nI_clamp (by omega)]
  repeat' split
  all_goals rfl
set_option maxRecDepth 20000 in
theorem kindAt_n {X : XT} {tx : Nat → Int32} {n : Nat} (h : BX X tx n) : f_X10_kindAt X (nI n) = some 0 := by
  obtain ⟨h1, h2, h3⟩ := h
  unfold f_X10_kindAt
  rw [if_neg (nI_pos (by omega)), h2, if_neg (nI_nlt (Nat.le_refl _) (by omega))]
set_option maxRecDepth 20000 in
theorem signAt_ {X : XT} {tx : Nat → Int32} {n i : Nat} (h : BX X tx n) (hi : i < n) : f_X10_signAt X (nI i) = some (X 3 0 0 i) := by
  obtain ⟨h1, h2, h3⟩ := h
  unfold f_X10_signAt
  rw [if_neg (nI_pos (by omega)), h2, if_neg (nI_ge hi (by omega)), gd_t (nI_in (by omega) (by decide)), nI_clamp (by omega)]
set_option maxRecDepth 20000 in
theorem run_end {X : XT} {tx : Nat → Int32} {n s q : Nat} (h : BX X tx n) (hq : q ≤ n) (x3 : X 2 0 0 3 = nI s) (x4 : X 2 0 0 4 = nI q) (hs : s ≤ q) (hend : q = n ∨ (q < n ∧ ¬ kb (X 3 0 0 q) = X 2 0 0 2)) (f : Nat) : f_X10_toNext_74 (f + 1) X = some (if q - s ≤ 4 then X else xs X 2 0 0 6 0) := by
  have hn := h.1
  have hlen : (if nI q - nI s ≤ 4 then some X else bnd (xs X 2 0 0 6 0) (fun X1 => some X1)) = some (if q - s ≤ 4 then X else xs X 2 0 0 6 0) := by
    rw [pk_sub hs]
    by_cases c : q - s ≤ 4
    · rw [if_pos c, if_pos (show nI (q - s) ≤ 4 from nI_le (b := 4) c (by decide))]
    · rw [if_neg c, if_neg (show ¬ nI (q - s) ≤ 4 from nI_ge (a := 4) (by omega) (by omega)), bnd_s]
  rw [f_X10_toNext_74, x4, x3, h.2.1, hlen]
  rcases hend with rfl | ⟨h1, h2⟩
  · rw [if_pos (nI_le (Nat.le_refl _) (by omega))]
  · rw [if_neg (nI_ge h1 (by omega)), kindAt_ h h1, bn1_s, if_neg h2]
set_option maxRecDepth 20000 in
theorem run_go {X : XT} {tx : Nat → Int32} {n s q : Nat} (h : BX X tx n) (hq : q < n) (x3 : X 2 0 0 3 = nI s) (x4 : X 2 0 0 4 = nI q) (hs : s ≤ q) (hk : kb (X 3 0 0 q) = X 2 0 0 2) (hr : X 2 0 0 2 = 2 ∨ X 2 0 0 2 = 3) (f : Nat) : f_X10_toNext_74 (f + 1) X = bn1 (f_X10_takeSign X (X 3 0 0 q)) (fun X3 => bnd (xs X3 2 0 0 4 ((X3 2 0 0 4) + 1)) (fun X4 => f_X10_toNext_74 f X4)) := by
  have hn := h.1
  have hrun : f_X10_isRun X = some 1 := hr.elim isRun_2 isRun_3
  rw [f_X10_toNext_74, x4, x3, h.2.1, if_neg (nI_ge hq (by omega)), kindAt_ h hq, bn1_s, if_pos hk, signAt_ h hq, hrun, bn1_s]
  by_cases c : nI q = nI s
  · rw [if_pos c]
  · rw [if_neg c, bn1_s, if_neg (by decide)]

def FR (X X' : XT) : Prop := ∀ k j i f, (k ≠ 2 ∨ f < 2) → X' k j i f = X k j i f
set_option maxRecDepth 20000 in
theorem FR.no {X : XT} : FR X X := fun _ _ _ _ _ => rfl
set_option maxRecDepth 20000 in
theorem FR.tr {X X1 X2 : XT} (h : FR X X1) (g : FR X1 X2) : FR X X2 := fun k j i f q => (g k j i f q).trans (h k j i f q)
set_option maxRecDepth 20000 in
theorem FR.x {X X' : XT} (h : FR X X') {j i f : Nat} {v : Int32} (hf : 2 ≤ f) : FR X (xs X' 2 j i f v) := fun k j' i' f' q => (xs_o (by omega)).trans (h k j' i' f' q)
set_option maxRecDepth 20000 in
theorem BX.fr {X X' : XT} {tx : Nat → Int32} {N : Nat} (h : BX X tx N) (g : FR X X') : BX X' tx N := ⟨h.1, (g 2 0 0 1 (Or.inr (by decide))).trans h.2.1, fun i hi => (g 3 0 0 i (Or.inl (by decide))).trans (h.2.2 i hi)⟩
set_option maxRecDepth 20000 in
theorem one_run {X : XT} {tx : Nat → Int32} {n s : Nat} (b : BX X tx n) (hs : s < n) (x2 : X 2 0 0 2 = kb (X 3 0 0 s)) (x3 : X 2 0 0 3 = nI s) (x4 : X 2 0 0 4 = nI s) (h2 : ¬ X 2 0 0 2 = 2) (h3 : ¬ X 2 0 0 2 = 3) : f_X10_toNext_74 2000 X = some (xs X 2 0 0 4 (nI (s + 1))) := by
  have hn := b.1
  rw [f_X10_toNext_74, x4, x3, b.2.1, if_neg (nI_ge hs (by omega)), kindAt_ b hs, bn1_s, if_pos x2.symm, if_pos rfl, signAt_ b hs, bn1_s]
  unfold f_X10_takeSign
  rw [if_neg h2, if_neg h3, bn1_s, x4, show nI s + 1 = nI (s + 1) from nI_add s 1, bnd_s]
  have fr : FR X (xs X 2 0 0 4 (nI (s + 1))) := FR.no.x (by decide)
  have b2 := b.fr fr
  have y2 : (xs X 2 0 0 4 (nI (s + 1))) 2 0 0 2 = X 2 0 0 2 := xs_o (by omega)
  have y3 : (xs X 2 0 0 4 (nI (s + 1))) 2 0 0 3 = nI s := (xs_o (by omega)).trans x3
  have y4 : (xs X 2 0 0 4 (nI (s + 1))) 2 0 0 4 = nI (s + 1) := xs_i
  generalize xs X 2 0 0 4 (nI (s + 1)) = Z at *
  have hrun : f_X10_isRun Z = some 0 := by
    unfold f_X10_isRun
    rw [y2, if_neg h2, if_neg h3]
  have hlen : (nI (s + 1) - nI s) ≤ 4 := by
    rw [pk_sub (by omega)]
    exact nI_le (b := 4) (by omega) (by decide)
  rw [f_X10_toNext_74, y4, y3, b2.2.1, if_pos hlen]
  by_cases c : s + 1 = n
  · rw [if_pos (nI_le (by omega) (by omega))]
  · rw [if_neg (nI_ge (by omega) (by omega)), kindAt_ b2 (by omega), bn1_s]
    by_cases c3 : kb (Z 3 0 0 (s + 1)) = Z 2 0 0 2
    · rw [if_pos c3, if_neg (fun q => by have := (nI_eq (by omega) (by omega)).mp q; omega), hrun, bn1_s, if_pos rfl]
    · rw [if_neg c3]
def numV (tx : Nat → Int32) (s : Nat) : Nat → Int32 | 0 => 0 | k + 1 => if 1000000 ≤ numV tx s k then numV tx s k else ((10 * numV tx s k) + tx (s + k)) - 48
def nameV (tx : Nat → Int32) (s : Nat) : Nat → Int32 | 0 => 0 | k + 1 => (((nameV tx s k <<< ((5 : Int32) &&& 31)) + tx (s + k)) - 97) + 1
set_option maxRecDepth 20000 in
theorem runX {X0 : XT} {tx : Nat → Int32} {N : Nat} (b0 : BX X0 tx N) {s e' : Nat} {kk : Int32} (he : e' ≤ N) (hr : ∀ i, i < e' → s ≤ i → kb (tx i) = kk) (hkk : kk = 2 ∨ kk = 3) (hse : s < e') (hend : e' = N ∨ (e' < N ∧ kb (tx e') ≠ kk)) : ∀ d k f (X : XT), s + k + d = e' → d < f → FR X0 X → X 2 0 0 2 = kk → X 2 0 0 3 = nI s → X 2 0 0 4 = nI (s + k) → (kk = 3 → X 2 0 0 5 = numV tx s k) → (kk = 2 → X 2 0 0 6 = nameV tx s k) → ∃ X', f_X10_toNext_74 f X = some X' ∧ FR X0 X' ∧ X' 2 0 0 2 = kk ∧ X' 2 0 0 3 = nI s ∧ X' 2 0 0 4 = nI e' ∧ (kk = 3 → X' 2 0 0 5 = numV tx s (e' - s)) ∧ (kk = 2 → X' 2 0 0 6 = if e' - s ≤ 4 then nameV tx s (e' - s) else 0) := by
  intro d
  induction d with
  | zero =>
    intro k f X hq hf fr x2 x3 x4 x5 x6
    obtain ⟨f, rfl⟩ := fuel hf
    have b := (b0.fr fr)
    have hk : k = e' - s := by omega
    rw [show s + k = e' by omega] at x4
    rw [run_end b he x3 x4 (by omega) (hend.imp id fun q => ⟨q.1, by rw [b.2.2 e' q.1, x2]; exact q.2⟩)]
    subst hk
    refine ⟨_, rfl, ?_, ?_, ?_, ?_, fun q => ?_, fun q => ?_⟩
    · split
      · exact fr
      · exact fr.x (by decide)
    · split
      · exact x2
      · rw [xs_o (by omega)]; exact x2
    · split
      · exact x3
      · rw [xs_o (by omega)]; exact x3
    · split
      · exact x4
      · rw [xs_o (by omega)]; exact x4
    · split
      · exact x5 q
      · rw [xs_o (by omega)]; exact x5 q
    · by_cases c : e' - s ≤ 4
      · rw [if_pos c, if_pos c]; exact x6 q
      · rw [if_neg c, if_neg c, xs_i]
  | succ d ih =>
    intro k f X hq hf fr x2 x3 x4 x5 x6
    obtain ⟨f, rfl⟩ := fuel hf
    have b := (b0.fr fr)
    have hb := b.2.2 (s + k) (by omega)
    rw [run_go b (q := s + k) (by omega) x3 x4 (by omega) (by rw [hb, x2]; exact hr _ (by omega) (by omega)) (by rw [x2]; exact hkk), hb]
    unfold f_X10_takeSign
    rcases hkk with rfl | rfl
    · rw [if_pos x2, bnd_s, bn1_s, xs_o (by omega), x4, show nI (s + k) + 1 = nI (s + (k + 1)) from nI_add (s + k) 1, bnd_s]
      refine ih (k + 1) f _ (by omega) (by omega) ((fr.x (by decide)).x (by decide)) ?_ ?_ xs_i (fun q => absurd q (by decide)) (fun _ => ?_)
      · rw [xs_o (by omega), xs_o (by omega)]; exact x2
      · rw [xs_o (by omega), xs_o (by omega)]; exact x3
      · rw [xs_o (by omega), xs_i, x6 rfl]; rfl
    · have h2 : ¬ X 2 0 0 2 = 2 := by rw [x2]; decide
      rw [if_neg h2, if_pos x2, x5 rfl]
      by_cases c : 1000000 ≤ numV tx s k
      · rw [if_pos c, bn1_s, x4, show nI (s + k) + 1 = nI (s + (k + 1)) from nI_add (s + k) 1, bnd_s]
        refine ih (k + 1) f _ (by omega) (by omega) (fr.x (by decide)) ?_ ?_ xs_i (fun _ => ?_) (fun q => absurd q (by decide))
        · rw [xs_o (by omega)]; exact x2
        · rw [xs_o (by omega)]; exact x3
        · rw [xs_o (by omega), x5 rfl, numV, if_pos c]
      · rw [if_neg c, bnd_s, bn1_s, xs_o (by omega), x4, show nI (s + k) + 1 = nI (s + (k + 1)) from nI_add (s + k) 1, bnd_s]
        refine ih (k + 1) f _ (by omega) (by omega) ((fr.x (by decide)).x (by decide)) ?_ ?_ xs_i (fun _ => ?_) (fun q => absurd q (by decide))
        · rw [xs_o (by omega), xs_o (by omega)]; exact x2
        · rw [xs_o (by omega), xs_o (by omega)]; exact x3
        · rw [xs_o (by omega), xs_i, numV, if_neg c]
/-- the token from s to e, the next one behind it -/
def CTk (X : XT) (tx : Nat → Int32) (N s e : Nat) : Prop := X 2 0 0 3 = nI s ∧ X 2 0 0 4 = nI e ∧ (s = N → X 2 0 0 2 = 0) ∧ (s < N → X 2 0 0 2 = kb (tx s) ∧ (kb (tx s) = 3 → X 2 0 0 5 = numV tx s (e - s)) ∧ (kb (tx s) = 2 → X 2 0 0 6 = if e - s ≤ 4 then nameV tx s (e - s) else 0))
abbrev tokOK (tx : Nat → Int32) (N e s e' : Nat) : Prop := e ≤ s ∧ (∀ i, i < s → e ≤ i → kb (tx i) = 1) ∧ ((s = N ∧ e' = N) ∨ (s < e' ∧ e' ≤ N ∧ kb (tx s) ≠ 1 ∧ (((kb (tx s) = 2 ∨ kb (tx s) = 3) ∧ (∀ i, i < e' → s ≤ i → kb (tx i) = kb (tx s)) ∧ (e' = N ∨ (e' < N ∧ kb (tx e') ≠ kb (tx s)))) ∨ (kb (tx s) = 4 ∧ e' = s + 1))))
set_option maxRecDepth 20000 in
theorem skipX {X0 : XT} {tx : Nat → Int32} {N : Nat} (b0 : BX X0 tx N) {s : Nat} (hs : s ≤ N) : ∀ d p f (X : XT), p + d = s → d < f → (∀ i, i < s → p ≤ i → kb (tx i) = 1) → FR X0 X → X 2 0 0 3 = nI p → ∃ f' X', f_X10_toNext_8 f X = f_X10_toNext_8 (f' + 1) X' ∧ X' 2 0 0 3 = nI s ∧ FR X0 X' := by
  have hN := b0.1
  intro d
  induction d with
  | zero =>
    intro p f X hp hf hb fr x3
    obtain ⟨f, rfl⟩ := fuel hf
    exact ⟨f, X, rfl, by rw [x3]; exact congrArg nI (by omega), fr⟩
  | succ d ih =>
    intro p f X hp hf hb fr x3
    obtain ⟨f, rfl⟩ := fuel hf
    have b := b0.fr fr
    have c1 : kb (X 3 0 0 p) = 1 := by rw [b.2.2 p (by omega)]; exact hb p (by omega) (Nat.le_refl _)
    obtain ⟨f', X', e1, e2, e3⟩ := ih (p + 1) f (xs X 2 0 0 3 (nI (p + 1))) (by omega) (by omega) (fun i h1 h2 => hb i h1 (by omega)) (fr.x (by decide)) xs_i
    refine ⟨f', X', ?_, e2, e3⟩
    rw [← e1, f_X10_toNext_8, b.2.1, x3, if_neg (show ¬ nI N ≤ nI p from nI_ge (by omega) (by omega)), kindAt_ b (i := p) (by omega), bn1_s, if_pos c1, show nI p + 1 = nI (p + 1) from nI_add p 1, bnd_s]
set_option maxRecDepth 20000 in
theorem tokX {X : XT} {tx : Nat → Int32} {N : Nat} (b : BX X tx N) {e s e' : Nat} (x4 : X 2 0 0 4 = nI e) (h : tokOK tx N e s e') : ∃ X', f_X10_toNext X = some X' ∧ FR X X' ∧ CTk X' tx N s e' := by
  have hN := b.1
  obtain ⟨h1, h2, h3⟩ := h
  have hs : s ≤ N := by
    rcases h3 with h3 | h3
    · omega
    · omega
  obtain ⟨f', X1, e1, y3, fr⟩ := skipX (X0 := X) b hs (s - e) e 2000 (xs X 2 0 0 3 (nI e)) (by omega) (by omega) h2 (FR.no.x (by decide)) xs_i
  have b1 := b.fr fr
  unfold f_X10_toNext
  rw [bnd_s, x4, e1]
  rcases h3 with ⟨p1, p2⟩ | ⟨g1, g2, g3, g4⟩
  · have p1 := p1.symm
    subst p1
    have p2 := p2.symm
    subst p2
    have y3' := y3
    obtain ⟨X2, hX2⟩ : ∃ Z : XT, Z = xs (xs (xs (xs X1 2 0 0 2 0) 2 0 0 4 (nI N)) 2 0 0 6 0) 2 0 0 5 0 := ⟨_, rfl⟩
    have z3 : X2 2 0 0 3 = nI N := by rw [hX2, xs_o (by omega), xs_o (by omega), xs_o (by omega), xs_o (by omega)]; exact y3
    have z4 : X2 2 0 0 4 = nI N := by rw [hX2, xs_o (by omega), xs_o (by omega), xs_i]
    have z2 : X2 2 0 0 2 = 0 := by rw [hX2, xs_o (by omega), xs_o (by omega), xs_o (by omega), xs_i]
    have fr2 : FR X X2 := by rw [hX2]; exact (((fr.x (by decide)).x (by decide)).x (by decide)).x (by decide)
    have := run_end (b.fr fr2) (Nat.le_refl _) z3 z4 (Nat.le_refl _) (Or.inl rfl) 1999
    rw [Nat.sub_self, if_pos (by decide)] at this
    refine ⟨X2, ?_, fr2, z3, z4, fun _ => z2, fun q => absurd q (Nat.lt_irrefl _)⟩
    rw [f_X10_toNext_8, b1.2.1, y3, if_pos (nI_le (Nat.le_refl _) (by omega)), kindAt_n b1, bn1_s, bnd_s, xs_o (by omega), y3, bnd_s, bnd_s, bnd_s, ← hX2]
    exact this
  · have hb := b1.2.2 s (by omega)
    obtain ⟨X2, hX2⟩ : ∃ Z : XT, Z = xs (xs (xs (xs X1 2 0 0 2 (kb (tx s))) 2 0 0 4 (nI s)) 2 0 0 6 0) 2 0 0 5 0 := ⟨_, rfl⟩
    have z3 : X2 2 0 0 3 = nI s := by rw [hX2, xs_o (by omega), xs_o (by omega), xs_o (by omega), xs_o (by omega)]; exact y3
    have z4 : X2 2 0 0 4 = nI s := by rw [hX2, xs_o (by omega), xs_o (by omega), xs_i]
    have z2 : X2 2 0 0 2 = kb (tx s) := by rw [hX2, xs_o (by omega), xs_o (by omega), xs_o (by omega), xs_i]
    have z6 : X2 2 0 0 6 = 0 := by rw [hX2, xs_o (by omega), xs_i]
    have z5 : X2 2 0 0 5 = 0 := by rw [hX2]; exact xs_i
    have fr2 : FR X X2 := by rw [hX2]; exact (((fr.x (by decide)).x (by decide)).x (by decide)).x (by decide)
    have eX : f_X10_toNext_8 (f' + 1) X1 = f_X10_toNext_74 2000 X2 := by
      rw [f_X10_toNext_8, b1.2.1, y3, if_neg (show ¬ nI N ≤ nI s from nI_ge (by omega) (by omega)), kindAt_ b1 (i := s) (by omega), bn1_s, hb, if_neg g3, bn1_s, bnd_s, xs_o (by omega), y3, bnd_s, bnd_s, bnd_s, ← hX2]
    rw [eX]
    rcases g4 with ⟨k1, k2, k3⟩ | ⟨k1, rfl⟩
    · obtain ⟨X', w1, w2, w3, w4, w5, w6, w7⟩ := runX (X0 := X) b (s := s) (e' := e') (kk := kb (tx s)) g2 k2 k1 g1 k3 (e' - s) 0 2000 X2 (by omega) (by omega) fr2 z2 z3 (by rw [Nat.add_zero]; exact z4) (fun _ => z5) (fun _ => z6)
      exact ⟨X', w1, w2, w4, w5, fun q => by omega, fun _ => ⟨w3, w6, w7⟩⟩
    · have b2 := b.fr fr2
      rw [one_run b2 (by omega) (by rw [z2, b2.2.2 s (by omega)]) z3 z4 (by rw [z2, k1]; decide) (by rw [z2, k1]; decide)]
      refine ⟨_, rfl, fr2.x (by decide), ?_, xs_i, fun q => by omega, fun _ => ⟨?_, fun q => by rw [k1] at q; exact absurd q (by decide), fun q => by rw [k1] at q; exact absurd q (by decide)⟩⟩
      · rw [xs_o (by omega)]; exact z3
      · rw [xs_o (by omega)]; exact z2
/-- the words -/
abbrev SPL (tx : Nat → Int32) (s e t : Nat) : Prop := e = s + strN.getD t 0 ∧ ∀ i, i < strN.getD t 0 → tx (s + i) = sch t i
abbrev NSP (tx : Nat → Int32) (s e t : Nat) : Prop := ¬ e = s + strN.getD t 0 ∨ ∃ k, k < strN.getD t 0 ∧ (∀ i, i < k → tx (s + i) = sch t i) ∧ ¬ tx (s + k) = sch t k
set_option maxRecDepth 20000 in
theorem sl_N : ∀ t, t < 12 → slen t = nI (strN.getD t 0) ∧ strN.getD t 0 < 20 := by decide +kernel
set_option maxRecDepth 20000 in
theorem sp_1 {X : XT} {tx : Nat → Int32} {N : Nat} (b : BX X tx N) {s e t : Nat} (c : CTk X tx N s e) (hs : s < e) (he : e ≤ N) (hk : kb (tx s) = 2) (ht : t < 12) (h : SPL tx s e t) : f_X10_spells X t = some 1 := by
  obtain ⟨h1, h2⟩ := h
  obtain ⟨c1, c2, -, c4⟩ := c
  obtain ⟨c5, -⟩ := c4 (by omega)
  obtain ⟨l1, l2⟩ := sl_N t ht
  have go : ∀ d i f, i + d = strN.getD t 0 → d < f → f_X10_spells_28 X t f (nI i) = some 1 := by
    intro d
    induction d with
    | zero =>
      intro i f hi hf
      obtain ⟨f, rfl⟩ := fuel hf
      rw [f_X10_spells_28, l1, if_pos (nI_le (by omega) (by omega))]
    | succ d ih =>
      intro i f hi hf
      obtain ⟨f, rfl⟩ := fuel hf
      rw [f_X10_spells_28, l1, if_neg (nI_ge (by omega) (by omega)), c1, nI_add, signAt_ b (i := s + i) (by omega), bn1_s, gd_t (nI_in (by omega) (by omega)), nI_clamp (by omega), b.2.2 _ (by omega), if_pos (h2 i (by omega)), show nI i + 1 = nI (i + 1) from nI_add i 1]
      exact ih (i + 1) f (by omega) (by omega)
  unfold f_X10_spells
  rw [if_pos (c5.trans hk), c2, c1, pk_sub (by omega), l1, if_pos (congrArg nI (by omega))]
  exact go (strN.getD t 0) 0 2000 (by omega) (by omega)
set_option maxRecDepth 20000 in
theorem sp_0 {X : XT} {tx : Nat → Int32} {N : Nat} (b : BX X tx N) {s e t : Nat} (c : CTk X tx N s e) (hs : s < e) (he : e ≤ N) (hk : kb (tx s) = 2) (ht : t < 12) (h : NSP tx s e t) : f_X10_spells X t = some 0 := by
  have hN := b.1
  obtain ⟨c1, c2, -, c4⟩ := c
  obtain ⟨c5, -⟩ := c4 (by omega)
  obtain ⟨l1, l2⟩ := sl_N t ht
  unfold f_X10_spells
  rw [if_pos (c5.trans hk), c2, c1, pk_sub (by omega), l1]
  by_cases q : e = s + strN.getD t 0
  · obtain ⟨k, k1, k2, k3⟩ := h.resolve_left (fun n => n q)
    have go : ∀ d i f, i + d = k → d < f → f_X10_spells_28 X t f (nI i) = some 0 := by
      intro d
      induction d with
      | zero =>
        intro i f hi hf
        obtain ⟨f, rfl⟩ := fuel hf
        obtain rfl : i = k := by omega
        rw [f_X10_spells_28, l1, if_neg (nI_ge (by omega) (by omega)), c1, nI_add, signAt_ b (i := s + i) (by omega), bn1_s, gd_t (nI_in (by omega) (by omega)), nI_clamp (by omega), b.2.2 _ (by omega), if_neg k3]
      | succ d ih =>
        intro i f hi hf
        obtain ⟨f, rfl⟩ := fuel hf
        rw [f_X10_spells_28, l1, if_neg (nI_ge (by omega) (by omega)), c1, nI_add, signAt_ b (i := s + i) (by omega), bn1_s, gd_t (nI_in (by omega) (by omega)), nI_clamp (by omega), b.2.2 _ (by omega), if_pos (k2 i (by omega)), show nI i + 1 = nI (i + 1) from nI_add i 1]
        exact ih (i + 1) f (by omega) (by omega)
    rw [if_pos (congrArg nI (by omega))]
    exact go k 0 2000 (by omega) (by omega)
  · rw [if_neg (fun n => q (by have := (nI_eq (by omega) (by omega)).mp n; omega))]
