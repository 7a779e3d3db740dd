/-! PURE: what both readers do with one token -/
/-- all but the readers' fields, book 0 and row 2 stays -/
def PF (X : XT) (M : MT) (X' : XT) (M' : MT) : Prop := (∀ k j i f, k ≠ 1 → (k ≠ 2 ∨ f < 2) → (j ≠ 0 ∨ k < 10) → X' k j i f = X k j i f) ∧ (∀ k, k ≠ 0 → k ≠ 2 → M'.1 k = M.1 k) ∧ (∀ f, (f < 6 ∨ 13 < f) → M'.1 0 f = M.1 0 f) ∧ (∀ f, f ≠ 10 → M'.2.1 f = M.2.1 f) ∧ M'.2.2 = M.2.2
def bo0 (X : XT) : Prop := ∀ i, i < 20 → X 22 0 i 7 = 0 ∨ X 22 0 i 7 = 1
def GOK (X0 : XT) (M0 : MT) (X : XT) (M : MT) (n s e : Nat) : Prop := PF X0 M0 X M ∧ (M.1 0 12 = 0 ∧ X 1 0 0 3 = 0 ∧ X 1 0 0 4 = -1 ∧ bo0 X) ∧ TK X M n s e
def BD (X0 : XT) (M0 : MT) (X : XT) (M : MT) : Prop := PF X0 M0 X M ∧ ¬ M.1 0 12 = 0 ∧ X 1 0 0 3 = M.1 0 12 ∧ X 1 0 0 4 = M.1 0 13 ∧ bo0 X
def DR (X : XT) (M : MT) (nc nv ng np nl nt nb : Nat) : Prop := (∀ i, i < 20 → X 22 0 i 7 = 0 ∨ X 22 0 i 7 = 1) ∧ X 1 0 0 2 = M.1 2 0 ∧ BRn X 0 (M.1 2) nc nv ng np nl nt nb
section PAR
variable {X0 X X' : XT} {M0 M M' : MT} {n s e : Nat}
set_option maxRecDepth 20000 in
theorem PF.bf (h : PF X0 M0 X M) (b : BFn X0 M0 n) : BFn X M n := by
  obtain ⟨b1, b2, b3, b4⟩ := b
  refine ⟨b1, (h.1 2 0 0 1 (by decide) (Or.inr (by decide)) (Or.inr (by decide))).trans b2, (h.2.2.1 5 (Or.inl (by decide))).trans b3, fun i hi => ?_⟩
  rw [h.1 3 0 0 i (by decide) (Or.inl (by decide)) (Or.inr (by decide)), h.2.1 3 (by decide) (by decide)]
  exact b4 i hi
set_option maxRecDepth 20000 in
theorem PF.nf (h : PF X0 M0 X M) (g : NF X M X' M') : PF X0 M0 X' M' :=
  ⟨fun k j i f a b c => (g.1 k j i f b).trans (h.1 k j i f a b c), fun k a b => (g.2.1 k a).trans (h.2.1 k a b), fun f a => (g.2.2.1 f (by omega)).trans (h.2.2.1 f a), fun f a => (g.2.2.2.1 f a).trans (h.2.2.2.1 f a), g.2.2.2.2.trans h.2.2.2.2⟩
set_option maxRecDepth 20000 in
theorem PF.x1 (h : PF X0 M0 X M) {f : Nat} {v : Int32} : PF X0 M0 (xs X 1 0 0 f v) M :=
  ⟨fun k j i f' a b c => (xs_o (by omega)).trans (h.1 k j i f' a b c), h.2⟩
set_option maxRecDepth 20000 in
theorem PF.m (h : PF X0 M0 X M) {f : Nat} {v : Int32} (h1 : 6 ≤ f) (h2 : f ≤ 13) : PF X0 M0 X (mi M 0 f v) :=
  ⟨h.1, fun k a b => (mi_ne a).trans (h.2.1 k a b), fun f' a => (mi_o (by omega)).trans (h.2.2.1 f' a), h.2.2.2⟩
set_option maxRecDepth 20000 in
theorem DR.nf {nc nv ng np nl nt nb : Nat} (h : DR X M nc nv ng np nl nt nb) (g : NF X M X' M') : DR X' M' nc nv ng np nl nt nb := by
  obtain ⟨h1, h2, h3⟩ := h
  refine ⟨fun i hi => ?_, ?_, ?_⟩
  · rw [g.1 22 0 i 7 (Or.inl (by decide))]; exact h1 i hi
  · rw [g.1 1 0 0 2 (Or.inl (by decide)), g.2.1 2 (by decide)]; exact h2
  · rw [g.2.1 2 (by decide)]
    exact h3.eq fun k i f hq => g.1 k 0 i f (Or.inl (by rintro rfl; exact hq))
set_option maxRecDepth 20000 in
theorem GOK.next (b0 : BFn X0 M0 n) (h : GOK X0 M0 X M n s e) : ∃ X' M' s' e', f_X10_toNext X = some X' ∧ f_X12_goOn M = some M' ∧ GOK X0 M0 X' M' n s' e' ∧ NF X M X' M' ∧ e ≤ s' := by
  obtain ⟨h1, ⟨h2, h3, h4, hb⟩, h5⟩ := h
  obtain ⟨X', M', s', e', r1, r2, r3, r4, r5⟩ := next_ (h1.bf b0) h5.2.1 h5.2.2.2.1.1 h5.2.2.2.1.2
  exact ⟨X', M', s', e', r1, r2, ⟨h1.nf r3, ⟨(r3.2.2.1 12 (by decide)).trans h2, (r3.1 1 0 0 3 (by decide)).trans h3, (r3.1 1 0 0 4 (by decide)).trans h4, fun i hi => by rw [r3.1 22 0 i 7 (Or.inl (by decide))]; exact hb i hi⟩, r4⟩, r3, r5⟩
set_option maxRecDepth 20000 in
theorem GOK.good (h : GOK X0 M0 X M n s e) : f_X12_isGood M = some 1 := by
  unfold f_X12_isGood; rw [if_pos h.2.1.1]
set_option maxRecDepth 20000 in
theorem good0 (h : ¬ M.1 0 12 = 0) : f_X12_isGood M = some 0 := by
  unfold f_X12_isGood; rw [if_neg h]
set_option maxRecDepth 20000 in
theorem BD.z (h : BD X0 M0 X M) : ¬ M.1 0 12 = 0 := h.2.1
set_option maxRecDepth 20000 in
theorem bd_fault (h : ¬ M.1 0 12 = 0) (c : Int32) : f_X12_fault M c = some M := by
  unfold f_X12_fault; rw [if_neg h]
set_option maxRecDepth 20000 in
theorem bd_req (h : ¬ M.1 0 12 = 0) (a c : Int32) : f_X12_requireNot M a c = some M := by
  unfold f_X12_requireNot; rw [good0 h, bn1_s, if_pos rfl]
set_option maxRecDepth 20000 in
theorem req0 (c : Int32) : f_X12_requireNot M 0 c = some M := by
  unfold f_X12_requireNot f_X12_isGood
  by_cases h : M.1 0 12 = 0
  · rw [if_pos h, bn1_s, if_neg (by decide), if_pos rfl]
  · rw [if_neg h, bn1_s, if_pos rfl]
set_option maxRecDepth 20000 in
theorem bd_look (h : ¬ M.1 0 12 = 0) (a b : Int32) : f_X12_lookNumber M a b = some (a, M) := by
  unfold f_X12_lookNumber; rw [good0 h, bn1_s, if_pos rfl]
set_option maxRecDepth 20000 in
theorem bd_num (h : ¬ M.1 0 12 = 0) (a b : Int32) : f_X12_takeNumber M a b = some (a, M) := by
  unfold f_X12_takeNumber; rw [bd_look h, bn2_s, good0 h, bn1_s, if_pos rfl]
set_option maxRecDepth 20000 in
theorem bd_named (h : ¬ M.1 0 12 = 0) (a : Int32) : f_X12_takeNamed M a = some (0, M) := by
  unfold f_X12_takeNamed; rw [good0 h, bn1_s, if_pos rfl]
set_option maxRecDepth 20000 in
theorem bd_end (h : ¬ M.1 0 12 = 0) (a : Int32) : f_X12_takeEnd M a = some M := by
  unfold f_X12_takeEnd; rw [good0 h, bn1_s, if_pos rfl]
set_option maxRecDepth 20000 in
/-- a fault -/
theorem fail_ (h1 : PF X0 M0 X M) (h2 : M.1 0 12 = 0) (h3 : X 2 0 0 3 = M.1 0 8) (hb : bo0 X) {c : Int32} (hc : ¬ c = 0) : ∃ X' M', f_X8_fail X c = some (0, X') ∧ f_X12_fault M c = some M' ∧ BD X0 M0 X' M' := by
  refine ⟨xs (xs X 1 0 0 3 c) 1 0 0 4 (X 2 0 0 3), mi (mi M 0 12 c) 0 13 (M.1 0 8), ?_, ?_, h1.x1.x1 |>.m (by decide) (by decide) |>.m (by decide) (by decide), ?_, ?_, ?_, fun i hi => by rw [xs_o (by omega), xs_o (by omega)]; exact hb i hi⟩
  · unfold f_X8_fail
    rw [bnd_s, xs_o (by omega), bnd_s]
  · unfold f_X12_fault
    rw [if_pos h2, bnd_s, mi_o (by decide), bnd_s]
  · rw [mi_o (by decide), mi_i]; exact hc
  · rw [xs_o (by omega), xs_i, mi_o (by decide), mi_i]
  · rw [xs_i, mi_i]; exact h3
set_option maxRecDepth 20000 in
theorem GOK.fail (h : GOK X0 M0 X M n s e) {c : Int32} (hc : ¬ c = 0) : ∃ X' M', f_X8_fail X c = some (0, X') ∧ f_X12_fault M c = some M' ∧ BD X0 M0 X' M' := fail_ h.1 h.2.1.1 (h.2.2.2.2.1.1.trans h.2.2.2.2.1.2.symm) h.2.1.2.2.2 hc
set_option maxRecDepth 20000 in
theorem GOK.req1 (h : GOK X0 M0 X M n s e) (c : Int32) : f_X12_requireNot M 1 c = f_X12_fault M c := by
  unfold f_X12_requireNot
  rw [h.good, bn1_s, if_neg (by decide), if_neg (by decide)]
  cases f_X12_fault M c <;> rfl
set_option maxRecDepth 20000 in
/-- a number, not taken yet -/
theorem GOK.look (b0 : BFn X0 M0 n) (h : GOK X0 M0 X M n s e) (lo : Int32) {hi : Int32} (hh : hi ≤ 99999) : (∃ x : Int32, f_X8_isNumberHere X lo hi = some (1, X) ∧ f_X12_lookNumber M lo hi = some (x, M) ∧ X 2 0 0 5 = x ∧ ¬ x < lo ∧ x ≤ hi ∧ s < e ∧ X 2 0 0 2 = 3) ∨ (∃ X' M', f_X8_isNumberHere X lo hi = some (0, X') ∧ f_X12_lookNumber M lo hi = some (lo, M') ∧ BD X0 M0 X' M') := by
  obtain ⟨t1, t2, ⟨t3, t4⟩, ⟨t5, t6⟩, tk⟩ := h.2.2
  have gd1 := h.good
  by_cases c : X 2 0 0 2 = 3
  · have hk : M.1 0 7 = 2 ∧ s < e ∧ ∃ u v, X 2 0 0 5 = nI v ∧ M.1 0 11 = nI u ∧ u < 10000000 ∧ v < 10000000 ∧ (u = v ∨ (99999 < u ∧ 99999 < v)) := by
      rcases tk with k | k | k | k | k
      · rw [k.1] at c; exact absurd c (by decide)
      · rw [k.1] at c; exact absurd c (by decide)
      · exact k.2
      · rw [k.1] at c; exact absurd c (by decide)
      · rw [k.1] at c; exact absurd c (by decide)
    obtain ⟨k1, k2, u, v, x5, m11, hu, hv, huv⟩ := hk
    have bad : (nI v < lo ∨ ¬ nI v ≤ hi) → (nI u < lo ∨ ¬ nI u ≤ hi) → (∃ X' M', f_X8_isNumberHere X lo hi = some (0, X') ∧ f_X12_lookNumber M lo hi = some (lo, M') ∧ BD X0 M0 X' M') := by
      intro q1 q2
      obtain ⟨X', M', f1, f2, f3⟩ := h.fail (c := 2) (by decide)
      refine ⟨X', M', ?_, ?_, f3⟩
      · unfold f_X8_isNumberHere
        rw [if_pos c, x5]
        by_cases d : nI v < lo
        · rw [if_pos d, f1, bn2_s, gd_t (by decide)]
        · rw [if_neg d, if_neg (q1.resolve_left d), f1, bn2_s, gd_t (by decide)]
      · unfold f_X12_lookNumber
        rw [gd1, bn1_s, if_neg (by decide), if_pos k1, m11, in_0 (q2.imp id fun q => Int32.not_le.mp q), bn1_s, if_pos rfl, f2, bn1_s, good0 f3.z, bn1_s, if_pos rfl]
    rcases huv with rfl | ⟨g1, g2⟩
    · by_cases d : nI u < lo
      · exact Or.inr (bad (Or.inl d) (Or.inl d))
      · by_cases d2 : nI u ≤ hi
        · refine Or.inl ⟨nI u, ?_, ?_, x5, d, d2, k2, c⟩
          · unfold f_X8_isNumberHere
            rw [if_pos c, x5, if_neg d, if_pos d2]
          · unfold f_X12_lookNumber
            rw [gd1, bn1_s, if_neg (by decide), if_pos k1, m11, in_1 (Int32.not_lt.mp d) d2, bn1_s, if_neg (by decide), bn1_s, if_neg (by decide)]
        · exact Or.inr (bad (Or.inr d2) (Or.inr d2))
    · have big : ∀ y, 99999 < y → y < 10000000 → ¬ nI y ≤ hi := fun y y1 y2 q => nI_ge (a := 99999) (b := y) y1 (by omega) (Int32.le_trans q hh)
      exact Or.inr (bad (Or.inr (big v g2 hv)) (Or.inr (big u g1 hu)))
  · obtain ⟨X', M', f1, f2, f3⟩ := h.fail (c := 1) (by decide)
    refine Or.inr ⟨X', M', ?_, ?_, f3⟩
    · unfold f_X8_isNumberHere
      rw [if_neg c, f1, bn2_s, gd_t (by decide)]
    · have k1 : ¬ M.1 0 7 = 2 := by
        rcases tk with k | k | k | k | k
        · rw [k.2.1]; decide
        · rw [k.2.1]; decide
        · exact absurd k.1 c
        · rw [k.2.1]; decide
        · rw [k.2.1]; decide
      unfold f_X12_lookNumber
      rw [gd1, bn1_s, if_neg (by decide), if_neg k1, f2, bn1_s, good0 f3.z, bn1_s, if_pos rfl]
set_option maxRecDepth 20000 in
theorem GOK.num (b0 : BFn X0 M0 n) (h : GOK X0 M0 X M n s e) (lo : Int32) {hi : Int32} (hh : hi ≤ 99999) : (∃ x X' M' s' e', f_X8_readNumber X lo hi = some (x, X') ∧ f_X12_takeNumber M lo hi = some (x, M') ∧ GOK X0 M0 X' M' n s' e' ∧ NF X M X' M' ∧ s < s' ∧ ¬ x < lo ∧ x ≤ hi) ∨ (∃ X' M', f_X8_readNumber X lo hi = some (-1, X') ∧ f_X12_takeNumber M lo hi = some (lo, M') ∧ BD X0 M0 X' M') := by
  unfold f_X8_readNumber f_X12_takeNumber
  rcases h.look b0 lo hh with ⟨x, a1, a2, a3, a4, a5, a6, -⟩ | ⟨X', M', a1, a2, a3⟩
  · obtain ⟨X', M', s', e', r1, r2, r3, r4, r5⟩ := h.next b0
    refine Or.inl ⟨x, X', M', s', e', ?_, ?_, r3, r4, by omega, a4, a5⟩
    · rw [a1, bn2_s, if_neg (by decide), r1, bn1_s, a3]
    · rw [a2, bn2_s, h.good, bn1_s, if_neg (by decide), r2, bn1_s]
  · refine Or.inr ⟨X', M', ?_, ?_, a3⟩
    · rw [a1, bn2_s, if_pos rfl]
    · rw [a2, bn2_s, good0 a3.z, bn1_s, if_pos rfl]
set_option maxRecDepth 20000 in
/-- the ';' at the end of a statement -/
theorem GOK.semi (b0 : BFn X0 M0 n) (h : GOK X0 M0 X M n s e) :
    (∃ M', f_X12_fault M 1 = some M' ∧ (∀ a, f_X12_takeEnd M a = some M') ∧ ¬ M'.1 0 12 = 0 ∧ ∀ X1, (∀ k j i f, (j ≠ 0 ∨ k < 10) → X1 k j i f = X k j i f) → bo0 X1 → ∃ X2, f_X8_isSemicolonHere X1 = some (0, X2) ∧ f_X8_readSemicolon X1 = some (0, X2) ∧ BD X0 M0 X2 M') ∨
    (f_X8_isSemicolonHere X = some (1, X) ∧ (∃ M1 s' e', f_X12_takeEnd M 0 = some M1 ∧ s < s' ∧ M1.1 0 12 = 0 ∧ M1.1 2 = M.1 2 ∧ M1.2.2 = M.2.2 ∧ ∀ X1 M2, (∀ k j i f, (j ≠ 0 ∨ k < 10) → X1 k j i f = X k j i f) → bo0 X1 → (∀ k, k ≠ 2 → M2.1 k = M1.1 k) → M2.2 = M1.2 → ∃ X2, f_X8_readSemicolon X1 = some (1, X2) ∧ GOK X0 M0 X2 M2 n s' e' ∧ ∀ k j i f, k ≠ 2 → X2 k j i f = X1 k j i f) ∧ ∃ X' M', f_X8_fail X 6 = some (0, X') ∧ f_X12_takeEnd M 1 = some M' ∧ BD X0 M0 X' M') := by
  obtain ⟨t1, t2, ⟨t3, t4⟩, ⟨t5, t6⟩, tk⟩ := h.2.2
  have gd1 := h.good
  have pfx : ∀ X1, (∀ k j i f, (j ≠ 0 ∨ k < 10) → X1 k j i f = X k j i f) → PF X0 M0 X1 M := fun X1 q =>
    ⟨fun k j i f a b c => (q k j i f c).trans (h.1.1 k j i f a b c), h.1.2⟩
  by_cases c : X 2 0 0 2 = 4
  · have hk : M.1 0 7 = 3 ∧ s < e ∧ M.1 0 11 = 59 := by
      rcases tk with k | k | k | k | k
      · rw [k.1] at c; exact absurd c (by decide)
      · rw [k.1] at c; exact absurd c (by decide)
      · rw [k.1] at c; exact absurd c (by decide)
      · exact k.2
      · rw [k.1] at c; exact absurd c (by decide)
    obtain ⟨k1, k2, k3⟩ := hk
    have is4 : ∀ X1 : XT, X1 2 0 0 2 = 4 → f_X8_isSemicolonHere X1 = some (1, X1) := by
      intro X1 q
      unfold f_X8_isSemicolonHere
      rw [if_pos q]
    refine Or.inr ⟨is4 X c, ?_, ?_⟩
    · obtain ⟨X', M', s', e', r1, r2, r3, r4, r5⟩ := h.next b0
      refine ⟨M', s', e', ?_, by omega, r3.2.1.1, r4.2.1 2 (by decide), r4.2.2.2.2, fun X1 M2 x1 hb1 m1 m2 => ?_⟩
      · unfold f_X12_takeEnd
        rw [gd1, bn1_s, if_neg (by decide), if_pos k1, if_pos k3, req0, bn1_s, gd1, bn1_s, if_neg (by decide), r2, bn1_s]
      · have hp := pfx X1 x1
        obtain ⟨X2, M1, s2, e2, q1, q2, q3, q4, q5⟩ := next_ (hp.bf b0) t2 ((x1 2 0 0 4 (Or.inr (by decide))).trans t5) t6
        rw [r2] at q2
        obtain rfl : M' = M1 := Option.some.inj q2
        have hn := b0.1
        have z1 := r3.2.2.2.1
        have z2 := q4.2.1
        have es : s2 = s' := (nI_eq (by have := q4.1; omega) (by have := r3.2.2.1; have := r3.2.2.2.1; omega)).mp (q4.2.2.1.2.symm.trans r3.2.2.2.2.1.2)
        have ee : e2 = e' := (nI_eq (by omega) (by omega)).mp (q4.2.2.2.1.2.symm.trans r3.2.2.2.2.2.1.2)
        rw [es, ee] at q4
        refine ⟨X2, ?_, ⟨?_, ⟨?_, ?_, ?_, fun i hi => by rw [q3.1 22 0 i 7 (Or.inl (by decide))]; exact hb1 i hi⟩, ?_⟩, fun k j i f a => q3.1 k j i f (Or.inl a)⟩
        · unfold f_X8_readSemicolon
          rw [is4 X1 ((x1 2 0 0 2 (Or.inr (by decide))).trans c), bn2_s, if_neg (by decide), q1, bn1_s]
        · have := hp.nf q3
          exact ⟨this.1, fun k a b => (m1 k b).trans (this.2.1 k a b), fun f a => (congrFun (m1 0 (by decide)) f).trans (this.2.2.1 f a), fun f a => (congrFun (congrArg Prod.fst m2) f).trans (this.2.2.2.1 f a), (congrArg Prod.snd m2).trans this.2.2.2.2⟩
        · rw [m1 0 (by decide)]; exact r3.2.1.1
        · rw [q3.1 1 0 0 3 (by decide), x1 1 0 0 3 (Or.inr (by decide))]; exact h.2.1.2.1
        · rw [q3.1 1 0 0 4 (by decide), x1 1 0 0 4 (Or.inr (by decide))]; exact h.2.1.2.2.1
        · unfold TK at q4 ⊢
          rw [m1 0 (by decide), m2]
          exact q4
    · obtain ⟨X', M', f1, f2, f3⟩ := h.fail (c := 6) (by decide)
      refine ⟨X', M', f1, ?_, f3⟩
      unfold f_X12_takeEnd
      rw [gd1, bn1_s, if_neg (by decide), if_pos k1, if_pos k3, h.req1, f2, bn1_s, good0 f3.z, bn1_s, if_pos rfl]
  · obtain ⟨X', M', f1, f2, f3⟩ := h.fail (c := 1) (by decide)
    refine Or.inl ⟨M', f2, fun a => ?_, f3.z, fun X1 x1 hb1 => ?_⟩
    · unfold f_X12_takeEnd
      rw [gd1, bn1_s, if_neg (by decide), f2, bn1_s, bd_req f3.z, bn1_s, good0 f3.z, bn1_s, if_pos rfl]
      by_cases c7 : M.1 0 7 = 3
      · rw [if_pos c7]
        have k3 : ¬ M.1 0 11 = 59 := by
          rcases tk with k | k | k | k | k
          · rw [k.2.1] at c7; exact absurd c7 (by decide)
          · rw [k.2.1] at c7; exact absurd c7 (by decide)
          · rw [k.2.1] at c7; exact absurd c7 (by decide)
          · exact absurd k.1 c
          · exact k.2.2.2
        rw [if_neg k3]
      · rw [if_neg c7]
    · have hp := pfx X1 x1
      obtain ⟨X2, M2, g1, g2, g3⟩ := fail_ (c := 1) hp h.2.1.1 ((x1 2 0 0 3 (Or.inr (by decide))).trans (t3.trans t4.symm)) hb1 (by decide)
      rw [f2] at g2
      obtain rfl : M' = M2 := Option.some.inj g2
      have is4 : f_X8_isSemicolonHere X1 = some (0, X2) := by
        unfold f_X8_isSemicolonHere
        rw [if_neg (by rw [x1 2 0 0 2 (Or.inr (by decide))]; exact c), g1, bn2_s, if_pos rfl]
      refine ⟨X2, is4, ?_, g3⟩
      unfold f_X8_readSemicolon
      rw [is4, bn2_s, if_pos rfl]
end PAR
