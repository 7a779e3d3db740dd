/-! THE FIRST TEXT: its statements -/
def FX (X : XT) : Prop := (∀ k j i f, k ≠ 1 → k ≠ 2 → k ≠ 3 → (j ≠ 0 ∨ k < 10) → X k j i f = xI k j i f) ∧ X 1 0 0 3 = 0 ∧ X 1 0 0 4 = -1
def ST (X : XT) (M : MT) (nc nv ng np nl nt s e : Nat) : Prop := BX X ∧ CTk X s e ∧ (M.2.2 = 1 ∧ (∀ k, k ≠ 1 → M.1 k = M00.1 k) ∧ M.2 = M00.2) ∧ BRn X 0 (M.1 1) nc nv ng np nl nt 0 ∧ bo0 X ∧ X 1 0 0 2 = M.1 1 0 ∧ FX X
def aR : Int32 := nI (pkN 32 [4, 5, 18])
def aS : Int32 := nI (pkN 32 [5, 19, 15, 18])
def aA : Int32 := nI (pkN 32 [14, 14, 1])
def aB : Int32 := nI (pkN 32 [20, 18, 5, 2])
def NM (X : XT) (nv ng : Nat) : Prop := (0 < nv → X 13 0 0 0 = aR) ∧ (1 < nv → X 13 0 0 1 = aS) ∧ (0 < ng → X 16 0 0 0 = aA) ∧ (1 < ng → X 16 0 0 1 = aB)
section S2
variable {X X' : XT} {M M' : MT} {nc nv ng np nl nt s e s' e' : Nat}
set_option maxRecDepth 20000 in
theorem FX.fr (h : FX X) (g : FR X X') : FX X' := ⟨fun k j i f a b c d => (g k j i f (Or.inl b)).trans (h.1 k j i f a b c d), (g _ _ _ _ (Or.inl (by decide))).trans h.2.1, (g _ _ _ _ (Or.inl (by decide))).trans h.2.2⟩
set_option maxRecDepth 20000 in
theorem ST.fr (h : ST X M nc nv ng np nl nt s e) (g : FR X X') (c : CTk X' s' e') : ST X' M nc nv ng np nl nt s' e' := by
  obtain ⟨h1, h2, h3, h4, h5, h6, h7⟩ := h
  refine ⟨h1.fr g, c, h3, h4.eq fun k i f hq => g k 0 i f (Or.inl (by rintro rfl; exact hq)), fun i hi => ?_, ?_, h7.fr g⟩
  · rw [g 22 0 i 7 (Or.inl (by decide))]; exact h5 i hi
  · rw [g 1 0 0 2 (Or.inl (by decide))]; exact h6
set_option maxRecDepth 20000 in
theorem NM.fr (h : NM X nv ng) (g : FR X X') : NM X' nv ng := by
  unfold NM
  rw [g 13 _ _ _ (Or.inl (by decide)), g 13 _ _ _ (Or.inl (by decide)), g 16 _ _ _ (Or.inl (by decide)), g 16 _ _ _ (Or.inl (by decide))]
  exact h
set_option maxRecDepth 20000 in
theorem ST.up {nc' nv' ng' np' nl' nt' : Nat} (h : ST X M nc nv ng np nl nt s e) (u : UB X M 0 X' M') (hb : BRn X' 0 (M'.1 M'.2.2) nc' nv' ng' np' nl' nt' 0) (bo : bo0 X') (r0 : M'.1 M.2.2 0 = M.1 M.2.2 0) : ST X' M' nc' nv' ng' np' nl' nt' s e := by
  obtain ⟨h1, h2, h3, h4, h5, h6, h7⟩ := h
  obtain ⟨h3, h3a, h3b⟩ := h3
  have hm : M'.2.2 = 1 := (congrArg (·.2) u.2.2).trans h3
  have hma : ∀ k, k ≠ 1 → M'.1 k = M00.1 k := fun k q => (u.2.1 k (by rw [h3]; exact q)).trans (h3a k q)
  have hmb : M'.2 = M00.2 := u.2.2.trans h3b
  have lo : ∀ k j i f, k < 10 → X' k j i f = X k j i f := fun k j i f q => u.1 k j i f (Or.inr q)
  rw [hm] at hb
  rw [h3] at r0
  obtain ⟨c1, c2, c3, c4⟩ := h2
  refine ⟨⟨(lo _ _ _ _ (by decide)).trans h1.1, fun i hi => (lo _ _ _ _ (by decide)).trans (h1.2 i hi)⟩, ⟨(lo _ _ _ _ (by decide)).trans c1, (lo _ _ _ _ (by decide)).trans c2, fun q => (lo _ _ _ _ (by decide)).trans (c3 q), fun q => ?_⟩, ⟨hm, hma, hmb⟩, hb, bo, ?_, fun k j i f a b c d => (u.1 k j i f d).trans (h7.1 k j i f a b c d), (lo _ _ _ _ (by decide)).trans h7.2.1, (lo _ _ _ _ (by decide)).trans h7.2.2⟩
  · rw [lo _ _ _ _ (by decide), lo _ _ _ _ (by decide), lo _ _ _ _ (by decide)]
    exact c4 q
  · rw [lo _ _ _ _ (by decide), r0]; exact h6
set_option maxRecDepth 20000 in
theorem ST.br (h : ST X M nc nv ng np nl nt s e) : BRn X 0 (M.1 M.2.2) nc nv ng np nl nt 0 := by rw [h.2.2.1.1]; exact h.2.2.2.1
set_option maxRecDepth 20000 in
/-- the current token, not the end -/
theorem ST.lt (h : ST X M nc nv ng np nl nt s e) (hs : s < 291) : X 2 0 0 2 = kb (fTx s) ∧ (kb (fTx s) = 3 → X 2 0 0 5 = numV s (e - s)) ∧ (kb (fTx s) = 2 → X 2 0 0 6 = if e - s ≤ 4 then nameV s (e - s) else 0) := h.2.1.2.2.2 hs
set_option maxRecDepth 20000 in
theorem p_next (h : ST X M nc nv ng np nl nt s e) (t : tokOK e s' e') : ∃ X', f_X10_toNext X = some X' ∧ ST X' M nc nv ng np nl nt s' e' ∧ FR X X' := by
  obtain ⟨X', a, b, c⟩ := tokX h.1 h.2.1.2.1 t
  exact ⟨X', a, h.fr b c, b⟩
set_option maxRecDepth 20000 in
theorem p_num (h : ST X M nc nv ng np nl nt s e) (hs : s < 291) (hk : kb (fTx s) = 3) {v : Int32} (hv : numV s (e - s) = v) {lo hi : Int32} (h1 : ¬ v < lo) (h2 : v ≤ hi) (t : tokOK e s' e') : ∃ X', f_X8_readNumber X lo hi = some (v, X') ∧ ST X' M nc nv ng np nl nt s' e' ∧ FR X X' := by
  obtain ⟨X', a, b, c⟩ := p_next h t
  obtain ⟨q1, q2, -⟩ := h.lt hs
  refine ⟨X', ?_, b, c⟩
  unfold f_X8_readNumber f_X8_isNumberHere
  rw [if_pos (q1.trans hk), q2 hk, hv, if_neg h1, if_pos h2, bn2_s, if_neg (by decide), a, bn1_s, q2 hk, hv]
set_option maxRecDepth 20000 in
theorem p_is (h : ST X M nc nv ng np nl nt s e) (hs : s < 291) (hk : kb (fTx s) = 4) : f_X8_isSemicolonHere X = some (1, X) := by
  unfold f_X8_isSemicolonHere
  rw [if_pos ((h.lt hs).1.trans hk)]
set_option maxRecDepth 20000 in
theorem p_semi (h : ST X M nc nv ng np nl nt s e) (hs : s < 291) (hk : kb (fTx s) = 4) (t : tokOK e s' e') : ∃ X', f_X8_readSemicolon X = some (1, X') ∧ ST X' M nc nv ng np nl nt s' e' ∧ FR X X' := by
  obtain ⟨X', a, b, c⟩ := p_next h t
  refine ⟨X', ?_, b, c⟩
  unfold f_X8_readSemicolon
  rw [p_is h hs hk, bn2_s, if_neg (by decide), a, bn1_s]
set_option maxRecDepth 20000 in
theorem vN (hn : X 11 0 0 4 = nI nv) (h4 : nv ≤ 4) {v : Nat} (hv : v < nv) {a : Int32} (ha : X 13 0 0 v = a) (hne : ∀ i, i < v → ¬ X 13 0 0 i = a) : f_X1_varietyNamed X 0 a = some (nI v) := by
  have go : ∀ d i f, i + d = v → d < f → f_X1_varietyNamed_2 X 0 a f (nI i) = some (nI v) := by
    intro d
    induction d with
    | zero =>
      intro i f hi hf
      obtain ⟨f, rfl⟩ := fuel hf
      obtain rfl : i = v := by omega
      rw [f_X1_varietyNamed_2, hn, if_neg (nI_ge (by omega) (by omega)), gd_t (nI_in (by omega) (by decide)), nI_clamp (by omega), if_pos ha]
    | succ d ih =>
      intro i f hi hf
      obtain ⟨f, rfl⟩ := fuel hf
      rw [f_X1_varietyNamed_2, hn, if_neg (nI_ge (by omega) (by omega)), gd_t (nI_in (by omega) (by decide)), nI_clamp (by omega), if_neg (hne i (by omega)), show nI i + 1 = nI (i + 1) from nI_add i 1]
      exact ih (i + 1) f (by omega) (by omega)
  exact go v 0 2000 (by omega) (by omega)
set_option maxRecDepth 20000 in
theorem vN0 (hn : X 11 0 0 4 = nI nv) (h4 : nv ≤ 4) {a : Int32} (hne : ∀ i, i < nv → ¬ X 13 0 0 i = a) : f_X1_varietyNamed X 0 a = some (-1) := by
  have go : ∀ d i f, i + d = nv → d < f → f_X1_varietyNamed_2 X 0 a f (nI i) = some (-1) := by
    intro d
    induction d with
    | zero =>
      intro i f hi hf
      obtain ⟨f, rfl⟩ := fuel hf
      rw [f_X1_varietyNamed_2, hn, if_pos (nI_le (by omega) (by omega))]
    | succ d ih =>
      intro i f hi hf
      obtain ⟨f, rfl⟩ := fuel hf
      rw [f_X1_varietyNamed_2, hn, if_neg (nI_ge (by omega) (by omega)), gd_t (nI_in (by omega) (by decide)), nI_clamp (by omega), if_neg (hne i (by omega)), show nI i + 1 = nI (i + 1) from nI_add i 1]
      exact ih (i + 1) f (by omega) (by omega)
  exact go nv 0 2000 (by omega) (by omega)
set_option maxRecDepth 20000 in
theorem gN (hn : X 15 0 0 4 = nI ng) (h4 : ng ≤ 6) {v : Nat} (hv : v < ng) {a : Int32} (ha : X 16 0 0 v = a) (hne : ∀ i, i < v → ¬ X 16 0 0 i = a) : f_X5_growerNamed X 0 a = some (nI v) := by
  have go : ∀ d i f, i + d = v → d < f → f_X5_growerNamed_2 X 0 a f (nI i) = some (nI v) := by
    intro d
    induction d with
    | zero =>
      intro i f hi hf
      obtain ⟨f, rfl⟩ := fuel hf
      obtain rfl : i = v := by omega
      rw [f_X5_growerNamed_2, hn, if_neg (nI_ge (by omega) (by omega)), gd_t (nI_in (by omega) (by decide)), nI_clamp (by omega), if_pos ha]
    | succ d ih =>
      intro i f hi hf
      obtain ⟨f, rfl⟩ := fuel hf
      rw [f_X5_growerNamed_2, hn, if_neg (nI_ge (by omega) (by omega)), gd_t (nI_in (by omega) (by decide)), nI_clamp (by omega), if_neg (hne i (by omega)), show nI i + 1 = nI (i + 1) from nI_add i 1]
      exact ih (i + 1) f (by omega) (by omega)
  exact go v 0 2000 (by omega) (by omega)
set_option maxRecDepth 20000 in
theorem gN0 (hn : X 15 0 0 4 = nI ng) (h4 : ng ≤ 6) {a : Int32} (hne : ∀ i, i < ng → ¬ X 16 0 0 i = a) : f_X5_growerNamed X 0 a = some (-1) := by
  have go : ∀ d i f, i + d = ng → d < f → f_X5_growerNamed_2 X 0 a f (nI i) = some (-1) := by
    intro d
    induction d with
    | zero =>
      intro i f hi hf
      obtain ⟨f, rfl⟩ := fuel hf
      rw [f_X5_growerNamed_2, hn, if_pos (nI_le (by omega) (by omega))]
    | succ d ih =>
      intro i f hi hf
      obtain ⟨f, rfl⟩ := fuel hf
      rw [f_X5_growerNamed_2, hn, if_neg (nI_ge (by omega) (by omega)), gd_t (nI_in (by omega) (by decide)), nI_clamp (by omega), if_neg (hne i (by omega)), show nI i + 1 = nI (i + 1) from nI_add i 1]
      exact ih (i + 1) f (by omega) (by omega)
  exact go ng 0 2000 (by omega) (by omega)
/-- a word that is a name -/
abbrev nmOK (s e : Nat) (a : Int32) : Prop := s < 291 ∧ kb (fTx s) = 2 ∧ e - s ≤ 4 ∧ nameV s (e - s) = a
set_option maxRecDepth 20000 in
theorem p_word (h : ST X M nc nv ng np nl nt s e) {a : Int32} (w : nmOK s e a) : f_X8_isWordHere X = some (1, X) ∧ X 2 0 0 6 = a := by
  obtain ⟨w1, w2, w3, w4⟩ := w
  obtain ⟨q1, -, q3⟩ := h.lt w1
  refine ⟨?_, ?_⟩
  · unfold f_X8_isWordHere
    rw [if_pos (q1.trans w2)]
  · rw [q3 w2, if_pos w3, w4]
set_option maxRecDepth 20000 in
theorem p_var (h : ST X M nc nv ng np nl nt s e) {a : Int32} (w : nmOK s e a) {v : Nat} (hv : v < nv) (ha : X 13 0 0 v = a) (hne : ∀ i, i < v → ¬ X 13 0 0 i = a) (t : tokOK e s' e') : ∃ X', f_X8_readVarietyName X = some (nI v, X') ∧ ST X' M nc nv ng np nl nt s' e' ∧ FR X X' := by
  obtain ⟨X', q1, q2, q3⟩ := p_next h t
  obtain ⟨w1, w2⟩ := p_word h w
  have hbb := h.br.b
  refine ⟨X', ?_, q2, q3⟩
  unfold f_X8_readVarietyName
  rw [w1, bn2_s, if_neg (by decide), w2, vN h.br.c.2.1.1 hbb.2.1 hv ha hne, bn1_s, if_neg (nI_m1 (by omega)), q1, bn1_s]
set_option maxRecDepth 20000 in
theorem p_gro (h : ST X M nc nv ng np nl nt s e) {a : Int32} (w : nmOK s e a) {v : Nat} (hv : v < ng) (ha : X 16 0 0 v = a) (hne : ∀ i, i < v → ¬ X 16 0 0 i = a) (t : tokOK e s' e') : ∃ X', f_X8_readGrowerName X = some (nI v, X') ∧ ST X' M nc nv ng np nl nt s' e' ∧ FR X X' := by
  obtain ⟨X', q1, q2, q3⟩ := p_next h t
  obtain ⟨w1, w2⟩ := p_word h w
  have hbb := h.br.b
  refine ⟨X', ?_, q2, q3⟩
  unfold f_X8_readGrowerName
  rw [w1, bn2_s, if_neg (by decide), w2, gN h.br.c.2.2.1.1 hbb.2.2.1 hv ha hne, bn1_s, if_neg (nI_m1 (by omega)), q1, bn1_s]
set_option maxRecDepth 20000 in
theorem p_fresh (h : ST X M nc nv ng np nl nt s e) {a : Int32} (w : nmOK s e a) (h0 : ¬ a = 0) (h1 : ∀ i, i < nv → ¬ X 13 0 0 i = a) (h2 : ∀ i, i < ng → ¬ X 16 0 0 i = a) (t : tokOK e s' e') : ∃ X', f_X8_readNewName X = some (a, X') ∧ ST X' M nc nv ng np nl nt s' e' ∧ FR X X' := by
  obtain ⟨X', q1, q2, q3⟩ := p_next h t
  obtain ⟨w1, w2⟩ := p_word h w
  have hbb := h.br.b
  refine ⟨X', ?_, q2, q3⟩
  unfold f_X8_readNewName f_X0_isNameTaken
  rw [w1, bn2_s, if_neg (by decide), w2, if_neg h0, vN0 h.br.c.2.1.1 hbb.2.1 h1, bn1_s, if_pos rfl, gN0 h.br.c.2.2.1.1 hbb.2.2.1 h2, bn1_s, if_pos rfl, bn1_s, if_pos rfl, q1, bn1_s]
/-- a statement's word -/
abbrev stOK (s e t : Nat) : Prop := s < e ∧ e ≤ 291 ∧ kb (fTx s) = 2 ∧ SPL s e t ∧ ∀ u, u < t → 2 ≤ u → NSP s e u
set_option maxRecDepth 20000 in
theorem ST.sp1 (h : ST X M nc nv ng np nl nt s e) {t : Nat} (w : stOK s e t) (ht : t < 12) : f_X10_spells X t = some 1 := sp_1 h.1 h.2.1 w.1 w.2.1 w.2.2.1 ht w.2.2.2.1
set_option maxRecDepth 20000 in
theorem ST.sp0 (h : ST X M nc nv ng np nl nt s e) {t u : Nat} (w : stOK s e t) (ht : t < 12) (h1 : u < t) (h2 : 2 ≤ u) : f_X10_spells X u = some 0 := sp_0 h.1 h.2.1 w.1 w.2.1 w.2.2.1 (by omega) (w.2.2.2.2 u h1 h2)
set_option maxRecDepth 20000 in
theorem c_tank (h : ST X M nc nv ng np nl nt s e) (w : stOK s e 6) {s1 e1 s2 e2 s3 e3 ca : Nat} (t1 : tokOK e s1 e1) (k1 : s1 < 291 ∧ kb (fTx s1) = 3 ∧ numV s1 (e1 - s1) = nI ca) (hca : 1 ≤ ca ∧ ca ≤ 20000) (t2 : tokOK e1 s2 e2) (k2 : s2 < 291 ∧ kb (fTx s2) = 4) (t3 : tokOK e2 s3 e3) (hnt : nt < 5) : ∃ X' M', f_X8_readStatement X = some (1, X') ∧ f_X12_layTank M (nI ca) = some M' ∧ ST X' M' nc nv ng np nl (nt + 1) s3 e3 := by
  obtain ⟨X1, a1, g1, -⟩ := p_next h t1
  obtain ⟨X2, a2, g2, -⟩ := p_num g1 k1.1 k1.2.1 k1.2.2 (lo := 1) (hi := 20000) (show ¬ nI ca < nI 1 from nI_nlt hca.1 (by omega)) (show nI ca ≤ nI 20000 from nI_le hca.2 (by decide)) t2
  obtain ⟨X3, M', y1, y2, y3, y4, y5, y6⟩ := tankNew_ g2.br hnt hca.2
  have g3 := g2.up y3 y4 (fun i hi => by rw [y5]; exact g2.2.2.2.2.1 i hi) y6
  obtain ⟨X4, a4, g4, -⟩ := p_semi g3 k2.1 k2.2 t3
  refine ⟨X4, M', ?_, y2, g4⟩
  unfold f_X8_readStatement f_X8_readTank
  rw [h.sp0 w (by decide) (u := 2) (by decide) (by decide), bn1_s, if_pos rfl, h.sp0 w (by decide) (u := 3) (by decide) (by decide), bn1_s, if_pos rfl, h.sp0 w (by decide) (u := 4) (by decide) (by decide), bn1_s, if_pos rfl, h.sp0 w (by decide) (u := 5) (by decide) (by decide), bn1_s, if_pos rfl, h.sp1 w (by decide), bn1_s, if_neg (by decide), h.br.c.2.2.2.2.2.1.1, if_pos (show nI nt < 5 from nI_lt (b := 5) hnt (by decide)), a1, bn1_s, a2, bn2_s, if_neg (nI_m1 (by omega)), y1, bn1_s, a4, bn2_s, gd_t (by decide), bn2_s, gd_t (by decide)]
set_option maxRecDepth 20000 in
theorem plot_x {o v a : Int32} (hn : X 15 0 0 5 = nI np) (h8 : np < 8) (hx : f_X5_addPlot X 0 o v a = some X') : (∀ f, X' 13 0 0 f = X 13 0 0 f) ∧ ∀ f, X' 16 0 0 f = X 16 0 0 f := by
  have g : ¬ (nI np < 0 ∨ 8 ≤ (nI np).toNatClampNeg) := nI_in h8 (by decide)
  have y1 : (xs X 17 0 0 np o) 15 0 0 5 = nI np := by rw [xs_o (by omega)]; exact hn
  have y2 : (xs (xs X 17 0 0 np o) 18 0 0 np v) 15 0 0 5 = nI np := by rw [xs_o (by omega)]; exact y1
  have y3 : (xs (xs (xs X 17 0 0 np o) 18 0 0 np v) 19 0 0 np a) 15 0 0 5 = nI np := by rw [xs_o (by omega)]; exact y2
  unfold f_X5_addPlot at hx
  rw [hn, if_neg (show ¬ (8 : Int32) ≤ nI np from nI_ge (b := 8) h8 (by decide)), gd_t g, nI_clamp (by omega), bnd_s, y1, gd_t g, nI_clamp (by omega), bnd_s, y2, gd_t g, nI_clamp (by omega), bnd_s, y3, bnd_s] at hx
  cases hx
  exact ⟨fun f => by rw [xs_o (by omega), xs_o (by omega), xs_o (by omega), xs_o (by omega)], fun f => by rw [xs_o (by omega), xs_o (by omega), xs_o (by omega), xs_o (by omega)]⟩
set_option maxRecDepth 20000 in
theorem NM.keep (h : NM X nv ng) (g : (∀ f, X' 13 0 0 f = X 13 0 0 f) ∧ ∀ f, X' 16 0 0 f = X 16 0 0 f) : NM X' nv ng := by
  unfold NM
  rw [g.1, g.1, g.2, g.2]
  exact h
set_option maxRecDepth 20000 in
theorem c_plot (h : ST X M nc nv ng np nl nt s e) (N : NM X nv ng) (w : stOK s e 5) {s1 e1 s2 e2 s3 e3 s4 e4 s5 e5 o v q : Nat} {a b : Int32} (t1 : tokOK e s1 e1) (w1 : nmOK s1 e1 a) (ho : o < ng) (ha : ∀ Z : XT, NM Z nv ng → Z 16 0 0 o = a ∧ ∀ i, i < o → ¬ Z 16 0 0 i = a) (t2 : tokOK e1 s2 e2) (w2 : nmOK s2 e2 b) (hv : v < nv) (hb : ∀ Z : XT, NM Z nv ng → Z 13 0 0 v = b ∧ ∀ i, i < v → ¬ Z 13 0 0 i = b) (t3 : tokOK e2 s3 e3) (k3 : s3 < 291 ∧ kb (fTx s3) = 3 ∧ numV s3 (e3 - s3) = nI q) (hq : 1 ≤ q ∧ q ≤ 99) (t4 : tokOK e3 s4 e4) (k4 : s4 < 291 ∧ kb (fTx s4) = 4) (t5 : tokOK e4 s5 e5) (hnp : np < 8) : ∃ X' M', f_X8_readStatement X = some (1, X') ∧ f_X12_layPlot M (nI o) (nI v) (nI q) = some M' ∧ ST X' M' nc nv ng (np + 1) nl nt s5 e5 ∧ NM X' nv ng := by
  obtain ⟨X1, a1, g1, f1⟩ := p_next h t1
  have N1 := N.fr f1
  obtain ⟨X2, a2, g2, f2⟩ := p_gro g1 w1 ho (ha X1 N1).1 (ha X1 N1).2 t2
  have N2 := N1.fr f2
  obtain ⟨X3, a3, g3, f3⟩ := p_var g2 w2 hv (hb X2 N2).1 (hb X2 N2).2 t3
  have N3 := N2.fr f3
  obtain ⟨X4, a4, g4, f4⟩ := p_num g3 k3.1 k3.2.1 k3.2.2 (lo := 1) (hi := 99) (show ¬ nI q < nI 1 from nI_nlt hq.1 (by omega)) (show nI q ≤ nI 99 from nI_le hq.2 (by decide)) t4
  have N4 := N3.fr f4
  obtain ⟨X5, M', y1, y2, y3, y4, y5, y6⟩ := plot_ (a := nI q) g4.br hnp ho hv
  have hbb := g4.br.b
  have N5 : NM X5 nv ng := N4.keep (plot_x g4.br.c.2.2.2.1.1 hnp y1)
  have g5 := g4.up y3 y4 (fun i hi => by rw [y5]; exact g4.2.2.2.2.1 i hi) y6
  obtain ⟨X6, a6, g6, f6⟩ := p_semi g5 k4.1 k4.2 t5
  refine ⟨X6, M', ?_, y2, g6, N5.fr f6⟩
  have hx : X4 1 0 0 2 = M.1 M.2.2 0 := by rw [g4.2.2.1.1]; exact g4.2.2.2.2.2.1
  unfold f_X8_readStatement f_X8_readPlot
  rw [h.sp0 w (by decide) (u := 2) (by decide) (by decide), bn1_s, if_pos rfl, h.sp0 w (by decide) (u := 3) (by decide) (by decide), bn1_s, if_pos rfl, h.sp0 w (by decide) (u := 4) (by decide) (by decide), bn1_s, if_pos rfl, h.sp1 w (by decide), bn1_s, if_neg (by decide), h.br.c.2.2.2.1.1, if_pos (show nI np < 8 from nI_lt (b := 8) hnp (by decide)), a1, bn1_s, a2, bn2_s, if_neg (nI_m1 (by omega)), a3, bn2_s, if_neg (nI_m1 (by omega)), a4, bn2_s, if_neg (nI_m1 (by omega)), hx, y1, bn1_s, a6, bn2_s, gd_t (by decide), bn2_s, gd_t (by decide)]
set_option maxRecDepth 20000 in
theorem c_price (h : ST X M nc nv ng np nl nt s e) (N : NM X nv ng) (w : stOK s e 3) {s1 e1 s2 e2 s3 e3 s4 e4 s5 e5 v g c : Nat} {b : Int32} (t1 : tokOK e s1 e1) (w1 : nmOK s1 e1 b) (hv : v < nv) (hb : ∀ Z : XT, NM Z nv ng → Z 13 0 0 v = b ∧ ∀ i, i < v → ¬ Z 13 0 0 i = b) (t2 : tokOK e1 s2 e2) (k2 : s2 < 291 ∧ kb (fTx s2) = 3 ∧ numV s2 (e2 - s2) = nI g) (hg : g < nc) (t3 : tokOK e2 s3 e3) (k3 : s3 < 291 ∧ kb (fTx s3) = 3 ∧ numV s3 (e3 - s3) = nI c) (hc : c ≤ 999) (t4 : tokOK e3 s4 e4) (k4 : s4 < 291 ∧ kb (fTx s4) = 4) (t5 : tokOK e4 s5 e5) : ∃ X' M', f_X8_readStatement X = some (1, X') ∧ f_X12_setPriceNow M (nI v) (nI g) (nI c) = some M' ∧ ST X' M' nc nv ng np nl nt s5 e5 ∧ NM X' nv ng := by
  obtain ⟨X1, a1, g1, f1⟩ := p_next h t1
  have N1 := N.fr f1
  have hbb := h.br.b
  obtain ⟨X2, a2, g2, f2⟩ := p_var g1 w1 hv (hb X1 N1).1 (hb X1 N1).2 t2
  have N2 := N1.fr f2
  obtain ⟨X3, a3, g3, f3⟩ := p_num g2 k2.1 k2.2.1 k2.2.2 (lo := 0) (hi := nI nc - 1) (nI_pos (by omega)) (by rw [show nI nc - 1 = nI (nc - 1) from pk_sub (b := 1) (by omega)]; exact nI_le (by omega) (by omega)) t3
  have N3 := N2.fr f3
  obtain ⟨X4, a4, g4, f4⟩ := p_num g3 k3.1 k3.2.1 k3.2.2 (lo := 0) (hi := 999) (nI_pos (by omega)) (show nI c ≤ nI 999 from nI_le hc (by decide)) t4
  have N4 := N3.fr f4
  obtain ⟨X5, M', y1, y2, y3, y4, y5, y6⟩ := price_ g4.br hv hg hc
  have e1 : f_X1_putPrice X4 0 (nI v) (nI g) (nI c) = some (xs X4 14 0 0 (v * 4 + g) (nI c)) := by
    unfold f_X1_putPrice f_X1_hasVariety f_X1_hasGrade
    rw [g4.br.c.2.1.1, g4.br.c.1.1, if_neg (nI_pos (by omega)), if_neg (nI_ge hv (by omega)), bn1_s, if_neg (by decide), if_neg (nI_pos (by omega)), if_neg (nI_ge hg (by omega)), bn1_s, if_neg (by decide), show nI v * 4 + nI g = nI (v * 4 + g) by rw [show (4 : Int32) = nI 4 from rfl, pk_mul, nI_add], gd_t (nI_in (by omega) (by decide)), nI_clamp (by omega), bnd_s]
  have N5 : NM X5 nv ng := by
    obtain rfl := Option.some.inj (y1.symm.trans e1)
    exact N4.keep ⟨fun f => xs_o (by omega), fun f => xs_o (by omega)⟩
  have g5 := g4.up y3 y4 (fun i hi => by rw [y5]; exact g4.2.2.2.2.1 i hi) y6
  obtain ⟨X6, a6, g6, f6⟩ := p_semi g5 k4.1 k4.2 t5
  refine ⟨X6, M', ?_, y2, g6, N5.fr f6⟩
  unfold f_X8_readStatement f_X8_readPrice
  rw [h.sp0 w (by decide) (u := 2) (by decide) (by decide), bn1_s, if_pos rfl, h.sp1 w (by decide), bn1_s, if_neg (by decide), a1, bn1_s, a2, bn2_s, if_neg (nI_m1 (by omega)), g2.br.c.1.1, a3, bn2_s, if_neg (nI_m1 (by omega)), a4, bn2_s, if_neg (nI_m1 (by omega)), y1, bn1_s, a6, bn2_s, gd_t (by decide), bn2_s, gd_t (by decide)]
set_option maxRecDepth 20000 in
theorem c_variety (h : ST X M nc nv ng np nl nt s e) (w : stOK s e 2) {s1 e1 s2 e2 s3 e3 : Nat} {l : List Nat} (t1 : tokOK e s1 e1) (w1 : nmOK s1 e1 (nI (pkN 32 l))) (hl : 1 ≤ l.length ∧ l.length ≤ 4) (hw : isW l) (h1 : ∀ Z : XT, NM Z nv ng → (∀ i, i < nv → ¬ Z 13 0 0 i = nI (pkN 32 l)) ∧ ∀ i, i < ng → ¬ Z 16 0 0 i = nI (pkN 32 l)) (N : NM X nv ng) (t2 : tokOK e1 s2 e2) (k2 : s2 < 291 ∧ kb (fTx s2) = 4) (t3 : tokOK e2 s3 e3) (hnv : nv < 4) : ∃ X' M', f_X8_readStatement X = some (1, X') ∧ f_X12_layVariety M (nI (pkN 27 l)) (nI l.length) = some M' ∧ ST X' M' nc (nv + 1) ng np nl nt s3 e3 ∧ (∀ k, X' 13 0 0 k = if k = nv then nI (pkN 32 l) else X 13 0 0 k) ∧ ∀ f, X' 16 0 0 f = X 16 0 0 f := by
  obtain ⟨X1, a1, g1, f1⟩ := p_next h t1
  have N1 := N.fr f1
  have b1 := p32_4 hw hl.2
  obtain ⟨X2, a2, g2, f2⟩ := p_fresh g1 w1 (nI_ne0 (p32_0 hw hl.1) (by omega)) (h1 X1 N1).1 (h1 X1 N1).2 t2
  have hbb := g2.br.b
  obtain ⟨X3, M', y1, y2, y3, y4, y5, y6⟩ := variety_ g2.br hnv (a := nI (pkN 32 l)) (b := nI (pkN 27 l)) (c := nI l.length) ⟨l, hl.1, hl.2, hw, rfl, rfl, rfl⟩
  have names : (∀ k, X3 13 0 0 k = if k = nv then nI (pkN 32 l) else X2 13 0 0 k) ∧ ∀ f, X3 16 0 0 f = X2 16 0 0 f := by
    obtain ⟨Z, eZ, hx, -⟩ := zero_prices (j := 0) (nc := nc) (X0 := xs (xs X2 13 0 0 nv (nI (pkN 32 l))) 11 0 0 4 (nI (nv + 1))) hnv hbb.1 (by rw [xs_o (by omega), xs_o (by omega)]; exact g2.br.c.1.1) xs_i nc 0 2000 _ (by omega) (by omega) (fun _ _ _ _ _ => rfl) (fun g hg => absurd hg (Nat.not_lt_zero _))
    have e1 : f_X1_addVariety X2 0 (nI (pkN 32 l)) = some Z := by
      unfold f_X1_addVariety
      rw [g2.br.c.2.1.1, if_neg (show ¬ (4 : Int32) ≤ nI nv from nI_ge (b := 4) hnv (by decide)), gd_t (nI_in hnv (by decide)), nI_clamp (by omega), bnd_s, xs_o (by omega), g2.br.c.2.1.1, show nI nv + 1 = nI (nv + 1) from nI_add nv 1, bnd_s]
      exact eZ
    obtain rfl := Option.some.inj (y1.symm.trans e1)
    refine ⟨fun k => ?_, fun f => ?_⟩
    · rw [hx 13 0 0 k (Or.inl (by decide)), xs_o (by omega)]
      by_cases d : k = nv
      · rw [if_pos d, d, xs_i]
      · rw [if_neg d, xs_o (by omega)]
    · rw [hx 16 0 0 f (Or.inl (by decide)), xs_o (by omega), xs_o (by omega)]
  have g3 := g2.up y3 y4 (fun i hi => by rw [y5]; exact g2.2.2.2.2.1 i hi) y6
  obtain ⟨X4, a4, g4, f4⟩ := p_semi g3 k2.1 k2.2 t3
  have f12 := f1.tr f2
  refine ⟨X4, M', ?_, y2, g4, fun k => ?_, fun f => ?_⟩
  · unfold f_X8_readStatement f_X8_readVariety
    rw [h.sp1 w (by decide), bn1_s, if_neg (by decide), h.br.c.2.1.1, if_pos (show nI nv < 4 from nI_lt (b := 4) hnv (by decide)), a1, bn1_s, a2, bn2_s, if_neg (nI_ne0 (p32_0 hw hl.1) (by omega)), y1, bn1_s, a4, bn2_s, gd_t (by decide), bn2_s, gd_t (by decide)]
  · rw [f4 13 _ _ _ (Or.inl (by decide)), names.1, f12 13 _ _ _ (Or.inl (by decide))]
  · rw [f4 16 _ _ _ (Or.inl (by decide)), names.2, f12 16 _ _ _ (Or.inl (by decide))]
set_option maxRecDepth 20000 in
theorem c_grower (h : ST X M nc nv ng np nl nt s e) (w : stOK s e 4) {s1 e1 s2 e2 s3 e3 : Nat} {l : List Nat} (t1 : tokOK e s1 e1) (w1 : nmOK s1 e1 (nI (pkN 32 l))) (hl : 1 ≤ l.length ∧ l.length ≤ 4) (hw : isW l) (h1 : ∀ Z : XT, NM Z nv ng → (∀ i, i < nv → ¬ Z 13 0 0 i = nI (pkN 32 l)) ∧ ∀ i, i < ng → ¬ Z 16 0 0 i = nI (pkN 32 l)) (N : NM X nv ng) (t2 : tokOK e1 s2 e2) (k2 : s2 < 291 ∧ kb (fTx s2) = 4) (t3 : tokOK e2 s3 e3) (hng : ng < 6) : ∃ X' M', f_X8_readStatement X = some (1, X') ∧ f_X12_layGrower M (nI (pkN 27 l)) (nI l.length) = some M' ∧ ST X' M' nc nv (ng + 1) np nl nt s3 e3 ∧ (∀ k, X' 16 0 0 k = if k = ng then nI (pkN 32 l) else X 16 0 0 k) ∧ ∀ f, X' 13 0 0 f = X 13 0 0 f := by
  obtain ⟨X1, a1, g1, f1⟩ := p_next h t1
  have N1 := N.fr f1
  have b1 := p32_4 hw hl.2
  obtain ⟨X2, a2, g2, f2⟩ := p_fresh g1 w1 (nI_ne0 (p32_0 hw hl.1) (by omega)) (h1 X1 N1).1 (h1 X1 N1).2 t2
  have hbb := g2.br.b
  obtain ⟨X3, M', y1, y2, y3, y4, y5, y6⟩ := grower_ g2.br hng (a := nI (pkN 32 l)) (b := nI (pkN 27 l)) (c := nI l.length) ⟨l, hl.1, hl.2, hw, rfl, rfl, rfl⟩
  have names : (∀ k, X3 16 0 0 k = if k = ng then nI (pkN 32 l) else X2 16 0 0 k) ∧ ∀ f, X3 13 0 0 f = X2 13 0 0 f := by
    have e1 : f_X5_addGrower X2 0 (nI (pkN 32 l)) = some (xs (xs X2 16 0 0 ng (nI (pkN 32 l))) 15 0 0 4 (nI (ng + 1))) := by
      unfold f_X5_addGrower
      rw [g2.br.c.2.2.1.1, if_neg (show ¬ (6 : Int32) ≤ nI ng from nI_ge (b := 6) hng (by decide)), gd_t (nI_in hng (by decide)), nI_clamp (by omega), bnd_s, xs_o (by omega), g2.br.c.2.2.1.1, show nI ng + 1 = nI (ng + 1) from nI_add ng 1, bnd_s]
    obtain rfl := Option.some.inj (y1.symm.trans e1)
    refine ⟨fun k => ?_, fun f => by rw [xs_o (by omega), xs_o (by omega)]⟩
    rw [xs_o (by omega)]
    by_cases d : k = ng
    · rw [if_pos d, d, xs_i]
    · rw [if_neg d, xs_o (by omega)]
  have g3 := g2.up y3 y4 (fun i hi => by rw [y5]; exact g2.2.2.2.2.1 i hi) y6
  obtain ⟨X4, a4, g4, f4⟩ := p_semi g3 k2.1 k2.2 t3
  have f12 := f1.tr f2
  refine ⟨X4, M', ?_, y2, g4, fun k => ?_, fun f => ?_⟩
  · unfold f_X8_readStatement f_X8_readGrower
    rw [h.sp0 w (by decide) (u := 2) (by decide) (by decide), bn1_s, if_pos rfl, h.sp0 w (by decide) (u := 3) (by decide) (by decide), bn1_s, if_pos rfl, h.sp1 w (by decide), bn1_s, if_neg (by decide), h.br.c.2.2.1.1, if_pos (show nI ng < 6 from nI_lt (b := 6) hng (by decide)), a1, bn1_s, a2, bn2_s, if_neg (nI_ne0 (p32_0 hw hl.1) (by omega)), y1, bn1_s, a4, bn2_s, gd_t (by decide), bn2_s, gd_t (by decide)]
  · rw [f4 16 _ _ _ (Or.inl (by decide)), names.1, f12 16 _ _ _ (Or.inl (by decide))]
  · rw [f4 13 _ _ _ (Or.inl (by decide)), names.2, f12 13 _ _ _ (Or.inl (by decide))]
set_option maxRecDepth 20000 in
theorem c_load (h : ST X M nc nv ng np nl nt s e) (w : stOK s e 7) {s1 e1 s2 e2 s3 e3 s4 e4 s5 e5 p a u : Nat} (t1 : tokOK e s1 e1) (k1 : s1 < 291 ∧ kb (fTx s1) = 3 ∧ numV s1 (e1 - s1) = nI p) (hp : p < np) (t2 : tokOK e1 s2 e2) (k2 : s2 < 291 ∧ kb (fTx s2) = 3 ∧ numV s2 (e2 - s2) = nI a) (ha : 1 ≤ a ∧ a ≤ 5000) (t3 : tokOK e2 s3 e3) (k3 : s3 < 291 ∧ kb (fTx s3) = 3 ∧ numV s3 (e3 - s3) = nI u) (hu : u ≤ 250) (t4 : tokOK e3 s4 e4) (k4 : s4 < 291 ∧ kb (fTx s4) = 4) (t5 : tokOK e4 s5 e5) (hr : f_X12_reasonOf M (nI p) (nI a) (nI u) = some 0) : ∃ X' M' r, f_X8_readStatement X = some (1, X') ∧ f_X12_layLoad M (nI p) (nI a) (nI u) = some (r, M') ∧ ST X' M' nc nv ng np (nl + 1) nt s5 e5 := by
  have hbb := h.br.b
  obtain ⟨X1, a1, g1, -⟩ := p_next h t1
  obtain ⟨X2, a2, g2, -⟩ := p_num g1 k1.1 k1.2.1 k1.2.2 (lo := 0) (hi := nI np - 1) (nI_pos (by omega)) (by rw [show nI np - 1 = nI (np - 1) from pk_sub (b := 1) (by omega)]; exact nI_le (by omega) (by omega)) t2
  obtain ⟨X3, a3, g3, -⟩ := p_num g2 k2.1 k2.2.1 k2.2.2 (lo := 1) (hi := 5000) (show ¬ nI a < nI 1 from nI_nlt ha.1 (by omega)) (show nI a ≤ nI 5000 from nI_le ha.2 (by decide)) t3
  obtain ⟨X4, a4, g4, -⟩ := p_num g3 k3.1 k3.2.1 k3.2.2 (lo := 0) (hi := 250) (nI_pos (by omega)) (show nI u ≤ nI 250 from nI_le hu (by decide)) t4
  obtain ⟨k, q1, q2, -, q4⟩ := reason_ g4.br hp (nI a) (nI u)
  rw [hr] at q2
  obtain rfl : (0 : Int32) = k := Option.some.inj q2
  obtain ⟨hl, v', t, g, hv', ht, hg, z1, z2, z3, z4, z5, z6⟩ := q4 rfl
  obtain ⟨r, X5, M', eX, eM, y3, y4, bo, y6⟩ := accept_ g4.br hp ha.1 ha.2 hu hl hv' ht hg z1 z2 z3 z4 z5 z6
  have g5 := g4.up y3 y4 (fun i hi => by
    rcases bo i hi with q | q
    · rw [q]; exact g4.2.2.2.2.1 i hi
    · exact Or.inl q) y6
  obtain ⟨X6, a6, g6, -⟩ := p_semi g5 k4.1 k4.2 t5
  refine ⟨X6, M', r, ?_, eM, g6⟩
  unfold f_X8_readStatement f_X8_readLoad
  rw [h.sp0 w (by decide) (u := 2) (by decide) (by decide), bn1_s, if_pos rfl, h.sp0 w (by decide) (u := 3) (by decide) (by decide), bn1_s, if_pos rfl, h.sp0 w (by decide) (u := 4) (by decide) (by decide), bn1_s, if_pos rfl, h.sp0 w (by decide) (u := 5) (by decide) (by decide), bn1_s, if_pos rfl, h.sp0 w (by decide) (u := 6) (by decide) (by decide), bn1_s, if_pos rfl, h.sp1 w (by decide), bn1_s, if_neg (by decide), a1, bn1_s, g1.br.c.2.2.2.1.1, a2, bn2_s, if_neg (nI_m1 (by omega)), a3, bn2_s, if_neg (nI_m1 (by omega)), a4, bn2_s, if_neg (nI_m1 (by omega)), p_is g4 k4.1 k4.2, bn2_s, if_neg (by decide), q1, bn1_s, if_pos rfl, eX, bn2_s, a6, bn2_s, gd_t (by decide), bn2_s, gd_t (by decide)]
end S2
