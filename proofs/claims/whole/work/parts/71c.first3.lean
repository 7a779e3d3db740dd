/-! THE FIRST TEXT: from its bytes to the first books -/
set_option maxRecDepth 20000 in
theorem sch_b : ∀ t, t < 22 → ∀ i, i < strN.getD t 0 → ((sch t i).toInt8.toInt32).toInt8.toInt32 = sch t i := by decide +kernel
set_option maxRecDepth 20000 in
theorem sl_N2 : ∀ t, t < 22 → slen t = nI (strN.getD t 0) ∧ strN.getD t 0 < 100 := by decide +kernel
set_option maxRecDepth 20000 in
theorem addT {t n : Nat} (ht : t < 22) {X0 : XT} {M0 : MT} (hn : n + strN.getD t 0 ≤ 600) (h : BFn X0 M0 n) : ∃ X' M', f_X10_addText X0 t = some X' ∧ BFn X' M' (n + strN.getD t 0) ∧ (∀ i, i < n → M'.1 3 i = M0.1 3 i) ∧ (∀ i, i < strN.getD t 0 → M'.1 3 (n + i) = sch t i) ∧ ∀ k j i f, k ≠ 2 ∨ 2 ≤ f → k ≠ 3 → X' k j i f = X0 k j i f := by
  obtain ⟨l1, l2⟩ := sl_N2 t ht
  have go : ∀ d i f (X : XT) (M : MT), i + d = strN.getD t 0 → d < f → BFn X M (n + i) → (∀ q, q < n → M.1 3 q = M0.1 3 q) → (∀ q, q < i → M.1 3 (n + q) = sch t q) → (∀ k j i f, k ≠ 2 ∨ 2 ≤ f → k ≠ 3 → X k j i f = X0 k j i f) → ∃ X' M', f_X10_addText_2 t f X (nI i) = some X' ∧ BFn X' M' (n + strN.getD t 0) ∧ (∀ i, i < n → M'.1 3 i = M0.1 3 i) ∧ (∀ i, i < strN.getD t 0 → M'.1 3 (n + i) = sch t i) ∧ ∀ k j i f, k ≠ 2 ∨ 2 ≤ f → k ≠ 3 → X' k j i f = X0 k j i f := by
    intro d
    induction d with
    | zero =>
      intro i f X M hi hf b m1 m2 fr
      obtain ⟨f, rfl⟩ := fuel hf
      obtain rfl : i = strN.getD t 0 := by omega
      rw [f_X10_addText_2, l1, if_pos (nI_le (Nat.le_refl _) (by omega))]
      exact ⟨X, M, rfl, b, m1, m2, fr⟩
    | succ d ih =>
      intro i f X M hi hf b m1 m2 fr
      obtain ⟨f, rfl⟩ := fuel hf
      have hb := b
      obtain ⟨b1, b2, b3, b4⟩ := b
      rw [f_X10_addText_2, l1, if_neg (nI_ge (by omega) (by omega)), gd_t (nI_in (by omega) (by omega)), nI_clamp (by omega)]
      have e : f_X10_addByte X (sch t i) = some (xs (xs X 3 0 0 (n + i) (sch t i)) 2 0 0 1 (nI (n + i + 1))) := by
        unfold f_X10_addByte
        rw [b2, if_neg (show ¬ (600 : Int32) ≤ nI (n + i) from nI_ge (a := n + i) (b := 600) (by omega) (by decide)), gd_t (nI_in (by omega) (by decide)), nI_clamp (by omega), bnd_s, xs_o (by omega), b2, show nI (n + i) + 1 = nI (n + i + 1) from nI_add (n + i) 1, bnd_s, sch_b t ht i (by omega)]
      obtain ⟨X1, x1, x2, -⟩ := byte_ hb (by omega) (sch t i)
      rw [sch_b t ht i (by omega)] at x2
      obtain rfl := Option.some.inj (x1.symm.trans e)
      rw [e, bn1_s, show nI i + 1 = nI (i + 1) from nI_add i 1]
      refine ih (i + 1) f _ _ (by omega) (by omega) x2 (fun q hq => ?_) (fun q hq => ?_) (fun k j i' f' a c => ?_)
      · rw [mi_ne (by decide), mi_o (by omega)]; exact m1 q hq
      · rw [mi_ne (by decide)]
        by_cases c : q = i
        · subst c; exact mi_i
        · rw [mi_o (by omega)]; exact m2 q (by omega)
      · rw [xs_o (by omega), xs_o (by omega)]; exact fr k j i' f' a c
  exact go (strN.getD t 0) 0 2000 X0 M0 (by omega) (by omega) h (fun _ _ => rfl) (fun q hq => absurd hq (Nat.not_lt_zero _)) (fun _ _ _ _ _ _ => rfl)
set_option maxRecDepth 20000 in
theorem fT_12 : ∀ i, i < strN.getD 12 0 → fTx (0 + i) = sch 12 i := by decide +kernel
set_option maxRecDepth 20000 in
theorem fT_13 : ∀ i, i < strN.getD 13 0 → fTx (37 + i) = sch 13 i := by decide +kernel
set_option maxRecDepth 20000 in
theorem fT_14 : ∀ i, i < strN.getD 14 0 → fTx (62 + i) = sch 14 i := by decide +kernel
set_option maxRecDepth 20000 in
theorem fT_15 : ∀ i, i < strN.getD 15 0 → fTx (136 + i) = sch 15 i := by decide +kernel
set_option maxRecDepth 20000 in
theorem fT_16 : ∀ i, i < strN.getD 16 0 → fTx (209 + i) = sch 16 i := by decide +kernel
set_option maxRecDepth 20000 in
theorem fT_17 : ∀ i, i < strN.getD 17 0 → fTx (236 + i) = sch 17 i := by decide +kernel
set_option maxRecDepth 20000 in
theorem text_ : ∃ X6, (∀ k : XT → Option XT, bn1 (f_X10_addText xI 12) (fun X1 => bn1 (f_X10_addText X1 13) (fun X2 => bn1 (f_X10_addText X2 14) (fun X3 => bn1 (f_X10_addText X3 15) (fun X4 => bn1 (f_X10_addText X4 16) (fun X5 => bn1 (f_X10_addText X5 17) k))))) = k X6) ∧ BX X6 ∧ ∀ k j i f, k ≠ 2 ∨ 2 ≤ f → k ≠ 3 → X6 k j i f = xI k j i f := by
  have h0 : BFn xI M00 0 := ⟨by decide, rfl, rfl, fun i hi => absurd hi (Nat.not_lt_zero _)⟩
  obtain ⟨X1, M1, a1, b1, c1, d1, f1⟩ := addT (t := 12) (n := 0) (by decide) (by decide) h0
  have h1 : BFn X1 M1 37 := b1
  obtain ⟨X2, M2, a2, b2, c2, d2, f2⟩ := addT (t := 13) (n := 37) (by decide) (by decide) h1
  have h2 : BFn X2 M2 62 := b2
  obtain ⟨X3, M3, a3, b3, c3, d3, f3⟩ := addT (t := 14) (n := 62) (by decide) (by decide) h2
  have h3 : BFn X3 M3 136 := b3
  obtain ⟨X4, M4, a4, b4, c4, d4, f4⟩ := addT (t := 15) (n := 136) (by decide) (by decide) h3
  have h4 : BFn X4 M4 209 := b4
  obtain ⟨X5, M5, a5, b5, c5, d5, f5⟩ := addT (t := 16) (n := 209) (by decide) (by decide) h4
  have h5 : BFn X5 M5 236 := b5
  obtain ⟨X6, M6, a6, b6, c6, d6, f6⟩ := addT (t := 17) (n := 236) (by decide) (by decide) h5
  have h6 : BFn X6 M6 291 := b6
  have bytes : ∀ i, i < 291 → M6.1 3 i = fTx i := by
    intro i hi
    by_cases q0 : i < 37
    · have := d1 (i - 0) (show i - 0 < 37 by omega)
      rw [show 0 + (i - 0) = i by omega] at this
      have g := fT_12 (i - 0) (show i - 0 < 37 by omega)
      rw [show 0 + (i - 0) = i by omega] at g
      rw [c6 i (by omega), c5 i (by omega), c4 i (by omega), c3 i (by omega), c2 i (by omega), this, g]
    by_cases q1 : i < 62
    · have := d2 (i - 37) (show i - 37 < 25 by omega)
      rw [show 37 + (i - 37) = i by omega] at this
      have g := fT_13 (i - 37) (show i - 37 < 25 by omega)
      rw [show 37 + (i - 37) = i by omega] at g
      rw [c6 i (by omega), c5 i (by omega), c4 i (by omega), c3 i (by omega), this, g]
    by_cases q2 : i < 136
    · have := d3 (i - 62) (show i - 62 < 74 by omega)
      rw [show 62 + (i - 62) = i by omega] at this
      have g := fT_14 (i - 62) (show i - 62 < 74 by omega)
      rw [show 62 + (i - 62) = i by omega] at g
      rw [c6 i (by omega), c5 i (by omega), c4 i (by omega), this, g]
    by_cases q3 : i < 209
    · have := d4 (i - 136) (show i - 136 < 73 by omega)
      rw [show 136 + (i - 136) = i by omega] at this
      have g := fT_15 (i - 136) (show i - 136 < 73 by omega)
      rw [show 136 + (i - 136) = i by omega] at g
      rw [c6 i (by omega), c5 i (by omega), this, g]
    by_cases q4 : i < 236
    · have := d5 (i - 209) (show i - 209 < 27 by omega)
      rw [show 209 + (i - 209) = i by omega] at this
      have g := fT_16 (i - 209) (show i - 209 < 27 by omega)
      rw [show 209 + (i - 209) = i by omega] at g
      rw [c6 i (by omega), this, g]
    -- the last
    have := d6 (i - 236) (show i - 236 < 55 by omega)
    rw [show 236 + (i - 236) = i by omega] at this
    have g := fT_17 (i - 236) (show i - 236 < 55 by omega)
    rw [show 236 + (i - 236) = i by omega] at g
    rw [this, g]
  refine ⟨X6, fun k => by rw [a1, bn1_s, a2, bn1_s, a3, bn1_s, a4, bn1_s, a5, bn1_s, a6, bn1_s], ⟨h6.2.1, fun i hi => by rw [(h6.2.2.2 i hi).1]; exact bytes i hi⟩, fun k j i f q1 q2 => ?_⟩
  rw [f6 _ _ _ _ q1 q2, f5 _ _ _ _ q1 q2, f4 _ _ _ _ q1 q2, f3 _ _ _ _ q1 q2, f2 _ _ _ _ q1 q2, f1 _ _ _ _ q1 q2]
section S3
variable {X X' : XT} {M M' : MT} {nc s e s' e' : Nat}
set_option maxRecDepth 20000 in
theorem st_set (h : ST X M 0 0 0 0 0 0 s e) {v : Int32} {ca : Nat} (hca : ca ≤ 99999) (x : ∀ k j i f, (k ≠ 1 ∨ f ≠ 2) → (k ≠ 10) → X' k j i f = X k j i f) (x1 : X' 1 0 0 2 = v) (x4 : X' 10 0 0 4 = nI ca) (x5 : X' 10 0 0 5 = 0) (x6 : X' 10 0 0 6 = nI ca) (x10 : ∀ j i f, j ≠ 0 → X' 10 j i f = X 10 j i f) (m : M'.2 = M.2) (mk : ∀ k, k ≠ 1 → M'.1 k = M.1 k) (m0 : M'.1 1 0 = v) (m1 : M'.1 1 1 = nI ca) (m2 : M'.1 1 2 = nI ca) (mz : ∀ q, 3 ≤ q → q < 264 → M'.1 1 q = 0) : ST X' M' 0 0 0 0 0 0 s e := by
  obtain ⟨h1, h2, ⟨h3, h3a, h3b⟩, h4, h5, h6, h7⟩ := h
  have c := h4.c
  have lo : ∀ k j i f, k ≠ 1 → k ≠ 10 → X' k j i f = X k j i f := fun k j i f a b => x k j i f (Or.inl a) b
  obtain ⟨c1, c2, c3, c4⟩ := h2
  refine ⟨⟨(lo _ _ _ _ (by decide) (by decide)).trans h1.1, fun i hi => (lo _ _ _ _ (by decide) (by decide)).trans (h1.2 i hi)⟩, ⟨(lo _ _ _ _ (by decide) (by decide)).trans c1, (lo _ _ _ _ (by decide) (by decide)).trans c2, fun q => (lo _ _ _ _ (by decide) (by decide)).trans (c3 q), fun q => ?_⟩, ⟨by rw [m]; exact h3, fun k q => (mk k q).trans (h3a k q), m.trans h3b⟩, empty_ hca ⟨?_, ?_, ?_, ?_, ?_, ?_, ?_⟩ ⟨x4, x5, x6⟩ m1 m2 mz, fun i hi => ?_, x1.trans m0.symm, ⟨fun k j i f a1 a2 a3 a4 => ?_, ?_, ?_⟩⟩
  · rw [lo 2 _ _ _ (by decide) (by decide), lo 2 _ _ _ (by decide) (by decide), lo 2 _ _ _ (by decide) (by decide)]
    exact c4 q
  · rw [lo _ _ _ _ (by decide) (by decide)]; exact c.1.1
  · rw [lo _ _ _ _ (by decide) (by decide)]; exact c.2.1.1
  · rw [lo _ _ _ _ (by decide) (by decide)]; exact c.2.2.1.1
  · rw [lo _ _ _ _ (by decide) (by decide)]; exact c.2.2.2.1.1
  · rw [lo _ _ _ _ (by decide) (by decide)]; exact c.2.2.2.2.1.1
  · rw [lo _ _ _ _ (by decide) (by decide)]; exact c.2.2.2.2.2.1.1
  · rw [lo _ _ _ _ (by decide) (by decide)]; exact c.2.2.2.2.2.2.1
  · rw [lo _ _ _ _ (by decide) (by decide)]; exact h5 i hi
  · by_cases q : k = 10
    · subst q
      rw [x10 j i f (by omega)]
      exact h7.1 10 j i f a1 a2 a3 a4
    · rw [lo k j i f a1 q]; exact h7.1 k j i f a1 a2 a3 a4
  · rw [x 1 0 0 3 (Or.inr (by decide)) (by decide)]; exact h7.2.1
  · rw [x 1 0 0 4 (Or.inr (by decide)) (by decide)]; exact h7.2.2
set_option maxRecDepth 20000 in
theorem st_m (h : ST X M nc 0 0 0 0 0 s e) (m : M'.2 = M.2) (mk : ∀ k, M'.1 k = M.1 k) : ST X M' nc 0 0 0 0 0 s e := by
  obtain ⟨h1, h2, ⟨h3, h3a, h3b⟩, h4, h5, h6, h7⟩ := h
  exact ⟨h1, h2, ⟨by rw [m]; exact h3, fun k q => (mk k).trans (h3a k q), m.trans h3b⟩, by rw [mk]; exact h4, h5, by rw [mk]; exact h6, h7⟩
set_option maxRecDepth 20000 in
theorem c_sugar (h : ST X M nc 0 0 0 0 0 s e) (hc : nc < 4) {v : Int32} (k1 : s < 291 ∧ kb (fTx s) = 3 ∧ numV s (e - s) = v) (h0 : ¬ v < 0) (h1 : v ≤ 200) (hl : nc = 0 ∨ ¬ M.1 1 (12 + (nc - 1)) ≤ v) (t : tokOK e s' e') : ∃ X', f_X8_readLowestSugar X = some (1, X') ∧ ST X' (mi (mi M 1 (12 + nc) v) 1 3 (nI (nc + 1))) (nc + 1) 0 0 0 0 0 s' e' := by
  obtain ⟨X1, y1, u, hb', bo⟩ := class_ h.br hc v
  rw [h.2.2.1.1] at u hb'
  have g1 : ST X1 (mi (mi M 1 (12 + nc) v) 1 3 (nI (nc + 1))) (nc + 1) 0 0 0 0 0 s e := h.up u (by show BRn X1 0 ((mi (mi M 1 (12 + nc) v) 1 3 (nI (nc + 1))).1 M.2.2) _ _ _ _ _ _ _; rw [h.2.2.1.1]; exact hb') (fun i hi => by rw [bo]; exact h.2.2.2.2.1 i hi) (by rw [h.2.2.1.1, mi_o (by decide), mi_o (by omega)])
  obtain ⟨X2, a2, g2, -⟩ := p_next g1 t
  obtain ⟨q1, q2, -⟩ := h.lt k1.1
  refine ⟨X2, ?_, g2⟩
  have hless : f_X1_isLessThanLast X 0 v = some 1 := by
    unfold f_X1_isLessThanLast f_X1_hasGrade
    rw [h.br.c.1.1]
    by_cases c0 : nc = 0
    · subst c0
      rw [bnd_s, if_pos (by decide), bn1_s, if_pos rfl]
    · have cl := h.br.cl (k := nc - 1) (by omega)
      rw [h.2.2.1.1] at cl
      rw [show nI nc - 1 = nI (nc - 1) from pk_sub (b := 1) (by omega), bnd_s, if_neg (nI_pos (by omega)), if_neg (nI_ge (by omega) (by omega)), bn1_s, if_neg (by decide), gd_t (nI_in (by omega) (by decide)), nI_clamp (by omega), cl, if_neg (hl.resolve_left c0)]
  unfold f_X8_readLowestSugar f_X8_isNumberHere
  rw [if_pos (q1.trans k1.2.1), q2 k1.2.1, k1.2.2, if_neg h0, if_pos h1, bn2_s, if_neg (by decide), q2 k1.2.1, k1.2.2, hless, bn1_s, if_neg (by decide), h.br.c.1.1, if_pos (show nI nc < 4 from nI_lt (b := 4) hc (by decide)), y1, bn1_s, a2, bn1_s]
set_option maxRecDepth 20000 in
theorem ra_step (hk : ¬ X 2 0 0 2 = 0) (hs : f_X8_readStatement X = some (1, X')) {k : Nat} (h : k < 600) (f : Nat) : f_X8_readAll_46 (f + 1) X 1 (nI k) = f_X8_readAll_46 f X' 1 (nI (k + 1)) := by
  rw [f_X8_readAll_46, if_neg (show ¬ (600 : Int32) ≤ nI k from nI_ge (b := 600) h (by decide)), if_neg (by decide), if_neg hk, hs, bn2_s, show nI k + 1 = nI (k + 1) from nI_add k 1]
set_option maxRecDepth 20000 in
theorem ra_end (hk : X 2 0 0 2 = 0) {k : Nat} (h : k < 600) (f : Nat) : f_X8_readAll_46 (f + 1) X 1 (nI k) = some (1, xs X 2 0 0 1 0) := by
  rw [f_X8_readAll_46, if_neg (show ¬ (600 : Int32) ≤ nI k from nI_ge (b := 600) h (by decide)), if_neg (by decide), if_pos hk, bnd_s, gd_t (by decide)]
set_option maxRecDepth 20000 in
theorem ST.k2 {nv ng np nl nt : Nat} (h : ST X M nc nv ng np nl nt s e) (hs : s < 291) (hk : kb (fTx s) = 2) : ¬ X 2 0 0 2 = 0 := by
  rw [(h.lt hs).1, hk]
  decide
end S3
def L0 : MT := mi (mi (mi (mi (mi (mi (mi M00 1 0 30) 1 1 5000) 1 2 5000) 1 3 3) 1 12 90) 1 13 75) 1 14 60
def Lc : MT := mi (mi (mi M00 1 0 30) 1 1 5000) 1 2 5000
set_option maxRecDepth 20000 in
theorem coopX {X : XT} (h : ST X M00 0 0 0 0 0 0 0 11) : ∃ X', f_X8_readCooperative X = some (1, X') ∧ ST X' Lc 0 0 0 0 0 0 20 27 := by
  obtain ⟨X1, a1, g1, -⟩ := p_next h (s' := 12) (e' := 14) (by decide +kernel)
  obtain ⟨X2, a2, g2, -⟩ := p_num g1 (v := 30) (lo := 1) (hi := 200) (by decide) (by decide +kernel) (by decide +kernel) (by decide) (by decide) (s' := 15) (e' := 19) (by decide +kernel)
  have c2 := g2.br.m
  have g3 : ST (xs X2 1 0 0 2 30) (mi M00 1 0 30) 0 0 0 0 0 0 15 19 := st_set g2 (ca := 0) (by decide) (fun k j i f q _ => xs_o (by omega)) xs_i (by rw [xs_o (by omega)]; exact c2.1) (by rw [xs_o (by omega)]; exact c2.2.1) (by rw [xs_o (by omega)]; exact c2.2.2.1) (fun j i f _ => xs_o (by omega)) rfl (fun k q => mi_ne q) mi_i rfl rfl (fun q q1 _ => by rw [mi_o (by omega)]; rfl)
  obtain ⟨X4, a4, g4, -⟩ := p_num g3 (v := 5000) (lo := 0) (hi := 99999) (by decide) (by decide +kernel) (by decide +kernel) (by decide) (by decide) (s' := 19) (e' := 20) (by decide +kernel)
  have g5 : ST (xs (xs (xs X4 10 0 0 4 5000) 10 0 0 5 0) 10 0 0 6 5000) Lc 0 0 0 0 0 0 19 20 := st_set g4 (ca := 5000) (v := 30) (by decide) (fun k j i f _ q => by rw [xs_o (by omega), xs_o (by omega), xs_o (by omega)]) (by rw [xs_o (by omega), xs_o (by omega), xs_o (by omega)]; exact g4.2.2.2.2.2.1) (by rw [xs_o (by omega), xs_o (by omega), xs_i]; rfl) (by rw [xs_o (by omega), xs_i]) (xs_i.trans rfl) (fun j i f q => by rw [xs_o (by omega), xs_o (by omega), xs_o (by omega)]) rfl (fun k q => by show (mi _ _ _ _).1 k = _; rw [mi_ne q, mi_ne q]) rfl rfl rfl (fun q q1 _ => by show (mi _ _ _ _).1 1 q = _; rw [mi_o (by omega), mi_o (by omega), mi_o (by omega)]; rfl)
  obtain ⟨X6, a6, g6, -⟩ := p_semi g5 (by decide) (by decide +kernel) (s' := 20) (e' := 27) (by decide +kernel)
  refine ⟨X6, ?_, g6⟩
  unfold f_X8_readCooperative f_X0_open
  rw [sp_1 h.1 h.2.1 (t := 0) (by decide) (by decide) (by decide +kernel) (by decide) (by decide +kernel), bn1_s, if_neg (by decide), a1, bn1_s, a2, bn2_s, bnd_s, xs_i, if_neg (by decide), a4, bn2_s, if_neg (by decide), bnd_s, bnd_s, bnd_s, bn1_s, a6, bn2_s, gd_t (by decide)]
set_option maxRecDepth 20000 in
theorem classesX {X : XT} (h : ST X Lc 0 0 0 0 0 0 20 27) : ∃ X', f_X8_readClasses X = some (1, X') ∧ ST X' L0 3 0 0 0 0 0 37 44 := by
  obtain ⟨X1, a1, g1, -⟩ := p_next h (s' := 28) (e' := 30) (by decide +kernel)
  obtain ⟨X2, a2, g2⟩ := c_sugar g1 (by decide) (v := 90) ⟨by decide, by decide +kernel, by decide +kernel⟩ (by decide) (by decide) (Or.inl rfl) (s' := 31) (e' := 33) (by decide +kernel)
  obtain ⟨X3, a3, g3⟩ := c_sugar g2 (by decide) (v := 75) ⟨by decide, by decide +kernel, by decide +kernel⟩ (by decide) (by decide) (Or.inr (by decide)) (s' := 34) (e' := 36) (by decide +kernel)
  obtain ⟨X4, a4, g4⟩ := c_sugar g3 (by decide) (v := 60) ⟨by decide, by decide +kernel, by decide +kernel⟩ (by decide) (by decide) (Or.inr (by decide)) (s' := 36) (e' := 37) (by decide +kernel)
  obtain ⟨X5, a5, g5, -⟩ := p_semi g4 (by decide) (by decide +kernel) (s' := 37) (e' := 44) (by decide +kernel)
  refine ⟨X5, ?_, st_m g5 rfl (fun k => funext fun q => ?_)⟩
  · have n2 : ¬ X2 2 0 0 2 = 4 := by rw [(g2.lt (by decide)).1]; decide +kernel
    have n3 : ¬ X3 2 0 0 2 = 4 := by rw [(g3.lt (by decide)).1]; decide +kernel
    have n4 : X4 2 0 0 2 = 4 := by rw [(g4.lt (by decide)).1]; decide +kernel
    unfold f_X8_readClasses
    rw [sp_1 h.1 h.2.1 (t := 1) (by decide) (by decide) (by decide +kernel) (by decide) (by decide +kernel), bn1_s, if_neg (by decide), a1, bn1_s, a2, bn2_s]
    rw [f_X8_readClasses_32, if_neg (by decide), if_neg (by decide), if_neg n2, a3, bn2_s]
    rw [f_X8_readClasses_32, if_neg (by decide), if_neg (by decide), if_neg n3, a4, bn2_s]
    rw [f_X8_readClasses_32, if_neg (by decide), if_neg (by decide), if_pos n4, if_neg (by decide), a5, bn2_s, if_neg (by decide)]
  · show L0.1 k q = (mi (mi (mi (mi (mi (mi Lc 1 12 90) 1 3 (nI 1)) 1 13 75) 1 3 (nI 2)) 1 14 60) 1 3 (nI 3)).1 k q
    by_cases hk : k = 1
    · subst hk
      by_cases q3 : q = 3
      · subst q3; rfl
      · by_cases q12 : q = 12
        · subst q12; rfl
        · by_cases q13 : q = 13
          · subst q13; rfl
          · by_cases q14 : q = 14
            · subst q14; rfl
            · rw [mi_o q3, mi_o q14, mi_o q3, mi_o q13, mi_o q3, mi_o q12]
              show (mi _ _ _ _).1 1 q = _
              rw [mi_o q14, mi_o q13, mi_o q12, mi_o q3]
              rfl
    · rw [mi_ne hk, mi_ne hk, mi_ne hk, mi_ne hk, mi_ne hk, mi_ne hk]
      show (mi _ _ _ _).1 k q = _
      rw [mi_ne hk, mi_ne hk, mi_ne hk, mi_ne hk]
      rfl
