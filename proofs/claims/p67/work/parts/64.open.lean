/-! PURE: a text's beginning: the cooperative, the classes -/
section OPEN
variable {X X0 X' : XT} {T w r rest : List Int32} {D : NF} {vn gn : Nat → Int32} {P : Nat → Nat}
set_option maxRecDepth 20000 in
theorem at_first (b : BX X (TX T) T.length) (x4 : X 2 0 0 4 = nI 0) (hT : T = w ++ r) (hw : wd 2 w) (hr : hd 2 r) : ∃ X', f_X10_toNext X = some X' ∧ AT X' T w r ∧ FR X X' := by
  obtain ⟨w1, w2, w3⟩ := hw
  have wl : 0 < w.length := List.length_pos_iff.mpr w1
  have d : T.drop 0 = w ++ r := by rw [List.drop_zero]; exact hT
  have l : w.length + r.length = T.length := by rw [hT, List.length_append]
  have hk : ∀ i, i < w.length → kb (TX T (0 + i)) = 2 := fun i hi => by
    rw [tx_drop d, getD_app_lo hi]
    exact w3 _ (getD_me hi)
  have h0 := hk 0 wl
  rw [Nat.add_zero] at h0
  have t3 : tokOK (TX T) T.length 0 0 (0 + w.length) := by
    refine ⟨Nat.le_refl _, fun i h1 h2 => by omega, Or.inr ⟨by omega, by omega, by rw [h0]; decide, Or.inl ⟨by rw [h0]; exact w2, fun i h1 h2 => ?_, ?_⟩⟩⟩
    · have := hk i (by omega)
      rw [Nat.zero_add] at this
      rw [this, h0]
    · cases r with
      | nil => exact Or.inl (by simp at l; omega)
      | cons x t =>
        refine Or.inr ⟨by simp at l; omega, ?_⟩
        rw [tx_drop d, show w.length = w.length + 0 from rfl, getD_app_hi, h0]
        exact hr x t rfl
  obtain ⟨X', e, fr, ct⟩ := tokX b x4 t3
  exact ⟨X', e, ⟨b.fr fr, 0, d, by omega, ct⟩, fr⟩
set_option maxRecDepth 20000 in
theorem coop_ {y m : Nat} (h : AT X T (strB.getD 0 []) ([32] ++ (decL y ++ ([32] ++ (decL m ++ ([59] ++ rest)))))) (hz : X 11 0 0 3 = 0 ∧ X 11 0 0 4 = 0 ∧ X 15 0 0 4 = 0 ∧ X 15 0 0 5 = 0 ∧ X 20 0 0 1 = 0 ∧ X 23 0 0 2 = 0 ∧ X 23 0 0 3 = 0) (ho : FO X0 X) (y1 : 1 ≤ y) (y2 : y ≤ 200) (m2 : m ≤ 99999) (dm : D 0 5 = m) (dy : D 0 6 = y) (hx : NX rest w r) : ∃ X', f_X8_readCooperative X = some (1, X') ∧ DS X0 X' T w r D vn gn P 0 0 0 0 0 := by
  obtain ⟨X1, e1, a1, f1⟩ := at_run (sp := [32]) h sp32 (dec_wd y) (hd_sp 3 (Or.inr rfl) _)
  obtain ⟨X2, e2, a2, f2⟩ := at_run (sp := [32]) a1 sp32 (dec_wd m) (hd_semi 3 (Or.inr rfl) _)
  have e5 : f_X8_readNumber X1 1 200 = some (nI y, X2) := p_num a1 (by omega) (show ¬ nI y < 1 from nI_nlt (b := 1) y1 (by omega)) (nI_le (b := 200) (by omega) (by decide)) e2
  obtain ⟨Y2, hY2⟩ : ∃ Y2, Y2 = xs X2 1 0 0 2 (nI y) := ⟨_, rfl⟩
  have b2 : AT Y2 T (decL m) ([59] ++ rest) := by
    rw [hY2]
    exact a2.up (fun f => xs_o (by omega)) (fun i => xs_o (by omega))
  obtain ⟨X3, e3, a3, f3⟩ := at_semi (sp := []) b2 (fun x hx => absurd hx List.not_mem_nil)
  have e6 : f_X8_readNumber Y2 0 99999 = some (nI m, X3) := p_num b2 (by omega) (nI_pos (by omega)) (nI_le (b := 99999) (by omega) (by decide)) e3
  obtain ⟨X4, hX4⟩ : ∃ X4, X4 = xs (xs (xs X3 10 0 0 4 (nI m)) 10 0 0 5 0) 10 0 0 6 (nI m) := ⟨_, rfl⟩
  have a4 : AT X4 T [59] rest := by
    rw [hX4]
    exact a3.up (fun f => by rw [xs_o (by omega), xs_o (by omega), xs_o (by omega)]) (fun i => by rw [xs_o (by omega), xs_o (by omega), xs_o (by omega)])
  obtain ⟨X5, e7, a5, f5⟩ := p_semi a4 hx
  have fr := f1.tr f2
  have go : ∀ k j i q, k ≠ 2 → ¬ (k = 1 ∧ j = 0 ∧ q = 2) → ¬ (k = 10 ∧ j = 0) → X4 k j i q = X k j i q := fun k j i q q0 q1 q2 => by
    rw [hX4, xs_o (by omega), xs_o (by omega), xs_o (by omega), f3 k j i q (Or.inl q0), hY2, xs_o (by omega), fr k j i q (Or.inl q0)]
  have o4 : FO X0 X4 := by
    obtain ⟨o1, o2, o3, o5⟩ := ho
    refine ⟨fun k j i f a b c d => (go k j i f b (by omega) (by omega)).trans (o1 k j i f a b c d), fun i hi => ?_, ?_, ?_⟩
    · rw [go 22 0 i 7 (by decide) (by omega) (by omega)]; exact o2 i hi
    · rw [go 1 0 0 3 (by decide) (by omega) (by omega)]; exact o3
    · rw [go 1 0 0 4 (by decide) (by omega) (by omega)]; exact o5
  have d4 : DV X4 D vn gn P 0 0 0 0 0 := by
    refine ⟨⟨by decide, by decide, by decide, by decide, by decide⟩, ?_, ⟨?_, ?_, ?_, ?_⟩, fun k hk => absurd hk (Nat.not_lt_zero _), fun k hk => absurd hk (Nat.not_lt_zero _), fun k hk => absurd hk (Nat.not_lt_zero _), fun k hk => absurd hk (Nat.not_lt_zero _), fun k hk => absurd hk (Nat.not_lt_zero _), fun k hk => absurd hk (Nat.not_lt_zero _)⟩
    · rw [go 11 0 0 3 (by decide) (by omega) (by omega), go 11 0 0 4 (by decide) (by omega) (by omega), go 15 0 0 4 (by decide) (by omega) (by omega), go 15 0 0 5 (by decide) (by omega) (by omega), go 20 0 0 1 (by decide) (by omega) (by omega), go 23 0 0 2 (by decide) (by omega) (by omega), go 23 0 0 3 (by decide) (by omega) (by omega)]
      exact hz
    · rw [hX4, xs_o (by omega), xs_o (by omega), xs_i, dm]
    · rw [hX4, xs_o (by omega), xs_i]
    · rw [hX4, xs_i, dm]
    · rw [hX4, xs_o (by omega), xs_o (by omega), xs_o (by omega), f3 1 0 0 2 (Or.inl (by decide)), hY2, xs_i, dy]
  refine ⟨X5, ?_, a5, d4.fr f5, o4.fr f5⟩
  have eop : f_X0_open X3 0 (nI m) = some X4 := by
    unfold f_X0_open
    rw [bnd_s, bnd_s, bnd_s, ← hX4]
  have y22 : Y2 1 0 0 2 = nI y := by rw [hY2, xs_i]
  unfold f_X8_readCooperative
  rw [h.spl (u := 0) (by decide) (by decide), bn1_s, if_neg (show ¬ (if 0 = 0 then (1 : Int32) else 0) = 0 by decide), e1, bn1_s, e5, bn2_s, ← hY2, bnd_s, y22, if_neg (nI_m1 (by omega)), e6, bn2_s, if_neg (nI_m1 (by omega)), eop, bn1_s, e7, bn2_s, gd_t (by decide)]
set_option maxRecDepth 20000 in
/-- one class more -/
theorem low_ {k : Nat} (h : DS X0 X T (decL (D 1 k)) r D vn gn P k 0 0 0 0) (hk : k < 4) (h2 : D 1 k ≤ 200) (h3 : 0 < k → D 1 k < D 1 (k - 1) ∧ D 1 (k - 1) ≤ 200) {w' r' : List Int32} (hn : ∀ Y : XT, AT Y T (decL (D 1 k)) r → ∃ X', f_X10_toNext Y = some X' ∧ AT X' T w' r' ∧ FR Y X') : ∃ X', f_X8_readLowestSugar X = some (1, X') ∧ DS X0 X' T w' r' D vn gn P (k + 1) 0 0 0 0 := by
  obtain ⟨ha, hd, ho⟩ := h
  obtain ⟨b, c, m, c1, c2, c3, c4, c5, c6⟩ := hd
  obtain ⟨q1, q2, -⟩ := ha.wk (dec_wd _)
  have q2 := (q2 rfl).trans (dec_num (n := D 1 k) (by omega))
  obtain ⟨X2, hX2⟩ : ∃ X2, X2 = xs (xs X 12 0 0 k (nI (D 1 k))) 11 0 0 3 (nI (k + 1)) := ⟨_, rfl⟩
  have go : ∀ k' j i q, ¬ (k' = 12 ∧ j = 0 ∧ q = k) → ¬ (k' = 11 ∧ j = 0 ∧ q = 3) → X2 k' j i q = X k' j i q := fun k' j i q q1 q2 => by
    rw [hX2, xs_o (by omega), xs_o (by omega)]
  have a2 : AT X2 T (decL (D 1 k)) r := ha.up (fun f => go 2 0 0 f (by omega) (by omega)) (fun i => go 3 0 0 i (by omega) (by omega))
  obtain ⟨X3, e3, a3, f3⟩ := hn X2 a2
  have o2 : FO X0 X2 := ho.up (fun k j i f q => go k j i f (by omega) (by omega)) (fun i _ => go 22 0 i 7 (by omega) (by omega))
  have d2 : DV X2 D vn gn P (k + 1) 0 0 0 0 := by
    refine ⟨⟨by omega, b.2⟩, ?_, ?_, fun k' hk' => ?_, fun k hk => absurd hk (Nat.not_lt_zero _), fun k hk => absurd hk (Nat.not_lt_zero _), fun k hk => absurd hk (Nat.not_lt_zero _), fun k hk => absurd hk (Nat.not_lt_zero _), fun k hk => absurd hk (Nat.not_lt_zero _)⟩
    · rw [show X2 11 0 0 3 = nI (k + 1) by rw [hX2, xs_i], go 11 0 0 4 (by omega) (by omega), go 15 0 0 4 (by omega) (by omega), go 15 0 0 5 (by omega) (by omega), go 20 0 0 1 (by omega) (by omega), go 23 0 0 2 (by omega) (by omega), go 23 0 0 3 (by omega) (by omega)]
      exact ⟨rfl, c.2⟩
    · rw [go 10 0 0 4 (by omega) (by omega), go 10 0 0 5 (by omega) (by omega), go 10 0 0 6 (by omega) (by omega), go 1 0 0 2 (by omega) (by omega)]
      exact m
    · by_cases q : k' = k
      · rw [q, hX2, xs_o (by omega), xs_i]
      · rw [go 12 0 0 k' (by omega) (by omega)]; exact c1 k' (by omega)
  refine ⟨X3, ?_, a3, d2.fr f3, o2.fr f3⟩
  have el : f_X1_isLessThanLast X 0 (nI (D 1 k)) = some 1 := by
    unfold f_X1_isLessThanLast f_X1_hasGrade
    rw [c.1, bnd_s]
    by_cases k0 : k = 0
    · subst k0
      rw [if_pos (show nI 0 - 1 < 0 by decide), bn1_s, if_pos rfl]
    · have hlt := h3 (by omega)
      rw [show nI k - 1 = nI (k - 1) from pk_sub (b := 1) (by omega), if_neg (nI_pos (by omega)), if_neg (nI_ge (by omega) (by omega)), bn1_s, if_neg (by decide), gd_t (nI_in (by omega) (by decide)), nI_clamp (by omega), c1 (k - 1) (by omega), if_neg (nI_ge hlt.1 (by omega))]
  have ea : f_X1_addClass X 0 (nI (D 1 k)) = some X2 := by
    unfold f_X1_addClass
    rw [c.1, if_neg (show ¬ (4 : Int32) ≤ nI k from nI_ge (b := 4) hk (by decide)), gd_t (nI_in (by omega) (by decide)), nI_clamp (by omega), bnd_s, xs_o (by omega), c.1, nI_1, bnd_s, ← hX2]
  unfold f_X8_readLowestSugar f_X8_isNumberHere
  rw [if_pos q1, q2, if_neg (nI_pos (by omega)), if_pos (show nI (D 1 k) ≤ 200 from nI_le (b := 200) h2 (by decide)), bn2_s, if_neg (by decide), q2, el, bn1_s, if_neg (by decide), c.1, if_pos (show nI k < 4 from nI_lt (b := 4) hk (by decide)), ea, bn1_s, e3, bn1_s]
def cw (D : NF) : Nat → Nat → List Int32 | 0, _ => [59] | _ + 1, k => decL (D 1 k)
def cr (D : NF) : Nat → Nat → List Int32 | 0, _ => vT D (D 0 1) 0 | d + 1, k => clT D d (k + 1)
set_option maxRecDepth 20000 in
theorem hd_cl (D : NF) (d k : Nat) : hd 3 (clT D d k) := by
  cases d with
  | zero => exact hd_semi 3 (Or.inr rfl) _
  | succ d => exact hd_sp 3 (Or.inr rfl) _
set_option maxRecDepth 20000 in
theorem nxt_cl {w0 : List Int32} (d k : Nat) (h : AT X T w0 (clT D d k)) : ∃ X', f_X10_toNext X = some X' ∧ AT X' T (cw D d k) (cr D d k) ∧ FR X X' := by
  cases d with
  | zero => exact at_semi (sp := []) h (fun x hx => absurd hx List.not_mem_nil)
  | succ d => exact at_run (sp := [32]) h sp32 (dec_wd _) (hd_cl D d (k + 1))
set_option maxRecDepth 20000 in
theorem cl_loop (hD : TO D vn gn) (hx : NX (vT D (D 0 1) 0) w r) : ∀ d k f (X : XT), 1 ≤ k → k + d = D 0 0 → d < f → DS X0 X T (cw D d k) (cr D d k) D vn gn P k 0 0 0 0 → ∃ X', f_X8_readClasses_32 f X 1 (nI (k - 1)) = some (1, X') ∧ DS X0 X' T w r D vn gn P (D 0 0) 0 0 0 0 := by
  obtain ⟨b, b1, -⟩ := hD
  intro d
  induction d with
  | zero =>
    intro k f X h1 hk hf h
    obtain ⟨f, rfl⟩ := fuel hf
    obtain ⟨ha, hd, ho⟩ := h
    have : k = D 0 0 := hk
    subst this
    have k4 : X 2 0 0 2 = 4 := AT.kind (x := 59) (v := []) ha
    obtain ⟨X', e, a, fr⟩ := p_semi ha hx
    refine ⟨X', ?_, a, hd.fr fr, ho.fr fr⟩
    rw [f_X8_readClasses_32, if_neg (show ¬ (4 : Int32) ≤ nI (D 0 0 - 1) from nI_ge (b := 4) (by omega) (by decide)), if_neg (by decide), if_pos k4, if_neg (by decide), e, bn2_s, if_neg (by decide)]
  | succ d ih =>
    intro k f X h1 hk hf h
    obtain ⟨f, rfl⟩ := fuel hf
    have k3 : X 2 0 0 2 = 3 := (AT.wk h.1 (dec_wd _)).1
    have hb := b1 k (by omega)
    have hb' := b1 (k - 1) (by omega)
    obtain ⟨X', e, h'⟩ := low_ (k := k) h (by omega) hb.1 (fun q => ⟨hb.2 q, hb'.1⟩) (fun Y hY => nxt_cl d (k + 1) hY)
    obtain ⟨X2, e2, h2⟩ := ih (k + 1) f X' (by omega) (by omega) (by omega) h'
    refine ⟨X2, ?_, h2⟩
    rw [f_X8_readClasses_32, if_neg (show ¬ (4 : Int32) ≤ nI (k - 1) from nI_ge (b := 4) (by omega) (by decide)), if_neg (by decide), k3, if_neg (by decide), e, bn2_s, nI_1, show k - 1 + 1 = k + 1 - 1 by omega]
    exact e2
set_option maxRecDepth 20000 in
theorem class_ (hD : TO D vn gn) (hx : NX (vT D (D 0 1) 0) w r) (h : DS X0 X T (strB.getD 1 []) (clT D (D 0 0) 0) D vn gn P 0 0 0 0 0) : ∃ X', f_X8_readClasses X = some (1, X') ∧ DS X0 X' T w r D vn gn P (D 0 0) 0 0 0 0 := by
  have hD' := hD
  obtain ⟨b, b1, -⟩ := hD'
  obtain ⟨d, hd⟩ : ∃ d, D 0 0 = d + 1 := ⟨D 0 0 - 1, by omega⟩
  obtain ⟨ha, hdv, ho⟩ := h
  obtain ⟨X1, e1, a1, f1⟩ := nxt_cl (D 0 0) 0 ha
  have h1 : DS X0 X1 T (cw D (D 0 0) 0) (cr D (D 0 0) 0) D vn gn P 0 0 0 0 0 := ⟨a1, hdv.fr f1, ho.fr f1⟩
  rw [hd] at h1
  have hb := b1 0 (by omega)
  obtain ⟨X2, e2, h2⟩ := low_ (k := 0) h1 (by decide) hb.1 (fun q => absurd q (Nat.lt_irrefl _)) (fun Y hY => nxt_cl d 1 hY)
  obtain ⟨X3, e3, h3⟩ := cl_loop hD hx d 1 2000 X2 (by decide) (by omega) (by omega) h2
  refine ⟨X3, ?_, h3⟩
  unfold f_X8_readClasses
  rw [ha.spl (u := 1) (by decide) (by decide), bn1_s, if_neg (show ¬ (if 1 = 1 then (1 : Int32) else 0) = 0 by decide), e1, bn1_s, e2, bn2_s]
  exact e3
set_option maxRecDepth 20000 in
/-- a text that tells D is read -/
theorem read_ (hD : TO D vn gn) (b : BX X (TX T) T.length) (hT : T = fT D) (hf : ∀ i, i < 20 → X 22 0 i 7 = 0 ∨ X 22 0 i 7 = 1) : FIN (xs (xs X 1 0 0 3 0) 1 0 0 4 (-1)) T D vn gn (f_X8_readAll X) := by
  have hD' := hD
  obtain ⟨bb, b1, -⟩ := hD'
  obtain ⟨X1, hX1⟩ : ∃ X1, X1 = xs (xs X 1 0 0 3 0) 1 0 0 4 (-1) := ⟨_, rfl⟩
  rw [← hX1]
  have g1 : ∀ k j i q, k ≠ 1 → X1 k j i q = X k j i q := fun k j i q q1 => by rw [hX1, xs_o (by omega), xs_o (by omega)]
  obtain ⟨X2, hX2⟩ : ∃ X2, X2 = xs (xs (xs (xs (xs (xs (xs (xs (xs (xs X1 11 0 0 3 0) 11 0 0 4 0) 15 0 0 4 0) 15 0 0 5 0) 20 0 0 1 0) 23 0 0 2 0) 23 0 0 3 0) 10 0 0 4 0) 10 0 0 5 0) 10 0 0 6 0 := ⟨_, rfl⟩
  have g2 : ∀ k j i q, ¬ (j = 0 ∧ (k = 10 ∨ k = 11 ∨ k = 15 ∨ k = 20 ∨ k = 23)) → X2 k j i q = X1 k j i q := fun k j i q q1 => by
    rw [hX2, xs_o (by omega), xs_o (by omega), xs_o (by omega), xs_o (by omega), xs_o (by omega), xs_o (by omega), xs_o (by omega), xs_o (by omega), xs_o (by omega), xs_o (by omega)]
  have hz : X2 11 0 0 3 = 0 ∧ X2 11 0 0 4 = 0 ∧ X2 15 0 0 4 = 0 ∧ X2 15 0 0 5 = 0 ∧ X2 20 0 0 1 = 0 ∧ X2 23 0 0 2 = 0 ∧ X2 23 0 0 3 = 0 := by
    rw [hX2]
    exact ⟨rfl, rfl, rfl, rfl, rfl, rfl, rfl⟩
  have ecl : f_X0_clear X1 0 = some X2 := by
    unfold f_X0_clear f_X0_open
    rw [bnd_s, bnd_s, bnd_s, bnd_s, bnd_s, bnd_s, bnd_s, bnd_s, bnd_s, bnd_s, bn1_s, ← hX2]
  obtain ⟨X3, hX3⟩ : ∃ X3, X3 = xs X2 2 0 0 4 0 := ⟨_, rfl⟩
  have f3 : FR X2 X3 := by rw [hX3]; exact FR.no.x (by decide)
  have b2 : BX X2 (TX T) T.length := ⟨b.1, by rw [g2 2 0 0 1 (by omega), g1 2 0 0 1 (by decide)]; exact b.2.1, fun i hi => by rw [g2 3 0 0 i (by omega), g1 3 0 0 i (by decide)]; exact b.2.2 i hi⟩
  obtain ⟨X4, e4, a4, f4⟩ := at_first (b2.fr f3) (by rw [hX3, xs_i]; rfl) hT (str_wd (t := 0) (by decide)) (hd_sp 2 (Or.inl rfl) _)
  have f24 := f3.tr f4
  have o4 : FO X1 X4 := by
    refine ⟨fun k j i f a b c d => ?_, fun i hi => ?_, ?_, ?_⟩
    · rw [f24 k j i f (Or.inl b), g2 k j i f (by omega)]
    · rw [f24 22 0 i 7 (Or.inl (by decide)), g2 22 0 i 7 (by omega), g1 22 0 i 7 (by decide)]; exact hf i hi
    · rw [f24 1 0 0 3 (Or.inl (by decide)), g2 1 0 0 3 (by omega), hX1]; rfl
    · rw [f24 1 0 0 4 (Or.inl (by decide)), g2 1 0 0 4 (by omega), hX1]; rfl
  obtain ⟨X5, e5, h5⟩ := coop_ (P := prU D 0 0) (vn := vn) (gn := gn) (D := D) a4 (by
    rw [f24 11 0 0 3 (Or.inl (by decide)), f24 11 0 0 4 (Or.inl (by decide)), f24 15 0 0 4 (Or.inl (by decide)), f24 15 0 0 5 (Or.inl (by decide)), f24 20 0 0 1 (Or.inl (by decide)), f24 23 0 0 2 (Or.inl (by decide)), f24 23 0 0 3 (Or.inl (by decide))]
    exact hz) o4 (by omega) (by omega) (by omega) rfl rfl (Or.inl ⟨rfl, str_wd (t := 1) (by decide), (by
      obtain ⟨d, hd⟩ : ∃ d, D 0 0 = d + 1 := ⟨D 0 0 - 1, by omega⟩
      rw [hd]
      exact hd_sp 2 (Or.inl rfl) _)⟩)
  obtain ⟨w, r, n⟩ := (ok_v D (D 0 1) 0).nx
  obtain ⟨X6, e6, h6⟩ := class_ hD n h5
  have := r_v hD (D 0 1) 0 2000 0 X6 w r (by omega) (by omega) (by omega) n h6
  unfold f_X8_readAll f_X10_toFirst
  rw [bnd_s, ← hX1, bnd_s, ecl, bn1_s, ← hX3, bnd_s, e4, bn1_s, bn1_s, e5, bn2_s, if_neg (by decide), e6, bn2_s, if_neg (by decide)]
  exact this
end OPEN
