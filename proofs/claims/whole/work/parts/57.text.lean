/-! PURE: a whole text -/
section TXT
variable {X0 X : XT} {M0 M : MT} {n s e nc nv ng np nl nt nb : Nat}
set_option maxRecDepth 20000 in
theorem PF.wd (h : PF X0 M0 X M) (w : WD M0) : WD M := fun i hi => by
  rw [h.2.2.2.1 _ (by omega)]; exact w i hi
set_option maxRecDepth 20000 in
theorem sr_gd {f : Option (Int32 × XT)} {g : Option MT} (h : SR X0 M0 n s f g) : SR X0 M0 n s (bn2 f (fun r X1 => gd (r &&& 1 = r) (some (r, X1)))) (bn1 g (fun M1 => some M1)) := by
  rcases h with ⟨X', M', s', e', h1, h2, h3⟩ | ⟨X', M', h1, h2, h3⟩
  · rw [h1, h2, bn2_s, bn1_s, gd_t (by decide)]
    exact Or.inl ⟨X', M', s', e', rfl, rfl, h3⟩
  · rw [h1, h2, bn2_s, bn1_s, gd_t (by decide)]
    exact Or.inr ⟨X', M', rfl, rfl, h3⟩
set_option maxRecDepth 20000 in
theorem statement_ (b0 : BFn X0 M0 n) (wd : WD M0) (r2 : M0.2.2 = 2) (h : GOK X0 M0 X M n s e) (hd : DR X M nc nv ng np nl nt nb) : SR X0 M0 n s (f_X8_readStatement X) (f_X12_readStatement M) := by
  have b := h.1.bf b0
  have w := h.1.wd wd
  have sp := fun t (ht : t < 12) => spells_ b w h.2.2 (t := t) ht
  obtain ⟨r2', a2, b2, c2, d2⟩ := sp 2 (by decide)
  obtain ⟨r3', a3, b3, c3, d3⟩ := sp 3 (by decide)
  obtain ⟨r4', a4, b4, c4, d4⟩ := sp 4 (by decide)
  obtain ⟨r5', a5, b5, c5, d5⟩ := sp 5 (by decide)
  obtain ⟨r6', a6, b6, c6, d6⟩ := sp 6 (by decide)
  obtain ⟨r7', a7, b7, c7, d7⟩ := sp 7 (by decide)
  obtain ⟨r8', a8, b8, c8, d8⟩ := sp 8 (by decide)
  obtain ⟨r9', a9, b9, c9, d9⟩ := sp 9 (by decide)
  obtain ⟨r10', a10, b10, c10, d10⟩ := sp 10 (by decide)
  obtain ⟨r11', a11, b11, c11, d11⟩ := sp 11 (by decide)
  have b2 : f_X12_isWord M (M.2.1 16) = some r2' := b2
  have b3 : f_X12_isWord M (M.2.1 17) = some r3' := b3
  have b4 : f_X12_isWord M (M.2.1 18) = some r4' := b4
  have b5 : f_X12_isWord M (M.2.1 19) = some r5' := b5
  have b6 : f_X12_isWord M (M.2.1 20) = some r6' := b6
  have b7 : f_X12_isWord M (M.2.1 21) = some r7' := b7
  have b8 : f_X12_isWord M (M.2.1 22) = some r8' := b8
  have b9 : f_X12_isWord M (M.2.1 23) = some r9' := b9
  have b10 : f_X12_isWord M (M.2.1 24) = some r10' := b10
  have b11 : f_X12_isWord M (M.2.1 25) = some r11' := b11
  have x34 : ¬ (r3' = 1 ∧ r4' = 1) := by
    rintro ⟨q1, q2⟩
    have := (d3 q1).2.2.symm.trans (d4 q2).2.2
    exact absurd this (by decide)
  have no : ∀ {a : Int32}, a = 0 ∨ a = 1 → ¬ a = 1 → a = 0 := fun q n => q.resolve_right n
  unfold f_X8_readStatement f_X12_readStatement
  rw [a2, b2, bn1_s, bn1_s]
  by_cases k2 : r2' = 1
  · rw [if_neg (by rw [k2]; decide), if_neg (by rw [k2]; decide)]
    exact sr_gd (sr_variety b0 r2 h hd (d2 k2).2.1)
  rw [no c2 k2, if_pos rfl, if_pos rfl, a3, b4, bn1_s, bn1_s]
  by_cases k4 : r4' = 1
  · rw [no c3 (fun q => x34 ⟨q, k4⟩), if_pos rfl, if_neg (show ¬ r4' = 0 by rw [k4]; decide), a4, bn1_s, if_neg (show ¬ r4' = 0 by rw [k4]; decide)]
    exact sr_gd (sr_grower b0 r2 h hd (d4 k4).2.1)
  rw [no c4 k4, if_pos (show (0 : Int32) = 0 from rfl), b3, bn1_s]
  by_cases k3 : r3' = 1
  · rw [if_neg (by rw [k3]; decide), if_neg (by rw [k3]; decide)]
    exact sr_gd (sr_price b0 r2 h hd (d3 k3).2.1)
  rw [no c3 k3, if_pos rfl, if_pos rfl, a4, bn1_s, no c4 k4, if_pos rfl, a5, b5, bn1_s, bn1_s]
  by_cases k5 : r5' = 1
  · rw [if_neg (by rw [k5]; decide), if_neg (by rw [k5]; decide)]
    exact sr_gd (sr_plot b0 r2 h hd (d5 k5).2.1)
  rw [no c5 k5, if_pos rfl, if_pos rfl, a6, b6, bn1_s, bn1_s]
  by_cases k6 : r6' = 1
  · rw [if_neg (by rw [k6]; decide), if_neg (by rw [k6]; decide)]
    exact sr_gd (sr_tank b0 r2 h hd (d6 k6).2.1)
  rw [no c6 k6, if_pos rfl, if_pos rfl, a7, b7, bn1_s, bn1_s]
  by_cases k7 : r7' = 1
  · rw [if_neg (by rw [k7]; decide), if_neg (by rw [k7]; decide)]
    exact sr_gd (sr_load b0 r2 h hd (d7 k7).2.1)
  rw [no c7 k7, if_pos rfl, if_pos rfl, a8, b8, bn1_s, bn1_s]
  by_cases k8 : r8' = 1
  · rw [if_neg (by rw [k8]; decide), if_neg (by rw [k8]; decide)]
    exact sr_gd (sr_bottle b0 r2 h hd (d8 k8).2.1)
  rw [no c8 k8, if_pos rfl, if_pos rfl, a9, b9, bn1_s, bn1_s]
  by_cases k9 : r9' = 1
  · rw [if_neg (by rw [k9]; decide), if_neg (by rw [k9]; decide)]
    exact sr_gd (sr_sell b0 r2 h hd (d9 k9).2.1)
  rw [no c9 k9, if_pos rfl, if_pos rfl, a10, b10, bn1_s, bn1_s]
  by_cases k10 : r10' = 1
  · rw [if_neg (by rw [k10]; decide), if_neg (by rw [k10]; decide)]
    exact sr_gd (sr_pay b0 r2 h hd (d10 k10).2.1)
  rw [no c10 k10, if_pos rfl, if_pos rfl, a11, b11, bn1_s, bn1_s]
  by_cases k11 : r11' = 1
  · rw [if_neg (by rw [k11]; decide), if_neg (by rw [k11]; decide)]
    exact sr_gd (sr_pump b0 r2 h hd (d11 k11).2.1)
  obtain ⟨X', M', f1, f2, f3⟩ := h.fail (c := 1) (by decide)
  rw [no c11 k11, if_pos rfl, if_pos rfl, f1, f2, bn2_s, bn1_s, gd_t (by decide)]
  exact Or.inr ⟨X', M', rfl, rfl, f3⟩
set_option maxRecDepth 20000 in
/-- statement after statement -/
theorem statements_ (b0 : BFn X0 M0 n) (wd : WD M0) (r2 : M0.2.2 = 2) : ∀ d k f1 f2 (X : XT) (M : MT) s e, k + d = 600 → d < f1 → d < f2 → k ≤ s → GOK X0 M0 X M n s e → (∃ nc nv ng np nl nt nb, DR X M nc nv ng np nl nt nb) → (∃ X' M' s' e', f_X8_readAll_46 f1 X 1 (nI k) = some (1, xs X' 2 0 0 1 0) ∧ f_X12_readText_12 f2 M = some M' ∧ GOK X0 M0 X' M' n s' e' ∧ ∃ nc nv ng np nl nt nb, DR X' M' nc nv ng np nl nt nb) ∨ (∃ X' M', f_X8_readAll_46 f1 X 1 (nI k) = some (0, xs X' 2 0 0 1 0) ∧ f_X12_readText_12 f2 M = some M' ∧ BD X0 M0 X' M') := by
  have hn := b0.1
  intro d
  induction d with
  | zero =>
    intro k f1 f2 X M s e hk h1 h2 hs g hd
    obtain ⟨f1, rfl⟩ := fuel h1
    obtain ⟨f2, rfl⟩ := fuel h2
    have gd1 := g.good
    obtain ⟨t1, t2, t3, t4, tk⟩ := g.2.2
    have m7 : M.1 0 7 = 0 := by
      rcases tk with q | q | q | q | q
      · exact q.2.1
      · have := q.2.2.1; omega
      · have := q.2.2.1; omega
      · have := q.2.2.1; omega
      · have := q.2.2.1; omega
    rw [f_X8_readAll_46, f_X12_readText_12, if_pos (show (600 : Int32) ≤ nI k from nI_le (a := 600) (by omega) (by omega)), bnd_s, gd_t (by decide), gd1, bn1_s, if_neg (by decide), if_pos m7]
    exact Or.inl ⟨X, M, s, e, rfl, rfl, g, hd⟩
  | succ d ih =>
    intro k f1 f2 X M s e hk h1 h2 hs g hd
    obtain ⟨f1, rfl⟩ := fuel h1
    obtain ⟨f2, rfl⟩ := fuel h2
    have gd1 := g.good
    obtain ⟨nc, nv, ng, np, nl, nt, nb, hd⟩ := hd
    rw [f_X8_readAll_46, f_X12_readText_12, if_neg (show ¬ (600 : Int32) ≤ nI k from nI_ge (b := 600) (by omega) (by decide)), if_neg (show ¬ (1 : Int32) = 0 by decide), gd1, bn1_s, if_neg (show ¬ (1 : Int32) = 0 by decide)]
    have hz : (X 2 0 0 2 = 0 ∧ M.1 0 7 = 0) ∨ (¬ X 2 0 0 2 = 0 ∧ ¬ M.1 0 7 = 0) := by
      obtain ⟨t1, t2, t3, t4, tk⟩ := g.2.2
      rcases tk with q | q | q | q | q
      · exact Or.inl ⟨q.1, q.2.1⟩
      · exact Or.inr ⟨by rw [q.1]; decide, by rw [q.2.1]; decide⟩
      · exact Or.inr ⟨by rw [q.1]; decide, by rw [q.2.1]; decide⟩
      · exact Or.inr ⟨by rw [q.1]; decide, by rw [q.2.1]; decide⟩
      · exact Or.inr ⟨by rw [q.1]; decide, by rw [q.2.1]; decide⟩
    rcases hz with ⟨z1, z2⟩ | ⟨z1, z2⟩
    · rw [if_pos z1, if_pos z2, bnd_s, gd_t (by decide)]
      exact Or.inl ⟨X, M, s, e, rfl, rfl, g, _, _, _, _, _, _, _, hd⟩
    · rw [if_neg z1, if_neg z2, show nI k + 1 = nI (k + 1) from nI_add k 1]
      rcases statement_ b0 wd r2 g hd with ⟨X', M', s', e', q1, q2, q3, q4, q5⟩ | ⟨X', M', q1, q2, q3⟩
      · rw [q1, bn2_s, q2, bn1_s]
        exact ih (k + 1) f1 f2 X' M' s' e' (by omega) (by omega) (by omega) (by omega) q3 q4
      · rw [q1, bn2_s, q2, bn1_s]
        refine Or.inr ⟨X', M', ?_, ?_, q3⟩
        · obtain ⟨f1, rfl⟩ := fuel (show 0 < f1 by omega)
          rw [f_X8_readAll_46]
          by_cases c : (600 : Int32) ≤ nI (k + 1)
          · rw [if_pos c, bnd_s, gd_t (by decide)]
          · rw [if_neg c, if_pos rfl, bnd_s, gd_t (by decide)]
        · obtain ⟨f2, rfl⟩ := fuel (show 0 < f2 by omega)
          rw [f_X12_readText_12, good0 q3.z, bn1_s, if_pos rfl]
end TXT
