/-! PURE: the text's length and signs; the load is that of the text -/
set_option maxRecDepth 20000 in
theorem dec_len {n : Nat} (h : n < 100000) : (decL n).length ≤ 5 := by
  unfold decL
  rw [List.length_map, List.length_range]
  exact (dg_ok h).2
abbrev okc (L : List Int32) : Prop := ∀ v ∈ L, v = nI v.toNatClampNeg ∧ v.toNatClampNeg < 128
set_option maxRecDepth 20000 in
theorem okc_a {a b : List Int32} (h : okc a) (h2 : okc b) : okc (a ++ b) := fun v hv => (List.mem_append.mp hv).elim (h v) (h2 v)
set_option maxRecDepth 20000 in
theorem okc_s : ∀ t, t < 31 → okc (strB.getD t []) := by decide +kernel
set_option maxRecDepth 20000 in
theorem okc_d (n : Nat) : okc (decL n) := by
  intro v hv
  obtain ⟨i, -, rfl⟩ := List.mem_map.mp hv
  have : sb_dec n i < 58 := by
    unfold sb_dec
    have := Nat.mod_lt (n / 10 ^ (sb_dg n - 1 - i)) (show 0 < 10 by decide)
    omega
  rw [nI_clamp (by omega)]
  exact ⟨rfl, by omega⟩
set_option maxRecDepth 20000 in
theorem okc_32 : okc [32] := by decide
set_option maxRecDepth 20000 in
theorem okc_59 : okc [59] := by decide
set_option maxRecDepth 20000 in
theorem st_len : ∀ t, t < 31 → t < 12 ∨ 17 < t → (strB.getD t []).length ≤ 12 := by decide
set_option maxRecDepth 20000 in
theorem vw_l (v : Nat) : (vw v).length ≤ 4 ∧ okc (vw v) := by
  unfold vw winS
  split
  · exact ⟨by decide, okc_s 18 (by decide)⟩
  · split
    · exact ⟨by decide, okc_s 19 (by decide)⟩
    · exact ⟨by decide, okc_s 6 (by decide)⟩
set_option maxRecDepth 20000 in
theorem gw_l (g : Nat) : (gwd g).length ≤ 4 ∧ okc (gwd g) := by
  unfold gwd groS
  split
  · exact ⟨by decide, okc_s 20 (by decide)⟩
  · split
    · exact ⟨by decide, okc_s 10 (by decide)⟩
    · split
      · exact ⟨by decide, okc_s 21 (by decide)⟩
      · exact ⟨by decide, okc_s 7 (by decide)⟩
set_option maxRecDepth 20000 in
theorem len0 : (strB.getD 0 []).length = 11 ∧ (strB.getD 1 []).length = 7 ∧ (strB.getD 2 []).length = 7 ∧ (strB.getD 3 []).length = 5 ∧ (strB.getD 4 []).length = 6 ∧ (strB.getD 5 []).length = 4 ∧ (strB.getD 6 []).length = 4 := by decide
section TEXT
variable {D : NF}
set_option maxRecDepth 20000 in
theorem len_t (h5 : ∀ t, D 5 t < 100000) : ∀ d k, (tT D d k).length ≤ 11 * d ∧ okc (tT D d k) := by
  obtain ⟨-, -, -, -, -, -, l6⟩ := len0
  intro d
  induction d with
  | zero => exact fun k => ⟨Nat.le_refl _, fun v hv => absurd hv List.not_mem_nil⟩
  | succ d ih =>
    intro k
    have := dec_len (h5 k)
    obtain ⟨i1, i2⟩ := ih (k + 1)
    rw [tT]
    refine ⟨?_, okc_a (okc_s 6 (by decide)) (okc_a okc_32 (okc_a (okc_d _) (okc_a okc_59 i2)))⟩
    simp only [List.length_append, List.length_singleton]
    omega
set_option maxRecDepth 20000 in
theorem len_l (h5 : ∀ t, D 5 t < 100000) (h6 : ∀ t, D 6 t < 100000) : ∀ d k, (lT D d k).length ≤ 21 * d + 11 * D 0 4 ∧ okc (lT D d k) := by
  obtain ⟨-, -, -, -, -, l5, -⟩ := len0
  intro d
  induction d with
  | zero =>
    intro k
    obtain ⟨i1, i2⟩ := len_t h5 (D 0 4) 0
    exact ⟨by rw [lT]; omega, i2⟩
  | succ d ih =>
    intro k
    have := dec_len (h6 k)
    obtain ⟨i1, i2⟩ := ih (k + 1)
    obtain ⟨v1, v2⟩ := vw_l (D 3 k)
    obtain ⟨g1, g2⟩ := gw_l (D 2 k)
    rw [lT]
    refine ⟨?_, okc_a (okc_s 5 (by decide)) (okc_a okc_32 (okc_a g2 (okc_a okc_32 (okc_a v2 (okc_a okc_32 (okc_a (okc_d _) (okc_a okc_59 i2)))))))⟩
    simp only [List.length_append, List.length_singleton]
    omega
set_option maxRecDepth 20000 in
theorem len_g (h5 : ∀ t, D 5 t < 100000) (h6 : ∀ t, D 6 t < 100000) : ∀ d k, (gT D d k).length ≤ 12 * d + (21 * D 0 3 + 11 * D 0 4) ∧ okc (gT D d k) := by
  obtain ⟨-, -, -, -, l4, -, -⟩ := len0
  intro d
  induction d with
  | zero =>
    intro k
    obtain ⟨i1, i2⟩ := len_l h5 h6 (D 0 3) 0
    exact ⟨by rw [gT]; omega, i2⟩
  | succ d ih =>
    intro k
    obtain ⟨i1, i2⟩ := ih (k + 1)
    obtain ⟨g1, g2⟩ := gw_l k
    rw [gT]
    refine ⟨?_, okc_a (okc_s 4 (by decide)) (okc_a okc_32 (okc_a g2 (okc_a okc_59 i2)))⟩
    simp only [List.length_append, List.length_singleton]
    omega
set_option maxRecDepth 20000 in
theorem len_pI (h7 : ∀ t, D 7 t < 100000) {v : Nat} {rest : List Int32} {N : Nat} (hr : rest.length ≤ N ∧ okc rest) : ∀ d g, g + d ≤ 10 → (pI D v rest d g).length ≤ 23 * d + N ∧ okc (pI D v rest d g) := by
  obtain ⟨-, -, -, l3, -, -, -⟩ := len0
  intro d
  induction d with
  | zero => exact fun g _ => ⟨by rw [pI]; omega, hr.2⟩
  | succ d ih =>
    intro g hg
    obtain ⟨i1, i2⟩ := ih (g + 1) (by omega)
    obtain ⟨v1, v2⟩ := vw_l v
    have a1 := dec_len (n := g) (by omega)
    have a2 := dec_len (h7 (v * 4 + g))
    rw [pI]
    refine ⟨?_, okc_a (okc_s 3 (by decide)) (okc_a okc_32 (okc_a v2 (okc_a okc_32 (okc_a (okc_d _) (okc_a okc_32 (okc_a (okc_d _) (okc_a okc_59 i2)))))))⟩
    simp only [List.length_append, List.length_singleton]
    omega
set_option maxRecDepth 20000 in
theorem len_p (h0 : D 0 0 ≤ 4) (h5 : ∀ t, D 5 t < 100000) (h6 : ∀ t, D 6 t < 100000) (h7 : ∀ t, D 7 t < 100000) : ∀ d v, (pT D d v).length ≤ 92 * d + (12 * D 0 2 + (21 * D 0 3 + 11 * D 0 4)) ∧ okc (pT D d v) := by
  intro d
  induction d with
  | zero =>
    intro v
    obtain ⟨i1, i2⟩ := len_g h5 h6 (D 0 2) 0
    exact ⟨by rw [pT]; omega, i2⟩
  | succ d ih =>
    intro v
    obtain ⟨i1, i2⟩ := len_pI h7 (v := v) (ih (v + 1)) (D 0 0) 0 (by omega)
    exact ⟨by rw [pT]; omega, i2⟩
set_option maxRecDepth 20000 in
theorem len_v (h0 : D 0 0 ≤ 4) (h5 : ∀ t, D 5 t < 100000) (h6 : ∀ t, D 6 t < 100000) (h7 : ∀ t, D 7 t < 100000) : ∀ d k, (vT D d k).length ≤ 13 * d + (92 * D 0 1 + (12 * D 0 2 + (21 * D 0 3 + 11 * D 0 4))) ∧ okc (vT D d k) := by
  obtain ⟨-, -, l2, -, -, -, -⟩ := len0
  intro d
  induction d with
  | zero =>
    intro k
    obtain ⟨i1, i2⟩ := len_p h0 h5 h6 h7 (D 0 1) 0
    exact ⟨by rw [vT]; omega, i2⟩
  | succ d ih =>
    intro k
    obtain ⟨i1, i2⟩ := ih (k + 1)
    obtain ⟨v1, v2⟩ := vw_l k
    rw [vT]
    refine ⟨?_, okc_a (okc_s 2 (by decide)) (okc_a okc_32 (okc_a v2 (okc_a okc_59 i2)))⟩
    simp only [List.length_append, List.length_singleton]
    omega
set_option maxRecDepth 20000 in
theorem len_c (h0 : D 0 0 ≤ 4) (h1 : ∀ t, D 1 t < 100000) (h5 : ∀ t, D 5 t < 100000) (h6 : ∀ t, D 6 t < 100000) (h7 : ∀ t, D 7 t < 100000) : ∀ d k, (clT D d k).length ≤ 6 * d + 1 + (13 * D 0 1 + (92 * D 0 1 + (12 * D 0 2 + (21 * D 0 3 + 11 * D 0 4)))) ∧ okc (clT D d k) := by
  intro d
  induction d with
  | zero =>
    intro k
    obtain ⟨i1, i2⟩ := len_v h0 h5 h6 h7 (D 0 1) 0
    rw [clT]
    refine ⟨?_, okc_a okc_59 i2⟩
    simp only [List.length_append, List.length_singleton]
    omega
  | succ d ih =>
    intro k
    obtain ⟨i1, i2⟩ := ih (k + 1)
    have a1 := dec_len (h1 k)
    rw [clT]
    refine ⟨?_, okc_a okc_32 (okc_a (okc_d _) i2)⟩
    simp only [List.length_append, List.length_singleton]
    omega
end TEXT
section TEXT2
variable {sc : Nat × (Nat → Int32)} {X : XT}
set_option maxRecDepth 20000 in
theorem cfg_n (sc : Nat × (Nat → Int32)) : (∀ t, cfg sc 1 t < 100000) ∧ (∀ t, cfg sc 5 t < 100000) ∧ (∀ t, cfg sc 6 t < 100000) ∧ (∀ t, cfg sc 7 t < 100000) ∧ cfg sc 0 5 < 30000 ∧ cfg sc 0 6 ≤ 60 := by
  refine ⟨fun t => ?_, fun t => ?_, fun t => ?_, fun t => ?_, dr_lt (by decide), ?_⟩
  · show 140 - 35 * t - dr sc (6 + t) 30 < 100000
    omega
  · have := dr_lt (sc := sc) (k := 43 + t) (n := 3000) (by decide)
    show 1 + dr sc (43 + t) 3000 < 100000
    omega
  · have := dr_lt (sc := sc) (k := 26 + 3 * t) (n := 40) (by decide)
    show 1 + dr sc (26 + 3 * t) 40 < 100000
    omega
  · have := dr_lt (sc := sc) (k := 10 + t) (n := 30) (by decide)
    show dr sc (10 + t) 30 < 100000
    omega
  · have := dr_lt (sc := sc) (k := 0) (n := 60) (by decide)
    show 1 + dr sc 0 60 ≤ 60
    omega
set_option maxRecDepth 20000 in
theorem fT_ok (sc : Nat × (Nat → Int32)) : (fT (cfg sc)).length ≤ 590 ∧ okc (fT (cfg sc)) := by
  obtain ⟨l0, l1, -⟩ := len0
  obtain ⟨n1, n5, n6, n7, n8, n9⟩ := cfg_n sc
  have hb := (cfg_ok sc).b
  obtain ⟨i1, i2⟩ := len_c hb.2.1 n1 n5 n6 n7 (cfg sc 0 0) 0
  have a1 := dec_len (n := cfg sc 0 5) (by omega)
  have a2 := dec_len (n := cfg sc 0 6) (by omega)
  unfold fT
  refine ⟨?_, okc_a (okc_s 0 (by decide)) (okc_a okc_32 (okc_a (okc_d _) (okc_a okc_32 (okc_a (okc_d _) (okc_a okc_59 (okc_a (okc_s 1 (by decide)) i2))))))⟩
  simp only [List.length_append, List.length_singleton]
  omega
set_option maxRecDepth 20000 in
theorem L_load0 (hL : sc.1 ≤ 260) : f_L_load X sc = f_L_load_308 X sc 1 (fT (cfg sc)) (nI (cfg sc 0 4)) := by
  obtain ⟨hF, hO⟩ := fT_ok sc
  obtain ⟨n1, n5, n6, n7, n8, n9⟩ := cfg_n sc
  have hb := (cfg_ok sc).b
  have h0 : ([] : List Int32) ++ (strB.getD 22 [] ++ (decL (cfg sc 0 6) ++ (strB.getD 23 [] ++ (decL (cfg sc 0 5) ++ (strB.getD 24 [] ++ clT (cfg sc) (cfg sc 0 0) 0))))) = fT (cfg sc) := by
    rw [s22, s23, s24]
    unfold fT
    simp only [List.nil_append, List.append_assoc]
  have h1 := ap h0
  have h2 := ap h1
  have h3 := ap h2
  have h4 := ap h3
  have h5 := ap h4
  have a1 := dec_len (n := cfg sc 0 5) (by omega)
  have a2 := dec_len (n := cfg sc 0 6) (by omega)
  have e22 : (strB.getD 22 []).length = 12 := by decide
  have e23 : (strB.getD 23 []).length = 1 := by decide
  have e24 : (strB.getD 24 []).length = 8 := by decide
  have okT5 : OKT (([] : List Int32) ++ strB.getD 22 [] ++ decL (cfg sc 0 6) ++ strB.getD 23 [] ++ decL (cfg sc 0 5) ++ strB.getD 24 []) := ⟨Nat.le_trans (pl h5 hF) (by decide), fun v hv => hO v (by rw [← h5]; exact List.mem_append_left _ hv)⟩
  unfold f_L_load f_L_load_p
  rw [bnd_s, gd_t ⟨pl h1 hF, ln1 (st1 22 (by decide))⟩, L_yields hL, bn1_s, gd_t (dec_g (by omega)), nI_clamp (by omega), bnd_s, gd_t (pl h2 hF), bnd_s, gd_t ⟨pl h3 hF, ln1 (st1 23 (by decide))⟩, L_money hL, bn1_s, gd_t (dec_g (by omega)), nI_clamp (by omega), bnd_s, gd_t (pl h4 hF), bnd_s, gd_t ⟨pl h5 hF, ln1 (st1 24 (by decide))⟩, gd_t ⟨okT5, by simp only [List.length_append, List.length_nil]; omega⟩]
  exact b_c hL hF (cfg sc 0 0) 0 2000 _ (by omega) (by omega) h5
end TEXT2
