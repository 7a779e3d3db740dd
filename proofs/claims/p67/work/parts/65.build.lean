/-! PURE: the law builds the text that tells cfg -/
set_option maxRecDepth 20000 in
theorem s22 : strB.getD 22 [] = strB.getD 0 [] ++ [32] := by decide
set_option maxRecDepth 20000 in
theorem s23 : strB.getD 23 [] = [32] := by decide
set_option maxRecDepth 20000 in
theorem s24 : strB.getD 24 [] = [59] ++ strB.getD 1 [] := by decide
set_option maxRecDepth 20000 in
theorem s25 : strB.getD 25 [] = [59] := by decide
set_option maxRecDepth 20000 in
theorem s26 : strB.getD 26 [] = strB.getD 2 [] ++ [32] := by decide
set_option maxRecDepth 20000 in
theorem s27 : strB.getD 27 [] = strB.getD 3 [] ++ [32] := by decide
set_option maxRecDepth 20000 in
theorem s28 : strB.getD 28 [] = strB.getD 4 [] ++ [32] := by decide
set_option maxRecDepth 20000 in
theorem s29 : strB.getD 29 [] = strB.getD 5 [] ++ [32] := by decide
set_option maxRecDepth 20000 in
theorem s30 : strB.getD 30 [] = strB.getD 6 [] ++ [32] := by decide
set_option maxRecDepth 20000 in
theorem st1 : ∀ t, t < 31 → 1 ≤ (strB.getD t []).length := by decide
set_option maxRecDepth 20000 in
theorem ap {T a b F : List Int32} (h : T ++ (a ++ b) = F) : (T ++ a) ++ b = F := by rw [List.append_assoc]; exact h
set_option maxRecDepth 20000 in
theorem pl {A B F : List Int32} (h : A ++ B = F) (hF : F.length ≤ 590) : A.length ≤ 590 := by
  have := congrArg List.length h
  rw [List.length_append] at this
  omega
set_option maxRecDepth 20000 in
theorem ln1 {T S : List Int32} (h : 1 ≤ S.length) : T.length + 1 ≤ (T ++ S).length := by
  rw [List.length_append]
  omega
section BUILD
variable {sc : Nat × (Nat → Int32)} {X : XT} {F : List Int32}
set_option maxRecDepth 20000 in
theorem dec_g {n : Nat} (h : n < 100000) : ¬ nI n < 0 ∧ nI n < 100000 := ⟨nI_pos (by omega), nI_lt (b := 100000) h (by decide)⟩
set_option maxRecDepth 20000 in
theorem c_win {v : Nat} (h : v < 3) : ¬ (nI v < 0 ∨ 3 ≤ (nI v).toNatClampNeg) := nI_in h (by decide)
set_option maxRecDepth 20000 in
theorem b_t (hL : sc.1 ≤ 260) (hF : F.length ≤ 590) : ∀ d k f (T : List Int32), k + d = cfg sc 0 4 → d < f → T ++ tT (cfg sc) d k = F → f_L_load_308 X sc f T (nI k) = f_L_load_308 X sc 1 F (nI (cfg sc 0 4)) := by
  have hC := cfg_ok sc
  have hCb := hC.b
  intro d
  induction d with
  | zero =>
    intro k f T hk hf h
    obtain ⟨f, rfl⟩ := fuel hf
    rw [tT, List.append_nil] at h
    have : k = cfg sc 0 4 := hk
    subst h this
    rw [f_L_load_308, f_L_load_308, L_tanks hL, bn1_s, bn1_s, if_pos (nI_le (by omega) (by omega)), if_pos (nI_le (by omega) (by omega))]
  | succ d ih =>
    intro k f T hk hf h
    obtain ⟨f, rfl⟩ := fuel hf
    have hc := hC.t (t := k) (by omega)
    have h0 : T ++ (strB.getD 30 [] ++ (decL (cfg sc 5 k) ++ (strB.getD 25 [] ++ tT (cfg sc) d (k + 1)))) = F := by
      rw [s30, s25, List.append_assoc]
      exact h
    have h1 := ap h0
    have h2 := ap h1
    have h3 := ap h2
    rw [f_L_load_308, L_tanks hL, bn1_s, if_neg (nI_ge (by omega) (by omega)), bnd_s, gd_t ⟨pl h1 hF, ln1 (st1 30 (by decide))⟩, L_cap hL (by omega), bn1_s, gd_t (dec_g (by omega)), nI_clamp (by omega), bnd_s, gd_t (pl h2 hF), bnd_s, gd_t ⟨pl h3 hF, ln1 (st1 25 (by decide))⟩, nI_1]
    exact ih (k + 1) f _ (by omega) (by omega) h3
set_option maxRecDepth 20000 in
theorem b_l (hL : sc.1 ≤ 260) (hF : F.length ≤ 590) : ∀ d k f (T : List Int32), k + d = cfg sc 0 3 → d < f → T ++ lT (cfg sc) d k = F → f_L_load_238 X sc f T (nI k) = f_L_load_308 X sc 1 F (nI (cfg sc 0 4)) := by
  have hC := cfg_ok sc
  have hCb := hC.b
  intro d
  induction d with
  | zero =>
    intro k f T hk hf h
    obtain ⟨f, rfl⟩ := fuel hf
    rw [f_L_load_238, L_plots hL, bn1_s, if_pos (nI_le (by omega) (by omega))]
    exact b_t hL hF (cfg sc 0 4) 0 2000 T (by omega) (by omega) h
  | succ d ih =>
    intro k f T hk hf h
    obtain ⟨f, rfl⟩ := fuel hf
    have hc := hC.p (p := k) (by omega)
    have ha : cfg sc 6 k ≤ 40 := by
      have := dr_lt (sc := sc) (k := 26 + 3 * k) (n := 40) (by decide)
      show 1 + dr sc (26 + 3 * k) 40 ≤ 40
      omega
    have h0 : T ++ (strB.getD 29 [] ++ (strB.getD (groS (cfg sc 2 k)) [] ++ (strB.getD 23 [] ++ (strB.getD (winS (cfg sc 3 k)) [] ++ (strB.getD 23 [] ++ (decL (cfg sc 6 k) ++ (strB.getD 25 [] ++ lT (cfg sc) d (k + 1)))))))) = F := by
      rw [s29, s25, s23, List.append_assoc]
      exact h
    have h1 := ap h0
    have h2 := ap h1
    have h3 := ap h2
    have h4 := ap h3
    have h5 := ap h4
    have h6 := ap h5
    have h7 := ap h6
    have n1 : 1 ≤ (strB.getD (groS (cfg sc 2 k)) []).length := st1 _ (by unfold groS; split <;> (try split) <;> (try split) <;> omega)
    have n2 : 1 ≤ (strB.getD (winS (cfg sc 3 k)) []).length := st1 _ (by unfold winS; split <;> (try split) <;> omega)
    rw [f_L_load_238, L_plots hL, bn1_s, if_neg (nI_ge (by omega) (by omega)), bnd_s, gd_t ⟨pl h1 hF, ln1 (st1 29 (by decide))⟩, L_owner hL (by omega), bn1_s, gd_t (nI_in (show cfg sc 2 k < 4 by omega) (by decide)), nI_clamp (by omega), bnd_s, gd_t ⟨pl h2 hF, ln1 n1⟩, bnd_s, gd_t ⟨pl h3 hF, ln1 (st1 23 (by decide))⟩, L_wine hL (by omega), bn1_s, gd_t (nI_in (show cfg sc 3 k < 3 by omega) (by decide)), nI_clamp (by omega), bnd_s, gd_t ⟨pl h4 hF, ln1 n2⟩, bnd_s, gd_t ⟨pl h5 hF, ln1 (st1 23 (by decide))⟩, L_area hL (by omega), bn1_s, gd_t (dec_g (by omega)), nI_clamp (by omega), bnd_s, gd_t (pl h6 hF), bnd_s, gd_t ⟨pl h7 hF, ln1 (st1 25 (by decide))⟩, nI_1]
    exact ih (k + 1) f _ (by omega) (by omega) h7
set_option maxRecDepth 20000 in
theorem b_g (hL : sc.1 ≤ 260) (hF : F.length ≤ 590) : ∀ d k f (T : List Int32), k + d = cfg sc 0 2 → d < f → T ++ gT (cfg sc) d k = F → f_L_load_202 X sc f T (nI k) = f_L_load_308 X sc 1 F (nI (cfg sc 0 4)) := by
  have hC := cfg_ok sc
  have hCb := hC.b
  intro d
  induction d with
  | zero =>
    intro k f T hk hf h
    obtain ⟨f, rfl⟩ := fuel hf
    rw [f_L_load_202, L_growers hL, bn1_s, if_pos (nI_le (by omega) (by omega))]
    exact b_l hL hF (cfg sc 0 3) 0 2000 T (by omega) (by omega) h
  | succ d ih =>
    intro k f T hk hf h
    obtain ⟨f, rfl⟩ := fuel hf
    have h0 : T ++ (strB.getD 28 [] ++ (strB.getD (groS k) [] ++ (strB.getD 25 [] ++ gT (cfg sc) d (k + 1)))) = F := by
      rw [s28, s25, List.append_assoc]
      exact h
    have h1 := ap h0
    have h2 := ap h1
    have h3 := ap h2
    have n1 : 1 ≤ (strB.getD (groS k) []).length := st1 _ (by unfold groS; split <;> (try split) <;> (try split) <;> omega)
    rw [f_L_load_202, L_growers hL, bn1_s, if_neg (nI_ge (by omega) (by omega)), bnd_s, gd_t ⟨pl h1 hF, ln1 (st1 28 (by decide))⟩, gd_t (nI_in (show k < 4 by omega) (by decide)), nI_clamp (by omega), bnd_s, gd_t ⟨pl h2 hF, ln1 n1⟩, bnd_s, gd_t ⟨pl h3 hF, ln1 (st1 25 (by decide))⟩, nI_1]
    exact ih (k + 1) f _ (by omega) (by omega) h3
set_option maxRecDepth 20000 in
theorem b_134 (hL : sc.1 ≤ 260) (hF : F.length ≤ 590) {v : Nat} (hv : v < 3) {rest : List Int32} : ∀ d g f (T : List Int32), g + d = cfg sc 0 0 → d < f → T ++ pI (cfg sc) v rest d g = F → ∃ T', f_L_load_134 sc (nI v) f T (nI g) = some T' ∧ T' ++ rest = F := by
  have hC := cfg_ok sc
  have hCb := hC.b
  intro d
  induction d with
  | zero =>
    intro g f T hk hf h
    obtain ⟨f, rfl⟩ := fuel hf
    refine ⟨T, ?_, h⟩
    rw [f_L_load_134, L_grades hL, bn1_s, if_pos (nI_le (by omega) (by omega))]
  | succ d ih =>
    intro g f T hk hf h
    obtain ⟨f, rfl⟩ := fuel hf
    have hc : cfg sc 7 (v * 4 + g) < 30 := dr_lt (by decide)
    have h0 : T ++ (strB.getD 27 [] ++ (strB.getD (winS v) [] ++ (strB.getD 23 [] ++ (decL g ++ (strB.getD 23 [] ++ (decL (cfg sc 7 (v * 4 + g)) ++ (strB.getD 25 [] ++ pI (cfg sc) v rest d (g + 1)))))))) = F := by
      rw [s27, s25, s23, List.append_assoc]
      exact h
    have h1 := ap h0
    have h2 := ap h1
    have h3 := ap h2
    have h4 := ap h3
    have h5 := ap h4
    have h6 := ap h5
    have h7 := ap h6
    have n2 : 1 ≤ (strB.getD (winS v) []).length := st1 _ (by unfold winS; split <;> (try split) <;> omega)
    obtain ⟨T', e1, e2⟩ := ih (g + 1) f _ (by omega) (by omega) h7
    refine ⟨T', ?_, e2⟩
    rw [f_L_load_134, L_grades hL, bn1_s, if_neg (nI_ge (by omega) (by omega)), bnd_s, gd_t ⟨pl h1 hF, ln1 (st1 27 (by decide))⟩, gd_t (c_win hv), nI_clamp (show v < 2 ^ 31 by omega), bnd_s, gd_t ⟨pl h2 hF, ln1 n2⟩, bnd_s, gd_t ⟨pl h3 hF, ln1 (st1 23 (by decide))⟩, gd_t (dec_g (by omega)), nI_clamp (show g < 2 ^ 31 by omega), bnd_s, gd_t (pl h4 hF), bnd_s, gd_t ⟨pl h5 hF, ln1 (st1 23 (by decide))⟩, L_cents hL (by omega) (by omega), bn1_s, gd_t (dec_g (by omega)), nI_clamp (show cfg sc 7 (v * 4 + g) < 2 ^ 31 by omega), bnd_s, gd_t (pl h6 hF), bnd_s, gd_t ⟨pl h7 hF, ln1 (st1 25 (by decide))⟩, nI_1]
    exact e1
set_option maxRecDepth 20000 in
theorem b_p (hL : sc.1 ≤ 260) (hF : F.length ≤ 590) : ∀ d v f (T : List Int32), v + d = cfg sc 0 1 → d < f → T ++ pT (cfg sc) d v = F → f_L_load_123 X sc f T (nI v) = f_L_load_308 X sc 1 F (nI (cfg sc 0 4)) := by
  have hC := cfg_ok sc
  have hCb := hC.b
  intro d
  induction d with
  | zero =>
    intro v f T hk hf h
    obtain ⟨f, rfl⟩ := fuel hf
    rw [f_L_load_123, L_wines hL, bn1_s, if_pos (nI_le (by omega) (by omega))]
    exact b_g hL hF (cfg sc 0 2) 0 2000 T (by omega) (by omega) h
  | succ d ih =>
    intro v f T hk hf h
    obtain ⟨f, rfl⟩ := fuel hf
    obtain ⟨T', e1, e2⟩ := b_134 hL hF (v := v) (by omega) (cfg sc 0 0) 0 2000 T (by omega) (by omega) h
    rw [f_L_load_123, L_wines hL, bn1_s, if_neg (nI_ge (by omega) (by omega)), show f_L_load_134 sc (nI v) 2000 T 0 = _ from e1, bn1_s, nI_1]
    exact ih (v + 1) f T' (by omega) (by omega) e2
set_option maxRecDepth 20000 in
theorem b_v (hL : sc.1 ≤ 260) (hF : F.length ≤ 590) : ∀ d k f (T : List Int32), k + d = cfg sc 0 1 → d < f → T ++ vT (cfg sc) d k = F → f_L_load_87 X sc f T (nI k) = f_L_load_308 X sc 1 F (nI (cfg sc 0 4)) := by
  have hC := cfg_ok sc
  have hCb := hC.b
  intro d
  induction d with
  | zero =>
    intro k f T hk hf h
    obtain ⟨f, rfl⟩ := fuel hf
    rw [f_L_load_87, L_wines hL, bn1_s, if_pos (nI_le (by omega) (by omega))]
    exact b_p hL hF (cfg sc 0 1) 0 2000 T (by omega) (by omega) h
  | succ d ih =>
    intro k f T hk hf h
    obtain ⟨f, rfl⟩ := fuel hf
    have h0 : T ++ (strB.getD 26 [] ++ (strB.getD (winS k) [] ++ (strB.getD 25 [] ++ vT (cfg sc) d (k + 1)))) = F := by
      rw [s26, s25, List.append_assoc]
      exact h
    have h1 := ap h0
    have h2 := ap h1
    have h3 := ap h2
    have n2 : 1 ≤ (strB.getD (winS k) []).length := st1 _ (by unfold winS; split <;> (try split) <;> omega)
    rw [f_L_load_87, L_wines hL, bn1_s, if_neg (nI_ge (by omega) (by omega)), bnd_s, gd_t ⟨pl h1 hF, ln1 (st1 26 (by decide))⟩, gd_t (c_win (show k < 3 by omega)), nI_clamp (by omega), bnd_s, gd_t ⟨pl h2 hF, ln1 n2⟩, bnd_s, gd_t ⟨pl h3 hF, ln1 (st1 25 (by decide))⟩, nI_1]
    exact ih (k + 1) f _ (by omega) (by omega) h3
set_option maxRecDepth 20000 in
theorem b_c (hL : sc.1 ≤ 260) (hF : F.length ≤ 590) : ∀ d k f (T : List Int32), k + d = cfg sc 0 0 → d < f → T ++ clT (cfg sc) d k = F → f_L_load_49 X sc f T (nI k) = f_L_load_308 X sc 1 F (nI (cfg sc 0 4)) := by
  have hC := cfg_ok sc
  have hCb := hC.b
  intro d
  induction d with
  | zero =>
    intro k f T hk hf h
    obtain ⟨f, rfl⟩ := fuel hf
    have h0 : T ++ (strB.getD 25 [] ++ vT (cfg sc) (cfg sc 0 1) 0) = F := by
      rw [s25]
      exact h
    have h1 := ap h0
    rw [f_L_load_49, L_grades hL, bn1_s, if_pos (nI_le (by omega) (by omega)), bnd_s, gd_t ⟨pl h1 hF, ln1 (st1 25 (by decide))⟩]
    exact b_v hL hF (cfg sc 0 1) 0 2000 _ (by omega) (by omega) h1
  | succ d ih =>
    intro k f T hk hf h
    obtain ⟨f, rfl⟩ := fuel hf
    have hl := hC.k (k := k) (by omega)
    have h0 : T ++ (strB.getD 23 [] ++ (decL (cfg sc 1 k) ++ clT (cfg sc) d (k + 1))) = F := by
      rw [s23]
      exact h
    have h1 := ap h0
    have h2 := ap h1
    rw [f_L_load_49, L_grades hL, bn1_s, if_neg (nI_ge (by omega) (by omega)), bnd_s, gd_t ⟨pl h1 hF, ln1 (st1 23 (by decide))⟩, L_lowest hL (by omega), bn1_s, gd_t (dec_g (by omega)), nI_clamp (by omega), bnd_s, gd_t (pl h2 hF), nI_1]
    exact ih (k + 1) f _ (by omega) (by omega) h2
end BUILD
