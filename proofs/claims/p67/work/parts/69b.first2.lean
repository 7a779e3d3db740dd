/-! PURE: the fresh object: the first text is read, its loads by and large -/
def FW (X0 : XT) (o : Option (Int32 × XT)) : Prop := ∃ r X', o = some (r, X') ∧ (∀ k j i f, k ≠ 1 → k ≠ 2 → k ≠ 3 → (j ≠ 0 ∨ k < 10) → X' k j i f = X0 k j i f) ∧ (∀ i, i < 20 → X' 22 0 i 7 = 0 ∨ X' 22 0 i 7 = 1) ∧ X' 2 0 0 1 = 0
def WK (X0 X : XT) (T w r : List Int32) : Prop := AT X T w r ∧ (∀ k j i f, k ≠ 1 → k ≠ 2 → k ≠ 3 → (j ≠ 0 ∨ k < 10) → X k j i f = X0 k j i f) ∧ (∀ i, i < 20 → X 22 0 i 7 = 0 ∨ X 22 0 i 7 = 1) ∧ ∃ nl, nl ≤ 20 ∧ X 11 0 0 3 = nI 3 ∧ X 15 0 0 5 = nI 3 ∧ X 23 0 0 2 = nI 3 ∧ X 20 0 0 1 = nI nl
section FIRST
variable {X X0 X' : XT} {T w r w' r' rest : List Int32}
set_option maxRecDepth 20000 in
theorem w_gr (h : X 11 0 0 3 = nI 3) (v : Int32) : ∀ d k f, k + d = 3 → d < f → ∃ r, f_X1_gradeOfSugar_2 X 0 v f (nI k) = some r := by
  intro d
  induction d with
  | zero =>
    intro k f hk hf
    obtain ⟨f, rfl⟩ := fuel hf
    rw [f_X1_gradeOfSugar_2, h, if_pos (nI_le (by omega) (by omega))]
    exact ⟨_, rfl⟩
  | succ d ih =>
    intro k f hk hf
    obtain ⟨f, rfl⟩ := fuel hf
    rw [f_X1_gradeOfSugar_2, h, if_neg (nI_ge (by omega) (by omega)), gd_t (nI_in (by omega) (by decide)), nI_1]
    split
    · exact ih (k + 1) f (by omega) (by omega)
    · exact ⟨_, rfl⟩
set_option maxRecDepth 20000 in
theorem w_ha {nl : Nat} (hn : nl ≤ 20) (h : X 20 0 0 1 = nI nl) (v : Int32) : ∀ d k f a, k + d = nl → d < f → ∃ r, f_X3_weightFromPlot_4 X 0 v f a (nI k) = some r := by
  intro d
  induction d with
  | zero =>
    intro k f a hk hf
    obtain ⟨f, rfl⟩ := fuel hf
    rw [f_X3_weightFromPlot_4, h, if_pos (nI_le (by omega) (by omega))]
    exact ⟨_, rfl⟩
  | succ d ih =>
    intro k f a hk hf
    obtain ⟨f, rfl⟩ := fuel hf
    have hg : ¬ (nI k < 0 ∨ 20 ≤ (nI k).toNatClampNeg) := nI_in (by omega) (by decide)
    rw [f_X3_weightFromPlot_4, h, if_neg (nI_ge (by omega) (by omega)), gd_t hg, gd_t hg, bnd_s, nI_1]
    split
    · exact ih (k + 1) f _ (by omega) (by omega)
    · exact ih (k + 1) f _ (by omega) (by omega)
set_option maxRecDepth 20000 in
theorem w_ch (h : X 23 0 0 2 = nI 3) (v u : Int32) : ∀ d k f e, k + d = 3 → d < f → ∃ r, f_X2_chooseTank_5 X 0 v u f e (nI k) = some r := by
  intro d
  induction d with
  | zero =>
    intro k f e hk hf
    obtain ⟨f, rfl⟩ := fuel hf
    rw [f_X2_chooseTank_5, h, if_pos (nI_le (by omega) (by omega))]
    exact ⟨_, rfl⟩
  | succ d ih =>
    intro k f e hk hf
    obtain ⟨f, rfl⟩ := fuel hf
    have ih := fun e => ih (k + 1) f e (by omega) (by omega)
    unfold f_X2_chooseTank_5 f_X9_room f_X9_holds
    rw [h, if_neg (nI_ge (by omega) (by omega)), gd_t (nI_in (by omega) (by decide)), bn1_s, nI_1]
    split
    · exact ih _
    · obtain ⟨q, hq⟩ : ∃ q : Int32, (if X 26 0 (nI k).toNatClampNeg 1 ≤ 0 then some 0 else if X 26 0 (nI k).toNatClampNeg 2 = v then some 1 else some 0) = some q := by
        split
        · exact ⟨_, rfl⟩
        · split <;> exact ⟨_, rfl⟩
      rw [hq, bn1_s]
      split
      · split
        · split
          · exact ih _
          · exact ih _
        · exact ih _
      · exact ⟨_, rfl⟩
set_option maxRecDepth 20000 in
theorem w_gf {nl : Nat} (hn : nl ≤ 20) (h1 : X 11 0 0 3 = nI 3) (h2 : X 15 0 0 5 = nI 3) (h3 : X 20 0 0 1 = nI nl) {p : Nat} (hp : p < 3) (u s : Int32) : ∃ r, f_X0_gradeFor X 0 (nI p) u s = some r := by
  obtain ⟨a, ha⟩ := w_ha hn h3 (nI p) nl 0 2000 0 (by omega) (by omega)
  obtain ⟨g, hg⟩ := w_gr h1 s 3 0 2000 (by decide) (by decide)
  unfold f_X0_gradeFor f_X5_limitOf f_X3_weightFromPlot f_X1_gradeOfSugar
  rw [show f_X3_weightFromPlot_4 X 0 (nI p) 2000 0 0 = _ from ha, bn1_s, if_neg (nI_pos (by omega)), h2, if_neg (nI_ge hp (by omega)), gd_t (nI_in (by omega) (by decide)), bn1_s, show f_X1_gradeOfSugar_2 X 0 s 2000 0 = _ from hg, bn1_s]
  split <;> exact ⟨_, rfl⟩
set_option maxRecDepth 20000 in
theorem w_re {nl : Nat} (hn : nl ≤ 20) (h1 : X 11 0 0 3 = nI 3) (h2 : X 15 0 0 5 = nI 3) (h3 : X 20 0 0 1 = nI nl) (h4 : X 23 0 0 2 = nI 3) {p : Nat} (hp : p < 3) (u s : Int32) : ∃ r, f_X0_reasonAgainst X 0 (nI p) u s = some r ∧ (r = 0 → nl < 20) := by
  obtain ⟨g, hg⟩ := w_gr h1 s 3 0 2000 (by decide) (by decide)
  unfold f_X0_reasonAgainst f_X3_isFull f_X1_gradeOfSugar f_X5_varietyOn f_X2_chooseTank
  rw [h3]
  by_cases c : nl < 20
  · obtain ⟨t, ht⟩ := w_ch h4 (X 18 0 0 (nI p).toNatClampNeg) u 3 0 2000 (-1) (by decide) (by decide)
    rw [if_pos (show nI nl < 20 from nI_lt (b := 20) c (by decide)), bn1_s, if_pos rfl, show f_X1_gradeOfSugar_2 X 0 s 2000 0 = _ from hg, bn1_s, if_neg (nI_pos (by omega)), h2, if_neg (nI_ge hp (by omega)), gd_t (nI_in (by omega) (by decide)), bn1_s, show f_X2_chooseTank_5 X 0 (X 18 0 0 (nI p).toNatClampNeg) u 2000 (-1) 0 = _ from ht, bn1_s]
    split
    · exact ⟨_, rfl, fun _ => c⟩
    · split <;> exact ⟨_, rfl, fun _ => c⟩
  · rw [if_neg (show ¬ nI nl < 20 from nI_nlt (b := 20) (by omega) (by omega)), bn1_s, if_neg (by decide)]
    exact ⟨_, rfl, fun q => absurd q (by decide)⟩
set_option maxRecDepth 20000 in
theorem w_ac {nl : Nat} (hn : nl < 20) (h1 : X 11 0 0 3 = nI 3) (h2 : X 15 0 0 5 = nI 3) (h3 : X 20 0 0 1 = nI nl) (h4 : X 23 0 0 2 = nI 3) {p : Nat} (hp : p < 3) (u s : Int32) (fl : ∀ i, i < 20 → X 22 0 i 7 = 0 ∨ X 22 0 i 7 = 1) : ∃ r X', f_X0_accept X 0 (nI p) u s = some (r, X') ∧ (∀ k j i f, ¬ (j = 0 ∧ (k = 26 ∨ k = 22 ∨ k = 20)) → X' k j i f = X k j i f) ∧ (∀ i, i < 20 → X' 22 0 i 7 = 0 ∨ X' 22 0 i 7 = 1) ∧ ∃ n2, n2 ≤ 20 ∧ X' 20 0 0 1 = nI n2 := by
  obtain ⟨g, hg⟩ := w_gf (by omega) h1 h2 h3 hp u s
  obtain ⟨t, ht⟩ := w_ch h4 (X 18 0 0 (nI p).toNatClampNeg) u 3 0 2000 (-1) (by decide) (by decide)
  unfold f_X0_accept f_X5_varietyOn f_X2_chooseTank f_X3_isFull
  rw [if_neg (nI_pos (by omega)), h2, if_neg (nI_ge hp (by omega)), gd_t (nI_in (by omega) (by decide)), bn1_s, hg, bn1_s, show f_X2_chooseTank_5 X 0 (X 18 0 0 (nI p).toNatClampNeg) u 2000 (-1) 0 = _ from ht, bn1_s]
  by_cases c1 : t < 0
  · rw [if_pos c1]
    exact ⟨_, X, rfl, fun _ _ _ _ _ => rfl, fl, nl, by omega, h3⟩
  · rw [if_neg c1]
    by_cases c2 : 5 ≤ t
    · rw [if_pos c2]
      exact ⟨_, X, rfl, fun _ _ _ _ _ => rfl, fl, nl, by omega, h3⟩
    · obtain ⟨q, hq, rfl⟩ := nI_of c1
      have hq5 : q < 5 := Nat.not_le.mp fun e => c2 (show (5 : Int32) ≤ nI q from nI_le (a := 5) e hq)
      unfold f_X9_pour f_X3_addLoad f_X5_ownerOf
      rw [if_neg c2, h3, if_pos (show nI nl < 20 from nI_lt (b := 20) hn (by decide)), bn1_s, if_pos rfl, gd_t (nI_in hq5 (by decide)), nI_clamp hq, bnd_s, bnd_s, bnd_s, bn1_s]
      obtain ⟨Y, hY⟩ : ∃ Y : XT, Y = xs (xs (xs X 26 0 q 2 (X 18 0 0 (nI p).toNatClampNeg)) 26 0 q 1 ((xs X 26 0 q 2 (X 18 0 0 (nI p).toNatClampNeg)) 26 0 q 1 + u)) 26 0 q 3 ((xs (xs X 26 0 q 2 (X 18 0 0 (nI p).toNatClampNeg)) 26 0 q 1 ((xs X 26 0 q 2 (X 18 0 0 (nI p).toNatClampNeg)) 26 0 q 1 + u)) 26 0 q 3 + u * s) := ⟨_, rfl⟩
      rw [← hY]
      have gY : ∀ k j i f, ¬ (k = 26 ∧ j = 0) → Y k j i f = X k j i f := fun k j i f n => by rw [hY, xs_o (by omega), xs_o (by omega), xs_o (by omega)]
      have y20 : Y 20 0 0 1 = nI nl := (gY _ _ _ _ (by omega)).trans h3
      rw [y20, if_neg (show ¬ (19 : Int32) < nI nl from nI_nlt (a := 19) (b := nl) (by omega) (by decide)), bnd_s, gd_t (nI_in (by omega) (by decide)), nI_clamp (by omega), bnd_s, bnd_s]
      have i20 : xs (xs Y 22 0 nl 7 0) 22 0 nl 8 0 20 0 0 1 = nI nl := by rw [xs_o (by omega), xs_o (by omega)]; exact y20
      rw [i20, nI_1, if_neg (show ¬ (20 : Int32) < nI (nl + 1) from nI_nlt (a := 20) (b := nl + 1) (by omega) (by decide)), bnd_s, bn2_s, gd_t (by omega), bnd_s, if_neg (nI_pos (by omega))]
      have i15 : xs (xs (xs (xs Y 22 0 nl 7 0) 22 0 nl 8 0) 20 0 0 1 (nI (nl + 1))) 22 0 nl 0 (nI p) 15 0 0 5 = nI 3 := by rw [xs_o (by omega), xs_o (by omega), xs_o (by omega), xs_o (by omega), gY 15 0 0 5 (by omega)]; exact h2
      rw [i15, if_neg (nI_ge hp (by omega)), gd_t (nI_in (by omega) (by decide)), bn1_s, bnd_s, bnd_s, bnd_s, bnd_s, bnd_s, bnd_s]
      refine ⟨_, _, rfl, fun k j i f n => ?_, fun i hi => ?_, nl + 1, by omega, ?_⟩
      · rw [xs_o (by omega), xs_o (by omega), xs_o (by omega), xs_o (by omega), xs_o (by omega), xs_o (by omega), xs_o (by omega), xs_o (by omega), xs_o (by omega), xs_o (by omega)]
        exact gY k j i f (by omega)
      · rw [xs_o (by omega), xs_o (by omega), xs_o (by omega), xs_o (by omega), xs_o (by omega), xs_o (by omega), xs_o (by omega), xs_o (by omega), xs_o (by omega)]
        by_cases e : i = nl
        · rw [e, xs_i]
          exact Or.inl rfl
        · rw [xs_o (by omega), gY 22 0 i 7 (by omega)]
          exact fl i hi
      · rw [xs_o (by omega), xs_o (by omega), xs_o (by omega), xs_o (by omega), xs_o (by omega), xs_o (by omega), xs_o (by omega), xs_i]
set_option maxRecDepth 20000 in
theorem fin0 {i f : Nat} (hi : i < 600) : f_X8_readAll_46 (f + 1) X 0 (nI i) = some (0, xs X 2 0 0 1 0) := by
  rw [f_X8_readAll_46, if_neg (show ¬ (600 : Int32) ≤ nI i from nI_ge (b := 600) hi (by decide)), if_pos rfl, bnd_s, gd_t (by decide)]
set_option maxRecDepth 20000 in
theorem d_step {p u s i f : Nat} (h : WK X0 X T (strB.getD 7 []) ([32] ++ (decL p ++ ([32] ++ (decL u ++ ([32] ++ (decL s ++ ([59] ++ rest)))))))) (hp : p < 3) (u1 : 1 ≤ u) (u2 : u ≤ 5000) (s2 : s ≤ 250) (hx : NX rest w r) (hi : i + 1 < 600) (k : ∀ X', WK X0 X' T w r → FW X0 (f_X8_readAll_46 (f + 1) X' 1 (nI (i + 1)))) : FW X0 (f_X8_readAll_46 (f + 1 + 1) X 1 (nI i)) := by
  obtain ⟨ha, g, fl, nl, hn, h1, h2, h4, h3⟩ := h
  obtain ⟨X1, e1, a1, f1⟩ := at_run (sp := [32]) ha sp32 (dec_wd p) (hd_sp 3 (Or.inr rfl) _)
  obtain ⟨X2, e2, a2, f2⟩ := at_run (sp := [32]) a1 sp32 (dec_wd u) (hd_sp 3 (Or.inr rfl) _)
  obtain ⟨X3, e3, a3, f3⟩ := at_run (sp := [32]) a2 sp32 (dec_wd s) (hd_semi 3 (Or.inr rfl) _)
  obtain ⟨X4, e4, a4, f4⟩ := at_semi (sp := []) a3 (fun x hx => absurd hx List.not_mem_nil)
  have fr := ((f1.tr f2).tr f3).tr f4
  have frk : ∀ k j i f, k ≠ 2 → X4 k j i f = X k j i f := fun k j i f q => fr k j i f (Or.inl q)
  have n1 : f_X8_readNumber X1 0 (X1 15 0 0 5 - 1) = some (nI p, X2) := by
    rw [f1 15 0 0 5 (Or.inl (by decide)), h2, show nI 3 - 1 = nI 2 by decide]
    exact p_num a1 (by omega) (nI_pos (by omega)) (nI_le (by omega) (by omega)) e2
  have n2 : f_X8_readNumber X2 1 5000 = some (nI u, X3) := p_num a2 (by omega) (show ¬ nI u < 1 from nI_nlt (b := 1) u1 (by omega)) (nI_le (b := 5000) u2 (by decide)) e3
  have n3 : f_X8_readNumber X3 0 250 = some (nI s, X4) := p_num a3 (by omega) (nI_pos (by omega)) (nI_le (b := 250) s2 (by decide)) e4
  have k4 : X4 2 0 0 2 = 4 := AT.kind (x := 59) (v := []) a4
  have his : f_X8_isSemicolonHere X4 = some (1, X4) := by
    unfold f_X8_isSemicolonHere
    rw [if_pos k4]
  have q1 := (frk 11 0 0 3 (by decide)).trans h1
  have q2 := (frk 15 0 0 5 (by decide)).trans h2
  have q3 := (frk 20 0 0 1 (by decide)).trans h3
  have q4 := (frk 23 0 0 2 (by decide)).trans h4
  have qf : ∀ i, i < 20 → X4 22 0 i 7 = 0 ∨ X4 22 0 i 7 = 1 := fun i hi => by rw [frk 22 0 i 7 (by decide)]; exact fl i hi
  obtain ⟨rr, er, hr⟩ := w_re hn q1 q2 q3 q4 hp (nI u) (nI s)
  have head : ∀ (z : Option (Int32 × XT)), f_X8_readLoad X = z → f_X8_readStatement X = bn2 z (fun r16 X6 => gd (r16 &&& 1 = r16) (some (r16, X6))) := by
    intro z hz
    unfold f_X8_readStatement
    rw [ha.spl (u := 2) (by decide) (by decide), bn1_s, if_pos (show (if 2 = 7 then (1 : Int32) else 0) = 0 by decide), ha.spl (u := 3) (by decide) (by decide), bn1_s, if_pos (show (if 3 = 7 then (1 : Int32) else 0) = 0 by decide), ha.spl (u := 4) (by decide) (by decide), bn1_s, if_pos (show (if 4 = 7 then (1 : Int32) else 0) = 0 by decide), ha.spl (u := 5) (by decide) (by decide), bn1_s, if_pos (show (if 5 = 7 then (1 : Int32) else 0) = 0 by decide), ha.spl (u := 6) (by decide) (by decide), bn1_s, if_pos (show (if 6 = 7 then (1 : Int32) else 0) = 0 by decide), ha.spl (u := 7) (by decide) (by decide), bn1_s, if_neg (show ¬ (if 7 = 7 then (1 : Int32) else 0) = 0 by decide), hz]
  have go46 : ∀ (v : Int32) (Z : XT), f_X8_readStatement X = some (v, Z) → f_X8_readAll_46 (f + 1 + 1) X 1 (nI i) = f_X8_readAll_46 (f + 1) Z v (nI (i + 1)) := by
    intro v Z e
    have k2 := (ha.wk (str_wd (by decide))).1
    rw [f_X8_readAll_46, if_neg (show ¬ (600 : Int32) ≤ nI i from nI_ge (b := 600) (by omega) (by decide)), if_neg (by decide), k2, if_neg (by decide), e, bn2_s, nI_1]
  by_cases c : rr = 0
  · obtain ⟨r6, X6, e6, g6, fl6, n6, hn6, h6⟩ := w_ac (hr c) q1 q2 q3 q4 hp (nI u) (nI s) qf
    have a6 : AT X6 T [59] rest := a4.up (fun f => g6 2 0 0 f (by omega)) (fun i => g6 3 0 0 i (by omega))
    obtain ⟨X7, e7, a7, f7⟩ := p_semi a6 hx
    have el : f_X8_readLoad X = some (1, X7) := by
      unfold f_X8_readLoad
      rw [e1, bn1_s, n1, bn2_s, if_neg (nI_m1 (by omega)), n2, bn2_s, if_neg (nI_m1 (by omega)), n3, bn2_s, if_neg (nI_m1 (by omega)), his, bn2_s, if_neg (by decide), er, bn1_s, if_pos c, e6, bn2_s, e7, bn2_s, gd_t (by decide)]
    have es := head _ el
    rw [bn2_s, gd_t (by decide)] at es
    rw [go46 _ _ es]
    refine k X7 ⟨a7, fun k' j i' f' b1 b2 b3 b4 => ?_, fun i hi => ?_, n6, hn6, ?_, ?_, ?_, ?_⟩
    · rw [f7 k' j i' f' (Or.inl b2), g6 k' j i' f' (by omega), frk k' j i' f' b2]
      exact g k' j i' f' b1 b2 b3 b4
    · rw [f7 22 0 i 7 (Or.inl (by decide))]
      exact fl6 i hi
    · rw [f7 11 0 0 3 (Or.inl (by decide)), g6 11 0 0 3 (by omega)]; exact q1
    · rw [f7 15 0 0 5 (Or.inl (by decide)), g6 15 0 0 5 (by omega)]; exact q2
    · rw [f7 23 0 0 2 (Or.inl (by decide)), g6 23 0 0 2 (by omega)]; exact q4
    · rw [f7 20 0 0 1 (Or.inl (by decide))]; exact h6
  · obtain ⟨Z, hZ⟩ : ∃ Z : XT, Z = xs (xs X4 1 0 0 3 6) 1 0 0 4 ((xs X4 1 0 0 3 6) 2 0 0 3) := ⟨_, rfl⟩
    have el : f_X8_readLoad X = some (0, Z) := by
      unfold f_X8_readLoad f_X8_fail
      rw [e1, bn1_s, n1, bn2_s, if_neg (nI_m1 (by omega)), n2, bn2_s, if_neg (nI_m1 (by omega)), n3, bn2_s, if_neg (nI_m1 (by omega)), his, bn2_s, if_neg (by decide), er, bn1_s, if_neg c, bnd_s, bnd_s, bn2_s, gd_t (by decide), ← hZ]
    have es := head _ el
    rw [bn2_s, gd_t (by decide)] at es
    rw [go46 _ _ es, fin0 (by omega)]
    refine ⟨0, _, rfl, fun k' j i' f' b1 b2 b3 b4 => ?_, fun i hi => ?_, xs_i⟩
    · rw [xs_o (by omega), hZ, xs_o (by omega), xs_o (by omega), frk k' j i' f' b2]
      exact g k' j i' f' b1 b2 b3 b4
    · rw [xs_o (by omega), hZ, xs_o (by omega), xs_o (by omega)]
      exact qf i hi
end FIRST
