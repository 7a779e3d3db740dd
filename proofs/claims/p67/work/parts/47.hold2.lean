/-! PURE: the law's holds answers 1 -/
section HOLD2
variable {sc : Nat × (Nat → Int32)} {X : XT} {A : NF} {W S : Nat → Int32}
set_option maxRecDepth 20000 in
theorem h_491 (h : IV X (cfg sc) A) (f6 f7 f8 f9 f10 f12 : Nat → Int32) (v5 : Int32) {v : Nat} (hv : v < cfg sc 0 1) : ∀ d g f, g + d = cfg sc 0 0 → d < f → f_L_holds_491 X sc W S f6 f7 f8 f9 f10 (cF (cfg sc) A (A 0 0)) f12 v5 (nI v) f (nI g) = some (.inr ()) := by
  have hC := cfg_ok sc
  have hCb := hC.b
  intro d
  induction d with
  | zero =>
    intro g f hk hf
    obtain ⟨f, rfl⟩ := fuel hf
    unfold f_L_holds_491 f_X11_classCount
    rw [h.c.1, bn1_s, if_pos (nI_le (by omega) (by omega))]
  | succ d ih =>
    intro g f hk hf
    obtain ⟨f, rfl⟩ := fuel hf
    have ih := ih (g + 1) f (by omega) (by omega)
    have hg : g < cfg sc 0 0 := by omega
    unfold f_L_holds_491 f_X11_classCount f_X11_weightOfClass
    rw [h.c.1, bn1_s, if_neg (nI_ge hg (by omega)), n_var hC h hv, bn1_s, n_cla hC h hg, bn1_s, q_wc hC h (by omega) (by omega), bn1_s, bn1_s, show (10 : Int32) * nI v = nI (10 * v) from pk_mul 10 v, nI_add, bnd_s, gd_t (nI_in (by omega) (by decide)), nI_clamp (by omega), bnd_s, if_pos (show nI (wc (cfg sc) A (10 * v + g) (A 0 0)) = cF (cfg sc) A (A 0 0) (10 * v + g) from rfl), nI_1]
    exact ih
set_option maxRecDepth 20000 in
theorem h_479 (hL : sc.1 ≤ 260) (h : IV X (cfg sc) A) (f12 : Nat → Int32) : ∀ d v f, v + d = cfg sc 0 1 → d < f → f_L_holds_479 X sc W S (nI (cfg sc 0 2)) f (kF A (A 0 0)) (oF (cfg sc) A (A 0 0)) (pF (cfg sc) A (A 0 0)) (wF (cfg sc) A (A 0 0)) (dF (cfg sc) A (A 0 0)) (cF (cfg sc) A (A 0 0)) f12 (nI v) = some 1 := by
  have hC := cfg_ok sc
  have hCb := hC.b
  intro d
  induction d with
  | zero =>
    intro v f hk hf
    obtain ⟨f, rfl⟩ := fuel hf
    unfold f_L_holds_479 f_X11_varietyCount f_X11_cash
    rw [h.c.2.1, bn1_s, if_pos (nI_le (by omega) (by omega)), h.m.1, bn1_s]
    exact h_557 hL h _ _ (cfg sc 0 2) 0 2000 (by omega) (by omega)
  | succ d ih =>
    intro v f hk hf
    obtain ⟨f, rfl⟩ := fuel hf
    have ih := ih (v + 1) f (by omega) (by omega)
    unfold f_L_holds_479 f_X11_varietyCount
    rw [h.c.2.1, bn1_s, if_neg (nI_ge (by omega) (by omega)), show f_L_holds_491 X sc W S (kF A (A 0 0)) (oF (cfg sc) A (A 0 0)) (pF (cfg sc) A (A 0 0)) (wF (cfg sc) A (A 0 0)) (dF (cfg sc) A (A 0 0)) (cF (cfg sc) A (A 0 0)) f12 (nI (cfg sc 0 2)) (nI v) 2000 0 = _ from h_491 h _ _ _ _ _ _ _ (by omega) (cfg sc 0 0) 0 2000 (by omega) (by omega), bn1_s, jn_r, nI_1]
    exact ih
set_option maxRecDepth 20000 in
theorem h_407 (hL : sc.1 ≤ 260) (h : IV X (cfg sc) A) : ∀ d j f, j + d = (oL (cfg sc) A (A 0 0)).length → d < f → f_L_holds_407 X sc W S (nI (cfg sc 0 2)) (nI (oL (cfg sc) A (A 0 0)).length) f (kF A (A 0 0)) (oF (cfg sc) A (A 0 0)) (pF (cfg sc) A (A 0 0)) (wF (cfg sc) A (A 0 0)) (dF (cfg sc) A (A 0 0)) (cF (cfg sc) A (A 0 0)) (rF (cfg sc) A (A 0 0)) (hb (fun c => wc (cfg sc) A c (A 0 0)) ((oL (cfg sc) A (A 0 0)).take j)).1 (nI j) = some 1 := by
  have hC := cfg_ok sc
  have hCb := hC.b
  have hbb := h.b
  have hlen := oL_len (C := cfg sc) (A := A) (A 0 0)
  intro d
  induction d with
  | zero =>
    intro j f hk hf
    obtain ⟨f, rfl⟩ := fuel hf
    unfold f_L_holds_407 f_X11_greatestClass
    rw [if_pos (nI_le (by omega) (by omega)), q_hpa hC h, bn1_s, bn1_s, List.take_of_length_le (by omega), if_pos rfl]
    exact h_479 hL h _ (cfg sc 0 1) 0 2000 (by omega) (by omega)
  | succ d ih =>
    intro j f hk hf
    obtain ⟨f, rfl⟩ := fuel hf
    have ih := ih (j + 1) f (by omega) (by omega)
    have hj : j < (oL (cfg sc) A (A 0 0)).length := by omega
    obtain ⟨c, hc⟩ : ∃ c, (oL (cfg sc) A (A 0 0))[j]? = some c := ⟨_, List.getElem?_eq_getElem hj⟩
    have hcm : c ∈ oL (cfg sc) A (A 0 0) := List.mem_of_getElem? hc
    have hgd : (oL (cfg sc) A (A 0 0)).getD j 0 = c := by rw [List.getD_eq_getElem?_getD, hc]; rfl
    have hc30 : c < 30 := by
      obtain ⟨m, h1, h2⟩ := (oL_mem _).mp hcm
      have := pq_lt hC h h1
      omega
    have htk : (oL (cfg sc) A (A 0 0)).take (j + 1) = (oL (cfg sc) A (A 0 0)).take j ++ [c] := by
      rw [List.take_succ, hc]
      rfl
    have hw := wc_le h c
    have hwp := (wc_pos h (Nat.le_refl _) c).1 hcm
    have er : rF (cfg sc) A (A 0 0) j = nI c := congrArg nI hgd
    have ec : cF (cfg sc) A (A 0 0) c = nI (wc (cfg sc) A c (A 0 0)) := rfl
    have hg20 : ¬ (nI j < 0 ∨ 20 ≤ j) := gin (by omega) (by omega)
    rw [htk, hb_app, ← nI_1 j] at ih
    unfold f_L_holds_407 f_X11_classInOrder
    rw [if_neg (nI_ge hj (by omega)), q_par hC h hj, bn1_s, hgd, if_neg (nI_m1 (by omega)), bn1_s, gd_t (nI_in (by omega) (by decide)), nI_clamp (by omega), bnd_s, er, if_pos rfl]
    rcases hb_or (fun c => wc (cfg sc) A c (A 0 0)) ((oL (cfg sc) A (A 0 0)).take j) with q | ⟨b, q1, q2⟩
    · rw [q] at ih ⊢
      rw [if_pos (show (-1, (0 : Nat)).2 < wc (cfg sc) A c (A 0 0) from hwp)] at ih
      rw [if_pos rfl, gd_t hg20, bnd_s]
      exact ih
    · have hb30 : b < 30 := by
        obtain ⟨m, h1, h2⟩ := (oL_mem _).mp (List.mem_of_mem_take q1)
        have := pq_lt hC h h1
        omega
      have hwb := wc_le h b
      rw [q2] at ih ⊢
      rw [if_neg (nI_m1 (by omega)), gd_t hg20, bnd_s, gd_t (nI_in (by omega) (by decide)), nI_clamp (by omega), bnd_s, ec, gd_t (nI_in (by omega) (by decide)), nI_clamp (by omega), bnd_s, show cF (cfg sc) A (A 0 0) b = nI (wc (cfg sc) A b (A 0 0)) from rfl]
      by_cases c2 : wc (cfg sc) A b (A 0 0) < wc (cfg sc) A c (A 0 0)
      · rw [if_pos (show (nI b, wc (cfg sc) A b (A 0 0)).2 < wc (cfg sc) A c (A 0 0) from c2)] at ih
        rw [if_neg (nI_ge c2 (by omega)), gd_t hg20, bnd_s]
        exact ih
      · rw [if_neg (show ¬ (nI b, wc (cfg sc) A b (A 0 0)).2 < wc (cfg sc) A c (A 0 0) from c2)] at ih
        rw [if_pos (nI_le (by omega) (by omega))]
        exact ih
set_option maxRecDepth 20000 in
theorem h_85 (hL : sc.1 ≤ 260) (h : IV X (cfg sc) A) (hWS : ∀ k, k < A 0 0 → W k = nI (A 2 k) ∧ S k = nI (A 3 k)) : ∀ d k f, k + d = A 0 0 → d < f → f_L_holds_85 X sc W S (nI (A 0 0)) (nI (cfg sc 0 2)) f (kF A k) (oF (cfg sc) A k) (pF (cfg sc) A k) (wF (cfg sc) A k) (dF (cfg sc) A k) (cF (cfg sc) A k) (rF (cfg sc) A k) (nI (oL (cfg sc) A k).length) (nI (SR (A 2) 0 k)) (nI (SR (fun i => A 2 i * A 3 i) 0 k)) (nI k) = some 1 := by
  have hC := cfg_ok sc
  have hCb := hC.b
  have hbb := h.b
  intro d
  induction d with
  | zero =>
    intro k f hk hf
    obtain ⟨f, rfl⟩ := fuel hf
    have : k = A 0 0 := hk
    subst this
    have hlen := oL_len (C := cfg sc) (A := A) (A 0 0)
    have e407 : f_L_holds_407 X sc W S (nI (cfg sc 0 2)) (nI (oL (cfg sc) A (A 0 0)).length) 2000 (kF A (A 0 0)) (oF (cfg sc) A (A 0 0)) (pF (cfg sc) A (A 0 0)) (wF (cfg sc) A (A 0 0)) (dF (cfg sc) A (A 0 0)) (cF (cfg sc) A (A 0 0)) (rF (cfg sc) A (A 0 0)) (-1) 0 = some 1 := h_407 hL h (oL (cfg sc) A (A 0 0)).length 0 2000 (by omega) (by omega)
    have hle := SR_le (f := A 2) (B := 700) (A 0 0) 0 (fun i _ hi => by
      obtain ⟨⟨l1, l2, l3, l4, l5, l6⟩, -⟩ := h.l (k := i) (by omega)
      exact l3)
    unfold f_L_holds_85 f_X11_deliveredClasses f_X11_averageSugar
    rw [if_pos (nI_le (by omega) (by omega)), q_cpa hC h, bn1_s, bn1_s, if_pos rfl, q_tw hC h, bn1_s, q_ts hC h, bn1_s]
    by_cases c : A 0 0 = 0
    · rw [if_pos (show nI (A 0 0) = 0 from (nI_01 (by omega)).mpr c), if_pos (show nI (SR (A 2) 0 (A 0 0)) ≤ 0 by rw [c]; show nI 0 ≤ 0; decide), bn1_s, bn1_s, if_pos dl_00]
      exact e407
    · obtain ⟨⟨l1, l2, -⟩, -⟩ := h.l (k := 0) (by omega)
      have h1 := SR_one (f := A 2) (d := A 0 0) (i := 0) (by omega)
      have hne : ¬ nI (SR (A 2) 0 (A 0 0)) = 0 := nI_ne0 (by omega) (by omega)
      rw [if_neg (show ¬ nI (A 0 0) = 0 from nI_ne0 (by omega) (by omega)), if_neg (nI_nle (by omega) (by omega)), gd_t (show (FP.ddiv (FP.i2d (nI (SR (fun i => A 2 i * A 3 i) 0 (A 0 0)))) (FP.i2d (nI (SR (A 2) 0 (A 0 0))))) &&& 0x7fffffffffffffff ≤ 0x7ff0000000000000 from fl_64 _ hne), bn1_s, bn1_s, if_pos (fl_eq64 _ hne)]
      exact e407
  | succ d ih =>
    intro k f hk hf
    obtain ⟨f, rfl⟩ := fuel hf
    have hkn : k < A 0 0 := by omega
    have ih := ih (k + 1) f (by omega) (by omega)
    obtain ⟨⟨l1, l2, l3, l4, l5, l6⟩, ⟨x0, x1, x2, x3, x4, x5, x6⟩, ⟨x7, l7, x8, l8, l9⟩, l10, l11⟩ := h.l hkn
    have hp := hC.p l1
    obtain ⟨hW, hS⟩ := hWS k hkn
    have hcl : (nI k).toNatClampNeg = k := nI_clamp (by omega)
    have hcp : (nI (A 1 k)).toNatClampNeg = A 1 k := nI_clamp (by omega)
    have hco : (nI (cfg sc 2 (A 1 k))).toNatClampNeg = cfg sc 2 (A 1 k) := nI_clamp (by omega)
    have h21 : ¬ (nI k < 0 ∨ 21 ≤ k) := gin (by omega) (by omega)
    have h9 : ¬ (nI (A 1 k) < 0 ∨ 9 ≤ A 1 k) := gin (by omega) (by omega)
    have h5 : ¬ (nI (cfg sc 2 (A 1 k)) < 0 ∨ 5 ≤ cfg sc 2 (A 1 k)) := gin (by omega) (by omega)
    have hkl := SR_le (f := fun i => if A 1 i = A 1 k then A 2 i else 0) (B := 700) (k + 1) 0 (fun i _ hi => by
      obtain ⟨⟨l1, l2, l3, -⟩, -⟩ := h.l (k := i) (by omega)
      split <;> omega)
    have hkl : kil A (A 1 k) (k + 1) ≤ 14000 := by
      unfold kil
      omega
    have B1 : (gd (¬ (nI (A 1 k) < 0 ∨ 9 ≤ A 1 k)) (bnd (kF A (k + 1) (A 1 k)) fun x20 => bn1 (f_L_area sc (nI (A 1 k))) fun r15 => bn1 (f_L_yields sc) fun r16 => if x20 ≤ r15 * r16 then some (gr (cfg sc) (A 3 k)) else bn1 (f_L_grades sc) fun r17 => some (r17 - 1))) = some (nI (A 4 k)) := by
      rw [gd_t h9, bnd_s, L_area hL (by omega), bn1_s, L_yields hL, bn1_s, L_lim, L_grades hL, bn1_s, l10, show kF A (k + 1) (A 1 k) = nI (kil A (A 1 k) (k + 1)) from rfl]
      by_cases c1 : cfg sc 4 (A 1 k) < kil A (A 1 k) (k + 1)
      · rw [if_neg (nI_ge c1 (by omega)), if_pos c1, show (1 : Int32) = nI 1 from rfl, pk_sub (by omega)]
      · rw [if_pos (nI_le (by omega) (by omega)), if_neg c1]
    have B2 : (bn1 (f_X11_classOfLoad X (nI k)) fun r13 => if r13 = nI (A 4 k) then bn1 (f_X11_isLowered X (nI k)) fun r14 => if nI (A 4 k) = gr (cfg sc) (A 3 k) then (if r14 = 0 then some (.inr ()) else some (.inl 0)) else (if r14 = 1 then some (.inr ()) else some (.inl 0)) else some (.inl 0)) = (some (.inr ()) : Option (Sum Int32 Unit)) := by
      rw [a_cla h hkn, bn1_s, if_pos rfl, a_low hC h hkn, bn1_s]
      by_cases c1 : nI (A 4 k) = gr (cfg sc) (A 3 k)
      · rw [if_pos c1, if_pos c1, if_pos rfl]
      · rw [if_neg c1, if_neg c1, if_pos rfl]
    have B3 : (bn1 (f_X11_isPaid X (nI k)) fun r10 => if r10 = 0 then bn1 (f_X11_valueOf X (nI k)) fun r11 => gd (¬ (nI k < 0 ∨ 21 ≤ k)) (bnd (W k) fun x19 => bn1 (f_X11_price X (nI (cfg sc 3 (A 1 k))) (nI (A 4 k))) fun r12 => if r11 = x19 * r12 then some (.inr ()) else some (.inl 0)) else some (.inr ())) = (some (.inr ()) : Option (Sum Int32 Unit)) := by
      rw [a_pai h hkn, bn1_s]
      by_cases c1 : A 6 k = 0
      · rw [if_pos ((nI_01 (by omega)).mpr c1), a_val hC h hkn, bn1_s, gd_t h21, bnd_s, a_pri hC h hp.2.1 l5, bn1_s, hW, pk_mul, show va (cfg sc) A k = A 2 k * A 8 (cfg sc 3 (A 1 k) * 4 + A 4 k) from if_pos c1, if_pos rfl]
      · rw [if_neg (fun q => c1 ((nI_01 (by omega)).mp q))]
    have B4 : (bn1 (f_X11_isPaid X (nI k)) fun r7 => if r7 = 0 then gd (¬ (nI (cfg sc 2 (A 1 k)) < 0 ∨ 5 ≤ cfg sc 2 (A 1 k))) (bnd (oF (cfg sc) A k (cfg sc 2 (A 1 k))) fun x17 => bn1 (f_X11_valueOf X (nI k)) fun r8 => gd (¬ (nI (cfg sc 2 (A 1 k)) < 0 ∨ 5 ≤ cfg sc 2 (A 1 k))) (bnd (upd (oF (cfg sc) A k) (cfg sc 2 (A 1 k)) (x17 + r8)) fun y6 => some (pF (cfg sc) A k, y6))) else gd (¬ (nI (cfg sc 2 (A 1 k)) < 0 ∨ 5 ≤ cfg sc 2 (A 1 k))) (bnd (pF (cfg sc) A k (cfg sc 2 (A 1 k))) fun x18 => bn1 (f_X11_valueOf X (nI k)) fun r9 => gd (¬ (nI (cfg sc 2 (A 1 k)) < 0 ∨ 5 ≤ cfg sc 2 (A 1 k))) (bnd (upd (pF (cfg sc) A k) (cfg sc 2 (A 1 k)) (x18 + r9)) fun y7 => some (y7, oF (cfg sc) A k)))) = some (pF (cfg sc) A (k + 1), oF (cfg sc) A (k + 1)) := by
      rw [a_pai h hkn, bn1_s]
      by_cases c1 : A 6 k = 0
      · rw [if_pos ((nI_01 (by omega)).mpr c1), gd_t h5, bnd_s, a_val hC h hkn, bn1_s, gd_t h5, bnd_s, oF_1 c1, pF_0 (l9 c1)]
      · rw [if_neg (fun q => c1 ((nI_01 (by omega)).mp q)), gd_t h5, bnd_s, a_val hC h hkn, bn1_s, gd_t h5, bnd_s, pF_1 c1, oF_0 c1]
    have epq : 10 * nI (cfg sc 3 (A 1 k)) + nI (A 4 k) = nI (pq (cfg sc) A k) := by
      rw [show (10 : Int32) * nI (cfg sc 3 (A 1 k)) = nI (10 * cfg sc 3 (A 1 k)) from pk_mul 10 _, nI_add]
      rfl
    have hpq := pq_lt hC h hkn
    have hcq : (nI (pq (cfg sc) A k)).toNatClampNeg = pq (cfg sc) A k := nI_clamp (by omega)
    have h100 : ¬ (nI (pq (cfg sc) A k) < 0 ∨ 100 ≤ pq (cfg sc) A k) := gin (by omega) (by omega)
    have hlen := oL_len (C := cfg sc) (A := A) k
    have hcn : (nI (oL (cfg sc) A k).length).toNatClampNeg = (oL (cfg sc) A k).length := nI_clamp (by omega)
    have B5 : (bnd (nI (pq (cfg sc) A k)) fun x15 => gd (¬ (x15 < 0 ∨ 100 ≤ x15.toNatClampNeg)) (bnd (cF (cfg sc) A k x15.toNatClampNeg) fun x16 => if x16 = 0 then gd (¬ (nI (oL (cfg sc) A k).length < 0 ∨ 20 ≤ (oL (cfg sc) A k).length)) (bnd (upd (rF (cfg sc) A k) (oL (cfg sc) A k).length (nI (pq (cfg sc) A k))) fun y5 => some (y5, nI (oL (cfg sc) A k).length + 1)) else some (rF (cfg sc) A k, nI (oL (cfg sc) A k).length))) = some (rF (cfg sc) A (k + 1), nI (oL (cfg sc) A (k + 1)).length) := by
      rw [bnd_s, hcq, gd_t h100, bnd_s, show cF (cfg sc) A k (pq (cfg sc) A k) = nI (wc (cfg sc) A (pq (cfg sc) A k) k) from rfl]
      have hw := wc_pos h (k := k) (by omega) (pq (cfg sc) A k)
      by_cases c1 : pq (cfg sc) A k ∈ oL (cfg sc) A k
      · have h1 := hw.1 c1
        have h2 := SR_le (f := fun i => if pq (cfg sc) A i = pq (cfg sc) A k then A 2 i else 0) (B := 700) k 0 (fun i _ hi => by
          obtain ⟨⟨l1, l2, l3, -⟩, -⟩ := h.l (k := i) (by omega)
          split <;> omega)
        have h2 : wc (cfg sc) A (pq (cfg sc) A k) k ≤ 14000 := by
          unfold wc
          omega
        rw [if_neg (nI_ne0 (by omega) (by omega))]
        unfold rF
        rw [oL, if_pos c1]
      · rw [hw.2 c1, if_pos nI_0, gd_t (gin (by omega) (by omega)), bnd_s, rF_1 c1, nI_1, show oL (cfg sc) A (k + 1) = oL (cfg sc) A k ++ [pq (cfg sc) A k] from if_neg c1, List.length_append]
        rfl
    rw [SR_succ, SR_succ, ← nI_1 k] at ih
    unfold f_L_holds_85
    rw [if_neg (nI_ge hkn (by omega)), a_plo h hkn, bn1_s, L_wine hL l1, bn1_s, L_owner hL l1, bn1_s, hcl, gd_t h21, hS, bnd_s, L_grade hL (by omega), bn1_s, hcp, gd_t h9, bnd_s, gd_t h21, bnd_s]
    rw [gd_t h9, hW, kF_1, bnd_s, B1, bn1_s, B2, bn1_s, jn_r]
    rw [hW] at B3
    rw [B3, bn1_s, jn_r, hco, B4, bn1_s, gd_t h5, bnd_s, gd_t h21, bnd_s, gd_t h5, wF_1, bnd_s, gd_t h5, bnd_s, gd_t h5, dF_1 (by omega), bnd_s, epq, hcn, B5, bn1_s, bnd_s, hcq, gd_t h100, bnd_s, gd_t h21, bnd_s, gd_t h100, cF_1, bnd_s, gd_t h21, bnd_s, nI_add, bnd_s, gd_t h21, bnd_s, gd_t h21, bnd_s, pk_mul, nI_add, bnd_s]
    exact ih
set_option maxRecDepth 20000 in
theorem L_holds (hL : sc.1 ≤ 260) (h : IV X (cfg sc) A) (hWS : ∀ k, k < A 0 0 → W k = nI (A 2 k) ∧ S k = nI (A 3 k)) : f_L_holds X sc W S = some 1 := by
  have hC := cfg_ok sc
  have hCb := hC.b
  have hbb := h.b
  have hs := h.s.1
  have hd : ∀ x : Int32, x - x = 0 := fun x => Int32.sub_self x
  unfold f_L_holds f_X11_bottleDifference f_X11_cashDifference f_X11_cash f_X11_loadCount f_X11_growerCount
  rw [q_tw hC h, bn1_s, q_tc hC h, bn1_s, q_tb hC h, bn1_s, bn1_s, hs, pk_sub (Nat.le_add_right _ _), Nat.add_sub_cancel_left, hd, if_pos rfl, q_tp hC h, bn1_s, bn1_s, h.m.2, Int32.add_comm, Int32.add_sub_cancel, hd, if_pos rfl, bn1_s, h.m.1, if_pos (nI_pos' (by omega)), h.c.2.2.2.2.1, bn1_s, h.c.2.2.1, bn1_s]
  have e0 : ∀ f : Nat → Int32, (∀ j, f j = 0) → f = fun _ => 0 := fun f q => funext q
  have := h_85 hL h hWS (A 0 0) 0 2000 (by omega) (by omega)
  exact this
end HOLD2
