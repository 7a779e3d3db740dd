/-! PURE: an act of the script; the law's loop answers 1 -/
set_option maxRecDepth 20000 in
theorem bn2_id (o : Option (Int32 × XT)) : bn2 o (fun r X => some (r, X)) = o := by
  cases o with
  | none => rfl
  | some q => rfl
section ACT
variable {sc : Nat × (Nat → Int32)} {X : XT} {A : NF}
set_option maxRecDepth 20000 in
theorem L_weight (hL : sc.1 ≤ 260) {k : Nat} (hk : k ≤ 200) : f_L_weight sc (nI k) = some (nI (1 + dr sc (k + 2) 700)) := by
  unfold f_L_weight
  rw [show nI k + 2 = nI (k + 2) from nI_add k 2, show f_L_draw sc (nI (k + 2)) 700 = _ from draw_ok hL (k := k + 2) (n := 700) (by omega) (by decide) (by decide), bn1_s, nI_add1]
set_option maxRecDepth 20000 in
theorem L_sugar (hL : sc.1 ≤ 260) {k : Nat} (hk : k ≤ 200) : f_L_sugar sc (nI k) = some (nI (dr sc (k + 3) 190)) := by
  unfold f_L_sugar
  rw [show nI k + 3 = nI (k + 3) from nI_add k 3, show f_L_draw sc (nI (k + 3)) 190 = _ from draw_ok hL (k := k + 3) (n := 190) (by omega) (by decide) (by decide), bn1_s]
set_option maxRecDepth 20000 in
theorem s_act (hL : sc.1 ≤ 260) (h : IV X (cfg sc) A) (hH : HS X) {k : Nat} (hk : k ≤ 190) : STEP (cfg sc) A X (f_L_act X sc (nI k)) (1 + dr sc (k + 2) 700) (dr sc (k + 3) 190) := by
  have hC := cfg_ok sc
  have hCb := hC.b
  have hb := h.b
  obtain ⟨n, hn⟩ : ∃ n, n = dr sc (k + 1) 100000 := ⟨_, rfl⟩
  obtain ⟨m, hm⟩ : ∃ m, m = dr sc (k + 2) 100000 := ⟨_, rfl⟩
  obtain ⟨c, hc⟩ : ∃ c, c = dr sc k 20 := ⟨_, rfl⟩
  have hn1 : n < 100000 := by rw [hn]; exact dr_lt (by decide)
  have hm1 : m < 100000 := by rw [hm]; exact dr_lt (by decide)
  have hc1 : c < 20 := by rw [hc]; exact dr_lt (by decide)
  have hw1 := dr_lt (sc := sc) (k := k + 2) (n := 700) (by decide)
  have hs1 := dr_lt (sc := sc) (k := k + 3) (n := 190) (by decide)
  have rem : ∀ a d, a < 100000 → 0 < d → d < 100000 → nI a - nI a / nI d * nI d = nI (a % d) := fun a d h1 h2 h3 => pk_rem (by omega) h2 (by omega)
  unfold f_L_act
  rw [nI_1, show f_L_draw sc (nI (k + 1)) 100000 = _ from draw_ok hL (k := k + 1) (n := 100000) (by omega) (by decide) (by decide), bn1_s, ← hn, show nI k + 2 = nI (k + 2) from nI_add k 2, show f_L_draw sc (nI (k + 2)) 100000 = _ from draw_ok hL (k := k + 2) (n := 100000) (by omega) (by decide) (by decide), bn1_s, ← hm, L_tanks hL, bn1_s, show f_L_draw sc (nI k) 20 = _ from draw_ok hL (k := k) (n := 20) (by omega) (by decide) (by decide), bn1_s, ← hc]
  simp only [bn2_id]
  by_cases c9 : 9 ≤ c
  · rw [if_pos (show (9 : Int32) ≤ nI c from nI_le (a := 9) c9 (by omega))]
    by_cases e9 : c = 9
    · rw [if_pos (show nI c = 9 from congrArg nI e9)]
      unfold f_X11_varietyCount f_X11_classCount
      rw [h.c.2.1, bn1_s, h.c.1, bn1_s]
      by_cases v0 : cfg sc 0 1 = 0
      · rw [if_pos ((nI_01 (by omega)).mpr v0)]
        exact Or.inl rfl
      · have hv0 : ¬ nI (cfg sc 0 1) = 0 := fun q => v0 ((nI_01 (by omega)).mp q)
        rw [if_neg hv0, bn1_s, gd_t hv0, gd_t (nI_ne0 (by omega) (by omega)), rem n _ hn1 (by omega) (by omega), rem m _ hm1 (by omega) (by omega), show nI n - nI n / 40 * 40 = nI (n % 40) from rem n 40 hn1 (by decide) (by decide)]
        exact s_pri hC h hH (Nat.mod_lt _ (by omega)) (Nat.mod_lt _ (by omega)) (by have := Nat.mod_lt n (show 0 < 40 by decide); omega) _ _
    · rw [if_neg (show ¬ nI c = 9 from fun q => e9 ((nI_eq (b := 9) (by omega) (by decide)).mp q))]
      by_cases c13 : 13 ≤ c
      · rw [if_pos (show (13 : Int32) ≤ nI c from nI_le (a := 13) c13 (by omega))]
        by_cases c15 : 15 ≤ c
        · rw [if_pos (show (15 : Int32) ≤ nI c from nI_le (a := 15) c15 (by omega))]
          by_cases e15 : c = 15
          · rw [if_pos (show nI c = 15 from congrArg nI e15)]
            unfold f_X11_loadCount
            rw [h.c.2.2.2.2.1, bn1_s]
            by_cases v0 : A 0 0 = 0
            · rw [if_pos ((nI_01 (by omega)).mpr v0)]
              exact Or.inl rfl
            · have hv0 : ¬ nI (A 0 0) = 0 := fun q => v0 ((nI_01 (by omega)).mp q)
              rw [if_neg hv0, bn1_s, gd_t hv0, rem n _ hn1 (by omega) (by omega)]
              exact s_pay hC h hH (Nat.mod_lt _ (by omega)) _ _
          · rw [if_neg (show ¬ nI c = 15 from fun q => e15 ((nI_eq (b := 15) (by omega) (by decide)).mp q))]
            by_cases c18 : 18 ≤ c
            · rw [if_pos (show (18 : Int32) ≤ nI c from nI_le (a := 18) c18 (by omega))]
              by_cases t2 : 2 ≤ cfg sc 0 4
              · have ht0 : ¬ nI (cfg sc 0 4) = 0 := nI_ne0 (by omega) (by omega)
                have ep : nI (cfg sc 0 4) - 1 = nI (cfg sc 0 4 - 1) := pk_sub (b := 1) (by omega)
                rw [if_pos (show (2 : Int32) ≤ nI (cfg sc 0 4) from nI_le (a := 2) t2 (by omega)), gd_t ht0, gd_t ht0, ep, gd_t (nI_ne0 (by omega) (by omega)), gd_t ht0, rem n _ hn1 (by omega) (by omega), rem m _ hm1 (by omega) (by omega), nI_1, nI_add, rem _ _ (by have := Nat.mod_lt n (show 0 < cfg sc 0 4 by omega); have := Nat.mod_lt m (show 0 < cfg sc 0 4 - 1 by omega); omega) (by omega) (by omega)]
                refine s_pum hC h hH (Nat.mod_lt _ (by omega)) (Nat.mod_lt _ (by omega)) ?_ _ _
                have a1 := Nat.mod_lt n (show 0 < cfg sc 0 4 by omega)
                have a2 := Nat.mod_lt m (show 0 < cfg sc 0 4 - 1 by omega)
                generalize n % cfg sc 0 4 = x at a1 ⊢
                generalize m % (cfg sc 0 4 - 1) = y at a2 ⊢
                intro e
                by_cases z : x + 1 + y < cfg sc 0 4
                · rw [Nat.mod_eq_of_lt z] at e
                  omega
                · rw [Nat.mod_eq_sub_mod (by omega), Nat.mod_eq_of_lt (by omega)] at e
                  omega
              · rw [if_neg (show ¬ (2 : Int32) ≤ nI (cfg sc 0 4) from nI_ge (b := 2) (by omega) (by decide))]
                exact Or.inl rfl
            · rw [if_neg (show ¬ (18 : Int32) ≤ nI c from nI_ge (b := 18) (by omega) (by decide))]
              unfold f_X11_growerCount
              rw [h.c.2.2.1, bn1_s]
              by_cases v0 : cfg sc 0 2 = 0
              · rw [if_pos ((nI_01 (by omega)).mpr v0)]
                exact Or.inl rfl
              · have hv0 : ¬ nI (cfg sc 0 2) = 0 := fun q => v0 ((nI_01 (by omega)).mp q)
                rw [if_neg hv0, bn1_s, gd_t hv0, rem n _ hn1 (by omega) (by omega)]
                exact s_set hC h hH (Nat.mod_lt _ (by omega)) _ _
        · rw [if_neg (show ¬ (15 : Int32) ≤ nI c from nI_ge (b := 15) (by omega) (by decide))]
          unfold f_X11_lotCount
          rw [h.c.2.2.2.2.2.2, bn1_s]
          by_cases v0 : A 0 1 = 0
          · rw [if_pos ((nI_01 (by omega)).mpr v0)]
            exact Or.inl rfl
          · have hv0 : ¬ nI (A 0 1) = 0 := fun q => v0 ((nI_01 (by omega)).mp q)
            rw [if_neg hv0, bn1_s, gd_t hv0, rem n _ hn1 (by omega) (by omega), show nI m - nI m / 90 * 90 = nI (m % 90) from rem m 90 hm1 (by decide) (by decide), show nI n - nI n / 300 * 300 = nI (n % 300) from rem n 300 hn1 (by decide) (by decide), nI_add1, nI_add1]
            have a1 := Nat.mod_lt m (show 0 < 90 by decide)
            have a2 := Nat.mod_lt n (show 0 < 300 by decide)
            exact s_sel hC h hH (Nat.mod_lt _ (by omega)) (by omega) (by omega) (by omega) (by omega) _ _
      · rw [if_neg (show ¬ (13 : Int32) ≤ nI c from nI_ge (b := 13) (by omega) (by decide))]
        by_cases v0 : cfg sc 0 4 = 0
        · rw [if_pos ((nI_01 (by omega)).mpr v0)]
          exact Or.inl rfl
        · have hv0 : ¬ nI (cfg sc 0 4) = 0 := fun q => v0 ((nI_01 (by omega)).mp q)
          rw [if_neg hv0, gd_t hv0, rem n _ hn1 (by omega) (by omega), show nI m - nI m / 400 * 400 = nI (m % 400) from rem m 400 hm1 (by decide) (by decide), nI_add1]
          have a1 := Nat.mod_lt m (show 0 < 400 by decide)
          exact s_bot hC h hH (Nat.mod_lt _ (by omega)) (by omega) (by omega) _ _
  · rw [if_neg (show ¬ (9 : Int32) ≤ nI c from nI_ge (b := 9) (by omega) (by decide))]
    unfold f_X11_plotCount
    rw [h.c.2.2.2.1, bn1_s]
    by_cases v0 : cfg sc 0 3 = 0
    · rw [if_pos ((nI_01 (by omega)).mpr v0)]
      exact Or.inl rfl
    · have hv0 : ¬ nI (cfg sc 0 3) = 0 := fun q => v0 ((nI_01 (by omega)).mp q)
      rw [if_neg hv0, bn1_s, gd_t hv0, rem n _ hn1 (by omega) (by omega), L_weight hL (by omega), bn1_s, L_sugar hL (by omega), bn1_s]
      exact s_del hC h hH (Nat.mod_lt _ (by omega)) (by omega) (by omega) (by omega)
set_option maxRecDepth 20000 in
theorem lg_00 (x : Int64) : lg_cmp x x = 0 := by
  unfold lg_cmp
  simp
set_option maxRecDepth 20000 in
theorem l_129 (hL : sc.1 ≤ 260) {X' : XT} {A' : NF} {W S : Nat → Int32} {k : Nat} (hk : k ≤ 190) (h : IV X (cfg sc) A) (h' : IV X' (cfg sc) A') (hWS : ∀ j, j < A' 0 0 → W j = nI (A' 2 j) ∧ S j = nI (A' 3 j)) (hN : NT X X') {nx : XT → Option Int32} (n1 : ∀ X3, IV X3 (cfg sc) A → HS X3 → nx X3 = some 1) (n2 : nx X' = some 1) : f_L_law_129 sc X' W S (nI k) (aA (cfg sc) A) nx = some 1 := by
  have hC := cfg_ok sc
  obtain ⟨r, X3, e3, r0, hH3, hq⟩ := undo_ (fun i hi => h.f hi) hN
  have h3 := h.eq hC hq
  have hd := dr_lt (sc := sc) (k := k + 1) (n := 4) (by decide)
  unfold f_L_law_129
  rw [L_holds hL h' hWS, bn1_s, if_neg (by decide), nI_1, show f_L_draw sc (nI (k + 1)) 4 = _ from draw_ok hL (k := k + 1) (n := 4) (by omega) (by decide) (by decide), bn1_s, e3, bn2_s, if_neg r0, L_tanks hL, bn1_s, L_all hC h3, bn1_s, lg_00, if_pos rfl, n1 X3 h3 hH3, n2]
  split <;> rfl
set_option maxRecDepth 20000 in
theorem loop_ok (hL : sc.1 ≤ 260) : ∀ d k (X : XT) (A : NF) (W S : Nat → Int32), 187 ≤ k + 4 * d → k ≤ 190 → IV X (cfg sc) A → HS X → (∀ j, j < A 0 0 → W j = nI (A 2 j) ∧ S j = nI (A 3 j)) → f_L_law_42 sc (d + 1) X W S (nI k) = some 1 := by
  have hC := cfg_ok sc
  intro d
  induction d with
  | zero =>
    intro k X A W S h1 h2 h hH hWS
    rw [f_L_law_42, show nI k + 3 = nI (k + 3) from nI_add k 3, if_pos (show (190 : Int32) ≤ nI (k + 3) from nI_le (a := 190) (by omega) (by omega))]
  | succ d ih =>
    intro k X A W S h1 h2 h hH hWS
    have hb := h.b
    rw [f_L_law_42, show nI k + 3 = nI (k + 3) from nI_add k 3]
    by_cases c : 187 ≤ k
    · rw [if_pos (show (190 : Int32) ≤ nI (k + 3) from nI_le (a := 190) (by omega) (by omega))]
    · have e4 : nI k + 4 = nI (k + 4) := nI_add k 4
      have ih := fun X A W S => ih (k + 4) X A W S (by omega) (by omega)
      rw [if_neg (show ¬ (190 : Int32) ≤ nI (k + 3) from nI_ge (b := 190) (by omega) (by decide)), L_tanks hL, bn1_s, L_all hC h, bn1_s, e4]
      rw [show f_X11_loadCount X = some (nI (A 0 0)) from congrArg some h.c.2.2.2.2.1, bn1_s]
      rcases s_act hL h hH (k := k) h2 with e | ⟨r, X', A', e, hr, hN, h', hsame, hnew⟩
      · rw [e, bn2_s, if_pos rfl, bn1_s, L_all hC h, bn1_s, lg_00, if_pos rfl]
        exact ih X A W S h hH hWS
      · have hb' := h'.b
        rw [e, bn2_s, if_neg hr, show f_X11_loadCount X' = some (nI (A' 0 0)) from congrArg some h'.c.2.2.2.2.1, bn1_s]
        rcases hnew with hnew | ⟨hnew, hw, hs⟩
        · rw [if_pos (by rw [hnew]; exact nI_le (Nat.le_refl _) (by omega))]
          have hWS' : ∀ j, j < A' 0 0 → W j = nI (A' 2 j) ∧ S j = nI (A' 3 j) := fun j hj => by
            rw [(hsame j (by omega)).1, (hsame j (by omega)).2]
            exact hWS j (by omega)
          exact l_129 hL h2 h h' hWS' hN (fun X3 h3 hH3 => ih X3 A W S h3 hH3 hWS) (ih X' A' W S h' hN.hs hWS')
        · have hcl : (nI (A 0 0)).toNatClampNeg = A 0 0 := nI_clamp (by omega)
          have hg : ¬ (nI (A 0 0) < 0 ∨ 21 ≤ (nI (A 0 0)).toNatClampNeg) := nI_in (by omega) (by decide)
          rw [if_neg (by rw [hnew]; exact nI_ge (by omega) (by omega)), L_weight hL (by omega), bn1_s, gd_t hg, hcl, bnd_s, L_sugar hL (by omega), bn1_s, gd_t (gin (by omega) (by omega)), bnd_s]
          have hWS' : ∀ j, j < A' 0 0 → upd W (A 0 0) (nI (1 + dr sc (k + 2) 700)) j = nI (A' 2 j) ∧ upd S (A 0 0) (nI (dr sc (k + 3) 190)) j = nI (A' 3 j) := fun j hj => by
            by_cases q : j = A 0 0
            · subst q
              rw [pk_us, pk_us, hw, hs]
              exact ⟨rfl, rfl⟩
            · rw [pk_un q, pk_un q, (hsame j (by omega)).1, (hsame j (by omega)).2]
              exact hWS j (by omega)
          have hWS2 : ∀ j, j < A 0 0 → upd W (A 0 0) (nI (1 + dr sc (k + 2) 700)) j = nI (A 2 j) ∧ upd S (A 0 0) (nI (dr sc (k + 3) 190)) j = nI (A 3 j) := fun j hj => by
            rw [pk_un (by omega), pk_un (by omega)]
            exact hWS j hj
          exact l_129 hL h2 h h' hWS' hN (fun X3 h3 hH3 => ih X3 A _ _ h3 hH3 hWS2) (ih X' A' _ _ h' hN.hs hWS')
end ACT
