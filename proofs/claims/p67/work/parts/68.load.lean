/-! PURE: the law's load answers 1, and the books are as the script tells -/
def vnm (v : Nat) : Int32 := namL (vw v)
def gnm (g : Nat) : Int32 := namL (gwd g)
set_option maxRecDepth 20000 in
theorem nm_v : ∀ v, v < 3 → (vw v ≠ [] ∧ (∀ x ∈ vw v, kb x = 2) ∧ (vw v).length ≤ 4 ∧ vnm v ≠ 0) ∧ ∀ i, i < v → vnm i ≠ vnm v := by decide +kernel
set_option maxRecDepth 20000 in
theorem nm_g : ∀ g, g < 4 → (gwd g ≠ [] ∧ (∀ x ∈ gwd g, kb x = 2) ∧ (gwd g).length ≤ 4 ∧ gnm g ≠ 0) ∧ ∀ i, i < g → gnm i ≠ gnm g := by decide +kernel
set_option maxRecDepth 20000 in
theorem nm_vg : ∀ v, v < 3 → ∀ g, g < 4 → vnm v ≠ gnm g := by decide +kernel
set_option maxRecDepth 20000 in
theorem to_cfg (sc : Nat × (Nat → Int32)) : TO (cfg sc) vnm gnm := by
  have hC := cfg_ok sc
  have hb := hC.b
  obtain ⟨n1, n5, n6, n7, n8, n9⟩ := cfg_n sc
  have n9' : 1 ≤ cfg sc 0 6 := by
    show 1 ≤ 1 + dr sc 0 60
    omega
  refine ⟨⟨hb.1, hb.2.1, hb.2.2.1, hb.2.2.2.1, hb.2.2.2.2.1, hb.2.2.2.2.2, by omega, n9', by omega⟩, fun k hk => ⟨hC.k hk, fun q => ?_⟩, fun v hv => ?_, fun g hg => ?_, fun v hv => (nm_v v hv).2, fun g hg => (nm_g g hg).2, fun v hv g hg => nm_vg v hv g hg, fun q => ?_, fun p hp => ?_, fun t ht => ?_⟩
  · have h1 := dr_lt (sc := sc) (k := 6 + k) (n := 30) (by decide)
    have h2 := dr_lt (sc := sc) (k := 6 + (k - 1)) (n := 30) (by decide)
    show 140 - 35 * k - dr sc (6 + k) 30 < 140 - 35 * (k - 1) - dr sc (6 + (k - 1)) 30
    omega
  · obtain ⟨⟨a, b, c, d⟩, -⟩ := nm_v v hv
    exact ⟨⟨a, Or.inl rfl, b⟩, c, rfl, d⟩
  · obtain ⟨⟨a, b, c, d⟩, -⟩ := nm_g g hg
    exact ⟨⟨a, Or.inl rfl, b⟩, c, rfl, d⟩
  · have := dr_lt (sc := sc) (k := 10 + q) (n := 30) (by decide)
    show dr sc (10 + q) 30 ≤ 999
    omega
  · have hp' := hC.p hp
    have := dr_lt (sc := sc) (k := 26 + 3 * p) (n := 40) (by decide)
    refine ⟨hp'.1, hp'.2.1, ?_, ?_, rfl⟩
    · show 1 ≤ 1 + dr sc (26 + 3 * p) 40
      omega
    · show 1 + dr sc (26 + 3 * p) 40 ≤ 99
      omega
  · have := hC.t ht
    refine ⟨?_, by omega⟩
    show 1 ≤ 1 + dr sc (43 + t) 3000
    omega
set_option maxRecDepth 20000 in
theorem note2_ {X : XT} (hH : HS X) (hb : ∀ i, i < 20 → X 22 1 i 7 = 0 ∨ X 22 1 i 7 = 1) : ∃ X1, f_X4_note X 1 = some X1 ∧ (∀ k i f, k ≠ 4 → X1 k 0 i f = X k 0 i f) ∧ HS X1 := by
  obtain ⟨nx, cn, n1, n2, n3, n4⟩ := hH
  obtain ⟨Z, eZ, cZ⟩ := cp_X0 (X := X) (j := 2 + nx) (j1 := 1) (by omega) hb
  unfold f_X4_note
  have z1 : Z 4 0 0 1 = nI nx := by rw [cZ.2 4 0 0 1 (Or.inl (by omega))]; exact n3
  have z2 : Z 4 0 0 2 = nI cn := by rw [cZ.2 4 0 0 2 (Or.inl (by omega))]; exact n4
  refine ⟨_, by rw [n3, gd_t (nI_in (by omega) (by decide)), nI_clamp (by omega), eZ, bn1_s, bnd_s, bnd_s], ?_, ?_⟩
  · intro k i f q
    rw [xs_o (by omega), xs_o (by omega)]
    exact cZ.2 k 0 i f (Or.inl (by omega))
  · refine ⟨(nx + 1) % 6, (if cn = 6 then 6 else cn + 1), by omega, by split <;> omega, ?_, ?_⟩
    · rw [xs_o (by omega), xs_i, z1, next6 nx n1]
    · rw [xs_i, xs_o (by omega), z2, cap6 cn n2]
/-- nothing is delivered yet -/
def A0 (sc : Nat × (Nat → Int32)) : NF := fun i k => match i with
  | 0 => if k = 2 then cfg sc 0 5 else 0
  | 8 => cfg sc 7 k
  | _ => 0
set_option maxRecDepth 20000 in
theorem SR_z {f : Nat → Nat} (h : ∀ i, f i = 0) (d k : Nat) : SR f k d = 0 := by
  have := SR_le (f := f) (B := 0) d k (fun i _ _ => by rw [h i]; exact Nat.le_refl _)
  omega
section LOAD
variable {sc : Nat × (Nat → Int32)} {X : XT}
set_option maxRecDepth 20000 in
theorem l_585 (hL : sc.1 ≤ 260) (h : IV X (cfg sc) (A0 sc)) : ∀ d s f, s ≤ 257 → 251 ≤ s + 7 * d → d < f → f_L_load_585 sc f X (nI s) = some (1, X) := by
  have hC := cfg_ok sc
  intro d
  induction d with
  | zero =>
    intro s f h1 h2 hf
    obtain ⟨f, rfl⟩ := fuel hf
    rw [f_L_load_585, if_pos (show (251 : Int32) ≤ nI s from nI_le (a := 251) (by omega) (by omega))]
  | succ d ih =>
    intro s f h1 h2 hf
    obtain ⟨f, rfl⟩ := fuel hf
    rw [f_L_load_585]
    by_cases c : 251 ≤ s
    · rw [if_pos (show (251 : Int32) ≤ nI s from nI_le (a := 251) (by omega) (by omega))]
    · unfold f_X11_classBySugar
      rw [if_neg (show ¬ (251 : Int32) ≤ nI s from nI_ge (b := 251) (by omega) (by decide)), n_sug (by omega), bn1_s, q_gr hC h (by omega), bn1_s, bn1_s, L_grade hL (by omega), bn1_s, if_pos rfl, show nI s + 7 = nI (s + 7) from nI_add s 7]
      exact ih (s + 7) f (by omega) (by omega) (by omega)
set_option maxRecDepth 20000 in
theorem l_542 (hL : sc.1 ≤ 260) (h : IV X (cfg sc) (A0 sc)) : ∀ d t f, t + d = cfg sc 0 4 → d < f → f_L_load_542 sc f X (nI t) = some (1, X) := by
  have hC := cfg_ok sc
  have hb := hC.b
  intro d
  induction d with
  | zero =>
    intro t f h1 hf
    obtain ⟨f, rfl⟩ := fuel hf
    rw [f_L_load_542, L_tanks hL, bn1_s, if_pos (nI_le (by omega) (by omega))]
    exact l_585 hL h 36 0 2000 (by decide) (by decide) (by decide)
  | succ d ih =>
    intro t f h1 hf
    obtain ⟨f, rfl⟩ := fuel hf
    have ht : t < cfg sc 0 4 := by omega
    rw [f_L_load_542, L_tanks hL, bn1_s, if_neg (nI_ge ht (by omega)), a_con hC h ht, bn1_s, if_pos (show nI (A0 sc 9 t) = 0 from rfl), a_vin hC h ht, bn1_s, if_pos (show A0 sc 9 t = 0 from rfl), if_pos rfl, a_mea hC h ht, bn1_s, if_pos (show nI (A0 sc 11 t / A0 sc 9 t) = 0 by show nI (0 / 0) = 0; decide), nI_1]
    exact ih (t + 1) f (by omega) (by omega)
set_option maxRecDepth 20000 in
theorem l_498 (hL : sc.1 ≤ 260) (h : IV X (cfg sc) (A0 sc)) : ∀ d p f, p + d = cfg sc 0 3 → d < f → f_L_load_498 sc f X (nI p) = some (1, X) := by
  have hC := cfg_ok sc
  have hb := hC.b
  intro d
  induction d with
  | zero =>
    intro t f h1 hf
    obtain ⟨f, rfl⟩ := fuel hf
    rw [f_L_load_498, L_plots hL, bn1_s, if_pos (nI_le (by omega) (by omega))]
    exact l_542 hL h (cfg sc 0 4) 0 2000 (by omega) (by omega)
  | succ d ih =>
    intro p f h1 hf
    obtain ⟨f, rfl⟩ := fuel hf
    have hp : p < cfg sc 0 3 := by omega
    rw [f_L_load_498, L_plots hL, bn1_s, if_neg (nI_ge hp (by omega)), a_lim hC h hp, bn1_s, L_area hL (by omega), bn1_s, L_yields hL, bn1_s, L_lim, if_pos rfl, a_har hC h hp, bn1_s, if_pos (show nI (kil (A0 sc) p (A0 sc 0 0)) = 0 from rfl), nI_1]
    exact ih (p + 1) f (by omega) (by omega)
set_option maxRecDepth 20000 in
theorem l_456 (hL : sc.1 ≤ 260) (h : IV X (cfg sc) (A0 sc)) {v : Nat} (hv : v < cfg sc 0 1) : ∀ d g f, g + d = cfg sc 0 0 → d < f → f_L_load_456 X sc (nI v) f (nI g) = some (.inr ()) := by
  have hC := cfg_ok sc
  have hb := hC.b
  intro d
  induction d with
  | zero =>
    intro g f h1 hf
    obtain ⟨f, rfl⟩ := fuel hf
    rw [f_L_load_456, L_grades hL, bn1_s, if_pos (nI_le (by omega) (by omega))]
  | succ d ih =>
    intro g f h1 hf
    obtain ⟨f, rfl⟩ := fuel hf
    rw [f_L_load_456, L_grades hL, bn1_s, if_neg (nI_ge (by omega) (by omega)), a_pri hC h hv (by omega), bn1_s, L_cents hL (by omega) (by omega), bn1_s, if_pos (show nI (A0 sc 8 (v * 4 + g)) = nI (cfg sc 7 (v * 4 + g)) from rfl), nI_1]
    exact ih (g + 1) f (by omega) (by omega)
set_option maxRecDepth 20000 in
theorem l_445 (hL : sc.1 ≤ 260) (h : IV X (cfg sc) (A0 sc)) : ∀ d v f, v + d = cfg sc 0 1 → d < f → f_L_load_445 sc f X (nI v) = some (1, X) := by
  have hC := cfg_ok sc
  have hb := hC.b
  intro d
  induction d with
  | zero =>
    intro t f h1 hf
    obtain ⟨f, rfl⟩ := fuel hf
    rw [f_L_load_445, L_wines hL, bn1_s, if_pos (nI_le (by omega) (by omega))]
    exact l_498 hL h (cfg sc 0 3) 0 2000 (by omega) (by omega)
  | succ d ih =>
    intro v f h1 hf
    obtain ⟨f, rfl⟩ := fuel hf
    rw [f_L_load_445, L_wines hL, bn1_s, if_neg (nI_ge (by omega) (by omega)), show f_L_load_456 X sc (nI v) 2000 0 = _ from l_456 hL h (v := v) (by omega) (cfg sc 0 0) 0 2000 (by omega) (by omega), bn1_s, jn_r, nI_1]
    exact ih (v + 1) f (by omega) (by omega)
set_option maxRecDepth 20000 in
theorem L_load (hL : sc.1 ≤ 260) (hH : HS X) (hlen : X 2 0 0 1 = 0) (f0 : ∀ i, i < 20 → X 22 0 i 7 = 0 ∨ X 22 0 i 7 = 1) (f1 : ∀ i, i < 20 → X 22 1 i 7 = 0 ∨ X 22 1 i 7 = 1) : ∃ X2, f_L_load X sc = some (1, X2) ∧ IV X2 (cfg sc) (A0 sc) ∧ HS X2 := by
  have hC := cfg_ok sc
  have hCb := hC.b
  obtain ⟨hF, hO⟩ := fT_ok sc
  obtain ⟨n1, n5, n6, n7, n8, n9⟩ := cfg_n sc
  have hpos : 0 < (fT (cfg sc)).length := by
    unfold fT
    rw [List.length_append, len0.1]
    omega
  obtain ⟨X1, e1, bx, g1⟩ := L_feed (X := X) hO hpos hF hlen
  obtain ⟨X', e2, dv, fo⟩ := read_ (X := X1) (to_cfg sc) bx rfl (fun i hi => by rw [g1 22 0 i 7 (by decide) (Or.inl (by decide))]; exact f0 i hi)
  obtain ⟨Y, hY⟩ : ∃ Y, Y = xs X' 2 0 0 1 0 := ⟨_, rfl⟩
  rw [← hY] at e2
  have gY : ∀ k j i f, k ≠ 2 → Y k j i f = X' k j i f := fun k j i f q => by rw [hY, xs_o (by omega)]
  obtain ⟨o1, o2, o3, o4⟩ := fo
  have gX : ∀ k j i f, k ≠ 1 → k ≠ 2 → k ≠ 3 → (j ≠ 0 ∨ k < 10) → Y k j i f = X k j i f := fun k j i f a b c d => by
    rw [gY k j i f b, o1 k j i f a b c d, xs_o (by omega), xs_o (by omega), g1 k j i f c (Or.inl b)]
  have hHY : HS Y := by
    obtain ⟨nx, cn, a, b, c, d⟩ := hH
    exact ⟨nx, cn, a, b, by rw [gX 4 0 0 1 (by decide) (by decide) (by decide) (Or.inr (by decide))]; exact c, by rw [gX 4 0 0 2 (by decide) (by decide) (by decide) (Or.inr (by decide))]; exact d⟩
  obtain ⟨X2, e3, g2, hH2⟩ := note2_ hHY (fun i hi => by rw [gX 22 1 i 7 (by decide) (by decide) (by decide) (Or.inl (by decide))]; exact f1 i hi)
  have g20 : ∀ k i f, k ≠ 4 → k ≠ 2 → X2 k 0 i f = X' k 0 i f := fun k i f a b => by rw [g2 k i f a, gY k 0 i f b]
  obtain ⟨X3, e4, cp⟩ := cp_X0 (X := X2) (j := 1) (j1 := 0) (by decide) (fun i hi => by rw [g20 22 i 7 (by decide) (by decide)]; exact o2 i hi)
  have gb : ∀ k i f, inB k i f → X3 k 1 i f = X' k 0 i f := fun k i f q => by
    rw [cp.1 k i f q]
    exact g20 k i f (by rintro rfl; exact q) (by rintro rfl; exact q)
  obtain ⟨b, c, m, c1, c2, c3, c4, c5, c6⟩ := dv
  have hIV : IV X3 (cfg sc) (A0 sc) := by
    refine ⟨⟨Nat.zero_le _, Nat.zero_le _, ?_⟩, ?_, ⟨?_, ?_⟩, fun k hk => ?_, fun v hv g hg => ?_, fun p hp => ?_, fun k hk => absurd hk (Nat.not_lt_zero _), fun t ht => ?_, fun k hk => absurd hk (Nat.not_lt_zero _), ⟨?_, ?_⟩, fun k hk => ?_⟩
    · show cfg sc 0 5 ≤ 1000000000
      omega
    · rw [gb 11 0 3 (by show _ ∧ _; omega), gb 11 0 4 (by show _ ∧ _; omega), gb 15 0 4 (by show _ ∧ _; omega), gb 15 0 5 (by show _ ∧ _; omega), gb 20 0 1 (by show _ ∧ _; omega), gb 23 0 2 (by show _ ∧ _; omega), gb 23 0 3 (by show _ ∧ _; omega)]
      exact ⟨c.1, c.2.1, c.2.2.1, c.2.2.2.1, c.2.2.2.2.1, c.2.2.2.2.2.1, c.2.2.2.2.2.2⟩
    · rw [gb 10 0 6 (by show _ ∧ _; omega)]
      exact m.2.2.1
    · rw [gb 10 0 4 (by show _ ∧ _; omega), gb 10 0 5 (by show _ ∧ _; omega), gb 10 0 6 (by show _ ∧ _; omega), m.1, m.2.1, m.2.2.1, Int32.add_zero, show SR (A0 sc 7) 0 (A0 sc 0 0) = 0 from rfl, nI_add, Nat.zero_add]
    · rw [gb 12 0 k (by show _ ∧ _; omega)]
      exact c1 k hk
    · rw [gb 14 0 (v * 4 + g) (by show _ ∧ _; omega), c4 v hv g hg]
      have : prU (cfg sc) (cfg sc 0 1) 0 (v * 4 + g) = cfg sc 7 (v * 4 + g) := if_pos (by omega)
      rw [this]
      refine ⟨rfl, ?_⟩
      have := dr_lt (sc := sc) (k := 10 + (v * 4 + g)) (n := 30) (by decide)
      show dr sc (10 + (v * 4 + g)) 30 ≤ 39
      omega
    · rw [gb 17 0 p (by show _ ∧ _; omega), gb 18 0 p (by show _ ∧ _; omega), gb 19 0 p (by show _ ∧ _; omega)]
      exact c5 p hp
    · obtain ⟨t0, t1, t2, t3⟩ := c6 t ht
      unfold TV
      rw [gb 26 t 0 (by show _ ∧ _; omega), gb 26 t 1 (by show _ ∧ _; omega), gb 26 t 2 (by show _ ∧ _; omega), gb 26 t 3 (by show _ ∧ _; omega)]
      exact ⟨Nat.zero_le _, t0, t1, t2, t3, fun q => absurd q (Nat.lt_irrefl _), fun _ => rfl⟩
    · show 0 = SR (A0 sc 9) 0 (cfg sc 0 4) + 0
      rw [SR_z (f := A0 sc 9) (fun i => rfl)]
    · rw [SR_z (f := A0 sc 11) (fun i => rfl)]
      exact Nat.zero_le _
    · rw [gb 22 k 7 (by show _ ∧ _; omega)]
      exact o2 k hk
  have hH3 : HS X3 := by
    obtain ⟨nx, cn, a, b, c, d⟩ := hH2
    exact ⟨nx, cn, a, b, by rw [cp.2 4 0 0 1 (Or.inl (by decide))]; exact c, by rw [cp.2 4 0 0 2 (Or.inl (by decide))]; exact d⟩
  refine ⟨X3, ?_, hIV, hH3⟩
  have r0 : X3 20 1 0 1 = 0 := hIV.c.2.2.2.2.1
  have r3 : X3 1 0 0 3 = 0 := by rw [cp.2 1 0 0 3 (Or.inl (by decide)), g20 1 0 3 (by decide) (by decide)]; exact o3
  have r4 : X3 1 0 0 4 = -1 := by rw [cp.2 1 0 0 4 (Or.inl (by decide)), g20 1 0 4 (by decide) (by decide)]; exact o4
  have eld : f_X11_load X1 = some (0, X3) := by
    unfold f_X11_load
    rw [e2, bn2_s, if_neg (by decide), e3, bn1_s, e4, bn1_s, r0]
  have hIc := hIV.c
  rw [L_load0 hL, f_L_load_308, L_tanks hL, bn1_s, if_pos (nI_le (Nat.le_refl _) (by omega)), gd_t ⟨by omega, hO⟩, e1, bn1_s, eld, bn2_s, if_pos rfl]
  unfold f_X11_errorCode f_X11_errorOffset f_X11_varietyCount f_X11_classCount f_X11_growerCount f_X11_plotCount f_X11_loadCount f_X11_lotCount f_X11_cash
  rw [r3, bn1_s, if_pos rfl, r4, bn1_s, if_pos rfl, hIc.2.1, bn1_s, L_wines hL, bn1_s, if_pos rfl, hIc.1, bn1_s, L_grades hL, bn1_s, if_pos rfl, hIc.2.2.1, bn1_s, L_growers hL, bn1_s, if_pos rfl, hIc.2.2.2.1, bn1_s, L_plots hL, bn1_s, if_pos rfl, r0, bn1_s, if_pos rfl, hIc.2.2.2.2.2.2, bn1_s, if_pos (show nI (A0 sc 0 1) = 0 from rfl), hIV.m.1, bn1_s, L_money hL, bn1_s, if_pos (show nI (A0 sc 0 2) = nI (cfg sc 0 5) from rfl)]
  exact l_445 hL hIV (cfg sc 0 1) 0 2000 (by omega) (by omega)
set_option maxRecDepth 20000 in
/-- all that the law asks of the fresh object -/
theorem pf_of (hL : sc.1 ≤ 260) (e : f_X11_tail xI = some X) (hH : HS X) (hlen : X 2 0 0 1 = 0) (f0 : ∀ i, i < 20 → X 22 0 i 7 = 0 ∨ X 22 0 i 7 = 1) (f1 : ∀ i, i < 20 → X 22 1 i 7 = 0 ∨ X 22 1 i 7 = 1) : PF sc := by
  obtain ⟨X2, e2, h, hH2⟩ := L_load hL hH hlen f0 f1
  refine ⟨X, X2, e, e2, L_holds hL h (fun k hk => absurd hk (Nat.not_lt_zero _)), ?_⟩
  exact loop_ok hL 35 50 X2 (A0 sc) _ _ (by decide) (by decide) h hH2 (fun k hk => absurd hk (Nat.not_lt_zero _))
end LOAD
