/-! PURE: what the script tells, and what the law asks of the class -/
/-- the cooperative that the script tells -/
def cfg (sc : Nat × (Nat → Int32)) : NF := fun i k => match i with
  | 0 => (match k with
    | 0 => 1 + dr sc 2 4
    | 1 => dr sc 3 4
    | 2 => dr sc 4 5
    | 3 => if dr sc 3 4 = 0 then 0 else if dr sc 4 5 = 0 then 0 else dr sc 5 6
    | 4 => dr sc 42 6
    | 5 => dr sc 1 30000
    | _ => 1 + dr sc 0 60)
  | 1 => 140 - 35 * k - dr sc (6 + k) 30
  | 2 => dr sc (24 + 3 * k) (dr sc 4 5)
  | 3 => dr sc (25 + 3 * k) (dr sc 3 4)
  | 4 => (1 + dr sc (26 + 3 * k) 40) * (1 + dr sc 0 60)
  | 5 => 1 + dr sc (43 + k) 3000
  | 6 => 1 + dr sc (26 + 3 * k) 40
  | _ => dr sc (10 + k) 30
set_option maxRecDepth 20000 in
theorem cfg_ok (sc : Nat × (Nat → Int32)) : CO (cfg sc) := by
  have h2 := dr_lt (sc := sc) (k := 2) (n := 4) (by decide)
  have h3 := dr_lt (sc := sc) (k := 3) (n := 4) (by decide)
  have h4 := dr_lt (sc := sc) (k := 4) (n := 5) (by decide)
  have h5 := dr_lt (sc := sc) (k := 5) (n := 6) (by decide)
  have h42 := dr_lt (sc := sc) (k := 42) (n := 6) (by decide)
  have h0 := dr_lt (sc := sc) (k := 0) (n := 60) (by decide)
  refine ⟨⟨?_, ?_, ?_, ?_, ?_, ?_⟩, fun p hp => ?_, fun t _ => ?_, fun k _ => ?_⟩
  · show 1 ≤ 1 + dr sc 2 4
    omega
  · show 1 + dr sc 2 4 ≤ 4
    omega
  · show dr sc 3 4 ≤ 3
    omega
  · show dr sc 4 5 ≤ 4
    omega
  · show (if dr sc 3 4 = 0 then 0 else if dr sc 4 5 = 0 then 0 else dr sc 5 6) ≤ 5
    split
    · omega
    · split <;> omega
  · show dr sc 42 6 ≤ 5
    omega
  · have hp : p < (if dr sc 3 4 = 0 then 0 else if dr sc 4 5 = 0 then 0 else dr sc 5 6) := hp
    split at hp
    · omega
    · split at hp
      · omega
      · have h26 := dr_lt (sc := sc) (k := 26 + 3 * p) (n := 40) (by decide)
        refine ⟨dr_lt (by omega), dr_lt (by omega), ?_⟩
        show (1 + dr sc (26 + 3 * p) 40) * (1 + dr sc 0 60) ≤ 2400
        exact Nat.le_trans (Nat.mul_le_mul (show _ ≤ 40 by omega) (show _ ≤ 60 by omega)) (by decide)
  · have := dr_lt (sc := sc) (k := 43 + t) (n := 3000) (by decide)
    show 1 + dr sc (43 + t) 3000 ≤ 3000
    omega
  · show 140 - 35 * k - dr sc (6 + k) 30 ≤ 200
    omega
section LAWS
variable {sc : Nat × (Nat → Int32)} {X : XT} {A : NF}
set_option maxRecDepth 20000 in
theorem L_wines (hL : sc.1 ≤ 260) : f_L_wines sc = some (nI (cfg sc 0 1)) := by
  unfold f_L_wines
  rw [show f_L_draw sc 3 4 = _ from draw_ok hL (k := 3) (n := 4) (by decide) (by decide) (by decide), bn1_s]
  rfl
set_option maxRecDepth 20000 in
theorem L_growers (hL : sc.1 ≤ 260) : f_L_growers sc = some (nI (cfg sc 0 2)) := by
  unfold f_L_growers
  rw [show f_L_draw sc 4 5 = _ from draw_ok hL (k := 4) (n := 5) (by decide) (by decide) (by decide), bn1_s]
  rfl
set_option maxRecDepth 20000 in
theorem L_grades (hL : sc.1 ≤ 260) : f_L_grades sc = some (nI (cfg sc 0 0)) := by
  unfold f_L_grades
  rw [show f_L_draw sc 2 4 = _ from draw_ok hL (k := 2) (n := 4) (by decide) (by decide) (by decide), bn1_s, nI_add1]
  rfl
set_option maxRecDepth 20000 in
theorem L_yields (hL : sc.1 ≤ 260) : f_L_yields sc = some (nI (cfg sc 0 6)) := by
  unfold f_L_yields
  rw [show f_L_draw sc 0 60 = _ from draw_ok hL (k := 0) (n := 60) (by decide) (by decide) (by decide), bn1_s, nI_add1]
  rfl
set_option maxRecDepth 20000 in
theorem L_money (hL : sc.1 ≤ 260) : f_L_money sc = some (nI (cfg sc 0 5)) := by
  unfold f_L_money
  rw [show f_L_draw sc 1 30000 = _ from draw_ok hL (k := 1) (n := 30000) (by decide) (by decide) (by decide), bn1_s]
  rfl
set_option maxRecDepth 20000 in
theorem L_tanks (hL : sc.1 ≤ 260) : f_L_tanks sc = some (nI (cfg sc 0 4)) := by
  unfold f_L_tanks
  rw [show f_L_draw sc 42 6 = _ from draw_ok hL (k := 42) (n := 6) (by decide) (by decide) (by decide), bn1_s]
  rfl
set_option maxRecDepth 20000 in
theorem L_plots (hL : sc.1 ≤ 260) : f_L_plots sc = some (nI (cfg sc 0 3)) := by
  have h3 := dr_lt (sc := sc) (k := 3) (n := 4) (by decide)
  have h4 := dr_lt (sc := sc) (k := 4) (n := 5) (by decide)
  unfold f_L_plots
  rw [L_wines hL, bn1_s, L_growers hL, bn1_s, show f_L_draw sc 5 6 = _ from draw_ok hL (k := 5) (n := 6) (by decide) (by decide) (by decide), bn1_s]
  show (if nI (dr sc 3 4) = 0 then some 0 else if nI (dr sc 4 5) = 0 then some 0 else some (nI (dr sc 5 6))) = some (nI (if dr sc 3 4 = 0 then 0 else if dr sc 4 5 = 0 then 0 else dr sc 5 6))
  by_cases c : dr sc 3 4 = 0
  · rw [if_pos ((nI_01 (by omega)).mpr c), if_pos c]
    rfl
  · rw [if_neg (fun q => c ((nI_01 (by omega)).mp q)), if_neg c]
    by_cases c2 : dr sc 4 5 = 0
    · rw [if_pos ((nI_01 (by omega)).mpr c2), if_pos c2]
      rfl
    · rw [if_neg (fun q => c2 ((nI_01 (by omega)).mp q)), if_neg c2]
set_option maxRecDepth 20000 in
theorem L_lowest (hL : sc.1 ≤ 260) {k : Nat} (hk : k < 4) : f_L_lowest sc (nI k) = some (nI (cfg sc 1 k)) := by
  have hd := dr_lt (sc := sc) (k := 6 + k) (n := 30) (by decide)
  unfold f_L_lowest
  rw [show (6 : Int32) + nI k = nI (6 + k) from nI_add 6 k, show f_L_draw sc (nI (6 + k)) 30 = _ from draw_ok hL (k := 6 + k) (n := 30) (by omega) (by decide) (by decide), bn1_s, show (35 : Int32) * nI k = nI (35 * k) from pk_mul 35 k, show (140 : Int32) - nI (35 * k) = nI (140 - 35 * k) from pk_sub (a := 140) (by omega), pk_sub (by omega)]
  rfl
set_option maxRecDepth 20000 in
theorem L_owner (hL : sc.1 ≤ 260) {k : Nat} (hk : k < cfg sc 0 3) : f_L_owner sc (nI k) = some (nI (cfg sc 2 k)) := by
  have hC := cfg_ok sc
  have h1 := hC.p hk
  have hb := hC.b
  unfold f_L_owner
  rw [L_growers hL, bn1_s, show (3 : Int32) * nI k = nI (3 * k) from pk_mul 3 k, show (24 : Int32) + nI (3 * k) = nI (24 + 3 * k) from nI_add 24 _, draw_ok hL (k := 24 + 3 * k) (n := cfg sc 0 2) (by omega) (by omega) (by omega), bn1_s]
  rfl
set_option maxRecDepth 20000 in
theorem L_wine (hL : sc.1 ≤ 260) {k : Nat} (hk : k < cfg sc 0 3) : f_L_wine sc (nI k) = some (nI (cfg sc 3 k)) := by
  have hC := cfg_ok sc
  have h1 := hC.p hk
  have hb := hC.b
  unfold f_L_wine
  rw [L_wines hL, bn1_s, show (3 : Int32) * nI k = nI (3 * k) from pk_mul 3 k, show (25 : Int32) + nI (3 * k) = nI (25 + 3 * k) from nI_add 25 _, draw_ok hL (k := 25 + 3 * k) (n := cfg sc 0 1) (by omega) (by omega) (by omega), bn1_s]
  rfl
set_option maxRecDepth 20000 in
theorem L_area (hL : sc.1 ≤ 260) {k : Nat} (hk : k < 100) : f_L_area sc (nI k) = some (nI (cfg sc 6 k)) := by
  unfold f_L_area
  rw [show (3 : Int32) * nI k = nI (3 * k) from pk_mul 3 k, show (26 : Int32) + nI (3 * k) = nI (26 + 3 * k) from nI_add 26 _, show f_L_draw sc (nI (26 + 3 * k)) 40 = _ from draw_ok hL (k := 26 + 3 * k) (n := 40) (by omega) (by decide) (by decide), bn1_s, nI_add1]
  rfl
set_option maxRecDepth 20000 in
theorem L_lim (k : Nat) : nI (cfg sc 6 k) * nI (cfg sc 0 6) = nI (cfg sc 4 k) := pk_mul _ _
set_option maxRecDepth 20000 in
theorem L_cap (hL : sc.1 ≤ 260) {k : Nat} (hk : k < 100) : f_L_capacity sc (nI k) = some (nI (cfg sc 5 k)) := by
  unfold f_L_capacity
  rw [show (43 : Int32) + nI k = nI (43 + k) from nI_add 43 _, show f_L_draw sc (nI (43 + k)) 3000 = _ from draw_ok hL (k := 43 + k) (n := 3000) (by omega) (by decide) (by decide), bn1_s, nI_add1]
  rfl
set_option maxRecDepth 20000 in
theorem L_cents (hL : sc.1 ≤ 260) {v g : Nat} (hv : v < 100) (hg : g < 100) : f_L_cents sc (nI v) (nI g) = some (nI (cfg sc 7 (v * 4 + g))) := by
  unfold f_L_cents
  rw [show (4 : Int32) * nI v = nI (4 * v) from pk_mul 4 v, show (10 : Int32) + nI (4 * v) = nI (10 + 4 * v) from nI_add 10 _, nI_add, show f_L_draw sc (nI (10 + 4 * v + g)) 30 = _ from draw_ok hL (k := 10 + 4 * v + g) (n := 30) (by omega) (by decide) (by decide), bn1_s, show 10 + 4 * v + g = 10 + (v * 4 + g) by omega]
  rfl
set_option maxRecDepth 20000 in
theorem L_gr (hL : sc.1 ≤ 260) {s : Nat} (hs : s < 2 ^ 31) : ∀ d k f, k + d = cfg sc 0 0 → d < f → f_L_grade_2 sc (nI s) f (nI k) = some (grL (cfg sc) s d k) := by
  have hC := cfg_ok sc
  have hb := hC.b
  intro d
  induction d with
  | zero =>
    intro k f hk hf
    obtain ⟨f, rfl⟩ := fuel hf
    rw [f_L_grade_2, L_grades hL, bn1_s, if_pos (nI_le (by omega) (by omega))]
    rfl
  | succ d ih =>
    intro k f hk hf
    obtain ⟨f, rfl⟩ := fuel hf
    have hkn : k < cfg sc 0 0 := by omega
    have hl := hC.k hkn
    rw [f_L_grade_2, L_grades hL, bn1_s, if_neg (nI_ge hkn (by omega)), L_lowest hL (by omega), bn1_s, grL]
    by_cases c : s < cfg sc 1 k
    · rw [if_pos c, if_pos (nI_lt c (by omega)), nI_1]
      exact ih (k + 1) f (by omega) (by omega)
    · rw [if_neg c, if_neg (nI_nlt (by omega) hs)]
set_option maxRecDepth 20000 in
theorem L_grade (hL : sc.1 ≤ 260) {s : Nat} (hs : s < 2 ^ 31) : f_L_grade sc (nI s) = some (gr (cfg sc) s) := by
  have hb := (cfg_ok sc).b
  exact L_gr hL hs (cfg sc 0 0) 0 2000 (by omega) (by omega)
end LAWS
section ASK
variable {X : XT} {C A : NF}
set_option maxRecDepth 20000 in
theorem k_tank (hC : CO C) (h : IV X C A) {t : Nat} (ht : t < C 0 4) : f_X11_knownTank X (nI t) = some t := by
  have hCb := hC.b
  unfold f_X11_knownTank
  rw [if_neg (nI_pos (by omega)), h.c.2.2.2.2.2.1, if_pos (nI_lt ht (by omega)), gd_t (nI_in (by omega) (by decide)), nI_clamp (by omega)]
set_option maxRecDepth 20000 in
theorem k_load (h : IV X C A) {t : Nat} (ht : t < A 0 0) : f_X11_knownLoad X (nI t) = some t := by
  have hb := h.b
  unfold f_X11_knownLoad
  rw [if_neg (nI_pos (by omega)), h.c.2.2.2.2.1, if_pos (nI_lt ht (by omega)), gd_t (nI_in (by omega) (by decide)), nI_clamp (by omega)]
set_option maxRecDepth 20000 in
theorem k_lot (h : IV X C A) {t : Nat} (ht : t < A 0 1) : f_X11_knownLot X (nI t) = some t := by
  have hb := h.b
  unfold f_X11_knownLot
  rw [if_neg (nI_pos (by omega)), h.c.2.2.2.2.2.2, if_pos (nI_lt ht (by omega)), gd_t (nI_in (by omega) (by decide)), nI_clamp (by omega)]
set_option maxRecDepth 20000 in
theorem n_var (hC : CO C) (h : IV X C A) {v : Nat} (hv : v < C 0 1) : f_X11_needVariety X (nI v) = some () := by
  have hCb := hC.b
  unfold f_X11_needVariety f_X1_hasVariety
  rw [if_neg (nI_pos (by omega)), h.c.2.1, if_neg (nI_ge hv (by omega)), bn1_s, if_neg (by decide)]
set_option maxRecDepth 20000 in
theorem n_cla (hC : CO C) (h : IV X C A) {v : Nat} (hv : v < C 0 0) : f_X11_needClass X (nI v) = some () := by
  have hCb := hC.b
  unfold f_X11_needClass f_X1_hasGrade
  rw [if_neg (nI_pos (by omega)), h.c.1, if_neg (nI_ge hv (by omega)), bn1_s, if_neg (by decide)]
set_option maxRecDepth 20000 in
theorem n_plo (hC : CO C) (h : IV X C A) {v : Nat} (hv : v < C 0 3) : f_X11_needPlot X (nI v) = some () := by
  have hCb := hC.b
  unfold f_X11_needPlot f_X5_hasPlot
  rw [if_neg (nI_pos (by omega)), h.c.2.2.2.1, if_neg (nI_ge hv (by omega)), bn1_s, if_neg (by decide)]
set_option maxRecDepth 20000 in
theorem n_gro (hC : CO C) (h : IV X C A) {v : Nat} (hv : v < C 0 2) : f_X11_needGrower X (nI v) = some () := by
  have hCb := hC.b
  unfold f_X11_needGrower
  rw [if_neg (nI_pos (by omega)), h.c.2.2.1, if_pos (nI_lt hv (by omega))]
set_option maxRecDepth 20000 in
theorem n_wei {w : Nat} (h1 : 1 ≤ w) (h2 : w ≤ 5000) : f_X11_needWeight (nI w) = some () := by
  unfold f_X11_needWeight
  rw [if_neg (show ¬ nI w < 1 from nI_nlt (b := 1) h1 (by omega)), if_pos (show nI w ≤ 5000 from nI_le (b := 5000) h2 (by decide))]
set_option maxRecDepth 20000 in
theorem n_sug {w : Nat} (h2 : w ≤ 250) : f_X11_needSugar (nI w) = some () := by
  unfold f_X11_needSugar
  rw [if_neg (nI_pos (by omega)), if_pos (show nI w ≤ 250 from nI_le (b := 250) h2 (by decide))]
set_option maxRecDepth 20000 in
theorem n_bot {w : Nat} (h1 : 1 ≤ w) (h2 : w ≤ 20000) : f_X11_needBottles (nI w) = some () := by
  unfold f_X11_needBottles
  rw [if_neg (show ¬ nI w < 1 from nI_nlt (b := 1) h1 (by omega)), if_pos (show nI w ≤ 20000 from nI_le (b := 20000) h2 (by decide))]
set_option maxRecDepth 20000 in
theorem a_con (hC : CO C) (h : IV X C A) {t : Nat} (ht : t < C 0 4) : f_X11_content X (nI t) = some (nI (A 9 t)) := by
  have hCb := hC.b
  obtain ⟨t1, y0, y1, -⟩ := h.t ht
  unfold f_X11_content
  rw [k_tank hC h ht, bn1_s, gd_t (by omega), y1]
set_option maxRecDepth 20000 in
theorem a_vin (hC : CO C) (h : IV X C A) {t : Nat} (ht : t < C 0 4) : f_X11_varietyIn X (nI t) = some (if A 9 t = 0 then -1 else nI (A 10 t)) := by
  have hCb := hC.b
  obtain ⟨t1, y0, y1, y2, -⟩ := h.t ht
  unfold f_X11_varietyIn
  rw [k_tank hC h ht, bn1_s, gd_t (by omega), y2]
set_option maxRecDepth 20000 in
theorem a_mea (hC : CO C) (h : IV X C A) {t : Nat} (ht : t < C 0 4) : f_X11_meanSugar X (nI t) = some (nI (A 11 t / A 9 t)) := by
  have hCb := hC.b
  unfold f_X11_meanSugar
  rw [k_tank hC h ht, bn1_s, gd_t (by omega), q_mean hC h ht, bn1_s]
set_option maxRecDepth 20000 in
theorem a_pri (hC : CO C) (h : IV X C A) {v g : Nat} (hv : v < C 0 1) (hg : g < C 0 0) : f_X11_price X (nI v) (nI g) = some (nI (A 8 (v * 4 + g))) := by
  unfold f_X11_price
  rw [n_var hC h hv, bn1_s, n_cla hC h hg, bn1_s, q_cents hC h hv hg, bn1_s]
set_option maxRecDepth 20000 in
theorem a_plo (h : IV X C A) {k : Nat} (hk : k < A 0 0) : f_X11_plotOfLoad X (nI k) = some (nI (A 1 k)) := by
  have hb := h.b
  obtain ⟨-, ⟨x0, x1, x2, x3, x4, x5, x6⟩, -⟩ := h.l hk
  unfold f_X11_plotOfLoad
  rw [k_load h hk, bn1_s, gd_t (by omega), x0]
set_option maxRecDepth 20000 in
theorem a_cla (h : IV X C A) {k : Nat} (hk : k < A 0 0) : f_X11_classOfLoad X (nI k) = some (nI (A 4 k)) := by
  have hb := h.b
  obtain ⟨-, ⟨x0, x1, x2, x3, x4, x5, x6⟩, -⟩ := h.l hk
  unfold f_X11_classOfLoad
  rw [k_load h hk, bn1_s, gd_t (by omega), x5]
set_option maxRecDepth 20000 in
theorem a_tan (h : IV X C A) {k : Nat} (hk : k < A 0 0) : f_X11_tankOfLoad X (nI k) = some (nI (A 5 k)) := by
  have hb := h.b
  obtain ⟨-, ⟨x0, x1, x2, x3, x4, x5, x6⟩, -⟩ := h.l hk
  unfold f_X11_tankOfLoad
  rw [k_load h hk, bn1_s, gd_t (by omega), x6]
set_option maxRecDepth 20000 in
theorem a_val (hC : CO C) (h : IV X C A) {k : Nat} (hk : k < A 0 0) : f_X11_valueOf X (nI k) = some (nI (va C A k)) := by
  have hb := h.b
  unfold f_X11_valueOf
  rw [k_load h hk, bn1_s, gd_t (by omega), q_va hC h hk, bn1_s]
set_option maxRecDepth 20000 in
theorem a_pai (h : IV X C A) {k : Nat} (hk : k < A 0 0) : f_X11_isPaid X (nI k) = some (nI (A 6 k)) := by
  have hb := h.b
  obtain ⟨-, -, ⟨x7, l7, -⟩, -⟩ := h.l hk
  unfold f_X11_isPaid
  rw [k_load h hk, bn1_s, gd_t (by omega), x7, gd_t]
  have : A 6 k = 0 ∨ A 6 k = 1 := by omega
  rcases this with e | e <;> rw [e] <;> decide
set_option maxRecDepth 20000 in
theorem a_low (hC : CO C) (h : IV X C A) {k : Nat} (hk : k < A 0 0) : f_X11_isLowered X (nI k) = some (if nI (A 4 k) = gr C (A 3 k) then 0 else 1) := by
  have hb := h.b
  obtain ⟨⟨l1, l2, l3, l4, l5, l6⟩, ⟨x0, x1, x2, x3, x4, x5, x6⟩, -⟩ := h.l hk
  unfold f_X11_isLowered
  rw [k_load h hk, bn1_s, gd_t (by omega), x4, q_gr hC h (by omega), bn1_s, x5]
  split <;> rfl
set_option maxRecDepth 20000 in
theorem a_har (hC : CO C) (h : IV X C A) {p : Nat} (hp : p < C 0 3) : f_X11_harvested X (nI p) = some (nI (kil A p (A 0 0))) := by
  have hCb := hC.b
  unfold f_X11_harvested
  rw [n_plo hC h hp, bn1_s, q_har hC h (by omega), bn1_s]
  rfl
set_option maxRecDepth 20000 in
theorem a_lim (hC : CO C) (h : IV X C A) {p : Nat} (hp : p < C 0 3) : f_X11_yieldLimit X (nI p) = some (nI (C 4 p)) := by
  unfold f_X11_yieldLimit
  rw [n_plo hC h hp, bn1_s, q_lim hC h hp, bn1_s]
set_option maxRecDepth 20000 in
theorem a_lef (hC : CO C) (h : IV X C A) {p : Nat} (hp : p < C 0 3) : f_X11_yieldLeft X (nI p) = some (nI (C 4 p - kil A p (A 0 0))) := by
  unfold f_X11_yieldLeft
  rw [n_plo hC h hp, bn1_s, q_gwl hC h hp, bn1_s]
set_option maxRecDepth 20000 in
theorem a_lva (h : IV X C A) {b : Nat} (hb : b < A 0 1) : f_X11_lotVariety X (nI b) = some (nI (A 12 b)) := by
  have hbb := h.b
  obtain ⟨-, z0, z1, z2, z3⟩ := h.o hb
  unfold f_X11_lotVariety
  rw [k_lot h hb, bn1_s, gd_t (by omega), z0]
set_option maxRecDepth 20000 in
theorem a_lsu (h : IV X C A) {b : Nat} (hb : b < A 0 1) : f_X11_lotSugar X (nI b) = some (nI (A 13 b)) := by
  have hbb := h.b
  obtain ⟨-, z0, z1, z2, z3⟩ := h.o hb
  unfold f_X11_lotSugar
  rw [k_lot h hb, bn1_s, gd_t (by omega), z1]
set_option maxRecDepth 20000 in
theorem a_uns (h : IV X C A) {b : Nat} (hb : b < A 0 1) : f_X11_unsold X (nI b) = some (nI (A 15 b)) := by
  have hbb := h.b
  obtain ⟨-, z0, z1, z2, z3⟩ := h.o hb
  unfold f_X11_unsold
  rw [k_lot h hb, bn1_s, gd_t (by omega), z3]
end ASK
