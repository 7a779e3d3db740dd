/-! PURE: the law's tank and cellar -/
set_option maxRecDepth 20000 in
theorem fl_eq32 (a : Int32) {b : Int32} (hb : b ≠ 0) : Op.cmpValue (FP.fcmp (FP.fdiv (FP.i2f a) (FP.i2f b)) (FP.fdiv (FP.i2f a) (FP.i2f b))) .l = 0 := by
  have h : FP.Core.fIsNaN (FP.fdiv (FP.i2f a) (FP.i2f b)) = false := FP.Core.fdiv_out (FP.Core.FFin.notNaN (FP.Core.i2f_fin a)) (FP.Core.i2f_fin b) (fun z => FP.Core.i2f_ne_zero hb ((FP.Core.zero_bits232 _).mp z))
  have := FP.Core.fcmp_self ((FP.Core.notNaN_iff32 _).mp h)
  show Op.cmpValue (FP.Core.fcmp _ _) .l = 0
  rw [this]
  rfl
set_option maxRecDepth 20000 in
theorem fl_eq64 (a : Int32) {b : Int32} (hb : b ≠ 0) : Op.cmpValue (FP.dcmp (FP.ddiv (FP.i2d a) (FP.i2d b)) (FP.ddiv (FP.i2d a) (FP.i2d b))) .l = 0 := by
  have h : FP.Core.dIsNaN (FP.ddiv (FP.i2d a) (FP.i2d b)) = false := FP.Core.ddiv_out (FP.Core.DFin.notNaN (FP.Core.i2d_fin a)) (FP.Core.i2d_fin b) (fun z => FP.Core.i2d_ne_zero hb ((FP.Core.zero_bits2 _).mp z))
  have := FP.Core.dcmp_self ((FP.Core.notNaN_iff _).mp h)
  show Op.cmpValue (FP.Core.dcmp _ _) .l = 0
  rw [this]
  rfl
set_option maxRecDepth 20000 in
theorem fl_00 : Op.cmpValue (FP.fcmp FP.fconst0 FP.fconst0) .l = 0 := by decide +kernel
set_option maxRecDepth 20000 in
theorem dl_00 : Op.cmpValue (FP.dcmp FP.dconst0 FP.dconst0) .l = 0 := by decide +kernel
set_option maxRecDepth 20000 in
theorem jn_l {τ ρ : Type} (v : Int32) (e : Int32 → Option ρ) (k : τ → Option ρ) : jn (.inl v : Sum Int32 τ) e k = e v := rfl
set_option maxRecDepth 20000 in
theorem jn_r {τ ρ : Type} (o : τ) (e : Int32 → Option ρ) (k : τ → Option ρ) : jn (.inr o : Sum Int32 τ) e k = k o := rfl
section CEL
variable {sc : Nat × (Nat → Int32)} {X : XT} {A : NF}
set_option maxRecDepth 20000 in
theorem t_r0 (hL : sc.1 ≤ 260) (h : IV X (cfg sc) A) {v w : Nat} (hv : v < 100) (hw : w < 2 ^ 31) : ∀ d k f, k + d = cfg sc 0 4 → d < f → f_L_tank_12 X sc (nI v) (nI w) 0 f (nI k) = some (if ft (hT (cfg sc) A v w) d k = -1 then .inr () else .inl (ft (hT (cfg sc) A v w) d k)) := by
  have hC := cfg_ok sc
  have hCb := hC.b
  intro d
  induction d with
  | zero =>
    intro k f hk hf
    obtain ⟨f, rfl⟩ := fuel hf
    rw [f_L_tank_12, L_tanks hL, bn1_s, if_pos (nI_le (by omega) (by omega)), ft, if_pos rfl]
  | succ d ih =>
    intro k f hk hf
    obtain ⟨f, rfl⟩ := fuel hf
    have hkn : k < cfg sc 0 4 := by omega
    obtain ⟨t1, y0, y1, y2, y3, t4, t5⟩ := h.t hkn
    have hc := hC.t hkn
    have ih := ih (k + 1) f (by omega) (by omega)
    rw [f_L_tank_12, L_tanks hL, bn1_s, if_neg (nI_ge hkn (by omega)), a_vin hC h hkn, bn1_s, if_pos rfl, L_cap hL (by omega), bn1_s, a_con hC h hkn, bn1_s, pk_sub t1, nI_1, ft]
    by_cases c : A 9 k = 0
    · have e1 : hT (cfg sc) A v w k = false := decide_eq_false (fun q => q.1 c)
      rw [if_pos c, if_neg (fun q => nI_m1 (by omega) q.symm), e1]
      simp only [Bool.false_eq_true, if_false]
      exact ih
    · rw [if_neg c]
      by_cases c2 : A 10 k = v
      · rw [if_pos (congrArg nI c2)]
        by_cases c1 : w ≤ cfg sc 5 k - A 9 k
        · have e1 : hT (cfg sc) A v w k = true := decide_eq_true ⟨c, c2, c1⟩
          rw [if_neg (nI_nlt c1 (by omega)), e1]
          simp only [if_true]
          rw [if_neg (nI_m1 (by omega))]
        · have e1 : hT (cfg sc) A v w k = false := decide_eq_false (fun q => c1 q.2.2)
          rw [if_pos (nI_lt (by omega) (by omega)), e1]
          simp only [Bool.false_eq_true, if_false]
          exact ih
      · have e1 : hT (cfg sc) A v w k = false := decide_eq_false (fun q => c2 q.2.1)
        have := t4 (by omega)
        rw [if_neg (fun q => c2 ((nI_eq (by omega) (by omega)).mp q)), e1]
        simp only [Bool.false_eq_true, if_false]
        exact ih
set_option maxRecDepth 20000 in
theorem t_r1 (hL : sc.1 ≤ 260) (h : IV X (cfg sc) A) {v w : Nat} (hw : w < 2 ^ 31) : ∀ d k f, k + d = cfg sc 0 4 → d < f → f_L_tank_12 X sc (nI v) (nI w) 1 f (nI k) = some (if ft (eT (cfg sc) A w) d k = -1 then .inr () else .inl (ft (eT (cfg sc) A w) d k)) := by
  have hC := cfg_ok sc
  have hCb := hC.b
  intro d
  induction d with
  | zero =>
    intro k f hk hf
    obtain ⟨f, rfl⟩ := fuel hf
    rw [f_L_tank_12, L_tanks hL, bn1_s, if_pos (nI_le (by omega) (by omega)), ft, if_pos rfl]
  | succ d ih =>
    intro k f hk hf
    obtain ⟨f, rfl⟩ := fuel hf
    have hkn : k < cfg sc 0 4 := by omega
    obtain ⟨t1, y0, y1, y2, y3, t4, t5⟩ := h.t hkn
    have hc := hC.t hkn
    have ih := ih (k + 1) f (by omega) (by omega)
    rw [f_L_tank_12, L_tanks hL, bn1_s, if_neg (nI_ge hkn (by omega)), a_vin hC h hkn, bn1_s, if_neg (show ¬ (1 : Int32) = 0 by decide), L_cap hL (by omega), bn1_s, a_con hC h hkn, bn1_s, pk_sub t1, nI_1, ft]
    by_cases c : A 9 k = 0
    · rw [if_pos c, if_pos rfl]
      by_cases c1 : w ≤ cfg sc 5 k - A 9 k
      · have e1 : eT (cfg sc) A w k = true := decide_eq_true ⟨c, c1⟩
        rw [if_neg (nI_nlt c1 (by omega)), e1]
        simp only [if_true]
        rw [if_neg (nI_m1 (by omega))]
      · have e1 : eT (cfg sc) A w k = false := decide_eq_false (fun q => c1 q.2)
        rw [if_pos (nI_lt (by omega) (by omega)), e1]
        simp only [Bool.false_eq_true, if_false]
        exact ih
    · have e1 : eT (cfg sc) A w k = false := decide_eq_false (fun q => c q.1)
      have := t4 (by omega)
      rw [if_neg c, if_neg (nI_m1 (by omega)), e1]
      simp only [Bool.false_eq_true, if_false]
      exact ih
set_option maxRecDepth 20000 in
theorem L_tank (hL : sc.1 ≤ 260) (h : IV X (cfg sc) A) {v w : Nat} (hv : v < 100) (hw : w < 2 ^ 31) : f_L_tank X sc (nI v) (nI w) = some (tk (cfg sc) A v w) := by
  have hCb := (cfg_ok sc).b
  have e0 := t_r0 hL h hv hw (cfg sc 0 4) 0 2000 (by omega) (by omega)
  have e1 := t_r1 (v := v) hL h hw (cfg sc 0 4) 0 2000 (by omega) (by omega)
  unfold f_L_tank tk
  show f_L_tank_3 X sc (nI v) (nI w) (1999 + 1) 0 = _
  rw [f_L_tank_3, if_neg (show ¬ (2 : Int32) ≤ 0 by decide), show f_L_tank_12 X sc (nI v) (nI w) 0 2000 0 = _ from e0, bn1_s]
  by_cases c : ft (hT (cfg sc) A v w) (cfg sc 0 4) 0 = -1
  · rw [if_pos c, if_pos c, jn_r]
    show f_L_tank_3 X sc (nI v) (nI w) (1998 + 1) (0 + 1) = _
    rw [f_L_tank_3, if_neg (show ¬ (2 : Int32) ≤ 0 + 1 by decide), show f_L_tank_12 X sc (nI v) (nI w) (0 + 1) 2000 0 = _ from e1, bn1_s]
    by_cases c2 : ft (eT (cfg sc) A w) (cfg sc 0 4) 0 = -1
    · rw [if_pos c2, c2, jn_r]
      rfl
    · rw [if_neg c2, jn_l]
  · rw [if_neg c, if_neg c, jn_l]
/-- the bottles in the first k tanks, by variety -/
def cT (A : NF) (k : Nat) : Nat → Int32 := fun j => nI (sT A j k)
set_option maxRecDepth 20000 in
theorem cT_0 {A : NF} {k : Nat} (h : A 9 k = 0) : cT A k = cT A (k + 1) := by
  funext j
  unfold cT sT
  rw [SR_succ, if_neg (fun q => q.1 h)]
  rfl
set_option maxRecDepth 20000 in
theorem cT_1 {A : NF} {k : Nat} (h : A 9 k ≠ 0) : upd (cT A k) (A 10 k) (cT A k (A 10 k) + nI (A 9 k)) = cT A (k + 1) := by
  funext j
  unfold cT sT
  rw [SR_succ]
  by_cases c : j = A 10 k
  · subst c
    rw [pk_us, if_pos ⟨h, rfl⟩, nI_add]
  · rw [pk_un c, if_neg (fun q => c q.2.symm)]
    rfl
def cO (A : NF) (n k : Nat) : Nat → Int32 := fun j => nI (sT A j n + sO A j k)
set_option maxRecDepth 20000 in
theorem cO_0 {A : NF} {n : Nat} : cT A n = cO A n 0 := rfl
set_option maxRecDepth 20000 in
theorem cO_1 {A : NF} {n k : Nat} : upd (cO A n k) (A 12 k) (cO A n k (A 12 k) + nI (A 15 k)) = cO A n (k + 1) := by
  funext j
  unfold cO sO
  rw [SR_succ]
  by_cases c : j = A 12 k
  · subst c
    rw [pk_us, if_pos rfl, nI_add, Nat.add_assoc]
  · rw [pk_un c, if_neg (fun q => c q.symm)]
    rfl
/-! the cellar's last loop: refusals of loads to come -/
def rea (C A : NF) (p w s : Nat) : Int32 := if A 0 0 = 20 then 1 else if gr C s = -1 then 2 else if tk C A (C 3 p) w = -1 then 3 else 0
def gfo (C A : NF) (p w s : Nat) : Int32 := if C 4 p < kil A p (A 0 0) + w then nI (C 0 0 - 1) else gr C s
set_option maxRecDepth 20000 in
theorem rea_c (C A : NF) (p w s : Nat) : rea C A p w s = 0 ∨ 0 < rea C A p w s := by
  unfold rea
  split
  · exact Or.inr (by decide)
  · split
    · exact Or.inr (by decide)
    · split
      · exact Or.inr (by decide)
      · exact Or.inl rfl
set_option maxRecDepth 20000 in
theorem rea_0 {C A : NF} {p w s : Nat} (h : rea C A p w s = 0) : A 0 0 ≠ 20 ∧ gr C s ≠ -1 ∧ tk C A (C 3 p) w ≠ -1 := by
  unfold rea at h
  split at h
  · exact absurd h (by decide)
  · split at h
    · exact absurd h (by decide)
    · split at h
      · exact absurd h (by decide)
      · exact ⟨by assumption, by assumption, by assumption⟩
set_option maxRecDepth 20000 in
theorem gfo_g {C A : NF} (hC : CO C) {p w s : Nat} (h : gr C s ≠ -1) : ∃ g, g < C 0 0 ∧ gfo C A p w s = nI g := by
  have hb := hC.b
  unfold gfo
  split
  · exact ⟨C 0 0 - 1, by omega, rfl⟩
  · rcases gr_or C s with q | q
    · exact absurd q h
    · exact q
set_option maxRecDepth 20000 in
theorem a_ref {C : NF} (hC : CO C) (h : IV X C A) {p w s : Nat} (hp : p < C 0 3) (h1 : 1 ≤ w) (hw : w ≤ 5000) (hs : s ≤ 250) : f_X11_refusal X (nI p) (nI w) (nI s) = some (rea C A p w s) := by
  unfold f_X11_refusal
  rw [n_plo hC h hp, bn1_s, n_wei h1 hw, bn1_s, n_sug hs, bn1_s, q_rea hC h hp (by omega) (by omega), bn1_s]
  rfl
set_option maxRecDepth 20000 in
theorem a_vid {C : NF} (hC : CO C) (h : IV X C A) {p w s : Nat} (hp : p < C 0 3) (h1 : 1 ≤ w) (hw : w ≤ 5000) (hs : s ≤ 250) : (0 < rea C A p w s ∧ f_X11_valueIfDelivered X (nI p) (nI w) (nI s) = some (-1)) ∨ (rea C A p w s = 0 ∧ ∃ c, f_X11_price X (nI (C 3 p)) (gfo C A p w s) = some c ∧ f_X11_valueIfDelivered X (nI p) (nI w) (nI s) = some (nI w * c)) := by
  unfold f_X11_valueIfDelivered
  rw [n_plo hC h hp, bn1_s, n_wei h1 hw, bn1_s, n_sug hs, bn1_s, q_rea hC h hp (by omega) (by omega), bn1_s]
  rw [show (if A 0 0 = 20 then (1 : Int32) else if gr C s = -1 then 2 else if tk C A (C 3 p) w = -1 then 3 else 0) = rea C A p w s from rfl]
  rcases rea_c C A p w s with q | q
  · refine Or.inr ⟨q, ?_⟩
    obtain ⟨g, hg, eg⟩ := gfo_g (A := A) hC (p := p) (w := w) (rea_0 q).2.1
    have hv := (hC.p hp).2.1
    rw [if_pos q, q_von hC h hp, bn1_s, q_gfo hC h hp hw (by omega), bn1_s]
    rw [show (if C 4 p < kil A p (A 0 0) + w then nI (C 0 0 - 1) else gr C s) = gfo C A p w s from rfl, eg, q_cents hC h hv hg, bn1_s]
    exact ⟨_, a_pri hC h hv hg, rfl⟩
  · refine Or.inl ⟨q, ?_⟩
    rw [if_neg (fun e => by rw [e] at q; exact absurd q (by decide))]
set_option maxRecDepth 20000 in
theorem c_387 (hL : sc.1 ≤ 260) (h : IV X (cfg sc) A) (f4 : Nat → Int32) {p : Nat} (hp : p < cfg sc 0 3) : ∀ d w f, 1 ≤ w → w ≤ 900 + 271 → 900 ≤ w + 271 * d → d < f → f_L_cellar_387 X sc f4 (nI p) f (nI w) = some (.inr ()) := by
  have hC := cfg_ok sc
  have hCb := hC.b
  have hb := h.b
  have hpC := hC.p hp
  have hkl := kil_le h p
  intro d
  induction d with
  | zero =>
    intro w f h1 h2 h3 hf
    obtain ⟨f, rfl⟩ := fuel hf
    rw [f_L_cellar_387, if_pos (show (900 : Int32) ≤ nI w from nI_le (a := 900) (by omega) (by omega))]
  | succ d ih =>
    intro w f h1 h2 h3 hf
    obtain ⟨f, rfl⟩ := fuel hf
    rw [f_L_cellar_387]
    by_cases c : 900 ≤ w
    · rw [if_pos (show (900 : Int32) ≤ nI w from nI_le (a := 900) (by omega) (by omega))]
    · have ih := ih (w + 271) f (by omega) (by omega) (by omega) (by omega)
      obtain ⟨s, hs⟩ : ∃ s, s = (7 * w + 31 * p) % 200 := ⟨_, rfl⟩
      have hs2 : s < 200 := by rw [hs]; exact Nat.mod_lt _ (by decide)
      have e1 : ((7 * nI w) + (31 * nI p)) - ((7 * nI w) + (31 * nI p)) / 200 * 200 = nI s := by
        rw [show (7 : Int32) * nI w = nI (7 * w) from pk_mul 7 w, show (31 : Int32) * nI p = nI (31 * p) from pk_mul 31 p, nI_add, hs]
        exact pk_rem (a := 7 * w + 31 * p) (d := 200) (by omega) (by decide) (by decide)
      have ew : (bn1 (f_X11_loadCount X) fun r9 => if r9 = 20 then some (1 : Int32) else bn1 (f_L_grade sc (nI s)) fun r10 => if r10 = -1 then some 2 else bn1 (f_L_wine sc (nI p)) fun r11 => bn1 (f_L_tank X sc r11 (nI w)) fun r12 => if r12 = -1 then some 3 else some 0) = some (rea (cfg sc) A p w s) := by
        unfold f_X11_loadCount rea
        rw [h.c.2.2.2.2.1, bn1_s, L_grade hL (by omega), bn1_s, L_wine hL hp, bn1_s, L_tank hL h (by omega) (by omega), bn1_s]
        by_cases c1 : A 0 0 = 20
        · rw [if_pos c1, if_pos (show nI (A 0 0) = 20 from congrArg nI c1)]
        · rw [if_neg c1, if_neg (show ¬ nI (A 0 0) = 20 from fun q => c1 ((nI_eq (b := 20) (by omega) (by decide)).mp q))]
          by_cases c2 : gr (cfg sc) s = -1
          · rw [if_pos c2, if_pos c2]
          · rw [if_neg c2, if_neg c2]
            by_cases c3 : tk (cfg sc) A (cfg sc 3 p) w = -1
            · rw [if_pos c3, if_pos c3]
            · rw [if_neg c3, if_neg c3]
      have eg : (bn1 (f_X11_harvested X (nI p)) fun r5 => bn1 (f_X11_yieldLimit X (nI p)) fun r6 => if r5 + nI w ≤ r6 then bn1 (f_L_grade sc (nI s)) fun r7 => some r7 else bn1 (f_L_grades sc) fun r8 => some (r8 - 1)) = some (gfo (cfg sc) A p w s) := by
        unfold gfo
        rw [a_har hC h hp, bn1_s, a_lim hC h hp, bn1_s, nI_add, L_grade hL (by omega), bn1_s, L_grades hL, bn1_s]
        by_cases c1 : cfg sc 4 p < kil A p (A 0 0) + w
        · rw [if_neg (nI_ge c1 (by omega)), if_pos c1, show (1 : Int32) = nI 1 from rfl, pk_sub (by omega)]
        · rw [if_pos (nI_le (by omega) (by omega)), if_neg c1]
      rw [if_neg (show ¬ (900 : Int32) ≤ nI w from nI_ge (b := 900) (by omega) (by decide)), e1, bnd_s, ew, bn1_s, eg, bn1_s, a_ref hC h hp h1 (by omega) (by omega), bn1_s, if_pos rfl]
      rw [show nI w + 271 = nI (w + 271) from nI_add w 271]
      rcases a_vid hC h hp h1 (w := w) (s := s) (by omega) (by omega) with ⟨q1, q2⟩ | ⟨q1, x, q2, q3⟩
      · rw [q2, bn1_s, if_neg (Int32.not_le.mpr q1), bn1_s, if_pos rfl]
        exact ih
      · rw [q3, bn1_s, if_pos (by rw [q1]; decide), L_wine hL hp, bn1_s, q2, bn1_s, bn1_s, if_pos rfl]
        exact ih
set_option maxRecDepth 20000 in
theorem c_374 (hL : sc.1 ≤ 260) (h : IV X (cfg sc) A) (f4 : Nat → Int32) : ∀ d p f, p + d = cfg sc 0 3 → d < f → f_L_cellar_374 X sc f f4 (nI p) = some 1 := by
  have hC := cfg_ok sc
  have hCb := hC.b
  intro d
  induction d with
  | zero =>
    intro p f hk hf
    obtain ⟨f, rfl⟩ := fuel hf
    unfold f_L_cellar_374 f_X11_plotCount
    rw [h.c.2.2.2.1, bn1_s, if_pos (nI_le (by omega) (by omega))]
  | succ d ih =>
    intro p f hk hf
    obtain ⟨f, rfl⟩ := fuel hf
    have ih := ih (p + 1) f (by omega) (by omega)
    unfold f_L_cellar_374 f_X11_plotCount
    rw [h.c.2.2.2.1, bn1_s, if_neg (nI_ge (by omega) (by omega)), show (40 : Int32) = nI 40 from rfl, c_387 hL h f4 (by omega) 4 40 2000 (by decide) (by decide) (by decide) (by decide), bn1_s, jn_r, nI_1]
    exact ih
set_option maxRecDepth 20000 in
theorem c_326 (hL : sc.1 ≤ 260) (h : IV X (cfg sc) A) (f4 : Nat → Int32) {v : Nat} (hv : v < cfg sc 0 1) : ∀ d w f, 1 ≤ w → w ≤ 3000 + 457 → 3000 ≤ w + 457 * d → d < f → f_L_cellar_326 X sc f4 (nI v) f (nI w) = some (.inr ()) := by
  have hC := cfg_ok sc
  have hCb := hC.b
  intro d
  induction d with
  | zero =>
    intro w f h1 h2 h3 hf
    obtain ⟨f, rfl⟩ := fuel hf
    rw [f_L_cellar_326, if_pos (show (3000 : Int32) ≤ nI w from nI_le (a := 3000) (by omega) (by omega))]
  | succ d ih =>
    intro w f h1 h2 h3 hf
    obtain ⟨f, rfl⟩ := fuel hf
    rw [f_L_cellar_326]
    by_cases c : 3000 ≤ w
    · rw [if_pos (show (3000 : Int32) ≤ nI w from nI_le (a := 3000) (by omega) (by omega))]
    · have ih := ih (w + 457) f (by omega) (by omega) (by omega) (by omega)
      unfold f_X11_tankFor
      rw [if_neg (show ¬ (3000 : Int32) ≤ nI w from nI_ge (b := 3000) (by omega) (by decide)), n_var hC h hv, bn1_s, n_wei h1 (by omega), bn1_s, q_cho hC h (by omega) (by omega), bn1_s, bn1_s, L_tank hL h (by omega) (by omega), bn1_s, if_pos rfl, show nI w + 457 = nI (w + 457) from nI_add w 457]
      exact ih
set_option maxRecDepth 20000 in
theorem gw_sp (C A : NF) (v : Nat) : ∀ d k m, m ≤ gw C A v d k m ∧ (∀ t, k ≤ t → t < k + d → A 9 t = 0 ∨ A 10 t = v → C 5 t - A 9 t ≤ gw C A v d k m) ∧ (gw C A v d k m = m ∨ ∃ t, k ≤ t ∧ t < k + d ∧ (A 9 t = 0 ∨ A 10 t = v) ∧ C 5 t - A 9 t = gw C A v d k m) := by
  intro d
  induction d with
  | zero => exact fun k m => ⟨Nat.le_refl _, fun t h1 h2 => by omega, Or.inl rfl⟩
  | succ d ih =>
    intro k m
    rw [gw]
    by_cases c : A 9 k = 0 ∨ A 10 k = v
    · rw [if_pos c]
      by_cases c2 : m < C 5 k - A 9 k
      · rw [if_pos c2]
        obtain ⟨h1, h2, h3⟩ := ih (k + 1) (C 5 k - A 9 k)
        refine ⟨by omega, fun t q1 q2 q3 => ?_, ?_⟩
        · by_cases e : t = k
          · subst e
            exact h1
          · exact h2 t (by omega) (by omega) q3
        · rcases h3 with h3 | ⟨t, q1, q2, q3, q4⟩
          · exact Or.inr ⟨k, by omega, by omega, c, h3.symm⟩
          · exact Or.inr ⟨t, by omega, by omega, q3, q4⟩
      · rw [if_neg c2]
        obtain ⟨h1, h2, h3⟩ := ih (k + 1) m
        refine ⟨h1, fun t q1 q2 q3 => ?_, ?_⟩
        · by_cases e : t = k
          · subst e
            omega
          · exact h2 t (by omega) (by omega) q3
        · rcases h3 with h3 | ⟨t, q1, q2, q3, q4⟩
          · exact Or.inl h3
          · exact Or.inr ⟨t, by omega, by omega, q3, q4⟩
    · rw [if_neg c]
      obtain ⟨h1, h2, h3⟩ := ih (k + 1) m
      refine ⟨h1, fun t q1 q2 q3 => ?_, ?_⟩
      · by_cases e : t = k
        · subst e
          exact absurd q3 c
        · exact h2 t (by omega) (by omega) q3
      · rcases h3 with h3 | ⟨t, q1, q2, q3, q4⟩
        · exact Or.inl h3
        · exact Or.inr ⟨t, by omega, by omega, q3, q4⟩
set_option maxRecDepth 20000 in
theorem gw_pos {C A : NF} (hC : CO C) {v : Nat} (h : 0 < gw C A v (C 0 4) 0 0) : tk C A v (gw C A v (C 0 4) 0 0) ≠ -1 := by
  have hb := hC.b
  obtain ⟨-, -, h3⟩ := gw_sp C A v (C 0 4) 0 0
  rcases h3 with h3 | ⟨t, q1, q2, q3, q4⟩
  · omega
  · intro e
    unfold tk at e
    split at e
    · rename_i c
      have n1 := ft_no _ _ 0 (by omega) c t (by omega) (by omega)
      have n2 := ft_no _ _ 0 (by omega) e t (by omega) (by omega)
      have n1 := of_decide_eq_false n1
      have n2 := of_decide_eq_false n2
      by_cases z : A 9 t = 0
      · exact n2 ⟨z, by omega⟩
      · exact n1 ⟨z, q3.resolve_left z, by omega⟩
    · rename_i c
      exact c e
set_option maxRecDepth 20000 in
theorem gw_more {C A : NF} {v w : Nat} (h : gw C A v (C 0 4) 0 0 < w) : tk C A v w = -1 := by
  obtain ⟨-, h2, -⟩ := gw_sp C A v (C 0 4) 0 0
  rcases tk_or C A v w with q | ⟨t, q1, q2, q3, q4⟩
  · exact q
  · have := h2 t (by omega) (by omega) q4
    omega
set_option maxRecDepth 20000 in
theorem c_249 (hL : sc.1 ≤ 260) (h : IV X (cfg sc) A) : ∀ d v f, v + d = cfg sc 0 1 → d < f → f_L_cellar_249 X sc f (cO A (cfg sc 0 4) (A 0 1)) (nI v) = some 1 := by
  have hC := cfg_ok sc
  have hCb := hC.b
  intro d
  induction d with
  | zero =>
    intro v f hk hf
    obtain ⟨f, rfl⟩ := fuel hf
    unfold f_L_cellar_249 f_X11_varietyCount
    rw [h.c.2.1, bn1_s, if_pos (nI_le (by omega) (by omega))]
    exact c_374 hL h _ (cfg sc 0 3) 0 2000 (by omega) (by omega)
  | succ d ih =>
    intro v f hk hf
    obtain ⟨f, rfl⟩ := fuel hf
    have ih := ih (v + 1) f (by omega) (by omega)
    obtain ⟨g1, g2⟩ := q_gwe hC h (v := v) (by omega)
    have e2 := L_tank hL h (v := v) (w := gw (cfg sc) A v (cfg sc 0 4) 0 0 + 1) (by omega) (by omega)
    have e3 := L_tank hL h (v := v) (w := gw (cfg sc) A v (cfg sc 0 4) 0 0) (by omega) (by omega)
    have n2 := gw_more (C := cfg sc) (A := A) (v := v) (w := gw (cfg sc) A v (cfg sc 0 4) 0 0 + 1) (by omega)
    have n3 := fun q => gw_pos (A := A) hC (v := v) q
    have e4 := c_326 hL h (cO A (cfg sc 0 4) (A 0 1)) (v := v) (by omega) 7 1 2000 (by decide) (by decide) (by decide) (by decide)
    rw [n2] at e2
    obtain ⟨m, hm⟩ : ∃ m, m = gw (cfg sc) A v (cfg sc 0 4) 0 0 := ⟨_, rfl⟩
    rw [← hm] at g1 g2 e2 e3 n3
    unfold f_L_cellar_249 f_X11_varietyCount f_X11_greatestLoad f_X11_bottlesOf
    rw [h.c.2.1, bn1_s, if_neg (nI_ge (by omega) (by omega)), n_var hC h (by omega), bn1_s, bn1_s, g2, bn1_s, bn1_s, q_sto hC h (by omega), bn1_s, bn1_s, gd_t (nI_in (by omega) (by decide)), nI_clamp (by omega), bnd_s, if_pos (show nI (sT A v (cfg sc 0 4) + sO A v (A 0 1)) = cO A (cfg sc 0 4) (A 0 1) v from rfl)]
    rw [show nI m + 1 = nI (m + 1) from nI_add m 1, e2, bn1_s, e3, bn1_s, show f_L_cellar_326 X sc (cO A (cfg sc 0 4) (A 0 1)) (nI v) 2000 1 = _ from e4, bn1_s, jn_r, nI_1, if_pos rfl, if_neg (show ¬ (5000 : Int32) ≤ nI m from nI_ge (b := 5000) (by omega) (by decide)), ih]
    by_cases c : m = 0
    · rw [if_pos ((nI_le0 (by omega)).mpr c)]
    · rw [if_neg (fun q => c ((nI_le0 (by omega)).mp q)), if_neg (n3 (by omega))]
set_option maxRecDepth 20000 in
theorem ou_lt (h : IV X (cfg sc) A) {b : Nat} (hb : b < A 0 1) : A 15 b ≤ 14000 := by
  obtain ⟨⟨u1, u2, u3⟩, -⟩ := h.o hb
  have hbb := h.b
  have := h.s.1
  have h1 := SR_one (f := A 14) hb
  have h2 := SR_le (f := A 2) (B := 700) (A 0 0) 0 (fun i _ hi => by
    obtain ⟨⟨l1, l2, l3, l4, l5, l6⟩, -⟩ := h.l (k := i) (by omega)
    exact l3)
  omega
set_option maxRecDepth 20000 in
theorem c_168 (hL : sc.1 ≤ 260) (h : IV X (cfg sc) A) : ∀ d k f, k + d = A 0 1 → d < f → f_L_cellar_168 X sc f (cO A (cfg sc 0 4) k) (sw A k).1 (nI k) = some 1 := by
  have hC := cfg_ok sc
  have hCb := hC.b
  have hb := h.b
  intro d
  induction d with
  | zero =>
    intro k f hk hf
    obtain ⟨f, rfl⟩ := fuel hf
    have : k = A 0 1 := hk
    subst this
    unfold f_L_cellar_168 f_X11_lotCount f_X11_sweetestLot
    rw [h.c.2.2.2.2.2.2, bn1_s, if_pos (nI_le (by omega) (by omega)), q_swe hC h, bn1_s, bn1_s, if_pos rfl]
    exact c_249 hL h (cfg sc 0 1) 0 2000 (by omega) (by omega)
  | succ d ih =>
    intro k f hk hf
    obtain ⟨f, rfl⟩ := fuel hf
    have hkn : k < A 0 1 := by omega
    have ih := ih (k + 1) f (by omega) (by omega)
    obtain ⟨⟨u1, u2, u3⟩, z0, z1, z2, z3⟩ := h.o hkn
    have hu := ou_lt h hkn
    have hg : ¬ (nI (A 12 k) < 0 ∨ 4 ≤ (nI (A 12 k)).toNatClampNeg) := nI_in (by omega) (by decide)
    have hcl : (nI (A 12 k)).toNatClampNeg = A 12 k := nI_clamp (by omega)
    unfold f_L_cellar_168 f_X11_lotCount
    rw [h.c.2.2.2.2.2.2, bn1_s, if_neg (nI_ge hkn (by omega)), a_lva h hkn, bn1_s, gd_t hg, hcl, bnd_s, a_uns h hkn, bn1_s, gd_t (gin (by omega) (by omega)), bnd_s, cO_1, bn1_s, nI_1]
    rw [sw] at ih
    by_cases c : A 15 k = 0
    · rw [if_pos c] at ih
      rw [if_pos ((nI_le0 (by omega)).mpr c)]
      exact ih
    · rw [if_neg c] at ih
      rw [if_neg (fun q => c ((nI_le0 (by omega)).mp q))]
      rcases sw_or A k with q | ⟨b, q1, q2⟩
      · rw [q] at ih ⊢
        rw [if_neg (show ¬ nI (A 13 k) ≤ (-1, -1).2 from fun e => absurd (Int32.lt_of_le_of_lt e (by decide : ((-1 : Int32)) < 0)) (nI_pos (by omega)))] at ih
        rw [if_pos rfl]
        exact ih
      · rw [q2] at ih ⊢
        rw [if_neg (nI_m1 (by omega)), a_lsu h hkn, bn1_s, a_lsu h (by omega), bn1_s]
        by_cases c2 : nI (A 13 k) ≤ nI (A 13 b)
        · rw [if_pos c2] at ih ⊢
          exact ih
        · rw [if_neg c2] at ih ⊢
          exact ih
set_option maxRecDepth 20000 in
theorem c_12 (hL : sc.1 ≤ 260) (h : IV X (cfg sc) A) : ∀ d k f, k + d = cfg sc 0 4 → d < f → f_L_cellar_12 X sc f (cT A k) (nI (SR (A 9) 0 k)) (nI (SR (cfg sc 5) 0 k)) (nI k) = some 1 := by
  have hC := cfg_ok sc
  have hCb := hC.b
  have hb := h.b
  intro d
  induction d with
  | zero =>
    intro k f hk hf
    obtain ⟨f, rfl⟩ := fuel hf
    have : k = cfg sc 0 4 := hk
    subst this
    have hle := SR_le (f := cfg sc 5) (B := 3000) (cfg sc 0 4) 0 (fun i _ hi => hC.t (by omega))
    have en : f_L_cellar_168 X sc 2000 (cT A (cfg sc 0 4)) (-1) 0 = some 1 := c_168 hL h (A 0 1) 0 2000 (by omega) (by omega)
    unfold f_L_cellar_12 f_X11_fullness
    rw [L_tanks hL, bn1_s, if_pos (nI_le (by omega) (by omega)), q_tca hC h, bn1_s, q_tc hC h, bn1_s]
    by_cases c : SR (cfg sc 5) 0 (cfg sc 0 4) = 0
    · rw [if_pos ((nI_le0 (by omega)).mpr c), if_pos ((nI_01 (by omega)).mpr c), bn1_s, bn1_s, if_pos fl_00]
      exact en
    · have hne : ¬ nI (SR (cfg sc 5) 0 (cfg sc 0 4)) = 0 := fun q => c ((nI_01 (by omega)).mp q)
      rw [if_neg (fun q => c ((nI_le0 (by omega)).mp q)), if_neg hne, gd_t (show (FP.fdiv (FP.i2f (nI (SR (A 9) 0 (cfg sc 0 4)))) (FP.i2f (nI (SR (cfg sc 5) 0 (cfg sc 0 4))))) &&& 0x7fffffff ≤ 0x7f800000 from fl_32 _ hne), bn1_s, bn1_s, if_pos (fl_eq32 _ hne)]
      exact en
  | succ d ih =>
    intro k f hk hf
    obtain ⟨f, rfl⟩ := fuel hf
    have hkn : k < cfg sc 0 4 := by omega
    obtain ⟨t1, y0, y1, y2, y3, t4, t5⟩ := h.t hkn
    have hc := hC.t hkn
    have ih := ih (k + 1) f (by omega) (by omega)
    rw [SR_succ, SR_succ] at ih
    unfold f_L_cellar_12
    rw [L_tanks hL, bn1_s, if_neg (nI_ge hkn (by omega)), a_con hC h hkn, L_cap hL (by omega), a_vin hC h hkn, a_mea hC h hkn]
    simp only [bn1_s, bnd_s, nI_add, nI_1]
    rw [if_neg (nI_nlt t1 (by omega))]
    by_cases c : A 9 k = 0
    · rw [if_pos ((nI_01 (by omega)).mpr c), if_pos c, if_pos rfl, if_pos ((nI_01 (by omega)).mpr c), c, Nat.div_zero, if_pos nI_0, bn1_s, jn_r, if_pos (by decide), bn1_s]
      rw [c, ← cT_0 c] at ih
      exact ih
    · have hv := t4 (by omega)
      have hn0 : ¬ nI (A 9 k) = 0 := fun q => c ((nI_01 (by omega)).mp q)
      rw [if_neg hn0, if_neg c, if_neg (nI_m1 (by omega)), if_neg hn0, bn1_s, jn_r, if_neg (fun q => c ((nI_le0 (by omega)).mp q))]
      have hg : ¬ (nI (A 10 k) < 0 ∨ 4 ≤ (nI (A 10 k)).toNatClampNeg) := nI_in (by omega) (by decide)
      rw [gd_t hg, gd_t hg, bn1_s, nI_clamp (by omega), cT_1 c]
      exact ih
set_option maxRecDepth 20000 in
theorem L_cellar (hL : sc.1 ≤ 260) (h : IV X (cfg sc) A) : f_L_cellar X sc = some 1 := by
  have hCb := (cfg_ok sc).b
  have e : (fun _ => 0 : Nat → Int32) = cT A 0 := rfl
  unfold f_L_cellar
  rw [e]
  exact c_12 hL h (cfg sc 0 4) 0 2000 (by omega) (by omega)
end CEL
