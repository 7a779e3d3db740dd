/-! PURE: the questions of book 1 in closed form: tanks, growers, lots -/
/-- the first of d places from k on with P -/
def ft (P : Nat → Bool) : Nat → Nat → Int32 | 0, _ => -1 | d + 1, k => if P k = true then nI k else ft P d (k + 1)
def hT (C A : NF) (v w t : Nat) : Bool := decide (A 9 t ≠ 0 ∧ A 10 t = v ∧ w ≤ C 5 t - A 9 t)
def eT (C A : NF) (w t : Nat) : Bool := decide (A 9 t = 0 ∧ w ≤ C 5 t - A 9 t)
/-- the tank for a variety and a weight -/
def tk (C A : NF) (v w : Nat) : Int32 := if ft (hT C A v w) (C 0 4) 0 = -1 then ft (eT C A w) (C 0 4) 0 else ft (hT C A v w) (C 0 4) 0
/-- the greatest room for a variety -/
def gw (C A : NF) (v : Nat) : Nat → Nat → Nat → Nat | 0, _, m => m | d + 1, k, m => gw C A v d (k + 1) (if A 9 k = 0 ∨ A 10 k = v then (if m < C 5 k - A 9 k then C 5 k - A 9 k else m) else m)
/-- the grower with the most weight, and the weight -/
def hgr (W : Nat → Nat) : Nat → Int32 × Int32 | 0 => (-1, -1) | k + 1 => if nI (W k) ≤ (hgr W k).2 then hgr W k else (nI k, nI (W k))
/-- the growers that can be paid one after the other: what is left, how many, whether it has stopped -/
def py (O : Nat → Nat) (ca : Nat) : Nat → Nat × Nat × Bool | 0 => (ca, 0, false) | k + 1 => if (py O ca k).2.2 = true ∨ (py O ca k).1 < O k then ((py O ca k).1, (py O ca k).2.1, true) else if O k = 0 then ((py O ca k).1, (py O ca k).2.1, false) else ((py O ca k).1 - O k, (py O ca k).2.1 + 1, false)
/-- whether one of the first k loads is of this variety and this grower -/
def hv (C A : NF) (v p : Nat) : Nat → Bool | 0 => false | k + 1 => hv C A v p k || decide (C 3 (A 1 k) = v ∧ C 2 (A 1 k) = p)
/-- the sweetest lot with bottles, and its sugar -/
def sw (A : NF) : Nat → Int32 × Int32 | 0 => (-1, -1) | k + 1 => if A 15 k = 0 then sw A k else if nI (A 13 k) ≤ (sw A k).2 then sw A k else (nI k, nI (A 13 k))
set_option maxRecDepth 20000 in
theorem ft_or (P : Nat → Bool) : ∀ d k, ft P d k = -1 ∨ ∃ t, k ≤ t ∧ t < k + d ∧ P t = true ∧ ft P d k = nI t := by
  intro d
  induction d with
  | zero => exact fun _ => Or.inl rfl
  | succ d ih =>
    intro k
    rw [ft]
    split
    · exact Or.inr ⟨k, by omega, by omega, by assumption, rfl⟩
    · rcases ih (k + 1) with h | ⟨t, h1, h2, h3, h4⟩
      · exact Or.inl h
      · exact Or.inr ⟨t, by omega, by omega, h3, h4⟩
set_option maxRecDepth 20000 in
theorem ft_no (P : Nat → Bool) : ∀ d k, k + d < 2 ^ 31 → ft P d k = -1 → ∀ t, k ≤ t → t < k + d → P t = false := by
  intro d
  induction d with
  | zero => intros; omega
  | succ d ih =>
    intro k hk h t h1 h2
    rw [ft] at h
    split at h
    · exact absurd h (nI_m1 (by omega))
    · by_cases q : t = k
      · subst q
        simp_all
      · exact ih (k + 1) (by omega) h t (by omega) (by omega)
set_option maxRecDepth 20000 in
theorem tk_or (C A : NF) (v w : Nat) : tk C A v w = -1 ∨ ∃ t, t < C 0 4 ∧ tk C A v w = nI t ∧ w ≤ C 5 t - A 9 t ∧ (A 9 t = 0 ∨ A 10 t = v) := by
  unfold tk
  split
  · rcases ft_or (eT C A w) (C 0 4) 0 with h | ⟨t, h1, h2, h3, h4⟩
    · exact Or.inl h
    · have := of_decide_eq_true h3
      exact Or.inr ⟨t, by omega, h4, this.2, Or.inl this.1⟩
  · rcases ft_or (hT C A v w) (C 0 4) 0 with h | ⟨t, h1, h2, h3, h4⟩
    · exact Or.inl h
    · have := of_decide_eq_true h3
      exact Or.inr ⟨t, by omega, h4, this.2.2, Or.inr this.2.1⟩
set_option maxRecDepth 20000 in
theorem i10 {c : Prop} [Decidable c] {α : Type} {a b : α} : (if (if c then (1 : Int32) else 0) = 0 then a else b) = if c then b else a := by
  by_cases h : c
  · rw [if_pos h, if_pos h, if_neg (by decide)]
  · rw [if_neg h, if_neg h, if_pos rfl]
section QRY3
variable {X : XT} {C A : NF}
set_option maxRecDepth 20000 in
theorem q_room (hC : CO C) (h : IV X C A) {t : Nat} (ht : t < C 0 4) : f_X9_room X 1 t = some (nI (C 5 t - A 9 t)) := by
  obtain ⟨t1, y0, y1, -⟩ := h.t ht
  unfold f_X9_room
  rw [y0, y1, pk_sub t1]
set_option maxRecDepth 20000 in
theorem q_hol (hC : CO C) (h : IV X C A) {t v : Nat} (ht : t < C 0 4) (hv : v < 100) : f_X9_holds X 1 t (nI v) = some (if A 9 t ≠ 0 ∧ A 10 t = v then 1 else 0) := by
  obtain ⟨t1, y0, y1, y2, y3, t4, t5⟩ := h.t ht
  have hc := hC.t ht
  have hCb := hC.b
  unfold f_X9_holds
  rw [y1, y2]
  by_cases c : A 9 t = 0
  · rw [if_pos ((nI_le0 (by omega)).mpr c), if_neg (fun q => q.1 c)]
  · rw [if_neg (fun q => c ((nI_le0 (by omega)).mp q)), if_neg c]
    have := t4 (by omega)
    by_cases c2 : A 10 t = v
    · rw [if_pos (congrArg nI c2), if_pos ⟨c, c2⟩]
    · rw [if_neg (fun q => c2 ((nI_eq (by omega) (by omega)).mp q)), if_neg (fun q => c2 q.2)]
set_option maxRecDepth 20000 in
theorem q_tak (hC : CO C) (h : IV X C A) {t v : Nat} (ht : t < C 0 4) (hv : v < 100) : f_X9_takes X 1 t (nI v) = some (if A 9 t = 0 ∨ A 10 t = v then 1 else 0) := by
  obtain ⟨t1, y0, y1, y2, y3, t4, t5⟩ := h.t ht
  have hc := hC.t ht
  have hCb := hC.b
  unfold f_X9_takes
  rw [y1, y2]
  by_cases c : A 9 t = 0
  · rw [if_pos ((nI_01 (by omega)).mpr c), if_pos (Or.inl c)]
  · rw [if_neg (fun q => c ((nI_01 (by omega)).mp q)), if_neg c]
    have := t4 (by omega)
    by_cases c2 : A 10 t = v
    · rw [if_pos (congrArg nI c2), if_pos (Or.inr c2)]
    · rw [if_neg (fun q => c2 ((nI_eq (by omega) (by omega)).mp q)), if_neg (fun q => q.elim c c2)]
set_option maxRecDepth 20000 in
theorem p_cho (hC : CO C) (h : IV X C A) {v w : Nat} (hv : v < 100) (hw : w < 2 ^ 31) : ∀ d k f e, k + d = C 0 4 → d < f → f_X2_chooseTank_5 X 1 (nI v) (nI w) f e (nI k) = some (if ft (hT C A v w) d k = -1 then (if e = -1 then ft (eT C A w) d k else e) else ft (hT C A v w) d k) := by
  have hCb := hC.b
  intro d
  induction d with
  | zero =>
    intro k f e hk hf
    obtain ⟨f, rfl⟩ := fuel hf
    rw [f_X2_chooseTank_5, h.c.2.2.2.2.2.1, if_pos (nI_le (by omega) (by omega)), ft, ft, if_pos rfl]
    split
    · rename_i q
      rw [q]
    · rfl
  | succ d ih =>
    intro k f e hk hf
    obtain ⟨f, rfl⟩ := fuel hf
    have hkn : k < C 0 4 := by omega
    obtain ⟨t1, y0, y1, y2, y3, t4, t5⟩ := h.t hkn
    have hc := hC.t hkn
    have ih := fun e => ih (k + 1) f e (by omega) (by omega)
    rw [f_X2_chooseTank_5, h.c.2.2.2.2.2.1, if_neg (nI_ge hkn (by omega)), gd_t (nI_in (by omega) (by decide)), nI_clamp (by omega), q_room hC h hkn, bn1_s, q_hol hC h hkn hv, bn1_s, i10, y1, nI_1, ft, ft]
    by_cases c1 : w ≤ C 5 k - A 9 k
    · rw [if_neg (nI_nlt c1 (by omega))]
      by_cases c2 : A 9 k = 0
      · rw [if_neg (fun q => q.1 c2), if_pos ((nI_01 (by omega)).mpr c2)]
        have e1 : hT C A v w k = false := decide_eq_false (fun q => q.1 c2)
        have e2 : eT C A w k = true := decide_eq_true ⟨c2, c1⟩
        simp only [e1, e2, Bool.false_eq_true, if_false, if_true]
        by_cases c3 : e = -1
        · rw [if_pos c3, if_pos c3, ih]
          rw [if_neg (nI_m1 (by omega))]
        · rw [if_neg c3, if_neg c3, ih, if_neg c3]
      · have e2 : eT C A w k = false := decide_eq_false (fun q => c2 q.1)
        rw [e2, if_neg (c := (false = true)) (by decide)]
        by_cases c3 : A 10 k = v
        · have e1 : hT C A v w k = true := decide_eq_true ⟨c2, c3, c1⟩
          rw [if_pos ⟨c2, c3⟩, e1, if_pos rfl, if_neg (nI_m1 (by omega))]
        · have e1 : hT C A v w k = false := decide_eq_false (fun q => c3 q.2.1)
          rw [if_neg (fun q => c3 q.2), if_neg (fun q => c2 ((nI_01 (by omega)).mp q)), e1, if_neg (c := (false = true)) (by decide), ih]
    · have e1 : hT C A v w k = false := decide_eq_false (fun q => c1 q.2.2)
      have e2 : eT C A w k = false := decide_eq_false (fun q => c1 q.2)
      rw [if_pos (nI_lt (by omega) (by omega)), e1, e2, if_neg (c := (false = true)) (by decide), if_neg (c := (false = true)) (by decide), ih]
set_option maxRecDepth 20000 in
theorem q_cho (hC : CO C) (h : IV X C A) {v w : Nat} (hv : v < 100) (hw : w < 2 ^ 31) : f_X2_chooseTank X 1 (nI v) (nI w) = some (tk C A v w) := by
  have hCb := hC.b
  unfold f_X2_chooseTank tk
  rw [show (0 : Int32) = nI 0 from rfl, p_cho hC h hv hw (C 0 4) 0 2000 (-1) (by omega) (by omega), if_pos rfl]
set_option maxRecDepth 20000 in
theorem p_gwe (hC : CO C) (h : IV X C A) {v : Nat} (hv : v < 100) : ∀ d k f m, k + d = C 0 4 → d < f → m ≤ 3000 → gw C A v d k m ≤ 3000 ∧ f_X2_greatestWeightFor_4 X 1 (nI v) f (nI m) (nI k) = some (nI (gw C A v d k m)) := by
  have hCb := hC.b
  intro d
  induction d with
  | zero =>
    intro k f m hk hf hm
    obtain ⟨f, rfl⟩ := fuel hf
    refine ⟨hm, ?_⟩
    rw [f_X2_greatestWeightFor_4, h.c.2.2.2.2.2.1, if_pos (nI_le (by omega) (by omega)), if_neg (show ¬ (5000 : Int32) < nI m from nI_nlt (a := 5000) (b := m) (by omega) (by omega))]
    rfl
  | succ d ih =>
    intro k f m hk hf hm
    obtain ⟨f, rfl⟩ := fuel hf
    have hkn : k < C 0 4 := by omega
    obtain ⟨t1, y0, y1, y2, y3, t4, t5⟩ := h.t hkn
    have hc := hC.t hkn
    have hg : ¬ (nI k < 0 ∨ 5 ≤ (nI k).toNatClampNeg) := nI_in (by omega) (by decide)
    have hcl : (nI k).toNatClampNeg = k := nI_clamp (by omega)
    rw [gw, f_X2_greatestWeightFor_4, h.c.2.2.2.2.2.1, if_neg (nI_ge hkn (by omega)), gd_t hg, gd_t hg, hcl, q_tak hC h hkn hv, bn1_s, i10, q_room hC h hkn, bn1_s, bnd_s, nI_1]
    by_cases c : A 9 k = 0 ∨ A 10 k = v
    · rw [if_pos c, if_pos c]
      by_cases c2 : m < C 5 k - A 9 k
      · rw [if_pos (nI_lt c2 (by omega)), if_pos c2]
        exact ih (k + 1) f _ (by omega) (by omega) (by omega)
      · rw [if_neg (nI_nlt (by omega) (by omega)), if_neg c2]
        exact ih (k + 1) f _ (by omega) (by omega) (by omega)
    · rw [if_neg c, if_neg c]
      exact ih (k + 1) f _ (by omega) (by omega) (by omega)
set_option maxRecDepth 20000 in
theorem q_gwe (hC : CO C) (h : IV X C A) {v : Nat} (hv : v < 100) : gw C A v (C 0 4) 0 0 ≤ 3000 ∧ f_X2_greatestWeightFor X 1 (nI v) = some (nI (gw C A v (C 0 4) 0 0)) := by
  have hCb := hC.b
  exact p_gwe hC h hv (C 0 4) 0 2000 0 (by omega) (by omega) (by omega)
set_option maxRecDepth 20000 in
theorem kil_le (h : IV X C A) (p : Nat) : kil A p (A 0 0) ≤ 14000 := by
  have hb := h.b
  have := SR_le (f := fun i => if A 1 i = p then A 2 i else 0) (B := 700) (A 0 0) 0 (fun i _ hi => by
    obtain ⟨⟨l1, l2, l3, l4, l5, l6⟩, -⟩ := h.l (k := i) (by omega)
    split <;> omega)
  unfold kil
  omega
set_option maxRecDepth 20000 in
theorem q_rea (hC : CO C) (h : IV X C A) {p w s : Nat} (hp : p < C 0 3) (hw : w < 2 ^ 31) (hs : s < 2 ^ 31) : f_X0_reasonAgainst X 1 (nI p) (nI w) (nI s) = some (if A 0 0 = 20 then 1 else if gr C s = -1 then 2 else if tk C A (C 3 p) w = -1 then 3 else 0) := by
  have hb := h.b
  have hCb := hC.b
  have hq := hC.p hp
  unfold f_X0_reasonAgainst f_X3_isFull
  rw [h.c.2.2.2.2.1, q_gr hC h hs, bn1_s, q_von hC h hp, bn1_s, q_cho hC h (by omega) hw, bn1_s]
  by_cases c : A 0 0 = 20
  · rw [if_neg (by rw [c]; decide), bn1_s, if_neg (by decide), if_pos c]
  · rw [if_pos (show nI (A 0 0) < 20 from nI_lt (a := A 0 0) (b := 20) (by omega) (by omega)), bn1_s, if_pos rfl, if_neg c]
    by_cases c2 : gr C s = -1
    · rw [if_pos c2, if_pos c2]
    · rw [if_neg c2, if_neg c2]
      by_cases c3 : tk C A (C 3 p) w = -1
      · rw [if_pos c3, if_pos c3]
      · rw [if_neg c3, if_neg c3]
set_option maxRecDepth 20000 in
theorem q_gfo (hC : CO C) (h : IV X C A) {p w s : Nat} (hp : p < C 0 3) (hw : w ≤ 5000) (hs : s < 2 ^ 31) : f_X0_gradeFor X 1 (nI p) (nI w) (nI s) = some (if C 4 p < kil A p (A 0 0) + w then nI (C 0 0 - 1) else gr C s) := by
  have hb := h.b
  have hCb := hC.b
  have hq := hC.p hp
  have hk := kil_le h p
  unfold f_X0_gradeFor
  rw [q_har hC h (by omega), bn1_s, q_lim hC h hp, bn1_s, nI_add, q_gr hC h hs, bn1_s, h.c.1]
  rw [show SR (fun i => if A 1 i = p then A 2 i else 0) 0 (A 0 0) = kil A p (A 0 0) from rfl]
  by_cases c : C 4 p < kil A p (A 0 0) + w
  · rw [if_neg (nI_ge c (by omega)), if_pos c, show (1 : Int32) = nI 1 from rfl, pk_sub (by omega)]
  · rw [if_pos (nI_le (by omega) (by omega)), if_neg c]
set_option maxRecDepth 20000 in
theorem gwl1 {a b : Nat} (ha : a ≤ 2400) (hb : b ≤ 14000) : (if 0 < (if 5000 < nI a - nI b then 5000 else nI a - nI b) then (if 5000 < nI a - nI b then 5000 else nI a - nI b) else 0) = nI (a - b) := by
  by_cases c : b ≤ a
  · rw [pk_sub c, if_neg (show ¬ (5000 : Int32) < nI (a - b) from nI_nlt (a := 5000) (b := a - b) (by omega) (by omega))]
    by_cases c2 : a - b = 0
    · rw [c2]
      decide
    · rw [if_pos (show 0 < nI (a - b) from nI_lt (a := 0) (b := a - b) (by omega) (by omega))]
  · have hn := pk_sneg (a := a) (b := b) (by omega) (by omega)
    have h1 : ¬ (5000 : Int32) < nI a - nI b := by
      intro q
      exact absurd (Int32.lt_trans q hn) (by decide)
    have h2 : ¬ (0 : Int32) < nI a - nI b := fun q => absurd (Int32.lt_trans q hn) (by decide)
    rw [if_neg h1, if_neg h2, show a - b = 0 by omega]
    rfl
set_option maxRecDepth 20000 in
theorem gwl2 {a b : Nat} (ha : a ≤ 2400) (hb : b ≤ 14000) : (if (if 0 < (nI a - nI b) then (nI a - nI b) else 0) < 5000 then (if 0 < (nI a - nI b) then (nI a - nI b) else 0) else 5000) = nI (a - b) := by
  by_cases c : b ≤ a
  · rw [pk_sub c]
    by_cases c2 : a - b = 0
    · rw [c2]
      decide
    · rw [if_pos (show 0 < nI (a - b) from nI_lt (a := 0) (b := a - b) (by omega) (by omega)), if_pos (show nI (a - b) < 5000 from nI_lt (a := a - b) (b := 5000) (by omega) (by omega))]
  · have hn := pk_sneg (a := a) (b := b) (by omega) (by omega)
    have h2 : ¬ (0 : Int32) < nI a - nI b := fun q => absurd (Int32.lt_trans q hn) (by decide)
    rw [if_neg h2, show a - b = 0 by omega]
    decide
set_option maxRecDepth 20000 in
theorem q_gwl (hC : CO C) (h : IV X C A) {p : Nat} (hp : p < C 0 3) : f_X0_greatestWithinLimit X 1 (nI p) = some (nI (C 4 p - kil A p (A 0 0))) := by
  have hCb := hC.b
  unfold f_X0_greatestWithinLimit
  rw [q_lim hC h hp, bn1_s, q_har hC h (by omega), bn1_s, bnd_s]
  exact congrArg some (gwl1 (hC.p hp).2.2 (kil_le h p))
/-- what a grower has brought -/
def wg (C A : NF) (p k : Nat) : Nat := SR (fun i => if C 2 (A 1 i) = p then A 2 i else 0) 0 k
set_option maxRecDepth 20000 in
theorem p_hgr (hC : CO C) (h : IV X C A) : ∀ d k f, k + d = C 0 2 → d < f → f_X0_heaviestGrower_6 X 1 f (hgr (fun p => wg C A p (A 0 0)) k).1 (hgr (fun p => wg C A p (A 0 0)) k).2 (nI k) = some (hgr (fun p => wg C A p (A 0 0)) (C 0 2)).1 := by
  have hCb := hC.b
  intro d
  induction d with
  | zero =>
    intro k f hk hf
    obtain ⟨f, rfl⟩ := fuel hf
    have : k = C 0 2 := hk
    subst this
    rw [f_X0_heaviestGrower_6, h.c.2.2.1, if_pos (nI_le (by omega) (by omega))]
  | succ d ih =>
    intro k f hk hf
    obtain ⟨f, rfl⟩ := fuel hf
    have ih := ih (k + 1) f (by omega) (by omega)
    rw [f_X0_heaviestGrower_6, h.c.2.2.1, if_neg (nI_ge (by omega) (by omega)), q_wgr hC h (by omega), bn1_s, nI_1]
    rw [hgr] at ih
    by_cases c : nI (wg C A k (A 0 0)) ≤ (hgr (fun p => wg C A p (A 0 0)) k).2
    · rw [if_pos c] at ih
      rw [if_pos (show nI (SR (fun i => if C 2 (A 1 i) = k then A 2 i else 0) 0 (A 0 0)) ≤ _ from c)]
      exact ih
    · rw [if_neg c] at ih
      rw [if_neg (show ¬ nI (SR (fun i => if C 2 (A 1 i) = k then A 2 i else 0) 0 (A 0 0)) ≤ _ from c)]
      exact ih
set_option maxRecDepth 20000 in
theorem q_hgr (hC : CO C) (h : IV X C A) : f_X0_heaviestGrower X 1 = some (hgr (fun p => wg C A p (A 0 0)) (C 0 2)).1 := by
  have hCb := hC.b
  exact p_hgr hC h (C 0 2) 0 2000 (by omega) (by omega)
set_option maxRecDepth 20000 in
theorem py_stop {O : Nat → Nat} {ca : Nat} : ∀ d k, (py O ca k).2.2 = true → (py O ca (k + d)).2.1 = (py O ca k).2.1 ∧ (py O ca (k + d)).2.2 = true := by
  intro d
  induction d with
  | zero => exact fun k h => ⟨rfl, h⟩
  | succ d ih =>
    intro k h
    obtain ⟨h1, h2⟩ := ih k h
    rw [← Nat.add_assoc, py, if_pos (Or.inl h2)]
    exact ⟨h1, rfl⟩
set_option maxRecDepth 20000 in
theorem py_le {O : Nat → Nat} {ca : Nat} : ∀ k, (py O ca k).1 ≤ ca ∧ (py O ca k).2.1 ≤ k := by
  intro k
  induction k with
  | zero => exact ⟨Nat.le_refl _, Nat.le_refl _⟩
  | succ k ih =>
    rw [py]
    split
    · exact ⟨ih.1, by have := ih.2; simp only; omega⟩
    · split
      · exact ⟨ih.1, by have := ih.2; simp only; omega⟩
      · exact ⟨by have := ih.1; simp only; omega, by have := ih.2; simp only; omega⟩
set_option maxRecDepth 20000 in
theorem p_pay (hC : CO C) (h : IV X C A) : ∀ d k f, k + d = C 0 2 → d < f → (py (fun p => SR (ow C A p) 0 (A 0 0)) (A 0 2) k).2.2 = false → f_X0_countPayable_9 X 1 f (nI (py (fun p => SR (ow C A p) 0 (A 0 0)) (A 0 2) k).1) (nI (py (fun p => SR (ow C A p) 0 (A 0 0)) (A 0 2) k).2.1) (nI k) = some (nI (py (fun p => SR (ow C A p) 0 (A 0 0)) (A 0 2) (C 0 2)).2.1) := by
  have hCb := hC.b
  have hb := h.b
  intro d
  induction d with
  | zero =>
    intro k f hk hf hs
    obtain ⟨f, rfl⟩ := fuel hf
    have : k = C 0 2 := hk
    subst this
    rw [f_X0_countPayable_9, h.c.2.2.1, if_pos (nI_le (by omega) (by omega))]
  | succ d ih =>
    intro k f hk hf hs
    obtain ⟨f, rfl⟩ := fuel hf
    have ih := ih (k + 1) f (by omega) (by omega)
    have hp := (py_le (O := fun p => SR (ow C A p) 0 (A 0 0)) (ca := A 0 2) k).1
    have ho := owe_le hC h k
    rw [f_X0_countPayable_9, h.c.2.2.1, if_neg (nI_ge (by omega) (by omega)), q_owe hC h (by omega), bn1_s, nI_1, nI_1]
    by_cases c : (py (fun p => SR (ow C A p) 0 (A 0 0)) (A 0 2) k).1 < SR (ow C A k) 0 (A 0 0)
    · rw [if_neg (nI_ge c (by omega))]
      have e : py (fun p => SR (ow C A p) 0 (A 0 0)) (A 0 2) (k + 1) = ((py (fun p => SR (ow C A p) 0 (A 0 0)) (A 0 2) k).1, (py (fun p => SR (ow C A p) 0 (A 0 0)) (A 0 2) k).2.1, true) := by
        rw [py, if_pos (Or.inr c)]
      have := py_stop (O := fun p => SR (ow C A p) 0 (A 0 0)) (ca := A 0 2) d (k + 1) (by rw [e])
      rw [show k + 1 + d = C 0 2 by omega, e] at this
      rw [this.1]
    · have hno : ¬ ((py (fun p => SR (ow C A p) 0 (A 0 0)) (A 0 2) k).2.2 = true ∨ (py (fun p => SR (ow C A p) 0 (A 0 0)) (A 0 2) k).1 < SR (ow C A k) 0 (A 0 0)) := fun q => q.elim (fun q => by rw [hs] at q; cases q) c
      rw [if_pos (nI_le (by omega) (by omega))]
      rw [py, if_neg hno] at ih
      by_cases c2 : SR (ow C A k) 0 (A 0 0) = 0
      · rw [if_pos c2] at ih
        rw [if_pos ((nI_le0 (by omega)).mpr c2)]
        exact ih rfl
      · rw [if_neg c2] at ih
        rw [if_neg (fun q => c2 ((nI_le0 (by omega)).mp q)), bnd_s, pk_sub (by omega)]
        exact ih rfl
set_option maxRecDepth 20000 in
theorem q_pay (hC : CO C) (h : IV X C A) : f_X0_countPayable X 1 = some (nI (py (fun p => SR (ow C A p) 0 (A 0 0)) (A 0 2) (C 0 2)).2.1) := by
  have hCb := hC.b
  unfold f_X0_countPayable
  rw [h.m.1]
  exact p_pay hC h (C 0 2) 0 2000 (by omega) (by omega) rfl
set_option maxRecDepth 20000 in
theorem hv_mono {v p : Nat} : ∀ d k, hv C A v p k = true → hv C A v p (k + d) = true := by
  intro d
  induction d with
  | zero => exact fun k h => h
  | succ d ih =>
    intro k h
    rw [← Nat.add_assoc, hv, ih k h]
    rfl
set_option maxRecDepth 20000 in
theorem p_hva (hC : CO C) (h : IV X C A) {v p : Nat} (hv0 : v < 100) (hp : p < 100) : ∀ d k f, k + d = A 0 0 → d < f → hv C A v p k = false → f_X3_hasVarietyFrom_2 X 1 (nI v) (nI p) f (nI k) = some (if hv C A v p (A 0 0) = true then 1 else 0) := by
  have hb := h.b
  have hCb := hC.b
  intro d
  induction d with
  | zero =>
    intro k f hk hf hn
    obtain ⟨f, rfl⟩ := fuel hf
    have : k = A 0 0 := hk
    subst this
    rw [f_X3_hasVarietyFrom_2, h.c.2.2.2.2.1, if_pos (nI_le (by omega) (by omega)), hn, if_neg (by decide)]
  | succ d ih =>
    intro k f hk hf hn
    obtain ⟨f, rfl⟩ := fuel hf
    have hkn : k < A 0 0 := by omega
    obtain ⟨⟨l1, l2, l3, l4, l5, l6⟩, ⟨x0, x1, x2, x3, x4, x5, x6⟩, -⟩ := h.l hkn
    have hq := hC.p l1
    have ih := ih (k + 1) f (by omega) (by omega)
    have hg : ¬ (nI k < 0 ∨ 20 ≤ (nI k).toNatClampNeg) := nI_in (by omega) (by decide)
    rw [f_X3_hasVarietyFrom_2, h.c.2.2.2.2.1, if_neg (nI_ge hkn (by omega)), gd_t hg, gd_t hg, nI_clamp (by omega), x2, x1, nI_1]
    rw [hv, hn, Bool.false_or] at ih
    by_cases c : C 3 (A 1 k) = v
    · rw [if_pos (congrArg nI c)]
      by_cases c2 : C 2 (A 1 k) = p
      · rw [if_pos (congrArg nI c2), if_pos]
        have := hv_mono (C := C) (A := A) (v := v) (p := p) d (k + 1) (by rw [hv, decide_eq_true ⟨c, c2⟩, Bool.or_true])
        rw [show k + 1 + d = A 0 0 by omega] at this
        exact this
      · rw [if_neg (fun q => c2 ((nI_eq (by omega) (by omega)).mp q))]
        exact ih (decide_eq_false fun q => c2 q.2)
    · rw [if_neg (fun q => c ((nI_eq (by omega) (by omega)).mp q))]
      exact ih (decide_eq_false fun q => c q.1)
set_option maxRecDepth 20000 in
theorem q_hva (hC : CO C) (h : IV X C A) {v p : Nat} (hv0 : v < 100) (hp : p < 100) : f_X3_hasVarietyFrom X 1 (nI v) (nI p) = some (if hv C A v p (A 0 0) = true then 1 else 0) := by
  have hb := h.b
  exact p_hva hC h hv0 hp (A 0 0) 0 2000 (by omega) (by omega) rfl
set_option maxRecDepth 20000 in
theorem p_cva (hC : CO C) (h : IV X C A) {p : Nat} (hp : p < 100) : ∀ d k f a, k + d = C 0 1 → d < f → f_X0_countVarietiesFrom_4 X 1 (nI p) f (nI a) (nI k) = some (nI (a + SR (fun v => if hv C A v p (A 0 0) = true then 1 else 0) k d)) := by
  have hCb := hC.b
  intro d
  induction d with
  | zero =>
    intro k f a hk hf
    obtain ⟨f, rfl⟩ := fuel hf
    rw [f_X0_countVarietiesFrom_4, h.c.2.1, if_pos (nI_le (by omega) (by omega))]
    rfl
  | succ d ih =>
    intro k f a hk hf
    obtain ⟨f, rfl⟩ := fuel hf
    have ih := fun a => ih (k + 1) f a (by omega) (by omega)
    rw [f_X0_countVarietiesFrom_4, h.c.2.1, if_neg (nI_ge (by omega) (by omega)), q_hva hC h (by omega) hp, bn1_s, nI_1, nI_1, SR]
    by_cases c : hv C A k p (A 0 0) = true
    · rw [if_pos c, if_pos c, if_neg (by decide), ih, Nat.add_assoc]
    · rw [if_neg c, if_neg c, if_pos rfl, ih, Nat.zero_add]
set_option maxRecDepth 20000 in
theorem q_cva (hC : CO C) (h : IV X C A) {p : Nat} (hp : p < 100) : f_X0_countVarietiesFrom X 1 (nI p) = some (nI (SR (fun v => if hv C A v p (A 0 0) = true then 1 else 0) 0 (C 0 1))) := by
  have hCb := hC.b
  have := p_cva hC h hp (C 0 1) 0 2000 0 (by omega) (by omega)
  rw [Nat.zero_add] at this
  exact this
set_option maxRecDepth 20000 in
theorem sw_or (A : NF) : ∀ k, sw A k = (-1, -1) ∨ ∃ b, b < k ∧ sw A k = (nI b, nI (A 13 b)) := by
  intro k
  induction k with
  | zero => exact Or.inl rfl
  | succ k ih =>
    have e : sw A k = (-1, -1) ∨ ∃ b, b < k + 1 ∧ sw A k = (nI b, nI (A 13 b)) := ih.imp id (fun ⟨b, h1, h2⟩ => ⟨b, by omega, h2⟩)
    rw [sw]
    split
    · exact e
    · split
      · exact e
      · exact Or.inr ⟨k, by omega, rfl⟩
set_option maxRecDepth 20000 in
theorem p_swe (hC : CO C) (h : IV X C A) : ∀ d k f, k + d = A 0 1 → d < f → f_X2_sweetestUnsold_6 X 1 f (sw A k).1 (sw A k).2 (nI k) = some (sw A (A 0 1)).1 := by
  have hb := h.b
  intro d
  induction d with
  | zero =>
    intro k f hk hf
    obtain ⟨f, rfl⟩ := fuel hf
    have : k = A 0 1 := hk
    subst this
    rw [f_X2_sweetestUnsold_6, h.c.2.2.2.2.2.2, if_pos (nI_le (by omega) (by omega))]
  | succ d ih =>
    intro k f hk hf
    obtain ⟨f, rfl⟩ := fuel hf
    have hkn : k < A 0 1 := by omega
    obtain ⟨⟨u1, u2, u3⟩, z0, z1, z2, z3⟩ := h.o hkn
    have ih := ih (k + 1) f (by omega) (by omega)
    have hg : ¬ (nI k < 0 ∨ 12 ≤ (nI k).toNatClampNeg) := nI_in (by omega) (by decide)
    have hm : A 15 k < 2 ^ 31 := by
      have := h.s.1
      have h1 := SR_one (f := A 14) hkn
      have h2 := SR_le (f := A 2) (B := 700) (A 0 0) 0 (fun i _ hi => by
        obtain ⟨⟨l1, l2, l3, l4, l5, l6⟩, -⟩ := h.l (k := i) (by omega)
        exact l3)
      omega
    rw [f_X2_sweetestUnsold_6, h.c.2.2.2.2.2.2, if_neg (nI_ge hkn (by omega)), gd_t hg, gd_t hg, gd_t hg, nI_clamp (by omega), z3, z1, nI_1]
    rw [sw] at ih
    by_cases c : A 15 k = 0
    · rw [if_pos c] at ih
      rw [if_pos ((nI_le0 hm).mpr c)]
      exact ih
    · rw [if_neg c] at ih
      rw [if_neg (fun q => c ((nI_le0 hm).mp q))]
      by_cases c2 : nI (A 13 k) ≤ (sw A k).2
      · rw [if_pos c2] at ih
        rw [if_pos c2]
        exact ih
      · rw [if_neg c2] at ih
        rw [if_neg c2]
        exact ih
set_option maxRecDepth 20000 in
theorem q_swe (hC : CO C) (h : IV X C A) : f_X2_sweetestUnsold X 1 = some (sw A (A 0 1)).1 := by
  have hb := h.b
  exact p_swe hC h (A 0 1) 0 2000 (by omega) (by omega)
/-- the bottles of a variety: in tanks, in lots -/
def sT (A : NF) (v k : Nat) : Nat := SR (fun t => if A 9 t ≠ 0 ∧ A 10 t = v then A 9 t else 0) 0 k
def sO (A : NF) (v k : Nat) : Nat := SR (fun i => if A 12 i = v then A 15 i else 0) 0 k
set_option maxRecDepth 20000 in
theorem p_st4 (hC : CO C) (h : IV X C A) {v : Nat} (hv : v < 100) : ∀ d k f a, k + d = C 0 4 → d < f → f_X2_stockOf_4 X 1 (nI v) f (nI a) (nI k) = some (nI (a + SR (fun t => if A 9 t ≠ 0 ∧ A 10 t = v then A 9 t else 0) k d + sO A v (A 0 1))) := by
  have hCb := hC.b
  have hb := h.b
  intro d
  induction d with
  | zero =>
    intro k f a hk hf
    obtain ⟨f, rfl⟩ := fuel hf
    rw [f_X2_stockOf_4, h.c.2.2.2.2.2.1, if_pos (nI_le (by omega) (by omega))]
    exact p_sto hC h hv (A 0 1) 0 2000 a (by omega) (by omega)
  | succ d ih =>
    intro k f a hk hf
    obtain ⟨f, rfl⟩ := fuel hf
    have hkn : k < C 0 4 := by omega
    obtain ⟨t1, y0, y1, y2, y3, t4, t5⟩ := h.t hkn
    have ih := fun a => ih (k + 1) f a (by omega) (by omega)
    have hg : ¬ (nI k < 0 ∨ 5 ≤ (nI k).toNatClampNeg) := nI_in (by omega) (by decide)
    rw [f_X2_stockOf_4, h.c.2.2.2.2.2.1, if_neg (nI_ge hkn (by omega)), gd_t hg, gd_t hg, nI_clamp (by omega), q_hol hC h hkn hv, bn1_s, y1, bnd_s, nI_add, nI_1, SR]
    by_cases c : A 9 k ≠ 0 ∧ A 10 k = v
    · rw [if_pos c, if_pos c, if_neg (by decide), ih, Nat.add_assoc a]
    · rw [if_neg c, if_neg c, if_pos rfl, ih, Nat.zero_add]
set_option maxRecDepth 20000 in
theorem q_sto (hC : CO C) (h : IV X C A) {v : Nat} (hv : v < 100) : f_X2_stockOf X 1 (nI v) = some (nI (sT A v (C 0 4) + sO A v (A 0 1))) := by
  have hCb := hC.b
  have := p_st4 hC h hv (C 0 4) 0 2000 0 (by omega) (by omega)
  rw [Nat.zero_add] at this
  exact this
set_option maxRecDepth 20000 in
theorem p_hun (hC : CO C) (h : IV X C A) {p : Nat} (hp : p < 100) : ∀ d k f, k + d = A 0 0 → d < f → ∃ r, f_X3_hasUnpaidOf_2 X 1 (nI p) f (nI k) = some r := by
  have hb := h.b
  intro d
  induction d with
  | zero =>
    intro k f hk hf
    obtain ⟨f, rfl⟩ := fuel hf
    refine ⟨0, ?_⟩
    rw [f_X3_hasUnpaidOf_2, h.c.2.2.2.2.1, if_pos (nI_le (by omega) (by omega))]
  | succ d ih =>
    intro k f hk hf
    obtain ⟨f, rfl⟩ := fuel hf
    have hkn : k < A 0 0 := by omega
    have hg : ¬ (nI k < 0 ∨ 20 ≤ (nI k).toNatClampNeg) := nI_in (by omega) (by decide)
    rw [f_X3_hasUnpaidOf_2, h.c.2.2.2.2.1, if_neg (nI_ge hkn (by omega)), gd_t hg, nI_clamp (by omega), q_unp hC h hkn hp, bn1_s, i10, nI_1]
    split
    · exact ⟨1, rfl⟩
    · exact ih (k + 1) f (by omega) (by omega)
set_option maxRecDepth 20000 in
theorem q_cse (hC : CO C) (h : IV X C A) {p : Nat} (hp : p < 100) : ∃ r, f_X0_canSettleAll X 1 (nI p) = some r ∧ (r = 0 ∨ (r = 1 ∧ SR (ow C A p) 0 (A 0 0) ≤ A 0 2)) := by
  have hb := h.b
  have ho := owe_le hC h p
  obtain ⟨r, hr⟩ := p_hun hC h hp (A 0 0) 0 2000 (by omega) (by omega)
  have hr : f_X3_hasUnpaidOf X 1 (nI p) = some r := hr
  unfold f_X0_canSettleAll
  rw [hr, bn1_s]
  by_cases c : r = 0
  · rw [if_pos c]
    exact ⟨0, rfl, Or.inl rfl⟩
  · rw [if_neg c, q_owe hC h hp, bn1_s, h.m.1]
    by_cases c2 : A 0 2 < SR (ow C A p) 0 (A 0 0)
    · rw [if_pos (nI_lt c2 (by omega))]
      exact ⟨0, rfl, Or.inl rfl⟩
    · rw [if_neg (nI_nlt (by omega) (by omega))]
      exact ⟨1, rfl, Or.inr ⟨rfl, by omega⟩⟩
end QRY3
