/-! PURE: the questions of book 1 in closed form: sums -/
section QRY
variable {X : XT} {C A : NF}
set_option maxRecDepth 20000 in
theorem p_tw (hC : CO C) (h : IV X C A) : ∀ d k f a, k + d = A 0 0 → d < f → f_X3_totalWeight_4 X 1 f (nI a) (nI k) = some (nI (a + SR (A 2) k d)) := by
  have hb := h.b
  have hCb := hC.b
  intro d
  induction d with
  | zero =>
    intro k f a hk hf
    obtain ⟨f, rfl⟩ := fuel hf
    rw [f_X3_totalWeight_4, h.c.2.2.2.2.1, if_pos (nI_le (by omega) (by omega))]
    rfl
  | succ d ih =>
    intro k f a hk hf
    obtain ⟨f, rfl⟩ := fuel hf
    have hkn : k < A 0 0 := by omega
    have ⟨⟨l1, l2, l3, l4, l5, l6⟩, ⟨x0, x1, x2, x3, x4, x5, x6⟩, ⟨x7, l7, x8, l8, l9⟩, l10, l11⟩ := h.l hkn
    rw [f_X3_totalWeight_4, h.c.2.2.2.2.1, if_neg (nI_ge hkn (by omega))]
    have hg : ¬ (nI k < 0 ∨ 20 ≤ (nI k).toNatClampNeg) := nI_in (by omega) (by decide)
    have hc : (nI k).toNatClampNeg = k := nI_clamp (by omega)
    simp only [gd_t hg]
    simp only [hc, bnd_s, bn1_s, bn2_s, x3, nI_add, nI_1, Int32.add_zero]
    rw [ih (k + 1) f (a + A 2 k) (by omega) (by omega)]
    simp only [SR, if_true, if_false, Nat.add_assoc, Nat.zero_add]
set_option maxRecDepth 20000 in
theorem q_tw (hC : CO C) (h : IV X C A) : f_X3_totalWeight X 1 = some (nI (SR (A 2) 0 (A 0 0))) := by
  have hb := h.b
  have hCb := hC.b
  unfold f_X3_totalWeight
  have := p_tw hC h (A 0 0) 0 2000 0 (by omega) (by omega)
  rw [Nat.zero_add] at this
  exact this
set_option maxRecDepth 20000 in
theorem p_tp (hC : CO C) (h : IV X C A) : ∀ d k f a, k + d = A 0 0 → d < f → f_X3_totalPayments_4 X 1 f (nI a) (nI k) = some (nI (a + SR (A 7) k d)) := by
  have hb := h.b
  have hCb := hC.b
  intro d
  induction d with
  | zero =>
    intro k f a hk hf
    obtain ⟨f, rfl⟩ := fuel hf
    rw [f_X3_totalPayments_4, h.c.2.2.2.2.1, if_pos (nI_le (by omega) (by omega))]
    rfl
  | succ d ih =>
    intro k f a hk hf
    obtain ⟨f, rfl⟩ := fuel hf
    have hkn : k < A 0 0 := by omega
    have ⟨⟨l1, l2, l3, l4, l5, l6⟩, ⟨x0, x1, x2, x3, x4, x5, x6⟩, ⟨x7, l7, x8, l8, l9⟩, l10, l11⟩ := h.l hkn
    rw [f_X3_totalPayments_4, h.c.2.2.2.2.1, if_neg (nI_ge hkn (by omega))]
    have hg : ¬ (nI k < 0 ∨ 20 ≤ (nI k).toNatClampNeg) := nI_in (by omega) (by decide)
    have hc : (nI k).toNatClampNeg = k := nI_clamp (by omega)
    simp only [gd_t hg]
    simp only [hc, bnd_s, bn1_s, bn2_s, x8, nI_add, nI_1, Int32.add_zero]
    rw [ih (k + 1) f (a + A 7 k) (by omega) (by omega)]
    simp only [SR, if_true, if_false, Nat.add_assoc, Nat.zero_add]
set_option maxRecDepth 20000 in
theorem q_tp (hC : CO C) (h : IV X C A) : f_X3_totalPayments X 1 = some (nI (SR (A 7) 0 (A 0 0))) := by
  have hb := h.b
  have hCb := hC.b
  unfold f_X3_totalPayments
  have := p_tp hC h (A 0 0) 0 2000 0 (by omega) (by omega)
  rw [Nat.zero_add] at this
  exact this
set_option maxRecDepth 20000 in
theorem p_ts (hC : CO C) (h : IV X C A) : ∀ d k f a, k + d = A 0 0 → d < f → f_X3_totalSugar_4 X 1 f (nI a) (nI k) = some (nI (a + SR (fun i => A 2 i * A 3 i) k d)) := by
  have hb := h.b
  have hCb := hC.b
  intro d
  induction d with
  | zero =>
    intro k f a hk hf
    obtain ⟨f, rfl⟩ := fuel hf
    rw [f_X3_totalSugar_4, h.c.2.2.2.2.1, if_pos (nI_le (by omega) (by omega))]
    rfl
  | succ d ih =>
    intro k f a hk hf
    obtain ⟨f, rfl⟩ := fuel hf
    have hkn : k < A 0 0 := by omega
    have ⟨⟨l1, l2, l3, l4, l5, l6⟩, ⟨x0, x1, x2, x3, x4, x5, x6⟩, ⟨x7, l7, x8, l8, l9⟩, l10, l11⟩ := h.l hkn
    rw [f_X3_totalSugar_4, h.c.2.2.2.2.1, if_neg (nI_ge hkn (by omega))]
    have hg : ¬ (nI k < 0 ∨ 20 ≤ (nI k).toNatClampNeg) := nI_in (by omega) (by decide)
    have hc : (nI k).toNatClampNeg = k := nI_clamp (by omega)
    simp only [gd_t hg]
    simp only [hc, bnd_s, bn1_s, bn2_s, x3, x4, pk_mul, nI_add, nI_1, Int32.add_zero]
    rw [ih (k + 1) f (a + A 2 k * A 3 k) (by omega) (by omega)]
    simp only [SR, if_true, if_false, Nat.add_assoc, Nat.zero_add]
set_option maxRecDepth 20000 in
theorem q_ts (hC : CO C) (h : IV X C A) : f_X3_totalSugar X 1 = some (nI (SR (fun i => A 2 i * A 3 i) 0 (A 0 0))) := by
  have hb := h.b
  have hCb := hC.b
  unfold f_X3_totalSugar
  have := p_ts hC h (A 0 0) 0 2000 0 (by omega) (by omega)
  rw [Nat.zero_add] at this
  exact this
set_option maxRecDepth 20000 in
theorem p_har (hC : CO C) (h : IV X C A) {p : Nat} (hp : p < 100) : ∀ d k f a, k + d = A 0 0 → d < f → f_X3_weightFromPlot_4 X 1 (nI p) f (nI a) (nI k) = some (nI (a + SR (fun i => if A 1 i = p then A 2 i else 0) k d)) := by
  have hb := h.b
  have hCb := hC.b
  intro d
  induction d with
  | zero =>
    intro k f a hk hf
    obtain ⟨f, rfl⟩ := fuel hf
    rw [f_X3_weightFromPlot_4, h.c.2.2.2.2.1, if_pos (nI_le (by omega) (by omega))]
    rfl
  | succ d ih =>
    intro k f a hk hf
    obtain ⟨f, rfl⟩ := fuel hf
    have hkn : k < A 0 0 := by omega
    have ⟨⟨l1, l2, l3, l4, l5, l6⟩, ⟨x0, x1, x2, x3, x4, x5, x6⟩, ⟨x7, l7, x8, l8, l9⟩, l10, l11⟩ := h.l hkn
    rw [f_X3_weightFromPlot_4, h.c.2.2.2.2.1, if_neg (nI_ge hkn (by omega))]
    have hg : ¬ (nI k < 0 ∨ 20 ≤ (nI k).toNatClampNeg) := nI_in (by omega) (by decide)
    have hc : (nI k).toNatClampNeg = k := nI_clamp (by omega)
    simp only [gd_t hg]
    by_cases c0 : A 1 k = p
    · simp only [hc, bnd_s, bn1_s, bn2_s, x0, x3, c0, nI_eq (a := A 1 k) (b := p) (by omega) (by omega), nI_add, nI_1, Int32.add_zero, if_true, if_false]
      rw [ih (k + 1) f (a + A 2 k) (by omega) (by omega)]
      simp only [SR, c0, nI_eq (a := A 1 k) (b := p) (by omega) (by omega), if_true, if_false, Nat.add_assoc, Nat.zero_add]
    · simp only [hc, bnd_s, bn1_s, bn2_s, x0, x3, c0, nI_eq (a := A 1 k) (b := p) (by omega) (by omega), nI_add, nI_1, Int32.add_zero, if_true, if_false]
      rw [ih (k + 1) f (a) (by omega) (by omega)]
      simp only [SR, c0, nI_eq (a := A 1 k) (b := p) (by omega) (by omega), if_true, if_false, Nat.add_assoc, Nat.zero_add]
set_option maxRecDepth 20000 in
theorem q_har (hC : CO C) (h : IV X C A) {p : Nat} (hp : p < 100) : f_X3_weightFromPlot X 1 (nI p) = some (nI (SR (fun i => if A 1 i = p then A 2 i else 0) 0 (A 0 0))) := by
  have hb := h.b
  have hCb := hC.b
  unfold f_X3_weightFromPlot
  have := p_har hC h hp (A 0 0) 0 2000 0 (by omega) (by omega)
  rw [Nat.zero_add] at this
  exact this
set_option maxRecDepth 20000 in
theorem p_wgr (hC : CO C) (h : IV X C A) {p : Nat} (hp : p < 100) : ∀ d k f a, k + d = A 0 0 → d < f → f_X3_weightFromGrower_4 X 1 (nI p) f (nI a) (nI k) = some (nI (a + SR (fun i => if C 2 (A 1 i) = p then A 2 i else 0) k d)) := by
  have hb := h.b
  have hCb := hC.b
  intro d
  induction d with
  | zero =>
    intro k f a hk hf
    obtain ⟨f, rfl⟩ := fuel hf
    rw [f_X3_weightFromGrower_4, h.c.2.2.2.2.1, if_pos (nI_le (by omega) (by omega))]
    rfl
  | succ d ih =>
    intro k f a hk hf
    obtain ⟨f, rfl⟩ := fuel hf
    have hkn : k < A 0 0 := by omega
    have ⟨⟨l1, l2, l3, l4, l5, l6⟩, ⟨x0, x1, x2, x3, x4, x5, x6⟩, ⟨x7, l7, x8, l8, l9⟩, l10, l11⟩ := h.l hkn
    rw [f_X3_weightFromGrower_4, h.c.2.2.2.2.1, if_neg (nI_ge hkn (by omega))]
    have hg : ¬ (nI k < 0 ∨ 20 ≤ (nI k).toNatClampNeg) := nI_in (by omega) (by decide)
    have hc : (nI k).toNatClampNeg = k := nI_clamp (by omega)
    simp only [gd_t hg]
    by_cases c0 : C 2 (A 1 k) = p
    · simp only [hc, bnd_s, bn1_s, bn2_s, x1, x3, c0, nI_eq (a := C 2 (A 1 k)) (b := p) (by have := hC.p l1; omega) (by omega), nI_add, nI_1, Int32.add_zero, if_true, if_false]
      rw [ih (k + 1) f (a + A 2 k) (by omega) (by omega)]
      simp only [SR, c0, nI_eq (a := C 2 (A 1 k)) (b := p) (by have := hC.p l1; omega) (by omega), if_true, if_false, Nat.add_assoc, Nat.zero_add]
    · simp only [hc, bnd_s, bn1_s, bn2_s, x1, x3, c0, nI_eq (a := C 2 (A 1 k)) (b := p) (by have := hC.p l1; omega) (by omega), nI_add, nI_1, Int32.add_zero, if_true, if_false]
      rw [ih (k + 1) f (a) (by omega) (by omega)]
      simp only [SR, c0, nI_eq (a := C 2 (A 1 k)) (b := p) (by have := hC.p l1; omega) (by omega), if_true, if_false, Nat.add_assoc, Nat.zero_add]
set_option maxRecDepth 20000 in
theorem q_wgr (hC : CO C) (h : IV X C A) {p : Nat} (hp : p < 100) : f_X3_weightFromGrower X 1 (nI p) = some (nI (SR (fun i => if C 2 (A 1 i) = p then A 2 i else 0) 0 (A 0 0))) := by
  have hb := h.b
  have hCb := hC.b
  unfold f_X3_weightFromGrower
  have := p_wgr hC h hp (A 0 0) 0 2000 0 (by omega) (by omega)
  rw [Nat.zero_add] at this
  exact this
set_option maxRecDepth 20000 in
theorem p_pto (hC : CO C) (h : IV X C A) {p : Nat} (hp : p < 100) : ∀ d k f a, k + d = A 0 0 → d < f → f_X3_paymentsTo_4 X 1 (nI p) f (nI a) (nI k) = some (nI (a + SR (fun i => if C 2 (A 1 i) = p then A 7 i else 0) k d)) := by
  have hb := h.b
  have hCb := hC.b
  intro d
  induction d with
  | zero =>
    intro k f a hk hf
    obtain ⟨f, rfl⟩ := fuel hf
    rw [f_X3_paymentsTo_4, h.c.2.2.2.2.1, if_pos (nI_le (by omega) (by omega))]
    rfl
  | succ d ih =>
    intro k f a hk hf
    obtain ⟨f, rfl⟩ := fuel hf
    have hkn : k < A 0 0 := by omega
    have ⟨⟨l1, l2, l3, l4, l5, l6⟩, ⟨x0, x1, x2, x3, x4, x5, x6⟩, ⟨x7, l7, x8, l8, l9⟩, l10, l11⟩ := h.l hkn
    rw [f_X3_paymentsTo_4, h.c.2.2.2.2.1, if_neg (nI_ge hkn (by omega))]
    have hg : ¬ (nI k < 0 ∨ 20 ≤ (nI k).toNatClampNeg) := nI_in (by omega) (by decide)
    have hc : (nI k).toNatClampNeg = k := nI_clamp (by omega)
    simp only [gd_t hg]
    by_cases c0 : C 2 (A 1 k) = p
    · simp only [hc, bnd_s, bn1_s, bn2_s, x1, x8, c0, nI_eq (a := C 2 (A 1 k)) (b := p) (by have := hC.p l1; omega) (by omega), nI_add, nI_1, Int32.add_zero, if_true, if_false]
      rw [ih (k + 1) f (a + A 7 k) (by omega) (by omega)]
      simp only [SR, c0, nI_eq (a := C 2 (A 1 k)) (b := p) (by have := hC.p l1; omega) (by omega), if_true, if_false, Nat.add_assoc, Nat.zero_add]
    · simp only [hc, bnd_s, bn1_s, bn2_s, x1, x8, c0, nI_eq (a := C 2 (A 1 k)) (b := p) (by have := hC.p l1; omega) (by omega), nI_add, nI_1, Int32.add_zero, if_true, if_false]
      rw [ih (k + 1) f (a) (by omega) (by omega)]
      simp only [SR, c0, nI_eq (a := C 2 (A 1 k)) (b := p) (by have := hC.p l1; omega) (by omega), if_true, if_false, Nat.add_assoc, Nat.zero_add]
set_option maxRecDepth 20000 in
theorem q_pto (hC : CO C) (h : IV X C A) {p : Nat} (hp : p < 100) : f_X3_paymentsTo X 1 (nI p) = some (nI (SR (fun i => if C 2 (A 1 i) = p then A 7 i else 0) 0 (A 0 0))) := by
  have hb := h.b
  have hCb := hC.b
  unfold f_X3_paymentsTo
  have := p_pto hC h hp (A 0 0) 0 2000 0 (by omega) (by omega)
  rw [Nat.zero_add] at this
  exact this
set_option maxRecDepth 20000 in
theorem p_wop (hC : CO C) (h : IV X C A) {v g : Nat} (hv : v < 100) (hg0 : g < 100) : ∀ d k f a, k + d = A 0 0 → d < f → f_X3_weightOfPair_5 X 1 (nI v) (nI g) f (nI a) (nI k) = some (nI (a + SR (fun i => if C 3 (A 1 i) = v then (if A 4 i = g then A 2 i else 0) else 0) k d)) := by
  have hb := h.b
  have hCb := hC.b
  intro d
  induction d with
  | zero =>
    intro k f a hk hf
    obtain ⟨f, rfl⟩ := fuel hf
    rw [f_X3_weightOfPair_5, h.c.2.2.2.2.1, if_pos (nI_le (by omega) (by omega))]
    rfl
  | succ d ih =>
    intro k f a hk hf
    obtain ⟨f, rfl⟩ := fuel hf
    have hkn : k < A 0 0 := by omega
    have ⟨⟨l1, l2, l3, l4, l5, l6⟩, ⟨x0, x1, x2, x3, x4, x5, x6⟩, ⟨x7, l7, x8, l8, l9⟩, l10, l11⟩ := h.l hkn
    rw [f_X3_weightOfPair_5, h.c.2.2.2.2.1, if_neg (nI_ge hkn (by omega))]
    have hg : ¬ (nI k < 0 ∨ 20 ≤ (nI k).toNatClampNeg) := nI_in (by omega) (by decide)
    have hc : (nI k).toNatClampNeg = k := nI_clamp (by omega)
    simp only [gd_t hg]
    by_cases c0 : C 3 (A 1 k) = v
    · by_cases c1 : A 4 k = g
      · simp only [hc, bnd_s, bn1_s, bn2_s, f_X6_isOfPair, x2, x5, x3, c0, nI_eq (a := C 3 (A 1 k)) (b := v) (by have := hC.p l1; omega) (by omega), c1, nI_eq (a := A 4 k) (b := g) (by omega) (by omega), show ¬ (1 : Int32) = 0 by decide, nI_add, nI_1, Int32.add_zero, if_true, if_false]
        rw [ih (k + 1) f (a + A 2 k) (by omega) (by omega)]
        simp only [SR, c0, nI_eq (a := C 3 (A 1 k)) (b := v) (by have := hC.p l1; omega) (by omega), c1, nI_eq (a := A 4 k) (b := g) (by omega) (by omega), show ¬ (1 : Int32) = 0 by decide, if_true, if_false, Nat.add_assoc, Nat.zero_add]
      · simp only [hc, bnd_s, bn1_s, bn2_s, f_X6_isOfPair, x2, x5, x3, c0, nI_eq (a := C 3 (A 1 k)) (b := v) (by have := hC.p l1; omega) (by omega), c1, nI_eq (a := A 4 k) (b := g) (by omega) (by omega), show ¬ (1 : Int32) = 0 by decide, nI_add, nI_1, Int32.add_zero, if_true, if_false]
        rw [ih (k + 1) f (a) (by omega) (by omega)]
        simp only [SR, c0, nI_eq (a := C 3 (A 1 k)) (b := v) (by have := hC.p l1; omega) (by omega), c1, nI_eq (a := A 4 k) (b := g) (by omega) (by omega), show ¬ (1 : Int32) = 0 by decide, if_true, if_false, Nat.add_assoc, Nat.zero_add]
    · simp only [hc, bnd_s, bn1_s, bn2_s, f_X6_isOfPair, x2, x5, x3, c0, nI_eq (a := C 3 (A 1 k)) (b := v) (by have := hC.p l1; omega) (by omega), nI_add, nI_1, Int32.add_zero, if_true, if_false]
      rw [ih (k + 1) f (a) (by omega) (by omega)]
      simp only [SR, c0, nI_eq (a := C 3 (A 1 k)) (b := v) (by have := hC.p l1; omega) (by omega), if_true, if_false, Nat.add_assoc, Nat.zero_add]
set_option maxRecDepth 20000 in
theorem q_wop (hC : CO C) (h : IV X C A) {v g : Nat} (hv : v < 100) (hg0 : g < 100) : f_X3_weightOfPair X 1 (nI v) (nI g) = some (nI (SR (fun i => if C 3 (A 1 i) = v then (if A 4 i = g then A 2 i else 0) else 0) 0 (A 0 0))) := by
  have hb := h.b
  have hCb := hC.b
  unfold f_X3_weightOfPair
  have := p_wop hC h hv hg0 (A 0 0) 0 2000 0 (by omega) (by omega)
  rw [Nat.zero_add] at this
  exact this
set_option maxRecDepth 20000 in
theorem p_tc (hC : CO C) (h : IV X C A) : ∀ d k f a, k + d = C 0 4 → d < f → f_X2_totalContent_4 X 1 f (nI a) (nI k) = some (nI (a + SR (A 9) k d)) := by
  have hb := h.b
  have hCb := hC.b
  intro d
  induction d with
  | zero =>
    intro k f a hk hf
    obtain ⟨f, rfl⟩ := fuel hf
    rw [f_X2_totalContent_4, h.c.2.2.2.2.2.1, if_pos (nI_le (by omega) (by omega))]
    rfl
  | succ d ih =>
    intro k f a hk hf
    obtain ⟨f, rfl⟩ := fuel hf
    have hkn : k < C 0 4 := by omega
    have ⟨t1, y0, y1, y2, y3, t4, t5⟩ := h.t hkn
    rw [f_X2_totalContent_4, h.c.2.2.2.2.2.1, if_neg (nI_ge hkn (by omega))]
    have hg : ¬ (nI k < 0 ∨ 5 ≤ (nI k).toNatClampNeg) := nI_in (by omega) (by decide)
    have hc : (nI k).toNatClampNeg = k := nI_clamp (by omega)
    simp only [gd_t hg]
    simp only [hc, bnd_s, bn1_s, bn2_s, y1, nI_add, nI_1, Int32.add_zero]
    rw [ih (k + 1) f (a + A 9 k) (by omega) (by omega)]
    simp only [SR, if_true, if_false, Nat.add_assoc, Nat.zero_add]
set_option maxRecDepth 20000 in
theorem q_tc (hC : CO C) (h : IV X C A) : f_X2_totalContent X 1 = some (nI (SR (A 9) 0 (C 0 4))) := by
  have hb := h.b
  have hCb := hC.b
  unfold f_X2_totalContent
  have := p_tc hC h (C 0 4) 0 2000 0 (by omega) (by omega)
  rw [Nat.zero_add] at this
  exact this
set_option maxRecDepth 20000 in
theorem p_tca (hC : CO C) (h : IV X C A) : ∀ d k f a, k + d = C 0 4 → d < f → f_X2_totalCapacity_4 X 1 f (nI a) (nI k) = some (nI (a + SR (C 5) k d)) := by
  have hb := h.b
  have hCb := hC.b
  intro d
  induction d with
  | zero =>
    intro k f a hk hf
    obtain ⟨f, rfl⟩ := fuel hf
    rw [f_X2_totalCapacity_4, h.c.2.2.2.2.2.1, if_pos (nI_le (by omega) (by omega))]
    rfl
  | succ d ih =>
    intro k f a hk hf
    obtain ⟨f, rfl⟩ := fuel hf
    have hkn : k < C 0 4 := by omega
    have ⟨t1, y0, y1, y2, y3, t4, t5⟩ := h.t hkn
    rw [f_X2_totalCapacity_4, h.c.2.2.2.2.2.1, if_neg (nI_ge hkn (by omega))]
    have hg : ¬ (nI k < 0 ∨ 5 ≤ (nI k).toNatClampNeg) := nI_in (by omega) (by decide)
    have hc : (nI k).toNatClampNeg = k := nI_clamp (by omega)
    simp only [gd_t hg]
    simp only [hc, bnd_s, bn1_s, bn2_s, y0, nI_add, nI_1, Int32.add_zero]
    rw [ih (k + 1) f (a + C 5 k) (by omega) (by omega)]
    simp only [SR, if_true, if_false, Nat.add_assoc, Nat.zero_add]
set_option maxRecDepth 20000 in
theorem q_tca (hC : CO C) (h : IV X C A) : f_X2_totalCapacity X 1 = some (nI (SR (C 5) 0 (C 0 4))) := by
  have hb := h.b
  have hCb := hC.b
  unfold f_X2_totalCapacity
  have := p_tca hC h (C 0 4) 0 2000 0 (by omega) (by omega)
  rw [Nat.zero_add] at this
  exact this
set_option maxRecDepth 20000 in
theorem p_tb (hC : CO C) (h : IV X C A) : ∀ d k f a, k + d = A 0 1 → d < f → f_X2_totalBottled_4 X 1 f (nI a) (nI k) = some (nI (a + SR (A 14) k d)) := by
  have hb := h.b
  have hCb := hC.b
  intro d
  induction d with
  | zero =>
    intro k f a hk hf
    obtain ⟨f, rfl⟩ := fuel hf
    rw [f_X2_totalBottled_4, h.c.2.2.2.2.2.2, if_pos (nI_le (by omega) (by omega))]
    rfl
  | succ d ih =>
    intro k f a hk hf
    obtain ⟨f, rfl⟩ := fuel hf
    have hkn : k < A 0 1 := by omega
    have ⟨⟨u1, u2, u3⟩, z0, z1, z2, z3⟩ := h.o hkn
    rw [f_X2_totalBottled_4, h.c.2.2.2.2.2.2, if_neg (nI_ge hkn (by omega))]
    have hg : ¬ (nI k < 0 ∨ 12 ≤ (nI k).toNatClampNeg) := nI_in (by omega) (by decide)
    have hc : (nI k).toNatClampNeg = k := nI_clamp (by omega)
    simp only [gd_t hg]
    simp only [hc, bnd_s, bn1_s, bn2_s, z2, nI_add, nI_1, Int32.add_zero]
    rw [ih (k + 1) f (a + A 14 k) (by omega) (by omega)]
    simp only [SR, if_true, if_false, Nat.add_assoc, Nat.zero_add]
set_option maxRecDepth 20000 in
theorem q_tb (hC : CO C) (h : IV X C A) : f_X2_totalBottled X 1 = some (nI (SR (A 14) 0 (A 0 1))) := by
  have hb := h.b
  have hCb := hC.b
  unfold f_X2_totalBottled
  have := p_tb hC h (A 0 1) 0 2000 0 (by omega) (by omega)
  rw [Nat.zero_add] at this
  exact this
set_option maxRecDepth 20000 in
theorem p_sto (hC : CO C) (h : IV X C A) {v : Nat} (hv : v < 100) : ∀ d k f a, k + d = A 0 1 → d < f → f_X2_stockOf_45 X 1 (nI v) f (nI a) (nI k) = some (nI (a + SR (fun i => if A 12 i = v then A 15 i else 0) k d)) := by
  have hb := h.b
  have hCb := hC.b
  intro d
  induction d with
  | zero =>
    intro k f a hk hf
    obtain ⟨f, rfl⟩ := fuel hf
    rw [f_X2_stockOf_45, h.c.2.2.2.2.2.2, if_pos (nI_le (by omega) (by omega))]
    rfl
  | succ d ih =>
    intro k f a hk hf
    obtain ⟨f, rfl⟩ := fuel hf
    have hkn : k < A 0 1 := by omega
    have ⟨⟨u1, u2, u3⟩, z0, z1, z2, z3⟩ := h.o hkn
    rw [f_X2_stockOf_45, h.c.2.2.2.2.2.2, if_neg (nI_ge hkn (by omega))]
    have hg : ¬ (nI k < 0 ∨ 12 ≤ (nI k).toNatClampNeg) := nI_in (by omega) (by decide)
    have hc : (nI k).toNatClampNeg = k := nI_clamp (by omega)
    simp only [gd_t hg]
    by_cases c0 : A 12 k = v
    · simp only [hc, bnd_s, bn1_s, bn2_s, z0, z3, c0, nI_eq (a := A 12 k) (b := v) (by omega) (by omega), nI_add, nI_1, Int32.add_zero, if_true, if_false]
      rw [ih (k + 1) f (a + A 15 k) (by omega) (by omega)]
      simp only [SR, c0, nI_eq (a := A 12 k) (b := v) (by omega) (by omega), if_true, if_false, Nat.add_assoc, Nat.zero_add]
    · simp only [hc, bnd_s, bn1_s, bn2_s, z0, z3, c0, nI_eq (a := A 12 k) (b := v) (by omega) (by omega), nI_add, nI_1, Int32.add_zero, if_true, if_false]
      rw [ih (k + 1) f (a) (by omega) (by omega)]
      simp only [SR, c0, nI_eq (a := A 12 k) (b := v) (by omega) (by omega), if_true, if_false, Nat.add_assoc, Nat.zero_add]
set_option maxRecDepth 20000 in
theorem p_cpl (hC : CO C) (h : IV X C A) {p : Nat} (hp : p < 100) : ∀ d k f a, k + d = C 0 3 → d < f → f_X5_countPlotsOf_4 X 1 (nI p) f (nI a) (nI k) = some (nI (a + SR (fun i => if C 2 i = p then 1 else 0) k d)) := by
  have hb := h.b
  have hCb := hC.b
  intro d
  induction d with
  | zero =>
    intro k f a hk hf
    obtain ⟨f, rfl⟩ := fuel hf
    rw [f_X5_countPlotsOf_4, h.c.2.2.2.1, if_pos (nI_le (by omega) (by omega))]
    rfl
  | succ d ih =>
    intro k f a hk hf
    obtain ⟨f, rfl⟩ := fuel hf
    have hkn : k < C 0 3 := by omega
    have ⟨w0, w1, w2⟩ := h.p hkn
    have pC := hC.p hkn
    rw [f_X5_countPlotsOf_4, h.c.2.2.2.1, if_neg (nI_ge hkn (by omega))]
    have hg : ¬ (nI k < 0 ∨ 8 ≤ (nI k).toNatClampNeg) := nI_in (by omega) (by decide)
    have hc : (nI k).toNatClampNeg = k := nI_clamp (by omega)
    simp only [gd_t hg]
    by_cases c0 : C 2 k = p
    · simp only [hc, bnd_s, bn1_s, bn2_s, w0, c0, nI_eq (a := C 2 k) (b := p) (by omega) (by omega), nI_add, nI_1, Int32.add_zero, if_true, if_false]
      rw [ih (k + 1) f (a + 1) (by omega) (by omega)]
      simp only [SR, c0, nI_eq (a := C 2 k) (b := p) (by omega) (by omega), if_true, if_false, Nat.add_assoc, Nat.zero_add]
    · simp only [hc, bnd_s, bn1_s, bn2_s, w0, c0, nI_eq (a := C 2 k) (b := p) (by omega) (by omega), nI_add, nI_1, Int32.add_zero, if_true, if_false]
      rw [ih (k + 1) f (a) (by omega) (by omega)]
      simp only [SR, c0, nI_eq (a := C 2 k) (b := p) (by omega) (by omega), if_true, if_false, Nat.add_assoc, Nat.zero_add]
set_option maxRecDepth 20000 in
theorem q_cpl (hC : CO C) (h : IV X C A) {p : Nat} (hp : p < 100) : f_X5_countPlotsOf X 1 (nI p) = some (nI (SR (fun i => if C 2 i = p then 1 else 0) 0 (C 0 3))) := by
  have hb := h.b
  have hCb := hC.b
  unfold f_X5_countPlotsOf
  have := p_cpl hC h hp (C 0 3) 0 2000 0 (by omega) (by omega)
  rw [Nat.zero_add] at this
  exact this
set_option maxRecDepth 20000 in
theorem q_cents (hC : CO C) (h : IV X C A) {v g : Nat} (hv : v < C 0 1) (hg : g < C 0 0) : f_X1_centsFor X 1 (nI v) (nI g) = some (nI (A 8 (v * 4 + g))) := by
  have hCb := hC.b
  unfold f_X1_centsFor
  rw [if_neg (nI_pos (by omega)), h.c.2.1, if_neg (nI_ge hv (by omega)), if_neg (nI_pos (by omega)), h.c.1, if_pos (nI_lt hg (by omega)), bnd_s, show nI v * 4 + nI g = nI (v * 4 + g) by rw [show (4 : Int32) = nI 4 from rfl, pk_mul, nI_add], gd_t (nI_in (by omega) (by decide)), nI_clamp (by omega), (h.pr hv hg).1]
/-- what a load is worth: as it is paid, or as it would be -/
def va (C A : NF) (k : Nat) : Nat := if A 6 k = 0 then A 2 k * A 8 (C 3 (A 1 k) * 4 + A 4 k) else A 7 k
set_option maxRecDepth 20000 in
theorem va_le (hC : CO C) (h : IV X C A) {k : Nat} (hk : k < A 0 0) : va C A k ≤ 27300 := by
  have ⟨⟨l1, l2, l3, l4, l5, l6⟩, ⟨x0, x1, x2, x3, x4, x5, x6⟩, ⟨x7, l7, x8, l8, l9⟩, l10, l11⟩ := h.l hk
  have hp := (h.pr (hC.p l1).2.1 l5).2
  unfold va
  split
  · exact Nat.le_trans (Nat.mul_le_mul l3 hp) (by decide)
  · exact l8
set_option maxRecDepth 20000 in
theorem q_va (hC : CO C) (h : IV X C A) {k : Nat} (hk : k < A 0 0) : f_X0_centsOf X 1 1 k = some (nI (va C A k)) := by
  have ⟨⟨l1, l2, l3, l4, l5, l6⟩, ⟨x0, x1, x2, x3, x4, x5, x6⟩, ⟨x7, l7, x8, l8, l9⟩, l10, l11⟩ := h.l hk
  unfold f_X0_centsOf va
  rw [x7]
  by_cases c : A 6 k = 0
  · rw [if_pos c, c, if_pos nI_0, x2, x5, q_cents hC h (hC.p l1).2.1 l5, bn1_s, x3, pk_mul]
  · rw [if_neg c, if_neg (nI_ne0 (by omega) (by omega)), x8]
set_option maxRecDepth 20000 in
theorem q_unp (hC : CO C) (h : IV X C A) {k : Nat} (hk : k < A 0 0) {p : Nat} (hp : p < 100) : f_X6_isUnpaidOf X 1 k (nI p) = some (if C 2 (A 1 k) = p ∧ A 6 k = 0 then 1 else 0) := by
  have ⟨⟨l1, l2, l3, l4, l5, l6⟩, ⟨x0, x1, x2, x3, x4, x5, x6⟩, ⟨x7, l7, x8, l8, l9⟩, l10, l11⟩ := h.l hk
  have hq := hC.p l1
  have hCb := hC.b
  unfold f_X6_isUnpaidOf
  rw [x1, x7]
  by_cases c : C 2 (A 1 k) = p
  · rw [if_pos (congrArg nI c)]
    by_cases c2 : A 6 k = 0
    · rw [if_pos ((nI_01 (by omega)).mpr c2), if_pos ⟨c, c2⟩]
    · rw [if_neg (nI_ne0 (by omega) (by omega)), if_neg (fun q => c2 q.2)]
  · rw [if_neg (fun q => c ((nI_eq (by omega) (by omega)).mp q)), if_neg (fun q => c q.1)]
def ow (C A : NF) (p i : Nat) : Nat := if C 2 (A 1 i) = p ∧ A 6 i = 0 then va C A i else 0
set_option maxRecDepth 20000 in
theorem p_owe (hC : CO C) (h : IV X C A) {p : Nat} (hp : p < 100) : ∀ d k f a, k + d = A 0 0 → d < f → f_X0_unpaidTo_4 X 1 (nI p) f (nI a) (nI k) = some (nI (a + SR (ow C A p) k d)) := by
  have hb := h.b
  have hCb := hC.b
  intro d
  induction d with
  | zero =>
    intro k f a hk hf
    obtain ⟨f, rfl⟩ := fuel hf
    rw [f_X0_unpaidTo_4, h.c.2.2.2.2.1, if_pos (nI_le (by omega) (by omega))]
    rfl
  | succ d ih =>
    intro k f a hk hf
    obtain ⟨f, rfl⟩ := fuel hf
    have hkn : k < A 0 0 := by omega
    have ⟨⟨l1, l2, l3, l4, l5, l6⟩, ⟨x0, x1, x2, x3, x4, x5, x6⟩, ⟨x7, l7, x8, l8, l9⟩, l10, l11⟩ := h.l hkn
    have hg : ¬ (nI k < 0 ∨ 20 ≤ (nI k).toNatClampNeg) := nI_in (by omega) (by decide)
    have hc : (nI k).toNatClampNeg = k := nI_clamp (by omega)
    rw [f_X0_unpaidTo_4, h.c.2.2.2.2.1, if_neg (nI_ge hkn (by omega)), gd_t hg, hc, q_unp hC h hkn hp, bn1_s]
    by_cases c : C 2 (A 1 k) = p ∧ A 6 k = 0
    · rw [if_pos c, if_neg (by decide), x2, x5, q_cents hC h (hC.p l1).2.1 l5, bn1_s, x3, pk_mul, nI_add, bnd_s, nI_1, ih (k + 1) f _ (by omega) (by omega), SR]
      unfold ow va
      rw [if_pos c, if_pos c.2, Nat.add_assoc]
    · rw [if_neg c, if_pos rfl, nI_1, ih (k + 1) f _ (by omega) (by omega), SR]
      unfold ow
      rw [if_neg c, Nat.zero_add]
set_option maxRecDepth 20000 in
theorem q_owe (hC : CO C) (h : IV X C A) {p : Nat} (hp : p < 100) : f_X0_unpaidTo X 1 (nI p) = some (nI (SR (ow C A p) 0 (A 0 0))) := by
  have hb := h.b
  unfold f_X0_unpaidTo
  have := p_owe hC h hp (A 0 0) 0 2000 0 (by omega) (by omega)
  rw [Nat.zero_add] at this
  exact this
set_option maxRecDepth 20000 in
theorem owe_le (hC : CO C) (h : IV X C A) (p : Nat) : SR (ow C A p) 0 (A 0 0) ≤ 546000 := by
  have hb := h.b
  have := SR_le (f := ow C A p) (B := 27300) (A 0 0) 0 (fun i _ hi => by
    unfold ow
    have := va_le hC h (k := i) (by omega)
    split <;> omega)
  omega
set_option maxRecDepth 20000 in
theorem p_oall (hC : CO C) (h : IV X C A) : ∀ d k f a, k + d = C 0 2 → d < f → f_X0_unpaidToAll_4 X 1 f (nI a) (nI k) = some (nI (a + SR (fun p => SR (ow C A p) 0 (A 0 0)) k d)) := by
  have hb := h.b
  have hCb := hC.b
  intro d
  induction d with
  | zero =>
    intro k f a hk hf
    obtain ⟨f, rfl⟩ := fuel hf
    rw [f_X0_unpaidToAll_4, h.c.2.2.1, if_pos (nI_le (by omega) (by omega))]
    rfl
  | succ d ih =>
    intro k f a hk hf
    obtain ⟨f, rfl⟩ := fuel hf
    rw [f_X0_unpaidToAll_4, h.c.2.2.1, if_neg (nI_ge (by omega) (by omega)), q_owe hC h (by omega), bn1_s, bnd_s, nI_add, nI_1, ih (k + 1) f _ (by omega) (by omega), SR, Nat.add_assoc]
set_option maxRecDepth 20000 in
theorem q_oall (hC : CO C) (h : IV X C A) : f_X0_unpaidToAll X 1 = some (nI (SR (fun p => SR (ow C A p) 0 (A 0 0)) 0 (C 0 2))) := by
  have hCb := hC.b
  unfold f_X0_unpaidToAll
  have := p_oall hC h (C 0 2) 0 2000 0 (by omega) (by omega)
  rw [Nat.zero_add] at this
  exact this
set_option maxRecDepth 20000 in
theorem p_gr (hC : CO C) (h : IV X C A) {s : Nat} (hs : s < 2 ^ 31) : ∀ d k f, k + d = C 0 0 → d < f → f_X1_gradeOfSugar_2 X 1 (nI s) f (nI k) = some (grL C s d k) := by
  have hCb := hC.b
  intro d
  induction d with
  | zero =>
    intro k f hk hf
    obtain ⟨f, rfl⟩ := fuel hf
    rw [f_X1_gradeOfSugar_2, h.c.1, if_pos (nI_le (by omega) (by omega))]
    rfl
  | succ d ih =>
    intro k f hk hf
    obtain ⟨f, rfl⟩ := fuel hf
    have hkn : k < C 0 0 := by omega
    have hl := hC.k hkn
    rw [f_X1_gradeOfSugar_2, h.c.1, if_neg (nI_ge hkn (by omega)), gd_t (nI_in (by omega) (by decide)), nI_clamp (by omega), h.cl hkn, grL]
    by_cases c : s < C 1 k
    · rw [if_pos c, if_pos (nI_lt c (by omega)), nI_1]
      exact ih (k + 1) f (by omega) (by omega)
    · rw [if_neg c, if_neg (nI_nlt (by omega) hs)]
set_option maxRecDepth 20000 in
theorem q_gr (hC : CO C) (h : IV X C A) {s : Nat} (hs : s < 2 ^ 31) : f_X1_gradeOfSugar X 1 (nI s) = some (gr C s) := by
  have hCb := hC.b
  exact p_gr hC h hs (C 0 0) 0 2000 (by omega) (by omega)
set_option maxRecDepth 20000 in
theorem q_lim (hC : CO C) (h : IV X C A) {p : Nat} (hp : p < C 0 3) : f_X5_limitOf X 1 (nI p) = some (nI (C 4 p)) := by
  have hCb := hC.b
  unfold f_X5_limitOf
  rw [if_neg (nI_pos (by omega)), h.c.2.2.2.1, if_neg (nI_ge hp (by omega)), gd_t (nI_in (by omega) (by decide)), nI_clamp (by omega), (h.p hp).2.2]
set_option maxRecDepth 20000 in
theorem q_von (hC : CO C) (h : IV X C A) {p : Nat} (hp : p < C 0 3) : f_X5_varietyOn X 1 (nI p) = some (nI (C 3 p)) := by
  have hCb := hC.b
  unfold f_X5_varietyOn
  rw [if_neg (nI_pos (by omega)), h.c.2.2.2.1, if_neg (nI_ge hp (by omega)), gd_t (nI_in (by omega) (by decide)), nI_clamp (by omega), (h.p hp).2.1]
set_option maxRecDepth 20000 in
theorem q_mean (hC : CO C) (h : IV X C A) {t : Nat} (ht : t < C 0 4) : f_X9_mean X 1 t = some (nI (A 11 t / A 9 t)) := by
  have ⟨t1, y0, y1, y2, y3, t4, t5⟩ := h.t ht
  have hc := hC.t ht
  have hb := h.b
  have hs := h.s.2
  have := SR_one (f := A 11) ht
  unfold f_X9_mean
  rw [y1, y3]
  by_cases c : A 9 t = 0
  · rw [c, if_pos (by decide), Nat.div_zero]
    rfl
  · rw [if_neg (fun q => c ((nI_le0 (by omega)).mp q)), gd_t (nI_ne0 (by omega) (by omega)), pk_div (by omega) (by omega) (by omega)]
end QRY
