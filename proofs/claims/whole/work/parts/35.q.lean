/-! PURE: each question, both sides -/
set_option maxRecDepth 20000 in
theorem rg (v : Int32) {n : Nat} (hn : n < 1000) : (∃ a, a < n ∧ v = nI a) ∨ (v < 0 ∨ nI n ≤ v) := by
  rcases pk_ix v (n := n) (by omega) with h | h | h
  · exact Or.inr (Or.inl h)
  · exact Or.inr (Or.inr h)
  · exact Or.inl h
section NEED
variable {X : XT} {M : MT} {r : Nat → Int32} {nc nv ng np nl nt nb : Nat}
set_option maxRecDepth 20000 in
theorem n_variety_1 (h : BRn X 1 r nc nv ng np nl nt nb) {a : Nat} (ha : a < nv) : f_X11_needVariety X (nI a) = some () ∧ t_X11_needVariety X (nI a) = none := by
  have hb := h.b
  unfold f_X11_needVariety t_X11_needVariety f_X1_hasVariety
  rw [if_neg (nI_pos (by omega)), h.c.2.1.1, if_neg (nI_ge ha (by omega)), bn1_s, bn1_s, if_neg (show ¬ (1 : Int32) = 0 by decide), if_neg (show ¬ (1 : Int32) = 0 by decide)]
  exact ⟨rfl, rfl⟩
set_option maxRecDepth 20000 in
theorem n_variety_0 (h : BRn X 1 r nc nv ng np nl nt nb) {v : Int32} (hv : v < 0 ∨ nI nv ≤ v) : f_X11_needVariety X v = none ∧ t_X11_needVariety X v = some 2 := by
  have e : f_X1_hasVariety X 1 v = some 0 := by
    unfold f_X1_hasVariety
    rcases hv with hv | hv
    · rw [if_pos hv]
    · by_cases h0 : v < 0
      · rw [if_pos h0]
      · rw [if_neg h0, h.c.2.1.1, if_pos hv]
  unfold f_X11_needVariety t_X11_needVariety
  rw [e, bn1_s, bn1_s, if_pos rfl, if_pos rfl]
  exact ⟨rfl, rfl⟩
set_option maxRecDepth 20000 in
theorem n_class_1 (h : BRn X 1 r nc nv ng np nl nt nb) {a : Nat} (ha : a < nc) : f_X11_needClass X (nI a) = some () ∧ t_X11_needClass X (nI a) = none := by
  have hb := h.b
  unfold f_X11_needClass t_X11_needClass f_X1_hasGrade
  rw [if_neg (nI_pos (by omega)), h.c.1.1, if_neg (nI_ge ha (by omega)), bn1_s, bn1_s, if_neg (show ¬ (1 : Int32) = 0 by decide), if_neg (show ¬ (1 : Int32) = 0 by decide)]
  exact ⟨rfl, rfl⟩
set_option maxRecDepth 20000 in
theorem n_class_0 (h : BRn X 1 r nc nv ng np nl nt nb) {v : Int32} (hv : v < 0 ∨ nI nc ≤ v) : f_X11_needClass X v = none ∧ t_X11_needClass X v = some 2 := by
  have e : f_X1_hasGrade X 1 v = some 0 := by
    unfold f_X1_hasGrade
    rcases hv with hv | hv
    · rw [if_pos hv]
    · by_cases h0 : v < 0
      · rw [if_pos h0]
      · rw [if_neg h0, h.c.1.1, if_pos hv]
  unfold f_X11_needClass t_X11_needClass
  rw [e, bn1_s, bn1_s, if_pos rfl, if_pos rfl]
  exact ⟨rfl, rfl⟩
set_option maxRecDepth 20000 in
theorem n_plot_1 (h : BRn X 1 r nc nv ng np nl nt nb) {a : Nat} (ha : a < np) : f_X11_needPlot X (nI a) = some () ∧ t_X11_needPlot X (nI a) = none := by
  have hb := h.b
  unfold f_X11_needPlot t_X11_needPlot f_X5_hasPlot
  rw [if_neg (nI_pos (by omega)), h.c.2.2.2.1.1, if_neg (nI_ge ha (by omega)), bn1_s, bn1_s, if_neg (show ¬ (1 : Int32) = 0 by decide), if_neg (show ¬ (1 : Int32) = 0 by decide)]
  exact ⟨rfl, rfl⟩
set_option maxRecDepth 20000 in
theorem n_plot_0 (h : BRn X 1 r nc nv ng np nl nt nb) {v : Int32} (hv : v < 0 ∨ nI np ≤ v) : f_X11_needPlot X v = none ∧ t_X11_needPlot X v = some 2 := by
  have e : f_X5_hasPlot X 1 v = some 0 := by
    unfold f_X5_hasPlot
    rcases hv with hv | hv
    · rw [if_pos hv]
    · by_cases h0 : v < 0
      · rw [if_pos h0]
      · rw [if_neg h0, h.c.2.2.2.1.1, if_pos hv]
  unfold f_X11_needPlot t_X11_needPlot
  rw [e, bn1_s, bn1_s, if_pos rfl, if_pos rfl]
  exact ⟨rfl, rfl⟩
set_option maxRecDepth 20000 in
theorem n_grower_1 (h : BRn X 1 r nc nv ng np nl nt nb) {a : Nat} (ha : a < ng) : f_X11_needGrower X (nI a) = some () ∧ t_X11_needGrower X (nI a) = none := by
  have hb := h.b
  unfold f_X11_needGrower t_X11_needGrower
  rw [if_neg (nI_pos (by omega)), if_neg (nI_pos (by omega)), h.c.2.2.1.1, if_pos (nI_lt ha (by omega)), if_pos (nI_lt ha (by omega))]
  exact ⟨rfl, rfl⟩
set_option maxRecDepth 20000 in
theorem n_grower_0 (h : BRn X 1 r nc nv ng np nl nt nb) {v : Int32} (hv : v < 0 ∨ nI ng ≤ v) : f_X11_needGrower X v = none ∧ t_X11_needGrower X v = some 2 := by
  unfold f_X11_needGrower t_X11_needGrower
  by_cases h0 : v < 0
  · rw [if_pos h0, if_pos h0]
    exact ⟨rfl, rfl⟩
  · have h1 : ¬ v < nI ng := Int32.not_lt.mpr (hv.resolve_left h0)
    rw [if_neg h0, if_neg h0, h.c.2.2.1.1, if_neg h1, if_neg h1]
    exact ⟨rfl, rfl⟩
set_option maxRecDepth 20000 in
theorem n_load_1 (h : BRn X 1 r nc nv ng np nl nt nb) {a : Nat} (ha : a < nl) : f_X11_knownLoad X (nI a) = some a ∧ t_X11_knownLoad X (nI a) = none := by
  have hb := h.b
  have hg : ¬ (nI a < 0 ∨ 20 ≤ (nI a).toNatClampNeg) := nI_in (by omega) (by decide)
  unfold f_X11_knownLoad t_X11_knownLoad
  rw [if_neg (nI_pos (by omega)), if_neg (nI_pos (by omega)), h.c.2.2.2.2.1.1, if_pos (nI_lt ha (by omega)), if_pos (nI_lt ha (by omega)), gd_t hg, gd_t hg, nI_clamp (by omega)]
  exact ⟨rfl, rfl⟩
set_option maxRecDepth 20000 in
theorem n_load_0 (h : BRn X 1 r nc nv ng np nl nt nb) {v : Int32} (hv : v < 0 ∨ nI nl ≤ v) : f_X11_knownLoad X v = none ∧ t_X11_knownLoad X v = some 2 := by
  unfold f_X11_knownLoad t_X11_knownLoad
  by_cases h0 : v < 0
  · rw [if_pos h0, if_pos h0]
    exact ⟨rfl, rfl⟩
  · have h1 : ¬ v < nI nl := Int32.not_lt.mpr (hv.resolve_left h0)
    rw [if_neg h0, if_neg h0, h.c.2.2.2.2.1.1, if_neg h1, if_neg h1]
    exact ⟨rfl, rfl⟩
set_option maxRecDepth 20000 in
theorem n_tank_1 (h : BRn X 1 r nc nv ng np nl nt nb) {a : Nat} (ha : a < nt) : f_X11_knownTank X (nI a) = some a ∧ t_X11_knownTank X (nI a) = none := by
  have hb := h.b
  have hg : ¬ (nI a < 0 ∨ 5 ≤ (nI a).toNatClampNeg) := nI_in (by omega) (by decide)
  unfold f_X11_knownTank t_X11_knownTank
  rw [if_neg (nI_pos (by omega)), if_neg (nI_pos (by omega)), h.c.2.2.2.2.2.1.1, if_pos (nI_lt ha (by omega)), if_pos (nI_lt ha (by omega)), gd_t hg, gd_t hg, nI_clamp (by omega)]
  exact ⟨rfl, rfl⟩
set_option maxRecDepth 20000 in
theorem n_tank_0 (h : BRn X 1 r nc nv ng np nl nt nb) {v : Int32} (hv : v < 0 ∨ nI nt ≤ v) : f_X11_knownTank X v = none ∧ t_X11_knownTank X v = some 2 := by
  unfold f_X11_knownTank t_X11_knownTank
  by_cases h0 : v < 0
  · rw [if_pos h0, if_pos h0]
    exact ⟨rfl, rfl⟩
  · have h1 : ¬ v < nI nt := Int32.not_lt.mpr (hv.resolve_left h0)
    rw [if_neg h0, if_neg h0, h.c.2.2.2.2.2.1.1, if_neg h1, if_neg h1]
    exact ⟨rfl, rfl⟩
set_option maxRecDepth 20000 in
theorem n_lot_1 (h : BRn X 1 r nc nv ng np nl nt nb) {a : Nat} (ha : a < nb) : f_X11_knownLot X (nI a) = some a ∧ t_X11_knownLot X (nI a) = none := by
  have hb := h.b
  have hg : ¬ (nI a < 0 ∨ 12 ≤ (nI a).toNatClampNeg) := nI_in (by omega) (by decide)
  unfold f_X11_knownLot t_X11_knownLot
  rw [if_neg (nI_pos (by omega)), if_neg (nI_pos (by omega)), h.c.2.2.2.2.2.2.1, if_pos (nI_lt ha (by omega)), if_pos (nI_lt ha (by omega)), gd_t hg, gd_t hg, nI_clamp (by omega)]
  exact ⟨rfl, rfl⟩
set_option maxRecDepth 20000 in
theorem n_lot_0 (h : BRn X 1 r nc nv ng np nl nt nb) {v : Int32} (hv : v < 0 ∨ nI nb ≤ v) : f_X11_knownLot X v = none ∧ t_X11_knownLot X v = some 2 := by
  unfold f_X11_knownLot t_X11_knownLot
  by_cases h0 : v < 0
  · rw [if_pos h0, if_pos h0]
    exact ⟨rfl, rfl⟩
  · have h1 : ¬ v < nI nb := Int32.not_lt.mpr (hv.resolve_left h0)
    rw [if_neg h0, if_neg h0, h.c.2.2.2.2.2.2.1, if_neg h1, if_neg h1]
    exact ⟨rfl, rfl⟩
set_option maxRecDepth 20000 in
theorem n_sugar_1 {v : Int32} (h1 : ¬ v < 0) (h2 : v ≤ 250) : f_X11_needSugar v = some () ∧ t_X11_needSugar v = none := by
  unfold f_X11_needSugar t_X11_needSugar
  rw [if_neg h1, if_neg h1, if_pos h2, if_pos h2]
  exact ⟨rfl, rfl⟩
set_option maxRecDepth 20000 in
theorem n_sugar_0 {v : Int32} (h : v < 0 ∨ ¬ v ≤ 250) : f_X11_needSugar v = none ∧ t_X11_needSugar v = some 1 := by
  unfold f_X11_needSugar t_X11_needSugar
  by_cases h0 : v < 0
  · rw [if_pos h0, if_pos h0]
    exact ⟨rfl, rfl⟩
  · have h1 := h.resolve_left h0
    rw [if_neg h0, if_neg h0, if_neg h1, if_neg h1]
    exact ⟨rfl, rfl⟩
set_option maxRecDepth 20000 in
theorem i_sugar_1 {v : Int32} (h1 : ¬ v < 0) (h2 : v ≤ 250) : f_X12_in v.toInt64 0 250 = some 1 := in_1 (lo := 0) (hi := 250) (Int32.not_lt.mp h1) h2
set_option maxRecDepth 20000 in
theorem i_sugar_0 {v : Int32} (h : v < 0 ∨ ¬ v ≤ 250) : f_X12_in v.toInt64 0 250 = some 0 := in_0 (lo := 0) (hi := 250) (h.imp id fun q => Int32.not_le.mp q)
set_option maxRecDepth 20000 in
theorem n_weight_1 {v : Int32} (h1 : ¬ v < 1) (h2 : v ≤ 5000) : f_X11_needWeight v = some () ∧ t_X11_needWeight v = none := by
  unfold f_X11_needWeight t_X11_needWeight
  rw [if_neg h1, if_neg h1, if_pos h2, if_pos h2]
  exact ⟨rfl, rfl⟩
set_option maxRecDepth 20000 in
theorem n_weight_0 {v : Int32} (h : v < 1 ∨ ¬ v ≤ 5000) : f_X11_needWeight v = none ∧ t_X11_needWeight v = some 1 := by
  unfold f_X11_needWeight t_X11_needWeight
  by_cases h0 : v < 1
  · rw [if_pos h0, if_pos h0]
    exact ⟨rfl, rfl⟩
  · have h1 := h.resolve_left h0
    rw [if_neg h0, if_neg h0, if_neg h1, if_neg h1]
    exact ⟨rfl, rfl⟩
set_option maxRecDepth 20000 in
theorem i_weight_1 {v : Int32} (h1 : ¬ v < 1) (h2 : v ≤ 5000) : f_X12_in v.toInt64 1 5000 = some 1 := in_1 (lo := 1) (hi := 5000) (Int32.not_lt.mp h1) h2
set_option maxRecDepth 20000 in
theorem i_weight_0 {v : Int32} (h : v < 1 ∨ ¬ v ≤ 5000) : f_X12_in v.toInt64 1 5000 = some 0 := in_0 (lo := 1) (hi := 5000) (h.imp id fun q => Int32.not_le.mp q)
set_option maxRecDepth 20000 in
theorem n_bottles_1 {v : Int32} (h1 : ¬ v < 1) (h2 : v ≤ 20000) : f_X11_needBottles v = some () ∧ t_X11_needBottles v = none := by
  unfold f_X11_needBottles t_X11_needBottles
  rw [if_neg h1, if_neg h1, if_pos h2, if_pos h2]
  exact ⟨rfl, rfl⟩
set_option maxRecDepth 20000 in
theorem n_bottles_0 {v : Int32} (h : v < 1 ∨ ¬ v ≤ 20000) : f_X11_needBottles v = none ∧ t_X11_needBottles v = some 1 := by
  unfold f_X11_needBottles t_X11_needBottles
  by_cases h0 : v < 1
  · rw [if_pos h0, if_pos h0]
    exact ⟨rfl, rfl⟩
  · have h1 := h.resolve_left h0
    rw [if_neg h0, if_neg h0, if_neg h1, if_neg h1]
    exact ⟨rfl, rfl⟩
set_option maxRecDepth 20000 in
theorem i_bottles_1 {v : Int32} (h1 : ¬ v < 1) (h2 : v ≤ 20000) : f_X12_in v.toInt64 1 20000 = some 1 := in_1 (lo := 1) (hi := 20000) (Int32.not_lt.mp h1) h2
set_option maxRecDepth 20000 in
theorem i_bottles_0 {v : Int32} (h : v < 1 ∨ ¬ v ≤ 20000) : f_X12_in v.toInt64 1 20000 = some 0 := in_0 (lo := 1) (hi := 20000) (h.imp id fun q => Int32.not_le.mp q)
set_option maxRecDepth 20000 in
theorem m_variety_1 (h : BRn X 1 (M.1 M.2.2) nc nv ng np nl nt nb) (hM : M.2.2 = 1) {a : Nat} (ha : a < nv) : f_X12_hasVariety M (nI a) = some 1 := by
  have hb := h.b
  have e : M.1 1 4 = nI nv := by have := h.c.2.1.2; rw [hM] at this; exact this
  unfold f_X12_hasVariety
  rw [e, has_1 ha (by omega), bn1_s, gd_t (by decide)]
set_option maxRecDepth 20000 in
theorem m_variety_0 (h : BRn X 1 (M.1 M.2.2) nc nv ng np nl nt nb) (hM : M.2.2 = 1) {v : Int32} (hv : v < 0 ∨ nI nv ≤ v) : f_X12_hasVariety M v = some 0 := by
  have hb := h.b
  have e : M.1 1 4 = nI nv := by have := h.c.2.1.2; rw [hM] at this; exact this
  unfold f_X12_hasVariety
  rw [e, has_0 (by omega) hv, bn1_s, gd_t (by decide)]
set_option maxRecDepth 20000 in
theorem m_grower_1 (h : BRn X 1 (M.1 M.2.2) nc nv ng np nl nt nb) (hM : M.2.2 = 1) {a : Nat} (ha : a < ng) : f_X12_hasGrower M (nI a) = some 1 := by
  have hb := h.b
  have e : M.1 1 5 = nI ng := by have := h.c.2.2.1.2; rw [hM] at this; exact this
  unfold f_X12_hasGrower
  rw [e, has_1 ha (by omega), bn1_s, gd_t (by decide)]
set_option maxRecDepth 20000 in
theorem m_grower_0 (h : BRn X 1 (M.1 M.2.2) nc nv ng np nl nt nb) (hM : M.2.2 = 1) {v : Int32} (hv : v < 0 ∨ nI ng ≤ v) : f_X12_hasGrower M v = some 0 := by
  have hb := h.b
  have e : M.1 1 5 = nI ng := by have := h.c.2.2.1.2; rw [hM] at this; exact this
  unfold f_X12_hasGrower
  rw [e, has_0 (by omega) hv, bn1_s, gd_t (by decide)]
set_option maxRecDepth 20000 in
theorem m_plot_1 (h : BRn X 1 (M.1 M.2.2) nc nv ng np nl nt nb) (hM : M.2.2 = 1) {a : Nat} (ha : a < np) : f_X12_hasPlot M (nI a) = some 1 := by
  have hb := h.b
  have e : M.1 1 6 = nI np := by have := h.c.2.2.2.1.2; rw [hM] at this; exact this
  unfold f_X12_hasPlot
  rw [e, has_1 ha (by omega), bn1_s, gd_t (by decide)]
set_option maxRecDepth 20000 in
theorem m_plot_0 (h : BRn X 1 (M.1 M.2.2) nc nv ng np nl nt nb) (hM : M.2.2 = 1) {v : Int32} (hv : v < 0 ∨ nI np ≤ v) : f_X12_hasPlot M v = some 0 := by
  have hb := h.b
  have e : M.1 1 6 = nI np := by have := h.c.2.2.2.1.2; rw [hM] at this; exact this
  unfold f_X12_hasPlot
  rw [e, has_0 (by omega) hv, bn1_s, gd_t (by decide)]
set_option maxRecDepth 20000 in
theorem m_load_1 (h : BRn X 1 (M.1 M.2.2) nc nv ng np nl nt nb) (hM : M.2.2 = 1) {a : Nat} (ha : a < nl) : f_X12_hasLoad M (nI a) = some 1 := by
  have hb := h.b
  have e : M.1 1 7 = nI nl := by have := h.c.2.2.2.2.1.2; rw [hM] at this; exact this
  unfold f_X12_hasLoad
  rw [e, has_1 ha (by omega), bn1_s, gd_t (by decide)]
set_option maxRecDepth 20000 in
theorem m_load_0 (h : BRn X 1 (M.1 M.2.2) nc nv ng np nl nt nb) (hM : M.2.2 = 1) {v : Int32} (hv : v < 0 ∨ nI nl ≤ v) : f_X12_hasLoad M v = some 0 := by
  have hb := h.b
  have e : M.1 1 7 = nI nl := by have := h.c.2.2.2.2.1.2; rw [hM] at this; exact this
  unfold f_X12_hasLoad
  rw [e, has_0 (by omega) hv, bn1_s, gd_t (by decide)]
set_option maxRecDepth 20000 in
theorem m_tank_1 (h : BRn X 1 (M.1 M.2.2) nc nv ng np nl nt nb) (hM : M.2.2 = 1) {a : Nat} (ha : a < nt) : f_X12_hasTank M (nI a) = some 1 := by
  have hb := h.b
  have e : M.1 1 8 = nI nt := by have := h.c.2.2.2.2.2.1.2; rw [hM] at this; exact this
  unfold f_X12_hasTank
  rw [e, has_1 ha (by omega), bn1_s, gd_t (by decide)]
set_option maxRecDepth 20000 in
theorem m_tank_0 (h : BRn X 1 (M.1 M.2.2) nc nv ng np nl nt nb) (hM : M.2.2 = 1) {v : Int32} (hv : v < 0 ∨ nI nt ≤ v) : f_X12_hasTank M v = some 0 := by
  have hb := h.b
  have e : M.1 1 8 = nI nt := by have := h.c.2.2.2.2.2.1.2; rw [hM] at this; exact this
  unfold f_X12_hasTank
  rw [e, has_0 (by omega) hv, bn1_s, gd_t (by decide)]
set_option maxRecDepth 20000 in
theorem m_lot_1 (h : BRn X 1 (M.1 M.2.2) nc nv ng np nl nt nb) (hM : M.2.2 = 1) {a : Nat} (ha : a < nb) : f_X12_hasLot M (nI a) = some 1 := by
  have hb := h.b
  have e : M.1 1 9 = nI nb := by have := h.c.2.2.2.2.2.2.2; rw [hM] at this; exact this
  unfold f_X12_hasLot
  rw [e, has_1 ha (by omega), bn1_s, gd_t (by decide)]
set_option maxRecDepth 20000 in
theorem m_lot_0 (h : BRn X 1 (M.1 M.2.2) nc nv ng np nl nt nb) (hM : M.2.2 = 1) {v : Int32} (hv : v < 0 ∨ nI nb ≤ v) : f_X12_hasLot M v = some 0 := by
  have hb := h.b
  have e : M.1 1 9 = nI nb := by have := h.c.2.2.2.2.2.2.2; rw [hM] at this; exact this
  unfold f_X12_hasLot
  rw [e, has_0 (by omega) hv, bn1_s, gd_t (by decide)]
set_option maxRecDepth 20000 in
theorem m_pair_1 (h : BRn X 1 (M.1 M.2.2) nc nv ng np nl nt nb) (hM : M.2.2 = 1) {a g : Nat} (ha : a < nv) (hg : g < nc) : f_X12_hasPair M (nI a) (nI g) = some 1 := by
  have hb := h.b
  have e : M.1 1 4 = nI nv := by have := h.c.2.1.2; rw [hM] at this; exact this
  have e2 : M.1 1 3 = nI nc := by have := h.c.1.2; rw [hM] at this; exact this
  unfold f_X12_hasPair
  rw [e, e2, has_1 ha (by omega), bn1_s, if_neg (by decide), has_1 hg (by omega), bn1_s, if_neg (by decide)]
set_option maxRecDepth 20000 in
theorem m_pair_0 (h : BRn X 1 (M.1 M.2.2) nc nv ng np nl nt nb) (hM : M.2.2 = 1) {v w : Int32} (hv : v < 0 ∨ nI nv ≤ v) : f_X12_hasPair M v w = some 0 := by
  have hb := h.b
  have e : M.1 1 4 = nI nv := by have := h.c.2.1.2; rw [hM] at this; exact this
  unfold f_X12_hasPair
  rw [e, has_0 (by omega) hv, bn1_s, if_pos rfl]
set_option maxRecDepth 20000 in
theorem m_pair_10 (h : BRn X 1 (M.1 M.2.2) nc nv ng np nl nt nb) (hM : M.2.2 = 1) {a : Nat} {w : Int32} (ha : a < nv) (hv : w < 0 ∨ nI nc ≤ w) : f_X12_hasPair M (nI a) w = some 0 := by
  have hb := h.b
  have e : M.1 1 4 = nI nv := by have := h.c.2.1.2; rw [hM] at this; exact this
  have e2 : M.1 1 3 = nI nc := by have := h.c.1.2; rw [hM] at this; exact this
  unfold f_X12_hasPair
  rw [e, e2, has_1 ha (by omega), bn1_s, if_neg (by decide), has_0 (by omega) hv, bn1_s, if_pos rfl]
set_option maxRecDepth 20000 in
theorem m_are_1 {w s : Int32} (h1 : ¬ w < 1) (h2 : w ≤ 5000) (h3 : ¬ s < 0) (h4 : s ≤ 250) : f_X12_areLoad M w s = some 1 := by
  unfold f_X12_areLoad
  rw [i_weight_1 h1 h2, bn1_s, if_neg (by decide), i_sugar_1 h3 h4, bn1_s, if_neg (by decide)]
set_option maxRecDepth 20000 in
theorem m_are_0 {w s : Int32} (h : w < 1 ∨ ¬ w ≤ 5000) : f_X12_areLoad M w s = some 0 := by
  unfold f_X12_areLoad
  rw [i_weight_0 h, bn1_s, if_pos rfl]
set_option maxRecDepth 20000 in
theorem m_are_10 {w s : Int32} (h1 : ¬ w < 1) (h2 : w ≤ 5000) (h : s < 0 ∨ ¬ s ≤ 250) : f_X12_areLoad M w s = some 0 := by
  unfold f_X12_areLoad
  rw [i_weight_1 h1 h2, bn1_s, if_neg (by decide), i_sugar_0 h, bn1_s, if_pos rfl]
end NEED
-- the varieties of a grower
section VARS
variable {X : XT} {j : Nat} {M : MT} {nc nv ng np nl nt nb : Nat}
def cvN (X : XT) (j : Nat) (g : Int32) (n : Nat) : Nat → Nat → Nat | 0, _ => 0 | d + 1, k => (if hvF X j (nI k) g n 0 then 1 else 0) + cvN X j g n d (k + 1)
set_option maxRecDepth 20000 in
theorem p_hv (h : BRn X j (M.1 M.2.2) nc nv ng np nl nt nb) (a g : Int32) : ∀ d k f, k + d = nl → d < f → f_X3_hasVarietyFrom_2 X j a g f (nI k) = some (if hvF X j a g d k then 1 else 0) := by
  obtain ⟨b1, b2, b3, b4, b5, b6, b7⟩ := h.b
  intro d
  induction d with
  | zero =>
    intro k f hk hf
    obtain ⟨f, rfl⟩ := fuel hf
    rw [f_X3_hasVarietyFrom_2, h.c.2.2.2.2.1.1, if_pos (nI_le (by omega) (by omega))]; rfl
  | succ d ih =>
    intro k f hk hf
    obtain ⟨f, rfl⟩ := fuel hf
    have hkn : k < nl := by omega
    have hg : ¬ (nI k < 0 ∨ 20 ≤ (nI k).toNatClampNeg) := nI_in (by omega) (by decide)
    have i1 := ih (k + 1) f (by omega) (by omega)
    rw [f_X3_hasVarietyFrom_2, h.c.2.2.2.2.1.1, if_neg (nI_ge hkn (by omega)), gd_t hg, gd_t hg, nI_clamp (by omega), nI_1, hvF, i1]
    by_cases q1 : X 22 j k 2 = a
    · by_cases q2 : X 22 j k 1 = g
      · rw [if_pos q1, if_pos q2, decide_eq_true (show X 22 j k 2 = a ∧ X 22 j k 1 = g from ⟨q1, q2⟩)]; rfl
      · rw [if_pos q1, if_neg q2, decide_eq_false (show ¬ (X 22 j k 2 = a ∧ X 22 j k 1 = g) from fun q => q2 q.2), Bool.false_or]
    · rw [if_neg q1, decide_eq_false (show ¬ (X 22 j k 2 = a ∧ X 22 j k 1 = g) from fun q => q1 q.1), Bool.false_or]
set_option maxRecDepth 20000 in
theorem p_cv (h : BRn X j (M.1 M.2.2) nc nv ng np nl nt nb) (g : Int32) : ∀ d k f c, k + d = nv → d < f → f_X0_countVarietiesFrom_4 X j g f (nI c) (nI k) = some (nI (c + cvN X j g nl d k)) := by
  obtain ⟨b1, b2, b3, b4, b5, b6, b7⟩ := h.b
  intro d
  induction d with
  | zero =>
    intro k f c hk hf
    obtain ⟨f, rfl⟩ := fuel hf
    rw [f_X0_countVarietiesFrom_4, h.c.2.1.1, if_pos (nI_le (by omega) (by omega))]; rfl
  | succ d ih =>
    intro k f c hk hf
    obtain ⟨f, rfl⟩ := fuel hf
    have hkn : k < nv := by omega
    rw [f_X0_countVarietiesFrom_4, h.c.2.1.1, if_neg (nI_ge hkn (by omega)), show f_X3_hasVarietyFrom X j (nI k) g = _ from p_hv h (nI k) g nl 0 2000 (by omega) (by omega), bn1_s, nI_1, nI_1, cvN]
    by_cases q : hvF X j (nI k) g nl 0 = true
    · rw [if_pos q, if_neg (show ¬ (1 : Int32) = 0 by decide), if_pos q, ← Nat.add_assoc]
      exact ih (k + 1) f (c + 1) (by omega) (by omega)
    · rw [if_neg q, if_pos (show (0 : Int32) = 0 from rfl), if_neg q, Nat.zero_add]
      exact ih (k + 1) f c (by omega) (by omega)
set_option maxRecDepth 20000 in
theorem p_set (h : BRn X j (M.1 M.2.2) nc nv ng np nl nt nb) (hM : M.2.2 = 1) (g : Int32) : ∀ d k f s, k + d = nl → d < f → s < 16 → f_X12_varietiesOf_18 g f M (nI s) (nI k) = f_X12_varietiesOf_63 2000 M 0 (nI (stF X j g d k s)) ∧ stF X j g d k s < 16 ∧ ∀ a, a < 4 → (stF X j g d k s).testBit a = (s.testBit a || hvF X j (nI a) g d k) := by
  obtain ⟨b1, b2, b3, b4, b5, b6, b7⟩ := h.b
  have c7 : M.1 1 7 = nI nl := by have := h.c.2.2.2.2.1.2; rw [hM] at this; exact this
  intro d
  induction d with
  | zero =>
    intro k f s hk hf hs
    obtain ⟨f, rfl⟩ := fuel hf
    refine ⟨?_, hs, fun a ha => by rw [stF, hvF, Bool.or_false]⟩
    rw [f_X12_varietiesOf_18, c7, if_pos (nI_le (by omega) (by omega))]; rfl
  | succ d ih =>
    intro k f s hk hf hs
    obtain ⟨f, rfl⟩ := fuel hf
    have hkn : k < nl := by omega
    obtain ⟨p, o, v', w, s', g', t, ⟨hp, ho, hv, hw1, hw2, hs', hg, ht⟩, ⟨x0, x1, x2, x3, x4, x5, x6⟩, ⟨r0, r1, r2, r3, r4, rv, rg⟩, -⟩ := h.lf hkn
    have ecl : (X 22 j k 2).toNatClampNeg = v' := by rw [x2]; exact nI_clamp (by omega)
    rw [f_X12_varietiesOf_18, c7, if_neg (nI_ge hkn (by omega)), rg, bn1_s, rv, bn1_s, bnd_s, bnd_s, nI_1, (or16 s hs v' (by omega)).1, show nI s ||| 0 = nI s from Int32.or_zero, stF, ecl, x1]
    by_cases q : nI o = g
    · obtain ⟨i1, i2, i3⟩ := ih (k + 1) f (s ||| 2 ^ v') (by omega) (by omega) (or16 s hs v' (by omega)).2
      rw [if_pos q, if_pos q]
      refine ⟨i1, i2, fun a ha => ?_⟩
      rw [i3 a ha, hvF, x2, x1, Nat.testBit_or, Nat.testBit_two_pow, Bool.or_assoc]
      congr 1
      congr 1
      by_cases e : v' = a
      · subst e
        rw [decide_eq_true (show nI v' = nI v' ∧ nI o = g from ⟨rfl, q⟩), decide_eq_true rfl]
      · rw [decide_eq_false (show ¬ (nI v' = nI a ∧ nI o = g) from fun z => e ((nI_eq (by omega) (by omega)).mp z.1)), decide_eq_false e]
    · obtain ⟨i1, i2, i3⟩ := ih (k + 1) f s (by omega) (by omega) hs
      rw [if_neg q, if_neg q]
      refine ⟨i1, i2, fun a ha => ?_⟩
      rw [i3 a ha, hvF, x1, decide_eq_false (show ¬ (X 22 j k 2 = nI a ∧ nI o = g) from fun z => q z.2), Bool.false_or]
set_option maxRecDepth 20000 in
theorem p_pop (M : MT) : ∀ f s a, s < 16 → s < f → f_X12_varietiesOf_63 f M (nI a) (nI s) = some (nI (a + pc4 s), M) := by
  intro f
  induction f with
  | zero => intro s a h1 h2; omega
  | succ f ih =>
    intro s a h1 h2
    rw [f_X12_varietiesOf_63]
    by_cases q : s = 0
    · subst q
      rw [if_pos (show nI 0 = 0 from rfl)]; rfl
    · obtain ⟨e1, e2, e3⟩ := and16 s h1 q
      rw [if_neg (nI_ne0 (by omega) (by omega)), bnd_s, e1, nI_1, ih _ _ (by omega) (by omega), e3, ← Nat.add_assoc]
set_option maxRecDepth 20000 in
theorem hv_no (h : BRn X j (M.1 M.2.2) nc nv ng np nl nt nb) (g : Int32) {a : Nat} (ha : nv ≤ a) (ha4 : a < 4) : ∀ d k, k + d = nl → hvF X j (nI a) g d k = false := by
  have hb := h.b
  intro d
  induction d with
  | zero => intro k _; rfl
  | succ d ih =>
    intro k hk
    obtain ⟨p, o, v', w, s', g', t, ⟨hp, ho, hv, hw1, hw2, hs', hg, ht⟩, ⟨x0, x1, x2, x3, x4, x5, x6⟩, -⟩ := h.lf (show k < nl by omega)
    rw [hvF, ih (k + 1) (by omega), x2, decide_eq_false (show ¬ (nI v' = nI a ∧ X 22 j k 1 = g) from fun z => by have := (nI_eq (by omega) (by omega)).mp z.1; omega)]; rfl
set_option maxRecDepth 20000 in
theorem BRn.vars (h : BRn X j (M.1 M.2.2) nc nv ng np nl nt nb) (hM : M.2.2 = 1) (g : Int32) : ∃ r, f_X0_countVarietiesFrom X j g = some r ∧ f_X12_varietiesOf_18 g 2000 M 0 0 = some (r, M) := by
  obtain ⟨b1, b2, b3, b4, b5, b6, b7⟩ := h.b
  refine ⟨_, p_cv h g nv 0 2000 0 (by omega) (by omega), ?_⟩
  obtain ⟨i1, i2, i3⟩ := p_set h hM g nl 0 2000 0 (by omega) (by omega) (by decide)
  have n := fun a ha ha4 => hv_no h g (a := a) ha ha4 nl 0 (by omega)
  have e : pc4 (stF X j g nl 0 0) = cvN X j g nl nv 0 := by
    unfold pc4
    rw [i3 0 (by decide), i3 1 (by decide), i3 2 (by decide), i3 3 (by decide)]
    simp only [Nat.zero_testBit, Bool.false_or]
    have hc : nv = 0 ∨ nv = 1 ∨ nv = 2 ∨ nv = 3 ∨ nv = 4 := by omega
    rcases hc with rfl | rfl | rfl | rfl | rfl
    · rw [n 0 (by decide) (by decide), n 1 (by decide) (by decide), n 2 (by decide) (by decide), n 3 (by decide) (by decide)]; rfl
    · rw [n 1 (by decide) (by decide), n 2 (by decide) (by decide), n 3 (by decide) (by decide)]; simp [cvN]
    · rw [n 2 (by decide) (by decide), n 3 (by decide) (by decide)]; simp [cvN]
    · rw [n 3 (by decide) (by decide)]; simp [cvN, Nat.add_assoc]
    · simp [cvN, Nat.add_assoc]
  rw [show f_X12_varietiesOf_18 g 2000 M 0 0 = _ from i1, show f_X12_varietiesOf_63 2000 M 0 (nI (stF X j g nl 0 0)) = _ from p_pop M 2000 _ 0 i2 (by omega), e]
end VARS
section QS
variable {X : XT} {M : MT}
set_option maxRecDepth 20000 in
theorem s_varietyCount (h : RR X M) : ∃ r, f_X11_varietyCount X = some r ∧ f_X12_varietyCount M = some (r, mi M 0 0 0) := by
  obtain ⟨nc, nv, ng, np, nl, nt, nb, hq, hb⟩ := h.q
  have e := hb.c.2.1.2
  rw [h.1] at e
  refine ⟨_, rfl, ?_⟩
  unfold f_X12_varietyCount
  rw [show f_X12_tell M 4 = _ from tell_ (M := M) (k := 4) (by decide), bn2_s, e, hb.c.2.1.1]
set_option maxRecDepth 20000 in
theorem s_classCount (h : RR X M) : ∃ r, f_X11_classCount X = some r ∧ f_X12_classCount M = some (r, mi M 0 0 0) := by
  obtain ⟨nc, nv, ng, np, nl, nt, nb, hq, hb⟩ := h.q
  have e := hb.c.1.2
  rw [h.1] at e
  refine ⟨_, rfl, ?_⟩
  unfold f_X12_classCount
  rw [show f_X12_tell M 3 = _ from tell_ (M := M) (k := 3) (by decide), bn2_s, e, hb.c.1.1]
set_option maxRecDepth 20000 in
theorem s_growerCount (h : RR X M) : ∃ r, f_X11_growerCount X = some r ∧ f_X12_growerCount M = some (r, mi M 0 0 0) := by
  obtain ⟨nc, nv, ng, np, nl, nt, nb, hq, hb⟩ := h.q
  have e := hb.c.2.2.1.2
  rw [h.1] at e
  refine ⟨_, rfl, ?_⟩
  unfold f_X12_growerCount
  rw [show f_X12_tell M 5 = _ from tell_ (M := M) (k := 5) (by decide), bn2_s, e, hb.c.2.2.1.1]
set_option maxRecDepth 20000 in
theorem s_plotCount (h : RR X M) : ∃ r, f_X11_plotCount X = some r ∧ f_X12_plotCount M = some (r, mi M 0 0 0) := by
  obtain ⟨nc, nv, ng, np, nl, nt, nb, hq, hb⟩ := h.q
  have e := hb.c.2.2.2.1.2
  rw [h.1] at e
  refine ⟨_, rfl, ?_⟩
  unfold f_X12_plotCount
  rw [show f_X12_tell M 6 = _ from tell_ (M := M) (k := 6) (by decide), bn2_s, e, hb.c.2.2.2.1.1]
set_option maxRecDepth 20000 in
theorem s_loadCount (h : RR X M) : ∃ r, f_X11_loadCount X = some r ∧ f_X12_loadCount M = some (r, mi M 0 0 0) := by
  obtain ⟨nc, nv, ng, np, nl, nt, nb, hq, hb⟩ := h.q
  have e := hb.c.2.2.2.2.1.2
  rw [h.1] at e
  refine ⟨_, rfl, ?_⟩
  unfold f_X12_loadCount
  rw [show f_X12_tell M 7 = _ from tell_ (M := M) (k := 7) (by decide), bn2_s, e, hb.c.2.2.2.2.1.1]
set_option maxRecDepth 20000 in
theorem s_lotCount (h : RR X M) : ∃ r, f_X11_lotCount X = some r ∧ f_X12_lotCount M = some (r, mi M 0 0 0) := by
  obtain ⟨nc, nv, ng, np, nl, nt, nb, hq, hb⟩ := h.q
  have e := hb.c.2.2.2.2.2.2.2
  rw [h.1] at e
  refine ⟨_, rfl, ?_⟩
  unfold f_X12_lotCount
  rw [show f_X12_tell M 9 = _ from tell_ (M := M) (k := 9) (by decide), bn2_s, e, hb.c.2.2.2.2.2.2.1]
set_option maxRecDepth 20000 in
theorem s_cash (h : RR X M) : ∃ r, f_X11_cash X = some r ∧ f_X12_cash M = some (r, mi M 0 0 0) := by
  obtain ⟨nc, nv, ng, np, nl, nt, nb, hq, hb⟩ := h.q
  have e := hb.m.2.2.1
  rw [h.1] at e
  refine ⟨_, rfl, ?_⟩
  unfold f_X12_cash
  rw [show f_X12_tell M 2 = _ from tell_ (M := M) (k := 2) (by decide), bn2_s, e]
set_option maxRecDepth 20000 in
theorem s_errorCode (h : RR X M) : ∃ r, f_X11_errorCode X = some r ∧ f_X12_errorCode M = some (r, mi M 0 0 0) := by
  refine ⟨_, rfl, ?_⟩
  unfold f_X12_errorCode
  rw [bnd_s, h.2.2.2.2.1.1]
  simp [mi]
set_option maxRecDepth 20000 in
theorem s_errorOffset (h : RR X M) : ∃ r, f_X11_errorOffset X = some r ∧ f_X12_errorOffset M = some (r, mi M 0 0 0) := by
  refine ⟨_, rfl, ?_⟩
  unfold f_X12_errorOffset
  rw [bnd_s, h.2.2.2.2.1.2]
  simp [mi]
set_option maxRecDepth 20000 in
theorem s_deliveredClasses (h : RR X M) : ∃ r, f_X11_deliveredClasses X = some r ∧ f_X12_deliveredClasses M = some (r, mi M 0 0 0) := by
  obtain ⟨nc, nv, ng, np, nl, nt, nb, hq, -⟩ := h.q
  obtain ⟨h0, h1⟩ := hq 0
  have hb := h0.b
  have c7 : (mi M 0 0 0).1 1 7 = nI nl := by have := h0.c.2.2.2.2.1.2; rw [h1] at this; exact this
  refine ⟨nI (cnP X 1 nl), ?_, ?_⟩
  · unfold f_X11_deliveredClasses
    rw [show f_X3_countPairs X 1 = _ from p_count h0 nl 0 2000 (by omega) (by omega), bn1_s]
  · unfold f_X12_deliveredClasses
    rw [bnd_s, c7, h0.first (Nat.le_refl nl), bn1_s]
set_option maxRecDepth 20000 in
theorem s_greatestClass (h : RR X M) : ∃ r, f_X11_greatestClass X = some r ∧ f_X12_greatestClass M = some (r, mi M 0 0 0) := by
  obtain ⟨nc, nv, ng, np, nl, nt, nb, hq, -⟩ := h.q
  obtain ⟨h0, h1⟩ := hq 0
  have hb := h0.b
  obtain ⟨r, e1, e2⟩ := p_heavy h0 h1 nl 0 2000 (-1) 0 (by omega) (by omega)
  refine ⟨r, ?_, ?_⟩
  · unfold f_X11_greatestClass
    rw [show f_X3_heaviestPair X 1 = _ from e1, bn1_s]
  · unfold f_X12_greatestClass
    rw [bnd_s]
    exact e2
set_option maxRecDepth 20000 in
theorem s_greatestGrower (h : RR X M) : ∃ r, f_X11_greatestGrower X = some r ∧ f_X12_greatestGrower M = some (r, mi M 0 0 0) := by
  obtain ⟨nc, nv, ng, np, nl, nt, nb, hq, -⟩ := h.q
  obtain ⟨h0, h1⟩ := hq 0
  have hb := h0.b
  obtain ⟨r, e1, e2⟩ := p_ggrow h0 h1 ng 0 2000 (-1) (-1) (by omega) (by omega) (Or.inl ⟨rfl, rfl⟩)
  refine ⟨r, ?_, ?_⟩
  · unfold f_X11_greatestGrower
    rw [show f_X0_heaviestGrower X 1 = _ from e1, bn1_s]
  · unfold f_X12_greatestGrower
    rw [bnd_s]
    exact e2
set_option maxRecDepth 20000 in
theorem s_sweetestLot (h : RR X M) : ∃ r, f_X11_sweetestLot X = some r ∧ f_X12_sweetestLot M = some (r, mi M 0 0 0) := by
  obtain ⟨nc, nv, ng, np, nl, nt, nb, hq, -⟩ := h.q
  obtain ⟨h0, h1⟩ := hq 0
  have hb := h0.b
  obtain ⟨r, e1, e2⟩ := p_sweet h0 h1 nb 0 2000 (-1) (-1) (by omega) (by omega) (Or.inl ⟨rfl, rfl⟩)
  refine ⟨r, ?_, ?_⟩
  · unfold f_X11_sweetestLot
    rw [show f_X2_sweetestUnsold X 1 = _ from e1, bn1_s]
  · unfold f_X12_sweetestLot
    rw [bnd_s]
    exact e2
set_option maxRecDepth 20000 in
theorem s_owedToAll (h : RR X M) : ∃ r, f_X11_owedToAll X = some r ∧ f_X12_owedToAll M = some (r, mi M 0 0 0) := by
  obtain ⟨nc, nv, ng, np, nl, nt, nb, hq, -⟩ := h.q
  obtain ⟨h0, h1⟩ := hq 0
  obtain ⟨r, e1, e2⟩ := h0.oall h1
  refine ⟨r, ?_, ?_⟩
  · unfold f_X11_owedToAll
    rw [e1, bn1_s]
  · unfold f_X12_owedToAll
    rw [bnd_s, e2, bn1_s]
set_option maxRecDepth 20000 in
theorem s_missingCash (h : RR X M) : ∃ r, f_X11_missingCash X = some r ∧ f_X12_missingCash M = some (r, mi M 0 0 0) := by
  obtain ⟨nc, nv, ng, np, nl, nt, nb, hq, -⟩ := h.q
  obtain ⟨h0, h1⟩ := hq 0
  obtain ⟨r, e1, e2⟩ := h0.oall h1
  have e3 := h0.m.2.2.1
  rw [h1] at e3
  unfold f_X11_missingCash f_X12_missingCash
  rw [e1, bn1_s, bnd_s, e2, bn1_s, e3]
  exact ⟨_, rfl, rfl⟩
set_option maxRecDepth 20000 in
theorem s_payableGrowers (h : RR X M) : ∃ r, f_X11_payableGrowers X = some r ∧ f_X12_payableGrowers M = some (r, mi M 0 0 0) := by
  obtain ⟨nc, nv, ng, np, nl, nt, nb, hq, -⟩ := h.q
  obtain ⟨h0, h1⟩ := hq 0
  have hb := h0.b
  have e3 := h0.m.2.2.1
  rw [h1] at e3
  obtain ⟨r, e1, e2⟩ := p_payable h0 h1 ng 0 2000 ((mi M 0 0 0).1 1 2) 0 (by omega) (by omega)
  refine ⟨r, ?_, ?_⟩
  · unfold f_X11_payableGrowers f_X0_countPayable
    rw [e3, show f_X0_countPayable_9 X 1 2000 ((mi M 0 0 0).1 1 2) 0 0 = _ from e1, bn1_s]
  · unfold f_X12_payableGrowers
    rw [bnd_s]
    exact e2
set_option maxRecDepth 20000 in
theorem s_bottleDifference (h : RR X M) : ∃ r, f_X11_bottleDifference X = some r ∧ f_X12_bottleDifference M = some (r, mi M 0 0 0) := by
  obtain ⟨nc, nv, ng, np, nl, nt, nb, hq, -⟩ := h.q
  obtain ⟨h0, h1⟩ := hq 0
  have hb := h0.b
  obtain ⟨w, -, -, w1, w2⟩ := h0.tw h1
  obtain ⟨t, t1, t2⟩ := h0.tc h1
  obtain ⟨r, e1, e2⟩ := p_bott h0 h1 nb 0 2000 0 (by omega) (by omega)
  refine ⟨(nI w - t) - r, ?_, ?_⟩
  · unfold f_X11_bottleDifference
    rw [w1, bn1_s, t1, bn1_s, show f_X2_totalBottled X 1 = _ from e1, bn1_s]
  · unfold f_X12_bottleDifference
    rw [bnd_s]
    exact e2 _ _ w2 t2
set_option maxRecDepth 20000 in
theorem s_cashDifference (h : RR X M) : ∃ r, f_X11_cashDifference X = some r ∧ f_X12_cashDifference M = some (r, mi M 0 0 0) := by
  obtain ⟨nc, nv, ng, np, nl, nt, nb, hq, -⟩ := h.q
  obtain ⟨h0, h1⟩ := hq 0
  have hb := h0.b
  obtain ⟨m1, m2, m3, -, m5, -⟩ := h0.m
  rw [h1] at m1 m2 m3 m5
  unfold f_X11_cashDifference f_X12_cashDifference
  rw [show f_X3_totalPayments X 1 = _ from p_tp h0 nl 0 2000 (by omega) (by omega), bn1_s, bnd_s, m1, m2, m3, ← m5]
  exact ⟨_, rfl, rfl⟩
set_option maxRecDepth 20000 in
/-- an int over an int that isn't 0 is no NaN -/
theorem nn32 (a : Int32) {b : Nat} (h0 : 0 < b) (h : b < 2 ^ 31) : vf_n32 (FP.fdiv (FP.i2f a) (FP.i2f (nI b))) := fl_32 a (nI_ne0 h0 h)
set_option maxRecDepth 20000 in
theorem nn64 (a : Int32) {b : Nat} (h0 : 0 < b) (h : b < 2 ^ 31) : vf_n64 (FP.ddiv (FP.i2d a) (FP.i2d (nI b))) := fl_64 a (nI_ne0 h0 h)
set_option maxRecDepth 20000 in
theorem s_fullness (h : RR X M) : ∃ r, f_X11_fullness X = some r ∧ f_X12_fullness M = some (r, mi M 0 0 0) := by
  obtain ⟨nc, nv, ng, np, nl, nt, nb, hq, -⟩ := h.q
  obtain ⟨h0, h1⟩ := hq 0
  have hb := h0.b
  obtain ⟨t, t1, t2⟩ := h0.tc h1
  obtain ⟨r, hr, e1, e2⟩ := p_cap h0 h1 nt 0 2000 0 (by omega) (by omega) (by omega)
  have hn : 0 < r → vf_n32 (FP.fdiv (FP.i2f t) (FP.i2f (nI r))) := fun q => nn32 t q (by omega)
  refine ⟨if r = 0 then FP.fconst0 else FP.fdiv (FP.i2f t) (FP.i2f (nI r)), ?_, ?_⟩
  · unfold f_X11_fullness
    rw [show f_X2_totalCapacity X 1 = _ from e1, bn1_s, t1, bn1_s]
    by_cases c : r = 0
    · rw [if_pos (by rw [c]; decide), if_pos c]
    · have hn := hn (by omega)
      unfold vf_n32 at hn
      rw [if_neg (nI_nle (by omega) (by omega)), if_neg c, gd_t hn]
  · unfold f_X12_fullness
    rw [bnd_s]
    exact e2 t t2 hn
set_option maxRecDepth 20000 in
theorem s_averageSugar (h : RR X M) : ∃ r, f_X11_averageSugar X = some r ∧ f_X12_averageSugar M = some (r, mi M 0 0 0) := by
  obtain ⟨nc, nv, ng, np, nl, nt, nb, hq, -⟩ := h.q
  obtain ⟨h0, h1⟩ := hq 0
  have hb := h0.b
  obtain ⟨w, hw1, hw2, w1, w2⟩ := h0.tw h1
  obtain ⟨r, e1, e2⟩ := p_ts h0 h1 nl 0 2000 0 (by omega) (by omega)
  refine ⟨if nl = 0 then FP.dconst0 else FP.ddiv (FP.i2d r) (FP.i2d (nI w)), ?_, ?_⟩
  · unfold f_X11_averageSugar
    rw [w1, bn1_s, show f_X3_totalSugar X 1 = _ from e1, bn1_s]
    by_cases c : nl = 0
    · rw [if_pos (by rw [show w = 0 by omega]; decide), if_pos c]
    · have hn := nn64 r (b := w) (by omega) (by omega)
      unfold vf_n64 at hn
      rw [if_neg (nI_nle (by omega) (by omega)), if_neg c, gd_t hn]
  · unfold f_X12_averageSugar
    rw [bnd_s]
    by_cases c : nl = 0
    · subst c
      have c7 : (mi M 0 0 0).1 1 7 = 0 := by have := h0.c.2.2.2.2.1.2; rw [h1] at this; exact this
      rw [f_X12_averageSugar_9, c7, if_pos (by decide), if_pos rfl, if_pos rfl]
    · exact e2 (nI w) w2 (nn64 r (by omega) (by omega))
set_option maxRecDepth 20000 in
theorem s_plotsOf (h : RR X M) (v : Int32) : QR (f_X11_plotsOf X v) (t_X11_plotsOf X v) (f_X12_plotsOf M v) M [(2, 1)] := by
  obtain ⟨nc, nv, ng, np, nl, nt, nb, hq, hb⟩ := h.q
  obtain ⟨h0, h1⟩ := hq 0
  have hbb := hb.b
  rcases rg v (n := ng) (by omega) with ⟨a, ha, rfl⟩ | hv
  · obtain ⟨r, e1, e2⟩ := p_plots h0 h1 (nI a) np 0 2000 0 (by omega) (by omega)
    refine Or.inl ⟨r, ?_, ?_⟩
    · unfold f_X11_plotsOf
      rw [(n_grower_1 hb ha).1, bn1_s, show f_X5_countPlotsOf X 1 (nI a) = _ from e1, bn1_s]
    · unfold f_X12_plotsOf
      rw [m_grower_1 hb h.1 ha, bn1_s, ps1_1, bn2_s, if_neg (by decide)]
      exact e2
  · refine Or.inr ⟨2, 1, 0, List.mem_cons_self, ?_, ?_⟩
    · unfold t_X11_plotsOf
      rw [(n_grower_0 hb hv).2, orE_s]
    · unfold f_X12_plotsOf
      rw [m_grower_0 hb h.1 hv, bn1_s, ps1_0, bn2_s, if_pos rfl]
set_option maxRecDepth 20000 in
theorem s_weightOf (h : RR X M) (v : Int32) : QR (f_X11_weightOf X v) (t_X11_weightOf X v) (f_X12_weightOf M v) M [(2, 1)] := by
  obtain ⟨nc, nv, ng, np, nl, nt, nb, hq, hb⟩ := h.q
  obtain ⟨h0, h1⟩ := hq 0
  have hbb := hb.b
  rcases rg v (n := ng) (by omega) with ⟨a, ha, rfl⟩ | hv
  · obtain ⟨r, hr, e1, e2⟩ := h0.wgrow h1 (nI a)
    refine Or.inl ⟨nI r, ?_, ?_⟩
    · unfold f_X11_weightOf
      rw [(n_grower_1 hb ha).1, bn1_s, e1, bn1_s]
    · unfold f_X12_weightOf
      rw [m_grower_1 hb h.1 ha, bn1_s, ps1_1, bn2_s, if_neg (by decide), e2, bn1_s]
  · refine Or.inr ⟨2, 1, 0, List.mem_cons_self, ?_, ?_⟩
    · unfold t_X11_weightOf
      rw [(n_grower_0 hb hv).2, orE_s]
    · unfold f_X12_weightOf
      rw [m_grower_0 hb h.1 hv, bn1_s, ps1_0, bn2_s, if_pos rfl]
set_option maxRecDepth 20000 in
theorem s_owed (h : RR X M) (v : Int32) : QR (f_X11_owed X v) (t_X11_owed X v) (f_X12_owed M v) M [(2, 1)] := by
  obtain ⟨nc, nv, ng, np, nl, nt, nb, hq, hb⟩ := h.q
  obtain ⟨h0, h1⟩ := hq 0
  have hbb := hb.b
  rcases rg v (n := ng) (by omega) with ⟨a, ha, rfl⟩ | hv
  · obtain ⟨-, e1, e2⟩ := h0.open_ (nI a)
    refine Or.inl ⟨nI (unS X 1 (nI a) nl 0), ?_, ?_⟩
    · unfold f_X11_owed
      rw [(n_grower_1 hb ha).1, bn1_s, e1, bn1_s]
    · unfold f_X12_owed
      rw [m_grower_1 hb h.1 ha, bn1_s, ps1_1, bn2_s, if_neg (by decide), e2, bn1_s]
  · refine Or.inr ⟨2, 1, 0, List.mem_cons_self, ?_, ?_⟩
    · unfold t_X11_owed
      rw [(n_grower_0 hb hv).2, orE_s]
    · unfold f_X12_owed
      rw [m_grower_0 hb h.1 hv, bn1_s, ps1_0, bn2_s, if_pos rfl]
set_option maxRecDepth 20000 in
theorem s_paidTo (h : RR X M) (v : Int32) : QR (f_X11_paidTo X v) (t_X11_paidTo X v) (f_X12_paidTo M v) M [(2, 1)] := by
  obtain ⟨nc, nv, ng, np, nl, nt, nb, hq, hb⟩ := h.q
  obtain ⟨h0, h1⟩ := hq 0
  have hbb := hb.b
  rcases rg v (n := ng) (by omega) with ⟨a, ha, rfl⟩ | hv
  · obtain ⟨r, e1, e2⟩ := p_paid h0 h1 (nI a) nl 0 2000 0 (by omega) (by omega)
    refine Or.inl ⟨r, ?_, ?_⟩
    · unfold f_X11_paidTo
      rw [(n_grower_1 hb ha).1, bn1_s, show f_X3_paymentsTo X 1 (nI a) = _ from e1, bn1_s]
    · unfold f_X12_paidTo
      rw [m_grower_1 hb h.1 ha, bn1_s, ps1_1, bn2_s, if_neg (by decide)]
      exact e2
  · refine Or.inr ⟨2, 1, 0, List.mem_cons_self, ?_, ?_⟩
    · unfold t_X11_paidTo
      rw [(n_grower_0 hb hv).2, orE_s]
    · unfold f_X12_paidTo
      rw [m_grower_0 hb h.1 hv, bn1_s, ps1_0, bn2_s, if_pos rfl]
set_option maxRecDepth 20000 in
theorem s_varietiesOf (h : RR X M) (v : Int32) : QR (f_X11_varietiesOf X v) (t_X11_varietiesOf X v) (f_X12_varietiesOf M v) M [(2, 1)] := by
  obtain ⟨nc, nv, ng, np, nl, nt, nb, hq, hb⟩ := h.q
  obtain ⟨h0, h1⟩ := hq 0
  have hbb := hb.b
  rcases rg v (n := ng) (by omega) with ⟨a, ha, rfl⟩ | hv
  · obtain ⟨r, e1, e2⟩ := h0.vars h1 (nI a)
    refine Or.inl ⟨r, ?_, ?_⟩
    · unfold f_X11_varietiesOf
      rw [(n_grower_1 hb ha).1, bn1_s, e1, bn1_s]
    · unfold f_X12_varietiesOf
      rw [m_grower_1 hb h.1 ha, bn1_s, ps1_1, bn2_s, if_neg (by decide)]
      exact e2
  · refine Or.inr ⟨2, 1, 0, List.mem_cons_self, ?_, ?_⟩
    · unfold t_X11_varietiesOf
      rw [(n_grower_0 hb hv).2, orE_s]
    · unfold f_X12_varietiesOf
      rw [m_grower_0 hb h.1 hv, bn1_s, ps1_0, bn2_s, if_pos rfl]
set_option maxRecDepth 20000 in
theorem s_yieldLimit (h : RR X M) (v : Int32) : QR (f_X11_yieldLimit X v) (t_X11_yieldLimit X v) (f_X12_yieldLimit M v) M [(2, 1)] := by
  obtain ⟨nc, nv, ng, np, nl, nt, nb, hq, hb⟩ := h.q
  obtain ⟨h0, h1⟩ := hq 0
  have hbb := hb.b
  rcases rg v (n := np) (by omega) with ⟨a, ha, rfl⟩ | hv
  · obtain ⟨r, e1, e2⟩ := h0.limit ha
    refine Or.inl ⟨r, ?_, ?_⟩
    · unfold f_X11_yieldLimit
      rw [(n_plot_1 hb ha).1, bn1_s, e1, bn1_s]
    · unfold f_X12_yieldLimit
      rw [m_plot_1 hb h.1 ha, bn1_s, ps1_1, bn2_s, if_neg (by decide), e2, bn1_s]
  · refine Or.inr ⟨2, 1, 0, List.mem_cons_self, ?_, ?_⟩
    · unfold t_X11_yieldLimit
      rw [(n_plot_0 hb hv).2, orE_s]
    · unfold f_X12_yieldLimit
      rw [m_plot_0 hb h.1 hv, bn1_s, ps1_0, bn2_s, if_pos rfl]
set_option maxRecDepth 20000 in
theorem s_harvested (h : RR X M) (v : Int32) : QR (f_X11_harvested X v) (t_X11_harvested X v) (f_X12_harvested M v) M [(2, 1)] := by
  obtain ⟨nc, nv, ng, np, nl, nt, nb, hq, hb⟩ := h.q
  obtain ⟨h0, h1⟩ := hq 0
  have hbb := hb.b
  rcases rg v (n := np) (by omega) with ⟨a, ha, rfl⟩ | hv
  · obtain ⟨r, hr, e1, e2⟩ := h0.harvest (nI a)
    refine Or.inl ⟨nI r, ?_, ?_⟩
    · unfold f_X11_harvested
      rw [(n_plot_1 hb ha).1, bn1_s, e1, bn1_s]
    · unfold f_X12_harvested
      rw [m_plot_1 hb h.1 ha, bn1_s, ps1_1, bn2_s, if_neg (by decide), e2, bn1_s]
  · refine Or.inr ⟨2, 1, 0, List.mem_cons_self, ?_, ?_⟩
    · unfold t_X11_harvested
      rw [(n_plot_0 hb hv).2, orE_s]
    · unfold f_X12_harvested
      rw [m_plot_0 hb h.1 hv, bn1_s, ps1_0, bn2_s, if_pos rfl]
set_option maxRecDepth 20000 in
theorem s_plotOfLoad (h : RR X M) (v : Int32) : QR (f_X11_plotOfLoad X v) (t_X11_plotOfLoad X v) (f_X12_plotOfLoad M v) M [(2, 1)] := by
  obtain ⟨nc, nv, ng, np, nl, nt, nb, hq, hb⟩ := h.q
  obtain ⟨h0, h1⟩ := hq 0
  have hbb := hb.b
  rcases rg v (n := nl) (by omega) with ⟨a, ha, rfl⟩ | hv
  · obtain ⟨p, o, v, w, s, g, t, ⟨hp, ho, hv, hw1, hw2, hs, hg, ht⟩, ⟨x0, x1, x2, x3, x4, x5, x6⟩, ⟨r0, r1, r2, r3, r4, rv, rg⟩, hpaid⟩ := h0.lf ha
    refine Or.inl ⟨nI p, ?_, ?_⟩
    · unfold f_X11_plotOfLoad
      rw [(n_load_1 hb ha).1, bn1_s, gd_t (by omega), x0]
    · unfold f_X12_plotOfLoad f_X12_tellLoad
      rw [m_load_1 hb h.1 ha, bn1_s, ps1_1, bn2_s, if_neg (by decide), r0, bn1_s, bn2_s]
  · refine Or.inr ⟨2, 1, 0, List.mem_cons_self, ?_, ?_⟩
    · unfold t_X11_plotOfLoad
      rw [(n_load_0 hb hv).2, orE_s]
    · unfold f_X12_plotOfLoad f_X12_tellLoad
      rw [m_load_0 hb h.1 hv, bn1_s, ps1_0, bn2_s, if_pos rfl, bn2_s]
set_option maxRecDepth 20000 in
theorem s_classOfLoad (h : RR X M) (v : Int32) : QR (f_X11_classOfLoad X v) (t_X11_classOfLoad X v) (f_X12_classOfLoad M v) M [(2, 1)] := by
  obtain ⟨nc, nv, ng, np, nl, nt, nb, hq, hb⟩ := h.q
  obtain ⟨h0, h1⟩ := hq 0
  have hbb := hb.b
  rcases rg v (n := nl) (by omega) with ⟨a, ha, rfl⟩ | hv
  · obtain ⟨p, o, v, w, s, g, t, ⟨hp, ho, hv, hw1, hw2, hs, hg, ht⟩, ⟨x0, x1, x2, x3, x4, x5, x6⟩, ⟨r0, r1, r2, r3, r4, rv, rg⟩, hpaid⟩ := h0.lf ha
    refine Or.inl ⟨nI g, ?_, ?_⟩
    · unfold f_X11_classOfLoad
      rw [(n_load_1 hb ha).1, bn1_s, gd_t (by omega), x5]
    · unfold f_X12_classOfLoad f_X12_tellLoad
      rw [m_load_1 hb h.1 ha, bn1_s, ps1_1, bn2_s, if_neg (by decide), r3, bn1_s, bn2_s]
  · refine Or.inr ⟨2, 1, 0, List.mem_cons_self, ?_, ?_⟩
    · unfold t_X11_classOfLoad
      rw [(n_load_0 hb hv).2, orE_s]
    · unfold f_X12_classOfLoad f_X12_tellLoad
      rw [m_load_0 hb h.1 hv, bn1_s, ps1_0, bn2_s, if_pos rfl, bn2_s]
set_option maxRecDepth 20000 in
theorem s_tankOfLoad (h : RR X M) (v : Int32) : QR (f_X11_tankOfLoad X v) (t_X11_tankOfLoad X v) (f_X12_tankOfLoad M v) M [(2, 1)] := by
  obtain ⟨nc, nv, ng, np, nl, nt, nb, hq, hb⟩ := h.q
  obtain ⟨h0, h1⟩ := hq 0
  have hbb := hb.b
  rcases rg v (n := nl) (by omega) with ⟨a, ha, rfl⟩ | hv
  · obtain ⟨p, o, v, w, s, g, t, ⟨hp, ho, hv, hw1, hw2, hs, hg, ht⟩, ⟨x0, x1, x2, x3, x4, x5, x6⟩, ⟨r0, r1, r2, r3, r4, rv, rg⟩, hpaid⟩ := h0.lf ha
    refine Or.inl ⟨nI t, ?_, ?_⟩
    · unfold f_X11_tankOfLoad
      rw [(n_load_1 hb ha).1, bn1_s, gd_t (by omega), x6]
    · unfold f_X12_tankOfLoad f_X12_tellLoad
      rw [m_load_1 hb h.1 ha, bn1_s, ps1_1, bn2_s, if_neg (by decide), r4, bn1_s, bn2_s]
  · refine Or.inr ⟨2, 1, 0, List.mem_cons_self, ?_, ?_⟩
    · unfold t_X11_tankOfLoad
      rw [(n_load_0 hb hv).2, orE_s]
    · unfold f_X12_tankOfLoad f_X12_tellLoad
      rw [m_load_0 hb h.1 hv, bn1_s, ps1_0, bn2_s, if_pos rfl, bn2_s]
set_option maxRecDepth 20000 in
theorem s_content (h : RR X M) (v : Int32) : QR (f_X11_content X v) (t_X11_content X v) (f_X12_content M v) M [(2, 1)] := by
  obtain ⟨nc, nv, ng, np, nl, nt, nb, hq, hb⟩ := h.q
  obtain ⟨h0, h1⟩ := hq 0
  have hbb := hb.b
  rcases rg v (n := nt) (by omega) with ⟨a, ha, rfl⟩ | hv
  · obtain ⟨ca, co, sg, u, hco, hca, hsg, ⟨x0, x1, x2, x3⟩, ⟨t0, t1, t2, t3, t4⟩, hvar⟩ := h0.tf ha
    refine Or.inl ⟨nI co, ?_, ?_⟩
    · unfold f_X11_content
      rw [(n_tank_1 hb ha).1, bn1_s, gd_t (by omega), x1]
    · unfold f_X12_content
      rw [m_tank_1 hb h.1 ha, bn1_s, ps1_1, bn2_s, if_neg (by decide), t1, bn1_s]
  · refine Or.inr ⟨2, 1, 0, List.mem_cons_self, ?_, ?_⟩
    · unfold t_X11_content
      rw [(n_tank_0 hb hv).2, orE_s]
    · unfold f_X12_content
      rw [m_tank_0 hb h.1 hv, bn1_s, ps1_0, bn2_s, if_pos rfl]
set_option maxRecDepth 20000 in
theorem s_varietyIn (h : RR X M) (v : Int32) : QR (f_X11_varietyIn X v) (t_X11_varietyIn X v) (f_X12_varietyIn M v) M [(2, 1)] := by
  obtain ⟨nc, nv, ng, np, nl, nt, nb, hq, hb⟩ := h.q
  obtain ⟨h0, h1⟩ := hq 0
  have hbb := hb.b
  rcases rg v (n := nt) (by omega) with ⟨a, ha, rfl⟩ | hv
  · obtain ⟨ca, co, sg, u, hco, hca, hsg, ⟨x0, x1, x2, x3⟩, ⟨t0, t1, t2, t3, t4⟩, hvar⟩ := h0.tf ha
    refine Or.inl ⟨u, ?_, ?_⟩
    · unfold f_X11_varietyIn
      rw [(n_tank_1 hb ha).1, bn1_s, gd_t (by omega), x2]
    · unfold f_X12_varietyIn
      rw [m_tank_1 hb h.1 ha, bn1_s, ps1_1, bn2_s, if_neg (by decide), t2, bn1_s]
  · refine Or.inr ⟨2, 1, 0, List.mem_cons_self, ?_, ?_⟩
    · unfold t_X11_varietyIn
      rw [(n_tank_0 hb hv).2, orE_s]
    · unfold f_X12_varietyIn
      rw [m_tank_0 hb h.1 hv, bn1_s, ps1_0, bn2_s, if_pos rfl]
set_option maxRecDepth 20000 in
theorem s_meanSugar (h : RR X M) (v : Int32) : QR (f_X11_meanSugar X v) (t_X11_meanSugar X v) (f_X12_meanSugar M v) M [(2, 1)] := by
  obtain ⟨nc, nv, ng, np, nl, nt, nb, hq, hb⟩ := h.q
  obtain ⟨h0, h1⟩ := hq 0
  have hbb := hb.b
  rcases rg v (n := nt) (by omega) with ⟨a, ha, rfl⟩ | hv
  · obtain ⟨co, sg, -, -, -, -, e1, e2⟩ := h0.mean ha
    refine Or.inl ⟨nI (sg / co), ?_, ?_⟩
    · unfold f_X11_meanSugar
      rw [(n_tank_1 hb ha).1, bn1_s, gd_t (by omega), e1, bn1_s]
    · unfold f_X12_meanSugar
      rw [m_tank_1 hb h.1 ha, bn1_s, ps1_1, bn2_s, if_neg (by decide), e2, bn1_s]
  · refine Or.inr ⟨2, 1, 0, List.mem_cons_self, ?_, ?_⟩
    · unfold t_X11_meanSugar
      rw [(n_tank_0 hb hv).2, orE_s]
    · unfold f_X12_meanSugar
      rw [m_tank_0 hb h.1 hv, bn1_s, ps1_0, bn2_s, if_pos rfl]
set_option maxRecDepth 20000 in
theorem s_lotVariety (h : RR X M) (v : Int32) : QR (f_X11_lotVariety X v) (t_X11_lotVariety X v) (f_X12_lotVariety M v) M [(2, 1)] := by
  obtain ⟨nc, nv, ng, np, nl, nt, nb, hq, hb⟩ := h.q
  obtain ⟨h0, h1⟩ := hq 0
  have hbb := hb.b
  rcases rg v (n := nb) (by omega) with ⟨a, ha, rfl⟩ | hv
  · obtain ⟨v, s, m, u, hv, hs, hm, hu, ⟨x0, x1, x2, x3⟩, ⟨t0, t1, t2, t3⟩⟩ := h0.of_ ha
    refine Or.inl ⟨nI v, ?_, ?_⟩
    · unfold f_X11_lotVariety
      rw [(n_lot_1 hb ha).1, bn1_s, gd_t (by omega), x0]
    · unfold f_X12_lotVariety f_X12_tellLot
      rw [m_lot_1 hb h.1 ha, bn1_s, ps1_1, bn2_s, if_neg (by decide), t0, bn1_s, bn2_s]
  · refine Or.inr ⟨2, 1, 0, List.mem_cons_self, ?_, ?_⟩
    · unfold t_X11_lotVariety
      rw [(n_lot_0 hb hv).2, orE_s]
    · unfold f_X12_lotVariety f_X12_tellLot
      rw [m_lot_0 hb h.1 hv, bn1_s, ps1_0, bn2_s, if_pos rfl, bn2_s]
set_option maxRecDepth 20000 in
theorem s_lotSugar (h : RR X M) (v : Int32) : QR (f_X11_lotSugar X v) (t_X11_lotSugar X v) (f_X12_lotSugar M v) M [(2, 1)] := by
  obtain ⟨nc, nv, ng, np, nl, nt, nb, hq, hb⟩ := h.q
  obtain ⟨h0, h1⟩ := hq 0
  have hbb := hb.b
  rcases rg v (n := nb) (by omega) with ⟨a, ha, rfl⟩ | hv
  · obtain ⟨v, s, m, u, hv, hs, hm, hu, ⟨x0, x1, x2, x3⟩, ⟨t0, t1, t2, t3⟩⟩ := h0.of_ ha
    refine Or.inl ⟨nI s, ?_, ?_⟩
    · unfold f_X11_lotSugar
      rw [(n_lot_1 hb ha).1, bn1_s, gd_t (by omega), x1]
    · unfold f_X12_lotSugar f_X12_tellLot
      rw [m_lot_1 hb h.1 ha, bn1_s, ps1_1, bn2_s, if_neg (by decide), t1, bn1_s, bn2_s]
  · refine Or.inr ⟨2, 1, 0, List.mem_cons_self, ?_, ?_⟩
    · unfold t_X11_lotSugar
      rw [(n_lot_0 hb hv).2, orE_s]
    · unfold f_X12_lotSugar f_X12_tellLot
      rw [m_lot_0 hb h.1 hv, bn1_s, ps1_0, bn2_s, if_pos rfl, bn2_s]
set_option maxRecDepth 20000 in
theorem s_unsold (h : RR X M) (v : Int32) : QR (f_X11_unsold X v) (t_X11_unsold X v) (f_X12_unsold M v) M [(2, 1)] := by
  obtain ⟨nc, nv, ng, np, nl, nt, nb, hq, hb⟩ := h.q
  obtain ⟨h0, h1⟩ := hq 0
  have hbb := hb.b
  rcases rg v (n := nb) (by omega) with ⟨a, ha, rfl⟩ | hv
  · obtain ⟨v, s, m, u, hv, hs, hm, hu, ⟨x0, x1, x2, x3⟩, ⟨t0, t1, t2, t3⟩⟩ := h0.of_ ha
    refine Or.inl ⟨nI u, ?_, ?_⟩
    · unfold f_X11_unsold
      rw [(n_lot_1 hb ha).1, bn1_s, gd_t (by omega), x3]
    · unfold f_X12_unsold f_X12_tellLot
      rw [m_lot_1 hb h.1 ha, bn1_s, ps1_1, bn2_s, if_neg (by decide), t3, bn1_s, bn2_s]
  · refine Or.inr ⟨2, 1, 0, List.mem_cons_self, ?_, ?_⟩
    · unfold t_X11_unsold
      rw [(n_lot_0 hb hv).2, orE_s]
    · unfold f_X12_unsold f_X12_tellLot
      rw [m_lot_0 hb h.1 hv, bn1_s, ps1_0, bn2_s, if_pos rfl, bn2_s]
set_option maxRecDepth 20000 in
theorem s_greatestLoad (h : RR X M) (v : Int32) : QR (f_X11_greatestLoad X v) (t_X11_greatestLoad X v) (f_X12_greatestLoad M v) M [(2, 1)] := by
  obtain ⟨nc, nv, ng, np, nl, nt, nb, hq, hb⟩ := h.q
  obtain ⟨h0, h1⟩ := hq 0
  have hbb := hb.b
  rcases rg v (n := nv) (by omega) with ⟨a, ha, rfl⟩ | hv
  · obtain ⟨r, e1, e2⟩ := p_great h0 h1 (nI a) nt 0 2000 0 (by omega) (by omega)
    refine Or.inl ⟨r, ?_, ?_⟩
    · unfold f_X11_greatestLoad
      rw [(n_variety_1 hb ha).1, bn1_s, show f_X2_greatestWeightFor X 1 (nI a) = _ from e1, bn1_s]
    · unfold f_X12_greatestLoad
      rw [m_variety_1 hb h.1 ha, bn1_s, ps1_1, bn2_s, if_neg (by decide)]
      exact e2
  · refine Or.inr ⟨2, 1, 0, List.mem_cons_self, ?_, ?_⟩
    · unfold t_X11_greatestLoad
      rw [(n_variety_0 hb hv).2, orE_s]
    · unfold f_X12_greatestLoad
      rw [m_variety_0 hb h.1 hv, bn1_s, ps1_0, bn2_s, if_pos rfl]
set_option maxRecDepth 20000 in
theorem s_bottlesOf (h : RR X M) (v : Int32) : QR (f_X11_bottlesOf X v) (t_X11_bottlesOf X v) (f_X12_bottlesOf M v) M [(2, 1)] := by
  obtain ⟨nc, nv, ng, np, nl, nt, nb, hq, hb⟩ := h.q
  obtain ⟨h0, h1⟩ := hq 0
  have hbb := hb.b
  rcases rg v (n := nv) (by omega) with ⟨a, ha, rfl⟩ | hv
  · obtain ⟨r, e1, e2⟩ := p_stock h0 h1 (v := a) (by omega) nt 0 2000 0 (by omega) (by omega)
    refine Or.inl ⟨r, ?_, ?_⟩
    · unfold f_X11_bottlesOf
      rw [(n_variety_1 hb ha).1, bn1_s, show f_X2_stockOf X 1 (nI a) = _ from e1, bn1_s]
    · unfold f_X12_bottlesOf
      rw [m_variety_1 hb h.1 ha, bn1_s, ps1_1, bn2_s, if_neg (by decide)]
      exact e2
  · refine Or.inr ⟨2, 1, 0, List.mem_cons_self, ?_, ?_⟩
    · unfold t_X11_bottlesOf
      rw [(n_variety_0 hb hv).2, orE_s]
    · unfold f_X12_bottlesOf
      rw [m_variety_0 hb h.1 hv, bn1_s, ps1_0, bn2_s, if_pos rfl]
end QS
