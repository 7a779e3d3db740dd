/-! PURE: the questions of book 1 in closed form: pairs, tanks, growers, lots -/
set_option maxRecDepth 20000 in
theorem gin {k N : Nat} (h : k < N) (hk : k < 2 ^ 31) : ¬ (nI k < 0 ∨ N ≤ k) := fun q => q.elim (nI_pos hk) (by omega)
set_option maxRecDepth 20000 in
theorem snoc_ind {P : List Nat → Prop} (h0 : P []) (h1 : ∀ l a, P l → P (l ++ [a])) : ∀ l, P l := by
  intro l
  rw [← List.reverse_reverse l]
  induction l.reverse with
  | nil => exact h0
  | cons a t ih =>
    rw [List.reverse_cons]
    exact h1 _ _ ih
/-- the code of a load's variety and class -/
def pq (C A : NF) (i : Nat) : Nat := 10 * C 3 (A 1 i) + A 4 i
/-- the codes of the first k loads, in the order of their first loads -/
def oL (C A : NF) : Nat → List Nat | 0 => [] | k + 1 => if pq C A k ∈ oL C A k then oL C A k else oL C A k ++ [pq C A k]
set_option maxRecDepth 20000 in
theorem oL_mem {C A : NF} {c : Nat} : ∀ k, c ∈ oL C A k ↔ ∃ m, m < k ∧ pq C A m = c := by
  intro k
  induction k with
  | zero => simp [oL]
  | succ k ih =>
    rw [oL]
    constructor
    · intro h
      split at h
      · obtain ⟨m, h1, h2⟩ := ih.mp h
        exact ⟨m, by omega, h2⟩
      · rcases List.mem_append.mp h with h | h
        · obtain ⟨m, h1, h2⟩ := ih.mp h
          exact ⟨m, by omega, h2⟩
        · exact ⟨k, by omega, (List.mem_singleton.mp h).symm⟩
    · rintro ⟨m, h1, h2⟩
      by_cases q : m = k
      · subst q
        split
        · rw [← h2]; assumption
        · exact List.mem_append_right _ (by rw [← h2]; exact List.mem_singleton.mpr rfl)
      · have := ih.mpr ⟨m, by omega, h2⟩
        split
        · exact this
        · exact List.mem_append_left _ this
set_option maxRecDepth 20000 in
theorem oL_len {C A : NF} : ∀ k, (oL C A k).length ≤ k := by
  intro k
  induction k with
  | zero => simp [oL]
  | succ k ih =>
    rw [oL]
    split
    · omega
    · simp
      omega
set_option maxRecDepth 20000 in
/-- an earlier piece of the order is a head of a later one -/
theorem oL_pre {C A : NF} : ∀ d k, (oL C A k) <+: (oL C A (k + d)) := by
  intro d
  induction d with
  | zero => exact fun k => List.prefix_refl _
  | succ d ih =>
    intro k
    refine (ih k).trans ?_
    rw [← Nat.add_assoc, oL]
    split
    · exact List.prefix_refl _
    · exact List.prefix_append _ _
/-- the weight of a code among the first k loads -/
def wc (C A : NF) (c k : Nat) : Nat := SR (fun i => if pq C A i = c then A 2 i else 0) 0 k
/-- the heaviest of a list of codes, with its weight -/
def hb (W : Nat → Nat) : List Nat → Int32 × Nat := fun l => l.foldl (fun s c => if s.2 < W c then (nI c, W c) else s) (-1, 0)
set_option maxRecDepth 20000 in
theorem hb_app (W : Nat → Nat) (l : List Nat) (c : Nat) : hb W (l ++ [c]) = if (hb W l).2 < W c then (nI c, W c) else hb W l := by
  unfold hb
  rw [List.foldl_append]
  rfl
section QRY2
variable {X : XT} {C A : NF}
set_option maxRecDepth 20000 in
theorem pq_lt (hC : CO C) (h : IV X C A) {k : Nat} (hk : k < A 0 0) : pq C A k < 30 := by
  obtain ⟨⟨l1, l2, l3, l4, l5, l6⟩, -⟩ := h.l hk
  have := hC.p l1
  have := hC.b
  unfold pq
  omega
set_option maxRecDepth 20000 in
theorem pq_eq (hC : CO C) (h : IV X C A) {k v g : Nat} (hk : k < A 0 0) (hg : g < 10) : pq C A k = 10 * v + g ↔ C 3 (A 1 k) = v ∧ A 4 k = g := by
  obtain ⟨⟨l1, l2, l3, l4, l5, l6⟩, -⟩ := h.l hk
  have := hC.b
  unfold pq
  omega
set_option maxRecDepth 20000 in
theorem q_iop (hC : CO C) (h : IV X C A) {k v g : Nat} (hk : k < A 0 0) (hv : v < 100) (hg : g < 10) : f_X6_isOfPair X 1 k (nI v) (nI g) = some (if pq C A k = 10 * v + g then 1 else 0) := by
  obtain ⟨⟨l1, l2, l3, l4, l5, l6⟩, ⟨x0, x1, x2, x3, x4, x5, x6⟩, -⟩ := h.l hk
  have hq := hC.p l1
  have hCb := hC.b
  unfold f_X6_isOfPair
  rw [x2, x5]
  by_cases c : C 3 (A 1 k) = v
  · rw [if_pos (congrArg nI c)]
    by_cases c2 : A 4 k = g
    · rw [if_pos (congrArg nI c2), if_pos ((pq_eq hC h hk hg).mpr ⟨c, c2⟩)]
    · rw [if_neg (fun q => c2 ((nI_eq (by omega) (by omega)).mp q)), if_neg (fun q => c2 ((pq_eq hC h hk hg).mp q).2)]
  · rw [if_neg (fun q => c ((nI_eq (by omega) (by omega)).mp q)), if_neg (fun q => c ((pq_eq hC h hk hg).mp q).1)]
set_option maxRecDepth 20000 in
theorem q_wc (hC : CO C) (h : IV X C A) {v g : Nat} (hv : v < 100) (hg : g < 10) : f_X3_weightOfPair X 1 (nI v) (nI g) = some (nI (wc C A (10 * v + g) (A 0 0))) := by
  rw [q_wop hC h hv (by omega)]
  refine congrArg some (congrArg nI (SR_congr _ _ fun i _ hi => ?_))
  by_cases c : pq C A i = 10 * v + g
  · have := (pq_eq hC h (by omega) hg).mp c
    rw [if_pos c, if_pos this.1, if_pos this.2]
  · rw [if_neg c]
    by_cases c1 : C 3 (A 1 i) = v
    · rw [if_pos c1]
      by_cases c2 : A 4 i = g
      · exact absurd ((pq_eq hC h (by omega) hg).mpr ⟨c1, c2⟩) c
      · rw [if_neg c2]
    · rw [if_neg c1]
set_option maxRecDepth 20000 in
theorem wc_le (h : IV X C A) (c : Nat) : wc C A c (A 0 0) ≤ 14000 := by
  have hb := h.b
  have := SR_le (f := fun i => if pq C A i = c then A 2 i else 0) (B := 700) (A 0 0) 0 (fun i _ hi => by
    obtain ⟨⟨l1, l2, l3, l4, l5, l6⟩, -⟩ := h.l (k := i) (by omega)
    split <;> omega)
  unfold wc
  omega
set_option maxRecDepth 20000 in
theorem p_new (hC : CO C) (h : IV X C A) {i : Nat} (hi : i < A 0 0) : ∀ d k f, k + d = i → d < f → (∀ m, m < k → pq C A m ≠ pq C A i) → f_X3_isNewPair_2 X 1 1 i (nI i) f (nI k) = some (if pq C A i ∈ oL C A i then 0 else 1) := by
  have hbb := h.b
  obtain ⟨⟨l1, l2, l3, l4, l5, l6⟩, ⟨x0, x1, x2, x3, x4, x5, x6⟩, -⟩ := h.l hi
  have hq := hC.p l1
  have hCb := hC.b
  intro d
  induction d with
  | zero =>
    intro k f hk hf hm
    obtain ⟨f, rfl⟩ := fuel hf
    rw [f_X3_isNewPair_2, if_pos (nI_le (by omega) (by omega)), if_neg (fun q => by
      obtain ⟨m, h1, h2⟩ := (oL_mem _).mp q
      exact hm m (by omega) h2)]
  | succ d ih =>
    intro k f hk hf hm
    obtain ⟨f, rfl⟩ := fuel hf
    rw [f_X3_isNewPair_2, if_neg (nI_ge (by omega) (by omega)), h.c.2.2.2.2.1, if_neg (nI_ge (by omega) (by omega)), gd_t (nI_in (by omega) (by decide)), nI_clamp (by omega), x2, x5, q_iop hC h (by omega) (by omega) (by omega), bn1_s]
    by_cases c : pq C A k = pq C A i
    · rw [if_pos (show pq C A k = 10 * C 3 (A 1 i) + A 4 i from c), if_neg (by decide), if_pos ((oL_mem _).mpr ⟨k, by omega, c⟩)]
    · rw [if_neg (show ¬ pq C A k = 10 * C 3 (A 1 i) + A 4 i from c), if_pos rfl, nI_1]
      exact ih (k + 1) f (by omega) (by omega) (fun m hm' => by
        by_cases q : m = k
        · rw [q]; exact c
        · exact hm m (by omega))
set_option maxRecDepth 20000 in
theorem q_new (hC : CO C) (h : IV X C A) {i : Nat} (hi : i < A 0 0) : f_X3_isNewPair X 1 1 i (nI i) = some (if pq C A i ∈ oL C A i then 0 else 1) := by
  have hbb := h.b
  exact p_new hC h hi i 0 2000 (by omega) (by omega) (fun m hm => absurd hm (Nat.not_lt_zero _))
set_option maxRecDepth 20000 in
theorem p_cpa (hC : CO C) (h : IV X C A) : ∀ d k f, k + d = A 0 0 → d < f → f_X3_countPairs_4 X 1 f (nI (oL C A k).length) (nI k) = some (nI (oL C A (A 0 0)).length) := by
  have hbb := h.b
  intro d
  induction d with
  | zero =>
    intro k f hk hf
    obtain ⟨f, rfl⟩ := fuel hf
    have : k = A 0 0 := hk
    subst this
    rw [f_X3_countPairs_4, h.c.2.2.2.2.1, if_pos (nI_le (by omega) (by omega))]
  | succ d ih =>
    intro k f hk hf
    obtain ⟨f, rfl⟩ := fuel hf
    have := ih (k + 1) f (by omega) (by omega)
    rw [f_X3_countPairs_4, h.c.2.2.2.2.1, if_neg (nI_ge (by omega) (by omega)), gd_t (nI_in (by omega) (by decide)), nI_clamp (by omega), q_new hC h (by omega), bn1_s]
    rw [oL] at this
    by_cases c : pq C A k ∈ oL C A k
    · rw [if_pos c] at this ⊢
      rw [if_pos rfl, nI_1]
      exact this
    · rw [if_neg c] at this ⊢
      rw [if_neg (by decide), nI_1, nI_1]
      rw [List.length_append] at this
      exact this
set_option maxRecDepth 20000 in
theorem q_cpa (hC : CO C) (h : IV X C A) : f_X3_countPairs X 1 = some (nI (oL C A (A 0 0)).length) := by
  have hbb := h.b
  exact p_cpa hC h (A 0 0) 0 2000 (by omega) (by omega)
set_option maxRecDepth 20000 in
theorem p_par (hC : CO C) (h : IV X C A) {r : Nat} (hr : r < (oL C A (A 0 0)).length) : ∀ d k f, k + d = A 0 0 → d < f → (oL C A k).length ≤ r → f_X3_pairAtRank_4 X 1 (nI r) f (nI (oL C A k).length) (nI k) = some (nI ((oL C A (A 0 0)).getD r 0)) := by
  have hbb := h.b
  have hpl := oL_len (C := C) (A := A) (A 0 0)
  intro d
  induction d with
  | zero =>
    intro k f hk hf hl
    have : k = A 0 0 := hk
    subst this
    omega
  | succ d ih =>
    intro k f hk hf hl
    obtain ⟨f, rfl⟩ := fuel hf
    have ih := ih (k + 1) f (by omega) (by omega)
    obtain ⟨-, ⟨x0, x1, x2, x3, x4, x5, x6⟩, -⟩ := h.l (k := k) (by omega)
    rw [f_X3_pairAtRank_4, h.c.2.2.2.2.1, if_neg (nI_ge (by omega) (by omega)), gd_t (nI_in (by omega) (by decide)), nI_clamp (by omega), q_new hC h (by omega), bn1_s]
    rw [oL] at ih
    by_cases c : pq C A k ∈ oL C A k
    · rw [if_pos c] at ih ⊢
      rw [if_pos rfl, nI_1]
      exact ih hl
    · rw [if_neg c] at ih ⊢
      rw [if_neg (by decide)]
      by_cases c2 : (oL C A k).length = r
      · rw [if_pos (congrArg nI c2), gd_t (gin (by omega) (by omega))]
        unfold f_X6_pairCode
        rw [bn1_s, x2, x5, show (10 : Int32) = nI 10 from rfl, pk_mul, nI_add]
        have hp := oL_pre (C := C) (A := A) d (k + 1)
        rw [show k + 1 + d = A 0 0 by omega, oL, if_neg c] at hp
        obtain ⟨t, ht⟩ := hp
        rw [← ht, ← c2, List.getD_eq_getElem?_getD, List.append_assoc, List.getElem?_append_right (Nat.le_refl _), Nat.sub_self]
        rfl
      · rw [if_neg (fun q => c2 ((nI_eq (by omega) (by omega)).mp q)), nI_1, nI_1]
        rw [List.length_append] at ih
        exact ih (by simp only [List.length_singleton]; omega)
set_option maxRecDepth 20000 in
theorem q_par (hC : CO C) (h : IV X C A) {r : Nat} (hr : r < (oL C A (A 0 0)).length) : f_X3_pairAtRank X 1 (nI r) = some (nI ((oL C A (A 0 0)).getD r 0)) := by
  have hbb := h.b
  exact p_par hC h hr (A 0 0) 0 2000 (by omega) (by omega) (Nat.zero_le _)
set_option maxRecDepth 20000 in
theorem hb_mem (W : Nat → Nat) : ∀ l : List Nat, ∀ c ∈ l, W c ≤ (hb W l).2 := by
  refine snoc_ind (by simp) fun l a ih => ?_
  · intro c hc
    rw [hb_app]
    rcases List.mem_append.mp hc with hc | hc
    · have := ih c hc
      split
      · show W c ≤ W a
        omega
      · exact this
    · have : c = a := List.mem_singleton.mp hc
      subst this
      split
      · exact Nat.le_refl _
      · omega
set_option maxRecDepth 20000 in
theorem hb_or (W : Nat → Nat) : ∀ l : List Nat, (hb W l = (-1, 0)) ∨ ∃ c ∈ l, hb W l = (nI c, W c) := by
  refine snoc_ind (Or.inl rfl) fun l a ih => ?_
  · rw [hb_app]
    split
    · exact Or.inr ⟨a, by simp, rfl⟩
    · rcases ih with ih | ⟨c, h1, h2⟩
      · exact Or.inl ih
      · exact Or.inr ⟨c, List.mem_append_left _ h1, h2⟩
set_option maxRecDepth 20000 in
theorem p_hpa (hC : CO C) (h : IV X C A) : ∀ d k f, k + d = A 0 0 → d < f → f_X3_heaviestPair_6 X 1 f (hb (fun c => wc C A c (A 0 0)) (oL C A k)).1 (nI (hb (fun c => wc C A c (A 0 0)) (oL C A k)).2) (nI k) = some (hb (fun c => wc C A c (A 0 0)) (oL C A (A 0 0))).1 := by
  have hbb := h.b
  have hle : ∀ l, (hb (fun c => wc C A c (A 0 0)) l).2 ≤ 14000 := fun l => by
    rcases hb_or (fun c => wc C A c (A 0 0)) l with q | ⟨c, -, q⟩ <;> rw [q]
    · exact Nat.zero_le _
    · exact wc_le h c
  intro d
  induction d with
  | zero =>
    intro k f hk hf
    obtain ⟨f, rfl⟩ := fuel hf
    have : k = A 0 0 := hk
    subst this
    rw [f_X3_heaviestPair_6, h.c.2.2.2.2.1, if_pos (nI_le (by omega) (by omega))]
  | succ d ih =>
    intro k f hk hf
    obtain ⟨f, rfl⟩ := fuel hf
    have ih := ih (k + 1) f (by omega) (by omega)
    obtain ⟨⟨l1, l2, l3, l4, l5, l6⟩, ⟨x0, x1, x2, x3, x4, x5, x6⟩, -⟩ := h.l (k := k) (by omega)
    have hq := hC.p l1
    have hCb := hC.b
    have hw := wc_le h (pq C A k)
    have hl := hle (oL C A k)
    have hg : ¬ (nI k < 0 ∨ 20 ≤ (nI k).toNatClampNeg) := nI_in (by omega) (by decide)
    rw [f_X3_heaviestPair_6, h.c.2.2.2.2.1, if_neg (nI_ge (by omega) (by omega)), gd_t hg, gd_t hg, nI_clamp (by omega), x2, x5, q_wc hC h (by omega) (by omega), bn1_s]
    rw [show 10 * C 3 (A 1 k) + A 4 k = pq C A k from rfl]
    rw [oL] at ih
    by_cases c : pq C A k ∈ oL C A k
    · rw [if_pos c] at ih
      rw [if_pos (nI_le (hb_mem (fun c => wc C A c (A 0 0)) _ _ c) (by omega)), nI_1]
      exact ih
    · rw [if_neg c, hb_app] at ih
      by_cases c2 : (hb (fun c => wc C A c (A 0 0)) (oL C A k)).2 < wc C A (pq C A k) (A 0 0)
      · rw [if_pos c2] at ih
        rw [if_neg (nI_ge c2 (by omega)), gd_t (gin (by omega) (by omega))]
        unfold f_X6_pairCode
        rw [bn1_s, x2, x5, show (10 : Int32) = nI 10 from rfl, pk_mul, nI_add, nI_1]
        exact ih
      · rw [if_neg c2] at ih
        rw [if_pos (nI_le (by omega) (by omega)), nI_1]
        exact ih
set_option maxRecDepth 20000 in
theorem q_hpa (hC : CO C) (h : IV X C A) : f_X3_heaviestPair X 1 = some (hb (fun c => wc C A c (A 0 0)) (oL C A (A 0 0))).1 := by
  have hbb := h.b
  exact p_hpa hC h (A 0 0) 0 2000 (by omega) (by omega)
end QRY2
