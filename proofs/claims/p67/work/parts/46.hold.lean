/-! PURE: the law's holds -/
def kF (A : NF) (k : Nat) : Nat → Int32 := fun p => nI (kil A p k)
def oF (C A : NF) (k : Nat) : Nat → Int32 := fun g => nI (SR (ow C A g) 0 k)
def pF (C A : NF) (k : Nat) : Nat → Int32 := fun g => nI (SR (fun i => if C 2 (A 1 i) = g then A 7 i else 0) 0 k)
def wF (C A : NF) (k : Nat) : Nat → Int32 := fun g => nI (wg C A g k)
def kd (C A : NF) (g k : Nat) : Nat := (if hv C A 0 g k = true then 1 else 0) + (if hv C A 1 g k = true then 2 else 0) + (if hv C A 2 g k = true then 4 else 0)
def dF (C A : NF) (k : Nat) : Nat → Int32 := fun g => nI (kd C A g k)
def cF (C A : NF) (k : Nat) : Nat → Int32 := fun c => nI (wc C A c k)
def rF (C A : NF) (k : Nat) : Nat → Int32 := fun j => nI ((oL C A k).getD j 0)
set_option maxRecDepth 20000 in
theorem kF_1 (A : NF) (k : Nat) : upd (kF A k) (A 1 k) (kF A k (A 1 k) + nI (A 2 k)) = kF A (k + 1) := by
  funext j
  unfold kF kil
  rw [SR_succ]
  by_cases c : j = A 1 k
  · subst c
    rw [pk_us, if_pos rfl, nI_add]
  · rw [pk_un c, if_neg (fun q => c q.symm)]
    rfl
set_option maxRecDepth 20000 in
theorem wF_1 (C A : NF) (k : Nat) : upd (wF C A k) (C 2 (A 1 k)) (wF C A k (C 2 (A 1 k)) + nI (A 2 k)) = wF C A (k + 1) := by
  funext j
  unfold wF wg
  rw [SR_succ]
  by_cases c : j = C 2 (A 1 k)
  · subst c
    rw [pk_us, if_pos rfl, nI_add]
  · rw [pk_un c, if_neg (fun q => c q.symm)]
    rfl
set_option maxRecDepth 20000 in
theorem oF_1 {C A : NF} {k : Nat} (h : A 6 k = 0) : upd (oF C A k) (C 2 (A 1 k)) (oF C A k (C 2 (A 1 k)) + nI (va C A k)) = oF C A (k + 1) := by
  funext j
  unfold oF
  rw [SR_succ]
  by_cases c : j = C 2 (A 1 k)
  · subst c
    rw [pk_us, show ow C A (C 2 (A 1 k)) k = va C A k from if_pos ⟨rfl, h⟩, nI_add]
  · rw [pk_un c, show ow C A j k = 0 from if_neg (fun q => c q.1.symm)]
    rfl
set_option maxRecDepth 20000 in
theorem oF_0 {C A : NF} {k : Nat} (h : ¬ A 6 k = 0) : oF C A k = oF C A (k + 1) := by
  funext j
  unfold oF
  rw [SR_succ, show ow C A j k = 0 from if_neg (fun q => h q.2)]
  rfl
set_option maxRecDepth 20000 in
theorem pF_1 {C A : NF} {k : Nat} (h : ¬ A 6 k = 0) : upd (pF C A k) (C 2 (A 1 k)) (pF C A k (C 2 (A 1 k)) + nI (va C A k)) = pF C A (k + 1) := by
  funext j
  unfold pF
  rw [SR_succ, show va C A k = A 7 k from if_neg h]
  by_cases c : j = C 2 (A 1 k)
  · subst c
    rw [pk_us, if_pos rfl, nI_add]
  · rw [pk_un c, if_neg (fun q => c q.symm)]
    rfl
set_option maxRecDepth 20000 in
theorem pF_0 {C A : NF} {k : Nat} (h : A 7 k = 0) : pF C A k = pF C A (k + 1) := by
  funext j
  unfold pF
  rw [SR_succ, h]
  split <;> rfl
set_option maxRecDepth 20000 in
theorem cF_1 (C A : NF) (k : Nat) : upd (cF C A k) (pq C A k) (cF C A k (pq C A k) + nI (A 2 k)) = cF C A (k + 1) := by
  funext j
  unfold cF wc
  rw [SR_succ]
  by_cases c : j = pq C A k
  · subst c
    rw [pk_us, if_pos rfl, nI_add]
  · rw [pk_un c, if_neg (fun q => c q.symm)]
    rfl
set_option maxRecDepth 20000 in
theorem rF_1 {C A : NF} {k : Nat} (h : ¬ pq C A k ∈ oL C A k) : upd (rF C A k) (oL C A k).length (nI (pq C A k)) = rF C A (k + 1) := by
  funext j
  unfold rF
  rw [oL, if_neg h]
  by_cases c : j = (oL C A k).length
  · subst c
    rw [pk_us, List.getD_eq_getElem?_getD, List.getElem?_append_right (Nat.le_refl _), Nat.sub_self]
    rfl
  · rw [pk_un c, List.getD_eq_getElem?_getD, List.getD_eq_getElem?_getD]
    by_cases c2 : j < (oL C A k).length
    · rw [List.getElem?_append_left c2]
    · rw [List.getElem?_eq_none (by omega), List.getElem?_eq_none (by rw [List.length_append]; simp only [List.length_singleton]; omega)]
set_option maxRecDepth 20000 in
theorem dF_1 {C A : NF} {k : Nat} (h : C 3 (A 1 k) < 3) : upd (dF C A k) (C 2 (A 1 k)) (dF C A k (C 2 (A 1 k)) ||| (1 <<< (nI (C 3 (A 1 k)) &&& 31))) = dF C A (k + 1) := by
  funext j
  unfold dF kd
  rw [hv, hv, hv]
  by_cases c : j = C 2 (A 1 k)
  · subst c
    have e2 : ∀ v, decide (C 3 (A 1 k) = v ∧ C 2 (A 1 k) = C 2 (A 1 k)) = decide (C 3 (A 1 k) = v) := fun v => decide_eq_decide.mpr ⟨fun q => q.1, fun q => ⟨q, rfl⟩⟩
    rw [pk_us, e2, e2, e2]
    generalize hv C A 0 (C 2 (A 1 k)) k = b0
    generalize hv C A 1 (C 2 (A 1 k)) k = b1
    generalize hv C A 2 (C 2 (A 1 k)) k = b2
    have : C 3 (A 1 k) = 0 ∨ C 3 (A 1 k) = 1 ∨ C 3 (A 1 k) = 2 := by omega
    rcases this with e | e | e <;> rw [e] <;> cases b0 <;> cases b1 <;> cases b2 <;> decide
  · rw [pk_un c]
    have e : ∀ v, decide (C 3 (A 1 k) = v ∧ C 2 (A 1 k) = j) = false := fun v => decide_eq_false (fun q => c q.2.symm)
    rw [e, e, e, Bool.or_false, Bool.or_false, Bool.or_false]
set_option maxRecDepth 20000 in
theorem wc_pos {X : XT} {C A : NF} (h : IV X C A) {k : Nat} (hk : k ≤ A 0 0) (c : Nat) : (c ∈ oL C A k → 1 ≤ wc C A c k) ∧ (¬ c ∈ oL C A k → wc C A c k = 0) := by
  constructor
  · intro q
    obtain ⟨m, h1, h2⟩ := (oL_mem _).mp q
    have := SR_one (f := fun i => if pq C A i = c then A 2 i else 0) h1
    obtain ⟨⟨l1, l2, -⟩, -⟩ := h.l (k := m) (by omega)
    rw [if_pos h2] at this
    unfold wc
    omega
  · intro q
    have := SR_congr (f := fun i => if pq C A i = c then A 2 i else 0) (g := fun _ => 0) k 0 (fun i _ hi => if_neg fun e => q ((oL_mem _).mpr ⟨i, by omega, e⟩))
    have h2 := SR_le (f := fun _ => 0) (B := 0) k 0 (fun _ _ _ => Nat.le_refl _)
    unfold wc
    omega
set_option maxRecDepth 20000 in
theorem bits (b0 b1 b2 : Bool) : f_J6_bitCount_0f7a4 (nI ((if b0 = true then 1 else 0) + (if b1 = true then 2 else 0) + (if b2 = true then 4 else 0))) = some (nI ((if b0 = true then 1 else 0) + (if b1 = true then 1 else 0) + (if b2 = true then 1 else 0))) := by
  cases b0 <;> cases b1 <;> cases b2 <;> decide +kernel
section HOLD
variable {sc : Nat × (Nat → Int32)} {X : XT} {A : NF} {W S : Nat → Int32}
set_option maxRecDepth 20000 in
theorem hv_no (h : IV X (cfg sc) A) {v p : Nat} (hv0 : cfg sc 0 1 ≤ v) : ∀ k, k ≤ A 0 0 → hv (cfg sc) A v p k = false := by
  intro k
  induction k with
  | zero => exact fun _ => rfl
  | succ k ih =>
    intro hk
    obtain ⟨⟨l1, -⟩, -⟩ := h.l (k := k) (by omega)
    have := ((cfg_ok sc).p l1).2.1
    rw [hv, ih (by omega), Bool.false_or]
    exact decide_eq_false (fun q => by omega)
set_option maxRecDepth 20000 in
theorem kd_cnt (h : IV X (cfg sc) A) {p : Nat} : f_J6_bitCount_0f7a4 (nI (kd (cfg sc) A p (A 0 0))) = some (nI (SR (fun v => if hv (cfg sc) A v p (A 0 0) = true then 1 else 0) 0 (cfg sc 0 1))) := by
  have hCb := (cfg_ok sc).b
  unfold kd
  rw [bits]
  have hn := fun v => hv_no (v := v) (p := p) h
  have : cfg sc 0 1 = 0 ∨ cfg sc 0 1 = 1 ∨ cfg sc 0 1 = 2 ∨ cfg sc 0 1 = 3 := by omega
  rcases this with e | e | e | e <;> rw [e] <;> rw [e] at hn
  · rw [hn 0 (by omega) _ (Nat.le_refl _), hn 1 (by omega) _ (Nat.le_refl _), hn 2 (by omega) _ (Nat.le_refl _)]
    rfl
  · rw [hn 1 (by omega) _ (Nat.le_refl _), hn 2 (by omega) _ (Nat.le_refl _)]
    rfl
  · rw [hn 2 (by omega) _ (Nat.le_refl _)]
    simp only [SR, Nat.add_zero, Nat.zero_add, Bool.false_eq_true, if_false]
  · simp only [SR, Nat.add_zero, Nat.zero_add, Nat.add_assoc]
set_option maxRecDepth 20000 in
theorem h_771 (hL : sc.1 ≤ 260) (h : IV X (cfg sc) A) (f7 f8 f9 f10 f11 f12 : Nat → Int32) : ∀ d p f, p + d = cfg sc 0 3 → d < f → f_L_holds_771 X sc W S (hgr (fun p => wg (cfg sc) A p (A 0 0)) (cfg sc 0 2)).1 (nI (SR (fun p => SR (ow (cfg sc) A p) 0 (A 0 0)) 0 (cfg sc 0 2))) (nI (py (fun p => SR (ow (cfg sc) A p) 0 (A 0 0)) (A 0 2) (cfg sc 0 2)).2.1) f (kF A (A 0 0)) f7 f8 f9 f10 f11 f12 (nI p) = some 1 := by
  have hC := cfg_ok sc
  have hCb := hC.b
  intro d
  induction d with
  | zero =>
    intro p f hk hf
    obtain ⟨f, rfl⟩ := fuel hf
    unfold f_L_holds_771 f_X11_plotCount f_X11_greatestGrower f_X11_owedToAll f_X11_missingCash f_X11_cash f_X11_payableGrowers
    rw [h.c.2.2.2.1, bn1_s, if_pos (nI_le (by omega) (by omega)), q_hgr hC h, bn1_s, bn1_s, if_pos rfl, q_oall hC h, bn1_s, bn1_s, if_pos rfl, bn1_s, bn1_s, bn1_s, if_pos rfl, q_pay hC h, bn1_s, bn1_s, if_pos rfl, L_cellar hL h, bn1_s]
    rfl
  | succ d ih =>
    intro p f hk hf
    obtain ⟨f, rfl⟩ := fuel hf
    have ih := ih (p + 1) f (by omega) (by omega)
    have hp : p < cfg sc 0 3 := by omega
    have hg : ¬ (nI p < 0 ∨ 9 ≤ (nI p).toNatClampNeg) := nI_in (by omega) (by decide)
    have hcl : (nI p).toNatClampNeg = p := nI_clamp (by omega)
    unfold f_L_holds_771 f_X11_plotCount
    rw [h.c.2.2.2.1, bn1_s, if_neg (nI_ge hp (by omega)), a_har hC h hp, bn1_s, gd_t hg, hcl, bnd_s, if_pos (show nI (kil A p (A 0 0)) = kF A (A 0 0) p from rfl), a_lef hC h hp, bn1_s, a_lim hC h hp, bn1_s, gd_t (gin (by omega) (by omega)), bnd_s]
    rw [show kF A (A 0 0) p = nI (kil A p (A 0 0)) from rfl, gwl2 (hC.p hp).2.2 (kil_le h p), if_pos rfl, nI_1]
    exact ih
set_option maxRecDepth 20000 in
theorem h_570 (hL : sc.1 ≤ 260) (h : IV X (cfg sc) A) (f6 f7 f8 f9 f10 f11 f12 : Nat → Int32) (v5 v17 v18 v19 v20 v21 : Int32) {g : Nat} (hg : g < 100) : ∀ d p f a, p + d = cfg sc 0 3 → d < f → f_L_holds_570 X sc W S f6 f7 f8 f9 f10 f11 f12 v5 v17 v18 v19 v20 v21 (nI g) f (nI a) (nI p) = some (nI (a + SR (fun i => if cfg sc 2 i = g then 1 else 0) p d)) := by
  have hC := cfg_ok sc
  have hCb := hC.b
  intro d
  induction d with
  | zero =>
    intro p f a hk hf
    obtain ⟨f, rfl⟩ := fuel hf
    unfold f_L_holds_570 f_X11_plotCount
    rw [h.c.2.2.2.1, bn1_s, if_pos (nI_le (by omega) (by omega))]
    rfl
  | succ d ih =>
    intro p f a hk hf
    obtain ⟨f, rfl⟩ := fuel hf
    have ih := fun a => ih (p + 1) f a (by omega) (by omega)
    have hp : p < cfg sc 0 3 := by omega
    have := hC.p hp
    unfold f_L_holds_570 f_X11_plotCount
    rw [h.c.2.2.2.1, bn1_s, if_neg (nI_ge hp (by omega)), L_owner hL hp, bn1_s, bnd_s, bnd_s, nI_1, nI_1, Int32.add_zero, SR]
    by_cases c : cfg sc 2 p = g
    · rw [if_pos (congrArg nI c), if_pos c, ih, Nat.add_assoc]
    · rw [if_neg (fun q => c ((nI_eq (by omega) (by omega)).mp q)), if_neg c, ih, Nat.zero_add]
set_option maxRecDepth 20000 in
theorem m1_le {n : Nat} (h : n < 2 ^ 31) : ¬ nI n ≤ (-1 : Int32) := fun e => absurd (Int32.lt_of_le_of_lt e (by decide : ((-1 : Int32)) < 0)) (nI_pos h)
set_option maxRecDepth 20000 in
theorem hgr_or {W : Nat → Nat} (hW : ∀ g, W g < 2 ^ 31) : ∀ k, (k = 0 ∧ hgr W k = (-1, -1)) ∨ ∃ g, g < k ∧ hgr W k = (nI g, nI (W g)) := by
  intro k
  induction k with
  | zero => exact Or.inl ⟨rfl, rfl⟩
  | succ k ih =>
    refine Or.inr ?_
    rw [hgr]
    by_cases c : nI (W k) ≤ (hgr W k).2
    · rw [if_pos c]
      rcases ih with ⟨e, q⟩ | ⟨g, q1, q2⟩
      · rw [q] at c
        exact absurd c (m1_le (hW k))
      · exact ⟨g, by omega, q2⟩
    · rw [if_neg c]
      exact ⟨k, by omega, rfl⟩
set_option maxRecDepth 20000 in
theorem wg_le (h : IV X (cfg sc) A) (p : Nat) : wg (cfg sc) A p (A 0 0) ≤ 14000 := by
  have hb := h.b
  have := SR_le (f := fun i => if cfg sc 2 (A 1 i) = p then A 2 i else 0) (B := 700) (A 0 0) 0 (fun i _ hi => by
    obtain ⟨⟨l1, l2, l3, l4, l5, l6⟩, -⟩ := h.l (k := i) (by omega)
    split <;> omega)
  unfold wg
  omega
/-- 1 as soon as it has stopped -/
def stp (b : Bool) : Int32 := if b = true then 1 else 0
set_option maxRecDepth 20000 in
theorem h_557 (hL : sc.1 ≤ 260) (h : IV X (cfg sc) A) (f11 f12 : Nat → Int32) : ∀ d k f, k + d = cfg sc 0 2 → d < f → f_L_holds_557 X sc W S (nI (cfg sc 0 2)) f (kF A (A 0 0)) (oF (cfg sc) A (A 0 0)) (pF (cfg sc) A (A 0 0)) (wF (cfg sc) A (A 0 0)) (dF (cfg sc) A (A 0 0)) f11 f12 (hgr (fun p => wg (cfg sc) A p (A 0 0)) k).1 (nI (SR (fun p => SR (ow (cfg sc) A p) 0 (A 0 0)) 0 k)) (nI (py (fun p => SR (ow (cfg sc) A p) 0 (A 0 0)) (A 0 2) k).1) (nI (py (fun p => SR (ow (cfg sc) A p) 0 (A 0 0)) (A 0 2) k).2.1) (stp (py (fun p => SR (ow (cfg sc) A p) 0 (A 0 0)) (A 0 2) k).2.2) (nI k) = some 1 := by
  have hC := cfg_ok sc
  have hCb := hC.b
  have hb := h.b
  intro d
  induction d with
  | zero =>
    intro k f hk hf
    obtain ⟨f, rfl⟩ := fuel hf
    have : k = cfg sc 0 2 := hk
    subst this
    unfold f_L_holds_557
    rw [if_pos (nI_le (by omega) (by omega))]
    exact h_771 hL h _ _ _ _ _ _ (cfg sc 0 3) 0 2000 (by omega) (by omega)
  | succ d ih =>
    intro k f hk hf
    obtain ⟨f, rfl⟩ := fuel hf
    have ih := ih (k + 1) f (by omega) (by omega)
    have hkn : k < cfg sc 0 2 := by omega
    have hg : ¬ (nI k < 0 ∨ 5 ≤ (nI k).toNatClampNeg) := nI_in (by omega) (by decide)
    have hcl : (nI k).toNatClampNeg = k := nI_clamp (by omega)
    have e570 : f_L_holds_570 X sc W S (kF A (A 0 0)) (oF (cfg sc) A (A 0 0)) (pF (cfg sc) A (A 0 0)) (wF (cfg sc) A (A 0 0)) (dF (cfg sc) A (A 0 0)) f11 f12 (nI (cfg sc 0 2)) (hgr (fun p => wg (cfg sc) A p (A 0 0)) k).1 (nI (SR (fun p => SR (ow (cfg sc) A p) 0 (A 0 0)) 0 k)) (nI (py (fun p => SR (ow (cfg sc) A p) 0 (A 0 0)) (A 0 2) k).1) (nI (py (fun p => SR (ow (cfg sc) A p) 0 (A 0 0)) (A 0 2) k).2.1) (stp (py (fun p => SR (ow (cfg sc) A p) 0 (A 0 0)) (A 0 2) k).2.2) (nI k) 2000 0 0 = some (nI (SR (fun i => if cfg sc 2 i = k then 1 else 0) 0 (cfg sc 0 3))) := by
      have := h_570 (W := W) (S := S) hL h (kF A (A 0 0)) (oF (cfg sc) A (A 0 0)) (pF (cfg sc) A (A 0 0)) (wF (cfg sc) A (A 0 0)) (dF (cfg sc) A (A 0 0)) f11 f12 (nI (cfg sc 0 2)) (hgr (fun p => wg (cfg sc) A p (A 0 0)) k).1 (nI (SR (fun p => SR (ow (cfg sc) A p) 0 (A 0 0)) 0 k)) (nI (py (fun p => SR (ow (cfg sc) A p) 0 (A 0 0)) (A 0 2) k).1) (nI (py (fun p => SR (ow (cfg sc) A p) 0 (A 0 0)) (A 0 2) k).2.1) (stp (py (fun p => SR (ow (cfg sc) A p) 0 (A 0 0)) (A 0 2) k).2.2) (g := k) (by omega) (cfg sc 0 3) 0 2000 0 (by omega) (by omega)
      rw [Nat.zero_add] at this
      exact this
    have ho := owe_le hC h k
    have hpl := py_le (O := fun p => SR (ow (cfg sc) A p) 0 (A 0 0)) (ca := A 0 2) k
    have egreat : (if (hgr (fun p => wg (cfg sc) A p (A 0 0)) k).1 = -1 then some (nI k) else gd (¬ (nI k < 0 ∨ 5 ≤ (nI k).toNatClampNeg)) (bnd (wF (cfg sc) A (A 0 0) (nI k).toNatClampNeg) fun x11 => gd (¬ ((hgr (fun p => wg (cfg sc) A p (A 0 0)) k).1 < 0 ∨ 5 ≤ (hgr (fun p => wg (cfg sc) A p (A 0 0)) k).1.toNatClampNeg)) (bnd (wF (cfg sc) A (A 0 0) (hgr (fun p => wg (cfg sc) A p (A 0 0)) k).1.toNatClampNeg) fun x12 => if x11 ≤ x12 then some (hgr (fun p => wg (cfg sc) A p (A 0 0)) k).1 else some (nI k)))) = some (hgr (fun p => wg (cfg sc) A p (A 0 0)) (k + 1)).1 := by
      rw [hgr, gd_t hg, hcl, bnd_s]
      rcases hgr_or (W := fun p => wg (cfg sc) A p (A 0 0)) (fun g => by have := wg_le h g; omega) k with ⟨-, q⟩ | ⟨g, q1, q2⟩
      · rw [q, if_pos rfl, if_neg (m1_le (by have := wg_le h k; omega))]
      · rw [q2, if_neg (nI_m1 (by omega)), gd_t (nI_in (by omega) (by decide)), nI_clamp (by omega), bnd_s]
        rw [show wF (cfg sc) A (A 0 0) k = nI (wg (cfg sc) A k (A 0 0)) from rfl, show wF (cfg sc) A (A 0 0) g = nI (wg (cfg sc) A g (A 0 0)) from rfl]
        by_cases c : nI (wg (cfg sc) A k (A 0 0)) ≤ nI (wg (cfg sc) A g (A 0 0))
        · rw [if_pos c, if_pos c]
        · rw [if_neg c, if_neg c]
    unfold f_L_holds_557 f_X11_plotsOf f_X11_weightOf f_X11_owed f_X11_paidTo f_X11_varietiesOf
    rw [if_neg (nI_ge hkn (by omega)), e570, bn1_s, n_gro hC h hkn, bn1_s, q_cpl hC h (by omega), bn1_s, bn1_s, if_pos rfl]
    rw [bn1_s, q_wgr hC h (by omega), bn1_s, bn1_s, gd_t hg, bnd_s, hcl, if_pos (show nI (SR (fun i => if cfg sc 2 (A 1 i) = k then A 2 i else 0) 0 (A 0 0)) = wF (cfg sc) A (A 0 0) k from rfl)]
    rw [bn1_s, q_owe hC h (by omega), bn1_s, bn1_s, gd_t (gin (by omega) (by omega)), bnd_s, if_pos (show nI (SR (ow (cfg sc) A k) 0 (A 0 0)) = oF (cfg sc) A (A 0 0) k from rfl)]
    rw [bn1_s, q_pto hC h (by omega), bn1_s, bn1_s, gd_t (gin (by omega) (by omega)), bnd_s, if_pos (show nI (SR (fun i => if cfg sc 2 (A 1 i) = k then A 7 i else 0) 0 (A 0 0)) = pF (cfg sc) A (A 0 0) k from rfl)]
    rw [bn1_s, q_cva hC h (by omega), bn1_s, bn1_s, gd_t (gin (by omega) (by omega)), bnd_s, show dF (cfg sc) A (A 0 0) k = nI (kd (cfg sc) A k (A 0 0)) from rfl, kd_cnt h, bn1_s, if_pos rfl]
    rw [hcl] at egreat
    rw [egreat, bn1_s, gd_t (gin (by omega) (by omega)), bnd_s, bnd_s, show oF (cfg sc) A (A 0 0) k = nI (SR (ow (cfg sc) A k) 0 (A 0 0)) from rfl, nI_add]
    rw [SR_succ, ← nI_1 k] at ih
    have hpyk : py (fun p => SR (ow (cfg sc) A p) 0 (A 0 0)) (A 0 2) (k + 1) = if (py (fun p => SR (ow (cfg sc) A p) 0 (A 0 0)) (A 0 2) k).2.2 = true ∨ (py (fun p => SR (ow (cfg sc) A p) 0 (A 0 0)) (A 0 2) k).1 < SR (ow (cfg sc) A k) 0 (A 0 0) then ((py (fun p => SR (ow (cfg sc) A p) 0 (A 0 0)) (A 0 2) k).1, (py (fun p => SR (ow (cfg sc) A p) 0 (A 0 0)) (A 0 2) k).2.1, true) else if SR (ow (cfg sc) A k) 0 (A 0 0) = 0 then ((py (fun p => SR (ow (cfg sc) A p) 0 (A 0 0)) (A 0 2) k).1, (py (fun p => SR (ow (cfg sc) A p) 0 (A 0 0)) (A 0 2) k).2.1, false) else ((py (fun p => SR (ow (cfg sc) A p) 0 (A 0 0)) (A 0 2) k).1 - SR (ow (cfg sc) A k) 0 (A 0 0), (py (fun p => SR (ow (cfg sc) A p) 0 (A 0 0)) (A 0 2) k).2.1 + 1, false) := rfl
    rw [hpyk] at ih
    generalize py (fun p => SR (ow (cfg sc) A p) 0 (A 0 0)) (A 0 2) k = P at ih hpl ⊢
    obtain ⟨P1, P2, P3⟩ := P
    generalize SR (ow (cfg sc) A k) 0 (A 0 0) = O at ih ho ⊢
    have hpl1 : P1 ≤ A 0 2 := hpl.1
    simp only at ih ⊢
    by_cases c : P3 = true ∨ P1 < O
    · rw [if_pos c] at ih
      have e3 : (if stp P3 = 0 then gd (¬ (nI k < 0 ∨ 5 ≤ k)) (bnd (nI O) fun x10 => if x10 ≤ nI P1 then some (0 : Int32) else some 1) else some 1) = some 1 := by
        rw [gd_t (gin (by omega) (by omega)), bnd_s]
        cases P3 with
        | true => rfl
        | false =>
          rw [if_pos (show stp false = 0 from rfl), if_neg (nI_ge (c.resolve_left (by decide)) (by omega))]
      rw [e3, bn1_s, if_neg (by decide), bn1_s]
      exact ih
    · rw [if_neg c] at ih
      have hP3 : P3 = false := by
        cases P3 with
        | true => exact absurd (Or.inl rfl) c
        | false => rfl
      subst hP3
      have hPO : O ≤ P1 := by
        refine Nat.not_lt.mp fun q => c (Or.inr q)
      have e3 : (if stp false = 0 then gd (¬ (nI k < 0 ∨ 5 ≤ k)) (bnd (nI O) fun x10 => if x10 ≤ nI P1 then some (0 : Int32) else some 1) else some 1) = some 0 := by
        rw [gd_t (gin (by omega) (by omega)), bnd_s, if_pos (show stp false = 0 from rfl), if_pos (nI_le hPO (by omega))]
      rw [e3, bn1_s, if_pos rfl, gd_t (gin (by omega) (by omega)), bnd_s]
      by_cases c2 : O = 0
      · rw [if_pos c2] at ih
        rw [if_pos ((nI_01 (by omega)).mpr c2), bn1_s]
        exact ih
      · rw [if_neg c2] at ih
        rw [if_neg (fun q => c2 ((nI_01 (by omega)).mp q)), gd_t (gin (by omega) (by omega)), bnd_s, bnd_s, bn1_s, pk_sub hPO, nI_1]
        exact ih
end HOLD
