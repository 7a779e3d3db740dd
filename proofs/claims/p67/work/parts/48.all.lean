/-! PURE: all that the law adds up, in closed form -/
def pA (A : NF) (v : Nat) : Nat → Nat → Int64 → Int64 | 0, _, x => x | d + 1, g, x => pA A v d (g + 1) ((1019 * x) + ((nI (A 8 (v * 4 + g))).toInt64))
def qA (C A : NF) : Nat → Nat → Int64 → Int64 | 0, _, x => (1021 * x) + ((nI (A 0 2)).toInt64) | d + 1, v, x => qA C A d (v + 1) (pA A v (C 0 0) 0 x)
def lA (A : NF) : Nat → Nat → Int64 → Int64 | 0, _, x => x | d + 1, b, x => lA A d (b + 1) (((1013 * x) + (1000 * ((nI (A 15 b)).toInt64))) + ((nI (A 13 b)).toInt64))
def tA (A : NF) : Nat → Nat → Int64 → Int64 | 0, _, x => x | d + 1, t, x => tA A d (t + 1) ((((1009 * x) + (1000 * ((nI (A 9 t)).toInt64))) + (10 * ((nI (A 11 t / A 9 t)).toInt64))) + ((if A 9 t = 0 then (-1 : Int32) else nI (A 10 t)).toInt64))
def dA (C A : NF) : Nat → Nat → Int64 → Int64 | 0, _, x => x | d + 1, k, x => dA C A d (k + 1) (((((1000003 * x) + (10000 * ((nI (va C A k)).toInt64))) + (100 * ((nI (A 5 k)).toInt64))) + (10 * ((nI (A 4 k)).toInt64))) + ((if A 6 k = 0 then (0 : Int32) else 1).toInt64))
def aA (C A : NF) : Int64 := qA C A (C 0 1) 0 (lA A (A 0 1) 0 (tA A (C 0 4) 0 (dA C A (A 0 0) 0 7)))
section ALL
variable {X : XT} {C A : NF}
set_option maxRecDepth 20000 in
theorem l_192 (hC : CO C) (h : IV X C A) {v : Nat} (hv : v < C 0 1) : ∀ d g f x, g + d = C 0 0 → d < f → f_L_all_192 X (nI v) f x (nI g) = some (pA A v d g x) := by
  have hCb := hC.b
  intro d
  induction d with
  | zero =>
    intro g f x hk hf
    obtain ⟨f, rfl⟩ := fuel hf
    unfold f_L_all_192 f_X11_classCount
    rw [h.c.1, bn1_s, if_pos (nI_le (by omega) (by omega))]
    rfl
  | succ d ih =>
    intro g f x hk hf
    obtain ⟨f, rfl⟩ := fuel hf
    unfold f_L_all_192 f_X11_classCount
    rw [h.c.1, bn1_s, if_neg (nI_ge (by omega) (by omega)), a_pri hC h hv (by omega), bn1_s, bnd_s, nI_1, ih (g + 1) f _ (by omega) (by omega)]
    rfl
set_option maxRecDepth 20000 in
theorem l_180 (hC : CO C) (h : IV X C A) : ∀ d v f x, v + d = C 0 1 → d < f → f_L_all_180 X f x (nI v) = some (qA C A d v x) := by
  have hCb := hC.b
  intro d
  induction d with
  | zero =>
    intro v f x hk hf
    obtain ⟨f, rfl⟩ := fuel hf
    unfold f_L_all_180 f_X11_varietyCount f_X11_cash
    rw [h.c.2.1, bn1_s, if_pos (nI_le (by omega) (by omega)), bn1_s, h.m.1]
    rfl
  | succ d ih =>
    intro v f x hk hf
    obtain ⟨f, rfl⟩ := fuel hf
    unfold f_L_all_180 f_X11_varietyCount
    rw [h.c.2.1, bn1_s, if_neg (nI_ge (by omega) (by omega)), show f_L_all_192 X (nI v) 2000 x 0 = _ from l_192 hC h (by omega) (C 0 0) 0 2000 x (by omega) (by omega), bn1_s, nI_1, ih (v + 1) f _ (by omega) (by omega)]
    rfl
set_option maxRecDepth 20000 in
theorem l_136 (hC : CO C) (h : IV X C A) : ∀ d b f x, b + d = A 0 1 → d < f → f_L_all_136 X f x (nI b) = some (qA C A (C 0 1) 0 (lA A d b x)) := by
  have hCb := hC.b
  have hb := h.b
  intro d
  induction d with
  | zero =>
    intro b f x hk hf
    obtain ⟨f, rfl⟩ := fuel hf
    unfold f_L_all_136 f_X11_lotCount
    rw [h.c.2.2.2.2.2.2, bn1_s, if_pos (nI_le (by omega) (by omega))]
    exact l_180 hC h (C 0 1) 0 2000 x (by omega) (by omega)
  | succ d ih =>
    intro b f x hk hf
    obtain ⟨f, rfl⟩ := fuel hf
    unfold f_L_all_136 f_X11_lotCount
    rw [h.c.2.2.2.2.2.2, bn1_s, if_neg (nI_ge (by omega) (by omega)), a_uns h (by omega), bn1_s, a_lsu h (by omega), bn1_s, bnd_s, nI_1, ih (b + 1) f _ (by omega) (by omega)]
    rfl
set_option maxRecDepth 20000 in
theorem l_83 (hC : CO C) (h : IV X C A) : ∀ d t f x, t + d = C 0 4 → d < f → f_L_all_83 X (nI (C 0 4)) f x (nI t) = some (qA C A (C 0 1) 0 (lA A (A 0 1) 0 (tA A d t x))) := by
  have hCb := hC.b
  have hb := h.b
  intro d
  induction d with
  | zero =>
    intro t f x hk hf
    obtain ⟨f, rfl⟩ := fuel hf
    unfold f_L_all_83
    rw [if_pos (nI_le (by omega) (by omega))]
    exact l_136 hC h (A 0 1) 0 2000 x (by omega) (by omega)
  | succ d ih =>
    intro t f x hk hf
    obtain ⟨f, rfl⟩ := fuel hf
    unfold f_L_all_83
    rw [if_neg (nI_ge (by omega) (by omega)), a_con hC h (by omega), bn1_s, a_mea hC h (by omega), bn1_s, a_vin hC h (by omega), bn1_s, bnd_s, nI_1, ih (t + 1) f _ (by omega) (by omega)]
    rfl
set_option maxRecDepth 20000 in
theorem l_7 (hC : CO C) (h : IV X C A) : ∀ d k f x, k + d = A 0 0 → d < f → f_L_all_7 X (nI (C 0 4)) f x (nI k) = some (qA C A (C 0 1) 0 (lA A (A 0 1) 0 (tA A (C 0 4) 0 (dA C A d k x)))) := by
  have hCb := hC.b
  have hb := h.b
  intro d
  induction d with
  | zero =>
    intro k f x hk hf
    obtain ⟨f, rfl⟩ := fuel hf
    unfold f_L_all_7 f_X11_loadCount
    rw [h.c.2.2.2.2.1, bn1_s, if_pos (nI_le (by omega) (by omega))]
    exact l_83 hC h (C 0 4) 0 2000 x (by omega) (by omega)
  | succ d ih =>
    intro k f x hk hf
    obtain ⟨f, rfl⟩ := fuel hf
    have hkn : k < A 0 0 := by omega
    obtain ⟨-, -, ⟨x7, l7, -⟩, -⟩ := h.l hkn
    unfold f_L_all_7 f_X11_loadCount
    rw [h.c.2.2.2.2.1, bn1_s, if_neg (nI_ge hkn (by omega)), a_val hC h hkn, bn1_s, a_tan h hkn, bn1_s, a_cla h hkn, bn1_s, a_pai h hkn, bn1_s, nI_1, dA]
    by_cases c : A 6 k = 0
    · rw [if_pos ((nI_01 (by omega)).mpr c), if_pos c, bnd_s, ih (k + 1) f _ (by omega) (by omega)]
    · rw [if_neg (fun q => c ((nI_01 (by omega)).mp q)), if_neg c, bnd_s, ih (k + 1) f _ (by omega) (by omega)]
set_option maxRecDepth 20000 in
theorem L_all (hC : CO C) (h : IV X C A) : f_L_all X (nI (C 0 4)) = some (aA C A) := by
  have hb := h.b
  exact l_7 hC h (A 0 0) 0 2000 7 (by omega) (by omega)
end ALL
