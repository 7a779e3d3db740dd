/-! PURE: the acts keep the invariant: bottling, pumping, loads -/
section STEP2
variable {X X' : XT} {C A A' : NF}
set_option maxRecDepth 20000 in
theorem w_all (h : IV X C A) : SR (A 2) 0 (A 0 0) ≤ 14000 := by
  have hb := h.b
  have := SR_le (f := A 2) (B := 700) (A 0 0) 0 (fun i _ hi => by
    obtain ⟨⟨l1, l2, l3, l4, l5, l6⟩, -⟩ := h.l (k := i) (by omega)
    exact l3)
  omega
/-- n bottles of a tank become a lot -/
def boA (A : NF) (t n : Nat) : NF := fun i j => match i with
  | 0 => if j = 1 then A 0 1 + 1 else A 0 j
  | 9 => if j = t then A 9 t - n else A 9 j
  | 11 => if j = t then (if A 9 t - n = 0 then 0 else A 11 t - n * (A 11 t / A 9 t)) else A 11 j
  | 12 => if j = A 0 1 then A 10 t else A 12 j
  | 13 => if j = A 0 1 then A 11 t / A 9 t else A 13 j
  | 14 => if j = A 0 1 then n else A 14 j
  | 15 => if j = A 0 1 then n else A 15 j
  | _ => A i j
set_option maxRecDepth 20000 in
theorem s_bot (hC : CO C) (h : IV X C A) (hH : HS X) {t n : Nat} (ht : t < C 0 4) (hn1 : 1 ≤ n) (hn : n ≤ 400) (w s : Nat) : STEP C A X (f_L_bottled X (nI t) (nI n)) w s := by
  have hb := h.b
  have hCb := hC.b
  obtain ⟨X1, e1, h1, n1⟩ := h.note hC hH
  obtain ⟨t1, y0, y1, y2, y3, t4, t5⟩ := h.t ht
  have hcp := hC.t ht
  have ect : f_X2_canFillLot X 1 1 t (nI n) = some (if A 9 t < n ∨ 12 ≤ A 0 1 then 0 else 1) := by
    unfold f_X2_canFillLot
    rw [y1, h.c.2.2.2.2.2.2]
    by_cases q1 : A 9 t < n
    · rw [if_pos (nI_lt q1 (by omega)), if_pos (Or.inl q1)]
    · rw [if_neg (nI_nlt (by omega) (by omega))]
      by_cases q2 : 12 ≤ A 0 1
      · rw [if_pos (show (12 : Int32) ≤ nI (A 0 1) from nI_le (a := 12) q2 (by omega)), if_pos (Or.inr q2)]
      · rw [if_neg (show ¬ (12 : Int32) ≤ nI (A 0 1) from nI_ge (b := 12) (by omega) (by decide)), if_neg (fun q => q.elim q1 q2)]
  unfold f_L_bottled
  by_cases q : A 9 t < n ∨ 12 ≤ A 0 1
  · rw [if_pos q] at ect
    have ef : f_X11_bottle X (nI t) (nI n) = none := by
      unfold f_X11_bottle
      rw [k_tank hC h ht, bn1_s, gd_t (by omega), n_bot hn1 (by omega), bn1_s, ect, bn1_s, if_pos rfl]
    have et : t_X11_bottle X (nI t) (nI n) = some 0 := by
      unfold t_X11_bottle t_X11_knownTank t_X11_needBottles
      rw [if_neg (nI_pos (by omega)), h.c.2.2.2.2.2.1, if_pos (nI_lt ht (by omega)), gd_t (nI_in (by omega) (by decide)), k_tank hC h ht, bn1_s, gd_t (by omega), if_neg (show ¬ nI n < 1 from nI_nlt (b := 1) hn1 (by omega)), if_pos (show nI n ≤ 20000 from nI_le (b := 20000) (by omega) (by decide)), n_bot hn1 (by omega), bn1_s, ect, bn1_s, if_pos rfl]
      rfl
    rw [ef, et]
    exact Or.inl rfl
  · rw [if_neg q] at ect
    have q1 : n ≤ A 9 t := Nat.not_lt.mp fun e => q (Or.inl e)
    have q2 : A 0 1 < 12 := Nat.not_le.mp fun e => q (Or.inr e)
    have hv := t4 (by omega)
    have hsg := SR_one (f := A 11) ht
    have hss := h.s
    obtain ⟨mn, hmn⟩ : ∃ mn, mn = A 11 t / A 9 t := ⟨_, rfl⟩
    have hmm : n * mn ≤ A 11 t := by
      rw [hmn]
      exact Nat.le_trans (Nat.mul_le_mul_right _ q1) (Nat.mul_div_le _ _)
    have hmn2 : mn ≤ A 11 t := by rw [hmn]; exact Nat.div_le_self _ _
    obtain ⟨b, hbe⟩ : ∃ b, b = A 0 1 := ⟨_, rfl⟩
    obtain ⟨-, z0, z1, z2, z3, -, -⟩ := h1.t ht
    obtain ⟨X4, e4⟩ : ∃ X4, X4 = xs (xs (xs (xs X1 27 1 b 0 (nI (A 10 t))) 27 1 b 1 (nI mn)) 27 1 b 2 (nI n)) 27 1 b 3 (nI n) := ⟨_, rfl⟩
    have o4 : ∀ k i f, ¬ (k = 27 ∧ i = b ∧ f < 4) → X4 k 1 i f = X1 k 1 i f := fun k i f q => by
      rw [e4, xs_o (by omega), xs_o (by omega), xs_o (by omega), xs_o (by omega)]
    obtain ⟨X5, e5⟩ : ∃ X5, X5 = (if A 9 t - n = 0 then xs (xs (xs (xs (xs X4 26 1 t 3 (nI (A 11 t - n * mn))) 26 1 t 1 (nI (A 9 t - n))) 26 1 t 1 0) 26 1 t 2 (-1)) 26 1 t 3 0 else xs (xs X4 26 1 t 3 (nI (A 11 t - n * mn))) 26 1 t 1 (nI (A 9 t - n))) := ⟨_, rfl⟩
    have o5 : ∀ k i f, ¬ (k = 26 ∧ i = t ∧ 1 ≤ f ∧ f ≤ 3) → X5 k 1 i f = X4 k 1 i f := fun k i f q => by
      rw [e5]
      split
      · rw [xs_o (by omega), xs_o (by omega), xs_o (by omega), xs_o (by omega), xs_o (by omega)]
      · rw [xs_o (by omega), xs_o (by omega)]
    have ob5 : OB X1 X5 := by
      rw [e5, e4]
      split
      · exact ((((((((OB.no X1).x).x).x).x).x).x).x).x.x
      · exact (((((OB.no X1).x).x).x).x).x.x
    obtain ⟨X6, e6⟩ : ∃ X6, X6 = xs X5 23 1 0 3 (nI (b + 1)) := ⟨_, rfl⟩
    have o6 : ∀ k i f, ¬ (k = 27 ∧ i = b ∧ f < 4) → ¬ (k = 26 ∧ i = t ∧ 1 ≤ f ∧ f ≤ 3) → ¬ (k = 23 ∧ f = 3) → X6 k 1 i f = X1 k 1 i f := fun k i f q1 q2 q3 => by
      rw [e6, xs_o (by omega), o5 k i f q2, o4 k i f q1]
    have r7 : ∀ f, f < 4 → X6 27 1 b f = X4 27 1 b f := fun f _ => by rw [e6, xs_o (by omega), o5 27 b f (by omega)]
    have r70 : X6 27 1 b 0 = nI (A 10 t) := by rw [r7 0 (by decide), e4, xs_o (by omega), xs_o (by omega), xs_o (by omega), xs_i]
    have r71 : X6 27 1 b 1 = nI mn := by rw [r7 1 (by decide), e4, xs_o (by omega), xs_o (by omega), xs_i]
    have r72 : X6 27 1 b 2 = nI n := by rw [r7 2 (by decide), e4, xs_o (by omega), xs_i]
    have r73 : X6 27 1 b 3 = nI n := by rw [r7 3 (by decide), e4, xs_i]
    have r61 : X6 26 1 t 1 = nI (A 9 t - n) := by
      rw [e6, xs_o (by omega), e5]
      split
      · rename_i c
        rw [xs_o (by omega), xs_o (by omega), xs_i, c]
        rfl
      · rw [xs_i]
    have r62 : X6 26 1 t 2 = (if A 9 t - n = 0 then -1 else nI (A 10 t)) := by
      rw [e6, xs_o (by omega), e5]
      split
      · rw [xs_o (by omega), xs_i]
      · rw [xs_o (by omega), xs_o (by omega), o4 26 t 2 (by omega), z2, if_neg (by omega)]
    have r63 : X6 26 1 t 3 = nI (if A 9 t - n = 0 then 0 else A 11 t - n * mn) := by
      rw [e6, xs_o (by omega), e5]
      split
      · rw [xs_i]
        rfl
      · rw [xs_o (by omega), xs_i]
    have r3 : X6 23 1 0 3 = nI (b + 1) := by rw [e6, xs_i]
    have edr : f_X9_draw X4 1 t (nI n) = some X5 := by
      unfold f_X9_draw f_X9_mean f_X9_makeEmpty
      rw [o4 26 t 1 (by omega), o4 26 t 3 (by omega), z1, z3, if_neg (nI_nle (by omega) (by omega)), gd_t (nI_ne0 (by omega) (by omega)), bn1_s, pk_div (by omega) (by omega) (by omega), ← hmn, bnd_s, pk_mul, pk_sub hmm, bnd_s]
      have a1 : xs X4 26 1 t 3 (nI (A 11 t - n * mn)) 26 1 t 1 = nI (A 9 t) := by rw [xs_o (by omega), o4 26 t 1 (by omega), z1]
      rw [a1, pk_sub q1, xs_i, bnd_s, bnd_s, bnd_s, bn1_s, e5]
      by_cases c : A 9 t - n = 0
      · rw [if_pos ((nI_01 (by omega)).mpr c), if_pos c]
      · rw [if_neg (fun q => c ((nI_01 (by omega)).mp q)), if_neg c]
    have efl : f_X2_fillLot X1 1 1 t (nI n) = some (nI b, X6) := by
      have m1 : ∀ Z : XT, (∀ f, Z 26 1 t f = X1 26 1 t f) → f_X9_mean Z 1 t = some (nI mn) := fun Z hZ => by
        unfold f_X9_mean
        rw [hZ, hZ, z1, z3, if_neg (nI_nle (by omega) (by omega)), gd_t (nI_ne0 (by omega) (by omega)), pk_div (by omega) (by omega) (by omega), ← hmn]
      unfold f_X2_fillLot
      rw [h1.c.2.2.2.2.2.2, ← hbe, if_pos (show nI b < 12 from nI_lt (b := 12) (by omega) (by decide)), gd_t (nI_in (by omega) (by decide)), nI_clamp (by omega), z2, if_neg (by omega), bnd_s, m1 _ (fun f => xs_o (by omega)), bn1_s, bnd_s, bnd_s, bnd_s, ← e4, edr, bn1_s]
      have a3 : X5 23 1 0 3 = nI b := by rw [o5 23 0 3 (by omega), o4 23 0 3 (by omega), h1.c.2.2.2.2.2.2, hbe]
      rw [a3, nI_1, bnd_s, ← e6, r3, nI_pred]
    have ef : f_X11_bottle X (nI t) (nI n) = some (nI b, X6) := by
      unfold f_X11_bottle
      rw [k_tank hC h ht, bn1_s, gd_t (by omega), n_bot hn1 (by omega), bn1_s, ect, bn1_s, if_neg (by decide), e1, bn1_s, efl, bn2_s]
    rw [ef]
    refine Or.inr ⟨_, X6, boA A t n, rfl, nI_99 (by omega), n1.ob (by rw [e6]; exact ob5.x), ?_, fun k _ => ⟨rfl, rfl⟩, Or.inl rfl⟩
    have g9 : boA A t n 9 t = A 9 t - n := if_pos rfl
    have g11 : boA A t n 11 t = (if A 9 t - n = 0 then 0 else A 11 t - n * mn) := by rw [hmn]; exact if_pos rfl
    refine h1.step hC (fun k i f q1 q2 q3 => o6 k i f (by omega) (by omega) (by omega)) (o6 23 0 2 (by omega) (by omega) (by omega)) ⟨hb.1, (show A 0 1 + 1 ≤ 12 by omega), hb.2.2⟩ ?_ (by rw [r3, hbe]; rfl) ?_ (fun v hv g hg => ?_) (fun m hm => (h1.l hm).eq (fun f => o6 22 m f (by omega) (by omega) (by omega)) (fun i q1 q2 m' _ => ?_)) (fun m hm => ?_) (fun m hm => ?_) ?_ (fun m hm => ?_)
    · rw [o6 20 0 1 (by omega) (by omega) (by omega)]
      exact h1.c.2.2.2.2.1
    · rw [o6 10 0 4 (by omega) (by omega) (by omega), o6 10 0 5 (by omega) (by omega) (by omega), o6 10 0 6 (by omega) (by omega) (by omega)]
      exact h1.m
    · rw [o6 14 0 _ (by omega) (by omega) (by omega)]
      exact h1.pr hv hg
    · match i, q1, q2 with
      | 1, _, _ => rfl
      | 2, _, _ => rfl
      | 3, _, _ => rfl
      | 4, _, _ => rfl
      | 5, _, _ => rfl
      | 6, _, _ => rfl
      | 7, _, _ => rfl
    · by_cases e : m = t
      · subst e
        unfold TV
        rw [g9, g11, o6 26 m 0 (by omega) (by omega) (by omega), r61, r62, r63, z0]
        refine ⟨by omega, rfl, rfl, rfl, rfl, fun _ => hv, fun q => ?_⟩
        rw [if_pos q]
      · refine (h1.t hm).eq (fun f => o6 26 m f (by omega) (by omega) (by omega)) (if_neg e) rfl (if_neg e)
    · have hm : m < A 0 1 + 1 := hm
      by_cases e : m = b
      · have g12 : boA A t n 12 m = A 10 t := if_pos (by omega)
        have g13 : boA A t n 13 m = mn := by rw [hmn]; exact if_pos (by omega)
        have g14 : boA A t n 14 m = n := if_pos (by omega)
        have g15 : boA A t n 15 m = n := if_pos (by omega)
        unfold OV
        rw [g12, g13, g14, g15, e, r70, r71, r72, r73]
        exact ⟨⟨hv, Nat.le_refl _, by omega⟩, rfl, rfl, rfl, rfl⟩
      · refine (h1.o (b := m) (by omega)).eq (fun f => o6 27 m f (by omega) (by omega) (by omega)) (fun i q1 q2 => ?_)
        match i, q1, q2 with
        | 12, _, _ => exact if_neg (by omega)
        | 13, _, _ => exact if_neg (by omega)
        | 14, _, _ => exact if_neg (by omega)
        | 15, _, _ => exact if_neg (by omega)
    · have s9 := SR_upd (f := A 9) (g := boA A t n 9) (i := t) (C 0 4) 0 (Nat.zero_le _) (by omega) (fun j hj => if_neg hj)
      have s11 := SR_upd (f := A 11) (g := boA A t n 11) (i := t) (C 0 4) 0 (Nat.zero_le _) (by omega) (fun j hj => if_neg hj)
      have s14 : SR (boA A t n 14) 0 (A 0 1 + 1) = SR (A 14) 0 (A 0 1) + n := by
        rw [SR_succ, SR_congr (f := boA A t n 14) (g := A 14) _ _ (fun i _ hi => if_neg (by omega))]
        rw [show boA A t n 14 (A 0 1) = n from if_pos rfl]
      rw [g9] at s9
      have g11' : boA A t n 11 t ≤ A 11 t := by
        rw [g11]
        split <;> omega
      refine ⟨?_, ?_⟩
      · show SR (A 2) 0 (A 0 0) = SR (boA A t n 9) 0 (C 0 4) + SR (boA A t n 14) 0 (A 0 1 + 1)
        rw [s14]
        omega
      · show SR (boA A t n 11) 0 (C 0 4) ≤ 133000 * A 0 0
        omega
    · rw [o6 22 m 7 (by omega) (by omega) (by omega)]
      exact h1.f hm
/-- a tank is pumped into another one -/
def puA (A : NF) (t u : Nat) : NF := fun i j => match i with
  | 9 => if j = t then 0 else if j = u then A 9 u + A 9 t else A 9 j
  | 10 => if j = u then A 10 t else A 10 j
  | 11 => if j = t then 0 else if j = u then A 11 u + A 11 t else A 11 j
  | _ => A i j
set_option maxRecDepth 20000 in
theorem SR_pump {f g : Nat → Nat} {t u n : Nat} (ht : t < n) (hu : u < n) (htu : t ≠ u) (g1 : g t = 0) (g2 : g u = f u + f t) (go : ∀ j, j ≠ t → j ≠ u → g j = f j) : SR g 0 n = SR f 0 n := by
  have a := SR_upd (f := f) (g := fun j => if j = t then 0 else f j) (i := t) n 0 (Nat.zero_le _) (by omega) (fun j hj => if_neg hj)
  have b := SR_upd (f := fun j => if j = t then 0 else f j) (g := g) (i := u) n 0 (Nat.zero_le _) (by omega) (fun j hj => by
    by_cases q : j = t
    · rw [q, g1]
      exact (if_pos rfl).symm
    · rw [go j q hj]
      exact (if_neg q).symm)
  rw [if_pos rfl] at a
  rw [if_neg (fun q => htu q.symm), g2] at b
  omega
set_option maxRecDepth 20000 in
theorem s_pum (hC : CO C) (h : IV X C A) (hH : HS X) {t u : Nat} (ht : t < C 0 4) (hu : u < C 0 4) (htu : t ≠ u) (w s : Nat) : STEP C A X (f_L_pumped X (nI t) (nI u)) w s := by
  have hb := h.b
  have hCb := hC.b
  obtain ⟨X1, e1, h1, n1⟩ := h.note hC hH
  obtain ⟨t1, y0, y1, y2, y3, t4, t5⟩ := h.t ht
  obtain ⟨u1, v0, v1, v2, v3, u4, u5⟩ := h.t hu
  have hct := hC.t ht
  have hcu := hC.t hu
  have hne : ¬ nI t = nI u := fun q => htu ((nI_eq (by omega) (by omega)).mp q)
  obtain ⟨r, ect, hr⟩ : ∃ r, f_X9_canMoveTo X 1 t 1 u = some r ∧ (r = 0 ∨ (r = 1 ∧ 0 < A 9 t ∧ (A 9 u = 0 ∨ A 10 u = A 10 t) ∧ A 9 t ≤ C 5 u - A 9 u)) := by
    unfold f_X9_canMoveTo
    rw [y1, y2]
    by_cases q1 : A 9 t = 0
    · rw [if_pos ((nI_le0 (by omega)).mpr q1)]
      exact ⟨0, rfl, Or.inl rfl⟩
    · have := t4 (by omega)
      rw [if_neg (fun q => q1 ((nI_le0 (by omega)).mp q)), if_neg q1, q_tak hC h hu (by omega), bn1_s, i10, q_room hC h hu, bn1_s]
      by_cases q2 : A 9 u = 0 ∨ A 10 u = A 10 t
      · rw [if_pos q2]
        by_cases q3 : C 5 u - A 9 u < A 9 t
        · rw [if_pos (nI_lt q3 (by omega))]
          exact ⟨0, rfl, Or.inl rfl⟩
        · rw [if_neg (nI_nlt (by omega) (by omega))]
          exact ⟨1, rfl, Or.inr ⟨rfl, by omega, q2, by omega⟩⟩
      · rw [if_neg q2]
        exact ⟨0, rfl, Or.inl rfl⟩
  unfold f_L_pumped
  rcases hr with rfl | ⟨rfl, q1, q2, q3⟩
  · have ef : f_X11_pump X (nI t) (nI u) = none := by
      unfold f_X11_pump
      rw [k_tank hC h ht, bn1_s, gd_t (by omega), k_tank hC h hu, bn1_s, gd_t (by omega), if_neg hne, ect, bn1_s, if_pos rfl]
    have et : t_X11_pump X (nI t) (nI u) = some 0 := by
      unfold t_X11_pump t_X11_knownTank
      rw [if_neg (nI_pos (by omega)), h.c.2.2.2.2.2.1, if_pos (nI_lt ht (by omega)), gd_t (nI_in (by omega) (by decide)), k_tank hC h ht, bn1_s, gd_t (by omega), if_neg (nI_pos (by omega)), if_pos (nI_lt hu (by omega)), gd_t (nI_in (by omega) (by decide)), k_tank hC h hu, bn1_s, gd_t (by omega), if_neg hne, ect, bn1_s, if_pos rfl]
      rfl
    rw [ef, et]
    exact Or.inl rfl
  · have hv := t4 q1
    obtain ⟨-, z0, z1, z2, z3, -, -⟩ := h1.t ht
    obtain ⟨-, m0, m1, m2, m3, -, -⟩ := h1.t hu
    have hsg := SR_one (f := A 11) ht
    have hsu := SR_one (f := A 11) hu
    obtain ⟨X2, e2⟩ : ∃ X2, X2 = xs (xs (xs X1 26 1 u 2 (nI (A 10 t))) 26 1 u 1 (nI (A 9 u + A 9 t))) 26 1 u 3 (nI (A 11 u + A 11 t)) := ⟨_, rfl⟩
    obtain ⟨X3, e3⟩ : ∃ X3, X3 = xs (xs (xs X2 26 1 t 1 0) 26 1 t 2 (-1)) 26 1 t 3 0 := ⟨_, rfl⟩
    have o3 : ∀ k i f, ¬ (k = 26 ∧ (i = t ∨ i = u) ∧ 1 ≤ f ∧ f ≤ 3) → X3 k 1 i f = X1 k 1 i f := fun k i f q => by
      rw [e3, xs_o (by omega), xs_o (by omega), xs_o (by omega), e2, xs_o (by omega), xs_o (by omega), xs_o (by omega)]
    have ru : ∀ f, X3 26 1 u f = X2 26 1 u f := fun f => by rw [e3, xs_o (by omega), xs_o (by omega), xs_o (by omega)]
    have ru1 : X3 26 1 u 1 = nI (A 9 u + A 9 t) := by rw [ru, e2, xs_o (by omega), xs_i]
    have ru2 : X3 26 1 u 2 = nI (A 10 t) := by rw [ru, e2, xs_o (by omega), xs_o (by omega), xs_i]
    have ru3 : X3 26 1 u 3 = nI (A 11 u + A 11 t) := by rw [ru, e2, xs_i]
    have rt1 : X3 26 1 t 1 = 0 := by rw [e3, xs_o (by omega), xs_o (by omega), xs_i]
    have rt2 : X3 26 1 t 2 = -1 := by rw [e3, xs_o (by omega), xs_i]
    have rt3 : X3 26 1 t 3 = 0 := by rw [e3, xs_i]
    have emv : f_X9_moveTo X1 1 t 1 u = some X3 := by
      unfold f_X9_moveTo f_X9_pour f_X9_makeEmpty
      have a1 : xs X1 26 1 u 2 (nI (A 10 t)) 26 1 u 1 = nI (A 9 u) := by rw [xs_o (by omega), m1]
      have a3 : ∀ w : Int32, xs (xs X1 26 1 u 2 (nI (A 10 t))) 26 1 u 1 w 26 1 u 3 = nI (A 11 u) := fun w => by rw [xs_o (by omega), xs_o (by omega), m3]
      rw [z1, z2, z3, if_neg (by omega), bnd_s, a1, nI_add, bnd_s, a3, nI_add, bnd_s, ← e2, bn1_s, bnd_s, bnd_s, bnd_s, ← e3, bn1_s]
    have ef : f_X11_pump X (nI t) (nI u) = some (X3 26 1 u 1, X3) := by
      unfold f_X11_pump
      rw [k_tank hC h ht, bn1_s, gd_t (by omega), k_tank hC h hu, bn1_s, gd_t (by omega), if_neg hne, ect, bn1_s, if_neg (by decide), e1, bn1_s, emv, bn1_s]
    rw [ef]
    refine Or.inr ⟨_, X3, puA A t u, rfl, by rw [ru1]; exact nI_99 (by omega), n1.ob (by rw [e3, e2]; exact ((((((OB.no X1).x).x).x).x).x).x), ?_, fun k _ => ⟨rfl, rfl⟩, Or.inl rfl⟩
    have g9t : puA A t u 9 t = 0 := if_pos rfl
    have g11t : puA A t u 11 t = 0 := if_pos rfl
    have g9u : puA A t u 9 u = A 9 u + A 9 t := (if_neg (fun q => htu q.symm)).trans (if_pos rfl)
    have g11u : puA A t u 11 u = A 11 u + A 11 t := (if_neg (fun q => htu q.symm)).trans (if_pos rfl)
    have g9o : ∀ j, j ≠ t → j ≠ u → puA A t u 9 j = A 9 j := fun j a b => (if_neg a).trans (if_neg b)
    have g11o : ∀ j, j ≠ t → j ≠ u → puA A t u 11 j = A 11 j := fun j a b => (if_neg a).trans (if_neg b)
    refine h1.step hC (fun k i f q1 q2 q3 => o3 k i f (by omega)) (o3 23 0 2 (by omega)) hb ?_ ?_ ?_ (fun v hv g hg => ?_) (fun m hm => (h1.l hm).eq (fun f => o3 22 m f (by omega)) (fun i q1 q2 m' _ => ?_)) (fun m hm => ?_) (fun m hm => (h1.o hm).eq (fun f => o3 27 m f (by omega)) (fun i q1 q2 => ?_)) ?_ (fun m hm => ?_)
    · rw [o3 20 0 1 (by omega)]
      exact h1.c.2.2.2.2.1
    · rw [o3 23 0 3 (by omega)]
      exact h1.c.2.2.2.2.2.2
    · rw [o3 10 0 4 (by omega), o3 10 0 5 (by omega), o3 10 0 6 (by omega)]
      exact h1.m
    · rw [o3 14 0 _ (by omega)]
      exact h1.pr hv hg
    · match i, q1, q2 with
      | 1, _, _ => rfl
      | 2, _, _ => rfl
      | 3, _, _ => rfl
      | 4, _, _ => rfl
      | 5, _, _ => rfl
      | 6, _, _ => rfl
      | 7, _, _ => rfl
    · by_cases e : m = t
      · rw [e]
        unfold TV
        rw [g9t, g11t, o3 26 t 0 (by omega), rt1, rt2, rt3, z0]
        exact ⟨Nat.zero_le _, rfl, rfl, rfl, rfl, fun q => absurd q (by decide), fun _ => rfl⟩
      · by_cases e' : m = u
        · rw [e']
          have g10 : puA A t u 10 u = A 10 t := if_pos rfl
          unfold TV
          rw [g9u, g11u, g10, o3 26 u 0 (by omega), ru1, ru2, ru3, m0, if_neg (by omega)]
          exact ⟨by omega, rfl, rfl, rfl, rfl, fun _ => hv, fun q => by omega⟩
        · exact (h1.t hm).eq (fun f => o3 26 m f (by omega)) (g9o m e e') (if_neg e') (g11o m e e')
    · match i, q1, q2 with
      | 12, _, _ => rfl
      | 13, _, _ => rfl
      | 14, _, _ => rfl
      | 15, _, _ => rfl
    · have s9 := SR_pump (f := A 9) (g := puA A t u 9) ht hu htu g9t g9u g9o
      have s11 := SR_pump (f := A 11) (g := puA A t u 11) ht hu htu g11t g11u g11o
      refine ⟨?_, ?_⟩
      · show SR (A 2) 0 (A 0 0) = SR (puA A t u 9) 0 (C 0 4) + SR (A 14) 0 (A 0 1)
        rw [s9]
        exact h.s.1
      · show SR (puA A t u 11) 0 (C 0 4) ≤ 133000 * A 0 0
        rw [s11]
        exact h.s.2
    · rw [o3 22 m 7 (by omega)]
      exact h1.f hm
/-- a load is taken in -/
def deA (C A : NF) (p w s g t : Nat) : NF := fun i j => match i with
  | 0 => if j = 0 then A 0 0 + 1 else A 0 j
  | 1 => if j = A 0 0 then p else A 1 j
  | 2 => if j = A 0 0 then w else A 2 j
  | 3 => if j = A 0 0 then s else A 3 j
  | 4 => if j = A 0 0 then g else A 4 j
  | 5 => if j = A 0 0 then t else A 5 j
  | 6 => if j = A 0 0 then 0 else A 6 j
  | 7 => if j = A 0 0 then 0 else A 7 j
  | 9 => if j = t then A 9 t + w else A 9 j
  | 10 => if j = t then C 3 p else A 10 j
  | 11 => if j = t then A 11 t + w * s else A 11 j
  | _ => A i j
set_option maxRecDepth 20000 in
theorem s_del (hC : CO C) (h : IV X C A) (hH : HS X) {p w s : Nat} (hp : p < C 0 3) (hw1 : 1 ≤ w) (hw : w ≤ 700) (hs : s < 190) : STEP C A X (f_L_delivered X (nI p) (nI w) (nI s)) w s := by
  have hb := h.b
  have hCb := hC.b
  have hpC := hC.p hp
  obtain ⟨X1, e1, h1, n1⟩ := h.note hC hH
  have er := q_rea hC h hp (w := w) (s := s) (by omega) (by omega)
  rw [show (if A 0 0 = 20 then (1 : Int32) else if gr C s = -1 then 2 else if tk C A (C 3 p) w = -1 then 3 else 0) = rea C A p w s from rfl] at er
  unfold f_L_delivered
  rcases rea_c C A p w s with q | q
  · obtain ⟨c1, c2, c3⟩ := rea_0 q
    obtain ⟨g, hg, eg⟩ := gfo_g (A := A) hC (p := p) (w := w) c2
    rcases tk_or C A (C 3 p) w with c | ⟨t, ht, et, hroom, hvt⟩
    · exact absurd c c3
    obtain ⟨k, hk⟩ : ∃ k, k = A 0 0 := ⟨_, rfl⟩
    have hk20 : k < 20 := by omega
    have hct := hC.t ht
    obtain ⟨t1, z0, z1, z2, z3, -, t5⟩ := h1.t ht
    have hsg := SR_one (f := A 11) ht
    have hss := h.s
    have hws : w * s ≤ 133000 := Nat.le_trans (Nat.mul_le_mul hw (show s ≤ 190 by omega)) (by decide)
    obtain ⟨X2, e2⟩ : ∃ X2, X2 = xs (xs (xs X1 26 1 t 2 (nI (C 3 p))) 26 1 t 1 (nI (A 9 t + w))) 26 1 t 3 (nI (A 11 t + w * s)) := ⟨_, rfl⟩
    obtain ⟨X3, e3⟩ : ∃ X3, X3 = xs (xs (xs X2 22 1 k 7 0) 22 1 k 8 0) 20 1 0 1 (nI (k + 1)) := ⟨_, rfl⟩
    obtain ⟨X4, e4⟩ : ∃ X4, X4 = xs (xs (xs (xs (xs (xs (xs X3 22 1 k 0 (nI p)) 22 1 k 1 (nI (C 2 p))) 22 1 k 2 (nI (C 3 p))) 22 1 k 3 (nI w)) 22 1 k 4 (nI s)) 22 1 k 5 (nI g)) 22 1 k 6 (nI t) := ⟨_, rfl⟩
    have o2 : ∀ k' i f, ¬ (k' = 26 ∧ i = t ∧ 1 ≤ f ∧ f ≤ 3) → X2 k' 1 i f = X1 k' 1 i f := fun k' i f q => by
      rw [e2, xs_o (by omega), xs_o (by omega), xs_o (by omega)]
    have o3 : ∀ k' i f, ¬ (k' = 22 ∧ i = k) → ¬ (k' = 20) → X3 k' 1 i f = X2 k' 1 i f := fun k' i f q1 q2 => by
      rw [e3, xs_o (by omega), xs_o (by omega), xs_o (by omega)]
    have o4' : ∀ k' i f, ¬ (k' = 22 ∧ i = k ∧ f < 7) → X4 k' 1 i f = X3 k' 1 i f := fun k' i f q => by
      rw [e4, xs_o (by omega), xs_o (by omega), xs_o (by omega), xs_o (by omega), xs_o (by omega), xs_o (by omega), xs_o (by omega)]
    have o4 : ∀ k' i f, ¬ (k' = 22 ∧ i = k) → ¬ (k' = 20) → ¬ (k' = 26 ∧ i = t ∧ 1 ≤ f ∧ f ≤ 3) → X4 k' 1 i f = X1 k' 1 i f := fun k' i f q1 q2 q3 => by
      rw [o4' k' i f (by omega), o3 k' i f q1 q2, o2 k' i f q3]
    have x0 : X4 22 1 k 0 = nI p := by rw [e4, xs_o (by omega), xs_o (by omega), xs_o (by omega), xs_o (by omega), xs_o (by omega), xs_o (by omega), xs_i]
    have x1 : X4 22 1 k 1 = nI (C 2 p) := by rw [e4, xs_o (by omega), xs_o (by omega), xs_o (by omega), xs_o (by omega), xs_o (by omega), xs_i]
    have x2 : X4 22 1 k 2 = nI (C 3 p) := by rw [e4, xs_o (by omega), xs_o (by omega), xs_o (by omega), xs_o (by omega), xs_i]
    have x3 : X4 22 1 k 3 = nI w := by rw [e4, xs_o (by omega), xs_o (by omega), xs_o (by omega), xs_i]
    have x4 : X4 22 1 k 4 = nI s := by rw [e4, xs_o (by omega), xs_o (by omega), xs_i]
    have x5 : X4 22 1 k 5 = nI g := by rw [e4, xs_o (by omega), xs_i]
    have x6 : X4 22 1 k 6 = nI t := by rw [e4, xs_i]
    have x7 : X4 22 1 k 7 = 0 := by rw [o4' 22 k 7 (by omega), e3, xs_o (by omega), xs_o (by omega), xs_i]
    have x8 : X4 22 1 k 8 = 0 := by rw [o4' 22 k 8 (by omega), e3, xs_o (by omega), xs_i]
    have x20 : X4 20 1 0 1 = nI (k + 1) := by rw [o4' 20 0 1 (by omega), e3, xs_i]
    have rt1 : X4 26 1 t 1 = nI (A 9 t + w) := by rw [o4' 26 t 1 (by omega), o3 26 t 1 (by omega) (by omega), e2, xs_o (by omega), xs_i]
    have rt2 : X4 26 1 t 2 = nI (C 3 p) := by rw [o4' 26 t 2 (by omega), o3 26 t 2 (by omega) (by omega), e2, xs_o (by omega), xs_o (by omega), xs_i]
    have rt3 : X4 26 1 t 3 = nI (A 11 t + w * s) := by rw [o4' 26 t 3 (by omega), o3 26 t 3 (by omega) (by omega), e2, xs_i]
    have epo : f_X9_pour X1 1 t (nI (C 3 p)) (nI w) (nI (w * s)) = some X2 := by
      unfold f_X9_pour
      have a1 : xs X1 26 1 t 2 (nI (C 3 p)) 26 1 t 1 = nI (A 9 t) := by rw [xs_o (by omega), z1]
      have a3 : ∀ v : Int32, xs (xs X1 26 1 t 2 (nI (C 3 p))) 26 1 t 1 v 26 1 t 3 = nI (A 11 t) := fun v => by rw [xs_o (by omega), xs_o (by omega), z3]
      rw [bnd_s, a1, nI_add, bnd_s, a3, nI_add, bnd_s, ← e2]
    have ead : f_X3_addLoad X2 1 = some (k, X3) := by
      unfold f_X3_addLoad
      rw [o2 20 0 1 (by omega), h1.c.2.2.2.2.1, ← hk, if_neg (show ¬ (19 : Int32) < nI k from nI_nlt (a := 19) (b := k) (by omega) (by decide)), bnd_s, gd_t (nI_in (by omega) (by decide)), nI_clamp (by omega), bnd_s, bnd_s]
      have a1 : xs (xs X2 22 1 k 7 0) 22 1 k 8 0 20 1 0 1 = nI k := by rw [xs_o (by omega), xs_o (by omega), o2 20 0 1 (by omega), h1.c.2.2.2.2.1, hk]
      rw [a1, nI_1, if_neg (show ¬ (20 : Int32) < nI (k + 1) from nI_nlt (a := 20) (b := k + 1) (by omega) (by decide)), bnd_s, ← e3]
    have eow : f_X5_ownerOf (xs X3 22 1 k 0 (nI p)) 1 (nI p) = some (nI (C 2 p)) := by
      unfold f_X5_ownerOf
      rw [if_neg (nI_pos (by omega)), xs_o (by omega), o3 15 0 5 (by omega) (by omega), o2 15 0 5 (by omega), h1.c.2.2.2.1, if_neg (nI_ge hp (by omega)), gd_t (nI_in (by omega) (by decide)), nI_clamp (by omega), xs_o (by omega), o3 17 0 p (by omega) (by omega), o2 17 0 p (by omega), (h1.p hp).1]
    have eac : f_X0_accept X1 1 (nI p) (nI w) (nI s) = some (nI g, X4) := by
      unfold f_X0_accept f_X3_isFull
      rw [q_von hC h1 hp, bn1_s, q_gfo hC h1 hp (by omega) (by omega), bn1_s, q_cho hC h1 (by omega) (by omega), bn1_s, et]
      rw [show (if C 4 p < kil A p (A 0 0) + w then nI (C 0 0 - 1) else gr C s) = nI g from eg]
      rw [if_neg (nI_pos (by omega)), if_neg (show ¬ (5 : Int32) ≤ nI t from nI_ge (b := 5) (by omega) (by decide)), h1.c.2.2.2.2.1, if_pos (show nI (A 0 0) < 20 from nI_lt (b := 20) (by omega) (by decide)), bn1_s, if_pos rfl, gd_t (nI_in (by omega) (by decide)), nI_clamp (by omega), pk_mul, epo, bn1_s, ead, bn2_s, gd_t hk20, bnd_s, eow, bn1_s, bnd_s, bnd_s, bnd_s, bnd_s, bnd_s, bnd_s, ← e4]
    have ef : f_X11_deliver X (nI p) (nI w) (nI s) = some (nI g, X4) := by
      unfold f_X11_deliver
      rw [n_plo hC h hp, bn1_s, n_wei hw1 (by omega), bn1_s, n_sug (by omega), bn1_s, er, bn1_s, if_pos q, e1, bn1_s, eac, bn2_s]
    have ob : OB X1 X4 := by
      rw [e4, e3, e2]
      exact (((((((((((((OB.no X1).x).x).x).x).x).x).x).x).x).x).x).x).x
    rw [ef]
    refine Or.inr ⟨_, X4, deA C A p w s g t, rfl, nI_99 (by omega), n1.ob ob, ?_, fun m hm => ⟨if_neg (by omega), if_neg (by omega)⟩, Or.inr ⟨rfl, if_pos rfl, if_pos rfl⟩⟩
    have d9 : deA C A p w s g t 9 t = A 9 t + w := if_pos rfl
    have d10 : deA C A p w s g t 10 t = C 3 p := if_pos rfl
    have d11 : deA C A p w s g t 11 t = A 11 t + w * s := if_pos rfl
    have s2 : SR (deA C A p w s g t 2) 0 (A 0 0 + 1) = SR (A 2) 0 (A 0 0) + w := by
      rw [SR_succ, SR_congr (f := deA C A p w s g t 2) (g := A 2) _ _ (fun i _ hi => if_neg (by omega))]
      rw [show deA C A p w s g t 2 (A 0 0) = w from if_pos rfl]
    have s7 : SR (deA C A p w s g t 7) 0 (A 0 0 + 1) = SR (A 7) 0 (A 0 0) := by
      rw [SR_succ, SR_congr (f := deA C A p w s g t 7) (g := A 7) _ _ (fun i _ hi => if_neg (by omega))]
      rw [show deA C A p w s g t 7 (A 0 0) = 0 from if_pos rfl]
      rfl
    have s9 := SR_upd (f := A 9) (g := deA C A p w s g t 9) (i := t) (C 0 4) 0 (Nat.zero_le _) (by omega) (fun j hj => if_neg hj)
    have s11 := SR_upd (f := A 11) (g := deA C A p w s g t 11) (i := t) (C 0 4) 0 (Nat.zero_le _) (by omega) (fun j hj => if_neg hj)
    have dk : kil (deA C A p w s g t) p (A 0 0 + 1) = kil A p (A 0 0) + w := by
      unfold kil
      rw [SR_succ, SR_congr (g := fun i => if A 1 i = p then A 2 i else 0) _ _ (fun i _ hi => by
        rw [show deA C A p w s g t 1 i = A 1 i from if_neg (by omega), show deA C A p w s g t 2 i = A 2 i from if_neg (by omega)])]
      rw [show deA C A p w s g t 1 (A 0 0) = p from if_pos rfl, show deA C A p w s g t 2 (A 0 0) = w from if_pos rfl, if_pos rfl]
    refine h1.step hC (fun k' i f q1 q2 q3 => o4 k' i f (by omega) (by omega) (by omega)) (o4 23 0 2 (by omega) (by omega) (by omega)) ⟨(show A 0 0 + 1 ≤ 20 by omega), hb.2.1, hb.2.2⟩ (by rw [x20, hk]; rfl) ?_ ?_ (fun v hv g' hg' => ?_) (fun m hm => ?_) (fun m hm => ?_) (fun m hm => (h1.o hm).eq (fun f => o4 27 m f (by omega) (by omega) (by omega)) (fun i q1 q2 => ?_)) ?_ (fun m hm => ?_)
    · rw [o4 23 0 3 (by omega) (by omega) (by omega)]
      exact h1.c.2.2.2.2.2.2
    · rw [o4 10 0 4 (by omega) (by omega) (by omega), o4 10 0 5 (by omega) (by omega) (by omega), o4 10 0 6 (by omega) (by omega) (by omega)]
      refine ⟨h1.m.1, ?_⟩
      show _ = nI (SR (deA C A p w s g t 7) 0 (A 0 0 + 1)) + _
      rw [s7]
      exact h1.m.2
    · rw [o4 14 0 _ (by omega) (by omega) (by omega)]
      exact h1.pr hv hg'
    · have hm : m < A 0 0 + 1 := hm
      by_cases e : m = k
      · rw [e]
        unfold LV
        rw [show deA C A p w s g t 1 k = p from if_pos hk, show deA C A p w s g t 2 k = w from if_pos hk, show deA C A p w s g t 3 k = s from if_pos hk, show deA C A p w s g t 4 k = g from if_pos hk, show deA C A p w s g t 5 k = t from if_pos hk, show deA C A p w s g t 6 k = 0 from if_pos hk, show deA C A p w s g t 7 k = 0 from if_pos hk, hk, dk, ← hk]
        refine ⟨⟨hp, hw1, hw, hs, hg, ht⟩, ⟨x0, x1, x2, x3, x4, x5, x6⟩, ⟨x7, Nat.zero_le _, x8, Nat.zero_le _, fun _ => rfl⟩, ?_, c2⟩
        rw [hk]
        exact eg.symm
      · refine (h1.l (k := m) (by omega)).eq (fun f => o4 22 m f (by omega) (by omega) (by omega)) (fun i q1 q2 m' hm' => ?_)
        match i, q1, q2 with
        | 1, _, _ => exact if_neg (by omega)
        | 2, _, _ => exact if_neg (by omega)
        | 3, _, _ => exact if_neg (by omega)
        | 4, _, _ => exact if_neg (by omega)
        | 5, _, _ => exact if_neg (by omega)
        | 6, _, _ => exact if_neg (by omega)
        | 7, _, _ => exact if_neg (by omega)
    · by_cases e : m = t
      · rw [e]
        unfold TV
        rw [d9, d10, d11, o4 26 t 0 (by omega) (by omega) (by omega), rt1, rt2, rt3, z0, if_neg (by omega)]
        exact ⟨by omega, rfl, rfl, rfl, rfl, fun _ => hpC.2.1, fun q => by omega⟩
      · exact (h1.t hm).eq (fun f => o4 26 m f (by omega) (by omega) (by omega)) (if_neg e) (if_neg e) (if_neg e)
    · match i, q1, q2 with
      | 12, _, _ => rfl
      | 13, _, _ => rfl
      | 14, _, _ => rfl
      | 15, _, _ => rfl
    · rw [d9] at s9
      rw [d11] at s11
      refine ⟨?_, ?_⟩
      · show SR (deA C A p w s g t 2) 0 (A 0 0 + 1) = SR (deA C A p w s g t 9) 0 (C 0 4) + SR (A 14) 0 (A 0 1)
        rw [s2]
        omega
      · show SR (deA C A p w s g t 11) 0 (C 0 4) ≤ 133000 * (A 0 0 + 1)
        omega
    · by_cases e : m = k
      · rw [e]
        exact Or.inl x7
      · rw [o4 22 m 7 (by omega) (by omega) (by omega)]
        exact h1.f hm
  · have qn : ¬ rea C A p w s = 0 := fun e => by rw [e] at q; exact absurd q (by decide)
    have ef : f_X11_deliver X (nI p) (nI w) (nI s) = none := by
      unfold f_X11_deliver
      rw [n_plo hC h hp, bn1_s, n_wei hw1 (by omega), bn1_s, n_sug (by omega), bn1_s, er, bn1_s, if_neg qn]
    have et : t_X11_deliver X (nI p) (nI w) (nI s) = some 0 := by
      unfold t_X11_deliver t_X11_needPlot t_X11_needWeight t_X11_needSugar f_X5_hasPlot
      rw [if_neg (nI_pos (by omega)), h.c.2.2.2.1, if_neg (nI_ge hp (by omega)), bn1_s, if_neg (by decide), n_plo hC h hp, bn1_s, if_neg (show ¬ nI w < 1 from nI_nlt (b := 1) hw1 (by omega)), if_pos (show nI w ≤ 5000 from nI_le (b := 5000) (by omega) (by decide)), n_wei hw1 (by omega), bn1_s, if_neg (nI_pos (by omega)), if_pos (show nI s ≤ 250 from nI_le (b := 250) (by omega) (by decide)), n_sug (by omega), bn1_s, er, bn1_s, if_neg qn]
      rfl
    rw [ef, et]
    exact Or.inl rfl
end STEP2
