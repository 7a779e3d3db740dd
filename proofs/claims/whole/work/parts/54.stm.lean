/-! PURE: the statements of a text -/
def SR (X0 : XT) (M0 : MT) (n s : Nat) (f : Option (Int32 × XT)) (g : Option MT) : Prop :=
  (∃ X' M' s' e', f = some ((1 : Int32), X') ∧ g = some M' ∧ GOK X0 M0 X' M' n s' e' ∧ (∃ nc nv ng np nl nt nb, DR X' M' nc nv ng np nl nt nb) ∧ s < s') ∨ (∃ X' M', f = some ((0 : Int32), X') ∧ g = some M' ∧ BD X0 M0 X' M')
section STM
variable {X0 X : XT} {M0 M : MT} {n s e nc nv ng np nl nt nb : Nat}
set_option maxRecDepth 20000 in
theorem m1_ge (x lo : Int32) (hlo : 0 ≤ lo) (h : ¬ x < lo) : ¬ x = -1 := by
  rintro rfl
  exact h (Int32.lt_of_lt_of_le (by decide) hlo)
set_option maxRecDepth 20000 in
theorem GOK.m2 (r2 : M0.2.2 = 2) (h : GOK X0 M0 X M n s e) : M.2.2 = 2 := h.1.2.2.2.2.trans r2
set_option maxRecDepth 20000 in
theorem cnt_le {a : Nat} (h : a ≤ 100) : nI a - 1 ≤ 99999 := by
  rw [Int32.le_iff_toInt_le, show nI a - 1 = nI a - nI 1 from rfl, pk_sub_toInt (by omega) (by decide)]
  have : (99999 : Int32).toInt = 99999 := by decide
  omega
set_option maxRecDepth 20000 in
/-- a number below a count -/
theorem cnt_in {a : Nat} {x : Int32} (h : a ≤ 100) (h1 : ¬ x < 0) (h2 : x ≤ nI a - 1) : ∃ k, k < a ∧ x = nI k := by
  rcases rg x (n := a) (by omega) with q | q | q
  · exact q
  · exact absurd q h1
  · exfalso
    rw [Int32.le_iff_toInt_le] at h2 q
    rw [show nI a - 1 = nI a - nI 1 from rfl, pk_sub_toInt (by omega) (by decide)] at h2
    rw [nI_toInt (by omega)] at q
    omega
set_option maxRecDepth 20000 in
theorem lt_z {x : Int32} (h : ¬ x < 0) : 0 ≤ x := Int32.not_lt.mp h
set_option maxRecDepth 20000 in
/-- the end of a statement that lays something: the book's change, then the ';' -/
theorem lay_end (b0 : BFn X0 M0 n) (r2 : M0.2.2 = 2) (h : GOK X0 M0 X M n s e) (hd : DR X M nc nv ng np nl nt nb) {X1 : XT} {g : MT → Option MT} (hu : ∀ M1 : MT, M1.1 2 = M.1 2 → M1.2.2 = 2 → ∃ M2, g M1 = some M2 ∧ UB X M1 0 X1 M2 ∧ BR X1 0 (M2.1 2) ∧ (∀ i, i < 20 → X1 22 0 i 7 = 0 ∨ X1 22 0 i 7 = 1) ∧ M2.1 2 0 = M1.1 2 0) : SR X0 M0 n s (bn2 (f_X8_readSemicolon X1) (fun r X4 => gd (r &&& 1 = r) (some (r, X4)))) (bn1 (f_X12_takeEnd M 0) (fun M5 => bn1 (f_X12_isGood M5) (fun r => if r = 0 then (some M5) else g M5))) := by
  have hm2 := h.m2 r2
  rcases h.semi b0 with ⟨M', f1, f2, f3, f4⟩ | ⟨f1, ⟨M1, s', e', e1, e2, e3, e4, e5, e6⟩, -⟩
  · obtain ⟨M2, g1, g2, -, g4, -⟩ := hu M rfl hm2
    obtain ⟨X2, q1, q2, q3⟩ := f4 X1 g2.1 g4
    refine Or.inr ⟨X2, M', ?_, ?_, q3⟩
    · rw [q2, bn2_s, gd_t (by decide)]
    · rw [f2, bn1_s, good0 f3, bn1_s, if_pos rfl]
  · obtain ⟨M2, g1, g2, ⟨nc', nv', ng', np', nl', nt', nb', g3⟩, g4, g5⟩ := hu M1 e4 (e5.trans hm2)
    have hk : M1.2.2 = 2 := e5.trans hm2
    obtain ⟨X2, q1, q2, q3⟩ := e6 X1 M2 g2.1 g4 (fun k hk' => g2.2.1 k (by rw [hk]; exact hk')) g2.2.2
    refine Or.inl ⟨X2, M2, s', e', ?_, ?_, q2, ⟨nc', nv', ng', np', nl', nt', nb', fun i hi => ?_, ?_, ?_⟩, e2⟩
    · rw [q1, bn2_s, gd_t (by decide)]
    · rw [e1, bn1_s, show f_X12_isGood M1 = some 1 by unfold f_X12_isGood; rw [if_pos e3], bn1_s, if_neg (by decide), g1]
    · rw [q3 22 0 i 7 (by decide)]; exact g4 i hi
    · rw [q3 1 0 0 2 (by decide), g2.1 1 0 0 2 (Or.inr (by decide)), g5, e4]; exact hd.2.1
    · exact g3.eq fun k i f hq => q3 k 0 i f (by rintro rfl; exact hq)
set_option maxRecDepth 20000 in
/-- the end of a statement with a demand on the book: the reference's end is told first -/
theorem may_end (b0 : BFn X0 M0 n) (r2 : M0.2.2 = 2) (h : GOK X0 M0 X M n s e) (hd : DR X M nc nv ng np nl nt nb) (ok : Bool) {F : XT → Option (Int32 × XT)} {R : Option MT} {g : MT → Option MT} (hR : R = bn1 (f_X12_takeEnd M (if ok then 0 else 1)) (fun M5 => bn1 (f_X12_isGood M5) (fun r => if r = 0 then (some M5) else g M5))) (hF0 : ok = false → F X = bn2 (f_X8_fail X 6) (fun r8 X8 => gd (r8 &&& 1 = r8) (some (r8, X8)))) (hF1 : ok = true → ∃ X1, F X = bn2 (f_X8_readSemicolon X1) (fun r X4 => gd (r &&& 1 = r) (some (r, X4))) ∧ ∀ M1 : MT, M1.1 2 = M.1 2 → M1.2.2 = 2 → ∃ M2, g M1 = some M2 ∧ UB X M1 0 X1 M2 ∧ BR X1 0 (M2.1 2) ∧ (∀ i, i < 20 → X1 22 0 i 7 = 0 ∨ X1 22 0 i 7 = 1) ∧ M2.1 2 0 = M1.1 2 0) : SR X0 M0 n s (bn2 (f_X8_isSemicolonHere X) (fun r4 X5 => if r4 = 0 then (some (0, X5)) else F X5)) R := by
  have hm2 := h.m2 r2
  subst hR
  rcases h.semi b0 with ⟨M', f1', f2, f3, f4⟩ | ⟨f1', -, ⟨X', M', q1, q2, q3⟩⟩
  · obtain ⟨X2, q1, q2, q3⟩ := f4 X (fun _ _ _ _ _ => rfl) hd.1
    refine Or.inr ⟨X2, M', ?_, ?_, q3⟩
    · rw [q1, bn2_s, if_pos rfl]
    · rw [f2, bn1_s, good0 f3, bn1_s, if_pos rfl]
  · rw [f1', bn2_s, if_neg (by decide)]
    cases ok with
    | false =>
      rw [hF0 rfl, q1, bn2_s, gd_t (by decide), if_neg (by decide), q2, bn1_s, good0 q3.z, bn1_s, if_pos rfl]
      exact Or.inr ⟨X', M', rfl, rfl, q3⟩
    | true =>
      obtain ⟨X1, e1, hu⟩ := hF1 rfl
      rw [e1, if_pos rfl]
      exact lay_end b0 r2 h hd hu
set_option maxRecDepth 20000 in
/-- a statement's first token was its word -/
theorem start_ (b0 : BFn X0 M0 n) (h : GOK X0 M0 X M n s e) (hd : DR X M nc nv ng np nl nt nb) (hw : s < e) : ∃ X' M' s' e', f_X10_toNext X = some X' ∧ f_X12_goOn M = some M' ∧ GOK X0 M0 X' M' n s' e' ∧ DR X' M' nc nv ng np nl nt nb ∧ s < s' ∧ NF X M X' M' := by
  obtain ⟨X', M', s', e', r1, r2, r3, r4, r5⟩ := h.next b0
  exact ⟨X', M', s', e', r1, r2, r3, hd.nf r4, by omega, r4⟩
set_option maxRecDepth 20000 in
theorem SR.mono {f : Option (Int32 × XT)} {g : Option MT} {s2 : Nat} (h : SR X0 M0 n s2 f g) (hs : s ≤ s2) : SR X0 M0 n s f g := by
  rcases h with ⟨X', M', s', e', h1, h2, h3, h4, h5⟩ | h
  · exact Or.inl ⟨X', M', s', e', h1, h2, h3, h4, by omega⟩
  · exact Or.inr h
set_option maxRecDepth 20000 in
/-- a full list: both fault -/
theorem more_ (h : GOK X0 M0 X M n s e) (k : Nat) (hk : k < 264) {a b : Nat} (hr : M.1 M.2.2 k = nI a) (ha : a ≤ b) (hb : b ≤ 100) {fx : Option (Int32 × XT)} {g : Int32 → MT → Option MT} (g0 : ∀ r M1, r = 0 → g r M1 = some M1) (hg : a < b → SR X0 M0 n s fx (bn1 (f_X12_goOn M) (fun M2 => g 1 M2))) (hgo : ∃ X' M' s' e', f_X10_toNext X = some X' ∧ f_X12_goOn M = some M' ∧ GOK X0 M0 X' M' n s' e') : SR X0 M0 n s (if nI a < nI b then fx else (bn2 (f_X8_fail X 5) (fun r3 X5 => gd (r3 &&& 1 = r3) (some (r3, X5))))) (bn2 (f_X12_startMore M (nI k) (nI b)) g) := by
  obtain ⟨X', M', s', e', t1, t2, t3⟩ := hgo
  unfold f_X12_startMore
  rw [gd_t (nI_in hk (by decide)), nI_clamp (by omega), hr]
  by_cases c : a = b
  · subst c
    obtain ⟨X2, M2, f1, f2, f3⟩ := h.fail (c := 5) (by decide)
    rw [if_neg (nI_nlt (Nat.le_refl _) (by omega)), if_pos rfl, h.req1, f1, f2, bn2_s, gd_t (by decide), bn1_s, good0 f3.z, bn1_s, if_pos rfl, bn1_s, gd_t (by decide), bn2_s, g0 0 M2 rfl]
    exact Or.inr ⟨X2, M2, rfl, rfl, f3⟩
  · rw [if_pos (nI_lt (by omega) (by omega)), if_neg (fun q => c ((nI_eq (by omega) (by omega)).mp q)), req0, bn1_s, h.good, bn1_s, if_neg (by decide), t2, bn1_s, t3.good, bn1_s, gd_t (by decide), bn2_s]
    have := hg (by omega)
    rw [t2, bn1_s] at this
    exact this
set_option maxRecDepth 20000 in
/-- what only changes book 0 and row 2 -/
theorem GOK.upd (h : GOK X0 M0 X M n s e) {X1 : XT} {M2 : MT} (x1 : ∀ k j i f, (j ≠ 0 ∨ k < 10) → k ≠ 1 ∨ f ≠ 2 → X1 k j i f = X k j i f) (hb : bo0 X1) (m1 : ∀ k, k ≠ 2 → M2.1 k = M.1 k) (m2 : M2.2 = M.2) : GOK X0 M0 X1 M2 n s e := by
  obtain ⟨h1, ⟨h2, h3, h4, -⟩, h5⟩ := h
  refine ⟨⟨fun k j i f a b c => ?_, fun k a b => (m1 k b).trans (h1.2.1 k a b), fun f a => (congrFun (m1 0 (by decide)) f).trans (h1.2.2.1 f a), fun f a => (congrFun (congrArg Prod.fst m2) f).trans (h1.2.2.2.1 f a), (congrArg Prod.snd m2).trans h1.2.2.2.2⟩, ⟨?_, ?_, ?_, hb⟩, ?_⟩
  · rw [x1 k j i f c (Or.inl a)]; exact h1.1 k j i f a b c
  · rw [m1 0 (by decide)]; exact h2
  · rw [x1 1 0 0 3 (Or.inr (by decide)) (by decide)]; exact h3
  · rw [x1 1 0 0 4 (Or.inr (by decide)) (by decide)]; exact h4
  · have e3 : ∀ i, X1 3 0 0 i = X 3 0 0 i := fun i => x1 3 0 0 i (Or.inr (by decide)) (Or.inl (by decide))
    unfold TK sameW at h5 ⊢
    rw [m1 0 (by decide), m2, x1 2 0 0 2 (Or.inr (by decide)) (by decide), x1 2 0 0 3 (Or.inr (by decide)) (by decide), x1 2 0 0 4 (Or.inr (by decide)) (by decide), x1 2 0 0 5 (Or.inr (by decide)) (by decide), x1 2 0 0 6 (Or.inr (by decide)) (by decide)]
    simp only [e3]
    exact h5
set_option maxRecDepth 20000 in
theorem BD.upd (h : BD X0 M0 X M) {M2 : MT} (m1 : ∀ k, k ≠ 2 → M2.1 k = M.1 k) (m2 : M2.2 = M.2) : BD X0 M0 X M2 := by
  obtain ⟨h1, h2, h3, h4, hb⟩ := h
  refine ⟨⟨h1.1, fun k a b => (m1 k b).trans (h1.2.1 k a b), fun f a => (congrFun (m1 0 (by decide)) f).trans (h1.2.2.1 f a), fun f a => (congrFun (congrArg Prod.fst m2) f).trans (h1.2.2.2.1 f a), (congrArg Prod.snd m2).trans h1.2.2.2.2⟩, ?_, ?_, ?_, hb⟩
  · rw [m1 0 (by decide)]; exact h2
  · rw [m1 0 (by decide)]; exact h3
  · rw [m1 0 (by decide)]; exact h4
end STM
