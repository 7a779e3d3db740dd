/-! PURE: the classes of a text -/
section CLS
variable {X0 X : XT} {M0 M : MT} {n s e nc : Nat}
def sugTail (f : Nat) (M2 : MT) (r2 : Int32) (M3 : MT) : Option MT := if (M2.1 M2.2.2 3) = 4 then (bn1 (f_X12_requireNot M3 1 5) (fun M8 => bn1 (f_X12_isGood M8) (fun r4 => if r4 = 0 then (f_X12_readClasses_35 f M8) else (gd (¬ ((12 + (M2.1 M2.2.2 3)) < 0 ∨ 264 ≤ (12 + (M2.1 M2.2.2 3)).toNatClampNeg)) (bnd (mi M8 M8.2.2 ((12 + (M2.1 M2.2.2 3)).toNatClampNeg) r2) (fun M9 => bnd (mi M9 M9.2.2 3 ((M9.1 M9.2.2 3) + 1)) (fun M10 => bn1 (f_X12_goOn M10) (fun M11 => f_X12_readClasses_35 f M11)))))))) else (bn1 (f_X12_requireNot M3 0 5) (fun M4 => bn1 (f_X12_isGood M4) (fun r3 => if r3 = 0 then (f_X12_readClasses_35 f M4) else (gd (¬ ((12 + (M2.1 M2.2.2 3)) < 0 ∨ 264 ≤ (12 + (M2.1 M2.2.2 3)).toNatClampNeg)) (bnd (mi M4 M4.2.2 ((12 + (M2.1 M2.2.2 3)).toNatClampNeg) r2) (fun M5 => bnd (mi M5 M5.2.2 3 ((M5.1 M5.2.2 3) + 1)) (fun M6 => bn1 (f_X12_goOn M6) (fun M7 => f_X12_readClasses_35 f M7))))))))
def sugAll (f : Nat) (r2 : Int32) (M2 : MT) : Option MT := if (M2.1 M2.2.2 3) ≤ 0 then (bn1 (f_X12_requireNot M2 0 3) (fun M3 => sugTail f M2 r2 M3)) else (bnd ((12 + (M2.1 M2.2.2 3)) - 1) (fun x1 => gd (¬ (x1 < 0 ∨ 264 ≤ x1.toNatClampNeg)) (if r2 < (M2.1 M2.2.2 x1.toNatClampNeg) then (bn1 (f_X12_requireNot M2 0 3) (fun M12 => sugTail f M2 r2 M12)) else (bn1 (f_X12_requireNot M2 1 3) (fun M21 => sugTail f M2 r2 M21)))))
set_option maxRecDepth 20000 in
theorem cls35 (f : Nat) (M : MT) : f_X12_readClasses_35 (f + 1) M = bn1 (f_X12_isGood M) (fun r1 => if r1 = 0 then (bn1 (f_X12_takeEnd M 0) (fun M1 => some M1)) else (if (M.1 0 7) = 2 then (bn2 (f_X12_lookNumber M 0 200) (fun r2 M2 => sugAll f r2 M2)) else (if (M.1 M.2.2 3) = 0 then (bn2 (f_X12_lookNumber M 0 200) (fun r9 M31 => sugAll f r9 M31)) else (bn1 (f_X12_takeEnd M 0) (fun M30 => some M30))))) := rfl
set_option maxRecDepth 20000 in
theorem bad35 (h : ¬ M.1 0 12 = 0) (f : Nat) : f_X12_readClasses_35 (f + 1) M = some M := by
  rw [cls35, good0 h, bn1_s, if_pos rfl, bd_end h, bn1_s]
set_option maxRecDepth 20000 in
theorem bd_sugTail (h : ¬ M.1 0 12 = 0) (f : Nat) (M2 : MT) (x : Int32) : sugTail f M2 x M = f_X12_readClasses_35 f M := by
  unfold sugTail
  rw [bd_req h, bd_req h, bn1_s, good0 h, bn1_s, if_pos rfl, ite_self]
set_option maxRecDepth 20000 in
theorem bd_sugAll (h : ¬ M.1 0 12 = 0) (hc : M.1 M.2.2 3 = nI nc) (hn : nc ≤ 4) (f : Nat) (x : Int32) : sugAll f x M = f_X12_readClasses_35 f M := by
  unfold sugAll
  rw [bd_req h, bd_req h, bn1_s, bd_sugTail h, hc]
  by_cases c : nI nc ≤ 0
  · rw [if_pos c]
  · have c0 : 0 < nc := by
      refine Nat.pos_of_ne_zero fun q => c ?_
      subst q; decide
    rw [if_neg c, show (12 : Int32) + nI nc - 1 = nI (12 + nc - 1) by rw [show (12 : Int32) + nI nc = nI (12 + nc) from nI_add 12 nc]; exact pk_sub (b := 1) (by omega), bnd_s, gd_t (nI_in (by omega) (by decide)), ite_self]
set_option maxRecDepth 20000 in
theorem fault_row {c : Int32} {M' : MT} (h : f_X12_fault M c = some M') : M'.1 2 = M.1 2 ∧ M'.2 = M.2 := by
  unfold f_X12_fault at h
  by_cases k : M.1 0 12 = 0
  · rw [if_pos k, bnd_s, bnd_s] at h
    cases h
    exact ⟨by rw [mi_ne (by decide), mi_ne (by decide)], rfl⟩
  · rw [if_neg k] at h
    cases h
    exact ⟨rfl, rfl⟩
set_option maxRecDepth 20000 in
theorem GOK.look_row (h : GOK X0 M0 X M n s e) {a b r : Int32} {M' : MT} (hl : f_X12_lookNumber M a b = some (r, M')) : M'.1 2 = M.1 2 ∧ M'.2 = M.2 := by
  unfold f_X12_lookNumber at hl
  rw [h.good, bn1_s, if_neg (by decide)] at hl
  have flt : ∀ c, ¬ c = 0 → bn1 (f_X12_fault M c) (fun M2 => bn1 (f_X12_isGood M2) (fun r5 => if r5 = 0 then (some (a, M2)) else (some ((M2.1 0 11), M2)))) = some (r, M') → M'.1 2 = M.1 2 ∧ M'.2 = M.2 := by
    intro c hc hl
    obtain ⟨X', M1, f1, f2, f3⟩ := h.fail hc
    rw [f2, bn1_s, good0 f3.z, bn1_s, if_pos rfl] at hl
    cases hl
    exact fault_row f2
  by_cases k : M.1 0 7 = 2
  · rw [if_pos k] at hl
    cases hin : f_X12_in ((M.1 0 11).toInt64) (a.toInt64) (b.toInt64) with
    | none => rw [hin] at hl; exact absurd hl (by simp [bn1])
    | some q =>
      rw [hin, bn1_s] at hl
      by_cases q0 : q = 0
      · rw [if_pos q0] at hl
        exact flt 2 (by decide) hl
      · rw [if_neg q0, bn1_s, if_neg (by decide)] at hl
        cases hl
        exact ⟨rfl, rfl⟩
  · rw [if_neg k] at hl
    exact flt 1 (by decide) hl
set_option maxRecDepth 20000 in
theorem sugar_ (b0 : BFn X0 M0 n) (r2 : M0.2.2 = 2) (h : GOK X0 M0 X M n s e) (hd : DR X M nc 0 0 0 0 0 0) (hk : ¬ X 2 0 0 2 = 4 ∨ nc = 0) : (∃ X' M' s' e', nc < 4 ∧ f_X8_readLowestSugar X = some (1, X') ∧ (∀ f, f_X12_readClasses_35 (f + 1) M = f_X12_readClasses_35 f M') ∧ GOK X0 M0 X' M' n s' e' ∧ DR X' M' (nc + 1) 0 0 0 0 0 0 ∧ s < s') ∨ (∃ X' M', f_X8_readLowestSugar X = some (0, X') ∧ (∀ f, f_X12_readClasses_35 (f + 2) M = some M') ∧ BD X0 M0 X' M') := by
  have hbb := hd.2.2.b
  have hm2 := h.m2 r2
  have gd1 := h.good
  have hc3 : M.1 2 3 = nI nc := hd.2.2.c.1.2
  unfold f_X8_readLowestSugar
  by_cases hnum : X 2 0 0 2 = 3 ∨ nc = 0
  · have E : ∀ f, f_X12_readClasses_35 (f + 1) M = bn2 (f_X12_lookNumber M 0 200) (fun r M2 => sugAll f r M2) := by
      intro f
      rw [cls35, gd1, bn1_s, if_neg (by decide), hm2, hc3]
      by_cases k7 : M.1 0 7 = 2
      · rw [if_pos k7]
      · have k0 : nc = 0 := by
          refine hnum.resolve_left fun c => k7 ?_
          obtain ⟨t1, t2, t3, t4, tk⟩ := h.2.2
          rcases tk with k | k | k | k | k
          · rw [k.1] at c; exact absurd c (by decide)
          · rw [k.1] at c; exact absurd c (by decide)
          · exact k.2.1
          · rw [k.1] at c; exact absurd c (by decide)
          · rw [k.1] at c; exact absurd c (by decide)
        rw [if_neg k7, if_pos (show nI nc = (0 : Int32) by rw [k0]; rfl)]
    rcases h.look b0 0 (hi := 200) (by decide) with ⟨x, b1, b2, b3, x1, x2, b6, -⟩ | ⟨X3, M3, b1, b2, z⟩
    · rw [b1, bn2_s, if_neg (by decide), b3]
      have E2 : ∀ f, f_X12_readClasses_35 (f + 1) M = sugAll f x M := fun f => by rw [E, b2, bn2_s]
      have hless : (f_X1_isLessThanLast X 0 x = some 1 ∧ ∀ f, sugAll f x M = sugTail f M x M) ∨ (f_X1_isLessThanLast X 0 x = some 0 ∧ ∀ f, sugAll f x M = bn1 (f_X12_requireNot M 1 3) (fun M21 => sugTail f M x M21)) := by
        unfold f_X1_isLessThanLast f_X1_hasGrade
        rw [hd.2.2.c.1.1]
        by_cases c0 : nc = 0
        · subst c0
          left
          refine ⟨?_, fun f => ?_⟩
          · rw [bnd_s, if_pos (by decide), bn1_s, if_pos rfl]
          · unfold sugAll
            rw [hm2, hc3, if_pos (by decide), req0, bn1_s]
        · have cl := hd.2.2.cl (k := nc - 1) (by omega)
          have s1 : ∀ f, sugAll f x M = if x < X 12 0 0 (nc - 1) then sugTail f M x M else bn1 (f_X12_requireNot M 1 3) (fun M21 => sugTail f M x M21) := by
            intro f
            unfold sugAll
            rw [hm2, hc3, if_neg (nI_nle (by omega) (by omega)), show (12 : Int32) + nI nc - 1 = nI (12 + (nc - 1)) by rw [show (12 : Int32) + nI nc = nI (12 + nc) from nI_add 12 nc, show 12 + (nc - 1) = 12 + nc - 1 by omega]; exact pk_sub (b := 1) (by omega), bnd_s, gd_t (nI_in (by omega) (by decide)), nI_clamp (by omega), ← cl, req0, bn1_s]
          rw [show nI nc - 1 = nI (nc - 1) from pk_sub (b := 1) (by omega), bnd_s, if_neg (nI_pos (by omega)), if_neg (nI_ge (by omega) (by omega)), bn1_s, if_neg (by decide), gd_t (nI_in (by omega) (by decide)), nI_clamp (by omega)]
          by_cases c : X 12 0 0 (nc - 1) ≤ x
          · right
            rw [if_pos c]
            exact ⟨rfl, fun f => by rw [s1, if_neg (Int32.not_lt.mpr c)]⟩
          · left
            rw [if_neg c]
            exact ⟨rfl, fun f => by rw [s1, if_pos (Int32.not_le.mp c)]⟩
      rcases hless with ⟨q1, q2⟩ | ⟨q1, q2⟩
      · rw [q1, bn1_s, if_neg (by decide), hd.2.2.c.1.1]
        by_cases c4 : nc = 4
        · obtain ⟨X', M', f1, f2, f3⟩ := h.fail (c := 5) (by decide)
          rw [if_neg (show ¬ nI nc < 4 from nI_nlt (b := 4) (by omega) (by omega)), f1, bn2_s, gd_t (by decide)]
          refine Or.inr ⟨X', M', rfl, fun f => ?_, f3⟩
          rw [E2, q2]
          unfold sugTail
          rw [hm2, hc3, if_pos (show nI nc = (4 : Int32) by rw [c4]; rfl), h.req1, f2, bn1_s, good0 f3.z, bn1_s, if_pos rfl]
          exact bad35 f3.z f
        · have hlt : nc < 4 := by omega
          obtain ⟨X1, y1, u, hb', bo⟩ := class_ (hd.at rfl hm2) hlt x
          rw [hm2] at u hb'
          rw [if_pos (show nI nc < 4 from nI_lt (b := 4) hlt (by decide)), y1, bn1_s]
          have hrow : ∀ k, k ≠ 2 → (mi (mi M 2 (12 + nc) x) 2 3 (nI (nc + 1))).1 k = M.1 k := fun k q => by rw [mi_ne q, mi_ne q]
          have g1 : GOK X0 M0 X1 (mi (mi M 2 (12 + nc) x) 2 3 (nI (nc + 1))) n s e := h.upd (fun k j i f q _ => u.1 k j i f q) (fun i hi => by rw [bo]; exact hd.1 i hi) hrow rfl
          have d1 : DR X1 (mi (mi M 2 (12 + nc) x) 2 3 (nI (nc + 1))) (nc + 1) 0 0 0 0 0 0 := by
            refine ⟨fun i hi => by rw [bo]; exact hd.1 i hi, ?_, hb'⟩
            rw [u.1 1 0 0 2 (Or.inr (by decide)), mi_o (by decide), mi_o (by omega)]
            exact hd.2.1
          obtain ⟨X2, M2, s2, e2, t1, t2, g2, nf, l2⟩ := g1.next b0
          rw [t1, bn1_s]
          refine Or.inl ⟨X2, M2, s2, e2, hlt, rfl, fun f => ?_, g2, d1.nf nf, by omega⟩
          rw [E2, q2]
          unfold sugTail
          rw [hm2, hc3, if_neg (fun q => by have := (nI_eq (b := 4) (by omega) (by decide)).mp q; omega), req0, bn1_s, gd1, bn1_s, if_neg (by decide), show (12 : Int32) + nI nc = nI (12 + nc) from nI_add 12 nc, gd_t (nI_in (by omega) (by decide)), nI_clamp (by omega), hm2, bnd_s]
          show bnd (mi (mi M 2 (12 + nc) x) (mi M 2 (12 + nc) x).2.2 3 ((mi M 2 (12 + nc) x).1 (mi M 2 (12 + nc) x).2.2 3 + 1)) _ = _
          have hmm : (mi M 2 (12 + nc) x).2.2 = 2 := hm2
          rw [hmm, mi_o (by omega), hc3, show nI nc + 1 = nI (nc + 1) from nI_add nc 1, bnd_s, t2, bn1_s]
      · obtain ⟨X', M', f1, f2, f3⟩ := h.fail (c := 3) (by decide)
        rw [q1, bn1_s, if_pos rfl, f1, bn2_s, gd_t (by decide)]
        refine Or.inr ⟨X', M', rfl, fun f => ?_, f3⟩
        rw [E2, q2, h.req1, f2, bn1_s, bd_sugTail f3.z]
        exact bad35 f3.z f
    · rw [b1, bn2_s, if_pos rfl]
      refine Or.inr ⟨X3, M3, rfl, fun f => ?_, z⟩
      obtain ⟨w1, w2⟩ := h.look_row b2
      rw [E, b2, bn2_s, bd_sugAll z.z (nc := nc) (by rw [show M3.2.2 = M.2.2 from congrArg Prod.snd w2, hm2, w1]; exact hc3) hbb.1]
      exact bad35 z.z f
  · have h3 : ¬ X 2 0 0 2 = 3 := fun q => hnum (Or.inl q)
    have h0 : ¬ nc = 0 := fun q => hnum (Or.inr q)
    have h4 := hk.resolve_right h0
    obtain ⟨X', M', f1, f2, f3⟩ := h.fail (c := 1) (by decide)
    have b1 : f_X8_isNumberHere X 0 200 = some (0, X') := by
      unfold f_X8_isNumberHere
      rw [if_neg h3, f1, bn2_s, gd_t (by decide)]
    rw [b1, bn2_s, if_pos rfl]
    refine Or.inr ⟨X', M', rfl, fun f => ?_, f3⟩
    have k7 : ¬ M.1 0 7 = 2 := by
      obtain ⟨t1, t2, t3, t4, tk⟩ := h.2.2
      rcases tk with k | k | k | k | k
      · rw [k.2.1]; decide
      · rw [k.2.1]; decide
      · exact absurd k.1 h3
      · rw [k.2.1]; decide
      · rw [k.2.1]; decide
    rw [cls35, gd1, bn1_s, if_neg (by decide), if_neg k7, hm2, hc3, if_neg (nI_ne0 (by omega) (by omega))]
    rcases h.semi b0 with ⟨M1, g1, g2, -⟩ | ⟨g1, -⟩
    · rw [f2] at g1
      obtain rfl : M' = M1 := Option.some.inj g1
      rw [g2, bn1_s]
    · unfold f_X8_isSemicolonHere at g1
      rw [if_neg h4, f1, bn2_s, if_pos rfl] at g1
      have := congrArg (fun q => q.map Prod.fst) g1
      simp at this
set_option maxRecDepth 20000 in
theorem classes_run (b0 : BFn X0 M0 n) (r2 : M0.2.2 = 2) : ∀ d nc v f1 f2 (X : XT) (M : MT) s e, nc + d = 5 → nc = v + 1 → nc ≤ 4 → d < f1 → d + 2 < f2 → GOK X0 M0 X M n s e → DR X M nc 0 0 0 0 0 0 → SR X0 M0 n s (f_X8_readClasses_32 f1 X 1 (nI v)) (f_X12_readClasses_35 f2 M) := by
  intro d
  induction d with
  | zero => intro nc v f1 f2 X M s e h1 h2 h3; omega
  | succ d ih =>
    intro nc v f1 f2 X M s e h1 h2 h3 hf1 hf2 h hd
    obtain ⟨f1, rfl⟩ := fuel hf1
    obtain ⟨f2, rfl⟩ := fuel hf2
    have hm2 := h.m2 r2
    rw [f_X8_readClasses_32, if_neg (show ¬ (4 : Int32) ≤ nI v from nI_ge (b := 4) (by omega) (by decide)), if_neg (show ¬ (1 : Int32) = 0 by decide)]
    by_cases c4 : X 2 0 0 2 = 4
    · have k7 : ¬ M.1 0 7 = 2 := by
        obtain ⟨t1, t2, t3, t4, tk⟩ := h.2.2
        rcases tk with k | k | k | k | k
        · rw [k.2.1]; decide
        · rw [k.2.1]; decide
        · rw [k.1] at c4; exact absurd c4 (by decide)
        · rw [k.2.1]; decide
        · rw [k.2.1]; decide
      rw [if_pos c4, cls35, h.good, bn1_s, if_neg (show ¬ (1 : Int32) = 0 by decide), if_neg k7, hm2, hd.2.2.c.1.2, if_neg (nI_ne0 (by omega) (by omega))]
      rcases h.semi b0 with ⟨M1, g1, g2, g3, g4⟩ | ⟨-, ⟨M1, s1, e1, w1, w2, w3, w4, w5, w6⟩, -⟩
      · obtain ⟨X2, q1, q2, q3⟩ := g4 X (fun _ _ _ _ _ => rfl) hd.1
        rw [g2, bn1_s, q2, bn2_s, if_pos rfl]
        exact Or.inr ⟨X2, M1, rfl, rfl, q3⟩
      · obtain ⟨X2, q1, q2, q3⟩ := w6 X M1 (fun _ _ _ _ _ => rfl) hd.1 (fun _ _ => rfl) rfl
        rw [w1, bn1_s, q1, bn2_s, if_neg (by decide)]
        refine Or.inl ⟨X2, M1, s1, e1, rfl, rfl, q2, ⟨nc, 0, 0, 0, 0, 0, 0, fun i hi => ?_, ?_, ?_⟩, w2⟩
        · rw [q3 22 0 i 7 (by decide)]; exact hd.1 i hi
        · rw [q3 1 0 0 2 (by decide), w4]; exact hd.2.1
        · rw [w4]
          exact hd.2.2.eq fun k i f hq => q3 k 0 i f (by rintro rfl; exact hq)
    · rw [if_neg c4, show nI v + 1 = nI (v + 1) from nI_add v 1]
      rcases sugar_ b0 r2 h hd (Or.inl c4) with ⟨X', M', s', e', q0, q1, q2, q3, q4, q5⟩ | ⟨X', M', q1, q2, q3⟩
      · rw [q1, bn2_s, q2]
        exact (ih (nc + 1) (v + 1) f1 f2 X' M' s' e' (by omega) (by omega) (by omega) (by omega) (by omega) q3 q4).mono (by omega)
      · obtain ⟨f2, rfl⟩ := fuel (show 0 < f2 by omega)
        rw [q1, bn2_s, q2]
        refine Or.inr ⟨X', M', ?_, rfl, q3⟩
        obtain ⟨f1, rfl⟩ := fuel (show 0 < f1 by omega)
        rw [f_X8_readClasses_32]
        by_cases c : (4 : Int32) ≤ nI (v + 1)
        · rw [if_pos c, if_pos rfl]
        · rw [if_neg c, if_pos rfl, if_pos rfl]
set_option maxRecDepth 20000 in
theorem classes_ (b0 : BFn X0 M0 n) (wd : WD M0) (r2 : M0.2.2 = 2) (h : GOK X0 M0 X M n s e) (hd : DR X M 0 0 0 0 0 0 0) : SR X0 M0 n s (f_X8_readClasses X) (f_X12_readClasses M) := by
  obtain ⟨r, a1, a2, a3, a4⟩ := spells_ (h.1.bf b0) (h.1.wd wd) h.2.2 (t := 1) (by decide)
  have a2 : f_X12_isWord M (M.2.1 15) = some r := a2
  have gd1 := h.good
  unfold f_X8_readClasses f_X12_readClasses
  rw [a1, bn1_s, gd1, bn1_s, if_neg (show ¬ (1 : Int32) = 0 by decide), a2, bn1_s]
  rcases a3 with rfl | rfl
  · obtain ⟨X', M', f1, f2, f3⟩ := h.fail (c := 1) (by decide)
    rw [if_pos rfl, if_pos rfl, f1, f2, bn2_s, bn1_s, gd_t (by decide), good0 f3.z, bn1_s, if_pos rfl]
    exact Or.inr ⟨X', M', rfl, rfl, f3⟩
  · obtain ⟨X1, M1, s1, e1, t1, t2, g1, d1, l1, nf1⟩ := start_ b0 h hd (a4 rfl).2.1
    rw [if_neg (show ¬ (1 : Int32) = 0 by decide), if_neg (show ¬ (1 : Int32) = 0 by decide), bn1_s, if_neg (show ¬ (1 : Int32) = 0 by decide), t1, t2, bn1_s, bn1_s]
    rcases sugar_ b0 r2 g1 d1 (Or.inr rfl) with ⟨X', M', s', e', q0, q1, q2, q3, q4, q5⟩ | ⟨X', M', q1, q2, q3⟩
    · rw [q1, bn2_s, show f_X12_readClasses_35 2000 M1 = f_X12_readClasses_35 1999 M' from q2 1999]
      exact (classes_run b0 r2 4 1 0 2000 1999 X' M' s' e' rfl rfl (by decide) (by decide) (by decide) q3 q4).mono (by omega)
    · rw [q1, bn2_s, show f_X12_readClasses_35 2000 M1 = some M' from q2 1998]
      refine Or.inr ⟨X', M', ?_, rfl, q3⟩
      rw [f_X8_readClasses_32, if_neg (by decide), if_pos rfl, if_pos rfl]
end CLS
