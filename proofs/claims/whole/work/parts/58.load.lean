/-! PURE: the head of a text; load as a step -/
section HEAD
variable {X0 X : XT} {M0 M : MT} {n s e nc : Nat}
/-- an empty draft -/
def CL (X : XT) : Prop := (X 11 0 0 3 = 0 ∧ X 11 0 0 4 = 0 ∧ X 15 0 0 4 = 0 ∧ X 15 0 0 5 = 0 ∧ X 20 0 0 1 = 0 ∧ X 23 0 0 2 = 0 ∧ X 23 0 0 3 = 0) ∧ ∀ i, i < 20 → X 22 0 i 7 = 0 ∨ X 22 0 i 7 = 1
set_option maxRecDepth 20000 in
theorem CL.eq {X X' : XT} (h : CL X) (x : ∀ k i f, 11 ≤ k → X' k 0 i f = X k 0 i f) : CL X' := by
  obtain ⟨⟨h1, h2, h3, h4, h5, h6, h7⟩, h8⟩ := h
  refine ⟨⟨?_, ?_, ?_, ?_, ?_, ?_, ?_⟩, fun i hi => ?_⟩
  · rw [x _ _ _ (by decide)]; exact h1
  · rw [x _ _ _ (by decide)]; exact h2
  · rw [x _ _ _ (by decide)]; exact h3
  · rw [x _ _ _ (by decide)]; exact h4
  · rw [x _ _ _ (by decide)]; exact h5
  · rw [x _ _ _ (by decide)]; exact h6
  · rw [x _ _ _ (by decide)]; exact h7
  · rw [x _ _ _ (by decide)]; exact h8 i hi
def coopRest (M : MT) : Option MT := bn2 (f_X12_takeNumber M 1 200) (fun r1 M1 => gd (M.2.2 = M1.2.2) (bnd (mi M1 M1.2.2 0 r1) (fun M2 => bn2 (f_X12_takeNumber M2 0 99999) (fun r2 M3 => gd (M2.2.2 = M3.2.2) (bnd (mi M3 M3.2.2 1 r2) (fun M4 => bnd (mi M4 M4.2.2 2 (M4.1 M4.2.2 1)) (fun M5 => bn1 (f_X12_takeEnd M5 0) (fun M6 => some M6))))))))
set_option maxRecDepth 20000 in
theorem zero_row (hm : M.2.2 = 2) : ∀ d i f (Mi : MT), i + d = 264 → d < f → (∀ k, k ≠ 2 → Mi.1 k = M.1 k) → Mi.2 = M.2 → (∀ q, q < i → Mi.1 2 q = 0) → ∃ M', f_X12_readCooperative_23 f Mi (nI i) = coopRest M' ∧ (∀ k, k ≠ 2 → M'.1 k = M.1 k) ∧ M'.2 = M.2 ∧ ∀ q, q < 264 → M'.1 2 q = 0 := by
  intro d
  induction d with
  | zero =>
    intro i f Mi hi hf h1 h2 h3
    obtain ⟨f, rfl⟩ := fuel hf
    obtain rfl : i = 264 := by omega
    rw [f_X12_readCooperative_23, if_pos (by decide)]
    exact ⟨Mi, rfl, h1, h2, h3⟩
  | succ d ih =>
    intro i f Mi hi hf h1 h2 h3
    obtain ⟨f, rfl⟩ := fuel hf
    have hk : Mi.2.2 = 2 := (congrArg Prod.snd h2).trans hm
    rw [f_X12_readCooperative_23, if_neg (show ¬ (264 : Int32) ≤ nI i from nI_ge (b := 264) (by omega) (by decide)), gd_t (nI_in (by omega) (by decide)), nI_clamp (by omega), hk, bnd_s, show nI i + 1 = nI (i + 1) from nI_add i 1]
    refine ih (i + 1) f _ (by omega) (by omega) (fun k a => (mi_ne a).trans (h1 k a)) h2 (fun q hq => ?_)
    by_cases c : q = i
    · subst c; exact mi_i
    · rw [mi_o c]; exact h3 q (by omega)
set_option maxRecDepth 20000 in
theorem coop_ (b0 : BFn X0 M0 n) (wd : WD M0) (r2 : M0.2.2 = 2) (h : GOK X0 M0 X M n s e) (hc : CL X) : (∃ X' M' s' e', f_X8_readCooperative X = some (1, X') ∧ f_X12_readCooperative M = some M' ∧ GOK X0 M0 X' M' n s' e' ∧ DR X' M' 0 0 0 0 0 0 0 ∧ s < s') ∨ (∃ X' M', f_X8_readCooperative X = some (0, X') ∧ f_X12_readCooperative M = some M' ∧ BD X0 M0 X' M') := by
  obtain ⟨r, a1, a2, a3, a4⟩ := spells_ (h.1.bf b0) (h.1.wd wd) h.2.2 (t := 0) (by decide)
  have a2 : f_X12_isWord M (M.2.1 14) = some r := a2
  unfold f_X8_readCooperative f_X12_readCooperative
  rw [a1, bn1_s, a2, bn1_s]
  rcases a3 with rfl | rfl
  · obtain ⟨X', M', f1, f2, f3⟩ := h.fail (c := 1) (by decide)
    rw [if_pos rfl, if_pos rfl, f1, f2, bn2_s, bn1_s, gd_t (by decide)]
    exact Or.inr ⟨X', M', rfl, rfl, f3⟩
  · obtain ⟨X1, M1, s1, e1, t1, t2, g1, nf1, l1⟩ := h.next b0
    have hse := (a4 rfl).2.1
    have c1 : CL X1 := hc.eq fun k i f hk => nf1.1 k 0 i f (Or.inl (by omega))
    rw [if_neg (show ¬ (1 : Int32) = 0 by decide), if_neg (show ¬ (1 : Int32) = 0 by decide), t1, t2, bn1_s, bn1_s]
    obtain ⟨M2, z1, z2, z3, z4⟩ := zero_row (g1.m2 r2) 264 0 2000 M1 (by omega) (by omega) (fun _ _ => rfl) rfl (fun q hq => absurd hq (Nat.not_lt_zero _))
    have z1 : f_X12_readCooperative_23 2000 M1 0 = coopRest M2 := z1
    have g2 : GOK X0 M0 X1 M2 n s1 e1 := g1.upd (fun _ _ _ _ _ _ => rfl) c1.2 z2 z3
    have hm2 := g2.m2 r2
    rw [z1]
    unfold coopRest
    rcases g2.num b0 1 (hi := 200) (by decide) with ⟨x, X3, M3, s3, e3, b1, b2, g3, nf3, l3, x1, x2⟩ | ⟨X3, M3, b1, b2, z⟩
    · have hm3 := g3.m2 r2
      have c3 : CL X3 := c1.eq fun k i f hk => nf3.1 k 0 i f (Or.inl (by omega))
      rw [b1, bn2_s, bnd_s, xs_i, if_neg (m1_ge x 1 (by decide) x1), b2, bn2_s, gd_t (hm2.trans hm3.symm), bnd_s]
      have c4 : CL (xs X3 1 0 0 2 x) := c3.eq fun k i f hk => xs_o (by omega)
      have g4 : GOK X0 M0 (xs X3 1 0 0 2 x) (mi M3 M3.2.2 0 x) n s3 e3 := g3.upd (fun k j i f _ q => xs_o (by omega)) c4.2 (fun k q => mi_ne (by rw [hm3]; exact q)) rfl
      have z40 : ∀ q, q < 264 → (mi M3 M3.2.2 0 x).1 2 q = if q = 0 then x else 0 := by
        intro q hq
        rw [hm3]
        by_cases c : q = 0
        · subst c; rw [if_pos rfl]; exact mi_i
        · rw [if_neg c, mi_o c, nf3.2.1 2 (by decide)]; exact z4 q hq
      have x10 : (xs X3 1 0 0 2 x) 1 0 0 2 = x := xs_i
      have hm4 := g4.m2 r2
      generalize xs X3 1 0 0 2 x = X4 at *
      generalize mi M3 M3.2.2 0 x = M4 at *
      rcases g4.num b0 0 (hi := 99999) (by decide) with ⟨y, X5, M5, s5, e5, b5, b6, g5, nf5, l5, y1, y2⟩ | ⟨X5, M5, b5, b6, z⟩
      · obtain ⟨ca, hca, rfl⟩ := nI_up (n := 99999) (lt_z y1) y2 (by decide)
        have hm5 := g5.m2 r2
        have c5 : CL X5 := c4.eq fun k i f hk => nf5.1 k 0 i f (Or.inl (by omega))
        rw [b5, bn2_s, if_neg (nI_m1 (by omega)), b6, bn2_s, gd_t (hm4.trans hm5.symm), bnd_s, bnd_s]
        unfold f_X0_open
        rw [bnd_s, bnd_s, bnd_s, bn1_s]
        have hmx : (mi M5 M5.2.2 1 (nI ca)).2.2 = 2 := hm5
        rw [hmx, hm5]
        have e21 : (mi M5 2 1 (nI ca)).1 2 1 = nI ca := mi_i
        rw [e21]
        have g6 : GOK X0 M0 (xs (xs (xs X5 10 0 0 4 (nI ca)) 10 0 0 5 0) 10 0 0 6 (nI ca)) (mi (mi M5 2 1 (nI ca)) 2 2 (nI ca)) n s5 e5 := g5.upd (fun k j i f q _ => by rw [xs_o (by omega), xs_o (by omega), xs_o (by omega)]) (c5.eq fun k i f hk => by rw [xs_o (by omega), xs_o (by omega), xs_o (by omega)]).2 (fun k q => by rw [mi_ne q, mi_ne q]) rfl
        have c6 : CL (xs (xs (xs X5 10 0 0 4 (nI ca)) 10 0 0 5 0) 10 0 0 6 (nI ca)) := c5.eq fun k i f hk => by rw [xs_o (by omega), xs_o (by omega), xs_o (by omega)]
        have y4 : (xs (xs (xs X5 10 0 0 4 (nI ca)) 10 0 0 5 0) 10 0 0 6 (nI ca)) 10 0 0 4 = nI ca := by rw [xs_o (by omega), xs_o (by omega), xs_i]
        have y5 : (xs (xs (xs X5 10 0 0 4 (nI ca)) 10 0 0 5 0) 10 0 0 6 (nI ca)) 10 0 0 5 = 0 := by rw [xs_o (by omega), xs_i]
        have y6 : (xs (xs (xs X5 10 0 0 4 (nI ca)) 10 0 0 5 0) 10 0 0 6 (nI ca)) 10 0 0 6 = nI ca := xs_i
        have y12 : (xs (xs (xs X5 10 0 0 4 (nI ca)) 10 0 0 5 0) 10 0 0 6 (nI ca)) 1 0 0 2 = x := by
          rw [xs_o (by omega), xs_o (by omega), xs_o (by omega), nf5.1 1 0 0 2 (Or.inl (by decide))]; exact x10
        have rz : ∀ q, q < 264 → (mi (mi M5 2 1 (nI ca)) 2 2 (nI ca)).1 2 q = if q = 0 then x else if q = 1 ∨ q = 2 then nI ca else 0 := by
          intro q hq
          by_cases q2 : q = 2
          · subst q2; rw [if_neg (by decide), if_pos (by decide)]; exact mi_i
          · rw [mi_o q2]
            by_cases q1 : q = 1
            · subst q1; rw [if_neg (by decide), if_pos (by decide)]; exact mi_i
            · rw [mi_o q1, nf5.2.1 2 (by decide), z40 q hq, if_neg (show ¬ (q = 1 ∨ q = 2) from fun c => c.elim q1 q2)]
        generalize xs (xs (xs X5 10 0 0 4 (nI ca)) 10 0 0 5 0) 10 0 0 6 (nI ca) = X6 at *
        generalize mi (mi M5 2 1 (nI ca)) 2 2 (nI ca) = M6 at *
        rcases g6.semi b0 with ⟨M', f1, f2, f3, f4⟩ | ⟨-, ⟨M7, s7, e7, w1, w2, w3, w4, w5, w6⟩, -⟩
        · obtain ⟨X7, q1, q2, q3⟩ := f4 X6 (fun _ _ _ _ _ => rfl) c6.2
          rw [q2, bn2_s, gd_t (by decide), f2, bn1_s]
          exact Or.inr ⟨X7, M', rfl, rfl, q3⟩
        · obtain ⟨X7, q1, q2, q3⟩ := w6 X6 M7 (fun _ _ _ _ _ => rfl) c6.2 (fun _ _ => rfl) rfl
          rw [q1, bn2_s, gd_t (by decide), w1, bn1_s]
          have c7 : CL X7 := c6.eq fun k i f hk => q3 k 0 i f (by omega)
          refine Or.inl ⟨X7, M7, s7, e7, rfl, rfl, q2, ⟨c7.2, ?_, ?_⟩, by omega⟩
          · rw [q3 1 0 0 2 (by decide), y12, w4, rz 0 (by decide), if_pos rfl]
          · rw [w4]
            exact empty_ hca c7.1 ⟨(q3 _ _ _ _ (by decide)).trans y4, (q3 _ _ _ _ (by decide)).trans y5, (q3 _ _ _ _ (by decide)).trans y6⟩ (by rw [rz 1 (by decide)]; rfl) (by rw [rz 2 (by decide)]; rfl) (fun q q1 q2 => by rw [rz q q2, if_neg (by omega), if_neg (by omega)])
      · have hk5 : M5.2.2 = 2 := z.1.2.2.2.2.trans r2
        have hz : BD X0 M0 X5 (mi (mi M5 M5.2.2 1 0) (mi M5 M5.2.2 1 0).2.2 2 ((mi M5 M5.2.2 1 0).1 (mi M5 M5.2.2 1 0).2.2 1)) := z.upd (fun k q => by rw [mi_ne (by show ¬ k = M5.2.2; rw [hk5]; exact q), mi_ne (by rw [hk5]; exact q)]) rfl
        rw [b5, bn2_s, if_pos rfl, b6, bn2_s, gd_t (hm4.trans hk5.symm), bnd_s, bnd_s, bd_end hz.z, bn1_s]
        exact Or.inr ⟨X5, _, rfl, rfl, hz⟩
    · have hk3 : M3.2.2 = 2 := z.1.2.2.2.2.trans r2
      have hz1 : BD X0 M0 X3 (mi M3 M3.2.2 0 1) := z.upd (fun k q => mi_ne (by rw [hk3]; exact q)) rfl
      have hz2 : BD X0 M0 X3 (mi (mi M3 M3.2.2 0 1) M3.2.2 1 0) := hz1.upd (fun k q => mi_ne (by rw [hk3]; exact q)) rfl
      have hz3 : BD X0 M0 (xs X3 1 0 0 2 (-1)) (mi (mi (mi M3 M3.2.2 0 1) M3.2.2 1 0) M3.2.2 2 ((mi (mi M3 M3.2.2 0 1) M3.2.2 1 0).1 M3.2.2 1)) := by
        have := hz2.upd (M2 := mi (mi (mi M3 M3.2.2 0 1) M3.2.2 1 0) M3.2.2 2 ((mi (mi M3 M3.2.2 0 1) M3.2.2 1 0).1 M3.2.2 1)) (fun k q => mi_ne (by rw [hk3]; exact q)) rfl
        obtain ⟨p1, p2, p3, p4, p5⟩ := this
        exact ⟨p1.x1, p2, (xs_o (by omega)).trans p3, (xs_o (by omega)).trans p4, fun i hi => by rw [xs_o (by omega)]; exact p5 i hi⟩
      rw [b1, bn2_s, bnd_s, xs_i, if_pos rfl, b2, bn2_s, gd_t (hm2.trans hk3.symm), bnd_s, bd_num hz1.z, bn2_s, gd_t rfl, bnd_s, bnd_s]
      show _ ∨ (∃ X' M', some (0, xs X3 1 0 0 2 (-1)) = some (0, X') ∧ bn1 (f_X12_takeEnd (mi (mi (mi M3 M3.2.2 0 1) M3.2.2 1 0) M3.2.2 2 ((mi (mi M3 M3.2.2 0 1) M3.2.2 1 0).1 M3.2.2 1)) 0) (fun M6 => some M6) = some M' ∧ BD X0 M0 X' M')
      rw [bd_end hz3.z, bn1_s]
      exact Or.inr ⟨_, _, rfl, rfl, hz3⟩
end HEAD
