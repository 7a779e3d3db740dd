/-! PURE: tank, plot, price, variety, grower -/
section ST2
variable {X0 X : XT} {M0 M : MT} {n s e nc nv ng np nl nt nb : Nat}
set_option maxRecDepth 20000 in
theorem UB.b2 {X2 X3 : XT} {M1 M2 : MT} (z3 : UB X2 M1 0 X3 M2) (m2 : M1.2.2 = 2) (z4 : BRn X3 0 (M2.1 M2.2.2) nc nv ng np nl nt nb) : BRn X3 0 (M2.1 2) nc nv ng np nl nt nb := by
  rw [show M2.2.2 = M1.2.2 from congrArg (·.2) z3.2.2, m2] at z4
  exact z4
set_option maxRecDepth 20000 in
theorem DR.at {M1 : MT} (h : DR X M nc nv ng np nl nt nb) (m1 : M1.1 2 = M.1 2) (m2 : M1.2.2 = 2) : BRn X 0 (M1.1 M1.2.2) nc nv ng np nl nt nb := by
  rw [m2, m1]; exact h.2.2
set_option maxRecDepth 20000 in
/-- the reference's tail of a statement whose reading failed -/
theorem bd_tail (h : ¬ M.1 0 12 = 0) (a : Int32) (g : MT → Option MT) : bn1 (f_X12_takeEnd M a) (fun M5 => bn1 (f_X12_isGood M5) (fun r => if r = 0 then (some M5) else g M5)) = some M := by
  rw [bd_end h, bn1_s, good0 h, bn1_s, if_pos rfl]
set_option maxRecDepth 20000 in
theorem sr_tank (b0 : BFn X0 M0 n) (r2 : M0.2.2 = 2) (h : GOK X0 M0 X M n s e) (hd : DR X M nc nv ng np nl nt nb) (hw : s < e) : SR X0 M0 n s (f_X8_readTank X) (f_X12_readTank M) := by
  have hbb := hd.2.2.b
  have hm2 := h.m2 r2
  obtain ⟨X1, M1, s1, e1, t1, t2, g1, d1, l1, nf1⟩ := start_ b0 h hd hw
  unfold f_X8_readTank f_X12_readTank
  rw [hd.2.2.c.2.2.2.2.2.1.1]
  refine more_ h 8 (by decide) (a := nt) (b := 5) (by rw [hm2]; exact hd.2.2.c.2.2.2.2.2.1.2) hbb.2.2.2.2.2.1 (by decide) (fun r M1 hr => if_pos hr) (fun hlt => ?_) ⟨X1, M1, s1, e1, t1, t2, g1⟩
  rw [t1, bn1_s, t2, bn1_s, if_neg (by decide)]
  rcases g1.num b0 1 (hi := 20000) (by decide) with ⟨x, X2, M2, s2, e2, a1, a2, g2, nf2, l2, x1, x2⟩ | ⟨X2, M2, a1, a2, z⟩
  · obtain ⟨ca, c1, c2, rfl⟩ := nI_up1 (n := 20000) x1 x2 (by decide)
    have d2 := d1.nf nf2
    obtain ⟨X3, -, y1, -⟩ := tankNew_ (d2.at rfl (g2.m2 r2)) hlt c2
    rw [a1, bn2_s, if_neg (nI_m1 (by omega)), y1, bn1_s, a2, bn2_s]
    refine (lay_end b0 r2 g2 d2 fun N m1 m2 => ?_).mono (by omega)
    obtain ⟨X3', M3, z1, z2, z3, z4, z5, z6⟩ := tankNew_ (d2.at m1 m2) hlt c2
    obtain rfl : X3 = X3' := Option.some.inj (y1.symm.trans z1)
    exact ⟨M3, by rw [z2, bn1_s], z3, ⟨_, _, _, _, _, _, _, z3.b2 m2 z4⟩, fun i hi => by rw [z5]; exact d2.1 i hi, by rw [m2] at z6; exact z6⟩
  · rw [a1, bn2_s, if_pos rfl, a2, bn2_s, bd_tail z.z]
    exact Or.inr ⟨X2, M2, rfl, rfl, z⟩
set_option maxRecDepth 20000 in
theorem sr_plot (b0 : BFn X0 M0 n) (r2 : M0.2.2 = 2) (h : GOK X0 M0 X M n s e) (hd : DR X M nc nv ng np nl nt nb) (hw : s < e) : SR X0 M0 n s (f_X8_readPlot X) (f_X12_readPlot M) := by
  have hbb := hd.2.2.b
  have hm2 := h.m2 r2
  obtain ⟨X1, M1, s1, e1, t1, t2, g1, d1, l1, nf1⟩ := start_ b0 h hd hw
  unfold f_X8_readPlot f_X12_readPlot
  rw [hd.2.2.c.2.2.2.1.1]
  refine more_ h 6 (by decide) (a := np) (b := 8) (by rw [hm2]; exact hd.2.2.c.2.2.2.1.2) hbb.2.2.2.1 (by decide) (fun r M1 hr => if_pos hr) (fun hlt => ?_) ⟨X1, M1, s1, e1, t1, t2, g1⟩
  rw [t1, bn1_s, t2, bn1_s, if_neg (by decide)]
  rcases g1.grower b0 r2 d1 with ⟨o, X2, M2, s2, e2, a1, a2, g2, nf2, l2, ho⟩ | ⟨X2, M2, a1, a2, z⟩
  · have d2 := d1.nf nf2
    rw [a1, bn2_s, if_neg (nI_m1 (by omega)), a2, bn2_s]
    rcases g2.variety b0 r2 d2 with ⟨v, X3, M3, s3, e3, a3, a4, g3, nf3, l3, hv⟩ | ⟨X3, M3, a3, a4, z⟩
    · have d3 := d2.nf nf3
      rw [a3, bn2_s, if_neg (nI_m1 (by omega)), a4, bn2_s]
      rcases g3.num b0 1 (hi := 99) (by decide) with ⟨x, X4, M4, s4, e4, a5, a6, g4, nf4, l4, x1, x2⟩ | ⟨X4, M4, a5, a6, z⟩
      · have d4 := d3.nf nf4
        have hx : X4 1 0 0 2 = M4.1 M4.2.2 0 := by rw [g4.m2 r2]; exact d4.2.1
        obtain ⟨X5, -, y1, -⟩ := plot_ (a := x) (d4.at rfl (g4.m2 r2)) hlt ho hv
        rw [a5, bn2_s, if_neg (m1_ge x 1 (by decide) x1), hx, y1, bn1_s, a6, bn2_s]
        refine (lay_end b0 r2 g4 d4 fun N m1 m2 => ?_).mono (by omega)
        obtain ⟨X5', M5, z1, z2, z3, z4, z5, z6⟩ := plot_ (a := x) (d4.at m1 m2) hlt ho hv
        rw [show N.1 N.2.2 0 = M4.1 M4.2.2 0 by rw [m2, m1, g4.m2 r2]] at z1
        obtain rfl : X5 = X5' := Option.some.inj (y1.symm.trans z1)
        exact ⟨M5, by rw [z2, bn1_s], z3, ⟨_, _, _, _, _, _, _, z3.b2 m2 z4⟩, fun i hi => by rw [z5]; exact d4.1 i hi, by rw [m2] at z6; exact z6⟩
      · rw [a5, bn2_s, if_pos rfl, a6, bn2_s, bd_tail z.z]
        exact Or.inr ⟨X4, M4, rfl, rfl, z⟩
    · rw [a3, bn2_s, if_pos rfl, a4, bn2_s, bd_num z.z, bn2_s, bd_tail z.z]
      exact Or.inr ⟨X3, M3, rfl, rfl, z⟩
  · rw [a1, bn2_s, if_pos rfl, a2, bn2_s, bd_named z.z, bn2_s, bd_num z.z, bn2_s, bd_tail z.z]
    exact Or.inr ⟨X2, M2, rfl, rfl, z⟩
set_option maxRecDepth 20000 in
theorem sr_price (b0 : BFn X0 M0 n) (r2 : M0.2.2 = 2) (h : GOK X0 M0 X M n s e) (hd : DR X M nc nv ng np nl nt nb) (hw : s < e) : SR X0 M0 n s (f_X8_readPrice X) (f_X12_readPrice M) := by
  have hbb := hd.2.2.b
  obtain ⟨X1, M1, s1, e1, t1, t2, g1, d1, l1, nf1⟩ := start_ b0 h hd hw
  unfold f_X8_readPrice f_X12_readPrice
  rw [t1, bn1_s, t2, bn1_s]
  rcases g1.variety b0 r2 d1 with ⟨v, X2, M2, s2, e2, a1, a2, g2, nf2, l2, hv⟩ | ⟨X2, M2, a1, a2, z⟩
  · have d2 := d1.nf nf2
    rw [a1, bn2_s, if_neg (nI_m1 (by omega)), a2, bn2_s, g2.m2 r2, d2.2.2.c.1.1, d2.2.2.c.1.2]
    rcases g2.num b0 0 (hi := nI nc - 1) (cnt_le (by omega)) with ⟨x, X3, M3, s3, e3, a3, a4, g3, nf3, l3, x1, x2⟩ | ⟨X3, M3, a3, a4, z⟩
    · obtain ⟨g, hg, rfl⟩ := cnt_in (by omega) x1 x2
      have d3 := d2.nf nf3
      rw [a3, bn2_s, if_neg (nI_m1 (by omega)), a4, bn2_s]
      rcases g3.num b0 0 (hi := 999) (by decide) with ⟨x, X4, M4, s4, e4, a5, a6, g4, nf4, l4, x1, x2⟩ | ⟨X4, M4, a5, a6, z⟩
      · obtain ⟨c, hc, rfl⟩ := nI_up (n := 999) (lt_z x1) x2 (by decide)
        have d4 := d3.nf nf4
        obtain ⟨X5, -, y1, -⟩ := price_ (d4.at rfl (g4.m2 r2)) hv hg hc
        rw [a5, bn2_s, if_neg (nI_m1 (by omega)), y1, bn1_s, a6, bn2_s]
        refine (lay_end b0 r2 g4 d4 fun N m1 m2 => ?_).mono (by omega)
        obtain ⟨X5', M5, z1, z2, z3, z4, z5, z6⟩ := price_ (d4.at m1 m2) hv hg hc
        obtain rfl : X5 = X5' := Option.some.inj (y1.symm.trans z1)
        exact ⟨M5, by rw [z2, bn1_s], z3, ⟨_, _, _, _, _, _, _, z3.b2 m2 z4⟩, fun i hi => by rw [z5]; exact d4.1 i hi, by rw [m2] at z6; exact z6⟩
      · rw [a5, bn2_s, if_pos rfl, a6, bn2_s, bd_tail z.z]
        exact Or.inr ⟨X4, M4, rfl, rfl, z⟩
    · rw [a3, bn2_s, if_pos rfl, a4, bn2_s, bd_num z.z, bn2_s, bd_tail z.z]
      exact Or.inr ⟨X3, M3, rfl, rfl, z⟩
  · rw [a1, bn2_s, if_pos rfl, a2, bn2_s, bd_num z.z, bn2_s, bd_num z.z, bn2_s, bd_tail z.z]
    exact Or.inr ⟨X2, M2, rfl, rfl, z⟩
set_option maxRecDepth 20000 in
theorem l2i {k : Nat} (h : k < 2 ^ 31) : (lN k).toInt32 = nI k := by
  rw [← Int32.toInt_inj, Int64.toInt_toInt32, lnT (by omega), nI_toInt h, Int.bmod_def]
  omega
set_option maxRecDepth 20000 in
theorem bd96 (h : ¬ M.1 0 12 = 0) (v : Int32) : f_X12_readNew_96 M v = some M := by
  unfold f_X12_readNew_96
  rw [good0 h, bn1_s, if_pos rfl]
set_option maxRecDepth 20000 in
theorem bd63 (h : ¬ M.1 0 12 = 0) (v : Int32) : f_X12_readNew_63 M v = some M := by
  unfold f_X12_readNew_63
  rw [good0 h, bn1_s, if_pos rfl, bd_req h, bn1_s, bd96 h]
set_option maxRecDepth 20000 in
theorem bd45 (h : ¬ M.1 0 12 = 0) (v : Int32) : f_X12_readNew_45 M v = some M := by
  unfold f_X12_readNew_45
  rw [bd_req h, bd_req h, bn1_s, bd63 h, ite_self]
set_option maxRecDepth 20000 in
theorem newName (b0 : BFn X0 M0 n) (r2 : M0.2.2 = 2) (h : GOK X0 M0 X M n s e) (hd : DR X M nc nv ng np nl nt nb) : (∃ w X' M' s' e', 1 ≤ w.length ∧ w.length ≤ 4 ∧ isW w ∧ f_X8_readNewName X = some (nI (pkN 32 w), X') ∧ (∀ v : Int32, f_X12_readNew_27 M v = bn1 (f_X12_takeEnd M' 0) (fun M5 => bn1 (f_X12_isGood M5) (fun r => if r = 0 then (some M5) else (if v = 0 then bn1 (f_X12_layGrower M5 (nI (pkN 27 w)) (nI w.length)) (fun M4 => some M4) else bn1 (f_X12_layVariety M5 (nI (pkN 27 w)) (nI w.length)) (fun M4 => some M4))))) ∧ GOK X0 M0 X' M' n s' e' ∧ NF X M X' M' ∧ s < s') ∨ (∃ X' M', f_X8_readNewName X = some (0, X') ∧ (∀ v, f_X12_readNew_27 M v = some M') ∧ BD X0 M0 X' M') := by
  have hb := hd.2.2
  have hm2 : M.2.2 = 2 := h.m2 r2
  rw [← hm2] at hb
  have hbb := hb.b
  have gd1 := h.good
  unfold f_X8_readNewName
  rcases wordHere h with ⟨c, a1⟩ | ⟨c, X', M', a1, a2, a3⟩
  · obtain ⟨se, w, wh⟩ := h.2.2.wh b0.1 c
    obtain ⟨h1, h2, h3, h3', h4, h5, h6⟩ := id wh
    have e27 : ∀ v, f_X12_readNew_27 M v = f_X12_readNew_45 M v := by
      intro v
      unfold f_X12_readNew_27
      rw [if_pos h2, req0, bn1_s]
    rw [a1, bn2_s, if_neg (by decide)]
    by_cases l : w.length ≤ 4
    · have b1 := p32_4 h1 l
      have b2 := p27_4 h1 l
      have h60 : ¬ X 2 0 0 6 = 0 := by rw [h5, if_pos l]; exact nI_ne0 (p32_0 h1 h3) (by omega)
      have e45 : ∀ v, f_X12_readNew_45 M v = f_X12_readNew_63 M v := by
        intro v
        unfold f_X12_readNew_45
        rw [h4, if_pos (show nI w.length ≤ 4 from nI_le (b := 4) l (by decide)), req0, bn1_s]
      obtain ⟨r, q1, q2, q3⟩ := varN hb wh nv 0 2000 2000 (by omega) (by omega) (by omega)
      obtain ⟨r', q4, q5, q6⟩ := groN hb wh ng 0 2000 2000 (by omega) (by omega) (by omega)
      have q1' : f_X1_varietyNamed X 0 (X 2 0 0 6) = some r := q1
      have q4' : f_X5_growerNamed X 0 (X 2 0 0 6) = some r' := q4
      have q2' : f_X12_varietyHere M = some r := q2
      have q5' : f_X12_growerHere M = some r' := q5
      rw [if_neg h60]
      have taken : f_X0_isNameTaken X 0 (X 2 0 0 6) = some 1 → (∀ v, f_X12_readNew_63 M v = bn1 (f_X12_requireNot M 1 3) (fun M2 => f_X12_readNew_96 M2 v)) → (∃ X' M', bn1 (f_X0_isNameTaken X 0 (X 2 0 0 6)) (fun r2 => if r2 = 0 then (bn1 (f_X10_toNext X) (fun X2 => some ((X 2 0 0 6), X2))) else (bn2 (f_X8_fail X 3) (fun r3 X3 => some (0, X3)))) = some (0, X') ∧ (∀ v, f_X12_readNew_27 M v = some M') ∧ BD X0 M0 X' M') := by
        intro q7 q8
        obtain ⟨X', M', f1, f2, f3⟩ := h.fail (c := 3) (by decide)
        refine ⟨X', M', ?_, fun v => ?_, f3⟩
        · rw [q7, bn1_s, if_neg (by decide), f1, bn2_s]
        · rw [e27, e45, q8, h.req1, f2, bn1_s, bd96 f3.z]
      by_cases c1 : r = -1
      · by_cases c2 : r' = -1
        · obtain ⟨X', M', s', e', t1, t2, t3, t4, t5⟩ := h.next b0
          refine Or.inl ⟨w, X', M', s', e', h3, l, h1, ?_, fun v => ?_, t3, t4, by omega⟩
          · unfold f_X0_isNameTaken
            rw [q1', bn1_s, if_pos c1, q4', bn1_s, if_pos c2, bn1_s, if_pos rfl, t1, bn1_s, h5, if_pos l]
          · rw [e27, e45]
            unfold f_X12_readNew_63
            rw [gd1, bn1_s, if_neg (by decide), q2', bn1_s, if_pos c1, q5', bn1_s, if_pos c2, req0, bn1_s]
            unfold f_X12_readNew_96
            rw [gd1, bn1_s, if_neg (by decide), bnd_s, t2, bn1_s, h6 (by omega), l2i (by omega), h4]
            refine congrArg (bn1 (f_X12_takeEnd M' 0)) (funext fun M2 => ?_)
            unfold f_X12_isGood
            by_cases cz : M2.1 0 12 = 0
            · rw [if_pos cz]
              simp only [bn1_s, if_neg (show ¬ (1 : Int32) = 0 by decide)]
            · rw [if_neg cz, bn1_s, if_pos rfl, bn1_s, if_pos rfl, bn1_s, if_pos rfl]
        · refine Or.inr (taken ?_ fun v => ?_)
          · unfold f_X0_isNameTaken
            rw [q1', bn1_s, if_pos c1, q4', bn1_s, if_neg c2]
          · unfold f_X12_readNew_63
            rw [gd1, bn1_s, if_neg (by decide), q2', bn1_s, if_pos c1, q5', bn1_s, if_neg c2]
      · refine Or.inr (taken ?_ fun v => ?_)
        · unfold f_X0_isNameTaken
          rw [q1', bn1_s, if_neg c1]
        · unfold f_X12_readNew_63
          rw [gd1, bn1_s, if_neg (by decide), q2', bn1_s, if_neg c1]
    · obtain ⟨X', M', f1, f2, f3⟩ := h.fail (c := 2) (by decide)
      rw [if_pos (by rw [h5, if_neg l]), f1, bn2_s]
      refine Or.inr ⟨X', M', rfl, fun v => ?_, f3⟩
      rw [e27]
      unfold f_X12_readNew_45
      rw [h4, if_neg (show ¬ nI w.length ≤ 4 from nI_ge (a := 4) (by omega) (by omega)), h.req1, f2, bn1_s, bd63 f3.z]
  · rw [a1, bn2_s, if_pos rfl]
    refine Or.inr ⟨X', M', rfl, fun v => ?_, a3⟩
    unfold f_X12_readNew_27
    rw [if_neg (h.2.2.nw c), h.req1, a2, bn1_s, bd45 a3.z]
set_option maxRecDepth 20000 in
theorem sr_variety (b0 : BFn X0 M0 n) (r2 : M0.2.2 = 2) (h : GOK X0 M0 X M n s e) (hd : DR X M nc nv ng np nl nt nb) (hw : s < e) : SR X0 M0 n s (f_X8_readVariety X) (f_X12_readNew M 1) := by
  have hbb := hd.2.2.b
  have hm2 := h.m2 r2
  obtain ⟨X1, M1, s1, e1, t1, t2, g1, d1, l1, nf1⟩ := start_ b0 h hd hw
  unfold f_X8_readVariety f_X12_readNew
  rw [hd.2.2.c.2.1.1, if_neg (show ¬ (1 : Int32) = 0 by decide), if_neg (show ¬ (1 : Int32) = 0 by decide)]
  refine more_ h 4 (by decide) (a := nv) (b := 4) (by rw [hm2]; exact hd.2.2.c.2.1.2) hbb.2.1 (by decide) (fun r M1 hr => if_pos hr) (fun hlt => ?_) ⟨X1, M1, s1, e1, t1, t2, g1⟩
  rw [t1, bn1_s, t2, bn1_s, if_neg (by decide)]
  rcases newName b0 r2 g1 d1 with ⟨w, X2, M2, s2, e2, w1, w2, w3, a1, a2, g2, nf2, l2⟩ | ⟨X2, M2, a1, a2, z⟩
  · have d2 := d1.nf nf2
    have hn : nmR (nI (pkN 32 w)) (nI (pkN 27 w)) (nI w.length) := ⟨w, w1, w2, w3, rfl, rfl, rfl⟩
    obtain ⟨X3, -, y1, -⟩ := variety_ (d2.at rfl (g2.m2 r2)) hlt hn
    rw [a1, bn2_s, if_neg (nI_ne0 (p32_0 w3 w1) (by have := p32_4 w3 w2; omega)), y1, bn1_s, a2 1]
    refine (lay_end b0 r2 g2 d2 fun N m1 m2 => ?_).mono (by omega)
    obtain ⟨X3', M3, z1, z2, z3, z4, z5, z6⟩ := variety_ (d2.at m1 m2) hlt hn
    obtain rfl : X3 = X3' := Option.some.inj (y1.symm.trans z1)
    exact ⟨M3, by rw [if_neg (by decide), z2, bn1_s], z3, ⟨_, _, _, _, _, _, _, z3.b2 m2 z4⟩, fun i hi => by rw [z5]; exact d2.1 i hi, by rw [m2] at z6; exact z6⟩
  · rw [a1, bn2_s, if_pos rfl, a2]
    exact Or.inr ⟨X2, M2, rfl, rfl, z⟩
set_option maxRecDepth 20000 in
theorem sr_grower (b0 : BFn X0 M0 n) (r2 : M0.2.2 = 2) (h : GOK X0 M0 X M n s e) (hd : DR X M nc nv ng np nl nt nb) (hw : s < e) : SR X0 M0 n s (f_X8_readGrower X) (f_X12_readNew M 0) := by
  have hbb := hd.2.2.b
  have hm2 := h.m2 r2
  obtain ⟨X1, M1, s1, e1, t1, t2, g1, d1, l1, nf1⟩ := start_ b0 h hd hw
  unfold f_X8_readGrower f_X12_readNew
  rw [hd.2.2.c.2.2.1.1, if_pos rfl, if_pos rfl]
  refine more_ h 5 (by decide) (a := ng) (b := 6) (by rw [hm2]; exact hd.2.2.c.2.2.1.2) hbb.2.2.1 (by decide) (fun r M1 hr => if_pos hr) (fun hlt => ?_) ⟨X1, M1, s1, e1, t1, t2, g1⟩
  rw [t1, bn1_s, t2, bn1_s, if_neg (by decide)]
  rcases newName b0 r2 g1 d1 with ⟨w, X2, M2, s2, e2, w1, w2, w3, a1, a2, g2, nf2, l2⟩ | ⟨X2, M2, a1, a2, z⟩
  · have d2 := d1.nf nf2
    have hn : nmR (nI (pkN 32 w)) (nI (pkN 27 w)) (nI w.length) := ⟨w, w1, w2, w3, rfl, rfl, rfl⟩
    obtain ⟨X3, -, y1, -⟩ := grower_ (d2.at rfl (g2.m2 r2)) hlt hn
    rw [a1, bn2_s, if_neg (nI_ne0 (p32_0 w3 w1) (by have := p32_4 w3 w2; omega)), y1, bn1_s, a2 0]
    refine (lay_end b0 r2 g2 d2 fun N m1 m2 => ?_).mono (by omega)
    obtain ⟨X3', M3, z1, z2, z3, z4, z5, z6⟩ := grower_ (d2.at m1 m2) hlt hn
    obtain rfl : X3 = X3' := Option.some.inj (y1.symm.trans z1)
    exact ⟨M3, by rw [if_pos rfl, z2, bn1_s], z3, ⟨_, _, _, _, _, _, _, z3.b2 m2 z4⟩, fun i hi => by rw [z5]; exact d2.1 i hi, by rw [m2] at z6; exact z6⟩
  · rw [a1, bn2_s, if_pos rfl, a2]
    exact Or.inr ⟨X2, M2, rfl, rfl, z⟩
end ST2
