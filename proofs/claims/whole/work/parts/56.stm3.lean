/-! PURE: load, bottle, sell, pay, pump -/
section ST3
variable {X0 X : XT} {M0 M : MT} {n s e nc nv ng np nl nt nb : Nat}
set_option maxRecDepth 20000 in
theorem sr_load (b0 : BFn X0 M0 n) (r2 : M0.2.2 = 2) (h : GOK X0 M0 X M n s e) (hd : DR X M nc nv ng np nl nt nb) (hw : s < e) : SR X0 M0 n s (f_X8_readLoad X) (f_X12_readLoad M) := by
  have hbb := hd.2.2.b
  obtain ⟨X1, M1, s1, e1, t1, t2, g1, d1, l1, nf1⟩ := start_ b0 h hd hw
  unfold f_X8_readLoad f_X12_readLoad
  rw [t1, bn1_s, t2, bn1_s, g1.m2 r2, d1.2.2.c.2.2.2.1.1, d1.2.2.c.2.2.2.1.2]
  rcases g1.num b0 0 (hi := nI np - 1) (cnt_le (by omega)) with ⟨x, X2, M2, s2, e2, a1, a2, g2, nf2, l2, x1, x2⟩ | ⟨X2, M2, a1, a2, z⟩
  · obtain ⟨p, hp, rfl⟩ := cnt_in (by omega) x1 x2
    have d2 := d1.nf nf2
    rw [a1, bn2_s, if_neg (nI_m1 (by omega)), a2, bn2_s]
    rcases g2.num b0 1 (hi := 5000) (by decide) with ⟨x, X3, M3, s3, e3, a3, a4, g3, nf3, l3, x1, x2⟩ | ⟨X3, M3, a3, a4, z⟩
    · obtain ⟨w, hw1, hw2, rfl⟩ := nI_up1 (n := 5000) x1 x2 (by decide)
      have d3 := d2.nf nf3
      rw [a3, bn2_s, if_neg (nI_m1 (by omega)), a4, bn2_s]
      rcases g3.num b0 0 (hi := 250) (by decide) with ⟨x, X4, M4, s4, e4, a5, a6, g4, nf4, l4, x1, x2⟩ | ⟨X4, M4, a5, a6, z⟩
      · obtain ⟨u, hu, rfl⟩ := nI_up (n := 250) (lt_z x1) x2 (by decide)
        have d4 := d3.nf nf4
        have hm4 := g4.m2 r2
        rw [a5, bn2_s, if_neg (nI_m1 (by omega)), a6, bn2_s, g4.good, bn1_s, if_neg (by decide)]
        obtain ⟨k, k1, k2, -, k4⟩ := reason_ (d4.at rfl hm4) hp (nI w) (nI u)
        refine SR.mono (s2 := s4) ?_ (by omega)
        rw [k2, bn1_s]
        refine may_end b0 r2 g4 d4 (decide (k = 0)) (F := fun X5 => bn1 (f_X0_reasonAgainst X5 0 (nI p) (nI w) (nI u)) (fun r5 => if r5 = 0 then (bn2 (f_X0_accept X5 0 (nI p) (nI w) (nI u)) (fun r6 X6 => bn2 (f_X8_readSemicolon X6) (fun r7 X7 => gd (r7 &&& 1 = r7) (some (r7, X7))))) else (bn2 (f_X8_fail X5 6) (fun r8 X8 => gd (r8 &&& 1 = r8) (some (r8, X8)))))) (g := fun M5 => bn2 (f_X12_layLoad M5 (nI p) (nI w) (nI u)) (fun r6 M6 => some M6)) ?_ (fun hk => ?_) (fun hk => ?_)
        · by_cases c : k = 0
          · rw [if_pos c, if_pos (decide_eq_true c)]
          · rw [if_neg c, if_neg (by rw [decide_eq_false c]; decide)]
        · have c := of_decide_eq_false hk
          show bn1 (f_X0_reasonAgainst X4 0 (nI p) (nI w) (nI u)) _ = _
          rw [k1, bn1_s, if_neg c]
        · have c := of_decide_eq_true hk
          obtain ⟨hl, v', t, g, hv', ht, hg, y1, y2, t1', t2', g1', g2'⟩ := k4 c
          obtain ⟨r, X5, -, eX, -⟩ := accept_ (d4.at rfl hm4) hp hw1 hw2 hu hl hv' ht hg y1 y2 t1' t2' g1' g2'
          refine ⟨X5, ?_, fun N m1 m2 => ?_⟩
          · show bn1 (f_X0_reasonAgainst X4 0 (nI p) (nI w) (nI u)) _ = _
            rw [k1, bn1_s, if_pos c, eX, bn2_s]
          · obtain ⟨kk, kk1, kk2, -, kk4⟩ := reason_ (d4.at m1 m2) hp (nI w) (nI u)
            obtain rfl : kk = k := Option.some.inj (kk1.symm.trans k1)
            obtain ⟨hl, v', t, g, hv', ht, hg, y1, y2, t1', t2', g1', g2'⟩ := kk4 c
            obtain ⟨r', X5', M5, eX', eM, u', hb', bo, rz⟩ := accept_ (d4.at m1 m2) hp hw1 hw2 hu hl hv' ht hg y1 y2 t1' t2' g1' g2'
            obtain ⟨-, rfl⟩ := Prod.mk.inj (Option.some.inj (eX.symm.trans eX'))
            refine ⟨M5, by show bn2 (f_X12_layLoad N _ _ _) _ = _; rw [eM, bn2_s], u', ⟨_, _, _, _, _, _, _, u'.b2 m2 hb'⟩, fun i hi => ?_, by rw [m2] at rz; exact rz⟩
            rcases bo i hi with q | q
            · rw [q]; exact d4.1 i hi
            · exact Or.inl q
      · rw [a5, bn2_s, if_pos rfl, a6, bn2_s, good0 z.z, bn1_s, if_pos rfl, bd_tail z.z]
        exact Or.inr ⟨X4, M4, rfl, rfl, z⟩
    · rw [a3, bn2_s, if_pos rfl, a4, bn2_s, bd_num z.z, bn2_s, good0 z.z, bn1_s, if_pos rfl, bd_tail z.z]
      exact Or.inr ⟨X3, M3, rfl, rfl, z⟩
  · rw [a1, bn2_s, if_pos rfl, a2, bn2_s, bd_num z.z, bn2_s, bd_num z.z, bn2_s, good0 z.z, bn1_s, if_pos rfl, bd_tail z.z]
    exact Or.inr ⟨X2, M2, rfl, rfl, z⟩
set_option maxRecDepth 20000 in
theorem sr_bottle (b0 : BFn X0 M0 n) (r2 : M0.2.2 = 2) (h : GOK X0 M0 X M n s e) (hd : DR X M nc nv ng np nl nt nb) (hw : s < e) : SR X0 M0 n s (f_X8_readBottle X) (f_X12_readBottle M) := by
  have hbb := hd.2.2.b
  obtain ⟨X1, M1, s1, e1, t1, t2, g1, d1, l1, nf1⟩ := start_ b0 h hd hw
  unfold f_X8_readBottle f_X12_readBottle f_X12_takeTank
  rw [t1, bn1_s, t2, bn1_s, g1.m2 r2, d1.2.2.c.2.2.2.2.2.1.1, d1.2.2.c.2.2.2.2.2.1.2]
  rcases g1.num b0 0 (hi := nI nt - 1) (cnt_le (by omega)) with ⟨x, X2, M2, s2, e2, a1, a2, g2, nf2, l2, x1, x2⟩ | ⟨X2, M2, a1, a2, z⟩
  · obtain ⟨t, ht, rfl⟩ := cnt_in (by omega) x1 x2
    have d2 := d1.nf nf2
    rw [a1, bn2_s, if_neg (nI_pos (by omega)), if_pos (show nI t < 5 from nI_lt (b := 5) (by omega) (by decide)), a2, bn2_s, bn2_s]
    rcases g2.num b0 1 (hi := 20000) (by decide) with ⟨x, X3, M3, s3, e3, a3, a4, g3, nf3, l3, x1, x2⟩ | ⟨X3, M3, a3, a4, z⟩
    · obtain ⟨w, hw1, hw2, rfl⟩ := nI_up1 (n := 20000) x1 x2 (by decide)
      have d3 := d2.nf nf3
      have hm3 := g3.m2 r2
      have gt : ¬ (nI t < 0 ∨ 5 ≤ (nI t).toNatClampNeg) := nI_in (by omega) (by decide)
      obtain ⟨k, k1, k2, k3⟩ := mayB_ (d3.at rfl hm3) ht (nI w)
      rw [a3, bn2_s, if_neg (nI_m1 (by omega)), a4, bn2_s, g3.good, bn1_s, if_neg (by decide), k2, bn1_s]
      refine SR.mono (s2 := s3) ?_ (by omega)
      refine may_end b0 r2 g3 d3 (decide (k = 1)) (F := fun X4 => gd (¬ (nI t < 0 ∨ 5 ≤ (nI t).toNatClampNeg)) (bn1 (f_X2_canFillLot X4 0 0 ((nI t).toNatClampNeg) (nI w)) (fun r4 => if r4 = 0 then (bn2 (f_X8_fail X4 6) (fun r7 X7 => gd (r7 &&& 1 = r7) (some (r7, X7)))) else (bn2 (f_X2_fillLot X4 0 0 ((nI t).toNatClampNeg) (nI w)) (fun r5 X5 => bn2 (f_X8_readSemicolon X5) (fun r6 X6 => gd (r6 &&& 1 = r6) (some (r6, X6)))))))) (g := fun M4 => bn2 (f_X12_bottleNow M4 (nI t) (nI w)) (fun r5 M5 => some M5)) ?_ (fun hk => ?_) (fun hk => ?_)
      · rcases k3 with rfl | ⟨rfl, -⟩
        · rw [if_pos rfl, if_neg (by decide)]
        · rw [if_neg (by decide), if_pos (by decide)]
      · have c := of_decide_eq_false hk
        obtain rfl := k3.resolve_right (fun q => c q.1)
        show gd _ (bn1 (f_X2_canFillLot X3 0 0 ((nI t).toNatClampNeg) (nI w)) _) = _
        rw [gd_t gt, nI_clamp (by omega), k1, bn1_s, if_pos rfl]
      · have c := of_decide_eq_true hk
        subst c
        obtain ⟨-, hb12, co, q1, q2, q3⟩ := k3.resolve_left (by decide)
        rw [nI_ltI (by omega) (by omega)] at q3
        obtain ⟨X5, -, eX, -⟩ := fill_ (d3.at rfl hm3) ht hb12 q1 (by omega) hw1 (show w ≤ co by omega)
        refine ⟨X5, ?_, fun N m1 m2 => ?_⟩
        · show gd _ (bn1 (f_X2_canFillLot X3 0 0 ((nI t).toNatClampNeg) (nI w)) _) = _
          rw [gd_t gt, nI_clamp (by omega), k1, bn1_s, if_neg (by decide), eX, bn2_s]
        · obtain ⟨X5', M5, eX', eM, u', hb', bo, rz⟩ := fill_ (d3.at m1 m2) ht hb12 q1 (by omega) hw1 (show w ≤ co by omega)
          obtain ⟨-, rfl⟩ := Prod.mk.inj (Option.some.inj (eX.symm.trans eX'))
          exact ⟨M5, by show bn2 (f_X12_bottleNow N _ _) _ = _; rw [eM, bn2_s], u', ⟨_, _, _, _, _, _, _, u'.b2 m2 hb'⟩, fun i hi => by rw [bo]; exact d3.1 i hi, by rw [m2] at rz; exact rz⟩
    · rw [a3, bn2_s, if_pos rfl, a4, bn2_s, good0 z.z, bn1_s, if_pos rfl, bd_tail z.z]
      exact Or.inr ⟨X3, M3, rfl, rfl, z⟩
  · rw [a1, bn2_s, if_pos (by decide), a2, bn2_s, bn2_s, bd_num z.z, bn2_s, good0 z.z, bn1_s, if_pos rfl, bd_tail z.z]
    exact Or.inr ⟨X2, M2, rfl, rfl, z⟩
set_option maxRecDepth 20000 in
theorem sr_sell (b0 : BFn X0 M0 n) (r2 : M0.2.2 = 2) (h : GOK X0 M0 X M n s e) (hd : DR X M nc nv ng np nl nt nb) (hw : s < e) : SR X0 M0 n s (f_X8_readSell X) (f_X12_readSell M) := by
  have hbb := hd.2.2.b
  obtain ⟨X1, M1, s1, e1, t1, t2, g1, d1, l1, nf1⟩ := start_ b0 h hd hw
  unfold f_X8_readSell f_X12_readSell
  rw [t1, bn1_s, t2, bn1_s, g1.m2 r2, d1.2.2.c.2.2.2.2.2.2.1, d1.2.2.c.2.2.2.2.2.2.2]
  rcases g1.num b0 0 (hi := nI nb - 1) (cnt_le (by omega)) with ⟨x, X2, M2, s2, e2, a1, a2, g2, nf2, l2, x1, x2⟩ | ⟨X2, M2, a1, a2, z⟩
  · obtain ⟨a, ha, rfl⟩ := cnt_in (by omega) x1 x2
    have d2 := d1.nf nf2
    rw [a1, bn2_s, if_neg (nI_pos (by omega)), if_pos (show nI a < 12 from nI_lt (b := 12) (by omega) (by decide)), a2, bn2_s]
    rcases g2.num b0 1 (hi := 20000) (by decide) with ⟨x, X3, M3, s3, e3, a3, a4, g3, nf3, l3, x1, x2⟩ | ⟨X3, M3, a3, a4, z⟩
    · obtain ⟨w, hw1, hw2, rfl⟩ := nI_up1 (n := 20000) x1 x2 (by decide)
      have d3 := d2.nf nf3
      rw [a3, bn2_s, if_neg (nI_m1 (by omega)), a4, bn2_s]
      rcases g3.num b0 1 (hi := 9999) (by decide) with ⟨x, X4, M4, s4, e4, a5, a6, g4, nf4, l4, x1, x2⟩ | ⟨X4, M4, a5, a6, z⟩
      · obtain ⟨c, hc1, hc2, rfl⟩ := nI_up1 (n := 9999) x1 x2 (by decide)
        have d4 := d3.nf nf4
        have hm4 := g4.m2 r2
        have gt : ¬ (nI a < 0 ∨ 12 ≤ (nI a).toNatClampNeg) := nI_in (by omega) (by decide)
        obtain ⟨k, k1, k2, k3⟩ := trade_ (d4.at rfl hm4) ha hw2 hc2
        rw [a5, bn2_s, if_neg (nI_m1 (by omega)), a6, bn2_s, g4.good, bn1_s, if_neg (by decide), k2, bn1_s]
        refine SR.mono (s2 := s4) ?_ (by omega)
        refine may_end b0 r2 g4 d4 (decide (k = 1)) (F := fun X5 => gd (¬ (nI a < 0 ∨ 12 ≤ (nI a).toNatClampNeg)) (bn1 (f_X0_canTrade X5 0 0 ((nI a).toNatClampNeg) (nI w) (nI c)) (fun r5 => if r5 = 0 then (bn2 (f_X8_fail X5 6) (fun r7 X8 => gd (r7 &&& 1 = r7) (some (r7, X8)))) else (bn1 (f_X0_trade X5 0 0 ((nI a).toNatClampNeg) (nI w) (nI c)) (fun X6 => bn2 (f_X8_readSemicolon X6) (fun r6 X7 => gd (r6 &&& 1 = r6) (some (r6, X7)))))))) (g := fun M5 => bn2 (f_X12_sellNow M5 (nI a) (nI w) (nI c)) (fun r6 M6 => some M6)) ?_ (fun hk => ?_) (fun hk => ?_)
        · rcases k3 with rfl | ⟨rfl, -⟩
          · rw [if_pos rfl, if_neg (by decide)]
          · rw [if_neg (by decide), if_pos (by decide)]
        · have cc := of_decide_eq_false hk
          obtain rfl := k3.resolve_right (fun q => cc q.1)
          show gd _ (bn1 (f_X0_canTrade X4 0 0 ((nI a).toNatClampNeg) (nI w) (nI c)) _) = _
          rw [gd_t gt, nI_clamp (by omega), k1, bn1_s, if_pos rfl]
        · have cc := of_decide_eq_true hk
          subst cc
          obtain ⟨-, u, ca, q1, q2, q3, q4, q5⟩ := k3.resolve_left (by decide)
          obtain ⟨X5, -, eX, -⟩ := sell_ (d4.at rfl hm4) ha q1 q2 q3 q4 q5
          refine ⟨X5, ?_, fun N m1 m2 => ?_⟩
          · show gd _ (bn1 (f_X0_canTrade X4 0 0 ((nI a).toNatClampNeg) (nI w) (nI c)) _) = _
            rw [gd_t gt, nI_clamp (by omega), k1, bn1_s, if_neg (by decide), eX, bn1_s]
          · obtain ⟨X5', M5, eX', eM, u', hb', bo, rz⟩ := sell_ (d4.at m1 m2) ha q1 q2 q3 (ca := ca) (by rw [m2, m1]; rw [hm4] at q4; exact q4) q5
            obtain rfl := Option.some.inj (eX.symm.trans eX')
            exact ⟨M5, by show bn2 (f_X12_sellNow N _ _ _) _ = _; rw [eM, bn2_s], u', ⟨_, _, _, _, _, _, _, u'.b2 m2 hb'⟩, fun i hi => by rw [bo]; exact d4.1 i hi, by rw [m2] at rz; exact rz⟩
      · rw [a5, bn2_s, if_pos rfl, a6, bn2_s, good0 z.z, bn1_s, if_pos rfl, bd_tail z.z]
        exact Or.inr ⟨X4, M4, rfl, rfl, z⟩
    · rw [a3, bn2_s, if_pos rfl, a4, bn2_s, bd_num z.z, bn2_s, good0 z.z, bn1_s, if_pos rfl, bd_tail z.z]
      exact Or.inr ⟨X3, M3, rfl, rfl, z⟩
  · rw [a1, bn2_s, if_pos (by decide), a2, bn2_s, bd_num z.z, bn2_s, bd_num z.z, bn2_s, good0 z.z, bn1_s, if_pos rfl, bd_tail z.z]
    exact Or.inr ⟨X2, M2, rfl, rfl, z⟩
set_option maxRecDepth 20000 in
theorem sr_pay (b0 : BFn X0 M0 n) (r2 : M0.2.2 = 2) (h : GOK X0 M0 X M n s e) (hd : DR X M nc nv ng np nl nt nb) (hw : s < e) : SR X0 M0 n s (f_X8_readPay X) (f_X12_readPay M) := by
  have hbb := hd.2.2.b
  obtain ⟨X1, M1, s1, e1, t1, t2, g1, d1, l1, nf1⟩ := start_ b0 h hd hw
  unfold f_X8_readPay f_X12_readPay
  rw [t1, bn1_s, t2, bn1_s]
  rcases g1.grower b0 r2 d1 with ⟨a, X2, M2, s2, e2, a1, a2, g2, nf2, l2, ha⟩ | ⟨X2, M2, a1, a2, z⟩
  · have d2 := d1.nf nf2
    have hm3 := g2.m2 r2
    obtain ⟨k, k1, k2, k3⟩ := (d2.at rfl hm3).maySettle (nI a)
    rw [a1, bn2_s, if_neg (nI_m1 (by omega)), a2, bn2_s, g2.good, bn1_s, if_neg (by decide), k2, bn1_s]
    refine SR.mono (s2 := s2) ?_ (by omega)
    refine may_end b0 r2 g2 d2 (decide (k = 1)) (F := fun X3 => bn1 (f_X0_canSettleAll X3 0 (nI a)) (fun r3 => if r3 = 0 then (bn2 (f_X8_fail X3 6) (fun r6 X6 => gd (r6 &&& 1 = r6) (some (r6, X6)))) else (bn2 (f_X0_settleAll X3 0 (nI a)) (fun r4 X4 => bn2 (f_X8_readSemicolon X4) (fun r5 X5 => gd (r5 &&& 1 = r5) (some (r5, X5))))))) (g := fun M3 => bn2 (f_X12_payAllOf M3 (nI a)) (fun r4 M4 => some M4)) ?_ (fun hk => ?_) (fun hk => ?_)
    · rcases k3 with rfl | ⟨rfl, -⟩
      · rw [if_pos rfl, if_neg (by decide)]
      · rw [if_neg (by decide), if_pos (by decide)]
    · have cc := of_decide_eq_false hk
      obtain rfl := k3.resolve_right (fun q => cc q.1)
      show bn1 (f_X0_canSettleAll X2 0 (nI a)) _ = _
      rw [k1, bn1_s, if_pos rfl]
    · have cc := of_decide_eq_true hk
      subst cc
      obtain ⟨-, hlt⟩ := k3.resolve_left (by decide)
      obtain ⟨ca, hca, hca1⟩ := (d2.at rfl hm3).m.2.2.2.1
      obtain ⟨o1, -⟩ := (d2.at rfl hm3).open_ (nI a)
      have hS : unS X2 0 (nI a) nl 0 ≤ ca := by
        rw [hca1, nI_ltI (by omega) (by omega)] at hlt
        omega
      obtain ⟨r, X5, -, eX, -⟩ := p_pay (j := 0) (nI a) nl 0 2000 X2 M2 0 (d2.at rfl hm3) (by omega) (by omega) ⟨ca, hca1, by omega, hS⟩
      have eX' : f_X0_settleAll X2 0 (nI a) = some (r, X5) := eX
      refine ⟨X5, ?_, fun N m1 m2 => ?_⟩
      · show bn1 (f_X0_canSettleAll X2 0 (nI a)) _ = _
        rw [k1, bn1_s, if_neg (by decide), eX', bn2_s]
      · obtain ⟨r', X5', M5, eX'', eM, u', hb', bo, rz⟩ := p_pay (j := 0) (nI a) nl 0 2000 X2 N 0 (d2.at m1 m2) (by omega) (by omega) ⟨ca, by rw [m2, m1]; rw [hm3] at hca1; exact hca1, by omega, hS⟩
        obtain ⟨-, rfl⟩ := Prod.mk.inj (Option.some.inj (eX.symm.trans eX''))
        have eM' : f_X12_payAllOf N (nI a) = some (r', M5) := eM
        refine ⟨M5, by show bn2 (f_X12_payAllOf N _) _ = _; rw [eM', bn2_s], u', ⟨_, _, _, _, _, _, _, u'.b2 m2 hb'⟩, fun i hi => ?_, by rw [m2] at rz; exact rz⟩
        rcases bo i with q | q
        · rw [q]; exact d2.1 i hi
        · exact Or.inr q
  · rw [a1, bn2_s, if_pos rfl, a2, bn2_s, good0 z.z, bn1_s, if_pos rfl, bd_tail z.z]
    exact Or.inr ⟨X2, M2, rfl, rfl, z⟩
set_option maxRecDepth 20000 in
theorem sr_pump (b0 : BFn X0 M0 n) (r2 : M0.2.2 = 2) (h : GOK X0 M0 X M n s e) (hd : DR X M nc nv ng np nl nt nb) (hw : s < e) : SR X0 M0 n s (f_X8_readPump X) (f_X12_readPump M) := by
  have hbb := hd.2.2.b
  obtain ⟨X1, M1, s1, e1, t1, t2, g1, d1, l1, nf1⟩ := start_ b0 h hd hw
  unfold f_X8_readPump f_X12_readPump f_X12_takeTank
  rw [t1, bn1_s, t2, bn1_s, g1.m2 r2, d1.2.2.c.2.2.2.2.2.1.1, d1.2.2.c.2.2.2.2.2.1.2]
  rcases g1.num b0 0 (hi := nI nt - 1) (cnt_le (by omega)) with ⟨x, X2, M2, s2, e2, a1, a2, g2, nf2, l2, x1, x2⟩ | ⟨X2, M2, a1, a2, z⟩
  · obtain ⟨t, ht, rfl⟩ := cnt_in (by omega) x1 x2
    have d2 := d1.nf nf2
    rw [a1, bn2_s, if_neg (nI_pos (by omega)), if_pos (show nI t < 5 from nI_lt (b := 5) (by omega) (by decide)), a2, bn2_s, bn2_s, g2.m2 r2, d2.2.2.c.2.2.2.2.2.1.1, d2.2.2.c.2.2.2.2.2.1.2]
    rcases g2.look b0 0 (hi := nI nt - 1) (cnt_le (by omega)) with ⟨x, b1, b2, b3, x1, x2, b6, bk⟩ | ⟨X3, M3, b1, b2, z⟩
    · obtain ⟨u, hu, rfl⟩ := cnt_in (by omega) x1 x2
      rw [if_pos bk, b2, bn2_s, b3]
      by_cases c : nI u = nI t
      · obtain ⟨X3, M3, f1, f2, f3⟩ := g2.fail (c := 3) (by decide)
        rw [if_pos c, if_pos c, f1, bn2_s, gd_t (by decide), g2.req1, f2, bn1_s, good0 f3.z, bn1_s, if_pos rfl, bn1_s, if_pos rfl, bd_tail f3.z]
        exact Or.inr ⟨X3, M3, rfl, rfl, f3⟩
      · obtain ⟨X3, M3, s3, e3, w1, w2, g3, nf3, l3⟩ := g2.next b0
        have d3 := d2.nf nf3
        have hm3 := g3.m2 r2
        have rn : f_X8_readNumber X2 0 (nI nt - 1) = some (nI u, X3) := by
          unfold f_X8_readNumber
          rw [b1, bn2_s, if_neg (by decide), w1, bn1_s, b3]
        have gt : ¬ (nI t < 0 ∨ 5 ≤ (nI t).toNatClampNeg) := nI_in (by omega) (by decide)
        have gu : ¬ (nI u < 0 ∨ 5 ≤ (nI u).toNatClampNeg) := nI_in (by omega) (by decide)
        obtain ⟨k, k1, k2, k3⟩ := mayP_ (d3.at rfl hm3) ht hu
        rw [if_neg c, if_neg c, rn, bn2_s, if_neg (nI_pos (by omega)), if_neg (show ¬ (5 : Int32) ≤ nI u from nI_ge (b := 5) (by omega) (by decide)), req0, bn1_s, g2.good, bn1_s, if_neg (by decide), w2, bn1_s, g3.good, bn1_s, if_neg (by decide), k2, bn1_s]
        refine SR.mono (s2 := s3) ?_ (by omega)
        refine may_end b0 r2 g3 d3 (decide (k = 1)) (F := fun X5 => gd (¬ (nI t < 0 ∨ 5 ≤ (nI t).toNatClampNeg)) (gd (¬ (nI u < 0 ∨ 5 ≤ (nI u).toNatClampNeg)) (bn1 (f_X9_canMoveTo X5 0 ((nI t).toNatClampNeg) 0 ((nI u).toNatClampNeg)) (fun r5 => if r5 = 0 then (bn2 (f_X8_fail X5 6) (fun r7 X8 => gd (r7 &&& 1 = r7) (some (r7, X8)))) else (gd (¬ (nI t < 0 ∨ 5 ≤ (nI t).toNatClampNeg)) (gd (¬ (nI u < 0 ∨ 5 ≤ (nI u).toNatClampNeg)) (bn1 (f_X9_moveTo X5 0 ((nI t).toNatClampNeg) 0 ((nI u).toNatClampNeg)) (fun X6 => bn2 (f_X8_readSemicolon X6) (fun r6 X7 => gd (r6 &&& 1 = r6) (some (r6, X7)))))))))) ) (g := fun M5 => bn2 (f_X12_pumpNow M5 (nI t) (nI u)) (fun r6 M6 => some M6)) ?_ (fun hk => ?_) (fun hk => ?_)
        · rcases k3 with rfl | ⟨rfl, -⟩
          · rw [if_pos rfl, if_neg (by decide)]
          · rw [if_neg (by decide), if_pos (by decide)]
        · have cc := of_decide_eq_false hk
          obtain rfl := k3.resolve_right (fun q => cc q.1)
          show gd _ (gd _ (bn1 (f_X9_canMoveTo X3 0 ((nI t).toNatClampNeg) 0 ((nI u).toNatClampNeg)) _)) = _
          rw [gd_t gt, gd_t gu, nI_clamp (by omega), nI_clamp (by omega), k1, bn1_s, if_pos rfl]
        · have cc := of_decide_eq_true hk
          subst cc
          obtain ⟨-, c1, c2, ca2, q1, q2, q3, q4, q5, q6, q7, q8⟩ := k3.resolve_left (by decide)
          have hne : t ≠ u := fun q => c (by rw [q])
          obtain ⟨X5, -, eX, -⟩ := pump_ (d3.at rfl hm3) ht hu hne q1 (by omega) q3 q4 (by omega) q6 (by omega) q8
          refine ⟨X5, ?_, fun N m1 m2 => ?_⟩
          · show gd _ (gd _ (bn1 (f_X9_canMoveTo X3 0 ((nI t).toNatClampNeg) 0 ((nI u).toNatClampNeg)) _)) = _
            rw [gd_t gt, gd_t gu, nI_clamp (by omega), nI_clamp (by omega), k1, bn1_s, if_neg (by decide)]
            have gt' : ¬ (nI t < 0 ∨ 5 ≤ t) := fun q => q.elim (nI_pos (by omega)) (by omega)
            have gu' : ¬ (nI u < 0 ∨ 5 ≤ u) := fun q => q.elim (nI_pos (by omega)) (by omega)
            rw [gd_t gt', gd_t gu', eX, bn1_s]
          · obtain ⟨X5', M5, eX', eM, u', hb', bo, rz⟩ := pump_ (d3.at m1 m2) ht hu hne q1 (by omega) q3 q4 (by omega) q6 (by omega) q8
            obtain rfl := Option.some.inj (eX.symm.trans eX')
            exact ⟨M5, by show bn2 (f_X12_pumpNow N _ _) _ = _; rw [eM, bn2_s], u', ⟨_, _, _, _, _, _, _, u'.b2 m2 hb'⟩, fun i hi => by rw [bo]; exact d3.1 i hi, by rw [m2] at rz; exact rz⟩
    · have hno : ¬ (X2 2 0 0 2 = 3 ∧ X2 2 0 0 5 = nI t) := by
        rintro ⟨k1, k2⟩
        unfold f_X8_isNumberHere at b1
        rw [if_pos k1, k2, if_neg x1, if_pos x2] at b1
        exact absurd (show (some (1 : Int32)) = some 0 from congrArg (Option.map Prod.fst) b1) (by decide)
      have rn : f_X8_readNumber X2 0 (nI nt - 1) = some (-1, X3) := by
        unfold f_X8_readNumber
        rw [b1, bn2_s, if_pos rfl]
      have hin : ∀ (A B : Option (Int32 × XT)), (if X2 2 0 0 2 = 3 then (if X2 2 0 0 5 = nI t then A else B) else B) = B := by
        intro A B
        by_cases k1 : X2 2 0 0 2 = 3
        · rw [if_pos k1, if_neg (fun k2 => hno ⟨k1, k2⟩)]
        · rw [if_neg k1]
      rw [hin, rn, bn2_s, if_pos (by decide), b2, bn2_s]
      refine Or.inr ⟨X3, M3, rfl, ?_, z⟩
      by_cases c : (0 : Int32) = nI t
      · rw [if_pos c, bd_req z.z, bn1_s, good0 z.z, bn1_s, if_pos rfl, bn1_s, if_pos rfl, bd_tail z.z]
      · rw [if_neg c, bd_req z.z, bn1_s, good0 z.z, bn1_s, if_pos rfl, bn1_s, if_pos rfl, bd_tail z.z]
  · rw [a1, bn2_s, if_pos (by decide), a2, bn2_s, bn2_s, bd_look z.z, bn2_s]
    refine Or.inr ⟨X2, M2, rfl, ?_, z⟩
    rw [if_pos rfl, bd_req z.z, bn1_s, good0 z.z, bn1_s, if_pos rfl, bn1_s, if_pos rfl, bd_tail z.z]
end ST3
