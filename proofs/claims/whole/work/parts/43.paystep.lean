/-! PURE: sell, payLoad, payGrower as steps -/
section PAYS
variable {X : XT} {M : MT}
set_option maxRecDepth 20000 in
/-- the state after 'thrown = 0', note and remember -/
theorem aft_ {nc nv ng np nl nt nb : Nat} (h : RR X M) (hb : BRn X 1 (M.1 M.2.2) nc nv ng np nl nt nb) : ∃ X1 M1, f_X4_note X 1 = some X1 ∧ f_X12_remember (mi M 0 0 0) = some M1 ∧ RR X1 M1 ∧ BRn X1 1 (M.1 M.2.2) nc nv ng np nl nt nb ∧ BRn X1 1 (M1.1 M1.2.2) nc nv ng np nl nt nb ∧ M1.1 M1.2.2 = M.1 M.2.2 ∧ (∀ k i f, inB k i f → X1 k 1 i f = X k 1 i f) ∧ M1.1 0 0 = 0 := by
  obtain ⟨X1, M1, f1, g1, R1, eb, -, em1, -, em0, -⟩ := note_ (h.thr 0)
  have em1' : M1.1 M1.2.2 = M.1 M.2.2 := by rw [R1.1, em1, h.1, mi_ne (by decide)]
  refine ⟨X1, M1, f1, g1, R1, hb.eq eb, by rw [em1']; exact hb.eq eb, em1', eb, ?_⟩
  rw [em0]
  simp [mi]
set_option maxRecDepth 20000 in
/-- the end of an update that noted and wrote -/
theorem RR.fin {X X1 X' : XT} {M1 M' : MT} {nc nv ng np nl nt nb : Nat} (R1 : RR X1 M1) (u : UB X1 M1 1 X' M') (hb : BRn X' 1 (M'.1 M'.2.2) nc nv ng np nl nt nb) (bo : ∀ i, i < 20 → X' 22 1 i 7 = X1 22 1 i 7 ∨ X' 22 1 i 7 = 0 ∨ X' 22 1 i 7 = 1) (z : M1.1 0 0 = 0) : RR X' M' ∧ M'.1 0 0 = 0 := by
  refine ⟨R1.upd u ⟨nc, nv, ng, np, nl, nt, nb, ?_⟩ fun i hi => ?_, ?_⟩
  · rw [u.2.2, R1.1] at hb
    exact hb
  · rcases bo i hi with q | q
    · rw [q]; exact R1.2.1 1 (by decide) i hi
    · exact q
  · rw [u.2.1 0 (by rw [R1.1]; decide), z]
set_option maxRecDepth 20000 in
theorem tradeOf_ {j nc nv ng np nl nt nb : Nat} (hb : BRn X j (M.1 M.2.2) nc nv ng np nl nt nb) {a : Nat} (ha : a < nb) (v w : Int32) : ∃ r : Int32, f_X12_maySell M (nI a) v w = some r ∧ (r = 0 ∨ r = 1) := by
  have hbb := hb.b
  obtain ⟨v', s, m, u, hv, hs, hm, hum, -, ⟨-, -, -, r3⟩⟩ := hb.of_ ha
  unfold f_X12_maySell
  rw [r3, bn1_s]
  split
  · exact ⟨0, rfl, Or.inl rfl⟩
  · split
    · exact ⟨0, rfl, Or.inl rfl⟩
    · exact ⟨1, rfl, Or.inr rfl⟩
set_option maxRecDepth 20000 in
theorem trade_ {j nc nv ng np nl nt nb : Nat} (hb : BRn X j (M.1 M.2.2) nc nv ng np nl nt nb) {a w c : Nat} (ha : a < nb) (hw : w ≤ 20000) (hc : c ≤ 9999) : ∃ r : Int32, f_X0_canTrade X j j a (nI w) (nI c) = some r ∧ f_X12_maySell M (nI a) (nI w) (nI c) = some r ∧ (r = 0 ∨ (r = 1 ∧ ∃ u ca, X 27 j a 3 = nI u ∧ u < 2 ^ 31 ∧ w ≤ u ∧ M.1 M.2.2 2 = nI ca ∧ ca + w * c ≤ 1000000000)) := by
  have hbb := hb.b
  obtain ⟨v', s, m, u, hv, hs, hm, hum, ⟨-, -, -, x3⟩, ⟨-, -, -, r3⟩⟩ := hb.of_ ha
  obtain ⟨ca, hca, hca1⟩ := hb.m.2.2.2.1
  have hwc : w * c ≤ 199980000 := Nat.le_trans (Nat.mul_le_mul hw hc) (by decide)
  have mc : X 10 j 0 6 = nI ca := hb.m.2.2.1.trans hca1
  unfold f_X0_canTrade f_X12_maySell
  rw [r3, bn1_s, x3, mc, hca1, pk_mul, show (1000000000 : Int32) - nI ca = nI (1000000000 - ca) from pk_sub (a := 1000000000) (b := ca) (by omega)]
  have key : (0 < lg_cmp ((nI ca).toInt64 + (nI w).toInt64 * (nI c).toInt64) 1000000000) ↔ nI (1000000000 - ca) < nI (w * c) := by
    rw [lg_cmp_gt, nI_ltI (by omega) (by omega), Int64.lt_iff_toInt_lt]
    have e1 : (nI w).toInt64.toInt = (w : Int) := by rw [Int32.toInt_toInt64, nI_toInt (by omega)]
    have e2 : (nI c).toInt64.toInt = (c : Int) := by rw [Int32.toInt_toInt64, nI_toInt (by omega)]
    have e3 : (nI ca).toInt64.toInt = (ca : Int) := by rw [Int32.toInt_toInt64, nI_toInt (by omega)]
    have em : ((w : Int) * (c : Int)) = ((w * c : Nat) : Int) := (Int.natCast_mul w c).symm
    have e4 : ((nI w).toInt64 * (nI c).toInt64).toInt = ((w * c : Nat) : Int) := by
      rw [Jvm.Kit.i64_mul (by rw [e1, e2, em]; omega) (by rw [e1, e2, em]; omega), e1, e2, em]
    rw [Jvm.Kit.i64_add (by rw [e3, e4]; omega) (by rw [e3, e4]; omega), e3, e4]
    have : (1000000000 : Int64).toInt = 1000000000 := by decide
    rw [this]
    omega
  by_cases c1 : nI u < nI w
  · rw [if_pos c1, if_pos c1]
    exact ⟨0, rfl, rfl, Or.inl rfl⟩
  · rw [if_neg c1, if_neg c1]
    by_cases c2 : nI (1000000000 - ca) < nI (w * c)
    · rw [if_pos c2, if_pos (key.mpr c2)]
      exact ⟨0, rfl, rfl, Or.inl rfl⟩
    · rw [if_neg c2, if_neg (fun q => c2 (key.mp q))]
      rw [nI_ltI (by omega) (by omega)] at c1 c2
      exact ⟨1, rfl, rfl, Or.inr ⟨rfl, u, ca, rfl, by omega, by omega, rfl, by omega⟩⟩
set_option maxRecDepth 20000 in
theorem u_sell (h : RR X M) (v w c : Int32) : UR (f_X11_sell X v w c) (t_X11_sell X v w c) (f_X12_sell M v w c) M [(2, 1), (1, 2), (0, 3)] := by
  obtain ⟨nc, nv, ng, np, nl, nt, nb, hq, hb⟩ := h.q
  have hbb := hb.b
  unfold f_X11_sell t_X11_sell f_X12_sell
  have hp : (¬ c < 1 ∧ c ≤ 9999 ∧ f_X12_in c.toInt64 1 9999 = some 1) ∨ ((c < 1 ∨ ¬ c ≤ 9999) ∧ f_X12_in c.toInt64 1 9999 = some 0) := by
    rcases lt_or c 1 9999 with ⟨c1, c2⟩ | c'
    · exact Or.inl ⟨c1, c2, in_1 (lo := 1) (hi := 9999) (Int32.not_lt.mp c1) c2⟩
    · exact Or.inr ⟨c', in_0 (lo := 1) (hi := 9999) (c'.imp id fun q => Int32.not_le.mp q)⟩
  rcases rg v (n := nb) (by omega) with ⟨a, ha, rfl⟩ | hv
  · rw [m_lot_1 hb h.1 ha, bn1_s (a := (1 : Int32))]
    rcases lt_or w 1 20000 with ⟨w1, w2⟩ | w'
    · rw [i_bottles_1 w1 w2, bn1_s (a := (1 : Int32)), if_neg (show ¬ (1 : Int32) = 0 by decide)]
      rcases hp with ⟨c1, c2, hp⟩ | ⟨c', hp⟩
      · rw [hp, bn1_s (a := (1 : Int32)), if_neg (show ¬ (1 : Int32) = 0 by decide), if_neg (show ¬ (1 : Int32) = 0 by decide)]
        obtain ⟨wn, hw1, hw2, rfl⟩ := nI_up1 (n := 20000) w1 w2 (by decide)
        obtain ⟨cn, hc1, hc2, rfl⟩ := nI_up1 (n := 9999) c1 c2 (by decide)
        obtain ⟨r, e1, e2, e3⟩ := trade_ hb ha hw2 hc2
        rw [e2, bn1_s (a := r)]
        rcases e3 with rfl | ⟨rfl, u, ca, q1, q2, q3, q4, q5⟩
        · refine Or.inr ⟨0, 3, 0, List.mem_cons_of_mem _ (List.mem_cons_of_mem _ List.mem_cons_self), ?_, ?_⟩
          · rw [(n_lot_1 hb ha).2, orE_n, (n_lot_1 hb ha).1, bn1_s, gd_t (by omega), (n_bottles_1 w1 w2).2, orE_n, (n_bottles_1 w1 w2).1, bn1_s, if_neg c1, if_pos c2, e1, bn1_s, if_pos rfl]
          · rw [if_pos rfl, ps3_110 (by decide) (by decide), bn2_s, if_pos rfl]
        · obtain ⟨X1, M1, f1, g1, R1, hb1, hb2, em, eb, z⟩ := aft_ h hb
          obtain ⟨X', M', x1, x2, u', hb3, e7, -⟩ := sell_ hb2 ha (u := u) (w := wn) (c := cn) (ca := ca) (by rw [eb 27 a 3 (by show _ ∧ _; omega)]; exact q1) q2 q3 (by rw [em]; exact q4) q5
          obtain ⟨r1, r2⟩ := R1.fin (X := X) u' hb3 (fun i _ => Or.inl (e7 i)) z
          refine Or.inl ⟨X' 10 1 0 6, X', M', ?_, ?_, r1, r2⟩
          · rw [(n_lot_1 hb ha).1, bn1_s, gd_t (by omega), (n_bottles_1 w1 w2).1, bn1_s, if_neg c1, if_pos c2, e1, bn1_s, if_neg (by decide), f1, bn1_s, x1, bn1_s]
          · rw [if_neg (by decide), ps3_111 (by decide) (by decide) (by decide), bn2_s, if_neg (by decide), g1, bn1_s, x2, bn2_s]
      · rw [hp, bn1_s (a := (0 : Int32)), if_pos rfl, if_neg (show ¬ (1 : Int32) = 0 by decide)]
        obtain ⟨r, e2, e3⟩ := tradeOf_ hb ha w c
        refine Or.inr ⟨1, 2, 0, List.mem_cons_of_mem _ List.mem_cons_self, ?_, ?_⟩
        · rw [(n_lot_1 hb ha).2, orE_n, (n_lot_1 hb ha).1, bn1_s, gd_t (by omega), (n_bottles_1 w1 w2).2, orE_n, (n_bottles_1 w1 w2).1, bn1_s]
          by_cases q : c < 1
          · rw [if_pos q]
          · rw [if_neg q, if_neg (c'.resolve_left q)]
        · rw [e2, bn1_s]
          rcases e3 with rfl | rfl
          · rw [if_pos rfl, ps3_10 (by decide), bn2_s, if_pos rfl]
          · rw [if_neg (by decide), ps3_10 (by decide), bn2_s, if_pos rfl]
    · rw [i_bottles_0 w', bn1_s (a := (0 : Int32)), if_pos rfl, if_neg (show ¬ (1 : Int32) = 0 by decide)]
      obtain ⟨r, e2, e3⟩ := tradeOf_ hb ha w c
      refine Or.inr ⟨1, 2, 0, List.mem_cons_of_mem _ List.mem_cons_self, ?_, ?_⟩
      · rw [(n_lot_1 hb ha).2, orE_n, (n_lot_1 hb ha).1, bn1_s, gd_t (by omega), (n_bottles_0 w').2, orE_s]
      · rw [e2, bn1_s]
        rcases e3 with rfl | rfl
        · rw [if_pos rfl, ps3_10 (by decide), bn2_s, if_pos rfl]
        · rw [if_neg (by decide), ps3_10 (by decide), bn2_s, if_pos rfl]
  · refine Or.inr ⟨2, 1, 0, List.mem_cons_self, ?_, ?_⟩
    · rw [(n_lot_0 hb hv).2, orE_s]
    · rw [m_lot_0 hb h.1 hv, bn1_s (a := (0 : Int32))]
      rcases lt_or w 1 20000 with ⟨w1, w2⟩ | w'
      · rw [i_bottles_1 w1 w2, bn1_s (a := (1 : Int32)), if_neg (show ¬ (1 : Int32) = 0 by decide)]
        rcases hp with ⟨-, -, hp⟩ | ⟨-, hp⟩
        · rw [hp, bn1_s (a := (1 : Int32)), if_neg (by decide), if_pos rfl, ps3_0, bn2_s, if_pos rfl]
        · rw [hp, bn1_s (a := (0 : Int32)), if_pos rfl, if_pos rfl, ps3_0, bn2_s, if_pos rfl]
      · rw [i_bottles_0 w', bn1_s (a := (0 : Int32)), if_pos rfl, if_pos rfl, ps3_0, bn2_s, if_pos rfl]
set_option maxRecDepth 20000 in
theorem u_payLoad (h : RR X M) (v : Int32) : UR (f_X11_payLoad X v) (t_X11_payLoad X v) (f_X12_payLoad M v) M [(2, 1), (0, 2)] := by
  obtain ⟨nc, nv, ng, np, nl, nt, nb, hq, hb⟩ := h.q
  have hbb := hb.b
  unfold f_X11_payLoad t_X11_payLoad f_X12_payLoad
  have h11 : M.1 1 2 = M.1 M.2.2 2 := by rw [h.1]
  rcases rg v (n := nl) (by omega) with ⟨a, ha, rfl⟩ | hv
  · rw [m_load_1 hb h.1 ha, bn1_s (a := (1 : Int32)), if_neg (show ¬ (1 : Int32) = 0 by decide), h11]
    obtain ⟨hva, hpaid⟩ := hb.va ha
    rcases hpaid with ⟨a1, a2, a3, a4, a5, -⟩ | ⟨a1, a2, q, hq, a3, a4, -⟩
    · rw [a2, bn1_s (a := (1 : Int32)), if_neg (show ¬ (1 : Int32) = 0 by decide), a3, bn1_s (a := nI (vaL X 1 a))]
      obtain ⟨ca, hca, hca1⟩ := hb.m.2.2.2.1
      have mc : X 10 1 0 6 = nI ca := hb.m.2.2.1.trans hca1
      rw [hca1]
      by_cases c : nI ca < nI (vaL X 1 a)
      · rw [if_pos c]
        refine Or.inr ⟨0, 2, 0, List.mem_cons_of_mem _ List.mem_cons_self, ?_, ?_⟩
        · rw [(n_load_1 hb ha).2, orE_n, (n_load_1 hb ha).1, bn1_s, gd_t (by omega), a4, bn1_s, if_pos a1, mc, if_neg (Int32.not_le.mpr c)]
        · rw [ps2_10, bn2_s, if_pos rfl]
      · rw [if_neg c]
        have hle : vaL X 1 a ≤ ca := by rw [nI_ltI (by omega) (by omega)] at c; omega
        obtain ⟨X1, M1, f1, g1, R1, hb1, hb2, em, eb, z⟩ := aft_ h hb
        have hopen : X1 22 1 a 7 = 0 := by rw [eb 22 a 7 (by show _ ∧ _; omega)]; exact a1
        have hval : f_X12_valueNow M1 (nI a) = some (nI (vaL X 1 a)) := by
          have k1 : vaL X1 1 a = vaL X 1 a := by
            rcases (hb1.va ha).2 with ⟨d1, d2, d3, -⟩ | ⟨d1, -⟩
            · have := d3.symm.trans a3
              exact (nI_eq (by have := (hb1.va ha).1; omega) (by omega)).mp (Option.some.inj this)
            · exact absurd (d1.symm.trans hopen) (by decide)
          rcases (hb2.va ha).2 with ⟨d1, d2, d3, -⟩ | ⟨d1, -⟩
          · rw [d3, k1]
          · exact absurd (d1.symm.trans hopen) (by decide)
        obtain ⟨X', M', x1, x2, u', hb3, -, y7, y8, -⟩ := pay_ hb2 ha hopen hval hva (by rw [em]; exact hca1) (by omega) hle
        obtain ⟨r1, r2⟩ := R1.fin (X := X) u' hb3 (fun i _ => by
          by_cases d : i = a
          · subst d; exact Or.inr (Or.inr y7)
          · exact Or.inl (y8 i 7 d)) z
        refine Or.inl ⟨nI (vaL X 1 a), X', M', ?_, ?_, r1, r2⟩
        · rw [(n_load_1 hb ha).1, bn1_s, gd_t (by omega), a4, bn1_s, if_pos a1, mc, if_pos (nI_le hle (by omega)), f1, bn1_s, x1, bn2_s]
        · rw [ps2_11, bn2_s, if_neg (by decide), g1, bn1_s, x2, bn2_s]
    · rw [a2, bn1_s (a := (0 : Int32)), if_pos rfl]
      refine Or.inr ⟨0, 2, 0, List.mem_cons_of_mem _ List.mem_cons_self, ?_, ?_⟩
      · rw [(n_load_1 hb ha).2, orE_n, (n_load_1 hb ha).1, bn1_s, gd_t (by omega), a4, bn1_s, if_neg (by rw [a1]; decide)]
      · rw [ps2_10, bn2_s, if_pos rfl]
  · refine Or.inr ⟨2, 1, 0, List.mem_cons_self, ?_, ?_⟩
    · rw [(n_load_0 hb hv).2, orE_s]
    · rw [m_load_0 hb h.1 hv, bn1_s (a := (0 : Int32)), if_pos rfl, ps2_0, bn2_s, if_pos rfl]
end PAYS
section PAYALL
variable {nc nv ng np nl nt nb : Nat}
set_option maxRecDepth 20000 in
theorem p_pay {j : Nat} (v : Int32) : ∀ d k f (X : XT) (M : MT) (a : Int32), BRn X j (M.1 M.2.2) nc nv ng np nl nt nb → k + d = nl → d < f → (∃ ca, M.1 M.2.2 2 = nI ca ∧ ca < 2 ^ 31 ∧ unS X j v d k ≤ ca) → ∃ r X' M', f_X0_settleAll_4 j v f X a (nI k) = some (r, X') ∧ f_X12_payAllOf_4 v f M a (nI k) = some (r, M') ∧ UB X M j X' M' ∧ BRn X' j (M'.1 M'.2.2) nc nv ng np nl nt nb ∧ (∀ i, X' 22 j i 7 = X 22 j i 7 ∨ X' 22 j i 7 = 1) ∧ M'.1 M.2.2 0 = M.1 M.2.2 0 := by
  intro d
  induction d with
  | zero =>
    intro k f X M a hb hk hf _
    have hbb := hb.b
    obtain ⟨f, rfl⟩ := fuel hf
    refine ⟨a, X, M, ?_, ?_, ub_no, hb, fun i => Or.inl rfl, rfl⟩
    · rw [f_X0_settleAll_4, hb.c.2.2.2.2.1.1, if_pos (nI_le (by omega) (by omega))]
    · rw [f_X12_payAllOf_4, hb.c.2.2.2.2.1.2, if_pos (nI_le (by omega) (by omega))]
  | succ d ih =>
    intro k f X M a hb hk hf hca
    have hbb := hb.b
    obtain ⟨f, rfl⟩ := fuel hf
    obtain ⟨ca, hca1, hca2, hca3⟩ := hca
    have hkn : k < nl := by omega
    obtain ⟨p, o, v', w, s, g, t, -, ⟨x0, x1, x2, x3, x4, x5, x6⟩, ⟨r0, r1, r2, r3, r4, rv, rg⟩, -⟩ := hb.lf hkn
    obtain ⟨hva, hpaid⟩ := hb.va hkn
    have hg : ¬ (nI k < 0 ∨ 20 ≤ (nI k).toNatClampNeg) := nI_in (by omega) (by decide)
    rw [f_X0_settleAll_4, hb.c.2.2.2.2.1.1, if_neg (nI_ge hkn (by omega)), gd_t hg, nI_clamp (by omega), f_X6_isUnpaidOf]
    rw [f_X12_payAllOf_4, hb.c.2.2.2.2.1.2, if_neg (nI_ge hkn (by omega)), rg, bn1_s, x1, nI_1]
    by_cases hv : nI o = v
    · rw [if_pos hv, if_pos hv]
      rcases hpaid with ⟨a1, a2, a3, a4, a5, a6, c, e1, e2⟩ | ⟨a1, a2, q, hq, a3, a4, a5, a6⟩
      · have eS : unS X j v (d + 1) k = vaL X j k + unS X j v d (k + 1) := by rw [unS, if_pos ⟨x1.trans hv, a1⟩]
        rw [eS] at hca3
        obtain ⟨X', M', y1, y2, u, hb', yc, y7, y8, y9, y14, y0⟩ := pay_ hb hkn a1 a3 hva hca1 hca2 (by omega)
        rw [if_pos a1, bn1_s, if_neg (by decide), a4, bn1_s, y1, bn2_s, bnd_s, a2, bn1_s, if_neg (by decide), y2, bn2_s, bnd_s]
        obtain ⟨r, X2, M2, z1, z2, z3, z4, z5, z0⟩ := ih (k + 1) f X' M' (a + nI (vaL X j k)) hb' (by omega) (by omega) ⟨ca - vaL X j k, yc, by omega, by rw [unS_eq v d (k + 1) (fun i f hi => y8 i f (by omega)) y14]; omega⟩
        refine ⟨r, X2, M2, z1, z2, u.tr z3, z4, fun i => ?_, by
          rw [show M'.2.2 = M.2.2 from congrArg (·.2) u.2.2] at z0
          exact z0.trans y0⟩
        rcases z5 i with q | q
        · by_cases ci : i = k
          · subst ci; exact Or.inr (q.trans y7)
          · exact Or.inl (q.trans (y8 i 7 ci))
        · exact Or.inr q
      · have eS : unS X j v (d + 1) k = unS X j v d (k + 1) := by rw [unS, if_neg (fun q => absurd (a1.symm.trans q.2) (by decide)), Nat.zero_add]
        rw [eS] at hca3
        rw [if_neg (show ¬ X 22 j k 7 = 0 from fun q => absurd (a1.symm.trans q) (by decide)), bn1_s, if_pos rfl, a2, bn1_s, if_pos rfl, bnd_s, Int32.add_zero]
        exact ih (k + 1) f X M a hb (by omega) (by omega) ⟨ca, hca1, hca2, hca3⟩
    · have eS : unS X j v (d + 1) k = unS X j v d (k + 1) := by rw [unS, if_neg (fun q => hv (x1.symm.trans q.1)), Nat.zero_add]
      rw [eS] at hca3
      rw [if_neg hv, bn1_s, if_pos rfl, if_neg hv, bnd_s, Int32.add_zero]
      exact ih (k + 1) f X M a hb (by omega) (by omega) ⟨ca, hca1, hca2, hca3⟩
set_option maxRecDepth 20000 in
theorem u_payGrower {X : XT} {M : MT} (h : RR X M) (v : Int32) : UR (f_X11_payGrower X v) (t_X11_payGrower X v) (f_X12_payGrower M v) M [(2, 1), (0, 2)] := by
  obtain ⟨nc, nv, ng, np, nl, nt, nb, hq, hb⟩ := h.q
  have hbb := hb.b
  unfold f_X11_payGrower t_X11_payGrower f_X12_payGrower
  rcases rg v (n := ng) (by omega) with ⟨a, ha, rfl⟩ | hv
  · rw [m_grower_1 hb h.1 ha, bn1_s (a := (1 : Int32)), if_neg (show ¬ (1 : Int32) = 0 by decide)]
    obtain ⟨r, e1, e2, e3⟩ := hb.maySettle (nI a)
    rw [e2, bn1_s (a := r)]
    rcases e3 with rfl | ⟨rfl, hlt⟩
    · rw [if_pos rfl]
      refine Or.inr ⟨0, 2, 0, List.mem_cons_of_mem _ List.mem_cons_self, ?_, ?_⟩
      · rw [(n_grower_1 hb ha).2, orE_n, (n_grower_1 hb ha).1, bn1_s, e1, bn1_s, if_pos rfl]
      · rw [ps2_10, bn2_s, if_pos rfl]
    · rw [if_neg (by decide)]
      obtain ⟨ca, hca, hca1⟩ := hb.m.2.2.2.1
      obtain ⟨X1, M1, f1, g1, R1, hb1, hb2, em, eb, z⟩ := aft_ h hb
      have hS : unS X1 1 (nI a) nl 0 ≤ ca := by
        obtain ⟨k1, k2, k3⟩ := hb.open_ (nI a)
        obtain ⟨d1, d2, d3⟩ := hb1.open_ (nI a)
        have : unS X1 1 (nI a) nl 0 = unS X 1 (nI a) nl 0 := (nI_eq (by omega) (by omega)).mp (Option.some.inj (d3.symm.trans k3))
        rw [this]
        rw [hca1, nI_ltI (by omega) (by omega)] at hlt
        omega
      obtain ⟨r, X', M', x1, x2, u, hb3, y7, -⟩ := p_pay (j := 1) (nI a) nl 0 2000 X1 M1 0 hb2 (by omega) (by omega) ⟨ca, by rw [em]; exact hca1, by omega, hS⟩
      obtain ⟨r1, r2⟩ := R1.fin (X := X) u hb3 (fun i _ => (y7 i).imp id Or.inr) z
      refine Or.inl ⟨r, X', M', ?_, ?_, r1, r2⟩
      · rw [(n_grower_1 hb ha).1, bn1_s, e1, bn1_s, if_neg (by decide), f1, bn1_s, f_X0_settleAll, show f_X0_settleAll_4 1 (nI a) 2000 X1 0 0 = some (r, X') from x1, bn2_s]
      · rw [ps2_11, bn2_s, if_neg (by decide), g1, bn1_s, f_X12_payAllOf, show f_X12_payAllOf_4 (nI a) 2000 M1 0 0 = some (r, M') from x2, bn2_s]
  · refine Or.inr ⟨2, 1, 0, List.mem_cons_self, ?_, ?_⟩
    · rw [(n_grower_0 hb hv).2, orE_s]
    · rw [m_grower_0 hb h.1 hv, bn1_s (a := (0 : Int32)), if_pos rfl, ps2_0, bn2_s, if_pos rfl]
end PAYALL
