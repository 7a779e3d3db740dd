/-! PURE: bottle, pump, append, truncate as steps -/
section PUMP
variable {X : XT} {j : Nat} {M : MT} {nc nv ng np nl nt nb : Nat}
set_option maxRecDepth 20000 in
theorem pump_ (h : BRn X j (M.1 M.2.2) nc nv ng np nl nt nb) {t1 t2 c1 c2 ca2 : Nat} (h1 : t1 < nt) (h2 : t2 < nt) (hne : t1 ≠ t2) (e1 : X 26 j t1 1 = nI c1) (hc1 : c1 < 2 ^ 31) (h0 : 0 < c1) (e2 : X 26 j t2 1 = nI c2) (hc2 : c2 < 2 ^ 31) (e3 : X 26 j t2 0 = nI ca2) (hca : ca2 < 2 ^ 31) (hroom : c2 + c1 ≤ ca2) : ∃ X' M', f_X9_moveTo X j t1 j t2 = some X' ∧ f_X12_pumpNow M (nI t1) (nI t2) = some (X' 26 j t2 1, M') ∧ UB X M j X' M' ∧ BRn X' j (M'.1 M'.2.2) nc nv ng np nl nt nb ∧ (∀ i, X' 22 j i 7 = X 22 j i 7) ∧ M'.1 M.2.2 0 = M.1 M.2.2 0 := by
  have hbb := h.b
  obtain ⟨ca, co, sg, hcc, hca20, hsg, ⟨x0, m0⟩, ⟨x1, m1⟩, x2, ⟨x3, m3⟩, hvar⟩ := h.t h1
  obtain ⟨cb, cp, sh, hcp, hcb, hsh, ⟨y0, n0⟩, ⟨y1, n1⟩, y2, ⟨y3, n3⟩, -⟩ := h.t h2
  obtain rfl : c1 = co := (nI_eq hc1 (by omega)).mp (e1.symm.trans x1)
  obtain rfl : c2 = cp := (nI_eq hc2 (by omega)).mp (e2.symm.trans y1)
  obtain rfl : ca2 = cb := (nI_eq hca (by omega)).mp (e3.symm.trans y0)
  obtain ⟨-, v, hv, hvm⟩ := hvar.resolve_left (fun q => by have := q.1; omega)
  clear hvar
  let Xa : XT := xs (xs (xs X 26 j t2 2 (nI v)) 26 j t2 1 (nI (c2 + c1))) 26 j t2 3 (nI (sh + sg))
  let X' : XT := xs (xs (xs Xa 26 j t1 1 0) 26 j t1 2 (-1)) 26 j t1 3 0
  let Ma : MT := mi (mi (mi M M.2.2 (iT t2 2) (nI v)) M.2.2 (iT t2 1) (nI (c2 + c1))) M.2.2 (iT t2 3) (nI (sh + sg))
  let M' : MT := mi (mi (mi Ma M.2.2 (iT t1 1) 0) M.2.2 (iT t1 2) (-1)) M.2.2 (iT t1 3) 0
  have xo : ∀ k j' i f, (k ≠ 26 ∨ (i ≠ t1 ∧ i ≠ t2) ∨ f = 0 ∨ j' ≠ j) → X' k j' i f = X k j' i f := by
    intro k j' i f q
    show xs _ _ _ _ _ _ k j' i f = _
    rw [xs_o (by omega), xs_o (by omega), xs_o (by omega)]
    show xs _ _ _ _ _ _ k j' i f = _
    rw [xs_o (by omega), xs_o (by omega), xs_o (by omega)]
  have xt2 : ∀ f, X' 26 j t2 f = Xa 26 j t2 f := by
    intro f
    show xs _ _ _ _ _ _ 26 j t2 f = _
    rw [xs_o (by omega), xs_o (by omega), xs_o (by omega)]
  have a1 : X' 26 j t2 1 = nI (c2 + c1) := by
    rw [xt2]
    show xs _ _ _ _ _ _ 26 j t2 1 = _
    rw [xs_o (by omega), xs_i]
  have a2 : X' 26 j t2 2 = nI v := by
    rw [xt2]
    show xs _ _ _ _ _ _ 26 j t2 2 = _
    rw [xs_o (by omega), xs_o (by omega), xs_i]
  have a3 : X' 26 j t2 3 = nI (sh + sg) := by
    rw [xt2]
    exact xs_i
  have b1' : X' 26 j t1 1 = 0 := by
    show xs _ _ _ _ _ _ 26 j t1 1 = _
    rw [xs_o (by omega), xs_o (by omega), xs_i]
  have b2' : X' 26 j t1 2 = -1 := by
    show xs _ _ _ _ _ _ 26 j t1 2 = _
    rw [xs_o (by omega), xs_i]
  have b3' : X' 26 j t1 3 = 0 := xs_i
  have eX : f_X9_moveTo X j t1 j t2 = some X' := by
    unfold f_X9_moveTo
    rw [x2, hvm, x1, x3, pour_ y1 y3, bn1_s]
    unfold f_X9_makeEmpty
    rw [bnd_s, bnd_s, bnd_s, bn1_s]
  have T1 : ∀ (t : Nat) (N : MT) (z : Int32), t < 5 → f_X12_setTank N (nI t) 1 z = some (mi N N.2.2 (iT t 1) z) := fun t N z ht => sT (w := 1) ht (by decide) z
  have T2 : ∀ (t : Nat) (N : MT) (z : Int32), t < 5 → f_X12_setTank N (nI t) 2 z = some (mi N N.2.2 (iT t 2) z) := fun t N z ht => sT (w := 2) ht (by decide) z
  have T3 : ∀ (t : Nat) (N : MT) (z : Int32), t < 5 → f_X12_setTank N (nI t) 3 z = some (mi N N.2.2 (iT t 3) z) := fun t N z ht => sT (w := 3) ht (by decide) z
  have O1 : ∀ (t : Nat) (N : MT), t < 5 → f_X12_ofTank N (nI t) 1 = some (N.1 N.2.2 (iT t 1)) := fun t N ht => oT (w := 1) ht (by decide)
  have O2 : ∀ (t : Nat) (N : MT), t < 5 → f_X12_ofTank N (nI t) 2 = some (N.1 N.2.2 (iT t 2)) := fun t N ht => oT (w := 2) ht (by decide)
  have O3 : ∀ (t : Nat) (N : MT), t < 5 → f_X12_ofTank N (nI t) 3 = some (N.1 N.2.2 (iT t 3)) := fun t N ht => oT (w := 3) ht (by decide)
  have eM : f_X12_pumpNow M (nI t1) (nI t2) = some (X' 26 j t2 1, M') := by
    unfold f_X12_pumpNow
    rw [O2 t1 _ (by omega), bn1_s, hvm, T2 t2 _ _ (by omega), bn1_s, O1 t2 _ (by omega), bn1_s, O1 t1 _ (by omega), bn1_s]
    show bn1 (f_X12_setTank (mi M M.2.2 (iT t2 2) (nI v)) (nI t2) 1 ((mi M M.2.2 (iT t2 2) (nI v)).1 M.2.2 (iT t2 1) + (mi M M.2.2 (iT t2 2) (nI v)).1 M.2.2 (iT t1 1))) _ = _
    rw [mi_o (by unfold iT; omega), mi_o (by unfold iT; omega), n1, m1, nI_add, T1 t2 _ _ (by omega), bn1_s, O3 t2 _ (by omega), bn1_s, O3 t1 _ (by omega), bn1_s]
    show bn1 (f_X12_setTank (mi (mi M M.2.2 (iT t2 2) (nI v)) M.2.2 (iT t2 1) (nI (c2 + c1))) (nI t2) 3 ((mi (mi M M.2.2 (iT t2 2) (nI v)) M.2.2 (iT t2 1) (nI (c2 + c1))).1 M.2.2 (iT t2 3) + (mi (mi M M.2.2 (iT t2 2) (nI v)) M.2.2 (iT t2 1) (nI (c2 + c1))).1 M.2.2 (iT t1 3))) _ = _
    rw [mi_o (by unfold iT; omega), mi_o (by unfold iT; omega), mi_o (by unfold iT; omega), mi_o (by unfold iT; omega), n3, m3, nI_add, T3 t2 _ _ (by omega), bn1_s]
    unfold f_X12_empty
    rw [T1 t1 _ _ (by omega), bn1_s, T2 t1 _ _ (by omega), bn1_s, T3 t1 _ _ (by omega), bn1_s, bn1_s, O1 t2 _ (by omega), bn1_s, a1]
    show some (M'.1 M.2.2 (iT t2 1), M') = _
    have : M'.1 M.2.2 (iT t2 1) = nI (c2 + c1) := by
      show (mi _ _ _ _).1 M.2.2 _ = _
      rw [mi_o (by unfold iT; omega), mi_o (by unfold iT; omega), mi_o (by unfold iT; omega)]
      show (mi _ _ _ _).1 M.2.2 _ = _
      rw [mi_o (by unfold iT; omega), mi_i]
    rw [this]
  refine ⟨X', M', eX, eM, ?_, ?_, fun i => xo 22 j i 7 (by omega), by
    show (mi _ _ _ _).1 M.2.2 0 = _
    rw [mi_o (by unfold iT; omega), mi_o (by unfold iT; omega), mi_o (by unfold iT; omega)]
    show (mi _ _ _ _).1 M.2.2 0 = _
    rw [mi_o (by unfold iT; omega), mi_o (by unfold iT; omega), mi_o (by unfold iT; omega)]⟩
  · exact UB.m (UB.m (UB.m (UB.m (UB.m (UB.m (UB.x (UB.x (UB.x (UB.x (UB.x (UB.x ub_no (by decide)) (by decide)) (by decide)) (by decide)) (by decide)) (by decide)))))))
  · have er : ∀ q, (∀ w, 1 ≤ w → w < 4 → q ≠ iT t1 w ∧ q ≠ iT t2 w) → M'.1 M.2.2 q = M.1 M.2.2 q := by
      intro q hq
      show (mi _ _ _ _).1 M.2.2 q = _
      rw [mi_o (hq 3 (by decide) (by decide)).1, mi_o (hq 2 (by decide) (by decide)).1, mi_o (hq 1 (by decide) (by decide)).1]
      show (mi _ _ _ _).1 M.2.2 q = _
      rw [mi_o (hq 3 (by decide) (by decide)).2, mi_o (hq 1 (by decide) (by decide)).2, mi_o (hq 2 (by decide) (by decide)).2]
    have kt : ∀ w, M'.1 M.2.2 (iT t2 w) = Ma.1 M.2.2 (iT t2 w) ∨ ¬ w < 4 := by
      intro w
      by_cases hw : w < 4
      · left
        show (mi _ _ _ _).1 M.2.2 _ = _
        rw [mi_o (by unfold iT; omega), mi_o (by unfold iT; omega), mi_o (by unfold iT; omega)]
      · exact Or.inr hw
    have k1 : M'.1 M.2.2 (iT t2 1) = nI (c2 + c1) := by
      rw [(kt 1).resolve_right (by decide)]
      show (mi _ _ _ _).1 M.2.2 _ = _
      rw [mi_o (by unfold iT; omega), mi_i]
    have k2 : M'.1 M.2.2 (iT t2 2) = nI v := by
      rw [(kt 2).resolve_right (by decide)]
      show (mi _ _ _ _).1 M.2.2 _ = _
      rw [mi_o (by unfold iT; omega), mi_o (by unfold iT; omega), mi_i]
    have k3 : M'.1 M.2.2 (iT t2 3) = nI (sh + sg) := by
      rw [(kt 3).resolve_right (by decide)]
      exact mi_i
    have l1 : M'.1 M.2.2 (iT t1 1) = 0 := by
      show (mi _ _ _ _).1 M.2.2 _ = _
      rw [mi_o (by unfold iT; omega), mi_o (by unfold iT; omega), mi_i]
    have l2 : M'.1 M.2.2 (iT t1 2) = -1 := by
      show (mi _ _ _ _).1 M.2.2 _ = _
      rw [mi_o (by unfold iT; omega), mi_i]
    have l3 : M'.1 M.2.2 (iT t1 3) = 0 := mi_i
    show BRn X' j (M'.1 M.2.2) nc nv ng np nl nt nb
    obtain ⟨⟨b1, b2, b3, b4, b5, b6, b7⟩, hc', m', h1', h2', h3, h4, h5, h6, h7, h8, h9⟩ := h
    generalize M'.1 M.2.2 = r' at er k1 k2 k3 l1 l2 l3 ⊢
    have no : ∀ k j' i f, k ≠ 26 → X' k j' i f = X k j' i f := fun k j' i f a => xo k j' i f (Or.inl a)
    have em : ∀ q, (q < 196 ∨ 216 ≤ q) → r' q = M.1 M.2.2 q := fun q a => er q (by intro w _ _; unfold iT; omega)
    have et : ∀ k f, k ≠ t1 → k ≠ t2 → f < 4 → r' (iT k f) = M.1 M.2.2 (iT k f) := fun k f a b c => er _ (by intro w _ _; unfold iT; omega)
    have e0 : ∀ k, r' (iT k 0) = M.1 M.2.2 (iT k 0) := fun k => er _ (by intro w _ _; unfold iT; omega)
    have hsum : sgT r' = sgT (M.1 M.2.2) := by
      let rm : Nat → Int32 := fun q => if q = iT t1 3 then 0 else M.1 M.2.2 q
      have q1 := sgT_upd (r := M.1 M.2.2) (r' := rm) (t := t1) (by omega) (fun k hk hkt => if_neg (by unfold iT; omega))
      have q2 := sgT_upd (r := rm) (r' := r') (t := t2) (by omega) (fun k hk hkt => by
        show r' (iT k 3) = if iT k 3 = iT t1 3 then 0 else M.1 M.2.2 (iT k 3)
        by_cases c : k = t1
        · subst c; rw [if_pos rfl, l3]
        · rw [if_neg (by unfold iT; omega), et k 3 c hkt (by decide)])
      rw [show rm (iT t1 3) = 0 from if_pos rfl, m3, nI_clamp (by omega)] at q1
      rw [show rm (iT t2 3) = M.1 M.2.2 (iT t2 3) from if_neg (by unfold iT; omega), n3, k3, nI_clamp (by omega), nI_clamp (by omega)] at q2
      have z : (0 : Int32).toNatClampNeg = 0 := rfl
      omega
    have hge2 := sgT_ge (r := r') (t := t2) (by omega)
    have hms := m'.2.2.2.2.2
    rw [k3, nI_clamp (by omega), hsum] at hge2
    refine ⟨⟨b1, b2, b3, b4, b5, b6, b7⟩, ?_, ?_, ?_, ?_, ?_, ?_, ?_, ?_, ?_, ?_, ?_⟩
    · rw [no 11 _ _ _ (by decide), no 11 _ _ _ (by decide), no 15 _ _ _ (by decide), no 15 _ _ _ (by decide), no 20 _ _ _ (by decide), no 23 _ _ _ (by decide), no 23 _ _ _ (by decide), em 3 (by decide), em 4 (by decide), em 5 (by decide), em 6 (by decide), em 7 (by decide), em 8 (by decide), em 9 (by decide)]
      exact hc'
    · rw [no 10 _ _ _ (by decide), no 10 _ _ _ (by decide), no 10 _ _ _ (by decide), psum_eq (X := X) (j := j) nl (fun i hi => no 22 _ _ _ (by decide)), em 1 (by decide), em 10 (by decide), em 2 (by decide), em 11 (by decide), hsum]
      exact m'
    · exact cl_eq h1' b1 (fun f => no 12 _ _ _ (by decide)) (fun q q1 q2 => em q (by omega))
    · exact vr_eq h2' b2 b1 (fun f => no 13 _ _ _ (by decide)) (fun f => no 14 _ _ _ (by decide)) (fun q q1 q2 => em q (by omega))
    · exact gr_eq h3 b3 (fun f => no 16 _ _ _ (by decide)) (fun q q1 q2 => em q (by omega))
    · exact pr_eq h4 b4 (fun f => no 17 _ _ _ (by decide)) (fun f => no 18 _ _ _ (by decide)) (fun f => no 19 _ _ _ (by decide)) (em 0 (by decide)) (fun q q1 q2 => em q (by omega))
    · exact fun k hk => lr_eq (h5 k hk) (fun f => no 17 _ _ _ (by decide)) (fun f => no 18 _ _ _ (by decide)) (fun f => no 22 _ _ _ (by decide)) (fun w hw => em _ (by unfold iL; omega))
    · intro k hk
      by_cases c : k = t1
      · subst c
        exact ⟨ca, 0, 0, Nat.zero_le _, hca20, by decide, ⟨(xo 26 j k 0 (by omega)).trans x0, (e0 k).trans m0⟩, ⟨b1', l1⟩, b2'.trans l2.symm, ⟨b3', l3⟩, Or.inl ⟨rfl, l2, rfl⟩⟩
      · by_cases d : k = t2
        · subst d
          refine ⟨ca2, c2 + c1, sh + sg, hroom, hcb, by omega, ⟨(xo 26 j k 0 (by omega)).trans y0, (e0 k).trans n0⟩, ⟨a1, k1⟩, a2.trans k2.symm, ⟨a3, k3⟩, Or.inr ⟨by omega, v, hv, k2⟩⟩
          -- 
        · exact tr_eq (h6 k hk) (fun f => xo 26 j k f (by omega)) (fun w hw => et k w c d hw)
    · exact fun k hk => or_eq (h7 k hk) (fun f => no 27 _ _ _ (by decide)) (fun w hw => em _ (by unfold iB; omega))
    · intro k q1 q2
      rw [et k 1 (by omega) (by omega) (by decide), et k 3 (by omega) (by omega) (by decide)]
      exact h8 k q1 q2
    · exact zv_eq h9 (fun q q1 q2 => em q (by omega))
end PUMP
section PUMPS
variable {X : XT} {M : MT} {nc nv ng np nl nt nb : Nat}
set_option maxRecDepth 20000 in
theorem mayB_ {j : Nat} (hb : BRn X j (M.1 M.2.2) nc nv ng np nl nt nb) {t : Nat} (ht : t < nt) (w : Int32) : ∃ r : Int32, f_X2_canFillLot X j j t w = some r ∧ f_X12_mayBottle M (nI t) w = some r ∧ (r = 0 ∨ (r = 1 ∧ nb < 12 ∧ ∃ co, X 26 j t 1 = nI co ∧ co ≤ 20000 ∧ ¬ nI co < w)) := by
  have hbb := hb.b
  obtain ⟨ca, co, sg, u, hco, hca, hsg, ⟨x0, x1, x2, x3⟩, ⟨r0, r1, r2, r3, rr⟩, -⟩ := hb.tf ht
  unfold f_X2_canFillLot f_X12_mayBottle
  rw [x1, r1, bn1_s, hb.c.2.2.2.2.2.2.1, hb.c.2.2.2.2.2.2.2]
  by_cases c1 : nI co < w
  · rw [if_pos c1]
    exact ⟨0, rfl, rfl, Or.inl rfl⟩
  · rw [if_neg c1]
    by_cases c2 : 12 ≤ nI nb
    · rw [if_pos c2]
      exact ⟨0, rfl, rfl, Or.inl rfl⟩
    · rw [if_neg c2]
      refine ⟨1, rfl, rfl, Or.inr ⟨rfl, ?_, co, rfl, by omega, c1⟩⟩
      have := (not_congr (nI_leI (a := 12) (b := nb) (by decide) (by omega))).mp c2
      omega
set_option maxRecDepth 20000 in
theorem u_bottle (h : RR X M) (v w : Int32) : UR (f_X11_bottle X v w) (t_X11_bottle X v w) (f_X12_bottle M v w) M [(2, 1), (1, 2), (0, 3)] := by
  obtain ⟨nc, nv, ng, np, nl, nt, nb, hq, hb⟩ := h.q
  have hbb := hb.b
  unfold f_X11_bottle t_X11_bottle f_X12_bottle
  rcases rg v (n := nt) (by omega) with ⟨a, ha, rfl⟩ | hv
  · obtain ⟨r, e1, e2, e3⟩ := mayB_ hb ha w
    rw [m_tank_1 hb h.1 ha, bn1_s (a := (1 : Int32))]
    rcases lt_or w 1 20000 with ⟨w1, w2⟩ | w'
    · rw [i_bottles_1 w1 w2, bn1_s (a := (1 : Int32)), if_neg (show ¬ (1 : Int32) = 0 by decide), e2, bn1_s (a := r)]
      rcases e3 with rfl | ⟨rfl, hb12, co, q1, q2, q3⟩
      · refine Or.inr ⟨0, 3, 0, List.mem_cons_of_mem _ (List.mem_cons_of_mem _ List.mem_cons_self), ?_, ?_⟩
        · rw [(n_tank_1 hb ha).2, orE_n, (n_tank_1 hb ha).1, bn1_s, gd_t (by omega), (n_bottles_1 w1 w2).2, orE_n, (n_bottles_1 w1 w2).1, bn1_s, e1, bn1_s, if_pos rfl]
        · rw [if_pos rfl, ps3_110 (by decide) (by decide), bn2_s, if_pos rfl]
      · obtain ⟨wn, hw1, hw2, rfl⟩ := nI_up1 (n := 20000) w1 w2 (by decide)
        rw [nI_ltI (by omega) (by omega)] at q3
        obtain ⟨X1, M1, f1, g1, R1, hb1, hb2, em, eb, z⟩ := aft_ h hb
        obtain ⟨X', M', x1, x2, u', hb3, e7, -⟩ := fill_ hb2 ha hb12 (co := co) (w := wn) (by rw [eb 26 a 1 (by show _ ∧ _; omega)]; exact q1) (by omega) hw1 (by omega)
        obtain ⟨r1, r2⟩ := R1.fin (X := X) u' hb3 (fun i _ => Or.inl (e7 i)) z
        refine Or.inl ⟨nI nb, X', M', ?_, ?_, r1, r2⟩
        · rw [(n_tank_1 hb ha).1, bn1_s, gd_t (by omega), (n_bottles_1 w1 w2).1, bn1_s, e1, bn1_s, if_neg (by decide), f1, bn1_s, x1, bn2_s]
        · rw [if_neg (by decide), ps3_111 (by decide) (by decide) (by decide), bn2_s, if_neg (by decide), g1, bn1_s, x2, bn2_s]
    · rw [i_bottles_0 w', bn1_s (a := (0 : Int32)), if_neg (show ¬ (1 : Int32) = 0 by decide), e2, bn1_s (a := r)]
      refine Or.inr ⟨1, 2, 0, List.mem_cons_of_mem _ List.mem_cons_self, ?_, ?_⟩
      · rw [(n_tank_1 hb ha).2, orE_n, (n_tank_1 hb ha).1, bn1_s, gd_t (by omega), (n_bottles_0 w').2, orE_s]
      · rcases e3 with rfl | ⟨rfl, -⟩
        · rw [if_pos rfl, ps3_10 (by decide), bn2_s, if_pos rfl]
        · rw [if_neg (by decide), ps3_10 (by decide), bn2_s, if_pos rfl]
  · refine Or.inr ⟨2, 1, 0, List.mem_cons_self, ?_, ?_⟩
    · rw [(n_tank_0 hb hv).2, orE_s]
    · rw [m_tank_0 hb h.1 hv, bn1_s (a := (0 : Int32))]
      rcases lt_or w 1 20000 with ⟨w1, w2⟩ | w'
      · rw [i_bottles_1 w1 w2, bn1_s (a := (1 : Int32)), if_pos rfl, ps3_0, bn2_s, if_pos rfl]
      · rw [i_bottles_0 w', bn1_s (a := (0 : Int32)), if_pos rfl, ps3_0, bn2_s, if_pos rfl]
set_option maxRecDepth 20000 in
theorem mayP_ {j : Nat} (hb : BRn X j (M.1 M.2.2) nc nv ng np nl nt nb) {t1 t2 : Nat} (h1 : t1 < nt) (h2 : t2 < nt) : ∃ r : Int32, f_X9_canMoveTo X j t1 j t2 = some r ∧ f_X12_mayPump M (nI t1) (nI t2) = some r ∧ (r = 0 ∨ (r = 1 ∧ ∃ c1 c2 ca2, X 26 j t1 1 = nI c1 ∧ c1 ≤ 20000 ∧ 0 < c1 ∧ X 26 j t2 1 = nI c2 ∧ c2 ≤ 20000 ∧ X 26 j t2 0 = nI ca2 ∧ ca2 ≤ 20000 ∧ c2 + c1 ≤ ca2)) := by
  have hbb := hb.b
  obtain ⟨ca, co, sg, u, hco, hca, hsg, ⟨x0, x1, x2, x3⟩, ⟨r0, r1, r2, r3, rr⟩, hv1⟩ := hb.tf h1
  obtain ⟨cb, cp, sh, w, hcp, hcb, hsh, ⟨y0, y1, y2, y3⟩, ⟨s0, s1, s2, s3, sr⟩, hv2⟩ := hb.tf h2
  have hr : nI cb - nI cp = nI (cb - cp) := pk_sub hcp
  unfold f_X9_canMoveTo f_X12_mayPump f_X9_takes f_X9_room
  rw [x1, x2, y1, y2, y0, s2, r2, r1, sr, hr]
  simp only [bn1_s]
  by_cases c0 : co = 0
  · have hp : nI co ≤ 0 := (nI_le0 (by omega)).mpr c0
    refine ⟨0, if_pos hp, ?_, Or.inl rfl⟩
    by_cases q : w = -1
    · rw [if_pos q, if_pos hp]
    · rw [if_neg q]
      by_cases q2 : w = u
      · rw [if_pos q2, if_pos hp]
      · rw [if_neg q2, if_pos hp]
  · have hn : ¬ nI co ≤ 0 := fun q => c0 ((nI_le0 (by omega)).mp q)
    simp only [if_neg hn]
    have fin : ∃ r : Int32, (if nI (cb - cp) < nI co then some (0 : Int32) else some 1) = some r ∧ (r = 0 ∨ (r = 1 ∧ ∃ c1 c2 ca2, nI co = nI c1 ∧ c1 ≤ 20000 ∧ 0 < c1 ∧ nI cp = nI c2 ∧ c2 ≤ 20000 ∧ nI cb = nI ca2 ∧ ca2 ≤ 20000 ∧ c2 + c1 ≤ ca2)) := by
      by_cases c : nI (cb - cp) < nI co
      · rw [if_pos c]
        exact ⟨0, rfl, Or.inl rfl⟩
      · rw [if_neg c]
        rw [nI_ltI (by omega) (by omega)] at c
        exact ⟨1, rfl, Or.inr ⟨rfl, co, cp, cb, rfl, by omega, by omega, rfl, by omega, rfl, by omega, by omega⟩⟩
    obtain ⟨r, f1, f2⟩ := fin
    rcases hv2 with ⟨q0, q1, -⟩ | ⟨q0, v, hv, q1⟩
    · rw [if_pos (show nI cp = (0 : Int32) by rw [q0]; rfl), bn1_s, if_neg (show ¬ (1 : Int32) = 0 by decide), if_pos q1]
      exact ⟨r, f1, f1, f2⟩
    · have hw : ¬ w = -1 := by
        rw [q1]
        exact nI_m1 (by omega)
      rw [if_neg (nI_ne0 q0 (by omega)), if_neg hw]
      by_cases q2 : w = u
      · rw [if_pos q2, if_pos q2, bn1_s, if_neg (show ¬ (1 : Int32) = 0 by decide)]
        exact ⟨r, f1, f1, f2⟩
      · rw [if_neg q2, if_neg q2, bn1_s, if_pos rfl]
        exact ⟨0, rfl, rfl, Or.inl rfl⟩
set_option maxRecDepth 20000 in
theorem u_pump (h : RR X M) (v w : Int32) : UR (f_X11_pump X v w) (t_X11_pump X v w) (f_X12_pump M v w) M [(2, 1), (1, 2), (0, 3)] := by
  obtain ⟨nc, nv, ng, np, nl, nt, nb, hq, hb⟩ := h.q
  have hbb := hb.b
  unfold f_X11_pump t_X11_pump f_X12_pump
  rcases rg v (n := nt) (by omega) with ⟨a, ha, rfl⟩ | hv
  · rw [m_tank_1 hb h.1 ha, bn1_s (a := (1 : Int32)), if_neg (show ¬ (1 : Int32) = 0 by decide)]
    rcases rg w (n := nt) (by omega) with ⟨b, hb', rfl⟩ | hw
    · rw [m_tank_1 hb h.1 hb', bn1_s (a := (1 : Int32)), if_neg (show ¬ (1 : Int32) = 0 by decide)]
      obtain ⟨r, e1, e2, e3⟩ := mayP_ hb ha hb'
      by_cases c : nI a = nI b
      · rw [if_pos c, e2, bn1_s (a := r)]
        refine Or.inr ⟨1, 2, 0, List.mem_cons_of_mem _ List.mem_cons_self, ?_, ?_⟩
        · rw [(n_tank_1 hb ha).2, orE_n, (n_tank_1 hb ha).1, bn1_s, gd_t (by omega), (n_tank_1 hb hb').2, orE_n, (n_tank_1 hb hb').1, bn1_s, gd_t (by omega), if_pos c]
        · rcases e3 with rfl | ⟨rfl, -⟩
          · rw [if_pos rfl, ps3_10 (by decide), bn2_s, if_pos rfl]
          · rw [if_neg (by decide), ps3_10 (by decide), bn2_s, if_pos rfl]
      · rw [if_neg c, e2, bn1_s (a := r)]
        rcases e3 with rfl | ⟨rfl, c1, c2, ca2, q1, q2, q3, q4, q5, q6, q7, q8⟩
        · refine Or.inr ⟨0, 3, 0, List.mem_cons_of_mem _ (List.mem_cons_of_mem _ List.mem_cons_self), ?_, ?_⟩
          · rw [(n_tank_1 hb ha).2, orE_n, (n_tank_1 hb ha).1, bn1_s, gd_t (by omega), (n_tank_1 hb hb').2, orE_n, (n_tank_1 hb hb').1, bn1_s, gd_t (by omega), if_neg c, e1, bn1_s, if_pos rfl]
          · rw [if_pos rfl, ps3_110 (by decide) (by decide), bn2_s, if_pos rfl]
        · obtain ⟨X1, M1, f1, g1, R1, hb1, hb2, em, eb, z⟩ := aft_ h hb
          have ex : ∀ t f, t < 5 → f < 4 → X1 26 1 t f = X 26 1 t f := fun t f a b => eb 26 t f (by show _ ∧ _; omega)
          obtain ⟨X', M', x1, x2, u', hb3, e7, -⟩ := pump_ hb2 ha hb' (fun q => c (congrArg nI q)) (c1 := c1) (c2 := c2) (ca2 := ca2) (by rw [ex _ _ (by omega) (by decide)]; exact q1) (by omega) q3 (by rw [ex _ _ (by omega) (by decide)]; exact q4) (by omega) (by rw [ex _ _ (by omega) (by decide)]; exact q6) (by omega) q8
          obtain ⟨r1, r2⟩ := R1.fin (X := X) u' hb3 (fun i _ => Or.inl (e7 i)) z
          refine Or.inl ⟨X' 26 1 b 1, X', M', ?_, ?_, r1, r2⟩
          · rw [(n_tank_1 hb ha).1, bn1_s, gd_t (by omega), (n_tank_1 hb hb').1, bn1_s, gd_t (by omega), if_neg c, e1, bn1_s, if_neg (by decide), f1, bn1_s, x1, bn1_s]
          · rw [if_neg (by decide), ps3_111 (by decide) (by decide) (by decide), bn2_s, if_neg (by decide), g1, bn1_s, x2, bn2_s]
    · rw [m_tank_0 hb h.1 hw, bn1_s (a := (0 : Int32)), if_pos rfl, if_neg (show ¬ nI a = w from fun q => by subst q; rcases hw with q | q; exact nI_pos (by omega) q; exact nI_ge ha (by omega) q)]
      refine Or.inr ⟨2, 1, 0, List.mem_cons_self, ?_, ?_⟩
      · rw [(n_tank_1 hb ha).2, orE_n, (n_tank_1 hb ha).1, bn1_s, gd_t (by omega), (n_tank_0 hb hw).2, orE_s]
      · rw [ps3_0, bn2_s, if_pos rfl]
  · rw [m_tank_0 hb h.1 hv, bn1_s (a := (0 : Int32)), if_pos rfl]
    refine Or.inr ⟨2, 1, 0, List.mem_cons_self, ?_, ?_⟩
    · rw [(n_tank_0 hb hv).2, orE_s]
    · by_cases c : v = w
      · rw [if_pos c, ps3_0, bn2_s, if_pos rfl]
      · rw [if_neg c, ps3_0, bn2_s, if_pos rfl]
end PUMPS
