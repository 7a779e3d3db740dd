/-! PURE: append, truncate as steps -/
def AF (X : XT) (M : MT) (X' : XT) (M' : MT) : Prop := (∀ k j i f, k ≠ 2 → k ≠ 3 → X' k j i f = X k j i f) ∧ (∀ k, k ≠ 0 → k ≠ 3 → M'.1 k = M.1 k) ∧ (∀ f, f ≠ 5 → M'.1 0 f = M.1 0 f) ∧ M'.2 = M.2
def BFn (X : XT) (M : MT) (n : Nat) : Prop := n ≤ 600 ∧ X 2 0 0 1 = nI n ∧ M.1 0 5 = nI n ∧ ∀ i, i < n → X 3 0 0 i = M.1 3 i ∧ (X 3 0 0 i).toInt8.toInt32 = X 3 0 0 i
set_option maxRecDepth 20000 in
theorem AF.no {X : XT} {M : MT} : AF X M X M := ⟨fun _ _ _ _ _ _ => rfl, fun _ _ _ => rfl, fun _ _ => rfl, rfl⟩
set_option maxRecDepth 20000 in
theorem AF.tr {X X1 X2 : XT} {M M1 M2 : MT} (h : AF X M X1 M1) (g : AF X1 M1 X2 M2) : AF X M X2 M2 :=
  ⟨fun k j i f a b => (g.1 k j i f a b).trans (h.1 k j i f a b), fun k a b => (g.2.1 k a b).trans (h.2.1 k a b), fun f a => (g.2.2.1 f a).trans (h.2.2.1 f a), g.2.2.2.trans h.2.2.2⟩
set_option maxRecDepth 20000 in
theorem i2b2 (v : Int32) : (v.toInt8.toInt32).toInt8.toInt32 = v.toInt8.toInt32 := by
  obtain ⟨a, b⟩ := lg_i2b_range v
  exact lg_i2b_small a b
set_option maxRecDepth 20000 in
theorem byte_ {X : XT} {M : MT} {n : Nat} (h : BFn X M n) (hn : n < 600) (z : Int32) : ∃ X', f_X10_addByte X z = some X' ∧ BFn X' (mi (mi M 3 n ((z.toInt8.toInt32).toInt8.toInt32)) 0 5 (nI (n + 1))) (n + 1) ∧ AF X M X' (mi (mi M 3 n ((z.toInt8.toInt32).toInt8.toInt32)) 0 5 (nI (n + 1))) := by
  obtain ⟨h1, h2, h3, h4⟩ := h
  refine ⟨xs (xs X 3 0 0 n ((z.toInt8.toInt32).toInt8.toInt32)) 2 0 0 1 (nI (n + 1)), ?_, ⟨by omega, xs_i, ?_, fun i hi => ?_⟩, ⟨fun k j i f a b => ?_, fun k a b => ?_, fun f a => ?_, rfl⟩⟩
  · unfold f_X10_addByte
    rw [h2, if_neg (show ¬ (600 : Int32) ≤ nI n from nI_ge (a := n) (b := 600) (by omega) (by decide)), gd_t (nI_in (by omega) (by decide)), nI_clamp (by omega), bnd_s, xs_o (by omega), h2, show nI n + 1 = nI (n + 1) from nI_add n 1, bnd_s]
  · exact mi_i
  · rw [xs_o (by omega), mi_ne (by decide)]
    by_cases c : i = n
    · subst c
      rw [xs_i, mi_i]
      exact ⟨rfl, i2b2 _⟩
    · rw [xs_o (by omega), mi_o c]
      exact h4 i (by omega)
  · rw [xs_o (by omega), xs_o (by omega)]
  · rw [mi_ne a, mi_ne b]
  · rw [mi_o a, mi_ne (by decide)]
set_option maxRecDepth 20000 in
theorem stone {M : MT} {n : Nat} (h3 : M.1 0 5 = nI n) (hn : n < 600) (v : Int32) {s : Int32} (hs : ¬ s < 0) (f : Nat) : f_X12_store_3 v (f + 1) M s = f_X12_store_3 v f (mi (mi M 3 n (((v >>> (s &&& 31)).toInt8.toInt32).toInt8.toInt32)) 0 5 (nI (n + 1))) (s + (-8)) := by
  rw [f_X12_store_3, if_neg hs, h3, gd_t (nI_in (by omega) (by decide)), nI_clamp (by omega), bnd_s, mi_ne (by decide), h3, show nI n + 1 = nI (n + 1) from nI_add n 1, bnd_s]
set_option maxRecDepth 20000 in
theorem four_ {X : XT} {M : MT} {n : Nat} (h : BFn X M n) (hn : n + 4 ≤ 600) (z : Int32) : ∃ X' M', f_X10_addFour X z = some X' ∧ f_X12_store M z = some M' ∧ BFn X' M' (n + 4) ∧ AF X M X' M' := by
  obtain ⟨X1, e1, b1, a1⟩ := byte_ h (by omega) (z >>> (24 &&& 31))
  obtain ⟨X2, e2, b2, a2⟩ := byte_ b1 (by omega) (z >>> (16 &&& 31))
  obtain ⟨X3, e3, b3, a3⟩ := byte_ b2 (by omega) (z >>> (8 &&& 31))
  obtain ⟨X4, e4, b4, a4⟩ := byte_ b3 (by omega) (z >>> (0 &&& 31))
  rw [show z >>> ((0 : Int32) &&& 31) = z by rw [show (0 : Int32) &&& 31 = 0 from rfl]; exact Int32.shiftRight_zero] at e4
  refine ⟨X4, _, ?_, ?_, b4, ((a1.tr a2).tr a3).tr a4⟩
  · unfold f_X10_addFour
    rw [e1, bn1_s, e2, bn1_s, e3, bn1_s, e4, bn1_s]
  · unfold f_X12_store
    rw [stone (f := 1999) h.2.2.1 (by omega) z (by decide), show (24 : Int32) + -8 = 16 by decide, stone (f := 1998) b1.2.2.1 (by omega) z (by decide), show (16 : Int32) + -8 = 8 by decide, stone (f := 1997) b2.2.2.1 (by omega) z (by decide), show (8 : Int32) + -8 = 0 by decide, stone (f := 1996) b3.2.2.1 (by omega) z (by decide), f_X12_store_3, if_pos (by decide)]
set_option maxRecDepth 20000 in
theorem RR.bf {X X' : XT} {M M' : MT} (h : RR X M) (a : AF X M X' M') (b : BF X' M') : RR X' M' := by
  obtain ⟨h1, h2, h3, h4, h5, h6, h7, h8, h9⟩ := h
  obtain ⟨a1, a2, a3, a4⟩ := a
  have eb : ∀ j k i f, inB k i f → X' k j i f = X k j i f := fun j k i f hq => a1 k j i f (by rintro rfl; exact hq) (by rintro rfl; exact hq)
  refine ⟨by rw [a4]; exact h1, fun j hj i hi => ?_, ?_, b, ?_, ?_, ?_, ?_, fun i hi => by rw [a4]; exact h9 i hi⟩
  · rw [a1 _ _ _ _ (by decide) (by decide)]
    exact h2 j hj i hi
  · rw [a2 1 (by decide) (by decide)]
    exact h3.eq (eb 1) fun _ _ => rfl
  · rw [a1 _ _ _ _ (by decide) (by decide), a1 _ _ _ _ (by decide) (by decide), a3 30 (by decide), a3 31 (by decide)]
    exact h5
  · exact h6.eq (fun f => a1 _ _ _ _ (by decide) (by decide)) (fun j _ _ => eb j) (a3 27 (by decide)) (a2 4 (by decide) (by decide))
  · exact h7.eq (fun f => a1 _ _ _ _ (by decide) (by decide)) (fun j _ _ => eb j) (a3 29 (by decide)) (a2 5 (by decide) (by decide))
  · obtain ⟨t, t1, t2, t3, t4⟩ := h8
    refine ⟨t, t1, by rw [a1 _ _ _ _ (by decide) (by decide)]; exact t2, by rw [a3 33 (by decide)]; exact t3, fun q hq => ?_⟩
    rw [a1 _ _ _ _ (by decide) (by decide), a2 6 (by decide) (by decide)]
    exact t4 q hq
set_option maxRecDepth 20000 in
theorem u_append {X : XT} {M : MT} (h : RR X M) (v1 v2 v3 v4 v5 : Int32) : UR (f_X11_append X v1 v2 v3 v4 v5) (t_X11_append X v1 v2 v3 v4 v5) (f_X12_append M v1 v2 v3 v4 v5) M [(0, 1)] := by
  obtain ⟨n, n1, n2, n3, n4⟩ := h.2.2.2.1
  unfold f_X11_append t_X11_append f_X12_append f_X10_hasRoomFor
  rw [n2, n3, show (600 : Int32) - nI n = nI (600 - n) from pk_sub (a := 600) (b := n) n1, show nI n + 20 = nI (n + 20) from nI_add n 20]
  by_cases c : n + 20 ≤ 600
  · rw [if_neg (show ¬ nI (600 - n) < 20 from nI_nlt (a := 600 - n) (b := 20) (by omega) (by omega)), bn1_s, if_neg (by decide), if_neg (show ¬ (600 : Int32) < nI (n + 20) from nI_nlt (a := 600) (b := n + 20) (by omega) (by omega)), ps1_1, bn2_s, if_neg (by decide)]
    have hb : BFn X (mi M 0 0 0) n := by
      refine ⟨n1, n2, ?_, fun i hi => ?_⟩
      · rw [mi_o (by decide)]; exact n3
      · rw [mi_ne (by decide)]; exact n4 i hi
    obtain ⟨X1, M1, x1, m1, b1, a1⟩ := four_ hb (by omega) v1
    obtain ⟨X2, M2, x2, m2, b2, a2⟩ := four_ b1 (by omega) v2
    obtain ⟨X3, M3, x3, m3, b3, a3⟩ := four_ b2 (by omega) v3
    obtain ⟨X4, M4, x4, m4, b4, a4⟩ := four_ b3 (by omega) v4
    obtain ⟨X5, M5, x5, m5, b5, a5⟩ := four_ b4 (by omega) v5
    have a := (((a1.tr a2).tr a3).tr a4).tr a5
    refine Or.inl ⟨nI (n + 4 + 4 + 4 + 4 + 4), X5, M5, ?_, ?_, (h.thr 0).bf a ⟨_, b5⟩, ?_⟩
    · rw [x1, bn1_s, x2, bn1_s, x3, bn1_s, x4, bn1_s, x5, bn1_s, b5.2.1]
    · rw [m1, bn1_s, m2, bn1_s, m3, bn1_s, m4, bn1_s, m5, bn1_s, b5.2.2.1]
    · rw [a.2.2.1 0 (by decide)]
      exact mi_i
  · rw [if_pos (show nI (600 - n) < 20 from nI_lt (a := 600 - n) (b := 20) (by omega) (by decide)), bn1_s, if_pos rfl, bn1_s, if_pos rfl, if_pos (show (600 : Int32) < nI (n + 20) from nI_lt (a := 600) (b := n + 20) (by omega) (by omega)), ps1_0, bn2_s, if_pos rfl]
    exact Or.inr ⟨0, 1, 0, List.mem_cons_self, rfl, rfl⟩
set_option maxRecDepth 20000 in
theorem u_truncate {X : XT} {M : MT} (h : RR X M) (v : Int32) : UR (f_X11_truncate X v) (t_X11_truncate X v) (f_X12_truncate M v) M [(1, 1)] := by
  obtain ⟨n, n1, n2, n3, n4⟩ := h.2.2.2.1
  unfold f_X11_truncate t_X11_truncate f_X12_truncate
  rw [n2, n3]
  have bad : (v < 0 ∨ nI n < v) → UR (if v < 0 then (none) else (if v ≤ nI n then (bnd (xs X 2 0 0 1 v) (fun X1 => some (v, X1))) else (none))) (if v < 0 then (some 1) else (if v ≤ nI n then (bnd (xs X 2 0 0 1 v) (fun _ => none)) else (some 1))) (bn1 (f_X12_in (v.toInt64) 0 ((nI n).toInt64)) (fun r1 => bn2 (f_X12_passes1 M r1) (fun r2 M1 => if r2 = 0 then (some (0, M1)) else (bnd (mi M1 0 5 v) (fun M2 => some (v, M2)))))) M [(1, 1)] := by
    intro q
    refine Or.inr ⟨1, 1, 0, List.mem_cons_self, ?_, ?_⟩
    · by_cases c : v < 0
      · rw [if_pos c]
      · rw [if_neg c, if_neg (Int32.not_le.mpr (q.resolve_left c))]
    · rw [show f_X12_in v.toInt64 0 (nI n).toInt64 = some 0 from in_0 (lo := 0) q, bn1_s, ps1_0, bn2_s, if_pos rfl]
  by_cases c : v < 0
  · exact bad (Or.inl c)
  · by_cases d : v ≤ nI n
    · obtain ⟨a, ha, rfl⟩ := nI_up (Int32.not_lt.mp c) d (by omega)
      rw [if_neg c, if_pos d, bnd_s]
      refine Or.inl ⟨nI a, xs X 2 0 0 1 (nI a), mi (mi M 0 0 0) 0 5 (nI a), rfl, ?_, ?_, ?_⟩
      · rw [show f_X12_in (nI a).toInt64 0 (nI n).toInt64 = some 1 from in_1 (lo := 0) (Int32.not_lt.mp c) d, bn1_s, ps1_1, bn2_s, if_neg (by decide), bnd_s]
      · refine (h.thr 0).bf ⟨fun k j i f q _ => xs_o (by omega), fun k q _ => mi_ne q, fun f q => mi_o q, rfl⟩ ⟨a, by omega, xs_i, mi_i, fun i hi => ?_⟩
        rw [xs_o (by omega), mi_ne (by decide), mi_ne (by decide)]
        exact n4 i (by omega)
      · rw [mi_o (by decide)]
        exact mi_i
    · exact bad (Or.inr (Int32.not_le.mp d))
