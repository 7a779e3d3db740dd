/-! PURE: the other questions -/
set_option maxRecDepth 20000 in
theorem clamp5 (x : Int32) : (if 0 < (if 5000 < x then 5000 else x) then (if 5000 < x then 5000 else x) else 0) = (if (if 0 < x then x else 0) < 5000 then (if 0 < x then x else 0) else 5000) := by
  by_cases c1 : 5000 < x
  · have c2 : 0 < x := Int32.lt_trans (by decide) c1
    rw [if_pos c1, if_pos (by decide), if_pos c2, if_neg (Int32.not_lt.mpr (Int32.le_of_lt c1))]
  · rw [if_neg c1]
    by_cases c2 : 0 < x
    · rw [if_pos c2]
      by_cases c3 : x < 5000
      · rw [if_pos c3]
      · rw [if_neg c3]
        exact Int32.le_antisymm (Int32.not_lt.mp c1) (Int32.not_lt.mp c3)
    · rw [if_neg c2, if_pos (by decide)]
set_option maxRecDepth 20000 in
theorem lt_or (v lo hi : Int32) : (¬ v < lo ∧ v ≤ hi) ∨ (v < lo ∨ ¬ v ≤ hi) := by
  by_cases h1 : v < lo
  · exact Or.inr (Or.inl h1)
  · by_cases h2 : v ≤ hi
    · exact Or.inl ⟨h1, h2⟩
    · exact Or.inr (Or.inr h2)
section Q2
variable {X : XT} {M : MT}
set_option maxRecDepth 20000 in
theorem s_price (h : RR X M) (v w : Int32) : QR (f_X11_price X v w) (t_X11_price X v w) (f_X12_price M v w) M [(2, 1)] := by
  obtain ⟨nc, nv, ng, np, nl, nt, nb, hq, hb⟩ := h.q
  obtain ⟨h0, h1⟩ := hq 0
  have hbb := hb.b
  unfold f_X11_price t_X11_price f_X12_price
  rcases rg v (n := nv) (by omega) with ⟨a, ha, rfl⟩ | hv
  · rw [(n_variety_1 hb ha).1, bn1_s, bn1_s, (n_variety_1 hb ha).2, orE_n]
    rcases rg w (n := nc) (by omega) with ⟨g, hg, rfl⟩ | hw
    · obtain ⟨c, hc, -, e1, e2⟩ := h0.ce ha hg
      refine Or.inl ⟨nI c, ?_, ?_⟩
      · rw [(n_class_1 hb hg).1, bn1_s, e1, bn1_s]
      · rw [m_pair_1 hb h.1 ha hg, bn1_s, ps1_1, bn2_s, if_neg (by decide), e2, bn1_s]
    · refine Or.inr ⟨2, 1, 0, List.mem_cons_self, ?_, ?_⟩
      · rw [(n_class_0 hb hw).2, orE_s]
      · rw [m_pair_10 hb h.1 ha hw, bn1_s, ps1_0, bn2_s, if_pos rfl]
  · refine Or.inr ⟨2, 1, 0, List.mem_cons_self, ?_, ?_⟩
    · rw [(n_variety_0 hb hv).2, orE_s]
    · rw [m_pair_0 hb h.1 hv, bn1_s, ps1_0, bn2_s, if_pos rfl]
set_option maxRecDepth 20000 in
theorem s_weightOfClass (h : RR X M) (v w : Int32) : QR (f_X11_weightOfClass X v w) (t_X11_weightOfClass X v w) (f_X12_weightOfClass M v w) M [(2, 1)] := by
  obtain ⟨nc, nv, ng, np, nl, nt, nb, hq, hb⟩ := h.q
  obtain ⟨h0, h1⟩ := hq 0
  have hbb := hb.b
  unfold f_X11_weightOfClass t_X11_weightOfClass f_X12_weightOfClass
  rcases rg v (n := nv) (by omega) with ⟨a, ha, rfl⟩ | hv
  · rw [(n_variety_1 hb ha).1, bn1_s, bn1_s, (n_variety_1 hb ha).2, orE_n]
    rcases rg w (n := nc) (by omega) with ⟨g, hg, rfl⟩ | hw
    · obtain ⟨r, e1, e2⟩ := h0.wpair h1 (nI a) (nI g)
      refine Or.inl ⟨r, ?_, ?_⟩
      · rw [(n_class_1 hb hg).1, bn1_s, e1, bn1_s]
      · rw [m_pair_1 hb h.1 ha hg, bn1_s, ps1_1, bn2_s, if_neg (by decide), e2, bn1_s]
    · refine Or.inr ⟨2, 1, 0, List.mem_cons_self, ?_, ?_⟩
      · rw [(n_class_0 hb hw).2, orE_s]
      · rw [m_pair_10 hb h.1 ha hw, bn1_s, ps1_0, bn2_s, if_pos rfl]
  · refine Or.inr ⟨2, 1, 0, List.mem_cons_self, ?_, ?_⟩
    · rw [(n_variety_0 hb hv).2, orE_s]
    · rw [m_pair_0 hb h.1 hv, bn1_s, ps1_0, bn2_s, if_pos rfl]
set_option maxRecDepth 20000 in
theorem s_classBySugar (h : RR X M) (v : Int32) : QR (f_X11_classBySugar X v) (t_X11_classBySugar X v) (f_X12_classBySugar M v) M [(1, 1)] := by
  obtain ⟨nc, nv, ng, np, nl, nt, nb, hq, hb⟩ := h.q
  obtain ⟨h0, h1⟩ := hq 0
  unfold f_X11_classBySugar t_X11_classBySugar f_X12_classBySugar
  rcases lt_or v 0 250 with ⟨c1, c2⟩ | c
  · obtain ⟨r, e1, e2, -⟩ := h0.grade v
    refine Or.inl ⟨r, ?_, ?_⟩
    · rw [(n_sugar_1 c1 c2).1, bn1_s, e1, bn1_s]
    · rw [i_sugar_1 c1 c2, bn1_s, ps1_1, bn2_s, if_neg (by decide), e2, bn1_s]
  · refine Or.inr ⟨1, 1, 0, List.mem_cons_self, ?_, ?_⟩
    · rw [(n_sugar_0 c).2, orE_s]
    · rw [i_sugar_0 c, bn1_s, ps1_0, bn2_s, if_pos rfl]
set_option maxRecDepth 20000 in
theorem s_classInOrder (h : RR X M) (v : Int32) : QR (f_X11_classInOrder X v) (t_X11_classInOrder X v) (f_X12_classInOrder M v) M [(3, 1)] := by
  obtain ⟨nc, nv, ng, np, nl, nt, nb, hq, hb⟩ := h.q
  obtain ⟨h0, h1⟩ := hq 0
  have hbb := hb.b
  have hcn := cnP_le X 1 nl
  have c7 : M.1 1 7 = nI nl := by have := hb.c.2.2.2.2.1.2; rw [h.1] at this; exact this
  obtain ⟨r, e1, e2⟩ := h0.rank v
  unfold f_X11_classInOrder t_X11_classInOrder f_X12_classInOrder
  rw [e1, bn1_s, bn1_s, c7, hb.first (Nat.le_refl nl), bn1_s]
  rcases e2 with ⟨q, hno⟩ | ⟨q, ⟨m, hm, rfl⟩, e2⟩
  · refine Or.inr ⟨3, 1, 0, List.mem_cons_self, ?_, ?_⟩
    · rw [if_pos q]
    · have hv : v < 0 ∨ nI (cnP X 1 nl) ≤ v := (rg v (n := cnP X 1 nl) (by omega)).resolve_left hno
      rw [has_0 (by omega) hv, bn1_s, ps1_0, bn2_s, if_pos rfl]
  · refine Or.inl ⟨r, ?_, ?_⟩
    · rw [if_neg q]
    · rw [has_1 hm (by omega), bn1_s, ps1_1, bn2_s, if_neg (by decide)]
      exact e2
set_option maxRecDepth 20000 in
theorem s_yieldLeft (h : RR X M) (v : Int32) : QR (f_X11_yieldLeft X v) (t_X11_yieldLeft X v) (f_X12_yieldLeft M v) M [(2, 1)] := by
  obtain ⟨nc, nv, ng, np, nl, nt, nb, hq, hb⟩ := h.q
  obtain ⟨h0, h1⟩ := hq 0
  have hbb := hb.b
  unfold f_X11_yieldLeft t_X11_yieldLeft f_X12_yieldLeft
  rcases rg v (n := np) (by omega) with ⟨a, ha, rfl⟩ | hv
  · obtain ⟨l, l1, l2⟩ := h0.limit ha
    obtain ⟨r, hr, e1, e2⟩ := h0.harvest (nI a)
    refine Or.inl ⟨if 0 < (if 5000 < l - nI r then 5000 else l - nI r) then (if 5000 < l - nI r then 5000 else l - nI r) else 0, ?_, ?_⟩
    · rw [(n_plot_1 hb ha).1, bn1_s, f_X0_greatestWithinLimit, l1, bn1_s, e1, bn1_s, bnd_s, bn1_s]
    · rw [m_plot_1 hb h.1 ha, bn1_s, ps1_1, bn2_s, if_neg (by decide), l2, bn1_s, e2, bn1_s, ← clamp5]
  · refine Or.inr ⟨2, 1, 0, List.mem_cons_self, ?_, ?_⟩
    · rw [(n_plot_0 hb hv).2, orE_s]
    · rw [m_plot_0 hb h.1 hv, bn1_s, ps1_0, bn2_s, if_pos rfl]
set_option maxRecDepth 20000 in
theorem s_valueOf (h : RR X M) (v : Int32) : QR (f_X11_valueOf X v) (t_X11_valueOf X v) (f_X12_valueOf M v) M [(2, 1)] := by
  obtain ⟨nc, nv, ng, np, nl, nt, nb, hq, hb⟩ := h.q
  obtain ⟨h0, h1⟩ := hq 0
  have hbb := hb.b
  unfold f_X11_valueOf t_X11_valueOf f_X12_valueOf
  rcases rg v (n := nl) (by omega) with ⟨a, ha, rfl⟩ | hv
  · rw [(n_load_1 hb ha).1, bn1_s, gd_t (by omega), m_load_1 hb h.1 ha, bn1_s (a := (1 : Int32)), ps1_1, bn2_s, if_neg (show ¬ (1 : Int32) = 0 by decide)]
    rcases (h0.va ha).2 with ⟨a1, a2, a3, a4, -⟩ | ⟨a1, a2, q, hq, a3, a4, -⟩
    · exact Or.inl ⟨nI (vaL X 1 a), by rw [a4, bn1_s], by rw [a3, bn1_s]⟩
    · exact Or.inl ⟨nI q, by rw [a4, bn1_s], by rw [a3, bn1_s]⟩
  · refine Or.inr ⟨2, 1, 0, List.mem_cons_self, ?_, ?_⟩
    · rw [(n_load_0 hb hv).2, orE_s]
    · rw [m_load_0 hb h.1 hv, bn1_s, ps1_0, bn2_s, if_pos rfl]
set_option maxRecDepth 20000 in
theorem s_isPaid (h : RR X M) (v : Int32) : QR (f_X11_isPaid X v) (t_X11_isPaid X v) (f_X12_isPaid M v) M [(2, 1)] := by
  obtain ⟨nc, nv, ng, np, nl, nt, nb, hq, hb⟩ := h.q
  obtain ⟨h0, h1⟩ := hq 0
  have hbb := hb.b
  unfold f_X11_isPaid t_X11_isPaid f_X12_isPaid
  rcases rg v (n := nl) (by omega) with ⟨a, ha, rfl⟩ | hv
  · rw [(n_load_1 hb ha).1, bn1_s, gd_t (by omega), m_load_1 hb h.1 ha, bn1_s (a := (1 : Int32)), ps1_1, bn2_s, if_neg (show ¬ (1 : Int32) = 0 by decide)]
    rcases (h0.va ha).2 with ⟨a1, a2, -⟩ | ⟨a1, a2, -⟩
    · exact Or.inl ⟨0, by rw [a1, gd_t (by decide)], by rw [a2, bn1_s, if_neg (by decide)]⟩
    · exact Or.inl ⟨1, by rw [a1, gd_t (by decide)], by rw [a2, bn1_s, if_pos rfl]⟩
  · refine Or.inr ⟨2, 1, 0, List.mem_cons_self, ?_, ?_⟩
    · rw [(n_load_0 hb hv).2, orE_s]
    · rw [m_load_0 hb h.1 hv, bn1_s, ps1_0, bn2_s, if_pos rfl]
set_option maxRecDepth 20000 in
theorem s_isLowered (h : RR X M) (v : Int32) : QR (f_X11_isLowered X v) (t_X11_isLowered X v) (f_X12_isLowered M v) M [(2, 1)] := by
  obtain ⟨nc, nv, ng, np, nl, nt, nb, hq, hb⟩ := h.q
  obtain ⟨h0, h1⟩ := hq 0
  have hbb := hb.b
  unfold f_X11_isLowered t_X11_isLowered f_X12_isLowered
  rcases rg v (n := nl) (by omega) with ⟨a, ha, rfl⟩ | hv
  · obtain ⟨p, o, v, w, s, g, t, ⟨hp, ho, hv, hw1, hw2, hs, hg, ht⟩, ⟨x0, x1, x2, x3, x4, x5, x6⟩, ⟨r0, r1, r2, r3, r4, rv, rg⟩, hpaid⟩ := h0.lf ha
    obtain ⟨r, e1, e2, -⟩ := h0.grade (nI s)
    have hm : f_X12_hasLoad M (nI a) = some 1 := m_load_1 hb h.1 ha
    by_cases c : nI g = r
    · refine Or.inl ⟨0, ?_, ?_⟩
      · rw [(n_load_1 hb ha).1, bn1_s, gd_t (by omega), x4, e1, bn1_s, x5, if_pos c]
      · rw [hm, bn1_s, ps1_1, bn2_s, if_neg (by decide), r3, bn1_s, r2, bn1_s, e2, bn1_s, if_pos c]
    · refine Or.inl ⟨1, ?_, ?_⟩
      · rw [(n_load_1 hb ha).1, bn1_s, gd_t (by omega), x4, e1, bn1_s, x5, if_neg c]
      · rw [hm, bn1_s, ps1_1, bn2_s, if_neg (by decide), r3, bn1_s, r2, bn1_s, e2, bn1_s, if_neg c]
  · refine Or.inr ⟨2, 1, 0, List.mem_cons_self, ?_, ?_⟩
    · rw [(n_load_0 hb hv).2, orE_s]
    · rw [m_load_0 hb h.1 hv, bn1_s, ps1_0, bn2_s, if_pos rfl]
set_option maxRecDepth 20000 in
theorem s_tankFor (h : RR X M) (v w : Int32) : QR (f_X11_tankFor X v w) (t_X11_tankFor X v w) (f_X12_tankFor M v w) M [(2, 1), (1, 2)] := by
  obtain ⟨nc, nv, ng, np, nl, nt, nb, hq, hb⟩ := h.q
  obtain ⟨h0, h1⟩ := hq 0
  have hbb := hb.b
  have hi : ∃ i, f_X12_in w.toInt64 1 5000 = some i ∧ ((¬ w < 1 ∧ w ≤ 5000 ∧ i = 1) ∨ ((w < 1 ∨ ¬ w ≤ 5000) ∧ i = 0)) := by
    rcases lt_or w 1 5000 with ⟨c1, c2⟩ | c
    · exact ⟨1, i_weight_1 c1 c2, Or.inl ⟨c1, c2, rfl⟩⟩
    · exact ⟨0, i_weight_0 c, Or.inr ⟨c, rfl⟩⟩
  obtain ⟨i, hi1, hi2⟩ := hi
  unfold f_X11_tankFor t_X11_tankFor f_X12_tankFor
  rcases rg v (n := nv) (by omega) with ⟨a, ha, rfl⟩ | hv
  · rw [(n_variety_1 hb ha).1, bn1_s, bn1_s, (n_variety_1 hb ha).2, orE_n, m_variety_1 hb h.1 ha, bn1_s, hi1, bn1_s]
    rcases hi2 with ⟨c1, c2, rfl⟩ | ⟨c, rfl⟩
    · obtain ⟨r, e1, e2, -⟩ := h0.tank ha w
      refine Or.inl ⟨r, ?_, ?_⟩
      · rw [(n_weight_1 c1 c2).1, bn1_s, e1, bn1_s]
      · rw [ps2_11, bn2_s, if_neg (by decide), e2, bn1_s]
    · refine Or.inr ⟨1, 2, 0, List.mem_cons_of_mem _ List.mem_cons_self, ?_, ?_⟩
      · rw [(n_weight_0 c).2, orE_s]
      · rw [ps2_10, bn2_s, if_pos rfl]
  · refine Or.inr ⟨2, 1, 0, List.mem_cons_self, ?_, ?_⟩
    · rw [(n_variety_0 hb hv).2, orE_s]
    · rw [m_variety_0 hb h.1 hv, bn1_s, hi1, bn1_s, ps2_0, bn2_s, if_pos rfl]
set_option maxRecDepth 20000 in
/-- weight and sugar of a load, both sides -/
theorem are_ (w s : Int32) (M : MT) : ∃ i, f_X12_areLoad M w s = some i ∧ ((¬ w < 1 ∧ w ≤ 5000 ∧ ¬ s < 0 ∧ s ≤ 250 ∧ i = 1) ∨ (i = 0 ∧ ((w < 1 ∨ ¬ w ≤ 5000) ∨ (¬ w < 1 ∧ w ≤ 5000 ∧ (s < 0 ∨ ¬ s ≤ 250))))) := by
  rcases lt_or w 1 5000 with ⟨c1, c2⟩ | c
  · rcases lt_or s 0 250 with ⟨c3, c4⟩ | c'
    · exact ⟨1, m_are_1 c1 c2 c3 c4, Or.inl ⟨c1, c2, c3, c4, rfl⟩⟩
    · exact ⟨0, m_are_10 c1 c2 c', Or.inr ⟨rfl, Or.inr ⟨c1, c2, c'⟩⟩⟩
  · exact ⟨0, m_are_0 c, Or.inr ⟨rfl, Or.inl c⟩⟩
set_option maxRecDepth 20000 in
theorem s_refusal (h : RR X M) (v w s : Int32) : QR (f_X11_refusal X v w s) (t_X11_refusal X v w s) (f_X12_refusal M v w s) M [(2, 1), (1, 2)] := by
  obtain ⟨nc, nv, ng, np, nl, nt, nb, hq, hb⟩ := h.q
  obtain ⟨h0, h1⟩ := hq 0
  have hbb := hb.b
  obtain ⟨i, hi1, hi2⟩ := are_ w s M
  unfold f_X11_refusal t_X11_refusal f_X12_refusal
  rcases rg v (n := np) (by omega) with ⟨a, ha, rfl⟩ | hv
  · rw [(n_plot_1 hb ha).1, bn1_s, bn1_s, (n_plot_1 hb ha).2, orE_n, m_plot_1 hb h.1 ha, bn1_s, hi1, bn1_s]
    rcases hi2 with ⟨c1, c2, c3, c4, rfl⟩ | ⟨rfl, c⟩
    · obtain ⟨r, e1, e2, -⟩ := reason_ h0 ha w s
      refine Or.inl ⟨r, ?_, ?_⟩
      · rw [(n_weight_1 c1 c2).1, bn1_s, (n_sugar_1 c3 c4).1, bn1_s, e1, bn1_s]
      · rw [ps2_11, bn2_s, if_neg (by decide), e2, bn1_s]
    · refine Or.inr ⟨1, 2, 0, List.mem_cons_of_mem _ List.mem_cons_self, ?_, ?_⟩
      · rcases c with c | ⟨c1, c2, c⟩
        · rw [(n_weight_0 c).2, orE_s]
        · rw [(n_weight_1 c1 c2).2, orE_n, (n_weight_1 c1 c2).1, bn1_s, (n_sugar_0 c).2, orE_s]
      · rw [ps2_10, bn2_s, if_pos rfl]
  · refine Or.inr ⟨2, 1, 0, List.mem_cons_self, ?_, ?_⟩
    · rw [(n_plot_0 hb hv).2, orE_s]
    · rw [m_plot_0 hb h.1 hv, bn1_s, hi1, bn1_s, ps2_0, bn2_s, if_pos rfl]
set_option maxRecDepth 20000 in
theorem s_valueIfDelivered (h : RR X M) (v w s : Int32) : QR (f_X11_valueIfDelivered X v w s) (t_X11_valueIfDelivered X v w s) (f_X12_valueIfDelivered M v w s) M [(2, 1), (1, 2)] := by
  obtain ⟨nc, nv, ng, np, nl, nt, nb, hq, hb⟩ := h.q
  obtain ⟨h0, h1⟩ := hq 0
  have hbb := hb.b
  obtain ⟨i, hi1, hi2⟩ := are_ w s M
  unfold f_X11_valueIfDelivered t_X11_valueIfDelivered f_X12_valueIfDelivered
  rcases rg v (n := np) (by omega) with ⟨a, ha, rfl⟩ | hv
  · rw [(n_plot_1 hb ha).1, bn1_s, bn1_s, (n_plot_1 hb ha).2, orE_n, m_plot_1 hb h.1 ha, bn1_s, hi1, bn1_s]
    rcases hi2 with ⟨c1, c2, c3, c4, rfl⟩ | ⟨rfl, c⟩
    · obtain ⟨r, e1, e2, -, e3⟩ := reason_ h0 ha w s
      by_cases c : r = 0
      · obtain ⟨-, v', t, g, hv', ht, hg, y1, y2, -, -, g1, g2⟩ := e3 c
        obtain ⟨r', hr', f1, f2⟩ := gradeAs_ h0 ha w hg g1 g2
        obtain ⟨c', hc', -, p1, p2⟩ := h0.ce hv' hr'
        refine Or.inl ⟨w * nI c', ?_, ?_⟩
        · rw [(n_weight_1 c1 c2).1, bn1_s, (n_sugar_1 c3 c4).1, bn1_s, e1, bn1_s, if_pos c, y1, bn1_s, f1, bn1_s, p1, bn1_s]
        · rw [ps2_11, bn2_s, if_neg (by decide), e2, bn1_s, if_pos c, y2, bn1_s, f2, bn1_s, p2, bn1_s]
      · refine Or.inl ⟨-1, ?_, ?_⟩
        · rw [(n_weight_1 c1 c2).1, bn1_s, (n_sugar_1 c3 c4).1, bn1_s, e1, bn1_s, if_neg c]
        · rw [ps2_11, bn2_s, if_neg (by decide), e2, bn1_s, if_neg c]
    · refine Or.inr ⟨1, 2, 0, List.mem_cons_of_mem _ List.mem_cons_self, ?_, ?_⟩
      · rcases c with c | ⟨c1, c2, c⟩
        · rw [(n_weight_0 c).2, orE_s]
        · rw [(n_weight_1 c1 c2).2, orE_n, (n_weight_1 c1 c2).1, bn1_s, (n_sugar_0 c).2, orE_s]
      · rw [ps2_10, bn2_s, if_pos rfl]
  · refine Or.inr ⟨2, 1, 0, List.mem_cons_self, ?_, ?_⟩
    · rw [(n_plot_0 hb hv).2, orE_s]
    · rw [m_plot_0 hb h.1 hv, bn1_s, hi1, bn1_s, ps2_0, bn2_s, if_pos rfl]
set_option maxRecDepth 20000 in
theorem s_outputByte (h : RR X M) (v : Int32) : QR (f_X11_outputByte X v) (t_X11_outputByte X v) (f_X12_outputByte M v) M [(3, 1)] := by
  obtain ⟨t, ht, e1, e2, e3⟩ := h.2.2.2.2.2.2.2.1
  unfold f_X11_outputByte t_X11_outputByte f_X12_outputByte
  rw [e1, e2]
  rcases rg v (n := t) (by omega) with ⟨a, ha, rfl⟩ | hv
  · rw [has_1 ha (by omega), bn1_s, ps1_1, bn2_s, if_neg (show ¬ (1 : Int32) = 0 by decide), if_neg (nI_pos (by omega)), if_pos (nI_lt ha (by omega)), gd_t ⟨nI_pos (by omega), nI_le (b := 65536) (by omega) (by decide)⟩, gd_t (nI_in (by omega) (by decide)), nI_clamp (by omega), e3 a ha, mi_ne (by decide)]
    exact Or.inl ⟨_, rfl, rfl⟩
  · rw [has_0 (by omega) hv, bn1_s, ps1_0, bn2_s, if_pos rfl]
    refine Or.inr ⟨3, 1, 0, List.mem_cons_self, ?_, rfl⟩
    by_cases c : v < 0
    · rw [if_pos c]
    · rw [if_neg c, if_neg (Int32.not_lt.mpr (hv.resolve_left c))]
end Q2
