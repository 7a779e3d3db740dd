/-! PURE: what an update leaves alone; prices, loads -/
set_option maxRecDepth 20000 in
theorem xs_o {X : XT} {k j i f k' j' i' f' : Nat} {v : Int32} (h : k' ≠ k ∨ j' ≠ j ∨ i' ≠ i ∨ f' ≠ f) : xs X k j i f v k' j' i' f' = X k' j' i' f' := if_neg (by omega)
set_option maxRecDepth 20000 in
theorem xs_i {X : XT} {k j i f : Nat} {v : Int32} : xs X k j i f v k j i f = v := if_pos ⟨rfl, rfl, rfl, rfl⟩
set_option maxRecDepth 20000 in
theorem mi_o {M : MT} {k f f' : Nat} {v : Int32} (h : f' ≠ f) : (mi M k f v).1 k f' = M.1 k f' := if_neg (fun q => h q.2)
set_option maxRecDepth 20000 in
theorem mi_i {M : MT} {k f : Nat} {v : Int32} : (mi M k f v).1 k f = v := if_pos ⟨rfl, rfl⟩
set_option maxRecDepth 20000 in
theorem mi_2 {M : MT} {k f : Nat} {v : Int32} : (mi M k f v).2 = M.2 := rfl
/-- only book j and row M.2.2 change -/
def UB (X : XT) (M : MT) (j : Nat) (X' : XT) (M' : MT) : Prop := (∀ k j' i f, (j' ≠ j ∨ k < 10) → X' k j' i f = X k j' i f) ∧ (∀ k, k ≠ M.2.2 → M'.1 k = M.1 k) ∧ M'.2 = M.2
section UBS
variable {X X' : XT} {M M' : MT} {j : Nat}
set_option maxRecDepth 20000 in
theorem ub_no : UB X M j X M := ⟨fun _ _ _ _ _ => rfl, fun _ _ => rfl, rfl⟩
set_option maxRecDepth 20000 in
theorem UB.x (h : UB X M j X' M') {k i f : Nat} {v : Int32} (hk : 10 ≤ k) : UB X M j (xs X' k j i f v) M' :=
  ⟨fun k' j' i' f' q => by rw [xs_o (by omega)]; exact h.1 k' j' i' f' q, h.2⟩
set_option maxRecDepth 20000 in
theorem UB.m (h : UB X M j X' M') {f : Nat} {v : Int32} : UB X M j X' (mi M' M.2.2 f v) :=
  ⟨h.1, fun k hk => by rw [mi_ne hk]; exact h.2.1 k hk, h.2.2⟩
set_option maxRecDepth 20000 in
theorem UB.tr {X2 : XT} {M2 : MT} (h : UB X M j X' M') (h2 : UB X' M' j X2 M2) : UB X M j X2 M2 := by
  refine ⟨fun k j' i f q => (h2.1 k j' i f q).trans (h.1 k j' i f q), fun k hk => (h2.2.1 k (by rw [h.2.2]; exact hk)).trans (h.2.1 k hk), h2.2.2.trans h.2.2⟩
set_option maxRecDepth 20000 in
/-- an update of the books between calls -/
theorem RR.upd {X X' : XT} {M M' : MT} (h : RR X M) (u : UB X M 1 X' M') (hb : BR X' 1 (M'.1 1)) (bo : ∀ i, i < 20 → X' 22 1 i 7 = 0 ∨ X' 22 1 i 7 = 1) : RR X' M' := by
  obtain ⟨u1, u2, u3⟩ := u
  rw [h.1] at u2
  refine h.mk' hb ?_ u3 (fun k hk f => u1 k 0 0 f (Or.inl (by decide))) (fun f _ _ _ => congrFun (u2 0 (by decide)) f) (u2 3 (by decide)) (u2 6 (by decide)) ?_ ?_
  · intro j hj i hi
    by_cases c : j = 1
    · subst c; exact bo i hi
    · rw [u1 22 j i 7 (Or.inl c)]
      exact h.2.1 j hj i hi
  · exact h.2.2.2.2.2.1.eq (fun f => u1 4 0 0 f (Or.inl (by decide))) (fun j h1 h2 k i f _ => u1 k j i f (Or.inl (by omega))) (congrFun (u2 0 (by decide)) 27) (u2 4 (by decide))
  · exact h.2.2.2.2.2.2.1.eq (fun f => u1 7 0 0 f (Or.inl (by decide))) (fun j h1 h2 k i f _ => u1 k j i f (Or.inl (by omega))) (congrFun (u2 0 (by decide)) 29) (u2 5 (by decide))
end UBS
section PARTS
variable {X X' : XT} {j : Nat} {r r' : Nat → Int32} {nc nv ng np nl nt nb : Nat}
set_option maxRecDepth 20000 in
theorem cl_eq (h : ∀ k, k < nc → X 12 j 0 k = r (12 + k)) (hn : nc ≤ 4) (ex : ∀ f, X' 12 j 0 f = X 12 j 0 f) (er : ∀ q, 12 ≤ q → q < 16 → r' q = r q) : ∀ k, k < nc → X' 12 j 0 k = r' (12 + k) := by
  intro k hk
  rw [ex, er _ (by omega) (by omega)]
  exact h k hk
set_option maxRecDepth 20000 in
theorem vr_eq (h : ∀ k, k < nv → VR X j r nc k) (hn : nv ≤ 4) (hc : nc ≤ 4) (e13 : ∀ f, X' 13 j 0 f = X 13 j 0 f) (e14 : ∀ f, X' 14 j 0 f = X 14 j 0 f) (er : ∀ q, 16 ≤ q → q < 40 → r' q = r q) : ∀ k, k < nv → VR X' j r' nc k := by
  intro k hk
  have := h k hk
  unfold VR at this ⊢
  rw [e13, er (iV k 0) (by unfold iV; omega) (by unfold iV; omega), er (iV k 1) (by unfold iV; omega) (by unfold iV; omega)]
  refine ⟨this.1, fun g hg => ?_⟩
  rw [e14, er (iV k (2 + g)) (by unfold iV; omega) (by unfold iV; omega)]
  exact this.2 g hg
set_option maxRecDepth 20000 in
theorem gr_eq (h : ∀ k, k < ng → nmR (X 16 j 0 k) (r (iG k 0)) (r (iG k 1))) (hn : ng ≤ 6) (ex : ∀ f, X' 16 j 0 f = X 16 j 0 f) (er : ∀ q, 40 ≤ q → q < 52 → r' q = r q) : ∀ k, k < ng → nmR (X' 16 j 0 k) (r' (iG k 0)) (r' (iG k 1)) := by
  intro k hk
  rw [ex, er (iG k 0) (by unfold iG; omega) (by unfold iG; omega), er (iG k 1) (by unfold iG; omega) (by unfold iG; omega)]
  exact h k hk
set_option maxRecDepth 20000 in
theorem pr_eq (h : ∀ k, k < np → PR X j r ng nv k) (hn : np ≤ 8) (e17 : ∀ f, X' 17 j 0 f = X 17 j 0 f) (e18 : ∀ f, X' 18 j 0 f = X 18 j 0 f) (e19 : ∀ f, X' 19 j 0 f = X 19 j 0 f) (e0 : r' 0 = r 0) (er : ∀ q, 52 ≤ q → q < 76 → r' q = r q) : ∀ k, k < np → PR X' j r' ng nv k := by
  intro k hk
  have := h k hk
  unfold PR at this ⊢
  rw [e17, e18, e19, e0, er (iP k 0) (by unfold iP; omega) (by unfold iP; omega), er (iP k 1) (by unfold iP; omega) (by unfold iP; omega), er (iP k 2) (by unfold iP; omega) (by unfold iP; omega)]
  exact this
set_option maxRecDepth 20000 in
theorem lr_eq {k : Nat} (h : LR X j r nc np nt k) (e17 : ∀ f, X' 17 j 0 f = X 17 j 0 f) (e18 : ∀ f, X' 18 j 0 f = X 18 j 0 f) (ex : ∀ f, X' 22 j k f = X 22 j k f) (er : ∀ w, w < 6 → r' (iL k w) = r (iL k w)) : LR X' j r' nc np nt k := by
  obtain ⟨p, w, s, g, t, rest⟩ := h
  refine ⟨p, w, s, g, t, ?_⟩
  rw [e17, e18, ex 0, ex 1, ex 2, ex 3, ex 4, ex 5, ex 6, ex 7, ex 8, er 0 (by decide), er 1 (by decide), er 2 (by decide), er 3 (by decide), er 4 (by decide), er 5 (by decide)]
  exact rest
set_option maxRecDepth 20000 in
theorem tr_eq {k : Nat} (h : TR X j r nv k) (ex : ∀ f, X' 26 j k f = X 26 j k f) (er : ∀ w, w < 4 → r' (iT k w) = r (iT k w)) : TR X' j r' nv k := by
  unfold TR at h ⊢
  rw [ex 0, ex 1, ex 2, ex 3, er 0 (by decide), er 1 (by decide), er 2 (by decide), er 3 (by decide)]
  exact h
set_option maxRecDepth 20000 in
theorem or_eq {k : Nat} (h : OR X j r nv k) (ex : ∀ f, X' 27 j k f = X 27 j k f) (er : ∀ w, w < 4 → r' (iB k w) = r (iB k w)) : OR X' j r' nv k := by
  unfold OR at h ⊢
  rw [ex 0, ex 1, ex 2, ex 3, er 0 (by decide), er 1 (by decide), er 2 (by decide), er 3 (by decide)]
  exact h
set_option maxRecDepth 20000 in
theorem zv_eq (h : ∀ k, nv ≤ k → k < 4 → ∀ g, g < 4 → r (iV k (2 + g)) = 0) (er : ∀ q, 16 ≤ q → q < 40 → r' q = r q) : ∀ k, nv ≤ k → k < 4 → ∀ g, g < 4 → r' (iV k (2 + g)) = 0 := by
  intro k h1 h2 g hg
  rw [er _ (by unfold iV; omega) (by unfold iV; omega)]
  exact h k h1 h2 g hg
set_option maxRecDepth 20000 in
theorem sgT_upd {t : Nat} (ht : t < 5) (e : ∀ k, k < 5 → k ≠ t → r' (iT k 3) = r (iT k 3)) : sgT r' + (r (iT t 3)).toNatClampNeg = sgT r + (r' (iT t 3)).toNatClampNeg := by
  unfold sgT
  have : t = 0 ∨ t = 1 ∨ t = 2 ∨ t = 3 ∨ t = 4 := by omega
  rcases this with rfl | rfl | rfl | rfl | rfl
  · rw [e 1 (by decide) (by decide), e 2 (by decide) (by decide), e 3 (by decide) (by decide), e 4 (by decide) (by decide)]; omega
  · rw [e 0 (by decide) (by decide), e 2 (by decide) (by decide), e 3 (by decide) (by decide), e 4 (by decide) (by decide)]; omega
  · rw [e 0 (by decide) (by decide), e 1 (by decide) (by decide), e 3 (by decide) (by decide), e 4 (by decide) (by decide)]; omega
  · rw [e 0 (by decide) (by decide), e 1 (by decide) (by decide), e 2 (by decide) (by decide), e 4 (by decide) (by decide)]; omega
  · rw [e 0 (by decide) (by decide), e 1 (by decide) (by decide), e 2 (by decide) (by decide), e 3 (by decide) (by decide)]; omega
set_option maxRecDepth 20000 in
theorem sgT_ge {t : Nat} (ht : t < 5) : (r (iT t 3)).toNatClampNeg ≤ sgT r := by
  unfold sgT
  have : t = 0 ∨ t = 1 ∨ t = 2 ∨ t = 3 ∨ t = 4 := by omega
  rcases this with rfl | rfl | rfl | rfl | rfl <;> omega
set_option maxRecDepth 20000 in
theorem sgT_same (e : ∀ k, k < 5 → r' (iT k 3) = r (iT k 3)) : sgT r' = sgT r := by
  unfold sgT
  rw [e 0 (by decide), e 1 (by decide), e 2 (by decide), e 3 (by decide), e 4 (by decide)]
end PARTS
set_option maxRecDepth 20000 in
theorem nI_up {v : Int32} {n : Nat} (h1 : 0 ≤ v) (h2 : v ≤ nI n) (hn : n < 2 ^ 31) : ∃ a, a ≤ n ∧ v = nI a := by
  rw [Int32.le_iff_toInt_le] at h1 h2
  rw [nI_toInt hn] at h2
  refine ⟨v.toInt.toNat, by have : (0 : Int32).toInt = 0 := rfl; omega, ?_⟩
  apply Int32.toInt_inj.mp
  have h0 : (0 : Int32).toInt = 0 := rfl
  rw [nI_toInt (by omega)]
  omega
set_option maxRecDepth 20000 in
theorem nI_up1 {v : Int32} {n : Nat} (h1 : ¬ v < 1) (h2 : v ≤ nI n) (hn : n < 2 ^ 31) : ∃ a, 1 ≤ a ∧ a ≤ n ∧ v = nI a := by
  have h1' : (1 : Int32) ≤ v := Int32.not_lt.mp h1
  obtain ⟨a, ha, rfl⟩ := nI_up (v := v) (Int32.le_trans (show (0 : Int32) ≤ 1 by decide) h1') h2 hn
  exact ⟨a, (nI_leI (a := 1) (by decide) (by omega)).mp h1', ha, rfl⟩
section SP
variable {X : XT} {j : Nat} {M : MT} {nc nv ng np nl nt nb : Nat}
set_option maxRecDepth 20000 in
/-- a price laid down in a book and a row -/
theorem price_ (h : BRn X j (M.1 M.2.2) nc nv ng np nl nt nb) {a g c : Nat} (ha : a < nv) (hg : g < nc) (hc : c ≤ 999) : ∃ X' M', f_X1_putPrice X j (nI a) (nI g) (nI c) = some X' ∧ f_X12_setPriceNow M (nI a) (nI g) (nI c) = some M' ∧ UB X M j X' M' ∧ BRn X' j (M'.1 M'.2.2) nc nv ng np nl nt nb ∧ (∀ i, X' 22 j i 7 = X 22 j i 7) ∧ M'.1 M.2.2 0 = M.1 M.2.2 0 := by
  have hb := h.b
  refine ⟨xs X 14 j 0 (a * 4 + g) (nI c), mi M M.2.2 (iV a (2 + g)) (nI c), ?_, sV (by omega) (by omega) _, UB.m (UB.x ub_no (by decide)), ?_, fun i => xs_o (by omega), mi_o (by unfold iV; omega)⟩
  · unfold f_X1_putPrice f_X1_hasVariety f_X1_hasGrade
    rw [h.c.2.1.1, h.c.1.1, if_neg (nI_pos (by omega)), if_neg (nI_ge ha (by omega)), bn1_s, if_neg (by decide), if_neg (nI_pos (by omega)), if_neg (nI_ge hg (by omega)), bn1_s, if_neg (by decide), show nI a * 4 + nI g = nI (a * 4 + g) by rw [show (4 : Int32) = nI 4 from rfl, pk_mul, nI_add], gd_t (nI_in (by omega) (by decide)), nI_clamp (by omega), bnd_s]
  · obtain ⟨⟨b1, b2, b3, b4, b5, b6, b7⟩, hc', m, h1, h2, h3, h4, h5, h6, h7, h8, h9⟩ := h
    have er : ∀ q, q ≠ iV a (2 + g) → (mi M M.2.2 (iV a (2 + g)) (nI c)).1 M.2.2 q = M.1 M.2.2 q := fun q hq => mi_o hq
    have ei : (mi M M.2.2 (iV a (2 + g)) (nI c)).1 M.2.2 (iV a (2 + g)) = nI c := mi_i
    show BRn _ j ((mi M M.2.2 (iV a (2 + g)) (nI c)).1 M.2.2) nc nv ng np nl nt nb
    generalize (mi M M.2.2 (iV a (2 + g)) (nI c)).1 M.2.2 = r' at er ei ⊢
    have ex : ∀ k j' i f, k ≠ 14 → xs X 14 j 0 (a * 4 + g) (nI c) k j' i f = X k j' i f := fun k j' i f hk => xs_o (Or.inl hk)
    refine ⟨⟨b1, b2, b3, b4, b5, b6, b7⟩, ?_, ?_, ?_, ?_, ?_, ?_, ?_, ?_, ?_, ?_, ?_⟩
    · rw [ex 11 _ _ _ (by decide), ex 11 _ _ _ (by decide), ex 15 _ _ _ (by decide), ex 15 _ _ _ (by decide), ex 20 _ _ _ (by decide), ex 23 _ _ _ (by decide), ex 23 _ _ _ (by decide), er 3 (by unfold iV; omega), er 4 (by unfold iV; omega), er 5 (by unfold iV; omega), er 6 (by unfold iV; omega), er 7 (by unfold iV; omega), er 8 (by unfold iV; omega), er 9 (by unfold iV; omega)]
      exact hc'
    · rw [ex 10 _ _ _ (by decide), ex 10 _ _ _ (by decide), ex 10 _ _ _ (by decide), psum_eq (X := X) (j := j) nl (fun i _ => ex 22 _ _ _ (by decide)), er 1 (by unfold iV; omega), er 10 (by unfold iV; omega), er 2 (by unfold iV; omega), er 11 (by unfold iV; omega), sgT_same (fun k hk => er _ (by unfold iT iV; omega))]
      exact m
    · exact cl_eq h1 b1 (fun f => ex 12 _ _ _ (by decide)) (fun q q1 q2 => er q (by unfold iV; omega))
    · intro k hk
      obtain ⟨v1, v2⟩ := h2 k hk
      unfold VR
      rw [ex 13 _ _ _ (by decide), er (iV k 0) (by unfold iV; omega), er (iV k 1) (by unfold iV; omega)]
      refine ⟨v1, fun g' hg' => ?_⟩
      by_cases q : k = a ∧ g' = g
      · obtain ⟨rfl, rfl⟩ := q
        exact ⟨c, hc, xs_i, ei⟩
      · rw [xs_o (by omega), er (iV k (2 + g')) (by unfold iV; omega)]
        exact v2 g' hg'
    · exact gr_eq h3 b3 (fun f => ex 16 _ _ _ (by decide)) (fun q q1 q2 => er q (by unfold iV; omega))
    · exact pr_eq h4 b4 (fun f => ex 17 _ _ _ (by decide)) (fun f => ex 18 _ _ _ (by decide)) (fun f => ex 19 _ _ _ (by decide)) (er 0 (by unfold iV; omega)) (fun q q1 q2 => er q (by unfold iV; omega))
    · exact fun k hk => lr_eq (h5 k hk) (fun f => ex 17 _ _ _ (by decide)) (fun f => ex 18 _ _ _ (by decide)) (fun f => ex 22 _ _ _ (by decide)) (fun w hw => er _ (by unfold iL iV; omega))
    · exact fun k hk => tr_eq (h6 k hk) (fun f => ex 26 _ _ _ (by decide)) (fun w hw => er _ (by unfold iT iV; omega))
    · exact fun k hk => or_eq (h7 k hk) (fun f => ex 27 _ _ _ (by decide)) (fun w hw => er _ (by unfold iB iV; omega))
    · intro k q1 q2
      rw [er (iT k 1) (by unfold iT iV; omega), er (iT k 3) (by unfold iT iV; omega)]
      exact h8 k q1 q2
    · intro k q1 q2 g' hg'
      rw [er (iV k (2 + g')) (by unfold iV; omega)]
      exact h9 k q1 q2 g' hg'
end SP
set_option maxRecDepth 20000 in
theorem u_setPrice {X : XT} {M : MT} (h : RR X M) (v w c : Int32) : UR (f_X11_setPrice X v w c) (t_X11_setPrice X v w c) (f_X12_setPrice M v w c) M [(2, 1), (1, 2)] := by
  obtain ⟨nc, nv, ng, np, nl, nt, nb, hq, hb⟩ := h.q
  have hbb := hb.b
  have hi : ∃ i, f_X12_in c.toInt64 0 999 = some i ∧ ((¬ c < 0 ∧ c ≤ 999 ∧ i = 1) ∨ ((c < 0 ∨ ¬ c ≤ 999) ∧ i = 0)) := by
    rcases lt_or c 0 999 with ⟨c1, c2⟩ | c'
    · exact ⟨1, in_1 (lo := 0) (hi := 999) (Int32.not_lt.mp c1) c2, Or.inl ⟨c1, c2, rfl⟩⟩
    · exact ⟨0, in_0 (lo := 0) (hi := 999) (c'.imp id fun q => Int32.not_le.mp q), Or.inr ⟨c', rfl⟩⟩
  obtain ⟨i, hi1, hi2⟩ := hi
  unfold f_X11_setPrice t_X11_setPrice f_X12_setPrice
  rcases rg v (n := nv) (by omega) with ⟨a, ha, rfl⟩ | hv
  · rcases rg w (n := nc) (by omega) with ⟨g, hg, rfl⟩ | hw
    · rw [m_pair_1 hb h.1 ha hg, bn1_s (a := (1 : Int32)), hi1]
      rcases hi2 with ⟨c1, c2, rfl⟩ | ⟨c', rfl⟩
      · obtain ⟨n, hn, rfl⟩ := nI_up (n := 999) (Int32.not_lt.mp c1) c2 (by decide)
        obtain ⟨X1, M1, f1, g1, R1, eb, -, em1, -, em0, -⟩ := note_ (h.thr 0)
        have hb1 : BRn X1 1 (M1.1 M1.2.2) nc nv ng np nl nt nb := by
          rw [R1.1, em1]
          exact (h.1 ▸ (hq 0).1 : BRn X 1 ((mi M 0 0 0).1 1) nc nv ng np nl nt nb).eq eb
        obtain ⟨c0, hc0, -, p1, p2⟩ := hb1.ce ha hg
        obtain ⟨X', M', e1, e2, u, hb2, e7, -⟩ := price_ hb1 ha hg hn
        refine Or.inl ⟨nI c0, X', M', ?_, ?_, ?_, ?_⟩
        · rw [(n_variety_1 hb ha).1, bn1_s, (n_class_1 hb hg).1, bn1_s, if_neg c1, if_pos c2, f1, bn1_s, p1, bn1_s, e1, bn1_s]
        · rw [bn1_s, ps2_11, bn2_s, if_neg (by decide), g1, bn1_s, p2, bn1_s, e2, bn1_s]
        · refine R1.upd u ⟨nc, nv, ng, np, nl, nt, nb, ?_⟩ fun i hi => by rw [e7]; exact R1.2.1 1 (by decide) i hi
          rw [u.2.2, R1.1] at hb2
          exact hb2
        · rw [u.2.1 0 (by rw [R1.1]; decide), em0]
          simp [mi]
      · refine Or.inr ⟨1, 2, 0, List.mem_cons_of_mem _ List.mem_cons_self, ?_, ?_⟩
        · rw [(n_variety_1 hb ha).2, orE_n, (n_variety_1 hb ha).1, bn1_s, (n_class_1 hb hg).2, orE_n, (n_class_1 hb hg).1, bn1_s]
          by_cases q : c < 0
          · rw [if_pos q]
          · rw [if_neg q, if_neg (c'.resolve_left q)]
        · rw [bn1_s, ps2_10, bn2_s, if_pos rfl]
    · refine Or.inr ⟨2, 1, 0, List.mem_cons_self, ?_, ?_⟩
      · rw [(n_variety_1 hb ha).2, orE_n, (n_variety_1 hb ha).1, bn1_s, (n_class_0 hb hw).2, orE_s]
      · rw [m_pair_10 hb h.1 ha hw, bn1_s, hi1, bn1_s, ps2_0, bn2_s, if_pos rfl]
  · refine Or.inr ⟨2, 1, 0, List.mem_cons_self, ?_, ?_⟩
    · rw [(n_variety_0 hb hv).2, orE_s]
    · rw [m_pair_0 hb h.1 hv, bn1_s, hi1, bn1_s, ps2_0, bn2_s, if_pos rfl]
