/-! PURE: a load accepted -/
section ACCEPT
variable {X : XT} {j : Nat} {M : MT} {nc nv ng np nl nt nb : Nat}
set_option maxRecDepth 20000 in
/-- the tank chosen has room -/
theorem p_room (h : BRn X j (M.1 M.2.2) nc nv ng np nl nt nb) (u w : Int32) : ∀ d k f, k + d = nt → d < f → ∃ r, f_X12_firstTank_2 M u w f (nI k) = some r ∧ (r = -1 ∨ ∃ t ca co, t < nt ∧ r = nI t ∧ X 26 j t 0 = nI ca ∧ X 26 j t 1 = nI co ∧ ¬ (nI ca - nI co < w)) := by
  obtain ⟨b1, b2, b3, b4, b5, b6, b7⟩ := h.b
  intro d
  induction d with
  | zero =>
    intro k f hk hf
    obtain ⟨f, rfl⟩ := fuel hf
    refine ⟨-1, ?_, Or.inl rfl⟩
    rw [f_X12_firstTank_2, h.c.2.2.2.2.2.1.2, if_pos (nI_le (by omega) (by omega))]
  | succ d ih =>
    intro k f hk hf
    obtain ⟨f, rfl⟩ := fuel hf
    have hkn : k < nt := by omega
    obtain ⟨ca, co, sg, u', hco, hca, hsg, ⟨x0, x1, x2, x3⟩, ⟨r0, r1, r2, r3, rr⟩, -⟩ := h.tf hkn
    obtain ⟨r, i1, i2⟩ := ih (k + 1) f (by omega) (by omega)
    have E : f_X12_firstTank_2 M u w (f + 1) (nI k) = if u' = u then (if nI ca - nI co < w then f_X12_firstTank_2 M u w f (nI (k + 1)) else some (nI k)) else f_X12_firstTank_2 M u w f (nI (k + 1)) := by
      rw [f_X12_firstTank_2, h.c.2.2.2.2.2.1.2, if_neg (nI_ge hkn (by omega)), r2, bn1_s, rr, bn1_s, nI_1]
    rw [E]
    by_cases c1 : u' = u
    · rw [if_pos c1]
      by_cases c2 : nI ca - nI co < w
      · rw [if_pos c2]
        exact ⟨r, i1, i2⟩
      · rw [if_neg c2]
        exact ⟨nI k, rfl, Or.inr ⟨k, ca, co, hkn, rfl, x0, x1, c2⟩⟩
    · rw [if_neg c1]
      exact ⟨r, i1, i2⟩
set_option maxRecDepth 20000 in
theorem BRn.room (h : BRn X j (M.1 M.2.2) nc nv ng np nl nt nb) {u w : Int32} {t : Nat} (ht : t < nt) (e : f_X12_tankOf M u w = some (nI t)) : ∃ ca co, X 26 j t 0 = nI ca ∧ X 26 j t 1 = nI co ∧ ¬ (nI ca - nI co < w) := by
  have hb := h.b
  obtain ⟨r1, i1, i2⟩ := p_room h u w nt 0 2000 (by omega) (by omega)
  obtain ⟨r2, i3, i4⟩ := p_room h (-1) w nt 0 2000 (by omega) (by omega)
  have key : ∀ r : Int32, r = nI t → (r = -1 ∨ ∃ t ca co, t < nt ∧ r = nI t ∧ X 26 j t 0 = nI ca ∧ X 26 j t 1 = nI co ∧ ¬ (nI ca - nI co < w)) → ∃ ca co, X 26 j t 0 = nI ca ∧ X 26 j t 1 = nI co ∧ ¬ (nI ca - nI co < w) := by
    rintro r hr (q | ⟨t', ca, co, ht', q, q1, q2, q3⟩)
    · exact absurd (hr.symm.trans q) (nI_m1 (by omega))
    · obtain rfl : t = t' := (nI_eq (by omega) (by omega)).mp (hr.symm.trans q)
      exact ⟨ca, co, q1, q2, q3⟩
  unfold f_X12_tankOf f_X12_firstTank at e
  rw [show f_X12_firstTank_2 M u w 2000 0 = some r1 from i1, bn1_s] at e
  by_cases c : r1 = -1
  · rw [if_pos c, show f_X12_firstTank_2 M (-1) w 2000 0 = some r2 from i3, bn1_s] at e
    exact key r2 (Option.some.inj e) i4
  · rw [if_neg c] at e
    exact key r1 (Option.some.inj e) i2
set_option maxRecDepth 20000 in
theorem pour_ {t co sg : Nat} (e1 : X 26 j t 1 = nI co) (e3 : X 26 j t 3 = nI sg) (v : Int32) (w q : Nat) : f_X9_pour X j t v (nI w) (nI q) = some (xs (xs (xs X 26 j t 2 v) 26 j t 1 (nI (co + w))) 26 j t 3 (nI (sg + q))) := by
  unfold f_X9_pour
  rw [bnd_s, bnd_s, bnd_s, xs_o (X := X) (by omega), e1, nI_add, xs_o (by omega), xs_o (by omega), e3, nI_add]
set_option maxRecDepth 20000 in
theorem addLoad_ {n : Nat} (e1 : X 20 j 0 1 = nI n) (hn : n < 20) : f_X3_addLoad X j = some (n, xs (xs (xs X 22 j n 7 0) 22 j n 8 0) 20 j 0 1 (nI (n + 1))) := by
  unfold f_X3_addLoad
  rw [e1, if_neg (show ¬ (19 : Int32) < nI n from nI_nlt (a := 19) (b := n) (by omega) (by decide)), bnd_s, gd_t (nI_in hn (by decide)), nI_clamp (by omega), bnd_s, bnd_s, xs_o (by omega), xs_o (by omega), e1, show nI n + 1 = nI (n + 1) from nI_add n 1, if_neg (show ¬ (20 : Int32) < nI (n + 1) from nI_nlt (a := 20) (b := n + 1) (by omega) (by decide)), bnd_s]
set_option maxRecDepth 20000 in
theorem accept_ (h : BRn X j (M.1 M.2.2) nc nv ng np nl nt nb) {p w s v t g : Nat} (hp : p < np) (hw1 : 1 ≤ w) (hw : w ≤ 5000) (hs : s ≤ 250) (hl : nl < 20) (hv : v < nv) (ht : t < nt) (hg : g < nc) (y1 : f_X5_varietyOn X j (nI p) = some (nI v)) (y2 : f_X12_ofPlot M (nI p) 1 = some (nI v)) (t1 : f_X2_chooseTank X j (nI v) (nI w) = some (nI t)) (t2 : f_X12_tankOf M (nI v) (nI w) = some (nI t)) (g1 : f_X1_gradeOfSugar X j (nI s) = some (nI g)) (g2 : f_X12_gradeOf M (nI s) = some (nI g)) : ∃ r X' M', f_X0_accept X j (nI p) (nI w) (nI s) = some (r, X') ∧ f_X12_layLoad M (nI p) (nI w) (nI s) = some (r, M') ∧ UB X M j X' M' ∧ BRn X' j (M'.1 M'.2.2) nc nv ng np (nl + 1) nt nb ∧ (∀ i, i < 20 → X' 22 j i 7 = X 22 j i 7 ∨ X' 22 j i 7 = 0) ∧ M'.1 M.2.2 0 = M.1 M.2.2 0 := by
  have hbb := h.b
  obtain ⟨r, hr, f1, f2⟩ := gradeAs_ h hp (nI w) hg g1 g2
  obtain ⟨ca, co, q1, q2, q3⟩ := h.room ht t2
  obtain ⟨ca', co', sg, hco, hca, hsg, ⟨x0, m0⟩, ⟨x1, m1⟩, x2, ⟨x3, m3⟩, hvar⟩ := h.t ht
  have hca2 : nI ca = nI ca' := q1.symm.trans x0
  have hco2 : nI co = nI co' := q2.symm.trans x1
  rw [hca2, hco2] at q3
  have hroom : co' + w ≤ ca' := by
    rw [show nI ca' - nI co' = nI (ca' - co') from pk_sub hco, nI_ltI (by omega) (by omega)] at q3
    omega
  clear q1 q2 hca2 hco2
  obtain ⟨o, v', ho, hv', ⟨p0, pr0⟩, ⟨p1, pr1⟩, -⟩ := h.p hp
  have evv : v' = v := by
    have := y2
    rw [show f_X12_ofPlot M (nI p) 1 = some (M.1 M.2.2 (iP p 1)) from oP (w := 1) (by omega) (by decide), pr1] at this
    exact (nI_eq (by omega) (by omega)).mp (Option.some.inj this)
  subst evv
  have hws : w * s ≤ 1250000 := Nat.le_trans (Nat.mul_le_mul hw hs) (by decide)
  have hsum : sgT (M.1 M.2.2) ≤ 1250000 * nl := h.m.2.2.2.2.2
  have hge := sgT_ge (r := M.1 M.2.2) (t := t) (by omega)
  rw [m3, nI_clamp (by omega)] at hge
  let Xa : XT := xs (xs (xs X 26 j t 2 (nI v')) 26 j t 1 (nI (co' + w))) 26 j t 3 (nI (sg + w * s))
  let Xb : XT := xs (xs (xs Xa 22 j nl 7 0) 22 j nl 8 0) 20 j 0 1 (nI (nl + 1))
  let X' : XT := xs (xs (xs (xs (xs (xs (xs Xb 22 j nl 0 (nI p)) 22 j nl 1 (nI o)) 22 j nl 2 (nI v')) 22 j nl 3 (nI w)) 22 j nl 4 (nI s)) 22 j nl 5 (nI r)) 22 j nl 6 (nI t)
  let M7 : MT := mi (mi (mi (mi (mi (mi (mi M M.2.2 7 (nI (nl + 1))) M.2.2 (iL nl 0) (nI p)) M.2.2 (iL nl 1) (nI w)) M.2.2 (iL nl 2) (nI s)) M.2.2 (iL nl 3) (nI r)) M.2.2 (iL nl 4) (nI t)) M.2.2 (iL nl 5) (-1)
  let M' : MT := mi (mi (mi M7 M.2.2 (iT t 2) (nI v')) M.2.2 (iT t 1) (nI (co' + w))) M.2.2 (iT t 3) (nI (sg + w * s))
  have m7 : ∀ q, (∀ w, q ≠ iL nl w ∨ 6 ≤ w) → q ≠ 7 → M7.1 M.2.2 q = M.1 M.2.2 q := by
    intro q hq h7
    show (mi _ _ _ _).1 M.2.2 q = _
    rw [mi_o ((hq 5).resolve_right (by decide)), mi_o ((hq 4).resolve_right (by decide)), mi_o ((hq 3).resolve_right (by decide)), mi_o ((hq 2).resolve_right (by decide)), mi_o ((hq 1).resolve_right (by decide)), mi_o ((hq 0).resolve_right (by decide)), mi_o h7]
  have m' : ∀ q, q ≠ iT t 1 → q ≠ iT t 2 → q ≠ iT t 3 → M'.1 M.2.2 q = M7.1 M.2.2 q := by
    intro q h1 h2 h3
    show (mi _ _ _ _).1 M.2.2 q = _
    rw [mi_o h3, mi_o h1, mi_o h2]
  have xa : ∀ k j' i f, k ≠ 26 → Xa k j' i f = X k j' i f := by
    intro k j' i f hk
    show xs _ _ _ _ _ _ k j' i f = _
    rw [xs_o (by omega), xs_o (by omega), xs_o (by omega)]
  have xo : ∀ k j' i f, k ≠ 26 → k ≠ 20 → (k = 22 → i ≠ nl) → X' k j' i f = X k j' i f := by
    intro k j' i f h1 h2 h3
    show xs _ _ _ _ _ _ k j' i f = _
    rw [xs_o (by omega), xs_o (by omega), xs_o (by omega), xs_o (by omega), xs_o (by omega), xs_o (by omega), xs_o (by omega)]
    show xs _ _ _ _ _ _ k j' i f = _
    rw [xs_o (by omega), xs_o (by omega), xs_o (by omega)]
    exact xa k j' i f h1
  have x26 : ∀ i f, X' 26 j i f = Xa 26 j i f := by
    intro i f
    show xs _ _ _ _ _ _ 26 j i f = _
    rw [xs_o (by omega), xs_o (by omega), xs_o (by omega), xs_o (by omega), xs_o (by omega), xs_o (by omega), xs_o (by omega)]
    show xs _ _ _ _ _ _ 26 j i f = _
    rw [xs_o (by omega), xs_o (by omega), xs_o (by omega)]
  have e20 : X' 20 j 0 1 = nI (nl + 1) := by
    show xs _ _ _ _ _ _ 20 j 0 1 = _
    rw [xs_o (by omega), xs_o (by omega), xs_o (by omega), xs_o (by omega), xs_o (by omega), xs_o (by omega), xs_o (by omega)]
    exact xs_i
  have l0 : X' 22 j nl 0 = nI p := by
    show xs _ _ _ _ _ _ 22 j nl 0 = _
    rw [xs_o (by omega), xs_o (by omega), xs_o (by omega), xs_o (by omega), xs_o (by omega), xs_o (by omega), xs_i]
  have l1 : X' 22 j nl 1 = nI o := by
    show xs _ _ _ _ _ _ 22 j nl 1 = _
    rw [xs_o (by omega), xs_o (by omega), xs_o (by omega), xs_o (by omega), xs_o (by omega), xs_i]
  have l2 : X' 22 j nl 2 = nI v' := by
    show xs _ _ _ _ _ _ 22 j nl 2 = _
    rw [xs_o (by omega), xs_o (by omega), xs_o (by omega), xs_o (by omega), xs_i]
  have l3 : X' 22 j nl 3 = nI w := by
    show xs _ _ _ _ _ _ 22 j nl 3 = _
    rw [xs_o (by omega), xs_o (by omega), xs_o (by omega), xs_i]
  have l4 : X' 22 j nl 4 = nI s := by
    show xs _ _ _ _ _ _ 22 j nl 4 = _
    rw [xs_o (by omega), xs_o (by omega), xs_i]
  have l5 : X' 22 j nl 5 = nI r := by
    show xs _ _ _ _ _ _ 22 j nl 5 = _
    rw [xs_o (by omega), xs_i]
  have l6 : X' 22 j nl 6 = nI t := xs_i
  have l78 : X' 22 j nl 7 = 0 ∧ X' 22 j nl 8 = 0 := by
    constructor
    · show xs _ _ _ _ _ _ 22 j nl 7 = _
      rw [xs_o (by omega), xs_o (by omega), xs_o (by omega), xs_o (by omega), xs_o (by omega), xs_o (by omega), xs_o (by omega)]
      show xs _ _ _ _ _ _ 22 j nl 7 = _
      rw [xs_o (by omega), xs_o (by omega), xs_i]
    · show xs _ _ _ _ _ _ 22 j nl 8 = _
      rw [xs_o (by omega), xs_o (by omega), xs_o (by omega), xs_o (by omega), xs_o (by omega), xs_o (by omega), xs_o (by omega)]
      show xs _ _ _ _ _ _ 22 j nl 8 = _
      rw [xs_o (by omega), xs_i]
  have eX : f_X0_accept X j (nI p) (nI w) (nI s) = some (nI r, X') := by
    unfold f_X0_accept
    rw [y1, bn1_s, f1, bn1_s, t1, bn1_s, if_neg (nI_pos (by omega)), if_neg (show ¬ (5 : Int32) ≤ nI t from nI_ge (a := t) (b := 5) (by omega) (by decide))]
    unfold f_X3_isFull
    rw [h.c.2.2.2.2.1.1, if_pos (show nI nl < 20 from nI_lt hl (by decide)), bn1_s, if_pos rfl, gd_t (nI_in (by omega) (by decide)), nI_clamp (by omega), pk_mul, pour_ x1 x3, bn1_s, addLoad_ (X := Xa) ((xa 20 j 0 1 (by decide)).trans h.c.2.2.2.2.1.1) hl, bn2_s, gd_t hl, bnd_s]
    unfold f_X5_ownerOf
    have a5 : (xs Xb 22 j nl 0 (nI p)) 15 j 0 5 = nI np := by
      rw [xs_o (by omega)]
      show xs _ _ _ _ _ _ 15 j 0 5 = _
      rw [xs_o (by omega), xs_o (by omega), xs_o (by omega), xa 15 j 0 5 (by decide)]
      exact h.c.2.2.2.1.1
    have a17 : (xs Xb 22 j nl 0 (nI p)) 17 j 0 p = nI o := by
      rw [xs_o (by omega)]
      show xs _ _ _ _ _ _ 17 j 0 p = _
      rw [xs_o (by omega), xs_o (by omega), xs_o (by omega), xa 17 j 0 p (by decide)]
      exact p0
    rw [show (xs (xs (xs Xa 22 j nl 7 0) 22 j nl 8 0) 20 j 0 1 (nI (nl + 1))) = Xb from rfl, if_neg (nI_pos (by omega)), a5, if_neg (nI_ge hp (by omega)), gd_t (nI_in (by omega) (by decide)), nI_clamp (by omega), a17, bn1_s, bnd_s, bnd_s, bnd_s, bnd_s, bnd_s, bnd_s]
  have eM : f_X12_layLoad M (nI p) (nI w) (nI s) = some (nI r, M') := by
    have S : ∀ (N : MT) (k : Nat) (z : Int32), k < 6 → f_X12_setLoad N (nI nl) (nI k) z = some (mi N N.2.2 (iL nl k) z) := fun N k z hk => sL hl hk z
    have S0 : ∀ (N : MT) (z : Int32), f_X12_setLoad N (nI nl) 0 z = some (mi N N.2.2 (iL nl 0) z) := fun N z => S N 0 z (by decide)
    have S1 : ∀ (N : MT) (z : Int32), f_X12_setLoad N (nI nl) 1 z = some (mi N N.2.2 (iL nl 1) z) := fun N z => S N 1 z (by decide)
    have S2 : ∀ (N : MT) (z : Int32), f_X12_setLoad N (nI nl) 2 z = some (mi N N.2.2 (iL nl 2) z) := fun N z => S N 2 z (by decide)
    have S3 : ∀ (N : MT) (z : Int32), f_X12_setLoad N (nI nl) 3 z = some (mi N N.2.2 (iL nl 3) z) := fun N z => S N 3 z (by decide)
    have S4 : ∀ (N : MT) (z : Int32), f_X12_setLoad N (nI nl) 4 z = some (mi N N.2.2 (iL nl 4) z) := fun N z => S N 4 z (by decide)
    have S5 : ∀ (N : MT) (z : Int32), f_X12_setLoad N (nI nl) 5 z = some (mi N N.2.2 (iL nl 5) z) := fun N z => S N 5 z (by decide)
    have T : ∀ (N : MT) (k : Nat) (z : Int32), k < 4 → f_X12_setTank N (nI t) (nI k) z = some (mi N N.2.2 (iT t k) z) := fun N k z hk => sT (by omega) hk z
    have O : ∀ (N : MT) (k : Nat), k < 4 → f_X12_ofTank N (nI t) (nI k) = some (N.1 N.2.2 (iT t k)) := fun N k hk => oT (by omega) hk
    have o1 : f_X12_ofTank (mi M7 M.2.2 (iT t 2) (nI v')) (nI t) 1 = some (nI co') := by
      rw [show (1 : Int32) = nI 1 from rfl, O _ 1 (by decide)]
      show some ((mi M7 M.2.2 (iT t 2) (nI v')).1 M.2.2 (iT t 1)) = _
      rw [mi_o (by unfold iT; omega), m7 _ (by intro w; unfold iT iL; omega) (by unfold iT; omega), m1]
    have o3 : f_X12_ofTank (mi (mi M7 M.2.2 (iT t 2) (nI v')) M.2.2 (iT t 1) (nI (co' + w))) (nI t) 3 = some (nI sg) := by
      rw [show (3 : Int32) = nI 3 from rfl, O _ 3 (by decide)]
      show some ((mi (mi M7 M.2.2 (iT t 2) (nI v')) M.2.2 (iT t 1) (nI (co' + w))).1 M.2.2 (iT t 3)) = _
      rw [mi_o (by unfold iT; omega), mi_o (by unfold iT; omega), m7 _ (by intro w; unfold iT iL; omega) (by unfold iT; omega), m3]
    unfold f_X12_layLoad
    rw [y2, bn1_s, t2, bn1_s, f2, bn1_s, h.c.2.2.2.2.1.2, show nI nl + 1 = nI (nl + 1) from nI_add nl 1, bnd_s, S0, bn1_s, S1, bn1_s, S2, bn1_s, S3, bn1_s, S4, bn1_s, S5, bn1_s, show (2 : Int32) = nI 2 from rfl, T _ 2 _ (by decide), bn1_s]
    show bn1 (f_X12_ofTank (mi M7 M.2.2 (iT t 2) (nI v')) (nI t) 1) _ = _
    rw [o1, bn1_s, nI_add]
    show bn1 (f_X12_setTank (mi M7 M.2.2 (iT t 2) (nI v')) (nI t) (nI 1) (nI (co' + w))) _ = _
    rw [T _ 1 _ (by decide), bn1_s]
    show bn1 (f_X12_ofTank (mi (mi M7 M.2.2 (iT t 2) (nI v')) M.2.2 (iT t 1) (nI (co' + w))) (nI t) 3) _ = _
    rw [o3, bn1_s, pk_mul, nI_add]
    show bn1 (f_X12_setTank (mi (mi M7 M.2.2 (iT t 2) (nI v')) M.2.2 (iT t 1) (nI (co' + w))) (nI t) (nI 3) (nI (sg + w * s))) _ = _
    rw [T _ 3 _ (by decide), bn1_s]
    rfl
  refine ⟨nI r, X', M', eX, eM, ?_, ?_, ?_, (m' 0 (by unfold iT; omega) (by unfold iT; omega) (by unfold iT; omega)).trans (m7 0 (fun w => Or.inl (by unfold iL; omega)) (by decide))⟩
  · exact UB.m (UB.m (UB.m (UB.m (UB.m (UB.m (UB.m (UB.m (UB.m (UB.m (UB.x (UB.x (UB.x (UB.x (UB.x (UB.x (UB.x (UB.x (UB.x (UB.x (UB.x (UB.x (UB.x ub_no (by decide)) (by decide)) (by decide)) (by decide)) (by decide)) (by decide)) (by decide)) (by decide)) (by decide)) (by decide)) (by decide)) (by decide)) (by decide)))))))))))
  · have er : ∀ q, (∀ w, q ≠ iL nl w ∨ 6 ≤ w) → q ≠ 7 → q ≠ iT t 1 → q ≠ iT t 2 → q ≠ iT t 3 → M'.1 M.2.2 q = M.1 M.2.2 q := fun q a b c d e => (m' q c d e).trans (m7 q a b)
    have n7 : M'.1 M.2.2 7 = nI (nl + 1) := by
      rw [m' 7 (by unfold iT; omega) (by unfold iT; omega) (by unfold iT; omega)]
      show (mi _ _ _ _).1 M.2.2 7 = _
      rw [mi_o (by unfold iL; omega), mi_o (by unfold iL; omega), mi_o (by unfold iL; omega), mi_o (by unfold iL; omega), mi_o (by unfold iL; omega), mi_o (by unfold iL; omega), mi_i]
    have k0 : M'.1 M.2.2 (iL nl 0) = nI p := by
      rw [m' _ (by unfold iT iL; omega) (by unfold iT iL; omega) (by unfold iT iL; omega)]
      show (mi _ _ _ _).1 M.2.2 _ = _
      rw [mi_o (by unfold iL; omega), mi_o (by unfold iL; omega), mi_o (by unfold iL; omega), mi_o (by unfold iL; omega), mi_o (by unfold iL; omega), mi_i]
    have k1 : M'.1 M.2.2 (iL nl 1) = nI w := by
      rw [m' _ (by unfold iT iL; omega) (by unfold iT iL; omega) (by unfold iT iL; omega)]
      show (mi _ _ _ _).1 M.2.2 _ = _
      rw [mi_o (by unfold iL; omega), mi_o (by unfold iL; omega), mi_o (by unfold iL; omega), mi_o (by unfold iL; omega), mi_i]
    have k2 : M'.1 M.2.2 (iL nl 2) = nI s := by
      rw [m' _ (by unfold iT iL; omega) (by unfold iT iL; omega) (by unfold iT iL; omega)]
      show (mi _ _ _ _).1 M.2.2 _ = _
      rw [mi_o (by unfold iL; omega), mi_o (by unfold iL; omega), mi_o (by unfold iL; omega), mi_i]
    have k3 : M'.1 M.2.2 (iL nl 3) = nI r := by
      rw [m' _ (by unfold iT iL; omega) (by unfold iT iL; omega) (by unfold iT iL; omega)]
      show (mi _ _ _ _).1 M.2.2 _ = _
      rw [mi_o (by unfold iL; omega), mi_o (by unfold iL; omega), mi_i]
    have k4 : M'.1 M.2.2 (iL nl 4) = nI t := by
      rw [m' _ (by unfold iT iL; omega) (by unfold iT iL; omega) (by unfold iT iL; omega)]
      show (mi _ _ _ _).1 M.2.2 _ = _
      rw [mi_o (by unfold iL; omega), mi_i]
    have k5 : M'.1 M.2.2 (iL nl 5) = -1 := by
      rw [m' _ (by unfold iT iL; omega) (by unfold iT iL; omega) (by unfold iT iL; omega)]
      exact mi_i
    have kt1 : M'.1 M.2.2 (iT t 1) = nI (co' + w) := by
      show (mi _ _ _ _).1 M.2.2 _ = _
      rw [mi_o (by unfold iT; omega), mi_i]
    have kt2 : M'.1 M.2.2 (iT t 2) = nI v' := by
      show (mi _ _ _ _).1 M.2.2 _ = _
      rw [mi_o (by unfold iT; omega), mi_o (by unfold iT; omega), mi_i]
    have kt3 : M'.1 M.2.2 (iT t 3) = nI (sg + w * s) := mi_i
    have c0 : X' 26 j t 0 = nI ca' := by
      rw [x26]
      show xs _ _ _ _ _ _ 26 j t 0 = _
      rw [xs_o (by omega), xs_o (by omega), xs_o (by omega), x0]
    have c1 : X' 26 j t 1 = nI (co' + w) := by
      rw [x26]
      show xs _ _ _ _ _ _ 26 j t 1 = _
      rw [xs_o (by omega), xs_i]
    have c2 : X' 26 j t 2 = nI v' := by
      rw [x26]
      show xs _ _ _ _ _ _ 26 j t 2 = _
      rw [xs_o (by omega), xs_o (by omega), xs_i]
    have c3 : X' 26 j t 3 = nI (sg + w * s) := by
      rw [x26]
      exact xs_i
    have cne : ∀ k, k ≠ t → ∀ f, X' 26 j k f = X 26 j k f := by
      intro k hk f
      rw [x26]
      show xs _ _ _ _ _ _ 26 j k f = _
      rw [xs_o (by omega), xs_o (by omega), xs_o (by omega)]
    show BRn X' j (M'.1 M.2.2) nc nv ng np (nl + 1) nt nb
    obtain ⟨⟨b1, b2, b3, b4, b5, b6, b7⟩, hc', m, h1, h2, h3, h4, h5, h6, h7, h8, h9⟩ := h
    generalize M'.1 M.2.2 = r' at er n7 k0 k1 k2 k3 k4 k5 kt1 kt2 kt3 ⊢
    have em : ∀ q, q < 76 → q ≠ 7 → r' q = M.1 M.2.2 q := fun q a b => er q (by intro w; unfold iL; omega) b (by unfold iT; omega) (by unfold iT; omega) (by unfold iT; omega)
    refine ⟨⟨b1, b2, b3, b4, by omega, b6, b7⟩, ?_, ?_, ?_, ?_, ?_, ?_, ?_, ?_, ?_, ?_, ?_⟩
    · rw [xo 11 _ _ _ (by decide) (by decide) (fun q => absurd q (by decide)), xo 11 _ _ _ (by decide) (by decide) (fun q => absurd q (by decide)), xo 15 _ _ _ (by decide) (by decide) (fun q => absurd q (by decide)), xo 15 _ _ _ (by decide) (by decide) (fun q => absurd q (by decide)), e20, xo 23 _ _ _ (by decide) (by decide) (fun q => absurd q (by decide)), xo 23 _ _ _ (by decide) (by decide) (fun q => absurd q (by decide)), em 3 (by decide) (by decide), em 4 (by decide) (by decide), em 5 (by decide) (by decide), em 6 (by decide) (by decide), n7, em 8 (by decide) (by decide), em 9 (by decide) (by decide)]
      exact ⟨hc'.1, hc'.2.1, hc'.2.2.1, hc'.2.2.2.1, ⟨rfl, rfl⟩, hc'.2.2.2.2.2.1, hc'.2.2.2.2.2.2⟩
    · have hps : psum X' j (nl + 1) = psum X j nl := by
        show psum X' j nl + X' 22 j nl 8 = _
        rw [l78.2, Int32.add_zero, psum_eq (X := X) (j := j) nl (fun i hi => xo 22 _ _ _ (by decide) (by decide) (fun _ => by omega))]
      have hsg2 := sgT_upd (r := M.1 M.2.2) (r' := r') (t := t) (by omega) (fun k hk hkt => er _ (by intro w; unfold iT iL; omega) (by unfold iT; omega) (by unfold iT; omega) (by unfold iT; omega) (by unfold iT; omega))
      rw [m3, kt3, nI_clamp (by omega), nI_clamp (by omega)] at hsg2
      rw [xo 10 _ _ _ (by decide) (by decide) (fun q => absurd q (by decide)), xo 10 _ _ _ (by decide) (by decide) (fun q => absurd q (by decide)), xo 10 _ _ _ (by decide) (by decide) (fun q => absurd q (by decide)), hps, em 1 (by decide) (by decide), em 10 (by decide) (by decide), em 2 (by decide) (by decide), em 11 (by decide) (by decide)]
      exact ⟨m.1, m.2.1, m.2.2.1, m.2.2.2.1, m.2.2.2.2.1, by omega⟩
    · exact cl_eq h1 b1 (fun f => xo 12 _ _ _ (by decide) (by decide) (fun q => absurd q (by decide))) (fun q q1 q2 => em q (by omega) (by omega))
    · exact vr_eq h2 b2 b1 (fun f => xo 13 _ _ _ (by decide) (by decide) (fun q => absurd q (by decide))) (fun f => xo 14 _ _ _ (by decide) (by decide) (fun q => absurd q (by decide))) (fun q q1 q2 => em q (by omega) (by omega))
    · exact gr_eq h3 b3 (fun f => xo 16 _ _ _ (by decide) (by decide) (fun q => absurd q (by decide))) (fun q q1 q2 => em q (by omega) (by omega))
    · exact pr_eq h4 b4 (fun f => xo 17 _ _ _ (by decide) (by decide) (fun q => absurd q (by decide))) (fun f => xo 18 _ _ _ (by decide) (by decide) (fun q => absurd q (by decide))) (fun f => xo 19 _ _ _ (by decide) (by decide) (fun q => absurd q (by decide))) (em 0 (by decide) (by decide)) (fun q q1 q2 => em q (by omega) (by omega))
    · intro k hk
      by_cases c : k = nl
      · subst c
        refine ⟨p, w, s, r, t, hp, hw1, hw, hs, hr, ht, ⟨l0, k0⟩, ?_, ?_, ⟨l3, k1⟩, ⟨l4, k2⟩, ⟨l5, k3⟩, ⟨l6, k4⟩, Or.inl ⟨l78.1, k5, l78.2⟩⟩
        · rw [l1, xo 17 _ _ _ (by decide) (by decide) (fun q => absurd q (by decide)), p0]
        · rw [l2, xo 18 _ _ _ (by decide) (by decide) (fun q => absurd q (by decide)), p1]
      · exact lr_eq (h5 k (by omega)) (fun f => xo 17 _ _ _ (by decide) (by decide) (fun q => absurd q (by decide))) (fun f => xo 18 _ _ _ (by decide) (by decide) (fun q => absurd q (by decide))) (fun f => xo 22 _ _ _ (by decide) (by decide) (fun _ => c)) (fun w hw => er _ (by intro w'; unfold iL; omega) (by unfold iL; omega) (by unfold iL iT; omega) (by unfold iL iT; omega) (by unfold iL iT; omega))
    · intro k hk
      by_cases c : k = t
      · subst c
        have e0 : r' (iT k 0) = nI ca' := by
          rw [er _ (by intro w'; unfold iL iT; omega) (by unfold iT; omega) (by unfold iT; omega) (by unfold iT; omega) (by unfold iT; omega)]
          exact m0
        refine ⟨ca', co' + w, sg + w * s, hroom, hca, by omega, ⟨c0, e0⟩, ⟨c1, kt1⟩, c2.trans kt2.symm, ⟨c3, kt3⟩, Or.inr ⟨by omega, v', hv, kt2⟩⟩
      · exact tr_eq (h6 k hk) (cne k c) (fun w hw => er _ (by intro w'; unfold iL iT; omega) (by unfold iT; omega) (by unfold iT; omega) (by unfold iT; omega) (by unfold iT; omega))
    · exact fun k hk => or_eq (h7 k hk) (fun f => xo 27 _ _ _ (by decide) (by decide) (fun q => absurd q (by decide))) (fun w hw => er _ (by intro w'; unfold iL iB; omega) (by unfold iB; omega) (by unfold iB iT; omega) (by unfold iB iT; omega) (by unfold iB iT; omega))
    · intro k q1 q2
      rw [er (iT k 1) (by intro w'; unfold iL iT; omega) (by unfold iT; omega) (by unfold iT; omega) (by unfold iT; omega) (by unfold iT; omega), er (iT k 3) (by intro w'; unfold iL iT; omega) (by unfold iT; omega) (by unfold iT; omega) (by unfold iT; omega) (by unfold iT; omega)]
      exact h8 k q1 q2
    · exact zv_eq h9 (fun q q1 q2 => em q (by omega) (by omega))
  · intro i hi
    by_cases c : i = nl
    · subst c
      exact Or.inr l78.1
    · exact Or.inl (xo 22 j i 7 (by decide) (by decide) (fun _ => c))
end ACCEPT
set_option maxRecDepth 20000 in
theorem u_deliver {X : XT} {M : MT} (h : RR X M) (v w s : Int32) : UR (f_X11_deliver X v w s) (t_X11_deliver X v w s) (f_X12_deliver M v w s) M [(2, 1), (1, 2), (0, 3)] := by
  obtain ⟨nc, nv, ng, np, nl, nt, nb, hq, hb⟩ := h.q
  have hbb := hb.b
  obtain ⟨i, hi1, hi2⟩ := are_ w s M
  unfold f_X11_deliver t_X11_deliver f_X12_deliver
  rcases rg v (n := np) (by omega) with ⟨a, ha, rfl⟩ | hv
  · rw [m_plot_1 hb h.1 ha, bn1_s (a := (1 : Int32)), hi1, bn1_s (a := i), if_neg (show ¬ (1 : Int32) = 0 by decide)]
    rcases hi2 with ⟨c1, c2, c3, c4, rfl⟩ | ⟨rfl, c⟩
    · rw [if_neg (show ¬ (1 : Int32) = 0 by decide)]
      obtain ⟨k, e1, e2, -⟩ := reason_ hb ha w s
      rw [e2, bn1_s (a := k)]
      by_cases c : k = 0
      · rw [if_pos c]
        obtain ⟨X1, M1, f1, g1, R1, eb, -, em1, -, em0, -⟩ := note_ (h.thr 0)
        have em1' : M1.1 M1.2.2 = M.1 M.2.2 := by rw [R1.1, em1, h.1, mi_ne (by decide)]
        have hb1 : BRn X1 1 (M.1 M.2.2) nc nv ng np nl nt nb := (hb.eq eb)
        have hb2 : BRn X1 1 (M1.1 M1.2.2) nc nv ng np nl nt nb := by rw [em1']; exact hb1
        obtain ⟨k1, a1, a2, -⟩ := reason_ hb1 ha w s
        obtain rfl : k1 = k := Option.some.inj (a2.symm.trans e2)
        obtain ⟨k2, a3, a4, -, a5⟩ := reason_ hb2 ha w s
        obtain rfl : k2 = k1 := Option.some.inj (a3.symm.trans a1)
        obtain ⟨hl, v', t, g, hv', ht, hg, y1, y2, t1, t2, g1', g2'⟩ := a5 c
        obtain ⟨w', hw1, hw2, rfl⟩ := nI_up1 (n := 5000) c1 c2 (by decide)
        obtain ⟨s', hs2, rfl⟩ := nI_up (n := 250) (Int32.not_lt.mp c3) c4 (by decide)
        obtain ⟨r, X', M', eX, eM, u, hb3, bo, -⟩ := accept_ hb2 ha hw1 hw2 hs2 hl hv' ht hg y1 y2 t1 t2 g1' g2'
        refine Or.inl ⟨r, X', M', ?_, ?_, ?_, ?_⟩
        · rw [(n_plot_1 hb ha).1, bn1_s, (n_weight_1 c1 c2).1, bn1_s, (n_sugar_1 c3 c4).1, bn1_s, e1, bn1_s, if_pos c, f1, bn1_s, eX, bn2_s]
        · unfold f_X12_passes3
          rw [if_neg (by decide), if_neg (by decide), if_neg (by decide), bnd_s, mi00, if_pos rfl, bn2_s, if_neg (by decide), g1, bn1_s, eM, bn2_s]
        · refine R1.upd u ⟨nc, nv, ng, np, nl + 1, nt, nb, ?_⟩ fun i hi => ?_
          · rw [u.2.2, R1.1] at hb3
            exact hb3
          · rcases bo i hi with q | q
            · rw [q]; exact R1.2.1 1 (by decide) i hi
            · exact Or.inl q
        · rw [u.2.1 0 (by rw [R1.1]; decide), em0]
          simp [mi]
      · rw [if_neg c]
        refine Or.inr ⟨0, 3, 0, List.mem_cons_of_mem _ (List.mem_cons_of_mem _ List.mem_cons_self), ?_, ?_⟩
        · rw [(n_plot_1 hb ha).2, orE_n, (n_plot_1 hb ha).1, bn1_s, (n_weight_1 c1 c2).2, orE_n, (n_weight_1 c1 c2).1, bn1_s, (n_sugar_1 c3 c4).2, orE_n, (n_sugar_1 c3 c4).1, bn1_s, e1, bn1_s, if_neg c]
        · rw [ps3_110 (by decide) (by decide), bn2_s, if_pos rfl]
    · rw [if_pos rfl]
      refine Or.inr ⟨1, 2, 0, List.mem_cons_of_mem _ List.mem_cons_self, ?_, ?_⟩
      · rw [(n_plot_1 hb ha).2, orE_n, (n_plot_1 hb ha).1, bn1_s]
        rcases c with c | ⟨c1, c2, c⟩
        · rw [(n_weight_0 c).2, orE_s]
        · rw [(n_weight_1 c1 c2).2, orE_n, (n_weight_1 c1 c2).1, bn1_s, (n_sugar_0 c).2, orE_s]
      · rw [ps3_10 (by decide), bn2_s, if_pos rfl]
  · refine Or.inr ⟨2, 1, 0, List.mem_cons_self, ?_, ?_⟩
    · rw [(n_plot_0 hb hv).2, orE_s]
    · rw [m_plot_0 hb h.1 hv, bn1_s, hi1, bn1_s, if_pos rfl, ps3_0, bn2_s, if_pos rfl]
