/-! PURE: the relation of the two sides between calls; the questions as steps -/
set_option maxRecDepth 20000 in
theorem reason_ {X : XT} {j : Nat} {M : MT} {nc nv ng np nl nt nb : Nat} (h : BRn X j (M.1 M.2.2) nc nv ng np nl nt nb) {p : Nat} (hp : p < np) (w s : Int32) : ∃ r : Int32, f_X0_reasonAgainst X j (nI p) w s = some r ∧ f_X12_reasonOf M (nI p) w s = some r ∧ (r = 0 ∨ r = 1 ∨ r = 2 ∨ r = 3) ∧ (r = 0 → nl < 20 ∧ ∃ v t g, v < nv ∧ t < nt ∧ g < nc ∧ f_X5_varietyOn X j (nI p) = some (nI v) ∧ f_X12_ofPlot M (nI p) 1 = some (nI v) ∧ f_X2_chooseTank X j (nI v) w = some (nI t) ∧ f_X12_tankOf M (nI v) w = some (nI t) ∧ f_X1_gradeOfSugar X j s = some (nI g) ∧ f_X12_gradeOf M s = some (nI g)) := by
  obtain ⟨b1, b2, b3, b4, b5, b6, b7⟩ := h.b
  obtain ⟨o, v, ho, hv, -, ⟨y1, s1⟩, -⟩ := h.p hp
  have q1 : f_X12_ofPlot M (nI p) 1 = some (nI v) := (oP (M := M) (k := p) (w := 1) (by omega) (by decide)).trans (congrArg some s1)
  have q2 : f_X5_varietyOn X j (nI p) = some (nI v) := by
    unfold f_X5_varietyOn
    rw [if_neg (nI_pos (by omega)), h.c.2.2.2.1.1, if_neg (nI_ge hp (by omega)), gd_t (nI_in (by omega) (by decide)), nI_clamp (by omega), y1]
  obtain ⟨g, g1, g2, g3⟩ := h.grade s
  obtain ⟨t, t1, t2, t3⟩ := h.tank hv w
  unfold f_X0_reasonAgainst f_X12_reasonOf f_X3_isFull
  rw [h.c.2.2.2.2.1.1, h.c.2.2.2.2.1.2, g1, bn1_s, g2, bn1_s, q2, bn1_s, q1, bn1_s, t1, bn1_s, t2, bn1_s]
  by_cases c1 : nl < 20
  · rw [if_pos (show nI nl < 20 from nI_lt c1 (by decide)), bn1_s, if_pos rfl, if_neg (show ¬ nI nl = 20 from fun q => by have := (nI_eq (b := 20) (by omega) (by decide)).mp q; omega)]
    by_cases c2 : g = -1
    · rw [if_pos c2]
      exact ⟨2, rfl, rfl, Or.inr (Or.inr (Or.inl rfl)), fun q => absurd q (by decide)⟩
    · rw [if_neg c2]
      by_cases c3 : t = -1
      · rw [if_pos c3]
        exact ⟨3, rfl, rfl, Or.inr (Or.inr (Or.inr rfl)), fun q => absurd q (by decide)⟩
      · rw [if_neg c3]
        obtain ⟨g', hg', rfl⟩ := g3.resolve_left c2
        obtain ⟨t', ht', rfl⟩ := t3.resolve_left c3
        exact ⟨0, rfl, rfl, Or.inl rfl, fun _ => ⟨c1, v, t', g', hv, ht', hg', rfl, rfl, t1, t2, rfl, rfl⟩⟩
  · rw [if_neg (show ¬ nI nl < 20 from nI_nlt (b := 20) (by omega) (by omega)), bn1_s, if_neg (by decide), if_pos (show nI nl = 20 by rw [show nl = 20 by omega]; rfl)]
    exact ⟨1, rfl, rfl, Or.inr (Or.inl rfl), fun q => absurd q (by decide)⟩
set_option maxRecDepth 20000 in
/-- the class that a load would get: of one that is accepted -/
theorem gradeAs_ {X : XT} {j : Nat} {M : MT} {nc nv ng np nl nt nb : Nat} (h : BRn X j (M.1 M.2.2) nc nv ng np nl nt nb) {p g : Nat} (hp : p < np) (w : Int32) {s : Int32} (hg : g < nc) (g1 : f_X1_gradeOfSugar X j s = some (nI g)) (g2 : f_X12_gradeOf M s = some (nI g)) : ∃ r, r < nc ∧ f_X0_gradeFor X j (nI p) w s = some (nI r) ∧ f_X12_gradeAs M (nI p) w s = some (nI r) := by
  obtain ⟨b1, b2, b3, b4, b5, b6, b7⟩ := h.b
  obtain ⟨a, ha, a1, a2⟩ := h.harvest (nI p)
  obtain ⟨l, l1, l2⟩ := h.limit hp
  unfold f_X0_gradeFor f_X12_gradeAs
  rw [a1, bn1_s, l1, bn1_s, g1, bn1_s, a2, bn1_s, l2, bn1_s, g2, bn1_s, h.c.1.1, h.c.1.2]
  by_cases c : nI a + w ≤ l
  · rw [if_pos c]
    exact ⟨g, hg, rfl, rfl⟩
  · rw [if_neg c, show nI nc - 1 = nI (nc - 1) from pk_sub (a := nc) (b := 1) (by omega)]
    exact ⟨nc - 1, by omega, rfl, rfl⟩
set_option maxRecDepth 20000 in
/-- in, passes -/
theorem in_1 {v lo hi : Int32} (h1 : lo ≤ v) (h2 : v ≤ hi) : f_X12_in v.toInt64 lo.toInt64 hi.toInt64 = some 1 := by
  unfold f_X12_in lg_cmp
  rw [Int32.le_iff_toInt_le] at h1 h2
  simp only [gt_iff_lt, Int64.lt_iff_toInt_lt, ← Int64.toInt_inj, Int32.toInt_toInt64]
  repeat' split
  all_goals first | rfl | omega | (exfalso; revert ‹(_ : Int32) < _›; decide) | skip
set_option maxRecDepth 20000 in
theorem in_0 {v lo hi : Int32} (h : v < lo ∨ hi < v) : f_X12_in v.toInt64 lo.toInt64 hi.toInt64 = some 0 := by
  unfold f_X12_in lg_cmp
  rw [Int32.lt_iff_toInt_lt, Int32.lt_iff_toInt_lt] at h
  simp only [gt_iff_lt, Int64.lt_iff_toInt_lt, ← Int64.toInt_inj, Int32.toInt_toInt64]
  repeat' split
  all_goals first | rfl | omega | (exfalso; omega) | (exfalso; exact absurd (show (-1 : Int32) < 0 by decide) ‹¬ (-1 : Int32) < 0›) | skip
set_option maxRecDepth 20000 in
theorem has_1 {a n : Nat} (h : a < n) (hn : n < 1000) : f_X12_in (nI a).toInt64 0 (nI n - 1).toInt64 = some 1 := by
  rw [show nI n - 1 = nI (n - 1) from pk_sub (a := n) (b := 1) (by omega)]
  exact in_1 (lo := 0) (nI_pos' (by omega)) (nI_le (by omega) (by omega))
set_option maxRecDepth 20000 in
theorem has_0 {v : Int32} {n : Nat} (hn : n < 1000) (h : v < 0 ∨ nI n ≤ v) : f_X12_in v.toInt64 0 (nI n - 1).toInt64 = some 0 := by
  refine in_0 (lo := 0) (h.imp id fun h => ?_)
  rw [Int32.le_iff_toInt_le, nI_toInt (by omega)] at h
  rw [Int32.lt_iff_toInt_lt]
  have := pk_sub_toInt (a := n) (b := 1) (by omega) (by decide)
  rw [show nI n - 1 = nI n - nI 1 from rfl, this]
  omega
section PS
variable {M : MT} {v1 v2 v3 : Int32}
set_option maxRecDepth 20000 in
theorem mi00 (c : Int32) : (mi M 0 0 c).1 0 0 = c := by simp [mi]
set_option maxRecDepth 20000 in
theorem ps3_0 : f_X12_passes3 M 0 v2 v3 = some (0, mi M 0 0 1) := by
  unfold f_X12_passes3; rw [if_pos rfl, bnd_s, mi00, if_neg (by decide)]
set_option maxRecDepth 20000 in
theorem ps3_10 (h1 : ¬ v1 = 0) : f_X12_passes3 M v1 0 v3 = some (0, mi M 0 0 2) := by
  unfold f_X12_passes3; rw [if_neg h1, if_pos rfl, bnd_s, mi00, if_neg (by decide)]
set_option maxRecDepth 20000 in
theorem ps3_110 (h1 : ¬ v1 = 0) (h2 : ¬ v2 = 0) : f_X12_passes3 M v1 v2 0 = some (0, mi M 0 0 3) := by
  unfold f_X12_passes3; rw [if_neg h1, if_neg h2, if_pos rfl, bnd_s, mi00, if_neg (by decide)]
set_option maxRecDepth 20000 in
theorem ps3_111 (h1 : ¬ v1 = 0) (h2 : ¬ v2 = 0) (h3 : ¬ v3 = 0) : f_X12_passes3 M v1 v2 v3 = some (1, mi M 0 0 0) := by
  unfold f_X12_passes3; rw [if_neg h1, if_neg h2, if_neg h3, bnd_s, mi00, if_pos rfl]
set_option maxRecDepth 20000 in
theorem ps2_0 : f_X12_passes2 M 0 v2 = some (0, mi M 0 0 1) := by
  unfold f_X12_passes2; rw [ps3_0, bn2_s, gd_t (by decide)]
set_option maxRecDepth 20000 in
theorem ps2_10 : f_X12_passes2 M 1 0 = some (0, mi M 0 0 2) := by
  unfold f_X12_passes2; rw [ps3_10 (by decide), bn2_s, gd_t (by decide)]
set_option maxRecDepth 20000 in
theorem ps2_11 : f_X12_passes2 M 1 1 = some (1, mi M 0 0 0) := by
  unfold f_X12_passes2; rw [ps3_111 (by decide) (by decide) (by decide), bn2_s, gd_t (by decide)]
set_option maxRecDepth 20000 in
theorem ps1_0 : f_X12_passes1 M 0 = some (0, mi M 0 0 1) := by
  unfold f_X12_passes1; rw [ps3_0, bn2_s, gd_t (by decide)]
set_option maxRecDepth 20000 in
theorem ps1_1 : f_X12_passes1 M 1 = some (1, mi M 0 0 0) := by
  unfold f_X12_passes1; rw [ps3_111 (by decide) (by decide) (by decide), bn2_s, gd_t (by decide)]
set_option maxRecDepth 20000 in
theorem tell_ {k : Nat} (h : k < 264) : f_X12_tell M (nI k) = some (M.1 1 k, mi M 0 0 0) := by
  unfold f_X12_tell
  rw [bnd_s, gd_t (nI_in h (by decide)), nI_clamp (by omega), mi_ne (by decide)]
end PS
-- the relation
def wdN (i : Nat) : List Nat := ((strB.getD i []).map (fun c => c.toNatClampNeg - 96)).reverse
def HI (X : XT) (M : MT) : Prop := ∃ nx cn, nx < 6 ∧ cn ≤ 6 ∧ X 4 0 0 1 = nI nx ∧ X 4 0 0 2 = nI cn ∧ M.1 0 27 = nI cn ∧ ∀ t, t < cn → BR X (2 + (nx + 6 - cn + t) % 6) (fun q => M.1 4 (264 * t + q))
def SV (X : XT) (M : MT) : Prop := ∃ b0 b1, b0 < 2 ∧ b1 < 2 ∧ X 7 0 0 0 = nI b0 ∧ X 7 0 0 1 = nI b1 ∧ M.1 0 29 = nI (b0 + 2 * b1) ∧ (b0 = 1 → BR X 8 (fun q => M.1 5 (264 * 0 + q))) ∧ (b1 = 1 → BR X 9 (fun q => M.1 5 (264 * 1 + q)))
def OU (X : XT) (M : MT) : Prop := ∃ t, t ≤ 60 ∧ X 8 0 0 0 = nI t ∧ M.1 0 33 = nI t ∧ ∀ q, q < t → X 9 0 0 q = M.1 6 q
def BF (X : XT) (M : MT) : Prop := ∃ n, n ≤ 600 ∧ X 2 0 0 1 = nI n ∧ M.1 0 5 = nI n ∧ ∀ i, i < n → X 3 0 0 i = M.1 3 i ∧ (X 3 0 0 i).toInt8.toInt32 = X 3 0 0 i
def BO (X : XT) : Prop := ∀ j, j < 10 → ∀ i, i < 20 → X 22 j i 7 = 0 ∨ X 22 j i 7 = 1
def WD (M : MT) : Prop := ∀ i, i < 12 → M.2.1 (14 + i) = lN (pkN 27 (wdN i))
def RR (X : XT) (M : MT) : Prop := M.2.2 = 1 ∧ BO X ∧ BR X 1 (M.1 1) ∧ BF X M ∧ (X 1 0 0 3 = M.1 0 30 ∧ X 1 0 0 4 = M.1 0 31) ∧ HI X M ∧ SV X M ∧ OU X M ∧ WD M
set_option maxRecDepth 20000 in
theorem RR.thr {X : XT} {M : MT} (h : RR X M) (c : Int32) : RR X (mi M 0 0 c) := by
  have e0 : ∀ f, f ≠ 0 → (mi M 0 0 c).1 0 f = M.1 0 f := fun f hf => by simp [mi, hf]
  have e1 : ∀ k, k ≠ 0 → (mi M 0 0 c).1 k = M.1 k := fun k hk => mi_ne hk
  obtain ⟨h1, h2, h3, h4, h5, h6, h7, h8, h9⟩ := h
  refine ⟨h1, h2, by rw [e1 1 (by decide)]; exact h3, ?_, by rw [e0 30 (by decide), e0 31 (by decide)]; exact h5, ?_, ?_, ?_, h9⟩
  · unfold BF; rw [e0 5 (by decide), e1 3 (by decide)]; exact h4
  · unfold HI; rw [e0 27 (by decide), e1 4 (by decide)]; exact h6
  · unfold SV; rw [e0 29 (by decide), e1 5 (by decide)]; exact h7
  · unfold OU; rw [e0 33 (by decide), e1 6 (by decide)]; exact h8
set_option maxRecDepth 20000 in
/-- the book and the row of the net, whatever 'thrown' says -/
theorem RR.q {X : XT} {M : MT} (h : RR X M) : ∃ nc nv ng np nl nt nb, (∀ c : Int32, BRn X 1 ((mi M 0 0 c).1 (mi M 0 0 c).2.2) nc nv ng np nl nt nb ∧ (mi M 0 0 c).2.2 = 1) ∧ BRn X 1 (M.1 M.2.2) nc nv ng np nl nt nb := by
  obtain ⟨nc, nv, ng, np, nl, nt, nb, hb⟩ := h.2.2.1
  refine ⟨nc, nv, ng, np, nl, nt, nb, fun c => ⟨?_, h.1⟩, by rw [h.1]; exact hb⟩
  show BRn X 1 ((mi M 0 0 c).1 M.2.2) nc nv ng np nl nt nb
  rw [h.1, mi_ne (by decide)]
  exact hb
def QR (f : Option Int32) (t : Option Nat) (ref : Option (Int32 × MT)) (M : MT) (cs : List (Nat × Int32)) : Prop := (∃ r, f = some r ∧ ref = some (r, mi M 0 0 0)) ∨ (∃ e k r, (e, k) ∈ cs ∧ t = some e ∧ ref = some (r, mi M 0 0 k))
set_option maxRecDepth 20000 in
theorem orE_s (e : Nat) (b : Option Nat) : orE (some e) b = some e := rfl
set_option maxRecDepth 20000 in
theorem orE_n (b : Option Nat) : orE none b = b := rfl
