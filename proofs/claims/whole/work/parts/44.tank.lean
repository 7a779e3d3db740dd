/-! PURE: bottles filled, tanks pumped -/
section TANK
variable {X : XT} {j : Nat} {M : MT} {nc nv ng np nl nt nb : Nat}
set_option maxRecDepth 20000 in
theorem mean_ {t co sg : Nat} (e1 : X 26 j t 1 = nI co) (e3 : X 26 j t 3 = nI sg) (h0 : 0 < co) (h1 : co ≤ 20000) (h2 : sg < 2 ^ 30) : f_X9_mean X j t = some (nI (sg / co)) := by
  unfold f_X9_mean
  rw [e1, e3, if_neg (nI_nle h0 (by omega)), gd_t (nI_ne0 h0 (by omega)), pk_div (by omega) h0 (by omega)]
set_option maxRecDepth 20000 in
theorem draw_ {t co sg w : Nat} (e1 : X 26 j t 1 = nI co) (e3 : X 26 j t 3 = nI sg) (h0 : 0 < co) (h1 : co ≤ 20000) (h2 : sg < 2 ^ 30) (hw : w ≤ co) : ∃ X', f_X9_draw X j t (nI w) = some X' ∧ X' 26 j t 1 = nI (co - w) ∧ X' 26 j t 2 = (if co = w then -1 else X 26 j t 2) ∧ X' 26 j t 3 = nI (if co = w then 0 else sg - w * (sg / co)) ∧ (∀ k j' i f, (k ≠ 26 ∨ j' ≠ j ∨ i ≠ t ∨ f = 0) → X' k j' i f = X k j' i f) := by
  have hle : w * (sg / co) ≤ sg := Nat.le_trans (Nat.mul_le_mul_right _ hw) (Nat.mul_div_le sg co)
  have hY : ∀ k j' i f, (k ≠ 26 ∨ j' ≠ j ∨ i ≠ t ∨ f = 0 ∨ f = 2) → (xs (xs X 26 j t 3 (nI (sg - w * (sg / co)))) 26 j t 1 (nI (co - w))) k j' i f = X k j' i f := by
    intro k j' i f q
    rw [xs_o (by omega), xs_o (by omega)]
  unfold f_X9_draw
  rw [mean_ e1 e3 h0 h1 h2, bn1_s, pk_mul, e3, show nI sg - nI (w * (sg / co)) = nI (sg - w * (sg / co)) from pk_sub hle, bnd_s, xs_o (by omega), e1, show nI co - nI w = nI (co - w) from pk_sub hw, bnd_s, xs_i]
  by_cases c : co = w
  · rw [if_pos (show nI (co - w) = (0 : Int32) by rw [c, Nat.sub_self]; rfl), if_pos c, if_pos c]
    unfold f_X9_makeEmpty
    rw [bnd_s, bnd_s, bnd_s, bn1_s]
    refine ⟨_, rfl, ?_, ?_, ?_, fun k j' i f q => ?_⟩
    · rw [xs_o (by omega), xs_o (by omega), xs_i, c, Nat.sub_self]; rfl
    · rw [xs_o (by omega), xs_i]
    · exact xs_i
    · rw [xs_o (by omega), xs_o (by omega), xs_o (by omega)]
      exact hY k j' i f (by omega)
  · rw [if_neg (show ¬ nI (co - w) = (0 : Int32) from fun q => c (by have := (nI_01 (by omega)).mp q; omega)), if_neg c, if_neg c]
    refine ⟨_, rfl, xs_i, hY _ _ _ _ (by omega), ?_, fun k j' i f q => hY k j' i f (by omega)⟩
    rw [xs_o (by omega), xs_i]
set_option maxRecDepth 20000 in
theorem drawM_ {t co sg w : Nat} (ht : t < 5) {x : Int32} (e1 : M.1 M.2.2 (iT t 1) = nI co) (e3 : M.1 M.2.2 (iT t 3) = nI sg) (h1 : co ≤ 20000) (h2 : sg < 2 ^ 30) (hw : w ≤ co) : ∃ M', (bn1 (f_X12_ofTank M (nI t) 1) (fun r3 => bn1 (f_X12_setTank M (nI t) 1 (r3 - nI w)) (fun M6 => bn1 (f_X12_ofTank M6 (nI t) 3) (fun r4 => bn1 (f_X12_setTank M6 (nI t) 3 (r4 - (nI w * nI (sg / co)))) (fun M7 => bn1 (f_X12_ofTank M7 (nI t) 1) (fun r5 => if r5 = 0 then (bn1 (f_X12_empty M7 (nI t)) (fun M8 => some (x, M8))) else (some (x, M7)))))))) = some (x, M') ∧ M'.1 M.2.2 (iT t 1) = nI (co - w) ∧ M'.1 M.2.2 (iT t 2) = (if co = w then -1 else M.1 M.2.2 (iT t 2)) ∧ M'.1 M.2.2 (iT t 3) = nI (if co = w then 0 else sg - w * (sg / co)) ∧ (∀ q, q ≠ iT t 1 → q ≠ iT t 2 → q ≠ iT t 3 → M'.1 M.2.2 q = M.1 M.2.2 q) ∧ (∀ k, k ≠ M.2.2 → M'.1 k = M.1 k) ∧ M'.2 = M.2 := by
  have hle : w * (sg / co) ≤ sg := Nat.le_trans (Nat.mul_le_mul_right _ hw) (Nat.mul_div_le sg co)
  have T1 : ∀ (N : MT) (z : Int32), f_X12_setTank N (nI t) 1 z = some (mi N N.2.2 (iT t 1) z) := fun N z => sT (w := 1) ht (by decide) z
  have T2 : ∀ (N : MT) (z : Int32), f_X12_setTank N (nI t) 2 z = some (mi N N.2.2 (iT t 2) z) := fun N z => sT (w := 2) ht (by decide) z
  have T3 : ∀ (N : MT) (z : Int32), f_X12_setTank N (nI t) 3 z = some (mi N N.2.2 (iT t 3) z) := fun N z => sT (w := 3) ht (by decide) z
  have O1 : ∀ (N : MT), f_X12_ofTank N (nI t) 1 = some (N.1 N.2.2 (iT t 1)) := fun N => oT (w := 1) ht (by decide)
  have O3 : ∀ (N : MT), f_X12_ofTank N (nI t) 3 = some (N.1 N.2.2 (iT t 3)) := fun N => oT (w := 3) ht (by decide)
  rw [O1, bn1_s, e1, show nI co - nI w = nI (co - w) from pk_sub hw, T1, bn1_s, O3, bn1_s]
  rw [show (mi M M.2.2 (iT t 1) (nI (co - w))).1 (mi M M.2.2 (iT t 1) (nI (co - w))).2.2 (iT t 3) = nI sg from (mi_o (by unfold iT; omega)).trans e3, pk_mul, show nI sg - nI (w * (sg / co)) = nI (sg - w * (sg / co)) from pk_sub hle, T3, bn1_s, O1, bn1_s]
  let N : MT := mi (mi M M.2.2 (iT t 1) (nI (co - w))) M.2.2 (iT t 3) (nI (sg - w * (sg / co)))
  have n1 : N.1 M.2.2 (iT t 1) = nI (co - w) := by
    show (mi _ _ _ _).1 M.2.2 _ = _
    rw [mi_o (by unfold iT; omega), mi_i]
  have no : ∀ q, q ≠ iT t 1 → q ≠ iT t 3 → N.1 M.2.2 q = M.1 M.2.2 q := by
    intro q a b
    show (mi _ _ _ _).1 M.2.2 _ = _
    rw [mi_o b, mi_o a]
  have nk : ∀ k, k ≠ M.2.2 → N.1 k = M.1 k := by
    intro k hk
    show (mi _ _ _ _).1 k = _
    rw [mi_ne hk, mi_ne hk]
  show ∃ M', (if N.1 M.2.2 (iT t 1) = 0 then bn1 (f_X12_empty N (nI t)) (fun M8 => some (x, M8)) else some (x, N)) = some (x, M') ∧ _
  rw [n1]
  by_cases c : co = w
  · rw [if_pos (show nI (co - w) = (0 : Int32) by rw [c, Nat.sub_self]; rfl), if_pos c, if_pos c]
    unfold f_X12_empty
    rw [T1, bn1_s, T2, bn1_s, T3, bn1_s, bn1_s]
    refine ⟨_, rfl, ?_, ?_, ?_, fun q a b d => ?_, fun k hk => ?_, rfl⟩
    · show (mi (mi (mi N M.2.2 (iT t 1) 0) M.2.2 (iT t 2) (-1)) M.2.2 (iT t 3) 0).1 M.2.2 _ = _
      rw [mi_o (by unfold iT; omega), mi_o (by unfold iT; omega), mi_i, c, Nat.sub_self]; rfl
    · show (mi (mi (mi N M.2.2 (iT t 1) 0) M.2.2 (iT t 2) (-1)) M.2.2 (iT t 3) 0).1 M.2.2 _ = _
      rw [mi_o (by unfold iT; omega), mi_i]
    · exact mi_i
    · show (mi (mi (mi N M.2.2 (iT t 1) 0) M.2.2 (iT t 2) (-1)) M.2.2 (iT t 3) 0).1 M.2.2 _ = _
      rw [mi_o d, mi_o b, mi_o a]
      exact no q a d
    · show (mi (mi (mi N M.2.2 (iT t 1) 0) M.2.2 (iT t 2) (-1)) M.2.2 (iT t 3) 0).1 k = _
      rw [mi_ne hk, mi_ne hk, mi_ne hk]
      exact nk k hk
  · rw [if_neg (show ¬ nI (co - w) = (0 : Int32) from fun q => c (by have := (nI_01 (by omega)).mp q; omega)), if_neg c, if_neg c]
    exact ⟨N, rfl, n1, no _ (by unfold iT; omega) (by unfold iT; omega), mi_i, fun q a b d => no q a d, nk, rfl⟩
set_option maxRecDepth 20000 in
theorem fill_ (h : BRn X j (M.1 M.2.2) nc nv ng np nl nt nb) {t co w : Nat} (ht : t < nt) (hb12 : nb < 12) (e1 : X 26 j t 1 = nI co) (hco : co < 2 ^ 31) (hw1 : 1 ≤ w) (hw : w ≤ co) : ∃ X' M', f_X2_fillLot X j j t (nI w) = some (nI nb, X') ∧ f_X12_bottleNow M (nI t) (nI w) = some (nI nb, M') ∧ UB X M j X' M' ∧ BRn X' j (M'.1 M'.2.2) nc nv ng np nl nt (nb + 1) ∧ (∀ i, X' 22 j i 7 = X 22 j i 7) ∧ M'.1 M.2.2 0 = M.1 M.2.2 0 := by
  have hbb := h.b
  obtain ⟨ca, co', sg, hcc, hca, hsg, ⟨x0, m0⟩, ⟨x1, m1⟩, x2, ⟨x3, m3⟩, hvar⟩ := h.t ht
  obtain rfl : co = co' := (nI_eq hco (by omega)).mp (e1.symm.trans x1)
  obtain ⟨hc0, v, hv, hvm⟩ := hvar.resolve_left (fun q => by omega)
  have hmean : sg / co < 2 ^ 30 := Nat.lt_of_le_of_lt (Nat.div_le_self sg co) hsg
  let X4 : XT := xs (xs (xs (xs X 27 j nb 0 (nI v)) 27 j nb 1 (nI (sg / co))) 27 j nb 2 (nI w)) 27 j nb 3 (nI w)
  have x4 : ∀ k j' i f, (k ≠ 27 ∨ i ≠ nb ∨ j' ≠ j) → X4 k j' i f = X k j' i f := by
    intro k j' i f q
    show xs _ _ _ _ _ _ k j' i f = _
    rw [xs_o (by omega), xs_o (by omega), xs_o (by omega), xs_o (by omega)]
  obtain ⟨X5, d0, d1, d2, d3, d4⟩ := draw_ (X := X4) (j := j) (t := t) (co := co) (sg := sg) (w := w) ((x4 _ _ _ _ (by omega)).trans x1) ((x4 _ _ _ _ (by omega)).trans x3) hc0 (by omega) hsg hw
  let X' : XT := xs X5 23 j 0 3 (nI (nb + 1))
  have eX : f_X2_fillLot X j j t (nI w) = some (nI nb, X') := by
    unfold f_X2_fillLot
    rw [h.c.2.2.2.2.2.2.1, if_pos (show nI nb < 12 from nI_lt hb12 (by decide)), gd_t (nI_in hb12 (by decide)), nI_clamp (by omega), x2, hvm, bnd_s, mean_ (X := xs X 27 j nb 0 (nI v)) ((xs_o (by omega)).trans x1) ((xs_o (by omega)).trans x3) hc0 (by omega) hsg, bn1_s, bnd_s, bnd_s, bnd_s]
    show bn1 (f_X9_draw X4 j t (nI w)) _ = _
    rw [d0, bn1_s, d4 23 j 0 3 (by omega), x4 23 j 0 3 (by omega), h.c.2.2.2.2.2.2.1, show nI nb + 1 = nI (nb + 1) from nI_add nb 1, bnd_s, xs_i, show nI (nb + 1) - 1 = nI nb from (pk_sub (a := nb + 1) (b := 1) (by omega)).trans (congrArg nI (Nat.add_sub_cancel nb 1))]
  -- the row
  let M5 : MT := mi (mi (mi (mi (mi M M.2.2 9 (nI (nb + 1))) M.2.2 (iB nb 0) (nI v)) M.2.2 (iB nb 1) (nI (sg / co))) M.2.2 (iB nb 2) (nI w)) M.2.2 (iB nb 3) (nI w)
  have m5 : ∀ q, q ≠ 9 → (∀ w, q ≠ iB nb w ∨ 4 ≤ w) → M5.1 M.2.2 q = M.1 M.2.2 q := by
    intro q a b
    show (mi _ _ _ _).1 M.2.2 q = _
    rw [mi_o ((b 3).resolve_right (by decide)), mi_o ((b 2).resolve_right (by decide)), mi_o ((b 1).resolve_right (by decide)), mi_o ((b 0).resolve_right (by decide)), mi_o a]
  obtain ⟨M', p0, p1, p2, p3, p4, p5, p6⟩ := drawM_ (M := M5) (t := t) (co := co) (sg := sg) (w := w) (by omega) (x := nI nb) ((m5 _ (by unfold iT; omega) (by intro w; unfold iT iB; omega)).trans m1) ((m5 _ (by unfold iT; omega) (by intro w; unfold iT iB; omega)).trans m3) (by omega) hsg hw
  have eM : f_X12_bottleNow M (nI t) (nI w) = some (nI nb, M') := by
    have B0 : ∀ (N : MT) (z : Int32), f_X12_setLot N (nI nb) 0 z = some (mi N N.2.2 (iB nb 0) z) := fun N z => sB (w := 0) hb12 (by decide) z
    have B1 : ∀ (N : MT) (z : Int32), f_X12_setLot N (nI nb) 1 z = some (mi N N.2.2 (iB nb 1) z) := fun N z => sB (w := 1) hb12 (by decide) z
    have B2 : ∀ (N : MT) (z : Int32), f_X12_setLot N (nI nb) 2 z = some (mi N N.2.2 (iB nb 2) z) := fun N z => sB (w := 2) hb12 (by decide) z
    have B3 : ∀ (N : MT) (z : Int32), f_X12_setLot N (nI nb) 3 z = some (mi N N.2.2 (iB nb 3) z) := fun N z => sB (w := 3) hb12 (by decide) z
    obtain ⟨co2, sg2, y1, y3, y4, y5, y6, y7⟩ := h.mean ht
    obtain rfl : co2 = co := (nI_eq (by omega) (by omega)).mp (y1.symm.trans x1)
    obtain rfl : sg2 = sg := (nI_eq (by omega) (by omega)).mp (y3.symm.trans x3)
    unfold f_X12_bottleNow
    rw [y7, bn1_s, h.c.2.2.2.2.2.2.2, show nI nb + 1 = nI (nb + 1) from nI_add nb 1, bnd_s]
    have o2 : f_X12_ofTank (mi M M.2.2 9 (nI (nb + 1))) (nI t) 2 = some (nI v) := by
      rw [show f_X12_ofTank (mi M M.2.2 9 (nI (nb + 1))) (nI t) 2 = some ((mi M M.2.2 9 (nI (nb + 1))).1 M.2.2 (iT t 2)) from oT (w := 2) (by omega) (by decide), mi_o (by unfold iT; omega), hvm]
    rw [o2, bn1_s, B0, bn1_s, B1, bn1_s, B2, bn1_s, B3, bn1_s]
    exact p0
  have x' : ∀ k j' i f, k ≠ 23 → X' k j' i f = X5 k j' i f := fun k j' i f hk => xs_o (Or.inl hk)
  have no : ∀ k j' i f, k ≠ 23 → k ≠ 26 → k ≠ 27 → X' k j' i f = X k j' i f := by
    intro k j' i f a b c
    rw [x' k j' i f a, d4 k j' i f (Or.inl b), x4 k j' i f (Or.inl c)]
  refine ⟨X', M', eX, eM, ?_, ?_, fun i => no 22 j i 7 (by decide) (by decide) (by decide), (p4 0 (by show _ ≠ iT t 1; unfold iT; omega) (by show _ ≠ iT t 2; unfold iT; omega) (by show _ ≠ iT t 3; unfold iT; omega)).trans (m5 0 (by decide) (fun w => Or.inl (by unfold iB; omega)))⟩
  · refine ⟨fun k j' i f q => ?_, fun k hk => ?_, p6⟩
    · show xs _ _ _ _ _ _ k j' i f = _
      rw [xs_o (by omega), d4 k j' i f (by omega), x4 k j' i f (by omega)]
    · rw [p5 k hk]
      show (mi _ _ _ _).1 k = _
      rw [mi_ne hk, mi_ne hk, mi_ne hk, mi_ne hk, mi_ne hk]
  · rw [show M'.2.2 = M.2.2 from congrArg (·.2) p6]
    have p1 : M'.1 M.2.2 (iT t 1) = nI (co - w) := p1
    have p2 : M'.1 M.2.2 (iT t 2) = (if co = w then -1 else M5.1 M.2.2 (iT t 2)) := p2
    have p3 : M'.1 M.2.2 (iT t 3) = nI (if co = w then 0 else sg - w * (sg / co)) := p3
    have p4 : ∀ q, q ≠ iT t 1 → q ≠ iT t 2 → q ≠ iT t 3 → M'.1 M.2.2 q = M5.1 M.2.2 q := p4
    rw [m5 _ (by unfold iT; omega) (by intro w; unfold iT iB; omega), hvm] at p2
    rw [x4 26 j t 2 (by omega), x2, hvm] at d2
    have er : ∀ q, q ≠ 9 → (∀ w, q ≠ iB nb w ∨ 4 ≤ w) → q ≠ iT t 1 → q ≠ iT t 2 → q ≠ iT t 3 → M'.1 M.2.2 q = M.1 M.2.2 q := fun q a b c d e => (p4 q c d e).trans (m5 q a b)
    have k9 : M'.1 M.2.2 9 = nI (nb + 1) := by
      rw [p4 9 (by unfold iT; omega) (by unfold iT; omega) (by unfold iT; omega)]
      show (mi _ _ _ _).1 M.2.2 9 = _
      rw [mi_o (by unfold iB; omega), mi_o (by unfold iB; omega), mi_o (by unfold iB; omega), mi_o (by unfold iB; omega), mi_i]
    have kb : M'.1 M.2.2 (iB nb 0) = nI v ∧ M'.1 M.2.2 (iB nb 1) = nI (sg / co) ∧ M'.1 M.2.2 (iB nb 2) = nI w ∧ M'.1 M.2.2 (iB nb 3) = nI w := by
      refine ⟨?_, ?_, ?_, ?_⟩ <;> rw [p4 _ (by unfold iT iB; omega) (by unfold iT iB; omega) (by unfold iT iB; omega)] <;> show (mi _ _ _ _).1 M.2.2 _ = _
      · rw [mi_o (by unfold iB; omega), mi_o (by unfold iB; omega), mi_o (by unfold iB; omega), mi_i]
      · rw [mi_o (by unfold iB; omega), mi_o (by unfold iB; omega), mi_i]
      · rw [mi_o (by unfold iB; omega), mi_i]
      · rw [mi_i]
    have xb : X' 27 j nb 0 = nI v ∧ X' 27 j nb 1 = nI (sg / co) ∧ X' 27 j nb 2 = nI w ∧ X' 27 j nb 3 = nI w := by
      refine ⟨?_, ?_, ?_, ?_⟩ <;> rw [x' 27 _ _ _ (by decide), d4 27 _ _ _ (by omega)] <;> show xs _ _ _ _ _ _ 27 j nb _ = _
      · rw [xs_o (by omega), xs_o (by omega), xs_o (by omega), xs_i]
      · rw [xs_o (by omega), xs_o (by omega), xs_i]
      · rw [xs_o (by omega), xs_i]
      · rw [xs_i]
    have x23 : X' 23 j 0 3 = nI (nb + 1) ∧ X' 23 j 0 2 = X 23 j 0 2 := by
      refine ⟨xs_i, ?_⟩
      show xs _ _ _ _ _ _ 23 j 0 2 = _
      rw [xs_o (by omega), d4 23 j 0 2 (by omega), x4 23 j 0 2 (by omega)]
    have hle : (if co = w then 0 else sg - w * (sg / co)) ≤ sg := by split <;> omega
    have hz : co = w → (if co = w then 0 else sg - w * (sg / co)) = 0 := fun q => if_pos q
    generalize (if co = w then 0 else sg - w * (sg / co)) = sg' at p3 d3 hle hz
    obtain ⟨⟨b1, b2, b3, b4, b5, b6, b7⟩, hc', m', h1, h2, h3, h4, h5, h6, h7, h8, h9⟩ := h
    generalize M'.1 M.2.2 = r' at p1 p2 p3 er k9 kb ⊢
    have em : ∀ q, q < 196 → q ≠ 9 → r' q = M.1 M.2.2 q := fun q a b => er q b (by intro w; unfold iB; omega) (by unfold iT; omega) (by unfold iT; omega) (by unfold iT; omega)
    have et : ∀ k f, k ≠ t → k < 5 → f < 4 → r' (iT k f) = M.1 M.2.2 (iT k f) := fun k f a b c => er _ (by unfold iT; omega) (by intro w; unfold iT iB; omega) (by unfold iT; omega) (by unfold iT; omega) (by unfold iT; omega)
    have hsg2 := sgT_upd (r := M.1 M.2.2) (r' := r') (t := t) (by omega) (fun k hk hkt => et k 3 hkt hk (by decide))
    rw [m3, p3, nI_clamp (by omega), nI_clamp (by omega)] at hsg2
    refine ⟨⟨b1, b2, b3, b4, b5, b6, by omega⟩, ?_, ?_, ?_, ?_, ?_, ?_, ?_, ?_, ?_, ?_, ?_⟩
    · rw [no 11 _ _ _ (by decide) (by decide) (by decide), no 11 _ _ _ (by decide) (by decide) (by decide), no 15 _ _ _ (by decide) (by decide) (by decide), no 15 _ _ _ (by decide) (by decide) (by decide), no 20 _ _ _ (by decide) (by decide) (by decide), x23.1, x23.2, em 3 (by decide) (by decide), em 4 (by decide) (by decide), em 5 (by decide) (by decide), em 6 (by decide) (by decide), em 7 (by decide) (by decide), em 8 (by decide) (by decide), k9]
      exact ⟨hc'.1, hc'.2.1, hc'.2.2.1, hc'.2.2.2.1, hc'.2.2.2.2.1, hc'.2.2.2.2.2.1, ⟨rfl, rfl⟩⟩
    · rw [no 10 _ _ _ (by decide) (by decide) (by decide), no 10 _ _ _ (by decide) (by decide) (by decide), no 10 _ _ _ (by decide) (by decide) (by decide), psum_eq (X := X) (j := j) nl (fun i hi => no 22 _ _ _ (by decide) (by decide) (by decide)), em 1 (by decide) (by decide), em 10 (by decide) (by decide), em 2 (by decide) (by decide), em 11 (by decide) (by decide)]
      exact ⟨m'.1, m'.2.1, m'.2.2.1, m'.2.2.2.1, m'.2.2.2.2.1, by have := m'.2.2.2.2.2; omega⟩
    · exact cl_eq h1 b1 (fun f => no 12 _ _ _ (by decide) (by decide) (by decide)) (fun q q1 q2 => em q (by omega) (by omega))
    · exact vr_eq h2 b2 b1 (fun f => no 13 _ _ _ (by decide) (by decide) (by decide)) (fun f => no 14 _ _ _ (by decide) (by decide) (by decide)) (fun q q1 q2 => em q (by omega) (by omega))
    · exact gr_eq h3 b3 (fun f => no 16 _ _ _ (by decide) (by decide) (by decide)) (fun q q1 q2 => em q (by omega) (by omega))
    · exact pr_eq h4 b4 (fun f => no 17 _ _ _ (by decide) (by decide) (by decide)) (fun f => no 18 _ _ _ (by decide) (by decide) (by decide)) (fun f => no 19 _ _ _ (by decide) (by decide) (by decide)) (em 0 (by decide) (by decide)) (fun q q1 q2 => em q (by omega) (by omega))
    · exact fun k hk => lr_eq (h5 k hk) (fun f => no 17 _ _ _ (by decide) (by decide) (by decide)) (fun f => no 18 _ _ _ (by decide) (by decide) (by decide)) (fun f => no 22 _ _ _ (by decide) (by decide) (by decide)) (fun w hw => em _ (by unfold iL; omega) (by unfold iL; omega))
    · intro k hk
      by_cases c : k = t
      · subst c
        have e0 : r' (iT k 0) = nI ca := by
          rw [er _ (by unfold iT; omega) (by intro w; unfold iT iB; omega) (by unfold iT; omega) (by unfold iT; omega) (by unfold iT; omega)]
          exact m0
        have y0 : X' 26 j k 0 = nI ca := by rw [x' 26 _ _ _ (by decide), d4 26 j k 0 (by omega), x4 26 j k 0 (by omega), x0]
        have y1 : X' 26 j k 1 = nI (co - w) := by rw [x' 26 _ _ _ (by decide), d1]
        have y3 : X' 26 j k 3 = nI sg' := by rw [x' 26 _ _ _ (by decide), d3]
        have y2 : X' 26 j k 2 = if co = w then -1 else nI v := by rw [x' 26 _ _ _ (by decide), d2]
        refine ⟨ca, co - w, sg', by omega, hca, by omega, ⟨y0, e0⟩, ⟨y1, p1⟩, y2.trans p2.symm, ⟨y3, p3⟩, ?_⟩
        by_cases cw : co = w
        · rw [if_pos cw] at p2
          exact Or.inl ⟨by omega, p2, hz cw⟩
        · rw [if_neg cw] at p2
          exact Or.inr ⟨by omega, v, hv, p2⟩
      · exact tr_eq (h6 k hk) (fun f => by rw [x' 26 _ _ _ (by decide), d4 26 j k f (by omega), x4 26 j k f (by omega)]) (fun w hw => et k w c (by omega) hw)
    · intro k hk
      by_cases c : k = nb
      · subst c
        exact ⟨v, sg / co, w, w, hv, hmean, by omega, Nat.le_refl w, ⟨xb.1, kb.1⟩, ⟨xb.2.1, kb.2.1⟩, ⟨xb.2.2.1, kb.2.2.1⟩, ⟨xb.2.2.2, kb.2.2.2⟩⟩
      · exact or_eq (h7 k (by omega)) (fun f => by rw [x' 27 _ _ _ (by decide), d4 27 j k f (by omega), x4 27 j k f (by omega)]) (fun w hw => er _ (by unfold iB; omega) (by intro w'; unfold iB; omega) (by unfold iT iB; omega) (by unfold iT iB; omega) (by unfold iT iB; omega))
    · intro k q1 q2
      rw [et k 1 (by omega) q2 (by decide), et k 3 (by omega) q2 (by decide)]
      exact h8 k q1 q2
    · exact zv_eq h9 (fun q q1 q2 => em q (by omega) (by omega))
end TANK
