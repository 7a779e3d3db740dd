/-! PURE: the text is fed, twenty signs at a time -/
def cb (T : List Int32) (i : Nat) : Nat := (T.getD i 0).toNatClampNeg
def pk4 (T : List Int32) (k : Nat) : Nat := ((cb T k * 256 + cb T (k + 1)) * 256 + cb T (k + 2)) * 256 + cb T (k + 3)
set_option maxRecDepth 20000 in
theorem cb_ok {T : List Int32} (h : okc T) (i : Nat) : T.getD i 0 = nI (cb T i) ∧ cb T i < 128 := by
  unfold cb
  by_cases c : i < T.length
  · exact h _ (getD_me c)
  · rw [List.getD_eq_getElem?_getD, List.getElem?_eq_none (by omega)]
    exact ⟨rfl, by decide⟩
set_option maxRecDepth 20000 in
theorem or8 {x d : Nat} (hx : x < 2 ^ 23) (hd : d < 256) : (nI x <<< ((8 : Int32) &&& 31)) ||| nI d = nI (x * 256 + d) := by
  have e1 : nI x <<< ((8 : Int32) &&& 31) = nI (x * 2 ^ 8) := pk_shlN _ 8 (by decide) (by omega)
  rw [e1]
  apply Int32.toBitVec_inj.mp
  rw [Int32.toBitVec_or]
  apply BitVec.eq_of_toNat_eq
  rw [BitVec.toNat_or, pk_tn (by omega), pk_tn (by omega), pk_tn (by omega), Nat.mul_comm x, ← Nat.two_pow_add_eq_or_of_lt (i := 8) (by omega)]
set_option maxRecDepth 20000 in
theorem by8 {n : Nat} (hn : n < 2 ^ 31) (h : n % 256 < 128) : (nI n).toInt8.toInt32 = nI (n % 256) := by
  apply Int32.toInt_inj.mp
  rw [Int8.toInt_toInt32, Int32.toInt_toInt8, nI_toInt hn, nI_toInt (by omega)]
  rw [Int.bmod_def]
  split <;> omega
section FEED
variable {X X0 : XT} {T : List Int32}
set_option maxRecDepth 20000 in
theorem four_s (h : okc T) {k j x f : Nat} (hk : k + j < 2 ^ 31) (hl : T.length < 2 ^ 31) (hj : j < 4) (hx : x < 2 ^ 23) : f_L_four_4 T (nI k) (f + 1) (nI x) (nI j) = f_L_four_4 T (nI k) f (nI (x * 256 + cb T (k + j))) (nI (j + 1)) := by
  obtain ⟨c1, c2⟩ := cb_ok h (k + j)
  rw [f_L_four_4, if_neg (show ¬ (4 : Int32) ≤ nI j from nI_ge (b := 4) hj (by decide)), nI_add, nI_1]
  by_cases c : T.length ≤ k + j
  · rw [if_pos (nI_le c hk), show ((0 : Int32)) = nI 0 from rfl, or8 hx (by decide), bnd_s]
    have : cb T (k + j) = 0 := by
      unfold cb
      rw [List.getD_eq_getElem?_getD, List.getElem?_eq_none c]
      rfl
    rw [this]
  · rw [if_neg (nI_ge (by omega) hl), bnd_s, gd_t (nI_in (by omega) hl), nI_clamp hk, c1, or8 hx (by omega), bnd_s]
set_option maxRecDepth 20000 in
theorem four_ (h : okc T) {k : Nat} (hk : k + 4 < 2 ^ 31) (hl : T.length < 2 ^ 31) : f_L_four T (nI k) = some (nI (pk4 T k)) := by
  have b0 := (cb_ok h k).2
  have b1 := (cb_ok h (k + 1)).2
  have b2 := (cb_ok h (k + 2)).2
  unfold f_L_four
  have s0 := four_s h (k := k) (j := 0) (x := 0) (f := 1999) (by omega) hl (by decide) (by decide)
  have s1 := four_s h (k := k) (j := 1) (x := 0 * 256 + cb T (k + 0)) (f := 1998) (by omega) hl (by decide) (by rw [Nat.add_zero]; omega)
  have s2 := four_s h (k := k) (j := 2) (x := (0 * 256 + cb T (k + 0)) * 256 + cb T (k + 1)) (f := 1997) (by omega) hl (by decide) (by rw [Nat.add_zero]; omega)
  have s3 := four_s h (k := k) (j := 3) (x := ((0 * 256 + cb T (k + 0)) * 256 + cb T (k + 1)) * 256 + cb T (k + 2)) (f := 1996) (by omega) hl (by decide) (by rw [Nat.add_zero]; omega)
  show f_L_four_4 T (nI k) (1999 + 1) (nI 0) (nI 0) = _
  rw [s0, s1, s2, s3, f_L_four_4, if_pos (show (4 : Int32) ≤ nI (3 + 1) by decide)]
  rw [Nat.add_zero, Nat.zero_mul, Nat.zero_add]
  rfl
/-- L signs of the text are in the buffer -/
def FB (X0 X : XT) (T : List Int32) (L : Nat) : Prop := X 2 0 0 1 = nI L ∧ (∀ i, i < L → X 3 0 0 i = nI (cb T i)) ∧ (∀ k j i f, k ≠ 3 → (k ≠ 2 ∨ f ≠ 1) → X k j i f = X0 k j i f)
set_option maxRecDepth 20000 in
theorem addb {L n : Nat} (h : FB X0 X T L) (hL : L < 600) (hn : n < 2 ^ 31) (hc : n % 256 = cb T L) (h8 : cb T L < 128) : ∃ X', f_X10_addByte X (nI n) = some X' ∧ FB X0 X' T (L + 1) := by
  obtain ⟨h1, h2, h3⟩ := h
  refine ⟨xs (xs X 3 0 0 L (nI (cb T L))) 2 0 0 1 (nI (L + 1)), ?_, xs_i, fun i hi => ?_, fun k j i f q1 q2 => ?_⟩
  · unfold f_X10_addByte
    rw [h1, if_neg (show ¬ (600 : Int32) ≤ nI L from nI_ge (b := 600) hL (by decide)), gd_t (nI_in hL (by decide)), nI_clamp (by omega), by8 hn (by omega), hc, by8 (by omega) (by omega), Nat.mod_eq_of_lt (show cb T L < 256 by omega), bnd_s, xs_o (by omega), h1, nI_1, bnd_s]
  · by_cases q : i = L
    · rw [q, xs_o (by omega), xs_i]
    · rw [xs_o (by omega), xs_o (by omega)]
      exact h2 i (by omega)
  · rw [xs_o (by omega), xs_o (by omega)]
    exact h3 k j i f q1 q2
set_option maxRecDepth 20000 in
theorem add4 (ho : okc T) {L : Nat} (h : FB X0 X T L) (hL : L + 4 ≤ 600) : ∃ X', f_X10_addFour X (nI (pk4 T L)) = some X' ∧ FB X0 X' T (L + 4) := by
  have b0 := (cb_ok ho L).2
  have b1 := (cb_ok ho (L + 1)).2
  have b2 := (cb_ok ho (L + 2)).2
  have b3 := (cb_ok ho (L + 3)).2
  have hp : pk4 T L < 2 ^ 31 := by
    unfold pk4
    omega
  have e1 : nI (pk4 T L) >>> ((24 : Int32) &&& 31) = nI (pk4 T L / 2 ^ 24) := pk_shrN hp _ 24 (by decide)
  have e2 : nI (pk4 T L) >>> ((16 : Int32) &&& 31) = nI (pk4 T L / 2 ^ 16) := pk_shrN hp _ 16 (by decide)
  have e3 : nI (pk4 T L) >>> ((8 : Int32) &&& 31) = nI (pk4 T L / 2 ^ 8) := pk_shrN hp _ 8 (by decide)
  obtain ⟨X1, a1, g1⟩ := addb (n := pk4 T L / 2 ^ 24) h (by omega) (by omega) (by unfold pk4; omega) b0
  obtain ⟨X2, a2, g2⟩ := addb (L := L + 1) (n := pk4 T L / 2 ^ 16) g1 (by omega) (by omega) (by unfold pk4; omega) b1
  obtain ⟨X3, a3, g3⟩ := addb (L := L + 2) (n := pk4 T L / 2 ^ 8) g2 (by omega) (by omega) (by unfold pk4; omega) b2
  obtain ⟨X4, a4, g4⟩ := addb (L := L + 3) (n := pk4 T L) g3 (by omega) (by omega) (by unfold pk4; omega) b3
  refine ⟨X4, ?_, g4⟩
  unfold f_X10_addFour
  rw [e1, e2, e3, a1, bn1_s, a2, bn1_s, a3, bn1_s, a4, bn1_s]
set_option maxRecDepth 20000 in
theorem app_ (ho : okc T) {L : Nat} (h : FB X0 X T L) (hL : L + 20 ≤ 600) : ∃ X', f_X11_append X (nI (pk4 T L)) (nI (pk4 T (L + 4))) (nI (pk4 T (L + 8))) (nI (pk4 T (L + 12))) (nI (pk4 T (L + 16))) = some (nI (L + 20), X') ∧ FB X0 X' T (L + 20) := by
  obtain ⟨X1, a1, g1⟩ := add4 ho h (by omega)
  obtain ⟨X2, a2, g2⟩ := add4 ho g1 (by omega)
  obtain ⟨X3, a3, g3⟩ := add4 ho g2 (by omega)
  obtain ⟨X4, a4, g4⟩ := add4 ho g3 (by omega)
  obtain ⟨X5, a5, g5⟩ := add4 ho g4 (by omega)
  refine ⟨X5, ?_, g5⟩
  unfold f_X11_append f_X10_hasRoomFor
  rw [h.1, show (600 : Int32) - nI L = nI (600 - L) from pk_sub (a := 600) (by omega), if_neg (show ¬ nI (600 - L) < 20 from nI_nlt (b := 20) (by omega) (by omega)), bn1_s, if_neg (by decide), a1, bn1_s, a2, bn1_s, a3, bn1_s, a4, bn1_s, a5, bn1_s, g5.1]
set_option maxRecDepth 20000 in
theorem feed_ (ho : okc T) (h0 : 0 < T.length) (h590 : T.length ≤ 590) : ∀ d k f (X : XT) (last : Int32), FB X0 X T k → k % 20 = 0 → k ≤ 600 → T.length ≤ k + 20 * d → d < f → (0 < k → last = nI k) → ∃ X', f_L_feed_4 T f X last (nI k) = some X' ∧ FB X0 X' T T.length := by
  intro d
  induction d with
  | zero =>
    intro k f X last h h20 h600 hd hf hlast
    obtain ⟨f, rfl⟩ := fuel hf
    have hl := hlast (by omega)
    subst hl
    have hmin : (if nI T.length < nI k then nI T.length else nI k) = nI T.length := by
      by_cases c : T.length < k
      · rw [if_pos (nI_lt c (by omega))]
      · rw [if_neg (nI_nlt (by omega) (by omega))]
        exact congrArg nI (by omega)
    refine ⟨xs X 2 0 0 1 (nI T.length), ?_, xs_i, fun i hi => ?_, fun k' j i f q1 q2 => ?_⟩
    · unfold f_L_feed_4 f_X11_truncate
      rw [if_neg (nI_nlt (by omega) (by omega)), if_neg (nI_ne0 (by omega) (by omega)), hmin, if_neg (nI_pos (by omega)), h.1, if_pos (nI_le (by omega) (by omega)), bnd_s, bn2_s]
    · rw [xs_o (by omega)]
      exact h.2.1 i (by omega)
    · rw [xs_o (by omega)]
      exact h.2.2 k' j i f q1 q2
  | succ d ih =>
    intro k f X last h h20 h600 hd hf hlast
    by_cases c : T.length ≤ k
    · obtain ⟨f, rfl⟩ := fuel hf
      have hl := hlast (by omega)
      subst hl
      have hmin : (if nI T.length < nI k then nI T.length else nI k) = nI T.length := by
        by_cases c : T.length < k
        · rw [if_pos (nI_lt c (by omega))]
        · rw [if_neg (nI_nlt (by omega) (by omega))]
          exact congrArg nI (by omega)
      refine ⟨xs X 2 0 0 1 (nI T.length), ?_, xs_i, fun i hi => ?_, fun k' j i f q1 q2 => ?_⟩
      · unfold f_L_feed_4 f_X11_truncate
        rw [if_neg (nI_nlt (by omega) (by omega)), if_neg (nI_ne0 (by omega) (by omega)), hmin, if_neg (nI_pos (by omega)), h.1, if_pos (nI_le (by omega) (by omega)), bnd_s, bn2_s]
      · rw [xs_o (by omega)]
        exact h.2.1 i (by omega)
      · rw [xs_o (by omega)]
        exact h.2.2 k' j i f q1 q2
    · obtain ⟨f, rfl⟩ := fuel hf
      obtain ⟨X1, a1, g1⟩ := app_ ho h (by omega)
      obtain ⟨X', e, g⟩ := ih (k + 20) f X1 (nI (k + 20)) g1 (by omega) (by omega) (by omega) (by omega) (fun _ => rfl)
      refine ⟨X', ?_, g⟩
      rw [f_L_feed_4, if_pos (nI_lt (by omega) (by omega)), four_ ho (by omega) (by omega), bn1_s, show nI k + 4 = nI (k + 4) from nI_add k 4, four_ ho (by omega) (by omega), bn1_s, show nI k + 8 = nI (k + 8) from nI_add k 8, four_ ho (by omega) (by omega), bn1_s, show nI k + 12 = nI (k + 12) from nI_add k 12, four_ ho (by omega) (by omega), bn1_s, show nI k + 16 = nI (k + 16) from nI_add k 16, four_ ho (by omega) (by omega), bn1_s, a1, bn2_s, show nI k + 20 = nI (k + 20) from nI_add k 20]
      exact e
set_option maxRecDepth 20000 in
theorem L_feed (ho : okc T) (h0 : 0 < T.length) (h590 : T.length ≤ 590) (hx : X 2 0 0 1 = 0) : ∃ X', f_L_feed X T = some X' ∧ BX X' (TX T) T.length ∧ (∀ k j i f, k ≠ 3 → (k ≠ 2 ∨ f ≠ 1) → X' k j i f = X k j i f) := by
  obtain ⟨X', e, g1, g2, g3⟩ := feed_ (X0 := X) ho h0 h590 30 0 2000 X 0 ⟨hx, fun i hi => absurd hi (Nat.not_lt_zero _), fun _ _ _ _ _ _ => rfl⟩ rfl (by decide) (by omega) (by decide) (fun q => absurd q (Nat.lt_irrefl _))
  refine ⟨X', e, ⟨by omega, g1, fun i hi => ?_⟩, g3⟩
  rw [g2 i hi]
  exact (cb_ok ho i).1.symm
end FEED
