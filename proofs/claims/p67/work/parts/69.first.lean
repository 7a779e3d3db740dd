/-! PURE: the fresh object -/
def z19 : List Int32 := []
def z18 : List Int32 := strB.getD 7 [] ++ ([32] ++ (decL 1 ++ ([32] ++ (decL 90 ++ ([32] ++ (decL 95 ++ ([59] ++ (z19))))))))
def z17 : List Int32 := strB.getD 7 [] ++ ([32] ++ (decL 2 ++ ([32] ++ (decL 200 ++ ([32] ++ (decL 76 ++ ([59] ++ (z18))))))))
def z16 : List Int32 := strB.getD 7 [] ++ ([32] ++ (decL 1 ++ ([32] ++ (decL 280 ++ ([32] ++ (decL 78 ++ ([59] ++ (z17))))))))
def z15 : List Int32 := strB.getD 7 [] ++ ([32] ++ (decL 0 ++ ([32] ++ (decL 400 ++ ([32] ++ (decL 92 ++ ([59] ++ (z16))))))))
def z14 : List Int32 := strB.getD 6 [] ++ ([32] ++ (decL 300 ++ ([59] ++ (z15))))
def z13 : List Int32 := strB.getD 6 [] ++ ([32] ++ (decL 500 ++ ([59] ++ (z14))))
def z12 : List Int32 := strB.getD 6 [] ++ ([32] ++ (decL 700 ++ ([59] ++ (z13))))
def z11 : List Int32 := strB.getD 5 [] ++ ([32] ++ ([98, 101, 114, 116] ++ ([32] ++ (strB.getD 19 [] ++ ([32] ++ (decL 8 ++ ([59] ++ (z12))))))))
def z10 : List Int32 := strB.getD 5 [] ++ ([32] ++ ([98, 101, 114, 116] ++ ([32] ++ (strB.getD 18 [] ++ ([32] ++ (decL 10 ++ ([59] ++ (z11))))))))
def z9 : List Int32 := strB.getD 5 [] ++ ([32] ++ (strB.getD 20 [] ++ ([32] ++ (strB.getD 18 [] ++ ([32] ++ (decL 20 ++ ([59] ++ (z10))))))))
def z8 : List Int32 := strB.getD 4 [] ++ ([32] ++ ([98, 101, 114, 116] ++ ([59] ++ (z9))))
def z7 : List Int32 := strB.getD 4 [] ++ ([32] ++ (strB.getD 20 [] ++ ([59] ++ (z8))))
def z6 : List Int32 := strB.getD 3 [] ++ ([32] ++ (strB.getD 19 [] ++ ([32] ++ (decL 1 ++ ([32] ++ (decL 8 ++ ([59] ++ (z7))))))))
def z5 : List Int32 := strB.getD 3 [] ++ ([32] ++ (strB.getD 19 [] ++ ([32] ++ (decL 0 ++ ([32] ++ (decL 10 ++ ([59] ++ (z6))))))))
def z4 : List Int32 := strB.getD 3 [] ++ ([32] ++ (strB.getD 18 [] ++ ([32] ++ (decL 2 ++ ([32] ++ (decL 5 ++ ([59] ++ (z5))))))))
def z3 : List Int32 := strB.getD 3 [] ++ ([32] ++ (strB.getD 18 [] ++ ([32] ++ (decL 1 ++ ([32] ++ (decL 9 ++ ([59] ++ (z4))))))))
def z2 : List Int32 := strB.getD 3 [] ++ ([32] ++ (strB.getD 18 [] ++ ([32] ++ (decL 0 ++ ([32] ++ (decL 12 ++ ([59] ++ (z3))))))))
def z1 : List Int32 := strB.getD 2 [] ++ ([32] ++ (strB.getD 19 [] ++ ([59] ++ (z2))))
def z0 : List Int32 := strB.getD 2 [] ++ ([32] ++ (strB.getD 18 [] ++ ([59] ++ (z1))))
def zc3 : List Int32 := [59] ++ z0
def zc2 : List Int32 := [32] ++ (decL 60 ++ zc3)
def zc1 : List Int32 := [32] ++ (decL 75 ++ zc2)
def zc0 : List Int32 := [32] ++ (decL 90 ++ zc1)
def zT : List Int32 := strB.getD 0 [] ++ ([32] ++ (decL 30 ++ ([32] ++ (decL 5000 ++ ([59] ++ (strB.getD 1 [] ++ zc0))))))
set_option maxRecDepth 20000 in
theorem zT_ok : [] ++ strB.getD 12 [] ++ strB.getD 13 [] ++ strB.getD 14 [] ++ strB.getD 15 [] ++ strB.getD 16 [] ++ strB.getD 17 [] = zT := by decide +kernel
set_option maxRecDepth 20000 in
theorem ok_0 : OKL z0 := Or.inr ⟨2, _, by decide, rfl⟩
set_option maxRecDepth 20000 in
theorem ok_1 : OKL z1 := Or.inr ⟨2, _, by decide, rfl⟩
set_option maxRecDepth 20000 in
theorem ok_2 : OKL z2 := Or.inr ⟨3, _, by decide, rfl⟩
set_option maxRecDepth 20000 in
theorem ok_3 : OKL z3 := Or.inr ⟨3, _, by decide, rfl⟩
set_option maxRecDepth 20000 in
theorem ok_4 : OKL z4 := Or.inr ⟨3, _, by decide, rfl⟩
set_option maxRecDepth 20000 in
theorem ok_5 : OKL z5 := Or.inr ⟨3, _, by decide, rfl⟩
set_option maxRecDepth 20000 in
theorem ok_6 : OKL z6 := Or.inr ⟨3, _, by decide, rfl⟩
set_option maxRecDepth 20000 in
theorem ok_7 : OKL z7 := Or.inr ⟨4, _, by decide, rfl⟩
set_option maxRecDepth 20000 in
theorem ok_8 : OKL z8 := Or.inr ⟨4, _, by decide, rfl⟩
set_option maxRecDepth 20000 in
theorem ok_9 : OKL z9 := Or.inr ⟨5, _, by decide, rfl⟩
set_option maxRecDepth 20000 in
theorem ok_10 : OKL z10 := Or.inr ⟨5, _, by decide, rfl⟩
set_option maxRecDepth 20000 in
theorem ok_11 : OKL z11 := Or.inr ⟨5, _, by decide, rfl⟩
set_option maxRecDepth 20000 in
theorem ok_12 : OKL z12 := Or.inr ⟨6, _, by decide, rfl⟩
set_option maxRecDepth 20000 in
theorem ok_13 : OKL z13 := Or.inr ⟨6, _, by decide, rfl⟩
set_option maxRecDepth 20000 in
theorem ok_14 : OKL z14 := Or.inr ⟨6, _, by decide, rfl⟩
set_option maxRecDepth 20000 in
theorem ok_15 : OKL z15 := Or.inr ⟨7, _, by decide, rfl⟩
set_option maxRecDepth 20000 in
theorem ok_16 : OKL z16 := Or.inr ⟨7, _, by decide, rfl⟩
set_option maxRecDepth 20000 in
theorem ok_17 : OKL z17 := Or.inr ⟨7, _, by decide, rfl⟩
set_option maxRecDepth 20000 in
theorem ok_18 : OKL z18 := Or.inr ⟨7, _, by decide, rfl⟩
set_option maxRecDepth 20000 in
theorem ok_19 : OKL z19 := Or.inl rfl
def D1 : NF := fun i k => match i with
  | 0 => [3, 2, 2, 3, 3, 5000, 30].getD k 0
  | 1 => [90, 75, 60].getD k 0
  | 2 => [0, 1, 1].getD k 0
  | 3 => [0, 0, 1].getD k 0
  | 4 => [600, 300, 240].getD k 0
  | 5 => [700, 500, 300].getD k 0
  | _ => 0
def vn1 (v : Nat) : Int32 := namL (if v = 0 then strB.getD 18 [] else strB.getD 19 [])
def gn1 (g : Nat) : Int32 := namL (if g = 0 then strB.getD 20 [] else [98, 101, 114, 116])
set_option maxRecDepth 20000 in
theorem nm1 : ((∀ x ∈ strB.getD 18 [], kb x = 2) ∧ vn1 0 ≠ 0) ∧ ((∀ x ∈ strB.getD 19 [], kb x = 2) ∧ vn1 1 ≠ 0) ∧ ((∀ x ∈ strB.getD 20 [], kb x = 2) ∧ gn1 0 ≠ 0) ∧ (∀ x ∈ ([98, 101, 114, 116] : List Int32), kb x = 2) ∧ gn1 1 ≠ 0 := by decide +kernel
set_option maxRecDepth 20000 in
theorem wv0 : nmw (strB.getD 18 []) (vn1 0) := ⟨⟨by decide, Or.inl rfl, nm1.1.1⟩, by decide, rfl, nm1.1.2⟩
set_option maxRecDepth 20000 in
theorem wv1 : nmw (strB.getD 19 []) (vn1 1) := ⟨⟨by decide, Or.inl rfl, nm1.2.1.1⟩, by decide, rfl, nm1.2.1.2⟩
set_option maxRecDepth 20000 in
theorem wg0 : nmw (strB.getD 20 []) (gn1 0) := ⟨⟨by decide, Or.inl rfl, nm1.2.2.1.1⟩, by decide, rfl, nm1.2.2.1.2⟩
set_option maxRecDepth 20000 in
theorem wg1 : nmw ([98, 101, 114, 116] : List Int32) (gn1 1) := ⟨⟨by decide, Or.inl rfl, nm1.2.2.2.1⟩, by decide, rfl, nm1.2.2.2.2⟩
set_option maxRecDepth 20000 in
theorem df1 : vn1 0 ≠ vn1 1 ∧ gn1 0 ≠ gn1 1 ∧ vn1 0 ≠ gn1 0 ∧ vn1 1 ≠ gn1 0 ∧ vn1 0 ≠ gn1 1 ∧ vn1 1 ≠ gn1 1 := by decide +kernel
set_option maxRecDepth 20000 in
theorem sch_b : ∀ t, t < 22 → ∀ i, i < strN.getD t 0 → ((sch t i).toInt8.toInt32).toInt8.toInt32 = sch t i := by decide +kernel
set_option maxRecDepth 20000 in
theorem sl_N2 : ∀ t, t < 22 → slen t = nI (strN.getD t 0) ∧ strN.getD t 0 < 100 ∧ (strB.getD t []).length = strN.getD t 0 := by decide +kernel
set_option maxRecDepth 20000 in
theorem addT {t : Nat} (ht : t < 22) {T : List Int32} {X0 : XT} (hn : T.length + strN.getD t 0 ≤ 600) (h : BX X0 (TX T) T.length) : ∃ X', f_X10_addText X0 t = some X' ∧ BX X' (TX (T ++ strB.getD t [])) (T ++ strB.getD t []).length ∧ ∀ k j i f, k ≠ 2 ∨ 2 ≤ f → k ≠ 3 → X' k j i f = X0 k j i f := by
  obtain ⟨l1, l2, l3⟩ := sl_N2 t ht
  have go : ∀ d i f (X : XT), i + d = strN.getD t 0 → d < f → X 2 0 0 1 = nI (T.length + i) → (∀ q, q < T.length → X 3 0 0 q = TX T q) → (∀ q, q < i → X 3 0 0 (T.length + q) = sch t q) → (∀ k j i f, k ≠ 2 ∨ 2 ≤ f → k ≠ 3 → X k j i f = X0 k j i f) → ∃ X', f_X10_addText_2 t f X (nI i) = some X' ∧ X' 2 0 0 1 = nI (T.length + strN.getD t 0) ∧ (∀ q, q < T.length → X' 3 0 0 q = TX T q) ∧ (∀ q, q < strN.getD t 0 → X' 3 0 0 (T.length + q) = sch t q) ∧ (∀ k j i f, k ≠ 2 ∨ 2 ≤ f → k ≠ 3 → X' k j i f = X0 k j i f) := by
    intro d
    induction d with
    | zero =>
      intro i f X hi hf a1 a2 a3 a4
      obtain ⟨f, rfl⟩ := fuel hf
      obtain rfl : i = strN.getD t 0 := by omega
      rw [f_X10_addText_2, l1, if_pos (nI_le (Nat.le_refl _) (by omega))]
      exact ⟨X, rfl, a1, a2, a3, a4⟩
    | succ d ih =>
      intro i f X hi hf a1 a2 a3 a4
      obtain ⟨f, rfl⟩ := fuel hf
      rw [f_X10_addText_2, l1, if_neg (nI_ge (by omega) (by omega)), gd_t (nI_in (by omega) (by omega)), nI_clamp (by omega)]
      have e : f_X10_addByte X (sch t i) = some (xs (xs X 3 0 0 (T.length + i) (sch t i)) 2 0 0 1 (nI (T.length + i + 1))) := by
        unfold f_X10_addByte
        rw [a1, if_neg (show ¬ (600 : Int32) ≤ nI (T.length + i) from nI_ge (a := T.length + i) (b := 600) (by omega) (by decide)), gd_t (nI_in (by omega) (by decide)), nI_clamp (by omega), bnd_s, xs_o (by omega), a1, nI_1, bnd_s, sch_b t ht i (by omega)]
      rw [e, bn1_s, nI_1]
      refine ih (i + 1) f _ (by omega) (by omega) (by rw [xs_i, Nat.add_assoc]) (fun q hq => ?_) (fun q hq => ?_) (fun k j i' f' a c => ?_)
      · rw [xs_o (by omega), xs_o (by omega)]; exact a2 q hq
      · rw [xs_o (by omega)]
        by_cases c : q = i
        · subst c; exact xs_i
        · rw [xs_o (by omega)]; exact a3 q (by omega)
      · rw [xs_o (by omega), xs_o (by omega)]; exact a4 k j i' f' a c
  obtain ⟨X', e, b1, b2, b3, b4⟩ := go (strN.getD t 0) 0 2000 X0 (by omega) (by omega) h.2.1 h.2.2 (fun q hq => absurd hq (Nat.not_lt_zero _)) (fun _ _ _ _ _ _ => rfl)
  refine ⟨X', e, ⟨by rw [List.length_append]; omega, by rw [List.length_append, l3]; exact b1, fun i hi => ?_⟩, b4⟩
  rw [List.length_append] at hi
  unfold TX
  by_cases c : i < T.length
  · rw [getD_app_lo c]
    exact b2 i c
  · have := b3 (i - T.length) (by omega)
    rw [show T.length + (i - T.length) = i by omega] at this
    rw [this, show i = T.length + (i - T.length) by omega, getD_app_hi]
    rw [show T.length + (i - T.length) - T.length = i - T.length by omega]
    rfl
