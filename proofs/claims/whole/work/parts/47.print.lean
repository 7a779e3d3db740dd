/-! PURE: the output text of both sides -/
def OUn (X : XT) (M : MT) (t : Nat) : Prop := X 8 0 0 0 = nI t ∧ M.1 0 33 = nI t ∧ ∀ q, q < t → X 9 0 0 q = M.1 6 q
def MF (M M' : MT) : Prop := (∀ k, k ≠ 0 → k ≠ 6 → M'.1 k = M.1 k) ∧ (∀ f, f ≠ 33 → M'.1 0 f = M.1 0 f) ∧ M'.2 = M.2
def XF (X X' : XT) : Prop := ∀ k j i f, k ≠ 8 → k ≠ 9 → X' k j i f = X k j i f
set_option maxRecDepth 20000 in
theorem MF.no {M : MT} : MF M M := ⟨fun _ _ _ => rfl, fun _ _ => rfl, rfl⟩
set_option maxRecDepth 20000 in
theorem MF.tr {M M1 M2 : MT} (h : MF M M1) (g : MF M1 M2) : MF M M2 := ⟨fun k a b => (g.1 k a b).trans (h.1 k a b), fun f a => (g.2.1 f a).trans (h.2.1 f a), g.2.2.trans h.2.2⟩
set_option maxRecDepth 20000 in
theorem XF.no {X : XT} : XF X X := fun _ _ _ _ _ _ => rfl
set_option maxRecDepth 20000 in
theorem XF.tr {X X1 X2 : XT} (h : XF X X1) (g : XF X1 X2) : XF X X2 := fun k j i f a b => (g k j i f a b).trans (h k j i f a b)
set_option maxRecDepth 20000 in
theorem XF.ap (X : XT) (t : Nat) (s : Nat → Int32) (w : Nat) : XF X (apX X t s w) := by
  intro k j i f a b
  unfold apX
  rw [if_neg (fun q => b q.1), if_neg (fun q => a q.1)]
set_option maxRecDepth 20000 in
theorem oun0 {X : XT} {M : MT} {t : Nat} (h : OUn X M t) (s : Nat → Int32) : OUn (apX X t s 0) M t := by
  obtain ⟨h1, h2, h3⟩ := h
  refine ⟨rfl, h2, fun q hq => ?_⟩
  unfold apX
  rw [if_neg (by omega), if_neg (by omega)]
  exact h3 q hq
set_option maxRecDepth 20000 in
theorem put_ {X : XT} {M : MT} {t w : Nat} {s : Nat → Int32} (h : OUn (apX X t s w) M (t + w)) (hw : t + w < 200) : ∃ M', f_X12_put M (s w) = some M' ∧ OUn (apX X t s (w + 1)) M' (t + (w + 1)) ∧ MF M M' := by
  obtain ⟨h1, h2, h3⟩ := h
  refine ⟨mi (mi M 6 (t + w) (s w)) 0 33 (nI (t + (w + 1))), ?_, ⟨rfl, mi_i, fun q hq => ?_⟩, ⟨fun k a b => ?_, fun f a => ?_, rfl⟩⟩
  · unfold f_X12_put
    rw [h2, gd_t (nI_in hw (by decide)), nI_clamp (by omega), bnd_s, mi_ne (by decide), h2, show nI (t + w) + 1 = nI (t + (w + 1)) from nI_add (t + w) 1, bnd_s]
  · rw [mi_ne (by decide)]
    by_cases c : q = t + w
    · subst c
      rw [mi_i]
      unfold apX
      rw [if_pos (by omega), show t + w - t = w by omega]
    · rw [mi_o c, ← h3 q (by omega)]
      unfold apX
      by_cases d : t ≤ q
      · rw [if_pos (by omega), if_pos (by omega)]
      · rw [if_neg (by omega), if_neg (by omega), if_neg (by omega), if_neg (by omega)]
  · rw [mi_ne a, mi_ne b]
  · rw [mi_o a, mi_ne (by decide)]
set_option maxRecDepth 20000 in
/-- one character -/
theorem putc {X : XT} {M : MT} {t c : Nat} (h : OUn X M t) (ht : t < 60) (hc : c < 128) : ∃ X' M', f_J4_char X (nI c) = some X' ∧ f_X12_put M (nI c) = some M' ∧ OUn X' M' (t + 1) ∧ XF X X' ∧ MF M M' := by
  obtain ⟨M', e, o, m⟩ := put_ (w := 0) (oun0 h (fun _ => nI c)) (by omega)
  refine ⟨apX X t (fun _ => nI c) 1, M', ?_, e, o, XF.ap _ _ _ _, m⟩
  unfold f_J4_char
  rw [h.1, gd_t ⟨nI_pos (by omega), nI_lt hc (by decide), nI_pos (by omega), nI_lt ht (by decide)⟩, nI_clamp (by omega)]
set_option maxRecDepth 20000 in
/-- the digits of a number, from the d-th one on -/
theorem put18 {X : XT} {t v n : Nat} {s : Nat → Int32} (hv : v < 100000) (hn : n ≤ 5) (hs : ∀ i, i < n → s i = nI (48 + v / 10 ^ (n - 1 - i) % 10)) (ht : t + n < 200) : ∀ d w f (M : MT), w + d = n → d < f → OUn (apX X t s w) M (t + w) → ∃ M', f_X12_putNumber_18 (nI v) f M (nI (if d = 0 then 0 else 10 ^ (d - 1))) = some M' ∧ OUn (apX X t s n) M' (t + n) ∧ MF M M' := by
  intro d
  induction d with
  | zero =>
    intro w f M hw hf h
    obtain ⟨f, rfl⟩ := fuel hf
    obtain rfl : w = n := by omega
    rw [f_X12_putNumber_18, if_pos (by decide)]
    exact ⟨M, rfl, h, MF.no⟩
  | succ d ih =>
    intro w f M hw hf h
    obtain ⟨f, rfl⟩ := fuel hf
    have p1 : 0 < 10 ^ d := Nat.pow_pos (by decide)
    have p2 : 10 ^ d ≤ 10 ^ 4 := Nat.pow_le_pow_right (by decide) (by omega)
    obtain ⟨M1, e, o, m⟩ := put_ h (by omega)
    have hd : nI (10 ^ d) / 10 = nI (if d = 0 then 0 else 10 ^ (d - 1)) := by
      rw [show nI (10 ^ d) / 10 = nI (10 ^ d / 10) from pk_div (d := 10) (by omega) (by decide) (by decide)]
      congr 1
      cases d with
      | zero => rfl
      | succ d => rw [if_neg (by omega), Nat.pow_succ, Nat.mul_div_cancel _ (by decide)]; rfl
    have hs' : (48 : Int32) + ((nI v / nI (10 ^ d)) - (nI v / nI (10 ^ d)) / 10 * 10) = s w := by
      rw [hs w (by omega), pk_div (by omega) p1 (by omega), show n - 1 - w = d by omega]
      rw [show nI (v / 10 ^ d) - nI (v / 10 ^ d) / 10 * 10 = nI (v / 10 ^ d % 10) from pk_rem (d := 10) (by have := Nat.div_le_self v (10 ^ d); omega) (by decide) (by decide)]
      exact nI_add 48 _
    rw [f_X12_putNumber_18, if_neg (Nat.succ_ne_zero d), Nat.add_sub_cancel, if_neg (nI_nle p1 (by omega)), gd_t (nI_ne0 p1 (by omega)), hs', e, bn1_s, hd, bnd_s]
    obtain ⟨M', e', o', m'⟩ := ih (w + 1) f M1 (by omega) (by omega) o
    exact ⟨M', e', o', m.tr m'⟩
set_option maxRecDepth 20000 in
theorem put2 {v : Nat} (hv : v < 100000) {n : Nat} (h1 : 1 ≤ n) (h2 : v < 10 ^ n) (h3 : n = 1 ∨ 10 ^ (n - 1) ≤ v) (hn : n ≤ 5) (M : MT) : ∀ d m f, m + d = n → 1 ≤ m → d < f → f_X12_putNumber_2 (nI v) f M (nI (10 ^ (m - 1))) = f_X12_putNumber_18 (nI v) 2000 M (nI (10 ^ (n - 1))) := by
  intro d
  induction d with
  | zero =>
    intro m f hm m1 hf
    obtain ⟨f, rfl⟩ := fuel hf
    obtain rfl : m = n := by omega
    have p1 : 10 ^ (m - 1) ≤ 10 ^ 4 := Nat.pow_le_pow_right (by decide) (by omega)
    have : 10 ^ m = 10 ^ (m - 1) * 10 := by rw [← Nat.pow_succ, Nat.succ_eq_add_one, Nat.sub_add_cancel m1]
    rw [f_X12_putNumber_2, if_pos]
    rw [show nI v / 10 = nI (v / 10) from pk_div (d := 10) (by omega) (by decide) (by decide)]
    exact nI_lt (by omega) (by omega)
  | succ d ih =>
    intro m f hm m1 hf
    obtain ⟨f, rfl⟩ := fuel hf
    have p1 : 10 ^ m ≤ 10 ^ (n - 1) := Nat.pow_le_pow_right (by decide) (by omega)
    have p2 : 10 ^ (n - 1) ≤ 10 ^ 4 := Nat.pow_le_pow_right (by decide) (by omega)
    have : 10 ^ m = 10 ^ (m - 1) * 10 := by rw [← Nat.pow_succ, Nat.succ_eq_add_one, Nat.sub_add_cancel m1]
    have hv2 := h3.resolve_left (by omega)
    rw [f_X12_putNumber_2, if_neg, bnd_s, show nI (10 ^ (m - 1)) * 10 = nI (10 ^ m) by rw [this]; exact pk_mul _ 10]
    · exact ih (m + 1) f (by omega) (by omega) (by omega)
    · rw [show nI v / 10 = nI (v / 10) from pk_div (d := 10) (by omega) (by decide) (by decide)]
      exact nI_nlt (by omega) (by omega)
set_option maxRecDepth 20000 in
theorem dg_5 {v : Nat} (hv : v < 100000) : 1 ≤ sb_dg v ∧ sb_dg v ≤ 5 ∧ v < 10 ^ sb_dg v ∧ (sb_dg v = 1 ∨ 10 ^ (sb_dg v - 1) ≤ v) := by
  unfold sb_dg
  by_cases c1 : v < 10
  · rw [if_pos c1]; omega
  rw [if_neg c1]
  by_cases c2 : v < 100
  · rw [if_pos c2]; omega
  rw [if_neg c2]
  by_cases c3 : v < 1000
  · rw [if_pos c3]; omega
  rw [if_neg c3]
  by_cases c4 : v < 10000
  · rw [if_pos c4]; omega
  rw [if_neg c4, if_pos hv]; omega
set_option maxRecDepth 20000 in
/-- a number -/
theorem putn {X : XT} {M : MT} {t v : Nat} (h : OUn X M t) (ht : t < 56) (hv : v < 100000) : ∃ X' M' t', f_J4_int X (nI v) = some X' ∧ f_X12_putNumber M (nI v) = some M' ∧ OUn X' M' t' ∧ t' ≤ t + 5 ∧ XF X X' ∧ MF M M' := by
  obtain ⟨d1, d2, d3, d4⟩ := dg_5 hv
  obtain ⟨M', e, o, m⟩ := put18 (X := X) (t := t) (v := v) (n := sb_dg v) (s := fun i => nI (sb_dec v i)) hv d2 (fun i hi => rfl) (by omega) (sb_dg v) 0 2000 M (by omega) (by omega) (oun0 h _)
  rw [if_neg (by omega)] at e
  refine ⟨apX X t (fun i => nI (sb_dec v i)) (sb_dg v), M', t + sb_dg v, ?_, ?_, o, by omega, XF.ap _ _ _ _, m⟩
  · unfold f_J4_int
    rw [h.1, gd_t ⟨nI_pos (by omega), nI_lt hv (by decide), nI_pos (by omega), nI_lt ht (by decide)⟩, nI_clamp (by omega), nI_clamp (by omega)]
  · unfold f_X12_putNumber
    rw [← e]
    exact put2 hv d1 d3 d4 d2 M (sb_dg v - 1) 1 2000 (by omega) (by decide) (by omega)
/-- the letters of a name -/
def cw : List Nat → XT → Option XT | [], X => some X | x :: L, X => bn1 (f_J4_char X (nI (96 + x))) (cw L)
def dsN (n : Nat) : Nat → List Nat | 0 => [] | j + 1 => if n / 2 ^ (5 * j) % 32 = 0 then dsN n j else (n / 2 ^ (5 * j) % 32) :: dsN n j
def esN (n : Nat) : Nat → List Nat | 0 => [] | d + 1 => (n / 27 ^ d % 27) :: esN n d
set_option maxRecDepth 20000 in
theorem ch32 : ∀ d, d < 32 → (((97 + nI d) - 1).toUInt32 % 65536).toInt32 = nI (96 + d) := by decide
set_option maxRecDepth 20000 in
theorem sh5 : ∀ j, j < 4 → ((nI (5 * j) &&& 31).toBitVec.smod 32).toNat = 5 * j := by decide
set_option maxRecDepth 20000 in
theorem wname {n : Nat} (hn : n < 2 ^ 31) : ∀ j X, j ≤ 4 → f_X11_writeName_3 (nI n) (j + 1) X (nI (5 * j) + (-5)) = cw (dsN n j) X := by
  intro j
  induction j with
  | zero =>
    intro X _
    rw [f_X11_writeName_3, if_pos (by decide)]
    rfl
  | succ j ih =>
    intro X hj
    rw [f_X11_writeName_3, show nI (5 * (j + 1)) + (-5) = nI (5 * j) by
      rw [Nat.mul_add, show 5 * j + 5 * 1 = 5 * j + 5 from rfl, ← nI_add, Int32.add_assoc, show nI 5 + -5 = (0 : Int32) by decide, Int32.add_zero]]
    rw [if_neg (nI_pos (by omega)), pk_shrN hn _ (5 * j) (sh5 j (by omega)), show nI (n / 2 ^ (5 * j)) &&& 31 = nI (n / 2 ^ (5 * j) % 2 ^ 5) from pk_andN (by have := Nat.div_le_self n (2 ^ (5 * j)); omega) 5 (by decide), bnd_s, dsN, show (2 : Nat) ^ 5 = 32 from rfl]
    have hlt : n / 2 ^ (5 * j) % 32 < 32 := Nat.mod_lt _ (by decide)
    by_cases c : n / 2 ^ (5 * j) % 32 = 0
    · rw [if_pos c, c, if_pos (show nI 0 = (0 : Int32) from rfl)]
      exact ih X (by omega)
    · rw [if_neg c, if_neg (nI_ne0 (by omega) (by omega)), ch32 _ hlt, cw]
      exact congrArg _ (funext fun X1 => ih X1 (by omega))
set_option maxRecDepth 20000 in
theorem letter {i : Nat} : ∀ k f n, i + k < 1000 → n < 2 ^ 31 → k < f → f_X12_letterOf_7 (nI i) f (nI n) (nI (i + k)) = some (nI (96 + n / 27 ^ k % 27)) := by
  intro k
  induction k with
  | zero =>
    intro f n hi hn hf
    obtain ⟨f, rfl⟩ := fuel hf
    have h27 : n % 27 < 27 := Nat.mod_lt _ (by decide)
    rw [f_X12_letterOf_7, if_pos (nI_le (by omega) (by omega)), show nI n - nI n / 27 * 27 = nI (n % 27) from pk_rem (d := 27) hn (by decide) (by decide), show (97 : Int32) + nI (n % 27) = nI (97 + n % 27) from nI_add 97 _, show nI (97 + n % 27) - 1 = nI (97 + n % 27 - 1) from pk_sub (b := 1) (by omega), Nat.pow_zero, Nat.div_one, show 97 + n % 27 - 1 = 96 + n % 27 by omega]
  | succ k ih =>
    intro f n hi hn hf
    obtain ⟨f, rfl⟩ := fuel hf
    rw [f_X12_letterOf_7, if_neg (nI_ge (by omega) (by omega)), show nI n / 27 = nI (n / 27) from pk_div (d := 27) hn (by decide) (by decide), bnd_s, show nI (i + (k + 1)) + (-1) = nI (i + k) from pk_m1 (i + k), ih f (n / 27) (by omega) (by omega) (by omega), Nat.div_div_eq_div_mul, Nat.pow_succ']
set_option maxRecDepth 20000 in
theorem rname {n len v : Nat} (hv : v < 4) (hl : len ≤ 4) (hn : n < 2 ^ 31) : ∀ d i f X (M : MT) t, i + d = len → d < f → M.1 1 (iV v 0) = nI n → M.1 1 (iV v 1) = nI len → OUn X M t → t + d ≤ 60 → ∃ X' M', cw (esN n d) X = some X' ∧ f_X12_putVariety_16 (nI (iV v 0)) f M (nI i) = some M' ∧ OUn X' M' (t + d) ∧ XF X X' ∧ MF M M' := by
  intro d
  induction d with
  | zero =>
    intro i f X M t hi hf m0 m1 h ht
    obtain ⟨f, rfl⟩ := fuel hf
    obtain rfl : i = len := by omega
    rw [f_X12_putVariety_16, show nI (iV v 0) + 1 = nI (iV v 1) from nI_add _ 1, bnd_s, gd_t (nI_in (by unfold iV; omega) (by decide)), nI_clamp (by unfold iV; omega), m1, if_pos (nI_le (Nat.le_refl _) (by omega))]
    exact ⟨X, M, rfl, rfl, h, XF.no, MF.no⟩
  | succ d ih =>
    intro i f X M t hi hf m0 m1 h ht
    obtain ⟨f, rfl⟩ := fuel hf
    have h27 : n / 27 ^ d % 27 < 27 := Nat.mod_lt _ (by decide)
    obtain ⟨X1, M1, x1, e1, o1, f1, g1⟩ := putc (c := 96 + n / 27 ^ d % 27) h (by omega) (by omega)
    have hlo : f_X12_letterOf (nI n) (nI len) (nI i) = some (nI (96 + n / 27 ^ d % 27)) := by
      unfold f_X12_letterOf
      rw [show nI len - 1 = nI (i + d) by rw [show nI len - 1 = nI (len - 1) from pk_sub (b := 1) (by omega)]; exact congrArg nI (by omega), bnd_s]
      exact letter d 2000 n (by omega) hn (by omega)
    rw [f_X12_putVariety_16, show nI (iV v 0) + 1 = nI (iV v 1) from nI_add _ 1, bnd_s, gd_t (nI_in (by unfold iV; omega) (by decide)), nI_clamp (by unfold iV; omega), m1, if_neg (nI_ge (by omega) (by omega)), show nI (iV v 0) + 0 = nI (iV v 0) from nI_add _ 0, bnd_s, gd_t (nI_in (by unfold iV; omega) (by decide)), nI_clamp (by unfold iV; omega), m0, bnd_s, gd_t (nI_in (by unfold iV; omega) (by decide)), nI_clamp (by unfold iV; omega), m1, hlo, bn1_s, e1, bn1_s, esN, cw, x1, bn1_s]
    obtain ⟨X', M', e, e', o, q1, q2⟩ := ih (i + 1) f X1 M1 (t + 1) (by omega) (by omega) (by rw [g1.1 1 (by decide) (by decide)]; exact m0) (by rw [g1.1 1 (by decide) (by decide)]; exact m1) o1 (by omega)
    rw [show nI i + 1 = nI (i + 1) from nI_add i 1]
    exact ⟨X', M', e, e', by rw [show t + (d + 1) = t + 1 + d by omega]; exact o, f1.tr q1, g1.tr q2⟩
set_option maxRecDepth 20000 in
theorem mdA {a : Nat} (h : a ≤ 26) : a % 32 = a % 27 := by omega
set_option maxRecDepth 20000 in
theorem mdB {a : Nat} (x y : Nat) (h : a ≤ 26) : (32 * x + a) % 32 = (27 * y + a) % 27 := by
  rw [Nat.mul_add_mod, Nat.mul_add_mod]; omega
set_option maxRecDepth 20000 in
theorem words {w : List Nat} (h1 : 1 ≤ w.length) (h2 : w.length ≤ 4) (h3 : isW w) : dsN (pkN 32 w) 4 = esN (pkN 27 w) w.length ∧ pkN 32 w < 2 ^ 31 ∧ pkN 27 w < 2 ^ 31 := by
  match w, h1, h2, h3 with
  | [a], _, _, h3 =>
    have ha := h3 a (by simp)
    refine ⟨?_, by simp only [pkN]; omega, by simp only [pkN]; omega⟩
    generalize hp : pkN 32 _ = p
    generalize hq : pkN 27 _ = q
    simp only [pkN] at hp hq
    simp only [dsN, esN, List.length, Nat.reduceMul, Nat.reducePow, Nat.reduceAdd]
    rw [if_pos (by omega), if_pos (by omega), if_pos (by omega), if_neg (by omega)]
    simp only [List.cons.injEq, and_true]
    omega
  | [b, a], _, _, h3 =>
    have ha := h3 a (by simp)
    have hb := h3 b (by simp)
    refine ⟨?_, by simp only [pkN]; omega, by simp only [pkN]; omega⟩
    generalize hp : pkN 32 _ = p
    generalize hq : pkN 27 _ = q
    simp only [pkN] at hp hq
    simp only [dsN, esN, List.length, Nat.reduceMul, Nat.reducePow, Nat.reduceAdd]
    rw [if_pos (by omega), if_pos (by omega), if_neg (by omega), if_neg (by omega)]
    simp only [List.cons.injEq, and_true]
    omega
  | [c, b, a], _, _, h3 =>
    have ha := h3 a (by simp)
    have hb := h3 b (by simp)
    have hc := h3 c (by simp)
    refine ⟨?_, by simp only [pkN]; omega, by simp only [pkN]; omega⟩
    generalize hp : pkN 32 _ = p
    generalize hq : pkN 27 _ = q
    simp only [pkN] at hp hq
    simp only [dsN, esN, List.length, Nat.reduceMul, Nat.reducePow, Nat.reduceAdd]
    rw [if_pos (by omega), if_neg (by omega), if_neg (by omega), if_neg (by omega)]
    have z1 : p / 1024 = a := by omega
    have z2 : p / 32 = 32 * a + b := by omega
    have z3 : q / 729 = a := by omega
    have z4 : q / 27 = 27 * a + b := by omega
    simp only [List.cons.injEq, and_true, z1, z2, z3, z4]
    exact ⟨mdA ha.2, mdB _ _ hb.2, by omega⟩
  | [d, c, b, a], _, _, h3 =>
    have ha := h3 a (by simp)
    have hb := h3 b (by simp)
    have hc := h3 c (by simp)
    have hd := h3 d (by simp)
    refine ⟨?_, by simp only [pkN]; omega, by simp only [pkN]; omega⟩
    generalize hp : pkN 32 _ = p
    generalize hq : pkN 27 _ = q
    simp only [pkN] at hp hq
    simp only [dsN, esN, List.length, Nat.reduceMul, Nat.reducePow, Nat.reduceAdd]
    rw [if_neg (by omega), if_neg (by omega), if_neg (by omega), if_neg (by omega)]
    have z1 : p / 32768 = a := by omega
    have z2 : p / 1024 = 32 * a + b := by omega
    have z3 : p / 32 = 32 * (32 * a + b) + c := by omega
    have z4 : q / 19683 = a := by omega
    have z5 : q / 729 = 27 * a + b := by omega
    have z6 : q / 27 = 27 * (27 * a + b) + c := by omega
    simp only [List.cons.injEq, and_true, z1, z2, z3, z4, z5, z6]
    exact ⟨mdA ha.2, mdB _ _ hb.2, mdB _ _ hc.2, by omega⟩
set_option maxRecDepth 20000 in
theorem name_ {X : XT} {M : MT} {t v : Nat} {a : Int32} (hv : v < 4) (hn : nmR a (M.1 1 (iV v 0)) (M.1 1 (iV v 1))) (h : OUn X M t) (ht : t + 4 ≤ 60) : ∃ X' M' t', f_X11_writeName X a = some X' ∧ f_X12_putVariety_16 (nI (iV v 0)) 2000 M 0 = some M' ∧ OUn X' M' t' ∧ t' ≤ t + 4 ∧ XF X X' ∧ MF M M' := by
  obtain ⟨w, w1, w2, w3, rfl, wb, wc⟩ := hn
  obtain ⟨q1, q2, q3⟩ := words w1 w2 w3
  obtain ⟨X', M', e1, e2, o, f1, g1⟩ := rname hv w2 q3 w.length 0 2000 X M t (by omega) (by omega) wb wc h (by omega)
  refine ⟨X', M', t + w.length, ?_, e2, o, by omega, f1, g1⟩
  rw [← e1, ← q1]
  exact wname q2 4 X (Nat.le_refl _)
set_option maxRecDepth 20000 in
theorem RR.ou {X X' : XT} {M M' : MT} (h : RR X M) (x : XF X X') (m : MF M M') (b : OU X' M') : RR X' M' := by
  obtain ⟨h1, h2, h3, h4, h5, h6, h7, h8, h9⟩ := h
  obtain ⟨a2, a3, a4⟩ := m
  have eb : ∀ j k i f, inB k i f → X' k j i f = X k j i f := fun j k i f hq => x k j i f (by rintro rfl; exact hq) (by rintro rfl; exact hq)
  refine ⟨by rw [a4]; exact h1, fun j hj i hi => ?_, ?_, ?_, ?_, ?_, ?_, b, fun i hi => by rw [a4]; exact h9 i hi⟩
  · rw [x _ _ _ _ (by decide) (by decide)]
    exact h2 j hj i hi
  · rw [a2 1 (by decide) (by decide)]
    exact h3.eq (eb 1) fun _ _ => rfl
  · obtain ⟨n, n1, n2, n3, n4⟩ := h4
    refine ⟨n, n1, by rw [x _ _ _ _ (by decide) (by decide)]; exact n2, by rw [a3 5 (by decide)]; exact n3, fun i hi => ?_⟩
    rw [x _ _ _ _ (by decide) (by decide), a2 3 (by decide) (by decide)]
    exact n4 i hi
  · rw [x _ _ _ _ (by decide) (by decide), x _ _ _ _ (by decide) (by decide), a3 30 (by decide), a3 31 (by decide)]
    exact h5
  · exact h6.eq (fun f => x _ _ _ _ (by decide) (by decide)) (fun j _ _ => eb j) (a3 27 (by decide)) (a2 4 (by decide) (by decide))
  · exact h7.eq (fun f => x _ _ _ _ (by decide) (by decide)) (fun j _ _ => eb j) (a3 29 (by decide)) (a2 5 (by decide) (by decide))
set_option maxRecDepth 20000 in
/-- one tank's text, behind the gap -/
theorem tankText {X0 X : XT} {M0 M : MT} {nc nv ng np nl nt nb t k : Nat} (hb : BRn X0 1 (M0.1 M0.2.2) nc nv ng np nl nt nb) (h1 : M0.2.2 = 1) (x : XF X0 X) (m : MF M0 M) (hk : k < nt) (h : OUn X M t) (ht : t < 50) : ∃ X' M' t', f_X11_printTanks_38 X (nI k) = some X' ∧ bn1 (f_X12_ofTank M (nI k) 1) (fun r1 => bn1 (f_X12_putNumber M r1) (fun M2 => bn1 (f_X12_ofTank M2 (nI k) 1) (fun r2 => if r2 ≤ 0 then some M2 else bn1 (f_X12_ofTank M2 (nI k) 2) (fun r3 => f_X12_putVariety M2 r3)))) = some M' ∧ OUn X' M' t' ∧ t' ≤ t + 10 ∧ XF X X' ∧ MF M M' := by
  have hbb := hb.b
  obtain ⟨ca, co, sg, hcc, hca20, hsg, ⟨x0, m0⟩, ⟨x1, m1⟩, x2, ⟨x3, m3⟩, hvar⟩ := hb.t hk
  rw [h1] at m1 hvar
  have tk : ∀ (N : MT), MF M0 N → f_X12_ofTank N (nI k) 1 = some (nI co) := by
    intro N q
    rw [show f_X12_ofTank N (nI k) 1 = _ from oT (w := 1) (by omega) (by decide), q.2.2, h1, q.1 1 (by decide) (by decide), m1]
  obtain ⟨X1, M1, t1, e1, e2, o1, l1, f1, g1⟩ := putn h (by omega) (v := co) (by omega)
  unfold f_X11_printTanks_38
  rw [gd_t (nI_in (by omega) (by decide)), nI_clamp (by omega), x 26 _ _ _ (by decide) (by decide), x1, e1, bn1_s, f1 26 _ _ _ (by decide) (by decide), x 26 _ _ _ (by decide) (by decide), x1, tk M m, bn1_s, e2, bn1_s, tk M1 (m.tr g1), bn1_s]
  by_cases c : co = 0
  · have c' : nI co ≤ 0 := (nI_le0 (by omega)).mpr c
    rw [if_pos c', if_pos c']
    exact ⟨X1, M1, t1, rfl, rfl, o1, by omega, f1, g1⟩
  · have c' : ¬ nI co ≤ 0 := fun q => c ((nI_le0 (by omega)).mp q)
    rw [if_neg c', if_neg c']
    obtain ⟨-, v, hv, hvm⟩ := hvar.resolve_left (fun q => c q.1)
    obtain ⟨X2, M2, y1, y2, o2, f2, g2⟩ := putc (c := 58) o1 (by omega) (by decide)
    have hx2 : X2 26 1 k 2 = nI v := by
      rw [((x.tr f1).tr f2) 26 1 k 2 (by decide) (by decide), x2, h1]
      exact hvm
    have hvr := (hb.v hv).1
    rw [h1] at hvr
    have hna : f_X1_nameOfVariety X2 1 (nI v) = some (X0 13 1 0 v) := by
      unfold f_X1_nameOfVariety f_X1_hasVariety
      rw [if_neg (nI_pos (by omega)), ((x.tr f1).tr f2) 11 1 0 4 (by decide) (by decide), hb.c.2.1.1, if_neg (nI_ge hv (by omega)), bn1_s, if_neg (by decide), gd_t (nI_in (by omega) (by decide)), nI_clamp (by omega), ((x.tr f1).tr f2) 13 1 0 v (by decide) (by decide)]
    have m2 := (m.tr g1).tr g2
    obtain ⟨X3, M3, t3, z1, z2, o3, l3, f3, g3⟩ := name_ (a := X0 13 1 0 v) (M := M2) (show v < 4 by omega) (by rw [m2.1 1 (by decide) (by decide)]; exact hvr) o2 (by omega)
    refine ⟨X3, M3, t3, ?_, ?_, o3, by omega, (f1.tr f2).tr f3, (g1.tr g2).tr g3⟩
    · rw [show f_J4_char X1 58 = some X2 from y1, bn1_s, hx2, hna, bn1_s, z1]
    · rw [show f_X12_ofTank M1 (nI k) 2 = _ from oT (w := 2) (by omega) (by decide), (m.tr g1).2.2, h1, (m.tr g1).1 1 (by decide) (by decide), hvm, bn1_s]
      unfold f_X12_putVariety
      rw [show (16 : Int32) + 6 * nI v = nI (iV v 0) by rw [show (16 : Int32) = nI 16 from rfl, show (6 : Int32) = nI 6 from rfl, pk_mul, nI_add]; rfl, bnd_s, show f_X12_put M1 58 = some M2 from y2, bn1_s]
      exact z2
set_option maxRecDepth 20000 in
theorem gapText {X : XT} {M : MT} {t k : Nat} (h : OUn X M t) (ht : t < 60) (hk : k < 1000) : ∃ X' M' t', (if nI k ≤ 0 then (some X) else (f_J4_char X 32)) = some X' ∧ f_X12_putGap M (if k = 0 then 1 else 0) = some M' ∧ OUn X' M' t' ∧ t' ≤ t + (if k = 0 then 0 else 1) ∧ XF X X' ∧ MF M M' := by
  unfold f_X12_putGap
  by_cases c : k = 0
  · rw [if_pos c, if_pos c, if_pos ((nI_le0 (by omega)).mpr c), if_neg (by decide)]
    exact ⟨X, M, t, rfl, rfl, h, Nat.le_refl _, XF.no, MF.no⟩
  · rw [if_neg c, if_neg c, if_neg (fun q => c ((nI_le0 (by omega)).mp q)), if_pos rfl]
    obtain ⟨X2, M2, y1, y2, o2, f2, g2⟩ := putc (c := 32) h ht (by decide)
    exact ⟨X2, M2, t + 1, y1, by rw [show f_X12_put M 32 = some M2 from y2, bn1_s], o2, Nat.le_refl _, f2, g2⟩
set_option maxRecDepth 20000 in
theorem bnR (f : MT → Option (Int32 × MT)) (a : Option Int32) (g : MT → Int32 → Option MT) (b1 : MT → Option Int32) (b2 : MT → Option Int32) (p : MT → Int32 → Option MT) (M : MT) : bn1 a (fun r1 => bn1 (g M r1) (fun M2 => bn1 (b1 M2) (fun r2 => if r2 ≤ 0 then f M2 else bn1 (b2 M2) (fun r3 => bn1 (p M2 r3) f)))) = bn1 (bn1 a (fun r1 => bn1 (g M r1) (fun M2 => bn1 (b1 M2) (fun r2 => if r2 ≤ 0 then some M2 else bn1 (b2 M2) (fun r3 => p M2 r3))))) f := by
  cases a with
  | none => rfl
  | some r1 =>
    rw [bn1_s, bn1_s]
    cases g M r1 with
    | none => rfl
    | some M2 =>
      rw [bn1_s, bn1_s]
      cases b1 M2 with
      | none => rfl
      | some r2 =>
        rw [bn1_s, bn1_s]
        by_cases c : r2 ≤ 0
        · rw [if_pos c, if_pos c, bn1_s]
        · rw [if_neg c, if_neg c]
          cases b2 M2 with
          | none => rfl
          | some r3 => rfl
set_option maxRecDepth 20000 in
theorem tanksText {X0 : XT} {M0 : MT} {nc nv ng np nl nt nb : Nat} (hb : BRn X0 1 (M0.1 M0.2.2) nc nv ng np nl nt nb) (h1 : M0.2.2 = 1) : ∀ d k f1 f2 (X : XT) (M : MT) t, k + d = nt → d < f1 → d < f2 → XF X0 X → MF M0 M → OUn X M t → t ≤ 10 * k + (k - 1) → ∃ X' M' t', f_X11_printTanks_10 f1 X (nI k) = some (nI t', X') ∧ f_X12_printTanks_12 f2 M (nI k) = some (nI t', M') ∧ XF X0 X' ∧ MF M0 M' ∧ OUn X' M' t' ∧ t' ≤ 54 := by
  have hbb := hb.b
  have hc := hb.c.2.2.2.2.2.1
  rw [h1] at hc
  intro d
  induction d with
  | zero =>
    intro k f1 f2 X M t hk hf1 hf2 x m o ht
    obtain ⟨f1, rfl⟩ := fuel hf1
    obtain ⟨f2, rfl⟩ := fuel hf2
    obtain rfl : k = nt := by omega
    rw [f_X11_printTanks_10, f_X12_printTanks_12, x 23 _ _ _ (by decide) (by decide), hc.1, m.1 1 (by decide) (by decide), hc.2, if_pos (nI_le (Nat.le_refl _) (by omega)), if_pos (nI_le (Nat.le_refl _) (by omega)), o.1, o.2.1]
    exact ⟨X, M, t, rfl, rfl, x, m, o, by omega⟩
  | succ d ih =>
    intro k f1 f2 X M t hk hf1 hf2 x m o ht
    obtain ⟨f1, rfl⟩ := fuel hf1
    obtain ⟨f2, rfl⟩ := fuel hf2
    obtain ⟨X1, M1, t1, a1, a2, o1, l1, x1, m1⟩ := gapText (k := k) o (by omega) (by omega)
    have l1' : t1 ≤ 10 * k + k := by
      by_cases c : k = 0
      · rw [if_pos c] at l1; omega
      · rw [if_neg c] at l1; omega
    obtain ⟨X2, M2, t2, b1, b2, o2, l2, x2, m2⟩ := tankText hb h1 (x.tr x1) (m.tr m1) (show k < nt by omega) o1 (by omega)
    obtain ⟨X', M', t', r⟩ := ih (k + 1) f1 f2 X2 M2 t2 (by omega) (by omega) (by omega) ((x.tr x1).tr x2) ((m.tr m1).tr m2) o2 (by omega)
    rw [f_X11_printTanks_10, f_X12_printTanks_12, x 23 _ _ _ (by decide) (by decide), hc.1, m.1 1 (by decide) (by decide), hc.2, if_neg (nI_ge (by omega) (by omega)), if_neg (nI_ge (by omega) (by omega)), a1, bn1_s, b1, bn1_s, show nI k + 1 = nI (k + 1) from nI_add k 1]
    have key : ∀ (c : Int32), f_X12_putGap M c = some M1 → bn1 (f_X12_putGap M c) (fun M4 => bn1 (f_X12_ofTank M4 (nI k) 1) (fun r4 => bn1 (f_X12_putNumber M4 r4) (fun M5 => bn1 (f_X12_ofTank M5 (nI k) 1) (fun r5 => if r5 ≤ 0 then (f_X12_printTanks_12 f2 M5 (nI (k + 1))) else (bn1 (f_X12_ofTank M5 (nI k) 2) (fun r6 => bn1 (f_X12_putVariety M5 r6) (fun M6 => f_X12_printTanks_12 f2 M6 (nI (k + 1))))))))) = f_X12_printTanks_12 f2 M2 (nI (k + 1)) := by
      intro c hc
      rw [hc, bn1_s]
      refine (bnR (fun N => f_X12_printTanks_12 f2 N (nI (k + 1))) (f_X12_ofTank M1 (nI k) 1) f_X12_putNumber (fun N => f_X12_ofTank N (nI k) 1) (fun N => f_X12_ofTank N (nI k) 2) f_X12_putVariety M1).trans ?_
      rw [b2, bn1_s]
    refine ⟨X', M', t', r.1, ?_, r.2.2⟩
    rw [← r.2.1]
    by_cases c : k = 0
    · rw [if_pos c] at a2
      rw [if_pos ((nI_01 (by omega)).mpr c)]
      exact key 1 a2
    · rw [if_neg c] at a2
      rw [if_neg (fun q => c ((nI_01 (by omega)).mp q))]
      exact key 0 a2
set_option maxRecDepth 20000 in
theorem u_printTanks {X : XT} {M : MT} (h : RR X M) (t : Option Nat) : UR (f_X11_printTanks X) t (f_X12_printTanks M) M [] := by
  have h0 := h.thr 0
  obtain ⟨nc, nv, ng, np, nl, nt, nb, hq, hb⟩ := h.q
  have hbb := hb.b
  obtain ⟨hb0, hr⟩ := hq 0
  let X1 : XT := xs X 8 0 0 0 0
  let M1 : MT := mi (mi M 0 0 0) 0 33 0
  have x1 : XF X X1 := fun k j i f a _ => xs_o (by omega)
  have m1 : MF (mi M 0 0 0) M1 := ⟨fun k a _ => mi_ne a, fun f a => mi_o a, rfl⟩
  obtain ⟨X', M', t', e1, e2, x, m, o, l⟩ := tanksText hb0 hr nt 0 7 2000 X1 M1 0 (by omega) (by omega) (by omega) x1 m1 ⟨xs_i, mi_i, fun q hq => absurd hq (Nat.not_lt_zero _)⟩ (Nat.zero_le _)
  refine Or.inl ⟨nI t', X', M', e1, ?_, h0.ou x m ⟨t', by omega, o⟩, ?_⟩
  · unfold f_X12_printTanks
    rw [bnd_s, bnd_s]
    exact e2
  · rw [m.2.1 0 (by decide)]
    exact mi_i
