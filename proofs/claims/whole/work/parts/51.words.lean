/-! PURE: words and names of both readers -/
set_option maxRecDepth 20000 in
theorem pk_inj {B : Nat} (hB : 27 ≤ B) : ∀ w w' : List Nat, isW w → isW w' → pkN B w = pkN B w' → w = w' := by
  intro w
  induction w with
  | nil =>
    intro w' _ h' e
    cases w' with
    | nil => rfl
    | cons c w' =>
      have := h' c (by simp)
      rw [pkN, pkN] at e
      omega
  | cons c w ih =>
    intro w' h h' e
    have h1 := h c (by simp)
    cases w' with
    | nil =>
      rw [pkN, pkN] at e
      omega
    | cons d w' =>
      have h2 := h' d (by simp)
      rw [pkN, pkN] at e
      have e1 : (B * pkN B w + c) % B = (B * pkN B w' + d) % B := by rw [e]
      rw [Nat.mul_add_mod, Nat.mul_add_mod, Nat.mod_eq_of_lt (by omega), Nat.mod_eq_of_lt (by omega)] at e1
      subst e1
      have e2 : B * pkN B w = B * pkN B w' := Nat.add_right_cancel e
      have e3 := Nat.eq_of_mul_eq_mul_left (by omega : 0 < B) e2
      rw [ih w' (fun x hx => h x (by simp [hx])) (fun x hx => h' x (by simp [hx])) e3]
set_option maxRecDepth 20000 in
theorem ext_getD : ∀ w w' : List Nat, w.length = w'.length → (∀ i, i < w.length → w.getD i 0 = w'.getD i 0) → w = w' := by
  intro w
  induction w with
  | nil =>
    intro w' h _
    cases w' with
    | nil => rfl
    | cons c w' => exact absurd h (by simp)
  | cons c w ih =>
    intro w' h g
    cases w' with
    | nil => exact absurd h (by simp)
    | cons d w' =>
      have g0 := g 0 (by simp)
      rw [List.getD_cons_zero, List.getD_cons_zero] at g0
      subst g0
      rw [ih w' (by simpa using h) (fun i hi => by
        have := g (i + 1) (by rw [List.length_cons]; omega)
        rw [List.getD_cons_succ, List.getD_cons_succ] at this
        exact this)]
set_option maxRecDepth 20000 in
theorem wd_facts : ∀ t, t < 12 → slen t = nI (wdN t).length ∧ strN.getD t 0 = (wdN t).length ∧ 1 ≤ (wdN t).length ∧ (wdN t).length ≤ 12 ∧ (∀ x ∈ wdN t, 1 ≤ x ∧ x ≤ 26) ∧ ∀ i, i < (wdN t).length → sch t i = nI (96 + (wdN t).getD ((wdN t).length - 1 - i) 0) := by decide +kernel
set_option maxRecDepth 20000 in
theorem gD_mem : ∀ (w : List Nat) (i : Nat), i < w.length → w.getD i 0 ∈ w := by
  intro w
  induction w with
  | nil => intro i h; exact absurd h (by simp)
  | cons c w ih =>
    intro i h
    cases i with
    | zero => rw [List.getD_cons_zero]; simp
    | succ i =>
      rw [List.getD_cons_succ]
      exact List.mem_cons_of_mem _ (ih i (by simpa using h))
section SPELL
variable {X : XT} {M : MT} {n s e t : Nat}
set_option maxRecDepth 20000 in
theorem spell_go (b : BFn X M n) (ht : t < 12) {w : List Nat} (iw : isW w) (sw : sameW X s w) (x3 : X 2 0 0 3 = nI s) (hs : s + w.length ≤ n) (hl : w.length = (wdN t).length) : ∀ d i f, i + d = w.length → d < f → (∀ k, k < i → w.getD (w.length - 1 - k) 0 = (wdN t).getD (w.length - 1 - k) 0) → ∃ r : Int32, f_X10_spells_28 X t f (nI i) = some r ∧ (r = 0 ∧ ¬ w = wdN t ∨ r = 1 ∧ w = wdN t) := by
  obtain ⟨t1, t2, t3, t4, t5, t6⟩ := wd_facts t ht
  have hn := b.1
  intro d
  induction d with
  | zero =>
    intro i f hi hf hk
    obtain ⟨f, rfl⟩ := fuel hf
    rw [f_X10_spells_28, t1, if_pos (nI_le (by omega) (by omega))]
    refine ⟨1, rfl, Or.inr ⟨rfl, ext_getD w _ hl fun k hk' => ?_⟩⟩
    have := hk (w.length - 1 - k) (by omega)
    rw [show w.length - 1 - (w.length - 1 - k) = k by omega] at this
    exact this
  | succ d ih =>
    intro i f hi hf hk
    obtain ⟨f, rfl⟩ := fuel hf
    rw [f_X10_spells_28, t1, if_neg (nI_ge (by omega) (by omega)), x3, nI_add, signAt_ b (by omega), bn1_s, t2, gd_t (nI_in (by omega) (by omega)), nI_clamp (by omega), t6 i (by omega), sw i (by omega)]
    have hm1 : w.getD (w.length - 1 - i) 0 ∈ w := gD_mem _ _ (by omega)
    have hm2 : (wdN t).getD ((wdN t).length - 1 - i) 0 ∈ wdN t := gD_mem _ _ (by omega)
    have r1 := iw _ hm1
    have r2 := t5 _ hm2
    by_cases c : w.getD (w.length - 1 - i) 0 = (wdN t).getD (w.length - 1 - i) 0
    · rw [← hl, c, if_pos rfl, show nI i + 1 = nI (i + 1) from nI_add i 1]
      refine ih (i + 1) f (by omega) (by omega) fun k hk' => ?_
      by_cases q : k < i
      · exact hk k q
      · obtain rfl : k = i := by omega
        exact c
    · rw [if_neg (fun q => c (by have := (nI_eq (by omega) (by omega)).mp q; rw [← hl] at this; omega))]
      exact ⟨0, rfl, Or.inl ⟨rfl, fun q => c (by rw [q])⟩⟩
set_option maxRecDepth 20000 in
/-- both readers see the same words -/
theorem spells_ (b : BFn X M n) (wd : WD M) (tk : TK X M n s e) (ht : t < 12) : ∃ r : Int32, f_X10_spells X t = some r ∧ f_X12_isWord M (M.2.1 (14 + t)) = some r ∧ (r = 0 ∨ r = 1) ∧ (r = 1 → X 2 0 0 2 = 2 ∧ s < e ∧ M.1 0 9 = nI (wdN t).length) := by
  obtain ⟨t1, t2, ⟨t3, t4⟩, ⟨t5, t6⟩, tk⟩ := tk
  have hn := b.1
  by_cases c : X 2 0 0 2 = 2
  · have hk : M.1 0 7 = 1 ∧ s < e ∧ ∃ w, isW w ∧ e = s + w.length ∧ sameW X s w ∧ M.1 0 9 = nI w.length ∧ X 2 0 0 6 = (if w.length ≤ 4 then nI (pkN 32 w) else 0) ∧ (w.length ≤ 12 → M.2.1 10 = lN (pkN 27 w)) := by
      rcases tk with k | k | k | k | k
      · rw [k.1] at c; exact absurd c (by decide)
      · exact k.2
      · rw [k.1] at c; exact absurd c (by decide)
      · rw [k.1] at c; exact absurd c (by decide)
      · rw [k.1] at c; exact absurd c (by decide)
    obtain ⟨k1, k2, w, w1, w2, w3, w4, w5, w6⟩ := hk
    obtain ⟨q1, q2, q3, q4, q5, q6⟩ := wd_facts t ht
    have isw : f_X12_isWord M (M.2.1 (14 + t)) = some (if w = wdN t then 1 else 0) := by
      unfold f_X12_isWord
      rw [if_pos k1, w4, wd t ht]
      by_cases l12 : w.length ≤ 12
      · have p1 := pkN_lt (B := 27) (by decide) w w1
        have p2 := pkN_lt (B := 27) (by decide) (wdN t) q5
        have p3 : 27 ^ w.length ≤ 27 ^ 12 := Nat.pow_le_pow_right (by decide) l12
        have p4 : 27 ^ (wdN t).length ≤ 27 ^ 12 := Nat.pow_le_pow_right (by decide) q4
        rw [if_neg (show ¬ (12 : Int32) < nI w.length from nI_nlt (a := 12) l12 (by decide)), w6 l12]
        by_cases d : w = wdN t
        · rw [if_pos d, if_pos ((cmp_eq _ _).mpr (by rw [d]))]
        · rw [if_neg d, if_neg (fun q => d (pk_inj (by decide) _ _ w1 q5 ((lnE (by omega) (by omega)).mp ((cmp_eq _ _).mp q))))]
      · rw [if_pos (show (12 : Int32) < nI w.length from nI_lt (a := 12) (by omega) (by omega)), if_neg (fun q => l12 (by rw [q]; exact q4))]
    unfold f_X10_spells
    rw [if_pos c, t5, t3, pk_sub t1, q1, isw]
    by_cases l : w.length = (wdN t).length
    · rw [if_pos (by rw [← l]; exact congrArg nI (by omega))]
      obtain ⟨r, r1, r2⟩ := spell_go b ht w1 w3 t3 (by omega) l w.length 0 2000 (by omega) (by omega) (fun k hk => absurd hk (Nat.not_lt_zero _))
      rcases r2 with ⟨rfl, r2⟩ | ⟨rfl, r2⟩
      · rw [if_neg r2]
        exact ⟨0, r1, rfl, Or.inl rfl, fun q => absurd q (by decide)⟩
      · rw [if_pos r2]
        exact ⟨1, r1, rfl, Or.inr rfl, fun _ => ⟨c, k2, by rw [w4, r2]⟩⟩
    · rw [if_neg (fun q => l (by have := (nI_eq (by omega) (by omega)).mp q; omega)), if_neg (fun q => l (by rw [q]))]
      exact ⟨0, rfl, rfl, Or.inl rfl, fun q => absurd q (by decide)⟩
  · refine ⟨0, ?_, ?_, Or.inl rfl, fun q => absurd q (by decide)⟩
    · unfold f_X10_spells
      rw [if_neg c]
    · unfold f_X12_isWord
      have k1 : ¬ M.1 0 7 = 1 := by
        rcases tk with k | k | k | k | k
        · rw [k.2.1]; decide
        · exact absurd k.1 c
        · rw [k.2.1]; decide
        · rw [k.2.1]; decide
        · rw [k.2.1]; decide
      rw [if_neg k1]
end SPELL
/-- the word here, its name to both -/
def WH (X : XT) (M : MT) (w : List Nat) : Prop := isW w ∧ M.1 0 7 = 1 ∧ 1 ≤ w.length ∧ w.length ≤ 600 ∧ M.1 0 9 = nI w.length ∧ X 2 0 0 6 = (if w.length ≤ 4 then nI (pkN 32 w) else 0) ∧ (w.length ≤ 12 → M.2.1 10 = lN (pkN 27 w))
set_option maxRecDepth 20000 in
theorem TK.wh {X : XT} {M : MT} {n s e : Nat} (tk : TK X M n s e) (hn : n ≤ 600) (c : X 2 0 0 2 = 2) : s < e ∧ ∃ w, WH X M w := by
  obtain ⟨t1, t2, ⟨t3, t4⟩, ⟨t5, t6⟩, tk⟩ := tk
  rcases tk with k | k | k | k | k
  · rw [k.1] at c; exact absurd c (by decide)
  · obtain ⟨k0, k1, k2, w, w1, w2, w3, w4, w5, w6⟩ := k
    exact ⟨k2, w, w1, k1, by omega, by omega, w4, w5, w6⟩
  · rw [k.1] at c; exact absurd c (by decide)
  · rw [k.1] at c; exact absurd c (by decide)
  · rw [k.1] at c; exact absurd c (by decide)
set_option maxRecDepth 20000 in
theorem TK.nw {X : XT} {M : MT} {n s e : Nat} (tk : TK X M n s e) (c : ¬ X 2 0 0 2 = 2) : ¬ M.1 0 7 = 1 := by
  obtain ⟨t1, t2, ⟨t3, t4⟩, ⟨t5, t6⟩, tk⟩ := tk
  rcases tk with k | k | k | k | k
  · rw [k.2.1]; decide
  · exact absurd k.1 c
  · rw [k.2.1]; decide
  · rw [k.2.1]; decide
  · rw [k.2.1]; decide
set_option maxRecDepth 20000 in
theorem p32_4 {w : List Nat} (h : isW w) (hl : w.length ≤ 4) : pkN 32 w < 2 ^ 20 := by
  have := pkN_lt (B := 32) (by decide) w h
  have p : 32 ^ w.length ≤ 32 ^ 4 := Nat.pow_le_pow_right (by decide) hl
  omega
set_option maxRecDepth 20000 in
theorem p27_4 {w : List Nat} (h : isW w) (hl : w.length ≤ 4) : pkN 27 w < 2 ^ 20 := by
  have := pkN_lt (B := 27) (by decide) w h
  have p : 27 ^ w.length ≤ 27 ^ 4 := Nat.pow_le_pow_right (by decide) hl
  omega
set_option maxRecDepth 20000 in
theorem p32_0 {w : List Nat} (h : isW w) (hl : 1 ≤ w.length) : 1 ≤ pkN 32 w := by
  cases w with
  | nil => exact absurd hl (by decide)
  | cons c w =>
    have := h c (by simp)
    rw [pkN]
    omega
set_option maxRecDepth 20000 in
/-- one name of the book beside the word here -/
theorem nm_eq {X : XT} {M : MT} {w : List Nat} {a b c : Int32} (h : WH X M w) (hn : nmR a b c) : (a = X 2 0 0 6 ∧ c = M.1 0 9 ∧ lg_cmp b.toInt64 (M.2.1 10) = 0) ∨ (¬ a = X 2 0 0 6 ∧ (¬ c = M.1 0 9 ∨ ¬ lg_cmp b.toInt64 (M.2.1 10) = 0)) := by
  obtain ⟨h1, h2, h3, h3', h4, h5, h6⟩ := h
  obtain ⟨v, v1, v2, v3, rfl, rfl, rfl⟩ := hn
  have b1 := p32_4 v3 v2
  have b2 := p27_4 v3 v2
  rw [h4, h5]
  by_cases l : w.length ≤ 4
  · have b3 := p32_4 h1 l
    have b4 := p27_4 h1 l
    rw [if_pos l, h6 (by omega), lnI (by omega)]
    by_cases e : v = w
    · subst e
      exact Or.inl ⟨rfl, rfl, (cmp_eq _ _).mpr rfl⟩
    · refine Or.inr ⟨fun q => e (pk_inj (by decide) _ _ v3 h1 ((nI_eq (by omega) (by omega)).mp q)), Or.inr fun q => e (pk_inj (by decide) _ _ v3 h1 ((lnE (by omega) (by omega)).mp ((cmp_eq _ _).mp q)))⟩
  · rw [if_neg l]
    refine Or.inr ⟨nI_ne0 (p32_0 v3 v1) (by omega), Or.inl fun q => ?_⟩
    have := (nI_eq (by omega) (by omega)).mp q
    omega
section NAMED
variable {X : XT} {M : MT} {nc nv ng np nl nt nb : Nat} {w : List Nat}
set_option maxRecDepth 20000 in
theorem varN (hb : BRn X 0 (M.1 M.2.2) nc nv ng np nl nt nb) (h : WH X M w) : ∀ d i f1 f2, i + d = nv → d < f1 → d < f2 → ∃ r : Int32, f_X1_varietyNamed_2 X 0 (X 2 0 0 6) f1 (nI i) = some r ∧ f_X12_varietyHere_2 M f2 (nI i) = some r ∧ (r = -1 ∨ ∃ v, v < nv ∧ r = nI v) := by
  have hbb := hb.b
  intro d
  induction d with
  | zero =>
    intro i f1 f2 hi h1 h2
    obtain ⟨f1, rfl⟩ := fuel h1
    obtain ⟨f2, rfl⟩ := fuel h2
    rw [f_X1_varietyNamed_2, f_X12_varietyHere_2, hb.c.2.1.1, hb.c.2.1.2, if_pos (nI_le (by omega) (by omega)), if_pos (nI_le (by omega) (by omega))]
    exact ⟨-1, rfl, rfl, Or.inl rfl⟩
  | succ d ih =>
    intro i f1 f2 hi h1 h2
    obtain ⟨f1, rfl⟩ := fuel h1
    obtain ⟨f2, rfl⟩ := fuel h2
    have iv : (16 : Int32) + 6 * nI i = nI (iV i 0) := by
      rw [show (16 : Int32) = nI 16 from rfl, show (6 : Int32) = nI 6 from rfl, pk_mul, nI_add]; rfl
    rw [f_X1_varietyNamed_2, f_X12_varietyHere_2, hb.c.2.1.1, hb.c.2.1.2, if_neg (nI_ge (by omega) (by omega)), if_neg (nI_ge (by omega) (by omega)), gd_t (nI_in (by omega) (by decide)), nI_clamp (by omega), iv, bnd_s, if_pos h.2.1, show nI (iV i 0) + 1 = nI (iV i 1) from nI_add _ 1, bnd_s, gd_t (nI_in (by unfold iV; omega) (by decide)), nI_clamp (by unfold iV; omega), show nI (iV i 0) + 0 = nI (iV i 0) from nI_add _ 0, bnd_s, gd_t (nI_in (by unfold iV; omega) (by decide)), nI_clamp (by unfold iV; omega), show nI i + 1 = nI (i + 1) from nI_add i 1]
    rcases nm_eq h (hb.v (show i < nv by omega)).1 with ⟨q1, q2, q3⟩ | ⟨q1, q2⟩
    · rw [if_pos q1, if_pos q2, if_pos q3]
      exact ⟨nI i, rfl, rfl, Or.inr ⟨i, by omega, rfl⟩⟩
    · obtain ⟨r, r1, r2, r3⟩ := ih (i + 1) f1 f2 (by omega) (by omega) (by omega)
      rw [if_neg q1]
      refine ⟨r, r1, ?_, r3⟩
      rcases q2 with q2 | q2
      · rw [if_neg q2]; exact r2
      · by_cases q3 : M.1 M.2.2 (iV i 1) = M.1 0 9
        · rw [if_pos q3, if_neg q2]; exact r2
        · rw [if_neg q3]; exact r2
set_option maxRecDepth 20000 in
theorem groN (hb : BRn X 0 (M.1 M.2.2) nc nv ng np nl nt nb) (h : WH X M w) : ∀ d i f1 f2, i + d = ng → d < f1 → d < f2 → ∃ r : Int32, f_X5_growerNamed_2 X 0 (X 2 0 0 6) f1 (nI i) = some r ∧ f_X12_growerHere_2 M f2 (nI i) = some r ∧ (r = -1 ∨ ∃ v, v < ng ∧ r = nI v) := by
  have hbb := hb.b
  intro d
  induction d with
  | zero =>
    intro i f1 f2 hi h1 h2
    obtain ⟨f1, rfl⟩ := fuel h1
    obtain ⟨f2, rfl⟩ := fuel h2
    rw [f_X5_growerNamed_2, f_X12_growerHere_2, hb.c.2.2.1.1, hb.c.2.2.1.2, if_pos (nI_le (by omega) (by omega)), if_pos (nI_le (by omega) (by omega))]
    exact ⟨-1, rfl, rfl, Or.inl rfl⟩
  | succ d ih =>
    intro i f1 f2 hi h1 h2
    obtain ⟨f1, rfl⟩ := fuel h1
    obtain ⟨f2, rfl⟩ := fuel h2
    have iv : (40 : Int32) + 2 * nI i = nI (iG i 0) := by
      rw [show (40 : Int32) = nI 40 from rfl, show (2 : Int32) = nI 2 from rfl, pk_mul, nI_add]; rfl
    rw [f_X5_growerNamed_2, f_X12_growerHere_2, hb.c.2.2.1.1, hb.c.2.2.1.2, if_neg (nI_ge (by omega) (by omega)), if_neg (nI_ge (by omega) (by omega)), gd_t (nI_in (by omega) (by decide)), nI_clamp (by omega), iv, bnd_s, if_pos h.2.1, show nI (iG i 0) + 1 = nI (iG i 1) from nI_add _ 1, bnd_s, gd_t (nI_in (by unfold iG; omega) (by decide)), nI_clamp (by unfold iG; omega), show nI (iG i 0) + 0 = nI (iG i 0) from nI_add _ 0, bnd_s, gd_t (nI_in (by unfold iG; omega) (by decide)), nI_clamp (by unfold iG; omega), show nI i + 1 = nI (i + 1) from nI_add i 1]
    rcases nm_eq h (hb.g (show i < ng by omega)) with ⟨q1, q2, q3⟩ | ⟨q1, q2⟩
    · rw [if_pos q1, if_pos q2, if_pos q3]
      exact ⟨nI i, rfl, rfl, Or.inr ⟨i, by omega, rfl⟩⟩
    · obtain ⟨r, r1, r2, r3⟩ := ih (i + 1) f1 f2 (by omega) (by omega) (by omega)
      rw [if_neg q1]
      refine ⟨r, r1, ?_, r3⟩
      rcases q2 with q2 | q2
      · rw [if_neg q2]; exact r2
      · by_cases q3 : M.1 M.2.2 (iG i 1) = M.1 0 9
        · rw [if_pos q3, if_neg q2]; exact r2
        · rw [if_neg q3]; exact r2
set_option maxRecDepth 20000 in
/-- no word here: the reference looks in vain -/
theorem varX (hv : M.1 M.2.2 4 = nI nv) (hn : nv ≤ 4) (c : ¬ M.1 0 7 = 1) : ∀ d i f, i + d = nv → d < f → f_X12_varietyHere_2 M f (nI i) = some (-1) := by
  intro d
  induction d with
  | zero =>
    intro i f hi hf
    obtain ⟨f, rfl⟩ := fuel hf
    rw [f_X12_varietyHere_2, hv, if_pos (nI_le (by omega) (by omega))]
  | succ d ih =>
    intro i f hi hf
    obtain ⟨f, rfl⟩ := fuel hf
    rw [f_X12_varietyHere_2, hv, if_neg (nI_ge (by omega) (by omega)), bnd_s, if_neg c, show nI i + 1 = nI (i + 1) from nI_add i 1]
    exact ih (i + 1) f (by omega) (by omega)
set_option maxRecDepth 20000 in
theorem groX (hv : M.1 M.2.2 5 = nI ng) (hn : ng ≤ 6) (c : ¬ M.1 0 7 = 1) : ∀ d i f, i + d = ng → d < f → f_X12_growerHere_2 M f (nI i) = some (-1) := by
  intro d
  induction d with
  | zero =>
    intro i f hi hf
    obtain ⟨f, rfl⟩ := fuel hf
    rw [f_X12_growerHere_2, hv, if_pos (nI_le (by omega) (by omega))]
  | succ d ih =>
    intro i f hi hf
    obtain ⟨f, rfl⟩ := fuel hf
    rw [f_X12_growerHere_2, hv, if_neg (nI_ge (by omega) (by omega)), bnd_s, if_neg c, show nI i + 1 = nI (i + 1) from nI_add i 1]
    exact ih (i + 1) f (by omega) (by omega)
end NAMED
section TAKE
variable {X0 X : XT} {M0 M : MT} {n s e nc nv ng np nl nt nb : Nat}
set_option maxRecDepth 20000 in
/-- the end of taking a name: the reference -/
theorem named_1 (h : GOK X0 M0 X M n s e) (c7 : M.1 0 7 = 1) {a r : Int32} (hr : (if a = 0 then f_X12_growerHere M else f_X12_varietyHere M) = some r) (r1 : ¬ r = -1) (r2 : ¬ r < 0) {M1 : MT} (e1 : f_X12_goOn M = some M1) : f_X12_takeNamed M a = some (r, M1) := by
  have gd1 := h.good
  have rr : (if 0 < r then r else 0) = r := by
    by_cases c : 0 < r
    · rw [if_pos c]
    · rw [if_neg c]
      exact (Int32.le_antisymm (Int32.not_lt.mp c) (Int32.not_lt.mp r2)).symm
  unfold f_X12_takeNamed
  rw [gd1, bn1_s, if_neg (by decide)]
  by_cases ca : a = 0
  · rw [if_pos ca] at hr
    rw [if_pos ca, hr, bn1_s, if_pos c7, req0, bn1_s, if_neg r1, req0, bn1_s, gd1, bn1_s, if_neg (by decide), e1, bn1_s, rr]
  · rw [if_neg ca] at hr
    rw [if_neg ca, hr, bn1_s, if_pos c7, req0, bn1_s, if_neg r1, req0, bn1_s, gd1, bn1_s, if_neg (by decide), e1, bn1_s, rr]
set_option maxRecDepth 20000 in
theorem named_4 (h : GOK X0 M0 X M n s e) (c7 : M.1 0 7 = 1) {a : Int32} (hr : (if a = 0 then f_X12_growerHere M else f_X12_varietyHere M) = some (-1)) {M1 : MT} (e1 : f_X12_fault M 4 = some M1) (z : ¬ M1.1 0 12 = 0) : f_X12_takeNamed M a = some (0, M1) := by
  have gd1 := h.good
  unfold f_X12_takeNamed
  rw [gd1, bn1_s, if_neg (by decide)]
  by_cases ca : a = 0
  · rw [if_pos ca] at hr
    rw [if_pos ca, hr, bn1_s, if_pos c7, req0, bn1_s, if_pos rfl, h.req1, e1, bn1_s, good0 z, bn1_s, if_pos rfl]
    rfl
  · rw [if_neg ca] at hr
    rw [if_neg ca, hr, bn1_s, if_pos c7, req0, bn1_s, if_pos rfl, h.req1, e1, bn1_s, good0 z, bn1_s, if_pos rfl]
    rfl
set_option maxRecDepth 20000 in
theorem named_x (h : GOK X0 M0 X M n s e) (c7 : ¬ M.1 0 7 = 1) {a : Int32} (hr : (if a = 0 then f_X12_growerHere M else f_X12_varietyHere M) = some (-1)) {M1 : MT} (e1 : f_X12_fault M 1 = some M1) (z : ¬ M1.1 0 12 = 0) : f_X12_takeNamed M a = some (0, M1) := by
  have gd1 := h.good
  unfold f_X12_takeNamed
  rw [gd1, bn1_s, if_neg (by decide)]
  by_cases ca : a = 0
  · rw [if_pos ca] at hr
    rw [if_pos ca, hr, bn1_s, if_neg c7, h.req1, e1, bn1_s, if_pos rfl, bd_req z, bn1_s, good0 z, bn1_s, if_pos rfl]
    rfl
  · rw [if_neg ca] at hr
    rw [if_neg ca, hr, bn1_s, if_neg c7, h.req1, e1, bn1_s, if_pos rfl, bd_req z, bn1_s, good0 z, bn1_s, if_pos rfl]
    rfl
set_option maxRecDepth 20000 in
theorem wordHere (h : GOK X0 M0 X M n s e) : (X 2 0 0 2 = 2 ∧ f_X8_isWordHere X = some (1, X)) ∨ (¬ X 2 0 0 2 = 2 ∧ ∃ X' M', f_X8_isWordHere X = some (0, X') ∧ f_X12_fault M 1 = some M' ∧ BD X0 M0 X' M') := by
  unfold f_X8_isWordHere
  by_cases c : X 2 0 0 2 = 2
  · exact Or.inl ⟨c, by rw [if_pos c]⟩
  · obtain ⟨X', M', f1, f2, f3⟩ := h.fail (c := 1) (by decide)
    exact Or.inr ⟨c, X', M', by rw [if_neg c, f1, bn2_s, if_pos rfl], f2, f3⟩
set_option maxRecDepth 20000 in
theorem GOK.variety (b0 : BFn X0 M0 n) (r2 : M0.2.2 = 2) (h : GOK X0 M0 X M n s e) (hd : DR X M nc nv ng np nl nt nb) : (∃ v X' M' s' e', f_X8_readVarietyName X = some (nI v, X') ∧ f_X12_takeNamed M 1 = some (nI v, M') ∧ GOK X0 M0 X' M' n s' e' ∧ NF X M X' M' ∧ s < s' ∧ v < nv) ∨ (∃ X' M', f_X8_readVarietyName X = some (-1, X') ∧ f_X12_takeNamed M 1 = some (0, M') ∧ BD X0 M0 X' M') := by
  have hb := hd.2.2
  have hm2 : M.2.2 = 2 := h.1.2.2.2.2.trans r2
  rw [← hm2] at hb
  have hbb := hb.b
  unfold f_X8_readVarietyName f_X1_varietyNamed
  rcases wordHere h with ⟨c, a1⟩ | ⟨c, X', M', a1, a2, a3⟩
  · obtain ⟨se, w, wh⟩ := h.2.2.wh b0.1 c
    obtain ⟨r, q1, q2, q3⟩ := varN hb wh nv 0 2000 2000 (by omega) (by omega) (by omega)
    rw [a1, bn2_s, if_neg (by decide), show f_X1_varietyNamed_2 X 0 (X 2 0 0 6) 2000 0 = some r from q1, bn1_s]
    rcases q3 with rfl | ⟨v, hv, rfl⟩
    · obtain ⟨X', M', f1, f2, f3⟩ := h.fail (c := 4) (by decide)
      rw [if_pos rfl, f1, bn2_s]
      exact Or.inr ⟨X', M', rfl, named_4 h wh.2.1 (a := 1) q2 f2 f3.z, f3⟩
    · obtain ⟨X', M', s', e', r1, r2, r3, r4, r5⟩ := h.next b0
      rw [if_neg (nI_m1 (by omega)), r1, bn1_s]
      exact Or.inl ⟨v, X', M', s', e', rfl, named_1 h wh.2.1 (a := 1) q2 (nI_m1 (by omega)) (nI_pos (by omega)) r2, r3, r4, by omega, hv⟩
  · rw [a1, bn2_s, if_pos rfl]
    exact Or.inr ⟨X', M', rfl, named_x h (h.2.2.nw c) (a := 1) (varX hb.c.2.1.2 hbb.2.1 (h.2.2.nw c) nv 0 2000 (by omega) (by omega)) a2 a3.z, a3⟩
set_option maxRecDepth 20000 in
theorem GOK.grower (b0 : BFn X0 M0 n) (r2 : M0.2.2 = 2) (h : GOK X0 M0 X M n s e) (hd : DR X M nc nv ng np nl nt nb) : (∃ v X' M' s' e', f_X8_readGrowerName X = some (nI v, X') ∧ f_X12_takeNamed M 0 = some (nI v, M') ∧ GOK X0 M0 X' M' n s' e' ∧ NF X M X' M' ∧ s < s' ∧ v < ng) ∨ (∃ X' M', f_X8_readGrowerName X = some (-1, X') ∧ f_X12_takeNamed M 0 = some (0, M') ∧ BD X0 M0 X' M') := by
  have hb := hd.2.2
  have hm2 : M.2.2 = 2 := h.1.2.2.2.2.trans r2
  rw [← hm2] at hb
  have hbb := hb.b
  unfold f_X8_readGrowerName f_X5_growerNamed
  rcases wordHere h with ⟨c, a1⟩ | ⟨c, X', M', a1, a2, a3⟩
  · obtain ⟨se, w, wh⟩ := h.2.2.wh b0.1 c
    obtain ⟨r, q1, q2, q3⟩ := groN hb wh ng 0 2000 2000 (by omega) (by omega) (by omega)
    rw [a1, bn2_s, if_neg (by decide), show f_X5_growerNamed_2 X 0 (X 2 0 0 6) 2000 0 = some r from q1, bn1_s]
    rcases q3 with rfl | ⟨v, hv, rfl⟩
    · obtain ⟨X', M', f1, f2, f3⟩ := h.fail (c := 4) (by decide)
      rw [if_pos rfl, f1, bn2_s]
      exact Or.inr ⟨X', M', rfl, named_4 h wh.2.1 (a := 0) q2 f2 f3.z, f3⟩
    · obtain ⟨X', M', s', e', r1, r2, r3, r4, r5⟩ := h.next b0
      rw [if_neg (nI_m1 (by omega)), r1, bn1_s]
      exact Or.inl ⟨v, X', M', s', e', rfl, named_1 h wh.2.1 (a := 0) q2 (nI_m1 (by omega)) (nI_pos (by omega)) r2, r3, r4, by omega, hv⟩
  · rw [a1, bn2_s, if_pos rfl]
    exact Or.inr ⟨X', M', rfl, named_x h (h.2.2.nw c) (a := 0) (groX hb.c.2.2.1.2 hbb.2.2.1 (h.2.2.nw c) ng 0 2000 (by omega) (by omega)) a2 a3.z, a3⟩
end TAKE
