/-! PURE: the tokens of both readers -/
set_option maxRecDepth 20000 in
theorem lnT {n : Nat} (h : n < 2 ^ 63) : (lN n).toInt = (n : Int) := Int64.toInt_ofNat_of_lt h
set_option maxRecDepth 20000 in
theorem lnA (a b : Nat) : lN a + lN b = lN (a + b) := (Int64.ofNat_add a b).symm
set_option maxRecDepth 20000 in
theorem lnM (a b : Nat) : lN a * lN b = lN (a * b) := (Int64.ofNat_mul a b).symm
set_option maxRecDepth 20000 in
theorem lnS {a b : Nat} (h : b ≤ a) : lN a - lN b = lN (a - b) := by
  have : lN a = lN (a - b) + lN b := by rw [lnA, Nat.sub_add_cancel h]
  rw [this, Int64.add_sub_cancel]
set_option maxRecDepth 20000 in
theorem lnI {n : Nat} (h : n < 2 ^ 31) : (nI n).toInt64 = lN n := Int64.toInt_inj.mp (by rw [Int32.toInt_toInt64, nI_toInt h, lnT (by omega)])
set_option maxRecDepth 20000 in
theorem lnE {a b : Nat} (ha : a < 2 ^ 63) (hb : b < 2 ^ 63) : lN a = lN b ↔ a = b := by
  constructor
  · intro h
    have := congrArg Int64.toInt h
    rw [lnT ha, lnT hb] at this
    omega
  · intro h; rw [h]
set_option maxRecDepth 20000 in
theorem cmp_eq (a b : Int64) : lg_cmp a b = 0 ↔ a = b := by
  unfold lg_cmp
  by_cases h1 : a > b
  · rw [if_pos h1]
    exact ⟨fun q => absurd q (by decide), fun q => by subst q; exact (Int64.lt_irrefl h1).elim⟩
  · rw [if_neg h1]
    by_cases h2 : a = b
    · rw [if_pos h2]
      exact ⟨fun _ => h2, fun _ => rfl⟩
    · rw [if_neg h2]
      exact ⟨fun q => absurd q (by decide), fun q => absurd q h2⟩
set_option maxRecDepth 20000 in
theorem ml_1 {M : MT} {k : Nat} {v : Int64} : (ml M k v).1 = M.1 := rfl
def kb (b : Int32) : Int32 := if b < 97 then (if b < 48 then (if b = 59 then 4 else (if b = 32 then 1 else (if b = 10 then 1 else 5))) else (if 57 < b then (if b = 59 then 4 else (if b = 32 then 1 else (if b = 10 then 1 else 5))) else 3)) else (if 122 < b then (if b < 48 then (if b = 59 then 4 else (if b = 32 then 1 else (if b = 10 then 1 else 5))) else (if 57 < b then (if b = 59 then 4 else (if b = 32 then 1 else (if b = 10 then 1 else 5))) else 3)) else 2)
def isL (b : Int32) : Int32 := if b < 97 then 0 else if 122 < b then 0 else 1
def isD (b : Int32) : Int32 := if b < 48 then 0 else if 57 < b then 0 else 1
set_option maxRecDepth 20000 in
theorem isL_ (b : Int32) : f_X12_isLetter b = some (isL b) := by
  unfold f_X12_isLetter isL
  repeat' split
  all_goals rfl
set_option maxRecDepth 20000 in
theorem isD_ (b : Int32) : f_X12_isDigit b = some (isD b) := by
  unfold f_X12_isDigit isD
  repeat' split
  all_goals rfl
/-- the kinds of one byte -/
abbrev KD0 (b : Int32) : Prop :=
  (kb b = 1 ∧ (b &&& 255 = 32 ∨ (b &&& 255 = 10 ∧ ¬ b &&& 255 = 32)) ∧ isL (b &&& 255) = 0 ∧ isD (b &&& 255) = 0) ∨
  (kb b = 2 ∧ 96 < b ∧ b ≤ 122 ∧ b &&& 255 = b ∧ isL (b &&& 255) = 1) ∨
  (kb b = 3 ∧ 47 < b ∧ b ≤ 57 ∧ b &&& 255 = b ∧ isL (b &&& 255) = 0 ∧ isD (b &&& 255) = 1) ∨
  (kb b = 4 ∧ b &&& 255 = 59 ∧ isL (b &&& 255) = 0 ∧ isD (b &&& 255) = 0) ∨
  (kb b = 5 ∧ ¬ b &&& 255 = 59 ∧ ¬ b &&& 255 = 32 ∧ ¬ b &&& 255 = 10 ∧ ¬ b &&& 255 = -1 ∧ isL (b &&& 255) = 0 ∧ isD (b &&& 255) = 0)
set_option maxRecDepth 20000 in
theorem kd256 : ∀ k, k < 256 → KD0 (nI k).toInt8.toInt32 := by decide +kernel
set_option maxRecDepth 20000 in
theorem kd0 {b : Int32} (h : b.toInt8.toInt32 = b) : KD0 b := by
  have r := lg_i2b_range b
  rw [h] at r
  by_cases c : 0 ≤ b.toInt
  · have e : b = nI b.toInt.toNat := Int32.toInt_inj.mp (by rw [nI_toInt (by omega)]; omega)
    have q := kd256 b.toInt.toNat (by omega)
    rw [← e, h] at q
    exact q
  · have q := kd256 (b.toInt + 256).toNat (by omega)
    have : (nI (b.toInt + 256).toNat).toInt8.toInt32 = b.toInt8.toInt32 := by
      rw [← Int32.toInt_inj, Int8.toInt_toInt32, Int8.toInt_toInt32, Int32.toInt_toInt8, Int32.toInt_toInt8, nI_toInt (by omega), Int.bmod_def, Int.bmod_def]
      have : ((b.toInt + 256).toNat : Int) = b.toInt + 256 := by omega
      rw [this]
      omega
    rw [this, h] at q
    exact q
def KD (b : Int32) : Prop :=
  (kb b = 1 ∧ (b &&& 255 = 32 ∨ (b &&& 255 = 10 ∧ ¬ b &&& 255 = 32)) ∧ isL (b &&& 255) = 0 ∧ isD (b &&& 255) = 0) ∨
  (kb b = 2 ∧ ∃ c, c < 27 ∧ 1 ≤ c ∧ b = nI (96 + c) ∧ b &&& 255 = nI (96 + c) ∧ isL (b &&& 255) = 1) ∨
  (kb b = 3 ∧ ∃ c, c < 10 ∧ b = nI (48 + c) ∧ b &&& 255 = nI (48 + c) ∧ isL (b &&& 255) = 0 ∧ isD (b &&& 255) = 1) ∨
  (kb b = 4 ∧ b &&& 255 = 59 ∧ isL (b &&& 255) = 0 ∧ isD (b &&& 255) = 0) ∨
  (kb b = 5 ∧ ¬ b &&& 255 = 59 ∧ ¬ b &&& 255 = 32 ∧ ¬ b &&& 255 = 10 ∧ ¬ b &&& 255 = -1 ∧ isL (b &&& 255) = 0 ∧ isD (b &&& 255) = 0)
set_option maxRecDepth 20000 in
theorem kd {b : Int32} (h : b.toInt8.toInt32 = b) : KD b := by
  have q := kd0 h
  unfold KD
  rcases q with q | ⟨q1, q2, q3, q4, q5⟩ | ⟨q1, q2, q3, q4, q5⟩ | q | q
  · exact Or.inl q
  · obtain ⟨a, ha, rfl⟩ := nI_up (n := 122) (Int32.le_of_lt (Int32.lt_trans (by decide) q2)) q3 (by decide)
    have := (nI_ltI (a := 96) (by decide) (by omega)).mp q2
    refine Or.inr (Or.inl ⟨q1, a - 96, by omega, by omega, ?_, ?_, q5⟩)
    · rw [show 96 + (a - 96) = a by omega]
    · rw [show 96 + (a - 96) = a by omega]; exact q4
  · obtain ⟨a, ha, rfl⟩ := nI_up (n := 57) (Int32.le_of_lt (Int32.lt_trans (by decide) q2)) q3 (by decide)
    have := (nI_ltI (a := 47) (by decide) (by omega)).mp q2
    refine Or.inr (Or.inr (Or.inl ⟨q1, a - 48, by omega, ?_, ?_, q5⟩))
    · rw [show 48 + (a - 48) = a by omega]
    · rw [show 48 + (a - 48) = a by omega]; exact q4
  · exact Or.inr (Or.inr (Or.inr (Or.inl q)))
  · exact Or.inr (Or.inr (Or.inr (Or.inr q)))
set_option maxRecDepth 20000 in
theorem kindAt_ {X : XT} {M : MT} {n i : Nat} (h : BFn X M n) (hi : i < n) : f_X10_kindAt X (nI i) = some (kb (X 3 0 0 i)) := by
  obtain ⟨h1, h2, h3, h4⟩ := h
  unfold f_X10_kindAt kb
  rw [if_neg (nI_pos (by omega)), h2, if_pos (nI_lt hi (by omega)), gd_t (nI_in (by omega) (by decide)), nI_clamp (by omega)]
  repeat' split
  all_goals rfl
set_option maxRecDepth 20000 in
theorem kindAt_n {X : XT} {M : MT} {n : Nat} (h : BFn X M n) : f_X10_kindAt X (nI n) = some 0 := by
  obtain ⟨h1, h2, h3, h4⟩ := h
  unfold f_X10_kindAt
  rw [if_neg (nI_pos (by omega)), h2, if_neg (nI_nlt (Nat.le_refl _) (by omega))]
set_option maxRecDepth 20000 in
theorem signAt_ {X : XT} {M : MT} {n i : Nat} (h : BFn X M n) (hi : i < n) : f_X10_signAt X (nI i) = some (X 3 0 0 i) := by
  obtain ⟨h1, h2, h3, h4⟩ := h
  unfold f_X10_signAt
  rw [if_neg (nI_pos (by omega)), h2, if_neg (nI_ge hi (by omega)), gd_t (nI_in (by omega) (by decide)), nI_clamp (by omega)]
set_option maxRecDepth 20000 in
theorem byteAt_ {X : XT} {M : MT} {n i : Nat} (h : BFn X M n) (hi : i < n) : f_X12_byteAt M (nI i) = some (X 3 0 0 i &&& 255) := by
  obtain ⟨h1, h2, h3, h4⟩ := h
  unfold f_X12_byteAt
  rw [h3, if_neg (nI_ge hi (by omega)), gd_t (nI_in (by omega) (by decide)), nI_clamp (by omega), ← (h4 i hi).1]
set_option maxRecDepth 20000 in
theorem byteAt_n {X : XT} {M : MT} {n : Nat} (h : BFn X M n) : f_X12_byteAt M (nI n) = some (-1) := by
  obtain ⟨h1, h2, h3, h4⟩ := h
  unfold f_X12_byteAt
  rw [h3, if_pos (nI_le (Nat.le_refl _) (by omega))]
/-- only the readers' own fields change -/
def NF (X : XT) (M : MT) (X' : XT) (M' : MT) : Prop := (∀ k j i f, (k ≠ 2 ∨ f < 2) → X' k j i f = X k j i f) ∧ (∀ k, k ≠ 0 → M'.1 k = M.1 k) ∧ (∀ f, (f < 6 ∨ 11 < f) → M'.1 0 f = M.1 0 f) ∧ (∀ f, f ≠ 10 → M'.2.1 f = M.2.1 f) ∧ M'.2.2 = M.2.2
section NFS
variable {X X' X2 : XT} {M M' M2 : MT}
set_option maxRecDepth 20000 in
theorem NF.no : NF X M X M := ⟨fun _ _ _ _ _ => rfl, fun _ _ => rfl, fun _ _ => rfl, fun _ _ => rfl, rfl⟩
set_option maxRecDepth 20000 in
theorem NF.tr (h : NF X M X' M') (g : NF X' M' X2 M2) : NF X M X2 M2 :=
  ⟨fun k j i f a => (g.1 k j i f a).trans (h.1 k j i f a), fun k a => (g.2.1 k a).trans (h.2.1 k a), fun f a => (g.2.2.1 f a).trans (h.2.2.1 f a), fun f a => (g.2.2.2.1 f a).trans (h.2.2.2.1 f a), g.2.2.2.2.trans h.2.2.2.2⟩
set_option maxRecDepth 20000 in
theorem NF.x (h : NF X M X' M') {j i f : Nat} {v : Int32} (hf : 2 ≤ f) : NF X M (xs X' 2 j i f v) M' := ⟨fun k j' i' f' a => (xs_o (by omega)).trans (h.1 k j' i' f' a), h.2⟩
set_option maxRecDepth 20000 in
theorem NF.m (h : NF X M X' M') {f : Nat} {v : Int32} (h1 : 6 ≤ f) (h2 : f ≤ 11) : NF X M X' (mi M' 0 f v) := ⟨h.1, fun k a => (mi_ne a).trans (h.2.1 k a), fun f' a => (mi_o (by omega)).trans (h.2.2.1 f' a), h.2.2.2⟩
set_option maxRecDepth 20000 in
theorem NF.l (h : NF X M X' M') {v : Int64} : NF X M X' (ml M' 10 v) := ⟨h.1, h.2.1, h.2.2.1, fun f a => by
  show (if f = 10 then v else M'.2.1 f) = _
  rw [if_neg a]; exact h.2.2.2.1 f a, h.2.2.2.2⟩
set_option maxRecDepth 20000 in
theorem NF.bf (h : NF X M X' M') {n : Nat} (b : BFn X M n) : BFn X' M' n := by
  obtain ⟨b1, b2, b3, b4⟩ := b
  refine ⟨b1, (h.1 2 0 0 1 (Or.inr (by decide))).trans b2, (h.2.2.1 5 (Or.inl (by decide))).trans b3, fun i hi => ?_⟩
  rw [h.1 3 0 0 i (Or.inl (by decide)), h.2.1 3 (by decide)]
  exact b4 i hi
end NFS
def sameW (X : XT) (s : Nat) (w : List Nat) : Prop := ∀ i, i < w.length → X 3 0 0 (s + i) = nI (96 + w.getD (w.length - 1 - i) 0)
/-- the token from s to e -/
def TK (X : XT) (M : MT) (n s e : Nat) : Prop := s ≤ e ∧ e ≤ n ∧ (X 2 0 0 3 = nI s ∧ M.1 0 8 = nI s) ∧ (X 2 0 0 4 = nI e ∧ M.1 0 6 = nI e) ∧
  ((X 2 0 0 2 = 0 ∧ M.1 0 7 = 0 ∧ s = n) ∨
   (X 2 0 0 2 = 2 ∧ M.1 0 7 = 1 ∧ s < e ∧ ∃ w, isW w ∧ e = s + w.length ∧ sameW X s w ∧ M.1 0 9 = nI w.length ∧ X 2 0 0 6 = (if w.length ≤ 4 then nI (pkN 32 w) else 0) ∧ (w.length ≤ 12 → M.2.1 10 = lN (pkN 27 w))) ∨
   (X 2 0 0 2 = 3 ∧ M.1 0 7 = 2 ∧ s < e ∧ ∃ u v, X 2 0 0 5 = nI v ∧ M.1 0 11 = nI u ∧ u < 10000000 ∧ v < 10000000 ∧ (u = v ∨ (99999 < u ∧ 99999 < v))) ∨
   (X 2 0 0 2 = 4 ∧ M.1 0 7 = 3 ∧ s < e ∧ M.1 0 11 = 59) ∨
   (X 2 0 0 2 = 5 ∧ M.1 0 7 = 3 ∧ s < e ∧ ¬ M.1 0 11 = 59))
set_option maxRecDepth 20000 in
theorem isRun_2 {X : XT} (h : X 2 0 0 2 = 2) : f_X10_isRun X = some 1 := by unfold f_X10_isRun; rw [if_pos h]
set_option maxRecDepth 20000 in
theorem isRun_3 {X : XT} (h : X 2 0 0 2 = 3) : f_X10_isRun X = some 1 := by unfold f_X10_isRun; rw [if_neg (by rw [h]; decide), if_pos h]
set_option maxRecDepth 20000 in
/-- the end of a run: class -/
theorem run_end {X : XT} {M : MT} {n s q : Nat} (h : BFn X M n) (hq : q ≤ n) (x3 : X 2 0 0 3 = nI s) (x4 : X 2 0 0 4 = nI q) (hs : s ≤ q) (hend : q = n ∨ (q < n ∧ ¬ kb (X 3 0 0 q) = X 2 0 0 2)) (f : Nat) : f_X10_toNext_74 (f + 1) X = some (if q - s ≤ 4 then X else xs X 2 0 0 6 0) := by
  have hn := h.1
  have hlen : (if nI q - nI s ≤ 4 then some X else bnd (xs X 2 0 0 6 0) (fun X1 => some X1)) = some (if q - s ≤ 4 then X else xs X 2 0 0 6 0) := by
    rw [pk_sub hs]
    by_cases c : q - s ≤ 4
    · rw [if_pos c, if_pos (show nI (q - s) ≤ 4 from nI_le (b := 4) c (by decide))]
    · rw [if_neg c, if_neg (show ¬ nI (q - s) ≤ 4 from nI_ge (a := 4) (by omega) (by omega)), bnd_s]
  rw [f_X10_toNext_74, x4, x3, h.2.1, hlen]
  rcases hend with rfl | ⟨h1, h2⟩
  · rw [if_pos (nI_le (Nat.le_refl _) (by omega))]
  · rw [if_neg (nI_ge h1 (by omega)), kindAt_ h h1, bn1_s, if_neg h2]
set_option maxRecDepth 20000 in
/-- one sign more: class -/
theorem run_go {X : XT} {M : MT} {n s q : Nat} (h : BFn X M n) (hq : q < n) (x3 : X 2 0 0 3 = nI s) (x4 : X 2 0 0 4 = nI q) (hs : s ≤ q) (hk : kb (X 3 0 0 q) = X 2 0 0 2) (hr : X 2 0 0 2 = 2 ∨ X 2 0 0 2 = 3) (f : Nat) : f_X10_toNext_74 (f + 1) X = bn1 (f_X10_takeSign X (X 3 0 0 q)) (fun X3 => bnd (xs X3 2 0 0 4 ((X3 2 0 0 4) + 1)) (fun X4 => f_X10_toNext_74 f X4)) := by
  have hn := h.1
  have hrun : f_X10_isRun X = some 1 := hr.elim isRun_2 isRun_3
  rw [f_X10_toNext_74, x4, x3, h.2.1, if_neg (nI_ge hq (by omega)), kindAt_ h hq, bn1_s, if_pos hk, signAt_ h hq, hrun, bn1_s]
  by_cases c : nI q = nI s
  · rw [if_pos c]
  · rw [if_neg c, bn1_s, if_neg (by decide)]
set_option maxRecDepth 20000 in
theorem getD_s {w : List Nat} {c i : Nat} (h : i < w.length) : (c :: w).getD ((c :: w).length - 1 - i) 0 = w.getD (w.length - 1 - i) 0 := by
  rw [List.length_cons, show w.length + 1 - 1 - i = (w.length - 1 - i) + 1 by omega, List.getD_cons_succ]
set_option maxRecDepth 20000 in
theorem pkN_lt {B : Nat} (hB : 27 ≤ B) : ∀ w : List Nat, isW w → pkN B w < B ^ w.length := by
  intro w
  induction w with
  | nil => intro _; exact Nat.one_pos
  | cons c w ih =>
    intro h
    have h1 := h c (by simp)
    have h2 := ih (fun x hx => h x (by simp [hx]))
    rw [pkN, List.length_cons, Nat.pow_succ]
    have : B * (pkN B w + 1) ≤ B * B ^ w.length := Nat.mul_le_mul (Nat.le_refl _) h2
    rw [Nat.mul_add] at this
    rw [Nat.mul_comm (B ^ w.length) B]
    omega
set_option maxRecDepth 20000 in
/-- a run of letters -/
theorem word_run {X0 : XT} {M0 : MT} {n s : Nat} (b0 : BFn X0 M0 n) : ∀ d q f1 f2 (X : XT) (M : MT) (w : List Nat), q + d = n → d < f1 → d < f2 → NF X0 M0 X M → X 2 0 0 2 = 2 → M.1 0 7 = 1 → X 2 0 0 3 = nI s → M.1 0 8 = nI s → X 2 0 0 4 = nI q → M.1 0 6 = nI q → q = s + w.length → isW w → sameW X s w → M.1 0 9 = nI w.length → (w.length ≤ 4 → X 2 0 0 6 = nI (pkN 32 w)) → (w.length ≤ 12 → M.2.1 10 = lN (pkN 27 w)) → (s < q ∨ (q < n ∧ kb (X 3 0 0 q) = 2)) → ∃ X' M' e, f_X10_toNext_74 f1 X = some X' ∧ f_X12_goOn_96 f2 M = some M' ∧ NF X0 M0 X' M' ∧ TK X' M' n s e := by
  intro d
  induction d with
  | zero =>
    intro q f1 f2 X M w hq hf1 hf2 nf x2 m7 x3 m8 x4 m6 hw iw sw m9 x6 m10 hs
    obtain ⟨f1, rfl⟩ := fuel hf1
    obtain ⟨f2, rfl⟩ := fuel hf2
    have b := nf.bf b0
    have hn := b.1
    obtain rfl : q = n := by omega
    have hsq : s < q := hs.resolve_right (fun c => Nat.lt_irrefl _ c.1)
    rw [run_end b (Nat.le_refl _) x3 x4 (by omega) (Or.inl rfl), f_X12_goOn_96, m6, byteAt_n b, bn1_s, isL_, bn1_s, if_pos (show isL (-1) = 0 by decide)]
    refine ⟨_, M, q, rfl, rfl, ?_, by omega, Nat.le_refl _, ⟨?_, m8⟩, ⟨?_, m6⟩, Or.inr (Or.inl ⟨?_, m7, hsq, w, iw, hw, ?_, m9, ?_, m10⟩)⟩
    · split
      · exact nf
      · exact nf.x (by decide)
    · split
      · exact x3
      · rw [xs_o (by omega)]; exact x3
    · split
      · exact x4
      · rw [xs_o (by omega)]; exact x4
    · split
      · exact x2
      · rw [xs_o (by omega)]; exact x2
    · intro i hi
      rw [← sw i hi]
      split
      · rfl
      · rw [xs_o (by omega)]
    · rw [show q - s = w.length by omega]
      by_cases c : w.length ≤ 4
      · rw [if_pos c, if_pos c]; exact x6 c
      · rw [if_neg c, if_neg c, xs_i]
  | succ d ih =>
    intro q f1 f2 X M w hq hf1 hf2 nf x2 m7 x3 m8 x4 m6 hw iw sw m9 x6 m10 hs
    obtain ⟨f1, rfl⟩ := fuel hf1
    obtain ⟨f2, rfl⟩ := fuel hf2
    have b := nf.bf b0
    have hn := b.1
    have hqn : q < n := by omega
    have hk := kd (b.2.2.2 q hqn).2
    by_cases c2 : kb (X 3 0 0 q) = 2
    · have hk2 : ∃ c, c < 27 ∧ 1 ≤ c ∧ X 3 0 0 q = nI (96 + c) ∧ X 3 0 0 q &&& 255 = nI (96 + c) ∧ isL (X 3 0 0 q &&& 255) = 1 := by
        rcases hk with k | k | k | k | k
        · rw [k.1] at c2; exact absurd c2 (by decide)
        · exact k.2
        · rw [k.1] at c2; exact absurd c2 (by decide)
        · rw [k.1] at c2; exact absurd c2 (by decide)
        · rw [k.1] at c2; exact absurd c2 (by decide)
      obtain ⟨c, hc27, hc1, e1, e2, e3⟩ := hk2
      obtain ⟨X1, hX1⟩ : ∃ Z : XT, Z = xs (xs X 2 0 0 6 (((((X 2 0 0 6) <<< ((5 : Int32) &&& 31)) + nI (96 + c)) - 97) + 1)) 2 0 0 4 (nI (q + 1)) := ⟨_, rfl⟩
      obtain ⟨v10, hv10⟩ : ∃ v : Int64, v = if w.length < 12 then lN (pkN 27 (c :: w)) else -1 := ⟨_, rfl⟩
      obtain ⟨M1, hM1⟩ : ∃ Z : MT, Z = mi (mi (ml M 10 v10) 0 9 (nI (w.length + 1))) 0 6 (nI (q + 1)) := ⟨_, rfl⟩
      have eX : f_X10_toNext_74 (f1 + 1) X = f_X10_toNext_74 f1 X1 := by
        rw [run_go b hqn x3 x4 (by omega) (c2.trans x2.symm) (Or.inl x2)]
        unfold f_X10_takeSign
        rw [if_pos x2, e1, bnd_s, bn1_s, xs_o (by omega), x4, show nI q + 1 = nI (q + 1) from nI_add q 1, bnd_s, hX1]
      have eM : f_X12_goOn_96 (f2 + 1) M = f_X12_goOn_96 f2 M1 := by
        rw [f_X12_goOn_96, m6, byteAt_ b hqn, bn1_s, isL_, e3, bn1_s, if_neg (by decide), m9, bn1_s]
        by_cases cc : w.length < 12
        · have hp := pkN_lt (B := 27) (by decide) w iw
          have p12 : 27 ^ w.length ≤ 27 ^ 11 := Nat.pow_le_pow_right (by decide) (by omega)
          have hv : ((27 * (M.2.1 10) + (nI (96 + c)).toInt64) - 97) + 1 = v10 := by
            rw [hv10, if_pos cc, m10 (by omega), lnI (by omega), show (27 : Int64) = lN 27 from rfl, lnM, lnA, show (97 : Int64) = lN 97 from rfl, lnS (by omega), show (1 : Int64) = lN 1 from rfl, lnA, pkN]
            exact congrArg lN (by omega)
          rw [if_neg (show ¬ (12 : Int32) ≤ nI w.length from nI_ge (b := 12) cc (by decide)), e2, hv, bnd_s, ml_1, m9, show nI w.length + 1 = nI (w.length + 1) from nI_add _ 1, bnd_s, mi_o (by decide), ml_1, m6, show nI q + 1 = nI (q + 1) from nI_add q 1, bnd_s, hM1]
        · have hv : (-1 : Int64) = v10 := by rw [hv10, if_neg cc]
          rw [if_pos (show (12 : Int32) ≤ nI w.length from nI_le (a := 12) (by omega) (by omega)), hv, bnd_s, ml_1, m9, show nI w.length + 1 = nI (w.length + 1) from nI_add _ 1, bnd_s, mi_o (by decide), ml_1, m6, show nI q + 1 = nI (q + 1) from nI_add q 1, bnd_s, hM1]
      have nf1 : NF X0 M0 X1 M1 := by
        rw [hX1, hM1]
        exact (((nf.x (by decide)).x (by decide)).l.m (by decide) (by decide)).m (by decide) (by decide)
      have y2 : X1 2 0 0 2 = 2 := by rw [hX1, xs_o (by omega), xs_o (by omega)]; exact x2
      have y3 : X1 2 0 0 3 = nI s := by rw [hX1, xs_o (by omega), xs_o (by omega)]; exact x3
      have y4 : X1 2 0 0 4 = nI (q + 1) := by rw [hX1]; exact xs_i
      have y6 : (c :: w).length ≤ 4 → X1 2 0 0 6 = nI (pkN 32 (c :: w)) := by
        intro hl
        rw [List.length_cons] at hl
        have hp := pkN_lt (B := 32) (by decide) w iw
        have p3 : 32 ^ w.length ≤ 32 ^ 3 := Nat.pow_le_pow_right (by decide) (by omega)
        rw [hX1, xs_o (by omega), xs_i, x6 (by omega), pk_shlN (5 &&& 31) 5 (by decide) (by omega), nI_add, show nI (pkN 32 w * 2 ^ 5 + (96 + c)) - 97 = nI (pkN 32 w * 2 ^ 5 + (96 + c) - 97) from pk_sub (b := 97) (by omega), show nI (pkN 32 w * 2 ^ 5 + (96 + c) - 97) + 1 = nI (pkN 32 w * 2 ^ 5 + (96 + c) - 97 + 1) from nI_add _ 1, pkN]
        exact congrArg nI (by omega)
      have yb : ∀ i, X1 3 0 0 i = X 3 0 0 i := fun i => by rw [hX1, xs_o (by omega), xs_o (by omega)]
      have z7 : M1.1 0 7 = 1 := by rw [hM1, mi_o (by decide), mi_o (by decide)]; exact m7
      have z8 : M1.1 0 8 = nI s := by rw [hM1, mi_o (by decide), mi_o (by decide)]; exact m8
      have z6 : M1.1 0 6 = nI (q + 1) := by rw [hM1]; exact mi_i
      have z9 : M1.1 0 9 = nI (c :: w).length := by rw [hM1, mi_o (by decide), mi_i, List.length_cons]
      have z10 : (c :: w).length ≤ 12 → M1.2.1 10 = lN (pkN 27 (c :: w)) := by
        intro hl
        rw [List.length_cons] at hl
        have : M1.2.1 10 = v10 := by rw [hM1]; rfl
        rw [this, hv10, if_pos (by omega)]
      clear hX1 hM1 hv10
      have sw' : sameW X1 s (c :: w) := by
        intro i hi
        rw [yb]
        by_cases d : i < w.length
        · rw [getD_s d]
          exact sw i d
        · obtain rfl : i = w.length := by rw [List.length_cons] at hi; omega
          rw [← hw, e1, List.length_cons, show w.length + 1 - 1 - w.length = 0 by omega, List.getD_cons_zero]
      have iw' : isW (c :: w) := by
        intro x hx
        rcases List.mem_cons.mp hx with rfl | hx
        · exact ⟨hc1, by omega⟩
        · exact iw x hx
      rw [eX, eM]
      exact ih (q + 1) f1 f2 X1 M1 (c :: w) (by omega) (by omega) (by omega) nf1 y2 z7 y3 z8 y4 z6 (by rw [List.length_cons]; omega) iw' sw' z9 y6 z10 (Or.inl (by omega))
    · have hsq : s < q := hs.resolve_right (fun c => c2 c.2)
      have hL : isL (X 3 0 0 q &&& 255) = 0 := by
        rcases hk with k | k | k | k | k
        · exact k.2.2.1
        · exact absurd k.1 c2
        · obtain ⟨c, k⟩ := k.2; exact k.2.2.2.1
        · exact k.2.2.1
        · exact k.2.2.2.2.2.1
      rw [run_end b (by omega) x3 x4 (by omega) (Or.inr ⟨hqn, by rw [x2]; exact c2⟩), f_X12_goOn_96, m6, byteAt_ b hqn, bn1_s, isL_, hL, bn1_s, if_pos rfl]
      refine ⟨_, M, q, rfl, rfl, ?_, by omega, by omega, ⟨?_, m8⟩, ⟨?_, m6⟩, Or.inr (Or.inl ⟨?_, m7, hsq, w, iw, hw, ?_, m9, ?_, m10⟩)⟩
      · split
        · exact nf
        · exact nf.x (by decide)
      · split
        · exact x3
        · rw [xs_o (by omega)]; exact x3
      · split
        · exact x4
        · rw [xs_o (by omega)]; exact x4
      · split
        · exact x2
        · rw [xs_o (by omega)]; exact x2
      · intro i hi
        rw [← sw i hi]
        split
        · rfl
        · rw [xs_o (by omega)]
      · rw [show q - s = w.length by omega]
        by_cases c : w.length ≤ 4
        · rw [if_pos c, if_pos c]; exact x6 c
        · rw [if_neg c, if_neg c, xs_i]
