/-! PURE: where the reader stands in a text: its token w, and what follows -/
def TX (T : List Int32) : Nat → Int32 := fun i => T.getD i 0
def numL (w : List Int32) : Int32 := w.foldl (fun a b => if 1000000 ≤ a then a else ((10 * a) + b) - 48) 0
def namL (w : List Int32) : Int32 := w.foldl (fun a b => (((a <<< ((5 : Int32) &&& 31)) + b) - 97) + 1) 0
def AT (X : XT) (T w r : List Int32) : Prop := BX X (TX T) T.length ∧ ∃ s, T.drop s = w ++ r ∧ s + (w.length + r.length) = T.length ∧ CTk X (TX T) T.length s (s + w.length)
/-- a word (2) or a number (3) -/
def wd (c : Int32) (w : List Int32) : Prop := w ≠ [] ∧ (c = 2 ∨ c = 3) ∧ ∀ x ∈ w, kb x = c
def hd (c : Int32) (r : List Int32) : Prop := ∀ x t, r = x :: t → kb x ≠ c
set_option maxRecDepth 20000 in
theorem tx_drop {T l : List Int32} {s i : Nat} (h : T.drop s = l) : TX T (s + i) = l.getD i 0 := by
  unfold TX
  rw [← h, List.getD_eq_getElem?_getD, List.getD_eq_getElem?_getD, List.getElem?_drop]
set_option maxRecDepth 20000 in
theorem getD_me {l : List Int32} {i : Nat} (h : i < l.length) : l.getD i 0 ∈ l := by
  rw [List.getD_eq_getElem?_getD, List.getElem?_eq_getElem h]
  exact List.getElem_mem h
set_option maxRecDepth 20000 in
theorem drop_drop {T a b : List Int32} {s : Nat} (h : T.drop s = a ++ b) : T.drop (s + a.length) = b := by
  rw [← List.drop_drop, h, List.drop_left]
set_option maxRecDepth 20000 in
theorem num_L {tx : Nat → Int32} {s : Nat} {w : List Int32} (h : ∀ i, i < w.length → tx (s + i) = w.getD i 0) : ∀ k, k ≤ w.length → numV tx s k = numL (w.take k) := by
  intro k
  induction k with
  | zero => exact fun _ => rfl
  | succ k ih =>
    intro hk
    have e : w[k]? = some (w.getD k 0) := by rw [List.getD_eq_getElem?_getD, List.getElem?_eq_getElem (by omega)]; rfl
    unfold numL at ih ⊢
    rw [numV, ih (by omega), h k (by omega), List.take_succ, e, List.foldl_append]
    rfl
set_option maxRecDepth 20000 in
theorem nam_L {tx : Nat → Int32} {s : Nat} {w : List Int32} (h : ∀ i, i < w.length → tx (s + i) = w.getD i 0) : ∀ k, k ≤ w.length → nameV tx s k = namL (w.take k) := by
  intro k
  induction k with
  | zero => exact fun _ => rfl
  | succ k ih =>
    intro hk
    have e : w[k]? = some (w.getD k 0) := by rw [List.getD_eq_getElem?_getD, List.getElem?_eq_getElem (by omega)]; rfl
    unfold namL at ih ⊢
    rw [nameV, ih (by omega), h k (by omega), List.take_succ, e, List.foldl_append]
    rfl
section ATS
variable {X X' : XT} {T w0 w r sp : List Int32} {c : Int32}
set_option maxRecDepth 20000 in
theorem AT.fr (h : AT X T w r) (g : FR X X') (e : ∀ f, 2 ≤ f → X' 2 0 0 f = X 2 0 0 f) : AT X' T w r := by
  obtain ⟨h1, s, h2, h3, c1, c2, c3, c4⟩ := h
  refine ⟨h1.fr g, s, h2, h3, ?_, ?_, ?_, ?_⟩
  · rw [e 3 (by decide)]; exact c1
  · rw [e 4 (by decide)]; exact c2
  · rw [e 2 (by decide)]; exact c3
  · rw [e 2 (by decide), e 5 (by decide), e 6 (by decide)]; exact c4
set_option maxRecDepth 20000 in
/-- only fields above the reader's change -/
theorem AT.up (h : AT X T w r) (e : ∀ f, X' 2 0 0 f = X 2 0 0 f) (e3 : ∀ i, X' 3 0 0 i = X 3 0 0 i) : AT X' T w r := by
  obtain ⟨⟨h1, h2, h3⟩, s, h4, h5, c1, c2, c3, c4⟩ := h
  refine ⟨⟨h1, (e 1).trans h2, fun i hi => (e3 i).trans (h3 i hi)⟩, s, h4, h5, ?_, ?_, ?_, ?_⟩
  · rw [e]; exact c1
  · rw [e]; exact c2
  · rw [e]; exact c3
  · rw [e, e, e]; exact c4
set_option maxRecDepth 20000 in
theorem AT.tok (h : AT X T w r) {e' : Nat} {w' r' : List Int32} (t : ∀ s, T.drop s = w ++ r → s + (w.length + r.length) = T.length → T.drop e' = w' ++ r' ∧ e' + (w'.length + r'.length) = T.length ∧ tokOK (TX T) T.length (s + w.length) e' (e' + w'.length)) : ∃ X', f_X10_toNext X = some X' ∧ AT X' T w' r' ∧ FR X X' := by
  obtain ⟨h1, s, h2, h3, c1, c2, -⟩ := h
  obtain ⟨t1, t2, t3⟩ := t s h2 h3
  obtain ⟨X', e, fr, ct⟩ := tokX h1 c2 t3
  exact ⟨X', e, ⟨h1.fr fr, e', t1, t2, ct⟩, fr⟩
set_option maxRecDepth 20000 in
theorem tok_gen (h : AT X T w0 (sp ++ (w ++ r))) (hsp : ∀ x ∈ sp, kb x = 1) (hh : ∀ s', T.drop s' = w ++ r → s' + (w.length + r.length) = T.length → (s' = T.length ∧ s' + w.length = T.length) ∨ (s' < s' + w.length ∧ s' + w.length ≤ T.length ∧ kb (TX T s') ≠ 1 ∧ (((kb (TX T s') = 2 ∨ kb (TX T s') = 3) ∧ (∀ i, i < s' + w.length → s' ≤ i → kb (TX T i) = kb (TX T s')) ∧ (s' + w.length = T.length ∨ (s' + w.length < T.length ∧ kb (TX T (s' + w.length)) ≠ kb (TX T s')))) ∨ (kb (TX T s') = 4 ∧ s' + w.length = s' + 1)))) : ∃ X', f_X10_toNext X = some X' ∧ AT X' T w r ∧ FR X X' := by
  obtain ⟨h1, s, h2, h3, c1, c2, -⟩ := h
  have d1 := drop_drop h2
  have d2 := drop_drop d1
  simp only [List.length_append] at h3
  have t3 : tokOK (TX T) T.length (s + w0.length) (s + w0.length + sp.length) (s + w0.length + sp.length + w.length) := by
    refine ⟨by omega, fun i hi1 hi2 => ?_, hh _ d2 (by omega)⟩
    have := tx_drop (i := i - (s + w0.length)) d1
    rw [show s + w0.length + (i - (s + w0.length)) = i by omega] at this
    rw [this, getD_app_lo (by omega)]
    exact hsp _ (getD_me (by omega))
  obtain ⟨X', e, fr, ct⟩ := tokX h1 c2 t3
  exact ⟨X', e, ⟨h1.fr fr, _, d2, by omega, ct⟩, fr⟩
set_option maxRecDepth 20000 in
theorem at_run (h : AT X T w0 (sp ++ (w ++ r))) (hsp : ∀ x ∈ sp, kb x = 1) (hw : wd c w) (hr : hd c r) : ∃ X', f_X10_toNext X = some X' ∧ AT X' T w r ∧ FR X X' := by
  obtain ⟨w1, w2, w3⟩ := hw
  have wl : 0 < w.length := List.length_pos_iff.mpr w1
  refine tok_gen h hsp fun s' d l => Or.inr ?_
  have hk : ∀ i, i < w.length → kb (TX T (s' + i)) = c := fun i hi => by
    rw [tx_drop d, getD_app_lo hi]
    exact w3 _ (getD_me hi)
  have h0 := hk 0 wl
  rw [Nat.add_zero] at h0
  refine ⟨by omega, by omega, by rw [h0]; rcases w2 with q | q <;> rw [q] <;> decide, Or.inl ⟨by rw [h0]; exact w2, fun i h1 h2 => ?_, ?_⟩⟩
  · have := hk (i - s') (by omega)
    rw [show s' + (i - s') = i by omega] at this
    rw [this, h0]
  · cases r with
    | nil => exact Or.inl (by simp at l; omega)
    | cons x t =>
      refine Or.inr ⟨by simp at l; omega, ?_⟩
      rw [tx_drop d, show w.length = w.length + 0 from rfl, getD_app_hi, h0]
      exact hr x t rfl
set_option maxRecDepth 20000 in
theorem at_semi (h : AT X T w0 (sp ++ ([59] ++ r))) (hsp : ∀ x ∈ sp, kb x = 1) : ∃ X', f_X10_toNext X = some X' ∧ AT X' T [59] r ∧ FR X X' := by
  refine tok_gen h hsp fun s' d l => Or.inr ?_
  have h0 : kb (TX T s') = 4 := by
    have := tx_drop (i := 0) d
    rw [Nat.add_zero] at this
    rw [this]
    rfl
  simp only [List.length_singleton] at l
  exact ⟨by simp, by simp; omega, by rw [h0]; decide, Or.inr ⟨h0, rfl⟩⟩
set_option maxRecDepth 20000 in
theorem at_end (h : AT X T w0 []) : ∃ X', f_X10_toNext X = some X' ∧ AT X' T [] [] ∧ FR X X' := by
  refine tok_gen (sp := []) (w := []) (r := []) h (fun x hx => absurd hx List.not_mem_nil) fun s' d l => Or.inl ?_
  simp at l
  exact ⟨l, l⟩
set_option maxRecDepth 20000 in
theorem AT.kind {x : Int32} {v : List Int32} (h : AT X T (x :: v) r) : X 2 0 0 2 = kb x := by
  obtain ⟨h1, s, h2, h3, c1, c2, c3, c4⟩ := h
  have h0 : TX T s = x := by
    have := tx_drop (i := 0) h2
    rw [Nat.add_zero] at this
    exact this
  have := (c4 (by simp at h3; omega)).1
  rw [this, h0]
set_option maxRecDepth 20000 in
theorem AT.kend (h : AT X T [] []) : X 2 0 0 2 = 0 := by
  obtain ⟨h1, s, h2, h3, c1, c2, c3, c4⟩ := h
  exact c3 (by simp at h3; omega)
set_option maxRecDepth 20000 in
theorem AT.wk (h : AT X T w r) (hw : wd c w) : X 2 0 0 2 = c ∧ (c = 3 → X 2 0 0 5 = numL w) ∧ (c = 2 → w.length ≤ 4 → X 2 0 0 6 = namL w) := by
  obtain ⟨h1, s, h2, h3, c1, c2, c3, c4⟩ := h
  obtain ⟨w1, w2, w3⟩ := hw
  have wl : 0 < w.length := List.length_pos_iff.mpr w1
  have e : ∀ i, i < w.length → TX T (s + i) = w.getD i 0 := fun i hi => by rw [tx_drop h2, getD_app_lo hi]
  have h0 : kb (TX T s) = c := by
    have := e 0 wl
    rw [Nat.add_zero] at this
    rw [this]
    exact w3 _ (getD_me wl)
  obtain ⟨q1, q2, q3⟩ := c4 (by omega)
  rw [h0, Nat.add_sub_cancel_left] at *
  refine ⟨q1, fun q => ?_, fun q l => ?_⟩
  · rw [q2 q, num_L e _ (Nat.le_refl _), List.take_length]
  · rw [q3 q, if_pos l, nam_L e _ (Nat.le_refl _), List.take_length]
set_option maxRecDepth 20000 in
theorem str_in : ∀ t, t < 12 → strB.getD t [] ≠ [] ∧ (∀ x ∈ strB.getD t [], kb x = 2) ∧ (strB.getD t []).length = strN.getD t 0 := by decide +kernel
set_option maxRecDepth 20000 in
theorem str_ne : ∀ t, t < 12 → ∀ u, u < 12 → t ≠ u → strN.getD t 0 ≠ strN.getD u 0 ∨ ∃ k, k < strN.getD u 0 ∧ (∀ i, i < k → sch t i = sch u i) ∧ ¬ sch t k = sch u k := by decide +kernel
set_option maxRecDepth 20000 in
theorem AT.spl {t u : Nat} (ht : t < 12) (hu : u < 12) (h : AT X T (strB.getD t []) r) : f_X10_spells X u = some (if u = t then 1 else 0) := by
  obtain ⟨h1, s, h2, h3, hc⟩ := h
  obtain ⟨i1, i2, i3⟩ := str_in t ht
  have wl : 0 < (strB.getD t []).length := List.length_pos_iff.mpr i1
  have e : ∀ i, i < strN.getD t 0 → TX T (s + i) = sch t i := fun i hi => by rw [tx_drop h2, getD_app_lo (by omega)]; rfl
  have hk : kb (TX T s) = 2 := by
    have := e 0 (by omega)
    rw [Nat.add_zero] at this
    rw [this]
    exact i2 _ (getD_me wl)
  by_cases q : u = t
  · subst q
    rw [if_pos rfl]
    exact sp_1 h1 hc (by omega) (by omega) hk hu ⟨by rw [i3], e⟩
  · rw [if_neg q]
    refine sp_0 h1 hc (by omega) (by omega) hk hu ?_
    rcases str_ne t ht u hu (fun e => q e.symm) with n | ⟨k, k1, k2, k3⟩
    · exact Or.inl (by omega)
    · by_cases l : strN.getD t 0 = strN.getD u 0
      · exact Or.inr ⟨k, k1, fun i hi => by rw [e i (by omega)]; exact k2 i hi, by rw [e k (by omega)]; exact k3⟩
      · exact Or.inl (by omega)
end ATS
/-! numbers as they are written -/
set_option maxRecDepth 20000 in
theorem dg_ok {n : Nat} (h : n < 100000) : n < 10 ^ sb_dg n ∧ sb_dg n ≤ 5 := by
  unfold sb_dg
  split
  · exact ⟨by omega, by omega⟩
  · split
    · exact ⟨by omega, by omega⟩
    · split
      · exact ⟨by omega, by omega⟩
      · split
        · exact ⟨by omega, by omega⟩
        · exact ⟨by omega, by omega⟩
set_option maxRecDepth 20000 in
theorem kb_dig : ∀ d, d < 10 → kb (nI (48 + d)) = 3 := by decide
set_option maxRecDepth 20000 in
theorem dec_wd (n : Nat) : wd 3 (decL n) := by
  refine ⟨?_, Or.inr rfl, fun x hx => ?_⟩
  · intro e
    have := congrArg List.length e
    unfold decL at this
    rw [List.length_map, List.length_range] at this
    have h2 := (sb_dg_in n).1
    simp at this
    omega
  · obtain ⟨i, -, rfl⟩ := List.mem_map.mp hx
    exact kb_dig _ (Nat.mod_lt _ (by decide))
set_option maxRecDepth 20000 in
theorem dec_num {n : Nat} (h : n < 100000) : numL (decL n) = nI n := by
  obtain ⟨d1, d2⟩ := dg_ok h
  have key : ∀ i, i ≤ sb_dg n → numL ((decL n).take i) = nI (n / 10 ^ (sb_dg n - i)) := by
    intro i
    induction i with
    | zero =>
      intro _
      rw [Nat.sub_zero, Nat.div_eq_of_lt d1]
      rfl
    | succ i ih =>
      intro hi
      have e : (decL n)[i]? = some (nI (48 + n / 10 ^ (sb_dg n - 1 - i) % 10)) := by
        unfold decL
        rw [List.getElem?_map, List.getElem?_range (by omega)]
        rfl
      have ih := ih (by omega)
      unfold numL at ih ⊢
      rw [List.take_succ, e, List.foldl_append, ih]
      obtain ⟨q, hq⟩ : ∃ q, q = n / 10 ^ (sb_dg n - 1 - i) := ⟨_, rfl⟩
      have e1 : n / 10 ^ (sb_dg n - i) = q / 10 := by
        rw [hq, Nat.div_div_eq_div_mul, ← Nat.pow_succ, show (sb_dg n - 1 - i).succ = sb_dg n - i by omega]
      have e2 : n / 10 ^ (sb_dg n - (i + 1)) = q := by rw [hq, show sb_dg n - (i + 1) = sb_dg n - 1 - i by omega]
      have hq2 : q ≤ n := by rw [hq]; exact Nat.div_le_self _ _
      rw [e1, e2, ← hq]
      show (if (1000000 : Int32) ≤ nI (q / 10) then nI (q / 10) else (10 * nI (q / 10) + nI (48 + q % 10)) - 48) = nI q
      rw [if_neg (show ¬ (1000000 : Int32) ≤ nI (q / 10) from nI_ge (b := 1000000) (by omega) (by decide)), show (10 : Int32) * nI (q / 10) = nI (10 * (q / 10)) from pk_mul 10 _, nI_add, show nI (10 * (q / 10) + (48 + q % 10)) - 48 = nI (10 * (q / 10) + (48 + q % 10) - 48) from pk_sub (b := 48) (by omega)]
      exact congrArg nI (by omega)
  have := key (sb_dg n) (Nat.le_refl _)
  rw [List.take_of_length_le (by unfold decL; rw [List.length_map, List.length_range]; exact Nat.le_refl _), Nat.sub_self, Nat.pow_zero, Nat.div_one] at this
  exact this
