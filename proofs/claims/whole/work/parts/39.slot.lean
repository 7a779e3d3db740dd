/-! PURE: undo, save, restore as steps -/
def UR (f : Option (Int32 × XT)) (t : Option Nat) (ref : Option (Int32 × MT)) (M : MT) (cs : List (Nat × Int32)) : Prop := (∃ r X' M', f = some (r, X') ∧ ref = some (r, M') ∧ RR X' M' ∧ M'.1 0 0 = 0) ∨ (∃ e k r, (e, k) ∈ cs ∧ t = some e ∧ ref = some (r, mi M 0 0 k))
set_option maxRecDepth 20000 in
theorem und33 {M : MT} {c : Nat} (hc : c < 6) (h27 : M.1 0 27 = nI c) : ∀ d i f (Mi : MT), RwC 4 (264 * c) 1 0 i M Mi → i + d = 264 → d < f → ∃ M', f_X12_undo_33 f Mi (nI i) = some (nI c, M') ∧ RwC 4 (264 * c) 1 0 264 M M' := by
  intro d
  induction d with
  | zero =>
    intro i f Mi hr hi hf
    obtain ⟨f, rfl⟩ := fuel hf
    obtain rfl : i = 264 := by omega
    unfold f_X12_undo_33
    rw [if_pos (by decide), hr.k (by decide), h27]
    exact ⟨Mi, rfl, hr⟩
  | succ d ih =>
    intro i f Mi hr hi hf
    obtain ⟨f, rfl⟩ := fuel hf
    unfold f_X12_undo_33
    rw [if_neg (show ¬ (264 : Int32) ≤ nI i from nI_ge (a := i) (b := 264) (by omega) (by decide)), hr.k (by decide : (0 : Nat) ≠ 1), h27, m264, bnd_s, gd_t (nI_in (by omega) (by decide)), gd_t (nI_in (by omega) (by decide)), nI_clamp (by omega), nI_clamp (by omega), bnd_s, show nI i + 1 = nI (i + 1) from nI_add i 1]
    have h2 := hr.one (by omega)
    rw [Nat.zero_add] at h2
    exact ih (i + 1) f _ h2 (by omega) (by omega)
set_option maxRecDepth 20000 in
theorem rest45 {M : MT} {s : Nat} (hs : s < 2) : ∀ d i f (Mi : MT), RwC 5 (264 * s) 1 0 i M Mi → i + d = 264 → d < f → ∃ M', f_X12_restore_45 (nI s) f Mi (nI i) = some (M'.1 1 2, M') ∧ RwC 5 (264 * s) 1 0 264 M M' := by
  intro d
  induction d with
  | zero =>
    intro i f Mi hr hi hf
    obtain ⟨f, rfl⟩ := fuel hf
    obtain rfl : i = 264 := by omega
    unfold f_X12_restore_45
    rw [if_pos (by decide)]
    exact ⟨Mi, rfl, hr⟩
  | succ d ih =>
    intro i f Mi hr hi hf
    obtain ⟨f, rfl⟩ := fuel hf
    unfold f_X12_restore_45
    rw [if_neg (show ¬ (264 : Int32) ≤ nI i from nI_ge (a := i) (b := 264) (by omega) (by decide)), m264, bnd_s, gd_t (nI_in (by omega) (by decide)), gd_t (nI_in (by omega) (by decide)), nI_clamp (by omega), nI_clamp (by omega), bnd_s, show nI i + 1 = nI (i + 1) from nI_add i 1]
    have h2 := hr.one (by omega)
    rw [Nat.zero_add] at h2
    exact ih (i + 1) f _ h2 (by omega) (by omega)
set_option maxRecDepth 20000 in
theorem save18 {M : MT} {s : Nat} (hs : s < 2) : ∀ d i f (Mi : MT), RwC 1 0 5 (264 * s) i M Mi → i + d = 264 → d < f → ∃ M', f_X12_save_18 (nI s) f Mi (nI i) = some (M.1 1 2, mi M' 0 29 (M.1 0 29 ||| ((1 : Int32) <<< (nI s &&& 31)))) ∧ RwC 1 0 5 (264 * s) 264 M M' := by
  intro d
  induction d with
  | zero =>
    intro i f Mi hr hi hf
    obtain ⟨f, rfl⟩ := fuel hf
    obtain rfl : i = 264 := by omega
    unfold f_X12_save_18
    rw [if_pos (by decide), bnd_s, hr.k (k := 0) (by decide), mi_ne (by decide), hr.k (k := 1) (by decide)]
    exact ⟨Mi, rfl, hr⟩
  | succ d ih =>
    intro i f Mi hr hi hf
    obtain ⟨f, rfl⟩ := fuel hf
    unfold f_X12_save_18
    rw [if_neg (show ¬ (264 : Int32) ≤ nI i from nI_ge (a := i) (b := 264) (by omega) (by decide)), m264, gd_t (nI_in (by omega) (by decide)), gd_t (nI_in (by omega) (by decide)), nI_clamp (by omega), nI_clamp (by omega), bnd_s, show nI i + 1 = nI (i + 1) from nI_add i 1]
    have h2 := hr.one (by omega)
    rw [Nat.zero_add] at h2
    exact ih (i + 1) f _ h2 (by omega) (by omega)
set_option maxRecDepth 20000 in
theorem prev6 : ∀ n, n < 6 → ((nI n + 6) - 1) - ((nI n + 6) - 1) / 6 * 6 = nI ((n + 5) % 6) := by decide
set_option maxRecDepth 20000 in
/-- a book brought from another one, with its row: all but history and saved books -/
theorem RR.back {X Z X' : XT} {M M' : MT} (h : RR X M) {j1 : Nat} (hj1 : j1 < 10) (hj : j1 ≠ 1) {r : Nat → Int32} (hr : BR X j1 r) (cZ : CP inB X 1 j1 Z) (x1 : ∀ k j i f, k ≠ 4 → X' k j i f = Z k j i f) (m2 : M'.2 = M.2) (m1 : ∀ q, q < 264 → M'.1 1 q = r q) (em0 : ∀ f, f ≠ 0 → f ≠ 27 → f ≠ 29 → M'.1 0 f = M.1 0 f) (m3 : M'.1 3 = M.1 3) (m6 : M'.1 6 = M.1 6) (hi : HI X' M') (sv : SV X' M') : RR X' M' := by
  refine h.mk' ?_ ?_ m2 ?_ em0 m3 m6 hi sv
  · refine hr.eq (fun k i f hq => ?_) m1
    rw [x1 k 1 i f (by rintro rfl; exact hq), cZ.1 k i f hq]
  · intro j hj i hi
    rw [x1 22 j i 7 (by decide)]
    by_cases c : j = 1
    · subst c
      rw [cZ.1 22 i 7 (by show _ ∧ _; omega)]
      exact h.2.1 j1 hj1 i hi
    · rw [cZ.2 22 j i 7 (Or.inl c)]
      exact h.2.1 j hj i hi
  · intro k hk f
    have : k ≠ 4 ∧ ∀ i f, ¬ inB k i f := by
      rcases hk with rfl | rfl | rfl | rfl | rfl <;> exact ⟨by decide, fun _ _ => id⟩
    rw [x1 k 0 0 f this.1, cZ.2 k 0 0 f (Or.inr (this.2 0 f))]
set_option maxRecDepth 20000 in
theorem u_undo {X : XT} {M : MT} (h : RR X M) : UR (f_X11_undo X) (t_X11_undo X) (f_X12_undo M) M [(0, 1)] := by
  obtain ⟨nx, cn, n1, n2, n3, n4, n5, n6⟩ := h.2.2.2.2.2.1
  unfold f_X11_undo t_X11_undo f_X12_undo
  rw [n4, n5]
  by_cases c : cn = 0
  · subst c
    refine Or.inr ⟨0, 1, 0, List.mem_cons_self, ?_, ?_⟩
    · rw [if_pos (show nI 0 = (0 : Int32) from rfl)]
    · rw [if_pos (by decide), ps1_0, bn2_s, if_pos rfl]
  · have hj : 2 + (nx + 5) % 6 ≠ 1 := by omega
    let X0 : XT := xs (xs X 4 0 0 1 (nI ((nx + 5) % 6))) 4 0 0 2 (nI (cn - 1))
    have x0 : ∀ k j i f, k ≠ 4 → X0 k j i f = X k j i f := by
      intro k j i f hk
      show xs _ _ _ _ _ _ k j i f = _
      unfold xs
      rw [if_neg (fun c => hk c.1), if_neg (fun c => hk c.1)]
    obtain ⟨X', eX, cX⟩ := cp_X0 (X := X0) (j := 1) (j1 := 2 + (nx + 5) % 6) hj fun i hi => by rw [x0 22 _ i 7 (by decide)]; exact h.2.1 _ (by omega) i hi
    have x' : ∀ k j i f, k = 4 → X' k j i f = X0 k j i f := by
      rintro k j i f rfl
      exact cX.2 4 j i f (Or.inr id)
    have xb : ∀ j, j ≠ 1 → ∀ k i f, inB k i f → X' k j i f = X k j i f := by
      intro j hj k i f hq
      rw [cX.2 k j i f (Or.inl hj), x0 k j i f (by rintro rfl; exact hq)]
    have e27 : (mi (mi M 0 0 0) 0 27 (nI (cn - 1))).1 0 27 = nI (cn - 1) := by simp [mi]
    obtain ⟨M', e, r1⟩ := und33 (M := mi (mi M 0 0 0) 0 27 (nI (cn - 1))) (by omega) e27 264 0 2000 _ (rwc_no _ _ _ _ _) rfl (by decide)
    have em0 : ∀ f, f ≠ 0 → f ≠ 27 → M'.1 0 f = M.1 0 f := by
      intro f h0 h27
      rw [r1.k (by decide)]
      show (if 0 = 0 ∧ f = 27 then _ else if 0 = 0 ∧ f = 0 then _ else M.1 0 f) = _
      rw [if_neg (fun d => h27 d.2), if_neg (fun d => h0 d.2)]
    have em : ∀ k, k ≠ 0 → k ≠ 1 → M'.1 k = M.1 k := by
      intro k h0 h1
      rw [r1.k h1, mi_ne h0, mi_ne h0]
    refine Or.inl ⟨nI (cn - 1), X', M', ?_, ?_, ?_, ?_⟩
    · rw [if_neg (fun q => c ((nI_01 (by omega)).mp q))]
      unfold f_X4_bringBack
      rw [n3, prev6 nx n1, bnd_s]
      have : (xs X 4 0 0 1 (nI ((nx + 5) % 6))) 4 0 0 2 = nI cn := n4
      rw [this, show nI cn - 1 = nI (cn - 1) from pk_sub (a := cn) (b := 1) (by omega), bnd_s]
      have : X0 4 0 0 1 = nI ((nx + 5) % 6) := rfl
      rw [show (xs (xs X 4 0 0 1 (nI ((nx + 5) % 6))) 4 0 0 2 (nI (cn - 1))) = X0 from rfl, this, gd_t (nI_in (by omega) (by decide)), nI_clamp (by omega), eX, bn1_s, bn1_s, x' 4 0 0 2 rfl]
      rfl
    · rw [if_neg (fun q => c ((nI_le0 (by omega)).mp q)), ps1_1, bn2_s, if_neg (by decide)]
      have : (mi M 0 0 0).1 0 27 = nI cn := by rw [← n5]; simp [mi]
      rw [this, show nI cn - 1 = nI (cn - 1) from pk_sub (a := cn) (b := 1) (by omega), bnd_s]
      exact e
    · have hrow := n6 (cn - 1) (by omega)
      rw [show 2 + (nx + 6 - cn + (cn - 1)) % 6 = 2 + (nx + 5) % 6 by omega] at hrow
      -- book 1 comes from the ring
      refine h.mk' ?_ ?_ r1.2.2 ?_ (fun f h0 h27 _ => em0 f h0 h27) (em 3 (by decide) (by decide)) (em 6 (by decide) (by decide)) ?_ ?_
      · refine hrow.eq (fun k i f hq => ?_) fun q hq => ?_
        · rw [cX.1 k i f hq, x0 k _ i f (by rintro rfl; exact hq)]
        · have := r1.2.1 q hq
          rw [Nat.zero_add] at this
          rw [this, mi_ne (by decide), mi_ne (by decide)]
      · intro j hj10 i hi
        by_cases c1 : j = 1
        · subst c1
          rw [cX.1 22 i 7 (by show _ ∧ _; omega), x0 22 _ i 7 (by decide)]
          exact h.2.1 _ (by omega) i hi
        · rw [xb j c1 22 i 7 (by show _ ∧ _; omega)]
          exact h.2.1 j hj10 i hi
      · intro k hk f
        have : k ≠ 4 ∧ ∀ i f, ¬ inB k i f := by
          rcases hk with rfl | rfl | rfl | rfl | rfl <;> exact ⟨by decide, fun _ _ => id⟩
        rw [cX.2 k 0 0 f (Or.inr (this.2 0 f)), x0 k 0 0 f this.1]
      · refine ⟨(nx + 5) % 6, cn - 1, by omega, by omega, (x' 4 0 0 1 rfl).trans rfl, (x' 4 0 0 2 rfl).trans rfl, ?_, fun t ht => ?_⟩
        · rw [r1.k (by decide), e27]
        · rw [em 4 (by decide) (by decide), show 2 + ((nx + 5) % 6 + 6 - (cn - 1) + t) % 6 = 2 + (nx + 6 - cn + t) % 6 by omega]
          exact (n6 t (by omega)).eq (xb _ (by omega)) fun _ _ => rfl
      · refine h.2.2.2.2.2.2.1.eq (fun f => ?_) (fun j h1 h2 => xb j (by omega)) (em0 29 (by decide) (by decide)) (em 5 (by decide) (by decide))
        rw [cX.2 7 0 0 f (Or.inr id), x0 7 0 0 f (by decide)]
    · rw [r1.k (by decide)]
      simp [mi]
set_option maxRecDepth 20000 in
theorem sl_1 {s : Nat} (h : s < 2) : f_X11_needSlot (nI s) = some () ∧ t_X11_needSlot (nI s) = none ∧ f_X12_in (nI s).toInt64 0 1 = some 1 := by
  refine ⟨?_, ?_, has_1 (n := 2) h (by decide)⟩
  · unfold f_X11_needSlot
    rw [if_neg (nI_pos (by omega)), if_pos (show nI s < 2 from nI_lt h (by decide))]
  · unfold t_X11_needSlot
    rw [if_neg (nI_pos (by omega)), if_pos (show nI s < 2 from nI_lt h (by decide))]
set_option maxRecDepth 20000 in
theorem sl_0 {v : Int32} (h : v < 0 ∨ nI 2 ≤ v) : f_X11_needSlot v = none ∧ t_X11_needSlot v = some 2 ∧ f_X12_in v.toInt64 0 1 = some 0 := by
  refine ⟨?_, ?_, has_0 (n := 2) (by decide) h⟩
  · unfold f_X11_needSlot
    by_cases c : v < 0
    · rw [if_pos c]
    · rw [if_neg c, if_neg (show ¬ v < 2 from Int32.not_lt.mpr (h.resolve_left c))]
  · unfold t_X11_needSlot
    by_cases c : v < 0
    · rw [if_pos c]
    · rw [if_neg c, if_neg (show ¬ v < 2 from Int32.not_lt.mpr (h.resolve_left c))]
set_option maxRecDepth 20000 in
theorem slg {s : Nat} (h : s < 2) : ¬ (nI s < 0 ∨ 2 ≤ s) := fun q => q.elim (nI_pos (by omega)) (by omega)
set_option maxRecDepth 20000 in
theorem or29 : ∀ b0, b0 < 2 → ∀ b1, b1 < 2 → ∀ s, s < 2 → nI (b0 + 2 * b1) ||| ((1 : Int32) <<< (nI s &&& 31)) = nI ((if s = 0 then 1 else b0) + 2 * (if s = 1 then 1 else b1)) := by decide
set_option maxRecDepth 20000 in
theorem sh29 : ∀ b0, b0 < 2 → ∀ b1, b1 < 2 → ∀ s, s < 2 → (((nI (b0 + 2 * b1) >>> (nI s &&& 31)) &&& 1 = 1) ↔ (if s = 0 then b0 else b1) = 1) := by decide
set_option maxRecDepth 20000 in
theorem u_save {X : XT} {M : MT} (h : RR X M) (v : Int32) : UR (f_X11_save X v) (t_X11_save X v) (f_X12_save M v) M [(2, 1)] := by
  obtain ⟨b0, b1, h1, h2, h3, h4, h5, h6, h7⟩ := h.2.2.2.2.2.2.1
  unfold f_X11_save t_X11_save f_X12_save
  rcases rg v (n := 2) (by decide) with ⟨s, hs, rfl⟩ | hv
  · obtain ⟨Z, eZ, cZ⟩ := cp_X0 (X := X) (j := 8 + s) (j1 := 1) (by omega) fun i hi => h.2.1 1 (by decide) i hi
    let X' : XT := xs Z 7 0 0 s 1
    have x' : ∀ k j i f, k ≠ 7 → X' k j i f = Z k j i f := by
      intro k j i f hk
      show xs _ _ _ _ _ _ k j i f = _
      unfold xs
      rw [if_neg (fun c => hk c.1)]
    have x7 : ∀ f, X' 7 0 0 f = if f = s then 1 else X 7 0 0 f := by
      intro f
      show (if 7 = 7 ∧ 0 = 0 ∧ 0 = 0 ∧ f = s then (1 : Int32) else Z 7 0 0 f) = _
      rw [cZ.2 7 0 0 f (Or.inr id)]
      by_cases c : f = s
      · rw [if_pos ⟨rfl, rfl, rfl, c⟩, if_pos c]
      · rw [if_neg (fun d => c d.2.2.2), if_neg c]
    have xb : ∀ j, j ≠ 8 + s → ∀ k i f, inB k i f → X' k j i f = X k j i f := by
      intro j hj k i f hq
      rw [x' k j i f (by rintro rfl; exact hq), cZ.2 k j i f (Or.inl hj)]
    have xn : ∀ k i f, inB k i f → X' k (8 + s) i f = X k 1 i f := by
      intro k i f hq
      rw [x' k _ i f (by rintro rfl; exact hq), cZ.1 k i f hq]
    have xl : ∀ k, k ≠ 7 → (∀ i f, ¬ inB k i f) → ∀ f, X' k 0 0 f = X k 0 0 f := by
      intro k hk hn f
      rw [x' k 0 0 f hk, cZ.2 k 0 0 f (Or.inr (hn 0 f))]
    obtain ⟨M1, e, r1⟩ := save18 (M := mi M 0 0 0) hs 264 0 2000 _ (rwc_no _ _ _ _ _) rfl (by decide)
    have em0 : ∀ f, f ≠ 0 → f ≠ 29 → (mi M1 0 29 ((mi M 0 0 0).1 0 29 ||| ((1 : Int32) <<< (nI s &&& 31)))).1 0 f = M.1 0 f := by
      intro f h0 h29
      show (if 0 = 0 ∧ f = 29 then _ else M1.1 0 f) = _
      rw [if_neg (fun d => h29 d.2), r1.k (by decide)]
      show (if 0 = 0 ∧ f = 0 then _ else M.1 0 f) = _
      rw [if_neg (fun d => h0 d.2)]
    have em : ∀ k, k ≠ 0 → k ≠ 5 → (mi M1 0 29 ((mi M 0 0 0).1 0 29 ||| ((1 : Int32) <<< (nI s &&& 31)))).1 k = M.1 k := by
      intro k h0 hk5
      rw [mi_ne h0, r1.k hk5, mi_ne h0]
    have cash : X 10 1 0 6 = M.1 1 2 := by
      obtain ⟨nc, nv, ng, np, nl, nt, nb, hb⟩ := h.2.2.1
      exact hb.m.2.2.1
    refine Or.inl ⟨M.1 1 2, X', mi M1 0 29 ((mi M 0 0 0).1 0 29 ||| ((1 : Int32) <<< (nI s &&& 31))), ?_, ?_, ?_, ?_⟩
    · rw [(sl_1 hs).1, bn1_s, gd_t (nI_in hs (by decide)), nI_clamp (by omega), eZ, bn1_s, gd_t (slg hs), bnd_s, ← cash, ← xb 1 (by omega) 10 0 6 (by show _ ∧ _; omega)]
    · rw [(sl_1 hs).2.2, bn1_s, ps1_1, bn2_s, if_neg (by decide)]
      rw [mi_ne (k' := 1) (by decide)] at e
      exact e
    · refine h.mk' ?_ ?_ r1.2.2 ?_ (fun f h0 _ h29 => em0 f h0 h29) (em 3 (by decide) (by decide)) (em 6 (by decide) (by decide)) ?_ ?_
      · rw [em 1 (by decide) (by decide)]
        exact h.2.2.1.eq (xb 1 (by omega)) fun _ _ => rfl
      · intro j hj i hi
        by_cases c : j = 8 + s
        · rw [c, xn 22 i 7 (by show _ ∧ _; omega)]
          exact h.2.1 1 (by decide) i hi
        · rw [xb j c 22 i 7 (by show _ ∧ _; omega)]
          exact h.2.1 j hj i hi
      · intro k hk f
        have : k ≠ 7 ∧ ∀ i f, ¬ inB k i f := by
          rcases hk with rfl | rfl | rfl | rfl | rfl <;> exact ⟨by decide, fun _ _ => id⟩
        exact xl k this.1 this.2 f
      · exact h.2.2.2.2.2.1.eq (xl 4 (by decide) fun _ _ => id) (fun j hj1 hj2 => xb j (by omega)) (em0 27 (by decide) (by decide)) (em 4 (by decide) (by decide))
      · have row : ∀ t, t < 2 → t ≠ s → ∀ q, q < 264 → M1.1 5 (264 * t + q) = M.1 5 (264 * t + q) := by
          intro t ht hts q hq
          rw [r1.1 5 _ (by omega), mi_ne (by decide)]
        have rown : ∀ q, q < 264 → M1.1 5 (264 * s + q) = M.1 1 q := by
          intro q hq
          rw [r1.2.1 q hq, mi_ne (by decide), Nat.zero_add]
        have e5 : (mi M1 0 29 ((mi M 0 0 0).1 0 29 ||| ((1 : Int32) <<< (nI s &&& 31)))).1 5 = M1.1 5 := mi_ne (by decide)
        refine ⟨if s = 0 then 1 else b0, if s = 1 then 1 else b1, by split <;> omega, by split <;> omega, ?_, ?_, ?_, fun c => ?_, fun c => ?_⟩
        · rw [x7 0, h3]
          by_cases c : s = 0
          · rw [if_pos c.symm, if_pos c]; rfl
          · rw [if_neg (fun d => c d.symm), if_neg c]
        · rw [x7 1, h4]
          by_cases c : s = 1
          · rw [if_pos c.symm, if_pos c]; rfl
          · rw [if_neg (fun d => c d.symm), if_neg c]
        · rw [← or29 b0 h1 b1 h2 s hs, ← h5]
          simp [mi]
        · rw [e5]
          by_cases d : s = 0
          · subst d
            exact h.2.2.1.eq xn rown
          · rw [if_neg d] at c
            exact (h6 c).eq (xb 8 (by omega)) (row 0 (by decide) (fun q => d q.symm))
        · rw [e5]
          by_cases d : s = 1
          · subst d
            exact h.2.2.1.eq xn rown
          · rw [if_neg d] at c
            exact (h7 c).eq (xb 9 (by omega)) (row 1 (by decide) (fun q => d q.symm))
    · have e0 : M1.1 0 = (mi M 0 0 0).1 0 := r1.k (by decide)
      have : (mi M1 0 29 ((mi M 0 0 0).1 0 29 ||| ((1 : Int32) <<< (nI s &&& 31)))).1 0 0 = M1.1 0 0 := by rw [mi_key]; exact if_neg (by decide)
      rw [this, e0]
      simp [mi]
  · refine Or.inr ⟨2, 1, 0, List.mem_cons_self, ?_, ?_⟩
    · rw [(sl_0 hv).2.1, orE_s]
    · rw [(sl_0 hv).2.2, bn1_s, ps1_0, bn2_s, if_pos rfl]
set_option maxRecDepth 20000 in
theorem u_restore {X : XT} {M : MT} (h : RR X M) (v : Int32) : UR (f_X11_restore X v) (t_X11_restore X v) (f_X12_restore M v) M [(2, 1), (0, 2)] := by
  obtain ⟨b0, b1, h1, h2, h3, h4, h5, h6, h7⟩ := h.2.2.2.2.2.2.1
  unfold f_X11_restore t_X11_restore f_X12_restore
  rcases rg v (n := 2) (by decide) with ⟨s, hs, rfl⟩ | hv
  · have e7 : X 7 0 0 s = nI (if s = 0 then b0 else b1) := by
      by_cases c : s = 0
      · subst c; rw [if_pos rfl]; exact h3
      · obtain rfl : s = 1 := by omega
        rw [if_neg (by decide)]; exact h4
    rw [(sl_1 hs).1, bn1_s, gd_t (nI_in hs (by decide)), nI_clamp (by omega), (sl_1 hs).2.1, orE_n, bn1_s, gd_t (slg hs), (sl_1 hs).2.2, bn1_s, if_neg (show ¬ (1 : Int32) = 0 by decide), h5, e7]
    by_cases c : (if s = 0 then b0 else b1) = 1
    · rw [c, if_pos ((sh29 b0 h1 b1 h2 s hs).mpr c)]
      obtain ⟨X1, M1, f1, g1, R1, eb, ex7, em1, em5, em0, em29⟩ := note_ (h.thr 0)
      obtain ⟨X', eX, cX⟩ := cp_X0 (X := X1) (j := 1) (j1 := 8 + s) (by omega) fun i hi => R1.2.1 _ (by omega) i hi
      obtain ⟨M', e, r1⟩ := rest45 (M := M1) hs 264 0 2000 _ (rwc_no _ _ _ _ _) rfl (by decide)
      have hbr : BR X1 (8 + s) (fun q => M1.1 5 (264 * s + q)) := by
        obtain ⟨c0, c1, k1, k2, k3, k4, k5, k6, k7⟩ := R1.2.2.2.2.2.2.1
        have q0 : c0 = b0 := by
          have := k3.symm.trans ((ex7 0).trans h3)
          exact (nI_eq (by omega) (by omega)).mp this
        have q1 : c1 = b1 := by
          have := k4.symm.trans ((ex7 1).trans h4)
          exact (nI_eq (by omega) (by omega)).mp this
        by_cases d : s = 0
        · subst d
          rw [if_pos rfl] at c
          exact k6 (q0.trans c)
        · obtain rfl : s = 1 := by omega
          rw [if_neg (by decide)] at c
          exact k7 (q1.trans c)
      have em : ∀ k, k ≠ 1 → M'.1 k = M1.1 k := fun k hk => r1.k hk
      have rr : RR X' M' := by
        refine R1.back (j1 := 8 + s) (by omega) (by omega) hbr cX (fun _ _ _ _ _ => rfl) r1.2.2 (fun q hq => ?_) (fun f _ _ _ => congrFun (em 0 (by decide)) f) (em 3 (by decide)) (em 6 (by decide)) ?_ ?_
        · have := r1.2.1 q hq
          rw [Nat.zero_add] at this
          exact this
        · exact R1.2.2.2.2.2.1.eq (fun f => cX.2 4 0 0 f (Or.inr id)) (fun j _ _ k i f _ => cX.2 k j i f (Or.inl (by omega))) (congrFun (em 0 (by decide)) 27) (em 4 (by decide))
        · exact R1.2.2.2.2.2.2.1.eq (fun f => cX.2 7 0 0 f (Or.inr id)) (fun j _ _ k i f _ => cX.2 k j i f (Or.inl (by omega))) (congrFun (em 0 (by decide)) 29) (em 5 (by decide))
      refine Or.inl ⟨M'.1 1 2, X', M', ?_, ?_, rr, ?_⟩
      · rw [if_neg (by decide), f1, bn1_s, gd_t (slg hs), eX, bn1_s]
        obtain ⟨nc, nv, ng, np, nl, nt, nb, hb⟩ := rr.2.2.1
        rw [hb.m.2.2.1]
      · rw [ps2_11, bn2_s, if_neg (by decide), g1, bn1_s]
        exact e
      · rw [em 0 (by decide), em0]
        simp [mi]
    · have c0 : (if s = 0 then b0 else b1) = 0 := by
        by_cases d : s = 0
        · rw [if_pos d] at c ⊢; omega
        · rw [if_neg d] at c ⊢; omega
      rw [if_neg (fun d => c ((sh29 b0 h1 b1 h2 s hs).mp d)), c0]
      refine Or.inr ⟨0, 2, 0, List.mem_cons_of_mem _ List.mem_cons_self, ?_, ?_⟩
      · rw [if_pos (show nI 0 = (0 : Int32) from rfl)]
      · rw [ps2_10, bn2_s, if_pos rfl]
  · refine Or.inr ⟨2, 1, 0, List.mem_cons_self, ?_, ?_⟩
    · rw [(sl_0 hv).2.1, orE_s]
    · rw [(sl_0 hv).2.2, bn1_s, if_pos rfl, ps2_0, bn2_s, if_pos rfl]
