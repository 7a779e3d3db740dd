/-! THE LAW from its entry -/
section BEGIN
variable {p : Program} {l : Launch} {e : Env} {R : Room} {s : State} {m : MethodId} {args : Array Value} {below : List Frame} {meth : Method} {c : Code} {D : DD} {z : Nat} {own : String} {cc : ByteArray} {nL : Nat} {ret : Option FieldType} {P P' : Heap → Prop} {k n : Nat} {Q : State → Prop} {pc : Nat} {ls : List (Nat × Value)} {st : List Value}
set_option maxRecDepth 20000 in
/-- a heap has no more cells than are counted -/
theorem j_size (h : J p l e R s m args below meth c D z (fun H => P H ∧ H.size ≤ s.heap.size + k) k n Q nL pc ls st) : J p l e R s m args below meth c D z P k n Q nL pc ls st := by
  intro H locs la hG hS hL T hT X
  have := X.same.2.2.1
  have hT' : T.heap.size ≤ s.heap.size + k := this
  exact h H locs la ⟨hG, by rw [← hT]; exact hT'⟩ hS hL T hT X
end BEGIN
set_option maxRecDepth 20000 in
theorem gx_size {D : DD} {z : Nat} {X : XT} {Y : YT} {H : Heap} (h : GG D z (X, Y) H) : z + 530 ≤ H.size := by
  obtain ⟨-, -, ⟨a, n, t, b, m1, ha, -, h2, -⟩, -⟩ := h
  have := h2.lt
  have : a < H.size := this
  omega
set_option maxRecDepth 20000 in
theorem gm_size {D : DD} {z : Nat} {X : XT} {Y : YT} {H : Heap} (h : GG D z (X, Y) H) (h1 : 1 ≤ Y.1) : z + 537 ≤ H.size := by
  have := (h.2.1 h1).2 6 (by decide)
  have := this.lt
  have : z + aM 6 < H.size := this
  unfold aM at this
  omega
set_option maxRecDepth 20000 in
/-- the law's own row is made -/
theorem gg_out {D : DD} {z : Nat} {X : XT} {M : MT} {o : Int64} {H H1 : Heap} (h : GG D z (X, (1, M, o)) H) (hs : H.size = z + 537) (hk : ∀ q : Nat, q < z + 537 → H1[q]? = H[q]?) (ha : va_at (gD D) cls (z + 537, .inl (D.2.2.1 2, 1, .inr (.inl (fun _ => 0)))) H1) : GG D z (X, (2, M, 0)) H1 := by
  have g := gg_grow H H1 h (fun q hq => hk q (by omega))
  exact ⟨g.1, fun _ => g.2.1 (Nat.le_refl _), g.2.2.1, fun _ => ha⟩
set_option maxRecDepth 20000 in
theorem new12 : ∀ j, j < 34 → defaultValue (tyX12 j) = vp_V [.int 0, .null, .null, .null, .null, .int 0, .int 0, .int 0, .int 0, .int 0, .long 0, .int 0, .int 0, .int 0, .long 0, .long 0, .long 0, .long 0, .long 0, .long 0, .long 0, .long 0, .long 0, .long 0, .long 0, .long 0, .null, .int 0, .null, .int 0, .int 0, .int 0, .null, .int 0] j := by
  intro j hj
  match j, hj with
  | 0, _ => rfl
  | 1, _ => rfl
  | 2, _ => rfl
  | 3, _ => rfl
  | 4, _ => rfl
  | 5, _ => rfl
  | 6, _ => rfl
  | 7, _ => rfl
  | 8, _ => rfl
  | 9, _ => rfl
  | 10, _ => rfl
  | 11, _ => rfl
  | 12, _ => rfl
  | 13, _ => rfl
  | 14, _ => rfl
  | 15, _ => rfl
  | 16, _ => rfl
  | 17, _ => rfl
  | 18, _ => rfl
  | 19, _ => rfl
  | 20, _ => rfl
  | 21, _ => rfl
  | 22, _ => rfl
  | 23, _ => rfl
  | 24, _ => rfl
  | 25, _ => rfl
  | 26, _ => rfl
  | 27, _ => rfl
  | 28, _ => rfl
  | 29, _ => rfl
  | 30, _ => rfl
  | 31, _ => rfl
  | 32, _ => rfl
  | 33, _ => rfl
  | j + 34, h => omega
set_option maxHeartbeats 4000000 in
set_option maxRecDepth 20000 in
theorem whole_start {p : Program} {e : Env} {s : State} {m : MethodId} {below : List Frame} {meth : Method} {c : Code} (l : Launch) (hflags : l.flags = flags0) {b L : Nat} {xs : Nat → Int32} (hL : L ≤ 3072) (C0 : lw_At p s m meth c b L xs) : W p l e room_1 s m #[Value.ref b] below meth c s.heap [] 0 0 (lw_Z below #[Value.ref b] s) (entryFrame m ([Value.ref b] : List Value).toArray 9) := by
  obtain ⟨hx, hb, hr, hml, hown, hts, hX, hbl, hlocks, hgv⟩ := id C0
  obtain ⟨X1, M1, f1, f2, hRR⟩ := first_
  obtain ⟨z, hz⟩ : ∃ z, z = s.heap.size := ⟨_, rfl⟩
  obtain ⟨D, hB⟩ := bk_start hz hgv hts
  have hl : l.stackTraces = false := by
    unfold Launch.stackTraces
    rw [hflags]
    decide
  have E : Cx p s m #[Value.ref b] meth c D z RL cL_law 9 (some .boolean) := ⟨hx, hb, hml, hown, wall_ hts, hB, hr, hlocks, by omega⟩
  have C : LC s z b L xs := ⟨hX, hbl, by omega, hL⟩
  have hE := lv_entry [.ref b] (n := 9) (le_ rfl)
  have main : J p l e room_1 s m #[Value.ref b] below meth c D z (fun H => H = s.heap) 0 0 (lw_Z below #[Value.ref b] s) 9 0 [(0, .ref b)] [] := by
    refine jp_new (A := z + aX 0 0 0) (fs := [.null, .null, .null, .null, .null, .null]) (P' := fun H => H.size = z + 1 ∧ va_at (gD D) cls (z + aX 0 0 0, .inr (0, [.null, .null, .null, .null, .null, .null])) H) E cf_X11 cl_L_8 is_X11 in_X11 (fun H h => by rw [h]; exact hz.symm) (fun j hj => by
      have : j = 0 ∨ j = 1 ∨ j = 2 ∨ j = 3 ∨ j = 4 ∨ j = 5 := by omega
      rcases this with rfl | rfl | rfl | rfl | rfl | rfl <;> rfl) (le_ rfl) (le_ rfl) (fun H H1 h e1 e2 e3 => ⟨e1, e3⟩) dL_law_0 ?_
    refine j_dup E rfl dL_law_3 ?_
    refine j_invI (P2 := fun _ => GG D z (X1, 0, ((fun _ _ => 0, fun _ => 0, 0), 0))) [.ref (z + aX 0 0 0)] E (fun H h => ci_X11 f1 h.1 h.2) (fun _ _ _ h => h) ml_L_149 mi_X11 rfl ⟨le_ rfl, le_ rfl⟩ rfl (le_ rfl) ⟨le_ rfl, le_ rfl⟩ dL_law_4 ?_
    refine j_astore_n (ls' := [(1, .ref (z + aX 0 0 0)), (0, .ref b)]) E (lt_ rfl) rfl dL_law_7 ?_
    refine j_size ?_
    refine jp_new (A := z + aM 0) (fs := [.int 0, .null, .null, .null, .null, .int 0, .int 0, .int 0, .int 0, .int 0, .long 0, .int 0, .int 0, .int 0, .long 0, .long 0, .long 0, .long 0, .long 0, .long 0, .long 0, .long 0, .long 0, .long 0, .long 0, .long 0, .null, .int 0, .null, .int 0, .int 0, .int 0, .null, .int 0]) (P' := fun H => GG D z (X1, 0, ((fun _ _ => 0, fun _ => 0, 0), 0)) H ∧ H.size = z + 531 ∧ va_at (gD D) cls (z + aM 0, .inr (12, [.int 0, .null, .null, .null, .null, .int 0, .int 0, .int 0, .int 0, .int 0, .long 0, .int 0, .int 0, .int 0, .long 0, .long 0, .long 0, .long 0, .long 0, .long 0, .long 0, .long 0, .long 0, .long 0, .long 0, .long 0, .null, .int 0, .null, .int 0, .int 0, .int 0, .null, .int 0])) H) E cf_X12 cl_L_150 is_X12 in_X12 (fun H h => by
      have h1 := gx_size h.1
      have h2 : H.size ≤ s.heap.size + 530 := h.2
      show H.size = z + (530 + 0)
      omega) new12 (le_ rfl) (le_ rfl) (fun H H1 h e1 e2 e3 => by
      have h1 := gx_size h.1
      have h2 : H.size ≤ s.heap.size + 530 := h.2
      refine ⟨gg_grow H H1 h.1 (fun q hq => e2 q (by show q < z + (530 + 0); omega)), ?_, e3⟩
      have : H1.size = z + (530 + 0) + 1 := e1
      omega) dL_law_8 ?_
    refine j_dup E rfl dL_law_11 ?_
    refine j_invI (P2 := fun _ => GG D z (X1, 0 + 1, M1, 0)) [.ref (z + aM 0)] E (fun H h => ci_X12 h.1 f2 h.2.1 h.2.2) (fun _ _ _ h => h) ml_L_152 mi_X12 rfl ⟨le_ rfl, le_ rfl⟩ rfl (le_ rfl) ⟨le_ rfl, le_ rfl⟩ dL_law_12 ?_
    refine j_astore_n (ls' := [(2, .ref (z + aM 0)), (1, .ref (z + aX 0 0 0)), (0, .ref b)]) E (lt_ rfl) rfl dL_law_15 ?_
    refine j_iconst E 1 rfl dL_law_16 ?_
    refine j_size ?_
    have sz : ∀ H : Heap, GG D z (X1, 0 + 1, M1, 0) H ∧ H.size ≤ s.heap.size + 537 → H.size = z + 537 := fun H h => by
      have h1 := gm_size h.1 (Nat.le_refl _)
      have h2 := h.2
      omega
    refine jp_newa (A := z + 537) (t := 2) (a0 := (1, .inr (.inl (fun _ => 0)))) (P' := GG D z (X1, (2, M1, 0))) E ar_long rfl rfl (fun _ h => h) (fun _ => rfl) (fun H h => sz H h) (by decide) tn_1 (le_ rfl) (le_ rfl) (le_ rfl) (fun H H1 h e1 e2 e3 => gg_out h.1 (sz H h) e2 e3) dL_law_17 ?_
    refine j_astore_n (ls' := [(3, .ref (z + 537)), (2, .ref (z + aM 0)), (1, .ref (z + aX 0 0 0)), (0, .ref b)]) E (lt_ rfl) rfl dL_law_19 ?_
    refine j_iconst E 0 ic_0 dL_law_20 ?_
    refine j_istore (ls' := lsL b z (6 * 0)) E (lt_ rfl) rfl dL_law_21 ?_
    exact law_loop hl E C (by omega) 513 0 _ _ X1 M1 0 rfl (Nat.zero_le _) (le_ rfl) (le_ rfl) hRR
  have := main s.heap [] _ rfl va_S.rf hE
  rw [lg_entry_eq]
  exact this
