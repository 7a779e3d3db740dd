/-! StringBuilder's methods as contracts over the world; printTanks, outputByte -/
section SB3
variable {l : Launch} {D : DD} {z : Nat} {X : XT} {Y : YT} {M : MT} {o : Int64} {f1 a n : Nat} {b : Nat → Int32} {m1 cnt : Int32} {P P' : Heap → Prop}
theorem rcS : RC D (GG D z (X, Y)) RJ4 (z + 528) := fun H h => by
  obtain ⟨⟨a, n, b, m1⟩, hb, -⟩ := PB.of h
  exact ⟨13, _, _, rfl, rfl, hb.obj⟩
theorem b2b (w : Nat) : ((nI w).toInt8.toInt32).toInt8.toInt32 = sb_b w := by
  rw [← vp_nar_byte, pk_vb]
  rfl
theorem c_SB5_char {t w : Nat} (ht : t ≤ n) (hn : n ≤ 65536) (h61 : t + 1 ≤ 61) (hf : sb_Fit b) (hw : w < 128) : CC l yJ5_append_3fe6f cJ5_append_3fe6f 2 (some (.object "java/lang/AbstractStringBuilder")) (rmk 5 1 122) D z [.ref (z + 528), .int (nI w)] (PB D z X (f1 + 2, M, o) a n b m1 (nI t)) (some (.ref (z + 528))) (PA D z X (f1 + 2, M, o) t (fun _ => w) 1 b m1) := by
  refine cc_of pn_J5 (le_ rfl) (ls := [(0, .ref (z + 528)), (1, .int (nI w))]) rfl ?_
  intro p e s m args below meth c E
  refine j_aload_n E 0 rfl dJ5_append_3fe6f_0 ?_
  refine j_aload_n E 0 rfl dJ5_append_3fe6f_1 ?_
  refine jp_get (f := 3) E (fun H h => h.obj) cf_J4 fl_J5_79 (lt_ rfl) rfl rfl dJ5_append_3fe6f_2 ?_
  refine j_iconst E 1 ic_1 dJ5_append_3fe6f_5 ?_
  refine j_iadd E dJ5_append_3fe6f_6 ?_
  refine j_name (w := nI (t + 1)) (nI_1 t).symm ?_
  refine j_invU [] [] E (c_SB_ensure (q := t + 1) h61 hn hf) ml_J5_100 mu_J5_ensureCapacityInternal_d00df (E.2.2.2.2.1 _ wx_0) rfl ⟨le_ rfl, le_ rfl⟩ rcB rfl rfl (le_ rfl) ⟨le_ rfl, le_ rfl⟩ dJ5_append_3fe6f_7 ?_
  refine j_ex (fun H h => h) fun x => ?_
  obtain ⟨a', n', b'⟩ := x
  refine j_pre (A := n ≤ n' ∧ t + 1 ≤ n' ∧ n' ≤ 65536 ∧ sb_Fit b' ∧ ∀ i, i < n → b' i = b i) (fun H h => h.2) fun hx => ?_
  obtain ⟨h1, h2, h3, h4, h5⟩ := hx
  refine j_wk (P' := PB D z X (f1 + 2, M, o) a' n' b' m1 (nI t)) (fun H h => h.1) ?_
  refine j_pre (fun H h => h.ge) fun hza => ?_
  refine j_aload_n E 0 rfl dJ5_append_3fe6f_10 ?_
  refine j_invU [] [.int 1] E c_SB_isLatin1 ml_J5_83 mu_J5_isLatin1_aae02 (E.2.2.2.2.1 _ se_J4_J5_isLatin1_aae02) rfl ⟨le_ rfl, le_ rfl⟩ rcB rfl rfl (le_ rfl) ⟨le_ rfl, le_ rfl⟩ dJ5_append_3fe6f_11 ?_
  refine j_if_eq E 45 (by decide) dJ5_append_3fe6f_14 (fun q => absurd q (by decide)) (fun _ => ?_)
  refine j_iload_n E 1 rfl dJ5_append_3fe6f_17 ?_
  refine j_invT [] [.int 1] E (c_SB_canEncode (by omega)) ml_J5_191 ms_J1_canEncode_fc78d rfl ⟨le_ rfl, le_ rfl⟩ rfl rfl (le_ rfl) ⟨le_ rfl, le_ rfl⟩ dJ5_append_3fe6f_18 ?_
  refine j_if_eq E 45 (by decide) dJ5_append_3fe6f_21 (fun q => absurd q (by decide)) (fun _ => ?_)
  refine j_aload_n E 0 rfl dJ5_append_3fe6f_24 ?_
  refine jp_get (f := 0) E (fun H h => h.obj) cf_J4 fl_J5_15 (lt_ rfl) rfl rfl dJ5_append_3fe6f_25 ?_
  refine j_aload_n E 0 rfl dJ5_append_3fe6f_28 ?_
  refine j_dup E rfl dJ5_append_3fe6f_29 ?_
  refine jp_get (f := 3) E (fun H h => h.obj) cf_J4 fl_J5_79 (lt_ rfl) rfl rfl dJ5_append_3fe6f_30 ?_
  refine j_dup_x1 E rfl rfl dJ5_append_3fe6f_33 ?_
  refine j_iconst E 1 ic_1 dJ5_append_3fe6f_34 ?_
  refine j_iadd E dJ5_append_3fe6f_35 ?_
  refine j_name (w := nI (t + 1)) (nI_1 t).symm ?_
  refine jp_put (f := 3) (P' := PB D z X (f1 + 2, M, o) a' n' b' m1 (nI (t + 1))) E (Nat.le_add_right _ _) (fun H h => h.obj) cf_J4 fl_J5_79 (lt_ rfl) ⟨rfl, rfl⟩ ⟨rfl, rfl⟩ (lt_ rfl) (fun H H1 h e1 e2 e3 => h.put h.1 h.arr e2 e3) dJ5_append_3fe6f_36 ?_
  refine j_iload_n E 1 rfl dJ5_append_3fe6f_39 ?_
  refine j_i2b E dJ5_append_3fe6f_40 ?_
  refine jp_bast (P' := PA D z X (f1 + 2, M, o) t (fun _ => w) 1 b m1) E hza (fun H h => h.arr) (vp_in_nI (by omega) (by omega)) t (nI_clamp (by omega)) (fun H H1 h oq e => ?_) dJ5_append_3fe6f_41 ?_
  · rw [b2b] at e
    refine ⟨(a', n', upd b' t (sb_b w)), h.bst oq e, h2, h3, sb_fitU h4 (sb_fitB _), fun j hj => ?_, fun i hi => ?_⟩
    · show upd b' t (sb_b w) j = b j
      rw [pk_un (by omega)]
      exact h5 j (by omega)
    · show upd b' t (sb_b w) (t + i) = sb_b w
      rw [show t + i = t by omega, pk_us]
  refine j_goto E 75 (by decide) dJ5_append_3fe6f_42 ?_
  refine j_aload_n E 0 rfl dJ5_append_3fe6f_75 ?_
  exact j_aret E (le_ rfl) (le_ rfl) dJ5_append_3fe6f_76
theorem c_SB5_int {t w : Nat} (ht : t ≤ n) (hn : n ≤ 65536) (h61 : t + 5 ≤ 61) (hf : sb_Fit b) (hw : w < 100000) : CC l yJ5_append_c97b9 cJ5_append_c97b9 4 (some (.object "java/lang/AbstractStringBuilder")) (rmk 5 1 122) D z [.ref (z + 528), .int (nI w)] (PB D z X (f1 + 2, M, o) a n b m1 (nI t)) (some (.ref (z + 528))) (PA D z X (f1 + 2, M, o) t (sb_dec w) (sb_dg w) b m1) := by
  have hd := sb_dg_in w
  have hd5 : sb_dg w ≤ 5 := by unfold sb_dg; (repeat' split) <;> omega
  refine cc_of pn_J5 (le_ rfl) (ls := [(0, .ref (z + 528)), (1, .int (nI w))]) rfl ?_
  intro p e s m args below meth c E
  refine j_aload_n E 0 rfl dJ5_append_c97b9_0 ?_
  refine jp_get (f := 3) E (fun H h => h.obj) cf_J4 fl_J5_79 (lt_ rfl) rfl rfl dJ5_append_c97b9_1 ?_
  refine j_istore_n (ls' := [(2, .int (nI t)), (0, .ref (z + 528)), (1, .int (nI w))]) E (lt_ rfl) rfl dJ5_append_c97b9_4 ?_
  refine j_iload_n E 0 rfl dJ5_append_c97b9_5 ?_
  refine j_iload_n E 2 rfl dJ5_append_c97b9_6 ?_
  refine j_invT [.int (nI t)] [.int (nI (sb_dg w)), .int (nI t)] E (c_SB_stringSize hw) ml_J5_245 ms_J6_stringSize_0f7a4 rfl ⟨le_ rfl, le_ rfl⟩ rfl rfl (le_ rfl) ⟨le_ rfl, le_ rfl⟩ dJ5_append_c97b9_7 ?_
  refine j_iadd E dJ5_append_c97b9_10 ?_
  refine j_name (w := nI (t + sb_dg w)) (nI_add _ _).symm ?_
  refine j_istore_n (ls' := [(3, .int (nI (t + sb_dg w))), (2, .int (nI t)), (0, .ref (z + 528)), (1, .int (nI w))]) E (lt_ rfl) rfl dJ5_append_c97b9_11 ?_
  refine j_aload_n E 2 rfl dJ5_append_c97b9_12 ?_
  refine j_iload_n E 0 rfl dJ5_append_c97b9_13 ?_
  refine j_invU [] [] E (c_SB_ensure (q := t + sb_dg w) (by omega) hn hf) ml_J5_100 mu_J5_ensureCapacityInternal_d00df (E.2.2.2.2.1 _ wx_0) rfl ⟨le_ rfl, le_ rfl⟩ rcB rfl rfl (le_ rfl) ⟨le_ rfl, le_ rfl⟩ dJ5_append_c97b9_14 ?_
  refine j_ex (fun H h => h) fun x => ?_
  obtain ⟨a', n', b'⟩ := x
  refine j_pre (A := n ≤ n' ∧ t + sb_dg w ≤ n' ∧ n' ≤ 65536 ∧ sb_Fit b' ∧ ∀ i, i < n → b' i = b i) (fun H h => h.2) fun hx => ?_
  obtain ⟨h1, h2, h3, h4, h5⟩ := hx
  refine j_wk (P' := PB D z X (f1 + 2, M, o) a' n' b' m1 (nI t)) (fun H h => h.1) ?_
  refine j_pre (fun H h => h.ge) fun hza => ?_
  refine j_aload_n E 2 rfl dJ5_append_c97b9_17 ?_
  refine j_invU [] [.int 1] E c_SB_isLatin1 ml_J5_83 mu_J5_isLatin1_aae02 (E.2.2.2.2.1 _ se_J4_J5_isLatin1_aae02) rfl ⟨le_ rfl, le_ rfl⟩ rcB rfl rfl (le_ rfl) ⟨le_ rfl, le_ rfl⟩ dJ5_append_c97b9_18 ?_
  refine j_if_eq E 37 (by decide) dJ5_append_c97b9_21 (fun q => absurd q (by decide)) (fun _ => ?_)
  refine j_iload_n E 3 rfl dJ5_append_c97b9_24 ?_
  refine j_iload_n E 0 rfl dJ5_append_c97b9_25 ?_
  refine j_aload_n E 2 rfl dJ5_append_c97b9_26 ?_
  refine jp_get (f := 0) E (fun H h => h.obj) cf_J4 fl_J5_15 (lt_ rfl) rfl rfl dJ5_append_c97b9_27 ?_
  refine j_invT [] [.int (nI t)] E (c_SB_getChars (w := w) (t := t) hza h3 (by omega) h2) ml_J5_248 ms_J6_getChars_ba4f3 rfl ⟨le_ rfl, le_ rfl⟩ rfl rfl (le_ rfl) ⟨le_ rfl, le_ rfl⟩ dJ5_append_c97b9_30 ?_
  refine j_ex (fun H h => h) fun b2 => ?_
  refine j_pre (A := (∀ j, j < t → b2 j = b' j) ∧ (∀ i, i < sb_dg w → b2 (t + i) = sb_b (sb_dec w i)) ∧ (sb_Fit b' → sb_Fit b2)) (fun H h => h.2) fun hx => ?_
  obtain ⟨g1, g2, g3⟩ := hx
  refine j_wk (P' := PB D z X (f1 + 2, M, o) a' n' b2 m1 (nI t)) (fun H h => h.1) ?_
  refine j_pop E rfl dJ5_append_c97b9_33 ?_
  refine j_goto E 48 (by decide) dJ5_append_c97b9_34 ?_
  refine j_aload_n E 2 rfl dJ5_append_c97b9_48 ?_
  refine j_iload_n E 0 rfl dJ5_append_c97b9_49 ?_
  refine jp_put (f := 3) (P' := PA D z X (f1 + 2, M, o) t (sb_dec w) (sb_dg w) b m1) E (Nat.le_add_right _ _) (fun H h => h.obj) cf_J4 fl_J5_79 (lt_ rfl) ⟨rfl, rfl⟩ ⟨rfl, rfl⟩ (lt_ rfl) (fun H H1 h e1 e2 e3 => ⟨(a', n', b2), h.put h.1 h.arr e2 e3, h2, h3, g3 h4, fun j hj => (g1 j hj).trans (h5 j (by omega)), g2⟩) dJ5_append_c97b9_50 ?_
  refine j_aload_n E 2 rfl dJ5_append_c97b9_53 ?_
  exact j_aret E (le_ rfl) (le_ rfl) dJ5_append_c97b9_54
theorem c_J4_char {v1 : Int32} {X' : XT} (hfx : f_J4_char X v1 = some X') : CC l yJ4_append_cf468 cJ4_append_cf468 2 (some (.object "java/lang/StringBuilder")) (rmk 6 1 122) D z [.ref (z + 528), .int v1] (GG D z (X, (f1 + 2, M, o))) (some (.ref (z + 528))) (GG D z (X', (f1 + 2, M, o))) := by
  obtain ⟨⟨g1, g2, g3, g4⟩, hX⟩ := gd_e hfx
  cases hX
  obtain ⟨w, hw, rfl⟩ := nI_of g1
  have hw : w < 128 := (nI_ltI (b := 128) hw (by decide)).mp g2
  refine cc_of pn_J4 (le_ rfl) (ls := [(0, .ref (z + 528)), (1, .int (nI w))]) rfl ?_
  intro p e s m args below meth c E
  refine j_ex (fun H h => PB.of h) fun x => ?_
  obtain ⟨a, n, b, m1⟩ := x
  refine j_pre (A := TX X n b) (fun H h => h.2) fun hT => ?_
  obtain ⟨t, e8, ht, hn, hf, hb⟩ := hT
  have ht60 : t < 60 := by
    rw [e8] at g4
    exact (nI_ltI (b := 60) (by omega) (by decide)).mp g4
  have ecl : (X 8 0 0 0).toNatClampNeg = t := by rw [e8]; exact nI_clamp (by omega)
  refine j_wk (P' := PB D z X (f1 + 2, M, o) a n b m1 (nI t)) (fun H h => by have := h.1; rw [e8] at this; exact this) ?_
  refine j_aload_n E 0 rfl dJ4_append_cf468_0 ?_
  refine j_iload_n E 1 rfl dJ4_append_cf468_1 ?_
  refine j_invSU [] [.ref (z + 528)] E (c_SB5_char ht hn (by omega) hf hw) ml_J4_50 mu_J5_append_3fe6f su_J4 rfl ⟨le_ rfl, le_ rfl⟩ rcB rfl rfl (le_ rfl) ⟨le_ rfl, le_ rfl⟩ dJ4_append_cf468_2 ?_
  refine j_pop E rfl dJ4_append_cf468_5 ?_
  refine j_aload_n E 0 rfl dJ4_append_cf468_6 ?_
  refine j_wk (P' := GG D z (apX X (X 8 0 0 0).toNatClampNeg (fun _ => nI w) 1, (f1 + 2, M, o))) (fun H h => by rw [ecl]; exact h.to hb (fun i _ => ⟨hw, rfl⟩)) ?_
  exact j_aret E (le_ rfl) (le_ rfl) dJ4_append_cf468_7
theorem c_J4_int {v1 : Int32} {X' : XT} (hfx : f_J4_int X v1 = some X') : CC l yJ4_append_bf812 cJ4_append_bf812 2 (some (.object "java/lang/StringBuilder")) (rmk 6 1 122) D z [.ref (z + 528), .int v1] (GG D z (X, (f1 + 2, M, o))) (some (.ref (z + 528))) (GG D z (X', (f1 + 2, M, o))) := by
  obtain ⟨⟨g1, g2, g3, g4⟩, hX⟩ := gd_e hfx
  cases hX
  obtain ⟨w, hw, rfl⟩ := nI_of g1
  have ew : (nI w).toNatClampNeg = w := nI_clamp hw
  have hw : w < 100000 := (nI_ltI (b := 100000) hw (by decide)).mp g2
  refine cc_of pn_J4 (le_ rfl) (ls := [(0, .ref (z + 528)), (1, .int (nI w))]) rfl ?_
  intro p e s m args below meth c E
  refine j_ex (fun H h => PB.of h) fun x => ?_
  obtain ⟨a, n, b, m1⟩ := x
  refine j_pre (A := TX X n b) (fun H h => h.2) fun hT => ?_
  obtain ⟨t, e8, ht, hn, hf, hb⟩ := hT
  have ht60 : t < 56 := by
    rw [e8] at g4
    exact (nI_ltI (b := 56) (by omega) (by decide)).mp g4
  have ecl : (X 8 0 0 0).toNatClampNeg = t := by rw [e8]; exact nI_clamp (by omega)
  refine j_wk (P' := PB D z X (f1 + 2, M, o) a n b m1 (nI t)) (fun H h => by have := h.1; rw [e8] at this; exact this) ?_
  refine j_aload_n E 0 rfl dJ4_append_bf812_0 ?_
  refine j_iload_n E 1 rfl dJ4_append_bf812_1 ?_
  refine j_invSU [] [.ref (z + 528)] E (c_SB5_int ht hn (by omega) hf hw) ml_J4_53 mu_J5_append_c97b9 su_J4 rfl ⟨le_ rfl, le_ rfl⟩ rcB rfl rfl (le_ rfl) ⟨le_ rfl, le_ rfl⟩ dJ4_append_bf812_2 ?_
  refine j_pop E rfl dJ4_append_bf812_5 ?_
  refine j_aload_n E 0 rfl dJ4_append_bf812_6 ?_
  refine j_wk (P' := GG D z (apX X (X 8 0 0 0).toNatClampNeg (fun i => nI (sb_dec (nI w).toNatClampNeg i)) (sb_dg (nI w).toNatClampNeg), (f1 + 2, M, o))) (fun H h => by rw [ecl, ew]; exact h.to hb (fun i _ => ⟨by unfold sb_dec; omega, rfl⟩)) ?_
  exact j_aret E (le_ rfl) (le_ rfl) dJ4_append_bf812_7
theorem c_SB5_length (hobj : ∀ H, P H → va_at (gD D) cls (z + 528, .inr (13, [.ref a, .int 0, .int m1, .int cnt])) H) : CC l yJ5_length_8abf5 cJ5_length_8abf5 1 (some .int) (rmk 1 0 0) D z [.ref (z + 528)] P (some (.int cnt)) P := by
  refine cc_of pn_J5 (le_ rfl) (ls := [(0, .ref (z + 528))]) rfl ?_
  intro p e s m args below meth c E
  refine j_aload_n E 0 rfl dJ5_length_8abf5_0 ?_
  refine jp_get (f := 3) E hobj cf_J4 fl_J5_79 (lt_ rfl) rfl rfl dJ5_length_8abf5_1 ?_
  exact j_iret E rfl (le_ rfl) (le_ rfl) dJ5_length_8abf5_4
theorem c_J4_length : CC l yJ4_length_8abf5 cJ4_length_8abf5 1 (some .int) (rmk 2 0 0) D z [.ref (z + 528)] (GG D z (X, Y)) (some (.int (X 8 0 0 0))) (GG D z (X, Y)) := by
  refine cc_of pn_J4 (le_ rfl) (ls := [(0, .ref (z + 528))]) rfl ?_
  intro p e s m args below meth c E
  refine j_ex (fun H h => PB.of h) fun x => ?_
  obtain ⟨a, n, b, m1⟩ := x
  refine j_aload_n E 0 rfl dJ4_length_8abf5_0 ?_
  refine j_invSU [] [.int (X 8 0 0 0)] E (c_SB5_length (fun H h => h.1.obj)) ml_J4_343 mu_J5_length_8abf5 su_J4 rfl ⟨le_ rfl, le_ rfl⟩ (fun H h => rcB H h.1) rfl rfl (le_ rfl) ⟨le_ rfl, le_ rfl⟩ dJ4_length_8abf5_1 ?_
  refine j_wk (P' := GG D z (X, Y)) (fun H h => PB.to h.1 h.2 (fun _ _ _ _ => rfl)) ?_
  exact j_iret E rfl (le_ rfl) (le_ rfl) dJ4_length_8abf5_4
theorem c_SB5_setLength {t : Nat} (ht : t ≤ n) (hn : n ≤ 65536) (hf : sb_Fit b) : CC l yJ5_setLength_d00df cJ5_setLength_d00df 2 none (rmk 5 1 122) D z [.ref (z + 528), .int 0] (PB D z X (f1 + 2, M, o) a n b m1 (nI t)) none (fun H => ∃ x : Nat × Nat × (Nat → Int32) × Int32, PB D z X (f1 + 2, M, o) x.1 x.2.1 x.2.2.1 x.2.2.2 0 H ∧ x.2.1 ≤ 65536 ∧ sb_Fit x.2.2.1) := by
  refine cc_of pn_J5 (le_ rfl) (ls := [(0, .ref (z + 528)), (1, .int 0)]) rfl ?_
  intro p e s m args below meth c E
  refine j_iload_n E 1 rfl dJ5_setLength_d00df_0 ?_
  refine j_if_ge E 13 (by decide) dJ5_setLength_d00df_1 (fun _ => ?_) (fun q => absurd (by decide) q)
  refine j_aload_n E 0 rfl dJ5_setLength_d00df_13 ?_
  refine j_iload_n E 1 rfl dJ5_setLength_d00df_14 ?_
  refine j_invU [] [] E (c_SB_ensure (q := 0) (by omega) hn hf) ml_J5_100 mu_J5_ensureCapacityInternal_d00df (E.2.2.2.2.1 _ wx_0) rfl ⟨le_ rfl, le_ rfl⟩ rcB rfl rfl (le_ rfl) ⟨le_ rfl, le_ rfl⟩ dJ5_setLength_d00df_15 ?_
  refine j_ex (fun H h => h) fun x => ?_
  obtain ⟨a', n', b'⟩ := x
  refine j_pre (A := n' ≤ 65536 ∧ sb_Fit b') (fun H h => ⟨h.2.2.2.1, h.2.2.2.2.1⟩) fun hx => ?_
  obtain ⟨h3, h4⟩ := hx
  refine j_wk (P' := PB D z X (f1 + 2, M, o) a' n' b' m1 (nI t)) (fun H h => h.1) ?_
  refine j_aload_n E 0 rfl dJ5_setLength_d00df_18 ?_
  refine jp_get (f := 3) E (fun H h => h.obj) cf_J4 fl_J5_79 (lt_ rfl) rfl rfl dJ5_setLength_d00df_19 ?_
  refine j_iload_n E 1 rfl dJ5_setLength_d00df_22 ?_
  refine j_icmp_ge E 63 (by decide) dJ5_setLength_d00df_23 (fun _ => ?_) (fun q => absurd (nI_pos' (by omega)) q)
  have fin : ∀ m2, J p l e (rmk 5 1 122) s m args below meth c D z (PB D z X (f1 + 2, M, o) a' n' b' m2 (nI t)) (0 + (rmk 4 1 122).cells) (0 + (rmk 4 1 122).slots) (MQ below (QC z none (fun H => ∃ x : Nat × Nat × (Nat → Int32) × Int32, PB D z X (f1 + 2, M, o) x.1 x.2.1 x.2.2.1 x.2.2.2 0 H ∧ x.2.1 ≤ 65536 ∧ sb_Fit x.2.2.1)) args s (rmk 5 1 122).cells (rmk 5 1 122).slots (Az z)) 2 76 [(0, .ref (z + 528)), (1, .int 0)] [] := by
    intro m2
    refine j_aload_n E 0 rfl dJ5_setLength_d00df_76 ?_
    refine j_iload_n E 1 rfl dJ5_setLength_d00df_77 ?_
    refine jp_put (f := 3) (P' := fun H => ∃ x : Nat × Nat × (Nat → Int32) × Int32, PB D z X (f1 + 2, M, o) x.1 x.2.1 x.2.2.1 x.2.2.2 0 H ∧ x.2.1 ≤ 65536 ∧ sb_Fit x.2.2.1) E (Nat.le_add_right _ _) (fun H h => h.obj) cf_J4 fl_J5_79 (lt_ rfl) ⟨rfl, rfl⟩ ⟨rfl, rfl⟩ (lt_ rfl) (fun H H1 h e1 e2 e3 => ⟨(a', n', b', m2), h.put h.1 h.arr e2 e3, h3, h4⟩) dJ5_setLength_d00df_78 ?_
    exact j_vret E (le_ rfl) (le_ rfl) dJ5_setLength_d00df_81
  refine j_aload_n E 0 rfl dJ5_setLength_d00df_63 ?_
  refine jp_get (f := 3) E (fun H h => h.obj) cf_J4 fl_J5_79 (lt_ rfl) rfl rfl dJ5_setLength_d00df_64 ?_
  refine j_iload_n E 1 rfl dJ5_setLength_d00df_67 ?_
  refine j_icmp_le E 76 (by decide) dJ5_setLength_d00df_68 (fun _ => fin m1) (fun _ => ?_)
  refine j_aload_n E 0 rfl dJ5_setLength_d00df_71 ?_
  refine j_iconst E 1 ic_1 dJ5_setLength_d00df_72 ?_
  refine jp_put (f := 2) (P' := PB D z X (f1 + 2, M, o) a' n' b' 1 (nI t)) E (Nat.le_add_right _ _) (fun H h => h.obj) cf_J4 fl_J5_73 (lt_ rfl) ⟨rfl, rfl⟩ ⟨rfl, rfl⟩ (lt_ rfl) (fun H H1 h e1 e2 e3 => h.put h.1 h.arr e2 e3) dJ5_setLength_d00df_73 ?_
  exact fin 1
theorem c_J4_setLength : CC l yJ4_setLength_d00df cJ4_setLength_d00df 2 none (rmk 6 1 122) D z [.ref (z + 528), .int 0] (GG D z (X, (f1 + 2, M, o))) none (GG D z (xs X 8 0 0 0 0, (f1 + 2, M, o))) := by
  refine cc_of pn_J4 (le_ rfl) (ls := [(0, .ref (z + 528)), (1, .int 0)]) rfl ?_
  intro p e s m args below meth c E
  refine j_ex (fun H h => PB.of h) fun x => ?_
  obtain ⟨a, n, b, m1⟩ := x
  refine j_pre (A := TX X n b) (fun H h => h.2) fun hT => ?_
  obtain ⟨t, e8, ht, hn, hf, hb⟩ := hT
  refine j_wk (P' := PB D z X (f1 + 2, M, o) a n b m1 (nI t)) (fun H h => by have := h.1; rw [e8] at this; exact this) ?_
  refine j_aload_n E 0 rfl dJ4_setLength_d00df_0 ?_
  refine j_iload_n E 1 rfl dJ4_setLength_d00df_1 ?_
  refine j_invSU [] [] E (c_SB5_setLength ht hn hf) ml_J4_333 mu_J5_setLength_d00df su_J4 rfl ⟨le_ rfl, le_ rfl⟩ rcB rfl rfl (le_ rfl) ⟨le_ rfl, le_ rfl⟩ dJ4_setLength_d00df_2 ?_
  refine j_wk (P' := GG D z (xs X 8 0 0 0 0, (f1 + 2, M, o))) (fun H h => ?_) ?_
  · obtain ⟨⟨a', n', b', m2⟩, h1, h2, h3⟩ := h
    have e0 : xs X 8 0 0 0 0 8 0 0 0 = 0 := by simp [xs]
    refine PB.to (X' := xs X 8 0 0 0 0) (by rw [e0]; exact h1) ⟨0, e0, Nat.zero_le _, h2, h3, fun q hq => absurd hq (Nat.not_lt_zero q)⟩ (fun k j i hok => xs_ne (fun q => ?_))
    rcases hok with g | g <;> omega
  exact j_vret E (le_ rfl) (le_ rfl) dJ4_setLength_d00df_5
theorem c_SB5_charAt {t i w : Nat} (ht : t ≤ n) (hn : n ≤ 65536) (hi : i < t) (hw : w < 128) (hb : b i = nI w) : CC l yJ5_charAt_5068e cJ5_charAt_5068e 5 (some .char) (rmk 3 0 0) D z [.ref (z + 528), .int (nI i)] (PB D z X Y a n b m1 (nI t)) (some (.int (nI w))) (PB D z X Y a n b m1 (nI t)) := by
  refine cc_of pn_J5 (le_ rfl) (ls := [(0, .ref (z + 528)), (1, .int (nI i))]) rfl ?_
  intro p e s m args below meth c E
  refine j_aload_n E 0 rfl dJ5_charAt_5068e_0 ?_
  refine jp_get (f := 1) E (fun H h => h.obj) cf_J4 fl_J5_22 (lt_ rfl) rfl rfl dJ5_charAt_5068e_1 ?_
  refine j_istore_n (ls' := [(2, .int 0), (0, .ref (z + 528)), (1, .int (nI i))]) E (lt_ rfl) rfl dJ5_charAt_5068e_4 ?_
  refine j_aload_n E 1 rfl dJ5_charAt_5068e_5 ?_
  refine jp_get (f := 0) E (fun H h => h.obj) cf_J4 fl_J5_15 (lt_ rfl) rfl rfl dJ5_charAt_5068e_6 ?_
  refine j_astore_n (ls' := [(3, .ref a), (2, .int 0), (0, .ref (z + 528)), (1, .int (nI i))]) E (lt_ rfl) rfl dJ5_charAt_5068e_9 ?_
  refine j_aload_n E 2 rfl dJ5_charAt_5068e_10 ?_
  refine jp_get (f := 3) E (fun H h => h.obj) cf_J4 fl_J5_79 (lt_ rfl) rfl rfl dJ5_charAt_5068e_11 ?_
  refine j_aload_n E 0 rfl dJ5_charAt_5068e_14 ?_
  refine jp_len (t := 1) (v := nI n) E (fun H h => h.arr) rfl rfl dJ5_charAt_5068e_15 ?_
  refine j_iload_n E 1 rfl dJ5_charAt_5068e_16 ?_
  refine j_ishr E dJ5_charAt_5068e_17 ?_
  refine j_name (w := nI n) (sb_shr0 _).symm ?_
  refine j_min [] E ml_J5_138 st_Lib_Math_min_name in_J9 cd_Lib_Math_min_name (le_ rfl) (le_ rfl) (le_ rfl) (le_ rfl) dJ5_charAt_5068e_18 ?_
  refine j_name (w := nI t) (if_neg (nI_nlt (by omega) (by omega))).symm ?_
  refine j_istore (ls' := [(4, .int (nI t)), (3, .ref a), (2, .int 0), (0, .ref (z + 528)), (1, .int (nI i))]) E (lt_ rfl) rfl dJ5_charAt_5068e_21 ?_
  refine j_iload_n E 4 rfl dJ5_charAt_5068e_23 ?_
  refine j_iload E 0 rfl dJ5_charAt_5068e_24 ?_
  refine j_invT [] [] E (c_J0_checkIndex (nI_pos (by omega)) (nI_lt hi (by omega))) ml_J5_144 ms_J0_checkIndex_df160 rfl ⟨le_ rfl, le_ rfl⟩ rfl rfl (le_ rfl) ⟨le_ rfl, le_ rfl⟩ dJ5_charAt_5068e_26 ?_
  refine j_iload_n E 2 rfl dJ5_charAt_5068e_29 ?_
  refine j_if_ne E 42 (by decide) dJ5_charAt_5068e_30 (fun q => absurd rfl q) (fun _ => ?_)
  refine j_aload_n E 1 rfl dJ5_charAt_5068e_33 ?_
  refine j_iload_n E 4 rfl dJ5_charAt_5068e_34 ?_
  refine jp_bald (v := nI w) E (fun H h => h.arr) (vp_in_nI (by omega) (by omega)) (by rw [nI_clamp (by omega)]; exact hb) dJ5_charAt_5068e_35 ?_
  refine j_sipush E 255 sp_255 dJ5_charAt_5068e_36 ?_
  refine j_iand E dJ5_charAt_5068e_39 ?_
  have hby := sb_byte w (by omega)
  refine j_name (w := nI w) (by have h9 := hby.1; rw [sb_b7 w hw] at h9; exact h9.symm) ?_
  refine j_i2c E dJ5_charAt_5068e_40 ?_
  refine j_name (w := nI w) hby.2.1.symm ?_
  exact j_iret E (pk_charN (by omega)).1 (le_ rfl) (le_ rfl) dJ5_charAt_5068e_41
theorem c_J4_charAt {t i : Nat} (e8 : X 8 0 0 0 = nI t) (ht : t ≤ 65536) (hi : i < t) : CC l yJ4_charAt_5068e cJ4_charAt_5068e 2 (some .char) (rmk 4 0 0) D z [.ref (z + 528), .int (nI i)] (GG D z (X, Y)) (some (.int (X 9 0 0 i))) (GG D z (X, Y)) := by
  refine cc_of pn_J4 (le_ rfl) (ls := [(0, .ref (z + 528)), (1, .int (nI i))]) rfl ?_
  intro p e s m args below meth c E
  refine j_ex (fun H h => PB.of h) fun x => ?_
  obtain ⟨a, n, b, m1⟩ := x
  refine j_pre (A := TX X n b) (fun H h => h.2) fun hT => ?_
  obtain ⟨t', e8', ht', hn, hf, hb⟩ := id hT
  have : t' = t := by
    rw [e8] at e8'
    exact ((nI_eq (by omega) (by omega)).mp e8').symm
  subst this
  obtain ⟨g1, w, hw, g2⟩ := hb i hi
  have e9 : X 9 0 0 i = nI w := g1.symm.trans g2
  refine j_wk (P' := PB D z X Y a n b m1 (nI t')) (fun H h => by have := h.1; rw [e8] at this; exact this) ?_
  refine j_aload_n E 0 rfl dJ4_charAt_5068e_0 ?_
  refine j_iload_n E 1 rfl dJ4_charAt_5068e_1 ?_
  refine j_invSU [] [.int (nI w)] E (c_SB5_charAt ht' hn hi hw g2) ml_J4_329 mu_J5_charAt_5068e su_J4 rfl ⟨le_ rfl, le_ rfl⟩ rcB rfl rfl (le_ rfl) ⟨le_ rfl, le_ rfl⟩ dJ4_charAt_5068e_2 ?_
  rw [e9]
  refine j_wk (P' := GG D z (X, Y)) (fun H h => PB.to (by rw [e8]; exact h) hT (fun _ _ _ _ => rfl)) ?_
  exact j_iret E (pk_charN (by omega)).1 (le_ rfl) (le_ rfl) dJ4_charAt_5068e_5
end SB3
