/-! toString -/
set_option maxRecDepth 20000 in
theorem ms_J7_cor : MS yJ7_copyOfRange_39247 cJ7_copyOfRange_39247 3 (some (.array .byte)) RJ7 3 := ⟨st_J7_copyOfRange_39247, in_J7, cd_J7_copyOfRange_39247, rfl, by decide +kernel, by decide +kernel, by decide +kernel⟩
set_option maxRecDepth 20000 in
theorem ms_J7_corb : MS yJ7_copyOfRangeByte_39247 cJ7_copyOfRangeByte_39247 5 (some (.array .byte)) RJ7 3 := ⟨st_J7_copyOfRangeByte_39247, in_J7, cd_J7_copyOfRangeByte_39247, rfl, by decide +kernel, by decide +kernel, by decide +kernel⟩
set_option maxRecDepth 20000 in
theorem cw_1 : Cond.methodLink RJ7 310 ⟨"[B", "clone", "()Ljava/lang/Object;"⟩ ∈ Wall := wm_5 (i := 29) (by decide +kernel) (by rfl)
set_option maxRecDepth 20000 in
theorem cw_2 : Cond.sameMethod "[B" "java/lang/Object" "clone" "()Ljava/lang/Object;" ∈ Wall := wm_5 (i := 30) (by decide +kernel) (by rfl)
set_option maxRecDepth 20000 in
theorem cw_3 : Cond.native ⟨"java/lang/Object", "clone", "()Ljava/lang/Object;"⟩ ∈ Wall := wm_5 (i := 31) (by decide +kernel) (by rfl)
set_option maxRecDepth 20000 in
theorem cw_4 : Cond.instanceMethod ⟨"java/lang/Object", "clone", "()Ljava/lang/Object;"⟩ ∈ Wall := wm_5 (i := 32) (by decide +kernel) (by rfl)
set_option maxRecDepth 20000 in
theorem cw_5 : Cond.selects "[B" ⟨"[B", "clone", "()Ljava/lang/Object;"⟩ ⟨"java/lang/Object", "clone", "()Ljava/lang/Object;"⟩ ∈ Wall := wm_5 (i := 33) (by decide +kernel) (by rfl)
set_option maxRecDepth 20000 in
theorem cw_6 : Cond.castable "[B" "java/lang/Cloneable" ∈ NestW := wn_5 (i := 34) (by decide +kernel) (by rfl)
set_option maxRecDepth 20000 in
theorem cw_7 : Cond.classLink RJ7 311 "[B" ∈ Wall := wm_5 (i := 35) (by decide +kernel) (by rfl)
section TS
variable {l : Launch} {D : DD} {z B u : Nat} {X : XT} {Y : YT} {a n A : Nat} {b : Nat → Int32} {m1 cnt : Int32} {P P' : Heap → Prop} {T : List Int32}
set_option maxRecDepth 20000 in
theorem c_checkLen {t : Nat} (ht : t ≤ 600) : CC l yJ7_checkLength_df160 cJ7_checkLength_df160 2 none (rmk 1 0 0) D z [.int 0, .int (nI t)] P none P := by
  refine cc_of pn_J7 (le_ rfl) (ls := [(0, .int 0), (1, .int (nI t))]) rfl ?_
  intro p e s m args below meth c E
  refine j_iload_n E 1 rfl dJ7_checkLength_df160_0 ?_
  refine j_iload_n E 0 rfl dJ7_checkLength_df160_1 ?_
  refine j_icmp_ge E 37 (by decide) dJ7_checkLength_df160_2 (fun _ => ?_) (fun q => absurd (nI_pos' (by omega)) q)
  exact j_vret E (le_ rfl) (le_ rfl) dJ7_checkLength_df160_37
set_option maxRecDepth 20000 in
theorem c_corb {t : Nat} (ht : t < n) (ht6 : t ≤ 600) (hn : n ≤ 65536) (hzA : z ≤ A) (hat : ∀ H, P H → va_at (gD D) cls (a, aint D 1 n b) H) (hsz : ∀ H, P H → H.size = A) (hf : sb_Fit b) (hP : ∀ H H1, P H → (∀ q : Nat, q < A → H1[q]? = H[q]?) → va_at (gD D) cls (A, aint D 1 t (va_cpy b (fun _ => 0) 0 0 t)) H1 → P' H1) : CC l yJ7_copyOfRangeByte_39247 cJ7_copyOfRangeByte_39247 5 (some (.array .byte)) (rmk 2 1 600) D z [.ref a, .int 0, .int (nI t)] P (some (.ref A)) P' := by
  refine cc_of pn_J7 (le_ rfl) (ls := [(0, .ref a), (1, .int 0), (2, .int (nI t))]) rfl ?_
  intro p e s m args below meth c E
  refine j_iload_n E 1 rfl dJ7_copyOfRangeByte_39247_0 ?_
  refine j_iload_n E 2 rfl dJ7_copyOfRangeByte_39247_1 ?_
  refine j_invT [] [] E (c_checkLen ht6) ml_J7_343 ms_J7_checkLength_df160 rfl ⟨le_ rfl, le_ rfl⟩ rfl rfl (le_ rfl) ⟨le_ rfl, le_ rfl⟩ dJ7_copyOfRangeByte_39247_2 ?_
  refine j_iload_n E 2 rfl dJ7_copyOfRangeByte_39247_5 ?_
  refine j_iload_n E 1 rfl dJ7_copyOfRangeByte_39247_6 ?_
  refine j_isub E dJ7_copyOfRangeByte_39247_7 ?_
  refine j_name (w := nI t) (Int32.sub_zero _).symm ?_
  refine j_istore_n (ls' := [(3, .int (nI t)), (0, .ref a), (1, .int 0), (2, .int (nI t))]) E (lt_ rfl) rfl dJ7_copyOfRangeByte_39247_8 ?_
  refine j_iload_n E 0 rfl dJ7_copyOfRangeByte_39247_9 ?_
  refine jp_newa (A := A) (N' := t) (t := 1) (a0 := (t, .inl (fun _ => 0))) (P' := fun H1 => ∃ H, P H ∧ (∀ q : Nat, q < A → H1[q]? = H[q]?) ∧ va_at (gD D) cls (A, aint D 1 t (fun _ => 0)) H1) E ar_byte rfl rfl (fun _ h => h) (fun _ => rfl) hsz (nI_pos (by omega)) (nI_clamp (by omega)) (by show t * 1 ≤ _; omega) (le_ rfl) (by show 0 + 0 + t ≤ 600; omega) (fun H H1 h e1 e2 e3 => ⟨H, h, e2, e3⟩) dJ7_copyOfRangeByte_39247_10 ?_
  refine j_astore (ls' := [(4, .ref A), (3, .int (nI t)), (0, .ref a), (1, .int 0), (2, .int (nI t))]) E (lt_ rfl) rfl dJ7_copyOfRangeByte_39247_12 ?_
  have hat1 : ∀ H1, (∃ H, P H ∧ (∀ q : Nat, q < A → H1[q]? = H[q]?) ∧ va_at (gD D) cls (A, aint D 1 t (fun _ => 0)) H1) → va_at (gD D) cls (a, aint D 1 n b) H1 := by
    intro H1 ⟨H, h1, h2, h3⟩
    have hl : a < H.size := (hat H h1).lt
    exact (hat H h1).kept (h2 _ (by show a < A; have := hsz H h1; omega))
  refine j_aload_n E 2 rfl dJ7_copyOfRangeByte_39247_14 ?_
  refine j_iload_n E 3 rfl dJ7_copyOfRangeByte_39247_15 ?_
  refine j_aload E 0 rfl dJ7_copyOfRangeByte_39247_16 ?_
  refine j_iconst E 0 ic_0 dJ7_copyOfRangeByte_39247_18 ?_
  refine j_aload_n E 2 rfl dJ7_copyOfRangeByte_39247_19 ?_
  refine jp_len (t := 1) (v := nI n) E hat1 rfl rfl dJ7_copyOfRangeByte_39247_20 ?_
  refine j_iload_n E 3 rfl dJ7_copyOfRangeByte_39247_21 ?_
  refine j_isub E dJ7_copyOfRangeByte_39247_22 ?_
  refine j_name (w := nI n) (Int32.sub_zero _).symm ?_
  refine j_iload_n E 1 rfl dJ7_copyOfRangeByte_39247_23 ?_
  refine j_min [.int 0, .ref A, .int 0, .ref a] E ml_J7_304 st_Lib_Math_min_name in_J9 cd_Lib_Math_min_name (le_ rfl) (le_ rfl) (by show 0 + 0 + 1 ≤ 1; omega) (by show 0 + 0 + t ≤ 600; omega) dJ7_copyOfRangeByte_39247_24 ?_
  refine j_name (w := nI t) (if_pos (nI_lt ht (by omega))).symm ?_
  refine jp_acopyB (N := t) (P' := P') E hzA hat1 (fun H1 ⟨H, h1, h2, h3⟩ => h3) (nI_clamp (by omega)) ⟨nI_pos (by omega), nI_toInt (by omega)⟩ (by omega) (Nat.le_refl _) hf ml_J7_150 na_arraycopyName st_arraycopyName in_J10 (le_ rfl) (le_ rfl) (fun H1 H2 ⟨H, h1, h2, h3⟩ g1 g2 => hP H H2 h1 (fun q hq => (g1 q (by omega)).trans (h2 q hq)) g2) dJ7_copyOfRangeByte_39247_27 ?_
  refine j_aload E 0 rfl dJ7_copyOfRangeByte_39247_30 ?_
  exact jp_aret E (by show 0 + 0 + 1 ≤ 1; omega) (by show 0 + 0 + t ≤ 600; omega) dJ7_copyOfRangeByte_39247_32
set_option maxRecDepth 20000 in
theorem c_cor {t : Nat} (ht : t ≤ n) (ht6 : t ≤ 600) (hn : n ≤ 65536) (hzA : z ≤ A) (hat : ∀ H, P H → va_at (gD D) cls (a, aint D 1 n b) H) (hsz : ∀ H, P H → H.size = A) (hf : sb_Fit b) (hP : ∀ (H H1 : Heap) (f : Nat → Int32), P H → (∀ q : Nat, q < A → H1[q]? = H[q]?) → va_at (gD D) cls (A, aint D 1 t f) H1 → sb_Fit f → (∀ i, i < t → f i = b i) → P' H1) : CC l yJ7_copyOfRange_39247 cJ7_copyOfRange_39247 3 (some (.array .byte)) (rmk 3 1 600) D z [.ref a, .int 0, .int (nI t)] P (some (.ref A)) P' := by
  refine cc_of pn_J7 (le_ rfl) (ls := [(0, .ref a), (1, .int 0), (2, .int (nI t))]) rfl ?_
  intro p e s m args below meth c E
  refine j_iload_n E 1 rfl dJ7_copyOfRange_39247_0 ?_
  refine j_if_ne E 10 (by decide) dJ7_copyOfRange_39247_1 (fun q => absurd rfl q) (fun _ => ?_)
  refine j_iload_n E 2 rfl dJ7_copyOfRange_39247_4 ?_
  refine j_aload_n E 0 rfl dJ7_copyOfRange_39247_5 ?_
  refine jp_len (t := 1) (v := nI n) E hat rfl rfl dJ7_copyOfRange_39247_6 ?_
  refine j_icmp_eq E 17 (by decide) dJ7_copyOfRange_39247_7 (fun q => ?_) (fun q => ?_)
  · have he : t = n := (nI_eq (by omega) (by omega)).mp q
    subst he
    refine j_aload_n E 0 rfl dJ7_copyOfRange_39247_17 ?_
    refine jp_clone (A := A) (P' := fun H1 => P' H1 ∧ va_at (gD D) cls (A, aint D 1 t b) H1) E cw_1 cw_2 cw_3 cw_4 cw_5 cw_6 hat hsz hf (le_ rfl) (le_ rfl) (le_ rfl) (by show 0 + t ≤ 600; omega) (fun H H1 h e2 e3 => ⟨hP H H1 b h e2 e3 hf (fun _ _ => rfl), e3⟩) dJ7_copyOfRange_39247_18 ?_
    refine jp_castB E cw_7 (fun H h => h.2) dJ7_copyOfRange_39247_21 ?_
    refine j_wk (P' := P') (fun H h => h.1) ?_
    exact jp_aret E (by show 0 + 1 ≤ 1; omega) (by show 0 + t ≤ 600; omega) dJ7_copyOfRange_39247_24
  · have hne : t < n := by
      rcases Nat.lt_or_ge t n with h | h
      · exact h
      · exact absurd (congrArg nI (by omega)) q
    refine j_aload_n E 0 rfl dJ7_copyOfRange_39247_10 ?_
    refine j_iload_n E 1 rfl dJ7_copyOfRange_39247_11 ?_
    refine j_iload_n E 2 rfl dJ7_copyOfRange_39247_12 ?_
    refine j_invS [] [.ref A] E (c_corb hne ht6 hn hzA hat hsz hf (fun H H1 h e2 e3 => hP H H1 _ h e2 e3 (sb_fitC hf sb_fit0) (fun i hi => sb_cpy0 hi))) ml_J7_339 ms_J7_corb rfl ⟨le_ rfl, le_ rfl⟩ rfl rfl (le_ rfl) ⟨le_ rfl, le_ rfl⟩ dJ7_copyOfRange_39247_13 ?_
    exact jp_aret E (le_ rfl) (le_ rfl) dJ7_copyOfRange_39247_16
set_option maxRecDepth 20000 in
theorem c_SB_getValue (hobj : ∀ H, P H → va_at (gD D) cls (u, .inr (13, [.ref a, .int 0, .int m1, .int cnt])) H) : CC l yJ5_getValue_6d5f1 cJ5_getValue_6d5f1 1 (some (.array .byte)) (rmk 1 0 0) D z [.ref u] P (some (.ref a)) P := by
  refine cc_of pn_J5 (le_ rfl) (ls := [(0, .ref u)]) rfl ?_
  intro p e s m args below meth c E
  refine j_aload_n E 0 rfl dJ5_getValue_6d5f1_0 ?_
  refine jp_get (f := 0) E hobj cf_J4 fl_J5_15 (lt_ rfl) rfl rfl dJ5_getValue_6d5f1_1 ?_
  exact jp_aret E (le_ rfl) (le_ rfl) dJ5_getValue_6d5f1_4
set_option maxRecDepth 20000 in
theorem c_SB_isL (hobj : ∀ H, P H → va_at (gD D) cls (u, .inr (13, [.ref a, .int 0, .int m1, .int cnt])) H) : CC l yJ5_isLatin1_aae02 cJ5_isLatin1_aae02 1 (some .boolean) (rmk 1 0 0) D z [.ref u] P (some (.int 1)) P := by
  refine cc_of pn_J5 (le_ rfl) (ls := [(0, .ref u)]) rfl ?_
  intro p e s m args below meth c E
  refine j_gets E E.2.2.2.2.2.1.Cs fl_J5_18 dJ5_isLatin1_aae02_0 ?_
  refine j_if_eq E 17 (by decide) dJ5_isLatin1_aae02_3 (fun q => absurd q (by decide)) (fun _ => ?_)
  refine j_aload_n E 0 rfl dJ5_isLatin1_aae02_6 ?_
  refine jp_get (f := 1) E hobj cf_J4 fl_J5_22 (lt_ rfl) rfl rfl dJ5_isLatin1_aae02_7 ?_
  refine j_if_ne E 17 (by decide) dJ5_isLatin1_aae02_10 (fun q => absurd rfl q) (fun _ => ?_)
  refine j_iconst E 1 ic_1 dJ5_isLatin1_aae02_13 ?_
  refine j_goto E 18 (by decide) dJ5_isLatin1_aae02_14 ?_
  exact j_iret E rfl (le_ rfl) (le_ rfl) dJ5_isLatin1_aae02_18
set_option maxRecDepth 20000 in
theorem c_J4_len (hobj : ∀ H, P H → va_at (gD D) cls (u, .inr (13, [.ref a, .int 0, .int m1, .int cnt])) H) : CC l yJ4_length_8abf5 cJ4_length_8abf5 1 (some .int) (rmk 2 0 0) D z [.ref u] P (some (.int cnt)) P := by
  refine cc_of pn_J4 (le_ rfl) (ls := [(0, .ref u)]) rfl ?_
  intro p e s m args below meth c E
  refine j_aload_n E 0 rfl dJ4_length_8abf5_0 ?_
  refine j_invSU (C := RJ4) [] [.int cnt] E (c_SB5_length hobj) ml_J4_343 mu_J5_length_8abf5 su_J4 rfl ⟨le_ rfl, le_ rfl⟩ (fun H h => ⟨13, _, _, rfl, rfl, hobj H h⟩) rfl rfl (le_ rfl) ⟨le_ rfl, le_ rfl⟩ dJ4_length_8abf5_1 ?_
  exact j_iret E rfl (le_ rfl) (le_ rfl) dJ4_length_8abf5_4
/-- what toString leaves: the builder as it was, a new String -/
def TSW (D : DD) (z B u : Nat) (X : XT) (Y : YT) (T : List Int32) (A : Nat) (H : Heap) : Prop := SBW D z B u X Y T H ∧ ∃ f, sb_Fit f ∧ (∀ q, q < T.length → f q = T.getD q 0) ∧ SO D A (A + 1) T f H
set_option maxRecDepth 20000 in
theorem PB.far {w : Nat} {H H1 : Heap} (h : PB D z B u X Y a n b m1 cnt H) (hB : B ≤ w) (hw : z + 530 ≤ w) (hne : w ≠ u ∧ w ≠ a) (oq : ∀ q : Nat, q ≠ w → H1[q]? = H[q]?) : PB D z B u X Y a n b m1 cnt H1 := by
  obtain ⟨g1, h1, h2, h3, g2, g3⟩ := h
  exact ⟨g1, h1.kept (fun q hq => oq q (by omega)), h2.mv (fun q hq _ _ _ => oq q (by omega)), size_keep h3 (oq _ (by omega)), g2.kept (oq _ (fun e => hne.1 e.symm)), g3.kept (oq _ (fun e => hne.2 e.symm))⟩
set_option maxRecDepth 20000 in
theorem ci_J0t {H0 : Heap} (hW : PB D z B u X Y a n b m1 (nI T.length) H0) (hT : TB T n b) (ht6 : T.length ≤ 600) (hsz : H0.size = A + 1) (hB : B ≤ A) (hA : z + 530 ≤ A) (hne : A ≠ u ∧ A ≠ a) (h0 : va_at (gD D) cls (A, .inr (14, [.null, .int 0, .int 0, .int 0])) H0) : CC l yJ0_init_db425 cJ0_init_db425 5 none (rmk 5 1 600) D z [.ref A, .ref u, .null] (fun H => H = H0) none (TSW D z B u X Y T A) := by
  refine ci_of pn_J0 rfl (le_ rfl) (ls := [(0, .ref A), (1, .ref u), (2, .null)]) rfl ?_
  intro p e s m args below meth c E hi2
  refine j_wk (P' := fun H => H.size = A + 1 ∧ PB D z B u X Y a n b m1 (nI T.length) H ∧ va_at (gD D) cls (A, .inr (14, [.null, .int 0, .int 0, .int 0])) H) (fun H h => by subst h; exact ⟨hsz, hW, h0⟩) ?_
  have ro : ∀ H, (H.size = A + 1 ∧ PB D z B u X Y a n b m1 (nI T.length) H ∧ va_at (gD D) cls (A, .inr (14, [.null, .int 0, .int 0, .int 0])) H) → va_at (gD D) cls (u, .inr (13, [.ref a, .int 0, .int m1, .int (nI T.length)])) H := fun H h => h.2.1.obj
  refine j_aload_n E 0 rfl dJ0_init_db425_0 ?_
  refine jp_objInit E ml_J0_1 im_Lib_objectInit cd_Lib_objectInit (le_ rfl) (le_ rfl) dJ0_init_db425_1 ?_
  refine j_aload_n E 1 rfl dJ0_init_db425_4 ?_
  refine j_invU (C := RJ4) [] [.ref a] E (c_SB_getValue ro) ml_J0_552 mu_J5_getValue_6d5f1 (E.2.2.2.2.1 _ se_J4_J5_getValue_6d5f1) rfl ⟨le_ rfl, le_ rfl⟩ (fun H h => ⟨13, _, _, rfl, rfl, ro H h⟩) rfl rfl (le_ rfl) ⟨le_ rfl, le_ rfl⟩ dJ0_init_db425_5 ?_
  refine j_astore_n (ls' := [(3, .ref a), (0, .ref A), (1, .ref u), (2, .null)]) E (lt_ rfl) rfl dJ0_init_db425_8 ?_
  refine j_aload_n E 2 rfl dJ0_init_db425_9 ?_
  refine j_invO (C := RJ4) [] [.int (nI T.length)] E (c_J4_len ro) ml_J0_549 mu_J5_length_8abf5 se_J4_J5_length_8abf5 im_J4_length_8abf5 in_J4 cd_J4_length_8abf5 rfl ⟨le_ rfl, le_ rfl⟩ (fun H h => ⟨13, _, _, rfl, rfl, ro H h⟩) rfl rfl (le_ rfl) ⟨le_ rfl, le_ rfl⟩ dJ0_init_db425_10 ?_
  refine j_istore (ls' := [(4, .int (nI T.length)), (3, .ref a), (0, .ref A), (1, .ref u), (2, .null)]) E (lt_ rfl) rfl dJ0_init_db425_13 ?_
  refine j_aload_n E 3 rfl dJ0_init_db425_15 ?_
  refine j_invU (C := RJ4) [] [.int 1] E (c_SB_isL ro) ml_J0_1047 mu_J5_isLatin1_aae02 (E.2.2.2.2.1 _ se_J4_J5_isLatin1_aae02) rfl ⟨le_ rfl, le_ rfl⟩ (fun H h => ⟨13, _, _, rfl, rfl, ro H h⟩) rfl rfl (le_ rfl) ⟨le_ rfl, le_ rfl⟩ dJ0_init_db425_16 ?_
  refine j_if_eq E 41 (by decide) dJ0_init_db425_19 (fun q => absurd q (by decide)) (fun _ => ?_)
  refine j_aload_n E 2 rfl dJ0_init_db425_22 ?_
  refine j_iconst E 0 ic_0 dJ0_init_db425_23 ?_
  refine jp_putF (f := 1) (P' := fun H => H.size = A + 1 ∧ PB D z B u X Y a n b m1 (nI T.length) H ∧ va_at (gD D) cls (A, .inr (14, [.null, .int 0, .int 0, .int 0])) H) E hi2 (by omega) (fun H h => h.2.2) cf_J0 fl_J0_15 (lt_ rfl) ⟨rfl, rfl, rfl⟩ ⟨rfl, rfl⟩ (lt_ rfl) (fun H H1 h e1 e2 e3 => ⟨e1.trans h.1, h.2.1.far hB hA hne e2, e3⟩) dJ0_init_db425_24 ?_
  refine j_aload_n E 2 rfl dJ0_init_db425_27 ?_
  refine j_aload_n E 1 rfl dJ0_init_db425_28 ?_
  refine j_iconst E 0 ic_0 dJ0_init_db425_29 ?_
  refine j_iload E 0 rfl dJ0_init_db425_30 ?_
  refine j_invT (P' := fun H => PB D z B u X Y a n b m1 (nI T.length) H ∧ va_at (gD D) cls (A, .inr (14, [.null, .int 0, .int 0, .int 0])) H ∧ ∃ f, va_at (gD D) cls (A + 1, aint D 1 T.length f) H ∧ sb_Fit f ∧ ∀ i, i < T.length → f i = b i) [.ref A] [.ref (A + 1), .ref A] E (c_cor (A := A + 1) hT.1 ht6 hT.2.1 (by omega) (fun H h => h.2.1.arr) (fun H h => h.1) hT.2.2.1 (fun H H1 f h e2 e3 e4 e5 => ⟨h.2.1.old h.1 e2, h.2.2.kept (e2 _ (Nat.lt_succ_self A)), f, e3, e4, e5⟩)) ml_J0_54 ms_J7_cor rfl ⟨le_ rfl, le_ rfl⟩ rfl rfl (le_ rfl) ⟨le_ rfl, le_ rfl⟩ dJ0_init_db425_32 ?_
  refine jp_putF (f := 0) (P' := TSW D z B u X Y T A) E hi2 (by omega) (fun H h => h.2.1) cf_J0 fl_J0_9 (lt_ rfl) ⟨rfl, rfl, rfl⟩ ⟨rfl, rfl⟩ (lt_ rfl) (fun H H1 h e1 e2 e3 => ?_) dJ0_init_db425_35 ?_
  · obtain ⟨g1, g2, f, g3, g4, g5⟩ := h
    exact ⟨⟨(a, n, b, m1), g1.far hB hA hne e2, hT⟩, f, g4, fun q hq => (g5 q hq).trans (hT.2.2.2 q hq), e3, g3.kept (e2 _ (by show A + 1 ≠ A; omega))⟩
  refine j_goto E 97 (by decide) dJ0_init_db425_38 ?_
  exact j_vret E (le_ rfl) (le_ rfl) dJ0_init_db425_97
set_option maxRecDepth 20000 in
theorem ci_J0s {H0 : Heap} (hW : PB D z B u X Y a n b m1 (nI T.length) H0) (hT : TB T n b) (ht6 : T.length ≤ 600) (hsz : H0.size = A + 1) (hB : B ≤ A) (hA : z + 530 ≤ A) (hne : A ≠ u ∧ A ≠ a) (h0 : va_at (gD D) cls (A, .inr (14, [.null, .int 0, .int 0, .int 0])) H0) : CC l yJ0_init_81219 cJ0_init_81219 2 none (rmk 6 1 600) D z [.ref A, .ref u] (fun H => H = H0) none (TSW D z B u X Y T A) := by
  refine ci_of pn_J0 rfl (le_ rfl) (ls := [(0, .ref A), (1, .ref u)]) rfl ?_
  intro p e s m args below meth c E hi2
  refine j_aload_n E 0 rfl dJ0_init_81219_0 ?_
  refine j_aload_n E 1 rfl dJ0_init_81219_1 ?_
  refine j_anull E dJ0_init_81219_2 ?_
  refine j_invI (As := [.ref u, .null]) (rm := rmk 5 1 600) (P2 := fun _ => TSW D z B u X Y T A) (P' := TSW D z B u X Y T A) [] E (fun H h => by subst h; exact ci_J0t hW hT ht6 hsz hB hA hne h0) (fun H H1 h h2 => h2) ml_J0_489 mi_J0t rfl ⟨le_ rfl, le_ rfl⟩ rfl (le_ rfl) ⟨le_ rfl, le_ rfl⟩ dJ0_init_81219_3 ?_
  exact j_vret E (le_ rfl) (le_ rfl) dJ0_init_81219_6
set_option maxRecDepth 20000 in
theorem c_toString {H0 : Heap} (hW : SBW D z B u X Y T H0) (ht6 : T.length ≤ 600) : CC l yJ4_toString_0e30d cJ4_toString_0e30d 1 (some (.object "java/lang/String")) (rmk 7 2 604) D z [.ref u] (fun H => H = H0) (some (.ref H0.size)) (TSW D z B u X Y T H0.size) := by
  obtain ⟨⟨a, n, b, m1⟩, hW, hT⟩ := hW
  have l1 : u < H0.size := hW.obj.lt
  have l2 : a < H0.size := hW.arr.lt
  have g1 := hW.1
  have hz := hW.2.2.2.1
  refine cc_of pn_J4 (le_ rfl) (ls := [(0, .ref u)]) rfl ?_
  intro p e s m args below meth c E
  refine jp_new (A := H0.size) (P' := fun H => H.size = H0.size + 1 ∧ PB D z B u X Y a n b m1 (nI T.length) H ∧ va_at (gD D) cls (H0.size, .inr (14, [.null, .int 0, .int 0, .int 0])) H) E cf_J0 cl_J4_18 is_J0 in_J0 (fun H h => by rw [h]) df_J0 (le_ rfl) (le_ rfl) (fun H H1 h e1 e2 e3 => by subst h; exact ⟨e1, hW.old rfl e2, e3⟩) dJ4_toString_0e30d_0 ?_
  refine j_dup E rfl dJ4_toString_0e30d_3 ?_
  refine j_aload_n E 0 rfl dJ4_toString_0e30d_4 ?_
  refine j_invI (As := [.ref u]) (rm := rmk 6 1 600) (P2 := fun _ => TSW D z B u X Y T H0.size) (P' := TSW D z B u X Y T H0.size) [.ref H0.size] E (fun H h => ci_J0s h.2.1 hT ht6 h.1 (by omega) (by omega) (by omega) h.2.2) (fun H H1 h h2 => h2) ml_J4_137 mi_J0s rfl ⟨le_ rfl, le_ rfl⟩ rfl (le_ rfl) ⟨le_ rfl, le_ rfl⟩ dJ4_toString_0e30d_5 ?_
  exact j_aret E (le_ rfl) (le_ rfl) dJ4_toString_0e30d_8
end TS
