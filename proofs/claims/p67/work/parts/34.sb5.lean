/-! the builder: made of a text; a String made of it -/
set_option maxRecDepth 20000 in
theorem mi_J4s : MI yJ4_init_a7421 cJ4_init_a7421 2 1 := ⟨im_J4_init_a7421, in_J4, cd_J4_init_a7421, rfl, by decide +kernel, by decide +kernel, by decide +kernel⟩
set_option maxRecDepth 20000 in
theorem mi_J5s : MI yJ5_init_a7421 cJ5_init_a7421 5 1 := ⟨im_J5_init_a7421, in_J5, cd_J5_init_a7421, rfl, by decide +kernel, by decide +kernel, by decide +kernel⟩
set_option maxRecDepth 20000 in
theorem mi_J0s : MI yJ0_init_81219 cJ0_init_81219 2 1 := ⟨im_J0_init_81219, in_J0, cd_J0_init_81219, rfl, by decide +kernel, by decide +kernel, by decide +kernel⟩
set_option maxRecDepth 20000 in
theorem mi_J0t : MI yJ0_init_db425 cJ0_init_db425 5 2 := ⟨im_J0_init_db425, in_J0, cd_J0_init_db425, rfl, by decide +kernel, by decide +kernel, by decide +kernel⟩
section SBN
variable {l : Launch} {D : DD} {z B u wd vd : Nat} {X : XT} {Y : YT} {a n : Nat} {b fd : Nat → Int32} {m1 cnt : Int32} {P P' : Heap → Prop} {T : List Int32}
set_option maxRecDepth 20000 in
/-- append of a String that the run has made -/
theorem c_LA_H {T0 : List Int32} (hk : OKS T fd) (hY : ∀ H, Y H → SO D wd vd T fd H) (hq : T0.length + T.length ≤ 600) : CC l yJ4_append_15ec4 cJ4_append_15ec4 2 (some (.object "java/lang/StringBuilder")) (rmk 6 1 1200) D z [.ref u, .ref wd] (SBW D z B u X Y T0) (some (.ref u)) (SBW D z B u X Y (T0 ++ T)) := by
  refine cc_of pn_J4 (le_ rfl) (ls := [(0, .ref u), (1, .ref wd)]) rfl ?_
  intro p e s m args below meth c E
  refine j_ex (fun H h => h) fun x => ?_
  obtain ⟨a, n, b, m1⟩ := x
  refine j_pre (A := TB T0 n b) (fun H h => h.2) fun hT => ?_
  refine j_wk (P' := PB D z B u X Y a n b m1 (nI T0.length)) (fun H h => h.1) ?_
  refine j_pre (fun H h => h.gu) fun hgu => ?_
  refine j_aload_n E 0 rfl dJ4_append_15ec4_0 ?_
  refine j_aload_n E 1 rfl dJ4_append_15ec4_1 ?_
  refine j_invSU [] [.ref u] E (c_apH hk hY hgu hT.1 hT.2.1 hq hT.2.2.1) ml_J4_29 mu_J5_append_cf1ce su_J4 rfl ⟨le_ rfl, le_ rfl⟩ rcB rfl rfl (le_ rfl) ⟨le_ rfl, le_ rfl⟩ dJ4_append_15ec4_2 ?_
  refine j_pop E rfl dJ4_append_15ec4_5 ?_
  refine j_aload_n E 0 rfl dJ4_append_15ec4_6 ?_
  refine j_wk (P' := SBW D z B u X Y (T0 ++ T)) (fun H h => ?_) ?_
  · obtain ⟨⟨a', n', b'⟩, g1, g2, g3, g4, g5, g6⟩ := h
    refine ⟨(a', n', b', m1), ?_, hT.app g2 g3 g4 g5 (fun i hi => (g6 i hi).trans (hk.2.2 i hi))⟩
    rw [List.length_append]
    exact g1
  · exact j_aret E (le_ rfl) (le_ rfl) dJ4_append_15ec4_7
set_option maxRecDepth 20000 in
theorem c_LA_H2 {T0 : List Int32} (hk : OKS T fd) (hY : ∀ H, Y H → SO D wd vd T fd H) (hq : T0.length + T.length ≤ 600) : CC l yJ4_append_cf1ce cJ4_append_cf1ce 2 (some (.object "java/lang/AbstractStringBuilder")) (rmk 7 1 1200) D z [.ref u, .ref wd] (SBW D z B u X Y T0) (some (.ref u)) (SBW D z B u X Y (T0 ++ T)) := by
  refine cc_of pn_J4 (le_ rfl) (ls := [(0, .ref u), (1, .ref wd)]) rfl ?_
  intro p e s m args below meth c E
  refine j_aload_n E 0 rfl dJ4_append_cf1ce_0 ?_
  refine j_aload_n E 1 rfl dJ4_append_cf1ce_1 ?_
  refine j_invV [] [.ref u] E (c_LA_H hk hY hq) ml_J4_23 mv_J4_append_15ec4 rfl ⟨le_ rfl, le_ rfl⟩ rcW rfl rfl (le_ rfl) ⟨le_ rfl, le_ rfl⟩ dJ4_append_cf1ce_2 ?_
  exact j_aret E (le_ rfl) (le_ rfl) dJ4_append_cf1ce_5
set_option maxRecDepth 20000 in
/-- what a constructor of a builder at u finds: the class, what is held, the text to begin with -/
theorem ci_J5s {H0 : Heap} (hgx : GX D z X H0) (hfr : FRC z u H0.size Y H0) (hz : z + 529 < H0.size) (hu : z + 530 ≤ u) (h0 : va_at (gD D) cls (u, .inr (13, [.null, .int 0, .int 0, .int 0])) H0) (hk : OKS T fd) (hY : ∀ H, Y H → SO D wd vd T fd H) (hT : T.length ≤ 100) : CC l yJ5_init_a7421 cJ5_init_a7421 5 none (rmk 8 2 1400) D z [.ref u, .ref wd] (fun H => H = H0) none (SBW D z H0.size u X Y T) := by
  refine ci_of pn_J5 rfl (le_ rfl) (ls := [(0, .ref u), (1, .ref wd)]) rfl ?_
  intro p e s m args below meth c E hi2
  have hul : u < H0.size := h0.lt
  have hso : SO D wd vd T fd H0 := hY H0 hfr.now
  refine j_wk (P' := fun H => H.size = H0.size ∧ GX D z X H ∧ FRC z u H0.size Y H ∧ va_at (gD D) cls (u, .inr (13, [.null, .int 0, .int 0, .int 0])) H) (fun H h => by subst h; exact ⟨rfl, hgx, hfr, h0⟩) ?_
  refine j_aload_n E 0 rfl dJ5_init_a7421_0 ?_
  refine jp_objInit E ml_J5_3 im_Lib_objectInit cd_Lib_objectInit (le_ rfl) (le_ rfl) dJ5_init_a7421_1 ?_
  refine j_aload_n E 1 rfl dJ5_init_a7421_4 ?_
  refine j_invV [] [.int (nI T.length)] E (c_hlen hk (fun H h => hY H h.2.2.1.now)) ml_J5_32 mv_J0_length_8abf5 rfl ⟨le_ rfl, le_ rfl⟩ (rcH (fun H h => hY H h.2.2.1.now)) rfl rfl (le_ rfl) ⟨le_ rfl, le_ rfl⟩ dJ5_init_a7421_5 ?_
  refine j_istore_n (ls' := [(2, .int (nI T.length)), (0, .ref u), (1, .ref wd)]) E (lt_ rfl) rfl dJ5_init_a7421_8 ?_
  refine j_iload_n E 0 rfl dJ5_init_a7421_9 ?_
  refine j_ldc E ct_J5_38 dJ5_init_a7421_10 ?_
  refine j_icmp_ge E 22 (by decide) dJ5_init_a7421_12 (fun q => absurd q (nI_ge (b := 2147483631) (by omega) (by decide))) (fun _ => ?_)
  refine j_iload_n E 0 rfl dJ5_init_a7421_15 ?_
  refine j_bipush E 16 bp_16 dJ5_init_a7421_16 ?_
  refine j_iadd E dJ5_init_a7421_18 ?_
  refine j_name (w := nI (T.length + 16)) (nI_add _ 16).symm ?_
  refine j_goto E 24 (by decide) dJ5_init_a7421_19 ?_
  refine j_istore_n (ls' := [(3, .int (nI (T.length + 16))), (2, .int (nI T.length)), (0, .ref u), (1, .ref wd)]) E (lt_ rfl) rfl dJ5_init_a7421_24 ?_
  refine j_aload_n E 3 rfl dJ5_init_a7421_25 ?_
  refine j_invV [] [.int 0] E (c_hcoder (fun H h => hY H h.2.2.1.now)) ml_J5_40 mv_J0_coder_7d493 rfl ⟨le_ rfl, le_ rfl⟩ (rcH (fun H h => hY H h.2.2.1.now)) rfl rfl (le_ rfl) ⟨le_ rfl, le_ rfl⟩ dJ5_init_a7421_26 ?_
  refine j_istore (ls' := [(4, .int 0), (3, .int (nI (T.length + 16))), (2, .int (nI T.length)), (0, .ref u), (1, .ref wd)]) E (lt_ rfl) rfl dJ5_init_a7421_29 ?_
  refine j_aload_n E 3 rfl dJ5_init_a7421_31 ?_
  refine j_iload E 0 rfl dJ5_init_a7421_32 ?_
  refine jp_put (f := 1) (P' := fun H => H.size = H0.size ∧ GX D z X H ∧ FRC z u H0.size Y H ∧ va_at (gD D) cls (u, .inr (13, [.null, .int 0, .int 0, .int 0])) H) E (by omega) (fun H h => h.2.2.2) cf_J4 fl_J5_22 (lt_ rfl) ⟨rfl, rfl⟩ ⟨rfl, rfl⟩ (lt_ rfl) (fun H H1 h e1 e2 e3 => ⟨e1.trans h.1, h.2.1.kept (fun q hq => e2 q (by omega)), h.2.2.1.mv (fun q _ hq _ _ => e2 q hq), e3⟩) dJ5_init_a7421_34 ?_
  refine j_aload_n E 3 rfl dJ5_init_a7421_37 ?_
  refine j_iload E 0 rfl dJ5_init_a7421_38 ?_
  refine j_if_ne E 49 (by decide) dJ5_init_a7421_40 (fun q => absurd rfl q) (fun _ => ?_)
  refine j_iload_n E 1 rfl dJ5_init_a7421_43 ?_
  refine jp_newa (A := H0.size) (N' := T.length + 16) (t := 1) (a0 := (T.length + 16, .inl (fun _ => 0))) (P' := fun H => GX D z X H ∧ FRC z u H0.size Y H ∧ z + 529 < H.size ∧ va_at (gD D) cls (u, .inr (13, [.null, .int 0, .int 0, .int 0])) H ∧ va_at (gD D) cls (H0.size, aint D 1 (T.length + 16) (fun _ => 0)) H) E ar_byte rfl rfl (fun _ h => h) (fun _ => rfl) (fun H h => h.1) (nI_pos (by omega)) (nI_clamp (by omega)) (by show (T.length + 16) * 1 ≤ _; omega) (le_ rfl) (by show 0 + 0 + 0 + (T.length + 16) ≤ 1400; omega) (fun H H1 h e1 e2 e3 => ⟨h.2.1.kept (fun q hq => e2 q (by omega)), h.2.2.1.mv (fun q hq _ _ _ => e2 q hq), by omega, h.2.2.2.kept (e2 _ hul), e3⟩) dJ5_init_a7421_44 ?_
  refine j_goto E 53 (by decide) dJ5_init_a7421_46 ?_
  refine jp_put (f := 0) (P' := SBW D z H0.size u X Y []) E (by omega) (fun H h => h.2.2.2.1) cf_J4 fl_J5_15 (lt_ rfl) ⟨rfl, rfl⟩ ⟨rfl, rfl⟩ (lt_ rfl) (fun H H1 h e1 e2 e3 => ⟨(H0.size, T.length + 16, fun _ => 0, 0), ⟨⟨Nat.le_refl _, hu, by omega, by omega⟩, h.1.kept (fun q hq => e2 q (by omega)), h.2.1.mv (fun q _ hq _ _ => e2 q hq), by rw [e1]; exact h.2.2.1, e3, h.2.2.2.2.kept (e2 _ (by show H0.size ≠ u; omega))⟩, Nat.zero_le _, by show T.length + 16 ≤ 65536; omega, sb_fit0, fun q hq => absurd hq (Nat.not_lt_zero q)⟩) dJ5_init_a7421_53 ?_
  refine j_aload_n E 3 rfl dJ5_init_a7421_56 ?_
  refine j_aload_n E 4 rfl dJ5_init_a7421_57 ?_
  refine j_invO [] [.ref u] E (c_LA_H2 hk hY (by show 0 + T.length ≤ 600; omega)) ml_J5_43 mu_J5_append_cf1ce se_J4_J5_append_cf1ce im_J4_append_cf1ce in_J4 cd_J4_append_cf1ce rfl ⟨le_ rfl, le_ rfl⟩ rcW rfl rfl (le_ rfl) ⟨le_ rfl, by show 0 + 0 + 0 + (T.length + 16) + 1200 ≤ 1400; omega⟩ dJ5_init_a7421_58 ?_
  refine j_pop E rfl dJ5_init_a7421_61 ?_
  exact j_vret E (le_ rfl) (by show 0 + 0 + 0 + (T.length + 16) + 1200 ≤ 1400; omega) dJ5_init_a7421_62
set_option maxRecDepth 20000 in
theorem ci_J4s {H0 : Heap} (hgx : GX D z X H0) (hfr : FRC z u H0.size Y H0) (hz : z + 529 < H0.size) (hu : z + 530 ≤ u) (h0 : va_at (gD D) cls (u, .inr (13, [.null, .int 0, .int 0, .int 0])) H0) (hk : OKS T fd) (hY : ∀ H, Y H → SO D wd vd T fd H) (hT : T.length ≤ 100) : CC l yJ4_init_a7421 cJ4_init_a7421 2 none (rmk 9 2 1400) D z [.ref u, .ref wd] (fun H => H = H0) none (SBW D z H0.size u X Y T) := by
  refine ci_of pn_J4 rfl (le_ rfl) (ls := [(0, .ref u), (1, .ref wd)]) rfl ?_
  intro p e s m args below meth c E hi2
  refine j_aload_n E 0 rfl dJ4_init_a7421_0 ?_
  refine j_aload_n E 1 rfl dJ4_init_a7421_1 ?_
  refine j_invI (As := [.ref wd]) (rm := rmk 8 2 1400) (P2 := fun H => SBW D z H.size u X Y T) (P' := SBW D z H0.size u X Y T) [] E (fun H h => by subst h; exact ci_J5s hgx hfr hz hu h0 hk hY hT) (fun H H1 h h2 => by subst h; exact h2) ml_J4_7 mi_J5s rfl ⟨le_ rfl, le_ rfl⟩ rfl (le_ rfl) ⟨le_ rfl, le_ rfl⟩ dJ4_init_a7421_2 ?_
  exact j_vret E (le_ rfl) (le_ rfl) dJ4_init_a7421_5
end SBN
