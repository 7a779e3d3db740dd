/-! StringBuilder: digits, append, setLength, length, charAt, out to the world -/
theorem sb_b7 : ∀ c, c < 128 → sb_b c = nI c := by decide +kernel
/-- behind an append of s 0 .. s (w - 1) to the t bytes b -/
def PA (D : DD) (z B u : Nat) (X : XT) (Y : YT) (t : Nat) (s : Nat → Nat) (w : Nat) (b : Nat → Int32) (m1 : Int32) (H : Heap) : Prop := ∃ x : Nat × Nat × (Nat → Int32), PB D z B u X Y x.1 x.2.1 x.2.2 m1 (nI (t + w)) H ∧ t + w ≤ x.2.1 ∧ x.2.1 ≤ 65536 ∧ sb_Fit x.2.2 ∧ (∀ j, j < t → x.2.2 j = b j) ∧ ∀ i, i < w → x.2.2 (t + i) = sb_b (s i)
theorem d_ones {v : Int32} {j : Nat} (h : v = 48 + nI j) : v.toInt8.toInt32 = sb_b (48 + j) := by
  subst h
  show (nI 48 + nI j).toInt8.toInt32 = _
  rw [nI_add]
  rfl
section SB2
variable {l : Launch} {D : DD} {z B u : Nat} {X : XT} {Y : YT} {a n : Nat} {b : Nat → Int32} {m1 cnt : Int32} {P P' : Heap → Prop}
theorem c_SB_stringSize {w : Nat} (hw : w < 100000) : CC l yJ6_stringSize_0f7a4 cJ6_stringSize_0f7a4 4 (some .int) (rmk 1 0 0) D z [.int (nI w)] P (some (.int (nI (sb_dg w)))) P := by
  refine cc_of pn_J6 (le_ rfl) (ls := [(0, .int (nI w))]) rfl ?_
  intro p e s m args below meth c E
  have ret : ∀ i : Nat, i < 10 → sb_dg w = i → J p l e (rmk 1 0 0) s m args below meth c D z P 0 0 (MQ below (QC z (some (.int (nI (sb_dg w)))) P) args s (rmk 1 0 0).cells (rmk 1 0 0).slots (Az z)) 4 27 [(0, .int (-nI w)), (1, .int 0), (2, .int (-nI (10 ^ i))), (3, .int (nI i))] [] := by
    intro i hi hdg
    refine j_iload_n E 3 rfl dJ6_stringSize_0f7a4_27 ?_
    refine j_iload_n E 1 rfl dJ6_stringSize_0f7a4_28 ?_
    refine j_iadd E dJ6_stringSize_0f7a4_29 ?_
    refine j_name (w := nI (sb_dg w)) (by rw [hdg]; exact (Int32.add_zero _).symm) ?_
    exact j_iret E rfl (le_ rfl) (le_ rfl) dJ6_stringSize_0f7a4_30
  have loop : ∀ d i : Nat, i + d = 5 → (1 < i → 10 ^ (i - 1) ≤ w) → 1 ≤ i → J p l e (rmk 1 0 0) s m args below meth c D z P 0 0 (MQ below (QC z (some (.int (nI (sb_dg w)))) P) args s (rmk 1 0 0).cells (rmk 1 0 0).slots (Az z)) 4 16 [(0, .int (-nI w)), (1, .int 0), (2, .int (-nI (10 ^ i))), (3, .int (nI i))] [] := by
    intro d
    induction d with
    | zero =>
      intro i hi h1 h2
      obtain rfl : i = 5 := by omega
      refine j_iload_n E 3 rfl dJ6_stringSize_0f7a4_16 ?_
      refine j_bipush E 10 bp_10 dJ6_stringSize_0f7a4_17 ?_
      refine j_icmp_ge E 42 (by decide) dJ6_stringSize_0f7a4_19 (fun q => absurd q (by decide)) (fun _ => ?_)
      refine j_iload_n E 0 rfl dJ6_stringSize_0f7a4_22 ?_
      refine j_iload_n E 2 rfl dJ6_stringSize_0f7a4_23 ?_
      refine j_icmp_le E 31 (by decide) dJ6_stringSize_0f7a4_24 (fun q => ?_) (fun _ => ?_)
      · have := (sb_nle (by omega) (by decide)).mp q
        omega
      · have := h1 (by omega)
        exact ret 5 (by decide) (by unfold sb_dg; (repeat' split) <;> omega)
    | succ d ih =>
      intro i hi h1 h2
      have hi5 : i = 1 ∨ i = 2 ∨ i = 3 ∨ i = 4 := by omega
      refine j_iload_n E 3 rfl dJ6_stringSize_0f7a4_16 ?_
      refine j_bipush E 10 bp_10 dJ6_stringSize_0f7a4_17 ?_
      refine j_icmp_ge E 42 (by decide) dJ6_stringSize_0f7a4_19 (fun q => absurd q (nI_ge (a := i) (b := 10) (by omega) (by decide))) (fun _ => ?_)
      refine j_iload_n E 0 rfl dJ6_stringSize_0f7a4_22 ?_
      refine j_iload_n E 2 rfl dJ6_stringSize_0f7a4_23 ?_
      have h10 : 10 ^ i < 2 ^ 31 := by rcases hi5 with rfl | rfl | rfl | rfl <;> decide
      refine j_icmp_le E 31 (by decide) dJ6_stringSize_0f7a4_24 (fun q => ?_) (fun q => ?_)
      · have hle := (sb_nle (by omega) h10).mp q
        refine j_bipush E 10 bp_10 dJ6_stringSize_0f7a4_31 ?_
        refine j_iload_n E 2 rfl dJ6_stringSize_0f7a4_33 ?_
        refine j_imul E dJ6_stringSize_0f7a4_34 ?_
        refine j_name (w := -nI (10 ^ (i + 1))) (by rcases hi5 with rfl | rfl | rfl | rfl <;> decide) ?_
        refine j_istore_n (ls' := [(2, .int (-nI (10 ^ (i + 1)))), (0, .int (-nI w)), (1, .int 0), (3, .int (nI i))]) E (lt_ rfl) rfl dJ6_stringSize_0f7a4_35 ?_
        refine j_iinc (ls' := [(3, .int (nI (i + 1))), (2, .int (-nI (10 ^ (i + 1)))), (0, .int (-nI w)), (1, .int 0)]) E 3 rfl (lt_ rfl) (nI (i + 1)) ((congrArg (fun q => nI i + q) ic_1).trans (nI_1 i)) rfl dJ6_stringSize_0f7a4_36 ?_
        refine j_goto E 16 (by decide) dJ6_stringSize_0f7a4_39 ?_
        refine j_sub [2, 3, 1, 0] rfl ?_
        exact ih (i + 1) (by omega) (fun _ => by rw [Nat.add_sub_cancel]; exact hle) (by omega)
      · have hlt : w < 10 ^ i := Nat.not_le.mp fun h => q ((sb_nle (by omega) h10).mpr h)
        refine ret i (by omega) ?_
        rcases hi5 with rfl | rfl | rfl | rfl
        · unfold sb_dg; (repeat' split) <;> omega
        · have := h1 (by omega); unfold sb_dg; (repeat' split) <;> omega
        · have := h1 (by omega); unfold sb_dg; (repeat' split) <;> omega
        · have := h1 (by omega); unfold sb_dg; (repeat' split) <;> omega
  refine j_iconst E 1 ic_1 dJ6_stringSize_0f7a4_0 ?_
  refine j_istore_n (ls' := [(1, .int 1), (0, .int (nI w))]) E (lt_ rfl) rfl dJ6_stringSize_0f7a4_1 ?_
  refine j_iload_n E 1 rfl dJ6_stringSize_0f7a4_2 ?_
  refine j_if_lt E 11 (by decide) dJ6_stringSize_0f7a4_3 (fun q => absurd q (nI_pos (by omega))) (fun _ => ?_)
  refine j_iconst E 0 ic_0 dJ6_stringSize_0f7a4_6 ?_
  refine j_istore_n (ls' := [(1, .int 0), (0, .int (nI w))]) E (lt_ rfl) rfl dJ6_stringSize_0f7a4_7 ?_
  refine j_iload_n E 1 rfl dJ6_stringSize_0f7a4_8 ?_
  refine j_ineg E dJ6_stringSize_0f7a4_9 ?_
  refine j_istore_n (ls' := [(0, .int (-nI w)), (1, .int 0)]) E (lt_ rfl) rfl dJ6_stringSize_0f7a4_10 ?_
  refine j_bipush E (-nI 10) bp_m10 dJ6_stringSize_0f7a4_11 ?_
  refine j_istore_n (ls' := [(2, .int (-nI (10 ^ 1))), (0, .int (-nI w)), (1, .int 0)]) E (lt_ rfl) rfl dJ6_stringSize_0f7a4_13 ?_
  refine j_iconst E (nI 1) ic_1 dJ6_stringSize_0f7a4_14 ?_
  refine j_istore_n (ls' := [(3, .int (nI 1)), (2, .int (-nI (10 ^ 1))), (0, .int (-nI w)), (1, .int 0)]) E (lt_ rfl) rfl dJ6_stringSize_0f7a4_15 ?_
  refine j_sub [2, 3, 1, 0] rfl ?_
  exact loop 4 1 rfl (fun h => absurd h (by decide)) (by decide)
theorem b_SB_getChars {p : Program} {e : Env} {s : State} {m : MethodId} {args : Array Value} {below : List Frame} {meth : Method} {c : Code} (E : Cx p s m args meth c D z RJ6 cJ6_getChars_ba4f3 7 (some .int)) {t : Nat} {PT : Heap → Prop} (hza : z ≤ a) (hn : n ≤ 65536) : ∀ (f w q : Nat) (b : Nat → Int32), w < f → w < 2 ^ 31 → q = t + sb_dg w → q ≤ n → (∀ b', (∀ j, j < t ∨ q ≤ j → b' j = b j) → (∀ i, i < sb_dg w → b' (q - 1 - i) = sb_b (48 + w / 10 ^ i % 10)) → (sb_Fit b → sb_Fit b') → ∀ H, PB D z B u X Y a n b' m1 cnt H → PT H) → J p l e (rmk 1 0 0) s m args below meth c D z (PB D z B u X Y a n b m1 cnt) 0 0 (MQ below (QC z (some (.int (nI t))) PT) args s (rmk 1 0 0).cells (rmk 1 0 0).slots (Az z)) 7 22 [(0, .int (-nI w)), (2, .ref a), (5, .int (nI q)), (6, .int 0)] [] := by
  obtain ⟨tT, hT1, hT2⟩ := E.2.2.2.2.2.1.2.2.2.2.2.2.2.2.2.2.2.1
  obtain ⟨tO, hO1, hO2⟩ := E.2.2.2.2.2.1.2.2.2.2.2.2.2.2.2.2.2.2.1
  have dec1 : ∀ q : Nat, 0 < q → nI q + Int32.ofInt (-1) = nI (q - 1) := fun q h => (congrArg (fun x => nI q + x) ic_m1).trans (sb_m1 h)
  intro f
  induction f with
  | zero =>
    intro w q b h
    omega
  | succ f ih =>
    intro w q b hwf hw hq hqn hP
    have hd1 := (sb_dg_in w).1
    have ew : (nI w).toNatClampNeg = w := nI_clamp hw
    have fin : ∀ b', (∀ H, PB D z B u X Y a n b' m1 cnt H → PT H) → ∀ r : Int32, r = nI t → J p l e (rmk 1 0 0) s m args below meth c D z (PB D z B u X Y a n b' m1 cnt) 0 0 (MQ below (QC z (some (.int (nI t))) PT) args s (rmk 1 0 0).cells (rmk 1 0 0).slots (Az z)) 7 104 [(5, .int r), (0, .int (-nI w)), (2, .ref a), (6, .int 0)] [] := by
      intro b' hb' r hr
      subst hr
      refine j_iload E 3 rfl dJ6_getChars_ba4f3_104 ?_
      refine j_if_eq E 118 (by decide) dJ6_getChars_ba4f3_106 (fun _ => ?_) (fun q => absurd rfl q)
      refine j_iload E 0 rfl dJ6_getChars_ba4f3_118 ?_
      refine j_wk hb' ?_
      exact j_iret E rfl (le_ rfl) (le_ rfl) dJ6_getChars_ba4f3_120
    refine j_iload_n E 0 rfl dJ6_getChars_ba4f3_22 ?_
    refine j_bipush E (-nI 100) bp_m100 dJ6_getChars_ba4f3_23 ?_
    refine j_icmp_gt E 72 (by decide) dJ6_getChars_ba4f3_25 (fun h => ?_) (fun h => ?_)
    · have h100 : w < 100 := (sb_nlt (by decide) hw).mp h
      refine j_aload_n E 1 rfl dJ6_getChars_ba4f3_72 ?_
      refine j_iinc (ls' := [(5, .int (nI (q - 1))), (0, .int (-nI w)), (2, .ref a), (6, .int 0)]) E 2 rfl (lt_ rfl) (nI (q - 1)) (dec1 q (by omega)) rfl dJ6_getChars_ba4f3_73 ?_
      refine j_iload E 0 rfl dJ6_getChars_ba4f3_76 ?_
      refine j_gets E hO1 fl_J6_83 dJ6_getChars_ba4f3_78 ?_
      refine j_iload_n E 1 rfl dJ6_getChars_ba4f3_81 ?_
      refine j_ineg E dJ6_getChars_ba4f3_82 ?_
      refine j_name (w := nI w) Int32.neg_neg.symm ?_
      refine jp_tb (v := .int (48 + nI (w % 10))) E hO2 (vp_in_nI h100 (by decide)) (by show Value.int (48 + nI ((nI w).toNatClampNeg % 10)) = _; rw [ew]) dJ6_getChars_ba4f3_83 ?_
      refine jp_bast (P' := PB D z B u X Y a n (upd b (q - 1) (sb_b (48 + w % 10))) m1 cnt) E hza (fun H h => h.arr) (vp_in_nI (by omega) (by omega)) (q - 1) (nI_clamp (by omega)) (fun H H1 h oq e => h.bst oq (by rw [d_ones rfl] at e; exact e)) dJ6_getChars_ba4f3_84 ?_
      refine j_iload_n E 1 rfl dJ6_getChars_ba4f3_85 ?_
      refine j_bipush E (-nI 9) bp_m9 dJ6_getChars_ba4f3_86 ?_
      refine j_icmp_ge E 104 (by decide) dJ6_getChars_ba4f3_88 (fun h9 => ?_) (fun h9 => ?_)
      · have h9 : w ≤ 9 := (sb_nle (by decide) hw).mp h9
        have hd : sb_dg w = 1 := if_pos (by omega)
        refine fin _ (hP _ (fun j hj => pk_un (by omega)) (fun i hi => ?_) (fun hf => sb_fitU hf (sb_fitB _))) _ (congrArg nI (by omega))
        obtain rfl : i = 0 := by omega
        rw [Nat.sub_zero, pk_us, Nat.pow_zero, Nat.div_one]
      · have h9 : ¬ w ≤ 9 := fun q => h9 ((sb_nle (by decide) hw).mpr q)
        have hd : sb_dg w = 2 := by rw [sb_dg, if_neg (by omega), if_pos h100]
        have d2 : w / 10 % 10 = w / 10 := by omega
        refine j_aload_n E 2 rfl dJ6_getChars_ba4f3_91 ?_
        refine j_iinc (ls' := [(5, .int (nI (q - 1 - 1))), (0, .int (-nI w)), (2, .ref a), (6, .int 0)]) E 0 rfl (lt_ rfl) (nI (q - 1 - 1)) (dec1 (q - 1) (by omega)) rfl dJ6_getChars_ba4f3_92 ?_
        refine j_iload E 0 rfl dJ6_getChars_ba4f3_95 ?_
        refine j_gets E hT1 fl_J6_87 dJ6_getChars_ba4f3_97 ?_
        refine j_iload_n E 1 rfl dJ6_getChars_ba4f3_100 ?_
        refine j_ineg E dJ6_getChars_ba4f3_101 ?_
        refine j_name (w := nI w) Int32.neg_neg.symm ?_
        refine jp_tb (v := .int (48 + nI (w / 10))) E hT2 (vp_in_nI h100 (by decide)) (by show Value.int (48 + nI ((nI w).toNatClampNeg / 10)) = _; rw [ew]) dJ6_getChars_ba4f3_102 ?_
        refine jp_bast (P' := PB D z B u X Y a n (upd (upd b (q - 1) (sb_b (48 + w % 10))) (q - 1 - 1) (sb_b (48 + w / 10))) m1 cnt) E hza (fun H h => h.arr) (vp_in_nI (by omega) (by omega)) (q - 1 - 1) (nI_clamp (by omega)) (fun H H1 h oq e => h.bst oq (by rw [d_ones rfl] at e; exact e)) dJ6_getChars_ba4f3_103 ?_
        refine fin _ (hP _ (fun j hj => by rw [pk_un (by omega), pk_un (by omega)]) (fun i hi => ?_) (fun hf => sb_fitU (sb_fitU hf (sb_fitB _)) (sb_fitB _))) _ (congrArg nI (by omega))
        obtain rfl | rfl : i = 0 ∨ i = 1 := by omega
        · rw [Nat.sub_zero, pk_un (by omega), pk_us, Nat.pow_zero, Nat.div_one]
        · rw [pk_us, Nat.pow_one, d2]
    · have h100 : ¬ w < 100 := fun q => h ((sb_nlt (by decide) hw).mpr q)
      have hd := sb_dg100 (w := w) (by omega) hw
      have hd2 := (sb_dg_in (w / 100)).1
      have er : (nI (w % 100)).toNatClampNeg = w % 100 := nI_clamp (by omega)
      refine j_iload_n E 0 rfl dJ6_getChars_ba4f3_28 ?_
      refine j_bipush E 100 bp_100 dJ6_getChars_ba4f3_29 ?_
      refine j_idiv E (by decide) dJ6_getChars_ba4f3_31 ?_
      refine j_name (w := -nI (w / 100)) (sb_ndiv hw).symm ?_
      refine j_istore_n (ls' := [(3, .int (-nI (w / 100))), (0, .int (-nI w)), (2, .ref a), (5, .int (nI q)), (6, .int 0)]) E (lt_ rfl) rfl dJ6_getChars_ba4f3_32 ?_
      refine j_iload_n E 0 rfl dJ6_getChars_ba4f3_33 ?_
      refine j_bipush E 100 bp_100 dJ6_getChars_ba4f3_34 ?_
      refine j_imul E dJ6_getChars_ba4f3_36 ?_
      refine j_iload_n E 1 rfl dJ6_getChars_ba4f3_37 ?_
      refine j_isub E dJ6_getChars_ba4f3_38 ?_
      refine j_name (w := nI (w % 100)) (sb_nrem hw).symm ?_
      refine j_istore (ls' := [(4, .int (nI (w % 100))), (3, .int (-nI (w / 100))), (0, .int (-nI w)), (2, .ref a), (5, .int (nI q)), (6, .int 0)]) E (lt_ rfl) rfl dJ6_getChars_ba4f3_39 ?_
      refine j_iload_n E 1 rfl dJ6_getChars_ba4f3_41 ?_
      refine j_istore_n (ls' := [(0, .int (-nI (w / 100))), (4, .int (nI (w % 100))), (3, .int (-nI (w / 100))), (2, .ref a), (5, .int (nI q)), (6, .int 0)]) E (lt_ rfl) rfl dJ6_getChars_ba4f3_42 ?_
      refine j_aload_n E 3 rfl dJ6_getChars_ba4f3_43 ?_
      refine j_iinc (ls' := [(5, .int (nI (q - 1))), (0, .int (-nI (w / 100))), (4, .int (nI (w % 100))), (3, .int (-nI (w / 100))), (2, .ref a), (6, .int 0)]) E 4 rfl (lt_ rfl) (nI (q - 1)) (dec1 q (by omega)) rfl dJ6_getChars_ba4f3_44 ?_
      refine j_iload E 0 rfl dJ6_getChars_ba4f3_47 ?_
      refine j_gets E hO1 fl_J6_83 dJ6_getChars_ba4f3_49 ?_
      refine j_iload E 2 rfl dJ6_getChars_ba4f3_52 ?_
      refine jp_tb (v := .int (48 + nI (w % 10))) E hO2 (vp_in_nI (by omega) (by decide)) (by show Value.int (48 + nI ((nI (w % 100)).toNatClampNeg % 10)) = _; rw [er, show w % 100 % 10 = w % 10 by omega]) dJ6_getChars_ba4f3_54 ?_
      refine jp_bast (P' := PB D z B u X Y a n (upd b (q - 1) (sb_b (48 + w % 10))) m1 cnt) E hza (fun H h => h.arr) (vp_in_nI (by omega) (by omega)) (q - 1) (nI_clamp (by omega)) (fun H H1 h oq e => h.bst oq (by rw [d_ones rfl] at e; exact e)) dJ6_getChars_ba4f3_55 ?_
      refine j_aload_n E 4 rfl dJ6_getChars_ba4f3_56 ?_
      refine j_iinc (ls' := [(5, .int (nI (q - 1 - 1))), (0, .int (-nI (w / 100))), (4, .int (nI (w % 100))), (3, .int (-nI (w / 100))), (2, .ref a), (6, .int 0)]) E 0 rfl (lt_ rfl) (nI (q - 1 - 1)) (dec1 (q - 1) (by omega)) rfl dJ6_getChars_ba4f3_57 ?_
      refine j_iload E 0 rfl dJ6_getChars_ba4f3_60 ?_
      refine j_gets E hT1 fl_J6_87 dJ6_getChars_ba4f3_62 ?_
      refine j_iload E 2 rfl dJ6_getChars_ba4f3_65 ?_
      refine jp_tb (v := .int (48 + nI (w / 10 % 10))) E hT2 (vp_in_nI (by omega) (by decide)) (by show Value.int (48 + nI ((nI (w % 100)).toNatClampNeg / 10)) = _; rw [er, show w % 100 / 10 = w / 10 % 10 by omega]) dJ6_getChars_ba4f3_67 ?_
      refine jp_bast (P' := PB D z B u X Y a n (upd (upd b (q - 1) (sb_b (48 + w % 10))) (q - 1 - 1) (sb_b (48 + w / 10 % 10))) m1 cnt) E hza (fun H h => h.arr) (vp_in_nI (by omega) (by omega)) (q - 1 - 1) (nI_clamp (by omega)) (fun H H1 h oq e => h.bst oq (by rw [d_ones rfl] at e; exact e)) dJ6_getChars_ba4f3_68 ?_
      refine j_goto E 22 (by decide) dJ6_getChars_ba4f3_69 ?_
      refine j_sub [1, 4, 0, 5] rfl ?_
      refine ih (w / 100) (q - 1 - 1) _ (by omega) (by omega) (by omega) (by omega) (fun a' h1 h2 h3 => ?_)
      refine hP a' (fun j hj => by rw [h1 j (by omega), pk_un (by omega), pk_un (by omega)]) (fun i hi => ?_) (fun hf => h3 (sb_fitU (sb_fitU hf (sb_fitB _)) (sb_fitB _)))
      match i, hi with
      | 0, _ => rw [Nat.sub_zero, h1 _ (by omega), pk_un (by omega), pk_us, Nat.pow_zero, Nat.div_one]
      | 1, _ => rw [h1 _ (by omega), pk_us, Nat.pow_one]
      | k + 2, hi =>
        rw [show q - 1 - (k + 2) = q - 1 - 1 - 1 - k by omega, h2 k (by omega), Nat.div_div_eq_div_mul, show 100 * 10 ^ k = 10 ^ (k + 2) by rw [show k + 2 = k + 1 + 1 from rfl, Nat.pow_succ, Nat.pow_succ]; omega]
theorem c_SB_getChars {w t : Nat} (hza : z ≤ a) (hn : n ≤ 65536) (hw : w < 2 ^ 31) (htn : t + sb_dg w ≤ n) : CC l yJ6_getChars_ba4f3 cJ6_getChars_ba4f3 7 (some .int) (rmk 1 0 0) D z [.int (nI w), .int (nI (t + sb_dg w)), .ref a] (PB D z B u X Y a n b m1 cnt) (some (.int (nI t))) (fun H => ∃ b' : Nat → Int32, PB D z B u X Y a n b' m1 cnt H ∧ (∀ j, j < t → b' j = b j) ∧ (∀ i, i < sb_dg w → b' (t + i) = sb_b (sb_dec w i)) ∧ (sb_Fit b → sb_Fit b')) := by
  refine cc_of pn_J6 (le_ rfl) (ls := [(0, .int (nI w)), (1, .int (nI (t + sb_dg w))), (2, .ref a)]) rfl ?_
  intro p e s m args below meth c E
  refine j_iload_n E 1 rfl dJ6_getChars_ba4f3_0 ?_
  refine j_istore (ls' := [(5, .int (nI (t + sb_dg w))), (0, .int (nI w)), (1, .int (nI (t + sb_dg w))), (2, .ref a)]) E (lt_ rfl) rfl dJ6_getChars_ba4f3_1 ?_
  refine j_iload_n E 1 rfl dJ6_getChars_ba4f3_3 ?_
  refine j_if_ge E 11 (by decide) dJ6_getChars_ba4f3_4 (fun _ => ?_) (fun q => absurd (nI_pos' hw) q)
  refine j_iconst E 0 ic_0 dJ6_getChars_ba4f3_11 ?_
  refine j_istore (ls' := [(6, .int 0), (5, .int (nI (t + sb_dg w))), (0, .int (nI w)), (1, .int (nI (t + sb_dg w))), (2, .ref a)]) E (lt_ rfl) rfl dJ6_getChars_ba4f3_12 ?_
  refine j_iload E 0 rfl dJ6_getChars_ba4f3_14 ?_
  refine j_if_ne E 22 (by decide) dJ6_getChars_ba4f3_16 (fun q => absurd rfl q) (fun _ => ?_)
  refine j_iload_n E 2 rfl dJ6_getChars_ba4f3_19 ?_
  refine j_ineg E dJ6_getChars_ba4f3_20 ?_
  refine j_istore_n (ls' := [(0, .int (-nI w)), (6, .int 0), (5, .int (nI (t + sb_dg w))), (1, .int (nI (t + sb_dg w))), (2, .ref a)]) E (lt_ rfl) rfl dJ6_getChars_ba4f3_21 ?_
  refine j_sub [0, 4, 2, 1] rfl ?_
  refine b_SB_getChars E hza hn (w + 1) w _ b (by omega) hw rfl htn (fun b' h1 h2 h3 H h => ⟨b', h, fun j hj => h1 j (Or.inl hj), fun i hi => ?_, h3⟩)
  have h9 := h2 (sb_dg w - 1 - i) (by omega)
  rw [show t + sb_dg w - 1 - (sb_dg w - 1 - i) = t + i by omega] at h9
  exact h9
end SB2

/-! StringBuilder's methods as contracts over the world; printTanks, outputByte -/
section SB3
variable {l : Launch} {D : DD} {z B u : Nat} {X : XT} {Y : YT} {a n : Nat} {b : Nat → Int32} {m1 cnt : Int32} {P P' : Heap → Prop}
theorem c_SB5_int {t w : Nat} (ht : t ≤ n) (hn : n ≤ 65536) (h61 : t + 5 ≤ 600) (hf : sb_Fit b) (hgu : z ≤ u) (hw : w < 100000) : CC l yJ5_append_c97b9 cJ5_append_c97b9 4 (some (.object "java/lang/AbstractStringBuilder")) (rmk 5 1 1200) D z [.ref (u), .int (nI w)] (PB D z B u X Y a n b m1 (nI t)) (some (.ref (u))) (PA D z B u X Y t (sb_dec w) (sb_dg w) b m1) := by
  have hd := sb_dg_in w
  have hd5 : sb_dg w ≤ 5 := by unfold sb_dg; (repeat' split) <;> omega
  refine cc_of pn_J5 (le_ rfl) (ls := [(0, .ref (u)), (1, .int (nI w))]) rfl ?_
  intro p e s m args below meth c E
  refine j_aload_n E 0 rfl dJ5_append_c97b9_0 ?_
  refine jp_get (f := 3) E (fun H h => h.obj) cf_J4 fl_J5_79 (lt_ rfl) rfl rfl dJ5_append_c97b9_1 ?_
  refine j_istore_n (ls' := [(2, .int (nI t)), (0, .ref (u)), (1, .int (nI w))]) E (lt_ rfl) rfl dJ5_append_c97b9_4 ?_
  refine j_iload_n E 0 rfl dJ5_append_c97b9_5 ?_
  refine j_iload_n E 2 rfl dJ5_append_c97b9_6 ?_
  refine j_invT [.int (nI t)] [.int (nI (sb_dg w)), .int (nI t)] E (c_SB_stringSize hw) ml_J5_245 ms_J6_stringSize_0f7a4 rfl ⟨le_ rfl, le_ rfl⟩ rfl rfl (le_ rfl) ⟨le_ rfl, le_ rfl⟩ dJ5_append_c97b9_7 ?_
  refine j_iadd E dJ5_append_c97b9_10 ?_
  refine j_name (w := nI (t + sb_dg w)) (nI_add _ _).symm ?_
  refine j_istore_n (ls' := [(3, .int (nI (t + sb_dg w))), (2, .int (nI t)), (0, .ref (u)), (1, .int (nI w))]) E (lt_ rfl) rfl dJ5_append_c97b9_11 ?_
  refine j_aload_n E 2 rfl dJ5_append_c97b9_12 ?_
  refine j_iload_n E 0 rfl dJ5_append_c97b9_13 ?_
  refine j_invU [] [] E (c_SB_ensure (q := t + sb_dg w) (by omega) hn hf) ml_J5_100 mu_J5_ensureCapacityInternal_d00df (E.2.2.2.2.1 _ wx_0) rfl ⟨le_ rfl, le_ rfl⟩ rcB rfl rfl (le_ rfl) ⟨le_ rfl, le_ rfl⟩ dJ5_append_c97b9_14 ?_
  refine j_ex (fun H h => h) fun x => ?_
  obtain ⟨a', n', b'⟩ := x
  refine j_pre (A := n ≤ n' ∧ t + sb_dg w ≤ n' ∧ n' ≤ 65536 ∧ sb_Fit b' ∧ ∀ i, i < n → b' i = b i) (fun H h => h.2) fun hx => ?_
  obtain ⟨h1, h2, h3, h4, h5⟩ := hx
  refine j_wk (P' := PB D z B u X Y a' n' b' m1 (nI t)) (fun H h => h.1) ?_
  refine j_pre (fun H h => h.ge) fun hza => ?_
  refine j_aload_n E 2 rfl dJ5_append_c97b9_17 ?_
  refine j_invU [] [.int 1] E c_SB_isLatin1 ml_J5_83 mu_J5_isLatin1_aae02 (E.2.2.2.2.1 _ se_J4_J5_isLatin1_aae02) rfl ⟨le_ rfl, le_ rfl⟩ rcB rfl rfl (le_ rfl) ⟨le_ rfl, le_ rfl⟩ dJ5_append_c97b9_18 ?_
  refine j_if_eq E 37 (by decide) dJ5_append_c97b9_21 (fun q => absurd q (by decide)) (fun _ => ?_)
  refine j_iload_n E 3 rfl dJ5_append_c97b9_24 ?_
  refine j_iload_n E 0 rfl dJ5_append_c97b9_25 ?_
  refine j_aload_n E 2 rfl dJ5_append_c97b9_26 ?_
  refine jp_get (f := 0) E (fun H h => h.obj) cf_J4 fl_J5_15 (lt_ rfl) rfl rfl dJ5_append_c97b9_27 ?_
  refine j_invT [] [.int (nI t)] E (c_SB_getChars (w := w) (t := t) hza h3 (by omega) h2) ml_J5_248 ms_J6_getChars_ba4f3 rfl ⟨le_ rfl, le_ rfl⟩ rfl rfl (le_ rfl) ⟨le_ rfl, le_ rfl⟩ dJ5_append_c97b9_30 ?_
  refine j_ex (fun H h => h) fun b2 => ?_
  refine j_pre (A := (∀ j, j < t → b2 j = b' j) ∧ (∀ i, i < sb_dg w → b2 (t + i) = sb_b (sb_dec w i)) ∧ (sb_Fit b' → sb_Fit b2)) (fun H h => h.2) fun hx => ?_
  obtain ⟨g1, g2, g3⟩ := hx
  refine j_wk (P' := PB D z B u X Y a' n' b2 m1 (nI t)) (fun H h => h.1) ?_
  refine j_pop E rfl dJ5_append_c97b9_33 ?_
  refine j_goto E 48 (by decide) dJ5_append_c97b9_34 ?_
  refine j_aload_n E 2 rfl dJ5_append_c97b9_48 ?_
  refine j_iload_n E 0 rfl dJ5_append_c97b9_49 ?_
  refine jp_put (f := 3) (P' := PA D z B u X Y t (sb_dec w) (sb_dg w) b m1) E hgu (fun H h => h.obj) cf_J4 fl_J5_79 (lt_ rfl) ⟨rfl, rfl⟩ ⟨rfl, rfl⟩ (lt_ rfl) (fun H H1 h e1 e2 e3 => ⟨(a', n', b2), h.put ⟨h.1.1, h.1.2.2.1, h.1.2.2.2⟩ h.arr e2 e3, h2, h3, g3 h4, fun j hj => (g1 j hj).trans (h5 j (by omega)), g2⟩) dJ5_append_c97b9_50 ?_
  refine j_aload_n E 2 rfl dJ5_append_c97b9_53 ?_
  exact j_aret E (le_ rfl) (le_ rfl) dJ5_append_c97b9_54
theorem c_SB5_length (hobj : ∀ H, P H → va_at (gD D) cls (u, .inr (13, [.ref a, .int 0, .int m1, .int cnt])) H) : CC l yJ5_length_8abf5 cJ5_length_8abf5 1 (some .int) (rmk 1 0 0) D z [.ref (u)] P (some (.int cnt)) P := by
  refine cc_of pn_J5 (le_ rfl) (ls := [(0, .ref (u))]) rfl ?_
  intro p e s m args below meth c E
  refine j_aload_n E 0 rfl dJ5_length_8abf5_0 ?_
  refine jp_get (f := 3) E hobj cf_J4 fl_J5_79 (lt_ rfl) rfl rfl dJ5_length_8abf5_1 ?_
  exact j_iret E rfl (le_ rfl) (le_ rfl) dJ5_length_8abf5_4

end SB3
