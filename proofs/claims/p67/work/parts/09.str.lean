/-! String.length, charAt over the constants, as the JDK's code -/
theorem getD_mem {L : List Int32} {i : Nat} (h : i < L.length) : L.getD i 0 ∈ L := by
  rw [List.getD_eq_getElem?_getD, List.getElem?_eq_getElem h]
  exact List.getElem_mem h
theorem ms_J1_charAt : MS yJ1_charAt_3b067 cJ1_charAt_3b067 2 (some .char) RJ1 2 := ms_J1_charAt_3b067
theorem c_J0_coder {l : Launch} {D : DD} {z t : Nat} {P : Heap → Prop} (ht : t < 31) : CC l yJ0_coder_7d493 cJ0_coder_7d493 1 (some .byte) (rmk 1 0 0) D z [.ref (D.2.2.2.1 t)] P (some (.int 0))  P := by
  refine cc_of pn_J0 (le_ rfl) (ls := [(0, .ref (D.2.2.2.1 t))]) rfl ?_
  intro p e s m args below meth c E
  refine j_gets E E.2.2.2.2.2.1.Cs fl_J0_38 dJ0_coder_7d493_0 ?_
  refine j_if_eq E 13 (by decide) dJ0_coder_7d493_3 (fun q => absurd q (by decide)) (fun _ => ?_)
  refine j_aload_n E 0 rfl dJ0_coder_7d493_6 ?_
  refine j_getSc E ht fl_J0_15 dJ0_coder_7d493_7 ?_
  refine j_goto E 14 (by decide) dJ0_coder_7d493_10 ?_
  exact j_iret E rfl (le_ rfl) (le_ rfl) dJ0_coder_7d493_14
theorem c_J0_isLatin1 {l : Launch} {D : DD} {z t : Nat} {P : Heap → Prop} (ht : t < 31) : CC l yJ0_isLatin1_aae02 cJ0_isLatin1_aae02 1 (some .boolean) (rmk 1 0 0) D z [.ref (D.2.2.2.1 t)] P (some (.int 1))  P := by
  refine cc_of pn_J0 (le_ rfl) (ls := [(0, .ref (D.2.2.2.1 t))]) rfl ?_
  intro p e s m args below meth c E
  refine j_gets E E.2.2.2.2.2.1.Cs fl_J0_38 dJ0_isLatin1_aae02_0 ?_
  refine j_if_eq E 17 (by decide) dJ0_isLatin1_aae02_3 (fun q => absurd q (by decide)) (fun _ => ?_)
  refine j_aload_n E 0 rfl dJ0_isLatin1_aae02_6 ?_
  refine j_getSc E ht fl_J0_15 dJ0_isLatin1_aae02_7 ?_
  refine j_if_ne E 17 (by decide) dJ0_isLatin1_aae02_10 (fun q => absurd rfl q) (fun _ => ?_)
  refine j_iconst E 1 ic_1 dJ0_isLatin1_aae02_13 ?_
  refine j_goto E 18 (by decide) dJ0_isLatin1_aae02_14 ?_
  exact j_iret E rfl (le_ rfl) (le_ rfl) dJ0_isLatin1_aae02_18
theorem c_slen {l : Launch} {D : DD} {z t : Nat} {P : Heap → Prop} (ht : t < 31) {r : Int32} (hr : nI (strN.getD t 0) >>> ((0 : Int32) &&& 31) = r) : CC l yJ0_length_8abf5 cJ0_length_8abf5 1 (some .int) (rmk 2 0 0) D z [.ref (D.2.2.2.1 t)] P (some (.int r))  P := by
  subst hr
  refine cc_of pn_J0 (le_ rfl) (ls := [(0, .ref (D.2.2.2.1 t))]) rfl ?_
  intro p e s m args below meth c E
  refine j_aload_n E 0 rfl dJ0_length_8abf5_0 ?_
  refine j_getSv E ht fl_J0_9 dJ0_length_8abf5_1 ?_
  refine j_slen E ht rfl dJ0_length_8abf5_4 ?_
  refine j_aload_n E 0 rfl dJ0_length_8abf5_5 ?_
  refine j_invVs [.int (Int32.ofNat (strN.getD t 0))] [.int 0, .int (Int32.ofNat (strN.getD t 0))] E ht (c_J0_coder ht) ml_J0_335 mv_J0_coder_7d493 rfl ⟨le_ rfl, le_ rfl⟩ rfl rfl (le_ rfl) ⟨le_ rfl, le_ rfl⟩ dJ0_length_8abf5_6 ?_
  refine j_ishr E dJ0_length_8abf5_9 ?_
  exact j_iret E rfl (le_ rfl) (le_ rfl) dJ0_length_8abf5_10
theorem c_J3_checkIndex {l : Launch} {D : DD} {z : Nat} {P : Heap → Prop} {i n0 : Int32} {w : Value} (hw : w = .null ∨ ∃ q, w = .ref q) (h1 : ¬ i < 0) (h2 : i < n0) : CC l yJ3_checkIndex_8e157 cJ3_checkIndex_8e157 3 (some .int) (rmk 1 0 0) D z [.int i, .int n0, w] P (some (.int i))  P := by
  have hls : lv_args 0 [.int i, .int n0, w] = [(0, .int i), (1, .int n0), (2, w)] := by rcases hw with rfl | ⟨q, rfl⟩ <;> rfl
  have hsz : (lg_sl [.int i, .int n0, w]).length ≤ 3 := by rcases hw with rfl | ⟨q, rfl⟩ <;> exact le_ rfl
  refine cc_of pn_J3 hsz hls ?_
  intro p e s m args below meth c E
  refine j_iload_n E 0 rfl dJ3_checkIndex_8e157_0 ?_
  refine j_if_lt E 9 (by decide) dJ3_checkIndex_8e157_1 (fun q => absurd q h1) (fun _ => ?_)
  refine j_iload_n E 0 rfl dJ3_checkIndex_8e157_4 ?_
  refine j_iload_n E 1 rfl dJ3_checkIndex_8e157_5 ?_
  refine j_icmp_lt E 16 (by decide) dJ3_checkIndex_8e157_6 (fun _ => ?_) (fun q => absurd h2 q)
  refine j_iload_n E 0 rfl dJ3_checkIndex_8e157_16 ?_
  exact j_iret E rfl (le_ rfl) (le_ rfl) dJ3_checkIndex_8e157_17
theorem c_J0_checkIndex {l : Launch} {D : DD} {z : Nat} {P : Heap → Prop} {i n0 : Int32} (h1 : ¬ i < 0) (h2 : i < n0) : CC l yJ0_checkIndex_df160 cJ0_checkIndex_df160 2 none (rmk 2 0 0) D z [.int i, .int n0] P none P := by
  refine cc_of pn_J0 (le_ rfl) (ls := [(0, .int i), (1, .int n0)]) rfl ?_
  intro p e s m args below meth c E
  have key : ∀ w : Value, (w = .null ∨ ∃ q, w = .ref q) → va_Z "jdk/internal/util/Preconditions" "SIOOBE_FORMATTER" "Ljava/util/function/BiFunction;" w (Az z) s s.heap → J p l e (rmk 2 0 0) s m args below meth c D z P 0 0 (MQ below (QC z none P) args s (rmk 2 0 0).cells (rmk 2 0 0).slots (Az z)) 2 0 [(0, .int i), (1, .int n0)] [] := by
    intro w hw hZ
    refine j_iload_n E 0 rfl dJ0_checkIndex_df160_0 ?_
    refine j_iload_n E 1 rfl dJ0_checkIndex_df160_1 ?_
    refine j_gets E hZ fl_J0_1053 dJ0_checkIndex_df160_2 ?_
    refine j_invT [] [.int i] E (c_J3_checkIndex hw h1 h2) ml_J0_1059 ms_J3_checkIndex_8e157 rfl ⟨le_ rfl, le_ rfl⟩ rfl rfl (le_ rfl) ⟨le_ rfl, le_ rfl⟩ dJ0_checkIndex_df160_5 ?_
    refine j_pop E rfl dJ0_checkIndex_df160_8 ?_
    exact j_vret E (le_ rfl) (le_ rfl) dJ0_checkIndex_df160_9
  rcases E.2.2.2.2.2.1.Pf with h | ⟨q, h⟩
  · exact key _ (Or.inl rfl) h
  · exact key _ (Or.inr ⟨q, rfl⟩) h
theorem c_J1_charAt {l : Launch} {D : DD} {z t : Nat} {P : Heap → Prop} {i : Int32} (ht : t < 31) (hin : vp_in i (strN.getD t 0)) (h2 : i < Int32.ofNat (strN.getD t 0)) (hc : ∀ v ∈ strB.getD t [], (((v &&& 255).toUInt32 % 65536).toInt32) = v ∧ narrow .char (.int v) = .int v) (hlen : (strB.getD t []).length = strN.getD t 0) : CC l yJ1_charAt_3b067 cJ1_charAt_3b067 2 (some .char) (rmk 3 0 0) D z [.ref (D.2.2.2.2.1 t), .int i] P (some (.int ((strB.getD t []).getD i.toNatClampNeg 0)))  P := by
  have hm : (strB.getD t []).getD i.toNatClampNeg 0 ∈ strB.getD t [] := by
    have hlt : i.toNatClampNeg < (strB.getD t []).length := by rw [hlen]; exact in_cl hin
    exact getD_mem hlt
  have hv := hc _ hm
  refine cc_of pn_J1 (le_ rfl) (ls := [(0, .ref (D.2.2.2.2.1 t)), (1, .int i)]) rfl ?_
  intro p e s m args below meth c E
  refine j_iload_n E 1 rfl dJ1_charAt_3b067_0 ?_
  refine j_aload_n E 0 rfl dJ1_charAt_3b067_1 ?_
  refine j_slen E ht rfl dJ1_charAt_3b067_2 ?_
  refine j_invT [] [] E (c_J0_checkIndex (fun q => hin (Or.inl q)) h2) ml_J1_9 ms_J0_checkIndex_df160 rfl ⟨le_ rfl, le_ rfl⟩ rfl rfl (le_ rfl) ⟨le_ rfl, le_ rfl⟩ dJ1_charAt_3b067_3 ?_
  refine j_aload_n E 0 rfl dJ1_charAt_3b067_6 ?_
  refine j_iload_n E 1 rfl dJ1_charAt_3b067_7 ?_
  refine j_sbald E ht hin dJ1_charAt_3b067_8 ?_
  refine j_sipush E 255 sp_255 dJ1_charAt_3b067_9 ?_
  refine j_iand E dJ1_charAt_3b067_12 ?_
  refine j_i2c E dJ1_charAt_3b067_13 ?_
  rw [hv.1]
  exact j_iret E hv.2 (le_ rfl) (le_ rfl) dJ1_charAt_3b067_14
theorem str_ok : ∀ t, t < 31 → (∀ v ∈ strB.getD t [], (((v &&& 255).toUInt32 % 65536).toInt32) = v ∧ narrow .char (.int v) = .int v) ∧ (strB.getD t []).length = strN.getD t 0 ∧ strN.getD t 0 < 600 := by decide +kernel
theorem c_schar {l : Launch} {D : DD} {z t : Nat} {P : Heap → Prop} {i : Int32} (ht : t < 31) (hin : vp_in i (strN.getD t 0)) : CC l yJ0_charAt_5068e cJ0_charAt_5068e 2 (some .char) (rmk 4 0 0) D z [.ref (D.2.2.2.1 t), .int i] P (some (.int ((strB.getD t []).getD i.toNatClampNeg 0)))  P := by
  obtain ⟨k1, k2, k3⟩ := str_ok t ht
  have h2 : i < Int32.ofNat (strN.getD t 0) := by
    obtain ⟨j, hj, rfl⟩ := vp_in_of hin (by omega)
    exact nI_lt hj (by omega)
  refine cc_of pn_J0 (le_ rfl) (ls := [(0, .ref (D.2.2.2.1 t)), (1, .int i)]) rfl ?_
  intro p e s m args below meth c E
  refine j_aload_n E 0 rfl dJ0_charAt_5068e_0 ?_
  refine j_invVs [] [.int 1] E ht (c_J0_isLatin1 ht) ml_J0_492 mv_J0_isLatin1_aae02 rfl ⟨le_ rfl, le_ rfl⟩ rfl rfl (le_ rfl) ⟨le_ rfl, le_ rfl⟩ dJ0_charAt_5068e_1 ?_
  refine j_if_eq E 16 (by decide) dJ0_charAt_5068e_4 (fun q => absurd q (by decide)) (fun _ => ?_)
  refine j_aload_n E 0 rfl dJ0_charAt_5068e_7 ?_
  refine j_getSv E ht fl_J0_9 dJ0_charAt_5068e_8 ?_
  refine j_iload_n E 1 rfl dJ0_charAt_5068e_11 ?_
  refine j_invT [] [.int ((strB.getD t []).getD i.toNatClampNeg 0)] E (c_J1_charAt ht hin h2 k1 k2) ml_J0_495 ms_J1_charAt_3b067 rfl ⟨le_ rfl, le_ rfl⟩ rfl rfl (le_ rfl) ⟨le_ rfl, le_ rfl⟩ dJ0_charAt_5068e_12 ?_
  exact j_iret E (k1 _ (by
    have hlt : i.toNatClampNeg < (strB.getD t []).length := by rw [k2]; exact in_cl hin
    exact getD_mem hlt)).2 (le_ rfl) (le_ rfl) dJ0_charAt_5068e_15
def slen (t : Nat) : Int32 := nI (strN.getD t 0) >>> ((0 : Int32) &&& 31)
def sch (t i : Nat) : Int32 := (strB.getD t []).getD i 0
