/-! THE LAW: its loop -/
def tgts : List Nat := [312, 416, 472, 485, 498, 511, 524, 537, 550, 563, 576, 589, 645, 713, 781, 794, 850, 863, 919, 975, 1031, 1087, 1143, 1156, 1212, 1268, 1324, 1380, 1436, 1492, 1548, 1611, 1674, 1730, 1786, 1842, 1910, 1966, 2046, 2126, 2182, 2238, 2294, 2307, 2363, 2376, 2389, 2402, 2415, 2428, 2441, 2484, 2525, 2605, 2685, 2753, 2833, 2889, 2945, 3013, 3069, 3125, 3169, 3182]
set_option maxRecDepth 20000 in
theorem sw_off : ∀ j, j < 64 → ∃ off : Int, (#[272, 376, 432, 445, 458, 471, 484, 497, 510, 523, 536, 549, 605, 673, 741, 754, 810, 823, 879, 935, 991, 1047, 1103, 1116, 1172, 1228, 1284, 1340, 1396, 1452, 1508, 1571, 1634, 1690, 1746, 1802, 1870, 1926, 2006, 2086, 2142, 2198, 2254, 2267, 2323, 2336, 2349, 2362, 2375, 2388, 2401, 2444, 2485, 2565, 2645, 2713, 2793, 2849, 2905, 2973, 3029, 3085, 3129, 3142] : Array Int)[j]? = some off ∧ (40 : Int) + off = (tgts.getD j 0 : Nat) := by decide +kernel
section LOOP
variable {p : Program} {l : Launch} {e : Env} {s : State} {m : MethodId} {below : List Frame} {meth : Method} {c : Code} {D : DD} {z b L : Nat} {xs : Nat → Int32}
set_option maxRecDepth 20000 in
theorem law_loop (hl : l.stackTraces = false) (E : Cx p s m #[Value.ref b] meth c D z RL cL_law 9 (some .boolean)) (C : LC s z b L xs) (hz : s.heap.size ≤ z) : ∀ d t k n (X : XT) (M : MT) (o : Int64), t + d = 513 → 6 * t ≤ L → k ≤ 538 + 100 * t → n ≤ 8000 + 10000 * t → RR X M → J p l e room_1 s m #[Value.ref b] below meth c D z (GG D z (X, (2, M, o))) k n (lw_Z below #[Value.ref b] s) 9 23 (lsL b z (6 * t)) [] := by
  have hL := C.2.2.2
  intro d
  induction d with
  | zero => intro t k n X M o h1 h2; omega
  | succ d ih =>
    intro t k n X M o h1 h2 hk hn hr
    refine j_iload E 0 rfl dL_law_23 ?_
    refine j_aload_n E 4 rfl dL_law_25 ?_
    refine j_xlen E C dL_law_26 ?_
    refine j_bipush E (nI 6) rfl dL_law_27 ?_
    refine j_isub E dL_law_29 ?_
    have e6 : (nI L - nI 6).toInt = (L : Int) - 6 := pk_sub_toInt (by omega) (by decide)
    have ei : (nI (6 * t)).toInt = ((6 * t : Nat) : Int) := nI_toInt (by omega)
    refine j_icmp_gt E 3244 (by decide) dL_law_30 (fun c1 => ?_) (fun c1 => ?_)
    · intro H locs la hG hS hL'
      refine lv_iconst (v := 1) E.1 E.2.1 dL_law_3244 (by decide) ?_
      refine va_forget (fun q hq => Nat.le_trans hz (hS.2.2 q hq)) ?_
      have q1 : k ≤ 601024 := by rw [Int32.lt_iff_toInt_lt, e6, ei] at c1; omega
      have q2 : n ≤ 7293034 := by rw [Int32.lt_iff_toInt_lt, e6, ei] at c1; omega
      refine W.widen q1 q2 ?_
      exact lw_ret (d0 := s.drawn) (Drawn.sameBut.refl s.drawn lw_cs) E.1 E.2.1 E.2.2.2.2.2.2.1 E.2.2.2.2.2.2.2.1 dL_law_3245
    · rw [Int32.lt_iff_toInt_lt, e6, ei] at c1
      have hi : 6 * t + 6 ≤ L := by omega
      refine j_aload_n E 4 rfl dL_law_33 ?_
      refine j_iload E 0 rfl dL_law_34 ?_
      refine j_sld E C (by omega) dL_law_36 ?_
      refine j_bipush E (nI 63) rfl dL_law_37 ?_
      refine j_iand E dL_law_39 ?_
      have h63 : xs (6 * t) &&& nI 63 = nI ((xs (6 * t)).toBitVec.toNat % 2 ^ 6) := pk_and _ 6 (by decide)
      have hj : (xs (6 * t)).toBitVec.toNat % 2 ^ 6 < 64 := Nat.mod_lt _ (by decide)
      refine j_name h63.symm ?_
      generalize (xs (6 * t)).toBitVec.toNat % 2 ^ 6 = j at hj
      have hk' : k + 100 ≤ 601024 := by omega
      have hn' : n + 10000 ≤ 7293034 := by omega
      have g1 : t + 1 + d = 513 := by omega
      have g2 : 6 * (t + 1) ≤ L := by omega
      have g3 : k + 100 ≤ 538 + 100 * (t + 1) := by omega
      have g4 : n + 10000 ≤ 8000 + 10000 * (t + 1) := by
        have := Nat.add_le_add_right hn 10000
        rw [Nat.mul_add, Nat.mul_one, ← Nat.add_assoc]
        exact this
      have back : ∀ X' M' o', RR X' M' → J p l e room_1 s m #[Value.ref b] below meth c D z (GG D z (X', (2, M', o'))) (k + 100) (n + 10000) (lw_Z below #[Value.ref b] s) 9 3238 (lsL b z (6 * t)) [] := by
        intro X' M' o' hr'
        refine j_iinc (ls' := lsL b z (6 * (t + 1))) E 0 rfl (lt_ rfl) (nI (6 * (t + 1))) ?_ rfl dL_law_3238 ?_
        · rw [show Int32.ofInt 6 = nI 6 from rfl, nI_add]
          exact congrArg nI (by omega)
        · refine j_goto E 23 (by decide) dL_law_3241 ?_
          exact ih (t + 1) (k + 100) (n + 10000) X' M' o' g1 g2 g3 g4 hr'
      have key : J p l e room_1 s m #[Value.ref b] below meth c D z (GG D z (X, (2, M, o))) k n (lw_Z below #[Value.ref b] s) 9 (tgts.getD j 0) (lsL b z (6 * t)) [] := by
        match j, hj with
        | 0, _ => exact la_append hl E C hi hk' hn' hr back
        | 1, _ => exact la_truncate hl E C hi hk' hn' hr back
        | 2, _ => exact la_load hl E C hi hk' hn' hr back
        | 3, _ => exact la_errorCode hl E C hi hk' hn' hr back
        | 4, _ => exact la_errorOffset hl E C hi hk' hn' hr back
        | 5, _ => exact la_varietyCount hl E C hi hk' hn' hr back
        | 6, _ => exact la_classCount hl E C hi hk' hn' hr back
        | 7, _ => exact la_growerCount hl E C hi hk' hn' hr back
        | 8, _ => exact la_plotCount hl E C hi hk' hn' hr back
        | 9, _ => exact la_loadCount hl E C hi hk' hn' hr back
        | 10, _ => exact la_lotCount hl E C hi hk' hn' hr back
        | 11, _ => exact la_classBySugar hl E C hi hk' hn' hr back
        | 12, _ => exact la_price hl E C hi hk' hn' hr back
        | 13, _ => exact la_weightOfClass hl E C hi hk' hn' hr back
        | 14, _ => exact la_deliveredClasses hl E C hi hk' hn' hr back
        | 15, _ => exact la_classInOrder hl E C hi hk' hn' hr back
        | 16, _ => exact la_greatestClass hl E C hi hk' hn' hr back
        | 17, _ => exact la_plotsOf hl E C hi hk' hn' hr back
        | 18, _ => exact la_weightOf hl E C hi hk' hn' hr back
        | 19, _ => exact la_owed hl E C hi hk' hn' hr back
        | 20, _ => exact la_paidTo hl E C hi hk' hn' hr back
        | 21, _ => exact la_varietiesOf hl E C hi hk' hn' hr back
        | 22, _ => exact la_greatestGrower hl E C hi hk' hn' hr back
        | 23, _ => exact la_yieldLimit hl E C hi hk' hn' hr back
        | 24, _ => exact la_harvested hl E C hi hk' hn' hr back
        | 25, _ => exact la_yieldLeft hl E C hi hk' hn' hr back
        | 26, _ => exact la_plotOfLoad hl E C hi hk' hn' hr back
        | 27, _ => exact la_classOfLoad hl E C hi hk' hn' hr back
        | 28, _ => exact la_tankOfLoad hl E C hi hk' hn' hr back
        | 29, _ => exact la_valueOf hl E C hi hk' hn' hr back
        | 30, _ => exact la_isPaid hl E C hi hk' hn' hr back
        | 31, _ => exact la_isLowered hl E C hi hk' hn' hr back
        | 32, _ => exact la_content hl E C hi hk' hn' hr back
        | 33, _ => exact la_varietyIn hl E C hi hk' hn' hr back
        | 34, _ => exact la_meanSugar hl E C hi hk' hn' hr back
        | 35, _ => exact la_tankFor hl E C hi hk' hn' hr back
        | 36, _ => exact la_greatestLoad hl E C hi hk' hn' hr back
        | 37, _ => exact la_refusal hl E C hi hk' hn' hr back
        | 38, _ => exact la_valueIfDelivered hl E C hi hk' hn' hr back
        | 39, _ => exact la_lotVariety hl E C hi hk' hn' hr back
        | 40, _ => exact la_lotSugar hl E C hi hk' hn' hr back
        | 41, _ => exact la_unsold hl E C hi hk' hn' hr back
        | 42, _ => exact la_sweetestLot hl E C hi hk' hn' hr back
        | 43, _ => exact la_bottlesOf hl E C hi hk' hn' hr back
        | 44, _ => exact la_missingCash hl E C hi hk' hn' hr back
        | 45, _ => exact la_cash hl E C hi hk' hn' hr back
        | 46, _ => exact la_owedToAll hl E C hi hk' hn' hr back
        | 47, _ => exact la_payableGrowers hl E C hi hk' hn' hr back
        | 48, _ => exact la_bottleDifference hl E C hi hk' hn' hr back
        | 49, _ => exact la_cashDifference hl E C hi hk' hn' hr back
        | 50, _ => exact la_fullness hl E C hi hk' hn' hr back
        | 51, _ => exact la_averageSugar hl E C hi hk' hn' hr back
        | 52, _ => exact la_deliver hl E C hi hk' hn' hr back
        | 53, _ => exact la_setPrice hl E C hi hk' hn' hr back
        | 54, _ => exact la_bottle hl E C hi hk' hn' hr back
        | 55, _ => exact la_sell hl E C hi hk' hn' hr back
        | 56, _ => exact la_payLoad hl E C hi hk' hn' hr back
        | 57, _ => exact la_payGrower hl E C hi hk' hn' hr back
        | 58, _ => exact la_pump hl E C hi hk' hn' hr back
        | 59, _ => exact la_save hl E C hi hk' hn' hr back
        | 60, _ => exact la_restore hl E C hi hk' hn' hr back
        | 61, _ => exact la_undo hl E C hi hk' hn' hr back
        | 62, _ => exact la_printTanks hl E C hi hk' hn' hr back
        | 63, _ => exact la_outputByte hl E C hi hk' hn' hr back
        | j + 64, hj => omega
      obtain ⟨off, o1, o2⟩ := sw_off j hj
      intro H locs la hG hS hL'
      have ej : (nI j).toInt = (j : Int) := nI_toInt (by omega)
      refine lv_tableIn E.1 E.2.1 dL_law_40 (off := off) (by rw [ej]; omega) (by rw [ej]; omega) ?_ o2 (key H locs la hG hS hL')
      rw [ej, show ((j : Int) - 0).toNat = j by omega]
      exact o1
end LOOP
