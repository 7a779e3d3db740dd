/-! THE LAW: its cases, 2 -/
set_option maxRecDepth 20000 in
theorem lb_content {p : Program} {l : Launch} {e : Env} {s : State} {m : MethodId} {args : Array Value} {below : List Frame} {meth : Method} {c : Code} {D : DD} {z : Nat} {k n : Nat} {Q : State → Prop} {b L i : Nat} {xs : Nat → Int32} {X : XT} {M : MT} {o : Int64} (E : Cx p s m args meth c D z RL cL_law 9 (some .boolean)) (C : LC s z b L xs) (hi : i + 6 ≤ L) (hk : k + 100 ≤ 601024) (hn : n + 10000 ≤ 7293034) {d q1 q2 : Nat} {kk r : Int32} {o' : Int64} {X' : XT} {M' : MT} (hrw : d + 1 ≤ 2048) (hrl : d ≤ 1000) (hrc : q1 ≤ 64) (hrs : q2 ≤ 8000) (hW : CW l yL_content cL_content 4 (some .int) [(0, 9, 12, 28)] (rmk d q1 q2) D z [.ref (z + aX 0 0 0), .int (xs (i + 1)), .ref (z + 537)] (GG D z (X, (2, M, o))) (some (.int kk)) (GG D z (X', (2, M, o')))) (hM : CC l yX12_content cX12_content 2 (some .int) (rmk 3 0 0) D z [.ref (z + aM 0), .int (xs (i + 1))] (GG D z (X', (2, M, o'))) (some (.int r)) (GG D z (X', (2, M', o')))) (hT : f_X12_thrown M' = some kk) (hres : kk = 0 → o' = r.toInt64) (h : J p l e room_1 s m args below meth c D z (GG D z (X', (2, M', o'))) (k + 100) (n + 10000) Q 9 3238 (lsL b z i) []) : J p l e room_1 s m args below meth c D z (GG D z (X, (2, M, o))) k n Q 9 1674 (lsL b z i) [] := by
  refine j_aload_n E 3 rfl dL_law_1674 ?_
  refine j_aload_n E 4 rfl dL_law_1675 ?_
  refine j_iload E 0 rfl dL_law_1676 ?_
  refine j_iconst E (nI 1) rfl dL_law_1678 ?_
  refine j_iadd E dL_law_1679 ?_
  refine j_name (nI_add i 1).symm ?_
  refine j_sld E C (by omega) dL_law_1680 ?_
  refine j_aload_n E 1 rfl dL_law_1681 ?_
  refine j_invW (n0 := 3) [] [.int kk] E hW ml_L_269 st_L_content in_L cd_L_content rfl (by decide +kernel) rfl ⟨hrw, by show 8 + (_ + 11) + 64 * d ≤ 84000; omega⟩ rfl rfl (le_ rfl) ⟨by show k + q1 ≤ 601024; omega, by show n + q2 ≤ 7293034; omega⟩ dL_law_1682 ?_
  refine j_istore (ls' := (5, .int kk) :: lsL b z i) E (lt_ rfl) rfl dL_law_1685 ?_
  refine j_aload_n E 3 rfl dL_law_1687 ?_
  refine j_aload_n E 5 rfl dL_law_1688 ?_
  refine j_iload E 1 rfl dL_law_1689 ?_
  refine j_iconst E (nI 1) rfl dL_law_1691 ?_
  refine j_iadd E dL_law_1692 ?_
  refine j_name (nI_add i 1).symm ?_
  refine j_sld E C (by omega) dL_law_1693 ?_
  refine j_invV [] [.int r] E hM ml_L_271 mv_X12_content rfl ⟨le_ rfl, le_ rfl⟩ (rcM (f1 := 1) cf_X12) rfl rfl (le_ rfl) ⟨by show k + q1 + 0 ≤ 601024; omega, by show n + q2 + 0 ≤ 7293034; omega⟩ dL_law_1694 ?_
  refine j_istore (ls' := (6, .int r) :: (5, .int kk) :: lsL b z i) E (lt_ rfl) rfl dL_law_1697 ?_
  refine j_aload_n E 4 rfl dL_law_1699 ?_
  refine j_invV [] [.int kk] E (c_X12_thrown (f1 := 1) hT) ml_L_159 mv_X12_thrown rfl ⟨le_ rfl, le_ rfl⟩ (rcM (f1 := 1) cf_X12) rfl rfl (le_ rfl) ⟨by show k + q1 + 0 + 0 ≤ 601024; omega, by show n + q2 + 0 + 0 ≤ 7293034; omega⟩ dL_law_1700 ?_
  refine j_iload E 1 rfl dL_law_1703 ?_
  refine j_icmp_eq E 1710 (by decide) dL_law_1705 (fun _ => ?_) (fun q => absurd rfl q)
  have fin : J p l e room_1 s m args below meth c D z (GG D z (X', (2, M', o'))) (k + 100) (n + 10000) Q 9 3238 ((6, .int r) :: (5, .int kk) :: lsL b z i) [] := j_sub (ls' := lsL b z i) [2, 3, 4, 5, 6] rfl h
  refine j_iload E 1 rfl dL_law_1710 ?_
  refine j_if_ne E 1727 (by decide) dL_law_1712 (fun _ => ?_) (fun q0 => ?_)
  · refine j_goto E 3238 (by decide) dL_law_1727 ?_
    exact j_widen (by show k + q1 + 0 + 0 ≤ k + 100; omega) (by show n + q2 + 0 + 0 ≤ n + 10000; omega) fin
  · refine j_aload_n E 3 rfl dL_law_1715 ?_
    refine j_iconst E 0 ic_0 dL_law_1716 ?_
    refine j_laldO (f1 := 0) E dL_law_1717 ?_
    refine j_iload E 0 rfl dL_law_1718 ?_
    refine j_i2l E dL_law_1720 ?_
    refine j_lcmp E dL_law_1721 ?_
    refine j_if_eq E 1727 (by decide) dL_law_1722 (fun _ => ?_) (fun q => absurd ((cmp_eq _ _).mpr (hres q0)) q)
    refine j_goto E 3238 (by decide) dL_law_1727 ?_
    exact j_widen (by show k + q1 + 0 + 0 ≤ k + 100; omega) (by show n + q2 + 0 + 0 ≤ n + 10000; omega) fin
set_option maxRecDepth 20000 in
theorem la_content {p : Program} {l : Launch} {e : Env} {s : State} {m : MethodId} {args : Array Value} {below : List Frame} {meth : Method} {c : Code} {D : DD} {z : Nat} {k n : Nat} {Q : State → Prop} {b L i : Nat} {xs : Nat → Int32} {X : XT} {M : MT} {o : Int64} (hl : l.stackTraces = false) (E : Cx p s m args meth c D z RL cL_law 9 (some .boolean)) (C : LC s z b L xs) (hi : i + 6 ≤ L) (hk : k + 100 ≤ 601024) (hn : n + 10000 ≤ 7293034) (hr : RR X M) (h : ∀ X' M' o', RR X' M' → J p l e room_1 s m args below meth c D z (GG D z (X', (2, M', o'))) (k + 100) (n + 10000) Q 9 3238 (lsL b z i) []) : J p l e room_1 s m args below meth c D z (GG D z (X, (2, M, o))) k n Q 9 1674 (lsL b z i) [] := by
  rcases s_content hr (xs (i + 1)) with ⟨r, a1, a2⟩ | ⟨e, k', r, hm, a1, a2⟩
  · exact lb_content E C hi hk hn (by decide) (by decide) (by decide) (by decide) (w_content (f1 := 0) a1) (c_X12_content (f1 := 1) a2) (by unfold f_X12_thrown; rw [mi00]) (fun _ => rfl) (h X _ _ (hr.thr 0))
  · simp only [List.mem_cons, List.not_mem_nil, or_false, Prod.mk.injEq] at hm
    obtain ⟨rfl, rfl⟩ := hm
    exact lb_content E C hi hk hn (by decide) (by decide) (by decide) (by decide) (wx_content_2 (f1 := 0) hl a1) (c_X12_content (f1 := 1) a2) (by unfold f_X12_thrown; rw [mi00]) (fun q => absurd q (by decide)) (h X _ _ (hr.thr 1))
set_option maxRecDepth 20000 in
theorem lb_varietyIn {p : Program} {l : Launch} {e : Env} {s : State} {m : MethodId} {args : Array Value} {below : List Frame} {meth : Method} {c : Code} {D : DD} {z : Nat} {k n : Nat} {Q : State → Prop} {b L i : Nat} {xs : Nat → Int32} {X : XT} {M : MT} {o : Int64} (E : Cx p s m args meth c D z RL cL_law 9 (some .boolean)) (C : LC s z b L xs) (hi : i + 6 ≤ L) (hk : k + 100 ≤ 601024) (hn : n + 10000 ≤ 7293034) {d q1 q2 : Nat} {kk r : Int32} {o' : Int64} {X' : XT} {M' : MT} (hrw : d + 1 ≤ 2048) (hrl : d ≤ 1000) (hrc : q1 ≤ 64) (hrs : q2 ≤ 8000) (hW : CW l yL_varietyIn cL_varietyIn 4 (some .int) [(0, 9, 12, 28)] (rmk d q1 q2) D z [.ref (z + aX 0 0 0), .int (xs (i + 1)), .ref (z + 537)] (GG D z (X, (2, M, o))) (some (.int kk)) (GG D z (X', (2, M, o')))) (hM : CC l yX12_varietyIn cX12_varietyIn 2 (some .int) (rmk 3 0 0) D z [.ref (z + aM 0), .int (xs (i + 1))] (GG D z (X', (2, M, o'))) (some (.int r)) (GG D z (X', (2, M', o')))) (hT : f_X12_thrown M' = some kk) (hres : kk = 0 → o' = r.toInt64) (h : J p l e room_1 s m args below meth c D z (GG D z (X', (2, M', o'))) (k + 100) (n + 10000) Q 9 3238 (lsL b z i) []) : J p l e room_1 s m args below meth c D z (GG D z (X, (2, M, o))) k n Q 9 1730 (lsL b z i) [] := by
  refine j_aload_n E 3 rfl dL_law_1730 ?_
  refine j_aload_n E 4 rfl dL_law_1731 ?_
  refine j_iload E 0 rfl dL_law_1732 ?_
  refine j_iconst E (nI 1) rfl dL_law_1734 ?_
  refine j_iadd E dL_law_1735 ?_
  refine j_name (nI_add i 1).symm ?_
  refine j_sld E C (by omega) dL_law_1736 ?_
  refine j_aload_n E 1 rfl dL_law_1737 ?_
  refine j_invW (n0 := 3) [] [.int kk] E hW ml_L_272 st_L_varietyIn in_L cd_L_varietyIn rfl (by decide +kernel) rfl ⟨hrw, by show 8 + (_ + 11) + 64 * d ≤ 84000; omega⟩ rfl rfl (le_ rfl) ⟨by show k + q1 ≤ 601024; omega, by show n + q2 ≤ 7293034; omega⟩ dL_law_1738 ?_
  refine j_istore (ls' := (5, .int kk) :: lsL b z i) E (lt_ rfl) rfl dL_law_1741 ?_
  refine j_aload_n E 3 rfl dL_law_1743 ?_
  refine j_aload_n E 5 rfl dL_law_1744 ?_
  refine j_iload E 1 rfl dL_law_1745 ?_
  refine j_iconst E (nI 1) rfl dL_law_1747 ?_
  refine j_iadd E dL_law_1748 ?_
  refine j_name (nI_add i 1).symm ?_
  refine j_sld E C (by omega) dL_law_1749 ?_
  refine j_invV [] [.int r] E hM ml_L_274 mv_X12_varietyIn rfl ⟨le_ rfl, le_ rfl⟩ (rcM (f1 := 1) cf_X12) rfl rfl (le_ rfl) ⟨by show k + q1 + 0 ≤ 601024; omega, by show n + q2 + 0 ≤ 7293034; omega⟩ dL_law_1750 ?_
  refine j_istore (ls' := (6, .int r) :: (5, .int kk) :: lsL b z i) E (lt_ rfl) rfl dL_law_1753 ?_
  refine j_aload_n E 4 rfl dL_law_1755 ?_
  refine j_invV [] [.int kk] E (c_X12_thrown (f1 := 1) hT) ml_L_159 mv_X12_thrown rfl ⟨le_ rfl, le_ rfl⟩ (rcM (f1 := 1) cf_X12) rfl rfl (le_ rfl) ⟨by show k + q1 + 0 + 0 ≤ 601024; omega, by show n + q2 + 0 + 0 ≤ 7293034; omega⟩ dL_law_1756 ?_
  refine j_iload E 1 rfl dL_law_1759 ?_
  refine j_icmp_eq E 1766 (by decide) dL_law_1761 (fun _ => ?_) (fun q => absurd rfl q)
  have fin : J p l e room_1 s m args below meth c D z (GG D z (X', (2, M', o'))) (k + 100) (n + 10000) Q 9 3238 ((6, .int r) :: (5, .int kk) :: lsL b z i) [] := j_sub (ls' := lsL b z i) [2, 3, 4, 5, 6] rfl h
  refine j_iload E 1 rfl dL_law_1766 ?_
  refine j_if_ne E 1783 (by decide) dL_law_1768 (fun _ => ?_) (fun q0 => ?_)
  · refine j_goto E 3238 (by decide) dL_law_1783 ?_
    exact j_widen (by show k + q1 + 0 + 0 ≤ k + 100; omega) (by show n + q2 + 0 + 0 ≤ n + 10000; omega) fin
  · refine j_aload_n E 3 rfl dL_law_1771 ?_
    refine j_iconst E 0 ic_0 dL_law_1772 ?_
    refine j_laldO (f1 := 0) E dL_law_1773 ?_
    refine j_iload E 0 rfl dL_law_1774 ?_
    refine j_i2l E dL_law_1776 ?_
    refine j_lcmp E dL_law_1777 ?_
    refine j_if_eq E 1783 (by decide) dL_law_1778 (fun _ => ?_) (fun q => absurd ((cmp_eq _ _).mpr (hres q0)) q)
    refine j_goto E 3238 (by decide) dL_law_1783 ?_
    exact j_widen (by show k + q1 + 0 + 0 ≤ k + 100; omega) (by show n + q2 + 0 + 0 ≤ n + 10000; omega) fin
set_option maxRecDepth 20000 in
theorem la_varietyIn {p : Program} {l : Launch} {e : Env} {s : State} {m : MethodId} {args : Array Value} {below : List Frame} {meth : Method} {c : Code} {D : DD} {z : Nat} {k n : Nat} {Q : State → Prop} {b L i : Nat} {xs : Nat → Int32} {X : XT} {M : MT} {o : Int64} (hl : l.stackTraces = false) (E : Cx p s m args meth c D z RL cL_law 9 (some .boolean)) (C : LC s z b L xs) (hi : i + 6 ≤ L) (hk : k + 100 ≤ 601024) (hn : n + 10000 ≤ 7293034) (hr : RR X M) (h : ∀ X' M' o', RR X' M' → J p l e room_1 s m args below meth c D z (GG D z (X', (2, M', o'))) (k + 100) (n + 10000) Q 9 3238 (lsL b z i) []) : J p l e room_1 s m args below meth c D z (GG D z (X, (2, M, o))) k n Q 9 1730 (lsL b z i) [] := by
  rcases s_varietyIn hr (xs (i + 1)) with ⟨r, a1, a2⟩ | ⟨e, k', r, hm, a1, a2⟩
  · exact lb_varietyIn E C hi hk hn (by decide) (by decide) (by decide) (by decide) (w_varietyIn (f1 := 0) a1) (c_X12_varietyIn (f1 := 1) a2) (by unfold f_X12_thrown; rw [mi00]) (fun _ => rfl) (h X _ _ (hr.thr 0))
  · simp only [List.mem_cons, List.not_mem_nil, or_false, Prod.mk.injEq] at hm
    obtain ⟨rfl, rfl⟩ := hm
    exact lb_varietyIn E C hi hk hn (by decide) (by decide) (by decide) (by decide) (wx_varietyIn_2 (f1 := 0) hl a1) (c_X12_varietyIn (f1 := 1) a2) (by unfold f_X12_thrown; rw [mi00]) (fun q => absurd q (by decide)) (h X _ _ (hr.thr 1))
set_option maxRecDepth 20000 in
theorem lb_meanSugar {p : Program} {l : Launch} {e : Env} {s : State} {m : MethodId} {args : Array Value} {below : List Frame} {meth : Method} {c : Code} {D : DD} {z : Nat} {k n : Nat} {Q : State → Prop} {b L i : Nat} {xs : Nat → Int32} {X : XT} {M : MT} {o : Int64} (E : Cx p s m args meth c D z RL cL_law 9 (some .boolean)) (C : LC s z b L xs) (hi : i + 6 ≤ L) (hk : k + 100 ≤ 601024) (hn : n + 10000 ≤ 7293034) {d q1 q2 : Nat} {kk r : Int32} {o' : Int64} {X' : XT} {M' : MT} (hrw : d + 1 ≤ 2048) (hrl : d ≤ 1000) (hrc : q1 ≤ 64) (hrs : q2 ≤ 8000) (hW : CW l yL_meanSugar cL_meanSugar 4 (some .int) [(0, 9, 12, 28)] (rmk d q1 q2) D z [.ref (z + aX 0 0 0), .int (xs (i + 1)), .ref (z + 537)] (GG D z (X, (2, M, o))) (some (.int kk)) (GG D z (X', (2, M, o')))) (hM : CC l yX12_meanSugar cX12_meanSugar 2 (some .int) (rmk 3 0 0) D z [.ref (z + aM 0), .int (xs (i + 1))] (GG D z (X', (2, M, o'))) (some (.int r)) (GG D z (X', (2, M', o')))) (hT : f_X12_thrown M' = some kk) (hres : kk = 0 → o' = r.toInt64) (h : J p l e room_1 s m args below meth c D z (GG D z (X', (2, M', o'))) (k + 100) (n + 10000) Q 9 3238 (lsL b z i) []) : J p l e room_1 s m args below meth c D z (GG D z (X, (2, M, o))) k n Q 9 1786 (lsL b z i) [] := by
  refine j_aload_n E 3 rfl dL_law_1786 ?_
  refine j_aload_n E 4 rfl dL_law_1787 ?_
  refine j_iload E 0 rfl dL_law_1788 ?_
  refine j_iconst E (nI 1) rfl dL_law_1790 ?_
  refine j_iadd E dL_law_1791 ?_
  refine j_name (nI_add i 1).symm ?_
  refine j_sld E C (by omega) dL_law_1792 ?_
  refine j_aload_n E 1 rfl dL_law_1793 ?_
  refine j_invW (n0 := 3) [] [.int kk] E hW ml_L_275 st_L_meanSugar in_L cd_L_meanSugar rfl (by decide +kernel) rfl ⟨hrw, by show 8 + (_ + 11) + 64 * d ≤ 84000; omega⟩ rfl rfl (le_ rfl) ⟨by show k + q1 ≤ 601024; omega, by show n + q2 ≤ 7293034; omega⟩ dL_law_1794 ?_
  refine j_istore (ls' := (5, .int kk) :: lsL b z i) E (lt_ rfl) rfl dL_law_1797 ?_
  refine j_aload_n E 3 rfl dL_law_1799 ?_
  refine j_aload_n E 5 rfl dL_law_1800 ?_
  refine j_iload E 1 rfl dL_law_1801 ?_
  refine j_iconst E (nI 1) rfl dL_law_1803 ?_
  refine j_iadd E dL_law_1804 ?_
  refine j_name (nI_add i 1).symm ?_
  refine j_sld E C (by omega) dL_law_1805 ?_
  refine j_invV [] [.int r] E hM ml_L_277 mv_X12_meanSugar rfl ⟨le_ rfl, le_ rfl⟩ (rcM (f1 := 1) cf_X12) rfl rfl (le_ rfl) ⟨by show k + q1 + 0 ≤ 601024; omega, by show n + q2 + 0 ≤ 7293034; omega⟩ dL_law_1806 ?_
  refine j_istore (ls' := (6, .int r) :: (5, .int kk) :: lsL b z i) E (lt_ rfl) rfl dL_law_1809 ?_
  refine j_aload_n E 4 rfl dL_law_1811 ?_
  refine j_invV [] [.int kk] E (c_X12_thrown (f1 := 1) hT) ml_L_159 mv_X12_thrown rfl ⟨le_ rfl, le_ rfl⟩ (rcM (f1 := 1) cf_X12) rfl rfl (le_ rfl) ⟨by show k + q1 + 0 + 0 ≤ 601024; omega, by show n + q2 + 0 + 0 ≤ 7293034; omega⟩ dL_law_1812 ?_
  refine j_iload E 1 rfl dL_law_1815 ?_
  refine j_icmp_eq E 1822 (by decide) dL_law_1817 (fun _ => ?_) (fun q => absurd rfl q)
  have fin : J p l e room_1 s m args below meth c D z (GG D z (X', (2, M', o'))) (k + 100) (n + 10000) Q 9 3238 ((6, .int r) :: (5, .int kk) :: lsL b z i) [] := j_sub (ls' := lsL b z i) [2, 3, 4, 5, 6] rfl h
  refine j_iload E 1 rfl dL_law_1822 ?_
  refine j_if_ne E 1839 (by decide) dL_law_1824 (fun _ => ?_) (fun q0 => ?_)
  · refine j_goto E 3238 (by decide) dL_law_1839 ?_
    exact j_widen (by show k + q1 + 0 + 0 ≤ k + 100; omega) (by show n + q2 + 0 + 0 ≤ n + 10000; omega) fin
  · refine j_aload_n E 3 rfl dL_law_1827 ?_
    refine j_iconst E 0 ic_0 dL_law_1828 ?_
    refine j_laldO (f1 := 0) E dL_law_1829 ?_
    refine j_iload E 0 rfl dL_law_1830 ?_
    refine j_i2l E dL_law_1832 ?_
    refine j_lcmp E dL_law_1833 ?_
    refine j_if_eq E 1839 (by decide) dL_law_1834 (fun _ => ?_) (fun q => absurd ((cmp_eq _ _).mpr (hres q0)) q)
    refine j_goto E 3238 (by decide) dL_law_1839 ?_
    exact j_widen (by show k + q1 + 0 + 0 ≤ k + 100; omega) (by show n + q2 + 0 + 0 ≤ n + 10000; omega) fin
set_option maxRecDepth 20000 in
theorem la_meanSugar {p : Program} {l : Launch} {e : Env} {s : State} {m : MethodId} {args : Array Value} {below : List Frame} {meth : Method} {c : Code} {D : DD} {z : Nat} {k n : Nat} {Q : State → Prop} {b L i : Nat} {xs : Nat → Int32} {X : XT} {M : MT} {o : Int64} (hl : l.stackTraces = false) (E : Cx p s m args meth c D z RL cL_law 9 (some .boolean)) (C : LC s z b L xs) (hi : i + 6 ≤ L) (hk : k + 100 ≤ 601024) (hn : n + 10000 ≤ 7293034) (hr : RR X M) (h : ∀ X' M' o', RR X' M' → J p l e room_1 s m args below meth c D z (GG D z (X', (2, M', o'))) (k + 100) (n + 10000) Q 9 3238 (lsL b z i) []) : J p l e room_1 s m args below meth c D z (GG D z (X, (2, M, o))) k n Q 9 1786 (lsL b z i) [] := by
  rcases s_meanSugar hr (xs (i + 1)) with ⟨r, a1, a2⟩ | ⟨e, k', r, hm, a1, a2⟩
  · exact lb_meanSugar E C hi hk hn (by decide) (by decide) (by decide) (by decide) (w_meanSugar (f1 := 0) a1) (c_X12_meanSugar (f1 := 1) a2) (by unfold f_X12_thrown; rw [mi00]) (fun _ => rfl) (h X _ _ (hr.thr 0))
  · simp only [List.mem_cons, List.not_mem_nil, or_false, Prod.mk.injEq] at hm
    obtain ⟨rfl, rfl⟩ := hm
    exact lb_meanSugar E C hi hk hn (by decide) (by decide) (by decide) (by decide) (wx_meanSugar_2 (f1 := 0) hl a1) (c_X12_meanSugar (f1 := 1) a2) (by unfold f_X12_thrown; rw [mi00]) (fun q => absurd q (by decide)) (h X _ _ (hr.thr 1))
set_option maxRecDepth 20000 in
theorem lb_tankFor {p : Program} {l : Launch} {e : Env} {s : State} {m : MethodId} {args : Array Value} {below : List Frame} {meth : Method} {c : Code} {D : DD} {z : Nat} {k n : Nat} {Q : State → Prop} {b L i : Nat} {xs : Nat → Int32} {X : XT} {M : MT} {o : Int64} (E : Cx p s m args meth c D z RL cL_law 9 (some .boolean)) (C : LC s z b L xs) (hi : i + 6 ≤ L) (hk : k + 100 ≤ 601024) (hn : n + 10000 ≤ 7293034) {d q1 q2 : Nat} {kk r : Int32} {o' : Int64} {X' : XT} {M' : MT} (hrw : d + 1 ≤ 2048) (hrl : d ≤ 1000) (hrc : q1 ≤ 64) (hrs : q2 ≤ 8000) (hW : CW l yL_tankFor cL_tankFor 5 (some .int) [(0, 10, 13, 28), (0, 10, 17, 19)] (rmk d q1 q2) D z [.ref (z + aX 0 0 0), .int (xs (i + 1)), .int (xs (i + 2)), .ref (z + 537)] (GG D z (X, (2, M, o))) (some (.int kk)) (GG D z (X', (2, M, o')))) (hM : CC l yX12_tankFor cX12_tankFor 3 (some .int) (rmk 5 0 0) D z [.ref (z + aM 0), .int (xs (i + 1)), .int (xs (i + 2))] (GG D z (X', (2, M, o'))) (some (.int r)) (GG D z (X', (2, M', o')))) (hT : f_X12_thrown M' = some kk) (hres : kk = 0 → o' = r.toInt64) (h : J p l e room_1 s m args below meth c D z (GG D z (X', (2, M', o'))) (k + 100) (n + 10000) Q 9 3238 (lsL b z i) []) : J p l e room_1 s m args below meth c D z (GG D z (X, (2, M, o))) k n Q 9 1842 (lsL b z i) [] := by
  refine j_aload_n E 3 rfl dL_law_1842 ?_
  refine j_aload_n E 4 rfl dL_law_1843 ?_
  refine j_iload E 0 rfl dL_law_1844 ?_
  refine j_iconst E (nI 1) rfl dL_law_1846 ?_
  refine j_iadd E dL_law_1847 ?_
  refine j_name (nI_add i 1).symm ?_
  refine j_sld E C (by omega) dL_law_1848 ?_
  refine j_aload_n E 4 rfl dL_law_1849 ?_
  refine j_iload E 0 rfl dL_law_1850 ?_
  refine j_iconst E (nI 2) rfl dL_law_1852 ?_
  refine j_iadd E dL_law_1853 ?_
  refine j_name (nI_add i 2).symm ?_
  refine j_sld E C (by omega) dL_law_1854 ?_
  refine j_aload_n E 1 rfl dL_law_1855 ?_
  refine j_invW (n0 := 4) [] [.int kk] E hW ml_L_278 st_L_tankFor in_L cd_L_tankFor rfl (by decide +kernel) rfl ⟨hrw, by show 8 + (_ + 11) + 64 * d ≤ 84000; omega⟩ rfl rfl (le_ rfl) ⟨by show k + q1 ≤ 601024; omega, by show n + q2 ≤ 7293034; omega⟩ dL_law_1856 ?_
  refine j_istore (ls' := (5, .int kk) :: lsL b z i) E (lt_ rfl) rfl dL_law_1859 ?_
  refine j_aload_n E 3 rfl dL_law_1861 ?_
  refine j_aload_n E 5 rfl dL_law_1862 ?_
  refine j_iload E 1 rfl dL_law_1863 ?_
  refine j_iconst E (nI 1) rfl dL_law_1865 ?_
  refine j_iadd E dL_law_1866 ?_
  refine j_name (nI_add i 1).symm ?_
  refine j_sld E C (by omega) dL_law_1867 ?_
  refine j_aload_n E 5 rfl dL_law_1868 ?_
  refine j_iload E 1 rfl dL_law_1869 ?_
  refine j_iconst E (nI 2) rfl dL_law_1871 ?_
  refine j_iadd E dL_law_1872 ?_
  refine j_name (nI_add i 2).symm ?_
  refine j_sld E C (by omega) dL_law_1873 ?_
  refine j_invV [] [.int r] E hM ml_L_280 mv_X12_tankFor rfl ⟨le_ rfl, le_ rfl⟩ (rcM (f1 := 1) cf_X12) rfl rfl (le_ rfl) ⟨by show k + q1 + 0 ≤ 601024; omega, by show n + q2 + 0 ≤ 7293034; omega⟩ dL_law_1874 ?_
  refine j_istore (ls' := (6, .int r) :: (5, .int kk) :: lsL b z i) E (lt_ rfl) rfl dL_law_1877 ?_
  refine j_aload_n E 4 rfl dL_law_1879 ?_
  refine j_invV [] [.int kk] E (c_X12_thrown (f1 := 1) hT) ml_L_159 mv_X12_thrown rfl ⟨le_ rfl, le_ rfl⟩ (rcM (f1 := 1) cf_X12) rfl rfl (le_ rfl) ⟨by show k + q1 + 0 + 0 ≤ 601024; omega, by show n + q2 + 0 + 0 ≤ 7293034; omega⟩ dL_law_1880 ?_
  refine j_iload E 1 rfl dL_law_1883 ?_
  refine j_icmp_eq E 1890 (by decide) dL_law_1885 (fun _ => ?_) (fun q => absurd rfl q)
  have fin : J p l e room_1 s m args below meth c D z (GG D z (X', (2, M', o'))) (k + 100) (n + 10000) Q 9 3238 ((6, .int r) :: (5, .int kk) :: lsL b z i) [] := j_sub (ls' := lsL b z i) [2, 3, 4, 5, 6] rfl h
  refine j_iload E 1 rfl dL_law_1890 ?_
  refine j_if_ne E 1907 (by decide) dL_law_1892 (fun _ => ?_) (fun q0 => ?_)
  · refine j_goto E 3238 (by decide) dL_law_1907 ?_
    exact j_widen (by show k + q1 + 0 + 0 ≤ k + 100; omega) (by show n + q2 + 0 + 0 ≤ n + 10000; omega) fin
  · refine j_aload_n E 3 rfl dL_law_1895 ?_
    refine j_iconst E 0 ic_0 dL_law_1896 ?_
    refine j_laldO (f1 := 0) E dL_law_1897 ?_
    refine j_iload E 0 rfl dL_law_1898 ?_
    refine j_i2l E dL_law_1900 ?_
    refine j_lcmp E dL_law_1901 ?_
    refine j_if_eq E 1907 (by decide) dL_law_1902 (fun _ => ?_) (fun q => absurd ((cmp_eq _ _).mpr (hres q0)) q)
    refine j_goto E 3238 (by decide) dL_law_1907 ?_
    exact j_widen (by show k + q1 + 0 + 0 ≤ k + 100; omega) (by show n + q2 + 0 + 0 ≤ n + 10000; omega) fin
set_option maxRecDepth 20000 in
theorem la_tankFor {p : Program} {l : Launch} {e : Env} {s : State} {m : MethodId} {args : Array Value} {below : List Frame} {meth : Method} {c : Code} {D : DD} {z : Nat} {k n : Nat} {Q : State → Prop} {b L i : Nat} {xs : Nat → Int32} {X : XT} {M : MT} {o : Int64} (hl : l.stackTraces = false) (E : Cx p s m args meth c D z RL cL_law 9 (some .boolean)) (C : LC s z b L xs) (hi : i + 6 ≤ L) (hk : k + 100 ≤ 601024) (hn : n + 10000 ≤ 7293034) (hr : RR X M) (h : ∀ X' M' o', RR X' M' → J p l e room_1 s m args below meth c D z (GG D z (X', (2, M', o'))) (k + 100) (n + 10000) Q 9 3238 (lsL b z i) []) : J p l e room_1 s m args below meth c D z (GG D z (X, (2, M, o))) k n Q 9 1842 (lsL b z i) [] := by
  rcases s_tankFor hr (xs (i + 1)) (xs (i + 2)) with ⟨r, a1, a2⟩ | ⟨e, k', r, hm, a1, a2⟩
  · exact lb_tankFor E C hi hk hn (by decide) (by decide) (by decide) (by decide) (w_tankFor (f1 := 0) a1) (c_X12_tankFor (f1 := 1) a2) (by unfold f_X12_thrown; rw [mi00]) (fun _ => rfl) (h X _ _ (hr.thr 0))
  · simp only [List.mem_cons, List.not_mem_nil, or_false, Prod.mk.injEq] at hm
    rcases hm with ⟨rfl, rfl⟩ | ⟨rfl, rfl⟩
    · exact lb_tankFor E C hi hk hn (by decide) (by decide) (by decide) (by decide) (wx_tankFor_2 (f1 := 0) hl a1) (c_X12_tankFor (f1 := 1) a2) (by unfold f_X12_thrown; rw [mi00]) (fun q => absurd q (by decide)) (h X _ _ (hr.thr 1))
    · exact lb_tankFor E C hi hk hn (by decide) (by decide) (by decide) (by decide) (wx_tankFor_1 (f1 := 0) hl a1) (c_X12_tankFor (f1 := 1) a2) (by unfold f_X12_thrown; rw [mi00]) (fun q => absurd q (by decide)) (h X _ _ (hr.thr 2))
set_option maxRecDepth 20000 in
theorem lb_greatestLoad {p : Program} {l : Launch} {e : Env} {s : State} {m : MethodId} {args : Array Value} {below : List Frame} {meth : Method} {c : Code} {D : DD} {z : Nat} {k n : Nat} {Q : State → Prop} {b L i : Nat} {xs : Nat → Int32} {X : XT} {M : MT} {o : Int64} (E : Cx p s m args meth c D z RL cL_law 9 (some .boolean)) (C : LC s z b L xs) (hi : i + 6 ≤ L) (hk : k + 100 ≤ 601024) (hn : n + 10000 ≤ 7293034) {d q1 q2 : Nat} {kk r : Int32} {o' : Int64} {X' : XT} {M' : MT} (hrw : d + 1 ≤ 2048) (hrl : d ≤ 1000) (hrc : q1 ≤ 64) (hrs : q2 ≤ 8000) (hW : CW l yL_greatestLoad cL_greatestLoad 4 (some .int) [(0, 9, 12, 28)] (rmk d q1 q2) D z [.ref (z + aX 0 0 0), .int (xs (i + 1)), .ref (z + 537)] (GG D z (X, (2, M, o))) (some (.int kk)) (GG D z (X', (2, M, o')))) (hM : CC l yX12_greatestLoad cX12_greatestLoad 5 (some .int) (rmk 3 0 0) D z [.ref (z + aM 0), .int (xs (i + 1))] (GG D z (X', (2, M, o'))) (some (.int r)) (GG D z (X', (2, M', o')))) (hT : f_X12_thrown M' = some kk) (hres : kk = 0 → o' = r.toInt64) (h : J p l e room_1 s m args below meth c D z (GG D z (X', (2, M', o'))) (k + 100) (n + 10000) Q 9 3238 (lsL b z i) []) : J p l e room_1 s m args below meth c D z (GG D z (X, (2, M, o))) k n Q 9 1910 (lsL b z i) [] := by
  refine j_aload_n E 3 rfl dL_law_1910 ?_
  refine j_aload_n E 4 rfl dL_law_1911 ?_
  refine j_iload E 0 rfl dL_law_1912 ?_
  refine j_iconst E (nI 1) rfl dL_law_1914 ?_
  refine j_iadd E dL_law_1915 ?_
  refine j_name (nI_add i 1).symm ?_
  refine j_sld E C (by omega) dL_law_1916 ?_
  refine j_aload_n E 1 rfl dL_law_1917 ?_
  refine j_invW (n0 := 3) [] [.int kk] E hW ml_L_281 st_L_greatestLoad in_L cd_L_greatestLoad rfl (by decide +kernel) rfl ⟨hrw, by show 8 + (_ + 11) + 64 * d ≤ 84000; omega⟩ rfl rfl (le_ rfl) ⟨by show k + q1 ≤ 601024; omega, by show n + q2 ≤ 7293034; omega⟩ dL_law_1918 ?_
  refine j_istore (ls' := (5, .int kk) :: lsL b z i) E (lt_ rfl) rfl dL_law_1921 ?_
  refine j_aload_n E 3 rfl dL_law_1923 ?_
  refine j_aload_n E 5 rfl dL_law_1924 ?_
  refine j_iload E 1 rfl dL_law_1925 ?_
  refine j_iconst E (nI 1) rfl dL_law_1927 ?_
  refine j_iadd E dL_law_1928 ?_
  refine j_name (nI_add i 1).symm ?_
  refine j_sld E C (by omega) dL_law_1929 ?_
  refine j_invV [] [.int r] E hM ml_L_283 mv_X12_greatestLoad rfl ⟨le_ rfl, le_ rfl⟩ (rcM (f1 := 1) cf_X12) rfl rfl (le_ rfl) ⟨by show k + q1 + 0 ≤ 601024; omega, by show n + q2 + 0 ≤ 7293034; omega⟩ dL_law_1930 ?_
  refine j_istore (ls' := (6, .int r) :: (5, .int kk) :: lsL b z i) E (lt_ rfl) rfl dL_law_1933 ?_
  refine j_aload_n E 4 rfl dL_law_1935 ?_
  refine j_invV [] [.int kk] E (c_X12_thrown (f1 := 1) hT) ml_L_159 mv_X12_thrown rfl ⟨le_ rfl, le_ rfl⟩ (rcM (f1 := 1) cf_X12) rfl rfl (le_ rfl) ⟨by show k + q1 + 0 + 0 ≤ 601024; omega, by show n + q2 + 0 + 0 ≤ 7293034; omega⟩ dL_law_1936 ?_
  refine j_iload E 1 rfl dL_law_1939 ?_
  refine j_icmp_eq E 1946 (by decide) dL_law_1941 (fun _ => ?_) (fun q => absurd rfl q)
  have fin : J p l e room_1 s m args below meth c D z (GG D z (X', (2, M', o'))) (k + 100) (n + 10000) Q 9 3238 ((6, .int r) :: (5, .int kk) :: lsL b z i) [] := j_sub (ls' := lsL b z i) [2, 3, 4, 5, 6] rfl h
  refine j_iload E 1 rfl dL_law_1946 ?_
  refine j_if_ne E 1963 (by decide) dL_law_1948 (fun _ => ?_) (fun q0 => ?_)
  · refine j_goto E 3238 (by decide) dL_law_1963 ?_
    exact j_widen (by show k + q1 + 0 + 0 ≤ k + 100; omega) (by show n + q2 + 0 + 0 ≤ n + 10000; omega) fin
  · refine j_aload_n E 3 rfl dL_law_1951 ?_
    refine j_iconst E 0 ic_0 dL_law_1952 ?_
    refine j_laldO (f1 := 0) E dL_law_1953 ?_
    refine j_iload E 0 rfl dL_law_1954 ?_
    refine j_i2l E dL_law_1956 ?_
    refine j_lcmp E dL_law_1957 ?_
    refine j_if_eq E 1963 (by decide) dL_law_1958 (fun _ => ?_) (fun q => absurd ((cmp_eq _ _).mpr (hres q0)) q)
    refine j_goto E 3238 (by decide) dL_law_1963 ?_
    exact j_widen (by show k + q1 + 0 + 0 ≤ k + 100; omega) (by show n + q2 + 0 + 0 ≤ n + 10000; omega) fin
set_option maxRecDepth 20000 in
theorem la_greatestLoad {p : Program} {l : Launch} {e : Env} {s : State} {m : MethodId} {args : Array Value} {below : List Frame} {meth : Method} {c : Code} {D : DD} {z : Nat} {k n : Nat} {Q : State → Prop} {b L i : Nat} {xs : Nat → Int32} {X : XT} {M : MT} {o : Int64} (hl : l.stackTraces = false) (E : Cx p s m args meth c D z RL cL_law 9 (some .boolean)) (C : LC s z b L xs) (hi : i + 6 ≤ L) (hk : k + 100 ≤ 601024) (hn : n + 10000 ≤ 7293034) (hr : RR X M) (h : ∀ X' M' o', RR X' M' → J p l e room_1 s m args below meth c D z (GG D z (X', (2, M', o'))) (k + 100) (n + 10000) Q 9 3238 (lsL b z i) []) : J p l e room_1 s m args below meth c D z (GG D z (X, (2, M, o))) k n Q 9 1910 (lsL b z i) [] := by
  rcases s_greatestLoad hr (xs (i + 1)) with ⟨r, a1, a2⟩ | ⟨e, k', r, hm, a1, a2⟩
  · exact lb_greatestLoad E C hi hk hn (by decide) (by decide) (by decide) (by decide) (w_greatestLoad (f1 := 0) a1) (c_X12_greatestLoad (f1 := 1) a2) (by unfold f_X12_thrown; rw [mi00]) (fun _ => rfl) (h X _ _ (hr.thr 0))
  · simp only [List.mem_cons, List.not_mem_nil, or_false, Prod.mk.injEq] at hm
    obtain ⟨rfl, rfl⟩ := hm
    exact lb_greatestLoad E C hi hk hn (by decide) (by decide) (by decide) (by decide) (wx_greatestLoad_2 (f1 := 0) hl a1) (c_X12_greatestLoad (f1 := 1) a2) (by unfold f_X12_thrown; rw [mi00]) (fun q => absurd q (by decide)) (h X _ _ (hr.thr 1))
set_option maxRecDepth 20000 in
theorem lb_refusal {p : Program} {l : Launch} {e : Env} {s : State} {m : MethodId} {args : Array Value} {below : List Frame} {meth : Method} {c : Code} {D : DD} {z : Nat} {k n : Nat} {Q : State → Prop} {b L i : Nat} {xs : Nat → Int32} {X : XT} {M : MT} {o : Int64} (E : Cx p s m args meth c D z RL cL_law 9 (some .boolean)) (C : LC s z b L xs) (hi : i + 6 ≤ L) (hk : k + 100 ≤ 601024) (hn : n + 10000 ≤ 7293034) {d q1 q2 : Nat} {kk r : Int32} {o' : Int64} {X' : XT} {M' : MT} (hrw : d + 1 ≤ 2048) (hrl : d ≤ 1000) (hrc : q1 ≤ 64) (hrs : q2 ≤ 8000) (hW : CW l yL_refusal cL_refusal 6 (some .int) [(0, 12, 15, 28), (0, 12, 19, 19)] (rmk d q1 q2) D z [.ref (z + aX 0 0 0), .int (xs (i + 1)), .int (xs (i + 2)), .int (xs (i + 3)), .ref (z + 537)] (GG D z (X, (2, M, o))) (some (.int kk)) (GG D z (X', (2, M, o')))) (hM : CC l yX12_refusal cX12_refusal 4 (some .int) (rmk 6 0 0) D z [.ref (z + aM 0), .int (xs (i + 1)), .int (xs (i + 2)), .int (xs (i + 3))] (GG D z (X', (2, M, o'))) (some (.int r)) (GG D z (X', (2, M', o')))) (hT : f_X12_thrown M' = some kk) (hres : kk = 0 → o' = r.toInt64) (h : J p l e room_1 s m args below meth c D z (GG D z (X', (2, M', o'))) (k + 100) (n + 10000) Q 9 3238 (lsL b z i) []) : J p l e room_1 s m args below meth c D z (GG D z (X, (2, M, o))) k n Q 9 1966 (lsL b z i) [] := by
  refine j_aload_n E 3 rfl dL_law_1966 ?_
  refine j_aload_n E 4 rfl dL_law_1967 ?_
  refine j_iload E 0 rfl dL_law_1968 ?_
  refine j_iconst E (nI 1) rfl dL_law_1970 ?_
  refine j_iadd E dL_law_1971 ?_
  refine j_name (nI_add i 1).symm ?_
  refine j_sld E C (by omega) dL_law_1972 ?_
  refine j_aload_n E 4 rfl dL_law_1973 ?_
  refine j_iload E 0 rfl dL_law_1974 ?_
  refine j_iconst E (nI 2) rfl dL_law_1976 ?_
  refine j_iadd E dL_law_1977 ?_
  refine j_name (nI_add i 2).symm ?_
  refine j_sld E C (by omega) dL_law_1978 ?_
  refine j_aload_n E 4 rfl dL_law_1979 ?_
  refine j_iload E 0 rfl dL_law_1980 ?_
  refine j_iconst E (nI 3) rfl dL_law_1982 ?_
  refine j_iadd E dL_law_1983 ?_
  refine j_name (nI_add i 3).symm ?_
  refine j_sld E C (by omega) dL_law_1984 ?_
  refine j_aload_n E 1 rfl dL_law_1985 ?_
  refine j_invW (n0 := 5) [] [.int kk] E hW ml_L_284 st_L_refusal in_L cd_L_refusal rfl (by decide +kernel) rfl ⟨hrw, by show 8 + (_ + 11) + 64 * d ≤ 84000; omega⟩ rfl rfl (le_ rfl) ⟨by show k + q1 ≤ 601024; omega, by show n + q2 ≤ 7293034; omega⟩ dL_law_1986 ?_
  refine j_istore (ls' := (5, .int kk) :: lsL b z i) E (lt_ rfl) rfl dL_law_1989 ?_
  refine j_aload_n E 3 rfl dL_law_1991 ?_
  refine j_aload_n E 5 rfl dL_law_1992 ?_
  refine j_iload E 1 rfl dL_law_1993 ?_
  refine j_iconst E (nI 1) rfl dL_law_1995 ?_
  refine j_iadd E dL_law_1996 ?_
  refine j_name (nI_add i 1).symm ?_
  refine j_sld E C (by omega) dL_law_1997 ?_
  refine j_aload_n E 5 rfl dL_law_1998 ?_
  refine j_iload E 1 rfl dL_law_1999 ?_
  refine j_iconst E (nI 2) rfl dL_law_2001 ?_
  refine j_iadd E dL_law_2002 ?_
  refine j_name (nI_add i 2).symm ?_
  refine j_sld E C (by omega) dL_law_2003 ?_
  refine j_aload_n E 5 rfl dL_law_2004 ?_
  refine j_iload E 1 rfl dL_law_2005 ?_
  refine j_iconst E (nI 3) rfl dL_law_2007 ?_
  refine j_iadd E dL_law_2008 ?_
  refine j_name (nI_add i 3).symm ?_
  refine j_sld E C (by omega) dL_law_2009 ?_
  refine j_invV [] [.int r] E hM ml_L_287 mv_X12_refusal rfl ⟨le_ rfl, le_ rfl⟩ (rcM (f1 := 1) cf_X12) rfl rfl (le_ rfl) ⟨by show k + q1 + 0 ≤ 601024; omega, by show n + q2 + 0 ≤ 7293034; omega⟩ dL_law_2010 ?_
  refine j_istore (ls' := (6, .int r) :: (5, .int kk) :: lsL b z i) E (lt_ rfl) rfl dL_law_2013 ?_
  refine j_aload_n E 4 rfl dL_law_2015 ?_
  refine j_invV [] [.int kk] E (c_X12_thrown (f1 := 1) hT) ml_L_159 mv_X12_thrown rfl ⟨le_ rfl, le_ rfl⟩ (rcM (f1 := 1) cf_X12) rfl rfl (le_ rfl) ⟨by show k + q1 + 0 + 0 ≤ 601024; omega, by show n + q2 + 0 + 0 ≤ 7293034; omega⟩ dL_law_2016 ?_
  refine j_iload E 1 rfl dL_law_2019 ?_
  refine j_icmp_eq E 2026 (by decide) dL_law_2021 (fun _ => ?_) (fun q => absurd rfl q)
  have fin : J p l e room_1 s m args below meth c D z (GG D z (X', (2, M', o'))) (k + 100) (n + 10000) Q 9 3238 ((6, .int r) :: (5, .int kk) :: lsL b z i) [] := j_sub (ls' := lsL b z i) [2, 3, 4, 5, 6] rfl h
  refine j_iload E 1 rfl dL_law_2026 ?_
  refine j_if_ne E 2043 (by decide) dL_law_2028 (fun _ => ?_) (fun q0 => ?_)
  · refine j_goto E 3238 (by decide) dL_law_2043 ?_
    exact j_widen (by show k + q1 + 0 + 0 ≤ k + 100; omega) (by show n + q2 + 0 + 0 ≤ n + 10000; omega) fin
  · refine j_aload_n E 3 rfl dL_law_2031 ?_
    refine j_iconst E 0 ic_0 dL_law_2032 ?_
    refine j_laldO (f1 := 0) E dL_law_2033 ?_
    refine j_iload E 0 rfl dL_law_2034 ?_
    refine j_i2l E dL_law_2036 ?_
    refine j_lcmp E dL_law_2037 ?_
    refine j_if_eq E 2043 (by decide) dL_law_2038 (fun _ => ?_) (fun q => absurd ((cmp_eq _ _).mpr (hres q0)) q)
    refine j_goto E 3238 (by decide) dL_law_2043 ?_
    exact j_widen (by show k + q1 + 0 + 0 ≤ k + 100; omega) (by show n + q2 + 0 + 0 ≤ n + 10000; omega) fin
set_option maxRecDepth 20000 in
theorem la_refusal {p : Program} {l : Launch} {e : Env} {s : State} {m : MethodId} {args : Array Value} {below : List Frame} {meth : Method} {c : Code} {D : DD} {z : Nat} {k n : Nat} {Q : State → Prop} {b L i : Nat} {xs : Nat → Int32} {X : XT} {M : MT} {o : Int64} (hl : l.stackTraces = false) (E : Cx p s m args meth c D z RL cL_law 9 (some .boolean)) (C : LC s z b L xs) (hi : i + 6 ≤ L) (hk : k + 100 ≤ 601024) (hn : n + 10000 ≤ 7293034) (hr : RR X M) (h : ∀ X' M' o', RR X' M' → J p l e room_1 s m args below meth c D z (GG D z (X', (2, M', o'))) (k + 100) (n + 10000) Q 9 3238 (lsL b z i) []) : J p l e room_1 s m args below meth c D z (GG D z (X, (2, M, o))) k n Q 9 1966 (lsL b z i) [] := by
  rcases s_refusal hr (xs (i + 1)) (xs (i + 2)) (xs (i + 3)) with ⟨r, a1, a2⟩ | ⟨e, k', r, hm, a1, a2⟩
  · exact lb_refusal E C hi hk hn (by decide) (by decide) (by decide) (by decide) (w_refusal (f1 := 0) a1) (c_X12_refusal (f1 := 1) a2) (by unfold f_X12_thrown; rw [mi00]) (fun _ => rfl) (h X _ _ (hr.thr 0))
  · simp only [List.mem_cons, List.not_mem_nil, or_false, Prod.mk.injEq] at hm
    rcases hm with ⟨rfl, rfl⟩ | ⟨rfl, rfl⟩
    · exact lb_refusal E C hi hk hn (by decide) (by decide) (by decide) (by decide) (wx_refusal_2 (f1 := 0) hl a1) (c_X12_refusal (f1 := 1) a2) (by unfold f_X12_thrown; rw [mi00]) (fun q => absurd q (by decide)) (h X _ _ (hr.thr 1))
    · exact lb_refusal E C hi hk hn (by decide) (by decide) (by decide) (by decide) (wx_refusal_1 (f1 := 0) hl a1) (c_X12_refusal (f1 := 1) a2) (by unfold f_X12_thrown; rw [mi00]) (fun q => absurd q (by decide)) (h X _ _ (hr.thr 2))
set_option maxRecDepth 20000 in
theorem lb_valueIfDelivered {p : Program} {l : Launch} {e : Env} {s : State} {m : MethodId} {args : Array Value} {below : List Frame} {meth : Method} {c : Code} {D : DD} {z : Nat} {k n : Nat} {Q : State → Prop} {b L i : Nat} {xs : Nat → Int32} {X : XT} {M : MT} {o : Int64} (E : Cx p s m args meth c D z RL cL_law 9 (some .boolean)) (C : LC s z b L xs) (hi : i + 6 ≤ L) (hk : k + 100 ≤ 601024) (hn : n + 10000 ≤ 7293034) {d q1 q2 : Nat} {kk r : Int32} {o' : Int64} {X' : XT} {M' : MT} (hrw : d + 1 ≤ 2048) (hrl : d ≤ 1000) (hrc : q1 ≤ 64) (hrs : q2 ≤ 8000) (hW : CW l yL_valueIfDelivered cL_valueIfDelivered 6 (some .int) [(0, 12, 15, 28), (0, 12, 19, 19)] (rmk d q1 q2) D z [.ref (z + aX 0 0 0), .int (xs (i + 1)), .int (xs (i + 2)), .int (xs (i + 3)), .ref (z + 537)] (GG D z (X, (2, M, o))) (some (.int kk)) (GG D z (X', (2, M, o')))) (hM : CC l yX12_valueIfDelivered cX12_valueIfDelivered 4 (some .int) (rmk 6 0 0) D z [.ref (z + aM 0), .int (xs (i + 1)), .int (xs (i + 2)), .int (xs (i + 3))] (GG D z (X', (2, M, o'))) (some (.int r)) (GG D z (X', (2, M', o')))) (hT : f_X12_thrown M' = some kk) (hres : kk = 0 → o' = r.toInt64) (h : J p l e room_1 s m args below meth c D z (GG D z (X', (2, M', o'))) (k + 100) (n + 10000) Q 9 3238 (lsL b z i) []) : J p l e room_1 s m args below meth c D z (GG D z (X, (2, M, o))) k n Q 9 2046 (lsL b z i) [] := by
  refine j_aload_n E 3 rfl dL_law_2046 ?_
  refine j_aload_n E 4 rfl dL_law_2047 ?_
  refine j_iload E 0 rfl dL_law_2048 ?_
  refine j_iconst E (nI 1) rfl dL_law_2050 ?_
  refine j_iadd E dL_law_2051 ?_
  refine j_name (nI_add i 1).symm ?_
  refine j_sld E C (by omega) dL_law_2052 ?_
  refine j_aload_n E 4 rfl dL_law_2053 ?_
  refine j_iload E 0 rfl dL_law_2054 ?_
  refine j_iconst E (nI 2) rfl dL_law_2056 ?_
  refine j_iadd E dL_law_2057 ?_
  refine j_name (nI_add i 2).symm ?_
  refine j_sld E C (by omega) dL_law_2058 ?_
  refine j_aload_n E 4 rfl dL_law_2059 ?_
  refine j_iload E 0 rfl dL_law_2060 ?_
  refine j_iconst E (nI 3) rfl dL_law_2062 ?_
  refine j_iadd E dL_law_2063 ?_
  refine j_name (nI_add i 3).symm ?_
  refine j_sld E C (by omega) dL_law_2064 ?_
  refine j_aload_n E 1 rfl dL_law_2065 ?_
  refine j_invW (n0 := 5) [] [.int kk] E hW ml_L_288 st_L_valueIfDelivered in_L cd_L_valueIfDelivered rfl (by decide +kernel) rfl ⟨hrw, by show 8 + (_ + 11) + 64 * d ≤ 84000; omega⟩ rfl rfl (le_ rfl) ⟨by show k + q1 ≤ 601024; omega, by show n + q2 ≤ 7293034; omega⟩ dL_law_2066 ?_
  refine j_istore (ls' := (5, .int kk) :: lsL b z i) E (lt_ rfl) rfl dL_law_2069 ?_
  refine j_aload_n E 3 rfl dL_law_2071 ?_
  refine j_aload_n E 5 rfl dL_law_2072 ?_
  refine j_iload E 1 rfl dL_law_2073 ?_
  refine j_iconst E (nI 1) rfl dL_law_2075 ?_
  refine j_iadd E dL_law_2076 ?_
  refine j_name (nI_add i 1).symm ?_
  refine j_sld E C (by omega) dL_law_2077 ?_
  refine j_aload_n E 5 rfl dL_law_2078 ?_
  refine j_iload E 1 rfl dL_law_2079 ?_
  refine j_iconst E (nI 2) rfl dL_law_2081 ?_
  refine j_iadd E dL_law_2082 ?_
  refine j_name (nI_add i 2).symm ?_
  refine j_sld E C (by omega) dL_law_2083 ?_
  refine j_aload_n E 5 rfl dL_law_2084 ?_
  refine j_iload E 1 rfl dL_law_2085 ?_
  refine j_iconst E (nI 3) rfl dL_law_2087 ?_
  refine j_iadd E dL_law_2088 ?_
  refine j_name (nI_add i 3).symm ?_
  refine j_sld E C (by omega) dL_law_2089 ?_
  refine j_invV [] [.int r] E hM ml_L_290 mv_X12_valueIfDelivered rfl ⟨le_ rfl, le_ rfl⟩ (rcM (f1 := 1) cf_X12) rfl rfl (le_ rfl) ⟨by show k + q1 + 0 ≤ 601024; omega, by show n + q2 + 0 ≤ 7293034; omega⟩ dL_law_2090 ?_
  refine j_istore (ls' := (6, .int r) :: (5, .int kk) :: lsL b z i) E (lt_ rfl) rfl dL_law_2093 ?_
  refine j_aload_n E 4 rfl dL_law_2095 ?_
  refine j_invV [] [.int kk] E (c_X12_thrown (f1 := 1) hT) ml_L_159 mv_X12_thrown rfl ⟨le_ rfl, le_ rfl⟩ (rcM (f1 := 1) cf_X12) rfl rfl (le_ rfl) ⟨by show k + q1 + 0 + 0 ≤ 601024; omega, by show n + q2 + 0 + 0 ≤ 7293034; omega⟩ dL_law_2096 ?_
  refine j_iload E 1 rfl dL_law_2099 ?_
  refine j_icmp_eq E 2106 (by decide) dL_law_2101 (fun _ => ?_) (fun q => absurd rfl q)
  have fin : J p l e room_1 s m args below meth c D z (GG D z (X', (2, M', o'))) (k + 100) (n + 10000) Q 9 3238 ((6, .int r) :: (5, .int kk) :: lsL b z i) [] := j_sub (ls' := lsL b z i) [2, 3, 4, 5, 6] rfl h
  refine j_iload E 1 rfl dL_law_2106 ?_
  refine j_if_ne E 2123 (by decide) dL_law_2108 (fun _ => ?_) (fun q0 => ?_)
  · refine j_goto E 3238 (by decide) dL_law_2123 ?_
    exact j_widen (by show k + q1 + 0 + 0 ≤ k + 100; omega) (by show n + q2 + 0 + 0 ≤ n + 10000; omega) fin
  · refine j_aload_n E 3 rfl dL_law_2111 ?_
    refine j_iconst E 0 ic_0 dL_law_2112 ?_
    refine j_laldO (f1 := 0) E dL_law_2113 ?_
    refine j_iload E 0 rfl dL_law_2114 ?_
    refine j_i2l E dL_law_2116 ?_
    refine j_lcmp E dL_law_2117 ?_
    refine j_if_eq E 2123 (by decide) dL_law_2118 (fun _ => ?_) (fun q => absurd ((cmp_eq _ _).mpr (hres q0)) q)
    refine j_goto E 3238 (by decide) dL_law_2123 ?_
    exact j_widen (by show k + q1 + 0 + 0 ≤ k + 100; omega) (by show n + q2 + 0 + 0 ≤ n + 10000; omega) fin
set_option maxRecDepth 20000 in
theorem la_valueIfDelivered {p : Program} {l : Launch} {e : Env} {s : State} {m : MethodId} {args : Array Value} {below : List Frame} {meth : Method} {c : Code} {D : DD} {z : Nat} {k n : Nat} {Q : State → Prop} {b L i : Nat} {xs : Nat → Int32} {X : XT} {M : MT} {o : Int64} (hl : l.stackTraces = false) (E : Cx p s m args meth c D z RL cL_law 9 (some .boolean)) (C : LC s z b L xs) (hi : i + 6 ≤ L) (hk : k + 100 ≤ 601024) (hn : n + 10000 ≤ 7293034) (hr : RR X M) (h : ∀ X' M' o', RR X' M' → J p l e room_1 s m args below meth c D z (GG D z (X', (2, M', o'))) (k + 100) (n + 10000) Q 9 3238 (lsL b z i) []) : J p l e room_1 s m args below meth c D z (GG D z (X, (2, M, o))) k n Q 9 2046 (lsL b z i) [] := by
  rcases s_valueIfDelivered hr (xs (i + 1)) (xs (i + 2)) (xs (i + 3)) with ⟨r, a1, a2⟩ | ⟨e, k', r, hm, a1, a2⟩
  · exact lb_valueIfDelivered E C hi hk hn (by decide) (by decide) (by decide) (by decide) (w_valueIfDelivered (f1 := 0) a1) (c_X12_valueIfDelivered (f1 := 1) a2) (by unfold f_X12_thrown; rw [mi00]) (fun _ => rfl) (h X _ _ (hr.thr 0))
  · simp only [List.mem_cons, List.not_mem_nil, or_false, Prod.mk.injEq] at hm
    rcases hm with ⟨rfl, rfl⟩ | ⟨rfl, rfl⟩
    · exact lb_valueIfDelivered E C hi hk hn (by decide) (by decide) (by decide) (by decide) (wx_valueIfDelivered_2 (f1 := 0) hl a1) (c_X12_valueIfDelivered (f1 := 1) a2) (by unfold f_X12_thrown; rw [mi00]) (fun q => absurd q (by decide)) (h X _ _ (hr.thr 1))
    · exact lb_valueIfDelivered E C hi hk hn (by decide) (by decide) (by decide) (by decide) (wx_valueIfDelivered_1 (f1 := 0) hl a1) (c_X12_valueIfDelivered (f1 := 1) a2) (by unfold f_X12_thrown; rw [mi00]) (fun q => absurd q (by decide)) (h X _ _ (hr.thr 2))
set_option maxRecDepth 20000 in
theorem lb_lotVariety {p : Program} {l : Launch} {e : Env} {s : State} {m : MethodId} {args : Array Value} {below : List Frame} {meth : Method} {c : Code} {D : DD} {z : Nat} {k n : Nat} {Q : State → Prop} {b L i : Nat} {xs : Nat → Int32} {X : XT} {M : MT} {o : Int64} (E : Cx p s m args meth c D z RL cL_law 9 (some .boolean)) (C : LC s z b L xs) (hi : i + 6 ≤ L) (hk : k + 100 ≤ 601024) (hn : n + 10000 ≤ 7293034) {d q1 q2 : Nat} {kk r : Int32} {o' : Int64} {X' : XT} {M' : MT} (hrw : d + 1 ≤ 2048) (hrl : d ≤ 1000) (hrc : q1 ≤ 64) (hrs : q2 ≤ 8000) (hW : CW l yL_lotVariety cL_lotVariety 4 (some .int) [(0, 9, 12, 28)] (rmk d q1 q2) D z [.ref (z + aX 0 0 0), .int (xs (i + 1)), .ref (z + 537)] (GG D z (X, (2, M, o))) (some (.int kk)) (GG D z (X', (2, M, o')))) (hM : CC l yX12_lotVariety cX12_lotVariety 2 (some .int) (rmk 4 0 0) D z [.ref (z + aM 0), .int (xs (i + 1))] (GG D z (X', (2, M, o'))) (some (.int r)) (GG D z (X', (2, M', o')))) (hT : f_X12_thrown M' = some kk) (hres : kk = 0 → o' = r.toInt64) (h : J p l e room_1 s m args below meth c D z (GG D z (X', (2, M', o'))) (k + 100) (n + 10000) Q 9 3238 (lsL b z i) []) : J p l e room_1 s m args below meth c D z (GG D z (X, (2, M, o))) k n Q 9 2126 (lsL b z i) [] := by
  refine j_aload_n E 3 rfl dL_law_2126 ?_
  refine j_aload_n E 4 rfl dL_law_2127 ?_
  refine j_iload E 0 rfl dL_law_2128 ?_
  refine j_iconst E (nI 1) rfl dL_law_2130 ?_
  refine j_iadd E dL_law_2131 ?_
  refine j_name (nI_add i 1).symm ?_
  refine j_sld E C (by omega) dL_law_2132 ?_
  refine j_aload_n E 1 rfl dL_law_2133 ?_
  refine j_invW (n0 := 3) [] [.int kk] E hW ml_L_291 st_L_lotVariety in_L cd_L_lotVariety rfl (by decide +kernel) rfl ⟨hrw, by show 8 + (_ + 11) + 64 * d ≤ 84000; omega⟩ rfl rfl (le_ rfl) ⟨by show k + q1 ≤ 601024; omega, by show n + q2 ≤ 7293034; omega⟩ dL_law_2134 ?_
  refine j_istore (ls' := (5, .int kk) :: lsL b z i) E (lt_ rfl) rfl dL_law_2137 ?_
  refine j_aload_n E 3 rfl dL_law_2139 ?_
  refine j_aload_n E 5 rfl dL_law_2140 ?_
  refine j_iload E 1 rfl dL_law_2141 ?_
  refine j_iconst E (nI 1) rfl dL_law_2143 ?_
  refine j_iadd E dL_law_2144 ?_
  refine j_name (nI_add i 1).symm ?_
  refine j_sld E C (by omega) dL_law_2145 ?_
  refine j_invV [] [.int r] E hM ml_L_293 mv_X12_lotVariety rfl ⟨le_ rfl, le_ rfl⟩ (rcM (f1 := 1) cf_X12) rfl rfl (le_ rfl) ⟨by show k + q1 + 0 ≤ 601024; omega, by show n + q2 + 0 ≤ 7293034; omega⟩ dL_law_2146 ?_
  refine j_istore (ls' := (6, .int r) :: (5, .int kk) :: lsL b z i) E (lt_ rfl) rfl dL_law_2149 ?_
  refine j_aload_n E 4 rfl dL_law_2151 ?_
  refine j_invV [] [.int kk] E (c_X12_thrown (f1 := 1) hT) ml_L_159 mv_X12_thrown rfl ⟨le_ rfl, le_ rfl⟩ (rcM (f1 := 1) cf_X12) rfl rfl (le_ rfl) ⟨by show k + q1 + 0 + 0 ≤ 601024; omega, by show n + q2 + 0 + 0 ≤ 7293034; omega⟩ dL_law_2152 ?_
  refine j_iload E 1 rfl dL_law_2155 ?_
  refine j_icmp_eq E 2162 (by decide) dL_law_2157 (fun _ => ?_) (fun q => absurd rfl q)
  have fin : J p l e room_1 s m args below meth c D z (GG D z (X', (2, M', o'))) (k + 100) (n + 10000) Q 9 3238 ((6, .int r) :: (5, .int kk) :: lsL b z i) [] := j_sub (ls' := lsL b z i) [2, 3, 4, 5, 6] rfl h
  refine j_iload E 1 rfl dL_law_2162 ?_
  refine j_if_ne E 2179 (by decide) dL_law_2164 (fun _ => ?_) (fun q0 => ?_)
  · refine j_goto E 3238 (by decide) dL_law_2179 ?_
    exact j_widen (by show k + q1 + 0 + 0 ≤ k + 100; omega) (by show n + q2 + 0 + 0 ≤ n + 10000; omega) fin
  · refine j_aload_n E 3 rfl dL_law_2167 ?_
    refine j_iconst E 0 ic_0 dL_law_2168 ?_
    refine j_laldO (f1 := 0) E dL_law_2169 ?_
    refine j_iload E 0 rfl dL_law_2170 ?_
    refine j_i2l E dL_law_2172 ?_
    refine j_lcmp E dL_law_2173 ?_
    refine j_if_eq E 2179 (by decide) dL_law_2174 (fun _ => ?_) (fun q => absurd ((cmp_eq _ _).mpr (hres q0)) q)
    refine j_goto E 3238 (by decide) dL_law_2179 ?_
    exact j_widen (by show k + q1 + 0 + 0 ≤ k + 100; omega) (by show n + q2 + 0 + 0 ≤ n + 10000; omega) fin
set_option maxRecDepth 20000 in
theorem la_lotVariety {p : Program} {l : Launch} {e : Env} {s : State} {m : MethodId} {args : Array Value} {below : List Frame} {meth : Method} {c : Code} {D : DD} {z : Nat} {k n : Nat} {Q : State → Prop} {b L i : Nat} {xs : Nat → Int32} {X : XT} {M : MT} {o : Int64} (hl : l.stackTraces = false) (E : Cx p s m args meth c D z RL cL_law 9 (some .boolean)) (C : LC s z b L xs) (hi : i + 6 ≤ L) (hk : k + 100 ≤ 601024) (hn : n + 10000 ≤ 7293034) (hr : RR X M) (h : ∀ X' M' o', RR X' M' → J p l e room_1 s m args below meth c D z (GG D z (X', (2, M', o'))) (k + 100) (n + 10000) Q 9 3238 (lsL b z i) []) : J p l e room_1 s m args below meth c D z (GG D z (X, (2, M, o))) k n Q 9 2126 (lsL b z i) [] := by
  rcases s_lotVariety hr (xs (i + 1)) with ⟨r, a1, a2⟩ | ⟨e, k', r, hm, a1, a2⟩
  · exact lb_lotVariety E C hi hk hn (by decide) (by decide) (by decide) (by decide) (w_lotVariety (f1 := 0) a1) (c_X12_lotVariety (f1 := 1) a2) (by unfold f_X12_thrown; rw [mi00]) (fun _ => rfl) (h X _ _ (hr.thr 0))
  · simp only [List.mem_cons, List.not_mem_nil, or_false, Prod.mk.injEq] at hm
    obtain ⟨rfl, rfl⟩ := hm
    exact lb_lotVariety E C hi hk hn (by decide) (by decide) (by decide) (by decide) (wx_lotVariety_2 (f1 := 0) hl a1) (c_X12_lotVariety (f1 := 1) a2) (by unfold f_X12_thrown; rw [mi00]) (fun q => absurd q (by decide)) (h X _ _ (hr.thr 1))
set_option maxRecDepth 20000 in
theorem lb_lotSugar {p : Program} {l : Launch} {e : Env} {s : State} {m : MethodId} {args : Array Value} {below : List Frame} {meth : Method} {c : Code} {D : DD} {z : Nat} {k n : Nat} {Q : State → Prop} {b L i : Nat} {xs : Nat → Int32} {X : XT} {M : MT} {o : Int64} (E : Cx p s m args meth c D z RL cL_law 9 (some .boolean)) (C : LC s z b L xs) (hi : i + 6 ≤ L) (hk : k + 100 ≤ 601024) (hn : n + 10000 ≤ 7293034) {d q1 q2 : Nat} {kk r : Int32} {o' : Int64} {X' : XT} {M' : MT} (hrw : d + 1 ≤ 2048) (hrl : d ≤ 1000) (hrc : q1 ≤ 64) (hrs : q2 ≤ 8000) (hW : CW l yL_lotSugar cL_lotSugar 4 (some .int) [(0, 9, 12, 28)] (rmk d q1 q2) D z [.ref (z + aX 0 0 0), .int (xs (i + 1)), .ref (z + 537)] (GG D z (X, (2, M, o))) (some (.int kk)) (GG D z (X', (2, M, o')))) (hM : CC l yX12_lotSugar cX12_lotSugar 2 (some .int) (rmk 4 0 0) D z [.ref (z + aM 0), .int (xs (i + 1))] (GG D z (X', (2, M, o'))) (some (.int r)) (GG D z (X', (2, M', o')))) (hT : f_X12_thrown M' = some kk) (hres : kk = 0 → o' = r.toInt64) (h : J p l e room_1 s m args below meth c D z (GG D z (X', (2, M', o'))) (k + 100) (n + 10000) Q 9 3238 (lsL b z i) []) : J p l e room_1 s m args below meth c D z (GG D z (X, (2, M, o))) k n Q 9 2182 (lsL b z i) [] := by
  refine j_aload_n E 3 rfl dL_law_2182 ?_
  refine j_aload_n E 4 rfl dL_law_2183 ?_
  refine j_iload E 0 rfl dL_law_2184 ?_
  refine j_iconst E (nI 1) rfl dL_law_2186 ?_
  refine j_iadd E dL_law_2187 ?_
  refine j_name (nI_add i 1).symm ?_
  refine j_sld E C (by omega) dL_law_2188 ?_
  refine j_aload_n E 1 rfl dL_law_2189 ?_
  refine j_invW (n0 := 3) [] [.int kk] E hW ml_L_294 st_L_lotSugar in_L cd_L_lotSugar rfl (by decide +kernel) rfl ⟨hrw, by show 8 + (_ + 11) + 64 * d ≤ 84000; omega⟩ rfl rfl (le_ rfl) ⟨by show k + q1 ≤ 601024; omega, by show n + q2 ≤ 7293034; omega⟩ dL_law_2190 ?_
  refine j_istore (ls' := (5, .int kk) :: lsL b z i) E (lt_ rfl) rfl dL_law_2193 ?_
  refine j_aload_n E 3 rfl dL_law_2195 ?_
  refine j_aload_n E 5 rfl dL_law_2196 ?_
  refine j_iload E 1 rfl dL_law_2197 ?_
  refine j_iconst E (nI 1) rfl dL_law_2199 ?_
  refine j_iadd E dL_law_2200 ?_
  refine j_name (nI_add i 1).symm ?_
  refine j_sld E C (by omega) dL_law_2201 ?_
  refine j_invV [] [.int r] E hM ml_L_296 mv_X12_lotSugar rfl ⟨le_ rfl, le_ rfl⟩ (rcM (f1 := 1) cf_X12) rfl rfl (le_ rfl) ⟨by show k + q1 + 0 ≤ 601024; omega, by show n + q2 + 0 ≤ 7293034; omega⟩ dL_law_2202 ?_
  refine j_istore (ls' := (6, .int r) :: (5, .int kk) :: lsL b z i) E (lt_ rfl) rfl dL_law_2205 ?_
  refine j_aload_n E 4 rfl dL_law_2207 ?_
  refine j_invV [] [.int kk] E (c_X12_thrown (f1 := 1) hT) ml_L_159 mv_X12_thrown rfl ⟨le_ rfl, le_ rfl⟩ (rcM (f1 := 1) cf_X12) rfl rfl (le_ rfl) ⟨by show k + q1 + 0 + 0 ≤ 601024; omega, by show n + q2 + 0 + 0 ≤ 7293034; omega⟩ dL_law_2208 ?_
  refine j_iload E 1 rfl dL_law_2211 ?_
  refine j_icmp_eq E 2218 (by decide) dL_law_2213 (fun _ => ?_) (fun q => absurd rfl q)
  have fin : J p l e room_1 s m args below meth c D z (GG D z (X', (2, M', o'))) (k + 100) (n + 10000) Q 9 3238 ((6, .int r) :: (5, .int kk) :: lsL b z i) [] := j_sub (ls' := lsL b z i) [2, 3, 4, 5, 6] rfl h
  refine j_iload E 1 rfl dL_law_2218 ?_
  refine j_if_ne E 2235 (by decide) dL_law_2220 (fun _ => ?_) (fun q0 => ?_)
  · refine j_goto E 3238 (by decide) dL_law_2235 ?_
    exact j_widen (by show k + q1 + 0 + 0 ≤ k + 100; omega) (by show n + q2 + 0 + 0 ≤ n + 10000; omega) fin
  · refine j_aload_n E 3 rfl dL_law_2223 ?_
    refine j_iconst E 0 ic_0 dL_law_2224 ?_
    refine j_laldO (f1 := 0) E dL_law_2225 ?_
    refine j_iload E 0 rfl dL_law_2226 ?_
    refine j_i2l E dL_law_2228 ?_
    refine j_lcmp E dL_law_2229 ?_
    refine j_if_eq E 2235 (by decide) dL_law_2230 (fun _ => ?_) (fun q => absurd ((cmp_eq _ _).mpr (hres q0)) q)
    refine j_goto E 3238 (by decide) dL_law_2235 ?_
    exact j_widen (by show k + q1 + 0 + 0 ≤ k + 100; omega) (by show n + q2 + 0 + 0 ≤ n + 10000; omega) fin
set_option maxRecDepth 20000 in
theorem la_lotSugar {p : Program} {l : Launch} {e : Env} {s : State} {m : MethodId} {args : Array Value} {below : List Frame} {meth : Method} {c : Code} {D : DD} {z : Nat} {k n : Nat} {Q : State → Prop} {b L i : Nat} {xs : Nat → Int32} {X : XT} {M : MT} {o : Int64} (hl : l.stackTraces = false) (E : Cx p s m args meth c D z RL cL_law 9 (some .boolean)) (C : LC s z b L xs) (hi : i + 6 ≤ L) (hk : k + 100 ≤ 601024) (hn : n + 10000 ≤ 7293034) (hr : RR X M) (h : ∀ X' M' o', RR X' M' → J p l e room_1 s m args below meth c D z (GG D z (X', (2, M', o'))) (k + 100) (n + 10000) Q 9 3238 (lsL b z i) []) : J p l e room_1 s m args below meth c D z (GG D z (X, (2, M, o))) k n Q 9 2182 (lsL b z i) [] := by
  rcases s_lotSugar hr (xs (i + 1)) with ⟨r, a1, a2⟩ | ⟨e, k', r, hm, a1, a2⟩
  · exact lb_lotSugar E C hi hk hn (by decide) (by decide) (by decide) (by decide) (w_lotSugar (f1 := 0) a1) (c_X12_lotSugar (f1 := 1) a2) (by unfold f_X12_thrown; rw [mi00]) (fun _ => rfl) (h X _ _ (hr.thr 0))
  · simp only [List.mem_cons, List.not_mem_nil, or_false, Prod.mk.injEq] at hm
    obtain ⟨rfl, rfl⟩ := hm
    exact lb_lotSugar E C hi hk hn (by decide) (by decide) (by decide) (by decide) (wx_lotSugar_2 (f1 := 0) hl a1) (c_X12_lotSugar (f1 := 1) a2) (by unfold f_X12_thrown; rw [mi00]) (fun q => absurd q (by decide)) (h X _ _ (hr.thr 1))
set_option maxRecDepth 20000 in
theorem lb_unsold {p : Program} {l : Launch} {e : Env} {s : State} {m : MethodId} {args : Array Value} {below : List Frame} {meth : Method} {c : Code} {D : DD} {z : Nat} {k n : Nat} {Q : State → Prop} {b L i : Nat} {xs : Nat → Int32} {X : XT} {M : MT} {o : Int64} (E : Cx p s m args meth c D z RL cL_law 9 (some .boolean)) (C : LC s z b L xs) (hi : i + 6 ≤ L) (hk : k + 100 ≤ 601024) (hn : n + 10000 ≤ 7293034) {d q1 q2 : Nat} {kk r : Int32} {o' : Int64} {X' : XT} {M' : MT} (hrw : d + 1 ≤ 2048) (hrl : d ≤ 1000) (hrc : q1 ≤ 64) (hrs : q2 ≤ 8000) (hW : CW l yL_unsold cL_unsold 4 (some .int) [(0, 9, 12, 28)] (rmk d q1 q2) D z [.ref (z + aX 0 0 0), .int (xs (i + 1)), .ref (z + 537)] (GG D z (X, (2, M, o))) (some (.int kk)) (GG D z (X', (2, M, o')))) (hM : CC l yX12_unsold cX12_unsold 2 (some .int) (rmk 4 0 0) D z [.ref (z + aM 0), .int (xs (i + 1))] (GG D z (X', (2, M, o'))) (some (.int r)) (GG D z (X', (2, M', o')))) (hT : f_X12_thrown M' = some kk) (hres : kk = 0 → o' = r.toInt64) (h : J p l e room_1 s m args below meth c D z (GG D z (X', (2, M', o'))) (k + 100) (n + 10000) Q 9 3238 (lsL b z i) []) : J p l e room_1 s m args below meth c D z (GG D z (X, (2, M, o))) k n Q 9 2238 (lsL b z i) [] := by
  refine j_aload_n E 3 rfl dL_law_2238 ?_
  refine j_aload_n E 4 rfl dL_law_2239 ?_
  refine j_iload E 0 rfl dL_law_2240 ?_
  refine j_iconst E (nI 1) rfl dL_law_2242 ?_
  refine j_iadd E dL_law_2243 ?_
  refine j_name (nI_add i 1).symm ?_
  refine j_sld E C (by omega) dL_law_2244 ?_
  refine j_aload_n E 1 rfl dL_law_2245 ?_
  refine j_invW (n0 := 3) [] [.int kk] E hW ml_L_297 st_L_unsold in_L cd_L_unsold rfl (by decide +kernel) rfl ⟨hrw, by show 8 + (_ + 11) + 64 * d ≤ 84000; omega⟩ rfl rfl (le_ rfl) ⟨by show k + q1 ≤ 601024; omega, by show n + q2 ≤ 7293034; omega⟩ dL_law_2246 ?_
  refine j_istore (ls' := (5, .int kk) :: lsL b z i) E (lt_ rfl) rfl dL_law_2249 ?_
  refine j_aload_n E 3 rfl dL_law_2251 ?_
  refine j_aload_n E 5 rfl dL_law_2252 ?_
  refine j_iload E 1 rfl dL_law_2253 ?_
  refine j_iconst E (nI 1) rfl dL_law_2255 ?_
  refine j_iadd E dL_law_2256 ?_
  refine j_name (nI_add i 1).symm ?_
  refine j_sld E C (by omega) dL_law_2257 ?_
  refine j_invV [] [.int r] E hM ml_L_299 mv_X12_unsold rfl ⟨le_ rfl, le_ rfl⟩ (rcM (f1 := 1) cf_X12) rfl rfl (le_ rfl) ⟨by show k + q1 + 0 ≤ 601024; omega, by show n + q2 + 0 ≤ 7293034; omega⟩ dL_law_2258 ?_
  refine j_istore (ls' := (6, .int r) :: (5, .int kk) :: lsL b z i) E (lt_ rfl) rfl dL_law_2261 ?_
  refine j_aload_n E 4 rfl dL_law_2263 ?_
  refine j_invV [] [.int kk] E (c_X12_thrown (f1 := 1) hT) ml_L_159 mv_X12_thrown rfl ⟨le_ rfl, le_ rfl⟩ (rcM (f1 := 1) cf_X12) rfl rfl (le_ rfl) ⟨by show k + q1 + 0 + 0 ≤ 601024; omega, by show n + q2 + 0 + 0 ≤ 7293034; omega⟩ dL_law_2264 ?_
  refine j_iload E 1 rfl dL_law_2267 ?_
  refine j_icmp_eq E 2274 (by decide) dL_law_2269 (fun _ => ?_) (fun q => absurd rfl q)
  have fin : J p l e room_1 s m args below meth c D z (GG D z (X', (2, M', o'))) (k + 100) (n + 10000) Q 9 3238 ((6, .int r) :: (5, .int kk) :: lsL b z i) [] := j_sub (ls' := lsL b z i) [2, 3, 4, 5, 6] rfl h
  refine j_iload E 1 rfl dL_law_2274 ?_
  refine j_if_ne E 2291 (by decide) dL_law_2276 (fun _ => ?_) (fun q0 => ?_)
  · refine j_goto E 3238 (by decide) dL_law_2291 ?_
    exact j_widen (by show k + q1 + 0 + 0 ≤ k + 100; omega) (by show n + q2 + 0 + 0 ≤ n + 10000; omega) fin
  · refine j_aload_n E 3 rfl dL_law_2279 ?_
    refine j_iconst E 0 ic_0 dL_law_2280 ?_
    refine j_laldO (f1 := 0) E dL_law_2281 ?_
    refine j_iload E 0 rfl dL_law_2282 ?_
    refine j_i2l E dL_law_2284 ?_
    refine j_lcmp E dL_law_2285 ?_
    refine j_if_eq E 2291 (by decide) dL_law_2286 (fun _ => ?_) (fun q => absurd ((cmp_eq _ _).mpr (hres q0)) q)
    refine j_goto E 3238 (by decide) dL_law_2291 ?_
    exact j_widen (by show k + q1 + 0 + 0 ≤ k + 100; omega) (by show n + q2 + 0 + 0 ≤ n + 10000; omega) fin
set_option maxRecDepth 20000 in
theorem la_unsold {p : Program} {l : Launch} {e : Env} {s : State} {m : MethodId} {args : Array Value} {below : List Frame} {meth : Method} {c : Code} {D : DD} {z : Nat} {k n : Nat} {Q : State → Prop} {b L i : Nat} {xs : Nat → Int32} {X : XT} {M : MT} {o : Int64} (hl : l.stackTraces = false) (E : Cx p s m args meth c D z RL cL_law 9 (some .boolean)) (C : LC s z b L xs) (hi : i + 6 ≤ L) (hk : k + 100 ≤ 601024) (hn : n + 10000 ≤ 7293034) (hr : RR X M) (h : ∀ X' M' o', RR X' M' → J p l e room_1 s m args below meth c D z (GG D z (X', (2, M', o'))) (k + 100) (n + 10000) Q 9 3238 (lsL b z i) []) : J p l e room_1 s m args below meth c D z (GG D z (X, (2, M, o))) k n Q 9 2238 (lsL b z i) [] := by
  rcases s_unsold hr (xs (i + 1)) with ⟨r, a1, a2⟩ | ⟨e, k', r, hm, a1, a2⟩
  · exact lb_unsold E C hi hk hn (by decide) (by decide) (by decide) (by decide) (w_unsold (f1 := 0) a1) (c_X12_unsold (f1 := 1) a2) (by unfold f_X12_thrown; rw [mi00]) (fun _ => rfl) (h X _ _ (hr.thr 0))
  · simp only [List.mem_cons, List.not_mem_nil, or_false, Prod.mk.injEq] at hm
    obtain ⟨rfl, rfl⟩ := hm
    exact lb_unsold E C hi hk hn (by decide) (by decide) (by decide) (by decide) (wx_unsold_2 (f1 := 0) hl a1) (c_X12_unsold (f1 := 1) a2) (by unfold f_X12_thrown; rw [mi00]) (fun q => absurd q (by decide)) (h X _ _ (hr.thr 1))
set_option maxRecDepth 20000 in
theorem lb_sweetestLot {p : Program} {l : Launch} {e : Env} {s : State} {m : MethodId} {args : Array Value} {below : List Frame} {meth : Method} {c : Code} {D : DD} {z : Nat} {k n : Nat} {Q : State → Prop} {b L i : Nat} {xs : Nat → Int32} {X : XT} {M : MT} {o : Int64} (E : Cx p s m args meth c D z RL cL_law 9 (some .boolean)) (C : LC s z b L xs) (hi : i + 6 ≤ L) (hk : k + 100 ≤ 601024) (hn : n + 10000 ≤ 7293034) {r : Int32} {M' : MT} (hx : f_X11_sweetestLot X = some r) (hm : f_X12_sweetestLot M = some (r, M')) (h : J p l e room_1 s m args below meth c D z (GG D z (X, (2, M', o))) (k + 100) (n + 10000) Q 9 3238 (lsL b z i) []) : J p l e room_1 s m args below meth c D z (GG D z (X, (2, M, o))) k n Q 9 2294 (lsL b z i) [] := by
  refine j_aload_n E 3 rfl dL_law_2294 ?_
  refine j_invV [] [.int r] E (c_X11_sweetestLot hx) ml_L_300 mv_X11_sweetestLot rfl ⟨le_ rfl, le_ rfl⟩ (rcX ok0 cf_X11 ent0) rfl rfl (le_ rfl) ⟨by show k + 0 ≤ 601024; omega, by show n + 0 ≤ 7293034; omega⟩ dL_law_2295 ?_
  refine j_aload_n E 2 rfl dL_law_2298 ?_
  refine j_invV [.int r] [.int r, .int r] E (c_X12_sweetestLot (f1 := 1) hm) ml_L_303 mv_X12_sweetestLot rfl ⟨le_ rfl, le_ rfl⟩ (rcM (f1 := 1) cf_X12) rfl rfl (le_ rfl) ⟨by show k + 0 + 0 ≤ 601024; omega, by show n + 0 + 0 ≤ 7293034; omega⟩ dL_law_2299 ?_
  refine j_icmp_eq E 3238 (by decide) dL_law_2302 (fun _ => ?_) (fun q => absurd rfl q)
  exact j_widen (by show k + 0 + 0 ≤ k + 100; omega) (by show n + 0 + 0 ≤ n + 10000; omega) h
set_option maxRecDepth 20000 in
theorem la_sweetestLot {p : Program} {l : Launch} {e : Env} {s : State} {m : MethodId} {args : Array Value} {below : List Frame} {meth : Method} {c : Code} {D : DD} {z : Nat} {k n : Nat} {Q : State → Prop} {b L i : Nat} {xs : Nat → Int32} {X : XT} {M : MT} {o : Int64} (hl : l.stackTraces = false) (E : Cx p s m args meth c D z RL cL_law 9 (some .boolean)) (C : LC s z b L xs) (hi : i + 6 ≤ L) (hk : k + 100 ≤ 601024) (hn : n + 10000 ≤ 7293034) (hr : RR X M) (h : ∀ X' M' o', RR X' M' → J p l e room_1 s m args below meth c D z (GG D z (X', (2, M', o'))) (k + 100) (n + 10000) Q 9 3238 (lsL b z i) []) : J p l e room_1 s m args below meth c D z (GG D z (X, (2, M, o))) k n Q 9 2294 (lsL b z i) [] := by
  obtain ⟨r, a1, a2⟩ := s_sweetestLot hr
  exact lb_sweetestLot E C hi hk hn a1 a2 (h X _ o (hr.thr 0))
set_option maxRecDepth 20000 in
theorem lb_bottlesOf {p : Program} {l : Launch} {e : Env} {s : State} {m : MethodId} {args : Array Value} {below : List Frame} {meth : Method} {c : Code} {D : DD} {z : Nat} {k n : Nat} {Q : State → Prop} {b L i : Nat} {xs : Nat → Int32} {X : XT} {M : MT} {o : Int64} (E : Cx p s m args meth c D z RL cL_law 9 (some .boolean)) (C : LC s z b L xs) (hi : i + 6 ≤ L) (hk : k + 100 ≤ 601024) (hn : n + 10000 ≤ 7293034) {d q1 q2 : Nat} {kk r : Int32} {o' : Int64} {X' : XT} {M' : MT} (hrw : d + 1 ≤ 2048) (hrl : d ≤ 1000) (hrc : q1 ≤ 64) (hrs : q2 ≤ 8000) (hW : CW l yL_bottlesOf cL_bottlesOf 4 (some .int) [(0, 9, 12, 28)] (rmk d q1 q2) D z [.ref (z + aX 0 0 0), .int (xs (i + 1)), .ref (z + 537)] (GG D z (X, (2, M, o))) (some (.int kk)) (GG D z (X', (2, M, o')))) (hM : CC l yX12_bottlesOf cX12_bottlesOf 4 (some .int) (rmk 3 0 0) D z [.ref (z + aM 0), .int (xs (i + 1))] (GG D z (X', (2, M, o'))) (some (.int r)) (GG D z (X', (2, M', o')))) (hT : f_X12_thrown M' = some kk) (hres : kk = 0 → o' = r.toInt64) (h : J p l e room_1 s m args below meth c D z (GG D z (X', (2, M', o'))) (k + 100) (n + 10000) Q 9 3238 (lsL b z i) []) : J p l e room_1 s m args below meth c D z (GG D z (X, (2, M, o))) k n Q 9 2307 (lsL b z i) [] := by
  refine j_aload_n E 3 rfl dL_law_2307 ?_
  refine j_aload_n E 4 rfl dL_law_2308 ?_
  refine j_iload E 0 rfl dL_law_2309 ?_
  refine j_iconst E (nI 1) rfl dL_law_2311 ?_
  refine j_iadd E dL_law_2312 ?_
  refine j_name (nI_add i 1).symm ?_
  refine j_sld E C (by omega) dL_law_2313 ?_
  refine j_aload_n E 1 rfl dL_law_2314 ?_
  refine j_invW (n0 := 3) [] [.int kk] E hW ml_L_304 st_L_bottlesOf in_L cd_L_bottlesOf rfl (by decide +kernel) rfl ⟨hrw, by show 8 + (_ + 11) + 64 * d ≤ 84000; omega⟩ rfl rfl (le_ rfl) ⟨by show k + q1 ≤ 601024; omega, by show n + q2 ≤ 7293034; omega⟩ dL_law_2315 ?_
  refine j_istore (ls' := (5, .int kk) :: lsL b z i) E (lt_ rfl) rfl dL_law_2318 ?_
  refine j_aload_n E 3 rfl dL_law_2320 ?_
  refine j_aload_n E 5 rfl dL_law_2321 ?_
  refine j_iload E 1 rfl dL_law_2322 ?_
  refine j_iconst E (nI 1) rfl dL_law_2324 ?_
  refine j_iadd E dL_law_2325 ?_
  refine j_name (nI_add i 1).symm ?_
  refine j_sld E C (by omega) dL_law_2326 ?_
  refine j_invV [] [.int r] E hM ml_L_306 mv_X12_bottlesOf rfl ⟨le_ rfl, le_ rfl⟩ (rcM (f1 := 1) cf_X12) rfl rfl (le_ rfl) ⟨by show k + q1 + 0 ≤ 601024; omega, by show n + q2 + 0 ≤ 7293034; omega⟩ dL_law_2327 ?_
  refine j_istore (ls' := (6, .int r) :: (5, .int kk) :: lsL b z i) E (lt_ rfl) rfl dL_law_2330 ?_
  refine j_aload_n E 4 rfl dL_law_2332 ?_
  refine j_invV [] [.int kk] E (c_X12_thrown (f1 := 1) hT) ml_L_159 mv_X12_thrown rfl ⟨le_ rfl, le_ rfl⟩ (rcM (f1 := 1) cf_X12) rfl rfl (le_ rfl) ⟨by show k + q1 + 0 + 0 ≤ 601024; omega, by show n + q2 + 0 + 0 ≤ 7293034; omega⟩ dL_law_2333 ?_
  refine j_iload E 1 rfl dL_law_2336 ?_
  refine j_icmp_eq E 2343 (by decide) dL_law_2338 (fun _ => ?_) (fun q => absurd rfl q)
  have fin : J p l e room_1 s m args below meth c D z (GG D z (X', (2, M', o'))) (k + 100) (n + 10000) Q 9 3238 ((6, .int r) :: (5, .int kk) :: lsL b z i) [] := j_sub (ls' := lsL b z i) [2, 3, 4, 5, 6] rfl h
  refine j_iload E 1 rfl dL_law_2343 ?_
  refine j_if_ne E 2360 (by decide) dL_law_2345 (fun _ => ?_) (fun q0 => ?_)
  · refine j_goto E 3238 (by decide) dL_law_2360 ?_
    exact j_widen (by show k + q1 + 0 + 0 ≤ k + 100; omega) (by show n + q2 + 0 + 0 ≤ n + 10000; omega) fin
  · refine j_aload_n E 3 rfl dL_law_2348 ?_
    refine j_iconst E 0 ic_0 dL_law_2349 ?_
    refine j_laldO (f1 := 0) E dL_law_2350 ?_
    refine j_iload E 0 rfl dL_law_2351 ?_
    refine j_i2l E dL_law_2353 ?_
    refine j_lcmp E dL_law_2354 ?_
    refine j_if_eq E 2360 (by decide) dL_law_2355 (fun _ => ?_) (fun q => absurd ((cmp_eq _ _).mpr (hres q0)) q)
    refine j_goto E 3238 (by decide) dL_law_2360 ?_
    exact j_widen (by show k + q1 + 0 + 0 ≤ k + 100; omega) (by show n + q2 + 0 + 0 ≤ n + 10000; omega) fin
set_option maxRecDepth 20000 in
theorem la_bottlesOf {p : Program} {l : Launch} {e : Env} {s : State} {m : MethodId} {args : Array Value} {below : List Frame} {meth : Method} {c : Code} {D : DD} {z : Nat} {k n : Nat} {Q : State → Prop} {b L i : Nat} {xs : Nat → Int32} {X : XT} {M : MT} {o : Int64} (hl : l.stackTraces = false) (E : Cx p s m args meth c D z RL cL_law 9 (some .boolean)) (C : LC s z b L xs) (hi : i + 6 ≤ L) (hk : k + 100 ≤ 601024) (hn : n + 10000 ≤ 7293034) (hr : RR X M) (h : ∀ X' M' o', RR X' M' → J p l e room_1 s m args below meth c D z (GG D z (X', (2, M', o'))) (k + 100) (n + 10000) Q 9 3238 (lsL b z i) []) : J p l e room_1 s m args below meth c D z (GG D z (X, (2, M, o))) k n Q 9 2307 (lsL b z i) [] := by
  rcases s_bottlesOf hr (xs (i + 1)) with ⟨r, a1, a2⟩ | ⟨e, k', r, hm, a1, a2⟩
  · exact lb_bottlesOf E C hi hk hn (by decide) (by decide) (by decide) (by decide) (w_bottlesOf (f1 := 0) a1) (c_X12_bottlesOf (f1 := 1) a2) (by unfold f_X12_thrown; rw [mi00]) (fun _ => rfl) (h X _ _ (hr.thr 0))
  · simp only [List.mem_cons, List.not_mem_nil, or_false, Prod.mk.injEq] at hm
    obtain ⟨rfl, rfl⟩ := hm
    exact lb_bottlesOf E C hi hk hn (by decide) (by decide) (by decide) (by decide) (wx_bottlesOf_2 (f1 := 0) hl a1) (c_X12_bottlesOf (f1 := 1) a2) (by unfold f_X12_thrown; rw [mi00]) (fun q => absurd q (by decide)) (h X _ _ (hr.thr 1))
set_option maxRecDepth 20000 in
theorem lb_missingCash {p : Program} {l : Launch} {e : Env} {s : State} {m : MethodId} {args : Array Value} {below : List Frame} {meth : Method} {c : Code} {D : DD} {z : Nat} {k n : Nat} {Q : State → Prop} {b L i : Nat} {xs : Nat → Int32} {X : XT} {M : MT} {o : Int64} (E : Cx p s m args meth c D z RL cL_law 9 (some .boolean)) (C : LC s z b L xs) (hi : i + 6 ≤ L) (hk : k + 100 ≤ 601024) (hn : n + 10000 ≤ 7293034) {r : Int32} {M' : MT} (hx : f_X11_missingCash X = some r) (hm : f_X12_missingCash M = some (r, M')) (h : J p l e room_1 s m args below meth c D z (GG D z (X, (2, M', o))) (k + 100) (n + 10000) Q 9 3238 (lsL b z i) []) : J p l e room_1 s m args below meth c D z (GG D z (X, (2, M, o))) k n Q 9 2363 (lsL b z i) [] := by
  refine j_aload_n E 3 rfl dL_law_2363 ?_
  refine j_invV [] [.int r] E (c_X11_missingCash hx) ml_L_307 mv_X11_missingCash rfl ⟨le_ rfl, le_ rfl⟩ (rcX ok0 cf_X11 ent0) rfl rfl (le_ rfl) ⟨by show k + 0 ≤ 601024; omega, by show n + 0 ≤ 7293034; omega⟩ dL_law_2364 ?_
  refine j_aload_n E 2 rfl dL_law_2367 ?_
  refine j_invV [.int r] [.int r, .int r] E (c_X12_missingCash (f1 := 1) hm) ml_L_310 mv_X12_missingCash rfl ⟨le_ rfl, le_ rfl⟩ (rcM (f1 := 1) cf_X12) rfl rfl (le_ rfl) ⟨by show k + 0 + 0 ≤ 601024; omega, by show n + 0 + 0 ≤ 7293034; omega⟩ dL_law_2368 ?_
  refine j_icmp_eq E 3238 (by decide) dL_law_2371 (fun _ => ?_) (fun q => absurd rfl q)
  exact j_widen (by show k + 0 + 0 ≤ k + 100; omega) (by show n + 0 + 0 ≤ n + 10000; omega) h
set_option maxRecDepth 20000 in
theorem la_missingCash {p : Program} {l : Launch} {e : Env} {s : State} {m : MethodId} {args : Array Value} {below : List Frame} {meth : Method} {c : Code} {D : DD} {z : Nat} {k n : Nat} {Q : State → Prop} {b L i : Nat} {xs : Nat → Int32} {X : XT} {M : MT} {o : Int64} (hl : l.stackTraces = false) (E : Cx p s m args meth c D z RL cL_law 9 (some .boolean)) (C : LC s z b L xs) (hi : i + 6 ≤ L) (hk : k + 100 ≤ 601024) (hn : n + 10000 ≤ 7293034) (hr : RR X M) (h : ∀ X' M' o', RR X' M' → J p l e room_1 s m args below meth c D z (GG D z (X', (2, M', o'))) (k + 100) (n + 10000) Q 9 3238 (lsL b z i) []) : J p l e room_1 s m args below meth c D z (GG D z (X, (2, M, o))) k n Q 9 2363 (lsL b z i) [] := by
  obtain ⟨r, a1, a2⟩ := s_missingCash hr
  exact lb_missingCash E C hi hk hn a1 a2 (h X _ o (hr.thr 0))
set_option maxRecDepth 20000 in
theorem lb_cash {p : Program} {l : Launch} {e : Env} {s : State} {m : MethodId} {args : Array Value} {below : List Frame} {meth : Method} {c : Code} {D : DD} {z : Nat} {k n : Nat} {Q : State → Prop} {b L i : Nat} {xs : Nat → Int32} {X : XT} {M : MT} {o : Int64} (E : Cx p s m args meth c D z RL cL_law 9 (some .boolean)) (C : LC s z b L xs) (hi : i + 6 ≤ L) (hk : k + 100 ≤ 601024) (hn : n + 10000 ≤ 7293034) {r : Int32} {M' : MT} (hx : f_X11_cash X = some r) (hm : f_X12_cash M = some (r, M')) (h : J p l e room_1 s m args below meth c D z (GG D z (X, (2, M', o))) (k + 100) (n + 10000) Q 9 3238 (lsL b z i) []) : J p l e room_1 s m args below meth c D z (GG D z (X, (2, M, o))) k n Q 9 2376 (lsL b z i) [] := by
  refine j_aload_n E 3 rfl dL_law_2376 ?_
  refine j_invV [] [.int r] E (c_X11_cash hx) ml_L_311 mv_X11_cash rfl ⟨le_ rfl, le_ rfl⟩ (rcX ok0 cf_X11 ent0) rfl rfl (le_ rfl) ⟨by show k + 0 ≤ 601024; omega, by show n + 0 ≤ 7293034; omega⟩ dL_law_2377 ?_
  refine j_aload_n E 2 rfl dL_law_2380 ?_
  refine j_invV [.int r] [.int r, .int r] E (c_X12_cash (f1 := 1) hm) ml_L_314 mv_X12_cash rfl ⟨le_ rfl, le_ rfl⟩ (rcM (f1 := 1) cf_X12) rfl rfl (le_ rfl) ⟨by show k + 0 + 0 ≤ 601024; omega, by show n + 0 + 0 ≤ 7293034; omega⟩ dL_law_2381 ?_
  refine j_icmp_eq E 3238 (by decide) dL_law_2384 (fun _ => ?_) (fun q => absurd rfl q)
  exact j_widen (by show k + 0 + 0 ≤ k + 100; omega) (by show n + 0 + 0 ≤ n + 10000; omega) h
set_option maxRecDepth 20000 in
theorem la_cash {p : Program} {l : Launch} {e : Env} {s : State} {m : MethodId} {args : Array Value} {below : List Frame} {meth : Method} {c : Code} {D : DD} {z : Nat} {k n : Nat} {Q : State → Prop} {b L i : Nat} {xs : Nat → Int32} {X : XT} {M : MT} {o : Int64} (hl : l.stackTraces = false) (E : Cx p s m args meth c D z RL cL_law 9 (some .boolean)) (C : LC s z b L xs) (hi : i + 6 ≤ L) (hk : k + 100 ≤ 601024) (hn : n + 10000 ≤ 7293034) (hr : RR X M) (h : ∀ X' M' o', RR X' M' → J p l e room_1 s m args below meth c D z (GG D z (X', (2, M', o'))) (k + 100) (n + 10000) Q 9 3238 (lsL b z i) []) : J p l e room_1 s m args below meth c D z (GG D z (X, (2, M, o))) k n Q 9 2376 (lsL b z i) [] := by
  obtain ⟨r, a1, a2⟩ := s_cash hr
  exact lb_cash E C hi hk hn a1 a2 (h X _ o (hr.thr 0))
set_option maxRecDepth 20000 in
theorem lb_owedToAll {p : Program} {l : Launch} {e : Env} {s : State} {m : MethodId} {args : Array Value} {below : List Frame} {meth : Method} {c : Code} {D : DD} {z : Nat} {k n : Nat} {Q : State → Prop} {b L i : Nat} {xs : Nat → Int32} {X : XT} {M : MT} {o : Int64} (E : Cx p s m args meth c D z RL cL_law 9 (some .boolean)) (C : LC s z b L xs) (hi : i + 6 ≤ L) (hk : k + 100 ≤ 601024) (hn : n + 10000 ≤ 7293034) {r : Int32} {M' : MT} (hx : f_X11_owedToAll X = some r) (hm : f_X12_owedToAll M = some (r, M')) (h : J p l e room_1 s m args below meth c D z (GG D z (X, (2, M', o))) (k + 100) (n + 10000) Q 9 3238 (lsL b z i) []) : J p l e room_1 s m args below meth c D z (GG D z (X, (2, M, o))) k n Q 9 2389 (lsL b z i) [] := by
  refine j_aload_n E 3 rfl dL_law_2389 ?_
  refine j_invV [] [.int r] E (c_X11_owedToAll hx) ml_L_315 mv_X11_owedToAll rfl ⟨le_ rfl, le_ rfl⟩ (rcX ok0 cf_X11 ent0) rfl rfl (le_ rfl) ⟨by show k + 0 ≤ 601024; omega, by show n + 0 ≤ 7293034; omega⟩ dL_law_2390 ?_
  refine j_aload_n E 2 rfl dL_law_2393 ?_
  refine j_invV [.int r] [.int r, .int r] E (c_X12_owedToAll (f1 := 1) hm) ml_L_318 mv_X12_owedToAll rfl ⟨le_ rfl, le_ rfl⟩ (rcM (f1 := 1) cf_X12) rfl rfl (le_ rfl) ⟨by show k + 0 + 0 ≤ 601024; omega, by show n + 0 + 0 ≤ 7293034; omega⟩ dL_law_2394 ?_
  refine j_icmp_eq E 3238 (by decide) dL_law_2397 (fun _ => ?_) (fun q => absurd rfl q)
  exact j_widen (by show k + 0 + 0 ≤ k + 100; omega) (by show n + 0 + 0 ≤ n + 10000; omega) h
set_option maxRecDepth 20000 in
theorem la_owedToAll {p : Program} {l : Launch} {e : Env} {s : State} {m : MethodId} {args : Array Value} {below : List Frame} {meth : Method} {c : Code} {D : DD} {z : Nat} {k n : Nat} {Q : State → Prop} {b L i : Nat} {xs : Nat → Int32} {X : XT} {M : MT} {o : Int64} (hl : l.stackTraces = false) (E : Cx p s m args meth c D z RL cL_law 9 (some .boolean)) (C : LC s z b L xs) (hi : i + 6 ≤ L) (hk : k + 100 ≤ 601024) (hn : n + 10000 ≤ 7293034) (hr : RR X M) (h : ∀ X' M' o', RR X' M' → J p l e room_1 s m args below meth c D z (GG D z (X', (2, M', o'))) (k + 100) (n + 10000) Q 9 3238 (lsL b z i) []) : J p l e room_1 s m args below meth c D z (GG D z (X, (2, M, o))) k n Q 9 2389 (lsL b z i) [] := by
  obtain ⟨r, a1, a2⟩ := s_owedToAll hr
  exact lb_owedToAll E C hi hk hn a1 a2 (h X _ o (hr.thr 0))
set_option maxRecDepth 20000 in
theorem lb_payableGrowers {p : Program} {l : Launch} {e : Env} {s : State} {m : MethodId} {args : Array Value} {below : List Frame} {meth : Method} {c : Code} {D : DD} {z : Nat} {k n : Nat} {Q : State → Prop} {b L i : Nat} {xs : Nat → Int32} {X : XT} {M : MT} {o : Int64} (E : Cx p s m args meth c D z RL cL_law 9 (some .boolean)) (C : LC s z b L xs) (hi : i + 6 ≤ L) (hk : k + 100 ≤ 601024) (hn : n + 10000 ≤ 7293034) {r : Int32} {M' : MT} (hx : f_X11_payableGrowers X = some r) (hm : f_X12_payableGrowers M = some (r, M')) (h : J p l e room_1 s m args below meth c D z (GG D z (X, (2, M', o))) (k + 100) (n + 10000) Q 9 3238 (lsL b z i) []) : J p l e room_1 s m args below meth c D z (GG D z (X, (2, M, o))) k n Q 9 2402 (lsL b z i) [] := by
  refine j_aload_n E 3 rfl dL_law_2402 ?_
  refine j_invV [] [.int r] E (c_X11_payableGrowers hx) ml_L_319 mv_X11_payableGrowers rfl ⟨le_ rfl, le_ rfl⟩ (rcX ok0 cf_X11 ent0) rfl rfl (le_ rfl) ⟨by show k + 0 ≤ 601024; omega, by show n + 0 ≤ 7293034; omega⟩ dL_law_2403 ?_
  refine j_aload_n E 2 rfl dL_law_2406 ?_
  refine j_invV [.int r] [.int r, .int r] E (c_X12_payableGrowers (f1 := 1) hm) ml_L_322 mv_X12_payableGrowers rfl ⟨le_ rfl, le_ rfl⟩ (rcM (f1 := 1) cf_X12) rfl rfl (le_ rfl) ⟨by show k + 0 + 0 ≤ 601024; omega, by show n + 0 + 0 ≤ 7293034; omega⟩ dL_law_2407 ?_
  refine j_icmp_eq E 3238 (by decide) dL_law_2410 (fun _ => ?_) (fun q => absurd rfl q)
  exact j_widen (by show k + 0 + 0 ≤ k + 100; omega) (by show n + 0 + 0 ≤ n + 10000; omega) h
set_option maxRecDepth 20000 in
theorem la_payableGrowers {p : Program} {l : Launch} {e : Env} {s : State} {m : MethodId} {args : Array Value} {below : List Frame} {meth : Method} {c : Code} {D : DD} {z : Nat} {k n : Nat} {Q : State → Prop} {b L i : Nat} {xs : Nat → Int32} {X : XT} {M : MT} {o : Int64} (hl : l.stackTraces = false) (E : Cx p s m args meth c D z RL cL_law 9 (some .boolean)) (C : LC s z b L xs) (hi : i + 6 ≤ L) (hk : k + 100 ≤ 601024) (hn : n + 10000 ≤ 7293034) (hr : RR X M) (h : ∀ X' M' o', RR X' M' → J p l e room_1 s m args below meth c D z (GG D z (X', (2, M', o'))) (k + 100) (n + 10000) Q 9 3238 (lsL b z i) []) : J p l e room_1 s m args below meth c D z (GG D z (X, (2, M, o))) k n Q 9 2402 (lsL b z i) [] := by
  obtain ⟨r, a1, a2⟩ := s_payableGrowers hr
  exact lb_payableGrowers E C hi hk hn a1 a2 (h X _ o (hr.thr 0))
