/-! THE LAW: its cases, 1 -/
set_option maxRecDepth 20000 in
theorem lb_greatestClass {p : Program} {l : Launch} {e : Env} {s : State} {m : MethodId} {args : Array Value} {below : List Frame} {meth : Method} {c : Code} {D : DD} {z : Nat} {k n : Nat} {Q : State → Prop} {b L i : Nat} {xs : Nat → Int32} {X : XT} {M : MT} {o : Int64} (E : Cx p s m args meth c D z RL cL_law 9 (some .boolean)) (C : LC s z b L xs) (hi : i + 6 ≤ L) (hk : k + 100 ≤ 601024) (hn : n + 10000 ≤ 7293034) {r : Int32} {M' : MT} (hx : f_X11_greatestClass X = some r) (hm : f_X12_greatestClass M = some (r, M')) (h : J p l e room_1 s m args below meth c D z (GG D z (X, (2, M', o))) (k + 100) (n + 10000) Q 9 3238 (lsL b z i) []) : J p l e room_1 s m args below meth c D z (GG D z (X, (2, M, o))) k n Q 9 850 (lsL b z i) [] := by
  refine j_aload_n E 3 rfl dL_law_850 ?_
  refine j_invV [] [.int r] E (c_X11_greatestClass hx) ml_L_219 mv_X11_greatestClass rfl ⟨le_ rfl, le_ rfl⟩ (rcX ok0 cf_X11 ent0) rfl rfl (le_ rfl) ⟨by show k + 0 ≤ 601024; omega, by show n + 0 ≤ 7293034; omega⟩ dL_law_851 ?_
  refine j_aload_n E 2 rfl dL_law_854 ?_
  refine j_invV [.int r] [.int r, .int r] E (c_X12_greatestClass (f1 := 1) hm) ml_L_222 mv_X12_greatestClass rfl ⟨le_ rfl, le_ rfl⟩ (rcM (f1 := 1) cf_X12) rfl rfl (le_ rfl) ⟨by show k + 0 + 0 ≤ 601024; omega, by show n + 0 + 0 ≤ 7293034; omega⟩ dL_law_855 ?_
  refine j_icmp_eq E 3238 (by decide) dL_law_858 (fun _ => ?_) (fun q => absurd rfl q)
  exact j_widen (by show k + 0 + 0 ≤ k + 100; omega) (by show n + 0 + 0 ≤ n + 10000; omega) h
set_option maxRecDepth 20000 in
theorem la_greatestClass {p : Program} {l : Launch} {e : Env} {s : State} {m : MethodId} {args : Array Value} {below : List Frame} {meth : Method} {c : Code} {D : DD} {z : Nat} {k n : Nat} {Q : State → Prop} {b L i : Nat} {xs : Nat → Int32} {X : XT} {M : MT} {o : Int64} (hl : l.stackTraces = false) (E : Cx p s m args meth c D z RL cL_law 9 (some .boolean)) (C : LC s z b L xs) (hi : i + 6 ≤ L) (hk : k + 100 ≤ 601024) (hn : n + 10000 ≤ 7293034) (hr : RR X M) (h : ∀ X' M' o', RR X' M' → J p l e room_1 s m args below meth c D z (GG D z (X', (2, M', o'))) (k + 100) (n + 10000) Q 9 3238 (lsL b z i) []) : J p l e room_1 s m args below meth c D z (GG D z (X, (2, M, o))) k n Q 9 850 (lsL b z i) [] := by
  obtain ⟨r, a1, a2⟩ := s_greatestClass hr
  exact lb_greatestClass E C hi hk hn a1 a2 (h X _ o (hr.thr 0))
set_option maxRecDepth 20000 in
theorem lb_plotsOf {p : Program} {l : Launch} {e : Env} {s : State} {m : MethodId} {args : Array Value} {below : List Frame} {meth : Method} {c : Code} {D : DD} {z : Nat} {k n : Nat} {Q : State → Prop} {b L i : Nat} {xs : Nat → Int32} {X : XT} {M : MT} {o : Int64} (E : Cx p s m args meth c D z RL cL_law 9 (some .boolean)) (C : LC s z b L xs) (hi : i + 6 ≤ L) (hk : k + 100 ≤ 601024) (hn : n + 10000 ≤ 7293034) {d q1 q2 : Nat} {kk r : Int32} {o' : Int64} {X' : XT} {M' : MT} (hrw : d + 1 ≤ 2048) (hrl : d ≤ 1000) (hrc : q1 ≤ 64) (hrs : q2 ≤ 8000) (hW : CW l yL_plotsOf cL_plotsOf 4 (some .int) [(0, 9, 12, 28)] (rmk d q1 q2) D z [.ref (z + aX 0 0 0), .int (xs (i + 1)), .ref (z + 537)] (GG D z (X, (2, M, o))) (some (.int kk)) (GG D z (X', (2, M, o')))) (hM : CC l yX12_plotsOf cX12_plotsOf 4 (some .int) (rmk 3 0 0) D z [.ref (z + aM 0), .int (xs (i + 1))] (GG D z (X', (2, M, o'))) (some (.int r)) (GG D z (X', (2, M', o')))) (hT : f_X12_thrown M' = some kk) (hres : kk = 0 → o' = r.toInt64) (h : J p l e room_1 s m args below meth c D z (GG D z (X', (2, M', o'))) (k + 100) (n + 10000) Q 9 3238 (lsL b z i) []) : J p l e room_1 s m args below meth c D z (GG D z (X, (2, M, o))) k n Q 9 863 (lsL b z i) [] := by
  refine j_aload_n E 3 rfl dL_law_863 ?_
  refine j_aload_n E 4 rfl dL_law_864 ?_
  refine j_iload E 0 rfl dL_law_865 ?_
  refine j_iconst E (nI 1) rfl dL_law_867 ?_
  refine j_iadd E dL_law_868 ?_
  refine j_name (nI_add i 1).symm ?_
  refine j_sld E C (by omega) dL_law_869 ?_
  refine j_aload_n E 1 rfl dL_law_870 ?_
  refine j_invW (n0 := 3) [] [.int kk] E hW ml_L_223 st_L_plotsOf in_L cd_L_plotsOf rfl (by decide +kernel) rfl ⟨hrw, by show 8 + (_ + 11) + 64 * d ≤ 84000; omega⟩ rfl rfl (le_ rfl) ⟨by show k + q1 ≤ 601024; omega, by show n + q2 ≤ 7293034; omega⟩ dL_law_871 ?_
  refine j_istore (ls' := (5, .int kk) :: lsL b z i) E (lt_ rfl) rfl dL_law_874 ?_
  refine j_aload_n E 3 rfl dL_law_876 ?_
  refine j_aload_n E 5 rfl dL_law_877 ?_
  refine j_iload E 1 rfl dL_law_878 ?_
  refine j_iconst E (nI 1) rfl dL_law_880 ?_
  refine j_iadd E dL_law_881 ?_
  refine j_name (nI_add i 1).symm ?_
  refine j_sld E C (by omega) dL_law_882 ?_
  refine j_invV [] [.int r] E hM ml_L_225 mv_X12_plotsOf rfl ⟨le_ rfl, le_ rfl⟩ (rcM (f1 := 1) cf_X12) rfl rfl (le_ rfl) ⟨by show k + q1 + 0 ≤ 601024; omega, by show n + q2 + 0 ≤ 7293034; omega⟩ dL_law_883 ?_
  refine j_istore (ls' := (6, .int r) :: (5, .int kk) :: lsL b z i) E (lt_ rfl) rfl dL_law_886 ?_
  refine j_aload_n E 4 rfl dL_law_888 ?_
  refine j_invV [] [.int kk] E (c_X12_thrown (f1 := 1) hT) ml_L_159 mv_X12_thrown rfl ⟨le_ rfl, le_ rfl⟩ (rcM (f1 := 1) cf_X12) rfl rfl (le_ rfl) ⟨by show k + q1 + 0 + 0 ≤ 601024; omega, by show n + q2 + 0 + 0 ≤ 7293034; omega⟩ dL_law_889 ?_
  refine j_iload E 1 rfl dL_law_892 ?_
  refine j_icmp_eq E 899 (by decide) dL_law_894 (fun _ => ?_) (fun q => absurd rfl q)
  have fin : J p l e room_1 s m args below meth c D z (GG D z (X', (2, M', o'))) (k + 100) (n + 10000) Q 9 3238 ((6, .int r) :: (5, .int kk) :: lsL b z i) [] := j_sub (ls' := lsL b z i) [2, 3, 4, 5, 6] rfl h
  refine j_iload E 1 rfl dL_law_899 ?_
  refine j_if_ne E 916 (by decide) dL_law_901 (fun _ => ?_) (fun q0 => ?_)
  · refine j_goto E 3238 (by decide) dL_law_916 ?_
    exact j_widen (by show k + q1 + 0 + 0 ≤ k + 100; omega) (by show n + q2 + 0 + 0 ≤ n + 10000; omega) fin
  · refine j_aload_n E 3 rfl dL_law_904 ?_
    refine j_iconst E 0 ic_0 dL_law_905 ?_
    refine j_laldO (f1 := 0) E dL_law_906 ?_
    refine j_iload E 0 rfl dL_law_907 ?_
    refine j_i2l E dL_law_909 ?_
    refine j_lcmp E dL_law_910 ?_
    refine j_if_eq E 916 (by decide) dL_law_911 (fun _ => ?_) (fun q => absurd ((cmp_eq _ _).mpr (hres q0)) q)
    refine j_goto E 3238 (by decide) dL_law_916 ?_
    exact j_widen (by show k + q1 + 0 + 0 ≤ k + 100; omega) (by show n + q2 + 0 + 0 ≤ n + 10000; omega) fin
set_option maxRecDepth 20000 in
theorem la_plotsOf {p : Program} {l : Launch} {e : Env} {s : State} {m : MethodId} {args : Array Value} {below : List Frame} {meth : Method} {c : Code} {D : DD} {z : Nat} {k n : Nat} {Q : State → Prop} {b L i : Nat} {xs : Nat → Int32} {X : XT} {M : MT} {o : Int64} (hl : l.stackTraces = false) (E : Cx p s m args meth c D z RL cL_law 9 (some .boolean)) (C : LC s z b L xs) (hi : i + 6 ≤ L) (hk : k + 100 ≤ 601024) (hn : n + 10000 ≤ 7293034) (hr : RR X M) (h : ∀ X' M' o', RR X' M' → J p l e room_1 s m args below meth c D z (GG D z (X', (2, M', o'))) (k + 100) (n + 10000) Q 9 3238 (lsL b z i) []) : J p l e room_1 s m args below meth c D z (GG D z (X, (2, M, o))) k n Q 9 863 (lsL b z i) [] := by
  rcases s_plotsOf hr (xs (i + 1)) with ⟨r, a1, a2⟩ | ⟨e, k', r, hm, a1, a2⟩
  · exact lb_plotsOf E C hi hk hn (by decide) (by decide) (by decide) (by decide) (w_plotsOf (f1 := 0) a1) (c_X12_plotsOf (f1 := 1) a2) (by unfold f_X12_thrown; rw [mi00]) (fun _ => rfl) (h X _ _ (hr.thr 0))
  · simp only [List.mem_cons, List.not_mem_nil, or_false, Prod.mk.injEq] at hm
    obtain ⟨rfl, rfl⟩ := hm
    exact lb_plotsOf E C hi hk hn (by decide) (by decide) (by decide) (by decide) (wx_plotsOf_2 (f1 := 0) hl a1) (c_X12_plotsOf (f1 := 1) a2) (by unfold f_X12_thrown; rw [mi00]) (fun q => absurd q (by decide)) (h X _ _ (hr.thr 1))
set_option maxRecDepth 20000 in
theorem lb_weightOf {p : Program} {l : Launch} {e : Env} {s : State} {m : MethodId} {args : Array Value} {below : List Frame} {meth : Method} {c : Code} {D : DD} {z : Nat} {k n : Nat} {Q : State → Prop} {b L i : Nat} {xs : Nat → Int32} {X : XT} {M : MT} {o : Int64} (E : Cx p s m args meth c D z RL cL_law 9 (some .boolean)) (C : LC s z b L xs) (hi : i + 6 ≤ L) (hk : k + 100 ≤ 601024) (hn : n + 10000 ≤ 7293034) {d q1 q2 : Nat} {kk r : Int32} {o' : Int64} {X' : XT} {M' : MT} (hrw : d + 1 ≤ 2048) (hrl : d ≤ 1000) (hrc : q1 ≤ 64) (hrs : q2 ≤ 8000) (hW : CW l yL_weightOf cL_weightOf 4 (some .int) [(0, 9, 12, 28)] (rmk d q1 q2) D z [.ref (z + aX 0 0 0), .int (xs (i + 1)), .ref (z + 537)] (GG D z (X, (2, M, o))) (some (.int kk)) (GG D z (X', (2, M, o')))) (hM : CC l yX12_weightOf cX12_weightOf 2 (some .int) (rmk 4 0 0) D z [.ref (z + aM 0), .int (xs (i + 1))] (GG D z (X', (2, M, o'))) (some (.int r)) (GG D z (X', (2, M', o')))) (hT : f_X12_thrown M' = some kk) (hres : kk = 0 → o' = r.toInt64) (h : J p l e room_1 s m args below meth c D z (GG D z (X', (2, M', o'))) (k + 100) (n + 10000) Q 9 3238 (lsL b z i) []) : J p l e room_1 s m args below meth c D z (GG D z (X, (2, M, o))) k n Q 9 919 (lsL b z i) [] := by
  refine j_aload_n E 3 rfl dL_law_919 ?_
  refine j_aload_n E 4 rfl dL_law_920 ?_
  refine j_iload E 0 rfl dL_law_921 ?_
  refine j_iconst E (nI 1) rfl dL_law_923 ?_
  refine j_iadd E dL_law_924 ?_
  refine j_name (nI_add i 1).symm ?_
  refine j_sld E C (by omega) dL_law_925 ?_
  refine j_aload_n E 1 rfl dL_law_926 ?_
  refine j_invW (n0 := 3) [] [.int kk] E hW ml_L_226 st_L_weightOf in_L cd_L_weightOf rfl (by decide +kernel) rfl ⟨hrw, by show 8 + (_ + 11) + 64 * d ≤ 84000; omega⟩ rfl rfl (le_ rfl) ⟨by show k + q1 ≤ 601024; omega, by show n + q2 ≤ 7293034; omega⟩ dL_law_927 ?_
  refine j_istore (ls' := (5, .int kk) :: lsL b z i) E (lt_ rfl) rfl dL_law_930 ?_
  refine j_aload_n E 3 rfl dL_law_932 ?_
  refine j_aload_n E 5 rfl dL_law_933 ?_
  refine j_iload E 1 rfl dL_law_934 ?_
  refine j_iconst E (nI 1) rfl dL_law_936 ?_
  refine j_iadd E dL_law_937 ?_
  refine j_name (nI_add i 1).symm ?_
  refine j_sld E C (by omega) dL_law_938 ?_
  refine j_invV [] [.int r] E hM ml_L_228 mv_X12_weightOf rfl ⟨le_ rfl, le_ rfl⟩ (rcM (f1 := 1) cf_X12) rfl rfl (le_ rfl) ⟨by show k + q1 + 0 ≤ 601024; omega, by show n + q2 + 0 ≤ 7293034; omega⟩ dL_law_939 ?_
  refine j_istore (ls' := (6, .int r) :: (5, .int kk) :: lsL b z i) E (lt_ rfl) rfl dL_law_942 ?_
  refine j_aload_n E 4 rfl dL_law_944 ?_
  refine j_invV [] [.int kk] E (c_X12_thrown (f1 := 1) hT) ml_L_159 mv_X12_thrown rfl ⟨le_ rfl, le_ rfl⟩ (rcM (f1 := 1) cf_X12) rfl rfl (le_ rfl) ⟨by show k + q1 + 0 + 0 ≤ 601024; omega, by show n + q2 + 0 + 0 ≤ 7293034; omega⟩ dL_law_945 ?_
  refine j_iload E 1 rfl dL_law_948 ?_
  refine j_icmp_eq E 955 (by decide) dL_law_950 (fun _ => ?_) (fun q => absurd rfl q)
  have fin : J p l e room_1 s m args below meth c D z (GG D z (X', (2, M', o'))) (k + 100) (n + 10000) Q 9 3238 ((6, .int r) :: (5, .int kk) :: lsL b z i) [] := j_sub (ls' := lsL b z i) [2, 3, 4, 5, 6] rfl h
  refine j_iload E 1 rfl dL_law_955 ?_
  refine j_if_ne E 972 (by decide) dL_law_957 (fun _ => ?_) (fun q0 => ?_)
  · refine j_goto E 3238 (by decide) dL_law_972 ?_
    exact j_widen (by show k + q1 + 0 + 0 ≤ k + 100; omega) (by show n + q2 + 0 + 0 ≤ n + 10000; omega) fin
  · refine j_aload_n E 3 rfl dL_law_960 ?_
    refine j_iconst E 0 ic_0 dL_law_961 ?_
    refine j_laldO (f1 := 0) E dL_law_962 ?_
    refine j_iload E 0 rfl dL_law_963 ?_
    refine j_i2l E dL_law_965 ?_
    refine j_lcmp E dL_law_966 ?_
    refine j_if_eq E 972 (by decide) dL_law_967 (fun _ => ?_) (fun q => absurd ((cmp_eq _ _).mpr (hres q0)) q)
    refine j_goto E 3238 (by decide) dL_law_972 ?_
    exact j_widen (by show k + q1 + 0 + 0 ≤ k + 100; omega) (by show n + q2 + 0 + 0 ≤ n + 10000; omega) fin
set_option maxRecDepth 20000 in
theorem la_weightOf {p : Program} {l : Launch} {e : Env} {s : State} {m : MethodId} {args : Array Value} {below : List Frame} {meth : Method} {c : Code} {D : DD} {z : Nat} {k n : Nat} {Q : State → Prop} {b L i : Nat} {xs : Nat → Int32} {X : XT} {M : MT} {o : Int64} (hl : l.stackTraces = false) (E : Cx p s m args meth c D z RL cL_law 9 (some .boolean)) (C : LC s z b L xs) (hi : i + 6 ≤ L) (hk : k + 100 ≤ 601024) (hn : n + 10000 ≤ 7293034) (hr : RR X M) (h : ∀ X' M' o', RR X' M' → J p l e room_1 s m args below meth c D z (GG D z (X', (2, M', o'))) (k + 100) (n + 10000) Q 9 3238 (lsL b z i) []) : J p l e room_1 s m args below meth c D z (GG D z (X, (2, M, o))) k n Q 9 919 (lsL b z i) [] := by
  rcases s_weightOf hr (xs (i + 1)) with ⟨r, a1, a2⟩ | ⟨e, k', r, hm, a1, a2⟩
  · exact lb_weightOf E C hi hk hn (by decide) (by decide) (by decide) (by decide) (w_weightOf (f1 := 0) a1) (c_X12_weightOf (f1 := 1) a2) (by unfold f_X12_thrown; rw [mi00]) (fun _ => rfl) (h X _ _ (hr.thr 0))
  · simp only [List.mem_cons, List.not_mem_nil, or_false, Prod.mk.injEq] at hm
    obtain ⟨rfl, rfl⟩ := hm
    exact lb_weightOf E C hi hk hn (by decide) (by decide) (by decide) (by decide) (wx_weightOf_2 (f1 := 0) hl a1) (c_X12_weightOf (f1 := 1) a2) (by unfold f_X12_thrown; rw [mi00]) (fun q => absurd q (by decide)) (h X _ _ (hr.thr 1))
set_option maxRecDepth 20000 in
theorem lb_owed {p : Program} {l : Launch} {e : Env} {s : State} {m : MethodId} {args : Array Value} {below : List Frame} {meth : Method} {c : Code} {D : DD} {z : Nat} {k n : Nat} {Q : State → Prop} {b L i : Nat} {xs : Nat → Int32} {X : XT} {M : MT} {o : Int64} (E : Cx p s m args meth c D z RL cL_law 9 (some .boolean)) (C : LC s z b L xs) (hi : i + 6 ≤ L) (hk : k + 100 ≤ 601024) (hn : n + 10000 ≤ 7293034) {d q1 q2 : Nat} {kk r : Int32} {o' : Int64} {X' : XT} {M' : MT} (hrw : d + 1 ≤ 2048) (hrl : d ≤ 1000) (hrc : q1 ≤ 64) (hrs : q2 ≤ 8000) (hW : CW l yL_owed cL_owed 4 (some .int) [(0, 9, 12, 28)] (rmk d q1 q2) D z [.ref (z + aX 0 0 0), .int (xs (i + 1)), .ref (z + 537)] (GG D z (X, (2, M, o))) (some (.int kk)) (GG D z (X', (2, M, o')))) (hM : CC l yX12_owed cX12_owed 2 (some .int) (rmk 5 0 0) D z [.ref (z + aM 0), .int (xs (i + 1))] (GG D z (X', (2, M, o'))) (some (.int r)) (GG D z (X', (2, M', o')))) (hT : f_X12_thrown M' = some kk) (hres : kk = 0 → o' = r.toInt64) (h : J p l e room_1 s m args below meth c D z (GG D z (X', (2, M', o'))) (k + 100) (n + 10000) Q 9 3238 (lsL b z i) []) : J p l e room_1 s m args below meth c D z (GG D z (X, (2, M, o))) k n Q 9 975 (lsL b z i) [] := by
  refine j_aload_n E 3 rfl dL_law_975 ?_
  refine j_aload_n E 4 rfl dL_law_976 ?_
  refine j_iload E 0 rfl dL_law_977 ?_
  refine j_iconst E (nI 1) rfl dL_law_979 ?_
  refine j_iadd E dL_law_980 ?_
  refine j_name (nI_add i 1).symm ?_
  refine j_sld E C (by omega) dL_law_981 ?_
  refine j_aload_n E 1 rfl dL_law_982 ?_
  refine j_invW (n0 := 3) [] [.int kk] E hW ml_L_229 st_L_owed in_L cd_L_owed rfl (by decide +kernel) rfl ⟨hrw, by show 8 + (_ + 11) + 64 * d ≤ 84000; omega⟩ rfl rfl (le_ rfl) ⟨by show k + q1 ≤ 601024; omega, by show n + q2 ≤ 7293034; omega⟩ dL_law_983 ?_
  refine j_istore (ls' := (5, .int kk) :: lsL b z i) E (lt_ rfl) rfl dL_law_986 ?_
  refine j_aload_n E 3 rfl dL_law_988 ?_
  refine j_aload_n E 5 rfl dL_law_989 ?_
  refine j_iload E 1 rfl dL_law_990 ?_
  refine j_iconst E (nI 1) rfl dL_law_992 ?_
  refine j_iadd E dL_law_993 ?_
  refine j_name (nI_add i 1).symm ?_
  refine j_sld E C (by omega) dL_law_994 ?_
  refine j_invV [] [.int r] E hM ml_L_231 mv_X12_owed rfl ⟨le_ rfl, le_ rfl⟩ (rcM (f1 := 1) cf_X12) rfl rfl (le_ rfl) ⟨by show k + q1 + 0 ≤ 601024; omega, by show n + q2 + 0 ≤ 7293034; omega⟩ dL_law_995 ?_
  refine j_istore (ls' := (6, .int r) :: (5, .int kk) :: lsL b z i) E (lt_ rfl) rfl dL_law_998 ?_
  refine j_aload_n E 4 rfl dL_law_1000 ?_
  refine j_invV [] [.int kk] E (c_X12_thrown (f1 := 1) hT) ml_L_159 mv_X12_thrown rfl ⟨le_ rfl, le_ rfl⟩ (rcM (f1 := 1) cf_X12) rfl rfl (le_ rfl) ⟨by show k + q1 + 0 + 0 ≤ 601024; omega, by show n + q2 + 0 + 0 ≤ 7293034; omega⟩ dL_law_1001 ?_
  refine j_iload E 1 rfl dL_law_1004 ?_
  refine j_icmp_eq E 1011 (by decide) dL_law_1006 (fun _ => ?_) (fun q => absurd rfl q)
  have fin : J p l e room_1 s m args below meth c D z (GG D z (X', (2, M', o'))) (k + 100) (n + 10000) Q 9 3238 ((6, .int r) :: (5, .int kk) :: lsL b z i) [] := j_sub (ls' := lsL b z i) [2, 3, 4, 5, 6] rfl h
  refine j_iload E 1 rfl dL_law_1011 ?_
  refine j_if_ne E 1028 (by decide) dL_law_1013 (fun _ => ?_) (fun q0 => ?_)
  · refine j_goto E 3238 (by decide) dL_law_1028 ?_
    exact j_widen (by show k + q1 + 0 + 0 ≤ k + 100; omega) (by show n + q2 + 0 + 0 ≤ n + 10000; omega) fin
  · refine j_aload_n E 3 rfl dL_law_1016 ?_
    refine j_iconst E 0 ic_0 dL_law_1017 ?_
    refine j_laldO (f1 := 0) E dL_law_1018 ?_
    refine j_iload E 0 rfl dL_law_1019 ?_
    refine j_i2l E dL_law_1021 ?_
    refine j_lcmp E dL_law_1022 ?_
    refine j_if_eq E 1028 (by decide) dL_law_1023 (fun _ => ?_) (fun q => absurd ((cmp_eq _ _).mpr (hres q0)) q)
    refine j_goto E 3238 (by decide) dL_law_1028 ?_
    exact j_widen (by show k + q1 + 0 + 0 ≤ k + 100; omega) (by show n + q2 + 0 + 0 ≤ n + 10000; omega) fin
set_option maxRecDepth 20000 in
theorem la_owed {p : Program} {l : Launch} {e : Env} {s : State} {m : MethodId} {args : Array Value} {below : List Frame} {meth : Method} {c : Code} {D : DD} {z : Nat} {k n : Nat} {Q : State → Prop} {b L i : Nat} {xs : Nat → Int32} {X : XT} {M : MT} {o : Int64} (hl : l.stackTraces = false) (E : Cx p s m args meth c D z RL cL_law 9 (some .boolean)) (C : LC s z b L xs) (hi : i + 6 ≤ L) (hk : k + 100 ≤ 601024) (hn : n + 10000 ≤ 7293034) (hr : RR X M) (h : ∀ X' M' o', RR X' M' → J p l e room_1 s m args below meth c D z (GG D z (X', (2, M', o'))) (k + 100) (n + 10000) Q 9 3238 (lsL b z i) []) : J p l e room_1 s m args below meth c D z (GG D z (X, (2, M, o))) k n Q 9 975 (lsL b z i) [] := by
  rcases s_owed hr (xs (i + 1)) with ⟨r, a1, a2⟩ | ⟨e, k', r, hm, a1, a2⟩
  · exact lb_owed E C hi hk hn (by decide) (by decide) (by decide) (by decide) (w_owed (f1 := 0) a1) (c_X12_owed (f1 := 1) a2) (by unfold f_X12_thrown; rw [mi00]) (fun _ => rfl) (h X _ _ (hr.thr 0))
  · simp only [List.mem_cons, List.not_mem_nil, or_false, Prod.mk.injEq] at hm
    obtain ⟨rfl, rfl⟩ := hm
    exact lb_owed E C hi hk hn (by decide) (by decide) (by decide) (by decide) (wx_owed_2 (f1 := 0) hl a1) (c_X12_owed (f1 := 1) a2) (by unfold f_X12_thrown; rw [mi00]) (fun q => absurd q (by decide)) (h X _ _ (hr.thr 1))
set_option maxRecDepth 20000 in
theorem lb_paidTo {p : Program} {l : Launch} {e : Env} {s : State} {m : MethodId} {args : Array Value} {below : List Frame} {meth : Method} {c : Code} {D : DD} {z : Nat} {k n : Nat} {Q : State → Prop} {b L i : Nat} {xs : Nat → Int32} {X : XT} {M : MT} {o : Int64} (E : Cx p s m args meth c D z RL cL_law 9 (some .boolean)) (C : LC s z b L xs) (hi : i + 6 ≤ L) (hk : k + 100 ≤ 601024) (hn : n + 10000 ≤ 7293034) {d q1 q2 : Nat} {kk r : Int32} {o' : Int64} {X' : XT} {M' : MT} (hrw : d + 1 ≤ 2048) (hrl : d ≤ 1000) (hrc : q1 ≤ 64) (hrs : q2 ≤ 8000) (hW : CW l yL_paidTo cL_paidTo 4 (some .int) [(0, 9, 12, 28)] (rmk d q1 q2) D z [.ref (z + aX 0 0 0), .int (xs (i + 1)), .ref (z + 537)] (GG D z (X, (2, M, o))) (some (.int kk)) (GG D z (X', (2, M, o')))) (hM : CC l yX12_paidTo cX12_paidTo 4 (some .int) (rmk 3 0 0) D z [.ref (z + aM 0), .int (xs (i + 1))] (GG D z (X', (2, M, o'))) (some (.int r)) (GG D z (X', (2, M', o')))) (hT : f_X12_thrown M' = some kk) (hres : kk = 0 → o' = r.toInt64) (h : J p l e room_1 s m args below meth c D z (GG D z (X', (2, M', o'))) (k + 100) (n + 10000) Q 9 3238 (lsL b z i) []) : J p l e room_1 s m args below meth c D z (GG D z (X, (2, M, o))) k n Q 9 1031 (lsL b z i) [] := by
  refine j_aload_n E 3 rfl dL_law_1031 ?_
  refine j_aload_n E 4 rfl dL_law_1032 ?_
  refine j_iload E 0 rfl dL_law_1033 ?_
  refine j_iconst E (nI 1) rfl dL_law_1035 ?_
  refine j_iadd E dL_law_1036 ?_
  refine j_name (nI_add i 1).symm ?_
  refine j_sld E C (by omega) dL_law_1037 ?_
  refine j_aload_n E 1 rfl dL_law_1038 ?_
  refine j_invW (n0 := 3) [] [.int kk] E hW ml_L_232 st_L_paidTo in_L cd_L_paidTo rfl (by decide +kernel) rfl ⟨hrw, by show 8 + (_ + 11) + 64 * d ≤ 84000; omega⟩ rfl rfl (le_ rfl) ⟨by show k + q1 ≤ 601024; omega, by show n + q2 ≤ 7293034; omega⟩ dL_law_1039 ?_
  refine j_istore (ls' := (5, .int kk) :: lsL b z i) E (lt_ rfl) rfl dL_law_1042 ?_
  refine j_aload_n E 3 rfl dL_law_1044 ?_
  refine j_aload_n E 5 rfl dL_law_1045 ?_
  refine j_iload E 1 rfl dL_law_1046 ?_
  refine j_iconst E (nI 1) rfl dL_law_1048 ?_
  refine j_iadd E dL_law_1049 ?_
  refine j_name (nI_add i 1).symm ?_
  refine j_sld E C (by omega) dL_law_1050 ?_
  refine j_invV [] [.int r] E hM ml_L_234 mv_X12_paidTo rfl ⟨le_ rfl, le_ rfl⟩ (rcM (f1 := 1) cf_X12) rfl rfl (le_ rfl) ⟨by show k + q1 + 0 ≤ 601024; omega, by show n + q2 + 0 ≤ 7293034; omega⟩ dL_law_1051 ?_
  refine j_istore (ls' := (6, .int r) :: (5, .int kk) :: lsL b z i) E (lt_ rfl) rfl dL_law_1054 ?_
  refine j_aload_n E 4 rfl dL_law_1056 ?_
  refine j_invV [] [.int kk] E (c_X12_thrown (f1 := 1) hT) ml_L_159 mv_X12_thrown rfl ⟨le_ rfl, le_ rfl⟩ (rcM (f1 := 1) cf_X12) rfl rfl (le_ rfl) ⟨by show k + q1 + 0 + 0 ≤ 601024; omega, by show n + q2 + 0 + 0 ≤ 7293034; omega⟩ dL_law_1057 ?_
  refine j_iload E 1 rfl dL_law_1060 ?_
  refine j_icmp_eq E 1067 (by decide) dL_law_1062 (fun _ => ?_) (fun q => absurd rfl q)
  have fin : J p l e room_1 s m args below meth c D z (GG D z (X', (2, M', o'))) (k + 100) (n + 10000) Q 9 3238 ((6, .int r) :: (5, .int kk) :: lsL b z i) [] := j_sub (ls' := lsL b z i) [2, 3, 4, 5, 6] rfl h
  refine j_iload E 1 rfl dL_law_1067 ?_
  refine j_if_ne E 1084 (by decide) dL_law_1069 (fun _ => ?_) (fun q0 => ?_)
  · refine j_goto E 3238 (by decide) dL_law_1084 ?_
    exact j_widen (by show k + q1 + 0 + 0 ≤ k + 100; omega) (by show n + q2 + 0 + 0 ≤ n + 10000; omega) fin
  · refine j_aload_n E 3 rfl dL_law_1072 ?_
    refine j_iconst E 0 ic_0 dL_law_1073 ?_
    refine j_laldO (f1 := 0) E dL_law_1074 ?_
    refine j_iload E 0 rfl dL_law_1075 ?_
    refine j_i2l E dL_law_1077 ?_
    refine j_lcmp E dL_law_1078 ?_
    refine j_if_eq E 1084 (by decide) dL_law_1079 (fun _ => ?_) (fun q => absurd ((cmp_eq _ _).mpr (hres q0)) q)
    refine j_goto E 3238 (by decide) dL_law_1084 ?_
    exact j_widen (by show k + q1 + 0 + 0 ≤ k + 100; omega) (by show n + q2 + 0 + 0 ≤ n + 10000; omega) fin
set_option maxRecDepth 20000 in
theorem la_paidTo {p : Program} {l : Launch} {e : Env} {s : State} {m : MethodId} {args : Array Value} {below : List Frame} {meth : Method} {c : Code} {D : DD} {z : Nat} {k n : Nat} {Q : State → Prop} {b L i : Nat} {xs : Nat → Int32} {X : XT} {M : MT} {o : Int64} (hl : l.stackTraces = false) (E : Cx p s m args meth c D z RL cL_law 9 (some .boolean)) (C : LC s z b L xs) (hi : i + 6 ≤ L) (hk : k + 100 ≤ 601024) (hn : n + 10000 ≤ 7293034) (hr : RR X M) (h : ∀ X' M' o', RR X' M' → J p l e room_1 s m args below meth c D z (GG D z (X', (2, M', o'))) (k + 100) (n + 10000) Q 9 3238 (lsL b z i) []) : J p l e room_1 s m args below meth c D z (GG D z (X, (2, M, o))) k n Q 9 1031 (lsL b z i) [] := by
  rcases s_paidTo hr (xs (i + 1)) with ⟨r, a1, a2⟩ | ⟨e, k', r, hm, a1, a2⟩
  · exact lb_paidTo E C hi hk hn (by decide) (by decide) (by decide) (by decide) (w_paidTo (f1 := 0) a1) (c_X12_paidTo (f1 := 1) a2) (by unfold f_X12_thrown; rw [mi00]) (fun _ => rfl) (h X _ _ (hr.thr 0))
  · simp only [List.mem_cons, List.not_mem_nil, or_false, Prod.mk.injEq] at hm
    obtain ⟨rfl, rfl⟩ := hm
    exact lb_paidTo E C hi hk hn (by decide) (by decide) (by decide) (by decide) (wx_paidTo_2 (f1 := 0) hl a1) (c_X12_paidTo (f1 := 1) a2) (by unfold f_X12_thrown; rw [mi00]) (fun q => absurd q (by decide)) (h X _ _ (hr.thr 1))
set_option maxRecDepth 20000 in
theorem lb_varietiesOf {p : Program} {l : Launch} {e : Env} {s : State} {m : MethodId} {args : Array Value} {below : List Frame} {meth : Method} {c : Code} {D : DD} {z : Nat} {k n : Nat} {Q : State → Prop} {b L i : Nat} {xs : Nat → Int32} {X : XT} {M : MT} {o : Int64} (E : Cx p s m args meth c D z RL cL_law 9 (some .boolean)) (C : LC s z b L xs) (hi : i + 6 ≤ L) (hk : k + 100 ≤ 601024) (hn : n + 10000 ≤ 7293034) {d q1 q2 : Nat} {kk r : Int32} {o' : Int64} {X' : XT} {M' : MT} (hrw : d + 1 ≤ 2048) (hrl : d ≤ 1000) (hrc : q1 ≤ 64) (hrs : q2 ≤ 8000) (hW : CW l yL_varietiesOf cL_varietiesOf 4 (some .int) [(0, 9, 12, 28)] (rmk d q1 q2) D z [.ref (z + aX 0 0 0), .int (xs (i + 1)), .ref (z + 537)] (GG D z (X, (2, M, o))) (some (.int kk)) (GG D z (X', (2, M, o')))) (hM : CC l yX12_varietiesOf cX12_varietiesOf 5 (some .int) (rmk 3 0 0) D z [.ref (z + aM 0), .int (xs (i + 1))] (GG D z (X', (2, M, o'))) (some (.int r)) (GG D z (X', (2, M', o')))) (hT : f_X12_thrown M' = some kk) (hres : kk = 0 → o' = r.toInt64) (h : J p l e room_1 s m args below meth c D z (GG D z (X', (2, M', o'))) (k + 100) (n + 10000) Q 9 3238 (lsL b z i) []) : J p l e room_1 s m args below meth c D z (GG D z (X, (2, M, o))) k n Q 9 1087 (lsL b z i) [] := by
  refine j_aload_n E 3 rfl dL_law_1087 ?_
  refine j_aload_n E 4 rfl dL_law_1088 ?_
  refine j_iload E 0 rfl dL_law_1089 ?_
  refine j_iconst E (nI 1) rfl dL_law_1091 ?_
  refine j_iadd E dL_law_1092 ?_
  refine j_name (nI_add i 1).symm ?_
  refine j_sld E C (by omega) dL_law_1093 ?_
  refine j_aload_n E 1 rfl dL_law_1094 ?_
  refine j_invW (n0 := 3) [] [.int kk] E hW ml_L_235 st_L_varietiesOf in_L cd_L_varietiesOf rfl (by decide +kernel) rfl ⟨hrw, by show 8 + (_ + 11) + 64 * d ≤ 84000; omega⟩ rfl rfl (le_ rfl) ⟨by show k + q1 ≤ 601024; omega, by show n + q2 ≤ 7293034; omega⟩ dL_law_1095 ?_
  refine j_istore (ls' := (5, .int kk) :: lsL b z i) E (lt_ rfl) rfl dL_law_1098 ?_
  refine j_aload_n E 3 rfl dL_law_1100 ?_
  refine j_aload_n E 5 rfl dL_law_1101 ?_
  refine j_iload E 1 rfl dL_law_1102 ?_
  refine j_iconst E (nI 1) rfl dL_law_1104 ?_
  refine j_iadd E dL_law_1105 ?_
  refine j_name (nI_add i 1).symm ?_
  refine j_sld E C (by omega) dL_law_1106 ?_
  refine j_invV [] [.int r] E hM ml_L_237 mv_X12_varietiesOf rfl ⟨le_ rfl, le_ rfl⟩ (rcM (f1 := 1) cf_X12) rfl rfl (le_ rfl) ⟨by show k + q1 + 0 ≤ 601024; omega, by show n + q2 + 0 ≤ 7293034; omega⟩ dL_law_1107 ?_
  refine j_istore (ls' := (6, .int r) :: (5, .int kk) :: lsL b z i) E (lt_ rfl) rfl dL_law_1110 ?_
  refine j_aload_n E 4 rfl dL_law_1112 ?_
  refine j_invV [] [.int kk] E (c_X12_thrown (f1 := 1) hT) ml_L_159 mv_X12_thrown rfl ⟨le_ rfl, le_ rfl⟩ (rcM (f1 := 1) cf_X12) rfl rfl (le_ rfl) ⟨by show k + q1 + 0 + 0 ≤ 601024; omega, by show n + q2 + 0 + 0 ≤ 7293034; omega⟩ dL_law_1113 ?_
  refine j_iload E 1 rfl dL_law_1116 ?_
  refine j_icmp_eq E 1123 (by decide) dL_law_1118 (fun _ => ?_) (fun q => absurd rfl q)
  have fin : J p l e room_1 s m args below meth c D z (GG D z (X', (2, M', o'))) (k + 100) (n + 10000) Q 9 3238 ((6, .int r) :: (5, .int kk) :: lsL b z i) [] := j_sub (ls' := lsL b z i) [2, 3, 4, 5, 6] rfl h
  refine j_iload E 1 rfl dL_law_1123 ?_
  refine j_if_ne E 1140 (by decide) dL_law_1125 (fun _ => ?_) (fun q0 => ?_)
  · refine j_goto E 3238 (by decide) dL_law_1140 ?_
    exact j_widen (by show k + q1 + 0 + 0 ≤ k + 100; omega) (by show n + q2 + 0 + 0 ≤ n + 10000; omega) fin
  · refine j_aload_n E 3 rfl dL_law_1128 ?_
    refine j_iconst E 0 ic_0 dL_law_1129 ?_
    refine j_laldO (f1 := 0) E dL_law_1130 ?_
    refine j_iload E 0 rfl dL_law_1131 ?_
    refine j_i2l E dL_law_1133 ?_
    refine j_lcmp E dL_law_1134 ?_
    refine j_if_eq E 1140 (by decide) dL_law_1135 (fun _ => ?_) (fun q => absurd ((cmp_eq _ _).mpr (hres q0)) q)
    refine j_goto E 3238 (by decide) dL_law_1140 ?_
    exact j_widen (by show k + q1 + 0 + 0 ≤ k + 100; omega) (by show n + q2 + 0 + 0 ≤ n + 10000; omega) fin
set_option maxRecDepth 20000 in
theorem la_varietiesOf {p : Program} {l : Launch} {e : Env} {s : State} {m : MethodId} {args : Array Value} {below : List Frame} {meth : Method} {c : Code} {D : DD} {z : Nat} {k n : Nat} {Q : State → Prop} {b L i : Nat} {xs : Nat → Int32} {X : XT} {M : MT} {o : Int64} (hl : l.stackTraces = false) (E : Cx p s m args meth c D z RL cL_law 9 (some .boolean)) (C : LC s z b L xs) (hi : i + 6 ≤ L) (hk : k + 100 ≤ 601024) (hn : n + 10000 ≤ 7293034) (hr : RR X M) (h : ∀ X' M' o', RR X' M' → J p l e room_1 s m args below meth c D z (GG D z (X', (2, M', o'))) (k + 100) (n + 10000) Q 9 3238 (lsL b z i) []) : J p l e room_1 s m args below meth c D z (GG D z (X, (2, M, o))) k n Q 9 1087 (lsL b z i) [] := by
  rcases s_varietiesOf hr (xs (i + 1)) with ⟨r, a1, a2⟩ | ⟨e, k', r, hm, a1, a2⟩
  · exact lb_varietiesOf E C hi hk hn (by decide) (by decide) (by decide) (by decide) (w_varietiesOf (f1 := 0) a1) (c_X12_varietiesOf (f1 := 1) a2) (by unfold f_X12_thrown; rw [mi00]) (fun _ => rfl) (h X _ _ (hr.thr 0))
  · simp only [List.mem_cons, List.not_mem_nil, or_false, Prod.mk.injEq] at hm
    obtain ⟨rfl, rfl⟩ := hm
    exact lb_varietiesOf E C hi hk hn (by decide) (by decide) (by decide) (by decide) (wx_varietiesOf_2 (f1 := 0) hl a1) (c_X12_varietiesOf (f1 := 1) a2) (by unfold f_X12_thrown; rw [mi00]) (fun q => absurd q (by decide)) (h X _ _ (hr.thr 1))
set_option maxRecDepth 20000 in
theorem lb_greatestGrower {p : Program} {l : Launch} {e : Env} {s : State} {m : MethodId} {args : Array Value} {below : List Frame} {meth : Method} {c : Code} {D : DD} {z : Nat} {k n : Nat} {Q : State → Prop} {b L i : Nat} {xs : Nat → Int32} {X : XT} {M : MT} {o : Int64} (E : Cx p s m args meth c D z RL cL_law 9 (some .boolean)) (C : LC s z b L xs) (hi : i + 6 ≤ L) (hk : k + 100 ≤ 601024) (hn : n + 10000 ≤ 7293034) {r : Int32} {M' : MT} (hx : f_X11_greatestGrower X = some r) (hm : f_X12_greatestGrower M = some (r, M')) (h : J p l e room_1 s m args below meth c D z (GG D z (X, (2, M', o))) (k + 100) (n + 10000) Q 9 3238 (lsL b z i) []) : J p l e room_1 s m args below meth c D z (GG D z (X, (2, M, o))) k n Q 9 1143 (lsL b z i) [] := by
  refine j_aload_n E 3 rfl dL_law_1143 ?_
  refine j_invV [] [.int r] E (c_X11_greatestGrower hx) ml_L_238 mv_X11_greatestGrower rfl ⟨le_ rfl, le_ rfl⟩ (rcX ok0 cf_X11 ent0) rfl rfl (le_ rfl) ⟨by show k + 0 ≤ 601024; omega, by show n + 0 ≤ 7293034; omega⟩ dL_law_1144 ?_
  refine j_aload_n E 2 rfl dL_law_1147 ?_
  refine j_invV [.int r] [.int r, .int r] E (c_X12_greatestGrower (f1 := 1) hm) ml_L_241 mv_X12_greatestGrower rfl ⟨le_ rfl, le_ rfl⟩ (rcM (f1 := 1) cf_X12) rfl rfl (le_ rfl) ⟨by show k + 0 + 0 ≤ 601024; omega, by show n + 0 + 0 ≤ 7293034; omega⟩ dL_law_1148 ?_
  refine j_icmp_eq E 3238 (by decide) dL_law_1151 (fun _ => ?_) (fun q => absurd rfl q)
  exact j_widen (by show k + 0 + 0 ≤ k + 100; omega) (by show n + 0 + 0 ≤ n + 10000; omega) h
set_option maxRecDepth 20000 in
theorem la_greatestGrower {p : Program} {l : Launch} {e : Env} {s : State} {m : MethodId} {args : Array Value} {below : List Frame} {meth : Method} {c : Code} {D : DD} {z : Nat} {k n : Nat} {Q : State → Prop} {b L i : Nat} {xs : Nat → Int32} {X : XT} {M : MT} {o : Int64} (hl : l.stackTraces = false) (E : Cx p s m args meth c D z RL cL_law 9 (some .boolean)) (C : LC s z b L xs) (hi : i + 6 ≤ L) (hk : k + 100 ≤ 601024) (hn : n + 10000 ≤ 7293034) (hr : RR X M) (h : ∀ X' M' o', RR X' M' → J p l e room_1 s m args below meth c D z (GG D z (X', (2, M', o'))) (k + 100) (n + 10000) Q 9 3238 (lsL b z i) []) : J p l e room_1 s m args below meth c D z (GG D z (X, (2, M, o))) k n Q 9 1143 (lsL b z i) [] := by
  obtain ⟨r, a1, a2⟩ := s_greatestGrower hr
  exact lb_greatestGrower E C hi hk hn a1 a2 (h X _ o (hr.thr 0))
set_option maxRecDepth 20000 in
theorem lb_yieldLimit {p : Program} {l : Launch} {e : Env} {s : State} {m : MethodId} {args : Array Value} {below : List Frame} {meth : Method} {c : Code} {D : DD} {z : Nat} {k n : Nat} {Q : State → Prop} {b L i : Nat} {xs : Nat → Int32} {X : XT} {M : MT} {o : Int64} (E : Cx p s m args meth c D z RL cL_law 9 (some .boolean)) (C : LC s z b L xs) (hi : i + 6 ≤ L) (hk : k + 100 ≤ 601024) (hn : n + 10000 ≤ 7293034) {d q1 q2 : Nat} {kk r : Int32} {o' : Int64} {X' : XT} {M' : MT} (hrw : d + 1 ≤ 2048) (hrl : d ≤ 1000) (hrc : q1 ≤ 64) (hrs : q2 ≤ 8000) (hW : CW l yL_yieldLimit cL_yieldLimit 4 (some .int) [(0, 9, 12, 28)] (rmk d q1 q2) D z [.ref (z + aX 0 0 0), .int (xs (i + 1)), .ref (z + 537)] (GG D z (X, (2, M, o))) (some (.int kk)) (GG D z (X', (2, M, o')))) (hM : CC l yX12_yieldLimit cX12_yieldLimit 2 (some .int) (rmk 3 0 0) D z [.ref (z + aM 0), .int (xs (i + 1))] (GG D z (X', (2, M, o'))) (some (.int r)) (GG D z (X', (2, M', o')))) (hT : f_X12_thrown M' = some kk) (hres : kk = 0 → o' = r.toInt64) (h : J p l e room_1 s m args below meth c D z (GG D z (X', (2, M', o'))) (k + 100) (n + 10000) Q 9 3238 (lsL b z i) []) : J p l e room_1 s m args below meth c D z (GG D z (X, (2, M, o))) k n Q 9 1156 (lsL b z i) [] := by
  refine j_aload_n E 3 rfl dL_law_1156 ?_
  refine j_aload_n E 4 rfl dL_law_1157 ?_
  refine j_iload E 0 rfl dL_law_1158 ?_
  refine j_iconst E (nI 1) rfl dL_law_1160 ?_
  refine j_iadd E dL_law_1161 ?_
  refine j_name (nI_add i 1).symm ?_
  refine j_sld E C (by omega) dL_law_1162 ?_
  refine j_aload_n E 1 rfl dL_law_1163 ?_
  refine j_invW (n0 := 3) [] [.int kk] E hW ml_L_242 st_L_yieldLimit in_L cd_L_yieldLimit rfl (by decide +kernel) rfl ⟨hrw, by show 8 + (_ + 11) + 64 * d ≤ 84000; omega⟩ rfl rfl (le_ rfl) ⟨by show k + q1 ≤ 601024; omega, by show n + q2 ≤ 7293034; omega⟩ dL_law_1164 ?_
  refine j_istore (ls' := (5, .int kk) :: lsL b z i) E (lt_ rfl) rfl dL_law_1167 ?_
  refine j_aload_n E 3 rfl dL_law_1169 ?_
  refine j_aload_n E 5 rfl dL_law_1170 ?_
  refine j_iload E 1 rfl dL_law_1171 ?_
  refine j_iconst E (nI 1) rfl dL_law_1173 ?_
  refine j_iadd E dL_law_1174 ?_
  refine j_name (nI_add i 1).symm ?_
  refine j_sld E C (by omega) dL_law_1175 ?_
  refine j_invV [] [.int r] E hM ml_L_244 mv_X12_yieldLimit rfl ⟨le_ rfl, le_ rfl⟩ (rcM (f1 := 1) cf_X12) rfl rfl (le_ rfl) ⟨by show k + q1 + 0 ≤ 601024; omega, by show n + q2 + 0 ≤ 7293034; omega⟩ dL_law_1176 ?_
  refine j_istore (ls' := (6, .int r) :: (5, .int kk) :: lsL b z i) E (lt_ rfl) rfl dL_law_1179 ?_
  refine j_aload_n E 4 rfl dL_law_1181 ?_
  refine j_invV [] [.int kk] E (c_X12_thrown (f1 := 1) hT) ml_L_159 mv_X12_thrown rfl ⟨le_ rfl, le_ rfl⟩ (rcM (f1 := 1) cf_X12) rfl rfl (le_ rfl) ⟨by show k + q1 + 0 + 0 ≤ 601024; omega, by show n + q2 + 0 + 0 ≤ 7293034; omega⟩ dL_law_1182 ?_
  refine j_iload E 1 rfl dL_law_1185 ?_
  refine j_icmp_eq E 1192 (by decide) dL_law_1187 (fun _ => ?_) (fun q => absurd rfl q)
  have fin : J p l e room_1 s m args below meth c D z (GG D z (X', (2, M', o'))) (k + 100) (n + 10000) Q 9 3238 ((6, .int r) :: (5, .int kk) :: lsL b z i) [] := j_sub (ls' := lsL b z i) [2, 3, 4, 5, 6] rfl h
  refine j_iload E 1 rfl dL_law_1192 ?_
  refine j_if_ne E 1209 (by decide) dL_law_1194 (fun _ => ?_) (fun q0 => ?_)
  · refine j_goto E 3238 (by decide) dL_law_1209 ?_
    exact j_widen (by show k + q1 + 0 + 0 ≤ k + 100; omega) (by show n + q2 + 0 + 0 ≤ n + 10000; omega) fin
  · refine j_aload_n E 3 rfl dL_law_1197 ?_
    refine j_iconst E 0 ic_0 dL_law_1198 ?_
    refine j_laldO (f1 := 0) E dL_law_1199 ?_
    refine j_iload E 0 rfl dL_law_1200 ?_
    refine j_i2l E dL_law_1202 ?_
    refine j_lcmp E dL_law_1203 ?_
    refine j_if_eq E 1209 (by decide) dL_law_1204 (fun _ => ?_) (fun q => absurd ((cmp_eq _ _).mpr (hres q0)) q)
    refine j_goto E 3238 (by decide) dL_law_1209 ?_
    exact j_widen (by show k + q1 + 0 + 0 ≤ k + 100; omega) (by show n + q2 + 0 + 0 ≤ n + 10000; omega) fin
set_option maxRecDepth 20000 in
theorem la_yieldLimit {p : Program} {l : Launch} {e : Env} {s : State} {m : MethodId} {args : Array Value} {below : List Frame} {meth : Method} {c : Code} {D : DD} {z : Nat} {k n : Nat} {Q : State → Prop} {b L i : Nat} {xs : Nat → Int32} {X : XT} {M : MT} {o : Int64} (hl : l.stackTraces = false) (E : Cx p s m args meth c D z RL cL_law 9 (some .boolean)) (C : LC s z b L xs) (hi : i + 6 ≤ L) (hk : k + 100 ≤ 601024) (hn : n + 10000 ≤ 7293034) (hr : RR X M) (h : ∀ X' M' o', RR X' M' → J p l e room_1 s m args below meth c D z (GG D z (X', (2, M', o'))) (k + 100) (n + 10000) Q 9 3238 (lsL b z i) []) : J p l e room_1 s m args below meth c D z (GG D z (X, (2, M, o))) k n Q 9 1156 (lsL b z i) [] := by
  rcases s_yieldLimit hr (xs (i + 1)) with ⟨r, a1, a2⟩ | ⟨e, k', r, hm, a1, a2⟩
  · exact lb_yieldLimit E C hi hk hn (by decide) (by decide) (by decide) (by decide) (w_yieldLimit (f1 := 0) a1) (c_X12_yieldLimit (f1 := 1) a2) (by unfold f_X12_thrown; rw [mi00]) (fun _ => rfl) (h X _ _ (hr.thr 0))
  · simp only [List.mem_cons, List.not_mem_nil, or_false, Prod.mk.injEq] at hm
    obtain ⟨rfl, rfl⟩ := hm
    exact lb_yieldLimit E C hi hk hn (by decide) (by decide) (by decide) (by decide) (wx_yieldLimit_2 (f1 := 0) hl a1) (c_X12_yieldLimit (f1 := 1) a2) (by unfold f_X12_thrown; rw [mi00]) (fun q => absurd q (by decide)) (h X _ _ (hr.thr 1))
set_option maxRecDepth 20000 in
theorem lb_harvested {p : Program} {l : Launch} {e : Env} {s : State} {m : MethodId} {args : Array Value} {below : List Frame} {meth : Method} {c : Code} {D : DD} {z : Nat} {k n : Nat} {Q : State → Prop} {b L i : Nat} {xs : Nat → Int32} {X : XT} {M : MT} {o : Int64} (E : Cx p s m args meth c D z RL cL_law 9 (some .boolean)) (C : LC s z b L xs) (hi : i + 6 ≤ L) (hk : k + 100 ≤ 601024) (hn : n + 10000 ≤ 7293034) {d q1 q2 : Nat} {kk r : Int32} {o' : Int64} {X' : XT} {M' : MT} (hrw : d + 1 ≤ 2048) (hrl : d ≤ 1000) (hrc : q1 ≤ 64) (hrs : q2 ≤ 8000) (hW : CW l yL_harvested cL_harvested 4 (some .int) [(0, 9, 12, 28)] (rmk d q1 q2) D z [.ref (z + aX 0 0 0), .int (xs (i + 1)), .ref (z + 537)] (GG D z (X, (2, M, o))) (some (.int kk)) (GG D z (X', (2, M, o')))) (hM : CC l yX12_harvested cX12_harvested 2 (some .int) (rmk 3 0 0) D z [.ref (z + aM 0), .int (xs (i + 1))] (GG D z (X', (2, M, o'))) (some (.int r)) (GG D z (X', (2, M', o')))) (hT : f_X12_thrown M' = some kk) (hres : kk = 0 → o' = r.toInt64) (h : J p l e room_1 s m args below meth c D z (GG D z (X', (2, M', o'))) (k + 100) (n + 10000) Q 9 3238 (lsL b z i) []) : J p l e room_1 s m args below meth c D z (GG D z (X, (2, M, o))) k n Q 9 1212 (lsL b z i) [] := by
  refine j_aload_n E 3 rfl dL_law_1212 ?_
  refine j_aload_n E 4 rfl dL_law_1213 ?_
  refine j_iload E 0 rfl dL_law_1214 ?_
  refine j_iconst E (nI 1) rfl dL_law_1216 ?_
  refine j_iadd E dL_law_1217 ?_
  refine j_name (nI_add i 1).symm ?_
  refine j_sld E C (by omega) dL_law_1218 ?_
  refine j_aload_n E 1 rfl dL_law_1219 ?_
  refine j_invW (n0 := 3) [] [.int kk] E hW ml_L_245 st_L_harvested in_L cd_L_harvested rfl (by decide +kernel) rfl ⟨hrw, by show 8 + (_ + 11) + 64 * d ≤ 84000; omega⟩ rfl rfl (le_ rfl) ⟨by show k + q1 ≤ 601024; omega, by show n + q2 ≤ 7293034; omega⟩ dL_law_1220 ?_
  refine j_istore (ls' := (5, .int kk) :: lsL b z i) E (lt_ rfl) rfl dL_law_1223 ?_
  refine j_aload_n E 3 rfl dL_law_1225 ?_
  refine j_aload_n E 5 rfl dL_law_1226 ?_
  refine j_iload E 1 rfl dL_law_1227 ?_
  refine j_iconst E (nI 1) rfl dL_law_1229 ?_
  refine j_iadd E dL_law_1230 ?_
  refine j_name (nI_add i 1).symm ?_
  refine j_sld E C (by omega) dL_law_1231 ?_
  refine j_invV [] [.int r] E hM ml_L_247 mv_X12_harvested rfl ⟨le_ rfl, le_ rfl⟩ (rcM (f1 := 1) cf_X12) rfl rfl (le_ rfl) ⟨by show k + q1 + 0 ≤ 601024; omega, by show n + q2 + 0 ≤ 7293034; omega⟩ dL_law_1232 ?_
  refine j_istore (ls' := (6, .int r) :: (5, .int kk) :: lsL b z i) E (lt_ rfl) rfl dL_law_1235 ?_
  refine j_aload_n E 4 rfl dL_law_1237 ?_
  refine j_invV [] [.int kk] E (c_X12_thrown (f1 := 1) hT) ml_L_159 mv_X12_thrown rfl ⟨le_ rfl, le_ rfl⟩ (rcM (f1 := 1) cf_X12) rfl rfl (le_ rfl) ⟨by show k + q1 + 0 + 0 ≤ 601024; omega, by show n + q2 + 0 + 0 ≤ 7293034; omega⟩ dL_law_1238 ?_
  refine j_iload E 1 rfl dL_law_1241 ?_
  refine j_icmp_eq E 1248 (by decide) dL_law_1243 (fun _ => ?_) (fun q => absurd rfl q)
  have fin : J p l e room_1 s m args below meth c D z (GG D z (X', (2, M', o'))) (k + 100) (n + 10000) Q 9 3238 ((6, .int r) :: (5, .int kk) :: lsL b z i) [] := j_sub (ls' := lsL b z i) [2, 3, 4, 5, 6] rfl h
  refine j_iload E 1 rfl dL_law_1248 ?_
  refine j_if_ne E 1265 (by decide) dL_law_1250 (fun _ => ?_) (fun q0 => ?_)
  · refine j_goto E 3238 (by decide) dL_law_1265 ?_
    exact j_widen (by show k + q1 + 0 + 0 ≤ k + 100; omega) (by show n + q2 + 0 + 0 ≤ n + 10000; omega) fin
  · refine j_aload_n E 3 rfl dL_law_1253 ?_
    refine j_iconst E 0 ic_0 dL_law_1254 ?_
    refine j_laldO (f1 := 0) E dL_law_1255 ?_
    refine j_iload E 0 rfl dL_law_1256 ?_
    refine j_i2l E dL_law_1258 ?_
    refine j_lcmp E dL_law_1259 ?_
    refine j_if_eq E 1265 (by decide) dL_law_1260 (fun _ => ?_) (fun q => absurd ((cmp_eq _ _).mpr (hres q0)) q)
    refine j_goto E 3238 (by decide) dL_law_1265 ?_
    exact j_widen (by show k + q1 + 0 + 0 ≤ k + 100; omega) (by show n + q2 + 0 + 0 ≤ n + 10000; omega) fin
set_option maxRecDepth 20000 in
theorem la_harvested {p : Program} {l : Launch} {e : Env} {s : State} {m : MethodId} {args : Array Value} {below : List Frame} {meth : Method} {c : Code} {D : DD} {z : Nat} {k n : Nat} {Q : State → Prop} {b L i : Nat} {xs : Nat → Int32} {X : XT} {M : MT} {o : Int64} (hl : l.stackTraces = false) (E : Cx p s m args meth c D z RL cL_law 9 (some .boolean)) (C : LC s z b L xs) (hi : i + 6 ≤ L) (hk : k + 100 ≤ 601024) (hn : n + 10000 ≤ 7293034) (hr : RR X M) (h : ∀ X' M' o', RR X' M' → J p l e room_1 s m args below meth c D z (GG D z (X', (2, M', o'))) (k + 100) (n + 10000) Q 9 3238 (lsL b z i) []) : J p l e room_1 s m args below meth c D z (GG D z (X, (2, M, o))) k n Q 9 1212 (lsL b z i) [] := by
  rcases s_harvested hr (xs (i + 1)) with ⟨r, a1, a2⟩ | ⟨e, k', r, hm, a1, a2⟩
  · exact lb_harvested E C hi hk hn (by decide) (by decide) (by decide) (by decide) (w_harvested (f1 := 0) a1) (c_X12_harvested (f1 := 1) a2) (by unfold f_X12_thrown; rw [mi00]) (fun _ => rfl) (h X _ _ (hr.thr 0))
  · simp only [List.mem_cons, List.not_mem_nil, or_false, Prod.mk.injEq] at hm
    obtain ⟨rfl, rfl⟩ := hm
    exact lb_harvested E C hi hk hn (by decide) (by decide) (by decide) (by decide) (wx_harvested_2 (f1 := 0) hl a1) (c_X12_harvested (f1 := 1) a2) (by unfold f_X12_thrown; rw [mi00]) (fun q => absurd q (by decide)) (h X _ _ (hr.thr 1))
set_option maxRecDepth 20000 in
theorem lb_yieldLeft {p : Program} {l : Launch} {e : Env} {s : State} {m : MethodId} {args : Array Value} {below : List Frame} {meth : Method} {c : Code} {D : DD} {z : Nat} {k n : Nat} {Q : State → Prop} {b L i : Nat} {xs : Nat → Int32} {X : XT} {M : MT} {o : Int64} (E : Cx p s m args meth c D z RL cL_law 9 (some .boolean)) (C : LC s z b L xs) (hi : i + 6 ≤ L) (hk : k + 100 ≤ 601024) (hn : n + 10000 ≤ 7293034) {d q1 q2 : Nat} {kk r : Int32} {o' : Int64} {X' : XT} {M' : MT} (hrw : d + 1 ≤ 2048) (hrl : d ≤ 1000) (hrc : q1 ≤ 64) (hrs : q2 ≤ 8000) (hW : CW l yL_yieldLeft cL_yieldLeft 4 (some .int) [(0, 9, 12, 28)] (rmk d q1 q2) D z [.ref (z + aX 0 0 0), .int (xs (i + 1)), .ref (z + 537)] (GG D z (X, (2, M, o))) (some (.int kk)) (GG D z (X', (2, M, o')))) (hM : CC l yX12_yieldLeft cX12_yieldLeft 2 (some .int) (rmk 3 0 0) D z [.ref (z + aM 0), .int (xs (i + 1))] (GG D z (X', (2, M, o'))) (some (.int r)) (GG D z (X', (2, M', o')))) (hT : f_X12_thrown M' = some kk) (hres : kk = 0 → o' = r.toInt64) (h : J p l e room_1 s m args below meth c D z (GG D z (X', (2, M', o'))) (k + 100) (n + 10000) Q 9 3238 (lsL b z i) []) : J p l e room_1 s m args below meth c D z (GG D z (X, (2, M, o))) k n Q 9 1268 (lsL b z i) [] := by
  refine j_aload_n E 3 rfl dL_law_1268 ?_
  refine j_aload_n E 4 rfl dL_law_1269 ?_
  refine j_iload E 0 rfl dL_law_1270 ?_
  refine j_iconst E (nI 1) rfl dL_law_1272 ?_
  refine j_iadd E dL_law_1273 ?_
  refine j_name (nI_add i 1).symm ?_
  refine j_sld E C (by omega) dL_law_1274 ?_
  refine j_aload_n E 1 rfl dL_law_1275 ?_
  refine j_invW (n0 := 3) [] [.int kk] E hW ml_L_248 st_L_yieldLeft in_L cd_L_yieldLeft rfl (by decide +kernel) rfl ⟨hrw, by show 8 + (_ + 11) + 64 * d ≤ 84000; omega⟩ rfl rfl (le_ rfl) ⟨by show k + q1 ≤ 601024; omega, by show n + q2 ≤ 7293034; omega⟩ dL_law_1276 ?_
  refine j_istore (ls' := (5, .int kk) :: lsL b z i) E (lt_ rfl) rfl dL_law_1279 ?_
  refine j_aload_n E 3 rfl dL_law_1281 ?_
  refine j_aload_n E 5 rfl dL_law_1282 ?_
  refine j_iload E 1 rfl dL_law_1283 ?_
  refine j_iconst E (nI 1) rfl dL_law_1285 ?_
  refine j_iadd E dL_law_1286 ?_
  refine j_name (nI_add i 1).symm ?_
  refine j_sld E C (by omega) dL_law_1287 ?_
  refine j_invV [] [.int r] E hM ml_L_250 mv_X12_yieldLeft rfl ⟨le_ rfl, le_ rfl⟩ (rcM (f1 := 1) cf_X12) rfl rfl (le_ rfl) ⟨by show k + q1 + 0 ≤ 601024; omega, by show n + q2 + 0 ≤ 7293034; omega⟩ dL_law_1288 ?_
  refine j_istore (ls' := (6, .int r) :: (5, .int kk) :: lsL b z i) E (lt_ rfl) rfl dL_law_1291 ?_
  refine j_aload_n E 4 rfl dL_law_1293 ?_
  refine j_invV [] [.int kk] E (c_X12_thrown (f1 := 1) hT) ml_L_159 mv_X12_thrown rfl ⟨le_ rfl, le_ rfl⟩ (rcM (f1 := 1) cf_X12) rfl rfl (le_ rfl) ⟨by show k + q1 + 0 + 0 ≤ 601024; omega, by show n + q2 + 0 + 0 ≤ 7293034; omega⟩ dL_law_1294 ?_
  refine j_iload E 1 rfl dL_law_1297 ?_
  refine j_icmp_eq E 1304 (by decide) dL_law_1299 (fun _ => ?_) (fun q => absurd rfl q)
  have fin : J p l e room_1 s m args below meth c D z (GG D z (X', (2, M', o'))) (k + 100) (n + 10000) Q 9 3238 ((6, .int r) :: (5, .int kk) :: lsL b z i) [] := j_sub (ls' := lsL b z i) [2, 3, 4, 5, 6] rfl h
  refine j_iload E 1 rfl dL_law_1304 ?_
  refine j_if_ne E 1321 (by decide) dL_law_1306 (fun _ => ?_) (fun q0 => ?_)
  · refine j_goto E 3238 (by decide) dL_law_1321 ?_
    exact j_widen (by show k + q1 + 0 + 0 ≤ k + 100; omega) (by show n + q2 + 0 + 0 ≤ n + 10000; omega) fin
  · refine j_aload_n E 3 rfl dL_law_1309 ?_
    refine j_iconst E 0 ic_0 dL_law_1310 ?_
    refine j_laldO (f1 := 0) E dL_law_1311 ?_
    refine j_iload E 0 rfl dL_law_1312 ?_
    refine j_i2l E dL_law_1314 ?_
    refine j_lcmp E dL_law_1315 ?_
    refine j_if_eq E 1321 (by decide) dL_law_1316 (fun _ => ?_) (fun q => absurd ((cmp_eq _ _).mpr (hres q0)) q)
    refine j_goto E 3238 (by decide) dL_law_1321 ?_
    exact j_widen (by show k + q1 + 0 + 0 ≤ k + 100; omega) (by show n + q2 + 0 + 0 ≤ n + 10000; omega) fin
set_option maxRecDepth 20000 in
theorem la_yieldLeft {p : Program} {l : Launch} {e : Env} {s : State} {m : MethodId} {args : Array Value} {below : List Frame} {meth : Method} {c : Code} {D : DD} {z : Nat} {k n : Nat} {Q : State → Prop} {b L i : Nat} {xs : Nat → Int32} {X : XT} {M : MT} {o : Int64} (hl : l.stackTraces = false) (E : Cx p s m args meth c D z RL cL_law 9 (some .boolean)) (C : LC s z b L xs) (hi : i + 6 ≤ L) (hk : k + 100 ≤ 601024) (hn : n + 10000 ≤ 7293034) (hr : RR X M) (h : ∀ X' M' o', RR X' M' → J p l e room_1 s m args below meth c D z (GG D z (X', (2, M', o'))) (k + 100) (n + 10000) Q 9 3238 (lsL b z i) []) : J p l e room_1 s m args below meth c D z (GG D z (X, (2, M, o))) k n Q 9 1268 (lsL b z i) [] := by
  rcases s_yieldLeft hr (xs (i + 1)) with ⟨r, a1, a2⟩ | ⟨e, k', r, hm, a1, a2⟩
  · exact lb_yieldLeft E C hi hk hn (by decide) (by decide) (by decide) (by decide) (w_yieldLeft (f1 := 0) a1) (c_X12_yieldLeft (f1 := 1) a2) (by unfold f_X12_thrown; rw [mi00]) (fun _ => rfl) (h X _ _ (hr.thr 0))
  · simp only [List.mem_cons, List.not_mem_nil, or_false, Prod.mk.injEq] at hm
    obtain ⟨rfl, rfl⟩ := hm
    exact lb_yieldLeft E C hi hk hn (by decide) (by decide) (by decide) (by decide) (wx_yieldLeft_2 (f1 := 0) hl a1) (c_X12_yieldLeft (f1 := 1) a2) (by unfold f_X12_thrown; rw [mi00]) (fun q => absurd q (by decide)) (h X _ _ (hr.thr 1))
set_option maxRecDepth 20000 in
theorem lb_plotOfLoad {p : Program} {l : Launch} {e : Env} {s : State} {m : MethodId} {args : Array Value} {below : List Frame} {meth : Method} {c : Code} {D : DD} {z : Nat} {k n : Nat} {Q : State → Prop} {b L i : Nat} {xs : Nat → Int32} {X : XT} {M : MT} {o : Int64} (E : Cx p s m args meth c D z RL cL_law 9 (some .boolean)) (C : LC s z b L xs) (hi : i + 6 ≤ L) (hk : k + 100 ≤ 601024) (hn : n + 10000 ≤ 7293034) {d q1 q2 : Nat} {kk r : Int32} {o' : Int64} {X' : XT} {M' : MT} (hrw : d + 1 ≤ 2048) (hrl : d ≤ 1000) (hrc : q1 ≤ 64) (hrs : q2 ≤ 8000) (hW : CW l yL_plotOfLoad cL_plotOfLoad 4 (some .int) [(0, 9, 12, 28)] (rmk d q1 q2) D z [.ref (z + aX 0 0 0), .int (xs (i + 1)), .ref (z + 537)] (GG D z (X, (2, M, o))) (some (.int kk)) (GG D z (X', (2, M, o')))) (hM : CC l yX12_plotOfLoad cX12_plotOfLoad 2 (some .int) (rmk 4 0 0) D z [.ref (z + aM 0), .int (xs (i + 1))] (GG D z (X', (2, M, o'))) (some (.int r)) (GG D z (X', (2, M', o')))) (hT : f_X12_thrown M' = some kk) (hres : kk = 0 → o' = r.toInt64) (h : J p l e room_1 s m args below meth c D z (GG D z (X', (2, M', o'))) (k + 100) (n + 10000) Q 9 3238 (lsL b z i) []) : J p l e room_1 s m args below meth c D z (GG D z (X, (2, M, o))) k n Q 9 1324 (lsL b z i) [] := by
  refine j_aload_n E 3 rfl dL_law_1324 ?_
  refine j_aload_n E 4 rfl dL_law_1325 ?_
  refine j_iload E 0 rfl dL_law_1326 ?_
  refine j_iconst E (nI 1) rfl dL_law_1328 ?_
  refine j_iadd E dL_law_1329 ?_
  refine j_name (nI_add i 1).symm ?_
  refine j_sld E C (by omega) dL_law_1330 ?_
  refine j_aload_n E 1 rfl dL_law_1331 ?_
  refine j_invW (n0 := 3) [] [.int kk] E hW ml_L_251 st_L_plotOfLoad in_L cd_L_plotOfLoad rfl (by decide +kernel) rfl ⟨hrw, by show 8 + (_ + 11) + 64 * d ≤ 84000; omega⟩ rfl rfl (le_ rfl) ⟨by show k + q1 ≤ 601024; omega, by show n + q2 ≤ 7293034; omega⟩ dL_law_1332 ?_
  refine j_istore (ls' := (5, .int kk) :: lsL b z i) E (lt_ rfl) rfl dL_law_1335 ?_
  refine j_aload_n E 3 rfl dL_law_1337 ?_
  refine j_aload_n E 5 rfl dL_law_1338 ?_
  refine j_iload E 1 rfl dL_law_1339 ?_
  refine j_iconst E (nI 1) rfl dL_law_1341 ?_
  refine j_iadd E dL_law_1342 ?_
  refine j_name (nI_add i 1).symm ?_
  refine j_sld E C (by omega) dL_law_1343 ?_
  refine j_invV [] [.int r] E hM ml_L_253 mv_X12_plotOfLoad rfl ⟨le_ rfl, le_ rfl⟩ (rcM (f1 := 1) cf_X12) rfl rfl (le_ rfl) ⟨by show k + q1 + 0 ≤ 601024; omega, by show n + q2 + 0 ≤ 7293034; omega⟩ dL_law_1344 ?_
  refine j_istore (ls' := (6, .int r) :: (5, .int kk) :: lsL b z i) E (lt_ rfl) rfl dL_law_1347 ?_
  refine j_aload_n E 4 rfl dL_law_1349 ?_
  refine j_invV [] [.int kk] E (c_X12_thrown (f1 := 1) hT) ml_L_159 mv_X12_thrown rfl ⟨le_ rfl, le_ rfl⟩ (rcM (f1 := 1) cf_X12) rfl rfl (le_ rfl) ⟨by show k + q1 + 0 + 0 ≤ 601024; omega, by show n + q2 + 0 + 0 ≤ 7293034; omega⟩ dL_law_1350 ?_
  refine j_iload E 1 rfl dL_law_1353 ?_
  refine j_icmp_eq E 1360 (by decide) dL_law_1355 (fun _ => ?_) (fun q => absurd rfl q)
  have fin : J p l e room_1 s m args below meth c D z (GG D z (X', (2, M', o'))) (k + 100) (n + 10000) Q 9 3238 ((6, .int r) :: (5, .int kk) :: lsL b z i) [] := j_sub (ls' := lsL b z i) [2, 3, 4, 5, 6] rfl h
  refine j_iload E 1 rfl dL_law_1360 ?_
  refine j_if_ne E 1377 (by decide) dL_law_1362 (fun _ => ?_) (fun q0 => ?_)
  · refine j_goto E 3238 (by decide) dL_law_1377 ?_
    exact j_widen (by show k + q1 + 0 + 0 ≤ k + 100; omega) (by show n + q2 + 0 + 0 ≤ n + 10000; omega) fin
  · refine j_aload_n E 3 rfl dL_law_1365 ?_
    refine j_iconst E 0 ic_0 dL_law_1366 ?_
    refine j_laldO (f1 := 0) E dL_law_1367 ?_
    refine j_iload E 0 rfl dL_law_1368 ?_
    refine j_i2l E dL_law_1370 ?_
    refine j_lcmp E dL_law_1371 ?_
    refine j_if_eq E 1377 (by decide) dL_law_1372 (fun _ => ?_) (fun q => absurd ((cmp_eq _ _).mpr (hres q0)) q)
    refine j_goto E 3238 (by decide) dL_law_1377 ?_
    exact j_widen (by show k + q1 + 0 + 0 ≤ k + 100; omega) (by show n + q2 + 0 + 0 ≤ n + 10000; omega) fin
set_option maxRecDepth 20000 in
theorem la_plotOfLoad {p : Program} {l : Launch} {e : Env} {s : State} {m : MethodId} {args : Array Value} {below : List Frame} {meth : Method} {c : Code} {D : DD} {z : Nat} {k n : Nat} {Q : State → Prop} {b L i : Nat} {xs : Nat → Int32} {X : XT} {M : MT} {o : Int64} (hl : l.stackTraces = false) (E : Cx p s m args meth c D z RL cL_law 9 (some .boolean)) (C : LC s z b L xs) (hi : i + 6 ≤ L) (hk : k + 100 ≤ 601024) (hn : n + 10000 ≤ 7293034) (hr : RR X M) (h : ∀ X' M' o', RR X' M' → J p l e room_1 s m args below meth c D z (GG D z (X', (2, M', o'))) (k + 100) (n + 10000) Q 9 3238 (lsL b z i) []) : J p l e room_1 s m args below meth c D z (GG D z (X, (2, M, o))) k n Q 9 1324 (lsL b z i) [] := by
  rcases s_plotOfLoad hr (xs (i + 1)) with ⟨r, a1, a2⟩ | ⟨e, k', r, hm, a1, a2⟩
  · exact lb_plotOfLoad E C hi hk hn (by decide) (by decide) (by decide) (by decide) (w_plotOfLoad (f1 := 0) a1) (c_X12_plotOfLoad (f1 := 1) a2) (by unfold f_X12_thrown; rw [mi00]) (fun _ => rfl) (h X _ _ (hr.thr 0))
  · simp only [List.mem_cons, List.not_mem_nil, or_false, Prod.mk.injEq] at hm
    obtain ⟨rfl, rfl⟩ := hm
    exact lb_plotOfLoad E C hi hk hn (by decide) (by decide) (by decide) (by decide) (wx_plotOfLoad_2 (f1 := 0) hl a1) (c_X12_plotOfLoad (f1 := 1) a2) (by unfold f_X12_thrown; rw [mi00]) (fun q => absurd q (by decide)) (h X _ _ (hr.thr 1))
set_option maxRecDepth 20000 in
theorem lb_classOfLoad {p : Program} {l : Launch} {e : Env} {s : State} {m : MethodId} {args : Array Value} {below : List Frame} {meth : Method} {c : Code} {D : DD} {z : Nat} {k n : Nat} {Q : State → Prop} {b L i : Nat} {xs : Nat → Int32} {X : XT} {M : MT} {o : Int64} (E : Cx p s m args meth c D z RL cL_law 9 (some .boolean)) (C : LC s z b L xs) (hi : i + 6 ≤ L) (hk : k + 100 ≤ 601024) (hn : n + 10000 ≤ 7293034) {d q1 q2 : Nat} {kk r : Int32} {o' : Int64} {X' : XT} {M' : MT} (hrw : d + 1 ≤ 2048) (hrl : d ≤ 1000) (hrc : q1 ≤ 64) (hrs : q2 ≤ 8000) (hW : CW l yL_classOfLoad cL_classOfLoad 4 (some .int) [(0, 9, 12, 28)] (rmk d q1 q2) D z [.ref (z + aX 0 0 0), .int (xs (i + 1)), .ref (z + 537)] (GG D z (X, (2, M, o))) (some (.int kk)) (GG D z (X', (2, M, o')))) (hM : CC l yX12_classOfLoad cX12_classOfLoad 2 (some .int) (rmk 4 0 0) D z [.ref (z + aM 0), .int (xs (i + 1))] (GG D z (X', (2, M, o'))) (some (.int r)) (GG D z (X', (2, M', o')))) (hT : f_X12_thrown M' = some kk) (hres : kk = 0 → o' = r.toInt64) (h : J p l e room_1 s m args below meth c D z (GG D z (X', (2, M', o'))) (k + 100) (n + 10000) Q 9 3238 (lsL b z i) []) : J p l e room_1 s m args below meth c D z (GG D z (X, (2, M, o))) k n Q 9 1380 (lsL b z i) [] := by
  refine j_aload_n E 3 rfl dL_law_1380 ?_
  refine j_aload_n E 4 rfl dL_law_1381 ?_
  refine j_iload E 0 rfl dL_law_1382 ?_
  refine j_iconst E (nI 1) rfl dL_law_1384 ?_
  refine j_iadd E dL_law_1385 ?_
  refine j_name (nI_add i 1).symm ?_
  refine j_sld E C (by omega) dL_law_1386 ?_
  refine j_aload_n E 1 rfl dL_law_1387 ?_
  refine j_invW (n0 := 3) [] [.int kk] E hW ml_L_254 st_L_classOfLoad in_L cd_L_classOfLoad rfl (by decide +kernel) rfl ⟨hrw, by show 8 + (_ + 11) + 64 * d ≤ 84000; omega⟩ rfl rfl (le_ rfl) ⟨by show k + q1 ≤ 601024; omega, by show n + q2 ≤ 7293034; omega⟩ dL_law_1388 ?_
  refine j_istore (ls' := (5, .int kk) :: lsL b z i) E (lt_ rfl) rfl dL_law_1391 ?_
  refine j_aload_n E 3 rfl dL_law_1393 ?_
  refine j_aload_n E 5 rfl dL_law_1394 ?_
  refine j_iload E 1 rfl dL_law_1395 ?_
  refine j_iconst E (nI 1) rfl dL_law_1397 ?_
  refine j_iadd E dL_law_1398 ?_
  refine j_name (nI_add i 1).symm ?_
  refine j_sld E C (by omega) dL_law_1399 ?_
  refine j_invV [] [.int r] E hM ml_L_256 mv_X12_classOfLoad rfl ⟨le_ rfl, le_ rfl⟩ (rcM (f1 := 1) cf_X12) rfl rfl (le_ rfl) ⟨by show k + q1 + 0 ≤ 601024; omega, by show n + q2 + 0 ≤ 7293034; omega⟩ dL_law_1400 ?_
  refine j_istore (ls' := (6, .int r) :: (5, .int kk) :: lsL b z i) E (lt_ rfl) rfl dL_law_1403 ?_
  refine j_aload_n E 4 rfl dL_law_1405 ?_
  refine j_invV [] [.int kk] E (c_X12_thrown (f1 := 1) hT) ml_L_159 mv_X12_thrown rfl ⟨le_ rfl, le_ rfl⟩ (rcM (f1 := 1) cf_X12) rfl rfl (le_ rfl) ⟨by show k + q1 + 0 + 0 ≤ 601024; omega, by show n + q2 + 0 + 0 ≤ 7293034; omega⟩ dL_law_1406 ?_
  refine j_iload E 1 rfl dL_law_1409 ?_
  refine j_icmp_eq E 1416 (by decide) dL_law_1411 (fun _ => ?_) (fun q => absurd rfl q)
  have fin : J p l e room_1 s m args below meth c D z (GG D z (X', (2, M', o'))) (k + 100) (n + 10000) Q 9 3238 ((6, .int r) :: (5, .int kk) :: lsL b z i) [] := j_sub (ls' := lsL b z i) [2, 3, 4, 5, 6] rfl h
  refine j_iload E 1 rfl dL_law_1416 ?_
  refine j_if_ne E 1433 (by decide) dL_law_1418 (fun _ => ?_) (fun q0 => ?_)
  · refine j_goto E 3238 (by decide) dL_law_1433 ?_
    exact j_widen (by show k + q1 + 0 + 0 ≤ k + 100; omega) (by show n + q2 + 0 + 0 ≤ n + 10000; omega) fin
  · refine j_aload_n E 3 rfl dL_law_1421 ?_
    refine j_iconst E 0 ic_0 dL_law_1422 ?_
    refine j_laldO (f1 := 0) E dL_law_1423 ?_
    refine j_iload E 0 rfl dL_law_1424 ?_
    refine j_i2l E dL_law_1426 ?_
    refine j_lcmp E dL_law_1427 ?_
    refine j_if_eq E 1433 (by decide) dL_law_1428 (fun _ => ?_) (fun q => absurd ((cmp_eq _ _).mpr (hres q0)) q)
    refine j_goto E 3238 (by decide) dL_law_1433 ?_
    exact j_widen (by show k + q1 + 0 + 0 ≤ k + 100; omega) (by show n + q2 + 0 + 0 ≤ n + 10000; omega) fin
set_option maxRecDepth 20000 in
theorem la_classOfLoad {p : Program} {l : Launch} {e : Env} {s : State} {m : MethodId} {args : Array Value} {below : List Frame} {meth : Method} {c : Code} {D : DD} {z : Nat} {k n : Nat} {Q : State → Prop} {b L i : Nat} {xs : Nat → Int32} {X : XT} {M : MT} {o : Int64} (hl : l.stackTraces = false) (E : Cx p s m args meth c D z RL cL_law 9 (some .boolean)) (C : LC s z b L xs) (hi : i + 6 ≤ L) (hk : k + 100 ≤ 601024) (hn : n + 10000 ≤ 7293034) (hr : RR X M) (h : ∀ X' M' o', RR X' M' → J p l e room_1 s m args below meth c D z (GG D z (X', (2, M', o'))) (k + 100) (n + 10000) Q 9 3238 (lsL b z i) []) : J p l e room_1 s m args below meth c D z (GG D z (X, (2, M, o))) k n Q 9 1380 (lsL b z i) [] := by
  rcases s_classOfLoad hr (xs (i + 1)) with ⟨r, a1, a2⟩ | ⟨e, k', r, hm, a1, a2⟩
  · exact lb_classOfLoad E C hi hk hn (by decide) (by decide) (by decide) (by decide) (w_classOfLoad (f1 := 0) a1) (c_X12_classOfLoad (f1 := 1) a2) (by unfold f_X12_thrown; rw [mi00]) (fun _ => rfl) (h X _ _ (hr.thr 0))
  · simp only [List.mem_cons, List.not_mem_nil, or_false, Prod.mk.injEq] at hm
    obtain ⟨rfl, rfl⟩ := hm
    exact lb_classOfLoad E C hi hk hn (by decide) (by decide) (by decide) (by decide) (wx_classOfLoad_2 (f1 := 0) hl a1) (c_X12_classOfLoad (f1 := 1) a2) (by unfold f_X12_thrown; rw [mi00]) (fun q => absurd q (by decide)) (h X _ _ (hr.thr 1))
set_option maxRecDepth 20000 in
theorem lb_tankOfLoad {p : Program} {l : Launch} {e : Env} {s : State} {m : MethodId} {args : Array Value} {below : List Frame} {meth : Method} {c : Code} {D : DD} {z : Nat} {k n : Nat} {Q : State → Prop} {b L i : Nat} {xs : Nat → Int32} {X : XT} {M : MT} {o : Int64} (E : Cx p s m args meth c D z RL cL_law 9 (some .boolean)) (C : LC s z b L xs) (hi : i + 6 ≤ L) (hk : k + 100 ≤ 601024) (hn : n + 10000 ≤ 7293034) {d q1 q2 : Nat} {kk r : Int32} {o' : Int64} {X' : XT} {M' : MT} (hrw : d + 1 ≤ 2048) (hrl : d ≤ 1000) (hrc : q1 ≤ 64) (hrs : q2 ≤ 8000) (hW : CW l yL_tankOfLoad cL_tankOfLoad 4 (some .int) [(0, 9, 12, 28)] (rmk d q1 q2) D z [.ref (z + aX 0 0 0), .int (xs (i + 1)), .ref (z + 537)] (GG D z (X, (2, M, o))) (some (.int kk)) (GG D z (X', (2, M, o')))) (hM : CC l yX12_tankOfLoad cX12_tankOfLoad 2 (some .int) (rmk 4 0 0) D z [.ref (z + aM 0), .int (xs (i + 1))] (GG D z (X', (2, M, o'))) (some (.int r)) (GG D z (X', (2, M', o')))) (hT : f_X12_thrown M' = some kk) (hres : kk = 0 → o' = r.toInt64) (h : J p l e room_1 s m args below meth c D z (GG D z (X', (2, M', o'))) (k + 100) (n + 10000) Q 9 3238 (lsL b z i) []) : J p l e room_1 s m args below meth c D z (GG D z (X, (2, M, o))) k n Q 9 1436 (lsL b z i) [] := by
  refine j_aload_n E 3 rfl dL_law_1436 ?_
  refine j_aload_n E 4 rfl dL_law_1437 ?_
  refine j_iload E 0 rfl dL_law_1438 ?_
  refine j_iconst E (nI 1) rfl dL_law_1440 ?_
  refine j_iadd E dL_law_1441 ?_
  refine j_name (nI_add i 1).symm ?_
  refine j_sld E C (by omega) dL_law_1442 ?_
  refine j_aload_n E 1 rfl dL_law_1443 ?_
  refine j_invW (n0 := 3) [] [.int kk] E hW ml_L_257 st_L_tankOfLoad in_L cd_L_tankOfLoad rfl (by decide +kernel) rfl ⟨hrw, by show 8 + (_ + 11) + 64 * d ≤ 84000; omega⟩ rfl rfl (le_ rfl) ⟨by show k + q1 ≤ 601024; omega, by show n + q2 ≤ 7293034; omega⟩ dL_law_1444 ?_
  refine j_istore (ls' := (5, .int kk) :: lsL b z i) E (lt_ rfl) rfl dL_law_1447 ?_
  refine j_aload_n E 3 rfl dL_law_1449 ?_
  refine j_aload_n E 5 rfl dL_law_1450 ?_
  refine j_iload E 1 rfl dL_law_1451 ?_
  refine j_iconst E (nI 1) rfl dL_law_1453 ?_
  refine j_iadd E dL_law_1454 ?_
  refine j_name (nI_add i 1).symm ?_
  refine j_sld E C (by omega) dL_law_1455 ?_
  refine j_invV [] [.int r] E hM ml_L_259 mv_X12_tankOfLoad rfl ⟨le_ rfl, le_ rfl⟩ (rcM (f1 := 1) cf_X12) rfl rfl (le_ rfl) ⟨by show k + q1 + 0 ≤ 601024; omega, by show n + q2 + 0 ≤ 7293034; omega⟩ dL_law_1456 ?_
  refine j_istore (ls' := (6, .int r) :: (5, .int kk) :: lsL b z i) E (lt_ rfl) rfl dL_law_1459 ?_
  refine j_aload_n E 4 rfl dL_law_1461 ?_
  refine j_invV [] [.int kk] E (c_X12_thrown (f1 := 1) hT) ml_L_159 mv_X12_thrown rfl ⟨le_ rfl, le_ rfl⟩ (rcM (f1 := 1) cf_X12) rfl rfl (le_ rfl) ⟨by show k + q1 + 0 + 0 ≤ 601024; omega, by show n + q2 + 0 + 0 ≤ 7293034; omega⟩ dL_law_1462 ?_
  refine j_iload E 1 rfl dL_law_1465 ?_
  refine j_icmp_eq E 1472 (by decide) dL_law_1467 (fun _ => ?_) (fun q => absurd rfl q)
  have fin : J p l e room_1 s m args below meth c D z (GG D z (X', (2, M', o'))) (k + 100) (n + 10000) Q 9 3238 ((6, .int r) :: (5, .int kk) :: lsL b z i) [] := j_sub (ls' := lsL b z i) [2, 3, 4, 5, 6] rfl h
  refine j_iload E 1 rfl dL_law_1472 ?_
  refine j_if_ne E 1489 (by decide) dL_law_1474 (fun _ => ?_) (fun q0 => ?_)
  · refine j_goto E 3238 (by decide) dL_law_1489 ?_
    exact j_widen (by show k + q1 + 0 + 0 ≤ k + 100; omega) (by show n + q2 + 0 + 0 ≤ n + 10000; omega) fin
  · refine j_aload_n E 3 rfl dL_law_1477 ?_
    refine j_iconst E 0 ic_0 dL_law_1478 ?_
    refine j_laldO (f1 := 0) E dL_law_1479 ?_
    refine j_iload E 0 rfl dL_law_1480 ?_
    refine j_i2l E dL_law_1482 ?_
    refine j_lcmp E dL_law_1483 ?_
    refine j_if_eq E 1489 (by decide) dL_law_1484 (fun _ => ?_) (fun q => absurd ((cmp_eq _ _).mpr (hres q0)) q)
    refine j_goto E 3238 (by decide) dL_law_1489 ?_
    exact j_widen (by show k + q1 + 0 + 0 ≤ k + 100; omega) (by show n + q2 + 0 + 0 ≤ n + 10000; omega) fin
set_option maxRecDepth 20000 in
theorem la_tankOfLoad {p : Program} {l : Launch} {e : Env} {s : State} {m : MethodId} {args : Array Value} {below : List Frame} {meth : Method} {c : Code} {D : DD} {z : Nat} {k n : Nat} {Q : State → Prop} {b L i : Nat} {xs : Nat → Int32} {X : XT} {M : MT} {o : Int64} (hl : l.stackTraces = false) (E : Cx p s m args meth c D z RL cL_law 9 (some .boolean)) (C : LC s z b L xs) (hi : i + 6 ≤ L) (hk : k + 100 ≤ 601024) (hn : n + 10000 ≤ 7293034) (hr : RR X M) (h : ∀ X' M' o', RR X' M' → J p l e room_1 s m args below meth c D z (GG D z (X', (2, M', o'))) (k + 100) (n + 10000) Q 9 3238 (lsL b z i) []) : J p l e room_1 s m args below meth c D z (GG D z (X, (2, M, o))) k n Q 9 1436 (lsL b z i) [] := by
  rcases s_tankOfLoad hr (xs (i + 1)) with ⟨r, a1, a2⟩ | ⟨e, k', r, hm, a1, a2⟩
  · exact lb_tankOfLoad E C hi hk hn (by decide) (by decide) (by decide) (by decide) (w_tankOfLoad (f1 := 0) a1) (c_X12_tankOfLoad (f1 := 1) a2) (by unfold f_X12_thrown; rw [mi00]) (fun _ => rfl) (h X _ _ (hr.thr 0))
  · simp only [List.mem_cons, List.not_mem_nil, or_false, Prod.mk.injEq] at hm
    obtain ⟨rfl, rfl⟩ := hm
    exact lb_tankOfLoad E C hi hk hn (by decide) (by decide) (by decide) (by decide) (wx_tankOfLoad_2 (f1 := 0) hl a1) (c_X12_tankOfLoad (f1 := 1) a2) (by unfold f_X12_thrown; rw [mi00]) (fun q => absurd q (by decide)) (h X _ _ (hr.thr 1))
set_option maxRecDepth 20000 in
theorem lb_valueOf {p : Program} {l : Launch} {e : Env} {s : State} {m : MethodId} {args : Array Value} {below : List Frame} {meth : Method} {c : Code} {D : DD} {z : Nat} {k n : Nat} {Q : State → Prop} {b L i : Nat} {xs : Nat → Int32} {X : XT} {M : MT} {o : Int64} (E : Cx p s m args meth c D z RL cL_law 9 (some .boolean)) (C : LC s z b L xs) (hi : i + 6 ≤ L) (hk : k + 100 ≤ 601024) (hn : n + 10000 ≤ 7293034) {d q1 q2 : Nat} {kk r : Int32} {o' : Int64} {X' : XT} {M' : MT} (hrw : d + 1 ≤ 2048) (hrl : d ≤ 1000) (hrc : q1 ≤ 64) (hrs : q2 ≤ 8000) (hW : CW l yL_valueOf cL_valueOf 4 (some .int) [(0, 9, 12, 28)] (rmk d q1 q2) D z [.ref (z + aX 0 0 0), .int (xs (i + 1)), .ref (z + 537)] (GG D z (X, (2, M, o))) (some (.int kk)) (GG D z (X', (2, M, o')))) (hM : CC l yX12_valueOf cX12_valueOf 2 (some .int) (rmk 4 0 0) D z [.ref (z + aM 0), .int (xs (i + 1))] (GG D z (X', (2, M, o'))) (some (.int r)) (GG D z (X', (2, M', o')))) (hT : f_X12_thrown M' = some kk) (hres : kk = 0 → o' = r.toInt64) (h : J p l e room_1 s m args below meth c D z (GG D z (X', (2, M', o'))) (k + 100) (n + 10000) Q 9 3238 (lsL b z i) []) : J p l e room_1 s m args below meth c D z (GG D z (X, (2, M, o))) k n Q 9 1492 (lsL b z i) [] := by
  refine j_aload_n E 3 rfl dL_law_1492 ?_
  refine j_aload_n E 4 rfl dL_law_1493 ?_
  refine j_iload E 0 rfl dL_law_1494 ?_
  refine j_iconst E (nI 1) rfl dL_law_1496 ?_
  refine j_iadd E dL_law_1497 ?_
  refine j_name (nI_add i 1).symm ?_
  refine j_sld E C (by omega) dL_law_1498 ?_
  refine j_aload_n E 1 rfl dL_law_1499 ?_
  refine j_invW (n0 := 3) [] [.int kk] E hW ml_L_260 st_L_valueOf in_L cd_L_valueOf rfl (by decide +kernel) rfl ⟨hrw, by show 8 + (_ + 11) + 64 * d ≤ 84000; omega⟩ rfl rfl (le_ rfl) ⟨by show k + q1 ≤ 601024; omega, by show n + q2 ≤ 7293034; omega⟩ dL_law_1500 ?_
  refine j_istore (ls' := (5, .int kk) :: lsL b z i) E (lt_ rfl) rfl dL_law_1503 ?_
  refine j_aload_n E 3 rfl dL_law_1505 ?_
  refine j_aload_n E 5 rfl dL_law_1506 ?_
  refine j_iload E 1 rfl dL_law_1507 ?_
  refine j_iconst E (nI 1) rfl dL_law_1509 ?_
  refine j_iadd E dL_law_1510 ?_
  refine j_name (nI_add i 1).symm ?_
  refine j_sld E C (by omega) dL_law_1511 ?_
  refine j_invV [] [.int r] E hM ml_L_262 mv_X12_valueOf rfl ⟨le_ rfl, le_ rfl⟩ (rcM (f1 := 1) cf_X12) rfl rfl (le_ rfl) ⟨by show k + q1 + 0 ≤ 601024; omega, by show n + q2 + 0 ≤ 7293034; omega⟩ dL_law_1512 ?_
  refine j_istore (ls' := (6, .int r) :: (5, .int kk) :: lsL b z i) E (lt_ rfl) rfl dL_law_1515 ?_
  refine j_aload_n E 4 rfl dL_law_1517 ?_
  refine j_invV [] [.int kk] E (c_X12_thrown (f1 := 1) hT) ml_L_159 mv_X12_thrown rfl ⟨le_ rfl, le_ rfl⟩ (rcM (f1 := 1) cf_X12) rfl rfl (le_ rfl) ⟨by show k + q1 + 0 + 0 ≤ 601024; omega, by show n + q2 + 0 + 0 ≤ 7293034; omega⟩ dL_law_1518 ?_
  refine j_iload E 1 rfl dL_law_1521 ?_
  refine j_icmp_eq E 1528 (by decide) dL_law_1523 (fun _ => ?_) (fun q => absurd rfl q)
  have fin : J p l e room_1 s m args below meth c D z (GG D z (X', (2, M', o'))) (k + 100) (n + 10000) Q 9 3238 ((6, .int r) :: (5, .int kk) :: lsL b z i) [] := j_sub (ls' := lsL b z i) [2, 3, 4, 5, 6] rfl h
  refine j_iload E 1 rfl dL_law_1528 ?_
  refine j_if_ne E 1545 (by decide) dL_law_1530 (fun _ => ?_) (fun q0 => ?_)
  · refine j_goto E 3238 (by decide) dL_law_1545 ?_
    exact j_widen (by show k + q1 + 0 + 0 ≤ k + 100; omega) (by show n + q2 + 0 + 0 ≤ n + 10000; omega) fin
  · refine j_aload_n E 3 rfl dL_law_1533 ?_
    refine j_iconst E 0 ic_0 dL_law_1534 ?_
    refine j_laldO (f1 := 0) E dL_law_1535 ?_
    refine j_iload E 0 rfl dL_law_1536 ?_
    refine j_i2l E dL_law_1538 ?_
    refine j_lcmp E dL_law_1539 ?_
    refine j_if_eq E 1545 (by decide) dL_law_1540 (fun _ => ?_) (fun q => absurd ((cmp_eq _ _).mpr (hres q0)) q)
    refine j_goto E 3238 (by decide) dL_law_1545 ?_
    exact j_widen (by show k + q1 + 0 + 0 ≤ k + 100; omega) (by show n + q2 + 0 + 0 ≤ n + 10000; omega) fin
set_option maxRecDepth 20000 in
theorem la_valueOf {p : Program} {l : Launch} {e : Env} {s : State} {m : MethodId} {args : Array Value} {below : List Frame} {meth : Method} {c : Code} {D : DD} {z : Nat} {k n : Nat} {Q : State → Prop} {b L i : Nat} {xs : Nat → Int32} {X : XT} {M : MT} {o : Int64} (hl : l.stackTraces = false) (E : Cx p s m args meth c D z RL cL_law 9 (some .boolean)) (C : LC s z b L xs) (hi : i + 6 ≤ L) (hk : k + 100 ≤ 601024) (hn : n + 10000 ≤ 7293034) (hr : RR X M) (h : ∀ X' M' o', RR X' M' → J p l e room_1 s m args below meth c D z (GG D z (X', (2, M', o'))) (k + 100) (n + 10000) Q 9 3238 (lsL b z i) []) : J p l e room_1 s m args below meth c D z (GG D z (X, (2, M, o))) k n Q 9 1492 (lsL b z i) [] := by
  rcases s_valueOf hr (xs (i + 1)) with ⟨r, a1, a2⟩ | ⟨e, k', r, hm, a1, a2⟩
  · exact lb_valueOf E C hi hk hn (by decide) (by decide) (by decide) (by decide) (w_valueOf (f1 := 0) a1) (c_X12_valueOf (f1 := 1) a2) (by unfold f_X12_thrown; rw [mi00]) (fun _ => rfl) (h X _ _ (hr.thr 0))
  · simp only [List.mem_cons, List.not_mem_nil, or_false, Prod.mk.injEq] at hm
    obtain ⟨rfl, rfl⟩ := hm
    exact lb_valueOf E C hi hk hn (by decide) (by decide) (by decide) (by decide) (wx_valueOf_2 (f1 := 0) hl a1) (c_X12_valueOf (f1 := 1) a2) (by unfold f_X12_thrown; rw [mi00]) (fun q => absurd q (by decide)) (h X _ _ (hr.thr 1))
set_option maxRecDepth 20000 in
theorem lb_isPaid {p : Program} {l : Launch} {e : Env} {s : State} {m : MethodId} {args : Array Value} {below : List Frame} {meth : Method} {c : Code} {D : DD} {z : Nat} {k n : Nat} {Q : State → Prop} {b L i : Nat} {xs : Nat → Int32} {X : XT} {M : MT} {o : Int64} (E : Cx p s m args meth c D z RL cL_law 9 (some .boolean)) (C : LC s z b L xs) (hi : i + 6 ≤ L) (hk : k + 100 ≤ 601024) (hn : n + 10000 ≤ 7293034) {d q1 q2 : Nat} {kk r : Int32} {o' : Int64} {X' : XT} {M' : MT} (hrw : d + 1 ≤ 2048) (hrl : d ≤ 1000) (hrc : q1 ≤ 64) (hrs : q2 ≤ 8000) (hW : CW l yL_isPaid cL_isPaid 4 (some .int) [(0, 16, 19, 28)] (rmk d q1 q2) D z [.ref (z + aX 0 0 0), .int (xs (i + 1)), .ref (z + 537)] (GG D z (X, (2, M, o))) (some (.int kk)) (GG D z (X', (2, M, o')))) (hM : CC l yX12_isPaid cX12_isPaid 2 (some .boolean) (rmk 3 0 0) D z [.ref (z + aM 0), .int (xs (i + 1))] (GG D z (X', (2, M, o'))) (some (.int r)) (GG D z (X', (2, M', o')))) (hT : f_X12_thrown M' = some kk) (hres : kk = 0 → o' = if r = 0 then 0 else 1) (h : J p l e room_1 s m args below meth c D z (GG D z (X', (2, M', o'))) (k + 100) (n + 10000) Q 9 3238 (lsL b z i) []) : J p l e room_1 s m args below meth c D z (GG D z (X, (2, M, o))) k n Q 9 1548 (lsL b z i) [] := by
  refine j_aload_n E 3 rfl dL_law_1548 ?_
  refine j_aload_n E 4 rfl dL_law_1549 ?_
  refine j_iload E 0 rfl dL_law_1550 ?_
  refine j_iconst E (nI 1) rfl dL_law_1552 ?_
  refine j_iadd E dL_law_1553 ?_
  refine j_name (nI_add i 1).symm ?_
  refine j_sld E C (by omega) dL_law_1554 ?_
  refine j_aload_n E 1 rfl dL_law_1555 ?_
  refine j_invW (n0 := 3) [] [.int kk] E hW ml_L_263 st_L_isPaid in_L cd_L_isPaid rfl (by decide +kernel) rfl ⟨hrw, by show 8 + (_ + 11) + 64 * d ≤ 84000; omega⟩ rfl rfl (le_ rfl) ⟨by show k + q1 ≤ 601024; omega, by show n + q2 ≤ 7293034; omega⟩ dL_law_1556 ?_
  refine j_istore (ls' := (5, .int kk) :: lsL b z i) E (lt_ rfl) rfl dL_law_1559 ?_
  refine j_aload_n E 3 rfl dL_law_1561 ?_
  refine j_aload_n E 5 rfl dL_law_1562 ?_
  refine j_iload E 1 rfl dL_law_1563 ?_
  refine j_iconst E (nI 1) rfl dL_law_1565 ?_
  refine j_iadd E dL_law_1566 ?_
  refine j_name (nI_add i 1).symm ?_
  refine j_sld E C (by omega) dL_law_1567 ?_
  refine j_invV [] [.int r] E hM ml_L_265 mv_X12_isPaid rfl ⟨le_ rfl, le_ rfl⟩ (rcM (f1 := 1) cf_X12) rfl rfl (le_ rfl) ⟨by show k + q1 + 0 ≤ 601024; omega, by show n + q2 + 0 ≤ 7293034; omega⟩ dL_law_1568 ?_
  refine j_istore (ls' := (6, .int r) :: (5, .int kk) :: lsL b z i) E (lt_ rfl) rfl dL_law_1571 ?_
  refine j_aload_n E 4 rfl dL_law_1573 ?_
  refine j_invV [] [.int kk] E (c_X12_thrown (f1 := 1) hT) ml_L_159 mv_X12_thrown rfl ⟨le_ rfl, le_ rfl⟩ (rcM (f1 := 1) cf_X12) rfl rfl (le_ rfl) ⟨by show k + q1 + 0 + 0 ≤ 601024; omega, by show n + q2 + 0 + 0 ≤ 7293034; omega⟩ dL_law_1574 ?_
  refine j_iload E 1 rfl dL_law_1577 ?_
  refine j_icmp_eq E 1584 (by decide) dL_law_1579 (fun _ => ?_) (fun q => absurd rfl q)
  have fin : J p l e room_1 s m args below meth c D z (GG D z (X', (2, M', o'))) (k + 100) (n + 10000) Q 9 3238 ((6, .int r) :: (5, .int kk) :: lsL b z i) [] := j_sub (ls' := lsL b z i) [2, 3, 4, 5, 6] rfl h
  refine j_iload E 1 rfl dL_law_1584 ?_
  refine j_if_ne E 1608 (by decide) dL_law_1586 (fun _ => ?_) (fun q0 => ?_)
  · refine j_goto E 3238 (by decide) dL_law_1608 ?_
    exact j_widen (by show k + q1 + 0 + 0 ≤ k + 100; omega) (by show n + q2 + 0 + 0 ≤ n + 10000; omega) fin
  · refine j_aload_n E 3 rfl dL_law_1589 ?_
    refine j_iconst E 0 ic_0 dL_law_1590 ?_
    refine j_laldO (f1 := 0) E dL_law_1591 ?_
    refine j_iload E 0 rfl dL_law_1592 ?_
    refine j_if_eq E 1601 (by decide) dL_law_1594 (fun qr => ?_) (fun qr => ?_)
    · refine j_lconst E 0 rfl dL_law_1601 ?_
      refine j_lcmp E dL_law_1602 ?_
      refine j_if_eq E 1608 (by decide) dL_law_1603 (fun _ => ?_) (fun q => absurd ((cmp_eq _ _).mpr ((hres q0).trans (if_pos qr))) q)
      refine j_goto E 3238 (by decide) dL_law_1608 ?_
      exact j_widen (by show k + q1 + 0 + 0 ≤ k + 100; omega) (by show n + q2 + 0 + 0 ≤ n + 10000; omega) fin
    · refine j_lconst E 1 rfl dL_law_1597 ?_
      refine j_goto E 1602 (by decide) dL_law_1598 ?_
      refine j_lcmp E dL_law_1602 ?_
      refine j_if_eq E 1608 (by decide) dL_law_1603 (fun _ => ?_) (fun q => absurd ((cmp_eq _ _).mpr ((hres q0).trans (if_neg qr))) q)
      refine j_goto E 3238 (by decide) dL_law_1608 ?_
      exact j_widen (by show k + q1 + 0 + 0 ≤ k + 100; omega) (by show n + q2 + 0 + 0 ≤ n + 10000; omega) fin
set_option maxRecDepth 20000 in
theorem la_isPaid {p : Program} {l : Launch} {e : Env} {s : State} {m : MethodId} {args : Array Value} {below : List Frame} {meth : Method} {c : Code} {D : DD} {z : Nat} {k n : Nat} {Q : State → Prop} {b L i : Nat} {xs : Nat → Int32} {X : XT} {M : MT} {o : Int64} (hl : l.stackTraces = false) (E : Cx p s m args meth c D z RL cL_law 9 (some .boolean)) (C : LC s z b L xs) (hi : i + 6 ≤ L) (hk : k + 100 ≤ 601024) (hn : n + 10000 ≤ 7293034) (hr : RR X M) (h : ∀ X' M' o', RR X' M' → J p l e room_1 s m args below meth c D z (GG D z (X', (2, M', o'))) (k + 100) (n + 10000) Q 9 3238 (lsL b z i) []) : J p l e room_1 s m args below meth c D z (GG D z (X, (2, M, o))) k n Q 9 1548 (lsL b z i) [] := by
  rcases s_isPaid hr (xs (i + 1)) with ⟨r, a1, a2⟩ | ⟨e, k', r, hm, a1, a2⟩
  · exact lb_isPaid E C hi hk hn (by decide) (by decide) (by decide) (by decide) (w_isPaid (f1 := 0) a1) (c_X12_isPaid (f1 := 1) a2) (by unfold f_X12_thrown; rw [mi00]) (fun _ => rfl) (h X _ _ (hr.thr 0))
  · simp only [List.mem_cons, List.not_mem_nil, or_false, Prod.mk.injEq] at hm
    obtain ⟨rfl, rfl⟩ := hm
    exact lb_isPaid E C hi hk hn (by decide) (by decide) (by decide) (by decide) (wx_isPaid_2 (f1 := 0) hl a1) (c_X12_isPaid (f1 := 1) a2) (by unfold f_X12_thrown; rw [mi00]) (fun q => absurd q (by decide)) (h X _ _ (hr.thr 1))
set_option maxRecDepth 20000 in
theorem lb_isLowered {p : Program} {l : Launch} {e : Env} {s : State} {m : MethodId} {args : Array Value} {below : List Frame} {meth : Method} {c : Code} {D : DD} {z : Nat} {k n : Nat} {Q : State → Prop} {b L i : Nat} {xs : Nat → Int32} {X : XT} {M : MT} {o : Int64} (E : Cx p s m args meth c D z RL cL_law 9 (some .boolean)) (C : LC s z b L xs) (hi : i + 6 ≤ L) (hk : k + 100 ≤ 601024) (hn : n + 10000 ≤ 7293034) {d q1 q2 : Nat} {kk r : Int32} {o' : Int64} {X' : XT} {M' : MT} (hrw : d + 1 ≤ 2048) (hrl : d ≤ 1000) (hrc : q1 ≤ 64) (hrs : q2 ≤ 8000) (hW : CW l yL_isLowered cL_isLowered 4 (some .int) [(0, 16, 19, 28)] (rmk d q1 q2) D z [.ref (z + aX 0 0 0), .int (xs (i + 1)), .ref (z + 537)] (GG D z (X, (2, M, o))) (some (.int kk)) (GG D z (X', (2, M, o')))) (hM : CC l yX12_isLowered cX12_isLowered 2 (some .boolean) (rmk 3 0 0) D z [.ref (z + aM 0), .int (xs (i + 1))] (GG D z (X', (2, M, o'))) (some (.int r)) (GG D z (X', (2, M', o')))) (hT : f_X12_thrown M' = some kk) (hres : kk = 0 → o' = if r = 0 then 0 else 1) (h : J p l e room_1 s m args below meth c D z (GG D z (X', (2, M', o'))) (k + 100) (n + 10000) Q 9 3238 (lsL b z i) []) : J p l e room_1 s m args below meth c D z (GG D z (X, (2, M, o))) k n Q 9 1611 (lsL b z i) [] := by
  refine j_aload_n E 3 rfl dL_law_1611 ?_
  refine j_aload_n E 4 rfl dL_law_1612 ?_
  refine j_iload E 0 rfl dL_law_1613 ?_
  refine j_iconst E (nI 1) rfl dL_law_1615 ?_
  refine j_iadd E dL_law_1616 ?_
  refine j_name (nI_add i 1).symm ?_
  refine j_sld E C (by omega) dL_law_1617 ?_
  refine j_aload_n E 1 rfl dL_law_1618 ?_
  refine j_invW (n0 := 3) [] [.int kk] E hW ml_L_266 st_L_isLowered in_L cd_L_isLowered rfl (by decide +kernel) rfl ⟨hrw, by show 8 + (_ + 11) + 64 * d ≤ 84000; omega⟩ rfl rfl (le_ rfl) ⟨by show k + q1 ≤ 601024; omega, by show n + q2 ≤ 7293034; omega⟩ dL_law_1619 ?_
  refine j_istore (ls' := (5, .int kk) :: lsL b z i) E (lt_ rfl) rfl dL_law_1622 ?_
  refine j_aload_n E 3 rfl dL_law_1624 ?_
  refine j_aload_n E 5 rfl dL_law_1625 ?_
  refine j_iload E 1 rfl dL_law_1626 ?_
  refine j_iconst E (nI 1) rfl dL_law_1628 ?_
  refine j_iadd E dL_law_1629 ?_
  refine j_name (nI_add i 1).symm ?_
  refine j_sld E C (by omega) dL_law_1630 ?_
  refine j_invV [] [.int r] E hM ml_L_268 mv_X12_isLowered rfl ⟨le_ rfl, le_ rfl⟩ (rcM (f1 := 1) cf_X12) rfl rfl (le_ rfl) ⟨by show k + q1 + 0 ≤ 601024; omega, by show n + q2 + 0 ≤ 7293034; omega⟩ dL_law_1631 ?_
  refine j_istore (ls' := (6, .int r) :: (5, .int kk) :: lsL b z i) E (lt_ rfl) rfl dL_law_1634 ?_
  refine j_aload_n E 4 rfl dL_law_1636 ?_
  refine j_invV [] [.int kk] E (c_X12_thrown (f1 := 1) hT) ml_L_159 mv_X12_thrown rfl ⟨le_ rfl, le_ rfl⟩ (rcM (f1 := 1) cf_X12) rfl rfl (le_ rfl) ⟨by show k + q1 + 0 + 0 ≤ 601024; omega, by show n + q2 + 0 + 0 ≤ 7293034; omega⟩ dL_law_1637 ?_
  refine j_iload E 1 rfl dL_law_1640 ?_
  refine j_icmp_eq E 1647 (by decide) dL_law_1642 (fun _ => ?_) (fun q => absurd rfl q)
  have fin : J p l e room_1 s m args below meth c D z (GG D z (X', (2, M', o'))) (k + 100) (n + 10000) Q 9 3238 ((6, .int r) :: (5, .int kk) :: lsL b z i) [] := j_sub (ls' := lsL b z i) [2, 3, 4, 5, 6] rfl h
  refine j_iload E 1 rfl dL_law_1647 ?_
  refine j_if_ne E 1671 (by decide) dL_law_1649 (fun _ => ?_) (fun q0 => ?_)
  · refine j_goto E 3238 (by decide) dL_law_1671 ?_
    exact j_widen (by show k + q1 + 0 + 0 ≤ k + 100; omega) (by show n + q2 + 0 + 0 ≤ n + 10000; omega) fin
  · refine j_aload_n E 3 rfl dL_law_1652 ?_
    refine j_iconst E 0 ic_0 dL_law_1653 ?_
    refine j_laldO (f1 := 0) E dL_law_1654 ?_
    refine j_iload E 0 rfl dL_law_1655 ?_
    refine j_if_eq E 1664 (by decide) dL_law_1657 (fun qr => ?_) (fun qr => ?_)
    · refine j_lconst E 0 rfl dL_law_1664 ?_
      refine j_lcmp E dL_law_1665 ?_
      refine j_if_eq E 1671 (by decide) dL_law_1666 (fun _ => ?_) (fun q => absurd ((cmp_eq _ _).mpr ((hres q0).trans (if_pos qr))) q)
      refine j_goto E 3238 (by decide) dL_law_1671 ?_
      exact j_widen (by show k + q1 + 0 + 0 ≤ k + 100; omega) (by show n + q2 + 0 + 0 ≤ n + 10000; omega) fin
    · refine j_lconst E 1 rfl dL_law_1660 ?_
      refine j_goto E 1665 (by decide) dL_law_1661 ?_
      refine j_lcmp E dL_law_1665 ?_
      refine j_if_eq E 1671 (by decide) dL_law_1666 (fun _ => ?_) (fun q => absurd ((cmp_eq _ _).mpr ((hres q0).trans (if_neg qr))) q)
      refine j_goto E 3238 (by decide) dL_law_1671 ?_
      exact j_widen (by show k + q1 + 0 + 0 ≤ k + 100; omega) (by show n + q2 + 0 + 0 ≤ n + 10000; omega) fin
set_option maxRecDepth 20000 in
theorem la_isLowered {p : Program} {l : Launch} {e : Env} {s : State} {m : MethodId} {args : Array Value} {below : List Frame} {meth : Method} {c : Code} {D : DD} {z : Nat} {k n : Nat} {Q : State → Prop} {b L i : Nat} {xs : Nat → Int32} {X : XT} {M : MT} {o : Int64} (hl : l.stackTraces = false) (E : Cx p s m args meth c D z RL cL_law 9 (some .boolean)) (C : LC s z b L xs) (hi : i + 6 ≤ L) (hk : k + 100 ≤ 601024) (hn : n + 10000 ≤ 7293034) (hr : RR X M) (h : ∀ X' M' o', RR X' M' → J p l e room_1 s m args below meth c D z (GG D z (X', (2, M', o'))) (k + 100) (n + 10000) Q 9 3238 (lsL b z i) []) : J p l e room_1 s m args below meth c D z (GG D z (X, (2, M, o))) k n Q 9 1611 (lsL b z i) [] := by
  rcases s_isLowered hr (xs (i + 1)) with ⟨r, a1, a2⟩ | ⟨e, k', r, hm, a1, a2⟩
  · exact lb_isLowered E C hi hk hn (by decide) (by decide) (by decide) (by decide) (w_isLowered (f1 := 0) a1) (c_X12_isLowered (f1 := 1) a2) (by unfold f_X12_thrown; rw [mi00]) (fun _ => rfl) (h X _ _ (hr.thr 0))
  · simp only [List.mem_cons, List.not_mem_nil, or_false, Prod.mk.injEq] at hm
    obtain ⟨rfl, rfl⟩ := hm
    exact lb_isLowered E C hi hk hn (by decide) (by decide) (by decide) (by decide) (wx_isLowered_2 (f1 := 0) hl a1) (c_X12_isLowered (f1 := 1) a2) (by unfold f_X12_thrown; rw [mi00]) (fun q => absurd q (by decide)) (h X _ _ (hr.thr 1))
