/-! THE LAW: its cases, 3 -/
set_option maxRecDepth 20000 in
theorem lb_bottleDifference {p : Program} {l : Launch} {e : Env} {s : State} {m : MethodId} {args : Array Value} {below : List Frame} {meth : Method} {c : Code} {D : DD} {z : Nat} {k n : Nat} {Q : State → Prop} {b L i : Nat} {xs : Nat → Int32} {X : XT} {M : MT} {o : Int64} (E : Cx p s m args meth c D z RL cL_law 9 (some .boolean)) (C : LC s z b L xs) (hi : i + 6 ≤ L) (hk : k + 100 ≤ 601024) (hn : n + 10000 ≤ 7293034) {r : Int32} {M' : MT} (hx : f_X11_bottleDifference X = some r) (hm : f_X12_bottleDifference M = some (r, M')) (h : J p l e room_1 s m args below meth c D z (GG D z (X, (2, M', o))) (k + 100) (n + 10000) Q 9 3238 (lsL b z i) []) : J p l e room_1 s m args below meth c D z (GG D z (X, (2, M, o))) k n Q 9 2415 (lsL b z i) [] := by
  refine j_aload_n E 3 rfl dL_law_2415 ?_
  refine j_invV [] [.int r] E (c_X11_bottleDifference hx) ml_L_323 mv_X11_bottleDifference rfl ⟨le_ rfl, le_ rfl⟩ (rcX ok0 cf_X11 ent0) rfl rfl (le_ rfl) ⟨by show k + 0 ≤ 601024; omega, by show n + 0 ≤ 7293034; omega⟩ dL_law_2416 ?_
  refine j_aload_n E 2 rfl dL_law_2419 ?_
  refine j_invV [.int r] [.int r, .int r] E (c_X12_bottleDifference (f1 := 1) hm) ml_L_326 mv_X12_bottleDifference rfl ⟨le_ rfl, le_ rfl⟩ (rcM (f1 := 1) cf_X12) rfl rfl (le_ rfl) ⟨by show k + 0 + 0 ≤ 601024; omega, by show n + 0 + 0 ≤ 7293034; omega⟩ dL_law_2420 ?_
  refine j_icmp_eq E 3238 (by decide) dL_law_2423 (fun _ => ?_) (fun q => absurd rfl q)
  exact j_widen (by show k + 0 + 0 ≤ k + 100; omega) (by show n + 0 + 0 ≤ n + 10000; omega) h
set_option maxRecDepth 20000 in
theorem la_bottleDifference {p : Program} {l : Launch} {e : Env} {s : State} {m : MethodId} {args : Array Value} {below : List Frame} {meth : Method} {c : Code} {D : DD} {z : Nat} {k n : Nat} {Q : State → Prop} {b L i : Nat} {xs : Nat → Int32} {X : XT} {M : MT} {o : Int64} (hl : l.stackTraces = false) (E : Cx p s m args meth c D z RL cL_law 9 (some .boolean)) (C : LC s z b L xs) (hi : i + 6 ≤ L) (hk : k + 100 ≤ 601024) (hn : n + 10000 ≤ 7293034) (hr : RR X M) (h : ∀ X' M' o', RR X' M' → J p l e room_1 s m args below meth c D z (GG D z (X', (2, M', o'))) (k + 100) (n + 10000) Q 9 3238 (lsL b z i) []) : J p l e room_1 s m args below meth c D z (GG D z (X, (2, M, o))) k n Q 9 2415 (lsL b z i) [] := by
  obtain ⟨r, a1, a2⟩ := s_bottleDifference hr
  exact lb_bottleDifference E C hi hk hn a1 a2 (h X _ o (hr.thr 0))
set_option maxRecDepth 20000 in
theorem lb_cashDifference {p : Program} {l : Launch} {e : Env} {s : State} {m : MethodId} {args : Array Value} {below : List Frame} {meth : Method} {c : Code} {D : DD} {z : Nat} {k n : Nat} {Q : State → Prop} {b L i : Nat} {xs : Nat → Int32} {X : XT} {M : MT} {o : Int64} (E : Cx p s m args meth c D z RL cL_law 9 (some .boolean)) (C : LC s z b L xs) (hi : i + 6 ≤ L) (hk : k + 100 ≤ 601024) (hn : n + 10000 ≤ 7293034) {r : Int32} {M' : MT} (hx : f_X11_cashDifference X = some r) (hm : f_X12_cashDifference M = some (r, M')) (h : J p l e room_1 s m args below meth c D z (GG D z (X, (2, M', o))) (k + 100) (n + 10000) Q 9 3238 (lsL b z i) []) : J p l e room_1 s m args below meth c D z (GG D z (X, (2, M, o))) k n Q 9 2428 (lsL b z i) [] := by
  refine j_aload_n E 3 rfl dL_law_2428 ?_
  refine j_invV [] [.int r] E (c_X11_cashDifference hx) ml_L_327 mv_X11_cashDifference rfl ⟨le_ rfl, le_ rfl⟩ (rcX ok0 cf_X11 ent0) rfl rfl (le_ rfl) ⟨by show k + 0 ≤ 601024; omega, by show n + 0 ≤ 7293034; omega⟩ dL_law_2429 ?_
  refine j_aload_n E 2 rfl dL_law_2432 ?_
  refine j_invV [.int r] [.int r, .int r] E (c_X12_cashDifference (f1 := 1) hm) ml_L_330 mv_X12_cashDifference rfl ⟨le_ rfl, le_ rfl⟩ (rcM (f1 := 1) cf_X12) rfl rfl (le_ rfl) ⟨by show k + 0 + 0 ≤ 601024; omega, by show n + 0 + 0 ≤ 7293034; omega⟩ dL_law_2433 ?_
  refine j_icmp_eq E 3238 (by decide) dL_law_2436 (fun _ => ?_) (fun q => absurd rfl q)
  exact j_widen (by show k + 0 + 0 ≤ k + 100; omega) (by show n + 0 + 0 ≤ n + 10000; omega) h
set_option maxRecDepth 20000 in
theorem la_cashDifference {p : Program} {l : Launch} {e : Env} {s : State} {m : MethodId} {args : Array Value} {below : List Frame} {meth : Method} {c : Code} {D : DD} {z : Nat} {k n : Nat} {Q : State → Prop} {b L i : Nat} {xs : Nat → Int32} {X : XT} {M : MT} {o : Int64} (hl : l.stackTraces = false) (E : Cx p s m args meth c D z RL cL_law 9 (some .boolean)) (C : LC s z b L xs) (hi : i + 6 ≤ L) (hk : k + 100 ≤ 601024) (hn : n + 10000 ≤ 7293034) (hr : RR X M) (h : ∀ X' M' o', RR X' M' → J p l e room_1 s m args below meth c D z (GG D z (X', (2, M', o'))) (k + 100) (n + 10000) Q 9 3238 (lsL b z i) []) : J p l e room_1 s m args below meth c D z (GG D z (X, (2, M, o))) k n Q 9 2428 (lsL b z i) [] := by
  obtain ⟨r, a1, a2⟩ := s_cashDifference hr
  exact lb_cashDifference E C hi hk hn a1 a2 (h X _ o (hr.thr 0))
set_option maxRecDepth 20000 in
theorem la_fullness {p : Program} {l : Launch} {e : Env} {s : State} {m : MethodId} {args : Array Value} {below : List Frame} {meth : Method} {c : Code} {D : DD} {z : Nat} {k n : Nat} {Q : State → Prop} {b L i : Nat} {xs : Nat → Int32} {X : XT} {M : MT} {o : Int64} (hl : l.stackTraces = false) (E : Cx p s m args meth c D z RL cL_law 9 (some .boolean)) (C : LC s z b L xs) (hi : i + 6 ≤ L) (hk : k + 100 ≤ 601024) (hn : n + 10000 ≤ 7293034) (hr : RR X M) (h : ∀ X' M' o', RR X' M' → J p l e room_1 s m args below meth c D z (GG D z (X', (2, M', o'))) (k + 100) (n + 10000) Q 9 3238 (lsL b z i) []) : J p l e room_1 s m args below meth c D z (GG D z (X, (2, M, o))) k n Q 9 2441 (lsL b z i) [] := by
  obtain ⟨r, a1, a2⟩ := s_fullness hr
  refine j_aload_n E 3 rfl dL_law_2441 ?_
  refine j_invV [] [.float r] E (c_X11_fullness a1) ml_L_331 mv_X11_fullness rfl ⟨le_ rfl, le_ rfl⟩ (rcX ok0 cf_X11 ent0) rfl rfl (le_ rfl) ⟨by show k + 0 ≤ 601024; omega, by show n + 0 ≤ 7293034; omega⟩ dL_law_2442 ?_
  have hnn : vf_n64 (FP.f2d r) := full_nn a1
  refine j_f2d E hnn dL_law_2445 ?_
  refine j_dstore (ls' := (5, .double (FP.f2d r)) :: lsL b z i) E (lt_ rfl) rfl dL_law_2446 ?_
  refine j_aload_n E 3 rfl dL_law_2448 ?_
  refine j_invV [] [.float r] E (c_X12_fullness (f1 := 1) a2) ml_L_335 mv_X12_fullness rfl ⟨le_ rfl, le_ rfl⟩ (rcM (f1 := 1) cf_X12) rfl rfl (le_ rfl) ⟨by show k + 0 + 0 ≤ 601024; omega, by show n + 0 + 0 ≤ 7293034; omega⟩ dL_law_2449 ?_
  refine j_f2d E hnn dL_law_2452 ?_
  refine j_dstore (ls' := (7, .double (FP.f2d r)) :: (5, .double (FP.f2d r)) :: lsL b z i) E (lt_ rfl) rfl dL_law_2453 ?_
  have fin : J p l e room_1 s m args below meth c D z (GG D z (X, (2, mi M 0 0 0, o))) (k + 100) (n + 10000) Q 9 3238 ((7, .double (FP.f2d r)) :: (5, .double (FP.f2d r)) :: lsL b z i) [] := j_sub (ls' := lsL b z i) [2, 3, 4, 5, 6] rfl (h X _ o (hr.thr 0))
  refine j_dload E 1 rfl dL_law_2455 ?_
  refine j_dload E 0 rfl dL_law_2457 ?_
  refine j_dcmp E dL_law_2459 ?_
  refine j_if_eq E 2481 (by decide) dL_law_2460 (fun _ => ?_) (fun q => ?_)
  · refine j_goto E 3238 (by decide) dL_law_2481 ?_
    exact j_widen (by show k + 0 + 0 ≤ k + 100; omega) (by show n + 0 + 0 ≤ n + 10000; omega) fin
  · refine j_dload E 1 rfl dL_law_2463 ?_
    refine j_dload E 1 rfl dL_law_2465 ?_
    refine j_dcmp E dL_law_2467 ?_
    refine j_if_eq E 2479 (by decide) dL_law_2468 (fun q2 => absurd q2 q) (fun _ => ?_)
    refine j_dload E 0 rfl dL_law_2471 ?_
    refine j_dload E 0 rfl dL_law_2473 ?_
    refine j_dcmp E dL_law_2475 ?_
    refine j_if_ne E 2481 (by decide) dL_law_2476 (fun _ => ?_) (fun q2 => absurd q2 q)
    refine j_goto E 3238 (by decide) dL_law_2481 ?_
    exact j_widen (by show k + 0 + 0 ≤ k + 100; omega) (by show n + 0 + 0 ≤ n + 10000; omega) fin
set_option maxRecDepth 20000 in
theorem la_averageSugar {p : Program} {l : Launch} {e : Env} {s : State} {m : MethodId} {args : Array Value} {below : List Frame} {meth : Method} {c : Code} {D : DD} {z : Nat} {k n : Nat} {Q : State → Prop} {b L i : Nat} {xs : Nat → Int32} {X : XT} {M : MT} {o : Int64} (hl : l.stackTraces = false) (E : Cx p s m args meth c D z RL cL_law 9 (some .boolean)) (C : LC s z b L xs) (hi : i + 6 ≤ L) (hk : k + 100 ≤ 601024) (hn : n + 10000 ≤ 7293034) (hr : RR X M) (h : ∀ X' M' o', RR X' M' → J p l e room_1 s m args below meth c D z (GG D z (X', (2, M', o'))) (k + 100) (n + 10000) Q 9 3238 (lsL b z i) []) : J p l e room_1 s m args below meth c D z (GG D z (X, (2, M, o))) k n Q 9 2484 (lsL b z i) [] := by
  obtain ⟨r, a1, a2⟩ := s_averageSugar hr
  refine j_aload_n E 3 rfl dL_law_2484 ?_
  refine j_invV [] [.double r] E (c_X11_averageSugar a1) ml_L_336 mv_X11_averageSugar rfl ⟨le_ rfl, le_ rfl⟩ (rcX ok0 cf_X11 ent0) rfl rfl (le_ rfl) ⟨by show k + 0 ≤ 601024; omega, by show n + 0 ≤ 7293034; omega⟩ dL_law_2485 ?_
  refine j_dstore (ls' := (5, .double r) :: lsL b z i) E (lt_ rfl) rfl dL_law_2488 ?_
  refine j_aload_n E 3 rfl dL_law_2490 ?_
  refine j_invV [] [.double r] E (c_X12_averageSugar (f1 := 1) a2) ml_L_340 mv_X12_averageSugar rfl ⟨le_ rfl, le_ rfl⟩ (rcM (f1 := 1) cf_X12) rfl rfl (le_ rfl) ⟨by show k + 0 + 0 ≤ 601024; omega, by show n + 0 + 0 ≤ 7293034; omega⟩ dL_law_2491 ?_
  refine j_dstore (ls' := (7, .double r) :: (5, .double r) :: lsL b z i) E (lt_ rfl) rfl dL_law_2494 ?_
  have fin : J p l e room_1 s m args below meth c D z (GG D z (X, (2, mi M 0 0 0, o))) (k + 100) (n + 10000) Q 9 3238 ((7, .double r) :: (5, .double r) :: lsL b z i) [] := j_sub (ls' := lsL b z i) [2, 3, 4, 5, 6] rfl (h X _ o (hr.thr 0))
  refine j_dload E 1 rfl dL_law_2496 ?_
  refine j_dload E 0 rfl dL_law_2498 ?_
  refine j_dcmp E dL_law_2500 ?_
  refine j_if_eq E 2522 (by decide) dL_law_2501 (fun _ => ?_) (fun q => ?_)
  · refine j_goto E 3238 (by decide) dL_law_2522 ?_
    exact j_widen (by show k + 0 + 0 ≤ k + 100; omega) (by show n + 0 + 0 ≤ n + 10000; omega) fin
  · refine j_dload E 1 rfl dL_law_2504 ?_
    refine j_dload E 1 rfl dL_law_2506 ?_
    refine j_dcmp E dL_law_2508 ?_
    refine j_if_eq E 2520 (by decide) dL_law_2509 (fun q2 => absurd q2 q) (fun _ => ?_)
    refine j_dload E 0 rfl dL_law_2512 ?_
    refine j_dload E 0 rfl dL_law_2514 ?_
    refine j_dcmp E dL_law_2516 ?_
    refine j_if_ne E 2522 (by decide) dL_law_2517 (fun _ => ?_) (fun q2 => absurd q2 q)
    refine j_goto E 3238 (by decide) dL_law_2522 ?_
    exact j_widen (by show k + 0 + 0 ≤ k + 100; omega) (by show n + 0 + 0 ≤ n + 10000; omega) fin
set_option maxRecDepth 20000 in
theorem lb_deliver {p : Program} {l : Launch} {e : Env} {s : State} {m : MethodId} {args : Array Value} {below : List Frame} {meth : Method} {c : Code} {D : DD} {z : Nat} {k n : Nat} {Q : State → Prop} {b L i : Nat} {xs : Nat → Int32} {X : XT} {M : MT} {o : Int64} (E : Cx p s m args meth c D z RL cL_law 9 (some .boolean)) (C : LC s z b L xs) (hi : i + 6 ≤ L) (hk : k + 100 ≤ 601024) (hn : n + 10000 ≤ 7293034) {d q1 q2 : Nat} {kk r : Int32} {o' : Int64} {X' : XT} {M' : MT} (hrw : d + 1 ≤ 2048) (hrl : d ≤ 1000) (hrc : q1 ≤ 64) (hrs : q2 ≤ 8000) (hW : CW l yL_deliver cL_deliver 6 (some .int) [(0, 12, 15, 28), (0, 12, 19, 19), (0, 12, 23, 13)] (rmk d q1 q2) D z [.ref (z + aX 0 0 0), .int (xs (i + 1)), .int (xs (i + 2)), .int (xs (i + 3)), .ref (z + 537)] (GG D z (X, (2, M, o))) (some (.int kk)) (GG D z (X', (2, M, o')))) (hM : CC l yX12_deliver cX12_deliver 6 (some .int) (rmk 6 0 0) D z [.ref (z + aM 0), .int (xs (i + 1)), .int (xs (i + 2)), .int (xs (i + 3))] (GG D z (X', (2, M, o'))) (some (.int r)) (GG D z (X', (2, M', o')))) (hT : f_X12_thrown M' = some kk) (hres : kk = 0 → o' = r.toInt64) (h : J p l e room_1 s m args below meth c D z (GG D z (X', (2, M', o'))) (k + 100) (n + 10000) Q 9 3238 (lsL b z i) []) : J p l e room_1 s m args below meth c D z (GG D z (X, (2, M, o))) k n Q 9 2525 (lsL b z i) [] := by
  refine j_aload_n E 3 rfl dL_law_2525 ?_
  refine j_aload_n E 4 rfl dL_law_2526 ?_
  refine j_iload E 0 rfl dL_law_2527 ?_
  refine j_iconst E (nI 1) rfl dL_law_2529 ?_
  refine j_iadd E dL_law_2530 ?_
  refine j_name (nI_add i 1).symm ?_
  refine j_sld E C (by omega) dL_law_2531 ?_
  refine j_aload_n E 4 rfl dL_law_2532 ?_
  refine j_iload E 0 rfl dL_law_2533 ?_
  refine j_iconst E (nI 2) rfl dL_law_2535 ?_
  refine j_iadd E dL_law_2536 ?_
  refine j_name (nI_add i 2).symm ?_
  refine j_sld E C (by omega) dL_law_2537 ?_
  refine j_aload_n E 4 rfl dL_law_2538 ?_
  refine j_iload E 0 rfl dL_law_2539 ?_
  refine j_iconst E (nI 3) rfl dL_law_2541 ?_
  refine j_iadd E dL_law_2542 ?_
  refine j_name (nI_add i 3).symm ?_
  refine j_sld E C (by omega) dL_law_2543 ?_
  refine j_aload_n E 1 rfl dL_law_2544 ?_
  refine j_invW (n0 := 5) [] [.int kk] E hW ml_L_341 st_L_deliver in_L cd_L_deliver rfl (by decide +kernel) rfl ⟨hrw, by show 8 + (_ + 11) + 64 * d ≤ 84000; omega⟩ rfl rfl (le_ rfl) ⟨by show k + q1 ≤ 601024; omega, by show n + q2 ≤ 7293034; omega⟩ dL_law_2545 ?_
  refine j_istore (ls' := (5, .int kk) :: lsL b z i) E (lt_ rfl) rfl dL_law_2548 ?_
  refine j_aload_n E 3 rfl dL_law_2550 ?_
  refine j_aload_n E 5 rfl dL_law_2551 ?_
  refine j_iload E 1 rfl dL_law_2552 ?_
  refine j_iconst E (nI 1) rfl dL_law_2554 ?_
  refine j_iadd E dL_law_2555 ?_
  refine j_name (nI_add i 1).symm ?_
  refine j_sld E C (by omega) dL_law_2556 ?_
  refine j_aload_n E 5 rfl dL_law_2557 ?_
  refine j_iload E 1 rfl dL_law_2558 ?_
  refine j_iconst E (nI 2) rfl dL_law_2560 ?_
  refine j_iadd E dL_law_2561 ?_
  refine j_name (nI_add i 2).symm ?_
  refine j_sld E C (by omega) dL_law_2562 ?_
  refine j_aload_n E 5 rfl dL_law_2563 ?_
  refine j_iload E 1 rfl dL_law_2564 ?_
  refine j_iconst E (nI 3) rfl dL_law_2566 ?_
  refine j_iadd E dL_law_2567 ?_
  refine j_name (nI_add i 3).symm ?_
  refine j_sld E C (by omega) dL_law_2568 ?_
  refine j_invV [] [.int r] E hM ml_L_343 mv_X12_deliver rfl ⟨le_ rfl, le_ rfl⟩ (rcM (f1 := 1) cf_X12) rfl rfl (le_ rfl) ⟨by show k + q1 + 0 ≤ 601024; omega, by show n + q2 + 0 ≤ 7293034; omega⟩ dL_law_2569 ?_
  refine j_istore (ls' := (6, .int r) :: (5, .int kk) :: lsL b z i) E (lt_ rfl) rfl dL_law_2572 ?_
  refine j_aload_n E 4 rfl dL_law_2574 ?_
  refine j_invV [] [.int kk] E (c_X12_thrown (f1 := 1) hT) ml_L_159 mv_X12_thrown rfl ⟨le_ rfl, le_ rfl⟩ (rcM (f1 := 1) cf_X12) rfl rfl (le_ rfl) ⟨by show k + q1 + 0 + 0 ≤ 601024; omega, by show n + q2 + 0 + 0 ≤ 7293034; omega⟩ dL_law_2575 ?_
  refine j_iload E 1 rfl dL_law_2578 ?_
  refine j_icmp_eq E 2585 (by decide) dL_law_2580 (fun _ => ?_) (fun q => absurd rfl q)
  have fin : J p l e room_1 s m args below meth c D z (GG D z (X', (2, M', o'))) (k + 100) (n + 10000) Q 9 3238 ((6, .int r) :: (5, .int kk) :: lsL b z i) [] := j_sub (ls' := lsL b z i) [2, 3, 4, 5, 6] rfl h
  refine j_iload E 1 rfl dL_law_2585 ?_
  refine j_if_ne E 2602 (by decide) dL_law_2587 (fun _ => ?_) (fun q0 => ?_)
  · refine j_goto E 3238 (by decide) dL_law_2602 ?_
    exact j_widen (by show k + q1 + 0 + 0 ≤ k + 100; omega) (by show n + q2 + 0 + 0 ≤ n + 10000; omega) fin
  · refine j_aload_n E 3 rfl dL_law_2590 ?_
    refine j_iconst E 0 ic_0 dL_law_2591 ?_
    refine j_laldO (f1 := 0) E dL_law_2592 ?_
    refine j_iload E 0 rfl dL_law_2593 ?_
    refine j_i2l E dL_law_2595 ?_
    refine j_lcmp E dL_law_2596 ?_
    refine j_if_eq E 2602 (by decide) dL_law_2597 (fun _ => ?_) (fun q => absurd ((cmp_eq _ _).mpr (hres q0)) q)
    refine j_goto E 3238 (by decide) dL_law_2602 ?_
    exact j_widen (by show k + q1 + 0 + 0 ≤ k + 100; omega) (by show n + q2 + 0 + 0 ≤ n + 10000; omega) fin
set_option maxRecDepth 20000 in
theorem la_deliver {p : Program} {l : Launch} {e : Env} {s : State} {m : MethodId} {args : Array Value} {below : List Frame} {meth : Method} {c : Code} {D : DD} {z : Nat} {k n : Nat} {Q : State → Prop} {b L i : Nat} {xs : Nat → Int32} {X : XT} {M : MT} {o : Int64} (hl : l.stackTraces = false) (E : Cx p s m args meth c D z RL cL_law 9 (some .boolean)) (C : LC s z b L xs) (hi : i + 6 ≤ L) (hk : k + 100 ≤ 601024) (hn : n + 10000 ≤ 7293034) (hr : RR X M) (h : ∀ X' M' o', RR X' M' → J p l e room_1 s m args below meth c D z (GG D z (X', (2, M', o'))) (k + 100) (n + 10000) Q 9 3238 (lsL b z i) []) : J p l e room_1 s m args below meth c D z (GG D z (X, (2, M, o))) k n Q 9 2525 (lsL b z i) [] := by
  rcases u_deliver hr (xs (i + 1)) (xs (i + 2)) (xs (i + 3)) with ⟨r, X', M', a1, a2, a3, a4⟩ | ⟨e, k', r, hm, a1, a2⟩
  · exact lb_deliver E C hi hk hn (by decide) (by decide) (by decide) (by decide) (w_deliver (f1 := 0) a1) (c_X12_deliver (f1 := 1) a2) (by unfold f_X12_thrown; rw [a4]) (fun _ => rfl) (h X' M' _ a3)
  · simp only [List.mem_cons, List.not_mem_nil, or_false, Prod.mk.injEq] at hm
    rcases hm with ⟨rfl, rfl⟩ | ⟨rfl, rfl⟩ | ⟨rfl, rfl⟩
    · exact lb_deliver E C hi hk hn (by decide) (by decide) (by decide) (by decide) (wx_deliver_2 (f1 := 0) hl a1) (c_X12_deliver (f1 := 1) a2) (by unfold f_X12_thrown; rw [mi00]) (fun q => absurd q (by decide)) (h X _ _ (hr.thr 1))
    · exact lb_deliver E C hi hk hn (by decide) (by decide) (by decide) (by decide) (wx_deliver_1 (f1 := 0) hl a1) (c_X12_deliver (f1 := 1) a2) (by unfold f_X12_thrown; rw [mi00]) (fun q => absurd q (by decide)) (h X _ _ (hr.thr 2))
    · exact lb_deliver E C hi hk hn (by decide) (by decide) (by decide) (by decide) (wx_deliver_0 (f1 := 0) hl a1) (c_X12_deliver (f1 := 1) a2) (by unfold f_X12_thrown; rw [mi00]) (fun q => absurd q (by decide)) (h X _ _ (hr.thr 3))
set_option maxRecDepth 20000 in
theorem lb_setPrice {p : Program} {l : Launch} {e : Env} {s : State} {m : MethodId} {args : Array Value} {below : List Frame} {meth : Method} {c : Code} {D : DD} {z : Nat} {k n : Nat} {Q : State → Prop} {b L i : Nat} {xs : Nat → Int32} {X : XT} {M : MT} {o : Int64} (E : Cx p s m args meth c D z RL cL_law 9 (some .boolean)) (C : LC s z b L xs) (hi : i + 6 ≤ L) (hk : k + 100 ≤ 601024) (hn : n + 10000 ≤ 7293034) {d q1 q2 : Nat} {kk r : Int32} {o' : Int64} {X' : XT} {M' : MT} (hrw : d + 1 ≤ 2048) (hrl : d ≤ 1000) (hrc : q1 ≤ 64) (hrs : q2 ≤ 8000) (hW : CW l yL_setPrice cL_setPrice 6 (some .int) [(0, 12, 15, 28), (0, 12, 19, 19)] (rmk d q1 q2) D z [.ref (z + aX 0 0 0), .int (xs (i + 1)), .int (xs (i + 2)), .int (xs (i + 3)), .ref (z + 537)] (GG D z (X, (2, M, o))) (some (.int kk)) (GG D z (X', (2, M, o')))) (hM : CC l yX12_setPrice cX12_setPrice 5 (some .int) (rmk 3 0 0) D z [.ref (z + aM 0), .int (xs (i + 1)), .int (xs (i + 2)), .int (xs (i + 3))] (GG D z (X', (2, M, o'))) (some (.int r)) (GG D z (X', (2, M', o')))) (hT : f_X12_thrown M' = some kk) (hres : kk = 0 → o' = r.toInt64) (h : J p l e room_1 s m args below meth c D z (GG D z (X', (2, M', o'))) (k + 100) (n + 10000) Q 9 3238 (lsL b z i) []) : J p l e room_1 s m args below meth c D z (GG D z (X, (2, M, o))) k n Q 9 2605 (lsL b z i) [] := by
  refine j_aload_n E 3 rfl dL_law_2605 ?_
  refine j_aload_n E 4 rfl dL_law_2606 ?_
  refine j_iload E 0 rfl dL_law_2607 ?_
  refine j_iconst E (nI 1) rfl dL_law_2609 ?_
  refine j_iadd E dL_law_2610 ?_
  refine j_name (nI_add i 1).symm ?_
  refine j_sld E C (by omega) dL_law_2611 ?_
  refine j_aload_n E 4 rfl dL_law_2612 ?_
  refine j_iload E 0 rfl dL_law_2613 ?_
  refine j_iconst E (nI 2) rfl dL_law_2615 ?_
  refine j_iadd E dL_law_2616 ?_
  refine j_name (nI_add i 2).symm ?_
  refine j_sld E C (by omega) dL_law_2617 ?_
  refine j_aload_n E 4 rfl dL_law_2618 ?_
  refine j_iload E 0 rfl dL_law_2619 ?_
  refine j_iconst E (nI 3) rfl dL_law_2621 ?_
  refine j_iadd E dL_law_2622 ?_
  refine j_name (nI_add i 3).symm ?_
  refine j_sld E C (by omega) dL_law_2623 ?_
  refine j_aload_n E 1 rfl dL_law_2624 ?_
  refine j_invW (n0 := 5) [] [.int kk] E hW ml_L_344 st_L_setPrice in_L cd_L_setPrice rfl (by decide +kernel) rfl ⟨hrw, by show 8 + (_ + 11) + 64 * d ≤ 84000; omega⟩ rfl rfl (le_ rfl) ⟨by show k + q1 ≤ 601024; omega, by show n + q2 ≤ 7293034; omega⟩ dL_law_2625 ?_
  refine j_istore (ls' := (5, .int kk) :: lsL b z i) E (lt_ rfl) rfl dL_law_2628 ?_
  refine j_aload_n E 3 rfl dL_law_2630 ?_
  refine j_aload_n E 5 rfl dL_law_2631 ?_
  refine j_iload E 1 rfl dL_law_2632 ?_
  refine j_iconst E (nI 1) rfl dL_law_2634 ?_
  refine j_iadd E dL_law_2635 ?_
  refine j_name (nI_add i 1).symm ?_
  refine j_sld E C (by omega) dL_law_2636 ?_
  refine j_aload_n E 5 rfl dL_law_2637 ?_
  refine j_iload E 1 rfl dL_law_2638 ?_
  refine j_iconst E (nI 2) rfl dL_law_2640 ?_
  refine j_iadd E dL_law_2641 ?_
  refine j_name (nI_add i 2).symm ?_
  refine j_sld E C (by omega) dL_law_2642 ?_
  refine j_aload_n E 5 rfl dL_law_2643 ?_
  refine j_iload E 1 rfl dL_law_2644 ?_
  refine j_iconst E (nI 3) rfl dL_law_2646 ?_
  refine j_iadd E dL_law_2647 ?_
  refine j_name (nI_add i 3).symm ?_
  refine j_sld E C (by omega) dL_law_2648 ?_
  refine j_invV [] [.int r] E hM ml_L_346 mv_X12_setPrice rfl ⟨le_ rfl, le_ rfl⟩ (rcM (f1 := 1) cf_X12) rfl rfl (le_ rfl) ⟨by show k + q1 + 0 ≤ 601024; omega, by show n + q2 + 0 ≤ 7293034; omega⟩ dL_law_2649 ?_
  refine j_istore (ls' := (6, .int r) :: (5, .int kk) :: lsL b z i) E (lt_ rfl) rfl dL_law_2652 ?_
  refine j_aload_n E 4 rfl dL_law_2654 ?_
  refine j_invV [] [.int kk] E (c_X12_thrown (f1 := 1) hT) ml_L_159 mv_X12_thrown rfl ⟨le_ rfl, le_ rfl⟩ (rcM (f1 := 1) cf_X12) rfl rfl (le_ rfl) ⟨by show k + q1 + 0 + 0 ≤ 601024; omega, by show n + q2 + 0 + 0 ≤ 7293034; omega⟩ dL_law_2655 ?_
  refine j_iload E 1 rfl dL_law_2658 ?_
  refine j_icmp_eq E 2665 (by decide) dL_law_2660 (fun _ => ?_) (fun q => absurd rfl q)
  have fin : J p l e room_1 s m args below meth c D z (GG D z (X', (2, M', o'))) (k + 100) (n + 10000) Q 9 3238 ((6, .int r) :: (5, .int kk) :: lsL b z i) [] := j_sub (ls' := lsL b z i) [2, 3, 4, 5, 6] rfl h
  refine j_iload E 1 rfl dL_law_2665 ?_
  refine j_if_ne E 2682 (by decide) dL_law_2667 (fun _ => ?_) (fun q0 => ?_)
  · refine j_goto E 3238 (by decide) dL_law_2682 ?_
    exact j_widen (by show k + q1 + 0 + 0 ≤ k + 100; omega) (by show n + q2 + 0 + 0 ≤ n + 10000; omega) fin
  · refine j_aload_n E 3 rfl dL_law_2670 ?_
    refine j_iconst E 0 ic_0 dL_law_2671 ?_
    refine j_laldO (f1 := 0) E dL_law_2672 ?_
    refine j_iload E 0 rfl dL_law_2673 ?_
    refine j_i2l E dL_law_2675 ?_
    refine j_lcmp E dL_law_2676 ?_
    refine j_if_eq E 2682 (by decide) dL_law_2677 (fun _ => ?_) (fun q => absurd ((cmp_eq _ _).mpr (hres q0)) q)
    refine j_goto E 3238 (by decide) dL_law_2682 ?_
    exact j_widen (by show k + q1 + 0 + 0 ≤ k + 100; omega) (by show n + q2 + 0 + 0 ≤ n + 10000; omega) fin
set_option maxRecDepth 20000 in
theorem la_setPrice {p : Program} {l : Launch} {e : Env} {s : State} {m : MethodId} {args : Array Value} {below : List Frame} {meth : Method} {c : Code} {D : DD} {z : Nat} {k n : Nat} {Q : State → Prop} {b L i : Nat} {xs : Nat → Int32} {X : XT} {M : MT} {o : Int64} (hl : l.stackTraces = false) (E : Cx p s m args meth c D z RL cL_law 9 (some .boolean)) (C : LC s z b L xs) (hi : i + 6 ≤ L) (hk : k + 100 ≤ 601024) (hn : n + 10000 ≤ 7293034) (hr : RR X M) (h : ∀ X' M' o', RR X' M' → J p l e room_1 s m args below meth c D z (GG D z (X', (2, M', o'))) (k + 100) (n + 10000) Q 9 3238 (lsL b z i) []) : J p l e room_1 s m args below meth c D z (GG D z (X, (2, M, o))) k n Q 9 2605 (lsL b z i) [] := by
  rcases u_setPrice hr (xs (i + 1)) (xs (i + 2)) (xs (i + 3)) with ⟨r, X', M', a1, a2, a3, a4⟩ | ⟨e, k', r, hm, a1, a2⟩
  · exact lb_setPrice E C hi hk hn (by decide) (by decide) (by decide) (by decide) (w_setPrice (f1 := 0) a1) (c_X12_setPrice (f1 := 1) a2) (by unfold f_X12_thrown; rw [a4]) (fun _ => rfl) (h X' M' _ a3)
  · simp only [List.mem_cons, List.not_mem_nil, or_false, Prod.mk.injEq] at hm
    rcases hm with ⟨rfl, rfl⟩ | ⟨rfl, rfl⟩
    · exact lb_setPrice E C hi hk hn (by decide) (by decide) (by decide) (by decide) (wx_setPrice_2 (f1 := 0) hl a1) (c_X12_setPrice (f1 := 1) a2) (by unfold f_X12_thrown; rw [mi00]) (fun q => absurd q (by decide)) (h X _ _ (hr.thr 1))
    · exact lb_setPrice E C hi hk hn (by decide) (by decide) (by decide) (by decide) (wx_setPrice_1 (f1 := 0) hl a1) (c_X12_setPrice (f1 := 1) a2) (by unfold f_X12_thrown; rw [mi00]) (fun q => absurd q (by decide)) (h X _ _ (hr.thr 2))
set_option maxRecDepth 20000 in
theorem lb_bottle {p : Program} {l : Launch} {e : Env} {s : State} {m : MethodId} {args : Array Value} {below : List Frame} {meth : Method} {c : Code} {D : DD} {z : Nat} {k n : Nat} {Q : State → Prop} {b L i : Nat} {xs : Nat → Int32} {X : XT} {M : MT} {o : Int64} (E : Cx p s m args meth c D z RL cL_law 9 (some .boolean)) (C : LC s z b L xs) (hi : i + 6 ≤ L) (hk : k + 100 ≤ 601024) (hn : n + 10000 ≤ 7293034) {d q1 q2 : Nat} {kk r : Int32} {o' : Int64} {X' : XT} {M' : MT} (hrw : d + 1 ≤ 2048) (hrl : d ≤ 1000) (hrc : q1 ≤ 64) (hrs : q2 ≤ 8000) (hW : CW l yL_bottle cL_bottle 5 (some .int) [(0, 10, 13, 28), (0, 10, 17, 19), (0, 10, 21, 13)] (rmk d q1 q2) D z [.ref (z + aX 0 0 0), .int (xs (i + 1)), .int (xs (i + 2)), .ref (z + 537)] (GG D z (X, (2, M, o))) (some (.int kk)) (GG D z (X', (2, M, o')))) (hM : CC l yX12_bottle cX12_bottle 4 (some .int) (rmk 4 0 0) D z [.ref (z + aM 0), .int (xs (i + 1)), .int (xs (i + 2))] (GG D z (X', (2, M, o'))) (some (.int r)) (GG D z (X', (2, M', o')))) (hT : f_X12_thrown M' = some kk) (hres : kk = 0 → o' = r.toInt64) (h : J p l e room_1 s m args below meth c D z (GG D z (X', (2, M', o'))) (k + 100) (n + 10000) Q 9 3238 (lsL b z i) []) : J p l e room_1 s m args below meth c D z (GG D z (X, (2, M, o))) k n Q 9 2685 (lsL b z i) [] := by
  refine j_aload_n E 3 rfl dL_law_2685 ?_
  refine j_aload_n E 4 rfl dL_law_2686 ?_
  refine j_iload E 0 rfl dL_law_2687 ?_
  refine j_iconst E (nI 1) rfl dL_law_2689 ?_
  refine j_iadd E dL_law_2690 ?_
  refine j_name (nI_add i 1).symm ?_
  refine j_sld E C (by omega) dL_law_2691 ?_
  refine j_aload_n E 4 rfl dL_law_2692 ?_
  refine j_iload E 0 rfl dL_law_2693 ?_
  refine j_iconst E (nI 2) rfl dL_law_2695 ?_
  refine j_iadd E dL_law_2696 ?_
  refine j_name (nI_add i 2).symm ?_
  refine j_sld E C (by omega) dL_law_2697 ?_
  refine j_aload_n E 1 rfl dL_law_2698 ?_
  refine j_invW (n0 := 4) [] [.int kk] E hW ml_L_347 st_L_bottle in_L cd_L_bottle rfl (by decide +kernel) rfl ⟨hrw, by show 8 + (_ + 11) + 64 * d ≤ 84000; omega⟩ rfl rfl (le_ rfl) ⟨by show k + q1 ≤ 601024; omega, by show n + q2 ≤ 7293034; omega⟩ dL_law_2699 ?_
  refine j_istore (ls' := (5, .int kk) :: lsL b z i) E (lt_ rfl) rfl dL_law_2702 ?_
  refine j_aload_n E 3 rfl dL_law_2704 ?_
  refine j_aload_n E 5 rfl dL_law_2705 ?_
  refine j_iload E 1 rfl dL_law_2706 ?_
  refine j_iconst E (nI 1) rfl dL_law_2708 ?_
  refine j_iadd E dL_law_2709 ?_
  refine j_name (nI_add i 1).symm ?_
  refine j_sld E C (by omega) dL_law_2710 ?_
  refine j_aload_n E 5 rfl dL_law_2711 ?_
  refine j_iload E 1 rfl dL_law_2712 ?_
  refine j_iconst E (nI 2) rfl dL_law_2714 ?_
  refine j_iadd E dL_law_2715 ?_
  refine j_name (nI_add i 2).symm ?_
  refine j_sld E C (by omega) dL_law_2716 ?_
  refine j_invV [] [.int r] E hM ml_L_349 mv_X12_bottle rfl ⟨le_ rfl, le_ rfl⟩ (rcM (f1 := 1) cf_X12) rfl rfl (le_ rfl) ⟨by show k + q1 + 0 ≤ 601024; omega, by show n + q2 + 0 ≤ 7293034; omega⟩ dL_law_2717 ?_
  refine j_istore (ls' := (6, .int r) :: (5, .int kk) :: lsL b z i) E (lt_ rfl) rfl dL_law_2720 ?_
  refine j_aload_n E 4 rfl dL_law_2722 ?_
  refine j_invV [] [.int kk] E (c_X12_thrown (f1 := 1) hT) ml_L_159 mv_X12_thrown rfl ⟨le_ rfl, le_ rfl⟩ (rcM (f1 := 1) cf_X12) rfl rfl (le_ rfl) ⟨by show k + q1 + 0 + 0 ≤ 601024; omega, by show n + q2 + 0 + 0 ≤ 7293034; omega⟩ dL_law_2723 ?_
  refine j_iload E 1 rfl dL_law_2726 ?_
  refine j_icmp_eq E 2733 (by decide) dL_law_2728 (fun _ => ?_) (fun q => absurd rfl q)
  have fin : J p l e room_1 s m args below meth c D z (GG D z (X', (2, M', o'))) (k + 100) (n + 10000) Q 9 3238 ((6, .int r) :: (5, .int kk) :: lsL b z i) [] := j_sub (ls' := lsL b z i) [2, 3, 4, 5, 6] rfl h
  refine j_iload E 1 rfl dL_law_2733 ?_
  refine j_if_ne E 2750 (by decide) dL_law_2735 (fun _ => ?_) (fun q0 => ?_)
  · refine j_goto E 3238 (by decide) dL_law_2750 ?_
    exact j_widen (by show k + q1 + 0 + 0 ≤ k + 100; omega) (by show n + q2 + 0 + 0 ≤ n + 10000; omega) fin
  · refine j_aload_n E 3 rfl dL_law_2738 ?_
    refine j_iconst E 0 ic_0 dL_law_2739 ?_
    refine j_laldO (f1 := 0) E dL_law_2740 ?_
    refine j_iload E 0 rfl dL_law_2741 ?_
    refine j_i2l E dL_law_2743 ?_
    refine j_lcmp E dL_law_2744 ?_
    refine j_if_eq E 2750 (by decide) dL_law_2745 (fun _ => ?_) (fun q => absurd ((cmp_eq _ _).mpr (hres q0)) q)
    refine j_goto E 3238 (by decide) dL_law_2750 ?_
    exact j_widen (by show k + q1 + 0 + 0 ≤ k + 100; omega) (by show n + q2 + 0 + 0 ≤ n + 10000; omega) fin
set_option maxRecDepth 20000 in
theorem la_bottle {p : Program} {l : Launch} {e : Env} {s : State} {m : MethodId} {args : Array Value} {below : List Frame} {meth : Method} {c : Code} {D : DD} {z : Nat} {k n : Nat} {Q : State → Prop} {b L i : Nat} {xs : Nat → Int32} {X : XT} {M : MT} {o : Int64} (hl : l.stackTraces = false) (E : Cx p s m args meth c D z RL cL_law 9 (some .boolean)) (C : LC s z b L xs) (hi : i + 6 ≤ L) (hk : k + 100 ≤ 601024) (hn : n + 10000 ≤ 7293034) (hr : RR X M) (h : ∀ X' M' o', RR X' M' → J p l e room_1 s m args below meth c D z (GG D z (X', (2, M', o'))) (k + 100) (n + 10000) Q 9 3238 (lsL b z i) []) : J p l e room_1 s m args below meth c D z (GG D z (X, (2, M, o))) k n Q 9 2685 (lsL b z i) [] := by
  rcases u_bottle hr (xs (i + 1)) (xs (i + 2)) with ⟨r, X', M', a1, a2, a3, a4⟩ | ⟨e, k', r, hm, a1, a2⟩
  · exact lb_bottle E C hi hk hn (by decide) (by decide) (by decide) (by decide) (w_bottle (f1 := 0) a1) (c_X12_bottle (f1 := 1) a2) (by unfold f_X12_thrown; rw [a4]) (fun _ => rfl) (h X' M' _ a3)
  · simp only [List.mem_cons, List.not_mem_nil, or_false, Prod.mk.injEq] at hm
    rcases hm with ⟨rfl, rfl⟩ | ⟨rfl, rfl⟩ | ⟨rfl, rfl⟩
    · exact lb_bottle E C hi hk hn (by decide) (by decide) (by decide) (by decide) (wx_bottle_2 (f1 := 0) hl a1) (c_X12_bottle (f1 := 1) a2) (by unfold f_X12_thrown; rw [mi00]) (fun q => absurd q (by decide)) (h X _ _ (hr.thr 1))
    · exact lb_bottle E C hi hk hn (by decide) (by decide) (by decide) (by decide) (wx_bottle_1 (f1 := 0) hl a1) (c_X12_bottle (f1 := 1) a2) (by unfold f_X12_thrown; rw [mi00]) (fun q => absurd q (by decide)) (h X _ _ (hr.thr 2))
    · exact lb_bottle E C hi hk hn (by decide) (by decide) (by decide) (by decide) (wx_bottle_0 (f1 := 0) hl a1) (c_X12_bottle (f1 := 1) a2) (by unfold f_X12_thrown; rw [mi00]) (fun q => absurd q (by decide)) (h X _ _ (hr.thr 3))
set_option maxRecDepth 20000 in
theorem lb_sell {p : Program} {l : Launch} {e : Env} {s : State} {m : MethodId} {args : Array Value} {below : List Frame} {meth : Method} {c : Code} {D : DD} {z : Nat} {k n : Nat} {Q : State → Prop} {b L i : Nat} {xs : Nat → Int32} {X : XT} {M : MT} {o : Int64} (E : Cx p s m args meth c D z RL cL_law 9 (some .boolean)) (C : LC s z b L xs) (hi : i + 6 ≤ L) (hk : k + 100 ≤ 601024) (hn : n + 10000 ≤ 7293034) {d q1 q2 : Nat} {kk r : Int32} {o' : Int64} {X' : XT} {M' : MT} (hrw : d + 1 ≤ 2048) (hrl : d ≤ 1000) (hrc : q1 ≤ 64) (hrs : q2 ≤ 8000) (hW : CW l yL_sell cL_sell 6 (some .int) [(0, 12, 15, 28), (0, 12, 19, 19), (0, 12, 23, 13)] (rmk d q1 q2) D z [.ref (z + aX 0 0 0), .int (xs (i + 1)), .int (xs (i + 2)), .int (xs (i + 3)), .ref (z + 537)] (GG D z (X, (2, M, o))) (some (.int kk)) (GG D z (X', (2, M, o')))) (hM : CC l yX12_sell cX12_sell 5 (some .int) (rmk 3 0 0) D z [.ref (z + aM 0), .int (xs (i + 1)), .int (xs (i + 2)), .int (xs (i + 3))] (GG D z (X', (2, M, o'))) (some (.int r)) (GG D z (X', (2, M', o')))) (hT : f_X12_thrown M' = some kk) (hres : kk = 0 → o' = r.toInt64) (h : J p l e room_1 s m args below meth c D z (GG D z (X', (2, M', o'))) (k + 100) (n + 10000) Q 9 3238 (lsL b z i) []) : J p l e room_1 s m args below meth c D z (GG D z (X, (2, M, o))) k n Q 9 2753 (lsL b z i) [] := by
  refine j_aload_n E 3 rfl dL_law_2753 ?_
  refine j_aload_n E 4 rfl dL_law_2754 ?_
  refine j_iload E 0 rfl dL_law_2755 ?_
  refine j_iconst E (nI 1) rfl dL_law_2757 ?_
  refine j_iadd E dL_law_2758 ?_
  refine j_name (nI_add i 1).symm ?_
  refine j_sld E C (by omega) dL_law_2759 ?_
  refine j_aload_n E 4 rfl dL_law_2760 ?_
  refine j_iload E 0 rfl dL_law_2761 ?_
  refine j_iconst E (nI 2) rfl dL_law_2763 ?_
  refine j_iadd E dL_law_2764 ?_
  refine j_name (nI_add i 2).symm ?_
  refine j_sld E C (by omega) dL_law_2765 ?_
  refine j_aload_n E 4 rfl dL_law_2766 ?_
  refine j_iload E 0 rfl dL_law_2767 ?_
  refine j_iconst E (nI 3) rfl dL_law_2769 ?_
  refine j_iadd E dL_law_2770 ?_
  refine j_name (nI_add i 3).symm ?_
  refine j_sld E C (by omega) dL_law_2771 ?_
  refine j_aload_n E 1 rfl dL_law_2772 ?_
  refine j_invW (n0 := 5) [] [.int kk] E hW ml_L_350 st_L_sell in_L cd_L_sell rfl (by decide +kernel) rfl ⟨hrw, by show 8 + (_ + 11) + 64 * d ≤ 84000; omega⟩ rfl rfl (le_ rfl) ⟨by show k + q1 ≤ 601024; omega, by show n + q2 ≤ 7293034; omega⟩ dL_law_2773 ?_
  refine j_istore (ls' := (5, .int kk) :: lsL b z i) E (lt_ rfl) rfl dL_law_2776 ?_
  refine j_aload_n E 3 rfl dL_law_2778 ?_
  refine j_aload_n E 5 rfl dL_law_2779 ?_
  refine j_iload E 1 rfl dL_law_2780 ?_
  refine j_iconst E (nI 1) rfl dL_law_2782 ?_
  refine j_iadd E dL_law_2783 ?_
  refine j_name (nI_add i 1).symm ?_
  refine j_sld E C (by omega) dL_law_2784 ?_
  refine j_aload_n E 5 rfl dL_law_2785 ?_
  refine j_iload E 1 rfl dL_law_2786 ?_
  refine j_iconst E (nI 2) rfl dL_law_2788 ?_
  refine j_iadd E dL_law_2789 ?_
  refine j_name (nI_add i 2).symm ?_
  refine j_sld E C (by omega) dL_law_2790 ?_
  refine j_aload_n E 5 rfl dL_law_2791 ?_
  refine j_iload E 1 rfl dL_law_2792 ?_
  refine j_iconst E (nI 3) rfl dL_law_2794 ?_
  refine j_iadd E dL_law_2795 ?_
  refine j_name (nI_add i 3).symm ?_
  refine j_sld E C (by omega) dL_law_2796 ?_
  refine j_invV [] [.int r] E hM ml_L_352 mv_X12_sell rfl ⟨le_ rfl, le_ rfl⟩ (rcM (f1 := 1) cf_X12) rfl rfl (le_ rfl) ⟨by show k + q1 + 0 ≤ 601024; omega, by show n + q2 + 0 ≤ 7293034; omega⟩ dL_law_2797 ?_
  refine j_istore (ls' := (6, .int r) :: (5, .int kk) :: lsL b z i) E (lt_ rfl) rfl dL_law_2800 ?_
  refine j_aload_n E 4 rfl dL_law_2802 ?_
  refine j_invV [] [.int kk] E (c_X12_thrown (f1 := 1) hT) ml_L_159 mv_X12_thrown rfl ⟨le_ rfl, le_ rfl⟩ (rcM (f1 := 1) cf_X12) rfl rfl (le_ rfl) ⟨by show k + q1 + 0 + 0 ≤ 601024; omega, by show n + q2 + 0 + 0 ≤ 7293034; omega⟩ dL_law_2803 ?_
  refine j_iload E 1 rfl dL_law_2806 ?_
  refine j_icmp_eq E 2813 (by decide) dL_law_2808 (fun _ => ?_) (fun q => absurd rfl q)
  have fin : J p l e room_1 s m args below meth c D z (GG D z (X', (2, M', o'))) (k + 100) (n + 10000) Q 9 3238 ((6, .int r) :: (5, .int kk) :: lsL b z i) [] := j_sub (ls' := lsL b z i) [2, 3, 4, 5, 6] rfl h
  refine j_iload E 1 rfl dL_law_2813 ?_
  refine j_if_ne E 2830 (by decide) dL_law_2815 (fun _ => ?_) (fun q0 => ?_)
  · refine j_goto E 3238 (by decide) dL_law_2830 ?_
    exact j_widen (by show k + q1 + 0 + 0 ≤ k + 100; omega) (by show n + q2 + 0 + 0 ≤ n + 10000; omega) fin
  · refine j_aload_n E 3 rfl dL_law_2818 ?_
    refine j_iconst E 0 ic_0 dL_law_2819 ?_
    refine j_laldO (f1 := 0) E dL_law_2820 ?_
    refine j_iload E 0 rfl dL_law_2821 ?_
    refine j_i2l E dL_law_2823 ?_
    refine j_lcmp E dL_law_2824 ?_
    refine j_if_eq E 2830 (by decide) dL_law_2825 (fun _ => ?_) (fun q => absurd ((cmp_eq _ _).mpr (hres q0)) q)
    refine j_goto E 3238 (by decide) dL_law_2830 ?_
    exact j_widen (by show k + q1 + 0 + 0 ≤ k + 100; omega) (by show n + q2 + 0 + 0 ≤ n + 10000; omega) fin
set_option maxRecDepth 20000 in
theorem la_sell {p : Program} {l : Launch} {e : Env} {s : State} {m : MethodId} {args : Array Value} {below : List Frame} {meth : Method} {c : Code} {D : DD} {z : Nat} {k n : Nat} {Q : State → Prop} {b L i : Nat} {xs : Nat → Int32} {X : XT} {M : MT} {o : Int64} (hl : l.stackTraces = false) (E : Cx p s m args meth c D z RL cL_law 9 (some .boolean)) (C : LC s z b L xs) (hi : i + 6 ≤ L) (hk : k + 100 ≤ 601024) (hn : n + 10000 ≤ 7293034) (hr : RR X M) (h : ∀ X' M' o', RR X' M' → J p l e room_1 s m args below meth c D z (GG D z (X', (2, M', o'))) (k + 100) (n + 10000) Q 9 3238 (lsL b z i) []) : J p l e room_1 s m args below meth c D z (GG D z (X, (2, M, o))) k n Q 9 2753 (lsL b z i) [] := by
  rcases u_sell hr (xs (i + 1)) (xs (i + 2)) (xs (i + 3)) with ⟨r, X', M', a1, a2, a3, a4⟩ | ⟨e, k', r, hm, a1, a2⟩
  · exact lb_sell E C hi hk hn (by decide) (by decide) (by decide) (by decide) (w_sell (f1 := 0) a1) (c_X12_sell (f1 := 1) a2) (by unfold f_X12_thrown; rw [a4]) (fun _ => rfl) (h X' M' _ a3)
  · simp only [List.mem_cons, List.not_mem_nil, or_false, Prod.mk.injEq] at hm
    rcases hm with ⟨rfl, rfl⟩ | ⟨rfl, rfl⟩ | ⟨rfl, rfl⟩
    · exact lb_sell E C hi hk hn (by decide) (by decide) (by decide) (by decide) (wx_sell_2 (f1 := 0) hl a1) (c_X12_sell (f1 := 1) a2) (by unfold f_X12_thrown; rw [mi00]) (fun q => absurd q (by decide)) (h X _ _ (hr.thr 1))
    · exact lb_sell E C hi hk hn (by decide) (by decide) (by decide) (by decide) (wx_sell_1 (f1 := 0) hl a1) (c_X12_sell (f1 := 1) a2) (by unfold f_X12_thrown; rw [mi00]) (fun q => absurd q (by decide)) (h X _ _ (hr.thr 2))
    · exact lb_sell E C hi hk hn (by decide) (by decide) (by decide) (by decide) (wx_sell_0 (f1 := 0) hl a1) (c_X12_sell (f1 := 1) a2) (by unfold f_X12_thrown; rw [mi00]) (fun q => absurd q (by decide)) (h X _ _ (hr.thr 3))
set_option maxRecDepth 20000 in
theorem lb_payLoad {p : Program} {l : Launch} {e : Env} {s : State} {m : MethodId} {args : Array Value} {below : List Frame} {meth : Method} {c : Code} {D : DD} {z : Nat} {k n : Nat} {Q : State → Prop} {b L i : Nat} {xs : Nat → Int32} {X : XT} {M : MT} {o : Int64} (E : Cx p s m args meth c D z RL cL_law 9 (some .boolean)) (C : LC s z b L xs) (hi : i + 6 ≤ L) (hk : k + 100 ≤ 601024) (hn : n + 10000 ≤ 7293034) {d q1 q2 : Nat} {kk r : Int32} {o' : Int64} {X' : XT} {M' : MT} (hrw : d + 1 ≤ 2048) (hrl : d ≤ 1000) (hrc : q1 ≤ 64) (hrs : q2 ≤ 8000) (hW : CW l yL_payLoad cL_payLoad 4 (some .int) [(0, 9, 12, 28), (0, 9, 15, 13)] (rmk d q1 q2) D z [.ref (z + aX 0 0 0), .int (xs (i + 1)), .ref (z + 537)] (GG D z (X, (2, M, o))) (some (.int kk)) (GG D z (X', (2, M, o')))) (hM : CC l yX12_payLoad cX12_payLoad 3 (some .int) (rmk 5 0 0) D z [.ref (z + aM 0), .int (xs (i + 1))] (GG D z (X', (2, M, o'))) (some (.int r)) (GG D z (X', (2, M', o')))) (hT : f_X12_thrown M' = some kk) (hres : kk = 0 → o' = r.toInt64) (h : J p l e room_1 s m args below meth c D z (GG D z (X', (2, M', o'))) (k + 100) (n + 10000) Q 9 3238 (lsL b z i) []) : J p l e room_1 s m args below meth c D z (GG D z (X, (2, M, o))) k n Q 9 2833 (lsL b z i) [] := by
  refine j_aload_n E 3 rfl dL_law_2833 ?_
  refine j_aload_n E 4 rfl dL_law_2834 ?_
  refine j_iload E 0 rfl dL_law_2835 ?_
  refine j_iconst E (nI 1) rfl dL_law_2837 ?_
  refine j_iadd E dL_law_2838 ?_
  refine j_name (nI_add i 1).symm ?_
  refine j_sld E C (by omega) dL_law_2839 ?_
  refine j_aload_n E 1 rfl dL_law_2840 ?_
  refine j_invW (n0 := 3) [] [.int kk] E hW ml_L_353 st_L_payLoad in_L cd_L_payLoad rfl (by decide +kernel) rfl ⟨hrw, by show 8 + (_ + 11) + 64 * d ≤ 84000; omega⟩ rfl rfl (le_ rfl) ⟨by show k + q1 ≤ 601024; omega, by show n + q2 ≤ 7293034; omega⟩ dL_law_2841 ?_
  refine j_istore (ls' := (5, .int kk) :: lsL b z i) E (lt_ rfl) rfl dL_law_2844 ?_
  refine j_aload_n E 3 rfl dL_law_2846 ?_
  refine j_aload_n E 5 rfl dL_law_2847 ?_
  refine j_iload E 1 rfl dL_law_2848 ?_
  refine j_iconst E (nI 1) rfl dL_law_2850 ?_
  refine j_iadd E dL_law_2851 ?_
  refine j_name (nI_add i 1).symm ?_
  refine j_sld E C (by omega) dL_law_2852 ?_
  refine j_invV [] [.int r] E hM ml_L_355 mv_X12_payLoad rfl ⟨le_ rfl, le_ rfl⟩ (rcM (f1 := 1) cf_X12) rfl rfl (le_ rfl) ⟨by show k + q1 + 0 ≤ 601024; omega, by show n + q2 + 0 ≤ 7293034; omega⟩ dL_law_2853 ?_
  refine j_istore (ls' := (6, .int r) :: (5, .int kk) :: lsL b z i) E (lt_ rfl) rfl dL_law_2856 ?_
  refine j_aload_n E 4 rfl dL_law_2858 ?_
  refine j_invV [] [.int kk] E (c_X12_thrown (f1 := 1) hT) ml_L_159 mv_X12_thrown rfl ⟨le_ rfl, le_ rfl⟩ (rcM (f1 := 1) cf_X12) rfl rfl (le_ rfl) ⟨by show k + q1 + 0 + 0 ≤ 601024; omega, by show n + q2 + 0 + 0 ≤ 7293034; omega⟩ dL_law_2859 ?_
  refine j_iload E 1 rfl dL_law_2862 ?_
  refine j_icmp_eq E 2869 (by decide) dL_law_2864 (fun _ => ?_) (fun q => absurd rfl q)
  have fin : J p l e room_1 s m args below meth c D z (GG D z (X', (2, M', o'))) (k + 100) (n + 10000) Q 9 3238 ((6, .int r) :: (5, .int kk) :: lsL b z i) [] := j_sub (ls' := lsL b z i) [2, 3, 4, 5, 6] rfl h
  refine j_iload E 1 rfl dL_law_2869 ?_
  refine j_if_ne E 2886 (by decide) dL_law_2871 (fun _ => ?_) (fun q0 => ?_)
  · refine j_goto E 3238 (by decide) dL_law_2886 ?_
    exact j_widen (by show k + q1 + 0 + 0 ≤ k + 100; omega) (by show n + q2 + 0 + 0 ≤ n + 10000; omega) fin
  · refine j_aload_n E 3 rfl dL_law_2874 ?_
    refine j_iconst E 0 ic_0 dL_law_2875 ?_
    refine j_laldO (f1 := 0) E dL_law_2876 ?_
    refine j_iload E 0 rfl dL_law_2877 ?_
    refine j_i2l E dL_law_2879 ?_
    refine j_lcmp E dL_law_2880 ?_
    refine j_if_eq E 2886 (by decide) dL_law_2881 (fun _ => ?_) (fun q => absurd ((cmp_eq _ _).mpr (hres q0)) q)
    refine j_goto E 3238 (by decide) dL_law_2886 ?_
    exact j_widen (by show k + q1 + 0 + 0 ≤ k + 100; omega) (by show n + q2 + 0 + 0 ≤ n + 10000; omega) fin
set_option maxRecDepth 20000 in
theorem la_payLoad {p : Program} {l : Launch} {e : Env} {s : State} {m : MethodId} {args : Array Value} {below : List Frame} {meth : Method} {c : Code} {D : DD} {z : Nat} {k n : Nat} {Q : State → Prop} {b L i : Nat} {xs : Nat → Int32} {X : XT} {M : MT} {o : Int64} (hl : l.stackTraces = false) (E : Cx p s m args meth c D z RL cL_law 9 (some .boolean)) (C : LC s z b L xs) (hi : i + 6 ≤ L) (hk : k + 100 ≤ 601024) (hn : n + 10000 ≤ 7293034) (hr : RR X M) (h : ∀ X' M' o', RR X' M' → J p l e room_1 s m args below meth c D z (GG D z (X', (2, M', o'))) (k + 100) (n + 10000) Q 9 3238 (lsL b z i) []) : J p l e room_1 s m args below meth c D z (GG D z (X, (2, M, o))) k n Q 9 2833 (lsL b z i) [] := by
  rcases u_payLoad hr (xs (i + 1)) with ⟨r, X', M', a1, a2, a3, a4⟩ | ⟨e, k', r, hm, a1, a2⟩
  · exact lb_payLoad E C hi hk hn (by decide) (by decide) (by decide) (by decide) (w_payLoad (f1 := 0) a1) (c_X12_payLoad (f1 := 1) a2) (by unfold f_X12_thrown; rw [a4]) (fun _ => rfl) (h X' M' _ a3)
  · simp only [List.mem_cons, List.not_mem_nil, or_false, Prod.mk.injEq] at hm
    rcases hm with ⟨rfl, rfl⟩ | ⟨rfl, rfl⟩
    · exact lb_payLoad E C hi hk hn (by decide) (by decide) (by decide) (by decide) (wx_payLoad_2 (f1 := 0) hl a1) (c_X12_payLoad (f1 := 1) a2) (by unfold f_X12_thrown; rw [mi00]) (fun q => absurd q (by decide)) (h X _ _ (hr.thr 1))
    · exact lb_payLoad E C hi hk hn (by decide) (by decide) (by decide) (by decide) (wx_payLoad_0 (f1 := 0) hl a1) (c_X12_payLoad (f1 := 1) a2) (by unfold f_X12_thrown; rw [mi00]) (fun q => absurd q (by decide)) (h X _ _ (hr.thr 2))
set_option maxRecDepth 20000 in
theorem lb_payGrower {p : Program} {l : Launch} {e : Env} {s : State} {m : MethodId} {args : Array Value} {below : List Frame} {meth : Method} {c : Code} {D : DD} {z : Nat} {k n : Nat} {Q : State → Prop} {b L i : Nat} {xs : Nat → Int32} {X : XT} {M : MT} {o : Int64} (E : Cx p s m args meth c D z RL cL_law 9 (some .boolean)) (C : LC s z b L xs) (hi : i + 6 ≤ L) (hk : k + 100 ≤ 601024) (hn : n + 10000 ≤ 7293034) {d q1 q2 : Nat} {kk r : Int32} {o' : Int64} {X' : XT} {M' : MT} (hrw : d + 1 ≤ 2048) (hrl : d ≤ 1000) (hrc : q1 ≤ 64) (hrs : q2 ≤ 8000) (hW : CW l yL_payGrower cL_payGrower 4 (some .int) [(0, 9, 12, 28), (0, 9, 15, 13)] (rmk d q1 q2) D z [.ref (z + aX 0 0 0), .int (xs (i + 1)), .ref (z + 537)] (GG D z (X, (2, M, o))) (some (.int kk)) (GG D z (X', (2, M, o')))) (hM : CC l yX12_payGrower cX12_payGrower 3 (some .int) (rmk 6 0 0) D z [.ref (z + aM 0), .int (xs (i + 1))] (GG D z (X', (2, M, o'))) (some (.int r)) (GG D z (X', (2, M', o')))) (hT : f_X12_thrown M' = some kk) (hres : kk = 0 → o' = r.toInt64) (h : J p l e room_1 s m args below meth c D z (GG D z (X', (2, M', o'))) (k + 100) (n + 10000) Q 9 3238 (lsL b z i) []) : J p l e room_1 s m args below meth c D z (GG D z (X, (2, M, o))) k n Q 9 2889 (lsL b z i) [] := by
  refine j_aload_n E 3 rfl dL_law_2889 ?_
  refine j_aload_n E 4 rfl dL_law_2890 ?_
  refine j_iload E 0 rfl dL_law_2891 ?_
  refine j_iconst E (nI 1) rfl dL_law_2893 ?_
  refine j_iadd E dL_law_2894 ?_
  refine j_name (nI_add i 1).symm ?_
  refine j_sld E C (by omega) dL_law_2895 ?_
  refine j_aload_n E 1 rfl dL_law_2896 ?_
  refine j_invW (n0 := 3) [] [.int kk] E hW ml_L_356 st_L_payGrower in_L cd_L_payGrower rfl (by decide +kernel) rfl ⟨hrw, by show 8 + (_ + 11) + 64 * d ≤ 84000; omega⟩ rfl rfl (le_ rfl) ⟨by show k + q1 ≤ 601024; omega, by show n + q2 ≤ 7293034; omega⟩ dL_law_2897 ?_
  refine j_istore (ls' := (5, .int kk) :: lsL b z i) E (lt_ rfl) rfl dL_law_2900 ?_
  refine j_aload_n E 3 rfl dL_law_2902 ?_
  refine j_aload_n E 5 rfl dL_law_2903 ?_
  refine j_iload E 1 rfl dL_law_2904 ?_
  refine j_iconst E (nI 1) rfl dL_law_2906 ?_
  refine j_iadd E dL_law_2907 ?_
  refine j_name (nI_add i 1).symm ?_
  refine j_sld E C (by omega) dL_law_2908 ?_
  refine j_invV [] [.int r] E hM ml_L_358 mv_X12_payGrower rfl ⟨le_ rfl, le_ rfl⟩ (rcM (f1 := 1) cf_X12) rfl rfl (le_ rfl) ⟨by show k + q1 + 0 ≤ 601024; omega, by show n + q2 + 0 ≤ 7293034; omega⟩ dL_law_2909 ?_
  refine j_istore (ls' := (6, .int r) :: (5, .int kk) :: lsL b z i) E (lt_ rfl) rfl dL_law_2912 ?_
  refine j_aload_n E 4 rfl dL_law_2914 ?_
  refine j_invV [] [.int kk] E (c_X12_thrown (f1 := 1) hT) ml_L_159 mv_X12_thrown rfl ⟨le_ rfl, le_ rfl⟩ (rcM (f1 := 1) cf_X12) rfl rfl (le_ rfl) ⟨by show k + q1 + 0 + 0 ≤ 601024; omega, by show n + q2 + 0 + 0 ≤ 7293034; omega⟩ dL_law_2915 ?_
  refine j_iload E 1 rfl dL_law_2918 ?_
  refine j_icmp_eq E 2925 (by decide) dL_law_2920 (fun _ => ?_) (fun q => absurd rfl q)
  have fin : J p l e room_1 s m args below meth c D z (GG D z (X', (2, M', o'))) (k + 100) (n + 10000) Q 9 3238 ((6, .int r) :: (5, .int kk) :: lsL b z i) [] := j_sub (ls' := lsL b z i) [2, 3, 4, 5, 6] rfl h
  refine j_iload E 1 rfl dL_law_2925 ?_
  refine j_if_ne E 2942 (by decide) dL_law_2927 (fun _ => ?_) (fun q0 => ?_)
  · refine j_goto E 3238 (by decide) dL_law_2942 ?_
    exact j_widen (by show k + q1 + 0 + 0 ≤ k + 100; omega) (by show n + q2 + 0 + 0 ≤ n + 10000; omega) fin
  · refine j_aload_n E 3 rfl dL_law_2930 ?_
    refine j_iconst E 0 ic_0 dL_law_2931 ?_
    refine j_laldO (f1 := 0) E dL_law_2932 ?_
    refine j_iload E 0 rfl dL_law_2933 ?_
    refine j_i2l E dL_law_2935 ?_
    refine j_lcmp E dL_law_2936 ?_
    refine j_if_eq E 2942 (by decide) dL_law_2937 (fun _ => ?_) (fun q => absurd ((cmp_eq _ _).mpr (hres q0)) q)
    refine j_goto E 3238 (by decide) dL_law_2942 ?_
    exact j_widen (by show k + q1 + 0 + 0 ≤ k + 100; omega) (by show n + q2 + 0 + 0 ≤ n + 10000; omega) fin
set_option maxRecDepth 20000 in
theorem la_payGrower {p : Program} {l : Launch} {e : Env} {s : State} {m : MethodId} {args : Array Value} {below : List Frame} {meth : Method} {c : Code} {D : DD} {z : Nat} {k n : Nat} {Q : State → Prop} {b L i : Nat} {xs : Nat → Int32} {X : XT} {M : MT} {o : Int64} (hl : l.stackTraces = false) (E : Cx p s m args meth c D z RL cL_law 9 (some .boolean)) (C : LC s z b L xs) (hi : i + 6 ≤ L) (hk : k + 100 ≤ 601024) (hn : n + 10000 ≤ 7293034) (hr : RR X M) (h : ∀ X' M' o', RR X' M' → J p l e room_1 s m args below meth c D z (GG D z (X', (2, M', o'))) (k + 100) (n + 10000) Q 9 3238 (lsL b z i) []) : J p l e room_1 s m args below meth c D z (GG D z (X, (2, M, o))) k n Q 9 2889 (lsL b z i) [] := by
  rcases u_payGrower hr (xs (i + 1)) with ⟨r, X', M', a1, a2, a3, a4⟩ | ⟨e, k', r, hm, a1, a2⟩
  · exact lb_payGrower E C hi hk hn (by decide) (by decide) (by decide) (by decide) (w_payGrower (f1 := 0) a1) (c_X12_payGrower (f1 := 1) a2) (by unfold f_X12_thrown; rw [a4]) (fun _ => rfl) (h X' M' _ a3)
  · simp only [List.mem_cons, List.not_mem_nil, or_false, Prod.mk.injEq] at hm
    rcases hm with ⟨rfl, rfl⟩ | ⟨rfl, rfl⟩
    · exact lb_payGrower E C hi hk hn (by decide) (by decide) (by decide) (by decide) (wx_payGrower_2 (f1 := 0) hl a1) (c_X12_payGrower (f1 := 1) a2) (by unfold f_X12_thrown; rw [mi00]) (fun q => absurd q (by decide)) (h X _ _ (hr.thr 1))
    · exact lb_payGrower E C hi hk hn (by decide) (by decide) (by decide) (by decide) (wx_payGrower_0 (f1 := 0) hl a1) (c_X12_payGrower (f1 := 1) a2) (by unfold f_X12_thrown; rw [mi00]) (fun q => absurd q (by decide)) (h X _ _ (hr.thr 2))
set_option maxRecDepth 20000 in
theorem lb_pump {p : Program} {l : Launch} {e : Env} {s : State} {m : MethodId} {args : Array Value} {below : List Frame} {meth : Method} {c : Code} {D : DD} {z : Nat} {k n : Nat} {Q : State → Prop} {b L i : Nat} {xs : Nat → Int32} {X : XT} {M : MT} {o : Int64} (E : Cx p s m args meth c D z RL cL_law 9 (some .boolean)) (C : LC s z b L xs) (hi : i + 6 ≤ L) (hk : k + 100 ≤ 601024) (hn : n + 10000 ≤ 7293034) {d q1 q2 : Nat} {kk r : Int32} {o' : Int64} {X' : XT} {M' : MT} (hrw : d + 1 ≤ 2048) (hrl : d ≤ 1000) (hrc : q1 ≤ 64) (hrs : q2 ≤ 8000) (hW : CW l yL_pump cL_pump 5 (some .int) [(0, 10, 13, 28), (0, 10, 17, 19), (0, 10, 21, 13)] (rmk d q1 q2) D z [.ref (z + aX 0 0 0), .int (xs (i + 1)), .int (xs (i + 2)), .ref (z + 537)] (GG D z (X, (2, M, o))) (some (.int kk)) (GG D z (X', (2, M, o')))) (hM : CC l yX12_pump cX12_pump 4 (some .int) (rmk 4 0 0) D z [.ref (z + aM 0), .int (xs (i + 1)), .int (xs (i + 2))] (GG D z (X', (2, M, o'))) (some (.int r)) (GG D z (X', (2, M', o')))) (hT : f_X12_thrown M' = some kk) (hres : kk = 0 → o' = r.toInt64) (h : J p l e room_1 s m args below meth c D z (GG D z (X', (2, M', o'))) (k + 100) (n + 10000) Q 9 3238 (lsL b z i) []) : J p l e room_1 s m args below meth c D z (GG D z (X, (2, M, o))) k n Q 9 2945 (lsL b z i) [] := by
  refine j_aload_n E 3 rfl dL_law_2945 ?_
  refine j_aload_n E 4 rfl dL_law_2946 ?_
  refine j_iload E 0 rfl dL_law_2947 ?_
  refine j_iconst E (nI 1) rfl dL_law_2949 ?_
  refine j_iadd E dL_law_2950 ?_
  refine j_name (nI_add i 1).symm ?_
  refine j_sld E C (by omega) dL_law_2951 ?_
  refine j_aload_n E 4 rfl dL_law_2952 ?_
  refine j_iload E 0 rfl dL_law_2953 ?_
  refine j_iconst E (nI 2) rfl dL_law_2955 ?_
  refine j_iadd E dL_law_2956 ?_
  refine j_name (nI_add i 2).symm ?_
  refine j_sld E C (by omega) dL_law_2957 ?_
  refine j_aload_n E 1 rfl dL_law_2958 ?_
  refine j_invW (n0 := 4) [] [.int kk] E hW ml_L_359 st_L_pump in_L cd_L_pump rfl (by decide +kernel) rfl ⟨hrw, by show 8 + (_ + 11) + 64 * d ≤ 84000; omega⟩ rfl rfl (le_ rfl) ⟨by show k + q1 ≤ 601024; omega, by show n + q2 ≤ 7293034; omega⟩ dL_law_2959 ?_
  refine j_istore (ls' := (5, .int kk) :: lsL b z i) E (lt_ rfl) rfl dL_law_2962 ?_
  refine j_aload_n E 3 rfl dL_law_2964 ?_
  refine j_aload_n E 5 rfl dL_law_2965 ?_
  refine j_iload E 1 rfl dL_law_2966 ?_
  refine j_iconst E (nI 1) rfl dL_law_2968 ?_
  refine j_iadd E dL_law_2969 ?_
  refine j_name (nI_add i 1).symm ?_
  refine j_sld E C (by omega) dL_law_2970 ?_
  refine j_aload_n E 5 rfl dL_law_2971 ?_
  refine j_iload E 1 rfl dL_law_2972 ?_
  refine j_iconst E (nI 2) rfl dL_law_2974 ?_
  refine j_iadd E dL_law_2975 ?_
  refine j_name (nI_add i 2).symm ?_
  refine j_sld E C (by omega) dL_law_2976 ?_
  refine j_invV [] [.int r] E hM ml_L_361 mv_X12_pump rfl ⟨le_ rfl, le_ rfl⟩ (rcM (f1 := 1) cf_X12) rfl rfl (le_ rfl) ⟨by show k + q1 + 0 ≤ 601024; omega, by show n + q2 + 0 ≤ 7293034; omega⟩ dL_law_2977 ?_
  refine j_istore (ls' := (6, .int r) :: (5, .int kk) :: lsL b z i) E (lt_ rfl) rfl dL_law_2980 ?_
  refine j_aload_n E 4 rfl dL_law_2982 ?_
  refine j_invV [] [.int kk] E (c_X12_thrown (f1 := 1) hT) ml_L_159 mv_X12_thrown rfl ⟨le_ rfl, le_ rfl⟩ (rcM (f1 := 1) cf_X12) rfl rfl (le_ rfl) ⟨by show k + q1 + 0 + 0 ≤ 601024; omega, by show n + q2 + 0 + 0 ≤ 7293034; omega⟩ dL_law_2983 ?_
  refine j_iload E 1 rfl dL_law_2986 ?_
  refine j_icmp_eq E 2993 (by decide) dL_law_2988 (fun _ => ?_) (fun q => absurd rfl q)
  have fin : J p l e room_1 s m args below meth c D z (GG D z (X', (2, M', o'))) (k + 100) (n + 10000) Q 9 3238 ((6, .int r) :: (5, .int kk) :: lsL b z i) [] := j_sub (ls' := lsL b z i) [2, 3, 4, 5, 6] rfl h
  refine j_iload E 1 rfl dL_law_2993 ?_
  refine j_if_ne E 3010 (by decide) dL_law_2995 (fun _ => ?_) (fun q0 => ?_)
  · refine j_goto E 3238 (by decide) dL_law_3010 ?_
    exact j_widen (by show k + q1 + 0 + 0 ≤ k + 100; omega) (by show n + q2 + 0 + 0 ≤ n + 10000; omega) fin
  · refine j_aload_n E 3 rfl dL_law_2998 ?_
    refine j_iconst E 0 ic_0 dL_law_2999 ?_
    refine j_laldO (f1 := 0) E dL_law_3000 ?_
    refine j_iload E 0 rfl dL_law_3001 ?_
    refine j_i2l E dL_law_3003 ?_
    refine j_lcmp E dL_law_3004 ?_
    refine j_if_eq E 3010 (by decide) dL_law_3005 (fun _ => ?_) (fun q => absurd ((cmp_eq _ _).mpr (hres q0)) q)
    refine j_goto E 3238 (by decide) dL_law_3010 ?_
    exact j_widen (by show k + q1 + 0 + 0 ≤ k + 100; omega) (by show n + q2 + 0 + 0 ≤ n + 10000; omega) fin
set_option maxRecDepth 20000 in
theorem la_pump {p : Program} {l : Launch} {e : Env} {s : State} {m : MethodId} {args : Array Value} {below : List Frame} {meth : Method} {c : Code} {D : DD} {z : Nat} {k n : Nat} {Q : State → Prop} {b L i : Nat} {xs : Nat → Int32} {X : XT} {M : MT} {o : Int64} (hl : l.stackTraces = false) (E : Cx p s m args meth c D z RL cL_law 9 (some .boolean)) (C : LC s z b L xs) (hi : i + 6 ≤ L) (hk : k + 100 ≤ 601024) (hn : n + 10000 ≤ 7293034) (hr : RR X M) (h : ∀ X' M' o', RR X' M' → J p l e room_1 s m args below meth c D z (GG D z (X', (2, M', o'))) (k + 100) (n + 10000) Q 9 3238 (lsL b z i) []) : J p l e room_1 s m args below meth c D z (GG D z (X, (2, M, o))) k n Q 9 2945 (lsL b z i) [] := by
  rcases u_pump hr (xs (i + 1)) (xs (i + 2)) with ⟨r, X', M', a1, a2, a3, a4⟩ | ⟨e, k', r, hm, a1, a2⟩
  · exact lb_pump E C hi hk hn (by decide) (by decide) (by decide) (by decide) (w_pump (f1 := 0) a1) (c_X12_pump (f1 := 1) a2) (by unfold f_X12_thrown; rw [a4]) (fun _ => rfl) (h X' M' _ a3)
  · simp only [List.mem_cons, List.not_mem_nil, or_false, Prod.mk.injEq] at hm
    rcases hm with ⟨rfl, rfl⟩ | ⟨rfl, rfl⟩ | ⟨rfl, rfl⟩
    · exact lb_pump E C hi hk hn (by decide) (by decide) (by decide) (by decide) (wx_pump_2 (f1 := 0) hl a1) (c_X12_pump (f1 := 1) a2) (by unfold f_X12_thrown; rw [mi00]) (fun q => absurd q (by decide)) (h X _ _ (hr.thr 1))
    · exact lb_pump E C hi hk hn (by decide) (by decide) (by decide) (by decide) (wx_pump_1 (f1 := 0) hl a1) (c_X12_pump (f1 := 1) a2) (by unfold f_X12_thrown; rw [mi00]) (fun q => absurd q (by decide)) (h X _ _ (hr.thr 2))
    · exact lb_pump E C hi hk hn (by decide) (by decide) (by decide) (by decide) (wx_pump_0 (f1 := 0) hl a1) (c_X12_pump (f1 := 1) a2) (by unfold f_X12_thrown; rw [mi00]) (fun q => absurd q (by decide)) (h X _ _ (hr.thr 3))
set_option maxRecDepth 20000 in
theorem lb_save {p : Program} {l : Launch} {e : Env} {s : State} {m : MethodId} {args : Array Value} {below : List Frame} {meth : Method} {c : Code} {D : DD} {z : Nat} {k n : Nat} {Q : State → Prop} {b L i : Nat} {xs : Nat → Int32} {X : XT} {M : MT} {o : Int64} (E : Cx p s m args meth c D z RL cL_law 9 (some .boolean)) (C : LC s z b L xs) (hi : i + 6 ≤ L) (hk : k + 100 ≤ 601024) (hn : n + 10000 ≤ 7293034) {d q1 q2 : Nat} {kk r : Int32} {o' : Int64} {X' : XT} {M' : MT} (hrw : d + 1 ≤ 2048) (hrl : d ≤ 1000) (hrc : q1 ≤ 64) (hrs : q2 ≤ 8000) (hW : CW l yL_save cL_save 4 (some .int) [(0, 9, 12, 28)] (rmk d q1 q2) D z [.ref (z + aX 0 0 0), .int (xs (i + 1)), .ref (z + 537)] (GG D z (X, (2, M, o))) (some (.int kk)) (GG D z (X', (2, M, o')))) (hM : CC l yX12_save cX12_save 3 (some .int) (rmk 3 0 0) D z [.ref (z + aM 0), .int (xs (i + 1))] (GG D z (X', (2, M, o'))) (some (.int r)) (GG D z (X', (2, M', o')))) (hT : f_X12_thrown M' = some kk) (hres : kk = 0 → o' = r.toInt64) (h : J p l e room_1 s m args below meth c D z (GG D z (X', (2, M', o'))) (k + 100) (n + 10000) Q 9 3238 (lsL b z i) []) : J p l e room_1 s m args below meth c D z (GG D z (X, (2, M, o))) k n Q 9 3013 (lsL b z i) [] := by
  refine j_aload_n E 3 rfl dL_law_3013 ?_
  refine j_aload_n E 4 rfl dL_law_3014 ?_
  refine j_iload E 0 rfl dL_law_3015 ?_
  refine j_iconst E (nI 1) rfl dL_law_3017 ?_
  refine j_iadd E dL_law_3018 ?_
  refine j_name (nI_add i 1).symm ?_
  refine j_sld E C (by omega) dL_law_3019 ?_
  refine j_aload_n E 1 rfl dL_law_3020 ?_
  refine j_invW (n0 := 3) [] [.int kk] E hW ml_L_362 st_L_save in_L cd_L_save rfl (by decide +kernel) rfl ⟨hrw, by show 8 + (_ + 11) + 64 * d ≤ 84000; omega⟩ rfl rfl (le_ rfl) ⟨by show k + q1 ≤ 601024; omega, by show n + q2 ≤ 7293034; omega⟩ dL_law_3021 ?_
  refine j_istore (ls' := (5, .int kk) :: lsL b z i) E (lt_ rfl) rfl dL_law_3024 ?_
  refine j_aload_n E 3 rfl dL_law_3026 ?_
  refine j_aload_n E 5 rfl dL_law_3027 ?_
  refine j_iload E 1 rfl dL_law_3028 ?_
  refine j_iconst E (nI 1) rfl dL_law_3030 ?_
  refine j_iadd E dL_law_3031 ?_
  refine j_name (nI_add i 1).symm ?_
  refine j_sld E C (by omega) dL_law_3032 ?_
  refine j_invV [] [.int r] E hM ml_L_364 mv_X12_save rfl ⟨le_ rfl, le_ rfl⟩ (rcM (f1 := 1) cf_X12) rfl rfl (le_ rfl) ⟨by show k + q1 + 0 ≤ 601024; omega, by show n + q2 + 0 ≤ 7293034; omega⟩ dL_law_3033 ?_
  refine j_istore (ls' := (6, .int r) :: (5, .int kk) :: lsL b z i) E (lt_ rfl) rfl dL_law_3036 ?_
  refine j_aload_n E 4 rfl dL_law_3038 ?_
  refine j_invV [] [.int kk] E (c_X12_thrown (f1 := 1) hT) ml_L_159 mv_X12_thrown rfl ⟨le_ rfl, le_ rfl⟩ (rcM (f1 := 1) cf_X12) rfl rfl (le_ rfl) ⟨by show k + q1 + 0 + 0 ≤ 601024; omega, by show n + q2 + 0 + 0 ≤ 7293034; omega⟩ dL_law_3039 ?_
  refine j_iload E 1 rfl dL_law_3042 ?_
  refine j_icmp_eq E 3049 (by decide) dL_law_3044 (fun _ => ?_) (fun q => absurd rfl q)
  have fin : J p l e room_1 s m args below meth c D z (GG D z (X', (2, M', o'))) (k + 100) (n + 10000) Q 9 3238 ((6, .int r) :: (5, .int kk) :: lsL b z i) [] := j_sub (ls' := lsL b z i) [2, 3, 4, 5, 6] rfl h
  refine j_iload E 1 rfl dL_law_3049 ?_
  refine j_if_ne E 3066 (by decide) dL_law_3051 (fun _ => ?_) (fun q0 => ?_)
  · refine j_goto E 3238 (by decide) dL_law_3066 ?_
    exact j_widen (by show k + q1 + 0 + 0 ≤ k + 100; omega) (by show n + q2 + 0 + 0 ≤ n + 10000; omega) fin
  · refine j_aload_n E 3 rfl dL_law_3054 ?_
    refine j_iconst E 0 ic_0 dL_law_3055 ?_
    refine j_laldO (f1 := 0) E dL_law_3056 ?_
    refine j_iload E 0 rfl dL_law_3057 ?_
    refine j_i2l E dL_law_3059 ?_
    refine j_lcmp E dL_law_3060 ?_
    refine j_if_eq E 3066 (by decide) dL_law_3061 (fun _ => ?_) (fun q => absurd ((cmp_eq _ _).mpr (hres q0)) q)
    refine j_goto E 3238 (by decide) dL_law_3066 ?_
    exact j_widen (by show k + q1 + 0 + 0 ≤ k + 100; omega) (by show n + q2 + 0 + 0 ≤ n + 10000; omega) fin
set_option maxRecDepth 20000 in
theorem la_save {p : Program} {l : Launch} {e : Env} {s : State} {m : MethodId} {args : Array Value} {below : List Frame} {meth : Method} {c : Code} {D : DD} {z : Nat} {k n : Nat} {Q : State → Prop} {b L i : Nat} {xs : Nat → Int32} {X : XT} {M : MT} {o : Int64} (hl : l.stackTraces = false) (E : Cx p s m args meth c D z RL cL_law 9 (some .boolean)) (C : LC s z b L xs) (hi : i + 6 ≤ L) (hk : k + 100 ≤ 601024) (hn : n + 10000 ≤ 7293034) (hr : RR X M) (h : ∀ X' M' o', RR X' M' → J p l e room_1 s m args below meth c D z (GG D z (X', (2, M', o'))) (k + 100) (n + 10000) Q 9 3238 (lsL b z i) []) : J p l e room_1 s m args below meth c D z (GG D z (X, (2, M, o))) k n Q 9 3013 (lsL b z i) [] := by
  rcases u_save hr (xs (i + 1)) with ⟨r, X', M', a1, a2, a3, a4⟩ | ⟨e, k', r, hm, a1, a2⟩
  · exact lb_save E C hi hk hn (by decide) (by decide) (by decide) (by decide) (w_save (f1 := 0) a1) (c_X12_save (f1 := 1) a2) (by unfold f_X12_thrown; rw [a4]) (fun _ => rfl) (h X' M' _ a3)
  · simp only [List.mem_cons, List.not_mem_nil, or_false, Prod.mk.injEq] at hm
    obtain ⟨rfl, rfl⟩ := hm
    exact lb_save E C hi hk hn (by decide) (by decide) (by decide) (by decide) (wx_save_2 (f1 := 0) hl a1) (c_X12_save (f1 := 1) a2) (by unfold f_X12_thrown; rw [mi00]) (fun q => absurd q (by decide)) (h X _ _ (hr.thr 1))
set_option maxRecDepth 20000 in
theorem lb_restore {p : Program} {l : Launch} {e : Env} {s : State} {m : MethodId} {args : Array Value} {below : List Frame} {meth : Method} {c : Code} {D : DD} {z : Nat} {k n : Nat} {Q : State → Prop} {b L i : Nat} {xs : Nat → Int32} {X : XT} {M : MT} {o : Int64} (E : Cx p s m args meth c D z RL cL_law 9 (some .boolean)) (C : LC s z b L xs) (hi : i + 6 ≤ L) (hk : k + 100 ≤ 601024) (hn : n + 10000 ≤ 7293034) {d q1 q2 : Nat} {kk r : Int32} {o' : Int64} {X' : XT} {M' : MT} (hrw : d + 1 ≤ 2048) (hrl : d ≤ 1000) (hrc : q1 ≤ 64) (hrs : q2 ≤ 8000) (hW : CW l yL_restore cL_restore 4 (some .int) [(0, 9, 12, 28), (0, 9, 15, 13)] (rmk d q1 q2) D z [.ref (z + aX 0 0 0), .int (xs (i + 1)), .ref (z + 537)] (GG D z (X, (2, M, o))) (some (.int kk)) (GG D z (X', (2, M, o')))) (hM : CC l yX12_restore cX12_restore 4 (some .int) (rmk 3 0 0) D z [.ref (z + aM 0), .int (xs (i + 1))] (GG D z (X', (2, M, o'))) (some (.int r)) (GG D z (X', (2, M', o')))) (hT : f_X12_thrown M' = some kk) (hres : kk = 0 → o' = r.toInt64) (h : J p l e room_1 s m args below meth c D z (GG D z (X', (2, M', o'))) (k + 100) (n + 10000) Q 9 3238 (lsL b z i) []) : J p l e room_1 s m args below meth c D z (GG D z (X, (2, M, o))) k n Q 9 3069 (lsL b z i) [] := by
  refine j_aload_n E 3 rfl dL_law_3069 ?_
  refine j_aload_n E 4 rfl dL_law_3070 ?_
  refine j_iload E 0 rfl dL_law_3071 ?_
  refine j_iconst E (nI 1) rfl dL_law_3073 ?_
  refine j_iadd E dL_law_3074 ?_
  refine j_name (nI_add i 1).symm ?_
  refine j_sld E C (by omega) dL_law_3075 ?_
  refine j_aload_n E 1 rfl dL_law_3076 ?_
  refine j_invW (n0 := 3) [] [.int kk] E hW ml_L_365 st_L_restore in_L cd_L_restore rfl (by decide +kernel) rfl ⟨hrw, by show 8 + (_ + 11) + 64 * d ≤ 84000; omega⟩ rfl rfl (le_ rfl) ⟨by show k + q1 ≤ 601024; omega, by show n + q2 ≤ 7293034; omega⟩ dL_law_3077 ?_
  refine j_istore (ls' := (5, .int kk) :: lsL b z i) E (lt_ rfl) rfl dL_law_3080 ?_
  refine j_aload_n E 3 rfl dL_law_3082 ?_
  refine j_aload_n E 5 rfl dL_law_3083 ?_
  refine j_iload E 1 rfl dL_law_3084 ?_
  refine j_iconst E (nI 1) rfl dL_law_3086 ?_
  refine j_iadd E dL_law_3087 ?_
  refine j_name (nI_add i 1).symm ?_
  refine j_sld E C (by omega) dL_law_3088 ?_
  refine j_invV [] [.int r] E hM ml_L_367 mv_X12_restore rfl ⟨le_ rfl, le_ rfl⟩ (rcM (f1 := 1) cf_X12) rfl rfl (le_ rfl) ⟨by show k + q1 + 0 ≤ 601024; omega, by show n + q2 + 0 ≤ 7293034; omega⟩ dL_law_3089 ?_
  refine j_istore (ls' := (6, .int r) :: (5, .int kk) :: lsL b z i) E (lt_ rfl) rfl dL_law_3092 ?_
  refine j_aload_n E 4 rfl dL_law_3094 ?_
  refine j_invV [] [.int kk] E (c_X12_thrown (f1 := 1) hT) ml_L_159 mv_X12_thrown rfl ⟨le_ rfl, le_ rfl⟩ (rcM (f1 := 1) cf_X12) rfl rfl (le_ rfl) ⟨by show k + q1 + 0 + 0 ≤ 601024; omega, by show n + q2 + 0 + 0 ≤ 7293034; omega⟩ dL_law_3095 ?_
  refine j_iload E 1 rfl dL_law_3098 ?_
  refine j_icmp_eq E 3105 (by decide) dL_law_3100 (fun _ => ?_) (fun q => absurd rfl q)
  have fin : J p l e room_1 s m args below meth c D z (GG D z (X', (2, M', o'))) (k + 100) (n + 10000) Q 9 3238 ((6, .int r) :: (5, .int kk) :: lsL b z i) [] := j_sub (ls' := lsL b z i) [2, 3, 4, 5, 6] rfl h
  refine j_iload E 1 rfl dL_law_3105 ?_
  refine j_if_ne E 3122 (by decide) dL_law_3107 (fun _ => ?_) (fun q0 => ?_)
  · refine j_goto E 3238 (by decide) dL_law_3122 ?_
    exact j_widen (by show k + q1 + 0 + 0 ≤ k + 100; omega) (by show n + q2 + 0 + 0 ≤ n + 10000; omega) fin
  · refine j_aload_n E 3 rfl dL_law_3110 ?_
    refine j_iconst E 0 ic_0 dL_law_3111 ?_
    refine j_laldO (f1 := 0) E dL_law_3112 ?_
    refine j_iload E 0 rfl dL_law_3113 ?_
    refine j_i2l E dL_law_3115 ?_
    refine j_lcmp E dL_law_3116 ?_
    refine j_if_eq E 3122 (by decide) dL_law_3117 (fun _ => ?_) (fun q => absurd ((cmp_eq _ _).mpr (hres q0)) q)
    refine j_goto E 3238 (by decide) dL_law_3122 ?_
    exact j_widen (by show k + q1 + 0 + 0 ≤ k + 100; omega) (by show n + q2 + 0 + 0 ≤ n + 10000; omega) fin
set_option maxRecDepth 20000 in
theorem la_restore {p : Program} {l : Launch} {e : Env} {s : State} {m : MethodId} {args : Array Value} {below : List Frame} {meth : Method} {c : Code} {D : DD} {z : Nat} {k n : Nat} {Q : State → Prop} {b L i : Nat} {xs : Nat → Int32} {X : XT} {M : MT} {o : Int64} (hl : l.stackTraces = false) (E : Cx p s m args meth c D z RL cL_law 9 (some .boolean)) (C : LC s z b L xs) (hi : i + 6 ≤ L) (hk : k + 100 ≤ 601024) (hn : n + 10000 ≤ 7293034) (hr : RR X M) (h : ∀ X' M' o', RR X' M' → J p l e room_1 s m args below meth c D z (GG D z (X', (2, M', o'))) (k + 100) (n + 10000) Q 9 3238 (lsL b z i) []) : J p l e room_1 s m args below meth c D z (GG D z (X, (2, M, o))) k n Q 9 3069 (lsL b z i) [] := by
  rcases u_restore hr (xs (i + 1)) with ⟨r, X', M', a1, a2, a3, a4⟩ | ⟨e, k', r, hm, a1, a2⟩
  · exact lb_restore E C hi hk hn (by decide) (by decide) (by decide) (by decide) (w_restore (f1 := 0) a1) (c_X12_restore (f1 := 1) a2) (by unfold f_X12_thrown; rw [a4]) (fun _ => rfl) (h X' M' _ a3)
  · simp only [List.mem_cons, List.not_mem_nil, or_false, Prod.mk.injEq] at hm
    rcases hm with ⟨rfl, rfl⟩ | ⟨rfl, rfl⟩
    · exact lb_restore E C hi hk hn (by decide) (by decide) (by decide) (by decide) (wx_restore_2 (f1 := 0) hl a1) (c_X12_restore (f1 := 1) a2) (by unfold f_X12_thrown; rw [mi00]) (fun q => absurd q (by decide)) (h X _ _ (hr.thr 1))
    · exact lb_restore E C hi hk hn (by decide) (by decide) (by decide) (by decide) (wx_restore_0 (f1 := 0) hl a1) (c_X12_restore (f1 := 1) a2) (by unfold f_X12_thrown; rw [mi00]) (fun q => absurd q (by decide)) (h X _ _ (hr.thr 2))
set_option maxRecDepth 20000 in
theorem lb_undo {p : Program} {l : Launch} {e : Env} {s : State} {m : MethodId} {args : Array Value} {below : List Frame} {meth : Method} {c : Code} {D : DD} {z : Nat} {k n : Nat} {Q : State → Prop} {b L i : Nat} {xs : Nat → Int32} {X : XT} {M : MT} {o : Int64} (E : Cx p s m args meth c D z RL cL_law 9 (some .boolean)) (C : LC s z b L xs) (hi : i + 6 ≤ L) (hk : k + 100 ≤ 601024) (hn : n + 10000 ≤ 7293034) {d q1 q2 : Nat} {kk r : Int32} {o' : Int64} {X' : XT} {M' : MT} (hrw : d + 1 ≤ 2048) (hrl : d ≤ 1000) (hrc : q1 ≤ 64) (hrs : q2 ≤ 8000) (hW : CW l yL_undo cL_undo 3 (some .int) [(0, 8, 11, 13)] (rmk d q1 q2) D z [.ref (z + aX 0 0 0), .ref (z + 537)] (GG D z (X, (2, M, o))) (some (.int kk)) (GG D z (X', (2, M, o')))) (hM : CC l yX12_undo cX12_undo 2 (some .int) (rmk 3 0 0) D z [.ref (z + aM 0)] (GG D z (X', (2, M, o'))) (some (.int r)) (GG D z (X', (2, M', o')))) (hT : f_X12_thrown M' = some kk) (hres : kk = 0 → o' = r.toInt64) (h : J p l e room_1 s m args below meth c D z (GG D z (X', (2, M', o'))) (k + 100) (n + 10000) Q 9 3238 (lsL b z i) []) : J p l e room_1 s m args below meth c D z (GG D z (X, (2, M, o))) k n Q 9 3125 (lsL b z i) [] := by
  refine j_aload_n E 3 rfl dL_law_3125 ?_
  refine j_aload_n E 1 rfl dL_law_3126 ?_
  refine j_invW (n0 := 2) [] [.int kk] E hW ml_L_368 st_L_undo in_L cd_L_undo rfl (by decide +kernel) rfl ⟨hrw, by show 8 + (_ + 11) + 64 * d ≤ 84000; omega⟩ rfl rfl (le_ rfl) ⟨by show k + q1 ≤ 601024; omega, by show n + q2 ≤ 7293034; omega⟩ dL_law_3127 ?_
  refine j_istore (ls' := (5, .int kk) :: lsL b z i) E (lt_ rfl) rfl dL_law_3130 ?_
  refine j_aload_n E 3 rfl dL_law_3132 ?_
  refine j_invV [] [.int r] E hM ml_L_371 mv_X12_undo rfl ⟨le_ rfl, le_ rfl⟩ (rcM (f1 := 1) cf_X12) rfl rfl (le_ rfl) ⟨by show k + q1 + 0 ≤ 601024; omega, by show n + q2 + 0 ≤ 7293034; omega⟩ dL_law_3133 ?_
  refine j_istore (ls' := (6, .int r) :: (5, .int kk) :: lsL b z i) E (lt_ rfl) rfl dL_law_3136 ?_
  refine j_aload_n E 4 rfl dL_law_3138 ?_
  refine j_invV [] [.int kk] E (c_X12_thrown (f1 := 1) hT) ml_L_159 mv_X12_thrown rfl ⟨le_ rfl, le_ rfl⟩ (rcM (f1 := 1) cf_X12) rfl rfl (le_ rfl) ⟨by show k + q1 + 0 + 0 ≤ 601024; omega, by show n + q2 + 0 + 0 ≤ 7293034; omega⟩ dL_law_3139 ?_
  refine j_iload E 1 rfl dL_law_3142 ?_
  refine j_icmp_eq E 3149 (by decide) dL_law_3144 (fun _ => ?_) (fun q => absurd rfl q)
  have fin : J p l e room_1 s m args below meth c D z (GG D z (X', (2, M', o'))) (k + 100) (n + 10000) Q 9 3238 ((6, .int r) :: (5, .int kk) :: lsL b z i) [] := j_sub (ls' := lsL b z i) [2, 3, 4, 5, 6] rfl h
  refine j_iload E 1 rfl dL_law_3149 ?_
  refine j_if_ne E 3166 (by decide) dL_law_3151 (fun _ => ?_) (fun q0 => ?_)
  · refine j_goto E 3238 (by decide) dL_law_3166 ?_
    exact j_widen (by show k + q1 + 0 + 0 ≤ k + 100; omega) (by show n + q2 + 0 + 0 ≤ n + 10000; omega) fin
  · refine j_aload_n E 3 rfl dL_law_3154 ?_
    refine j_iconst E 0 ic_0 dL_law_3155 ?_
    refine j_laldO (f1 := 0) E dL_law_3156 ?_
    refine j_iload E 0 rfl dL_law_3157 ?_
    refine j_i2l E dL_law_3159 ?_
    refine j_lcmp E dL_law_3160 ?_
    refine j_if_eq E 3166 (by decide) dL_law_3161 (fun _ => ?_) (fun q => absurd ((cmp_eq _ _).mpr (hres q0)) q)
    refine j_goto E 3238 (by decide) dL_law_3166 ?_
    exact j_widen (by show k + q1 + 0 + 0 ≤ k + 100; omega) (by show n + q2 + 0 + 0 ≤ n + 10000; omega) fin
set_option maxRecDepth 20000 in
theorem la_undo {p : Program} {l : Launch} {e : Env} {s : State} {m : MethodId} {args : Array Value} {below : List Frame} {meth : Method} {c : Code} {D : DD} {z : Nat} {k n : Nat} {Q : State → Prop} {b L i : Nat} {xs : Nat → Int32} {X : XT} {M : MT} {o : Int64} (hl : l.stackTraces = false) (E : Cx p s m args meth c D z RL cL_law 9 (some .boolean)) (C : LC s z b L xs) (hi : i + 6 ≤ L) (hk : k + 100 ≤ 601024) (hn : n + 10000 ≤ 7293034) (hr : RR X M) (h : ∀ X' M' o', RR X' M' → J p l e room_1 s m args below meth c D z (GG D z (X', (2, M', o'))) (k + 100) (n + 10000) Q 9 3238 (lsL b z i) []) : J p l e room_1 s m args below meth c D z (GG D z (X, (2, M, o))) k n Q 9 3125 (lsL b z i) [] := by
  rcases u_undo hr with ⟨r, X', M', a1, a2, a3, a4⟩ | ⟨e, k', r, hm, a1, a2⟩
  · exact lb_undo E C hi hk hn (by decide) (by decide) (by decide) (by decide) (w_undo (f1 := 0) a1) (c_X12_undo (f1 := 1) a2) (by unfold f_X12_thrown; rw [a4]) (fun _ => rfl) (h X' M' _ a3)
  · simp only [List.mem_cons, List.not_mem_nil, or_false, Prod.mk.injEq] at hm
    obtain ⟨rfl, rfl⟩ := hm
    exact lb_undo E C hi hk hn (by decide) (by decide) (by decide) (by decide) (wx_undo_0 (f1 := 0) hl a1) (c_X12_undo (f1 := 1) a2) (by unfold f_X12_thrown; rw [mi00]) (fun q => absurd q (by decide)) (h X _ _ (hr.thr 1))
set_option maxRecDepth 20000 in
theorem lb_printTanks {p : Program} {l : Launch} {e : Env} {s : State} {m : MethodId} {args : Array Value} {below : List Frame} {meth : Method} {c : Code} {D : DD} {z : Nat} {k n : Nat} {Q : State → Prop} {b L i : Nat} {xs : Nat → Int32} {X : XT} {M : MT} {o : Int64} (E : Cx p s m args meth c D z RL cL_law 9 (some .boolean)) (C : LC s z b L xs) (hi : i + 6 ≤ L) (hk : k + 100 ≤ 601024) (hn : n + 10000 ≤ 7293034) {r : Int32} {X' : XT} {M' : MT} (hx : f_X11_printTanks X = some (r, X')) (hm : f_X12_printTanks M = some (r, M')) (h : J p l e room_1 s m args below meth c D z (GG D z (X', (2, M', o))) (k + 100) (n + 10000) Q 9 3238 (lsL b z i) []) : J p l e room_1 s m args below meth c D z (GG D z (X, (2, M, o))) k n Q 9 3169 (lsL b z i) [] := by
  refine j_aload_n E 3 rfl dL_law_3169 ?_
  refine j_invV [] [.int r] E (c_X11_printTanks hx) ml_L_372 mv_X11_printTanks rfl ⟨le_ rfl, le_ rfl⟩ (rcX ok0 cf_X11 ent0) rfl rfl (le_ rfl) ⟨by show k + 64 ≤ 601024; omega, by show n + 8000 ≤ 7293034; omega⟩ dL_law_3170 ?_
  refine j_aload_n E 2 rfl dL_law_3173 ?_
  refine j_invV [.int r] [.int r, .int r] E (c_X12_printTanks (f1 := 1) hm) ml_L_375 mv_X12_printTanks rfl ⟨le_ rfl, le_ rfl⟩ (rcM (f1 := 1) cf_X12) rfl rfl (le_ rfl) ⟨by show k + 64 + 0 ≤ 601024; omega, by show n + 8000 + 0 ≤ 7293034; omega⟩ dL_law_3174 ?_
  refine j_icmp_eq E 3238 (by decide) dL_law_3177 (fun _ => ?_) (fun q => absurd rfl q)
  exact j_widen (by show k + 64 + 0 ≤ k + 100; omega) (by show n + 8000 + 0 ≤ n + 10000; omega) h
set_option maxRecDepth 20000 in
theorem la_printTanks {p : Program} {l : Launch} {e : Env} {s : State} {m : MethodId} {args : Array Value} {below : List Frame} {meth : Method} {c : Code} {D : DD} {z : Nat} {k n : Nat} {Q : State → Prop} {b L i : Nat} {xs : Nat → Int32} {X : XT} {M : MT} {o : Int64} (hl : l.stackTraces = false) (E : Cx p s m args meth c D z RL cL_law 9 (some .boolean)) (C : LC s z b L xs) (hi : i + 6 ≤ L) (hk : k + 100 ≤ 601024) (hn : n + 10000 ≤ 7293034) (hr : RR X M) (h : ∀ X' M' o', RR X' M' → J p l e room_1 s m args below meth c D z (GG D z (X', (2, M', o'))) (k + 100) (n + 10000) Q 9 3238 (lsL b z i) []) : J p l e room_1 s m args below meth c D z (GG D z (X, (2, M, o))) k n Q 9 3169 (lsL b z i) [] := by
  rcases u_printTanks hr none with ⟨r, X', M', a1, a2, a3, -⟩ | ⟨e, k', r, hm, -⟩
  · exact lb_printTanks E C hi hk hn a1 a2 (h X' M' o a3)
  · exact absurd hm List.not_mem_nil
set_option maxRecDepth 20000 in
theorem lb_outputByte {p : Program} {l : Launch} {e : Env} {s : State} {m : MethodId} {args : Array Value} {below : List Frame} {meth : Method} {c : Code} {D : DD} {z : Nat} {k n : Nat} {Q : State → Prop} {b L i : Nat} {xs : Nat → Int32} {X : XT} {M : MT} {o : Int64} (E : Cx p s m args meth c D z RL cL_law 9 (some .boolean)) (C : LC s z b L xs) (hi : i + 6 ≤ L) (hk : k + 100 ≤ 601024) (hn : n + 10000 ≤ 7293034) {d q1 q2 : Nat} {kk r : Int32} {o' : Int64} {X' : XT} {M' : MT} (hrw : d + 1 ≤ 2048) (hrl : d ≤ 1000) (hrc : q1 ≤ 64) (hrs : q2 ≤ 8000) (hW : CW l yL_outputByte cL_outputByte 4 (some .int) [(0, 9, 12, 36)] (rmk d q1 q2) D z [.ref (z + aX 0 0 0), .int (xs (i + 1)), .ref (z + 537)] (GG D z (X, (2, M, o))) (some (.int kk)) (GG D z (X', (2, M, o')))) (hM : CC l yX12_outputByte cX12_outputByte 2 (some .int) (rmk 3 0 0) D z [.ref (z + aM 0), .int (xs (i + 1))] (GG D z (X', (2, M, o'))) (some (.int r)) (GG D z (X', (2, M', o')))) (hT : f_X12_thrown M' = some kk) (hres : kk = 0 → o' = r.toInt64) (h : J p l e room_1 s m args below meth c D z (GG D z (X', (2, M', o'))) (k + 100) (n + 10000) Q 9 3238 (lsL b z i) []) : J p l e room_1 s m args below meth c D z (GG D z (X, (2, M, o))) k n Q 9 3182 (lsL b z i) [] := by
  refine j_aload_n E 3 rfl dL_law_3182 ?_
  refine j_aload_n E 4 rfl dL_law_3183 ?_
  refine j_iload E 0 rfl dL_law_3184 ?_
  refine j_iconst E (nI 1) rfl dL_law_3186 ?_
  refine j_iadd E dL_law_3187 ?_
  refine j_name (nI_add i 1).symm ?_
  refine j_sld E C (by omega) dL_law_3188 ?_
  refine j_aload_n E 1 rfl dL_law_3189 ?_
  refine j_invW (n0 := 3) [] [.int kk] E hW ml_L_376 st_L_outputByte in_L cd_L_outputByte rfl (by decide +kernel) rfl ⟨hrw, by show 8 + (_ + 11) + 64 * d ≤ 84000; omega⟩ rfl rfl (le_ rfl) ⟨by show k + q1 ≤ 601024; omega, by show n + q2 ≤ 7293034; omega⟩ dL_law_3190 ?_
  refine j_istore (ls' := (5, .int kk) :: lsL b z i) E (lt_ rfl) rfl dL_law_3193 ?_
  refine j_aload_n E 3 rfl dL_law_3195 ?_
  refine j_aload_n E 5 rfl dL_law_3196 ?_
  refine j_iload E 1 rfl dL_law_3197 ?_
  refine j_iconst E (nI 1) rfl dL_law_3199 ?_
  refine j_iadd E dL_law_3200 ?_
  refine j_name (nI_add i 1).symm ?_
  refine j_sld E C (by omega) dL_law_3201 ?_
  refine j_invV [] [.int r] E hM ml_L_378 mv_X12_outputByte rfl ⟨le_ rfl, le_ rfl⟩ (rcM (f1 := 1) cf_X12) rfl rfl (le_ rfl) ⟨by show k + q1 + 0 ≤ 601024; omega, by show n + q2 + 0 ≤ 7293034; omega⟩ dL_law_3202 ?_
  refine j_istore (ls' := (6, .int r) :: (5, .int kk) :: lsL b z i) E (lt_ rfl) rfl dL_law_3205 ?_
  refine j_aload_n E 4 rfl dL_law_3207 ?_
  refine j_invV [] [.int kk] E (c_X12_thrown (f1 := 1) hT) ml_L_159 mv_X12_thrown rfl ⟨le_ rfl, le_ rfl⟩ (rcM (f1 := 1) cf_X12) rfl rfl (le_ rfl) ⟨by show k + q1 + 0 + 0 ≤ 601024; omega, by show n + q2 + 0 + 0 ≤ 7293034; omega⟩ dL_law_3208 ?_
  refine j_iload E 1 rfl dL_law_3211 ?_
  refine j_icmp_eq E 3218 (by decide) dL_law_3213 (fun _ => ?_) (fun q => absurd rfl q)
  have fin : J p l e room_1 s m args below meth c D z (GG D z (X', (2, M', o'))) (k + 100) (n + 10000) Q 9 3238 ((6, .int r) :: (5, .int kk) :: lsL b z i) [] := j_sub (ls' := lsL b z i) [2, 3, 4, 5, 6] rfl h
  refine j_iload E 1 rfl dL_law_3218 ?_
  refine j_if_ne E 3235 (by decide) dL_law_3220 (fun _ => ?_) (fun q0 => ?_)
  · refine j_goto E 3238 (by decide) dL_law_3235 ?_
    exact j_widen (by show k + q1 + 0 + 0 ≤ k + 100; omega) (by show n + q2 + 0 + 0 ≤ n + 10000; omega) fin
  · refine j_aload_n E 3 rfl dL_law_3223 ?_
    refine j_iconst E 0 ic_0 dL_law_3224 ?_
    refine j_laldO (f1 := 0) E dL_law_3225 ?_
    refine j_iload E 0 rfl dL_law_3226 ?_
    refine j_i2l E dL_law_3228 ?_
    refine j_lcmp E dL_law_3229 ?_
    refine j_if_eq E 3235 (by decide) dL_law_3230 (fun _ => ?_) (fun q => absurd ((cmp_eq _ _).mpr (hres q0)) q)
    refine j_goto E 3238 (by decide) dL_law_3235 ?_
    exact j_widen (by show k + q1 + 0 + 0 ≤ k + 100; omega) (by show n + q2 + 0 + 0 ≤ n + 10000; omega) fin
set_option maxRecDepth 20000 in
theorem la_outputByte {p : Program} {l : Launch} {e : Env} {s : State} {m : MethodId} {args : Array Value} {below : List Frame} {meth : Method} {c : Code} {D : DD} {z : Nat} {k n : Nat} {Q : State → Prop} {b L i : Nat} {xs : Nat → Int32} {X : XT} {M : MT} {o : Int64} (hl : l.stackTraces = false) (E : Cx p s m args meth c D z RL cL_law 9 (some .boolean)) (C : LC s z b L xs) (hi : i + 6 ≤ L) (hk : k + 100 ≤ 601024) (hn : n + 10000 ≤ 7293034) (hr : RR X M) (h : ∀ X' M' o', RR X' M' → J p l e room_1 s m args below meth c D z (GG D z (X', (2, M', o'))) (k + 100) (n + 10000) Q 9 3238 (lsL b z i) []) : J p l e room_1 s m args below meth c D z (GG D z (X, (2, M, o))) k n Q 9 3182 (lsL b z i) [] := by
  rcases s_outputByte hr (xs (i + 1)) with ⟨r, a1, a2⟩ | ⟨e, k', r, hm, a1, a2⟩
  · exact lb_outputByte E C hi hk hn (by decide) (by decide) (by decide) (by decide) (w_outputByte (f1 := 0) a1) (c_X12_outputByte (f1 := 1) a2) (by unfold f_X12_thrown; rw [mi00]) (fun _ => rfl) (h X _ _ (hr.thr 0))
  · simp only [List.mem_cons, List.not_mem_nil, or_false, Prod.mk.injEq] at hm
    obtain ⟨rfl, rfl⟩ := hm
    exact lb_outputByte E C hi hk hn (by decide) (by decide) (by decide) (by decide) (wx_outputByte_3 (f1 := 0) hl a1) (c_X12_outputByte (f1 := 1) a2) (by unfold f_X12_thrown; rw [mi00]) (fun q => absurd q (by decide)) (h X _ _ (hr.thr 1))
