/-! THE LAW: its cases, 0 -/
set_option maxRecDepth 20000 in
theorem lb_append {p : Program} {l : Launch} {e : Env} {s : State} {m : MethodId} {args : Array Value} {below : List Frame} {meth : Method} {c : Code} {D : DD} {z : Nat} {k n : Nat} {Q : State → Prop} {b L i : Nat} {xs : Nat → Int32} {X : XT} {M : MT} {o : Int64} (E : Cx p s m args meth c D z RL cL_law 9 (some .boolean)) (C : LC s z b L xs) (hi : i + 6 ≤ L) (hk : k + 100 ≤ 601024) (hn : n + 10000 ≤ 7293034) {d q1 q2 : Nat} {kk r : Int32} {o' : Int64} {X' : XT} {M' : MT} (hrw : d + 1 ≤ 2048) (hrl : d ≤ 1000) (hrc : q1 ≤ 64) (hrs : q2 ≤ 8000) (hW : CW l yL_append cL_append 8 (some .int) [(0, 16, 19, 13)] (rmk d q1 q2) D z [.ref (z + aX 0 0 0), .int (xs (i + 1)), .int (xs (i + 2)), .int (xs (i + 3)), .int (xs (i + 4)), .int (xs (i + 5)), .ref (z + 537)] (GG D z (X, (2, M, o))) (some (.int kk)) (GG D z (X', (2, M, o')))) (hM : CC l yX12_append cX12_append 6 (some .int) (rmk 3 0 0) D z [.ref (z + aM 0), .int (xs (i + 1)), .int (xs (i + 2)), .int (xs (i + 3)), .int (xs (i + 4)), .int (xs (i + 5))] (GG D z (X', (2, M, o'))) (some (.int r)) (GG D z (X', (2, M', o')))) (hT : f_X12_thrown M' = some kk) (hres : kk = 0 → o' = r.toInt64) (h : J p l e room_1 s m args below meth c D z (GG D z (X', (2, M', o'))) (k + 100) (n + 10000) Q 9 3238 (lsL b z i) []) : J p l e room_1 s m args below meth c D z (GG D z (X, (2, M, o))) k n Q 9 312 (lsL b z i) [] := by
  refine j_aload_n E 3 rfl dL_law_312 ?_
  refine j_aload_n E 4 rfl dL_law_313 ?_
  refine j_iload E 0 rfl dL_law_314 ?_
  refine j_iconst E (nI 1) rfl dL_law_316 ?_
  refine j_iadd E dL_law_317 ?_
  refine j_name (nI_add i 1).symm ?_
  refine j_sld E C (by omega) dL_law_318 ?_
  refine j_aload_n E 4 rfl dL_law_319 ?_
  refine j_iload E 0 rfl dL_law_320 ?_
  refine j_iconst E (nI 2) rfl dL_law_322 ?_
  refine j_iadd E dL_law_323 ?_
  refine j_name (nI_add i 2).symm ?_
  refine j_sld E C (by omega) dL_law_324 ?_
  refine j_aload_n E 4 rfl dL_law_325 ?_
  refine j_iload E 0 rfl dL_law_326 ?_
  refine j_iconst E (nI 3) rfl dL_law_328 ?_
  refine j_iadd E dL_law_329 ?_
  refine j_name (nI_add i 3).symm ?_
  refine j_sld E C (by omega) dL_law_330 ?_
  refine j_aload_n E 4 rfl dL_law_331 ?_
  refine j_iload E 0 rfl dL_law_332 ?_
  refine j_iconst E (nI 4) rfl dL_law_334 ?_
  refine j_iadd E dL_law_335 ?_
  refine j_name (nI_add i 4).symm ?_
  refine j_sld E C (by omega) dL_law_336 ?_
  refine j_aload_n E 4 rfl dL_law_337 ?_
  refine j_iload E 0 rfl dL_law_338 ?_
  refine j_iconst E (nI 5) rfl dL_law_340 ?_
  refine j_iadd E dL_law_341 ?_
  refine j_name (nI_add i 5).symm ?_
  refine j_sld E C (by omega) dL_law_342 ?_
  refine j_aload_n E 1 rfl dL_law_343 ?_
  refine j_invW (n0 := 7) [] [.int kk] E hW ml_L_153 st_L_append in_L cd_L_append rfl (by decide +kernel) rfl ⟨hrw, by show 8 + (_ + 11) + 64 * d ≤ 84000; omega⟩ rfl rfl (le_ rfl) ⟨by show k + q1 ≤ 601024; omega, by show n + q2 ≤ 7293034; omega⟩ dL_law_344 ?_
  refine j_istore (ls' := (5, .int kk) :: lsL b z i) E (lt_ rfl) rfl dL_law_347 ?_
  refine j_aload_n E 3 rfl dL_law_349 ?_
  refine j_aload_n E 5 rfl dL_law_350 ?_
  refine j_iload E 1 rfl dL_law_351 ?_
  refine j_iconst E (nI 1) rfl dL_law_353 ?_
  refine j_iadd E dL_law_354 ?_
  refine j_name (nI_add i 1).symm ?_
  refine j_sld E C (by omega) dL_law_355 ?_
  refine j_aload_n E 5 rfl dL_law_356 ?_
  refine j_iload E 1 rfl dL_law_357 ?_
  refine j_iconst E (nI 2) rfl dL_law_359 ?_
  refine j_iadd E dL_law_360 ?_
  refine j_name (nI_add i 2).symm ?_
  refine j_sld E C (by omega) dL_law_361 ?_
  refine j_aload_n E 5 rfl dL_law_362 ?_
  refine j_iload E 1 rfl dL_law_363 ?_
  refine j_iconst E (nI 3) rfl dL_law_365 ?_
  refine j_iadd E dL_law_366 ?_
  refine j_name (nI_add i 3).symm ?_
  refine j_sld E C (by omega) dL_law_367 ?_
  refine j_aload_n E 5 rfl dL_law_368 ?_
  refine j_iload E 1 rfl dL_law_369 ?_
  refine j_iconst E (nI 4) rfl dL_law_371 ?_
  refine j_iadd E dL_law_372 ?_
  refine j_name (nI_add i 4).symm ?_
  refine j_sld E C (by omega) dL_law_373 ?_
  refine j_aload_n E 5 rfl dL_law_374 ?_
  refine j_iload E 1 rfl dL_law_375 ?_
  refine j_iconst E (nI 5) rfl dL_law_377 ?_
  refine j_iadd E dL_law_378 ?_
  refine j_name (nI_add i 5).symm ?_
  refine j_sld E C (by omega) dL_law_379 ?_
  refine j_invV [] [.int r] E hM ml_L_158 mv_X12_append rfl ⟨le_ rfl, le_ rfl⟩ (rcM (f1 := 1) cf_X12) rfl rfl (le_ rfl) ⟨by show k + q1 + 0 ≤ 601024; omega, by show n + q2 + 0 ≤ 7293034; omega⟩ dL_law_380 ?_
  refine j_istore (ls' := (6, .int r) :: (5, .int kk) :: lsL b z i) E (lt_ rfl) rfl dL_law_383 ?_
  refine j_aload_n E 4 rfl dL_law_385 ?_
  refine j_invV [] [.int kk] E (c_X12_thrown (f1 := 1) hT) ml_L_159 mv_X12_thrown rfl ⟨le_ rfl, le_ rfl⟩ (rcM (f1 := 1) cf_X12) rfl rfl (le_ rfl) ⟨by show k + q1 + 0 + 0 ≤ 601024; omega, by show n + q2 + 0 + 0 ≤ 7293034; omega⟩ dL_law_386 ?_
  refine j_iload E 1 rfl dL_law_389 ?_
  refine j_icmp_eq E 396 (by decide) dL_law_391 (fun _ => ?_) (fun q => absurd rfl q)
  have fin : J p l e room_1 s m args below meth c D z (GG D z (X', (2, M', o'))) (k + 100) (n + 10000) Q 9 3238 ((6, .int r) :: (5, .int kk) :: lsL b z i) [] := j_sub (ls' := lsL b z i) [2, 3, 4, 5, 6] rfl h
  refine j_iload E 1 rfl dL_law_396 ?_
  refine j_if_ne E 413 (by decide) dL_law_398 (fun _ => ?_) (fun q0 => ?_)
  · refine j_goto E 3238 (by decide) dL_law_413 ?_
    exact j_widen (by show k + q1 + 0 + 0 ≤ k + 100; omega) (by show n + q2 + 0 + 0 ≤ n + 10000; omega) fin
  · refine j_aload_n E 3 rfl dL_law_401 ?_
    refine j_iconst E 0 ic_0 dL_law_402 ?_
    refine j_laldO (f1 := 0) E dL_law_403 ?_
    refine j_iload E 0 rfl dL_law_404 ?_
    refine j_i2l E dL_law_406 ?_
    refine j_lcmp E dL_law_407 ?_
    refine j_if_eq E 413 (by decide) dL_law_408 (fun _ => ?_) (fun q => absurd ((cmp_eq _ _).mpr (hres q0)) q)
    refine j_goto E 3238 (by decide) dL_law_413 ?_
    exact j_widen (by show k + q1 + 0 + 0 ≤ k + 100; omega) (by show n + q2 + 0 + 0 ≤ n + 10000; omega) fin
set_option maxRecDepth 20000 in
theorem la_append {p : Program} {l : Launch} {e : Env} {s : State} {m : MethodId} {args : Array Value} {below : List Frame} {meth : Method} {c : Code} {D : DD} {z : Nat} {k n : Nat} {Q : State → Prop} {b L i : Nat} {xs : Nat → Int32} {X : XT} {M : MT} {o : Int64} (hl : l.stackTraces = false) (E : Cx p s m args meth c D z RL cL_law 9 (some .boolean)) (C : LC s z b L xs) (hi : i + 6 ≤ L) (hk : k + 100 ≤ 601024) (hn : n + 10000 ≤ 7293034) (hr : RR X M) (h : ∀ X' M' o', RR X' M' → J p l e room_1 s m args below meth c D z (GG D z (X', (2, M', o'))) (k + 100) (n + 10000) Q 9 3238 (lsL b z i) []) : J p l e room_1 s m args below meth c D z (GG D z (X, (2, M, o))) k n Q 9 312 (lsL b z i) [] := by
  rcases u_append hr (xs (i + 1)) (xs (i + 2)) (xs (i + 3)) (xs (i + 4)) (xs (i + 5)) with ⟨r, X', M', a1, a2, a3, a4⟩ | ⟨e, k', r, hm, a1, a2⟩
  · exact lb_append E C hi hk hn (by decide) (by decide) (by decide) (by decide) (w_append (f1 := 0) a1) (c_X12_append (f1 := 1) a2) (by unfold f_X12_thrown; rw [a4]) (fun _ => rfl) (h X' M' _ a3)
  · simp only [List.mem_cons, List.not_mem_nil, or_false, Prod.mk.injEq] at hm
    obtain ⟨rfl, rfl⟩ := hm
    exact lb_append E C hi hk hn (by decide) (by decide) (by decide) (by decide) (wx_append_0 (f1 := 0) hl a1) (c_X12_append (f1 := 1) a2) (by unfold f_X12_thrown; rw [mi00]) (fun q => absurd q (by decide)) (h X _ _ (hr.thr 1))
set_option maxRecDepth 20000 in
theorem lb_truncate {p : Program} {l : Launch} {e : Env} {s : State} {m : MethodId} {args : Array Value} {below : List Frame} {meth : Method} {c : Code} {D : DD} {z : Nat} {k n : Nat} {Q : State → Prop} {b L i : Nat} {xs : Nat → Int32} {X : XT} {M : MT} {o : Int64} (E : Cx p s m args meth c D z RL cL_law 9 (some .boolean)) (C : LC s z b L xs) (hi : i + 6 ≤ L) (hk : k + 100 ≤ 601024) (hn : n + 10000 ≤ 7293034) {d q1 q2 : Nat} {kk r : Int32} {o' : Int64} {X' : XT} {M' : MT} (hrw : d + 1 ≤ 2048) (hrl : d ≤ 1000) (hrc : q1 ≤ 64) (hrs : q2 ≤ 8000) (hW : CW l yL_truncate cL_truncate 4 (some .int) [(0, 9, 12, 19)] (rmk d q1 q2) D z [.ref (z + aX 0 0 0), .int (xs (i + 1)), .ref (z + 537)] (GG D z (X, (2, M, o))) (some (.int kk)) (GG D z (X', (2, M, o')))) (hM : CC l yX12_truncate cX12_truncate 2 (some .int) (rmk 3 0 0) D z [.ref (z + aM 0), .int (xs (i + 1))] (GG D z (X', (2, M, o'))) (some (.int r)) (GG D z (X', (2, M', o')))) (hT : f_X12_thrown M' = some kk) (hres : kk = 0 → o' = r.toInt64) (h : J p l e room_1 s m args below meth c D z (GG D z (X', (2, M', o'))) (k + 100) (n + 10000) Q 9 3238 (lsL b z i) []) : J p l e room_1 s m args below meth c D z (GG D z (X, (2, M, o))) k n Q 9 416 (lsL b z i) [] := by
  refine j_aload_n E 3 rfl dL_law_416 ?_
  refine j_aload_n E 4 rfl dL_law_417 ?_
  refine j_iload E 0 rfl dL_law_418 ?_
  refine j_iconst E (nI 1) rfl dL_law_420 ?_
  refine j_iadd E dL_law_421 ?_
  refine j_name (nI_add i 1).symm ?_
  refine j_sld E C (by omega) dL_law_422 ?_
  refine j_aload_n E 1 rfl dL_law_423 ?_
  refine j_invW (n0 := 3) [] [.int kk] E hW ml_L_162 st_L_truncate in_L cd_L_truncate rfl (by decide +kernel) rfl ⟨hrw, by show 8 + (_ + 11) + 64 * d ≤ 84000; omega⟩ rfl rfl (le_ rfl) ⟨by show k + q1 ≤ 601024; omega, by show n + q2 ≤ 7293034; omega⟩ dL_law_424 ?_
  refine j_istore (ls' := (5, .int kk) :: lsL b z i) E (lt_ rfl) rfl dL_law_427 ?_
  refine j_aload_n E 3 rfl dL_law_429 ?_
  refine j_aload_n E 5 rfl dL_law_430 ?_
  refine j_iload E 1 rfl dL_law_431 ?_
  refine j_iconst E (nI 1) rfl dL_law_433 ?_
  refine j_iadd E dL_law_434 ?_
  refine j_name (nI_add i 1).symm ?_
  refine j_sld E C (by omega) dL_law_435 ?_
  refine j_invV [] [.int r] E hM ml_L_165 mv_X12_truncate rfl ⟨le_ rfl, le_ rfl⟩ (rcM (f1 := 1) cf_X12) rfl rfl (le_ rfl) ⟨by show k + q1 + 0 ≤ 601024; omega, by show n + q2 + 0 ≤ 7293034; omega⟩ dL_law_436 ?_
  refine j_istore (ls' := (6, .int r) :: (5, .int kk) :: lsL b z i) E (lt_ rfl) rfl dL_law_439 ?_
  refine j_aload_n E 4 rfl dL_law_441 ?_
  refine j_invV [] [.int kk] E (c_X12_thrown (f1 := 1) hT) ml_L_159 mv_X12_thrown rfl ⟨le_ rfl, le_ rfl⟩ (rcM (f1 := 1) cf_X12) rfl rfl (le_ rfl) ⟨by show k + q1 + 0 + 0 ≤ 601024; omega, by show n + q2 + 0 + 0 ≤ 7293034; omega⟩ dL_law_442 ?_
  refine j_iload E 1 rfl dL_law_445 ?_
  refine j_icmp_eq E 452 (by decide) dL_law_447 (fun _ => ?_) (fun q => absurd rfl q)
  have fin : J p l e room_1 s m args below meth c D z (GG D z (X', (2, M', o'))) (k + 100) (n + 10000) Q 9 3238 ((6, .int r) :: (5, .int kk) :: lsL b z i) [] := j_sub (ls' := lsL b z i) [2, 3, 4, 5, 6] rfl h
  refine j_iload E 1 rfl dL_law_452 ?_
  refine j_if_ne E 469 (by decide) dL_law_454 (fun _ => ?_) (fun q0 => ?_)
  · refine j_goto E 3238 (by decide) dL_law_469 ?_
    exact j_widen (by show k + q1 + 0 + 0 ≤ k + 100; omega) (by show n + q2 + 0 + 0 ≤ n + 10000; omega) fin
  · refine j_aload_n E 3 rfl dL_law_457 ?_
    refine j_iconst E 0 ic_0 dL_law_458 ?_
    refine j_laldO (f1 := 0) E dL_law_459 ?_
    refine j_iload E 0 rfl dL_law_460 ?_
    refine j_i2l E dL_law_462 ?_
    refine j_lcmp E dL_law_463 ?_
    refine j_if_eq E 469 (by decide) dL_law_464 (fun _ => ?_) (fun q => absurd ((cmp_eq _ _).mpr (hres q0)) q)
    refine j_goto E 3238 (by decide) dL_law_469 ?_
    exact j_widen (by show k + q1 + 0 + 0 ≤ k + 100; omega) (by show n + q2 + 0 + 0 ≤ n + 10000; omega) fin
set_option maxRecDepth 20000 in
theorem la_truncate {p : Program} {l : Launch} {e : Env} {s : State} {m : MethodId} {args : Array Value} {below : List Frame} {meth : Method} {c : Code} {D : DD} {z : Nat} {k n : Nat} {Q : State → Prop} {b L i : Nat} {xs : Nat → Int32} {X : XT} {M : MT} {o : Int64} (hl : l.stackTraces = false) (E : Cx p s m args meth c D z RL cL_law 9 (some .boolean)) (C : LC s z b L xs) (hi : i + 6 ≤ L) (hk : k + 100 ≤ 601024) (hn : n + 10000 ≤ 7293034) (hr : RR X M) (h : ∀ X' M' o', RR X' M' → J p l e room_1 s m args below meth c D z (GG D z (X', (2, M', o'))) (k + 100) (n + 10000) Q 9 3238 (lsL b z i) []) : J p l e room_1 s m args below meth c D z (GG D z (X, (2, M, o))) k n Q 9 416 (lsL b z i) [] := by
  rcases u_truncate hr (xs (i + 1)) with ⟨r, X', M', a1, a2, a3, a4⟩ | ⟨e, k', r, hm, a1, a2⟩
  · exact lb_truncate E C hi hk hn (by decide) (by decide) (by decide) (by decide) (w_truncate (f1 := 0) a1) (c_X12_truncate (f1 := 1) a2) (by unfold f_X12_thrown; rw [a4]) (fun _ => rfl) (h X' M' _ a3)
  · simp only [List.mem_cons, List.not_mem_nil, or_false, Prod.mk.injEq] at hm
    obtain ⟨rfl, rfl⟩ := hm
    exact lb_truncate E C hi hk hn (by decide) (by decide) (by decide) (by decide) (wx_truncate_1 (f1 := 0) hl a1) (c_X12_truncate (f1 := 1) a2) (by unfold f_X12_thrown; rw [mi00]) (fun q => absurd q (by decide)) (h X _ _ (hr.thr 1))
set_option maxRecDepth 20000 in
theorem lb_load {p : Program} {l : Launch} {e : Env} {s : State} {m : MethodId} {args : Array Value} {below : List Frame} {meth : Method} {c : Code} {D : DD} {z : Nat} {k n : Nat} {Q : State → Prop} {b L i : Nat} {xs : Nat → Int32} {X : XT} {M : MT} {o : Int64} (E : Cx p s m args meth c D z RL cL_law 9 (some .boolean)) (C : LC s z b L xs) (hi : i + 6 ≤ L) (hk : k + 100 ≤ 601024) (hn : n + 10000 ≤ 7293034) {r : Int32} {X' : XT} {M' : MT} (hx : f_X11_load X = some (r, X')) (hm : f_X12_load M = some (r, M')) (h : J p l e room_1 s m args below meth c D z (GG D z (X', (2, M', o))) (k + 100) (n + 10000) Q 9 3238 (lsL b z i) []) : J p l e room_1 s m args below meth c D z (GG D z (X, (2, M, o))) k n Q 9 472 (lsL b z i) [] := by
  refine j_aload_n E 3 rfl dL_law_472 ?_
  refine j_invV [] [.int r] E (c_X11_load hx) ml_L_166 mv_X11_load rfl ⟨le_ rfl, le_ rfl⟩ (rcX ok0 cf_X11 ent0) rfl rfl (le_ rfl) ⟨by show k + 0 ≤ 601024; omega, by show n + 0 ≤ 7293034; omega⟩ dL_law_473 ?_
  refine j_aload_n E 2 rfl dL_law_476 ?_
  refine j_invV [.int r] [.int r, .int r] E (c_X12_load (f1 := 1) hm) ml_L_169 mv_X12_load rfl ⟨le_ rfl, le_ rfl⟩ (rcM (f1 := 1) cf_X12) rfl rfl (le_ rfl) ⟨by show k + 0 + 0 ≤ 601024; omega, by show n + 0 + 0 ≤ 7293034; omega⟩ dL_law_477 ?_
  refine j_icmp_eq E 3238 (by decide) dL_law_480 (fun _ => ?_) (fun q => absurd rfl q)
  exact j_widen (by show k + 0 + 0 ≤ k + 100; omega) (by show n + 0 + 0 ≤ n + 10000; omega) h
set_option maxRecDepth 20000 in
theorem la_load {p : Program} {l : Launch} {e : Env} {s : State} {m : MethodId} {args : Array Value} {below : List Frame} {meth : Method} {c : Code} {D : DD} {z : Nat} {k n : Nat} {Q : State → Prop} {b L i : Nat} {xs : Nat → Int32} {X : XT} {M : MT} {o : Int64} (hl : l.stackTraces = false) (E : Cx p s m args meth c D z RL cL_law 9 (some .boolean)) (C : LC s z b L xs) (hi : i + 6 ≤ L) (hk : k + 100 ≤ 601024) (hn : n + 10000 ≤ 7293034) (hr : RR X M) (h : ∀ X' M' o', RR X' M' → J p l e room_1 s m args below meth c D z (GG D z (X', (2, M', o'))) (k + 100) (n + 10000) Q 9 3238 (lsL b z i) []) : J p l e room_1 s m args below meth c D z (GG D z (X, (2, M, o))) k n Q 9 472 (lsL b z i) [] := by
  rcases u_load hr none with ⟨r, X', M', a1, a2, a3, -⟩ | ⟨e, k', r, hm, -⟩
  · exact lb_load E C hi hk hn a1 a2 (h X' M' o a3)
  · exact absurd hm List.not_mem_nil
set_option maxRecDepth 20000 in
theorem lb_errorCode {p : Program} {l : Launch} {e : Env} {s : State} {m : MethodId} {args : Array Value} {below : List Frame} {meth : Method} {c : Code} {D : DD} {z : Nat} {k n : Nat} {Q : State → Prop} {b L i : Nat} {xs : Nat → Int32} {X : XT} {M : MT} {o : Int64} (E : Cx p s m args meth c D z RL cL_law 9 (some .boolean)) (C : LC s z b L xs) (hi : i + 6 ≤ L) (hk : k + 100 ≤ 601024) (hn : n + 10000 ≤ 7293034) {r : Int32} {M' : MT} (hx : f_X11_errorCode X = some r) (hm : f_X12_errorCode M = some (r, M')) (h : J p l e room_1 s m args below meth c D z (GG D z (X, (2, M', o))) (k + 100) (n + 10000) Q 9 3238 (lsL b z i) []) : J p l e room_1 s m args below meth c D z (GG D z (X, (2, M, o))) k n Q 9 485 (lsL b z i) [] := by
  refine j_aload_n E 3 rfl dL_law_485 ?_
  refine j_invV [] [.int r] E (c_X11_errorCode hx) ml_L_170 mv_X11_errorCode rfl ⟨le_ rfl, le_ rfl⟩ (rcX ok0 cf_X11 ent0) rfl rfl (le_ rfl) ⟨by show k + 0 ≤ 601024; omega, by show n + 0 ≤ 7293034; omega⟩ dL_law_486 ?_
  refine j_aload_n E 2 rfl dL_law_489 ?_
  refine j_invV [.int r] [.int r, .int r] E (c_X12_errorCode (f1 := 1) hm) ml_L_173 mv_X12_errorCode rfl ⟨le_ rfl, le_ rfl⟩ (rcM (f1 := 1) cf_X12) rfl rfl (le_ rfl) ⟨by show k + 0 + 0 ≤ 601024; omega, by show n + 0 + 0 ≤ 7293034; omega⟩ dL_law_490 ?_
  refine j_icmp_eq E 3238 (by decide) dL_law_493 (fun _ => ?_) (fun q => absurd rfl q)
  exact j_widen (by show k + 0 + 0 ≤ k + 100; omega) (by show n + 0 + 0 ≤ n + 10000; omega) h
set_option maxRecDepth 20000 in
theorem la_errorCode {p : Program} {l : Launch} {e : Env} {s : State} {m : MethodId} {args : Array Value} {below : List Frame} {meth : Method} {c : Code} {D : DD} {z : Nat} {k n : Nat} {Q : State → Prop} {b L i : Nat} {xs : Nat → Int32} {X : XT} {M : MT} {o : Int64} (hl : l.stackTraces = false) (E : Cx p s m args meth c D z RL cL_law 9 (some .boolean)) (C : LC s z b L xs) (hi : i + 6 ≤ L) (hk : k + 100 ≤ 601024) (hn : n + 10000 ≤ 7293034) (hr : RR X M) (h : ∀ X' M' o', RR X' M' → J p l e room_1 s m args below meth c D z (GG D z (X', (2, M', o'))) (k + 100) (n + 10000) Q 9 3238 (lsL b z i) []) : J p l e room_1 s m args below meth c D z (GG D z (X, (2, M, o))) k n Q 9 485 (lsL b z i) [] := by
  obtain ⟨r, a1, a2⟩ := s_errorCode hr
  exact lb_errorCode E C hi hk hn a1 a2 (h X _ o (hr.thr 0))
set_option maxRecDepth 20000 in
theorem lb_errorOffset {p : Program} {l : Launch} {e : Env} {s : State} {m : MethodId} {args : Array Value} {below : List Frame} {meth : Method} {c : Code} {D : DD} {z : Nat} {k n : Nat} {Q : State → Prop} {b L i : Nat} {xs : Nat → Int32} {X : XT} {M : MT} {o : Int64} (E : Cx p s m args meth c D z RL cL_law 9 (some .boolean)) (C : LC s z b L xs) (hi : i + 6 ≤ L) (hk : k + 100 ≤ 601024) (hn : n + 10000 ≤ 7293034) {r : Int32} {M' : MT} (hx : f_X11_errorOffset X = some r) (hm : f_X12_errorOffset M = some (r, M')) (h : J p l e room_1 s m args below meth c D z (GG D z (X, (2, M', o))) (k + 100) (n + 10000) Q 9 3238 (lsL b z i) []) : J p l e room_1 s m args below meth c D z (GG D z (X, (2, M, o))) k n Q 9 498 (lsL b z i) [] := by
  refine j_aload_n E 3 rfl dL_law_498 ?_
  refine j_invV [] [.int r] E (c_X11_errorOffset hx) ml_L_174 mv_X11_errorOffset rfl ⟨le_ rfl, le_ rfl⟩ (rcX ok0 cf_X11 ent0) rfl rfl (le_ rfl) ⟨by show k + 0 ≤ 601024; omega, by show n + 0 ≤ 7293034; omega⟩ dL_law_499 ?_
  refine j_aload_n E 2 rfl dL_law_502 ?_
  refine j_invV [.int r] [.int r, .int r] E (c_X12_errorOffset (f1 := 1) hm) ml_L_177 mv_X12_errorOffset rfl ⟨le_ rfl, le_ rfl⟩ (rcM (f1 := 1) cf_X12) rfl rfl (le_ rfl) ⟨by show k + 0 + 0 ≤ 601024; omega, by show n + 0 + 0 ≤ 7293034; omega⟩ dL_law_503 ?_
  refine j_icmp_eq E 3238 (by decide) dL_law_506 (fun _ => ?_) (fun q => absurd rfl q)
  exact j_widen (by show k + 0 + 0 ≤ k + 100; omega) (by show n + 0 + 0 ≤ n + 10000; omega) h
set_option maxRecDepth 20000 in
theorem la_errorOffset {p : Program} {l : Launch} {e : Env} {s : State} {m : MethodId} {args : Array Value} {below : List Frame} {meth : Method} {c : Code} {D : DD} {z : Nat} {k n : Nat} {Q : State → Prop} {b L i : Nat} {xs : Nat → Int32} {X : XT} {M : MT} {o : Int64} (hl : l.stackTraces = false) (E : Cx p s m args meth c D z RL cL_law 9 (some .boolean)) (C : LC s z b L xs) (hi : i + 6 ≤ L) (hk : k + 100 ≤ 601024) (hn : n + 10000 ≤ 7293034) (hr : RR X M) (h : ∀ X' M' o', RR X' M' → J p l e room_1 s m args below meth c D z (GG D z (X', (2, M', o'))) (k + 100) (n + 10000) Q 9 3238 (lsL b z i) []) : J p l e room_1 s m args below meth c D z (GG D z (X, (2, M, o))) k n Q 9 498 (lsL b z i) [] := by
  obtain ⟨r, a1, a2⟩ := s_errorOffset hr
  exact lb_errorOffset E C hi hk hn a1 a2 (h X _ o (hr.thr 0))
set_option maxRecDepth 20000 in
theorem lb_varietyCount {p : Program} {l : Launch} {e : Env} {s : State} {m : MethodId} {args : Array Value} {below : List Frame} {meth : Method} {c : Code} {D : DD} {z : Nat} {k n : Nat} {Q : State → Prop} {b L i : Nat} {xs : Nat → Int32} {X : XT} {M : MT} {o : Int64} (E : Cx p s m args meth c D z RL cL_law 9 (some .boolean)) (C : LC s z b L xs) (hi : i + 6 ≤ L) (hk : k + 100 ≤ 601024) (hn : n + 10000 ≤ 7293034) {r : Int32} {M' : MT} (hx : f_X11_varietyCount X = some r) (hm : f_X12_varietyCount M = some (r, M')) (h : J p l e room_1 s m args below meth c D z (GG D z (X, (2, M', o))) (k + 100) (n + 10000) Q 9 3238 (lsL b z i) []) : J p l e room_1 s m args below meth c D z (GG D z (X, (2, M, o))) k n Q 9 511 (lsL b z i) [] := by
  refine j_aload_n E 3 rfl dL_law_511 ?_
  refine j_invV [] [.int r] E (c_X11_varietyCount hx) ml_L_178 mv_X11_varietyCount rfl ⟨le_ rfl, le_ rfl⟩ (rcX ok0 cf_X11 ent0) rfl rfl (le_ rfl) ⟨by show k + 0 ≤ 601024; omega, by show n + 0 ≤ 7293034; omega⟩ dL_law_512 ?_
  refine j_aload_n E 2 rfl dL_law_515 ?_
  refine j_invV [.int r] [.int r, .int r] E (c_X12_varietyCount (f1 := 1) hm) ml_L_181 mv_X12_varietyCount rfl ⟨le_ rfl, le_ rfl⟩ (rcM (f1 := 1) cf_X12) rfl rfl (le_ rfl) ⟨by show k + 0 + 0 ≤ 601024; omega, by show n + 0 + 0 ≤ 7293034; omega⟩ dL_law_516 ?_
  refine j_icmp_eq E 3238 (by decide) dL_law_519 (fun _ => ?_) (fun q => absurd rfl q)
  exact j_widen (by show k + 0 + 0 ≤ k + 100; omega) (by show n + 0 + 0 ≤ n + 10000; omega) h
set_option maxRecDepth 20000 in
theorem la_varietyCount {p : Program} {l : Launch} {e : Env} {s : State} {m : MethodId} {args : Array Value} {below : List Frame} {meth : Method} {c : Code} {D : DD} {z : Nat} {k n : Nat} {Q : State → Prop} {b L i : Nat} {xs : Nat → Int32} {X : XT} {M : MT} {o : Int64} (hl : l.stackTraces = false) (E : Cx p s m args meth c D z RL cL_law 9 (some .boolean)) (C : LC s z b L xs) (hi : i + 6 ≤ L) (hk : k + 100 ≤ 601024) (hn : n + 10000 ≤ 7293034) (hr : RR X M) (h : ∀ X' M' o', RR X' M' → J p l e room_1 s m args below meth c D z (GG D z (X', (2, M', o'))) (k + 100) (n + 10000) Q 9 3238 (lsL b z i) []) : J p l e room_1 s m args below meth c D z (GG D z (X, (2, M, o))) k n Q 9 511 (lsL b z i) [] := by
  obtain ⟨r, a1, a2⟩ := s_varietyCount hr
  exact lb_varietyCount E C hi hk hn a1 a2 (h X _ o (hr.thr 0))
set_option maxRecDepth 20000 in
theorem lb_classCount {p : Program} {l : Launch} {e : Env} {s : State} {m : MethodId} {args : Array Value} {below : List Frame} {meth : Method} {c : Code} {D : DD} {z : Nat} {k n : Nat} {Q : State → Prop} {b L i : Nat} {xs : Nat → Int32} {X : XT} {M : MT} {o : Int64} (E : Cx p s m args meth c D z RL cL_law 9 (some .boolean)) (C : LC s z b L xs) (hi : i + 6 ≤ L) (hk : k + 100 ≤ 601024) (hn : n + 10000 ≤ 7293034) {r : Int32} {M' : MT} (hx : f_X11_classCount X = some r) (hm : f_X12_classCount M = some (r, M')) (h : J p l e room_1 s m args below meth c D z (GG D z (X, (2, M', o))) (k + 100) (n + 10000) Q 9 3238 (lsL b z i) []) : J p l e room_1 s m args below meth c D z (GG D z (X, (2, M, o))) k n Q 9 524 (lsL b z i) [] := by
  refine j_aload_n E 3 rfl dL_law_524 ?_
  refine j_invV [] [.int r] E (c_X11_classCount hx) ml_L_182 mv_X11_classCount rfl ⟨le_ rfl, le_ rfl⟩ (rcX ok0 cf_X11 ent0) rfl rfl (le_ rfl) ⟨by show k + 0 ≤ 601024; omega, by show n + 0 ≤ 7293034; omega⟩ dL_law_525 ?_
  refine j_aload_n E 2 rfl dL_law_528 ?_
  refine j_invV [.int r] [.int r, .int r] E (c_X12_classCount (f1 := 1) hm) ml_L_185 mv_X12_classCount rfl ⟨le_ rfl, le_ rfl⟩ (rcM (f1 := 1) cf_X12) rfl rfl (le_ rfl) ⟨by show k + 0 + 0 ≤ 601024; omega, by show n + 0 + 0 ≤ 7293034; omega⟩ dL_law_529 ?_
  refine j_icmp_eq E 3238 (by decide) dL_law_532 (fun _ => ?_) (fun q => absurd rfl q)
  exact j_widen (by show k + 0 + 0 ≤ k + 100; omega) (by show n + 0 + 0 ≤ n + 10000; omega) h
set_option maxRecDepth 20000 in
theorem la_classCount {p : Program} {l : Launch} {e : Env} {s : State} {m : MethodId} {args : Array Value} {below : List Frame} {meth : Method} {c : Code} {D : DD} {z : Nat} {k n : Nat} {Q : State → Prop} {b L i : Nat} {xs : Nat → Int32} {X : XT} {M : MT} {o : Int64} (hl : l.stackTraces = false) (E : Cx p s m args meth c D z RL cL_law 9 (some .boolean)) (C : LC s z b L xs) (hi : i + 6 ≤ L) (hk : k + 100 ≤ 601024) (hn : n + 10000 ≤ 7293034) (hr : RR X M) (h : ∀ X' M' o', RR X' M' → J p l e room_1 s m args below meth c D z (GG D z (X', (2, M', o'))) (k + 100) (n + 10000) Q 9 3238 (lsL b z i) []) : J p l e room_1 s m args below meth c D z (GG D z (X, (2, M, o))) k n Q 9 524 (lsL b z i) [] := by
  obtain ⟨r, a1, a2⟩ := s_classCount hr
  exact lb_classCount E C hi hk hn a1 a2 (h X _ o (hr.thr 0))
set_option maxRecDepth 20000 in
theorem lb_growerCount {p : Program} {l : Launch} {e : Env} {s : State} {m : MethodId} {args : Array Value} {below : List Frame} {meth : Method} {c : Code} {D : DD} {z : Nat} {k n : Nat} {Q : State → Prop} {b L i : Nat} {xs : Nat → Int32} {X : XT} {M : MT} {o : Int64} (E : Cx p s m args meth c D z RL cL_law 9 (some .boolean)) (C : LC s z b L xs) (hi : i + 6 ≤ L) (hk : k + 100 ≤ 601024) (hn : n + 10000 ≤ 7293034) {r : Int32} {M' : MT} (hx : f_X11_growerCount X = some r) (hm : f_X12_growerCount M = some (r, M')) (h : J p l e room_1 s m args below meth c D z (GG D z (X, (2, M', o))) (k + 100) (n + 10000) Q 9 3238 (lsL b z i) []) : J p l e room_1 s m args below meth c D z (GG D z (X, (2, M, o))) k n Q 9 537 (lsL b z i) [] := by
  refine j_aload_n E 3 rfl dL_law_537 ?_
  refine j_invV [] [.int r] E (c_X11_growerCount hx) ml_L_186 mv_X11_growerCount rfl ⟨le_ rfl, le_ rfl⟩ (rcX ok0 cf_X11 ent0) rfl rfl (le_ rfl) ⟨by show k + 0 ≤ 601024; omega, by show n + 0 ≤ 7293034; omega⟩ dL_law_538 ?_
  refine j_aload_n E 2 rfl dL_law_541 ?_
  refine j_invV [.int r] [.int r, .int r] E (c_X12_growerCount (f1 := 1) hm) ml_L_189 mv_X12_growerCount rfl ⟨le_ rfl, le_ rfl⟩ (rcM (f1 := 1) cf_X12) rfl rfl (le_ rfl) ⟨by show k + 0 + 0 ≤ 601024; omega, by show n + 0 + 0 ≤ 7293034; omega⟩ dL_law_542 ?_
  refine j_icmp_eq E 3238 (by decide) dL_law_545 (fun _ => ?_) (fun q => absurd rfl q)
  exact j_widen (by show k + 0 + 0 ≤ k + 100; omega) (by show n + 0 + 0 ≤ n + 10000; omega) h
set_option maxRecDepth 20000 in
theorem la_growerCount {p : Program} {l : Launch} {e : Env} {s : State} {m : MethodId} {args : Array Value} {below : List Frame} {meth : Method} {c : Code} {D : DD} {z : Nat} {k n : Nat} {Q : State → Prop} {b L i : Nat} {xs : Nat → Int32} {X : XT} {M : MT} {o : Int64} (hl : l.stackTraces = false) (E : Cx p s m args meth c D z RL cL_law 9 (some .boolean)) (C : LC s z b L xs) (hi : i + 6 ≤ L) (hk : k + 100 ≤ 601024) (hn : n + 10000 ≤ 7293034) (hr : RR X M) (h : ∀ X' M' o', RR X' M' → J p l e room_1 s m args below meth c D z (GG D z (X', (2, M', o'))) (k + 100) (n + 10000) Q 9 3238 (lsL b z i) []) : J p l e room_1 s m args below meth c D z (GG D z (X, (2, M, o))) k n Q 9 537 (lsL b z i) [] := by
  obtain ⟨r, a1, a2⟩ := s_growerCount hr
  exact lb_growerCount E C hi hk hn a1 a2 (h X _ o (hr.thr 0))
set_option maxRecDepth 20000 in
theorem lb_plotCount {p : Program} {l : Launch} {e : Env} {s : State} {m : MethodId} {args : Array Value} {below : List Frame} {meth : Method} {c : Code} {D : DD} {z : Nat} {k n : Nat} {Q : State → Prop} {b L i : Nat} {xs : Nat → Int32} {X : XT} {M : MT} {o : Int64} (E : Cx p s m args meth c D z RL cL_law 9 (some .boolean)) (C : LC s z b L xs) (hi : i + 6 ≤ L) (hk : k + 100 ≤ 601024) (hn : n + 10000 ≤ 7293034) {r : Int32} {M' : MT} (hx : f_X11_plotCount X = some r) (hm : f_X12_plotCount M = some (r, M')) (h : J p l e room_1 s m args below meth c D z (GG D z (X, (2, M', o))) (k + 100) (n + 10000) Q 9 3238 (lsL b z i) []) : J p l e room_1 s m args below meth c D z (GG D z (X, (2, M, o))) k n Q 9 550 (lsL b z i) [] := by
  refine j_aload_n E 3 rfl dL_law_550 ?_
  refine j_invV [] [.int r] E (c_X11_plotCount hx) ml_L_190 mv_X11_plotCount rfl ⟨le_ rfl, le_ rfl⟩ (rcX ok0 cf_X11 ent0) rfl rfl (le_ rfl) ⟨by show k + 0 ≤ 601024; omega, by show n + 0 ≤ 7293034; omega⟩ dL_law_551 ?_
  refine j_aload_n E 2 rfl dL_law_554 ?_
  refine j_invV [.int r] [.int r, .int r] E (c_X12_plotCount (f1 := 1) hm) ml_L_193 mv_X12_plotCount rfl ⟨le_ rfl, le_ rfl⟩ (rcM (f1 := 1) cf_X12) rfl rfl (le_ rfl) ⟨by show k + 0 + 0 ≤ 601024; omega, by show n + 0 + 0 ≤ 7293034; omega⟩ dL_law_555 ?_
  refine j_icmp_eq E 3238 (by decide) dL_law_558 (fun _ => ?_) (fun q => absurd rfl q)
  exact j_widen (by show k + 0 + 0 ≤ k + 100; omega) (by show n + 0 + 0 ≤ n + 10000; omega) h
set_option maxRecDepth 20000 in
theorem la_plotCount {p : Program} {l : Launch} {e : Env} {s : State} {m : MethodId} {args : Array Value} {below : List Frame} {meth : Method} {c : Code} {D : DD} {z : Nat} {k n : Nat} {Q : State → Prop} {b L i : Nat} {xs : Nat → Int32} {X : XT} {M : MT} {o : Int64} (hl : l.stackTraces = false) (E : Cx p s m args meth c D z RL cL_law 9 (some .boolean)) (C : LC s z b L xs) (hi : i + 6 ≤ L) (hk : k + 100 ≤ 601024) (hn : n + 10000 ≤ 7293034) (hr : RR X M) (h : ∀ X' M' o', RR X' M' → J p l e room_1 s m args below meth c D z (GG D z (X', (2, M', o'))) (k + 100) (n + 10000) Q 9 3238 (lsL b z i) []) : J p l e room_1 s m args below meth c D z (GG D z (X, (2, M, o))) k n Q 9 550 (lsL b z i) [] := by
  obtain ⟨r, a1, a2⟩ := s_plotCount hr
  exact lb_plotCount E C hi hk hn a1 a2 (h X _ o (hr.thr 0))
set_option maxRecDepth 20000 in
theorem lb_loadCount {p : Program} {l : Launch} {e : Env} {s : State} {m : MethodId} {args : Array Value} {below : List Frame} {meth : Method} {c : Code} {D : DD} {z : Nat} {k n : Nat} {Q : State → Prop} {b L i : Nat} {xs : Nat → Int32} {X : XT} {M : MT} {o : Int64} (E : Cx p s m args meth c D z RL cL_law 9 (some .boolean)) (C : LC s z b L xs) (hi : i + 6 ≤ L) (hk : k + 100 ≤ 601024) (hn : n + 10000 ≤ 7293034) {r : Int32} {M' : MT} (hx : f_X11_loadCount X = some r) (hm : f_X12_loadCount M = some (r, M')) (h : J p l e room_1 s m args below meth c D z (GG D z (X, (2, M', o))) (k + 100) (n + 10000) Q 9 3238 (lsL b z i) []) : J p l e room_1 s m args below meth c D z (GG D z (X, (2, M, o))) k n Q 9 563 (lsL b z i) [] := by
  refine j_aload_n E 3 rfl dL_law_563 ?_
  refine j_invV [] [.int r] E (c_X11_loadCount hx) ml_L_194 mv_X11_loadCount rfl ⟨le_ rfl, le_ rfl⟩ (rcX ok0 cf_X11 ent0) rfl rfl (le_ rfl) ⟨by show k + 0 ≤ 601024; omega, by show n + 0 ≤ 7293034; omega⟩ dL_law_564 ?_
  refine j_aload_n E 2 rfl dL_law_567 ?_
  refine j_invV [.int r] [.int r, .int r] E (c_X12_loadCount (f1 := 1) hm) ml_L_197 mv_X12_loadCount rfl ⟨le_ rfl, le_ rfl⟩ (rcM (f1 := 1) cf_X12) rfl rfl (le_ rfl) ⟨by show k + 0 + 0 ≤ 601024; omega, by show n + 0 + 0 ≤ 7293034; omega⟩ dL_law_568 ?_
  refine j_icmp_eq E 3238 (by decide) dL_law_571 (fun _ => ?_) (fun q => absurd rfl q)
  exact j_widen (by show k + 0 + 0 ≤ k + 100; omega) (by show n + 0 + 0 ≤ n + 10000; omega) h
set_option maxRecDepth 20000 in
theorem la_loadCount {p : Program} {l : Launch} {e : Env} {s : State} {m : MethodId} {args : Array Value} {below : List Frame} {meth : Method} {c : Code} {D : DD} {z : Nat} {k n : Nat} {Q : State → Prop} {b L i : Nat} {xs : Nat → Int32} {X : XT} {M : MT} {o : Int64} (hl : l.stackTraces = false) (E : Cx p s m args meth c D z RL cL_law 9 (some .boolean)) (C : LC s z b L xs) (hi : i + 6 ≤ L) (hk : k + 100 ≤ 601024) (hn : n + 10000 ≤ 7293034) (hr : RR X M) (h : ∀ X' M' o', RR X' M' → J p l e room_1 s m args below meth c D z (GG D z (X', (2, M', o'))) (k + 100) (n + 10000) Q 9 3238 (lsL b z i) []) : J p l e room_1 s m args below meth c D z (GG D z (X, (2, M, o))) k n Q 9 563 (lsL b z i) [] := by
  obtain ⟨r, a1, a2⟩ := s_loadCount hr
  exact lb_loadCount E C hi hk hn a1 a2 (h X _ o (hr.thr 0))
set_option maxRecDepth 20000 in
theorem lb_lotCount {p : Program} {l : Launch} {e : Env} {s : State} {m : MethodId} {args : Array Value} {below : List Frame} {meth : Method} {c : Code} {D : DD} {z : Nat} {k n : Nat} {Q : State → Prop} {b L i : Nat} {xs : Nat → Int32} {X : XT} {M : MT} {o : Int64} (E : Cx p s m args meth c D z RL cL_law 9 (some .boolean)) (C : LC s z b L xs) (hi : i + 6 ≤ L) (hk : k + 100 ≤ 601024) (hn : n + 10000 ≤ 7293034) {r : Int32} {M' : MT} (hx : f_X11_lotCount X = some r) (hm : f_X12_lotCount M = some (r, M')) (h : J p l e room_1 s m args below meth c D z (GG D z (X, (2, M', o))) (k + 100) (n + 10000) Q 9 3238 (lsL b z i) []) : J p l e room_1 s m args below meth c D z (GG D z (X, (2, M, o))) k n Q 9 576 (lsL b z i) [] := by
  refine j_aload_n E 3 rfl dL_law_576 ?_
  refine j_invV [] [.int r] E (c_X11_lotCount hx) ml_L_198 mv_X11_lotCount rfl ⟨le_ rfl, le_ rfl⟩ (rcX ok0 cf_X11 ent0) rfl rfl (le_ rfl) ⟨by show k + 0 ≤ 601024; omega, by show n + 0 ≤ 7293034; omega⟩ dL_law_577 ?_
  refine j_aload_n E 2 rfl dL_law_580 ?_
  refine j_invV [.int r] [.int r, .int r] E (c_X12_lotCount (f1 := 1) hm) ml_L_201 mv_X12_lotCount rfl ⟨le_ rfl, le_ rfl⟩ (rcM (f1 := 1) cf_X12) rfl rfl (le_ rfl) ⟨by show k + 0 + 0 ≤ 601024; omega, by show n + 0 + 0 ≤ 7293034; omega⟩ dL_law_581 ?_
  refine j_icmp_eq E 3238 (by decide) dL_law_584 (fun _ => ?_) (fun q => absurd rfl q)
  exact j_widen (by show k + 0 + 0 ≤ k + 100; omega) (by show n + 0 + 0 ≤ n + 10000; omega) h
set_option maxRecDepth 20000 in
theorem la_lotCount {p : Program} {l : Launch} {e : Env} {s : State} {m : MethodId} {args : Array Value} {below : List Frame} {meth : Method} {c : Code} {D : DD} {z : Nat} {k n : Nat} {Q : State → Prop} {b L i : Nat} {xs : Nat → Int32} {X : XT} {M : MT} {o : Int64} (hl : l.stackTraces = false) (E : Cx p s m args meth c D z RL cL_law 9 (some .boolean)) (C : LC s z b L xs) (hi : i + 6 ≤ L) (hk : k + 100 ≤ 601024) (hn : n + 10000 ≤ 7293034) (hr : RR X M) (h : ∀ X' M' o', RR X' M' → J p l e room_1 s m args below meth c D z (GG D z (X', (2, M', o'))) (k + 100) (n + 10000) Q 9 3238 (lsL b z i) []) : J p l e room_1 s m args below meth c D z (GG D z (X, (2, M, o))) k n Q 9 576 (lsL b z i) [] := by
  obtain ⟨r, a1, a2⟩ := s_lotCount hr
  exact lb_lotCount E C hi hk hn a1 a2 (h X _ o (hr.thr 0))
set_option maxRecDepth 20000 in
theorem lb_classBySugar {p : Program} {l : Launch} {e : Env} {s : State} {m : MethodId} {args : Array Value} {below : List Frame} {meth : Method} {c : Code} {D : DD} {z : Nat} {k n : Nat} {Q : State → Prop} {b L i : Nat} {xs : Nat → Int32} {X : XT} {M : MT} {o : Int64} (E : Cx p s m args meth c D z RL cL_law 9 (some .boolean)) (C : LC s z b L xs) (hi : i + 6 ≤ L) (hk : k + 100 ≤ 601024) (hn : n + 10000 ≤ 7293034) {d q1 q2 : Nat} {kk r : Int32} {o' : Int64} {X' : XT} {M' : MT} (hrw : d + 1 ≤ 2048) (hrl : d ≤ 1000) (hrc : q1 ≤ 64) (hrs : q2 ≤ 8000) (hW : CW l yL_classBySugar cL_classBySugar 4 (some .int) [(0, 9, 12, 19)] (rmk d q1 q2) D z [.ref (z + aX 0 0 0), .int (xs (i + 1)), .ref (z + 537)] (GG D z (X, (2, M, o))) (some (.int kk)) (GG D z (X', (2, M, o')))) (hM : CC l yX12_classBySugar cX12_classBySugar 2 (some .int) (rmk 3 0 0) D z [.ref (z + aM 0), .int (xs (i + 1))] (GG D z (X', (2, M, o'))) (some (.int r)) (GG D z (X', (2, M', o')))) (hT : f_X12_thrown M' = some kk) (hres : kk = 0 → o' = r.toInt64) (h : J p l e room_1 s m args below meth c D z (GG D z (X', (2, M', o'))) (k + 100) (n + 10000) Q 9 3238 (lsL b z i) []) : J p l e room_1 s m args below meth c D z (GG D z (X, (2, M, o))) k n Q 9 589 (lsL b z i) [] := by
  refine j_aload_n E 3 rfl dL_law_589 ?_
  refine j_aload_n E 4 rfl dL_law_590 ?_
  refine j_iload E 0 rfl dL_law_591 ?_
  refine j_iconst E (nI 1) rfl dL_law_593 ?_
  refine j_iadd E dL_law_594 ?_
  refine j_name (nI_add i 1).symm ?_
  refine j_sld E C (by omega) dL_law_595 ?_
  refine j_aload_n E 1 rfl dL_law_596 ?_
  refine j_invW (n0 := 3) [] [.int kk] E hW ml_L_202 st_L_classBySugar in_L cd_L_classBySugar rfl (by decide +kernel) rfl ⟨hrw, by show 8 + (_ + 11) + 64 * d ≤ 84000; omega⟩ rfl rfl (le_ rfl) ⟨by show k + q1 ≤ 601024; omega, by show n + q2 ≤ 7293034; omega⟩ dL_law_597 ?_
  refine j_istore (ls' := (5, .int kk) :: lsL b z i) E (lt_ rfl) rfl dL_law_600 ?_
  refine j_aload_n E 3 rfl dL_law_602 ?_
  refine j_aload_n E 5 rfl dL_law_603 ?_
  refine j_iload E 1 rfl dL_law_604 ?_
  refine j_iconst E (nI 1) rfl dL_law_606 ?_
  refine j_iadd E dL_law_607 ?_
  refine j_name (nI_add i 1).symm ?_
  refine j_sld E C (by omega) dL_law_608 ?_
  refine j_invV [] [.int r] E hM ml_L_204 mv_X12_classBySugar rfl ⟨le_ rfl, le_ rfl⟩ (rcM (f1 := 1) cf_X12) rfl rfl (le_ rfl) ⟨by show k + q1 + 0 ≤ 601024; omega, by show n + q2 + 0 ≤ 7293034; omega⟩ dL_law_609 ?_
  refine j_istore (ls' := (6, .int r) :: (5, .int kk) :: lsL b z i) E (lt_ rfl) rfl dL_law_612 ?_
  refine j_aload_n E 4 rfl dL_law_614 ?_
  refine j_invV [] [.int kk] E (c_X12_thrown (f1 := 1) hT) ml_L_159 mv_X12_thrown rfl ⟨le_ rfl, le_ rfl⟩ (rcM (f1 := 1) cf_X12) rfl rfl (le_ rfl) ⟨by show k + q1 + 0 + 0 ≤ 601024; omega, by show n + q2 + 0 + 0 ≤ 7293034; omega⟩ dL_law_615 ?_
  refine j_iload E 1 rfl dL_law_618 ?_
  refine j_icmp_eq E 625 (by decide) dL_law_620 (fun _ => ?_) (fun q => absurd rfl q)
  have fin : J p l e room_1 s m args below meth c D z (GG D z (X', (2, M', o'))) (k + 100) (n + 10000) Q 9 3238 ((6, .int r) :: (5, .int kk) :: lsL b z i) [] := j_sub (ls' := lsL b z i) [2, 3, 4, 5, 6] rfl h
  refine j_iload E 1 rfl dL_law_625 ?_
  refine j_if_ne E 642 (by decide) dL_law_627 (fun _ => ?_) (fun q0 => ?_)
  · refine j_goto E 3238 (by decide) dL_law_642 ?_
    exact j_widen (by show k + q1 + 0 + 0 ≤ k + 100; omega) (by show n + q2 + 0 + 0 ≤ n + 10000; omega) fin
  · refine j_aload_n E 3 rfl dL_law_630 ?_
    refine j_iconst E 0 ic_0 dL_law_631 ?_
    refine j_laldO (f1 := 0) E dL_law_632 ?_
    refine j_iload E 0 rfl dL_law_633 ?_
    refine j_i2l E dL_law_635 ?_
    refine j_lcmp E dL_law_636 ?_
    refine j_if_eq E 642 (by decide) dL_law_637 (fun _ => ?_) (fun q => absurd ((cmp_eq _ _).mpr (hres q0)) q)
    refine j_goto E 3238 (by decide) dL_law_642 ?_
    exact j_widen (by show k + q1 + 0 + 0 ≤ k + 100; omega) (by show n + q2 + 0 + 0 ≤ n + 10000; omega) fin
set_option maxRecDepth 20000 in
theorem la_classBySugar {p : Program} {l : Launch} {e : Env} {s : State} {m : MethodId} {args : Array Value} {below : List Frame} {meth : Method} {c : Code} {D : DD} {z : Nat} {k n : Nat} {Q : State → Prop} {b L i : Nat} {xs : Nat → Int32} {X : XT} {M : MT} {o : Int64} (hl : l.stackTraces = false) (E : Cx p s m args meth c D z RL cL_law 9 (some .boolean)) (C : LC s z b L xs) (hi : i + 6 ≤ L) (hk : k + 100 ≤ 601024) (hn : n + 10000 ≤ 7293034) (hr : RR X M) (h : ∀ X' M' o', RR X' M' → J p l e room_1 s m args below meth c D z (GG D z (X', (2, M', o'))) (k + 100) (n + 10000) Q 9 3238 (lsL b z i) []) : J p l e room_1 s m args below meth c D z (GG D z (X, (2, M, o))) k n Q 9 589 (lsL b z i) [] := by
  rcases s_classBySugar hr (xs (i + 1)) with ⟨r, a1, a2⟩ | ⟨e, k', r, hm, a1, a2⟩
  · exact lb_classBySugar E C hi hk hn (by decide) (by decide) (by decide) (by decide) (w_classBySugar (f1 := 0) a1) (c_X12_classBySugar (f1 := 1) a2) (by unfold f_X12_thrown; rw [mi00]) (fun _ => rfl) (h X _ _ (hr.thr 0))
  · simp only [List.mem_cons, List.not_mem_nil, or_false, Prod.mk.injEq] at hm
    obtain ⟨rfl, rfl⟩ := hm
    exact lb_classBySugar E C hi hk hn (by decide) (by decide) (by decide) (by decide) (wx_classBySugar_1 (f1 := 0) hl a1) (c_X12_classBySugar (f1 := 1) a2) (by unfold f_X12_thrown; rw [mi00]) (fun q => absurd q (by decide)) (h X _ _ (hr.thr 1))
set_option maxRecDepth 20000 in
theorem lb_price {p : Program} {l : Launch} {e : Env} {s : State} {m : MethodId} {args : Array Value} {below : List Frame} {meth : Method} {c : Code} {D : DD} {z : Nat} {k n : Nat} {Q : State → Prop} {b L i : Nat} {xs : Nat → Int32} {X : XT} {M : MT} {o : Int64} (E : Cx p s m args meth c D z RL cL_law 9 (some .boolean)) (C : LC s z b L xs) (hi : i + 6 ≤ L) (hk : k + 100 ≤ 601024) (hn : n + 10000 ≤ 7293034) {d q1 q2 : Nat} {kk r : Int32} {o' : Int64} {X' : XT} {M' : MT} (hrw : d + 1 ≤ 2048) (hrl : d ≤ 1000) (hrc : q1 ≤ 64) (hrs : q2 ≤ 8000) (hW : CW l yL_price cL_price 5 (some .int) [(0, 10, 13, 28)] (rmk d q1 q2) D z [.ref (z + aX 0 0 0), .int (xs (i + 1)), .int (xs (i + 2)), .ref (z + 537)] (GG D z (X, (2, M, o))) (some (.int kk)) (GG D z (X', (2, M, o')))) (hM : CC l yX12_price cX12_price 3 (some .int) (rmk 3 0 0) D z [.ref (z + aM 0), .int (xs (i + 1)), .int (xs (i + 2))] (GG D z (X', (2, M, o'))) (some (.int r)) (GG D z (X', (2, M', o')))) (hT : f_X12_thrown M' = some kk) (hres : kk = 0 → o' = r.toInt64) (h : J p l e room_1 s m args below meth c D z (GG D z (X', (2, M', o'))) (k + 100) (n + 10000) Q 9 3238 (lsL b z i) []) : J p l e room_1 s m args below meth c D z (GG D z (X, (2, M, o))) k n Q 9 645 (lsL b z i) [] := by
  refine j_aload_n E 3 rfl dL_law_645 ?_
  refine j_aload_n E 4 rfl dL_law_646 ?_
  refine j_iload E 0 rfl dL_law_647 ?_
  refine j_iconst E (nI 1) rfl dL_law_649 ?_
  refine j_iadd E dL_law_650 ?_
  refine j_name (nI_add i 1).symm ?_
  refine j_sld E C (by omega) dL_law_651 ?_
  refine j_aload_n E 4 rfl dL_law_652 ?_
  refine j_iload E 0 rfl dL_law_653 ?_
  refine j_iconst E (nI 2) rfl dL_law_655 ?_
  refine j_iadd E dL_law_656 ?_
  refine j_name (nI_add i 2).symm ?_
  refine j_sld E C (by omega) dL_law_657 ?_
  refine j_aload_n E 1 rfl dL_law_658 ?_
  refine j_invW (n0 := 4) [] [.int kk] E hW ml_L_205 st_L_price in_L cd_L_price rfl (by decide +kernel) rfl ⟨hrw, by show 8 + (_ + 11) + 64 * d ≤ 84000; omega⟩ rfl rfl (le_ rfl) ⟨by show k + q1 ≤ 601024; omega, by show n + q2 ≤ 7293034; omega⟩ dL_law_659 ?_
  refine j_istore (ls' := (5, .int kk) :: lsL b z i) E (lt_ rfl) rfl dL_law_662 ?_
  refine j_aload_n E 3 rfl dL_law_664 ?_
  refine j_aload_n E 5 rfl dL_law_665 ?_
  refine j_iload E 1 rfl dL_law_666 ?_
  refine j_iconst E (nI 1) rfl dL_law_668 ?_
  refine j_iadd E dL_law_669 ?_
  refine j_name (nI_add i 1).symm ?_
  refine j_sld E C (by omega) dL_law_670 ?_
  refine j_aload_n E 5 rfl dL_law_671 ?_
  refine j_iload E 1 rfl dL_law_672 ?_
  refine j_iconst E (nI 2) rfl dL_law_674 ?_
  refine j_iadd E dL_law_675 ?_
  refine j_name (nI_add i 2).symm ?_
  refine j_sld E C (by omega) dL_law_676 ?_
  refine j_invV [] [.int r] E hM ml_L_208 mv_X12_price rfl ⟨le_ rfl, le_ rfl⟩ (rcM (f1 := 1) cf_X12) rfl rfl (le_ rfl) ⟨by show k + q1 + 0 ≤ 601024; omega, by show n + q2 + 0 ≤ 7293034; omega⟩ dL_law_677 ?_
  refine j_istore (ls' := (6, .int r) :: (5, .int kk) :: lsL b z i) E (lt_ rfl) rfl dL_law_680 ?_
  refine j_aload_n E 4 rfl dL_law_682 ?_
  refine j_invV [] [.int kk] E (c_X12_thrown (f1 := 1) hT) ml_L_159 mv_X12_thrown rfl ⟨le_ rfl, le_ rfl⟩ (rcM (f1 := 1) cf_X12) rfl rfl (le_ rfl) ⟨by show k + q1 + 0 + 0 ≤ 601024; omega, by show n + q2 + 0 + 0 ≤ 7293034; omega⟩ dL_law_683 ?_
  refine j_iload E 1 rfl dL_law_686 ?_
  refine j_icmp_eq E 693 (by decide) dL_law_688 (fun _ => ?_) (fun q => absurd rfl q)
  have fin : J p l e room_1 s m args below meth c D z (GG D z (X', (2, M', o'))) (k + 100) (n + 10000) Q 9 3238 ((6, .int r) :: (5, .int kk) :: lsL b z i) [] := j_sub (ls' := lsL b z i) [2, 3, 4, 5, 6] rfl h
  refine j_iload E 1 rfl dL_law_693 ?_
  refine j_if_ne E 710 (by decide) dL_law_695 (fun _ => ?_) (fun q0 => ?_)
  · refine j_goto E 3238 (by decide) dL_law_710 ?_
    exact j_widen (by show k + q1 + 0 + 0 ≤ k + 100; omega) (by show n + q2 + 0 + 0 ≤ n + 10000; omega) fin
  · refine j_aload_n E 3 rfl dL_law_698 ?_
    refine j_iconst E 0 ic_0 dL_law_699 ?_
    refine j_laldO (f1 := 0) E dL_law_700 ?_
    refine j_iload E 0 rfl dL_law_701 ?_
    refine j_i2l E dL_law_703 ?_
    refine j_lcmp E dL_law_704 ?_
    refine j_if_eq E 710 (by decide) dL_law_705 (fun _ => ?_) (fun q => absurd ((cmp_eq _ _).mpr (hres q0)) q)
    refine j_goto E 3238 (by decide) dL_law_710 ?_
    exact j_widen (by show k + q1 + 0 + 0 ≤ k + 100; omega) (by show n + q2 + 0 + 0 ≤ n + 10000; omega) fin
set_option maxRecDepth 20000 in
theorem la_price {p : Program} {l : Launch} {e : Env} {s : State} {m : MethodId} {args : Array Value} {below : List Frame} {meth : Method} {c : Code} {D : DD} {z : Nat} {k n : Nat} {Q : State → Prop} {b L i : Nat} {xs : Nat → Int32} {X : XT} {M : MT} {o : Int64} (hl : l.stackTraces = false) (E : Cx p s m args meth c D z RL cL_law 9 (some .boolean)) (C : LC s z b L xs) (hi : i + 6 ≤ L) (hk : k + 100 ≤ 601024) (hn : n + 10000 ≤ 7293034) (hr : RR X M) (h : ∀ X' M' o', RR X' M' → J p l e room_1 s m args below meth c D z (GG D z (X', (2, M', o'))) (k + 100) (n + 10000) Q 9 3238 (lsL b z i) []) : J p l e room_1 s m args below meth c D z (GG D z (X, (2, M, o))) k n Q 9 645 (lsL b z i) [] := by
  rcases s_price hr (xs (i + 1)) (xs (i + 2)) with ⟨r, a1, a2⟩ | ⟨e, k', r, hm, a1, a2⟩
  · exact lb_price E C hi hk hn (by decide) (by decide) (by decide) (by decide) (w_price (f1 := 0) a1) (c_X12_price (f1 := 1) a2) (by unfold f_X12_thrown; rw [mi00]) (fun _ => rfl) (h X _ _ (hr.thr 0))
  · simp only [List.mem_cons, List.not_mem_nil, or_false, Prod.mk.injEq] at hm
    obtain ⟨rfl, rfl⟩ := hm
    exact lb_price E C hi hk hn (by decide) (by decide) (by decide) (by decide) (wx_price_2 (f1 := 0) hl a1) (c_X12_price (f1 := 1) a2) (by unfold f_X12_thrown; rw [mi00]) (fun q => absurd q (by decide)) (h X _ _ (hr.thr 1))
set_option maxRecDepth 20000 in
theorem lb_weightOfClass {p : Program} {l : Launch} {e : Env} {s : State} {m : MethodId} {args : Array Value} {below : List Frame} {meth : Method} {c : Code} {D : DD} {z : Nat} {k n : Nat} {Q : State → Prop} {b L i : Nat} {xs : Nat → Int32} {X : XT} {M : MT} {o : Int64} (E : Cx p s m args meth c D z RL cL_law 9 (some .boolean)) (C : LC s z b L xs) (hi : i + 6 ≤ L) (hk : k + 100 ≤ 601024) (hn : n + 10000 ≤ 7293034) {d q1 q2 : Nat} {kk r : Int32} {o' : Int64} {X' : XT} {M' : MT} (hrw : d + 1 ≤ 2048) (hrl : d ≤ 1000) (hrc : q1 ≤ 64) (hrs : q2 ≤ 8000) (hW : CW l yL_weightOfClass cL_weightOfClass 5 (some .int) [(0, 10, 13, 28)] (rmk d q1 q2) D z [.ref (z + aX 0 0 0), .int (xs (i + 1)), .int (xs (i + 2)), .ref (z + 537)] (GG D z (X, (2, M, o))) (some (.int kk)) (GG D z (X', (2, M, o')))) (hM : CC l yX12_weightOfClass cX12_weightOfClass 3 (some .int) (rmk 4 0 0) D z [.ref (z + aM 0), .int (xs (i + 1)), .int (xs (i + 2))] (GG D z (X', (2, M, o'))) (some (.int r)) (GG D z (X', (2, M', o')))) (hT : f_X12_thrown M' = some kk) (hres : kk = 0 → o' = r.toInt64) (h : J p l e room_1 s m args below meth c D z (GG D z (X', (2, M', o'))) (k + 100) (n + 10000) Q 9 3238 (lsL b z i) []) : J p l e room_1 s m args below meth c D z (GG D z (X, (2, M, o))) k n Q 9 713 (lsL b z i) [] := by
  refine j_aload_n E 3 rfl dL_law_713 ?_
  refine j_aload_n E 4 rfl dL_law_714 ?_
  refine j_iload E 0 rfl dL_law_715 ?_
  refine j_iconst E (nI 1) rfl dL_law_717 ?_
  refine j_iadd E dL_law_718 ?_
  refine j_name (nI_add i 1).symm ?_
  refine j_sld E C (by omega) dL_law_719 ?_
  refine j_aload_n E 4 rfl dL_law_720 ?_
  refine j_iload E 0 rfl dL_law_721 ?_
  refine j_iconst E (nI 2) rfl dL_law_723 ?_
  refine j_iadd E dL_law_724 ?_
  refine j_name (nI_add i 2).symm ?_
  refine j_sld E C (by omega) dL_law_725 ?_
  refine j_aload_n E 1 rfl dL_law_726 ?_
  refine j_invW (n0 := 4) [] [.int kk] E hW ml_L_209 st_L_weightOfClass in_L cd_L_weightOfClass rfl (by decide +kernel) rfl ⟨hrw, by show 8 + (_ + 11) + 64 * d ≤ 84000; omega⟩ rfl rfl (le_ rfl) ⟨by show k + q1 ≤ 601024; omega, by show n + q2 ≤ 7293034; omega⟩ dL_law_727 ?_
  refine j_istore (ls' := (5, .int kk) :: lsL b z i) E (lt_ rfl) rfl dL_law_730 ?_
  refine j_aload_n E 3 rfl dL_law_732 ?_
  refine j_aload_n E 5 rfl dL_law_733 ?_
  refine j_iload E 1 rfl dL_law_734 ?_
  refine j_iconst E (nI 1) rfl dL_law_736 ?_
  refine j_iadd E dL_law_737 ?_
  refine j_name (nI_add i 1).symm ?_
  refine j_sld E C (by omega) dL_law_738 ?_
  refine j_aload_n E 5 rfl dL_law_739 ?_
  refine j_iload E 1 rfl dL_law_740 ?_
  refine j_iconst E (nI 2) rfl dL_law_742 ?_
  refine j_iadd E dL_law_743 ?_
  refine j_name (nI_add i 2).symm ?_
  refine j_sld E C (by omega) dL_law_744 ?_
  refine j_invV [] [.int r] E hM ml_L_211 mv_X12_weightOfClass rfl ⟨le_ rfl, le_ rfl⟩ (rcM (f1 := 1) cf_X12) rfl rfl (le_ rfl) ⟨by show k + q1 + 0 ≤ 601024; omega, by show n + q2 + 0 ≤ 7293034; omega⟩ dL_law_745 ?_
  refine j_istore (ls' := (6, .int r) :: (5, .int kk) :: lsL b z i) E (lt_ rfl) rfl dL_law_748 ?_
  refine j_aload_n E 4 rfl dL_law_750 ?_
  refine j_invV [] [.int kk] E (c_X12_thrown (f1 := 1) hT) ml_L_159 mv_X12_thrown rfl ⟨le_ rfl, le_ rfl⟩ (rcM (f1 := 1) cf_X12) rfl rfl (le_ rfl) ⟨by show k + q1 + 0 + 0 ≤ 601024; omega, by show n + q2 + 0 + 0 ≤ 7293034; omega⟩ dL_law_751 ?_
  refine j_iload E 1 rfl dL_law_754 ?_
  refine j_icmp_eq E 761 (by decide) dL_law_756 (fun _ => ?_) (fun q => absurd rfl q)
  have fin : J p l e room_1 s m args below meth c D z (GG D z (X', (2, M', o'))) (k + 100) (n + 10000) Q 9 3238 ((6, .int r) :: (5, .int kk) :: lsL b z i) [] := j_sub (ls' := lsL b z i) [2, 3, 4, 5, 6] rfl h
  refine j_iload E 1 rfl dL_law_761 ?_
  refine j_if_ne E 778 (by decide) dL_law_763 (fun _ => ?_) (fun q0 => ?_)
  · refine j_goto E 3238 (by decide) dL_law_778 ?_
    exact j_widen (by show k + q1 + 0 + 0 ≤ k + 100; omega) (by show n + q2 + 0 + 0 ≤ n + 10000; omega) fin
  · refine j_aload_n E 3 rfl dL_law_766 ?_
    refine j_iconst E 0 ic_0 dL_law_767 ?_
    refine j_laldO (f1 := 0) E dL_law_768 ?_
    refine j_iload E 0 rfl dL_law_769 ?_
    refine j_i2l E dL_law_771 ?_
    refine j_lcmp E dL_law_772 ?_
    refine j_if_eq E 778 (by decide) dL_law_773 (fun _ => ?_) (fun q => absurd ((cmp_eq _ _).mpr (hres q0)) q)
    refine j_goto E 3238 (by decide) dL_law_778 ?_
    exact j_widen (by show k + q1 + 0 + 0 ≤ k + 100; omega) (by show n + q2 + 0 + 0 ≤ n + 10000; omega) fin
set_option maxRecDepth 20000 in
theorem la_weightOfClass {p : Program} {l : Launch} {e : Env} {s : State} {m : MethodId} {args : Array Value} {below : List Frame} {meth : Method} {c : Code} {D : DD} {z : Nat} {k n : Nat} {Q : State → Prop} {b L i : Nat} {xs : Nat → Int32} {X : XT} {M : MT} {o : Int64} (hl : l.stackTraces = false) (E : Cx p s m args meth c D z RL cL_law 9 (some .boolean)) (C : LC s z b L xs) (hi : i + 6 ≤ L) (hk : k + 100 ≤ 601024) (hn : n + 10000 ≤ 7293034) (hr : RR X M) (h : ∀ X' M' o', RR X' M' → J p l e room_1 s m args below meth c D z (GG D z (X', (2, M', o'))) (k + 100) (n + 10000) Q 9 3238 (lsL b z i) []) : J p l e room_1 s m args below meth c D z (GG D z (X, (2, M, o))) k n Q 9 713 (lsL b z i) [] := by
  rcases s_weightOfClass hr (xs (i + 1)) (xs (i + 2)) with ⟨r, a1, a2⟩ | ⟨e, k', r, hm, a1, a2⟩
  · exact lb_weightOfClass E C hi hk hn (by decide) (by decide) (by decide) (by decide) (w_weightOfClass (f1 := 0) a1) (c_X12_weightOfClass (f1 := 1) a2) (by unfold f_X12_thrown; rw [mi00]) (fun _ => rfl) (h X _ _ (hr.thr 0))
  · simp only [List.mem_cons, List.not_mem_nil, or_false, Prod.mk.injEq] at hm
    obtain ⟨rfl, rfl⟩ := hm
    exact lb_weightOfClass E C hi hk hn (by decide) (by decide) (by decide) (by decide) (wx_weightOfClass_2 (f1 := 0) hl a1) (c_X12_weightOfClass (f1 := 1) a2) (by unfold f_X12_thrown; rw [mi00]) (fun q => absurd q (by decide)) (h X _ _ (hr.thr 1))
set_option maxRecDepth 20000 in
theorem lb_deliveredClasses {p : Program} {l : Launch} {e : Env} {s : State} {m : MethodId} {args : Array Value} {below : List Frame} {meth : Method} {c : Code} {D : DD} {z : Nat} {k n : Nat} {Q : State → Prop} {b L i : Nat} {xs : Nat → Int32} {X : XT} {M : MT} {o : Int64} (E : Cx p s m args meth c D z RL cL_law 9 (some .boolean)) (C : LC s z b L xs) (hi : i + 6 ≤ L) (hk : k + 100 ≤ 601024) (hn : n + 10000 ≤ 7293034) {r : Int32} {M' : MT} (hx : f_X11_deliveredClasses X = some r) (hm : f_X12_deliveredClasses M = some (r, M')) (h : J p l e room_1 s m args below meth c D z (GG D z (X, (2, M', o))) (k + 100) (n + 10000) Q 9 3238 (lsL b z i) []) : J p l e room_1 s m args below meth c D z (GG D z (X, (2, M, o))) k n Q 9 781 (lsL b z i) [] := by
  refine j_aload_n E 3 rfl dL_law_781 ?_
  refine j_invV [] [.int r] E (c_X11_deliveredClasses hx) ml_L_212 mv_X11_deliveredClasses rfl ⟨le_ rfl, le_ rfl⟩ (rcX ok0 cf_X11 ent0) rfl rfl (le_ rfl) ⟨by show k + 0 ≤ 601024; omega, by show n + 0 ≤ 7293034; omega⟩ dL_law_782 ?_
  refine j_aload_n E 2 rfl dL_law_785 ?_
  refine j_invV [.int r] [.int r, .int r] E (c_X12_deliveredClasses (f1 := 1) hm) ml_L_215 mv_X12_deliveredClasses rfl ⟨le_ rfl, le_ rfl⟩ (rcM (f1 := 1) cf_X12) rfl rfl (le_ rfl) ⟨by show k + 0 + 0 ≤ 601024; omega, by show n + 0 + 0 ≤ 7293034; omega⟩ dL_law_786 ?_
  refine j_icmp_eq E 3238 (by decide) dL_law_789 (fun _ => ?_) (fun q => absurd rfl q)
  exact j_widen (by show k + 0 + 0 ≤ k + 100; omega) (by show n + 0 + 0 ≤ n + 10000; omega) h
set_option maxRecDepth 20000 in
theorem la_deliveredClasses {p : Program} {l : Launch} {e : Env} {s : State} {m : MethodId} {args : Array Value} {below : List Frame} {meth : Method} {c : Code} {D : DD} {z : Nat} {k n : Nat} {Q : State → Prop} {b L i : Nat} {xs : Nat → Int32} {X : XT} {M : MT} {o : Int64} (hl : l.stackTraces = false) (E : Cx p s m args meth c D z RL cL_law 9 (some .boolean)) (C : LC s z b L xs) (hi : i + 6 ≤ L) (hk : k + 100 ≤ 601024) (hn : n + 10000 ≤ 7293034) (hr : RR X M) (h : ∀ X' M' o', RR X' M' → J p l e room_1 s m args below meth c D z (GG D z (X', (2, M', o'))) (k + 100) (n + 10000) Q 9 3238 (lsL b z i) []) : J p l e room_1 s m args below meth c D z (GG D z (X, (2, M, o))) k n Q 9 781 (lsL b z i) [] := by
  obtain ⟨r, a1, a2⟩ := s_deliveredClasses hr
  exact lb_deliveredClasses E C hi hk hn a1 a2 (h X _ o (hr.thr 0))
set_option maxRecDepth 20000 in
theorem lb_classInOrder {p : Program} {l : Launch} {e : Env} {s : State} {m : MethodId} {args : Array Value} {below : List Frame} {meth : Method} {c : Code} {D : DD} {z : Nat} {k n : Nat} {Q : State → Prop} {b L i : Nat} {xs : Nat → Int32} {X : XT} {M : MT} {o : Int64} (E : Cx p s m args meth c D z RL cL_law 9 (some .boolean)) (C : LC s z b L xs) (hi : i + 6 ≤ L) (hk : k + 100 ≤ 601024) (hn : n + 10000 ≤ 7293034) {d q1 q2 : Nat} {kk r : Int32} {o' : Int64} {X' : XT} {M' : MT} (hrw : d + 1 ≤ 2048) (hrl : d ≤ 1000) (hrc : q1 ≤ 64) (hrs : q2 ≤ 8000) (hW : CW l yL_classInOrder cL_classInOrder 4 (some .int) [(0, 9, 12, 36)] (rmk d q1 q2) D z [.ref (z + aX 0 0 0), .int (xs (i + 1)), .ref (z + 537)] (GG D z (X, (2, M, o))) (some (.int kk)) (GG D z (X', (2, M, o')))) (hM : CC l yX12_classInOrder cX12_classInOrder 3 (some .int) (rmk 6 0 0) D z [.ref (z + aM 0), .int (xs (i + 1))] (GG D z (X', (2, M, o'))) (some (.int r)) (GG D z (X', (2, M', o')))) (hT : f_X12_thrown M' = some kk) (hres : kk = 0 → o' = r.toInt64) (h : J p l e room_1 s m args below meth c D z (GG D z (X', (2, M', o'))) (k + 100) (n + 10000) Q 9 3238 (lsL b z i) []) : J p l e room_1 s m args below meth c D z (GG D z (X, (2, M, o))) k n Q 9 794 (lsL b z i) [] := by
  refine j_aload_n E 3 rfl dL_law_794 ?_
  refine j_aload_n E 4 rfl dL_law_795 ?_
  refine j_iload E 0 rfl dL_law_796 ?_
  refine j_iconst E (nI 1) rfl dL_law_798 ?_
  refine j_iadd E dL_law_799 ?_
  refine j_name (nI_add i 1).symm ?_
  refine j_sld E C (by omega) dL_law_800 ?_
  refine j_aload_n E 1 rfl dL_law_801 ?_
  refine j_invW (n0 := 3) [] [.int kk] E hW ml_L_216 st_L_classInOrder in_L cd_L_classInOrder rfl (by decide +kernel) rfl ⟨hrw, by show 8 + (_ + 11) + 64 * d ≤ 84000; omega⟩ rfl rfl (le_ rfl) ⟨by show k + q1 ≤ 601024; omega, by show n + q2 ≤ 7293034; omega⟩ dL_law_802 ?_
  refine j_istore (ls' := (5, .int kk) :: lsL b z i) E (lt_ rfl) rfl dL_law_805 ?_
  refine j_aload_n E 3 rfl dL_law_807 ?_
  refine j_aload_n E 5 rfl dL_law_808 ?_
  refine j_iload E 1 rfl dL_law_809 ?_
  refine j_iconst E (nI 1) rfl dL_law_811 ?_
  refine j_iadd E dL_law_812 ?_
  refine j_name (nI_add i 1).symm ?_
  refine j_sld E C (by omega) dL_law_813 ?_
  refine j_invV [] [.int r] E hM ml_L_218 mv_X12_classInOrder rfl ⟨le_ rfl, le_ rfl⟩ (rcM (f1 := 1) cf_X12) rfl rfl (le_ rfl) ⟨by show k + q1 + 0 ≤ 601024; omega, by show n + q2 + 0 ≤ 7293034; omega⟩ dL_law_814 ?_
  refine j_istore (ls' := (6, .int r) :: (5, .int kk) :: lsL b z i) E (lt_ rfl) rfl dL_law_817 ?_
  refine j_aload_n E 4 rfl dL_law_819 ?_
  refine j_invV [] [.int kk] E (c_X12_thrown (f1 := 1) hT) ml_L_159 mv_X12_thrown rfl ⟨le_ rfl, le_ rfl⟩ (rcM (f1 := 1) cf_X12) rfl rfl (le_ rfl) ⟨by show k + q1 + 0 + 0 ≤ 601024; omega, by show n + q2 + 0 + 0 ≤ 7293034; omega⟩ dL_law_820 ?_
  refine j_iload E 1 rfl dL_law_823 ?_
  refine j_icmp_eq E 830 (by decide) dL_law_825 (fun _ => ?_) (fun q => absurd rfl q)
  have fin : J p l e room_1 s m args below meth c D z (GG D z (X', (2, M', o'))) (k + 100) (n + 10000) Q 9 3238 ((6, .int r) :: (5, .int kk) :: lsL b z i) [] := j_sub (ls' := lsL b z i) [2, 3, 4, 5, 6] rfl h
  refine j_iload E 1 rfl dL_law_830 ?_
  refine j_if_ne E 847 (by decide) dL_law_832 (fun _ => ?_) (fun q0 => ?_)
  · refine j_goto E 3238 (by decide) dL_law_847 ?_
    exact j_widen (by show k + q1 + 0 + 0 ≤ k + 100; omega) (by show n + q2 + 0 + 0 ≤ n + 10000; omega) fin
  · refine j_aload_n E 3 rfl dL_law_835 ?_
    refine j_iconst E 0 ic_0 dL_law_836 ?_
    refine j_laldO (f1 := 0) E dL_law_837 ?_
    refine j_iload E 0 rfl dL_law_838 ?_
    refine j_i2l E dL_law_840 ?_
    refine j_lcmp E dL_law_841 ?_
    refine j_if_eq E 847 (by decide) dL_law_842 (fun _ => ?_) (fun q => absurd ((cmp_eq _ _).mpr (hres q0)) q)
    refine j_goto E 3238 (by decide) dL_law_847 ?_
    exact j_widen (by show k + q1 + 0 + 0 ≤ k + 100; omega) (by show n + q2 + 0 + 0 ≤ n + 10000; omega) fin
set_option maxRecDepth 20000 in
theorem la_classInOrder {p : Program} {l : Launch} {e : Env} {s : State} {m : MethodId} {args : Array Value} {below : List Frame} {meth : Method} {c : Code} {D : DD} {z : Nat} {k n : Nat} {Q : State → Prop} {b L i : Nat} {xs : Nat → Int32} {X : XT} {M : MT} {o : Int64} (hl : l.stackTraces = false) (E : Cx p s m args meth c D z RL cL_law 9 (some .boolean)) (C : LC s z b L xs) (hi : i + 6 ≤ L) (hk : k + 100 ≤ 601024) (hn : n + 10000 ≤ 7293034) (hr : RR X M) (h : ∀ X' M' o', RR X' M' → J p l e room_1 s m args below meth c D z (GG D z (X', (2, M', o'))) (k + 100) (n + 10000) Q 9 3238 (lsL b z i) []) : J p l e room_1 s m args below meth c D z (GG D z (X, (2, M, o))) k n Q 9 794 (lsL b z i) [] := by
  rcases s_classInOrder hr (xs (i + 1)) with ⟨r, a1, a2⟩ | ⟨e, k', r, hm, a1, a2⟩
  · exact lb_classInOrder E C hi hk hn (by decide) (by decide) (by decide) (by decide) (w_classInOrder (f1 := 0) a1) (c_X12_classInOrder (f1 := 1) a2) (by unfold f_X12_thrown; rw [mi00]) (fun _ => rfl) (h X _ _ (hr.thr 0))
  · simp only [List.mem_cons, List.not_mem_nil, or_false, Prod.mk.injEq] at hm
    obtain ⟨rfl, rfl⟩ := hm
    exact lb_classInOrder E C hi hk hn (by decide) (by decide) (by decide) (by decide) (wx_classInOrder_3 (f1 := 0) hl a1) (c_X12_classInOrder (f1 := 1) a2) (by unfold f_X12_thrown; rw [mi00]) (fun q => absurd q (by decide)) (h X _ _ (hr.thr 1))
