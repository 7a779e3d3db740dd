/-! THE LAW from its entry -/
/-- what is owed of the pure functions: the object is made, the text is read, all that holds holds -/
def PF (sc : Nat × (Nat → Int32)) : Prop := ∃ X1 X2, f_X11_tail xI = some X1 ∧ f_L_load X1 sc = some (1, X2) ∧ f_L_holds X2 sc (fun _ => 0) (fun _ => 0) = some 1 ∧ f_L_law_42 sc 36 X2 (fun _ => 0) (fun _ => 0) 50 = some 1
set_option maxHeartbeats 4000000 in
set_option maxRecDepth 20000 in
theorem whole_from {p : Program} {e : Env} {s : State} {m : MethodId} {below : List Frame} {meth : Method} {c : Code} (l : Launch) (hflags : l.flags = flags0) {b L : Nat} {xs : Nat → Int32} (hF : PF (L, xs)) (C0 : lw_At p s m meth c b L xs) : W p l e room_1 s m #[Value.ref b] below meth c s.heap [] 0 0 (lw_Z below #[Value.ref b] s) (entryFrame m ([Value.ref b] : List Value).toArray 9) := by
  obtain ⟨hx, hb, hr, hml, hown, hts, hX, hbl, hlocks, hgv⟩ := id C0
  obtain ⟨X1, X2, f1, f2, f3, f4⟩ := hF
  obtain ⟨z, hz⟩ : ∃ z, z = s.heap.size := ⟨_, rfl⟩
  obtain ⟨D, hB, hDb, hDs⟩ := bk_start hz hX hbl hgv hts
  rw [← hDs] at f2 f3 f4
  subst hDb
  have hl : l.stackTraces = false := by
    unfold Launch.stackTraces
    rw [hflags]
    decide
  have E : Cx p s m #[Value.ref D.2.2.2.2.2.2.1] meth c D z RL cL_law 9 (some .boolean) := ⟨hx, hb, hml, hown, wall_ hts, hB, hr, hlocks, by omega⟩
  have hE := lv_entry [.ref D.2.2.2.2.2.2.1] (n := 9) (le_ rfl)
  have main : J p l e room_1 s m #[Value.ref D.2.2.2.2.2.2.1] below meth c D z (fun H => H = s.heap) 0 0 (lw_Z below #[Value.ref D.2.2.2.2.2.2.1] s) 9 0 [(0, .ref D.2.2.2.2.2.2.1)] [] := by
    refine jp_new (A := z + aX 0 0 0) (fs := [.null, .null, .null, .null, .null, .null]) (P' := fun H => H.size = z + 1 ∧ va_at (gD D) cls (z + aX 0 0 0, .inr (0, [.null, .null, .null, .null, .null, .null])) H) E cf_X11 cl_L_25 is_X11 in_X11 (fun H h => by rw [h]; exact hz.symm) (fun j hj => by
      have : j = 0 ∨ j = 1 ∨ j = 2 ∨ j = 3 ∨ j = 4 ∨ j = 5 := by omega
      rcases this with rfl | rfl | rfl | rfl | rfl | rfl <;> rfl) (le_ rfl) (le_ rfl) (fun H H1 h e1 e2 e3 => ⟨e1, e3⟩) dL_law_0 ?_
    refine j_dup E rfl dL_law_3 ?_
    refine j_invI (P2 := fun _ => GG D z (X1, fun _ => True)) [.ref (z + aX 0 0 0)] E (fun H h => ci_X11 f1 h.1 h.2) (fun _ _ _ h => h) ml_L_374 mi_X11 rfl ⟨le_ rfl, le_ rfl⟩ rfl (le_ rfl) ⟨le_ rfl, le_ rfl⟩ dL_law_4 ?_
    refine j_astore_n (ls' := [(1, .ref (z + aX 0 0 0)), (0, .ref D.2.2.2.2.2.2.1)]) E (lt_ rfl) rfl dL_law_7 ?_
    refine j_wk (P' := GG D z (X1, YL D z (fun _ => True) s.heap.size [])) (fun H h => ⟨h.1, YL.fr ⟨fun _ _ => True.intro, List.Pairwise.nil, fun q hm => by cases hm⟩, h.2.2⟩) ?_
    refine j_bipush E 21 bp_21 dL_law_8 ?_
    refine jl_newi (N' := 21) E (by decide) (by decide) (by decide) (le_ rfl) (le_ rfl) dL_law_10 (fun aw => ?_)
    refine j_astore_n (ls' := [(2, .ref aw), (1, .ref (z + aX 0 0 0)), (0, .ref D.2.2.2.2.2.2.1)]) E (lt_ rfl) rfl dL_law_12 ?_
    refine j_bipush E 21 bp_21 dL_law_13 ?_
    refine jl_newi (N' := 21) E (by decide) (by decide) (by decide) (le_ rfl) (le_ rfl) dL_law_15 (fun au => ?_)
    refine j_astore_n (ls' := [(3, .ref au), (2, .ref aw), (1, .ref (z + aX 0 0 0)), (0, .ref D.2.2.2.2.2.2.1)]) E (lt_ rfl) rfl dL_law_17 ?_
    refine j_wk (P' := GG D z (X1, YW D z s.heap.size aw au (fun _ => 0) (fun _ => 0))) (fun H h => h) ?_
    refine j_aload_n E 2 rfl dL_law_18 ?_
    refine j_aload_n E 3 rfl dL_law_19 ?_
    refine j_invS [] [.int 1] E (c_L_load f2) ml_L_375 ms_L_load rfl ⟨le_ rfl, le_ rfl⟩ rfl rfl (le_ rfl) ⟨le_ rfl, le_ rfl⟩ dL_law_20 ?_
    refine j_if_eq E 36 (by decide) dL_law_23 (fun q => absurd q (by decide)) (fun _ => ?_)
    refine j_aload_n E 2 rfl dL_law_26 ?_
    refine j_aload_n E 3 rfl dL_law_27 ?_
    refine j_aload_n E 1 rfl dL_law_28 ?_
    refine j_aload_n E 0 rfl dL_law_29 ?_
    refine j_invS [] [.int 1] E (c_L_holds yw_W yw_S f3) ml_L_377 ms_L_holds rfl ⟨le_ rfl, le_ rfl⟩ rfl rfl (le_ rfl) ⟨le_ rfl, le_ rfl⟩ dL_law_30 ?_
    refine j_if_ne E 38 (by decide) dL_law_33 (fun _ => ?_) (fun q => absurd q (by decide))
    refine j_bipush E 50 bp_50 dL_law_38 ?_
    refine j_istore (ls' := lsL D z aw au 50) E (lt_ rfl) rfl dL_law_40 ?_
    refine law_loop hl E (fun H k n ls hk hn => ?_) 36 _ _ X2 _ _ 50 f4 (le_ rfl) (le_ rfl)
    refine j_iconst E 1 ic_1 dL_law_185 ?_
    intro H' locs la hG hS hL
    refine va_forget (fun q hq => Nat.le_trans (Nat.le_of_eq hz.symm) (hS.2.2 q hq)) ?_
    have q1 : k ≤ 600086 := by omega
    have q2 : n ≤ 7301442 := by omega
    refine W.widen q1 q2 ?_
    exact lw_ret (d0 := s.drawn) (Drawn.sameBut.refl s.drawn lw_cs) E.1 E.2.1 E.2.2.2.2.2.2.1 E.2.2.2.2.2.2.2.1 dL_law_186
  have := main s.heap [] _ rfl va_S.rf hE
  rw [lg_entry_eq]
  exact this
