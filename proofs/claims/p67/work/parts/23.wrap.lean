/-- deliver, or -99 where it is refused -/
def f_L_delivered (X : XT) (v1 v2 v3 : Int32) : Option (Int32 × XT) := match f_X11_deliver X v1 v2 v3 with
  | some q => some q
  | none => match t_X11_deliver X v1 v2 v3 with
    | some 0 => some ((-99), X)
    | _ => none
set_option maxRecDepth 20000 in
theorem c_L_delivered {l : Launch} (hl : l.stackTraces = false) {D : DD} {z : Nat} {Y : YT} {X : XT} {v1 v2 v3 : Int32} {r : Int32} {X' : XT} (hf0 : f_L_delivered X v1 v2 v3 = some (r, X')) : CW l yL_delivered cL_delivered 5 (some .int) [(0, 7, 8, 227)] (rmk 8 1 6) D z [.ref (z + aX 0 0 0), .int v1, .int v2, .int v3] (GG D z (X, Y)) (some (.int r)) (GG D z (X', Y)) := by
  unfold f_L_delivered at hf0
  cases hf : f_X11_deliver X v1 v2 v3 with
  | some q =>
    rw [hf] at hf0
    cases hf0
    refine cw_of pn_L (le_ rfl) (ls := [(0, .ref (z + aX 0 0 0)), (1, .int v1), (2, .int v2), (3, .int v3)]) rfl ?_
    intro p e s m args below meth c E hct
    refine j_aload_n E 0 rfl dL_delivered_0 ?_
    refine j_iload_n E 1 rfl dL_delivered_1 ?_
    refine j_iload_n E 2 rfl dL_delivered_2 ?_
    refine j_iload_n E 3 rfl dL_delivered_3 ?_
    refine j_invV [] [.int r] E (c_X11_deliver hf) ml_L_223 mv_X11_deliver rfl ⟨le_ rfl, le_ rfl⟩ (rcX ok0 cf_X11 ent0) rfl rfl (le_ rfl) ⟨le_ rfl, le_ rfl⟩ dL_delivered_4 ?_
    exact j_iret E rfl (le_ rfl) (le_ rfl) dL_delivered_7
  | none =>
    rw [hf] at hf0
    cases ht : t_X11_deliver X v1 v2 v3 with
    | none =>
      rw [ht] at hf0
      cases hf0
    | some k0 =>
      rw [ht] at hf0
      match k0, ht, hf0 with
      | 0, ht, hf0 =>
        cases hf0
        refine cw_of pn_L (le_ rfl) (ls := [(0, .ref (z + aX 0 0 0)), (1, .int v1), (2, .int v2), (3, .int v3)]) rfl ?_
        intro p e s m args below meth c E hct
        refine j_aload_n E 0 rfl dL_delivered_0 ?_
        refine j_iload_n E 1 rfl dL_delivered_1 ?_
        refine j_iload_n E 2 rfl dL_delivered_2 ?_
        refine j_iload_n E 3 rfl dL_delivered_3 ?_
        refine j_catchV [] ⟨0, 7, 8, 227⟩ [] [] E hct rfl (fun _ h => by cases h) (by decide) (by decide) cl_L_227 cb_0 (tc_X11_deliver hl ht) ml_L_223 mv_X11_deliver rfl ⟨le_ rfl, le_ rfl⟩ (rcX ok0 cf_X11 ent0) rfl (le_ rfl) ⟨le_ rfl, le_ rfl⟩ dL_delivered_4 (fun q => ?_)
        refine j_astore (ls' := [(4, .ref q), (0, .ref (z + aX 0 0 0)), (1, .int v1), (2, .int v2), (3, .int v3)]) E (lt_ rfl) rfl dL_delivered_8 ?_
        refine j_bipush E (-99) bp_m99 dL_delivered_10 ?_
        exact j_iret E rfl (le_ rfl) (le_ rfl) dL_delivered_12
/-- bottle, or -99 where it is refused -/
def f_L_bottled (X : XT) (v1 v2 : Int32) : Option (Int32 × XT) := match f_X11_bottle X v1 v2 with
  | some q => some q
  | none => match t_X11_bottle X v1 v2 with
    | some 0 => some ((-99), X)
    | _ => none
set_option maxRecDepth 20000 in
theorem c_L_bottled {l : Launch} (hl : l.stackTraces = false) {D : DD} {z : Nat} {Y : YT} {X : XT} {v1 v2 : Int32} {r : Int32} {X' : XT} (hf0 : f_L_bottled X v1 v2 = some (r, X')) : CW l yL_bottled cL_bottled 4 (some .int) [(0, 6, 7, 227)] (rmk 8 1 6) D z [.ref (z + aX 0 0 0), .int v1, .int v2] (GG D z (X, Y)) (some (.int r)) (GG D z (X', Y)) := by
  unfold f_L_bottled at hf0
  cases hf : f_X11_bottle X v1 v2 with
  | some q =>
    rw [hf] at hf0
    cases hf0
    refine cw_of pn_L (le_ rfl) (ls := [(0, .ref (z + aX 0 0 0)), (1, .int v1), (2, .int v2)]) rfl ?_
    intro p e s m args below meth c E hct
    refine j_aload_n E 0 rfl dL_bottled_0 ?_
    refine j_iload_n E 1 rfl dL_bottled_1 ?_
    refine j_iload_n E 2 rfl dL_bottled_2 ?_
    refine j_invV [] [.int r] E (c_X11_bottle hf) ml_L_229 mv_X11_bottle rfl ⟨le_ rfl, le_ rfl⟩ (rcX ok0 cf_X11 ent0) rfl rfl (le_ rfl) ⟨le_ rfl, le_ rfl⟩ dL_bottled_3 ?_
    exact j_iret E rfl (le_ rfl) (le_ rfl) dL_bottled_6
  | none =>
    rw [hf] at hf0
    cases ht : t_X11_bottle X v1 v2 with
    | none =>
      rw [ht] at hf0
      cases hf0
    | some k0 =>
      rw [ht] at hf0
      match k0, ht, hf0 with
      | 0, ht, hf0 =>
        cases hf0
        refine cw_of pn_L (le_ rfl) (ls := [(0, .ref (z + aX 0 0 0)), (1, .int v1), (2, .int v2)]) rfl ?_
        intro p e s m args below meth c E hct
        refine j_aload_n E 0 rfl dL_bottled_0 ?_
        refine j_iload_n E 1 rfl dL_bottled_1 ?_
        refine j_iload_n E 2 rfl dL_bottled_2 ?_
        refine j_catchV [] ⟨0, 6, 7, 227⟩ [] [] E hct rfl (fun _ h => by cases h) (by decide) (by decide) cl_L_227 cb_0 (tc_X11_bottle hl ht) ml_L_229 mv_X11_bottle rfl ⟨le_ rfl, le_ rfl⟩ (rcX ok0 cf_X11 ent0) rfl (le_ rfl) ⟨le_ rfl, le_ rfl⟩ dL_bottled_3 (fun q => ?_)
        refine j_astore_n (ls' := [(3, .ref q), (0, .ref (z + aX 0 0 0)), (1, .int v1), (2, .int v2)]) E (lt_ rfl) rfl dL_bottled_7 ?_
        refine j_bipush E (-99) bp_m99 dL_bottled_8 ?_
        exact j_iret E rfl (le_ rfl) (le_ rfl) dL_bottled_10
/-- sell, or -99 where it is refused -/
def f_L_sold (X : XT) (v1 v2 v3 : Int32) : Option (Int32 × XT) := match f_X11_sell X v1 v2 v3 with
  | some q => some q
  | none => match t_X11_sell X v1 v2 v3 with
    | some 0 => some ((-99), X)
    | _ => none
set_option maxRecDepth 20000 in
theorem c_L_sold {l : Launch} (hl : l.stackTraces = false) {D : DD} {z : Nat} {Y : YT} {X : XT} {v1 v2 v3 : Int32} {r : Int32} {X' : XT} (hf0 : f_L_sold X v1 v2 v3 = some (r, X')) : CW l yL_sold cL_sold 5 (some .int) [(0, 7, 8, 227)] (rmk 8 1 6) D z [.ref (z + aX 0 0 0), .int v1, .int v2, .int v3] (GG D z (X, Y)) (some (.int r)) (GG D z (X', Y)) := by
  unfold f_L_sold at hf0
  cases hf : f_X11_sell X v1 v2 v3 with
  | some q =>
    rw [hf] at hf0
    cases hf0
    refine cw_of pn_L (le_ rfl) (ls := [(0, .ref (z + aX 0 0 0)), (1, .int v1), (2, .int v2), (3, .int v3)]) rfl ?_
    intro p e s m args below meth c E hct
    refine j_aload_n E 0 rfl dL_sold_0 ?_
    refine j_iload_n E 1 rfl dL_sold_1 ?_
    refine j_iload_n E 2 rfl dL_sold_2 ?_
    refine j_iload_n E 3 rfl dL_sold_3 ?_
    refine j_invV [] [.int r] E (c_X11_sell hf) ml_L_232 mv_X11_sell rfl ⟨le_ rfl, le_ rfl⟩ (rcX ok0 cf_X11 ent0) rfl rfl (le_ rfl) ⟨le_ rfl, le_ rfl⟩ dL_sold_4 ?_
    exact j_iret E rfl (le_ rfl) (le_ rfl) dL_sold_7
  | none =>
    rw [hf] at hf0
    cases ht : t_X11_sell X v1 v2 v3 with
    | none =>
      rw [ht] at hf0
      cases hf0
    | some k0 =>
      rw [ht] at hf0
      match k0, ht, hf0 with
      | 0, ht, hf0 =>
        cases hf0
        refine cw_of pn_L (le_ rfl) (ls := [(0, .ref (z + aX 0 0 0)), (1, .int v1), (2, .int v2), (3, .int v3)]) rfl ?_
        intro p e s m args below meth c E hct
        refine j_aload_n E 0 rfl dL_sold_0 ?_
        refine j_iload_n E 1 rfl dL_sold_1 ?_
        refine j_iload_n E 2 rfl dL_sold_2 ?_
        refine j_iload_n E 3 rfl dL_sold_3 ?_
        refine j_catchV [] ⟨0, 7, 8, 227⟩ [] [] E hct rfl (fun _ h => by cases h) (by decide) (by decide) cl_L_227 cb_0 (tc_X11_sell hl ht) ml_L_232 mv_X11_sell rfl ⟨le_ rfl, le_ rfl⟩ (rcX ok0 cf_X11 ent0) rfl (le_ rfl) ⟨le_ rfl, le_ rfl⟩ dL_sold_4 (fun q => ?_)
        refine j_astore (ls' := [(4, .ref q), (0, .ref (z + aX 0 0 0)), (1, .int v1), (2, .int v2), (3, .int v3)]) E (lt_ rfl) rfl dL_sold_8 ?_
        refine j_bipush E (-99) bp_m99 dL_sold_10 ?_
        exact j_iret E rfl (le_ rfl) (le_ rfl) dL_sold_12
/-- payLoad, or -99 where it is refused -/
def f_L_paid (X : XT) (v1 : Int32) : Option (Int32 × XT) := match f_X11_payLoad X v1 with
  | some q => some q
  | none => match t_X11_payLoad X v1 with
    | some 0 => some ((-99), X)
    | _ => none
set_option maxRecDepth 20000 in
theorem c_L_paid {l : Launch} (hl : l.stackTraces = false) {D : DD} {z : Nat} {Y : YT} {X : XT} {v1 : Int32} {r : Int32} {X' : XT} (hf0 : f_L_paid X v1 = some (r, X')) : CW l yL_paid cL_paid 3 (some .int) [(0, 5, 6, 227)] (rmk 8 1 6) D z [.ref (z + aX 0 0 0), .int v1] (GG D z (X, Y)) (some (.int r)) (GG D z (X', Y)) := by
  unfold f_L_paid at hf0
  cases hf : f_X11_payLoad X v1 with
  | some q =>
    rw [hf] at hf0
    cases hf0
    refine cw_of pn_L (le_ rfl) (ls := [(0, .ref (z + aX 0 0 0)), (1, .int v1)]) rfl ?_
    intro p e s m args below meth c E hct
    refine j_aload_n E 0 rfl dL_paid_0 ?_
    refine j_iload_n E 1 rfl dL_paid_1 ?_
    refine j_invV [] [.int r] E (c_X11_payLoad hf) ml_L_235 mv_X11_payLoad rfl ⟨le_ rfl, le_ rfl⟩ (rcX ok0 cf_X11 ent0) rfl rfl (le_ rfl) ⟨le_ rfl, le_ rfl⟩ dL_paid_2 ?_
    exact j_iret E rfl (le_ rfl) (le_ rfl) dL_paid_5
  | none =>
    rw [hf] at hf0
    cases ht : t_X11_payLoad X v1 with
    | none =>
      rw [ht] at hf0
      cases hf0
    | some k0 =>
      rw [ht] at hf0
      match k0, ht, hf0 with
      | 0, ht, hf0 =>
        cases hf0
        refine cw_of pn_L (le_ rfl) (ls := [(0, .ref (z + aX 0 0 0)), (1, .int v1)]) rfl ?_
        intro p e s m args below meth c E hct
        refine j_aload_n E 0 rfl dL_paid_0 ?_
        refine j_iload_n E 1 rfl dL_paid_1 ?_
        refine j_catchV [] ⟨0, 5, 6, 227⟩ [] [] E hct rfl (fun _ h => by cases h) (by decide) (by decide) cl_L_227 cb_0 (tc_X11_payLoad hl ht) ml_L_235 mv_X11_payLoad rfl ⟨le_ rfl, le_ rfl⟩ (rcX ok0 cf_X11 ent0) rfl (le_ rfl) ⟨le_ rfl, le_ rfl⟩ dL_paid_2 (fun q => ?_)
        refine j_astore_n (ls' := [(2, .ref q), (0, .ref (z + aX 0 0 0)), (1, .int v1)]) E (lt_ rfl) rfl dL_paid_6 ?_
        refine j_bipush E (-99) bp_m99 dL_paid_7 ?_
        exact j_iret E rfl (le_ rfl) (le_ rfl) dL_paid_9
/-- payGrower, or -99 where it is refused -/
def f_L_settled (X : XT) (v1 : Int32) : Option (Int32 × XT) := match f_X11_payGrower X v1 with
  | some q => some q
  | none => match t_X11_payGrower X v1 with
    | some 0 => some ((-99), X)
    | _ => none
set_option maxRecDepth 20000 in
theorem c_L_settled {l : Launch} (hl : l.stackTraces = false) {D : DD} {z : Nat} {Y : YT} {X : XT} {v1 : Int32} {r : Int32} {X' : XT} (hf0 : f_L_settled X v1 = some (r, X')) : CW l yL_settled cL_settled 3 (some .int) [(0, 5, 6, 227)] (rmk 8 1 6) D z [.ref (z + aX 0 0 0), .int v1] (GG D z (X, Y)) (some (.int r)) (GG D z (X', Y)) := by
  unfold f_L_settled at hf0
  cases hf : f_X11_payGrower X v1 with
  | some q =>
    rw [hf] at hf0
    cases hf0
    refine cw_of pn_L (le_ rfl) (ls := [(0, .ref (z + aX 0 0 0)), (1, .int v1)]) rfl ?_
    intro p e s m args below meth c E hct
    refine j_aload_n E 0 rfl dL_settled_0 ?_
    refine j_iload_n E 1 rfl dL_settled_1 ?_
    refine j_invV [] [.int r] E (c_X11_payGrower hf) ml_L_238 mv_X11_payGrower rfl ⟨le_ rfl, le_ rfl⟩ (rcX ok0 cf_X11 ent0) rfl rfl (le_ rfl) ⟨le_ rfl, le_ rfl⟩ dL_settled_2 ?_
    exact j_iret E rfl (le_ rfl) (le_ rfl) dL_settled_5
  | none =>
    rw [hf] at hf0
    cases ht : t_X11_payGrower X v1 with
    | none =>
      rw [ht] at hf0
      cases hf0
    | some k0 =>
      rw [ht] at hf0
      match k0, ht, hf0 with
      | 0, ht, hf0 =>
        cases hf0
        refine cw_of pn_L (le_ rfl) (ls := [(0, .ref (z + aX 0 0 0)), (1, .int v1)]) rfl ?_
        intro p e s m args below meth c E hct
        refine j_aload_n E 0 rfl dL_settled_0 ?_
        refine j_iload_n E 1 rfl dL_settled_1 ?_
        refine j_catchV [] ⟨0, 5, 6, 227⟩ [] [] E hct rfl (fun _ h => by cases h) (by decide) (by decide) cl_L_227 cb_0 (tc_X11_payGrower hl ht) ml_L_238 mv_X11_payGrower rfl ⟨le_ rfl, le_ rfl⟩ (rcX ok0 cf_X11 ent0) rfl (le_ rfl) ⟨le_ rfl, le_ rfl⟩ dL_settled_2 (fun q => ?_)
        refine j_astore_n (ls' := [(2, .ref q), (0, .ref (z + aX 0 0 0)), (1, .int v1)]) E (lt_ rfl) rfl dL_settled_6 ?_
        refine j_bipush E (-99) bp_m99 dL_settled_7 ?_
        exact j_iret E rfl (le_ rfl) (le_ rfl) dL_settled_9
/-- pump, or -99 where it is refused -/
def f_L_pumped (X : XT) (v1 v2 : Int32) : Option (Int32 × XT) := match f_X11_pump X v1 v2 with
  | some q => some q
  | none => match t_X11_pump X v1 v2 with
    | some 0 => some ((-99), X)
    | _ => none
set_option maxRecDepth 20000 in
theorem c_L_pumped {l : Launch} (hl : l.stackTraces = false) {D : DD} {z : Nat} {Y : YT} {X : XT} {v1 v2 : Int32} {r : Int32} {X' : XT} (hf0 : f_L_pumped X v1 v2 = some (r, X')) : CW l yL_pumped cL_pumped 4 (some .int) [(0, 6, 7, 227)] (rmk 8 1 6) D z [.ref (z + aX 0 0 0), .int v1, .int v2] (GG D z (X, Y)) (some (.int r)) (GG D z (X', Y)) := by
  unfold f_L_pumped at hf0
  cases hf : f_X11_pump X v1 v2 with
  | some q =>
    rw [hf] at hf0
    cases hf0
    refine cw_of pn_L (le_ rfl) (ls := [(0, .ref (z + aX 0 0 0)), (1, .int v1), (2, .int v2)]) rfl ?_
    intro p e s m args below meth c E hct
    refine j_aload_n E 0 rfl dL_pumped_0 ?_
    refine j_iload_n E 1 rfl dL_pumped_1 ?_
    refine j_iload_n E 2 rfl dL_pumped_2 ?_
    refine j_invV [] [.int r] E (c_X11_pump hf) ml_L_241 mv_X11_pump rfl ⟨le_ rfl, le_ rfl⟩ (rcX ok0 cf_X11 ent0) rfl rfl (le_ rfl) ⟨le_ rfl, le_ rfl⟩ dL_pumped_3 ?_
    exact j_iret E rfl (le_ rfl) (le_ rfl) dL_pumped_6
  | none =>
    rw [hf] at hf0
    cases ht : t_X11_pump X v1 v2 with
    | none =>
      rw [ht] at hf0
      cases hf0
    | some k0 =>
      rw [ht] at hf0
      match k0, ht, hf0 with
      | 0, ht, hf0 =>
        cases hf0
        refine cw_of pn_L (le_ rfl) (ls := [(0, .ref (z + aX 0 0 0)), (1, .int v1), (2, .int v2)]) rfl ?_
        intro p e s m args below meth c E hct
        refine j_aload_n E 0 rfl dL_pumped_0 ?_
        refine j_iload_n E 1 rfl dL_pumped_1 ?_
        refine j_iload_n E 2 rfl dL_pumped_2 ?_
        refine j_catchV [] ⟨0, 6, 7, 227⟩ [] [] E hct rfl (fun _ h => by cases h) (by decide) (by decide) cl_L_227 cb_0 (tc_X11_pump hl ht) ml_L_241 mv_X11_pump rfl ⟨le_ rfl, le_ rfl⟩ (rcX ok0 cf_X11 ent0) rfl (le_ rfl) ⟨le_ rfl, le_ rfl⟩ dL_pumped_3 (fun q => ?_)
        refine j_astore_n (ls' := [(3, .ref q), (0, .ref (z + aX 0 0 0)), (1, .int v1), (2, .int v2)]) E (lt_ rfl) rfl dL_pumped_7 ?_
        refine j_bipush E (-99) bp_m99 dL_pumped_8 ?_
        exact j_iret E rfl (le_ rfl) (le_ rfl) dL_pumped_10
