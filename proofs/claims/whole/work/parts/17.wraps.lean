theorem w_append {l : Launch} {D : DD} {z : Nat} {X : XT} {M : MT} {o : Int64} {f1 : Nat} {v1 v2 v3 v4 v5 : Int32} {X' : XT} {r : Int32} (hf : f_X11_append X v1 v2 v3 v4 v5 = some (r, X')) : CW l yL_append cL_append 8 (some .int) [(0, 16, 19, 13)] (rmk 4 0 0) D z [.ref (z + aX 0 0 0), .int v1, .int v2, .int v3, .int v4, .int v5, .ref (z + 537)] (GG D z (X, (f1 + 2, M, o))) (some (.int 0)) (GG D z (X', (f1 + 2, M, r.toInt64))) := by
  refine cw_of pn_L (le_ rfl) (ls := [(0, .ref (z + aX 0 0 0)), (1, .int v1), (2, .int v2), (3, .int v3), (4, .int v4), (5, .int v5), (6, .ref (z + 537))]) rfl ?_
  intro p e s m args below meth c E hct
  refine j_aload E 6 rfl dL_append_0 ?_
  refine j_iconst E 0 ic_0 dL_append_2 ?_
  refine j_aload_n E 0 rfl dL_append_3 ?_
  refine j_iload_n E 1 rfl dL_append_4 ?_
  refine j_iload_n E 2 rfl dL_append_5 ?_
  refine j_iload_n E 3 rfl dL_append_6 ?_
  refine j_iload E 4 rfl dL_append_7 ?_
  refine j_iload E 5 rfl dL_append_9 ?_
  refine j_invV [.int 0, .ref (z + 537)] [.int r, .int 0, .ref (z + 537)] E (c_X11_append hf) ml_L_7 mv_X11_append rfl ⟨le_ rfl, le_ rfl⟩ (rcX ok0 cf_X11 ent0) rfl rfl (le_ rfl) ⟨le_ rfl, le_ rfl⟩ dL_append_11 ?_
  refine j_i2l E dL_append_14 ?_
  refine j_lastO E dL_append_15 ?_
  refine j_goto E 23 (by decide) dL_append_16 ?_
  refine j_iconst E 0 ic_0 dL_append_23 ?_
  exact j_iret E rfl (le_ rfl) (le_ rfl) dL_append_24
theorem wx_append_0 {l : Launch} {D : DD} {z : Nat} {X : XT} {M : MT} {o : Int64} {f1 : Nat} {v1 v2 v3 v4 v5 : Int32} (hl : l.stackTraces = false) (hf : t_X11_append X v1 v2 v3 v4 v5 = some 0) : CW l yL_append cL_append 8 (some .int) [(0, 16, 19, 13)] (rmk 7 1 6) D z [.ref (z + aX 0 0 0), .int v1, .int v2, .int v3, .int v4, .int v5, .ref (z + 537)] (GG D z (X, (f1 + 2, M, o))) (some (.int 1)) (GG D z (X, (f1 + 2, M, o))) := by
  refine cw_of pn_L (le_ rfl) (ls := [(0, .ref (z + aX 0 0 0)), (1, .int v1), (2, .int v2), (3, .int v3), (4, .int v4), (5, .int v5), (6, .ref (z + 537))]) rfl ?_
  intro p e s m args below meth c E hct
  refine j_aload E 6 rfl dL_append_0 ?_
  refine j_iconst E 0 ic_0 dL_append_2 ?_
  refine j_aload_n E 0 rfl dL_append_3 ?_
  refine j_iload_n E 1 rfl dL_append_4 ?_
  refine j_iload_n E 2 rfl dL_append_5 ?_
  refine j_iload_n E 3 rfl dL_append_6 ?_
  refine j_iload E 4 rfl dL_append_7 ?_
  refine j_iload E 5 rfl dL_append_9 ?_
  refine j_catchV [] ⟨0, 16, 19, 13⟩ [] [.int 0, .ref (z + 537)] E hct rfl (fun _ h => by cases h) (by decide) (by decide) cl_L_13 cb_0 (tc_X11_append hl hf) ml_L_7 mv_X11_append rfl ⟨le_ rfl, le_ rfl⟩ (rcX ok0 cf_X11 ent0) rfl (le_ rfl) ⟨le_ rfl, le_ rfl⟩ dL_append_11 (fun q => ?_)
  refine j_astore (ls' := [(7, .ref q), (0, .ref (z + aX 0 0 0)), (1, .int v1), (2, .int v2), (3, .int v3), (4, .int v4), (5, .int v5), (6, .ref (z + 537))]) E (lt_ rfl) rfl dL_append_19 ?_
  refine j_iconst E 1 ic_1 dL_append_21 ?_
  exact j_iret E rfl (le_ rfl) (le_ rfl) dL_append_22
theorem w_truncate {l : Launch} {D : DD} {z : Nat} {X : XT} {M : MT} {o : Int64} {f1 : Nat} {v1 : Int32} {X' : XT} {r : Int32} (hf : f_X11_truncate X v1 = some (r, X')) : CW l yL_truncate cL_truncate 4 (some .int) [(0, 9, 12, 19)] (rmk 2 0 0) D z [.ref (z + aX 0 0 0), .int v1, .ref (z + 537)] (GG D z (X, (f1 + 2, M, o))) (some (.int 0)) (GG D z (X', (f1 + 2, M, r.toInt64))) := by
  refine cw_of pn_L (le_ rfl) (ls := [(0, .ref (z + aX 0 0 0)), (1, .int v1), (2, .ref (z + 537))]) rfl ?_
  intro p e s m args below meth c E hct
  refine j_aload_n E 2 rfl dL_truncate_0 ?_
  refine j_iconst E 0 ic_0 dL_truncate_1 ?_
  refine j_aload_n E 0 rfl dL_truncate_2 ?_
  refine j_iload_n E 1 rfl dL_truncate_3 ?_
  refine j_invV [.int 0, .ref (z + 537)] [.int r, .int 0, .ref (z + 537)] E (c_X11_truncate hf) ml_L_15 mv_X11_truncate rfl ⟨le_ rfl, le_ rfl⟩ (rcX ok0 cf_X11 ent0) rfl rfl (le_ rfl) ⟨le_ rfl, le_ rfl⟩ dL_truncate_4 ?_
  refine j_i2l E dL_truncate_7 ?_
  refine j_lastO E dL_truncate_8 ?_
  refine j_goto E 15 (by decide) dL_truncate_9 ?_
  refine j_iconst E 0 ic_0 dL_truncate_15 ?_
  exact j_iret E rfl (le_ rfl) (le_ rfl) dL_truncate_16
theorem wx_truncate_1 {l : Launch} {D : DD} {z : Nat} {X : XT} {M : MT} {o : Int64} {f1 : Nat} {v1 : Int32} (hl : l.stackTraces = false) (hf : t_X11_truncate X v1 = some 1) : CW l yL_truncate cL_truncate 4 (some .int) [(0, 9, 12, 19)] (rmk 7 1 6) D z [.ref (z + aX 0 0 0), .int v1, .ref (z + 537)] (GG D z (X, (f1 + 2, M, o))) (some (.int 1)) (GG D z (X, (f1 + 2, M, o))) := by
  refine cw_of pn_L (le_ rfl) (ls := [(0, .ref (z + aX 0 0 0)), (1, .int v1), (2, .ref (z + 537))]) rfl ?_
  intro p e s m args below meth c E hct
  refine j_aload_n E 2 rfl dL_truncate_0 ?_
  refine j_iconst E 0 ic_0 dL_truncate_1 ?_
  refine j_aload_n E 0 rfl dL_truncate_2 ?_
  refine j_iload_n E 1 rfl dL_truncate_3 ?_
  refine j_catchV [] ⟨0, 9, 12, 19⟩ [] [.int 0, .ref (z + 537)] E hct rfl (fun _ h => by cases h) (by decide) (by decide) cl_L_19 cb_1 (tc_X11_truncate hl hf) ml_L_15 mv_X11_truncate rfl ⟨le_ rfl, le_ rfl⟩ (rcX ok0 cf_X11 ent0) rfl (le_ rfl) ⟨le_ rfl, le_ rfl⟩ dL_truncate_4 (fun q => ?_)
  refine j_astore_n (ls' := [(3, .ref q), (0, .ref (z + aX 0 0 0)), (1, .int v1), (2, .ref (z + 537))]) E (lt_ rfl) rfl dL_truncate_12 ?_
  refine j_iconst E 1 ic_1 dL_truncate_13 ?_
  exact j_iret E rfl (le_ rfl) (le_ rfl) dL_truncate_14
theorem w_classBySugar {l : Launch} {D : DD} {z : Nat} {X : XT} {M : MT} {o : Int64} {f1 : Nat} {v1 : Int32} {r : Int32} (hf : f_X11_classBySugar X v1 = some r) : CW l yL_classBySugar cL_classBySugar 4 (some .int) [(0, 9, 12, 19)] (rmk 3 0 0) D z [.ref (z + aX 0 0 0), .int v1, .ref (z + 537)] (GG D z (X, (f1 + 2, M, o))) (some (.int 0)) (GG D z (X, (f1 + 2, M, r.toInt64))) := by
  refine cw_of pn_L (le_ rfl) (ls := [(0, .ref (z + aX 0 0 0)), (1, .int v1), (2, .ref (z + 537))]) rfl ?_
  intro p e s m args below meth c E hct
  refine j_aload_n E 2 rfl dL_classBySugar_0 ?_
  refine j_iconst E 0 ic_0 dL_classBySugar_1 ?_
  refine j_aload_n E 0 rfl dL_classBySugar_2 ?_
  refine j_iload_n E 1 rfl dL_classBySugar_3 ?_
  refine j_invV [.int 0, .ref (z + 537)] [.int r, .int 0, .ref (z + 537)] E (c_X11_classBySugar hf) ml_L_21 mv_X11_classBySugar rfl ⟨le_ rfl, le_ rfl⟩ (rcX ok0 cf_X11 ent0) rfl rfl (le_ rfl) ⟨le_ rfl, le_ rfl⟩ dL_classBySugar_4 ?_
  refine j_i2l E dL_classBySugar_7 ?_
  refine j_lastO E dL_classBySugar_8 ?_
  refine j_goto E 15 (by decide) dL_classBySugar_9 ?_
  refine j_iconst E 0 ic_0 dL_classBySugar_15 ?_
  exact j_iret E rfl (le_ rfl) (le_ rfl) dL_classBySugar_16
theorem wx_classBySugar_1 {l : Launch} {D : DD} {z : Nat} {X : XT} {M : MT} {o : Int64} {f1 : Nat} {v1 : Int32} (hl : l.stackTraces = false) (hf : t_X11_classBySugar X v1 = some 1) : CW l yL_classBySugar cL_classBySugar 4 (some .int) [(0, 9, 12, 19)] (rmk 8 1 6) D z [.ref (z + aX 0 0 0), .int v1, .ref (z + 537)] (GG D z (X, (f1 + 2, M, o))) (some (.int 1)) (GG D z (X, (f1 + 2, M, o))) := by
  refine cw_of pn_L (le_ rfl) (ls := [(0, .ref (z + aX 0 0 0)), (1, .int v1), (2, .ref (z + 537))]) rfl ?_
  intro p e s m args below meth c E hct
  refine j_aload_n E 2 rfl dL_classBySugar_0 ?_
  refine j_iconst E 0 ic_0 dL_classBySugar_1 ?_
  refine j_aload_n E 0 rfl dL_classBySugar_2 ?_
  refine j_iload_n E 1 rfl dL_classBySugar_3 ?_
  refine j_catchV [] ⟨0, 9, 12, 19⟩ [] [.int 0, .ref (z + 537)] E hct rfl (fun _ h => by cases h) (by decide) (by decide) cl_L_19 cb_1 (tc_X11_classBySugar hl hf) ml_L_21 mv_X11_classBySugar rfl ⟨le_ rfl, le_ rfl⟩ (rcX ok0 cf_X11 ent0) rfl (le_ rfl) ⟨le_ rfl, le_ rfl⟩ dL_classBySugar_4 (fun q => ?_)
  refine j_astore_n (ls' := [(3, .ref q), (0, .ref (z + aX 0 0 0)), (1, .int v1), (2, .ref (z + 537))]) E (lt_ rfl) rfl dL_classBySugar_12 ?_
  refine j_iconst E 1 ic_1 dL_classBySugar_13 ?_
  exact j_iret E rfl (le_ rfl) (le_ rfl) dL_classBySugar_14
theorem w_price {l : Launch} {D : DD} {z : Nat} {X : XT} {M : MT} {o : Int64} {f1 : Nat} {v1 v2 : Int32} {r : Int32} (hf : f_X11_price X v1 v2 = some r) : CW l yL_price cL_price 5 (some .int) [(0, 10, 13, 28)] (rmk 4 0 0) D z [.ref (z + aX 0 0 0), .int v1, .int v2, .ref (z + 537)] (GG D z (X, (f1 + 2, M, o))) (some (.int 0)) (GG D z (X, (f1 + 2, M, r.toInt64))) := by
  refine cw_of pn_L (le_ rfl) (ls := [(0, .ref (z + aX 0 0 0)), (1, .int v1), (2, .int v2), (3, .ref (z + 537))]) rfl ?_
  intro p e s m args below meth c E hct
  refine j_aload_n E 3 rfl dL_price_0 ?_
  refine j_iconst E 0 ic_0 dL_price_1 ?_
  refine j_aload_n E 0 rfl dL_price_2 ?_
  refine j_iload_n E 1 rfl dL_price_3 ?_
  refine j_iload_n E 2 rfl dL_price_4 ?_
  refine j_invV [.int 0, .ref (z + 537)] [.int r, .int 0, .ref (z + 537)] E (c_X11_price hf) ml_L_24 mv_X11_price rfl ⟨le_ rfl, le_ rfl⟩ (rcX ok0 cf_X11 ent0) rfl rfl (le_ rfl) ⟨le_ rfl, le_ rfl⟩ dL_price_5 ?_
  refine j_i2l E dL_price_8 ?_
  refine j_lastO E dL_price_9 ?_
  refine j_goto E 17 (by decide) dL_price_10 ?_
  refine j_iconst E 0 ic_0 dL_price_17 ?_
  exact j_iret E rfl (le_ rfl) (le_ rfl) dL_price_18
theorem wx_price_2 {l : Launch} {D : DD} {z : Nat} {X : XT} {M : MT} {o : Int64} {f1 : Nat} {v1 v2 : Int32} (hl : l.stackTraces = false) (hf : t_X11_price X v1 v2 = some 2) : CW l yL_price cL_price 5 (some .int) [(0, 10, 13, 28)] (rmk 8 1 6) D z [.ref (z + aX 0 0 0), .int v1, .int v2, .ref (z + 537)] (GG D z (X, (f1 + 2, M, o))) (some (.int 1)) (GG D z (X, (f1 + 2, M, o))) := by
  refine cw_of pn_L (le_ rfl) (ls := [(0, .ref (z + aX 0 0 0)), (1, .int v1), (2, .int v2), (3, .ref (z + 537))]) rfl ?_
  intro p e s m args below meth c E hct
  refine j_aload_n E 3 rfl dL_price_0 ?_
  refine j_iconst E 0 ic_0 dL_price_1 ?_
  refine j_aload_n E 0 rfl dL_price_2 ?_
  refine j_iload_n E 1 rfl dL_price_3 ?_
  refine j_iload_n E 2 rfl dL_price_4 ?_
  refine j_catchV [] ⟨0, 10, 13, 28⟩ [] [.int 0, .ref (z + 537)] E hct rfl (fun _ h => by cases h) (by decide) (by decide) cl_L_28 cb_2 (tc_X11_price hl hf) ml_L_24 mv_X11_price rfl ⟨le_ rfl, le_ rfl⟩ (rcX ok0 cf_X11 ent0) rfl (le_ rfl) ⟨le_ rfl, le_ rfl⟩ dL_price_5 (fun q => ?_)
  refine j_astore (ls' := [(4, .ref q), (0, .ref (z + aX 0 0 0)), (1, .int v1), (2, .int v2), (3, .ref (z + 537))]) E (lt_ rfl) rfl dL_price_13 ?_
  refine j_iconst E 1 ic_1 dL_price_15 ?_
  exact j_iret E rfl (le_ rfl) (le_ rfl) dL_price_16
theorem w_weightOfClass {l : Launch} {D : DD} {z : Nat} {X : XT} {M : MT} {o : Int64} {f1 : Nat} {v1 v2 : Int32} {r : Int32} (hf : f_X11_weightOfClass X v1 v2 = some r) : CW l yL_weightOfClass cL_weightOfClass 5 (some .int) [(0, 10, 13, 28)] (rmk 4 0 0) D z [.ref (z + aX 0 0 0), .int v1, .int v2, .ref (z + 537)] (GG D z (X, (f1 + 2, M, o))) (some (.int 0)) (GG D z (X, (f1 + 2, M, r.toInt64))) := by
  refine cw_of pn_L (le_ rfl) (ls := [(0, .ref (z + aX 0 0 0)), (1, .int v1), (2, .int v2), (3, .ref (z + 537))]) rfl ?_
  intro p e s m args below meth c E hct
  refine j_aload_n E 3 rfl dL_weightOfClass_0 ?_
  refine j_iconst E 0 ic_0 dL_weightOfClass_1 ?_
  refine j_aload_n E 0 rfl dL_weightOfClass_2 ?_
  refine j_iload_n E 1 rfl dL_weightOfClass_3 ?_
  refine j_iload_n E 2 rfl dL_weightOfClass_4 ?_
  refine j_invV [.int 0, .ref (z + 537)] [.int r, .int 0, .ref (z + 537)] E (c_X11_weightOfClass hf) ml_L_30 mv_X11_weightOfClass rfl ⟨le_ rfl, le_ rfl⟩ (rcX ok0 cf_X11 ent0) rfl rfl (le_ rfl) ⟨le_ rfl, le_ rfl⟩ dL_weightOfClass_5 ?_
  refine j_i2l E dL_weightOfClass_8 ?_
  refine j_lastO E dL_weightOfClass_9 ?_
  refine j_goto E 17 (by decide) dL_weightOfClass_10 ?_
  refine j_iconst E 0 ic_0 dL_weightOfClass_17 ?_
  exact j_iret E rfl (le_ rfl) (le_ rfl) dL_weightOfClass_18
theorem wx_weightOfClass_2 {l : Launch} {D : DD} {z : Nat} {X : XT} {M : MT} {o : Int64} {f1 : Nat} {v1 v2 : Int32} (hl : l.stackTraces = false) (hf : t_X11_weightOfClass X v1 v2 = some 2) : CW l yL_weightOfClass cL_weightOfClass 5 (some .int) [(0, 10, 13, 28)] (rmk 8 1 6) D z [.ref (z + aX 0 0 0), .int v1, .int v2, .ref (z + 537)] (GG D z (X, (f1 + 2, M, o))) (some (.int 1)) (GG D z (X, (f1 + 2, M, o))) := by
  refine cw_of pn_L (le_ rfl) (ls := [(0, .ref (z + aX 0 0 0)), (1, .int v1), (2, .int v2), (3, .ref (z + 537))]) rfl ?_
  intro p e s m args below meth c E hct
  refine j_aload_n E 3 rfl dL_weightOfClass_0 ?_
  refine j_iconst E 0 ic_0 dL_weightOfClass_1 ?_
  refine j_aload_n E 0 rfl dL_weightOfClass_2 ?_
  refine j_iload_n E 1 rfl dL_weightOfClass_3 ?_
  refine j_iload_n E 2 rfl dL_weightOfClass_4 ?_
  refine j_catchV [] ⟨0, 10, 13, 28⟩ [] [.int 0, .ref (z + 537)] E hct rfl (fun _ h => by cases h) (by decide) (by decide) cl_L_28 cb_2 (tc_X11_weightOfClass hl hf) ml_L_30 mv_X11_weightOfClass rfl ⟨le_ rfl, le_ rfl⟩ (rcX ok0 cf_X11 ent0) rfl (le_ rfl) ⟨le_ rfl, le_ rfl⟩ dL_weightOfClass_5 (fun q => ?_)
  refine j_astore (ls' := [(4, .ref q), (0, .ref (z + aX 0 0 0)), (1, .int v1), (2, .int v2), (3, .ref (z + 537))]) E (lt_ rfl) rfl dL_weightOfClass_13 ?_
  refine j_iconst E 1 ic_1 dL_weightOfClass_15 ?_
  exact j_iret E rfl (le_ rfl) (le_ rfl) dL_weightOfClass_16
theorem w_classInOrder {l : Launch} {D : DD} {z : Nat} {X : XT} {M : MT} {o : Int64} {f1 : Nat} {v1 : Int32} {r : Int32} (hf : f_X11_classInOrder X v1 = some r) : CW l yL_classInOrder cL_classInOrder 4 (some .int) [(0, 9, 12, 36)] (rmk 5 0 0) D z [.ref (z + aX 0 0 0), .int v1, .ref (z + 537)] (GG D z (X, (f1 + 2, M, o))) (some (.int 0)) (GG D z (X, (f1 + 2, M, r.toInt64))) := by
  refine cw_of pn_L (le_ rfl) (ls := [(0, .ref (z + aX 0 0 0)), (1, .int v1), (2, .ref (z + 537))]) rfl ?_
  intro p e s m args below meth c E hct
  refine j_aload_n E 2 rfl dL_classInOrder_0 ?_
  refine j_iconst E 0 ic_0 dL_classInOrder_1 ?_
  refine j_aload_n E 0 rfl dL_classInOrder_2 ?_
  refine j_iload_n E 1 rfl dL_classInOrder_3 ?_
  refine j_invV [.int 0, .ref (z + 537)] [.int r, .int 0, .ref (z + 537)] E (c_X11_classInOrder hf) ml_L_33 mv_X11_classInOrder rfl ⟨le_ rfl, le_ rfl⟩ (rcX ok0 cf_X11 ent0) rfl rfl (le_ rfl) ⟨le_ rfl, le_ rfl⟩ dL_classInOrder_4 ?_
  refine j_i2l E dL_classInOrder_7 ?_
  refine j_lastO E dL_classInOrder_8 ?_
  refine j_goto E 15 (by decide) dL_classInOrder_9 ?_
  refine j_iconst E 0 ic_0 dL_classInOrder_15 ?_
  exact j_iret E rfl (le_ rfl) (le_ rfl) dL_classInOrder_16
theorem wx_classInOrder_3 {l : Launch} {D : DD} {z : Nat} {X : XT} {M : MT} {o : Int64} {f1 : Nat} {v1 : Int32} (hl : l.stackTraces = false) (hf : t_X11_classInOrder X v1 = some 3) : CW l yL_classInOrder cL_classInOrder 4 (some .int) [(0, 9, 12, 36)] (rmk 7 1 6) D z [.ref (z + aX 0 0 0), .int v1, .ref (z + 537)] (GG D z (X, (f1 + 2, M, o))) (some (.int 1)) (GG D z (X, (f1 + 2, M, o))) := by
  refine cw_of pn_L (le_ rfl) (ls := [(0, .ref (z + aX 0 0 0)), (1, .int v1), (2, .ref (z + 537))]) rfl ?_
  intro p e s m args below meth c E hct
  refine j_aload_n E 2 rfl dL_classInOrder_0 ?_
  refine j_iconst E 0 ic_0 dL_classInOrder_1 ?_
  refine j_aload_n E 0 rfl dL_classInOrder_2 ?_
  refine j_iload_n E 1 rfl dL_classInOrder_3 ?_
  refine j_catchV [] ⟨0, 9, 12, 36⟩ [] [.int 0, .ref (z + 537)] E hct rfl (fun _ h => by cases h) (by decide) (by decide) cl_L_36 cb_3 (tc_X11_classInOrder hl hf) ml_L_33 mv_X11_classInOrder rfl ⟨le_ rfl, le_ rfl⟩ (rcX ok0 cf_X11 ent0) rfl (le_ rfl) ⟨le_ rfl, le_ rfl⟩ dL_classInOrder_4 (fun q => ?_)
  refine j_astore_n (ls' := [(3, .ref q), (0, .ref (z + aX 0 0 0)), (1, .int v1), (2, .ref (z + 537))]) E (lt_ rfl) rfl dL_classInOrder_12 ?_
  refine j_iconst E 1 ic_1 dL_classInOrder_13 ?_
  exact j_iret E rfl (le_ rfl) (le_ rfl) dL_classInOrder_14
theorem w_plotsOf {l : Launch} {D : DD} {z : Nat} {X : XT} {M : MT} {o : Int64} {f1 : Nat} {v1 : Int32} {r : Int32} (hf : f_X11_plotsOf X v1 = some r) : CW l yL_plotsOf cL_plotsOf 4 (some .int) [(0, 9, 12, 28)] (rmk 3 0 0) D z [.ref (z + aX 0 0 0), .int v1, .ref (z + 537)] (GG D z (X, (f1 + 2, M, o))) (some (.int 0)) (GG D z (X, (f1 + 2, M, r.toInt64))) := by
  refine cw_of pn_L (le_ rfl) (ls := [(0, .ref (z + aX 0 0 0)), (1, .int v1), (2, .ref (z + 537))]) rfl ?_
  intro p e s m args below meth c E hct
  refine j_aload_n E 2 rfl dL_plotsOf_0 ?_
  refine j_iconst E 0 ic_0 dL_plotsOf_1 ?_
  refine j_aload_n E 0 rfl dL_plotsOf_2 ?_
  refine j_iload_n E 1 rfl dL_plotsOf_3 ?_
  refine j_invV [.int 0, .ref (z + 537)] [.int r, .int 0, .ref (z + 537)] E (c_X11_plotsOf hf) ml_L_38 mv_X11_plotsOf rfl ⟨le_ rfl, le_ rfl⟩ (rcX ok0 cf_X11 ent0) rfl rfl (le_ rfl) ⟨le_ rfl, le_ rfl⟩ dL_plotsOf_4 ?_
  refine j_i2l E dL_plotsOf_7 ?_
  refine j_lastO E dL_plotsOf_8 ?_
  refine j_goto E 15 (by decide) dL_plotsOf_9 ?_
  refine j_iconst E 0 ic_0 dL_plotsOf_15 ?_
  exact j_iret E rfl (le_ rfl) (le_ rfl) dL_plotsOf_16
theorem wx_plotsOf_2 {l : Launch} {D : DD} {z : Nat} {X : XT} {M : MT} {o : Int64} {f1 : Nat} {v1 : Int32} (hl : l.stackTraces = false) (hf : t_X11_plotsOf X v1 = some 2) : CW l yL_plotsOf cL_plotsOf 4 (some .int) [(0, 9, 12, 28)] (rmk 8 1 6) D z [.ref (z + aX 0 0 0), .int v1, .ref (z + 537)] (GG D z (X, (f1 + 2, M, o))) (some (.int 1)) (GG D z (X, (f1 + 2, M, o))) := by
  refine cw_of pn_L (le_ rfl) (ls := [(0, .ref (z + aX 0 0 0)), (1, .int v1), (2, .ref (z + 537))]) rfl ?_
  intro p e s m args below meth c E hct
  refine j_aload_n E 2 rfl dL_plotsOf_0 ?_
  refine j_iconst E 0 ic_0 dL_plotsOf_1 ?_
  refine j_aload_n E 0 rfl dL_plotsOf_2 ?_
  refine j_iload_n E 1 rfl dL_plotsOf_3 ?_
  refine j_catchV [] ⟨0, 9, 12, 28⟩ [] [.int 0, .ref (z + 537)] E hct rfl (fun _ h => by cases h) (by decide) (by decide) cl_L_28 cb_2 (tc_X11_plotsOf hl hf) ml_L_38 mv_X11_plotsOf rfl ⟨le_ rfl, le_ rfl⟩ (rcX ok0 cf_X11 ent0) rfl (le_ rfl) ⟨le_ rfl, le_ rfl⟩ dL_plotsOf_4 (fun q => ?_)
  refine j_astore_n (ls' := [(3, .ref q), (0, .ref (z + aX 0 0 0)), (1, .int v1), (2, .ref (z + 537))]) E (lt_ rfl) rfl dL_plotsOf_12 ?_
  refine j_iconst E 1 ic_1 dL_plotsOf_13 ?_
  exact j_iret E rfl (le_ rfl) (le_ rfl) dL_plotsOf_14
theorem w_weightOf {l : Launch} {D : DD} {z : Nat} {X : XT} {M : MT} {o : Int64} {f1 : Nat} {v1 : Int32} {r : Int32} (hf : f_X11_weightOf X v1 = some r) : CW l yL_weightOf cL_weightOf 4 (some .int) [(0, 9, 12, 28)] (rmk 3 0 0) D z [.ref (z + aX 0 0 0), .int v1, .ref (z + 537)] (GG D z (X, (f1 + 2, M, o))) (some (.int 0)) (GG D z (X, (f1 + 2, M, r.toInt64))) := by
  refine cw_of pn_L (le_ rfl) (ls := [(0, .ref (z + aX 0 0 0)), (1, .int v1), (2, .ref (z + 537))]) rfl ?_
  intro p e s m args below meth c E hct
  refine j_aload_n E 2 rfl dL_weightOf_0 ?_
  refine j_iconst E 0 ic_0 dL_weightOf_1 ?_
  refine j_aload_n E 0 rfl dL_weightOf_2 ?_
  refine j_iload_n E 1 rfl dL_weightOf_3 ?_
  refine j_invV [.int 0, .ref (z + 537)] [.int r, .int 0, .ref (z + 537)] E (c_X11_weightOf hf) ml_L_41 mv_X11_weightOf rfl ⟨le_ rfl, le_ rfl⟩ (rcX ok0 cf_X11 ent0) rfl rfl (le_ rfl) ⟨le_ rfl, le_ rfl⟩ dL_weightOf_4 ?_
  refine j_i2l E dL_weightOf_7 ?_
  refine j_lastO E dL_weightOf_8 ?_
  refine j_goto E 15 (by decide) dL_weightOf_9 ?_
  refine j_iconst E 0 ic_0 dL_weightOf_15 ?_
  exact j_iret E rfl (le_ rfl) (le_ rfl) dL_weightOf_16
theorem wx_weightOf_2 {l : Launch} {D : DD} {z : Nat} {X : XT} {M : MT} {o : Int64} {f1 : Nat} {v1 : Int32} (hl : l.stackTraces = false) (hf : t_X11_weightOf X v1 = some 2) : CW l yL_weightOf cL_weightOf 4 (some .int) [(0, 9, 12, 28)] (rmk 8 1 6) D z [.ref (z + aX 0 0 0), .int v1, .ref (z + 537)] (GG D z (X, (f1 + 2, M, o))) (some (.int 1)) (GG D z (X, (f1 + 2, M, o))) := by
  refine cw_of pn_L (le_ rfl) (ls := [(0, .ref (z + aX 0 0 0)), (1, .int v1), (2, .ref (z + 537))]) rfl ?_
  intro p e s m args below meth c E hct
  refine j_aload_n E 2 rfl dL_weightOf_0 ?_
  refine j_iconst E 0 ic_0 dL_weightOf_1 ?_
  refine j_aload_n E 0 rfl dL_weightOf_2 ?_
  refine j_iload_n E 1 rfl dL_weightOf_3 ?_
  refine j_catchV [] ⟨0, 9, 12, 28⟩ [] [.int 0, .ref (z + 537)] E hct rfl (fun _ h => by cases h) (by decide) (by decide) cl_L_28 cb_2 (tc_X11_weightOf hl hf) ml_L_41 mv_X11_weightOf rfl ⟨le_ rfl, le_ rfl⟩ (rcX ok0 cf_X11 ent0) rfl (le_ rfl) ⟨le_ rfl, le_ rfl⟩ dL_weightOf_4 (fun q => ?_)
  refine j_astore_n (ls' := [(3, .ref q), (0, .ref (z + aX 0 0 0)), (1, .int v1), (2, .ref (z + 537))]) E (lt_ rfl) rfl dL_weightOf_12 ?_
  refine j_iconst E 1 ic_1 dL_weightOf_13 ?_
  exact j_iret E rfl (le_ rfl) (le_ rfl) dL_weightOf_14
theorem w_owed {l : Launch} {D : DD} {z : Nat} {X : XT} {M : MT} {o : Int64} {f1 : Nat} {v1 : Int32} {r : Int32} (hf : f_X11_owed X v1 = some r) : CW l yL_owed cL_owed 4 (some .int) [(0, 9, 12, 28)] (rmk 4 0 0) D z [.ref (z + aX 0 0 0), .int v1, .ref (z + 537)] (GG D z (X, (f1 + 2, M, o))) (some (.int 0)) (GG D z (X, (f1 + 2, M, r.toInt64))) := by
  refine cw_of pn_L (le_ rfl) (ls := [(0, .ref (z + aX 0 0 0)), (1, .int v1), (2, .ref (z + 537))]) rfl ?_
  intro p e s m args below meth c E hct
  refine j_aload_n E 2 rfl dL_owed_0 ?_
  refine j_iconst E 0 ic_0 dL_owed_1 ?_
  refine j_aload_n E 0 rfl dL_owed_2 ?_
  refine j_iload_n E 1 rfl dL_owed_3 ?_
  refine j_invV [.int 0, .ref (z + 537)] [.int r, .int 0, .ref (z + 537)] E (c_X11_owed hf) ml_L_44 mv_X11_owed rfl ⟨le_ rfl, le_ rfl⟩ (rcX ok0 cf_X11 ent0) rfl rfl (le_ rfl) ⟨le_ rfl, le_ rfl⟩ dL_owed_4 ?_
  refine j_i2l E dL_owed_7 ?_
  refine j_lastO E dL_owed_8 ?_
  refine j_goto E 15 (by decide) dL_owed_9 ?_
  refine j_iconst E 0 ic_0 dL_owed_15 ?_
  exact j_iret E rfl (le_ rfl) (le_ rfl) dL_owed_16
theorem wx_owed_2 {l : Launch} {D : DD} {z : Nat} {X : XT} {M : MT} {o : Int64} {f1 : Nat} {v1 : Int32} (hl : l.stackTraces = false) (hf : t_X11_owed X v1 = some 2) : CW l yL_owed cL_owed 4 (some .int) [(0, 9, 12, 28)] (rmk 8 1 6) D z [.ref (z + aX 0 0 0), .int v1, .ref (z + 537)] (GG D z (X, (f1 + 2, M, o))) (some (.int 1)) (GG D z (X, (f1 + 2, M, o))) := by
  refine cw_of pn_L (le_ rfl) (ls := [(0, .ref (z + aX 0 0 0)), (1, .int v1), (2, .ref (z + 537))]) rfl ?_
  intro p e s m args below meth c E hct
  refine j_aload_n E 2 rfl dL_owed_0 ?_
  refine j_iconst E 0 ic_0 dL_owed_1 ?_
  refine j_aload_n E 0 rfl dL_owed_2 ?_
  refine j_iload_n E 1 rfl dL_owed_3 ?_
  refine j_catchV [] ⟨0, 9, 12, 28⟩ [] [.int 0, .ref (z + 537)] E hct rfl (fun _ h => by cases h) (by decide) (by decide) cl_L_28 cb_2 (tc_X11_owed hl hf) ml_L_44 mv_X11_owed rfl ⟨le_ rfl, le_ rfl⟩ (rcX ok0 cf_X11 ent0) rfl (le_ rfl) ⟨le_ rfl, le_ rfl⟩ dL_owed_4 (fun q => ?_)
  refine j_astore_n (ls' := [(3, .ref q), (0, .ref (z + aX 0 0 0)), (1, .int v1), (2, .ref (z + 537))]) E (lt_ rfl) rfl dL_owed_12 ?_
  refine j_iconst E 1 ic_1 dL_owed_13 ?_
  exact j_iret E rfl (le_ rfl) (le_ rfl) dL_owed_14
theorem w_paidTo {l : Launch} {D : DD} {z : Nat} {X : XT} {M : MT} {o : Int64} {f1 : Nat} {v1 : Int32} {r : Int32} (hf : f_X11_paidTo X v1 = some r) : CW l yL_paidTo cL_paidTo 4 (some .int) [(0, 9, 12, 28)] (rmk 3 0 0) D z [.ref (z + aX 0 0 0), .int v1, .ref (z + 537)] (GG D z (X, (f1 + 2, M, o))) (some (.int 0)) (GG D z (X, (f1 + 2, M, r.toInt64))) := by
  refine cw_of pn_L (le_ rfl) (ls := [(0, .ref (z + aX 0 0 0)), (1, .int v1), (2, .ref (z + 537))]) rfl ?_
  intro p e s m args below meth c E hct
  refine j_aload_n E 2 rfl dL_paidTo_0 ?_
  refine j_iconst E 0 ic_0 dL_paidTo_1 ?_
  refine j_aload_n E 0 rfl dL_paidTo_2 ?_
  refine j_iload_n E 1 rfl dL_paidTo_3 ?_
  refine j_invV [.int 0, .ref (z + 537)] [.int r, .int 0, .ref (z + 537)] E (c_X11_paidTo hf) ml_L_47 mv_X11_paidTo rfl ⟨le_ rfl, le_ rfl⟩ (rcX ok0 cf_X11 ent0) rfl rfl (le_ rfl) ⟨le_ rfl, le_ rfl⟩ dL_paidTo_4 ?_
  refine j_i2l E dL_paidTo_7 ?_
  refine j_lastO E dL_paidTo_8 ?_
  refine j_goto E 15 (by decide) dL_paidTo_9 ?_
  refine j_iconst E 0 ic_0 dL_paidTo_15 ?_
  exact j_iret E rfl (le_ rfl) (le_ rfl) dL_paidTo_16
theorem wx_paidTo_2 {l : Launch} {D : DD} {z : Nat} {X : XT} {M : MT} {o : Int64} {f1 : Nat} {v1 : Int32} (hl : l.stackTraces = false) (hf : t_X11_paidTo X v1 = some 2) : CW l yL_paidTo cL_paidTo 4 (some .int) [(0, 9, 12, 28)] (rmk 8 1 6) D z [.ref (z + aX 0 0 0), .int v1, .ref (z + 537)] (GG D z (X, (f1 + 2, M, o))) (some (.int 1)) (GG D z (X, (f1 + 2, M, o))) := by
  refine cw_of pn_L (le_ rfl) (ls := [(0, .ref (z + aX 0 0 0)), (1, .int v1), (2, .ref (z + 537))]) rfl ?_
  intro p e s m args below meth c E hct
  refine j_aload_n E 2 rfl dL_paidTo_0 ?_
  refine j_iconst E 0 ic_0 dL_paidTo_1 ?_
  refine j_aload_n E 0 rfl dL_paidTo_2 ?_
  refine j_iload_n E 1 rfl dL_paidTo_3 ?_
  refine j_catchV [] ⟨0, 9, 12, 28⟩ [] [.int 0, .ref (z + 537)] E hct rfl (fun _ h => by cases h) (by decide) (by decide) cl_L_28 cb_2 (tc_X11_paidTo hl hf) ml_L_47 mv_X11_paidTo rfl ⟨le_ rfl, le_ rfl⟩ (rcX ok0 cf_X11 ent0) rfl (le_ rfl) ⟨le_ rfl, le_ rfl⟩ dL_paidTo_4 (fun q => ?_)
  refine j_astore_n (ls' := [(3, .ref q), (0, .ref (z + aX 0 0 0)), (1, .int v1), (2, .ref (z + 537))]) E (lt_ rfl) rfl dL_paidTo_12 ?_
  refine j_iconst E 1 ic_1 dL_paidTo_13 ?_
  exact j_iret E rfl (le_ rfl) (le_ rfl) dL_paidTo_14
theorem w_varietiesOf {l : Launch} {D : DD} {z : Nat} {X : XT} {M : MT} {o : Int64} {f1 : Nat} {v1 : Int32} {r : Int32} (hf : f_X11_varietiesOf X v1 = some r) : CW l yL_varietiesOf cL_varietiesOf 4 (some .int) [(0, 9, 12, 28)] (rmk 4 0 0) D z [.ref (z + aX 0 0 0), .int v1, .ref (z + 537)] (GG D z (X, (f1 + 2, M, o))) (some (.int 0)) (GG D z (X, (f1 + 2, M, r.toInt64))) := by
  refine cw_of pn_L (le_ rfl) (ls := [(0, .ref (z + aX 0 0 0)), (1, .int v1), (2, .ref (z + 537))]) rfl ?_
  intro p e s m args below meth c E hct
  refine j_aload_n E 2 rfl dL_varietiesOf_0 ?_
  refine j_iconst E 0 ic_0 dL_varietiesOf_1 ?_
  refine j_aload_n E 0 rfl dL_varietiesOf_2 ?_
  refine j_iload_n E 1 rfl dL_varietiesOf_3 ?_
  refine j_invV [.int 0, .ref (z + 537)] [.int r, .int 0, .ref (z + 537)] E (c_X11_varietiesOf hf) ml_L_50 mv_X11_varietiesOf rfl ⟨le_ rfl, le_ rfl⟩ (rcX ok0 cf_X11 ent0) rfl rfl (le_ rfl) ⟨le_ rfl, le_ rfl⟩ dL_varietiesOf_4 ?_
  refine j_i2l E dL_varietiesOf_7 ?_
  refine j_lastO E dL_varietiesOf_8 ?_
  refine j_goto E 15 (by decide) dL_varietiesOf_9 ?_
  refine j_iconst E 0 ic_0 dL_varietiesOf_15 ?_
  exact j_iret E rfl (le_ rfl) (le_ rfl) dL_varietiesOf_16
theorem wx_varietiesOf_2 {l : Launch} {D : DD} {z : Nat} {X : XT} {M : MT} {o : Int64} {f1 : Nat} {v1 : Int32} (hl : l.stackTraces = false) (hf : t_X11_varietiesOf X v1 = some 2) : CW l yL_varietiesOf cL_varietiesOf 4 (some .int) [(0, 9, 12, 28)] (rmk 8 1 6) D z [.ref (z + aX 0 0 0), .int v1, .ref (z + 537)] (GG D z (X, (f1 + 2, M, o))) (some (.int 1)) (GG D z (X, (f1 + 2, M, o))) := by
  refine cw_of pn_L (le_ rfl) (ls := [(0, .ref (z + aX 0 0 0)), (1, .int v1), (2, .ref (z + 537))]) rfl ?_
  intro p e s m args below meth c E hct
  refine j_aload_n E 2 rfl dL_varietiesOf_0 ?_
  refine j_iconst E 0 ic_0 dL_varietiesOf_1 ?_
  refine j_aload_n E 0 rfl dL_varietiesOf_2 ?_
  refine j_iload_n E 1 rfl dL_varietiesOf_3 ?_
  refine j_catchV [] ⟨0, 9, 12, 28⟩ [] [.int 0, .ref (z + 537)] E hct rfl (fun _ h => by cases h) (by decide) (by decide) cl_L_28 cb_2 (tc_X11_varietiesOf hl hf) ml_L_50 mv_X11_varietiesOf rfl ⟨le_ rfl, le_ rfl⟩ (rcX ok0 cf_X11 ent0) rfl (le_ rfl) ⟨le_ rfl, le_ rfl⟩ dL_varietiesOf_4 (fun q => ?_)
  refine j_astore_n (ls' := [(3, .ref q), (0, .ref (z + aX 0 0 0)), (1, .int v1), (2, .ref (z + 537))]) E (lt_ rfl) rfl dL_varietiesOf_12 ?_
  refine j_iconst E 1 ic_1 dL_varietiesOf_13 ?_
  exact j_iret E rfl (le_ rfl) (le_ rfl) dL_varietiesOf_14
theorem w_yieldLimit {l : Launch} {D : DD} {z : Nat} {X : XT} {M : MT} {o : Int64} {f1 : Nat} {v1 : Int32} {r : Int32} (hf : f_X11_yieldLimit X v1 = some r) : CW l yL_yieldLimit cL_yieldLimit 4 (some .int) [(0, 9, 12, 28)] (rmk 4 0 0) D z [.ref (z + aX 0 0 0), .int v1, .ref (z + 537)] (GG D z (X, (f1 + 2, M, o))) (some (.int 0)) (GG D z (X, (f1 + 2, M, r.toInt64))) := by
  refine cw_of pn_L (le_ rfl) (ls := [(0, .ref (z + aX 0 0 0)), (1, .int v1), (2, .ref (z + 537))]) rfl ?_
  intro p e s m args below meth c E hct
  refine j_aload_n E 2 rfl dL_yieldLimit_0 ?_
  refine j_iconst E 0 ic_0 dL_yieldLimit_1 ?_
  refine j_aload_n E 0 rfl dL_yieldLimit_2 ?_
  refine j_iload_n E 1 rfl dL_yieldLimit_3 ?_
  refine j_invV [.int 0, .ref (z + 537)] [.int r, .int 0, .ref (z + 537)] E (c_X11_yieldLimit hf) ml_L_53 mv_X11_yieldLimit rfl ⟨le_ rfl, le_ rfl⟩ (rcX ok0 cf_X11 ent0) rfl rfl (le_ rfl) ⟨le_ rfl, le_ rfl⟩ dL_yieldLimit_4 ?_
  refine j_i2l E dL_yieldLimit_7 ?_
  refine j_lastO E dL_yieldLimit_8 ?_
  refine j_goto E 15 (by decide) dL_yieldLimit_9 ?_
  refine j_iconst E 0 ic_0 dL_yieldLimit_15 ?_
  exact j_iret E rfl (le_ rfl) (le_ rfl) dL_yieldLimit_16
theorem wx_yieldLimit_2 {l : Launch} {D : DD} {z : Nat} {X : XT} {M : MT} {o : Int64} {f1 : Nat} {v1 : Int32} (hl : l.stackTraces = false) (hf : t_X11_yieldLimit X v1 = some 2) : CW l yL_yieldLimit cL_yieldLimit 4 (some .int) [(0, 9, 12, 28)] (rmk 8 1 6) D z [.ref (z + aX 0 0 0), .int v1, .ref (z + 537)] (GG D z (X, (f1 + 2, M, o))) (some (.int 1)) (GG D z (X, (f1 + 2, M, o))) := by
  refine cw_of pn_L (le_ rfl) (ls := [(0, .ref (z + aX 0 0 0)), (1, .int v1), (2, .ref (z + 537))]) rfl ?_
  intro p e s m args below meth c E hct
  refine j_aload_n E 2 rfl dL_yieldLimit_0 ?_
  refine j_iconst E 0 ic_0 dL_yieldLimit_1 ?_
  refine j_aload_n E 0 rfl dL_yieldLimit_2 ?_
  refine j_iload_n E 1 rfl dL_yieldLimit_3 ?_
  refine j_catchV [] ⟨0, 9, 12, 28⟩ [] [.int 0, .ref (z + 537)] E hct rfl (fun _ h => by cases h) (by decide) (by decide) cl_L_28 cb_2 (tc_X11_yieldLimit hl hf) ml_L_53 mv_X11_yieldLimit rfl ⟨le_ rfl, le_ rfl⟩ (rcX ok0 cf_X11 ent0) rfl (le_ rfl) ⟨le_ rfl, le_ rfl⟩ dL_yieldLimit_4 (fun q => ?_)
  refine j_astore_n (ls' := [(3, .ref q), (0, .ref (z + aX 0 0 0)), (1, .int v1), (2, .ref (z + 537))]) E (lt_ rfl) rfl dL_yieldLimit_12 ?_
  refine j_iconst E 1 ic_1 dL_yieldLimit_13 ?_
  exact j_iret E rfl (le_ rfl) (le_ rfl) dL_yieldLimit_14
theorem w_harvested {l : Launch} {D : DD} {z : Nat} {X : XT} {M : MT} {o : Int64} {f1 : Nat} {v1 : Int32} {r : Int32} (hf : f_X11_harvested X v1 = some r) : CW l yL_harvested cL_harvested 4 (some .int) [(0, 9, 12, 28)] (rmk 4 0 0) D z [.ref (z + aX 0 0 0), .int v1, .ref (z + 537)] (GG D z (X, (f1 + 2, M, o))) (some (.int 0)) (GG D z (X, (f1 + 2, M, r.toInt64))) := by
  refine cw_of pn_L (le_ rfl) (ls := [(0, .ref (z + aX 0 0 0)), (1, .int v1), (2, .ref (z + 537))]) rfl ?_
  intro p e s m args below meth c E hct
  refine j_aload_n E 2 rfl dL_harvested_0 ?_
  refine j_iconst E 0 ic_0 dL_harvested_1 ?_
  refine j_aload_n E 0 rfl dL_harvested_2 ?_
  refine j_iload_n E 1 rfl dL_harvested_3 ?_
  refine j_invV [.int 0, .ref (z + 537)] [.int r, .int 0, .ref (z + 537)] E (c_X11_harvested hf) ml_L_56 mv_X11_harvested rfl ⟨le_ rfl, le_ rfl⟩ (rcX ok0 cf_X11 ent0) rfl rfl (le_ rfl) ⟨le_ rfl, le_ rfl⟩ dL_harvested_4 ?_
  refine j_i2l E dL_harvested_7 ?_
  refine j_lastO E dL_harvested_8 ?_
  refine j_goto E 15 (by decide) dL_harvested_9 ?_
  refine j_iconst E 0 ic_0 dL_harvested_15 ?_
  exact j_iret E rfl (le_ rfl) (le_ rfl) dL_harvested_16
theorem wx_harvested_2 {l : Launch} {D : DD} {z : Nat} {X : XT} {M : MT} {o : Int64} {f1 : Nat} {v1 : Int32} (hl : l.stackTraces = false) (hf : t_X11_harvested X v1 = some 2) : CW l yL_harvested cL_harvested 4 (some .int) [(0, 9, 12, 28)] (rmk 8 1 6) D z [.ref (z + aX 0 0 0), .int v1, .ref (z + 537)] (GG D z (X, (f1 + 2, M, o))) (some (.int 1)) (GG D z (X, (f1 + 2, M, o))) := by
  refine cw_of pn_L (le_ rfl) (ls := [(0, .ref (z + aX 0 0 0)), (1, .int v1), (2, .ref (z + 537))]) rfl ?_
  intro p e s m args below meth c E hct
  refine j_aload_n E 2 rfl dL_harvested_0 ?_
  refine j_iconst E 0 ic_0 dL_harvested_1 ?_
  refine j_aload_n E 0 rfl dL_harvested_2 ?_
  refine j_iload_n E 1 rfl dL_harvested_3 ?_
  refine j_catchV [] ⟨0, 9, 12, 28⟩ [] [.int 0, .ref (z + 537)] E hct rfl (fun _ h => by cases h) (by decide) (by decide) cl_L_28 cb_2 (tc_X11_harvested hl hf) ml_L_56 mv_X11_harvested rfl ⟨le_ rfl, le_ rfl⟩ (rcX ok0 cf_X11 ent0) rfl (le_ rfl) ⟨le_ rfl, le_ rfl⟩ dL_harvested_4 (fun q => ?_)
  refine j_astore_n (ls' := [(3, .ref q), (0, .ref (z + aX 0 0 0)), (1, .int v1), (2, .ref (z + 537))]) E (lt_ rfl) rfl dL_harvested_12 ?_
  refine j_iconst E 1 ic_1 dL_harvested_13 ?_
  exact j_iret E rfl (le_ rfl) (le_ rfl) dL_harvested_14
theorem w_yieldLeft {l : Launch} {D : DD} {z : Nat} {X : XT} {M : MT} {o : Int64} {f1 : Nat} {v1 : Int32} {r : Int32} (hf : f_X11_yieldLeft X v1 = some r) : CW l yL_yieldLeft cL_yieldLeft 4 (some .int) [(0, 9, 12, 28)] (rmk 4 0 0) D z [.ref (z + aX 0 0 0), .int v1, .ref (z + 537)] (GG D z (X, (f1 + 2, M, o))) (some (.int 0)) (GG D z (X, (f1 + 2, M, r.toInt64))) := by
  refine cw_of pn_L (le_ rfl) (ls := [(0, .ref (z + aX 0 0 0)), (1, .int v1), (2, .ref (z + 537))]) rfl ?_
  intro p e s m args below meth c E hct
  refine j_aload_n E 2 rfl dL_yieldLeft_0 ?_
  refine j_iconst E 0 ic_0 dL_yieldLeft_1 ?_
  refine j_aload_n E 0 rfl dL_yieldLeft_2 ?_
  refine j_iload_n E 1 rfl dL_yieldLeft_3 ?_
  refine j_invV [.int 0, .ref (z + 537)] [.int r, .int 0, .ref (z + 537)] E (c_X11_yieldLeft hf) ml_L_59 mv_X11_yieldLeft rfl ⟨le_ rfl, le_ rfl⟩ (rcX ok0 cf_X11 ent0) rfl rfl (le_ rfl) ⟨le_ rfl, le_ rfl⟩ dL_yieldLeft_4 ?_
  refine j_i2l E dL_yieldLeft_7 ?_
  refine j_lastO E dL_yieldLeft_8 ?_
  refine j_goto E 15 (by decide) dL_yieldLeft_9 ?_
  refine j_iconst E 0 ic_0 dL_yieldLeft_15 ?_
  exact j_iret E rfl (le_ rfl) (le_ rfl) dL_yieldLeft_16
theorem wx_yieldLeft_2 {l : Launch} {D : DD} {z : Nat} {X : XT} {M : MT} {o : Int64} {f1 : Nat} {v1 : Int32} (hl : l.stackTraces = false) (hf : t_X11_yieldLeft X v1 = some 2) : CW l yL_yieldLeft cL_yieldLeft 4 (some .int) [(0, 9, 12, 28)] (rmk 8 1 6) D z [.ref (z + aX 0 0 0), .int v1, .ref (z + 537)] (GG D z (X, (f1 + 2, M, o))) (some (.int 1)) (GG D z (X, (f1 + 2, M, o))) := by
  refine cw_of pn_L (le_ rfl) (ls := [(0, .ref (z + aX 0 0 0)), (1, .int v1), (2, .ref (z + 537))]) rfl ?_
  intro p e s m args below meth c E hct
  refine j_aload_n E 2 rfl dL_yieldLeft_0 ?_
  refine j_iconst E 0 ic_0 dL_yieldLeft_1 ?_
  refine j_aload_n E 0 rfl dL_yieldLeft_2 ?_
  refine j_iload_n E 1 rfl dL_yieldLeft_3 ?_
  refine j_catchV [] ⟨0, 9, 12, 28⟩ [] [.int 0, .ref (z + 537)] E hct rfl (fun _ h => by cases h) (by decide) (by decide) cl_L_28 cb_2 (tc_X11_yieldLeft hl hf) ml_L_59 mv_X11_yieldLeft rfl ⟨le_ rfl, le_ rfl⟩ (rcX ok0 cf_X11 ent0) rfl (le_ rfl) ⟨le_ rfl, le_ rfl⟩ dL_yieldLeft_4 (fun q => ?_)
  refine j_astore_n (ls' := [(3, .ref q), (0, .ref (z + aX 0 0 0)), (1, .int v1), (2, .ref (z + 537))]) E (lt_ rfl) rfl dL_yieldLeft_12 ?_
  refine j_iconst E 1 ic_1 dL_yieldLeft_13 ?_
  exact j_iret E rfl (le_ rfl) (le_ rfl) dL_yieldLeft_14
theorem w_plotOfLoad {l : Launch} {D : DD} {z : Nat} {X : XT} {M : MT} {o : Int64} {f1 : Nat} {v1 : Int32} {r : Int32} (hf : f_X11_plotOfLoad X v1 = some r) : CW l yL_plotOfLoad cL_plotOfLoad 4 (some .int) [(0, 9, 12, 28)] (rmk 3 0 0) D z [.ref (z + aX 0 0 0), .int v1, .ref (z + 537)] (GG D z (X, (f1 + 2, M, o))) (some (.int 0)) (GG D z (X, (f1 + 2, M, r.toInt64))) := by
  refine cw_of pn_L (le_ rfl) (ls := [(0, .ref (z + aX 0 0 0)), (1, .int v1), (2, .ref (z + 537))]) rfl ?_
  intro p e s m args below meth c E hct
  refine j_aload_n E 2 rfl dL_plotOfLoad_0 ?_
  refine j_iconst E 0 ic_0 dL_plotOfLoad_1 ?_
  refine j_aload_n E 0 rfl dL_plotOfLoad_2 ?_
  refine j_iload_n E 1 rfl dL_plotOfLoad_3 ?_
  refine j_invV [.int 0, .ref (z + 537)] [.int r, .int 0, .ref (z + 537)] E (c_X11_plotOfLoad hf) ml_L_62 mv_X11_plotOfLoad rfl ⟨le_ rfl, le_ rfl⟩ (rcX ok0 cf_X11 ent0) rfl rfl (le_ rfl) ⟨le_ rfl, le_ rfl⟩ dL_plotOfLoad_4 ?_
  refine j_i2l E dL_plotOfLoad_7 ?_
  refine j_lastO E dL_plotOfLoad_8 ?_
  refine j_goto E 15 (by decide) dL_plotOfLoad_9 ?_
  refine j_iconst E 0 ic_0 dL_plotOfLoad_15 ?_
  exact j_iret E rfl (le_ rfl) (le_ rfl) dL_plotOfLoad_16
theorem wx_plotOfLoad_2 {l : Launch} {D : DD} {z : Nat} {X : XT} {M : MT} {o : Int64} {f1 : Nat} {v1 : Int32} (hl : l.stackTraces = false) (hf : t_X11_plotOfLoad X v1 = some 2) : CW l yL_plotOfLoad cL_plotOfLoad 4 (some .int) [(0, 9, 12, 28)] (rmk 8 1 6) D z [.ref (z + aX 0 0 0), .int v1, .ref (z + 537)] (GG D z (X, (f1 + 2, M, o))) (some (.int 1)) (GG D z (X, (f1 + 2, M, o))) := by
  refine cw_of pn_L (le_ rfl) (ls := [(0, .ref (z + aX 0 0 0)), (1, .int v1), (2, .ref (z + 537))]) rfl ?_
  intro p e s m args below meth c E hct
  refine j_aload_n E 2 rfl dL_plotOfLoad_0 ?_
  refine j_iconst E 0 ic_0 dL_plotOfLoad_1 ?_
  refine j_aload_n E 0 rfl dL_plotOfLoad_2 ?_
  refine j_iload_n E 1 rfl dL_plotOfLoad_3 ?_
  refine j_catchV [] ⟨0, 9, 12, 28⟩ [] [.int 0, .ref (z + 537)] E hct rfl (fun _ h => by cases h) (by decide) (by decide) cl_L_28 cb_2 (tc_X11_plotOfLoad hl hf) ml_L_62 mv_X11_plotOfLoad rfl ⟨le_ rfl, le_ rfl⟩ (rcX ok0 cf_X11 ent0) rfl (le_ rfl) ⟨le_ rfl, le_ rfl⟩ dL_plotOfLoad_4 (fun q => ?_)
  refine j_astore_n (ls' := [(3, .ref q), (0, .ref (z + aX 0 0 0)), (1, .int v1), (2, .ref (z + 537))]) E (lt_ rfl) rfl dL_plotOfLoad_12 ?_
  refine j_iconst E 1 ic_1 dL_plotOfLoad_13 ?_
  exact j_iret E rfl (le_ rfl) (le_ rfl) dL_plotOfLoad_14
theorem w_classOfLoad {l : Launch} {D : DD} {z : Nat} {X : XT} {M : MT} {o : Int64} {f1 : Nat} {v1 : Int32} {r : Int32} (hf : f_X11_classOfLoad X v1 = some r) : CW l yL_classOfLoad cL_classOfLoad 4 (some .int) [(0, 9, 12, 28)] (rmk 3 0 0) D z [.ref (z + aX 0 0 0), .int v1, .ref (z + 537)] (GG D z (X, (f1 + 2, M, o))) (some (.int 0)) (GG D z (X, (f1 + 2, M, r.toInt64))) := by
  refine cw_of pn_L (le_ rfl) (ls := [(0, .ref (z + aX 0 0 0)), (1, .int v1), (2, .ref (z + 537))]) rfl ?_
  intro p e s m args below meth c E hct
  refine j_aload_n E 2 rfl dL_classOfLoad_0 ?_
  refine j_iconst E 0 ic_0 dL_classOfLoad_1 ?_
  refine j_aload_n E 0 rfl dL_classOfLoad_2 ?_
  refine j_iload_n E 1 rfl dL_classOfLoad_3 ?_
  refine j_invV [.int 0, .ref (z + 537)] [.int r, .int 0, .ref (z + 537)] E (c_X11_classOfLoad hf) ml_L_65 mv_X11_classOfLoad rfl ⟨le_ rfl, le_ rfl⟩ (rcX ok0 cf_X11 ent0) rfl rfl (le_ rfl) ⟨le_ rfl, le_ rfl⟩ dL_classOfLoad_4 ?_
  refine j_i2l E dL_classOfLoad_7 ?_
  refine j_lastO E dL_classOfLoad_8 ?_
  refine j_goto E 15 (by decide) dL_classOfLoad_9 ?_
  refine j_iconst E 0 ic_0 dL_classOfLoad_15 ?_
  exact j_iret E rfl (le_ rfl) (le_ rfl) dL_classOfLoad_16
theorem wx_classOfLoad_2 {l : Launch} {D : DD} {z : Nat} {X : XT} {M : MT} {o : Int64} {f1 : Nat} {v1 : Int32} (hl : l.stackTraces = false) (hf : t_X11_classOfLoad X v1 = some 2) : CW l yL_classOfLoad cL_classOfLoad 4 (some .int) [(0, 9, 12, 28)] (rmk 8 1 6) D z [.ref (z + aX 0 0 0), .int v1, .ref (z + 537)] (GG D z (X, (f1 + 2, M, o))) (some (.int 1)) (GG D z (X, (f1 + 2, M, o))) := by
  refine cw_of pn_L (le_ rfl) (ls := [(0, .ref (z + aX 0 0 0)), (1, .int v1), (2, .ref (z + 537))]) rfl ?_
  intro p e s m args below meth c E hct
  refine j_aload_n E 2 rfl dL_classOfLoad_0 ?_
  refine j_iconst E 0 ic_0 dL_classOfLoad_1 ?_
  refine j_aload_n E 0 rfl dL_classOfLoad_2 ?_
  refine j_iload_n E 1 rfl dL_classOfLoad_3 ?_
  refine j_catchV [] ⟨0, 9, 12, 28⟩ [] [.int 0, .ref (z + 537)] E hct rfl (fun _ h => by cases h) (by decide) (by decide) cl_L_28 cb_2 (tc_X11_classOfLoad hl hf) ml_L_65 mv_X11_classOfLoad rfl ⟨le_ rfl, le_ rfl⟩ (rcX ok0 cf_X11 ent0) rfl (le_ rfl) ⟨le_ rfl, le_ rfl⟩ dL_classOfLoad_4 (fun q => ?_)
  refine j_astore_n (ls' := [(3, .ref q), (0, .ref (z + aX 0 0 0)), (1, .int v1), (2, .ref (z + 537))]) E (lt_ rfl) rfl dL_classOfLoad_12 ?_
  refine j_iconst E 1 ic_1 dL_classOfLoad_13 ?_
  exact j_iret E rfl (le_ rfl) (le_ rfl) dL_classOfLoad_14
theorem w_tankOfLoad {l : Launch} {D : DD} {z : Nat} {X : XT} {M : MT} {o : Int64} {f1 : Nat} {v1 : Int32} {r : Int32} (hf : f_X11_tankOfLoad X v1 = some r) : CW l yL_tankOfLoad cL_tankOfLoad 4 (some .int) [(0, 9, 12, 28)] (rmk 3 0 0) D z [.ref (z + aX 0 0 0), .int v1, .ref (z + 537)] (GG D z (X, (f1 + 2, M, o))) (some (.int 0)) (GG D z (X, (f1 + 2, M, r.toInt64))) := by
  refine cw_of pn_L (le_ rfl) (ls := [(0, .ref (z + aX 0 0 0)), (1, .int v1), (2, .ref (z + 537))]) rfl ?_
  intro p e s m args below meth c E hct
  refine j_aload_n E 2 rfl dL_tankOfLoad_0 ?_
  refine j_iconst E 0 ic_0 dL_tankOfLoad_1 ?_
  refine j_aload_n E 0 rfl dL_tankOfLoad_2 ?_
  refine j_iload_n E 1 rfl dL_tankOfLoad_3 ?_
  refine j_invV [.int 0, .ref (z + 537)] [.int r, .int 0, .ref (z + 537)] E (c_X11_tankOfLoad hf) ml_L_68 mv_X11_tankOfLoad rfl ⟨le_ rfl, le_ rfl⟩ (rcX ok0 cf_X11 ent0) rfl rfl (le_ rfl) ⟨le_ rfl, le_ rfl⟩ dL_tankOfLoad_4 ?_
  refine j_i2l E dL_tankOfLoad_7 ?_
  refine j_lastO E dL_tankOfLoad_8 ?_
  refine j_goto E 15 (by decide) dL_tankOfLoad_9 ?_
  refine j_iconst E 0 ic_0 dL_tankOfLoad_15 ?_
  exact j_iret E rfl (le_ rfl) (le_ rfl) dL_tankOfLoad_16
theorem wx_tankOfLoad_2 {l : Launch} {D : DD} {z : Nat} {X : XT} {M : MT} {o : Int64} {f1 : Nat} {v1 : Int32} (hl : l.stackTraces = false) (hf : t_X11_tankOfLoad X v1 = some 2) : CW l yL_tankOfLoad cL_tankOfLoad 4 (some .int) [(0, 9, 12, 28)] (rmk 8 1 6) D z [.ref (z + aX 0 0 0), .int v1, .ref (z + 537)] (GG D z (X, (f1 + 2, M, o))) (some (.int 1)) (GG D z (X, (f1 + 2, M, o))) := by
  refine cw_of pn_L (le_ rfl) (ls := [(0, .ref (z + aX 0 0 0)), (1, .int v1), (2, .ref (z + 537))]) rfl ?_
  intro p e s m args below meth c E hct
  refine j_aload_n E 2 rfl dL_tankOfLoad_0 ?_
  refine j_iconst E 0 ic_0 dL_tankOfLoad_1 ?_
  refine j_aload_n E 0 rfl dL_tankOfLoad_2 ?_
  refine j_iload_n E 1 rfl dL_tankOfLoad_3 ?_
  refine j_catchV [] ⟨0, 9, 12, 28⟩ [] [.int 0, .ref (z + 537)] E hct rfl (fun _ h => by cases h) (by decide) (by decide) cl_L_28 cb_2 (tc_X11_tankOfLoad hl hf) ml_L_68 mv_X11_tankOfLoad rfl ⟨le_ rfl, le_ rfl⟩ (rcX ok0 cf_X11 ent0) rfl (le_ rfl) ⟨le_ rfl, le_ rfl⟩ dL_tankOfLoad_4 (fun q => ?_)
  refine j_astore_n (ls' := [(3, .ref q), (0, .ref (z + aX 0 0 0)), (1, .int v1), (2, .ref (z + 537))]) E (lt_ rfl) rfl dL_tankOfLoad_12 ?_
  refine j_iconst E 1 ic_1 dL_tankOfLoad_13 ?_
  exact j_iret E rfl (le_ rfl) (le_ rfl) dL_tankOfLoad_14
theorem w_valueOf {l : Launch} {D : DD} {z : Nat} {X : XT} {M : MT} {o : Int64} {f1 : Nat} {v1 : Int32} {r : Int32} (hf : f_X11_valueOf X v1 = some r) : CW l yL_valueOf cL_valueOf 4 (some .int) [(0, 9, 12, 28)] (rmk 4 0 0) D z [.ref (z + aX 0 0 0), .int v1, .ref (z + 537)] (GG D z (X, (f1 + 2, M, o))) (some (.int 0)) (GG D z (X, (f1 + 2, M, r.toInt64))) := by
  refine cw_of pn_L (le_ rfl) (ls := [(0, .ref (z + aX 0 0 0)), (1, .int v1), (2, .ref (z + 537))]) rfl ?_
  intro p e s m args below meth c E hct
  refine j_aload_n E 2 rfl dL_valueOf_0 ?_
  refine j_iconst E 0 ic_0 dL_valueOf_1 ?_
  refine j_aload_n E 0 rfl dL_valueOf_2 ?_
  refine j_iload_n E 1 rfl dL_valueOf_3 ?_
  refine j_invV [.int 0, .ref (z + 537)] [.int r, .int 0, .ref (z + 537)] E (c_X11_valueOf hf) ml_L_71 mv_X11_valueOf rfl ⟨le_ rfl, le_ rfl⟩ (rcX ok0 cf_X11 ent0) rfl rfl (le_ rfl) ⟨le_ rfl, le_ rfl⟩ dL_valueOf_4 ?_
  refine j_i2l E dL_valueOf_7 ?_
  refine j_lastO E dL_valueOf_8 ?_
  refine j_goto E 15 (by decide) dL_valueOf_9 ?_
  refine j_iconst E 0 ic_0 dL_valueOf_15 ?_
  exact j_iret E rfl (le_ rfl) (le_ rfl) dL_valueOf_16
theorem wx_valueOf_2 {l : Launch} {D : DD} {z : Nat} {X : XT} {M : MT} {o : Int64} {f1 : Nat} {v1 : Int32} (hl : l.stackTraces = false) (hf : t_X11_valueOf X v1 = some 2) : CW l yL_valueOf cL_valueOf 4 (some .int) [(0, 9, 12, 28)] (rmk 8 1 6) D z [.ref (z + aX 0 0 0), .int v1, .ref (z + 537)] (GG D z (X, (f1 + 2, M, o))) (some (.int 1)) (GG D z (X, (f1 + 2, M, o))) := by
  refine cw_of pn_L (le_ rfl) (ls := [(0, .ref (z + aX 0 0 0)), (1, .int v1), (2, .ref (z + 537))]) rfl ?_
  intro p e s m args below meth c E hct
  refine j_aload_n E 2 rfl dL_valueOf_0 ?_
  refine j_iconst E 0 ic_0 dL_valueOf_1 ?_
  refine j_aload_n E 0 rfl dL_valueOf_2 ?_
  refine j_iload_n E 1 rfl dL_valueOf_3 ?_
  refine j_catchV [] ⟨0, 9, 12, 28⟩ [] [.int 0, .ref (z + 537)] E hct rfl (fun _ h => by cases h) (by decide) (by decide) cl_L_28 cb_2 (tc_X11_valueOf hl hf) ml_L_71 mv_X11_valueOf rfl ⟨le_ rfl, le_ rfl⟩ (rcX ok0 cf_X11 ent0) rfl (le_ rfl) ⟨le_ rfl, le_ rfl⟩ dL_valueOf_4 (fun q => ?_)
  refine j_astore_n (ls' := [(3, .ref q), (0, .ref (z + aX 0 0 0)), (1, .int v1), (2, .ref (z + 537))]) E (lt_ rfl) rfl dL_valueOf_12 ?_
  refine j_iconst E 1 ic_1 dL_valueOf_13 ?_
  exact j_iret E rfl (le_ rfl) (le_ rfl) dL_valueOf_14
theorem w_isPaid {l : Launch} {D : DD} {z : Nat} {X : XT} {M : MT} {o : Int64} {f1 : Nat} {v1 : Int32} {r : Int32} (hf : f_X11_isPaid X v1 = some r) : CW l yL_isPaid cL_isPaid 4 (some .int) [(0, 16, 19, 28)] (rmk 3 0 0) D z [.ref (z + aX 0 0 0), .int v1, .ref (z + 537)] (GG D z (X, (f1 + 2, M, o))) (some (.int 0)) (GG D z (X, (f1 + 2, M, (if r = 0 then 0 else 1)))) := by
  refine cw_of pn_L (le_ rfl) (ls := [(0, .ref (z + aX 0 0 0)), (1, .int v1), (2, .ref (z + 537))]) rfl ?_
  intro p e s m args below meth c E hct
  refine j_aload_n E 2 rfl dL_isPaid_0 ?_
  refine j_iconst E 0 ic_0 dL_isPaid_1 ?_
  refine j_aload_n E 0 rfl dL_isPaid_2 ?_
  refine j_iload_n E 1 rfl dL_isPaid_3 ?_
  refine j_invV [.int 0, .ref (z + 537)] [.int r, .int 0, .ref (z + 537)] E (c_X11_isPaid hf) ml_L_74 mv_X11_isPaid rfl ⟨le_ rfl, le_ rfl⟩ (rcX ok0 cf_X11 ent0) rfl rfl (le_ rfl) ⟨le_ rfl, le_ rfl⟩ dL_isPaid_4 ?_
  refine j_if_eq E 14 (by decide) dL_isPaid_7 (fun c1 => ?_) (fun c1 => ?_)
  · rw [if_pos c1]
    refine j_lconst E 0 rfl dL_isPaid_14 ?_
    refine j_lastO E dL_isPaid_15 ?_
    refine j_goto E 22 (by decide) dL_isPaid_16 ?_
    refine j_iconst E 0 ic_0 dL_isPaid_22 ?_
    exact j_iret E rfl (le_ rfl) (le_ rfl) dL_isPaid_23
  · rw [if_neg c1]
    refine j_lconst E 1 rfl dL_isPaid_10 ?_
    refine j_goto E 15 (by decide) dL_isPaid_11 ?_
    refine j_lastO E dL_isPaid_15 ?_
    refine j_goto E 22 (by decide) dL_isPaid_16 ?_
    refine j_iconst E 0 ic_0 dL_isPaid_22 ?_
    exact j_iret E rfl (le_ rfl) (le_ rfl) dL_isPaid_23
theorem wx_isPaid_2 {l : Launch} {D : DD} {z : Nat} {X : XT} {M : MT} {o : Int64} {f1 : Nat} {v1 : Int32} (hl : l.stackTraces = false) (hf : t_X11_isPaid X v1 = some 2) : CW l yL_isPaid cL_isPaid 4 (some .int) [(0, 16, 19, 28)] (rmk 8 1 6) D z [.ref (z + aX 0 0 0), .int v1, .ref (z + 537)] (GG D z (X, (f1 + 2, M, o))) (some (.int 1)) (GG D z (X, (f1 + 2, M, o))) := by
  refine cw_of pn_L (le_ rfl) (ls := [(0, .ref (z + aX 0 0 0)), (1, .int v1), (2, .ref (z + 537))]) rfl ?_
  intro p e s m args below meth c E hct
  refine j_aload_n E 2 rfl dL_isPaid_0 ?_
  refine j_iconst E 0 ic_0 dL_isPaid_1 ?_
  refine j_aload_n E 0 rfl dL_isPaid_2 ?_
  refine j_iload_n E 1 rfl dL_isPaid_3 ?_
  refine j_catchV [] ⟨0, 16, 19, 28⟩ [] [.int 0, .ref (z + 537)] E hct rfl (fun _ h => by cases h) (by decide) (by decide) cl_L_28 cb_2 (tc_X11_isPaid hl hf) ml_L_74 mv_X11_isPaid rfl ⟨le_ rfl, le_ rfl⟩ (rcX ok0 cf_X11 ent0) rfl (le_ rfl) ⟨le_ rfl, le_ rfl⟩ dL_isPaid_4 (fun q => ?_)
  refine j_astore_n (ls' := [(3, .ref q), (0, .ref (z + aX 0 0 0)), (1, .int v1), (2, .ref (z + 537))]) E (lt_ rfl) rfl dL_isPaid_19 ?_
  refine j_iconst E 1 ic_1 dL_isPaid_20 ?_
  exact j_iret E rfl (le_ rfl) (le_ rfl) dL_isPaid_21
theorem w_isLowered {l : Launch} {D : DD} {z : Nat} {X : XT} {M : MT} {o : Int64} {f1 : Nat} {v1 : Int32} {r : Int32} (hf : f_X11_isLowered X v1 = some r) : CW l yL_isLowered cL_isLowered 4 (some .int) [(0, 16, 19, 28)] (rmk 3 0 0) D z [.ref (z + aX 0 0 0), .int v1, .ref (z + 537)] (GG D z (X, (f1 + 2, M, o))) (some (.int 0)) (GG D z (X, (f1 + 2, M, (if r = 0 then 0 else 1)))) := by
  refine cw_of pn_L (le_ rfl) (ls := [(0, .ref (z + aX 0 0 0)), (1, .int v1), (2, .ref (z + 537))]) rfl ?_
  intro p e s m args below meth c E hct
  refine j_aload_n E 2 rfl dL_isLowered_0 ?_
  refine j_iconst E 0 ic_0 dL_isLowered_1 ?_
  refine j_aload_n E 0 rfl dL_isLowered_2 ?_
  refine j_iload_n E 1 rfl dL_isLowered_3 ?_
  refine j_invV [.int 0, .ref (z + 537)] [.int r, .int 0, .ref (z + 537)] E (c_X11_isLowered hf) ml_L_78 mv_X11_isLowered rfl ⟨le_ rfl, le_ rfl⟩ (rcX ok0 cf_X11 ent0) rfl rfl (le_ rfl) ⟨le_ rfl, le_ rfl⟩ dL_isLowered_4 ?_
  refine j_if_eq E 14 (by decide) dL_isLowered_7 (fun c1 => ?_) (fun c1 => ?_)
  · rw [if_pos c1]
    refine j_lconst E 0 rfl dL_isLowered_14 ?_
    refine j_lastO E dL_isLowered_15 ?_
    refine j_goto E 22 (by decide) dL_isLowered_16 ?_
    refine j_iconst E 0 ic_0 dL_isLowered_22 ?_
    exact j_iret E rfl (le_ rfl) (le_ rfl) dL_isLowered_23
  · rw [if_neg c1]
    refine j_lconst E 1 rfl dL_isLowered_10 ?_
    refine j_goto E 15 (by decide) dL_isLowered_11 ?_
    refine j_lastO E dL_isLowered_15 ?_
    refine j_goto E 22 (by decide) dL_isLowered_16 ?_
    refine j_iconst E 0 ic_0 dL_isLowered_22 ?_
    exact j_iret E rfl (le_ rfl) (le_ rfl) dL_isLowered_23
theorem wx_isLowered_2 {l : Launch} {D : DD} {z : Nat} {X : XT} {M : MT} {o : Int64} {f1 : Nat} {v1 : Int32} (hl : l.stackTraces = false) (hf : t_X11_isLowered X v1 = some 2) : CW l yL_isLowered cL_isLowered 4 (some .int) [(0, 16, 19, 28)] (rmk 8 1 6) D z [.ref (z + aX 0 0 0), .int v1, .ref (z + 537)] (GG D z (X, (f1 + 2, M, o))) (some (.int 1)) (GG D z (X, (f1 + 2, M, o))) := by
  refine cw_of pn_L (le_ rfl) (ls := [(0, .ref (z + aX 0 0 0)), (1, .int v1), (2, .ref (z + 537))]) rfl ?_
  intro p e s m args below meth c E hct
  refine j_aload_n E 2 rfl dL_isLowered_0 ?_
  refine j_iconst E 0 ic_0 dL_isLowered_1 ?_
  refine j_aload_n E 0 rfl dL_isLowered_2 ?_
  refine j_iload_n E 1 rfl dL_isLowered_3 ?_
  refine j_catchV [] ⟨0, 16, 19, 28⟩ [] [.int 0, .ref (z + 537)] E hct rfl (fun _ h => by cases h) (by decide) (by decide) cl_L_28 cb_2 (tc_X11_isLowered hl hf) ml_L_78 mv_X11_isLowered rfl ⟨le_ rfl, le_ rfl⟩ (rcX ok0 cf_X11 ent0) rfl (le_ rfl) ⟨le_ rfl, le_ rfl⟩ dL_isLowered_4 (fun q => ?_)
  refine j_astore_n (ls' := [(3, .ref q), (0, .ref (z + aX 0 0 0)), (1, .int v1), (2, .ref (z + 537))]) E (lt_ rfl) rfl dL_isLowered_19 ?_
  refine j_iconst E 1 ic_1 dL_isLowered_20 ?_
  exact j_iret E rfl (le_ rfl) (le_ rfl) dL_isLowered_21
theorem w_content {l : Launch} {D : DD} {z : Nat} {X : XT} {M : MT} {o : Int64} {f1 : Nat} {v1 : Int32} {r : Int32} (hf : f_X11_content X v1 = some r) : CW l yL_content cL_content 4 (some .int) [(0, 9, 12, 28)] (rmk 3 0 0) D z [.ref (z + aX 0 0 0), .int v1, .ref (z + 537)] (GG D z (X, (f1 + 2, M, o))) (some (.int 0)) (GG D z (X, (f1 + 2, M, r.toInt64))) := by
  refine cw_of pn_L (le_ rfl) (ls := [(0, .ref (z + aX 0 0 0)), (1, .int v1), (2, .ref (z + 537))]) rfl ?_
  intro p e s m args below meth c E hct
  refine j_aload_n E 2 rfl dL_content_0 ?_
  refine j_iconst E 0 ic_0 dL_content_1 ?_
  refine j_aload_n E 0 rfl dL_content_2 ?_
  refine j_iload_n E 1 rfl dL_content_3 ?_
  refine j_invV [.int 0, .ref (z + 537)] [.int r, .int 0, .ref (z + 537)] E (c_X11_content hf) ml_L_81 mv_X11_content rfl ⟨le_ rfl, le_ rfl⟩ (rcX ok0 cf_X11 ent0) rfl rfl (le_ rfl) ⟨le_ rfl, le_ rfl⟩ dL_content_4 ?_
  refine j_i2l E dL_content_7 ?_
  refine j_lastO E dL_content_8 ?_
  refine j_goto E 15 (by decide) dL_content_9 ?_
  refine j_iconst E 0 ic_0 dL_content_15 ?_
  exact j_iret E rfl (le_ rfl) (le_ rfl) dL_content_16
theorem wx_content_2 {l : Launch} {D : DD} {z : Nat} {X : XT} {M : MT} {o : Int64} {f1 : Nat} {v1 : Int32} (hl : l.stackTraces = false) (hf : t_X11_content X v1 = some 2) : CW l yL_content cL_content 4 (some .int) [(0, 9, 12, 28)] (rmk 8 1 6) D z [.ref (z + aX 0 0 0), .int v1, .ref (z + 537)] (GG D z (X, (f1 + 2, M, o))) (some (.int 1)) (GG D z (X, (f1 + 2, M, o))) := by
  refine cw_of pn_L (le_ rfl) (ls := [(0, .ref (z + aX 0 0 0)), (1, .int v1), (2, .ref (z + 537))]) rfl ?_
  intro p e s m args below meth c E hct
  refine j_aload_n E 2 rfl dL_content_0 ?_
  refine j_iconst E 0 ic_0 dL_content_1 ?_
  refine j_aload_n E 0 rfl dL_content_2 ?_
  refine j_iload_n E 1 rfl dL_content_3 ?_
  refine j_catchV [] ⟨0, 9, 12, 28⟩ [] [.int 0, .ref (z + 537)] E hct rfl (fun _ h => by cases h) (by decide) (by decide) cl_L_28 cb_2 (tc_X11_content hl hf) ml_L_81 mv_X11_content rfl ⟨le_ rfl, le_ rfl⟩ (rcX ok0 cf_X11 ent0) rfl (le_ rfl) ⟨le_ rfl, le_ rfl⟩ dL_content_4 (fun q => ?_)
  refine j_astore_n (ls' := [(3, .ref q), (0, .ref (z + aX 0 0 0)), (1, .int v1), (2, .ref (z + 537))]) E (lt_ rfl) rfl dL_content_12 ?_
  refine j_iconst E 1 ic_1 dL_content_13 ?_
  exact j_iret E rfl (le_ rfl) (le_ rfl) dL_content_14
theorem w_varietyIn {l : Launch} {D : DD} {z : Nat} {X : XT} {M : MT} {o : Int64} {f1 : Nat} {v1 : Int32} {r : Int32} (hf : f_X11_varietyIn X v1 = some r) : CW l yL_varietyIn cL_varietyIn 4 (some .int) [(0, 9, 12, 28)] (rmk 3 0 0) D z [.ref (z + aX 0 0 0), .int v1, .ref (z + 537)] (GG D z (X, (f1 + 2, M, o))) (some (.int 0)) (GG D z (X, (f1 + 2, M, r.toInt64))) := by
  refine cw_of pn_L (le_ rfl) (ls := [(0, .ref (z + aX 0 0 0)), (1, .int v1), (2, .ref (z + 537))]) rfl ?_
  intro p e s m args below meth c E hct
  refine j_aload_n E 2 rfl dL_varietyIn_0 ?_
  refine j_iconst E 0 ic_0 dL_varietyIn_1 ?_
  refine j_aload_n E 0 rfl dL_varietyIn_2 ?_
  refine j_iload_n E 1 rfl dL_varietyIn_3 ?_
  refine j_invV [.int 0, .ref (z + 537)] [.int r, .int 0, .ref (z + 537)] E (c_X11_varietyIn hf) ml_L_84 mv_X11_varietyIn rfl ⟨le_ rfl, le_ rfl⟩ (rcX ok0 cf_X11 ent0) rfl rfl (le_ rfl) ⟨le_ rfl, le_ rfl⟩ dL_varietyIn_4 ?_
  refine j_i2l E dL_varietyIn_7 ?_
  refine j_lastO E dL_varietyIn_8 ?_
  refine j_goto E 15 (by decide) dL_varietyIn_9 ?_
  refine j_iconst E 0 ic_0 dL_varietyIn_15 ?_
  exact j_iret E rfl (le_ rfl) (le_ rfl) dL_varietyIn_16
theorem wx_varietyIn_2 {l : Launch} {D : DD} {z : Nat} {X : XT} {M : MT} {o : Int64} {f1 : Nat} {v1 : Int32} (hl : l.stackTraces = false) (hf : t_X11_varietyIn X v1 = some 2) : CW l yL_varietyIn cL_varietyIn 4 (some .int) [(0, 9, 12, 28)] (rmk 8 1 6) D z [.ref (z + aX 0 0 0), .int v1, .ref (z + 537)] (GG D z (X, (f1 + 2, M, o))) (some (.int 1)) (GG D z (X, (f1 + 2, M, o))) := by
  refine cw_of pn_L (le_ rfl) (ls := [(0, .ref (z + aX 0 0 0)), (1, .int v1), (2, .ref (z + 537))]) rfl ?_
  intro p e s m args below meth c E hct
  refine j_aload_n E 2 rfl dL_varietyIn_0 ?_
  refine j_iconst E 0 ic_0 dL_varietyIn_1 ?_
  refine j_aload_n E 0 rfl dL_varietyIn_2 ?_
  refine j_iload_n E 1 rfl dL_varietyIn_3 ?_
  refine j_catchV [] ⟨0, 9, 12, 28⟩ [] [.int 0, .ref (z + 537)] E hct rfl (fun _ h => by cases h) (by decide) (by decide) cl_L_28 cb_2 (tc_X11_varietyIn hl hf) ml_L_84 mv_X11_varietyIn rfl ⟨le_ rfl, le_ rfl⟩ (rcX ok0 cf_X11 ent0) rfl (le_ rfl) ⟨le_ rfl, le_ rfl⟩ dL_varietyIn_4 (fun q => ?_)
  refine j_astore_n (ls' := [(3, .ref q), (0, .ref (z + aX 0 0 0)), (1, .int v1), (2, .ref (z + 537))]) E (lt_ rfl) rfl dL_varietyIn_12 ?_
  refine j_iconst E 1 ic_1 dL_varietyIn_13 ?_
  exact j_iret E rfl (le_ rfl) (le_ rfl) dL_varietyIn_14
theorem w_meanSugar {l : Launch} {D : DD} {z : Nat} {X : XT} {M : MT} {o : Int64} {f1 : Nat} {v1 : Int32} {r : Int32} (hf : f_X11_meanSugar X v1 = some r) : CW l yL_meanSugar cL_meanSugar 4 (some .int) [(0, 9, 12, 28)] (rmk 3 0 0) D z [.ref (z + aX 0 0 0), .int v1, .ref (z + 537)] (GG D z (X, (f1 + 2, M, o))) (some (.int 0)) (GG D z (X, (f1 + 2, M, r.toInt64))) := by
  refine cw_of pn_L (le_ rfl) (ls := [(0, .ref (z + aX 0 0 0)), (1, .int v1), (2, .ref (z + 537))]) rfl ?_
  intro p e s m args below meth c E hct
  refine j_aload_n E 2 rfl dL_meanSugar_0 ?_
  refine j_iconst E 0 ic_0 dL_meanSugar_1 ?_
  refine j_aload_n E 0 rfl dL_meanSugar_2 ?_
  refine j_iload_n E 1 rfl dL_meanSugar_3 ?_
  refine j_invV [.int 0, .ref (z + 537)] [.int r, .int 0, .ref (z + 537)] E (c_X11_meanSugar hf) ml_L_87 mv_X11_meanSugar rfl ⟨le_ rfl, le_ rfl⟩ (rcX ok0 cf_X11 ent0) rfl rfl (le_ rfl) ⟨le_ rfl, le_ rfl⟩ dL_meanSugar_4 ?_
  refine j_i2l E dL_meanSugar_7 ?_
  refine j_lastO E dL_meanSugar_8 ?_
  refine j_goto E 15 (by decide) dL_meanSugar_9 ?_
  refine j_iconst E 0 ic_0 dL_meanSugar_15 ?_
  exact j_iret E rfl (le_ rfl) (le_ rfl) dL_meanSugar_16
theorem wx_meanSugar_2 {l : Launch} {D : DD} {z : Nat} {X : XT} {M : MT} {o : Int64} {f1 : Nat} {v1 : Int32} (hl : l.stackTraces = false) (hf : t_X11_meanSugar X v1 = some 2) : CW l yL_meanSugar cL_meanSugar 4 (some .int) [(0, 9, 12, 28)] (rmk 8 1 6) D z [.ref (z + aX 0 0 0), .int v1, .ref (z + 537)] (GG D z (X, (f1 + 2, M, o))) (some (.int 1)) (GG D z (X, (f1 + 2, M, o))) := by
  refine cw_of pn_L (le_ rfl) (ls := [(0, .ref (z + aX 0 0 0)), (1, .int v1), (2, .ref (z + 537))]) rfl ?_
  intro p e s m args below meth c E hct
  refine j_aload_n E 2 rfl dL_meanSugar_0 ?_
  refine j_iconst E 0 ic_0 dL_meanSugar_1 ?_
  refine j_aload_n E 0 rfl dL_meanSugar_2 ?_
  refine j_iload_n E 1 rfl dL_meanSugar_3 ?_
  refine j_catchV [] ⟨0, 9, 12, 28⟩ [] [.int 0, .ref (z + 537)] E hct rfl (fun _ h => by cases h) (by decide) (by decide) cl_L_28 cb_2 (tc_X11_meanSugar hl hf) ml_L_87 mv_X11_meanSugar rfl ⟨le_ rfl, le_ rfl⟩ (rcX ok0 cf_X11 ent0) rfl (le_ rfl) ⟨le_ rfl, le_ rfl⟩ dL_meanSugar_4 (fun q => ?_)
  refine j_astore_n (ls' := [(3, .ref q), (0, .ref (z + aX 0 0 0)), (1, .int v1), (2, .ref (z + 537))]) E (lt_ rfl) rfl dL_meanSugar_12 ?_
  refine j_iconst E 1 ic_1 dL_meanSugar_13 ?_
  exact j_iret E rfl (le_ rfl) (le_ rfl) dL_meanSugar_14
theorem w_tankFor {l : Launch} {D : DD} {z : Nat} {X : XT} {M : MT} {o : Int64} {f1 : Nat} {v1 v2 : Int32} {r : Int32} (hf : f_X11_tankFor X v1 v2 = some r) : CW l yL_tankFor cL_tankFor 5 (some .int) [(0, 10, 13, 28), (0, 10, 17, 19)] (rmk 4 0 0) D z [.ref (z + aX 0 0 0), .int v1, .int v2, .ref (z + 537)] (GG D z (X, (f1 + 2, M, o))) (some (.int 0)) (GG D z (X, (f1 + 2, M, r.toInt64))) := by
  refine cw_of pn_L (le_ rfl) (ls := [(0, .ref (z + aX 0 0 0)), (1, .int v1), (2, .int v2), (3, .ref (z + 537))]) rfl ?_
  intro p e s m args below meth c E hct
  refine j_aload_n E 3 rfl dL_tankFor_0 ?_
  refine j_iconst E 0 ic_0 dL_tankFor_1 ?_
  refine j_aload_n E 0 rfl dL_tankFor_2 ?_
  refine j_iload_n E 1 rfl dL_tankFor_3 ?_
  refine j_iload_n E 2 rfl dL_tankFor_4 ?_
  refine j_invV [.int 0, .ref (z + 537)] [.int r, .int 0, .ref (z + 537)] E (c_X11_tankFor hf) ml_L_90 mv_X11_tankFor rfl ⟨le_ rfl, le_ rfl⟩ (rcX ok0 cf_X11 ent0) rfl rfl (le_ rfl) ⟨le_ rfl, le_ rfl⟩ dL_tankFor_5 ?_
  refine j_i2l E dL_tankFor_8 ?_
  refine j_lastO E dL_tankFor_9 ?_
  refine j_goto E 21 (by decide) dL_tankFor_10 ?_
  refine j_iconst E 0 ic_0 dL_tankFor_21 ?_
  exact j_iret E rfl (le_ rfl) (le_ rfl) dL_tankFor_22
theorem wx_tankFor_2 {l : Launch} {D : DD} {z : Nat} {X : XT} {M : MT} {o : Int64} {f1 : Nat} {v1 v2 : Int32} (hl : l.stackTraces = false) (hf : t_X11_tankFor X v1 v2 = some 2) : CW l yL_tankFor cL_tankFor 5 (some .int) [(0, 10, 13, 28), (0, 10, 17, 19)] (rmk 8 1 6) D z [.ref (z + aX 0 0 0), .int v1, .int v2, .ref (z + 537)] (GG D z (X, (f1 + 2, M, o))) (some (.int 1)) (GG D z (X, (f1 + 2, M, o))) := by
  refine cw_of pn_L (le_ rfl) (ls := [(0, .ref (z + aX 0 0 0)), (1, .int v1), (2, .int v2), (3, .ref (z + 537))]) rfl ?_
  intro p e s m args below meth c E hct
  refine j_aload_n E 3 rfl dL_tankFor_0 ?_
  refine j_iconst E 0 ic_0 dL_tankFor_1 ?_
  refine j_aload_n E 0 rfl dL_tankFor_2 ?_
  refine j_iload_n E 1 rfl dL_tankFor_3 ?_
  refine j_iload_n E 2 rfl dL_tankFor_4 ?_
  refine j_catchV [] ⟨0, 10, 13, 28⟩ [⟨0, 10, 17, 19⟩] [.int 0, .ref (z + 537)] E hct rfl (fun _ h => by cases h) (by decide) (by decide) cl_L_28 cb_2 (tc_X11_tankFor hl hf) ml_L_90 mv_X11_tankFor rfl ⟨le_ rfl, le_ rfl⟩ (rcX ok0 cf_X11 ent0) rfl (le_ rfl) ⟨le_ rfl, le_ rfl⟩ dL_tankFor_5 (fun q => ?_)
  refine j_astore (ls' := [(4, .ref q), (0, .ref (z + aX 0 0 0)), (1, .int v1), (2, .int v2), (3, .ref (z + 537))]) E (lt_ rfl) rfl dL_tankFor_13 ?_
  refine j_iconst E 1 ic_1 dL_tankFor_15 ?_
  exact j_iret E rfl (le_ rfl) (le_ rfl) dL_tankFor_16
theorem wx_tankFor_1 {l : Launch} {D : DD} {z : Nat} {X : XT} {M : MT} {o : Int64} {f1 : Nat} {v1 v2 : Int32} (hl : l.stackTraces = false) (hf : t_X11_tankFor X v1 v2 = some 1) : CW l yL_tankFor cL_tankFor 5 (some .int) [(0, 10, 13, 28), (0, 10, 17, 19)] (rmk 8 1 6) D z [.ref (z + aX 0 0 0), .int v1, .int v2, .ref (z + 537)] (GG D z (X, (f1 + 2, M, o))) (some (.int 2)) (GG D z (X, (f1 + 2, M, o))) := by
  refine cw_of pn_L (le_ rfl) (ls := [(0, .ref (z + aX 0 0 0)), (1, .int v1), (2, .int v2), (3, .ref (z + 537))]) rfl ?_
  intro p e s m args below meth c E hct
  refine j_aload_n E 3 rfl dL_tankFor_0 ?_
  refine j_iconst E 0 ic_0 dL_tankFor_1 ?_
  refine j_aload_n E 0 rfl dL_tankFor_2 ?_
  refine j_iload_n E 1 rfl dL_tankFor_3 ?_
  refine j_iload_n E 2 rfl dL_tankFor_4 ?_
  refine j_catchV [⟨0, 10, 13, 28⟩] ⟨0, 10, 17, 19⟩ [] [.int 0, .ref (z + 537)] E hct rfl (by
    intro z' hz'
    simp only [List.mem_cons, List.not_mem_nil, or_false] at hz'
    rcases hz' with rfl
    · exact Or.inr ⟨by decide, _, cl_L_28, by decide⟩) (by decide) (by decide) cl_L_19 cb_1 (tc_X11_tankFor hl hf) ml_L_90 mv_X11_tankFor rfl ⟨le_ rfl, le_ rfl⟩ (rcX ok0 cf_X11 ent0) rfl (le_ rfl) ⟨le_ rfl, le_ rfl⟩ dL_tankFor_5 (fun q => ?_)
  refine j_astore (ls' := [(4, .ref q), (0, .ref (z + aX 0 0 0)), (1, .int v1), (2, .int v2), (3, .ref (z + 537))]) E (lt_ rfl) rfl dL_tankFor_17 ?_
  refine j_iconst E 2 ic_2 dL_tankFor_19 ?_
  exact j_iret E rfl (le_ rfl) (le_ rfl) dL_tankFor_20
theorem w_greatestLoad {l : Launch} {D : DD} {z : Nat} {X : XT} {M : MT} {o : Int64} {f1 : Nat} {v1 : Int32} {r : Int32} (hf : f_X11_greatestLoad X v1 = some r) : CW l yL_greatestLoad cL_greatestLoad 4 (some .int) [(0, 9, 12, 28)] (rmk 4 0 0) D z [.ref (z + aX 0 0 0), .int v1, .ref (z + 537)] (GG D z (X, (f1 + 2, M, o))) (some (.int 0)) (GG D z (X, (f1 + 2, M, r.toInt64))) := by
  refine cw_of pn_L (le_ rfl) (ls := [(0, .ref (z + aX 0 0 0)), (1, .int v1), (2, .ref (z + 537))]) rfl ?_
  intro p e s m args below meth c E hct
  refine j_aload_n E 2 rfl dL_greatestLoad_0 ?_
  refine j_iconst E 0 ic_0 dL_greatestLoad_1 ?_
  refine j_aload_n E 0 rfl dL_greatestLoad_2 ?_
  refine j_iload_n E 1 rfl dL_greatestLoad_3 ?_
  refine j_invV [.int 0, .ref (z + 537)] [.int r, .int 0, .ref (z + 537)] E (c_X11_greatestLoad hf) ml_L_93 mv_X11_greatestLoad rfl ⟨le_ rfl, le_ rfl⟩ (rcX ok0 cf_X11 ent0) rfl rfl (le_ rfl) ⟨le_ rfl, le_ rfl⟩ dL_greatestLoad_4 ?_
  refine j_i2l E dL_greatestLoad_7 ?_
  refine j_lastO E dL_greatestLoad_8 ?_
  refine j_goto E 15 (by decide) dL_greatestLoad_9 ?_
  refine j_iconst E 0 ic_0 dL_greatestLoad_15 ?_
  exact j_iret E rfl (le_ rfl) (le_ rfl) dL_greatestLoad_16
theorem wx_greatestLoad_2 {l : Launch} {D : DD} {z : Nat} {X : XT} {M : MT} {o : Int64} {f1 : Nat} {v1 : Int32} (hl : l.stackTraces = false) (hf : t_X11_greatestLoad X v1 = some 2) : CW l yL_greatestLoad cL_greatestLoad 4 (some .int) [(0, 9, 12, 28)] (rmk 8 1 6) D z [.ref (z + aX 0 0 0), .int v1, .ref (z + 537)] (GG D z (X, (f1 + 2, M, o))) (some (.int 1)) (GG D z (X, (f1 + 2, M, o))) := by
  refine cw_of pn_L (le_ rfl) (ls := [(0, .ref (z + aX 0 0 0)), (1, .int v1), (2, .ref (z + 537))]) rfl ?_
  intro p e s m args below meth c E hct
  refine j_aload_n E 2 rfl dL_greatestLoad_0 ?_
  refine j_iconst E 0 ic_0 dL_greatestLoad_1 ?_
  refine j_aload_n E 0 rfl dL_greatestLoad_2 ?_
  refine j_iload_n E 1 rfl dL_greatestLoad_3 ?_
  refine j_catchV [] ⟨0, 9, 12, 28⟩ [] [.int 0, .ref (z + 537)] E hct rfl (fun _ h => by cases h) (by decide) (by decide) cl_L_28 cb_2 (tc_X11_greatestLoad hl hf) ml_L_93 mv_X11_greatestLoad rfl ⟨le_ rfl, le_ rfl⟩ (rcX ok0 cf_X11 ent0) rfl (le_ rfl) ⟨le_ rfl, le_ rfl⟩ dL_greatestLoad_4 (fun q => ?_)
  refine j_astore_n (ls' := [(3, .ref q), (0, .ref (z + aX 0 0 0)), (1, .int v1), (2, .ref (z + 537))]) E (lt_ rfl) rfl dL_greatestLoad_12 ?_
  refine j_iconst E 1 ic_1 dL_greatestLoad_13 ?_
  exact j_iret E rfl (le_ rfl) (le_ rfl) dL_greatestLoad_14
theorem w_refusal {l : Launch} {D : DD} {z : Nat} {X : XT} {M : MT} {o : Int64} {f1 : Nat} {v1 v2 v3 : Int32} {r : Int32} (hf : f_X11_refusal X v1 v2 v3 = some r) : CW l yL_refusal cL_refusal 6 (some .int) [(0, 12, 15, 28), (0, 12, 19, 19)] (rmk 5 0 0) D z [.ref (z + aX 0 0 0), .int v1, .int v2, .int v3, .ref (z + 537)] (GG D z (X, (f1 + 2, M, o))) (some (.int 0)) (GG D z (X, (f1 + 2, M, r.toInt64))) := by
  refine cw_of pn_L (le_ rfl) (ls := [(0, .ref (z + aX 0 0 0)), (1, .int v1), (2, .int v2), (3, .int v3), (4, .ref (z + 537))]) rfl ?_
  intro p e s m args below meth c E hct
  refine j_aload E 4 rfl dL_refusal_0 ?_
  refine j_iconst E 0 ic_0 dL_refusal_2 ?_
  refine j_aload_n E 0 rfl dL_refusal_3 ?_
  refine j_iload_n E 1 rfl dL_refusal_4 ?_
  refine j_iload_n E 2 rfl dL_refusal_5 ?_
  refine j_iload_n E 3 rfl dL_refusal_6 ?_
  refine j_invV [.int 0, .ref (z + 537)] [.int r, .int 0, .ref (z + 537)] E (c_X11_refusal hf) ml_L_96 mv_X11_refusal rfl ⟨le_ rfl, le_ rfl⟩ (rcX ok0 cf_X11 ent0) rfl rfl (le_ rfl) ⟨le_ rfl, le_ rfl⟩ dL_refusal_7 ?_
  refine j_i2l E dL_refusal_10 ?_
  refine j_lastO E dL_refusal_11 ?_
  refine j_goto E 23 (by decide) dL_refusal_12 ?_
  refine j_iconst E 0 ic_0 dL_refusal_23 ?_
  exact j_iret E rfl (le_ rfl) (le_ rfl) dL_refusal_24
theorem wx_refusal_2 {l : Launch} {D : DD} {z : Nat} {X : XT} {M : MT} {o : Int64} {f1 : Nat} {v1 v2 v3 : Int32} (hl : l.stackTraces = false) (hf : t_X11_refusal X v1 v2 v3 = some 2) : CW l yL_refusal cL_refusal 6 (some .int) [(0, 12, 15, 28), (0, 12, 19, 19)] (rmk 8 1 6) D z [.ref (z + aX 0 0 0), .int v1, .int v2, .int v3, .ref (z + 537)] (GG D z (X, (f1 + 2, M, o))) (some (.int 1)) (GG D z (X, (f1 + 2, M, o))) := by
  refine cw_of pn_L (le_ rfl) (ls := [(0, .ref (z + aX 0 0 0)), (1, .int v1), (2, .int v2), (3, .int v3), (4, .ref (z + 537))]) rfl ?_
  intro p e s m args below meth c E hct
  refine j_aload E 4 rfl dL_refusal_0 ?_
  refine j_iconst E 0 ic_0 dL_refusal_2 ?_
  refine j_aload_n E 0 rfl dL_refusal_3 ?_
  refine j_iload_n E 1 rfl dL_refusal_4 ?_
  refine j_iload_n E 2 rfl dL_refusal_5 ?_
  refine j_iload_n E 3 rfl dL_refusal_6 ?_
  refine j_catchV [] ⟨0, 12, 15, 28⟩ [⟨0, 12, 19, 19⟩] [.int 0, .ref (z + 537)] E hct rfl (fun _ h => by cases h) (by decide) (by decide) cl_L_28 cb_2 (tc_X11_refusal hl hf) ml_L_96 mv_X11_refusal rfl ⟨le_ rfl, le_ rfl⟩ (rcX ok0 cf_X11 ent0) rfl (le_ rfl) ⟨le_ rfl, le_ rfl⟩ dL_refusal_7 (fun q => ?_)
  refine j_astore (ls' := [(5, .ref q), (0, .ref (z + aX 0 0 0)), (1, .int v1), (2, .int v2), (3, .int v3), (4, .ref (z + 537))]) E (lt_ rfl) rfl dL_refusal_15 ?_
  refine j_iconst E 1 ic_1 dL_refusal_17 ?_
  exact j_iret E rfl (le_ rfl) (le_ rfl) dL_refusal_18
theorem wx_refusal_1 {l : Launch} {D : DD} {z : Nat} {X : XT} {M : MT} {o : Int64} {f1 : Nat} {v1 v2 v3 : Int32} (hl : l.stackTraces = false) (hf : t_X11_refusal X v1 v2 v3 = some 1) : CW l yL_refusal cL_refusal 6 (some .int) [(0, 12, 15, 28), (0, 12, 19, 19)] (rmk 8 1 6) D z [.ref (z + aX 0 0 0), .int v1, .int v2, .int v3, .ref (z + 537)] (GG D z (X, (f1 + 2, M, o))) (some (.int 2)) (GG D z (X, (f1 + 2, M, o))) := by
  refine cw_of pn_L (le_ rfl) (ls := [(0, .ref (z + aX 0 0 0)), (1, .int v1), (2, .int v2), (3, .int v3), (4, .ref (z + 537))]) rfl ?_
  intro p e s m args below meth c E hct
  refine j_aload E 4 rfl dL_refusal_0 ?_
  refine j_iconst E 0 ic_0 dL_refusal_2 ?_
  refine j_aload_n E 0 rfl dL_refusal_3 ?_
  refine j_iload_n E 1 rfl dL_refusal_4 ?_
  refine j_iload_n E 2 rfl dL_refusal_5 ?_
  refine j_iload_n E 3 rfl dL_refusal_6 ?_
  refine j_catchV [⟨0, 12, 15, 28⟩] ⟨0, 12, 19, 19⟩ [] [.int 0, .ref (z + 537)] E hct rfl (by
    intro z' hz'
    simp only [List.mem_cons, List.not_mem_nil, or_false] at hz'
    rcases hz' with rfl
    · exact Or.inr ⟨by decide, _, cl_L_28, by decide⟩) (by decide) (by decide) cl_L_19 cb_1 (tc_X11_refusal hl hf) ml_L_96 mv_X11_refusal rfl ⟨le_ rfl, le_ rfl⟩ (rcX ok0 cf_X11 ent0) rfl (le_ rfl) ⟨le_ rfl, le_ rfl⟩ dL_refusal_7 (fun q => ?_)
  refine j_astore (ls' := [(5, .ref q), (0, .ref (z + aX 0 0 0)), (1, .int v1), (2, .int v2), (3, .int v3), (4, .ref (z + 537))]) E (lt_ rfl) rfl dL_refusal_19 ?_
  refine j_iconst E 2 ic_2 dL_refusal_21 ?_
  exact j_iret E rfl (le_ rfl) (le_ rfl) dL_refusal_22
theorem w_valueIfDelivered {l : Launch} {D : DD} {z : Nat} {X : XT} {M : MT} {o : Int64} {f1 : Nat} {v1 v2 v3 : Int32} {r : Int32} (hf : f_X11_valueIfDelivered X v1 v2 v3 = some r) : CW l yL_valueIfDelivered cL_valueIfDelivered 6 (some .int) [(0, 12, 15, 28), (0, 12, 19, 19)] (rmk 5 0 0) D z [.ref (z + aX 0 0 0), .int v1, .int v2, .int v3, .ref (z + 537)] (GG D z (X, (f1 + 2, M, o))) (some (.int 0)) (GG D z (X, (f1 + 2, M, r.toInt64))) := by
  refine cw_of pn_L (le_ rfl) (ls := [(0, .ref (z + aX 0 0 0)), (1, .int v1), (2, .int v2), (3, .int v3), (4, .ref (z + 537))]) rfl ?_
  intro p e s m args below meth c E hct
  refine j_aload E 4 rfl dL_valueIfDelivered_0 ?_
  refine j_iconst E 0 ic_0 dL_valueIfDelivered_2 ?_
  refine j_aload_n E 0 rfl dL_valueIfDelivered_3 ?_
  refine j_iload_n E 1 rfl dL_valueIfDelivered_4 ?_
  refine j_iload_n E 2 rfl dL_valueIfDelivered_5 ?_
  refine j_iload_n E 3 rfl dL_valueIfDelivered_6 ?_
  refine j_invV [.int 0, .ref (z + 537)] [.int r, .int 0, .ref (z + 537)] E (c_X11_valueIfDelivered hf) ml_L_100 mv_X11_valueIfDelivered rfl ⟨le_ rfl, le_ rfl⟩ (rcX ok0 cf_X11 ent0) rfl rfl (le_ rfl) ⟨le_ rfl, le_ rfl⟩ dL_valueIfDelivered_7 ?_
  refine j_i2l E dL_valueIfDelivered_10 ?_
  refine j_lastO E dL_valueIfDelivered_11 ?_
  refine j_goto E 23 (by decide) dL_valueIfDelivered_12 ?_
  refine j_iconst E 0 ic_0 dL_valueIfDelivered_23 ?_
  exact j_iret E rfl (le_ rfl) (le_ rfl) dL_valueIfDelivered_24
theorem wx_valueIfDelivered_2 {l : Launch} {D : DD} {z : Nat} {X : XT} {M : MT} {o : Int64} {f1 : Nat} {v1 v2 v3 : Int32} (hl : l.stackTraces = false) (hf : t_X11_valueIfDelivered X v1 v2 v3 = some 2) : CW l yL_valueIfDelivered cL_valueIfDelivered 6 (some .int) [(0, 12, 15, 28), (0, 12, 19, 19)] (rmk 8 1 6) D z [.ref (z + aX 0 0 0), .int v1, .int v2, .int v3, .ref (z + 537)] (GG D z (X, (f1 + 2, M, o))) (some (.int 1)) (GG D z (X, (f1 + 2, M, o))) := by
  refine cw_of pn_L (le_ rfl) (ls := [(0, .ref (z + aX 0 0 0)), (1, .int v1), (2, .int v2), (3, .int v3), (4, .ref (z + 537))]) rfl ?_
  intro p e s m args below meth c E hct
  refine j_aload E 4 rfl dL_valueIfDelivered_0 ?_
  refine j_iconst E 0 ic_0 dL_valueIfDelivered_2 ?_
  refine j_aload_n E 0 rfl dL_valueIfDelivered_3 ?_
  refine j_iload_n E 1 rfl dL_valueIfDelivered_4 ?_
  refine j_iload_n E 2 rfl dL_valueIfDelivered_5 ?_
  refine j_iload_n E 3 rfl dL_valueIfDelivered_6 ?_
  refine j_catchV [] ⟨0, 12, 15, 28⟩ [⟨0, 12, 19, 19⟩] [.int 0, .ref (z + 537)] E hct rfl (fun _ h => by cases h) (by decide) (by decide) cl_L_28 cb_2 (tc_X11_valueIfDelivered hl hf) ml_L_100 mv_X11_valueIfDelivered rfl ⟨le_ rfl, le_ rfl⟩ (rcX ok0 cf_X11 ent0) rfl (le_ rfl) ⟨le_ rfl, le_ rfl⟩ dL_valueIfDelivered_7 (fun q => ?_)
  refine j_astore (ls' := [(5, .ref q), (0, .ref (z + aX 0 0 0)), (1, .int v1), (2, .int v2), (3, .int v3), (4, .ref (z + 537))]) E (lt_ rfl) rfl dL_valueIfDelivered_15 ?_
  refine j_iconst E 1 ic_1 dL_valueIfDelivered_17 ?_
  exact j_iret E rfl (le_ rfl) (le_ rfl) dL_valueIfDelivered_18
theorem wx_valueIfDelivered_1 {l : Launch} {D : DD} {z : Nat} {X : XT} {M : MT} {o : Int64} {f1 : Nat} {v1 v2 v3 : Int32} (hl : l.stackTraces = false) (hf : t_X11_valueIfDelivered X v1 v2 v3 = some 1) : CW l yL_valueIfDelivered cL_valueIfDelivered 6 (some .int) [(0, 12, 15, 28), (0, 12, 19, 19)] (rmk 8 1 6) D z [.ref (z + aX 0 0 0), .int v1, .int v2, .int v3, .ref (z + 537)] (GG D z (X, (f1 + 2, M, o))) (some (.int 2)) (GG D z (X, (f1 + 2, M, o))) := by
  refine cw_of pn_L (le_ rfl) (ls := [(0, .ref (z + aX 0 0 0)), (1, .int v1), (2, .int v2), (3, .int v3), (4, .ref (z + 537))]) rfl ?_
  intro p e s m args below meth c E hct
  refine j_aload E 4 rfl dL_valueIfDelivered_0 ?_
  refine j_iconst E 0 ic_0 dL_valueIfDelivered_2 ?_
  refine j_aload_n E 0 rfl dL_valueIfDelivered_3 ?_
  refine j_iload_n E 1 rfl dL_valueIfDelivered_4 ?_
  refine j_iload_n E 2 rfl dL_valueIfDelivered_5 ?_
  refine j_iload_n E 3 rfl dL_valueIfDelivered_6 ?_
  refine j_catchV [⟨0, 12, 15, 28⟩] ⟨0, 12, 19, 19⟩ [] [.int 0, .ref (z + 537)] E hct rfl (by
    intro z' hz'
    simp only [List.mem_cons, List.not_mem_nil, or_false] at hz'
    rcases hz' with rfl
    · exact Or.inr ⟨by decide, _, cl_L_28, by decide⟩) (by decide) (by decide) cl_L_19 cb_1 (tc_X11_valueIfDelivered hl hf) ml_L_100 mv_X11_valueIfDelivered rfl ⟨le_ rfl, le_ rfl⟩ (rcX ok0 cf_X11 ent0) rfl (le_ rfl) ⟨le_ rfl, le_ rfl⟩ dL_valueIfDelivered_7 (fun q => ?_)
  refine j_astore (ls' := [(5, .ref q), (0, .ref (z + aX 0 0 0)), (1, .int v1), (2, .int v2), (3, .int v3), (4, .ref (z + 537))]) E (lt_ rfl) rfl dL_valueIfDelivered_19 ?_
  refine j_iconst E 2 ic_2 dL_valueIfDelivered_21 ?_
  exact j_iret E rfl (le_ rfl) (le_ rfl) dL_valueIfDelivered_22
theorem w_lotVariety {l : Launch} {D : DD} {z : Nat} {X : XT} {M : MT} {o : Int64} {f1 : Nat} {v1 : Int32} {r : Int32} (hf : f_X11_lotVariety X v1 = some r) : CW l yL_lotVariety cL_lotVariety 4 (some .int) [(0, 9, 12, 28)] (rmk 3 0 0) D z [.ref (z + aX 0 0 0), .int v1, .ref (z + 537)] (GG D z (X, (f1 + 2, M, o))) (some (.int 0)) (GG D z (X, (f1 + 2, M, r.toInt64))) := by
  refine cw_of pn_L (le_ rfl) (ls := [(0, .ref (z + aX 0 0 0)), (1, .int v1), (2, .ref (z + 537))]) rfl ?_
  intro p e s m args below meth c E hct
  refine j_aload_n E 2 rfl dL_lotVariety_0 ?_
  refine j_iconst E 0 ic_0 dL_lotVariety_1 ?_
  refine j_aload_n E 0 rfl dL_lotVariety_2 ?_
  refine j_iload_n E 1 rfl dL_lotVariety_3 ?_
  refine j_invV [.int 0, .ref (z + 537)] [.int r, .int 0, .ref (z + 537)] E (c_X11_lotVariety hf) ml_L_103 mv_X11_lotVariety rfl ⟨le_ rfl, le_ rfl⟩ (rcX ok0 cf_X11 ent0) rfl rfl (le_ rfl) ⟨le_ rfl, le_ rfl⟩ dL_lotVariety_4 ?_
  refine j_i2l E dL_lotVariety_7 ?_
  refine j_lastO E dL_lotVariety_8 ?_
  refine j_goto E 15 (by decide) dL_lotVariety_9 ?_
  refine j_iconst E 0 ic_0 dL_lotVariety_15 ?_
  exact j_iret E rfl (le_ rfl) (le_ rfl) dL_lotVariety_16
theorem wx_lotVariety_2 {l : Launch} {D : DD} {z : Nat} {X : XT} {M : MT} {o : Int64} {f1 : Nat} {v1 : Int32} (hl : l.stackTraces = false) (hf : t_X11_lotVariety X v1 = some 2) : CW l yL_lotVariety cL_lotVariety 4 (some .int) [(0, 9, 12, 28)] (rmk 8 1 6) D z [.ref (z + aX 0 0 0), .int v1, .ref (z + 537)] (GG D z (X, (f1 + 2, M, o))) (some (.int 1)) (GG D z (X, (f1 + 2, M, o))) := by
  refine cw_of pn_L (le_ rfl) (ls := [(0, .ref (z + aX 0 0 0)), (1, .int v1), (2, .ref (z + 537))]) rfl ?_
  intro p e s m args below meth c E hct
  refine j_aload_n E 2 rfl dL_lotVariety_0 ?_
  refine j_iconst E 0 ic_0 dL_lotVariety_1 ?_
  refine j_aload_n E 0 rfl dL_lotVariety_2 ?_
  refine j_iload_n E 1 rfl dL_lotVariety_3 ?_
  refine j_catchV [] ⟨0, 9, 12, 28⟩ [] [.int 0, .ref (z + 537)] E hct rfl (fun _ h => by cases h) (by decide) (by decide) cl_L_28 cb_2 (tc_X11_lotVariety hl hf) ml_L_103 mv_X11_lotVariety rfl ⟨le_ rfl, le_ rfl⟩ (rcX ok0 cf_X11 ent0) rfl (le_ rfl) ⟨le_ rfl, le_ rfl⟩ dL_lotVariety_4 (fun q => ?_)
  refine j_astore_n (ls' := [(3, .ref q), (0, .ref (z + aX 0 0 0)), (1, .int v1), (2, .ref (z + 537))]) E (lt_ rfl) rfl dL_lotVariety_12 ?_
  refine j_iconst E 1 ic_1 dL_lotVariety_13 ?_
  exact j_iret E rfl (le_ rfl) (le_ rfl) dL_lotVariety_14
theorem w_lotSugar {l : Launch} {D : DD} {z : Nat} {X : XT} {M : MT} {o : Int64} {f1 : Nat} {v1 : Int32} {r : Int32} (hf : f_X11_lotSugar X v1 = some r) : CW l yL_lotSugar cL_lotSugar 4 (some .int) [(0, 9, 12, 28)] (rmk 3 0 0) D z [.ref (z + aX 0 0 0), .int v1, .ref (z + 537)] (GG D z (X, (f1 + 2, M, o))) (some (.int 0)) (GG D z (X, (f1 + 2, M, r.toInt64))) := by
  refine cw_of pn_L (le_ rfl) (ls := [(0, .ref (z + aX 0 0 0)), (1, .int v1), (2, .ref (z + 537))]) rfl ?_
  intro p e s m args below meth c E hct
  refine j_aload_n E 2 rfl dL_lotSugar_0 ?_
  refine j_iconst E 0 ic_0 dL_lotSugar_1 ?_
  refine j_aload_n E 0 rfl dL_lotSugar_2 ?_
  refine j_iload_n E 1 rfl dL_lotSugar_3 ?_
  refine j_invV [.int 0, .ref (z + 537)] [.int r, .int 0, .ref (z + 537)] E (c_X11_lotSugar hf) ml_L_106 mv_X11_lotSugar rfl ⟨le_ rfl, le_ rfl⟩ (rcX ok0 cf_X11 ent0) rfl rfl (le_ rfl) ⟨le_ rfl, le_ rfl⟩ dL_lotSugar_4 ?_
  refine j_i2l E dL_lotSugar_7 ?_
  refine j_lastO E dL_lotSugar_8 ?_
  refine j_goto E 15 (by decide) dL_lotSugar_9 ?_
  refine j_iconst E 0 ic_0 dL_lotSugar_15 ?_
  exact j_iret E rfl (le_ rfl) (le_ rfl) dL_lotSugar_16
theorem wx_lotSugar_2 {l : Launch} {D : DD} {z : Nat} {X : XT} {M : MT} {o : Int64} {f1 : Nat} {v1 : Int32} (hl : l.stackTraces = false) (hf : t_X11_lotSugar X v1 = some 2) : CW l yL_lotSugar cL_lotSugar 4 (some .int) [(0, 9, 12, 28)] (rmk 8 1 6) D z [.ref (z + aX 0 0 0), .int v1, .ref (z + 537)] (GG D z (X, (f1 + 2, M, o))) (some (.int 1)) (GG D z (X, (f1 + 2, M, o))) := by
  refine cw_of pn_L (le_ rfl) (ls := [(0, .ref (z + aX 0 0 0)), (1, .int v1), (2, .ref (z + 537))]) rfl ?_
  intro p e s m args below meth c E hct
  refine j_aload_n E 2 rfl dL_lotSugar_0 ?_
  refine j_iconst E 0 ic_0 dL_lotSugar_1 ?_
  refine j_aload_n E 0 rfl dL_lotSugar_2 ?_
  refine j_iload_n E 1 rfl dL_lotSugar_3 ?_
  refine j_catchV [] ⟨0, 9, 12, 28⟩ [] [.int 0, .ref (z + 537)] E hct rfl (fun _ h => by cases h) (by decide) (by decide) cl_L_28 cb_2 (tc_X11_lotSugar hl hf) ml_L_106 mv_X11_lotSugar rfl ⟨le_ rfl, le_ rfl⟩ (rcX ok0 cf_X11 ent0) rfl (le_ rfl) ⟨le_ rfl, le_ rfl⟩ dL_lotSugar_4 (fun q => ?_)
  refine j_astore_n (ls' := [(3, .ref q), (0, .ref (z + aX 0 0 0)), (1, .int v1), (2, .ref (z + 537))]) E (lt_ rfl) rfl dL_lotSugar_12 ?_
  refine j_iconst E 1 ic_1 dL_lotSugar_13 ?_
  exact j_iret E rfl (le_ rfl) (le_ rfl) dL_lotSugar_14
theorem w_unsold {l : Launch} {D : DD} {z : Nat} {X : XT} {M : MT} {o : Int64} {f1 : Nat} {v1 : Int32} {r : Int32} (hf : f_X11_unsold X v1 = some r) : CW l yL_unsold cL_unsold 4 (some .int) [(0, 9, 12, 28)] (rmk 3 0 0) D z [.ref (z + aX 0 0 0), .int v1, .ref (z + 537)] (GG D z (X, (f1 + 2, M, o))) (some (.int 0)) (GG D z (X, (f1 + 2, M, r.toInt64))) := by
  refine cw_of pn_L (le_ rfl) (ls := [(0, .ref (z + aX 0 0 0)), (1, .int v1), (2, .ref (z + 537))]) rfl ?_
  intro p e s m args below meth c E hct
  refine j_aload_n E 2 rfl dL_unsold_0 ?_
  refine j_iconst E 0 ic_0 dL_unsold_1 ?_
  refine j_aload_n E 0 rfl dL_unsold_2 ?_
  refine j_iload_n E 1 rfl dL_unsold_3 ?_
  refine j_invV [.int 0, .ref (z + 537)] [.int r, .int 0, .ref (z + 537)] E (c_X11_unsold hf) ml_L_109 mv_X11_unsold rfl ⟨le_ rfl, le_ rfl⟩ (rcX ok0 cf_X11 ent0) rfl rfl (le_ rfl) ⟨le_ rfl, le_ rfl⟩ dL_unsold_4 ?_
  refine j_i2l E dL_unsold_7 ?_
  refine j_lastO E dL_unsold_8 ?_
  refine j_goto E 15 (by decide) dL_unsold_9 ?_
  refine j_iconst E 0 ic_0 dL_unsold_15 ?_
  exact j_iret E rfl (le_ rfl) (le_ rfl) dL_unsold_16
theorem wx_unsold_2 {l : Launch} {D : DD} {z : Nat} {X : XT} {M : MT} {o : Int64} {f1 : Nat} {v1 : Int32} (hl : l.stackTraces = false) (hf : t_X11_unsold X v1 = some 2) : CW l yL_unsold cL_unsold 4 (some .int) [(0, 9, 12, 28)] (rmk 8 1 6) D z [.ref (z + aX 0 0 0), .int v1, .ref (z + 537)] (GG D z (X, (f1 + 2, M, o))) (some (.int 1)) (GG D z (X, (f1 + 2, M, o))) := by
  refine cw_of pn_L (le_ rfl) (ls := [(0, .ref (z + aX 0 0 0)), (1, .int v1), (2, .ref (z + 537))]) rfl ?_
  intro p e s m args below meth c E hct
  refine j_aload_n E 2 rfl dL_unsold_0 ?_
  refine j_iconst E 0 ic_0 dL_unsold_1 ?_
  refine j_aload_n E 0 rfl dL_unsold_2 ?_
  refine j_iload_n E 1 rfl dL_unsold_3 ?_
  refine j_catchV [] ⟨0, 9, 12, 28⟩ [] [.int 0, .ref (z + 537)] E hct rfl (fun _ h => by cases h) (by decide) (by decide) cl_L_28 cb_2 (tc_X11_unsold hl hf) ml_L_109 mv_X11_unsold rfl ⟨le_ rfl, le_ rfl⟩ (rcX ok0 cf_X11 ent0) rfl (le_ rfl) ⟨le_ rfl, le_ rfl⟩ dL_unsold_4 (fun q => ?_)
  refine j_astore_n (ls' := [(3, .ref q), (0, .ref (z + aX 0 0 0)), (1, .int v1), (2, .ref (z + 537))]) E (lt_ rfl) rfl dL_unsold_12 ?_
  refine j_iconst E 1 ic_1 dL_unsold_13 ?_
  exact j_iret E rfl (le_ rfl) (le_ rfl) dL_unsold_14
theorem w_bottlesOf {l : Launch} {D : DD} {z : Nat} {X : XT} {M : MT} {o : Int64} {f1 : Nat} {v1 : Int32} {r : Int32} (hf : f_X11_bottlesOf X v1 = some r) : CW l yL_bottlesOf cL_bottlesOf 4 (some .int) [(0, 9, 12, 28)] (rmk 4 0 0) D z [.ref (z + aX 0 0 0), .int v1, .ref (z + 537)] (GG D z (X, (f1 + 2, M, o))) (some (.int 0)) (GG D z (X, (f1 + 2, M, r.toInt64))) := by
  refine cw_of pn_L (le_ rfl) (ls := [(0, .ref (z + aX 0 0 0)), (1, .int v1), (2, .ref (z + 537))]) rfl ?_
  intro p e s m args below meth c E hct
  refine j_aload_n E 2 rfl dL_bottlesOf_0 ?_
  refine j_iconst E 0 ic_0 dL_bottlesOf_1 ?_
  refine j_aload_n E 0 rfl dL_bottlesOf_2 ?_
  refine j_iload_n E 1 rfl dL_bottlesOf_3 ?_
  refine j_invV [.int 0, .ref (z + 537)] [.int r, .int 0, .ref (z + 537)] E (c_X11_bottlesOf hf) ml_L_112 mv_X11_bottlesOf rfl ⟨le_ rfl, le_ rfl⟩ (rcX ok0 cf_X11 ent0) rfl rfl (le_ rfl) ⟨le_ rfl, le_ rfl⟩ dL_bottlesOf_4 ?_
  refine j_i2l E dL_bottlesOf_7 ?_
  refine j_lastO E dL_bottlesOf_8 ?_
  refine j_goto E 15 (by decide) dL_bottlesOf_9 ?_
  refine j_iconst E 0 ic_0 dL_bottlesOf_15 ?_
  exact j_iret E rfl (le_ rfl) (le_ rfl) dL_bottlesOf_16
theorem wx_bottlesOf_2 {l : Launch} {D : DD} {z : Nat} {X : XT} {M : MT} {o : Int64} {f1 : Nat} {v1 : Int32} (hl : l.stackTraces = false) (hf : t_X11_bottlesOf X v1 = some 2) : CW l yL_bottlesOf cL_bottlesOf 4 (some .int) [(0, 9, 12, 28)] (rmk 8 1 6) D z [.ref (z + aX 0 0 0), .int v1, .ref (z + 537)] (GG D z (X, (f1 + 2, M, o))) (some (.int 1)) (GG D z (X, (f1 + 2, M, o))) := by
  refine cw_of pn_L (le_ rfl) (ls := [(0, .ref (z + aX 0 0 0)), (1, .int v1), (2, .ref (z + 537))]) rfl ?_
  intro p e s m args below meth c E hct
  refine j_aload_n E 2 rfl dL_bottlesOf_0 ?_
  refine j_iconst E 0 ic_0 dL_bottlesOf_1 ?_
  refine j_aload_n E 0 rfl dL_bottlesOf_2 ?_
  refine j_iload_n E 1 rfl dL_bottlesOf_3 ?_
  refine j_catchV [] ⟨0, 9, 12, 28⟩ [] [.int 0, .ref (z + 537)] E hct rfl (fun _ h => by cases h) (by decide) (by decide) cl_L_28 cb_2 (tc_X11_bottlesOf hl hf) ml_L_112 mv_X11_bottlesOf rfl ⟨le_ rfl, le_ rfl⟩ (rcX ok0 cf_X11 ent0) rfl (le_ rfl) ⟨le_ rfl, le_ rfl⟩ dL_bottlesOf_4 (fun q => ?_)
  refine j_astore_n (ls' := [(3, .ref q), (0, .ref (z + aX 0 0 0)), (1, .int v1), (2, .ref (z + 537))]) E (lt_ rfl) rfl dL_bottlesOf_12 ?_
  refine j_iconst E 1 ic_1 dL_bottlesOf_13 ?_
  exact j_iret E rfl (le_ rfl) (le_ rfl) dL_bottlesOf_14
theorem w_deliver {l : Launch} {D : DD} {z : Nat} {X : XT} {M : MT} {o : Int64} {f1 : Nat} {v1 v2 v3 : Int32} {X' : XT} {r : Int32} (hf : f_X11_deliver X v1 v2 v3 = some (r, X')) : CW l yL_deliver cL_deliver 6 (some .int) [(0, 12, 15, 28), (0, 12, 19, 19), (0, 12, 23, 13)] (rmk 6 0 0) D z [.ref (z + aX 0 0 0), .int v1, .int v2, .int v3, .ref (z + 537)] (GG D z (X, (f1 + 2, M, o))) (some (.int 0)) (GG D z (X', (f1 + 2, M, r.toInt64))) := by
  refine cw_of pn_L (le_ rfl) (ls := [(0, .ref (z + aX 0 0 0)), (1, .int v1), (2, .int v2), (3, .int v3), (4, .ref (z + 537))]) rfl ?_
  intro p e s m args below meth c E hct
  refine j_aload E 4 rfl dL_deliver_0 ?_
  refine j_iconst E 0 ic_0 dL_deliver_2 ?_
  refine j_aload_n E 0 rfl dL_deliver_3 ?_
  refine j_iload_n E 1 rfl dL_deliver_4 ?_
  refine j_iload_n E 2 rfl dL_deliver_5 ?_
  refine j_iload_n E 3 rfl dL_deliver_6 ?_
  refine j_invV [.int 0, .ref (z + 537)] [.int r, .int 0, .ref (z + 537)] E (c_X11_deliver hf) ml_L_115 mv_X11_deliver rfl ⟨le_ rfl, le_ rfl⟩ (rcX ok0 cf_X11 ent0) rfl rfl (le_ rfl) ⟨le_ rfl, le_ rfl⟩ dL_deliver_7 ?_
  refine j_i2l E dL_deliver_10 ?_
  refine j_lastO E dL_deliver_11 ?_
  refine j_goto E 27 (by decide) dL_deliver_12 ?_
  refine j_iconst E 0 ic_0 dL_deliver_27 ?_
  exact j_iret E rfl (le_ rfl) (le_ rfl) dL_deliver_28
theorem wx_deliver_2 {l : Launch} {D : DD} {z : Nat} {X : XT} {M : MT} {o : Int64} {f1 : Nat} {v1 v2 v3 : Int32} (hl : l.stackTraces = false) (hf : t_X11_deliver X v1 v2 v3 = some 2) : CW l yL_deliver cL_deliver 6 (some .int) [(0, 12, 15, 28), (0, 12, 19, 19), (0, 12, 23, 13)] (rmk 8 1 6) D z [.ref (z + aX 0 0 0), .int v1, .int v2, .int v3, .ref (z + 537)] (GG D z (X, (f1 + 2, M, o))) (some (.int 1)) (GG D z (X, (f1 + 2, M, o))) := by
  refine cw_of pn_L (le_ rfl) (ls := [(0, .ref (z + aX 0 0 0)), (1, .int v1), (2, .int v2), (3, .int v3), (4, .ref (z + 537))]) rfl ?_
  intro p e s m args below meth c E hct
  refine j_aload E 4 rfl dL_deliver_0 ?_
  refine j_iconst E 0 ic_0 dL_deliver_2 ?_
  refine j_aload_n E 0 rfl dL_deliver_3 ?_
  refine j_iload_n E 1 rfl dL_deliver_4 ?_
  refine j_iload_n E 2 rfl dL_deliver_5 ?_
  refine j_iload_n E 3 rfl dL_deliver_6 ?_
  refine j_catchV [] ⟨0, 12, 15, 28⟩ [⟨0, 12, 19, 19⟩, ⟨0, 12, 23, 13⟩] [.int 0, .ref (z + 537)] E hct rfl (fun _ h => by cases h) (by decide) (by decide) cl_L_28 cb_2 (tc_X11_deliver hl hf) ml_L_115 mv_X11_deliver rfl ⟨le_ rfl, le_ rfl⟩ (rcX ok0 cf_X11 ent0) rfl (le_ rfl) ⟨le_ rfl, le_ rfl⟩ dL_deliver_7 (fun q => ?_)
  refine j_astore (ls' := [(5, .ref q), (0, .ref (z + aX 0 0 0)), (1, .int v1), (2, .int v2), (3, .int v3), (4, .ref (z + 537))]) E (lt_ rfl) rfl dL_deliver_15 ?_
  refine j_iconst E 1 ic_1 dL_deliver_17 ?_
  exact j_iret E rfl (le_ rfl) (le_ rfl) dL_deliver_18
theorem wx_deliver_1 {l : Launch} {D : DD} {z : Nat} {X : XT} {M : MT} {o : Int64} {f1 : Nat} {v1 v2 v3 : Int32} (hl : l.stackTraces = false) (hf : t_X11_deliver X v1 v2 v3 = some 1) : CW l yL_deliver cL_deliver 6 (some .int) [(0, 12, 15, 28), (0, 12, 19, 19), (0, 12, 23, 13)] (rmk 8 1 6) D z [.ref (z + aX 0 0 0), .int v1, .int v2, .int v3, .ref (z + 537)] (GG D z (X, (f1 + 2, M, o))) (some (.int 2)) (GG D z (X, (f1 + 2, M, o))) := by
  refine cw_of pn_L (le_ rfl) (ls := [(0, .ref (z + aX 0 0 0)), (1, .int v1), (2, .int v2), (3, .int v3), (4, .ref (z + 537))]) rfl ?_
  intro p e s m args below meth c E hct
  refine j_aload E 4 rfl dL_deliver_0 ?_
  refine j_iconst E 0 ic_0 dL_deliver_2 ?_
  refine j_aload_n E 0 rfl dL_deliver_3 ?_
  refine j_iload_n E 1 rfl dL_deliver_4 ?_
  refine j_iload_n E 2 rfl dL_deliver_5 ?_
  refine j_iload_n E 3 rfl dL_deliver_6 ?_
  refine j_catchV [⟨0, 12, 15, 28⟩] ⟨0, 12, 19, 19⟩ [⟨0, 12, 23, 13⟩] [.int 0, .ref (z + 537)] E hct rfl (by
    intro z' hz'
    simp only [List.mem_cons, List.not_mem_nil, or_false] at hz'
    rcases hz' with rfl
    · exact Or.inr ⟨by decide, _, cl_L_28, by decide⟩) (by decide) (by decide) cl_L_19 cb_1 (tc_X11_deliver hl hf) ml_L_115 mv_X11_deliver rfl ⟨le_ rfl, le_ rfl⟩ (rcX ok0 cf_X11 ent0) rfl (le_ rfl) ⟨le_ rfl, le_ rfl⟩ dL_deliver_7 (fun q => ?_)
  refine j_astore (ls' := [(5, .ref q), (0, .ref (z + aX 0 0 0)), (1, .int v1), (2, .int v2), (3, .int v3), (4, .ref (z + 537))]) E (lt_ rfl) rfl dL_deliver_19 ?_
  refine j_iconst E 2 ic_2 dL_deliver_21 ?_
  exact j_iret E rfl (le_ rfl) (le_ rfl) dL_deliver_22
theorem wx_deliver_0 {l : Launch} {D : DD} {z : Nat} {X : XT} {M : MT} {o : Int64} {f1 : Nat} {v1 v2 v3 : Int32} (hl : l.stackTraces = false) (hf : t_X11_deliver X v1 v2 v3 = some 0) : CW l yL_deliver cL_deliver 6 (some .int) [(0, 12, 15, 28), (0, 12, 19, 19), (0, 12, 23, 13)] (rmk 8 1 6) D z [.ref (z + aX 0 0 0), .int v1, .int v2, .int v3, .ref (z + 537)] (GG D z (X, (f1 + 2, M, o))) (some (.int 3)) (GG D z (X, (f1 + 2, M, o))) := by
  refine cw_of pn_L (le_ rfl) (ls := [(0, .ref (z + aX 0 0 0)), (1, .int v1), (2, .int v2), (3, .int v3), (4, .ref (z + 537))]) rfl ?_
  intro p e s m args below meth c E hct
  refine j_aload E 4 rfl dL_deliver_0 ?_
  refine j_iconst E 0 ic_0 dL_deliver_2 ?_
  refine j_aload_n E 0 rfl dL_deliver_3 ?_
  refine j_iload_n E 1 rfl dL_deliver_4 ?_
  refine j_iload_n E 2 rfl dL_deliver_5 ?_
  refine j_iload_n E 3 rfl dL_deliver_6 ?_
  refine j_catchV [⟨0, 12, 15, 28⟩, ⟨0, 12, 19, 19⟩] ⟨0, 12, 23, 13⟩ [] [.int 0, .ref (z + 537)] E hct rfl (by
    intro z' hz'
    simp only [List.mem_cons, List.not_mem_nil, or_false] at hz'
    rcases hz' with rfl | rfl
    · exact Or.inr ⟨by decide, _, cl_L_28, by decide⟩
    · exact Or.inr ⟨by decide, _, cl_L_19, by decide⟩) (by decide) (by decide) cl_L_13 cb_0 (tc_X11_deliver hl hf) ml_L_115 mv_X11_deliver rfl ⟨le_ rfl, le_ rfl⟩ (rcX ok0 cf_X11 ent0) rfl (le_ rfl) ⟨le_ rfl, le_ rfl⟩ dL_deliver_7 (fun q => ?_)
  refine j_astore (ls' := [(5, .ref q), (0, .ref (z + aX 0 0 0)), (1, .int v1), (2, .int v2), (3, .int v3), (4, .ref (z + 537))]) E (lt_ rfl) rfl dL_deliver_23 ?_
  refine j_iconst E 3 ic_3 dL_deliver_25 ?_
  exact j_iret E rfl (le_ rfl) (le_ rfl) dL_deliver_26
theorem w_setPrice {l : Launch} {D : DD} {z : Nat} {X : XT} {M : MT} {o : Int64} {f1 : Nat} {v1 v2 v3 : Int32} {X' : XT} {r : Int32} (hf : f_X11_setPrice X v1 v2 v3 = some (r, X')) : CW l yL_setPrice cL_setPrice 6 (some .int) [(0, 12, 15, 28), (0, 12, 19, 19)] (rmk 6 0 0) D z [.ref (z + aX 0 0 0), .int v1, .int v2, .int v3, .ref (z + 537)] (GG D z (X, (f1 + 2, M, o))) (some (.int 0)) (GG D z (X', (f1 + 2, M, r.toInt64))) := by
  refine cw_of pn_L (le_ rfl) (ls := [(0, .ref (z + aX 0 0 0)), (1, .int v1), (2, .int v2), (3, .int v3), (4, .ref (z + 537))]) rfl ?_
  intro p e s m args below meth c E hct
  refine j_aload E 4 rfl dL_setPrice_0 ?_
  refine j_iconst E 0 ic_0 dL_setPrice_2 ?_
  refine j_aload_n E 0 rfl dL_setPrice_3 ?_
  refine j_iload_n E 1 rfl dL_setPrice_4 ?_
  refine j_iload_n E 2 rfl dL_setPrice_5 ?_
  refine j_iload_n E 3 rfl dL_setPrice_6 ?_
  refine j_invV [.int 0, .ref (z + 537)] [.int r, .int 0, .ref (z + 537)] E (c_X11_setPrice hf) ml_L_118 mv_X11_setPrice rfl ⟨le_ rfl, le_ rfl⟩ (rcX ok0 cf_X11 ent0) rfl rfl (le_ rfl) ⟨le_ rfl, le_ rfl⟩ dL_setPrice_7 ?_
  refine j_i2l E dL_setPrice_10 ?_
  refine j_lastO E dL_setPrice_11 ?_
  refine j_goto E 23 (by decide) dL_setPrice_12 ?_
  refine j_iconst E 0 ic_0 dL_setPrice_23 ?_
  exact j_iret E rfl (le_ rfl) (le_ rfl) dL_setPrice_24
theorem wx_setPrice_2 {l : Launch} {D : DD} {z : Nat} {X : XT} {M : MT} {o : Int64} {f1 : Nat} {v1 v2 v3 : Int32} (hl : l.stackTraces = false) (hf : t_X11_setPrice X v1 v2 v3 = some 2) : CW l yL_setPrice cL_setPrice 6 (some .int) [(0, 12, 15, 28), (0, 12, 19, 19)] (rmk 8 1 6) D z [.ref (z + aX 0 0 0), .int v1, .int v2, .int v3, .ref (z + 537)] (GG D z (X, (f1 + 2, M, o))) (some (.int 1)) (GG D z (X, (f1 + 2, M, o))) := by
  refine cw_of pn_L (le_ rfl) (ls := [(0, .ref (z + aX 0 0 0)), (1, .int v1), (2, .int v2), (3, .int v3), (4, .ref (z + 537))]) rfl ?_
  intro p e s m args below meth c E hct
  refine j_aload E 4 rfl dL_setPrice_0 ?_
  refine j_iconst E 0 ic_0 dL_setPrice_2 ?_
  refine j_aload_n E 0 rfl dL_setPrice_3 ?_
  refine j_iload_n E 1 rfl dL_setPrice_4 ?_
  refine j_iload_n E 2 rfl dL_setPrice_5 ?_
  refine j_iload_n E 3 rfl dL_setPrice_6 ?_
  refine j_catchV [] ⟨0, 12, 15, 28⟩ [⟨0, 12, 19, 19⟩] [.int 0, .ref (z + 537)] E hct rfl (fun _ h => by cases h) (by decide) (by decide) cl_L_28 cb_2 (tc_X11_setPrice hl hf) ml_L_118 mv_X11_setPrice rfl ⟨le_ rfl, le_ rfl⟩ (rcX ok0 cf_X11 ent0) rfl (le_ rfl) ⟨le_ rfl, le_ rfl⟩ dL_setPrice_7 (fun q => ?_)
  refine j_astore (ls' := [(5, .ref q), (0, .ref (z + aX 0 0 0)), (1, .int v1), (2, .int v2), (3, .int v3), (4, .ref (z + 537))]) E (lt_ rfl) rfl dL_setPrice_15 ?_
  refine j_iconst E 1 ic_1 dL_setPrice_17 ?_
  exact j_iret E rfl (le_ rfl) (le_ rfl) dL_setPrice_18
theorem wx_setPrice_1 {l : Launch} {D : DD} {z : Nat} {X : XT} {M : MT} {o : Int64} {f1 : Nat} {v1 v2 v3 : Int32} (hl : l.stackTraces = false) (hf : t_X11_setPrice X v1 v2 v3 = some 1) : CW l yL_setPrice cL_setPrice 6 (some .int) [(0, 12, 15, 28), (0, 12, 19, 19)] (rmk 8 1 6) D z [.ref (z + aX 0 0 0), .int v1, .int v2, .int v3, .ref (z + 537)] (GG D z (X, (f1 + 2, M, o))) (some (.int 2)) (GG D z (X, (f1 + 2, M, o))) := by
  refine cw_of pn_L (le_ rfl) (ls := [(0, .ref (z + aX 0 0 0)), (1, .int v1), (2, .int v2), (3, .int v3), (4, .ref (z + 537))]) rfl ?_
  intro p e s m args below meth c E hct
  refine j_aload E 4 rfl dL_setPrice_0 ?_
  refine j_iconst E 0 ic_0 dL_setPrice_2 ?_
  refine j_aload_n E 0 rfl dL_setPrice_3 ?_
  refine j_iload_n E 1 rfl dL_setPrice_4 ?_
  refine j_iload_n E 2 rfl dL_setPrice_5 ?_
  refine j_iload_n E 3 rfl dL_setPrice_6 ?_
  refine j_catchV [⟨0, 12, 15, 28⟩] ⟨0, 12, 19, 19⟩ [] [.int 0, .ref (z + 537)] E hct rfl (by
    intro z' hz'
    simp only [List.mem_cons, List.not_mem_nil, or_false] at hz'
    rcases hz' with rfl
    · exact Or.inr ⟨by decide, _, cl_L_28, by decide⟩) (by decide) (by decide) cl_L_19 cb_1 (tc_X11_setPrice hl hf) ml_L_118 mv_X11_setPrice rfl ⟨le_ rfl, le_ rfl⟩ (rcX ok0 cf_X11 ent0) rfl (le_ rfl) ⟨le_ rfl, le_ rfl⟩ dL_setPrice_7 (fun q => ?_)
  refine j_astore (ls' := [(5, .ref q), (0, .ref (z + aX 0 0 0)), (1, .int v1), (2, .int v2), (3, .int v3), (4, .ref (z + 537))]) E (lt_ rfl) rfl dL_setPrice_19 ?_
  refine j_iconst E 2 ic_2 dL_setPrice_21 ?_
  exact j_iret E rfl (le_ rfl) (le_ rfl) dL_setPrice_22
theorem w_bottle {l : Launch} {D : DD} {z : Nat} {X : XT} {M : MT} {o : Int64} {f1 : Nat} {v1 v2 : Int32} {X' : XT} {r : Int32} (hf : f_X11_bottle X v1 v2 = some (r, X')) : CW l yL_bottle cL_bottle 5 (some .int) [(0, 10, 13, 28), (0, 10, 17, 19), (0, 10, 21, 13)] (rmk 6 0 0) D z [.ref (z + aX 0 0 0), .int v1, .int v2, .ref (z + 537)] (GG D z (X, (f1 + 2, M, o))) (some (.int 0)) (GG D z (X', (f1 + 2, M, r.toInt64))) := by
  refine cw_of pn_L (le_ rfl) (ls := [(0, .ref (z + aX 0 0 0)), (1, .int v1), (2, .int v2), (3, .ref (z + 537))]) rfl ?_
  intro p e s m args below meth c E hct
  refine j_aload_n E 3 rfl dL_bottle_0 ?_
  refine j_iconst E 0 ic_0 dL_bottle_1 ?_
  refine j_aload_n E 0 rfl dL_bottle_2 ?_
  refine j_iload_n E 1 rfl dL_bottle_3 ?_
  refine j_iload_n E 2 rfl dL_bottle_4 ?_
  refine j_invV [.int 0, .ref (z + 537)] [.int r, .int 0, .ref (z + 537)] E (c_X11_bottle hf) ml_L_121 mv_X11_bottle rfl ⟨le_ rfl, le_ rfl⟩ (rcX ok0 cf_X11 ent0) rfl rfl (le_ rfl) ⟨le_ rfl, le_ rfl⟩ dL_bottle_5 ?_
  refine j_i2l E dL_bottle_8 ?_
  refine j_lastO E dL_bottle_9 ?_
  refine j_goto E 25 (by decide) dL_bottle_10 ?_
  refine j_iconst E 0 ic_0 dL_bottle_25 ?_
  exact j_iret E rfl (le_ rfl) (le_ rfl) dL_bottle_26
theorem wx_bottle_2 {l : Launch} {D : DD} {z : Nat} {X : XT} {M : MT} {o : Int64} {f1 : Nat} {v1 v2 : Int32} (hl : l.stackTraces = false) (hf : t_X11_bottle X v1 v2 = some 2) : CW l yL_bottle cL_bottle 5 (some .int) [(0, 10, 13, 28), (0, 10, 17, 19), (0, 10, 21, 13)] (rmk 8 1 6) D z [.ref (z + aX 0 0 0), .int v1, .int v2, .ref (z + 537)] (GG D z (X, (f1 + 2, M, o))) (some (.int 1)) (GG D z (X, (f1 + 2, M, o))) := by
  refine cw_of pn_L (le_ rfl) (ls := [(0, .ref (z + aX 0 0 0)), (1, .int v1), (2, .int v2), (3, .ref (z + 537))]) rfl ?_
  intro p e s m args below meth c E hct
  refine j_aload_n E 3 rfl dL_bottle_0 ?_
  refine j_iconst E 0 ic_0 dL_bottle_1 ?_
  refine j_aload_n E 0 rfl dL_bottle_2 ?_
  refine j_iload_n E 1 rfl dL_bottle_3 ?_
  refine j_iload_n E 2 rfl dL_bottle_4 ?_
  refine j_catchV [] ⟨0, 10, 13, 28⟩ [⟨0, 10, 17, 19⟩, ⟨0, 10, 21, 13⟩] [.int 0, .ref (z + 537)] E hct rfl (fun _ h => by cases h) (by decide) (by decide) cl_L_28 cb_2 (tc_X11_bottle hl hf) ml_L_121 mv_X11_bottle rfl ⟨le_ rfl, le_ rfl⟩ (rcX ok0 cf_X11 ent0) rfl (le_ rfl) ⟨le_ rfl, le_ rfl⟩ dL_bottle_5 (fun q => ?_)
  refine j_astore (ls' := [(4, .ref q), (0, .ref (z + aX 0 0 0)), (1, .int v1), (2, .int v2), (3, .ref (z + 537))]) E (lt_ rfl) rfl dL_bottle_13 ?_
  refine j_iconst E 1 ic_1 dL_bottle_15 ?_
  exact j_iret E rfl (le_ rfl) (le_ rfl) dL_bottle_16
theorem wx_bottle_1 {l : Launch} {D : DD} {z : Nat} {X : XT} {M : MT} {o : Int64} {f1 : Nat} {v1 v2 : Int32} (hl : l.stackTraces = false) (hf : t_X11_bottle X v1 v2 = some 1) : CW l yL_bottle cL_bottle 5 (some .int) [(0, 10, 13, 28), (0, 10, 17, 19), (0, 10, 21, 13)] (rmk 8 1 6) D z [.ref (z + aX 0 0 0), .int v1, .int v2, .ref (z + 537)] (GG D z (X, (f1 + 2, M, o))) (some (.int 2)) (GG D z (X, (f1 + 2, M, o))) := by
  refine cw_of pn_L (le_ rfl) (ls := [(0, .ref (z + aX 0 0 0)), (1, .int v1), (2, .int v2), (3, .ref (z + 537))]) rfl ?_
  intro p e s m args below meth c E hct
  refine j_aload_n E 3 rfl dL_bottle_0 ?_
  refine j_iconst E 0 ic_0 dL_bottle_1 ?_
  refine j_aload_n E 0 rfl dL_bottle_2 ?_
  refine j_iload_n E 1 rfl dL_bottle_3 ?_
  refine j_iload_n E 2 rfl dL_bottle_4 ?_
  refine j_catchV [⟨0, 10, 13, 28⟩] ⟨0, 10, 17, 19⟩ [⟨0, 10, 21, 13⟩] [.int 0, .ref (z + 537)] E hct rfl (by
    intro z' hz'
    simp only [List.mem_cons, List.not_mem_nil, or_false] at hz'
    rcases hz' with rfl
    · exact Or.inr ⟨by decide, _, cl_L_28, by decide⟩) (by decide) (by decide) cl_L_19 cb_1 (tc_X11_bottle hl hf) ml_L_121 mv_X11_bottle rfl ⟨le_ rfl, le_ rfl⟩ (rcX ok0 cf_X11 ent0) rfl (le_ rfl) ⟨le_ rfl, le_ rfl⟩ dL_bottle_5 (fun q => ?_)
  refine j_astore (ls' := [(4, .ref q), (0, .ref (z + aX 0 0 0)), (1, .int v1), (2, .int v2), (3, .ref (z + 537))]) E (lt_ rfl) rfl dL_bottle_17 ?_
  refine j_iconst E 2 ic_2 dL_bottle_19 ?_
  exact j_iret E rfl (le_ rfl) (le_ rfl) dL_bottle_20
theorem wx_bottle_0 {l : Launch} {D : DD} {z : Nat} {X : XT} {M : MT} {o : Int64} {f1 : Nat} {v1 v2 : Int32} (hl : l.stackTraces = false) (hf : t_X11_bottle X v1 v2 = some 0) : CW l yL_bottle cL_bottle 5 (some .int) [(0, 10, 13, 28), (0, 10, 17, 19), (0, 10, 21, 13)] (rmk 8 1 6) D z [.ref (z + aX 0 0 0), .int v1, .int v2, .ref (z + 537)] (GG D z (X, (f1 + 2, M, o))) (some (.int 3)) (GG D z (X, (f1 + 2, M, o))) := by
  refine cw_of pn_L (le_ rfl) (ls := [(0, .ref (z + aX 0 0 0)), (1, .int v1), (2, .int v2), (3, .ref (z + 537))]) rfl ?_
  intro p e s m args below meth c E hct
  refine j_aload_n E 3 rfl dL_bottle_0 ?_
  refine j_iconst E 0 ic_0 dL_bottle_1 ?_
  refine j_aload_n E 0 rfl dL_bottle_2 ?_
  refine j_iload_n E 1 rfl dL_bottle_3 ?_
  refine j_iload_n E 2 rfl dL_bottle_4 ?_
  refine j_catchV [⟨0, 10, 13, 28⟩, ⟨0, 10, 17, 19⟩] ⟨0, 10, 21, 13⟩ [] [.int 0, .ref (z + 537)] E hct rfl (by
    intro z' hz'
    simp only [List.mem_cons, List.not_mem_nil, or_false] at hz'
    rcases hz' with rfl | rfl
    · exact Or.inr ⟨by decide, _, cl_L_28, by decide⟩
    · exact Or.inr ⟨by decide, _, cl_L_19, by decide⟩) (by decide) (by decide) cl_L_13 cb_0 (tc_X11_bottle hl hf) ml_L_121 mv_X11_bottle rfl ⟨le_ rfl, le_ rfl⟩ (rcX ok0 cf_X11 ent0) rfl (le_ rfl) ⟨le_ rfl, le_ rfl⟩ dL_bottle_5 (fun q => ?_)
  refine j_astore (ls' := [(4, .ref q), (0, .ref (z + aX 0 0 0)), (1, .int v1), (2, .int v2), (3, .ref (z + 537))]) E (lt_ rfl) rfl dL_bottle_21 ?_
  refine j_iconst E 3 ic_3 dL_bottle_23 ?_
  exact j_iret E rfl (le_ rfl) (le_ rfl) dL_bottle_24
theorem w_sell {l : Launch} {D : DD} {z : Nat} {X : XT} {M : MT} {o : Int64} {f1 : Nat} {v1 v2 v3 : Int32} {X' : XT} {r : Int32} (hf : f_X11_sell X v1 v2 v3 = some (r, X')) : CW l yL_sell cL_sell 6 (some .int) [(0, 12, 15, 28), (0, 12, 19, 19), (0, 12, 23, 13)] (rmk 6 0 0) D z [.ref (z + aX 0 0 0), .int v1, .int v2, .int v3, .ref (z + 537)] (GG D z (X, (f1 + 2, M, o))) (some (.int 0)) (GG D z (X', (f1 + 2, M, r.toInt64))) := by
  refine cw_of pn_L (le_ rfl) (ls := [(0, .ref (z + aX 0 0 0)), (1, .int v1), (2, .int v2), (3, .int v3), (4, .ref (z + 537))]) rfl ?_
  intro p e s m args below meth c E hct
  refine j_aload E 4 rfl dL_sell_0 ?_
  refine j_iconst E 0 ic_0 dL_sell_2 ?_
  refine j_aload_n E 0 rfl dL_sell_3 ?_
  refine j_iload_n E 1 rfl dL_sell_4 ?_
  refine j_iload_n E 2 rfl dL_sell_5 ?_
  refine j_iload_n E 3 rfl dL_sell_6 ?_
  refine j_invV [.int 0, .ref (z + 537)] [.int r, .int 0, .ref (z + 537)] E (c_X11_sell hf) ml_L_124 mv_X11_sell rfl ⟨le_ rfl, le_ rfl⟩ (rcX ok0 cf_X11 ent0) rfl rfl (le_ rfl) ⟨le_ rfl, le_ rfl⟩ dL_sell_7 ?_
  refine j_i2l E dL_sell_10 ?_
  refine j_lastO E dL_sell_11 ?_
  refine j_goto E 27 (by decide) dL_sell_12 ?_
  refine j_iconst E 0 ic_0 dL_sell_27 ?_
  exact j_iret E rfl (le_ rfl) (le_ rfl) dL_sell_28
theorem wx_sell_2 {l : Launch} {D : DD} {z : Nat} {X : XT} {M : MT} {o : Int64} {f1 : Nat} {v1 v2 v3 : Int32} (hl : l.stackTraces = false) (hf : t_X11_sell X v1 v2 v3 = some 2) : CW l yL_sell cL_sell 6 (some .int) [(0, 12, 15, 28), (0, 12, 19, 19), (0, 12, 23, 13)] (rmk 8 1 6) D z [.ref (z + aX 0 0 0), .int v1, .int v2, .int v3, .ref (z + 537)] (GG D z (X, (f1 + 2, M, o))) (some (.int 1)) (GG D z (X, (f1 + 2, M, o))) := by
  refine cw_of pn_L (le_ rfl) (ls := [(0, .ref (z + aX 0 0 0)), (1, .int v1), (2, .int v2), (3, .int v3), (4, .ref (z + 537))]) rfl ?_
  intro p e s m args below meth c E hct
  refine j_aload E 4 rfl dL_sell_0 ?_
  refine j_iconst E 0 ic_0 dL_sell_2 ?_
  refine j_aload_n E 0 rfl dL_sell_3 ?_
  refine j_iload_n E 1 rfl dL_sell_4 ?_
  refine j_iload_n E 2 rfl dL_sell_5 ?_
  refine j_iload_n E 3 rfl dL_sell_6 ?_
  refine j_catchV [] ⟨0, 12, 15, 28⟩ [⟨0, 12, 19, 19⟩, ⟨0, 12, 23, 13⟩] [.int 0, .ref (z + 537)] E hct rfl (fun _ h => by cases h) (by decide) (by decide) cl_L_28 cb_2 (tc_X11_sell hl hf) ml_L_124 mv_X11_sell rfl ⟨le_ rfl, le_ rfl⟩ (rcX ok0 cf_X11 ent0) rfl (le_ rfl) ⟨le_ rfl, le_ rfl⟩ dL_sell_7 (fun q => ?_)
  refine j_astore (ls' := [(5, .ref q), (0, .ref (z + aX 0 0 0)), (1, .int v1), (2, .int v2), (3, .int v3), (4, .ref (z + 537))]) E (lt_ rfl) rfl dL_sell_15 ?_
  refine j_iconst E 1 ic_1 dL_sell_17 ?_
  exact j_iret E rfl (le_ rfl) (le_ rfl) dL_sell_18
theorem wx_sell_1 {l : Launch} {D : DD} {z : Nat} {X : XT} {M : MT} {o : Int64} {f1 : Nat} {v1 v2 v3 : Int32} (hl : l.stackTraces = false) (hf : t_X11_sell X v1 v2 v3 = some 1) : CW l yL_sell cL_sell 6 (some .int) [(0, 12, 15, 28), (0, 12, 19, 19), (0, 12, 23, 13)] (rmk 8 1 6) D z [.ref (z + aX 0 0 0), .int v1, .int v2, .int v3, .ref (z + 537)] (GG D z (X, (f1 + 2, M, o))) (some (.int 2)) (GG D z (X, (f1 + 2, M, o))) := by
  refine cw_of pn_L (le_ rfl) (ls := [(0, .ref (z + aX 0 0 0)), (1, .int v1), (2, .int v2), (3, .int v3), (4, .ref (z + 537))]) rfl ?_
  intro p e s m args below meth c E hct
  refine j_aload E 4 rfl dL_sell_0 ?_
  refine j_iconst E 0 ic_0 dL_sell_2 ?_
  refine j_aload_n E 0 rfl dL_sell_3 ?_
  refine j_iload_n E 1 rfl dL_sell_4 ?_
  refine j_iload_n E 2 rfl dL_sell_5 ?_
  refine j_iload_n E 3 rfl dL_sell_6 ?_
  refine j_catchV [⟨0, 12, 15, 28⟩] ⟨0, 12, 19, 19⟩ [⟨0, 12, 23, 13⟩] [.int 0, .ref (z + 537)] E hct rfl (by
    intro z' hz'
    simp only [List.mem_cons, List.not_mem_nil, or_false] at hz'
    rcases hz' with rfl
    · exact Or.inr ⟨by decide, _, cl_L_28, by decide⟩) (by decide) (by decide) cl_L_19 cb_1 (tc_X11_sell hl hf) ml_L_124 mv_X11_sell rfl ⟨le_ rfl, le_ rfl⟩ (rcX ok0 cf_X11 ent0) rfl (le_ rfl) ⟨le_ rfl, le_ rfl⟩ dL_sell_7 (fun q => ?_)
  refine j_astore (ls' := [(5, .ref q), (0, .ref (z + aX 0 0 0)), (1, .int v1), (2, .int v2), (3, .int v3), (4, .ref (z + 537))]) E (lt_ rfl) rfl dL_sell_19 ?_
  refine j_iconst E 2 ic_2 dL_sell_21 ?_
  exact j_iret E rfl (le_ rfl) (le_ rfl) dL_sell_22
theorem wx_sell_0 {l : Launch} {D : DD} {z : Nat} {X : XT} {M : MT} {o : Int64} {f1 : Nat} {v1 v2 v3 : Int32} (hl : l.stackTraces = false) (hf : t_X11_sell X v1 v2 v3 = some 0) : CW l yL_sell cL_sell 6 (some .int) [(0, 12, 15, 28), (0, 12, 19, 19), (0, 12, 23, 13)] (rmk 8 1 6) D z [.ref (z + aX 0 0 0), .int v1, .int v2, .int v3, .ref (z + 537)] (GG D z (X, (f1 + 2, M, o))) (some (.int 3)) (GG D z (X, (f1 + 2, M, o))) := by
  refine cw_of pn_L (le_ rfl) (ls := [(0, .ref (z + aX 0 0 0)), (1, .int v1), (2, .int v2), (3, .int v3), (4, .ref (z + 537))]) rfl ?_
  intro p e s m args below meth c E hct
  refine j_aload E 4 rfl dL_sell_0 ?_
  refine j_iconst E 0 ic_0 dL_sell_2 ?_
  refine j_aload_n E 0 rfl dL_sell_3 ?_
  refine j_iload_n E 1 rfl dL_sell_4 ?_
  refine j_iload_n E 2 rfl dL_sell_5 ?_
  refine j_iload_n E 3 rfl dL_sell_6 ?_
  refine j_catchV [⟨0, 12, 15, 28⟩, ⟨0, 12, 19, 19⟩] ⟨0, 12, 23, 13⟩ [] [.int 0, .ref (z + 537)] E hct rfl (by
    intro z' hz'
    simp only [List.mem_cons, List.not_mem_nil, or_false] at hz'
    rcases hz' with rfl | rfl
    · exact Or.inr ⟨by decide, _, cl_L_28, by decide⟩
    · exact Or.inr ⟨by decide, _, cl_L_19, by decide⟩) (by decide) (by decide) cl_L_13 cb_0 (tc_X11_sell hl hf) ml_L_124 mv_X11_sell rfl ⟨le_ rfl, le_ rfl⟩ (rcX ok0 cf_X11 ent0) rfl (le_ rfl) ⟨le_ rfl, le_ rfl⟩ dL_sell_7 (fun q => ?_)
  refine j_astore (ls' := [(5, .ref q), (0, .ref (z + aX 0 0 0)), (1, .int v1), (2, .int v2), (3, .int v3), (4, .ref (z + 537))]) E (lt_ rfl) rfl dL_sell_23 ?_
  refine j_iconst E 3 ic_3 dL_sell_25 ?_
  exact j_iret E rfl (le_ rfl) (le_ rfl) dL_sell_26
theorem w_payLoad {l : Launch} {D : DD} {z : Nat} {X : XT} {M : MT} {o : Int64} {f1 : Nat} {v1 : Int32} {X' : XT} {r : Int32} (hf : f_X11_payLoad X v1 = some (r, X')) : CW l yL_payLoad cL_payLoad 4 (some .int) [(0, 9, 12, 28), (0, 9, 15, 13)] (rmk 6 0 0) D z [.ref (z + aX 0 0 0), .int v1, .ref (z + 537)] (GG D z (X, (f1 + 2, M, o))) (some (.int 0)) (GG D z (X', (f1 + 2, M, r.toInt64))) := by
  refine cw_of pn_L (le_ rfl) (ls := [(0, .ref (z + aX 0 0 0)), (1, .int v1), (2, .ref (z + 537))]) rfl ?_
  intro p e s m args below meth c E hct
  refine j_aload_n E 2 rfl dL_payLoad_0 ?_
  refine j_iconst E 0 ic_0 dL_payLoad_1 ?_
  refine j_aload_n E 0 rfl dL_payLoad_2 ?_
  refine j_iload_n E 1 rfl dL_payLoad_3 ?_
  refine j_invV [.int 0, .ref (z + 537)] [.int r, .int 0, .ref (z + 537)] E (c_X11_payLoad hf) ml_L_127 mv_X11_payLoad rfl ⟨le_ rfl, le_ rfl⟩ (rcX ok0 cf_X11 ent0) rfl rfl (le_ rfl) ⟨le_ rfl, le_ rfl⟩ dL_payLoad_4 ?_
  refine j_i2l E dL_payLoad_7 ?_
  refine j_lastO E dL_payLoad_8 ?_
  refine j_goto E 18 (by decide) dL_payLoad_9 ?_
  refine j_iconst E 0 ic_0 dL_payLoad_18 ?_
  exact j_iret E rfl (le_ rfl) (le_ rfl) dL_payLoad_19
theorem wx_payLoad_2 {l : Launch} {D : DD} {z : Nat} {X : XT} {M : MT} {o : Int64} {f1 : Nat} {v1 : Int32} (hl : l.stackTraces = false) (hf : t_X11_payLoad X v1 = some 2) : CW l yL_payLoad cL_payLoad 4 (some .int) [(0, 9, 12, 28), (0, 9, 15, 13)] (rmk 8 1 6) D z [.ref (z + aX 0 0 0), .int v1, .ref (z + 537)] (GG D z (X, (f1 + 2, M, o))) (some (.int 1)) (GG D z (X, (f1 + 2, M, o))) := by
  refine cw_of pn_L (le_ rfl) (ls := [(0, .ref (z + aX 0 0 0)), (1, .int v1), (2, .ref (z + 537))]) rfl ?_
  intro p e s m args below meth c E hct
  refine j_aload_n E 2 rfl dL_payLoad_0 ?_
  refine j_iconst E 0 ic_0 dL_payLoad_1 ?_
  refine j_aload_n E 0 rfl dL_payLoad_2 ?_
  refine j_iload_n E 1 rfl dL_payLoad_3 ?_
  refine j_catchV [] ⟨0, 9, 12, 28⟩ [⟨0, 9, 15, 13⟩] [.int 0, .ref (z + 537)] E hct rfl (fun _ h => by cases h) (by decide) (by decide) cl_L_28 cb_2 (tc_X11_payLoad hl hf) ml_L_127 mv_X11_payLoad rfl ⟨le_ rfl, le_ rfl⟩ (rcX ok0 cf_X11 ent0) rfl (le_ rfl) ⟨le_ rfl, le_ rfl⟩ dL_payLoad_4 (fun q => ?_)
  refine j_astore_n (ls' := [(3, .ref q), (0, .ref (z + aX 0 0 0)), (1, .int v1), (2, .ref (z + 537))]) E (lt_ rfl) rfl dL_payLoad_12 ?_
  refine j_iconst E 1 ic_1 dL_payLoad_13 ?_
  exact j_iret E rfl (le_ rfl) (le_ rfl) dL_payLoad_14
theorem wx_payLoad_0 {l : Launch} {D : DD} {z : Nat} {X : XT} {M : MT} {o : Int64} {f1 : Nat} {v1 : Int32} (hl : l.stackTraces = false) (hf : t_X11_payLoad X v1 = some 0) : CW l yL_payLoad cL_payLoad 4 (some .int) [(0, 9, 12, 28), (0, 9, 15, 13)] (rmk 8 1 6) D z [.ref (z + aX 0 0 0), .int v1, .ref (z + 537)] (GG D z (X, (f1 + 2, M, o))) (some (.int 2)) (GG D z (X, (f1 + 2, M, o))) := by
  refine cw_of pn_L (le_ rfl) (ls := [(0, .ref (z + aX 0 0 0)), (1, .int v1), (2, .ref (z + 537))]) rfl ?_
  intro p e s m args below meth c E hct
  refine j_aload_n E 2 rfl dL_payLoad_0 ?_
  refine j_iconst E 0 ic_0 dL_payLoad_1 ?_
  refine j_aload_n E 0 rfl dL_payLoad_2 ?_
  refine j_iload_n E 1 rfl dL_payLoad_3 ?_
  refine j_catchV [⟨0, 9, 12, 28⟩] ⟨0, 9, 15, 13⟩ [] [.int 0, .ref (z + 537)] E hct rfl (by
    intro z' hz'
    simp only [List.mem_cons, List.not_mem_nil, or_false] at hz'
    rcases hz' with rfl
    · exact Or.inr ⟨by decide, _, cl_L_28, by decide⟩) (by decide) (by decide) cl_L_13 cb_0 (tc_X11_payLoad hl hf) ml_L_127 mv_X11_payLoad rfl ⟨le_ rfl, le_ rfl⟩ (rcX ok0 cf_X11 ent0) rfl (le_ rfl) ⟨le_ rfl, le_ rfl⟩ dL_payLoad_4 (fun q => ?_)
  refine j_astore_n (ls' := [(3, .ref q), (0, .ref (z + aX 0 0 0)), (1, .int v1), (2, .ref (z + 537))]) E (lt_ rfl) rfl dL_payLoad_15 ?_
  refine j_iconst E 2 ic_2 dL_payLoad_16 ?_
  exact j_iret E rfl (le_ rfl) (le_ rfl) dL_payLoad_17
theorem w_payGrower {l : Launch} {D : DD} {z : Nat} {X : XT} {M : MT} {o : Int64} {f1 : Nat} {v1 : Int32} {X' : XT} {r : Int32} (hf : f_X11_payGrower X v1 = some (r, X')) : CW l yL_payGrower cL_payGrower 4 (some .int) [(0, 9, 12, 28), (0, 9, 15, 13)] (rmk 6 0 0) D z [.ref (z + aX 0 0 0), .int v1, .ref (z + 537)] (GG D z (X, (f1 + 2, M, o))) (some (.int 0)) (GG D z (X', (f1 + 2, M, r.toInt64))) := by
  refine cw_of pn_L (le_ rfl) (ls := [(0, .ref (z + aX 0 0 0)), (1, .int v1), (2, .ref (z + 537))]) rfl ?_
  intro p e s m args below meth c E hct
  refine j_aload_n E 2 rfl dL_payGrower_0 ?_
  refine j_iconst E 0 ic_0 dL_payGrower_1 ?_
  refine j_aload_n E 0 rfl dL_payGrower_2 ?_
  refine j_iload_n E 1 rfl dL_payGrower_3 ?_
  refine j_invV [.int 0, .ref (z + 537)] [.int r, .int 0, .ref (z + 537)] E (c_X11_payGrower hf) ml_L_130 mv_X11_payGrower rfl ⟨le_ rfl, le_ rfl⟩ (rcX ok0 cf_X11 ent0) rfl rfl (le_ rfl) ⟨le_ rfl, le_ rfl⟩ dL_payGrower_4 ?_
  refine j_i2l E dL_payGrower_7 ?_
  refine j_lastO E dL_payGrower_8 ?_
  refine j_goto E 18 (by decide) dL_payGrower_9 ?_
  refine j_iconst E 0 ic_0 dL_payGrower_18 ?_
  exact j_iret E rfl (le_ rfl) (le_ rfl) dL_payGrower_19
theorem wx_payGrower_2 {l : Launch} {D : DD} {z : Nat} {X : XT} {M : MT} {o : Int64} {f1 : Nat} {v1 : Int32} (hl : l.stackTraces = false) (hf : t_X11_payGrower X v1 = some 2) : CW l yL_payGrower cL_payGrower 4 (some .int) [(0, 9, 12, 28), (0, 9, 15, 13)] (rmk 8 1 6) D z [.ref (z + aX 0 0 0), .int v1, .ref (z + 537)] (GG D z (X, (f1 + 2, M, o))) (some (.int 1)) (GG D z (X, (f1 + 2, M, o))) := by
  refine cw_of pn_L (le_ rfl) (ls := [(0, .ref (z + aX 0 0 0)), (1, .int v1), (2, .ref (z + 537))]) rfl ?_
  intro p e s m args below meth c E hct
  refine j_aload_n E 2 rfl dL_payGrower_0 ?_
  refine j_iconst E 0 ic_0 dL_payGrower_1 ?_
  refine j_aload_n E 0 rfl dL_payGrower_2 ?_
  refine j_iload_n E 1 rfl dL_payGrower_3 ?_
  refine j_catchV [] ⟨0, 9, 12, 28⟩ [⟨0, 9, 15, 13⟩] [.int 0, .ref (z + 537)] E hct rfl (fun _ h => by cases h) (by decide) (by decide) cl_L_28 cb_2 (tc_X11_payGrower hl hf) ml_L_130 mv_X11_payGrower rfl ⟨le_ rfl, le_ rfl⟩ (rcX ok0 cf_X11 ent0) rfl (le_ rfl) ⟨le_ rfl, le_ rfl⟩ dL_payGrower_4 (fun q => ?_)
  refine j_astore_n (ls' := [(3, .ref q), (0, .ref (z + aX 0 0 0)), (1, .int v1), (2, .ref (z + 537))]) E (lt_ rfl) rfl dL_payGrower_12 ?_
  refine j_iconst E 1 ic_1 dL_payGrower_13 ?_
  exact j_iret E rfl (le_ rfl) (le_ rfl) dL_payGrower_14
theorem wx_payGrower_0 {l : Launch} {D : DD} {z : Nat} {X : XT} {M : MT} {o : Int64} {f1 : Nat} {v1 : Int32} (hl : l.stackTraces = false) (hf : t_X11_payGrower X v1 = some 0) : CW l yL_payGrower cL_payGrower 4 (some .int) [(0, 9, 12, 28), (0, 9, 15, 13)] (rmk 8 1 6) D z [.ref (z + aX 0 0 0), .int v1, .ref (z + 537)] (GG D z (X, (f1 + 2, M, o))) (some (.int 2)) (GG D z (X, (f1 + 2, M, o))) := by
  refine cw_of pn_L (le_ rfl) (ls := [(0, .ref (z + aX 0 0 0)), (1, .int v1), (2, .ref (z + 537))]) rfl ?_
  intro p e s m args below meth c E hct
  refine j_aload_n E 2 rfl dL_payGrower_0 ?_
  refine j_iconst E 0 ic_0 dL_payGrower_1 ?_
  refine j_aload_n E 0 rfl dL_payGrower_2 ?_
  refine j_iload_n E 1 rfl dL_payGrower_3 ?_
  refine j_catchV [⟨0, 9, 12, 28⟩] ⟨0, 9, 15, 13⟩ [] [.int 0, .ref (z + 537)] E hct rfl (by
    intro z' hz'
    simp only [List.mem_cons, List.not_mem_nil, or_false] at hz'
    rcases hz' with rfl
    · exact Or.inr ⟨by decide, _, cl_L_28, by decide⟩) (by decide) (by decide) cl_L_13 cb_0 (tc_X11_payGrower hl hf) ml_L_130 mv_X11_payGrower rfl ⟨le_ rfl, le_ rfl⟩ (rcX ok0 cf_X11 ent0) rfl (le_ rfl) ⟨le_ rfl, le_ rfl⟩ dL_payGrower_4 (fun q => ?_)
  refine j_astore_n (ls' := [(3, .ref q), (0, .ref (z + aX 0 0 0)), (1, .int v1), (2, .ref (z + 537))]) E (lt_ rfl) rfl dL_payGrower_15 ?_
  refine j_iconst E 2 ic_2 dL_payGrower_16 ?_
  exact j_iret E rfl (le_ rfl) (le_ rfl) dL_payGrower_17
theorem w_pump {l : Launch} {D : DD} {z : Nat} {X : XT} {M : MT} {o : Int64} {f1 : Nat} {v1 v2 : Int32} {X' : XT} {r : Int32} (hf : f_X11_pump X v1 v2 = some (r, X')) : CW l yL_pump cL_pump 5 (some .int) [(0, 10, 13, 28), (0, 10, 17, 19), (0, 10, 21, 13)] (rmk 6 0 0) D z [.ref (z + aX 0 0 0), .int v1, .int v2, .ref (z + 537)] (GG D z (X, (f1 + 2, M, o))) (some (.int 0)) (GG D z (X', (f1 + 2, M, r.toInt64))) := by
  refine cw_of pn_L (le_ rfl) (ls := [(0, .ref (z + aX 0 0 0)), (1, .int v1), (2, .int v2), (3, .ref (z + 537))]) rfl ?_
  intro p e s m args below meth c E hct
  refine j_aload_n E 3 rfl dL_pump_0 ?_
  refine j_iconst E 0 ic_0 dL_pump_1 ?_
  refine j_aload_n E 0 rfl dL_pump_2 ?_
  refine j_iload_n E 1 rfl dL_pump_3 ?_
  refine j_iload_n E 2 rfl dL_pump_4 ?_
  refine j_invV [.int 0, .ref (z + 537)] [.int r, .int 0, .ref (z + 537)] E (c_X11_pump hf) ml_L_133 mv_X11_pump rfl ⟨le_ rfl, le_ rfl⟩ (rcX ok0 cf_X11 ent0) rfl rfl (le_ rfl) ⟨le_ rfl, le_ rfl⟩ dL_pump_5 ?_
  refine j_i2l E dL_pump_8 ?_
  refine j_lastO E dL_pump_9 ?_
  refine j_goto E 25 (by decide) dL_pump_10 ?_
  refine j_iconst E 0 ic_0 dL_pump_25 ?_
  exact j_iret E rfl (le_ rfl) (le_ rfl) dL_pump_26
theorem wx_pump_2 {l : Launch} {D : DD} {z : Nat} {X : XT} {M : MT} {o : Int64} {f1 : Nat} {v1 v2 : Int32} (hl : l.stackTraces = false) (hf : t_X11_pump X v1 v2 = some 2) : CW l yL_pump cL_pump 5 (some .int) [(0, 10, 13, 28), (0, 10, 17, 19), (0, 10, 21, 13)] (rmk 8 1 6) D z [.ref (z + aX 0 0 0), .int v1, .int v2, .ref (z + 537)] (GG D z (X, (f1 + 2, M, o))) (some (.int 1)) (GG D z (X, (f1 + 2, M, o))) := by
  refine cw_of pn_L (le_ rfl) (ls := [(0, .ref (z + aX 0 0 0)), (1, .int v1), (2, .int v2), (3, .ref (z + 537))]) rfl ?_
  intro p e s m args below meth c E hct
  refine j_aload_n E 3 rfl dL_pump_0 ?_
  refine j_iconst E 0 ic_0 dL_pump_1 ?_
  refine j_aload_n E 0 rfl dL_pump_2 ?_
  refine j_iload_n E 1 rfl dL_pump_3 ?_
  refine j_iload_n E 2 rfl dL_pump_4 ?_
  refine j_catchV [] ⟨0, 10, 13, 28⟩ [⟨0, 10, 17, 19⟩, ⟨0, 10, 21, 13⟩] [.int 0, .ref (z + 537)] E hct rfl (fun _ h => by cases h) (by decide) (by decide) cl_L_28 cb_2 (tc_X11_pump hl hf) ml_L_133 mv_X11_pump rfl ⟨le_ rfl, le_ rfl⟩ (rcX ok0 cf_X11 ent0) rfl (le_ rfl) ⟨le_ rfl, le_ rfl⟩ dL_pump_5 (fun q => ?_)
  refine j_astore (ls' := [(4, .ref q), (0, .ref (z + aX 0 0 0)), (1, .int v1), (2, .int v2), (3, .ref (z + 537))]) E (lt_ rfl) rfl dL_pump_13 ?_
  refine j_iconst E 1 ic_1 dL_pump_15 ?_
  exact j_iret E rfl (le_ rfl) (le_ rfl) dL_pump_16
theorem wx_pump_1 {l : Launch} {D : DD} {z : Nat} {X : XT} {M : MT} {o : Int64} {f1 : Nat} {v1 v2 : Int32} (hl : l.stackTraces = false) (hf : t_X11_pump X v1 v2 = some 1) : CW l yL_pump cL_pump 5 (some .int) [(0, 10, 13, 28), (0, 10, 17, 19), (0, 10, 21, 13)] (rmk 8 1 6) D z [.ref (z + aX 0 0 0), .int v1, .int v2, .ref (z + 537)] (GG D z (X, (f1 + 2, M, o))) (some (.int 2)) (GG D z (X, (f1 + 2, M, o))) := by
  refine cw_of pn_L (le_ rfl) (ls := [(0, .ref (z + aX 0 0 0)), (1, .int v1), (2, .int v2), (3, .ref (z + 537))]) rfl ?_
  intro p e s m args below meth c E hct
  refine j_aload_n E 3 rfl dL_pump_0 ?_
  refine j_iconst E 0 ic_0 dL_pump_1 ?_
  refine j_aload_n E 0 rfl dL_pump_2 ?_
  refine j_iload_n E 1 rfl dL_pump_3 ?_
  refine j_iload_n E 2 rfl dL_pump_4 ?_
  refine j_catchV [⟨0, 10, 13, 28⟩] ⟨0, 10, 17, 19⟩ [⟨0, 10, 21, 13⟩] [.int 0, .ref (z + 537)] E hct rfl (by
    intro z' hz'
    simp only [List.mem_cons, List.not_mem_nil, or_false] at hz'
    rcases hz' with rfl
    · exact Or.inr ⟨by decide, _, cl_L_28, by decide⟩) (by decide) (by decide) cl_L_19 cb_1 (tc_X11_pump hl hf) ml_L_133 mv_X11_pump rfl ⟨le_ rfl, le_ rfl⟩ (rcX ok0 cf_X11 ent0) rfl (le_ rfl) ⟨le_ rfl, le_ rfl⟩ dL_pump_5 (fun q => ?_)
  refine j_astore (ls' := [(4, .ref q), (0, .ref (z + aX 0 0 0)), (1, .int v1), (2, .int v2), (3, .ref (z + 537))]) E (lt_ rfl) rfl dL_pump_17 ?_
  refine j_iconst E 2 ic_2 dL_pump_19 ?_
  exact j_iret E rfl (le_ rfl) (le_ rfl) dL_pump_20
theorem wx_pump_0 {l : Launch} {D : DD} {z : Nat} {X : XT} {M : MT} {o : Int64} {f1 : Nat} {v1 v2 : Int32} (hl : l.stackTraces = false) (hf : t_X11_pump X v1 v2 = some 0) : CW l yL_pump cL_pump 5 (some .int) [(0, 10, 13, 28), (0, 10, 17, 19), (0, 10, 21, 13)] (rmk 8 1 6) D z [.ref (z + aX 0 0 0), .int v1, .int v2, .ref (z + 537)] (GG D z (X, (f1 + 2, M, o))) (some (.int 3)) (GG D z (X, (f1 + 2, M, o))) := by
  refine cw_of pn_L (le_ rfl) (ls := [(0, .ref (z + aX 0 0 0)), (1, .int v1), (2, .int v2), (3, .ref (z + 537))]) rfl ?_
  intro p e s m args below meth c E hct
  refine j_aload_n E 3 rfl dL_pump_0 ?_
  refine j_iconst E 0 ic_0 dL_pump_1 ?_
  refine j_aload_n E 0 rfl dL_pump_2 ?_
  refine j_iload_n E 1 rfl dL_pump_3 ?_
  refine j_iload_n E 2 rfl dL_pump_4 ?_
  refine j_catchV [⟨0, 10, 13, 28⟩, ⟨0, 10, 17, 19⟩] ⟨0, 10, 21, 13⟩ [] [.int 0, .ref (z + 537)] E hct rfl (by
    intro z' hz'
    simp only [List.mem_cons, List.not_mem_nil, or_false] at hz'
    rcases hz' with rfl | rfl
    · exact Or.inr ⟨by decide, _, cl_L_28, by decide⟩
    · exact Or.inr ⟨by decide, _, cl_L_19, by decide⟩) (by decide) (by decide) cl_L_13 cb_0 (tc_X11_pump hl hf) ml_L_133 mv_X11_pump rfl ⟨le_ rfl, le_ rfl⟩ (rcX ok0 cf_X11 ent0) rfl (le_ rfl) ⟨le_ rfl, le_ rfl⟩ dL_pump_5 (fun q => ?_)
  refine j_astore (ls' := [(4, .ref q), (0, .ref (z + aX 0 0 0)), (1, .int v1), (2, .int v2), (3, .ref (z + 537))]) E (lt_ rfl) rfl dL_pump_21 ?_
  refine j_iconst E 3 ic_3 dL_pump_23 ?_
  exact j_iret E rfl (le_ rfl) (le_ rfl) dL_pump_24
theorem w_save {l : Launch} {D : DD} {z : Nat} {X : XT} {M : MT} {o : Int64} {f1 : Nat} {v1 : Int32} {X' : XT} {r : Int32} (hf : f_X11_save X v1 = some (r, X')) : CW l yL_save cL_save 4 (some .int) [(0, 9, 12, 28)] (rmk 5 0 0) D z [.ref (z + aX 0 0 0), .int v1, .ref (z + 537)] (GG D z (X, (f1 + 2, M, o))) (some (.int 0)) (GG D z (X', (f1 + 2, M, r.toInt64))) := by
  refine cw_of pn_L (le_ rfl) (ls := [(0, .ref (z + aX 0 0 0)), (1, .int v1), (2, .ref (z + 537))]) rfl ?_
  intro p e s m args below meth c E hct
  refine j_aload_n E 2 rfl dL_save_0 ?_
  refine j_iconst E 0 ic_0 dL_save_1 ?_
  refine j_aload_n E 0 rfl dL_save_2 ?_
  refine j_iload_n E 1 rfl dL_save_3 ?_
  refine j_invV [.int 0, .ref (z + 537)] [.int r, .int 0, .ref (z + 537)] E (c_X11_save hf) ml_L_136 mv_X11_save rfl ⟨le_ rfl, le_ rfl⟩ (rcX ok0 cf_X11 ent0) rfl rfl (le_ rfl) ⟨le_ rfl, le_ rfl⟩ dL_save_4 ?_
  refine j_i2l E dL_save_7 ?_
  refine j_lastO E dL_save_8 ?_
  refine j_goto E 15 (by decide) dL_save_9 ?_
  refine j_iconst E 0 ic_0 dL_save_15 ?_
  exact j_iret E rfl (le_ rfl) (le_ rfl) dL_save_16
theorem wx_save_2 {l : Launch} {D : DD} {z : Nat} {X : XT} {M : MT} {o : Int64} {f1 : Nat} {v1 : Int32} (hl : l.stackTraces = false) (hf : t_X11_save X v1 = some 2) : CW l yL_save cL_save 4 (some .int) [(0, 9, 12, 28)] (rmk 8 1 6) D z [.ref (z + aX 0 0 0), .int v1, .ref (z + 537)] (GG D z (X, (f1 + 2, M, o))) (some (.int 1)) (GG D z (X, (f1 + 2, M, o))) := by
  refine cw_of pn_L (le_ rfl) (ls := [(0, .ref (z + aX 0 0 0)), (1, .int v1), (2, .ref (z + 537))]) rfl ?_
  intro p e s m args below meth c E hct
  refine j_aload_n E 2 rfl dL_save_0 ?_
  refine j_iconst E 0 ic_0 dL_save_1 ?_
  refine j_aload_n E 0 rfl dL_save_2 ?_
  refine j_iload_n E 1 rfl dL_save_3 ?_
  refine j_catchV [] ⟨0, 9, 12, 28⟩ [] [.int 0, .ref (z + 537)] E hct rfl (fun _ h => by cases h) (by decide) (by decide) cl_L_28 cb_2 (tc_X11_save hl hf) ml_L_136 mv_X11_save rfl ⟨le_ rfl, le_ rfl⟩ (rcX ok0 cf_X11 ent0) rfl (le_ rfl) ⟨le_ rfl, le_ rfl⟩ dL_save_4 (fun q => ?_)
  refine j_astore_n (ls' := [(3, .ref q), (0, .ref (z + aX 0 0 0)), (1, .int v1), (2, .ref (z + 537))]) E (lt_ rfl) rfl dL_save_12 ?_
  refine j_iconst E 1 ic_1 dL_save_13 ?_
  exact j_iret E rfl (le_ rfl) (le_ rfl) dL_save_14
theorem w_restore {l : Launch} {D : DD} {z : Nat} {X : XT} {M : MT} {o : Int64} {f1 : Nat} {v1 : Int32} {X' : XT} {r : Int32} (hf : f_X11_restore X v1 = some (r, X')) : CW l yL_restore cL_restore 4 (some .int) [(0, 9, 12, 28), (0, 9, 15, 13)] (rmk 6 0 0) D z [.ref (z + aX 0 0 0), .int v1, .ref (z + 537)] (GG D z (X, (f1 + 2, M, o))) (some (.int 0)) (GG D z (X', (f1 + 2, M, r.toInt64))) := by
  refine cw_of pn_L (le_ rfl) (ls := [(0, .ref (z + aX 0 0 0)), (1, .int v1), (2, .ref (z + 537))]) rfl ?_
  intro p e s m args below meth c E hct
  refine j_aload_n E 2 rfl dL_restore_0 ?_
  refine j_iconst E 0 ic_0 dL_restore_1 ?_
  refine j_aload_n E 0 rfl dL_restore_2 ?_
  refine j_iload_n E 1 rfl dL_restore_3 ?_
  refine j_invV [.int 0, .ref (z + 537)] [.int r, .int 0, .ref (z + 537)] E (c_X11_restore hf) ml_L_139 mv_X11_restore rfl ⟨le_ rfl, le_ rfl⟩ (rcX ok0 cf_X11 ent0) rfl rfl (le_ rfl) ⟨le_ rfl, le_ rfl⟩ dL_restore_4 ?_
  refine j_i2l E dL_restore_7 ?_
  refine j_lastO E dL_restore_8 ?_
  refine j_goto E 18 (by decide) dL_restore_9 ?_
  refine j_iconst E 0 ic_0 dL_restore_18 ?_
  exact j_iret E rfl (le_ rfl) (le_ rfl) dL_restore_19
theorem wx_restore_2 {l : Launch} {D : DD} {z : Nat} {X : XT} {M : MT} {o : Int64} {f1 : Nat} {v1 : Int32} (hl : l.stackTraces = false) (hf : t_X11_restore X v1 = some 2) : CW l yL_restore cL_restore 4 (some .int) [(0, 9, 12, 28), (0, 9, 15, 13)] (rmk 8 1 6) D z [.ref (z + aX 0 0 0), .int v1, .ref (z + 537)] (GG D z (X, (f1 + 2, M, o))) (some (.int 1)) (GG D z (X, (f1 + 2, M, o))) := by
  refine cw_of pn_L (le_ rfl) (ls := [(0, .ref (z + aX 0 0 0)), (1, .int v1), (2, .ref (z + 537))]) rfl ?_
  intro p e s m args below meth c E hct
  refine j_aload_n E 2 rfl dL_restore_0 ?_
  refine j_iconst E 0 ic_0 dL_restore_1 ?_
  refine j_aload_n E 0 rfl dL_restore_2 ?_
  refine j_iload_n E 1 rfl dL_restore_3 ?_
  refine j_catchV [] ⟨0, 9, 12, 28⟩ [⟨0, 9, 15, 13⟩] [.int 0, .ref (z + 537)] E hct rfl (fun _ h => by cases h) (by decide) (by decide) cl_L_28 cb_2 (tc_X11_restore hl hf) ml_L_139 mv_X11_restore rfl ⟨le_ rfl, le_ rfl⟩ (rcX ok0 cf_X11 ent0) rfl (le_ rfl) ⟨le_ rfl, le_ rfl⟩ dL_restore_4 (fun q => ?_)
  refine j_astore_n (ls' := [(3, .ref q), (0, .ref (z + aX 0 0 0)), (1, .int v1), (2, .ref (z + 537))]) E (lt_ rfl) rfl dL_restore_12 ?_
  refine j_iconst E 1 ic_1 dL_restore_13 ?_
  exact j_iret E rfl (le_ rfl) (le_ rfl) dL_restore_14
theorem wx_restore_0 {l : Launch} {D : DD} {z : Nat} {X : XT} {M : MT} {o : Int64} {f1 : Nat} {v1 : Int32} (hl : l.stackTraces = false) (hf : t_X11_restore X v1 = some 0) : CW l yL_restore cL_restore 4 (some .int) [(0, 9, 12, 28), (0, 9, 15, 13)] (rmk 8 1 6) D z [.ref (z + aX 0 0 0), .int v1, .ref (z + 537)] (GG D z (X, (f1 + 2, M, o))) (some (.int 2)) (GG D z (X, (f1 + 2, M, o))) := by
  refine cw_of pn_L (le_ rfl) (ls := [(0, .ref (z + aX 0 0 0)), (1, .int v1), (2, .ref (z + 537))]) rfl ?_
  intro p e s m args below meth c E hct
  refine j_aload_n E 2 rfl dL_restore_0 ?_
  refine j_iconst E 0 ic_0 dL_restore_1 ?_
  refine j_aload_n E 0 rfl dL_restore_2 ?_
  refine j_iload_n E 1 rfl dL_restore_3 ?_
  refine j_catchV [⟨0, 9, 12, 28⟩] ⟨0, 9, 15, 13⟩ [] [.int 0, .ref (z + 537)] E hct rfl (by
    intro z' hz'
    simp only [List.mem_cons, List.not_mem_nil, or_false] at hz'
    rcases hz' with rfl
    · exact Or.inr ⟨by decide, _, cl_L_28, by decide⟩) (by decide) (by decide) cl_L_13 cb_0 (tc_X11_restore hl hf) ml_L_139 mv_X11_restore rfl ⟨le_ rfl, le_ rfl⟩ (rcX ok0 cf_X11 ent0) rfl (le_ rfl) ⟨le_ rfl, le_ rfl⟩ dL_restore_4 (fun q => ?_)
  refine j_astore_n (ls' := [(3, .ref q), (0, .ref (z + aX 0 0 0)), (1, .int v1), (2, .ref (z + 537))]) E (lt_ rfl) rfl dL_restore_15 ?_
  refine j_iconst E 2 ic_2 dL_restore_16 ?_
  exact j_iret E rfl (le_ rfl) (le_ rfl) dL_restore_17
theorem w_undo {l : Launch} {D : DD} {z : Nat} {X : XT} {M : MT} {o : Int64} {f1 : Nat} {X' : XT} {r : Int32} (hf : f_X11_undo X = some (r, X')) : CW l yL_undo cL_undo 3 (some .int) [(0, 8, 11, 13)] (rmk 6 0 0) D z [.ref (z + aX 0 0 0), .ref (z + 537)] (GG D z (X, (f1 + 2, M, o))) (some (.int 0)) (GG D z (X', (f1 + 2, M, r.toInt64))) := by
  refine cw_of pn_L (le_ rfl) (ls := [(0, .ref (z + aX 0 0 0)), (1, .ref (z + 537))]) rfl ?_
  intro p e s m args below meth c E hct
  refine j_aload_n E 1 rfl dL_undo_0 ?_
  refine j_iconst E 0 ic_0 dL_undo_1 ?_
  refine j_aload_n E 0 rfl dL_undo_2 ?_
  refine j_invV [.int 0, .ref (z + 537)] [.int r, .int 0, .ref (z + 537)] E (c_X11_undo hf) ml_L_142 mv_X11_undo rfl ⟨le_ rfl, le_ rfl⟩ (rcX ok0 cf_X11 ent0) rfl rfl (le_ rfl) ⟨le_ rfl, le_ rfl⟩ dL_undo_3 ?_
  refine j_i2l E dL_undo_6 ?_
  refine j_lastO E dL_undo_7 ?_
  refine j_goto E 14 (by decide) dL_undo_8 ?_
  refine j_iconst E 0 ic_0 dL_undo_14 ?_
  exact j_iret E rfl (le_ rfl) (le_ rfl) dL_undo_15
theorem wx_undo_0 {l : Launch} {D : DD} {z : Nat} {X : XT} {M : MT} {o : Int64} {f1 : Nat} (hl : l.stackTraces = false) (hf : t_X11_undo X = some 0) : CW l yL_undo cL_undo 3 (some .int) [(0, 8, 11, 13)] (rmk 7 1 6) D z [.ref (z + aX 0 0 0), .ref (z + 537)] (GG D z (X, (f1 + 2, M, o))) (some (.int 1)) (GG D z (X, (f1 + 2, M, o))) := by
  refine cw_of pn_L (le_ rfl) (ls := [(0, .ref (z + aX 0 0 0)), (1, .ref (z + 537))]) rfl ?_
  intro p e s m args below meth c E hct
  refine j_aload_n E 1 rfl dL_undo_0 ?_
  refine j_iconst E 0 ic_0 dL_undo_1 ?_
  refine j_aload_n E 0 rfl dL_undo_2 ?_
  refine j_catchV [] ⟨0, 8, 11, 13⟩ [] [.int 0, .ref (z + 537)] E hct rfl (fun _ h => by cases h) (by decide) (by decide) cl_L_13 cb_0 (tc_X11_undo hl hf) ml_L_142 mv_X11_undo rfl ⟨le_ rfl, le_ rfl⟩ (rcX ok0 cf_X11 ent0) rfl (le_ rfl) ⟨le_ rfl, le_ rfl⟩ dL_undo_3 (fun q => ?_)
  refine j_astore_n (ls' := [(2, .ref q), (0, .ref (z + aX 0 0 0)), (1, .ref (z + 537))]) E (lt_ rfl) rfl dL_undo_11 ?_
  refine j_iconst E 1 ic_1 dL_undo_12 ?_
  exact j_iret E rfl (le_ rfl) (le_ rfl) dL_undo_13
