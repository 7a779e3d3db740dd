/-! THE LAW'S LOOP over the acts -/
/-- after an act: holds, perhaps undo -/
def f_L_law_129 (sc : Nat × (Nat → Int32)) (X : XT) (W S : Nat → Int32) (v4 : Int32) (b5 : Int64) (nx : XT → Option Int32) : Option Int32 :=
  bn1 (f_L_holds X sc W S) (fun h => if h = 0 then some 0 else bn1 (f_L_draw sc (v4 + 1) 4) (fun d => if d ≤ 0 then bn2 (f_X11_undo X) (fun u X2 => if u < 0 then some 0 else bn1 (f_L_tanks sc) (fun t => bn1 (f_L_all X2 t) (fun a => if lg_cmp a b5 = 0 then nx X2 else some 0))) else nx X))
def f_L_law_42 (sc : Nat × (Nat → Int32)) : Nat → XT → (Nat → Int32) → (Nat → Int32) → Int32 → Option Int32
  | 0, _, _, _, _ => none
  | n + 1, X, W, S, v4 => if 190 ≤ v4 + 3 then some 1 else
    bn1 (f_L_tanks sc) (fun r1 => bn1 (f_L_all X r1) (fun b5 => bn1 (f_X11_loadCount X) (fun r7 => bn2 (f_L_act X sc v4) (fun r8 X1 =>
      if r8 = (-99) then bn1 (f_L_tanks sc) (fun t => bn1 (f_L_all X1 t) (fun a => if lg_cmp a b5 = 0 then f_L_law_42 sc n X1 W S (v4 + 4) else some 0))
      else bn1 (f_X11_loadCount X1) (fun r => if r ≤ r7 then f_L_law_129 sc X1 W S v4 b5 (fun X2 => f_L_law_42 sc n X2 W S (v4 + 4)) else
        bn1 (f_L_weight sc v4) (fun w => gd (¬ (r7 < 0 ∨ 21 ≤ r7.toNatClampNeg)) (bnd (upd W r7.toNatClampNeg w) (fun W1 =>
        bn1 (f_L_sugar sc v4) (fun g => gd (¬ (r7 < 0 ∨ 21 ≤ r7.toNatClampNeg)) (bnd (upd S r7.toNatClampNeg g) (fun S1 => f_L_law_129 sc X1 W1 S1 v4 b5 (fun X2 => f_L_law_42 sc n X2 W1 S1 (v4 + 4)))))))))))))
def lsL (D : DD) (z aw au : Nat) (v4 : Int32) : List (Nat × Value) := [(4, .int v4), (3, .ref au), (2, .ref aw), (1, .ref (z + aX 0 0 0)), (0, .ref D.2.2.2.2.2.2.1)]
set_option maxRecDepth 20000 in
theorem no01 {α : Prop} (h : (some (0 : Int32)) = some 1) : α := absurd h (by decide)
section LOOP
variable {p : Program} {l : Launch} {e : Env} {s : State} {m : MethodId} {below : List Frame} {meth : Method} {c : Code} {D : DD} {z : Nat} {b : Nat}
def YW (D : DD) (z B aw au : Nat) (W S : Nat → Int32) : YT := YL D z (fun _ => True) B [(aw, aint D 0 21 W), (au, aint D 0 21 S)]
set_option maxRecDepth 20000 in
theorem yw_W {D : DD} {z B aw au : Nat} {W S : Nat → Int32} : ∀ H, YW D z B aw au W S H → va_at (gD D) cls (aw, aint D 0 21 W) H := fun _ h => (h.2.2 _ List.mem_cons_self).2.2
set_option maxRecDepth 20000 in
theorem yw_S {D : DD} {z B aw au : Nat} {W S : Nat → Int32} : ∀ H, YW D z B aw au W S H → va_at (gD D) cls (au, aint D 0 21 S) H := fun _ h => (h.2.2 _ (List.mem_cons_of_mem _ List.mem_cons_self)).2.2
set_option maxRecDepth 20000 in
theorem b_law_129 (hl : l.stackTraces = false) (E : Cx p s m #[Value.ref b] meth c D z RL cL_law 9 (some .boolean)) {Q : State → Prop} {k n : Nat} {X : XT} {W S : Nat → Int32} {aw au : Nat} {v4 r7 r8 : Int32} {b5 : Int64} {nx : XT → Option Int32} (hf : f_L_law_129 D.2.2.2.2.2.2.2 X W S v4 b5 nx = some 1) (hk : k + 8 ≤ 600000) (hn : n + 153 ≤ 7301000)
    (next : ∀ X2, nx X2 = some 1 → J p l e room_1 s m #[Value.ref b] below meth c D z (GG D z (X2, YW D z s.heap.size aw au W S)) (k + 8) (n + 153) Q 9 42 (lsL D z aw au (v4 + 4)) []) :
    J p l e room_1 s m #[Value.ref b] below meth c D z (GG D z (X, YW D z s.heap.size aw au W S)) k n Q 9 129 ((8, .int r8) :: (7, .int r7) :: (5, .long b5) :: lsL D z aw au v4) [] := by
  unfold f_L_law_129 at hf
  have inc : ∀ X2, nx X2 = some 1 → J p l e room_1 s m #[Value.ref b] below meth c D z (GG D z (X2, YW D z s.heap.size aw au W S)) (k + 8) (n + 153) Q 9 179 ((8, .int r8) :: (7, .int r7) :: (5, .long b5) :: lsL D z aw au v4) [] := fun X2 h => by
    refine j_iinc E 3 rfl (lt_ rfl) _ rfl rfl dL_law_179 ?_
    refine j_goto E 42 (by decide) dL_law_182 ?_
    refine j_sub [0, 4, 5, 6, 7] rfl ?_
    exact next X2 h
  refine j_aload_n E 6 rfl dL_law_129 ?_
  refine j_aload_n E 7 rfl dL_law_130 ?_
  refine j_aload_n E 5 rfl dL_law_131 ?_
  refine j_aload_n E 4 rfl dL_law_132 ?_
  obtain ⟨h, hh, hf⟩ := bn1_e hf
  refine j_invS [] [.int h] E (c_L_holds yw_W yw_S hh) ml_L_377 ms_L_holds rfl ⟨le_ rfl, le_ rfl⟩ rfl rfl (le_ rfl) ⟨by simp only [rmk, room_1]; omega, by simp only [rmk, room_1]; omega⟩ dL_law_133 ?_
  refine j_if_ne E 141 (by decide) dL_law_136 (fun c1 => ?_) (fun c1 => ?_)
  · rw [if_neg c1] at hf
    refine j_aload_n E 7 rfl dL_law_141 ?_
    refine j_iload E 3 rfl dL_law_142 ?_
    refine j_iconst E 1 ic_1 dL_law_144 ?_
    refine j_iadd E dL_law_145 ?_
    refine j_iconst E 4 ic_4 dL_law_146 ?_
    obtain ⟨d, hd, hf⟩ := bn1_e hf
    refine j_invS [] [.int d] E (c_L_draw hd) ml_L_40 ms_L_draw rfl ⟨le_ rfl, le_ rfl⟩ rfl rfl (le_ rfl) ⟨by simp only [rmk, room_1]; omega, by simp only [rmk, room_1]; omega⟩ dL_law_147 ?_
    refine j_if_le E 156 (by decide) dL_law_150 (fun c2 => ?_) (fun c2 => ?_)
    · rw [if_pos c2] at hf
      refine j_aload_n E 6 rfl dL_law_156 ?_
      obtain ⟨u, X2, hu, hf⟩ := bn2_e hf
      refine j_invV [] [.int u] E (c_X11_undo hu) ml_L_389 mv_X11_undo rfl ⟨le_ rfl, le_ rfl⟩ (rcX ok0 cf_X11 ent0) rfl rfl (le_ rfl) ⟨by simp only [rmk, room_1]; omega, by simp only [rmk, room_1]; omega⟩ dL_law_157 ?_
      refine j_if_lt E 177 (by decide) dL_law_160 (fun c3 => ?_) (fun c3 => ?_)
      · rw [if_pos c3] at hf
        exact no01 hf
      · rw [if_neg c3] at hf
        refine j_aload_n E 6 rfl dL_law_163 ?_
        refine j_aload_n E 7 rfl dL_law_164 ?_
        obtain ⟨t, ht, hf⟩ := bn1_e hf
        refine j_invS [.ref (z + aX 0 0 0)] [.int t, .ref (z + aX 0 0 0)] E (c_L_tanks ht) ml_L_118 ms_L_tanks rfl ⟨le_ rfl, le_ rfl⟩ rfl rfl (le_ rfl) ⟨by simp only [rmk, room_1]; omega, by simp only [rmk, room_1]; omega⟩ dL_law_165 ?_
        obtain ⟨a, ha, hf⟩ := bn1_e hf
        refine j_invS [] [.long a] E (c_L_all ha) ml_L_381 ms_L_all rfl ⟨le_ rfl, le_ rfl⟩ rfl rfl (le_ rfl) ⟨by simp only [rmk, room_1]; omega, by simp only [rmk, room_1]; omega⟩ dL_law_168 ?_
        refine j_lload E 2 rfl dL_law_171 ?_
        refine j_lcmp E dL_law_173 ?_
        refine j_if_eq E 179 (by decide) dL_law_174 (fun c4 => ?_) (fun c4 => ?_)
        · rw [if_pos c4] at hf
          exact inc _ hf
        · rw [if_neg c4] at hf
          exact no01 hf
    · rw [if_neg c2] at hf
      refine j_goto E 179 (by decide) dL_law_153 ?_
      exact inc _ hf
  · rw [if_pos c1] at hf
    exact no01 hf
set_option maxRecDepth 20000 in
theorem law_loop (hl : l.stackTraces = false) (E : Cx p s m #[Value.ref b] meth c D z RL cL_law 9 (some .boolean)) {Q : State → Prop} {aw au : Nat}
    (hend : ∀ H k n ls, k ≤ 600000 → n ≤ 7300000 → J p l e room_1 s m #[Value.ref b] below meth c D z (fun H' => H' = H) k n Q 9 185 ls []) :
    ∀ (q k n : Nat) (X : XT) (W S : Nat → Int32) (v4 : Int32), f_L_law_42 D.2.2.2.2.2.2.2 q X W S v4 = some 1 → k + 9 * q ≤ 599000 → n + 159 * q ≤ 7290000 → J p l e room_1 s m #[Value.ref b] below meth c D z (GG D z (X, YW D z s.heap.size aw au W S)) k n Q 9 42 (lsL D z aw au v4) [] := by
  intro q
  induction q with
  | zero =>
    intro k n X W S v4 hf
    exact none_e hf
  | succ q ih =>
    intro k n X W S v4 hf hk hn
    rw [f_L_law_42] at hf
    refine j_iload E 0 rfl dL_law_42 ?_
    refine j_iconst E 3 ic_3 dL_law_44 ?_
    refine j_iadd E dL_law_45 ?_
    refine j_sipush E 190 sp_190 dL_law_46 ?_
    refine j_icmp_ge E 185 (by decide) dL_law_49 (fun c1 => ?_) (fun c1 => ?_)
    · intro H locs la hG hS hL
      exact hend H k n _ (by omega) (by omega) H locs la rfl hS hL
    · rw [if_neg c1] at hf
      refine j_aload_n E 3 rfl dL_law_52 ?_
      refine j_aload_n E 4 rfl dL_law_53 ?_
      obtain ⟨r1, h1, hf⟩ := bn1_e hf
      refine j_invS [.ref (z + aX 0 0 0)] [.int r1, .ref (z + aX 0 0 0)] E (c_L_tanks h1) ml_L_118 ms_L_tanks rfl ⟨le_ rfl, le_ rfl⟩ rfl rfl (le_ rfl) ⟨by simp only [rmk, room_1]; omega, by simp only [rmk, room_1]; omega⟩ dL_law_54 ?_
      obtain ⟨b5, h5, hf⟩ := bn1_e hf
      refine j_invS [] [.long b5] E (c_L_all h5) ml_L_381 ms_L_all rfl ⟨le_ rfl, le_ rfl⟩ rfl rfl (le_ rfl) ⟨by simp only [rmk, room_1]; omega, by simp only [rmk, room_1]; omega⟩ dL_law_57 ?_
      refine j_lstore (ls' := (5, .long b5) :: lsL D z aw au v4) E (lt_ rfl) rfl dL_law_60 ?_
      refine j_aload_n E 4 rfl dL_law_62 ?_
      obtain ⟨r7, h7, hf⟩ := bn1_e hf
      refine j_invV [] [.int r7] E (c_X11_loadCount h7) ml_L_151 mv_X11_loadCount rfl ⟨le_ rfl, le_ rfl⟩ (rcX ok0 cf_X11 ent0) rfl rfl (le_ rfl) ⟨by simp only [rmk, room_1]; omega, by simp only [rmk, room_1]; omega⟩ dL_law_63 ?_
      refine j_istore (ls' := (7, .int r7) :: (5, .long b5) :: lsL D z aw au v4) E (lt_ rfl) rfl dL_law_66 ?_
      refine j_aload_n E 5 rfl dL_law_68 ?_
      refine j_aload_n E 6 rfl dL_law_69 ?_
      refine j_iload E 2 rfl dL_law_70 ?_
      obtain ⟨r8, X1, h8, hf⟩ := bn2_e hf
      refine j_invS [] [.int r8] E (c_L_act hl h8) ml_L_385 ms_L_act rfl ⟨le_ rfl, le_ rfl⟩ rfl rfl (le_ rfl) ⟨by simp only [rmk, room_1]; omega, by simp only [rmk, room_1]; omega⟩ dL_law_72 ?_
      refine j_istore (ls' := (8, .int r8) :: (7, .int r7) :: (5, .long b5) :: lsL D z aw au v4) E (lt_ rfl) rfl dL_law_75 ?_
      refine j_widen (k' := k + 1) (n' := n + 6) (by simp only [rmk]; omega) (by simp only [rmk]; omega) ?_
      refine j_iload E 0 rfl dL_law_77 ?_
      refine j_bipush E (-99) bp_m99 dL_law_79 ?_
      refine j_icmp_ne E 100 (by decide) dL_law_81 (fun c2 => ?_) (fun c2 => ?_)
      · rw [if_neg c2] at hf
        refine j_aload_n E 6 rfl dL_law_100 ?_
        obtain ⟨r, hr, hf⟩ := bn1_e hf
        refine j_invV [] [.int r] E (c_X11_loadCount hr) ml_L_151 mv_X11_loadCount rfl ⟨le_ rfl, le_ rfl⟩ (rcX ok0 cf_X11 ent0) rfl rfl (le_ rfl) ⟨by simp only [rmk, room_1]; omega, by simp only [rmk, room_1]; omega⟩ dL_law_101 ?_
        refine j_widen (k' := k + 1) (n' := n + 6) (by simp only [rmk]; omega) (by simp only [rmk]; omega) ?_
        refine j_iload E 1 rfl dL_law_104 ?_
        refine j_icmp_le E 129 (by decide) dL_law_106 (fun c3 => ?_) (fun c3 => ?_)
        · rw [if_pos c3] at hf
          exact b_law_129 hl E hf (by omega) (by omega) (fun X2 h => j_widen (k' := k + 9) (n' := n + 159) (by omega) (by omega) (ih (k + 9) (n + 159) X2 W S (v4 + 4) h (by omega) (by omega)))
        · rw [if_neg c3] at hf
          refine j_aload_n E 5 rfl dL_law_109 ?_
          refine j_iload E 1 rfl dL_law_110 ?_
          refine j_aload_n E 7 rfl dL_law_112 ?_
          refine j_iload E 3 rfl dL_law_113 ?_
          obtain ⟨w, hw, hf⟩ := bn1_e hf
          refine j_invS [.int r7, .ref aw] [.int w, .int r7, .ref aw] E (c_L_weight hw) ml_L_245 ms_L_weight rfl ⟨le_ rfl, le_ rfl⟩ rfl rfl (le_ rfl) ⟨by simp only [rmk, room_1]; omega, by simp only [rmk, room_1]; omega⟩ dL_law_115 ?_
          obtain ⟨g1, hf⟩ := gd_e hf
          obtain ⟨W1, hW1, hf⟩ := bnd_e hf
          refine jl_iast (L' := [(aw, aint D 0 21 W1), (au, aint D 0 21 S)]) E rfl 0 rfl g1 _ rfl (by rw [hW1]; rfl) dL_law_118 ?_
          refine j_aload_n E 4 rfl dL_law_119 ?_
          refine j_iload E 1 rfl dL_law_120 ?_
          refine j_aload_n E 7 rfl dL_law_122 ?_
          refine j_iload E 3 rfl dL_law_123 ?_
          obtain ⟨g, hg, hf⟩ := bn1_e hf
          refine j_invS [.int r7, .ref au] [.int g, .int r7, .ref au] E (c_L_sugar hg) ml_L_248 ms_L_sugar rfl ⟨le_ rfl, le_ rfl⟩ rfl rfl (le_ rfl) ⟨by simp only [rmk, room_1]; omega, by simp only [rmk, room_1]; omega⟩ dL_law_125 ?_
          obtain ⟨g2, hf⟩ := gd_e hf
          obtain ⟨S1, hS1, hf⟩ := bnd_e hf
          refine jl_iast (L' := [(aw, aint D 0 21 W1), (au, aint D 0 21 S1)]) E rfl 1 rfl g2 _ rfl (by rw [hS1]; rfl) dL_law_128 ?_
          refine j_widen (k' := k + 1) (n' := n + 6) (by simp only [rmk]; omega) (by simp only [rmk]; omega) ?_
          exact b_law_129 hl E hf (by omega) (by omega) (fun X2 h => j_widen (k' := k + 9) (n' := n + 159) (by omega) (by omega) (ih (k + 9) (n + 159) X2 W1 S1 (v4 + 4) h (by omega) (by omega)))
      · rw [if_pos c2] at hf
        refine j_aload_n E 6 rfl dL_law_84 ?_
        refine j_aload_n E 7 rfl dL_law_85 ?_
        obtain ⟨t, ht, hf⟩ := bn1_e hf
        refine j_invS [.ref (z + aX 0 0 0)] [.int t, .ref (z + aX 0 0 0)] E (c_L_tanks ht) ml_L_118 ms_L_tanks rfl ⟨le_ rfl, le_ rfl⟩ rfl rfl (le_ rfl) ⟨by simp only [rmk, room_1]; omega, by simp only [rmk, room_1]; omega⟩ dL_law_86 ?_
        obtain ⟨a, ha, hf⟩ := bn1_e hf
        refine j_invS [] [.long a] E (c_L_all ha) ml_L_381 ms_L_all rfl ⟨le_ rfl, le_ rfl⟩ rfl rfl (le_ rfl) ⟨by simp only [rmk, room_1]; omega, by simp only [rmk, room_1]; omega⟩ dL_law_89 ?_
        refine j_lload E 2 rfl dL_law_92 ?_
        refine j_lcmp E dL_law_94 ?_
        refine j_if_eq E 179 (by decide) dL_law_95 (fun c4 => ?_) (fun c4 => ?_)
        · rw [if_pos c4] at hf
          refine j_iinc E 3 rfl (lt_ rfl) _ rfl rfl dL_law_179 ?_
          refine j_goto E 42 (by decide) dL_law_182 ?_
          refine j_sub [0, 4, 5, 6, 7] rfl ?_
          refine j_widen (k' := k + 9) (n' := n + 159) (by simp only [rmk]; omega) (by simp only [rmk]; omega) ?_
          exact ih _ _ X1 W S _ hf (by omega) (by omega)
        · rw [if_neg c4] at hf
          exact no01 hf
end LOOP
