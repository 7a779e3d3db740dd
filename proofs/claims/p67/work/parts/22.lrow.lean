/-! THE LAW'S OWN CELLS: beside the class and what a caller holds (Y), a list of cells made since the method began (at the size B) -/
def FRB (z B : Nat) (Y : YT) (H : Heap) : Prop := ∀ H' : Heap, (∀ q : Nat, q < B → q < H.size → ¬ (z ≤ q ∧ q < z + 530) → H'[q]? = H[q]?) → Y H'
def YL (D : DD) (z : Nat) (Y : YT) (B : Nat) (L : List (Nat × va_E)) : YT := fun H => FRB z B Y H ∧ (L.map (·.1)).Pairwise (· < ·) ∧ ∀ q ∈ L, B ≤ q.1 ∧ z + 530 ≤ q.1 ∧ va_at (gD D) cls q H
section LCELL
variable {D : DD} {z B : Nat} {Y : YT} {X : XT} {L : List (Nat × va_E)} {H H1 : Heap}
set_option maxRecDepth 20000 in
theorem FRB.mv (h : FRB z B Y H) (oq : ∀ q : Nat, q < B → q < H.size → ¬ (z ≤ q ∧ q < z + 530) → H1[q]? = H[q]?) : FRB z B Y H1 := by
  intro H' hq
  refine h H' fun q h0 h1 h2 => ?_
  have e := oq q h0 h1 h2
  exact (hq q h0 (size_keep h1 e) h2).trans e
set_option maxRecDepth 20000 in
theorem FRB.now (h : FRB z B Y H) : Y H := h H fun _ _ _ _ => rfl
set_option maxRecDepth 20000 in
theorem FRB.out (h : FRB z B Y H) : FRM z Y H := fun H' hq => h H' fun q _ h1 h2 => hq q h1 h2
set_option maxRecDepth 20000 in
theorem YL.fr (h : YL D z Y B L H) : FRM z (YL D z Y B L) H := by
  intro H' hq
  refine ⟨h.1.mv fun q _ h1 h2 => hq q h1 h2, h.2.1, fun q hm => ?_⟩
  obtain ⟨h1, h2, h3⟩ := h.2.2 q hm
  exact ⟨h1, h2, h3.kept (hq _ h3.lt (by omega))⟩
set_option maxRecDepth 20000 in
theorem gl_in (h : GG D z (X, Y) H) (hB : H.size = B) : GG D z (X, YL D z Y B []) H :=
  ⟨h.1, YL.fr ⟨fun H' hq => h.2.1 H' fun q h1 h2 => hq q (by omega) h1 h2, List.Pairwise.nil, fun q hm => by cases hm⟩, h.2.2⟩
set_option maxRecDepth 20000 in
theorem gl_out (h : GG D z (X, YL D z Y B L) H) : GG D z (X, Y) H := ⟨h.1, h.2.1.now.1.out, h.2.2⟩
set_option maxRecDepth 20000 in
theorem gl_y (h : GG D z (X, YL D z Y B L) H) : Y H := h.2.1.now.1.now
set_option maxRecDepth 20000 in
theorem gl_at {a : Nat} {e : va_E} (h : GG D z (X, YL D z Y B L) H) (i : Nat) (hi : L[i]? = some (a, e)) : va_at (gD D) cls (a, e) H := (h.2.1.now.2.2 _ (List.mem_of_getElem? hi)).2.2
set_option maxRecDepth 20000 in
theorem gl_new {e : va_E} {A : Nat} (h : GG D z (X, YL D z Y B L) H) (hA : H.size = A) (hB : B ≤ A) (oq : ∀ q : Nat, q < A → H1[q]? = H[q]?) (he : va_at (gD D) cls (A, e) H1) : GG D z (X, YL D z Y B (L ++ [(A, e)])) H1 := by
  subst hA
  have hY := h.2.1.now
  refine ⟨fun k j i hok => (h.1 k j i hok).kept (oq _ (h.1 k j i hok).lt), YL.fr ⟨hY.1.mv fun q _ h1 _ => oq q h1, ?_, ?_⟩, size_keep h.2.2 (oq _ h.2.2)⟩
  · rw [List.map_append, List.pairwise_append]
    refine ⟨hY.2.1, by simp, ?_⟩
    intro a ha b hb
    obtain ⟨x, hx, rfl⟩ := List.mem_map.mp ha
    simp at hb
    subst hb
    exact (hY.2.2 x hx).2.2.lt
  · intro q hm
    rcases List.mem_append.mp hm with hm | hm
    · obtain ⟨h1, h2, h3⟩ := hY.2.2 q hm
      exact ⟨h1, h2, h3.kept (oq _ h3.lt)⟩
    · rcases List.mem_singleton.mp hm with rfl
      exact ⟨hB, h.2.2, he⟩
set_option maxRecDepth 20000 in
theorem gl_set {a i : Nat} {e0 e : va_E} (h : GG D z (X, YL D z Y B L) H) (hi : L[i]? = some (a, e0)) (oq : ∀ q : Nat, q ≠ a → H1[q]? = H[q]?) (he : va_at (gD D) cls (a, e) H1) : GG D z (X, YL D z Y B (L.set i (a, e))) H1 := by
  have hY := h.2.1.now
  have hm := hY.2.2 _ (List.mem_of_getElem? hi)
  have hl := (List.getElem?_eq_some_iff.mp hi).1
  have hmap : (L.set i (a, e)).map (·.1) = L.map (·.1) := by
    apply List.ext_getElem?
    intro k
    rw [List.getElem?_map, List.getElem?_map, List.getElem?_set]
    by_cases hk : i = k
    · subst hk
      rw [if_pos rfl, if_pos hl, hi]
      rfl
    · rw [if_neg hk]
  refine ⟨fun k j i hok => (h.1 k j i hok).kept (oq _ ?_), YL.fr ⟨hY.1.mv fun q h0 _ _ => oq q ?_, by rw [hmap]; exact hY.2.1, fun q hq => ?_⟩, size_keep h.2.2 (oq _ ?_)⟩
  · have := ok_lt hok
    have := hm.2.1
    show z + aX k j i ≠ a
    intro e
    subst e
    have : z + 530 ≤ z + aX k j i := this
    omega
  · have : B ≤ a := hm.1
    omega
  · obtain ⟨k, hk⟩ := List.getElem?_of_mem hq
    rw [List.getElem?_set] at hk
    by_cases hik : i = k
    · subst hik
      rw [if_pos rfl, if_pos hl] at hk
      cases hk
      exact ⟨hm.1, hm.2.1, he⟩
    · rw [if_neg hik] at hk
      obtain ⟨h1, h2, h3⟩ := hY.2.2 q (List.mem_of_getElem? hk)
      refine ⟨h1, h2, h3.kept (oq _ ?_)⟩
      intro e
      have hp := hY.2.1
      have g1 : (L.map (·.1))[i]? = some a := by rw [List.getElem?_map, hi]; rfl
      have g2 : (L.map (·.1))[k]? = some q.1 := by rw [List.getElem?_map, hk]; rfl
      obtain ⟨l1, g1⟩ := List.getElem?_eq_some_iff.mp g1
      obtain ⟨l2, g2⟩ := List.getElem?_eq_some_iff.mp g2
      rw [List.pairwise_iff_getElem] at hp
      rcases Nat.lt_or_gt_of_ne hik with q1 | q1
      · have := hp i k l1 l2 q1
        omega
      · have := hp k i l2 l1 q1
        omega
  · have : z + 530 ≤ a := hm.2.1
    omega
end LCELL
section LR
variable {p : Program} {l : Launch} {e : Env} {R : Room} {s : State} {m : MethodId} {args : Array Value} {below : List Frame} {meth : Method} {c : Code} {D : DD} {z : Nat} {own : String} {cc : ByteArray} {nL : Nat} {ret : Option FieldType} {P P' : Heap → Prop} {k n : Nat} {Q : State → Prop} {pc : Nat} {ls ls' : List (Nat × Value)} {st st0 : List Value} {X X' : XT} {Y : YT} {L L' : List (Nat × va_E)}
set_option maxRecDepth 20000 in
/-- a method that makes cells of its own -/
theorem cc_ofL {y : MethodName} {code : ByteArray} {maxL : Nat} {rm : Room} {a : List Value} {v : Option Value} (hy : plainName y.cls = true) (hsz : (lg_sl a).length ≤ maxL) (hl : lv_args 0 a = ls)
    (body : ∀ (p : Program) (e : Env) (s : State) (m : MethodId) (args : Array Value) (below : List Frame) (meth : Method) (c : Code), Cx p s m args meth c D z y.cls code maxL ret → J p l e rm s m args below meth c D z (GG D z (X, YL D z Y s.heap.size [])) 0 0 (MQ below (QC z v P') args s rm.cells rm.slots (Az z)) maxL 0 ls []) : CC l y code maxL ret rm D z a (GG D z (X, Y)) v P' := by
  refine Met.ofW (cc := code) (maxL := maxL) (ret := ret) hy rfl ?_
  intro p e s m args below meth c s₁ B hml hv
  obtain ⟨rfl, hG, hB, hz⟩ := hv
  have hts := atoms_spec (ws := Cond.code y code maxL ret :: Wall) B.pre
  have hown : s.vm.findClass y.cls = some m.cls := findClass_of_methodNamed B.named
  have hE := lv_entry a hsz
  rw [hl] at hE
  have := body p e s m a.toArray below meth c ⟨B.exec, B.bytes, hml, hown, fun w h => hts w (List.mem_cons_of_mem _ h), hB, B.returns, B.notSynchronized, hz⟩ s.heap [] _ (gl_in hG rfl) va_S.rf hE
  rw [lg_entry_eq]
  exact this
set_option maxRecDepth 20000 in
theorem j_fixS (h : ∀ H0, P H0 → s.heap.size ≤ H0.size → J p l e R s m args below meth c D z (fun H => H = H0) k n Q nL pc ls st) : J p l e R s m args below meth c D z P k n Q nL pc ls st := fun H locs la hG hS hL => h H hG hS.1 H locs la rfl hS hL
set_option maxRecDepth 20000 in
/-- a new int array -/
theorem jl_newi {N' : Nat} {v : Int32} (E : Cx p s m args meth c D z own cc nL ret) (hv : ¬ v < 0) (hN : v.toNatClampNeg = N') (hbytes : N' * 4 ≤ 536870912) (hk : k + 1 ≤ R.cells) (hs : n + N' ≤ R.slots) (hd : decode cc pc = .ok (.newarray .int, 2)) (h : ∀ A : Nat, J p l e R s m args below meth c D z (GG D z (X, YL D z Y s.heap.size (L ++ [(A, aint D 0 N' (fun _ => 0))]))) (k + 1) (n + N') Q nL (pc + 2) ls (.ref A :: st)) : J p l e R s m args below meth c D z (GG D z (X, YL D z Y s.heap.size L)) k n Q nL pc ls (.int v :: st) := by
  refine j_fixS fun H0 hG hB => ?_
  refine jp_newa (A := H0.size) (N' := N') (t := 0) (a0 := (N', .inl (fun _ => 0))) (P' := GG D z (X, YL D z Y s.heap.size (L ++ [(H0.size, aint D 0 N' (fun _ => 0))]))) E ar_int rfl rfl (fun _ h => h) (fun _ => rfl) (fun H h => by rw [h]) hv hN hbytes hk hs ?_ hd (h H0.size)
  intro H H1 hH e1 e2 e3
  subst hH
  exact gl_new hG rfl hB e2 e3
set_option maxRecDepth 20000 in
theorem jl_iald {a N : Nat} {f : Nat → Int32} {q v : Int32} (E : Cx p s m args meth c D z own cc nL ret) (hat : ∀ H, P H → va_at (gD D) cls (a, aint D 0 N f) H) (hin : vp_in q N) (hv : f q.toNatClampNeg = v) (hd : decode cc pc = .ok (.iaload, 1)) (h : J p l e R s m args below meth c D z P k n Q nL (pc + 1) ls (.int v :: st)) : J p l e R s m args below meth c D z P k n Q nL pc ls (.int q :: .ref a :: st) := by
  subst hv
  exact fun H locs la hG hS hL => va_iald (tys := tysD D) (cA := D.2.2.1 0) (n := N) (f := f) E.1 E.2.1 E.2.2.2.2.2.1.K (at_P (hat H hG)) 0 0 rfl rfl hin hd (h H locs la hG hS hL)
set_option maxRecDepth 20000 in
theorem jl_iast {a N B : Nat} {f : Nat → Int32} {q v : Int32} (E : Cx p s m args meth c D z own cc nL ret) (hz : s.heap.size = B) (i : Nat) (hi : L[i]? = some (a, aint D 0 N f)) (hin : vp_in q N) (t : Nat) (ht : q.toNatClampNeg = t) (hL' : L.set i (a, aint D 0 N (upd f t v)) = L') (hd : decode cc pc = .ok (.iastore, 1)) (h : J p l e R s m args below meth c D z (GG D z (X, YL D z Y B L')) k n Q nL (pc + 1) ls st) : J p l e R s m args below meth c D z (GG D z (X, YL D z Y B L)) k n Q nL pc ls (.int v :: .int q :: .ref a :: st) := by
  subst ht
  subst hL'
  intro H locs la hG hS hL
  have hat := gl_at hG i hi
  refine W.iast E.1 E.2.1 hat ((E.2.2.2.2.2.1.K.2 0 _ rfl).1 N (fun j0 => .int (f j0))) (fun q => by cases q) (by show ¬ (q < 0 ∨ (arrV _ _ _).slots.size ≤ _); rw [arrV_size]; exact hin) rfl rfl hd fun H1 e1 e2 oq => ?_
  refine h H1 _ la (gl_set hG hi oq (e1.trans (congrArg some arr_upd))) (hS.put e2 oq ?_) hL
  have := (hG.2.1.now.2.2 _ (List.mem_of_getElem? hi)).1
  have hz0 : z ≤ s.heap.size := E.2.2.2.2.2.2.2.2
  have : B ≤ a := this
  show z ≤ a
  omega
set_option maxRecDepth 20000 in
/-- the script -/
theorem jl_sld {q v : Int32} (E : Cx p s m args meth c D z own cc nL ret) (hin : vp_in q D.2.2.2.2.2.2.2.1) (hv : D.2.2.2.2.2.2.2.2 q.toNatClampNeg = v) (hd : decode cc pc = .ok (.iaload, 1)) (h : J p l e R s m args below meth c D z P k n Q nL (pc + 1) ls (.int v :: st)) : J p l e R s m args below meth c D z P k n Q nL pc ls (.int q :: .ref D.2.2.2.2.2.2.1 :: st) := by
  subst hv
  obtain ⟨h1, h2, h3⟩ := E.2.2.2.2.2.1.2.2.2.2.2.2.2.2.2.2.2.2.2.1
  exact fun H locs la hG hS hL => va_sld E.1 E.2.1 h1 h2 h3 hS hin hd (h H locs la hG hS hL)
set_option maxRecDepth 20000 in
theorem jl_slen {v : Int32} (E : Cx p s m args meth c D z own cc nL ret) (hv : nI D.2.2.2.2.2.2.2.1 = v) (hd : decode cc pc = .ok (.arraylength, 1)) (h : J p l e R s m args below meth c D z P k n Q nL (pc + 1) ls (.int v :: st)) : J p l e R s m args below meth c D z P k n Q nL pc ls (.ref D.2.2.2.2.2.2.1 :: st) := by
  subst hv
  obtain ⟨h1, h2, h3⟩ := E.2.2.2.2.2.1.2.2.2.2.2.2.2.2.2.2.2.2.2.1
  exact fun H locs la hG hS hL => va_slen E.1 E.2.1 h1 h2 h3 hS hd (h H locs la hG hS hL)
set_option maxRecDepth 20000 in
theorem jl_getW {idx : Nat} (E : Cx p s m args meth c D z own cc nL ret) (w : Cond.fieldLink own idx RL "WINES" "[Ljava/lang/String;" ∈ Wall) (hd : decode cc pc = .ok (.getstatic idx, 3)) (h : ∀ t, va_T (.object RJ0) t 3 (fun j => .ref (D.2.2.2.1 (winS j))) (Az z) s s.heap → J p l e R s m args below meth c D z P k n Q nL (pc + 3) ls (.ref t :: st)) : J p l e R s m args below meth c D z P k n Q nL pc ls st := by
  obtain ⟨t, h1, h2⟩ := E.2.2.2.2.2.1.2.2.2.2.2.2.2.2.2.2.2.2.2.2.1
  exact j_gets E h1 w hd (h t h2)
set_option maxRecDepth 20000 in
theorem jl_getG {idx : Nat} (E : Cx p s m args meth c D z own cc nL ret) (w : Cond.fieldLink own idx RL "GROWERS" "[Ljava/lang/String;" ∈ Wall) (hd : decode cc pc = .ok (.getstatic idx, 3)) (h : ∀ t, va_T (.object RJ0) t 4 (fun j => .ref (D.2.2.2.1 (groS j))) (Az z) s s.heap → J p l e R s m args below meth c D z P k n Q nL (pc + 3) ls (.ref t :: st)) : J p l e R s m args below meth c D z P k n Q nL pc ls st := by
  obtain ⟨t, h1, h2⟩ := E.2.2.2.2.2.1.2.2.2.2.2.2.2.2.2.2.2.2.2.2.2
  exact j_gets E h1 w hd (h t h2)
set_option maxRecDepth 20000 in
theorem jl_tq {t N : Nat} {C : String} {f : Nat → Value} {i : Int32} {v : Value} (E : Cx p s m args meth c D z own cc nL ret) (hT : va_T (.object C) t N f (Az z) s s.heap) (hin : vp_in i N) (hv : f i.toNatClampNeg = v) (hd : decode cc pc = .ok (.aaload, 1)) (h : J p l e R s m args below meth c D z P k n Q nL (pc + 1) ls (v :: st)) : J p l e R s m args below meth c D z P k n Q nL pc ls (.int i :: .ref t :: st) :=
  fun H locs la hG hS hL => vb_tq E.1 E.2.1 hT hS hin hv hd (h H locs la hG hS hL)
set_option maxRecDepth 20000 in
theorem win_lt (j : Nat) : winS j < 31 := by unfold winS; split <;> (try split) <;> decide
set_option maxRecDepth 20000 in
theorem gro_lt (j : Nat) : groS j < 31 := by unfold groS; split <;> (try split) <;> (try split) <;> decide
set_option maxRecDepth 20000 in
theorem jl_iincW (E : Cx p s m args meth c D z own cc nL ret) {i : Nat} {a : Int} {x : Int32} (q : Nat) (hk : ls[q]? = some (i, .int x)) (hn : i < nL) (v : Int32) (hv : x + Int32.ofInt a = v) (hl : (i, Value.int v) :: ls.filter (fun q => !(q.1 == i) && !(q.1 + 1 == i && q.2.category == 2)) = ls') (hd : decode cc pc = .ok (.iinc i a, 6)) (h : J p l e R s m args below meth c D z P k n Q nL (pc + 6) ls' st) : J p l e R s m args below meth c D z P k n Q nL pc ls st :=
  fun H locs la hG hS hL => lv_iincW E.1 E.2.1 hd hL hk hv hn hl (fun la hL => h H locs la hG hS hL)
set_option maxRecDepth 20000 in
theorem jl_dcmp (E : Cx p s m args meth c D z own cc nL ret) {x y : UInt64} {op : CmpOp} (hd : decode cc pc = .ok (.dcmp op, 1)) (h : J p l e R s m args below meth c D z P k n Q nL (pc + 1) ls (.int (Op.cmpValue (FP.dcmp x y) op) :: st)) : J p l e R s m args below meth c D z P k n Q nL pc ls (.double y :: .double x :: st) :=
  fun H locs la hG hS hL => lv_dcmp E.1 E.2.1 hd (h H locs la hG hS hL)
set_option maxRecDepth 20000 in
theorem jl_fcmp (E : Cx p s m args meth c D z own cc nL ret) {x y : UInt32} {op : CmpOp} (hd : decode cc pc = .ok (.fcmp op, 1)) (h : J p l e R s m args below meth c D z P k n Q nL (pc + 1) ls (.int (Op.cmpValue (FP.fcmp x y) op) :: st)) : J p l e R s m args below meth c D z P k n Q nL pc ls (.float y :: .float x :: st) :=
  fun H locs la hG hS hL => lv_fcmp E.1 E.2.1 hd (h H locs la hG hS hL)
set_option maxRecDepth 20000 in
theorem jl_ldcw {idx : Nat} {v : Int32} (E : Cx p s m args meth c D z own cc nL ret) (w : Cond.constant own idx v ∈ Wall) (hd : decode cc pc = .ok (.ldc_w idx, 3)) (h : J p l e R s m args below meth c D z P k n Q nL (pc + 3) ls (.int v :: st)) : J p l e R s m args below meth c D z P k n Q nL pc ls st :=
  fun H locs la hG hS hL => lv_ldcw E.1 E.2.1 E.2.2.2.1 (E.2.2.2.2.1 _ w) hd (h H locs la hG hS hL)
set_option maxRecDepth 20000 in
theorem ic457 : Int32.ofInt 457 = 457 := by decide
set_option maxRecDepth 20000 in
theorem ic271 : Int32.ofInt 271 = 271 := by decide
end LR
def jn {τ ρ : Type} (y : Sum Int32 τ) (e : Int32 → Option ρ) (k : τ → Option ρ) : Option ρ := match y with
  | .inl v => e v
  | .inr o => k o
set_option maxRecDepth 20000 in
theorem jn_s {τ ρ : Type} {o : τ} {e : Int32 → Option ρ} {k : τ → Option ρ} {r : Option ρ} (h : jn (.inr o) e k = r) : k o = r := h
set_option maxRecDepth 20000 in
theorem jn_n {τ ρ : Type} {v : Int32} {e : Int32 → Option ρ} {k : τ → Option ρ} {r : Option ρ} (h : jn (.inl v : Sum Int32 τ) e k = r) : e v = r := h
