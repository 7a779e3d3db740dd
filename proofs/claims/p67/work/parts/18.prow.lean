/-! rows over any heap predicate: makings, and cells that the world doesn't hold (yet) -/
section JP
variable {p : Program} {l : Launch} {e : Env} {R : Room} {s : State} {m : MethodId} {args : Array Value} {below : List Frame} {meth : Method} {c : Code} {D : DD} {z : Nat} {own : String} {cc : ByteArray} {nL : Nat} {ret : Option FieldType} {P P' : Heap → Prop} {k n : Nat} {Q : State → Prop} {pc : Nat} {ls ls' : List (Nat × Value)} {st st0 : List Value}
theorem j_fix (h : ∀ H0, P H0 → J p l e R s m args below meth c D z (fun H => H = H0) k n Q nL pc ls st) : J p l e R s m args below meth c D z P k n Q nL pc ls st := fun H locs la hG hS hL => h H hG H locs la rfl hS hL
theorem j_wk (hw : ∀ H, P H → P' H) (h : J p l e R s m args below meth c D z P' k n Q nL pc ls st) : J p l e R s m args below meth c D z P k n Q nL pc ls st := fun H locs la hG hS hL => h H locs la (hw H hG) hS hL
/-- what the frame says of the heap may be used -/
theorem j_old (h : (∀ H, P H → P' H) → J p l e R s m args below meth c D z P k n Q nL pc ls st) (hw : ∀ H, P H → P' H) : J p l e R s m args below meth c D z P k n Q nL pc ls st := h hw
theorem jp_get {a ci C T ty N idx f fs v ref} (E : Cx p s m args meth c D z own cc nL ret) (hat : ∀ H, P H → va_at (gD D) cls (a, .inr (ci, fs)) H) (F : CF ci C T ty N) (w : Cond.fieldLink own idx ref (T f).2.1 (T f).2.2.1 ∈ Wall) (hf : f < N) (h0 : (T f).1 = ref) (hv : fs[f]? = some v) (hd : decode cc pc = .ok (.getfield idx, 3)) (h : J p l e R s m args below meth c D z P k n Q nL (pc + 3) ls (v :: st)) : J p l e R s m args below meth c D z P k n Q nL pc ls (.ref a :: st) :=
  fun H locs la hG hS hL => va_get (ci := ci) (C := C) (T := T) (N := N) E.1 E.2.1 E.2.2.2.2.1 F.2.1 E.2.2.2.1 E.2.2.2.2.2.1.K (at_P (hat H hG)) 0 rfl F.1 f hf (E.2.2.2.2.1 _ w) (fun _ q => h0 ▸ q) hv hd (h H locs la hG hS hL)
theorem jp_put {a ci C T ty N idx f fs v ref} (E : Cx p s m args meth c D z own cc nL ret) (hz : z ≤ a) (hat : ∀ H, P H → va_at (gD D) cls (a, .inr (ci, fs)) H) (F : CF ci C T ty N) (w : Cond.fieldLink own idx ref (T f).2.1 (T f).2.2.1 ∈ Wall) (hf : f < N) (h0 : (T f).1 = ref ∧ (T f).2.2.2 = false) (hn : narrow (ty f) v = v ∧ fits (ty f) v = true) (hl : f < fs.length) (hP : ∀ H H1, P H → H1.size = H.size → (∀ q : Nat, q ≠ a → H1[q]? = H[q]?) → va_at (gD D) cls (a, .inr (ci, fs.set f v)) H1 → P' H1) (hd : decode cc pc = .ok (.putfield idx, 3)) (h : J p l e R s m args below meth c D z P' k n Q nL (pc + 3) ls st) : J p l e R s m args below meth c D z P k n Q nL pc ls (v :: .ref a :: st) := by
  intro H locs la hG hS hL
  obtain ⟨hx, hb, hml, hown, hts, hB, -⟩ := E
  obtain ⟨hc, hin, hty, hnm⟩ := F
  have hK := hB.K
  have hap := va_apart (own := own) hts hin ty hty hnm hK hc
  have hat := hat H hG
  obtain ⟨r, h1, cell, q1, q2, q3, q4⟩ := id hat
  have hr : r = (C, T, N) := Option.some.inj (h1.symm.trans hc)
  subst hr
  obtain ⟨hSl, hfc, kC, hkC, hkind⟩ := hK.1 ci _ hc
  obtain ⟨cf, kf, fi, fd, hi, hsl⟩ := hSl f hf
  have hlay := hts _ (hin _ (u_in_lay hf))
  unfold u_lay at hlay
  rw [if_neg (by rw [h0.2]; decide)] at hlay
  have hst := (u_facts hfc hkC (u_lays hts hin hf) hi).1
  have h6 := u_store hfc hkC hkind hlay hi (hty f hf) hn.1 hn.2
  refine W.putK hx hb (f := fd) ⟨hown, hts _ w, ⟨_, _, _, h0.1 ▸ hi⟩, hst⟩ (by rw [q2]; exact h6) q1 q3 (by rw [hsl]; exact k2_hasslot (q4 f hf)) rfl rfl hd fun H' e1 e2 e3 => ?_
  rw [hsl] at e1 ⊢
  exact h H' _ la (hP H H' hG e2 e3 (at_put hc hat hap hf hl q1 e1)) (hS.put e2 e3 hz) hL
/-- a final field, in its class's constructor -/
theorem jp_putF {a ci C T ty N idx f fs v} (E : Cx p s m args meth c D z own cc nL ret) (hi2 : meth.name = "<init>") (hz : z ≤ a) (hat : ∀ H, P H → va_at (gD D) cls (a, .inr (ci, fs)) H) (F : CF ci C T ty N) (w : Cond.fieldLink own idx C (T f).2.1 (T f).2.2.1 ∈ Wall) (hf : f < N) (h0 : (T f).1 = C ∧ (T f).2.2.2 = true ∧ (T f).1 = own) (hn : narrow (ty f) v = v ∧ fits (ty f) v = true) (hl : f < fs.length) (hP : ∀ H H1, P H → H1.size = H.size → (∀ q : Nat, q ≠ a → H1[q]? = H[q]?) → va_at (gD D) cls (a, .inr (ci, fs.set f v)) H1 → P' H1) (hd : decode cc pc = .ok (.putfield idx, 3)) (h : J p l e R s m args below meth c D z P' k n Q nL (pc + 3) ls st) : J p l e R s m args below meth c D z P k n Q nL pc ls (v :: .ref a :: st) := by
  intro H locs la hG hS hL
  obtain ⟨hx, hb, hml, hown, hts, hB, -⟩ := E
  obtain ⟨hc, hin, hty, hnm⟩ := F
  have hK := hB.K
  have hap := va_apart (own := own) hts hin ty hty hnm hK hc
  have hat := hat H hG
  obtain ⟨r, h1, cell, q1, q2, q3, q4⟩ := id hat
  have hr : r = (C, T, N) := Option.some.inj (h1.symm.trans hc)
  subst hr
  obtain ⟨hSl, hfc, kC, hkC, hkind⟩ := hK.1 ci _ hc
  obtain ⟨cf, kf, fi, fd, hi, hsl⟩ := hSl f hf
  have hlay := hts _ (hin _ (u_in_lay hf))
  unfold u_lay at hlay
  rw [if_pos h0.2.1] at hlay
  have hst := (u_facts hfc hkC (u_lays hts hin hf) hi).1
  have hcf : m.cls = cf := by
    obtain ⟨_, _, c', _, _, _, -, -, hf', -, -, -, hown2, -⟩ := Cond.laysFinal_spec hlay
    have e1 : c' = cf := by
      have := hi.symm.trans hf'
      simp at this
      exact this.1.symm
    rw [h0.2.2] at hown2
    rw [← e1]
    exact Option.some.inj (hown.symm.trans hown2)
  have h6 := u_fits hfc hkC hkind (Or.inr hlay) hi (hty f hf) hn.1 hn.2
  refine W.putFinK hx hb hown (hts _ w) (h0.1 ▸ hi) hst hcf hi2 (by rw [q2]; exact h6) q1 q3 (by rw [hsl]; exact k2_hasslot (q4 f hf)) rfl rfl hd fun H' e1 e2 e3 => ?_
  rw [hsl] at e1 ⊢
  exact h H' _ la (hP H H' hG e2 e3 (at_put hc hat hap hf hl q1 e1)) (hS.put e2 e3 hz) hL
theorem jp_new {ci C T ty N idx A fs} (E : Cx p s m args meth c D z own cc nL ret) (F : CF ci C T ty N) (wc : Cond.classLink own idx C ∈ Wall) (wi : Cond.instantiable C N ∈ Wall) (wn : Cond.initialized C ∈ Wall) (hA : ∀ H, P H → H.size = A) (hfs : ∀ j, j < N → defaultValue (ty j) = vp_V fs j) (hk : k + 1 ≤ R.cells) (hs : n + N ≤ R.slots) (hP : ∀ H H1, P H → H1.size = A + 1 → (∀ q : Nat, q < A → H1[q]? = H[q]?) → va_at (gD D) cls (A, .inr (ci, fs)) H1 → P' H1) (hd : decode cc pc = .ok (.new idx, 3)) (h : J p l e R s m args below meth c D z P' (k + 1) (n + N) Q nL (pc + 3) ls (.ref A :: st)) : J p l e R s m args below meth c D z P k n Q nL pc ls st := by
  intro H locs la hG hS hL
  obtain ⟨hx, hb, hml, hown, hts, hB, -⟩ := E
  obtain ⟨hc, hin, hty, hnm⟩ := F
  have hKn := hB.K.1 ci _ hc
  have hsz := hA H hG
  subst hsz
  refine W.newcK hx hb hown (hts _ wc) (hts _ wi) (hts _ wn) rfl hd hk hs hKn.2.1 rfl fun H1 kC hkC e1 z1 o1 => ?_
  exact h H1 _ la (hP H H1 hG z1 o1 ⟨_, hc, (u_born ty hts hin hKn hkC e1 hty).to hfs⟩) ⟨Nat.le_trans hS.1 (by omega), fun x h1 h2 => (o1 x (Nat.lt_of_lt_of_le h1 hS.1)).trans (hS.2.1 x h1 h2), hS.2.2⟩ hL
theorem jp_newa {atype : ArrayType} {t N' A : Nat} {a0 : vp_A} {v : Int32} {ty : FieldType} (E : Cx p s m args meth c D z own cc nL ret) (w : Cond.arrayClass ty ∈ Wall) (hty : newarray.typeOf atype = ty) (ht : (tysD D)[t]? = some (D.2.2.1 t, ty)) (hra : ∀ cA, va_RA s cA ty → s.vm.findClass ("[" ++ ty.toString) = some cA) (ha : ∀ cA : ClassId, vp_cell cA a0 = arrV cA N' (fun _ => defaultValue ty)) (hA : ∀ H, P H → H.size = A) (hv : ¬ v < 0) (hN : v.toNatClampNeg = N') (hbytes : N' * componentBytes ty ≤ 536870912) (hk : k + 1 ≤ R.cells) (hs : n + N' ≤ R.slots) (hP : ∀ H H1, P H → H1.size = A + 1 → (∀ q : Nat, q < A → H1[q]? = H[q]?) → va_at (gD D) cls (A, .inl (D.2.2.1 t, a0)) H1 → P' H1) (hd : decode cc pc = .ok (.newarray atype, 2)) (h : J p l e R s m args below meth c D z P' (k + 1) (n + N') Q nL (pc + 2) ls (.ref A :: st)) : J p l e R s m args below meth c D z P k n Q nL pc ls (.int v :: st) := by
  subst hty
  intro H locs la hG hS hL
  have hB := E.2.2.2.2.2.1
  refine va_newaK E.1 E.2.1 (E.2.2.2.2.1 _ w) rfl hd rfl hv hN hbytes hk hs (hA H hG) fun H1 cA e1 z1 o1 hAr hNm => ?_
  have hsz := hA H hG
  have hcA : D.2.2.1 t = cA := Option.some.inj ((hra _ (hB.K.2 t _ ht).2).symm.trans hNm)
  refine h H1 _ la (hP H H1 hG z1 o1 ?_) ⟨Nat.le_trans hS.1 (by omega), fun x h1 h2 => (o1 x (by have := Nat.lt_of_lt_of_le h1 hS.1; omega)).trans (hS.2.1 x h1 h2), hS.2.2⟩ hL
  show H1[A]? = some (vp_cell _ _)
  rw [ha, hcA]
  exact e1
theorem jp_anew {C : String} {t N' A idx : Nat} {v : Int32} (E : Cx p s m args meth c D z own cc nL ret) (wc : Cond.classLink own idx C ∈ Wall) (hao : C ∈ aoL) (ht : (tysD D)[t]? = some (D.2.2.1 t, .object C)) (hA : ∀ H, P H → H.size = A) (hv : ¬ v < 0) (hN : v.toNatClampNeg = N') (hbytes : N' * 4 ≤ 536870912) (hk : k + 1 ≤ R.cells) (hs : n + N' ≤ R.slots) (hP : ∀ H H1, P H → H1.size = A + 1 → (∀ q : Nat, q < A → H1[q]? = H[q]?) → va_at (gD D) cls (A, .inl (D.2.2.1 t, N', .inr (.inr (.inr (.inr (fun _ => none)))))) H1 → P' H1) (hd : decode cc pc = .ok (.anewarray idx, 3)) (h : J p l e R s m args below meth c D z P' (k + 1) (n + N') Q nL (pc + 3) ls (.ref A :: st)) : J p l e R s m args below meth c D z P k n Q nL pc ls (.int v :: st) := by
  subst hN
  intro H locs la hG hS hL
  have hB := E.2.2.2.2.2.1
  have hsz := hA H hG
  subst hsz
  refine W.anew E.1 E.2.1 E.2.2.2.1 (E.2.2.2.2.1 _ wc) (va_AO.use (hB.2.2.2.2.2.2.2.2.2.2.1 C hao)) rfl hd rfl hv hbytes hk hs fun cA kA comp f1 f2 f3 f4 => ?_
  obtain ⟨k9, c9, g1, g2, g3, g4⟩ := (hB.K.2 t _ ht).2
  have hcA : D.2.2.1 t = cA := Option.some.inj (g4.symm.trans f1)
  generalize hH1 : H.push ({ cls := cA, slots := Array.replicate v.toNatClampNeg .null, vm := .none } : Cell) = H1
  have z1 : H1.size = H.size + 1 := by rw [← hH1, Array.size_push]
  have e1 : H1[H.size]? = some (arrV cA v.toNatClampNeg (fun _ => .null)) := by rw [← hH1, Array.getElem?_push_size, ← arrV_new]
  have o1 : ∀ q : Nat, q < H.size → H1[q]? = H[q]? := fun q hq => by rw [← hH1, Array.getElem?_push_lt hq, Array.getElem?_eq_getElem hq]
  refine h H1 _ la (hP H H1 hG z1 o1 ?_) ⟨Nat.le_trans hS.1 (by omega), fun x h1 h2 => (o1 x (Nat.lt_of_lt_of_le h1 hS.1)).trans (hS.2.1 x h1 h2), hS.2.2⟩ hL
  show H1[H.size]? = some (vp_cell _ _)
  rw [hcA]
  exact e1
theorem jp_aast {t N a b ci : Nat} {r : vw_C} {f : Nat → Option Nat} {vs : List Value} {q : Int32} (E : Cx p s m args meth c D z own cc nL ret) (hz : z ≤ a) (hat : ∀ H, P H → va_at (gD D) cls (a, .inl (D.2.2.1 t, N, .inr (.inr (.inr (.inr f))))) H) (ht : (tysD D)[t]? = some (D.2.2.1 t, .object r.1)) (hav : ∀ H, P H → va_at (gD D) cls (b, .inr (ci, vs)) H) (hc : cls[ci]? = some r) (hne : a ≠ b) (hin : vp_in q N) (i : Nat) (hi : q.toNatClampNeg = i) (hP : ∀ H H1, P H → H1.size = H.size → (∀ q : Nat, q ≠ a → H1[q]? = H[q]?) → va_at (gD D) cls (a, .inl (D.2.2.1 t, N, .inr (.inr (.inr (.inr (va_up f i (some b))))))) H1 → P' H1) (hd : decode cc pc = .ok (.aastore, 1)) (h : J p l e R s m args below meth c D z P' k n Q nL (pc + 1) ls st) : J p l e R s m args below meth c D z P k n Q nL pc ls (.ref b :: .int q :: .ref a :: st) := by
  subst hi
  intro H locs la hG hS hL
  have hlt : q.toNatClampNeg < N := in_cl hin
  have h0 : ¬ q < 0 := fun x => hin (Or.inl x)
  have hB := E.2.2.2.2.2.1
  obtain ⟨r', hr', cellV, g1, g2, g3, -⟩ := hav H hG
  have hcls := (hB.K.1 ci r hc).2
  obtain ⟨kA, comp, k1, k2, k3, -⟩ := (hB.K.2 t _ ht).2
  have hcomp : comp = D.1 ci := Option.some.inj (k3.symm.trans hcls.1)
  subst hcomp
  obtain ⟨kC, hkC, -⟩ := hcls.2
  refine W.aast E.1 E.2.1 (hat H hG) (fun q h => by cases h) (fun h => by cases h) k1 k2 rfl hkC ⟨h0, by show _ < (arrV _ _ _).slots.size; rw [arrV_size]; exact hlt⟩ g1 (fun q h => by rw [g3] at h; cases h) (by rw [g2]; exact hkC) (by rw [g2]; exact va_assign hcls) rfl rfl hd fun H1 e1 e2 oq => ?_
  refine h H1 _ la (hP H H1 hG e2 oq ?_) (hS.put e2 oq hz) hL
  show H1[a]? = some (vp_cell _ _)
  rw [e1]
  rw [vp_cell_q, vp_cell_q, arrV_store]
  congr 2
  funext q'
  by_cases hq : q' = q.toNatClampNeg
  · subst hq
    simp [updV, va_up, va_rf]
  · simp [updV, va_up, hq]
theorem jp_objInit {a idx : Nat} (E : Cx p s m args meth c D z own cc nL ret) (w1 : Cond.methodLink own idx Lib.objectInit ∈ Wall) (w2 : Cond.instanceMethod Lib.objectInit ∈ Wall) (w3 : Cond.code Lib.objectInit ⟨#[0xb1]⟩ 1 none ∈ Wall) (hf : 1 ≤ R.frames) (hl : (st.map fun v => v.category).sum + 12 ≤ R.locals) (hd : decode cc pc = .ok (.invokespecial idx, 3)) (h : J p l e R s m args below meth c D z P k n Q nL (pc + 3) ls st) : J p l e R s m args below meth c D z P k n Q nL pc ls (.ref a :: st) :=
  fun H locs la hG hS hL => W.objInit E.1 E.2.1 E.2.2.2.1 (E.2.2.2.2.1 _ w1) (E.2.2.2.2.1 _ w2) (E.2.2.2.2.1 _ w3) rfl (hL.1.trans E.2.2.1.symm) rfl hd hf (by show 2 * 0 + _ + 12 ≤ _; omega) (h H locs la hG hS hL)
end JP
