/-! THE START: what the Statement gives of it -/
def NL : List Cond := flatC (Jvm.Cond.and given_1 narrow_1)
def repS : List (String × Nat) := [(RX8, 54), (RX8, 82), (RX8, 108), (RX8, 113), (RX8, 118), (RX8, 123), (RX8, 128), (RX8, 133), (RX8, 138), (RX8, 143), (RX8, 148), (RX8, 153), (RX11, 49), (RX11, 57), (RX11, 59), (RX11, 61), (RX11, 63), (RX11, 65), (RL, 392), (RL, 394), (RL, 397), (RL, 401), (RL, 61), (RL, 72), (RL, 77), (RL, 86), (RL, 88), (RL, 94), (RL, 99), (RL, 107), (RL, 121)]
def tmS (t : Nat) : Term := .string (repS.getD t ("", 0)).1 (repS.getD t ("", 0)).2
def bvS (t : Nat) : Term := .field (tmS t) "java/lang/String" "value" "[B"
def elS (t j : Nat) : Cond := Cond.eq (.elem (bvS t) (.int (Int32.ofNat j))) (.int ((strB.getD t []).getD j 0))
def exS (t : Nat) : List Cond := [Cond.exactly (tmS t) "java/lang/String", Cond.eq (.field (tmS t) "java/lang/String" "coder" "B") (.int 0), Cond.arrayOf (bvS t) .byte, Cond.eq (.length (bvS t)) (.int (Int32.ofNat (strN.getD t 0)))] ++ (List.range (strN.getD t 0)).map (elS t)
def poS : List Nat := [634, 649, 660, 671, 680, 690, 698, 706, 714, 724, 732, 739, 319, 360, 389, 467, 544, 575, 1627, 1634, 1651, 1666, 777, 793, 798, 810, 815, 827, 837, 848, 857]
set_option maxRecDepth 20000 in
theorem exS_ok : ∀ t, t < 31 → (NL.drop (poS.getD t 0)).take (exS t).length = exS t := by decide +kernel
def exP : List Nat := [319, 360, 389, 467, 544, 575, 634, 649, 660, 671, 680, 690, 698, 706, 714, 724, 732, 739, 747, 777, 793, 798, 810, 815, 827, 837, 848, 857, 866, 894, 949, 977, 1003, 1028, 1053, 1082, 1107, 1131, 1161, 1184, 1213, 1254, 1307, 1348, 1408, 1455, 1482, 1536, 1563, 1602, 1627, 1634, 1642, 1651, 1658, 1666, 1671]
set_option maxRecDepth 20000 in
theorem exP_ok : ∀ i, i < 57 → NL[exP.getD i 0]? = (strL[i]?).map (fun q => Cond.exactly (.string q.1 q.2.1) "java/lang/String") := by decide +kernel
def srP : List Nat := [410, 466, 467, 468, 469, 470, 512, 544, 565, 602, 613, 622, 636, 649, 713, 736, 750, 788, 912, 955, 1081, 1085, 1160, 1164, 1167, 1174, 1180, 1190, 1210, 1229, 1295, 1307, 1321, 1336, 1353, 1372, 1399, 1427, 1429, 1435, 1447, 1449, 1458, 1460, 1469, 1482, 1484, 1493, 1495, 1577, 1778, 1779, 1780, 1782, 1783, 1784, 1785]
set_option maxRecDepth 20000 in
theorem srP_ok : ∀ i, i < 57 → tables_1[srP.getD i 0]? = (strL[i]?).map (fun q => Cond.stringRef q.1 q.2.1 q.2.2) := by decide +kernel
set_option maxRecDepth 20000 in
theorem strL_len : strL.length = 57 := by decide
set_option maxRecDepth 20000 in
theorem strD : ∀ i, i < 31 → ∀ j, j < 31 → i ≠ j → strN.getD i 0 ≠ strN.getD j 0 ∨ ∃ k, k < strN.getD i 0 ∧ (strB.getD i []).getD k 0 ≠ (strB.getD j []).getD k 0 := by decide +kernel
set_option maxRecDepth 20000 in
theorem strNs : ∀ i, i < 31 → strN.getD i 0 < 1000 := by decide
def digC (n : String) (f : Nat → Int32) : List Cond := [Cond.isRef (.static "java/lang/Integer" n "[B"), Cond.arrayOf (.static "java/lang/Integer" n "[B") .byte, Cond.eq (.length (.static "java/lang/Integer" n "[B")) (.int (Int32.ofNat 100))] ++ (List.range 100).map (fun j => Cond.eq (.elem (.static "java/lang/Integer" n "[B") (.int (Int32.ofNat j))) (.int (f j)))
set_option maxRecDepth 20000 in
theorem digO : (NL.drop 11).take 103 = digC "DigitOnes" (fun j => 48 + nI (j % 10)) := by decide +kernel
set_option maxRecDepth 20000 in
theorem digT : (NL.drop 114).take 103 = digC "DigitTens" (fun j => 48 + nI (j / 10)) := by decide +kernel
section START
variable {s : State} {b : Nat}
set_option maxRecDepth 20000 in
theorem tl_ {w : Cond} {i : Nat} (h : tables_1[i]? = some w) : w ∈ lw_tbl := List.mem_append_right _ (List.mem_of_getElem? h)
set_option maxRecDepth 20000 in
theorem nA {z : Nat} (hz : z = s.heap.size) : ∀ a : Nat, a < s.heap.size → ¬ Az z a := fun a h q => by subst hz; exact absurd h (Nat.not_lt.mpr q)


set_option maxRecDepth 20000 in
theorem nl_s (hg : (Jvm.Cond.and given_1 narrow_1).before #[Value.ref b] s = true) {t : Nat} (ht : t < 31) {w : Cond} (hw : w ∈ exS t) : w.before #[Value.ref b] s = true := by
  refine flat_of_before _ hg w ?_
  rw [← exS_ok t ht] at hw
  exact List.mem_of_mem_drop (List.mem_of_mem_take hw)
set_option maxRecDepth 20000 in
theorem nl_i (hg : (Jvm.Cond.and given_1 narrow_1).before #[Value.ref b] s = true) {w : Cond} {i : Nat} (h : NL[i]? = some w) : w.before #[Value.ref b] s = true := flat_of_before _ hg w (List.mem_of_getElem? h)
set_option maxRecDepth 20000 in
theorem vkS {z : Nat} (hz : z = s.heap.size) (hg : (Jvm.Cond.and given_1 narrow_1).before #[Value.ref b] s = true) : ∃ adK adV : Nat → Nat, vk_S 31 strN strB adK adV (Az z) s s.heap ∧ ∀ i, i < 31 → (tmS i).eval #[Value.ref b] s none [] s = some (.ref (adK i)) := by
  have hA := nA hz
  have m0 : ∀ i, Cond.exactly (tmS i) "java/lang/String" ∈ exS i := fun i => List.mem_append_left _ List.mem_cons_self
  have m1 : ∀ i, Cond.eq (.field (tmS i) "java/lang/String" "coder" "B") (.int 0) ∈ exS i := fun i => List.mem_append_left _ (List.mem_cons_of_mem _ List.mem_cons_self)
  have m2 : ∀ i, Cond.arrayOf (bvS i) .byte ∈ exS i := fun i => List.mem_append_left _ (List.mem_cons_of_mem _ (List.mem_cons_of_mem _ List.mem_cons_self))
  have m3 : ∀ i, Cond.eq (.length (bvS i)) (.int (Int32.ofNat (strN.getD i 0))) ∈ exS i := fun i => List.mem_append_left _ (List.mem_cons_of_mem _ (List.mem_cons_of_mem _ (List.mem_cons_of_mem _ List.mem_cons_self)))
  have m4 : ∀ i j, j < strN.getD i 0 → elS i j ∈ exS i := fun i j h => List.mem_append_right _ (List.mem_map.mpr ⟨j, List.mem_range.mpr h, rfl⟩)
  have h0 : ∀ i : Nat, ∃ q : Nat × Nat, i < 31 → (tmS i).eval #[Value.ref b] s none [] s = some (.ref q.1) ∧ va_O "java/lang/String" q.1 (Az z) s s.heap ∧ va_OF "java/lang/String" "coder" "B" (.int 0) q.1 (Az z) s s.heap ∧ va_OF "java/lang/String" "value" "[B" (.ref q.2) q.1 (Az z) s s.heap ∧ va_T .byte q.2 (strN.getD i 0) (fun j => .int ((strB.getD i []).getD j 0)) (Az z) s s.heap := by
    intro i
    by_cases hi : i < 31
    · obtain ⟨a, c, cA, kA, q1, q2, q3, q4, q5, q6, -⟩ := Cond.exactly_spec (nl_s hg hi (m0 i))
      have hl := strNs i hi
      obtain ⟨t, ht, hT⟩ := va_Tof (f := fun j => .int ((strB.getD i []).getD j 0)) (A := Az z) (N := strN.getD i 0) (by omega) (nl_s hg hi (m2 i)) (va_eqt (nl_s hg hi (m3 i))) (fun j hj => va_eqt (nl_s hg hi (m4 i j hj))) hA
      exact ⟨(a, t), fun _ => ⟨q1, ⟨cA, q3, q5, by rw [q6]; exact q2, hA a (Array.getElem?_eq_some_iff.mp q3).1⟩, vk_OFof q1 (va_eqt (nl_s hg hi (m1 i))) hA, vk_OFof q1 ht hA, hT⟩⟩
    · exact ⟨(0, 0), fun h => absurd h hi⟩
  obtain ⟨ad, had⟩ := Classical.axiomOfChoice h0
  refine ⟨fun i => (ad i).1, fun i => (ad i).2, ⟨fun i hi => (had i hi).2, fun i j hi hj e => ?_⟩, fun i hi => (had i hi).1⟩
  refine Decidable.byContradiction fun hij => ?_
  have e : (ad i).1 = (ad j).1 := e
  obtain ⟨-, -, -, g3, g4⟩ := had i hi
  obtain ⟨-, -, -, k3, k4⟩ := had j hj
  rw [e] at g3
  obtain ⟨cf, k, fi, f, cell, a1, -, a3, -, a5, -⟩ := g3
  obtain ⟨cf', k', fi', f', cell', b1, -, b3, -, b5, -⟩ := k3
  cases a1.symm.trans b1
  cases a3.symm.trans b3
  have ev : (ad i).2 = (ad j).2 := by
    have := a5.symm.trans b5
    simpa using this
  rw [ev] at g4
  obtain ⟨c1, d1, -, -, -, d5, d6, -⟩ := g4
  obtain ⟨c2, e1, -, -, -, e5, e6, -⟩ := k4
  cases d1.symm.trans e1
  have hl1 := strNs i hi
  have hl2 := strNs j hj
  have hlen : strN.getD i 0 = strN.getD j 0 := (nI_eq (by omega) (by omega)).mp (d5.symm.trans e5)
  rcases strD i hi j hj hij with h | ⟨q, h1, h2⟩
  · exact h hlen
  · have := (d6 q h1).symm.trans (e6 q (by omega))
    simp only [Option.some.injEq, Value.int.injEq] at this
    exact h2 this
/-- the address of a String constant -/
noncomputable def adS (s : State) (own : String) (k : Nat) : Nat := match (Term.string own k).eval #[] s none [] s with
  | some (.ref a) => a
  | _ => 0
set_option maxRecDepth 20000 in
theorem evS (hg : (Jvm.Cond.and given_1 narrow_1).before #[Value.ref b] s = true) {q : String × Nat × String} (hq : q ∈ strL) : (Term.string q.1 q.2.1).eval #[Value.ref b] s none [] s = some (.ref (adS s q.1 q.2.1)) := by
  obtain ⟨i, hi⟩ := List.getElem?_of_mem hq
  have hl := (List.getElem?_eq_some_iff.mp hi).1
  rw [strL_len] at hl
  have := exP_ok i hl
  rw [hi] at this
  obtain ⟨a, c, cA, kA, q1, -⟩ := Cond.exactly_spec (nl_i hg this)
  have e : (Term.string q.1 q.2.1).eval #[] s none [] s = (Term.string q.1 q.2.1).eval #[Value.ref b] s none [] s := rfl
  unfold adS
  rw [e, q1]
set_option maxRecDepth 20000 in
theorem srS (hts : ∀ w ∈ lw_tbl, w.before #[Value.ref b] s = true) {q : String × Nat × String} (hq : q ∈ strL) : (Cond.stringRef q.1 q.2.1 q.2.2).before #[Value.ref b] s = true := by
  obtain ⟨i, hi⟩ := List.getElem?_of_mem hq
  have hl := (List.getElem?_eq_some_iff.mp hi).1
  rw [strL_len] at hl
  have := srP_ok i hl
  rw [hi] at this
  exact hts _ (tl_ this)
set_option maxRecDepth 20000 in
theorem eq_terms {args : Array Value} {t u : Term} {a c : Nat} (h : (Cond.eq t u).before args s = true) (h1 : t.eval args s none [] s = some (.ref a)) (h2 : u.eval args s none [] s = some (.ref c)) : a = c := by
  simp [Cond.before, Cond.holds, Cond.value, h1, h2] at h
  exact h
set_option maxRecDepth 20000 in
theorem strC_ok (hg : (Jvm.Cond.and given_1 narrow_1).before #[Value.ref b] s = true) {adK : Nat → Nat} (hk : ∀ i, i < 31 → (tmS i).eval #[Value.ref b] s none [] s = some (.ref (adK i))) : ∀ q ∈ strC, adS s q.1 q.2.1 = adK q.2.2 := by
  have ev : ∀ own k tx, (own, k, tx) ∈ strL → (Term.string own k).eval #[Value.ref b] s none [] s = some (.ref (adS s own k)) := fun own k tx h => evS hg (q := (own, k, tx)) h
  have same : ∀ (own : String) (k : Nat) (tx : String) (t : Nat), (own, k, tx) ∈ strL → t < 31 → tmS t = .string own k → adS s own k = adK t := by
    intro own k tx t h1 h2 h3
    have e1 := ev own k tx h1
    have e2 := hk t h2
    rw [h3, e1] at e2
    simpa using e2
  have other : ∀ (own : String) (k : Nat) (tx : String) (own2 : String) (k2 : Nat) (tx2 : String) (t i : Nat), (own, k, tx) ∈ strL → (own2, k2, tx2) ∈ strL → t < 31 → tmS t = .string own2 k2 → NL[i]? = some (Cond.eq (.string own2 k2) (.string own k)) → adS s own k = adK t := by
    intro own k tx own2 k2 tx2 t i h1 h2 h3 h4 h5
    rw [← same own2 k2 tx2 t h2 h3 h4]
    exact (eq_terms (nl_i hg h5) (ev own2 k2 tx2 h2) (ev own k tx h1)).symm
  unfold strC
  simp only [List.forall_mem_cons]
  refine ⟨?_, ?_, ?_, ?_, ?_, ?_, ?_, ?_, ?_, ?_, ?_, ?_, ?_, ?_, ?_, ?_, ?_, ?_, ?_, ?_, ?_, ?_, ?_, ?_, ?_, ?_, ?_, ?_, ?_, ?_, ?_, ?_, ?_, ?_, fun _ h => absurd h List.not_mem_nil⟩
  · exact same RX11 49 "cooperative 30 5000;classes 90 75 60;" 12 (by decide +kernel) (by decide) rfl
  · exact same RX11 57 "variety red;variety rose;" 13 (by decide +kernel) (by decide) rfl
  · exact same RX11 59 "price red 0 12;price red 1 9;price red 2 5;price rose 0 10;price rose 1 8;" 14 (by decide +kernel) (by decide) rfl
  · exact same RX11 61 "grower ann;grower bert;plot ann red 20;plot bert red 10;plot bert rose 8;" 15 (by decide +kernel) (by decide) rfl
  · exact same RX11 63 "tank 700;tank 500;tank 300;" 16 (by decide +kernel) (by decide) rfl
  · exact same RX11 65 "load 0 400 92;load 1 280 78;load 2 200 76;load 1 90 95;" 17 (by decide +kernel) (by decide) rfl
  · exact same RX8 54 "cooperative" 0 (by decide +kernel) (by decide) rfl
  · exact same RX8 82 "classes" 1 (by decide +kernel) (by decide) rfl
  · exact same RX8 108 "variety" 2 (by decide +kernel) (by decide) rfl
  · exact same RX8 113 "price" 3 (by decide +kernel) (by decide) rfl
  · exact same RX8 118 "grower" 4 (by decide +kernel) (by decide) rfl
  · exact same RX8 123 "plot" 5 (by decide +kernel) (by decide) rfl
  · exact same RX8 128 "tank" 6 (by decide +kernel) (by decide) rfl
  · exact same RX8 133 "load" 7 (by decide +kernel) (by decide) rfl
  · exact same RX8 138 "bottle" 8 (by decide +kernel) (by decide) rfl
  · exact same RX8 143 "sell" 9 (by decide +kernel) (by decide) rfl
  · exact same RX8 148 "pay" 10 (by decide +kernel) (by decide) rfl
  · exact same RX8 153 "pump" 11 (by decide +kernel) (by decide) rfl
  · exact same RL 61 "cooperative " 22 (by decide +kernel) (by decide) rfl
  · exact same RL 72 " " 23 (by decide +kernel) (by decide) rfl
  · exact same RL 77 ";classes" 24 (by decide +kernel) (by decide) rfl
  · exact same RL 86 ";" 25 (by decide +kernel) (by decide) rfl
  · exact same RL 88 "variety " 26 (by decide +kernel) (by decide) rfl
  · exact same RL 94 "price " 27 (by decide +kernel) (by decide) rfl
  · exact same RL 99 "grower " 28 (by decide +kernel) (by decide) rfl
  · exact same RL 107 "plot " 29 (by decide +kernel) (by decide) rfl
  · exact same RL 121 "tank " 30 (by decide +kernel) (by decide) rfl
  · exact same RL 392 "red" 18 (by decide +kernel) (by decide) rfl
  · exact same RL 394 "rose" 19 (by decide +kernel) (by decide) rfl
  · exact other RL 396 "tank" RX8 128 "tank" 6 1650 (by decide +kernel) (by decide +kernel) (by decide) rfl (by decide +kernel)
  · exact same RL 397 "ann" 20 (by decide +kernel) (by decide) rfl
  · exact other RL 399 "pay" RX8 148 "pay" 10 1665 (by decide +kernel) (by decide +kernel) (by decide) rfl (by decide +kernel)
  · exact same RL 401 "c" 21 (by decide +kernel) (by decide) rfl
  · exact other RL 403 "load" RX8 133 "load" 7 1679 (by decide +kernel) (by decide +kernel) (by decide) rfl (by decide +kernel)
set_option maxRecDepth 20000 in
theorem kn_ (hW : ∀ w ∈ Wall, w.before #[Value.ref b] s = true) : ∃ (dC : Nat → ClassId) (dI : Nat → Nat → Nat), ∀ (c : Nat) (q : vw_C), cls[c]? = some q → u_Kn s q.1 q.2.1 q.2.2 (dC c) (dI c) := by
  obtain ⟨c0, i0, h0⟩ := u_known (C := RX11) (T := TX11) (N := 6) hW cf_X11.2.1 (hW _ is_X11)
  obtain ⟨c1, i1, h1⟩ := u_known (C := RX8) (T := TX8) (N := 5) hW cf_X8.2.1 (hW _ is_X8)
  obtain ⟨c2, i2, h2⟩ := u_known (C := RX10) (T := TX10) (N := 7) hW cf_X10.2.1 (hW _ is_X10)
  obtain ⟨c3, i3, h3⟩ := u_known (C := RX4) (T := TX4) (N := 3) hW cf_X4.2.1 (hW _ is_X4)
  obtain ⟨c4, i4, h4⟩ := u_known (C := RX0) (T := TX0) (N := 7) hW cf_X0.2.1 (hW _ is_X0)
  obtain ⟨c5, i5, h5⟩ := u_known (C := RX1) (T := TX1) (N := 5) hW cf_X1.2.1 (hW _ is_X1)
  obtain ⟨c6, i6, h6⟩ := u_known (C := RX5) (T := TX5) (N := 6) hW cf_X5.2.1 (hW _ is_X5)
  obtain ⟨c7, i7, h7⟩ := u_known (C := RX3) (T := TX3) (N := 2) hW cf_X3.2.1 (hW _ is_X3)
  obtain ⟨c8, i8, h8⟩ := u_known (C := RX6) (T := TX6) (N := 9) hW cf_X6.2.1 (hW _ is_X6)
  obtain ⟨c9, i9, h9⟩ := u_known (C := RX2) (T := TX2) (N := 4) hW cf_X2.2.1 (hW _ is_X2)
  obtain ⟨c10, i10, h10⟩ := u_known (C := RX9) (T := TX9) (N := 4) hW cf_X9.2.1 (hW _ is_X9)
  obtain ⟨c11, i11, h11⟩ := u_known (C := RX7) (T := TX7) (N := 4) hW cf_X7.2.1 (hW _ is_X7)
  obtain ⟨c12, i12, h12⟩ := u_known (C := RJ4) (T := TJ4) (N := 4) hW cf_J4.2.1 (hW _ is_J4)
  obtain ⟨c13, i13, h13⟩ := u_known (C := RJ4) (T := TJ4) (N := 4) hW cf_J4.2.1 (hW _ is_J4)
  obtain ⟨c14, i14, h14⟩ := u_known (C := RJ0) (T := TJ0) (N := 4) hW uw_J0 (hW _ is_J0)
  refine ⟨fun c => [c0, c1, c2, c3, c4, c5, c6, c7, c8, c9, c10, c11, c12, c13, c14].getD c c0, fun c => [i0, i1, i2, i3, i4, i5, i6, i7, i8, i9, i10, i11, i12, i13, i14].getD c i0, ?_⟩
  intro c q hq
  match c, hq with
  | 0, hq => cases hq; exact h0
  | 1, hq => cases hq; exact h1
  | 2, hq => cases hq; exact h2
  | 3, hq => cases hq; exact h3
  | 4, hq => cases hq; exact h4
  | 5, hq => cases hq; exact h5
  | 6, hq => cases hq; exact h6
  | 7, hq => cases hq; exact h7
  | 8, hq => cases hq; exact h8
  | 9, hq => cases hq; exact h9
  | 10, hq => cases hq; exact h10
  | 11, hq => cases hq; exact h11
  | 12, hq => cases hq; exact h12
  | 13, hq => cases hq; exact h13
  | 14, hq => cases hq; exact h14
  | c + 15, hq => simp [cls] at hq
set_option maxRecDepth 20000 in
theorem arP {ty : FieldType} (hty : ∀ C, ty ≠ .object C) (h : (Cond.arrayClass ty).before #[Value.ref b] s = true) : ∃ cA : ClassId, ArrOfT s cA ty ∧ s.vm.findClass ("[" ++ ty.toString) = some cA := by
  obtain ⟨cA, kA, comp, h1, h2, h3⟩ := Cond.arrayClass_spec h
  exact ⟨cA, fun n z => ⟨(fun k hk => by cases hk), kA, h2, comp, h3⟩, h1⟩
set_option maxRecDepth 20000 in
theorem arO {C : String} (h : (Cond.arrayOver (.object C)).before #[Value.ref b] s = true) : ∃ cA : ClassId, ArrOfT s cA (.object C) ∧ va_RA s cA (.object C) := by
  obtain ⟨comp, cA, kA, h1, h2, h3, h4, h5⟩ := Cond.arrayOver_spec h
  exact ⟨cA, fun n z => ⟨(fun k h => by cases h), kA, h3, comp, h4⟩, kA, comp, h3, h4, h1, h5⟩
set_option maxRecDepth 20000 in
theorem wall_ (hts : ∀ w ∈ lw_tbl, w.before #[Value.ref b] s = true) : ∀ w ∈ Wall, w.before #[Value.ref b] s = true := by
  intro w hw
  rcases List.mem_append.mp hw with h | h
  · have sel : ∀ y : MethodName, y.cls = yJ5_isLatin1_aae02.cls → (y.cls ≠ "java/lang/invoke/MethodHandle" ∧ y.cls ≠ "java/lang/invoke/VarHandle") → (Cond.privateMethod y ∈ lw_tbl) → (Cond.instanceMethod y).before #[Value.ref b] s = true → (Cond.selects RJ4 y y).before #[Value.ref b] s = true := by
      intro y h1 h2 h3 h4
      have hs : Cond.selects RJ4 yJ5_isLatin1_aae02 yJ5_isLatin1_aae02 ∈ lw_tbl := by
        rcases List.mem_append.mp se_J4_J5_isLatin1_aae02 with q | q
        · exact absurd q (by decide +kernel)
        · exact (List.mem_filter.mp q).1
      exact sel_sub h2 h1.symm (hts _ hs) (hts _ h3) h4
    have im : ∀ y : MethodName, Cond.instanceMethod y ∈ Wall → (Cond.instanceMethod y).before #[Value.ref b] s = true := by
      intro y q
      rcases List.mem_append.mp q with q | q
      · exfalso
        simp [ExW] at q
      · exact hts _ (List.mem_filter.mp q).1
    simp only [ExW, List.mem_cons, List.not_mem_nil, or_false] at h
    rcases h with rfl | rfl | rfl | rfl
    · exact sel _ rfl (by decide +kernel) (tl_ (i := 968) (by decide +kernel)) (im _ im_J5_ensureCapacityInternal_d00df)
    · exact sel _ rfl (by decide +kernel) (tl_ (i := 972) (by decide +kernel)) (im _ im_J5_newCapacity_0f7a4)
    · exact sel _ rfl (by decide +kernel) (tl_ (i := 1020) (by decide +kernel)) (im _ im_J5_putStringAt_47b60)
    · exact sel _ rfl (by decide +kernel) (tl_ (i := 1024) (by decide +kernel)) (im _ im_J5_inflateIfNeededFor_a7421)
  · exact hts _ (List.mem_filter.mp h).1
set_option maxRecDepth 20000 in
theorem dig_ {z : Nat} (hz : z = s.heap.size) (hg : (Jvm.Cond.and given_1 narrow_1).before #[Value.ref b] s = true) {n : String} {p : Nat} {f : Nat → Int32} (h : (NL.drop p).take 103 = digC n f) (hl : (Cond.laysStatic "java/lang/Integer" n "[B").before #[Value.ref b] s = true) (hi : (Cond.initialized "java/lang/Integer").before #[Value.ref b] s = true) : ∃ t, va_Z "java/lang/Integer" n "[B" (.ref t) (Az z) s s.heap ∧ va_T .byte t 100 (fun j => .int (f j)) (Az z) s s.heap := by
  have mem : ∀ w ∈ digC n f, w.before #[Value.ref b] s = true := by
    intro w hw
    refine flat_of_before _ hg w ?_
    rw [← h] at hw
    exact List.mem_of_mem_drop (List.mem_of_mem_take hw)
  have m2 := mem _ (List.mem_append_left _ (List.mem_cons_of_mem _ List.mem_cons_self))
  have m3 := mem _ (List.mem_append_left _ (List.mem_cons_of_mem _ (List.mem_cons_of_mem _ List.mem_cons_self)))
  have m4 : ∀ j, j < 100 → (Cond.eq (.elem (.static "java/lang/Integer" n "[B") (.int (Int32.ofNat j))) (.int (f j))).before #[Value.ref b] s = true := fun j hj => mem _ (List.mem_append_right _ (List.mem_map.mpr ⟨j, List.mem_range.mpr hj, rfl⟩))
  obtain ⟨t, h1, h2⟩ := va_Tof (f := fun j => .int (f j)) (A := Az z) (N := 100) (by decide) m2 (va_eqt m3) (fun j hj => va_eqt (m4 j hj)) (nA hz)
  exact ⟨t, va_Zof hl hi h1 (nA hz), h2⟩
set_option maxRecDepth 20000 in
theorem va_eqr {args : Array Value} {s : State} {t u : Term} {a : Nat} (h : (Cond.eq t u).before args s = true) (h2 : u.eval args s none [] s = some (.ref a)) : t.eval args s none [] s = some (.ref a) := by
  cases hv : t.eval args s none [] s with
  | none => simp [Cond.before, Cond.holds, Cond.value, hv] at h
  | some w =>
    simp only [Cond.before, Cond.holds, Cond.value, hv, h2] at h
    cases w <;> simp_all
set_option maxRecDepth 20000 in
/-- a static array of String constants -/
theorem sst_ {z : Nat} (hz : z = s.heap.size) (hg : (Jvm.Cond.and given_1 narrow_1).before #[Value.ref b] s = true) (hts : ∀ w ∈ lw_tbl, w.before #[Value.ref b] s = true) {adK : Nat → Nat} (hk : ∀ i, i < 31 → (tmS i).eval #[Value.ref b] s none [] s = some (.ref (adK i))) {n : String} {N : Nat} {f : Nat → Nat}
    (he : ∀ j, j < N → ∃ (k i : Nat) (tx : String), (RL, k, tx) ∈ strL ∧ (RL, k, f j) ∈ strC ∧ NL[i]? = some (Cond.eq (.elem (.static RL n "[Ljava/lang/String;") (.int (Int32.ofNat j))) (.string RL k)))
    (hl : (Cond.laysStatic RL n "[Ljava/lang/String;").before #[Value.ref b] s = true) (hi : (Cond.initialized RL).before #[Value.ref b] s = true) (ha : (Cond.arrayOf (.static RL n "[Ljava/lang/String;") (.object RJ0)).before #[Value.ref b] s = true) (hn : (Cond.eq (.length (.static RL n "[Ljava/lang/String;")) (.int (Int32.ofNat N))).before #[Value.ref b] s = true) (hN : N < 2 ^ 31) :
    ∃ t, va_Z RL n "[Ljava/lang/String;" (.ref t) (Az z) s s.heap ∧ va_T (.object RJ0) t N (fun j => .ref (adK (f j))) (Az z) s s.heap := by
  obtain ⟨t, h1, h2⟩ := va_Tof (f := fun j => .ref (adK (f j))) (A := Az z) (N := N) hN ha (va_eqt hn) (fun j hj => by
    obtain ⟨k, i, tx, q1, q2, q3⟩ := he j hj
    have e1 := evS hg (q := (RL, k, tx)) q1
    have e2 : adS s RL k = adK (f j) := strC_ok hg hk (RL, k, f j) q2
    rw [e2] at e1
    exact va_eqr (nl_i hg q3) e1) (nA hz)
  exact ⟨t, va_Zof hl hi h1 (nA hz), h2⟩
set_option maxRecDepth 20000 in
theorem bk_start {z : Nat} (hz : z = s.heap.size) {L : Nat} {xs : Nat → Int32} (hX : va_X b L xs s s.heap) (hb : b < s.heap.size) (hg : (Jvm.Cond.and given_1 narrow_1).before #[Value.ref b] s = true) (hts : ∀ w ∈ lw_tbl, w.before #[Value.ref b] s = true) : ∃ D : DD, BK D z s ∧ D.2.2.2.2.2.2.1 = b ∧ D.2.2.2.2.2.2.2 = (L, xs) := by
  have hW := wall_ hts
  have hA := nA hz
  obtain ⟨dC, dI, hK⟩ := kn_ hW
  obtain ⟨a0, g0, k0⟩ := arP (ty := .int) (fun _ h => by cases h) (hW _ ar_int)
  obtain ⟨a1, g1, k1⟩ := arP (ty := .byte) (fun _ h => by cases h) (hW _ ar_byte)
  obtain ⟨a2, g2, k2⟩ := arP (ty := .int) (fun _ h => by cases h) (hW _ ar_int)
  obtain ⟨a3, g3, k3⟩ := arP (ty := .boolean) (fun _ h => by cases h) (hW _ ar_boolean)
  have o4 : (Cond.arrayOver (.object RX6)).before #[Value.ref b] s = true := hts _ (tl_ (i := 154) (by decide +kernel))
  have o5 : (Cond.arrayOver (.object RX9)).before #[Value.ref b] s = true := hts _ (tl_ (i := 228) (by decide +kernel))
  have o6 : (Cond.arrayOver (.object RX7)).before #[Value.ref b] s = true := hts _ (tl_ (i := 230) (by decide +kernel))
  have o7 : (Cond.arrayOver (.object RX0)).before #[Value.ref b] s = true := hts _ (tl_ (i := 365) (by decide +kernel))
  obtain ⟨a4, g4, k4⟩ := arO o4
  obtain ⟨a5, g5, k5⟩ := arO o5
  obtain ⟨a6, g6, k6⟩ := arO o6
  obtain ⟨a7, g7, k7⟩ := arO o7
  obtain ⟨adK, adV, hS, hev⟩ := vkS hz hg
  refine ⟨(dC, dI, fun t => [a0, a1, a2, a3, a4, a5, a6, a7].getD t a0, adK, adV, adS s, b, L, xs), ⟨⟨hK, fun t q hq => ?_⟩, fun w hw => ?_, fun q hq => vk_R.of (srS hts hq) (evS hg hq), fun q hq => strC_ok hg hev q hq, hS, ?_, ?_, ?_, ?_, ?_, ?_, ?_, ?_, ⟨hX, hb, hA b hb⟩, ?_, ?_⟩, rfl, rfl⟩
  · match t, hq with
    | 0, hq => cases hq; exact ⟨g0, k0⟩
    | 1, hq => cases hq; exact ⟨g1, k1⟩
    | 2, hq => cases hq; exact ⟨g2, k2⟩
    | 3, hq => cases hq; exact ⟨g3, k3⟩
    | 4, hq => cases hq; exact ⟨g4, k4⟩
    | 5, hq => cases hq; exact ⟨g5, k5⟩
    | 6, hq => cases hq; exact ⟨g6, k6⟩
    | 7, hq => cases hq; exact ⟨g7, k7⟩
    | t + 8, hq => simp [tysD] at hq
  · have hm := List.mem_filter.mp hw
    have hn := hm.2
    exact va_Nw.of (by cases w <;> first | rfl | exact absurd hn (by simp [isNest])) (hts w hm.1)
  · exact vx_Zqof (hts _ (tl_ (i := 897) (by decide +kernel))) (hts _ (tl_ (i := 25) (by decide +kernel))) (nl_i hg (i := 9) (by decide +kernel)) hA
  · exact vx_Zqof (hts _ (tl_ (i := 899) (by decide +kernel))) (hts _ (tl_ (i := 25) (by decide +kernel))) (nl_i hg (i := 10) (by decide +kernel)) hA
  · exact va_Zof (hts _ (tl_ (i := 388) (by decide +kernel))) (hts _ (tl_ (i := 15) (by decide +kernel))) (va_eqi (nl_i hg (i := 4) (by decide +kernel))) hA
  · exact va_Zqof (hts _ (tl_ (i := 439) (by decide +kernel))) (hts _ (tl_ (i := 18) (by decide +kernel))) (nl_i hg (i := 5) (by decide +kernel)) hA
  · intro q hq
    exact absurd hq (by simp [ncL])
  · intro C hC
    simp only [aoL, List.mem_cons, List.not_mem_nil, or_false] at hC
    rcases hC with rfl | rfl | rfl | rfl
    · exact va_AO.of o4
    · exact va_AO.of o5
    · exact va_AO.of o6
    · exact va_AO.of o7
  · exact dig_ hz hg digT (hts _ (tl_ (i := 1072) (by decide +kernel))) (hts _ (tl_ (i := 24) (by decide +kernel)))
  · exact dig_ hz hg digO (hts _ (tl_ (i := 1070) (by decide +kernel))) (hts _ (tl_ (i := 24) (by decide +kernel)))
  · exact sst_ (n := "WINES") (f := winS) (N := 3) hz hg hts hev (fun j hj => by
      match j, hj with
      | 0, _ => exact ⟨392, 220, "red", by decide +kernel, by decide +kernel, by decide +kernel⟩
      | 1, _ => exact ⟨394, 221, "rose", by decide +kernel, by decide +kernel, by decide +kernel⟩
      | 2, _ => exact ⟨396, 222, "tank", by decide +kernel, by decide +kernel, by decide +kernel⟩
      | j + 3, hj => omega) (hts _ (tl_ (i := 1166) (by decide +kernel))) (hts _ (tl_ (i := 0) (by decide +kernel))) (nl_i hg (i := 218) (by decide +kernel)) (nl_i hg (i := 219) (by decide +kernel)) (by decide)
  · exact sst_ (n := "GROWERS") (f := groS) (N := 4) hz hg hts hev (fun j hj => by
      match j, hj with
      | 0, _ => exact ⟨397, 226, "ann", by decide +kernel, by decide +kernel, by decide +kernel⟩
      | 1, _ => exact ⟨399, 227, "pay", by decide +kernel, by decide +kernel, by decide +kernel⟩
      | 2, _ => exact ⟨401, 228, "c", by decide +kernel, by decide +kernel, by decide +kernel⟩
      | 3, _ => exact ⟨403, 229, "load", by decide +kernel, by decide +kernel, by decide +kernel⟩
      | j + 4, hj => omega) (hts _ (tl_ (i := 1176) (by decide +kernel))) (hts _ (tl_ (i := 0) (by decide +kernel))) (nl_i hg (i := 224) (by decide +kernel)) (nl_i hg (i := 225) (by decide +kernel)) (by decide)
end START
