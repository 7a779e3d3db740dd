/-! small facts that the walks name -/
theorem le_ {a b : Nat} (h : Nat.ble a b = true) : a ≤ b := Nat.le_of_ble_eq_true h
theorem lt_ {a b : Nat} (h : Nat.ble (a + 1) b = true) : a < b := Nat.le_of_ble_eq_true h
def gd {α : Type} (c : Prop) [Decidable c] (a : Option α) : Option α := if c then a else none
theorem gd_e {α : Type} {c : Prop} [Decidable c] {a : Option α} {r : α} (h : gd c a = some r) : c ∧ a = some r := by
  unfold gd at h
  by_cases hc : c
  · rw [if_pos hc] at h
    exact ⟨hc, h⟩
  · rw [if_neg hc] at h
    cases h
def bnd {α β : Type} (a : α) (k : α → β) : β := k a
theorem bnd_e {α β : Type} {a : α} {k : α → Option β} {r : β} (h : bnd a k = some r) : ∃ x, x = a ∧ k x = some r := ⟨a, rfl, h⟩
def bn1 {α β : Type} (a : Option α) (k : α → Option β) : Option β := match a with
  | none => none
  | some x => k x
theorem bn1_e {α β : Type} {a : Option α} {k : α → Option β} {r : β} (h : bn1 a k = some r) : ∃ x, a = some x ∧ k x = some r := by
  cases a with
  | none => cases h
  | some x => exact ⟨x, rfl, h⟩
def bn2 {α γ β : Type} (a : Option (α × γ)) (k : α → γ → Option β) : Option β := match a with
  | none => none
  | some q => k q.1 q.2
theorem bn2_e {α γ β : Type} {a : Option (α × γ)} {k : α → γ → Option β} {r : β} (h : bn2 a k = some r) : ∃ x y, a = some (x, y) ∧ k x y = some r := by
  cases a with
  | none => cases h
  | some q => exact ⟨q.1, q.2, rfl, h⟩
theorem none_e {α : Type} {r : α} {P : Prop} (h : (none : Option α) = some r) : P := by cases h
theorem nz_ {v : Int32} (h : v &&& 1 = v) : narrow .boolean (.int v) = .int v := by
  show Value.int _ = _
  exact congrArg Value.int h
theorem fz_ {v : Int32} (h : v &&& 1 = v) : narrow .boolean (.int v) = .int v ∧ fits .boolean (.int v) = true := ⟨nz_ h, by have := fits_narrow_boolean v; rwa [nz_ h] at this⟩
theorem hb2 {q : Int32} (h : vp_in q 6) : 2 + q.toNatClampNeg < 10 := by have := in_cl h; omega
theorem hb8 {q : Int32} (h : vp_in q 2) : 8 + q.toNatClampNeg < 10 := by have := in_cl h; omega
theorem z_ge : ∀ {z a : Nat}, z ≤ z + a := Nat.le_add_right _ _
theorem jl0 : (0 : Nat) < 10 := by decide
theorem jl1 : (1 : Nat) < 10 := by decide
theorem ok0 : okX 0 0 0 := Or.inl ⟨by decide, rfl, rfl⟩
theorem ok1 : okX 1 0 0 := Or.inl ⟨by decide, rfl, rfl⟩
theorem ok2 : okX 2 0 0 := Or.inl ⟨by decide, rfl, rfl⟩
theorem ok3 : okX 3 0 0 := Or.inl ⟨by decide, rfl, rfl⟩
theorem ok4 : okX 4 0 0 := Or.inl ⟨by decide, rfl, rfl⟩
theorem ok5 : okX 5 0 0 := Or.inl ⟨by decide, rfl, rfl⟩
theorem ok6 : okX 6 0 0 := Or.inl ⟨by decide, rfl, rfl⟩
theorem ok7 : okX 7 0 0 := Or.inl ⟨by decide, rfl, rfl⟩
theorem okb10 {j : Nat} (h : j < 10) : okX 10 j 0 := Or.inr ⟨by decide, by decide, h, by decide⟩
theorem okb11 {j : Nat} (h : j < 10) : okX 11 j 0 := Or.inr ⟨by decide, by decide, h, by decide⟩
theorem okb12 {j : Nat} (h : j < 10) : okX 12 j 0 := Or.inr ⟨by decide, by decide, h, by decide⟩
theorem okb13 {j : Nat} (h : j < 10) : okX 13 j 0 := Or.inr ⟨by decide, by decide, h, by decide⟩
theorem okb14 {j : Nat} (h : j < 10) : okX 14 j 0 := Or.inr ⟨by decide, by decide, h, by decide⟩
theorem okb15 {j : Nat} (h : j < 10) : okX 15 j 0 := Or.inr ⟨by decide, by decide, h, by decide⟩
theorem okb16 {j : Nat} (h : j < 10) : okX 16 j 0 := Or.inr ⟨by decide, by decide, h, by decide⟩
theorem okb17 {j : Nat} (h : j < 10) : okX 17 j 0 := Or.inr ⟨by decide, by decide, h, by decide⟩
theorem okb18 {j : Nat} (h : j < 10) : okX 18 j 0 := Or.inr ⟨by decide, by decide, h, by decide⟩
theorem okb19 {j : Nat} (h : j < 10) : okX 19 j 0 := Or.inr ⟨by decide, by decide, h, by decide⟩
theorem okb20 {j : Nat} (h : j < 10) : okX 20 j 0 := Or.inr ⟨by decide, by decide, h, by decide⟩
theorem okb21 {j : Nat} (h : j < 10) : okX 21 j 0 := Or.inr ⟨by decide, by decide, h, by decide⟩
theorem okb23 {j : Nat} (h : j < 10) : okX 23 j 0 := Or.inr ⟨by decide, by decide, h, by decide⟩
theorem okb24 {j : Nat} (h : j < 10) : okX 24 j 0 := Or.inr ⟨by decide, by decide, h, by decide⟩
theorem okb25 {j : Nat} (h : j < 10) : okX 25 j 0 := Or.inr ⟨by decide, by decide, h, by decide⟩
theorem okb22 {j i : Nat} (h : j < 10) (hi : i < 20) : okX 22 j i := Or.inr ⟨by decide, by decide, h, hi⟩
theorem okb26 {j i : Nat} (h : j < 10) (hi : i < 5) : okX 26 j i := Or.inr ⟨by decide, by decide, h, hi⟩
theorem okb27 {j i : Nat} (h : j < 10) (hi : i < 12) : okX 27 j i := Or.inr ⟨by decide, by decide, h, hi⟩
section FE
variable {D : DD} {z j : Nat} {x : Nat → Int32}
theorem ent0 : entX D z 0 j x = .inr (0, fs0 z) := rfl
theorem ent1 : entX D z 1 j x = .inr (1, fs1 z x) := rfl
theorem ent2 : entX D z 2 j x = .inr (2, fs2 z x) := rfl
theorem ent3 : entX D z 3 j x = aint D 1 600 x := rfl
theorem ent4 : entX D z 4 j x = .inr (3, fs4 z x) := rfl
theorem ent5 : entX D z 5 j x = aref D 7 6 (fun q => z + aX 10 (2 + q) 0) := rfl
theorem ent6 : entX D z 6 j x = aref D 7 2 (fun q => z + aX 10 (8 + q) 0) := rfl
theorem ent7 : entX D z 7 j x = aint D 3 2 x := rfl
theorem ent10 : entX D z 10 j x = .inr (4, fs10 z j x) := rfl
theorem ent11 : entX D z 11 j x = .inr (5, fs11 z j x) := rfl
theorem ent12 : entX D z 12 j x = aint D 0 4 x := rfl
theorem ent13 : entX D z 13 j x = aint D 0 4 x := rfl
theorem ent14 : entX D z 14 j x = aint D 0 16 x := rfl
theorem ent15 : entX D z 15 j x = .inr (6, fs15 z j x) := rfl
theorem ent16 : entX D z 16 j x = aint D 0 6 x := rfl
theorem ent17 : entX D z 17 j x = aint D 0 8 x := rfl
theorem ent18 : entX D z 18 j x = aint D 0 8 x := rfl
theorem ent19 : entX D z 19 j x = aint D 0 8 x := rfl
theorem ent20 : entX D z 20 j x = .inr (7, fs20 z j x) := rfl
theorem ent21 : entX D z 21 j x = aref D 4 20 (fun q => z + aX 22 j q) := rfl
theorem ent22 : entX D z 22 j x = .inr (8, fs22 x) := rfl
theorem ent23 : entX D z 23 j x = .inr (9, fs23 z j x) := rfl
theorem ent24 : entX D z 24 j x = aref D 5 5 (fun q => z + aX 26 j q) := rfl
theorem ent25 : entX D z 25 j x = aref D 6 12 (fun q => z + aX 27 j q) := rfl
theorem ent26 : entX D z 26 j x = .inr (10, fs26 x) := rfl
theorem ent27 : entX D z 27 j x = .inr (11, fs26 x) := rfl
theorem pe1_2 {v : Int32} : entX D z 1 j (upd x 2 v) = .inr (1, (fs1 z x).set 2 (.int v)) := rfl
theorem pe1_3 {v : Int32} : entX D z 1 j (upd x 3 v) = .inr (1, (fs1 z x).set 3 (.int v)) := rfl
theorem pe1_4 {v : Int32} : entX D z 1 j (upd x 4 v) = .inr (1, (fs1 z x).set 4 (.int v)) := rfl
theorem pe2_1 {v : Int32} : entX D z 2 j (upd x 1 v) = .inr (2, (fs2 z x).set 1 (.int v)) := rfl
theorem pe2_2 {v : Int32} : entX D z 2 j (upd x 2 v) = .inr (2, (fs2 z x).set 2 (.int v)) := rfl
theorem pe2_3 {v : Int32} : entX D z 2 j (upd x 3 v) = .inr (2, (fs2 z x).set 3 (.int v)) := rfl
theorem pe2_4 {v : Int32} : entX D z 2 j (upd x 4 v) = .inr (2, (fs2 z x).set 4 (.int v)) := rfl
theorem pe2_5 {v : Int32} : entX D z 2 j (upd x 5 v) = .inr (2, (fs2 z x).set 5 (.int v)) := rfl
theorem pe2_6 {v : Int32} : entX D z 2 j (upd x 6 v) = .inr (2, (fs2 z x).set 6 (.int v)) := rfl
theorem pe4_1 {v : Int32} : entX D z 4 j (upd x 1 v) = .inr (3, (fs4 z x).set 1 (.int v)) := rfl
theorem pe4_2 {v : Int32} : entX D z 4 j (upd x 2 v) = .inr (3, (fs4 z x).set 2 (.int v)) := rfl
theorem pe10_4 {v : Int32} : entX D z 10 j (upd x 4 v) = .inr (4, (fs10 z j x).set 4 (.int v)) := rfl
theorem pe10_5 {v : Int32} : entX D z 10 j (upd x 5 v) = .inr (4, (fs10 z j x).set 5 (.int v)) := rfl
theorem pe10_6 {v : Int32} : entX D z 10 j (upd x 6 v) = .inr (4, (fs10 z j x).set 6 (.int v)) := rfl
theorem pe11_3 {v : Int32} : entX D z 11 j (upd x 3 v) = .inr (5, (fs11 z j x).set 3 (.int v)) := rfl
theorem pe11_4 {v : Int32} : entX D z 11 j (upd x 4 v) = .inr (5, (fs11 z j x).set 4 (.int v)) := rfl
theorem pe15_4 {v : Int32} : entX D z 15 j (upd x 4 v) = .inr (6, (fs15 z j x).set 4 (.int v)) := rfl
theorem pe15_5 {v : Int32} : entX D z 15 j (upd x 5 v) = .inr (6, (fs15 z j x).set 5 (.int v)) := rfl
theorem pe20_1 {v : Int32} : entX D z 20 j (upd x 1 v) = .inr (7, (fs20 z j x).set 1 (.int v)) := rfl
theorem pe22_0 {v : Int32} : entX D z 22 j (upd x 0 v) = .inr (8, (fs22 x).set 0 (.int v)) := rfl
theorem pe22_1 {v : Int32} : entX D z 22 j (upd x 1 v) = .inr (8, (fs22 x).set 1 (.int v)) := rfl
theorem pe22_2 {v : Int32} : entX D z 22 j (upd x 2 v) = .inr (8, (fs22 x).set 2 (.int v)) := rfl
theorem pe22_3 {v : Int32} : entX D z 22 j (upd x 3 v) = .inr (8, (fs22 x).set 3 (.int v)) := rfl
theorem pe22_4 {v : Int32} : entX D z 22 j (upd x 4 v) = .inr (8, (fs22 x).set 4 (.int v)) := rfl
theorem pe22_5 {v : Int32} : entX D z 22 j (upd x 5 v) = .inr (8, (fs22 x).set 5 (.int v)) := rfl
theorem pe22_6 {v : Int32} : entX D z 22 j (upd x 6 v) = .inr (8, (fs22 x).set 6 (.int v)) := rfl
theorem pe22_7 {v : Int32} : entX D z 22 j (upd x 7 v) = .inr (8, (fs22 x).set 7 (.int v)) := rfl
theorem pe22_8 {v : Int32} : entX D z 22 j (upd x 8 v) = .inr (8, (fs22 x).set 8 (.int v)) := rfl
theorem pe23_2 {v : Int32} : entX D z 23 j (upd x 2 v) = .inr (9, (fs23 z j x).set 2 (.int v)) := rfl
theorem pe23_3 {v : Int32} : entX D z 23 j (upd x 3 v) = .inr (9, (fs23 z j x).set 3 (.int v)) := rfl
theorem pe26_0 {v : Int32} : entX D z 26 j (upd x 0 v) = .inr (10, (fs26 x).set 0 (.int v)) := rfl
theorem pe26_1 {v : Int32} : entX D z 26 j (upd x 1 v) = .inr (10, (fs26 x).set 1 (.int v)) := rfl
theorem pe26_2 {v : Int32} : entX D z 26 j (upd x 2 v) = .inr (10, (fs26 x).set 2 (.int v)) := rfl
theorem pe26_3 {v : Int32} : entX D z 26 j (upd x 3 v) = .inr (10, (fs26 x).set 3 (.int v)) := rfl
theorem pe27_0 {v : Int32} : entX D z 27 j (upd x 0 v) = .inr (11, (fs26 x).set 0 (.int v)) := rfl
theorem pe27_1 {v : Int32} : entX D z 27 j (upd x 1 v) = .inr (11, (fs26 x).set 1 (.int v)) := rfl
theorem pe27_2 {v : Int32} : entX D z 27 j (upd x 2 v) = .inr (11, (fs26 x).set 2 (.int v)) := rfl
theorem pe27_3 {v : Int32} : entX D z 27 j (upd x 3 v) = .inr (11, (fs26 x).set 3 (.int v)) := rfl
end FE
theorem uw_X11 : ∀ w ∈ u_ws RX11 TX11 6, w ∈ Wall := by decide +kernel
theorem cf_X11 : CF 0 RX11 TX11 tyX11 6 := ⟨rfl, uw_X11, tyX11_ok, nmX11⟩
theorem pn_X11 : plainName RX11 = true := by decide +kernel
theorem uw_X8 : ∀ w ∈ u_ws RX8 TX8 5, w ∈ Wall := by decide +kernel
theorem cf_X8 : CF 1 RX8 TX8 tyX8 5 := ⟨rfl, uw_X8, tyX8_ok, nmX8⟩
theorem pn_X8 : plainName RX8 = true := by decide +kernel
theorem uw_X10 : ∀ w ∈ u_ws RX10 TX10 7, w ∈ Wall := by decide +kernel
theorem cf_X10 : CF 2 RX10 TX10 tyX10 7 := ⟨rfl, uw_X10, tyX10_ok, nmX10⟩
theorem pn_X10 : plainName RX10 = true := by decide +kernel
theorem uw_X4 : ∀ w ∈ u_ws RX4 TX4 3, w ∈ Wall := by decide +kernel
theorem cf_X4 : CF 3 RX4 TX4 tyX4 3 := ⟨rfl, uw_X4, tyX4_ok, nmX4⟩
theorem pn_X4 : plainName RX4 = true := by decide +kernel
theorem uw_X0 : ∀ w ∈ u_ws RX0 TX0 7, w ∈ Wall := by decide +kernel
theorem cf_X0 : CF 4 RX0 TX0 tyX0 7 := ⟨rfl, uw_X0, tyX0_ok, nmX0⟩
theorem pn_X0 : plainName RX0 = true := by decide +kernel
theorem uw_X1 : ∀ w ∈ u_ws RX1 TX1 5, w ∈ Wall := by decide +kernel
theorem cf_X1 : CF 5 RX1 TX1 tyX1 5 := ⟨rfl, uw_X1, tyX1_ok, nmX1⟩
theorem pn_X1 : plainName RX1 = true := by decide +kernel
theorem uw_X5 : ∀ w ∈ u_ws RX5 TX5 6, w ∈ Wall := by decide +kernel
theorem cf_X5 : CF 6 RX5 TX5 tyX5 6 := ⟨rfl, uw_X5, tyX5_ok, nmX5⟩
theorem pn_X5 : plainName RX5 = true := by decide +kernel
theorem uw_X3 : ∀ w ∈ u_ws RX3 TX3 2, w ∈ Wall := by decide +kernel
theorem cf_X3 : CF 7 RX3 TX3 tyX3 2 := ⟨rfl, uw_X3, tyX3_ok, nmX3⟩
theorem pn_X3 : plainName RX3 = true := by decide +kernel
theorem uw_X6 : ∀ w ∈ u_ws RX6 TX6 9, w ∈ Wall := by decide +kernel
theorem cf_X6 : CF 8 RX6 TX6 tyX6 9 := ⟨rfl, uw_X6, tyX6_ok, nmX6⟩
theorem pn_X6 : plainName RX6 = true := by decide +kernel
theorem uw_X2 : ∀ w ∈ u_ws RX2 TX2 4, w ∈ Wall := by decide +kernel
theorem cf_X2 : CF 9 RX2 TX2 tyX2 4 := ⟨rfl, uw_X2, tyX2_ok, nmX2⟩
theorem pn_X2 : plainName RX2 = true := by decide +kernel
theorem uw_X9 : ∀ w ∈ u_ws RX9 TX9 4, w ∈ Wall := by decide +kernel
theorem cf_X9 : CF 10 RX9 TX9 tyX9 4 := ⟨rfl, uw_X9, tyX9_ok, nmX9⟩
theorem pn_X9 : plainName RX9 = true := by decide +kernel
theorem uw_X7 : ∀ w ∈ u_ws RX7 TX7 4, w ∈ Wall := by decide +kernel
theorem cf_X7 : CF 11 RX7 TX7 tyX7 4 := ⟨rfl, uw_X7, tyX7_ok, nmX7⟩
theorem pn_X7 : plainName RX7 = true := by decide +kernel
theorem pn_L : plainName RL = true := by decide +kernel
theorem pn_J0 : plainName RJ0 = true := by decide +kernel
theorem pn_J1 : plainName RJ1 = true := by decide +kernel
theorem pn_J2 : plainName RJ2 = true := by decide +kernel
theorem pn_J3 : plainName RJ3 = true := by decide +kernel
theorem pn_J4 : plainName RJ4 = true := by decide +kernel
theorem pn_J5 : plainName RJ5 = true := by decide +kernel
theorem pn_J6 : plainName RJ6 = true := by decide +kernel
theorem pn_J7 : plainName RJ7 = true := by decide +kernel
theorem pn_J8 : plainName RJ8 = true := by decide +kernel
theorem ic_m8 : Int32.ofInt (-8) = (-8) := by decide
theorem ic_m5 : Int32.ofInt (-5) = (-5) := by decide
theorem ic_m1 : Int32.ofInt (-1) = (-1) := by decide
theorem ic_0 : Int32.ofInt 0 = 0 := by decide
theorem ic_1 : Int32.ofInt 1 = 1 := by decide
theorem ic_2 : Int32.ofInt 2 = 2 := by decide
theorem ic_3 : Int32.ofInt 3 = 3 := by decide
theorem ic_4 : Int32.ofInt 4 = 4 := by decide
theorem ic_5 : Int32.ofInt 5 = 5 := by decide
theorem ic_6 : Int32.ofInt 6 = 6 := by decide
theorem bp_m100 : (Int8.ofInt (-100)).toInt32 = (-100) := by decide
theorem bp_m99 : (Int8.ofInt (-99)).toInt32 = (-99) := by decide
theorem bp_m10 : (Int8.ofInt (-10)).toInt32 = (-10) := by decide
theorem bp_m9 : (Int8.ofInt (-9)).toInt32 = (-9) := by decide
theorem bp_m7 : (Int8.ofInt (-7)).toInt32 = (-7) := by decide
theorem bp_6 : (Int8.ofInt 6).toInt32 = 6 := by decide
theorem bp_7 : (Int8.ofInt 7).toInt32 = 7 := by decide
theorem bp_8 : (Int8.ofInt 8).toInt32 = 8 := by decide
theorem bp_9 : (Int8.ofInt 9).toInt32 = 9 := by decide
theorem bp_10 : (Int8.ofInt 10).toInt32 = 10 := by decide
theorem bp_12 : (Int8.ofInt 12).toInt32 = 12 := by decide
theorem bp_13 : (Int8.ofInt 13).toInt32 = 13 := by decide
theorem bp_15 : (Int8.ofInt 15).toInt32 = 15 := by decide
theorem bp_16 : (Int8.ofInt 16).toInt32 = 16 := by decide
theorem bp_18 : (Int8.ofInt 18).toInt32 = 18 := by decide
theorem bp_19 : (Int8.ofInt 19).toInt32 = 19 := by decide
theorem bp_20 : (Int8.ofInt 20).toInt32 = 20 := by decide
theorem bp_21 : (Int8.ofInt 21).toInt32 = 21 := by decide
theorem bp_24 : (Int8.ofInt 24).toInt32 = 24 := by decide
theorem bp_25 : (Int8.ofInt 25).toInt32 = 25 := by decide
theorem bp_26 : (Int8.ofInt 26).toInt32 = 26 := by decide
theorem bp_30 : (Int8.ofInt 30).toInt32 = 30 := by decide
theorem bp_31 : (Int8.ofInt 31).toInt32 = 31 := by decide
theorem bp_32 : (Int8.ofInt 32).toInt32 = 32 := by decide
theorem bp_35 : (Int8.ofInt 35).toInt32 = 35 := by decide
theorem bp_40 : (Int8.ofInt 40).toInt32 = 40 := by decide
theorem bp_42 : (Int8.ofInt 42).toInt32 = 42 := by decide
theorem bp_43 : (Int8.ofInt 43).toInt32 = 43 := by decide
theorem bp_45 : (Int8.ofInt 45).toInt32 = 45 := by decide
theorem bp_48 : (Int8.ofInt 48).toInt32 = 48 := by decide
theorem bp_50 : (Int8.ofInt 50).toInt32 = 50 := by decide
theorem bp_57 : (Int8.ofInt 57).toInt32 = 57 := by decide
theorem bp_59 : (Int8.ofInt 59).toInt32 = 59 := by decide
theorem bp_60 : (Int8.ofInt 60).toInt32 = 60 := by decide
theorem bp_63 : (Int8.ofInt 63).toInt32 = 63 := by decide
theorem bp_90 : (Int8.ofInt 90).toInt32 = 90 := by decide
theorem bp_97 : (Int8.ofInt 97).toInt32 = 97 := by decide
theorem bp_99 : (Int8.ofInt 99).toInt32 = 99 := by decide
theorem bp_100 : (Int8.ofInt 100).toInt32 = 100 := by decide
theorem bp_108 : (Int8.ofInt 108).toInt32 = 108 := by decide
theorem bp_110 : (Int8.ofInt 110).toInt32 = 110 := by decide
theorem bp_117 : (Int8.ofInt 117).toInt32 = 117 := by decide
theorem bp_122 : (Int8.ofInt 122).toInt32 = 122 := by decide
theorem sp_140 : (Int16.ofInt 140).toInt32 = 140 := by decide
theorem sp_190 : (Int16.ofInt 190).toInt32 = 190 := by decide
theorem sp_200 : (Int16.ofInt 200).toInt32 = 200 := by decide
theorem sp_250 : (Int16.ofInt 250).toInt32 = 250 := by decide
theorem sp_251 : (Int16.ofInt 251).toInt32 = 251 := by decide
theorem sp_255 : (Int16.ofInt 255).toInt32 = 255 := by decide
theorem sp_300 : (Int16.ofInt 300).toInt32 = 300 := by decide
theorem sp_400 : (Int16.ofInt 400).toInt32 = 400 := by decide
theorem sp_600 : (Int16.ofInt 600).toInt32 = 600 := by decide
theorem sp_700 : (Int16.ofInt 700).toInt32 = 700 := by decide
theorem sp_900 : (Int16.ofInt 900).toInt32 = 900 := by decide
theorem sp_999 : (Int16.ofInt 999).toInt32 = 999 := by decide
theorem sp_3000 : (Int16.ofInt 3000).toInt32 = 3000 := by decide
theorem sp_5000 : (Int16.ofInt 5000).toInt32 = 5000 := by decide
theorem sp_9999 : (Int16.ofInt 9999).toInt32 = 9999 := by decide
theorem sp_20000 : (Int16.ofInt 20000).toInt32 = 20000 := by decide
theorem sp_30000 : (Int16.ofInt 30000).toInt32 = 30000 := by decide
theorem tn_0 : (0 : Int32).toNatClampNeg = 0 := by decide
theorem vi_0 {n : Nat} (h : 0 < n) : vp_in 0 n := by
  unfold vp_in
  rw [tn_0]
  intro q
  rcases q with q | q
  · exact absurd q (by decide)
  · omega
theorem tn_1 : (1 : Int32).toNatClampNeg = 1 := by decide
theorem vi_1 {n : Nat} (h : 1 < n) : vp_in 1 n := by
  unfold vp_in
  rw [tn_1]
  intro q
  rcases q with q | q
  · exact absurd q (by decide)
  · omega
theorem tn_2 : (2 : Int32).toNatClampNeg = 2 := by decide
theorem vi_2 {n : Nat} (h : 2 < n) : vp_in 2 n := by
  unfold vp_in
  rw [tn_2]
  intro q
  rcases q with q | q
  · exact absurd q (by decide)
  · omega
theorem tn_3 : (3 : Int32).toNatClampNeg = 3 := by decide
theorem vi_3 {n : Nat} (h : 3 < n) : vp_in 3 n := by
  unfold vp_in
  rw [tn_3]
  intro q
  rcases q with q | q
  · exact absurd q (by decide)
  · omega
theorem tn_4 : (4 : Int32).toNatClampNeg = 4 := by decide
theorem vi_4 {n : Nat} (h : 4 < n) : vp_in 4 n := by
  unfold vp_in
  rw [tn_4]
  intro q
  rcases q with q | q
  · exact absurd q (by decide)
  · omega
theorem tn_5 : (5 : Int32).toNatClampNeg = 5 := by decide
theorem vi_5 {n : Nat} (h : 5 < n) : vp_in 5 n := by
  unfold vp_in
  rw [tn_5]
  intro q
  rcases q with q | q
  · exact absurd q (by decide)
  · omega
theorem tn_6 : (6 : Int32).toNatClampNeg = 6 := by decide
theorem vi_6 {n : Nat} (h : 6 < n) : vp_in 6 n := by
  unfold vp_in
  rw [tn_6]
  intro q
  rcases q with q | q
  · exact absurd q (by decide)
  · omega
theorem tn_7 : (7 : Int32).toNatClampNeg = 7 := by decide
theorem vi_7 {n : Nat} (h : 7 < n) : vp_in 7 n := by
  unfold vp_in
  rw [tn_7]
  intro q
  rcases q with q | q
  · exact absurd q (by decide)
  · omega
theorem tn_8 : (8 : Int32).toNatClampNeg = 8 := by decide
theorem vi_8 {n : Nat} (h : 8 < n) : vp_in 8 n := by
  unfold vp_in
  rw [tn_8]
  intro q
  rcases q with q | q
  · exact absurd q (by decide)
  · omega
theorem tn_9 : (9 : Int32).toNatClampNeg = 9 := by decide
theorem vi_9 {n : Nat} (h : 9 < n) : vp_in 9 n := by
  unfold vp_in
  rw [tn_9]
  intro q
  rcases q with q | q
  · exact absurd q (by decide)
  · omega
theorem tn_10 : (10 : Int32).toNatClampNeg = 10 := by decide
theorem vi_10 {n : Nat} (h : 10 < n) : vp_in 10 n := by
  unfold vp_in
  rw [tn_10]
  intro q
  rcases q with q | q
  · exact absurd q (by decide)
  · omega
theorem tn_12 : (12 : Int32).toNatClampNeg = 12 := by decide
theorem vi_12 {n : Nat} (h : 12 < n) : vp_in 12 n := by
  unfold vp_in
  rw [tn_12]
  intro q
  rcases q with q | q
  · exact absurd q (by decide)
  · omega
theorem tn_13 : (13 : Int32).toNatClampNeg = 13 := by decide
theorem vi_13 {n : Nat} (h : 13 < n) : vp_in 13 n := by
  unfold vp_in
  rw [tn_13]
  intro q
  rcases q with q | q
  · exact absurd q (by decide)
  · omega
theorem tn_15 : (15 : Int32).toNatClampNeg = 15 := by decide
theorem vi_15 {n : Nat} (h : 15 < n) : vp_in 15 n := by
  unfold vp_in
  rw [tn_15]
  intro q
  rcases q with q | q
  · exact absurd q (by decide)
  · omega
theorem tn_16 : (16 : Int32).toNatClampNeg = 16 := by decide
theorem vi_16 {n : Nat} (h : 16 < n) : vp_in 16 n := by
  unfold vp_in
  rw [tn_16]
  intro q
  rcases q with q | q
  · exact absurd q (by decide)
  · omega
theorem tn_18 : (18 : Int32).toNatClampNeg = 18 := by decide
theorem vi_18 {n : Nat} (h : 18 < n) : vp_in 18 n := by
  unfold vp_in
  rw [tn_18]
  intro q
  rcases q with q | q
  · exact absurd q (by decide)
  · omega
theorem tn_19 : (19 : Int32).toNatClampNeg = 19 := by decide
theorem vi_19 {n : Nat} (h : 19 < n) : vp_in 19 n := by
  unfold vp_in
  rw [tn_19]
  intro q
  rcases q with q | q
  · exact absurd q (by decide)
  · omega
theorem tn_20 : (20 : Int32).toNatClampNeg = 20 := by decide
theorem vi_20 {n : Nat} (h : 20 < n) : vp_in 20 n := by
  unfold vp_in
  rw [tn_20]
  intro q
  rcases q with q | q
  · exact absurd q (by decide)
  · omega
theorem tn_21 : (21 : Int32).toNatClampNeg = 21 := by decide
theorem vi_21 {n : Nat} (h : 21 < n) : vp_in 21 n := by
  unfold vp_in
  rw [tn_21]
  intro q
  rcases q with q | q
  · exact absurd q (by decide)
  · omega
theorem tn_24 : (24 : Int32).toNatClampNeg = 24 := by decide
theorem vi_24 {n : Nat} (h : 24 < n) : vp_in 24 n := by
  unfold vp_in
  rw [tn_24]
  intro q
  rcases q with q | q
  · exact absurd q (by decide)
  · omega
theorem tn_25 : (25 : Int32).toNatClampNeg = 25 := by decide
theorem vi_25 {n : Nat} (h : 25 < n) : vp_in 25 n := by
  unfold vp_in
  rw [tn_25]
  intro q
  rcases q with q | q
  · exact absurd q (by decide)
  · omega
theorem tn_26 : (26 : Int32).toNatClampNeg = 26 := by decide
theorem vi_26 {n : Nat} (h : 26 < n) : vp_in 26 n := by
  unfold vp_in
  rw [tn_26]
  intro q
  rcases q with q | q
  · exact absurd q (by decide)
  · omega
theorem tn_30 : (30 : Int32).toNatClampNeg = 30 := by decide
theorem vi_30 {n : Nat} (h : 30 < n) : vp_in 30 n := by
  unfold vp_in
  rw [tn_30]
  intro q
  rcases q with q | q
  · exact absurd q (by decide)
  · omega
theorem tn_31 : (31 : Int32).toNatClampNeg = 31 := by decide
theorem vi_31 {n : Nat} (h : 31 < n) : vp_in 31 n := by
  unfold vp_in
  rw [tn_31]
  intro q
  rcases q with q | q
  · exact absurd q (by decide)
  · omega
theorem tn_32 : (32 : Int32).toNatClampNeg = 32 := by decide
theorem vi_32 {n : Nat} (h : 32 < n) : vp_in 32 n := by
  unfold vp_in
  rw [tn_32]
  intro q
  rcases q with q | q
  · exact absurd q (by decide)
  · omega
theorem tn_35 : (35 : Int32).toNatClampNeg = 35 := by decide
theorem vi_35 {n : Nat} (h : 35 < n) : vp_in 35 n := by
  unfold vp_in
  rw [tn_35]
  intro q
  rcases q with q | q
  · exact absurd q (by decide)
  · omega
theorem tn_40 : (40 : Int32).toNatClampNeg = 40 := by decide
theorem vi_40 {n : Nat} (h : 40 < n) : vp_in 40 n := by
  unfold vp_in
  rw [tn_40]
  intro q
  rcases q with q | q
  · exact absurd q (by decide)
  · omega
theorem tn_42 : (42 : Int32).toNatClampNeg = 42 := by decide
theorem vi_42 {n : Nat} (h : 42 < n) : vp_in 42 n := by
  unfold vp_in
  rw [tn_42]
  intro q
  rcases q with q | q
  · exact absurd q (by decide)
  · omega
theorem tn_43 : (43 : Int32).toNatClampNeg = 43 := by decide
theorem vi_43 {n : Nat} (h : 43 < n) : vp_in 43 n := by
  unfold vp_in
  rw [tn_43]
  intro q
  rcases q with q | q
  · exact absurd q (by decide)
  · omega
theorem tn_45 : (45 : Int32).toNatClampNeg = 45 := by decide
theorem vi_45 {n : Nat} (h : 45 < n) : vp_in 45 n := by
  unfold vp_in
  rw [tn_45]
  intro q
  rcases q with q | q
  · exact absurd q (by decide)
  · omega
theorem tn_48 : (48 : Int32).toNatClampNeg = 48 := by decide
theorem vi_48 {n : Nat} (h : 48 < n) : vp_in 48 n := by
  unfold vp_in
  rw [tn_48]
  intro q
  rcases q with q | q
  · exact absurd q (by decide)
  · omega
theorem tn_50 : (50 : Int32).toNatClampNeg = 50 := by decide
theorem vi_50 {n : Nat} (h : 50 < n) : vp_in 50 n := by
  unfold vp_in
  rw [tn_50]
  intro q
  rcases q with q | q
  · exact absurd q (by decide)
  · omega
theorem tn_57 : (57 : Int32).toNatClampNeg = 57 := by decide
theorem vi_57 {n : Nat} (h : 57 < n) : vp_in 57 n := by
  unfold vp_in
  rw [tn_57]
  intro q
  rcases q with q | q
  · exact absurd q (by decide)
  · omega
theorem tn_59 : (59 : Int32).toNatClampNeg = 59 := by decide
theorem vi_59 {n : Nat} (h : 59 < n) : vp_in 59 n := by
  unfold vp_in
  rw [tn_59]
  intro q
  rcases q with q | q
  · exact absurd q (by decide)
  · omega
theorem tn_60 : (60 : Int32).toNatClampNeg = 60 := by decide
theorem vi_60 {n : Nat} (h : 60 < n) : vp_in 60 n := by
  unfold vp_in
  rw [tn_60]
  intro q
  rcases q with q | q
  · exact absurd q (by decide)
  · omega
theorem tn_63 : (63 : Int32).toNatClampNeg = 63 := by decide
theorem vi_63 {n : Nat} (h : 63 < n) : vp_in 63 n := by
  unfold vp_in
  rw [tn_63]
  intro q
  rcases q with q | q
  · exact absurd q (by decide)
  · omega
theorem tn_90 : (90 : Int32).toNatClampNeg = 90 := by decide
theorem vi_90 {n : Nat} (h : 90 < n) : vp_in 90 n := by
  unfold vp_in
  rw [tn_90]
  intro q
  rcases q with q | q
  · exact absurd q (by decide)
  · omega
theorem tn_97 : (97 : Int32).toNatClampNeg = 97 := by decide
theorem vi_97 {n : Nat} (h : 97 < n) : vp_in 97 n := by
  unfold vp_in
  rw [tn_97]
  intro q
  rcases q with q | q
  · exact absurd q (by decide)
  · omega
theorem tn_99 : (99 : Int32).toNatClampNeg = 99 := by decide
theorem vi_99 {n : Nat} (h : 99 < n) : vp_in 99 n := by
  unfold vp_in
  rw [tn_99]
  intro q
  rcases q with q | q
  · exact absurd q (by decide)
  · omega
theorem tn_100 : (100 : Int32).toNatClampNeg = 100 := by decide
theorem vi_100 {n : Nat} (h : 100 < n) : vp_in 100 n := by
  unfold vp_in
  rw [tn_100]
  intro q
  rcases q with q | q
  · exact absurd q (by decide)
  · omega
theorem tn_108 : (108 : Int32).toNatClampNeg = 108 := by decide
theorem vi_108 {n : Nat} (h : 108 < n) : vp_in 108 n := by
  unfold vp_in
  rw [tn_108]
  intro q
  rcases q with q | q
  · exact absurd q (by decide)
  · omega
theorem tn_110 : (110 : Int32).toNatClampNeg = 110 := by decide
theorem vi_110 {n : Nat} (h : 110 < n) : vp_in 110 n := by
  unfold vp_in
  rw [tn_110]
  intro q
  rcases q with q | q
  · exact absurd q (by decide)
  · omega
theorem tn_117 : (117 : Int32).toNatClampNeg = 117 := by decide
theorem vi_117 {n : Nat} (h : 117 < n) : vp_in 117 n := by
  unfold vp_in
  rw [tn_117]
  intro q
  rcases q with q | q
  · exact absurd q (by decide)
  · omega
theorem tn_122 : (122 : Int32).toNatClampNeg = 122 := by decide
theorem vi_122 {n : Nat} (h : 122 < n) : vp_in 122 n := by
  unfold vp_in
  rw [tn_122]
  intro q
  rcases q with q | q
  · exact absurd q (by decide)
  · omega
theorem tn_140 : (140 : Int32).toNatClampNeg = 140 := by decide
theorem vi_140 {n : Nat} (h : 140 < n) : vp_in 140 n := by
  unfold vp_in
  rw [tn_140]
  intro q
  rcases q with q | q
  · exact absurd q (by decide)
  · omega
theorem tn_190 : (190 : Int32).toNatClampNeg = 190 := by decide
theorem vi_190 {n : Nat} (h : 190 < n) : vp_in 190 n := by
  unfold vp_in
  rw [tn_190]
  intro q
  rcases q with q | q
  · exact absurd q (by decide)
  · omega
theorem tn_200 : (200 : Int32).toNatClampNeg = 200 := by decide
theorem vi_200 {n : Nat} (h : 200 < n) : vp_in 200 n := by
  unfold vp_in
  rw [tn_200]
  intro q
  rcases q with q | q
  · exact absurd q (by decide)
  · omega
theorem tn_250 : (250 : Int32).toNatClampNeg = 250 := by decide
theorem vi_250 {n : Nat} (h : 250 < n) : vp_in 250 n := by
  unfold vp_in
  rw [tn_250]
  intro q
  rcases q with q | q
  · exact absurd q (by decide)
  · omega
theorem tn_251 : (251 : Int32).toNatClampNeg = 251 := by decide
theorem vi_251 {n : Nat} (h : 251 < n) : vp_in 251 n := by
  unfold vp_in
  rw [tn_251]
  intro q
  rcases q with q | q
  · exact absurd q (by decide)
  · omega
theorem tn_255 : (255 : Int32).toNatClampNeg = 255 := by decide
theorem vi_255 {n : Nat} (h : 255 < n) : vp_in 255 n := by
  unfold vp_in
  rw [tn_255]
  intro q
  rcases q with q | q
  · exact absurd q (by decide)
  · omega
theorem tn_300 : (300 : Int32).toNatClampNeg = 300 := by decide
theorem tn_400 : (400 : Int32).toNatClampNeg = 400 := by decide
theorem tn_600 : (600 : Int32).toNatClampNeg = 600 := by decide
theorem tn_700 : (700 : Int32).toNatClampNeg = 700 := by decide
theorem tn_900 : (900 : Int32).toNatClampNeg = 900 := by decide
theorem tn_999 : (999 : Int32).toNatClampNeg = 999 := by decide
theorem tn_3000 : (3000 : Int32).toNatClampNeg = 3000 := by decide
theorem tn_5000 : (5000 : Int32).toNatClampNeg = 5000 := by decide
theorem tn_9999 : (9999 : Int32).toNatClampNeg = 9999 := by decide
theorem tn_20000 : (20000 : Int32).toNatClampNeg = 20000 := by decide
theorem tn_30000 : (30000 : Int32).toNatClampNeg = 30000 := by decide
theorem sl_X11_49 : (RX11, 49, "cooperative 30 5000;classes 90 75 60;") ∈ strL := by decide +kernel
theorem sl_X11_57 : (RX11, 57, "variety red;variety rose;") ∈ strL := by decide +kernel
theorem sl_X11_59 : (RX11, 59, "price red 0 12;price red 1 9;price red 2 5;price rose 0 10;price rose 1 8;") ∈ strL := by decide +kernel
theorem sl_X11_61 : (RX11, 61, "grower ann;grower bert;plot ann red 20;plot bert red 10;plot bert rose 8;") ∈ strL := by decide +kernel
theorem sl_X11_63 : (RX11, 63, "tank 700;tank 500;tank 300;") ∈ strL := by decide +kernel
theorem sl_X11_65 : (RX11, 65, "load 0 400 92;load 1 280 78;load 2 200 76;load 1 90 95;") ∈ strL := by decide +kernel
theorem sl_X8_54 : (RX8, 54, "cooperative") ∈ strL := by decide +kernel
theorem sl_X8_82 : (RX8, 82, "classes") ∈ strL := by decide +kernel
theorem sl_X8_108 : (RX8, 108, "variety") ∈ strL := by decide +kernel
theorem sl_X8_113 : (RX8, 113, "price") ∈ strL := by decide +kernel
theorem sl_X8_118 : (RX8, 118, "grower") ∈ strL := by decide +kernel
theorem sl_X8_123 : (RX8, 123, "plot") ∈ strL := by decide +kernel
theorem sl_X8_128 : (RX8, 128, "tank") ∈ strL := by decide +kernel
theorem sl_X8_133 : (RX8, 133, "load") ∈ strL := by decide +kernel
theorem sl_X8_138 : (RX8, 138, "bottle") ∈ strL := by decide +kernel
theorem sl_X8_143 : (RX8, 143, "sell") ∈ strL := by decide +kernel
theorem sl_X8_148 : (RX8, 148, "pay") ∈ strL := by decide +kernel
theorem sl_X8_153 : (RX8, 153, "pump") ∈ strL := by decide +kernel
theorem sl_X11_403 : (RX11, 403, "there is no change to undo") ∈ strL := by decide +kernel
theorem sl_L_61 : (RL, 61, "cooperative ") ∈ strL := by decide +kernel
theorem sl_L_72 : (RL, 72, " ") ∈ strL := by decide +kernel
theorem sl_L_77 : (RL, 77, ";classes") ∈ strL := by decide +kernel
theorem sl_L_86 : (RL, 86, ";") ∈ strL := by decide +kernel
theorem sl_L_88 : (RL, 88, "variety ") ∈ strL := by decide +kernel
theorem sl_L_94 : (RL, 94, "price ") ∈ strL := by decide +kernel
theorem sl_L_99 : (RL, 99, "grower ") ∈ strL := by decide +kernel
theorem sl_L_107 : (RL, 107, "plot ") ∈ strL := by decide +kernel
theorem sl_L_121 : (RL, 121, "tank ") ∈ strL := by decide +kernel
theorem sl_X11_84 : (RX11, 84, "the input buffer is full") ∈ strL := by decide +kernel
theorem sl_X11_98 : (RX11, 98, "the input buffer cannot be shortened to this length") ∈ strL := by decide +kernel
theorem sl_X11_459 : (RX11, 459, "there is no such variety") ∈ strL := by decide +kernel
theorem sl_X11_464 : (RX11, 464, "there is no such class") ∈ strL := by decide +kernel
theorem sl_X11_471 : (RX11, 471, "there is no such plot") ∈ strL := by decide +kernel
theorem sl_X11_448 : (RX11, 448, "there is no such tank") ∈ strL := by decide +kernel
theorem sl_X11_477 : (RX11, 477, "the sugar is out of range") ∈ strL := by decide +kernel
theorem sl_X11_441 : (RX11, 441, "there is no such load") ∈ strL := by decide +kernel
theorem sl_X11_450 : (RX11, 450, "there is no such lot") ∈ strL := by decide +kernel
theorem sl_X11_475 : (RX11, 475, "the weight is out of range") ∈ strL := by decide +kernel
theorem sl_X11_335 : (RX11, 335, "the load is refused") ∈ strL := by decide +kernel
theorem sl_X11_340 : (RX11, 340, "the price is out of range") ∈ strL := by decide +kernel
theorem sl_X11_479 : (RX11, 479, "the number of bottles is out of range") ∈ strL := by decide +kernel
theorem sl_X11_353 : (RX11, 353, "the wine is not there, or there are too many lots") ∈ strL := by decide +kernel
theorem sl_X11_359 : (RX11, 359, "the price of a bottle is out of range") ∈ strL := by decide +kernel
theorem sl_X11_365 : (RX11, 365, "the bottles are not there, or the cash would be too much") ∈ strL := by decide +kernel
theorem sl_X11_371 : (RX11, 371, "the load is paid, or the cash is not enough") ∈ strL := by decide +kernel
theorem sl_X11_466 : (RX11, 466, "there is no such grower") ∈ strL := by decide +kernel
theorem sl_X11_380 : (RX11, 380, "there is nothing to pay, or the cash is not enough") ∈ strL := by decide +kernel
theorem sl_X11_385 : (RX11, 385, "both tanks are the same") ∈ strL := by decide +kernel
theorem sl_X11_391 : (RX11, 391, "the other tank cannot take the wine") ∈ strL := by decide +kernel
theorem sl_X11_181 : (RX11, 181, "there is no such rank") ∈ strL := by decide +kernel
theorem sl_L_392 : (RL, 392, "red") ∈ strL := by decide +kernel
theorem sl_L_394 : (RL, 394, "rose") ∈ strL := by decide +kernel
theorem sl_L_396 : (RL, 396, "tank") ∈ strL := by decide +kernel
theorem sl_L_397 : (RL, 397, "ann") ∈ strL := by decide +kernel
theorem sl_L_399 : (RL, 399, "pay") ∈ strL := by decide +kernel
theorem sl_L_401 : (RL, 401, "c") ∈ strL := by decide +kernel
theorem sl_L_403 : (RL, 403, "load") ∈ strL := by decide +kernel
theorem sc_X11_49 : (RX11, 49, 12) ∈ strC := by decide +kernel
theorem sc_X11_57 : (RX11, 57, 13) ∈ strC := by decide +kernel
theorem sc_X11_59 : (RX11, 59, 14) ∈ strC := by decide +kernel
theorem sc_X11_61 : (RX11, 61, 15) ∈ strC := by decide +kernel
theorem sc_X11_63 : (RX11, 63, 16) ∈ strC := by decide +kernel
theorem sc_X11_65 : (RX11, 65, 17) ∈ strC := by decide +kernel
theorem sc_X8_54 : (RX8, 54, 0) ∈ strC := by decide +kernel
theorem sc_X8_82 : (RX8, 82, 1) ∈ strC := by decide +kernel
theorem sc_X8_108 : (RX8, 108, 2) ∈ strC := by decide +kernel
theorem sc_X8_113 : (RX8, 113, 3) ∈ strC := by decide +kernel
theorem sc_X8_118 : (RX8, 118, 4) ∈ strC := by decide +kernel
theorem sc_X8_123 : (RX8, 123, 5) ∈ strC := by decide +kernel
theorem sc_X8_128 : (RX8, 128, 6) ∈ strC := by decide +kernel
theorem sc_X8_133 : (RX8, 133, 7) ∈ strC := by decide +kernel
theorem sc_X8_138 : (RX8, 138, 8) ∈ strC := by decide +kernel
theorem sc_X8_143 : (RX8, 143, 9) ∈ strC := by decide +kernel
theorem sc_X8_148 : (RX8, 148, 10) ∈ strC := by decide +kernel
theorem sc_X8_153 : (RX8, 153, 11) ∈ strC := by decide +kernel
theorem sc_L_61 : (RL, 61, 22) ∈ strC := by decide +kernel
theorem sc_L_72 : (RL, 72, 23) ∈ strC := by decide +kernel
theorem sc_L_77 : (RL, 77, 24) ∈ strC := by decide +kernel
theorem sc_L_86 : (RL, 86, 25) ∈ strC := by decide +kernel
theorem sc_L_88 : (RL, 88, 26) ∈ strC := by decide +kernel
theorem sc_L_94 : (RL, 94, 27) ∈ strC := by decide +kernel
theorem sc_L_99 : (RL, 99, 28) ∈ strC := by decide +kernel
theorem sc_L_107 : (RL, 107, 29) ∈ strC := by decide +kernel
theorem sc_L_121 : (RL, 121, 30) ∈ strC := by decide +kernel
theorem sc_L_392 : (RL, 392, 18) ∈ strC := by decide +kernel
theorem sc_L_394 : (RL, 394, 19) ∈ strC := by decide +kernel
theorem sc_L_396 : (RL, 396, 6) ∈ strC := by decide +kernel
theorem sc_L_397 : (RL, 397, 20) ∈ strC := by decide +kernel
theorem sc_L_399 : (RL, 399, 10) ∈ strC := by decide +kernel
theorem sc_L_401 : (RL, 401, 21) ∈ strC := by decide +kernel
theorem sc_L_403 : (RL, 403, 7) ∈ strC := by decide +kernel
theorem mv_X0_clear : MV yX0_clear cX0_clear 1 none RX0 0 := ⟨im_X0_clear, se_X0_X0_clear, in_X0, cd_X0_clear, rfl, by decide +kernel, by decide +kernel, by decide +kernel⟩
theorem mv_X0_open : MV yX0_open cX0_open 2 none RX0 1 := ⟨im_X0_open, se_X0_X0_open, in_X0, cd_X0_open, rfl, by decide +kernel, by decide +kernel, by decide +kernel⟩
theorem mv_X0_copyFrom : MV yX0_copyFrom cX0_copyFrom 2 none RX0 1 := ⟨im_X0_copyFrom, se_X0_X0_copyFrom, in_X0, cd_X0_copyFrom, rfl, by decide +kernel, by decide +kernel, by decide +kernel⟩
theorem mv_X0_isNameTaken : MV yX0_isNameTaken cX0_isNameTaken 2 (some .boolean) RX0 1 := ⟨im_X0_isNameTaken, se_X0_X0_isNameTaken, in_X0, cd_X0_isNameTaken, rfl, by decide +kernel, by decide +kernel, by decide +kernel⟩
theorem mv_X0_greatestWithinLimit : MV yX0_greatestWithinLimit cX0_greatestWithinLimit 3 (some .int) RX0 1 := ⟨im_X0_greatestWithinLimit, se_X0_X0_greatestWithinLimit, in_X0, cd_X0_greatestWithinLimit, rfl, by decide +kernel, by decide +kernel, by decide +kernel⟩
theorem mv_X0_reasonAgainst : MV yX0_reasonAgainst cX0_reasonAgainst 4 (some .int) RX0 3 := ⟨im_X0_reasonAgainst, se_X0_X0_reasonAgainst, in_X0, cd_X0_reasonAgainst, rfl, by decide +kernel, by decide +kernel, by decide +kernel⟩
theorem mv_X0_gradeFor : MV yX0_gradeFor cX0_gradeFor 4 (some .int) RX0 3 := ⟨im_X0_gradeFor, se_X0_X0_gradeFor, in_X0, cd_X0_gradeFor, rfl, by decide +kernel, by decide +kernel, by decide +kernel⟩
theorem mv_X0_accept : MV yX0_accept cX0_accept 8 (some .int) RX0 3 := ⟨im_X0_accept, se_X0_X0_accept, in_X0, cd_X0_accept, rfl, by decide +kernel, by decide +kernel, by decide +kernel⟩
theorem mv_X0_centsOf : MV yX0_centsOf cX0_centsOf 2 (some .int) RX0 1 := ⟨im_X0_centsOf, se_X0_X0_centsOf, in_X0, cd_X0_centsOf, rfl, by decide +kernel, by decide +kernel, by decide +kernel⟩
theorem mv_X0_unpaidTo : MV yX0_unpaidTo cX0_unpaidTo 5 (some .int) RX0 1 := ⟨im_X0_unpaidTo, se_X0_X0_unpaidTo, in_X0, cd_X0_unpaidTo, rfl, by decide +kernel, by decide +kernel, by decide +kernel⟩
theorem mv_X0_unpaidToAll : MV yX0_unpaidToAll cX0_unpaidToAll 3 (some .int) RX0 0 := ⟨im_X0_unpaidToAll, se_X0_X0_unpaidToAll, in_X0, cd_X0_unpaidToAll, rfl, by decide +kernel, by decide +kernel, by decide +kernel⟩
theorem mv_X0_countPayable : MV yX0_countPayable cX0_countPayable 5 (some .int) RX0 0 := ⟨im_X0_countPayable, se_X0_X0_countPayable, in_X0, cd_X0_countPayable, rfl, by decide +kernel, by decide +kernel, by decide +kernel⟩
theorem mv_X0_canSettleAll : MV yX0_canSettleAll cX0_canSettleAll 2 (some .boolean) RX0 1 := ⟨im_X0_canSettleAll, se_X0_X0_canSettleAll, in_X0, cd_X0_canSettleAll, rfl, by decide +kernel, by decide +kernel, by decide +kernel⟩
theorem mv_X0_settleAll : MV yX0_settleAll cX0_settleAll 5 (some .int) RX0 1 := ⟨im_X0_settleAll, se_X0_X0_settleAll, in_X0, cd_X0_settleAll, rfl, by decide +kernel, by decide +kernel, by decide +kernel⟩
theorem mv_X0_settle : MV yX0_settle cX0_settle 3 (some .int) RX0 2 := ⟨im_X0_settle, se_X0_X0_settle, in_X0, cd_X0_settle, rfl, by decide +kernel, by decide +kernel, by decide +kernel⟩
theorem mv_X0_canTrade : MV yX0_canTrade cX0_canTrade 4 (some .boolean) RX0 3 := ⟨im_X0_canTrade, se_X0_X0_canTrade, in_X0, cd_X0_canTrade, rfl, by decide +kernel, by decide +kernel, by decide +kernel⟩
theorem mv_X0_trade : MV yX0_trade cX0_trade 4 none RX0 3 := ⟨im_X0_trade, se_X0_X0_trade, in_X0, cd_X0_trade, rfl, by decide +kernel, by decide +kernel, by decide +kernel⟩
theorem mv_X0_countVarietiesFrom : MV yX0_countVarietiesFrom cX0_countVarietiesFrom 4 (some .int) RX0 1 := ⟨im_X0_countVarietiesFrom, se_X0_X0_countVarietiesFrom, in_X0, cd_X0_countVarietiesFrom, rfl, by decide +kernel, by decide +kernel, by decide +kernel⟩
theorem mv_X0_heaviestGrower : MV yX0_heaviestGrower cX0_heaviestGrower 5 (some .int) RX0 0 := ⟨im_X0_heaviestGrower, se_X0_X0_heaviestGrower, in_X0, cd_X0_heaviestGrower, rfl, by decide +kernel, by decide +kernel, by decide +kernel⟩
theorem mv_X1_copyFrom : MV yX1_copyFrom cX1_copyFrom 2 none RX1 1 := ⟨im_X1_copyFrom, se_X1_X1_copyFrom, in_X1, cd_X1_copyFrom, rfl, by decide +kernel, by decide +kernel, by decide +kernel⟩
theorem mv_X1_hasVariety : MV yX1_hasVariety cX1_hasVariety 2 (some .boolean) RX1 1 := ⟨im_X1_hasVariety, se_X1_X1_hasVariety, in_X1, cd_X1_hasVariety, rfl, by decide +kernel, by decide +kernel, by decide +kernel⟩
theorem mv_X1_hasGrade : MV yX1_hasGrade cX1_hasGrade 2 (some .boolean) RX1 1 := ⟨im_X1_hasGrade, se_X1_X1_hasGrade, in_X1, cd_X1_hasGrade, rfl, by decide +kernel, by decide +kernel, by decide +kernel⟩
theorem mv_X1_isLessThanLast : MV yX1_isLessThanLast cX1_isLessThanLast 3 (some .boolean) RX1 1 := ⟨im_X1_isLessThanLast, se_X1_X1_isLessThanLast, in_X1, cd_X1_isLessThanLast, rfl, by decide +kernel, by decide +kernel, by decide +kernel⟩
theorem mv_X1_addClass : MV yX1_addClass cX1_addClass 2 none RX1 1 := ⟨im_X1_addClass, se_X1_X1_addClass, in_X1, cd_X1_addClass, rfl, by decide +kernel, by decide +kernel, by decide +kernel⟩
theorem mv_X1_addVariety : MV yX1_addVariety cX1_addVariety 4 none RX1 1 := ⟨im_X1_addVariety, se_X1_X1_addVariety, in_X1, cd_X1_addVariety, rfl, by decide +kernel, by decide +kernel, by decide +kernel⟩
theorem mv_X1_varietyNamed : MV yX1_varietyNamed cX1_varietyNamed 3 (some .int) RX1 1 := ⟨im_X1_varietyNamed, se_X1_X1_varietyNamed, in_X1, cd_X1_varietyNamed, rfl, by decide +kernel, by decide +kernel, by decide +kernel⟩
theorem mv_X1_gradeOfSugar : MV yX1_gradeOfSugar cX1_gradeOfSugar 3 (some .int) RX1 1 := ⟨im_X1_gradeOfSugar, se_X1_X1_gradeOfSugar, in_X1, cd_X1_gradeOfSugar, rfl, by decide +kernel, by decide +kernel, by decide +kernel⟩
theorem mv_X1_centsFor : MV yX1_centsFor cX1_centsFor 3 (some .int) RX1 2 := ⟨im_X1_centsFor, se_X1_X1_centsFor, in_X1, cd_X1_centsFor, rfl, by decide +kernel, by decide +kernel, by decide +kernel⟩
theorem mv_X1_putPrice : MV yX1_putPrice cX1_putPrice 4 none RX1 3 := ⟨im_X1_putPrice, se_X1_X1_putPrice, in_X1, cd_X1_putPrice, rfl, by decide +kernel, by decide +kernel, by decide +kernel⟩
theorem mv_X2_copyFrom : MV yX2_copyFrom cX2_copyFrom 3 none RX2 1 := ⟨im_X2_copyFrom, se_X2_X2_copyFrom, in_X2, cd_X2_copyFrom, rfl, by decide +kernel, by decide +kernel, by decide +kernel⟩
theorem mv_X2_addTank : MV yX2_addTank cX2_addTank 2 none RX2 1 := ⟨im_X2_addTank, se_X2_X2_addTank, in_X2, cd_X2_addTank, rfl, by decide +kernel, by decide +kernel, by decide +kernel⟩
theorem mv_X2_chooseTank : MV yX2_chooseTank cX2_chooseTank 6 (some .int) RX2 2 := ⟨im_X2_chooseTank, se_X2_X2_chooseTank, in_X2, cd_X2_chooseTank, rfl, by decide +kernel, by decide +kernel, by decide +kernel⟩
theorem mv_X2_greatestWeightFor : MV yX2_greatestWeightFor cX2_greatestWeightFor 4 (some .int) RX2 1 := ⟨im_X2_greatestWeightFor, se_X2_X2_greatestWeightFor, in_X2, cd_X2_greatestWeightFor, rfl, by decide +kernel, by decide +kernel, by decide +kernel⟩
theorem mv_X2_canFillLot : MV yX2_canFillLot cX2_canFillLot 3 (some .boolean) RX2 2 := ⟨im_X2_canFillLot, se_X2_X2_canFillLot, in_X2, cd_X2_canFillLot, rfl, by decide +kernel, by decide +kernel, by decide +kernel⟩
theorem mv_X2_fillLot : MV yX2_fillLot cX2_fillLot 4 (some .int) RX2 2 := ⟨im_X2_fillLot, se_X2_X2_fillLot, in_X2, cd_X2_fillLot, rfl, by decide +kernel, by decide +kernel, by decide +kernel⟩
theorem mv_X2_sweetestUnsold : MV yX2_sweetestUnsold cX2_sweetestUnsold 4 (some .int) RX2 0 := ⟨im_X2_sweetestUnsold, se_X2_X2_sweetestUnsold, in_X2, cd_X2_sweetestUnsold, rfl, by decide +kernel, by decide +kernel, by decide +kernel⟩
theorem mv_X2_stockOf : MV yX2_stockOf cX2_stockOf 4 (some .int) RX2 1 := ⟨im_X2_stockOf, se_X2_X2_stockOf, in_X2, cd_X2_stockOf, rfl, by decide +kernel, by decide +kernel, by decide +kernel⟩
theorem mv_X2_totalContent : MV yX2_totalContent cX2_totalContent 3 (some .int) RX2 0 := ⟨im_X2_totalContent, se_X2_X2_totalContent, in_X2, cd_X2_totalContent, rfl, by decide +kernel, by decide +kernel, by decide +kernel⟩
theorem mv_X2_totalCapacity : MV yX2_totalCapacity cX2_totalCapacity 3 (some .int) RX2 0 := ⟨im_X2_totalCapacity, se_X2_X2_totalCapacity, in_X2, cd_X2_totalCapacity, rfl, by decide +kernel, by decide +kernel, by decide +kernel⟩
theorem mv_X2_totalBottled : MV yX2_totalBottled cX2_totalBottled 3 (some .int) RX2 0 := ⟨im_X2_totalBottled, se_X2_X2_totalBottled, in_X2, cd_X2_totalBottled, rfl, by decide +kernel, by decide +kernel, by decide +kernel⟩
theorem mv_X3_copyFrom : MV yX3_copyFrom cX3_copyFrom 3 none RX3 1 := ⟨im_X3_copyFrom, se_X3_X3_copyFrom, in_X3, cd_X3_copyFrom, rfl, by decide +kernel, by decide +kernel, by decide +kernel⟩
theorem mv_X3_isFull : MV yX3_isFull cX3_isFull 1 (some .boolean) RX3 0 := ⟨im_X3_isFull, se_X3_X3_isFull, in_X3, cd_X3_isFull, rfl, by decide +kernel, by decide +kernel, by decide +kernel⟩
theorem mv_X3_addLoad : MV yX3_addLoad cX3_addLoad 2 (some (.object "WineCooperative$Load")) RX3 0 := ⟨im_X3_addLoad, se_X3_X3_addLoad, in_X3, cd_X3_addLoad, rfl, by decide +kernel, by decide +kernel, by decide +kernel⟩
theorem mv_X3_totalWeight : MV yX3_totalWeight cX3_totalWeight 3 (some .int) RX3 0 := ⟨im_X3_totalWeight, se_X3_X3_totalWeight, in_X3, cd_X3_totalWeight, rfl, by decide +kernel, by decide +kernel, by decide +kernel⟩
theorem mv_X3_totalSugar : MV yX3_totalSugar cX3_totalSugar 3 (some .int) RX3 0 := ⟨im_X3_totalSugar, se_X3_X3_totalSugar, in_X3, cd_X3_totalSugar, rfl, by decide +kernel, by decide +kernel, by decide +kernel⟩
theorem mv_X3_totalPayments : MV yX3_totalPayments cX3_totalPayments 3 (some .int) RX3 0 := ⟨im_X3_totalPayments, se_X3_X3_totalPayments, in_X3, cd_X3_totalPayments, rfl, by decide +kernel, by decide +kernel, by decide +kernel⟩
theorem mv_X3_paymentsTo : MV yX3_paymentsTo cX3_paymentsTo 4 (some .int) RX3 1 := ⟨im_X3_paymentsTo, se_X3_X3_paymentsTo, in_X3, cd_X3_paymentsTo, rfl, by decide +kernel, by decide +kernel, by decide +kernel⟩
theorem mv_X3_hasUnpaidOf : MV yX3_hasUnpaidOf cX3_hasUnpaidOf 3 (some .boolean) RX3 1 := ⟨im_X3_hasUnpaidOf, se_X3_X3_hasUnpaidOf, in_X3, cd_X3_hasUnpaidOf, rfl, by decide +kernel, by decide +kernel, by decide +kernel⟩
theorem mv_X3_hasVarietyFrom : MV yX3_hasVarietyFrom cX3_hasVarietyFrom 4 (some .boolean) RX3 2 := ⟨im_X3_hasVarietyFrom, se_X3_X3_hasVarietyFrom, in_X3, cd_X3_hasVarietyFrom, rfl, by decide +kernel, by decide +kernel, by decide +kernel⟩
theorem mv_X3_weightFromPlot : MV yX3_weightFromPlot cX3_weightFromPlot 4 (some .int) RX3 1 := ⟨im_X3_weightFromPlot, se_X3_X3_weightFromPlot, in_X3, cd_X3_weightFromPlot, rfl, by decide +kernel, by decide +kernel, by decide +kernel⟩
theorem mv_X3_weightFromGrower : MV yX3_weightFromGrower cX3_weightFromGrower 4 (some .int) RX3 1 := ⟨im_X3_weightFromGrower, se_X3_X3_weightFromGrower, in_X3, cd_X3_weightFromGrower, rfl, by decide +kernel, by decide +kernel, by decide +kernel⟩
theorem mv_X3_weightOfPair : MV yX3_weightOfPair cX3_weightOfPair 5 (some .int) RX3 2 := ⟨im_X3_weightOfPair, se_X3_X3_weightOfPair, in_X3, cd_X3_weightOfPair, rfl, by decide +kernel, by decide +kernel, by decide +kernel⟩
theorem mv_X3_isNewPair : MV yX3_isNewPair cX3_isNewPair 4 (some .boolean) RX3 2 := ⟨im_X3_isNewPair, se_X3_X3_isNewPair, in_X3, cd_X3_isNewPair, rfl, by decide +kernel, by decide +kernel, by decide +kernel⟩
theorem mv_X3_countPairs : MV yX3_countPairs cX3_countPairs 3 (some .int) RX3 0 := ⟨im_X3_countPairs, se_X3_X3_countPairs, in_X3, cd_X3_countPairs, rfl, by decide +kernel, by decide +kernel, by decide +kernel⟩
theorem mv_X3_pairAtRank : MV yX3_pairAtRank cX3_pairAtRank 4 (some .int) RX3 1 := ⟨im_X3_pairAtRank, se_X3_X3_pairAtRank, in_X3, cd_X3_pairAtRank, rfl, by decide +kernel, by decide +kernel, by decide +kernel⟩
theorem mv_X3_heaviestPair : MV yX3_heaviestPair cX3_heaviestPair 5 (some .int) RX3 0 := ⟨im_X3_heaviestPair, se_X3_X3_heaviestPair, in_X3, cd_X3_heaviestPair, rfl, by decide +kernel, by decide +kernel, by decide +kernel⟩
theorem mv_X4_note : MV yX4_note cX4_note 2 none RX4 1 := ⟨im_X4_note, se_X4_X4_note, in_X4, cd_X4_note, rfl, by decide +kernel, by decide +kernel, by decide +kernel⟩
theorem mv_X4_bringBack : MV yX4_bringBack cX4_bringBack 2 none RX4 1 := ⟨im_X4_bringBack, se_X4_X4_bringBack, in_X4, cd_X4_bringBack, rfl, by decide +kernel, by decide +kernel, by decide +kernel⟩
theorem mv_X5_copyFrom : MV yX5_copyFrom cX5_copyFrom 2 none RX5 1 := ⟨im_X5_copyFrom, se_X5_X5_copyFrom, in_X5, cd_X5_copyFrom, rfl, by decide +kernel, by decide +kernel, by decide +kernel⟩
theorem mv_X5_hasPlot : MV yX5_hasPlot cX5_hasPlot 2 (some .boolean) RX5 1 := ⟨im_X5_hasPlot, se_X5_X5_hasPlot, in_X5, cd_X5_hasPlot, rfl, by decide +kernel, by decide +kernel, by decide +kernel⟩
theorem mv_X5_addGrower : MV yX5_addGrower cX5_addGrower 2 none RX5 1 := ⟨im_X5_addGrower, se_X5_X5_addGrower, in_X5, cd_X5_addGrower, rfl, by decide +kernel, by decide +kernel, by decide +kernel⟩
theorem mv_X5_addPlot : MV yX5_addPlot cX5_addPlot 4 none RX5 3 := ⟨im_X5_addPlot, se_X5_X5_addPlot, in_X5, cd_X5_addPlot, rfl, by decide +kernel, by decide +kernel, by decide +kernel⟩
theorem mv_X5_growerNamed : MV yX5_growerNamed cX5_growerNamed 3 (some .int) RX5 1 := ⟨im_X5_growerNamed, se_X5_X5_growerNamed, in_X5, cd_X5_growerNamed, rfl, by decide +kernel, by decide +kernel, by decide +kernel⟩
theorem mv_X5_countPlotsOf : MV yX5_countPlotsOf cX5_countPlotsOf 4 (some .int) RX5 1 := ⟨im_X5_countPlotsOf, se_X5_X5_countPlotsOf, in_X5, cd_X5_countPlotsOf, rfl, by decide +kernel, by decide +kernel, by decide +kernel⟩
theorem mv_X5_ownerOf : MV yX5_ownerOf cX5_ownerOf 2 (some .int) RX5 1 := ⟨im_X5_ownerOf, se_X5_X5_ownerOf, in_X5, cd_X5_ownerOf, rfl, by decide +kernel, by decide +kernel, by decide +kernel⟩
theorem mv_X5_varietyOn : MV yX5_varietyOn cX5_varietyOn 2 (some .int) RX5 1 := ⟨im_X5_varietyOn, se_X5_X5_varietyOn, in_X5, cd_X5_varietyOn, rfl, by decide +kernel, by decide +kernel, by decide +kernel⟩
theorem mv_X5_limitOf : MV yX5_limitOf cX5_limitOf 2 (some .int) RX5 1 := ⟨im_X5_limitOf, se_X5_X5_limitOf, in_X5, cd_X5_limitOf, rfl, by decide +kernel, by decide +kernel, by decide +kernel⟩
theorem mv_X6_copyFrom : MV yX6_copyFrom cX6_copyFrom 2 none RX6 1 := ⟨im_X6_copyFrom, se_X6_X6_copyFrom, in_X6, cd_X6_copyFrom, rfl, by decide +kernel, by decide +kernel, by decide +kernel⟩
theorem mv_X6_isUnpaidOf : MV yX6_isUnpaidOf cX6_isUnpaidOf 2 (some .boolean) RX6 1 := ⟨im_X6_isUnpaidOf, se_X6_X6_isUnpaidOf, in_X6, cd_X6_isUnpaidOf, rfl, by decide +kernel, by decide +kernel, by decide +kernel⟩
theorem mv_X6_isOfPair : MV yX6_isOfPair cX6_isOfPair 3 (some .boolean) RX6 2 := ⟨im_X6_isOfPair, se_X6_X6_isOfPair, in_X6, cd_X6_isOfPair, rfl, by decide +kernel, by decide +kernel, by decide +kernel⟩
theorem mv_X6_pairCode : MV yX6_pairCode cX6_pairCode 1 (some .int) RX6 0 := ⟨im_X6_pairCode, se_X6_X6_pairCode, in_X6, cd_X6_pairCode, rfl, by decide +kernel, by decide +kernel, by decide +kernel⟩
theorem mv_X7_copyFrom : MV yX7_copyFrom cX7_copyFrom 2 none RX7 1 := ⟨im_X7_copyFrom, se_X7_X7_copyFrom, in_X7, cd_X7_copyFrom, rfl, by decide +kernel, by decide +kernel, by decide +kernel⟩
theorem mv_X8_readAll : MV yX8_readAll cX8_readAll 3 (some .boolean) RX8 0 := ⟨im_X8_readAll, se_X8_X8_readAll, in_X8, cd_X8_readAll, rfl, by decide +kernel, by decide +kernel, by decide +kernel⟩
theorem mv_X8_readCooperative : MV yX8_readCooperative cX8_readCooperative 2 (some .boolean) RX8 0 := ⟨im_X8_readCooperative, se_X8_X8_readCooperative, in_X8, cd_X8_readCooperative, rfl, by decide +kernel, by decide +kernel, by decide +kernel⟩
theorem mv_X8_readClasses : MV yX8_readClasses cX8_readClasses 3 (some .boolean) RX8 0 := ⟨im_X8_readClasses, se_X8_X8_readClasses, in_X8, cd_X8_readClasses, rfl, by decide +kernel, by decide +kernel, by decide +kernel⟩
theorem mv_X8_readLowestSugar : MV yX8_readLowestSugar cX8_readLowestSugar 1 (some .boolean) RX8 0 := ⟨im_X8_readLowestSugar, se_X8_X8_readLowestSugar, in_X8, cd_X8_readLowestSugar, rfl, by decide +kernel, by decide +kernel, by decide +kernel⟩
theorem mv_X8_readStatement : MV yX8_readStatement cX8_readStatement 1 (some .boolean) RX8 0 := ⟨im_X8_readStatement, se_X8_X8_readStatement, in_X8, cd_X8_readStatement, rfl, by decide +kernel, by decide +kernel, by decide +kernel⟩
theorem mv_X8_readVariety : MV yX8_readVariety cX8_readVariety 2 (some .boolean) RX8 0 := ⟨im_X8_readVariety, se_X8_X8_readVariety, in_X8, cd_X8_readVariety, rfl, by decide +kernel, by decide +kernel, by decide +kernel⟩
theorem mv_X8_readPrice : MV yX8_readPrice cX8_readPrice 4 (some .boolean) RX8 0 := ⟨im_X8_readPrice, se_X8_X8_readPrice, in_X8, cd_X8_readPrice, rfl, by decide +kernel, by decide +kernel, by decide +kernel⟩
theorem mv_X8_readGrower : MV yX8_readGrower cX8_readGrower 2 (some .boolean) RX8 0 := ⟨im_X8_readGrower, se_X8_X8_readGrower, in_X8, cd_X8_readGrower, rfl, by decide +kernel, by decide +kernel, by decide +kernel⟩
theorem mv_X8_readPlot : MV yX8_readPlot cX8_readPlot 4 (some .boolean) RX8 0 := ⟨im_X8_readPlot, se_X8_X8_readPlot, in_X8, cd_X8_readPlot, rfl, by decide +kernel, by decide +kernel, by decide +kernel⟩
theorem mv_X8_readTank : MV yX8_readTank cX8_readTank 2 (some .boolean) RX8 0 := ⟨im_X8_readTank, se_X8_X8_readTank, in_X8, cd_X8_readTank, rfl, by decide +kernel, by decide +kernel, by decide +kernel⟩
theorem mv_X8_readLoad : MV yX8_readLoad cX8_readLoad 4 (some .boolean) RX8 0 := ⟨im_X8_readLoad, se_X8_X8_readLoad, in_X8, cd_X8_readLoad, rfl, by decide +kernel, by decide +kernel, by decide +kernel⟩
theorem mv_X8_readBottle : MV yX8_readBottle cX8_readBottle 4 (some .boolean) RX8 0 := ⟨im_X8_readBottle, se_X8_X8_readBottle, in_X8, cd_X8_readBottle, rfl, by decide +kernel, by decide +kernel, by decide +kernel⟩
theorem mv_X8_readSell : MV yX8_readSell cX8_readSell 5 (some .boolean) RX8 0 := ⟨im_X8_readSell, se_X8_X8_readSell, in_X8, cd_X8_readSell, rfl, by decide +kernel, by decide +kernel, by decide +kernel⟩
theorem mv_X8_readPay : MV yX8_readPay cX8_readPay 2 (some .boolean) RX8 0 := ⟨im_X8_readPay, se_X8_X8_readPay, in_X8, cd_X8_readPay, rfl, by decide +kernel, by decide +kernel, by decide +kernel⟩
theorem mv_X8_readPump : MV yX8_readPump cX8_readPump 3 (some .boolean) RX8 0 := ⟨im_X8_readPump, se_X8_X8_readPump, in_X8, cd_X8_readPump, rfl, by decide +kernel, by decide +kernel, by decide +kernel⟩
theorem mv_X8_isNumberHere : MV yX8_isNumberHere cX8_isNumberHere 3 (some .boolean) RX8 2 := ⟨im_X8_isNumberHere, se_X8_X8_isNumberHere, in_X8, cd_X8_isNumberHere, rfl, by decide +kernel, by decide +kernel, by decide +kernel⟩
theorem mv_X8_readNumber : MV yX8_readNumber cX8_readNumber 4 (some .int) RX8 2 := ⟨im_X8_readNumber, se_X8_X8_readNumber, in_X8, cd_X8_readNumber, rfl, by decide +kernel, by decide +kernel, by decide +kernel⟩
theorem mv_X8_isWordHere : MV yX8_isWordHere cX8_isWordHere 1 (some .boolean) RX8 0 := ⟨im_X8_isWordHere, se_X8_X8_isWordHere, in_X8, cd_X8_isWordHere, rfl, by decide +kernel, by decide +kernel, by decide +kernel⟩
theorem mv_X8_readNewName : MV yX8_readNewName cX8_readNewName 2 (some .int) RX8 0 := ⟨im_X8_readNewName, se_X8_X8_readNewName, in_X8, cd_X8_readNewName, rfl, by decide +kernel, by decide +kernel, by decide +kernel⟩
theorem mv_X8_readVarietyName : MV yX8_readVarietyName cX8_readVarietyName 2 (some .int) RX8 0 := ⟨im_X8_readVarietyName, se_X8_X8_readVarietyName, in_X8, cd_X8_readVarietyName, rfl, by decide +kernel, by decide +kernel, by decide +kernel⟩
theorem mv_X8_readGrowerName : MV yX8_readGrowerName cX8_readGrowerName 2 (some .int) RX8 0 := ⟨im_X8_readGrowerName, se_X8_X8_readGrowerName, in_X8, cd_X8_readGrowerName, rfl, by decide +kernel, by decide +kernel, by decide +kernel⟩
theorem mv_X8_isSemicolonHere : MV yX8_isSemicolonHere cX8_isSemicolonHere 1 (some .boolean) RX8 0 := ⟨im_X8_isSemicolonHere, se_X8_X8_isSemicolonHere, in_X8, cd_X8_isSemicolonHere, rfl, by decide +kernel, by decide +kernel, by decide +kernel⟩
theorem mv_X8_readSemicolon : MV yX8_readSemicolon cX8_readSemicolon 1 (some .boolean) RX8 0 := ⟨im_X8_readSemicolon, se_X8_X8_readSemicolon, in_X8, cd_X8_readSemicolon, rfl, by decide +kernel, by decide +kernel, by decide +kernel⟩
theorem mv_X8_fail : MV yX8_fail cX8_fail 2 (some .boolean) RX8 1 := ⟨im_X8_fail, se_X8_X8_fail, in_X8, cd_X8_fail, rfl, by decide +kernel, by decide +kernel, by decide +kernel⟩
theorem mv_X9_copyFrom : MV yX9_copyFrom cX9_copyFrom 2 none RX9 1 := ⟨im_X9_copyFrom, se_X9_X9_copyFrom, in_X9, cd_X9_copyFrom, rfl, by decide +kernel, by decide +kernel, by decide +kernel⟩
theorem mv_X9_makeEmpty : MV yX9_makeEmpty cX9_makeEmpty 1 none RX9 0 := ⟨im_X9_makeEmpty, se_X9_X9_makeEmpty, in_X9, cd_X9_makeEmpty, rfl, by decide +kernel, by decide +kernel, by decide +kernel⟩
theorem mv_X9_room : MV yX9_room cX9_room 1 (some .int) RX9 0 := ⟨im_X9_room, se_X9_X9_room, in_X9, cd_X9_room, rfl, by decide +kernel, by decide +kernel, by decide +kernel⟩
theorem mv_X9_mean : MV yX9_mean cX9_mean 1 (some .int) RX9 0 := ⟨im_X9_mean, se_X9_X9_mean, in_X9, cd_X9_mean, rfl, by decide +kernel, by decide +kernel, by decide +kernel⟩
theorem mv_X9_holds : MV yX9_holds cX9_holds 2 (some .boolean) RX9 1 := ⟨im_X9_holds, se_X9_X9_holds, in_X9, cd_X9_holds, rfl, by decide +kernel, by decide +kernel, by decide +kernel⟩
theorem mv_X9_takes : MV yX9_takes cX9_takes 2 (some .boolean) RX9 1 := ⟨im_X9_takes, se_X9_X9_takes, in_X9, cd_X9_takes, rfl, by decide +kernel, by decide +kernel, by decide +kernel⟩
theorem mv_X9_pour : MV yX9_pour cX9_pour 4 none RX9 3 := ⟨im_X9_pour, se_X9_X9_pour, in_X9, cd_X9_pour, rfl, by decide +kernel, by decide +kernel, by decide +kernel⟩
theorem mv_X9_draw : MV yX9_draw cX9_draw 2 none RX9 1 := ⟨im_X9_draw, se_X9_X9_draw, in_X9, cd_X9_draw, rfl, by decide +kernel, by decide +kernel, by decide +kernel⟩
theorem mv_X9_canMoveTo : MV yX9_canMoveTo cX9_canMoveTo 2 (some .boolean) RX9 1 := ⟨im_X9_canMoveTo, se_X9_X9_canMoveTo, in_X9, cd_X9_canMoveTo, rfl, by decide +kernel, by decide +kernel, by decide +kernel⟩
theorem mv_X9_moveTo : MV yX9_moveTo cX9_moveTo 2 none RX9 1 := ⟨im_X9_moveTo, se_X9_X9_moveTo, in_X9, cd_X9_moveTo, rfl, by decide +kernel, by decide +kernel, by decide +kernel⟩
theorem mv_X10_hasRoomFor : MV yX10_hasRoomFor cX10_hasRoomFor 2 (some .boolean) RX10 1 := ⟨im_X10_hasRoomFor, se_X10_X10_hasRoomFor, in_X10, cd_X10_hasRoomFor, rfl, by decide +kernel, by decide +kernel, by decide +kernel⟩
theorem mv_X10_addText : MV yX10_addText cX10_addText 3 none RX10 1 := ⟨im_X10_addText, se_X10_X10_addText, in_X10, cd_X10_addText, rfl, by decide +kernel, by decide +kernel, by decide +kernel⟩
theorem mv_X10_addFour : MV yX10_addFour cX10_addFour 2 none RX10 1 := ⟨im_X10_addFour, se_X10_X10_addFour, in_X10, cd_X10_addFour, rfl, by decide +kernel, by decide +kernel, by decide +kernel⟩
theorem mv_X10_addByte : MV yX10_addByte cX10_addByte 2 none RX10 1 := ⟨im_X10_addByte, se_X10_X10_addByte, in_X10, cd_X10_addByte, rfl, by decide +kernel, by decide +kernel, by decide +kernel⟩
theorem mv_X10_toFirst : MV yX10_toFirst cX10_toFirst 1 none RX10 0 := ⟨im_X10_toFirst, se_X10_X10_toFirst, in_X10, cd_X10_toFirst, rfl, by decide +kernel, by decide +kernel, by decide +kernel⟩
theorem mv_X10_toNext : MV yX10_toNext cX10_toNext 1 none RX10 0 := ⟨im_X10_toNext, se_X10_X10_toNext, in_X10, cd_X10_toNext, rfl, by decide +kernel, by decide +kernel, by decide +kernel⟩
theorem mv_X10_isRun : MV yX10_isRun cX10_isRun 1 (some .boolean) RX10 0 := ⟨im_X10_isRun, se_X10_X10_isRun, in_X10, cd_X10_isRun, rfl, by decide +kernel, by decide +kernel, by decide +kernel⟩
theorem mv_X10_takeSign : MV yX10_takeSign cX10_takeSign 2 none RX10 1 := ⟨im_X10_takeSign, se_X10_X10_takeSign, in_X10, cd_X10_takeSign, rfl, by decide +kernel, by decide +kernel, by decide +kernel⟩
theorem mv_X10_spells : MV yX10_spells cX10_spells 3 (some .boolean) RX10 1 := ⟨im_X10_spells, se_X10_X10_spells, in_X10, cd_X10_spells, rfl, by decide +kernel, by decide +kernel, by decide +kernel⟩
theorem mv_X10_signAt : MV yX10_signAt cX10_signAt 2 (some .int) RX10 1 := ⟨im_X10_signAt, se_X10_X10_signAt, in_X10, cd_X10_signAt, rfl, by decide +kernel, by decide +kernel, by decide +kernel⟩
theorem mv_X10_kindAt : MV yX10_kindAt cX10_kindAt 3 (some .int) RX10 1 := ⟨im_X10_kindAt, se_X10_X10_kindAt, in_X10, cd_X10_kindAt, rfl, by decide +kernel, by decide +kernel, by decide +kernel⟩
theorem mv_X11_append : MV yX11_append cX11_append 7 (some .int) RX11 5 := ⟨im_X11_append, se_X11_X11_append, in_X11, cd_X11_append, rfl, by decide +kernel, by decide +kernel, by decide +kernel⟩
theorem mv_X11_truncate : MV yX11_truncate cX11_truncate 2 (some .int) RX11 1 := ⟨im_X11_truncate, se_X11_X11_truncate, in_X11, cd_X11_truncate, rfl, by decide +kernel, by decide +kernel, by decide +kernel⟩
theorem mv_X11_load : MV yX11_load cX11_load 1 (some .int) RX11 0 := ⟨im_X11_load, se_X11_X11_load, in_X11, cd_X11_load, rfl, by decide +kernel, by decide +kernel, by decide +kernel⟩
theorem mv_X11_errorCode : MV yX11_errorCode cX11_errorCode 1 (some .int) RX11 0 := ⟨im_X11_errorCode, se_X11_X11_errorCode, in_X11, cd_X11_errorCode, rfl, by decide +kernel, by decide +kernel, by decide +kernel⟩
theorem mv_X11_errorOffset : MV yX11_errorOffset cX11_errorOffset 1 (some .int) RX11 0 := ⟨im_X11_errorOffset, se_X11_X11_errorOffset, in_X11, cd_X11_errorOffset, rfl, by decide +kernel, by decide +kernel, by decide +kernel⟩
theorem mv_X11_varietyCount : MV yX11_varietyCount cX11_varietyCount 1 (some .int) RX11 0 := ⟨im_X11_varietyCount, se_X11_X11_varietyCount, in_X11, cd_X11_varietyCount, rfl, by decide +kernel, by decide +kernel, by decide +kernel⟩
theorem mv_X11_classCount : MV yX11_classCount cX11_classCount 1 (some .int) RX11 0 := ⟨im_X11_classCount, se_X11_X11_classCount, in_X11, cd_X11_classCount, rfl, by decide +kernel, by decide +kernel, by decide +kernel⟩
theorem mv_X11_growerCount : MV yX11_growerCount cX11_growerCount 1 (some .int) RX11 0 := ⟨im_X11_growerCount, se_X11_X11_growerCount, in_X11, cd_X11_growerCount, rfl, by decide +kernel, by decide +kernel, by decide +kernel⟩
theorem mv_X11_plotCount : MV yX11_plotCount cX11_plotCount 1 (some .int) RX11 0 := ⟨im_X11_plotCount, se_X11_X11_plotCount, in_X11, cd_X11_plotCount, rfl, by decide +kernel, by decide +kernel, by decide +kernel⟩
theorem mv_X11_loadCount : MV yX11_loadCount cX11_loadCount 1 (some .int) RX11 0 := ⟨im_X11_loadCount, se_X11_X11_loadCount, in_X11, cd_X11_loadCount, rfl, by decide +kernel, by decide +kernel, by decide +kernel⟩
theorem mv_X11_lotCount : MV yX11_lotCount cX11_lotCount 1 (some .int) RX11 0 := ⟨im_X11_lotCount, se_X11_X11_lotCount, in_X11, cd_X11_lotCount, rfl, by decide +kernel, by decide +kernel, by decide +kernel⟩
theorem mv_X11_classBySugar : MV yX11_classBySugar cX11_classBySugar 2 (some .int) RX11 1 := ⟨im_X11_classBySugar, se_X11_X11_classBySugar, in_X11, cd_X11_classBySugar, rfl, by decide +kernel, by decide +kernel, by decide +kernel⟩
theorem mv_X11_price : MV yX11_price cX11_price 3 (some .int) RX11 2 := ⟨im_X11_price, se_X11_X11_price, in_X11, cd_X11_price, rfl, by decide +kernel, by decide +kernel, by decide +kernel⟩
theorem mv_X11_weightOfClass : MV yX11_weightOfClass cX11_weightOfClass 3 (some .int) RX11 2 := ⟨im_X11_weightOfClass, se_X11_X11_weightOfClass, in_X11, cd_X11_weightOfClass, rfl, by decide +kernel, by decide +kernel, by decide +kernel⟩
theorem mv_X11_deliveredClasses : MV yX11_deliveredClasses cX11_deliveredClasses 1 (some .int) RX11 0 := ⟨im_X11_deliveredClasses, se_X11_X11_deliveredClasses, in_X11, cd_X11_deliveredClasses, rfl, by decide +kernel, by decide +kernel, by decide +kernel⟩
theorem mv_X11_classInOrder : MV yX11_classInOrder cX11_classInOrder 3 (some .int) RX11 1 := ⟨im_X11_classInOrder, se_X11_X11_classInOrder, in_X11, cd_X11_classInOrder, rfl, by decide +kernel, by decide +kernel, by decide +kernel⟩
theorem mv_X11_greatestClass : MV yX11_greatestClass cX11_greatestClass 1 (some .int) RX11 0 := ⟨im_X11_greatestClass, se_X11_X11_greatestClass, in_X11, cd_X11_greatestClass, rfl, by decide +kernel, by decide +kernel, by decide +kernel⟩
theorem mv_X11_plotsOf : MV yX11_plotsOf cX11_plotsOf 2 (some .int) RX11 1 := ⟨im_X11_plotsOf, se_X11_X11_plotsOf, in_X11, cd_X11_plotsOf, rfl, by decide +kernel, by decide +kernel, by decide +kernel⟩
theorem mv_X11_weightOf : MV yX11_weightOf cX11_weightOf 2 (some .int) RX11 1 := ⟨im_X11_weightOf, se_X11_X11_weightOf, in_X11, cd_X11_weightOf, rfl, by decide +kernel, by decide +kernel, by decide +kernel⟩
theorem mv_X11_owed : MV yX11_owed cX11_owed 2 (some .int) RX11 1 := ⟨im_X11_owed, se_X11_X11_owed, in_X11, cd_X11_owed, rfl, by decide +kernel, by decide +kernel, by decide +kernel⟩
theorem mv_X11_paidTo : MV yX11_paidTo cX11_paidTo 2 (some .int) RX11 1 := ⟨im_X11_paidTo, se_X11_X11_paidTo, in_X11, cd_X11_paidTo, rfl, by decide +kernel, by decide +kernel, by decide +kernel⟩
theorem mv_X11_varietiesOf : MV yX11_varietiesOf cX11_varietiesOf 2 (some .int) RX11 1 := ⟨im_X11_varietiesOf, se_X11_X11_varietiesOf, in_X11, cd_X11_varietiesOf, rfl, by decide +kernel, by decide +kernel, by decide +kernel⟩
theorem mv_X11_greatestGrower : MV yX11_greatestGrower cX11_greatestGrower 1 (some .int) RX11 0 := ⟨im_X11_greatestGrower, se_X11_X11_greatestGrower, in_X11, cd_X11_greatestGrower, rfl, by decide +kernel, by decide +kernel, by decide +kernel⟩
theorem mv_X11_yieldLimit : MV yX11_yieldLimit cX11_yieldLimit 2 (some .int) RX11 1 := ⟨im_X11_yieldLimit, se_X11_X11_yieldLimit, in_X11, cd_X11_yieldLimit, rfl, by decide +kernel, by decide +kernel, by decide +kernel⟩
theorem mv_X11_harvested : MV yX11_harvested cX11_harvested 2 (some .int) RX11 1 := ⟨im_X11_harvested, se_X11_X11_harvested, in_X11, cd_X11_harvested, rfl, by decide +kernel, by decide +kernel, by decide +kernel⟩
theorem mv_X11_yieldLeft : MV yX11_yieldLeft cX11_yieldLeft 2 (some .int) RX11 1 := ⟨im_X11_yieldLeft, se_X11_X11_yieldLeft, in_X11, cd_X11_yieldLeft, rfl, by decide +kernel, by decide +kernel, by decide +kernel⟩
theorem mv_X11_plotOfLoad : MV yX11_plotOfLoad cX11_plotOfLoad 2 (some .int) RX11 1 := ⟨im_X11_plotOfLoad, se_X11_X11_plotOfLoad, in_X11, cd_X11_plotOfLoad, rfl, by decide +kernel, by decide +kernel, by decide +kernel⟩
theorem mv_X11_classOfLoad : MV yX11_classOfLoad cX11_classOfLoad 2 (some .int) RX11 1 := ⟨im_X11_classOfLoad, se_X11_X11_classOfLoad, in_X11, cd_X11_classOfLoad, rfl, by decide +kernel, by decide +kernel, by decide +kernel⟩
theorem mv_X11_tankOfLoad : MV yX11_tankOfLoad cX11_tankOfLoad 2 (some .int) RX11 1 := ⟨im_X11_tankOfLoad, se_X11_X11_tankOfLoad, in_X11, cd_X11_tankOfLoad, rfl, by decide +kernel, by decide +kernel, by decide +kernel⟩
theorem mv_X11_valueOf : MV yX11_valueOf cX11_valueOf 2 (some .int) RX11 1 := ⟨im_X11_valueOf, se_X11_X11_valueOf, in_X11, cd_X11_valueOf, rfl, by decide +kernel, by decide +kernel, by decide +kernel⟩
theorem mv_X11_isPaid : MV yX11_isPaid cX11_isPaid 2 (some .boolean) RX11 1 := ⟨im_X11_isPaid, se_X11_X11_isPaid, in_X11, cd_X11_isPaid, rfl, by decide +kernel, by decide +kernel, by decide +kernel⟩
theorem mv_X11_isLowered : MV yX11_isLowered cX11_isLowered 3 (some .boolean) RX11 1 := ⟨im_X11_isLowered, se_X11_X11_isLowered, in_X11, cd_X11_isLowered, rfl, by decide +kernel, by decide +kernel, by decide +kernel⟩
theorem mv_X11_content : MV yX11_content cX11_content 2 (some .int) RX11 1 := ⟨im_X11_content, se_X11_X11_content, in_X11, cd_X11_content, rfl, by decide +kernel, by decide +kernel, by decide +kernel⟩
theorem mv_X11_varietyIn : MV yX11_varietyIn cX11_varietyIn 2 (some .int) RX11 1 := ⟨im_X11_varietyIn, se_X11_X11_varietyIn, in_X11, cd_X11_varietyIn, rfl, by decide +kernel, by decide +kernel, by decide +kernel⟩
theorem mv_X11_meanSugar : MV yX11_meanSugar cX11_meanSugar 2 (some .int) RX11 1 := ⟨im_X11_meanSugar, se_X11_X11_meanSugar, in_X11, cd_X11_meanSugar, rfl, by decide +kernel, by decide +kernel, by decide +kernel⟩
theorem mv_X11_tankFor : MV yX11_tankFor cX11_tankFor 3 (some .int) RX11 2 := ⟨im_X11_tankFor, se_X11_X11_tankFor, in_X11, cd_X11_tankFor, rfl, by decide +kernel, by decide +kernel, by decide +kernel⟩
theorem mv_X11_greatestLoad : MV yX11_greatestLoad cX11_greatestLoad 2 (some .int) RX11 1 := ⟨im_X11_greatestLoad, se_X11_X11_greatestLoad, in_X11, cd_X11_greatestLoad, rfl, by decide +kernel, by decide +kernel, by decide +kernel⟩
theorem mv_X11_refusal : MV yX11_refusal cX11_refusal 4 (some .int) RX11 3 := ⟨im_X11_refusal, se_X11_X11_refusal, in_X11, cd_X11_refusal, rfl, by decide +kernel, by decide +kernel, by decide +kernel⟩
theorem mv_X11_valueIfDelivered : MV yX11_valueIfDelivered cX11_valueIfDelivered 4 (some .int) RX11 3 := ⟨im_X11_valueIfDelivered, se_X11_X11_valueIfDelivered, in_X11, cd_X11_valueIfDelivered, rfl, by decide +kernel, by decide +kernel, by decide +kernel⟩
theorem mv_X11_lotVariety : MV yX11_lotVariety cX11_lotVariety 2 (some .int) RX11 1 := ⟨im_X11_lotVariety, se_X11_X11_lotVariety, in_X11, cd_X11_lotVariety, rfl, by decide +kernel, by decide +kernel, by decide +kernel⟩
theorem mv_X11_lotSugar : MV yX11_lotSugar cX11_lotSugar 2 (some .int) RX11 1 := ⟨im_X11_lotSugar, se_X11_X11_lotSugar, in_X11, cd_X11_lotSugar, rfl, by decide +kernel, by decide +kernel, by decide +kernel⟩
theorem mv_X11_unsold : MV yX11_unsold cX11_unsold 2 (some .int) RX11 1 := ⟨im_X11_unsold, se_X11_X11_unsold, in_X11, cd_X11_unsold, rfl, by decide +kernel, by decide +kernel, by decide +kernel⟩
theorem mv_X11_sweetestLot : MV yX11_sweetestLot cX11_sweetestLot 1 (some .int) RX11 0 := ⟨im_X11_sweetestLot, se_X11_X11_sweetestLot, in_X11, cd_X11_sweetestLot, rfl, by decide +kernel, by decide +kernel, by decide +kernel⟩
theorem mv_X11_bottlesOf : MV yX11_bottlesOf cX11_bottlesOf 2 (some .int) RX11 1 := ⟨im_X11_bottlesOf, se_X11_X11_bottlesOf, in_X11, cd_X11_bottlesOf, rfl, by decide +kernel, by decide +kernel, by decide +kernel⟩
theorem mv_X11_missingCash : MV yX11_missingCash cX11_missingCash 1 (some .int) RX11 0 := ⟨im_X11_missingCash, se_X11_X11_missingCash, in_X11, cd_X11_missingCash, rfl, by decide +kernel, by decide +kernel, by decide +kernel⟩
theorem mv_X11_cash : MV yX11_cash cX11_cash 1 (some .int) RX11 0 := ⟨im_X11_cash, se_X11_X11_cash, in_X11, cd_X11_cash, rfl, by decide +kernel, by decide +kernel, by decide +kernel⟩
theorem mv_X11_owedToAll : MV yX11_owedToAll cX11_owedToAll 1 (some .int) RX11 0 := ⟨im_X11_owedToAll, se_X11_X11_owedToAll, in_X11, cd_X11_owedToAll, rfl, by decide +kernel, by decide +kernel, by decide +kernel⟩
theorem mv_X11_payableGrowers : MV yX11_payableGrowers cX11_payableGrowers 1 (some .int) RX11 0 := ⟨im_X11_payableGrowers, se_X11_X11_payableGrowers, in_X11, cd_X11_payableGrowers, rfl, by decide +kernel, by decide +kernel, by decide +kernel⟩
theorem mv_X11_bottleDifference : MV yX11_bottleDifference cX11_bottleDifference 1 (some .int) RX11 0 := ⟨im_X11_bottleDifference, se_X11_X11_bottleDifference, in_X11, cd_X11_bottleDifference, rfl, by decide +kernel, by decide +kernel, by decide +kernel⟩
theorem mv_X11_cashDifference : MV yX11_cashDifference cX11_cashDifference 1 (some .int) RX11 0 := ⟨im_X11_cashDifference, se_X11_X11_cashDifference, in_X11, cd_X11_cashDifference, rfl, by decide +kernel, by decide +kernel, by decide +kernel⟩
theorem mv_X11_fullness : MV yX11_fullness cX11_fullness 2 (some .float) RX11 0 := ⟨im_X11_fullness, se_X11_X11_fullness, in_X11, cd_X11_fullness, rfl, by decide +kernel, by decide +kernel, by decide +kernel⟩
theorem mv_X11_averageSugar : MV yX11_averageSugar cX11_averageSugar 2 (some .double) RX11 0 := ⟨im_X11_averageSugar, se_X11_X11_averageSugar, in_X11, cd_X11_averageSugar, rfl, by decide +kernel, by decide +kernel, by decide +kernel⟩
theorem mv_X11_deliver : MV yX11_deliver cX11_deliver 4 (some .int) RX11 3 := ⟨im_X11_deliver, se_X11_X11_deliver, in_X11, cd_X11_deliver, rfl, by decide +kernel, by decide +kernel, by decide +kernel⟩
theorem mv_X11_setPrice : MV yX11_setPrice cX11_setPrice 5 (some .int) RX11 3 := ⟨im_X11_setPrice, se_X11_X11_setPrice, in_X11, cd_X11_setPrice, rfl, by decide +kernel, by decide +kernel, by decide +kernel⟩
theorem mv_X11_bottle : MV yX11_bottle cX11_bottle 4 (some .int) RX11 2 := ⟨im_X11_bottle, se_X11_X11_bottle, in_X11, cd_X11_bottle, rfl, by decide +kernel, by decide +kernel, by decide +kernel⟩
theorem mv_X11_sell : MV yX11_sell cX11_sell 5 (some .int) RX11 3 := ⟨im_X11_sell, se_X11_X11_sell, in_X11, cd_X11_sell, rfl, by decide +kernel, by decide +kernel, by decide +kernel⟩
theorem mv_X11_payLoad : MV yX11_payLoad cX11_payLoad 4 (some .int) RX11 1 := ⟨im_X11_payLoad, se_X11_X11_payLoad, in_X11, cd_X11_payLoad, rfl, by decide +kernel, by decide +kernel, by decide +kernel⟩
theorem mv_X11_payGrower : MV yX11_payGrower cX11_payGrower 2 (some .int) RX11 1 := ⟨im_X11_payGrower, se_X11_X11_payGrower, in_X11, cd_X11_payGrower, rfl, by decide +kernel, by decide +kernel, by decide +kernel⟩
theorem mv_X11_pump : MV yX11_pump cX11_pump 5 (some .int) RX11 2 := ⟨im_X11_pump, se_X11_X11_pump, in_X11, cd_X11_pump, rfl, by decide +kernel, by decide +kernel, by decide +kernel⟩
theorem mv_X11_undo : MV yX11_undo cX11_undo 1 (some .int) RX11 0 := ⟨im_X11_undo, se_X11_X11_undo, in_X11, cd_X11_undo, rfl, by decide +kernel, by decide +kernel, by decide +kernel⟩
theorem mv_X11_knownLoad : MV yX11_knownLoad cX11_knownLoad 2 (some (.object "WineCooperative$Load")) RX11 1 := ⟨im_X11_knownLoad, se_X11_X11_knownLoad, in_X11, cd_X11_knownLoad, rfl, by decide +kernel, by decide +kernel, by decide +kernel⟩
theorem mv_X11_knownTank : MV yX11_knownTank cX11_knownTank 2 (some (.object "WineCooperative$Tank")) RX11 1 := ⟨im_X11_knownTank, se_X11_X11_knownTank, in_X11, cd_X11_knownTank, rfl, by decide +kernel, by decide +kernel, by decide +kernel⟩
theorem mv_X11_knownLot : MV yX11_knownLot cX11_knownLot 2 (some (.object "WineCooperative$Lot")) RX11 1 := ⟨im_X11_knownLot, se_X11_X11_knownLot, in_X11, cd_X11_knownLot, rfl, by decide +kernel, by decide +kernel, by decide +kernel⟩
theorem mv_X11_needVariety : MV yX11_needVariety cX11_needVariety 2 none RX11 1 := ⟨im_X11_needVariety, se_X11_X11_needVariety, in_X11, cd_X11_needVariety, rfl, by decide +kernel, by decide +kernel, by decide +kernel⟩
theorem mv_X11_needClass : MV yX11_needClass cX11_needClass 2 none RX11 1 := ⟨im_X11_needClass, se_X11_X11_needClass, in_X11, cd_X11_needClass, rfl, by decide +kernel, by decide +kernel, by decide +kernel⟩
theorem mv_X11_needGrower : MV yX11_needGrower cX11_needGrower 2 none RX11 1 := ⟨im_X11_needGrower, se_X11_X11_needGrower, in_X11, cd_X11_needGrower, rfl, by decide +kernel, by decide +kernel, by decide +kernel⟩
theorem mv_X11_needPlot : MV yX11_needPlot cX11_needPlot 2 none RX11 1 := ⟨im_X11_needPlot, se_X11_X11_needPlot, in_X11, cd_X11_needPlot, rfl, by decide +kernel, by decide +kernel, by decide +kernel⟩
theorem ms_X11_needWeight : MS yX11_needWeight cX11_needWeight 1 none RX11 1 := ⟨st_X11_needWeight, in_X11, cd_X11_needWeight, rfl, by decide +kernel, by decide +kernel, by decide +kernel⟩
theorem ms_X11_needSugar : MS yX11_needSugar cX11_needSugar 1 none RX11 1 := ⟨st_X11_needSugar, in_X11, cd_X11_needSugar, rfl, by decide +kernel, by decide +kernel, by decide +kernel⟩
theorem ms_X11_needBottles : MS yX11_needBottles cX11_needBottles 1 none RX11 1 := ⟨st_X11_needBottles, in_X11, cd_X11_needBottles, rfl, by decide +kernel, by decide +kernel, by decide +kernel⟩
theorem ms_J6_getChars_ba4f3 : MS yJ6_getChars_ba4f3 cJ6_getChars_ba4f3 7 (some .int) RJ6 3 := ⟨st_J6_getChars_ba4f3, in_J6, cd_J6_getChars_ba4f3, rfl, by decide +kernel, by decide +kernel, by decide +kernel⟩
theorem ms_J6_stringSize_0f7a4 : MS yJ6_stringSize_0f7a4 cJ6_stringSize_0f7a4 4 (some .int) RJ6 1 := ⟨st_J6_stringSize_0f7a4, in_J6, cd_J6_stringSize_0f7a4, rfl, by decide +kernel, by decide +kernel, by decide +kernel⟩
theorem ms_J6_bitCount_0f7a4 : MS yJ6_bitCount_0f7a4 cJ6_bitCount_0f7a4 1 (some .int) RJ6 1 := ⟨st_J6_bitCount_0f7a4, in_J6, cd_J6_bitCount_0f7a4, rfl, by decide +kernel, by decide +kernel, by decide +kernel⟩
theorem mv_J0_length_8abf5 : MV yJ0_length_8abf5 cJ0_length_8abf5 1 (some .int) RJ0 0 := ⟨im_J0_length_8abf5, se_J0_J0_length_8abf5, in_J0, cd_J0_length_8abf5, rfl, by decide +kernel, by decide +kernel, by decide +kernel⟩
theorem mv_J0_charAt_5068e : MV yJ0_charAt_5068e cJ0_charAt_5068e 2 (some .char) RJ0 1 := ⟨im_J0_charAt_5068e, se_J0_J0_charAt_5068e, in_J0, cd_J0_charAt_5068e, rfl, by decide +kernel, by decide +kernel, by decide +kernel⟩
theorem mv_J0_getBytes_840e7 : MV yJ0_getBytes_840e7 cJ0_getBytes_840e7 4 none RJ0 3 := ⟨im_J0_getBytes_840e7, se_J0_J0_getBytes_840e7, in_J0, cd_J0_getBytes_840e7, rfl, by decide +kernel, by decide +kernel, by decide +kernel⟩
theorem mv_J0_coder_7d493 : MV yJ0_coder_7d493 cJ0_coder_7d493 1 (some .byte) RJ0 0 := ⟨im_J0_coder_7d493, se_J0_J0_coder_7d493, in_J0, cd_J0_coder_7d493, rfl, by decide +kernel, by decide +kernel, by decide +kernel⟩
theorem mv_J0_isLatin1_aae02 : MV yJ0_isLatin1_aae02 cJ0_isLatin1_aae02 1 (some .boolean) RJ0 0 := ⟨im_J0_isLatin1_aae02, se_J0_J0_isLatin1_aae02, in_J0, cd_J0_isLatin1_aae02, rfl, by decide +kernel, by decide +kernel, by decide +kernel⟩
theorem ms_J0_checkIndex_df160 : MS yJ0_checkIndex_df160 cJ0_checkIndex_df160 2 none RJ0 2 := ⟨st_J0_checkIndex_df160, in_J0, cd_J0_checkIndex_df160, rfl, by decide +kernel, by decide +kernel, by decide +kernel⟩
theorem ms_J0_checkBoundsOffCount_cabcc : MS yJ0_checkBoundsOffCount_cabcc cJ0_checkBoundsOffCount_cabcc 3 (some .int) RJ0 3 := ⟨st_J0_checkBoundsOffCount_cabcc, in_J0, cd_J0_checkBoundsOffCount_cabcc, rfl, by decide +kernel, by decide +kernel, by decide +kernel⟩
theorem ms_J0_checkBoundsBeginEnd_23922 : MS yJ0_checkBoundsBeginEnd_23922 cJ0_checkBoundsBeginEnd_23922 3 none RJ0 3 := ⟨st_J0_checkBoundsBeginEnd_23922, in_J0, cd_J0_checkBoundsBeginEnd_23922, rfl, by decide +kernel, by decide +kernel, by decide +kernel⟩
theorem mv_J4_append_15ec4 : MV yJ4_append_15ec4 cJ4_append_15ec4 2 (some (.object "java/lang/StringBuilder")) RJ4 1 := ⟨im_J4_append_15ec4, se_J4_J4_append_15ec4, in_J4, cd_J4_append_15ec4, rfl, by decide +kernel, by decide +kernel, by decide +kernel⟩
theorem mv_J4_append_bf812 : MV yJ4_append_bf812 cJ4_append_bf812 2 (some (.object "java/lang/StringBuilder")) RJ4 1 := ⟨im_J4_append_bf812, se_J4_J4_append_bf812, in_J4, cd_J4_append_bf812, rfl, by decide +kernel, by decide +kernel, by decide +kernel⟩
theorem mv_J4_toString_0e30d : MV yJ4_toString_0e30d cJ4_toString_0e30d 1 (some (.object "java/lang/String")) RJ4 0 := ⟨im_J4_toString_0e30d, se_J4_J4_toString_0e30d, in_J4, cd_J4_toString_0e30d, rfl, by decide +kernel, by decide +kernel, by decide +kernel⟩
theorem ms_J1_charAt_3b067 : MS yJ1_charAt_3b067 cJ1_charAt_3b067 2 (some .char) RJ1 2 := ⟨st_J1_charAt_3b067, in_J1, cd_J1_charAt_3b067, rfl, by decide +kernel, by decide +kernel, by decide +kernel⟩
theorem ms_J1_inflate_0e8fd : MS yJ1_inflate_0e8fd cJ1_inflate_0e8fd 5 none RJ1 5 := ⟨st_J1_inflate_0e8fd, in_J1, cd_J1_inflate_0e8fd, rfl, by decide +kernel, by decide +kernel, by decide +kernel⟩
theorem ms_J2_newBytesLength_0f7a4 : MS yJ2_newBytesLength_0f7a4 cJ2_newBytesLength_0f7a4 1 (some .int) RJ2 1 := ⟨st_J2_newBytesLength_0f7a4, in_J2, cd_J2_newBytesLength_0f7a4, rfl, by decide +kernel, by decide +kernel, by decide +kernel⟩
theorem ms_J2_putChar_b72d1 : MS yJ2_putChar_b72d1 cJ2_putChar_b72d1 3 none RJ2 3 := ⟨st_J2_putChar_b72d1, in_J2, cd_J2_putChar_b72d1, rfl, by decide +kernel, by decide +kernel, by decide +kernel⟩
theorem ms_J2_getChar_3b067 : MS yJ2_getChar_3b067 cJ2_getChar_3b067 2 (some .char) RJ2 2 := ⟨st_J2_getChar_3b067, in_J2, cd_J2_getChar_3b067, rfl, by decide +kernel, by decide +kernel, by decide +kernel⟩
theorem ms_J2_length_9d52b : MS yJ2_length_9d52b cJ2_length_9d52b 1 (some .int) RJ2 1 := ⟨st_J2_length_9d52b, in_J2, cd_J2_length_9d52b, rfl, by decide +kernel, by decide +kernel, by decide +kernel⟩
theorem ms_J2_coderFromArrayLen_85cad : MS yJ2_coderFromArrayLen_85cad cJ2_coderFromArrayLen_85cad 2 (some .byte) RJ2 2 := ⟨st_J2_coderFromArrayLen_85cad, in_J2, cd_J2_coderFromArrayLen_85cad, rfl, by decide +kernel, by decide +kernel, by decide +kernel⟩
theorem ms_J2_compress_5af95 : MS yJ2_compress_5af95 cJ2_compress_5af95 7 (some .int) RJ2 5 := ⟨st_J2_compress_5af95, in_J2, cd_J2_compress_5af95, rfl, by decide +kernel, by decide +kernel, by decide +kernel⟩
theorem ms_J2_getChars_46870 : MS yJ2_getChars_46870 cJ2_getChars_46870 5 (some .int) RJ2 4 := ⟨st_J2_getChars_46870, in_J2, cd_J2_getChars_46870, rfl, by decide +kernel, by decide +kernel, by decide +kernel⟩
theorem ms_J2_putCharsAt_cd4e5 : MS yJ2_putCharsAt_cd4e5 cJ2_putCharsAt_cd4e5 7 (some .int) RJ2 6 := ⟨st_J2_putCharsAt_cd4e5, in_J2, cd_J2_putCharsAt_cd4e5, rfl, by decide +kernel, by decide +kernel, by decide +kernel⟩
theorem ms_J2_charAt_3b067 : MS yJ2_charAt_3b067 cJ2_charAt_3b067 2 (some .char) RJ2 2 := ⟨st_J2_charAt_3b067, in_J2, cd_J2_charAt_3b067, rfl, by decide +kernel, by decide +kernel, by decide +kernel⟩
theorem ms_J2_inflate_0e8fd : MS yJ2_inflate_0e8fd cJ2_inflate_0e8fd 6 none RJ2 5 := ⟨st_J2_inflate_0e8fd, in_J2, cd_J2_inflate_0e8fd, rfl, by decide +kernel, by decide +kernel, by decide +kernel⟩
theorem ms_J2_getChars_ba4f3 : MS yJ2_getChars_ba4f3 cJ2_getChars_ba4f3 7 (some .int) RJ2 3 := ⟨st_J2_getChars_ba4f3, in_J2, cd_J2_getChars_ba4f3, rfl, by decide +kernel, by decide +kernel, by decide +kernel⟩
theorem ms_J2_checkIndex_2214a : MS yJ2_checkIndex_2214a cJ2_checkIndex_2214a 2 none RJ2 2 := ⟨st_J2_checkIndex_2214a, in_J2, cd_J2_checkIndex_2214a, rfl, by decide +kernel, by decide +kernel, by decide +kernel⟩
theorem ms_J2_checkBoundsBeginEnd_d044e : MS yJ2_checkBoundsBeginEnd_d044e cJ2_checkBoundsBeginEnd_d044e 3 none RJ2 3 := ⟨st_J2_checkBoundsBeginEnd_d044e, in_J2, cd_J2_checkBoundsBeginEnd_d044e, rfl, by decide +kernel, by decide +kernel, by decide +kernel⟩
theorem ms_J2_checkBoundsOffCount_d044e : MS yJ2_checkBoundsOffCount_d044e cJ2_checkBoundsOffCount_d044e 3 none RJ2 3 := ⟨st_J2_checkBoundsOffCount_d044e, in_J2, cd_J2_checkBoundsOffCount_d044e, rfl, by decide +kernel, by decide +kernel, by decide +kernel⟩
theorem ms_J7_checkLength_df160 : MS yJ7_checkLength_df160 cJ7_checkLength_df160 2 none RJ7 2 := ⟨st_J7_checkLength_df160, in_J7, cd_J7_checkLength_df160, rfl, by decide +kernel, by decide +kernel, by decide +kernel⟩
theorem ms_J8_newLength_cabcc : MS yJ8_newLength_cabcc cJ8_newLength_cabcc 4 (some .int) RJ8 3 := ⟨st_J8_newLength_cabcc, in_J8, cd_J8_newLength_cabcc, rfl, by decide +kernel, by decide +kernel, by decide +kernel⟩
theorem ms_J8_hugeLength_7cf53 : MS yJ8_hugeLength_7cf53 cJ8_hugeLength_7cf53 3 (some .int) RJ8 2 := ⟨st_J8_hugeLength_7cf53, in_J8, cd_J8_hugeLength_7cf53, rfl, by decide +kernel, by decide +kernel, by decide +kernel⟩
theorem ms_J3_checkIndex_8e157 : MS yJ3_checkIndex_8e157 cJ3_checkIndex_8e157 3 (some .int) RJ3 3 := ⟨st_J3_checkIndex_8e157, in_J3, cd_J3_checkIndex_8e157, rfl, by decide +kernel, by decide +kernel, by decide +kernel⟩
theorem ms_J3_checkFromToIndex_8c36e : MS yJ3_checkFromToIndex_8c36e cJ3_checkFromToIndex_8c36e 4 (some .int) RJ3 4 := ⟨st_J3_checkFromToIndex_8c36e, in_J3, cd_J3_checkFromToIndex_8c36e, rfl, by decide +kernel, by decide +kernel, by decide +kernel⟩
theorem ms_J3_checkFromIndexSize_8c36e : MS yJ3_checkFromIndexSize_8c36e cJ3_checkFromIndexSize_8c36e 4 (some .int) RJ3 4 := ⟨st_J3_checkFromIndexSize_8c36e, in_J3, cd_J3_checkFromIndexSize_8c36e, rfl, by decide +kernel, by decide +kernel, by decide +kernel⟩
