/-! THE FIRST TEXT: read and laid -/
def AG (X : XT) : Prop := ∀ k j i f, k ≠ 2 ∨ 2 ≤ f → k ≠ 3 → X k j i f = xI k j i f
set_option maxRecDepth 20000 in
theorem AG.x {X : XT} (h : AG X) {k j i f : Nat} {v : Int32} (e : xI k j i f = v) : AG (xs X k j i f v) := by
  intro k' j' i' f' a b
  by_cases c : k' = k ∧ j' = j ∧ i' = i ∧ f' = f
  · obtain ⟨rfl, rfl, rfl, rfl⟩ := c
    rw [xs_i]
    exact e.symm
  · rw [xs_o (by omega)]
    exact h k' j' i' f' a b
set_option maxRecDepth 20000 in
theorem BX.x {X : XT} (h : BX X) {k j i f : Nat} {v : Int32} (e : k ≠ 2 ∨ 2 ≤ f) (e3 : k ≠ 3) : BX (xs X k j i f v) := ⟨by rw [xs_o (by omega)]; exact h.1, fun q hq => by rw [xs_o (by omega)]; exact h.2 q hq⟩
set_option maxRecDepth 20000 in
theorem st_0 {X X' : XT} (a : AG X) (b : BX X) (g : FR X X') (c : CTk X' 0 11) : ST X' M00 0 0 0 0 0 0 0 11 := by
  have l : ∀ k j i f, k ≠ 2 → k ≠ 3 → X' k j i f = xI k j i f := fun k j i f q q3 => (g k j i f (Or.inl q)).trans (a k j i f (Or.inl q) q3)
  refine ⟨b.fr g, c, ⟨rfl, fun _ _ => rfl, rfl⟩, empty_ (ca := 0) (by decide) ⟨l _ _ _ _ (by decide) (by decide), l _ _ _ _ (by decide) (by decide), l _ _ _ _ (by decide) (by decide), l _ _ _ _ (by decide) (by decide), l _ _ _ _ (by decide) (by decide), l _ _ _ _ (by decide) (by decide), l _ _ _ _ (by decide) (by decide)⟩ ⟨l _ _ _ _ (by decide) (by decide), l _ _ _ _ (by decide) (by decide), l _ _ _ _ (by decide) (by decide)⟩ rfl rfl (fun q _ _ => rfl), fun i _ => Or.inl (l 22 0 i 7 (by decide) (by decide)), l 1 0 0 2 (by decide) (by decide), ⟨fun k j i f _ h2 h3 _ => l k j i f h2 h3, l 1 0 0 3 (by decide) (by decide), l 1 0 0 4 (by decide) (by decide)⟩⟩
section S4
variable {Z : XT} {ng : Nat}
set_option maxRecDepth 20000 in
theorem vz0 (h : NM Z 2 ng) : Z 13 0 0 0 = aR ∧ ∀ i, i < 0 → ¬ Z 13 0 0 i = aR := ⟨h.1 (by decide), fun i hi => absurd hi (Nat.not_lt_zero i)⟩
set_option maxRecDepth 20000 in
theorem vz1 (h : NM Z 2 ng) : Z 13 0 0 1 = aS ∧ ∀ i, i < 1 → ¬ Z 13 0 0 i = aS := ⟨h.2.1 (by decide), fun i hi => by
  obtain rfl : i = 0 := by omega
  rw [h.1 (by decide)]
  decide +kernel⟩
set_option maxRecDepth 20000 in
theorem gz0 (h : NM Z 2 2) : Z 16 0 0 0 = aA ∧ ∀ i, i < 0 → ¬ Z 16 0 0 i = aA := ⟨h.2.2.1 (by decide), fun i hi => absurd hi (Nat.not_lt_zero i)⟩
set_option maxRecDepth 20000 in
theorem gz1 (h : NM Z 2 2) : Z 16 0 0 1 = aB ∧ ∀ i, i < 1 → ¬ Z 16 0 0 i = aB := ⟨h.2.2.2 (by decide), fun i hi => by
  obtain rfl : i = 0 := by omega
  rw [h.2.2.1 (by decide)]
  decide +kernel⟩
end S4
def lw0 : Option MT := bn1 (f_X12_layVariety L0 (nI (pkN 27 [4, 5, 18])) 3) fun M1 => bn1 (f_X12_layVariety M1 (nI (pkN 27 [5, 19, 15, 18])) 4) fun M2 => bn1 (f_X12_setPriceNow M2 0 0 12) fun M3 => bn1 (f_X12_setPriceNow M3 0 1 9) fun M4 => bn1 (f_X12_setPriceNow M4 0 2 5) fun M5 => bn1 (f_X12_setPriceNow M5 1 0 10) fun M6 => bn1 (f_X12_setPriceNow M6 1 1 8) fun M7 => bn1 (f_X12_layGrower M7 (nI (pkN 27 [14, 14, 1])) 3) fun M8 => bn1 (f_X12_layGrower M8 (nI (pkN 27 [20, 18, 5, 2])) 4) fun M9 => bn1 (f_X12_layPlot M9 0 0 20) fun M10 => bn1 (f_X12_layPlot M10 1 0 10) fun M11 => bn1 (f_X12_layPlot M11 1 1 8) fun M12 => bn1 (f_X12_layTank M12 700) fun M13 => bn1 (f_X12_layTank M13 500) fun M14 => bn1 (f_X12_layTank M14 300) fun M15 => some M15
set_option maxRecDepth 20000 in
theorem lr0 : bn1 lw0 (fun M => f_X12_reasonOf M 0 400 92) = some 0 := by decide +kernel
def lw1 : Option MT := bn1 lw0 fun M => bn2 (f_X12_layLoad M 0 400 92) fun _ M1 => some M1
set_option maxRecDepth 20000 in
theorem lr1 : bn1 lw1 (fun M => f_X12_reasonOf M 1 280 78) = some 0 := by decide +kernel
def lw2 : Option MT := bn1 lw1 fun M => bn2 (f_X12_layLoad M 1 280 78) fun _ M1 => some M1
set_option maxRecDepth 20000 in
theorem lr2 : bn1 lw2 (fun M => f_X12_reasonOf M 2 200 76) = some 0 := by decide +kernel
def lw3 : Option MT := bn1 lw2 fun M => bn2 (f_X12_layLoad M 2 200 76) fun _ M1 => some M1
set_option maxRecDepth 20000 in
theorem lr3 : bn1 lw3 (fun M => f_X12_reasonOf M 1 90 95) = some 0 := by decide +kernel
set_option maxRecDepth 20000 in
theorem first_ : ∃ X1 M1, f_X11_tail xI = some X1 ∧ f_X12_layFirst M00 = some M1 ∧ RR X1 M1 := by
  obtain ⟨Y0, eT, bT, aT⟩ := text_
  obtain ⟨Y1, hY1⟩ : ∃ Z : XT, Z = xs (xs (xs (xs (xs (xs (xs (xs (xs (xs (xs (xs (xs Y0 1 0 0 3 0) 1 0 0 4 (-1)) 11 0 0 3 0) 11 0 0 4 0) 15 0 0 4 0) 15 0 0 5 0) 20 0 0 1 0) 23 0 0 2 0) 23 0 0 3 0) 10 0 0 4 0) 10 0 0 5 0) 10 0 0 6 0) 2 0 0 4 0 := ⟨_, rfl⟩
  have ag : AG Y1 := by
    rw [hY1]
    exact AG.x (AG.x (AG.x (AG.x (AG.x (AG.x (AG.x (AG.x (AG.x (AG.x (AG.x (AG.x (AG.x aT rfl) rfl) rfl) rfl) rfl) rfl) rfl) rfl) rfl) rfl) rfl) rfl) rfl
  have bx : BX Y1 := by
    rw [hY1]
    exact ((((((((((((bT.x (Or.inl (by decide)) (by decide)).x (Or.inl (by decide)) (by decide)).x (Or.inl (by decide)) (by decide)).x (Or.inl (by decide)) (by decide)).x (Or.inl (by decide)) (by decide)).x (Or.inl (by decide)) (by decide)).x (Or.inl (by decide)) (by decide)).x (Or.inl (by decide)) (by decide)).x (Or.inl (by decide)) (by decide)).x (Or.inl (by decide)) (by decide)).x (Or.inl (by decide)) (by decide)).x (Or.inl (by decide)) (by decide)).x (Or.inr (by decide)) (by decide)
  have y4 : Y1 2 0 0 4 = nI 0 := by rw [hY1]; exact xs_i
  obtain ⟨Y2, eF, fr, ct⟩ := tokX bx y4 (s := 0) (e' := 11) (by decide +kernel)
  have g0 := st_0 ag bx fr ct
  have eX : f_X8_readAll Y0 = bn2 (f_X8_readCooperative Y2) (fun r1 X5 => if r1 = 0 then (f_X8_readAll_46 2000 X5 0 0) else (bn2 (f_X8_readClasses X5) (fun r2 X6 => if r2 = 0 then (f_X8_readAll_46 2000 X6 0 0) else (f_X8_readAll_46 2000 X6 1 0)))) := by
    unfold f_X8_readAll f_X0_clear f_X0_open f_X10_toFirst
    rw [bnd_s, bnd_s, bnd_s, bnd_s, bnd_s, bnd_s, bnd_s, bnd_s, bnd_s, bnd_s, bnd_s, bnd_s, bn1_s, bn1_s, bnd_s, ← hY1, eF, bn1_s, bn1_s]
  obtain ⟨C, eC, gC⟩ := coopX g0
  obtain ⟨X0, eD, g0⟩ := classesX gC
  have N0 : NM X0 0 0 := ⟨fun h => absurd h (by decide), fun h => absurd h (by decide), fun h => absurd h (by decide), fun h => absurd h (by decide)⟩
  obtain ⟨X1, M1, a1, m1, g1, na1, nb1⟩ := c_variety g0 (by decide +kernel) (l := [4, 5, 18]) (s1 := 45) (e1 := 48) (s2 := 48) (e2 := 49) (s3 := 49) (e3 := 56) (by decide +kernel) (by decide +kernel) (by decide) (by unfold isW; decide) (fun Z h => ⟨fun i hi => absurd hi (Nat.not_lt_zero i), fun i hi => absurd hi (Nat.not_lt_zero i)⟩) N0 (by decide +kernel) ⟨by decide, by decide +kernel⟩ (by decide +kernel) (by decide)
  have N1 : NM X1 1 0 := ⟨fun _ => (na1 0).trans (if_pos rfl), fun h => absurd h (by decide), fun h => absurd h (by decide), fun h => absurd h (by decide)⟩
  have m1 : f_X12_layVariety L0 (nI (pkN 27 [4, 5, 18])) 3 = some M1 := m1
  obtain ⟨X2, M2, a2, m2, g2, na2, nb2⟩ := c_variety g1 (by decide +kernel) (l := [5, 19, 15, 18]) (s1 := 57) (e1 := 61) (s2 := 61) (e2 := 62) (s3 := 62) (e3 := 67) (by decide +kernel) (by decide +kernel) (by decide) (by unfold isW; decide) (fun Z h => ⟨fun i hi => by
    obtain rfl : i = 0 := by omega
    rw [h.1 (by decide)]
    decide +kernel, fun i hi => absurd hi (Nat.not_lt_zero i)⟩) N1 (by decide +kernel) ⟨by decide, by decide +kernel⟩ (by decide +kernel) (by decide)
  have N2 : NM X2 2 0 := ⟨fun _ => ((na2 0).trans (if_neg (by decide))).trans (N1.1 (by decide)), fun _ => (na2 1).trans (if_pos rfl), fun h => absurd h (by decide), fun h => absurd h (by decide)⟩
  have m2 : f_X12_layVariety M1 (nI (pkN 27 [5, 19, 15, 18])) 4 = some M2 := m2
  obtain ⟨X3, M3, a3, m3, g3, N3⟩ := c_price g2 N2 (by decide +kernel) (v := 0) (g := 0) (c := 12) (b := aR) (s1 := 68) (e1 := 71) (s2 := 72) (e2 := 73) (s3 := 74) (e3 := 76) (s4 := 76) (e4 := 77) (s5 := 77) (e5 := 82) (by decide +kernel) (by decide +kernel) (by decide) (fun Z h => vz0 h) (by decide +kernel) ⟨by decide, by decide +kernel, by decide +kernel⟩ (by decide) (by decide +kernel) ⟨by decide, by decide +kernel, by decide +kernel⟩ (by decide) (by decide +kernel) ⟨by decide, by decide +kernel⟩ (by decide +kernel)
  have m3 : f_X12_setPriceNow M2 0 0 12 = some M3 := m3
  obtain ⟨X4, M4, a4, m4, g4, N4⟩ := c_price g3 N3 (by decide +kernel) (v := 0) (g := 1) (c := 9) (b := aR) (s1 := 83) (e1 := 86) (s2 := 87) (e2 := 88) (s3 := 89) (e3 := 90) (s4 := 90) (e4 := 91) (s5 := 91) (e5 := 96) (by decide +kernel) (by decide +kernel) (by decide) (fun Z h => vz0 h) (by decide +kernel) ⟨by decide, by decide +kernel, by decide +kernel⟩ (by decide) (by decide +kernel) ⟨by decide, by decide +kernel, by decide +kernel⟩ (by decide) (by decide +kernel) ⟨by decide, by decide +kernel⟩ (by decide +kernel)
  have m4 : f_X12_setPriceNow M3 0 1 9 = some M4 := m4
  obtain ⟨X5, M5, a5, m5, g5, N5⟩ := c_price g4 N4 (by decide +kernel) (v := 0) (g := 2) (c := 5) (b := aR) (s1 := 97) (e1 := 100) (s2 := 101) (e2 := 102) (s3 := 103) (e3 := 104) (s4 := 104) (e4 := 105) (s5 := 105) (e5 := 110) (by decide +kernel) (by decide +kernel) (by decide) (fun Z h => vz0 h) (by decide +kernel) ⟨by decide, by decide +kernel, by decide +kernel⟩ (by decide) (by decide +kernel) ⟨by decide, by decide +kernel, by decide +kernel⟩ (by decide) (by decide +kernel) ⟨by decide, by decide +kernel⟩ (by decide +kernel)
  have m5 : f_X12_setPriceNow M4 0 2 5 = some M5 := m5
  obtain ⟨X6, M6, a6, m6, g6, N6⟩ := c_price g5 N5 (by decide +kernel) (v := 1) (g := 0) (c := 10) (b := aS) (s1 := 111) (e1 := 115) (s2 := 116) (e2 := 117) (s3 := 118) (e3 := 120) (s4 := 120) (e4 := 121) (s5 := 121) (e5 := 126) (by decide +kernel) (by decide +kernel) (by decide) (fun Z h => vz1 h) (by decide +kernel) ⟨by decide, by decide +kernel, by decide +kernel⟩ (by decide) (by decide +kernel) ⟨by decide, by decide +kernel, by decide +kernel⟩ (by decide) (by decide +kernel) ⟨by decide, by decide +kernel⟩ (by decide +kernel)
  have m6 : f_X12_setPriceNow M5 1 0 10 = some M6 := m6
  obtain ⟨X7, M7, a7, m7, g7, N7⟩ := c_price g6 N6 (by decide +kernel) (v := 1) (g := 1) (c := 8) (b := aS) (s1 := 127) (e1 := 131) (s2 := 132) (e2 := 133) (s3 := 134) (e3 := 135) (s4 := 135) (e4 := 136) (s5 := 136) (e5 := 142) (by decide +kernel) (by decide +kernel) (by decide) (fun Z h => vz1 h) (by decide +kernel) ⟨by decide, by decide +kernel, by decide +kernel⟩ (by decide) (by decide +kernel) ⟨by decide, by decide +kernel, by decide +kernel⟩ (by decide) (by decide +kernel) ⟨by decide, by decide +kernel⟩ (by decide +kernel)
  have m7 : f_X12_setPriceNow M6 1 1 8 = some M7 := m7
  obtain ⟨X8, M8, a8, m8, g8, na8, nb8⟩ := c_grower g7 (by decide +kernel) (l := [14, 14, 1]) (s1 := 143) (e1 := 146) (s2 := 146) (e2 := 147) (s3 := 147) (e3 := 153) (by decide +kernel) (by decide +kernel) (by decide) (by unfold isW; decide) (fun Z h => ⟨fun i hi => by
    have : i = 0 ∨ i = 1 := by omega
    rcases this with rfl | rfl
    · rw [h.1 (by decide)]
      decide +kernel
    · rw [h.2.1 (by decide)]
      decide +kernel, fun i hi => absurd hi (Nat.not_lt_zero i)⟩) N7 (by decide +kernel) ⟨by decide, by decide +kernel⟩ (by decide +kernel) (by decide)
  have N8 : NM X8 2 1 := ⟨fun _ => (nb8 0).trans (N7.1 (by decide)), fun _ => (nb8 1).trans (N7.2.1 (by decide)), fun _ => (na8 0).trans (if_pos rfl), fun h => absurd h (by decide)⟩
  have m8 : f_X12_layGrower M7 (nI (pkN 27 [14, 14, 1])) 3 = some M8 := m8
  obtain ⟨X9, M9, a9, m9, g9, na9, nb9⟩ := c_grower g8 (by decide +kernel) (l := [20, 18, 5, 2]) (s1 := 154) (e1 := 158) (s2 := 158) (e2 := 159) (s3 := 159) (e3 := 163) (by decide +kernel) (by decide +kernel) (by decide) (by unfold isW; decide) (fun Z h => ⟨fun i hi => by
    have : i = 0 ∨ i = 1 := by omega
    rcases this with rfl | rfl
    · rw [h.1 (by decide)]
      decide +kernel
    · rw [h.2.1 (by decide)]
      decide +kernel, fun i hi => by
    obtain rfl : i = 0 := by omega
    rw [h.2.2.1 (by decide)]
    decide +kernel⟩) N8 (by decide +kernel) ⟨by decide, by decide +kernel⟩ (by decide +kernel) (by decide)
  have N9 : NM X9 2 2 := ⟨fun _ => (nb9 0).trans (N8.1 (by decide)), fun _ => (nb9 1).trans (N8.2.1 (by decide)), fun _ => ((na9 0).trans (if_neg (by decide))).trans (N8.2.2.1 (by decide)), fun _ => (na9 1).trans (if_pos rfl)⟩
  have m9 : f_X12_layGrower M8 (nI (pkN 27 [20, 18, 5, 2])) 4 = some M9 := m9
  obtain ⟨X10, M10, a10, m10, g10, N10⟩ := c_plot g9 N9 (by decide +kernel) (o := 0) (v := 0) (q := 20) (a := aA) (b := aR) (s1 := 164) (e1 := 167) (s2 := 168) (e2 := 171) (s3 := 172) (e3 := 174) (s4 := 174) (e4 := 175) (s5 := 175) (e5 := 179) (by decide +kernel) (by decide +kernel) (by decide) (fun Z h => gz0 h) (by decide +kernel) (by decide +kernel) (by decide) (fun Z h => vz0 h) (by decide +kernel) ⟨by decide, by decide +kernel, by decide +kernel⟩ (by decide) (by decide +kernel) ⟨by decide, by decide +kernel⟩ (by decide +kernel) (by decide)
  have m10 : f_X12_layPlot M9 0 0 20 = some M10 := m10
  obtain ⟨X11, M11, a11, m11, g11, N11⟩ := c_plot g10 N10 (by decide +kernel) (o := 1) (v := 0) (q := 10) (a := aB) (b := aR) (s1 := 180) (e1 := 184) (s2 := 185) (e2 := 188) (s3 := 189) (e3 := 191) (s4 := 191) (e4 := 192) (s5 := 192) (e5 := 196) (by decide +kernel) (by decide +kernel) (by decide) (fun Z h => gz1 h) (by decide +kernel) (by decide +kernel) (by decide) (fun Z h => vz0 h) (by decide +kernel) ⟨by decide, by decide +kernel, by decide +kernel⟩ (by decide) (by decide +kernel) ⟨by decide, by decide +kernel⟩ (by decide +kernel) (by decide)
  have m11 : f_X12_layPlot M10 1 0 10 = some M11 := m11
  obtain ⟨X12, M12, a12, m12, g12, N12⟩ := c_plot g11 N11 (by decide +kernel) (o := 1) (v := 1) (q := 8) (a := aB) (b := aS) (s1 := 197) (e1 := 201) (s2 := 202) (e2 := 206) (s3 := 207) (e3 := 208) (s4 := 208) (e4 := 209) (s5 := 209) (e5 := 213) (by decide +kernel) (by decide +kernel) (by decide) (fun Z h => gz1 h) (by decide +kernel) (by decide +kernel) (by decide) (fun Z h => vz1 h) (by decide +kernel) ⟨by decide, by decide +kernel, by decide +kernel⟩ (by decide) (by decide +kernel) ⟨by decide, by decide +kernel⟩ (by decide +kernel) (by decide)
  have m12 : f_X12_layPlot M11 1 1 8 = some M12 := m12
  obtain ⟨X13, M13, a13, m13, g13⟩ := c_tank g12 (by decide +kernel) (ca := 700) (s1 := 214) (e1 := 217) (s2 := 217) (e2 := 218) (s3 := 218) (e3 := 222) (by decide +kernel) ⟨by decide, by decide +kernel, by decide +kernel⟩ (by decide) (by decide +kernel) ⟨by decide, by decide +kernel⟩ (by decide +kernel) (by decide)
  have m13 : f_X12_layTank M12 700 = some M13 := m13
  obtain ⟨X14, M14, a14, m14, g14⟩ := c_tank g13 (by decide +kernel) (ca := 500) (s1 := 223) (e1 := 226) (s2 := 226) (e2 := 227) (s3 := 227) (e3 := 231) (by decide +kernel) ⟨by decide, by decide +kernel, by decide +kernel⟩ (by decide) (by decide +kernel) ⟨by decide, by decide +kernel⟩ (by decide +kernel) (by decide)
  have m14 : f_X12_layTank M13 500 = some M14 := m14
  obtain ⟨X15, M15, a15, m15, g15⟩ := c_tank g14 (by decide +kernel) (ca := 300) (s1 := 232) (e1 := 235) (s2 := 235) (e2 := 236) (s3 := 236) (e3 := 240) (by decide +kernel) ⟨by decide, by decide +kernel, by decide +kernel⟩ (by decide) (by decide +kernel) ⟨by decide, by decide +kernel⟩ (by decide +kernel) (by decide)
  have m15 : f_X12_layTank M14 300 = some M15 := m15
  have q0 : lw0 = some M15 := by
    unfold lw0
    rw [m1, bn1_s, m2, bn1_s, m3, bn1_s, m4, bn1_s, m5, bn1_s, m6, bn1_s, m7, bn1_s, m8, bn1_s, m9, bn1_s, m10, bn1_s, m11, bn1_s, m12, bn1_s, m13, bn1_s, m14, bn1_s, m15, bn1_s]
  have r0 := lr0
  rw [q0, bn1_s] at r0
  obtain ⟨X16, M16, c16, a16, m16, g16⟩ := c_load g15 (by decide +kernel) (p := 0) (a := 400) (u := 92) (s1 := 241) (e1 := 242) (s2 := 243) (e2 := 246) (s3 := 247) (e3 := 249) (s4 := 249) (e4 := 250) (s5 := 250) (e5 := 254) (by decide +kernel) ⟨by decide, by decide +kernel, by decide +kernel⟩ (by decide) (by decide +kernel) ⟨by decide, by decide +kernel, by decide +kernel⟩ (by decide) (by decide +kernel) ⟨by decide, by decide +kernel, by decide +kernel⟩ (by decide) (by decide +kernel) ⟨by decide, by decide +kernel⟩ (by decide +kernel) r0
  have m16 : f_X12_layLoad M15 0 400 92 = some (c16, M16) := m16
  have q1 : lw1 = some M16 := by
    unfold lw1
    rw [q0, bn1_s, m16, bn2_s]
  have r1 := lr1
  rw [q1, bn1_s] at r1
  obtain ⟨X17, M17, c17, a17, m17, g17⟩ := c_load g16 (by decide +kernel) (p := 1) (a := 280) (u := 78) (s1 := 255) (e1 := 256) (s2 := 257) (e2 := 260) (s3 := 261) (e3 := 263) (s4 := 263) (e4 := 264) (s5 := 264) (e5 := 268) (by decide +kernel) ⟨by decide, by decide +kernel, by decide +kernel⟩ (by decide) (by decide +kernel) ⟨by decide, by decide +kernel, by decide +kernel⟩ (by decide) (by decide +kernel) ⟨by decide, by decide +kernel, by decide +kernel⟩ (by decide) (by decide +kernel) ⟨by decide, by decide +kernel⟩ (by decide +kernel) r1
  have m17 : f_X12_layLoad M16 1 280 78 = some (c17, M17) := m17
  have q2 : lw2 = some M17 := by
    unfold lw2
    rw [q1, bn1_s, m17, bn2_s]
  have r2 := lr2
  rw [q2, bn1_s] at r2
  obtain ⟨X18, M18, c18, a18, m18, g18⟩ := c_load g17 (by decide +kernel) (p := 2) (a := 200) (u := 76) (s1 := 269) (e1 := 270) (s2 := 271) (e2 := 274) (s3 := 275) (e3 := 277) (s4 := 277) (e4 := 278) (s5 := 278) (e5 := 282) (by decide +kernel) ⟨by decide, by decide +kernel, by decide +kernel⟩ (by decide) (by decide +kernel) ⟨by decide, by decide +kernel, by decide +kernel⟩ (by decide) (by decide +kernel) ⟨by decide, by decide +kernel, by decide +kernel⟩ (by decide) (by decide +kernel) ⟨by decide, by decide +kernel⟩ (by decide +kernel) r2
  have m18 : f_X12_layLoad M17 2 200 76 = some (c18, M18) := m18
  have q3 : lw3 = some M18 := by
    unfold lw3
    rw [q2, bn1_s, m18, bn2_s]
  have r3 := lr3
  rw [q3, bn1_s] at r3
  obtain ⟨X19, M19, c19, a19, m19, g19⟩ := c_load g18 (by decide +kernel) (p := 1) (a := 90) (u := 95) (s1 := 283) (e1 := 284) (s2 := 285) (e2 := 287) (s3 := 288) (e3 := 290) (s4 := 290) (e4 := 291) (s5 := 291) (e5 := 291) (by decide +kernel) ⟨by decide, by decide +kernel, by decide +kernel⟩ (by decide) (by decide +kernel) ⟨by decide, by decide +kernel, by decide +kernel⟩ (by decide) (by decide +kernel) ⟨by decide, by decide +kernel, by decide +kernel⟩ (by decide) (by decide +kernel) ⟨by decide, by decide +kernel⟩ (by decide +kernel) r3
  have m19 : f_X12_layLoad M18 1 90 95 = some (c19, M19) := m19
  have eR : f_X8_readAll Y0 = some (1, xs X19 2 0 0 1 0) := by
    rw [eX, eC, bn2_s, if_neg (by decide), eD, bn2_s, if_neg (by decide)]
    show f_X8_readAll_46 2000 X0 1 (nI 0) = _
    rw [ra_step (g0.k2 (by decide) (by decide +kernel)) a1 (by decide), ra_step (g1.k2 (by decide) (by decide +kernel)) a2 (by decide), ra_step (g2.k2 (by decide) (by decide +kernel)) a3 (by decide), ra_step (g3.k2 (by decide) (by decide +kernel)) a4 (by decide), ra_step (g4.k2 (by decide) (by decide +kernel)) a5 (by decide), ra_step (g5.k2 (by decide) (by decide +kernel)) a6 (by decide), ra_step (g6.k2 (by decide) (by decide +kernel)) a7 (by decide), ra_step (g7.k2 (by decide) (by decide +kernel)) a8 (by decide), ra_step (g8.k2 (by decide) (by decide +kernel)) a9 (by decide), ra_step (g9.k2 (by decide) (by decide +kernel)) a10 (by decide), ra_step (g10.k2 (by decide) (by decide +kernel)) a11 (by decide), ra_step (g11.k2 (by decide) (by decide +kernel)) a12 (by decide), ra_step (g12.k2 (by decide) (by decide +kernel)) a13 (by decide), ra_step (g13.k2 (by decide) (by decide +kernel)) a14 (by decide), ra_step (g14.k2 (by decide) (by decide +kernel)) a15 (by decide), ra_step (g15.k2 (by decide) (by decide +kernel)) a16 (by decide), ra_step (g16.k2 (by decide) (by decide +kernel)) a17 (by decide), ra_step (g17.k2 (by decide) (by decide +kernel)) a18 (by decide), ra_step (g18.k2 (by decide) (by decide +kernel)) a19 (by decide)]
    exact ra_end (g19.2.1.2.2.1 rfl) (by decide) _
  obtain ⟨X, hX⟩ : ∃ Z : XT, Z = X19 := ⟨_, rfl⟩
  rw [← hX] at eR g19
  have bo : ∀ i, i < 20 → (xs X 2 0 0 1 0) 22 0 i 7 = 0 ∨ (xs X 2 0 0 1 0) 22 0 i 7 = 1 := fun i hi => by rw [xs_o (by omega)]; exact g19.2.2.2.2.1 i hi
  obtain ⟨X8, e8, cp⟩ := cp_X0 (X := xs X 2 0 0 1 0) (j := 1) (j1 := 0) (by decide) bo
  have eM : f_X12_layFirst M00 = some M19 := by
    unfold f_X12_layFirst
    rw [bnd_s, bnd_s, bnd_s, bnd_s, bnd_s, bnd_s, bnd_s]
    show bn1 (f_X12_spell 18) (fun r1 => bn1 (f_X12_layVariety L0 (r1.toInt32) 3) _) = _
    have s18 : f_X12_spell 18 = some (lN (pkN 27 [4, 5, 18])) := by decide +kernel
    have s19 : f_X12_spell 19 = some (lN (pkN 27 [5, 19, 15, 18])) := by decide +kernel
    have s20 : f_X12_spell 20 = some (lN (pkN 27 [14, 14, 1])) := by decide +kernel
    have s21 : f_X12_spell 21 = some (lN (pkN 27 [20, 18, 5, 2])) := by decide +kernel
    rw [s18, bn1_s, l2i (k := pkN 27 [4, 5, 18]) (by decide), m1, bn1_s, s19, bn1_s, l2i (k := pkN 27 [5, 19, 15, 18]) (by decide), m2, bn1_s, m3, bn1_s, m4, bn1_s, m5, bn1_s, m6, bn1_s, m7, bn1_s, s20, bn1_s, l2i (k := pkN 27 [14, 14, 1]) (by decide), m8, bn1_s, s21, bn1_s, l2i (k := pkN 27 [20, 18, 5, 2]) (by decide), m9, bn1_s, m10, bn1_s, m11, bn1_s, m12, bn1_s, m13, bn1_s, m14, bn1_s, m15, bn1_s, m16, bn2_s, m17, bn2_s, m18, bn2_s, m19, bn2_s]
  refine ⟨X8, M19, ?_, eM, ?_⟩
  · unfold f_X11_tail
    rw [eT, eR, bn2_s, e8, bn1_s]
  obtain ⟨h1, h2, ⟨h3, h3a, h3b⟩, h4, h5, h6, h7, h8, h9⟩ := g19
  have c1 : ∀ k j i f, j ≠ 1 → X8 k j i f = (xs X 2 0 0 1 0) k j i f := fun k j i f q => cp.2 k j i f (Or.inl q)
  have c2 : ∀ k j i f, j ≠ 1 → k ≠ 1 → k ≠ 2 → k ≠ 3 → (j ≠ 0 ∨ k < 10) → X8 k j i f = xI k j i f := fun k j i f q q1 q2 q3 q4 => by
    rw [c1 k j i f q, xs_o (by omega)]
    exact h7 k j i f q1 q2 q3 q4
  have m0 : ∀ k q, k ≠ 1 → M19.1 k q = M00.1 k q := fun k q hk => by rw [h3a k hk]
  refine ⟨h3, ?_, ?_, ?_, ⟨?_, ?_⟩, ?_, ?_, ?_, ?_⟩
  · intro j hj i hi
    by_cases q0 : j = 0
    · subst q0
      rw [c1 _ _ _ _ (by decide)]
      exact bo i hi
    by_cases q1 : j = 1
    · subst q1
      rw [cp.1 22 i 7 ⟨hi, by decide⟩]
      exact bo i hi
    · exact Or.inl (c2 22 j i 7 q1 (by decide) (by decide) (by decide) (Or.inl q0))
  · have b : BRn (xs X 2 0 0 1 0) 0 (M19.1 1) 3 2 2 3 4 3 0 := h4.eq fun k i f hq => xs_o (by
      have : k ≠ 2 := by rintro rfl; exact hq
      omega)
    exact ⟨_, _, _, _, _, _, _, b.eq fun k i f hq => cp.1 k i f hq⟩
  · refine ⟨0, by decide, ?_, ?_, fun i hi => absurd hi (Nat.not_lt_zero i)⟩
    · rw [c1 _ _ _ _ (by decide), xs_i]; rfl
    · rw [m0 _ _ (by decide)]; rfl
  · rw [c1 _ _ _ _ (by decide), xs_o (by omega), h8, m0 _ _ (by decide)]; rfl
  · rw [c1 _ _ _ _ (by decide), xs_o (by omega), h9, m0 _ _ (by decide)]; rfl
  · refine ⟨0, 0, by decide, by decide, ?_, ?_, ?_, fun t ht => absurd ht (Nat.not_lt_zero t)⟩
    · rw [c2 _ _ _ _ (by decide) (by decide) (by decide) (by decide) (Or.inr (by decide))]; rfl
    · rw [c2 _ _ _ _ (by decide) (by decide) (by decide) (by decide) (Or.inr (by decide))]; rfl
    · rw [m0 _ _ (by decide)]; rfl
  · refine ⟨0, 0, by decide, by decide, ?_, ?_, ?_, fun q => absurd q (by decide), fun q => absurd q (by decide)⟩
    · rw [c2 _ _ _ _ (by decide) (by decide) (by decide) (by decide) (Or.inr (by decide))]; rfl
    · rw [c2 _ _ _ _ (by decide) (by decide) (by decide) (by decide) (Or.inr (by decide))]; rfl
    · rw [m0 _ _ (by decide)]; rfl
  · refine ⟨0, by decide, ?_, ?_, fun q hq => absurd hq (Nat.not_lt_zero q)⟩
    · rw [c2 _ _ _ _ (by decide) (by decide) (by decide) (by decide) (Or.inr (by decide))]; rfl
    · rw [m0 _ _ (by decide)]; rfl
  · intro i hi
    rw [h3b]
    have : ∀ i, i < 12 → M00.2.1 (14 + i) = lN (pkN 27 (wdN i)) := by decide +kernel
    exact this i hi
