theorem am_ok0 : am_okP am_N0 := ⟨fun pc e he => by
  by_cases h0 : pc < 25
  · exact am_okR_at am_ok0_0 (by omega) (by omega) he
  by_cases h25 : pc < 50
  · exact am_okR_at am_ok0_25 (by omega) (by omega) he
  by_cases h50 : pc < 75
  · exact am_okR_at am_ok0_50 (by omega) (by omega) he
  by_cases h75 : pc < 100
  · exact am_okR_at am_ok0_75 (by omega) (by omega) he
  by_cases h100 : pc < 125
  · exact am_okR_at am_ok0_100 (by omega) (by omega) he
  by_cases h125 : pc < 150
  · exact am_okR_at am_ok0_125 (by omega) (by omega) he
  by_cases h150 : pc < 175
  · exact am_okR_at am_ok0_150 (by omega) (by omega) he
  by_cases h175 : pc < 200
  · exact am_okR_at am_ok0_175 (by omega) (by omega) he
  by_cases h200 : pc < 225
  · exact am_okR_at am_ok0_200 (by omega) (by omega) he
  by_cases h225 : pc < 250
  · exact am_okR_at am_ok0_225 (by omega) (by omega) he
  by_cases h250 : pc < 275
  · exact am_okR_at am_ok0_250 (by omega) (by omega) he
  by_cases h275 : pc < 300
  · exact am_okR_at am_ok0_275 (by omega) (by omega) he
  by_cases h300 : pc < 325
  · exact am_okR_at am_ok0_300 (by omega) (by omega) he
  by_cases h325 : pc < 350
  · exact am_okR_at am_ok0_325 (by omega) (by omega) he
  by_cases h350 : pc < 375
  · exact am_okR_at am_ok0_350 (by omega) (by omega) he
  by_cases h375 : pc < 400
  · exact am_okR_at am_ok0_375 (by omega) (by omega) he
  by_cases h400 : pc < 425
  · exact am_okR_at am_ok0_400 (by omega) (by omega) he
  by_cases h425 : pc < 450
  · exact am_okR_at am_ok0_425 (by omega) (by omega) he
  by_cases h450 : pc < 475
  · exact am_okR_at am_ok0_450 (by omega) (by omega) he
  by_cases h475 : pc < 500
  · exact am_okR_at am_ok0_475 (by omega) (by omega) he
  by_cases h500 : pc < 525
  · exact am_okR_at am_ok0_500 (by omega) (by omega) he
  by_cases h525 : pc < 550
  · exact am_okR_at am_ok0_525 (by omega) (by omega) he
  by_cases h550 : pc < 575
  · exact am_okR_at am_ok0_550 (by omega) (by omega) he
  by_cases h575 : pc < 600
  · exact am_okR_at am_ok0_575 (by omega) (by omega) he
  by_cases h600 : pc < 625
  · exact am_okR_at am_ok0_600 (by omega) (by omega) he
  by_cases h625 : pc < 650
  · exact am_okR_at am_ok0_625 (by omega) (by omega) he
  by_cases h650 : pc < 675
  · exact am_okR_at am_ok0_650 (by omega) (by omega) he
  by_cases h675 : pc < 700
  · exact am_okR_at am_ok0_675 (by omega) (by omega) he
  by_cases h700 : pc < 725
  · exact am_okR_at am_ok0_700 (by omega) (by omega) he
  by_cases h725 : pc < 750
  · exact am_okR_at am_ok0_725 (by omega) (by omega) he
  by_cases h750 : pc < 775
  · exact am_okR_at am_ok0_750 (by omega) (by omega) he
  by_cases h775 : pc < 800
  · exact am_okR_at am_ok0_775 (by omega) (by omega) he
  by_cases h800 : pc < 825
  · exact am_okR_at am_ok0_800 (by omega) (by omega) he
  by_cases h825 : pc < 850
  · exact am_okR_at am_ok0_825 (by omega) (by omega) he
  by_cases h850 : pc < 875
  · exact am_okR_at am_ok0_850 (by omega) (by omega) he
  by_cases h875 : pc < 900
  · exact am_okR_at am_ok0_875 (by omega) (by omega) he
  by_cases h900 : pc < 925
  · exact am_okR_at am_ok0_900 (by omega) (by omega) he
  by_cases h925 : pc < 950
  · exact am_okR_at am_ok0_925 (by omega) (by omega) he
  by_cases h950 : pc < 975
  · exact am_okR_at am_ok0_950 (by omega) (by omega) he
  by_cases h975 : pc < 1000
  · exact am_okR_at am_ok0_975 (by omega) (by omega) he
  by_cases h1000 : pc < 1025
  · exact am_okR_at am_ok0_1000 (by omega) (by omega) he
  by_cases h1025 : pc < 1050
  · exact am_okR_at am_ok0_1025 (by omega) (by omega) he
  by_cases h1050 : pc < 1075
  · exact am_okR_at am_ok0_1050 (by omega) (by omega) he
  by_cases h1075 : pc < 1100
  · exact am_okR_at am_ok0_1075 (by omega) (by omega) he
  by_cases h1100 : pc < 1125
  · exact am_okR_at am_ok0_1100 (by omega) (by omega) he
  by_cases h1125 : pc < 1150
  · exact am_okR_at am_ok0_1125 (by omega) (by omega) he
  by_cases h1150 : pc < 1175
  · exact am_okR_at am_ok0_1150 (by omega) (by omega) he
  by_cases h1175 : pc < 1200
  · exact am_okR_at am_ok0_1175 (by omega) (by omega) he
  by_cases h1200 : pc < 1225
  · exact am_okR_at am_ok0_1200 (by omega) (by omega) he
  by_cases h1225 : pc < 1250
  · exact am_okR_at am_ok0_1225 (by omega) (by omega) he
  by_cases h1250 : pc < 1275
  · exact am_okR_at am_ok0_1250 (by omega) (by omega) he
  by_cases h1275 : pc < 1300
  · exact am_okR_at am_ok0_1275 (by omega) (by omega) he
  by_cases h1300 : pc < 1325
  · exact am_okR_at am_ok0_1300 (by omega) (by omega) he
  have hn : Nat.blt pc 1325 = false := Bool.eq_false_iff.mpr fun h => h1300 (by have := Nat.le_of_ble_eq_true h; omega)
  have h9 : am_J0 pc = none := by
    unfold am_J0
    rw [hn]
    rfl
  exact absurd (he.symm.trans h9) (fun h => by cases h), by decide +kernel⟩
theorem am_ok1 : am_okP am_N1 := ⟨fun pc e he => by
  by_cases h0 : pc < 17
  · exact am_okR_at am_ok1_0 (by omega) (by omega) he
  have hn : Nat.blt pc 17 = false := Bool.eq_false_iff.mpr fun h => h0 (by have := Nat.le_of_ble_eq_true h; omega)
  have h9 : am_J1 pc = none := by
    unfold am_J1
    rw [hn]
    rfl
  exact absurd (he.symm.trans h9) (fun h => by cases h), by decide +kernel⟩
theorem am_ok2 : am_okP am_N2 := ⟨fun pc e he => by
  by_cases h0 : pc < 34
  · exact am_okR_at am_ok2_0 (by omega) (by omega) he
  have hn : Nat.blt pc 34 = false := Bool.eq_false_iff.mpr fun h => h0 (by have := Nat.le_of_ble_eq_true h; omega)
  have h9 : am_J2 pc = none := by
    unfold am_J2
    rw [hn]
    rfl
  exact absurd (he.symm.trans h9) (fun h => by cases h), by decide +kernel⟩
theorem am_ok3 : am_okP am_N3 := ⟨fun pc e he => by
  by_cases h0 : pc < 24
  · exact am_okR_at am_ok3_0 (by omega) (by omega) he
  have hn : Nat.blt pc 24 = false := Bool.eq_false_iff.mpr fun h => h0 (by have := Nat.le_of_ble_eq_true h; omega)
  have h9 : am_J3 pc = none := by
    unfold am_J3
    rw [hn]
    rfl
  exact absurd (he.symm.trans h9) (fun h => by cases h), by decide +kernel⟩
theorem am_ok4 : am_okP am_N4 := ⟨fun pc e he => by
  by_cases h0 : pc < 43
  · exact am_okR_at am_ok4_0 (by omega) (by omega) he
  have hn : Nat.blt pc 43 = false := Bool.eq_false_iff.mpr fun h => h0 (by have := Nat.le_of_ble_eq_true h; omega)
  have h9 : am_J4 pc = none := by
    unfold am_J4
    rw [hn]
    rfl
  exact absurd (he.symm.trans h9) (fun h => by cases h), by decide +kernel⟩
theorem am_ok5 : am_okP am_N5 := ⟨fun pc e he => by
  by_cases h0 : pc < 38
  · exact am_okR_at am_ok5_0 (by omega) (by omega) he
  have hn : Nat.blt pc 38 = false := Bool.eq_false_iff.mpr fun h => h0 (by have := Nat.le_of_ble_eq_true h; omega)
  have h9 : am_J5 pc = none := by
    unfold am_J5
    rw [hn]
    rfl
  exact absurd (he.symm.trans h9) (fun h => by cases h), by decide +kernel⟩
theorem am_ok6 : am_okP am_N6 := ⟨fun pc e he => by
  by_cases h0 : pc < 64
  · exact am_okR_at am_ok6_0 (by omega) (by omega) he
  by_cases h64 : pc < 108
  · exact am_okR_at am_ok6_64 (by omega) (by omega) he
  have hn : Nat.blt pc 108 = false := Bool.eq_false_iff.mpr fun h => h64 (by have := Nat.le_of_ble_eq_true h; omega)
  have h9 : am_J6 pc = none := by
    unfold am_J6
    rw [hn]
    rfl
  exact absurd (he.symm.trans h9) (fun h => by cases h), by decide +kernel⟩
theorem am_ok7 : am_okP am_N7 := ⟨fun pc e he => by
  by_cases h0 : pc < 54
  · exact am_okR_at am_ok7_0 (by omega) (by omega) he
  have hn : Nat.blt pc 54 = false := Bool.eq_false_iff.mpr fun h => h0 (by have := Nat.le_of_ble_eq_true h; omega)
  have h9 : am_J7 pc = none := by
    unfold am_J7
    rw [hn]
    rfl
  exact absurd (he.symm.trans h9) (fun h => by cases h), by decide +kernel⟩
theorem am_ok8 : am_okP am_N8 := ⟨fun pc e he => by
  by_cases h0 : pc < 64
  · exact am_okR_at am_ok8_0 (by omega) (by omega) he
  by_cases h64 : pc < 82
  · exact am_okR_at am_ok8_64 (by omega) (by omega) he
  have hn : Nat.blt pc 82 = false := Bool.eq_false_iff.mpr fun h => h64 (by have := Nat.le_of_ble_eq_true h; omega)
  have h9 : am_J8 pc = none := by
    unfold am_J8
    rw [hn]
    rfl
  exact absurd (he.symm.trans h9) (fun h => by cases h), by decide +kernel⟩
theorem am_ok9 : am_okP am_N9 := ⟨fun pc e he => by
  by_cases h0 : pc < 45
  · exact am_okR_at am_ok9_0 (by omega) (by omega) he
  have hn : Nat.blt pc 45 = false := Bool.eq_false_iff.mpr fun h => h0 (by have := Nat.le_of_ble_eq_true h; omega)
  have h9 : am_J9 pc = none := by
    unfold am_J9
    rw [hn]
    rfl
  exact absurd (he.symm.trans h9) (fun h => by cases h), by decide +kernel⟩
theorem am_ok10 : am_okP am_N10 := ⟨fun pc e he => by
  by_cases h0 : pc < 64
  · exact am_okR_at am_ok10_0 (by omega) (by omega) he
  by_cases h64 : pc < 69
  · exact am_okR_at am_ok10_64 (by omega) (by omega) he
  have hn : Nat.blt pc 69 = false := Bool.eq_false_iff.mpr fun h => h64 (by have := Nat.le_of_ble_eq_true h; omega)
  have h9 : am_J10 pc = none := by
    unfold am_J10
    rw [hn]
    rfl
  exact absurd (he.symm.trans h9) (fun h => by cases h), by decide +kernel⟩
theorem am_ok11 : am_okP am_N11 := ⟨fun pc e he => by
  by_cases h0 : pc < 44
  · exact am_okR_at am_ok11_0 (by omega) (by omega) he
  have hn : Nat.blt pc 44 = false := Bool.eq_false_iff.mpr fun h => h0 (by have := Nat.le_of_ble_eq_true h; omega)
  have h9 : am_J11 pc = none := by
    unfold am_J11
    rw [hn]
    rfl
  exact absurd (he.symm.trans h9) (fun h => by cases h), by decide +kernel⟩
theorem am_ok12 : am_okP am_N12 := ⟨fun pc e he => by
  by_cases h0 : pc < 39
  · exact am_okR_at am_ok12_0 (by omega) (by omega) he
  have hn : Nat.blt pc 39 = false := Bool.eq_false_iff.mpr fun h => h0 (by have := Nat.le_of_ble_eq_true h; omega)
  have h9 : am_J12 pc = none := by
    unfold am_J12
    rw [hn]
    rfl
  exact absurd (he.symm.trans h9) (fun h => by cases h), by decide +kernel⟩
theorem am_ok13 : am_okP am_N13 := ⟨fun pc e he => by
  by_cases h0 : pc < 15
  · exact am_okR_at am_ok13_0 (by omega) (by omega) he
  have hn : Nat.blt pc 15 = false := Bool.eq_false_iff.mpr fun h => h0 (by have := Nat.le_of_ble_eq_true h; omega)
  have h9 : am_J13 pc = none := by
    unfold am_J13
    rw [hn]
    rfl
  exact absurd (he.symm.trans h9) (fun h => by cases h), by decide +kernel⟩
theorem am_ok14 : am_okP am_N14 := ⟨fun pc e he => by
  by_cases h0 : pc < 6
  · exact am_okR_at am_ok14_0 (by omega) (by omega) he
  have hn : Nat.blt pc 6 = false := Bool.eq_false_iff.mpr fun h => h0 (by have := Nat.le_of_ble_eq_true h; omega)
  have h9 : am_J14 pc = none := by
    unfold am_J14
    rw [hn]
    rfl
  exact absurd (he.symm.trans h9) (fun h => by cases h), by decide +kernel⟩
theorem am_ok15 : am_okP am_N15 := ⟨fun pc e he => by
  by_cases h0 : pc < 44
  · exact am_okR_at am_ok15_0 (by omega) (by omega) he
  have hn : Nat.blt pc 44 = false := Bool.eq_false_iff.mpr fun h => h0 (by have := Nat.le_of_ble_eq_true h; omega)
  have h9 : am_J15 pc = none := by
    unfold am_J15
    rw [hn]
    rfl
  exact absurd (he.symm.trans h9) (fun h => by cases h), by decide +kernel⟩
theorem am_ok16 : am_okP am_N16 := ⟨fun pc e he => by
  by_cases h0 : pc < 45
  · exact am_okR_at am_ok16_0 (by omega) (by omega) he
  have hn : Nat.blt pc 45 = false := Bool.eq_false_iff.mpr fun h => h0 (by have := Nat.le_of_ble_eq_true h; omega)
  have h9 : am_J16 pc = none := by
    unfold am_J16
    rw [hn]
    rfl
  exact absurd (he.symm.trans h9) (fun h => by cases h), by decide +kernel⟩
theorem am_ok17 : am_okP am_N17 := ⟨fun pc e he => by
  by_cases h0 : pc < 53
  · exact am_okR_at am_ok17_0 (by omega) (by omega) he
  have hn : Nat.blt pc 53 = false := Bool.eq_false_iff.mpr fun h => h0 (by have := Nat.le_of_ble_eq_true h; omega)
  have h9 : am_J17 pc = none := by
    unfold am_J17
    rw [hn]
    rfl
  exact absurd (he.symm.trans h9) (fun h => by cases h), by decide +kernel⟩
theorem am_ok18 : am_okP am_N18 := ⟨fun pc e he => by
  by_cases h0 : pc < 64
  · exact am_okR_at am_ok18_0 (by omega) (by omega) he
  by_cases h64 : pc < 128
  · exact am_okR_at am_ok18_64 (by omega) (by omega) he
  by_cases h128 : pc < 192
  · exact am_okR_at am_ok18_128 (by omega) (by omega) he
  by_cases h192 : pc < 212
  · exact am_okR_at am_ok18_192 (by omega) (by omega) he
  have hn : Nat.blt pc 212 = false := Bool.eq_false_iff.mpr fun h => h192 (by have := Nat.le_of_ble_eq_true h; omega)
  have h9 : am_J18 pc = none := by
    unfold am_J18
    rw [hn]
    rfl
  exact absurd (he.symm.trans h9) (fun h => by cases h), by decide +kernel⟩
theorem am_ok19 : am_okP am_N19 := ⟨fun pc e he => by
  by_cases h0 : pc < 64
  · exact am_okR_at am_ok19_0 (by omega) (by omega) he
  by_cases h64 : pc < 128
  · exact am_okR_at am_ok19_64 (by omega) (by omega) he
  by_cases h128 : pc < 181
  · exact am_okR_at am_ok19_128 (by omega) (by omega) he
  have hn : Nat.blt pc 181 = false := Bool.eq_false_iff.mpr fun h => h128 (by have := Nat.le_of_ble_eq_true h; omega)
  have h9 : am_J19 pc = none := by
    unfold am_J19
    rw [hn]
    rfl
  exact absurd (he.symm.trans h9) (fun h => by cases h), by decide +kernel⟩
theorem am_ok20 : am_okP am_N20 := ⟨fun pc e he => by
  by_cases h0 : pc < 64
  · exact am_okR_at am_ok20_0 (by omega) (by omega) he
  by_cases h64 : pc < 76
  · exact am_okR_at am_ok20_64 (by omega) (by omega) he
  have hn : Nat.blt pc 76 = false := Bool.eq_false_iff.mpr fun h => h64 (by have := Nat.le_of_ble_eq_true h; omega)
  have h9 : am_J20 pc = none := by
    unfold am_J20
    rw [hn]
    rfl
  exact absurd (he.symm.trans h9) (fun h => by cases h), by decide +kernel⟩
theorem am_ok21 : am_okP am_N21 := ⟨fun pc e he => by
  by_cases h0 : pc < 64
  · exact am_okR_at am_ok21_0 (by omega) (by omega) he
  by_cases h64 : pc < 103
  · exact am_okR_at am_ok21_64 (by omega) (by omega) he
  have hn : Nat.blt pc 103 = false := Bool.eq_false_iff.mpr fun h => h64 (by have := Nat.le_of_ble_eq_true h; omega)
  have h9 : am_J21 pc = none := by
    unfold am_J21
    rw [hn]
    rfl
  exact absurd (he.symm.trans h9) (fun h => by cases h), by decide +kernel⟩
theorem am_ok22 : am_okP am_N22 := ⟨fun pc e he => by
  by_cases h0 : pc < 42
  · exact am_okR_at am_ok22_0 (by omega) (by omega) he
  have hn : Nat.blt pc 42 = false := Bool.eq_false_iff.mpr fun h => h0 (by have := Nat.le_of_ble_eq_true h; omega)
  have h9 : am_J22 pc = none := by
    unfold am_J22
    rw [hn]
    rfl
  exact absurd (he.symm.trans h9) (fun h => by cases h), by decide +kernel⟩
theorem am_ok23 : am_okP am_N23 := ⟨fun pc e he => by
  by_cases h0 : pc < 21
  · exact am_okR_at am_ok23_0 (by omega) (by omega) he
  have hn : Nat.blt pc 21 = false := Bool.eq_false_iff.mpr fun h => h0 (by have := Nat.le_of_ble_eq_true h; omega)
  have h9 : am_J23 pc = none := by
    unfold am_J23
    rw [hn]
    rfl
  exact absurd (he.symm.trans h9) (fun h => by cases h), by decide +kernel⟩
theorem am_ok24 : am_okP am_N24 := ⟨fun pc e he => by
  by_cases h0 : pc < 16
  · exact am_okR_at am_ok24_0 (by omega) (by omega) he
  have hn : Nat.blt pc 16 = false := Bool.eq_false_iff.mpr fun h => h0 (by have := Nat.le_of_ble_eq_true h; omega)
  have h9 : am_J24 pc = none := by
    unfold am_J24
    rw [hn]
    rfl
  exact absurd (he.symm.trans h9) (fun h => by cases h), by decide +kernel⟩
theorem am_ok25 : am_okP am_N25 := ⟨fun pc e he => by
  by_cases h0 : pc < 10
  · exact am_okR_at am_ok25_0 (by omega) (by omega) he
  have hn : Nat.blt pc 10 = false := Bool.eq_false_iff.mpr fun h => h0 (by have := Nat.le_of_ble_eq_true h; omega)
  have h9 : am_J25 pc = none := by
    unfold am_J25
    rw [hn]
    rfl
  exact absurd (he.symm.trans h9) (fun h => by cases h), by decide +kernel⟩
theorem am_ok26 : am_okP am_N26 := ⟨fun pc e he => by
  by_cases h0 : pc < 35
  · exact am_okR_at am_ok26_0 (by omega) (by omega) he
  have hn : Nat.blt pc 35 = false := Bool.eq_false_iff.mpr fun h => h0 (by have := Nat.le_of_ble_eq_true h; omega)
  have h9 : am_J26 pc = none := by
    unfold am_J26
    rw [hn]
    rfl
  exact absurd (he.symm.trans h9) (fun h => by cases h), by decide +kernel⟩
theorem am_ok27 : am_okP am_N27 := ⟨fun pc e he => by
  by_cases h0 : pc < 34
  · exact am_okR_at am_ok27_0 (by omega) (by omega) he
  have hn : Nat.blt pc 34 = false := Bool.eq_false_iff.mpr fun h => h0 (by have := Nat.le_of_ble_eq_true h; omega)
  have h9 : am_J27 pc = none := by
    unfold am_J27
    rw [hn]
    rfl
  exact absurd (he.symm.trans h9) (fun h => by cases h), by decide +kernel⟩
theorem am_ok28 : am_okP am_N28 := ⟨fun pc e he => by
  by_cases h0 : pc < 29
  · exact am_okR_at am_ok28_0 (by omega) (by omega) he
  have hn : Nat.blt pc 29 = false := Bool.eq_false_iff.mpr fun h => h0 (by have := Nat.le_of_ble_eq_true h; omega)
  have h9 : am_J28 pc = none := by
    unfold am_J28
    rw [hn]
    rfl
  exact absurd (he.symm.trans h9) (fun h => by cases h), by decide +kernel⟩
theorem am_ok29 : am_okP am_N29 := ⟨fun pc e he => by
  by_cases h0 : pc < 29
  · exact am_okR_at am_ok29_0 (by omega) (by omega) he
  have hn : Nat.blt pc 29 = false := Bool.eq_false_iff.mpr fun h => h0 (by have := Nat.le_of_ble_eq_true h; omega)
  have h9 : am_J29 pc = none := by
    unfold am_J29
    rw [hn]
    rfl
  exact absurd (he.symm.trans h9) (fun h => by cases h), by decide +kernel⟩
theorem am_ok30 : am_okP am_N30 := ⟨fun pc e he => by
  by_cases h0 : pc < 64
  · exact am_okR_at am_ok30_0 (by omega) (by omega) he
  by_cases h64 : pc < 73
  · exact am_okR_at am_ok30_64 (by omega) (by omega) he
  have hn : Nat.blt pc 73 = false := Bool.eq_false_iff.mpr fun h => h64 (by have := Nat.le_of_ble_eq_true h; omega)
  have h9 : am_J30 pc = none := by
    unfold am_J30
    rw [hn]
    rfl
  exact absurd (he.symm.trans h9) (fun h => by cases h), by decide +kernel⟩
theorem am_ok31 : am_okP am_N31 := ⟨fun pc e he => by
  by_cases h0 : pc < 64
  · exact am_okR_at am_ok31_0 (by omega) (by omega) he
  by_cases h64 : pc < 85
  · exact am_okR_at am_ok31_64 (by omega) (by omega) he
  have hn : Nat.blt pc 85 = false := Bool.eq_false_iff.mpr fun h => h64 (by have := Nat.le_of_ble_eq_true h; omega)
  have h9 : am_J31 pc = none := by
    unfold am_J31
    rw [hn]
    rfl
  exact absurd (he.symm.trans h9) (fun h => by cases h), by decide +kernel⟩
theorem am_ok32 : am_okP am_N32 := ⟨fun pc e he => by
  by_cases h0 : pc < 64
  · exact am_okR_at am_ok32_0 (by omega) (by omega) he
  by_cases h64 : pc < 109
  · exact am_okR_at am_ok32_64 (by omega) (by omega) he
  have hn : Nat.blt pc 109 = false := Bool.eq_false_iff.mpr fun h => h64 (by have := Nat.le_of_ble_eq_true h; omega)
  have h9 : am_J32 pc = none := by
    unfold am_J32
    rw [hn]
    rfl
  exact absurd (he.symm.trans h9) (fun h => by cases h), by decide +kernel⟩
theorem am_ok33 : am_okP am_N33 := ⟨fun pc e he => by
  by_cases h0 : pc < 62
  · exact am_okR_at am_ok33_0 (by omega) (by omega) he
  have hn : Nat.blt pc 62 = false := Bool.eq_false_iff.mpr fun h => h0 (by have := Nat.le_of_ble_eq_true h; omega)
  have h9 : am_J33 pc = none := by
    unfold am_J33
    rw [hn]
    rfl
  exact absurd (he.symm.trans h9) (fun h => by cases h), by decide +kernel⟩
theorem am_ok34 : am_okP am_N34 := ⟨fun pc e he => by
  by_cases h0 : pc < 30
  · exact am_okR_at am_ok34_0 (by omega) (by omega) he
  have hn : Nat.blt pc 30 = false := Bool.eq_false_iff.mpr fun h => h0 (by have := Nat.le_of_ble_eq_true h; omega)
  have h9 : am_J34 pc = none := by
    unfold am_J34
    rw [hn]
    rfl
  exact absurd (he.symm.trans h9) (fun h => by cases h), by decide +kernel⟩
theorem am_ok35 : am_okP am_N35 := ⟨fun pc e he => by
  by_cases h0 : pc < 39
  · exact am_okR_at am_ok35_0 (by omega) (by omega) he
  have hn : Nat.blt pc 39 = false := Bool.eq_false_iff.mpr fun h => h0 (by have := Nat.le_of_ble_eq_true h; omega)
  have h9 : am_J35 pc = none := by
    unfold am_J35
    rw [hn]
    rfl
  exact absurd (he.symm.trans h9) (fun h => by cases h), by decide +kernel⟩
theorem am_ok36 : am_okP am_N36 := ⟨fun pc e he => by
  by_cases h0 : pc < 48
  · exact am_okR_at am_ok36_0 (by omega) (by omega) he
  have hn : Nat.blt pc 48 = false := Bool.eq_false_iff.mpr fun h => h0 (by have := Nat.le_of_ble_eq_true h; omega)
  have h9 : am_J36 pc = none := by
    unfold am_J36
    rw [hn]
    rfl
  exact absurd (he.symm.trans h9) (fun h => by cases h), by decide +kernel⟩
theorem am_ok37 : am_okP am_N37 := ⟨fun pc e he => by
  by_cases h0 : pc < 64
  · exact am_okR_at am_ok37_0 (by omega) (by omega) he
  by_cases h64 : pc < 93
  · exact am_okR_at am_ok37_64 (by omega) (by omega) he
  have hn : Nat.blt pc 93 = false := Bool.eq_false_iff.mpr fun h => h64 (by have := Nat.le_of_ble_eq_true h; omega)
  have h9 : am_J37 pc = none := by
    unfold am_J37
    rw [hn]
    rfl
  exact absurd (he.symm.trans h9) (fun h => by cases h), by decide +kernel⟩
theorem am_ok38 : am_okP am_N38 := ⟨fun pc e he => by
  by_cases h0 : pc < 36
  · exact am_okR_at am_ok38_0 (by omega) (by omega) he
  have hn : Nat.blt pc 36 = false := Bool.eq_false_iff.mpr fun h => h0 (by have := Nat.le_of_ble_eq_true h; omega)
  have h9 : am_J38 pc = none := by
    unfold am_J38
    rw [hn]
    rfl
  exact absurd (he.symm.trans h9) (fun h => by cases h), by decide +kernel⟩
theorem am_ok39 : am_okP am_N39 := ⟨fun pc e he => by
  by_cases h0 : pc < 46
  · exact am_okR_at am_ok39_0 (by omega) (by omega) he
  have hn : Nat.blt pc 46 = false := Bool.eq_false_iff.mpr fun h => h0 (by have := Nat.le_of_ble_eq_true h; omega)
  have h9 : am_J39 pc = none := by
    unfold am_J39
    rw [hn]
    rfl
  exact absurd (he.symm.trans h9) (fun h => by cases h), by decide +kernel⟩
theorem am_ok40 : am_okP am_N40 := ⟨fun pc e he => by
  by_cases h0 : pc < 64
  · exact am_okR_at am_ok40_0 (by omega) (by omega) he
  by_cases h64 : pc < 84
  · exact am_okR_at am_ok40_64 (by omega) (by omega) he
  have hn : Nat.blt pc 84 = false := Bool.eq_false_iff.mpr fun h => h64 (by have := Nat.le_of_ble_eq_true h; omega)
  have h9 : am_J40 pc = none := by
    unfold am_J40
    rw [hn]
    rfl
  exact absurd (he.symm.trans h9) (fun h => by cases h), by decide +kernel⟩
theorem am_ok41 : am_okP am_N41 := ⟨fun pc e he => by
  by_cases h0 : pc < 38
  · exact am_okR_at am_ok41_0 (by omega) (by omega) he
  have hn : Nat.blt pc 38 = false := Bool.eq_false_iff.mpr fun h => h0 (by have := Nat.le_of_ble_eq_true h; omega)
  have h9 : am_J41 pc = none := by
    unfold am_J41
    rw [hn]
    rfl
  exact absurd (he.symm.trans h9) (fun h => by cases h), by decide +kernel⟩
theorem am_ok42 : am_okP am_N42 := ⟨fun pc e he => by
  by_cases h0 : pc < 64
  · exact am_okR_at am_ok42_0 (by omega) (by omega) he
  by_cases h64 : pc < 93
  · exact am_okR_at am_ok42_64 (by omega) (by omega) he
  have hn : Nat.blt pc 93 = false := Bool.eq_false_iff.mpr fun h => h64 (by have := Nat.le_of_ble_eq_true h; omega)
  have h9 : am_J42 pc = none := by
    unfold am_J42
    rw [hn]
    rfl
  exact absurd (he.symm.trans h9) (fun h => by cases h), by decide +kernel⟩
theorem am_ok43 : am_okP am_N43 := ⟨fun pc e he => by
  by_cases h0 : pc < 64
  · exact am_okR_at am_ok43_0 (by omega) (by omega) he
  by_cases h64 : pc < 128
  · exact am_okR_at am_ok43_64 (by omega) (by omega) he
  by_cases h128 : pc < 152
  · exact am_okR_at am_ok43_128 (by omega) (by omega) he
  have hn : Nat.blt pc 152 = false := Bool.eq_false_iff.mpr fun h => h128 (by have := Nat.le_of_ble_eq_true h; omega)
  have h9 : am_J43 pc = none := by
    unfold am_J43
    rw [hn]
    rfl
  exact absurd (he.symm.trans h9) (fun h => by cases h), by decide +kernel⟩
theorem am_ok44 : am_okP am_N44 := ⟨fun pc e he => by
  by_cases h0 : pc < 40
  · exact am_okR_at am_ok44_0 (by omega) (by omega) he
  have hn : Nat.blt pc 40 = false := Bool.eq_false_iff.mpr fun h => h0 (by have := Nat.le_of_ble_eq_true h; omega)
  have h9 : am_J44 pc = none := by
    unfold am_J44
    rw [hn]
    rfl
  exact absurd (he.symm.trans h9) (fun h => by cases h), by decide +kernel⟩
theorem am_ok45 : am_okP am_N45 := ⟨fun pc e he => by
  by_cases h0 : pc < 59
  · exact am_okR_at am_ok45_0 (by omega) (by omega) he
  have hn : Nat.blt pc 59 = false := Bool.eq_false_iff.mpr fun h => h0 (by have := Nat.le_of_ble_eq_true h; omega)
  have h9 : am_J45 pc = none := by
    unfold am_J45
    rw [hn]
    rfl
  exact absurd (he.symm.trans h9) (fun h => by cases h), by decide +kernel⟩
theorem am_ok46 : am_okP am_N46 := ⟨fun pc e he => by
  by_cases h0 : pc < 18
  · exact am_okR_at am_ok46_0 (by omega) (by omega) he
  have hn : Nat.blt pc 18 = false := Bool.eq_false_iff.mpr fun h => h0 (by have := Nat.le_of_ble_eq_true h; omega)
  have h9 : am_J46 pc = none := by
    unfold am_J46
    rw [hn]
    rfl
  exact absurd (he.symm.trans h9) (fun h => by cases h), by decide +kernel⟩
theorem am_ok47 : am_okP am_N47 := ⟨fun pc e he => by
  by_cases h0 : pc < 64
  · exact am_okR_at am_ok47_0 (by omega) (by omega) he
  by_cases h64 : pc < 104
  · exact am_okR_at am_ok47_64 (by omega) (by omega) he
  have hn : Nat.blt pc 104 = false := Bool.eq_false_iff.mpr fun h => h64 (by have := Nat.le_of_ble_eq_true h; omega)
  have h9 : am_J47 pc = none := by
    unfold am_J47
    rw [hn]
    rfl
  exact absurd (he.symm.trans h9) (fun h => by cases h), by decide +kernel⟩
theorem am_ok48 : am_okP am_N48 := ⟨fun pc e he => by
  by_cases h0 : pc < 21
  · exact am_okR_at am_ok48_0 (by omega) (by omega) he
  have hn : Nat.blt pc 21 = false := Bool.eq_false_iff.mpr fun h => h0 (by have := Nat.le_of_ble_eq_true h; omega)
  have h9 : am_J48 pc = none := by
    unfold am_J48
    rw [hn]
    rfl
  exact absurd (he.symm.trans h9) (fun h => by cases h), by decide +kernel⟩
theorem am_ok49 : am_okP am_N49 := ⟨fun pc e he => by
  by_cases h0 : pc < 41
  · exact am_okR_at am_ok49_0 (by omega) (by omega) he
  have hn : Nat.blt pc 41 = false := Bool.eq_false_iff.mpr fun h => h0 (by have := Nat.le_of_ble_eq_true h; omega)
  have h9 : am_J49 pc = none := by
    unfold am_J49
    rw [hn]
    rfl
  exact absurd (he.symm.trans h9) (fun h => by cases h), by decide +kernel⟩
theorem am_ok50 : am_okP am_N50 := ⟨fun pc e he => by
  by_cases h0 : pc < 41
  · exact am_okR_at am_ok50_0 (by omega) (by omega) he
  have hn : Nat.blt pc 41 = false := Bool.eq_false_iff.mpr fun h => h0 (by have := Nat.le_of_ble_eq_true h; omega)
  have h9 : am_J50 pc = none := by
    unfold am_J50
    rw [hn]
    rfl
  exact absurd (he.symm.trans h9) (fun h => by cases h), by decide +kernel⟩
theorem am_ok51 : am_okP am_N51 := ⟨fun pc e he => by
  by_cases h0 : pc < 19
  · exact am_okR_at am_ok51_0 (by omega) (by omega) he
  have hn : Nat.blt pc 19 = false := Bool.eq_false_iff.mpr fun h => h0 (by have := Nat.le_of_ble_eq_true h; omega)
  have h9 : am_J51 pc = none := by
    unfold am_J51
    rw [hn]
    rfl
  exact absurd (he.symm.trans h9) (fun h => by cases h), by decide +kernel⟩
theorem am_ok52 : am_okP am_N52 := ⟨fun pc e he => by
  by_cases h0 : pc < 64
  · exact am_okR_at am_ok52_0 (by omega) (by omega) he
  by_cases h64 : pc < 81
  · exact am_okR_at am_ok52_64 (by omega) (by omega) he
  have hn : Nat.blt pc 81 = false := Bool.eq_false_iff.mpr fun h => h64 (by have := Nat.le_of_ble_eq_true h; omega)
  have h9 : am_J52 pc = none := by
    unfold am_J52
    rw [hn]
    rfl
  exact absurd (he.symm.trans h9) (fun h => by cases h), by decide +kernel⟩
theorem am_ok53 : am_okP am_N53 := ⟨fun pc e he => by
  by_cases h0 : pc < 64
  · exact am_okR_at am_ok53_0 (by omega) (by omega) he
  by_cases h64 : pc < 69
  · exact am_okR_at am_ok53_64 (by omega) (by omega) he
  have hn : Nat.blt pc 69 = false := Bool.eq_false_iff.mpr fun h => h64 (by have := Nat.le_of_ble_eq_true h; omega)
  have h9 : am_J53 pc = none := by
    unfold am_J53
    rw [hn]
    rfl
  exact absurd (he.symm.trans h9) (fun h => by cases h), by decide +kernel⟩
theorem am_ok54 : am_okP am_N54 := ⟨fun pc e he => by
  by_cases h0 : pc < 19
  · exact am_okR_at am_ok54_0 (by omega) (by omega) he
  have hn : Nat.blt pc 19 = false := Bool.eq_false_iff.mpr fun h => h0 (by have := Nat.le_of_ble_eq_true h; omega)
  have h9 : am_J54 pc = none := by
    unfold am_J54
    rw [hn]
    rfl
  exact absurd (he.symm.trans h9) (fun h => by cases h), by decide +kernel⟩
theorem am_ok55 : am_okP am_N55 := ⟨fun pc e he => by
  by_cases h0 : pc < 42
  · exact am_okR_at am_ok55_0 (by omega) (by omega) he
  have hn : Nat.blt pc 42 = false := Bool.eq_false_iff.mpr fun h => h0 (by have := Nat.le_of_ble_eq_true h; omega)
  have h9 : am_J55 pc = none := by
    unfold am_J55
    rw [hn]
    rfl
  exact absurd (he.symm.trans h9) (fun h => by cases h), by decide +kernel⟩
theorem am_ok56 : am_okP am_N56 := ⟨fun pc e he => by
  by_cases h0 : pc < 44
  · exact am_okR_at am_ok56_0 (by omega) (by omega) he
  have hn : Nat.blt pc 44 = false := Bool.eq_false_iff.mpr fun h => h0 (by have := Nat.le_of_ble_eq_true h; omega)
  have h9 : am_J56 pc = none := by
    unfold am_J56
    rw [hn]
    rfl
  exact absurd (he.symm.trans h9) (fun h => by cases h), by decide +kernel⟩
theorem am_ok57 : am_okP am_N57 := ⟨fun pc e he => by
  by_cases h0 : pc < 23
  · exact am_okR_at am_ok57_0 (by omega) (by omega) he
  have hn : Nat.blt pc 23 = false := Bool.eq_false_iff.mpr fun h => h0 (by have := Nat.le_of_ble_eq_true h; omega)
  have h9 : am_J57 pc = none := by
    unfold am_J57
    rw [hn]
    rfl
  exact absurd (he.symm.trans h9) (fun h => by cases h), by decide +kernel⟩
theorem am_ok58 : am_okP am_N58 := ⟨fun pc e he => by
  by_cases h0 : pc < 13
  · exact am_okR_at am_ok58_0 (by omega) (by omega) he
  have hn : Nat.blt pc 13 = false := Bool.eq_false_iff.mpr fun h => h0 (by have := Nat.le_of_ble_eq_true h; omega)
  have h9 : am_J58 pc = none := by
    unfold am_J58
    rw [hn]
    rfl
  exact absurd (he.symm.trans h9) (fun h => by cases h), by decide +kernel⟩
theorem am_ok59 : am_okP am_N59 := ⟨fun pc e he => by
  by_cases h0 : pc < 19
  · exact am_okR_at am_ok59_0 (by omega) (by omega) he
  have hn : Nat.blt pc 19 = false := Bool.eq_false_iff.mpr fun h => h0 (by have := Nat.le_of_ble_eq_true h; omega)
  have h9 : am_J59 pc = none := by
    unfold am_J59
    rw [hn]
    rfl
  exact absurd (he.symm.trans h9) (fun h => by cases h), by decide +kernel⟩
theorem am_ok60 : am_okP am_N60 := ⟨fun pc e he => by
  by_cases h0 : pc < 41
  · exact am_okR_at am_ok60_0 (by omega) (by omega) he
  have hn : Nat.blt pc 41 = false := Bool.eq_false_iff.mpr fun h => h0 (by have := Nat.le_of_ble_eq_true h; omega)
  have h9 : am_J60 pc = none := by
    unfold am_J60
    rw [hn]
    rfl
  exact absurd (he.symm.trans h9) (fun h => by cases h), by decide +kernel⟩
theorem am_ok61 : am_okP am_N61 := ⟨fun pc e he => by
  by_cases h0 : pc < 32
  · exact am_okR_at am_ok61_0 (by omega) (by omega) he
  have hn : Nat.blt pc 32 = false := Bool.eq_false_iff.mpr fun h => h0 (by have := Nat.le_of_ble_eq_true h; omega)
  have h9 : am_J61 pc = none := by
    unfold am_J61
    rw [hn]
    rfl
  exact absurd (he.symm.trans h9) (fun h => by cases h), by decide +kernel⟩
theorem am_ok62 : am_okP am_N62 := ⟨fun pc e he => by
  by_cases h0 : pc < 29
  · exact am_okR_at am_ok62_0 (by omega) (by omega) he
  have hn : Nat.blt pc 29 = false := Bool.eq_false_iff.mpr fun h => h0 (by have := Nat.le_of_ble_eq_true h; omega)
  have h9 : am_J62 pc = none := by
    unfold am_J62
    rw [hn]
    rfl
  exact absurd (he.symm.trans h9) (fun h => by cases h), by decide +kernel⟩
theorem am_ok63 : am_okP am_N63 := ⟨fun pc e he => by
  by_cases h0 : pc < 25
  · exact am_okR_at am_ok63_0 (by omega) (by omega) he
  have hn : Nat.blt pc 25 = false := Bool.eq_false_iff.mpr fun h => h0 (by have := Nat.le_of_ble_eq_true h; omega)
  have h9 : am_J63 pc = none := by
    unfold am_J63
    rw [hn]
    rfl
  exact absurd (he.symm.trans h9) (fun h => by cases h), by decide +kernel⟩
theorem am_ok64 : am_okP am_N64 := ⟨fun pc e he => by
  by_cases h0 : pc < 49
  · exact am_okR_at am_ok64_0 (by omega) (by omega) he
  have hn : Nat.blt pc 49 = false := Bool.eq_false_iff.mpr fun h => h0 (by have := Nat.le_of_ble_eq_true h; omega)
  have h9 : am_J64 pc = none := by
    unfold am_J64
    rw [hn]
    rfl
  exact absurd (he.symm.trans h9) (fun h => by cases h), by decide +kernel⟩
theorem am_ok65 : am_okP am_N65 := ⟨fun pc e he => by
  by_cases h0 : pc < 48
  · exact am_okR_at am_ok65_0 (by omega) (by omega) he
  have hn : Nat.blt pc 48 = false := Bool.eq_false_iff.mpr fun h => h0 (by have := Nat.le_of_ble_eq_true h; omega)
  have h9 : am_J65 pc = none := by
    unfold am_J65
    rw [hn]
    rfl
  exact absurd (he.symm.trans h9) (fun h => by cases h), by decide +kernel⟩
theorem am_ok66 : am_okP am_N66 := ⟨fun pc e he => by
  by_cases h0 : pc < 64
  · exact am_okR_at am_ok66_0 (by omega) (by omega) he
  by_cases h64 : pc < 101
  · exact am_okR_at am_ok66_64 (by omega) (by omega) he
  have hn : Nat.blt pc 101 = false := Bool.eq_false_iff.mpr fun h => h64 (by have := Nat.le_of_ble_eq_true h; omega)
  have h9 : am_J66 pc = none := by
    unfold am_J66
    rw [hn]
    rfl
  exact absurd (he.symm.trans h9) (fun h => by cases h), by decide +kernel⟩
theorem am_ok67 : am_okP am_N67 := ⟨fun pc e he => by
  by_cases h0 : pc < 56
  · exact am_okR_at am_ok67_0 (by omega) (by omega) he
  have hn : Nat.blt pc 56 = false := Bool.eq_false_iff.mpr fun h => h0 (by have := Nat.le_of_ble_eq_true h; omega)
  have h9 : am_J67 pc = none := by
    unfold am_J67
    rw [hn]
    rfl
  exact absurd (he.symm.trans h9) (fun h => by cases h), by decide +kernel⟩
theorem am_ok68 : am_okP am_N68 := ⟨fun pc e he => by
  by_cases h0 : pc < 33
  · exact am_okR_at am_ok68_0 (by omega) (by omega) he
  have hn : Nat.blt pc 33 = false := Bool.eq_false_iff.mpr fun h => h0 (by have := Nat.le_of_ble_eq_true h; omega)
  have h9 : am_J68 pc = none := by
    unfold am_J68
    rw [hn]
    rfl
  exact absurd (he.symm.trans h9) (fun h => by cases h), by decide +kernel⟩
theorem am_ok69 : am_okP am_N69 := ⟨fun pc e he => by
  by_cases h0 : pc < 64
  · exact am_okR_at am_ok69_0 (by omega) (by omega) he
  by_cases h64 : pc < 104
  · exact am_okR_at am_ok69_64 (by omega) (by omega) he
  have hn : Nat.blt pc 104 = false := Bool.eq_false_iff.mpr fun h => h64 (by have := Nat.le_of_ble_eq_true h; omega)
  have h9 : am_J69 pc = none := by
    unfold am_J69
    rw [hn]
    rfl
  exact absurd (he.symm.trans h9) (fun h => by cases h), by decide +kernel⟩
theorem am_ok70 : am_okP am_N70 := ⟨fun pc e he => by
  by_cases h0 : pc < 62
  · exact am_okR_at am_ok70_0 (by omega) (by omega) he
  have hn : Nat.blt pc 62 = false := Bool.eq_false_iff.mpr fun h => h0 (by have := Nat.le_of_ble_eq_true h; omega)
  have h9 : am_J70 pc = none := by
    unfold am_J70
    rw [hn]
    rfl
  exact absurd (he.symm.trans h9) (fun h => by cases h), by decide +kernel⟩
theorem am_ok71 : am_okP am_N71 := ⟨fun pc e he => by
  by_cases h0 : pc < 64
  · exact am_okR_at am_ok71_0 (by omega) (by omega) he
  by_cases h64 : pc < 93
  · exact am_okR_at am_ok71_64 (by omega) (by omega) he
  have hn : Nat.blt pc 93 = false := Bool.eq_false_iff.mpr fun h => h64 (by have := Nat.le_of_ble_eq_true h; omega)
  have h9 : am_J71 pc = none := by
    unfold am_J71
    rw [hn]
    rfl
  exact absurd (he.symm.trans h9) (fun h => by cases h), by decide +kernel⟩
theorem am_ok72 : am_okP am_N72 := ⟨fun pc e he => by
  by_cases h0 : pc < 64
  · exact am_okR_at am_ok72_0 (by omega) (by omega) he
  by_cases h64 : pc < 82
  · exact am_okR_at am_ok72_64 (by omega) (by omega) he
  have hn : Nat.blt pc 82 = false := Bool.eq_false_iff.mpr fun h => h64 (by have := Nat.le_of_ble_eq_true h; omega)
  have h9 : am_J72 pc = none := by
    unfold am_J72
    rw [hn]
    rfl
  exact absurd (he.symm.trans h9) (fun h => by cases h), by decide +kernel⟩
theorem am_ok73 : am_okP am_N73 := ⟨fun pc e he => by
  by_cases h0 : pc < 64
  · exact am_okR_at am_ok73_0 (by omega) (by omega) he
  by_cases h64 : pc < 109
  · exact am_okR_at am_ok73_64 (by omega) (by omega) he
  have hn : Nat.blt pc 109 = false := Bool.eq_false_iff.mpr fun h => h64 (by have := Nat.le_of_ble_eq_true h; omega)
  have h9 : am_J73 pc = none := by
    unfold am_J73
    rw [hn]
    rfl
  exact absurd (he.symm.trans h9) (fun h => by cases h), by decide +kernel⟩
theorem am_ok74 : am_okP am_N74 := ⟨fun pc e he => by
  by_cases h0 : pc < 64
  · exact am_okR_at am_ok74_0 (by omega) (by omega) he
  by_cases h64 : pc < 79
  · exact am_okR_at am_ok74_64 (by omega) (by omega) he
  have hn : Nat.blt pc 79 = false := Bool.eq_false_iff.mpr fun h => h64 (by have := Nat.le_of_ble_eq_true h; omega)
  have h9 : am_J74 pc = none := by
    unfold am_J74
    rw [hn]
    rfl
  exact absurd (he.symm.trans h9) (fun h => by cases h), by decide +kernel⟩
theorem am_ok75 : am_okP am_N75 := ⟨fun pc e he => by
  by_cases h0 : pc < 16
  · exact am_okR_at am_ok75_0 (by omega) (by omega) he
  have hn : Nat.blt pc 16 = false := Bool.eq_false_iff.mpr fun h => h0 (by have := Nat.le_of_ble_eq_true h; omega)
  have h9 : am_J75 pc = none := by
    unfold am_J75
    rw [hn]
    rfl
  exact absurd (he.symm.trans h9) (fun h => by cases h), by decide +kernel⟩
theorem am_ok76 : am_okP am_N76 := ⟨fun pc e he => by
  by_cases h0 : pc < 16
  · exact am_okR_at am_ok76_0 (by omega) (by omega) he
  have hn : Nat.blt pc 16 = false := Bool.eq_false_iff.mpr fun h => h0 (by have := Nat.le_of_ble_eq_true h; omega)
  have h9 : am_J76 pc = none := by
    unfold am_J76
    rw [hn]
    rfl
  exact absurd (he.symm.trans h9) (fun h => by cases h), by decide +kernel⟩
theorem am_ok77 : am_okP am_N77 := ⟨fun pc e he => by
  by_cases h0 : pc < 64
  · exact am_okR_at am_ok77_0 (by omega) (by omega) he
  have hn : Nat.blt pc 64 = false := Bool.eq_false_iff.mpr fun h => h0 (by have := Nat.le_of_ble_eq_true h; omega)
  have h9 : am_J77 pc = none := by
    unfold am_J77
    rw [hn]
    rfl
  exact absurd (he.symm.trans h9) (fun h => by cases h), by decide +kernel⟩
theorem am_ok78 : am_okP am_N78 := ⟨fun pc e he => by
  by_cases h0 : pc < 52
  · exact am_okR_at am_ok78_0 (by omega) (by omega) he
  have hn : Nat.blt pc 52 = false := Bool.eq_false_iff.mpr fun h => h0 (by have := Nat.le_of_ble_eq_true h; omega)
  have h9 : am_J78 pc = none := by
    unfold am_J78
    rw [hn]
    rfl
  exact absurd (he.symm.trans h9) (fun h => by cases h), by decide +kernel⟩
theorem am_ok79 : am_okP am_N79 := ⟨fun pc e he => by
  by_cases h0 : pc < 23
  · exact am_okR_at am_ok79_0 (by omega) (by omega) he
  have hn : Nat.blt pc 23 = false := Bool.eq_false_iff.mpr fun h => h0 (by have := Nat.le_of_ble_eq_true h; omega)
  have h9 : am_J79 pc = none := by
    unfold am_J79
    rw [hn]
    rfl
  exact absurd (he.symm.trans h9) (fun h => by cases h), by decide +kernel⟩
theorem am_ok80 : am_okP am_N80 := ⟨fun pc e he => by
  by_cases h0 : pc < 64
  · exact am_okR_at am_ok80_0 (by omega) (by omega) he
  by_cases h64 : pc < 126
  · exact am_okR_at am_ok80_64 (by omega) (by omega) he
  have hn : Nat.blt pc 126 = false := Bool.eq_false_iff.mpr fun h => h64 (by have := Nat.le_of_ble_eq_true h; omega)
  have h9 : am_J80 pc = none := by
    unfold am_J80
    rw [hn]
    rfl
  exact absurd (he.symm.trans h9) (fun h => by cases h), by decide +kernel⟩
theorem am_ok81 : am_okP am_N81 := ⟨fun pc e he => by
  by_cases h0 : pc < 56
  · exact am_okR_at am_ok81_0 (by omega) (by omega) he
  have hn : Nat.blt pc 56 = false := Bool.eq_false_iff.mpr fun h => h0 (by have := Nat.le_of_ble_eq_true h; omega)
  have h9 : am_J81 pc = none := by
    unfold am_J81
    rw [hn]
    rfl
  exact absurd (he.symm.trans h9) (fun h => by cases h), by decide +kernel⟩
theorem am_ok82 : am_okP am_N82 := ⟨fun pc e he => by
  by_cases h0 : pc < 64
  · exact am_okR_at am_ok82_0 (by omega) (by omega) he
  by_cases h64 : pc < 128
  · exact am_okR_at am_ok82_64 (by omega) (by omega) he
  by_cases h128 : pc < 137
  · exact am_okR_at am_ok82_128 (by omega) (by omega) he
  have hn : Nat.blt pc 137 = false := Bool.eq_false_iff.mpr fun h => h128 (by have := Nat.le_of_ble_eq_true h; omega)
  have h9 : am_J82 pc = none := by
    unfold am_J82
    rw [hn]
    rfl
  exact absurd (he.symm.trans h9) (fun h => by cases h), by decide +kernel⟩
theorem am_ok83 : am_okP am_N83 := ⟨fun pc e he => by
  by_cases h0 : pc < 64
  · exact am_okR_at am_ok83_0 (by omega) (by omega) he
  by_cases h64 : pc < 116
  · exact am_okR_at am_ok83_64 (by omega) (by omega) he
  have hn : Nat.blt pc 116 = false := Bool.eq_false_iff.mpr fun h => h64 (by have := Nat.le_of_ble_eq_true h; omega)
  have h9 : am_J83 pc = none := by
    unfold am_J83
    rw [hn]
    rfl
  exact absurd (he.symm.trans h9) (fun h => by cases h), by decide +kernel⟩
theorem am_ok84 : am_okP am_N84 := ⟨fun pc e he => by
  by_cases h0 : pc < 55
  · exact am_okR_at am_ok84_0 (by omega) (by omega) he
  have hn : Nat.blt pc 55 = false := Bool.eq_false_iff.mpr fun h => h0 (by have := Nat.le_of_ble_eq_true h; omega)
  have h9 : am_J84 pc = none := by
    unfold am_J84
    rw [hn]
    rfl
  exact absurd (he.symm.trans h9) (fun h => by cases h), by decide +kernel⟩
theorem am_ok85 : am_okP am_N85 := ⟨fun pc e he => by
  by_cases h0 : pc < 33
  · exact am_okR_at am_ok85_0 (by omega) (by omega) he
  have hn : Nat.blt pc 33 = false := Bool.eq_false_iff.mpr fun h => h0 (by have := Nat.le_of_ble_eq_true h; omega)
  have h9 : am_J85 pc = none := by
    unfold am_J85
    rw [hn]
    rfl
  exact absurd (he.symm.trans h9) (fun h => by cases h), by decide +kernel⟩
theorem am_ok86 : am_okP am_N86 := ⟨fun pc e he => by
  by_cases h0 : pc < 48
  · exact am_okR_at am_ok86_0 (by omega) (by omega) he
  have hn : Nat.blt pc 48 = false := Bool.eq_false_iff.mpr fun h => h0 (by have := Nat.le_of_ble_eq_true h; omega)
  have h9 : am_J86 pc = none := by
    unfold am_J86
    rw [hn]
    rfl
  exact absurd (he.symm.trans h9) (fun h => by cases h), by decide +kernel⟩
theorem am_ok87 : am_okP am_N87 := ⟨fun pc e he => by
  by_cases h0 : pc < 61
  · exact am_okR_at am_ok87_0 (by omega) (by omega) he
  have hn : Nat.blt pc 61 = false := Bool.eq_false_iff.mpr fun h => h0 (by have := Nat.le_of_ble_eq_true h; omega)
  have h9 : am_J87 pc = none := by
    unfold am_J87
    rw [hn]
    rfl
  exact absurd (he.symm.trans h9) (fun h => by cases h), by decide +kernel⟩
theorem am_ok88 : am_okP am_N88 := ⟨fun pc e he => by
  by_cases h0 : pc < 64
  · exact am_okR_at am_ok88_0 (by omega) (by omega) he
  by_cases h64 : pc < 82
  · exact am_okR_at am_ok88_64 (by omega) (by omega) he
  have hn : Nat.blt pc 82 = false := Bool.eq_false_iff.mpr fun h => h64 (by have := Nat.le_of_ble_eq_true h; omega)
  have h9 : am_J88 pc = none := by
    unfold am_J88
    rw [hn]
    rfl
  exact absurd (he.symm.trans h9) (fun h => by cases h), by decide +kernel⟩
theorem am_ok89 : am_okP am_N89 := ⟨fun pc e he => by
  by_cases h0 : pc < 61
  · exact am_okR_at am_ok89_0 (by omega) (by omega) he
  have hn : Nat.blt pc 61 = false := Bool.eq_false_iff.mpr fun h => h0 (by have := Nat.le_of_ble_eq_true h; omega)
  have h9 : am_J89 pc = none := by
    unfold am_J89
    rw [hn]
    rfl
  exact absurd (he.symm.trans h9) (fun h => by cases h), by decide +kernel⟩
theorem am_ok90 : am_okP am_N90 := ⟨fun pc e he => by
  by_cases h0 : pc < 30
  · exact am_okR_at am_ok90_0 (by omega) (by omega) he
  have hn : Nat.blt pc 30 = false := Bool.eq_false_iff.mpr fun h => h0 (by have := Nat.le_of_ble_eq_true h; omega)
  have h9 : am_J90 pc = none := by
    unfold am_J90
    rw [hn]
    rfl
  exact absurd (he.symm.trans h9) (fun h => by cases h), by decide +kernel⟩
theorem am_ok91 : am_okP am_N91 := ⟨fun pc e he => by
  by_cases h0 : pc < 64
  · exact am_okR_at am_ok91_0 (by omega) (by omega) he
  have hn : Nat.blt pc 64 = false := Bool.eq_false_iff.mpr fun h => h0 (by have := Nat.le_of_ble_eq_true h; omega)
  have h9 : am_J91 pc = none := by
    unfold am_J91
    rw [hn]
    rfl
  exact absurd (he.symm.trans h9) (fun h => by cases h), by decide +kernel⟩
theorem am_ok92 : am_okP am_N92 := ⟨fun pc e he => by
  by_cases h0 : pc < 64
  · exact am_okR_at am_ok92_0 (by omega) (by omega) he
  by_cases h64 : pc < 84
  · exact am_okR_at am_ok92_64 (by omega) (by omega) he
  have hn : Nat.blt pc 84 = false := Bool.eq_false_iff.mpr fun h => h64 (by have := Nat.le_of_ble_eq_true h; omega)
  have h9 : am_J92 pc = none := by
    unfold am_J92
    rw [hn]
    rfl
  exact absurd (he.symm.trans h9) (fun h => by cases h), by decide +kernel⟩
theorem am_ok93 : am_okP am_N93 := ⟨fun pc e he => by
  by_cases h0 : pc < 14
  · exact am_okR_at am_ok93_0 (by omega) (by omega) he
  have hn : Nat.blt pc 14 = false := Bool.eq_false_iff.mpr fun h => h0 (by have := Nat.le_of_ble_eq_true h; omega)
  have h9 : am_J93 pc = none := by
    unfold am_J93
    rw [hn]
    rfl
  exact absurd (he.symm.trans h9) (fun h => by cases h), by decide +kernel⟩
theorem am_ok94 : am_okP am_N94 := ⟨fun pc e he => by
  by_cases h0 : pc < 63
  · exact am_okR_at am_ok94_0 (by omega) (by omega) he
  have hn : Nat.blt pc 63 = false := Bool.eq_false_iff.mpr fun h => h0 (by have := Nat.le_of_ble_eq_true h; omega)
  have h9 : am_J94 pc = none := by
    unfold am_J94
    rw [hn]
    rfl
  exact absurd (he.symm.trans h9) (fun h => by cases h), by decide +kernel⟩
theorem am_ok95 : am_okP am_N95 := ⟨fun pc e he => by
  by_cases h0 : pc < 64
  · exact am_okR_at am_ok95_0 (by omega) (by omega) he
  by_cases h64 : pc < 65
  · exact am_okR_at am_ok95_64 (by omega) (by omega) he
  have hn : Nat.blt pc 65 = false := Bool.eq_false_iff.mpr fun h => h64 (by have := Nat.le_of_ble_eq_true h; omega)
  have h9 : am_J95 pc = none := by
    unfold am_J95
    rw [hn]
    rfl
  exact absurd (he.symm.trans h9) (fun h => by cases h), by decide +kernel⟩
theorem am_ok96 : am_okP am_N96 := ⟨fun pc e he => by
  by_cases h0 : pc < 64
  · exact am_okR_at am_ok96_0 (by omega) (by omega) he
  by_cases h64 : pc < 112
  · exact am_okR_at am_ok96_64 (by omega) (by omega) he
  have hn : Nat.blt pc 112 = false := Bool.eq_false_iff.mpr fun h => h64 (by have := Nat.le_of_ble_eq_true h; omega)
  have h9 : am_J96 pc = none := by
    unfold am_J96
    rw [hn]
    rfl
  exact absurd (he.symm.trans h9) (fun h => by cases h), by decide +kernel⟩
theorem am_ok97 : am_okP am_N97 := ⟨fun pc e he => by
  by_cases h0 : pc < 55
  · exact am_okR_at am_ok97_0 (by omega) (by omega) he
  have hn : Nat.blt pc 55 = false := Bool.eq_false_iff.mpr fun h => h0 (by have := Nat.le_of_ble_eq_true h; omega)
  have h9 : am_J97 pc = none := by
    unfold am_J97
    rw [hn]
    rfl
  exact absurd (he.symm.trans h9) (fun h => by cases h), by decide +kernel⟩
theorem am_ok98 : am_okP am_N98 := ⟨fun pc e he => by
  by_cases h0 : pc < 25
  · exact am_okR_at am_ok98_0 (by omega) (by omega) he
  have hn : Nat.blt pc 25 = false := Bool.eq_false_iff.mpr fun h => h0 (by have := Nat.le_of_ble_eq_true h; omega)
  have h9 : am_J98 pc = none := by
    unfold am_J98
    rw [hn]
    rfl
  exact absurd (he.symm.trans h9) (fun h => by cases h), by decide +kernel⟩
theorem am_ok99 : am_okP am_N99 := ⟨fun pc e he => by
  by_cases h0 : pc < 33
  · exact am_okR_at am_ok99_0 (by omega) (by omega) he
  have hn : Nat.blt pc 33 = false := Bool.eq_false_iff.mpr fun h => h0 (by have := Nat.le_of_ble_eq_true h; omega)
  have h9 : am_J99 pc = none := by
    unfold am_J99
    rw [hn]
    rfl
  exact absurd (he.symm.trans h9) (fun h => by cases h), by decide +kernel⟩
theorem am_ok100 : am_okP am_N100 := ⟨fun pc e he => by
  by_cases h0 : pc < 29
  · exact am_okR_at am_ok100_0 (by omega) (by omega) he
  have hn : Nat.blt pc 29 = false := Bool.eq_false_iff.mpr fun h => h0 (by have := Nat.le_of_ble_eq_true h; omega)
  have h9 : am_J100 pc = none := by
    unfold am_J100
    rw [hn]
    rfl
  exact absurd (he.symm.trans h9) (fun h => by cases h), by decide +kernel⟩
theorem am_ok101 : am_okP am_N101 := ⟨fun pc e he => by
  by_cases h0 : pc < 44
  · exact am_okR_at am_ok101_0 (by omega) (by omega) he
  have hn : Nat.blt pc 44 = false := Bool.eq_false_iff.mpr fun h => h0 (by have := Nat.le_of_ble_eq_true h; omega)
  have h9 : am_J101 pc = none := by
    unfold am_J101
    rw [hn]
    rfl
  exact absurd (he.symm.trans h9) (fun h => by cases h), by decide +kernel⟩
theorem am_ok102 : am_okP am_N102 := ⟨fun pc e he => by
  by_cases h0 : pc < 64
  · exact am_okR_at am_ok102_0 (by omega) (by omega) he
  by_cases h64 : pc < 79
  · exact am_okR_at am_ok102_64 (by omega) (by omega) he
  have hn : Nat.blt pc 79 = false := Bool.eq_false_iff.mpr fun h => h64 (by have := Nat.le_of_ble_eq_true h; omega)
  have h9 : am_J102 pc = none := by
    unfold am_J102
    rw [hn]
    rfl
  exact absurd (he.symm.trans h9) (fun h => by cases h), by decide +kernel⟩
theorem am_ok103 : am_okP am_N103 := ⟨fun pc e he => by
  by_cases h0 : pc < 22
  · exact am_okR_at am_ok103_0 (by omega) (by omega) he
  have hn : Nat.blt pc 22 = false := Bool.eq_false_iff.mpr fun h => h0 (by have := Nat.le_of_ble_eq_true h; omega)
  have h9 : am_J103 pc = none := by
    unfold am_J103
    rw [hn]
    rfl
  exact absurd (he.symm.trans h9) (fun h => by cases h), by decide +kernel⟩
theorem am_ok104 : am_okP am_N104 := ⟨fun pc e he => by
  by_cases h0 : pc < 18
  · exact am_okR_at am_ok104_0 (by omega) (by omega) he
  have hn : Nat.blt pc 18 = false := Bool.eq_false_iff.mpr fun h => h0 (by have := Nat.le_of_ble_eq_true h; omega)
  have h9 : am_J104 pc = none := by
    unfold am_J104
    rw [hn]
    rfl
  exact absurd (he.symm.trans h9) (fun h => by cases h), by decide +kernel⟩
theorem am_ok105 : am_okP am_N105 := ⟨fun pc e he => by
  by_cases h0 : pc < 40
  · exact am_okR_at am_ok105_0 (by omega) (by omega) he
  have hn : Nat.blt pc 40 = false := Bool.eq_false_iff.mpr fun h => h0 (by have := Nat.le_of_ble_eq_true h; omega)
  have h9 : am_J105 pc = none := by
    unfold am_J105
    rw [hn]
    rfl
  exact absurd (he.symm.trans h9) (fun h => by cases h), by decide +kernel⟩
theorem am_ok106 : am_okP am_N106 := ⟨fun pc e he => by
  by_cases h0 : pc < 37
  · exact am_okR_at am_ok106_0 (by omega) (by omega) he
  have hn : Nat.blt pc 37 = false := Bool.eq_false_iff.mpr fun h => h0 (by have := Nat.le_of_ble_eq_true h; omega)
  have h9 : am_J106 pc = none := by
    unfold am_J106
    rw [hn]
    rfl
  exact absurd (he.symm.trans h9) (fun h => by cases h), by decide +kernel⟩
theorem am_ok107 : am_okP am_N107 := ⟨fun pc e he => by
  by_cases h0 : pc < 64
  · exact am_okR_at am_ok107_0 (by omega) (by omega) he
  by_cases h64 : pc < 92
  · exact am_okR_at am_ok107_64 (by omega) (by omega) he
  have hn : Nat.blt pc 92 = false := Bool.eq_false_iff.mpr fun h => h64 (by have := Nat.le_of_ble_eq_true h; omega)
  have h9 : am_J107 pc = none := by
    unfold am_J107
    rw [hn]
    rfl
  exact absurd (he.symm.trans h9) (fun h => by cases h), by decide +kernel⟩
theorem am_ok108 : am_okP am_N108 := ⟨fun pc e he => by
  by_cases h0 : pc < 64
  · exact am_okR_at am_ok108_0 (by omega) (by omega) he
  by_cases h64 : pc < 67
  · exact am_okR_at am_ok108_64 (by omega) (by omega) he
  have hn : Nat.blt pc 67 = false := Bool.eq_false_iff.mpr fun h => h64 (by have := Nat.le_of_ble_eq_true h; omega)
  have h9 : am_J108 pc = none := by
    unfold am_J108
    rw [hn]
    rfl
  exact absurd (he.symm.trans h9) (fun h => by cases h), by decide +kernel⟩
theorem am_ok109 : am_okP am_N109 := ⟨fun pc e he => by
  by_cases h0 : pc < 64
  · exact am_okR_at am_ok109_0 (by omega) (by omega) he
  by_cases h64 : pc < 127
  · exact am_okR_at am_ok109_64 (by omega) (by omega) he
  have hn : Nat.blt pc 127 = false := Bool.eq_false_iff.mpr fun h => h64 (by have := Nat.le_of_ble_eq_true h; omega)
  have h9 : am_J109 pc = none := by
    unfold am_J109
    rw [hn]
    rfl
  exact absurd (he.symm.trans h9) (fun h => by cases h), by decide +kernel⟩
theorem am_ok110 : am_okP am_N110 := ⟨fun pc e he => by
  by_cases h0 : pc < 64
  · exact am_okR_at am_ok110_0 (by omega) (by omega) he
  by_cases h64 : pc < 100
  · exact am_okR_at am_ok110_64 (by omega) (by omega) he
  have hn : Nat.blt pc 100 = false := Bool.eq_false_iff.mpr fun h => h64 (by have := Nat.le_of_ble_eq_true h; omega)
  have h9 : am_J110 pc = none := by
    unfold am_J110
    rw [hn]
    rfl
  exact absurd (he.symm.trans h9) (fun h => by cases h), by decide +kernel⟩
theorem am_ok111 : am_okP am_N111 := ⟨fun pc e he => by
  by_cases h0 : pc < 64
  · exact am_okR_at am_ok111_0 (by omega) (by omega) he
  by_cases h64 : pc < 110
  · exact am_okR_at am_ok111_64 (by omega) (by omega) he
  have hn : Nat.blt pc 110 = false := Bool.eq_false_iff.mpr fun h => h64 (by have := Nat.le_of_ble_eq_true h; omega)
  have h9 : am_J111 pc = none := by
    unfold am_J111
    rw [hn]
    rfl
  exact absurd (he.symm.trans h9) (fun h => by cases h), by decide +kernel⟩
theorem am_ok112 : am_okP am_N112 := ⟨fun pc e he => by
  by_cases h0 : pc < 26
  · exact am_okR_at am_ok112_0 (by omega) (by omega) he
  have hn : Nat.blt pc 26 = false := Bool.eq_false_iff.mpr fun h => h0 (by have := Nat.le_of_ble_eq_true h; omega)
  have h9 : am_J112 pc = none := by
    unfold am_J112
    rw [hn]
    rfl
  exact absurd (he.symm.trans h9) (fun h => by cases h), by decide +kernel⟩
theorem am_ok113 : am_okP am_N113 := ⟨fun pc e he => by
  by_cases h0 : pc < 35
  · exact am_okR_at am_ok113_0 (by omega) (by omega) he
  have hn : Nat.blt pc 35 = false := Bool.eq_false_iff.mpr fun h => h0 (by have := Nat.le_of_ble_eq_true h; omega)
  have h9 : am_J113 pc = none := by
    unfold am_J113
    rw [hn]
    rfl
  exact absurd (he.symm.trans h9) (fun h => by cases h), by decide +kernel⟩
theorem am_ok114 : am_okP am_N114 := ⟨fun pc e he => by
  by_cases h0 : pc < 43
  · exact am_okR_at am_ok114_0 (by omega) (by omega) he
  have hn : Nat.blt pc 43 = false := Bool.eq_false_iff.mpr fun h => h0 (by have := Nat.le_of_ble_eq_true h; omega)
  have h9 : am_J114 pc = none := by
    unfold am_J114
    rw [hn]
    rfl
  exact absurd (he.symm.trans h9) (fun h => by cases h), by decide +kernel⟩
theorem am_ok115 : am_okP am_N115 := ⟨fun pc e he => by
  by_cases h0 : pc < 38
  · exact am_okR_at am_ok115_0 (by omega) (by omega) he
  have hn : Nat.blt pc 38 = false := Bool.eq_false_iff.mpr fun h => h0 (by have := Nat.le_of_ble_eq_true h; omega)
  have h9 : am_J115 pc = none := by
    unfold am_J115
    rw [hn]
    rfl
  exact absurd (he.symm.trans h9) (fun h => by cases h), by decide +kernel⟩
theorem am_ok116 : am_okP am_N116 := ⟨fun pc e he => by
  by_cases h0 : pc < 64
  · exact am_okR_at am_ok116_0 (by omega) (by omega) he
  by_cases h64 : pc < 128
  · exact am_okR_at am_ok116_64 (by omega) (by omega) he
  by_cases h128 : pc < 178
  · exact am_okR_at am_ok116_128 (by omega) (by omega) he
  have hn : Nat.blt pc 178 = false := Bool.eq_false_iff.mpr fun h => h128 (by have := Nat.le_of_ble_eq_true h; omega)
  have h9 : am_J116 pc = none := by
    unfold am_J116
    rw [hn]
    rfl
  exact absurd (he.symm.trans h9) (fun h => by cases h), by decide +kernel⟩
theorem am_ok117 : am_okP am_N117 := ⟨fun pc e he => by
  by_cases h0 : pc < 23
  · exact am_okR_at am_ok117_0 (by omega) (by omega) he
  have hn : Nat.blt pc 23 = false := Bool.eq_false_iff.mpr fun h => h0 (by have := Nat.le_of_ble_eq_true h; omega)
  have h9 : am_J117 pc = none := by
    unfold am_J117
    rw [hn]
    rfl
  exact absurd (he.symm.trans h9) (fun h => by cases h), by decide +kernel⟩
theorem am_ok118 : am_okP am_N118 := ⟨fun pc e he => by
  by_cases h0 : pc < 16
  · exact am_okR_at am_ok118_0 (by omega) (by omega) he
  have hn : Nat.blt pc 16 = false := Bool.eq_false_iff.mpr fun h => h0 (by have := Nat.le_of_ble_eq_true h; omega)
  have h9 : am_J118 pc = none := by
    unfold am_J118
    rw [hn]
    rfl
  exact absurd (he.symm.trans h9) (fun h => by cases h), by decide +kernel⟩
theorem am_ok119 : am_okP am_N119 := ⟨fun pc e he => by
  by_cases h0 : pc < 24
  · exact am_okR_at am_ok119_0 (by omega) (by omega) he
  have hn : Nat.blt pc 24 = false := Bool.eq_false_iff.mpr fun h => h0 (by have := Nat.le_of_ble_eq_true h; omega)
  have h9 : am_J119 pc = none := by
    unfold am_J119
    rw [hn]
    rfl
  exact absurd (he.symm.trans h9) (fun h => by cases h), by decide +kernel⟩
