theorem am_ok120 : am_okP am_N120 := ⟨fun pc e he => by
  by_cases h0 : pc < 27
  · exact am_okR_at am_ok120_0 (by omega) (by omega) he
  have hn : Nat.blt pc 27 = false := Bool.eq_false_iff.mpr fun h => h0 (by have := Nat.le_of_ble_eq_true h; omega)
  have h9 : am_J120 pc = none := by
    unfold am_J120
    rw [hn]
    rfl
  exact absurd (he.symm.trans h9) (fun h => by cases h), by decide +kernel⟩
theorem am_ok121 : am_okP am_N121 := ⟨fun pc e he => by
  by_cases h0 : pc < 6
  · exact am_okR_at am_ok121_0 (by omega) (by omega) he
  have hn : Nat.blt pc 6 = false := Bool.eq_false_iff.mpr fun h => h0 (by have := Nat.le_of_ble_eq_true h; omega)
  have h9 : am_J121 pc = none := by
    unfold am_J121
    rw [hn]
    rfl
  exact absurd (he.symm.trans h9) (fun h => by cases h), by decide +kernel⟩
theorem am_ok122 : am_okP am_N122 := ⟨fun pc e he => by
  by_cases h0 : pc < 7
  · exact am_okR_at am_ok122_0 (by omega) (by omega) he
  have hn : Nat.blt pc 7 = false := Bool.eq_false_iff.mpr fun h => h0 (by have := Nat.le_of_ble_eq_true h; omega)
  have h9 : am_J122 pc = none := by
    unfold am_J122
    rw [hn]
    rfl
  exact absurd (he.symm.trans h9) (fun h => by cases h), by decide +kernel⟩
theorem am_ok123 : am_okP am_N123 := ⟨fun pc e he => by
  by_cases h0 : pc < 15
  · exact am_okR_at am_ok123_0 (by omega) (by omega) he
  have hn : Nat.blt pc 15 = false := Bool.eq_false_iff.mpr fun h => h0 (by have := Nat.le_of_ble_eq_true h; omega)
  have h9 : am_J123 pc = none := by
    unfold am_J123
    rw [hn]
    rfl
  exact absurd (he.symm.trans h9) (fun h => by cases h), by decide +kernel⟩
theorem am_ok124 : am_okP am_N124 := ⟨fun pc e he => by
  by_cases h0 : pc < 64
  · exact am_okR_at am_ok124_0 (by omega) (by omega) he
  by_cases h64 : pc < 123
  · exact am_okR_at am_ok124_64 (by omega) (by omega) he
  have hn : Nat.blt pc 123 = false := Bool.eq_false_iff.mpr fun h => h64 (by have := Nat.le_of_ble_eq_true h; omega)
  have h9 : am_J124 pc = none := by
    unfold am_J124
    rw [hn]
    rfl
  exact absurd (he.symm.trans h9) (fun h => by cases h), by decide +kernel⟩
theorem am_ok125 : am_okP am_N125 := ⟨fun pc e he => by
  by_cases h0 : pc < 16
  · exact am_okR_at am_ok125_0 (by omega) (by omega) he
  have hn : Nat.blt pc 16 = false := Bool.eq_false_iff.mpr fun h => h0 (by have := Nat.le_of_ble_eq_true h; omega)
  have h9 : am_J125 pc = none := by
    unfold am_J125
    rw [hn]
    rfl
  exact absurd (he.symm.trans h9) (fun h => by cases h), by decide +kernel⟩
theorem am_ok126 : am_okP am_N126 := ⟨fun pc e he => by
  by_cases h0 : pc < 15
  · exact am_okR_at am_ok126_0 (by omega) (by omega) he
  have hn : Nat.blt pc 15 = false := Bool.eq_false_iff.mpr fun h => h0 (by have := Nat.le_of_ble_eq_true h; omega)
  have h9 : am_J126 pc = none := by
    unfold am_J126
    rw [hn]
    rfl
  exact absurd (he.symm.trans h9) (fun h => by cases h), by decide +kernel⟩
theorem am_ok127 : am_okP am_N127 := ⟨fun pc e he => by
  by_cases h0 : pc < 20
  · exact am_okR_at am_ok127_0 (by omega) (by omega) he
  have hn : Nat.blt pc 20 = false := Bool.eq_false_iff.mpr fun h => h0 (by have := Nat.le_of_ble_eq_true h; omega)
  have h9 : am_J127 pc = none := by
    unfold am_J127
    rw [hn]
    rfl
  exact absurd (he.symm.trans h9) (fun h => by cases h), by decide +kernel⟩
theorem am_ok128 : am_okP am_N128 := ⟨fun pc e he => by
  by_cases h0 : pc < 22
  · exact am_okR_at am_ok128_0 (by omega) (by omega) he
  have hn : Nat.blt pc 22 = false := Bool.eq_false_iff.mpr fun h => h0 (by have := Nat.le_of_ble_eq_true h; omega)
  have h9 : am_J128 pc = none := by
    unfold am_J128
    rw [hn]
    rfl
  exact absurd (he.symm.trans h9) (fun h => by cases h), by decide +kernel⟩
theorem am_ok129 : am_okP am_N129 := ⟨fun pc e he => by
  by_cases h0 : pc < 22
  · exact am_okR_at am_ok129_0 (by omega) (by omega) he
  have hn : Nat.blt pc 22 = false := Bool.eq_false_iff.mpr fun h => h0 (by have := Nat.le_of_ble_eq_true h; omega)
  have h9 : am_J129 pc = none := by
    unfold am_J129
    rw [hn]
    rfl
  exact absurd (he.symm.trans h9) (fun h => by cases h), by decide +kernel⟩
theorem am_ok130 : am_okP am_N130 := ⟨fun pc e he => by
  by_cases h0 : pc < 14
  · exact am_okR_at am_ok130_0 (by omega) (by omega) he
  have hn : Nat.blt pc 14 = false := Bool.eq_false_iff.mpr fun h => h0 (by have := Nat.le_of_ble_eq_true h; omega)
  have h9 : am_J130 pc = none := by
    unfold am_J130
    rw [hn]
    rfl
  exact absurd (he.symm.trans h9) (fun h => by cases h), by decide +kernel⟩
theorem am_ok131 : am_okP am_N131 := ⟨fun pc e he => by
  by_cases h0 : pc < 15
  · exact am_okR_at am_ok131_0 (by omega) (by omega) he
  have hn : Nat.blt pc 15 = false := Bool.eq_false_iff.mpr fun h => h0 (by have := Nat.le_of_ble_eq_true h; omega)
  have h9 : am_J131 pc = none := by
    unfold am_J131
    rw [hn]
    rfl
  exact absurd (he.symm.trans h9) (fun h => by cases h), by decide +kernel⟩
theorem am_ok132 : am_okP am_N132 := ⟨fun pc e he => by
  by_cases h0 : pc < 14
  · exact am_okR_at am_ok132_0 (by omega) (by omega) he
  have hn : Nat.blt pc 14 = false := Bool.eq_false_iff.mpr fun h => h0 (by have := Nat.le_of_ble_eq_true h; omega)
  have h9 : am_J132 pc = none := by
    unfold am_J132
    rw [hn]
    rfl
  exact absurd (he.symm.trans h9) (fun h => by cases h), by decide +kernel⟩
theorem am_ok133 : am_okP am_N133 := ⟨fun pc e he => by
  by_cases h0 : pc < 15
  · exact am_okR_at am_ok133_0 (by omega) (by omega) he
  have hn : Nat.blt pc 15 = false := Bool.eq_false_iff.mpr fun h => h0 (by have := Nat.le_of_ble_eq_true h; omega)
  have h9 : am_J133 pc = none := by
    unfold am_J133
    rw [hn]
    rfl
  exact absurd (he.symm.trans h9) (fun h => by cases h), by decide +kernel⟩
theorem am_ok134 : am_okP am_N134 := ⟨fun pc e he => by
  by_cases h0 : pc < 16
  · exact am_okR_at am_ok134_0 (by omega) (by omega) he
  have hn : Nat.blt pc 16 = false := Bool.eq_false_iff.mpr fun h => h0 (by have := Nat.le_of_ble_eq_true h; omega)
  have h9 : am_J134 pc = none := by
    unfold am_J134
    rw [hn]
    rfl
  exact absurd (he.symm.trans h9) (fun h => by cases h), by decide +kernel⟩
theorem am_ok135 : am_okP am_N135 := ⟨fun pc e he => by
  by_cases h0 : pc < 64
  · exact am_okR_at am_ok135_0 (by omega) (by omega) he
  by_cases h64 : pc < 128
  · exact am_okR_at am_ok135_64 (by omega) (by omega) he
  by_cases h128 : pc < 153
  · exact am_okR_at am_ok135_128 (by omega) (by omega) he
  have hn : Nat.blt pc 153 = false := Bool.eq_false_iff.mpr fun h => h128 (by have := Nat.le_of_ble_eq_true h; omega)
  have h9 : am_J135 pc = none := by
    unfold am_J135
    rw [hn]
    rfl
  exact absurd (he.symm.trans h9) (fun h => by cases h), by decide +kernel⟩
theorem am_ok136 : am_okP am_N136 := ⟨fun pc e he => by
  by_cases h0 : pc < 64
  · exact am_okR_at am_ok136_0 (by omega) (by omega) he
  by_cases h64 : pc < 85
  · exact am_okR_at am_ok136_64 (by omega) (by omega) he
  have hn : Nat.blt pc 85 = false := Bool.eq_false_iff.mpr fun h => h64 (by have := Nat.le_of_ble_eq_true h; omega)
  have h9 : am_J136 pc = none := by
    unfold am_J136
    rw [hn]
    rfl
  exact absurd (he.symm.trans h9) (fun h => by cases h), by decide +kernel⟩
theorem am_ok137 : am_okP am_N137 := ⟨fun pc e he => by
  by_cases h0 : pc < 64
  · exact am_okR_at am_ok137_0 (by omega) (by omega) he
  by_cases h64 : pc < 90
  · exact am_okR_at am_ok137_64 (by omega) (by omega) he
  have hn : Nat.blt pc 90 = false := Bool.eq_false_iff.mpr fun h => h64 (by have := Nat.le_of_ble_eq_true h; omega)
  have h9 : am_J137 pc = none := by
    unfold am_J137
    rw [hn]
    rfl
  exact absurd (he.symm.trans h9) (fun h => by cases h), by decide +kernel⟩
theorem am_ok138 : am_okP am_N138 := ⟨fun pc e he => by
  by_cases h0 : pc < 27
  · exact am_okR_at am_ok138_0 (by omega) (by omega) he
  have hn : Nat.blt pc 27 = false := Bool.eq_false_iff.mpr fun h => h0 (by have := Nat.le_of_ble_eq_true h; omega)
  have h9 : am_J138 pc = none := by
    unfold am_J138
    rw [hn]
    rfl
  exact absurd (he.symm.trans h9) (fun h => by cases h), by decide +kernel⟩
theorem am_ok139 : am_okP am_N139 := ⟨fun pc e he => by
  by_cases h0 : pc < 43
  · exact am_okR_at am_ok139_0 (by omega) (by omega) he
  have hn : Nat.blt pc 43 = false := Bool.eq_false_iff.mpr fun h => h0 (by have := Nat.le_of_ble_eq_true h; omega)
  have h9 : am_J139 pc = none := by
    unfold am_J139
    rw [hn]
    rfl
  exact absurd (he.symm.trans h9) (fun h => by cases h), by decide +kernel⟩
theorem am_ok140 : am_okP am_N140 := ⟨fun pc e he => by
  by_cases h0 : pc < 25
  · exact am_okR_at am_ok140_0 (by omega) (by omega) he
  have hn : Nat.blt pc 25 = false := Bool.eq_false_iff.mpr fun h => h0 (by have := Nat.le_of_ble_eq_true h; omega)
  have h9 : am_J140 pc = none := by
    unfold am_J140
    rw [hn]
    rfl
  exact absurd (he.symm.trans h9) (fun h => by cases h), by decide +kernel⟩
theorem am_ok141 : am_okP am_N141 := ⟨fun pc e he => by
  by_cases h0 : pc < 50
  · exact am_okR_at am_ok141_0 (by omega) (by omega) he
  have hn : Nat.blt pc 50 = false := Bool.eq_false_iff.mpr fun h => h0 (by have := Nat.le_of_ble_eq_true h; omega)
  have h9 : am_J141 pc = none := by
    unfold am_J141
    rw [hn]
    rfl
  exact absurd (he.symm.trans h9) (fun h => by cases h), by decide +kernel⟩
theorem am_ok142 : am_okP am_N142 := ⟨fun pc e he => by
  by_cases h0 : pc < 21
  · exact am_okR_at am_ok142_0 (by omega) (by omega) he
  have hn : Nat.blt pc 21 = false := Bool.eq_false_iff.mpr fun h => h0 (by have := Nat.le_of_ble_eq_true h; omega)
  have h9 : am_J142 pc = none := by
    unfold am_J142
    rw [hn]
    rfl
  exact absurd (he.symm.trans h9) (fun h => by cases h), by decide +kernel⟩
theorem am_ok143 : am_okP am_N143 := ⟨fun pc e he => by
  by_cases h0 : pc < 64
  · exact am_okR_at am_ok143_0 (by omega) (by omega) he
  by_cases h64 : pc < 69
  · exact am_okR_at am_ok143_64 (by omega) (by omega) he
  have hn : Nat.blt pc 69 = false := Bool.eq_false_iff.mpr fun h => h64 (by have := Nat.le_of_ble_eq_true h; omega)
  have h9 : am_J143 pc = none := by
    unfold am_J143
    rw [hn]
    rfl
  exact absurd (he.symm.trans h9) (fun h => by cases h), by decide +kernel⟩
theorem am_ok144 : am_okP am_N144 := ⟨fun pc e he => by
  by_cases h0 : pc < 31
  · exact am_okR_at am_ok144_0 (by omega) (by omega) he
  have hn : Nat.blt pc 31 = false := Bool.eq_false_iff.mpr fun h => h0 (by have := Nat.le_of_ble_eq_true h; omega)
  have h9 : am_J144 pc = none := by
    unfold am_J144
    rw [hn]
    rfl
  exact absurd (he.symm.trans h9) (fun h => by cases h), by decide +kernel⟩
theorem am_ok145 : am_okP am_N145 := ⟨fun pc e he => by
  by_cases h0 : pc < 9
  · exact am_okR_at am_ok145_0 (by omega) (by omega) he
  have hn : Nat.blt pc 9 = false := Bool.eq_false_iff.mpr fun h => h0 (by have := Nat.le_of_ble_eq_true h; omega)
  have h9 : am_J145 pc = none := by
    unfold am_J145
    rw [hn]
    rfl
  exact absurd (he.symm.trans h9) (fun h => by cases h), by decide +kernel⟩
theorem am_ok146 : am_okP am_N146 := ⟨fun pc e he => by
  by_cases h0 : pc < 7
  · exact am_okR_at am_ok146_0 (by omega) (by omega) he
  have hn : Nat.blt pc 7 = false := Bool.eq_false_iff.mpr fun h => h0 (by have := Nat.le_of_ble_eq_true h; omega)
  have h9 : am_J146 pc = none := by
    unfold am_J146
    rw [hn]
    rfl
  exact absurd (he.symm.trans h9) (fun h => by cases h), by decide +kernel⟩
theorem am_ok147 : am_okP am_N147 := ⟨fun pc e he => by
  by_cases h0 : pc < 58
  · exact am_okR_at am_ok147_0 (by omega) (by omega) he
  have hn : Nat.blt pc 58 = false := Bool.eq_false_iff.mpr fun h => h0 (by have := Nat.le_of_ble_eq_true h; omega)
  have h9 : am_J147 pc = none := by
    unfold am_J147
    rw [hn]
    rfl
  exact absurd (he.symm.trans h9) (fun h => by cases h), by decide +kernel⟩
theorem am_ok148 : am_okP am_N148 := ⟨fun pc e he => by
  by_cases h0 : pc < 64
  · exact am_okR_at am_ok148_0 (by omega) (by omega) he
  by_cases h64 : pc < 128
  · exact am_okR_at am_ok148_64 (by omega) (by omega) he
  have hn : Nat.blt pc 128 = false := Bool.eq_false_iff.mpr fun h => h64 (by have := Nat.le_of_ble_eq_true h; omega)
  have h9 : am_J148 pc = none := by
    unfold am_J148
    rw [hn]
    rfl
  exact absurd (he.symm.trans h9) (fun h => by cases h), by decide +kernel⟩
theorem am_ok149 : am_okP am_N149 := ⟨fun pc e he => by
  by_cases h0 : pc < 64
  · exact am_okR_at am_ok149_0 (by omega) (by omega) he
  by_cases h64 : pc < 128
  · exact am_okR_at am_ok149_64 (by omega) (by omega) he
  by_cases h128 : pc < 153
  · exact am_okR_at am_ok149_128 (by omega) (by omega) he
  have hn : Nat.blt pc 153 = false := Bool.eq_false_iff.mpr fun h => h128 (by have := Nat.le_of_ble_eq_true h; omega)
  have h9 : am_J149 pc = none := by
    unfold am_J149
    rw [hn]
    rfl
  exact absurd (he.symm.trans h9) (fun h => by cases h), by decide +kernel⟩
theorem am_ok150 : am_okP am_N150 := ⟨fun pc e he => by
  by_cases h0 : pc < 64
  · exact am_okR_at am_ok150_0 (by omega) (by omega) he
  by_cases h64 : pc < 116
  · exact am_okR_at am_ok150_64 (by omega) (by omega) he
  have hn : Nat.blt pc 116 = false := Bool.eq_false_iff.mpr fun h => h64 (by have := Nat.le_of_ble_eq_true h; omega)
  have h9 : am_J150 pc = none := by
    unfold am_J150
    rw [hn]
    rfl
  exact absurd (he.symm.trans h9) (fun h => by cases h), by decide +kernel⟩
theorem am_ok151 : am_okP am_N151 := ⟨fun pc e he => by
  by_cases h0 : pc < 64
  · exact am_okR_at am_ok151_0 (by omega) (by omega) he
  by_cases h64 : pc < 83
  · exact am_okR_at am_ok151_64 (by omega) (by omega) he
  have hn : Nat.blt pc 83 = false := Bool.eq_false_iff.mpr fun h => h64 (by have := Nat.le_of_ble_eq_true h; omega)
  have h9 : am_J151 pc = none := by
    unfold am_J151
    rw [hn]
    rfl
  exact absurd (he.symm.trans h9) (fun h => by cases h), by decide +kernel⟩
theorem am_ok152 : am_okP am_N152 := ⟨fun pc e he => by
  by_cases h0 : pc < 64
  · exact am_okR_at am_ok152_0 (by omega) (by omega) he
  by_cases h64 : pc < 121
  · exact am_okR_at am_ok152_64 (by omega) (by omega) he
  have hn : Nat.blt pc 121 = false := Bool.eq_false_iff.mpr fun h => h64 (by have := Nat.le_of_ble_eq_true h; omega)
  have h9 : am_J152 pc = none := by
    unfold am_J152
    rw [hn]
    rfl
  exact absurd (he.symm.trans h9) (fun h => by cases h), by decide +kernel⟩
theorem am_ok153 : am_okP am_N153 := ⟨fun pc e he => by
  by_cases h0 : pc < 59
  · exact am_okR_at am_ok153_0 (by omega) (by omega) he
  have hn : Nat.blt pc 59 = false := Bool.eq_false_iff.mpr fun h => h0 (by have := Nat.le_of_ble_eq_true h; omega)
  have h9 : am_J153 pc = none := by
    unfold am_J153
    rw [hn]
    rfl
  exact absurd (he.symm.trans h9) (fun h => by cases h), by decide +kernel⟩
theorem am_ok154 : am_okP am_N154 := ⟨fun pc e he => by
  by_cases h0 : pc < 59
  · exact am_okR_at am_ok154_0 (by omega) (by omega) he
  have hn : Nat.blt pc 59 = false := Bool.eq_false_iff.mpr fun h => h0 (by have := Nat.le_of_ble_eq_true h; omega)
  have h9 : am_J154 pc = none := by
    unfold am_J154
    rw [hn]
    rfl
  exact absurd (he.symm.trans h9) (fun h => by cases h), by decide +kernel⟩
theorem am_ok155 : am_okP am_N155 := ⟨fun pc e he => by
  by_cases h0 : pc < 64
  · exact am_okR_at am_ok155_0 (by omega) (by omega) he
  by_cases h64 : pc < 84
  · exact am_okR_at am_ok155_64 (by omega) (by omega) he
  have hn : Nat.blt pc 84 = false := Bool.eq_false_iff.mpr fun h => h64 (by have := Nat.le_of_ble_eq_true h; omega)
  have h9 : am_J155 pc = none := by
    unfold am_J155
    rw [hn]
    rfl
  exact absurd (he.symm.trans h9) (fun h => by cases h), by decide +kernel⟩
theorem am_ok156 : am_okP am_N156 := ⟨fun pc e he => by
  by_cases h0 : pc < 52
  · exact am_okR_at am_ok156_0 (by omega) (by omega) he
  have hn : Nat.blt pc 52 = false := Bool.eq_false_iff.mpr fun h => h0 (by have := Nat.le_of_ble_eq_true h; omega)
  have h9 : am_J156 pc = none := by
    unfold am_J156
    rw [hn]
    rfl
  exact absurd (he.symm.trans h9) (fun h => by cases h), by decide +kernel⟩
theorem am_ok157 : am_okP am_N157 := ⟨fun pc e he => by
  by_cases h0 : pc < 28
  · exact am_okR_at am_ok157_0 (by omega) (by omega) he
  have hn : Nat.blt pc 28 = false := Bool.eq_false_iff.mpr fun h => h0 (by have := Nat.le_of_ble_eq_true h; omega)
  have h9 : am_J157 pc = none := by
    unfold am_J157
    rw [hn]
    rfl
  exact absurd (he.symm.trans h9) (fun h => by cases h), by decide +kernel⟩
theorem am_ok158 : am_okP am_N158 := ⟨fun pc e he => by
  by_cases h0 : pc < 64
  · exact am_okR_at am_ok158_0 (by omega) (by omega) he
  by_cases h64 : pc < 95
  · exact am_okR_at am_ok158_64 (by omega) (by omega) he
  have hn : Nat.blt pc 95 = false := Bool.eq_false_iff.mpr fun h => h64 (by have := Nat.le_of_ble_eq_true h; omega)
  have h9 : am_J158 pc = none := by
    unfold am_J158
    rw [hn]
    rfl
  exact absurd (he.symm.trans h9) (fun h => by cases h), by decide +kernel⟩
theorem am_ok159 : am_okP am_N159 := ⟨fun pc e he => by
  by_cases h0 : pc < 64
  · exact am_okR_at am_ok159_0 (by omega) (by omega) he
  by_cases h64 : pc < 128
  · exact am_okR_at am_ok159_64 (by omega) (by omega) he
  by_cases h128 : pc < 150
  · exact am_okR_at am_ok159_128 (by omega) (by omega) he
  have hn : Nat.blt pc 150 = false := Bool.eq_false_iff.mpr fun h => h128 (by have := Nat.le_of_ble_eq_true h; omega)
  have h9 : am_J159 pc = none := by
    unfold am_J159
    rw [hn]
    rfl
  exact absurd (he.symm.trans h9) (fun h => by cases h), by decide +kernel⟩
theorem am_ok160 : am_okP am_N160 := ⟨fun pc e he => by
  by_cases h0 : pc < 64
  · exact am_okR_at am_ok160_0 (by omega) (by omega) he
  by_cases h64 : pc < 78
  · exact am_okR_at am_ok160_64 (by omega) (by omega) he
  have hn : Nat.blt pc 78 = false := Bool.eq_false_iff.mpr fun h => h64 (by have := Nat.le_of_ble_eq_true h; omega)
  have h9 : am_J160 pc = none := by
    unfold am_J160
    rw [hn]
    rfl
  exact absurd (he.symm.trans h9) (fun h => by cases h), by decide +kernel⟩
theorem am_ok161 : am_okP am_N161 := ⟨fun pc e he => by
  by_cases h0 : pc < 42
  · exact am_okR_at am_ok161_0 (by omega) (by omega) he
  have hn : Nat.blt pc 42 = false := Bool.eq_false_iff.mpr fun h => h0 (by have := Nat.le_of_ble_eq_true h; omega)
  have h9 : am_J161 pc = none := by
    unfold am_J161
    rw [hn]
    rfl
  exact absurd (he.symm.trans h9) (fun h => by cases h), by decide +kernel⟩
theorem am_ok162 : am_okP am_N162 := ⟨fun pc e he => by
  by_cases h0 : pc < 25
  · exact am_okR_at am_ok162_0 (by omega) (by omega) he
  have hn : Nat.blt pc 25 = false := Bool.eq_false_iff.mpr fun h => h0 (by have := Nat.le_of_ble_eq_true h; omega)
  have h9 : am_J162 pc = none := by
    unfold am_J162
    rw [hn]
    rfl
  exact absurd (he.symm.trans h9) (fun h => by cases h), by decide +kernel⟩
theorem am_ok163 : am_okP am_N163 := ⟨fun pc e he => by
  by_cases h0 : pc < 18
  · exact am_okR_at am_ok163_0 (by omega) (by omega) he
  have hn : Nat.blt pc 18 = false := Bool.eq_false_iff.mpr fun h => h0 (by have := Nat.le_of_ble_eq_true h; omega)
  have h9 : am_J163 pc = none := by
    unfold am_J163
    rw [hn]
    rfl
  exact absurd (he.symm.trans h9) (fun h => by cases h), by decide +kernel⟩
theorem am_ok164 : am_okP am_N164 := ⟨fun pc e he => by
  by_cases h0 : pc < 54
  · exact am_okR_at am_ok164_0 (by omega) (by omega) he
  have hn : Nat.blt pc 54 = false := Bool.eq_false_iff.mpr fun h => h0 (by have := Nat.le_of_ble_eq_true h; omega)
  have h9 : am_J164 pc = none := by
    unfold am_J164
    rw [hn]
    rfl
  exact absurd (he.symm.trans h9) (fun h => by cases h), by decide +kernel⟩
theorem am_ok165 : am_okP am_N165 := ⟨fun pc e he => by
  by_cases h0 : pc < 64
  · exact am_okR_at am_ok165_0 (by omega) (by omega) he
  by_cases h64 : pc < 118
  · exact am_okR_at am_ok165_64 (by omega) (by omega) he
  have hn : Nat.blt pc 118 = false := Bool.eq_false_iff.mpr fun h => h64 (by have := Nat.le_of_ble_eq_true h; omega)
  have h9 : am_J165 pc = none := by
    unfold am_J165
    rw [hn]
    rfl
  exact absurd (he.symm.trans h9) (fun h => by cases h), by decide +kernel⟩
theorem am_ok166 : am_okP am_N166 := ⟨fun pc e he => by
  by_cases h0 : pc < 64
  · exact am_okR_at am_ok166_0 (by omega) (by omega) he
  by_cases h64 : pc < 128
  · exact am_okR_at am_ok166_64 (by omega) (by omega) he
  by_cases h128 : pc < 144
  · exact am_okR_at am_ok166_128 (by omega) (by omega) he
  have hn : Nat.blt pc 144 = false := Bool.eq_false_iff.mpr fun h => h128 (by have := Nat.le_of_ble_eq_true h; omega)
  have h9 : am_J166 pc = none := by
    unfold am_J166
    rw [hn]
    rfl
  exact absurd (he.symm.trans h9) (fun h => by cases h), by decide +kernel⟩
theorem am_ok167 : am_okP am_N167 := ⟨fun pc e he => by
  by_cases h0 : pc < 18
  · exact am_okR_at am_ok167_0 (by omega) (by omega) he
  have hn : Nat.blt pc 18 = false := Bool.eq_false_iff.mpr fun h => h0 (by have := Nat.le_of_ble_eq_true h; omega)
  have h9 : am_J167 pc = none := by
    unfold am_J167
    rw [hn]
    rfl
  exact absurd (he.symm.trans h9) (fun h => by cases h), by decide +kernel⟩
theorem am_ok168 : am_okP am_N168 := ⟨fun pc e he => by
  by_cases h0 : pc < 31
  · exact am_okR_at am_ok168_0 (by omega) (by omega) he
  have hn : Nat.blt pc 31 = false := Bool.eq_false_iff.mpr fun h => h0 (by have := Nat.le_of_ble_eq_true h; omega)
  have h9 : am_J168 pc = none := by
    unfold am_J168
    rw [hn]
    rfl
  exact absurd (he.symm.trans h9) (fun h => by cases h), by decide +kernel⟩
theorem am_ok169 : am_okP am_N169 := ⟨fun pc e he => by
  by_cases h0 : pc < 49
  · exact am_okR_at am_ok169_0 (by omega) (by omega) he
  have hn : Nat.blt pc 49 = false := Bool.eq_false_iff.mpr fun h => h0 (by have := Nat.le_of_ble_eq_true h; omega)
  have h9 : am_J169 pc = none := by
    unfold am_J169
    rw [hn]
    rfl
  exact absurd (he.symm.trans h9) (fun h => by cases h), by decide +kernel⟩
theorem am_ok170 : am_okP am_N170 := ⟨fun pc e he => by
  by_cases h0 : pc < 29
  · exact am_okR_at am_ok170_0 (by omega) (by omega) he
  have hn : Nat.blt pc 29 = false := Bool.eq_false_iff.mpr fun h => h0 (by have := Nat.le_of_ble_eq_true h; omega)
  have h9 : am_J170 pc = none := by
    unfold am_J170
    rw [hn]
    rfl
  exact absurd (he.symm.trans h9) (fun h => by cases h), by decide +kernel⟩
theorem am_ok171 : am_okP am_N171 := ⟨fun pc e he => by
  by_cases h0 : pc < 64
  · exact am_okR_at am_ok171_0 (by omega) (by omega) he
  by_cases h64 : pc < 124
  · exact am_okR_at am_ok171_64 (by omega) (by omega) he
  have hn : Nat.blt pc 124 = false := Bool.eq_false_iff.mpr fun h => h64 (by have := Nat.le_of_ble_eq_true h; omega)
  have h9 : am_J171 pc = none := by
    unfold am_J171
    rw [hn]
    rfl
  exact absurd (he.symm.trans h9) (fun h => by cases h), by decide +kernel⟩
theorem am_ok172 : am_okP am_N172 := ⟨fun pc e he => by
  by_cases h0 : pc < 20
  · exact am_okR_at am_ok172_0 (by omega) (by omega) he
  have hn : Nat.blt pc 20 = false := Bool.eq_false_iff.mpr fun h => h0 (by have := Nat.le_of_ble_eq_true h; omega)
  have h9 : am_J172 pc = none := by
    unfold am_J172
    rw [hn]
    rfl
  exact absurd (he.symm.trans h9) (fun h => by cases h), by decide +kernel⟩
theorem am_ok173 : am_okP am_N173 := ⟨fun pc e he => by
  by_cases h0 : pc < 64
  · exact am_okR_at am_ok173_0 (by omega) (by omega) he
  by_cases h64 : pc < 99
  · exact am_okR_at am_ok173_64 (by omega) (by omega) he
  have hn : Nat.blt pc 99 = false := Bool.eq_false_iff.mpr fun h => h64 (by have := Nat.le_of_ble_eq_true h; omega)
  have h9 : am_J173 pc = none := by
    unfold am_J173
    rw [hn]
    rfl
  exact absurd (he.symm.trans h9) (fun h => by cases h), by decide +kernel⟩
theorem am_ok174 : am_okP am_N174 := ⟨fun pc e he => by
  by_cases h0 : pc < 64
  · exact am_okR_at am_ok174_0 (by omega) (by omega) he
  by_cases h64 : pc < 120
  · exact am_okR_at am_ok174_64 (by omega) (by omega) he
  have hn : Nat.blt pc 120 = false := Bool.eq_false_iff.mpr fun h => h64 (by have := Nat.le_of_ble_eq_true h; omega)
  have h9 : am_J174 pc = none := by
    unfold am_J174
    rw [hn]
    rfl
  exact absurd (he.symm.trans h9) (fun h => by cases h), by decide +kernel⟩
theorem am_ok175 : am_okP am_N175 := ⟨fun pc e he => by
  by_cases h0 : pc < 19
  · exact am_okR_at am_ok175_0 (by omega) (by omega) he
  have hn : Nat.blt pc 19 = false := Bool.eq_false_iff.mpr fun h => h0 (by have := Nat.le_of_ble_eq_true h; omega)
  have h9 : am_J175 pc = none := by
    unfold am_J175
    rw [hn]
    rfl
  exact absurd (he.symm.trans h9) (fun h => by cases h), by decide +kernel⟩
theorem am_ok176 : am_okP am_N176 := ⟨fun pc e he => by
  by_cases h0 : pc < 64
  · exact am_okR_at am_ok176_0 (by omega) (by omega) he
  by_cases h64 : pc < 128
  · exact am_okR_at am_ok176_64 (by omega) (by omega) he
  by_cases h128 : pc < 168
  · exact am_okR_at am_ok176_128 (by omega) (by omega) he
  have hn : Nat.blt pc 168 = false := Bool.eq_false_iff.mpr fun h => h128 (by have := Nat.le_of_ble_eq_true h; omega)
  have h9 : am_J176 pc = none := by
    unfold am_J176
    rw [hn]
    rfl
  exact absurd (he.symm.trans h9) (fun h => by cases h), by decide +kernel⟩
theorem am_ok177 : am_okP am_N177 := ⟨fun pc e he => by
  by_cases h0 : pc < 5
  · exact am_okR_at am_ok177_0 (by omega) (by omega) he
  have hn : Nat.blt pc 5 = false := Bool.eq_false_iff.mpr fun h => h0 (by have := Nat.le_of_ble_eq_true h; omega)
  have h9 : am_J177 pc = none := by
    unfold am_J177
    rw [hn]
    rfl
  exact absurd (he.symm.trans h9) (fun h => by cases h), by decide +kernel⟩
theorem am_ok178 : am_okP am_N178 := ⟨fun pc e he => by
  by_cases h0 : pc < 30
  · exact am_okR_at am_ok178_0 (by omega) (by omega) he
  have hn : Nat.blt pc 30 = false := Bool.eq_false_iff.mpr fun h => h0 (by have := Nat.le_of_ble_eq_true h; omega)
  have h9 : am_J178 pc = none := by
    unfold am_J178
    rw [hn]
    rfl
  exact absurd (he.symm.trans h9) (fun h => by cases h), by decide +kernel⟩
theorem am_ok179 : am_okP am_N179 := ⟨fun pc e he => by
  by_cases h0 : pc < 60
  · exact am_okR_at am_ok179_0 (by omega) (by omega) he
  have hn : Nat.blt pc 60 = false := Bool.eq_false_iff.mpr fun h => h0 (by have := Nat.le_of_ble_eq_true h; omega)
  have h9 : am_J179 pc = none := by
    unfold am_J179
    rw [hn]
    rfl
  exact absurd (he.symm.trans h9) (fun h => by cases h), by decide +kernel⟩
theorem am_ok180 : am_okP am_N180 := ⟨fun pc e he => by
  by_cases h0 : pc < 64
  · exact am_okR_at am_ok180_0 (by omega) (by omega) he
  by_cases h64 : pc < 76
  · exact am_okR_at am_ok180_64 (by omega) (by omega) he
  have hn : Nat.blt pc 76 = false := Bool.eq_false_iff.mpr fun h => h64 (by have := Nat.le_of_ble_eq_true h; omega)
  have h9 : am_J180 pc = none := by
    unfold am_J180
    rw [hn]
    rfl
  exact absurd (he.symm.trans h9) (fun h => by cases h), by decide +kernel⟩
theorem am_ok181 : am_okP am_N181 := ⟨fun pc e he => by
  by_cases h0 : pc < 30
  · exact am_okR_at am_ok181_0 (by omega) (by omega) he
  have hn : Nat.blt pc 30 = false := Bool.eq_false_iff.mpr fun h => h0 (by have := Nat.le_of_ble_eq_true h; omega)
  have h9 : am_J181 pc = none := by
    unfold am_J181
    rw [hn]
    rfl
  exact absurd (he.symm.trans h9) (fun h => by cases h), by decide +kernel⟩
theorem am_ok182 : am_okP am_N182 := ⟨fun pc e he => by
  by_cases h0 : pc < 64
  · exact am_okR_at am_ok182_0 (by omega) (by omega) he
  by_cases h64 : pc < 113
  · exact am_okR_at am_ok182_64 (by omega) (by omega) he
  have hn : Nat.blt pc 113 = false := Bool.eq_false_iff.mpr fun h => h64 (by have := Nat.le_of_ble_eq_true h; omega)
  have h9 : am_J182 pc = none := by
    unfold am_J182
    rw [hn]
    rfl
  exact absurd (he.symm.trans h9) (fun h => by cases h), by decide +kernel⟩
theorem am_ok183 : am_okP am_N183 := ⟨fun pc e he => by
  by_cases h0 : pc < 7
  · exact am_okR_at am_ok183_0 (by omega) (by omega) he
  have hn : Nat.blt pc 7 = false := Bool.eq_false_iff.mpr fun h => h0 (by have := Nat.le_of_ble_eq_true h; omega)
  have h9 : am_J183 pc = none := by
    unfold am_J183
    rw [hn]
    rfl
  exact absurd (he.symm.trans h9) (fun h => by cases h), by decide +kernel⟩
theorem am_ok184 : am_okP am_N184 := ⟨fun pc e he => by
  by_cases h0 : pc < 18
  · exact am_okR_at am_ok184_0 (by omega) (by omega) he
  have hn : Nat.blt pc 18 = false := Bool.eq_false_iff.mpr fun h => h0 (by have := Nat.le_of_ble_eq_true h; omega)
  have h9 : am_J184 pc = none := by
    unfold am_J184
    rw [hn]
    rfl
  exact absurd (he.symm.trans h9) (fun h => by cases h), by decide +kernel⟩
theorem am_ok185 : am_okP am_N185 := ⟨fun pc e he => by
  by_cases h0 : pc < 64
  · exact am_okR_at am_ok185_0 (by omega) (by omega) he
  by_cases h64 : pc < 111
  · exact am_okR_at am_ok185_64 (by omega) (by omega) he
  have hn : Nat.blt pc 111 = false := Bool.eq_false_iff.mpr fun h => h64 (by have := Nat.le_of_ble_eq_true h; omega)
  have h9 : am_J185 pc = none := by
    unfold am_J185
    rw [hn]
    rfl
  exact absurd (he.symm.trans h9) (fun h => by cases h), by decide +kernel⟩
theorem am_ok186 : am_okP am_N186 := ⟨fun pc e he => by
  by_cases h0 : pc < 64
  · exact am_okR_at am_ok186_0 (by omega) (by omega) he
  by_cases h64 : pc < 117
  · exact am_okR_at am_ok186_64 (by omega) (by omega) he
  have hn : Nat.blt pc 117 = false := Bool.eq_false_iff.mpr fun h => h64 (by have := Nat.le_of_ble_eq_true h; omega)
  have h9 : am_J186 pc = none := by
    unfold am_J186
    rw [hn]
    rfl
  exact absurd (he.symm.trans h9) (fun h => by cases h), by decide +kernel⟩
theorem am_ok187 : am_okP am_N187 := ⟨fun pc e he => by
  by_cases h0 : pc < 64
  · exact am_okR_at am_ok187_0 (by omega) (by omega) he
  by_cases h64 : pc < 119
  · exact am_okR_at am_ok187_64 (by omega) (by omega) he
  have hn : Nat.blt pc 119 = false := Bool.eq_false_iff.mpr fun h => h64 (by have := Nat.le_of_ble_eq_true h; omega)
  have h9 : am_J187 pc = none := by
    unfold am_J187
    rw [hn]
    rfl
  exact absurd (he.symm.trans h9) (fun h => by cases h), by decide +kernel⟩
theorem am_ok188 : am_okP am_N188 := ⟨fun pc e he => by
  by_cases h0 : pc < 46
  · exact am_okR_at am_ok188_0 (by omega) (by omega) he
  have hn : Nat.blt pc 46 = false := Bool.eq_false_iff.mpr fun h => h0 (by have := Nat.le_of_ble_eq_true h; omega)
  have h9 : am_J188 pc = none := by
    unfold am_J188
    rw [hn]
    rfl
  exact absurd (he.symm.trans h9) (fun h => by cases h), by decide +kernel⟩
theorem am_ok189 : am_okP am_N189 := ⟨fun pc e he => by
  by_cases h0 : pc < 64
  · exact am_okR_at am_ok189_0 (by omega) (by omega) he
  by_cases h64 : pc < 95
  · exact am_okR_at am_ok189_64 (by omega) (by omega) he
  have hn : Nat.blt pc 95 = false := Bool.eq_false_iff.mpr fun h => h64 (by have := Nat.le_of_ble_eq_true h; omega)
  have h9 : am_J189 pc = none := by
    unfold am_J189
    rw [hn]
    rfl
  exact absurd (he.symm.trans h9) (fun h => by cases h), by decide +kernel⟩
theorem am_ok190 : am_okP am_N190 := ⟨fun pc e he => by
  by_cases h0 : pc < 40
  · exact am_okR_at am_ok190_0 (by omega) (by omega) he
  have hn : Nat.blt pc 40 = false := Bool.eq_false_iff.mpr fun h => h0 (by have := Nat.le_of_ble_eq_true h; omega)
  have h9 : am_J190 pc = none := by
    unfold am_J190
    rw [hn]
    rfl
  exact absurd (he.symm.trans h9) (fun h => by cases h), by decide +kernel⟩
theorem am_ok191 : am_okP am_N191 := ⟨fun pc e he => by
  by_cases h0 : pc < 64
  · exact am_okR_at am_ok191_0 (by omega) (by omega) he
  by_cases h64 : pc < 128
  · exact am_okR_at am_ok191_64 (by omega) (by omega) he
  by_cases h128 : pc < 155
  · exact am_okR_at am_ok191_128 (by omega) (by omega) he
  have hn : Nat.blt pc 155 = false := Bool.eq_false_iff.mpr fun h => h128 (by have := Nat.le_of_ble_eq_true h; omega)
  have h9 : am_J191 pc = none := by
    unfold am_J191
    rw [hn]
    rfl
  exact absurd (he.symm.trans h9) (fun h => by cases h), by decide +kernel⟩
theorem am_ok192 : am_okP am_N192 := ⟨fun pc e he => by
  by_cases h0 : pc < 64
  · exact am_okR_at am_ok192_0 (by omega) (by omega) he
  by_cases h64 : pc < 128
  · exact am_okR_at am_ok192_64 (by omega) (by omega) he
  by_cases h128 : pc < 169
  · exact am_okR_at am_ok192_128 (by omega) (by omega) he
  have hn : Nat.blt pc 169 = false := Bool.eq_false_iff.mpr fun h => h128 (by have := Nat.le_of_ble_eq_true h; omega)
  have h9 : am_J192 pc = none := by
    unfold am_J192
    rw [hn]
    rfl
  exact absurd (he.symm.trans h9) (fun h => by cases h), by decide +kernel⟩
theorem am_ok193 : am_okP am_N193 := ⟨fun pc e he => by
  by_cases h0 : pc < 53
  · exact am_okR_at am_ok193_0 (by omega) (by omega) he
  have hn : Nat.blt pc 53 = false := Bool.eq_false_iff.mpr fun h => h0 (by have := Nat.le_of_ble_eq_true h; omega)
  have h9 : am_J193 pc = none := by
    unfold am_J193
    rw [hn]
    rfl
  exact absurd (he.symm.trans h9) (fun h => by cases h), by decide +kernel⟩
theorem am_ok194 : am_okP am_N194 := ⟨fun pc e he => by
  by_cases h0 : pc < 23
  · exact am_okR_at am_ok194_0 (by omega) (by omega) he
  have hn : Nat.blt pc 23 = false := Bool.eq_false_iff.mpr fun h => h0 (by have := Nat.le_of_ble_eq_true h; omega)
  have h9 : am_J194 pc = none := by
    unfold am_J194
    rw [hn]
    rfl
  exact absurd (he.symm.trans h9) (fun h => by cases h), by decide +kernel⟩
theorem am_ok195 : am_okP am_N195 := ⟨fun pc e he => by
  by_cases h0 : pc < 61
  · exact am_okR_at am_ok195_0 (by omega) (by omega) he
  have hn : Nat.blt pc 61 = false := Bool.eq_false_iff.mpr fun h => h0 (by have := Nat.le_of_ble_eq_true h; omega)
  have h9 : am_J195 pc = none := by
    unfold am_J195
    rw [hn]
    rfl
  exact absurd (he.symm.trans h9) (fun h => by cases h), by decide +kernel⟩
theorem am_ok196 : am_okP am_N196 := ⟨fun pc e he => by
  by_cases h0 : pc < 64
  · exact am_okR_at am_ok196_0 (by omega) (by omega) he
  by_cases h64 : pc < 66
  · exact am_okR_at am_ok196_64 (by omega) (by omega) he
  have hn : Nat.blt pc 66 = false := Bool.eq_false_iff.mpr fun h => h64 (by have := Nat.le_of_ble_eq_true h; omega)
  have h9 : am_J196 pc = none := by
    unfold am_J196
    rw [hn]
    rfl
  exact absurd (he.symm.trans h9) (fun h => by cases h), by decide +kernel⟩
theorem am_ok197 : am_okP am_N197 := ⟨fun pc e he => by
  by_cases h0 : pc < 16
  · exact am_okR_at am_ok197_0 (by omega) (by omega) he
  have hn : Nat.blt pc 16 = false := Bool.eq_false_iff.mpr fun h => h0 (by have := Nat.le_of_ble_eq_true h; omega)
  have h9 : am_J197 pc = none := by
    unfold am_J197
    rw [hn]
    rfl
  exact absurd (he.symm.trans h9) (fun h => by cases h), by decide +kernel⟩
theorem am_ok198 : am_okP am_N198 := ⟨fun pc e he => by
  by_cases h0 : pc < 30
  · exact am_okR_at am_ok198_0 (by omega) (by omega) he
  have hn : Nat.blt pc 30 = false := Bool.eq_false_iff.mpr fun h => h0 (by have := Nat.le_of_ble_eq_true h; omega)
  have h9 : am_J198 pc = none := by
    unfold am_J198
    rw [hn]
    rfl
  exact absurd (he.symm.trans h9) (fun h => by cases h), by decide +kernel⟩
theorem am_ok199 : am_okP am_N199 := ⟨fun pc e he => by
  by_cases h0 : pc < 47
  · exact am_okR_at am_ok199_0 (by omega) (by omega) he
  have hn : Nat.blt pc 47 = false := Bool.eq_false_iff.mpr fun h => h0 (by have := Nat.le_of_ble_eq_true h; omega)
  have h9 : am_J199 pc = none := by
    unfold am_J199
    rw [hn]
    rfl
  exact absurd (he.symm.trans h9) (fun h => by cases h), by decide +kernel⟩
theorem am_ok200 : am_okP am_N200 := ⟨fun pc e he => by
  by_cases h0 : pc < 64
  · exact am_okR_at am_ok200_0 (by omega) (by omega) he
  by_cases h64 : pc < 70
  · exact am_okR_at am_ok200_64 (by omega) (by omega) he
  have hn : Nat.blt pc 70 = false := Bool.eq_false_iff.mpr fun h => h64 (by have := Nat.le_of_ble_eq_true h; omega)
  have h9 : am_J200 pc = none := by
    unfold am_J200
    rw [hn]
    rfl
  exact absurd (he.symm.trans h9) (fun h => by cases h), by decide +kernel⟩
theorem am_ok201 : am_okP am_N201 := ⟨fun pc e he => by
  by_cases h0 : pc < 64
  · exact am_okR_at am_ok201_0 (by omega) (by omega) he
  by_cases h64 : pc < 82
  · exact am_okR_at am_ok201_64 (by omega) (by omega) he
  have hn : Nat.blt pc 82 = false := Bool.eq_false_iff.mpr fun h => h64 (by have := Nat.le_of_ble_eq_true h; omega)
  have h9 : am_J201 pc = none := by
    unfold am_J201
    rw [hn]
    rfl
  exact absurd (he.symm.trans h9) (fun h => by cases h), by decide +kernel⟩
theorem am_ok202 : am_okP am_N202 := ⟨fun pc e he => by
  by_cases h0 : pc < 64
  · exact am_okR_at am_ok202_0 (by omega) (by omega) he
  by_cases h64 : pc < 103
  · exact am_okR_at am_ok202_64 (by omega) (by omega) he
  have hn : Nat.blt pc 103 = false := Bool.eq_false_iff.mpr fun h => h64 (by have := Nat.le_of_ble_eq_true h; omega)
  have h9 : am_J202 pc = none := by
    unfold am_J202
    rw [hn]
    rfl
  exact absurd (he.symm.trans h9) (fun h => by cases h), by decide +kernel⟩
theorem am_ok203 : am_okP am_N203 := ⟨fun pc e he => by
  by_cases h0 : pc < 64
  · exact am_okR_at am_ok203_0 (by omega) (by omega) he
  by_cases h64 : pc < 120
  · exact am_okR_at am_ok203_64 (by omega) (by omega) he
  have hn : Nat.blt pc 120 = false := Bool.eq_false_iff.mpr fun h => h64 (by have := Nat.le_of_ble_eq_true h; omega)
  have h9 : am_J203 pc = none := by
    unfold am_J203
    rw [hn]
    rfl
  exact absurd (he.symm.trans h9) (fun h => by cases h), by decide +kernel⟩
theorem am_ok204 : am_okP am_N204 := ⟨fun pc e he => by
  by_cases h0 : pc < 30
  · exact am_okR_at am_ok204_0 (by omega) (by omega) he
  have hn : Nat.blt pc 30 = false := Bool.eq_false_iff.mpr fun h => h0 (by have := Nat.le_of_ble_eq_true h; omega)
  have h9 : am_J204 pc = none := by
    unfold am_J204
    rw [hn]
    rfl
  exact absurd (he.symm.trans h9) (fun h => by cases h), by decide +kernel⟩
theorem am_ok205 : am_okP am_N205 := ⟨fun pc e he => by
  by_cases h0 : pc < 24
  · exact am_okR_at am_ok205_0 (by omega) (by omega) he
  have hn : Nat.blt pc 24 = false := Bool.eq_false_iff.mpr fun h => h0 (by have := Nat.le_of_ble_eq_true h; omega)
  have h9 : am_J205 pc = none := by
    unfold am_J205
    rw [hn]
    rfl
  exact absurd (he.symm.trans h9) (fun h => by cases h), by decide +kernel⟩
theorem am_ok206 : am_okP am_N206 := ⟨fun pc e he => by
  by_cases h0 : pc < 64
  · exact am_okR_at am_ok206_0 (by omega) (by omega) he
  by_cases h64 : pc < 121
  · exact am_okR_at am_ok206_64 (by omega) (by omega) he
  have hn : Nat.blt pc 121 = false := Bool.eq_false_iff.mpr fun h => h64 (by have := Nat.le_of_ble_eq_true h; omega)
  have h9 : am_J206 pc = none := by
    unfold am_J206
    rw [hn]
    rfl
  exact absurd (he.symm.trans h9) (fun h => by cases h), by decide +kernel⟩
theorem am_ok207 : am_okP am_N207 := ⟨fun pc e he => by
  by_cases h0 : pc < 64
  · exact am_okR_at am_ok207_0 (by omega) (by omega) he
  by_cases h64 : pc < 76
  · exact am_okR_at am_ok207_64 (by omega) (by omega) he
  have hn : Nat.blt pc 76 = false := Bool.eq_false_iff.mpr fun h => h64 (by have := Nat.le_of_ble_eq_true h; omega)
  have h9 : am_J207 pc = none := by
    unfold am_J207
    rw [hn]
    rfl
  exact absurd (he.symm.trans h9) (fun h => by cases h), by decide +kernel⟩
theorem am_ok208 : am_okP am_N208 := ⟨fun pc e he => by
  by_cases h0 : pc < 64
  · exact am_okR_at am_ok208_0 (by omega) (by omega) he
  by_cases h64 : pc < 128
  · exact am_okR_at am_ok208_64 (by omega) (by omega) he
  by_cases h128 : pc < 192
  · exact am_okR_at am_ok208_128 (by omega) (by omega) he
  by_cases h192 : pc < 194
  · exact am_okR_at am_ok208_192 (by omega) (by omega) he
  have hn : Nat.blt pc 194 = false := Bool.eq_false_iff.mpr fun h => h192 (by have := Nat.le_of_ble_eq_true h; omega)
  have h9 : am_J208 pc = none := by
    unfold am_J208
    rw [hn]
    rfl
  exact absurd (he.symm.trans h9) (fun h => by cases h), by decide +kernel⟩
theorem am_ok209 : am_okP am_N209 := ⟨fun pc e he => by
  by_cases h0 : pc < 64
  · exact am_okR_at am_ok209_0 (by omega) (by omega) he
  by_cases h64 : pc < 95
  · exact am_okR_at am_ok209_64 (by omega) (by omega) he
  have hn : Nat.blt pc 95 = false := Bool.eq_false_iff.mpr fun h => h64 (by have := Nat.le_of_ble_eq_true h; omega)
  have h9 : am_J209 pc = none := by
    unfold am_J209
    rw [hn]
    rfl
  exact absurd (he.symm.trans h9) (fun h => by cases h), by decide +kernel⟩
theorem am_ok210 : am_okP am_N210 := ⟨fun pc e he => by
  by_cases h0 : pc < 64
  · exact am_okR_at am_ok210_0 (by omega) (by omega) he
  by_cases h64 : pc < 104
  · exact am_okR_at am_ok210_64 (by omega) (by omega) he
  have hn : Nat.blt pc 104 = false := Bool.eq_false_iff.mpr fun h => h64 (by have := Nat.le_of_ble_eq_true h; omega)
  have h9 : am_J210 pc = none := by
    unfold am_J210
    rw [hn]
    rfl
  exact absurd (he.symm.trans h9) (fun h => by cases h), by decide +kernel⟩
theorem am_ok211 : am_okP am_N211 := ⟨fun pc e he => by
  by_cases h0 : pc < 32
  · exact am_okR_at am_ok211_0 (by omega) (by omega) he
  have hn : Nat.blt pc 32 = false := Bool.eq_false_iff.mpr fun h => h0 (by have := Nat.le_of_ble_eq_true h; omega)
  have h9 : am_J211 pc = none := by
    unfold am_J211
    rw [hn]
    rfl
  exact absurd (he.symm.trans h9) (fun h => by cases h), by decide +kernel⟩
theorem am_ok212 : am_okP am_N212 := ⟨fun pc e he => by
  by_cases h0 : pc < 33
  · exact am_okR_at am_ok212_0 (by omega) (by omega) he
  have hn : Nat.blt pc 33 = false := Bool.eq_false_iff.mpr fun h => h0 (by have := Nat.le_of_ble_eq_true h; omega)
  have h9 : am_J212 pc = none := by
    unfold am_J212
    rw [hn]
    rfl
  exact absurd (he.symm.trans h9) (fun h => by cases h), by decide +kernel⟩
theorem am_ok213 : am_okP am_N213 := ⟨fun pc e he => by
  by_cases h0 : pc < 51
  · exact am_okR_at am_ok213_0 (by omega) (by omega) he
  have hn : Nat.blt pc 51 = false := Bool.eq_false_iff.mpr fun h => h0 (by have := Nat.le_of_ble_eq_true h; omega)
  have h9 : am_J213 pc = none := by
    unfold am_J213
    rw [hn]
    rfl
  exact absurd (he.symm.trans h9) (fun h => by cases h), by decide +kernel⟩
theorem am_ok214 : am_okP am_N214 := ⟨fun pc e he => by
  by_cases h0 : pc < 64
  · exact am_okR_at am_ok214_0 (by omega) (by omega) he
  by_cases h64 : pc < 106
  · exact am_okR_at am_ok214_64 (by omega) (by omega) he
  have hn : Nat.blt pc 106 = false := Bool.eq_false_iff.mpr fun h => h64 (by have := Nat.le_of_ble_eq_true h; omega)
  have h9 : am_J214 pc = none := by
    unfold am_J214
    rw [hn]
    rfl
  exact absurd (he.symm.trans h9) (fun h => by cases h), by decide +kernel⟩
theorem am_ok215 : am_okP am_N215 := ⟨fun pc e he => by
  by_cases h0 : pc < 64
  · exact am_okR_at am_ok215_0 (by omega) (by omega) he
  by_cases h64 : pc < 125
  · exact am_okR_at am_ok215_64 (by omega) (by omega) he
  have hn : Nat.blt pc 125 = false := Bool.eq_false_iff.mpr fun h => h64 (by have := Nat.le_of_ble_eq_true h; omega)
  have h9 : am_J215 pc = none := by
    unfold am_J215
    rw [hn]
    rfl
  exact absurd (he.symm.trans h9) (fun h => by cases h), by decide +kernel⟩
theorem am_ok216 : am_okP am_N216 := ⟨fun pc e he => by
  by_cases h0 : pc < 25
  · exact am_okR_at am_ok216_0 (by omega) (by omega) he
  have hn : Nat.blt pc 25 = false := Bool.eq_false_iff.mpr fun h => h0 (by have := Nat.le_of_ble_eq_true h; omega)
  have h9 : am_J216 pc = none := by
    unfold am_J216
    rw [hn]
    rfl
  exact absurd (he.symm.trans h9) (fun h => by cases h), by decide +kernel⟩
theorem am_ok217 : am_okP am_N217 := ⟨fun pc e he => by
  by_cases h0 : pc < 53
  · exact am_okR_at am_ok217_0 (by omega) (by omega) he
  have hn : Nat.blt pc 53 = false := Bool.eq_false_iff.mpr fun h => h0 (by have := Nat.le_of_ble_eq_true h; omega)
  have h9 : am_J217 pc = none := by
    unfold am_J217
    rw [hn]
    rfl
  exact absurd (he.symm.trans h9) (fun h => by cases h), by decide +kernel⟩
theorem am_ok218 : am_okP am_N218 := ⟨fun pc e he => by
  by_cases h0 : pc < 21
  · exact am_okR_at am_ok218_0 (by omega) (by omega) he
  have hn : Nat.blt pc 21 = false := Bool.eq_false_iff.mpr fun h => h0 (by have := Nat.le_of_ble_eq_true h; omega)
  have h9 : am_J218 pc = none := by
    unfold am_J218
    rw [hn]
    rfl
  exact absurd (he.symm.trans h9) (fun h => by cases h), by decide +kernel⟩
theorem am_ok219 : am_okP am_N219 := ⟨fun pc e he => by
  by_cases h0 : pc < 11
  · exact am_okR_at am_ok219_0 (by omega) (by omega) he
  have hn : Nat.blt pc 11 = false := Bool.eq_false_iff.mpr fun h => h0 (by have := Nat.le_of_ble_eq_true h; omega)
  have h9 : am_J219 pc = none := by
    unfold am_J219
    rw [hn]
    rfl
  exact absurd (he.symm.trans h9) (fun h => by cases h), by decide +kernel⟩
theorem am_ok220 : am_okP am_N220 := ⟨fun pc e he => by
  by_cases h0 : pc < 7
  · exact am_okR_at am_ok220_0 (by omega) (by omega) he
  have hn : Nat.blt pc 7 = false := Bool.eq_false_iff.mpr fun h => h0 (by have := Nat.le_of_ble_eq_true h; omega)
  have h9 : am_J220 pc = none := by
    unfold am_J220
    rw [hn]
    rfl
  exact absurd (he.symm.trans h9) (fun h => by cases h), by decide +kernel⟩
theorem am_ok221 : am_okP am_N221 := ⟨fun pc e he => by
  by_cases h0 : pc < 37
  · exact am_okR_at am_ok221_0 (by omega) (by omega) he
  have hn : Nat.blt pc 37 = false := Bool.eq_false_iff.mpr fun h => h0 (by have := Nat.le_of_ble_eq_true h; omega)
  have h9 : am_J221 pc = none := by
    unfold am_J221
    rw [hn]
    rfl
  exact absurd (he.symm.trans h9) (fun h => by cases h), by decide +kernel⟩
theorem am_ok222 : am_okP am_N222 := ⟨fun pc e he => by
  by_cases h0 : pc < 15
  · exact am_okR_at am_ok222_0 (by omega) (by omega) he
  have hn : Nat.blt pc 15 = false := Bool.eq_false_iff.mpr fun h => h0 (by have := Nat.le_of_ble_eq_true h; omega)
  have h9 : am_J222 pc = none := by
    unfold am_J222
    rw [hn]
    rfl
  exact absurd (he.symm.trans h9) (fun h => by cases h), by decide +kernel⟩
theorem am_ok223 : am_okP am_N223 := ⟨fun pc e he => by
  by_cases h0 : pc < 19
  · exact am_okR_at am_ok223_0 (by omega) (by omega) he
  have hn : Nat.blt pc 19 = false := Bool.eq_false_iff.mpr fun h => h0 (by have := Nat.le_of_ble_eq_true h; omega)
  have h9 : am_J223 pc = none := by
    unfold am_J223
    rw [hn]
    rfl
  exact absurd (he.symm.trans h9) (fun h => by cases h), by decide +kernel⟩
theorem am_ok224 : am_okP am_N224 := ⟨fun pc e he => by
  by_cases h0 : pc < 17
  · exact am_okR_at am_ok224_0 (by omega) (by omega) he
  have hn : Nat.blt pc 17 = false := Bool.eq_false_iff.mpr fun h => h0 (by have := Nat.le_of_ble_eq_true h; omega)
  have h9 : am_J224 pc = none := by
    unfold am_J224
    rw [hn]
    rfl
  exact absurd (he.symm.trans h9) (fun h => by cases h), by decide +kernel⟩
theorem am_ok225 : am_okP am_N225 := ⟨fun pc e he => by
  by_cases h0 : pc < 37
  · exact am_okR_at am_ok225_0 (by omega) (by omega) he
  have hn : Nat.blt pc 37 = false := Bool.eq_false_iff.mpr fun h => h0 (by have := Nat.le_of_ble_eq_true h; omega)
  have h9 : am_J225 pc = none := by
    unfold am_J225
    rw [hn]
    rfl
  exact absurd (he.symm.trans h9) (fun h => by cases h), by decide +kernel⟩
theorem am_ok226 : am_okP am_N226 := ⟨fun pc e he => by
  by_cases h0 : pc < 33
  · exact am_okR_at am_ok226_0 (by omega) (by omega) he
  have hn : Nat.blt pc 33 = false := Bool.eq_false_iff.mpr fun h => h0 (by have := Nat.le_of_ble_eq_true h; omega)
  have h9 : am_J226 pc = none := by
    unfold am_J226
    rw [hn]
    rfl
  exact absurd (he.symm.trans h9) (fun h => by cases h), by decide +kernel⟩
