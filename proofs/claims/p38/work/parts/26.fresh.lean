/-! the fresh world, by the computing calls; the law's run up to its loop -/
def am_none : am_X := fun _ => none
noncomputable def am_runS (X : am_X) (C : Nat → List Value → am_M → am_O) (rt : Option FieldType) (ins : Nat → Option am_e) (stop : Nat) (lv0 : am_V) : Nat → Nat → am_V → List Value → am_M → am_O
  | 0, _, _, _, _ => none
  | n + 1, pc, lv, st, w => bif Nat.beq pc stop then (bif decide (lv = lv0) && decide (st = []) then some (none, w) else none) else (match ins pc with
    | some e => am_ex X C rt e (am_runS X C rt ins stop lv0 n) pc lv st w
    | none => none)
theorem am_runS_le {X : am_X} {C : Nat → List Value → am_M → am_O} {rt : Option FieldType} {ins : Nat → Option am_e} {stop : Nat} {lv0 : am_V} (hC : ∀ t as w o, C t as w = some o → am_le w o.2) : ∀ (n pc : Nat) (lv : am_V) (st : List Value) (w : am_M) (o : Option Value × am_M), am_runS X C rt ins stop lv0 n pc lv st w = some o → am_le w o.2
  | 0, _, _, _, _, _, h => by cases h
  | n + 1, pc, lv, st, w, o, h => by
    unfold am_runS at h
    rcases am_bif h with ⟨-, h⟩ | ⟨-, h⟩
    · obtain ⟨-, h⟩ := am_bif0 h
      cases h
      exact am_le.rf _
    · split at h
      · rcases am_ex_le hC h with ⟨pc1, lv1, st1, w1, h1, hl⟩ | h1
        · exact hl.tr (am_runS_le hC n _ _ _ _ _ h1)
        · rw [h1]; exact am_le.rf _
      · cases h
def am_lv0 : am_V := [some (.ref 1003), some (.ref 0), some (.ref 114), some (.int 0)]
noncomputable def am_K : am_O := am_runS am_none (am_call am_none 100000 40) (some .boolean) am_J0 18 am_lv0 20 0 (am_ent 4 [.ref 1003]) [] ([], fun _ _ => 0)
noncomputable def am_KW : am_M := match am_K with
  | some o => o.2
  | none => ([], fun _ _ => 0)
theorem am_K_a : am_K.map (fun o => o.1) = some none := by decide +kernel
theorem am_K_L : am_KW.1 = am_L0 1000 := by decide +kernel
def am_g0 (i j : Nat) : Int32 := if i = 6 then (if j = 0 then 1 else 0) else if i = 1 then (if j = 5 then 1 else 0) else if i = 35 then (if j = 0 then 1 else 0) else if i = 30 then (if j = 5 then 1 else 0) else if i = 92 then (if j = 4 then -1 else 0) else if i = 114 then (if j = 15 then -1 else 0) else if i = 115 then (if j = 1 then 1 else if j = 5 then -1 else if j = 6 then -1 else 0) else 0
def am_same (G G' : am_G) : Nat → List am_L → Bool
  | _, [] => true
  | i, c :: t => ((List.range (am_sz c)).all fun j => decide (G i j = G' i j)) && am_same G G' (i + 1) t
theorem am_K_G : am_same am_KW.2 am_g0 0 (am_L0 1000) = true := by decide +kernel
