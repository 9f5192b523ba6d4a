/-! small numbers, all of them -/
theorem am_sub8 : ∀ k m : Fin 256, nI k.1 &&& (nI m.1 ^^^ (-1)) = 0 → k.1 ≤ m.1 := by decide +kernel
theorem am_or8 : ∀ (k : Fin 8) (m : Fin 256), nI m.1 ||| (1 <<< (nI k.1 &&& 31)) = nI (m.1 ||| 2 ^ k.1) := by decide +kernel
theorem am_sl8 : ∀ n : Fin 9, (1 : Int32) <<< (nI n.1 &&& 31) = nI (2 ^ n.1) := by decide +kernel
theorem am_an8 : ∀ (s : Fin 256) (p : Fin 8), nI s.1 >>> (nI p.1 &&& 31) &&& 1 = 0 ∨ nI s.1 >>> (nI p.1 &&& 31) &&& 1 = 1 := by decide +kernel
theorem am_kl8 : ∀ l : Fin 256, 0 < l.1 → nI l.1 &&& (nI l.1 - 1) = nI (l.1 &&& (l.1 - 1)) ∧ am_pop 8 (l.1 &&& (l.1 - 1)) + 1 = am_pop 8 l.1 ∧ (l.1 &&& (l.1 - 1)) < l.1 := by decide +kernel
