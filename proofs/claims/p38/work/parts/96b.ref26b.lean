/-! small numbers, all of them -/
theorem am_sub8 (k m : Fin 256) (h : nI k.1 &&& (nI m.1 ^^^ (-1)) = 0) : k.1 ≤ m.1 := by
  have hk := k.2
  have hm1 : (-1 : Int32).toBitVec = BitVec.allOnes 32 := by decide
  have hn : ∀ a : Nat, (nI a).toBitVec = BitVec.ofNat 32 a := fun _ => Int32.toBitVec_ofNat'
  have e : k.1 &&& m.1 = k.1 := by
    refine Nat.eq_of_testBit_eq fun i => ?_
    rw [Nat.testBit_and]
    by_cases hi : i < 32
    · have h2 := congrArg (fun z : Int32 => z.toBitVec.getLsbD i) h
      simp only [Int32.toBitVec_and, Int32.toBitVec_xor, hm1, hn, BitVec.getLsbD_and, BitVec.getLsbD_xor, BitVec.getLsbD_ofNat, BitVec.getLsbD_allOnes, decide_eq_true hi, Bool.true_and] at h2
      have h3 : (k.1.testBit i && (m.1.testBit i ^^ true)) = false := h2.trans (by
        show (0#32).getLsbD i = false
        exact BitVec.getLsbD_zero)
      cases hx : k.1.testBit i
      · rfl
      · cases hy : m.1.testBit i
        · rw [hx, hy] at h3; cases h3
        · rfl
    · have hz : k.1.testBit i = false := Nat.testBit_lt_two_pow (Nat.lt_of_lt_of_le hk (show 2 ^ 8 ≤ 2 ^ i from Nat.pow_le_pow_right (by decide) (by omega)))
      rw [hz]; rfl
  rw [← e]
  exact Nat.and_le_right
theorem am_or8 : ∀ (k : Fin 8) (m : Fin 256), nI m.1 ||| (1 <<< (nI k.1 &&& 31)) = nI (m.1 ||| 2 ^ k.1) := by decide +kernel
theorem am_sl8 : ∀ n : Fin 9, (1 : Int32) <<< (nI n.1 &&& 31) = nI (2 ^ n.1) := by decide +kernel
theorem am_an8 : ∀ (s : Fin 256) (p : Fin 8), nI s.1 >>> (nI p.1 &&& 31) &&& 1 = 0 ∨ nI s.1 >>> (nI p.1 &&& 31) &&& 1 = 1 := by decide +kernel
theorem am_kl8 : ∀ l : Fin 256, 0 < l.1 → nI l.1 &&& (nI l.1 - 1) = nI (l.1 &&& (l.1 - 1)) ∧ am_pop 8 (l.1 &&& (l.1 - 1)) + 1 = am_pop 8 l.1 ∧ (l.1 &&& (l.1 - 1)) < l.1 := by decide +kernel
