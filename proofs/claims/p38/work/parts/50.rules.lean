/-! RULES; the class -/
def am_rul (r t : Nat) : Bool := decide (nI t &&& nI (r / 16) = nI (r % 16))
def am_irl (r : Nat) : Bool := decide (nI (r % 16) &&& (nI (r / 16) ^^^ (-1)) = 0)
def am_okp (S : am_S) (V : Nat → Int32) (r p : Nat) : Bool := if V p = 1 then am_rul r (S 2 p) else if V p = 0 then !(am_rul r (S 2 p)) else true
def am_fta (S : am_S) (V : Nat → Int32) (r : Nat) : Nat → Nat → Bool
  | 0, _ => true
  | d + 1, p => if am_okp S V r p = true then am_fta S V r d (p + 1) else false
def am_fts (S : am_S) (V : Nat → Int32) (z r : Nat) : Bool := am_irl r && am_fta S V r (min (S 13 0) z) 0
def am_flr (S : am_S) (V : Nat → Int32) (z : Nat) : Nat → List Nat
  | 0 => []
  | k + 1 => if am_fts S V z k = true then am_flr S V z k ++ [k] else am_flr S V z k
theorem am_flr_le {S : am_S} {V : Nat → Int32} {z : Nat} : ∀ k, (am_flr S V z k).length ≤ k ∧ ∀ x ∈ am_flr S V z k, x < k
  | 0 => ⟨Nat.le_refl _, fun x h => by cases h⟩
  | k + 1 => by
    have := am_flr_le (S := S) (V := V) (z := z) k
    unfold am_flr
    split
    · refine ⟨by rw [List.length_append]; simp; exact this.1, fun x h => ?_⟩
      rcases List.mem_append.mp h with h | h
      · have := this.2 x h; omega
      · rw [List.mem_singleton.mp h]; omega
    · exact ⟨by omega, fun x h => by have := this.2 x h; omega⟩
def am_evn (L : List Nat) (t : Nat) : Nat → Int32
  | 0 => 0
  | k + 1 => am_evn L t k + (if am_rul (L.getD k 0) t = true then 1 else -1)
def am_abs (x : Int32) : Int32 := if 0 ≤ x then x else 0 - x
def am_une (L : List Nat) (t : Nat) : Int32 := am_abs (am_evn L t L.length)
def am_mev (L : List Nat) : Nat → Nat × Int32
  | 0 => (0, am_une L 0)
  | k + 1 => if am_une L (k + 1) < (am_mev L k).2 then (k + 1, am_une L (k + 1)) else am_mev L k
/-- a SHEET's cells -/
def am_csh (G : am_G) (j : Nat) (b : Int32) (z : Nat) (V : Nat → Int32) : Prop := G (106 + 2 * j) 1 = b ∧ G (106 + 2 * j) 2 = nI z ∧ z ≤ 40 ∧ ∀ i, i < 40 → G (107 + 2 * j) i = V i
section AMRU
variable {X : am_X} {D q a : Nat} {S : am_S} {V : Nat → Int32} {z j : Nat} {b : Int32}
theorem am_sh_f0 {G : am_G} (hj : j < 4) : am_fld (am_L0 q, G) (106 + 2 * j) 6 0 = some (.ref (107 + 2 * j)) := by
  match j, hj with
  | 0, _ => rfl
  | 1, _ => rfl
  | 2, _ => rfl
  | 3, _ => rfl
theorem am_sh_f1 {G : am_G} (hj : j < 4) : am_fld (am_L0 q, G) (106 + 2 * j) 6 1 = some (.int (G (106 + 2 * j) 1)) := by
  match j, hj with
  | 0, _ => rfl
  | 1, _ => rfl
  | 2, _ => rfl
  | 3, _ => rfl
theorem am_sh_f2 {G : am_G} (hj : j < 4) : am_fld (am_L0 q, G) (106 + 2 * j) 6 2 = some (.int (G (106 + 2 * j) 2)) := by
  match j, hj with
  | 0, _ => rfl
  | 1, _ => rfl
  | 2, _ => rfl
  | 3, _ => rfl
theorem am_sh_lc (hj : j < 4) : (am_L0 q)[107 + 2 * j]? = some (.inr (.inl 40)) := by
  match j, hj with
  | 0, _ => rfl
  | 1, _ => rfl
  | 2, _ => rfl
  | 3, _ => rfl
theorem am_sh_a {G : am_G} {i : Nat} (hj : j < 4) (hi : i < 40) : am_ald X (am_L0 q, G) (107 + 2 * j) (nI i) = some (G (107 + 2 * j) i) := by
  unfold am_ald
  simp only [am_sh_lc hj, am_in_nI hi (by decide), cond_true, nI_clamp (show i < 2 ^ 31 by omega)]
theorem am_sh_t {G : am_G} {i : Nat} {x : Int32} (hj : j < 4) (hi : i < 40) : am_astM (am_L0 q, G) (107 + 2 * j) (nI i) x = some (am_L0 q, am_up G (107 + 2 * j) i x) := by
  unfold am_astM
  simp only [am_sh_lc hj, am_in_nI hi (by decide), cond_true, nI_clamp (show i < 2 ^ 31 by omega)]
theorem am_sh_v {G : am_G} {as : List Value} (hj : j < 4) : am_rcv true 6 (.ref (106 + 2 * j) :: as) (am_L0 q, G) = true := by
  match j, hj with
  | 0, _ => rfl
  | 1, _ => rfl
  | 2, _ => rfl
  | 3, _ => rfl
theorem am_m54 {r t : Nat} (hr : r < 256) {w : am_M} : am_CD X (D + 1) 54 [.int (nI r), .int (nI t)] w = some (some (.int (am_bI (am_rul r t))), w) := by
  have h1 : nI r / 16 = nI (r / 16) := pk_div (d := 16) (by omega) (by decide) (by decide)
  have h2 : nI r - nI (r / 16) * 16 = nI (r % 16) := by
    rw [← h1]
    exact pk_rem (d := 16) (by omega) (by decide) (by decide)
  have e16 : ((16 : Int32) = 0) = False := by decide
  refine am_CD_of (M := am_N54) rfl rfl ?_
  show am_Rn _ _ ((Option.some FieldType.boolean)) am_J54 0 [some (.int (nI r)), some (.int (nI t))] [] w _
  unfold am_rul
  by_cases c : nI t &&& nI (r / 16) = nI (r % 16)
  · simp only [am_s54_0, am_s54_1, am_s54_2, am_s54_4, am_s54_5, am_s54_6, am_s54_7, am_s54_9, am_s54_10, am_s54_13, am_s54_14, am_s54_17, am_s54_18, e16, not_false_eq_true, h1, h2, c, am_bI, decide_true, or_true, true_or, eq_self, am_os_some, Option.toList_some, Option.toList_none, List.cons_append, List.nil_append, if_true, if_false, true_and, am_nw1_i, am_nw1_r, am_nw1_n, cond_true]
  · simp only [am_s54_0, am_s54_1, am_s54_2, am_s54_4, am_s54_5, am_s54_6, am_s54_7, am_s54_9, am_s54_10, am_s54_13, am_s54_14, am_s54_17, am_s54_18, e16, not_false_eq_true, h1, h2, c, am_bI, decide_false, reduceCtorEq, or_true, true_or, eq_self, am_os_some, Option.toList_some, Option.toList_none, List.cons_append, List.nil_append, if_true, if_false, true_and, am_nw1_i, am_nw1_r, am_nw1_n, cond_true]
theorem am_m53 {G : am_G} (hb : am_ispe a) (hS : am_cp a G S) (hw : am_wf S) (hj : j < 4) (hV : am_csh G j b z V) {r : Nat} (hr : r < 256) : am_CD X (D + 2) 53 [.int (nI r), .ref a, .ref (106 + 2 * j)] (am_L0 q, G) = some (some (.int (am_bI (am_fta S V r (min (S 13 0) z) 0))), (am_L0 q, G)) := by
  have h8 := hw.1
  obtain ⟨v1, v2, v3, v4⟩ := hV
  have hl : ∀ (d p : Nat) (y4 y5 : Option Value), p + d = min (S 13 0) z → am_nw1 y4 = true → am_Rn X (D + 1) (some .boolean) am_J53 2 [some (.int (nI r)), some (.ref a), some (.ref (106 + 2 * j)), some (.int (nI p)), y4, y5] [] (am_L0 q, G) (some (.int (am_bI (am_fta S V r d p))), (am_L0 q, G)) := by
    intro d
    induction d with
    | zero =>
      intro p y4 y5 hp hy
      by_cases c : p = S 13 0
      · subst c
        have h1 : ¬ nI (S 13 0) < nI (S 13 0) := Int32.lt_irrefl
        simp only [am_s53_2, am_s53_3, am_s53_4, am_s53_7, am_s53_67, am_s53_68, am_fa_8 hb, hS.2.2.1, h1, am_fta, am_bI, or_true, eq_self, am_os_some, Option.toList_some, Option.toList_none, List.cons_append, List.nil_append, if_true, if_false, true_and, am_nw1_i, am_nw1_r, am_nw1_n, cond_true]
      · have hz : p = z := by omega
        subst hz
        have h1 : nI p < nI (S 13 0) := nI_lt (by omega) (by omega)
        have h2 : ¬ nI p < nI p := Int32.lt_irrefl
        simp only [am_s53_2, am_s53_3, am_s53_4, am_s53_7, am_s53_10, am_s53_11, am_s53_12, am_s53_15, am_s53_67, am_s53_68, am_fa_8 hb, hS.2.2.1, h1, am_sh_f2 hj, v2, h2, am_fta, am_bI, or_true, eq_self, am_os_some, Option.toList_some, Option.toList_none, List.cons_append, List.nil_append, if_true, if_false, true_and, am_nw1_i, am_nw1_r, am_nw1_n, cond_true]
    | succ d ih =>
      intro p y4 y5 hp hy
      have hp8 : p < 8 := by omega
      have h1 : nI p < nI (S 13 0) := nI_lt (by omega) (by omega)
      have h2 : nI p < nI z := nI_lt (by omega) (by omega)
      have hi : nI p + 1 = nI (p + 1) := nI_add p 1
      obtain ⟨-, -, kt, -⟩ := hS.1 p hp8
      have kv := v4 p (by omega)
      have g1 := am_m54 (X := X) (D := D) hr (t := S 2 p) (w := (am_L0 q, G))
      have e10 : ((1 : Int32) = 0) = False := by decide
      have e01 : ((0 : Int32) = 1) = False := by decide
      have ih1 := ih (p + 1) (some (.int (V p))) (some (.int (am_bI (am_rul r (S 2 p))))) (by omega) rfl
      unfold am_fta am_okp
      by_cases c1 : V p = 1
      · rw [c1] at ih1 kv
        cases hg : am_rul r (S 2 p) with
        | true =>
          rw [hg] at g1 ih1
          simp only [am_s53_2, am_s53_3, am_s53_4, am_s53_7, am_s53_10, am_s53_11, am_s53_12, am_s53_15, am_s53_18, am_s53_19, am_s53_22, am_s53_23, am_s53_24, am_s53_26, am_s53_27, am_s53_28, am_s53_31, am_s53_32, am_s53_33, am_s53_36, am_s53_38, am_s53_40, am_s53_41, am_s53_44, am_s53_46, am_s53_49, am_s53_51, am_s53_54, am_s53_56, am_s53_59, am_s53_60, am_s53_61, am_fa_8 hb, hS.2.2.1, h1, am_sh_f2 hj, v2, h2, am_sh_f0 hj, am_sh_a hj (show p < 40 by omega), kv, am_fa_4 hb, am_ap_3 hb hp8, kt, am_cal_ok am_cat_0 am_rcv_f (g1), hy, am_bI, e10, c1, eq_self, am_os_some, Option.toList_some, Option.toList_none, List.cons_append, List.nil_append, if_true, if_false, true_and, am_nw1_i, am_nw1_r, am_nw1_n, cond_true]
          rw [am_s53_64, hi]
          exact ih1
        | false =>
          rw [hg] at g1
          simp only [am_s53_2, am_s53_3, am_s53_4, am_s53_7, am_s53_10, am_s53_11, am_s53_12, am_s53_15, am_s53_18, am_s53_19, am_s53_22, am_s53_23, am_s53_24, am_s53_26, am_s53_27, am_s53_28, am_s53_31, am_s53_32, am_s53_33, am_s53_36, am_s53_38, am_s53_40, am_s53_41, am_s53_44, am_s53_46, am_s53_49, am_s53_51, am_s53_54, am_s53_56, am_s53_59, am_s53_60, am_s53_61, am_fa_8 hb, hS.2.2.1, h1, am_sh_f2 hj, v2, h2, am_sh_f0 hj, am_sh_a hj (show p < 40 by omega), kv, am_fa_4 hb, am_ap_3 hb hp8, kt, am_cal_ok am_cat_0 am_rcv_f (g1), hy, am_bI, reduceCtorEq, e10, e01, c1, true_or, eq_self, am_os_some, Option.toList_some, Option.toList_none, List.cons_append, List.nil_append, if_true, if_false, true_and, am_nw1_i, am_nw1_r, am_nw1_n, cond_true]
      · by_cases c0 : V p = 0
        · rw [c0] at ih1 kv
          cases hg : am_rul r (S 2 p) with
          | true =>
            rw [hg] at g1
            simp only [am_s53_2, am_s53_3, am_s53_4, am_s53_7, am_s53_10, am_s53_11, am_s53_12, am_s53_15, am_s53_18, am_s53_19, am_s53_22, am_s53_23, am_s53_24, am_s53_26, am_s53_27, am_s53_28, am_s53_31, am_s53_32, am_s53_33, am_s53_36, am_s53_38, am_s53_40, am_s53_41, am_s53_44, am_s53_46, am_s53_49, am_s53_51, am_s53_54, am_s53_56, am_s53_59, am_s53_60, am_s53_61, am_fa_8 hb, hS.2.2.1, h1, am_sh_f2 hj, v2, h2, am_sh_f0 hj, am_sh_a hj (show p < 40 by omega), kv, am_fa_4 hb, am_ap_3 hb hp8, kt, am_cal_ok am_cat_0 am_rcv_f (g1), hy, am_bI, e10, e01, c0, Bool.not_true, reduceCtorEq, true_or, eq_self, am_os_some, Option.toList_some, Option.toList_none, List.cons_append, List.nil_append, if_true, if_false, true_and, am_nw1_i, am_nw1_r, am_nw1_n, cond_true]
          | false =>
            rw [hg] at g1 ih1
            simp only [am_s53_2, am_s53_3, am_s53_4, am_s53_7, am_s53_10, am_s53_11, am_s53_12, am_s53_15, am_s53_18, am_s53_19, am_s53_22, am_s53_23, am_s53_24, am_s53_26, am_s53_27, am_s53_28, am_s53_31, am_s53_32, am_s53_33, am_s53_36, am_s53_38, am_s53_40, am_s53_41, am_s53_44, am_s53_46, am_s53_49, am_s53_51, am_s53_54, am_s53_56, am_s53_59, am_s53_60, am_s53_61, am_fa_8 hb, hS.2.2.1, h1, am_sh_f2 hj, v2, h2, am_sh_f0 hj, am_sh_a hj (show p < 40 by omega), kv, am_fa_4 hb, am_ap_3 hb hp8, kt, am_cal_ok am_cat_0 am_rcv_f (g1), hy, am_bI, e10, e01, c0, Bool.not_false, reduceCtorEq, eq_self, am_os_some, Option.toList_some, Option.toList_none, List.cons_append, List.nil_append, if_true, if_false, true_and, am_nw1_i, am_nw1_r, am_nw1_n, cond_true]
            rw [am_s53_64, hi]
            simp only [am_bI, reduceCtorEq, if_false] at ih1
            exact ih1
        · simp only [am_s53_2, am_s53_3, am_s53_4, am_s53_7, am_s53_10, am_s53_11, am_s53_12, am_s53_15, am_s53_18, am_s53_19, am_s53_22, am_s53_23, am_s53_24, am_s53_26, am_s53_27, am_s53_28, am_s53_31, am_s53_32, am_s53_33, am_s53_36, am_s53_38, am_s53_40, am_s53_41, am_s53_44, am_s53_46, am_s53_49, am_s53_51, am_s53_54, am_s53_56, am_s53_59, am_s53_60, am_s53_61, am_fa_8 hb, hS.2.2.1, h1, am_sh_f2 hj, v2, h2, am_sh_f0 hj, am_sh_a hj (show p < 40 by omega), kv, am_fa_4 hb, am_ap_3 hb hp8, kt, am_cal_ok am_cat_0 am_rcv_f (g1), hy, e10, e01, c1, c0, eq_self, am_os_some, Option.toList_some, Option.toList_none, List.cons_append, List.nil_append, if_true, if_false, true_and, am_nw1_i, am_nw1_r, am_nw1_n, cond_true]
          rw [am_s53_64, hi]
          exact ih1
  refine am_CD_of (M := am_N53) rfl rfl ?_
  show am_Rn _ _ ((Option.some FieldType.boolean)) am_J53 0 [some (.int (nI r)), some (.ref a), some (.ref (106 + 2 * j)), none, none, none] [] (am_L0 q, G) _
  simp only [am_s53_0, am_s53_1, eq_self, am_os_some, Option.toList_some, Option.toList_none, List.cons_append, List.nil_append, if_true, if_false, true_and, am_nw1_i, am_nw1_r, am_nw1_n, cond_true]
  exact hl (min (S 13 0) z) 0 none none (by omega) rfl
/-- the rules that fit, in their row -/
def am_crl (G : am_G) (L : List Nat) : Prop := G 99 1 = nI L.length ∧ L.length ≤ 256 ∧ (∀ x ∈ L, x < 256) ∧ ∀ i, i < L.length → G 100 i = nI (L.getD i 0)
theorem am_m52 {G : am_G} (hb : am_ispe a) (hS : am_cp a G S) (hw : am_wf S) (hj : j < 4) (hV : am_csh G j b z V) : ∃ G' : am_G, (∀ i k, i ≠ 99 → i ≠ 100 → G' i k = G i k) ∧ am_crl G' (am_flr S V z 256) ∧ am_CD X (D + 3) 52 [.ref 99, .ref a, .ref (106 + 2 * j)] (am_L0 q, G) = some (none, (am_L0 q, G')) := by
  have hap : a < 80 := by rcases hb with rfl | rfl | rfl | rfl <;> decide
  have hl : ∀ (d k : Nat) (G : am_G) (y : Option Value), k + d = 256 → am_cp a G S → am_csh G j b z V → am_crl G (am_flr S V z k) → ∃ G' : am_G, (∀ i k, i ≠ 99 → i ≠ 100 → G' i k = G i k) ∧ am_crl G' (am_flr S V z 256) ∧ am_Rn X (D + 2) none am_J52 7 [some (.ref 99), some (.ref a), some (.ref (106 + 2 * j)), some (.int (nI k)), y] [] (am_L0 q, G) (none, (am_L0 q, G')) := by
    intro d
    induction d with
    | zero =>
      intro k G y hk _ _ hc
      obtain rfl : k = 256 := by omega
      have h1 : ¬ nI 256 < Int32.ofNat 256 := by decide +kernel
      refine ⟨G, fun _ _ _ _ => rfl, hc, ?_⟩
      simp only [am_s52_7, am_s52_8, am_s52_9, am_s52_12, am_s52_13, am_s52_80, am_f99_0, am_n100, h1, eq_self, am_os_some, Option.toList_some, Option.toList_none, List.cons_append, List.nil_append, if_true, if_false, true_and, am_nw1_i, am_nw1_r, am_nw1_n, cond_true]
    | succ d ih =>
      intro k G y hk hS hV hc
      have hk2 : k < 256 := by omega
      have h1 : nI k < Int32.ofNat 256 := nI_lt hk2 (by decide)
      have hi : nI k + 1 = nI (k + 1) := nI_add k 1
      have d1 : nI k / 16 = nI (k / 16) := pk_div (d := 16) (by omega) (by decide) (by decide)
      have d2 : nI k - nI (k / 16) * 16 = nI (k % 16) := by
        rw [← d1]
        exact pk_rem (d := 16) (by omega) (by decide) (by decide)
      have e16 : ((16 : Int32) = 0) = False := by decide
      have e10 : ((1 : Int32) = 0) = False := by decide
      have g1 := am_m53 (X := X) (D := D) (q := q) hb hS hw hj hV hk2
      by_cases c1 : nI (k % 16) &&& (nI (k / 16) ^^^ (-1)) = 0
      · have ei : am_irl k = true := by unfold am_irl; rw [decide_eq_true c1]
        cases hf : am_fta S V k (min (S 13 0) z) 0 with
        | true =>
          have e : am_flr S V z (k + 1) = am_flr S V z k ++ [k] := by rw [am_flr, if_pos (by unfold am_fts; rw [ei, hf]; rfl)]
          have hlen := (am_flr_le (S := S) (V := V) (z := z) k)
          obtain ⟨z1, z2, z3, z4⟩ := hc
          generalize hL : am_flr S V z k = L at *
          have hln : L.length < 256 := by omega
          have s1 : nI L.length + 1 = nI (L.length + 1) := nI_add _ 1
          obtain ⟨G', f2, c2, g2⟩ := ih (k + 1) (am_up (am_up G 100 L.length (nI k)) 99 1 (nI (L.length + 1))) (some (.int 1)) (by omega)
            (am_cp_fr hS fun i j a1 a2 => by rw [am_up_get, if_neg (by omega), am_up_get, if_neg (by omega)])
            ⟨by rw [am_up_get, if_neg (by omega), am_up_get, if_neg (by omega)]; exact hV.1, by rw [am_up_get, if_neg (by omega), am_up_get, if_neg (by omega)]; exact hV.2.1, hV.2.2.1, fun i hi => by rw [am_up_get, if_neg (by omega), am_up_get, if_neg (by omega)]; exact hV.2.2.2 i hi⟩
            (by
              rw [e]
              refine ⟨by rw [am_up_get, if_pos rfl, if_pos rfl, List.length_append]; rfl, by rw [List.length_append]; simp; omega, fun x hx => ?_, fun i hi => ?_⟩
              · rcases List.mem_append.mp hx with hx | hx
                · exact z3 x hx
                · rw [List.mem_singleton.mp hx]; exact hk2
              · rw [List.length_append, List.length_singleton] at hi
                rw [am_up_get, if_neg (by decide), am_up_get, if_pos rfl]
                by_cases ie : i = L.length
                · subst ie
                  rw [if_pos rfl, List.getD_eq_getElem?_getD, List.getElem?_append_right (Nat.le_refl _), Nat.sub_self]
                  rfl
                · rw [if_neg ie, List.getD_eq_getElem?_getD, List.getElem?_append_left (by omega), ← List.getD_eq_getElem?_getD]
                  exact z4 i (by omega))
          refine ⟨G', fun i j a1 a2 => by rw [f2 i j a1 a2, am_up_get, if_neg a1, am_up_get, if_neg a2], c2, ?_⟩
          rw [hf] at g1
          simp only [am_s52_7, am_s52_8, am_s52_9, am_s52_12, am_s52_13, am_s52_16, am_s52_17, am_s52_19, am_s52_20, am_s52_21, am_s52_23, am_s52_24, am_s52_25, am_s52_26, am_s52_27, am_s52_30, am_s52_31, am_s52_34, am_s52_35, am_s52_37, am_s52_39, am_s52_42, am_s52_43, am_s52_44, am_s52_45, am_s52_48, am_s52_51, am_s52_54, am_s52_55, am_s52_58, am_s52_59, am_s52_62, am_s52_63, am_s52_64, am_s52_65, am_s52_65a, am_s52_66, am_s52_69, am_s52_70, am_s52_71, am_s52_74, am_f99_0, am_f99_1, am_p99_1, am_n100, h1, e16, e10, not_false_eq_true, d1, d2, c1, am_cal_ok am_cat_0 am_rcv_f (g1), am_bI, z1, am_t100, am_in_nI hln (by decide), nI_clamp (show L.length < 2 ^ 31 by omega), am_up_get, Nat.reduceEqDiff, s1, eq_self, am_os_some, Option.toList_some, Option.toList_none, List.cons_append, List.nil_append, if_true, if_false, true_and, am_nw1_i, am_nw1_r, am_nw1_n, cond_true]
          rw [am_s52_77, hi]
          exact g2
        | false =>
          have e : am_flr S V z (k + 1) = am_flr S V z k := by rw [am_flr, if_neg (by unfold am_fts; rw [ei, hf]; simp)]
          obtain ⟨G', f2, c2, g2⟩ := ih (k + 1) G (some (.int 1)) (by omega) hS hV (by rw [e]; exact hc)
          refine ⟨G', f2, c2, ?_⟩
          rw [hf] at g1
          simp only [am_s52_7, am_s52_8, am_s52_9, am_s52_12, am_s52_13, am_s52_16, am_s52_17, am_s52_19, am_s52_20, am_s52_21, am_s52_23, am_s52_24, am_s52_25, am_s52_26, am_s52_27, am_s52_30, am_s52_31, am_s52_34, am_s52_35, am_s52_37, am_s52_39, am_s52_42, am_s52_43, am_s52_44, am_s52_45, am_s52_48, am_s52_51, am_s52_54, am_s52_55, am_s52_58, am_s52_59, am_s52_62, am_s52_63, am_s52_64, am_s52_65, am_s52_65a, am_s52_66, am_s52_69, am_s52_70, am_s52_71, am_s52_74, am_f99_0, am_n100, h1, e16, e10, not_false_eq_true, d1, d2, c1, am_cal_ok am_cat_0 am_rcv_f (g1), am_bI, reduceCtorEq, eq_self, am_os_some, Option.toList_some, Option.toList_none, List.cons_append, List.nil_append, if_true, if_false, true_and, am_nw1_i, am_nw1_r, am_nw1_n, cond_true]
          rw [am_s52_77, hi]
          exact g2
      · have ei : am_irl k = false := by unfold am_irl; rw [decide_eq_false c1]
        have e : am_flr S V z (k + 1) = am_flr S V z k := by rw [am_flr, if_neg (by unfold am_fts; rw [ei]; simp)]
        obtain ⟨G', f2, c2, g2⟩ := ih (k + 1) G (some (.int 0)) (by omega) hS hV (by rw [e]; exact hc)
        refine ⟨G', f2, c2, ?_⟩
        simp only [am_s52_7, am_s52_8, am_s52_9, am_s52_12, am_s52_13, am_s52_16, am_s52_17, am_s52_19, am_s52_20, am_s52_21, am_s52_23, am_s52_24, am_s52_25, am_s52_26, am_s52_27, am_s52_30, am_s52_31, am_s52_34, am_s52_35, am_s52_37, am_s52_39, am_s52_42, am_s52_43, am_s52_44, am_s52_45, am_s52_48, am_s52_51, am_s52_54, am_s52_55, am_s52_58, am_s52_59, am_s52_62, am_s52_63, am_s52_64, am_s52_65, am_s52_65a, am_s52_66, am_s52_69, am_s52_70, am_s52_71, am_s52_74, am_f99_0, am_n100, h1, e16, not_false_eq_true, d1, d2, c1, eq_self, am_os_some, Option.toList_some, Option.toList_none, List.cons_append, List.nil_append, if_true, if_false, true_and, am_nw1_i, am_nw1_r, am_nw1_n, cond_true]
        rw [am_s52_77, hi]
        exact g2
  obtain ⟨G', f, c, g⟩ := hl 256 0 (am_up G 99 1 0) none rfl (am_cp_fr hS fun i j a1 a2 => by rw [am_up_get, if_neg (by omega)])
    ⟨by rw [am_up_get, if_neg (by omega)]; exact hV.1, by rw [am_up_get, if_neg (by omega)]; exact hV.2.1, hV.2.2.1, fun i hi => by rw [am_up_get, if_neg (by omega)]; exact hV.2.2.2 i hi⟩
    (show am_crl (am_up G 99 1 0) [] from ⟨(by rw [am_up_get, if_pos rfl, if_pos rfl]; rfl), Nat.zero_le _, (fun x h => nomatch h), (fun i h => absurd h (Nat.not_lt_zero i))⟩)
  refine ⟨G', fun i k a1 a2 => by rw [f i k a1 a2, am_up_get, if_neg a1], c, ?_⟩
  refine am_CD_of (M := am_N52) rfl rfl ?_
  show am_Rn _ _ none am_J52 0 [some (.ref 99), some (.ref a), some (.ref (106 + 2 * j)), none, none] [] (am_L0 q, G) _
  simp only [am_s52_0, am_s52_1, am_s52_2, am_s52_5, am_s52_6, am_p99_1, eq_self, am_os_some, Option.toList_some, Option.toList_none, List.cons_append, List.nil_append, if_true, if_false, true_and, am_nw1_i, am_nw1_r, am_nw1_n, cond_true]
  exact g
theorem am_m56 {G : am_G} {L : List Nat} (hc : am_crl G L) {t : Nat} : am_CD X (D + 2) 56 [.ref 99, .int (nI t)] (am_L0 q, G) = some (some (.int (am_une L t)), (am_L0 q, G)) := by
  obtain ⟨z1, z2, z3, z4⟩ := hc
  have hl : ∀ (d k : Nat), k + d = L.length → ∀ o, am_Rn X (D + 1) (some .int) am_J56 4 [some (.ref 99), some (.int (nI t)), some (.int (am_evn L t k)), some (.int (nI k))] [] (am_L0 q, G) o = am_Rn X (D + 1) (some .int) am_J56 39 [some (.ref 99), some (.int (nI t)), some (.int (am_evn L t L.length)), some (.int (nI L.length))] [] (am_L0 q, G) o := by
    intro d
    induction d with
    | zero =>
      intro k hk o
      obtain rfl : k = L.length := by omega
      have h1 : ¬ nI L.length < nI L.length := Int32.lt_irrefl
      simp only [am_s56_4, am_s56_5, am_s56_6, am_s56_9, am_f99_1, z1, h1, eq_self, am_os_some, Option.toList_some, Option.toList_none, List.cons_append, List.nil_append, if_true, if_false, true_and, am_nw1_i, am_nw1_r, am_nw1_n, cond_true]
    | succ d ih =>
      intro k hk o
      have hk2 : k < L.length := by omega
      have h1 : nI k < nI L.length := nI_lt hk2 (by omega)
      have hi : nI k + 1 = nI (k + 1) := nI_add k 1
      have hm : L.getD k 0 < 256 := by
        rw [List.getD_eq_getElem?_getD, List.getElem?_eq_getElem hk2]
        exact z3 _ (List.getElem_mem hk2)
      have g1 := am_m54 (X := X) (D := D) hm (t := t) (w := (am_L0 q, G))
      have ih1 := ih (k + 1) (by omega) o
      rw [am_evn] at ih1
      have e10 : ((1 : Int32) = 0) = False := by decide
      cases hg : am_rul (L.getD k 0) t with
      | true =>
        rw [hg] at g1 ih1
        simp only [if_true] at ih1
        simp only [am_s56_4, am_s56_5, am_s56_6, am_s56_9, am_s56_12, am_s56_13, am_s56_14, am_s56_17, am_s56_18, am_s56_19, am_s56_20, am_s56_23, am_s56_26, am_s56_27, am_s56_30, am_s56_31, am_s56_32, am_s56_33, am_f99_1, am_f99_0, z1, h1, am_a100, am_in_nI (show k < 256 by omega) (by decide), nI_clamp (show k < 2 ^ 31 by omega), z4 k hk2, am_cal_ok (am_cat_1 _) am_rcv_f (g1), am_bI, e10, eq_self, am_os_some, Option.toList_some, Option.toList_none, List.cons_append, List.nil_append, if_true, if_false, true_and, am_nw1_i, am_nw1_r, am_nw1_n, cond_true]
        rw [am_s56_36, hi]
        exact ih1
      | false =>
        rw [hg] at g1 ih1
        simp only [reduceCtorEq, if_false] at ih1
        simp only [am_s56_4, am_s56_5, am_s56_6, am_s56_9, am_s56_12, am_s56_13, am_s56_14, am_s56_17, am_s56_18, am_s56_19, am_s56_20, am_s56_23, am_s56_26, am_s56_27, am_s56_30, am_s56_31, am_s56_32, am_s56_33, am_f99_1, am_f99_0, z1, h1, am_a100, am_in_nI (show k < 256 by omega) (by decide), nI_clamp (show k < 2 ^ 31 by omega), z4 k hk2, am_cal_ok (am_cat_1 _) am_rcv_f (g1), am_bI, reduceCtorEq, eq_self, am_os_some, Option.toList_some, Option.toList_none, List.cons_append, List.nil_append, if_true, if_false, true_and, am_nw1_i, am_nw1_r, am_nw1_n, cond_true]
        rw [am_s56_36, hi]
        exact ih1
  refine am_CD_of (M := am_N56) rfl rfl ?_
  show am_Rn _ _ ((Option.some FieldType.int)) am_J56 0 [some (.ref 99), some (.int (nI t)), none, none] [] (am_L0 q, G) _
  simp only [am_s56_0, am_s56_1, am_s56_2, am_s56_3, eq_self, am_os_some, Option.toList_some, Option.toList_none, List.cons_append, List.nil_append, if_true, if_false, true_and, am_nw1_i, am_nw1_r, am_nw1_n, cond_true]
  refine (hl L.length 0 (by omega) _).mpr ?_
  unfold am_une am_abs
  simp only [am_s56_39, am_s56_40, am_s56_43, am_cat_0, eq_self, am_os_some, Option.toList_some, Option.toList_none, List.cons_append, List.nil_append, if_true, if_false, true_and, am_nw1_i, am_nw1_r, am_nw1_n, cond_true]
theorem am_m55 {G : am_G} {L : List Nat} (hc : am_crl G L) : am_CD X (D + 3) 55 [.ref 99] (am_L0 q, G) = some (some (.int (nI (am_mev L 15).1)), (am_L0 q, G)) := by
  have hl : ∀ (d k : Nat) (y : Option Value), k + d = 15 → ∃ y' : Option Value, ∀ o, am_Rn X (D + 2) (some .int) am_J55 10 [some (.ref 99), some (.int (nI (am_mev L k).1)), some (.int (am_mev L k).2), some (.int (nI (k + 1))), y] [] (am_L0 q, G) o = am_Rn X (D + 2) (some .int) am_J55 40 [some (.ref 99), some (.int (nI (am_mev L 15).1)), some (.int (am_mev L 15).2), some (.int (nI 16)), y'] [] (am_L0 q, G) o := by
    intro d
    induction d with
    | zero =>
      intro k y hk
      obtain rfl : k = 15 := by omega
      have h1 : ¬ nI (15 + 1) ≤ 15 := by decide +kernel
      refine ⟨y, fun o => ?_⟩
      simp only [am_s55_10, am_s55_11, am_s55_13, h1, eq_self, am_os_some, Option.toList_some, Option.toList_none, List.cons_append, List.nil_append, if_true, if_false, true_and, am_nw1_i, am_nw1_r, am_nw1_n, cond_true]
    | succ d ih =>
      intro k y hk
      have h1 : nI (k + 1) ≤ 15 := nI_le (show k + 1 ≤ 15 by omega) (by decide)
      have hi : nI (k + 1) + 1 = nI (k + 1 + 1) := nI_add (k + 1) 1
      have g1 := am_m56 (X := X) (D := D) (q := q) hc (t := k + 1)
      obtain ⟨y', ih1⟩ := ih (k + 1) (some (.int (am_une L (k + 1)))) (by omega)
      refine ⟨y', fun o => ?_⟩
      have ih2 := ih1 o
      rw [am_mev] at ih2
      by_cases c : am_une L (k + 1) < (am_mev L k).2
      · rw [if_pos c] at ih2
        simp only [am_s55_10, am_s55_11, am_s55_13, am_s55_16, am_s55_17, am_s55_18, am_s55_21, am_s55_23, am_s55_25, am_s55_26, am_s55_29, am_s55_30, am_s55_31, am_s55_33, am_s55_34, h1, am_cal_ok am_cat_0 am_v99 (g1), c, eq_self, am_os_some, Option.toList_some, Option.toList_none, List.cons_append, List.nil_append, if_true, if_false, true_and, am_nw1_i, am_nw1_r, am_nw1_n, cond_true]
        rw [am_s55_37, hi]
        exact ih2
      · rw [if_neg c] at ih2
        simp only [am_s55_10, am_s55_11, am_s55_13, am_s55_16, am_s55_17, am_s55_18, am_s55_21, am_s55_23, am_s55_25, am_s55_26, am_s55_29, am_s55_30, am_s55_31, am_s55_33, am_s55_34, h1, am_cal_ok am_cat_0 am_v99 (g1), c, eq_self, am_os_some, Option.toList_some, Option.toList_none, List.cons_append, List.nil_append, if_true, if_false, true_and, am_nw1_i, am_nw1_r, am_nw1_n, cond_true]
        rw [am_s55_37, hi]
        exact ih2
  obtain ⟨y', hh⟩ := hl 15 0 none rfl
  have g0 : am_CD X (D + 2) 56 [.ref 99, .int 0] (am_L0 q, G) = some (some (.int (am_une L 0)), (am_L0 q, G)) := am_m56 (X := X) (D := D) (q := q) hc (t := 0)
  refine am_CD_of (M := am_N55) rfl rfl ?_
  show am_Rn _ _ ((Option.some FieldType.int)) am_J55 0 [some (.ref 99), none, none, none, none] [] (am_L0 q, G) _
  simp only [am_s55_0, am_s55_1, am_s55_2, am_s55_3, am_s55_4, am_s55_7, am_s55_8, am_s55_9, am_cal_ok am_cat_0 am_v99 (g0), eq_self, am_os_some, Option.toList_some, Option.toList_none, List.cons_append, List.nil_append, if_true, if_false, true_and, am_nw1_i, am_nw1_r, am_nw1_n, cond_true]
  refine (hh _).mpr ?_
  simp only [am_s55_40, am_s55_41, eq_self, am_os_some, Option.toList_some, Option.toList_none, List.cons_append, List.nil_append, if_true, if_false, true_and, am_nw1_i, am_nw1_r, am_nw1_n, cond_true]
end AMRU
