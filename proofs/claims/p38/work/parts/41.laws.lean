/-! the class's laws at work -/
def am_isl (l : Nat) : Prop := l = 2 ∨ l = 6 ∨ l = 31 ∨ l = 35 ∨ l = 93
def am_opz : List Nat := [124, 38, 60, 61, 62, 43, 45, 42, 47, 37]
def am_sg (s : Nat) : Prop := s = 48 ∨ s = 110 ∨ s = 33 ∨ s ∈ am_opz
/-- the stack's cells: its top at the highest place -/
def am_stk (G : am_G) (r : Nat) : List Int32 → Prop
  | [] => True
  | x :: t => G r t.length = x ∧ am_stk G r t
theorem am_stk_up {G : am_G} {r k : Nat} {v : Int32} : ∀ (st : List Int32), st.length ≤ k → am_stk G r st → am_stk (am_up G r k v) r st
  | [], _, _ => trivial
  | x :: t, hk, h => by
    simp only [List.length_cons] at hk
    refine ⟨?_, am_stk_up t (by omega) h.2⟩
    rw [am_up_get, if_pos rfl, if_neg (by omega)]
    exact h.1
theorem am_stk_push {G : am_G} {r : Nat} {v : Int32} {st : List Int32} (h : am_stk G r st) : am_stk (am_up G r st.length v) r (v :: st) :=
  ⟨by rw [am_up_get, if_pos rfl, if_pos rfl], am_stk_up st (Nat.le_refl _) h⟩
theorem am_cn00 : (0 : Int32).toNatClampNeg = 0 := by decide +kernel
section AMLW
variable {X : am_X} {D q l : Nat} {G : am_G}
theorem am_fl_0 (hl : am_isl l) : am_fld (am_L0 q, G) l 1 0 = some (.int (G l 0)) := by rcases hl with rfl | rfl | rfl | rfl | rfl <;> rfl
theorem am_fl_4 (hl : am_isl l) : am_fld (am_L0 q, G) l 1 4 = some (.int (G l 4)) := by rcases hl with rfl | rfl | rfl | rfl | rfl <;> rfl
theorem am_fl_1 (hl : am_isl l) : am_fld (am_L0 q, G) l 1 1 = some (.ref (l + 1)) := by rcases hl with rfl | rfl | rfl | rfl | rfl <;> rfl
theorem am_fl_2 (hl : am_isl l) : am_fld (am_L0 q, G) l 1 2 = some (.ref (l + 2)) := by rcases hl with rfl | rfl | rfl | rfl | rfl <;> rfl
theorem am_fl_3 (hl : am_isl l) : am_fld (am_L0 q, G) l 1 3 = some (.ref (l + 3)) := by rcases hl with rfl | rfl | rfl | rfl | rfl <;> rfl
theorem am_pl_4 {x : Int32} (hl : am_isl l) : am_putM (am_L0 q, G) l 1 4 (.int x) = some (am_L0 q, am_up G l 4 x) := by rcases hl with rfl | rfl | rfl | rfl | rfl <;> rfl
theorem am_al_1 {i : Int32} (hl : am_isl l) : am_ald X (am_L0 q, G) (l + 1) i = bif am_in i 50 then some (G (l + 1) i.toNatClampNeg) else none := by rcases hl with rfl | rfl | rfl | rfl | rfl <;> rfl
theorem am_tl_1 {i x : Int32} (hl : am_isl l) : am_astM (am_L0 q, G) (l + 1) i x = bif am_in i 50 then some (am_L0 q, am_up G (l + 1) i.toNatClampNeg x) else none := by rcases hl with rfl | rfl | rfl | rfl | rfl <;> rfl
theorem am_nl_1 (hl : am_isl l) : am_len X (am_L0 q, G) (l + 1) = some 50 := by rcases hl with rfl | rfl | rfl | rfl | rfl <;> rfl
theorem am_al_2 {i : Int32} (hl : am_isl l) : am_ald X (am_L0 q, G) (l + 2) i = bif am_in i 50 then some (G (l + 2) i.toNatClampNeg) else none := by rcases hl with rfl | rfl | rfl | rfl | rfl <;> rfl
theorem am_tl_2 {i x : Int32} (hl : am_isl l) : am_astM (am_L0 q, G) (l + 2) i x = bif am_in i 50 then some (am_L0 q, am_up G (l + 2) i.toNatClampNeg x) else none := by rcases hl with rfl | rfl | rfl | rfl | rfl <;> rfl
theorem am_nl_2 (hl : am_isl l) : am_len X (am_L0 q, G) (l + 2) = some 50 := by rcases hl with rfl | rfl | rfl | rfl | rfl <;> rfl
theorem am_al_3 {i : Int32} (hl : am_isl l) : am_ald X (am_L0 q, G) (l + 3) i = bif am_in i 50 then some (G (l + 3) i.toNatClampNeg) else none := by rcases hl with rfl | rfl | rfl | rfl | rfl <;> rfl
theorem am_tl_3 {i x : Int32} (hl : am_isl l) : am_astM (am_L0 q, G) (l + 3) i x = bif am_in i 50 then some (am_L0 q, am_up G (l + 3) i.toNatClampNeg x) else none := by rcases hl with rfl | rfl | rfl | rfl | rfl <;> rfl
theorem am_nl_3 (hl : am_isl l) : am_len X (am_L0 q, G) (l + 3) = some 50 := by rcases hl with rfl | rfl | rfl | rfl | rfl <;> rfl
theorem am_rl_v {as : List Value} (hl : am_isl l) : am_rcv true 1 (.ref l :: as) (am_L0 q, G) = true := by rcases hl with rfl | rfl | rfl | rfl | rfl <;> rfl
theorem am_lsw19 : ∀ s, s ∈ am_opz → am_lsw 1 (168) #[(38, 97), (42, 152), (43, 144), (45, 148), (47, 156), (60, 111), (61, 122), (62, 133), (124, 83)] (nI s) = some (if s = 124 then 84 else if s = 38 then 98 else if s = 60 then 112 else if s = 61 then 123 else if s = 62 then 134 else if s = 43 then 145 else if s = 45 then 149 else if s = 42 then 153 else if s = 47 then 157 else 169) := by decide +kernel
theorem am_m19 {s : Nat} (hs : s ∈ am_opz) (x y : Int32) {w : am_M} : am_CD X (D + 1) 19 [.int (nI s), .int x, .int y] w = some (some (.int (am_jn s x y)), w) := by
  have e := am_lsw19 s hs
  refine am_CD_of (M := am_N19) rfl rfl ?_
  show am_Rn _ _ ((Option.some FieldType.int)) am_J19 0 [some (.int (nI s)), some (.int x), some (.int y)] [] w _
  simp only [am_s19_0, am_s19_1, e, am_os_some]
  clear e
  simp only [am_opz, List.mem_cons, List.not_mem_nil, or_false] at hs
  unfold am_jn
  rcases hs with rfl | rfl | rfl | rfl | rfl | rfl | rfl | rfl | rfl | rfl
  all_goals
    simp only [Nat.reduceEqDiff, if_true, if_false]
    simp only [am_s19_84, am_s19_85, am_s19_88, am_s19_89, am_s19_92, am_s19_93, am_s19_96, am_s19_97, am_s19_98, am_s19_99, am_s19_102, am_s19_103, am_s19_106, am_s19_107, am_s19_110, am_s19_111, am_s19_112, am_s19_113, am_s19_114, am_s19_117, am_s19_118, am_s19_121, am_s19_122, am_s19_123, am_s19_124, am_s19_125, am_s19_128, am_s19_129, am_s19_132, am_s19_133, am_s19_134, am_s19_135, am_s19_136, am_s19_139, am_s19_140, am_s19_143, am_s19_144, am_s19_145, am_s19_146, am_s19_147, am_s19_148, am_s19_149, am_s19_150, am_s19_151, am_s19_152, am_s19_153, am_s19_154, am_s19_155, am_s19_156, am_s19_157, am_s19_158, am_s19_161, am_s19_162, am_s19_165, am_s19_166, am_s19_167, am_s19_168, am_s19_169, am_s19_170, am_s19_173, am_s19_174, am_s19_177, am_s19_178, am_s19_179, am_s19_180]
    by_cases h1 : x = 0 <;> by_cases h2 : y = 0 <;> by_cases h3 : x < y <;> by_cases h4 : x = y <;> by_cases h5 : x ≤ y <;> simp [h1, h2, h3, h4, h5]
theorem am_nI_sg : ∀ s, s ∈ am_opz → ¬ nI s = 48 ∧ ¬ nI s = 110 ∧ ¬ nI s = 33 ∧ s ≠ 48 ∧ s ≠ 110 ∧ s ≠ 33 := by decide +kernel
theorem am_l18 (hl : am_isl l) {a b c v : Int32} {n : Nat} (hn : n ≤ 50) : ∀ (U : am_T) (i : Nat) (st : List Int32) (G : am_G) (z6 z7 : Option Value), i + U.length = n → st.length ≤ i → G l 4 = nI n → (∀ j, j < U.length → G (l + 1) (i + j) = nI (U.getD j (0, 0)).1 ∧ G (l + 2) (i + j) = nI (U.getD j (0, 0)).2) → (∀ z ∈ U, am_sg z.1 ∧ z.2 < 10000) → am_stk G (l + 3) st → am_wo a b c U st = some [v] → am_nw1 z6 = true → ∃ G' : am_G, (∀ p j, p ≠ l + 3 → G' p j = G p j) ∧ am_Rn X (D + 1) (some .int) am_J18 6 [some (.ref l), some (.int a), some (.int b), some (.int c), some (.int (nI st.length)), some (.int (nI i)), z6, z7] [] (am_L0 q, G) (some (.int v), (am_L0 q, G')) := by
  intro U
  induction U with
  | nil =>
    intro i st G z6 z7 hi hst hz _ _ hs hw hz6
    simp only [List.length_nil, Nat.add_zero] at hi
    subst hi
    unfold am_wo at hw
    cases hw
    have h1 : ¬ nI i < nI i := Int32.lt_irrefl
    have h2 : ¬ nI [v].length < 1 := (by decide +kernel : ¬ nI 1 < 1)
    have hs0 : G (l + 3) 0 = v := hs.1
    have h0 : am_in 0 50 = true := by decide +kernel
    refine ⟨G, fun _ _ _ => rfl, ?_⟩
    simp only [am_s18_6, am_s18_8, am_s18_9, am_s18_12, am_s18_195, am_s18_197, am_s18_198, am_s18_201, am_s18_202, am_s18_205, am_s18_206, am_s18_209, am_s18_210, am_s18_211, am_fl_4 hl, am_fl_3 hl, am_al_3 hl, hz, h1, h2, h0, am_cn00, hs0, eq_self, am_os_some, Option.toList_some, Option.toList_none, List.cons_append, List.nil_append, if_true, if_false, true_and, am_nw1_i, am_nw1_r, am_nw1_n, cond_true]
  | cons z U ih =>
    intro i st G z6 z7 hi hst hz hp hg hs hw hz6
    simp only [List.length_cons] at hi
    have hin : i < n := by omega
    have h1 : nI i < nI n := nI_lt hin (by omega)
    have hp0 := hp 0 (by simp)
    simp only [List.getD_cons_zero, Nat.add_zero] at hp0
    have hpt : ∀ (r k : Nat) (x : Int32) (hr : r = l + 3), ∀ j, j < U.length → am_up G r k x (l + 1) (i + 1 + j) = nI (U.getD j (0, 0)).1 ∧ am_up G r k x (l + 2) (i + 1 + j) = nI (U.getD j (0, 0)).2 := by
      intro r k x hr j hj
      have := hp (j + 1) (by simp only [List.length_cons]; omega)
      simp only [List.getD_cons_succ] at this
      rw [am_up_get, if_neg (by omega), am_up_get, if_neg (by omega), show i + 1 + j = i + (j + 1) by omega]
      exact this
    have hgt : ∀ z ∈ U, am_sg z.1 ∧ z.2 < 10000 := fun z hz => hg z (List.mem_cons_of_mem _ hz)
    obtain ⟨hsg, hv2⟩ := hg z List.mem_cons_self
    have hi50 : i < 50 := by omega
    have hii : am_in (nI i) 50 = true := am_in_nI hi50 (by decide)
    have hci : (nI i).toNatClampNeg = i := nI_clamp (by omega)
    have hi1 : nI i + 1 = nI (i + 1) := nI_add i 1
    have hzu : ∀ (k : Nat) (x : Int32), am_up G (l + 3) k x l 4 = nI n := fun k x => by rw [am_up_get, if_neg (by omega)]; exact hz
    have hfr : ∀ (k : Nat) (x : Int32) (G' : am_G), (∀ p j, p ≠ l + 3 → G' p j = am_up G (l + 3) k x p j) → ∀ p j, p ≠ l + 3 → G' p j = G p j := fun k x G' h p j hp => by rw [h p j hp, am_up_get, if_neg hp]
    unfold am_wo at hw
    by_cases c48 : z.1 = 48
    · have hw1 : am_wst a b c z.1 z.2 st = some (nI z.2 :: st) := by unfold am_wst; rw [if_pos c48]
      rw [hw1] at hw
      have hsi : G (l + 1) i = 48 := by rw [hp0.1, c48]; rfl
      have ht : nI st.length < 50 := nI_lt (show st.length < 50 by omega) (by decide)
      have hti : am_in (nI st.length) 50 = true := am_in_nI (by omega) (by decide)
      have htc : (nI st.length).toNatClampNeg = st.length := nI_clamp (by omega)
      have ht1 : nI st.length + 1 = nI (st.length + 1) := nI_add st.length 1
      have h50 : Int32.ofNat 50 = 50 := rfl
      obtain ⟨G', f1, hh⟩ := ih (i + 1) (nI z.2 :: st) (am_up G (l + 3) st.length (nI z.2)) (some (.int 48)) (some (.int (nI z.2))) (by omega) (by simp only [List.length_cons]; omega) (hzu _ _) (hpt _ _ _ rfl) hgt (am_stk_push hs) hw rfl
      refine ⟨G', hfr _ _ _ f1, ?_⟩
      simp only [am_s18_6, am_s18_8, am_s18_9, am_s18_12, am_s18_15, am_s18_16, am_s18_19, am_s18_21, am_s18_22, am_s18_24, am_s18_26, am_s18_28, am_s18_31, am_s18_33, am_s18_35, am_s18_38, am_s18_40, am_s18_41, am_s18_44, am_s18_45, am_s18_48, am_s18_49, am_s18_50, am_s18_51, am_s18_54, am_s18_56, am_s18_57, am_s18_59, am_s18_60, am_s18_63, am_s18_65, am_s18_67, am_s18_69, am_s18_72, am_s18_74, am_s18_77, am_s18_79, am_s18_82, am_s18_83, am_s18_86, am_s18_88, am_s18_89, am_s18_92, am_s18_93, am_s18_96, am_s18_97, am_s18_98, am_s18_101, am_s18_104, am_s18_106, am_s18_108, am_s18_111, am_s18_113, am_s18_114, am_s18_117, am_s18_118, am_s18_119, am_s18_120, am_s18_123, am_s18_125, am_s18_126, am_s18_127, am_s18_128, am_s18_131, am_s18_133, am_s18_134, am_s18_135, am_s18_136, am_s18_139, am_s18_140, am_s18_143, am_s18_144, am_s18_145, am_s18_148, am_s18_150, am_s18_151, am_s18_154, am_s18_155, am_s18_156, am_s18_159, am_s18_160, am_s18_163, am_s18_165, am_s18_166, am_s18_167, am_s18_169, am_s18_170, am_s18_173, am_s18_175, am_s18_176, am_s18_177, am_s18_178, am_s18_179, am_s18_182, am_s18_184, am_s18_185, am_s18_188, am_s18_189, am_fl_4 hl, am_fl_3 hl, am_fl_2 hl, am_fl_1 hl, am_al_1 hl, am_al_2 hl, am_tl_3 hl, am_nl_3 hl, hz, h1, hii, hci, hsi, hp0.2, h50, ht, hti, htc, ht1, hi1, hz6, eq_self, am_os_some, Option.toList_some, Option.toList_none, List.cons_append, List.nil_append, if_true, if_false, true_and, am_nw1_i, am_nw1_r, am_nw1_n, cond_true]
      rw [am_s18_192]
      exact hh
    by_cases c110 : z.1 = 110
    · have hw1 : am_wst a b c z.1 z.2 st = some ((if z.2 = 0 then a else if z.2 = 1 then b else c) :: st) := by unfold am_wst; rw [if_neg c48, if_pos c110]
      rw [hw1] at hw
      have hsi : G (l + 1) i = 110 := by rw [hp0.1, c110]; rfl
      have ht : nI st.length < 50 := nI_lt (show st.length < 50 by omega) (by decide)
      have hti : am_in (nI st.length) 50 = true := am_in_nI (by omega) (by decide)
      have htc : (nI st.length).toNatClampNeg = st.length := nI_clamp (by omega)
      have ht1 : nI st.length + 1 = nI (st.length + 1) := nI_add st.length 1
      have h50 : Int32.ofNat 50 = 50 := rfl
      have e48 : ((110 : Int32) = 48) = False := by decide
      have hx : ∀ x : Int32, x = (if z.2 = 0 then a else if z.2 = 1 then b else c) → ∃ G' : am_G, (∀ p j, p ≠ l + 3 → G' p j = G p j) ∧ am_Rn X (D + 1) (some .int) am_J18 6 [some (.ref l), some (.int a), some (.int b), some (.int c), some (.int (nI (st.length + 1))), some (.int (nI (i + 1))), some (.int 110), some (.int (nI z.2))] [] (am_L0 q, am_up G (l + 3) st.length x) (some (.int v), (am_L0 q, G')) := by
        intro x hx
        rw [← hx] at hw
        obtain ⟨G', f1, hh⟩ := ih (i + 1) (x :: st) (am_up G (l + 3) st.length x) (some (.int 110)) (some (.int (nI z.2))) (by omega) (by simp only [List.length_cons]; omega) (hzu _ _) (hpt _ _ _ rfl) hgt (am_stk_push hs) hw rfl
        exact ⟨G', hfr _ _ _ f1, hh⟩
      by_cases k0 : z.2 = 0
      · have j0 : nI z.2 = 0 := by rw [k0]; rfl
        obtain ⟨G', f1, hh⟩ := hx a (by rw [if_pos k0])
        refine ⟨G', f1, ?_⟩
        rw [j0] at hh
        simp only [am_s18_6, am_s18_8, am_s18_9, am_s18_12, am_s18_15, am_s18_16, am_s18_19, am_s18_21, am_s18_22, am_s18_24, am_s18_26, am_s18_28, am_s18_31, am_s18_33, am_s18_35, am_s18_38, am_s18_40, am_s18_41, am_s18_44, am_s18_45, am_s18_48, am_s18_49, am_s18_50, am_s18_51, am_s18_54, am_s18_56, am_s18_57, am_s18_59, am_s18_60, am_s18_63, am_s18_65, am_s18_67, am_s18_69, am_s18_72, am_s18_74, am_s18_77, am_s18_79, am_s18_82, am_s18_83, am_s18_86, am_s18_88, am_s18_89, am_s18_92, am_s18_93, am_s18_96, am_s18_97, am_s18_98, am_s18_101, am_s18_104, am_s18_106, am_s18_108, am_s18_111, am_s18_113, am_s18_114, am_s18_117, am_s18_118, am_s18_119, am_s18_120, am_s18_123, am_s18_125, am_s18_126, am_s18_127, am_s18_128, am_s18_131, am_s18_133, am_s18_134, am_s18_135, am_s18_136, am_s18_139, am_s18_140, am_s18_143, am_s18_144, am_s18_145, am_s18_148, am_s18_150, am_s18_151, am_s18_154, am_s18_155, am_s18_156, am_s18_159, am_s18_160, am_s18_163, am_s18_165, am_s18_166, am_s18_167, am_s18_169, am_s18_170, am_s18_173, am_s18_175, am_s18_176, am_s18_177, am_s18_178, am_s18_179, am_s18_182, am_s18_184, am_s18_185, am_s18_188, am_s18_189, am_fl_4 hl, am_fl_3 hl, am_fl_2 hl, am_fl_1 hl, am_al_1 hl, am_al_2 hl, am_tl_3 hl, am_nl_3 hl, hz, h1, hii, hci, hsi, hp0.2, h50, ht, hti, htc, ht1, hi1, hz6, e48, j0, eq_self, am_os_some, Option.toList_some, Option.toList_none, List.cons_append, List.nil_append, if_true, if_false, true_and, am_nw1_i, am_nw1_r, am_nw1_n, cond_true]
        rw [am_s18_192]
        exact hh
      · have j0 : ¬ nI z.2 = 0 := by
          rw [show (0 : Int32) = nI 0 from rfl, nI_eq (by omega) (by omega)]; exact k0
        by_cases k1 : z.2 = 1
        · have j1 : nI z.2 = 1 := by rw [k1]; rfl
          have e1 : ((1 : Int32) = 0) = False := by decide
          obtain ⟨G', f1, hh⟩ := hx b (by rw [if_neg k0, if_pos k1])
          refine ⟨G', f1, ?_⟩
          rw [j1] at hh
          simp only [am_s18_6, am_s18_8, am_s18_9, am_s18_12, am_s18_15, am_s18_16, am_s18_19, am_s18_21, am_s18_22, am_s18_24, am_s18_26, am_s18_28, am_s18_31, am_s18_33, am_s18_35, am_s18_38, am_s18_40, am_s18_41, am_s18_44, am_s18_45, am_s18_48, am_s18_49, am_s18_50, am_s18_51, am_s18_54, am_s18_56, am_s18_57, am_s18_59, am_s18_60, am_s18_63, am_s18_65, am_s18_67, am_s18_69, am_s18_72, am_s18_74, am_s18_77, am_s18_79, am_s18_82, am_s18_83, am_s18_86, am_s18_88, am_s18_89, am_s18_92, am_s18_93, am_s18_96, am_s18_97, am_s18_98, am_s18_101, am_s18_104, am_s18_106, am_s18_108, am_s18_111, am_s18_113, am_s18_114, am_s18_117, am_s18_118, am_s18_119, am_s18_120, am_s18_123, am_s18_125, am_s18_126, am_s18_127, am_s18_128, am_s18_131, am_s18_133, am_s18_134, am_s18_135, am_s18_136, am_s18_139, am_s18_140, am_s18_143, am_s18_144, am_s18_145, am_s18_148, am_s18_150, am_s18_151, am_s18_154, am_s18_155, am_s18_156, am_s18_159, am_s18_160, am_s18_163, am_s18_165, am_s18_166, am_s18_167, am_s18_169, am_s18_170, am_s18_173, am_s18_175, am_s18_176, am_s18_177, am_s18_178, am_s18_179, am_s18_182, am_s18_184, am_s18_185, am_s18_188, am_s18_189, am_fl_4 hl, am_fl_3 hl, am_fl_2 hl, am_fl_1 hl, am_al_1 hl, am_al_2 hl, am_tl_3 hl, am_nl_3 hl, hz, h1, hii, hci, hsi, hp0.2, h50, ht, hti, htc, ht1, hi1, hz6, e48, j1, e1, eq_self, am_os_some, Option.toList_some, Option.toList_none, List.cons_append, List.nil_append, if_true, if_false, true_and, am_nw1_i, am_nw1_r, am_nw1_n, cond_true]
          rw [am_s18_192]
          exact hh
        · have j1 : ¬ nI z.2 = 1 := by
            rw [show (1 : Int32) = nI 1 from rfl, nI_eq (by omega) (by omega)]; exact k1
          obtain ⟨G', f1, hh⟩ := hx c (by rw [if_neg k0, if_neg k1])
          refine ⟨G', f1, ?_⟩
          simp only [am_s18_6, am_s18_8, am_s18_9, am_s18_12, am_s18_15, am_s18_16, am_s18_19, am_s18_21, am_s18_22, am_s18_24, am_s18_26, am_s18_28, am_s18_31, am_s18_33, am_s18_35, am_s18_38, am_s18_40, am_s18_41, am_s18_44, am_s18_45, am_s18_48, am_s18_49, am_s18_50, am_s18_51, am_s18_54, am_s18_56, am_s18_57, am_s18_59, am_s18_60, am_s18_63, am_s18_65, am_s18_67, am_s18_69, am_s18_72, am_s18_74, am_s18_77, am_s18_79, am_s18_82, am_s18_83, am_s18_86, am_s18_88, am_s18_89, am_s18_92, am_s18_93, am_s18_96, am_s18_97, am_s18_98, am_s18_101, am_s18_104, am_s18_106, am_s18_108, am_s18_111, am_s18_113, am_s18_114, am_s18_117, am_s18_118, am_s18_119, am_s18_120, am_s18_123, am_s18_125, am_s18_126, am_s18_127, am_s18_128, am_s18_131, am_s18_133, am_s18_134, am_s18_135, am_s18_136, am_s18_139, am_s18_140, am_s18_143, am_s18_144, am_s18_145, am_s18_148, am_s18_150, am_s18_151, am_s18_154, am_s18_155, am_s18_156, am_s18_159, am_s18_160, am_s18_163, am_s18_165, am_s18_166, am_s18_167, am_s18_169, am_s18_170, am_s18_173, am_s18_175, am_s18_176, am_s18_177, am_s18_178, am_s18_179, am_s18_182, am_s18_184, am_s18_185, am_s18_188, am_s18_189, am_fl_4 hl, am_fl_3 hl, am_fl_2 hl, am_fl_1 hl, am_al_1 hl, am_al_2 hl, am_tl_3 hl, am_nl_3 hl, hz, h1, hii, hci, hsi, hp0.2, h50, ht, hti, htc, ht1, hi1, hz6, e48, j0, j1, eq_self, am_os_some, Option.toList_some, Option.toList_none, List.cons_append, List.nil_append, if_true, if_false, true_and, am_nw1_i, am_nw1_r, am_nw1_n, cond_true]
          rw [am_s18_192]
          exact hh
    by_cases c33 : z.1 = 33
    · unfold am_wst at hw
      rw [if_neg c48, if_neg c110, if_pos c33] at hw
      cases st with
      | nil => cases hw
      | cons x t =>
        simp only [List.length_cons] at hst
        have hsi : G (l + 1) i = 33 := by rw [hp0.1, c33]; rfl
        have e48 : ((33 : Int32) = 48) = False := by decide
        have e110 : ((33 : Int32) = 110) = False := by decide
        have ht : ¬ nI (t.length + 1) < 1 := nI_nlt (a := t.length + 1) (b := 1) (by omega) (by omega)
        have ht1 : nI (t.length + 1) - 1 = nI t.length := nI_pred t.length
        have hti : am_in (nI t.length) 50 = true := am_in_nI (by omega) (by decide)
        have htc : (nI t.length).toNatClampNeg = t.length := nI_clamp (by omega)
        have hx : ∀ y : Int32, y = (if x = 0 then 1 else 0) → ∃ G' : am_G, (∀ p j, p ≠ l + 3 → G' p j = G p j) ∧ am_Rn X (D + 1) (some .int) am_J18 6 [some (.ref l), some (.int a), some (.int b), some (.int c), some (.int (nI (t.length + 1))), some (.int (nI (i + 1))), some (.int 33), z7] [] (am_L0 q, am_up G (l + 3) t.length y) (some (.int v), (am_L0 q, G')) := by
          intro y hy
          dsimp only at hw
          rw [← hy] at hw
          obtain ⟨G', f1, hh⟩ := ih (i + 1) (y :: t) (am_up G (l + 3) t.length y) (some (.int 33)) z7 (by omega) (by simp only [List.length_cons]; omega) (hzu _ _) (hpt _ _ _ rfl) hgt (am_stk_push hs.2) hw rfl
          exact ⟨G', hfr _ _ _ f1, hh⟩
        by_cases k0 : x = 0
        · obtain ⟨G', f1, hh⟩ := hx 1 (by rw [if_pos k0])
          refine ⟨G', f1, ?_⟩
          have hs0 : G (l + 3) t.length = 0 := hs.1.trans k0
          simp only [am_s18_6, am_s18_8, am_s18_9, am_s18_12, am_s18_15, am_s18_16, am_s18_19, am_s18_21, am_s18_22, am_s18_24, am_s18_26, am_s18_28, am_s18_31, am_s18_33, am_s18_35, am_s18_38, am_s18_40, am_s18_41, am_s18_44, am_s18_45, am_s18_48, am_s18_49, am_s18_50, am_s18_51, am_s18_54, am_s18_56, am_s18_57, am_s18_59, am_s18_60, am_s18_63, am_s18_65, am_s18_67, am_s18_69, am_s18_72, am_s18_74, am_s18_77, am_s18_79, am_s18_82, am_s18_83, am_s18_86, am_s18_88, am_s18_89, am_s18_92, am_s18_93, am_s18_96, am_s18_97, am_s18_98, am_s18_101, am_s18_104, am_s18_106, am_s18_108, am_s18_111, am_s18_113, am_s18_114, am_s18_117, am_s18_118, am_s18_119, am_s18_120, am_s18_123, am_s18_125, am_s18_126, am_s18_127, am_s18_128, am_s18_131, am_s18_133, am_s18_134, am_s18_135, am_s18_136, am_s18_139, am_s18_140, am_s18_143, am_s18_144, am_s18_145, am_s18_148, am_s18_150, am_s18_151, am_s18_154, am_s18_155, am_s18_156, am_s18_159, am_s18_160, am_s18_163, am_s18_165, am_s18_166, am_s18_167, am_s18_169, am_s18_170, am_s18_173, am_s18_175, am_s18_176, am_s18_177, am_s18_178, am_s18_179, am_s18_182, am_s18_184, am_s18_185, am_s18_188, am_s18_189, List.length_cons, am_fl_4 hl, am_fl_3 hl, am_fl_2 hl, am_fl_1 hl, am_al_1 hl, am_al_3 hl, am_tl_3 hl, am_nl_3 hl, hz, h1, hii, hci, hsi, hs0, ht, hti, htc, ht1, hi1, hz6, e48, e110, eq_self, am_os_some, Option.toList_some, Option.toList_none, List.cons_append, List.nil_append, if_true, if_false, true_and, am_nw1_i, am_nw1_r, am_nw1_n, cond_true]
          rw [am_s18_192]
          exact hh
        · obtain ⟨G', f1, hh⟩ := hx 0 (by rw [if_neg k0])
          refine ⟨G', f1, ?_⟩
          have hs0 : G (l + 3) t.length = x := hs.1
          simp only [am_s18_6, am_s18_8, am_s18_9, am_s18_12, am_s18_15, am_s18_16, am_s18_19, am_s18_21, am_s18_22, am_s18_24, am_s18_26, am_s18_28, am_s18_31, am_s18_33, am_s18_35, am_s18_38, am_s18_40, am_s18_41, am_s18_44, am_s18_45, am_s18_48, am_s18_49, am_s18_50, am_s18_51, am_s18_54, am_s18_56, am_s18_57, am_s18_59, am_s18_60, am_s18_63, am_s18_65, am_s18_67, am_s18_69, am_s18_72, am_s18_74, am_s18_77, am_s18_79, am_s18_82, am_s18_83, am_s18_86, am_s18_88, am_s18_89, am_s18_92, am_s18_93, am_s18_96, am_s18_97, am_s18_98, am_s18_101, am_s18_104, am_s18_106, am_s18_108, am_s18_111, am_s18_113, am_s18_114, am_s18_117, am_s18_118, am_s18_119, am_s18_120, am_s18_123, am_s18_125, am_s18_126, am_s18_127, am_s18_128, am_s18_131, am_s18_133, am_s18_134, am_s18_135, am_s18_136, am_s18_139, am_s18_140, am_s18_143, am_s18_144, am_s18_145, am_s18_148, am_s18_150, am_s18_151, am_s18_154, am_s18_155, am_s18_156, am_s18_159, am_s18_160, am_s18_163, am_s18_165, am_s18_166, am_s18_167, am_s18_169, am_s18_170, am_s18_173, am_s18_175, am_s18_176, am_s18_177, am_s18_178, am_s18_179, am_s18_182, am_s18_184, am_s18_185, am_s18_188, am_s18_189, List.length_cons, am_fl_4 hl, am_fl_3 hl, am_fl_2 hl, am_fl_1 hl, am_al_1 hl, am_al_3 hl, am_tl_3 hl, am_nl_3 hl, hz, h1, hii, hci, hsi, hs0, k0, ht, hti, htc, ht1, hi1, hz6, e48, e110, eq_self, am_os_some, Option.toList_some, Option.toList_none, List.cons_append, List.nil_append, if_true, if_false, true_and, am_nw1_i, am_nw1_r, am_nw1_n, cond_true]
          rw [am_s18_192]
          exact hh
    · have hop : z.1 ∈ am_opz := by
        rcases hsg with h | h | h | h
        · exact absurd h c48
        · exact absurd h c110
        · exact absurd h c33
        · exact h
      obtain ⟨e48, e110, e33, -⟩ := am_nI_sg z.1 hop
      unfold am_wst at hw
      rw [if_neg c48, if_neg c110, if_neg c33] at hw
      match st, hw, hs, hst with
      | [], hw, _, _ => cases hw
      | [_], hw, _, _ => cases hw
      | y :: x :: t, hw, hs, hst =>
        simp only [List.length_cons] at hst
        dsimp only at hw
        obtain ⟨hs1, hs2, hs3⟩ := hs
        simp only [List.length_cons] at hs1
        have ht : ¬ nI (t.length + 1 + 1) < 2 := nI_nlt (a := t.length + 1 + 1) (b := 2) (by omega) (by omega)
        have ht2 : nI (t.length + 1 + 1) + (-1) = nI (t.length + 1) := by rw [← nI_pred (t.length + 1), Int32.sub_eq_add_neg]
        have ht1 : nI (t.length + 1) - 1 = nI t.length := nI_pred t.length
        have hti : am_in (nI t.length) 50 = true := am_in_nI (by omega) (by decide)
        have hti2 : am_in (nI (t.length + 1)) 50 = true := am_in_nI (by omega) (by decide)
        have htc : (nI t.length).toNatClampNeg = t.length := nI_clamp (by omega)
        have htc2 : (nI (t.length + 1)).toNatClampNeg = t.length + 1 := nI_clamp (by omega)
        obtain ⟨G', f1, hh⟩ := ih (i + 1) (am_jn z.1 x y :: t) (am_up G (l + 3) t.length (am_jn z.1 x y)) (some (.int (nI z.1))) z7 (by omega) (by simp only [List.length_cons]; omega) (hzu _ _) (hpt _ _ _ rfl) hgt (am_stk_push hs3) hw rfl
        refine ⟨G', hfr _ _ _ f1, ?_⟩
        simp only [am_s18_6, am_s18_8, am_s18_9, am_s18_12, am_s18_15, am_s18_16, am_s18_19, am_s18_21, am_s18_22, am_s18_24, am_s18_26, am_s18_28, am_s18_31, am_s18_33, am_s18_35, am_s18_38, am_s18_40, am_s18_41, am_s18_44, am_s18_45, am_s18_48, am_s18_49, am_s18_50, am_s18_51, am_s18_54, am_s18_56, am_s18_57, am_s18_59, am_s18_60, am_s18_63, am_s18_65, am_s18_67, am_s18_69, am_s18_72, am_s18_74, am_s18_77, am_s18_79, am_s18_82, am_s18_83, am_s18_86, am_s18_88, am_s18_89, am_s18_92, am_s18_93, am_s18_96, am_s18_97, am_s18_98, am_s18_101, am_s18_104, am_s18_106, am_s18_108, am_s18_111, am_s18_113, am_s18_114, am_s18_117, am_s18_118, am_s18_119, am_s18_120, am_s18_123, am_s18_125, am_s18_126, am_s18_127, am_s18_128, am_s18_131, am_s18_133, am_s18_134, am_s18_135, am_s18_136, am_s18_139, am_s18_140, am_s18_143, am_s18_144, am_s18_145, am_s18_148, am_s18_150, am_s18_151, am_s18_154, am_s18_155, am_s18_156, am_s18_159, am_s18_160, am_s18_163, am_s18_165, am_s18_166, am_s18_167, am_s18_169, am_s18_170, am_s18_173, am_s18_175, am_s18_176, am_s18_177, am_s18_178, am_s18_179, am_s18_182, am_s18_184, am_s18_185, am_s18_188, am_s18_189, List.length_cons, am_fl_4 hl, am_fl_3 hl, am_fl_2 hl, am_fl_1 hl, am_al_1 hl, am_al_3 hl, am_tl_3 hl, am_nl_3 hl, hz, h1, hii, hci, hp0.1, hs1, hs2, ht, ht2, hti, hti2, htc, htc2, ht1, hi1, hz6, e48, e110, e33, am_cal_ok (am_cat_2 _ _) am_rcv_f (am_m19 (D := D) hop x y), eq_self, am_os_some, Option.toList_some, Option.toList_none, List.cons_append, List.nil_append, if_true, if_false, true_and, am_nw1_i, am_nw1_r, am_nw1_n, cond_true]
        rw [am_s18_192]
        exact hh
end AMLW
/-- the cells of a law at l of a USE u hold T -/
def am_cw (l u : Nat) (G : am_G) (T : am_T) : Prop := G l 0 = nI u ∧ G l 4 = nI T.length ∧ T.length ≤ 50 ∧ ∀ i, i < T.length → G (l + 1) i = nI (T.getD i (0, 0)).1 ∧ G (l + 2) i = nI (T.getD i (0, 0)).2
def am_wt (T : am_T) : Prop := T = [] ∨ ((∀ z ∈ T, am_sg z.1 ∧ z.2 < 10000) ∧ ∀ a b c : Int32, ∃ v, am_wo a b c T [] = some [v])
theorem am_cw_fr {l u : Nat} {G G' : am_G} {T : am_T} (h : am_cw l u G T) (hf : ∀ i j, l ≤ i → i < l + 3 → G' i j = G i j) : am_cw l u G' T := by
  obtain ⟨h1, h2, h3, h4⟩ := h
  refine ⟨by rw [hf l 0 (by omega) (by omega)]; exact h1, by rw [hf l 4 (by omega) (by omega)]; exact h2, h3, fun i hi => ?_⟩
  rw [hf (l + 1) i (by omega) (by omega), hf (l + 2) i (by omega) (by omega)]
  exact h4 i hi
theorem am_clx (v : Int32) : (if 0 < (if v < 1 then v else 1) then (if v < 1 then v else 1) else 0) = am_cl0 v := by
  have e0 : (0 : Int32).toInt = 0 := by decide +kernel
  have e1 : (1 : Int32).toInt = 1 := by decide +kernel
  unfold am_cl0
  by_cases h : v ≤ 0
  · have h1 : v < 1 := by
      rw [Int32.lt_iff_toInt_lt, e1]
      rw [Int32.le_iff_toInt_le, e0] at h
      omega
    have h2 : ¬ 0 < v := by
      rw [Int32.lt_iff_toInt_lt, e0]
      rw [Int32.le_iff_toInt_le, e0] at h
      omega
    rw [if_pos h1, if_neg h2, if_pos h]
  · have h1 : ¬ v < 1 := by
      rw [Int32.lt_iff_toInt_lt, e1]
      rw [Int32.le_iff_toInt_le, e0] at h
      omega
    rw [if_neg h1, if_pos (by decide), if_neg h]
section AMLV
variable {X : am_X} {D q l u : Nat} {G : am_G} {T : am_T}
theorem am_m18 (hl : am_isl l) (h : am_cw l u G T) {a b c v : Int32} (hg : ∀ z ∈ T, am_sg z.1 ∧ z.2 < 10000) (hv : am_wo a b c T [] = some [v]) : ∃ G' : am_G, (∀ p j, p ≠ l + 3 → G' p j = G p j) ∧ am_CD X (D + 2) 18 [.ref l, .int a, .int b, .int c] (am_L0 q, G) = some (some (.int v), (am_L0 q, G')) := by
  obtain ⟨h1, h2, h3, h4⟩ := h
  obtain ⟨G', f1, hh⟩ := am_l18 (X := X) (D := D) (q := q) hl h3 T 0 [] G none none (by omega) (by simp) h2 (fun j hj => by rw [Nat.zero_add]; exact h4 j hj) hg trivial hv rfl
  refine ⟨G', f1, ?_⟩
  refine am_CD_of (M := am_N18) rfl rfl ?_
  show am_Rn _ _ ((Option.some FieldType.int)) am_J18 0 [some (.ref l), some (.int a), some (.int b), some (.int c), none, none, none, none] [] (am_L0 q, G) _
  simp only [am_s18_0, am_s18_1, am_s18_3, am_s18_4, eq_self, am_os_some, Option.toList_some, Option.toList_none, List.cons_append, List.nil_append, if_true, if_false, true_and, am_nw1_i, am_nw1_r, am_nw1_n, cond_true]
  exact hh
theorem am_m17 (hl : am_isl l) (hu : u < 2) (h : am_cw l u G T) (ht : am_wt T) (a b c : Int32) : ∃ G' : am_G, (∀ p j, p ≠ l + 3 → G' p j = G p j) ∧ am_CD X (D + 3) 17 [.ref l, .int a, .int b, .int c] (am_L0 q, G) = some (some (.int (am_lgv u T a b c)), (am_L0 q, G')) := by
  obtain ⟨h1, h2, h3, h4⟩ := id h
  rcases ht with rfl | ⟨hg, hv⟩
  · refine ⟨G, fun _ _ _ => rfl, ?_⟩
    have hz : G l 4 = 0 := h2
    have e00 : ((0 : Int32) ≤ 0) = True := by decide
    have e2 : ((2 : Int32) = 0) = False := by decide
    refine am_CD_of (M := am_N17) rfl rfl ?_
    show am_Rn _ _ ((Option.some FieldType.int)) am_J17 0 [some (.ref l), some (.int a), some (.int b), some (.int c), none] [] (am_L0 q, G) _
    unfold am_lgv am_lr
    match u, hu, h1 with
    | 0, _, h1 =>
      have hu0 : G l 0 = 0 := h1
      simp only [am_s17_0, am_s17_1, am_s17_4, am_s17_7, am_s17_8, am_s17_9, am_s17_10, am_s17_11, am_s17_14, am_s17_17, am_s17_18, am_s17_21, am_s17_24, am_s17_25, am_s17_26, am_s17_27, am_s17_30, am_s17_31, am_s17_32, am_s17_35, am_s17_36, am_s17_39, am_s17_40, am_s17_42, am_s17_43, am_s17_44, am_s17_46, am_s17_49, am_s17_52, am_fl_4 hl, am_fl_0 hl, hz, hu0, e00, e2, not_false_eq_true, am_cat_0, am_cat_1, am_clx, eq_self, am_os_some, Option.toList_some, Option.toList_none, List.cons_append, List.nil_append, if_true, if_false, true_and, am_nw1_i, am_nw1_r, am_nw1_n, cond_true]
    | 1, _, h1 =>
      have hu0 : G l 0 = 1 := h1
      have e10 : ((1 : Int32) = 0) = False := by decide
      have e10' : ((1 : Nat) = 0) = False := by decide
      by_cases h3 : a ≤ 3
      · simp only [am_s17_0, am_s17_1, am_s17_4, am_s17_7, am_s17_8, am_s17_9, am_s17_10, am_s17_11, am_s17_14, am_s17_17, am_s17_18, am_s17_21, am_s17_24, am_s17_25, am_s17_26, am_s17_27, am_s17_30, am_s17_31, am_s17_32, am_s17_35, am_s17_36, am_s17_39, am_s17_40, am_s17_42, am_s17_43, am_s17_44, am_s17_46, am_s17_49, am_s17_52, am_fl_4 hl, am_fl_0 hl, hz, hu0, h3, e00, e10, e10', am_cat_0, am_cat_1, am_clx, eq_self, am_os_some, Option.toList_some, Option.toList_none, List.cons_append, List.nil_append, if_true, if_false, true_and, am_nw1_i, am_nw1_r, am_nw1_n, cond_true]
      · simp only [am_s17_0, am_s17_1, am_s17_4, am_s17_7, am_s17_8, am_s17_9, am_s17_10, am_s17_11, am_s17_14, am_s17_17, am_s17_18, am_s17_21, am_s17_24, am_s17_25, am_s17_26, am_s17_27, am_s17_30, am_s17_31, am_s17_32, am_s17_35, am_s17_36, am_s17_39, am_s17_40, am_s17_42, am_s17_43, am_s17_44, am_s17_46, am_s17_49, am_s17_52, am_fl_4 hl, am_fl_0 hl, hz, hu0, h3, e00, e10, e10', am_cat_0, am_cat_1, am_clx, eq_self, am_os_some, Option.toList_some, Option.toList_none, List.cons_append, List.nil_append, if_true, if_false, true_and, am_nw1_i, am_nw1_r, am_nw1_n, cond_true]
  · obtain ⟨v, hv⟩ := hv a b c
    obtain ⟨G', f1, hh⟩ := am_m18 (X := X) (D := D) (q := q) hl h hg hv
    refine ⟨G', f1, ?_⟩
    have hne : T ≠ [] := fun e => by rw [e] at hv; cases hv
    have hz : ¬ G l 4 ≤ 0 := by
      rw [h2]
      exact nI_nle (List.length_pos_iff.mpr hne) (by omega)
    have hr : am_lr u T a b c = v := by
      unfold am_lr
      cases T with
      | nil => exact absurd rfl hne
      | cons z t => simp only [hv]
    unfold am_lgv
    rw [hr]
    refine am_CD_of (M := am_N17) rfl rfl ?_
    show am_Rn _ _ ((Option.some FieldType.int)) am_J17 0 [some (.ref l), some (.int a), some (.int b), some (.int c), none] [] (am_L0 q, G) _
    simp only [am_s17_0, am_s17_1, am_s17_4, am_s17_7, am_s17_8, am_s17_9, am_s17_10, am_s17_11, am_s17_14, am_s17_17, am_s17_18, am_s17_21, am_s17_24, am_s17_25, am_s17_26, am_s17_27, am_s17_30, am_s17_31, am_s17_32, am_s17_35, am_s17_36, am_s17_39, am_s17_40, am_s17_42, am_s17_43, am_s17_44, am_s17_46, am_s17_49, am_s17_52, am_fl_4 hl, hz, am_cal_ok am_cat_0 (am_rl_v hl) hh, am_cat_0, am_cat_1, am_clx, eq_self, am_os_some, Option.toList_some, Option.toList_none, List.cons_append, List.nil_append, if_true, if_false, true_and, am_nw1_i, am_nw1_r, am_nw1_n, cond_true]
end AMLV
