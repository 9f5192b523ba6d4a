/-! THE WORLD of a new class object (0 .. 113) and a new reference (114 .. 125); q: the String that the reader holds -/
def am_L0 (q : Nat) : List am_L := [.inl (10, [some (.ref 1), some (.ref 30), some (.ref 59), some (.ref 92), some (.ref 99), some (.ref 101), some (.ref 104), some (.ref 105), none]), .inl (9, [some (.ref 2), some (.ref 6), some (.ref 10), some (.ref 26), some (.ref 28), none]), .inl (1, [none, some (.ref 3), some (.ref 4), some (.ref 5), none]), .inr (.inl 50), .inr (.inl 50), .inr (.inl 50), .inl (1, [none, some (.ref 7), some (.ref 8), some (.ref 9), none]), .inr (.inl 50), .inr (.inl 50), .inr (.inl 50), .inl (2, [some (.ref 2), some (.ref 6), some (.ref 11), some (.ref 12), some (.ref 13), some (.ref 14), some (.ref 15), some (.ref 16), none, none]), .inr (.inl 8), .inr (.inl 8), .inr (.inl 8), .inr (.inl 8), .inr (.inl 8), .inl (0, [some (.ref 17)]), .inr (.inr (0, [some 18, some 19, some 20, some 21, some 22, some 23, some 24, some 25])), .inr (.inl 8), .inr (.inl 8), .inr (.inl 8), .inr (.inl 8), .inr (.inl 8), .inr (.inl 8), .inr (.inl 8), .inr (.inl 8), .inl (4, [some (.ref 27), none]), .inr (.inl 50), .inl (4, [some (.ref 29), none]), .inr (.inl 20), .inl (9, [some (.ref 31), some (.ref 35), some (.ref 39), some (.ref 55), some (.ref 57), none]), .inl (1, [none, some (.ref 32), some (.ref 33), some (.ref 34), none]), .inr (.inl 50), .inr (.inl 50), .inr (.inl 50), .inl (1, [none, some (.ref 36), some (.ref 37), some (.ref 38), none]), .inr (.inl 50), .inr (.inl 50), .inr (.inl 50), .inl (2, [some (.ref 31), some (.ref 35), some (.ref 40), some (.ref 41), some (.ref 42), some (.ref 43), some (.ref 44), some (.ref 45), none, none]), .inr (.inl 8), .inr (.inl 8), .inr (.inl 8), .inr (.inl 8), .inr (.inl 8), .inl (0, [some (.ref 46)]), .inr (.inr (0, [some 47, some 48, some 49, some 50, some 51, some 52, some 53, some 54])), .inr (.inl 8), .inr (.inl 8), .inr (.inl 8), .inr (.inl 8), .inr (.inl 8), .inr (.inl 8), .inr (.inl 8), .inr (.inl 8), .inl (4, [some (.ref 56), none]), .inr (.inl 50), .inl (4, [some (.ref 58), none]), .inr (.inl 20), .inl (7, [some (.ref 10), some (.ref 60), some (.ref 76)]), .inl (2, [some (.ref 2), some (.ref 6), some (.ref 61), some (.ref 62), some (.ref 63), some (.ref 64), some (.ref 65), some (.ref 66), none, none]), .inr (.inl 8), .inr (.inl 8), .inr (.inl 8), .inr (.inl 8), .inr (.inl 8), .inl (0, [some (.ref 67)]), .inr (.inr (0, [some 68, some 69, some 70, some 71, some 72, some 73, some 74, some 75])), .inr (.inl 8), .inr (.inl 8), .inr (.inl 8), .inr (.inl 8), .inr (.inl 8), .inr (.inl 8), .inr (.inl 8), .inr (.inl 8), .inl (2, [some (.ref 2), some (.ref 6), some (.ref 77), some (.ref 78), some (.ref 79), some (.ref 80), some (.ref 81), some (.ref 82), none, none]), .inr (.inl 8), .inr (.inl 8), .inr (.inl 8), .inr (.inl 8), .inr (.inl 8), .inl (0, [some (.ref 83)]), .inr (.inr (0, [some 84, some 85, some 86, some 87, some 88, some 89, some 90, some 91])), .inr (.inl 8), .inr (.inl 8), .inr (.inl 8), .inr (.inl 8), .inr (.inl 8), .inr (.inl 8), .inr (.inl 8), .inr (.inl 8), .inl (3, [some (.ref 93), some (.ref 97), some (.ref q), none, none]), .inl (1, [none, some (.ref 94), some (.ref 95), some (.ref 96), none]), .inr (.inl 50), .inr (.inl 50), .inr (.inl 50), .inl (4, [some (.ref 98), none]), .inr (.inl 50), .inl (5, [some (.ref 100), none]), .inr (.inl 256), .inl (8, [some (.ref 102), none, none, none]), .inl (4, [some (.ref 103), none]), .inr (.inl 40), .inr (.inr (1, [some 106, some 108, some 110, some 112])), .inr (.inl 6), .inl (6, [some (.ref 107), none, none]), .inr (.inl 40), .inl (6, [some (.ref 109), none, none]), .inr (.inl 40), .inl (6, [some (.ref 111), none, none]), .inr (.inl 40), .inl (6, [some (.ref 113), none, none]), .inr (.inl 40), .inl (11, [some (.ref 115), some (.ref 116), some (.ref 117), some (.ref 118), none, none, some (.ref 119), none, none, none, none, none, none, none, none, none, none, none, none, some (.ref 120), some (.ref 121), some (.ref 122), some (.ref 123), some (.ref 124), some (.ref 125), none, none, none, none]), .inr (.inl 281), .inr (.inl 281), .inr (.inl 281), .inr (.inl 281), .inr (.inl 6), .inr (.inl 4), .inr (.inl 4), .inr (.inl 160), .inr (.inl 40), .inr (.inl 8), .inr (.inl 40)]
section AML0
variable {q : Nat} {G : am_G} {X : am_X} {x i : Int32} {b : Nat} {as : List Value}
theorem am_lc0 : (am_L0 q)[0]? = some (.inl (10, [some (.ref 1), some (.ref 30), some (.ref 59), some (.ref 92), some (.ref 99), some (.ref 101), some (.ref 104), some (.ref 105), none])) := rfl
theorem am_f0_0 : am_fld (am_L0 q, G) 0 10 0 = some (.ref 1) := rfl
theorem am_f0_1 : am_fld (am_L0 q, G) 0 10 1 = some (.ref 30) := rfl
theorem am_f0_2 : am_fld (am_L0 q, G) 0 10 2 = some (.ref 59) := rfl
theorem am_f0_3 : am_fld (am_L0 q, G) 0 10 3 = some (.ref 92) := rfl
theorem am_f0_4 : am_fld (am_L0 q, G) 0 10 4 = some (.ref 99) := rfl
theorem am_f0_5 : am_fld (am_L0 q, G) 0 10 5 = some (.ref 101) := rfl
theorem am_f0_6 : am_fld (am_L0 q, G) 0 10 6 = some (.ref 104) := rfl
theorem am_f0_7 : am_fld (am_L0 q, G) 0 10 7 = some (.ref 105) := rfl
theorem am_f0_8 : am_fld (am_L0 q, G) 0 10 8 = some (.int (G 0 8)) := rfl
theorem am_p0_8 : am_putM (am_L0 q, G) 0 10 8 (.int x) = some (am_L0 q, am_up G 0 8 x) := rfl
theorem am_v0 : am_rcv true 10 (.ref 0 :: as) (am_L0 q, G) = true := rfl
theorem am_lc1 : (am_L0 q)[1]? = some (.inl (9, [some (.ref 2), some (.ref 6), some (.ref 10), some (.ref 26), some (.ref 28), none])) := rfl
theorem am_f1_0 : am_fld (am_L0 q, G) 1 9 0 = some (.ref 2) := rfl
theorem am_f1_1 : am_fld (am_L0 q, G) 1 9 1 = some (.ref 6) := rfl
theorem am_f1_2 : am_fld (am_L0 q, G) 1 9 2 = some (.ref 10) := rfl
theorem am_f1_3 : am_fld (am_L0 q, G) 1 9 3 = some (.ref 26) := rfl
theorem am_f1_4 : am_fld (am_L0 q, G) 1 9 4 = some (.ref 28) := rfl
theorem am_f1_5 : am_fld (am_L0 q, G) 1 9 5 = some (.int (G 1 5)) := rfl
theorem am_p1_5 : am_putM (am_L0 q, G) 1 9 5 (.int x) = some (am_L0 q, am_up G 1 5 x) := rfl
theorem am_v1 : am_rcv true 9 (.ref 1 :: as) (am_L0 q, G) = true := rfl
theorem am_lc2 : (am_L0 q)[2]? = some (.inl (1, [none, some (.ref 3), some (.ref 4), some (.ref 5), none])) := rfl
theorem am_f2_0 : am_fld (am_L0 q, G) 2 1 0 = some (.int (G 2 0)) := rfl
theorem am_p2_0 : am_putM (am_L0 q, G) 2 1 0 (.int x) = some (am_L0 q, am_up G 2 0 x) := rfl
theorem am_f2_1 : am_fld (am_L0 q, G) 2 1 1 = some (.ref 3) := rfl
theorem am_f2_2 : am_fld (am_L0 q, G) 2 1 2 = some (.ref 4) := rfl
theorem am_f2_3 : am_fld (am_L0 q, G) 2 1 3 = some (.ref 5) := rfl
theorem am_f2_4 : am_fld (am_L0 q, G) 2 1 4 = some (.int (G 2 4)) := rfl
theorem am_p2_4 : am_putM (am_L0 q, G) 2 1 4 (.int x) = some (am_L0 q, am_up G 2 4 x) := rfl
theorem am_v2 : am_rcv true 1 (.ref 2 :: as) (am_L0 q, G) = true := rfl
theorem am_lc3 : (am_L0 q)[3]? = some (.inr (.inl 50)) := rfl
theorem am_a3 : am_ald X (am_L0 q, G) 3 i = bif am_in i 50 then some (G 3 i.toNatClampNeg) else none := rfl
theorem am_t3 : am_astM (am_L0 q, G) 3 i x = bif am_in i 50 then some (am_L0 q, am_up G 3 i.toNatClampNeg x) else none := rfl
theorem am_n3 : am_len X (am_L0 q, G) 3 = some 50 := rfl
theorem am_lc4 : (am_L0 q)[4]? = some (.inr (.inl 50)) := rfl
theorem am_a4 : am_ald X (am_L0 q, G) 4 i = bif am_in i 50 then some (G 4 i.toNatClampNeg) else none := rfl
theorem am_t4 : am_astM (am_L0 q, G) 4 i x = bif am_in i 50 then some (am_L0 q, am_up G 4 i.toNatClampNeg x) else none := rfl
theorem am_n4 : am_len X (am_L0 q, G) 4 = some 50 := rfl
theorem am_lc5 : (am_L0 q)[5]? = some (.inr (.inl 50)) := rfl
theorem am_a5 : am_ald X (am_L0 q, G) 5 i = bif am_in i 50 then some (G 5 i.toNatClampNeg) else none := rfl
theorem am_t5 : am_astM (am_L0 q, G) 5 i x = bif am_in i 50 then some (am_L0 q, am_up G 5 i.toNatClampNeg x) else none := rfl
theorem am_n5 : am_len X (am_L0 q, G) 5 = some 50 := rfl
theorem am_lc6 : (am_L0 q)[6]? = some (.inl (1, [none, some (.ref 7), some (.ref 8), some (.ref 9), none])) := rfl
theorem am_f6_0 : am_fld (am_L0 q, G) 6 1 0 = some (.int (G 6 0)) := rfl
theorem am_p6_0 : am_putM (am_L0 q, G) 6 1 0 (.int x) = some (am_L0 q, am_up G 6 0 x) := rfl
theorem am_f6_1 : am_fld (am_L0 q, G) 6 1 1 = some (.ref 7) := rfl
theorem am_f6_2 : am_fld (am_L0 q, G) 6 1 2 = some (.ref 8) := rfl
theorem am_f6_3 : am_fld (am_L0 q, G) 6 1 3 = some (.ref 9) := rfl
theorem am_f6_4 : am_fld (am_L0 q, G) 6 1 4 = some (.int (G 6 4)) := rfl
theorem am_p6_4 : am_putM (am_L0 q, G) 6 1 4 (.int x) = some (am_L0 q, am_up G 6 4 x) := rfl
theorem am_v6 : am_rcv true 1 (.ref 6 :: as) (am_L0 q, G) = true := rfl
theorem am_lc7 : (am_L0 q)[7]? = some (.inr (.inl 50)) := rfl
theorem am_a7 : am_ald X (am_L0 q, G) 7 i = bif am_in i 50 then some (G 7 i.toNatClampNeg) else none := rfl
theorem am_t7 : am_astM (am_L0 q, G) 7 i x = bif am_in i 50 then some (am_L0 q, am_up G 7 i.toNatClampNeg x) else none := rfl
theorem am_n7 : am_len X (am_L0 q, G) 7 = some 50 := rfl
theorem am_lc8 : (am_L0 q)[8]? = some (.inr (.inl 50)) := rfl
theorem am_a8 : am_ald X (am_L0 q, G) 8 i = bif am_in i 50 then some (G 8 i.toNatClampNeg) else none := rfl
theorem am_t8 : am_astM (am_L0 q, G) 8 i x = bif am_in i 50 then some (am_L0 q, am_up G 8 i.toNatClampNeg x) else none := rfl
theorem am_n8 : am_len X (am_L0 q, G) 8 = some 50 := rfl
theorem am_lc9 : (am_L0 q)[9]? = some (.inr (.inl 50)) := rfl
theorem am_a9 : am_ald X (am_L0 q, G) 9 i = bif am_in i 50 then some (G 9 i.toNatClampNeg) else none := rfl
theorem am_t9 : am_astM (am_L0 q, G) 9 i x = bif am_in i 50 then some (am_L0 q, am_up G 9 i.toNatClampNeg x) else none := rfl
theorem am_n9 : am_len X (am_L0 q, G) 9 = some 50 := rfl
theorem am_lc10 : (am_L0 q)[10]? = some (.inl (2, [some (.ref 2), some (.ref 6), some (.ref 11), some (.ref 12), some (.ref 13), some (.ref 14), some (.ref 15), some (.ref 16), none, none])) := rfl
theorem am_f10_0 : am_fld (am_L0 q, G) 10 2 0 = some (.ref 2) := rfl
theorem am_f10_1 : am_fld (am_L0 q, G) 10 2 1 = some (.ref 6) := rfl
theorem am_f10_2 : am_fld (am_L0 q, G) 10 2 2 = some (.ref 11) := rfl
theorem am_f10_3 : am_fld (am_L0 q, G) 10 2 3 = some (.ref 12) := rfl
theorem am_f10_4 : am_fld (am_L0 q, G) 10 2 4 = some (.ref 13) := rfl
theorem am_f10_5 : am_fld (am_L0 q, G) 10 2 5 = some (.ref 14) := rfl
theorem am_f10_6 : am_fld (am_L0 q, G) 10 2 6 = some (.ref 15) := rfl
theorem am_f10_7 : am_fld (am_L0 q, G) 10 2 7 = some (.ref 16) := rfl
theorem am_f10_8 : am_fld (am_L0 q, G) 10 2 8 = some (.int (G 10 8)) := rfl
theorem am_p10_8 : am_putM (am_L0 q, G) 10 2 8 (.int x) = some (am_L0 q, am_up G 10 8 x) := rfl
theorem am_f10_9 : am_fld (am_L0 q, G) 10 2 9 = some (.int (G 10 9)) := rfl
theorem am_p10_9 : am_putM (am_L0 q, G) 10 2 9 (.int x) = some (am_L0 q, am_up G 10 9 x) := rfl
theorem am_v10 : am_rcv true 2 (.ref 10 :: as) (am_L0 q, G) = true := rfl
theorem am_lc11 : (am_L0 q)[11]? = some (.inr (.inl 8)) := rfl
theorem am_a11 : am_ald X (am_L0 q, G) 11 i = bif am_in i 8 then some (G 11 i.toNatClampNeg) else none := rfl
theorem am_t11 : am_astM (am_L0 q, G) 11 i x = bif am_in i 8 then some (am_L0 q, am_up G 11 i.toNatClampNeg x) else none := rfl
theorem am_n11 : am_len X (am_L0 q, G) 11 = some 8 := rfl
theorem am_lc12 : (am_L0 q)[12]? = some (.inr (.inl 8)) := rfl
theorem am_a12 : am_ald X (am_L0 q, G) 12 i = bif am_in i 8 then some (G 12 i.toNatClampNeg) else none := rfl
theorem am_t12 : am_astM (am_L0 q, G) 12 i x = bif am_in i 8 then some (am_L0 q, am_up G 12 i.toNatClampNeg x) else none := rfl
theorem am_n12 : am_len X (am_L0 q, G) 12 = some 8 := rfl
theorem am_lc13 : (am_L0 q)[13]? = some (.inr (.inl 8)) := rfl
theorem am_a13 : am_ald X (am_L0 q, G) 13 i = bif am_in i 8 then some (G 13 i.toNatClampNeg) else none := rfl
theorem am_t13 : am_astM (am_L0 q, G) 13 i x = bif am_in i 8 then some (am_L0 q, am_up G 13 i.toNatClampNeg x) else none := rfl
theorem am_n13 : am_len X (am_L0 q, G) 13 = some 8 := rfl
theorem am_lc14 : (am_L0 q)[14]? = some (.inr (.inl 8)) := rfl
theorem am_a14 : am_ald X (am_L0 q, G) 14 i = bif am_in i 8 then some (G 14 i.toNatClampNeg) else none := rfl
theorem am_t14 : am_astM (am_L0 q, G) 14 i x = bif am_in i 8 then some (am_L0 q, am_up G 14 i.toNatClampNeg x) else none := rfl
theorem am_n14 : am_len X (am_L0 q, G) 14 = some 8 := rfl
theorem am_lc15 : (am_L0 q)[15]? = some (.inr (.inl 8)) := rfl
theorem am_a15 : am_ald X (am_L0 q, G) 15 i = bif am_in i 8 then some (G 15 i.toNatClampNeg) else none := rfl
theorem am_t15 : am_astM (am_L0 q, G) 15 i x = bif am_in i 8 then some (am_L0 q, am_up G 15 i.toNatClampNeg x) else none := rfl
theorem am_n15 : am_len X (am_L0 q, G) 15 = some 8 := rfl
theorem am_lc16 : (am_L0 q)[16]? = some (.inl (0, [some (.ref 17)])) := rfl
theorem am_f16_0 : am_fld (am_L0 q, G) 16 0 0 = some (.ref 17) := rfl
theorem am_v16 : am_rcv true 0 (.ref 16 :: as) (am_L0 q, G) = true := rfl
theorem am_lc17 : (am_L0 q)[17]? = some (.inr (.inr (0, [some 18, some 19, some 20, some 21, some 22, some 23, some 24, some 25]))) := rfl
theorem am_n17 : am_len X (am_L0 q, G) 17 = some 8 := rfl
theorem am_lc18 : (am_L0 q)[18]? = some (.inr (.inl 8)) := rfl
theorem am_a18 : am_ald X (am_L0 q, G) 18 i = bif am_in i 8 then some (G 18 i.toNatClampNeg) else none := rfl
theorem am_t18 : am_astM (am_L0 q, G) 18 i x = bif am_in i 8 then some (am_L0 q, am_up G 18 i.toNatClampNeg x) else none := rfl
theorem am_n18 : am_len X (am_L0 q, G) 18 = some 8 := rfl
theorem am_lc19 : (am_L0 q)[19]? = some (.inr (.inl 8)) := rfl
theorem am_a19 : am_ald X (am_L0 q, G) 19 i = bif am_in i 8 then some (G 19 i.toNatClampNeg) else none := rfl
theorem am_t19 : am_astM (am_L0 q, G) 19 i x = bif am_in i 8 then some (am_L0 q, am_up G 19 i.toNatClampNeg x) else none := rfl
theorem am_n19 : am_len X (am_L0 q, G) 19 = some 8 := rfl
theorem am_lc20 : (am_L0 q)[20]? = some (.inr (.inl 8)) := rfl
theorem am_a20 : am_ald X (am_L0 q, G) 20 i = bif am_in i 8 then some (G 20 i.toNatClampNeg) else none := rfl
theorem am_t20 : am_astM (am_L0 q, G) 20 i x = bif am_in i 8 then some (am_L0 q, am_up G 20 i.toNatClampNeg x) else none := rfl
theorem am_n20 : am_len X (am_L0 q, G) 20 = some 8 := rfl
theorem am_lc21 : (am_L0 q)[21]? = some (.inr (.inl 8)) := rfl
theorem am_a21 : am_ald X (am_L0 q, G) 21 i = bif am_in i 8 then some (G 21 i.toNatClampNeg) else none := rfl
theorem am_t21 : am_astM (am_L0 q, G) 21 i x = bif am_in i 8 then some (am_L0 q, am_up G 21 i.toNatClampNeg x) else none := rfl
theorem am_n21 : am_len X (am_L0 q, G) 21 = some 8 := rfl
theorem am_lc22 : (am_L0 q)[22]? = some (.inr (.inl 8)) := rfl
theorem am_a22 : am_ald X (am_L0 q, G) 22 i = bif am_in i 8 then some (G 22 i.toNatClampNeg) else none := rfl
theorem am_t22 : am_astM (am_L0 q, G) 22 i x = bif am_in i 8 then some (am_L0 q, am_up G 22 i.toNatClampNeg x) else none := rfl
theorem am_n22 : am_len X (am_L0 q, G) 22 = some 8 := rfl
theorem am_lc23 : (am_L0 q)[23]? = some (.inr (.inl 8)) := rfl
theorem am_a23 : am_ald X (am_L0 q, G) 23 i = bif am_in i 8 then some (G 23 i.toNatClampNeg) else none := rfl
theorem am_t23 : am_astM (am_L0 q, G) 23 i x = bif am_in i 8 then some (am_L0 q, am_up G 23 i.toNatClampNeg x) else none := rfl
theorem am_n23 : am_len X (am_L0 q, G) 23 = some 8 := rfl
theorem am_lc24 : (am_L0 q)[24]? = some (.inr (.inl 8)) := rfl
theorem am_a24 : am_ald X (am_L0 q, G) 24 i = bif am_in i 8 then some (G 24 i.toNatClampNeg) else none := rfl
theorem am_t24 : am_astM (am_L0 q, G) 24 i x = bif am_in i 8 then some (am_L0 q, am_up G 24 i.toNatClampNeg x) else none := rfl
theorem am_n24 : am_len X (am_L0 q, G) 24 = some 8 := rfl
theorem am_lc25 : (am_L0 q)[25]? = some (.inr (.inl 8)) := rfl
theorem am_a25 : am_ald X (am_L0 q, G) 25 i = bif am_in i 8 then some (G 25 i.toNatClampNeg) else none := rfl
theorem am_t25 : am_astM (am_L0 q, G) 25 i x = bif am_in i 8 then some (am_L0 q, am_up G 25 i.toNatClampNeg x) else none := rfl
theorem am_n25 : am_len X (am_L0 q, G) 25 = some 8 := rfl
theorem am_lc26 : (am_L0 q)[26]? = some (.inl (4, [some (.ref 27), none])) := rfl
theorem am_f26_0 : am_fld (am_L0 q, G) 26 4 0 = some (.ref 27) := rfl
theorem am_f26_1 : am_fld (am_L0 q, G) 26 4 1 = some (.int (G 26 1)) := rfl
theorem am_p26_1 : am_putM (am_L0 q, G) 26 4 1 (.int x) = some (am_L0 q, am_up G 26 1 x) := rfl
theorem am_v26 : am_rcv true 4 (.ref 26 :: as) (am_L0 q, G) = true := rfl
theorem am_lc27 : (am_L0 q)[27]? = some (.inr (.inl 50)) := rfl
theorem am_a27 : am_ald X (am_L0 q, G) 27 i = bif am_in i 50 then some (G 27 i.toNatClampNeg) else none := rfl
theorem am_t27 : am_astM (am_L0 q, G) 27 i x = bif am_in i 50 then some (am_L0 q, am_up G 27 i.toNatClampNeg x) else none := rfl
theorem am_n27 : am_len X (am_L0 q, G) 27 = some 50 := rfl
theorem am_lc28 : (am_L0 q)[28]? = some (.inl (4, [some (.ref 29), none])) := rfl
theorem am_f28_0 : am_fld (am_L0 q, G) 28 4 0 = some (.ref 29) := rfl
theorem am_f28_1 : am_fld (am_L0 q, G) 28 4 1 = some (.int (G 28 1)) := rfl
theorem am_p28_1 : am_putM (am_L0 q, G) 28 4 1 (.int x) = some (am_L0 q, am_up G 28 1 x) := rfl
theorem am_v28 : am_rcv true 4 (.ref 28 :: as) (am_L0 q, G) = true := rfl
theorem am_lc29 : (am_L0 q)[29]? = some (.inr (.inl 20)) := rfl
theorem am_a29 : am_ald X (am_L0 q, G) 29 i = bif am_in i 20 then some (G 29 i.toNatClampNeg) else none := rfl
theorem am_t29 : am_astM (am_L0 q, G) 29 i x = bif am_in i 20 then some (am_L0 q, am_up G 29 i.toNatClampNeg x) else none := rfl
theorem am_n29 : am_len X (am_L0 q, G) 29 = some 20 := rfl
theorem am_lc30 : (am_L0 q)[30]? = some (.inl (9, [some (.ref 31), some (.ref 35), some (.ref 39), some (.ref 55), some (.ref 57), none])) := rfl
theorem am_f30_0 : am_fld (am_L0 q, G) 30 9 0 = some (.ref 31) := rfl
theorem am_f30_1 : am_fld (am_L0 q, G) 30 9 1 = some (.ref 35) := rfl
theorem am_f30_2 : am_fld (am_L0 q, G) 30 9 2 = some (.ref 39) := rfl
theorem am_f30_3 : am_fld (am_L0 q, G) 30 9 3 = some (.ref 55) := rfl
theorem am_f30_4 : am_fld (am_L0 q, G) 30 9 4 = some (.ref 57) := rfl
theorem am_f30_5 : am_fld (am_L0 q, G) 30 9 5 = some (.int (G 30 5)) := rfl
theorem am_p30_5 : am_putM (am_L0 q, G) 30 9 5 (.int x) = some (am_L0 q, am_up G 30 5 x) := rfl
theorem am_v30 : am_rcv true 9 (.ref 30 :: as) (am_L0 q, G) = true := rfl
theorem am_lc31 : (am_L0 q)[31]? = some (.inl (1, [none, some (.ref 32), some (.ref 33), some (.ref 34), none])) := rfl
theorem am_f31_0 : am_fld (am_L0 q, G) 31 1 0 = some (.int (G 31 0)) := rfl
theorem am_p31_0 : am_putM (am_L0 q, G) 31 1 0 (.int x) = some (am_L0 q, am_up G 31 0 x) := rfl
theorem am_f31_1 : am_fld (am_L0 q, G) 31 1 1 = some (.ref 32) := rfl
theorem am_f31_2 : am_fld (am_L0 q, G) 31 1 2 = some (.ref 33) := rfl
theorem am_f31_3 : am_fld (am_L0 q, G) 31 1 3 = some (.ref 34) := rfl
theorem am_f31_4 : am_fld (am_L0 q, G) 31 1 4 = some (.int (G 31 4)) := rfl
theorem am_p31_4 : am_putM (am_L0 q, G) 31 1 4 (.int x) = some (am_L0 q, am_up G 31 4 x) := rfl
theorem am_v31 : am_rcv true 1 (.ref 31 :: as) (am_L0 q, G) = true := rfl
theorem am_lc32 : (am_L0 q)[32]? = some (.inr (.inl 50)) := rfl
theorem am_a32 : am_ald X (am_L0 q, G) 32 i = bif am_in i 50 then some (G 32 i.toNatClampNeg) else none := rfl
theorem am_t32 : am_astM (am_L0 q, G) 32 i x = bif am_in i 50 then some (am_L0 q, am_up G 32 i.toNatClampNeg x) else none := rfl
theorem am_n32 : am_len X (am_L0 q, G) 32 = some 50 := rfl
theorem am_lc33 : (am_L0 q)[33]? = some (.inr (.inl 50)) := rfl
theorem am_a33 : am_ald X (am_L0 q, G) 33 i = bif am_in i 50 then some (G 33 i.toNatClampNeg) else none := rfl
theorem am_t33 : am_astM (am_L0 q, G) 33 i x = bif am_in i 50 then some (am_L0 q, am_up G 33 i.toNatClampNeg x) else none := rfl
theorem am_n33 : am_len X (am_L0 q, G) 33 = some 50 := rfl
theorem am_lc34 : (am_L0 q)[34]? = some (.inr (.inl 50)) := rfl
theorem am_a34 : am_ald X (am_L0 q, G) 34 i = bif am_in i 50 then some (G 34 i.toNatClampNeg) else none := rfl
theorem am_t34 : am_astM (am_L0 q, G) 34 i x = bif am_in i 50 then some (am_L0 q, am_up G 34 i.toNatClampNeg x) else none := rfl
theorem am_n34 : am_len X (am_L0 q, G) 34 = some 50 := rfl
theorem am_lc35 : (am_L0 q)[35]? = some (.inl (1, [none, some (.ref 36), some (.ref 37), some (.ref 38), none])) := rfl
theorem am_f35_0 : am_fld (am_L0 q, G) 35 1 0 = some (.int (G 35 0)) := rfl
theorem am_p35_0 : am_putM (am_L0 q, G) 35 1 0 (.int x) = some (am_L0 q, am_up G 35 0 x) := rfl
theorem am_f35_1 : am_fld (am_L0 q, G) 35 1 1 = some (.ref 36) := rfl
theorem am_f35_2 : am_fld (am_L0 q, G) 35 1 2 = some (.ref 37) := rfl
theorem am_f35_3 : am_fld (am_L0 q, G) 35 1 3 = some (.ref 38) := rfl
theorem am_f35_4 : am_fld (am_L0 q, G) 35 1 4 = some (.int (G 35 4)) := rfl
theorem am_p35_4 : am_putM (am_L0 q, G) 35 1 4 (.int x) = some (am_L0 q, am_up G 35 4 x) := rfl
theorem am_v35 : am_rcv true 1 (.ref 35 :: as) (am_L0 q, G) = true := rfl
theorem am_lc36 : (am_L0 q)[36]? = some (.inr (.inl 50)) := rfl
theorem am_a36 : am_ald X (am_L0 q, G) 36 i = bif am_in i 50 then some (G 36 i.toNatClampNeg) else none := rfl
theorem am_t36 : am_astM (am_L0 q, G) 36 i x = bif am_in i 50 then some (am_L0 q, am_up G 36 i.toNatClampNeg x) else none := rfl
theorem am_n36 : am_len X (am_L0 q, G) 36 = some 50 := rfl
theorem am_lc37 : (am_L0 q)[37]? = some (.inr (.inl 50)) := rfl
theorem am_a37 : am_ald X (am_L0 q, G) 37 i = bif am_in i 50 then some (G 37 i.toNatClampNeg) else none := rfl
theorem am_t37 : am_astM (am_L0 q, G) 37 i x = bif am_in i 50 then some (am_L0 q, am_up G 37 i.toNatClampNeg x) else none := rfl
theorem am_n37 : am_len X (am_L0 q, G) 37 = some 50 := rfl
theorem am_lc38 : (am_L0 q)[38]? = some (.inr (.inl 50)) := rfl
theorem am_a38 : am_ald X (am_L0 q, G) 38 i = bif am_in i 50 then some (G 38 i.toNatClampNeg) else none := rfl
theorem am_t38 : am_astM (am_L0 q, G) 38 i x = bif am_in i 50 then some (am_L0 q, am_up G 38 i.toNatClampNeg x) else none := rfl
theorem am_n38 : am_len X (am_L0 q, G) 38 = some 50 := rfl
theorem am_lc39 : (am_L0 q)[39]? = some (.inl (2, [some (.ref 31), some (.ref 35), some (.ref 40), some (.ref 41), some (.ref 42), some (.ref 43), some (.ref 44), some (.ref 45), none, none])) := rfl
theorem am_f39_0 : am_fld (am_L0 q, G) 39 2 0 = some (.ref 31) := rfl
theorem am_f39_1 : am_fld (am_L0 q, G) 39 2 1 = some (.ref 35) := rfl
theorem am_f39_2 : am_fld (am_L0 q, G) 39 2 2 = some (.ref 40) := rfl
theorem am_f39_3 : am_fld (am_L0 q, G) 39 2 3 = some (.ref 41) := rfl
theorem am_f39_4 : am_fld (am_L0 q, G) 39 2 4 = some (.ref 42) := rfl
theorem am_f39_5 : am_fld (am_L0 q, G) 39 2 5 = some (.ref 43) := rfl
theorem am_f39_6 : am_fld (am_L0 q, G) 39 2 6 = some (.ref 44) := rfl
theorem am_f39_7 : am_fld (am_L0 q, G) 39 2 7 = some (.ref 45) := rfl
theorem am_f39_8 : am_fld (am_L0 q, G) 39 2 8 = some (.int (G 39 8)) := rfl
theorem am_p39_8 : am_putM (am_L0 q, G) 39 2 8 (.int x) = some (am_L0 q, am_up G 39 8 x) := rfl
theorem am_f39_9 : am_fld (am_L0 q, G) 39 2 9 = some (.int (G 39 9)) := rfl
theorem am_p39_9 : am_putM (am_L0 q, G) 39 2 9 (.int x) = some (am_L0 q, am_up G 39 9 x) := rfl
theorem am_v39 : am_rcv true 2 (.ref 39 :: as) (am_L0 q, G) = true := rfl
theorem am_lc40 : (am_L0 q)[40]? = some (.inr (.inl 8)) := rfl
theorem am_a40 : am_ald X (am_L0 q, G) 40 i = bif am_in i 8 then some (G 40 i.toNatClampNeg) else none := rfl
theorem am_t40 : am_astM (am_L0 q, G) 40 i x = bif am_in i 8 then some (am_L0 q, am_up G 40 i.toNatClampNeg x) else none := rfl
theorem am_n40 : am_len X (am_L0 q, G) 40 = some 8 := rfl
theorem am_lc41 : (am_L0 q)[41]? = some (.inr (.inl 8)) := rfl
theorem am_a41 : am_ald X (am_L0 q, G) 41 i = bif am_in i 8 then some (G 41 i.toNatClampNeg) else none := rfl
theorem am_t41 : am_astM (am_L0 q, G) 41 i x = bif am_in i 8 then some (am_L0 q, am_up G 41 i.toNatClampNeg x) else none := rfl
theorem am_n41 : am_len X (am_L0 q, G) 41 = some 8 := rfl
theorem am_lc42 : (am_L0 q)[42]? = some (.inr (.inl 8)) := rfl
theorem am_a42 : am_ald X (am_L0 q, G) 42 i = bif am_in i 8 then some (G 42 i.toNatClampNeg) else none := rfl
theorem am_t42 : am_astM (am_L0 q, G) 42 i x = bif am_in i 8 then some (am_L0 q, am_up G 42 i.toNatClampNeg x) else none := rfl
theorem am_n42 : am_len X (am_L0 q, G) 42 = some 8 := rfl
theorem am_lc43 : (am_L0 q)[43]? = some (.inr (.inl 8)) := rfl
theorem am_a43 : am_ald X (am_L0 q, G) 43 i = bif am_in i 8 then some (G 43 i.toNatClampNeg) else none := rfl
theorem am_t43 : am_astM (am_L0 q, G) 43 i x = bif am_in i 8 then some (am_L0 q, am_up G 43 i.toNatClampNeg x) else none := rfl
theorem am_n43 : am_len X (am_L0 q, G) 43 = some 8 := rfl
theorem am_lc44 : (am_L0 q)[44]? = some (.inr (.inl 8)) := rfl
theorem am_a44 : am_ald X (am_L0 q, G) 44 i = bif am_in i 8 then some (G 44 i.toNatClampNeg) else none := rfl
theorem am_t44 : am_astM (am_L0 q, G) 44 i x = bif am_in i 8 then some (am_L0 q, am_up G 44 i.toNatClampNeg x) else none := rfl
theorem am_n44 : am_len X (am_L0 q, G) 44 = some 8 := rfl
theorem am_lc45 : (am_L0 q)[45]? = some (.inl (0, [some (.ref 46)])) := rfl
theorem am_f45_0 : am_fld (am_L0 q, G) 45 0 0 = some (.ref 46) := rfl
theorem am_v45 : am_rcv true 0 (.ref 45 :: as) (am_L0 q, G) = true := rfl
theorem am_lc46 : (am_L0 q)[46]? = some (.inr (.inr (0, [some 47, some 48, some 49, some 50, some 51, some 52, some 53, some 54]))) := rfl
theorem am_n46 : am_len X (am_L0 q, G) 46 = some 8 := rfl
theorem am_lc47 : (am_L0 q)[47]? = some (.inr (.inl 8)) := rfl
theorem am_a47 : am_ald X (am_L0 q, G) 47 i = bif am_in i 8 then some (G 47 i.toNatClampNeg) else none := rfl
theorem am_t47 : am_astM (am_L0 q, G) 47 i x = bif am_in i 8 then some (am_L0 q, am_up G 47 i.toNatClampNeg x) else none := rfl
theorem am_n47 : am_len X (am_L0 q, G) 47 = some 8 := rfl
theorem am_lc48 : (am_L0 q)[48]? = some (.inr (.inl 8)) := rfl
theorem am_a48 : am_ald X (am_L0 q, G) 48 i = bif am_in i 8 then some (G 48 i.toNatClampNeg) else none := rfl
theorem am_t48 : am_astM (am_L0 q, G) 48 i x = bif am_in i 8 then some (am_L0 q, am_up G 48 i.toNatClampNeg x) else none := rfl
theorem am_n48 : am_len X (am_L0 q, G) 48 = some 8 := rfl
theorem am_lc49 : (am_L0 q)[49]? = some (.inr (.inl 8)) := rfl
theorem am_a49 : am_ald X (am_L0 q, G) 49 i = bif am_in i 8 then some (G 49 i.toNatClampNeg) else none := rfl
theorem am_t49 : am_astM (am_L0 q, G) 49 i x = bif am_in i 8 then some (am_L0 q, am_up G 49 i.toNatClampNeg x) else none := rfl
theorem am_n49 : am_len X (am_L0 q, G) 49 = some 8 := rfl
theorem am_lc50 : (am_L0 q)[50]? = some (.inr (.inl 8)) := rfl
theorem am_a50 : am_ald X (am_L0 q, G) 50 i = bif am_in i 8 then some (G 50 i.toNatClampNeg) else none := rfl
theorem am_t50 : am_astM (am_L0 q, G) 50 i x = bif am_in i 8 then some (am_L0 q, am_up G 50 i.toNatClampNeg x) else none := rfl
theorem am_n50 : am_len X (am_L0 q, G) 50 = some 8 := rfl
theorem am_lc51 : (am_L0 q)[51]? = some (.inr (.inl 8)) := rfl
theorem am_a51 : am_ald X (am_L0 q, G) 51 i = bif am_in i 8 then some (G 51 i.toNatClampNeg) else none := rfl
theorem am_t51 : am_astM (am_L0 q, G) 51 i x = bif am_in i 8 then some (am_L0 q, am_up G 51 i.toNatClampNeg x) else none := rfl
theorem am_n51 : am_len X (am_L0 q, G) 51 = some 8 := rfl
theorem am_lc52 : (am_L0 q)[52]? = some (.inr (.inl 8)) := rfl
theorem am_a52 : am_ald X (am_L0 q, G) 52 i = bif am_in i 8 then some (G 52 i.toNatClampNeg) else none := rfl
theorem am_t52 : am_astM (am_L0 q, G) 52 i x = bif am_in i 8 then some (am_L0 q, am_up G 52 i.toNatClampNeg x) else none := rfl
theorem am_n52 : am_len X (am_L0 q, G) 52 = some 8 := rfl
theorem am_lc53 : (am_L0 q)[53]? = some (.inr (.inl 8)) := rfl
theorem am_a53 : am_ald X (am_L0 q, G) 53 i = bif am_in i 8 then some (G 53 i.toNatClampNeg) else none := rfl
theorem am_t53 : am_astM (am_L0 q, G) 53 i x = bif am_in i 8 then some (am_L0 q, am_up G 53 i.toNatClampNeg x) else none := rfl
theorem am_n53 : am_len X (am_L0 q, G) 53 = some 8 := rfl
theorem am_lc54 : (am_L0 q)[54]? = some (.inr (.inl 8)) := rfl
theorem am_a54 : am_ald X (am_L0 q, G) 54 i = bif am_in i 8 then some (G 54 i.toNatClampNeg) else none := rfl
theorem am_t54 : am_astM (am_L0 q, G) 54 i x = bif am_in i 8 then some (am_L0 q, am_up G 54 i.toNatClampNeg x) else none := rfl
theorem am_n54 : am_len X (am_L0 q, G) 54 = some 8 := rfl
theorem am_lc55 : (am_L0 q)[55]? = some (.inl (4, [some (.ref 56), none])) := rfl
theorem am_f55_0 : am_fld (am_L0 q, G) 55 4 0 = some (.ref 56) := rfl
theorem am_f55_1 : am_fld (am_L0 q, G) 55 4 1 = some (.int (G 55 1)) := rfl
theorem am_p55_1 : am_putM (am_L0 q, G) 55 4 1 (.int x) = some (am_L0 q, am_up G 55 1 x) := rfl
theorem am_v55 : am_rcv true 4 (.ref 55 :: as) (am_L0 q, G) = true := rfl
theorem am_lc56 : (am_L0 q)[56]? = some (.inr (.inl 50)) := rfl
theorem am_a56 : am_ald X (am_L0 q, G) 56 i = bif am_in i 50 then some (G 56 i.toNatClampNeg) else none := rfl
theorem am_t56 : am_astM (am_L0 q, G) 56 i x = bif am_in i 50 then some (am_L0 q, am_up G 56 i.toNatClampNeg x) else none := rfl
theorem am_n56 : am_len X (am_L0 q, G) 56 = some 50 := rfl
theorem am_lc57 : (am_L0 q)[57]? = some (.inl (4, [some (.ref 58), none])) := rfl
theorem am_f57_0 : am_fld (am_L0 q, G) 57 4 0 = some (.ref 58) := rfl
theorem am_f57_1 : am_fld (am_L0 q, G) 57 4 1 = some (.int (G 57 1)) := rfl
theorem am_p57_1 : am_putM (am_L0 q, G) 57 4 1 (.int x) = some (am_L0 q, am_up G 57 1 x) := rfl
theorem am_v57 : am_rcv true 4 (.ref 57 :: as) (am_L0 q, G) = true := rfl
theorem am_lc58 : (am_L0 q)[58]? = some (.inr (.inl 20)) := rfl
theorem am_a58 : am_ald X (am_L0 q, G) 58 i = bif am_in i 20 then some (G 58 i.toNatClampNeg) else none := rfl
theorem am_t58 : am_astM (am_L0 q, G) 58 i x = bif am_in i 20 then some (am_L0 q, am_up G 58 i.toNatClampNeg x) else none := rfl
theorem am_n58 : am_len X (am_L0 q, G) 58 = some 20 := rfl
theorem am_lc59 : (am_L0 q)[59]? = some (.inl (7, [some (.ref 10), some (.ref 60), some (.ref 76)])) := rfl
theorem am_f59_0 : am_fld (am_L0 q, G) 59 7 0 = some (.ref 10) := rfl
theorem am_f59_1 : am_fld (am_L0 q, G) 59 7 1 = some (.ref 60) := rfl
theorem am_f59_2 : am_fld (am_L0 q, G) 59 7 2 = some (.ref 76) := rfl
theorem am_v59 : am_rcv true 7 (.ref 59 :: as) (am_L0 q, G) = true := rfl
theorem am_lc60 : (am_L0 q)[60]? = some (.inl (2, [some (.ref 2), some (.ref 6), some (.ref 61), some (.ref 62), some (.ref 63), some (.ref 64), some (.ref 65), some (.ref 66), none, none])) := rfl
theorem am_f60_0 : am_fld (am_L0 q, G) 60 2 0 = some (.ref 2) := rfl
theorem am_f60_1 : am_fld (am_L0 q, G) 60 2 1 = some (.ref 6) := rfl
theorem am_f60_2 : am_fld (am_L0 q, G) 60 2 2 = some (.ref 61) := rfl
theorem am_f60_3 : am_fld (am_L0 q, G) 60 2 3 = some (.ref 62) := rfl
theorem am_f60_4 : am_fld (am_L0 q, G) 60 2 4 = some (.ref 63) := rfl
theorem am_f60_5 : am_fld (am_L0 q, G) 60 2 5 = some (.ref 64) := rfl
theorem am_f60_6 : am_fld (am_L0 q, G) 60 2 6 = some (.ref 65) := rfl
theorem am_f60_7 : am_fld (am_L0 q, G) 60 2 7 = some (.ref 66) := rfl
theorem am_f60_8 : am_fld (am_L0 q, G) 60 2 8 = some (.int (G 60 8)) := rfl
theorem am_p60_8 : am_putM (am_L0 q, G) 60 2 8 (.int x) = some (am_L0 q, am_up G 60 8 x) := rfl
theorem am_f60_9 : am_fld (am_L0 q, G) 60 2 9 = some (.int (G 60 9)) := rfl
theorem am_p60_9 : am_putM (am_L0 q, G) 60 2 9 (.int x) = some (am_L0 q, am_up G 60 9 x) := rfl
theorem am_v60 : am_rcv true 2 (.ref 60 :: as) (am_L0 q, G) = true := rfl
theorem am_lc61 : (am_L0 q)[61]? = some (.inr (.inl 8)) := rfl
theorem am_a61 : am_ald X (am_L0 q, G) 61 i = bif am_in i 8 then some (G 61 i.toNatClampNeg) else none := rfl
theorem am_t61 : am_astM (am_L0 q, G) 61 i x = bif am_in i 8 then some (am_L0 q, am_up G 61 i.toNatClampNeg x) else none := rfl
theorem am_n61 : am_len X (am_L0 q, G) 61 = some 8 := rfl
theorem am_lc62 : (am_L0 q)[62]? = some (.inr (.inl 8)) := rfl
theorem am_a62 : am_ald X (am_L0 q, G) 62 i = bif am_in i 8 then some (G 62 i.toNatClampNeg) else none := rfl
theorem am_t62 : am_astM (am_L0 q, G) 62 i x = bif am_in i 8 then some (am_L0 q, am_up G 62 i.toNatClampNeg x) else none := rfl
theorem am_n62 : am_len X (am_L0 q, G) 62 = some 8 := rfl
theorem am_lc63 : (am_L0 q)[63]? = some (.inr (.inl 8)) := rfl
theorem am_a63 : am_ald X (am_L0 q, G) 63 i = bif am_in i 8 then some (G 63 i.toNatClampNeg) else none := rfl
theorem am_t63 : am_astM (am_L0 q, G) 63 i x = bif am_in i 8 then some (am_L0 q, am_up G 63 i.toNatClampNeg x) else none := rfl
theorem am_n63 : am_len X (am_L0 q, G) 63 = some 8 := rfl
theorem am_lc64 : (am_L0 q)[64]? = some (.inr (.inl 8)) := rfl
theorem am_a64 : am_ald X (am_L0 q, G) 64 i = bif am_in i 8 then some (G 64 i.toNatClampNeg) else none := rfl
theorem am_t64 : am_astM (am_L0 q, G) 64 i x = bif am_in i 8 then some (am_L0 q, am_up G 64 i.toNatClampNeg x) else none := rfl
theorem am_n64 : am_len X (am_L0 q, G) 64 = some 8 := rfl
theorem am_lc65 : (am_L0 q)[65]? = some (.inr (.inl 8)) := rfl
theorem am_a65 : am_ald X (am_L0 q, G) 65 i = bif am_in i 8 then some (G 65 i.toNatClampNeg) else none := rfl
theorem am_t65 : am_astM (am_L0 q, G) 65 i x = bif am_in i 8 then some (am_L0 q, am_up G 65 i.toNatClampNeg x) else none := rfl
theorem am_n65 : am_len X (am_L0 q, G) 65 = some 8 := rfl
theorem am_lc66 : (am_L0 q)[66]? = some (.inl (0, [some (.ref 67)])) := rfl
theorem am_f66_0 : am_fld (am_L0 q, G) 66 0 0 = some (.ref 67) := rfl
theorem am_v66 : am_rcv true 0 (.ref 66 :: as) (am_L0 q, G) = true := rfl
theorem am_lc67 : (am_L0 q)[67]? = some (.inr (.inr (0, [some 68, some 69, some 70, some 71, some 72, some 73, some 74, some 75]))) := rfl
theorem am_n67 : am_len X (am_L0 q, G) 67 = some 8 := rfl
theorem am_lc68 : (am_L0 q)[68]? = some (.inr (.inl 8)) := rfl
theorem am_a68 : am_ald X (am_L0 q, G) 68 i = bif am_in i 8 then some (G 68 i.toNatClampNeg) else none := rfl
theorem am_t68 : am_astM (am_L0 q, G) 68 i x = bif am_in i 8 then some (am_L0 q, am_up G 68 i.toNatClampNeg x) else none := rfl
theorem am_n68 : am_len X (am_L0 q, G) 68 = some 8 := rfl
theorem am_lc69 : (am_L0 q)[69]? = some (.inr (.inl 8)) := rfl
theorem am_a69 : am_ald X (am_L0 q, G) 69 i = bif am_in i 8 then some (G 69 i.toNatClampNeg) else none := rfl
theorem am_t69 : am_astM (am_L0 q, G) 69 i x = bif am_in i 8 then some (am_L0 q, am_up G 69 i.toNatClampNeg x) else none := rfl
theorem am_n69 : am_len X (am_L0 q, G) 69 = some 8 := rfl
theorem am_lc70 : (am_L0 q)[70]? = some (.inr (.inl 8)) := rfl
theorem am_a70 : am_ald X (am_L0 q, G) 70 i = bif am_in i 8 then some (G 70 i.toNatClampNeg) else none := rfl
theorem am_t70 : am_astM (am_L0 q, G) 70 i x = bif am_in i 8 then some (am_L0 q, am_up G 70 i.toNatClampNeg x) else none := rfl
theorem am_n70 : am_len X (am_L0 q, G) 70 = some 8 := rfl
theorem am_lc71 : (am_L0 q)[71]? = some (.inr (.inl 8)) := rfl
theorem am_a71 : am_ald X (am_L0 q, G) 71 i = bif am_in i 8 then some (G 71 i.toNatClampNeg) else none := rfl
theorem am_t71 : am_astM (am_L0 q, G) 71 i x = bif am_in i 8 then some (am_L0 q, am_up G 71 i.toNatClampNeg x) else none := rfl
theorem am_n71 : am_len X (am_L0 q, G) 71 = some 8 := rfl
theorem am_lc72 : (am_L0 q)[72]? = some (.inr (.inl 8)) := rfl
theorem am_a72 : am_ald X (am_L0 q, G) 72 i = bif am_in i 8 then some (G 72 i.toNatClampNeg) else none := rfl
theorem am_t72 : am_astM (am_L0 q, G) 72 i x = bif am_in i 8 then some (am_L0 q, am_up G 72 i.toNatClampNeg x) else none := rfl
theorem am_n72 : am_len X (am_L0 q, G) 72 = some 8 := rfl
theorem am_lc73 : (am_L0 q)[73]? = some (.inr (.inl 8)) := rfl
theorem am_a73 : am_ald X (am_L0 q, G) 73 i = bif am_in i 8 then some (G 73 i.toNatClampNeg) else none := rfl
theorem am_t73 : am_astM (am_L0 q, G) 73 i x = bif am_in i 8 then some (am_L0 q, am_up G 73 i.toNatClampNeg x) else none := rfl
theorem am_n73 : am_len X (am_L0 q, G) 73 = some 8 := rfl
theorem am_lc74 : (am_L0 q)[74]? = some (.inr (.inl 8)) := rfl
theorem am_a74 : am_ald X (am_L0 q, G) 74 i = bif am_in i 8 then some (G 74 i.toNatClampNeg) else none := rfl
theorem am_t74 : am_astM (am_L0 q, G) 74 i x = bif am_in i 8 then some (am_L0 q, am_up G 74 i.toNatClampNeg x) else none := rfl
theorem am_n74 : am_len X (am_L0 q, G) 74 = some 8 := rfl
theorem am_lc75 : (am_L0 q)[75]? = some (.inr (.inl 8)) := rfl
theorem am_a75 : am_ald X (am_L0 q, G) 75 i = bif am_in i 8 then some (G 75 i.toNatClampNeg) else none := rfl
theorem am_t75 : am_astM (am_L0 q, G) 75 i x = bif am_in i 8 then some (am_L0 q, am_up G 75 i.toNatClampNeg x) else none := rfl
theorem am_n75 : am_len X (am_L0 q, G) 75 = some 8 := rfl
theorem am_lc76 : (am_L0 q)[76]? = some (.inl (2, [some (.ref 2), some (.ref 6), some (.ref 77), some (.ref 78), some (.ref 79), some (.ref 80), some (.ref 81), some (.ref 82), none, none])) := rfl
theorem am_f76_0 : am_fld (am_L0 q, G) 76 2 0 = some (.ref 2) := rfl
theorem am_f76_1 : am_fld (am_L0 q, G) 76 2 1 = some (.ref 6) := rfl
theorem am_f76_2 : am_fld (am_L0 q, G) 76 2 2 = some (.ref 77) := rfl
theorem am_f76_3 : am_fld (am_L0 q, G) 76 2 3 = some (.ref 78) := rfl
theorem am_f76_4 : am_fld (am_L0 q, G) 76 2 4 = some (.ref 79) := rfl
theorem am_f76_5 : am_fld (am_L0 q, G) 76 2 5 = some (.ref 80) := rfl
theorem am_f76_6 : am_fld (am_L0 q, G) 76 2 6 = some (.ref 81) := rfl
theorem am_f76_7 : am_fld (am_L0 q, G) 76 2 7 = some (.ref 82) := rfl
theorem am_f76_8 : am_fld (am_L0 q, G) 76 2 8 = some (.int (G 76 8)) := rfl
theorem am_p76_8 : am_putM (am_L0 q, G) 76 2 8 (.int x) = some (am_L0 q, am_up G 76 8 x) := rfl
theorem am_f76_9 : am_fld (am_L0 q, G) 76 2 9 = some (.int (G 76 9)) := rfl
theorem am_p76_9 : am_putM (am_L0 q, G) 76 2 9 (.int x) = some (am_L0 q, am_up G 76 9 x) := rfl
theorem am_v76 : am_rcv true 2 (.ref 76 :: as) (am_L0 q, G) = true := rfl
theorem am_lc77 : (am_L0 q)[77]? = some (.inr (.inl 8)) := rfl
theorem am_a77 : am_ald X (am_L0 q, G) 77 i = bif am_in i 8 then some (G 77 i.toNatClampNeg) else none := rfl
theorem am_t77 : am_astM (am_L0 q, G) 77 i x = bif am_in i 8 then some (am_L0 q, am_up G 77 i.toNatClampNeg x) else none := rfl
theorem am_n77 : am_len X (am_L0 q, G) 77 = some 8 := rfl
theorem am_lc78 : (am_L0 q)[78]? = some (.inr (.inl 8)) := rfl
theorem am_a78 : am_ald X (am_L0 q, G) 78 i = bif am_in i 8 then some (G 78 i.toNatClampNeg) else none := rfl
theorem am_t78 : am_astM (am_L0 q, G) 78 i x = bif am_in i 8 then some (am_L0 q, am_up G 78 i.toNatClampNeg x) else none := rfl
theorem am_n78 : am_len X (am_L0 q, G) 78 = some 8 := rfl
theorem am_lc79 : (am_L0 q)[79]? = some (.inr (.inl 8)) := rfl
theorem am_a79 : am_ald X (am_L0 q, G) 79 i = bif am_in i 8 then some (G 79 i.toNatClampNeg) else none := rfl
theorem am_t79 : am_astM (am_L0 q, G) 79 i x = bif am_in i 8 then some (am_L0 q, am_up G 79 i.toNatClampNeg x) else none := rfl
theorem am_n79 : am_len X (am_L0 q, G) 79 = some 8 := rfl
theorem am_lc80 : (am_L0 q)[80]? = some (.inr (.inl 8)) := rfl
theorem am_a80 : am_ald X (am_L0 q, G) 80 i = bif am_in i 8 then some (G 80 i.toNatClampNeg) else none := rfl
theorem am_t80 : am_astM (am_L0 q, G) 80 i x = bif am_in i 8 then some (am_L0 q, am_up G 80 i.toNatClampNeg x) else none := rfl
theorem am_n80 : am_len X (am_L0 q, G) 80 = some 8 := rfl
theorem am_lc81 : (am_L0 q)[81]? = some (.inr (.inl 8)) := rfl
theorem am_a81 : am_ald X (am_L0 q, G) 81 i = bif am_in i 8 then some (G 81 i.toNatClampNeg) else none := rfl
theorem am_t81 : am_astM (am_L0 q, G) 81 i x = bif am_in i 8 then some (am_L0 q, am_up G 81 i.toNatClampNeg x) else none := rfl
theorem am_n81 : am_len X (am_L0 q, G) 81 = some 8 := rfl
theorem am_lc82 : (am_L0 q)[82]? = some (.inl (0, [some (.ref 83)])) := rfl
theorem am_f82_0 : am_fld (am_L0 q, G) 82 0 0 = some (.ref 83) := rfl
theorem am_v82 : am_rcv true 0 (.ref 82 :: as) (am_L0 q, G) = true := rfl
theorem am_lc83 : (am_L0 q)[83]? = some (.inr (.inr (0, [some 84, some 85, some 86, some 87, some 88, some 89, some 90, some 91]))) := rfl
theorem am_n83 : am_len X (am_L0 q, G) 83 = some 8 := rfl
theorem am_lc84 : (am_L0 q)[84]? = some (.inr (.inl 8)) := rfl
theorem am_a84 : am_ald X (am_L0 q, G) 84 i = bif am_in i 8 then some (G 84 i.toNatClampNeg) else none := rfl
theorem am_t84 : am_astM (am_L0 q, G) 84 i x = bif am_in i 8 then some (am_L0 q, am_up G 84 i.toNatClampNeg x) else none := rfl
theorem am_n84 : am_len X (am_L0 q, G) 84 = some 8 := rfl
theorem am_lc85 : (am_L0 q)[85]? = some (.inr (.inl 8)) := rfl
theorem am_a85 : am_ald X (am_L0 q, G) 85 i = bif am_in i 8 then some (G 85 i.toNatClampNeg) else none := rfl
theorem am_t85 : am_astM (am_L0 q, G) 85 i x = bif am_in i 8 then some (am_L0 q, am_up G 85 i.toNatClampNeg x) else none := rfl
theorem am_n85 : am_len X (am_L0 q, G) 85 = some 8 := rfl
theorem am_lc86 : (am_L0 q)[86]? = some (.inr (.inl 8)) := rfl
theorem am_a86 : am_ald X (am_L0 q, G) 86 i = bif am_in i 8 then some (G 86 i.toNatClampNeg) else none := rfl
theorem am_t86 : am_astM (am_L0 q, G) 86 i x = bif am_in i 8 then some (am_L0 q, am_up G 86 i.toNatClampNeg x) else none := rfl
theorem am_n86 : am_len X (am_L0 q, G) 86 = some 8 := rfl
theorem am_lc87 : (am_L0 q)[87]? = some (.inr (.inl 8)) := rfl
theorem am_a87 : am_ald X (am_L0 q, G) 87 i = bif am_in i 8 then some (G 87 i.toNatClampNeg) else none := rfl
theorem am_t87 : am_astM (am_L0 q, G) 87 i x = bif am_in i 8 then some (am_L0 q, am_up G 87 i.toNatClampNeg x) else none := rfl
theorem am_n87 : am_len X (am_L0 q, G) 87 = some 8 := rfl
theorem am_lc88 : (am_L0 q)[88]? = some (.inr (.inl 8)) := rfl
theorem am_a88 : am_ald X (am_L0 q, G) 88 i = bif am_in i 8 then some (G 88 i.toNatClampNeg) else none := rfl
theorem am_t88 : am_astM (am_L0 q, G) 88 i x = bif am_in i 8 then some (am_L0 q, am_up G 88 i.toNatClampNeg x) else none := rfl
theorem am_n88 : am_len X (am_L0 q, G) 88 = some 8 := rfl
theorem am_lc89 : (am_L0 q)[89]? = some (.inr (.inl 8)) := rfl
theorem am_a89 : am_ald X (am_L0 q, G) 89 i = bif am_in i 8 then some (G 89 i.toNatClampNeg) else none := rfl
theorem am_t89 : am_astM (am_L0 q, G) 89 i x = bif am_in i 8 then some (am_L0 q, am_up G 89 i.toNatClampNeg x) else none := rfl
theorem am_n89 : am_len X (am_L0 q, G) 89 = some 8 := rfl
theorem am_lc90 : (am_L0 q)[90]? = some (.inr (.inl 8)) := rfl
theorem am_a90 : am_ald X (am_L0 q, G) 90 i = bif am_in i 8 then some (G 90 i.toNatClampNeg) else none := rfl
theorem am_t90 : am_astM (am_L0 q, G) 90 i x = bif am_in i 8 then some (am_L0 q, am_up G 90 i.toNatClampNeg x) else none := rfl
theorem am_n90 : am_len X (am_L0 q, G) 90 = some 8 := rfl
theorem am_lc91 : (am_L0 q)[91]? = some (.inr (.inl 8)) := rfl
theorem am_a91 : am_ald X (am_L0 q, G) 91 i = bif am_in i 8 then some (G 91 i.toNatClampNeg) else none := rfl
theorem am_t91 : am_astM (am_L0 q, G) 91 i x = bif am_in i 8 then some (am_L0 q, am_up G 91 i.toNatClampNeg x) else none := rfl
theorem am_n91 : am_len X (am_L0 q, G) 91 = some 8 := rfl
theorem am_lc92 : (am_L0 q)[92]? = some (.inl (3, [some (.ref 93), some (.ref 97), some (.ref q), none, none])) := rfl
theorem am_f92_0 : am_fld (am_L0 q, G) 92 3 0 = some (.ref 93) := rfl
theorem am_f92_1 : am_fld (am_L0 q, G) 92 3 1 = some (.ref 97) := rfl
theorem am_f92_2 : am_fld (am_L0 q, G) 92 3 2 = some (.ref q) := rfl
theorem am_p92_2 : am_putM (am_L0 q, G) 92 3 2 (.ref b) = some (am_L0 b, G) := rfl
theorem am_f92_3 : am_fld (am_L0 q, G) 92 3 3 = some (.int (G 92 3)) := rfl
theorem am_p92_3 : am_putM (am_L0 q, G) 92 3 3 (.int x) = some (am_L0 q, am_up G 92 3 x) := rfl
theorem am_f92_4 : am_fld (am_L0 q, G) 92 3 4 = some (.int (G 92 4)) := rfl
theorem am_p92_4 : am_putM (am_L0 q, G) 92 3 4 (.int x) = some (am_L0 q, am_up G 92 4 x) := rfl
theorem am_v92 : am_rcv true 3 (.ref 92 :: as) (am_L0 q, G) = true := rfl
theorem am_lc93 : (am_L0 q)[93]? = some (.inl (1, [none, some (.ref 94), some (.ref 95), some (.ref 96), none])) := rfl
theorem am_f93_0 : am_fld (am_L0 q, G) 93 1 0 = some (.int (G 93 0)) := rfl
theorem am_p93_0 : am_putM (am_L0 q, G) 93 1 0 (.int x) = some (am_L0 q, am_up G 93 0 x) := rfl
theorem am_f93_1 : am_fld (am_L0 q, G) 93 1 1 = some (.ref 94) := rfl
theorem am_f93_2 : am_fld (am_L0 q, G) 93 1 2 = some (.ref 95) := rfl
theorem am_f93_3 : am_fld (am_L0 q, G) 93 1 3 = some (.ref 96) := rfl
theorem am_f93_4 : am_fld (am_L0 q, G) 93 1 4 = some (.int (G 93 4)) := rfl
theorem am_p93_4 : am_putM (am_L0 q, G) 93 1 4 (.int x) = some (am_L0 q, am_up G 93 4 x) := rfl
theorem am_v93 : am_rcv true 1 (.ref 93 :: as) (am_L0 q, G) = true := rfl
theorem am_lc94 : (am_L0 q)[94]? = some (.inr (.inl 50)) := rfl
theorem am_a94 : am_ald X (am_L0 q, G) 94 i = bif am_in i 50 then some (G 94 i.toNatClampNeg) else none := rfl
theorem am_t94 : am_astM (am_L0 q, G) 94 i x = bif am_in i 50 then some (am_L0 q, am_up G 94 i.toNatClampNeg x) else none := rfl
theorem am_n94 : am_len X (am_L0 q, G) 94 = some 50 := rfl
theorem am_lc95 : (am_L0 q)[95]? = some (.inr (.inl 50)) := rfl
theorem am_a95 : am_ald X (am_L0 q, G) 95 i = bif am_in i 50 then some (G 95 i.toNatClampNeg) else none := rfl
theorem am_t95 : am_astM (am_L0 q, G) 95 i x = bif am_in i 50 then some (am_L0 q, am_up G 95 i.toNatClampNeg x) else none := rfl
theorem am_n95 : am_len X (am_L0 q, G) 95 = some 50 := rfl
theorem am_lc96 : (am_L0 q)[96]? = some (.inr (.inl 50)) := rfl
theorem am_a96 : am_ald X (am_L0 q, G) 96 i = bif am_in i 50 then some (G 96 i.toNatClampNeg) else none := rfl
theorem am_t96 : am_astM (am_L0 q, G) 96 i x = bif am_in i 50 then some (am_L0 q, am_up G 96 i.toNatClampNeg x) else none := rfl
theorem am_n96 : am_len X (am_L0 q, G) 96 = some 50 := rfl
theorem am_lc97 : (am_L0 q)[97]? = some (.inl (4, [some (.ref 98), none])) := rfl
theorem am_f97_0 : am_fld (am_L0 q, G) 97 4 0 = some (.ref 98) := rfl
theorem am_f97_1 : am_fld (am_L0 q, G) 97 4 1 = some (.int (G 97 1)) := rfl
theorem am_p97_1 : am_putM (am_L0 q, G) 97 4 1 (.int x) = some (am_L0 q, am_up G 97 1 x) := rfl
theorem am_v97 : am_rcv true 4 (.ref 97 :: as) (am_L0 q, G) = true := rfl
theorem am_lc98 : (am_L0 q)[98]? = some (.inr (.inl 50)) := rfl
theorem am_a98 : am_ald X (am_L0 q, G) 98 i = bif am_in i 50 then some (G 98 i.toNatClampNeg) else none := rfl
theorem am_t98 : am_astM (am_L0 q, G) 98 i x = bif am_in i 50 then some (am_L0 q, am_up G 98 i.toNatClampNeg x) else none := rfl
theorem am_n98 : am_len X (am_L0 q, G) 98 = some 50 := rfl
theorem am_lc99 : (am_L0 q)[99]? = some (.inl (5, [some (.ref 100), none])) := rfl
theorem am_f99_0 : am_fld (am_L0 q, G) 99 5 0 = some (.ref 100) := rfl
theorem am_f99_1 : am_fld (am_L0 q, G) 99 5 1 = some (.int (G 99 1)) := rfl
theorem am_p99_1 : am_putM (am_L0 q, G) 99 5 1 (.int x) = some (am_L0 q, am_up G 99 1 x) := rfl
theorem am_v99 : am_rcv true 5 (.ref 99 :: as) (am_L0 q, G) = true := rfl
theorem am_lc100 : (am_L0 q)[100]? = some (.inr (.inl 256)) := rfl
theorem am_a100 : am_ald X (am_L0 q, G) 100 i = bif am_in i 256 then some (G 100 i.toNatClampNeg) else none := rfl
theorem am_t100 : am_astM (am_L0 q, G) 100 i x = bif am_in i 256 then some (am_L0 q, am_up G 100 i.toNatClampNeg x) else none := rfl
theorem am_n100 : am_len X (am_L0 q, G) 100 = some 256 := rfl
theorem am_lc101 : (am_L0 q)[101]? = some (.inl (8, [some (.ref 102), none, none, none])) := rfl
theorem am_f101_0 : am_fld (am_L0 q, G) 101 8 0 = some (.ref 102) := rfl
theorem am_f101_1 : am_fld (am_L0 q, G) 101 8 1 = some (.int (G 101 1)) := rfl
theorem am_p101_1 : am_putM (am_L0 q, G) 101 8 1 (.int x) = some (am_L0 q, am_up G 101 1 x) := rfl
theorem am_f101_2 : am_fld (am_L0 q, G) 101 8 2 = some (.int (G 101 2)) := rfl
theorem am_p101_2 : am_putM (am_L0 q, G) 101 8 2 (.int x) = some (am_L0 q, am_up G 101 2 x) := rfl
theorem am_f101_3 : am_fld (am_L0 q, G) 101 8 3 = some (.int (G 101 3)) := rfl
theorem am_p101_3 : am_putM (am_L0 q, G) 101 8 3 (.int x) = some (am_L0 q, am_up G 101 3 x) := rfl
theorem am_v101 : am_rcv true 8 (.ref 101 :: as) (am_L0 q, G) = true := rfl
theorem am_lc102 : (am_L0 q)[102]? = some (.inl (4, [some (.ref 103), none])) := rfl
theorem am_f102_0 : am_fld (am_L0 q, G) 102 4 0 = some (.ref 103) := rfl
theorem am_f102_1 : am_fld (am_L0 q, G) 102 4 1 = some (.int (G 102 1)) := rfl
theorem am_p102_1 : am_putM (am_L0 q, G) 102 4 1 (.int x) = some (am_L0 q, am_up G 102 1 x) := rfl
theorem am_v102 : am_rcv true 4 (.ref 102 :: as) (am_L0 q, G) = true := rfl
theorem am_lc103 : (am_L0 q)[103]? = some (.inr (.inl 40)) := rfl
theorem am_a103 : am_ald X (am_L0 q, G) 103 i = bif am_in i 40 then some (G 103 i.toNatClampNeg) else none := rfl
theorem am_t103 : am_astM (am_L0 q, G) 103 i x = bif am_in i 40 then some (am_L0 q, am_up G 103 i.toNatClampNeg x) else none := rfl
theorem am_n103 : am_len X (am_L0 q, G) 103 = some 40 := rfl
theorem am_lc104 : (am_L0 q)[104]? = some (.inr (.inr (1, [some 106, some 108, some 110, some 112]))) := rfl
theorem am_n104 : am_len X (am_L0 q, G) 104 = some 4 := rfl
theorem am_lc105 : (am_L0 q)[105]? = some (.inr (.inl 6)) := rfl
theorem am_a105 : am_ald X (am_L0 q, G) 105 i = bif am_in i 6 then some (G 105 i.toNatClampNeg) else none := rfl
theorem am_t105 : am_astM (am_L0 q, G) 105 i x = bif am_in i 6 then some (am_L0 q, am_up G 105 i.toNatClampNeg x) else none := rfl
theorem am_n105 : am_len X (am_L0 q, G) 105 = some 6 := rfl
theorem am_lc106 : (am_L0 q)[106]? = some (.inl (6, [some (.ref 107), none, none])) := rfl
theorem am_f106_0 : am_fld (am_L0 q, G) 106 6 0 = some (.ref 107) := rfl
theorem am_f106_1 : am_fld (am_L0 q, G) 106 6 1 = some (.int (G 106 1)) := rfl
theorem am_p106_1 : am_putM (am_L0 q, G) 106 6 1 (.int x) = some (am_L0 q, am_up G 106 1 x) := rfl
theorem am_f106_2 : am_fld (am_L0 q, G) 106 6 2 = some (.int (G 106 2)) := rfl
theorem am_p106_2 : am_putM (am_L0 q, G) 106 6 2 (.int x) = some (am_L0 q, am_up G 106 2 x) := rfl
theorem am_v106 : am_rcv true 6 (.ref 106 :: as) (am_L0 q, G) = true := rfl
theorem am_lc107 : (am_L0 q)[107]? = some (.inr (.inl 40)) := rfl
theorem am_a107 : am_ald X (am_L0 q, G) 107 i = bif am_in i 40 then some (G 107 i.toNatClampNeg) else none := rfl
theorem am_t107 : am_astM (am_L0 q, G) 107 i x = bif am_in i 40 then some (am_L0 q, am_up G 107 i.toNatClampNeg x) else none := rfl
theorem am_n107 : am_len X (am_L0 q, G) 107 = some 40 := rfl
theorem am_lc108 : (am_L0 q)[108]? = some (.inl (6, [some (.ref 109), none, none])) := rfl
theorem am_f108_0 : am_fld (am_L0 q, G) 108 6 0 = some (.ref 109) := rfl
theorem am_f108_1 : am_fld (am_L0 q, G) 108 6 1 = some (.int (G 108 1)) := rfl
theorem am_p108_1 : am_putM (am_L0 q, G) 108 6 1 (.int x) = some (am_L0 q, am_up G 108 1 x) := rfl
theorem am_f108_2 : am_fld (am_L0 q, G) 108 6 2 = some (.int (G 108 2)) := rfl
theorem am_p108_2 : am_putM (am_L0 q, G) 108 6 2 (.int x) = some (am_L0 q, am_up G 108 2 x) := rfl
theorem am_v108 : am_rcv true 6 (.ref 108 :: as) (am_L0 q, G) = true := rfl
theorem am_lc109 : (am_L0 q)[109]? = some (.inr (.inl 40)) := rfl
theorem am_a109 : am_ald X (am_L0 q, G) 109 i = bif am_in i 40 then some (G 109 i.toNatClampNeg) else none := rfl
theorem am_t109 : am_astM (am_L0 q, G) 109 i x = bif am_in i 40 then some (am_L0 q, am_up G 109 i.toNatClampNeg x) else none := rfl
theorem am_n109 : am_len X (am_L0 q, G) 109 = some 40 := rfl
theorem am_lc110 : (am_L0 q)[110]? = some (.inl (6, [some (.ref 111), none, none])) := rfl
theorem am_f110_0 : am_fld (am_L0 q, G) 110 6 0 = some (.ref 111) := rfl
theorem am_f110_1 : am_fld (am_L0 q, G) 110 6 1 = some (.int (G 110 1)) := rfl
theorem am_p110_1 : am_putM (am_L0 q, G) 110 6 1 (.int x) = some (am_L0 q, am_up G 110 1 x) := rfl
theorem am_f110_2 : am_fld (am_L0 q, G) 110 6 2 = some (.int (G 110 2)) := rfl
theorem am_p110_2 : am_putM (am_L0 q, G) 110 6 2 (.int x) = some (am_L0 q, am_up G 110 2 x) := rfl
theorem am_v110 : am_rcv true 6 (.ref 110 :: as) (am_L0 q, G) = true := rfl
theorem am_lc111 : (am_L0 q)[111]? = some (.inr (.inl 40)) := rfl
theorem am_a111 : am_ald X (am_L0 q, G) 111 i = bif am_in i 40 then some (G 111 i.toNatClampNeg) else none := rfl
theorem am_t111 : am_astM (am_L0 q, G) 111 i x = bif am_in i 40 then some (am_L0 q, am_up G 111 i.toNatClampNeg x) else none := rfl
theorem am_n111 : am_len X (am_L0 q, G) 111 = some 40 := rfl
theorem am_lc112 : (am_L0 q)[112]? = some (.inl (6, [some (.ref 113), none, none])) := rfl
theorem am_f112_0 : am_fld (am_L0 q, G) 112 6 0 = some (.ref 113) := rfl
theorem am_f112_1 : am_fld (am_L0 q, G) 112 6 1 = some (.int (G 112 1)) := rfl
theorem am_p112_1 : am_putM (am_L0 q, G) 112 6 1 (.int x) = some (am_L0 q, am_up G 112 1 x) := rfl
theorem am_f112_2 : am_fld (am_L0 q, G) 112 6 2 = some (.int (G 112 2)) := rfl
theorem am_p112_2 : am_putM (am_L0 q, G) 112 6 2 (.int x) = some (am_L0 q, am_up G 112 2 x) := rfl
theorem am_v112 : am_rcv true 6 (.ref 112 :: as) (am_L0 q, G) = true := rfl
theorem am_lc113 : (am_L0 q)[113]? = some (.inr (.inl 40)) := rfl
theorem am_a113 : am_ald X (am_L0 q, G) 113 i = bif am_in i 40 then some (G 113 i.toNatClampNeg) else none := rfl
theorem am_t113 : am_astM (am_L0 q, G) 113 i x = bif am_in i 40 then some (am_L0 q, am_up G 113 i.toNatClampNeg x) else none := rfl
theorem am_n113 : am_len X (am_L0 q, G) 113 = some 40 := rfl
theorem am_lc114 : (am_L0 q)[114]? = some (.inl (11, [some (.ref 115), some (.ref 116), some (.ref 117), some (.ref 118), none, none, some (.ref 119), none, none, none, none, none, none, none, none, none, none, none, none, some (.ref 120), some (.ref 121), some (.ref 122), some (.ref 123), some (.ref 124), some (.ref 125), none, none, none, none])) := rfl
theorem am_f114_0 : am_fld (am_L0 q, G) 114 11 0 = some (.ref 115) := rfl
theorem am_f114_1 : am_fld (am_L0 q, G) 114 11 1 = some (.ref 116) := rfl
theorem am_f114_2 : am_fld (am_L0 q, G) 114 11 2 = some (.ref 117) := rfl
theorem am_f114_3 : am_fld (am_L0 q, G) 114 11 3 = some (.ref 118) := rfl
theorem am_f114_4 : am_fld (am_L0 q, G) 114 11 4 = some (.int (G 114 4)) := rfl
theorem am_p114_4_0 : am_putM (am_L0 q, G) 114 11 4 (.int 0) = some (am_L0 q, am_up G 114 4 0) := rfl
theorem am_p114_4_1 : am_putM (am_L0 q, G) 114 11 4 (.int 1) = some (am_L0 q, am_up G 114 4 1) := rfl
theorem am_f114_5 : am_fld (am_L0 q, G) 114 11 5 = some (.int (G 114 5)) := rfl
theorem am_p114_5 : am_putM (am_L0 q, G) 114 11 5 (.int x) = some (am_L0 q, am_up G 114 5 x) := rfl
theorem am_f114_6 : am_fld (am_L0 q, G) 114 11 6 = some (.ref 119) := rfl
theorem am_f114_7 : am_fld (am_L0 q, G) 114 11 7 = some (.int (G 114 7)) := rfl
theorem am_p114_7 : am_putM (am_L0 q, G) 114 11 7 (.int x) = some (am_L0 q, am_up G 114 7 x) := rfl
theorem am_f114_8 : am_fld (am_L0 q, G) 114 11 8 = some (.int (G 114 8)) := rfl
theorem am_p114_8 : am_putM (am_L0 q, G) 114 11 8 (.int x) = some (am_L0 q, am_up G 114 8 x) := rfl
theorem am_f114_9 : am_fld (am_L0 q, G) 114 11 9 = some (.int (G 114 9)) := rfl
theorem am_p114_9 : am_putM (am_L0 q, G) 114 11 9 (.int x) = some (am_L0 q, am_up G 114 9 x) := rfl
theorem am_f114_10 : am_fld (am_L0 q, G) 114 11 10 = some (.int (G 114 10)) := rfl
theorem am_p114_10 : am_putM (am_L0 q, G) 114 11 10 (.int x) = some (am_L0 q, am_up G 114 10 x) := rfl
theorem am_f114_11 : am_fld (am_L0 q, G) 114 11 11 = some (.int (G 114 11)) := rfl
theorem am_p114_11 : am_putM (am_L0 q, G) 114 11 11 (.int x) = some (am_L0 q, am_up G 114 11 x) := rfl
theorem am_f114_12 : am_fld (am_L0 q, G) 114 11 12 = some (.int (G 114 12)) := rfl
theorem am_p114_12 : am_putM (am_L0 q, G) 114 11 12 (.int x) = some (am_L0 q, am_up G 114 12 x) := rfl
theorem am_f114_13 : am_fld (am_L0 q, G) 114 11 13 = some (.int (G 114 13)) := rfl
theorem am_p114_13 : am_putM (am_L0 q, G) 114 11 13 (.int x) = some (am_L0 q, am_up G 114 13 x) := rfl
theorem am_f114_14 : am_fld (am_L0 q, G) 114 11 14 = some (.int (G 114 14)) := rfl
theorem am_p114_14_0 : am_putM (am_L0 q, G) 114 11 14 (.int 0) = some (am_L0 q, am_up G 114 14 0) := rfl
theorem am_p114_14_1 : am_putM (am_L0 q, G) 114 11 14 (.int 1) = some (am_L0 q, am_up G 114 14 1) := rfl
theorem am_f114_15 : am_fld (am_L0 q, G) 114 11 15 = some (.int (G 114 15)) := rfl
theorem am_p114_15 : am_putM (am_L0 q, G) 114 11 15 (.int x) = some (am_L0 q, am_up G 114 15 x) := rfl
theorem am_f114_16 : am_fld (am_L0 q, G) 114 11 16 = some (.int (G 114 16)) := rfl
theorem am_p114_16 : am_putM (am_L0 q, G) 114 11 16 (.int x) = some (am_L0 q, am_up G 114 16 x) := rfl
theorem am_f114_17 : am_fld (am_L0 q, G) 114 11 17 = some (.int (G 114 17)) := rfl
theorem am_p114_17 : am_putM (am_L0 q, G) 114 11 17 (.int x) = some (am_L0 q, am_up G 114 17 x) := rfl
theorem am_f114_18 : am_fld (am_L0 q, G) 114 11 18 = some (.int (G 114 18)) := rfl
theorem am_p114_18 : am_putM (am_L0 q, G) 114 11 18 (.int x) = some (am_L0 q, am_up G 114 18 x) := rfl
theorem am_f114_19 : am_fld (am_L0 q, G) 114 11 19 = some (.ref 120) := rfl
theorem am_f114_20 : am_fld (am_L0 q, G) 114 11 20 = some (.ref 121) := rfl
theorem am_f114_21 : am_fld (am_L0 q, G) 114 11 21 = some (.ref 122) := rfl
theorem am_f114_22 : am_fld (am_L0 q, G) 114 11 22 = some (.ref 123) := rfl
theorem am_f114_23 : am_fld (am_L0 q, G) 114 11 23 = some (.ref 124) := rfl
theorem am_f114_24 : am_fld (am_L0 q, G) 114 11 24 = some (.ref 125) := rfl
theorem am_f114_25 : am_fld (am_L0 q, G) 114 11 25 = some (.int (G 114 25)) := rfl
theorem am_p114_25 : am_putM (am_L0 q, G) 114 11 25 (.int x) = some (am_L0 q, am_up G 114 25 x) := rfl
theorem am_f114_26 : am_fld (am_L0 q, G) 114 11 26 = some (.int (G 114 26)) := rfl
theorem am_p114_26 : am_putM (am_L0 q, G) 114 11 26 (.int x) = some (am_L0 q, am_up G 114 26 x) := rfl
theorem am_f114_27 : am_fld (am_L0 q, G) 114 11 27 = some (.int (G 114 27)) := rfl
theorem am_p114_27 : am_putM (am_L0 q, G) 114 11 27 (.int x) = some (am_L0 q, am_up G 114 27 x) := rfl
theorem am_f114_28 : am_fld (am_L0 q, G) 114 11 28 = some (.int (G 114 28)) := rfl
theorem am_p114_28 : am_putM (am_L0 q, G) 114 11 28 (.int x) = some (am_L0 q, am_up G 114 28 x) := rfl
theorem am_v114 : am_rcv true 11 (.ref 114 :: as) (am_L0 q, G) = true := rfl
theorem am_lc115 : (am_L0 q)[115]? = some (.inr (.inl 281)) := rfl
theorem am_a115 : am_ald X (am_L0 q, G) 115 i = bif am_in i 281 then some (G 115 i.toNatClampNeg) else none := rfl
theorem am_t115 : am_astM (am_L0 q, G) 115 i x = bif am_in i 281 then some (am_L0 q, am_up G 115 i.toNatClampNeg x) else none := rfl
theorem am_n115 : am_len X (am_L0 q, G) 115 = some 281 := rfl
theorem am_lc116 : (am_L0 q)[116]? = some (.inr (.inl 281)) := rfl
theorem am_a116 : am_ald X (am_L0 q, G) 116 i = bif am_in i 281 then some (G 116 i.toNatClampNeg) else none := rfl
theorem am_t116 : am_astM (am_L0 q, G) 116 i x = bif am_in i 281 then some (am_L0 q, am_up G 116 i.toNatClampNeg x) else none := rfl
theorem am_n116 : am_len X (am_L0 q, G) 116 = some 281 := rfl
theorem am_lc117 : (am_L0 q)[117]? = some (.inr (.inl 281)) := rfl
theorem am_a117 : am_ald X (am_L0 q, G) 117 i = bif am_in i 281 then some (G 117 i.toNatClampNeg) else none := rfl
theorem am_t117 : am_astM (am_L0 q, G) 117 i x = bif am_in i 281 then some (am_L0 q, am_up G 117 i.toNatClampNeg x) else none := rfl
theorem am_n117 : am_len X (am_L0 q, G) 117 = some 281 := rfl
theorem am_lc118 : (am_L0 q)[118]? = some (.inr (.inl 281)) := rfl
theorem am_a118 : am_ald X (am_L0 q, G) 118 i = bif am_in i 281 then some (G 118 i.toNatClampNeg) else none := rfl
theorem am_t118 : am_astM (am_L0 q, G) 118 i x = bif am_in i 281 then some (am_L0 q, am_up G 118 i.toNatClampNeg x) else none := rfl
theorem am_n118 : am_len X (am_L0 q, G) 118 = some 281 := rfl
theorem am_lc119 : (am_L0 q)[119]? = some (.inr (.inl 6)) := rfl
theorem am_a119 : am_ald X (am_L0 q, G) 119 i = bif am_in i 6 then some (G 119 i.toNatClampNeg) else none := rfl
theorem am_t119 : am_astM (am_L0 q, G) 119 i x = bif am_in i 6 then some (am_L0 q, am_up G 119 i.toNatClampNeg x) else none := rfl
theorem am_n119 : am_len X (am_L0 q, G) 119 = some 6 := rfl
theorem am_lc120 : (am_L0 q)[120]? = some (.inr (.inl 4)) := rfl
theorem am_a120 : am_ald X (am_L0 q, G) 120 i = bif am_in i 4 then some (G 120 i.toNatClampNeg) else none := rfl
theorem am_t120 : am_astM (am_L0 q, G) 120 i x = bif am_in i 4 then some (am_L0 q, am_up G 120 i.toNatClampNeg x) else none := rfl
theorem am_n120 : am_len X (am_L0 q, G) 120 = some 4 := rfl
theorem am_lc121 : (am_L0 q)[121]? = some (.inr (.inl 4)) := rfl
theorem am_a121 : am_ald X (am_L0 q, G) 121 i = bif am_in i 4 then some (G 121 i.toNatClampNeg) else none := rfl
theorem am_t121 : am_astM (am_L0 q, G) 121 i x = bif am_in i 4 then some (am_L0 q, am_up G 121 i.toNatClampNeg x) else none := rfl
theorem am_n121 : am_len X (am_L0 q, G) 121 = some 4 := rfl
theorem am_lc122 : (am_L0 q)[122]? = some (.inr (.inl 160)) := rfl
theorem am_a122 : am_ald X (am_L0 q, G) 122 i = bif am_in i 160 then some (G 122 i.toNatClampNeg) else none := rfl
theorem am_t122 : am_astM (am_L0 q, G) 122 i x = bif am_in i 160 then some (am_L0 q, am_up G 122 i.toNatClampNeg x) else none := rfl
theorem am_n122 : am_len X (am_L0 q, G) 122 = some 160 := rfl
theorem am_lc123 : (am_L0 q)[123]? = some (.inr (.inl 40)) := rfl
theorem am_a123 : am_ald X (am_L0 q, G) 123 i = bif am_in i 40 then some (G 123 i.toNatClampNeg) else none := rfl
theorem am_t123 : am_astM (am_L0 q, G) 123 i x = bif am_in i 40 then some (am_L0 q, am_up G 123 i.toNatClampNeg x) else none := rfl
theorem am_n123 : am_len X (am_L0 q, G) 123 = some 40 := rfl
theorem am_lc124 : (am_L0 q)[124]? = some (.inr (.inl 8)) := rfl
theorem am_a124 : am_ald X (am_L0 q, G) 124 i = bif am_in i 8 then some (G 124 i.toNatClampNeg) else none := rfl
theorem am_t124 : am_astM (am_L0 q, G) 124 i x = bif am_in i 8 then some (am_L0 q, am_up G 124 i.toNatClampNeg x) else none := rfl
theorem am_n124 : am_len X (am_L0 q, G) 124 = some 8 := rfl
theorem am_lc125 : (am_L0 q)[125]? = some (.inr (.inl 40)) := rfl
theorem am_a125 : am_ald X (am_L0 q, G) 125 i = bif am_in i 40 then some (G 125 i.toNatClampNeg) else none := rfl
theorem am_t125 : am_astM (am_L0 q, G) 125 i x = bif am_in i 40 then some (am_L0 q, am_up G 125 i.toNatClampNeg x) else none := rfl
theorem am_n125 : am_len X (am_L0 q, G) 125 = some 40 := rfl
theorem am_rcv_f {ci : Nat} {w : am_M} : am_rcv false ci as w = true := rfl
end AML0
/-- the calls' side conditions, and the shape of what they answer -/
theorem am_cal_ok {C : Nat → List Value → am_M → am_O} {rc : Bool} {t ci : Nat} {as st : List Value} {w : am_M} {o : Option Value × am_M} (h1 : am_cat st = true) (h2 : am_rcv rc ci as w = true) (h3 : C t as w = some o) : am_calM C rc t ci as st w = some (o.1.toList ++ st, o.2) := by
  unfold am_calM
  rw [h1, h2, h3]
  rfl
theorem am_up_get (G : am_G) (i j a b : Nat) (v : Int32) : am_up G i j v a b = if a = i then (if b = j then v else G a b) else G a b := rfl
