/-! THE TABLES ARE THE PROGRAM (each row read by the kernel), 8 -/
theorem am_a229_0 : (List.range' 0 46).all (am_okP 229) = true := by decide +kernel
theorem am_a229_1 : (List.range' 46 22).all (am_okP 229) = true := by decide +kernel
theorem am_a230_0 : (List.range' 0 42).all (am_okP 230) = true := by decide +kernel
theorem am_a230_1 : (List.range' 42 42).all (am_okP 230) = true := by decide +kernel
theorem am_a230_2 : (List.range' 84 38).all (am_okP 230) = true := by decide +kernel
theorem am_a231_0 : (List.range' 0 42).all (am_okP 231) = true := by decide +kernel
theorem am_a231_1 : (List.range' 42 3).all (am_okP 231) = true := by decide +kernel
theorem am_a232_0 : (List.range' 0 15).all (am_okP 232) = true := by decide +kernel
theorem am_a233_0 : (List.range' 0 48).all (am_okP 233) = true := by decide +kernel
theorem am_a233_1 : (List.range' 48 40).all (am_okP 233) = true := by decide +kernel
theorem am_a233_2 : (List.range' 88 41).all (am_okP 233) = true := by decide +kernel
theorem am_a233_3 : (List.range' 129 42).all (am_okP 233) = true := by decide +kernel
theorem am_a233_4 : (List.range' 171 48).all (am_okP 233) = true := by decide +kernel
theorem am_a233_5 : (List.range' 219 42).all (am_okP 233) = true := by decide +kernel
theorem am_a233_6 : (List.range' 261 41).all (am_okP 233) = true := by decide +kernel
theorem am_a233_7 : (List.range' 302 48).all (am_okP 233) = true := by decide +kernel
theorem am_a233_8 : (List.range' 350 23).all (am_okP 233) = true := by decide +kernel
theorem am_a234_0 : (List.range' 0 23).all (am_okP 234) = true := by decide +kernel
theorem am_a235_0 : (List.range' 0 40).all (am_okP 235) = true := by decide +kernel
theorem am_a235_1 : (List.range' 40 45).all (am_okP 235) = true := by decide +kernel
theorem am_a235_2 : (List.range' 85 29).all (am_okP 235) = true := by decide +kernel
theorem am_a236_0 : (List.range' 0 43).all (am_okP 236) = true := by decide +kernel
theorem am_a237_0 : (List.range' 0 43).all (am_okP 237) = true := by decide +kernel
theorem am_a237_1 : (List.range' 43 47).all (am_okP 237) = true := by decide +kernel
theorem am_a237_2 : (List.range' 90 15).all (am_okP 237) = true := by decide +kernel
theorem am_a238_0 : (List.range' 0 47).all (am_okP 238) = true := by decide +kernel
theorem am_a238_1 : (List.range' 47 23).all (am_okP 238) = true := by decide +kernel
theorem am_a239_0 : (List.range' 0 12).all (am_okP 239) = true := by decide +kernel
theorem am_a240_0 : (List.range' 0 35).all (am_okP 240) = true := by decide +kernel
theorem am_a240_1 : (List.range' 35 42).all (am_okP 240) = true := by decide +kernel
theorem am_a240_2 : (List.range' 77 45).all (am_okP 240) = true := by decide +kernel
theorem am_a240_3 : (List.range' 122 31).all (am_okP 240) = true := by decide +kernel
theorem am_a241_0 : (List.range' 0 10).all (am_okP 241) = true := by decide +kernel
theorem am_a242_0 : (List.range' 0 36).all (am_okP 242) = true := by decide +kernel
theorem am_a243_0 : (List.range' 0 17).all (am_okP 243) = true := by decide +kernel
theorem am_a244_0 : (List.range' 0 40).all (am_okP 244) = true := by decide +kernel
theorem am_a244_1 : (List.range' 40 40).all (am_okP 244) = true := by decide +kernel
theorem am_a244_2 : (List.range' 80 25).all (am_okP 244) = true := by decide +kernel
theorem am_a245_0 : (List.range' 0 23).all (am_okP 245) = true := by decide +kernel
theorem am_a246_0 : (List.range' 0 30).all (am_okP 246) = true := by decide +kernel
theorem am_a247_0 : (List.range' 0 20).all (am_okP 247) = true := by decide +kernel
theorem am_a248_0 : (List.range' 0 13).all (am_okP 248) = true := by decide +kernel
theorem am_a249_0 : (List.range' 0 11).all (am_okP 249) = true := by decide +kernel
theorem am_a250_0 : (List.range' 0 12).all (am_okP 250) = true := by decide +kernel
theorem am_a251_0 : (List.range' 0 11).all (am_okP 251) = true := by decide +kernel
theorem am_a252_0 : (List.range' 0 12).all (am_okP 252) = true := by decide +kernel
theorem am_a253_0 : (List.range' 0 23).all (am_okP 253) = true := by decide +kernel
theorem am_a254_0 : (List.range' 0 21).all (am_okP 254) = true := by decide +kernel
theorem am_a255_0 : (List.range' 0 33).all (am_okP 255) = true := by decide +kernel
theorem am_a256_0 : (List.range' 0 42).all (am_okP 256) = true := by decide +kernel
theorem am_a256_1 : (List.range' 42 37).all (am_okP 256) = true := by decide +kernel
theorem am_a257_0 : (List.range' 0 44).all (am_okP 257) = true := by decide +kernel
theorem am_a257_1 : (List.range' 44 18).all (am_okP 257) = true := by decide +kernel
theorem am_a258_0 : (List.range' 0 32).all (am_okP 258) = true := by decide +kernel
theorem am_a0 (pc : Nat) : am_okP 0 pc = true := by
  rcases Nat.lt_or_ge pc 198 with h | h0
  · exact am_rg am_a0_0 (Nat.zero_le _) h
  rcases Nat.lt_or_ge pc 222 with h | h1
  · exact am_rg am_a0_1 (h0) h
  rcases Nat.lt_or_ge pc 248 with h | h2
  · exact am_rg am_a0_2 (h1) h
  rcases Nat.lt_or_ge pc 282 with h | h3
  · exact am_rg am_a0_3 (h2) h
  rcases Nat.lt_or_ge pc 310 with h | h4
  · exact am_rg am_a0_4 (h3) h
  rcases Nat.lt_or_ge pc 336 with h | h5
  · exact am_rg am_a0_5 (h4) h
  rcases Nat.lt_or_ge pc 366 with h | h6
  · exact am_rg am_a0_6 (h5) h
  rcases Nat.lt_or_ge pc 392 with h | h7
  · exact am_rg am_a0_7 (h6) h
  rcases Nat.lt_or_ge pc 420 with h | h8
  · exact am_rg am_a0_8 (h7) h
  rcases Nat.lt_or_ge pc 450 with h | h9
  · exact am_rg am_a0_9 (h8) h
  rcases Nat.lt_or_ge pc 480 with h | h10
  · exact am_rg am_a0_10 (h9) h
  rcases Nat.lt_or_ge pc 506 with h | h11
  · exact am_rg am_a0_11 (h10) h
  rcases Nat.lt_or_ge pc 534 with h | h12
  · exact am_rg am_a0_12 (h11) h
  rcases Nat.lt_or_ge pc 560 with h | h13
  · exact am_rg am_a0_13 (h12) h
  rcases Nat.lt_or_ge pc 588 with h | h14
  · exact am_rg am_a0_14 (h13) h
  rcases Nat.lt_or_ge pc 614 with h | h15
  · exact am_rg am_a0_15 (h14) h
  rcases Nat.lt_or_ge pc 644 with h | h16
  · exact am_rg am_a0_16 (h15) h
  rcases Nat.lt_or_ge pc 672 with h | h17
  · exact am_rg am_a0_17 (h16) h
  rcases Nat.lt_or_ge pc 702 with h | h18
  · exact am_rg am_a0_18 (h17) h
  rcases Nat.lt_or_ge pc 734 with h | h19
  · exact am_rg am_a0_19 (h18) h
  rcases Nat.lt_or_ge pc 766 with h | h20
  · exact am_rg am_a0_20 (h19) h
  rcases Nat.lt_or_ge pc 798 with h | h21
  · exact am_rg am_a0_21 (h20) h
  rcases Nat.lt_or_ge pc 828 with h | h22
  · exact am_rg am_a0_22 (h21) h
  rcases Nat.lt_or_ge pc 858 with h | h23
  · exact am_rg am_a0_23 (h22) h
  rcases Nat.lt_or_ge pc 888 with h | h24
  · exact am_rg am_a0_24 (h23) h
  rcases Nat.lt_or_ge pc 920 with h | h25
  · exact am_rg am_a0_25 (h24) h
  rcases Nat.lt_or_ge pc 950 with h | h26
  · exact am_rg am_a0_26 (h25) h
  rcases Nat.lt_or_ge pc 984 with h | h27
  · exact am_rg am_a0_27 (h26) h
  rcases Nat.lt_or_ge pc 1014 with h | h28
  · exact am_rg am_a0_28 (h27) h
  rcases Nat.lt_or_ge pc 1044 with h | h29
  · exact am_rg am_a0_29 (h28) h
  rcases Nat.lt_or_ge pc 1074 with h | h30
  · exact am_rg am_a0_30 (h29) h
  rcases Nat.lt_or_ge pc 1108 with h | h31
  · exact am_rg am_a0_31 (h30) h
  rcases Nat.lt_or_ge pc 1136 with h | h32
  · exact am_rg am_a0_32 (h31) h
  rcases Nat.lt_or_ge pc 1166 with h | h33
  · exact am_rg am_a0_33 (h32) h
  rcases Nat.lt_or_ge pc 1192 with h | h34
  · exact am_rg am_a0_34 (h33) h
  rcases Nat.lt_or_ge pc 1220 with h | h35
  · exact am_rg am_a0_35 (h34) h
  rcases Nat.lt_or_ge pc 1250 with h | h36
  · exact am_rg am_a0_36 (h35) h
  rcases Nat.lt_or_ge pc 1280 with h | h37
  · exact am_rg am_a0_37 (h36) h
  rcases Nat.lt_or_ge pc 1310 with h | h38
  · exact am_rg am_a0_38 (h37) h
  rcases Nat.lt_or_ge pc 1342 with h | h39
  · exact am_rg am_a0_39 (h38) h
  rcases Nat.lt_or_ge pc 1374 with h | h40
  · exact am_rg am_a0_40 (h39) h
  rcases Nat.lt_or_ge pc 1408 with h | h41
  · exact am_rg am_a0_41 (h40) h
  rcases Nat.lt_or_ge pc 1442 with h | h42
  · exact am_rg am_a0_42 (h41) h
  rcases Nat.lt_or_ge pc 1476 with h | h43
  · exact am_rg am_a0_43 (h42) h
  rcases Nat.lt_or_ge pc 1485 with h | h44
  · exact am_rg am_a0_44 (h43) h
  have e : am_P 0 pc = none := by
    show am_c0 pc = none
    unfold am_c0
    rw [Nat.ble_eq_true_of_le h44]
    rfl
  unfold am_okP
  rw [e]
theorem am_a1 (pc : Nat) : am_okP 1 pc = true := by
  rcases Nat.lt_or_ge pc 44 with h | h0
  · exact am_rg am_a1_0 (Nat.zero_le _) h
  have e : am_P 1 pc = none := by
    show am_c1 pc = none
    unfold am_c1
    rw [Nat.ble_eq_true_of_le h0]
    rfl
  unfold am_okP
  rw [e]
theorem am_a2 (pc : Nat) : am_okP 2 pc = true := by
  rcases Nat.lt_or_ge pc 21 with h | h0
  · exact am_rg am_a2_0 (Nat.zero_le _) h
  have e : am_P 2 pc = none := by
    show am_c2 pc = none
    unfold am_c2
    rw [Nat.ble_eq_true_of_le h0]
    rfl
  unfold am_okP
  rw [e]
theorem am_a3 (pc : Nat) : am_okP 3 pc = true := by
  rcases Nat.lt_or_ge pc 21 with h | h0
  · exact am_rg am_a3_0 (Nat.zero_le _) h
  have e : am_P 3 pc = none := by
    show am_c3 pc = none
    unfold am_c3
    rw [Nat.ble_eq_true_of_le h0]
    rfl
  unfold am_okP
  rw [e]
theorem am_a4 (pc : Nat) : am_okP 4 pc = true := by
  rcases Nat.lt_or_ge pc 25 with h | h0
  · exact am_rg am_a4_0 (Nat.zero_le _) h
  have e : am_P 4 pc = none := by
    show am_c4 pc = none
    unfold am_c4
    rw [Nat.ble_eq_true_of_le h0]
    rfl
  unfold am_okP
  rw [e]
theorem am_a5 (pc : Nat) : am_okP 5 pc = true := by
  rcases Nat.lt_or_ge pc 5 with h | h0
  · exact am_rg am_a5_0 (Nat.zero_le _) h
  have e : am_P 5 pc = none := by
    show am_c5 pc = none
    unfold am_c5
    rw [Nat.ble_eq_true_of_le h0]
    rfl
  unfold am_okP
  rw [e]
theorem am_a6 (pc : Nat) : am_okP 6 pc = true := by
  rcases Nat.lt_or_ge pc 16 with h | h0
  · exact am_rg am_a6_0 (Nat.zero_le _) h
  have e : am_P 6 pc = none := by
    show am_c6 pc = none
    unfold am_c6
    rw [Nat.ble_eq_true_of_le h0]
    rfl
  unfold am_okP
  rw [e]
theorem am_a7 (pc : Nat) : am_okP 7 pc = true := by
  rcases Nat.lt_or_ge pc 5 with h | h0
  · exact am_rg am_a7_0 (Nat.zero_le _) h
  have e : am_P 7 pc = none := by
    show am_c7 pc = none
    unfold am_c7
    rw [Nat.ble_eq_true_of_le h0]
    rfl
  unfold am_okP
  rw [e]
theorem am_a8 (pc : Nat) : am_okP 8 pc = true := by
  rcases Nat.lt_or_ge pc 20 with h | h0
  · exact am_rg am_a8_0 (Nat.zero_le _) h
  have e : am_P 8 pc = none := by
    show am_c8 pc = none
    unfold am_c8
    rw [Nat.ble_eq_true_of_le h0]
    rfl
  unfold am_okP
  rw [e]
theorem am_a9 (pc : Nat) : am_okP 9 pc = true := by
  rcases Nat.lt_or_ge pc 33 with h | h0
  · exact am_rg am_a9_0 (Nat.zero_le _) h
  have e : am_P 9 pc = none := by
    show am_c9 pc = none
    unfold am_c9
    rw [Nat.ble_eq_true_of_le h0]
    rfl
  unfold am_okP
  rw [e]
theorem am_a10 (pc : Nat) : am_okP 10 pc = true := by
  rcases Nat.lt_or_ge pc 38 with h | h0
  · exact am_rg am_a10_0 (Nat.zero_le _) h
  have e : am_P 10 pc = none := by
    show am_c10 pc = none
    unfold am_c10
    rw [Nat.ble_eq_true_of_le h0]
    rfl
  unfold am_okP
  rw [e]
theorem am_a11 (pc : Nat) : am_okP 11 pc = true := by
  rcases Nat.lt_or_ge pc 44 with h | h0
  · exact am_rg am_a11_0 (Nat.zero_le _) h
  rcases Nat.lt_or_ge pc 63 with h | h1
  · exact am_rg am_a11_1 (h0) h
  have e : am_P 11 pc = none := by
    show am_c11 pc = none
    unfold am_c11
    rw [Nat.ble_eq_true_of_le h1]
    rfl
  unfold am_okP
  rw [e]
theorem am_a12 (pc : Nat) : am_okP 12 pc = true := by
  rcases Nat.lt_or_ge pc 26 with h | h0
  · exact am_rg am_a12_0 (Nat.zero_le _) h
  have e : am_P 12 pc = none := by
    show am_c12 pc = none
    unfold am_c12
    rw [Nat.ble_eq_true_of_le h0]
    rfl
  unfold am_okP
  rw [e]
theorem am_a13 (pc : Nat) : am_okP 13 pc = true := by
  rcases Nat.lt_or_ge pc 50 with h | h0
  · exact am_rg am_a13_0 (Nat.zero_le _) h
  rcases Nat.lt_or_ge pc 64 with h | h1
  · exact am_rg am_a13_1 (h0) h
  have e : am_P 13 pc = none := by
    show am_c13 pc = none
    unfold am_c13
    rw [Nat.ble_eq_true_of_le h1]
    rfl
  unfold am_okP
  rw [e]
theorem am_a14 (pc : Nat) : am_okP 14 pc = true := by
  rcases Nat.lt_or_ge pc 44 with h | h0
  · exact am_rg am_a14_0 (Nat.zero_le _) h
  rcases Nat.lt_or_ge pc 90 with h | h1
  · exact am_rg am_a14_1 (h0) h
  rcases Nat.lt_or_ge pc 105 with h | h2
  · exact am_rg am_a14_2 (h1) h
  have e : am_P 14 pc = none := by
    show am_c14 pc = none
    unfold am_c14
    rw [Nat.ble_eq_true_of_le h2]
    rfl
  unfold am_okP
  rw [e]
theorem am_a15 (pc : Nat) : am_okP 15 pc = true := by
  rcases Nat.lt_or_ge pc 23 with h | h0
  · exact am_rg am_a15_0 (Nat.zero_le _) h
  have e : am_P 15 pc = none := by
    show am_c15 pc = none
    unfold am_c15
    rw [Nat.ble_eq_true_of_le h0]
    rfl
  unfold am_okP
  rw [e]
theorem am_a16 (pc : Nat) : am_okP 16 pc = true := by
  rcases Nat.lt_or_ge pc 5 with h | h0
  · exact am_rg am_a16_0 (Nat.zero_le _) h
  have e : am_P 16 pc = none := by
    show am_c16 pc = none
    unfold am_c16
    rw [Nat.ble_eq_true_of_le h0]
    rfl
  unfold am_okP
  rw [e]
theorem am_a17 (pc : Nat) : am_okP 17 pc = true := by
  rcases Nat.lt_or_ge pc 42 with h | h0
  · exact am_rg am_a17_0 (Nat.zero_le _) h
  rcases Nat.lt_or_ge pc 81 with h | h1
  · exact am_rg am_a17_1 (h0) h
  rcases Nat.lt_or_ge pc 93 with h | h2
  · exact am_rg am_a17_2 (h1) h
  have e : am_P 17 pc = none := by
    show am_c17 pc = none
    unfold am_c17
    rw [Nat.ble_eq_true_of_le h2]
    rfl
  unfold am_okP
  rw [e]
theorem am_a18 (pc : Nat) : am_okP 18 pc = true := by
  rcases Nat.lt_or_ge pc 12 with h | h0
  · exact am_rg am_a18_0 (Nat.zero_le _) h
  have e : am_P 18 pc = none := by
    show am_c18 pc = none
    unfold am_c18
    rw [Nat.ble_eq_true_of_le h0]
    rfl
  unfold am_okP
  rw [e]
theorem am_a19 (pc : Nat) : am_okP 19 pc = true := by
  rcases Nat.lt_or_ge pc 36 with h | h0
  · exact am_rg am_a19_0 (Nat.zero_le _) h
  rcases Nat.lt_or_ge pc 78 with h | h1
  · exact am_rg am_a19_1 (h0) h
  rcases Nat.lt_or_ge pc 100 with h | h2
  · exact am_rg am_a19_2 (h1) h
  have e : am_P 19 pc = none := by
    show am_c19 pc = none
    unfold am_c19
    rw [Nat.ble_eq_true_of_le h2]
    rfl
  unfold am_okP
  rw [e]
theorem am_a20 (pc : Nat) : am_okP 20 pc = true := by
  rcases Nat.lt_or_ge pc 5 with h | h0
  · exact am_rg am_a20_0 (Nat.zero_le _) h
  have e : am_P 20 pc = none := by
    show am_c20 pc = none
    unfold am_c20
    rw [Nat.ble_eq_true_of_le h0]
    rfl
  unfold am_okP
  rw [e]
theorem am_a21 (pc : Nat) : am_okP 21 pc = true := by
  rcases Nat.lt_or_ge pc 26 with h | h0
  · exact am_rg am_a21_0 (Nat.zero_le _) h
  have e : am_P 21 pc = none := by
    show am_c21 pc = none
    unfold am_c21
    rw [Nat.ble_eq_true_of_le h0]
    rfl
  unfold am_okP
  rw [e]
theorem am_a22 (pc : Nat) : am_okP 22 pc = true := by
  rcases Nat.lt_or_ge pc 53 with h | h0
  · exact am_rg am_a22_0 (Nat.zero_le _) h
  rcases Nat.lt_or_ge pc 106 with h | h1
  · exact am_rg am_a22_1 (h0) h
  rcases Nat.lt_or_ge pc 112 with h | h2
  · exact am_rg am_a22_2 (h1) h
  have e : am_P 22 pc = none := by
    show am_c22 pc = none
    unfold am_c22
    rw [Nat.ble_eq_true_of_le h2]
    rfl
  unfold am_okP
  rw [e]
theorem am_a23 (pc : Nat) : am_okP 23 pc = true := by
  rcases Nat.lt_or_ge pc 5 with h | h0
  · exact am_rg am_a23_0 (Nat.zero_le _) h
  have e : am_P 23 pc = none := by
    show am_c23 pc = none
    unfold am_c23
    rw [Nat.ble_eq_true_of_le h0]
    rfl
  unfold am_okP
  rw [e]
theorem am_a24 (pc : Nat) : am_okP 24 pc = true := by
  rcases Nat.lt_or_ge pc 20 with h | h0
  · exact am_rg am_a24_0 (Nat.zero_le _) h
  have e : am_P 24 pc = none := by
    show am_c24 pc = none
    unfold am_c24
    rw [Nat.ble_eq_true_of_le h0]
    rfl
  unfold am_okP
  rw [e]
theorem am_a25 (pc : Nat) : am_okP 25 pc = true := by
  rcases Nat.lt_or_ge pc 27 with h | h0
  · exact am_rg am_a25_0 (Nat.zero_le _) h
  have e : am_P 25 pc = none := by
    show am_c25 pc = none
    unfold am_c25
    rw [Nat.ble_eq_true_of_le h0]
    rfl
  unfold am_okP
  rw [e]
theorem am_a26 (pc : Nat) : am_okP 26 pc = true := by
  rcases Nat.lt_or_ge pc 52 with h | h0
  · exact am_rg am_a26_0 (Nat.zero_le _) h
  rcases Nat.lt_or_ge pc 86 with h | h1
  · exact am_rg am_a26_1 (h0) h
  rcases Nat.lt_or_ge pc 126 with h | h2
  · exact am_rg am_a26_2 (h1) h
  rcases Nat.lt_or_ge pc 167 with h | h3
  · exact am_rg am_a26_3 (h2) h
  rcases Nat.lt_or_ge pc 205 with h | h4
  · exact am_rg am_a26_4 (h3) h
  rcases Nat.lt_or_ge pc 221 with h | h5
  · exact am_rg am_a26_5 (h4) h
  have e : am_P 26 pc = none := by
    show am_c26 pc = none
    unfold am_c26
    rw [Nat.ble_eq_true_of_le h5]
    rfl
  unfold am_okP
  rw [e]
theorem am_a27 (pc : Nat) : am_okP 27 pc = true := by
  rcases Nat.lt_or_ge pc 36 with h | h0
  · exact am_rg am_a27_0 (Nat.zero_le _) h
  have e : am_P 27 pc = none := by
    show am_c27 pc = none
    unfold am_c27
    rw [Nat.ble_eq_true_of_le h0]
    rfl
  unfold am_okP
  rw [e]
theorem am_a28 (pc : Nat) : am_okP 28 pc = true := by
  rcases Nat.lt_or_ge pc 23 with h | h0
  · exact am_rg am_a28_0 (Nat.zero_le _) h
  have e : am_P 28 pc = none := by
    show am_c28 pc = none
    unfold am_c28
    rw [Nat.ble_eq_true_of_le h0]
    rfl
  unfold am_okP
  rw [e]
theorem am_a29 (pc : Nat) : am_okP 29 pc = true := by
  rcases Nat.lt_or_ge pc 23 with h | h0
  · exact am_rg am_a29_0 (Nat.zero_le _) h
  have e : am_P 29 pc = none := by
    show am_c29 pc = none
    unfold am_c29
    rw [Nat.ble_eq_true_of_le h0]
    rfl
  unfold am_okP
  rw [e]
theorem am_a30 (pc : Nat) : am_okP 30 pc = true := by
  rcases Nat.lt_or_ge pc 23 with h | h0
  · exact am_rg am_a30_0 (Nat.zero_le _) h
  have e : am_P 30 pc = none := by
    show am_c30 pc = none
    unfold am_c30
    rw [Nat.ble_eq_true_of_le h0]
    rfl
  unfold am_okP
  rw [e]
theorem am_a31 (pc : Nat) : am_okP 31 pc = true := by
  rcases Nat.lt_or_ge pc 18 with h | h0
  · exact am_rg am_a31_0 (Nat.zero_le _) h
  have e : am_P 31 pc = none := by
    show am_c31 pc = none
    unfold am_c31
    rw [Nat.ble_eq_true_of_le h0]
    rfl
  unfold am_okP
  rw [e]
theorem am_a32 (pc : Nat) : am_okP 32 pc = true := by
  rcases Nat.lt_or_ge pc 32 with h | h0
  · exact am_rg am_a32_0 (Nat.zero_le _) h
  have e : am_P 32 pc = none := by
    show am_c32 pc = none
    unfold am_c32
    rw [Nat.ble_eq_true_of_le h0]
    rfl
  unfold am_okP
  rw [e]
theorem am_a33 (pc : Nat) : am_okP 33 pc = true := by
  rcases Nat.lt_or_ge pc 15 with h | h0
  · exact am_rg am_a33_0 (Nat.zero_le _) h
  have e : am_P 33 pc = none := by
    show am_c33 pc = none
    unfold am_c33
    rw [Nat.ble_eq_true_of_le h0]
    rfl
  unfold am_okP
  rw [e]
theorem am_a34 (pc : Nat) : am_okP 34 pc = true := by
  rcases Nat.lt_or_ge pc 28 with h | h0
  · exact am_rg am_a34_0 (Nat.zero_le _) h
  have e : am_P 34 pc = none := by
    show am_c34 pc = none
    unfold am_c34
    rw [Nat.ble_eq_true_of_le h0]
    rfl
  unfold am_okP
  rw [e]
theorem am_a35 (pc : Nat) : am_okP 35 pc = true := by
  rcases Nat.lt_or_ge pc 25 with h | h0
  · exact am_rg am_a35_0 (Nat.zero_le _) h
  have e : am_P 35 pc = none := by
    show am_c35 pc = none
    unfold am_c35
    rw [Nat.ble_eq_true_of_le h0]
    rfl
  unfold am_okP
  rw [e]
theorem am_a36 (pc : Nat) : am_okP 36 pc = true := by
  rcases Nat.lt_or_ge pc 37 with h | h0
  · exact am_rg am_a36_0 (Nat.zero_le _) h
  have e : am_P 36 pc = none := by
    show am_c36 pc = none
    unfold am_c36
    rw [Nat.ble_eq_true_of_le h0]
    rfl
  unfold am_okP
  rw [e]
theorem am_a37 (pc : Nat) : am_okP 37 pc = true := by
  rcases Nat.lt_or_ge pc 40 with h | h0
  · exact am_rg am_a37_0 (Nat.zero_le _) h
  rcases Nat.lt_or_ge pc 58 with h | h1
  · exact am_rg am_a37_1 (h0) h
  have e : am_P 37 pc = none := by
    show am_c37 pc = none
    unfold am_c37
    rw [Nat.ble_eq_true_of_le h1]
    rfl
  unfold am_okP
  rw [e]
theorem am_a38 (pc : Nat) : am_okP 38 pc = true := by
  rcases Nat.lt_or_ge pc 41 with h | h0
  · exact am_rg am_a38_0 (Nat.zero_le _) h
  rcases Nat.lt_or_ge pc 79 with h | h1
  · exact am_rg am_a38_1 (h0) h
  rcases Nat.lt_or_ge pc 120 with h | h2
  · exact am_rg am_a38_2 (h1) h
  rcases Nat.lt_or_ge pc 154 with h | h3
  · exact am_rg am_a38_3 (h2) h
  rcases Nat.lt_or_ge pc 155 with h | h4
  · exact am_rg am_a38_4 (h3) h
  have e : am_P 38 pc = none := by
    show am_c38 pc = none
    unfold am_c38
    rw [Nat.ble_eq_true_of_le h4]
    rfl
  unfold am_okP
  rw [e]
theorem am_a39 (pc : Nat) : am_okP 39 pc = true := by
  rcases Nat.lt_or_ge pc 44 with h | h0
  · exact am_rg am_a39_0 (Nat.zero_le _) h
  rcases Nat.lt_or_ge pc 73 with h | h1
  · exact am_rg am_a39_1 (h0) h
  have e : am_P 39 pc = none := by
    show am_c39 pc = none
    unfold am_c39
    rw [Nat.ble_eq_true_of_le h1]
    rfl
  unfold am_okP
  rw [e]
theorem am_a40 (pc : Nat) : am_okP 40 pc = true := by
  rcases Nat.lt_or_ge pc 47 with h | h0
  · exact am_rg am_a40_0 (Nat.zero_le _) h
  rcases Nat.lt_or_ge pc 78 with h | h1
  · exact am_rg am_a40_1 (h0) h
  have e : am_P 40 pc = none := by
    show am_c40 pc = none
    unfold am_c40
    rw [Nat.ble_eq_true_of_le h1]
    rfl
  unfold am_okP
  rw [e]
theorem am_a41 (pc : Nat) : am_okP 41 pc = true := by
  rcases Nat.lt_or_ge pc 30 with h | h0
  · exact am_rg am_a41_0 (Nat.zero_le _) h
  have e : am_P 41 pc = none := by
    show am_c41 pc = none
    unfold am_c41
    rw [Nat.ble_eq_true_of_le h0]
    rfl
  unfold am_okP
  rw [e]
theorem am_a42 (pc : Nat) : am_okP 42 pc = true := by
  rcases Nat.lt_or_ge pc 43 with h | h0
  · exact am_rg am_a42_0 (Nat.zero_le _) h
  rcases Nat.lt_or_ge pc 51 with h | h1
  · exact am_rg am_a42_1 (h0) h
  have e : am_P 42 pc = none := by
    show am_c42 pc = none
    unfold am_c42
    rw [Nat.ble_eq_true_of_le h1]
    rfl
  unfold am_okP
  rw [e]
theorem am_a43 (pc : Nat) : am_okP 43 pc = true := by
  rcases Nat.lt_or_ge pc 50 with h | h0
  · exact am_rg am_a43_0 (Nat.zero_le _) h
  rcases Nat.lt_or_ge pc 106 with h | h1
  · exact am_rg am_a43_1 (h0) h
  rcases Nat.lt_or_ge pc 151 with h | h2
  · exact am_rg am_a43_2 (h1) h
  rcases Nat.lt_or_ge pc 195 with h | h3
  · exact am_rg am_a43_3 (h2) h
  rcases Nat.lt_or_ge pc 237 with h | h4
  · exact am_rg am_a43_4 (h3) h
  rcases Nat.lt_or_ge pc 241 with h | h5
  · exact am_rg am_a43_5 (h4) h
  have e : am_P 43 pc = none := by
    show am_c43 pc = none
    unfold am_c43
    rw [Nat.ble_eq_true_of_le h5]
    rfl
  unfold am_okP
  rw [e]
theorem am_a44 (pc : Nat) : am_okP 44 pc = true := by
  rcases Nat.lt_or_ge pc 50 with h | h0
  · exact am_rg am_a44_0 (Nat.zero_le _) h
  rcases Nat.lt_or_ge pc 63 with h | h1
  · exact am_rg am_a44_1 (h0) h
  have e : am_P 44 pc = none := by
    show am_c44 pc = none
    unfold am_c44
    rw [Nat.ble_eq_true_of_le h1]
    rfl
  unfold am_okP
  rw [e]
theorem am_a45 (pc : Nat) : am_okP 45 pc = true := by
  rcases Nat.lt_or_ge pc 43 with h | h0
  · exact am_rg am_a45_0 (Nat.zero_le _) h
  have e : am_P 45 pc = none := by
    show am_c45 pc = none
    unfold am_c45
    rw [Nat.ble_eq_true_of_le h0]
    rfl
  unfold am_okP
  rw [e]
theorem am_a46 (pc : Nat) : am_okP 46 pc = true := by
  rcases Nat.lt_or_ge pc 44 with h | h0
  · exact am_rg am_a46_0 (Nat.zero_le _) h
  rcases Nat.lt_or_ge pc 91 with h | h1
  · exact am_rg am_a46_1 (h0) h
  rcases Nat.lt_or_ge pc 113 with h | h2
  · exact am_rg am_a46_2 (h1) h
  have e : am_P 46 pc = none := by
    show am_c46 pc = none
    unfold am_c46
    rw [Nat.ble_eq_true_of_le h2]
    rfl
  unfold am_okP
  rw [e]
theorem am_a47 (pc : Nat) : am_okP 47 pc = true := by
  rcases Nat.lt_or_ge pc 45 with h | h0
  · exact am_rg am_a47_0 (Nat.zero_le _) h
  rcases Nat.lt_or_ge pc 55 with h | h1
  · exact am_rg am_a47_1 (h0) h
  have e : am_P 47 pc = none := by
    show am_c47 pc = none
    unfold am_c47
    rw [Nat.ble_eq_true_of_le h1]
    rfl
  unfold am_okP
  rw [e]
theorem am_a48 (pc : Nat) : am_okP 48 pc = true := by
  rcases Nat.lt_or_ge pc 49 with h | h0
  · exact am_rg am_a48_0 (Nat.zero_le _) h
  rcases Nat.lt_or_ge pc 79 with h | h1
  · exact am_rg am_a48_1 (h0) h
  have e : am_P 48 pc = none := by
    show am_c48 pc = none
    unfold am_c48
    rw [Nat.ble_eq_true_of_le h1]
    rfl
  unfold am_okP
  rw [e]
theorem am_a49 (pc : Nat) : am_okP 49 pc = true := by
  rcases Nat.lt_or_ge pc 47 with h | h0
  · exact am_rg am_a49_0 (Nat.zero_le _) h
  rcases Nat.lt_or_ge pc 90 with h | h1
  · exact am_rg am_a49_1 (h0) h
  rcases Nat.lt_or_ge pc 129 with h | h2
  · exact am_rg am_a49_2 (h1) h
  rcases Nat.lt_or_ge pc 175 with h | h3
  · exact am_rg am_a49_3 (h2) h
  rcases Nat.lt_or_ge pc 220 with h | h4
  · exact am_rg am_a49_4 (h3) h
  rcases Nat.lt_or_ge pc 266 with h | h5
  · exact am_rg am_a49_5 (h4) h
  have e : am_P 49 pc = none := by
    show am_c49 pc = none
    unfold am_c49
    rw [Nat.ble_eq_true_of_le h5]
    rfl
  unfold am_okP
  rw [e]
theorem am_a50 (pc : Nat) : am_okP 50 pc = true := by
  rcases Nat.lt_or_ge pc 52 with h | h0
  · exact am_rg am_a50_0 (Nat.zero_le _) h
  rcases Nat.lt_or_ge pc 100 with h | h1
  · exact am_rg am_a50_1 (h0) h
  rcases Nat.lt_or_ge pc 148 with h | h2
  · exact am_rg am_a50_2 (h1) h
  rcases Nat.lt_or_ge pc 152 with h | h3
  · exact am_rg am_a50_3 (h2) h
  have e : am_P 50 pc = none := by
    show am_c50 pc = none
    unfold am_c50
    rw [Nat.ble_eq_true_of_le h3]
    rfl
  unfold am_okP
  rw [e]
theorem am_a51 (pc : Nat) : am_okP 51 pc = true := by
  rcases Nat.lt_or_ge pc 5 with h | h0
  · exact am_rg am_a51_0 (Nat.zero_le _) h
  have e : am_P 51 pc = none := by
    show am_c51 pc = none
    unfold am_c51
    rw [Nat.ble_eq_true_of_le h0]
    rfl
  unfold am_okP
  rw [e]
theorem am_a52 (pc : Nat) : am_okP 52 pc = true := by
  rcases Nat.lt_or_ge pc 30 with h | h0
  · exact am_rg am_a52_0 (Nat.zero_le _) h
  have e : am_P 52 pc = none := by
    show am_c52 pc = none
    unfold am_c52
    rw [Nat.ble_eq_true_of_le h0]
    rfl
  unfold am_okP
  rw [e]
theorem am_a53 (pc : Nat) : am_okP 53 pc = true := by
  rcases Nat.lt_or_ge pc 46 with h | h0
  · exact am_rg am_a53_0 (Nat.zero_le _) h
  rcases Nat.lt_or_ge pc 86 with h | h1
  · exact am_rg am_a53_1 (h0) h
  rcases Nat.lt_or_ge pc 126 with h | h2
  · exact am_rg am_a53_2 (h1) h
  rcases Nat.lt_or_ge pc 160 with h | h3
  · exact am_rg am_a53_3 (h2) h
  have e : am_P 53 pc = none := by
    show am_c53 pc = none
    unfold am_c53
    rw [Nat.ble_eq_true_of_le h3]
    rfl
  unfold am_okP
  rw [e]
theorem am_a54 (pc : Nat) : am_okP 54 pc = true := by
  rcases Nat.lt_or_ge pc 45 with h | h0
  · exact am_rg am_a54_0 (Nat.zero_le _) h
  rcases Nat.lt_or_ge pc 94 with h | h1
  · exact am_rg am_a54_1 (h0) h
  rcases Nat.lt_or_ge pc 126 with h | h2
  · exact am_rg am_a54_2 (h1) h
  have e : am_P 54 pc = none := by
    show am_c54 pc = none
    unfold am_c54
    rw [Nat.ble_eq_true_of_le h2]
    rfl
  unfold am_okP
  rw [e]
theorem am_a55 (pc : Nat) : am_okP 55 pc = true := by
  rcases Nat.lt_or_ge pc 30 with h | h0
  · exact am_rg am_a55_0 (Nat.zero_le _) h
  have e : am_P 55 pc = none := by
    show am_c55 pc = none
    unfold am_c55
    rw [Nat.ble_eq_true_of_le h0]
    rfl
  unfold am_okP
  rw [e]
theorem am_a56 (pc : Nat) : am_okP 56 pc = true := by
  rcases Nat.lt_or_ge pc 41 with h | h0
  · exact am_rg am_a56_0 (Nat.zero_le _) h
  rcases Nat.lt_or_ge pc 61 with h | h1
  · exact am_rg am_a56_1 (h0) h
  have e : am_P 56 pc = none := by
    show am_c56 pc = none
    unfold am_c56
    rw [Nat.ble_eq_true_of_le h1]
    rfl
  unfold am_okP
  rw [e]
theorem am_a57 (pc : Nat) : am_okP 57 pc = true := by
  rcases Nat.lt_or_ge pc 37 with h | h0
  · exact am_rg am_a57_0 (Nat.zero_le _) h
  rcases Nat.lt_or_ge pc 69 with h | h1
  · exact am_rg am_a57_1 (h0) h
  rcases Nat.lt_or_ge pc 81 with h | h2
  · exact am_rg am_a57_2 (h1) h
  have e : am_P 57 pc = none := by
    show am_c57 pc = none
    unfold am_c57
    rw [Nat.ble_eq_true_of_le h2]
    rfl
  unfold am_okP
  rw [e]
theorem am_a58 (pc : Nat) : am_okP 58 pc = true := by
  rcases Nat.lt_or_ge pc 128 with h | h0
  · exact am_rg am_a58_0 (Nat.zero_le _) h
  rcases Nat.lt_or_ge pc 166 with h | h1
  · exact am_rg am_a58_1 (h0) h
  rcases Nat.lt_or_ge pc 192 with h | h2
  · exact am_rg am_a58_2 (h1) h
  have e : am_P 58 pc = none := by
    show am_c58 pc = none
    unfold am_c58
    rw [Nat.ble_eq_true_of_le h2]
    rfl
  unfold am_okP
  rw [e]
theorem am_a59 (pc : Nat) : am_okP 59 pc = true := by
  rcases Nat.lt_or_ge pc 14 with h | h0
  · exact am_rg am_a59_0 (Nat.zero_le _) h
  have e : am_P 59 pc = none := by
    show am_c59 pc = none
    unfold am_c59
    rw [Nat.ble_eq_true_of_le h0]
    rfl
  unfold am_okP
  rw [e]
theorem am_a60 (pc : Nat) : am_okP 60 pc = true := by
  rcases Nat.lt_or_ge pc 38 with h | h0
  · exact am_rg am_a60_0 (Nat.zero_le _) h
  rcases Nat.lt_or_ge pc 61 with h | h1
  · exact am_rg am_a60_1 (h0) h
  have e : am_P 60 pc = none := by
    show am_c60 pc = none
    unfold am_c60
    rw [Nat.ble_eq_true_of_le h1]
    rfl
  unfold am_okP
  rw [e]
theorem am_a61 (pc : Nat) : am_okP 61 pc = true := by
  rcases Nat.lt_or_ge pc 51 with h | h0
  · exact am_rg am_a61_0 (Nat.zero_le _) h
  rcases Nat.lt_or_ge pc 64 with h | h1
  · exact am_rg am_a61_1 (h0) h
  have e : am_P 61 pc = none := by
    show am_c61 pc = none
    unfold am_c61
    rw [Nat.ble_eq_true_of_le h1]
    rfl
  unfold am_okP
  rw [e]
theorem am_a62 (pc : Nat) : am_okP 62 pc = true := by
  rcases Nat.lt_or_ge pc 5 with h | h0
  · exact am_rg am_a62_0 (Nat.zero_le _) h
  have e : am_P 62 pc = none := by
    show am_c62 pc = none
    unfold am_c62
    rw [Nat.ble_eq_true_of_le h0]
    rfl
  unfold am_okP
  rw [e]
theorem am_a63 (pc : Nat) : am_okP 63 pc = true := by
  rcases Nat.lt_or_ge pc 19 with h | h0
  · exact am_rg am_a63_0 (Nat.zero_le _) h
  have e : am_P 63 pc = none := by
    show am_c63 pc = none
    unfold am_c63
    rw [Nat.ble_eq_true_of_le h0]
    rfl
  unfold am_okP
  rw [e]
theorem am_a64 (pc : Nat) : am_okP 64 pc = true := by
  rcases Nat.lt_or_ge pc 43 with h | h0
  · exact am_rg am_a64_0 (Nat.zero_le _) h
  rcases Nat.lt_or_ge pc 47 with h | h1
  · exact am_rg am_a64_1 (h0) h
  have e : am_P 64 pc = none := by
    show am_c64 pc = none
    unfold am_c64
    rw [Nat.ble_eq_true_of_le h1]
    rfl
  unfold am_okP
  rw [e]
theorem am_a65 (pc : Nat) : am_okP 65 pc = true := by
  rcases Nat.lt_or_ge pc 21 with h | h0
  · exact am_rg am_a65_0 (Nat.zero_le _) h
  have e : am_P 65 pc = none := by
    show am_c65 pc = none
    unfold am_c65
    rw [Nat.ble_eq_true_of_le h0]
    rfl
  unfold am_okP
  rw [e]
theorem am_a66 (pc : Nat) : am_okP 66 pc = true := by
  rcases Nat.lt_or_ge pc 6 with h | h0
  · exact am_rg am_a66_0 (Nat.zero_le _) h
  have e : am_P 66 pc = none := by
    show am_c66 pc = none
    unfold am_c66
    rw [Nat.ble_eq_true_of_le h0]
    rfl
  unfold am_okP
  rw [e]
theorem am_a67 (pc : Nat) : am_okP 67 pc = true := by
  rcases Nat.lt_or_ge pc 5 with h | h0
  · exact am_rg am_a67_0 (Nat.zero_le _) h
  have e : am_P 67 pc = none := by
    show am_c67 pc = none
    unfold am_c67
    rw [Nat.ble_eq_true_of_le h0]
    rfl
  unfold am_okP
  rw [e]
theorem am_a68 (pc : Nat) : am_okP 68 pc = true := by
  rcases Nat.lt_or_ge pc 5 with h | h0
  · exact am_rg am_a68_0 (Nat.zero_le _) h
  have e : am_P 68 pc = none := by
    show am_c68 pc = none
    unfold am_c68
    rw [Nat.ble_eq_true_of_le h0]
    rfl
  unfold am_okP
  rw [e]
theorem am_a69 (pc : Nat) : am_okP 69 pc = true := by
  rcases Nat.lt_or_ge pc 41 with h | h0
  · exact am_rg am_a69_0 (Nat.zero_le _) h
  rcases Nat.lt_or_ge pc 95 with h | h1
  · exact am_rg am_a69_1 (h0) h
  rcases Nat.lt_or_ge pc 122 with h | h2
  · exact am_rg am_a69_2 (h1) h
  have e : am_P 69 pc = none := by
    show am_c69 pc = none
    unfold am_c69
    rw [Nat.ble_eq_true_of_le h2]
    rfl
  unfold am_okP
  rw [e]
theorem am_a70 (pc : Nat) : am_okP 70 pc = true := by
  rcases Nat.lt_or_ge pc 38 with h | h0
  · exact am_rg am_a70_0 (Nat.zero_le _) h
  rcases Nat.lt_or_ge pc 80 with h | h1
  · exact am_rg am_a70_1 (h0) h
  rcases Nat.lt_or_ge pc 126 with h | h2
  · exact am_rg am_a70_2 (h1) h
  rcases Nat.lt_or_ge pc 168 with h | h3
  · exact am_rg am_a70_3 (h2) h
  rcases Nat.lt_or_ge pc 170 with h | h4
  · exact am_rg am_a70_4 (h3) h
  have e : am_P 70 pc = none := by
    show am_c70 pc = none
    unfold am_c70
    rw [Nat.ble_eq_true_of_le h4]
    rfl
  unfold am_okP
  rw [e]
theorem am_a71 (pc : Nat) : am_okP 71 pc = true := by
  rcases Nat.lt_or_ge pc 45 with h | h0
  · exact am_rg am_a71_0 (Nat.zero_le _) h
  have e : am_P 71 pc = none := by
    show am_c71 pc = none
    unfold am_c71
    rw [Nat.ble_eq_true_of_le h0]
    rfl
  unfold am_okP
  rw [e]
theorem am_a72 (pc : Nat) : am_okP 72 pc = true := by
  rcases Nat.lt_or_ge pc 45 with h | h0
  · exact am_rg am_a72_0 (Nat.zero_le _) h
  have e : am_P 72 pc = none := by
    show am_c72 pc = none
    unfold am_c72
    rw [Nat.ble_eq_true_of_le h0]
    rfl
  unfold am_okP
  rw [e]
theorem am_a73 (pc : Nat) : am_okP 73 pc = true := by
  rcases Nat.lt_or_ge pc 46 with h | h0
  · exact am_rg am_a73_0 (Nat.zero_le _) h
  rcases Nat.lt_or_ge pc 93 with h | h1
  · exact am_rg am_a73_1 (h0) h
  rcases Nat.lt_or_ge pc 125 with h | h2
  · exact am_rg am_a73_2 (h1) h
  have e : am_P 73 pc = none := by
    show am_c73 pc = none
    unfold am_c73
    rw [Nat.ble_eq_true_of_le h2]
    rfl
  unfold am_okP
  rw [e]
theorem am_a74 (pc : Nat) : am_okP 74 pc = true := by
  rcases Nat.lt_or_ge pc 43 with h | h0
  · exact am_rg am_a74_0 (Nat.zero_le _) h
  rcases Nat.lt_or_ge pc 48 with h | h1
  · exact am_rg am_a74_1 (h0) h
  have e : am_P 74 pc = none := by
    show am_c74 pc = none
    unfold am_c74
    rw [Nat.ble_eq_true_of_le h1]
    rfl
  unfold am_okP
  rw [e]
theorem am_a75 (pc : Nat) : am_okP 75 pc = true := by
  rcases Nat.lt_or_ge pc 46 with h | h0
  · exact am_rg am_a75_0 (Nat.zero_le _) h
  rcases Nat.lt_or_ge pc 58 with h | h1
  · exact am_rg am_a75_1 (h0) h
  have e : am_P 75 pc = none := by
    show am_c75 pc = none
    unfold am_c75
    rw [Nat.ble_eq_true_of_le h1]
    rfl
  unfold am_okP
  rw [e]
theorem am_a76 (pc : Nat) : am_okP 76 pc = true := by
  rcases Nat.lt_or_ge pc 46 with h | h0
  · exact am_rg am_a76_0 (Nat.zero_le _) h
  rcases Nat.lt_or_ge pc 58 with h | h1
  · exact am_rg am_a76_1 (h0) h
  have e : am_P 76 pc = none := by
    show am_c76 pc = none
    unfold am_c76
    rw [Nat.ble_eq_true_of_le h1]
    rfl
  unfold am_okP
  rw [e]
theorem am_a77 (pc : Nat) : am_okP 77 pc = true := by
  rcases Nat.lt_or_ge pc 45 with h | h0
  · exact am_rg am_a77_0 (Nat.zero_le _) h
  rcases Nat.lt_or_ge pc 95 with h | h1
  · exact am_rg am_a77_1 (h0) h
  rcases Nat.lt_or_ge pc 140 with h | h2
  · exact am_rg am_a77_2 (h1) h
  rcases Nat.lt_or_ge pc 187 with h | h3
  · exact am_rg am_a77_3 (h2) h
  rcases Nat.lt_or_ge pc 229 with h | h4
  · exact am_rg am_a77_4 (h3) h
  rcases Nat.lt_or_ge pc 269 with h | h5
  · exact am_rg am_a77_5 (h4) h
  have e : am_P 77 pc = none := by
    show am_c77 pc = none
    unfold am_c77
    rw [Nat.ble_eq_true_of_le h5]
    rfl
  unfold am_okP
  rw [e]
theorem am_a78 (pc : Nat) : am_okP 78 pc = true := by
  rcases Nat.lt_or_ge pc 47 with h | h0
  · exact am_rg am_a78_0 (Nat.zero_le _) h
  rcases Nat.lt_or_ge pc 52 with h | h1
  · exact am_rg am_a78_1 (h0) h
  have e : am_P 78 pc = none := by
    show am_c78 pc = none
    unfold am_c78
    rw [Nat.ble_eq_true_of_le h1]
    rfl
  unfold am_okP
  rw [e]
theorem am_a79 (pc : Nat) : am_okP 79 pc = true := by
  rcases Nat.lt_or_ge pc 18 with h | h0
  · exact am_rg am_a79_0 (Nat.zero_le _) h
  have e : am_P 79 pc = none := by
    show am_c79 pc = none
    unfold am_c79
    rw [Nat.ble_eq_true_of_le h0]
    rfl
  unfold am_okP
  rw [e]
theorem am_a80 (pc : Nat) : am_okP 80 pc = true := by
  rcases Nat.lt_or_ge pc 24 with h | h0
  · exact am_rg am_a80_0 (Nat.zero_le _) h
  have e : am_P 80 pc = none := by
    show am_c80 pc = none
    unfold am_c80
    rw [Nat.ble_eq_true_of_le h0]
    rfl
  unfold am_okP
  rw [e]
theorem am_a81 (pc : Nat) : am_okP 81 pc = true := by
  rcases Nat.lt_or_ge pc 38 with h | h0
  · exact am_rg am_a81_0 (Nat.zero_le _) h
  have e : am_P 81 pc = none := by
    show am_c81 pc = none
    unfold am_c81
    rw [Nat.ble_eq_true_of_le h0]
    rfl
  unfold am_okP
  rw [e]
theorem am_a82 (pc : Nat) : am_okP 82 pc = true := by
  rcases Nat.lt_or_ge pc 21 with h | h0
  · exact am_rg am_a82_0 (Nat.zero_le _) h
  have e : am_P 82 pc = none := by
    show am_c82 pc = none
    unfold am_c82
    rw [Nat.ble_eq_true_of_le h0]
    rfl
  unfold am_okP
  rw [e]
theorem am_a83 (pc : Nat) : am_okP 83 pc = true := by
  rcases Nat.lt_or_ge pc 50 with h | h0
  · exact am_rg am_a83_0 (Nat.zero_le _) h
  rcases Nat.lt_or_ge pc 94 with h | h1
  · exact am_rg am_a83_1 (h0) h
  rcases Nat.lt_or_ge pc 98 with h | h2
  · exact am_rg am_a83_2 (h1) h
  have e : am_P 83 pc = none := by
    show am_c83 pc = none
    unfold am_c83
    rw [Nat.ble_eq_true_of_le h2]
    rfl
  unfold am_okP
  rw [e]
theorem am_a84 (pc : Nat) : am_okP 84 pc = true := by
  rcases Nat.lt_or_ge pc 46 with h | h0
  · exact am_rg am_a84_0 (Nat.zero_le _) h
  rcases Nat.lt_or_ge pc 90 with h | h1
  · exact am_rg am_a84_1 (h0) h
  rcases Nat.lt_or_ge pc 127 with h | h2
  · exact am_rg am_a84_2 (h1) h
  rcases Nat.lt_or_ge pc 149 with h | h3
  · exact am_rg am_a84_3 (h2) h
  have e : am_P 84 pc = none := by
    show am_c84 pc = none
    unfold am_c84
    rw [Nat.ble_eq_true_of_le h3]
    rfl
  unfold am_okP
  rw [e]
theorem am_a85 (pc : Nat) : am_okP 85 pc = true := by
  rcases Nat.lt_or_ge pc 40 with h | h0
  · exact am_rg am_a85_0 (Nat.zero_le _) h
  rcases Nat.lt_or_ge pc 48 with h | h1
  · exact am_rg am_a85_1 (h0) h
  have e : am_P 85 pc = none := by
    show am_c85 pc = none
    unfold am_c85
    rw [Nat.ble_eq_true_of_le h1]
    rfl
  unfold am_okP
  rw [e]
theorem am_a86 (pc : Nat) : am_okP 86 pc = true := by
  rcases Nat.lt_or_ge pc 43 with h | h0
  · exact am_rg am_a86_0 (Nat.zero_le _) h
  rcases Nat.lt_or_ge pc 64 with h | h1
  · exact am_rg am_a86_1 (h0) h
  have e : am_P 86 pc = none := by
    show am_c86 pc = none
    unfold am_c86
    rw [Nat.ble_eq_true_of_le h1]
    rfl
  unfold am_okP
  rw [e]
theorem am_a87 (pc : Nat) : am_okP 87 pc = true := by
  rcases Nat.lt_or_ge pc 40 with h | h0
  · exact am_rg am_a87_0 (Nat.zero_le _) h
  have e : am_P 87 pc = none := by
    show am_c87 pc = none
    unfold am_c87
    rw [Nat.ble_eq_true_of_le h0]
    rfl
  unfold am_okP
  rw [e]
theorem am_a88 (pc : Nat) : am_okP 88 pc = true := by
  rcases Nat.lt_or_ge pc 40 with h | h0
  · exact am_rg am_a88_0 (Nat.zero_le _) h
  have e : am_P 88 pc = none := by
    show am_c88 pc = none
    unfold am_c88
    rw [Nat.ble_eq_true_of_le h0]
    rfl
  unfold am_okP
  rw [e]
theorem am_a89 (pc : Nat) : am_okP 89 pc = true := by
  rcases Nat.lt_or_ge pc 169 with h | h0
  · exact am_rg am_a89_0 (Nat.zero_le _) h
  rcases Nat.lt_or_ge pc 197 with h | h1
  · exact am_rg am_a89_1 (h0) h
  have e : am_P 89 pc = none := by
    show am_c89 pc = none
    unfold am_c89
    rw [Nat.ble_eq_true_of_le h1]
    rfl
  unfold am_okP
  rw [e]
theorem am_a90 (pc : Nat) : am_okP 90 pc = true := by
  rcases Nat.lt_or_ge pc 129 with h | h0
  · exact am_rg am_a90_0 (Nat.zero_le _) h
  rcases Nat.lt_or_ge pc 159 with h | h1
  · exact am_rg am_a90_1 (h0) h
  have e : am_P 90 pc = none := by
    show am_c90 pc = none
    unfold am_c90
    rw [Nat.ble_eq_true_of_le h1]
    rfl
  unfold am_okP
  rw [e]
theorem am_a91 (pc : Nat) : am_okP 91 pc = true := by
  rcases Nat.lt_or_ge pc 45 with h | h0
  · exact am_rg am_a91_0 (Nat.zero_le _) h
  rcases Nat.lt_or_ge pc 49 with h | h1
  · exact am_rg am_a91_1 (h0) h
  have e : am_P 91 pc = none := by
    show am_c91 pc = none
    unfold am_c91
    rw [Nat.ble_eq_true_of_le h1]
    rfl
  unfold am_okP
  rw [e]
theorem am_a92 (pc : Nat) : am_okP 92 pc = true := by
  rcases Nat.lt_or_ge pc 24 with h | h0
  · exact am_rg am_a92_0 (Nat.zero_le _) h
  have e : am_P 92 pc = none := by
    show am_c92 pc = none
    unfold am_c92
    rw [Nat.ble_eq_true_of_le h0]
    rfl
  unfold am_okP
  rw [e]
theorem am_a93 (pc : Nat) : am_okP 93 pc = true := by
  rcases Nat.lt_or_ge pc 41 with h | h0
  · exact am_rg am_a93_0 (Nat.zero_le _) h
  have e : am_P 93 pc = none := by
    show am_c93 pc = none
    unfold am_c93
    rw [Nat.ble_eq_true_of_le h0]
    rfl
  unfold am_okP
  rw [e]
theorem am_a94 (pc : Nat) : am_okP 94 pc = true := by
  rcases Nat.lt_or_ge pc 42 with h | h0
  · exact am_rg am_a94_0 (Nat.zero_le _) h
  rcases Nat.lt_or_ge pc 89 with h | h1
  · exact am_rg am_a94_1 (h0) h
  rcases Nat.lt_or_ge pc 93 with h | h2
  · exact am_rg am_a94_2 (h1) h
  have e : am_P 94 pc = none := by
    show am_c94 pc = none
    unfold am_c94
    rw [Nat.ble_eq_true_of_le h2]
    rfl
  unfold am_okP
  rw [e]
theorem am_a95 (pc : Nat) : am_okP 95 pc = true := by
  rcases Nat.lt_or_ge pc 45 with h | h0
  · exact am_rg am_a95_0 (Nat.zero_le _) h
  rcases Nat.lt_or_ge pc 90 with h | h1
  · exact am_rg am_a95_1 (h0) h
  rcases Nat.lt_or_ge pc 137 with h | h2
  · exact am_rg am_a95_2 (h1) h
  rcases Nat.lt_or_ge pc 180 with h | h3
  · exact am_rg am_a95_3 (h2) h
  rcases Nat.lt_or_ge pc 212 with h | h4
  · exact am_rg am_a95_4 (h3) h
  have e : am_P 95 pc = none := by
    show am_c95 pc = none
    unfold am_c95
    rw [Nat.ble_eq_true_of_le h4]
    rfl
  unfold am_okP
  rw [e]
theorem am_a96 (pc : Nat) : am_okP 96 pc = true := by
  rcases Nat.lt_or_ge pc 40 with h | h0
  · exact am_rg am_a96_0 (Nat.zero_le _) h
  rcases Nat.lt_or_ge pc 50 with h | h1
  · exact am_rg am_a96_1 (h0) h
  have e : am_P 96 pc = none := by
    show am_c96 pc = none
    unfold am_c96
    rw [Nat.ble_eq_true_of_le h1]
    rfl
  unfold am_okP
  rw [e]
theorem am_a97 (pc : Nat) : am_okP 97 pc = true := by
  rcases Nat.lt_or_ge pc 21 with h | h0
  · exact am_rg am_a97_0 (Nat.zero_le _) h
  have e : am_P 97 pc = none := by
    show am_c97 pc = none
    unfold am_c97
    rw [Nat.ble_eq_true_of_le h0]
    rfl
  unfold am_okP
  rw [e]
theorem am_a98 (pc : Nat) : am_okP 98 pc = true := by
  rcases Nat.lt_or_ge pc 48 with h | h0
  · exact am_rg am_a98_0 (Nat.zero_le _) h
  rcases Nat.lt_or_ge pc 63 with h | h1
  · exact am_rg am_a98_1 (h0) h
  have e : am_P 98 pc = none := by
    show am_c98 pc = none
    unfold am_c98
    rw [Nat.ble_eq_true_of_le h1]
    rfl
  unfold am_okP
  rw [e]
theorem am_a99 (pc : Nat) : am_okP 99 pc = true := by
  rcases Nat.lt_or_ge pc 30 with h | h0
  · exact am_rg am_a99_0 (Nat.zero_le _) h
  have e : am_P 99 pc = none := by
    show am_c99 pc = none
    unfold am_c99
    rw [Nat.ble_eq_true_of_le h0]
    rfl
  unfold am_okP
  rw [e]
theorem am_a100 (pc : Nat) : am_okP 100 pc = true := by
  rcases Nat.lt_or_ge pc 22 with h | h0
  · exact am_rg am_a100_0 (Nat.zero_le _) h
  have e : am_P 100 pc = none := by
    show am_c100 pc = none
    unfold am_c100
    rw [Nat.ble_eq_true_of_le h0]
    rfl
  unfold am_okP
  rw [e]
theorem am_a101 (pc : Nat) : am_okP 101 pc = true := by
  rcases Nat.lt_or_ge pc 28 with h | h0
  · exact am_rg am_a101_0 (Nat.zero_le _) h
  have e : am_P 101 pc = none := by
    show am_c101 pc = none
    unfold am_c101
    rw [Nat.ble_eq_true_of_le h0]
    rfl
  unfold am_okP
  rw [e]
theorem am_a102 (pc : Nat) : am_okP 102 pc = true := by
  rcases Nat.lt_or_ge pc 39 with h | h0
  · exact am_rg am_a102_0 (Nat.zero_le _) h
  have e : am_P 102 pc = none := by
    show am_c102 pc = none
    unfold am_c102
    rw [Nat.ble_eq_true_of_le h0]
    rfl
  unfold am_okP
  rw [e]
theorem am_a103 (pc : Nat) : am_okP 103 pc = true := by
  rcases Nat.lt_or_ge pc 43 with h | h0
  · exact am_rg am_a103_0 (Nat.zero_le _) h
  rcases Nat.lt_or_ge pc 86 with h | h1
  · exact am_rg am_a103_1 (h0) h
  rcases Nat.lt_or_ge pc 129 with h | h2
  · exact am_rg am_a103_2 (h1) h
  rcases Nat.lt_or_ge pc 135 with h | h3
  · exact am_rg am_a103_3 (h2) h
  have e : am_P 103 pc = none := by
    show am_c103 pc = none
    unfold am_c103
    rw [Nat.ble_eq_true_of_le h3]
    rfl
  unfold am_okP
  rw [e]
theorem am_a104 (pc : Nat) : am_okP 104 pc = true := by
  rcases Nat.lt_or_ge pc 35 with h | h0
  · exact am_rg am_a104_0 (Nat.zero_le _) h
  have e : am_P 104 pc = none := by
    show am_c104 pc = none
    unfold am_c104
    rw [Nat.ble_eq_true_of_le h0]
    rfl
  unfold am_okP
  rw [e]
theorem am_a105 (pc : Nat) : am_okP 105 pc = true := by
  rcases Nat.lt_or_ge pc 31 with h | h0
  · exact am_rg am_a105_0 (Nat.zero_le _) h
  have e : am_P 105 pc = none := by
    show am_c105 pc = none
    unfold am_c105
    rw [Nat.ble_eq_true_of_le h0]
    rfl
  unfold am_okP
  rw [e]
theorem am_a106 (pc : Nat) : am_okP 106 pc = true := by
  rcases Nat.lt_or_ge pc 38 with h | h0
  · exact am_rg am_a106_0 (Nat.zero_le _) h
  rcases Nat.lt_or_ge pc 56 with h | h1
  · exact am_rg am_a106_1 (h0) h
  have e : am_P 106 pc = none := by
    show am_c106 pc = none
    unfold am_c106
    rw [Nat.ble_eq_true_of_le h1]
    rfl
  unfold am_okP
  rw [e]
theorem am_a107 (pc : Nat) : am_okP 107 pc = true := by
  rcases Nat.lt_or_ge pc 18 with h | h0
  · exact am_rg am_a107_0 (Nat.zero_le _) h
  have e : am_P 107 pc = none := by
    show am_c107 pc = none
    unfold am_c107
    rw [Nat.ble_eq_true_of_le h0]
    rfl
  unfold am_okP
  rw [e]
theorem am_a108 (pc : Nat) : am_okP 108 pc = true := by
  rcases Nat.lt_or_ge pc 49 with h | h0
  · exact am_rg am_a108_0 (Nat.zero_le _) h
  rcases Nat.lt_or_ge pc 99 with h | h1
  · exact am_rg am_a108_1 (h0) h
  rcases Nat.lt_or_ge pc 151 with h | h2
  · exact am_rg am_a108_2 (h1) h
  rcases Nat.lt_or_ge pc 158 with h | h3
  · exact am_rg am_a108_3 (h2) h
  have e : am_P 108 pc = none := by
    show am_c108 pc = none
    unfold am_c108
    rw [Nat.ble_eq_true_of_le h3]
    rfl
  unfold am_okP
  rw [e]
theorem am_a109 (pc : Nat) : am_okP 109 pc = true := by
  rcases Nat.lt_or_ge pc 49 with h | h0
  · exact am_rg am_a109_0 (Nat.zero_le _) h
  rcases Nat.lt_or_ge pc 62 with h | h1
  · exact am_rg am_a109_1 (h0) h
  have e : am_P 109 pc = none := by
    show am_c109 pc = none
    unfold am_c109
    rw [Nat.ble_eq_true_of_le h1]
    rfl
  unfold am_okP
  rw [e]
theorem am_a110 (pc : Nat) : am_okP 110 pc = true := by
  rcases Nat.lt_or_ge pc 9 with h | h0
  · exact am_rg am_a110_0 (Nat.zero_le _) h
  have e : am_P 110 pc = none := by
    show am_c110 pc = none
    unfold am_c110
    rw [Nat.ble_eq_true_of_le h0]
    rfl
  unfold am_okP
  rw [e]
theorem am_a111 (pc : Nat) : am_okP 111 pc = true := by
  rcases Nat.lt_or_ge pc 32 with h | h0
  · exact am_rg am_a111_0 (Nat.zero_le _) h
  have e : am_P 111 pc = none := by
    show am_c111 pc = none
    unfold am_c111
    rw [Nat.ble_eq_true_of_le h0]
    rfl
  unfold am_okP
  rw [e]
theorem am_a112 (pc : Nat) : am_okP 112 pc = true := by
  rcases Nat.lt_or_ge pc 49 with h | h0
  · exact am_rg am_a112_0 (Nat.zero_le _) h
  rcases Nat.lt_or_ge pc 70 with h | h1
  · exact am_rg am_a112_1 (h0) h
  have e : am_P 112 pc = none := by
    show am_c112 pc = none
    unfold am_c112
    rw [Nat.ble_eq_true_of_le h1]
    rfl
  unfold am_okP
  rw [e]
theorem am_a113 (pc : Nat) : am_okP 113 pc = true := by
  rcases Nat.lt_or_ge pc 44 with h | h0
  · exact am_rg am_a113_0 (Nat.zero_le _) h
  rcases Nat.lt_or_ge pc 45 with h | h1
  · exact am_rg am_a113_1 (h0) h
  have e : am_P 113 pc = none := by
    show am_c113 pc = none
    unfold am_c113
    rw [Nat.ble_eq_true_of_le h1]
    rfl
  unfold am_okP
  rw [e]
theorem am_a114 (pc : Nat) : am_okP 114 pc = true := by
  rcases Nat.lt_or_ge pc 40 with h | h0
  · exact am_rg am_a114_0 (Nat.zero_le _) h
  have e : am_P 114 pc = none := by
    show am_c114 pc = none
    unfold am_c114
    rw [Nat.ble_eq_true_of_le h0]
    rfl
  unfold am_okP
  rw [e]
theorem am_a115 (pc : Nat) : am_okP 115 pc = true := by
  rcases Nat.lt_or_ge pc 34 with h | h0
  · exact am_rg am_a115_0 (Nat.zero_le _) h
  have e : am_P 115 pc = none := by
    show am_c115 pc = none
    unfold am_c115
    rw [Nat.ble_eq_true_of_le h0]
    rfl
  unfold am_okP
  rw [e]
theorem am_a116 (pc : Nat) : am_okP 116 pc = true := by
  rcases Nat.lt_or_ge pc 51 with h | h0
  · exact am_rg am_a116_0 (Nat.zero_le _) h
  rcases Nat.lt_or_ge pc 64 with h | h1
  · exact am_rg am_a116_1 (h0) h
  have e : am_P 116 pc = none := by
    show am_c116 pc = none
    unfold am_c116
    rw [Nat.ble_eq_true_of_le h1]
    rfl
  unfold am_okP
  rw [e]
theorem am_a117 (pc : Nat) : am_okP 117 pc = true := by
  rcases Nat.lt_or_ge pc 47 with h | h0
  · exact am_rg am_a117_0 (Nat.zero_le _) h
  rcases Nat.lt_or_ge pc 60 with h | h1
  · exact am_rg am_a117_1 (h0) h
  have e : am_P 117 pc = none := by
    show am_c117 pc = none
    unfold am_c117
    rw [Nat.ble_eq_true_of_le h1]
    rfl
  unfold am_okP
  rw [e]
theorem am_a118 (pc : Nat) : am_okP 118 pc = true := by
  rcases Nat.lt_or_ge pc 42 with h | h0
  · exact am_rg am_a118_0 (Nat.zero_le _) h
  rcases Nat.lt_or_ge pc 50 with h | h1
  · exact am_rg am_a118_1 (h0) h
  have e : am_P 118 pc = none := by
    show am_c118 pc = none
    unfold am_c118
    rw [Nat.ble_eq_true_of_le h1]
    rfl
  unfold am_okP
  rw [e]
theorem am_a119 (pc : Nat) : am_okP 119 pc = true := by
  rcases Nat.lt_or_ge pc 38 with h | h0
  · exact am_rg am_a119_0 (Nat.zero_le _) h
  have e : am_P 119 pc = none := by
    show am_c119 pc = none
    unfold am_c119
    rw [Nat.ble_eq_true_of_le h0]
    rfl
  unfold am_okP
  rw [e]
theorem am_a120 (pc : Nat) : am_okP 120 pc = true := by
  rcases Nat.lt_or_ge pc 44 with h | h0
  · exact am_rg am_a120_0 (Nat.zero_le _) h
  rcases Nat.lt_or_ge pc 52 with h | h1
  · exact am_rg am_a120_1 (h0) h
  have e : am_P 120 pc = none := by
    show am_c120 pc = none
    unfold am_c120
    rw [Nat.ble_eq_true_of_le h1]
    rfl
  unfold am_okP
  rw [e]
theorem am_a121 (pc : Nat) : am_okP 121 pc = true := by
  rcases Nat.lt_or_ge pc 51 with h | h0
  · exact am_rg am_a121_0 (Nat.zero_le _) h
  rcases Nat.lt_or_ge pc 65 with h | h1
  · exact am_rg am_a121_1 (h0) h
  have e : am_P 121 pc = none := by
    show am_c121 pc = none
    unfold am_c121
    rw [Nat.ble_eq_true_of_le h1]
    rfl
  unfold am_okP
  rw [e]
theorem am_a122 (pc : Nat) : am_okP 122 pc = true := by
  rcases Nat.lt_or_ge pc 29 with h | h0
  · exact am_rg am_a122_0 (Nat.zero_le _) h
  have e : am_P 122 pc = none := by
    show am_c122 pc = none
    unfold am_c122
    rw [Nat.ble_eq_true_of_le h0]
    rfl
  unfold am_okP
  rw [e]
theorem am_a123 (pc : Nat) : am_okP 123 pc = true := by
  rcases Nat.lt_or_ge pc 9 with h | h0
  · exact am_rg am_a123_0 (Nat.zero_le _) h
  have e : am_P 123 pc = none := by
    show am_c123 pc = none
    unfold am_c123
    rw [Nat.ble_eq_true_of_le h0]
    rfl
  unfold am_okP
  rw [e]
theorem am_a124 (pc : Nat) : am_okP 124 pc = true := by
  rcases Nat.lt_or_ge pc 9 with h | h0
  · exact am_rg am_a124_0 (Nat.zero_le _) h
  have e : am_P 124 pc = none := by
    show am_c124 pc = none
    unfold am_c124
    rw [Nat.ble_eq_true_of_le h0]
    rfl
  unfold am_okP
  rw [e]
theorem am_a125 (pc : Nat) : am_okP 125 pc = true := by
  rcases Nat.lt_or_ge pc 32 with h | h0
  · exact am_rg am_a125_0 (Nat.zero_le _) h
  have e : am_P 125 pc = none := by
    show am_c125 pc = none
    unfold am_c125
    rw [Nat.ble_eq_true_of_le h0]
    rfl
  unfold am_okP
  rw [e]
theorem am_a126 (pc : Nat) : am_okP 126 pc = true := by
  rcases Nat.lt_or_ge pc 41 with h | h0
  · exact am_rg am_a126_0 (Nat.zero_le _) h
  have e : am_P 126 pc = none := by
    show am_c126 pc = none
    unfold am_c126
    rw [Nat.ble_eq_true_of_le h0]
    rfl
  unfold am_okP
  rw [e]
theorem am_a127 (pc : Nat) : am_okP 127 pc = true := by
  rcases Nat.lt_or_ge pc 46 with h | h0
  · exact am_rg am_a127_0 (Nat.zero_le _) h
  rcases Nat.lt_or_ge pc 58 with h | h1
  · exact am_rg am_a127_1 (h0) h
  have e : am_P 127 pc = none := by
    show am_c127 pc = none
    unfold am_c127
    rw [Nat.ble_eq_true_of_le h1]
    rfl
  unfold am_okP
  rw [e]
theorem am_a128 (pc : Nat) : am_okP 128 pc = true := by
  rcases Nat.lt_or_ge pc 39 with h | h0
  · exact am_rg am_a128_0 (Nat.zero_le _) h
  have e : am_P 128 pc = none := by
    show am_c128 pc = none
    unfold am_c128
    rw [Nat.ble_eq_true_of_le h0]
    rfl
  unfold am_okP
  rw [e]
theorem am_a129 (pc : Nat) : am_okP 129 pc = true := by
  rcases Nat.lt_or_ge pc 20 with h | h0
  · exact am_rg am_a129_0 (Nat.zero_le _) h
  have e : am_P 129 pc = none := by
    show am_c129 pc = none
    unfold am_c129
    rw [Nat.ble_eq_true_of_le h0]
    rfl
  unfold am_okP
  rw [e]
theorem am_a130 (pc : Nat) : am_okP 130 pc = true := by
  rcases Nat.lt_or_ge pc 46 with h | h0
  · exact am_rg am_a130_0 (Nat.zero_le _) h
  rcases Nat.lt_or_ge pc 52 with h | h1
  · exact am_rg am_a130_1 (h0) h
  have e : am_P 130 pc = none := by
    show am_c130 pc = none
    unfold am_c130
    rw [Nat.ble_eq_true_of_le h1]
    rfl
  unfold am_okP
  rw [e]
theorem am_a131 (pc : Nat) : am_okP 131 pc = true := by
  rcases Nat.lt_or_ge pc 25 with h | h0
  · exact am_rg am_a131_0 (Nat.zero_le _) h
  have e : am_P 131 pc = none := by
    show am_c131 pc = none
    unfold am_c131
    rw [Nat.ble_eq_true_of_le h0]
    rfl
  unfold am_okP
  rw [e]
theorem am_a132 (pc : Nat) : am_okP 132 pc = true := by
  rcases Nat.lt_or_ge pc 26 with h | h0
  · exact am_rg am_a132_0 (Nat.zero_le _) h
  have e : am_P 132 pc = none := by
    show am_c132 pc = none
    unfold am_c132
    rw [Nat.ble_eq_true_of_le h0]
    rfl
  unfold am_okP
  rw [e]
theorem am_a133 (pc : Nat) : am_okP 133 pc = true := by
  rcases Nat.lt_or_ge pc 42 with h | h0
  · exact am_rg am_a133_0 (Nat.zero_le _) h
  have e : am_P 133 pc = none := by
    show am_c133 pc = none
    unfold am_c133
    rw [Nat.ble_eq_true_of_le h0]
    rfl
  unfold am_okP
  rw [e]
theorem am_a134 (pc : Nat) : am_okP 134 pc = true := by
  rcases Nat.lt_or_ge pc 38 with h | h0
  · exact am_rg am_a134_0 (Nat.zero_le _) h
  have e : am_P 134 pc = none := by
    show am_c134 pc = none
    unfold am_c134
    rw [Nat.ble_eq_true_of_le h0]
    rfl
  unfold am_okP
  rw [e]
theorem am_a135 (pc : Nat) : am_okP 135 pc = true := by
  rcases Nat.lt_or_ge pc 35 with h | h0
  · exact am_rg am_a135_0 (Nat.zero_le _) h
  have e : am_P 135 pc = none := by
    show am_c135 pc = none
    unfold am_c135
    rw [Nat.ble_eq_true_of_le h0]
    rfl
  unfold am_okP
  rw [e]
theorem am_a136 (pc : Nat) : am_okP 136 pc = true := by
  rcases Nat.lt_or_ge pc 44 with h | h0
  · exact am_rg am_a136_0 (Nat.zero_le _) h
  rcases Nat.lt_or_ge pc 45 with h | h1
  · exact am_rg am_a136_1 (h0) h
  have e : am_P 136 pc = none := by
    show am_c136 pc = none
    unfold am_c136
    rw [Nat.ble_eq_true_of_le h1]
    rfl
  unfold am_okP
  rw [e]
theorem am_a137 (pc : Nat) : am_okP 137 pc = true := by
  rcases Nat.lt_or_ge pc 47 with h | h0
  · exact am_rg am_a137_0 (Nat.zero_le _) h
  rcases Nat.lt_or_ge pc 64 with h | h1
  · exact am_rg am_a137_1 (h0) h
  have e : am_P 137 pc = none := by
    show am_c137 pc = none
    unfold am_c137
    rw [Nat.ble_eq_true_of_le h1]
    rfl
  unfold am_okP
  rw [e]
theorem am_a138 (pc : Nat) : am_okP 138 pc = true := by
  rcases Nat.lt_or_ge pc 9 with h | h0
  · exact am_rg am_a138_0 (Nat.zero_le _) h
  have e : am_P 138 pc = none := by
    show am_c138 pc = none
    unfold am_c138
    rw [Nat.ble_eq_true_of_le h0]
    rfl
  unfold am_okP
  rw [e]
theorem am_a139 (pc : Nat) : am_okP 139 pc = true := by
  rcases Nat.lt_or_ge pc 44 with h | h0
  · exact am_rg am_a139_0 (Nat.zero_le _) h
  have e : am_P 139 pc = none := by
    show am_c139 pc = none
    unfold am_c139
    rw [Nat.ble_eq_true_of_le h0]
    rfl
  unfold am_okP
  rw [e]
theorem am_a140 (pc : Nat) : am_okP 140 pc = true := by
  rcases Nat.lt_or_ge pc 46 with h | h0
  · exact am_rg am_a140_0 (Nat.zero_le _) h
  rcases Nat.lt_or_ge pc 90 with h | h1
  · exact am_rg am_a140_1 (h0) h
  rcases Nat.lt_or_ge pc 98 with h | h2
  · exact am_rg am_a140_2 (h1) h
  have e : am_P 140 pc = none := by
    show am_c140 pc = none
    unfold am_c140
    rw [Nat.ble_eq_true_of_le h2]
    rfl
  unfold am_okP
  rw [e]
theorem am_a141 (pc : Nat) : am_okP 141 pc = true := by
  rcases Nat.lt_or_ge pc 45 with h | h0
  · exact am_rg am_a141_0 (Nat.zero_le _) h
  have e : am_P 141 pc = none := by
    show am_c141 pc = none
    unfold am_c141
    rw [Nat.ble_eq_true_of_le h0]
    rfl
  unfold am_okP
  rw [e]
theorem am_a142 (pc : Nat) : am_okP 142 pc = true := by
  rcases Nat.lt_or_ge pc 8 with h | h0
  · exact am_rg am_a142_0 (Nat.zero_le _) h
  have e : am_P 142 pc = none := by
    show am_c142 pc = none
    unfold am_c142
    rw [Nat.ble_eq_true_of_le h0]
    rfl
  unfold am_okP
  rw [e]
theorem am_a143 (pc : Nat) : am_okP 143 pc = true := by
  rcases Nat.lt_or_ge pc 33 with h | h0
  · exact am_rg am_a143_0 (Nat.zero_le _) h
  have e : am_P 143 pc = none := by
    show am_c143 pc = none
    unfold am_c143
    rw [Nat.ble_eq_true_of_le h0]
    rfl
  unfold am_okP
  rw [e]
theorem am_a144 (pc : Nat) : am_okP 144 pc = true := by
  rcases Nat.lt_or_ge pc 32 with h | h0
  · exact am_rg am_a144_0 (Nat.zero_le _) h
  have e : am_P 144 pc = none := by
    show am_c144 pc = none
    unfold am_c144
    rw [Nat.ble_eq_true_of_le h0]
    rfl
  unfold am_okP
  rw [e]
theorem am_a145 (pc : Nat) : am_okP 145 pc = true := by
  rcases Nat.lt_or_ge pc 76 with h | h0
  · exact am_rg am_a145_0 (Nat.zero_le _) h
  rcases Nat.lt_or_ge pc 82 with h | h1
  · exact am_rg am_a145_1 (h0) h
  have e : am_P 145 pc = none := by
    show am_c145 pc = none
    unfold am_c145
    rw [Nat.ble_eq_true_of_le h1]
    rfl
  unfold am_okP
  rw [e]
theorem am_a146 (pc : Nat) : am_okP 146 pc = true := by
  rcases Nat.lt_or_ge pc 19 with h | h0
  · exact am_rg am_a146_0 (Nat.zero_le _) h
  have e : am_P 146 pc = none := by
    show am_c146 pc = none
    unfold am_c146
    rw [Nat.ble_eq_true_of_le h0]
    rfl
  unfold am_okP
  rw [e]
theorem am_a147 (pc : Nat) : am_okP 147 pc = true := by
  rcases Nat.lt_or_ge pc 17 with h | h0
  · exact am_rg am_a147_0 (Nat.zero_le _) h
  have e : am_P 147 pc = none := by
    show am_c147 pc = none
    unfold am_c147
    rw [Nat.ble_eq_true_of_le h0]
    rfl
  unfold am_okP
  rw [e]
theorem am_a148 (pc : Nat) : am_okP 148 pc = true := by
  rcases Nat.lt_or_ge pc 22 with h | h0
  · exact am_rg am_a148_0 (Nat.zero_le _) h
  have e : am_P 148 pc = none := by
    show am_c148 pc = none
    unfold am_c148
    rw [Nat.ble_eq_true_of_le h0]
    rfl
  unfold am_okP
  rw [e]
theorem am_a149 (pc : Nat) : am_okP 149 pc = true := by
  rcases Nat.lt_or_ge pc 16 with h | h0
  · exact am_rg am_a149_0 (Nat.zero_le _) h
  have e : am_P 149 pc = none := by
    show am_c149 pc = none
    unfold am_c149
    rw [Nat.ble_eq_true_of_le h0]
    rfl
  unfold am_okP
  rw [e]
theorem am_a150 (pc : Nat) : am_okP 150 pc = true := by
  rcases Nat.lt_or_ge pc 16 with h | h0
  · exact am_rg am_a150_0 (Nat.zero_le _) h
  have e : am_P 150 pc = none := by
    show am_c150 pc = none
    unfold am_c150
    rw [Nat.ble_eq_true_of_le h0]
    rfl
  unfold am_okP
  rw [e]
theorem am_a151 (pc : Nat) : am_okP 151 pc = true := by
  rcases Nat.lt_or_ge pc 15 with h | h0
  · exact am_rg am_a151_0 (Nat.zero_le _) h
  have e : am_P 151 pc = none := by
    show am_c151 pc = none
    unfold am_c151
    rw [Nat.ble_eq_true_of_le h0]
    rfl
  unfold am_okP
  rw [e]
theorem am_a152 (pc : Nat) : am_okP 152 pc = true := by
  rcases Nat.lt_or_ge pc 7 with h | h0
  · exact am_rg am_a152_0 (Nat.zero_le _) h
  have e : am_P 152 pc = none := by
    show am_c152 pc = none
    unfold am_c152
    rw [Nat.ble_eq_true_of_le h0]
    rfl
  unfold am_okP
  rw [e]
theorem am_a153 (pc : Nat) : am_okP 153 pc = true := by
  rcases Nat.lt_or_ge pc 25 with h | h0
  · exact am_rg am_a153_0 (Nat.zero_le _) h
  have e : am_P 153 pc = none := by
    show am_c153 pc = none
    unfold am_c153
    rw [Nat.ble_eq_true_of_le h0]
    rfl
  unfold am_okP
  rw [e]
theorem am_a154 (pc : Nat) : am_okP 154 pc = true := by
  rcases Nat.lt_or_ge pc 43 with h | h0
  · exact am_rg am_a154_0 (Nat.zero_le _) h
  rcases Nat.lt_or_ge pc 83 with h | h1
  · exact am_rg am_a154_1 (h0) h
  rcases Nat.lt_or_ge pc 136 with h | h2
  · exact am_rg am_a154_2 (h1) h
  rcases Nat.lt_or_ge pc 182 with h | h3
  · exact am_rg am_a154_3 (h2) h
  rcases Nat.lt_or_ge pc 227 with h | h4
  · exact am_rg am_a154_4 (h3) h
  rcases Nat.lt_or_ge pc 277 with h | h5
  · exact am_rg am_a154_5 (h4) h
  rcases Nat.lt_or_ge pc 322 with h | h6
  · exact am_rg am_a154_6 (h5) h
  rcases Nat.lt_or_ge pc 376 with h | h7
  · exact am_rg am_a154_7 (h6) h
  rcases Nat.lt_or_ge pc 426 with h | h8
  · exact am_rg am_a154_8 (h7) h
  rcases Nat.lt_or_ge pc 475 with h | h9
  · exact am_rg am_a154_9 (h8) h
  rcases Nat.lt_or_ge pc 518 with h | h10
  · exact am_rg am_a154_10 (h9) h
  rcases Nat.lt_or_ge pc 563 with h | h11
  · exact am_rg am_a154_11 (h10) h
  rcases Nat.lt_or_ge pc 604 with h | h12
  · exact am_rg am_a154_12 (h11) h
  rcases Nat.lt_or_ge pc 616 with h | h13
  · exact am_rg am_a154_13 (h12) h
  have e : am_P 154 pc = none := by
    show am_c154 pc = none
    unfold am_c154
    rw [Nat.ble_eq_true_of_le h13]
    rfl
  unfold am_okP
  rw [e]
theorem am_a155 (pc : Nat) : am_okP 155 pc = true := by
  rcases Nat.lt_or_ge pc 16 with h | h0
  · exact am_rg am_a155_0 (Nat.zero_le _) h
  have e : am_P 155 pc = none := by
    show am_c155 pc = none
    unfold am_c155
    rw [Nat.ble_eq_true_of_le h0]
    rfl
  unfold am_okP
  rw [e]
theorem am_a156 (pc : Nat) : am_okP 156 pc = true := by
  rcases Nat.lt_or_ge pc 40 with h | h0
  · exact am_rg am_a156_0 (Nat.zero_le _) h
  have e : am_P 156 pc = none := by
    show am_c156 pc = none
    unfold am_c156
    rw [Nat.ble_eq_true_of_le h0]
    rfl
  unfold am_okP
  rw [e]
theorem am_a157 (pc : Nat) : am_okP 157 pc = true := by
  rcases Nat.lt_or_ge pc 43 with h | h0
  · exact am_rg am_a157_0 (Nat.zero_le _) h
  rcases Nat.lt_or_ge pc 47 with h | h1
  · exact am_rg am_a157_1 (h0) h
  have e : am_P 157 pc = none := by
    show am_c157 pc = none
    unfold am_c157
    rw [Nat.ble_eq_true_of_le h1]
    rfl
  unfold am_okP
  rw [e]
theorem am_a158 (pc : Nat) : am_okP 158 pc = true := by
  rcases Nat.lt_or_ge pc 21 with h | h0
  · exact am_rg am_a158_0 (Nat.zero_le _) h
  have e : am_P 158 pc = none := by
    show am_c158 pc = none
    unfold am_c158
    rw [Nat.ble_eq_true_of_le h0]
    rfl
  unfold am_okP
  rw [e]
theorem am_a159 (pc : Nat) : am_okP 159 pc = true := by
  rcases Nat.lt_or_ge pc 19 with h | h0
  · exact am_rg am_a159_0 (Nat.zero_le _) h
  have e : am_P 159 pc = none := by
    show am_c159 pc = none
    unfold am_c159
    rw [Nat.ble_eq_true_of_le h0]
    rfl
  unfold am_okP
  rw [e]
theorem am_a160 (pc : Nat) : am_okP 160 pc = true := by
  rcases Nat.lt_or_ge pc 18 with h | h0
  · exact am_rg am_a160_0 (Nat.zero_le _) h
  have e : am_P 160 pc = none := by
    show am_c160 pc = none
    unfold am_c160
    rw [Nat.ble_eq_true_of_le h0]
    rfl
  unfold am_okP
  rw [e]
theorem am_a161 (pc : Nat) : am_okP 161 pc = true := by
  rcases Nat.lt_or_ge pc 18 with h | h0
  · exact am_rg am_a161_0 (Nat.zero_le _) h
  have e : am_P 161 pc = none := by
    show am_c161 pc = none
    unfold am_c161
    rw [Nat.ble_eq_true_of_le h0]
    rfl
  unfold am_okP
  rw [e]
theorem am_a162 (pc : Nat) : am_okP 162 pc = true := by
  rcases Nat.lt_or_ge pc 46 with h | h0
  · exact am_rg am_a162_0 (Nat.zero_le _) h
  rcases Nat.lt_or_ge pc 86 with h | h1
  · exact am_rg am_a162_1 (h0) h
  rcases Nat.lt_or_ge pc 130 with h | h2
  · exact am_rg am_a162_2 (h1) h
  rcases Nat.lt_or_ge pc 168 with h | h3
  · exact am_rg am_a162_3 (h2) h
  rcases Nat.lt_or_ge pc 214 with h | h4
  · exact am_rg am_a162_4 (h3) h
  rcases Nat.lt_or_ge pc 264 with h | h5
  · exact am_rg am_a162_5 (h4) h
  rcases Nat.lt_or_ge pc 306 with h | h6
  · exact am_rg am_a162_6 (h5) h
  rcases Nat.lt_or_ge pc 351 with h | h7
  · exact am_rg am_a162_7 (h6) h
  rcases Nat.lt_or_ge pc 358 with h | h8
  · exact am_rg am_a162_8 (h7) h
  have e : am_P 162 pc = none := by
    show am_c162 pc = none
    unfold am_c162
    rw [Nat.ble_eq_true_of_le h8]
    rfl
  unfold am_okP
  rw [e]
theorem am_a163 (pc : Nat) : am_okP 163 pc = true := by
  rcases Nat.lt_or_ge pc 22 with h | h0
  · exact am_rg am_a163_0 (Nat.zero_le _) h
  have e : am_P 163 pc = none := by
    show am_c163 pc = none
    unfold am_c163
    rw [Nat.ble_eq_true_of_le h0]
    rfl
  unfold am_okP
  rw [e]
theorem am_a164 (pc : Nat) : am_okP 164 pc = true := by
  rcases Nat.lt_or_ge pc 23 with h | h0
  · exact am_rg am_a164_0 (Nat.zero_le _) h
  have e : am_P 164 pc = none := by
    show am_c164 pc = none
    unfold am_c164
    rw [Nat.ble_eq_true_of_le h0]
    rfl
  unfold am_okP
  rw [e]
theorem am_a165 (pc : Nat) : am_okP 165 pc = true := by
  rcases Nat.lt_or_ge pc 29 with h | h0
  · exact am_rg am_a165_0 (Nat.zero_le _) h
  have e : am_P 165 pc = none := by
    show am_c165 pc = none
    unfold am_c165
    rw [Nat.ble_eq_true_of_le h0]
    rfl
  unfold am_okP
  rw [e]
theorem am_a166 (pc : Nat) : am_okP 166 pc = true := by
  rcases Nat.lt_or_ge pc 35 with h | h0
  · exact am_rg am_a166_0 (Nat.zero_le _) h
  have e : am_P 166 pc = none := by
    show am_c166 pc = none
    unfold am_c166
    rw [Nat.ble_eq_true_of_le h0]
    rfl
  unfold am_okP
  rw [e]
theorem am_a167 (pc : Nat) : am_okP 167 pc = true := by
  rcases Nat.lt_or_ge pc 48 with h | h0
  · exact am_rg am_a167_0 (Nat.zero_le _) h
  rcases Nat.lt_or_ge pc 88 with h | h1
  · exact am_rg am_a167_1 (h0) h
  have e : am_P 167 pc = none := by
    show am_c167 pc = none
    unfold am_c167
    rw [Nat.ble_eq_true_of_le h1]
    rfl
  unfold am_okP
  rw [e]
theorem am_a168 (pc : Nat) : am_okP 168 pc = true := by
  rcases Nat.lt_or_ge pc 48 with h | h0
  · exact am_rg am_a168_0 (Nat.zero_le _) h
  rcases Nat.lt_or_ge pc 71 with h | h1
  · exact am_rg am_a168_1 (h0) h
  have e : am_P 168 pc = none := by
    show am_c168 pc = none
    unfold am_c168
    rw [Nat.ble_eq_true_of_le h1]
    rfl
  unfold am_okP
  rw [e]
theorem am_a169 (pc : Nat) : am_okP 169 pc = true := by
  rcases Nat.lt_or_ge pc 42 with h | h0
  · exact am_rg am_a169_0 (Nat.zero_le _) h
  rcases Nat.lt_or_ge pc 64 with h | h1
  · exact am_rg am_a169_1 (h0) h
  have e : am_P 169 pc = none := by
    show am_c169 pc = none
    unfold am_c169
    rw [Nat.ble_eq_true_of_le h1]
    rfl
  unfold am_okP
  rw [e]
theorem am_a170 (pc : Nat) : am_okP 170 pc = true := by
  rcases Nat.lt_or_ge pc 21 with h | h0
  · exact am_rg am_a170_0 (Nat.zero_le _) h
  have e : am_P 170 pc = none := by
    show am_c170 pc = none
    unfold am_c170
    rw [Nat.ble_eq_true_of_le h0]
    rfl
  unfold am_okP
  rw [e]
theorem am_a171 (pc : Nat) : am_okP 171 pc = true := by
  rcases Nat.lt_or_ge pc 42 with h | h0
  · exact am_rg am_a171_0 (Nat.zero_le _) h
  rcases Nat.lt_or_ge pc 54 with h | h1
  · exact am_rg am_a171_1 (h0) h
  have e : am_P 171 pc = none := by
    show am_c171 pc = none
    unfold am_c171
    rw [Nat.ble_eq_true_of_le h1]
    rfl
  unfold am_okP
  rw [e]
theorem am_a172 (pc : Nat) : am_okP 172 pc = true := by
  rcases Nat.lt_or_ge pc 45 with h | h0
  · exact am_rg am_a172_0 (Nat.zero_le _) h
  rcases Nat.lt_or_ge pc 46 with h | h1
  · exact am_rg am_a172_1 (h0) h
  have e : am_P 172 pc = none := by
    show am_c172 pc = none
    unfold am_c172
    rw [Nat.ble_eq_true_of_le h1]
    rfl
  unfold am_okP
  rw [e]
theorem am_a173 (pc : Nat) : am_okP 173 pc = true := by
  rcases Nat.lt_or_ge pc 16 with h | h0
  · exact am_rg am_a173_0 (Nat.zero_le _) h
  have e : am_P 173 pc = none := by
    show am_c173 pc = none
    unfold am_c173
    rw [Nat.ble_eq_true_of_le h0]
    rfl
  unfold am_okP
  rw [e]
theorem am_a174 (pc : Nat) : am_okP 174 pc = true := by
  rcases Nat.lt_or_ge pc 42 with h | h0
  · exact am_rg am_a174_0 (Nat.zero_le _) h
  rcases Nat.lt_or_ge pc 86 with h | h1
  · exact am_rg am_a174_1 (h0) h
  rcases Nat.lt_or_ge pc 131 with h | h2
  · exact am_rg am_a174_2 (h1) h
  rcases Nat.lt_or_ge pc 178 with h | h3
  · exact am_rg am_a174_3 (h2) h
  rcases Nat.lt_or_ge pc 224 with h | h4
  · exact am_rg am_a174_4 (h3) h
  rcases Nat.lt_or_ge pc 277 with h | h5
  · exact am_rg am_a174_5 (h4) h
  rcases Nat.lt_or_ge pc 319 with h | h6
  · exact am_rg am_a174_6 (h5) h
  rcases Nat.lt_or_ge pc 367 with h | h7
  · exact am_rg am_a174_7 (h6) h
  rcases Nat.lt_or_ge pc 369 with h | h8
  · exact am_rg am_a174_8 (h7) h
  have e : am_P 174 pc = none := by
    show am_c174 pc = none
    unfold am_c174
    rw [Nat.ble_eq_true_of_le h8]
    rfl
  unfold am_okP
  rw [e]
theorem am_a175 (pc : Nat) : am_okP 175 pc = true := by
  rcases Nat.lt_or_ge pc 39 with h | h0
  · exact am_rg am_a175_0 (Nat.zero_le _) h
  rcases Nat.lt_or_ge pc 93 with h | h1
  · exact am_rg am_a175_1 (h0) h
  rcases Nat.lt_or_ge pc 146 with h | h2
  · exact am_rg am_a175_2 (h1) h
  rcases Nat.lt_or_ge pc 193 with h | h3
  · exact am_rg am_a175_3 (h2) h
  rcases Nat.lt_or_ge pc 242 with h | h4
  · exact am_rg am_a175_4 (h3) h
  rcases Nat.lt_or_ge pc 288 with h | h5
  · exact am_rg am_a175_5 (h4) h
  rcases Nat.lt_or_ge pc 339 with h | h6
  · exact am_rg am_a175_6 (h5) h
  rcases Nat.lt_or_ge pc 377 with h | h7
  · exact am_rg am_a175_7 (h6) h
  rcases Nat.lt_or_ge pc 420 with h | h8
  · exact am_rg am_a175_8 (h7) h
  rcases Nat.lt_or_ge pc 460 with h | h9
  · exact am_rg am_a175_9 (h8) h
  rcases Nat.lt_or_ge pc 504 with h | h10
  · exact am_rg am_a175_10 (h9) h
  rcases Nat.lt_or_ge pc 544 with h | h11
  · exact am_rg am_a175_11 (h10) h
  rcases Nat.lt_or_ge pc 561 with h | h12
  · exact am_rg am_a175_12 (h11) h
  have e : am_P 175 pc = none := by
    show am_c175 pc = none
    unfold am_c175
    rw [Nat.ble_eq_true_of_le h12]
    rfl
  unfold am_okP
  rw [e]
theorem am_a176 (pc : Nat) : am_okP 176 pc = true := by
  rcases Nat.lt_or_ge pc 42 with h | h0
  · exact am_rg am_a176_0 (Nat.zero_le _) h
  rcases Nat.lt_or_ge pc 90 with h | h1
  · exact am_rg am_a176_1 (h0) h
  rcases Nat.lt_or_ge pc 91 with h | h2
  · exact am_rg am_a176_2 (h1) h
  have e : am_P 176 pc = none := by
    show am_c176 pc = none
    unfold am_c176
    rw [Nat.ble_eq_true_of_le h2]
    rfl
  unfold am_okP
  rw [e]
theorem am_a177 (pc : Nat) : am_okP 177 pc = true := by
  rcases Nat.lt_or_ge pc 44 with h | h0
  · exact am_rg am_a177_0 (Nat.zero_le _) h
  have e : am_P 177 pc = none := by
    show am_c177 pc = none
    unfold am_c177
    rw [Nat.ble_eq_true_of_le h0]
    rfl
  unfold am_okP
  rw [e]
theorem am_a178 (pc : Nat) : am_okP 178 pc = true := by
  rcases Nat.lt_or_ge pc 47 with h | h0
  · exact am_rg am_a178_0 (Nat.zero_le _) h
  rcases Nat.lt_or_ge pc 97 with h | h1
  · exact am_rg am_a178_1 (h0) h
  rcases Nat.lt_or_ge pc 138 with h | h2
  · exact am_rg am_a178_2 (h1) h
  rcases Nat.lt_or_ge pc 180 with h | h3
  · exact am_rg am_a178_3 (h2) h
  rcases Nat.lt_or_ge pc 228 with h | h4
  · exact am_rg am_a178_4 (h3) h
  rcases Nat.lt_or_ge pc 272 with h | h5
  · exact am_rg am_a178_5 (h4) h
  rcases Nat.lt_or_ge pc 313 with h | h6
  · exact am_rg am_a178_6 (h5) h
  rcases Nat.lt_or_ge pc 314 with h | h7
  · exact am_rg am_a178_7 (h6) h
  have e : am_P 178 pc = none := by
    show am_c178 pc = none
    unfold am_c178
    rw [Nat.ble_eq_true_of_le h7]
    rfl
  unfold am_okP
  rw [e]
theorem am_a179 (pc : Nat) : am_okP 179 pc = true := by
  rcases Nat.lt_or_ge pc 45 with h | h0
  · exact am_rg am_a179_0 (Nat.zero_le _) h
  rcases Nat.lt_or_ge pc 85 with h | h1
  · exact am_rg am_a179_1 (h0) h
  rcases Nat.lt_or_ge pc 133 with h | h2
  · exact am_rg am_a179_2 (h1) h
  rcases Nat.lt_or_ge pc 140 with h | h3
  · exact am_rg am_a179_3 (h2) h
  have e : am_P 179 pc = none := by
    show am_c179 pc = none
    unfold am_c179
    rw [Nat.ble_eq_true_of_le h3]
    rfl
  unfold am_okP
  rw [e]
theorem am_a180 (pc : Nat) : am_okP 180 pc = true := by
  rcases Nat.lt_or_ge pc 25 with h | h0
  · exact am_rg am_a180_0 (Nat.zero_le _) h
  have e : am_P 180 pc = none := by
    show am_c180 pc = none
    unfold am_c180
    rw [Nat.ble_eq_true_of_le h0]
    rfl
  unfold am_okP
  rw [e]
theorem am_a181 (pc : Nat) : am_okP 181 pc = true := by
  rcases Nat.lt_or_ge pc 9 with h | h0
  · exact am_rg am_a181_0 (Nat.zero_le _) h
  have e : am_P 181 pc = none := by
    show am_c181 pc = none
    unfold am_c181
    rw [Nat.ble_eq_true_of_le h0]
    rfl
  unfold am_okP
  rw [e]
theorem am_a182 (pc : Nat) : am_okP 182 pc = true := by
  rcases Nat.lt_or_ge pc 8 with h | h0
  · exact am_rg am_a182_0 (Nat.zero_le _) h
  have e : am_P 182 pc = none := by
    show am_c182 pc = none
    unfold am_c182
    rw [Nat.ble_eq_true_of_le h0]
    rfl
  unfold am_okP
  rw [e]
theorem am_a183 (pc : Nat) : am_okP 183 pc = true := by
  rcases Nat.lt_or_ge pc 29 with h | h0
  · exact am_rg am_a183_0 (Nat.zero_le _) h
  have e : am_P 183 pc = none := by
    show am_c183 pc = none
    unfold am_c183
    rw [Nat.ble_eq_true_of_le h0]
    rfl
  unfold am_okP
  rw [e]
theorem am_a184 (pc : Nat) : am_okP 184 pc = true := by
  rcases Nat.lt_or_ge pc 51 with h | h0
  · exact am_rg am_a184_0 (Nat.zero_le _) h
  rcases Nat.lt_or_ge pc 71 with h | h1
  · exact am_rg am_a184_1 (h0) h
  have e : am_P 184 pc = none := by
    show am_c184 pc = none
    unfold am_c184
    rw [Nat.ble_eq_true_of_le h1]
    rfl
  unfold am_okP
  rw [e]
theorem am_a185 (pc : Nat) : am_okP 185 pc = true := by
  rcases Nat.lt_or_ge pc 43 with h | h0
  · exact am_rg am_a185_0 (Nat.zero_le _) h
  rcases Nat.lt_or_ge pc 48 with h | h1
  · exact am_rg am_a185_1 (h0) h
  have e : am_P 185 pc = none := by
    show am_c185 pc = none
    unfold am_c185
    rw [Nat.ble_eq_true_of_le h1]
    rfl
  unfold am_okP
  rw [e]
theorem am_a186 (pc : Nat) : am_okP 186 pc = true := by
  rcases Nat.lt_or_ge pc 35 with h | h0
  · exact am_rg am_a186_0 (Nat.zero_le _) h
  have e : am_P 186 pc = none := by
    show am_c186 pc = none
    unfold am_c186
    rw [Nat.ble_eq_true_of_le h0]
    rfl
  unfold am_okP
  rw [e]
theorem am_a187 (pc : Nat) : am_okP 187 pc = true := by
  rcases Nat.lt_or_ge pc 36 with h | h0
  · exact am_rg am_a187_0 (Nat.zero_le _) h
  have e : am_P 187 pc = none := by
    show am_c187 pc = none
    unfold am_c187
    rw [Nat.ble_eq_true_of_le h0]
    rfl
  unfold am_okP
  rw [e]
theorem am_a188 (pc : Nat) : am_okP 188 pc = true := by
  rcases Nat.lt_or_ge pc 50 with h | h0
  · exact am_rg am_a188_0 (Nat.zero_le _) h
  rcases Nat.lt_or_ge pc 70 with h | h1
  · exact am_rg am_a188_1 (h0) h
  have e : am_P 188 pc = none := by
    show am_c188 pc = none
    unfold am_c188
    rw [Nat.ble_eq_true_of_le h1]
    rfl
  unfold am_okP
  rw [e]
theorem am_a189 (pc : Nat) : am_okP 189 pc = true := by
  rcases Nat.lt_or_ge pc 37 with h | h0
  · exact am_rg am_a189_0 (Nat.zero_le _) h
  have e : am_P 189 pc = none := by
    show am_c189 pc = none
    unfold am_c189
    rw [Nat.ble_eq_true_of_le h0]
    rfl
  unfold am_okP
  rw [e]
theorem am_a190 (pc : Nat) : am_okP 190 pc = true := by
  rcases Nat.lt_or_ge pc 36 with h | h0
  · exact am_rg am_a190_0 (Nat.zero_le _) h
  have e : am_P 190 pc = none := by
    show am_c190 pc = none
    unfold am_c190
    rw [Nat.ble_eq_true_of_le h0]
    rfl
  unfold am_okP
  rw [e]
theorem am_a191 (pc : Nat) : am_okP 191 pc = true := by
  rcases Nat.lt_or_ge pc 42 with h | h0
  · exact am_rg am_a191_0 (Nat.zero_le _) h
  rcases Nat.lt_or_ge pc 84 with h | h1
  · exact am_rg am_a191_1 (h0) h
  rcases Nat.lt_or_ge pc 89 with h | h2
  · exact am_rg am_a191_2 (h1) h
  have e : am_P 191 pc = none := by
    show am_c191 pc = none
    unfold am_c191
    rw [Nat.ble_eq_true_of_le h2]
    rfl
  unfold am_okP
  rw [e]
theorem am_a192 (pc : Nat) : am_okP 192 pc = true := by
  rcases Nat.lt_or_ge pc 50 with h | h0
  · exact am_rg am_a192_0 (Nat.zero_le _) h
  rcases Nat.lt_or_ge pc 60 with h | h1
  · exact am_rg am_a192_1 (h0) h
  have e : am_P 192 pc = none := by
    show am_c192 pc = none
    unfold am_c192
    rw [Nat.ble_eq_true_of_le h1]
    rfl
  unfold am_okP
  rw [e]
theorem am_a193 (pc : Nat) : am_okP 193 pc = true := by
  rcases Nat.lt_or_ge pc 39 with h | h0
  · exact am_rg am_a193_0 (Nat.zero_le _) h
  have e : am_P 193 pc = none := by
    show am_c193 pc = none
    unfold am_c193
    rw [Nat.ble_eq_true_of_le h0]
    rfl
  unfold am_okP
  rw [e]
theorem am_a194 (pc : Nat) : am_okP 194 pc = true := by
  rcases Nat.lt_or_ge pc 28 with h | h0
  · exact am_rg am_a194_0 (Nat.zero_le _) h
  have e : am_P 194 pc = none := by
    show am_c194 pc = none
    unfold am_c194
    rw [Nat.ble_eq_true_of_le h0]
    rfl
  unfold am_okP
  rw [e]
theorem am_a195 (pc : Nat) : am_okP 195 pc = true := by
  rcases Nat.lt_or_ge pc 43 with h | h0
  · exact am_rg am_a195_0 (Nat.zero_le _) h
  have e : am_P 195 pc = none := by
    show am_c195 pc = none
    unfold am_c195
    rw [Nat.ble_eq_true_of_le h0]
    rfl
  unfold am_okP
  rw [e]
theorem am_a196 (pc : Nat) : am_okP 196 pc = true := by
  rcases Nat.lt_or_ge pc 44 with h | h0
  · exact am_rg am_a196_0 (Nat.zero_le _) h
  rcases Nat.lt_or_ge pc 63 with h | h1
  · exact am_rg am_a196_1 (h0) h
  have e : am_P 196 pc = none := by
    show am_c196 pc = none
    unfold am_c196
    rw [Nat.ble_eq_true_of_le h1]
    rfl
  unfold am_okP
  rw [e]
theorem am_a197 (pc : Nat) : am_okP 197 pc = true := by
  rcases Nat.lt_or_ge pc 21 with h | h0
  · exact am_rg am_a197_0 (Nat.zero_le _) h
  have e : am_P 197 pc = none := by
    show am_c197 pc = none
    unfold am_c197
    rw [Nat.ble_eq_true_of_le h0]
    rfl
  unfold am_okP
  rw [e]
theorem am_a198 (pc : Nat) : am_okP 198 pc = true := by
  rcases Nat.lt_or_ge pc 20 with h | h0
  · exact am_rg am_a198_0 (Nat.zero_le _) h
  have e : am_P 198 pc = none := by
    show am_c198 pc = none
    unfold am_c198
    rw [Nat.ble_eq_true_of_le h0]
    rfl
  unfold am_okP
  rw [e]
theorem am_a199 (pc : Nat) : am_okP 199 pc = true := by
  rcases Nat.lt_or_ge pc 41 with h | h0
  · exact am_rg am_a199_0 (Nat.zero_le _) h
  have e : am_P 199 pc = none := by
    show am_c199 pc = none
    unfold am_c199
    rw [Nat.ble_eq_true_of_le h0]
    rfl
  unfold am_okP
  rw [e]
theorem am_a200 (pc : Nat) : am_okP 200 pc = true := by
  rcases Nat.lt_or_ge pc 33 with h | h0
  · exact am_rg am_a200_0 (Nat.zero_le _) h
  rcases Nat.lt_or_ge pc 56 with h | h1
  · exact am_rg am_a200_1 (h0) h
  have e : am_P 200 pc = none := by
    show am_c200 pc = none
    unfold am_c200
    rw [Nat.ble_eq_true_of_le h1]
    rfl
  unfold am_okP
  rw [e]
theorem am_a201 (pc : Nat) : am_okP 201 pc = true := by
  rcases Nat.lt_or_ge pc 38 with h | h0
  · exact am_rg am_a201_0 (Nat.zero_le _) h
  rcases Nat.lt_or_ge pc 91 with h | h1
  · exact am_rg am_a201_1 (h0) h
  have e : am_P 201 pc = none := by
    show am_c201 pc = none
    unfold am_c201
    rw [Nat.ble_eq_true_of_le h1]
    rfl
  unfold am_okP
  rw [e]
theorem am_a202 (pc : Nat) : am_okP 202 pc = true := by
  rcases Nat.lt_or_ge pc 24 with h | h0
  · exact am_rg am_a202_0 (Nat.zero_le _) h
  have e : am_P 202 pc = none := by
    show am_c202 pc = none
    unfold am_c202
    rw [Nat.ble_eq_true_of_le h0]
    rfl
  unfold am_okP
  rw [e]
theorem am_a203 (pc : Nat) : am_okP 203 pc = true := by
  rcases Nat.lt_or_ge pc 40 with h | h0
  · exact am_rg am_a203_0 (Nat.zero_le _) h
  rcases Nat.lt_or_ge pc 82 with h | h1
  · exact am_rg am_a203_1 (h0) h
  rcases Nat.lt_or_ge pc 114 with h | h2
  · exact am_rg am_a203_2 (h1) h
  rcases Nat.lt_or_ge pc 129 with h | h3
  · exact am_rg am_a203_3 (h2) h
  have e : am_P 203 pc = none := by
    show am_c203 pc = none
    unfold am_c203
    rw [Nat.ble_eq_true_of_le h3]
    rfl
  unfold am_okP
  rw [e]
theorem am_a204 (pc : Nat) : am_okP 204 pc = true := by
  rcases Nat.lt_or_ge pc 42 with h | h0
  · exact am_rg am_a204_0 (Nat.zero_le _) h
  rcases Nat.lt_or_ge pc 79 with h | h1
  · exact am_rg am_a204_1 (h0) h
  have e : am_P 204 pc = none := by
    show am_c204 pc = none
    unfold am_c204
    rw [Nat.ble_eq_true_of_le h1]
    rfl
  unfold am_okP
  rw [e]
theorem am_a205 (pc : Nat) : am_okP 205 pc = true := by
  rcases Nat.lt_or_ge pc 42 with h | h0
  · exact am_rg am_a205_0 (Nat.zero_le _) h
  rcases Nat.lt_or_ge pc 43 with h | h1
  · exact am_rg am_a205_1 (h0) h
  have e : am_P 205 pc = none := by
    show am_c205 pc = none
    unfold am_c205
    rw [Nat.ble_eq_true_of_le h1]
    rfl
  unfold am_okP
  rw [e]
theorem am_a206 (pc : Nat) : am_okP 206 pc = true := by
  rcases Nat.lt_or_ge pc 40 with h | h0
  · exact am_rg am_a206_0 (Nat.zero_le _) h
  rcases Nat.lt_or_ge pc 81 with h | h1
  · exact am_rg am_a206_1 (h0) h
  rcases Nat.lt_or_ge pc 118 with h | h2
  · exact am_rg am_a206_2 (h1) h
  rcases Nat.lt_or_ge pc 136 with h | h3
  · exact am_rg am_a206_3 (h2) h
  have e : am_P 206 pc = none := by
    show am_c206 pc = none
    unfold am_c206
    rw [Nat.ble_eq_true_of_le h3]
    rfl
  unfold am_okP
  rw [e]
theorem am_a207 (pc : Nat) : am_okP 207 pc = true := by
  rcases Nat.lt_or_ge pc 41 with h | h0
  · exact am_rg am_a207_0 (Nat.zero_le _) h
  rcases Nat.lt_or_ge pc 85 with h | h1
  · exact am_rg am_a207_1 (h0) h
  rcases Nat.lt_or_ge pc 124 with h | h2
  · exact am_rg am_a207_2 (h1) h
  rcases Nat.lt_or_ge pc 166 with h | h3
  · exact am_rg am_a207_3 (h2) h
  rcases Nat.lt_or_ge pc 176 with h | h4
  · exact am_rg am_a207_4 (h3) h
  have e : am_P 207 pc = none := by
    show am_c207 pc = none
    unfold am_c207
    rw [Nat.ble_eq_true_of_le h4]
    rfl
  unfold am_okP
  rw [e]
theorem am_a208 (pc : Nat) : am_okP 208 pc = true := by
  rcases Nat.lt_or_ge pc 41 with h | h0
  · exact am_rg am_a208_0 (Nat.zero_le _) h
  rcases Nat.lt_or_ge pc 55 with h | h1
  · exact am_rg am_a208_1 (h0) h
  have e : am_P 208 pc = none := by
    show am_c208 pc = none
    unfold am_c208
    rw [Nat.ble_eq_true_of_le h1]
    rfl
  unfold am_okP
  rw [e]
theorem am_a209 (pc : Nat) : am_okP 209 pc = true := by
  rcases Nat.lt_or_ge pc 27 with h | h0
  · exact am_rg am_a209_0 (Nat.zero_le _) h
  have e : am_P 209 pc = none := by
    show am_c209 pc = none
    unfold am_c209
    rw [Nat.ble_eq_true_of_le h0]
    rfl
  unfold am_okP
  rw [e]
theorem am_a210 (pc : Nat) : am_okP 210 pc = true := by
  rcases Nat.lt_or_ge pc 38 with h | h0
  · exact am_rg am_a210_0 (Nat.zero_le _) h
  have e : am_P 210 pc = none := by
    show am_c210 pc = none
    unfold am_c210
    rw [Nat.ble_eq_true_of_le h0]
    rfl
  unfold am_okP
  rw [e]
theorem am_a211 (pc : Nat) : am_okP 211 pc = true := by
  rcases Nat.lt_or_ge pc 38 with h | h0
  · exact am_rg am_a211_0 (Nat.zero_le _) h
  have e : am_P 211 pc = none := by
    show am_c211 pc = none
    unfold am_c211
    rw [Nat.ble_eq_true_of_le h0]
    rfl
  unfold am_okP
  rw [e]
theorem am_a212 (pc : Nat) : am_okP 212 pc = true := by
  rcases Nat.lt_or_ge pc 35 with h | h0
  · exact am_rg am_a212_0 (Nat.zero_le _) h
  have e : am_P 212 pc = none := by
    show am_c212 pc = none
    unfold am_c212
    rw [Nat.ble_eq_true_of_le h0]
    rfl
  unfold am_okP
  rw [e]
theorem am_a213 (pc : Nat) : am_okP 213 pc = true := by
  rcases Nat.lt_or_ge pc 40 with h | h0
  · exact am_rg am_a213_0 (Nat.zero_le _) h
  rcases Nat.lt_or_ge pc 69 with h | h1
  · exact am_rg am_a213_1 (h0) h
  have e : am_P 213 pc = none := by
    show am_c213 pc = none
    unfold am_c213
    rw [Nat.ble_eq_true_of_le h1]
    rfl
  unfold am_okP
  rw [e]
theorem am_a214 (pc : Nat) : am_okP 214 pc = true := by
  rcases Nat.lt_or_ge pc 25 with h | h0
  · exact am_rg am_a214_0 (Nat.zero_le _) h
  have e : am_P 214 pc = none := by
    show am_c214 pc = none
    unfold am_c214
    rw [Nat.ble_eq_true_of_le h0]
    rfl
  unfold am_okP
  rw [e]
theorem am_a215 (pc : Nat) : am_okP 215 pc = true := by
  rcases Nat.lt_or_ge pc 38 with h | h0
  · exact am_rg am_a215_0 (Nat.zero_le _) h
  rcases Nat.lt_or_ge pc 73 with h | h1
  · exact am_rg am_a215_1 (h0) h
  rcases Nat.lt_or_ge pc 110 with h | h2
  · exact am_rg am_a215_2 (h1) h
  rcases Nat.lt_or_ge pc 152 with h | h3
  · exact am_rg am_a215_3 (h2) h
  rcases Nat.lt_or_ge pc 187 with h | h4
  · exact am_rg am_a215_4 (h3) h
  rcases Nat.lt_or_ge pc 197 with h | h5
  · exact am_rg am_a215_5 (h4) h
  have e : am_P 215 pc = none := by
    show am_c215 pc = none
    unfold am_c215
    rw [Nat.ble_eq_true_of_le h5]
    rfl
  unfold am_okP
  rw [e]
theorem am_a216 (pc : Nat) : am_okP 216 pc = true := by
  rcases Nat.lt_or_ge pc 30 with h | h0
  · exact am_rg am_a216_0 (Nat.zero_le _) h
  have e : am_P 216 pc = none := by
    show am_c216 pc = none
    unfold am_c216
    rw [Nat.ble_eq_true_of_le h0]
    rfl
  unfold am_okP
  rw [e]
theorem am_a217 (pc : Nat) : am_okP 217 pc = true := by
  rcases Nat.lt_or_ge pc 40 with h | h0
  · exact am_rg am_a217_0 (Nat.zero_le _) h
  rcases Nat.lt_or_ge pc 83 with h | h1
  · exact am_rg am_a217_1 (h0) h
  rcases Nat.lt_or_ge pc 86 with h | h2
  · exact am_rg am_a217_2 (h1) h
  have e : am_P 217 pc = none := by
    show am_c217 pc = none
    unfold am_c217
    rw [Nat.ble_eq_true_of_le h2]
    rfl
  unfold am_okP
  rw [e]
theorem am_a218 (pc : Nat) : am_okP 218 pc = true := by
  rcases Nat.lt_or_ge pc 88 with h | h0
  · exact am_rg am_a218_0 (Nat.zero_le _) h
  rcases Nat.lt_or_ge pc 124 with h | h1
  · exact am_rg am_a218_1 (h0) h
  rcases Nat.lt_or_ge pc 158 with h | h2
  · exact am_rg am_a218_2 (h1) h
  rcases Nat.lt_or_ge pc 160 with h | h3
  · exact am_rg am_a218_3 (h2) h
  have e : am_P 218 pc = none := by
    show am_c218 pc = none
    unfold am_c218
    rw [Nat.ble_eq_true_of_le h3]
    rfl
  unfold am_okP
  rw [e]
theorem am_a219 (pc : Nat) : am_okP 219 pc = true := by
  rcases Nat.lt_or_ge pc 38 with h | h0
  · exact am_rg am_a219_0 (Nat.zero_le _) h
  rcases Nat.lt_or_ge pc 81 with h | h1
  · exact am_rg am_a219_1 (h0) h
  rcases Nat.lt_or_ge pc 133 with h | h2
  · exact am_rg am_a219_2 (h1) h
  rcases Nat.lt_or_ge pc 174 with h | h3
  · exact am_rg am_a219_3 (h2) h
  rcases Nat.lt_or_ge pc 207 with h | h4
  · exact am_rg am_a219_4 (h3) h
  have e : am_P 219 pc = none := by
    show am_c219 pc = none
    unfold am_c219
    rw [Nat.ble_eq_true_of_le h4]
    rfl
  unfold am_okP
  rw [e]
theorem am_a220 (pc : Nat) : am_okP 220 pc = true := by
  rcases Nat.lt_or_ge pc 42 with h | h0
  · exact am_rg am_a220_0 (Nat.zero_le _) h
  rcases Nat.lt_or_ge pc 83 with h | h1
  · exact am_rg am_a220_1 (h0) h
  rcases Nat.lt_or_ge pc 133 with h | h2
  · exact am_rg am_a220_2 (h1) h
  rcases Nat.lt_or_ge pc 180 with h | h3
  · exact am_rg am_a220_3 (h2) h
  have e : am_P 220 pc = none := by
    show am_c220 pc = none
    unfold am_c220
    rw [Nat.ble_eq_true_of_le h3]
    rfl
  unfold am_okP
  rw [e]
theorem am_a221 (pc : Nat) : am_okP 221 pc = true := by
  rcases Nat.lt_or_ge pc 41 with h | h0
  · exact am_rg am_a221_0 (Nat.zero_le _) h
  have e : am_P 221 pc = none := by
    show am_c221 pc = none
    unfold am_c221
    rw [Nat.ble_eq_true_of_le h0]
    rfl
  unfold am_okP
  rw [e]
theorem am_a222 (pc : Nat) : am_okP 222 pc = true := by
  rcases Nat.lt_or_ge pc 42 with h | h0
  · exact am_rg am_a222_0 (Nat.zero_le _) h
  rcases Nat.lt_or_ge pc 80 with h | h1
  · exact am_rg am_a222_1 (h0) h
  rcases Nat.lt_or_ge pc 85 with h | h2
  · exact am_rg am_a222_2 (h1) h
  have e : am_P 222 pc = none := by
    show am_c222 pc = none
    unfold am_c222
    rw [Nat.ble_eq_true_of_le h2]
    rfl
  unfold am_okP
  rw [e]
theorem am_a223 (pc : Nat) : am_okP 223 pc = true := by
  rcases Nat.lt_or_ge pc 40 with h | h0
  · exact am_rg am_a223_0 (Nat.zero_le _) h
  have e : am_P 223 pc = none := by
    show am_c223 pc = none
    unfold am_c223
    rw [Nat.ble_eq_true_of_le h0]
    rfl
  unfold am_okP
  rw [e]
theorem am_a224 (pc : Nat) : am_okP 224 pc = true := by
  rcases Nat.lt_or_ge pc 46 with h | h0
  · exact am_rg am_a224_0 (Nat.zero_le _) h
  rcases Nat.lt_or_ge pc 48 with h | h1
  · exact am_rg am_a224_1 (h0) h
  have e : am_P 224 pc = none := by
    show am_c224 pc = none
    unfold am_c224
    rw [Nat.ble_eq_true_of_le h1]
    rfl
  unfold am_okP
  rw [e]
theorem am_a225 (pc : Nat) : am_okP 225 pc = true := by
  rcases Nat.lt_or_ge pc 38 with h | h0
  · exact am_rg am_a225_0 (Nat.zero_le _) h
  rcases Nat.lt_or_ge pc 49 with h | h1
  · exact am_rg am_a225_1 (h0) h
  have e : am_P 225 pc = none := by
    show am_c225 pc = none
    unfold am_c225
    rw [Nat.ble_eq_true_of_le h1]
    rfl
  unfold am_okP
  rw [e]
theorem am_a226 (pc : Nat) : am_okP 226 pc = true := by
  rcases Nat.lt_or_ge pc 30 with h | h0
  · exact am_rg am_a226_0 (Nat.zero_le _) h
  have e : am_P 226 pc = none := by
    show am_c226 pc = none
    unfold am_c226
    rw [Nat.ble_eq_true_of_le h0]
    rfl
  unfold am_okP
  rw [e]
theorem am_a227 (pc : Nat) : am_okP 227 pc = true := by
  rcases Nat.lt_or_ge pc 47 with h | h0
  · exact am_rg am_a227_0 (Nat.zero_le _) h
  rcases Nat.lt_or_ge pc 91 with h | h1
  · exact am_rg am_a227_1 (h0) h
  rcases Nat.lt_or_ge pc 129 with h | h2
  · exact am_rg am_a227_2 (h1) h
  rcases Nat.lt_or_ge pc 177 with h | h3
  · exact am_rg am_a227_3 (h2) h
  rcases Nat.lt_or_ge pc 210 with h | h4
  · exact am_rg am_a227_4 (h3) h
  have e : am_P 227 pc = none := by
    show am_c227 pc = none
    unfold am_c227
    rw [Nat.ble_eq_true_of_le h4]
    rfl
  unfold am_okP
  rw [e]
theorem am_a228 (pc : Nat) : am_okP 228 pc = true := by
  rcases Nat.lt_or_ge pc 25 with h | h0
  · exact am_rg am_a228_0 (Nat.zero_le _) h
  have e : am_P 228 pc = none := by
    show am_c228 pc = none
    unfold am_c228
    rw [Nat.ble_eq_true_of_le h0]
    rfl
  unfold am_okP
  rw [e]
theorem am_a229 (pc : Nat) : am_okP 229 pc = true := by
  rcases Nat.lt_or_ge pc 46 with h | h0
  · exact am_rg am_a229_0 (Nat.zero_le _) h
  rcases Nat.lt_or_ge pc 68 with h | h1
  · exact am_rg am_a229_1 (h0) h
  have e : am_P 229 pc = none := by
    show am_c229 pc = none
    unfold am_c229
    rw [Nat.ble_eq_true_of_le h1]
    rfl
  unfold am_okP
  rw [e]
theorem am_a230 (pc : Nat) : am_okP 230 pc = true := by
  rcases Nat.lt_or_ge pc 42 with h | h0
  · exact am_rg am_a230_0 (Nat.zero_le _) h
  rcases Nat.lt_or_ge pc 84 with h | h1
  · exact am_rg am_a230_1 (h0) h
  rcases Nat.lt_or_ge pc 122 with h | h2
  · exact am_rg am_a230_2 (h1) h
  have e : am_P 230 pc = none := by
    show am_c230 pc = none
    unfold am_c230
    rw [Nat.ble_eq_true_of_le h2]
    rfl
  unfold am_okP
  rw [e]
theorem am_a231 (pc : Nat) : am_okP 231 pc = true := by
  rcases Nat.lt_or_ge pc 42 with h | h0
  · exact am_rg am_a231_0 (Nat.zero_le _) h
  rcases Nat.lt_or_ge pc 45 with h | h1
  · exact am_rg am_a231_1 (h0) h
  have e : am_P 231 pc = none := by
    show am_c231 pc = none
    unfold am_c231
    rw [Nat.ble_eq_true_of_le h1]
    rfl
  unfold am_okP
  rw [e]
theorem am_a232 (pc : Nat) : am_okP 232 pc = true := by
  rcases Nat.lt_or_ge pc 15 with h | h0
  · exact am_rg am_a232_0 (Nat.zero_le _) h
  have e : am_P 232 pc = none := by
    show am_c232 pc = none
    unfold am_c232
    rw [Nat.ble_eq_true_of_le h0]
    rfl
  unfold am_okP
  rw [e]
theorem am_a233 (pc : Nat) : am_okP 233 pc = true := by
  rcases Nat.lt_or_ge pc 48 with h | h0
  · exact am_rg am_a233_0 (Nat.zero_le _) h
  rcases Nat.lt_or_ge pc 88 with h | h1
  · exact am_rg am_a233_1 (h0) h
  rcases Nat.lt_or_ge pc 129 with h | h2
  · exact am_rg am_a233_2 (h1) h
  rcases Nat.lt_or_ge pc 171 with h | h3
  · exact am_rg am_a233_3 (h2) h
  rcases Nat.lt_or_ge pc 219 with h | h4
  · exact am_rg am_a233_4 (h3) h
  rcases Nat.lt_or_ge pc 261 with h | h5
  · exact am_rg am_a233_5 (h4) h
  rcases Nat.lt_or_ge pc 302 with h | h6
  · exact am_rg am_a233_6 (h5) h
  rcases Nat.lt_or_ge pc 350 with h | h7
  · exact am_rg am_a233_7 (h6) h
  rcases Nat.lt_or_ge pc 373 with h | h8
  · exact am_rg am_a233_8 (h7) h
  have e : am_P 233 pc = none := by
    show am_c233 pc = none
    unfold am_c233
    rw [Nat.ble_eq_true_of_le h8]
    rfl
  unfold am_okP
  rw [e]
theorem am_a234 (pc : Nat) : am_okP 234 pc = true := by
  rcases Nat.lt_or_ge pc 23 with h | h0
  · exact am_rg am_a234_0 (Nat.zero_le _) h
  have e : am_P 234 pc = none := by
    show am_c234 pc = none
    unfold am_c234
    rw [Nat.ble_eq_true_of_le h0]
    rfl
  unfold am_okP
  rw [e]
theorem am_a235 (pc : Nat) : am_okP 235 pc = true := by
  rcases Nat.lt_or_ge pc 40 with h | h0
  · exact am_rg am_a235_0 (Nat.zero_le _) h
  rcases Nat.lt_or_ge pc 85 with h | h1
  · exact am_rg am_a235_1 (h0) h
  rcases Nat.lt_or_ge pc 114 with h | h2
  · exact am_rg am_a235_2 (h1) h
  have e : am_P 235 pc = none := by
    show am_c235 pc = none
    unfold am_c235
    rw [Nat.ble_eq_true_of_le h2]
    rfl
  unfold am_okP
  rw [e]
theorem am_a236 (pc : Nat) : am_okP 236 pc = true := by
  rcases Nat.lt_or_ge pc 43 with h | h0
  · exact am_rg am_a236_0 (Nat.zero_le _) h
  have e : am_P 236 pc = none := by
    show am_c236 pc = none
    unfold am_c236
    rw [Nat.ble_eq_true_of_le h0]
    rfl
  unfold am_okP
  rw [e]
theorem am_a237 (pc : Nat) : am_okP 237 pc = true := by
  rcases Nat.lt_or_ge pc 43 with h | h0
  · exact am_rg am_a237_0 (Nat.zero_le _) h
  rcases Nat.lt_or_ge pc 90 with h | h1
  · exact am_rg am_a237_1 (h0) h
  rcases Nat.lt_or_ge pc 105 with h | h2
  · exact am_rg am_a237_2 (h1) h
  have e : am_P 237 pc = none := by
    show am_c237 pc = none
    unfold am_c237
    rw [Nat.ble_eq_true_of_le h2]
    rfl
  unfold am_okP
  rw [e]
theorem am_a238 (pc : Nat) : am_okP 238 pc = true := by
  rcases Nat.lt_or_ge pc 47 with h | h0
  · exact am_rg am_a238_0 (Nat.zero_le _) h
  rcases Nat.lt_or_ge pc 70 with h | h1
  · exact am_rg am_a238_1 (h0) h
  have e : am_P 238 pc = none := by
    show am_c238 pc = none
    unfold am_c238
    rw [Nat.ble_eq_true_of_le h1]
    rfl
  unfold am_okP
  rw [e]
theorem am_a239 (pc : Nat) : am_okP 239 pc = true := by
  rcases Nat.lt_or_ge pc 12 with h | h0
  · exact am_rg am_a239_0 (Nat.zero_le _) h
  have e : am_P 239 pc = none := by
    show am_c239 pc = none
    unfold am_c239
    rw [Nat.ble_eq_true_of_le h0]
    rfl
  unfold am_okP
  rw [e]
theorem am_a240 (pc : Nat) : am_okP 240 pc = true := by
  rcases Nat.lt_or_ge pc 35 with h | h0
  · exact am_rg am_a240_0 (Nat.zero_le _) h
  rcases Nat.lt_or_ge pc 77 with h | h1
  · exact am_rg am_a240_1 (h0) h
  rcases Nat.lt_or_ge pc 122 with h | h2
  · exact am_rg am_a240_2 (h1) h
  rcases Nat.lt_or_ge pc 153 with h | h3
  · exact am_rg am_a240_3 (h2) h
  have e : am_P 240 pc = none := by
    show am_c240 pc = none
    unfold am_c240
    rw [Nat.ble_eq_true_of_le h3]
    rfl
  unfold am_okP
  rw [e]
theorem am_a241 (pc : Nat) : am_okP 241 pc = true := by
  rcases Nat.lt_or_ge pc 10 with h | h0
  · exact am_rg am_a241_0 (Nat.zero_le _) h
  have e : am_P 241 pc = none := by
    show am_c241 pc = none
    unfold am_c241
    rw [Nat.ble_eq_true_of_le h0]
    rfl
  unfold am_okP
  rw [e]
theorem am_a242 (pc : Nat) : am_okP 242 pc = true := by
  rcases Nat.lt_or_ge pc 36 with h | h0
  · exact am_rg am_a242_0 (Nat.zero_le _) h
  have e : am_P 242 pc = none := by
    show am_c242 pc = none
    unfold am_c242
    rw [Nat.ble_eq_true_of_le h0]
    rfl
  unfold am_okP
  rw [e]
theorem am_a243 (pc : Nat) : am_okP 243 pc = true := by
  rcases Nat.lt_or_ge pc 17 with h | h0
  · exact am_rg am_a243_0 (Nat.zero_le _) h
  have e : am_P 243 pc = none := by
    show am_c243 pc = none
    unfold am_c243
    rw [Nat.ble_eq_true_of_le h0]
    rfl
  unfold am_okP
  rw [e]
theorem am_a244 (pc : Nat) : am_okP 244 pc = true := by
  rcases Nat.lt_or_ge pc 40 with h | h0
  · exact am_rg am_a244_0 (Nat.zero_le _) h
  rcases Nat.lt_or_ge pc 80 with h | h1
  · exact am_rg am_a244_1 (h0) h
  rcases Nat.lt_or_ge pc 105 with h | h2
  · exact am_rg am_a244_2 (h1) h
  have e : am_P 244 pc = none := by
    show am_c244 pc = none
    unfold am_c244
    rw [Nat.ble_eq_true_of_le h2]
    rfl
  unfold am_okP
  rw [e]
theorem am_a245 (pc : Nat) : am_okP 245 pc = true := by
  rcases Nat.lt_or_ge pc 23 with h | h0
  · exact am_rg am_a245_0 (Nat.zero_le _) h
  have e : am_P 245 pc = none := by
    show am_c245 pc = none
    unfold am_c245
    rw [Nat.ble_eq_true_of_le h0]
    rfl
  unfold am_okP
  rw [e]
theorem am_a246 (pc : Nat) : am_okP 246 pc = true := by
  rcases Nat.lt_or_ge pc 30 with h | h0
  · exact am_rg am_a246_0 (Nat.zero_le _) h
  have e : am_P 246 pc = none := by
    show am_c246 pc = none
    unfold am_c246
    rw [Nat.ble_eq_true_of_le h0]
    rfl
  unfold am_okP
  rw [e]
theorem am_a247 (pc : Nat) : am_okP 247 pc = true := by
  rcases Nat.lt_or_ge pc 20 with h | h0
  · exact am_rg am_a247_0 (Nat.zero_le _) h
  have e : am_P 247 pc = none := by
    show am_c247 pc = none
    unfold am_c247
    rw [Nat.ble_eq_true_of_le h0]
    rfl
  unfold am_okP
  rw [e]
theorem am_a248 (pc : Nat) : am_okP 248 pc = true := by
  rcases Nat.lt_or_ge pc 13 with h | h0
  · exact am_rg am_a248_0 (Nat.zero_le _) h
  have e : am_P 248 pc = none := by
    show am_c248 pc = none
    unfold am_c248
    rw [Nat.ble_eq_true_of_le h0]
    rfl
  unfold am_okP
  rw [e]
theorem am_a249 (pc : Nat) : am_okP 249 pc = true := by
  rcases Nat.lt_or_ge pc 11 with h | h0
  · exact am_rg am_a249_0 (Nat.zero_le _) h
  have e : am_P 249 pc = none := by
    show am_c249 pc = none
    unfold am_c249
    rw [Nat.ble_eq_true_of_le h0]
    rfl
  unfold am_okP
  rw [e]
theorem am_a250 (pc : Nat) : am_okP 250 pc = true := by
  rcases Nat.lt_or_ge pc 12 with h | h0
  · exact am_rg am_a250_0 (Nat.zero_le _) h
  have e : am_P 250 pc = none := by
    show am_c250 pc = none
    unfold am_c250
    rw [Nat.ble_eq_true_of_le h0]
    rfl
  unfold am_okP
  rw [e]
theorem am_a251 (pc : Nat) : am_okP 251 pc = true := by
  rcases Nat.lt_or_ge pc 11 with h | h0
  · exact am_rg am_a251_0 (Nat.zero_le _) h
  have e : am_P 251 pc = none := by
    show am_c251 pc = none
    unfold am_c251
    rw [Nat.ble_eq_true_of_le h0]
    rfl
  unfold am_okP
  rw [e]
theorem am_a252 (pc : Nat) : am_okP 252 pc = true := by
  rcases Nat.lt_or_ge pc 12 with h | h0
  · exact am_rg am_a252_0 (Nat.zero_le _) h
  have e : am_P 252 pc = none := by
    show am_c252 pc = none
    unfold am_c252
    rw [Nat.ble_eq_true_of_le h0]
    rfl
  unfold am_okP
  rw [e]
theorem am_a253 (pc : Nat) : am_okP 253 pc = true := by
  rcases Nat.lt_or_ge pc 23 with h | h0
  · exact am_rg am_a253_0 (Nat.zero_le _) h
  have e : am_P 253 pc = none := by
    show am_c253 pc = none
    unfold am_c253
    rw [Nat.ble_eq_true_of_le h0]
    rfl
  unfold am_okP
  rw [e]
theorem am_a254 (pc : Nat) : am_okP 254 pc = true := by
  rcases Nat.lt_or_ge pc 21 with h | h0
  · exact am_rg am_a254_0 (Nat.zero_le _) h
  have e : am_P 254 pc = none := by
    show am_c254 pc = none
    unfold am_c254
    rw [Nat.ble_eq_true_of_le h0]
    rfl
  unfold am_okP
  rw [e]
theorem am_a255 (pc : Nat) : am_okP 255 pc = true := by
  rcases Nat.lt_or_ge pc 33 with h | h0
  · exact am_rg am_a255_0 (Nat.zero_le _) h
  have e : am_P 255 pc = none := by
    show am_c255 pc = none
    unfold am_c255
    rw [Nat.ble_eq_true_of_le h0]
    rfl
  unfold am_okP
  rw [e]
theorem am_a256 (pc : Nat) : am_okP 256 pc = true := by
  rcases Nat.lt_or_ge pc 42 with h | h0
  · exact am_rg am_a256_0 (Nat.zero_le _) h
  rcases Nat.lt_or_ge pc 79 with h | h1
  · exact am_rg am_a256_1 (h0) h
  have e : am_P 256 pc = none := by
    show am_c256 pc = none
    unfold am_c256
    rw [Nat.ble_eq_true_of_le h1]
    rfl
  unfold am_okP
  rw [e]
theorem am_a257 (pc : Nat) : am_okP 257 pc = true := by
  rcases Nat.lt_or_ge pc 44 with h | h0
  · exact am_rg am_a257_0 (Nat.zero_le _) h
  rcases Nat.lt_or_ge pc 62 with h | h1
  · exact am_rg am_a257_1 (h0) h
  have e : am_P 257 pc = none := by
    show am_c257 pc = none
    unfold am_c257
    rw [Nat.ble_eq_true_of_le h1]
    rfl
  unfold am_okP
  rw [e]
theorem am_a258 (pc : Nat) : am_okP 258 pc = true := by
  rcases Nat.lt_or_ge pc 32 with h | h0
  · exact am_rg am_a258_0 (Nat.zero_le _) h
  have e : am_P 258 pc = none := by
    show am_c258 pc = none
    unfold am_c258
    rw [Nat.ble_eq_true_of_le h0]
    rfl
  unfold am_okP
  rw [e]
theorem am_aAll : ∀ mi : Nat, mi < 259 → ∀ pc : Nat, am_okP mi pc = true
  | 0, _ => am_a0
  | 1, _ => am_a1
  | 2, _ => am_a2
  | 3, _ => am_a3
  | 4, _ => am_a4
  | 5, _ => am_a5
  | 6, _ => am_a6
  | 7, _ => am_a7
  | 8, _ => am_a8
  | 9, _ => am_a9
  | 10, _ => am_a10
  | 11, _ => am_a11
  | 12, _ => am_a12
  | 13, _ => am_a13
  | 14, _ => am_a14
  | 15, _ => am_a15
  | 16, _ => am_a16
  | 17, _ => am_a17
  | 18, _ => am_a18
  | 19, _ => am_a19
  | 20, _ => am_a20
  | 21, _ => am_a21
  | 22, _ => am_a22
  | 23, _ => am_a23
  | 24, _ => am_a24
  | 25, _ => am_a25
  | 26, _ => am_a26
  | 27, _ => am_a27
  | 28, _ => am_a28
  | 29, _ => am_a29
  | 30, _ => am_a30
  | 31, _ => am_a31
  | 32, _ => am_a32
  | 33, _ => am_a33
  | 34, _ => am_a34
  | 35, _ => am_a35
  | 36, _ => am_a36
  | 37, _ => am_a37
  | 38, _ => am_a38
  | 39, _ => am_a39
  | 40, _ => am_a40
  | 41, _ => am_a41
  | 42, _ => am_a42
  | 43, _ => am_a43
  | 44, _ => am_a44
  | 45, _ => am_a45
  | 46, _ => am_a46
  | 47, _ => am_a47
  | 48, _ => am_a48
  | 49, _ => am_a49
  | 50, _ => am_a50
  | 51, _ => am_a51
  | 52, _ => am_a52
  | 53, _ => am_a53
  | 54, _ => am_a54
  | 55, _ => am_a55
  | 56, _ => am_a56
  | 57, _ => am_a57
  | 58, _ => am_a58
  | 59, _ => am_a59
  | 60, _ => am_a60
  | 61, _ => am_a61
  | 62, _ => am_a62
  | 63, _ => am_a63
  | 64, _ => am_a64
  | 65, _ => am_a65
  | 66, _ => am_a66
  | 67, _ => am_a67
  | 68, _ => am_a68
  | 69, _ => am_a69
  | 70, _ => am_a70
  | 71, _ => am_a71
  | 72, _ => am_a72
  | 73, _ => am_a73
  | 74, _ => am_a74
  | 75, _ => am_a75
  | 76, _ => am_a76
  | 77, _ => am_a77
  | 78, _ => am_a78
  | 79, _ => am_a79
  | 80, _ => am_a80
  | 81, _ => am_a81
  | 82, _ => am_a82
  | 83, _ => am_a83
  | 84, _ => am_a84
  | 85, _ => am_a85
  | 86, _ => am_a86
  | 87, _ => am_a87
  | 88, _ => am_a88
  | 89, _ => am_a89
  | 90, _ => am_a90
  | 91, _ => am_a91
  | 92, _ => am_a92
  | 93, _ => am_a93
  | 94, _ => am_a94
  | 95, _ => am_a95
  | 96, _ => am_a96
  | 97, _ => am_a97
  | 98, _ => am_a98
  | 99, _ => am_a99
  | 100, _ => am_a100
  | 101, _ => am_a101
  | 102, _ => am_a102
  | 103, _ => am_a103
  | 104, _ => am_a104
  | 105, _ => am_a105
  | 106, _ => am_a106
  | 107, _ => am_a107
  | 108, _ => am_a108
  | 109, _ => am_a109
  | 110, _ => am_a110
  | 111, _ => am_a111
  | 112, _ => am_a112
  | 113, _ => am_a113
  | 114, _ => am_a114
  | 115, _ => am_a115
  | 116, _ => am_a116
  | 117, _ => am_a117
  | 118, _ => am_a118
  | 119, _ => am_a119
  | 120, _ => am_a120
  | 121, _ => am_a121
  | 122, _ => am_a122
  | 123, _ => am_a123
  | 124, _ => am_a124
  | 125, _ => am_a125
  | 126, _ => am_a126
  | 127, _ => am_a127
  | 128, _ => am_a128
  | 129, _ => am_a129
  | 130, _ => am_a130
  | 131, _ => am_a131
  | 132, _ => am_a132
  | 133, _ => am_a133
  | 134, _ => am_a134
  | 135, _ => am_a135
  | 136, _ => am_a136
  | 137, _ => am_a137
  | 138, _ => am_a138
  | 139, _ => am_a139
  | 140, _ => am_a140
  | 141, _ => am_a141
  | 142, _ => am_a142
  | 143, _ => am_a143
  | 144, _ => am_a144
  | 145, _ => am_a145
  | 146, _ => am_a146
  | 147, _ => am_a147
  | 148, _ => am_a148
  | 149, _ => am_a149
  | 150, _ => am_a150
  | 151, _ => am_a151
  | 152, _ => am_a152
  | 153, _ => am_a153
  | 154, _ => am_a154
  | 155, _ => am_a155
  | 156, _ => am_a156
  | 157, _ => am_a157
  | 158, _ => am_a158
  | 159, _ => am_a159
  | 160, _ => am_a160
  | 161, _ => am_a161
  | 162, _ => am_a162
  | 163, _ => am_a163
  | 164, _ => am_a164
  | 165, _ => am_a165
  | 166, _ => am_a166
  | 167, _ => am_a167
  | 168, _ => am_a168
  | 169, _ => am_a169
  | 170, _ => am_a170
  | 171, _ => am_a171
  | 172, _ => am_a172
  | 173, _ => am_a173
  | 174, _ => am_a174
  | 175, _ => am_a175
  | 176, _ => am_a176
  | 177, _ => am_a177
  | 178, _ => am_a178
  | 179, _ => am_a179
  | 180, _ => am_a180
  | 181, _ => am_a181
  | 182, _ => am_a182
  | 183, _ => am_a183
  | 184, _ => am_a184
  | 185, _ => am_a185
  | 186, _ => am_a186
  | 187, _ => am_a187
  | 188, _ => am_a188
  | 189, _ => am_a189
  | 190, _ => am_a190
  | 191, _ => am_a191
  | 192, _ => am_a192
  | 193, _ => am_a193
  | 194, _ => am_a194
  | 195, _ => am_a195
  | 196, _ => am_a196
  | 197, _ => am_a197
  | 198, _ => am_a198
  | 199, _ => am_a199
  | 200, _ => am_a200
  | 201, _ => am_a201
  | 202, _ => am_a202
  | 203, _ => am_a203
  | 204, _ => am_a204
  | 205, _ => am_a205
  | 206, _ => am_a206
  | 207, _ => am_a207
  | 208, _ => am_a208
  | 209, _ => am_a209
  | 210, _ => am_a210
  | 211, _ => am_a211
  | 212, _ => am_a212
  | 213, _ => am_a213
  | 214, _ => am_a214
  | 215, _ => am_a215
  | 216, _ => am_a216
  | 217, _ => am_a217
  | 218, _ => am_a218
  | 219, _ => am_a219
  | 220, _ => am_a220
  | 221, _ => am_a221
  | 222, _ => am_a222
  | 223, _ => am_a223
  | 224, _ => am_a224
  | 225, _ => am_a225
  | 226, _ => am_a226
  | 227, _ => am_a227
  | 228, _ => am_a228
  | 229, _ => am_a229
  | 230, _ => am_a230
  | 231, _ => am_a231
  | 232, _ => am_a232
  | 233, _ => am_a233
  | 234, _ => am_a234
  | 235, _ => am_a235
  | 236, _ => am_a236
  | 237, _ => am_a237
  | 238, _ => am_a238
  | 239, _ => am_a239
  | 240, _ => am_a240
  | 241, _ => am_a241
  | 242, _ => am_a242
  | 243, _ => am_a243
  | 244, _ => am_a244
  | 245, _ => am_a245
  | 246, _ => am_a246
  | 247, _ => am_a247
  | 248, _ => am_a248
  | 249, _ => am_a249
  | 250, _ => am_a250
  | 251, _ => am_a251
  | 252, _ => am_a252
  | 253, _ => am_a253
  | 254, _ => am_a254
  | 255, _ => am_a255
  | 256, _ => am_a256
  | 257, _ => am_a257
  | 258, _ => am_a258
  | k + 259, h => absurd h (by omega)
theorem am_hT (mi pc : Nat) (i : Instr) (len : Nat) (ops : List Nat) (v : Value) (h : am_P mi pc = some (i, len, ops, v)) : am_okE mi pc (i, len, ops, v) = true := by
  have hm : mi < 259 := by
    rcases Nat.lt_or_ge mi 259 with q | q
    · exact q
    · unfold am_P at h
      rw [Nat.ble_eq_true_of_le q] at h
      cases h
  have h2 := am_aAll mi hm pc
  unfold am_okP at h2
  rw [h] at h2
  exact h2
