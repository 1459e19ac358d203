abbrev am_I0 : am_MI := (yL_law, cL_law, 4, (some .boolean), 10, 1, 0)
theorem am_M0 : am_ML[0]? = some am_I0 := rfl
theorem n_0 {G : Nat → Nat} {d : Nat} {h : am_H} {a0 : Nat} : am_evm G d 0 [.ref a0] h = am_ev G d 0 0 [some (.ref a0), none, none, none] [] h := rfl
abbrev am_I1 : am_MI := (yX0_init, cX0_init, 1, none, 0, 0, 2)
theorem am_M1 : am_ML[1]? = some am_I1 := rfl
theorem n_1 {G : Nat → Nat} {d : Nat} {h : am_H} {a0 : Nat} : am_evm G d 1 [.ref a0] h = am_ev G d 1 0 [some (.ref a0)] [] h := rfl
abbrev am_I2 : am_MI := (yX0_begin, cX0_begin, 1, none, 0, 0, 1)
theorem am_M2 : am_ML[2]? = some am_I2 := rfl
theorem n_2 {G : Nat → Nat} {d : Nat} {h : am_H} {a0 : Nat} : am_evm G d 2 [.ref a0] h = am_ev G d 2 0 [some (.ref a0)] [] h := rfl
abbrev am_I3 : am_MI := (yX0_become, cX0_become, 2, none, 0, 1, 1)
theorem am_M3 : am_ML[3]? = some am_I3 := rfl
theorem n_3 {G : Nat → Nat} {d : Nat} {h : am_H} {a0 : Nat} {a1 : Nat} : am_evm G d 3 [.ref a0, .ref a1] h = am_ev G d 3 0 [some (.ref a0), some (.ref a1)] [] h := rfl
abbrev am_I4 : am_MI := (yX0_takeSaying, cX0_takeSaying, 2, none, 0, 1, 1)
theorem am_M4 : am_ML[4]? = some am_I4 := rfl
theorem n_4 {G : Nat → Nat} {d : Nat} {h : am_H} {a0 : Nat} {a1 : Int32} : am_evm G d 4 [.ref a0, .int a1] h = am_ev G d 4 0 [some (.ref a0), some (.int a1)] [] h := rfl
abbrev am_I5 : am_MI := (yX1_init, cX1_init, 2, none, 1, 0, 2)
theorem am_M5 : am_ML[5]? = some am_I5 := rfl
theorem n_5 {G : Nat → Nat} {d : Nat} {h : am_H} {a0 : Nat} : am_evm G d 5 [.ref a0] h = am_ev G d 5 0 [some (.ref a0), none] [] h := rfl
abbrev am_I6 : am_MI := (yX1_become, cX1_become, 3, none, 1, 1, 1)
theorem am_M6 : am_ML[6]? = some am_I6 := rfl
theorem n_6 {G : Nat → Nat} {d : Nat} {h : am_H} {a0 : Nat} {a1 : Nat} : am_evm G d 6 [.ref a0, .ref a1] h = am_ev G d 6 0 [some (.ref a0), some (.ref a1), none] [] h := rfl
abbrev am_I7 : am_MI := (yX1_hasPerson, cX1_hasPerson, 2, (some .boolean), 1, 1, 1)
theorem am_M7 : am_ML[7]? = some am_I7 := rfl
theorem n_7 {G : Nat → Nat} {d : Nat} {h : am_H} {a0 : Nat} {a1 : Int32} : am_evm G d 7 [.ref a0, .int a1] h = am_ev G d 7 0 [some (.ref a0), some (.int a1)] [] h := rfl
abbrev am_I8 : am_MI := (yX1_hasTwo, cX1_hasTwo, 3, (some .boolean), 1, 2, 1)
theorem am_M8 : am_ML[8]? = some am_I8 := rfl
theorem n_8 {G : Nat → Nat} {d : Nat} {h : am_H} {a0 : Nat} {a1 : Int32} {a2 : Int32} : am_evm G d 8 [.ref a0, .int a1, .int a2] h = am_ev G d 8 0 [some (.ref a0), some (.int a1), some (.int a2)] [] h := rfl
abbrev am_I9 : am_MI := (yX1_hasDeed, cX1_hasDeed, 2, (some .boolean), 1, 1, 1)
theorem am_M9 : am_ML[9]? = some am_I9 := rfl
theorem n_9 {G : Nat → Nat} {d : Nat} {h : am_H} {a0 : Nat} {a1 : Int32} : am_evm G d 9 [.ref a0, .int a1] h = am_ev G d 9 0 [some (.ref a0), some (.int a1)] [] h := rfl
abbrev am_I10 : am_MI := (yX1_canBeDoers, cX1_canBeDoers, 2, (some .boolean), 1, 1, 1)
theorem am_M10 : am_ML[10]? = some am_I10 := rfl
theorem n_10 {G : Nat → Nat} {d : Nat} {h : am_H} {a0 : Nat} {a1 : Int32} : am_evm G d 10 [.ref a0, .int a1] h = am_ev G d 10 0 [some (.ref a0), some (.int a1)] [] h := rfl
abbrev am_I11 : am_MI := (yX1_everyone, cX1_everyone, 1, (some .int), 1, 0, 1)
theorem am_M11 : am_ML[11]? = some am_I11 := rfl
theorem n_11 {G : Nat → Nat} {d : Nat} {h : am_H} {a0 : Nat} : am_evm G d 11 [.ref a0] h = am_ev G d 11 0 [some (.ref a0)] [] h := rfl
abbrev am_I12 : am_MI := (yX1_addPerson, cX1_addPerson, 4, (some .int), 1, 3, 1)
theorem am_M12 : am_ML[12]? = some am_I12 := rfl
theorem n_12 {G : Nat → Nat} {d : Nat} {h : am_H} {a0 : Nat} {a1 : Int32} {a2 : Int32} {a3 : Int32} : am_evm G d 12 [.ref a0, .int a1, .int a2, .int a3] h = am_ev G d 12 0 [some (.ref a0), some (.int a1), some (.int a2), some (.int a3)] [] h := rfl
abbrev am_I13 : am_MI := (yX1_addDeed, cX1_addDeed, 5, (some .int), 1, 3, 1)
theorem am_M13 : am_ML[13]? = some am_I13 := rfl
theorem n_13 {G : Nat → Nat} {d : Nat} {h : am_H} {a0 : Nat} {a1 : Int32} {a2 : Int32} {a3 : Int32} : am_evm G d 13 [.ref a0, .int a1, .int a2, .int a3] h = am_ev G d 13 0 [some (.ref a0), some (.int a1), some (.int a2), some (.int a3), none] [] h := rfl
abbrev am_I14 : am_MI := (yX1_addText, cX1_addText, 2, (some .int), 1, 1, 1)
theorem am_M14 : am_ML[14]? = some am_I14 := rfl
theorem n_14 {G : Nat → Nat} {d : Nat} {h : am_H} {a0 : Nat} {a1 : Nat} : am_evm G d 14 [.ref a0, .ref a1] h = am_ev G d 14 0 [some (.ref a0), some (.ref a1)] [] h := rfl
abbrev am_I15 : am_MI := (yX1_draw, cX1_draw, 1, (some .int), 1, 0, 1)
theorem am_M15 : am_ML[15]? = some am_I15 := rfl
theorem n_15 {G : Nat → Nat} {d : Nat} {h : am_H} {a0 : Nat} : am_evm G d 15 [.ref a0] h = am_ev G d 15 0 [some (.ref a0)] [] h := rfl
abbrev am_I16 : am_MI := (yX1_drawPerson, cX1_drawPerson, 4, none, 1, 0, 1)
theorem am_M16 : am_ML[16]? = some am_I16 := rfl
theorem n_16 {G : Nat → Nat} {d : Nat} {h : am_H} {a0 : Nat} : am_evm G d 16 [.ref a0] h = am_ev G d 16 0 [some (.ref a0), none, none, none] [] h := rfl
abbrev am_I17 : am_MI := (yX1_workOutFollowers, cX1_workOutFollowers, 3, none, 1, 0, 1)
theorem am_M17 : am_ML[17]? = some am_I17 := rfl
theorem n_17 {G : Nat → Nat} {d : Nat} {h : am_H} {a0 : Nat} : am_evm G d 17 [.ref a0] h = am_ev G d 17 0 [some (.ref a0), none, none] [] h := rfl
abbrev am_I18 : am_MI := (yX1_goersBy, cX1_goersBy, 2, (some .int), 1, 1, 1)
theorem am_M18 : am_ML[18]? = some am_I18 := rfl
theorem n_18 {G : Nat → Nat} {d : Nat} {h : am_H} {a0 : Nat} {a1 : Int32} : am_evm G d 18 [.ref a0, .int a1] h = am_ev G d 18 0 [some (.ref a0), some (.int a1)] [] h := rfl
abbrev am_I19 : am_MI := (yX1_leftOn, cX1_leftOn, 2, (some .int), 1, 1, 1)
theorem am_M19 : am_ML[19]? = some am_I19 := rfl
theorem n_19 {G : Nat → Nat} {d : Nat} {h : am_H} {a0 : Nat} {a1 : Nat} : am_evm G d 19 [.ref a0, .ref a1] h = am_ev G d 19 0 [some (.ref a0), some (.ref a1)] [] h := rfl
abbrev am_I20 : am_MI := (yX1_leftCount, cX1_leftCount, 2, (some .int), 1, 1, 1)
theorem am_M20 : am_ML[20]? = some am_I20 := rfl
theorem n_20 {G : Nat → Nat} {d : Nat} {h : am_H} {a0 : Nat} {a1 : Nat} : am_evm G d 20 [.ref a0, .ref a1] h = am_ev G d 20 0 [some (.ref a0), some (.ref a1)] [] h := rfl
abbrev am_I21 : am_MI := (yX1_deedsWithout, cX1_deedsWithout, 4, (some .int), 1, 1, 1)
theorem am_M21 : am_ML[21]? = some am_I21 := rfl
theorem n_21 {G : Nat → Nat} {d : Nat} {h : am_H} {a0 : Nat} {a1 : Int32} : am_evm G d 21 [.ref a0, .int a1] h = am_ev G d 21 0 [some (.ref a0), some (.int a1), none, none] [] h := rfl
abbrev am_I22 : am_MI := (yX1_sayingsOfAll, cX1_sayingsOfAll, 3, (some .int), 1, 0, 1)
theorem am_M22 : am_ML[22]? = some am_I22 := rfl
theorem n_22 {G : Nat → Nat} {d : Nat} {h : am_H} {a0 : Nat} : am_evm G d 22 [.ref a0] h = am_ev G d 22 0 [some (.ref a0), none, none] [] h := rfl
abbrev am_I23 : am_MI := (yX1_liesOfAll, cX1_liesOfAll, 3, (some .int), 1, 0, 1)
theorem am_M23 : am_ML[23]? = some am_I23 := rfl
theorem n_23 {G : Nat → Nat} {d : Nat} {h : am_H} {a0 : Nat} : am_evm G d 23 [.ref a0] h = am_ev G d 23 0 [some (.ref a0), none, none] [] h := rfl
abbrev am_I24 : am_MI := (yX1_lawOf, cX1_lawOf, 2, (some (.object "NeverSaid$Text")), 1, 1, 1)
theorem am_M24 : am_ML[24]? = some am_I24 := rfl
theorem n_24 {G : Nat → Nat} {d : Nat} {h : am_H} {a0 : Nat} {a1 : Int32} : am_evm G d 24 [.ref a0, .int a1] h = am_ev G d 24 0 [some (.ref a0), some (.int a1)] [] h := rfl
abbrev am_I25 : am_MI := (yX1_costOf, cX1_costOf, 3, (some .int), 1, 1, 1)
theorem am_M25 : am_ML[25]? = some am_I25 := rfl
theorem n_25 {G : Nat → Nat} {d : Nat} {h : am_H} {a0 : Nat} {a1 : Nat} : am_evm G d 25 [.ref a0, .ref a1] h = am_ev G d 25 0 [some (.ref a0), some (.ref a1), none] [] h := rfl
abbrev am_I26 : am_MI := (yX1_boldOf, cX1_boldOf, 5, (some .int), 1, 2, 1)
theorem am_M26 : am_ML[26]? = some am_I26 := rfl
theorem n_26 {G : Nat → Nat} {d : Nat} {h : am_H} {a0 : Nat} {a1 : Int32} {a2 : Nat} : am_evm G d 26 [.ref a0, .int a1, .ref a2] h = am_ev G d 26 0 [some (.ref a0), some (.int a1), some (.ref a2), none, none] [] h := rfl
abbrev am_I27 : am_MI := (yX1_mayBe, cX1_mayBe, 6, (some .boolean), 1, 3, 1)
theorem am_M27 : am_ML[27]? = some am_I27 := rfl
theorem n_27 {G : Nat → Nat} {d : Nat} {h : am_H} {a0 : Nat} {a1 : Int32} {a2 : Nat} {a3 : Int32} : am_evm G d 27 [.ref a0, .int a1, .ref a2, .int a3] h = am_ev G d 27 0 [some (.ref a0), some (.int a1), some (.ref a2), some (.int a3), none, none] [] h := rfl
abbrev am_I28 : am_MI := (yX1_allOfWhomItMayBe, cX1_allOfWhomItMayBe, 5, (some .int), 1, 2, 1)
theorem am_M28 : am_ML[28]? = some am_I28 := rfl
theorem n_28 {G : Nat → Nat} {d : Nat} {h : am_H} {a0 : Nat} {a1 : Int32} {a2 : Nat} : am_evm G d 28 [.ref a0, .int a1, .ref a2] h = am_ev G d 28 0 [some (.ref a0), some (.int a1), some (.ref a2), none, none] [] h := rfl
abbrev am_I29 : am_MI := (yX1_allOfWhomItIsALie, cX1_allOfWhomItIsALie, 4, (some .int), 1, 1, 1)
theorem am_M29 : am_ML[29]? = some am_I29 := rfl
theorem n_29 {G : Nat → Nat} {d : Nat} {h : am_H} {a0 : Nat} {a1 : Nat} : am_evm G d 29 [.ref a0, .ref a1] h = am_ev G d 29 0 [some (.ref a0), some (.ref a1), none, none] [] h := rfl
abbrev am_I30 : am_MI := (yX1_chosenBy, cX1_chosenBy, 6, (some .int), 1, 2, 1)
theorem am_M30 : am_ML[30]? = some am_I30 := rfl
theorem n_30 {G : Nat → Nat} {d : Nat} {h : am_H} {a0 : Nat} {a1 : Int32} {a2 : Nat} : am_evm G d 30 [.ref a0, .int a1, .ref a2] h = am_ev G d 30 0 [some (.ref a0), some (.int a1), some (.ref a2), none, none, none] [] h := rfl
abbrev am_I31 : am_MI := (yX1_firstOf, cX1_firstOf, 3, (some .int), 1, 2, 1)
theorem am_M31 : am_ML[31]? = some am_I31 := rfl
theorem n_31 {G : Nat → Nat} {d : Nat} {h : am_H} {a0 : Nat} {a1 : Int32} {a2 : Int32} : am_evm G d 31 [.ref a0, .int a1, .int a2] h = am_ev G d 31 0 [some (.ref a0), some (.int a1), some (.int a2)] [] h := rfl
abbrev am_I32 : am_MI := (yX1_playRound, cX1_playRound, 4, none, 1, 1, 1)
theorem am_M32 : am_ML[32]? = some am_I32 := rfl
theorem n_32 {G : Nat → Nat} {d : Nat} {h : am_H} {a0 : Nat} {a1 : Nat} : am_evm G d 32 [.ref a0, .ref a1] h = am_ev G d 32 0 [some (.ref a0), some (.ref a1), none, none] [] h := rfl
abbrev am_I33 : am_MI := (yX1_fewestFor, cX1_fewestFor, 5, (some .int), 1, 1, 1)
theorem am_M33 : am_ML[33]? = some am_I33 := rfl
theorem n_33 {G : Nat → Nat} {d : Nat} {h : am_H} {a0 : Nat} {a1 : Nat} : am_evm G d 33 [.ref a0, .ref a1] h = am_ev G d 33 0 [some (.ref a0), some (.ref a1), none, none, none] [] h := rfl
abbrev am_I34 : am_MI := (yX1_isFirstToBeNamed, cX1_isFirstToBeNamed, 5, (some .boolean), 1, 2, 1)
theorem am_M34 : am_ML[34]? = some am_I34 := rfl
theorem n_34 {G : Nat → Nat} {d : Nat} {h : am_H} {a0 : Nat} {a1 : Int32} {a2 : Int32} : am_evm G d 34 [.ref a0, .int a1, .int a2] h = am_ev G d 34 0 [some (.ref a0), some (.int a1), some (.int a2), none, none] [] h := rfl
abbrev am_I35 : am_MI := (yX1_shareOf, cX1_shareOf, 5, (some .int), 1, 1, 1)
theorem am_M35 : am_ML[35]? = some am_I35 := rfl
theorem n_35 {G : Nat → Nat} {d : Nat} {h : am_H} {a0 : Nat} {a1 : Int32} : am_evm G d 35 [.ref a0, .int a1] h = am_ev G d 35 0 [some (.ref a0), some (.int a1), none, none, none] [] h := rfl
abbrev am_I36 : am_MI := (yX2_init, cX2_init, 1, none, 2, 0, 2)
theorem am_M36 : am_ML[36]? = some am_I36 := rfl
theorem n_36 {G : Nat → Nat} {d : Nat} {h : am_H} {a0 : Nat} : am_evm G d 36 [.ref a0] h = am_ev G d 36 0 [some (.ref a0)] [] h := rfl
abbrev am_I37 : am_MI := (yX2_begin, cX2_begin, 4, none, 2, 3, 1)
theorem am_M37 : am_ML[37]? = some am_I37 := rfl
theorem n_37 {G : Nat → Nat} {d : Nat} {h : am_H} {a0 : Nat} {a1 : Int32} {a2 : Int32} {a3 : Int32} : am_evm G d 37 [.ref a0, .int a1, .int a2, .int a3] h = am_ev G d 37 0 [some (.ref a0), some (.int a1), some (.int a2), some (.int a3)] [] h := rfl
abbrev am_I38 : am_MI := (yX2_become, cX2_become, 2, none, 2, 1, 1)
theorem am_M38 : am_ML[38]? = some am_I38 := rfl
theorem n_38 {G : Nat → Nat} {d : Nat} {h : am_H} {a0 : Nat} {a1 : Nat} : am_evm G d 38 [.ref a0, .ref a1] h = am_ev G d 38 0 [some (.ref a0), some (.ref a1)] [] h := rfl
abbrev am_I39 : am_MI := (yX2_isOf, cX2_isOf, 4, (some .boolean), 2, 1, 1)
theorem am_M39 : am_ML[39]? = some am_I39 := rfl
theorem n_39 {G : Nat → Nat} {d : Nat} {h : am_H} {a0 : Nat} {a1 : Int32} : am_evm G d 39 [.ref a0, .int a1] h = am_ev G d 39 0 [some (.ref a0), some (.int a1), none, none] [] h := rfl
abbrev am_I40 : am_MI := (yX2_worth, cX2_worth, 1, (some .int), 2, 0, 1)
theorem am_M40 : am_ML[40]? = some am_I40 := rfl
theorem n_40 {G : Nat → Nat} {d : Nat} {h : am_H} {a0 : Nat} : am_evm G d 40 [.ref a0] h = am_ev G d 40 0 [some (.ref a0)] [] h := rfl
abbrev am_I41 : am_MI := (yX3_init, cX3_init, 1, none, 3, 0, 2)
theorem am_M41 : am_ML[41]? = some am_I41 := rfl
theorem n_41 {G : Nat → Nat} {d : Nat} {h : am_H} {a0 : Nat} : am_evm G d 41 [.ref a0] h = am_ev G d 41 0 [some (.ref a0)] [] h := rfl
abbrev am_I42 : am_MI := (yX3_readTape, cX3_readTape, 1, (some (.object "NeverSaid$Text")), 3, 0, 1)
theorem am_M42 : am_ML[42]? = some am_I42 := rfl
theorem n_42 {G : Nat → Nat} {d : Nat} {h : am_H} {a0 : Nat} : am_evm G d 42 [.ref a0] h = am_ev G d 42 0 [some (.ref a0)] [] h := rfl
abbrev am_I43 : am_MI := (yX3_usedCode, cX3_usedCode, 2, (some (.array .int)), 3, 0, 1)
theorem am_M43 : am_ML[43]? = some am_I43 := rfl
theorem n_43 {G : Nat → Nat} {d : Nat} {h : am_H} {a0 : Nat} : am_evm G d 43 [.ref a0] h = am_ev G d 43 0 [some (.ref a0), none] [] h := rfl
abbrev am_I44 : am_MI := (yX3_splitTape, cX3_splitTape, 5, none, 3, 0, 1)
theorem am_M44 : am_ML[44]? = some am_I44 := rfl
theorem n_44 {G : Nat → Nat} {d : Nat} {h : am_H} {a0 : Nat} : am_evm G d 44 [.ref a0] h = am_ev G d 44 0 [some (.ref a0), none, none, none, none] [] h := rfl
abbrev am_I45 : am_MI := (yX3_addWord, cX3_addWord, 3, none, 3, 2, 1)
theorem am_M45 : am_ML[45]? = some am_I45 := rfl
theorem n_45 {G : Nat → Nat} {d : Nat} {h : am_H} {a0 : Nat} {a1 : Int32} {a2 : Int32} : am_evm G d 45 [.ref a0, .int a1, .int a2] h = am_ev G d 45 0 [some (.ref a0), some (.int a1), some (.int a2)] [] h := rfl
abbrev am_I46 : am_MI := (yX3_sortOf, cX3_sortOf, 1, (some .int), 3, 1, 0)
theorem am_M46 : am_ML[46]? = some am_I46 := rfl
theorem n_46 {G : Nat → Nat} {d : Nat} {h : am_H} {a0 : Int32} : am_evm G d 46 [.int a0] h = am_ev G d 46 0 [some (.int a0)] [] h := rfl
abbrev am_I47 : am_MI := (yX3_fail, cX3_fail, 1, none, 3, 0, 1)
theorem am_M47 : am_ML[47]? = some am_I47 := rfl
theorem n_47 {G : Nat → Nat} {d : Nat} {h : am_H} {a0 : Nat} : am_evm G d 47 [.ref a0] h = am_ev G d 47 0 [some (.ref a0)] [] h := rfl
abbrev am_I48 : am_MI := (yX3_goOn, cX3_goOn, 1, none, 3, 0, 1)
theorem am_M48 : am_ML[48]? = some am_I48 := rfl
theorem n_48 {G : Nat → Nat} {d : Nat} {h : am_H} {a0 : Nat} : am_evm G d 48 [.ref a0] h = am_ev G d 48 0 [some (.ref a0)] [] h := rfl
abbrev am_I49 : am_MI := (yX3_sign, cX3_sign, 1, (some .int), 3, 0, 1)
theorem am_M49 : am_ML[49]? = some am_I49 := rfl
theorem n_49 {G : Nat → Nat} {d : Nat} {h : am_H} {a0 : Nat} : am_evm G d 49 [.ref a0] h = am_ev G d 49 0 [some (.ref a0)] [] h := rfl
abbrev am_I50 : am_MI := (yX3_readKey, cX3_readKey, 1, none, 3, 0, 1)
theorem am_M50 : am_ML[50]? = some am_I50 := rfl
theorem n_50 {G : Nat → Nat} {d : Nat} {h : am_H} {a0 : Nat} : am_evm G d 50 [.ref a0] h = am_ev G d 50 0 [some (.ref a0)] [] h := rfl
abbrev am_I51 : am_MI := (yX3_isWord, cX3_isWord, 3, (some .boolean), 3, 1, 1)
theorem am_M51 : am_ML[51]? = some am_I51 := rfl
theorem n_51 {G : Nat → Nat} {d : Nat} {h : am_H} {a0 : Nat} {a1 : Nat} : am_evm G d 51 [.ref a0, .ref a1] h = am_ev G d 51 0 [some (.ref a0), some (.ref a1), none] [] h := rfl
abbrev am_I52 : am_MI := (yX3_readSide, cX3_readSide, 7, none, 3, 3, 1)
theorem am_M52 : am_ML[52]? = some am_I52 := rfl
theorem n_52 {G : Nat → Nat} {d : Nat} {h : am_H} {a0 : Nat} {a1 : Int32} {a2 : Int32} {a3 : Int32} : am_evm G d 52 [.ref a0, .int a1, .int a2, .int a3] h = am_ev G d 52 0 [some (.ref a0), some (.int a1), some (.int a2), some (.int a3), none, none, none] [] h := rfl
abbrev am_I53 : am_MI := (yX3_levelOf, cX3_levelOf, 1, (some .int), 3, 1, 0)
theorem am_M53 : am_ML[53]? = some am_I53 := rfl
theorem n_53 {G : Nat → Nat} {d : Nat} {h : am_H} {a0 : Int32} : am_evm G d 53 [.int a0] h = am_ev G d 53 0 [some (.int a0)] [] h := rfl
abbrev am_I54 : am_MI := (yX3_readPiece, cX3_readPiece, 3, none, 3, 2, 1)
theorem am_M54 : am_ML[54]? = some am_I54 := rfl
theorem n_54 {G : Nat → Nat} {d : Nat} {h : am_H} {a0 : Nat} {a1 : Int32} {a2 : Int32} : am_evm G d 54 [.ref a0, .int a1, .int a2] h = am_ev G d 54 0 [some (.ref a0), some (.int a1), some (.int a2)] [] h := rfl
abbrev am_I55 : am_MI := (yX3_readClose, cX3_readClose, 1, none, 3, 0, 1)
theorem am_M55 : am_ML[55]? = some am_I55 := rfl
theorem n_55 {G : Nat → Nat} {d : Nat} {h : am_H} {a0 : Nat} : am_evm G d 55 [.ref a0] h = am_ev G d 55 0 [some (.ref a0)] [] h := rfl
abbrev am_I56 : am_MI := (yX3_readNumber, cX3_readNumber, 3, none, 3, 0, 1)
theorem am_M56 : am_ML[56]? = some am_I56 := rfl
theorem n_56 {G : Nat → Nat} {d : Nat} {h : am_H} {a0 : Nat} : am_evm G d 56 [.ref a0] h = am_ev G d 56 0 [some (.ref a0), none, none] [] h := rfl
abbrev am_I57 : am_MI := (yX3_readName, cX3_readName, 4, none, 3, 0, 1)
theorem am_M57 : am_ML[57]? = some am_I57 := rfl
theorem n_57 {G : Nat → Nat} {d : Nat} {h : am_H} {a0 : Nat} : am_evm G d 57 [.ref a0] h = am_ev G d 57 0 [some (.ref a0), none, none, none] [] h := rfl
abbrev am_I58 : am_MI := (yX3_addPiece, cX3_addPiece, 2, none, 3, 1, 1)
theorem am_M58 : am_ML[58]? = some am_I58 := rfl
theorem n_58 {G : Nat → Nat} {d : Nat} {h : am_H} {a0 : Nat} {a1 : Int32} : am_evm G d 58 [.ref a0, .int a1] h = am_ev G d 58 0 [some (.ref a0), some (.int a1)] [] h := rfl
abbrev am_I59 : am_MI := (yX3_addStep, cX3_addStep, 2, none, 3, 1, 1)
theorem am_M59 : am_ML[59]? = some am_I59 := rfl
theorem n_59 {G : Nat → Nat} {d : Nat} {h : am_H} {a0 : Nat} {a1 : Int32} : am_evm G d 59 [.ref a0, .int a1] h = am_ev G d 59 0 [some (.ref a0), some (.int a1)] [] h := rfl
abbrev am_I60 : am_MI := (yX4_init, cX4_init, 1, none, 4, 0, 2)
theorem am_M60 : am_ML[60]? = some am_I60 := rfl
theorem n_60 {G : Nat → Nat} {d : Nat} {h : am_H} {a0 : Nat} : am_evm G d 60 [.ref a0] h = am_ev G d 60 0 [some (.ref a0)] [] h := rfl
abbrev am_I61 : am_MI := (yX4_begin, cX4_begin, 4, none, 4, 2, 1)
theorem am_M61 : am_ML[61]? = some am_I61 := rfl
theorem n_61 {G : Nat → Nat} {d : Nat} {h : am_H} {a0 : Nat} {a1 : Int32} {a2 : Int32} : am_evm G d 61 [.ref a0, .int a1, .int a2] h = am_ev G d 61 0 [some (.ref a0), some (.int a1), some (.int a2), none] [] h := rfl
abbrev am_I62 : am_MI := (yX4_become, cX4_become, 2, none, 4, 1, 1)
theorem am_M62 : am_ML[62]? = some am_I62 := rfl
theorem n_62 {G : Nat → Nat} {d : Nat} {h : am_H} {a0 : Nat} {a1 : Nat} : am_evm G d 62 [.ref a0, .ref a1] h = am_ev G d 62 0 [some (.ref a0), some (.ref a1)] [] h := rfl
abbrev am_I63 : am_MI := (yX4_hasPlace, cX4_hasPlace, 2, (some .boolean), 4, 1, 1)
theorem am_M63 : am_ML[63]? = some am_I63 := rfl
theorem n_63 {G : Nat → Nat} {d : Nat} {h : am_H} {a0 : Nat} {a1 : Int32} : am_evm G d 63 [.ref a0, .int a1] h = am_ev G d 63 0 [some (.ref a0), some (.int a1)] [] h := rfl
abbrev am_I64 : am_MI := (yX4_hasStretch, cX4_hasStretch, 3, (some .boolean), 4, 2, 1)
theorem am_M64 : am_ML[64]? = some am_I64 := rfl
theorem n_64 {G : Nat → Nat} {d : Nat} {h : am_H} {a0 : Nat} {a1 : Int32} {a2 : Int32} : am_evm G d 64 [.ref a0, .int a1, .int a2] h = am_ev G d 64 0 [some (.ref a0), some (.int a1), some (.int a2)] [] h := rfl
abbrev am_I65 : am_MI := (yX5_init, cX5_init, 1, none, 5, 0, 2)
theorem am_M65 : am_ML[65]? = some am_I65 := rfl
theorem n_65 {G : Nat → Nat} {d : Nat} {h : am_H} {a0 : Nat} : am_evm G d 65 [.ref a0] h = am_ev G d 65 0 [some (.ref a0)] [] h := rfl
abbrev am_I66 : am_MI := (yX5_findingFor, cX5_findingFor, 2, (some .int), 5, 1, 1)
theorem am_M66 : am_ML[66]? = some am_I66 := rfl
theorem n_66 {G : Nat → Nat} {d : Nat} {h : am_H} {a0 : Nat} {a1 : Int32} : am_evm G d 66 [.ref a0, .int a1] h = am_ev G d 66 0 [some (.ref a0), some (.int a1)] [] h := rfl
abbrev am_I67 : am_MI := (yX6_init, cX6_init, 1, none, 6, 0, 2)
theorem am_M67 : am_ML[67]? = some am_I67 := rfl
theorem n_67 {G : Nat → Nat} {d : Nat} {h : am_H} {a0 : Nat} : am_evm G d 67 [.ref a0] h = am_ev G d 67 0 [some (.ref a0)] [] h := rfl
abbrev am_I68 : am_MI := (yX6_add, cX6_add, 3, none, 6, 1, 1)
theorem am_M68 : am_ML[68]? = some am_I68 := rfl
theorem n_68 {G : Nat → Nat} {d : Nat} {h : am_H} {a0 : Nat} {a1 : Int32} : am_evm G d 68 [.ref a0, .int a1] h = am_ev G d 68 0 [some (.ref a0), some (.int a1), none] [] h := rfl
abbrev am_I69 : am_MI := (yX6_at, cX6_at, 2, (some .int), 6, 1, 1)
theorem am_M69 : am_ML[69]? = some am_I69 := rfl
theorem n_69 {G : Nat → Nat} {d : Nat} {h : am_H} {a0 : Nat} {a1 : Int32} : am_evm G d 69 [.ref a0, .int a1] h = am_ev G d 69 0 [some (.ref a0), some (.int a1)] [] h := rfl
abbrev am_I70 : am_MI := (yX7_init, cX7_init, 4, none, 7, 3, 2)
theorem am_M70 : am_ML[70]? = some am_I70 := rfl
theorem n_70 {G : Nat → Nat} {d : Nat} {h : am_H} {a0 : Nat} {a1 : Int32} {a2 : Int32} {a3 : Nat} : am_evm G d 70 [.ref a0, .int a1, .int a2, .ref a3] h = am_ev G d 70 0 [some (.ref a0), some (.int a1), some (.int a2), some (.ref a3)] [] h := rfl
abbrev am_I71 : am_MI := (yX7_valueOf, cX7_valueOf, 8, (some .int), 7, 4, 1)
theorem am_M71 : am_ML[71]? = some am_I71 := rfl
theorem n_71 {G : Nat → Nat} {d : Nat} {h : am_H} {a0 : Nat} {a1 : Nat} {a2 : Int32} {a3 : Int32} {a4 : Int32} : am_evm G d 71 [.ref a0, .ref a1, .int a2, .int a3, .int a4] h = am_ev G d 71 0 [some (.ref a0), some (.ref a1), some (.int a2), some (.int a3), some (.int a4), none, none, none] [] h := rfl
abbrev am_I72 : am_MI := (yX7_joined, cX7_joined, 3, (some .int), 7, 3, 0)
theorem am_M72 : am_ML[72]? = some am_I72 := rfl
theorem n_72 {G : Nat → Nat} {d : Nat} {h : am_H} {a0 : Int32} {a1 : Int32} {a2 : Int32} : am_evm G d 72 [.int a0, .int a1, .int a2] h = am_ev G d 72 0 [some (.int a0), some (.int a1), some (.int a2)] [] h := rfl
abbrev am_I73 : am_MI := (yX8_init, cX8_init, 2, none, 8, 0, 2)
theorem am_M73 : am_ML[73]? = some am_I73 := rfl
theorem n_73 {G : Nat → Nat} {d : Nat} {h : am_H} {a0 : Nat} : am_evm G d 73 [.ref a0] h = am_ev G d 73 0 [some (.ref a0), none] [] h := rfl
abbrev am_I74 : am_MI := (yX8_person, cX8_person, 3, (some .int), 8, 2, 1)
theorem am_M74 : am_ML[74]? = some am_I74 := rfl
theorem n_74 {G : Nat → Nat} {d : Nat} {h : am_H} {a0 : Nat} {a1 : Int32} {a2 : Int32} : am_evm G d 74 [.ref a0, .int a1, .int a2] h = am_ev G d 74 0 [some (.ref a0), some (.int a1), some (.int a2)] [] h := rfl
abbrev am_I75 : am_MI := (yX8_told, cX8_told, 4, (some .int), 8, 2, 1)
theorem am_M75 : am_ML[75]? = some am_I75 := rfl
theorem n_75 {G : Nat → Nat} {d : Nat} {h : am_H} {a0 : Nat} {a1 : Int32} {a2 : Int32} : am_evm G d 75 [.ref a0, .int a1, .int a2] h = am_ev G d 75 0 [some (.ref a0), some (.int a1), some (.int a2), none] [] h := rfl
abbrev am_I76 : am_MI := (yX8_as, cX8_as, 4, (some .int), 8, 2, 1)
theorem am_M76 : am_ML[76]? = some am_I76 := rfl
theorem n_76 {G : Nat → Nat} {d : Nat} {h : am_H} {a0 : Nat} {a1 : Int32} {a2 : Int32} : am_evm G d 76 [.ref a0, .int a1, .int a2] h = am_ev G d 76 0 [some (.ref a0), some (.int a1), some (.int a2), none] [] h := rfl
abbrev am_I77 : am_MI := (yX8_turns, cX8_turns, 4, (some .int), 8, 2, 1)
theorem am_M77 : am_ML[77]? = some am_I77 := rfl
theorem n_77 {G : Nat → Nat} {d : Nat} {h : am_H} {a0 : Nat} {a1 : Int32} {a2 : Int32} : am_evm G d 77 [.ref a0, .int a1, .int a2] h = am_ev G d 77 0 [some (.ref a0), some (.int a1), some (.int a2), none] [] h := rfl
abbrev am_I78 : am_MI := (yX8_bolder, cX8_bolder, 4, (some .int), 8, 2, 1)
theorem am_M78 : am_ML[78]? = some am_I78 := rfl
theorem n_78 {G : Nat → Nat} {d : Nat} {h : am_H} {a0 : Nat} {a1 : Int32} {a2 : Int32} : am_evm G d 78 [.ref a0, .int a1, .int a2] h = am_ev G d 78 0 [some (.ref a0), some (.int a1), some (.int a2), none] [] h := rfl
abbrev am_I79 : am_MI := (yX8_away, cX8_away, 6, (some .int), 8, 3, 1)
theorem am_M79 : am_ML[79]? = some am_I79 := rfl
theorem n_79 {G : Nat → Nat} {d : Nat} {h : am_H} {a0 : Nat} {a1 : Int32} {a2 : Int32} {a3 : Int32} : am_evm G d 79 [.ref a0, .int a1, .int a2, .int a3] h = am_ev G d 79 0 [some (.ref a0), some (.int a1), some (.int a2), some (.int a3), none, none] [] h := rfl
abbrev am_I80 : am_MI := (yX8_friend, cX8_friend, 7, (some .int), 8, 3, 1)
theorem am_M80 : am_ML[80]? = some am_I80 := rfl
theorem n_80 {G : Nat → Nat} {d : Nat} {h : am_H} {a0 : Nat} {a1 : Int32} {a2 : Int32} {a3 : Int32} : am_evm G d 80 [.ref a0, .int a1, .int a2, .int a3] h = am_ev G d 80 0 [some (.ref a0), some (.int a1), some (.int a2), some (.int a3), none, none, none] [] h := rfl
abbrev am_I81 : am_MI := (yX8_follow, cX8_follow, 6, (some .int), 8, 3, 1)
theorem am_M81 : am_ML[81]? = some am_I81 := rfl
theorem n_81 {G : Nat → Nat} {d : Nat} {h : am_H} {a0 : Nat} {a1 : Int32} {a2 : Int32} {a3 : Int32} : am_evm G d 81 [.ref a0, .int a1, .int a2, .int a3] h = am_ev G d 81 0 [some (.ref a0), some (.int a1), some (.int a2), some (.int a3), none, none] [] h := rfl
abbrev am_I82 : am_MI := (yX8_deal, cX8_deal, 4, (some .int), 8, 1, 1)
theorem am_M82 : am_ML[82]? = some am_I82 := rfl
theorem n_82 {G : Nat → Nat} {d : Nat} {h : am_H} {a0 : Nat} {a1 : Int32} : am_evm G d 82 [.ref a0, .int a1] h = am_ev G d 82 0 [some (.ref a0), some (.int a1), none, none] [] h := rfl
abbrev am_I83 : am_MI := (yX8_seed, cX8_seed, 3, (some .int), 8, 1, 1)
theorem am_M83 : am_ML[83]? = some am_I83 := rfl
theorem n_83 {G : Nat → Nat} {d : Nat} {h : am_H} {a0 : Nat} {a1 : Int32} : am_evm G d 83 [.ref a0, .int a1] h = am_ev G d 83 0 [some (.ref a0), some (.int a1), none] [] h := rfl
abbrev am_I84 : am_MI := (yX8_deed, cX8_deed, 4, (some .int), 8, 3, 1)
theorem am_M84 : am_ML[84]? = some am_I84 := rfl
theorem n_84 {G : Nat → Nat} {d : Nat} {h : am_H} {a0 : Nat} {a1 : Int32} {a2 : Int32} {a3 : Int32} : am_evm G d 84 [.ref a0, .int a1, .int a2, .int a3] h = am_ev G d 84 0 [some (.ref a0), some (.int a1), some (.int a2), some (.int a3)] [] h := rfl
abbrev am_I85 : am_MI := (yX8_deedTold, cX8_deedTold, 4, (some .int), 8, 2, 1)
theorem am_M85 : am_ML[85]? = some am_I85 := rfl
theorem n_85 {G : Nat → Nat} {d : Nat} {h : am_H} {a0 : Nat} {a1 : Int32} {a2 : Int32} : am_evm G d 85 [.ref a0, .int a1, .int a2] h = am_ev G d 85 0 [some (.ref a0), some (.int a1), some (.int a2), none] [] h := rfl
abbrev am_I86 : am_MI := (yX8_again, cX8_again, 4, (some .int), 8, 1, 1)
theorem am_M86 : am_ML[86]? = some am_I86 := rfl
theorem n_86 {G : Nat → Nat} {d : Nat} {h : am_H} {a0 : Nat} {a1 : Int32} : am_evm G d 86 [.ref a0, .int a1] h = am_ev G d 86 0 [some (.ref a0), some (.int a1), none, none] [] h := rfl
abbrev am_I87 : am_MI := (yX8_stop, cX8_stop, 3, (some .int), 8, 1, 1)
theorem am_M87 : am_ML[87]? = some am_I87 := rfl
theorem n_87 {G : Nat → Nat} {d : Nat} {h : am_H} {a0 : Nat} {a1 : Int32} : am_evm G d 87 [.ref a0, .int a1] h = am_ev G d 87 0 [some (.ref a0), some (.int a1), none] [] h := rfl
abbrev am_I88 : am_MI := (yX8_say, cX8_say, 5, (some .int), 8, 3, 1)
theorem am_M88 : am_ML[88]? = some am_I88 := rfl
theorem n_88 {G : Nat → Nat} {d : Nat} {h : am_H} {a0 : Nat} {a1 : Int32} {a2 : Int32} {a3 : Int32} : am_evm G d 88 [.ref a0, .int a1, .int a2, .int a3] h = am_ev G d 88 0 [some (.ref a0), some (.int a1), some (.int a2), some (.int a3), none] [] h := rfl
abbrev am_I89 : am_MI := (yX8_choice, cX8_choice, 3, (some .int), 8, 2, 1)
theorem am_M89 : am_ML[89]? = some am_I89 := rfl
theorem n_89 {G : Nat → Nat} {d : Nat} {h : am_H} {a0 : Nat} {a1 : Int32} {a2 : Int32} : am_evm G d 89 [.ref a0, .int a1, .int a2] h = am_ev G d 89 0 [some (.ref a0), some (.int a1), some (.int a2)] [] h := rfl
abbrev am_I90 : am_MI := (yX8_rounds, cX8_rounds, 6, (some .int), 8, 2, 1)
theorem am_M90 : am_ML[90]? = some am_I90 := rfl
theorem n_90 {G : Nat → Nat} {d : Nat} {h : am_H} {a0 : Nat} {a1 : Int32} {a2 : Int32} : am_evm G d 90 [.ref a0, .int a1, .int a2] h = am_ev G d 90 0 [some (.ref a0), some (.int a1), some (.int a2), none, none, none] [] h := rfl
abbrev am_I91 : am_MI := (yX8_fewest, cX8_fewest, 4, (some .int), 8, 2, 1)
theorem am_M91 : am_ML[91]? = some am_I91 := rfl
theorem n_91 {G : Nat → Nat} {d : Nat} {h : am_H} {a0 : Nat} {a1 : Int32} {a2 : Int32} : am_evm G d 91 [.ref a0, .int a1, .int a2] h = am_ev G d 91 0 [some (.ref a0), some (.int a1), some (.int a2), none] [] h := rfl
abbrev am_I92 : am_MI := (yX8_silent, cX8_silent, 3, (some .int), 8, 0, 1)
theorem am_M92 : am_ML[92]? = some am_I92 := rfl
theorem n_92 {G : Nat → Nat} {d : Nat} {h : am_H} {a0 : Nat} : am_evm G d 92 [.ref a0] h = am_ev G d 92 0 [some (.ref a0), none, none] [] h := rfl
abbrev am_I93 : am_MI := (yX8_meant, cX8_meant, 4, (some .int), 8, 1, 1)
theorem am_M93 : am_ML[93]? = some am_I93 := rfl
theorem n_93 {G : Nat → Nat} {d : Nat} {h : am_H} {a0 : Nat} {a1 : Int32} : am_evm G d 93 [.ref a0, .int a1] h = am_ev G d 93 0 [some (.ref a0), some (.int a1), none, none] [] h := rfl
abbrev am_I94 : am_MI := (yX8_proved, cX8_proved, 5, (some .int), 8, 1, 1)
theorem am_M94 : am_ML[94]? = some am_I94 := rfl
theorem n_94 {G : Nat → Nat} {d : Nat} {h : am_H} {a0 : Nat} {a1 : Int32} : am_evm G d 94 [.ref a0, .int a1] h = am_ev G d 94 0 [some (.ref a0), some (.int a1), none, none, none] [] h := rfl
abbrev am_I95 : am_MI := (yX8_falls, cX8_falls, 5, (some .long), 8, 2, 1)
theorem am_M95 : am_ML[95]? = some am_I95 := rfl
theorem n_95 {G : Nat → Nat} {d : Nat} {h : am_H} {a0 : Nat} {a1 : Int32} {a2 : Int32} : am_evm G d 95 [.ref a0, .int a1, .int a2] h = am_ev G d 95 0 [some (.ref a0), some (.int a1), some (.int a2), none, none] [] h := rfl
abbrev am_I96 : am_MI := (yX8_most, cX8_most, 5, (some .int), 8, 0, 1)
theorem am_M96 : am_ML[96]? = some am_I96 := rfl
theorem n_96 {G : Nat → Nat} {d : Nat} {h : am_H} {a0 : Nat} : am_evm G d 96 [.ref a0] h = am_ev G d 96 0 [some (.ref a0), none, none, none, none] [] h := rfl
abbrev am_I97 : am_MI := (yX8_feed, cX8_feed, 4, (some .int), 8, 3, 1)
theorem am_M97 : am_ML[97]? = some am_I97 := rfl
theorem n_97 {G : Nat → Nat} {d : Nat} {h : am_H} {a0 : Nat} {a1 : Int32} {a2 : Int32} {a3 : Int32} : am_evm G d 97 [.ref a0, .int a1, .int a2, .int a3] h = am_ev G d 97 0 [some (.ref a0), some (.int a1), some (.int a2), some (.int a3)] [] h := rfl
abbrev am_I98 : am_MI := (yX8_trim, cX8_trim, 2, (some .int), 8, 1, 1)
theorem am_M98 : am_ML[98]? = some am_I98 := rfl
theorem n_98 {G : Nat → Nat} {d : Nat} {h : am_H} {a0 : Nat} {a1 : Int32} : am_evm G d 98 [.ref a0, .int a1] h = am_ev G d 98 0 [some (.ref a0), some (.int a1)] [] h := rfl
abbrev am_I99 : am_MI := (yX8_text, cX8_text, 2, (some .int), 8, 0, 1)
theorem am_M99 : am_ML[99]? = some am_I99 := rfl
theorem n_99 {G : Nat → Nat} {d : Nat} {h : am_H} {a0 : Nat} : am_evm G d 99 [.ref a0] h = am_ev G d 99 0 [some (.ref a0), none] [] h := rfl
abbrev am_I100 : am_MI := (yX8_textTold, cX8_textTold, 3, (some .int), 8, 2, 1)
theorem am_M100 : am_ML[100]? = some am_I100 := rfl
theorem n_100 {G : Nat → Nat} {d : Nat} {h : am_H} {a0 : Nat} {a1 : Int32} {a2 : Int32} : am_evm G d 100 [.ref a0, .int a1, .int a2] h = am_ev G d 100 0 [some (.ref a0), some (.int a1), some (.int a2)] [] h := rfl
abbrev am_I101 : am_MI := (yX8_why, cX8_why, 2, (some .int), 8, 1, 1)
theorem am_M101 : am_ML[101]? = some am_I101 := rfl
theorem n_101 {G : Nat → Nat} {d : Nat} {h : am_H} {a0 : Nat} {a1 : Int32} : am_evm G d 101 [.ref a0, .int a1] h = am_ev G d 101 0 [some (.ref a0), some (.int a1)] [] h := rfl
abbrev am_I102 : am_MI := (yX8_sheet, cX8_sheet, 5, (some .int), 8, 3, 1)
theorem am_M102 : am_ML[102]? = some am_I102 := rfl
theorem n_102 {G : Nat → Nat} {d : Nat} {h : am_H} {a0 : Nat} {a1 : Int32} {a2 : Int32} {a3 : Int32} : am_evm G d 102 [.ref a0, .int a1, .int a2, .int a3] h = am_ev G d 102 0 [some (.ref a0), some (.int a1), some (.int a2), some (.int a3), none] [] h := rfl
abbrev am_I103 : am_MI := (yX8_mark, cX8_mark, 5, (some .int), 8, 3, 1)
theorem am_M103 : am_ML[103]? = some am_I103 := rfl
theorem n_103 {G : Nat → Nat} {d : Nat} {h : am_H} {a0 : Nat} {a1 : Int32} {a2 : Int32} {a3 : Int32} : am_evm G d 103 [.ref a0, .int a1, .int a2, .int a3] h = am_ev G d 103 0 [some (.ref a0), some (.int a1), some (.int a2), some (.int a3), none] [] h := rfl
abbrev am_I104 : am_MI := (yX8_pour, cX8_pour, 7, (some .int), 8, 1, 1)
theorem am_M104 : am_ML[104]? = some am_I104 := rfl
theorem n_104 {G : Nat → Nat} {d : Nat} {h : am_H} {a0 : Nat} {a1 : Int32} : am_evm G d 104 [.ref a0, .int a1] h = am_ev G d 104 0 [some (.ref a0), some (.int a1), none, none, none, none, none] [] h := rfl
abbrev am_I105 : am_MI := (yX8_reads, cX8_reads, 5, (some .int), 8, 1, 1)
theorem am_M105 : am_ML[105]? = some am_I105 := rfl
theorem n_105 {G : Nat → Nat} {d : Nat} {h : am_H} {a0 : Nat} {a1 : Int32} : am_evm G d 105 [.ref a0, .int a1] h = am_ev G d 105 0 [some (.ref a0), some (.int a1), none, none, none] [] h := rfl
abbrev am_I106 : am_MI := (yX8_copy, cX8_copy, 8, (some .int), 8, 5, 1)
theorem am_M106 : am_ML[106]? = some am_I106 := rfl
theorem n_106 {G : Nat → Nat} {d : Nat} {h : am_H} {a0 : Nat} {a1 : Int32} {a2 : Int32} {a3 : Int32} {a4 : Int32} {a5 : Int32} : am_evm G d 106 [.ref a0, .int a1, .int a2, .int a3, .int a4, .int a5] h = am_ev G d 106 0 [some (.ref a0), some (.int a1), some (.int a2), some (.int a3), some (.int a4), some (.int a5), none, none] [] h := rfl
abbrev am_I107 : am_MI := (yX8_lay, cX8_lay, 6, (some .int), 8, 3, 1)
theorem am_M107 : am_ML[107]? = some am_I107 := rfl
theorem n_107 {G : Nat → Nat} {d : Nat} {h : am_H} {a0 : Nat} {a1 : Int32} {a2 : Int32} {a3 : Int32} : am_evm G d 107 [.ref a0, .int a1, .int a2, .int a3] h = am_ev G d 107 0 [some (.ref a0), some (.int a1), some (.int a2), some (.int a3), none, none] [] h := rfl
abbrev am_I108 : am_MI := (yX8_ask, cX8_ask, 5, (some .int), 8, 2, 1)
theorem am_M108 : am_ML[108]? = some am_I108 := rfl
theorem n_108 {G : Nat → Nat} {d : Nat} {h : am_H} {a0 : Nat} {a1 : Int32} {a2 : Int32} : am_evm G d 108 [.ref a0, .int a1, .int a2] h = am_ev G d 108 0 [some (.ref a0), some (.int a1), some (.int a2), none, none] [] h := rfl
abbrev am_I109 : am_MI := (yX8_item, cX8_item, 5, (some .int), 8, 2, 1)
theorem am_M109 : am_ML[109]? = some am_I109 := rfl
theorem n_109 {G : Nat → Nat} {d : Nat} {h : am_H} {a0 : Nat} {a1 : Int32} {a2 : Int32} : am_evm G d 109 [.ref a0, .int a1, .int a2] h = am_ev G d 109 0 [some (.ref a0), some (.int a1), some (.int a2), none, none] [] h := rfl
abbrev am_I110 : am_MI := (yX8_rest, cX8_rest, 5, (some .int), 8, 2, 1)
theorem am_M110 : am_ML[110]? = some am_I110 := rfl
theorem n_110 {G : Nat → Nat} {d : Nat} {h : am_H} {a0 : Nat} {a1 : Int32} {a2 : Int32} : am_evm G d 110 [.ref a0, .int a1, .int a2] h = am_ev G d 110 0 [some (.ref a0), some (.int a1), some (.int a2), none, none] [] h := rfl
abbrev am_I111 : am_MI := (yX8_tell, cX8_tell, 2, (some .int), 8, 1, 1)
theorem am_M111 : am_ML[111]? = some am_I111 := rfl
theorem n_111 {G : Nat → Nat} {d : Nat} {h : am_H} {a0 : Nat} {a1 : Int32} : am_evm G d 111 [.ref a0, .int a1] h = am_ev G d 111 0 [some (.ref a0), some (.int a1)] [] h := rfl
abbrev am_I112 : am_MI := (yX8_check, cX8_check, 7, (some .int), 8, 2, 1)
theorem am_M112 : am_ML[112]? = some am_I112 := rfl
theorem n_112 {G : Nat → Nat} {d : Nat} {h : am_H} {a0 : Nat} {a1 : Int32} {a2 : Int32} : am_evm G d 112 [.ref a0, .int a1, .int a2] h = am_ev G d 112 0 [some (.ref a0), some (.int a1), some (.int a2), none, none, none, none] [] h := rfl
abbrev am_I113 : am_MI := (yX8_keep, cX8_keep, 1, (some .int), 8, 0, 1)
theorem am_M113 : am_ML[113]? = some am_I113 := rfl
theorem n_113 {G : Nat → Nat} {d : Nat} {h : am_H} {a0 : Nat} : am_evm G d 113 [.ref a0] h = am_ev G d 113 0 [some (.ref a0)] [] h := rfl
abbrev am_I114 : am_MI := (yX8_back, cX8_back, 1, (some .int), 8, 0, 1)
theorem am_M114 : am_ML[114]? = some am_I114 := rfl
theorem n_114 {G : Nat → Nat} {d : Nat} {h : am_H} {a0 : Nat} : am_evm G d 114 [.ref a0] h = am_ev G d 114 0 [some (.ref a0)] [] h := rfl
abbrev am_I115 : am_MI := (yX8_count, cX8_count, 2, (some .int), 8, 1, 1)
theorem am_M115 : am_ML[115]? = some am_I115 := rfl
theorem n_115 {G : Nat → Nat} {d : Nat} {h : am_H} {a0 : Nat} {a1 : Int32} : am_evm G d 115 [.ref a0, .int a1] h = am_ev G d 115 0 [some (.ref a0), some (.int a1)] [] h := rfl
abbrev am_I116 : am_MI := (yX8_rightOf, cX8_rightOf, 5, (some .int), 8, 4, 1)
theorem am_M116 : am_ML[116]? = some am_I116 := rfl
theorem n_116 {G : Nat → Nat} {d : Nat} {h : am_H} {a0 : Nat} {a1 : Int32} {a2 : Int32} {a3 : Int32} {a4 : Int32} : am_evm G d 116 [.ref a0, .int a1, .int a2, .int a3, .int a4] h = am_ev G d 116 0 [some (.ref a0), some (.int a1), some (.int a2), some (.int a3), some (.int a4)] [] h := rfl
abbrev am_I117 : am_MI := (yX8_within, cX8_within, 3, (some .boolean), 8, 3, 0)
theorem am_M117 : am_ML[117]? = some am_I117 := rfl
theorem n_117 {G : Nat → Nat} {d : Nat} {h : am_H} {a0 : Int32} {a1 : Int32} {a2 : Int32} : am_evm G d 117 [.int a0, .int a1, .int a2] h = am_ev G d 117 0 [some (.int a0), some (.int a1), some (.int a2)] [] h := rfl
abbrev am_I118 : am_MI := (yX8_held, cX8_held, 3, (some .int), 8, 3, 0)
theorem am_M118 : am_ML[118]? = some am_I118 := rfl
theorem n_118 {G : Nat → Nat} {d : Nat} {h : am_H} {a0 : Int32} {a1 : Int32} {a2 : Int32} : am_evm G d 118 [.int a0, .int a1, .int a2] h = am_ev G d 118 0 [some (.int a0), some (.int a1), some (.int a2)] [] h := rfl
abbrev am_I119 : am_MI := (yX8_isKind, cX8_isKind, 1, (some .boolean), 8, 1, 0)
theorem am_M119 : am_ML[119]? = some am_I119 := rfl
theorem n_119 {G : Nat → Nat} {d : Nat} {h : am_H} {a0 : Int32} : am_evm G d 119 [.int a0] h = am_ev G d 119 0 [some (.int a0)] [] h := rfl
abbrev am_I120 : am_MI := (yX8_isHour, cX8_isHour, 1, (some .boolean), 8, 1, 0)
theorem am_M120 : am_ML[120]? = some am_I120 := rfl
theorem n_120 {G : Nat → Nat} {d : Nat} {h : am_H} {a0 : Int32} : am_evm G d 120 [.int a0] h = am_ev G d 120 0 [some (.int a0)] [] h := rfl
abbrev am_I121 : am_MI := (yX8_isYesOrNo, cX8_isYesOrNo, 1, (some .boolean), 8, 1, 0)
theorem am_M121 : am_ML[121]? = some am_I121 := rfl
theorem n_121 {G : Nat → Nat} {d : Nat} {h : am_H} {a0 : Int32} : am_evm G d 121 [.int a0] h = am_ev G d 121 0 [some (.int a0)] [] h := rfl
abbrev am_I122 : am_MI := (yX8_isSheet, cX8_isSheet, 1, (some .boolean), 8, 1, 0)
theorem am_M122 : am_ML[122]? = some am_I122 := rfl
theorem n_122 {G : Nat → Nat} {d : Nat} {h : am_H} {a0 : Int32} : am_evm G d 122 [.int a0] h = am_ev G d 122 0 [some (.int a0)] [] h := rfl
abbrev am_I123 : am_MI := (yX8_isSlot, cX8_isSlot, 1, (some .boolean), 8, 1, 0)
theorem am_M123 : am_ML[123]? = some am_I123 := rfl
theorem n_123 {G : Nat → Nat} {d : Nat} {h : am_H} {a0 : Int32} : am_evm G d 123 [.int a0] h = am_ev G d 123 0 [some (.int a0)] [] h := rfl
abbrev am_I124 : am_MI := (yX8_bitAt, cX8_bitAt, 2, (some .int), 8, 2, 0)
theorem am_M124 : am_ML[124]? = some am_I124 := rfl
theorem n_124 {G : Nat → Nat} {d : Nat} {h : am_H} {a0 : Int32} {a1 : Int32} : am_evm G d 124 [.int a0, .int a1] h = am_ev G d 124 0 [some (.int a0), some (.int a1)] [] h := rfl
abbrev am_I125 : am_MI := (yX8_hasBit, cX8_hasBit, 2, (some .boolean), 8, 2, 0)
theorem am_M125 : am_ML[125]? = some am_I125 := rfl
theorem n_125 {G : Nat → Nat} {d : Nat} {h : am_H} {a0 : Int32} {a1 : Int32} : am_evm G d 125 [.int a0, .int a1] h = am_ev G d 125 0 [some (.int a0), some (.int a1)] [] h := rfl
abbrev am_I126 : am_MI := (yX8_withBit, cX8_withBit, 3, (some .int), 8, 3, 0)
theorem am_M126 : am_ML[126]? = some am_I126 := rfl
theorem n_126 {G : Nat → Nat} {d : Nat} {h : am_H} {a0 : Int32} {a1 : Int32} {a2 : Int32} : am_evm G d 126 [.int a0, .int a1, .int a2] h = am_ev G d 126 0 [some (.int a0), some (.int a1), some (.int a2)] [] h := rfl
abbrev am_I127 : am_MI := (yX8_leastOf, cX8_leastOf, 2, (some .int), 8, 1, 0)
theorem am_M127 : am_ML[127]? = some am_I127 := rfl
theorem n_127 {G : Nat → Nat} {d : Nat} {h : am_H} {a0 : Int32} : am_evm G d 127 [.int a0] h = am_ev G d 127 0 [some (.int a0), none] [] h := rfl
abbrev am_I128 : am_MI := (yX8_greatestOf, cX8_greatestOf, 2, (some .int), 8, 1, 0)
theorem am_M128 : am_ML[128]? = some am_I128 := rfl
theorem n_128 {G : Nat → Nat} {d : Nat} {h : am_H} {a0 : Int32} : am_evm G d 128 [.int a0] h = am_ev G d 128 0 [some (.int a0), none] [] h := rfl
abbrev am_I129 : am_MI := (yX8_commonDivisor, cX8_commonDivisor, 6, (some .int), 8, 2, 0)
theorem am_M129 : am_ML[129]? = some am_I129 := rfl
theorem n_129 {G : Nat → Nat} {d : Nat} {h : am_H} {a0 : Int32} {a1 : Int32} : am_evm G d 129 [.int a0, .int a1] h = am_ev G d 129 0 [some (.int a0), some (.int a1), none, none, none, none] [] h := rfl
abbrev am_I130 : am_MI := (yX9_init, cX9_init, 2, none, 9, 0, 2)
theorem am_M130 : am_ML[130]? = some am_I130 := rfl
theorem n_130 {G : Nat → Nat} {d : Nat} {h : am_H} {a0 : Nat} : am_evm G d 130 [.ref a0] h = am_ev G d 130 0 [some (.ref a0), none] [] h := rfl
abbrev am_I131 : am_MI := (yX9_isIn, cX9_isIn, 6, (some .boolean), 9, 3, 0)
theorem am_M131 : am_ML[131]? = some am_I131 := rfl
theorem n_131 {G : Nat → Nat} {d : Nat} {h : am_H} {a0 : Int64} {a1 : Int64} {a2 : Int64} : am_evm G d 131 [.long a0, .long a1, .long a2] h = am_ev G d 131 0 [some (.long a0), none, some (.long a1), none, some (.long a2), none] [] h := rfl
abbrev am_I132 : am_MI := (yX9_orNone, cX9_orNone, 1, (some .int), 9, 1, 0)
theorem am_M132 : am_ML[132]? = some am_I132 := rfl
theorem n_132 {G : Nat → Nat} {d : Nat} {h : am_H} {a0 : Int32} : am_evm G d 132 [.int a0] h = am_ev G d 132 0 [some (.int a0)] [] h := rfl
abbrev am_I133 : am_MI := (yX9_within, cX9_within, 2, (some .int), 9, 2, 0)
theorem am_M133 : am_ML[133]? = some am_I133 := rfl
theorem n_133 {G : Nat → Nat} {d : Nat} {h : am_H} {a0 : Int32} {a1 : Int32} : am_evm G d 133 [.int a0, .int a1] h = am_ev G d 133 0 [some (.int a0), some (.int a1)] [] h := rfl
abbrev am_I134 : am_MI := (yX9_becomes, cX9_becomes, 4, (some .int), 9, 2, 1)
theorem am_M134 : am_ML[134]? = some am_I134 := rfl
theorem n_134 {G : Nat → Nat} {d : Nat} {h : am_H} {a0 : Nat} {a1 : Int32} {a2 : Int32} : am_evm G d 134 [.ref a0, .int a1, .int a2] h = am_ev G d 134 0 [some (.ref a0), some (.int a1), some (.int a2), none] [] h := rfl
abbrev am_I135 : am_MI := (yX9_textAt, cX9_textAt, 2, (some .int), 9, 1, 1)
theorem am_M135 : am_ML[135]? = some am_I135 := rfl
theorem n_135 {G : Nat → Nat} {d : Nat} {h : am_H} {a0 : Nat} {a1 : Int32} : am_evm G d 135 [.ref a0, .int a1] h = am_ev G d 135 0 [some (.ref a0), some (.int a1)] [] h := rfl
abbrev am_I136 : am_MI := (yX9_of, cX9_of, 3, (some .int), 9, 2, 1)
theorem am_M136 : am_ML[136]? = some am_I136 := rfl
theorem n_136 {G : Nat → Nat} {d : Nat} {h : am_H} {a0 : Nat} {a1 : Int32} {a2 : Int32} : am_evm G d 136 [.ref a0, .int a1, .int a2] h = am_ev G d 136 0 [some (.ref a0), some (.int a1), some (.int a2)] [] h := rfl
abbrev am_I137 : am_MI := (yX9_dee, cX9_dee, 3, (some .int), 9, 2, 1)
theorem am_M137 : am_ML[137]? = some am_I137 := rfl
theorem n_137 {G : Nat → Nat} {d : Nat} {h : am_H} {a0 : Nat} {a1 : Int32} {a2 : Int32} : am_evm G d 137 [.ref a0, .int a1, .int a2] h = am_ev G d 137 0 [some (.ref a0), some (.int a1), some (.int a2)] [] h := rfl
abbrev am_I138 : am_MI := (yX9_isPerson, cX9_isPerson, 2, (some .boolean), 9, 1, 1)
theorem am_M138 : am_ML[138]? = some am_I138 := rfl
theorem n_138 {G : Nat → Nat} {d : Nat} {h : am_H} {a0 : Nat} {a1 : Int32} : am_evm G d 138 [.ref a0, .int a1] h = am_ev G d 138 0 [some (.ref a0), some (.int a1)] [] h := rfl
abbrev am_I139 : am_MI := (yX9_isDeed, cX9_isDeed, 2, (some .boolean), 9, 1, 1)
theorem am_M139 : am_ML[139]? = some am_I139 := rfl
theorem n_139 {G : Nat → Nat} {d : Nat} {h : am_H} {a0 : Nat} {a1 : Int32} : am_evm G d 139 [.ref a0, .int a1] h = am_ev G d 139 0 [some (.ref a0), some (.int a1)] [] h := rfl
abbrev am_I140 : am_MI := (yX9_isText, cX9_isText, 2, (some .boolean), 9, 1, 1)
theorem am_M140 : am_ML[140]? = some am_I140 := rfl
theorem n_140 {G : Nat → Nat} {d : Nat} {h : am_H} {a0 : Nat} {a1 : Int32} : am_evm G d 140 [.ref a0, .int a1] h = am_ev G d 140 0 [some (.ref a0), some (.int a1)] [] h := rfl
abbrev am_I141 : am_MI := (yX9_everybody, cX9_everybody, 1, (some .int), 9, 0, 1)
theorem am_M141 : am_ML[141]? = some am_I141 := rfl
theorem n_141 {G : Nat → Nat} {d : Nat} {h : am_H} {a0 : Nat} : am_evm G d 141 [.ref a0] h = am_ev G d 141 0 [some (.ref a0)] [] h := rfl
abbrev am_I142 : am_MI := (yX9_left, cX9_left, 2, (some .int), 9, 1, 1)
theorem am_M142 : am_ML[142]? = some am_I142 := rfl
theorem n_142 {G : Nat → Nat} {d : Nat} {h : am_H} {a0 : Nat} {a1 : Int32} : am_evm G d 142 [.ref a0, .int a1] h = am_ev G d 142 0 [some (.ref a0), some (.int a1)] [] h := rfl
abbrev am_I143 : am_MI := (yX9_ones, cX9_ones, 3, (some .int), 9, 1, 0)
theorem am_M143 : am_ML[143]? = some am_I143 := rfl
theorem n_143 {G : Nat → Nat} {d : Nat} {h : am_H} {a0 : Int32} : am_evm G d 143 [.int a0] h = am_ev G d 143 0 [some (.int a0), none, none] [] h := rfl
abbrev am_I144 : am_MI := (yX9_drawn, cX9_drawn, 1, (some .int), 9, 0, 1)
theorem am_M144 : am_ML[144]? = some am_I144 := rfl
theorem n_144 {G : Nat → Nat} {d : Nat} {h : am_H} {a0 : Nat} : am_evm G d 144 [.ref a0] h = am_ev G d 144 0 [some (.ref a0)] [] h := rfl
abbrev am_I145 : am_MI := (yX9_comes, cX9_comes, 5, none, 9, 3, 1)
theorem am_M145 : am_ML[145]? = some am_I145 := rfl
theorem n_145 {G : Nat → Nat} {d : Nat} {h : am_H} {a0 : Nat} {a1 : Int32} {a2 : Int32} {a3 : Int32} : am_evm G d 145 [.ref a0, .int a1, .int a2, .int a3] h = am_ev G d 145 0 [some (.ref a0), some (.int a1), some (.int a2), some (.int a3), none] [] h := rfl
abbrev am_I146 : am_MI := (yX9_person, cX9_person, 3, (some .int), 9, 2, 1)
theorem am_M146 : am_ML[146]? = some am_I146 := rfl
theorem n_146 {G : Nat → Nat} {d : Nat} {h : am_H} {a0 : Nat} {a1 : Int32} {a2 : Int32} : am_evm G d 146 [.ref a0, .int a1, .int a2] h = am_ev G d 146 0 [some (.ref a0), some (.int a1), some (.int a2)] [] h := rfl
abbrev am_I147 : am_MI := (yX9_followers, cX9_followers, 5, (some .int), 9, 1, 1)
theorem am_M147 : am_ML[147]? = some am_I147 := rfl
theorem n_147 {G : Nat → Nat} {d : Nat} {h : am_H} {a0 : Nat} {a1 : Int32} : am_evm G d 147 [.ref a0, .int a1] h = am_ev G d 147 0 [some (.ref a0), some (.int a1), none, none, none] [] h := rfl
abbrev am_I148 : am_MI := (yX9_goBy, cX9_goBy, 2, (some .int), 9, 1, 1)
theorem am_M148 : am_ML[148]? = some am_I148 := rfl
theorem n_148 {G : Nat → Nat} {d : Nat} {h : am_H} {a0 : Nat} {a1 : Int32} : am_evm G d 148 [.ref a0, .int a1] h = am_ev G d 148 0 [some (.ref a0), some (.int a1)] [] h := rfl
abbrev am_I149 : am_MI := (yX9_worthOf, cX9_worthOf, 2, (some .int), 9, 2, 0)
theorem am_M149 : am_ML[149]? = some am_I149 := rfl
theorem n_149 {G : Nat → Nat} {d : Nat} {h : am_H} {a0 : Int32} {a1 : Int32} : am_evm G d 149 [.int a0, .int a1] h = am_ev G d 149 0 [some (.int a0), some (.int a1)] [] h := rfl
abbrev am_I150 : am_MI := (yX9_goneOn, cX9_goneOn, 4, (some .int), 9, 1, 1)
theorem am_M150 : am_ML[150]? = some am_I150 := rfl
theorem n_150 {G : Nat → Nat} {d : Nat} {h : am_H} {a0 : Nat} {a1 : Int32} : am_evm G d 150 [.ref a0, .int a1] h = am_ev G d 150 0 [some (.ref a0), some (.int a1), none, none] [] h := rfl
abbrev am_I151 : am_MI := (yX9_told, cX9_told, 3, (some .int), 9, 2, 1)
theorem am_M151 : am_ML[151]? = some am_I151 := rfl
theorem n_151 {G : Nat → Nat} {d : Nat} {h : am_H} {a0 : Nat} {a1 : Int32} {a2 : Int32} : am_evm G d 151 [.ref a0, .int a1, .int a2] h = am_ev G d 151 0 [some (.ref a0), some (.int a1), some (.int a2)] [] h := rfl
abbrev am_I152 : am_MI := (yX9_isOf, cX9_isOf, 2, (some .boolean), 9, 2, 0)
theorem am_M152 : am_ML[152]? = some am_I152 := rfl
theorem n_152 {G : Nat → Nat} {d : Nat} {h : am_H} {a0 : Int32} {a1 : Int32} : am_evm G d 152 [.int a0, .int a1] h = am_ev G d 152 0 [some (.int a0), some (.int a1)] [] h := rfl
abbrev am_I153 : am_MI := (yX9_as, cX9_as, 3, (some .int), 9, 2, 1)
theorem am_M153 : am_ML[153]? = some am_I153 := rfl
theorem n_153 {G : Nat → Nat} {d : Nat} {h : am_H} {a0 : Nat} {a1 : Int32} {a2 : Int32} : am_evm G d 153 [.ref a0, .int a1, .int a2] h = am_ev G d 153 0 [some (.ref a0), some (.int a1), some (.int a2)] [] h := rfl
abbrev am_I154 : am_MI := (yX9_turns, cX9_turns, 3, (some .int), 9, 2, 1)
theorem am_M154 : am_ML[154]? = some am_I154 := rfl
theorem n_154 {G : Nat → Nat} {d : Nat} {h : am_H} {a0 : Nat} {a1 : Int32} {a2 : Int32} : am_evm G d 154 [.ref a0, .int a1, .int a2] h = am_ev G d 154 0 [some (.ref a0), some (.int a1), some (.int a2)] [] h := rfl
abbrev am_I155 : am_MI := (yX9_bolder, cX9_bolder, 3, (some .int), 9, 2, 1)
theorem am_M155 : am_ML[155]? = some am_I155 := rfl
theorem n_155 {G : Nat → Nat} {d : Nat} {h : am_H} {a0 : Nat} {a1 : Int32} {a2 : Int32} : am_evm G d 155 [.ref a0, .int a1, .int a2] h = am_ev G d 155 0 [some (.ref a0), some (.int a1), some (.int a2)] [] h := rfl
abbrev am_I156 : am_MI := (yX9_bitBecomes, cX9_bitBecomes, 5, (some .int), 9, 3, 1)
theorem am_M156 : am_ML[156]? = some am_I156 := rfl
theorem n_156 {G : Nat → Nat} {d : Nat} {h : am_H} {a0 : Nat} {a1 : Int32} {a2 : Int32} {a3 : Int32} : am_evm G d 156 [.ref a0, .int a1, .int a2, .int a3] h = am_ev G d 156 0 [some (.ref a0), some (.int a1), some (.int a2), some (.int a3), none] [] h := rfl
abbrev am_I157 : am_MI := (yX9_away, cX9_away, 4, (some .int), 9, 3, 1)
theorem am_M157 : am_ML[157]? = some am_I157 := rfl
theorem n_157 {G : Nat → Nat} {d : Nat} {h : am_H} {a0 : Nat} {a1 : Int32} {a2 : Int32} {a3 : Int32} : am_evm G d 157 [.ref a0, .int a1, .int a2, .int a3] h = am_ev G d 157 0 [some (.ref a0), some (.int a1), some (.int a2), some (.int a3)] [] h := rfl
abbrev am_I158 : am_MI := (yX9_areTwo, cX9_areTwo, 4, (some .boolean), 9, 3, 1)
theorem am_M158 : am_ML[158]? = some am_I158 := rfl
theorem n_158 {G : Nat → Nat} {d : Nat} {h : am_H} {a0 : Nat} {a1 : Int32} {a2 : Int32} {a3 : Int32} : am_evm G d 158 [.ref a0, .int a1, .int a2, .int a3] h = am_ev G d 158 0 [some (.ref a0), some (.int a1), some (.int a2), some (.int a3)] [] h := rfl
abbrev am_I159 : am_MI := (yX9_friend, cX9_friend, 5, (some .int), 9, 3, 1)
theorem am_M159 : am_ML[159]? = some am_I159 := rfl
theorem n_159 {G : Nat → Nat} {d : Nat} {h : am_H} {a0 : Nat} {a1 : Int32} {a2 : Int32} {a3 : Int32} : am_evm G d 159 [.ref a0, .int a1, .int a2, .int a3] h = am_ev G d 159 0 [some (.ref a0), some (.int a1), some (.int a2), some (.int a3), none] [] h := rfl
abbrev am_I160 : am_MI := (yX9_follow, cX9_follow, 4, (some .int), 9, 3, 1)
theorem am_M160 : am_ML[160]? = some am_I160 := rfl
theorem n_160 {G : Nat → Nat} {d : Nat} {h : am_H} {a0 : Nat} {a1 : Int32} {a2 : Int32} {a3 : Int32} : am_evm G d 160 [.ref a0, .int a1, .int a2, .int a3] h = am_ev G d 160 0 [some (.ref a0), some (.int a1), some (.int a2), some (.int a3)] [] h := rfl
abbrev am_I161 : am_MI := (yX9_deal, cX9_deal, 6, (some .int), 9, 1, 1)
theorem am_M161 : am_ML[161]? = some am_I161 := rfl
theorem n_161 {G : Nat → Nat} {d : Nat} {h : am_H} {a0 : Nat} {a1 : Int32} : am_evm G d 161 [.ref a0, .int a1] h = am_ev G d 161 0 [some (.ref a0), some (.int a1), none, none, none, none] [] h := rfl
abbrev am_I162 : am_MI := (yX9_seed, cX9_seed, 2, (some .int), 9, 1, 1)
theorem am_M162 : am_ML[162]? = some am_I162 := rfl
theorem n_162 {G : Nat → Nat} {d : Nat} {h : am_H} {a0 : Nat} {a1 : Int32} : am_evm G d 162 [.ref a0, .int a1] h = am_ev G d 162 0 [some (.ref a0), some (.int a1)] [] h := rfl
abbrev am_I163 : am_MI := (yX9_deed, cX9_deed, 6, (some .int), 9, 3, 1)
theorem am_M163 : am_ML[163]? = some am_I163 := rfl
theorem n_163 {G : Nat → Nat} {d : Nat} {h : am_H} {a0 : Nat} {a1 : Int32} {a2 : Int32} {a3 : Int32} : am_evm G d 163 [.ref a0, .int a1, .int a2, .int a3] h = am_ev G d 163 0 [some (.ref a0), some (.int a1), some (.int a2), some (.int a3), none, none] [] h := rfl
abbrev am_I164 : am_MI := (yX9_cost, cX9_cost, 3, (some .int), 9, 1, 1)
theorem am_M164 : am_ML[164]? = some am_I164 := rfl
theorem n_164 {G : Nat → Nat} {d : Nat} {h : am_H} {a0 : Nat} {a1 : Int32} : am_evm G d 164 [.ref a0, .int a1] h = am_ev G d 164 0 [some (.ref a0), some (.int a1), none] [] h := rfl
abbrev am_I165 : am_MI := (yX9_deedTold, cX9_deedTold, 3, (some .int), 9, 2, 1)
theorem am_M165 : am_ML[165]? = some am_I165 := rfl
theorem n_165 {G : Nat → Nat} {d : Nat} {h : am_H} {a0 : Nat} {a1 : Int32} {a2 : Int32} : am_evm G d 165 [.ref a0, .int a1, .int a2] h = am_ev G d 165 0 [some (.ref a0), some (.int a1), some (.int a2)] [] h := rfl
abbrev am_I166 : am_MI := (yX9_again, cX9_again, 3, (some .int), 9, 1, 1)
theorem am_M166 : am_ML[166]? = some am_I166 := rfl
theorem n_166 {G : Nat → Nat} {d : Nat} {h : am_H} {a0 : Nat} {a1 : Int32} : am_evm G d 166 [.ref a0, .int a1] h = am_ev G d 166 0 [some (.ref a0), some (.int a1), none] [] h := rfl
abbrev am_I167 : am_MI := (yX9_stop, cX9_stop, 2, (some .int), 9, 1, 1)
theorem am_M167 : am_ML[167]? = some am_I167 := rfl
theorem n_167 {G : Nat → Nat} {d : Nat} {h : am_H} {a0 : Nat} {a1 : Int32} : am_evm G d 167 [.ref a0, .int a1] h = am_ev G d 167 0 [some (.ref a0), some (.int a1)] [] h := rfl
abbrev am_I168 : am_MI := (yX9_mayBe, cX9_mayBe, 5, (some .boolean), 9, 3, 1)
theorem am_M168 : am_ML[168]? = some am_I168 := rfl
theorem n_168 {G : Nat → Nat} {d : Nat} {h : am_H} {a0 : Nat} {a1 : Int32} {a2 : Int32} {a3 : Int32} : am_evm G d 168 [.ref a0, .int a1, .int a2, .int a3] h = am_ev G d 168 0 [some (.ref a0), some (.int a1), some (.int a2), some (.int a3), none] [] h := rfl
abbrev am_I169 : am_MI := (yX9_says, cX9_says, 5, none, 9, 2, 1)
theorem am_M169 : am_ML[169]? = some am_I169 := rfl
theorem n_169 {G : Nat → Nat} {d : Nat} {h : am_H} {a0 : Nat} {a1 : Int32} {a2 : Int32} : am_evm G d 169 [.ref a0, .int a1, .int a2] h = am_ev G d 169 0 [some (.ref a0), some (.int a1), some (.int a2), none, none] [] h := rfl
abbrev am_I170 : am_MI := (yX9_say, cX9_say, 4, (some .int), 9, 3, 1)
theorem am_M170 : am_ML[170]? = some am_I170 := rfl
theorem n_170 {G : Nat → Nat} {d : Nat} {h : am_H} {a0 : Nat} {a1 : Int32} {a2 : Int32} {a3 : Int32} : am_evm G d 170 [.ref a0, .int a1, .int a2, .int a3] h = am_ev G d 170 0 [some (.ref a0), some (.int a1), some (.int a2), some (.int a3)] [] h := rfl
abbrev am_I171 : am_MI := (yX9_least, cX9_least, 2, (some .int), 9, 1, 0)
theorem am_M171 : am_ML[171]? = some am_I171 := rfl
theorem n_171 {G : Nat → Nat} {d : Nat} {h : am_H} {a0 : Int32} : am_evm G d 171 [.int a0] h = am_ev G d 171 0 [some (.int a0), none] [] h := rfl
abbrev am_I172 : am_MI := (yX9_greatest, cX9_greatest, 2, (some .int), 9, 1, 0)
theorem am_M172 : am_ML[172]? = some am_I172 := rfl
theorem n_172 {G : Nat → Nat} {d : Nat} {h : am_H} {a0 : Int32} : am_evm G d 172 [.int a0] h = am_ev G d 172 0 [some (.int a0), none] [] h := rfl
abbrev am_I173 : am_MI := (yX9_choiceOf, cX9_choiceOf, 7, (some .int), 9, 2, 1)
theorem am_M173 : am_ML[173]? = some am_I173 := rfl
theorem n_173 {G : Nat → Nat} {d : Nat} {h : am_H} {a0 : Nat} {a1 : Int32} {a2 : Int32} : am_evm G d 173 [.ref a0, .int a1, .int a2] h = am_ev G d 173 0 [some (.ref a0), some (.int a1), some (.int a2), none, none, none, none] [] h := rfl
abbrev am_I174 : am_MI := (yX9_choice, cX9_choice, 3, (some .int), 9, 2, 1)
theorem am_M174 : am_ML[174]? = some am_I174 := rfl
theorem n_174 {G : Nat → Nat} {d : Nat} {h : am_H} {a0 : Nat} {a1 : Int32} {a2 : Int32} : am_evm G d 174 [.ref a0, .int a1, .int a2] h = am_ev G d 174 0 [some (.ref a0), some (.int a1), some (.int a2)] [] h := rfl
abbrev am_I175 : am_MI := (yX9_boldness, cX9_boldness, 4, (some .int), 9, 2, 1)
theorem am_M175 : am_ML[175]? = some am_I175 := rfl
theorem n_175 {G : Nat → Nat} {d : Nat} {h : am_H} {a0 : Nat} {a1 : Int32} {a2 : Int32} : am_evm G d 175 [.ref a0, .int a1, .int a2] h = am_ev G d 175 0 [some (.ref a0), some (.int a1), some (.int a2), none] [] h := rfl
abbrev am_I176 : am_MI := (yX9_rounded, cX9_rounded, 6, (some .int), 9, 1, 1)
theorem am_M176 : am_ML[176]? = some am_I176 := rfl
theorem n_176 {G : Nat → Nat} {d : Nat} {h : am_H} {a0 : Nat} {a1 : Int32} : am_evm G d 176 [.ref a0, .int a1] h = am_ev G d 176 0 [some (.ref a0), some (.int a1), none, none, none, none] [] h := rfl
abbrev am_I177 : am_MI := (yX9_rounds, cX9_rounds, 5, (some .int), 9, 2, 1)
theorem am_M177 : am_ML[177]? = some am_I177 := rfl
theorem n_177 {G : Nat → Nat} {d : Nat} {h : am_H} {a0 : Nat} {a1 : Int32} {a2 : Int32} : am_evm G d 177 [.ref a0, .int a1, .int a2] h = am_ev G d 177 0 [some (.ref a0), some (.int a1), some (.int a2), none, none] [] h := rfl
abbrev am_I178 : am_MI := (yX9_fewest, cX9_fewest, 10, (some .int), 9, 2, 1)
theorem am_M178 : am_ML[178]? = some am_I178 := rfl
theorem n_178 {G : Nat → Nat} {d : Nat} {h : am_H} {a0 : Nat} {a1 : Int32} {a2 : Int32} : am_evm G d 178 [.ref a0, .int a1, .int a2] h = am_ev G d 178 0 [some (.ref a0), some (.int a1), some (.int a2), none, none, none, none, none, none, none] [] h := rfl
abbrev am_I179 : am_MI := (yX9_silent, cX9_silent, 3, (some .int), 9, 0, 1)
theorem am_M179 : am_ML[179]? = some am_I179 := rfl
theorem n_179 {G : Nat → Nat} {d : Nat} {h : am_H} {a0 : Nat} : am_evm G d 179 [.ref a0] h = am_ev G d 179 0 [some (.ref a0), none, none] [] h := rfl
abbrev am_I180 : am_MI := (yX9_meant, cX9_meant, 3, (some .int), 9, 1, 1)
theorem am_M180 : am_ML[180]? = some am_I180 := rfl
theorem n_180 {G : Nat → Nat} {d : Nat} {h : am_H} {a0 : Nat} {a1 : Int32} : am_evm G d 180 [.ref a0, .int a1] h = am_ev G d 180 0 [some (.ref a0), some (.int a1), none] [] h := rfl
abbrev am_I181 : am_MI := (yX9_proved, cX9_proved, 4, (some .int), 9, 1, 1)
theorem am_M181 : am_ML[181]? = some am_I181 := rfl
theorem n_181 {G : Nat → Nat} {d : Nat} {h : am_H} {a0 : Nat} {a1 : Int32} : am_evm G d 181 [.ref a0, .int a1] h = am_ev G d 181 0 [some (.ref a0), some (.int a1), none, none] [] h := rfl
abbrev am_I182 : am_MI := (yX9_fallsOn, cX9_fallsOn, 4, (some .int), 9, 1, 1)
theorem am_M182 : am_ML[182]? = some am_I182 := rfl
theorem n_182 {G : Nat → Nat} {d : Nat} {h : am_H} {a0 : Nat} {a1 : Int32} : am_evm G d 182 [.ref a0, .int a1] h = am_ev G d 182 0 [some (.ref a0), some (.int a1), none, none] [] h := rfl
abbrev am_I183 : am_MI := (yX9_falls, cX9_falls, 7, (some .long), 9, 2, 1)
theorem am_M183 : am_ML[183]? = some am_I183 := rfl
theorem n_183 {G : Nat → Nat} {d : Nat} {h : am_H} {a0 : Nat} {a1 : Int32} {a2 : Int32} : am_evm G d 183 [.ref a0, .int a1, .int a2] h = am_ev G d 183 0 [some (.ref a0), some (.int a1), some (.int a2), none, none, none, none] [] h := rfl
abbrev am_I184 : am_MI := (yX9_most, cX9_most, 3, (some .int), 9, 0, 1)
theorem am_M184 : am_ML[184]? = some am_I184 := rfl
theorem n_184 {G : Nat → Nat} {d : Nat} {h : am_H} {a0 : Nat} : am_evm G d 184 [.ref a0] h = am_ev G d 184 0 [some (.ref a0), none, none] [] h := rfl
abbrev am_I185 : am_MI := (yX9_feed, cX9_feed, 6, (some .int), 9, 3, 1)
theorem am_M185 : am_ML[185]? = some am_I185 := rfl
theorem n_185 {G : Nat → Nat} {d : Nat} {h : am_H} {a0 : Nat} {a1 : Int32} {a2 : Int32} {a3 : Int32} : am_evm G d 185 [.ref a0, .int a1, .int a2, .int a3] h = am_ev G d 185 0 [some (.ref a0), some (.int a1), some (.int a2), some (.int a3), none, none] [] h := rfl
abbrev am_I186 : am_MI := (yX9_trim, cX9_trim, 2, (some .int), 9, 1, 1)
theorem am_M186 : am_ML[186]? = some am_I186 := rfl
theorem n_186 {G : Nat → Nat} {d : Nat} {h : am_H} {a0 : Nat} {a1 : Int32} : am_evm G d 186 [.ref a0, .int a1] h = am_ev G d 186 0 [some (.ref a0), some (.int a1)] [] h := rfl
abbrev am_I187 : am_MI := (yX9_isLetter, cX9_isLetter, 2, (some .boolean), 9, 1, 1)
theorem am_M187 : am_ML[187]? = some am_I187 := rfl
theorem n_187 {G : Nat → Nat} {d : Nat} {h : am_H} {a0 : Nat} {a1 : Int32} : am_evm G d 187 [.ref a0, .int a1] h = am_ev G d 187 0 [some (.ref a0), some (.int a1)] [] h := rfl
abbrev am_I188 : am_MI := (yX9_isDigit, cX9_isDigit, 2, (some .boolean), 9, 1, 1)
theorem am_M188 : am_ML[188]? = some am_I188 := rfl
theorem n_188 {G : Nat → Nat} {d : Nat} {h : am_H} {a0 : Nat} {a1 : Int32} : am_evm G d 188 [.ref a0, .int a1] h = am_ev G d 188 0 [some (.ref a0), some (.int a1)] [] h := rfl
abbrev am_I189 : am_MI := (yX9_nextToken, cX9_nextToken, 3, none, 9, 0, 1)
theorem am_M189 : am_ML[189]? = some am_I189 := rfl
theorem n_189 {G : Nat → Nat} {d : Nat} {h : am_H} {a0 : Nat} : am_evm G d 189 [.ref a0] h = am_ev G d 189 0 [some (.ref a0), none, none] [] h := rfl
abbrev am_I190 : am_MI := (yX9_isSign, cX9_isSign, 2, (some .boolean), 9, 1, 1)
theorem am_M190 : am_ML[190]? = some am_I190 := rfl
theorem n_190 {G : Nat → Nat} {d : Nat} {h : am_H} {a0 : Nat} {a1 : Int32} : am_evm G d 190 [.ref a0, .int a1] h = am_ev G d 190 0 [some (.ref a0), some (.int a1)] [] h := rfl
abbrev am_I191 : am_MI := (yX9_isWordAt, cX9_isWordAt, 6, (some .boolean), 9, 4, 1)
theorem am_M191 : am_ML[191]? = some am_I191 := rfl
theorem n_191 {G : Nat → Nat} {d : Nat} {h : am_H} {a0 : Nat} {a1 : Int32} {a2 : Int32} {a3 : Int32} {a4 : Int32} : am_evm G d 191 [.ref a0, .int a1, .int a2, .int a3, .int a4] h = am_ev G d 191 0 [some (.ref a0), some (.int a1), some (.int a2), some (.int a3), some (.int a4), none] [] h := rfl
abbrev am_I192 : am_MI := (yX9_key, cX9_key, 1, (some .int), 9, 0, 1)
theorem am_M192 : am_ML[192]? = some am_I192 := rfl
theorem n_192 {G : Nat → Nat} {d : Nat} {h : am_H} {a0 : Nat} : am_evm G d 192 [.ref a0] h = am_ev G d 192 0 [some (.ref a0)] [] h := rfl
abbrev am_I193 : am_MI := (yX9_isName, cX9_isName, 2, (some .boolean), 9, 2, 0)
theorem am_M193 : am_ML[193]? = some am_I193 := rfl
theorem n_193 {G : Nat → Nat} {d : Nat} {h : am_H} {a0 : Int32} {a1 : Int32} : am_evm G d 193 [.int a0, .int a1] h = am_ev G d 193 0 [some (.int a0), some (.int a1)] [] h := rfl
abbrev am_I194 : am_MI := (yX9_step, cX9_step, 3, none, 9, 2, 1)
theorem am_M194 : am_ML[194]? = some am_I194 := rfl
theorem n_194 {G : Nat → Nat} {d : Nat} {h : am_H} {a0 : Nat} {a1 : Int32} {a2 : Int32} : am_evm G d 194 [.ref a0, .int a1, .int a2] h = am_ev G d 194 0 [some (.ref a0), some (.int a1), some (.int a2)] [] h := rfl
abbrev am_I195 : am_MI := (yX9_either, cX9_either, 2, (some .boolean), 9, 1, 1)
theorem am_M195 : am_ML[195]? = some am_I195 := rfl
theorem n_195 {G : Nat → Nat} {d : Nat} {h : am_H} {a0 : Nat} {a1 : Int32} : am_evm G d 195 [.ref a0, .int a1] h = am_ev G d 195 0 [some (.ref a0), some (.int a1)] [] h := rfl
abbrev am_I196 : am_MI := (yX9_both, cX9_both, 2, (some .boolean), 9, 1, 1)
theorem am_M196 : am_ML[196]? = some am_I196 := rfl
theorem n_196 {G : Nat → Nat} {d : Nat} {h : am_H} {a0 : Nat} {a1 : Int32} : am_evm G d 196 [.ref a0, .int a1] h = am_ev G d 196 0 [some (.ref a0), some (.int a1)] [] h := rfl
abbrev am_I197 : am_MI := (yX9_test, cX9_test, 3, (some .boolean), 9, 1, 1)
theorem am_M197 : am_ML[197]? = some am_I197 := rfl
theorem n_197 {G : Nat → Nat} {d : Nat} {h : am_H} {a0 : Nat} {a1 : Int32} : am_evm G d 197 [.ref a0, .int a1] h = am_ev G d 197 0 [some (.ref a0), some (.int a1), none] [] h := rfl
abbrev am_I198 : am_MI := (yX9_sum, cX9_sum, 3, (some .boolean), 9, 1, 1)
theorem am_M198 : am_ML[198]? = some am_I198 := rfl
theorem n_198 {G : Nat → Nat} {d : Nat} {h : am_H} {a0 : Nat} {a1 : Int32} : am_evm G d 198 [.ref a0, .int a1] h = am_ev G d 198 0 [some (.ref a0), some (.int a1), none] [] h := rfl
abbrev am_I199 : am_MI := (yX9_term, cX9_term, 3, (some .boolean), 9, 1, 1)
theorem am_M199 : am_ML[199]? = some am_I199 := rfl
theorem n_199 {G : Nat → Nat} {d : Nat} {h : am_H} {a0 : Nat} {a1 : Int32} : am_evm G d 199 [.ref a0, .int a1] h = am_ev G d 199 0 [some (.ref a0), some (.int a1), none] [] h := rfl
abbrev am_I200 : am_MI := (yX9_part0, cX9_part0, 2, (some .boolean), 9, 1, 1)
theorem am_M200 : am_ML[200]? = some am_I200 := rfl
theorem n_200 {G : Nat → Nat} {d : Nat} {h : am_H} {a0 : Nat} {a1 : Int32} : am_evm G d 200 [.ref a0, .int a1] h = am_ev G d 200 0 [some (.ref a0), some (.int a1)] [] h := rfl
abbrev am_I201 : am_MI := (yX9_parse, cX9_parse, 3, (some .int), 9, 0, 1)
theorem am_M201 : am_ML[201]? = some am_I201 := rfl
theorem n_201 {G : Nat → Nat} {d : Nat} {h : am_H} {a0 : Nat} : am_evm G d 201 [.ref a0] h = am_ev G d 201 0 [some (.ref a0), none, none] [] h := rfl
abbrev am_I202 : am_MI := (yX9_text, cX9_text, 3, (some .int), 9, 0, 1)
theorem am_M202 : am_ML[202]? = some am_I202 := rfl
theorem n_202 {G : Nat → Nat} {d : Nat} {h : am_H} {a0 : Nat} : am_evm G d 202 [.ref a0] h = am_ev G d 202 0 [some (.ref a0), none, none] [] h := rfl
abbrev am_I203 : am_MI := (yX9_textTold, cX9_textTold, 3, (some .int), 9, 2, 1)
theorem am_M203 : am_ML[203]? = some am_I203 := rfl
theorem n_203 {G : Nat → Nat} {d : Nat} {h : am_H} {a0 : Nat} {a1 : Int32} {a2 : Int32} : am_evm G d 203 [.ref a0, .int a1, .int a2] h = am_ev G d 203 0 [some (.ref a0), some (.int a1), some (.int a2)] [] h := rfl
abbrev am_I204 : am_MI := (yX9_counts, cX9_counts, 4, (some .int), 9, 1, 1)
theorem am_M204 : am_ML[204]? = some am_I204 := rfl
theorem n_204 {G : Nat → Nat} {d : Nat} {h : am_H} {a0 : Nat} {a1 : Int32} : am_evm G d 204 [.ref a0, .int a1] h = am_ev G d 204 0 [some (.ref a0), some (.int a1), none, none] [] h := rfl
abbrev am_I205 : am_MI := (yX9_why, cX9_why, 2, (some .int), 9, 1, 1)
theorem am_M205 : am_ML[205]? = some am_I205 := rfl
theorem n_205 {G : Nat → Nat} {d : Nat} {h : am_H} {a0 : Nat} {a1 : Int32} : am_evm G d 205 [.ref a0, .int a1] h = am_ev G d 205 0 [some (.ref a0), some (.int a1)] [] h := rfl
abbrev am_I206 : am_MI := (yX9_joined, cX9_joined, 3, (some .int), 9, 3, 0)
theorem am_M206 : am_ML[206]? = some am_I206 := rfl
theorem n_206 {G : Nat → Nat} {d : Nat} {h : am_H} {a0 : Int32} {a1 : Int32} {a2 : Int32} : am_evm G d 206 [.int a0, .int a1, .int a2] h = am_ev G d 206 0 [some (.int a0), some (.int a1), some (.int a2)] [] h := rfl
abbrev am_I207 : am_MI := (yX9_worked, cX9_worked, 6, (some .int), 9, 1, 1)
theorem am_M207 : am_ML[207]? = some am_I207 := rfl
theorem n_207 {G : Nat → Nat} {d : Nat} {h : am_H} {a0 : Nat} {a1 : Int32} : am_evm G d 207 [.ref a0, .int a1] h = am_ev G d 207 0 [some (.ref a0), some (.int a1), none, none, none, none] [] h := rfl
abbrev am_I208 : am_MI := (yX9_isSheet, cX9_isSheet, 1, (some .boolean), 9, 1, 0)
theorem am_M208 : am_ML[208]? = some am_I208 := rfl
theorem n_208 {G : Nat → Nat} {d : Nat} {h : am_H} {a0 : Int32} : am_evm G d 208 [.int a0] h = am_ev G d 208 0 [some (.int a0)] [] h := rfl
abbrev am_I209 : am_MI := (yX9_sheet, cX9_sheet, 5, (some .int), 9, 3, 1)
theorem am_M209 : am_ML[209]? = some am_I209 := rfl
theorem n_209 {G : Nat → Nat} {d : Nat} {h : am_H} {a0 : Nat} {a1 : Int32} {a2 : Int32} {a3 : Int32} : am_evm G d 209 [.ref a0, .int a1, .int a2, .int a3] h = am_ev G d 209 0 [some (.ref a0), some (.int a1), some (.int a2), some (.int a3), none] [] h := rfl
abbrev am_I210 : am_MI := (yX9_mark, cX9_mark, 4, (some .int), 9, 3, 1)
theorem am_M210 : am_ML[210]? = some am_I210 := rfl
theorem n_210 {G : Nat → Nat} {d : Nat} {h : am_H} {a0 : Nat} {a1 : Int32} {a2 : Int32} {a3 : Int32} : am_evm G d 210 [.ref a0, .int a1, .int a2, .int a3] h = am_ev G d 210 0 [some (.ref a0), some (.int a1), some (.int a2), some (.int a3)] [] h := rfl
abbrev am_I211 : am_MI := (yX9_pour, cX9_pour, 7, (some .int), 9, 1, 1)
theorem am_M211 : am_ML[211]? = some am_I211 := rfl
theorem n_211 {G : Nat → Nat} {d : Nat} {h : am_H} {a0 : Nat} {a1 : Int32} : am_evm G d 211 [.ref a0, .int a1] h = am_ev G d 211 0 [some (.ref a0), some (.int a1), none, none, none, none, none] [] h := rfl
abbrev am_I212 : am_MI := (yX9_reads, cX9_reads, 4, (some .int), 9, 1, 1)
theorem am_M212 : am_ML[212]? = some am_I212 := rfl
theorem n_212 {G : Nat → Nat} {d : Nat} {h : am_H} {a0 : Nat} {a1 : Int32} : am_evm G d 212 [.ref a0, .int a1] h = am_ev G d 212 0 [some (.ref a0), some (.int a1), none, none] [] h := rfl
abbrev am_I213 : am_MI := (yX9_copy, cX9_copy, 7, (some .int), 9, 5, 1)
theorem am_M213 : am_ML[213]? = some am_I213 := rfl
theorem n_213 {G : Nat → Nat} {d : Nat} {h : am_H} {a0 : Nat} {a1 : Int32} {a2 : Int32} {a3 : Int32} {a4 : Int32} {a5 : Int32} : am_evm G d 213 [.ref a0, .int a1, .int a2, .int a3, .int a4, .int a5] h = am_ev G d 213 0 [some (.ref a0), some (.int a1), some (.int a2), some (.int a3), some (.int a4), some (.int a5), none] [] h := rfl
abbrev am_I214 : am_MI := (yX9_isSlot, cX9_isSlot, 1, (some .boolean), 9, 1, 0)
theorem am_M214 : am_ML[214]? = some am_I214 := rfl
theorem n_214 {G : Nat → Nat} {d : Nat} {h : am_H} {a0 : Int32} : am_evm G d 214 [.int a0] h = am_ev G d 214 0 [some (.int a0)] [] h := rfl
abbrev am_I215 : am_MI := (yX9_lay, cX9_lay, 7, (some .int), 9, 3, 1)
theorem am_M215 : am_ML[215]? = some am_I215 := rfl
theorem n_215 {G : Nat → Nat} {d : Nat} {h : am_H} {a0 : Nat} {a1 : Int32} {a2 : Int32} {a3 : Int32} : am_evm G d 215 [.ref a0, .int a1, .int a2, .int a3] h = am_ev G d 215 0 [some (.ref a0), some (.int a1), some (.int a2), some (.int a3), none, none, none] [] h := rfl
abbrev am_I216 : am_MI := (yX9_ask, cX9_ask, 3, (some .int), 9, 2, 1)
theorem am_M216 : am_ML[216]? = some am_I216 := rfl
theorem n_216 {G : Nat → Nat} {d : Nat} {h : am_H} {a0 : Nat} {a1 : Int32} {a2 : Int32} : am_evm G d 216 [.ref a0, .int a1, .int a2] h = am_ev G d 216 0 [some (.ref a0), some (.int a1), some (.int a2)] [] h := rfl
abbrev am_I217 : am_MI := (yX9_item, cX9_item, 4, (some .int), 9, 2, 1)
theorem am_M217 : am_ML[217]? = some am_I217 := rfl
theorem n_217 {G : Nat → Nat} {d : Nat} {h : am_H} {a0 : Nat} {a1 : Int32} {a2 : Int32} : am_evm G d 217 [.ref a0, .int a1, .int a2] h = am_ev G d 217 0 [some (.ref a0), some (.int a1), some (.int a2), none] [] h := rfl
abbrev am_I218 : am_MI := (yX9_rest, cX9_rest, 3, (some .int), 9, 2, 1)
theorem am_M218 : am_ML[218]? = some am_I218 := rfl
theorem n_218 {G : Nat → Nat} {d : Nat} {h : am_H} {a0 : Nat} {a1 : Int32} {a2 : Int32} : am_evm G d 218 [.ref a0, .int a1, .int a2] h = am_ev G d 218 0 [some (.ref a0), some (.int a1), some (.int a2)] [] h := rfl
abbrev am_I219 : am_MI := (yX9_tell, cX9_tell, 2, (some .int), 9, 1, 1)
theorem am_M219 : am_ML[219]? = some am_I219 := rfl
theorem n_219 {G : Nat → Nat} {d : Nat} {h : am_H} {a0 : Nat} {a1 : Int32} : am_evm G d 219 [.ref a0, .int a1] h = am_ev G d 219 0 [some (.ref a0), some (.int a1)] [] h := rfl
abbrev am_I220 : am_MI := (yX9_setAside, cX9_setAside, 4, none, 9, 2, 1)
theorem am_M220 : am_ML[220]? = some am_I220 := rfl
theorem n_220 {G : Nat → Nat} {d : Nat} {h : am_H} {a0 : Nat} {a1 : Nat} {a2 : Nat} : am_evm G d 220 [.ref a0, .ref a1, .ref a2] h = am_ev G d 220 0 [some (.ref a0), some (.ref a1), some (.ref a2), none] [] h := rfl
abbrev am_I221 : am_MI := (yX9_check, cX9_check, 6, (some .int), 9, 2, 1)
theorem am_M221 : am_ML[221]? = some am_I221 := rfl
theorem n_221 {G : Nat → Nat} {d : Nat} {h : am_H} {a0 : Nat} {a1 : Int32} {a2 : Int32} : am_evm G d 221 [.ref a0, .int a1, .int a2] h = am_ev G d 221 0 [some (.ref a0), some (.int a1), some (.int a2), none, none, none] [] h := rfl
abbrev am_I222 : am_MI := (yX9_keep, cX9_keep, 1, (some .int), 9, 0, 1)
theorem am_M222 : am_ML[222]? = some am_I222 := rfl
theorem n_222 {G : Nat → Nat} {d : Nat} {h : am_H} {a0 : Nat} : am_evm G d 222 [.ref a0] h = am_ev G d 222 0 [some (.ref a0)] [] h := rfl
abbrev am_I223 : am_MI := (yX9_back, cX9_back, 1, (some .int), 9, 0, 1)
theorem am_M223 : am_ML[223]? = some am_I223 := rfl
theorem n_223 {G : Nat → Nat} {d : Nat} {h : am_H} {a0 : Nat} : am_evm G d 223 [.ref a0] h = am_ev G d 223 0 [some (.ref a0)] [] h := rfl
abbrev am_I224 : am_MI := (yX9_ofAll, cX9_ofAll, 4, (some .int), 9, 1, 1)
theorem am_M224 : am_ML[224]? = some am_I224 := rfl
theorem n_224 {G : Nat → Nat} {d : Nat} {h : am_H} {a0 : Nat} {a1 : Int32} : am_evm G d 224 [.ref a0, .int a1] h = am_ev G d 224 0 [some (.ref a0), some (.int a1), none, none] [] h := rfl
abbrev am_I225 : am_MI := (yX9_count, cX9_count, 2, (some .int), 9, 1, 1)
theorem am_M225 : am_ML[225]? = some am_I225 := rfl
theorem n_225 {G : Nat → Nat} {d : Nat} {h : am_H} {a0 : Nat} {a1 : Int32} : am_evm G d 225 [.ref a0, .int a1] h = am_ev G d 225 0 [some (.ref a0), some (.int a1)] [] h := rfl
abbrev am_I226 : am_MI := (yJ6_bitCount_0f7a4, cJ6_bitCount_0f7a4, 1, (some .int), 14, 1, 0)
theorem am_M226 : am_ML[226]? = some am_I226 := rfl
theorem n_226 {G : Nat → Nat} {d : Nat} {h : am_H} {a0 : Int32} : am_evm G d 226 [.int a0] h = am_ev G d 226 0 [some (.int a0)] [] h := rfl
abbrev am_I227 : am_MI := (yJ0_length_8abf5, cJ0_length_8abf5, 1, (some .int), 11, 0, 1)
theorem am_M227 : am_ML[227]? = some am_I227 := rfl
theorem n_227 {G : Nat → Nat} {d : Nat} {h : am_H} {a0 : Nat} : am_evm G d 227 [.ref a0] h = am_ev G d 227 0 [some (.ref a0)] [] h := rfl
abbrev am_I228 : am_MI := (yJ0_charAt_5068e, cJ0_charAt_5068e, 2, (some .char), 11, 1, 1)
theorem am_M228 : am_ML[228]? = some am_I228 := rfl
theorem n_228 {G : Nat → Nat} {d : Nat} {h : am_H} {a0 : Nat} {a1 : Int32} : am_evm G d 228 [.ref a0, .int a1] h = am_ev G d 228 0 [some (.ref a0), some (.int a1)] [] h := rfl
abbrev am_I229 : am_MI := (yJ0_coder_7d493, cJ0_coder_7d493, 1, (some .byte), 11, 0, 1)
theorem am_M229 : am_ML[229]? = some am_I229 := rfl
theorem n_229 {G : Nat → Nat} {d : Nat} {h : am_H} {a0 : Nat} : am_evm G d 229 [.ref a0] h = am_ev G d 229 0 [some (.ref a0)] [] h := rfl
abbrev am_I230 : am_MI := (yJ0_isLatin1_aae02, cJ0_isLatin1_aae02, 1, (some .boolean), 11, 0, 1)
theorem am_M230 : am_ML[230]? = some am_I230 := rfl
theorem n_230 {G : Nat → Nat} {d : Nat} {h : am_H} {a0 : Nat} : am_evm G d 230 [.ref a0] h = am_ev G d 230 0 [some (.ref a0)] [] h := rfl
abbrev am_I231 : am_MI := (yJ0_checkIndex_df160, cJ0_checkIndex_df160, 2, none, 11, 2, 0)
theorem am_M231 : am_ML[231]? = some am_I231 := rfl
theorem n_231 {G : Nat → Nat} {d : Nat} {h : am_H} {a0 : Int32} {a1 : Int32} : am_evm G d 231 [.int a0, .int a1] h = am_ev G d 231 0 [some (.int a0), some (.int a1)] [] h := rfl
abbrev am_I232 : am_MI := (yJ1_charAt_3b067, cJ1_charAt_3b067, 2, (some .char), 12, 2, 0)
theorem am_M232 : am_ML[232]? = some am_I232 := rfl
theorem n_232 {G : Nat → Nat} {d : Nat} {h : am_H} {a0 : Nat} {a1 : Int32} : am_evm G d 232 [.ref a0, .int a1] h = am_ev G d 232 0 [some (.ref a0), some (.int a1)] [] h := rfl
abbrev am_I233 : am_MI := (yJ3_checkIndex_8e157, cJ3_checkIndex_8e157, 3, (some .int), 13, 3, 0)
theorem am_M233 : am_ML[233]? = some am_I233 := rfl
theorem n_233 {G : Nat → Nat} {d : Nat} {h : am_H} {a0 : Int32} {a1 : Int32} {a2 : Nat} : am_evm G d 233 [.int a0, .int a1, .ref a2] h = am_ev G d 233 0 [some (.int a0), some (.int a1), some (.ref a2)] [] h := rfl
