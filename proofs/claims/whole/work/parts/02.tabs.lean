theorem am_t1 {w : Cond} (h : w ∈ tables_1_1) : w ∈ lw_tbl := List.mem_append_right _ (List.mem_append_left _ h)
theorem am_t2 {w : Cond} (h : w ∈ tables_1_2) : w ∈ lw_tbl := List.mem_append_right _ (List.mem_append_right _ (List.mem_append_left _ h))
theorem am_t3 {w : Cond} (h : w ∈ tables_1_3) : w ∈ lw_tbl := List.mem_append_right _ (List.mem_append_right _ (List.mem_append_right _ (List.mem_append_left _ h)))
theorem am_t4 {w : Cond} (h : w ∈ tables_1_4) : w ∈ lw_tbl := List.mem_append_right _ (List.mem_append_right _ (List.mem_append_right _ (List.mem_append_right _ (List.mem_append_left _ h))))
theorem am_t5 {w : Cond} (h : w ∈ tables_1_5) : w ∈ lw_tbl := List.mem_append_right _ (List.mem_append_right _ (List.mem_append_right _ (List.mem_append_right _ (List.mem_append_right _ (List.mem_append_left _ h)))))
theorem am_t6 {w : Cond} (h : w ∈ tables_1_6) : w ∈ lw_tbl := List.mem_append_right _ (List.mem_append_right _ (List.mem_append_right _ (List.mem_append_right _ (List.mem_append_right _ (List.mem_append_right _ h)))))
theorem am_t0 {w : Cond} (h : w ∈ k2_sels lw_privs) : w ∈ lw_tbl := List.mem_append_left _ h
def am_tab (t : Nat) : List Cond := match t with
  | 0 => k2_sels lw_privs
  | 1 => tables_1_1
  | 2 => tables_1_2
  | 3 => tables_1_3
  | 4 => tables_1_4
  | 5 => tables_1_5
  | _ => tables_1_6
theorem am_tab_in {t i : Nat} {w : Cond} (h : (am_tab t)[i]? = some w) : w ∈ lw_tbl := by
  have h1 := List.mem_of_getElem? h
  unfold am_tab at h1
  split at h1
  · exact am_t0 h1
  · exact am_t1 h1
  · exact am_t2 h1
  · exact am_t3 h1
  · exact am_t4 h1
  · exact am_t5 h1
  · exact am_t6 h1
def am_at (q : Nat × Nat) (w : Cond) : Bool := decide ((am_tab q.1)[q.2]? = some w)
theorem am_at_in {q : Nat × Nat} {w : Cond} (h : am_at q w = true) : w ∈ lw_tbl := am_tab_in (of_decide_eq_true h)
/-- the names of the units, by number: 0 to 9 as in vwCl, then the law, String, StringLatin1, Preconditions, Integer -/
def am_cs (n : Nat) : String := match n with
  | 0 => RX0
  | 1 => RX1
  | 2 => RX2
  | 3 => RX3
  | 4 => RX4
  | 5 => RX5
  | 6 => RX6
  | 7 => RX7
  | 8 => RX8
  | 9 => RX9
  | 10 => RL
  | 11 => RJ0
  | 12 => RJ1
  | 13 => RJ3
  | _ => RJ6
def am_T (n : Nat) : u_T := match n with
  | 0 => TX0
  | 1 => TX1
  | 2 => TX2
  | 3 => TX3
  | 4 => TX4
  | 5 => TX5
  | 6 => TX6
  | 7 => TX7
  | 8 => TX8
  | _ => TX9
def am_ty (n : Nat) : Nat → FieldType := match n with
  | 0 => tyX0
  | 1 => tyX1
  | 2 => tyX2
  | 3 => tyX3
  | 4 => tyX4
  | 5 => tyX5
  | 6 => tyX6
  | 7 => tyX7
  | 8 => tyX8
  | _ => tyX9
def am_N (n : Nat) : Nat := match n with
  | 0 => 6
  | 1 => 10
  | 2 => 6
  | 3 => 11
  | 4 => 3
  | 5 => 4
  | 6 => 2
  | 7 => 3
  | 8 => 10
  | _ => 31
def am_lyT : List (Nat × Nat × (Nat × Nat)) := [
  (0, 0, (1, 98)), (0, 1, (1, 100)), (0, 2, (1, 102)), (0, 3, (1, 104)), (0, 4, (1, 106)), (0, 5, (1, 108)), (1, 0, (1, 130)), (1, 1, (1, 132)), (1, 2, (1, 134)), (1, 3, (1, 136)), (1, 4, (1, 138)), (1, 5, (1, 140)), (1, 6, (1, 142)), (1, 7, (1, 144)), (1, 8, (1, 146)), (1, 9, (1, 148)), (2, 0, (1, 61)), (2, 1, (1, 63)), (2, 2, (1, 65)), (2, 3, (1, 67)), (2, 4, (1, 69)), (2, 5, (1, 71)), (3, 0, (1, 187)), (3, 1, (1, 189)), (3, 2, (1, 191)), (3, 3, (1, 193)), (3, 4, (1, 195)), (3, 5, (1, 197)), (3, 6, (1, 199)), (3, 7, (1, 201)), (3, 8, (1, 203)), (3, 9, (1, 205)), (3, 10, (1, 207)), (4, 0, (1, 225)), (4, 1, (1, 227)), (4, 2, (1, 229)), (5, 0, (2, 9)), (5, 1, (2, 11)), (5, 2, (2, 13)), (5, 3, (2, 15)), (6, 0, (1, 167)), (6, 1, (1, 169)), (7, 0, (4, 25)), (7, 1, (4, 27)), (7, 2, (4, 29)), (8, 0, (2, 28)), (8, 1, (2, 30)), (8, 2, (2, 32)), (8, 3, (2, 34)), (8, 4, (2, 36)), (8, 5, (2, 38)), (8, 6, (2, 40)), (8, 7, (2, 42)), (8, 8, (2, 44)), (8, 9, (2, 46)), (9, 0, (4, 200)), (9, 1, (4, 202)), (9, 2, (4, 204)), (9, 3, (4, 206)), (9, 4, (4, 208)), (9, 5, (4, 210)), (9, 6, (4, 212)), (9, 7, (4, 214)), (9, 8, (4, 216)), (9, 9, (4, 218)), (9, 10, (4, 220)), (9, 11, (4, 222)), (9, 12, (4, 224)), (9, 13, (4, 226)), (9, 14, (4, 228)), (9, 15, (4, 230)), (9, 16, (4, 232)), (9, 17, (4, 234)), (9, 18, (4, 236)), (9, 19, (4, 238)), (9, 20, (5, 0)), (9, 21, (5, 2)), (9, 22, (5, 4)), (9, 23, (5, 6)), (9, 24, (5, 8)), (9, 25, (5, 10)), (9, 26, (5, 12)), (9, 27, (5, 14)), (9, 28, (5, 16)), (9, 29, (5, 18)), (9, 30, (5, 20))]
set_option maxRecDepth 100000 in
theorem am_lyT_ok : am_lyT.all (fun q => am_at q.2.2 (u_lay (am_cs q.1) (am_T q.1) q.2.1)) = true := by decide +kernel
def am_ciT : List ((Nat × Nat) × (Nat × Nat)) := [((1, 75), (1, 4)), ((1, 27), (1, 2)), ((1, 39), (1, 3)), ((1, 152), (1, 5)), ((1, 214), (1, 7)), ((1, 232), (1, 8)), ((1, 158), (1, 6)), ((4, 7), (1, 12)), ((1, 19), (1, 1)), ((4, 164), (1, 9))]
set_option maxRecDepth 100000 in
theorem am_ciT_ok : (List.range 10).all (fun i => match am_ciT[i]? with | some q => am_at q.1 (.instantiable (am_cs i) (am_N i)) && am_at q.2 (.initialized (am_cs i)) | none => false) = true := by decide +kernel
/-- a method: its name, code, locals, result, unit, parameters, sort (0 static, 1 virtual, 2 constructor) -/
abbrev am_MI : Type := MethodName × ByteArray × Nat × Option FieldType × Nat × Nat × Nat
def am_ML0 : List am_MI := [
  (yL_law, cL_law, 4, (some .boolean), 10, 1, 0),
  (yX0_init, cX0_init, 1, none, 0, 0, 2),
  (yX0_begin, cX0_begin, 1, none, 0, 0, 1),
  (yX0_become, cX0_become, 2, none, 0, 1, 1),
  (yX0_takeSaying, cX0_takeSaying, 2, none, 0, 1, 1),
  (yX1_init, cX1_init, 2, none, 1, 0, 2),
  (yX1_become, cX1_become, 3, none, 1, 1, 1),
  (yX1_hasPerson, cX1_hasPerson, 2, (some .boolean), 1, 1, 1),
  (yX1_hasTwo, cX1_hasTwo, 3, (some .boolean), 1, 2, 1),
  (yX1_hasDeed, cX1_hasDeed, 2, (some .boolean), 1, 1, 1),
  (yX1_canBeDoers, cX1_canBeDoers, 2, (some .boolean), 1, 1, 1),
  (yX1_everyone, cX1_everyone, 1, (some .int), 1, 0, 1),
  (yX1_addPerson, cX1_addPerson, 4, (some .int), 1, 3, 1),
  (yX1_addDeed, cX1_addDeed, 5, (some .int), 1, 3, 1),
  (yX1_addText, cX1_addText, 2, (some .int), 1, 1, 1),
  (yX1_draw, cX1_draw, 1, (some .int), 1, 0, 1),
  (yX1_drawPerson, cX1_drawPerson, 4, none, 1, 0, 1),
  (yX1_workOutFollowers, cX1_workOutFollowers, 3, none, 1, 0, 1),
  (yX1_goersBy, cX1_goersBy, 2, (some .int), 1, 1, 1),
  (yX1_leftOn, cX1_leftOn, 2, (some .int), 1, 1, 1)]
def am_ML1 : List am_MI := [
  (yX1_leftCount, cX1_leftCount, 2, (some .int), 1, 1, 1),
  (yX1_deedsWithout, cX1_deedsWithout, 4, (some .int), 1, 1, 1),
  (yX1_sayingsOfAll, cX1_sayingsOfAll, 3, (some .int), 1, 0, 1),
  (yX1_liesOfAll, cX1_liesOfAll, 3, (some .int), 1, 0, 1),
  (yX1_lawOf, cX1_lawOf, 2, (some (.object "NeverSaid$Text")), 1, 1, 1),
  (yX1_costOf, cX1_costOf, 3, (some .int), 1, 1, 1),
  (yX1_boldOf, cX1_boldOf, 5, (some .int), 1, 2, 1),
  (yX1_mayBe, cX1_mayBe, 6, (some .boolean), 1, 3, 1),
  (yX1_allOfWhomItMayBe, cX1_allOfWhomItMayBe, 5, (some .int), 1, 2, 1),
  (yX1_allOfWhomItIsALie, cX1_allOfWhomItIsALie, 4, (some .int), 1, 1, 1),
  (yX1_chosenBy, cX1_chosenBy, 6, (some .int), 1, 2, 1),
  (yX1_firstOf, cX1_firstOf, 3, (some .int), 1, 2, 1),
  (yX1_playRound, cX1_playRound, 4, none, 1, 1, 1),
  (yX1_fewestFor, cX1_fewestFor, 5, (some .int), 1, 1, 1),
  (yX1_isFirstToBeNamed, cX1_isFirstToBeNamed, 5, (some .boolean), 1, 2, 1),
  (yX1_shareOf, cX1_shareOf, 5, (some .int), 1, 1, 1),
  (yX2_init, cX2_init, 1, none, 2, 0, 2),
  (yX2_begin, cX2_begin, 4, none, 2, 3, 1),
  (yX2_become, cX2_become, 2, none, 2, 1, 1),
  (yX2_isOf, cX2_isOf, 4, (some .boolean), 2, 1, 1)]
def am_ML2 : List am_MI := [
  (yX2_worth, cX2_worth, 1, (some .int), 2, 0, 1),
  (yX3_init, cX3_init, 1, none, 3, 0, 2),
  (yX3_readTape, cX3_readTape, 1, (some (.object "NeverSaid$Text")), 3, 0, 1),
  (yX3_usedCode, cX3_usedCode, 2, (some (.array .int)), 3, 0, 1),
  (yX3_splitTape, cX3_splitTape, 5, none, 3, 0, 1),
  (yX3_addWord, cX3_addWord, 3, none, 3, 2, 1),
  (yX3_sortOf, cX3_sortOf, 1, (some .int), 3, 1, 0),
  (yX3_fail, cX3_fail, 1, none, 3, 0, 1),
  (yX3_goOn, cX3_goOn, 1, none, 3, 0, 1),
  (yX3_sign, cX3_sign, 1, (some .int), 3, 0, 1),
  (yX3_readKey, cX3_readKey, 1, none, 3, 0, 1),
  (yX3_isWord, cX3_isWord, 3, (some .boolean), 3, 1, 1),
  (yX3_readSide, cX3_readSide, 7, none, 3, 3, 1),
  (yX3_levelOf, cX3_levelOf, 1, (some .int), 3, 1, 0),
  (yX3_readPiece, cX3_readPiece, 3, none, 3, 2, 1),
  (yX3_readClose, cX3_readClose, 1, none, 3, 0, 1),
  (yX3_readNumber, cX3_readNumber, 3, none, 3, 0, 1),
  (yX3_readName, cX3_readName, 4, none, 3, 0, 1),
  (yX3_addPiece, cX3_addPiece, 2, none, 3, 1, 1),
  (yX3_addStep, cX3_addStep, 2, none, 3, 1, 1)]
def am_ML3 : List am_MI := [
  (yX4_init, cX4_init, 1, none, 4, 0, 2),
  (yX4_begin, cX4_begin, 4, none, 4, 2, 1),
  (yX4_become, cX4_become, 2, none, 4, 1, 1),
  (yX4_hasPlace, cX4_hasPlace, 2, (some .boolean), 4, 1, 1),
  (yX4_hasStretch, cX4_hasStretch, 3, (some .boolean), 4, 2, 1),
  (yX5_init, cX5_init, 1, none, 5, 0, 2),
  (yX5_findingFor, cX5_findingFor, 2, (some .int), 5, 1, 1),
  (yX6_init, cX6_init, 1, none, 6, 0, 2),
  (yX6_add, cX6_add, 3, none, 6, 1, 1),
  (yX6_at, cX6_at, 2, (some .int), 6, 1, 1),
  (yX7_init, cX7_init, 4, none, 7, 3, 2),
  (yX7_valueOf, cX7_valueOf, 8, (some .int), 7, 4, 1),
  (yX7_joined, cX7_joined, 3, (some .int), 7, 3, 0),
  (yX8_init, cX8_init, 2, none, 8, 0, 2),
  (yX8_person, cX8_person, 3, (some .int), 8, 2, 1),
  (yX8_told, cX8_told, 4, (some .int), 8, 2, 1),
  (yX8_as, cX8_as, 4, (some .int), 8, 2, 1),
  (yX8_turns, cX8_turns, 4, (some .int), 8, 2, 1),
  (yX8_bolder, cX8_bolder, 4, (some .int), 8, 2, 1),
  (yX8_away, cX8_away, 6, (some .int), 8, 3, 1)]
def am_ML4 : List am_MI := [
  (yX8_friend, cX8_friend, 7, (some .int), 8, 3, 1),
  (yX8_follow, cX8_follow, 6, (some .int), 8, 3, 1),
  (yX8_deal, cX8_deal, 4, (some .int), 8, 1, 1),
  (yX8_seed, cX8_seed, 3, (some .int), 8, 1, 1),
  (yX8_deed, cX8_deed, 4, (some .int), 8, 3, 1),
  (yX8_deedTold, cX8_deedTold, 4, (some .int), 8, 2, 1),
  (yX8_again, cX8_again, 4, (some .int), 8, 1, 1),
  (yX8_stop, cX8_stop, 3, (some .int), 8, 1, 1),
  (yX8_say, cX8_say, 5, (some .int), 8, 3, 1),
  (yX8_choice, cX8_choice, 3, (some .int), 8, 2, 1),
  (yX8_rounds, cX8_rounds, 6, (some .int), 8, 2, 1),
  (yX8_fewest, cX8_fewest, 4, (some .int), 8, 2, 1),
  (yX8_silent, cX8_silent, 3, (some .int), 8, 0, 1),
  (yX8_meant, cX8_meant, 4, (some .int), 8, 1, 1),
  (yX8_proved, cX8_proved, 5, (some .int), 8, 1, 1),
  (yX8_falls, cX8_falls, 5, (some .long), 8, 2, 1),
  (yX8_most, cX8_most, 5, (some .int), 8, 0, 1),
  (yX8_feed, cX8_feed, 4, (some .int), 8, 3, 1),
  (yX8_trim, cX8_trim, 2, (some .int), 8, 1, 1),
  (yX8_text, cX8_text, 2, (some .int), 8, 0, 1)]
def am_ML5 : List am_MI := [
  (yX8_textTold, cX8_textTold, 3, (some .int), 8, 2, 1),
  (yX8_why, cX8_why, 2, (some .int), 8, 1, 1),
  (yX8_sheet, cX8_sheet, 5, (some .int), 8, 3, 1),
  (yX8_mark, cX8_mark, 5, (some .int), 8, 3, 1),
  (yX8_pour, cX8_pour, 7, (some .int), 8, 1, 1),
  (yX8_reads, cX8_reads, 5, (some .int), 8, 1, 1),
  (yX8_copy, cX8_copy, 8, (some .int), 8, 5, 1),
  (yX8_lay, cX8_lay, 6, (some .int), 8, 3, 1),
  (yX8_ask, cX8_ask, 5, (some .int), 8, 2, 1),
  (yX8_item, cX8_item, 5, (some .int), 8, 2, 1),
  (yX8_rest, cX8_rest, 5, (some .int), 8, 2, 1),
  (yX8_tell, cX8_tell, 2, (some .int), 8, 1, 1),
  (yX8_check, cX8_check, 7, (some .int), 8, 2, 1),
  (yX8_keep, cX8_keep, 1, (some .int), 8, 0, 1),
  (yX8_back, cX8_back, 1, (some .int), 8, 0, 1),
  (yX8_count, cX8_count, 2, (some .int), 8, 1, 1),
  (yX8_rightOf, cX8_rightOf, 5, (some .int), 8, 4, 1),
  (yX8_within, cX8_within, 3, (some .boolean), 8, 3, 0),
  (yX8_held, cX8_held, 3, (some .int), 8, 3, 0),
  (yX8_isKind, cX8_isKind, 1, (some .boolean), 8, 1, 0)]
def am_ML6 : List am_MI := [
  (yX8_isHour, cX8_isHour, 1, (some .boolean), 8, 1, 0),
  (yX8_isYesOrNo, cX8_isYesOrNo, 1, (some .boolean), 8, 1, 0),
  (yX8_isSheet, cX8_isSheet, 1, (some .boolean), 8, 1, 0),
  (yX8_isSlot, cX8_isSlot, 1, (some .boolean), 8, 1, 0),
  (yX8_bitAt, cX8_bitAt, 2, (some .int), 8, 2, 0),
  (yX8_hasBit, cX8_hasBit, 2, (some .boolean), 8, 2, 0),
  (yX8_withBit, cX8_withBit, 3, (some .int), 8, 3, 0),
  (yX8_leastOf, cX8_leastOf, 2, (some .int), 8, 1, 0),
  (yX8_greatestOf, cX8_greatestOf, 2, (some .int), 8, 1, 0),
  (yX8_commonDivisor, cX8_commonDivisor, 6, (some .int), 8, 2, 0),
  (yX9_init, cX9_init, 2, none, 9, 0, 2),
  (yX9_isIn, cX9_isIn, 6, (some .boolean), 9, 3, 0),
  (yX9_orNone, cX9_orNone, 1, (some .int), 9, 1, 0),
  (yX9_within, cX9_within, 2, (some .int), 9, 2, 0),
  (yX9_becomes, cX9_becomes, 4, (some .int), 9, 2, 1),
  (yX9_textAt, cX9_textAt, 2, (some .int), 9, 1, 1),
  (yX9_of, cX9_of, 3, (some .int), 9, 2, 1),
  (yX9_dee, cX9_dee, 3, (some .int), 9, 2, 1),
  (yX9_isPerson, cX9_isPerson, 2, (some .boolean), 9, 1, 1),
  (yX9_isDeed, cX9_isDeed, 2, (some .boolean), 9, 1, 1)]
def am_ML7 : List am_MI := [
  (yX9_isText, cX9_isText, 2, (some .boolean), 9, 1, 1),
  (yX9_everybody, cX9_everybody, 1, (some .int), 9, 0, 1),
  (yX9_left, cX9_left, 2, (some .int), 9, 1, 1),
  (yX9_ones, cX9_ones, 3, (some .int), 9, 1, 0),
  (yX9_drawn, cX9_drawn, 1, (some .int), 9, 0, 1),
  (yX9_comes, cX9_comes, 5, none, 9, 3, 1),
  (yX9_person, cX9_person, 3, (some .int), 9, 2, 1),
  (yX9_followers, cX9_followers, 5, (some .int), 9, 1, 1),
  (yX9_goBy, cX9_goBy, 2, (some .int), 9, 1, 1),
  (yX9_worthOf, cX9_worthOf, 2, (some .int), 9, 2, 0),
  (yX9_goneOn, cX9_goneOn, 4, (some .int), 9, 1, 1),
  (yX9_told, cX9_told, 3, (some .int), 9, 2, 1),
  (yX9_isOf, cX9_isOf, 2, (some .boolean), 9, 2, 0),
  (yX9_as, cX9_as, 3, (some .int), 9, 2, 1),
  (yX9_turns, cX9_turns, 3, (some .int), 9, 2, 1),
  (yX9_bolder, cX9_bolder, 3, (some .int), 9, 2, 1),
  (yX9_bitBecomes, cX9_bitBecomes, 5, (some .int), 9, 3, 1),
  (yX9_away, cX9_away, 4, (some .int), 9, 3, 1),
  (yX9_areTwo, cX9_areTwo, 4, (some .boolean), 9, 3, 1),
  (yX9_friend, cX9_friend, 5, (some .int), 9, 3, 1)]
def am_ML8 : List am_MI := [
  (yX9_follow, cX9_follow, 4, (some .int), 9, 3, 1),
  (yX9_deal, cX9_deal, 6, (some .int), 9, 1, 1),
  (yX9_seed, cX9_seed, 2, (some .int), 9, 1, 1),
  (yX9_deed, cX9_deed, 6, (some .int), 9, 3, 1),
  (yX9_cost, cX9_cost, 3, (some .int), 9, 1, 1),
  (yX9_deedTold, cX9_deedTold, 3, (some .int), 9, 2, 1),
  (yX9_again, cX9_again, 3, (some .int), 9, 1, 1),
  (yX9_stop, cX9_stop, 2, (some .int), 9, 1, 1),
  (yX9_mayBe, cX9_mayBe, 5, (some .boolean), 9, 3, 1),
  (yX9_says, cX9_says, 5, none, 9, 2, 1),
  (yX9_say, cX9_say, 4, (some .int), 9, 3, 1),
  (yX9_least, cX9_least, 2, (some .int), 9, 1, 0),
  (yX9_greatest, cX9_greatest, 2, (some .int), 9, 1, 0),
  (yX9_choiceOf, cX9_choiceOf, 7, (some .int), 9, 2, 1),
  (yX9_choice, cX9_choice, 3, (some .int), 9, 2, 1),
  (yX9_boldness, cX9_boldness, 4, (some .int), 9, 2, 1),
  (yX9_rounded, cX9_rounded, 6, (some .int), 9, 1, 1),
  (yX9_rounds, cX9_rounds, 5, (some .int), 9, 2, 1),
  (yX9_fewest, cX9_fewest, 10, (some .int), 9, 2, 1),
  (yX9_silent, cX9_silent, 3, (some .int), 9, 0, 1)]
def am_ML9 : List am_MI := [
  (yX9_meant, cX9_meant, 3, (some .int), 9, 1, 1),
  (yX9_proved, cX9_proved, 4, (some .int), 9, 1, 1),
  (yX9_fallsOn, cX9_fallsOn, 4, (some .int), 9, 1, 1),
  (yX9_falls, cX9_falls, 7, (some .long), 9, 2, 1),
  (yX9_most, cX9_most, 3, (some .int), 9, 0, 1),
  (yX9_feed, cX9_feed, 6, (some .int), 9, 3, 1),
  (yX9_trim, cX9_trim, 2, (some .int), 9, 1, 1),
  (yX9_isLetter, cX9_isLetter, 2, (some .boolean), 9, 1, 1),
  (yX9_isDigit, cX9_isDigit, 2, (some .boolean), 9, 1, 1),
  (yX9_nextToken, cX9_nextToken, 3, none, 9, 0, 1),
  (yX9_isSign, cX9_isSign, 2, (some .boolean), 9, 1, 1),
  (yX9_isWordAt, cX9_isWordAt, 6, (some .boolean), 9, 4, 1),
  (yX9_key, cX9_key, 1, (some .int), 9, 0, 1),
  (yX9_isName, cX9_isName, 2, (some .boolean), 9, 2, 0),
  (yX9_step, cX9_step, 3, none, 9, 2, 1),
  (yX9_either, cX9_either, 2, (some .boolean), 9, 1, 1),
  (yX9_both, cX9_both, 2, (some .boolean), 9, 1, 1),
  (yX9_test, cX9_test, 3, (some .boolean), 9, 1, 1),
  (yX9_sum, cX9_sum, 3, (some .boolean), 9, 1, 1),
  (yX9_term, cX9_term, 3, (some .boolean), 9, 1, 1)]
def am_ML10 : List am_MI := [
  (yX9_part0, cX9_part0, 2, (some .boolean), 9, 1, 1),
  (yX9_parse, cX9_parse, 3, (some .int), 9, 0, 1),
  (yX9_text, cX9_text, 3, (some .int), 9, 0, 1),
  (yX9_textTold, cX9_textTold, 3, (some .int), 9, 2, 1),
  (yX9_counts, cX9_counts, 4, (some .int), 9, 1, 1),
  (yX9_why, cX9_why, 2, (some .int), 9, 1, 1),
  (yX9_joined, cX9_joined, 3, (some .int), 9, 3, 0),
  (yX9_worked, cX9_worked, 6, (some .int), 9, 1, 1),
  (yX9_isSheet, cX9_isSheet, 1, (some .boolean), 9, 1, 0),
  (yX9_sheet, cX9_sheet, 5, (some .int), 9, 3, 1),
  (yX9_mark, cX9_mark, 4, (some .int), 9, 3, 1),
  (yX9_pour, cX9_pour, 7, (some .int), 9, 1, 1),
  (yX9_reads, cX9_reads, 4, (some .int), 9, 1, 1),
  (yX9_copy, cX9_copy, 7, (some .int), 9, 5, 1),
  (yX9_isSlot, cX9_isSlot, 1, (some .boolean), 9, 1, 0),
  (yX9_lay, cX9_lay, 7, (some .int), 9, 3, 1),
  (yX9_ask, cX9_ask, 3, (some .int), 9, 2, 1),
  (yX9_item, cX9_item, 4, (some .int), 9, 2, 1),
  (yX9_rest, cX9_rest, 3, (some .int), 9, 2, 1),
  (yX9_tell, cX9_tell, 2, (some .int), 9, 1, 1)]
def am_ML11 : List am_MI := [
  (yX9_setAside, cX9_setAside, 4, none, 9, 2, 1),
  (yX9_check, cX9_check, 6, (some .int), 9, 2, 1),
  (yX9_keep, cX9_keep, 1, (some .int), 9, 0, 1),
  (yX9_back, cX9_back, 1, (some .int), 9, 0, 1),
  (yX9_ofAll, cX9_ofAll, 4, (some .int), 9, 1, 1),
  (yX9_count, cX9_count, 2, (some .int), 9, 1, 1),
  (yJ6_bitCount_0f7a4, cJ6_bitCount_0f7a4, 1, (some .int), 14, 1, 0),
  (yJ0_length_8abf5, cJ0_length_8abf5, 1, (some .int), 11, 0, 1),
  (yJ0_charAt_5068e, cJ0_charAt_5068e, 2, (some .char), 11, 1, 1),
  (yJ0_coder_7d493, cJ0_coder_7d493, 1, (some .byte), 11, 0, 1),
  (yJ0_isLatin1_aae02, cJ0_isLatin1_aae02, 1, (some .boolean), 11, 0, 1),
  (yJ0_checkIndex_df160, cJ0_checkIndex_df160, 2, none, 11, 2, 0),
  (yJ1_charAt_3b067, cJ1_charAt_3b067, 2, (some .char), 12, 2, 0),
  (yJ3_checkIndex_8e157, cJ3_checkIndex_8e157, 3, (some .int), 13, 3, 0)]
def am_ML : List am_MI := (am_ML0 ++ (am_ML1 ++ (am_ML2 ++ (am_ML3 ++ (am_ML4 ++ (am_ML5 ++ (am_ML6 ++ (am_ML7 ++ (am_ML8 ++ (am_ML9 ++ (am_ML10 ++ am_ML11)))))))))))
def am_mok (a : am_MI) (q : (Nat × Nat) × (Nat × Nat) × (Nat × Nat) × (Nat × Nat)) : Bool :=
  am_at q.2.1 (.initialized a.1.cls) && (if a.2.2.2.2.2.2 = 0 then am_at q.2.2.1 (.static a.1) else am_at q.2.2.1 (.instanceMethod a.1)) && (if a.2.2.2.2.2.2 = 1 then am_at q.2.2.2 (.selects a.1.cls a.1 a.1) else true) && plainName a.1.cls && decide (a.1.cls ≠ "java/lang/invoke/MethodHandle") && decide (a.1.cls ≠ "java/lang/invoke/VarHandle") && decide ((parseMethodDescriptor a.1.desc).map (fun d => d.parameters.length) = some a.2.2.2.2.2.1) && decide (a.2.2.1 ≤ 20) && decide (a.1.cls = am_cs a.2.2.2.2.1) && (if a.2.2.2.2.2.2 = 2 then decide (a.1.name = "<init>") && decide (a.2.2.2.1 = none) else true)
/-- what is known of a method: its code word, and the rest by am_mok -/
def am_mkn (a : am_MI) : Prop := (Cond.code a.1 a.2.1 a.2.2.1 a.2.2.2.1) ∈ lw_tbl ∧ ∃ q, am_mok a q = true
theorem am_kn_1 : am_mkn (yX0_init, cX0_init, 1, none, 0, 0, 2) := ⟨am_t1 (List.mem_of_getElem? (i := 78) rfl), ((1, 78), (1, 4), (1, 77), (1, 77)), by decide +kernel⟩
theorem am_kn_2 : am_mkn (yX0_begin, cX0_begin, 1, none, 0, 0, 1) := ⟨am_t2 (List.mem_of_getElem? (i := 190) rfl), ((2, 190), (1, 4), (2, 188), (2, 189)), by decide +kernel⟩
theorem am_kn_3 : am_mkn (yX0_become, cX0_become, 2, none, 0, 1, 1) := ⟨am_t4 (List.mem_of_getElem? (i := 138) rfl), ((4, 138), (1, 4), (4, 136), (4, 137)), by decide +kernel⟩
theorem am_kn_4 : am_mkn (yX0_takeSaying, cX0_takeSaying, 2, none, 0, 1, 1) := ⟨am_t3 (List.mem_of_getElem? (i := 17) rfl), ((3, 17), (1, 4), (3, 15), (3, 16)), by decide +kernel⟩
theorem am_kn_5 : am_mkn (yX1_init, cX1_init, 2, none, 1, 0, 2) := ⟨am_t1 (List.mem_of_getElem? (i := 30) rfl), ((1, 30), (1, 2), (1, 29), (1, 29)), by decide +kernel⟩
theorem am_kn_6 : am_mkn (yX1_become, cX1_become, 3, none, 1, 1, 1) := ⟨am_t4 (List.mem_of_getElem? (i := 133) rfl), ((4, 133), (1, 2), (4, 131), (4, 132)), by decide +kernel⟩
theorem am_kn_7 : am_mkn (yX1_hasPerson, cX1_hasPerson, 2, (some .boolean), 1, 1, 1) := ⟨am_t2 (List.mem_of_getElem? (i := 76) rfl), ((2, 76), (1, 2), (2, 74), (2, 75)), by decide +kernel⟩
theorem am_kn_8 : am_mkn (yX1_hasTwo, cX1_hasTwo, 3, (some .boolean), 1, 2, 1) := ⟨am_t2 (List.mem_of_getElem? (i := 130) rfl), ((2, 130), (1, 2), (2, 128), (2, 129)), by decide +kernel⟩
theorem am_kn_9 : am_mkn (yX1_hasDeed, cX1_hasDeed, 2, (some .boolean), 1, 1, 1) := ⟨am_t2 (List.mem_of_getElem? (i := 198) rfl), ((2, 198), (1, 2), (2, 196), (2, 197)), by decide +kernel⟩
theorem am_kn_10 : am_mkn (yX1_canBeDoers, cX1_canBeDoers, 2, (some .boolean), 1, 1, 1) := ⟨am_t2 (List.mem_of_getElem? (i := 172) rfl), ((2, 172), (1, 2), (2, 170), (2, 171)), by decide +kernel⟩
theorem am_kn_11 : am_mkn (yX1_everyone, cX1_everyone, 1, (some .int), 1, 0, 1) := ⟨am_t2 (List.mem_of_getElem? (i := 176) rfl), ((2, 176), (1, 2), (2, 174), (2, 175)), by decide +kernel⟩
theorem am_kn_12 : am_mkn (yX1_addPerson, cX1_addPerson, 4, (some .int), 1, 3, 1) := ⟨am_t2 (List.mem_of_getElem? (i := 63) rfl), ((2, 63), (1, 2), (2, 61), (2, 62)), by decide +kernel⟩
theorem am_kn_13 : am_mkn (yX1_addDeed, cX1_addDeed, 5, (some .int), 1, 3, 1) := ⟨am_t2 (List.mem_of_getElem? (i := 186) rfl), ((2, 186), (1, 2), (2, 184), (2, 185)), by decide +kernel⟩
theorem am_kn_14 : am_mkn (yX1_addText, cX1_addText, 2, (some .int), 1, 1, 1) := ⟨am_t4 (List.mem_of_getElem? (i := 35) rfl), ((4, 35), (1, 2), (4, 33), (4, 34)), by decide +kernel⟩
theorem am_kn_15 : am_mkn (yX1_draw, cX1_draw, 1, (some .int), 1, 0, 1) := ⟨am_t2 (List.mem_of_getElem? (i := 157) rfl), ((2, 157), (1, 2), (2, 155), (2, 156)), by decide +kernel⟩
theorem am_kn_16 : am_mkn (yX1_drawPerson, cX1_drawPerson, 4, none, 1, 0, 1) := ⟨am_t2 (List.mem_of_getElem? (i := 153) rfl), ((2, 153), (1, 2), (2, 151), (2, 152)), by decide +kernel⟩
theorem am_kn_17 : am_mkn (yX1_workOutFollowers, cX1_workOutFollowers, 3, none, 1, 0, 1) := ⟨am_t2 (List.mem_of_getElem? (i := 139) rfl), ((2, 139), (1, 2), (2, 137), (2, 138)), by decide +kernel⟩
theorem am_kn_18 : am_mkn (yX1_goersBy, cX1_goersBy, 2, (some .int), 1, 1, 1) := ⟨am_t3 (List.mem_of_getElem? (i := 11) rfl), ((3, 11), (1, 2), (3, 9), (3, 10)), by decide +kernel⟩
theorem am_kn_19 : am_mkn (yX1_leftOn, cX1_leftOn, 2, (some .int), 1, 1, 1) := ⟨am_t2 (List.mem_of_getElem? (i := 202) rfl), ((2, 202), (1, 2), (2, 200), (2, 201)), by decide +kernel⟩
theorem am_kn_20 : am_mkn (yX1_leftCount, cX1_leftCount, 2, (some .int), 1, 1, 1) := ⟨am_t2 (List.mem_of_getElem? (i := 214) rfl), ((2, 214), (1, 2), (2, 212), (2, 213)), by decide +kernel⟩
theorem am_kn_21 : am_mkn (yX1_deedsWithout, cX1_deedsWithout, 4, (some .int), 1, 1, 1) := ⟨am_t2 (List.mem_of_getElem? (i := 85) rfl), ((2, 85), (1, 2), (2, 83), (2, 84)), by decide +kernel⟩
theorem am_kn_22 : am_mkn (yX1_sayingsOfAll, cX1_sayingsOfAll, 3, (some .int), 1, 0, 1) := ⟨am_t4 (List.mem_of_getElem? (i := 158) rfl), ((4, 158), (1, 2), (4, 156), (4, 157)), by decide +kernel⟩
theorem am_kn_23 : am_mkn (yX1_liesOfAll, cX1_liesOfAll, 3, (some .int), 1, 0, 1) := ⟨am_t4 (List.mem_of_getElem? (i := 162) rfl), ((4, 162), (1, 2), (4, 160), (4, 161)), by decide +kernel⟩
theorem am_kn_24 : am_mkn (yX1_lawOf, cX1_lawOf, 2, (some (.object "NeverSaid$Text")), 1, 1, 1) := ⟨am_t2 (List.mem_of_getElem? (i := 210) rfl), ((2, 210), (1, 2), (2, 208), (2, 209)), by decide +kernel⟩
theorem am_kn_25 : am_mkn (yX1_costOf, cX1_costOf, 3, (some .int), 1, 1, 1) := ⟨am_t2 (List.mem_of_getElem? (i := 206) rfl), ((2, 206), (1, 2), (2, 204), (2, 205)), by decide +kernel⟩
theorem am_kn_26 : am_mkn (yX1_boldOf, cX1_boldOf, 5, (some .int), 1, 2, 1) := ⟨am_t3 (List.mem_of_getElem? (i := 59) rfl), ((3, 59), (1, 2), (3, 57), (3, 58)), by decide +kernel⟩
theorem am_kn_27 : am_mkn (yX1_mayBe, cX1_mayBe, 6, (some .boolean), 1, 3, 1) := ⟨am_t3 (List.mem_of_getElem? (i := 7) rfl), ((3, 7), (1, 2), (3, 5), (3, 6)), by decide +kernel⟩
theorem am_kn_28 : am_mkn (yX1_allOfWhomItMayBe, cX1_allOfWhomItMayBe, 5, (some .int), 1, 2, 1) := ⟨am_t3 (List.mem_of_getElem? (i := 30) rfl), ((3, 30), (1, 2), (3, 28), (3, 29)), by decide +kernel⟩
theorem am_kn_29 : am_mkn (yX1_allOfWhomItIsALie, cX1_allOfWhomItIsALie, 4, (some .int), 1, 1, 1) := ⟨am_t3 (List.mem_of_getElem? (i := 35) rfl), ((3, 35), (1, 2), (3, 33), (3, 34)), by decide +kernel⟩
theorem am_kn_30 : am_mkn (yX1_chosenBy, cX1_chosenBy, 6, (some .int), 1, 2, 1) := ⟨am_t3 (List.mem_of_getElem? (i := 26) rfl), ((3, 26), (1, 2), (3, 24), (3, 25)), by decide +kernel⟩
theorem am_kn_31 : am_mkn (yX1_firstOf, cX1_firstOf, 3, (some .int), 1, 2, 1) := ⟨am_t3 (List.mem_of_getElem? (i := 47) rfl), ((3, 47), (1, 2), (3, 45), (3, 46)), by decide +kernel⟩
theorem am_kn_32 : am_mkn (yX1_playRound, cX1_playRound, 4, none, 1, 1, 1) := ⟨am_t3 (List.mem_of_getElem? (i := 55) rfl), ((3, 55), (1, 2), (3, 53), (3, 54)), by decide +kernel⟩
theorem am_kn_33 : am_mkn (yX1_fewestFor, cX1_fewestFor, 5, (some .int), 1, 1, 1) := ⟨am_t3 (List.mem_of_getElem? (i := 69) rfl), ((3, 69), (1, 2), (3, 67), (3, 68)), by decide +kernel⟩
theorem am_kn_34 : am_mkn (yX1_isFirstToBeNamed, cX1_isFirstToBeNamed, 5, (some .boolean), 1, 2, 1) := ⟨am_t3 (List.mem_of_getElem? (i := 73) rfl), ((3, 73), (1, 2), (3, 71), (3, 72)), by decide +kernel⟩
theorem am_kn_35 : am_mkn (yX1_shareOf, cX1_shareOf, 5, (some .int), 1, 1, 1) := ⟨am_t3 (List.mem_of_getElem? (i := 96) rfl), ((3, 96), (1, 2), (3, 94), (3, 95)), by decide +kernel⟩
theorem am_kn_36 : am_mkn (yX2_init, cX2_init, 1, none, 2, 0, 2) := ⟨am_t1 (List.mem_of_getElem? (i := 42) rfl), ((1, 42), (1, 3), (1, 41), (1, 41)), by decide +kernel⟩
theorem am_kn_37 : am_mkn (yX2_begin, cX2_begin, 4, none, 2, 3, 1) := ⟨am_t2 (List.mem_of_getElem? (i := 68) rfl), ((2, 68), (1, 3), (2, 66), (2, 67)), by decide +kernel⟩
theorem am_kn_38 : am_mkn (yX2_become, cX2_become, 2, none, 2, 1, 1) := ⟨am_t4 (List.mem_of_getElem? (i := 98) rfl), ((4, 98), (1, 3), (4, 96), (4, 97)), by decide +kernel⟩
theorem am_kn_39 : am_mkn (yX2_isOf, cX2_isOf, 4, (some .boolean), 2, 1, 1) := ⟨am_t2 (List.mem_of_getElem? (i := 96) rfl), ((2, 96), (1, 3), (2, 94), (2, 95)), by decide +kernel⟩
theorem am_kn_40 : am_mkn (yX2_worth, cX2_worth, 1, (some .int), 2, 0, 1) := ⟨am_t2 (List.mem_of_getElem? (i := 81) rfl), ((2, 81), (1, 3), (2, 79), (2, 80)), by decide +kernel⟩
theorem am_kn_41 : am_mkn (yX3_init, cX3_init, 1, none, 3, 0, 2) := ⟨am_t1 (List.mem_of_getElem? (i := 155) rfl), ((1, 155), (1, 5), (1, 154), (1, 154)), by decide +kernel⟩
theorem am_kn_42 : am_mkn (yX3_readTape, cX3_readTape, 1, (some (.object "NeverSaid$Text")), 3, 0, 1) := ⟨am_t3 (List.mem_of_getElem? (i := 124) rfl), ((3, 124), (1, 5), (3, 122), (3, 123)), by decide +kernel⟩
theorem am_kn_43 : am_mkn (yX3_usedCode, cX3_usedCode, 2, (some (.array .int)), 3, 0, 1) := ⟨am_t4 (List.mem_of_getElem? (i := 11) rfl), ((4, 11), (1, 5), (4, 10), (0, 14)), by decide +kernel⟩
theorem am_kn_44 : am_mkn (yX3_splitTape, cX3_splitTape, 5, none, 3, 0, 1) := ⟨am_t3 (List.mem_of_getElem? (i := 128) rfl), ((3, 128), (1, 5), (3, 127), (0, 0)), by decide +kernel⟩
theorem am_kn_45 : am_mkn (yX3_addWord, cX3_addWord, 3, none, 3, 2, 1) := ⟨am_t3 (List.mem_of_getElem? (i := 141) rfl), ((3, 141), (1, 5), (3, 140), (0, 1)), by decide +kernel⟩
theorem am_kn_46 : am_mkn (yX3_sortOf, cX3_sortOf, 1, (some .int), 3, 1, 0) := ⟨am_t3 (List.mem_of_getElem? (i := 136) rfl), ((3, 136), (1, 5), (3, 135), (3, 135)), by decide +kernel⟩
theorem am_kn_47 : am_mkn (yX3_fail, cX3_fail, 1, none, 3, 0, 1) := ⟨am_t3 (List.mem_of_getElem? (i := 204) rfl), ((3, 204), (1, 5), (3, 203), (0, 4)), by decide +kernel⟩
theorem am_kn_48 : am_mkn (yX3_goOn, cX3_goOn, 1, none, 3, 0, 1) := ⟨am_t3 (List.mem_of_getElem? (i := 208) rfl), ((3, 208), (1, 5), (3, 207), (0, 5)), by decide +kernel⟩
theorem am_kn_49 : am_mkn (yX3_sign, cX3_sign, 1, (some .int), 3, 0, 1) := ⟨am_t3 (List.mem_of_getElem? (i := 238) rfl), ((3, 238), (1, 5), (3, 237), (0, 12)), by decide +kernel⟩
theorem am_kn_50 : am_mkn (yX3_readKey, cX3_readKey, 1, none, 3, 0, 1) := ⟨am_t3 (List.mem_of_getElem? (i := 145) rfl), ((3, 145), (1, 5), (3, 144), (0, 2)), by decide +kernel⟩
theorem am_kn_51 : am_mkn (yX3_isWord, cX3_isWord, 3, (some .boolean), 3, 1, 1) := ⟨am_t3 (List.mem_of_getElem? (i := 150) rfl), ((3, 150), (1, 5), (3, 149), (0, 3)), by decide +kernel⟩
theorem am_kn_52 : am_mkn (yX3_readSide, cX3_readSide, 7, none, 3, 3, 1) := ⟨am_t3 (List.mem_of_getElem? (i := 212) rfl), ((3, 212), (1, 5), (3, 211), (0, 6)), by decide +kernel⟩
theorem am_kn_53 : am_mkn (yX3_levelOf, cX3_levelOf, 1, (some .int), 3, 1, 0) := ⟨am_t4 (List.mem_of_getElem? (i := 5) rfl), ((4, 5), (1, 5), (4, 4), (4, 4)), by decide +kernel⟩
theorem am_kn_54 : am_mkn (yX3_readPiece, cX3_readPiece, 3, none, 3, 2, 1) := ⟨am_t3 (List.mem_of_getElem? (i := 216) rfl), ((3, 216), (1, 5), (3, 215), (0, 7)), by decide +kernel⟩
theorem am_kn_55 : am_mkn (yX3_readClose, cX3_readClose, 1, none, 3, 0, 1) := ⟨am_t4 (List.mem_of_getElem? (i := 2) rfl), ((4, 2), (1, 5), (4, 1), (0, 13)), by decide +kernel⟩
theorem am_kn_56 : am_mkn (yX3_readNumber, cX3_readNumber, 3, none, 3, 0, 1) := ⟨am_t3 (List.mem_of_getElem? (i := 220) rfl), ((3, 220), (1, 5), (3, 219), (0, 8)), by decide +kernel⟩
theorem am_kn_57 : am_mkn (yX3_readName, cX3_readName, 4, none, 3, 0, 1) := ⟨am_t3 (List.mem_of_getElem? (i := 232) rfl), ((3, 232), (1, 5), (3, 231), (0, 11)), by decide +kernel⟩
theorem am_kn_58 : am_mkn (yX3_addPiece, cX3_addPiece, 2, none, 3, 1, 1) := ⟨am_t3 (List.mem_of_getElem? (i := 224) rfl), ((3, 224), (1, 5), (3, 223), (0, 9)), by decide +kernel⟩
theorem am_kn_59 : am_mkn (yX3_addStep, cX3_addStep, 2, none, 3, 1, 1) := ⟨am_t3 (List.mem_of_getElem? (i := 228) rfl), ((3, 228), (1, 5), (3, 227), (0, 10)), by decide +kernel⟩
theorem am_kn_60 : am_mkn (yX4_init, cX4_init, 1, none, 4, 0, 2) := ⟨am_t1 (List.mem_of_getElem? (i := 217) rfl), ((1, 217), (1, 7), (1, 216), (1, 216)), by decide +kernel⟩
theorem am_kn_61 : am_mkn (yX4_begin, cX4_begin, 4, none, 4, 2, 1) := ⟨am_t4 (List.mem_of_getElem? (i := 55) rfl), ((4, 55), (1, 7), (4, 53), (4, 54)), by decide +kernel⟩
theorem am_kn_62 : am_mkn (yX4_become, cX4_become, 2, none, 4, 1, 1) := ⟨am_t4 (List.mem_of_getElem? (i := 102) rfl), ((4, 102), (1, 7), (4, 100), (4, 101)), by decide +kernel⟩
theorem am_kn_63 : am_mkn (yX4_hasPlace, cX4_hasPlace, 2, (some .boolean), 4, 1, 1) := ⟨am_t4 (List.mem_of_getElem? (i := 65) rfl), ((4, 65), (1, 7), (4, 63), (4, 64)), by decide +kernel⟩
theorem am_kn_64 : am_mkn (yX4_hasStretch, cX4_hasStretch, 3, (some .boolean), 4, 2, 1) := ⟨am_t4 (List.mem_of_getElem? (i := 86) rfl), ((4, 86), (1, 7), (4, 84), (4, 85)), by decide +kernel⟩
theorem am_kn_65 : am_mkn (yX5_init, cX5_init, 1, none, 5, 0, 2) := ⟨am_t1 (List.mem_of_getElem? (i := 235) rfl), ((1, 235), (1, 8), (1, 234), (1, 234)), by decide +kernel⟩
theorem am_kn_66 : am_mkn (yX5_findingFor, cX5_findingFor, 2, (some .int), 5, 1, 1) := ⟨am_t4 (List.mem_of_getElem? (i := 111) rfl), ((4, 111), (1, 8), (4, 109), (4, 110)), by decide +kernel⟩
theorem am_kn_67 : am_mkn (yX6_init, cX6_init, 1, none, 6, 0, 2) := ⟨am_t1 (List.mem_of_getElem? (i := 161) rfl), ((1, 161), (1, 6), (1, 160), (1, 160)), by decide +kernel⟩
theorem am_kn_68 : am_mkn (yX6_add, cX6_add, 3, none, 6, 1, 1) := ⟨am_t3 (List.mem_of_getElem? (i := 112) rfl), ((3, 112), (1, 6), (3, 110), (3, 111)), by decide +kernel⟩
theorem am_kn_69 : am_mkn (yX6_at, cX6_at, 2, (some .int), 6, 1, 1) := ⟨am_t3 (List.mem_of_getElem? (i := 132) rfl), ((3, 132), (1, 6), (3, 130), (3, 131)), by decide +kernel⟩
theorem am_kn_70 : am_mkn (yX7_init, cX7_init, 4, none, 7, 3, 2) := ⟨am_t4 (List.mem_of_getElem? (i := 17) rfl), ((4, 17), (1, 12), (4, 16), (4, 16)), by decide +kernel⟩
theorem am_kn_71 : am_mkn (yX7_valueOf, cX7_valueOf, 8, (some .int), 7, 4, 1) := ⟨am_t2 (List.mem_of_getElem? (i := 219) rfl), ((2, 219), (1, 12), (2, 217), (2, 218)), by decide +kernel⟩
theorem am_kn_72 : am_mkn (yX7_joined, cX7_joined, 3, (some .int), 7, 3, 0) := ⟨am_t2 (List.mem_of_getElem? (i := 222) rfl), ((2, 222), (1, 12), (2, 221), (2, 221)), by decide +kernel⟩
theorem am_kn_73 : am_mkn (yX8_init, cX8_init, 2, none, 8, 0, 2) := ⟨am_t1 (List.mem_of_getElem? (i := 22) rfl), ((1, 22), (1, 1), (1, 21), (1, 21)), by decide +kernel⟩
theorem am_kn_74 : am_mkn (yX8_person, cX8_person, 3, (some .int), 8, 2, 1) := ⟨am_t2 (List.mem_of_getElem? (i := 52) rfl), ((2, 52), (1, 1), (2, 50), (2, 51)), by decide +kernel⟩
theorem am_kn_75 : am_mkn (yX8_told, cX8_told, 4, (some .int), 8, 2, 1) := ⟨am_t2 (List.mem_of_getElem? (i := 72) rfl), ((2, 72), (1, 1), (2, 70), (2, 71)), by decide +kernel⟩
theorem am_kn_76 : am_mkn (yX8_as, cX8_as, 4, (some .int), 8, 2, 1) := ⟨am_t2 (List.mem_of_getElem? (i := 92) rfl), ((2, 92), (1, 1), (2, 90), (2, 91)), by decide +kernel⟩
theorem am_kn_77 : am_mkn (yX8_turns, cX8_turns, 4, (some .int), 8, 2, 1) := ⟨am_t2 (List.mem_of_getElem? (i := 104) rfl), ((2, 104), (1, 1), (2, 102), (2, 103)), by decide +kernel⟩
theorem am_kn_78 : am_mkn (yX8_bolder, cX8_bolder, 4, (some .int), 8, 2, 1) := ⟨am_t2 (List.mem_of_getElem? (i := 108) rfl), ((2, 108), (1, 1), (2, 106), (2, 107)), by decide +kernel⟩
theorem am_kn_79 : am_mkn (yX8_away, cX8_away, 6, (some .int), 8, 3, 1) := ⟨am_t2 (List.mem_of_getElem? (i := 112) rfl), ((2, 112), (1, 1), (2, 110), (2, 111)), by decide +kernel⟩
theorem am_kn_80 : am_mkn (yX8_friend, cX8_friend, 7, (some .int), 8, 3, 1) := ⟨am_t2 (List.mem_of_getElem? (i := 126) rfl), ((2, 126), (1, 1), (2, 124), (2, 125)), by decide +kernel⟩
theorem am_kn_81 : am_mkn (yX8_follow, cX8_follow, 6, (some .int), 8, 3, 1) := ⟨am_t2 (List.mem_of_getElem? (i := 135) rfl), ((2, 135), (1, 1), (2, 133), (2, 134)), by decide +kernel⟩
theorem am_kn_82 : am_mkn (yX8_deal, cX8_deal, 4, (some .int), 8, 1, 1) := ⟨am_t2 (List.mem_of_getElem? (i := 146) rfl), ((2, 146), (1, 1), (2, 144), (2, 145)), by decide +kernel⟩
theorem am_kn_83 : am_mkn (yX8_seed, cX8_seed, 3, (some .int), 8, 1, 1) := ⟨am_t2 (List.mem_of_getElem? (i := 164) rfl), ((2, 164), (1, 1), (2, 162), (2, 163)), by decide +kernel⟩
theorem am_kn_84 : am_mkn (yX8_deed, cX8_deed, 4, (some .int), 8, 3, 1) := ⟨am_t2 (List.mem_of_getElem? (i := 168) rfl), ((2, 168), (1, 1), (2, 166), (2, 167)), by decide +kernel⟩
theorem am_kn_85 : am_mkn (yX8_deedTold, cX8_deedTold, 4, (some .int), 8, 2, 1) := ⟨am_t2 (List.mem_of_getElem? (i := 194) rfl), ((2, 194), (1, 1), (2, 192), (2, 193)), by decide +kernel⟩
theorem am_kn_86 : am_mkn (yX8_again, cX8_again, 4, (some .int), 8, 1, 1) := ⟨am_t2 (List.mem_of_getElem? (i := 233) rfl), ((2, 233), (1, 1), (2, 231), (2, 232)), by decide +kernel⟩
theorem am_kn_87 : am_mkn (yX8_stop, cX8_stop, 3, (some .int), 8, 1, 1) := ⟨am_t2 (List.mem_of_getElem? (i := 239) rfl), ((2, 239), (1, 1), (2, 237), (2, 238)), by decide +kernel⟩
theorem am_kn_88 : am_mkn (yX8_say, cX8_say, 5, (some .int), 8, 3, 1) := ⟨am_t3 (List.mem_of_getElem? (i := 3) rfl), ((3, 3), (1, 1), (3, 1), (3, 2)), by decide +kernel⟩
theorem am_kn_89 : am_mkn (yX8_choice, cX8_choice, 3, (some .int), 8, 2, 1) := ⟨am_t3 (List.mem_of_getElem? (i := 22) rfl), ((3, 22), (1, 1), (3, 20), (3, 21)), by decide +kernel⟩
theorem am_kn_90 : am_mkn (yX8_rounds, cX8_rounds, 6, (some .int), 8, 2, 1) := ⟨am_t3 (List.mem_of_getElem? (i := 51) rfl), ((3, 51), (1, 1), (3, 49), (3, 50)), by decide +kernel⟩
theorem am_kn_91 : am_mkn (yX8_fewest, cX8_fewest, 4, (some .int), 8, 2, 1) := ⟨am_t3 (List.mem_of_getElem? (i := 65) rfl), ((3, 65), (1, 1), (3, 63), (3, 64)), by decide +kernel⟩
theorem am_kn_92 : am_mkn (yX8_silent, cX8_silent, 3, (some .int), 8, 0, 1) := ⟨am_t3 (List.mem_of_getElem? (i := 77) rfl), ((3, 77), (1, 1), (3, 75), (3, 76)), by decide +kernel⟩
theorem am_kn_93 : am_mkn (yX8_meant, cX8_meant, 4, (some .int), 8, 1, 1) := ⟨am_t3 (List.mem_of_getElem? (i := 82) rfl), ((3, 82), (1, 1), (3, 80), (3, 81)), by decide +kernel⟩
theorem am_kn_94 : am_mkn (yX8_proved, cX8_proved, 5, (some .int), 8, 1, 1) := ⟨am_t3 (List.mem_of_getElem? (i := 87) rfl), ((3, 87), (1, 1), (3, 85), (3, 86)), by decide +kernel⟩
theorem am_kn_95 : am_mkn (yX8_falls, cX8_falls, 5, (some .long), 8, 2, 1) := ⟨am_t3 (List.mem_of_getElem? (i := 91) rfl), ((3, 91), (1, 1), (3, 89), (3, 90)), by decide +kernel⟩
theorem am_kn_96 : am_mkn (yX8_most, cX8_most, 5, (some .int), 8, 0, 1) := ⟨am_t3 (List.mem_of_getElem? (i := 103) rfl), ((3, 103), (1, 1), (3, 101), (3, 102)), by decide +kernel⟩
theorem am_kn_97 : am_mkn (yX8_feed, cX8_feed, 4, (some .int), 8, 3, 1) := ⟨am_t3 (List.mem_of_getElem? (i := 107) rfl), ((3, 107), (1, 1), (3, 105), (3, 106)), by decide +kernel⟩
theorem am_kn_98 : am_mkn (yX8_trim, cX8_trim, 2, (some .int), 8, 1, 1) := ⟨am_t3 (List.mem_of_getElem? (i := 116) rfl), ((3, 116), (1, 1), (3, 114), (3, 115)), by decide +kernel⟩
theorem am_kn_99 : am_mkn (yX8_text, cX8_text, 2, (some .int), 8, 0, 1) := ⟨am_t3 (List.mem_of_getElem? (i := 120) rfl), ((3, 120), (1, 1), (3, 118), (3, 119)), by decide +kernel⟩
theorem am_kn_100 : am_mkn (yX8_textTold, cX8_textTold, 3, (some .int), 8, 2, 1) := ⟨am_t4 (List.mem_of_getElem? (i := 39) rfl), ((4, 39), (1, 1), (4, 37), (4, 38)), by decide +kernel⟩
theorem am_kn_101 : am_mkn (yX8_why, cX8_why, 2, (some .int), 8, 1, 1) := ⟨am_t4 (List.mem_of_getElem? (i := 43) rfl), ((4, 43), (1, 1), (4, 41), (4, 42)), by decide +kernel⟩
theorem am_kn_102 : am_mkn (yX8_sheet, cX8_sheet, 5, (some .int), 8, 3, 1) := ⟨am_t4 (List.mem_of_getElem? (i := 47) rfl), ((4, 47), (1, 1), (4, 45), (4, 46)), by decide +kernel⟩
theorem am_kn_103 : am_mkn (yX8_mark, cX8_mark, 5, (some .int), 8, 3, 1) := ⟨am_t4 (List.mem_of_getElem? (i := 60) rfl), ((4, 60), (1, 1), (4, 58), (4, 59)), by decide +kernel⟩
theorem am_kn_104 : am_mkn (yX8_pour, cX8_pour, 7, (some .int), 8, 1, 1) := ⟨am_t4 (List.mem_of_getElem? (i := 73) rfl), ((4, 73), (1, 1), (4, 71), (4, 72)), by decide +kernel⟩
theorem am_kn_105 : am_mkn (yX8_reads, cX8_reads, 5, (some .int), 8, 1, 1) := ⟨am_t4 (List.mem_of_getElem? (i := 78) rfl), ((4, 78), (1, 1), (4, 76), (4, 77)), by decide +kernel⟩
theorem am_kn_106 : am_mkn (yX8_copy, cX8_copy, 8, (some .int), 8, 5, 1) := ⟨am_t4 (List.mem_of_getElem? (i := 82) rfl), ((4, 82), (1, 1), (4, 80), (4, 81)), by decide +kernel⟩
theorem am_kn_107 : am_mkn (yX8_lay, cX8_lay, 6, (some .int), 8, 3, 1) := ⟨am_t4 (List.mem_of_getElem? (i := 91) rfl), ((4, 91), (1, 1), (4, 89), (4, 90)), by decide +kernel⟩
theorem am_kn_108 : am_mkn (yX8_ask, cX8_ask, 5, (some .int), 8, 2, 1) := ⟨am_t4 (List.mem_of_getElem? (i := 107) rfl), ((4, 107), (1, 1), (4, 105), (4, 106)), by decide +kernel⟩
theorem am_kn_109 : am_mkn (yX8_item, cX8_item, 5, (some .int), 8, 2, 1) := ⟨am_t4 (List.mem_of_getElem? (i := 117) rfl), ((4, 117), (1, 1), (4, 115), (4, 116)), by decide +kernel⟩
theorem am_kn_110 : am_mkn (yX8_rest, cX8_rest, 5, (some .int), 8, 2, 1) := ⟨am_t4 (List.mem_of_getElem? (i := 121) rfl), ((4, 121), (1, 1), (4, 119), (4, 120)), by decide +kernel⟩
theorem am_kn_111 : am_mkn (yX8_tell, cX8_tell, 2, (some .int), 8, 1, 1) := ⟨am_t4 (List.mem_of_getElem? (i := 125) rfl), ((4, 125), (1, 1), (4, 123), (4, 124)), by decide +kernel⟩
theorem am_kn_112 : am_mkn (yX8_check, cX8_check, 7, (some .int), 8, 2, 1) := ⟨am_t4 (List.mem_of_getElem? (i := 129) rfl), ((4, 129), (1, 1), (4, 127), (4, 128)), by decide +kernel⟩
theorem am_kn_113 : am_mkn (yX8_keep, cX8_keep, 1, (some .int), 8, 0, 1) := ⟨am_t4 (List.mem_of_getElem? (i := 146) rfl), ((4, 146), (1, 1), (4, 144), (4, 145)), by decide +kernel⟩
theorem am_kn_114 : am_mkn (yX8_back, cX8_back, 1, (some .int), 8, 0, 1) := ⟨am_t4 (List.mem_of_getElem? (i := 150) rfl), ((4, 150), (1, 1), (4, 148), (4, 149)), by decide +kernel⟩
theorem am_kn_115 : am_mkn (yX8_count, cX8_count, 2, (some .int), 8, 1, 1) := ⟨am_t4 (List.mem_of_getElem? (i := 154) rfl), ((4, 154), (1, 1), (4, 152), (4, 153)), by decide +kernel⟩
theorem am_kn_116 : am_mkn (yX8_rightOf, cX8_rightOf, 5, (some .int), 8, 4, 1) := ⟨am_t4 (List.mem_of_getElem? (i := 142) rfl), ((4, 142), (1, 1), (4, 141), (0, 15)), by decide +kernel⟩
theorem am_kn_117 : am_mkn (yX8_within, cX8_within, 3, (some .boolean), 8, 3, 0) := ⟨am_t2 (List.mem_of_getElem? (i := 58) rfl), ((2, 58), (1, 1), (2, 57), (2, 57)), by decide +kernel⟩
theorem am_kn_118 : am_mkn (yX8_held, cX8_held, 3, (some .int), 8, 3, 0) := ⟨am_t2 (List.mem_of_getElem? (i := 226) rfl), ((2, 226), (1, 1), (2, 225), (2, 225)), by decide +kernel⟩
theorem am_kn_119 : am_mkn (yX8_isKind, cX8_isKind, 1, (some .boolean), 8, 1, 0) := ⟨am_t2 (List.mem_of_getElem? (i := 55) rfl), ((2, 55), (1, 1), (2, 54), (2, 54)), by decide +kernel⟩
theorem am_kn_120 : am_mkn (yX8_isHour, cX8_isHour, 1, (some .boolean), 8, 1, 0) := ⟨am_t2 (List.mem_of_getElem? (i := 115) rfl), ((2, 115), (1, 1), (2, 114), (2, 114)), by decide +kernel⟩
theorem am_kn_121 : am_mkn (yX8_isYesOrNo, cX8_isYesOrNo, 1, (some .boolean), 8, 1, 0) := ⟨am_t2 (List.mem_of_getElem? (i := 118) rfl), ((2, 118), (1, 1), (2, 117), (2, 117)), by decide +kernel⟩
theorem am_kn_122 : am_mkn (yX8_isSheet, cX8_isSheet, 1, (some .boolean), 8, 1, 0) := ⟨am_t4 (List.mem_of_getElem? (i := 50) rfl), ((4, 50), (1, 1), (4, 49), (4, 49)), by decide +kernel⟩
theorem am_kn_123 : am_mkn (yX8_isSlot, cX8_isSlot, 1, (some .boolean), 8, 1, 0) := ⟨am_t4 (List.mem_of_getElem? (i := 94) rfl), ((4, 94), (1, 1), (4, 93), (4, 93)), by decide +kernel⟩
theorem am_kn_124 : am_mkn (yX8_bitAt, cX8_bitAt, 2, (some .int), 8, 2, 0) := ⟨am_t2 (List.mem_of_getElem? (i := 88) rfl), ((2, 88), (1, 1), (2, 87), (2, 87)), by decide +kernel⟩
theorem am_kn_125 : am_mkn (yX8_hasBit, cX8_hasBit, 2, (some .boolean), 8, 2, 0) := ⟨am_t2 (List.mem_of_getElem? (i := 142) rfl), ((2, 142), (1, 1), (2, 141), (2, 141)), by decide +kernel⟩
theorem am_kn_126 : am_mkn (yX8_withBit, cX8_withBit, 3, (some .int), 8, 3, 0) := ⟨am_t2 (List.mem_of_getElem? (i := 122) rfl), ((2, 122), (1, 1), (2, 121), (2, 121)), by decide +kernel⟩
theorem am_kn_127 : am_mkn (yX8_leastOf, cX8_leastOf, 2, (some .int), 8, 1, 0) := ⟨am_t3 (List.mem_of_getElem? (i := 38) rfl), ((3, 38), (1, 1), (3, 37), (3, 37)), by decide +kernel⟩
theorem am_kn_128 : am_mkn (yX8_greatestOf, cX8_greatestOf, 2, (some .int), 8, 1, 0) := ⟨am_t3 (List.mem_of_getElem? (i := 43) rfl), ((3, 43), (1, 1), (3, 42), (3, 42)), by decide +kernel⟩
theorem am_kn_129 : am_mkn (yX8_commonDivisor, cX8_commonDivisor, 6, (some .int), 8, 2, 0) := ⟨am_t3 (List.mem_of_getElem? (i := 99) rfl), ((3, 99), (1, 1), (3, 98), (3, 98)), by decide +kernel⟩
theorem am_kn_130 : am_mkn (yX9_init, cX9_init, 2, none, 9, 0, 2) := ⟨am_t4 (List.mem_of_getElem? (i := 167) rfl), ((4, 167), (1, 9), (4, 166), (4, 166)), by decide +kernel⟩
theorem am_kn_131 : am_mkn (yX9_isIn, cX9_isIn, 6, (some .boolean), 9, 3, 0) := ⟨am_t5 (List.mem_of_getElem? (i := 30) rfl), ((5, 30), (1, 9), (5, 29), (5, 29)), by decide +kernel⟩
theorem am_kn_132 : am_mkn (yX9_orNone, cX9_orNone, 1, (some .int), 9, 1, 0) := ⟨am_t5 (List.mem_of_getElem? (i := 209) rfl), ((5, 209), (1, 9), (5, 208), (5, 208)), by decide +kernel⟩
theorem am_kn_133 : am_mkn (yX9_within, cX9_within, 2, (some .int), 9, 2, 0) := ⟨am_t5 (List.mem_of_getElem? (i := 166) rfl), ((5, 166), (1, 9), (5, 165), (5, 165)), by decide +kernel⟩
theorem am_kn_134 : am_mkn (yX9_becomes, cX9_becomes, 4, (some .int), 9, 2, 1) := ⟨am_t5 (List.mem_of_getElem? (i := 80) rfl), ((5, 80), (1, 9), (5, 79), (0, 22)), by decide +kernel⟩
theorem am_kn_135 : am_mkn (yX9_textAt, cX9_textAt, 2, (some .int), 9, 1, 1) := ⟨am_t5 (List.mem_of_getElem? (i := 155) rfl), ((5, 155), (1, 9), (5, 154), (0, 31)), by decide +kernel⟩
theorem am_kn_136 : am_mkn (yX9_of, cX9_of, 3, (some .int), 9, 2, 1) := ⟨am_t5 (List.mem_of_getElem? (i := 49) rfl), ((5, 49), (1, 9), (5, 48), (0, 18)), by decide +kernel⟩
theorem am_kn_137 : am_mkn (yX9_dee, cX9_dee, 3, (some .int), 9, 2, 1) := ⟨am_t5 (List.mem_of_getElem? (i := 64) rfl), ((5, 64), (1, 9), (5, 63), (0, 21)), by decide +kernel⟩
theorem am_kn_138 : am_mkn (yX9_isPerson, cX9_isPerson, 2, (some .boolean), 9, 1, 1) := ⟨am_t5 (List.mem_of_getElem? (i := 45) rfl), ((5, 45), (1, 9), (5, 44), (0, 17)), by decide +kernel⟩
theorem am_kn_139 : am_mkn (yX9_isDeed, cX9_isDeed, 2, (some .boolean), 9, 1, 1) := ⟨am_t5 (List.mem_of_getElem? (i := 139) rfl), ((5, 139), (1, 9), (5, 138), (0, 27)), by decide +kernel⟩
theorem am_kn_140 : am_mkn (yX9_isText, cX9_isText, 2, (some .boolean), 9, 1, 1) := ⟨am_t6 (List.mem_of_getElem? (i := 95) rfl), ((6, 95), (1, 9), (6, 94), (0, 54)), by decide +kernel⟩
theorem am_kn_141 : am_mkn (yX9_everybody, cX9_everybody, 1, (some .int), 9, 0, 1) := ⟨am_t5 (List.mem_of_getElem? (i := 127) rfl), ((5, 127), (1, 9), (5, 126), (0, 26)), by decide +kernel⟩
theorem am_kn_142 : am_mkn (yX9_left, cX9_left, 2, (some .int), 9, 1, 1) := ⟨am_t5 (List.mem_of_getElem? (i := 143) rfl), ((5, 143), (1, 9), (5, 142), (0, 28)), by decide +kernel⟩
theorem am_kn_143 : am_mkn (yX9_ones, cX9_ones, 3, (some .int), 9, 1, 0) := ⟨am_t5 (List.mem_of_getElem? (i := 130) rfl), ((5, 130), (1, 9), (5, 129), (5, 129)), by decide +kernel⟩
theorem am_kn_144 : am_mkn (yX9_drawn, cX9_drawn, 1, (some .int), 9, 0, 1) := ⟨am_t5 (List.mem_of_getElem? (i := 114) rfl), ((5, 114), (1, 9), (5, 113), (0, 25)), by decide +kernel⟩
theorem am_kn_145 : am_mkn (yX9_comes, cX9_comes, 5, none, 9, 3, 1) := ⟨am_t5 (List.mem_of_getElem? (i := 37) rfl), ((5, 37), (1, 9), (5, 36), (0, 16)), by decide +kernel⟩
theorem am_kn_146 : am_mkn (yX9_person, cX9_person, 3, (some .int), 9, 2, 1) := ⟨am_t5 (List.mem_of_getElem? (i := 26) rfl), ((5, 26), (1, 9), (5, 24), (5, 25)), by decide +kernel⟩
theorem am_kn_147 : am_mkn (yX9_followers, cX9_followers, 5, (some .int), 9, 1, 1) := ⟨am_t5 (List.mem_of_getElem? (i := 53) rfl), ((5, 53), (1, 9), (5, 52), (0, 19)), by decide +kernel⟩
theorem am_kn_148 : am_mkn (yX9_goBy, cX9_goBy, 2, (some .int), 9, 1, 1) := ⟨am_t5 (List.mem_of_getElem? (i := 187) rfl), ((5, 187), (1, 9), (5, 186), (0, 34)), by decide +kernel⟩
theorem am_kn_149 : am_mkn (yX9_worthOf, cX9_worthOf, 2, (some .int), 9, 2, 0) := ⟨am_t5 (List.mem_of_getElem? (i := 56) rfl), ((5, 56), (1, 9), (5, 55), (5, 55)), by decide +kernel⟩
theorem am_kn_150 : am_mkn (yX9_goneOn, cX9_goneOn, 4, (some .int), 9, 1, 1) := ⟨am_t5 (List.mem_of_getElem? (i := 60) rfl), ((5, 60), (1, 9), (5, 59), (0, 20)), by decide +kernel⟩
theorem am_kn_151 : am_mkn (yX9_told, cX9_told, 3, (some .int), 9, 2, 1) := ⟨am_t5 (List.mem_of_getElem? (i := 41) rfl), ((5, 41), (1, 9), (5, 39), (5, 40)), by decide +kernel⟩
theorem am_kn_152 : am_mkn (yX9_isOf, cX9_isOf, 2, (some .boolean), 9, 2, 0) := ⟨am_t5 (List.mem_of_getElem? (i := 71) rfl), ((5, 71), (1, 9), (5, 70), (5, 70)), by decide +kernel⟩
theorem am_kn_153 : am_mkn (yX9_as, cX9_as, 3, (some .int), 9, 2, 1) := ⟨am_t5 (List.mem_of_getElem? (i := 68) rfl), ((5, 68), (1, 9), (5, 66), (5, 67)), by decide +kernel⟩
theorem am_kn_154 : am_mkn (yX9_turns, cX9_turns, 3, (some .int), 9, 2, 1) := ⟨am_t5 (List.mem_of_getElem? (i := 76) rfl), ((5, 76), (1, 9), (5, 74), (5, 75)), by decide +kernel⟩
theorem am_kn_155 : am_mkn (yX9_bolder, cX9_bolder, 3, (some .int), 9, 2, 1) := ⟨am_t5 (List.mem_of_getElem? (i := 84) rfl), ((5, 84), (1, 9), (5, 82), (5, 83)), by decide +kernel⟩
theorem am_kn_156 : am_mkn (yX9_bitBecomes, cX9_bitBecomes, 5, (some .int), 9, 3, 1) := ⟨am_t5 (List.mem_of_getElem? (i := 93) rfl), ((5, 93), (1, 9), (5, 92), (0, 23)), by decide +kernel⟩
theorem am_kn_157 : am_mkn (yX9_away, cX9_away, 4, (some .int), 9, 3, 1) := ⟨am_t5 (List.mem_of_getElem? (i := 88) rfl), ((5, 88), (1, 9), (5, 86), (5, 87)), by decide +kernel⟩
theorem am_kn_158 : am_mkn (yX9_areTwo, cX9_areTwo, 4, (some .boolean), 9, 3, 1) := ⟨am_t5 (List.mem_of_getElem? (i := 101) rfl), ((5, 101), (1, 9), (5, 100), (0, 24)), by decide +kernel⟩
theorem am_kn_159 : am_mkn (yX9_friend, cX9_friend, 5, (some .int), 9, 3, 1) := ⟨am_t5 (List.mem_of_getElem? (i := 97) rfl), ((5, 97), (1, 9), (5, 95), (5, 96)), by decide +kernel⟩
theorem am_kn_160 : am_mkn (yX9_follow, cX9_follow, 4, (some .int), 9, 3, 1) := ⟨am_t5 (List.mem_of_getElem? (i := 105) rfl), ((5, 105), (1, 9), (5, 103), (5, 104)), by decide +kernel⟩
theorem am_kn_161 : am_mkn (yX9_deal, cX9_deal, 6, (some .int), 9, 1, 1) := ⟨am_t5 (List.mem_of_getElem? (i := 109) rfl), ((5, 109), (1, 9), (5, 107), (5, 108)), by decide +kernel⟩
theorem am_kn_162 : am_mkn (yX9_seed, cX9_seed, 2, (some .int), 9, 1, 1) := ⟨am_t5 (List.mem_of_getElem? (i := 119) rfl), ((5, 119), (1, 9), (5, 117), (5, 118)), by decide +kernel⟩
theorem am_kn_163 : am_mkn (yX9_deed, cX9_deed, 6, (some .int), 9, 3, 1) := ⟨am_t5 (List.mem_of_getElem? (i := 123) rfl), ((5, 123), (1, 9), (5, 121), (5, 122)), by decide +kernel⟩
theorem am_kn_164 : am_mkn (yX9_cost, cX9_cost, 3, (some .int), 9, 1, 1) := ⟨am_t5 (List.mem_of_getElem? (i := 147) rfl), ((5, 147), (1, 9), (5, 146), (0, 29)), by decide +kernel⟩
theorem am_kn_165 : am_mkn (yX9_deedTold, cX9_deedTold, 3, (some .int), 9, 2, 1) := ⟨am_t5 (List.mem_of_getElem? (i := 135) rfl), ((5, 135), (1, 9), (5, 133), (5, 134)), by decide +kernel⟩
theorem am_kn_166 : am_mkn (yX9_again, cX9_again, 3, (some .int), 9, 1, 1) := ⟨am_t5 (List.mem_of_getElem? (i := 170) rfl), ((5, 170), (1, 9), (5, 168), (5, 169)), by decide +kernel⟩
theorem am_kn_167 : am_mkn (yX9_stop, cX9_stop, 2, (some .int), 9, 1, 1) := ⟨am_t5 (List.mem_of_getElem? (i := 174) rfl), ((5, 174), (1, 9), (5, 172), (5, 173)), by decide +kernel⟩
theorem am_kn_168 : am_mkn (yX9_mayBe, cX9_mayBe, 5, (some .boolean), 9, 3, 1) := ⟨am_t5 (List.mem_of_getElem? (i := 183) rfl), ((5, 183), (1, 9), (5, 182), (0, 33)), by decide +kernel⟩
theorem am_kn_169 : am_mkn (yX9_says, cX9_says, 5, none, 9, 2, 1) := ⟨am_t5 (List.mem_of_getElem? (i := 192) rfl), ((5, 192), (1, 9), (5, 191), (0, 35)), by decide +kernel⟩
theorem am_kn_170 : am_mkn (yX9_say, cX9_say, 4, (some .int), 9, 3, 1) := ⟨am_t5 (List.mem_of_getElem? (i := 179) rfl), ((5, 179), (1, 9), (5, 177), (5, 178)), by decide +kernel⟩
theorem am_kn_171 : am_mkn (yX9_least, cX9_least, 2, (some .int), 9, 1, 0) := ⟨am_t5 (List.mem_of_getElem? (i := 203) rfl), ((5, 203), (1, 9), (5, 202), (5, 202)), by decide +kernel⟩
theorem am_kn_172 : am_mkn (yX9_greatest, cX9_greatest, 2, (some .int), 9, 1, 0) := ⟨am_t5 (List.mem_of_getElem? (i := 206) rfl), ((5, 206), (1, 9), (5, 205), (5, 205)), by decide +kernel⟩
theorem am_kn_173 : am_mkn (yX9_choiceOf, cX9_choiceOf, 7, (some .int), 9, 2, 1) := ⟨am_t5 (List.mem_of_getElem? (i := 200) rfl), ((5, 200), (1, 9), (5, 199), (0, 36)), by decide +kernel⟩
theorem am_kn_174 : am_mkn (yX9_choice, cX9_choice, 3, (some .int), 9, 2, 1) := ⟨am_t5 (List.mem_of_getElem? (i := 196) rfl), ((5, 196), (1, 9), (5, 194), (5, 195)), by decide +kernel⟩
theorem am_kn_175 : am_mkn (yX9_boldness, cX9_boldness, 4, (some .int), 9, 2, 1) := ⟨am_t5 (List.mem_of_getElem? (i := 223) rfl), ((5, 223), (1, 9), (5, 222), (0, 38)), by decide +kernel⟩
theorem am_kn_176 : am_mkn (yX9_rounded, cX9_rounded, 6, (some .int), 9, 1, 1) := ⟨am_t5 (List.mem_of_getElem? (i := 219) rfl), ((5, 219), (1, 9), (5, 218), (0, 37)), by decide +kernel⟩
theorem am_kn_177 : am_mkn (yX9_rounds, cX9_rounds, 5, (some .int), 9, 2, 1) := ⟨am_t5 (List.mem_of_getElem? (i := 214) rfl), ((5, 214), (1, 9), (5, 212), (5, 213)), by decide +kernel⟩
theorem am_kn_178 : am_mkn (yX9_fewest, cX9_fewest, 10, (some .int), 9, 2, 1) := ⟨am_t5 (List.mem_of_getElem? (i := 227) rfl), ((5, 227), (1, 9), (5, 225), (5, 226)), by decide +kernel⟩
theorem am_kn_179 : am_mkn (yX9_silent, cX9_silent, 3, (some .int), 9, 0, 1) := ⟨am_t5 (List.mem_of_getElem? (i := 231) rfl), ((5, 231), (1, 9), (5, 229), (5, 230)), by decide +kernel⟩
theorem am_kn_180 : am_mkn (yX9_meant, cX9_meant, 3, (some .int), 9, 1, 1) := ⟨am_t5 (List.mem_of_getElem? (i := 235) rfl), ((5, 235), (1, 9), (5, 233), (5, 234)), by decide +kernel⟩
theorem am_kn_181 : am_mkn (yX9_proved, cX9_proved, 4, (some .int), 9, 1, 1) := ⟨am_t5 (List.mem_of_getElem? (i := 239) rfl), ((5, 239), (1, 9), (5, 237), (5, 238)), by decide +kernel⟩
theorem am_kn_182 : am_mkn (yX9_fallsOn, cX9_fallsOn, 4, (some .int), 9, 1, 1) := ⟨am_t6 (List.mem_of_getElem? (i := 8) rfl), ((6, 8), (1, 9), (6, 7), (0, 39)), by decide +kernel⟩
theorem am_kn_183 : am_mkn (yX9_falls, cX9_falls, 7, (some .long), 9, 2, 1) := ⟨am_t6 (List.mem_of_getElem? (i := 3) rfl), ((6, 3), (1, 9), (6, 1), (6, 2)), by decide +kernel⟩
theorem am_kn_184 : am_mkn (yX9_most, cX9_most, 3, (some .int), 9, 0, 1) := ⟨am_t6 (List.mem_of_getElem? (i := 12) rfl), ((6, 12), (1, 9), (6, 10), (6, 11)), by decide +kernel⟩
theorem am_kn_185 : am_mkn (yX9_feed, cX9_feed, 6, (some .int), 9, 3, 1) := ⟨am_t6 (List.mem_of_getElem? (i := 16) rfl), ((6, 16), (1, 9), (6, 14), (6, 15)), by decide +kernel⟩
theorem am_kn_186 : am_mkn (yX9_trim, cX9_trim, 2, (some .int), 9, 1, 1) := ⟨am_t6 (List.mem_of_getElem? (i := 20) rfl), ((6, 20), (1, 9), (6, 18), (6, 19)), by decide +kernel⟩
theorem am_kn_187 : am_mkn (yX9_isLetter, cX9_isLetter, 2, (some .boolean), 9, 1, 1) := ⟨am_t6 (List.mem_of_getElem? (i := 36) rfl), ((6, 36), (1, 9), (6, 35), (0, 42)), by decide +kernel⟩
theorem am_kn_188 : am_mkn (yX9_isDigit, cX9_isDigit, 2, (some .boolean), 9, 1, 1) := ⟨am_t6 (List.mem_of_getElem? (i := 42) rfl), ((6, 42), (1, 9), (6, 41), (0, 43)), by decide +kernel⟩
theorem am_kn_189 : am_mkn (yX9_nextToken, cX9_nextToken, 3, none, 9, 0, 1) := ⟨am_t6 (List.mem_of_getElem? (i := 32) rfl), ((6, 32), (1, 9), (6, 31), (0, 41)), by decide +kernel⟩
theorem am_kn_190 : am_mkn (yX9_isSign, cX9_isSign, 2, (some .boolean), 9, 1, 1) := ⟨am_t6 (List.mem_of_getElem? (i := 87) rfl), ((6, 87), (1, 9), (6, 86), (0, 53)), by decide +kernel⟩
theorem am_kn_191 : am_mkn (yX9_isWordAt, cX9_isWordAt, 6, (some .boolean), 9, 4, 1) := ⟨am_t6 (List.mem_of_getElem? (i := 52) rfl), ((6, 52), (1, 9), (6, 51), (0, 45)), by decide +kernel⟩
theorem am_kn_192 : am_mkn (yX9_key, cX9_key, 1, (some .int), 9, 0, 1) := ⟨am_t6 (List.mem_of_getElem? (i := 48) rfl), ((6, 48), (1, 9), (6, 47), (0, 44)), by decide +kernel⟩
theorem am_kn_193 : am_mkn (yX9_isName, cX9_isName, 2, (some .boolean), 9, 2, 0) := ⟨am_t6 (List.mem_of_getElem? (i := 83) rfl), ((6, 83), (1, 9), (6, 82), (6, 82)), by decide +kernel⟩
theorem am_kn_194 : am_mkn (yX9_step, cX9_step, 3, none, 9, 2, 1) := ⟨am_t6 (List.mem_of_getElem? (i := 80) rfl), ((6, 80), (1, 9), (6, 79), (0, 52)), by decide +kernel⟩
theorem am_kn_195 : am_mkn (yX9_either, cX9_either, 2, (some .boolean), 9, 1, 1) := ⟨am_t6 (List.mem_of_getElem? (i := 56) rfl), ((6, 56), (1, 9), (6, 55), (0, 46)), by decide +kernel⟩
theorem am_kn_196 : am_mkn (yX9_both, cX9_both, 2, (some .boolean), 9, 1, 1) := ⟨am_t6 (List.mem_of_getElem? (i := 60) rfl), ((6, 60), (1, 9), (6, 59), (0, 47)), by decide +kernel⟩
theorem am_kn_197 : am_mkn (yX9_test, cX9_test, 3, (some .boolean), 9, 1, 1) := ⟨am_t6 (List.mem_of_getElem? (i := 64) rfl), ((6, 64), (1, 9), (6, 63), (0, 48)), by decide +kernel⟩
theorem am_kn_198 : am_mkn (yX9_sum, cX9_sum, 3, (some .boolean), 9, 1, 1) := ⟨am_t6 (List.mem_of_getElem? (i := 68) rfl), ((6, 68), (1, 9), (6, 67), (0, 49)), by decide +kernel⟩
theorem am_kn_199 : am_mkn (yX9_term, cX9_term, 3, (some .boolean), 9, 1, 1) := ⟨am_t6 (List.mem_of_getElem? (i := 72) rfl), ((6, 72), (1, 9), (6, 71), (0, 50)), by decide +kernel⟩
theorem am_kn_200 : am_mkn (yX9_part0, cX9_part0, 2, (some .boolean), 9, 1, 1) := ⟨am_t6 (List.mem_of_getElem? (i := 76) rfl), ((6, 76), (1, 9), (6, 75), (0, 51)), by decide +kernel⟩
theorem am_kn_201 : am_mkn (yX9_parse, cX9_parse, 3, (some .int), 9, 0, 1) := ⟨am_t6 (List.mem_of_getElem? (i := 28) rfl), ((6, 28), (1, 9), (6, 27), (0, 40)), by decide +kernel⟩
theorem am_kn_202 : am_mkn (yX9_text, cX9_text, 3, (some .int), 9, 0, 1) := ⟨am_t6 (List.mem_of_getElem? (i := 24) rfl), ((6, 24), (1, 9), (6, 22), (6, 23)), by decide +kernel⟩
theorem am_kn_203 : am_mkn (yX9_textTold, cX9_textTold, 3, (some .int), 9, 2, 1) := ⟨am_t6 (List.mem_of_getElem? (i := 91) rfl), ((6, 91), (1, 9), (6, 89), (6, 90)), by decide +kernel⟩
theorem am_kn_204 : am_mkn (yX9_counts, cX9_counts, 4, (some .int), 9, 1, 1) := ⟨am_t5 (List.mem_of_getElem? (i := 151) rfl), ((5, 151), (1, 9), (5, 150), (0, 30)), by decide +kernel⟩
theorem am_kn_205 : am_mkn (yX9_why, cX9_why, 2, (some .int), 9, 1, 1) := ⟨am_t6 (List.mem_of_getElem? (i := 99) rfl), ((6, 99), (1, 9), (6, 97), (6, 98)), by decide +kernel⟩
theorem am_kn_206 : am_mkn (yX9_joined, cX9_joined, 3, (some .int), 9, 3, 0) := ⟨am_t5 (List.mem_of_getElem? (i := 162) rfl), ((5, 162), (1, 9), (5, 161), (5, 161)), by decide +kernel⟩
theorem am_kn_207 : am_mkn (yX9_worked, cX9_worked, 6, (some .int), 9, 1, 1) := ⟨am_t5 (List.mem_of_getElem? (i := 159) rfl), ((5, 159), (1, 9), (5, 158), (0, 32)), by decide +kernel⟩
theorem am_kn_208 : am_mkn (yX9_isSheet, cX9_isSheet, 1, (some .boolean), 9, 1, 0) := ⟨am_t6 (List.mem_of_getElem? (i := 107) rfl), ((6, 107), (1, 9), (6, 106), (6, 106)), by decide +kernel⟩
theorem am_kn_209 : am_mkn (yX9_sheet, cX9_sheet, 5, (some .int), 9, 3, 1) := ⟨am_t6 (List.mem_of_getElem? (i := 104) rfl), ((6, 104), (1, 9), (6, 102), (6, 103)), by decide +kernel⟩
theorem am_kn_210 : am_mkn (yX9_mark, cX9_mark, 4, (some .int), 9, 3, 1) := ⟨am_t6 (List.mem_of_getElem? (i := 114) rfl), ((6, 114), (1, 9), (6, 112), (6, 113)), by decide +kernel⟩
theorem am_kn_211 : am_mkn (yX9_pour, cX9_pour, 7, (some .int), 9, 1, 1) := ⟨am_t6 (List.mem_of_getElem? (i := 122) rfl), ((6, 122), (1, 9), (6, 120), (6, 121)), by decide +kernel⟩
theorem am_kn_212 : am_mkn (yX9_reads, cX9_reads, 4, (some .int), 9, 1, 1) := ⟨am_t6 (List.mem_of_getElem? (i := 126) rfl), ((6, 126), (1, 9), (6, 124), (6, 125)), by decide +kernel⟩
theorem am_kn_213 : am_mkn (yX9_copy, cX9_copy, 7, (some .int), 9, 5, 1) := ⟨am_t6 (List.mem_of_getElem? (i := 130) rfl), ((6, 130), (1, 9), (6, 128), (6, 129)), by decide +kernel⟩
theorem am_kn_214 : am_mkn (yX9_isSlot, cX9_isSlot, 1, (some .boolean), 9, 1, 0) := ⟨am_t6 (List.mem_of_getElem? (i := 137) rfl), ((6, 137), (1, 9), (6, 136), (6, 136)), by decide +kernel⟩
theorem am_kn_215 : am_mkn (yX9_lay, cX9_lay, 7, (some .int), 9, 3, 1) := ⟨am_t6 (List.mem_of_getElem? (i := 134) rfl), ((6, 134), (1, 9), (6, 132), (6, 133)), by decide +kernel⟩
theorem am_kn_216 : am_mkn (yX9_ask, cX9_ask, 3, (some .int), 9, 2, 1) := ⟨am_t6 (List.mem_of_getElem? (i := 141) rfl), ((6, 141), (1, 9), (6, 139), (6, 140)), by decide +kernel⟩
theorem am_kn_217 : am_mkn (yX9_item, cX9_item, 4, (some .int), 9, 2, 1) := ⟨am_t6 (List.mem_of_getElem? (i := 145) rfl), ((6, 145), (1, 9), (6, 143), (6, 144)), by decide +kernel⟩
theorem am_kn_218 : am_mkn (yX9_rest, cX9_rest, 3, (some .int), 9, 2, 1) := ⟨am_t6 (List.mem_of_getElem? (i := 149) rfl), ((6, 149), (1, 9), (6, 147), (6, 148)), by decide +kernel⟩
theorem am_kn_219 : am_mkn (yX9_tell, cX9_tell, 2, (some .int), 9, 1, 1) := ⟨am_t6 (List.mem_of_getElem? (i := 153) rfl), ((6, 153), (1, 9), (6, 151), (6, 152)), by decide +kernel⟩
theorem am_kn_220 : am_mkn (yX9_setAside, cX9_setAside, 4, none, 9, 2, 1) := ⟨am_t6 (List.mem_of_getElem? (i := 162) rfl), ((6, 162), (1, 9), (6, 161), (0, 55)), by decide +kernel⟩
theorem am_kn_221 : am_mkn (yX9_check, cX9_check, 6, (some .int), 9, 2, 1) := ⟨am_t6 (List.mem_of_getElem? (i := 157) rfl), ((6, 157), (1, 9), (6, 155), (6, 156)), by decide +kernel⟩
theorem am_kn_222 : am_mkn (yX9_keep, cX9_keep, 1, (some .int), 9, 0, 1) := ⟨am_t6 (List.mem_of_getElem? (i := 166) rfl), ((6, 166), (1, 9), (6, 164), (6, 165)), by decide +kernel⟩
theorem am_kn_223 : am_mkn (yX9_back, cX9_back, 1, (some .int), 9, 0, 1) := ⟨am_t6 (List.mem_of_getElem? (i := 170) rfl), ((6, 170), (1, 9), (6, 168), (6, 169)), by decide +kernel⟩
theorem am_kn_224 : am_mkn (yX9_ofAll, cX9_ofAll, 4, (some .int), 9, 1, 1) := ⟨am_t6 (List.mem_of_getElem? (i := 178) rfl), ((6, 178), (1, 9), (6, 177), (0, 56)), by decide +kernel⟩
theorem am_kn_225 : am_mkn (yX9_count, cX9_count, 2, (some .int), 9, 1, 1) := ⟨am_t6 (List.mem_of_getElem? (i := 174) rfl), ((6, 174), (1, 9), (6, 172), (6, 173)), by decide +kernel⟩
theorem am_kn_226 : am_mkn (yJ6_bitCount_0f7a4, cJ6_bitCount_0f7a4, 1, (some .int), 14, 1, 0) := ⟨am_t2 (List.mem_of_getElem? (i := 179) rfl), ((2, 179), (1, 11), (2, 178), (2, 178)), by decide +kernel⟩
theorem am_kn_227 : am_mkn (yJ0_length_8abf5, cJ0_length_8abf5, 1, (some .int), 11, 0, 1) := ⟨am_t3 (List.mem_of_getElem? (i := 154) rfl), ((3, 154), (1, 13), (3, 152), (3, 153)), by decide +kernel⟩
theorem am_kn_228 : am_mkn (yJ0_charAt_5068e, cJ0_charAt_5068e, 2, (some .char), 11, 1, 1) := ⟨am_t3 (List.mem_of_getElem? (i := 164) rfl), ((3, 164), (1, 13), (3, 162), (3, 163)), by decide +kernel⟩
theorem am_kn_229 : am_mkn (yJ0_coder_7d493, cJ0_coder_7d493, 1, (some .byte), 11, 0, 1) := ⟨am_t3 (List.mem_of_getElem? (i := 158) rfl), ((3, 158), (1, 13), (3, 156), (3, 157)), by decide +kernel⟩
theorem am_kn_230 : am_mkn (yJ0_isLatin1_aae02, cJ0_isLatin1_aae02, 1, (some .boolean), 11, 0, 1) := ⟨am_t3 (List.mem_of_getElem? (i := 168) rfl), ((3, 168), (1, 13), (3, 166), (3, 167)), by decide +kernel⟩
theorem am_kn_231 : am_mkn (yJ0_checkIndex_df160, cJ0_checkIndex_df160, 2, none, 11, 2, 0) := ⟨am_t3 (List.mem_of_getElem? (i := 174) rfl), ((3, 174), (1, 13), (3, 173), (3, 173)), by decide +kernel⟩
theorem am_kn_232 : am_mkn (yJ1_charAt_3b067, cJ1_charAt_3b067, 2, (some .char), 12, 2, 0) := ⟨am_t3 (List.mem_of_getElem? (i := 171) rfl), ((3, 171), (1, 14), (3, 170), (3, 170)), by decide +kernel⟩
theorem am_kn_233 : am_mkn (yJ3_checkIndex_8e157, cJ3_checkIndex_8e157, 3, (some .int), 13, 3, 0) := ⟨am_t3 (List.mem_of_getElem? (i := 179) rfl), ((3, 179), (1, 15), (3, 178), (3, 178)), by decide +kernel⟩
theorem am_kns_0 : ∀ a ∈ am_ML0.drop 1, am_mkn a := List.forall_mem_cons.mpr ⟨am_kn_1, List.forall_mem_cons.mpr ⟨am_kn_2, List.forall_mem_cons.mpr ⟨am_kn_3, List.forall_mem_cons.mpr ⟨am_kn_4, List.forall_mem_cons.mpr ⟨am_kn_5, List.forall_mem_cons.mpr ⟨am_kn_6, List.forall_mem_cons.mpr ⟨am_kn_7, List.forall_mem_cons.mpr ⟨am_kn_8, List.forall_mem_cons.mpr ⟨am_kn_9, List.forall_mem_cons.mpr ⟨am_kn_10, List.forall_mem_cons.mpr ⟨am_kn_11, List.forall_mem_cons.mpr ⟨am_kn_12, List.forall_mem_cons.mpr ⟨am_kn_13, List.forall_mem_cons.mpr ⟨am_kn_14, List.forall_mem_cons.mpr ⟨am_kn_15, List.forall_mem_cons.mpr ⟨am_kn_16, List.forall_mem_cons.mpr ⟨am_kn_17, List.forall_mem_cons.mpr ⟨am_kn_18, List.forall_mem_cons.mpr ⟨am_kn_19, fun _ h => absurd h List.not_mem_nil⟩⟩⟩⟩⟩⟩⟩⟩⟩⟩⟩⟩⟩⟩⟩⟩⟩⟩⟩
theorem am_kns_1 : ∀ a ∈ am_ML1, am_mkn a := List.forall_mem_cons.mpr ⟨am_kn_20, List.forall_mem_cons.mpr ⟨am_kn_21, List.forall_mem_cons.mpr ⟨am_kn_22, List.forall_mem_cons.mpr ⟨am_kn_23, List.forall_mem_cons.mpr ⟨am_kn_24, List.forall_mem_cons.mpr ⟨am_kn_25, List.forall_mem_cons.mpr ⟨am_kn_26, List.forall_mem_cons.mpr ⟨am_kn_27, List.forall_mem_cons.mpr ⟨am_kn_28, List.forall_mem_cons.mpr ⟨am_kn_29, List.forall_mem_cons.mpr ⟨am_kn_30, List.forall_mem_cons.mpr ⟨am_kn_31, List.forall_mem_cons.mpr ⟨am_kn_32, List.forall_mem_cons.mpr ⟨am_kn_33, List.forall_mem_cons.mpr ⟨am_kn_34, List.forall_mem_cons.mpr ⟨am_kn_35, List.forall_mem_cons.mpr ⟨am_kn_36, List.forall_mem_cons.mpr ⟨am_kn_37, List.forall_mem_cons.mpr ⟨am_kn_38, List.forall_mem_cons.mpr ⟨am_kn_39, fun _ h => absurd h List.not_mem_nil⟩⟩⟩⟩⟩⟩⟩⟩⟩⟩⟩⟩⟩⟩⟩⟩⟩⟩⟩⟩
theorem am_kns_2 : ∀ a ∈ am_ML2, am_mkn a := List.forall_mem_cons.mpr ⟨am_kn_40, List.forall_mem_cons.mpr ⟨am_kn_41, List.forall_mem_cons.mpr ⟨am_kn_42, List.forall_mem_cons.mpr ⟨am_kn_43, List.forall_mem_cons.mpr ⟨am_kn_44, List.forall_mem_cons.mpr ⟨am_kn_45, List.forall_mem_cons.mpr ⟨am_kn_46, List.forall_mem_cons.mpr ⟨am_kn_47, List.forall_mem_cons.mpr ⟨am_kn_48, List.forall_mem_cons.mpr ⟨am_kn_49, List.forall_mem_cons.mpr ⟨am_kn_50, List.forall_mem_cons.mpr ⟨am_kn_51, List.forall_mem_cons.mpr ⟨am_kn_52, List.forall_mem_cons.mpr ⟨am_kn_53, List.forall_mem_cons.mpr ⟨am_kn_54, List.forall_mem_cons.mpr ⟨am_kn_55, List.forall_mem_cons.mpr ⟨am_kn_56, List.forall_mem_cons.mpr ⟨am_kn_57, List.forall_mem_cons.mpr ⟨am_kn_58, List.forall_mem_cons.mpr ⟨am_kn_59, fun _ h => absurd h List.not_mem_nil⟩⟩⟩⟩⟩⟩⟩⟩⟩⟩⟩⟩⟩⟩⟩⟩⟩⟩⟩⟩
theorem am_kns_3 : ∀ a ∈ am_ML3, am_mkn a := List.forall_mem_cons.mpr ⟨am_kn_60, List.forall_mem_cons.mpr ⟨am_kn_61, List.forall_mem_cons.mpr ⟨am_kn_62, List.forall_mem_cons.mpr ⟨am_kn_63, List.forall_mem_cons.mpr ⟨am_kn_64, List.forall_mem_cons.mpr ⟨am_kn_65, List.forall_mem_cons.mpr ⟨am_kn_66, List.forall_mem_cons.mpr ⟨am_kn_67, List.forall_mem_cons.mpr ⟨am_kn_68, List.forall_mem_cons.mpr ⟨am_kn_69, List.forall_mem_cons.mpr ⟨am_kn_70, List.forall_mem_cons.mpr ⟨am_kn_71, List.forall_mem_cons.mpr ⟨am_kn_72, List.forall_mem_cons.mpr ⟨am_kn_73, List.forall_mem_cons.mpr ⟨am_kn_74, List.forall_mem_cons.mpr ⟨am_kn_75, List.forall_mem_cons.mpr ⟨am_kn_76, List.forall_mem_cons.mpr ⟨am_kn_77, List.forall_mem_cons.mpr ⟨am_kn_78, List.forall_mem_cons.mpr ⟨am_kn_79, fun _ h => absurd h List.not_mem_nil⟩⟩⟩⟩⟩⟩⟩⟩⟩⟩⟩⟩⟩⟩⟩⟩⟩⟩⟩⟩
theorem am_kns_4 : ∀ a ∈ am_ML4, am_mkn a := List.forall_mem_cons.mpr ⟨am_kn_80, List.forall_mem_cons.mpr ⟨am_kn_81, List.forall_mem_cons.mpr ⟨am_kn_82, List.forall_mem_cons.mpr ⟨am_kn_83, List.forall_mem_cons.mpr ⟨am_kn_84, List.forall_mem_cons.mpr ⟨am_kn_85, List.forall_mem_cons.mpr ⟨am_kn_86, List.forall_mem_cons.mpr ⟨am_kn_87, List.forall_mem_cons.mpr ⟨am_kn_88, List.forall_mem_cons.mpr ⟨am_kn_89, List.forall_mem_cons.mpr ⟨am_kn_90, List.forall_mem_cons.mpr ⟨am_kn_91, List.forall_mem_cons.mpr ⟨am_kn_92, List.forall_mem_cons.mpr ⟨am_kn_93, List.forall_mem_cons.mpr ⟨am_kn_94, List.forall_mem_cons.mpr ⟨am_kn_95, List.forall_mem_cons.mpr ⟨am_kn_96, List.forall_mem_cons.mpr ⟨am_kn_97, List.forall_mem_cons.mpr ⟨am_kn_98, List.forall_mem_cons.mpr ⟨am_kn_99, fun _ h => absurd h List.not_mem_nil⟩⟩⟩⟩⟩⟩⟩⟩⟩⟩⟩⟩⟩⟩⟩⟩⟩⟩⟩⟩
theorem am_kns_5 : ∀ a ∈ am_ML5, am_mkn a := List.forall_mem_cons.mpr ⟨am_kn_100, List.forall_mem_cons.mpr ⟨am_kn_101, List.forall_mem_cons.mpr ⟨am_kn_102, List.forall_mem_cons.mpr ⟨am_kn_103, List.forall_mem_cons.mpr ⟨am_kn_104, List.forall_mem_cons.mpr ⟨am_kn_105, List.forall_mem_cons.mpr ⟨am_kn_106, List.forall_mem_cons.mpr ⟨am_kn_107, List.forall_mem_cons.mpr ⟨am_kn_108, List.forall_mem_cons.mpr ⟨am_kn_109, List.forall_mem_cons.mpr ⟨am_kn_110, List.forall_mem_cons.mpr ⟨am_kn_111, List.forall_mem_cons.mpr ⟨am_kn_112, List.forall_mem_cons.mpr ⟨am_kn_113, List.forall_mem_cons.mpr ⟨am_kn_114, List.forall_mem_cons.mpr ⟨am_kn_115, List.forall_mem_cons.mpr ⟨am_kn_116, List.forall_mem_cons.mpr ⟨am_kn_117, List.forall_mem_cons.mpr ⟨am_kn_118, List.forall_mem_cons.mpr ⟨am_kn_119, fun _ h => absurd h List.not_mem_nil⟩⟩⟩⟩⟩⟩⟩⟩⟩⟩⟩⟩⟩⟩⟩⟩⟩⟩⟩⟩
theorem am_kns_6 : ∀ a ∈ am_ML6, am_mkn a := List.forall_mem_cons.mpr ⟨am_kn_120, List.forall_mem_cons.mpr ⟨am_kn_121, List.forall_mem_cons.mpr ⟨am_kn_122, List.forall_mem_cons.mpr ⟨am_kn_123, List.forall_mem_cons.mpr ⟨am_kn_124, List.forall_mem_cons.mpr ⟨am_kn_125, List.forall_mem_cons.mpr ⟨am_kn_126, List.forall_mem_cons.mpr ⟨am_kn_127, List.forall_mem_cons.mpr ⟨am_kn_128, List.forall_mem_cons.mpr ⟨am_kn_129, List.forall_mem_cons.mpr ⟨am_kn_130, List.forall_mem_cons.mpr ⟨am_kn_131, List.forall_mem_cons.mpr ⟨am_kn_132, List.forall_mem_cons.mpr ⟨am_kn_133, List.forall_mem_cons.mpr ⟨am_kn_134, List.forall_mem_cons.mpr ⟨am_kn_135, List.forall_mem_cons.mpr ⟨am_kn_136, List.forall_mem_cons.mpr ⟨am_kn_137, List.forall_mem_cons.mpr ⟨am_kn_138, List.forall_mem_cons.mpr ⟨am_kn_139, fun _ h => absurd h List.not_mem_nil⟩⟩⟩⟩⟩⟩⟩⟩⟩⟩⟩⟩⟩⟩⟩⟩⟩⟩⟩⟩
theorem am_kns_7 : ∀ a ∈ am_ML7, am_mkn a := List.forall_mem_cons.mpr ⟨am_kn_140, List.forall_mem_cons.mpr ⟨am_kn_141, List.forall_mem_cons.mpr ⟨am_kn_142, List.forall_mem_cons.mpr ⟨am_kn_143, List.forall_mem_cons.mpr ⟨am_kn_144, List.forall_mem_cons.mpr ⟨am_kn_145, List.forall_mem_cons.mpr ⟨am_kn_146, List.forall_mem_cons.mpr ⟨am_kn_147, List.forall_mem_cons.mpr ⟨am_kn_148, List.forall_mem_cons.mpr ⟨am_kn_149, List.forall_mem_cons.mpr ⟨am_kn_150, List.forall_mem_cons.mpr ⟨am_kn_151, List.forall_mem_cons.mpr ⟨am_kn_152, List.forall_mem_cons.mpr ⟨am_kn_153, List.forall_mem_cons.mpr ⟨am_kn_154, List.forall_mem_cons.mpr ⟨am_kn_155, List.forall_mem_cons.mpr ⟨am_kn_156, List.forall_mem_cons.mpr ⟨am_kn_157, List.forall_mem_cons.mpr ⟨am_kn_158, List.forall_mem_cons.mpr ⟨am_kn_159, fun _ h => absurd h List.not_mem_nil⟩⟩⟩⟩⟩⟩⟩⟩⟩⟩⟩⟩⟩⟩⟩⟩⟩⟩⟩⟩
theorem am_kns_8 : ∀ a ∈ am_ML8, am_mkn a := List.forall_mem_cons.mpr ⟨am_kn_160, List.forall_mem_cons.mpr ⟨am_kn_161, List.forall_mem_cons.mpr ⟨am_kn_162, List.forall_mem_cons.mpr ⟨am_kn_163, List.forall_mem_cons.mpr ⟨am_kn_164, List.forall_mem_cons.mpr ⟨am_kn_165, List.forall_mem_cons.mpr ⟨am_kn_166, List.forall_mem_cons.mpr ⟨am_kn_167, List.forall_mem_cons.mpr ⟨am_kn_168, List.forall_mem_cons.mpr ⟨am_kn_169, List.forall_mem_cons.mpr ⟨am_kn_170, List.forall_mem_cons.mpr ⟨am_kn_171, List.forall_mem_cons.mpr ⟨am_kn_172, List.forall_mem_cons.mpr ⟨am_kn_173, List.forall_mem_cons.mpr ⟨am_kn_174, List.forall_mem_cons.mpr ⟨am_kn_175, List.forall_mem_cons.mpr ⟨am_kn_176, List.forall_mem_cons.mpr ⟨am_kn_177, List.forall_mem_cons.mpr ⟨am_kn_178, List.forall_mem_cons.mpr ⟨am_kn_179, fun _ h => absurd h List.not_mem_nil⟩⟩⟩⟩⟩⟩⟩⟩⟩⟩⟩⟩⟩⟩⟩⟩⟩⟩⟩⟩
theorem am_kns_9 : ∀ a ∈ am_ML9, am_mkn a := List.forall_mem_cons.mpr ⟨am_kn_180, List.forall_mem_cons.mpr ⟨am_kn_181, List.forall_mem_cons.mpr ⟨am_kn_182, List.forall_mem_cons.mpr ⟨am_kn_183, List.forall_mem_cons.mpr ⟨am_kn_184, List.forall_mem_cons.mpr ⟨am_kn_185, List.forall_mem_cons.mpr ⟨am_kn_186, List.forall_mem_cons.mpr ⟨am_kn_187, List.forall_mem_cons.mpr ⟨am_kn_188, List.forall_mem_cons.mpr ⟨am_kn_189, List.forall_mem_cons.mpr ⟨am_kn_190, List.forall_mem_cons.mpr ⟨am_kn_191, List.forall_mem_cons.mpr ⟨am_kn_192, List.forall_mem_cons.mpr ⟨am_kn_193, List.forall_mem_cons.mpr ⟨am_kn_194, List.forall_mem_cons.mpr ⟨am_kn_195, List.forall_mem_cons.mpr ⟨am_kn_196, List.forall_mem_cons.mpr ⟨am_kn_197, List.forall_mem_cons.mpr ⟨am_kn_198, List.forall_mem_cons.mpr ⟨am_kn_199, fun _ h => absurd h List.not_mem_nil⟩⟩⟩⟩⟩⟩⟩⟩⟩⟩⟩⟩⟩⟩⟩⟩⟩⟩⟩⟩
theorem am_kns_10 : ∀ a ∈ am_ML10, am_mkn a := List.forall_mem_cons.mpr ⟨am_kn_200, List.forall_mem_cons.mpr ⟨am_kn_201, List.forall_mem_cons.mpr ⟨am_kn_202, List.forall_mem_cons.mpr ⟨am_kn_203, List.forall_mem_cons.mpr ⟨am_kn_204, List.forall_mem_cons.mpr ⟨am_kn_205, List.forall_mem_cons.mpr ⟨am_kn_206, List.forall_mem_cons.mpr ⟨am_kn_207, List.forall_mem_cons.mpr ⟨am_kn_208, List.forall_mem_cons.mpr ⟨am_kn_209, List.forall_mem_cons.mpr ⟨am_kn_210, List.forall_mem_cons.mpr ⟨am_kn_211, List.forall_mem_cons.mpr ⟨am_kn_212, List.forall_mem_cons.mpr ⟨am_kn_213, List.forall_mem_cons.mpr ⟨am_kn_214, List.forall_mem_cons.mpr ⟨am_kn_215, List.forall_mem_cons.mpr ⟨am_kn_216, List.forall_mem_cons.mpr ⟨am_kn_217, List.forall_mem_cons.mpr ⟨am_kn_218, List.forall_mem_cons.mpr ⟨am_kn_219, fun _ h => absurd h List.not_mem_nil⟩⟩⟩⟩⟩⟩⟩⟩⟩⟩⟩⟩⟩⟩⟩⟩⟩⟩⟩⟩
theorem am_kns_11 : ∀ a ∈ am_ML11, am_mkn a := List.forall_mem_cons.mpr ⟨am_kn_220, List.forall_mem_cons.mpr ⟨am_kn_221, List.forall_mem_cons.mpr ⟨am_kn_222, List.forall_mem_cons.mpr ⟨am_kn_223, List.forall_mem_cons.mpr ⟨am_kn_224, List.forall_mem_cons.mpr ⟨am_kn_225, List.forall_mem_cons.mpr ⟨am_kn_226, List.forall_mem_cons.mpr ⟨am_kn_227, List.forall_mem_cons.mpr ⟨am_kn_228, List.forall_mem_cons.mpr ⟨am_kn_229, List.forall_mem_cons.mpr ⟨am_kn_230, List.forall_mem_cons.mpr ⟨am_kn_231, List.forall_mem_cons.mpr ⟨am_kn_232, List.forall_mem_cons.mpr ⟨am_kn_233, fun _ h => absurd h List.not_mem_nil⟩⟩⟩⟩⟩⟩⟩⟩⟩⟩⟩⟩⟩⟩
def am_lk {β : Type} (T : List (Nat × Nat × β × (Nat × Nat))) (c i : Nat) : Option β := (T.find? (fun q => q.1 == c && q.2.1 == i)).map (fun q => q.2.2.1)
theorem am_lk_in {β : Type} {T : List (Nat × Nat × β × (Nat × Nat))} {c i : Nat} {b : β} (h : am_lk T c i = some b) {P : Nat × Nat × β × (Nat × Nat) → Bool} (hP : T.all P = true) : ∃ q, P (c, i, b, q) = true := by
  unfold am_lk at h
  cases hf : T.find? (fun q => q.1 == c && q.2.1 == i) with
  | none => rw [hf] at h; cases h
  | some x =>
    rw [hf] at h
    obtain ⟨a1, a2, a3, a4⟩ := x
    have h1 := List.find?_some hf
    simp only [Bool.and_eq_true, beq_iff_eq] at h1
    have h2 := List.all_eq_true.mp hP _ (List.mem_of_find?_eq_some hf)
    have h3 : a3 = b := Option.some.inj h
    obtain ⟨h1, h4⟩ := h1
    subst h1; subst h4; subst h3
    exact ⟨a4, h2⟩
def am_flT : List (Nat × Nat × (Nat × Nat) × (Nat × Nat)) := [
  (0, 7, (0, 3), (1, 89)), (0, 13, (0, 4), (1, 92)), (0, 16, (0, 5), (1, 95)), (0, 19, (0, 0), (1, 80)), (0, 22, (0, 1), (1, 83)), (0, 25, (0, 2), (1, 86)), (1, 11, (1, 0), (1, 111)), (1, 19, (1, 1), (1, 113)), (1, 25, (1, 2), (1, 115)), (1, 30, (1, 3), (1, 117)), (1, 34, (1, 4), (1, 119)), (1, 37, (1, 5), (1, 120)), (1, 41, (1, 6), (1, 122)), (1, 44, (1, 7), (1, 124)), (1, 47, (1, 8), (1, 126)), (1, 50, (1, 9), (1, 128)), (1, 87, (0, 0), (1, 81)), (1, 90, (0, 1), (1, 84)), (1, 93, (0, 2), (1, 87)), (1, 96, (7, 0), (4, 20)), (1, 108, (2, 4), (1, 57)), (1, 111, (2, 5), (1, 60)), (1, 118, (0, 3), (1, 91)), (1, 129, (0, 4), (1, 94)), (1, 132, (0, 5), (1, 97)), (1, 150, (2, 1), (1, 49)), (1, 160, (2, 0), (1, 46)), (1, 176, (2, 3), (1, 54)), (2, 9, (2, 0), (1, 44)), (2, 15, (2, 1), (1, 47)), (2, 18, (2, 2), (1, 50)), (2, 21, (2, 3), (1, 52)), (2, 24, (2, 4), (1, 55)), (2, 27, (2, 5), (1, 58)), (3, 12, (3, 0), (1, 174)), (3, 18, (3, 1), (1, 176)), (3, 22, (3, 2), (1, 177)), (3, 25, (3, 3), (1, 178)), (3, 28, (3, 4), (1, 179)), (3, 31, (3, 5), (1, 180)), (3, 35, (3, 6), (1, 181)), (3, 38, (3, 7), (1, 182)), (3, 41, (3, 8), (1, 183)), (3, 45, (3, 9), (1, 184)), (3, 48, (3, 10), (1, 185)), (3, 79, (6, 1), (1, 165)), (4, 9, (4, 0), (1, 219)), (4, 15, (4, 1), (1, 221)), (4, 19, (4, 2), (1, 223)), (5, 12, (5, 0), (2, 1)), (5, 21, (5, 1), (2, 3)), (5, 25, (5, 2), (2, 5)), (5, 29, (5, 3), (2, 7)), (6, 9, (6, 0), (1, 163)), (6, 15, (6, 1), (1, 164)), (7, 9, (7, 0), (4, 19)), (7, 15, (7, 1), (4, 22)), (7, 18, (7, 2), (4, 24)), (8, 10, (8, 0), (2, 18)), (8, 16, (8, 1), (2, 19)), (8, 19, (8, 2), (2, 20)), (8, 25, (8, 3), (2, 21)), (8, 29, (3, 0), (1, 175)), (8, 33, (8, 4), (2, 22)), (8, 36, (8, 5), (2, 23)), (8, 42, (8, 6), (2, 24)), (8, 46, (8, 7), (2, 25)), (8, 50, (8, 8), (2, 26)), (8, 54, (8, 9), (2, 27)), (8, 76, (1, 0), (1, 112)), (8, 80, (2, 0), (1, 45)), (8, 85, (2, 1), (1, 48)), (8, 88, (2, 2), (1, 51)), (8, 91, (2, 3), (1, 53)), (8, 94, (2, 5), (1, 59)), (8, 126, (2, 4), (1, 56)), (8, 132, (1, 5), (1, 121)), (8, 143, (1, 9), (1, 129)), (8, 155, (1, 1), (1, 114)), (8, 159, (0, 0), (1, 82)), (8, 164, (0, 1), (1, 85)), (8, 167, (0, 2), (1, 88)), (8, 174, (0, 4), (1, 93)), (8, 177, (0, 5), (1, 96)), (8, 183, (0, 3), (1, 90)), (8, 194, (1, 8), (1, 127)), (8, 227, (1, 6), (1, 123)), (8, 244, (6, 1), (1, 166)), (8, 257, (3, 10), (1, 186)), (8, 264, (1, 7), (1, 125)), (8, 267, (1, 2), (1, 116)), (8, 271, (7, 0), (4, 21)), (8, 276, (7, 1), (4, 23)), (8, 279, (1, 3), (1, 118)), (8, 289, (4, 1), (1, 222)), (8, 299, (4, 0), (1, 220)), (8, 305, (4, 2), (1, 224)), (8, 318, (5, 3), (2, 8)), (8, 321, (5, 0), (2, 2)), (8, 329, (5, 1), (2, 4)), (8, 336, (5, 2), (2, 6)), (9, 7, (9, 0), (4, 169)), (9, 13, (9, 1), (4, 170)), (9, 16, (9, 2), (4, 171)), (9, 19, (9, 4), (4, 173)), (9, 22, (9, 5), (4, 174)), (9, 25, (9, 6), (4, 175)), (9, 28, (9, 7), (4, 176)), (9, 31, (9, 8), (4, 177)), (9, 34, (9, 9), (4, 178)), (9, 37, (9, 10), (4, 179)), (9, 40, (9, 11), (4, 180)), (9, 43, (9, 12), (4, 181)), (9, 46, (9, 13), (4, 182)), (9, 49, (9, 25), (4, 194)), (9, 52, (9, 26), (4, 195)), (9, 55, (9, 27), (4, 196)), (9, 58, (9, 28), (4, 197)), (9, 61, (9, 30), (4, 199)), (9, 190, (9, 14), (4, 183)), (9, 202, (9, 16), (4, 185)), (9, 205, (9, 17), (4, 186)), (9, 208, (9, 15), (4, 184)), (9, 214, (9, 19), (4, 188)), (9, 220, (9, 18), (4, 187)), (9, 227, (9, 23), (4, 192)), (9, 230, (9, 22), (4, 191)), (9, 257, (9, 24), (4, 193)), (9, 263, (9, 21), (4, 190)), (9, 266, (9, 20), (4, 189)), (9, 306, (9, 29), (4, 198)), (9, 311, (9, 3), (4, 172))]
set_option maxRecDepth 100000 in
theorem am_flT_ok : am_flT.all (fun q => am_at q.2.2.2 (.fieldLink (am_cs q.1) q.2.1 (am_T q.2.2.1.1 q.2.2.1.2).1 (am_T q.2.2.1.1 q.2.2.1.2).2.1 (am_T q.2.2.1.1 q.2.2.1.2).2.2.1) && decide (q.2.2.1.1 < 10) && decide (q.2.2.1.2 < am_N q.2.2.1.1)) = true := by decide +kernel
def am_mlT : List (Nat × Nat × (Nat × Nat) × (Nat × Nat)) := [
  (1, 53, (36, 1), (1, 40)), (1, 54, (1, 1), (1, 76)), (1, 55, (38, 0), (4, 134)), (1, 59, (3, 0), (4, 135)), (1, 62, (117, 1), (2, 77)), (1, 66, (7, 0), (2, 131)), (1, 70, (11, 0), (2, 173)), (1, 74, (226, 0), (2, 177)), (1, 81, (37, 0), (2, 65)), (1, 85, (2, 0), (2, 187)), (1, 100, (15, 0), (2, 154)), (1, 104, (12, 0), (2, 160)), (1, 114, (125, 1), (2, 140)), (1, 121, (19, 0), (2, 215)), (1, 125, (124, 1), (2, 86)), (1, 135, (24, 0), (2, 207)), (1, 139, (20, 0), (2, 211)), (1, 142, (71, 0), (2, 216)), (1, 147, (118, 1), (2, 224)), (1, 153, (18, 0), (3, 8)), (1, 156, (27, 0), (3, 31)), (1, 163, (28, 0), (3, 27)), (1, 167, (29, 0), (3, 32)), (1, 170, (127, 1), (3, 36)), (1, 173, (128, 1), (3, 41)), (1, 179, (31, 0), (3, 44)), (1, 182, (26, 0), (3, 56)), (1, 185, (30, 0), (3, 60)), (1, 188, (4, 0), (3, 61)), (1, 192, (34, 0), (3, 70)), (2, 30, (119, 1), (2, 97)), (3, 11, (67, 1), (1, 159)), (3, 51, (44, 0), (3, 125)), (3, 54, (50, 0), (3, 142)), (3, 57, (52, 0), (3, 209)), (3, 61, (47, 0), (3, 201)), (3, 66, (43, 0), (4, 8)), (3, 70, (70, 0), (4, 15)), (3, 82, (69, 0), (3, 129)), (3, 86, (46, 0), (3, 134)), (3, 89, (45, 0), (3, 138)), (3, 93, (117, 1), (3, 137)), (3, 99, (51, 0), (3, 147)), (3, 107, (48, 0), (3, 205)), (3, 110, (227, 0), (3, 151)), (3, 115, (228, 0), (3, 161)), (3, 119, (54, 0), (3, 213)), (3, 122, (49, 0), (3, 235)), (3, 125, (53, 0), (4, 3)), (3, 128, (59, 0), (3, 225)), (3, 132, (56, 0), (3, 217)), (3, 135, (57, 0), (3, 229)), (3, 138, (55, 0), (3, 239)), (3, 141, (58, 0), (3, 221)), (4, 22, (118, 1), (4, 56)), (4, 32, (117, 1), (4, 66)), (5, 11, (36, 1), (1, 238)), (5, 20, (60, 1), (2, 0)), (7, 22, (72, 0), (2, 220)), (8, 9, (5, 0), (1, 28)), (8, 24, (41, 1), (1, 153)), (8, 58, (60, 1), (1, 215)), (8, 59, (65, 1), (1, 233)), (8, 60, (119, 0), (2, 53)), (8, 64, (117, 0), (2, 56)), (8, 69, (12, 0), (2, 60)), (8, 73, (7, 0), (2, 73)), (8, 97, (40, 0), (2, 78)), (8, 101, (21, 0), (2, 82)), (8, 105, (39, 0), (2, 93)), (8, 109, (120, 0), (2, 113)), (8, 112, (121, 0), (2, 116)), (8, 115, (124, 0), (2, 119)), (8, 119, (126, 0), (2, 120)), (8, 122, (8, 0), (2, 127)), (8, 129, (17, 0), (2, 136)), (8, 140, (16, 0), (2, 150)), (8, 146, (10, 0), (2, 169)), (8, 149, (13, 0), (2, 183)), (8, 152, (9, 0), (2, 195)), (8, 170, (19, 0), (2, 199)), (8, 180, (25, 0), (2, 203)), (8, 186, (226, 0), (2, 234)), (8, 191, (2, 0), (2, 235)), (8, 197, (27, 0), (3, 4)), (8, 202, (18, 0), (3, 13)), (8, 205, (4, 0), (3, 14)), (8, 209, (20, 0), (3, 18)), (8, 212, (30, 0), (3, 23)), (8, 216, (32, 0), (3, 52)), (8, 220, (33, 0), (3, 66)), (8, 224, (11, 0), (3, 78)), (8, 230, (128, 0), (3, 83)), (8, 233, (125, 0), (3, 39)), (8, 238, (35, 0), (3, 93)), (8, 241, (129, 0), (3, 97)), (8, 250, (68, 0), (3, 109)), (8, 253, (42, 0), (3, 121)), (8, 260, (14, 0), (4, 32)), (8, 282, (122, 0), (4, 48)), (8, 286, (61, 0), (4, 52)), (8, 293, (63, 0), (4, 62)), (8, 302, (118, 0), (4, 74)), (8, 306, (64, 0), (4, 83)), (8, 315, (123, 0), (4, 92)), (8, 325, (38, 0), (4, 95)), (8, 333, (62, 0), (4, 99)), (8, 339, (66, 0), (4, 108)), (8, 342, (6, 0), (4, 130)), (8, 345, (116, 0), (4, 139)), (8, 349, (22, 0), (4, 155)), (8, 352, (23, 0), (4, 159)), (9, 65, (131, 0), (5, 28)), (9, 69, (141, 0), (5, 124)), (9, 73, (137, 0), (5, 61)), (9, 84, (145, 0), (5, 34)), (9, 88, (136, 0), (5, 46)), (9, 91, (147, 0), (5, 50)), (9, 95, (138, 0), (5, 42)), (9, 99, (149, 0), (5, 54)), (9, 102, (150, 0), (5, 57)), (9, 105, (152, 0), (5, 69)), (9, 110, (134, 0), (5, 77)), (9, 115, (156, 0), (5, 90)), (9, 119, (158, 0), (5, 98)), (9, 125, (144, 0), (5, 111)), (9, 128, (143, 0), (5, 128)), (9, 133, (204, 0), (5, 148)), (9, 136, (142, 0), (5, 140)), (9, 139, (207, 0), (5, 156)), (9, 143, (133, 0), (5, 164)), (9, 146, (139, 0), (5, 136)), (9, 149, (164, 0), (5, 144)), (9, 154, (148, 0), (5, 184)), (9, 157, (168, 0), (5, 180)), (9, 161, (169, 0), (5, 189)), (9, 165, (171, 0), (5, 201)), (9, 168, (172, 0), (5, 204)), (9, 171, (173, 0), (5, 197)), (9, 174, (132, 0), (5, 207)), (9, 177, (175, 0), (5, 220)), (9, 182, (176, 0), (5, 216)), (9, 187, (182, 0), (6, 5)), (9, 211, (187, 0), (6, 33)), (9, 217, (188, 0), (6, 39)), (9, 223, (191, 0), (6, 49)), (9, 233, (196, 0), (6, 57)), (9, 236, (190, 0), (6, 84)), (9, 239, (189, 0), (6, 29)), (9, 242, (194, 0), (6, 77)), (9, 245, (197, 0), (6, 61)), (9, 248, (198, 0), (6, 65)), (9, 251, (199, 0), (6, 69)), (9, 254, (200, 0), (6, 73)), (9, 260, (193, 0), (6, 81)), (9, 269, (195, 0), (6, 53)), (9, 272, (135, 0), (5, 152)), (9, 275, (192, 0), (6, 45)), (9, 278, (201, 0), (6, 25)), (9, 281, (140, 0), (6, 92)), (9, 286, (206, 0), (5, 160)), (9, 291, (208, 0), (6, 105)), (9, 303, (214, 0), (6, 135)), (9, 315, (220, 0), (6, 159)), (9, 319, (224, 0), (6, 175)), (10, 9, (73, 0), (1, 20)), (10, 12, (130, 0), (4, 165)), (10, 13, (74, 0), (2, 49)), (10, 17, (146, 0), (5, 23)), (10, 18, (75, 0), (2, 69)), (10, 21, (151, 0), (5, 38)), (10, 22, (76, 0), (2, 89)), (10, 25, (153, 0), (5, 65)), (10, 26, (77, 0), (2, 101)), (10, 29, (154, 0), (5, 73)), (10, 30, (78, 0), (2, 105)), (10, 33, (155, 0), (5, 81)), (10, 34, (79, 0), (2, 109)), (10, 38, (157, 0), (5, 85)), (10, 39, (80, 0), (2, 123)), (10, 42, (159, 0), (5, 94)), (10, 43, (81, 0), (2, 132)), (10, 46, (160, 0), (5, 102)), (10, 47, (82, 0), (2, 143)), (10, 51, (161, 0), (5, 106)), (10, 52, (83, 0), (2, 161)), (10, 55, (162, 0), (5, 116)), (10, 56, (84, 0), (2, 165)), (10, 59, (163, 0), (5, 120)), (10, 60, (85, 0), (2, 191)), (10, 63, (165, 0), (5, 132)), (10, 64, (86, 0), (2, 230)), (10, 67, (166, 0), (5, 167)), (10, 68, (87, 0), (2, 236)), (10, 71, (167, 0), (5, 171)), (10, 72, (88, 0), (3, 0)), (10, 75, (170, 0), (5, 176)), (10, 76, (89, 0), (3, 19)), (10, 79, (174, 0), (5, 193)), (10, 80, (90, 0), (3, 48)), (10, 83, (177, 0), (5, 211)), (10, 84, (91, 0), (3, 62)), (10, 87, (178, 0), (5, 224)), (10, 88, (92, 0), (3, 74)), (10, 92, (179, 0), (5, 228)), (10, 93, (93, 0), (3, 79)), (10, 96, (180, 0), (5, 232)), (10, 97, (94, 0), (3, 84)), (10, 100, (181, 0), (5, 236)), (10, 101, (95, 0), (3, 88)), (10, 105, (183, 0), (6, 0)), (10, 106, (96, 0), (3, 100)), (10, 109, (184, 0), (6, 9)), (10, 110, (97, 0), (3, 104)), (10, 113, (185, 0), (6, 13)), (10, 114, (98, 0), (3, 113)), (10, 117, (186, 0), (6, 17)), (10, 118, (99, 0), (3, 117)), (10, 121, (202, 0), (6, 21)), (10, 122, (100, 0), (4, 36)), (10, 125, (203, 0), (6, 88)), (10, 126, (101, 0), (4, 40)), (10, 129, (205, 0), (6, 96)), (10, 130, (102, 0), (4, 44)), (10, 133, (209, 0), (6, 101)), (10, 134, (103, 0), (4, 57)), (10, 137, (210, 0), (6, 111)), (10, 138, (104, 0), (4, 70)), (10, 141, (211, 0), (6, 119)), (10, 142, (105, 0), (4, 75)), (10, 145, (212, 0), (6, 123)), (10, 146, (106, 0), (4, 79)), (10, 150, (213, 0), (6, 127)), (10, 151, (107, 0), (4, 88)), (10, 154, (215, 0), (6, 131)), (10, 155, (108, 0), (4, 104)), (10, 158, (216, 0), (6, 138)), (10, 159, (109, 0), (4, 114)), (10, 162, (217, 0), (6, 142)), (10, 163, (110, 0), (4, 118)), (10, 166, (218, 0), (6, 146)), (10, 167, (111, 0), (4, 122)), (10, 170, (219, 0), (6, 150)), (10, 171, (112, 0), (4, 126)), (10, 174, (221, 0), (6, 154)), (10, 175, (113, 0), (4, 143)), (10, 178, (222, 0), (6, 163)), (10, 179, (114, 0), (4, 147)), (10, 182, (223, 0), (6, 167)), (10, 183, (115, 0), (4, 151)), (10, 186, (225, 0), (6, 171)), (11, 335, (229, 0), (3, 155)), (11, 492, (230, 0), (3, 165)), (11, 495, (232, 0), (3, 169)), (11, 1059, (233, 0), (3, 177)), (12, 9, (231, 0), (3, 172))]
def am_nm (y : Nat) : MethodName := match am_ML[y]? with | some a => a.1 | none => objectInit
def am_mw (c i y f : Nat) : Cond := if f = 0 then .methodLink (am_cs c) i (am_nm y) else .methodLinkNest (am_cs c) i (am_nm y) "NeverSaid"
set_option maxRecDepth 100000 in
theorem am_mlT_ok : am_mlT.all (fun q => am_at q.2.2.2 (am_mw q.1 q.2.1 q.2.2.1.1 q.2.2.1.2) && decide (0 < q.2.2.1.1) && decide (q.2.2.1.1 < am_ML.length)) = true := by decide +kernel
def am_klT : List (Nat × Nat × Int32 × (Nat × Nat)) := [
  (1, 29, (-1000000005), (1, 38)), (1, 80, (-1000000003), (2, 64)), (1, 99, (1103515245), (2, 158)), (1, 103, (16777215), (2, 159)), (1, 146, (99999), (2, 223)), (3, 44, (-1000000005), (1, 173)), (5, 32, (-1000000011), (4, 112)), (5, 33, (-1000000012), (4, 113)), (6, 19, (-1000000005), (3, 133)), (8, 68, (-1000000001), (2, 59)), (8, 108, (-1000000012), (2, 100)), (8, 201, (-1000000002), (3, 12)), (8, 223, (-1000000005), (3, 40)), (8, 249, (-1000000003), (3, 108)), (8, 285, (-1000000014), (4, 51)), (8, 292, (-1000000011), (4, 61)), (8, 296, (-1000000013), (4, 67)), (8, 297, (-99999), (4, 68)), (8, 298, (99999), (4, 69)), (9, 64, (-1000000005), (5, 210)), (9, 77, (1103515245), (5, 115)), (9, 82, (-1000000001), (5, 32)), (9, 83, (-1000000003), (5, 33)), (9, 109, (-1000000012), (5, 72)), (9, 142, (99999), (5, 163)), (9, 160, (-1000000002), (5, 188)), (9, 296, (-1000000014), (6, 110)), (9, 297, (-1000000011), (6, 115)), (9, 298, (-1000000013), (6, 116)), (14, 265, (1431655765), (2, 180)), (14, 266, (858993459), (2, 181)), (14, 267, (252645135), (2, 182))]
set_option maxRecDepth 100000 in
theorem am_klT_ok : am_klT.all (fun q => am_at q.2.2.2 (.constant (am_cs q.1) q.2.1 q.2.2.1)) = true := by decide +kernel
def am_k2T : List (Nat × Nat × Int64 × (Nat × Nat)) := [
  (8, 236, (-1000000001), (3, 92)), (9, 78, (5), (5, 27)), (9, 80, (100), (5, 31)), (9, 113, (23), (5, 89)), (9, 123, (12), (5, 110)), (9, 131, (99), (5, 131)), (9, 152, (4), (5, 175)), (9, 180, (40), (5, 215)), (9, 185, (-1000000001), (6, 4)), (9, 194, (97), (6, 37)), (9, 196, (122), (6, 38)), (9, 198, (48), (6, 43)), (9, 200, (57), (6, 44)), (9, 284, (2), (6, 100)), (9, 289, (3), (6, 108)), (9, 294, (-1), (6, 109)), (9, 299, (-99999), (6, 117)), (9, 301, (99999), (6, 118)), (9, 309, (30), (6, 158))]
set_option maxRecDepth 100000 in
theorem am_k2T_ok : am_k2T.all (fun q => am_at q.2.2.2 (.constantLong (am_cs q.1) q.2.1 q.2.2.1)) = true := by decide +kernel
def am_nlT : List (Nat × Nat × Nat × (Nat × Nat)) := [
  (1, 9, 2, (1, 32)), (1, 17, 0, (1, 34)), (1, 23, 7, (1, 36)), (3, 9, 6, (1, 157)), (3, 64, 7, (4, 6)), (5, 9, 2, (1, 237)), (5, 18, 4, (1, 239)), (8, 7, 1, (1, 26)), (8, 22, 3, (1, 151)), (8, 34, 4, (1, 210)), (8, 40, 5, (1, 212)), (10, 7, 8, (1, 18)), (10, 10, 9, (4, 163))]
set_option maxRecDepth 100000 in
theorem am_nlT_ok : am_nlT.all (fun q => am_at q.2.2.2 (.classLink (am_cs q.1) q.2.1 (am_cs q.2.2.1)) && decide (q.2.2.1 < 10)) = true := by decide +kernel
/-- built in: 0 Object.<init>, 1 arraycopy, 2 Math.max, 3 Math.min -/
def am_biT : List (Nat × Nat × Nat × (Nat × Nat)) := [
  (0, 1, 0, (1, 79)), (1, 3, 0, (1, 31)), (2, 3, 0, (1, 43)), (3, 3, 0, (1, 156)), (3, 73, 1, (4, 12)), (4, 3, 0, (1, 218)), (4, 26, 1, (4, 103)), (5, 3, 0, (1, 236)), (6, 3, 0, (1, 162)), (7, 3, 0, (4, 18)), (8, 1, 0, (1, 23)), (8, 135, 3, (2, 147)), (8, 309, 1, (4, 87)), (8, 355, 2, (2, 227)), (9, 1, 0, (4, 168))]
def am_bn (k : Nat) : MethodName := match k with
  | 0 => objectInit
  | 1 => arraycopyName
  | 2 => Lib.Math.max.name
  | _ => Lib.Math.min.name
set_option maxRecDepth 100000 in
theorem am_biT_ok : am_biT.all (fun q => am_at q.2.2.2 (.methodLink (am_cs q.1) q.2.1 (am_bn q.2.2.1))) = true := by decide +kernel
theorem am_w_oi1 : (.instanceMethod objectInit : Cond) ∈ lw_tbl := am_t1 (List.mem_of_getElem? (i := 24) rfl)
theorem am_w_oi2 : (.code objectInit ⟨#[0xb1]⟩ 1 none : Cond) ∈ lw_tbl := am_t1 (List.mem_of_getElem? (i := 25) rfl)
theorem am_w_ac1 : (.native arraycopyName : Cond) ∈ lw_tbl := am_t4 (List.mem_of_getElem? (i := 14) rfl)
theorem am_w_ac2 : (.static arraycopyName : Cond) ∈ lw_tbl := am_t4 (List.mem_of_getElem? (i := 13) rfl)
theorem am_w_ac3 : (.initialized "java/lang/System" : Cond) ∈ lw_tbl := am_t1 (List.mem_of_getElem? (i := 17) rfl)
theorem am_w_max1 : (.static Lib.Math.max.name : Cond) ∈ lw_tbl := am_t2 (List.mem_of_getElem? (i := 228) rfl)
theorem am_w_max2 : (.code Lib.Math.max.name Lib.Math.max.code 2 (some .int) : Cond) ∈ lw_tbl := am_t2 (List.mem_of_getElem? (i := 229) rfl)
theorem am_w_min1 : (.static Lib.Math.min.name : Cond) ∈ lw_tbl := am_t2 (List.mem_of_getElem? (i := 148) rfl)
theorem am_w_min2 : (.code Lib.Math.min.name Lib.Math.min.code 2 (some .int) : Cond) ∈ lw_tbl := am_t2 (List.mem_of_getElem? (i := 149) rfl)
theorem am_w_ma : (.initialized "java/lang/Math" : Cond) ∈ lw_tbl := am_t1 (List.mem_of_getElem? (i := 10) rfl)
theorem am_w_stKA : (.fieldLinkNest "NeverSaid$Person" 34 "NeverSaid" "KIND_ABOVE" "[I" "NeverSaid" : Cond) ∈ lw_tbl := am_t2 (List.mem_of_getElem? (i := 98) rfl)
theorem am_w_lyKA : (.laysStatic "NeverSaid" "KIND_ABOVE" "[I" : Cond) ∈ lw_tbl := am_t2 (List.mem_of_getElem? (i := 99) rfl)
theorem am_w_stNA : (.fieldLinkNest "NeverSaid$Reader" 144 "NeverSaid" "NAMES" "[C" "NeverSaid" : Cond) ∈ lw_tbl := am_t3 (List.mem_of_getElem? (i := 233) rfl)
theorem am_w_lyNA : (.laysStatic "NeverSaid" "NAMES" "[C" : Cond) ∈ lw_tbl := am_t3 (List.mem_of_getElem? (i := 234) rfl)
theorem am_w_stCS : (.fieldLink "java/lang/String" 38 "java/lang/String" "COMPACT_STRINGS" "Z" : Cond) ∈ lw_tbl := am_t3 (List.mem_of_getElem? (i := 159) rfl)
theorem am_w_lyCS : (.laysStatic "java/lang/String" "COMPACT_STRINGS" "Z" : Cond) ∈ lw_tbl := am_t3 (List.mem_of_getElem? (i := 160) rfl)
theorem am_w_stSF : (.fieldLink "java/lang/String" 1053 "jdk/internal/util/Preconditions" "SIOOBE_FORMATTER" "Ljava/util/function/BiFunction;" : Cond) ∈ lw_tbl := am_t3 (List.mem_of_getElem? (i := 175) rfl)
theorem am_w_lySF : (.laysStatic "jdk/internal/util/Preconditions" "SIOOBE_FORMATTER" "Ljava/util/function/BiFunction;" : Cond) ∈ lw_tbl := am_t3 (List.mem_of_getElem? (i := 176) rfl)
theorem am_w_fV : (.fieldLink "java/lang/String" 9 "java/lang/String" "value" "[B" : Cond) ∈ lw_tbl := am_t6 (List.mem_of_getElem? (i := 179) rfl)
theorem am_w_fC : (.fieldLink "java/lang/String" 15 "java/lang/String" "coder" "B" : Cond) ∈ lw_tbl := am_t6 (List.mem_of_getElem? (i := 180) rfl)
theorem am_w_in_NeverSaid : (.initialized "NeverSaid" : Cond) ∈ lw_tbl := am_t1 (List.mem_of_getElem? (i := 1) rfl)
theorem am_w_in_String : (.initialized "java/lang/String" : Cond) ∈ lw_tbl := am_t1 (List.mem_of_getElem? (i := 13) rfl)
theorem am_w_in_Preconditions : (.initialized "jdk/internal/util/Preconditions" : Cond) ∈ lw_tbl := am_t1 (List.mem_of_getElem? (i := 15) rfl)
theorem am_w_aI : (.arrayClass .int : Cond) ∈ lw_tbl := am_t1 (List.mem_of_getElem? (i := 74) rfl)
theorem am_w_aB : (.arrayClass .byte : Cond) ∈ lw_tbl := am_t1 (List.mem_of_getElem? (i := 172) rfl)
theorem am_w_ao22 : (.arrayOver (.object "NeverSaid$Person") : Cond) ∈ lw_tbl := am_t1 (List.mem_of_getElem? (i := 33) rfl)
theorem am_w_ao23 : (.arrayOver (.object "NeverSaid$Deed") : Cond) ∈ lw_tbl := am_t1 (List.mem_of_getElem? (i := 35) rfl)
theorem am_w_ao24 : (.arrayOver (.object "NeverSaid$Text") : Cond) ∈ lw_tbl := am_t1 (List.mem_of_getElem? (i := 37) rfl)
theorem am_w_ao25 : (.arrayOver (.object "NeverSaid$Sheet") : Cond) ∈ lw_tbl := am_t1 (List.mem_of_getElem? (i := 211) rfl)
theorem am_w_ao26 : (.arrayOver (.object "NeverSaid$Slot") : Cond) ∈ lw_tbl := am_t1 (List.mem_of_getElem? (i := 213) rfl)
theorem am_w_tx0 : (.stringRef "NeverSaid$Reader" 97 "may" : Cond) ∈ lw_tbl := am_t3 (List.mem_of_getElem? (i := 146) rfl)
theorem am_w_tx1 : (.stringRef "NeverSaid$Reader" 103 "cost" : Cond) ∈ lw_tbl := am_t3 (List.mem_of_getElem? (i := 199) rfl)
theorem am_w_tx2 : (.stringRef "NeverSaid$Reader" 105 "bold" : Cond) ∈ lw_tbl := am_t3 (List.mem_of_getElem? (i := 200) rfl)
