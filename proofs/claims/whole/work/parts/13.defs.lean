section
theorem xnl_p {ls : List (Option Value)} {j : Nat} {o : Option Value} (h : ls[j]? = some o) (hn : xnl o = true) : ∀ q, q + 1 = j + 1 → xnlp ls q := by
  intro q hq v hv
  have : q = j := by omega
  subst this
  rw [h] at hv
  cases hv
  simpa [xnl] using hn
theorem xz_n {v : Int32} (h : v = 0 ∨ v = 1) : narrow .boolean (.int v) = .int v := by rcases h with rfl | rfl <;> rfl
theorem xz_f {v : Int32} (h : v = 0 ∨ v = 1) : fits .boolean (.int v) = true := by rcases h with rfl | rfl <;> rfl
def xRet (v : Option Value) (P1 : xH) : Outcome → xH → Prop := fun o P' => o = .returned v ∧ P' = P1
def xThr (q : Nat) (P1 : xH) : Outcome → xH → Prop := fun o P' => o = .threw q ∧ P' = P1
/-- returns v, and R holds of the heap -/
def xRl (v : Option Value) (R : xH → Prop) : Outcome → xH → Prop := fun o P' => o = .returned v ∧ R P'
theorem xd_X0 : ∀ j, j < 2 → defaultValue (tyX0 j) = vp_V [.null, .int 0] j := by
  intro j hj
  match j, hj with
  | 0, _ => exact rfl
  | 1, _ => exact rfl
  | q + 2, h => exact absurd h (by omega)
theorem xd_X1 : ∀ j, j < 12 → defaultValue (tyX1 j) = vp_V [.long 0, .int 0, .null, .int 0, .int 0, .null, .null, .null, .null, .int 0, .null, .int 0] j := by
  intro j hj
  match j, hj with
  | 0, _ => exact rfl
  | 1, _ => exact rfl
  | 2, _ => exact rfl
  | 3, _ => exact rfl
  | 4, _ => exact rfl
  | 5, _ => exact rfl
  | 6, _ => exact rfl
  | 7, _ => exact rfl
  | 8, _ => exact rfl
  | 9, _ => exact rfl
  | 10, _ => exact rfl
  | 11, _ => exact rfl
  | q + 12, h => exact absurd h (by omega)
theorem xd_X3 : ∀ j, j < 4 → defaultValue (tyX3 j) = vp_V [.null, .null, .null, .int 0] j := by
  intro j hj
  match j, hj with
  | 0, _ => exact rfl
  | 1, _ => exact rfl
  | 2, _ => exact rfl
  | 3, _ => exact rfl
  | q + 4, h => exact absurd h (by omega)
theorem xd_X5 : ∀ j, j < 3 → defaultValue (tyX5 j) = vp_V [.null, .null, .null] j := by
  intro j hj
  match j, hj with
  | 0, _ => exact rfl
  | 1, _ => exact rfl
  | 2, _ => exact rfl
  | q + 3, h => exact absurd h (by omega)
theorem xd_X6 : ∀ j, j < 5 → defaultValue (tyX6 j) = vp_V [.null, .null, .null, .int 0, .int 0] j := by
  intro j hj
  match j, hj with
  | 0, _ => exact rfl
  | 1, _ => exact rfl
  | 2, _ => exact rfl
  | 3, _ => exact rfl
  | 4, _ => exact rfl
  | q + 5, h => exact absurd h (by omega)
theorem xd_X7 : ∀ j, j < 3 → defaultValue (tyX7 j) = vp_V [.null, .null, .null] j := by
  intro j hj
  match j, hj with
  | 0, _ => exact rfl
  | 1, _ => exact rfl
  | 2, _ => exact rfl
  | q + 3, h => exact absurd h (by omega)
theorem xd_X8 : ∀ j, j < 5 → defaultValue (tyX8 j) = vp_V [.null, .null, .null, .null, .int 0] j := by
  intro j hj
  match j, hj with
  | 0, _ => exact rfl
  | 1, _ => exact rfl
  | 2, _ => exact rfl
  | 3, _ => exact rfl
  | 4, _ => exact rfl
  | q + 5, h => exact absurd h (by omega)
theorem xd_X9 : ∀ j, j < 5 → defaultValue (tyX9 j) = vp_V [.null, .int 0, .int 0, .int 0, .int 0] j := by
  intro j hj
  match j, hj with
  | 0, _ => exact rfl
  | 1, _ => exact rfl
  | 2, _ => exact rfl
  | 3, _ => exact rfl
  | 4, _ => exact rfl
  | q + 5, h => exact absurd h (by omega)
theorem xd_X10 : ∀ j, j < 6 → defaultValue (tyX10 j) = vp_V [.null, .int 0, .null, .null, .null, .null] j := by
  intro j hj
  match j, hj with
  | 0, _ => exact rfl
  | 1, _ => exact rfl
  | 2, _ => exact rfl
  | 3, _ => exact rfl
  | 4, _ => exact rfl
  | 5, _ => exact rfl
  | q + 6, h => exact absurd h (by omega)
theorem xd_X11 : ∀ j, j < 37 → defaultValue (tyX11 j) = vp_V [.int 0, .int 0, .null, .int 0, .null, .null, .null, .null, .null, .null, .null, .null, .null, .null, .null, .null, .null, .null, .null, .null, .null, .null, .null, .int 0, .int 0, .int 0, .long 0, .int 0, .int 0, .int 0, .int 0, .null, .int 0, .null, .int 0, .null, .null] j := by
  intro j hj
  match j, hj with
  | 0, _ => exact rfl
  | 1, _ => exact rfl
  | 2, _ => exact rfl
  | 3, _ => exact rfl
  | 4, _ => exact rfl
  | 5, _ => exact rfl
  | 6, _ => exact rfl
  | 7, _ => exact rfl
  | 8, _ => exact rfl
  | 9, _ => exact rfl
  | 10, _ => exact rfl
  | 11, _ => exact rfl
  | 12, _ => exact rfl
  | 13, _ => exact rfl
  | 14, _ => exact rfl
  | 15, _ => exact rfl
  | 16, _ => exact rfl
  | 17, _ => exact rfl
  | 18, _ => exact rfl
  | 19, _ => exact rfl
  | 20, _ => exact rfl
  | 21, _ => exact rfl
  | 22, _ => exact rfl
  | 23, _ => exact rfl
  | 24, _ => exact rfl
  | 25, _ => exact rfl
  | 26, _ => exact rfl
  | 27, _ => exact rfl
  | 28, _ => exact rfl
  | 29, _ => exact rfl
  | 30, _ => exact rfl
  | 31, _ => exact rfl
  | 32, _ => exact rfl
  | 33, _ => exact rfl
  | 34, _ => exact rfl
  | 35, _ => exact rfl
  | 36, _ => exact rfl
  | q + 37, h => exact absurd h (by omega)
def mJ13_bitCount_95d88 : xM := (yJ13_bitCount_95d88, cJ13_bitCount_95d88, 2, (some .int), [])
def mJ9_floorDiv_f86c9 : xM := (yJ9_floorDiv_f86c9, cJ9_floorDiv_f86c9, 6, (some .long), [])
def mJ9_max_7cf53 : xM := (yJ9_max_7cf53, cJ9_max_7cf53, 2, (some .int), [])
def mJ9_min_7cf53 : xM := (yJ9_min_7cf53, cJ9_min_7cf53, 2, (some .int), [])
def mJ0_length_8abf5 : xM := (yJ0_length_8abf5, cJ0_length_8abf5, 1, (some .int), [])
def mJ0_charAt_5068e : xM := (yJ0_charAt_5068e, cJ0_charAt_5068e, 2, (some .char), [])
def mJ0_coder_7d493 : xM := (yJ0_coder_7d493, cJ0_coder_7d493, 1, (some .byte), [])
def mJ0_isLatin1_aae02 : xM := (yJ0_isLatin1_aae02, cJ0_isLatin1_aae02, 1, (some .boolean), [])
def mJ0_checkIndex_df160 : xM := (yJ0_checkIndex_df160, cJ0_checkIndex_df160, 2, none, [])
def mJ1_charAt_3b067 : xM := (yJ1_charAt_3b067, cJ1_charAt_3b067, 2, (some .char), [])
def mJ3_checkIndex_8e157 : xM := (yJ3_checkIndex_8e157, cJ3_checkIndex_8e157, 3, (some .int), [])
def mX0_init : xM := (yX0_init, cX0_init, 1, none, [])
def mX0_brought : xM := (yX0_brought, cX0_brought, 2, (some .int), [])
def mX0_spanStart : xM := (yX0_spanStart, cX0_spanStart, 4, (some .int), [])
def mX0_spanEnd : xM := (yX0_spanEnd, cX0_spanEnd, 2, (some .int), [])
def mX0_mixed : xM := (yX0_mixed, cX0_mixed, 7, (some .int), [])
def mX2_within : xM := (yX2_within, cX2_within, 3, (some .long), [])
def mX2_senseOf : xM := (yX2_senseOf, cX2_senseOf, 9, (some .int), [])
def mX4_packed : xM := (yX4_packed, cX4_packed, 6, (some .long), [])
def mX4_characterOf : xM := (yX4_characterOf, cX4_characterOf, 4, (some .int), [])
def mX4_find : xM := (yX4_find, cX4_find, 5, (some .int), [])
def mX7_init : xM := (yX7_init, cX7_init, 1, none, [])
def mX7_joined : xM := (yX7_joined, cX7_joined, 7, (some .int), [])
def mX7_joinedByLoad : xM := (yX7_joinedByLoad, cX7_joinedByLoad, 6, (some .int), [])
def mX8_init : xM := (yX8_init, cX8_init, 1, none, [])
def mX8_begin : xM := (yX8_begin, cX8_begin, 1, none, [])
def mX8_openBracket : xM := (yX8_openBracket, cX8_openBracket, 1, none, [])
def mX8_closeBracket : xM := (yX8_closeBracket, cX8_closeBracket, 3, none, [])
def mX8_turn : xM := (yX8_turn, cX8_turn, 1, none, [])
def mX8_put : xM := (yX8_put, cX8_put, 3, none, [])
def mX8_endAnd : xM := (yX8_endAnd, cX8_endAnd, 1, none, [])
def mX8_endXor : xM := (yX8_endXor, cX8_endXor, 1, none, [])
def mX8_total : xM := (yX8_total, cX8_total, 1, (some .long), [])
def mX8_clearLevel : xM := (yX8_clearLevel, cX8_clearLevel, 1, none, [])
def mX9_init : xM := (yX9_init, cX9_init, 1, none, [])
def mX9_open : xM := (yX9_open, cX9_open, 3, none, [])
def mX9_step : xM := (yX9_step, cX9_step, 1, none, [])
def mX9_is : xM := (yX9_is, cX9_is, 3, (some .boolean), [])
def mX9_name : xM := (yX9_name, cX9_name, 1, (some .long), [])
def mX9_number : xM := (yX9_number, cX9_number, 3, (some .int), [])
def mX9_isDigit : xM := (yX9_isDigit, cX9_isDigit, 1, (some .boolean), [])
def mX9_isLetter : xM := (yX9_isLetter, cX9_isLetter, 1, (some .boolean), [])
def mX1_init : xM := (yX1_init, cX1_init, 1, none, [])
def mX1_begin : xM := (yX1_begin, cX1_begin, 5, none, [])
def mX1_states : xM := (yX1_states, cX1_states, 1, (some .int), [])
def mX1_inputNamed : xM := (yX1_inputNamed, cX1_inputNamed, 3, (some .int), [])
def mX1_pinNamed : xM := (yX1_pinNamed, cX1_pinNamed, 3, (some .int), [])
def mX1_addArc : xM := (yX1_addArc, cX1_addArc, 7, none, [])
def mX1_arcPart : xM := (yX1_arcPart, cX1_arcPart, 3, (some .int), [])
def mX1_hasArc : xM := (yX1_hasArc, cX1_hasArc, 4, (some .boolean), [])
def mX1_agrees : xM := (yX1_agrees, cX1_agrees, 4, (some .boolean), [])
def mX1_disagreeing : xM := (yX1_disagreeing, cX1_disagreeing, 3, (some .int), [])
def mX1_comesBefore : xM := (yX1_comesBefore, cX1_comesBefore, 2, (some .boolean), [])
def mX3_init : xM := (yX3_init, cX3_init, 1, none, [])
def mX3_match : xM := (yX3_match, cX3_match, 4, (some .boolean), [])
def mX3_placeFrom : xM := (yX3_placeFrom, cX3_placeFrom, 4, (some .boolean), [])
def mX3_goesOnWith : xM := (yX3_goesOnWith, cX3_goesOnWith, 4, (some .boolean), [])
def mX3_fits : xM := (yX3_fits, cX3_fits, 6, (some .boolean), [])
def mX3_split : xM := (yX3_split, cX3_split, 4, none, [])
def mX6_init : xM := (yX6_init, cX6_init, 2, none, [])
def mX6_clear : xM := (yX6_clear, cX6_clear, 1, none, [])
def mX6_hasCell : xM := (yX6_hasCell, cX6_hasCell, 4, (some .boolean), [])
def mX6_addTable : xM := (yX6_addTable, cX6_addTable, 3, (some (.object "CellLibrary$Table")), [])
def mX6_addCell : xM := (yX6_addCell, cX6_addCell, 5, (some (.object "CellLibrary$Cell")), [])
def mX5_init : xM := (yX5_init, cX5_init, 1, none, [])
def mX5_place : xM := (yX5_place, cX5_place, 1, (some .int), [])
def mX5_exchange : xM := (yX5_exchange, cX5_exchange, 3, (some (.object "CellLibrary$Shelf")), [])
def mX5_readText : xM := (yX5_readText, cX5_readText, 4, none, [])
def mX5_readTable : xM := (yX5_readTable, cX5_readTable, 4, none, [])
def mX5_readAxis : xM := (yX5_readAxis, cX5_readAxis, 4, none, [])
def mX5_readNumbers : xM := (yX5_readNumbers, cX5_readNumbers, 4, none, [])
def mX5_readCell : xM := (yX5_readCell, cX5_readCell, 5, none, [])
def mX5_readInput : xM := (yX5_readInput, cX5_readInput, 2, none, [])
def mX5_readOutputName : xM := (yX5_readOutputName, cX5_readOutputName, 2, none, [])
def mX5_readFunction : xM := (yX5_readFunction, cX5_readFunction, 4, none, [])
def mX5_takeNewPin : xM := (yX5_takeNewPin, cX5_takeNewPin, 4, none, [])
def mX5_readAmount : xM := (yX5_readAmount, cX5_readAmount, 3, none, [])
def mX5_readPowers : xM := (yX5_readPowers, cX5_readPowers, 2, none, [])
def mX5_readArc : xM := (yX5_readArc, cX5_readArc, 7, none, [])
def mX5_takeSense : xM := (yX5_takeSense, cX5_takeSense, 2, (some .int), [])
def mX5_takeTable : xM := (yX5_takeTable, cX5_takeTable, 2, (some .int), [])
def mX5_readOpenings : xM := (yX5_readOpenings, cX5_readOpenings, 2, none, [])
def mX5_takePrimary : xM := (yX5_takePrimary, cX5_takePrimary, 5, (some .long), [])
def mX5_readClosings : xM := (yX5_readClosings, cX5_readClosings, 2, none, [])
def mX5_takeOperator : xM := (yX5_takeOperator, cX5_takeOperator, 1, (some .boolean), [])
def mX5_takeNumber : xM := (yX5_takeNumber, cX5_takeNumber, 2, (some .int), [])
def mX5_takeSign : xM := (yX5_takeSign, cX5_takeSign, 2, none, [])
def mX5_demand : xM := (yX5_demand, cX5_demand, 1, none, [])
def mX10_init : xM := (yX10_init, cX10_init, 1, none, [])
def mX10_unit : xM := (yX10_unit, cX10_unit, 2, (some .boolean), [])
def mX10_units : xM := (yX10_units, cX10_units, 5, (some .boolean), [])
def mX10_read : xM := (yX10_read, cX10_read, 3, (some .int), [(10, 22, 25, 50)])
def mX10_cell : xM := (yX10_cell, cX10_cell, 4, (some .int), [])
def mX10_truth : xM := (yX10_truth, cX10_truth, 4, (some .long), [])
def mX10_sense : xM := (yX10_sense, cX10_sense, 5, (some .int), [])
def mX10_arc : xM := (yX10_arc, cX10_arc, 5, (some .int), [])
def mX10_delay : xM := (yX10_delay, cX10_delay, 8, (some .int), [])
def mX10_power : xM := (yX10_power, cX10_power, 4, (some .int), [])
def mX10_alike : xM := (yX10_alike, cX10_alike, 5, (some .boolean), [])
def mX10_order : xM := (yX10_order, cX10_order, 6, (some .int), [])
def mX10_family : xM := (yX10_family, cX10_family, 4, (some .int), [])
def mX10_best : xM := (yX10_best, cX10_best, 10, (some .int), [])
def mX10_letter : xM := (yX10_letter, cX10_letter, 5, (some .int), [])
def mX10_count : xM := (yX10_count, cX10_count, 2, (some .int), [])
def mX10_mayStandOnTape : xM := (yX10_mayStandOnTape, cX10_mayStandOnTape, 1, (some .boolean), [])
def mX10_cellAt : xM := (yX10_cellAt, cX10_cellAt, 2, (some (.object "CellLibrary$Cell")), [])
def mX10_requireIndex : xM := (yX10_requireIndex, cX10_requireIndex, 2, none, [])
def mX10_requireNotBelowZero : xM := (yX10_requireNotBelowZero, cX10_requireNotBelowZero, 1, none, [])
def mX10_gatherMembers : xM := (yX10_gatherMembers, cX10_gatherMembers, 6, (some .int), [])
def mX11_init : xM := (yX11_init, cX11_init, 1, none, [])
def mX11_thrown : xM := (yX11_thrown, cX11_thrown, 1, (some .int), [])
def mX11_isCharacter : xM := (yX11_isCharacter, cX11_isCharacter, 1, (some .boolean), [])
def mX11_unit : xM := (yX11_unit, cX11_unit, 2, (some .boolean), [])
def mX11_units : xM := (yX11_units, cX11_units, 5, (some .boolean), [])
def mX11_isLetter : xM := (yX11_isLetter, cX11_isLetter, 1, (some .boolean), [])
def mX11_isDigit : xM := (yX11_isDigit, cX11_isDigit, 1, (some .boolean), [])
def mX11_look : xM := (yX11_look, cX11_look, 1, none, [])
def mX11_go : xM := (yX11_go, cX11_go, 1, none, [])
def mX11_need : xM := (yX11_need, cX11_need, 2, none, [])
def mX11_isSign : xM := (yX11_isSign, cX11_isSign, 2, (some .boolean), [])
def mX11_sign : xM := (yX11_sign, cX11_sign, 2, none, [])
def mX11_word : xM := (yX11_word, cX11_word, 5, (some .long), [])
def mX11_is : xM := (yX11_is, cX11_is, 6, (some .boolean), [])
def mX11_numberNow : xM := (yX11_numberNow, cX11_numberNow, 2, (some .int), [])
def mX11_tableOf : xM := (yX11_tableOf, cX11_tableOf, 6, (some .int), [])
def mX11_axis : xM := (yX11_axis, cX11_axis, 4, (some .int), [])
def mX11_readTable : xM := (yX11_readTable, cX11_readTable, 3, none, [])
def mX11_pinOf : xM := (yX11_pinOf, cX11_pinOf, 7, (some .int), [])
def mX11_isPin : xM := (yX11_isPin, cX11_isPin, 1, (some .boolean), [])
def mX11_readCell : xM := (yX11_readCell, cX11_readCell, 3, none, [])
def mX11_readItem : xM := (yX11_readItem, cX11_readItem, 1, none, [])
def mX11_readInput : xM := (yX11_readInput, cX11_readInput, 1, none, [])
def mX11_readNumber : xM := (yX11_readNumber, cX11_readNumber, 2, none, [])
def mX11_readPower : xM := (yX11_readPower, cX11_readPower, 2, none, [])
def mX11_readArc : xM := (yX11_readArc, cX11_readArc, 9, none, [])
def mX11_all : xM := (yX11_all, cX11_all, 1, (some .long), [])
def mX11_statesOf : xM := (yX11_statesOf, cX11_statesOf, 5, (some .long), [])
def mX11_rank : xM := (yX11_rank, cX11_rank, 1, (some .int), [])
def mX11_settle : xM := (yX11_settle, cX11_settle, 7, none, [])
def mX11_turn : xM := (yX11_turn, cX11_turn, 1, none, [])
def mX11_push : xM := (yX11_push, cX11_push, 2, none, [])
def mX11_operand : xM := (yX11_operand, cX11_operand, 4, (some .boolean), [])
def mX11_expression : xM := (yX11_expression, cX11_expression, 4, (some .long), [])
def mX11_readOutput : xM := (yX11_readOutput, cX11_readOutput, 2, none, [])
def mX11_read : xM := (yX11_read, cX11_read, 1, (some .int), [])
def mX11_isCell : xM := (yX11_isCell, cX11_isCell, 2, (some .boolean), [])
def mX11_senseOf : xM := (yX11_senseOf, cX11_senseOf, 8, (some .int), [])
def mX11_agrees : xM := (yX11_agrees, cX11_agrees, 6, (some .boolean), [])
def mX11_cell : xM := (yX11_cell, cX11_cell, 6, (some .int), [])
def mX11_truth : xM := (yX11_truth, cX11_truth, 3, (some .long), [])
def mX11_sense : xM := (yX11_sense, cX11_sense, 5, (some .int), [])
def mX11_isArc : xM := (yX11_isArc, cX11_isArc, 3, (some .boolean), [])
def mX11_arc : xM := (yX11_arc, cX11_arc, 5, (some .int), [])
def mX11_spanOf : xM := (yX11_spanOf, cX11_spanOf, 6, (some .int), [])
def mX11_brought : xM := (yX11_brought, cX11_brought, 4, (some .int), [])
def mX11_mixed : xM := (yX11_mixed, cX11_mixed, 16, (some .long), [])
def mX11_byLoad : xM := (yX11_byLoad, cX11_byLoad, 8, (some .long), [])
def mX11_delay : xM := (yX11_delay, cX11_delay, 10, (some .int), [])
def mX11_power : xM := (yX11_power, cX11_power, 3, (some .int), [])
def mX11_fits : xM := (yX11_fits, cX11_fits, 8, (some .boolean), [])
def mX11_isOrder : xM := (yX11_isOrder, cX11_isOrder, 4, (some .boolean), [])
def mX11_find : xM := (yX11_find, cX11_find, 5, (some .boolean), [])
def mX11_alike : xM := (yX11_alike, cX11_alike, 3, (some .boolean), [])
def mX11_order : xM := (yX11_order, cX11_order, 4, (some .int), [])
def mX11_gather : xM := (yX11_gather, cX11_gather, 5, (some .int), [])
def mX11_isBefore : xM := (yX11_isBefore, cX11_isBefore, 5, (some .boolean), [])
def mX11_family : xM := (yX11_family, cX11_family, 3, (some .int), [])
def mX11_best : xM := (yX11_best, cX11_best, 7, (some .int), [])
def mX11_letter : xM := (yX11_letter, cX11_letter, 8, (some .int), [])
def mX11_count : xM := (yX11_count, cX11_count, 2, (some .int), [])
def mL_cell : xM := (yL_cell, cL_cell, 5, (some .int), [(0, 10, 13, 13)])
def mL_truth : xM := (yL_truth, cL_truth, 5, (some .int), [(0, 9, 12, 13)])
def mL_sense : xM := (yL_sense, cL_sense, 6, (some .int), [(0, 12, 15, 13)])
def mL_arc : xM := (yL_arc, cL_arc, 6, (some .int), [(0, 12, 15, 13)])
def mL_delay : xM := (yL_delay, cL_delay, 8, (some .int), [(0, 16, 19, 13), (0, 16, 23, 30)])
def mL_power : xM := (yL_power, cL_power, 5, (some .int), [(0, 10, 13, 13)])
def mL_alike : xM := (yL_alike, cL_alike, 5, (some .int), [(0, 17, 20, 13)])
def mL_order : xM := (yL_order, cL_order, 6, (some .int), [(0, 12, 15, 13)])
def mL_family : xM := (yL_family, cL_family, 5, (some .int), [(0, 10, 13, 13)])
def mL_best : xM := (yL_best, cL_best, 5, (some .int), [(0, 10, 13, 13), (0, 10, 17, 30)])
def mL_letter : xM := (yL_letter, cL_letter, 6, (some .int), [(0, 12, 15, 13)])
def mL_count : xM := (yL_count, cL_count, 4, (some .int), [(0, 9, 12, 13)])
def mL_law : xM := (yL_law, cL_law, 8, ret, [])
end
