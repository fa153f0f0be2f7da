-- tables of the program for the interpreter (written by a program of mine out of the printed names)
def cnL : List String := [RX0, RX1, RX2, RX3, RX4, RX5, RX6, RX7, RX8, RJ6]
def cn (i : Nat) : String := cnL.getD i ""
abbrev MT : Type := MethodName × ByteArray × Nat × Option FieldType × Nat × Nat × Nat × Nat × Nat
def mtab_0 : List MT := [
  (yX7_init, cX7_init, 3, none, 7, 0, 3, 65, 99),
  (yX4_init, cX4_init, 1, none, 4, 0, 1, 20, 99),
  (yX6_init, cX6_init, 2, none, 6, 1, 1, 20, 99),
  (yX5_init, cX5_init, 2, none, 5, 1, 1, 22, 99),
  (yX5_begin, cX5_begin, 3, none, 5, 1, 0, 0, 99),
  (yX3_init, cX3_init, 3, none, 3, 1, 2, 43, 99),
  (yX2_init, cX2_init, 2, none, 2, 1, 2, 43, 99),
  (yX1_init, cX1_init, 1, none, 1, 0, 1, 20, 99),
  (yX0_init, cX0_init, 1, none, 0, 0, 1, 20, 99),
  (yX7_feed, cX7_feed, 2, (some .int), 7, 1, 1, 22, 99),
  (yX7_isOutside, cX7_isOutside, 3, (some .boolean), 7, 3, 0, 0, 99),
  (yX6_append, cX6_append, 2, (some .boolean), 6, 1, 0, 0, 99),
  (yX7_row, cX7_row, 4, (some .int), 7, 0, 6, 129, 99),
  (yX6_readInto, cX6_readInto, 3, (some .int), 6, 1, 5, 107, 99),
  (yX4_wipe, cX4_wipe, 1, none, 4, 0, 0, 0, 99),
  (yX6_skipBlanks, cX6_skipBlanks, 1, none, 6, 0, 0, 0, 99)]
def mtab_1 : List MT := [
  (yX6_readClause, cX6_readClause, 3, none, 6, 0, 4, 85, 99),
  (yX6_letterHere, cX6_letterHere, 1, (some .int), 6, 0, 0, 0, 99),
  (yX4_isTold, cX4_isTold, 1, (some .boolean), 4, 0, 0, 0, 99),
  (yX6_readCatches, cX6_readCatches, 5, none, 6, 1, 3, 61, 99),
  (yX6_fail, cX6_fail, 3, none, 6, 2, 0, 0, 99),
  (yX6_readNumber, cX6_readNumber, 5, (some .int), 6, 2, 1, 22, 99),
  (yX6_isFigure, cX6_isFigure, 1, (some .boolean), 6, 1, 0, 0, 99),
  (yX6_isNext, cX6_isNext, 2, (some .boolean), 6, 1, 1, 20, 99),
  (yX6_readEnd, cX6_readEnd, 1, none, 6, 0, 2, 41, 99),
  (yX6_readHouse, cX6_readHouse, 2, none, 6, 0, 3, 61, 99),
  (yX6_readGull, cX6_readGull, 2, none, 6, 0, 3, 61, 99),
  (yX3_forget, cX3_forget, 1, none, 3, 0, 0, 0, 99),
  (yX7_fault, cX7_fault, 1, (some .int), 7, 0, 0, 0, 99),
  (yX7_told, cX7_told, 2, (some .int), 7, 1, 5, 108, 99),
  (yX5_heldSet, cX5_heldSet, 1, (some .int), 5, 0, 1, 22, 99),
  (yX5_gullHeldSet, cX5_gullHeldSet, 3, (some .int), 5, 0, 0, 0, 99)]
def mtab_2 : List MT := [
  (yX5_freeSet, cX5_freeSet, 1, (some .int), 5, 0, 1, 22, 99),
  (yX5_debtOfHeld, cX5_debtOfHeld, 3, (some .int), 5, 0, 3, 63, 99),
  (yX5_isHeld, cX5_isHeld, 2, (some .boolean), 5, 1, 2, 42, 99),
  (yX5_isEmpty, cX5_isEmpty, 2, (some .boolean), 5, 1, 1, 21, 99),
  (yX7_isIn, cX7_isIn, 2, (some .boolean), 7, 2, 0, 0, 99),
  (yX5_astray, cX5_astray, 3, (some .int), 5, 0, 0, 0, 99),
  (yX5_gap, cX5_gap, 4, (some .int), 5, 0, 4, 85, 99),
  (yX5_worst, cX5_worst, 3, (some .int), 5, 0, 3, 63, 99),
  (yX7_house, cX7_house, 3, (some .int), 7, 2, 3, 63, 99),
  (yX4_isHouse, cX4_isHouse, 2, (some .boolean), 4, 1, 0, 0, 99),
  (yX5_standing, cX5_standing, 2, (some .int), 5, 1, 2, 42, 99),
  (yX7_gull, cX7_gull, 3, (some .int), 7, 2, 1, 22, 99),
  (yX4_isGull, cX4_isGull, 2, (some .boolean), 4, 1, 0, 0, 99),
  (yX5_houseOf, cX5_houseOf, 3, (some .int), 5, 1, 0, 0, 99),
  (yX7_ahead, cX7_ahead, 2, (some .int), 7, 1, 1, 22, 99),
  (yX4_catchOf, cX4_catchOf, 2, (some .int), 4, 1, 0, 0, 99)]
def mtab_3 : List MT := [
  (yX7_logged, cX7_logged, 3, (some .int), 7, 2, 1, 23, 99),
  (yX5_cryAt, cX5_cryAt, 4, (some .int), 5, 2, 0, 0, 99),
  (yX7_day, cX7_day, 4, (some .int), 7, 1, 5, 111, 99),
  (yX7_refusalOfDays, cX7_refusalOfDays, 2, (some .int), 7, 1, 1, 22, 99),
  (yX3_remember, cX3_remember, 2, none, 3, 1, 2, 47, 99),
  (yX5_copyFrom, cX5_copyFrom, 2, none, 5, 1, 1, 26, 99),
  (yX5_passDay, cX5_passDay, 4, none, 5, 0, 4, 88, 99),
  (yX5_addHeads, cX5_addHeads, 2, none, 5, 1, 1, 21, 99),
  (yX5_firstTurn, cX5_firstTurn, 1, (some .int), 5, 0, 0, 0, 99),
  (yX5_takeTurn, cX5_takeTurn, 6, none, 5, 1, 3, 63, 99),
  (yX5_cryOut, cX5_cryOut, 3, none, 5, 2, 1, 21, 99),
  (yX5_countGoodDay, cX5_countGoodDay, 2, none, 5, 1, 0, 0, 99),
  (yX5_evict, cX5_evict, 2, none, 5, 1, 0, 0, 99),
  (yX7_pay, cX7_pay, 3, (some .int), 7, 2, 4, 85, 99),
  (yX5_canPay, cX5_canPay, 3, (some .boolean), 5, 2, 3, 63, 99),
  (yX5_payByHand, cX5_payByHand, 3, none, 5, 2, 0, 0, 99)]
def mtab_4 : List MT := [
  (yX7_bread, cX7_bread, 3, (some .int), 7, 2, 4, 84, 99),
  (yX5_eatsBread, cX5_eatsBread, 2, (some .boolean), 5, 1, 3, 63, 99),
  (yX5_payByBread, cX5_payByBread, 3, none, 5, 2, 1, 21, 99),
  (yX7_stone, cX7_stone, 2, (some .int), 7, 1, 3, 68, 99),
  (yX7_lend, cX7_lend, 2, (some .int), 7, 1, 3, 68, 99),
  (yX7_swap, cX7_swap, 3, (some .int), 7, 2, 3, 68, 99),
  (yX5_canExchange, cX5_canExchange, 3, (some .boolean), 5, 2, 0, 0, 99),
  (yX5_exchange, cX5_exchange, 4, none, 5, 2, 0, 0, 99),
  (yX7_drift, cX7_drift, 4, (some .int), 7, 1, 5, 111, 99),
  (yX7_drawDeed, cX7_drawDeed, 5, none, 7, 0, 4, 85, 99),
  (yX7_draw, cX7_draw, 2, (some .int), 7, 1, 0, 0, 99),
  (yX7_undo, cX7_undo, 2, (some .int), 7, 1, 3, 69, 99),
  (yX3_bringBack, cX3_bringBack, 3, (some .boolean), 3, 2, 2, 47, 99),
  (yX7_owes, cX7_owes, 3, (some .int), 7, 2, 7, 154, 99),
  (yX7_tryDays, cX7_tryDays, 2, none, 7, 1, 6, 133, 99),
  (yX5_passDays, cX5_passDays, 3, none, 5, 1, 5, 111, 99)]
def mtab_5 : List MT := [
  (yX7_firstOut, cX7_firstOut, 4, (some .int), 7, 1, 5, 111, 99),
  (yX7_newlyEmpty, cX7_newlyEmpty, 1, (some .int), 7, 0, 0, 0, 99),
  (yX7_firstInTurn, cX7_firstInTurn, 6, (some .int), 7, 2, 1, 21, 99),
  (yX7_outBy, cX7_outBy, 2, (some .int), 7, 1, 7, 154, 99),
  (yX7_redeemedBy, cX7_redeemedBy, 2, (some .int), 7, 1, 7, 154, 99),
  (yX7_loan, cX7_loan, 6, (some .int), 7, 1, 6, 134, 99),
  (yX7_loanDoes, cX7_loanDoes, 4, (some .boolean), 7, 2, 5, 111, 99),
  (yX7_clear, cX7_clear, 5, (some .int), 7, 1, 4, 86, 99),
  (yJ6_bitCount_0f7a4, cJ6_bitCount_0f7a4, 1, (some .int), 9, 1, 0, 0, 99),
  (yX5_canClear, cX5_canClear, 4, (some .boolean), 5, 1, 3, 63, 99),
  (yX7_bestSwap, cX7_bestSwap, 8, (some .int), 7, 2, 7, 156, 99),
  (yX7_putOutBySwap, cX7_putOutBySwap, 4, (some .int), 7, 3, 6, 133, 99),
  (yX7_home, cX7_home, 4, (some .int), 7, 1, 1, 22, 99),
  (yX7_mostBread, cX7_mostBread, 2, (some .int), 7, 1, 4, 84, 99),
  (yX7_sure, cX7_sure, 6, (some .int), 7, 2, 1, 22, 3),
  (yX7_hear, cX7_hear, 4, (some .int), 7, 3, 1, 23, 99)]
def mtab_6 : List MT := [
  (yX1_take, cX1_take, 4, (some .boolean), 1, 3, 0, 0, 99),
  (yX7_gales, cX7_gales, 2, (some .int), 7, 1, 3, 70, 99),
  (yX1_findGales, cX1_findGales, 4, none, 1, 1, 2, 47, 99),
  (yX1_addIfFitting, cX1_addIfFitting, 5, none, 1, 2, 1, 23, 99),
  (yX1_gullThen, cX1_gullThen, 4, (some .int), 1, 3, 0, 0, 99),
  (yX7_listen, cX7_listen, 5, (some .int), 7, 0, 3, 70, 99),
  (yX1_greatestPart, cX1_greatestPart, 6, (some .int), 1, 2, 1, 23, 99),
  (yX7_write, cX7_write, 3, (some .int), 7, 2, 1, 22, 99),
  (yX0_enter, cX0_enter, 3, (some .boolean), 0, 2, 0, 0, 99),
  (yX7_judge, cX7_judge, 1, (some .int), 7, 0, 1, 22, 99),
  (yX0_firstWrong, cX0_firstWrong, 3, (some .int), 0, 1, 0, 0, 99),
  (yX7_tear, cX7_tear, 2, (some .int), 7, 0, 0, 0, 99),
  (yX7_seed, cX7_seed, 3, (some .int), 7, 1, 0, 0, 99),
  (yX7_keep, cX7_keep, 3, (some .int), 7, 1, 2, 47, 99),
  (yX7_goBack, cX7_goBack, 3, (some .int), 7, 1, 2, 47, 99),
  (yX8_init, cX8_init, 1, none, 8, 0, 1, 20, 99)]
def mtab_7 : List MT := [
  (yX8_feed, cX8_feed, 2, (some .int), 8, 1, 1, 22, 99),
  (yX8_in, cX8_in, 3, (some .boolean), 8, 3, 0, 0, 99),
  (yX8_row, cX8_row, 2, (some .int), 8, 0, 5, 105, 99),
  (yX8_skips, cX8_skips, 1, none, 8, 0, 1, 20, 99),
  (yX8_look, cX8_look, 1, (some .int), 8, 0, 0, 0, 99),
  (yX8_reads, cX8_reads, 1, none, 8, 0, 4, 85, 99),
  (yX8_readsCatches, cX8_readsCatches, 1, none, 8, 0, 3, 64, 99),
  (yX8_fails, cX8_fails, 2, none, 8, 1, 0, 0, 99),
  (yX8_number, cX8_number, 5, (some .int), 8, 2, 2, 40, 99),
  (yX8_word, cX8_word, 2, none, 8, 1, 2, 40, 99),
  (yX8_readsHouse, cX8_readsHouse, 2, none, 8, 0, 3, 64, 99),
  (yX8_readsGull, cX8_readsGull, 2, none, 8, 0, 3, 64, 99),
  (yX8_takesAll, cX8_takesAll, 2, none, 8, 0, 0, 0, 99),
  (yX8_fault, cX8_fault, 1, (some .int), 8, 0, 0, 0, 99),
  (yX8_told, cX8_told, 2, (some .int), 8, 1, 3, 65, 99),
  (yX8_housesSo, cX8_housesSo, 4, (some .int), 8, 1, 0, 0, 99)]
def mtab_8 : List MT := [
  (yX8_debts, cX8_debts, 3, (some .int), 8, 0, 1, 21, 99),
  (yX8_isHeld, cX8_isHeld, 2, (some .boolean), 8, 1, 0, 0, 99),
  (yX8_debtOf, cX8_debtOf, 2, (some .int), 8, 1, 0, 0, 99),
  (yX8_astray, cX8_astray, 3, (some .int), 8, 0, 1, 22, 99),
  (yX8_holds, cX8_holds, 3, (some .int), 8, 1, 0, 0, 99),
  (yX8_gap, cX8_gap, 3, (some .int), 8, 0, 2, 43, 99),
  (yX8_worst, cX8_worst, 3, (some .int), 8, 0, 1, 21, 99),
  (yX8_house, cX8_house, 3, (some .int), 8, 2, 2, 43, 99),
  (yX8_isHouse, cX8_isHouse, 2, (some .boolean), 8, 1, 1, 22, 99),
  (yX8_gull, cX8_gull, 3, (some .int), 8, 2, 2, 43, 99),
  (yX8_isGull, cX8_isGull, 2, (some .boolean), 8, 1, 1, 22, 99),
  (yX8_ahead, cX8_ahead, 2, (some .int), 8, 1, 1, 22, 99),
  (yX8_isTold, cX8_isTold, 1, (some .boolean), 8, 0, 0, 0, 99),
  (yX8_logged, cX8_logged, 3, (some .int), 8, 2, 1, 22, 99),
  (yX8_day, cX8_day, 3, (some .int), 8, 1, 3, 72, 99),
  (yX8_notes, cX8_notes, 2, none, 8, 0, 1, 24, 99)]
def mtab_9 : List MT := [
  (yX8_copies, cX8_copies, 5, none, 8, 4, 0, 0, 99),
  (yX8_passes, cX8_passes, 4, none, 8, 1, 2, 49, 99),
  (yX8_lesser, cX8_lesser, 2, (some .int), 8, 2, 0, 0, 99),
  (yX8_pays, cX8_pays, 7, none, 8, 2, 1, 23, 99),
  (yX8_cries, cX8_cries, 4, none, 8, 3, 0, 0, 99),
  (yX8_putsOut, cX8_putsOut, 2, none, 8, 2, 0, 0, 99),
  (yX8_pay, cX8_pay, 3, (some .int), 8, 2, 2, 45, 99),
  (yX8_canPay, cX8_canPay, 3, (some .boolean), 8, 2, 1, 21, 99),
  (yX8_paysBy, cX8_paysBy, 3, none, 8, 2, 0, 0, 99),
  (yX8_bread, cX8_bread, 3, (some .int), 8, 2, 2, 45, 99),
  (yX8_isByBread, cX8_isByBread, 2, (some .boolean), 8, 1, 1, 21, 99),
  (yX8_stone, cX8_stone, 2, (some .int), 8, 1, 2, 45, 99),
  (yX8_lend, cX8_lend, 2, (some .int), 8, 1, 2, 45, 99),
  (yX8_swap, cX8_swap, 3, (some .int), 8, 2, 2, 45, 99),
  (yX8_canSwap, cX8_canSwap, 3, (some .boolean), 8, 3, 0, 0, 99),
  (yX8_swaps, cX8_swaps, 4, none, 8, 3, 0, 0, 99)]
def mtab_10 : List MT := [
  (yX8_drift, cX8_drift, 3, (some .int), 8, 1, 3, 72, 99),
  (yX8_draws, cX8_draws, 4, none, 8, 0, 2, 43, 99),
  (yX8_draw, cX8_draw, 2, (some .int), 8, 1, 0, 0, 99),
  (yX8_undo, cX8_undo, 2, (some .int), 8, 1, 1, 24, 99),
  (yX8_owes, cX8_owes, 3, (some .int), 8, 2, 4, 100, 99),
  (yX8_goesOn, cX8_goesOn, 9, none, 8, 1, 3, 72, 99),
  (yX8_has, cX8_has, 2, (some .boolean), 8, 2, 0, 0, 99),
  (yX8_firstOut, cX8_firstOut, 2, (some .int), 8, 1, 4, 100, 99),
  (yX8_outBy, cX8_outBy, 2, (some .int), 8, 1, 4, 100, 99),
  (yX8_redeemedBy, cX8_redeemedBy, 2, (some .int), 8, 1, 4, 100, 99),
  (yX8_loan, cX8_loan, 3, (some .int), 8, 1, 4, 100, 99),
  (yX8_clear, cX8_clear, 7, (some .int), 8, 1, 1, 22, 99),
  (yX8_ones, cX8_ones, 3, (some .int), 8, 1, 0, 0, 99),
  (yX8_bestSwap, cX8_bestSwap, 7, (some .int), 8, 2, 4, 100, 99),
  (yX8_home, cX8_home, 4, (some .int), 8, 1, 2, 43, 99),
  (yX8_mostBread, cX8_mostBread, 2, (some .int), 8, 1, 2, 43, 99)]
def mtab_11 : List MT := [
  (yX8_sure, cX8_sure, 6, (some .int), 8, 2, 1, 22, 3),
  (yX8_hear, cX8_hear, 4, (some .int), 8, 3, 2, 43, 99),
  (yX8_gales, cX8_gales, 2, (some .int), 8, 1, 4, 93, 99),
  (yX8_finds, cX8_finds, 5, none, 8, 0, 3, 69, 99),
  (yX8_isHeard, cX8_isHeard, 4, (some .boolean), 8, 1, 2, 46, 99),
  (yX8_wasAt, cX8_wasAt, 5, (some .int), 8, 2, 1, 22, 99),
  (yX8_listen, cX8_listen, 5, (some .int), 8, 0, 4, 94, 99),
  (yX8_alike, cX8_alike, 6, (some .int), 8, 1, 3, 69, 99),
  (yX8_whoAt, cX8_whoAt, 4, (some .int), 8, 2, 2, 46, 99),
  (yX8_write, cX8_write, 3, (some .int), 8, 2, 2, 43, 99),
  (yX8_judge, cX8_judge, 2, (some .int), 8, 0, 1, 21, 99),
  (yX8_tear, cX8_tear, 2, (some .int), 8, 0, 0, 0, 99),
  (yX8_seed, cX8_seed, 3, (some .int), 8, 1, 0, 0, 99),
  (yX8_keep, cX8_keep, 2, (some .int), 8, 1, 1, 24, 99),
  (yX8_goBack, cX8_goBack, 2, (some .int), 8, 1, 1, 24, 99)]
def mtab : List MT := mtab_0 ++ (mtab_1 ++ (mtab_2 ++ (mtab_3 ++ (mtab_4 ++ (mtab_5 ++ (mtab_6 ++ (mtab_7 ++ (mtab_8 ++ (mtab_9 ++ (mtab_10 ++ (mtab_11)))))))))))
def mt0 : MT := (yX7_init, cX7_init, 3, none, 7, 0, 3, 65, 99)
def mt (k : Nat) : MT := mtab.getD k mt0
/-- name, bytes, locals, answer, own class, parameters, frames, words of locals, place of a long -/
def my (k : Nat) : MethodName := (mt k).1
def mb (k : Nat) : ByteArray := (mt k).2.1
def mL (k : Nat) : Nat := (mt k).2.2.1
def mr (k : Nat) : Option FieldType := (mt k).2.2.2.1
def mo (k : Nat) : Nat := (mt k).2.2.2.2.1
def mn (k : Nat) : Nat := (mt k).2.2.2.2.2.1
def rf (k : Nat) : Nat := (mt k).2.2.2.2.2.2.1
def rl (k : Nat) : Nat := (mt k).2.2.2.2.2.2.2.1
def ll (k : Nat) : Nat := (mt k).2.2.2.2.2.2.2.2
def ftab : List ((Nat × Nat) × Nat × Nat) := [((4, 27), 4, 0), ((6, 73), 4, 0), ((7, 107), 4, 0), ((4, 31), 4, 1), ((5, 54), 4, 1), ((7, 101), 4, 1), ((6, 83), 4, 1), ((4, 34), 4, 2), ((5, 62), 4, 2), ((1, 41), 4, 2), ((7, 110), 4, 2), ((6, 92), 4, 2), ((4, 9), 4, 3), ((6, 69), 4, 3), ((4, 15), 4, 4), ((6, 86), 4, 4), ((7, 152), 4, 4), ((5, 99), 4, 4), ((4, 18), 4, 5), ((5, 59), 4, 5), ((6, 89), 4, 5), ((4, 21), 4, 6), ((6, 95), 4, 6), ((7, 175), 4, 6), ((5, 102), 4, 6), ((4, 24), 4, 7), ((6, 98), 4, 7), ((7, 178), 4, 7), ((5, 112), 4, 7), ((6, 9), 6, 0), ((6, 15), 6, 1), ((7, 76), 6, 1), ((6, 19), 6, 2), ((7, 104), 6, 2), ((6, 22), 6, 3), ((6, 25), 6, 4), ((6, 28), 6, 5), ((5, 31), 5, 0), ((1, 35), 5, 0), ((7, 84), 5, 0), ((5, 35), 5, 1), ((7, 113), 5, 1), ((5, 39), 5, 2), ((7, 116), 5, 2), ((5, 42), 5, 3), ((7, 119), 5, 3), ((5, 45), 5, 4), ((7, 144), 5, 4), ((5, 48), 5, 5), ((5, 51), 5, 6), ((7, 129), 5, 6), ((5, 9), 5, 7), ((0, 22), 5, 7), ((7, 156), 5, 7), ((5, 15), 5, 8), ((1, 58), 5, 8), ((7, 163), 5, 8), ((5, 18), 5, 9), ((7, 166), 5, 9), ((5, 21), 5, 10), ((7, 169), 5, 10), ((5, 24), 5, 11), ((3, 11), 3, 0), ((3, 17), 3, 1), ((3, 21), 3, 2), ((7, 147), 3, 2), ((2, 22), 2, 0), ((7, 309), 2, 0), ((2, 7), 2, 1), ((7, 312), 2, 1), ((2, 13), 2, 2), ((7, 93), 2, 2), ((1, 9), 1, 0), ((1, 15), 1, 1), ((1, 18), 1, 2), ((1, 22), 1, 3), ((7, 97), 1, 3), ((1, 26), 1, 4), ((7, 295), 1, 4), ((1, 29), 1, 5), ((7, 292), 1, 5), ((1, 32), 1, 6), ((0, 9), 0, 0), ((0, 15), 0, 1), ((0, 18), 0, 2), ((7, 100), 0, 2), ((7, 21), 7, 0), ((7, 10), 7, 1), ((7, 28), 7, 2), ((7, 32), 7, 3), ((7, 38), 7, 4), ((7, 44), 7, 5), ((7, 52), 7, 6), ((7, 59), 7, 7), ((7, 63), 7, 8), ((8, 7), 8, 0), ((8, 86), 8, 1), ((8, 13), 8, 2), ((8, 17), 8, 3), ((8, 20), 8, 4), ((8, 23), 8, 5), ((8, 26), 8, 6), ((8, 29), 8, 7), ((8, 32), 8, 8), ((8, 35), 8, 9), ((8, 38), 8, 10), ((8, 41), 8, 11), ((8, 44), 8, 12), ((8, 47), 8, 13), ((8, 50), 8, 14), ((8, 53), 8, 15), ((8, 56), 8, 16), ((8, 59), 8, 17), ((8, 129), 8, 18), ((8, 62), 8, 19), ((8, 65), 8, 20), ((8, 68), 8, 21), ((8, 219), 8, 22), ((8, 72), 8, 23), ((8, 132), 8, 24), ((8, 75), 8, 25), ((8, 135), 8, 26), ((8, 90), 8, 27), ((8, 93), 8, 28), ((8, 235), 8, 29), ((8, 238), 8, 30), ((8, 241), 8, 31), ((8, 244), 8, 32), ((8, 78), 8, 33), ((8, 263), 8, 34)]
/-- 0 virtual, 1 <init>, 2 static, 3 <init> of a nest mate, 4 static of a nest mate, 5 Object.<init>, 6 arraycopy, 7 Math.min, 8 Math.max -/
def ctab : List ((Nat × Nat) × Nat × Nat) := [((7, 1), 5, 0), ((4, 3), 5, 0), ((7, 18), 1, 2), ((6, 3), 5, 0), ((7, 27), 1, 3), ((5, 3), 5, 0), ((5, 27), 0, 4), ((7, 37), 1, 5), ((3, 3), 5, 0), ((3, 24), 1, 3), ((7, 48), 1, 6), ((2, 1), 5, 0), ((2, 19), 1, 3), ((1, 3), 5, 0), ((0, 3), 5, 0), ((7, 67), 2, 10), ((7, 72), 0, 11), ((7, 80), 0, 13), ((6, 32), 0, 14), ((6, 37), 0, 15), ((6, 40), 0, 16), ((6, 43), 0, 17), ((6, 47), 0, 18), ((6, 51), 0, 19), ((6, 61), 0, 20), ((6, 65), 0, 21), ((6, 101), 2, 22), ((6, 76), 0, 23), ((6, 80), 0, 24), ((6, 55), 0, 25), ((6, 58), 0, 26), ((7, 87), 0, 4), ((7, 90), 0, 27), ((7, 122), 0, 30), ((5, 125), 0, 31), ((7, 126), 0, 32), ((7, 132), 0, 33), ((5, 95), 0, 34), ((5, 122), 0, 35), ((7, 135), 0, 37), ((7, 138), 0, 38), ((5, 128), 0, 39), ((5, 89), 7, 0), ((7, 141), 0, 39), ((7, 148), 0, 41), ((7, 159), 0, 42), ((7, 172), 0, 44), ((7, 181), 0, 45), ((7, 184), 0, 18), ((7, 188), 0, 47), ((7, 192), 0, 49), ((7, 196), 0, 51), ((7, 199), 0, 52), ((3, 27), 0, 53), ((5, 65), 6, 0), ((3, 31), 7, 0), ((7, 203), 0, 54), ((5, 74), 0, 47), ((5, 78), 0, 55), ((5, 82), 0, 56), ((5, 86), 0, 57), ((5, 105), 0, 58), ((5, 109), 0, 59), ((5, 115), 0, 60), ((7, 206), 0, 62), ((7, 210), 0, 63), ((7, 214), 0, 65), ((7, 217), 0, 66), ((7, 220), 0, 35), ((7, 223), 0, 60), ((7, 227), 0, 55), ((7, 230), 0, 70), ((7, 233), 0, 71), ((7, 236), 0, 73), ((7, 322), 0, 74), ((7, 239), 0, 76), ((7, 243), 0, 78), ((7, 246), 0, 53), ((7, 325), 0, 79), ((5, 71), 0, 54), ((7, 249), 0, 56), ((7, 252), 0, 81), ((7, 255), 0, 82), ((7, 328), 2, 36), ((7, 258), 0, 31), ((7, 261), 0, 86), ((7, 264), 2, 88), ((7, 269), 0, 89), ((7, 272), 0, 91), ((7, 276), 7, 0), ((7, 285), 0, 96), ((7, 289), 0, 98), ((1, 46), 0, 45), ((1, 50), 0, 99), ((1, 54), 2, 100), ((7, 298), 0, 102), ((1, 61), 8, 0), ((7, 302), 0, 104), ((7, 305), 0, 106), ((8, 1), 5, 0), ((8, 81), 2, 113), ((8, 100), 0, 115), ((8, 96), 0, 116), ((8, 123), 0, 117), ((8, 114), 0, 118), ((8, 103), 0, 119), ((8, 107), 0, 120), ((8, 111), 0, 121), ((8, 117), 0, 122), ((8, 120), 0, 123), ((8, 126), 0, 124), ((8, 152), 0, 127), ((8, 155), 0, 128), ((8, 138), 0, 129), ((8, 142), 0, 130), ((8, 158), 0, 131), ((8, 146), 0, 132), ((8, 161), 0, 133), ((8, 149), 0, 134), ((8, 164), 0, 136), ((8, 168), 0, 138), ((8, 171), 0, 140), ((8, 194), 0, 143), ((8, 190), 2, 144), ((8, 197), 0, 145), ((8, 176), 2, 146), ((8, 187), 0, 147), ((8, 179), 2, 148), ((8, 183), 2, 149), ((8, 201), 0, 151), ((8, 205), 0, 152), ((8, 209), 0, 154), ((8, 212), 2, 158), ((8, 216), 2, 159), ((8, 232), 0, 161), ((8, 229), 0, 162), ((8, 250), 0, 165), ((8, 247), 2, 166), ((8, 253), 2, 172), ((8, 269), 0, 179), ((8, 266), 0, 180), ((8, 260), 0, 181), ((8, 275), 0, 183), ((8, 272), 0, 184), ((7, 9), 3, 1), ((7, 51), 3, 7), ((7, 58), 3, 8), ((6, 104), 4, 10), ((5, 118), 4, 36)]
def ktab : List ((Nat × Nat) × Int32) := [((7, 71), -1000000002), ((7, 79), -1000000004), ((7, 151), -1000000001), ((7, 191), -1000000003), ((7, 321), 65536), ((9, 265), 1431655765), ((9, 266), 858993459), ((9, 267), 252645135), ((8, 85), -1000000002), ((8, 89), -1000000004), ((8, 167), -1000000001), ((8, 175), -1000000003), ((8, 228), 65536)]
def ktabL : List ((Nat × Nat) × Int64) := [((7, 315), 1103515245), ((7, 317), 12345), ((7, 319), 2147483647), ((7, 281), 1000000000), ((7, 283), 100), ((8, 222), 1103515245), ((8, 224), 12345), ((8, 226), 2147483648), ((8, 256), 1000000000), ((8, 258), 100)]
def ntab : List ((Nat × Nat) × Nat) := [((2, 17), 5), ((3, 9), 5), ((7, 7), 4), ((7, 16), 6), ((7, 25), 5), ((7, 35), 3), ((7, 42), 2), ((7, 49), 1), ((7, 56), 0)]
def ptab : List ((Nat × Nat) × Nat) := [((3, 9), 3), ((7, 42), 4)]
def imL : List Nat := [0, 1, 2, 3, 4, 5, 6, 7, 8, 9, 11, 12, 13, 14, 15, 16, 17, 18, 19, 20, 21, 23, 24, 25, 26, 27, 28, 29, 30, 31, 32, 33, 34, 35, 37, 38, 39, 40, 41, 42, 43, 44, 45, 46, 47, 48, 49, 50, 51, 52, 53, 54, 55, 56, 57, 58, 59, 60, 61, 62, 63, 64, 65, 66, 67, 68, 69, 70, 71, 72, 73, 74, 75, 76, 77, 78, 79, 80, 81, 82, 83, 84, 85, 86, 87, 89, 90, 91, 92, 93, 94, 95, 96, 97, 98, 99, 101, 102, 103, 104, 105, 106, 107, 108, 109, 110, 111, 112, 114, 115, 116, 117, 118, 119, 120, 121, 122, 123, 124, 125, 126, 127, 128, 129, 130, 131, 132, 133, 134, 135, 136, 137, 138, 139, 140, 141, 142, 143, 145, 147, 150, 151, 152, 153, 154, 155, 156, 157, 160, 161, 162, 163, 164, 165, 167, 168, 169, 170, 171, 173, 174, 175, 176, 177, 178, 179, 180, 181, 182, 183, 184, 185, 186, 187, 188, 189, 190]
def smL : List Nat := [10, 22, 36, 88, 100, 113, 144, 146, 148, 149, 158, 159, 166, 172]
def seL : List Nat := [4, 9, 11, 12, 13, 14, 18, 27, 28, 29, 30, 31, 32, 33, 34, 35, 37, 38, 39, 40, 41, 42, 43, 44, 45, 46, 47, 48, 49, 50, 52, 53, 54, 55, 56, 60, 61, 62, 63, 64, 65, 66, 67, 68, 69, 70, 71, 72, 75, 76, 77, 79, 80, 83, 84, 85, 87, 89, 90, 92, 93, 94, 95, 96, 97, 98, 101, 102, 103, 104, 105, 106, 107, 108, 109, 110, 112, 114, 125, 126, 135, 137, 139, 141, 142, 150, 153, 155, 156, 157, 160, 163, 164, 167, 168, 169, 170, 171, 173, 174, 175, 176, 177, 178, 182, 185, 186, 187, 188, 189, 190]
def prL : List Nat := [15, 16, 17, 19, 20, 21, 23, 24, 25, 26, 51, 57, 58, 59, 73, 74, 78, 81, 82, 86, 91, 99, 115, 116, 117, 118, 119, 120, 121, 122, 123, 124, 127, 128, 129, 130, 131, 132, 133, 134, 136, 138, 140, 143, 145, 147, 151, 152, 154, 161, 162, 165, 179, 180, 181, 183, 184]
abbrev mX7_init : Nat := 0
abbrev mX4_init : Nat := 1
abbrev mX6_init : Nat := 2
abbrev mX5_init : Nat := 3
abbrev mX5_begin : Nat := 4
abbrev mX3_init : Nat := 5
abbrev mX2_init : Nat := 6
abbrev mX1_init : Nat := 7
abbrev mX0_init : Nat := 8
abbrev mX7_feed : Nat := 9
abbrev mX7_isOutside : Nat := 10
abbrev mX6_append : Nat := 11
abbrev mX7_row : Nat := 12
abbrev mX6_readInto : Nat := 13
abbrev mX4_wipe : Nat := 14
abbrev mX6_skipBlanks : Nat := 15
abbrev mX6_readClause : Nat := 16
abbrev mX6_letterHere : Nat := 17
abbrev mX4_isTold : Nat := 18
abbrev mX6_readCatches : Nat := 19
abbrev mX6_fail : Nat := 20
abbrev mX6_readNumber : Nat := 21
abbrev mX6_isFigure : Nat := 22
abbrev mX6_isNext : Nat := 23
abbrev mX6_readEnd : Nat := 24
abbrev mX6_readHouse : Nat := 25
abbrev mX6_readGull : Nat := 26
abbrev mX3_forget : Nat := 27
abbrev mX7_fault : Nat := 28
abbrev mX7_told : Nat := 29
abbrev mX5_heldSet : Nat := 30
abbrev mX5_gullHeldSet : Nat := 31
abbrev mX5_freeSet : Nat := 32
abbrev mX5_debtOfHeld : Nat := 33
abbrev mX5_isHeld : Nat := 34
abbrev mX5_isEmpty : Nat := 35
abbrev mX7_isIn : Nat := 36
abbrev mX5_astray : Nat := 37
abbrev mX5_gap : Nat := 38
abbrev mX5_worst : Nat := 39
abbrev mX7_house : Nat := 40
abbrev mX4_isHouse : Nat := 41
abbrev mX5_standing : Nat := 42
abbrev mX7_gull : Nat := 43
abbrev mX4_isGull : Nat := 44
abbrev mX5_houseOf : Nat := 45
abbrev mX7_ahead : Nat := 46
abbrev mX4_catchOf : Nat := 47
abbrev mX7_logged : Nat := 48
abbrev mX5_cryAt : Nat := 49
abbrev mX7_day : Nat := 50
abbrev mX7_refusalOfDays : Nat := 51
abbrev mX3_remember : Nat := 52
abbrev mX5_copyFrom : Nat := 53
abbrev mX5_passDay : Nat := 54
abbrev mX5_addHeads : Nat := 55
abbrev mX5_firstTurn : Nat := 56
abbrev mX5_takeTurn : Nat := 57
abbrev mX5_cryOut : Nat := 58
abbrev mX5_countGoodDay : Nat := 59
abbrev mX5_evict : Nat := 60
abbrev mX7_pay : Nat := 61
abbrev mX5_canPay : Nat := 62
abbrev mX5_payByHand : Nat := 63
abbrev mX7_bread : Nat := 64
abbrev mX5_eatsBread : Nat := 65
abbrev mX5_payByBread : Nat := 66
abbrev mX7_stone : Nat := 67
abbrev mX7_lend : Nat := 68
abbrev mX7_swap : Nat := 69
abbrev mX5_canExchange : Nat := 70
abbrev mX5_exchange : Nat := 71
abbrev mX7_drift : Nat := 72
abbrev mX7_drawDeed : Nat := 73
abbrev mX7_draw : Nat := 74
abbrev mX7_undo : Nat := 75
abbrev mX3_bringBack : Nat := 76
abbrev mX7_owes : Nat := 77
abbrev mX7_tryDays : Nat := 78
abbrev mX5_passDays : Nat := 79
abbrev mX7_firstOut : Nat := 80
abbrev mX7_newlyEmpty : Nat := 81
abbrev mX7_firstInTurn : Nat := 82
abbrev mX7_outBy : Nat := 83
abbrev mX7_redeemedBy : Nat := 84
abbrev mX7_loan : Nat := 85
abbrev mX7_loanDoes : Nat := 86
abbrev mX7_clear : Nat := 87
abbrev mJ6_bitCount_0f7a4 : Nat := 88
abbrev mX5_canClear : Nat := 89
abbrev mX7_bestSwap : Nat := 90
abbrev mX7_putOutBySwap : Nat := 91
abbrev mX7_home : Nat := 92
abbrev mX7_mostBread : Nat := 93
abbrev mX7_sure : Nat := 94
abbrev mX7_hear : Nat := 95
abbrev mX1_take : Nat := 96
abbrev mX7_gales : Nat := 97
abbrev mX1_findGales : Nat := 98
abbrev mX1_addIfFitting : Nat := 99
abbrev mX1_gullThen : Nat := 100
abbrev mX7_listen : Nat := 101
abbrev mX1_greatestPart : Nat := 102
abbrev mX7_write : Nat := 103
abbrev mX0_enter : Nat := 104
abbrev mX7_judge : Nat := 105
abbrev mX0_firstWrong : Nat := 106
abbrev mX7_tear : Nat := 107
abbrev mX7_seed : Nat := 108
abbrev mX7_keep : Nat := 109
abbrev mX7_goBack : Nat := 110
abbrev mX8_init : Nat := 111
abbrev mX8_feed : Nat := 112
abbrev mX8_in : Nat := 113
abbrev mX8_row : Nat := 114
abbrev mX8_skips : Nat := 115
abbrev mX8_look : Nat := 116
abbrev mX8_reads : Nat := 117
abbrev mX8_readsCatches : Nat := 118
abbrev mX8_fails : Nat := 119
abbrev mX8_number : Nat := 120
abbrev mX8_word : Nat := 121
abbrev mX8_readsHouse : Nat := 122
abbrev mX8_readsGull : Nat := 123
abbrev mX8_takesAll : Nat := 124
abbrev mX8_fault : Nat := 125
abbrev mX8_told : Nat := 126
abbrev mX8_housesSo : Nat := 127
abbrev mX8_debts : Nat := 128
abbrev mX8_isHeld : Nat := 129
abbrev mX8_debtOf : Nat := 130
abbrev mX8_astray : Nat := 131
abbrev mX8_holds : Nat := 132
abbrev mX8_gap : Nat := 133
abbrev mX8_worst : Nat := 134
abbrev mX8_house : Nat := 135
abbrev mX8_isHouse : Nat := 136
abbrev mX8_gull : Nat := 137
abbrev mX8_isGull : Nat := 138
abbrev mX8_ahead : Nat := 139
abbrev mX8_isTold : Nat := 140
abbrev mX8_logged : Nat := 141
abbrev mX8_day : Nat := 142
abbrev mX8_notes : Nat := 143
abbrev mX8_copies : Nat := 144
abbrev mX8_passes : Nat := 145
abbrev mX8_lesser : Nat := 146
abbrev mX8_pays : Nat := 147
abbrev mX8_cries : Nat := 148
abbrev mX8_putsOut : Nat := 149
abbrev mX8_pay : Nat := 150
abbrev mX8_canPay : Nat := 151
abbrev mX8_paysBy : Nat := 152
abbrev mX8_bread : Nat := 153
abbrev mX8_isByBread : Nat := 154
abbrev mX8_stone : Nat := 155
abbrev mX8_lend : Nat := 156
abbrev mX8_swap : Nat := 157
abbrev mX8_canSwap : Nat := 158
abbrev mX8_swaps : Nat := 159
abbrev mX8_drift : Nat := 160
abbrev mX8_draws : Nat := 161
abbrev mX8_draw : Nat := 162
abbrev mX8_undo : Nat := 163
abbrev mX8_owes : Nat := 164
abbrev mX8_goesOn : Nat := 165
abbrev mX8_has : Nat := 166
abbrev mX8_firstOut : Nat := 167
abbrev mX8_outBy : Nat := 168
abbrev mX8_redeemedBy : Nat := 169
abbrev mX8_loan : Nat := 170
abbrev mX8_clear : Nat := 171
abbrev mX8_ones : Nat := 172
abbrev mX8_bestSwap : Nat := 173
abbrev mX8_home : Nat := 174
abbrev mX8_mostBread : Nat := 175
abbrev mX8_sure : Nat := 176
abbrev mX8_hear : Nat := 177
abbrev mX8_gales : Nat := 178
abbrev mX8_finds : Nat := 179
abbrev mX8_isHeard : Nat := 180
abbrev mX8_wasAt : Nat := 181
abbrev mX8_listen : Nat := 182
abbrev mX8_alike : Nat := 183
abbrev mX8_whoAt : Nat := 184
abbrev mX8_write : Nat := 185
abbrev mX8_judge : Nat := 186
abbrev mX8_tear : Nat := 187
abbrev mX8_seed : Nat := 188
abbrev mX8_keep : Nat := 189
abbrev mX8_goBack : Nat := 190
