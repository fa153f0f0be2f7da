-- the code words, by their places in the tables
theorem icX7_init : Cond.code yX7_init cX7_init 3 none ∈ tables_1_1 := List.mem_of_getElem? (i := 17) rfl
theorem icX4_init : Cond.code yX4_init cX4_init 1 none ∈ tables_1_1 := List.mem_of_getElem? (i := 25) rfl
theorem icX6_init : Cond.code yX6_init cX6_init 2 none ∈ tables_1_1 := List.mem_of_getElem? (i := 78) rfl
theorem icX5_init : Cond.code yX5_init cX5_init 2 none ∈ tables_1_1 := List.mem_of_getElem? (i := 106) rfl
theorem icX5_begin : Cond.code yX5_begin cX5_begin 3 none ∈ tables_1_1 := List.mem_of_getElem? (i := 111) rfl
theorem icX3_init : Cond.code yX3_init cX3_init 3 none ∈ tables_1_1 := List.mem_of_getElem? (i := 166) rfl
theorem icX2_init : Cond.code yX2_init cX2_init 2 none ∈ tables_1_1 := List.mem_of_getElem? (i := 187) rfl
theorem icX1_init : Cond.code yX1_init cX1_init 1 none ∈ tables_1_1 := List.mem_of_getElem? (i := 208) rfl
theorem icX0_init : Cond.code yX0_init cX0_init 1 none ∈ tables_1_2 := List.mem_of_getElem? (i := 0) rfl
theorem icX7_feed : Cond.code yX7_feed cX7_feed 2 (some .int) ∈ tables_1_2 := List.mem_of_getElem? (i := 44) rfl
theorem icX7_isOutside : Cond.code yX7_isOutside cX7_isOutside 3 (some .boolean) ∈ tables_1_2 := List.mem_of_getElem? (i := 47) rfl
theorem icX6_append : Cond.code yX6_append cX6_append 2 (some .boolean) ∈ tables_1_2 := List.mem_of_getElem? (i := 52) rfl
theorem icX7_row : Cond.code yX7_row cX7_row 4 (some .int) ∈ tables_1_2 := List.mem_of_getElem? (i := 57) rfl
theorem icX6_readInto : Cond.code yX6_readInto cX6_readInto 3 (some .int) ∈ tables_1_2 := List.mem_of_getElem? (i := 61) rfl
theorem icX4_wipe : Cond.code yX4_wipe cX4_wipe 1 none ∈ tables_1_2 := List.mem_of_getElem? (i := 65) rfl
theorem icX6_skipBlanks : Cond.code yX6_skipBlanks cX6_skipBlanks 1 none ∈ tables_1_2 := List.mem_of_getElem? (i := 69) rfl
theorem icX6_readClause : Cond.code yX6_readClause cX6_readClause 3 none ∈ tables_1_2 := List.mem_of_getElem? (i := 73) rfl
theorem icX6_letterHere : Cond.code yX6_letterHere cX6_letterHere 1 (some .int) ∈ tables_1_2 := List.mem_of_getElem? (i := 77) rfl
theorem icX4_isTold : Cond.code yX4_isTold cX4_isTold 1 (some .boolean) ∈ tables_1_2 := List.mem_of_getElem? (i := 81) rfl
theorem icX6_readCatches : Cond.code yX6_readCatches cX6_readCatches 5 none ∈ tables_1_2 := List.mem_of_getElem? (i := 85) rfl
theorem icX6_fail : Cond.code yX6_fail cX6_fail 3 none ∈ tables_1_2 := List.mem_of_getElem? (i := 89) rfl
theorem icX6_readNumber : Cond.code yX6_readNumber cX6_readNumber 5 (some .int) ∈ tables_1_2 := List.mem_of_getElem? (i := 93) rfl
theorem icX6_isFigure : Cond.code yX6_isFigure cX6_isFigure 1 (some .boolean) ∈ tables_1_2 := List.mem_of_getElem? (i := 96) rfl
theorem icX6_isNext : Cond.code yX6_isNext cX6_isNext 2 (some .boolean) ∈ tables_1_2 := List.mem_of_getElem? (i := 101) rfl
theorem icX6_readEnd : Cond.code yX6_readEnd cX6_readEnd 1 none ∈ tables_1_2 := List.mem_of_getElem? (i := 105) rfl
theorem icX6_readHouse : Cond.code yX6_readHouse cX6_readHouse 2 none ∈ tables_1_2 := List.mem_of_getElem? (i := 109) rfl
theorem icX6_readGull : Cond.code yX6_readGull cX6_readGull 2 none ∈ tables_1_2 := List.mem_of_getElem? (i := 113) rfl
theorem icX3_forget : Cond.code yX3_forget cX3_forget 1 none ∈ tables_1_2 := List.mem_of_getElem? (i := 118) rfl
theorem icX7_fault : Cond.code yX7_fault cX7_fault 1 (some .int) ∈ tables_1_2 := List.mem_of_getElem? (i := 122) rfl
theorem icX7_told : Cond.code yX7_told cX7_told 2 (some .int) ∈ tables_1_2 := List.mem_of_getElem? (i := 126) rfl
theorem icX5_heldSet : Cond.code yX5_heldSet cX5_heldSet 1 (some .int) ∈ tables_1_2 := List.mem_of_getElem? (i := 130) rfl
theorem icX5_gullHeldSet : Cond.code yX5_gullHeldSet cX5_gullHeldSet 3 (some .int) ∈ tables_1_2 := List.mem_of_getElem? (i := 134) rfl
theorem icX5_freeSet : Cond.code yX5_freeSet cX5_freeSet 1 (some .int) ∈ tables_1_2 := List.mem_of_getElem? (i := 138) rfl
theorem icX5_debtOfHeld : Cond.code yX5_debtOfHeld cX5_debtOfHeld 3 (some .int) ∈ tables_1_2 := List.mem_of_getElem? (i := 142) rfl
theorem icX5_isHeld : Cond.code yX5_isHeld cX5_isHeld 2 (some .boolean) ∈ tables_1_2 := List.mem_of_getElem? (i := 146) rfl
theorem icX5_isEmpty : Cond.code yX5_isEmpty cX5_isEmpty 2 (some .boolean) ∈ tables_1_2 := List.mem_of_getElem? (i := 150) rfl
theorem icX7_isIn : Cond.code yX7_isIn cX7_isIn 2 (some .boolean) ∈ tables_1_2 := List.mem_of_getElem? (i := 153) rfl
theorem icX5_astray : Cond.code yX5_astray cX5_astray 3 (some .int) ∈ tables_1_2 := List.mem_of_getElem? (i := 157) rfl
theorem icX5_gap : Cond.code yX5_gap cX5_gap 4 (some .int) ∈ tables_1_2 := List.mem_of_getElem? (i := 161) rfl
theorem icX5_worst : Cond.code yX5_worst cX5_worst 3 (some .int) ∈ tables_1_2 := List.mem_of_getElem? (i := 165) rfl
theorem icX7_house : Cond.code yX7_house cX7_house 3 (some .int) ∈ tables_1_2 := List.mem_of_getElem? (i := 173) rfl
theorem icX4_isHouse : Cond.code yX4_isHouse cX4_isHouse 2 (some .boolean) ∈ tables_1_2 := List.mem_of_getElem? (i := 177) rfl
theorem icX5_standing : Cond.code yX5_standing cX5_standing 2 (some .int) ∈ tables_1_2 := List.mem_of_getElem? (i := 182) rfl
theorem icX7_gull : Cond.code yX7_gull cX7_gull 3 (some .int) ∈ tables_1_2 := List.mem_of_getElem? (i := 186) rfl
theorem icX4_isGull : Cond.code yX4_isGull cX4_isGull 2 (some .boolean) ∈ tables_1_2 := List.mem_of_getElem? (i := 190) rfl
theorem icX5_houseOf : Cond.code yX5_houseOf cX5_houseOf 3 (some .int) ∈ tables_1_2 := List.mem_of_getElem? (i := 194) rfl
theorem icX7_ahead : Cond.code yX7_ahead cX7_ahead 2 (some .int) ∈ tables_1_2 := List.mem_of_getElem? (i := 198) rfl
theorem icX4_catchOf : Cond.code yX4_catchOf cX4_catchOf 2 (some .int) ∈ tables_1_2 := List.mem_of_getElem? (i := 203) rfl
theorem icX7_logged : Cond.code yX7_logged cX7_logged 3 (some .int) ∈ tables_1_2 := List.mem_of_getElem? (i := 208) rfl
theorem icX5_cryAt : Cond.code yX5_cryAt cX5_cryAt 4 (some .int) ∈ tables_1_2 := List.mem_of_getElem? (i := 212) rfl
theorem icX7_day : Cond.code yX7_day cX7_day 4 (some .int) ∈ tables_1_2 := List.mem_of_getElem? (i := 216) rfl
theorem icX7_refusalOfDays : Cond.code yX7_refusalOfDays cX7_refusalOfDays 2 (some .int) ∈ tables_1_2 := List.mem_of_getElem? (i := 220) rfl
theorem icX3_remember : Cond.code yX3_remember cX3_remember 2 none ∈ tables_1_2 := List.mem_of_getElem? (i := 224) rfl
theorem icX5_copyFrom : Cond.code yX5_copyFrom cX5_copyFrom 2 none ∈ tables_1_2 := List.mem_of_getElem? (i := 228) rfl
theorem icX5_passDay : Cond.code yX5_passDay cX5_passDay 4 none ∈ tables_1_2 := List.mem_of_getElem? (i := 236) rfl
theorem icX5_addHeads : Cond.code yX5_addHeads cX5_addHeads 2 none ∈ tables_1_3 := List.mem_of_getElem? (i := 1) rfl
theorem icX5_firstTurn : Cond.code yX5_firstTurn cX5_firstTurn 1 (some .int) ∈ tables_1_3 := List.mem_of_getElem? (i := 5) rfl
theorem icX5_takeTurn : Cond.code yX5_takeTurn cX5_takeTurn 6 none ∈ tables_1_3 := List.mem_of_getElem? (i := 9) rfl
theorem icX5_cryOut : Cond.code yX5_cryOut cX5_cryOut 3 none ∈ tables_1_3 := List.mem_of_getElem? (i := 13) rfl
theorem icX5_countGoodDay : Cond.code yX5_countGoodDay cX5_countGoodDay 2 none ∈ tables_1_3 := List.mem_of_getElem? (i := 17) rfl
theorem icX5_evict : Cond.code yX5_evict cX5_evict 2 none ∈ tables_1_3 := List.mem_of_getElem? (i := 21) rfl
theorem icX7_pay : Cond.code yX7_pay cX7_pay 3 (some .int) ∈ tables_1_3 := List.mem_of_getElem? (i := 25) rfl
theorem icX5_canPay : Cond.code yX5_canPay cX5_canPay 3 (some .boolean) ∈ tables_1_3 := List.mem_of_getElem? (i := 29) rfl
theorem icX5_payByHand : Cond.code yX5_payByHand cX5_payByHand 3 none ∈ tables_1_3 := List.mem_of_getElem? (i := 33) rfl
theorem icX7_bread : Cond.code yX7_bread cX7_bread 3 (some .int) ∈ tables_1_3 := List.mem_of_getElem? (i := 37) rfl
theorem icX5_eatsBread : Cond.code yX5_eatsBread cX5_eatsBread 2 (some .boolean) ∈ tables_1_3 := List.mem_of_getElem? (i := 41) rfl
theorem icX5_payByBread : Cond.code yX5_payByBread cX5_payByBread 3 none ∈ tables_1_3 := List.mem_of_getElem? (i := 45) rfl
theorem icX7_stone : Cond.code yX7_stone cX7_stone 2 (some .int) ∈ tables_1_3 := List.mem_of_getElem? (i := 49) rfl
theorem icX7_lend : Cond.code yX7_lend cX7_lend 2 (some .int) ∈ tables_1_3 := List.mem_of_getElem? (i := 55) rfl
theorem icX7_swap : Cond.code yX7_swap cX7_swap 3 (some .int) ∈ tables_1_3 := List.mem_of_getElem? (i := 60) rfl
theorem icX5_canExchange : Cond.code yX5_canExchange cX5_canExchange 3 (some .boolean) ∈ tables_1_3 := List.mem_of_getElem? (i := 64) rfl
theorem icX5_exchange : Cond.code yX5_exchange cX5_exchange 4 none ∈ tables_1_3 := List.mem_of_getElem? (i := 68) rfl
theorem icX7_drift : Cond.code yX7_drift cX7_drift 4 (some .int) ∈ tables_1_3 := List.mem_of_getElem? (i := 72) rfl
theorem icX7_drawDeed : Cond.code yX7_drawDeed cX7_drawDeed 5 none ∈ tables_1_3 := List.mem_of_getElem? (i := 76) rfl
theorem icX7_draw : Cond.code yX7_draw cX7_draw 2 (some .int) ∈ tables_1_3 := List.mem_of_getElem? (i := 80) rfl
theorem icX7_undo : Cond.code yX7_undo cX7_undo 2 (some .int) ∈ tables_1_3 := List.mem_of_getElem? (i := 88) rfl
theorem icX3_bringBack : Cond.code yX3_bringBack cX3_bringBack 3 (some .boolean) ∈ tables_1_3 := List.mem_of_getElem? (i := 92) rfl
theorem icX7_owes : Cond.code yX7_owes cX7_owes 3 (some .int) ∈ tables_1_3 := List.mem_of_getElem? (i := 96) rfl
theorem icX7_tryDays : Cond.code yX7_tryDays cX7_tryDays 2 none ∈ tables_1_3 := List.mem_of_getElem? (i := 100) rfl
theorem icX5_passDays : Cond.code yX5_passDays cX5_passDays 3 none ∈ tables_1_3 := List.mem_of_getElem? (i := 105) rfl
theorem icX7_firstOut : Cond.code yX7_firstOut cX7_firstOut 4 (some .int) ∈ tables_1_3 := List.mem_of_getElem? (i := 110) rfl
theorem icX7_newlyEmpty : Cond.code yX7_newlyEmpty cX7_newlyEmpty 1 (some .int) ∈ tables_1_3 := List.mem_of_getElem? (i := 115) rfl
theorem icX7_firstInTurn : Cond.code yX7_firstInTurn cX7_firstInTurn 6 (some .int) ∈ tables_1_3 := List.mem_of_getElem? (i := 119) rfl
theorem icX7_outBy : Cond.code yX7_outBy cX7_outBy 2 (some .int) ∈ tables_1_3 := List.mem_of_getElem? (i := 124) rfl
theorem icX7_redeemedBy : Cond.code yX7_redeemedBy cX7_redeemedBy 2 (some .int) ∈ tables_1_3 := List.mem_of_getElem? (i := 128) rfl
theorem icX7_loan : Cond.code yX7_loan cX7_loan 6 (some .int) ∈ tables_1_3 := List.mem_of_getElem? (i := 133) rfl
theorem icX7_loanDoes : Cond.code yX7_loanDoes cX7_loanDoes 4 (some .boolean) ∈ tables_1_3 := List.mem_of_getElem? (i := 137) rfl
theorem icX7_clear : Cond.code yX7_clear cX7_clear 5 (some .int) ∈ tables_1_3 := List.mem_of_getElem? (i := 141) rfl
theorem icJ6_bitCount_0f7a4 : Cond.code yJ6_bitCount_0f7a4 cJ6_bitCount_0f7a4 1 (some .int) ∈ tables_1_3 := List.mem_of_getElem? (i := 144) rfl
theorem icX5_canClear : Cond.code yX5_canClear cX5_canClear 4 (some .boolean) ∈ tables_1_3 := List.mem_of_getElem? (i := 151) rfl
theorem icX7_bestSwap : Cond.code yX7_bestSwap cX7_bestSwap 8 (some .int) ∈ tables_1_3 := List.mem_of_getElem? (i := 155) rfl
theorem icX7_putOutBySwap : Cond.code yX7_putOutBySwap cX7_putOutBySwap 4 (some .int) ∈ tables_1_3 := List.mem_of_getElem? (i := 159) rfl
theorem icX7_home : Cond.code yX7_home cX7_home 4 (some .int) ∈ tables_1_3 := List.mem_of_getElem? (i := 163) rfl
theorem icX7_mostBread : Cond.code yX7_mostBread cX7_mostBread 2 (some .int) ∈ tables_1_3 := List.mem_of_getElem? (i := 167) rfl
theorem icX7_sure : Cond.code yX7_sure cX7_sure 6 (some .int) ∈ tables_1_3 := List.mem_of_getElem? (i := 172) rfl
theorem icX7_hear : Cond.code yX7_hear cX7_hear 4 (some .int) ∈ tables_1_3 := List.mem_of_getElem? (i := 178) rfl
theorem icX1_take : Cond.code yX1_take cX1_take 4 (some .boolean) ∈ tables_1_3 := List.mem_of_getElem? (i := 182) rfl
theorem icX7_gales : Cond.code yX7_gales cX7_gales 2 (some .int) ∈ tables_1_3 := List.mem_of_getElem? (i := 186) rfl
theorem icX1_findGales : Cond.code yX1_findGales cX1_findGales 4 none ∈ tables_1_3 := List.mem_of_getElem? (i := 190) rfl
theorem icX1_addIfFitting : Cond.code yX1_addIfFitting cX1_addIfFitting 5 none ∈ tables_1_3 := List.mem_of_getElem? (i := 195) rfl
theorem icX1_gullThen : Cond.code yX1_gullThen cX1_gullThen 4 (some .int) ∈ tables_1_3 := List.mem_of_getElem? (i := 198) rfl
theorem icX7_listen : Cond.code yX7_listen cX7_listen 5 (some .int) ∈ tables_1_3 := List.mem_of_getElem? (i := 202) rfl
theorem icX1_greatestPart : Cond.code yX1_greatestPart cX1_greatestPart 6 (some .int) ∈ tables_1_3 := List.mem_of_getElem? (i := 206) rfl
theorem icX7_write : Cond.code yX7_write cX7_write 3 (some .int) ∈ tables_1_3 := List.mem_of_getElem? (i := 213) rfl
theorem icX0_enter : Cond.code yX0_enter cX0_enter 3 (some .boolean) ∈ tables_1_3 := List.mem_of_getElem? (i := 217) rfl
theorem icX7_judge : Cond.code yX7_judge cX7_judge 1 (some .int) ∈ tables_1_3 := List.mem_of_getElem? (i := 221) rfl
theorem icX0_firstWrong : Cond.code yX0_firstWrong cX0_firstWrong 3 (some .int) ∈ tables_1_3 := List.mem_of_getElem? (i := 225) rfl
theorem icX7_tear : Cond.code yX7_tear cX7_tear 2 (some .int) ∈ tables_1_3 := List.mem_of_getElem? (i := 229) rfl
theorem icX7_seed : Cond.code yX7_seed cX7_seed 3 (some .int) ∈ tables_1_3 := List.mem_of_getElem? (i := 233) rfl
theorem icX7_keep : Cond.code yX7_keep cX7_keep 3 (some .int) ∈ tables_1_3 := List.mem_of_getElem? (i := 237) rfl
theorem icX7_goBack : Cond.code yX7_goBack cX7_goBack 3 (some .int) ∈ tables_1_4 := List.mem_of_getElem? (i := 1) rfl
theorem icX8_init : Cond.code yX8_init cX8_init 1 none ∈ tables_1_4 := List.mem_of_getElem? (i := 6) rfl
theorem icX8_feed : Cond.code yX8_feed cX8_feed 2 (some .int) ∈ tables_1_4 := List.mem_of_getElem? (i := 117) rfl
theorem icX8_in : Cond.code yX8_in cX8_in 3 (some .boolean) ∈ tables_1_4 := List.mem_of_getElem? (i := 120) rfl
theorem icX8_row : Cond.code yX8_row cX8_row 2 (some .int) ∈ tables_1_4 := List.mem_of_getElem? (i := 126) rfl
theorem icX8_skips : Cond.code yX8_skips cX8_skips 1 none ∈ tables_1_4 := List.mem_of_getElem? (i := 130) rfl
theorem icX8_look : Cond.code yX8_look cX8_look 1 (some .int) ∈ tables_1_4 := List.mem_of_getElem? (i := 134) rfl
theorem icX8_reads : Cond.code yX8_reads cX8_reads 1 none ∈ tables_1_4 := List.mem_of_getElem? (i := 138) rfl
theorem icX8_readsCatches : Cond.code yX8_readsCatches cX8_readsCatches 1 none ∈ tables_1_4 := List.mem_of_getElem? (i := 142) rfl
theorem icX8_fails : Cond.code yX8_fails cX8_fails 2 none ∈ tables_1_4 := List.mem_of_getElem? (i := 146) rfl
theorem icX8_number : Cond.code yX8_number cX8_number 5 (some .int) ∈ tables_1_4 := List.mem_of_getElem? (i := 150) rfl
theorem icX8_word : Cond.code yX8_word cX8_word 2 none ∈ tables_1_4 := List.mem_of_getElem? (i := 154) rfl
theorem icX8_readsHouse : Cond.code yX8_readsHouse cX8_readsHouse 2 none ∈ tables_1_4 := List.mem_of_getElem? (i := 158) rfl
theorem icX8_readsGull : Cond.code yX8_readsGull cX8_readsGull 2 none ∈ tables_1_4 := List.mem_of_getElem? (i := 162) rfl
theorem icX8_takesAll : Cond.code yX8_takesAll cX8_takesAll 2 none ∈ tables_1_4 := List.mem_of_getElem? (i := 166) rfl
theorem icX8_fault : Cond.code yX8_fault cX8_fault 1 (some .int) ∈ tables_1_4 := List.mem_of_getElem? (i := 170) rfl
theorem icX8_told : Cond.code yX8_told cX8_told 2 (some .int) ∈ tables_1_4 := List.mem_of_getElem? (i := 174) rfl
theorem icX8_housesSo : Cond.code yX8_housesSo cX8_housesSo 4 (some .int) ∈ tables_1_4 := List.mem_of_getElem? (i := 178) rfl
theorem icX8_debts : Cond.code yX8_debts cX8_debts 3 (some .int) ∈ tables_1_4 := List.mem_of_getElem? (i := 182) rfl
theorem icX8_isHeld : Cond.code yX8_isHeld cX8_isHeld 2 (some .boolean) ∈ tables_1_4 := List.mem_of_getElem? (i := 186) rfl
theorem icX8_debtOf : Cond.code yX8_debtOf cX8_debtOf 2 (some .int) ∈ tables_1_4 := List.mem_of_getElem? (i := 190) rfl
theorem icX8_astray : Cond.code yX8_astray cX8_astray 3 (some .int) ∈ tables_1_4 := List.mem_of_getElem? (i := 194) rfl
theorem icX8_holds : Cond.code yX8_holds cX8_holds 3 (some .int) ∈ tables_1_4 := List.mem_of_getElem? (i := 198) rfl
theorem icX8_gap : Cond.code yX8_gap cX8_gap 3 (some .int) ∈ tables_1_4 := List.mem_of_getElem? (i := 202) rfl
theorem icX8_worst : Cond.code yX8_worst cX8_worst 3 (some .int) ∈ tables_1_4 := List.mem_of_getElem? (i := 206) rfl
theorem icX8_house : Cond.code yX8_house cX8_house 3 (some .int) ∈ tables_1_4 := List.mem_of_getElem? (i := 210) rfl
theorem icX8_isHouse : Cond.code yX8_isHouse cX8_isHouse 2 (some .boolean) ∈ tables_1_4 := List.mem_of_getElem? (i := 214) rfl
theorem icX8_gull : Cond.code yX8_gull cX8_gull 3 (some .int) ∈ tables_1_4 := List.mem_of_getElem? (i := 219) rfl
theorem icX8_isGull : Cond.code yX8_isGull cX8_isGull 2 (some .boolean) ∈ tables_1_4 := List.mem_of_getElem? (i := 223) rfl
theorem icX8_ahead : Cond.code yX8_ahead cX8_ahead 2 (some .int) ∈ tables_1_4 := List.mem_of_getElem? (i := 227) rfl
theorem icX8_isTold : Cond.code yX8_isTold cX8_isTold 1 (some .boolean) ∈ tables_1_4 := List.mem_of_getElem? (i := 231) rfl
theorem icX8_logged : Cond.code yX8_logged cX8_logged 3 (some .int) ∈ tables_1_4 := List.mem_of_getElem? (i := 236) rfl
theorem icX8_day : Cond.code yX8_day cX8_day 3 (some .int) ∈ tables_1_5 := List.mem_of_getElem? (i := 0) rfl
theorem icX8_notes : Cond.code yX8_notes cX8_notes 2 none ∈ tables_1_5 := List.mem_of_getElem? (i := 4) rfl
theorem icX8_copies : Cond.code yX8_copies cX8_copies 5 none ∈ tables_1_5 := List.mem_of_getElem? (i := 7) rfl
theorem icX8_passes : Cond.code yX8_passes cX8_passes 4 none ∈ tables_1_5 := List.mem_of_getElem? (i := 11) rfl
theorem icX8_lesser : Cond.code yX8_lesser cX8_lesser 2 (some .int) ∈ tables_1_5 := List.mem_of_getElem? (i := 14) rfl
theorem icX8_pays : Cond.code yX8_pays cX8_pays 7 none ∈ tables_1_5 := List.mem_of_getElem? (i := 18) rfl
theorem icX8_cries : Cond.code yX8_cries cX8_cries 4 none ∈ tables_1_5 := List.mem_of_getElem? (i := 21) rfl
theorem icX8_putsOut : Cond.code yX8_putsOut cX8_putsOut 2 none ∈ tables_1_5 := List.mem_of_getElem? (i := 24) rfl
theorem icX8_pay : Cond.code yX8_pay cX8_pay 3 (some .int) ∈ tables_1_5 := List.mem_of_getElem? (i := 28) rfl
theorem icX8_canPay : Cond.code yX8_canPay cX8_canPay 3 (some .boolean) ∈ tables_1_5 := List.mem_of_getElem? (i := 32) rfl
theorem icX8_paysBy : Cond.code yX8_paysBy cX8_paysBy 3 none ∈ tables_1_5 := List.mem_of_getElem? (i := 36) rfl
theorem icX8_bread : Cond.code yX8_bread cX8_bread 3 (some .int) ∈ tables_1_5 := List.mem_of_getElem? (i := 40) rfl
theorem icX8_isByBread : Cond.code yX8_isByBread cX8_isByBread 2 (some .boolean) ∈ tables_1_5 := List.mem_of_getElem? (i := 44) rfl
theorem icX8_stone : Cond.code yX8_stone cX8_stone 2 (some .int) ∈ tables_1_5 := List.mem_of_getElem? (i := 48) rfl
theorem icX8_lend : Cond.code yX8_lend cX8_lend 2 (some .int) ∈ tables_1_5 := List.mem_of_getElem? (i := 52) rfl
theorem icX8_swap : Cond.code yX8_swap cX8_swap 3 (some .int) ∈ tables_1_5 := List.mem_of_getElem? (i := 56) rfl
theorem icX8_canSwap : Cond.code yX8_canSwap cX8_canSwap 3 (some .boolean) ∈ tables_1_5 := List.mem_of_getElem? (i := 59) rfl
theorem icX8_swaps : Cond.code yX8_swaps cX8_swaps 4 none ∈ tables_1_5 := List.mem_of_getElem? (i := 62) rfl
theorem icX8_drift : Cond.code yX8_drift cX8_drift 3 (some .int) ∈ tables_1_5 := List.mem_of_getElem? (i := 66) rfl
theorem icX8_draws : Cond.code yX8_draws cX8_draws 4 none ∈ tables_1_5 := List.mem_of_getElem? (i := 70) rfl
theorem icX8_draw : Cond.code yX8_draw cX8_draw 2 (some .int) ∈ tables_1_5 := List.mem_of_getElem? (i := 74) rfl
theorem icX8_undo : Cond.code yX8_undo cX8_undo 2 (some .int) ∈ tables_1_5 := List.mem_of_getElem? (i := 82) rfl
theorem icX8_owes : Cond.code yX8_owes cX8_owes 3 (some .int) ∈ tables_1_5 := List.mem_of_getElem? (i := 86) rfl
theorem icX8_goesOn : Cond.code yX8_goesOn cX8_goesOn 9 none ∈ tables_1_5 := List.mem_of_getElem? (i := 90) rfl
theorem icX8_has : Cond.code yX8_has cX8_has 2 (some .boolean) ∈ tables_1_5 := List.mem_of_getElem? (i := 93) rfl
theorem icX8_firstOut : Cond.code yX8_firstOut cX8_firstOut 2 (some .int) ∈ tables_1_5 := List.mem_of_getElem? (i := 97) rfl
theorem icX8_outBy : Cond.code yX8_outBy cX8_outBy 2 (some .int) ∈ tables_1_5 := List.mem_of_getElem? (i := 101) rfl
theorem icX8_redeemedBy : Cond.code yX8_redeemedBy cX8_redeemedBy 2 (some .int) ∈ tables_1_5 := List.mem_of_getElem? (i := 105) rfl
theorem icX8_loan : Cond.code yX8_loan cX8_loan 3 (some .int) ∈ tables_1_5 := List.mem_of_getElem? (i := 109) rfl
theorem icX8_clear : Cond.code yX8_clear cX8_clear 7 (some .int) ∈ tables_1_5 := List.mem_of_getElem? (i := 113) rfl
theorem icX8_ones : Cond.code yX8_ones cX8_ones 3 (some .int) ∈ tables_1_5 := List.mem_of_getElem? (i := 116) rfl
theorem icX8_bestSwap : Cond.code yX8_bestSwap cX8_bestSwap 7 (some .int) ∈ tables_1_5 := List.mem_of_getElem? (i := 120) rfl
theorem icX8_home : Cond.code yX8_home cX8_home 4 (some .int) ∈ tables_1_5 := List.mem_of_getElem? (i := 124) rfl
theorem icX8_mostBread : Cond.code yX8_mostBread cX8_mostBread 2 (some .int) ∈ tables_1_5 := List.mem_of_getElem? (i := 128) rfl
theorem icX8_sure : Cond.code yX8_sure cX8_sure 6 (some .int) ∈ tables_1_5 := List.mem_of_getElem? (i := 132) rfl
theorem icX8_hear : Cond.code yX8_hear cX8_hear 4 (some .int) ∈ tables_1_5 := List.mem_of_getElem? (i := 138) rfl
theorem icX8_gales : Cond.code yX8_gales cX8_gales 2 (some .int) ∈ tables_1_5 := List.mem_of_getElem? (i := 142) rfl
theorem icX8_finds : Cond.code yX8_finds cX8_finds 5 none ∈ tables_1_5 := List.mem_of_getElem? (i := 146) rfl
theorem icX8_isHeard : Cond.code yX8_isHeard cX8_isHeard 4 (some .boolean) ∈ tables_1_5 := List.mem_of_getElem? (i := 150) rfl
theorem icX8_wasAt : Cond.code yX8_wasAt cX8_wasAt 5 (some .int) ∈ tables_1_5 := List.mem_of_getElem? (i := 154) rfl
theorem icX8_listen : Cond.code yX8_listen cX8_listen 5 (some .int) ∈ tables_1_5 := List.mem_of_getElem? (i := 158) rfl
theorem icX8_alike : Cond.code yX8_alike cX8_alike 6 (some .int) ∈ tables_1_5 := List.mem_of_getElem? (i := 162) rfl
theorem icX8_whoAt : Cond.code yX8_whoAt cX8_whoAt 4 (some .int) ∈ tables_1_5 := List.mem_of_getElem? (i := 166) rfl
theorem icX8_write : Cond.code yX8_write cX8_write 3 (some .int) ∈ tables_1_5 := List.mem_of_getElem? (i := 170) rfl
theorem icX8_judge : Cond.code yX8_judge cX8_judge 2 (some .int) ∈ tables_1_5 := List.mem_of_getElem? (i := 174) rfl
theorem icX8_tear : Cond.code yX8_tear cX8_tear 2 (some .int) ∈ tables_1_5 := List.mem_of_getElem? (i := 178) rfl
theorem icX8_seed : Cond.code yX8_seed cX8_seed 3 (some .int) ∈ tables_1_5 := List.mem_of_getElem? (i := 182) rfl
theorem icX8_keep : Cond.code yX8_keep cX8_keep 2 (some .int) ∈ tables_1_5 := List.mem_of_getElem? (i := 186) rfl
theorem icX8_goBack : Cond.code yX8_goBack cX8_goBack 2 (some .int) ∈ tables_1_5 := List.mem_of_getElem? (i := 190) rfl
def okB (q : MT) : Prop := Cond.code q.1 q.2.1 q.2.2.1 q.2.2.2.1 ∈ tables_1 ∧ goodWord (Cond.code q.1 q.2.1 q.2.2.1 q.2.2.2.1) = true
theorem jcX7_init : Cond.code yX7_init cX7_init 3 none ∈ tables_1 := List.mem_append_left _ (icX7_init)
theorem jcX4_init : Cond.code yX4_init cX4_init 1 none ∈ tables_1 := List.mem_append_left _ (icX4_init)
theorem jcX6_init : Cond.code yX6_init cX6_init 2 none ∈ tables_1 := List.mem_append_left _ (icX6_init)
theorem jcX5_init : Cond.code yX5_init cX5_init 2 none ∈ tables_1 := List.mem_append_left _ (icX5_init)
theorem jcX5_begin : Cond.code yX5_begin cX5_begin 3 none ∈ tables_1 := List.mem_append_left _ (icX5_begin)
theorem jcX3_init : Cond.code yX3_init cX3_init 3 none ∈ tables_1 := List.mem_append_left _ (icX3_init)
theorem jcX2_init : Cond.code yX2_init cX2_init 2 none ∈ tables_1 := List.mem_append_left _ (icX2_init)
theorem jcX1_init : Cond.code yX1_init cX1_init 1 none ∈ tables_1 := List.mem_append_left _ (icX1_init)
theorem jcX0_init : Cond.code yX0_init cX0_init 1 none ∈ tables_1 := List.mem_append_right _ (List.mem_append_left _ (icX0_init))
theorem jcX7_feed : Cond.code yX7_feed cX7_feed 2 (some .int) ∈ tables_1 := List.mem_append_right _ (List.mem_append_left _ (icX7_feed))
theorem jcX7_isOutside : Cond.code yX7_isOutside cX7_isOutside 3 (some .boolean) ∈ tables_1 := List.mem_append_right _ (List.mem_append_left _ (icX7_isOutside))
theorem jcX6_append : Cond.code yX6_append cX6_append 2 (some .boolean) ∈ tables_1 := List.mem_append_right _ (List.mem_append_left _ (icX6_append))
theorem jcX7_row : Cond.code yX7_row cX7_row 4 (some .int) ∈ tables_1 := List.mem_append_right _ (List.mem_append_left _ (icX7_row))
theorem jcX6_readInto : Cond.code yX6_readInto cX6_readInto 3 (some .int) ∈ tables_1 := List.mem_append_right _ (List.mem_append_left _ (icX6_readInto))
theorem jcX4_wipe : Cond.code yX4_wipe cX4_wipe 1 none ∈ tables_1 := List.mem_append_right _ (List.mem_append_left _ (icX4_wipe))
theorem jcX6_skipBlanks : Cond.code yX6_skipBlanks cX6_skipBlanks 1 none ∈ tables_1 := List.mem_append_right _ (List.mem_append_left _ (icX6_skipBlanks))
theorem jcX6_readClause : Cond.code yX6_readClause cX6_readClause 3 none ∈ tables_1 := List.mem_append_right _ (List.mem_append_left _ (icX6_readClause))
theorem jcX6_letterHere : Cond.code yX6_letterHere cX6_letterHere 1 (some .int) ∈ tables_1 := List.mem_append_right _ (List.mem_append_left _ (icX6_letterHere))
theorem jcX4_isTold : Cond.code yX4_isTold cX4_isTold 1 (some .boolean) ∈ tables_1 := List.mem_append_right _ (List.mem_append_left _ (icX4_isTold))
theorem jcX6_readCatches : Cond.code yX6_readCatches cX6_readCatches 5 none ∈ tables_1 := List.mem_append_right _ (List.mem_append_left _ (icX6_readCatches))
theorem jcX6_fail : Cond.code yX6_fail cX6_fail 3 none ∈ tables_1 := List.mem_append_right _ (List.mem_append_left _ (icX6_fail))
theorem jcX6_readNumber : Cond.code yX6_readNumber cX6_readNumber 5 (some .int) ∈ tables_1 := List.mem_append_right _ (List.mem_append_left _ (icX6_readNumber))
theorem jcX6_isFigure : Cond.code yX6_isFigure cX6_isFigure 1 (some .boolean) ∈ tables_1 := List.mem_append_right _ (List.mem_append_left _ (icX6_isFigure))
theorem jcX6_isNext : Cond.code yX6_isNext cX6_isNext 2 (some .boolean) ∈ tables_1 := List.mem_append_right _ (List.mem_append_left _ (icX6_isNext))
theorem jcX6_readEnd : Cond.code yX6_readEnd cX6_readEnd 1 none ∈ tables_1 := List.mem_append_right _ (List.mem_append_left _ (icX6_readEnd))
theorem jcX6_readHouse : Cond.code yX6_readHouse cX6_readHouse 2 none ∈ tables_1 := List.mem_append_right _ (List.mem_append_left _ (icX6_readHouse))
theorem jcX6_readGull : Cond.code yX6_readGull cX6_readGull 2 none ∈ tables_1 := List.mem_append_right _ (List.mem_append_left _ (icX6_readGull))
theorem jcX3_forget : Cond.code yX3_forget cX3_forget 1 none ∈ tables_1 := List.mem_append_right _ (List.mem_append_left _ (icX3_forget))
theorem jcX7_fault : Cond.code yX7_fault cX7_fault 1 (some .int) ∈ tables_1 := List.mem_append_right _ (List.mem_append_left _ (icX7_fault))
theorem jcX7_told : Cond.code yX7_told cX7_told 2 (some .int) ∈ tables_1 := List.mem_append_right _ (List.mem_append_left _ (icX7_told))
theorem jcX5_heldSet : Cond.code yX5_heldSet cX5_heldSet 1 (some .int) ∈ tables_1 := List.mem_append_right _ (List.mem_append_left _ (icX5_heldSet))
theorem jcX5_gullHeldSet : Cond.code yX5_gullHeldSet cX5_gullHeldSet 3 (some .int) ∈ tables_1 := List.mem_append_right _ (List.mem_append_left _ (icX5_gullHeldSet))
theorem jcX5_freeSet : Cond.code yX5_freeSet cX5_freeSet 1 (some .int) ∈ tables_1 := List.mem_append_right _ (List.mem_append_left _ (icX5_freeSet))
theorem jcX5_debtOfHeld : Cond.code yX5_debtOfHeld cX5_debtOfHeld 3 (some .int) ∈ tables_1 := List.mem_append_right _ (List.mem_append_left _ (icX5_debtOfHeld))
theorem jcX5_isHeld : Cond.code yX5_isHeld cX5_isHeld 2 (some .boolean) ∈ tables_1 := List.mem_append_right _ (List.mem_append_left _ (icX5_isHeld))
theorem jcX5_isEmpty : Cond.code yX5_isEmpty cX5_isEmpty 2 (some .boolean) ∈ tables_1 := List.mem_append_right _ (List.mem_append_left _ (icX5_isEmpty))
theorem jcX7_isIn : Cond.code yX7_isIn cX7_isIn 2 (some .boolean) ∈ tables_1 := List.mem_append_right _ (List.mem_append_left _ (icX7_isIn))
theorem jcX5_astray : Cond.code yX5_astray cX5_astray 3 (some .int) ∈ tables_1 := List.mem_append_right _ (List.mem_append_left _ (icX5_astray))
theorem jcX5_gap : Cond.code yX5_gap cX5_gap 4 (some .int) ∈ tables_1 := List.mem_append_right _ (List.mem_append_left _ (icX5_gap))
theorem jcX5_worst : Cond.code yX5_worst cX5_worst 3 (some .int) ∈ tables_1 := List.mem_append_right _ (List.mem_append_left _ (icX5_worst))
theorem jcX7_house : Cond.code yX7_house cX7_house 3 (some .int) ∈ tables_1 := List.mem_append_right _ (List.mem_append_left _ (icX7_house))
theorem jcX4_isHouse : Cond.code yX4_isHouse cX4_isHouse 2 (some .boolean) ∈ tables_1 := List.mem_append_right _ (List.mem_append_left _ (icX4_isHouse))
theorem jcX5_standing : Cond.code yX5_standing cX5_standing 2 (some .int) ∈ tables_1 := List.mem_append_right _ (List.mem_append_left _ (icX5_standing))
theorem jcX7_gull : Cond.code yX7_gull cX7_gull 3 (some .int) ∈ tables_1 := List.mem_append_right _ (List.mem_append_left _ (icX7_gull))
theorem jcX4_isGull : Cond.code yX4_isGull cX4_isGull 2 (some .boolean) ∈ tables_1 := List.mem_append_right _ (List.mem_append_left _ (icX4_isGull))
theorem jcX5_houseOf : Cond.code yX5_houseOf cX5_houseOf 3 (some .int) ∈ tables_1 := List.mem_append_right _ (List.mem_append_left _ (icX5_houseOf))
theorem jcX7_ahead : Cond.code yX7_ahead cX7_ahead 2 (some .int) ∈ tables_1 := List.mem_append_right _ (List.mem_append_left _ (icX7_ahead))
theorem jcX4_catchOf : Cond.code yX4_catchOf cX4_catchOf 2 (some .int) ∈ tables_1 := List.mem_append_right _ (List.mem_append_left _ (icX4_catchOf))
theorem jcX7_logged : Cond.code yX7_logged cX7_logged 3 (some .int) ∈ tables_1 := List.mem_append_right _ (List.mem_append_left _ (icX7_logged))
theorem jcX5_cryAt : Cond.code yX5_cryAt cX5_cryAt 4 (some .int) ∈ tables_1 := List.mem_append_right _ (List.mem_append_left _ (icX5_cryAt))
theorem jcX7_day : Cond.code yX7_day cX7_day 4 (some .int) ∈ tables_1 := List.mem_append_right _ (List.mem_append_left _ (icX7_day))
theorem jcX7_refusalOfDays : Cond.code yX7_refusalOfDays cX7_refusalOfDays 2 (some .int) ∈ tables_1 := List.mem_append_right _ (List.mem_append_left _ (icX7_refusalOfDays))
theorem jcX3_remember : Cond.code yX3_remember cX3_remember 2 none ∈ tables_1 := List.mem_append_right _ (List.mem_append_left _ (icX3_remember))
theorem jcX5_copyFrom : Cond.code yX5_copyFrom cX5_copyFrom 2 none ∈ tables_1 := List.mem_append_right _ (List.mem_append_left _ (icX5_copyFrom))
theorem jcX5_passDay : Cond.code yX5_passDay cX5_passDay 4 none ∈ tables_1 := List.mem_append_right _ (List.mem_append_left _ (icX5_passDay))
theorem jcX5_addHeads : Cond.code yX5_addHeads cX5_addHeads 2 none ∈ tables_1 := List.mem_append_right _ (List.mem_append_right _ (List.mem_append_left _ (icX5_addHeads)))
theorem jcX5_firstTurn : Cond.code yX5_firstTurn cX5_firstTurn 1 (some .int) ∈ tables_1 := List.mem_append_right _ (List.mem_append_right _ (List.mem_append_left _ (icX5_firstTurn)))
theorem jcX5_takeTurn : Cond.code yX5_takeTurn cX5_takeTurn 6 none ∈ tables_1 := List.mem_append_right _ (List.mem_append_right _ (List.mem_append_left _ (icX5_takeTurn)))
theorem jcX5_cryOut : Cond.code yX5_cryOut cX5_cryOut 3 none ∈ tables_1 := List.mem_append_right _ (List.mem_append_right _ (List.mem_append_left _ (icX5_cryOut)))
theorem jcX5_countGoodDay : Cond.code yX5_countGoodDay cX5_countGoodDay 2 none ∈ tables_1 := List.mem_append_right _ (List.mem_append_right _ (List.mem_append_left _ (icX5_countGoodDay)))
theorem jcX5_evict : Cond.code yX5_evict cX5_evict 2 none ∈ tables_1 := List.mem_append_right _ (List.mem_append_right _ (List.mem_append_left _ (icX5_evict)))
theorem jcX7_pay : Cond.code yX7_pay cX7_pay 3 (some .int) ∈ tables_1 := List.mem_append_right _ (List.mem_append_right _ (List.mem_append_left _ (icX7_pay)))
theorem jcX5_canPay : Cond.code yX5_canPay cX5_canPay 3 (some .boolean) ∈ tables_1 := List.mem_append_right _ (List.mem_append_right _ (List.mem_append_left _ (icX5_canPay)))
theorem jcX5_payByHand : Cond.code yX5_payByHand cX5_payByHand 3 none ∈ tables_1 := List.mem_append_right _ (List.mem_append_right _ (List.mem_append_left _ (icX5_payByHand)))
theorem jcX7_bread : Cond.code yX7_bread cX7_bread 3 (some .int) ∈ tables_1 := List.mem_append_right _ (List.mem_append_right _ (List.mem_append_left _ (icX7_bread)))
theorem jcX5_eatsBread : Cond.code yX5_eatsBread cX5_eatsBread 2 (some .boolean) ∈ tables_1 := List.mem_append_right _ (List.mem_append_right _ (List.mem_append_left _ (icX5_eatsBread)))
theorem jcX5_payByBread : Cond.code yX5_payByBread cX5_payByBread 3 none ∈ tables_1 := List.mem_append_right _ (List.mem_append_right _ (List.mem_append_left _ (icX5_payByBread)))
theorem jcX7_stone : Cond.code yX7_stone cX7_stone 2 (some .int) ∈ tables_1 := List.mem_append_right _ (List.mem_append_right _ (List.mem_append_left _ (icX7_stone)))
theorem jcX7_lend : Cond.code yX7_lend cX7_lend 2 (some .int) ∈ tables_1 := List.mem_append_right _ (List.mem_append_right _ (List.mem_append_left _ (icX7_lend)))
theorem jcX7_swap : Cond.code yX7_swap cX7_swap 3 (some .int) ∈ tables_1 := List.mem_append_right _ (List.mem_append_right _ (List.mem_append_left _ (icX7_swap)))
theorem jcX5_canExchange : Cond.code yX5_canExchange cX5_canExchange 3 (some .boolean) ∈ tables_1 := List.mem_append_right _ (List.mem_append_right _ (List.mem_append_left _ (icX5_canExchange)))
theorem jcX5_exchange : Cond.code yX5_exchange cX5_exchange 4 none ∈ tables_1 := List.mem_append_right _ (List.mem_append_right _ (List.mem_append_left _ (icX5_exchange)))
theorem jcX7_drift : Cond.code yX7_drift cX7_drift 4 (some .int) ∈ tables_1 := List.mem_append_right _ (List.mem_append_right _ (List.mem_append_left _ (icX7_drift)))
theorem jcX7_drawDeed : Cond.code yX7_drawDeed cX7_drawDeed 5 none ∈ tables_1 := List.mem_append_right _ (List.mem_append_right _ (List.mem_append_left _ (icX7_drawDeed)))
theorem jcX7_draw : Cond.code yX7_draw cX7_draw 2 (some .int) ∈ tables_1 := List.mem_append_right _ (List.mem_append_right _ (List.mem_append_left _ (icX7_draw)))
theorem jcX7_undo : Cond.code yX7_undo cX7_undo 2 (some .int) ∈ tables_1 := List.mem_append_right _ (List.mem_append_right _ (List.mem_append_left _ (icX7_undo)))
theorem jcX3_bringBack : Cond.code yX3_bringBack cX3_bringBack 3 (some .boolean) ∈ tables_1 := List.mem_append_right _ (List.mem_append_right _ (List.mem_append_left _ (icX3_bringBack)))
theorem jcX7_owes : Cond.code yX7_owes cX7_owes 3 (some .int) ∈ tables_1 := List.mem_append_right _ (List.mem_append_right _ (List.mem_append_left _ (icX7_owes)))
theorem jcX7_tryDays : Cond.code yX7_tryDays cX7_tryDays 2 none ∈ tables_1 := List.mem_append_right _ (List.mem_append_right _ (List.mem_append_left _ (icX7_tryDays)))
theorem jcX5_passDays : Cond.code yX5_passDays cX5_passDays 3 none ∈ tables_1 := List.mem_append_right _ (List.mem_append_right _ (List.mem_append_left _ (icX5_passDays)))
theorem jcX7_firstOut : Cond.code yX7_firstOut cX7_firstOut 4 (some .int) ∈ tables_1 := List.mem_append_right _ (List.mem_append_right _ (List.mem_append_left _ (icX7_firstOut)))
theorem jcX7_newlyEmpty : Cond.code yX7_newlyEmpty cX7_newlyEmpty 1 (some .int) ∈ tables_1 := List.mem_append_right _ (List.mem_append_right _ (List.mem_append_left _ (icX7_newlyEmpty)))
theorem jcX7_firstInTurn : Cond.code yX7_firstInTurn cX7_firstInTurn 6 (some .int) ∈ tables_1 := List.mem_append_right _ (List.mem_append_right _ (List.mem_append_left _ (icX7_firstInTurn)))
theorem jcX7_outBy : Cond.code yX7_outBy cX7_outBy 2 (some .int) ∈ tables_1 := List.mem_append_right _ (List.mem_append_right _ (List.mem_append_left _ (icX7_outBy)))
theorem jcX7_redeemedBy : Cond.code yX7_redeemedBy cX7_redeemedBy 2 (some .int) ∈ tables_1 := List.mem_append_right _ (List.mem_append_right _ (List.mem_append_left _ (icX7_redeemedBy)))
theorem jcX7_loan : Cond.code yX7_loan cX7_loan 6 (some .int) ∈ tables_1 := List.mem_append_right _ (List.mem_append_right _ (List.mem_append_left _ (icX7_loan)))
theorem jcX7_loanDoes : Cond.code yX7_loanDoes cX7_loanDoes 4 (some .boolean) ∈ tables_1 := List.mem_append_right _ (List.mem_append_right _ (List.mem_append_left _ (icX7_loanDoes)))
theorem jcX7_clear : Cond.code yX7_clear cX7_clear 5 (some .int) ∈ tables_1 := List.mem_append_right _ (List.mem_append_right _ (List.mem_append_left _ (icX7_clear)))
theorem jcJ6_bitCount_0f7a4 : Cond.code yJ6_bitCount_0f7a4 cJ6_bitCount_0f7a4 1 (some .int) ∈ tables_1 := List.mem_append_right _ (List.mem_append_right _ (List.mem_append_left _ (icJ6_bitCount_0f7a4)))
theorem jcX5_canClear : Cond.code yX5_canClear cX5_canClear 4 (some .boolean) ∈ tables_1 := List.mem_append_right _ (List.mem_append_right _ (List.mem_append_left _ (icX5_canClear)))
theorem jcX7_bestSwap : Cond.code yX7_bestSwap cX7_bestSwap 8 (some .int) ∈ tables_1 := List.mem_append_right _ (List.mem_append_right _ (List.mem_append_left _ (icX7_bestSwap)))
theorem jcX7_putOutBySwap : Cond.code yX7_putOutBySwap cX7_putOutBySwap 4 (some .int) ∈ tables_1 := List.mem_append_right _ (List.mem_append_right _ (List.mem_append_left _ (icX7_putOutBySwap)))
theorem jcX7_home : Cond.code yX7_home cX7_home 4 (some .int) ∈ tables_1 := List.mem_append_right _ (List.mem_append_right _ (List.mem_append_left _ (icX7_home)))
theorem jcX7_mostBread : Cond.code yX7_mostBread cX7_mostBread 2 (some .int) ∈ tables_1 := List.mem_append_right _ (List.mem_append_right _ (List.mem_append_left _ (icX7_mostBread)))
theorem jcX7_sure : Cond.code yX7_sure cX7_sure 6 (some .int) ∈ tables_1 := List.mem_append_right _ (List.mem_append_right _ (List.mem_append_left _ (icX7_sure)))
theorem jcX7_hear : Cond.code yX7_hear cX7_hear 4 (some .int) ∈ tables_1 := List.mem_append_right _ (List.mem_append_right _ (List.mem_append_left _ (icX7_hear)))
theorem jcX1_take : Cond.code yX1_take cX1_take 4 (some .boolean) ∈ tables_1 := List.mem_append_right _ (List.mem_append_right _ (List.mem_append_left _ (icX1_take)))
theorem jcX7_gales : Cond.code yX7_gales cX7_gales 2 (some .int) ∈ tables_1 := List.mem_append_right _ (List.mem_append_right _ (List.mem_append_left _ (icX7_gales)))
theorem jcX1_findGales : Cond.code yX1_findGales cX1_findGales 4 none ∈ tables_1 := List.mem_append_right _ (List.mem_append_right _ (List.mem_append_left _ (icX1_findGales)))
theorem jcX1_addIfFitting : Cond.code yX1_addIfFitting cX1_addIfFitting 5 none ∈ tables_1 := List.mem_append_right _ (List.mem_append_right _ (List.mem_append_left _ (icX1_addIfFitting)))
theorem jcX1_gullThen : Cond.code yX1_gullThen cX1_gullThen 4 (some .int) ∈ tables_1 := List.mem_append_right _ (List.mem_append_right _ (List.mem_append_left _ (icX1_gullThen)))
theorem jcX7_listen : Cond.code yX7_listen cX7_listen 5 (some .int) ∈ tables_1 := List.mem_append_right _ (List.mem_append_right _ (List.mem_append_left _ (icX7_listen)))
theorem jcX1_greatestPart : Cond.code yX1_greatestPart cX1_greatestPart 6 (some .int) ∈ tables_1 := List.mem_append_right _ (List.mem_append_right _ (List.mem_append_left _ (icX1_greatestPart)))
theorem jcX7_write : Cond.code yX7_write cX7_write 3 (some .int) ∈ tables_1 := List.mem_append_right _ (List.mem_append_right _ (List.mem_append_left _ (icX7_write)))
theorem jcX0_enter : Cond.code yX0_enter cX0_enter 3 (some .boolean) ∈ tables_1 := List.mem_append_right _ (List.mem_append_right _ (List.mem_append_left _ (icX0_enter)))
theorem jcX7_judge : Cond.code yX7_judge cX7_judge 1 (some .int) ∈ tables_1 := List.mem_append_right _ (List.mem_append_right _ (List.mem_append_left _ (icX7_judge)))
theorem jcX0_firstWrong : Cond.code yX0_firstWrong cX0_firstWrong 3 (some .int) ∈ tables_1 := List.mem_append_right _ (List.mem_append_right _ (List.mem_append_left _ (icX0_firstWrong)))
theorem jcX7_tear : Cond.code yX7_tear cX7_tear 2 (some .int) ∈ tables_1 := List.mem_append_right _ (List.mem_append_right _ (List.mem_append_left _ (icX7_tear)))
theorem jcX7_seed : Cond.code yX7_seed cX7_seed 3 (some .int) ∈ tables_1 := List.mem_append_right _ (List.mem_append_right _ (List.mem_append_left _ (icX7_seed)))
theorem jcX7_keep : Cond.code yX7_keep cX7_keep 3 (some .int) ∈ tables_1 := List.mem_append_right _ (List.mem_append_right _ (List.mem_append_left _ (icX7_keep)))
theorem jcX7_goBack : Cond.code yX7_goBack cX7_goBack 3 (some .int) ∈ tables_1 := List.mem_append_right _ (List.mem_append_right _ (List.mem_append_right _ (List.mem_append_left _ (icX7_goBack))))
theorem jcX8_init : Cond.code yX8_init cX8_init 1 none ∈ tables_1 := List.mem_append_right _ (List.mem_append_right _ (List.mem_append_right _ (List.mem_append_left _ (icX8_init))))
theorem jcX8_feed : Cond.code yX8_feed cX8_feed 2 (some .int) ∈ tables_1 := List.mem_append_right _ (List.mem_append_right _ (List.mem_append_right _ (List.mem_append_left _ (icX8_feed))))
theorem jcX8_in : Cond.code yX8_in cX8_in 3 (some .boolean) ∈ tables_1 := List.mem_append_right _ (List.mem_append_right _ (List.mem_append_right _ (List.mem_append_left _ (icX8_in))))
theorem jcX8_row : Cond.code yX8_row cX8_row 2 (some .int) ∈ tables_1 := List.mem_append_right _ (List.mem_append_right _ (List.mem_append_right _ (List.mem_append_left _ (icX8_row))))
theorem jcX8_skips : Cond.code yX8_skips cX8_skips 1 none ∈ tables_1 := List.mem_append_right _ (List.mem_append_right _ (List.mem_append_right _ (List.mem_append_left _ (icX8_skips))))
theorem jcX8_look : Cond.code yX8_look cX8_look 1 (some .int) ∈ tables_1 := List.mem_append_right _ (List.mem_append_right _ (List.mem_append_right _ (List.mem_append_left _ (icX8_look))))
theorem jcX8_reads : Cond.code yX8_reads cX8_reads 1 none ∈ tables_1 := List.mem_append_right _ (List.mem_append_right _ (List.mem_append_right _ (List.mem_append_left _ (icX8_reads))))
theorem jcX8_readsCatches : Cond.code yX8_readsCatches cX8_readsCatches 1 none ∈ tables_1 := List.mem_append_right _ (List.mem_append_right _ (List.mem_append_right _ (List.mem_append_left _ (icX8_readsCatches))))
theorem jcX8_fails : Cond.code yX8_fails cX8_fails 2 none ∈ tables_1 := List.mem_append_right _ (List.mem_append_right _ (List.mem_append_right _ (List.mem_append_left _ (icX8_fails))))
theorem jcX8_number : Cond.code yX8_number cX8_number 5 (some .int) ∈ tables_1 := List.mem_append_right _ (List.mem_append_right _ (List.mem_append_right _ (List.mem_append_left _ (icX8_number))))
theorem jcX8_word : Cond.code yX8_word cX8_word 2 none ∈ tables_1 := List.mem_append_right _ (List.mem_append_right _ (List.mem_append_right _ (List.mem_append_left _ (icX8_word))))
theorem jcX8_readsHouse : Cond.code yX8_readsHouse cX8_readsHouse 2 none ∈ tables_1 := List.mem_append_right _ (List.mem_append_right _ (List.mem_append_right _ (List.mem_append_left _ (icX8_readsHouse))))
theorem jcX8_readsGull : Cond.code yX8_readsGull cX8_readsGull 2 none ∈ tables_1 := List.mem_append_right _ (List.mem_append_right _ (List.mem_append_right _ (List.mem_append_left _ (icX8_readsGull))))
theorem jcX8_takesAll : Cond.code yX8_takesAll cX8_takesAll 2 none ∈ tables_1 := List.mem_append_right _ (List.mem_append_right _ (List.mem_append_right _ (List.mem_append_left _ (icX8_takesAll))))
theorem jcX8_fault : Cond.code yX8_fault cX8_fault 1 (some .int) ∈ tables_1 := List.mem_append_right _ (List.mem_append_right _ (List.mem_append_right _ (List.mem_append_left _ (icX8_fault))))
theorem jcX8_told : Cond.code yX8_told cX8_told 2 (some .int) ∈ tables_1 := List.mem_append_right _ (List.mem_append_right _ (List.mem_append_right _ (List.mem_append_left _ (icX8_told))))
theorem jcX8_housesSo : Cond.code yX8_housesSo cX8_housesSo 4 (some .int) ∈ tables_1 := List.mem_append_right _ (List.mem_append_right _ (List.mem_append_right _ (List.mem_append_left _ (icX8_housesSo))))
theorem jcX8_debts : Cond.code yX8_debts cX8_debts 3 (some .int) ∈ tables_1 := List.mem_append_right _ (List.mem_append_right _ (List.mem_append_right _ (List.mem_append_left _ (icX8_debts))))
theorem jcX8_isHeld : Cond.code yX8_isHeld cX8_isHeld 2 (some .boolean) ∈ tables_1 := List.mem_append_right _ (List.mem_append_right _ (List.mem_append_right _ (List.mem_append_left _ (icX8_isHeld))))
theorem jcX8_debtOf : Cond.code yX8_debtOf cX8_debtOf 2 (some .int) ∈ tables_1 := List.mem_append_right _ (List.mem_append_right _ (List.mem_append_right _ (List.mem_append_left _ (icX8_debtOf))))
theorem jcX8_astray : Cond.code yX8_astray cX8_astray 3 (some .int) ∈ tables_1 := List.mem_append_right _ (List.mem_append_right _ (List.mem_append_right _ (List.mem_append_left _ (icX8_astray))))
theorem jcX8_holds : Cond.code yX8_holds cX8_holds 3 (some .int) ∈ tables_1 := List.mem_append_right _ (List.mem_append_right _ (List.mem_append_right _ (List.mem_append_left _ (icX8_holds))))
theorem jcX8_gap : Cond.code yX8_gap cX8_gap 3 (some .int) ∈ tables_1 := List.mem_append_right _ (List.mem_append_right _ (List.mem_append_right _ (List.mem_append_left _ (icX8_gap))))
theorem jcX8_worst : Cond.code yX8_worst cX8_worst 3 (some .int) ∈ tables_1 := List.mem_append_right _ (List.mem_append_right _ (List.mem_append_right _ (List.mem_append_left _ (icX8_worst))))
theorem jcX8_house : Cond.code yX8_house cX8_house 3 (some .int) ∈ tables_1 := List.mem_append_right _ (List.mem_append_right _ (List.mem_append_right _ (List.mem_append_left _ (icX8_house))))
theorem jcX8_isHouse : Cond.code yX8_isHouse cX8_isHouse 2 (some .boolean) ∈ tables_1 := List.mem_append_right _ (List.mem_append_right _ (List.mem_append_right _ (List.mem_append_left _ (icX8_isHouse))))
theorem jcX8_gull : Cond.code yX8_gull cX8_gull 3 (some .int) ∈ tables_1 := List.mem_append_right _ (List.mem_append_right _ (List.mem_append_right _ (List.mem_append_left _ (icX8_gull))))
theorem jcX8_isGull : Cond.code yX8_isGull cX8_isGull 2 (some .boolean) ∈ tables_1 := List.mem_append_right _ (List.mem_append_right _ (List.mem_append_right _ (List.mem_append_left _ (icX8_isGull))))
theorem jcX8_ahead : Cond.code yX8_ahead cX8_ahead 2 (some .int) ∈ tables_1 := List.mem_append_right _ (List.mem_append_right _ (List.mem_append_right _ (List.mem_append_left _ (icX8_ahead))))
theorem jcX8_isTold : Cond.code yX8_isTold cX8_isTold 1 (some .boolean) ∈ tables_1 := List.mem_append_right _ (List.mem_append_right _ (List.mem_append_right _ (List.mem_append_left _ (icX8_isTold))))
theorem jcX8_logged : Cond.code yX8_logged cX8_logged 3 (some .int) ∈ tables_1 := List.mem_append_right _ (List.mem_append_right _ (List.mem_append_right _ (List.mem_append_left _ (icX8_logged))))
theorem jcX8_day : Cond.code yX8_day cX8_day 3 (some .int) ∈ tables_1 := List.mem_append_right _ (List.mem_append_right _ (List.mem_append_right _ (List.mem_append_right _ (icX8_day))))
theorem jcX8_notes : Cond.code yX8_notes cX8_notes 2 none ∈ tables_1 := List.mem_append_right _ (List.mem_append_right _ (List.mem_append_right _ (List.mem_append_right _ (icX8_notes))))
theorem jcX8_copies : Cond.code yX8_copies cX8_copies 5 none ∈ tables_1 := List.mem_append_right _ (List.mem_append_right _ (List.mem_append_right _ (List.mem_append_right _ (icX8_copies))))
theorem jcX8_passes : Cond.code yX8_passes cX8_passes 4 none ∈ tables_1 := List.mem_append_right _ (List.mem_append_right _ (List.mem_append_right _ (List.mem_append_right _ (icX8_passes))))
theorem jcX8_lesser : Cond.code yX8_lesser cX8_lesser 2 (some .int) ∈ tables_1 := List.mem_append_right _ (List.mem_append_right _ (List.mem_append_right _ (List.mem_append_right _ (icX8_lesser))))
theorem jcX8_pays : Cond.code yX8_pays cX8_pays 7 none ∈ tables_1 := List.mem_append_right _ (List.mem_append_right _ (List.mem_append_right _ (List.mem_append_right _ (icX8_pays))))
theorem jcX8_cries : Cond.code yX8_cries cX8_cries 4 none ∈ tables_1 := List.mem_append_right _ (List.mem_append_right _ (List.mem_append_right _ (List.mem_append_right _ (icX8_cries))))
theorem jcX8_putsOut : Cond.code yX8_putsOut cX8_putsOut 2 none ∈ tables_1 := List.mem_append_right _ (List.mem_append_right _ (List.mem_append_right _ (List.mem_append_right _ (icX8_putsOut))))
theorem jcX8_pay : Cond.code yX8_pay cX8_pay 3 (some .int) ∈ tables_1 := List.mem_append_right _ (List.mem_append_right _ (List.mem_append_right _ (List.mem_append_right _ (icX8_pay))))
theorem jcX8_canPay : Cond.code yX8_canPay cX8_canPay 3 (some .boolean) ∈ tables_1 := List.mem_append_right _ (List.mem_append_right _ (List.mem_append_right _ (List.mem_append_right _ (icX8_canPay))))
theorem jcX8_paysBy : Cond.code yX8_paysBy cX8_paysBy 3 none ∈ tables_1 := List.mem_append_right _ (List.mem_append_right _ (List.mem_append_right _ (List.mem_append_right _ (icX8_paysBy))))
theorem jcX8_bread : Cond.code yX8_bread cX8_bread 3 (some .int) ∈ tables_1 := List.mem_append_right _ (List.mem_append_right _ (List.mem_append_right _ (List.mem_append_right _ (icX8_bread))))
theorem jcX8_isByBread : Cond.code yX8_isByBread cX8_isByBread 2 (some .boolean) ∈ tables_1 := List.mem_append_right _ (List.mem_append_right _ (List.mem_append_right _ (List.mem_append_right _ (icX8_isByBread))))
theorem jcX8_stone : Cond.code yX8_stone cX8_stone 2 (some .int) ∈ tables_1 := List.mem_append_right _ (List.mem_append_right _ (List.mem_append_right _ (List.mem_append_right _ (icX8_stone))))
theorem jcX8_lend : Cond.code yX8_lend cX8_lend 2 (some .int) ∈ tables_1 := List.mem_append_right _ (List.mem_append_right _ (List.mem_append_right _ (List.mem_append_right _ (icX8_lend))))
theorem jcX8_swap : Cond.code yX8_swap cX8_swap 3 (some .int) ∈ tables_1 := List.mem_append_right _ (List.mem_append_right _ (List.mem_append_right _ (List.mem_append_right _ (icX8_swap))))
theorem jcX8_canSwap : Cond.code yX8_canSwap cX8_canSwap 3 (some .boolean) ∈ tables_1 := List.mem_append_right _ (List.mem_append_right _ (List.mem_append_right _ (List.mem_append_right _ (icX8_canSwap))))
theorem jcX8_swaps : Cond.code yX8_swaps cX8_swaps 4 none ∈ tables_1 := List.mem_append_right _ (List.mem_append_right _ (List.mem_append_right _ (List.mem_append_right _ (icX8_swaps))))
theorem jcX8_drift : Cond.code yX8_drift cX8_drift 3 (some .int) ∈ tables_1 := List.mem_append_right _ (List.mem_append_right _ (List.mem_append_right _ (List.mem_append_right _ (icX8_drift))))
theorem jcX8_draws : Cond.code yX8_draws cX8_draws 4 none ∈ tables_1 := List.mem_append_right _ (List.mem_append_right _ (List.mem_append_right _ (List.mem_append_right _ (icX8_draws))))
theorem jcX8_draw : Cond.code yX8_draw cX8_draw 2 (some .int) ∈ tables_1 := List.mem_append_right _ (List.mem_append_right _ (List.mem_append_right _ (List.mem_append_right _ (icX8_draw))))
theorem jcX8_undo : Cond.code yX8_undo cX8_undo 2 (some .int) ∈ tables_1 := List.mem_append_right _ (List.mem_append_right _ (List.mem_append_right _ (List.mem_append_right _ (icX8_undo))))
theorem jcX8_owes : Cond.code yX8_owes cX8_owes 3 (some .int) ∈ tables_1 := List.mem_append_right _ (List.mem_append_right _ (List.mem_append_right _ (List.mem_append_right _ (icX8_owes))))
theorem jcX8_goesOn : Cond.code yX8_goesOn cX8_goesOn 9 none ∈ tables_1 := List.mem_append_right _ (List.mem_append_right _ (List.mem_append_right _ (List.mem_append_right _ (icX8_goesOn))))
theorem jcX8_has : Cond.code yX8_has cX8_has 2 (some .boolean) ∈ tables_1 := List.mem_append_right _ (List.mem_append_right _ (List.mem_append_right _ (List.mem_append_right _ (icX8_has))))
theorem jcX8_firstOut : Cond.code yX8_firstOut cX8_firstOut 2 (some .int) ∈ tables_1 := List.mem_append_right _ (List.mem_append_right _ (List.mem_append_right _ (List.mem_append_right _ (icX8_firstOut))))
theorem jcX8_outBy : Cond.code yX8_outBy cX8_outBy 2 (some .int) ∈ tables_1 := List.mem_append_right _ (List.mem_append_right _ (List.mem_append_right _ (List.mem_append_right _ (icX8_outBy))))
theorem jcX8_redeemedBy : Cond.code yX8_redeemedBy cX8_redeemedBy 2 (some .int) ∈ tables_1 := List.mem_append_right _ (List.mem_append_right _ (List.mem_append_right _ (List.mem_append_right _ (icX8_redeemedBy))))
theorem jcX8_loan : Cond.code yX8_loan cX8_loan 3 (some .int) ∈ tables_1 := List.mem_append_right _ (List.mem_append_right _ (List.mem_append_right _ (List.mem_append_right _ (icX8_loan))))
theorem jcX8_clear : Cond.code yX8_clear cX8_clear 7 (some .int) ∈ tables_1 := List.mem_append_right _ (List.mem_append_right _ (List.mem_append_right _ (List.mem_append_right _ (icX8_clear))))
theorem jcX8_ones : Cond.code yX8_ones cX8_ones 3 (some .int) ∈ tables_1 := List.mem_append_right _ (List.mem_append_right _ (List.mem_append_right _ (List.mem_append_right _ (icX8_ones))))
theorem jcX8_bestSwap : Cond.code yX8_bestSwap cX8_bestSwap 7 (some .int) ∈ tables_1 := List.mem_append_right _ (List.mem_append_right _ (List.mem_append_right _ (List.mem_append_right _ (icX8_bestSwap))))
theorem jcX8_home : Cond.code yX8_home cX8_home 4 (some .int) ∈ tables_1 := List.mem_append_right _ (List.mem_append_right _ (List.mem_append_right _ (List.mem_append_right _ (icX8_home))))
theorem jcX8_mostBread : Cond.code yX8_mostBread cX8_mostBread 2 (some .int) ∈ tables_1 := List.mem_append_right _ (List.mem_append_right _ (List.mem_append_right _ (List.mem_append_right _ (icX8_mostBread))))
theorem jcX8_sure : Cond.code yX8_sure cX8_sure 6 (some .int) ∈ tables_1 := List.mem_append_right _ (List.mem_append_right _ (List.mem_append_right _ (List.mem_append_right _ (icX8_sure))))
theorem jcX8_hear : Cond.code yX8_hear cX8_hear 4 (some .int) ∈ tables_1 := List.mem_append_right _ (List.mem_append_right _ (List.mem_append_right _ (List.mem_append_right _ (icX8_hear))))
theorem jcX8_gales : Cond.code yX8_gales cX8_gales 2 (some .int) ∈ tables_1 := List.mem_append_right _ (List.mem_append_right _ (List.mem_append_right _ (List.mem_append_right _ (icX8_gales))))
theorem jcX8_finds : Cond.code yX8_finds cX8_finds 5 none ∈ tables_1 := List.mem_append_right _ (List.mem_append_right _ (List.mem_append_right _ (List.mem_append_right _ (icX8_finds))))
theorem jcX8_isHeard : Cond.code yX8_isHeard cX8_isHeard 4 (some .boolean) ∈ tables_1 := List.mem_append_right _ (List.mem_append_right _ (List.mem_append_right _ (List.mem_append_right _ (icX8_isHeard))))
theorem jcX8_wasAt : Cond.code yX8_wasAt cX8_wasAt 5 (some .int) ∈ tables_1 := List.mem_append_right _ (List.mem_append_right _ (List.mem_append_right _ (List.mem_append_right _ (icX8_wasAt))))
theorem jcX8_listen : Cond.code yX8_listen cX8_listen 5 (some .int) ∈ tables_1 := List.mem_append_right _ (List.mem_append_right _ (List.mem_append_right _ (List.mem_append_right _ (icX8_listen))))
theorem jcX8_alike : Cond.code yX8_alike cX8_alike 6 (some .int) ∈ tables_1 := List.mem_append_right _ (List.mem_append_right _ (List.mem_append_right _ (List.mem_append_right _ (icX8_alike))))
theorem jcX8_whoAt : Cond.code yX8_whoAt cX8_whoAt 4 (some .int) ∈ tables_1 := List.mem_append_right _ (List.mem_append_right _ (List.mem_append_right _ (List.mem_append_right _ (icX8_whoAt))))
theorem jcX8_write : Cond.code yX8_write cX8_write 3 (some .int) ∈ tables_1 := List.mem_append_right _ (List.mem_append_right _ (List.mem_append_right _ (List.mem_append_right _ (icX8_write))))
theorem jcX8_judge : Cond.code yX8_judge cX8_judge 2 (some .int) ∈ tables_1 := List.mem_append_right _ (List.mem_append_right _ (List.mem_append_right _ (List.mem_append_right _ (icX8_judge))))
theorem jcX8_tear : Cond.code yX8_tear cX8_tear 2 (some .int) ∈ tables_1 := List.mem_append_right _ (List.mem_append_right _ (List.mem_append_right _ (List.mem_append_right _ (icX8_tear))))
theorem jcX8_seed : Cond.code yX8_seed cX8_seed 3 (some .int) ∈ tables_1 := List.mem_append_right _ (List.mem_append_right _ (List.mem_append_right _ (List.mem_append_right _ (icX8_seed))))
theorem jcX8_keep : Cond.code yX8_keep cX8_keep 2 (some .int) ∈ tables_1 := List.mem_append_right _ (List.mem_append_right _ (List.mem_append_right _ (List.mem_append_right _ (icX8_keep))))
theorem jcX8_goBack : Cond.code yX8_goBack cX8_goBack 2 (some .int) ∈ tables_1 := List.mem_append_right _ (List.mem_append_right _ (List.mem_append_right _ (List.mem_append_right _ (icX8_goBack))))
theorem kc_0 : ∀ q ∈ mtab_0, okB q := List.forall_mem_cons.mpr ⟨⟨jcX7_init, rfl⟩, List.forall_mem_cons.mpr ⟨⟨jcX4_init, rfl⟩, List.forall_mem_cons.mpr ⟨⟨jcX6_init, rfl⟩, List.forall_mem_cons.mpr ⟨⟨jcX5_init, rfl⟩, List.forall_mem_cons.mpr ⟨⟨jcX5_begin, rfl⟩, List.forall_mem_cons.mpr ⟨⟨jcX3_init, rfl⟩, List.forall_mem_cons.mpr ⟨⟨jcX2_init, rfl⟩, List.forall_mem_cons.mpr ⟨⟨jcX1_init, rfl⟩, List.forall_mem_cons.mpr ⟨⟨jcX0_init, rfl⟩, List.forall_mem_cons.mpr ⟨⟨jcX7_feed, rfl⟩, List.forall_mem_cons.mpr ⟨⟨jcX7_isOutside, rfl⟩, List.forall_mem_cons.mpr ⟨⟨jcX6_append, rfl⟩, List.forall_mem_cons.mpr ⟨⟨jcX7_row, rfl⟩, List.forall_mem_cons.mpr ⟨⟨jcX6_readInto, rfl⟩, List.forall_mem_cons.mpr ⟨⟨jcX4_wipe, rfl⟩, List.forall_mem_cons.mpr ⟨⟨jcX6_skipBlanks, rfl⟩, fun _ h => absurd h List.not_mem_nil⟩⟩⟩⟩⟩⟩⟩⟩⟩⟩⟩⟩⟩⟩⟩⟩
theorem kc_1 : ∀ q ∈ mtab_1, okB q := List.forall_mem_cons.mpr ⟨⟨jcX6_readClause, rfl⟩, List.forall_mem_cons.mpr ⟨⟨jcX6_letterHere, rfl⟩, List.forall_mem_cons.mpr ⟨⟨jcX4_isTold, rfl⟩, List.forall_mem_cons.mpr ⟨⟨jcX6_readCatches, rfl⟩, List.forall_mem_cons.mpr ⟨⟨jcX6_fail, rfl⟩, List.forall_mem_cons.mpr ⟨⟨jcX6_readNumber, rfl⟩, List.forall_mem_cons.mpr ⟨⟨jcX6_isFigure, rfl⟩, List.forall_mem_cons.mpr ⟨⟨jcX6_isNext, rfl⟩, List.forall_mem_cons.mpr ⟨⟨jcX6_readEnd, rfl⟩, List.forall_mem_cons.mpr ⟨⟨jcX6_readHouse, rfl⟩, List.forall_mem_cons.mpr ⟨⟨jcX6_readGull, rfl⟩, List.forall_mem_cons.mpr ⟨⟨jcX3_forget, rfl⟩, List.forall_mem_cons.mpr ⟨⟨jcX7_fault, rfl⟩, List.forall_mem_cons.mpr ⟨⟨jcX7_told, rfl⟩, List.forall_mem_cons.mpr ⟨⟨jcX5_heldSet, rfl⟩, List.forall_mem_cons.mpr ⟨⟨jcX5_gullHeldSet, rfl⟩, fun _ h => absurd h List.not_mem_nil⟩⟩⟩⟩⟩⟩⟩⟩⟩⟩⟩⟩⟩⟩⟩⟩
theorem kc_2 : ∀ q ∈ mtab_2, okB q := List.forall_mem_cons.mpr ⟨⟨jcX5_freeSet, rfl⟩, List.forall_mem_cons.mpr ⟨⟨jcX5_debtOfHeld, rfl⟩, List.forall_mem_cons.mpr ⟨⟨jcX5_isHeld, rfl⟩, List.forall_mem_cons.mpr ⟨⟨jcX5_isEmpty, rfl⟩, List.forall_mem_cons.mpr ⟨⟨jcX7_isIn, rfl⟩, List.forall_mem_cons.mpr ⟨⟨jcX5_astray, rfl⟩, List.forall_mem_cons.mpr ⟨⟨jcX5_gap, rfl⟩, List.forall_mem_cons.mpr ⟨⟨jcX5_worst, rfl⟩, List.forall_mem_cons.mpr ⟨⟨jcX7_house, rfl⟩, List.forall_mem_cons.mpr ⟨⟨jcX4_isHouse, rfl⟩, List.forall_mem_cons.mpr ⟨⟨jcX5_standing, rfl⟩, List.forall_mem_cons.mpr ⟨⟨jcX7_gull, rfl⟩, List.forall_mem_cons.mpr ⟨⟨jcX4_isGull, rfl⟩, List.forall_mem_cons.mpr ⟨⟨jcX5_houseOf, rfl⟩, List.forall_mem_cons.mpr ⟨⟨jcX7_ahead, rfl⟩, List.forall_mem_cons.mpr ⟨⟨jcX4_catchOf, rfl⟩, fun _ h => absurd h List.not_mem_nil⟩⟩⟩⟩⟩⟩⟩⟩⟩⟩⟩⟩⟩⟩⟩⟩
theorem kc_3 : ∀ q ∈ mtab_3, okB q := List.forall_mem_cons.mpr ⟨⟨jcX7_logged, rfl⟩, List.forall_mem_cons.mpr ⟨⟨jcX5_cryAt, rfl⟩, List.forall_mem_cons.mpr ⟨⟨jcX7_day, rfl⟩, List.forall_mem_cons.mpr ⟨⟨jcX7_refusalOfDays, rfl⟩, List.forall_mem_cons.mpr ⟨⟨jcX3_remember, rfl⟩, List.forall_mem_cons.mpr ⟨⟨jcX5_copyFrom, rfl⟩, List.forall_mem_cons.mpr ⟨⟨jcX5_passDay, rfl⟩, List.forall_mem_cons.mpr ⟨⟨jcX5_addHeads, rfl⟩, List.forall_mem_cons.mpr ⟨⟨jcX5_firstTurn, rfl⟩, List.forall_mem_cons.mpr ⟨⟨jcX5_takeTurn, rfl⟩, List.forall_mem_cons.mpr ⟨⟨jcX5_cryOut, rfl⟩, List.forall_mem_cons.mpr ⟨⟨jcX5_countGoodDay, rfl⟩, List.forall_mem_cons.mpr ⟨⟨jcX5_evict, rfl⟩, List.forall_mem_cons.mpr ⟨⟨jcX7_pay, rfl⟩, List.forall_mem_cons.mpr ⟨⟨jcX5_canPay, rfl⟩, List.forall_mem_cons.mpr ⟨⟨jcX5_payByHand, rfl⟩, fun _ h => absurd h List.not_mem_nil⟩⟩⟩⟩⟩⟩⟩⟩⟩⟩⟩⟩⟩⟩⟩⟩
theorem kc_4 : ∀ q ∈ mtab_4, okB q := List.forall_mem_cons.mpr ⟨⟨jcX7_bread, rfl⟩, List.forall_mem_cons.mpr ⟨⟨jcX5_eatsBread, rfl⟩, List.forall_mem_cons.mpr ⟨⟨jcX5_payByBread, rfl⟩, List.forall_mem_cons.mpr ⟨⟨jcX7_stone, rfl⟩, List.forall_mem_cons.mpr ⟨⟨jcX7_lend, rfl⟩, List.forall_mem_cons.mpr ⟨⟨jcX7_swap, rfl⟩, List.forall_mem_cons.mpr ⟨⟨jcX5_canExchange, rfl⟩, List.forall_mem_cons.mpr ⟨⟨jcX5_exchange, rfl⟩, List.forall_mem_cons.mpr ⟨⟨jcX7_drift, rfl⟩, List.forall_mem_cons.mpr ⟨⟨jcX7_drawDeed, rfl⟩, List.forall_mem_cons.mpr ⟨⟨jcX7_draw, rfl⟩, List.forall_mem_cons.mpr ⟨⟨jcX7_undo, rfl⟩, List.forall_mem_cons.mpr ⟨⟨jcX3_bringBack, rfl⟩, List.forall_mem_cons.mpr ⟨⟨jcX7_owes, rfl⟩, List.forall_mem_cons.mpr ⟨⟨jcX7_tryDays, rfl⟩, List.forall_mem_cons.mpr ⟨⟨jcX5_passDays, rfl⟩, fun _ h => absurd h List.not_mem_nil⟩⟩⟩⟩⟩⟩⟩⟩⟩⟩⟩⟩⟩⟩⟩⟩
theorem kc_5 : ∀ q ∈ mtab_5, okB q := List.forall_mem_cons.mpr ⟨⟨jcX7_firstOut, rfl⟩, List.forall_mem_cons.mpr ⟨⟨jcX7_newlyEmpty, rfl⟩, List.forall_mem_cons.mpr ⟨⟨jcX7_firstInTurn, rfl⟩, List.forall_mem_cons.mpr ⟨⟨jcX7_outBy, rfl⟩, List.forall_mem_cons.mpr ⟨⟨jcX7_redeemedBy, rfl⟩, List.forall_mem_cons.mpr ⟨⟨jcX7_loan, rfl⟩, List.forall_mem_cons.mpr ⟨⟨jcX7_loanDoes, rfl⟩, List.forall_mem_cons.mpr ⟨⟨jcX7_clear, rfl⟩, List.forall_mem_cons.mpr ⟨⟨jcJ6_bitCount_0f7a4, rfl⟩, List.forall_mem_cons.mpr ⟨⟨jcX5_canClear, rfl⟩, List.forall_mem_cons.mpr ⟨⟨jcX7_bestSwap, rfl⟩, List.forall_mem_cons.mpr ⟨⟨jcX7_putOutBySwap, rfl⟩, List.forall_mem_cons.mpr ⟨⟨jcX7_home, rfl⟩, List.forall_mem_cons.mpr ⟨⟨jcX7_mostBread, rfl⟩, List.forall_mem_cons.mpr ⟨⟨jcX7_sure, rfl⟩, List.forall_mem_cons.mpr ⟨⟨jcX7_hear, rfl⟩, fun _ h => absurd h List.not_mem_nil⟩⟩⟩⟩⟩⟩⟩⟩⟩⟩⟩⟩⟩⟩⟩⟩
theorem kc_6 : ∀ q ∈ mtab_6, okB q := List.forall_mem_cons.mpr ⟨⟨jcX1_take, rfl⟩, List.forall_mem_cons.mpr ⟨⟨jcX7_gales, rfl⟩, List.forall_mem_cons.mpr ⟨⟨jcX1_findGales, rfl⟩, List.forall_mem_cons.mpr ⟨⟨jcX1_addIfFitting, rfl⟩, List.forall_mem_cons.mpr ⟨⟨jcX1_gullThen, rfl⟩, List.forall_mem_cons.mpr ⟨⟨jcX7_listen, rfl⟩, List.forall_mem_cons.mpr ⟨⟨jcX1_greatestPart, rfl⟩, List.forall_mem_cons.mpr ⟨⟨jcX7_write, rfl⟩, List.forall_mem_cons.mpr ⟨⟨jcX0_enter, rfl⟩, List.forall_mem_cons.mpr ⟨⟨jcX7_judge, rfl⟩, List.forall_mem_cons.mpr ⟨⟨jcX0_firstWrong, rfl⟩, List.forall_mem_cons.mpr ⟨⟨jcX7_tear, rfl⟩, List.forall_mem_cons.mpr ⟨⟨jcX7_seed, rfl⟩, List.forall_mem_cons.mpr ⟨⟨jcX7_keep, rfl⟩, List.forall_mem_cons.mpr ⟨⟨jcX7_goBack, rfl⟩, List.forall_mem_cons.mpr ⟨⟨jcX8_init, rfl⟩, fun _ h => absurd h List.not_mem_nil⟩⟩⟩⟩⟩⟩⟩⟩⟩⟩⟩⟩⟩⟩⟩⟩
theorem kc_7 : ∀ q ∈ mtab_7, okB q := List.forall_mem_cons.mpr ⟨⟨jcX8_feed, rfl⟩, List.forall_mem_cons.mpr ⟨⟨jcX8_in, rfl⟩, List.forall_mem_cons.mpr ⟨⟨jcX8_row, rfl⟩, List.forall_mem_cons.mpr ⟨⟨jcX8_skips, rfl⟩, List.forall_mem_cons.mpr ⟨⟨jcX8_look, rfl⟩, List.forall_mem_cons.mpr ⟨⟨jcX8_reads, rfl⟩, List.forall_mem_cons.mpr ⟨⟨jcX8_readsCatches, rfl⟩, List.forall_mem_cons.mpr ⟨⟨jcX8_fails, rfl⟩, List.forall_mem_cons.mpr ⟨⟨jcX8_number, rfl⟩, List.forall_mem_cons.mpr ⟨⟨jcX8_word, rfl⟩, List.forall_mem_cons.mpr ⟨⟨jcX8_readsHouse, rfl⟩, List.forall_mem_cons.mpr ⟨⟨jcX8_readsGull, rfl⟩, List.forall_mem_cons.mpr ⟨⟨jcX8_takesAll, rfl⟩, List.forall_mem_cons.mpr ⟨⟨jcX8_fault, rfl⟩, List.forall_mem_cons.mpr ⟨⟨jcX8_told, rfl⟩, List.forall_mem_cons.mpr ⟨⟨jcX8_housesSo, rfl⟩, fun _ h => absurd h List.not_mem_nil⟩⟩⟩⟩⟩⟩⟩⟩⟩⟩⟩⟩⟩⟩⟩⟩
theorem kc_8 : ∀ q ∈ mtab_8, okB q := List.forall_mem_cons.mpr ⟨⟨jcX8_debts, rfl⟩, List.forall_mem_cons.mpr ⟨⟨jcX8_isHeld, rfl⟩, List.forall_mem_cons.mpr ⟨⟨jcX8_debtOf, rfl⟩, List.forall_mem_cons.mpr ⟨⟨jcX8_astray, rfl⟩, List.forall_mem_cons.mpr ⟨⟨jcX8_holds, rfl⟩, List.forall_mem_cons.mpr ⟨⟨jcX8_gap, rfl⟩, List.forall_mem_cons.mpr ⟨⟨jcX8_worst, rfl⟩, List.forall_mem_cons.mpr ⟨⟨jcX8_house, rfl⟩, List.forall_mem_cons.mpr ⟨⟨jcX8_isHouse, rfl⟩, List.forall_mem_cons.mpr ⟨⟨jcX8_gull, rfl⟩, List.forall_mem_cons.mpr ⟨⟨jcX8_isGull, rfl⟩, List.forall_mem_cons.mpr ⟨⟨jcX8_ahead, rfl⟩, List.forall_mem_cons.mpr ⟨⟨jcX8_isTold, rfl⟩, List.forall_mem_cons.mpr ⟨⟨jcX8_logged, rfl⟩, List.forall_mem_cons.mpr ⟨⟨jcX8_day, rfl⟩, List.forall_mem_cons.mpr ⟨⟨jcX8_notes, rfl⟩, fun _ h => absurd h List.not_mem_nil⟩⟩⟩⟩⟩⟩⟩⟩⟩⟩⟩⟩⟩⟩⟩⟩
theorem kc_9 : ∀ q ∈ mtab_9, okB q := List.forall_mem_cons.mpr ⟨⟨jcX8_copies, rfl⟩, List.forall_mem_cons.mpr ⟨⟨jcX8_passes, rfl⟩, List.forall_mem_cons.mpr ⟨⟨jcX8_lesser, rfl⟩, List.forall_mem_cons.mpr ⟨⟨jcX8_pays, rfl⟩, List.forall_mem_cons.mpr ⟨⟨jcX8_cries, rfl⟩, List.forall_mem_cons.mpr ⟨⟨jcX8_putsOut, rfl⟩, List.forall_mem_cons.mpr ⟨⟨jcX8_pay, rfl⟩, List.forall_mem_cons.mpr ⟨⟨jcX8_canPay, rfl⟩, List.forall_mem_cons.mpr ⟨⟨jcX8_paysBy, rfl⟩, List.forall_mem_cons.mpr ⟨⟨jcX8_bread, rfl⟩, List.forall_mem_cons.mpr ⟨⟨jcX8_isByBread, rfl⟩, List.forall_mem_cons.mpr ⟨⟨jcX8_stone, rfl⟩, List.forall_mem_cons.mpr ⟨⟨jcX8_lend, rfl⟩, List.forall_mem_cons.mpr ⟨⟨jcX8_swap, rfl⟩, List.forall_mem_cons.mpr ⟨⟨jcX8_canSwap, rfl⟩, List.forall_mem_cons.mpr ⟨⟨jcX8_swaps, rfl⟩, fun _ h => absurd h List.not_mem_nil⟩⟩⟩⟩⟩⟩⟩⟩⟩⟩⟩⟩⟩⟩⟩⟩
theorem kc_10 : ∀ q ∈ mtab_10, okB q := List.forall_mem_cons.mpr ⟨⟨jcX8_drift, rfl⟩, List.forall_mem_cons.mpr ⟨⟨jcX8_draws, rfl⟩, List.forall_mem_cons.mpr ⟨⟨jcX8_draw, rfl⟩, List.forall_mem_cons.mpr ⟨⟨jcX8_undo, rfl⟩, List.forall_mem_cons.mpr ⟨⟨jcX8_owes, rfl⟩, List.forall_mem_cons.mpr ⟨⟨jcX8_goesOn, rfl⟩, List.forall_mem_cons.mpr ⟨⟨jcX8_has, rfl⟩, List.forall_mem_cons.mpr ⟨⟨jcX8_firstOut, rfl⟩, List.forall_mem_cons.mpr ⟨⟨jcX8_outBy, rfl⟩, List.forall_mem_cons.mpr ⟨⟨jcX8_redeemedBy, rfl⟩, List.forall_mem_cons.mpr ⟨⟨jcX8_loan, rfl⟩, List.forall_mem_cons.mpr ⟨⟨jcX8_clear, rfl⟩, List.forall_mem_cons.mpr ⟨⟨jcX8_ones, rfl⟩, List.forall_mem_cons.mpr ⟨⟨jcX8_bestSwap, rfl⟩, List.forall_mem_cons.mpr ⟨⟨jcX8_home, rfl⟩, List.forall_mem_cons.mpr ⟨⟨jcX8_mostBread, rfl⟩, fun _ h => absurd h List.not_mem_nil⟩⟩⟩⟩⟩⟩⟩⟩⟩⟩⟩⟩⟩⟩⟩⟩
theorem kc_11 : ∀ q ∈ mtab_11, okB q := List.forall_mem_cons.mpr ⟨⟨jcX8_sure, rfl⟩, List.forall_mem_cons.mpr ⟨⟨jcX8_hear, rfl⟩, List.forall_mem_cons.mpr ⟨⟨jcX8_gales, rfl⟩, List.forall_mem_cons.mpr ⟨⟨jcX8_finds, rfl⟩, List.forall_mem_cons.mpr ⟨⟨jcX8_isHeard, rfl⟩, List.forall_mem_cons.mpr ⟨⟨jcX8_wasAt, rfl⟩, List.forall_mem_cons.mpr ⟨⟨jcX8_listen, rfl⟩, List.forall_mem_cons.mpr ⟨⟨jcX8_alike, rfl⟩, List.forall_mem_cons.mpr ⟨⟨jcX8_whoAt, rfl⟩, List.forall_mem_cons.mpr ⟨⟨jcX8_write, rfl⟩, List.forall_mem_cons.mpr ⟨⟨jcX8_judge, rfl⟩, List.forall_mem_cons.mpr ⟨⟨jcX8_tear, rfl⟩, List.forall_mem_cons.mpr ⟨⟨jcX8_seed, rfl⟩, List.forall_mem_cons.mpr ⟨⟨jcX8_keep, rfl⟩, List.forall_mem_cons.mpr ⟨⟨jcX8_goBack, rfl⟩, fun _ h => absurd h List.not_mem_nil⟩⟩⟩⟩⟩⟩⟩⟩⟩⟩⟩⟩⟩⟩⟩
theorem kc_all : ∀ q ∈ mtab, okB q := by
  show ∀ q ∈ mtab_0 ++ (mtab_1 ++ (mtab_2 ++ (mtab_3 ++ (mtab_4 ++ (mtab_5 ++ (mtab_6 ++ (mtab_7 ++ (mtab_8 ++ (mtab_9 ++ (mtab_10 ++ (mtab_11))))))))))), okB q
  exact List.forall_mem_append.mpr ⟨kc_0, List.forall_mem_append.mpr ⟨kc_1, List.forall_mem_append.mpr ⟨kc_2, List.forall_mem_append.mpr ⟨kc_3, List.forall_mem_append.mpr ⟨kc_4, List.forall_mem_append.mpr ⟨kc_5, List.forall_mem_append.mpr ⟨kc_6, List.forall_mem_append.mpr ⟨kc_7, List.forall_mem_append.mpr ⟨kc_8, List.forall_mem_append.mpr ⟨kc_9, List.forall_mem_append.mpr ⟨kc_10, kc_11⟩⟩⟩⟩⟩⟩⟩⟩⟩⟩⟩
