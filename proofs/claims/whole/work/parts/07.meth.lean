/-! ## methods, cells, links: read off the tables by wip/gen/mk07.py -/
abbrev mX0_init : Mt_ := (yX0_init, (cX0_init, (4, (none, (0, 0)))))
abbrev mX0_weigh : Mt_ := (yX0_weigh, (cX0_weigh, (2, (none, (4, 124)))))
abbrev mX0_shipToPress : Mt_ := (yX0_shipToPress, (cX0_shipToPress, (5, (some .int, (4, 126)))))
abbrev mX0_fitsAllSeen : Mt_ := (yX0_fitsAllSeen, (cX0_fitsAllSeen, (3, (some .boolean, (3, 102)))))
abbrev mX0_greatestGroup : Mt_ := (yX0_greatestGroup, (cX0_greatestGroup, (5, (some .int, (3, 102)))))
abbrev mX1_init : Mt_ := (yX1_init, (cX1_init, (1, (none, (0, 0)))))
abbrev mX1_hasShip : Mt_ := (yX1_hasShip, (cX1_hasShip, (2, (some .boolean, (0, 0)))))
abbrev mX1_hasName : Mt_ := (yX1_hasName, (cX1_hasName, (2, (some .boolean, (0, 0)))))
abbrev mX1_hasLine : Mt_ := (yX1_hasLine, (cX1_hasLine, (2, (some .boolean, (0, 0)))))
abbrev mX1_isDrowned : Mt_ := (yX1_isDrowned, (cX1_isDrowned, (2, (some .boolean, (0, 0)))))
abbrev mX1_settleShips : Mt_ := (yX1_settleShips, (cX1_settleShips, (4, (none, (8, 170)))))
abbrev mX1_settleNames : Mt_ := (yX1_settleNames, (cX1_settleNames, (5, (none, (8, 170)))))
abbrev mX1_settleLines : Mt_ := (yX1_settleLines, (cX1_settleLines, (4, (none, (8, 170)))))
abbrev mX1_strikeOut : Mt_ := (yX1_strikeOut, (cX1_strikeOut, (4, (none, (3, 69)))))
abbrev mX1_bearerOf : Mt_ := (yX1_bearerOf, (cX1_bearerOf, (6, (some .int, (1, 21)))))
abbrev mX1_isVoid : Mt_ := (yX1_isVoid, (cX1_isVoid, (4, (some .boolean, (1, 21)))))
abbrev mX1_dueOfLine : Mt_ := (yX1_dueOfLine, (cX1_dueOfLine, (6, (some .int, (2, 44)))))
abbrev mX1_namesBorneBy : Mt_ := (yX1_namesBorneBy, (cX1_namesBorneBy, (4, (some .int, (0, 0)))))
abbrev mX1_dueOf : Mt_ := (yX1_dueOf, (cX1_dueOf, (5, (some .int, (0, 0)))))
abbrev mX1_dueOfAllShips : Mt_ := (yX1_dueOfAllShips, (cX1_dueOfAllShips, (4, (some .int, (1, 24)))))
abbrev mX1_hasTogether : Mt_ := (yX1_hasTogether, (cX1_hasTogether, (4, (some .int, (0, 0)))))
abbrev mX1_chancesOf : Mt_ := (yX1_chancesOf, (cX1_chancesOf, (5, (some .int, (0, 0)))))
abbrev mX2_init : Mt_ := (yX2_init, (cX2_init, (2, (none, (0, 0)))))
abbrev mX2_isFull : Mt_ := (yX2_isFull, (cX2_isFull, (1, (some .boolean, (0, 0)))))
abbrev mX2_append : Mt_ := (yX2_append, (cX2_append, (3, (some .int, (1, 20)))))
abbrev mX3_init : Mt_ := (yX3_init, (cX3_init, (2, (none, (0, 0)))))
abbrev mX3_followTold : Mt_ := (yX3_followTold, (cX3_followTold, (5, (none, (2, 80)))))
abbrev mX3_followLots : Mt_ := (yX3_followLots, (cX3_followLots, (6, (none, (2, 80)))))
abbrev mX3_loseTogether : Mt_ := (yX3_loseTogether, (cX3_loseTogether, (3, (none, (2, 80)))))
abbrev mX3_loseAlone : Mt_ := (yX3_loseAlone, (cX3_loseAlone, (3, (some .int, (2, 80)))))
abbrev mX3_begin : Mt_ := (yX3_begin, (cX3_begin, (1, (none, (1, 60)))))
abbrev mX3_isLost : Mt_ := (yX3_isLost, (cX3_isLost, (2, (some .boolean, (0, 0)))))
abbrev mX3_sink : Mt_ := (yX3_sink, (cX3_sink, (8, (none, (1, 22)))))
abbrev mX3_breakName : Mt_ := (yX3_breakName, (cX3_breakName, (3, (none, (0, 0)))))
abbrev mX4_init : Mt_ := (yX4_init, (cX4_init, (1, (none, (0, 0)))))
abbrev mX4_renew : Mt_ := (yX4_renew, (cX4_renew, (3, (none, (1, 23)))))
abbrev mX4_findingAt : Mt_ := (yX4_findingAt, (cX4_findingAt, (3, (some .int, (0, 0)))))
abbrev mX4_hasRange : Mt_ := (yX4_hasRange, (cX4_hasRange, (3, (some .boolean, (0, 0)))))
abbrev mX4_put : Mt_ := (yX4_put, (cX4_put, (3, (none, (1, 21)))))
abbrev mX4_narrowed : Mt_ := (yX4_narrowed, (cX4_narrowed, (2, (some .int, (0, 0)))))
abbrev mX5_init : Mt_ := (yX5_init, (cX5_init, (3, (none, (2, 40)))))
abbrev mX5_isFull : Mt_ := (yX5_isFull, (cX5_isFull, (1, (some .boolean, (0, 0)))))
abbrev mX5_append : Mt_ := (yX5_append, (cX5_append, (2, (none, (1, 20)))))
abbrev mX5_byteAt : Mt_ := (yX5_byteAt, (cX5_byteAt, (2, (some .int, (0, 0)))))
abbrev mX5_figureAt : Mt_ := (yX5_figureAt, (cX5_figureAt, (2, (some .int, (1, 21)))))
abbrev mX5_figuresAt : Mt_ := (yX5_figuresAt, (cX5_figuresAt, (2, (some .int, (2, 42)))))
abbrev mX5_faultPlace : Mt_ := (yX5_faultPlace, (cX5_faultPlace, (2, (some .int, (6, 129)))))
abbrev mX5_items : Mt_ := (yX5_items, (cX5_items, (1, (some .int, (7, 150)))))
abbrev mX5_goesOnAt : Mt_ := (yX5_goesOnAt, (cX5_goesOnAt, (4, (some .boolean, (5, 106)))))
abbrev mX5_isBetween : Mt_ := (yX5_isBetween, (cX5_isBetween, (3, (some .boolean, (0, 0)))))
abbrev mX6_init : Mt_ := (yX6_init, (cX6_init, (5, (none, (3, 62)))))
abbrev mX6_type : Mt_ := (yX6_type, (cX6_type, (4, (some .int, (10, 214)))))
abbrev mX6_wipe : Mt_ := (yX6_wipe, (cX6_wipe, (4, (some .int, (10, 214)))))
abbrev mX6_undo : Mt_ := (yX6_undo, (cX6_undo, (3, (some .int, (10, 214)))))
abbrev mX6_fault : Mt_ := (yX6_fault, (cX6_fault, (3, (some .int, (7, 150)))))
abbrev mX6_ship : Mt_ := (yX6_ship, (cX6_ship, (3, (some .int, (1, 21)))))
abbrev mX6_name : Mt_ := (yX6_name, (cX6_name, (3, (some .int, (1, 21)))))
abbrev mX6_line : Mt_ := (yX6_line, (cX6_line, (3, (some .int, (1, 21)))))
abbrev mX6_struck : Mt_ := (yX6_struck, (cX6_struck, (3, (some .int, (10, 214)))))
abbrev mX6_loss : Mt_ := (yX6_loss, (cX6_loss, (3, (some .int, (3, 62)))))
abbrev mX6_back : Mt_ := (yX6_back, (cX6_back, (1, (some .int, (0, 0)))))
abbrev mX6_read : Mt_ := (yX6_read, (cX6_read, (5, (some .int, (3, 62)))))
abbrev mX6_bearer : Mt_ := (yX6_bearer, (cX6_bearer, (3, (some .int, (1, 23)))))
abbrev mX6_borne : Mt_ := (yX6_borne, (cX6_borne, (3, (some .int, (1, 24)))))
abbrev mX6_unborne : Mt_ := (yX6_unborne, (cX6_unborne, (2, (some .int, (1, 24)))))
abbrev mX6_left : Mt_ := (yX6_left, (cX6_left, (3, (some .int, (3, 104)))))
abbrev mX6_behind : Mt_ := (yX6_behind, (cX6_behind, (3, (some .int, (3, 104)))))
abbrev mX6_paid : Mt_ := (yX6_paid, (cX6_paid, (3, (some .int, (3, 104)))))
abbrev mX6_first : Mt_ := (yX6_first, (cX6_first, (2, (some .int, (3, 104)))))
abbrev mX6_safe : Mt_ := (yX6_safe, (cX6_safe, (3, (some .int, (3, 102)))))
abbrev mX6_take : Mt_ := (yX6_take, (cX6_take, (7, (some .int, (1, 23)))))
abbrev mX6_strike : Mt_ := (yX6_strike, (cX6_strike, (5, (some .int, (4, 92)))))
abbrev mX6_seen : Mt_ := (yX6_seen, (cX6_seen, (3, (some .int, (2, 42)))))
abbrev mX6_forget : Mt_ := (yX6_forget, (cX6_forget, (2, (some .int, (0, 0)))))
abbrev mX6_sound : Mt_ := (yX6_sound, (cX6_sound, (2, (some .int, (5, 145)))))
abbrev mX6_press : Mt_ := (yX6_press, (cX6_press, (1, (some .int, (5, 150)))))
abbrev mX6_fair : Mt_ := (yX6_fair, (cX6_fair, (5, (some .long, (1, 24)))))
abbrev mX6_storm : Mt_ := (yX6_storm, (cX6_storm, (8, (some .long, (3, 102)))))
abbrev mX6_years : Mt_ := (yX6_years, (cX6_years, (5, (some .int, (3, 105)))))
abbrev mX6_sheet : Mt_ := (yX6_sheet, (cX6_sheet, (5, (some .int, (2, 45)))))
abbrev mX6_lose : Mt_ := (yX6_lose, (cX6_lose, (3, (some .int, (2, 42)))))
abbrev mX6_lay : Mt_ := (yX6_lay, (cX6_lay, (7, (some .int, (2, 43)))))
abbrev mX6_get : Mt_ := (yX6_get, (cX6_get, (6, (some .int, (2, 42)))))
abbrev mX6_copy : Mt_ := (yX6_copy, (cX6_copy, (8, (some .int, (2, 60)))))
abbrev mX6_write : Mt_ := (yX6_write, (cX6_write, (6, (some .int, (3, 104)))))
abbrev mX6_count : Mt_ := (yX6_count, (cX6_count, (2, (some .int, (0, 0)))))
abbrev mX6_digest : Mt_ := (yX6_digest, (cX6_digest, (5, (some .long, (8, 172)))))
abbrev mX6_withShip : Mt_ := (yX6_withShip, (cX6_withShip, (6, (some .long, (4, 126)))))
abbrev mX6_withName : Mt_ := (yX6_withName, (cX6_withName, (7, (some .long, (5, 129)))))
abbrev mX6_withYear : Mt_ := (yX6_withYear, (cX6_withYear, (6, (some .long, (4, 126)))))
abbrev mX6_textAt : Mt_ := (yX6_textAt, (cX6_textAt, (2, (some (.object "DrownedNames$Text"), (0, 0)))))
abbrev mX6_sheetAt : Mt_ := (yX6_sheetAt, (cX6_sheetAt, (2, (some (.object "DrownedNames$Sheet"), (1, 21)))))
abbrev mX6_settle : Mt_ := (yX6_settle, (cX6_settle, (1, (none, (9, 194)))))
abbrev mX6_found : Mt_ := (yX6_found, (cX6_found, (2, (some .int, (0, 0)))))
abbrev mX6_isWithin : Mt_ := (yX6_isWithin, (cX6_isWithin, (2, (some .boolean, (0, 0)))))
abbrev mX6_isYear : Mt_ := (yX6_isYear, (cX6_isYear, (1, (some .boolean, (1, 21)))))
abbrev mX6_isForm : Mt_ := (yX6_isForm, (cX6_isForm, (1, (some .boolean, (1, 21)))))
abbrev mX6_isLoss : Mt_ := (yX6_isLoss, (cX6_isLoss, (2, (some .boolean, (2, 41)))))
abbrev mX6_partOfFraction : Mt_ := (yX6_partOfFraction, (cX6_partOfFraction, (5, (some .long, (0, 0)))))
abbrev mX7_init : Mt_ := (yX7_init, (cX7_init, (2, (none, (0, 0)))))
abbrev mX7_in : Mt_ := (yX7_in, (cX7_in, (6, (some .boolean, (0, 0)))))
abbrev mX7_no : Mt_ := (yX7_no, (cX7_no, (1, (some .long, (0, 0)))))
abbrev mX7_isTwo : Mt_ := (yX7_isTwo, (cX7_isTwo, (1, (some .boolean, (1, 25)))))
abbrev mX7_isIn : Mt_ := (yX7_isIn, (cX7_isIn, (2, (some .boolean, (0, 0)))))
abbrev mX7_ones : Mt_ := (yX7_ones, (cX7_ones, (3, (some .int, (0, 0)))))
abbrev mX7_lesser : Mt_ := (yX7_lesser, (cX7_lesser, (2, (some .int, (0, 0)))))
abbrev mX7_part : Mt_ := (yX7_part, (cX7_part, (11, (some .long, (0, 0)))))
abbrev mX7_finds : Mt_ := (yX7_finds, (cX7_finds, (2, (some .int, (0, 0)))))
abbrev mX7_isSheet : Mt_ := (yX7_isSheet, (cX7_isSheet, (1, (some .boolean, (1, 25)))))
abbrev mX7_sheet : Mt_ := (yX7_sheet, (cX7_sheet, (5, (some .int, (2, 45)))))
abbrev mX7_lose : Mt_ := (yX7_lose, (cX7_lose, (2, (some .int, (2, 45)))))
abbrev mX7_lacks : Mt_ := (yX7_lacks, (cX7_lacks, (4, (some .int, (1, 25)))))
abbrev mX7_cut : Mt_ := (yX7_cut, (cX7_cut, (2, (some .int, (0, 0)))))
abbrev mX7_lay : Mt_ := (yX7_lay, (cX7_lay, (6, (some .int, (2, 48)))))
abbrev mX7_get : Mt_ := (yX7_get, (cX7_get, (4, (some .int, (2, 48)))))
abbrev mX7_copy : Mt_ := (yX7_copy, (cX7_copy, (7, (some .int, (2, 45)))))
abbrev mX7_isText : Mt_ := (yX7_isText, (cX7_isText, (1, (some .boolean, (1, 25)))))
abbrev mX7_type : Mt_ := (yX7_type, (cX7_type, (3, (some .int, (2, 45)))))
abbrev mX7_wipe : Mt_ := (yX7_wipe, (cX7_wipe, (3, (some .int, (2, 45)))))
abbrev mX7_undo : Mt_ := (yX7_undo, (cX7_undo, (2, (some .int, (2, 45)))))
abbrev mX7_passes : Mt_ := (yX7_passes, (cX7_passes, (5, (some .int, (1, 25)))))
abbrev mX7_twoFigures : Mt_ := (yX7_twoFigures, (cX7_twoFigures, (4, (some .int, (3, 72)))))
abbrev mX7_units : Mt_ := (yX7_units, (cX7_units, (4, (some .int, (2, 49)))))
abbrev mX7_readsShip : Mt_ := (yX7_readsShip, (cX7_readsShip, (4, (some .boolean, (4, 95)))))
abbrev mX7_readsName : Mt_ := (yX7_readsName, (cX7_readsName, (7, (some .boolean, (4, 95)))))
abbrev mX7_readsLine : Mt_ := (yX7_readsLine, (cX7_readsLine, (5, (some .boolean, (4, 95)))))
abbrev mX7_readsThing : Mt_ := (yX7_readsThing, (cX7_readsThing, (3, (some .boolean, (5, 121)))))
abbrev mX7_readsText : Mt_ := (yX7_readsText, (cX7_readsText, (4, (some .int, (6, 143)))))
abbrev mX7_reads : Mt_ := (yX7_reads, (cX7_reads, (2, (none, (7, 166)))))
abbrev mX7_fault : Mt_ := (yX7_fault, (cX7_fault, (2, (some .int, (7, 166)))))
abbrev mX7_isShip : Mt_ := (yX7_isShip, (cX7_isShip, (2, (some .boolean, (1, 25)))))
abbrev mX7_isName : Mt_ := (yX7_isName, (cX7_isName, (2, (some .boolean, (1, 25)))))
abbrev mX7_isYear : Mt_ := (yX7_isYear, (cX7_isYear, (1, (some .boolean, (1, 25)))))
abbrev mX7_ship : Mt_ := (yX7_ship, (cX7_ship, (3, (some .int, (8, 187)))))
abbrev mX7_name : Mt_ := (yX7_name, (cX7_name, (3, (some .int, (8, 187)))))
abbrev mX7_struck : Mt_ := (yX7_struck, (cX7_struck, (3, (some .int, (1, 25)))))
abbrev mX7_bearerOf : Mt_ := (yX7_bearerOf, (cX7_bearerOf, (5, (some .int, (2, 46)))))
abbrev mX7_stands : Mt_ := (yX7_stands, (cX7_stands, (2, (some .boolean, (2, 46)))))
abbrev mX7_dueOf : Mt_ := (yX7_dueOf, (cX7_dueOf, (4, (some .int, (3, 67)))))
abbrev mX7_lineOf : Mt_ := (yX7_lineOf, (cX7_lineOf, (3, (some .int, (4, 90)))))
abbrev mX7_line : Mt_ := (yX7_line, (cX7_line, (3, (some .int, (8, 187)))))
abbrev mX7_bearersOf : Mt_ := (yX7_bearersOf, (cX7_bearersOf, (4, (some .int, (3, 70)))))
abbrev mX7_bearerBy : Mt_ := (yX7_bearerBy, (cX7_bearerBy, (3, (some .int, (4, 93)))))
abbrev mX7_bearer : Mt_ := (yX7_bearer, (cX7_bearer, (3, (some .int, (8, 187)))))
abbrev mX7_borneOf : Mt_ := (yX7_borneOf, (cX7_borneOf, (5, (some .int, (4, 90)))))
abbrev mX7_borne : Mt_ := (yX7_borne, (cX7_borne, (3, (some .int, (8, 187)))))
abbrev mX7_unborne : Mt_ := (yX7_unborne, (cX7_unborne, (2, (some .int, (8, 187)))))
abbrev mX7_loss : Mt_ := (yX7_loss, (cX7_loss, (3, (some .int, (2, 45)))))
abbrev mX7_back : Mt_ := (yX7_back, (cX7_back, (1, (some .int, (0, 0)))))
abbrev mX7_read : Mt_ := (yX7_read, (cX7_read, (4, (some .int, (3, 67)))))
abbrev mX7_begins : Mt_ := (yX7_begins, (cX7_begins, (2, (none, (0, 0)))))
abbrev mX7_goes : Mt_ := (yX7_goes, (cX7_goes, (8, (none, (4, 90)))))
abbrev mX7_lives : Mt_ := (yX7_lives, (cX7_lives, (4, (none, (5, 117)))))
abbrev mX7_leftOf : Mt_ := (yX7_leftOf, (cX7_leftOf, (3, (some .int, (6, 140)))))
abbrev mX7_left : Mt_ := (yX7_left, (cX7_left, (3, (some .int, (8, 187)))))
abbrev mX7_behindOf : Mt_ := (yX7_behindOf, (cX7_behindOf, (3, (some .int, (6, 140)))))
abbrev mX7_behind : Mt_ := (yX7_behind, (cX7_behind, (3, (some .int, (8, 187)))))
abbrev mX7_paidOf : Mt_ := (yX7_paidOf, (cX7_paidOf, (3, (some .int, (6, 140)))))
abbrev mX7_paid : Mt_ := (yX7_paid, (cX7_paid, (3, (some .int, (8, 187)))))
abbrev mX7_firstOf : Mt_ := (yX7_firstOf, (cX7_firstOf, (2, (some .int, (6, 140)))))
abbrev mX7_first : Mt_ := (yX7_first, (cX7_first, (2, (some .int, (8, 187)))))
abbrev mX7_alone : Mt_ := (yX7_alone, (cX7_alone, (2, (none, (5, 117)))))
abbrev mX7_safeNow : Mt_ := (yX7_safeNow, (cX7_safeNow, (3, (some .int, (6, 138)))))
abbrev mX7_safe : Mt_ := (yX7_safe, (cX7_safe, (1, (some .int, (8, 187)))))
abbrev mX7_haveAll : Mt_ := (yX7_haveAll, (cX7_haveAll, (4, (some .int, (1, 21)))))
abbrev mX7_takeOf : Mt_ := (yX7_takeOf, (cX7_takeOf, (6, (some .int, (2, 44)))))
abbrev mX7_take : Mt_ := (yX7_take, (cX7_take, (2, (some .int, (8, 187)))))
abbrev mX7_borneAll : Mt_ := (yX7_borneAll, (cX7_borneAll, (4, (some .int, (5, 114)))))
abbrev mX7_strikeOf : Mt_ := (yX7_strikeOf, (cX7_strikeOf, (6, (some .int, (6, 137)))))
abbrev mX7_strike : Mt_ := (yX7_strike, (cX7_strike, (3, (some .int, (8, 187)))))
abbrev mX7_seen : Mt_ := (yX7_seen, (cX7_seen, (3, (some .int, (1, 25)))))
abbrev mX7_forget : Mt_ := (yX7_forget, (cX7_forget, (2, (some .int, (0, 0)))))
abbrev mX7_isSeen : Mt_ := (yX7_isSeen, (cX7_isSeen, (4, (some .boolean, (6, 138)))))
abbrev mX7_soundOf : Mt_ := (yX7_soundOf, (cX7_soundOf, (5, (some .int, (7, 161)))))
abbrev mX7_sound : Mt_ := (yX7_sound, (cX7_sound, (2, (some .int, (8, 187)))))
abbrev mX7_mostAlike : Mt_ := (yX7_mostAlike, (cX7_mostAlike, (7, (some .int, (7, 161)))))
abbrev mX7_pressNow : Mt_ := (yX7_pressNow, (cX7_pressNow, (6, (some .int, (8, 187)))))
abbrev mX7_press : Mt_ := (yX7_press, (cX7_press, (1, (some .int, (9, 212)))))
abbrev mX7_fairOf : Mt_ := (yX7_fairOf, (cX7_fairOf, (6, (some .long, (5, 114)))))
abbrev mX7_fair : Mt_ := (yX7_fair, (cX7_fair, (3, (some .long, (8, 187)))))
abbrev mX7_stormOf : Mt_ := (yX7_stormOf, (cX7_stormOf, (12, (some .long, (5, 117)))))
abbrev mX7_storm : Mt_ := (yX7_storm, (cX7_storm, (4, (some .long, (8, 187)))))
abbrev mX7_lot : Mt_ := (yX7_lot, (cX7_lot, (2, (some .int, (0, 0)))))
abbrev mX7_yearsOf : Mt_ := (yX7_yearsOf, (cX7_yearsOf, (7, (some .int, (5, 117)))))
abbrev mX7_years : Mt_ := (yX7_years, (cX7_years, (5, (some .int, (8, 187)))))
abbrev mX7_write : Mt_ := (yX7_write, (cX7_write, (5, (some .int, (8, 187)))))
abbrev mX7_count : Mt_ := (yX7_count, (cX7_count, (2, (some .int, (8, 187)))))
abbrev mX7_tellsShip : Mt_ := (yX7_tellsShip, (cX7_tellsShip, (6, (some .long, (9, 209)))))
abbrev mX7_tellsName : Mt_ := (yX7_tellsName, (cX7_tellsName, (7, (some .long, (9, 209)))))
abbrev mX7_digest : Mt_ := (yX7_digest, (cX7_digest, (5, (some .long, (10, 235)))))
abbrev mJ6_bitCount_0f7a4 : Mt_ := (yJ6_bitCount_0f7a4, (cJ6_bitCount_0f7a4, (1, (some .int, (0, 0)))))
abbrev mJ9_max_7cf53 : Mt_ := (yJ9_max_7cf53, (cJ9_max_7cf53, (2, (some .int, (0, 0)))))
abbrev mJ9_min_7cf53 : Mt_ := (yJ9_min_7cf53, (cJ9_min_7cf53, (2, (some .int, (0, 0)))))
abbrev mJ0_length_8abf5 : Mt_ := (yJ0_length_8abf5, (cJ0_length_8abf5, (1, (some .int, (1, 20)))))
abbrev mJ0_charAt_5068e : Mt_ := (yJ0_charAt_5068e, (cJ0_charAt_5068e, (2, (some .char, (4, 85)))))
abbrev mJ0_coder_7d493 : Mt_ := (yJ0_coder_7d493, (cJ0_coder_7d493, (1, (some .byte, (0, 0)))))
abbrev mJ0_isLatin1_aae02 : Mt_ := (yJ0_isLatin1_aae02, (cJ0_isLatin1_aae02, (1, (some .boolean, (0, 0)))))
abbrev mJ0_checkIndex_df160 : Mt_ := (yJ0_checkIndex_df160, (cJ0_checkIndex_df160, (2, (none, (1, 22)))))
abbrev mJ1_charAt_3b067 : Mt_ := (yJ1_charAt_3b067, (cJ1_charAt_3b067, (2, (some .char, (2, 43)))))
abbrev mJ2_getChar_3b067 : Mt_ := (yJ2_getChar_3b067, (cJ2_getChar_3b067, (2, (some .char, (1, 20)))))
abbrev mJ2_length_9d52b : Mt_ := (yJ2_length_9d52b, (cJ2_length_9d52b, (1, (some .int, (0, 0)))))
abbrev mJ2_charAt_3b067 : Mt_ := (yJ2_charAt_3b067, (cJ2_charAt_3b067, (2, (some .char, (3, 64)))))
abbrev mJ2_checkIndex_2214a : Mt_ := (yJ2_checkIndex_2214a, (cJ2_checkIndex_2214a, (2, (none, (2, 43)))))
abbrev mJ7_fill_53178 : Mt_ := (yJ7_fill_53178, (cJ7_fill_53178, (4, (none, (0, 0)))))
abbrev mJ3_checkIndex_8e157 : Mt_ := (yJ3_checkIndex_8e157, (cJ3_checkIndex_8e157, (3, (some .int, (0, 0)))))
theorem gg_0 : gG_[0]? = some (ob_ 6 [some 1, some 3, some 5, some 7, some 54, some 19, some 29, some 32, some 35, none, none]) := rfl
theorem gg_1 : gG_[1]? = some (ob_ 5 [some 100, none, some 2, none]) := rfl
theorem gg_2 : gG_[2]? = some (ia_ 23) := rfl
theorem gg_3 : gG_[3]? = some (ob_ 5 [some 101, none, some 4, none]) := rfl
theorem gg_4 : gG_[4]? = some (ia_ 39) := rfl
theorem gg_5 : gG_[5]? = some (ob_ 5 [some 102, none, some 6, none]) := rfl
theorem gg_6 : gG_[6]? = some (ia_ 59) := rfl
theorem gg_7 : gG_[7]? = some (ob_ 2 [some 8, some 9, none]) := rfl
theorem gg_8 : gG_[8]? = some (ia_ 12) := rfl
theorem gg_9 : gG_[9]? = some (ia_ 12) := rfl
theorem gg_10 : gG_[10]? = some (ia_ 12) := rfl
theorem gg_11 : gG_[11]? = some (ob_ 4 [some 12, none, none, none]) := rfl
theorem gg_12 : gG_[12]? = some (ia_ 60) := rfl
theorem gg_13 : gG_[13]? = some (ob_ 4 [some 14, none, none, none]) := rfl
theorem gg_14 : gG_[14]? = some (ia_ 60) := rfl
theorem gg_15 : gG_[15]? = some (ob_ 4 [some 16, none, none, none]) := rfl
theorem gg_16 : gG_[16]? = some (ia_ 60) := rfl
theorem gg_17 : gG_[17]? = some (ob_ 4 [some 18, none, none, none]) := rfl
theorem gg_18 : gG_[18]? = some (ia_ 60) := rfl
theorem gg_19 : gG_[19]? = some (ob_ 1 [none, some 20, some 21, none, some 22, some 23, none, none, some 24, some 25, some 26, some 27, some 28, some 10]) := rfl
theorem gg_20 : gG_[20]? = some (ia_ 6) := rfl
theorem gg_21 : gG_[21]? = some (ia_ 6) := rfl
theorem gg_22 : gG_[22]? = some (ia_ 8) := rfl
theorem gg_23 : gG_[23]? = some (ia_ 8) := rfl
theorem gg_24 : gG_[24]? = some (ia_ 12) := rfl
theorem gg_25 : gG_[25]? = some (ia_ 12) := rfl
theorem gg_26 : gG_[26]? = some (ia_ 12) := rfl
theorem gg_27 : gG_[27]? = some (ia_ 8) := rfl
theorem gg_28 : gG_[28]? = some (ia_ 12) := rfl
theorem gg_29 : gG_[29]? = some (ob_ 3 [some 19, some 30, some 31, none, none, none, none]) := rfl
theorem gg_30 : gG_[30]? = some (ia_ 8) := rfl
theorem gg_31 : gG_[31]? = some (ia_ 6) := rfl
theorem gg_32 : gG_[32]? = some (ob_ 2 [some 33, some 34, none]) := rfl
theorem gg_33 : gG_[33]? = some (ia_ 8) := rfl
theorem gg_34 : gG_[34]? = some (ia_ 8) := rfl
theorem gg_35 : gG_[35]? = some (ob_ 0 [some 19, some 29, some 32, some 36, some 37, none, none]) := rfl
theorem gg_36 : gG_[36]? = some (za_ 256) := rfl
theorem gg_37 : gG_[37]? = some (ia_ 100) := rfl
theorem gg_38 : gG_[38]? = some (ob_ 7 [some 39, some 40, some 41, some 42, none, some 43, some 44, none, some 45, some 46, some 47, some 48, none, none, some 49, some 50, none, none, some 51, none, none, none, none, some 52, some 53, none]) := rfl
theorem gg_39 : gG_[39]? = some (ia_ 4) := rfl
theorem gg_40 : gG_[40]? = some (ia_ 4) := rfl
theorem gg_41 : gG_[41]? = some (ia_ 240) := rfl
theorem gg_42 : gG_[42]? = some (ia_ 60) := rfl
theorem gg_43 : gG_[43]? = some (ia_ 180) := rfl
theorem gg_44 : gG_[44]? = some (ia_ 3) := rfl
theorem gg_45 : gG_[45]? = some (ia_ 3) := rfl
theorem gg_46 : gG_[46]? = some (ia_ 12) := rfl
theorem gg_47 : gG_[47]? = some (ia_ 24) := rfl
theorem gg_48 : gG_[48]? = some (ia_ 36) := rfl
theorem gg_49 : gG_[49]? = some (ia_ 24) := rfl
theorem gg_50 : gG_[50]? = some (ia_ 8) := rfl
theorem gg_51 : gG_[51]? = some (ia_ 6) := rfl
theorem gg_52 : gG_[52]? = some (ia_ 16) := rfl
theorem gg_53 : gG_[53]? = some (ia_ 256) := rfl
theorem gg_54 : gG_[54]? = some (ra_ [11, 13, 15, 17]) := rfl
theorem rc_0 {D : Dt_} : Rc_ D 0 RX6 := Or.inl ⟨6, _, TX6, 11, gg_0, rfl⟩
theorem rc_1 {D : Dt_} : Rc_ D 1 RX5 := Or.inl ⟨5, _, TX5, 4, gg_1, rfl⟩
theorem rc_3 {D : Dt_} : Rc_ D 3 RX5 := Or.inl ⟨5, _, TX5, 4, gg_3, rfl⟩
theorem rc_5 {D : Dt_} : Rc_ D 5 RX5 := Or.inl ⟨5, _, TX5, 4, gg_5, rfl⟩
theorem rc_7 {D : Dt_} : Rc_ D 7 RX2 := Or.inl ⟨2, _, TX2, 3, gg_7, rfl⟩
theorem rc_11 {D : Dt_} : Rc_ D 11 RX4 := Or.inl ⟨4, _, TX4, 4, gg_11, rfl⟩
theorem rc_13 {D : Dt_} : Rc_ D 13 RX4 := Or.inl ⟨4, _, TX4, 4, gg_13, rfl⟩
theorem rc_15 {D : Dt_} : Rc_ D 15 RX4 := Or.inl ⟨4, _, TX4, 4, gg_15, rfl⟩
theorem rc_17 {D : Dt_} : Rc_ D 17 RX4 := Or.inl ⟨4, _, TX4, 4, gg_17, rfl⟩
theorem rc_19 {D : Dt_} : Rc_ D 19 RX1 := Or.inl ⟨1, _, TX1, 14, gg_19, rfl⟩
theorem rc_29 {D : Dt_} : Rc_ D 29 RX3 := Or.inl ⟨3, _, TX3, 7, gg_29, rfl⟩
theorem rc_32 {D : Dt_} : Rc_ D 32 RX2 := Or.inl ⟨2, _, TX2, 3, gg_32, rfl⟩
theorem rc_35 {D : Dt_} : Rc_ D 35 RX0 := Or.inl ⟨0, _, TX0, 7, gg_35, rfl⟩
theorem rc_38 {D : Dt_} : Rc_ D 38 RX7 := Or.inl ⟨7, _, TX7, 26, gg_38, rfl⟩
theorem rc_100 {D : Dt_} : Rc_ D 100 RJ0 := Or.inr ⟨rfl, 0, by decide, rfl⟩
theorem rc_101 {D : Dt_} : Rc_ D 101 RJ0 := Or.inr ⟨rfl, 1, by decide, rfl⟩
theorem rc_102 {D : Dt_} : Rc_ D 102 RJ0 := Or.inr ⟨rfl, 2, by decide, rfl⟩
theorem tb_in {w : Cond} (i : Nat) (h : tables_1[i]? = some w) (hg : goodWord w = true) : w ∈ gw_ := List.mem_filter.mpr ⟨List.mem_append_right _ (List.mem_of_getElem? h), hg⟩
theorem sl_in {w : Cond} (i : Nat) (h : (k2_sels lw_privs)[i]? = some w) (hg : goodWord w = true) : w ∈ gw_ := List.mem_filter.mpr ⟨List.mem_append_left _ (List.mem_of_getElem? h), hg⟩
theorem gi_X0 : ∀ w ∈ wsX00, w ∈ gw_ := gw_all inX0 rfl
theorem gi_X1 : ∀ w ∈ wsX10, w ∈ gw_ := gw_all inX1 rfl
theorem gi_X2 : ∀ w ∈ wsX20, w ∈ gw_ := gw_all inX2 rfl
theorem gi_X3 : ∀ w ∈ wsX30, w ∈ gw_ := gw_all inX3 rfl
theorem gi_X4 : ∀ w ∈ wsX40, w ∈ gw_ := gw_all inX4 rfl
theorem gi_X5 : ∀ w ∈ wsX50, w ∈ gw_ := gw_all inX5 rfl
theorem gi_X6 : ∀ w ∈ wsX60, w ∈ gw_ := gw_all inX6 rfl
theorem gi_X7 : ∀ w ∈ wsX70, w ∈ gw_ := gw_all inX7 rfl
theorem fX5_9 : Fl_ RX5 9 5 0 := ⟨RX5, TX5, 4, rfl, by decide, gi_X5, (tb_in 42 (by decide +kernel) rfl)⟩
theorem fX5_21 : Fl_ RX5 21 5 1 := ⟨RX5, TX5, 4, rfl, by decide, gi_X5, (tb_in 43 (by decide +kernel) rfl)⟩
theorem fX1_67 : Fl_ RX1 67 5 1 := ⟨RX5, TX5, 4, rfl, by decide, gi_X5, (tb_in 44 (by decide +kernel) rfl)⟩
theorem fX5_25 : Fl_ RX5 25 5 2 := ⟨RX5, TX5, 4, rfl, by decide, gi_X5, (tb_in 45 (by decide +kernel) rfl)⟩
theorem fX5_29 : Fl_ RX5 29 5 3 := ⟨RX5, TX5, 4, rfl, by decide, gi_X5, (tb_in 46 (by decide +kernel) rfl)⟩
theorem fX6_92 : Fl_ RX6 92 5 3 := ⟨RX5, TX5, 4, rfl, by decide, gi_X5, (tb_in 47 (by decide +kernel) rfl)⟩
theorem fX2_7 : Fl_ RX2 7 2 0 := ⟨RX2, TX2, 3, rfl, by decide, gi_X2, (tb_in 67 (by decide +kernel) rfl)⟩
theorem fX3_31 : Fl_ RX3 31 2 0 := ⟨RX2, TX2, 3, rfl, by decide, gi_X2, (tb_in 68 (by decide +kernel) rfl)⟩
theorem fX0_59 : Fl_ RX0 59 2 0 := ⟨RX2, TX2, 3, rfl, by decide, gi_X2, (tb_in 69 (by decide +kernel) rfl)⟩
theorem fX2_13 : Fl_ RX2 13 2 1 := ⟨RX2, TX2, 3, rfl, by decide, gi_X2, (tb_in 70 (by decide +kernel) rfl)⟩
theorem fX3_34 : Fl_ RX3 34 2 1 := ⟨RX2, TX2, 3, rfl, by decide, gi_X2, (tb_in 71 (by decide +kernel) rfl)⟩
theorem fX0_68 : Fl_ RX0 68 2 1 := ⟨RX2, TX2, 3, rfl, by decide, gi_X2, (tb_in 72 (by decide +kernel) rfl)⟩
theorem fX2_16 : Fl_ RX2 16 2 2 := ⟨RX2, TX2, 3, rfl, by decide, gi_X2, (tb_in 73 (by decide +kernel) rfl)⟩
theorem fX3_25 : Fl_ RX3 25 2 2 := ⟨RX2, TX2, 3, rfl, by decide, gi_X2, (tb_in 74 (by decide +kernel) rfl)⟩
theorem fX0_54 : Fl_ RX0 54 2 2 := ⟨RX2, TX2, 3, rfl, by decide, gi_X2, (tb_in 75 (by decide +kernel) rfl)⟩
theorem fX6_148 : Fl_ RX6 148 2 2 := ⟨RX2, TX2, 3, rfl, by decide, gi_X2, (tb_in 76 (by decide +kernel) rfl)⟩
theorem fX1_42 : Fl_ RX1 42 1 0 := ⟨RX1, TX1, 14, rfl, by decide, gi_X1, (tb_in 92 (by decide +kernel) rfl)⟩
theorem fX0_47 : Fl_ RX0 47 1 0 := ⟨RX1, TX1, 14, rfl, by decide, gi_X1, (tb_in 93 (by decide +kernel) rfl)⟩
theorem fX3_41 : Fl_ RX3 41 1 0 := ⟨RX1, TX1, 14, rfl, by decide, gi_X1, (tb_in 94 (by decide +kernel) rfl)⟩
theorem fX6_200 : Fl_ RX6 200 1 0 := ⟨RX1, TX1, 14, rfl, by decide, gi_X1, (tb_in 95 (by decide +kernel) rfl)⟩
theorem fX1_9 : Fl_ RX1 9 1 1 := ⟨RX1, TX1, 14, rfl, by decide, gi_X1, (tb_in 96 (by decide +kernel) rfl)⟩
theorem fX6_104 : Fl_ RX6 104 1 1 := ⟨RX1, TX1, 14, rfl, by decide, gi_X1, (tb_in 97 (by decide +kernel) rfl)⟩
theorem fX1_15 : Fl_ RX1 15 1 2 := ⟨RX1, TX1, 14, rfl, by decide, gi_X1, (tb_in 98 (by decide +kernel) rfl)⟩
theorem fX3_51 : Fl_ RX3 51 1 2 := ⟨RX1, TX1, 14, rfl, by decide, gi_X1, (tb_in 99 (by decide +kernel) rfl)⟩
theorem fX6_108 : Fl_ RX6 108 1 2 := ⟨RX1, TX1, 14, rfl, by decide, gi_X1, (tb_in 100 (by decide +kernel) rfl)⟩
theorem fX0_38 : Fl_ RX0 38 1 3 := ⟨RX1, TX1, 14, rfl, by decide, gi_X1, (tb_in 101 (by decide +kernel) rfl)⟩
theorem fX1_46 : Fl_ RX1 46 1 3 := ⟨RX1, TX1, 14, rfl, by decide, gi_X1, (tb_in 102 (by decide +kernel) rfl)⟩
theorem fX6_206 : Fl_ RX6 206 1 3 := ⟨RX1, TX1, 14, rfl, by decide, gi_X1, (tb_in 103 (by decide +kernel) rfl)⟩
theorem fX1_18 : Fl_ RX1 18 1 4 := ⟨RX1, TX1, 14, rfl, by decide, gi_X1, (tb_in 104 (by decide +kernel) rfl)⟩
theorem fX3_57 : Fl_ RX3 57 1 4 := ⟨RX1, TX1, 14, rfl, by decide, gi_X1, (tb_in 105 (by decide +kernel) rfl)⟩
theorem fX6_114 : Fl_ RX6 114 1 4 := ⟨RX1, TX1, 14, rfl, by decide, gi_X1, (tb_in 106 (by decide +kernel) rfl)⟩
theorem fX1_21 : Fl_ RX1 21 1 5 := ⟨RX1, TX1, 14, rfl, by decide, gi_X1, (tb_in 107 (by decide +kernel) rfl)⟩
theorem fX6_120 : Fl_ RX6 120 1 5 := ⟨RX1, TX1, 14, rfl, by decide, gi_X1, (tb_in 108 (by decide +kernel) rfl)⟩
theorem fX1_52 : Fl_ RX1 52 1 6 := ⟨RX1, TX1, 14, rfl, by decide, gi_X1, (tb_in 109 (by decide +kernel) rfl)⟩
theorem fX1_49 : Fl_ RX1 49 1 7 := ⟨RX1, TX1, 14, rfl, by decide, gi_X1, (tb_in 110 (by decide +kernel) rfl)⟩
theorem fX3_84 : Fl_ RX3 84 1 7 := ⟨RX1, TX1, 14, rfl, by decide, gi_X1, (tb_in 111 (by decide +kernel) rfl)⟩
theorem fX6_281 : Fl_ RX6 281 1 7 := ⟨RX1, TX1, 14, rfl, by decide, gi_X1, (tb_in 112 (by decide +kernel) rfl)⟩
theorem fX1_24 : Fl_ RX1 24 1 8 := ⟨RX1, TX1, 14, rfl, by decide, gi_X1, (tb_in 113 (by decide +kernel) rfl)⟩
theorem fX6_126 : Fl_ RX6 126 1 8 := ⟨RX1, TX1, 14, rfl, by decide, gi_X1, (tb_in 114 (by decide +kernel) rfl)⟩
theorem fX3_90 : Fl_ RX3 90 1 8 := ⟨RX1, TX1, 14, rfl, by decide, gi_X1, (tb_in 115 (by decide +kernel) rfl)⟩
theorem fX1_27 : Fl_ RX1 27 1 9 := ⟨RX1, TX1, 14, rfl, by decide, gi_X1, (tb_in 116 (by decide +kernel) rfl)⟩
theorem fX6_129 : Fl_ RX6 129 1 9 := ⟨RX1, TX1, 14, rfl, by decide, gi_X1, (tb_in 117 (by decide +kernel) rfl)⟩
theorem fX1_30 : Fl_ RX1 30 1 10 := ⟨RX1, TX1, 14, rfl, by decide, gi_X1, (tb_in 118 (by decide +kernel) rfl)⟩
theorem fX6_132 : Fl_ RX6 132 1 10 := ⟨RX1, TX1, 14, rfl, by decide, gi_X1, (tb_in 119 (by decide +kernel) rfl)⟩
theorem fX1_33 : Fl_ RX1 33 1 11 := ⟨RX1, TX1, 14, rfl, by decide, gi_X1, (tb_in 120 (by decide +kernel) rfl)⟩
theorem fX6_167 : Fl_ RX6 167 1 11 := ⟨RX1, TX1, 14, rfl, by decide, gi_X1, (tb_in 121 (by decide +kernel) rfl)⟩
theorem fX1_36 : Fl_ RX1 36 1 12 := ⟨RX1, TX1, 14, rfl, by decide, gi_X1, (tb_in 122 (by decide +kernel) rfl)⟩
theorem fX6_135 : Fl_ RX6 135 1 12 := ⟨RX1, TX1, 14, rfl, by decide, gi_X1, (tb_in 123 (by decide +kernel) rfl)⟩
theorem fX3_96 : Fl_ RX3 96 1 12 := ⟨RX1, TX1, 14, rfl, by decide, gi_X1, (tb_in 124 (by decide +kernel) rfl)⟩
theorem fX1_39 : Fl_ RX1 39 1 13 := ⟨RX1, TX1, 14, rfl, by decide, gi_X1, (tb_in 125 (by decide +kernel) rfl)⟩
theorem fX3_87 : Fl_ RX3 87 1 13 := ⟨RX1, TX1, 14, rfl, by decide, gi_X1, (tb_in 126 (by decide +kernel) rfl)⟩
theorem fX3_18 : Fl_ RX3 18 3 0 := ⟨RX3, TX3, 7, rfl, by decide, gi_X3, (tb_in 162 (by decide +kernel) rfl)⟩
theorem fX3_9 : Fl_ RX3 9 3 1 := ⟨RX3, TX3, 7, rfl, by decide, gi_X3, (tb_in 163 (by decide +kernel) rfl)⟩
theorem fX6_183 : Fl_ RX6 183 3 1 := ⟨RX3, TX3, 7, rfl, by decide, gi_X3, (tb_in 164 (by decide +kernel) rfl)⟩
theorem fX3_15 : Fl_ RX3 15 3 2 := ⟨RX3, TX3, 7, rfl, by decide, gi_X3, (tb_in 165 (by decide +kernel) rfl)⟩
theorem fX6_191 : Fl_ RX6 191 3 2 := ⟨RX3, TX3, 7, rfl, by decide, gi_X3, (tb_in 166 (by decide +kernel) rfl)⟩
theorem fX3_72 : Fl_ RX3 72 3 3 := ⟨RX3, TX3, 7, rfl, by decide, gi_X3, (tb_in 167 (by decide +kernel) rfl)⟩
theorem fX6_189 : Fl_ RX6 189 3 3 := ⟨RX3, TX3, 7, rfl, by decide, gi_X3, (tb_in 168 (by decide +kernel) rfl)⟩
theorem fX3_75 : Fl_ RX3 75 3 4 := ⟨RX3, TX3, 7, rfl, by decide, gi_X3, (tb_in 169 (by decide +kernel) rfl)⟩
theorem fX6_186 : Fl_ RX6 186 3 4 := ⟨RX3, TX3, 7, rfl, by decide, gi_X3, (tb_in 170 (by decide +kernel) rfl)⟩
theorem fX3_78 : Fl_ RX3 78 3 5 := ⟨RX3, TX3, 7, rfl, by decide, gi_X3, (tb_in 171 (by decide +kernel) rfl)⟩
theorem fX6_194 : Fl_ RX6 194 3 5 := ⟨RX3, TX3, 7, rfl, by decide, gi_X3, (tb_in 172 (by decide +kernel) rfl)⟩
theorem fX3_81 : Fl_ RX3 81 3 6 := ⟨RX3, TX3, 7, rfl, by decide, gi_X3, (tb_in 173 (by decide +kernel) rfl)⟩
theorem fX6_197 : Fl_ RX6 197 3 6 := ⟨RX3, TX3, 7, rfl, by decide, gi_X3, (tb_in 174 (by decide +kernel) rfl)⟩
theorem fX0_19 : Fl_ RX0 19 0 0 := ⟨RX0, TX0, 7, rfl, by decide, gi_X0, (tb_in 196 (by decide +kernel) rfl)⟩
theorem fX0_23 : Fl_ RX0 23 0 1 := ⟨RX0, TX0, 7, rfl, by decide, gi_X0, (tb_in 197 (by decide +kernel) rfl)⟩
theorem fX0_27 : Fl_ RX0 27 0 2 := ⟨RX0, TX0, 7, rfl, by decide, gi_X0, (tb_in 198 (by decide +kernel) rfl)⟩
theorem fX0_9 : Fl_ RX0 9 0 3 := ⟨RX0, TX0, 7, rfl, by decide, gi_X0, (tb_in 199 (by decide +kernel) rfl)⟩
theorem fX0_15 : Fl_ RX0 15 0 4 := ⟨RX0, TX0, 7, rfl, by decide, gi_X0, (tb_in 200 (by decide +kernel) rfl)⟩
theorem fX0_31 : Fl_ RX0 31 0 5 := ⟨RX0, TX0, 7, rfl, by decide, gi_X0, (tb_in 201 (by decide +kernel) rfl)⟩
theorem fX6_226 : Fl_ RX6 226 0 5 := ⟨RX0, TX0, 7, rfl, by decide, gi_X0, (tb_in 202 (by decide +kernel) rfl)⟩
theorem fX0_35 : Fl_ RX0 35 0 6 := ⟨RX0, TX0, 7, rfl, by decide, gi_X0, (tb_in 203 (by decide +kernel) rfl)⟩
theorem fX6_229 : Fl_ RX6 229 0 6 := ⟨RX0, TX0, 7, rfl, by decide, gi_X0, (tb_in 204 (by decide +kernel) rfl)⟩
theorem fX4_9 : Fl_ RX4 9 4 0 := ⟨RX4, TX4, 4, rfl, by decide, gi_X4, (tb_in 226 (by decide +kernel) rfl)⟩
theorem fX6_164 : Fl_ RX6 164 4 0 := ⟨RX4, TX4, 4, rfl, by decide, gi_X4, (tb_in 227 (by decide +kernel) rfl)⟩
theorem fX4_15 : Fl_ RX4 15 4 1 := ⟨RX4, TX4, 4, rfl, by decide, gi_X4, (tb_in 228 (by decide +kernel) rfl)⟩
theorem fX6_155 : Fl_ RX6 155 4 1 := ⟨RX4, TX4, 4, rfl, by decide, gi_X4, (tb_in 229 (by decide +kernel) rfl)⟩
theorem fX4_25 : Fl_ RX4 25 4 2 := ⟨RX4, TX4, 4, rfl, by decide, gi_X4, (tb_in 230 (by decide +kernel) rfl)⟩
theorem fX6_264 : Fl_ RX6 264 4 2 := ⟨RX4, TX4, 4, rfl, by decide, gi_X4, (tb_in 231 (by decide +kernel) rfl)⟩
theorem fX4_29 : Fl_ RX4 29 4 3 := ⟨RX4, TX4, 4, rfl, by decide, gi_X4, (tb_in 232 (by decide +kernel) rfl)⟩
theorem fX6_163 : Fl_ RX6 163 4 3 := ⟨RX4, TX4, 4, rfl, by decide, gi_X4, (tb_in 233 (by decide +kernel) rfl)⟩
theorem fX6_16 : Fl_ RX6 16 6 0 := ⟨RX6, TX6, 11, rfl, by decide, gi_X6, (tb_in 243 (by decide +kernel) rfl)⟩
theorem fX6_22 : Fl_ RX6 22 6 1 := ⟨RX6, TX6, 11, rfl, by decide, gi_X6, (tb_in 244 (by decide +kernel) rfl)⟩
theorem fX6_27 : Fl_ RX6 27 6 2 := ⟨RX6, TX6, 11, rfl, by decide, gi_X6, (tb_in 245 (by decide +kernel) rfl)⟩
theorem fX6_35 : Fl_ RX6 35 6 3 := ⟨RX6, TX6, 11, rfl, by decide, gi_X6, (tb_in 246 (by decide +kernel) rfl)⟩
theorem fX6_41 : Fl_ RX6 41 6 4 := ⟨RX6, TX6, 11, rfl, by decide, gi_X6, (tb_in 247 (by decide +kernel) rfl)⟩
theorem fX6_53 : Fl_ RX6 53 6 5 := ⟨RX6, TX6, 11, rfl, by decide, gi_X6, (tb_in 248 (by decide +kernel) rfl)⟩
theorem fX6_57 : Fl_ RX6 57 6 6 := ⟨RX6, TX6, 11, rfl, by decide, gi_X6, (tb_in 249 (by decide +kernel) rfl)⟩
theorem fX6_61 : Fl_ RX6 61 6 7 := ⟨RX6, TX6, 11, rfl, by decide, gi_X6, (tb_in 250 (by decide +kernel) rfl)⟩
theorem fX6_69 : Fl_ RX6 69 6 8 := ⟨RX6, TX6, 11, rfl, by decide, gi_X6, (tb_in 251 (by decide +kernel) rfl)⟩
theorem fX6_138 : Fl_ RX6 138 6 9 := ⟨RX6, TX6, 11, rfl, by decide, gi_X6, (tb_in 252 (by decide +kernel) rfl)⟩
theorem fX6_284 : Fl_ RX6 284 6 10 := ⟨RX6, TX6, 11, rfl, by decide, gi_X6, (tb_in 253 (by decide +kernel) rfl)⟩
theorem fX7_7 : Fl_ RX7 7 7 0 := ⟨RX7, TX7, 26, rfl, by decide, gi_X7, (tb_in 743 (by decide +kernel) rfl)⟩
theorem fX7_13 : Fl_ RX7 13 7 1 := ⟨RX7, TX7, 26, rfl, by decide, gi_X7, (tb_in 744 (by decide +kernel) rfl)⟩
theorem fX7_16 : Fl_ RX7 16 7 2 := ⟨RX7, TX7, 26, rfl, by decide, gi_X7, (tb_in 745 (by decide +kernel) rfl)⟩
theorem fX7_19 : Fl_ RX7 19 7 3 := ⟨RX7, TX7, 26, rfl, by decide, gi_X7, (tb_in 746 (by decide +kernel) rfl)⟩
theorem fX7_65 : Fl_ RX7 65 7 4 := ⟨RX7, TX7, 26, rfl, by decide, gi_X7, (tb_in 747 (by decide +kernel) rfl)⟩
theorem fX7_22 : Fl_ RX7 22 7 5 := ⟨RX7, TX7, 26, rfl, by decide, gi_X7, (tb_in 748 (by decide +kernel) rfl)⟩
theorem fX7_25 : Fl_ RX7 25 7 6 := ⟨RX7, TX7, 26, rfl, by decide, gi_X7, (tb_in 749 (by decide +kernel) rfl)⟩
theorem fX7_94 : Fl_ RX7 94 7 7 := ⟨RX7, TX7, 26, rfl, by decide, gi_X7, (tb_in 750 (by decide +kernel) rfl)⟩
theorem fX7_28 : Fl_ RX7 28 7 8 := ⟨RX7, TX7, 26, rfl, by decide, gi_X7, (tb_in 751 (by decide +kernel) rfl)⟩
theorem fX7_31 : Fl_ RX7 31 7 9 := ⟨RX7, TX7, 26, rfl, by decide, gi_X7, (tb_in 752 (by decide +kernel) rfl)⟩
theorem fX7_34 : Fl_ RX7 34 7 10 := ⟨RX7, TX7, 26, rfl, by decide, gi_X7, (tb_in 753 (by decide +kernel) rfl)⟩
theorem fX7_37 : Fl_ RX7 37 7 11 := ⟨RX7, TX7, 26, rfl, by decide, gi_X7, (tb_in 754 (by decide +kernel) rfl)⟩
theorem fX7_136 : Fl_ RX7 136 7 12 := ⟨RX7, TX7, 26, rfl, by decide, gi_X7, (tb_in 755 (by decide +kernel) rfl)⟩
theorem fX7_169 : Fl_ RX7 169 7 13 := ⟨RX7, TX7, 26, rfl, by decide, gi_X7, (tb_in 756 (by decide +kernel) rfl)⟩
theorem fX7_40 : Fl_ RX7 40 7 14 := ⟨RX7, TX7, 26, rfl, by decide, gi_X7, (tb_in 757 (by decide +kernel) rfl)⟩
theorem fX7_43 : Fl_ RX7 43 7 15 := ⟨RX7, TX7, 26, rfl, by decide, gi_X7, (tb_in 758 (by decide +kernel) rfl)⟩
theorem fX7_174 : Fl_ RX7 174 7 16 := ⟨RX7, TX7, 26, rfl, by decide, gi_X7, (tb_in 759 (by decide +kernel) rfl)⟩
theorem fX7_177 : Fl_ RX7 177 7 17 := ⟨RX7, TX7, 26, rfl, by decide, gi_X7, (tb_in 760 (by decide +kernel) rfl)⟩
theorem fX7_46 : Fl_ RX7 46 7 18 := ⟨RX7, TX7, 26, rfl, by decide, gi_X7, (tb_in 761 (by decide +kernel) rfl)⟩
theorem fX7_180 : Fl_ RX7 180 7 19 := ⟨RX7, TX7, 26, rfl, by decide, gi_X7, (tb_in 762 (by decide +kernel) rfl)⟩
theorem fX7_183 : Fl_ RX7 183 7 20 := ⟨RX7, TX7, 26, rfl, by decide, gi_X7, (tb_in 763 (by decide +kernel) rfl)⟩
theorem fX7_55 : Fl_ RX7 55 7 21 := ⟨RX7, TX7, 26, rfl, by decide, gi_X7, (tb_in 764 (by decide +kernel) rfl)⟩
theorem fX7_236 : Fl_ RX7 236 7 22 := ⟨RX7, TX7, 26, rfl, by decide, gi_X7, (tb_in 765 (by decide +kernel) rfl)⟩
theorem fX7_49 : Fl_ RX7 49 7 23 := ⟨RX7, TX7, 26, rfl, by decide, gi_X7, (tb_in 766 (by decide +kernel) rfl)⟩
theorem fX7_52 : Fl_ RX7 52 7 24 := ⟨RX7, TX7, 26, rfl, by decide, gi_X7, (tb_in 767 (by decide +kernel) rfl)⟩
theorem fX7_272 : Fl_ RX7 272 7 25 := ⟨RX7, TX7, 26, rfl, by decide, gi_X7, (tb_in 768 (by decide +kernel) rfl)⟩
theorem pq_0_5 : ∀ C T N, vwCl[0]? = some (C, T, N) → ((T 5).2.2.2 = false ∧ parseFieldDescriptor (T 5).2.2.1 = some .int) ∧ (∀ a, a < N → ∀ b, b < N → a ≠ b → (T a).2.1 ≠ (T b).2.1) ∧ ∃ t0 : Nat → FieldType, ∀ k, k < N → parseFieldDescriptor (T k).2.2.1 = some (t0 k) := by
  intro C T N h
  cases h
  exact ⟨⟨rfl, tyX0_ok 5 (by decide)⟩, nmX0, tyX0, tyX0_ok⟩
theorem pq_0_6 : ∀ C T N, vwCl[0]? = some (C, T, N) → ((T 6).2.2.2 = false ∧ parseFieldDescriptor (T 6).2.2.1 = some .int) ∧ (∀ a, a < N → ∀ b, b < N → a ≠ b → (T a).2.1 ≠ (T b).2.1) ∧ ∃ t0 : Nat → FieldType, ∀ k, k < N → parseFieldDescriptor (T k).2.2.1 = some (t0 k) := by
  intro C T N h
  cases h
  exact ⟨⟨rfl, tyX0_ok 6 (by decide)⟩, nmX0, tyX0, tyX0_ok⟩
theorem pq_1_0 : ∀ C T N, vwCl[1]? = some (C, T, N) → ((T 0).2.2.2 = false ∧ parseFieldDescriptor (T 0).2.2.1 = some .int) ∧ (∀ a, a < N → ∀ b, b < N → a ≠ b → (T a).2.1 ≠ (T b).2.1) ∧ ∃ t0 : Nat → FieldType, ∀ k, k < N → parseFieldDescriptor (T k).2.2.1 = some (t0 k) := by
  intro C T N h
  cases h
  exact ⟨⟨rfl, tyX1_ok 0 (by decide)⟩, nmX1, tyX1, tyX1_ok⟩
theorem pq_1_3 : ∀ C T N, vwCl[1]? = some (C, T, N) → ((T 3).2.2.2 = false ∧ parseFieldDescriptor (T 3).2.2.1 = some .int) ∧ (∀ a, a < N → ∀ b, b < N → a ≠ b → (T a).2.1 ≠ (T b).2.1) ∧ ∃ t0 : Nat → FieldType, ∀ k, k < N → parseFieldDescriptor (T k).2.2.1 = some (t0 k) := by
  intro C T N h
  cases h
  exact ⟨⟨rfl, tyX1_ok 3 (by decide)⟩, nmX1, tyX1, tyX1_ok⟩
theorem pq_1_6 : ∀ C T N, vwCl[1]? = some (C, T, N) → ((T 6).2.2.2 = false ∧ parseFieldDescriptor (T 6).2.2.1 = some .int) ∧ (∀ a, a < N → ∀ b, b < N → a ≠ b → (T a).2.1 ≠ (T b).2.1) ∧ ∃ t0 : Nat → FieldType, ∀ k, k < N → parseFieldDescriptor (T k).2.2.1 = some (t0 k) := by
  intro C T N h
  cases h
  exact ⟨⟨rfl, tyX1_ok 6 (by decide)⟩, nmX1, tyX1, tyX1_ok⟩
theorem pq_1_7 : ∀ C T N, vwCl[1]? = some (C, T, N) → ((T 7).2.2.2 = false ∧ parseFieldDescriptor (T 7).2.2.1 = some .int) ∧ (∀ a, a < N → ∀ b, b < N → a ≠ b → (T a).2.1 ≠ (T b).2.1) ∧ ∃ t0 : Nat → FieldType, ∀ k, k < N → parseFieldDescriptor (T k).2.2.1 = some (t0 k) := by
  intro C T N h
  cases h
  exact ⟨⟨rfl, tyX1_ok 7 (by decide)⟩, nmX1, tyX1, tyX1_ok⟩
theorem pq_2_2 : ∀ C T N, vwCl[2]? = some (C, T, N) → ((T 2).2.2.2 = false ∧ parseFieldDescriptor (T 2).2.2.1 = some .int) ∧ (∀ a, a < N → ∀ b, b < N → a ≠ b → (T a).2.1 ≠ (T b).2.1) ∧ ∃ t0 : Nat → FieldType, ∀ k, k < N → parseFieldDescriptor (T k).2.2.1 = some (t0 k) := by
  intro C T N h
  cases h
  exact ⟨⟨rfl, tyX2_ok 2 (by decide)⟩, nmX2, tyX2, tyX2_ok⟩
theorem pq_3_3 : ∀ C T N, vwCl[3]? = some (C, T, N) → ((T 3).2.2.2 = false ∧ parseFieldDescriptor (T 3).2.2.1 = some .int) ∧ (∀ a, a < N → ∀ b, b < N → a ≠ b → (T a).2.1 ≠ (T b).2.1) ∧ ∃ t0 : Nat → FieldType, ∀ k, k < N → parseFieldDescriptor (T k).2.2.1 = some (t0 k) := by
  intro C T N h
  cases h
  exact ⟨⟨rfl, tyX3_ok 3 (by decide)⟩, nmX3, tyX3, tyX3_ok⟩
theorem pq_3_4 : ∀ C T N, vwCl[3]? = some (C, T, N) → ((T 4).2.2.2 = false ∧ parseFieldDescriptor (T 4).2.2.1 = some .int) ∧ (∀ a, a < N → ∀ b, b < N → a ≠ b → (T a).2.1 ≠ (T b).2.1) ∧ ∃ t0 : Nat → FieldType, ∀ k, k < N → parseFieldDescriptor (T k).2.2.1 = some (t0 k) := by
  intro C T N h
  cases h
  exact ⟨⟨rfl, tyX3_ok 4 (by decide)⟩, nmX3, tyX3, tyX3_ok⟩
theorem pq_3_5 : ∀ C T N, vwCl[3]? = some (C, T, N) → ((T 5).2.2.2 = false ∧ parseFieldDescriptor (T 5).2.2.1 = some .int) ∧ (∀ a, a < N → ∀ b, b < N → a ≠ b → (T a).2.1 ≠ (T b).2.1) ∧ ∃ t0 : Nat → FieldType, ∀ k, k < N → parseFieldDescriptor (T k).2.2.1 = some (t0 k) := by
  intro C T N h
  cases h
  exact ⟨⟨rfl, tyX3_ok 5 (by decide)⟩, nmX3, tyX3, tyX3_ok⟩
theorem pq_3_6 : ∀ C T N, vwCl[3]? = some (C, T, N) → ((T 6).2.2.2 = false ∧ parseFieldDescriptor (T 6).2.2.1 = some .int) ∧ (∀ a, a < N → ∀ b, b < N → a ≠ b → (T a).2.1 ≠ (T b).2.1) ∧ ∃ t0 : Nat → FieldType, ∀ k, k < N → parseFieldDescriptor (T k).2.2.1 = some (t0 k) := by
  intro C T N h
  cases h
  exact ⟨⟨rfl, tyX3_ok 6 (by decide)⟩, nmX3, tyX3, tyX3_ok⟩
theorem pq_4_1 : ∀ C T N, vwCl[4]? = some (C, T, N) → ((T 1).2.2.2 = false ∧ parseFieldDescriptor (T 1).2.2.1 = some .boolean) ∧ (∀ a, a < N → ∀ b, b < N → a ≠ b → (T a).2.1 ≠ (T b).2.1) ∧ ∃ t0 : Nat → FieldType, ∀ k, k < N → parseFieldDescriptor (T k).2.2.1 = some (t0 k) := by
  intro C T N h
  cases h
  exact ⟨⟨rfl, tyX4_ok 1 (by decide)⟩, nmX4, tyX4, tyX4_ok⟩
theorem pq_4_2 : ∀ C T N, vwCl[4]? = some (C, T, N) → ((T 2).2.2.2 = false ∧ parseFieldDescriptor (T 2).2.2.1 = some .int) ∧ (∀ a, a < N → ∀ b, b < N → a ≠ b → (T a).2.1 ≠ (T b).2.1) ∧ ∃ t0 : Nat → FieldType, ∀ k, k < N → parseFieldDescriptor (T k).2.2.1 = some (t0 k) := by
  intro C T N h
  cases h
  exact ⟨⟨rfl, tyX4_ok 2 (by decide)⟩, nmX4, tyX4, tyX4_ok⟩
theorem pq_4_3 : ∀ C T N, vwCl[4]? = some (C, T, N) → ((T 3).2.2.2 = false ∧ parseFieldDescriptor (T 3).2.2.1 = some .int) ∧ (∀ a, a < N → ∀ b, b < N → a ≠ b → (T a).2.1 ≠ (T b).2.1) ∧ ∃ t0 : Nat → FieldType, ∀ k, k < N → parseFieldDescriptor (T k).2.2.1 = some (t0 k) := by
  intro C T N h
  cases h
  exact ⟨⟨rfl, tyX4_ok 3 (by decide)⟩, nmX4, tyX4, tyX4_ok⟩
theorem pq_5_3 : ∀ C T N, vwCl[5]? = some (C, T, N) → ((T 3).2.2.2 = false ∧ parseFieldDescriptor (T 3).2.2.1 = some .int) ∧ (∀ a, a < N → ∀ b, b < N → a ≠ b → (T a).2.1 ≠ (T b).2.1) ∧ ∃ t0 : Nat → FieldType, ∀ k, k < N → parseFieldDescriptor (T k).2.2.1 = some (t0 k) := by
  intro C T N h
  cases h
  exact ⟨⟨rfl, tyX5_ok 3 (by decide)⟩, nmX5, tyX5, tyX5_ok⟩
theorem pq_6_9 : ∀ C T N, vwCl[6]? = some (C, T, N) → ((T 9).2.2.2 = false ∧ parseFieldDescriptor (T 9).2.2.1 = some .int) ∧ (∀ a, a < N → ∀ b, b < N → a ≠ b → (T a).2.1 ≠ (T b).2.1) ∧ ∃ t0 : Nat → FieldType, ∀ k, k < N → parseFieldDescriptor (T k).2.2.1 = some (t0 k) := by
  intro C T N h
  cases h
  exact ⟨⟨rfl, tyX6_ok 9 (by decide)⟩, nmX6, tyX6, tyX6_ok⟩
theorem pq_6_10 : ∀ C T N, vwCl[6]? = some (C, T, N) → ((T 10).2.2.2 = false ∧ parseFieldDescriptor (T 10).2.2.1 = some .int) ∧ (∀ a, a < N → ∀ b, b < N → a ≠ b → (T a).2.1 ≠ (T b).2.1) ∧ ∃ t0 : Nat → FieldType, ∀ k, k < N → parseFieldDescriptor (T k).2.2.1 = some (t0 k) := by
  intro C T N h
  cases h
  exact ⟨⟨rfl, tyX6_ok 10 (by decide)⟩, nmX6, tyX6, tyX6_ok⟩
theorem pq_7_4 : ∀ C T N, vwCl[7]? = some (C, T, N) → ((T 4).2.2.2 = false ∧ parseFieldDescriptor (T 4).2.2.1 = some .int) ∧ (∀ a, a < N → ∀ b, b < N → a ≠ b → (T a).2.1 ≠ (T b).2.1) ∧ ∃ t0 : Nat → FieldType, ∀ k, k < N → parseFieldDescriptor (T k).2.2.1 = some (t0 k) := by
  intro C T N h
  cases h
  exact ⟨⟨rfl, tyX7_ok 4 (by decide)⟩, nmX7, tyX7, tyX7_ok⟩
theorem pq_7_7 : ∀ C T N, vwCl[7]? = some (C, T, N) → ((T 7).2.2.2 = false ∧ parseFieldDescriptor (T 7).2.2.1 = some .int) ∧ (∀ a, a < N → ∀ b, b < N → a ≠ b → (T a).2.1 ≠ (T b).2.1) ∧ ∃ t0 : Nat → FieldType, ∀ k, k < N → parseFieldDescriptor (T k).2.2.1 = some (t0 k) := by
  intro C T N h
  cases h
  exact ⟨⟨rfl, tyX7_ok 7 (by decide)⟩, nmX7, tyX7, tyX7_ok⟩
theorem pq_7_12 : ∀ C T N, vwCl[7]? = some (C, T, N) → ((T 12).2.2.2 = false ∧ parseFieldDescriptor (T 12).2.2.1 = some .int) ∧ (∀ a, a < N → ∀ b, b < N → a ≠ b → (T a).2.1 ≠ (T b).2.1) ∧ ∃ t0 : Nat → FieldType, ∀ k, k < N → parseFieldDescriptor (T k).2.2.1 = some (t0 k) := by
  intro C T N h
  cases h
  exact ⟨⟨rfl, tyX7_ok 12 (by decide)⟩, nmX7, tyX7, tyX7_ok⟩
theorem pq_7_13 : ∀ C T N, vwCl[7]? = some (C, T, N) → ((T 13).2.2.2 = false ∧ parseFieldDescriptor (T 13).2.2.1 = some .int) ∧ (∀ a, a < N → ∀ b, b < N → a ≠ b → (T a).2.1 ≠ (T b).2.1) ∧ ∃ t0 : Nat → FieldType, ∀ k, k < N → parseFieldDescriptor (T k).2.2.1 = some (t0 k) := by
  intro C T N h
  cases h
  exact ⟨⟨rfl, tyX7_ok 13 (by decide)⟩, nmX7, tyX7, tyX7_ok⟩
theorem pq_7_16 : ∀ C T N, vwCl[7]? = some (C, T, N) → ((T 16).2.2.2 = false ∧ parseFieldDescriptor (T 16).2.2.1 = some .int) ∧ (∀ a, a < N → ∀ b, b < N → a ≠ b → (T a).2.1 ≠ (T b).2.1) ∧ ∃ t0 : Nat → FieldType, ∀ k, k < N → parseFieldDescriptor (T k).2.2.1 = some (t0 k) := by
  intro C T N h
  cases h
  exact ⟨⟨rfl, tyX7_ok 16 (by decide)⟩, nmX7, tyX7, tyX7_ok⟩
theorem pq_7_17 : ∀ C T N, vwCl[7]? = some (C, T, N) → ((T 17).2.2.2 = false ∧ parseFieldDescriptor (T 17).2.2.1 = some .int) ∧ (∀ a, a < N → ∀ b, b < N → a ≠ b → (T a).2.1 ≠ (T b).2.1) ∧ ∃ t0 : Nat → FieldType, ∀ k, k < N → parseFieldDescriptor (T k).2.2.1 = some (t0 k) := by
  intro C T N h
  cases h
  exact ⟨⟨rfl, tyX7_ok 17 (by decide)⟩, nmX7, tyX7, tyX7_ok⟩
theorem pq_7_19 : ∀ C T N, vwCl[7]? = some (C, T, N) → ((T 19).2.2.2 = false ∧ parseFieldDescriptor (T 19).2.2.1 = some .int) ∧ (∀ a, a < N → ∀ b, b < N → a ≠ b → (T a).2.1 ≠ (T b).2.1) ∧ ∃ t0 : Nat → FieldType, ∀ k, k < N → parseFieldDescriptor (T k).2.2.1 = some (t0 k) := by
  intro C T N h
  cases h
  exact ⟨⟨rfl, tyX7_ok 19 (by decide)⟩, nmX7, tyX7, tyX7_ok⟩
theorem pq_7_20 : ∀ C T N, vwCl[7]? = some (C, T, N) → ((T 20).2.2.2 = false ∧ parseFieldDescriptor (T 20).2.2.1 = some .int) ∧ (∀ a, a < N → ∀ b, b < N → a ≠ b → (T a).2.1 ≠ (T b).2.1) ∧ ∃ t0 : Nat → FieldType, ∀ k, k < N → parseFieldDescriptor (T k).2.2.1 = some (t0 k) := by
  intro C T N h
  cases h
  exact ⟨⟨rfl, tyX7_ok 20 (by decide)⟩, nmX7, tyX7, tyX7_ok⟩
theorem pq_7_21 : ∀ C T N, vwCl[7]? = some (C, T, N) → ((T 21).2.2.2 = false ∧ parseFieldDescriptor (T 21).2.2.1 = some .int) ∧ (∀ a, a < N → ∀ b, b < N → a ≠ b → (T a).2.1 ≠ (T b).2.1) ∧ ∃ t0 : Nat → FieldType, ∀ k, k < N → parseFieldDescriptor (T k).2.2.1 = some (t0 k) := by
  intro C T N h
  cases h
  exact ⟨⟨rfl, tyX7_ok 21 (by decide)⟩, nmX7, tyX7, tyX7_ok⟩
theorem pq_7_22 : ∀ C T N, vwCl[7]? = some (C, T, N) → ((T 22).2.2.2 = false ∧ parseFieldDescriptor (T 22).2.2.1 = some .int) ∧ (∀ a, a < N → ∀ b, b < N → a ≠ b → (T a).2.1 ≠ (T b).2.1) ∧ ∃ t0 : Nat → FieldType, ∀ k, k < N → parseFieldDescriptor (T k).2.2.1 = some (t0 k) := by
  intro C T N h
  cases h
  exact ⟨⟨rfl, tyX7_ok 22 (by decide)⟩, nmX7, tyX7, tyX7_ok⟩
theorem pq_7_25 : ∀ C T N, vwCl[7]? = some (C, T, N) → ((T 25).2.2.2 = false ∧ parseFieldDescriptor (T 25).2.2.1 = some .int) ∧ (∀ a, a < N → ∀ b, b < N → a ≠ b → (T a).2.1 ≠ (T b).2.1) ∧ ∃ t0 : Nat → FieldType, ∀ k, k < N → parseFieldDescriptor (T k).2.2.1 = some (t0 k) := by
  intro C T N h
  cases h
  exact ⟨⟨rfl, tyX7_ok 25 (by decide)⟩, nmX7, tyX7, tyX7_ok⟩
theorem kX5_15 : Lk_ RX5 15 mJ0_length_8abf5 0 := ⟨(tb_in 32 (by decide +kernel) rfl), (tb_in 3 (by decide +kernel) rfl), (tb_in 35 (by decide +kernel) rfl), ⟨by decide +kernel, by decide +kernel, by decide +kernel⟩, by decide +kernel⟩
theorem kJ0_335 : Lk_ RJ0 335 mJ0_coder_7d493 0 := ⟨(tb_in 36 (by decide +kernel) rfl), (tb_in 3 (by decide +kernel) rfl), (tb_in 39 (by decide +kernel) rfl), ⟨by decide +kernel, by decide +kernel, by decide +kernel⟩, by decide +kernel⟩
theorem kL_13 : Lk_ "DrownedNamesLaw" 13 mX6_type 2 := ⟨(tb_in 277 (by decide +kernel) rfl), (tb_in 1 (by decide +kernel) rfl), (tb_in 280 (by decide +kernel) rfl), ⟨by decide +kernel, by decide +kernel, by decide +kernel⟩, by decide +kernel⟩
theorem kX6_74 : Lk_ RX6 74 mX6_textAt 1 := ⟨(tb_in 281 (by decide +kernel) rfl), (tb_in 1 (by decide +kernel) rfl), (tb_in 284 (by decide +kernel) rfl), ⟨by decide +kernel, by decide +kernel, by decide +kernel⟩, by decide +kernel⟩
theorem kX6_78 : Lk_ RX6 78 mX6_isWithin 2 := ⟨(tb_in 285 (by decide +kernel) rfl), (tb_in 1 (by decide +kernel) rfl), (tb_in 287 (by decide +kernel) rfl), ⟨by decide +kernel, by decide +kernel, by decide +kernel⟩, by decide +kernel⟩
theorem kX6_82 : Lk_ RX6 82 mX5_isFull 0 := ⟨(tb_in 288 (by decide +kernel) rfl), (tb_in 2 (by decide +kernel) rfl), (tb_in 291 (by decide +kernel) rfl), ⟨by decide +kernel, by decide +kernel, by decide +kernel⟩, by decide +kernel⟩
theorem kX6_86 : Lk_ RX6 86 mX5_append 1 := ⟨(tb_in 292 (by decide +kernel) rfl), (tb_in 2 (by decide +kernel) rfl), (tb_in 295 (by decide +kernel) rfl), ⟨by decide +kernel, by decide +kernel, by decide +kernel⟩, by decide +kernel⟩
theorem kX5_31 : Lk_ RX5 31 mX5_isFull 0 := ⟨(tb_in 296 (by decide +kernel) rfl), (tb_in 2 (by decide +kernel) rfl), (tb_in 291 (by decide +kernel) rfl), ⟨by decide +kernel, by decide +kernel, by decide +kernel⟩, by decide +kernel⟩
theorem kX6_89 : Lk_ RX6 89 mX6_settle 0 := ⟨(tb_in 297 (by decide +kernel) rfl), (tb_in 1 (by decide +kernel) rfl), (tb_in 300 (by decide +kernel) rfl), ⟨by decide +kernel, by decide +kernel, by decide +kernel⟩, by decide +kernel⟩
theorem kX6_360 : Lk_ RX6 360 mX1_settleShips 1 := ⟨(tb_in 301 (by decide +kernel) rfl), (tb_in 5 (by decide +kernel) rfl), (tb_in 304 (by decide +kernel) rfl), ⟨by decide +kernel, by decide +kernel, by decide +kernel⟩, by decide +kernel⟩
theorem kX1_55 : Lk_ RX1 55 mX5_items 0 := ⟨(tb_in 305 (by decide +kernel) rfl), (tb_in 2 (by decide +kernel) rfl), (tb_in 308 (by decide +kernel) rfl), ⟨by decide +kernel, by decide +kernel, by decide +kernel⟩, by decide +kernel⟩
theorem kX5_46 : Lk_ RX5 46 mX5_faultPlace 0 := ⟨(tb_in 309 (by decide +kernel) rfl), (tb_in 2 (by decide +kernel) rfl), (tb_in 312 (by decide +kernel) rfl), ⟨by decide +kernel, by decide +kernel, by decide +kernel⟩, by decide +kernel⟩
theorem kX5_42 : Lk_ RX5 42 mX5_goesOnAt 1 := ⟨(tb_in 313 (by decide +kernel) rfl), (tb_in 2 (by decide +kernel) rfl), (tb_in 316 (by decide +kernel) rfl), ⟨by decide +kernel, by decide +kernel, by decide +kernel⟩, by decide +kernel⟩
theorem kX5_35 : Lk_ RX5 35 mX5_byteAt 1 := ⟨(tb_in 317 (by decide +kernel) rfl), (tb_in 2 (by decide +kernel) rfl), (tb_in 320 (by decide +kernel) rfl), ⟨by decide +kernel, by decide +kernel, by decide +kernel⟩, by decide +kernel⟩
theorem kX5_49 : Lk_ RX5 49 mJ0_charAt_5068e 1 := ⟨(tb_in 321 (by decide +kernel) rfl), (tb_in 3 (by decide +kernel) rfl), (tb_in 324 (by decide +kernel) rfl), ⟨by decide +kernel, by decide +kernel, by decide +kernel⟩, by decide +kernel⟩
theorem kJ0_492 : Lk_ RJ0 492 mJ0_isLatin1_aae02 0 := ⟨(tb_in 325 (by decide +kernel) rfl), (tb_in 3 (by decide +kernel) rfl), (tb_in 328 (by decide +kernel) rfl), ⟨by decide +kernel, by decide +kernel, by decide +kernel⟩, by decide +kernel⟩
theorem kJ0_495 : Lk_ RJ0 495 mJ1_charAt_3b067 2 := ⟨(tb_in 329 (by decide +kernel) rfl), (tb_in 10 (by decide +kernel) rfl), (tb_in 331 (by decide +kernel) rfl), ⟨by decide +kernel, by decide +kernel, by decide +kernel⟩, by decide +kernel⟩
theorem kJ1_9 : Lk_ RJ1 9 mJ0_checkIndex_df160 2 := ⟨(tb_in 332 (by decide +kernel) rfl), (tb_in 3 (by decide +kernel) rfl), (tb_in 334 (by decide +kernel) rfl), ⟨by decide +kernel, by decide +kernel, by decide +kernel⟩, by decide +kernel⟩
theorem kJ0_1059 : Lk_ RJ0 1059 mJ3_checkIndex_8e157 3 := ⟨(tb_in 337 (by decide +kernel) rfl), (tb_in 11 (by decide +kernel) rfl), (tb_in 339 (by decide +kernel) rfl), ⟨by decide +kernel, by decide +kernel, by decide +kernel⟩, by decide +kernel⟩
theorem kJ0_498 : Lk_ RJ0 498 mJ2_charAt_3b067 2 := ⟨(tb_in 340 (by decide +kernel) rfl), (tb_in 12 (by decide +kernel) rfl), (tb_in 342 (by decide +kernel) rfl), ⟨by decide +kernel, by decide +kernel, by decide +kernel⟩, by decide +kernel⟩
theorem kJ2_67 : Lk_ RJ2 67 mJ2_checkIndex_2214a 2 := ⟨(tb_in 343 (by decide +kernel) rfl), (tb_in 12 (by decide +kernel) rfl), (tb_in 345 (by decide +kernel) rfl), ⟨by decide +kernel, by decide +kernel, by decide +kernel⟩, by decide +kernel⟩
theorem kJ2_48 : Lk_ RJ2 48 mJ2_length_9d52b 1 := ⟨(tb_in 346 (by decide +kernel) rfl), (tb_in 12 (by decide +kernel) rfl), (tb_in 348 (by decide +kernel) rfl), ⟨by decide +kernel, by decide +kernel, by decide +kernel⟩, by decide +kernel⟩
theorem kJ2_414 : Lk_ RJ2 414 mJ0_checkIndex_df160 2 := ⟨(tb_in 349 (by decide +kernel) rfl), (tb_in 3 (by decide +kernel) rfl), (tb_in 334 (by decide +kernel) rfl), ⟨by decide +kernel, by decide +kernel, by decide +kernel⟩, by decide +kernel⟩
theorem kJ2_71 : Lk_ RJ2 71 mJ2_getChar_3b067 2 := ⟨(tb_in 350 (by decide +kernel) rfl), (tb_in 12 (by decide +kernel) rfl), (tb_in 352 (by decide +kernel) rfl), ⟨by decide +kernel, by decide +kernel, by decide +kernel⟩, by decide +kernel⟩
theorem kX5_53 : Lk_ RX5 53 mX5_isBetween 3 := ⟨(tb_in 359 (by decide +kernel) rfl), (tb_in 2 (by decide +kernel) rfl), (tb_in 361 (by decide +kernel) rfl), ⟨by decide +kernel, by decide +kernel, by decide +kernel⟩, by decide +kernel⟩
theorem kX1_70 : Lk_ RX1 70 mX5_figuresAt 1 := ⟨(tb_in 365 (by decide +kernel) rfl), (tb_in 2 (by decide +kernel) rfl), (tb_in 368 (by decide +kernel) rfl), ⟨by decide +kernel, by decide +kernel, by decide +kernel⟩, by decide +kernel⟩
theorem kX5_39 : Lk_ RX5 39 mX5_figureAt 1 := ⟨(tb_in 369 (by decide +kernel) rfl), (tb_in 2 (by decide +kernel) rfl), (tb_in 372 (by decide +kernel) rfl), ⟨by decide +kernel, by decide +kernel, by decide +kernel⟩, by decide +kernel⟩
theorem kX1_74 : Lk_ RX1 74 mX5_figureAt 1 := ⟨(tb_in 373 (by decide +kernel) rfl), (tb_in 2 (by decide +kernel) rfl), (tb_in 372 (by decide +kernel) rfl), ⟨by decide +kernel, by decide +kernel, by decide +kernel⟩, by decide +kernel⟩
theorem kX6_364 : Lk_ RX6 364 mX1_settleNames 1 := ⟨(tb_in 374 (by decide +kernel) rfl), (tb_in 5 (by decide +kernel) rfl), (tb_in 377 (by decide +kernel) rfl), ⟨by decide +kernel, by decide +kernel, by decide +kernel⟩, by decide +kernel⟩
theorem kX1_77 : Lk_ RX1 77 mX5_byteAt 1 := ⟨(tb_in 378 (by decide +kernel) rfl), (tb_in 2 (by decide +kernel) rfl), (tb_in 320 (by decide +kernel) rfl), ⟨by decide +kernel, by decide +kernel, by decide +kernel⟩, by decide +kernel⟩
theorem kX6_367 : Lk_ RX6 367 mX1_settleLines 1 := ⟨(tb_in 379 (by decide +kernel) rfl), (tb_in 5 (by decide +kernel) rfl), (tb_in 382 (by decide +kernel) rfl), ⟨by decide +kernel, by decide +kernel, by decide +kernel⟩, by decide +kernel⟩
theorem kX6_220 : Lk_ RX6 220 mX1_strikeOut 1 := ⟨(tb_in 383 (by decide +kernel) rfl), (tb_in 5 (by decide +kernel) rfl), (tb_in 386 (by decide +kernel) rfl), ⟨by decide +kernel, by decide +kernel, by decide +kernel⟩, by decide +kernel⟩
theorem kX1_80 : Lk_ RX1 80 mX1_bearerOf 2 := ⟨(tb_in 387 (by decide +kernel) rfl), (tb_in 5 (by decide +kernel) rfl), (tb_in 390 (by decide +kernel) rfl), ⟨by decide +kernel, by decide +kernel, by decide +kernel⟩, by decide +kernel⟩
theorem kX1_90 : Lk_ RX1 90 mX1_hasName 1 := ⟨(tb_in 391 (by decide +kernel) rfl), (tb_in 5 (by decide +kernel) rfl), (tb_in 394 (by decide +kernel) rfl), ⟨by decide +kernel, by decide +kernel, by decide +kernel⟩, by decide +kernel⟩
theorem kX1_83 : Lk_ RX1 83 mX1_isVoid 2 := ⟨(tb_in 395 (by decide +kernel) rfl), (tb_in 5 (by decide +kernel) rfl), (tb_in 398 (by decide +kernel) rfl), ⟨by decide +kernel, by decide +kernel, by decide +kernel⟩, by decide +kernel⟩
theorem kX1_94 : Lk_ RX1 94 mX1_hasShip 1 := ⟨(tb_in 399 (by decide +kernel) rfl), (tb_in 5 (by decide +kernel) rfl), (tb_in 402 (by decide +kernel) rfl), ⟨by decide +kernel, by decide +kernel, by decide +kernel⟩, by decide +kernel⟩
theorem kX1_87 : Lk_ RX1 87 mX1_dueOfLine 2 := ⟨(tb_in 403 (by decide +kernel) rfl), (tb_in 5 (by decide +kernel) rfl), (tb_in 406 (by decide +kernel) rfl), ⟨by decide +kernel, by decide +kernel, by decide +kernel⟩, by decide +kernel⟩
theorem kL_18 : Lk_ "DrownedNamesLaw" 18 mX6_wipe 1 := ⟨(tb_in 407 (by decide +kernel) rfl), (tb_in 1 (by decide +kernel) rfl), (tb_in 410 (by decide +kernel) rfl), ⟨by decide +kernel, by decide +kernel, by decide +kernel⟩, by decide +kernel⟩
theorem kL_23 : Lk_ "DrownedNamesLaw" 23 mX6_undo 1 := ⟨(tb_in 411 (by decide +kernel) rfl), (tb_in 1 (by decide +kernel) rfl), (tb_in 414 (by decide +kernel) rfl), ⟨by decide +kernel, by decide +kernel, by decide +kernel⟩, by decide +kernel⟩
theorem kL_27 : Lk_ "DrownedNamesLaw" 27 mX6_fault 1 := ⟨(tb_in 415 (by decide +kernel) rfl), (tb_in 1 (by decide +kernel) rfl), (tb_in 418 (by decide +kernel) rfl), ⟨by decide +kernel, by decide +kernel, by decide +kernel⟩, by decide +kernel⟩
theorem kX6_96 : Lk_ RX6 96 mX5_faultPlace 0 := ⟨(tb_in 419 (by decide +kernel) rfl), (tb_in 2 (by decide +kernel) rfl), (tb_in 312 (by decide +kernel) rfl), ⟨by decide +kernel, by decide +kernel, by decide +kernel⟩, by decide +kernel⟩
theorem kL_31 : Lk_ "DrownedNamesLaw" 31 mX6_ship 2 := ⟨(tb_in 420 (by decide +kernel) rfl), (tb_in 1 (by decide +kernel) rfl), (tb_in 423 (by decide +kernel) rfl), ⟨by decide +kernel, by decide +kernel, by decide +kernel⟩, by decide +kernel⟩
theorem kX6_100 : Lk_ RX6 100 mX1_hasShip 1 := ⟨(tb_in 424 (by decide +kernel) rfl), (tb_in 5 (by decide +kernel) rfl), (tb_in 402 (by decide +kernel) rfl), ⟨by decide +kernel, by decide +kernel, by decide +kernel⟩, by decide +kernel⟩
theorem kL_35 : Lk_ "DrownedNamesLaw" 35 mX6_name 2 := ⟨(tb_in 425 (by decide +kernel) rfl), (tb_in 1 (by decide +kernel) rfl), (tb_in 428 (by decide +kernel) rfl), ⟨by decide +kernel, by decide +kernel, by decide +kernel⟩, by decide +kernel⟩
theorem kX6_111 : Lk_ RX6 111 mX1_hasName 1 := ⟨(tb_in 429 (by decide +kernel) rfl), (tb_in 5 (by decide +kernel) rfl), (tb_in 394 (by decide +kernel) rfl), ⟨by decide +kernel, by decide +kernel, by decide +kernel⟩, by decide +kernel⟩
theorem kX6_117 : Lk_ RX6 117 mX1_isDrowned 1 := ⟨(tb_in 430 (by decide +kernel) rfl), (tb_in 5 (by decide +kernel) rfl), (tb_in 433 (by decide +kernel) rfl), ⟨by decide +kernel, by decide +kernel, by decide +kernel⟩, by decide +kernel⟩
theorem kL_39 : Lk_ "DrownedNamesLaw" 39 mX6_line 2 := ⟨(tb_in 434 (by decide +kernel) rfl), (tb_in 1 (by decide +kernel) rfl), (tb_in 437 (by decide +kernel) rfl), ⟨by decide +kernel, by decide +kernel, by decide +kernel⟩, by decide +kernel⟩
theorem kX6_123 : Lk_ RX6 123 mX1_hasLine 1 := ⟨(tb_in 438 (by decide +kernel) rfl), (tb_in 5 (by decide +kernel) rfl), (tb_in 441 (by decide +kernel) rfl), ⟨by decide +kernel, by decide +kernel, by decide +kernel⟩, by decide +kernel⟩
theorem kL_43 : Lk_ "DrownedNamesLaw" 43 mX6_struck 1 := ⟨(tb_in 442 (by decide +kernel) rfl), (tb_in 1 (by decide +kernel) rfl), (tb_in 445 (by decide +kernel) rfl), ⟨by decide +kernel, by decide +kernel, by decide +kernel⟩, by decide +kernel⟩
theorem kL_47 : Lk_ "DrownedNamesLaw" 47 mX6_loss 2 := ⟨(tb_in 446 (by decide +kernel) rfl), (tb_in 1 (by decide +kernel) rfl), (tb_in 449 (by decide +kernel) rfl), ⟨by decide +kernel, by decide +kernel, by decide +kernel⟩, by decide +kernel⟩
theorem kX6_141 : Lk_ RX6 141 mX6_isLoss 2 := ⟨(tb_in 450 (by decide +kernel) rfl), (tb_in 1 (by decide +kernel) rfl), (tb_in 452 (by decide +kernel) rfl), ⟨by decide +kernel, by decide +kernel, by decide +kernel⟩, by decide +kernel⟩
theorem kX6_176 : Lk_ RX6 176 mX6_isYear 1 := ⟨(tb_in 453 (by decide +kernel) rfl), (tb_in 1 (by decide +kernel) rfl), (tb_in 455 (by decide +kernel) rfl), ⟨by decide +kernel, by decide +kernel, by decide +kernel⟩, by decide +kernel⟩
theorem kX6_144 : Lk_ RX6 144 mX2_isFull 0 := ⟨(tb_in 456 (by decide +kernel) rfl), (tb_in 4 (by decide +kernel) rfl), (tb_in 459 (by decide +kernel) rfl), ⟨by decide +kernel, by decide +kernel, by decide +kernel⟩, by decide +kernel⟩
theorem kX6_145 : Lk_ RX6 145 mX2_append 2 := ⟨(tb_in 460 (by decide +kernel) rfl), (tb_in 4 (by decide +kernel) rfl), (tb_in 463 (by decide +kernel) rfl), ⟨by decide +kernel, by decide +kernel, by decide +kernel⟩, by decide +kernel⟩
theorem kX2_20 : Lk_ RX2 20 mX2_isFull 0 := ⟨(tb_in 464 (by decide +kernel) rfl), (tb_in 4 (by decide +kernel) rfl), (tb_in 459 (by decide +kernel) rfl), ⟨by decide +kernel, by decide +kernel, by decide +kernel⟩, by decide +kernel⟩
theorem kL_51 : Lk_ "DrownedNamesLaw" 51 mX6_back 0 := ⟨(tb_in 465 (by decide +kernel) rfl), (tb_in 1 (by decide +kernel) rfl), (tb_in 468 (by decide +kernel) rfl), ⟨by decide +kernel, by decide +kernel, by decide +kernel⟩, by decide +kernel⟩
theorem kL_56 : Lk_ "DrownedNamesLaw" 56 mX6_read 1 := ⟨(tb_in 469 (by decide +kernel) rfl), (tb_in 1 (by decide +kernel) rfl), (tb_in 472 (by decide +kernel) rfl), ⟨by decide +kernel, by decide +kernel, by decide +kernel⟩, by decide +kernel⟩
theorem kX6_151 : Lk_ RX6 151 mX6_sheetAt 1 := ⟨(tb_in 473 (by decide +kernel) rfl), (tb_in 1 (by decide +kernel) rfl), (tb_in 476 (by decide +kernel) rfl), ⟨by decide +kernel, by decide +kernel, by decide +kernel⟩, by decide +kernel⟩
theorem kX6_159 : Lk_ RX6 159 mX6_found 1 := ⟨(tb_in 477 (by decide +kernel) rfl), (tb_in 1 (by decide +kernel) rfl), (tb_in 480 (by decide +kernel) rfl), ⟨by decide +kernel, by decide +kernel, by decide +kernel⟩, by decide +kernel⟩
theorem kL_60 : Lk_ "DrownedNamesLaw" 60 mX6_bearer 2 := ⟨(tb_in 481 (by decide +kernel) rfl), (tb_in 1 (by decide +kernel) rfl), (tb_in 484 (by decide +kernel) rfl), ⟨by decide +kernel, by decide +kernel, by decide +kernel⟩, by decide +kernel⟩
theorem kX6_170 : Lk_ RX6 170 mX1_namesBorneBy 1 := ⟨(tb_in 485 (by decide +kernel) rfl), (tb_in 5 (by decide +kernel) rfl), (tb_in 488 (by decide +kernel) rfl), ⟨by decide +kernel, by decide +kernel, by decide +kernel⟩, by decide +kernel⟩
theorem kL_64 : Lk_ "DrownedNamesLaw" 64 mX6_borne 2 := ⟨(tb_in 489 (by decide +kernel) rfl), (tb_in 1 (by decide +kernel) rfl), (tb_in 492 (by decide +kernel) rfl), ⟨by decide +kernel, by decide +kernel, by decide +kernel⟩, by decide +kernel⟩
theorem kX6_173 : Lk_ RX6 173 mX1_dueOf 2 := ⟨(tb_in 493 (by decide +kernel) rfl), (tb_in 5 (by decide +kernel) rfl), (tb_in 496 (by decide +kernel) rfl), ⟨by decide +kernel, by decide +kernel, by decide +kernel⟩, by decide +kernel⟩
theorem kL_68 : Lk_ "DrownedNamesLaw" 68 mX6_unborne 1 := ⟨(tb_in 497 (by decide +kernel) rfl), (tb_in 1 (by decide +kernel) rfl), (tb_in 500 (by decide +kernel) rfl), ⟨by decide +kernel, by decide +kernel, by decide +kernel⟩, by decide +kernel⟩
theorem kL_72 : Lk_ "DrownedNamesLaw" 72 mX6_left 2 := ⟨(tb_in 501 (by decide +kernel) rfl), (tb_in 1 (by decide +kernel) rfl), (tb_in 504 (by decide +kernel) rfl), ⟨by decide +kernel, by decide +kernel, by decide +kernel⟩, by decide +kernel⟩
theorem kX6_179 : Lk_ RX6 179 mX3_followTold 2 := ⟨(tb_in 505 (by decide +kernel) rfl), (tb_in 6 (by decide +kernel) rfl), (tb_in 508 (by decide +kernel) rfl), ⟨by decide +kernel, by decide +kernel, by decide +kernel⟩, by decide +kernel⟩
theorem kX3_22 : Lk_ RX3 22 mX3_begin 0 := ⟨(tb_in 509 (by decide +kernel) rfl), (tb_in 6 (by decide +kernel) rfl), (tb_in 512 (by decide +kernel) rfl), ⟨by decide +kernel, by decide +kernel, by decide +kernel⟩, by decide +kernel⟩
theorem kX3_66 : Lk_ RX3 66 mJ7_fill_53178 2 := ⟨(tb_in 516 (by decide +kernel) rfl), (tb_in 15 (by decide +kernel) rfl), (tb_in 518 (by decide +kernel) rfl), ⟨by decide +kernel, by decide +kernel, by decide +kernel⟩, by decide +kernel⟩
theorem kX3_37 : Lk_ RX3 37 mX3_sink 3 := ⟨(tb_in 519 (by decide +kernel) rfl), (tb_in 6 (by decide +kernel) rfl), (tb_in 522 (by decide +kernel) rfl), ⟨by decide +kernel, by decide +kernel, by decide +kernel⟩, by decide +kernel⟩
theorem kX3_54 : Lk_ RX3 54 mX1_hasShip 1 := ⟨(tb_in 523 (by decide +kernel) rfl), (tb_in 5 (by decide +kernel) rfl), (tb_in 402 (by decide +kernel) rfl), ⟨by decide +kernel, by decide +kernel, by decide +kernel⟩, by decide +kernel⟩
theorem kX3_46 : Lk_ RX3 46 mX3_isLost 1 := ⟨(tb_in 524 (by decide +kernel) rfl), (tb_in 6 (by decide +kernel) rfl), (tb_in 527 (by decide +kernel) rfl), ⟨by decide +kernel, by decide +kernel, by decide +kernel⟩, by decide +kernel⟩
theorem kX3_93 : Lk_ RX3 93 mX1_hasName 1 := ⟨(tb_in 528 (by decide +kernel) rfl), (tb_in 5 (by decide +kernel) rfl), (tb_in 394 (by decide +kernel) rfl), ⟨by decide +kernel, by decide +kernel, by decide +kernel⟩, by decide +kernel⟩
theorem kX3_105 : Lk_ RX3 105 mX1_isDrowned 1 := ⟨(tb_in 530 (by decide +kernel) rfl), (tb_in 5 (by decide +kernel) rfl), (tb_in 433 (by decide +kernel) rfl), ⟨by decide +kernel, by decide +kernel, by decide +kernel⟩, by decide +kernel⟩
theorem kX3_108 : Lk_ RX3 108 mX3_breakName 2 := ⟨(tb_in 531 (by decide +kernel) rfl), (tb_in 6 (by decide +kernel) rfl), (tb_in 534 (by decide +kernel) rfl), ⟨by decide +kernel, by decide +kernel, by decide +kernel⟩, by decide +kernel⟩
theorem kL_76 : Lk_ "DrownedNamesLaw" 76 mX6_behind 2 := ⟨(tb_in 535 (by decide +kernel) rfl), (tb_in 1 (by decide +kernel) rfl), (tb_in 538 (by decide +kernel) rfl), ⟨by decide +kernel, by decide +kernel, by decide +kernel⟩, by decide +kernel⟩
theorem kL_80 : Lk_ "DrownedNamesLaw" 80 mX6_paid 2 := ⟨(tb_in 539 (by decide +kernel) rfl), (tb_in 1 (by decide +kernel) rfl), (tb_in 542 (by decide +kernel) rfl), ⟨by decide +kernel, by decide +kernel, by decide +kernel⟩, by decide +kernel⟩
theorem kL_84 : Lk_ "DrownedNamesLaw" 84 mX6_first 1 := ⟨(tb_in 543 (by decide +kernel) rfl), (tb_in 1 (by decide +kernel) rfl), (tb_in 546 (by decide +kernel) rfl), ⟨by decide +kernel, by decide +kernel, by decide +kernel⟩, by decide +kernel⟩
theorem kL_88 : Lk_ "DrownedNamesLaw" 88 mX6_safe 0 := ⟨(tb_in 547 (by decide +kernel) rfl), (tb_in 1 (by decide +kernel) rfl), (tb_in 550 (by decide +kernel) rfl), ⟨by decide +kernel, by decide +kernel, by decide +kernel⟩, by decide +kernel⟩
theorem kX6_203 : Lk_ RX6 203 mX3_loseAlone 2 := ⟨(tb_in 551 (by decide +kernel) rfl), (tb_in 6 (by decide +kernel) rfl), (tb_in 554 (by decide +kernel) rfl), ⟨by decide +kernel, by decide +kernel, by decide +kernel⟩, by decide +kernel⟩
theorem kL_92 : Lk_ "DrownedNamesLaw" 92 mX6_take 1 := ⟨(tb_in 555 (by decide +kernel) rfl), (tb_in 1 (by decide +kernel) rfl), (tb_in 558 (by decide +kernel) rfl), ⟨by decide +kernel, by decide +kernel, by decide +kernel⟩, by decide +kernel⟩
theorem kX6_209 : Lk_ RX6 209 mX1_hasTogether 1 := ⟨(tb_in 559 (by decide +kernel) rfl), (tb_in 5 (by decide +kernel) rfl), (tb_in 562 (by decide +kernel) rfl), ⟨by decide +kernel, by decide +kernel, by decide +kernel⟩, by decide +kernel⟩
theorem kX6_212 : Lk_ RX6 212 mJ6_bitCount_0f7a4 1 := ⟨(tb_in 563 (by decide +kernel) rfl), (tb_in 16 (by decide +kernel) rfl), (tb_in 565 (by decide +kernel) rfl), ⟨by decide +kernel, by decide +kernel, by decide +kernel⟩, by decide +kernel⟩
theorem kL_96 : Lk_ "DrownedNamesLaw" 96 mX6_strike 2 := ⟨(tb_in 569 (by decide +kernel) rfl), (tb_in 1 (by decide +kernel) rfl), (tb_in 572 (by decide +kernel) rfl), ⟨by decide +kernel, by decide +kernel, by decide +kernel⟩, by decide +kernel⟩
theorem kX6_217 : Lk_ RX6 217 mX1_dueOfAllShips 1 := ⟨(tb_in 573 (by decide +kernel) rfl), (tb_in 5 (by decide +kernel) rfl), (tb_in 576 (by decide +kernel) rfl), ⟨by decide +kernel, by decide +kernel, by decide +kernel⟩, by decide +kernel⟩
theorem kX1_97 : Lk_ RX1 97 mX1_dueOf 2 := ⟨(tb_in 577 (by decide +kernel) rfl), (tb_in 5 (by decide +kernel) rfl), (tb_in 496 (by decide +kernel) rfl), ⟨by decide +kernel, by decide +kernel, by decide +kernel⟩, by decide +kernel⟩
theorem kL_100 : Lk_ "DrownedNamesLaw" 100 mX6_seen 2 := ⟨(tb_in 578 (by decide +kernel) rfl), (tb_in 1 (by decide +kernel) rfl), (tb_in 581 (by decide +kernel) rfl), ⟨by decide +kernel, by decide +kernel, by decide +kernel⟩, by decide +kernel⟩
theorem kL_104 : Lk_ "DrownedNamesLaw" 104 mX6_forget 0 := ⟨(tb_in 582 (by decide +kernel) rfl), (tb_in 1 (by decide +kernel) rfl), (tb_in 585 (by decide +kernel) rfl), ⟨by decide +kernel, by decide +kernel, by decide +kernel⟩, by decide +kernel⟩
theorem kL_108 : Lk_ "DrownedNamesLaw" 108 mX6_sound 1 := ⟨(tb_in 586 (by decide +kernel) rfl), (tb_in 1 (by decide +kernel) rfl), (tb_in 589 (by decide +kernel) rfl), ⟨by decide +kernel, by decide +kernel, by decide +kernel⟩, by decide +kernel⟩
theorem kX6_223 : Lk_ RX6 223 mX0_weigh 0 := ⟨(tb_in 590 (by decide +kernel) rfl), (tb_in 7 (by decide +kernel) rfl), (tb_in 593 (by decide +kernel) rfl), ⟨by decide +kernel, by decide +kernel, by decide +kernel⟩, by decide +kernel⟩
theorem kX0_43 : Lk_ RX0 43 mX0_fitsAllSeen 1 := ⟨(tb_in 594 (by decide +kernel) rfl), (tb_in 7 (by decide +kernel) rfl), (tb_in 597 (by decide +kernel) rfl), ⟨by decide +kernel, by decide +kernel, by decide +kernel⟩, by decide +kernel⟩
theorem kX0_62 : Lk_ RX0 62 mX3_loseAlone 2 := ⟨(tb_in 598 (by decide +kernel) rfl), (tb_in 6 (by decide +kernel) rfl), (tb_in 554 (by decide +kernel) rfl), ⟨by decide +kernel, by decide +kernel, by decide +kernel⟩, by decide +kernel⟩
theorem kL_112 : Lk_ "DrownedNamesLaw" 112 mX6_press 0 := ⟨(tb_in 599 (by decide +kernel) rfl), (tb_in 1 (by decide +kernel) rfl), (tb_in 602 (by decide +kernel) rfl), ⟨by decide +kernel, by decide +kernel, by decide +kernel⟩, by decide +kernel⟩
theorem kX6_232 : Lk_ RX6 232 mX0_shipToPress 0 := ⟨(tb_in 603 (by decide +kernel) rfl), (tb_in 7 (by decide +kernel) rfl), (tb_in 606 (by decide +kernel) rfl), ⟨by decide +kernel, by decide +kernel, by decide +kernel⟩, by decide +kernel⟩
theorem kX0_50 : Lk_ RX0 50 mX0_greatestGroup 1 := ⟨(tb_in 607 (by decide +kernel) rfl), (tb_in 7 (by decide +kernel) rfl), (tb_in 610 (by decide +kernel) rfl), ⟨by decide +kernel, by decide +kernel, by decide +kernel⟩, by decide +kernel⟩
theorem kX0_71 : Lk_ RX0 71 mJ7_fill_53178 2 := ⟨(tb_in 611 (by decide +kernel) rfl), (tb_in 15 (by decide +kernel) rfl), (tb_in 518 (by decide +kernel) rfl), ⟨by decide +kernel, by decide +kernel, by decide +kernel⟩, by decide +kernel⟩
theorem kL_116 : Lk_ "DrownedNamesLaw" 116 mX6_fair 2 := ⟨(tb_in 615 (by decide +kernel) rfl), (tb_in 1 (by decide +kernel) rfl), (tb_in 618 (by decide +kernel) rfl), ⟨by decide +kernel, by decide +kernel, by decide +kernel⟩, by decide +kernel⟩
theorem kX6_237 : Lk_ RX6 237 mX6_partOfFraction 3 := ⟨(tb_in 620 (by decide +kernel) rfl), (tb_in 1 (by decide +kernel) rfl), (tb_in 622 (by decide +kernel) rfl), ⟨by decide +kernel, by decide +kernel, by decide +kernel⟩, by decide +kernel⟩
theorem kL_121 : Lk_ "DrownedNamesLaw" 121 mX6_storm 3 := ⟨(tb_in 623 (by decide +kernel) rfl), (tb_in 1 (by decide +kernel) rfl), (tb_in 626 (by decide +kernel) rfl), ⟨by decide +kernel, by decide +kernel, by decide +kernel⟩, by decide +kernel⟩
theorem kX6_241 : Lk_ RX6 241 mX1_chancesOf 1 := ⟨(tb_in 627 (by decide +kernel) rfl), (tb_in 5 (by decide +kernel) rfl), (tb_in 630 (by decide +kernel) rfl), ⟨by decide +kernel, by decide +kernel, by decide +kernel⟩, by decide +kernel⟩
theorem kX6_244 : Lk_ RX6 244 mX3_loseTogether 1 := ⟨(tb_in 631 (by decide +kernel) rfl), (tb_in 6 (by decide +kernel) rfl), (tb_in 634 (by decide +kernel) rfl), ⟨by decide +kernel, by decide +kernel, by decide +kernel⟩, by decide +kernel⟩
theorem kL_126 : Lk_ "DrownedNamesLaw" 126 mX6_years 4 := ⟨(tb_in 635 (by decide +kernel) rfl), (tb_in 1 (by decide +kernel) rfl), (tb_in 638 (by decide +kernel) rfl), ⟨by decide +kernel, by decide +kernel, by decide +kernel⟩, by decide +kernel⟩
theorem kX6_247 : Lk_ RX6 247 mX3_followLots 2 := ⟨(tb_in 639 (by decide +kernel) rfl), (tb_in 6 (by decide +kernel) rfl), (tb_in 642 (by decide +kernel) rfl), ⟨by decide +kernel, by decide +kernel, by decide +kernel⟩, by decide +kernel⟩
theorem kL_131 : Lk_ "DrownedNamesLaw" 131 mX6_sheet 3 := ⟨(tb_in 644 (by decide +kernel) rfl), (tb_in 1 (by decide +kernel) rfl), (tb_in 647 (by decide +kernel) rfl), ⟨by decide +kernel, by decide +kernel, by decide +kernel⟩, by decide +kernel⟩
theorem kX6_251 : Lk_ RX6 251 mX6_isForm 1 := ⟨(tb_in 648 (by decide +kernel) rfl), (tb_in 1 (by decide +kernel) rfl), (tb_in 650 (by decide +kernel) rfl), ⟨by decide +kernel, by decide +kernel, by decide +kernel⟩, by decide +kernel⟩
theorem kX6_254 : Lk_ RX6 254 mX4_renew 2 := ⟨(tb_in 651 (by decide +kernel) rfl), (tb_in 8 (by decide +kernel) rfl), (tb_in 654 (by decide +kernel) rfl), ⟨by decide +kernel, by decide +kernel, by decide +kernel⟩, by decide +kernel⟩
theorem kX4_19 : Lk_ RX4 19 mJ7_fill_53178 2 := ⟨(tb_in 655 (by decide +kernel) rfl), (tb_in 15 (by decide +kernel) rfl), (tb_in 518 (by decide +kernel) rfl), ⟨by decide +kernel, by decide +kernel, by decide +kernel⟩, by decide +kernel⟩
theorem kL_136 : Lk_ "DrownedNamesLaw" 136 mX6_lose 1 := ⟨(tb_in 656 (by decide +kernel) rfl), (tb_in 1 (by decide +kernel) rfl), (tb_in 659 (by decide +kernel) rfl), ⟨by decide +kernel, by decide +kernel, by decide +kernel⟩, by decide +kernel⟩
theorem kL_140 : Lk_ "DrownedNamesLaw" 140 mX6_lay 4 := ⟨(tb_in 660 (by decide +kernel) rfl), (tb_in 1 (by decide +kernel) rfl), (tb_in 663 (by decide +kernel) rfl), ⟨by decide +kernel, by decide +kernel, by decide +kernel⟩, by decide +kernel⟩
theorem kX6_257 : Lk_ RX6 257 mX4_findingAt 2 := ⟨(tb_in 664 (by decide +kernel) rfl), (tb_in 8 (by decide +kernel) rfl), (tb_in 667 (by decide +kernel) rfl), ⟨by decide +kernel, by decide +kernel, by decide +kernel⟩, by decide +kernel⟩
theorem kX6_260 : Lk_ RX6 260 mX4_put 2 := ⟨(tb_in 668 (by decide +kernel) rfl), (tb_in 8 (by decide +kernel) rfl), (tb_in 671 (by decide +kernel) rfl), ⟨by decide +kernel, by decide +kernel, by decide +kernel⟩, by decide +kernel⟩
theorem kX4_32 : Lk_ RX4 32 mX4_narrowed 1 := ⟨(tb_in 672 (by decide +kernel) rfl), (tb_in 8 (by decide +kernel) rfl), (tb_in 675 (by decide +kernel) rfl), ⟨by decide +kernel, by decide +kernel, by decide +kernel⟩, by decide +kernel⟩
theorem kL_144 : Lk_ "DrownedNamesLaw" 144 mX6_get 3 := ⟨(tb_in 676 (by decide +kernel) rfl), (tb_in 1 (by decide +kernel) rfl), (tb_in 679 (by decide +kernel) rfl), ⟨by decide +kernel, by decide +kernel, by decide +kernel⟩, by decide +kernel⟩
theorem kL_148 : Lk_ "DrownedNamesLaw" 148 mX6_copy 5 := ⟨(tb_in 681 (by decide +kernel) rfl), (tb_in 1 (by decide +kernel) rfl), (tb_in 684 (by decide +kernel) rfl), ⟨by decide +kernel, by decide +kernel, by decide +kernel⟩, by decide +kernel⟩
theorem kX6_267 : Lk_ RX6 267 mX4_hasRange 2 := ⟨(tb_in 685 (by decide +kernel) rfl), (tb_in 8 (by decide +kernel) rfl), (tb_in 688 (by decide +kernel) rfl), ⟨by decide +kernel, by decide +kernel, by decide +kernel⟩, by decide +kernel⟩
theorem kL_153 : Lk_ "DrownedNamesLaw" 153 mX6_write 2 := ⟨(tb_in 690 (by decide +kernel) rfl), (tb_in 1 (by decide +kernel) rfl), (tb_in 693 (by decide +kernel) rfl), ⟨by decide +kernel, by decide +kernel, by decide +kernel⟩, by decide +kernel⟩
theorem kL_157 : Lk_ "DrownedNamesLaw" 157 mX6_count 1 := ⟨(tb_in 695 (by decide +kernel) rfl), (tb_in 1 (by decide +kernel) rfl), (tb_in 698 (by decide +kernel) rfl), ⟨by decide +kernel, by decide +kernel, by decide +kernel⟩, by decide +kernel⟩
theorem kL_161 : Lk_ "DrownedNamesLaw" 161 mX6_digest 0 := ⟨(tb_in 699 (by decide +kernel) rfl), (tb_in 1 (by decide +kernel) rfl), (tb_in 702 (by decide +kernel) rfl), ⟨by decide +kernel, by decide +kernel, by decide +kernel⟩, by decide +kernel⟩
theorem kX6_291 : Lk_ RX6 291 mX6_count 1 := ⟨(tb_in 705 (by decide +kernel) rfl), (tb_in 1 (by decide +kernel) rfl), (tb_in 698 (by decide +kernel) rfl), ⟨by decide +kernel, by decide +kernel, by decide +kernel⟩, by decide +kernel⟩
theorem kX6_294 : Lk_ RX6 294 mX6_fault 1 := ⟨(tb_in 706 (by decide +kernel) rfl), (tb_in 1 (by decide +kernel) rfl), (tb_in 418 (by decide +kernel) rfl), ⟨by decide +kernel, by decide +kernel, by decide +kernel⟩, by decide +kernel⟩
theorem kX6_297 : Lk_ RX6 297 mX6_withShip 2 := ⟨(tb_in 707 (by decide +kernel) rfl), (tb_in 1 (by decide +kernel) rfl), (tb_in 710 (by decide +kernel) rfl), ⟨by decide +kernel, by decide +kernel, by decide +kernel⟩, by decide +kernel⟩
theorem kX6_322 : Lk_ RX6 322 mX6_ship 2 := ⟨(tb_in 711 (by decide +kernel) rfl), (tb_in 1 (by decide +kernel) rfl), (tb_in 423 (by decide +kernel) rfl), ⟨by decide +kernel, by decide +kernel, by decide +kernel⟩, by decide +kernel⟩
theorem kX6_325 : Lk_ RX6 325 mX6_unborne 1 := ⟨(tb_in 712 (by decide +kernel) rfl), (tb_in 1 (by decide +kernel) rfl), (tb_in 500 (by decide +kernel) rfl), ⟨by decide +kernel, by decide +kernel, by decide +kernel⟩, by decide +kernel⟩
theorem kX6_328 : Lk_ RX6 328 mX6_borne 2 := ⟨(tb_in 713 (by decide +kernel) rfl), (tb_in 1 (by decide +kernel) rfl), (tb_in 492 (by decide +kernel) rfl), ⟨by decide +kernel, by decide +kernel, by decide +kernel⟩, by decide +kernel⟩
theorem kX6_331 : Lk_ RX6 331 mX6_paid 2 := ⟨(tb_in 714 (by decide +kernel) rfl), (tb_in 1 (by decide +kernel) rfl), (tb_in 542 (by decide +kernel) rfl), ⟨by decide +kernel, by decide +kernel, by decide +kernel⟩, by decide +kernel⟩
theorem kX6_333 : Lk_ RX6 333 mX6_take 1 := ⟨(tb_in 715 (by decide +kernel) rfl), (tb_in 1 (by decide +kernel) rfl), (tb_in 558 (by decide +kernel) rfl), ⟨by decide +kernel, by decide +kernel, by decide +kernel⟩, by decide +kernel⟩
theorem kX6_301 : Lk_ RX6 301 mX6_withName 2 := ⟨(tb_in 716 (by decide +kernel) rfl), (tb_in 1 (by decide +kernel) rfl), (tb_in 719 (by decide +kernel) rfl), ⟨by decide +kernel, by decide +kernel, by decide +kernel⟩, by decide +kernel⟩
theorem kX6_336 : Lk_ RX6 336 mX6_name 2 := ⟨(tb_in 720 (by decide +kernel) rfl), (tb_in 1 (by decide +kernel) rfl), (tb_in 428 (by decide +kernel) rfl), ⟨by decide +kernel, by decide +kernel, by decide +kernel⟩, by decide +kernel⟩
theorem kX6_339 : Lk_ RX6 339 mX6_bearer 2 := ⟨(tb_in 721 (by decide +kernel) rfl), (tb_in 1 (by decide +kernel) rfl), (tb_in 484 (by decide +kernel) rfl), ⟨by decide +kernel, by decide +kernel, by decide +kernel⟩, by decide +kernel⟩
theorem kX6_341 : Lk_ RX6 341 mX6_left 2 := ⟨(tb_in 722 (by decide +kernel) rfl), (tb_in 1 (by decide +kernel) rfl), (tb_in 504 (by decide +kernel) rfl), ⟨by decide +kernel, by decide +kernel, by decide +kernel⟩, by decide +kernel⟩
theorem kX6_343 : Lk_ RX6 343 mX6_strike 2 := ⟨(tb_in 723 (by decide +kernel) rfl), (tb_in 1 (by decide +kernel) rfl), (tb_in 572 (by decide +kernel) rfl), ⟨by decide +kernel, by decide +kernel, by decide +kernel⟩, by decide +kernel⟩
theorem kX6_346 : Lk_ RX6 346 mX6_fair 2 := ⟨(tb_in 724 (by decide +kernel) rfl), (tb_in 1 (by decide +kernel) rfl), (tb_in 618 (by decide +kernel) rfl), ⟨by decide +kernel, by decide +kernel, by decide +kernel⟩, by decide +kernel⟩
theorem kX6_350 : Lk_ RX6 350 mX6_storm 3 := ⟨(tb_in 725 (by decide +kernel) rfl), (tb_in 1 (by decide +kernel) rfl), (tb_in 626 (by decide +kernel) rfl), ⟨by decide +kernel, by decide +kernel, by decide +kernel⟩, by decide +kernel⟩
theorem kX6_353 : Lk_ RX6 353 mX6_years 4 := ⟨(tb_in 726 (by decide +kernel) rfl), (tb_in 1 (by decide +kernel) rfl), (tb_in 638 (by decide +kernel) rfl), ⟨by decide +kernel, by decide +kernel, by decide +kernel⟩, by decide +kernel⟩
theorem kX6_304 : Lk_ RX6 304 mX6_line 2 := ⟨(tb_in 727 (by decide +kernel) rfl), (tb_in 1 (by decide +kernel) rfl), (tb_in 437 (by decide +kernel) rfl), ⟨by decide +kernel, by decide +kernel, by decide +kernel⟩, by decide +kernel⟩
theorem kX6_307 : Lk_ RX6 307 mX6_withYear 2 := ⟨(tb_in 728 (by decide +kernel) rfl), (tb_in 1 (by decide +kernel) rfl), (tb_in 731 (by decide +kernel) rfl), ⟨by decide +kernel, by decide +kernel, by decide +kernel⟩, by decide +kernel⟩
theorem kX6_357 : Lk_ RX6 357 mX6_behind 2 := ⟨(tb_in 732 (by decide +kernel) rfl), (tb_in 1 (by decide +kernel) rfl), (tb_in 538 (by decide +kernel) rfl), ⟨by decide +kernel, by decide +kernel, by decide +kernel⟩, by decide +kernel⟩
theorem kX6_310 : Lk_ RX6 310 mX6_first 1 := ⟨(tb_in 733 (by decide +kernel) rfl), (tb_in 1 (by decide +kernel) rfl), (tb_in 546 (by decide +kernel) rfl), ⟨by decide +kernel, by decide +kernel, by decide +kernel⟩, by decide +kernel⟩
theorem kX6_313 : Lk_ RX6 313 mX6_safe 0 := ⟨(tb_in 734 (by decide +kernel) rfl), (tb_in 1 (by decide +kernel) rfl), (tb_in 550 (by decide +kernel) rfl), ⟨by decide +kernel, by decide +kernel, by decide +kernel⟩, by decide +kernel⟩
theorem kX6_316 : Lk_ RX6 316 mX6_sound 1 := ⟨(tb_in 735 (by decide +kernel) rfl), (tb_in 1 (by decide +kernel) rfl), (tb_in 589 (by decide +kernel) rfl), ⟨by decide +kernel, by decide +kernel, by decide +kernel⟩, by decide +kernel⟩
theorem kX6_319 : Lk_ RX6 319 mX6_press 0 := ⟨(tb_in 736 (by decide +kernel) rfl), (tb_in 1 (by decide +kernel) rfl), (tb_in 602 (by decide +kernel) rfl), ⟨by decide +kernel, by decide +kernel, by decide +kernel⟩, by decide +kernel⟩
theorem kL_135 : Lk_ "DrownedNamesLaw" 135 mX7_sheet 3 := ⟨(tb_in 822 (by decide +kernel) rfl), (tb_in 9 (by decide +kernel) rfl), (tb_in 825 (by decide +kernel) rfl), ⟨by decide +kernel, by decide +kernel, by decide +kernel⟩, by decide +kernel⟩
theorem kX7_70 : Lk_ RX7 70 mX7_isSheet 1 := ⟨(tb_in 826 (by decide +kernel) rfl), (tb_in 9 (by decide +kernel) rfl), (tb_in 828 (by decide +kernel) rfl), ⟨by decide +kernel, by decide +kernel, by decide +kernel⟩, by decide +kernel⟩
theorem kX7_61 : Lk_ RX7 61 mX7_in 3 := ⟨(tb_in 830 (by decide +kernel) rfl), (tb_in 9 (by decide +kernel) rfl), (tb_in 832 (by decide +kernel) rfl), ⟨by decide +kernel, by decide +kernel, by decide +kernel⟩, by decide +kernel⟩
theorem kX7_76 : Lk_ RX7 76 mX7_finds 1 := ⟨(tb_in 834 (by decide +kernel) rfl), (tb_in 9 (by decide +kernel) rfl), (tb_in 837 (by decide +kernel) rfl), ⟨by decide +kernel, by decide +kernel, by decide +kernel⟩, by decide +kernel⟩
theorem kL_139 : Lk_ "DrownedNamesLaw" 139 mX7_lose 1 := ⟨(tb_in 838 (by decide +kernel) rfl), (tb_in 9 (by decide +kernel) rfl), (tb_in 841 (by decide +kernel) rfl), ⟨by decide +kernel, by decide +kernel, by decide +kernel⟩, by decide +kernel⟩
theorem kL_143 : Lk_ "DrownedNamesLaw" 143 mX7_lay 4 := ⟨(tb_in 842 (by decide +kernel) rfl), (tb_in 9 (by decide +kernel) rfl), (tb_in 845 (by decide +kernel) rfl), ⟨by decide +kernel, by decide +kernel, by decide +kernel⟩, by decide +kernel⟩
theorem kX7_80 : Lk_ RX7 80 mX7_lacks 3 := ⟨(tb_in 846 (by decide +kernel) rfl), (tb_in 9 (by decide +kernel) rfl), (tb_in 849 (by decide +kernel) rfl), ⟨by decide +kernel, by decide +kernel, by decide +kernel⟩, by decide +kernel⟩
theorem kX7_84 : Lk_ RX7 84 mX7_cut 2 := ⟨(tb_in 850 (by decide +kernel) rfl), (tb_in 9 (by decide +kernel) rfl), (tb_in 852 (by decide +kernel) rfl), ⟨by decide +kernel, by decide +kernel, by decide +kernel⟩, by decide +kernel⟩
theorem kL_147 : Lk_ "DrownedNamesLaw" 147 mX7_get 3 := ⟨(tb_in 853 (by decide +kernel) rfl), (tb_in 9 (by decide +kernel) rfl), (tb_in 856 (by decide +kernel) rfl), ⟨by decide +kernel, by decide +kernel, by decide +kernel⟩, by decide +kernel⟩
theorem kL_152 : Lk_ "DrownedNamesLaw" 152 mX7_copy 5 := ⟨(tb_in 858 (by decide +kernel) rfl), (tb_in 9 (by decide +kernel) rfl), (tb_in 861 (by decide +kernel) rfl), ⟨by decide +kernel, by decide +kernel, by decide +kernel⟩, by decide +kernel⟩
theorem kL_17 : Lk_ "DrownedNamesLaw" 17 mX7_type 2 := ⟨(tb_in 862 (by decide +kernel) rfl), (tb_in 9 (by decide +kernel) rfl), (tb_in 865 (by decide +kernel) rfl), ⟨by decide +kernel, by decide +kernel, by decide +kernel⟩, by decide +kernel⟩
theorem kX7_89 : Lk_ RX7 89 mX7_isText 1 := ⟨(tb_in 866 (by decide +kernel) rfl), (tb_in 9 (by decide +kernel) rfl), (tb_in 868 (by decide +kernel) rfl), ⟨by decide +kernel, by decide +kernel, by decide +kernel⟩, by decide +kernel⟩
theorem kL_22 : Lk_ "DrownedNamesLaw" 22 mX7_wipe 1 := ⟨(tb_in 870 (by decide +kernel) rfl), (tb_in 9 (by decide +kernel) rfl), (tb_in 873 (by decide +kernel) rfl), ⟨by decide +kernel, by decide +kernel, by decide +kernel⟩, by decide +kernel⟩
theorem kL_26 : Lk_ "DrownedNamesLaw" 26 mX7_undo 1 := ⟨(tb_in 874 (by decide +kernel) rfl), (tb_in 9 (by decide +kernel) rfl), (tb_in 877 (by decide +kernel) rfl), ⟨by decide +kernel, by decide +kernel, by decide +kernel⟩, by decide +kernel⟩
theorem kL_30 : Lk_ "DrownedNamesLaw" 30 mX7_fault 1 := ⟨(tb_in 878 (by decide +kernel) rfl), (tb_in 9 (by decide +kernel) rfl), (tb_in 881 (by decide +kernel) rfl), ⟨by decide +kernel, by decide +kernel, by decide +kernel⟩, by decide +kernel⟩
theorem kX7_119 : Lk_ RX7 119 mX7_readsText 1 := ⟨(tb_in 882 (by decide +kernel) rfl), (tb_in 9 (by decide +kernel) rfl), (tb_in 885 (by decide +kernel) rfl), ⟨by decide +kernel, by decide +kernel, by decide +kernel⟩, by decide +kernel⟩
theorem kX7_116 : Lk_ RX7 116 mX7_readsThing 1 := ⟨(tb_in 886 (by decide +kernel) rfl), (tb_in 9 (by decide +kernel) rfl), (tb_in 889 (by decide +kernel) rfl), ⟨by decide +kernel, by decide +kernel, by decide +kernel⟩, by decide +kernel⟩
theorem kX7_106 : Lk_ RX7 106 mX7_readsShip 0 := ⟨(tb_in 890 (by decide +kernel) rfl), (tb_in 9 (by decide +kernel) rfl), (tb_in 893 (by decide +kernel) rfl), ⟨by decide +kernel, by decide +kernel, by decide +kernel⟩, by decide +kernel⟩
theorem kX7_103 : Lk_ RX7 103 mX7_twoFigures 2 := ⟨(tb_in 894 (by decide +kernel) rfl), (tb_in 9 (by decide +kernel) rfl), (tb_in 897 (by decide +kernel) rfl), ⟨by decide +kernel, by decide +kernel, by decide +kernel⟩, by decide +kernel⟩
theorem kX7_97 : Lk_ RX7 97 mX7_passes 3 := ⟨(tb_in 898 (by decide +kernel) rfl), (tb_in 9 (by decide +kernel) rfl), (tb_in 901 (by decide +kernel) rfl), ⟨by decide +kernel, by decide +kernel, by decide +kernel⟩, by decide +kernel⟩
theorem kX7_100 : Lk_ RX7 100 mX7_units 2 := ⟨(tb_in 902 (by decide +kernel) rfl), (tb_in 9 (by decide +kernel) rfl), (tb_in 905 (by decide +kernel) rfl), ⟨by decide +kernel, by decide +kernel, by decide +kernel⟩, by decide +kernel⟩
theorem kX7_110 : Lk_ RX7 110 mX7_readsName 0 := ⟨(tb_in 906 (by decide +kernel) rfl), (tb_in 9 (by decide +kernel) rfl), (tb_in 909 (by decide +kernel) rfl), ⟨by decide +kernel, by decide +kernel, by decide +kernel⟩, by decide +kernel⟩
theorem kX7_113 : Lk_ RX7 113 mX7_readsLine 0 := ⟨(tb_in 910 (by decide +kernel) rfl), (tb_in 9 (by decide +kernel) rfl), (tb_in 913 (by decide +kernel) rfl), ⟨by decide +kernel, by decide +kernel, by decide +kernel⟩, by decide +kernel⟩
theorem kL_34 : Lk_ "DrownedNamesLaw" 34 mX7_ship 2 := ⟨(tb_in 914 (by decide +kernel) rfl), (tb_in 9 (by decide +kernel) rfl), (tb_in 917 (by decide +kernel) rfl), ⟨by decide +kernel, by decide +kernel, by decide +kernel⟩, by decide +kernel⟩
theorem kX7_124 : Lk_ RX7 124 mX7_reads 0 := ⟨(tb_in 918 (by decide +kernel) rfl), (tb_in 9 (by decide +kernel) rfl), (tb_in 921 (by decide +kernel) rfl), ⟨by decide +kernel, by decide +kernel, by decide +kernel⟩, by decide +kernel⟩
theorem kX7_127 : Lk_ RX7 127 mX7_isShip 1 := ⟨(tb_in 922 (by decide +kernel) rfl), (tb_in 9 (by decide +kernel) rfl), (tb_in 925 (by decide +kernel) rfl), ⟨by decide +kernel, by decide +kernel, by decide +kernel⟩, by decide +kernel⟩
theorem kX7_130 : Lk_ RX7 130 mX7_isTwo 1 := ⟨(tb_in 926 (by decide +kernel) rfl), (tb_in 9 (by decide +kernel) rfl), (tb_in 928 (by decide +kernel) rfl), ⟨by decide +kernel, by decide +kernel, by decide +kernel⟩, by decide +kernel⟩
theorem kL_38 : Lk_ "DrownedNamesLaw" 38 mX7_name 2 := ⟨(tb_in 929 (by decide +kernel) rfl), (tb_in 9 (by decide +kernel) rfl), (tb_in 932 (by decide +kernel) rfl), ⟨by decide +kernel, by decide +kernel, by decide +kernel⟩, by decide +kernel⟩
theorem kX7_133 : Lk_ RX7 133 mX7_isName 1 := ⟨(tb_in 933 (by decide +kernel) rfl), (tb_in 9 (by decide +kernel) rfl), (tb_in 936 (by decide +kernel) rfl), ⟨by decide +kernel, by decide +kernel, by decide +kernel⟩, by decide +kernel⟩
theorem kL_46 : Lk_ "DrownedNamesLaw" 46 mX7_struck 1 := ⟨(tb_in 937 (by decide +kernel) rfl), (tb_in 9 (by decide +kernel) rfl), (tb_in 940 (by decide +kernel) rfl), ⟨by decide +kernel, by decide +kernel, by decide +kernel⟩, by decide +kernel⟩
theorem kL_42 : Lk_ "DrownedNamesLaw" 42 mX7_line 2 := ⟨(tb_in 941 (by decide +kernel) rfl), (tb_in 9 (by decide +kernel) rfl), (tb_in 944 (by decide +kernel) rfl), ⟨by decide +kernel, by decide +kernel, by decide +kernel⟩, by decide +kernel⟩
theorem kX7_149 : Lk_ RX7 149 mX7_lineOf 2 := ⟨(tb_in 945 (by decide +kernel) rfl), (tb_in 9 (by decide +kernel) rfl), (tb_in 948 (by decide +kernel) rfl), ⟨by decide +kernel, by decide +kernel, by decide +kernel⟩, by decide +kernel⟩
theorem kX7_146 : Lk_ RX7 146 mX7_dueOf 1 := ⟨(tb_in 949 (by decide +kernel) rfl), (tb_in 9 (by decide +kernel) rfl), (tb_in 952 (by decide +kernel) rfl), ⟨by decide +kernel, by decide +kernel, by decide +kernel⟩, by decide +kernel⟩
theorem kX7_143 : Lk_ RX7 143 mX7_stands 1 := ⟨(tb_in 953 (by decide +kernel) rfl), (tb_in 9 (by decide +kernel) rfl), (tb_in 956 (by decide +kernel) rfl), ⟨by decide +kernel, by decide +kernel, by decide +kernel⟩, by decide +kernel⟩
theorem kX7_139 : Lk_ RX7 139 mX7_isIn 2 := ⟨(tb_in 957 (by decide +kernel) rfl), (tb_in 9 (by decide +kernel) rfl), (tb_in 959 (by decide +kernel) rfl), ⟨by decide +kernel, by decide +kernel, by decide +kernel⟩, by decide +kernel⟩
theorem kL_63 : Lk_ "DrownedNamesLaw" 63 mX7_bearer 2 := ⟨(tb_in 960 (by decide +kernel) rfl), (tb_in 9 (by decide +kernel) rfl), (tb_in 963 (by decide +kernel) rfl), ⟨by decide +kernel, by decide +kernel, by decide +kernel⟩, by decide +kernel⟩
theorem kX7_158 : Lk_ RX7 158 mX7_bearerBy 2 := ⟨(tb_in 964 (by decide +kernel) rfl), (tb_in 9 (by decide +kernel) rfl), (tb_in 967 (by decide +kernel) rfl), ⟨by decide +kernel, by decide +kernel, by decide +kernel⟩, by decide +kernel⟩
theorem kX7_152 : Lk_ RX7 152 mX7_bearerOf 1 := ⟨(tb_in 968 (by decide +kernel) rfl), (tb_in 9 (by decide +kernel) rfl), (tb_in 971 (by decide +kernel) rfl), ⟨by decide +kernel, by decide +kernel, by decide +kernel⟩, by decide +kernel⟩
theorem kX7_155 : Lk_ RX7 155 mX7_bearersOf 1 := ⟨(tb_in 972 (by decide +kernel) rfl), (tb_in 9 (by decide +kernel) rfl), (tb_in 975 (by decide +kernel) rfl), ⟨by decide +kernel, by decide +kernel, by decide +kernel⟩, by decide +kernel⟩
theorem kL_67 : Lk_ "DrownedNamesLaw" 67 mX7_borne 2 := ⟨(tb_in 976 (by decide +kernel) rfl), (tb_in 9 (by decide +kernel) rfl), (tb_in 979 (by decide +kernel) rfl), ⟨by decide +kernel, by decide +kernel, by decide +kernel⟩, by decide +kernel⟩
theorem kX7_161 : Lk_ RX7 161 mX7_borneOf 2 := ⟨(tb_in 980 (by decide +kernel) rfl), (tb_in 9 (by decide +kernel) rfl), (tb_in 983 (by decide +kernel) rfl), ⟨by decide +kernel, by decide +kernel, by decide +kernel⟩, by decide +kernel⟩
theorem kL_71 : Lk_ "DrownedNamesLaw" 71 mX7_unborne 1 := ⟨(tb_in 984 (by decide +kernel) rfl), (tb_in 9 (by decide +kernel) rfl), (tb_in 987 (by decide +kernel) rfl), ⟨by decide +kernel, by decide +kernel, by decide +kernel⟩, by decide +kernel⟩
theorem kL_50 : Lk_ "DrownedNamesLaw" 50 mX7_loss 2 := ⟨(tb_in 988 (by decide +kernel) rfl), (tb_in 9 (by decide +kernel) rfl), (tb_in 991 (by decide +kernel) rfl), ⟨by decide +kernel, by decide +kernel, by decide +kernel⟩, by decide +kernel⟩
theorem kX7_164 : Lk_ RX7 164 mX7_isYear 1 := ⟨(tb_in 992 (by decide +kernel) rfl), (tb_in 9 (by decide +kernel) rfl), (tb_in 994 (by decide +kernel) rfl), ⟨by decide +kernel, by decide +kernel, by decide +kernel⟩, by decide +kernel⟩
theorem kL_55 : Lk_ "DrownedNamesLaw" 55 mX7_back 0 := ⟨(tb_in 997 (by decide +kernel) rfl), (tb_in 9 (by decide +kernel) rfl), (tb_in 1000 (by decide +kernel) rfl), ⟨by decide +kernel, by decide +kernel, by decide +kernel⟩, by decide +kernel⟩
theorem kL_59 : Lk_ "DrownedNamesLaw" 59 mX7_read 1 := ⟨(tb_in 1001 (by decide +kernel) rfl), (tb_in 9 (by decide +kernel) rfl), (tb_in 1004 (by decide +kernel) rfl), ⟨by decide +kernel, by decide +kernel, by decide +kernel⟩, by decide +kernel⟩
theorem kX7_172 : Lk_ RX7 172 mX7_loss 2 := ⟨(tb_in 1005 (by decide +kernel) rfl), (tb_in 9 (by decide +kernel) rfl), (tb_in 991 (by decide +kernel) rfl), ⟨by decide +kernel, by decide +kernel, by decide +kernel⟩, by decide +kernel⟩
theorem kL_75 : Lk_ "DrownedNamesLaw" 75 mX7_left 2 := ⟨(tb_in 1006 (by decide +kernel) rfl), (tb_in 9 (by decide +kernel) rfl), (tb_in 1009 (by decide +kernel) rfl), ⟨by decide +kernel, by decide +kernel, by decide +kernel⟩, by decide +kernel⟩
theorem kX7_200 : Lk_ RX7 200 mX7_leftOf 2 := ⟨(tb_in 1010 (by decide +kernel) rfl), (tb_in 9 (by decide +kernel) rfl), (tb_in 1013 (by decide +kernel) rfl), ⟨by decide +kernel, by decide +kernel, by decide +kernel⟩, by decide +kernel⟩
theorem kX7_196 : Lk_ RX7 196 mX7_lives 1 := ⟨(tb_in 1014 (by decide +kernel) rfl), (tb_in 9 (by decide +kernel) rfl), (tb_in 1017 (by decide +kernel) rfl), ⟨by decide +kernel, by decide +kernel, by decide +kernel⟩, by decide +kernel⟩
theorem kX7_189 : Lk_ RX7 189 mX7_begins 0 := ⟨(tb_in 1018 (by decide +kernel) rfl), (tb_in 9 (by decide +kernel) rfl), (tb_in 1021 (by decide +kernel) rfl), ⟨by decide +kernel, by decide +kernel, by decide +kernel⟩, by decide +kernel⟩
theorem kX7_192 : Lk_ RX7 192 mX7_goes 2 := ⟨(tb_in 1022 (by decide +kernel) rfl), (tb_in 9 (by decide +kernel) rfl), (tb_in 1025 (by decide +kernel) rfl), ⟨by decide +kernel, by decide +kernel, by decide +kernel⟩, by decide +kernel⟩
theorem kX7_186 : Lk_ RX7 186 mX7_lesser 2 := ⟨(tb_in 1026 (by decide +kernel) rfl), (tb_in 9 (by decide +kernel) rfl), (tb_in 1028 (by decide +kernel) rfl), ⟨by decide +kernel, by decide +kernel, by decide +kernel⟩, by decide +kernel⟩
theorem kL_79 : Lk_ "DrownedNamesLaw" 79 mX7_behind 2 := ⟨(tb_in 1029 (by decide +kernel) rfl), (tb_in 9 (by decide +kernel) rfl), (tb_in 1032 (by decide +kernel) rfl), ⟨by decide +kernel, by decide +kernel, by decide +kernel⟩, by decide +kernel⟩
theorem kX7_203 : Lk_ RX7 203 mX7_behindOf 2 := ⟨(tb_in 1033 (by decide +kernel) rfl), (tb_in 9 (by decide +kernel) rfl), (tb_in 1036 (by decide +kernel) rfl), ⟨by decide +kernel, by decide +kernel, by decide +kernel⟩, by decide +kernel⟩
theorem kL_83 : Lk_ "DrownedNamesLaw" 83 mX7_paid 2 := ⟨(tb_in 1037 (by decide +kernel) rfl), (tb_in 9 (by decide +kernel) rfl), (tb_in 1040 (by decide +kernel) rfl), ⟨by decide +kernel, by decide +kernel, by decide +kernel⟩, by decide +kernel⟩
theorem kX7_206 : Lk_ RX7 206 mX7_paidOf 2 := ⟨(tb_in 1041 (by decide +kernel) rfl), (tb_in 9 (by decide +kernel) rfl), (tb_in 1044 (by decide +kernel) rfl), ⟨by decide +kernel, by decide +kernel, by decide +kernel⟩, by decide +kernel⟩
theorem kL_87 : Lk_ "DrownedNamesLaw" 87 mX7_first 1 := ⟨(tb_in 1045 (by decide +kernel) rfl), (tb_in 9 (by decide +kernel) rfl), (tb_in 1048 (by decide +kernel) rfl), ⟨by decide +kernel, by decide +kernel, by decide +kernel⟩, by decide +kernel⟩
theorem kX7_209 : Lk_ RX7 209 mX7_firstOf 1 := ⟨(tb_in 1049 (by decide +kernel) rfl), (tb_in 9 (by decide +kernel) rfl), (tb_in 1052 (by decide +kernel) rfl), ⟨by decide +kernel, by decide +kernel, by decide +kernel⟩, by decide +kernel⟩
theorem kL_91 : Lk_ "DrownedNamesLaw" 91 mX7_safe 0 := ⟨(tb_in 1053 (by decide +kernel) rfl), (tb_in 9 (by decide +kernel) rfl), (tb_in 1056 (by decide +kernel) rfl), ⟨by decide +kernel, by decide +kernel, by decide +kernel⟩, by decide +kernel⟩
theorem kX7_215 : Lk_ RX7 215 mX7_safeNow 0 := ⟨(tb_in 1057 (by decide +kernel) rfl), (tb_in 9 (by decide +kernel) rfl), (tb_in 1060 (by decide +kernel) rfl), ⟨by decide +kernel, by decide +kernel, by decide +kernel⟩, by decide +kernel⟩
theorem kX7_212 : Lk_ RX7 212 mX7_alone 1 := ⟨(tb_in 1061 (by decide +kernel) rfl), (tb_in 9 (by decide +kernel) rfl), (tb_in 1064 (by decide +kernel) rfl), ⟨by decide +kernel, by decide +kernel, by decide +kernel⟩, by decide +kernel⟩
theorem kL_95 : Lk_ "DrownedNamesLaw" 95 mX7_take 1 := ⟨(tb_in 1065 (by decide +kernel) rfl), (tb_in 9 (by decide +kernel) rfl), (tb_in 1068 (by decide +kernel) rfl), ⟨by decide +kernel, by decide +kernel, by decide +kernel⟩, by decide +kernel⟩
theorem kX7_225 : Lk_ RX7 225 mX7_takeOf 1 := ⟨(tb_in 1069 (by decide +kernel) rfl), (tb_in 9 (by decide +kernel) rfl), (tb_in 1072 (by decide +kernel) rfl), ⟨by decide +kernel, by decide +kernel, by decide +kernel⟩, by decide +kernel⟩
theorem kX7_219 : Lk_ RX7 219 mX7_haveAll 1 := ⟨(tb_in 1073 (by decide +kernel) rfl), (tb_in 9 (by decide +kernel) rfl), (tb_in 1076 (by decide +kernel) rfl), ⟨by decide +kernel, by decide +kernel, by decide +kernel⟩, by decide +kernel⟩
theorem kX7_222 : Lk_ RX7 222 mX7_ones 1 := ⟨(tb_in 1077 (by decide +kernel) rfl), (tb_in 9 (by decide +kernel) rfl), (tb_in 1079 (by decide +kernel) rfl), ⟨by decide +kernel, by decide +kernel, by decide +kernel⟩, by decide +kernel⟩
theorem kL_99 : Lk_ "DrownedNamesLaw" 99 mX7_strike 2 := ⟨(tb_in 1080 (by decide +kernel) rfl), (tb_in 9 (by decide +kernel) rfl), (tb_in 1083 (by decide +kernel) rfl), ⟨by decide +kernel, by decide +kernel, by decide +kernel⟩, by decide +kernel⟩
theorem kX7_231 : Lk_ RX7 231 mX7_strikeOf 2 := ⟨(tb_in 1084 (by decide +kernel) rfl), (tb_in 9 (by decide +kernel) rfl), (tb_in 1087 (by decide +kernel) rfl), ⟨by decide +kernel, by decide +kernel, by decide +kernel⟩, by decide +kernel⟩
theorem kX7_228 : Lk_ RX7 228 mX7_borneAll 1 := ⟨(tb_in 1088 (by decide +kernel) rfl), (tb_in 9 (by decide +kernel) rfl), (tb_in 1091 (by decide +kernel) rfl), ⟨by decide +kernel, by decide +kernel, by decide +kernel⟩, by decide +kernel⟩
theorem kL_103 : Lk_ "DrownedNamesLaw" 103 mX7_seen 2 := ⟨(tb_in 1092 (by decide +kernel) rfl), (tb_in 9 (by decide +kernel) rfl), (tb_in 1095 (by decide +kernel) rfl), ⟨by decide +kernel, by decide +kernel, by decide +kernel⟩, by decide +kernel⟩
theorem kL_107 : Lk_ "DrownedNamesLaw" 107 mX7_forget 0 := ⟨(tb_in 1097 (by decide +kernel) rfl), (tb_in 9 (by decide +kernel) rfl), (tb_in 1100 (by decide +kernel) rfl), ⟨by decide +kernel, by decide +kernel, by decide +kernel⟩, by decide +kernel⟩
theorem kL_111 : Lk_ "DrownedNamesLaw" 111 mX7_sound 1 := ⟨(tb_in 1101 (by decide +kernel) rfl), (tb_in 9 (by decide +kernel) rfl), (tb_in 1104 (by decide +kernel) rfl), ⟨by decide +kernel, by decide +kernel, by decide +kernel⟩, by decide +kernel⟩
theorem kX7_242 : Lk_ RX7 242 mX7_soundOf 1 := ⟨(tb_in 1105 (by decide +kernel) rfl), (tb_in 9 (by decide +kernel) rfl), (tb_in 1108 (by decide +kernel) rfl), ⟨by decide +kernel, by decide +kernel, by decide +kernel⟩, by decide +kernel⟩
theorem kX7_239 : Lk_ RX7 239 mX7_isSeen 1 := ⟨(tb_in 1109 (by decide +kernel) rfl), (tb_in 9 (by decide +kernel) rfl), (tb_in 1112 (by decide +kernel) rfl), ⟨by decide +kernel, by decide +kernel, by decide +kernel⟩, by decide +kernel⟩
theorem kL_115 : Lk_ "DrownedNamesLaw" 115 mX7_press 0 := ⟨(tb_in 1113 (by decide +kernel) rfl), (tb_in 9 (by decide +kernel) rfl), (tb_in 1116 (by decide +kernel) rfl), ⟨by decide +kernel, by decide +kernel, by decide +kernel⟩, by decide +kernel⟩
theorem kX7_248 : Lk_ RX7 248 mX7_pressNow 0 := ⟨(tb_in 1117 (by decide +kernel) rfl), (tb_in 9 (by decide +kernel) rfl), (tb_in 1120 (by decide +kernel) rfl), ⟨by decide +kernel, by decide +kernel, by decide +kernel⟩, by decide +kernel⟩
theorem kX7_245 : Lk_ RX7 245 mX7_mostAlike 1 := ⟨(tb_in 1121 (by decide +kernel) rfl), (tb_in 9 (by decide +kernel) rfl), (tb_in 1124 (by decide +kernel) rfl), ⟨by decide +kernel, by decide +kernel, by decide +kernel⟩, by decide +kernel⟩
theorem kL_120 : Lk_ "DrownedNamesLaw" 120 mX7_fair 2 := ⟨(tb_in 1125 (by decide +kernel) rfl), (tb_in 9 (by decide +kernel) rfl), (tb_in 1128 (by decide +kernel) rfl), ⟨by decide +kernel, by decide +kernel, by decide +kernel⟩, by decide +kernel⟩
theorem kX7_257 : Lk_ RX7 257 mX7_fairOf 2 := ⟨(tb_in 1129 (by decide +kernel) rfl), (tb_in 9 (by decide +kernel) rfl), (tb_in 1132 (by decide +kernel) rfl), ⟨by decide +kernel, by decide +kernel, by decide +kernel⟩, by decide +kernel⟩
theorem kX7_253 : Lk_ RX7 253 mX7_part 3 := ⟨(tb_in 1134 (by decide +kernel) rfl), (tb_in 9 (by decide +kernel) rfl), (tb_in 1136 (by decide +kernel) rfl), ⟨by decide +kernel, by decide +kernel, by decide +kernel⟩, by decide +kernel⟩
theorem kX7_261 : Lk_ RX7 261 mX7_no 1 := ⟨(tb_in 1137 (by decide +kernel) rfl), (tb_in 9 (by decide +kernel) rfl), (tb_in 1139 (by decide +kernel) rfl), ⟨by decide +kernel, by decide +kernel, by decide +kernel⟩, by decide +kernel⟩
theorem kL_125 : Lk_ "DrownedNamesLaw" 125 mX7_storm 3 := ⟨(tb_in 1141 (by decide +kernel) rfl), (tb_in 9 (by decide +kernel) rfl), (tb_in 1144 (by decide +kernel) rfl), ⟨by decide +kernel, by decide +kernel, by decide +kernel⟩, by decide +kernel⟩
theorem kX7_267 : Lk_ RX7 267 mX7_stormOf 3 := ⟨(tb_in 1146 (by decide +kernel) rfl), (tb_in 9 (by decide +kernel) rfl), (tb_in 1149 (by decide +kernel) rfl), ⟨by decide +kernel, by decide +kernel, by decide +kernel⟩, by decide +kernel⟩
theorem kL_130 : Lk_ "DrownedNamesLaw" 130 mX7_years 4 := ⟨(tb_in 1150 (by decide +kernel) rfl), (tb_in 9 (by decide +kernel) rfl), (tb_in 1153 (by decide +kernel) rfl), ⟨by decide +kernel, by decide +kernel, by decide +kernel⟩, by decide +kernel⟩
theorem kX7_280 : Lk_ RX7 280 mX7_yearsOf 4 := ⟨(tb_in 1155 (by decide +kernel) rfl), (tb_in 9 (by decide +kernel) rfl), (tb_in 1158 (by decide +kernel) rfl), ⟨by decide +kernel, by decide +kernel, by decide +kernel⟩, by decide +kernel⟩
theorem kX7_275 : Lk_ RX7 275 mX7_lot 1 := ⟨(tb_in 1159 (by decide +kernel) rfl), (tb_in 9 (by decide +kernel) rfl), (tb_in 1162 (by decide +kernel) rfl), ⟨by decide +kernel, by decide +kernel, by decide +kernel⟩, by decide +kernel⟩
theorem kL_156 : Lk_ "DrownedNamesLaw" 156 mX7_write 2 := ⟨(tb_in 1164 (by decide +kernel) rfl), (tb_in 9 (by decide +kernel) rfl), (tb_in 1167 (by decide +kernel) rfl), ⟨by decide +kernel, by decide +kernel, by decide +kernel⟩, by decide +kernel⟩
theorem kL_160 : Lk_ "DrownedNamesLaw" 160 mX7_count 1 := ⟨(tb_in 1168 (by decide +kernel) rfl), (tb_in 9 (by decide +kernel) rfl), (tb_in 1171 (by decide +kernel) rfl), ⟨by decide +kernel, by decide +kernel, by decide +kernel⟩, by decide +kernel⟩
theorem kL_165 : Lk_ "DrownedNamesLaw" 165 mX7_digest 0 := ⟨(tb_in 1172 (by decide +kernel) rfl), (tb_in 9 (by decide +kernel) rfl), (tb_in 1175 (by decide +kernel) rfl), ⟨by decide +kernel, by decide +kernel, by decide +kernel⟩, by decide +kernel⟩
theorem kX7_294 : Lk_ RX7 294 mX7_count 1 := ⟨(tb_in 1178 (by decide +kernel) rfl), (tb_in 9 (by decide +kernel) rfl), (tb_in 1171 (by decide +kernel) rfl), ⟨by decide +kernel, by decide +kernel, by decide +kernel⟩, by decide +kernel⟩
theorem kX7_297 : Lk_ RX7 297 mX7_tellsShip 2 := ⟨(tb_in 1179 (by decide +kernel) rfl), (tb_in 9 (by decide +kernel) rfl), (tb_in 1182 (by decide +kernel) rfl), ⟨by decide +kernel, by decide +kernel, by decide +kernel⟩, by decide +kernel⟩
theorem kX7_286 : Lk_ RX7 286 mX7_borne 2 := ⟨(tb_in 1183 (by decide +kernel) rfl), (tb_in 9 (by decide +kernel) rfl), (tb_in 979 (by decide +kernel) rfl), ⟨by decide +kernel, by decide +kernel, by decide +kernel⟩, by decide +kernel⟩
theorem kX7_301 : Lk_ RX7 301 mX7_tellsName 2 := ⟨(tb_in 1184 (by decide +kernel) rfl), (tb_in 9 (by decide +kernel) rfl), (tb_in 1187 (by decide +kernel) rfl), ⟨by decide +kernel, by decide +kernel, by decide +kernel⟩, by decide +kernel⟩
theorem kX7_289 : Lk_ RX7 289 mX7_strike 2 := ⟨(tb_in 1188 (by decide +kernel) rfl), (tb_in 9 (by decide +kernel) rfl), (tb_in 1083 (by decide +kernel) rfl), ⟨by decide +kernel, by decide +kernel, by decide +kernel⟩, by decide +kernel⟩
theorem iX0_weigh : Cond.instanceMethod mX0_weigh.1 ∈ gw_ ∧ Cond.selects mX0_weigh.1.cls mX0_weigh.1 mX0_weigh.1 ∈ gw_ := ⟨(tb_in 591 (by decide +kernel) rfl), (tb_in 592 (by decide +kernel) rfl)⟩
theorem iX0_shipToPress : Cond.instanceMethod mX0_shipToPress.1 ∈ gw_ ∧ Cond.selects mX0_shipToPress.1.cls mX0_shipToPress.1 mX0_shipToPress.1 ∈ gw_ := ⟨(tb_in 604 (by decide +kernel) rfl), (tb_in 605 (by decide +kernel) rfl)⟩
theorem iX0_fitsAllSeen : Cond.instanceMethod mX0_fitsAllSeen.1 ∈ gw_ ∧ Cond.selects mX0_fitsAllSeen.1.cls mX0_fitsAllSeen.1 mX0_fitsAllSeen.1 ∈ gw_ := ⟨(tb_in 596 (by decide +kernel) rfl), (sl_in 12 (by decide +kernel) rfl)⟩
theorem iX0_greatestGroup : Cond.instanceMethod mX0_greatestGroup.1 ∈ gw_ ∧ Cond.selects mX0_greatestGroup.1.cls mX0_greatestGroup.1 mX0_greatestGroup.1 ∈ gw_ := ⟨(tb_in 609 (by decide +kernel) rfl), (sl_in 13 (by decide +kernel) rfl)⟩
theorem iX1_hasShip : Cond.instanceMethod mX1_hasShip.1 ∈ gw_ ∧ Cond.selects mX1_hasShip.1.cls mX1_hasShip.1 mX1_hasShip.1 ∈ gw_ := ⟨(tb_in 400 (by decide +kernel) rfl), (tb_in 401 (by decide +kernel) rfl)⟩
theorem iX1_hasName : Cond.instanceMethod mX1_hasName.1 ∈ gw_ ∧ Cond.selects mX1_hasName.1.cls mX1_hasName.1 mX1_hasName.1 ∈ gw_ := ⟨(tb_in 392 (by decide +kernel) rfl), (tb_in 393 (by decide +kernel) rfl)⟩
theorem iX1_hasLine : Cond.instanceMethod mX1_hasLine.1 ∈ gw_ ∧ Cond.selects mX1_hasLine.1.cls mX1_hasLine.1 mX1_hasLine.1 ∈ gw_ := ⟨(tb_in 439 (by decide +kernel) rfl), (tb_in 440 (by decide +kernel) rfl)⟩
theorem iX1_isDrowned : Cond.instanceMethod mX1_isDrowned.1 ∈ gw_ ∧ Cond.selects mX1_isDrowned.1.cls mX1_isDrowned.1 mX1_isDrowned.1 ∈ gw_ := ⟨(tb_in 431 (by decide +kernel) rfl), (tb_in 432 (by decide +kernel) rfl)⟩
theorem iX1_settleShips : Cond.instanceMethod mX1_settleShips.1 ∈ gw_ ∧ Cond.selects mX1_settleShips.1.cls mX1_settleShips.1 mX1_settleShips.1 ∈ gw_ := ⟨(tb_in 302 (by decide +kernel) rfl), (tb_in 303 (by decide +kernel) rfl)⟩
theorem iX1_settleNames : Cond.instanceMethod mX1_settleNames.1 ∈ gw_ ∧ Cond.selects mX1_settleNames.1.cls mX1_settleNames.1 mX1_settleNames.1 ∈ gw_ := ⟨(tb_in 375 (by decide +kernel) rfl), (tb_in 376 (by decide +kernel) rfl)⟩
theorem iX1_settleLines : Cond.instanceMethod mX1_settleLines.1 ∈ gw_ ∧ Cond.selects mX1_settleLines.1.cls mX1_settleLines.1 mX1_settleLines.1 ∈ gw_ := ⟨(tb_in 380 (by decide +kernel) rfl), (tb_in 381 (by decide +kernel) rfl)⟩
theorem iX1_strikeOut : Cond.instanceMethod mX1_strikeOut.1 ∈ gw_ ∧ Cond.selects mX1_strikeOut.1.cls mX1_strikeOut.1 mX1_strikeOut.1 ∈ gw_ := ⟨(tb_in 384 (by decide +kernel) rfl), (tb_in 385 (by decide +kernel) rfl)⟩
theorem iX1_bearerOf : Cond.instanceMethod mX1_bearerOf.1 ∈ gw_ ∧ Cond.selects mX1_bearerOf.1.cls mX1_bearerOf.1 mX1_bearerOf.1 ∈ gw_ := ⟨(tb_in 389 (by decide +kernel) rfl), (sl_in 3 (by decide +kernel) rfl)⟩
theorem iX1_isVoid : Cond.instanceMethod mX1_isVoid.1 ∈ gw_ ∧ Cond.selects mX1_isVoid.1.cls mX1_isVoid.1 mX1_isVoid.1 ∈ gw_ := ⟨(tb_in 397 (by decide +kernel) rfl), (sl_in 4 (by decide +kernel) rfl)⟩
theorem iX1_dueOfLine : Cond.instanceMethod mX1_dueOfLine.1 ∈ gw_ ∧ Cond.selects mX1_dueOfLine.1.cls mX1_dueOfLine.1 mX1_dueOfLine.1 ∈ gw_ := ⟨(tb_in 405 (by decide +kernel) rfl), (sl_in 5 (by decide +kernel) rfl)⟩
theorem iX1_namesBorneBy : Cond.instanceMethod mX1_namesBorneBy.1 ∈ gw_ ∧ Cond.selects mX1_namesBorneBy.1.cls mX1_namesBorneBy.1 mX1_namesBorneBy.1 ∈ gw_ := ⟨(tb_in 486 (by decide +kernel) rfl), (tb_in 487 (by decide +kernel) rfl)⟩
theorem iX1_dueOf : Cond.instanceMethod mX1_dueOf.1 ∈ gw_ ∧ Cond.selects mX1_dueOf.1.cls mX1_dueOf.1 mX1_dueOf.1 ∈ gw_ := ⟨(tb_in 494 (by decide +kernel) rfl), (tb_in 495 (by decide +kernel) rfl)⟩
theorem iX1_dueOfAllShips : Cond.instanceMethod mX1_dueOfAllShips.1 ∈ gw_ ∧ Cond.selects mX1_dueOfAllShips.1.cls mX1_dueOfAllShips.1 mX1_dueOfAllShips.1 ∈ gw_ := ⟨(tb_in 574 (by decide +kernel) rfl), (tb_in 575 (by decide +kernel) rfl)⟩
theorem iX1_hasTogether : Cond.instanceMethod mX1_hasTogether.1 ∈ gw_ ∧ Cond.selects mX1_hasTogether.1.cls mX1_hasTogether.1 mX1_hasTogether.1 ∈ gw_ := ⟨(tb_in 560 (by decide +kernel) rfl), (tb_in 561 (by decide +kernel) rfl)⟩
theorem iX1_chancesOf : Cond.instanceMethod mX1_chancesOf.1 ∈ gw_ ∧ Cond.selects mX1_chancesOf.1.cls mX1_chancesOf.1 mX1_chancesOf.1 ∈ gw_ := ⟨(tb_in 628 (by decide +kernel) rfl), (tb_in 629 (by decide +kernel) rfl)⟩
theorem iX2_isFull : Cond.instanceMethod mX2_isFull.1 ∈ gw_ ∧ Cond.selects mX2_isFull.1.cls mX2_isFull.1 mX2_isFull.1 ∈ gw_ := ⟨(tb_in 457 (by decide +kernel) rfl), (tb_in 458 (by decide +kernel) rfl)⟩
theorem iX2_append : Cond.instanceMethod mX2_append.1 ∈ gw_ ∧ Cond.selects mX2_append.1.cls mX2_append.1 mX2_append.1 ∈ gw_ := ⟨(tb_in 461 (by decide +kernel) rfl), (tb_in 462 (by decide +kernel) rfl)⟩
theorem iX3_followTold : Cond.instanceMethod mX3_followTold.1 ∈ gw_ ∧ Cond.selects mX3_followTold.1.cls mX3_followTold.1 mX3_followTold.1 ∈ gw_ := ⟨(tb_in 506 (by decide +kernel) rfl), (tb_in 507 (by decide +kernel) rfl)⟩
theorem iX3_followLots : Cond.instanceMethod mX3_followLots.1 ∈ gw_ ∧ Cond.selects mX3_followLots.1.cls mX3_followLots.1 mX3_followLots.1 ∈ gw_ := ⟨(tb_in 640 (by decide +kernel) rfl), (tb_in 641 (by decide +kernel) rfl)⟩
theorem iX3_loseTogether : Cond.instanceMethod mX3_loseTogether.1 ∈ gw_ ∧ Cond.selects mX3_loseTogether.1.cls mX3_loseTogether.1 mX3_loseTogether.1 ∈ gw_ := ⟨(tb_in 632 (by decide +kernel) rfl), (tb_in 633 (by decide +kernel) rfl)⟩
theorem iX3_loseAlone : Cond.instanceMethod mX3_loseAlone.1 ∈ gw_ ∧ Cond.selects mX3_loseAlone.1.cls mX3_loseAlone.1 mX3_loseAlone.1 ∈ gw_ := ⟨(tb_in 552 (by decide +kernel) rfl), (tb_in 553 (by decide +kernel) rfl)⟩
theorem iX3_begin : Cond.instanceMethod mX3_begin.1 ∈ gw_ ∧ Cond.selects mX3_begin.1.cls mX3_begin.1 mX3_begin.1 ∈ gw_ := ⟨(tb_in 511 (by decide +kernel) rfl), (sl_in 8 (by decide +kernel) rfl)⟩
theorem iX3_isLost : Cond.instanceMethod mX3_isLost.1 ∈ gw_ ∧ Cond.selects mX3_isLost.1.cls mX3_isLost.1 mX3_isLost.1 ∈ gw_ := ⟨(tb_in 526 (by decide +kernel) rfl), (sl_in 10 (by decide +kernel) rfl)⟩
theorem iX3_sink : Cond.instanceMethod mX3_sink.1 ∈ gw_ ∧ Cond.selects mX3_sink.1.cls mX3_sink.1 mX3_sink.1 ∈ gw_ := ⟨(tb_in 521 (by decide +kernel) rfl), (sl_in 9 (by decide +kernel) rfl)⟩
theorem iX3_breakName : Cond.instanceMethod mX3_breakName.1 ∈ gw_ ∧ Cond.selects mX3_breakName.1.cls mX3_breakName.1 mX3_breakName.1 ∈ gw_ := ⟨(tb_in 533 (by decide +kernel) rfl), (sl_in 11 (by decide +kernel) rfl)⟩
theorem iX4_renew : Cond.instanceMethod mX4_renew.1 ∈ gw_ ∧ Cond.selects mX4_renew.1.cls mX4_renew.1 mX4_renew.1 ∈ gw_ := ⟨(tb_in 652 (by decide +kernel) rfl), (tb_in 653 (by decide +kernel) rfl)⟩
theorem iX4_findingAt : Cond.instanceMethod mX4_findingAt.1 ∈ gw_ ∧ Cond.selects mX4_findingAt.1.cls mX4_findingAt.1 mX4_findingAt.1 ∈ gw_ := ⟨(tb_in 665 (by decide +kernel) rfl), (tb_in 666 (by decide +kernel) rfl)⟩
theorem iX4_hasRange : Cond.instanceMethod mX4_hasRange.1 ∈ gw_ ∧ Cond.selects mX4_hasRange.1.cls mX4_hasRange.1 mX4_hasRange.1 ∈ gw_ := ⟨(tb_in 686 (by decide +kernel) rfl), (tb_in 687 (by decide +kernel) rfl)⟩
theorem iX4_put : Cond.instanceMethod mX4_put.1 ∈ gw_ ∧ Cond.selects mX4_put.1.cls mX4_put.1 mX4_put.1 ∈ gw_ := ⟨(tb_in 669 (by decide +kernel) rfl), (tb_in 670 (by decide +kernel) rfl)⟩
theorem iX4_narrowed : Cond.instanceMethod mX4_narrowed.1 ∈ gw_ ∧ Cond.selects mX4_narrowed.1.cls mX4_narrowed.1 mX4_narrowed.1 ∈ gw_ := ⟨(tb_in 674 (by decide +kernel) rfl), (sl_in 14 (by decide +kernel) rfl)⟩
theorem iX5_isFull : Cond.instanceMethod mX5_isFull.1 ∈ gw_ ∧ Cond.selects mX5_isFull.1.cls mX5_isFull.1 mX5_isFull.1 ∈ gw_ := ⟨(tb_in 289 (by decide +kernel) rfl), (tb_in 290 (by decide +kernel) rfl)⟩
theorem iX5_append : Cond.instanceMethod mX5_append.1 ∈ gw_ ∧ Cond.selects mX5_append.1.cls mX5_append.1 mX5_append.1 ∈ gw_ := ⟨(tb_in 293 (by decide +kernel) rfl), (tb_in 294 (by decide +kernel) rfl)⟩
theorem iX5_byteAt : Cond.instanceMethod mX5_byteAt.1 ∈ gw_ ∧ Cond.selects mX5_byteAt.1.cls mX5_byteAt.1 mX5_byteAt.1 ∈ gw_ := ⟨(tb_in 318 (by decide +kernel) rfl), (tb_in 319 (by decide +kernel) rfl)⟩
theorem iX5_figureAt : Cond.instanceMethod mX5_figureAt.1 ∈ gw_ ∧ Cond.selects mX5_figureAt.1.cls mX5_figureAt.1 mX5_figureAt.1 ∈ gw_ := ⟨(tb_in 370 (by decide +kernel) rfl), (tb_in 371 (by decide +kernel) rfl)⟩
theorem iX5_figuresAt : Cond.instanceMethod mX5_figuresAt.1 ∈ gw_ ∧ Cond.selects mX5_figuresAt.1.cls mX5_figuresAt.1 mX5_figuresAt.1 ∈ gw_ := ⟨(tb_in 366 (by decide +kernel) rfl), (tb_in 367 (by decide +kernel) rfl)⟩
theorem iX5_faultPlace : Cond.instanceMethod mX5_faultPlace.1 ∈ gw_ ∧ Cond.selects mX5_faultPlace.1.cls mX5_faultPlace.1 mX5_faultPlace.1 ∈ gw_ := ⟨(tb_in 310 (by decide +kernel) rfl), (tb_in 311 (by decide +kernel) rfl)⟩
theorem iX5_items : Cond.instanceMethod mX5_items.1 ∈ gw_ ∧ Cond.selects mX5_items.1.cls mX5_items.1 mX5_items.1 ∈ gw_ := ⟨(tb_in 306 (by decide +kernel) rfl), (tb_in 307 (by decide +kernel) rfl)⟩
theorem iX5_goesOnAt : Cond.instanceMethod mX5_goesOnAt.1 ∈ gw_ ∧ Cond.selects mX5_goesOnAt.1.cls mX5_goesOnAt.1 mX5_goesOnAt.1 ∈ gw_ := ⟨(tb_in 315 (by decide +kernel) rfl), (sl_in 2 (by decide +kernel) rfl)⟩
theorem sX5_isBetween : Cond.static mX5_isBetween.1 ∈ gw_ := (tb_in 360 (by decide +kernel) rfl)
theorem iX6_type : Cond.instanceMethod mX6_type.1 ∈ gw_ ∧ Cond.selects mX6_type.1.cls mX6_type.1 mX6_type.1 ∈ gw_ := ⟨(tb_in 278 (by decide +kernel) rfl), (tb_in 279 (by decide +kernel) rfl)⟩
theorem iX6_wipe : Cond.instanceMethod mX6_wipe.1 ∈ gw_ ∧ Cond.selects mX6_wipe.1.cls mX6_wipe.1 mX6_wipe.1 ∈ gw_ := ⟨(tb_in 408 (by decide +kernel) rfl), (tb_in 409 (by decide +kernel) rfl)⟩
theorem iX6_undo : Cond.instanceMethod mX6_undo.1 ∈ gw_ ∧ Cond.selects mX6_undo.1.cls mX6_undo.1 mX6_undo.1 ∈ gw_ := ⟨(tb_in 412 (by decide +kernel) rfl), (tb_in 413 (by decide +kernel) rfl)⟩
theorem iX6_fault : Cond.instanceMethod mX6_fault.1 ∈ gw_ ∧ Cond.selects mX6_fault.1.cls mX6_fault.1 mX6_fault.1 ∈ gw_ := ⟨(tb_in 416 (by decide +kernel) rfl), (tb_in 417 (by decide +kernel) rfl)⟩
theorem iX6_ship : Cond.instanceMethod mX6_ship.1 ∈ gw_ ∧ Cond.selects mX6_ship.1.cls mX6_ship.1 mX6_ship.1 ∈ gw_ := ⟨(tb_in 421 (by decide +kernel) rfl), (tb_in 422 (by decide +kernel) rfl)⟩
theorem iX6_name : Cond.instanceMethod mX6_name.1 ∈ gw_ ∧ Cond.selects mX6_name.1.cls mX6_name.1 mX6_name.1 ∈ gw_ := ⟨(tb_in 426 (by decide +kernel) rfl), (tb_in 427 (by decide +kernel) rfl)⟩
theorem iX6_line : Cond.instanceMethod mX6_line.1 ∈ gw_ ∧ Cond.selects mX6_line.1.cls mX6_line.1 mX6_line.1 ∈ gw_ := ⟨(tb_in 435 (by decide +kernel) rfl), (tb_in 436 (by decide +kernel) rfl)⟩
theorem iX6_struck : Cond.instanceMethod mX6_struck.1 ∈ gw_ ∧ Cond.selects mX6_struck.1.cls mX6_struck.1 mX6_struck.1 ∈ gw_ := ⟨(tb_in 443 (by decide +kernel) rfl), (tb_in 444 (by decide +kernel) rfl)⟩
theorem iX6_loss : Cond.instanceMethod mX6_loss.1 ∈ gw_ ∧ Cond.selects mX6_loss.1.cls mX6_loss.1 mX6_loss.1 ∈ gw_ := ⟨(tb_in 447 (by decide +kernel) rfl), (tb_in 448 (by decide +kernel) rfl)⟩
theorem iX6_back : Cond.instanceMethod mX6_back.1 ∈ gw_ ∧ Cond.selects mX6_back.1.cls mX6_back.1 mX6_back.1 ∈ gw_ := ⟨(tb_in 466 (by decide +kernel) rfl), (tb_in 467 (by decide +kernel) rfl)⟩
theorem iX6_read : Cond.instanceMethod mX6_read.1 ∈ gw_ ∧ Cond.selects mX6_read.1.cls mX6_read.1 mX6_read.1 ∈ gw_ := ⟨(tb_in 470 (by decide +kernel) rfl), (tb_in 471 (by decide +kernel) rfl)⟩
theorem iX6_bearer : Cond.instanceMethod mX6_bearer.1 ∈ gw_ ∧ Cond.selects mX6_bearer.1.cls mX6_bearer.1 mX6_bearer.1 ∈ gw_ := ⟨(tb_in 482 (by decide +kernel) rfl), (tb_in 483 (by decide +kernel) rfl)⟩
theorem iX6_borne : Cond.instanceMethod mX6_borne.1 ∈ gw_ ∧ Cond.selects mX6_borne.1.cls mX6_borne.1 mX6_borne.1 ∈ gw_ := ⟨(tb_in 490 (by decide +kernel) rfl), (tb_in 491 (by decide +kernel) rfl)⟩
theorem iX6_unborne : Cond.instanceMethod mX6_unborne.1 ∈ gw_ ∧ Cond.selects mX6_unborne.1.cls mX6_unborne.1 mX6_unborne.1 ∈ gw_ := ⟨(tb_in 498 (by decide +kernel) rfl), (tb_in 499 (by decide +kernel) rfl)⟩
theorem iX6_left : Cond.instanceMethod mX6_left.1 ∈ gw_ ∧ Cond.selects mX6_left.1.cls mX6_left.1 mX6_left.1 ∈ gw_ := ⟨(tb_in 502 (by decide +kernel) rfl), (tb_in 503 (by decide +kernel) rfl)⟩
theorem iX6_behind : Cond.instanceMethod mX6_behind.1 ∈ gw_ ∧ Cond.selects mX6_behind.1.cls mX6_behind.1 mX6_behind.1 ∈ gw_ := ⟨(tb_in 536 (by decide +kernel) rfl), (tb_in 537 (by decide +kernel) rfl)⟩
theorem iX6_paid : Cond.instanceMethod mX6_paid.1 ∈ gw_ ∧ Cond.selects mX6_paid.1.cls mX6_paid.1 mX6_paid.1 ∈ gw_ := ⟨(tb_in 540 (by decide +kernel) rfl), (tb_in 541 (by decide +kernel) rfl)⟩
theorem iX6_first : Cond.instanceMethod mX6_first.1 ∈ gw_ ∧ Cond.selects mX6_first.1.cls mX6_first.1 mX6_first.1 ∈ gw_ := ⟨(tb_in 544 (by decide +kernel) rfl), (tb_in 545 (by decide +kernel) rfl)⟩
theorem iX6_safe : Cond.instanceMethod mX6_safe.1 ∈ gw_ ∧ Cond.selects mX6_safe.1.cls mX6_safe.1 mX6_safe.1 ∈ gw_ := ⟨(tb_in 548 (by decide +kernel) rfl), (tb_in 549 (by decide +kernel) rfl)⟩
theorem iX6_take : Cond.instanceMethod mX6_take.1 ∈ gw_ ∧ Cond.selects mX6_take.1.cls mX6_take.1 mX6_take.1 ∈ gw_ := ⟨(tb_in 556 (by decide +kernel) rfl), (tb_in 557 (by decide +kernel) rfl)⟩
theorem iX6_strike : Cond.instanceMethod mX6_strike.1 ∈ gw_ ∧ Cond.selects mX6_strike.1.cls mX6_strike.1 mX6_strike.1 ∈ gw_ := ⟨(tb_in 570 (by decide +kernel) rfl), (tb_in 571 (by decide +kernel) rfl)⟩
theorem iX6_seen : Cond.instanceMethod mX6_seen.1 ∈ gw_ ∧ Cond.selects mX6_seen.1.cls mX6_seen.1 mX6_seen.1 ∈ gw_ := ⟨(tb_in 579 (by decide +kernel) rfl), (tb_in 580 (by decide +kernel) rfl)⟩
theorem iX6_forget : Cond.instanceMethod mX6_forget.1 ∈ gw_ ∧ Cond.selects mX6_forget.1.cls mX6_forget.1 mX6_forget.1 ∈ gw_ := ⟨(tb_in 583 (by decide +kernel) rfl), (tb_in 584 (by decide +kernel) rfl)⟩
theorem iX6_sound : Cond.instanceMethod mX6_sound.1 ∈ gw_ ∧ Cond.selects mX6_sound.1.cls mX6_sound.1 mX6_sound.1 ∈ gw_ := ⟨(tb_in 587 (by decide +kernel) rfl), (tb_in 588 (by decide +kernel) rfl)⟩
theorem iX6_press : Cond.instanceMethod mX6_press.1 ∈ gw_ ∧ Cond.selects mX6_press.1.cls mX6_press.1 mX6_press.1 ∈ gw_ := ⟨(tb_in 600 (by decide +kernel) rfl), (tb_in 601 (by decide +kernel) rfl)⟩
theorem iX6_fair : Cond.instanceMethod mX6_fair.1 ∈ gw_ ∧ Cond.selects mX6_fair.1.cls mX6_fair.1 mX6_fair.1 ∈ gw_ := ⟨(tb_in 616 (by decide +kernel) rfl), (tb_in 617 (by decide +kernel) rfl)⟩
theorem iX6_storm : Cond.instanceMethod mX6_storm.1 ∈ gw_ ∧ Cond.selects mX6_storm.1.cls mX6_storm.1 mX6_storm.1 ∈ gw_ := ⟨(tb_in 624 (by decide +kernel) rfl), (tb_in 625 (by decide +kernel) rfl)⟩
theorem iX6_years : Cond.instanceMethod mX6_years.1 ∈ gw_ ∧ Cond.selects mX6_years.1.cls mX6_years.1 mX6_years.1 ∈ gw_ := ⟨(tb_in 636 (by decide +kernel) rfl), (tb_in 637 (by decide +kernel) rfl)⟩
theorem iX6_sheet : Cond.instanceMethod mX6_sheet.1 ∈ gw_ ∧ Cond.selects mX6_sheet.1.cls mX6_sheet.1 mX6_sheet.1 ∈ gw_ := ⟨(tb_in 645 (by decide +kernel) rfl), (tb_in 646 (by decide +kernel) rfl)⟩
theorem iX6_lose : Cond.instanceMethod mX6_lose.1 ∈ gw_ ∧ Cond.selects mX6_lose.1.cls mX6_lose.1 mX6_lose.1 ∈ gw_ := ⟨(tb_in 657 (by decide +kernel) rfl), (tb_in 658 (by decide +kernel) rfl)⟩
theorem iX6_lay : Cond.instanceMethod mX6_lay.1 ∈ gw_ ∧ Cond.selects mX6_lay.1.cls mX6_lay.1 mX6_lay.1 ∈ gw_ := ⟨(tb_in 661 (by decide +kernel) rfl), (tb_in 662 (by decide +kernel) rfl)⟩
theorem iX6_get : Cond.instanceMethod mX6_get.1 ∈ gw_ ∧ Cond.selects mX6_get.1.cls mX6_get.1 mX6_get.1 ∈ gw_ := ⟨(tb_in 677 (by decide +kernel) rfl), (tb_in 678 (by decide +kernel) rfl)⟩
theorem iX6_copy : Cond.instanceMethod mX6_copy.1 ∈ gw_ ∧ Cond.selects mX6_copy.1.cls mX6_copy.1 mX6_copy.1 ∈ gw_ := ⟨(tb_in 682 (by decide +kernel) rfl), (tb_in 683 (by decide +kernel) rfl)⟩
theorem iX6_write : Cond.instanceMethod mX6_write.1 ∈ gw_ ∧ Cond.selects mX6_write.1.cls mX6_write.1 mX6_write.1 ∈ gw_ := ⟨(tb_in 691 (by decide +kernel) rfl), (tb_in 692 (by decide +kernel) rfl)⟩
theorem iX6_count : Cond.instanceMethod mX6_count.1 ∈ gw_ ∧ Cond.selects mX6_count.1.cls mX6_count.1 mX6_count.1 ∈ gw_ := ⟨(tb_in 696 (by decide +kernel) rfl), (tb_in 697 (by decide +kernel) rfl)⟩
theorem iX6_digest : Cond.instanceMethod mX6_digest.1 ∈ gw_ ∧ Cond.selects mX6_digest.1.cls mX6_digest.1 mX6_digest.1 ∈ gw_ := ⟨(tb_in 700 (by decide +kernel) rfl), (tb_in 701 (by decide +kernel) rfl)⟩
theorem iX6_withShip : Cond.instanceMethod mX6_withShip.1 ∈ gw_ ∧ Cond.selects mX6_withShip.1.cls mX6_withShip.1 mX6_withShip.1 ∈ gw_ := ⟨(tb_in 709 (by decide +kernel) rfl), (sl_in 15 (by decide +kernel) rfl)⟩
theorem iX6_withName : Cond.instanceMethod mX6_withName.1 ∈ gw_ ∧ Cond.selects mX6_withName.1.cls mX6_withName.1 mX6_withName.1 ∈ gw_ := ⟨(tb_in 718 (by decide +kernel) rfl), (sl_in 16 (by decide +kernel) rfl)⟩
theorem iX6_withYear : Cond.instanceMethod mX6_withYear.1 ∈ gw_ ∧ Cond.selects mX6_withYear.1.cls mX6_withYear.1 mX6_withYear.1 ∈ gw_ := ⟨(tb_in 730 (by decide +kernel) rfl), (sl_in 17 (by decide +kernel) rfl)⟩
theorem iX6_textAt : Cond.instanceMethod mX6_textAt.1 ∈ gw_ ∧ Cond.selects mX6_textAt.1.cls mX6_textAt.1 mX6_textAt.1 ∈ gw_ := ⟨(tb_in 283 (by decide +kernel) rfl), (sl_in 0 (by decide +kernel) rfl)⟩
theorem iX6_sheetAt : Cond.instanceMethod mX6_sheetAt.1 ∈ gw_ ∧ Cond.selects mX6_sheetAt.1.cls mX6_sheetAt.1 mX6_sheetAt.1 ∈ gw_ := ⟨(tb_in 475 (by decide +kernel) rfl), (sl_in 6 (by decide +kernel) rfl)⟩
theorem iX6_settle : Cond.instanceMethod mX6_settle.1 ∈ gw_ ∧ Cond.selects mX6_settle.1.cls mX6_settle.1 mX6_settle.1 ∈ gw_ := ⟨(tb_in 299 (by decide +kernel) rfl), (sl_in 1 (by decide +kernel) rfl)⟩
theorem iX6_found : Cond.instanceMethod mX6_found.1 ∈ gw_ ∧ Cond.selects mX6_found.1.cls mX6_found.1 mX6_found.1 ∈ gw_ := ⟨(tb_in 479 (by decide +kernel) rfl), (sl_in 7 (by decide +kernel) rfl)⟩
theorem sX6_isWithin : Cond.static mX6_isWithin.1 ∈ gw_ := (tb_in 286 (by decide +kernel) rfl)
theorem sX6_isYear : Cond.static mX6_isYear.1 ∈ gw_ := (tb_in 454 (by decide +kernel) rfl)
theorem sX6_isForm : Cond.static mX6_isForm.1 ∈ gw_ := (tb_in 649 (by decide +kernel) rfl)
theorem sX6_isLoss : Cond.static mX6_isLoss.1 ∈ gw_ := (tb_in 451 (by decide +kernel) rfl)
theorem sX6_partOfFraction : Cond.static mX6_partOfFraction.1 ∈ gw_ := (tb_in 621 (by decide +kernel) rfl)
theorem sX7_in : Cond.static mX7_in.1 ∈ gw_ := (tb_in 831 (by decide +kernel) rfl)
theorem sX7_no : Cond.static mX7_no.1 ∈ gw_ := (tb_in 1138 (by decide +kernel) rfl)
theorem sX7_isTwo : Cond.static mX7_isTwo.1 ∈ gw_ := (tb_in 927 (by decide +kernel) rfl)
theorem sX7_isIn : Cond.static mX7_isIn.1 ∈ gw_ := (tb_in 958 (by decide +kernel) rfl)
theorem sX7_ones : Cond.static mX7_ones.1 ∈ gw_ := (tb_in 1078 (by decide +kernel) rfl)
theorem sX7_lesser : Cond.static mX7_lesser.1 ∈ gw_ := (tb_in 1027 (by decide +kernel) rfl)
theorem sX7_part : Cond.static mX7_part.1 ∈ gw_ := (tb_in 1135 (by decide +kernel) rfl)
theorem iX7_finds : Cond.instanceMethod mX7_finds.1 ∈ gw_ ∧ Cond.selects mX7_finds.1.cls mX7_finds.1 mX7_finds.1 ∈ gw_ := ⟨(tb_in 836 (by decide +kernel) rfl), (sl_in 18 (by decide +kernel) rfl)⟩
theorem sX7_isSheet : Cond.static mX7_isSheet.1 ∈ gw_ := (tb_in 827 (by decide +kernel) rfl)
theorem iX7_sheet : Cond.instanceMethod mX7_sheet.1 ∈ gw_ ∧ Cond.selects mX7_sheet.1.cls mX7_sheet.1 mX7_sheet.1 ∈ gw_ := ⟨(tb_in 823 (by decide +kernel) rfl), (tb_in 824 (by decide +kernel) rfl)⟩
theorem iX7_lose : Cond.instanceMethod mX7_lose.1 ∈ gw_ ∧ Cond.selects mX7_lose.1.cls mX7_lose.1 mX7_lose.1 ∈ gw_ := ⟨(tb_in 839 (by decide +kernel) rfl), (tb_in 840 (by decide +kernel) rfl)⟩
theorem iX7_lacks : Cond.instanceMethod mX7_lacks.1 ∈ gw_ ∧ Cond.selects mX7_lacks.1.cls mX7_lacks.1 mX7_lacks.1 ∈ gw_ := ⟨(tb_in 848 (by decide +kernel) rfl), (sl_in 19 (by decide +kernel) rfl)⟩
theorem sX7_cut : Cond.static mX7_cut.1 ∈ gw_ := (tb_in 851 (by decide +kernel) rfl)
theorem iX7_lay : Cond.instanceMethod mX7_lay.1 ∈ gw_ ∧ Cond.selects mX7_lay.1.cls mX7_lay.1 mX7_lay.1 ∈ gw_ := ⟨(tb_in 843 (by decide +kernel) rfl), (tb_in 844 (by decide +kernel) rfl)⟩
theorem iX7_get : Cond.instanceMethod mX7_get.1 ∈ gw_ ∧ Cond.selects mX7_get.1.cls mX7_get.1 mX7_get.1 ∈ gw_ := ⟨(tb_in 854 (by decide +kernel) rfl), (tb_in 855 (by decide +kernel) rfl)⟩
theorem iX7_copy : Cond.instanceMethod mX7_copy.1 ∈ gw_ ∧ Cond.selects mX7_copy.1.cls mX7_copy.1 mX7_copy.1 ∈ gw_ := ⟨(tb_in 859 (by decide +kernel) rfl), (tb_in 860 (by decide +kernel) rfl)⟩
theorem sX7_isText : Cond.static mX7_isText.1 ∈ gw_ := (tb_in 867 (by decide +kernel) rfl)
theorem iX7_type : Cond.instanceMethod mX7_type.1 ∈ gw_ ∧ Cond.selects mX7_type.1.cls mX7_type.1 mX7_type.1 ∈ gw_ := ⟨(tb_in 863 (by decide +kernel) rfl), (tb_in 864 (by decide +kernel) rfl)⟩
theorem iX7_wipe : Cond.instanceMethod mX7_wipe.1 ∈ gw_ ∧ Cond.selects mX7_wipe.1.cls mX7_wipe.1 mX7_wipe.1 ∈ gw_ := ⟨(tb_in 871 (by decide +kernel) rfl), (tb_in 872 (by decide +kernel) rfl)⟩
theorem iX7_undo : Cond.instanceMethod mX7_undo.1 ∈ gw_ ∧ Cond.selects mX7_undo.1.cls mX7_undo.1 mX7_undo.1 ∈ gw_ := ⟨(tb_in 875 (by decide +kernel) rfl), (tb_in 876 (by decide +kernel) rfl)⟩
theorem iX7_passes : Cond.instanceMethod mX7_passes.1 ∈ gw_ ∧ Cond.selects mX7_passes.1.cls mX7_passes.1 mX7_passes.1 ∈ gw_ := ⟨(tb_in 900 (by decide +kernel) rfl), (sl_in 24 (by decide +kernel) rfl)⟩
theorem iX7_twoFigures : Cond.instanceMethod mX7_twoFigures.1 ∈ gw_ ∧ Cond.selects mX7_twoFigures.1.cls mX7_twoFigures.1 mX7_twoFigures.1 ∈ gw_ := ⟨(tb_in 896 (by decide +kernel) rfl), (sl_in 23 (by decide +kernel) rfl)⟩
theorem iX7_units : Cond.instanceMethod mX7_units.1 ∈ gw_ ∧ Cond.selects mX7_units.1.cls mX7_units.1 mX7_units.1 ∈ gw_ := ⟨(tb_in 904 (by decide +kernel) rfl), (sl_in 25 (by decide +kernel) rfl)⟩
theorem iX7_readsShip : Cond.instanceMethod mX7_readsShip.1 ∈ gw_ ∧ Cond.selects mX7_readsShip.1.cls mX7_readsShip.1 mX7_readsShip.1 ∈ gw_ := ⟨(tb_in 892 (by decide +kernel) rfl), (sl_in 22 (by decide +kernel) rfl)⟩
theorem iX7_readsName : Cond.instanceMethod mX7_readsName.1 ∈ gw_ ∧ Cond.selects mX7_readsName.1.cls mX7_readsName.1 mX7_readsName.1 ∈ gw_ := ⟨(tb_in 908 (by decide +kernel) rfl), (sl_in 26 (by decide +kernel) rfl)⟩
theorem iX7_readsLine : Cond.instanceMethod mX7_readsLine.1 ∈ gw_ ∧ Cond.selects mX7_readsLine.1.cls mX7_readsLine.1 mX7_readsLine.1 ∈ gw_ := ⟨(tb_in 912 (by decide +kernel) rfl), (sl_in 27 (by decide +kernel) rfl)⟩
theorem iX7_readsThing : Cond.instanceMethod mX7_readsThing.1 ∈ gw_ ∧ Cond.selects mX7_readsThing.1.cls mX7_readsThing.1 mX7_readsThing.1 ∈ gw_ := ⟨(tb_in 888 (by decide +kernel) rfl), (sl_in 21 (by decide +kernel) rfl)⟩
theorem iX7_readsText : Cond.instanceMethod mX7_readsText.1 ∈ gw_ ∧ Cond.selects mX7_readsText.1.cls mX7_readsText.1 mX7_readsText.1 ∈ gw_ := ⟨(tb_in 884 (by decide +kernel) rfl), (sl_in 20 (by decide +kernel) rfl)⟩
theorem iX7_reads : Cond.instanceMethod mX7_reads.1 ∈ gw_ ∧ Cond.selects mX7_reads.1.cls mX7_reads.1 mX7_reads.1 ∈ gw_ := ⟨(tb_in 920 (by decide +kernel) rfl), (sl_in 28 (by decide +kernel) rfl)⟩
theorem iX7_fault : Cond.instanceMethod mX7_fault.1 ∈ gw_ ∧ Cond.selects mX7_fault.1.cls mX7_fault.1 mX7_fault.1 ∈ gw_ := ⟨(tb_in 879 (by decide +kernel) rfl), (tb_in 880 (by decide +kernel) rfl)⟩
theorem iX7_isShip : Cond.instanceMethod mX7_isShip.1 ∈ gw_ ∧ Cond.selects mX7_isShip.1.cls mX7_isShip.1 mX7_isShip.1 ∈ gw_ := ⟨(tb_in 924 (by decide +kernel) rfl), (sl_in 29 (by decide +kernel) rfl)⟩
theorem iX7_isName : Cond.instanceMethod mX7_isName.1 ∈ gw_ ∧ Cond.selects mX7_isName.1.cls mX7_isName.1 mX7_isName.1 ∈ gw_ := ⟨(tb_in 935 (by decide +kernel) rfl), (sl_in 30 (by decide +kernel) rfl)⟩
theorem sX7_isYear : Cond.static mX7_isYear.1 ∈ gw_ := (tb_in 993 (by decide +kernel) rfl)
theorem iX7_ship : Cond.instanceMethod mX7_ship.1 ∈ gw_ ∧ Cond.selects mX7_ship.1.cls mX7_ship.1 mX7_ship.1 ∈ gw_ := ⟨(tb_in 915 (by decide +kernel) rfl), (tb_in 916 (by decide +kernel) rfl)⟩
theorem iX7_name : Cond.instanceMethod mX7_name.1 ∈ gw_ ∧ Cond.selects mX7_name.1.cls mX7_name.1 mX7_name.1 ∈ gw_ := ⟨(tb_in 930 (by decide +kernel) rfl), (tb_in 931 (by decide +kernel) rfl)⟩
theorem iX7_struck : Cond.instanceMethod mX7_struck.1 ∈ gw_ ∧ Cond.selects mX7_struck.1.cls mX7_struck.1 mX7_struck.1 ∈ gw_ := ⟨(tb_in 938 (by decide +kernel) rfl), (tb_in 939 (by decide +kernel) rfl)⟩
theorem iX7_bearerOf : Cond.instanceMethod mX7_bearerOf.1 ∈ gw_ ∧ Cond.selects mX7_bearerOf.1.cls mX7_bearerOf.1 mX7_bearerOf.1 ∈ gw_ := ⟨(tb_in 970 (by decide +kernel) rfl), (sl_in 35 (by decide +kernel) rfl)⟩
theorem iX7_stands : Cond.instanceMethod mX7_stands.1 ∈ gw_ ∧ Cond.selects mX7_stands.1.cls mX7_stands.1 mX7_stands.1 ∈ gw_ := ⟨(tb_in 955 (by decide +kernel) rfl), (sl_in 33 (by decide +kernel) rfl)⟩
theorem iX7_dueOf : Cond.instanceMethod mX7_dueOf.1 ∈ gw_ ∧ Cond.selects mX7_dueOf.1.cls mX7_dueOf.1 mX7_dueOf.1 ∈ gw_ := ⟨(tb_in 951 (by decide +kernel) rfl), (sl_in 32 (by decide +kernel) rfl)⟩
theorem iX7_lineOf : Cond.instanceMethod mX7_lineOf.1 ∈ gw_ ∧ Cond.selects mX7_lineOf.1.cls mX7_lineOf.1 mX7_lineOf.1 ∈ gw_ := ⟨(tb_in 947 (by decide +kernel) rfl), (sl_in 31 (by decide +kernel) rfl)⟩
theorem iX7_line : Cond.instanceMethod mX7_line.1 ∈ gw_ ∧ Cond.selects mX7_line.1.cls mX7_line.1 mX7_line.1 ∈ gw_ := ⟨(tb_in 942 (by decide +kernel) rfl), (tb_in 943 (by decide +kernel) rfl)⟩
theorem iX7_bearersOf : Cond.instanceMethod mX7_bearersOf.1 ∈ gw_ ∧ Cond.selects mX7_bearersOf.1.cls mX7_bearersOf.1 mX7_bearersOf.1 ∈ gw_ := ⟨(tb_in 974 (by decide +kernel) rfl), (sl_in 36 (by decide +kernel) rfl)⟩
theorem iX7_bearerBy : Cond.instanceMethod mX7_bearerBy.1 ∈ gw_ ∧ Cond.selects mX7_bearerBy.1.cls mX7_bearerBy.1 mX7_bearerBy.1 ∈ gw_ := ⟨(tb_in 966 (by decide +kernel) rfl), (sl_in 34 (by decide +kernel) rfl)⟩
theorem iX7_bearer : Cond.instanceMethod mX7_bearer.1 ∈ gw_ ∧ Cond.selects mX7_bearer.1.cls mX7_bearer.1 mX7_bearer.1 ∈ gw_ := ⟨(tb_in 961 (by decide +kernel) rfl), (tb_in 962 (by decide +kernel) rfl)⟩
theorem iX7_borneOf : Cond.instanceMethod mX7_borneOf.1 ∈ gw_ ∧ Cond.selects mX7_borneOf.1.cls mX7_borneOf.1 mX7_borneOf.1 ∈ gw_ := ⟨(tb_in 982 (by decide +kernel) rfl), (sl_in 37 (by decide +kernel) rfl)⟩
theorem iX7_borne : Cond.instanceMethod mX7_borne.1 ∈ gw_ ∧ Cond.selects mX7_borne.1.cls mX7_borne.1 mX7_borne.1 ∈ gw_ := ⟨(tb_in 977 (by decide +kernel) rfl), (tb_in 978 (by decide +kernel) rfl)⟩
theorem iX7_unborne : Cond.instanceMethod mX7_unborne.1 ∈ gw_ ∧ Cond.selects mX7_unborne.1.cls mX7_unborne.1 mX7_unborne.1 ∈ gw_ := ⟨(tb_in 985 (by decide +kernel) rfl), (tb_in 986 (by decide +kernel) rfl)⟩
theorem iX7_loss : Cond.instanceMethod mX7_loss.1 ∈ gw_ ∧ Cond.selects mX7_loss.1.cls mX7_loss.1 mX7_loss.1 ∈ gw_ := ⟨(tb_in 989 (by decide +kernel) rfl), (tb_in 990 (by decide +kernel) rfl)⟩
theorem iX7_back : Cond.instanceMethod mX7_back.1 ∈ gw_ ∧ Cond.selects mX7_back.1.cls mX7_back.1 mX7_back.1 ∈ gw_ := ⟨(tb_in 998 (by decide +kernel) rfl), (tb_in 999 (by decide +kernel) rfl)⟩
theorem iX7_read : Cond.instanceMethod mX7_read.1 ∈ gw_ ∧ Cond.selects mX7_read.1.cls mX7_read.1 mX7_read.1 ∈ gw_ := ⟨(tb_in 1002 (by decide +kernel) rfl), (tb_in 1003 (by decide +kernel) rfl)⟩
theorem iX7_begins : Cond.instanceMethod mX7_begins.1 ∈ gw_ ∧ Cond.selects mX7_begins.1.cls mX7_begins.1 mX7_begins.1 ∈ gw_ := ⟨(tb_in 1020 (by decide +kernel) rfl), (sl_in 40 (by decide +kernel) rfl)⟩
theorem iX7_goes : Cond.instanceMethod mX7_goes.1 ∈ gw_ ∧ Cond.selects mX7_goes.1.cls mX7_goes.1 mX7_goes.1 ∈ gw_ := ⟨(tb_in 1024 (by decide +kernel) rfl), (sl_in 41 (by decide +kernel) rfl)⟩
theorem iX7_lives : Cond.instanceMethod mX7_lives.1 ∈ gw_ ∧ Cond.selects mX7_lives.1.cls mX7_lives.1 mX7_lives.1 ∈ gw_ := ⟨(tb_in 1016 (by decide +kernel) rfl), (sl_in 39 (by decide +kernel) rfl)⟩
theorem iX7_leftOf : Cond.instanceMethod mX7_leftOf.1 ∈ gw_ ∧ Cond.selects mX7_leftOf.1.cls mX7_leftOf.1 mX7_leftOf.1 ∈ gw_ := ⟨(tb_in 1012 (by decide +kernel) rfl), (sl_in 38 (by decide +kernel) rfl)⟩
theorem iX7_left : Cond.instanceMethod mX7_left.1 ∈ gw_ ∧ Cond.selects mX7_left.1.cls mX7_left.1 mX7_left.1 ∈ gw_ := ⟨(tb_in 1007 (by decide +kernel) rfl), (tb_in 1008 (by decide +kernel) rfl)⟩
theorem iX7_behindOf : Cond.instanceMethod mX7_behindOf.1 ∈ gw_ ∧ Cond.selects mX7_behindOf.1.cls mX7_behindOf.1 mX7_behindOf.1 ∈ gw_ := ⟨(tb_in 1035 (by decide +kernel) rfl), (sl_in 42 (by decide +kernel) rfl)⟩
theorem iX7_behind : Cond.instanceMethod mX7_behind.1 ∈ gw_ ∧ Cond.selects mX7_behind.1.cls mX7_behind.1 mX7_behind.1 ∈ gw_ := ⟨(tb_in 1030 (by decide +kernel) rfl), (tb_in 1031 (by decide +kernel) rfl)⟩
theorem iX7_paidOf : Cond.instanceMethod mX7_paidOf.1 ∈ gw_ ∧ Cond.selects mX7_paidOf.1.cls mX7_paidOf.1 mX7_paidOf.1 ∈ gw_ := ⟨(tb_in 1043 (by decide +kernel) rfl), (sl_in 43 (by decide +kernel) rfl)⟩
theorem iX7_paid : Cond.instanceMethod mX7_paid.1 ∈ gw_ ∧ Cond.selects mX7_paid.1.cls mX7_paid.1 mX7_paid.1 ∈ gw_ := ⟨(tb_in 1038 (by decide +kernel) rfl), (tb_in 1039 (by decide +kernel) rfl)⟩
theorem iX7_firstOf : Cond.instanceMethod mX7_firstOf.1 ∈ gw_ ∧ Cond.selects mX7_firstOf.1.cls mX7_firstOf.1 mX7_firstOf.1 ∈ gw_ := ⟨(tb_in 1051 (by decide +kernel) rfl), (sl_in 44 (by decide +kernel) rfl)⟩
theorem iX7_first : Cond.instanceMethod mX7_first.1 ∈ gw_ ∧ Cond.selects mX7_first.1.cls mX7_first.1 mX7_first.1 ∈ gw_ := ⟨(tb_in 1046 (by decide +kernel) rfl), (tb_in 1047 (by decide +kernel) rfl)⟩
theorem iX7_alone : Cond.instanceMethod mX7_alone.1 ∈ gw_ ∧ Cond.selects mX7_alone.1.cls mX7_alone.1 mX7_alone.1 ∈ gw_ := ⟨(tb_in 1063 (by decide +kernel) rfl), (sl_in 46 (by decide +kernel) rfl)⟩
theorem iX7_safeNow : Cond.instanceMethod mX7_safeNow.1 ∈ gw_ ∧ Cond.selects mX7_safeNow.1.cls mX7_safeNow.1 mX7_safeNow.1 ∈ gw_ := ⟨(tb_in 1059 (by decide +kernel) rfl), (sl_in 45 (by decide +kernel) rfl)⟩
theorem iX7_safe : Cond.instanceMethod mX7_safe.1 ∈ gw_ ∧ Cond.selects mX7_safe.1.cls mX7_safe.1 mX7_safe.1 ∈ gw_ := ⟨(tb_in 1054 (by decide +kernel) rfl), (tb_in 1055 (by decide +kernel) rfl)⟩
theorem iX7_haveAll : Cond.instanceMethod mX7_haveAll.1 ∈ gw_ ∧ Cond.selects mX7_haveAll.1.cls mX7_haveAll.1 mX7_haveAll.1 ∈ gw_ := ⟨(tb_in 1075 (by decide +kernel) rfl), (sl_in 48 (by decide +kernel) rfl)⟩
theorem iX7_takeOf : Cond.instanceMethod mX7_takeOf.1 ∈ gw_ ∧ Cond.selects mX7_takeOf.1.cls mX7_takeOf.1 mX7_takeOf.1 ∈ gw_ := ⟨(tb_in 1071 (by decide +kernel) rfl), (sl_in 47 (by decide +kernel) rfl)⟩
theorem iX7_take : Cond.instanceMethod mX7_take.1 ∈ gw_ ∧ Cond.selects mX7_take.1.cls mX7_take.1 mX7_take.1 ∈ gw_ := ⟨(tb_in 1066 (by decide +kernel) rfl), (tb_in 1067 (by decide +kernel) rfl)⟩
theorem iX7_borneAll : Cond.instanceMethod mX7_borneAll.1 ∈ gw_ ∧ Cond.selects mX7_borneAll.1.cls mX7_borneAll.1 mX7_borneAll.1 ∈ gw_ := ⟨(tb_in 1090 (by decide +kernel) rfl), (sl_in 50 (by decide +kernel) rfl)⟩
theorem iX7_strikeOf : Cond.instanceMethod mX7_strikeOf.1 ∈ gw_ ∧ Cond.selects mX7_strikeOf.1.cls mX7_strikeOf.1 mX7_strikeOf.1 ∈ gw_ := ⟨(tb_in 1086 (by decide +kernel) rfl), (sl_in 49 (by decide +kernel) rfl)⟩
theorem iX7_strike : Cond.instanceMethod mX7_strike.1 ∈ gw_ ∧ Cond.selects mX7_strike.1.cls mX7_strike.1 mX7_strike.1 ∈ gw_ := ⟨(tb_in 1081 (by decide +kernel) rfl), (tb_in 1082 (by decide +kernel) rfl)⟩
theorem iX7_seen : Cond.instanceMethod mX7_seen.1 ∈ gw_ ∧ Cond.selects mX7_seen.1.cls mX7_seen.1 mX7_seen.1 ∈ gw_ := ⟨(tb_in 1093 (by decide +kernel) rfl), (tb_in 1094 (by decide +kernel) rfl)⟩
theorem iX7_forget : Cond.instanceMethod mX7_forget.1 ∈ gw_ ∧ Cond.selects mX7_forget.1.cls mX7_forget.1 mX7_forget.1 ∈ gw_ := ⟨(tb_in 1098 (by decide +kernel) rfl), (tb_in 1099 (by decide +kernel) rfl)⟩
theorem iX7_isSeen : Cond.instanceMethod mX7_isSeen.1 ∈ gw_ ∧ Cond.selects mX7_isSeen.1.cls mX7_isSeen.1 mX7_isSeen.1 ∈ gw_ := ⟨(tb_in 1111 (by decide +kernel) rfl), (sl_in 52 (by decide +kernel) rfl)⟩
theorem iX7_soundOf : Cond.instanceMethod mX7_soundOf.1 ∈ gw_ ∧ Cond.selects mX7_soundOf.1.cls mX7_soundOf.1 mX7_soundOf.1 ∈ gw_ := ⟨(tb_in 1107 (by decide +kernel) rfl), (sl_in 51 (by decide +kernel) rfl)⟩
theorem iX7_sound : Cond.instanceMethod mX7_sound.1 ∈ gw_ ∧ Cond.selects mX7_sound.1.cls mX7_sound.1 mX7_sound.1 ∈ gw_ := ⟨(tb_in 1102 (by decide +kernel) rfl), (tb_in 1103 (by decide +kernel) rfl)⟩
theorem iX7_mostAlike : Cond.instanceMethod mX7_mostAlike.1 ∈ gw_ ∧ Cond.selects mX7_mostAlike.1.cls mX7_mostAlike.1 mX7_mostAlike.1 ∈ gw_ := ⟨(tb_in 1123 (by decide +kernel) rfl), (sl_in 54 (by decide +kernel) rfl)⟩
theorem iX7_pressNow : Cond.instanceMethod mX7_pressNow.1 ∈ gw_ ∧ Cond.selects mX7_pressNow.1.cls mX7_pressNow.1 mX7_pressNow.1 ∈ gw_ := ⟨(tb_in 1119 (by decide +kernel) rfl), (sl_in 53 (by decide +kernel) rfl)⟩
theorem iX7_press : Cond.instanceMethod mX7_press.1 ∈ gw_ ∧ Cond.selects mX7_press.1.cls mX7_press.1 mX7_press.1 ∈ gw_ := ⟨(tb_in 1114 (by decide +kernel) rfl), (tb_in 1115 (by decide +kernel) rfl)⟩
theorem iX7_fairOf : Cond.instanceMethod mX7_fairOf.1 ∈ gw_ ∧ Cond.selects mX7_fairOf.1.cls mX7_fairOf.1 mX7_fairOf.1 ∈ gw_ := ⟨(tb_in 1131 (by decide +kernel) rfl), (sl_in 55 (by decide +kernel) rfl)⟩
theorem iX7_fair : Cond.instanceMethod mX7_fair.1 ∈ gw_ ∧ Cond.selects mX7_fair.1.cls mX7_fair.1 mX7_fair.1 ∈ gw_ := ⟨(tb_in 1126 (by decide +kernel) rfl), (tb_in 1127 (by decide +kernel) rfl)⟩
theorem iX7_stormOf : Cond.instanceMethod mX7_stormOf.1 ∈ gw_ ∧ Cond.selects mX7_stormOf.1.cls mX7_stormOf.1 mX7_stormOf.1 ∈ gw_ := ⟨(tb_in 1148 (by decide +kernel) rfl), (sl_in 56 (by decide +kernel) rfl)⟩
theorem iX7_storm : Cond.instanceMethod mX7_storm.1 ∈ gw_ ∧ Cond.selects mX7_storm.1.cls mX7_storm.1 mX7_storm.1 ∈ gw_ := ⟨(tb_in 1142 (by decide +kernel) rfl), (tb_in 1143 (by decide +kernel) rfl)⟩
theorem iX7_lot : Cond.instanceMethod mX7_lot.1 ∈ gw_ ∧ Cond.selects mX7_lot.1.cls mX7_lot.1 mX7_lot.1 ∈ gw_ := ⟨(tb_in 1161 (by decide +kernel) rfl), (sl_in 58 (by decide +kernel) rfl)⟩
theorem iX7_yearsOf : Cond.instanceMethod mX7_yearsOf.1 ∈ gw_ ∧ Cond.selects mX7_yearsOf.1.cls mX7_yearsOf.1 mX7_yearsOf.1 ∈ gw_ := ⟨(tb_in 1157 (by decide +kernel) rfl), (sl_in 57 (by decide +kernel) rfl)⟩
theorem iX7_years : Cond.instanceMethod mX7_years.1 ∈ gw_ ∧ Cond.selects mX7_years.1.cls mX7_years.1 mX7_years.1 ∈ gw_ := ⟨(tb_in 1151 (by decide +kernel) rfl), (tb_in 1152 (by decide +kernel) rfl)⟩
theorem iX7_write : Cond.instanceMethod mX7_write.1 ∈ gw_ ∧ Cond.selects mX7_write.1.cls mX7_write.1 mX7_write.1 ∈ gw_ := ⟨(tb_in 1165 (by decide +kernel) rfl), (tb_in 1166 (by decide +kernel) rfl)⟩
theorem iX7_count : Cond.instanceMethod mX7_count.1 ∈ gw_ ∧ Cond.selects mX7_count.1.cls mX7_count.1 mX7_count.1 ∈ gw_ := ⟨(tb_in 1169 (by decide +kernel) rfl), (tb_in 1170 (by decide +kernel) rfl)⟩
theorem iX7_tellsShip : Cond.instanceMethod mX7_tellsShip.1 ∈ gw_ ∧ Cond.selects mX7_tellsShip.1.cls mX7_tellsShip.1 mX7_tellsShip.1 ∈ gw_ := ⟨(tb_in 1181 (by decide +kernel) rfl), (sl_in 59 (by decide +kernel) rfl)⟩
theorem iX7_tellsName : Cond.instanceMethod mX7_tellsName.1 ∈ gw_ ∧ Cond.selects mX7_tellsName.1.cls mX7_tellsName.1 mX7_tellsName.1 ∈ gw_ := ⟨(tb_in 1186 (by decide +kernel) rfl), (sl_in 60 (by decide +kernel) rfl)⟩
theorem iX7_digest : Cond.instanceMethod mX7_digest.1 ∈ gw_ ∧ Cond.selects mX7_digest.1.cls mX7_digest.1 mX7_digest.1 ∈ gw_ := ⟨(tb_in 1173 (by decide +kernel) rfl), (tb_in 1174 (by decide +kernel) rfl)⟩
theorem sJ6_bitCount_0f7a4 : Cond.static mJ6_bitCount_0f7a4.1 ∈ gw_ := (tb_in 564 (by decide +kernel) rfl)
theorem sJ9_max_7cf53 : Cond.static mJ9_max_7cf53.1 ∈ gw_ := (tb_in 613 (by decide +kernel) rfl)
theorem sJ9_min_7cf53 : Cond.static mJ9_min_7cf53.1 ∈ gw_ := (tb_in 363 (by decide +kernel) rfl)
theorem iJ0_length_8abf5 : Cond.instanceMethod mJ0_length_8abf5.1 ∈ gw_ ∧ Cond.selects mJ0_length_8abf5.1.cls mJ0_length_8abf5.1 mJ0_length_8abf5.1 ∈ gw_ := ⟨(tb_in 33 (by decide +kernel) rfl), (tb_in 34 (by decide +kernel) rfl)⟩
theorem iJ0_charAt_5068e : Cond.instanceMethod mJ0_charAt_5068e.1 ∈ gw_ ∧ Cond.selects mJ0_charAt_5068e.1.cls mJ0_charAt_5068e.1 mJ0_charAt_5068e.1 ∈ gw_ := ⟨(tb_in 322 (by decide +kernel) rfl), (tb_in 323 (by decide +kernel) rfl)⟩
theorem iJ0_coder_7d493 : Cond.instanceMethod mJ0_coder_7d493.1 ∈ gw_ ∧ Cond.selects mJ0_coder_7d493.1.cls mJ0_coder_7d493.1 mJ0_coder_7d493.1 ∈ gw_ := ⟨(tb_in 37 (by decide +kernel) rfl), (tb_in 38 (by decide +kernel) rfl)⟩
theorem iJ0_isLatin1_aae02 : Cond.instanceMethod mJ0_isLatin1_aae02.1 ∈ gw_ ∧ Cond.selects mJ0_isLatin1_aae02.1.cls mJ0_isLatin1_aae02.1 mJ0_isLatin1_aae02.1 ∈ gw_ := ⟨(tb_in 326 (by decide +kernel) rfl), (tb_in 327 (by decide +kernel) rfl)⟩
theorem sJ0_checkIndex_df160 : Cond.static mJ0_checkIndex_df160.1 ∈ gw_ := (tb_in 333 (by decide +kernel) rfl)
theorem sJ1_charAt_3b067 : Cond.static mJ1_charAt_3b067.1 ∈ gw_ := (tb_in 330 (by decide +kernel) rfl)
theorem sJ2_getChar_3b067 : Cond.static mJ2_getChar_3b067.1 ∈ gw_ := (tb_in 351 (by decide +kernel) rfl)
theorem sJ2_length_9d52b : Cond.static mJ2_length_9d52b.1 ∈ gw_ := (tb_in 347 (by decide +kernel) rfl)
theorem sJ2_charAt_3b067 : Cond.static mJ2_charAt_3b067.1 ∈ gw_ := (tb_in 341 (by decide +kernel) rfl)
theorem sJ2_checkIndex_2214a : Cond.static mJ2_checkIndex_2214a.1 ∈ gw_ := (tb_in 344 (by decide +kernel) rfl)
theorem sJ7_fill_53178 : Cond.static mJ7_fill_53178.1 ∈ gw_ := (tb_in 517 (by decide +kernel) rfl)
theorem sJ3_checkIndex_8e157 : Cond.static mJ3_checkIndex_8e157.1 ∈ gw_ := (tb_in 338 (by decide +kernel) rfl)
theorem kX1_61 : Mk_ RX1 61 Lib.Math.min.name Lib.Math.min.code := ⟨(tb_in 362 (by decide +kernel) rfl), (tb_in 363 (by decide +kernel) rfl), (tb_in 13 (by decide +kernel) rfl), (tb_in 364 (by decide +kernel) rfl)⟩
theorem kX3_60 : Ck_ RX3 60 := ⟨(tb_in 513 (by decide +kernel) rfl), (tb_in 515 (by decide +kernel) rfl), (tb_in 514 (by decide +kernel) rfl), (tb_in 14 (by decide +kernel) rfl)⟩
theorem kX3_99 : Mk_ RX3 99 Lib.Math.min.name Lib.Math.min.code := ⟨(tb_in 529 (by decide +kernel) rfl), (tb_in 363 (by decide +kernel) rfl), (tb_in 13 (by decide +kernel) rfl), (tb_in 364 (by decide +kernel) rfl)⟩
theorem kX0_77 : Mk_ RX0 77 Lib.Math.max.name Lib.Math.max.code := ⟨(tb_in 612 (by decide +kernel) rfl), (tb_in 613 (by decide +kernel) rfl), (tb_in 13 (by decide +kernel) rfl), (tb_in 614 (by decide +kernel) rfl)⟩
theorem kX6_270 : Ck_ RX6 270 := ⟨(tb_in 689 (by decide +kernel) rfl), (tb_in 515 (by decide +kernel) rfl), (tb_in 514 (by decide +kernel) rfl), (tb_in 14 (by decide +kernel) rfl)⟩
theorem kX6_276 : Mk_ RX6 276 Lib.Math.min.name Lib.Math.min.code := ⟨(tb_in 694 (by decide +kernel) rfl), (tb_in 363 (by decide +kernel) rfl), (tb_in 13 (by decide +kernel) rfl), (tb_in 364 (by decide +kernel) rfl)⟩
