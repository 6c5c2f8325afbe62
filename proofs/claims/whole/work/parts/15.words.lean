abbrev zd_Bits_whole : zD := (RX0, cX0_whole, 1, (some .int), yX0_whole)
abbrev zd_Bits_turnedAbout : zD := (RX0, cX0_turnedAbout, 5, (some .int), yX0_turnedAbout)
abbrev zd_Bits_byLines : zD := (RX0, cX0_byLines, 8, (some .int), yX0_byLines)
abbrev zd_Bits_made : zD := (RX0, cX0_made, 4, (some .int), yX0_made)
abbrev zd_Catalog_slotBit : zD := (RX1, cX1_slotBit, 1, (some .int), yX1_slotBit)
abbrev zd_Arrays_fill : zD := (RJ7, cJ7_fill_53178, 4, none, yJ7_fill_53178)
abbrev zd_Catalog_init : zD := (RX1, cX1_init, 2, none, yX1_init)
abbrev zd_Catalog_sizeOf : zD := (RX1, cX1_sizeOf, 2, (some .int), yX1_sizeOf)
abbrev zd_S_isSize : zD := (RX8, cX8_isSize, 1, (some .boolean), yX8_isSize)
abbrev zd_Table_load : zD := (RX6, cX6_load, 5, none, yX6_load)
abbrev zd_Table_renamedCell : zD := (RX6, cX6_renamedCell, 5, (some .int), yX6_renamedCell)
abbrev zd_Table_compareRenamed : zD := (RX6, cX6_compareRenamed, 5, (some .int), yX6_compareRenamed)
abbrev zd_Table_likesIfLeast : zD := (RX6, cX6_likesIfLeast, 4, (some .int), yX6_likesIfLeast)
abbrev zd_Table_advance : zD := (RX6, cX6_advance, 2, none, yX6_advance)
abbrev zd_Catalog_fill : zD := (RX1, cX1_fill, 5, none, yX1_fill)
abbrev zd_Catalog_forgetLaws : zD := (RX1, cX1_forgetLaws, 2, none, yX1_forgetLaws)
abbrev zd_Table_thingsFor : zD := (RX6, cX6_thingsFor, 3, (some .int), yX6_thingsFor)
abbrev zd_Table_alikeForZ : zD := (RX6, cX6_alikeForZ, 10, (some .boolean), yX6_alikeForZ)
abbrev zd_Table_keepsLaw : zD := (RX6, cX6_keepsLaw, 10, (some .boolean), yX6_keepsLaw)
abbrev zd_Catalog_tryLaws : zD := (RX1, cX1_tryLaws, 5, none, yX1_tryLaws)
abbrev zd_Catalog_settle : zD := (RX1, cX1_settle, 4, none, yX1_settle)
abbrev zd_Catalog_keepsAll : zD := (RX1, cX1_keepsAll, 3, (some .boolean), yX1_keepsAll)
abbrev zd_Catalog_howMany : zD := (RX1, cX1_howMany, 6, (some .int), yX1_howMany)
abbrev zd_Catalog_numberOf : zD := (RX1, cX1_numberOf, 6, (some .int), yX1_numberOf)
abbrev zd_Catalog_isNeeded : zD := (RX1, cX1_isNeeded, 5, (some .boolean), yX1_isNeeded)
abbrev zd_Table_turnAbout : zD := (RX6, cX6_turnAbout, 4, none, yX6_turnAbout)
abbrev zd_Table_renamedNumber : zD := (RX6, cX6_renamedNumber, 5, (some .int), yX6_renamedNumber)
abbrev zd_Table_leastNumber : zD := (RX6, cX6_leastNumber, 3, (some .int), yX6_leastNumber)
abbrev zd_Catalog_entryOf : zD := (RX1, cX1_entryOf, 7, (some .int), yX1_entryOf)
abbrev zd_Catalog_learnTurns : zD := (RX1, cX1_learnTurns, 3, none, yX1_learnTurns)
abbrev zd_Catalog_isEven : zD := (RX1, cX1_isEven, 3, (some .boolean), yX1_isEven)
abbrev zd_Catalog_keepPage : zD := (RX1, cX1_keepPage, 4, none, yX1_keepPage)
abbrev zd_Catalog_isPageOf : zD := (RX1, cX1_isPageOf, 6, (some .boolean), yX1_isPageOf)
abbrev zd_Notions_init : zD := (RX2, cX2_init, 1, none, yX2_init)
abbrev zd_Notions_has : zD := (RX2, cX2_has, 2, (some .boolean), yX2_has)
abbrev zd_Notions_addPart : zD := (RX2, cX2_addPart, 3, none, yX2_addPart)
abbrev zd_Notions_add : zD := (RX2, cX2_add, 5, (some .int), yX2_add)
abbrev zd_Notions_howManyAwake : zD := (RX2, cX2_howManyAwake, 3, (some .int), yX2_howManyAwake)
abbrev zd_Page_init : zD := (RX3, cX3_init, 1, none, yX3_init)
abbrev zd_Page_add : zD := (RX3, cX3_add, 3, (some .int), yX3_add)
abbrev zd_Page_all : zD := (RX3, cX3_all, 1, (some .int), yX3_all)
abbrev zd_Rounds_init : zD := (RX4, cX4_init, 1, none, yX4_init)
abbrev zd_Rounds_forget : zD := (RX4, cX4_forget, 1, none, yX4_forget)
abbrev zd_Rounds_roundOf : zD := (RX4, cX4_roundOf, 3, (some .int), yX4_roundOf)
abbrev zd_Rounds_howManyGroups : zD := (RX4, cX4_howManyGroups, 4, (some .int), yX4_howManyGroups)
abbrev zd_Rounds_begin : zD := (RX4, cX4_begin, 3, none, yX4_begin)
abbrev zd_Rounds_becomes : zD := (RX4, cX4_becomes, 3, (some .boolean), yX4_becomes)
abbrev zd_Rounds_isMadeByLaw : zD := (RX4, cX4_isMadeByLaw, 8, (some .boolean), yX4_isMadeByLaw)
abbrev zd_Rounds_join : zD := (RX4, cX4_join, 7, none, yX4_join)
abbrev zd_Rounds_joinByLaws : zD := (RX4, cX4_joinByLaws, 6, none, yX4_joinByLaws)
abbrev zd_Rounds_joinByParts : zD := (RX4, cX4_joinByParts, 4, none, yX4_joinByParts)
abbrev zd_Rounds_noteRound : zD := (RX4, cX4_noteRound, 7, (some .boolean), yX4_noteRound)
abbrev zd_Rounds_settle : zD := (RX4, cX4_settle, 4, none, yX4_settle)
abbrev zd_Rows_init : zD := (RX5, cX5_init, 5, none, yX5_init)
abbrev zd_Rows_forget : zD := (RX5, cX5_forget, 1, none, yX5_forget)
abbrev zd_Rows_fillList : zD := (RX5, cX5_fillList, 4, none, yX5_fillList)
abbrev zd_Table_pairsAlike : zD := (RX6, cX6_pairsAlike, 8, (some .int), yX6_pairsAlike)
abbrev zd_Rows_seenBits : zD := (RX5, cX5_seenBits, 5, (some .int), yX5_seenBits)
abbrev zd_Rows_workedOut : zD := (RX5, cX5_workedOut, 6, (some .int), yX5_workedOut)
abbrev zd_Rows_see : zD := (RX5, cX5_see, 7, none, yX5_see)
abbrev zd_Rows_settle : zD := (RX5, cX5_settle, 4, none, yX5_settle)
abbrev zd_Rows_has : zD := (RX5, cX5_has, 2, (some .boolean), yX5_has)
abbrev zd_Rows_sizeAt : zD := (RX5, cX5_sizeAt, 2, (some .int), yX5_sizeAt)
abbrev zd_Rows_at : zD := (RX5, cX5_at, 3, (some .int), yX5_at)
abbrev zd_Rows_seeAll : zD := (RX5, cX5_seeAll, 4, none, yX5_seeAll)
abbrev zd_Integer_bitCount : zD := (RJ6, cJ6_bitCount_0f7a4, 1, (some .int), yJ6_bitCount_0f7a4)
abbrev zd_Rows_pairsOf : zD := (RX5, cX5_pairsOf, 4, (some .int), yX5_pairsOf)
abbrev zd_Rows_agree : zD := (RX5, cX5_agree, 4, (some .boolean), yX5_agree)
abbrev zd_Rows_pairsBeyond : zD := (RX5, cX5_pairsBeyond, 5, (some .int), yX5_pairsBeyond)
abbrev zd_Rows_pairBeyond : zD := (RX5, cX5_pairBeyond, 8, (some .int), yX5_pairBeyond)
abbrev zd_Rows_meet : zD := (RX5, cX5_meet, 4, (some .boolean), yX5_meet)
abbrev zd_Rows_denier : zD := (RX5, cX5_denier, 6, (some .int), yX5_denier)
abbrev zd_Rows_rare : zD := (RX5, cX5_rare, 2, (some .int), yX5_rare)
abbrev zd_Rows_within : zD := (RX5, cX5_within, 4, (some .boolean), yX5_within)
abbrev zd_Rows_serves : zD := (RX5, cX5_serves, 4, (some .int), yX5_serves)
abbrev zd_Rows_mightBeMade : zD := (RX5, cX5_mightBeMade, 4, (some .boolean), yX5_mightBeMade)
abbrev zd_Rows_isCandidate : zD := (RX5, cX5_isCandidate, 3, (some .boolean), yX5_isCandidate)
abbrev zd_Rows_isCandidateNew : zD := (RX5, cX5_isCandidateNew, 2, (some .boolean), yX5_isCandidateNew)
abbrev zd_Rows_tryNext : zD := (RX5, cX5_tryNext, 7, none, yX5_tryNext)
abbrev zd_Rows_seekNext : zD := (RX5, cX5_seekNext, 4, (some .int), yX5_seekNext)
abbrev zd_Table_init : zD := (RX6, cX6_init, 1, none, yX6_init)
abbrev zd_Terms_init : zD := (RX7, cX7_init, 2, none, yX7_init)
abbrev zd_Terms_has : zD := (RX7, cX7_has, 2, (some .boolean), yX7_has)
abbrev zd_Terms_find : zD := (RX7, cX7_find, 4, (some .int), yX7_find)
abbrev zd_Terms_add : zD := (RX7, cX7_add, 4, (some .int), yX7_add)
abbrev zd_S_init : zD := (RX8, cX8_init, 1, none, yX8_init)
abbrev zd_S_put : zD := (RX8, cX8_put, 5, (some .int), yX8_put)
abbrev zd_S_part : zD := (RX8, cX8_part, 3, (some .int), yX8_part)
abbrev zd_S_pageChanged : zD := (RX8, cX8_pageChanged, 1, none, yX8_pageChanged)
abbrev zd_S_law : zD := (RX8, cX8_law, 4, (some .int), yX8_law)
abbrev zd_S_unlaw : zD := (RX8, cX8_unlaw, 1, (some .int), yX8_unlaw)
abbrev zd_S_settle : zD := (RX8, cX8_settle, 1, none, yX8_settle)
abbrev zd_S_worlds : zD := (RX8, cX8_worlds, 3, (some .int), yX8_worlds)
abbrev zd_S_number : zD := (RX8, cX8_number, 3, (some .int), yX8_number)
abbrev zd_S_isWorld : zD := (RX8, cX8_isWorld, 2, (some .boolean), yX8_isWorld)
abbrev zd_S_firstBroken : zD := (RX8, cX8_firstBroken, 4, (some .int), yX8_firstBroken)
abbrev zd_S_keeps : zD := (RX8, cX8_keeps, 3, (some .int), yX8_keeps)
abbrev zd_S_breaks : zD := (RX8, cX8_breaks, 3, (some .int), yX8_breaks)
abbrev zd_S_plain : zD := (RX8, cX8_plain, 3, (some .int), yX8_plain)
abbrev zd_S_list : zD := (RX8, cX8_list, 2, (some .int), yX8_list)
abbrev zd_S_world : zD := (RX8, cX8_world, 3, (some .int), yX8_world)
abbrev zd_S_isMadeOf : zD := (RX8, cX8_isMadeOf, 3, (some .boolean), yX8_isMadeOf)
abbrev zd_S_make : zD := (RX8, cX8_make, 5, (some .int), yX8_make)
abbrev zd_S_yes : zD := (RX8, cX8_yes, 6, (some .int), yX8_yes)
abbrev zd_S_many : zD := (RX8, cX8_many, 2, (some .int), yX8_many)
abbrev zd_S_twin : zD := (RX8, cX8_twin, 3, (some .int), yX8_twin)
abbrev zd_S_butFor : zD := (RX8, cX8_butFor, 3, (some .int), yX8_butFor)
abbrev zd_S_look : zD := (RX8, cX8_look, 4, (some .int), yX8_look)
abbrev zd_S_never : zD := (RX8, cX8_never, 3, (some .int), yX8_never)
abbrev zd_S_deny : zD := (RX8, cX8_deny, 4, (some .int), yX8_deny)
abbrev zd_S_weigh : zD := (RX8, cX8_weigh, 4, (some .int), yX8_weigh)
abbrev zd_S_wake : zD := (RX8, cX8_wake, 4, (some .int), yX8_wake)
abbrev zd_S_worthOf : zD := (RX8, cX8_worthOf, 2, (some .int), yX8_worthOf)
abbrev zd_S_worth : zD := (RX8, cX8_worth, 3, (some .int), yX8_worth)
abbrev zd_S_best : zD := (RX8, cX8_best, 5, (some .int), yX8_best)
abbrev zd_S_next : zD := (RX8, cX8_next, 1, (some .int), yX8_next)
abbrev zd_S_makeNext : zD := (RX8, cX8_makeNext, 2, (some .int), yX8_makeNext)
abbrev zd_S_needed : zD := (RX8, cX8_needed, 2, (some .int), yX8_needed)
abbrev zd_S_least : zD := (RX8, cX8_least, 3, (some .int), yX8_least)
abbrev zd_S_even : zD := (RX8, cX8_even, 1, (some .int), yX8_even)
abbrev zd_S_isSlot : zD := (RX8, cX8_isSlot, 1, (some .boolean), yX8_isSlot)
abbrev zd_S_keep : zD := (RX8, cX8_keep, 2, (some .int), yX8_keep)
abbrev zd_S_same : zD := (RX8, cX8_same, 2, (some .int), yX8_same)
abbrev zd_S_shown : zD := (RX8, cX8_shown, 3, (some .int), yX8_shown)
abbrev zd_S_groups : zD := (RX8, cX8_groups, 1, (some .int), yX8_groups)
abbrev zd_S_first : zD := (RX8, cX8_first, 2, (some .int), yX8_first)
abbrev zd_S_count : zD := (RX8, cX8_count, 2, (some .int), yX8_count)
abbrev zd_Model_init : zD := (RX9, cX9_init, 2, none, yX9_init)
abbrev zd_Model_in : zD := (RX9, cX9_in, 6, (some .boolean), yX9_in)
abbrev zd_Model_isTerm : zD := (RX9, cX9_isTerm, 2, (some .boolean), yX9_isTerm)
abbrev zd_Model_put : zD := (RX9, cX9_put, 3, (some .int), yX9_put)
abbrev zd_Model_part : zD := (RX9, cX9_part, 3, (some .int), yX9_part)
abbrev zd_Model_law : zD := (RX9, cX9_law, 3, (some .int), yX9_law)
abbrev zd_Model_unlaw : zD := (RX9, cX9_unlaw, 1, (some .int), yX9_unlaw)
abbrev zd_Model_baseOf : zD := (RX9, cX9_baseOf, 1, (some .int), yX9_baseOf)
abbrev zd_Model_countOf : zD := (RX9, cX9_countOf, 1, (some .int), yX9_countOf)
abbrev zd_Model_sizeAt : zD := (RX9, cX9_sizeAt, 1, (some .int), yX9_sizeAt)
abbrev zd_Model_layWorld : zD := (RX9, cX9_layWorld, 4, none, yX9_layWorld)
abbrev zd_Model_want : zD := (RX9, cX9_want, 4, none, yX9_want)
abbrev zd_Model_isSame : zD := (RX9, cX9_isSame, 8, (some .boolean), yX9_isSame)
abbrev zd_Model_keepsOne : zD := (RX9, cX9_keepsOne, 4, (some .boolean), yX9_keepsOne)
abbrev zd_Model_layBroken : zD := (RX9, cX9_layBroken, 7, none, yX9_layBroken)
abbrev zd_Model_oldName : zD := (RX9, cX9_oldName, 2, (some .int), yX9_oldName)
abbrev zd_Model_renamed : zD := (RX9, cX9_renamed, 6, (some .int), yX9_renamed)
abbrev zd_Model_leastName : zD := (RX9, cX9_leastName, 4, (some .int), yX9_leastName)
abbrev zd_Model_layAll : zD := (RX9, cX9_layAll, 2, none, yX9_layAll)
abbrev zd_Model_isSize : zD := (RX9, cX9_isSize, 1, (some .boolean), yX9_isSize)
abbrev zd_Model_isWorldOf : zD := (RX9, cX9_isWorldOf, 2, (some .boolean), yX9_isWorldOf)
abbrev zd_Model_worlds : zD := (RX9, cX9_worlds, 5, (some .int), yX9_worlds)
abbrev zd_Model_number : zD := (RX9, cX9_number, 5, (some .int), yX9_number)
abbrev zd_Model_keeps : zD := (RX9, cX9_keeps, 3, (some .int), yX9_keeps)
abbrev zd_Model_breaks : zD := (RX9, cX9_breaks, 4, (some .int), yX9_breaks)
abbrev zd_Model_plain : zD := (RX9, cX9_plain, 3, (some .int), yX9_plain)
abbrev zd_Model_onList : zD := (RX9, cX9_onList, 1, (some .int), yX9_onList)
abbrev zd_Model_pairs : zD := (RX9, cX9_pairs, 4, (some .int), yX9_pairs)
abbrev zd_Model_list : zD := (RX9, cX9_list, 2, (some .int), yX9_list)
abbrev zd_Model_world : zD := (RX9, cX9_world, 4, (some .int), yX9_world)
abbrev zd_Model_isNotion : zD := (RX9, cX9_isNotion, 2, (some .boolean), yX9_isNotion)
abbrev zd_Model_set : zD := (RX9, cX9_set, 5, none, yX9_set)
abbrev zd_Model_make : zD := (RX9, cX9_make, 5, (some .int), yX9_make)
abbrev zd_Model_isSo : zD := (RX9, cX9_isSo, 9, (some .boolean), yX9_isSo)
abbrev zd_Model_layHere : zD := (RX9, cX9_layHere, 3, none, yX9_layHere)
abbrev zd_Model_layRows : zD := (RX9, cX9_layRows, 5, none, yX9_layRows)
abbrev zd_Model_yes : zD := (RX9, cX9_yes, 6, (some .int), yX9_yes)
abbrev zd_Model_manyOf : zD := (RX9, cX9_manyOf, 4, (some .int), yX9_manyOf)
abbrev zd_Model_butForOf : zD := (RX9, cX9_butForOf, 5, (some .int), yX9_butForOf)
abbrev zd_Model_agrees : zD := (RX9, cX9_agrees, 3, (some .boolean), yX9_agrees)
abbrev zd_Model_many : zD := (RX9, cX9_many, 2, (some .int), yX9_many)
abbrev zd_Model_twin : zD := (RX9, cX9_twin, 3, (some .int), yX9_twin)
abbrev zd_Model_butFor : zD := (RX9, cX9_butFor, 3, (some .int), yX9_butFor)
abbrev zd_Model_look : zD := (RX9, cX9_look, 6, (some .int), yX9_look)
abbrev zd_Model_never : zD := (RX9, cX9_never, 3, (some .int), yX9_never)
abbrev zd_Model_deny : zD := (RX9, cX9_deny, 6, (some .int), yX9_deny)
abbrev zd_Model_weigh : zD := (RX9, cX9_weigh, 4, (some .int), yX9_weigh)
abbrev zd_Model_wake : zD := (RX9, cX9_wake, 4, (some .int), yX9_wake)
abbrev zd_Model_rareOf : zD := (RX9, cX9_rareOf, 4, (some .int), yX9_rareOf)
abbrev zd_Model_servesOf : zD := (RX9, cX9_servesOf, 4, (some .int), yX9_servesOf)
abbrev zd_Model_deepOf : zD := (RX9, cX9_deepOf, 3, (some .int), yX9_deepOf)
abbrev zd_Model_worthOf : zD := (RX9, cX9_worthOf, 2, (some .int), yX9_worthOf)
abbrev zd_Model_worth : zD := (RX9, cX9_worth, 3, (some .int), yX9_worth)
abbrev zd_Model_best : zD := (RX9, cX9_best, 3, (some .int), yX9_best)
abbrev zd_Model_layTried : zD := (RX9, cX9_layTried, 6, none, yX9_layTried)
abbrev zd_Model_nextCode : zD := (RX9, cX9_nextCode, 10, (some .int), yX9_nextCode)
abbrev zd_Model_next : zD := (RX9, cX9_next, 1, (some .int), yX9_next)
abbrev zd_Model_makeNext : zD := (RX9, cX9_makeNext, 2, (some .int), yX9_makeNext)
abbrev zd_Model_isNeeded : zD := (RX9, cX9_isNeeded, 4, (some .boolean), yX9_isNeeded)
abbrev zd_Model_needed : zD := (RX9, cX9_needed, 2, (some .int), yX9_needed)
abbrev zd_Model_least : zD := (RX9, cX9_least, 3, (some .int), yX9_least)
abbrev zd_Model_turned : zD := (RX9, cX9_turned, 4, (some .int), yX9_turned)
abbrev zd_Model_even : zD := (RX9, cX9_even, 2, (some .int), yX9_even)
abbrev zd_Model_keep : zD := (RX9, cX9_keep, 3, (some .int), yX9_keep)
abbrev zd_Model_same : zD := (RX9, cX9_same, 5, (some .int), yX9_same)
abbrev zd_Model_layImage : zD := (RX9, cX9_layImage, 7, none, yX9_layImage)
abbrev zd_Model_layLaws : zD := (RX9, cX9_layLaws, 8, none, yX9_layLaws)
abbrev zd_Model_layParts : zD := (RX9, cX9_layParts, 4, none, yX9_layParts)
abbrev zd_Model_joinAll : zD := (RX9, cX9_joinAll, 8, none, yX9_joinAll)
abbrev zd_Model_layShown : zD := (RX9, cX9_layShown, 4, none, yX9_layShown)
abbrev zd_Model_shown : zD := (RX9, cX9_shown, 3, (some .int), yX9_shown)
abbrev zd_Model_groups : zD := (RX9, cX9_groups, 3, (some .int), yX9_groups)
abbrev zd_Model_first : zD := (RX9, cX9_first, 2, (some .int), yX9_first)
abbrev zd_Model_count : zD := (RX9, cX9_count, 4, (some .int), yX9_count)
abbrev zd_Math_max : zD := (RJ9, cJ9_max_7cf53, 2, (some .int), yJ9_max_7cf53)
abbrev zd_Math_min : zD := (RJ9, cJ9_min_7cf53, 2, (some .int), yJ9_min_7cf53)
set_option maxRecDepth 40000 in
theorem zk_code_Bits_whole : Cond.code yX0_whole cX0_whole 1 (some .int) ∈ zAll := zAll_of 501 rfl rfl
theorem zk_st_Bits_whole : Cond.static yX0_whole ∈ zAll := zAll_of 500 (by decide +kernel) (by decide +kernel)
set_option maxRecDepth 40000 in
theorem zk_code_Bits_turnedAbout : Cond.code yX0_turnedAbout cX0_turnedAbout 5 (some .int) ∈ zAll := zAll_of 504 rfl rfl
theorem zk_st_Bits_turnedAbout : Cond.static yX0_turnedAbout ∈ zAll := zAll_of 503 (by decide +kernel) (by decide +kernel)
set_option maxRecDepth 40000 in
theorem zk_code_Bits_byLines : Cond.code yX0_byLines cX0_byLines 8 (some .int) ∈ zAll := zAll_of 507 rfl rfl
theorem zk_st_Bits_byLines : Cond.static yX0_byLines ∈ zAll := zAll_of 506 (by decide +kernel) (by decide +kernel)
set_option maxRecDepth 40000 in
theorem zk_code_Bits_made : Cond.code yX0_made cX0_made 4 (some .int) ∈ zAll := zAll_of 498 rfl rfl
theorem zk_st_Bits_made : Cond.static yX0_made ∈ zAll := zAll_of 497 (by decide +kernel) (by decide +kernel)
set_option maxRecDepth 40000 in
theorem zk_code_Catalog_slotBit : Cond.code yX1_slotBit cX1_slotBit 1 (some .int) ∈ zAll := zAll_of 166 rfl rfl
theorem zk_st_Catalog_slotBit : Cond.static yX1_slotBit ∈ zAll := zAll_of 165 (by decide +kernel) (by decide +kernel)
set_option maxRecDepth 40000 in
theorem zk_code_Arrays_fill : Cond.code yJ7_fill_53178 cJ7_fill_53178 4 none ∈ zAll := zAll_of 169 rfl rfl
theorem zk_st_Arrays_fill : Cond.static yJ7_fill_53178 ∈ zAll := zAll_of 168 (by decide +kernel) (by decide +kernel)
set_option maxRecDepth 40000 in
theorem zk_code_Catalog_sizeOf : Cond.code yX1_sizeOf cX1_sizeOf 2 (some .int) ∈ zAll := zAll_of 443 rfl rfl
theorem zk_im_Catalog_sizeOf : Cond.instanceMethod yX1_sizeOf ∈ zAll := zAll_of 441 (by decide +kernel) (by decide +kernel)
theorem zk_sel_Catalog_sizeOf : Cond.selects RX1 yX1_sizeOf yX1_sizeOf ∈ zAll := zAll_of 442 (by decide +kernel) (by decide +kernel)
set_option maxRecDepth 40000 in
theorem zk_code_S_isSize : Cond.code yX8_isSize cX8_isSize 1 (some .boolean) ∈ zAll := zAll_of 398 rfl rfl
theorem zk_st_S_isSize : Cond.static yX8_isSize ∈ zAll := zAll_of 397 (by decide +kernel) (by decide +kernel)
set_option maxRecDepth 40000 in
theorem zk_code_Table_load : Cond.code yX6_load cX6_load 5 none ∈ zAll := zAll_of 414 rfl rfl
theorem zk_im_Table_load : Cond.instanceMethod yX6_load ∈ zAll := zAll_of 412 (by decide +kernel) (by decide +kernel)
theorem zk_sel_Table_load : Cond.selects RX6 yX6_load yX6_load ∈ zAll := zAll_of 413 (by decide +kernel) (by decide +kernel)
set_option maxRecDepth 40000 in
theorem zk_code_Table_renamedCell : Cond.code yX6_renamedCell cX6_renamedCell 5 (some .int) ∈ zAll := zAll_of 431 rfl rfl
theorem zk_im_Table_renamedCell : Cond.instanceMethod yX6_renamedCell ∈ zAll := zAll_of 430 (by decide +kernel) (by decide +kernel)
theorem zk_sel_Table_renamedCell : Cond.selects RX6 yX6_renamedCell yX6_renamedCell ∈ zAll := zAll_of 4 (by decide +kernel) (by decide +kernel)
set_option maxRecDepth 40000 in
theorem zk_code_Table_compareRenamed : Cond.code yX6_compareRenamed cX6_compareRenamed 5 (some .int) ∈ zAll := zAll_of 427 rfl rfl
theorem zk_im_Table_compareRenamed : Cond.instanceMethod yX6_compareRenamed ∈ zAll := zAll_of 426 (by decide +kernel) (by decide +kernel)
theorem zk_sel_Table_compareRenamed : Cond.selects RX6 yX6_compareRenamed yX6_compareRenamed ∈ zAll := zAll_of 3 (by decide +kernel) (by decide +kernel)
set_option maxRecDepth 40000 in
theorem zk_code_Table_likesIfLeast : Cond.code yX6_likesIfLeast cX6_likesIfLeast 4 (some .int) ∈ zAll := zAll_of 421 rfl rfl
theorem zk_im_Table_likesIfLeast : Cond.instanceMethod yX6_likesIfLeast ∈ zAll := zAll_of 419 (by decide +kernel) (by decide +kernel)
theorem zk_sel_Table_likesIfLeast : Cond.selects RX6 yX6_likesIfLeast yX6_likesIfLeast ∈ zAll := zAll_of 420 (by decide +kernel) (by decide +kernel)
set_option maxRecDepth 40000 in
theorem zk_code_Table_advance : Cond.code yX6_advance cX6_advance 2 none ∈ zAll := zAll_of 439 rfl rfl
theorem zk_im_Table_advance : Cond.instanceMethod yX6_advance ∈ zAll := zAll_of 437 (by decide +kernel) (by decide +kernel)
theorem zk_sel_Table_advance : Cond.selects RX6 yX6_advance yX6_advance ∈ zAll := zAll_of 438 (by decide +kernel) (by decide +kernel)
set_option maxRecDepth 40000 in
theorem zk_code_Catalog_fill : Cond.code yX1_fill cX1_fill 5 none ∈ zAll := zAll_of 410 rfl rfl
theorem zk_im_Catalog_fill : Cond.instanceMethod yX1_fill ∈ zAll := zAll_of 409 (by decide +kernel) (by decide +kernel)
theorem zk_sel_Catalog_fill : Cond.selects RX1 yX1_fill yX1_fill ∈ zAll := zAll_of 2 (by decide +kernel) (by decide +kernel)
set_option maxRecDepth 40000 in
theorem zk_code_Catalog_forgetLaws : Cond.code yX1_forgetLaws cX1_forgetLaws 2 none ∈ zAll := zAll_of 380 rfl rfl
theorem zk_im_Catalog_forgetLaws : Cond.instanceMethod yX1_forgetLaws ∈ zAll := zAll_of 378 (by decide +kernel) (by decide +kernel)
theorem zk_sel_Catalog_forgetLaws : Cond.selects RX1 yX1_forgetLaws yX1_forgetLaws ∈ zAll := zAll_of 379 (by decide +kernel) (by decide +kernel)
set_option maxRecDepth 40000 in
theorem zk_code_Table_thingsFor : Cond.code yX6_thingsFor cX6_thingsFor 3 (some .int) ∈ zAll := zAll_of 457 rfl rfl
theorem zk_im_Table_thingsFor : Cond.instanceMethod yX6_thingsFor ∈ zAll := zAll_of 456 (by decide +kernel) (by decide +kernel)
theorem zk_sel_Table_thingsFor : Cond.selects RX6 yX6_thingsFor yX6_thingsFor ∈ zAll := zAll_of 6 (by decide +kernel) (by decide +kernel)
set_option maxRecDepth 40000 in
theorem zk_code_Table_alikeForZ : Cond.code yX6_alikeForZ cX6_alikeForZ 10 (some .boolean) ∈ zAll := zAll_of 461 rfl rfl
theorem zk_im_Table_alikeForZ : Cond.instanceMethod yX6_alikeForZ ∈ zAll := zAll_of 460 (by decide +kernel) (by decide +kernel)
theorem zk_sel_Table_alikeForZ : Cond.selects RX6 yX6_alikeForZ yX6_alikeForZ ∈ zAll := zAll_of 7 (by decide +kernel) (by decide +kernel)
set_option maxRecDepth 40000 in
theorem zk_code_Table_keepsLaw : Cond.code yX6_keepsLaw cX6_keepsLaw 10 (some .boolean) ∈ zAll := zAll_of 453 rfl rfl
theorem zk_im_Table_keepsLaw : Cond.instanceMethod yX6_keepsLaw ∈ zAll := zAll_of 451 (by decide +kernel) (by decide +kernel)
theorem zk_sel_Table_keepsLaw : Cond.selects RX6 yX6_keepsLaw yX6_keepsLaw ∈ zAll := zAll_of 452 (by decide +kernel) (by decide +kernel)
set_option maxRecDepth 40000 in
theorem zk_code_Catalog_tryLaws : Cond.code yX1_tryLaws cX1_tryLaws 5 none ∈ zAll := zAll_of 449 rfl rfl
theorem zk_im_Catalog_tryLaws : Cond.instanceMethod yX1_tryLaws ∈ zAll := zAll_of 448 (by decide +kernel) (by decide +kernel)
theorem zk_sel_Catalog_tryLaws : Cond.selects RX1 yX1_tryLaws yX1_tryLaws ∈ zAll := zAll_of 5 (by decide +kernel) (by decide +kernel)
set_option maxRecDepth 40000 in
theorem zk_code_Catalog_settle : Cond.code yX1_settle cX1_settle 4 none ∈ zAll := zAll_of 406 rfl rfl
theorem zk_im_Catalog_settle : Cond.instanceMethod yX1_settle ∈ zAll := zAll_of 404 (by decide +kernel) (by decide +kernel)
theorem zk_sel_Catalog_settle : Cond.selects RX1 yX1_settle yX1_settle ∈ zAll := zAll_of 405 (by decide +kernel) (by decide +kernel)
set_option maxRecDepth 40000 in
theorem zk_code_Catalog_keepsAll : Cond.code yX1_keepsAll cX1_keepsAll 3 (some .boolean) ∈ zAll := zAll_of 477 rfl rfl
theorem zk_im_Catalog_keepsAll : Cond.instanceMethod yX1_keepsAll ∈ zAll := zAll_of 475 (by decide +kernel) (by decide +kernel)
theorem zk_sel_Catalog_keepsAll : Cond.selects RX1 yX1_keepsAll yX1_keepsAll ∈ zAll := zAll_of 476 (by decide +kernel) (by decide +kernel)
set_option maxRecDepth 40000 in
theorem zk_code_Catalog_howMany : Cond.code yX1_howMany cX1_howMany 6 (some .int) ∈ zAll := zAll_of 511 rfl rfl
theorem zk_im_Catalog_howMany : Cond.instanceMethod yX1_howMany ∈ zAll := zAll_of 509 (by decide +kernel) (by decide +kernel)
theorem zk_sel_Catalog_howMany : Cond.selects RX1 yX1_howMany yX1_howMany ∈ zAll := zAll_of 510 (by decide +kernel) (by decide +kernel)
set_option maxRecDepth 40000 in
theorem zk_code_Catalog_numberOf : Cond.code yX1_numberOf cX1_numberOf 6 (some .int) ∈ zAll := zAll_of 520 rfl rfl
theorem zk_im_Catalog_numberOf : Cond.instanceMethod yX1_numberOf ∈ zAll := zAll_of 518 (by decide +kernel) (by decide +kernel)
theorem zk_sel_Catalog_numberOf : Cond.selects RX1 yX1_numberOf yX1_numberOf ∈ zAll := zAll_of 519 (by decide +kernel) (by decide +kernel)
set_option maxRecDepth 40000 in
theorem zk_code_Catalog_isNeeded : Cond.code yX1_isNeeded cX1_isNeeded 5 (some .boolean) ∈ zAll := zAll_of 727 rfl rfl
theorem zk_im_Catalog_isNeeded : Cond.instanceMethod yX1_isNeeded ∈ zAll := zAll_of 725 (by decide +kernel) (by decide +kernel)
theorem zk_sel_Catalog_isNeeded : Cond.selects RX1 yX1_isNeeded yX1_isNeeded ∈ zAll := zAll_of 726 (by decide +kernel) (by decide +kernel)
set_option maxRecDepth 40000 in
theorem zk_code_Table_turnAbout : Cond.code yX6_turnAbout cX6_turnAbout 4 none ∈ zAll := zAll_of 747 rfl rfl
theorem zk_im_Table_turnAbout : Cond.instanceMethod yX6_turnAbout ∈ zAll := zAll_of 745 (by decide +kernel) (by decide +kernel)
theorem zk_sel_Table_turnAbout : Cond.selects RX6 yX6_turnAbout yX6_turnAbout ∈ zAll := zAll_of 746 (by decide +kernel) (by decide +kernel)
set_option maxRecDepth 40000 in
theorem zk_code_Table_renamedNumber : Cond.code yX6_renamedNumber cX6_renamedNumber 5 (some .int) ∈ zAll := zAll_of 550 rfl rfl
theorem zk_im_Table_renamedNumber : Cond.instanceMethod yX6_renamedNumber ∈ zAll := zAll_of 549 (by decide +kernel) (by decide +kernel)
theorem zk_sel_Table_renamedNumber : Cond.selects RX6 yX6_renamedNumber yX6_renamedNumber ∈ zAll := zAll_of 13 (by decide +kernel) (by decide +kernel)
set_option maxRecDepth 40000 in
theorem zk_code_Table_leastNumber : Cond.code yX6_leastNumber cX6_leastNumber 3 (some .int) ∈ zAll := zAll_of 546 rfl rfl
theorem zk_im_Table_leastNumber : Cond.instanceMethod yX6_leastNumber ∈ zAll := zAll_of 544 (by decide +kernel) (by decide +kernel)
theorem zk_sel_Table_leastNumber : Cond.selects RX6 yX6_leastNumber yX6_leastNumber ∈ zAll := zAll_of 545 (by decide +kernel) (by decide +kernel)
set_option maxRecDepth 40000 in
theorem zk_code_Catalog_entryOf : Cond.code yX1_entryOf cX1_entryOf 7 (some .int) ∈ zAll := zAll_of 752 rfl rfl
theorem zk_im_Catalog_entryOf : Cond.instanceMethod yX1_entryOf ∈ zAll := zAll_of 751 (by decide +kernel) (by decide +kernel)
theorem zk_sel_Catalog_entryOf : Cond.selects RX1 yX1_entryOf yX1_entryOf ∈ zAll := zAll_of 24 (by decide +kernel) (by decide +kernel)
set_option maxRecDepth 40000 in
theorem zk_code_Catalog_learnTurns : Cond.code yX1_learnTurns cX1_learnTurns 3 none ∈ zAll := zAll_of 743 rfl rfl
theorem zk_im_Catalog_learnTurns : Cond.instanceMethod yX1_learnTurns ∈ zAll := zAll_of 742 (by decide +kernel) (by decide +kernel)
theorem zk_sel_Catalog_learnTurns : Cond.selects RX1 yX1_learnTurns yX1_learnTurns ∈ zAll := zAll_of 23 (by decide +kernel) (by decide +kernel)
set_option maxRecDepth 40000 in
theorem zk_code_Catalog_isEven : Cond.code yX1_isEven cX1_isEven 3 (some .boolean) ∈ zAll := zAll_of 739 rfl rfl
theorem zk_im_Catalog_isEven : Cond.instanceMethod yX1_isEven ∈ zAll := zAll_of 737 (by decide +kernel) (by decide +kernel)
theorem zk_sel_Catalog_isEven : Cond.selects RX1 yX1_isEven yX1_isEven ∈ zAll := zAll_of 738 (by decide +kernel) (by decide +kernel)
set_option maxRecDepth 40000 in
theorem zk_code_Catalog_keepPage : Cond.code yX1_keepPage cX1_keepPage 4 none ∈ zAll := zAll_of 763 rfl rfl
theorem zk_im_Catalog_keepPage : Cond.instanceMethod yX1_keepPage ∈ zAll := zAll_of 761 (by decide +kernel) (by decide +kernel)
theorem zk_sel_Catalog_keepPage : Cond.selects RX1 yX1_keepPage yX1_keepPage ∈ zAll := zAll_of 762 (by decide +kernel) (by decide +kernel)
set_option maxRecDepth 40000 in
theorem zk_code_Catalog_isPageOf : Cond.code yX1_isPageOf cX1_isPageOf 6 (some .boolean) ∈ zAll := zAll_of 771 rfl rfl
theorem zk_im_Catalog_isPageOf : Cond.instanceMethod yX1_isPageOf ∈ zAll := zAll_of 769 (by decide +kernel) (by decide +kernel)
theorem zk_sel_Catalog_isPageOf : Cond.selects RX1 yX1_isPageOf yX1_isPageOf ∈ zAll := zAll_of 770 (by decide +kernel) (by decide +kernel)
set_option maxRecDepth 40000 in
theorem zk_code_Notions_has : Cond.code yX2_has cX2_has 2 (some .boolean) ∈ zAll := zAll_of 579 rfl rfl
theorem zk_im_Notions_has : Cond.instanceMethod yX2_has ∈ zAll := zAll_of 577 (by decide +kernel) (by decide +kernel)
theorem zk_sel_Notions_has : Cond.selects RX2 yX2_has yX2_has ∈ zAll := zAll_of 578 (by decide +kernel) (by decide +kernel)
set_option maxRecDepth 40000 in
theorem zk_code_Notions_addPart : Cond.code yX2_addPart cX2_addPart 3 none ∈ zAll := zAll_of 587 rfl rfl
theorem zk_im_Notions_addPart : Cond.instanceMethod yX2_addPart ∈ zAll := zAll_of 586 (by decide +kernel) (by decide +kernel)
theorem zk_sel_Notions_addPart : Cond.selects RX2 yX2_addPart yX2_addPart ∈ zAll := zAll_of 15 (by decide +kernel) (by decide +kernel)
set_option maxRecDepth 40000 in
theorem zk_code_Notions_add : Cond.code yX2_add cX2_add 5 (some .int) ∈ zAll := zAll_of 583 rfl rfl
theorem zk_im_Notions_add : Cond.instanceMethod yX2_add ∈ zAll := zAll_of 581 (by decide +kernel) (by decide +kernel)
theorem zk_sel_Notions_add : Cond.selects RX2 yX2_add yX2_add ∈ zAll := zAll_of 582 (by decide +kernel) (by decide +kernel)
set_option maxRecDepth 40000 in
theorem zk_code_Notions_howManyAwake : Cond.code yX2_howManyAwake cX2_howManyAwake 3 (some .int) ∈ zAll := zAll_of 839 rfl rfl
theorem zk_im_Notions_howManyAwake : Cond.instanceMethod yX2_howManyAwake ∈ zAll := zAll_of 837 (by decide +kernel) (by decide +kernel)
theorem zk_sel_Notions_howManyAwake : Cond.selects RX2 yX2_howManyAwake yX2_howManyAwake ∈ zAll := zAll_of 838 (by decide +kernel) (by decide +kernel)
set_option maxRecDepth 40000 in
theorem zk_code_Page_add : Cond.code yX3_add cX3_add 3 (some .int) ∈ zAll := zAll_of 372 rfl rfl
theorem zk_im_Page_add : Cond.instanceMethod yX3_add ∈ zAll := zAll_of 370 (by decide +kernel) (by decide +kernel)
theorem zk_sel_Page_add : Cond.selects RX3 yX3_add yX3_add ∈ zAll := zAll_of 371 (by decide +kernel) (by decide +kernel)
set_option maxRecDepth 40000 in
theorem zk_code_Page_all : Cond.code yX3_all cX3_all 1 (some .int) ∈ zAll := zAll_of 465 rfl rfl
theorem zk_im_Page_all : Cond.instanceMethod yX3_all ∈ zAll := zAll_of 463 (by decide +kernel) (by decide +kernel)
theorem zk_sel_Page_all : Cond.selects RX3 yX3_all yX3_all ∈ zAll := zAll_of 464 (by decide +kernel) (by decide +kernel)
set_option maxRecDepth 40000 in
theorem zk_code_Rounds_forget : Cond.code yX4_forget cX4_forget 1 none ∈ zAll := zAll_of 360 rfl rfl
theorem zk_im_Rounds_forget : Cond.instanceMethod yX4_forget ∈ zAll := zAll_of 358 (by decide +kernel) (by decide +kernel)
theorem zk_sel_Rounds_forget : Cond.selects RX4 yX4_forget yX4_forget ∈ zAll := zAll_of 359 (by decide +kernel) (by decide +kernel)
set_option maxRecDepth 40000 in
theorem zk_code_Rounds_roundOf : Cond.code yX4_roundOf cX4_roundOf 3 (some .int) ∈ zAll := zAll_of 819 rfl rfl
theorem zk_im_Rounds_roundOf : Cond.instanceMethod yX4_roundOf ∈ zAll := zAll_of 817 (by decide +kernel) (by decide +kernel)
theorem zk_sel_Rounds_roundOf : Cond.selects RX4 yX4_roundOf yX4_roundOf ∈ zAll := zAll_of 818 (by decide +kernel) (by decide +kernel)
set_option maxRecDepth 40000 in
theorem zk_code_Rounds_howManyGroups : Cond.code yX4_howManyGroups cX4_howManyGroups 4 (some .int) ∈ zAll := zAll_of 827 rfl rfl
theorem zk_im_Rounds_howManyGroups : Cond.instanceMethod yX4_howManyGroups ∈ zAll := zAll_of 825 (by decide +kernel) (by decide +kernel)
theorem zk_sel_Rounds_howManyGroups : Cond.selects RX4 yX4_howManyGroups yX4_howManyGroups ∈ zAll := zAll_of 826 (by decide +kernel) (by decide +kernel)
set_option maxRecDepth 40000 in
theorem zk_code_Rounds_begin : Cond.code yX4_begin cX4_begin 3 none ∈ zAll := zAll_of 783 rfl rfl
theorem zk_im_Rounds_begin : Cond.instanceMethod yX4_begin ∈ zAll := zAll_of 782 (by decide +kernel) (by decide +kernel)
theorem zk_sel_Rounds_begin : Cond.selects RX4 yX4_begin yX4_begin ∈ zAll := zAll_of 25 (by decide +kernel) (by decide +kernel)
set_option maxRecDepth 40000 in
theorem zk_code_Rounds_becomes : Cond.code yX4_becomes cX4_becomes 3 (some .boolean) ∈ zAll := zAll_of 799 rfl rfl
theorem zk_im_Rounds_becomes : Cond.instanceMethod yX4_becomes ∈ zAll := zAll_of 798 (by decide +kernel) (by decide +kernel)
theorem zk_sel_Rounds_becomes : Cond.selects RX4 yX4_becomes yX4_becomes ∈ zAll := zAll_of 28 (by decide +kernel) (by decide +kernel)
set_option maxRecDepth 40000 in
theorem zk_code_Rounds_isMadeByLaw : Cond.code yX4_isMadeByLaw cX4_isMadeByLaw 8 (some .boolean) ∈ zAll := zAll_of 795 rfl rfl
theorem zk_im_Rounds_isMadeByLaw : Cond.instanceMethod yX4_isMadeByLaw ∈ zAll := zAll_of 794 (by decide +kernel) (by decide +kernel)
theorem zk_sel_Rounds_isMadeByLaw : Cond.selects RX4 yX4_isMadeByLaw yX4_isMadeByLaw ∈ zAll := zAll_of 27 (by decide +kernel) (by decide +kernel)
set_option maxRecDepth 40000 in
theorem zk_code_Rounds_join : Cond.code yX4_join cX4_join 7 none ∈ zAll := zAll_of 806 rfl rfl
theorem zk_im_Rounds_join : Cond.instanceMethod yX4_join ∈ zAll := zAll_of 805 (by decide +kernel) (by decide +kernel)
theorem zk_sel_Rounds_join : Cond.selects RX4 yX4_join yX4_join ∈ zAll := zAll_of 29 (by decide +kernel) (by decide +kernel)
set_option maxRecDepth 40000 in
theorem zk_code_Rounds_joinByLaws : Cond.code yX4_joinByLaws cX4_joinByLaws 6 none ∈ zAll := zAll_of 791 rfl rfl
theorem zk_im_Rounds_joinByLaws : Cond.instanceMethod yX4_joinByLaws ∈ zAll := zAll_of 790 (by decide +kernel) (by decide +kernel)
theorem zk_sel_Rounds_joinByLaws : Cond.selects RX4 yX4_joinByLaws yX4_joinByLaws ∈ zAll := zAll_of 26 (by decide +kernel) (by decide +kernel)
set_option maxRecDepth 40000 in
theorem zk_code_Rounds_joinByParts : Cond.code yX4_joinByParts cX4_joinByParts 4 none ∈ zAll := zAll_of 811 rfl rfl
theorem zk_im_Rounds_joinByParts : Cond.instanceMethod yX4_joinByParts ∈ zAll := zAll_of 810 (by decide +kernel) (by decide +kernel)
theorem zk_sel_Rounds_joinByParts : Cond.selects RX4 yX4_joinByParts yX4_joinByParts ∈ zAll := zAll_of 30 (by decide +kernel) (by decide +kernel)
set_option maxRecDepth 40000 in
theorem zk_code_Rounds_noteRound : Cond.code yX4_noteRound cX4_noteRound 7 (some .boolean) ∈ zAll := zAll_of 815 rfl rfl
theorem zk_im_Rounds_noteRound : Cond.instanceMethod yX4_noteRound ∈ zAll := zAll_of 814 (by decide +kernel) (by decide +kernel)
theorem zk_sel_Rounds_noteRound : Cond.selects RX4 yX4_noteRound yX4_noteRound ∈ zAll := zAll_of 31 (by decide +kernel) (by decide +kernel)
set_option maxRecDepth 40000 in
theorem zk_code_Rounds_settle : Cond.code yX4_settle cX4_settle 4 none ∈ zAll := zAll_of 779 rfl rfl
theorem zk_im_Rounds_settle : Cond.instanceMethod yX4_settle ∈ zAll := zAll_of 777 (by decide +kernel) (by decide +kernel)
theorem zk_sel_Rounds_settle : Cond.selects RX4 yX4_settle yX4_settle ∈ zAll := zAll_of 778 (by decide +kernel) (by decide +kernel)
set_option maxRecDepth 40000 in
theorem zk_code_Rows_forget : Cond.code yX5_forget cX5_forget 1 none ∈ zAll := zAll_of 387 rfl rfl
theorem zk_im_Rows_forget : Cond.instanceMethod yX5_forget ∈ zAll := zAll_of 385 (by decide +kernel) (by decide +kernel)
theorem zk_sel_Rows_forget : Cond.selects RX5 yX5_forget yX5_forget ∈ zAll := zAll_of 386 (by decide +kernel) (by decide +kernel)
set_option maxRecDepth 40000 in
theorem zk_code_Rows_fillList : Cond.code yX5_fillList cX5_fillList 4 none ∈ zAll := zAll_of 473 rfl rfl
theorem zk_im_Rows_fillList : Cond.instanceMethod yX5_fillList ∈ zAll := zAll_of 472 (by decide +kernel) (by decide +kernel)
theorem zk_sel_Rows_fillList : Cond.selects RX5 yX5_fillList yX5_fillList ∈ zAll := zAll_of 8 (by decide +kernel) (by decide +kernel)
set_option maxRecDepth 40000 in
theorem zk_code_Table_pairsAlike : Cond.code yX6_pairsAlike cX6_pairsAlike 8 (some .int) ∈ zAll := zAll_of 491 rfl rfl
theorem zk_im_Table_pairsAlike : Cond.instanceMethod yX6_pairsAlike ∈ zAll := zAll_of 489 (by decide +kernel) (by decide +kernel)
theorem zk_sel_Table_pairsAlike : Cond.selects RX6 yX6_pairsAlike yX6_pairsAlike ∈ zAll := zAll_of 490 (by decide +kernel) (by decide +kernel)
set_option maxRecDepth 40000 in
theorem zk_code_Rows_seenBits : Cond.code yX5_seenBits cX5_seenBits 5 (some .int) ∈ zAll := zAll_of 495 rfl rfl
theorem zk_im_Rows_seenBits : Cond.instanceMethod yX5_seenBits ∈ zAll := zAll_of 494 (by decide +kernel) (by decide +kernel)
theorem zk_sel_Rows_seenBits : Cond.selects RX5 yX5_seenBits yX5_seenBits ∈ zAll := zAll_of 11 (by decide +kernel) (by decide +kernel)
set_option maxRecDepth 40000 in
theorem zk_code_Rows_workedOut : Cond.code yX5_workedOut cX5_workedOut 6 (some .int) ∈ zAll := zAll_of 486 rfl rfl
theorem zk_im_Rows_workedOut : Cond.instanceMethod yX5_workedOut ∈ zAll := zAll_of 485 (by decide +kernel) (by decide +kernel)
theorem zk_sel_Rows_workedOut : Cond.selects RX5 yX5_workedOut yX5_workedOut ∈ zAll := zAll_of 10 (by decide +kernel) (by decide +kernel)
set_option maxRecDepth 40000 in
theorem zk_code_Rows_see : Cond.code yX5_see cX5_see 7 none ∈ zAll := zAll_of 482 rfl rfl
theorem zk_im_Rows_see : Cond.instanceMethod yX5_see ∈ zAll := zAll_of 481 (by decide +kernel) (by decide +kernel)
theorem zk_sel_Rows_see : Cond.selects RX5 yX5_see yX5_see ∈ zAll := zAll_of 9 (by decide +kernel) (by decide +kernel)
set_option maxRecDepth 40000 in
theorem zk_code_Rows_settle : Cond.code yX5_settle cX5_settle 4 none ∈ zAll := zAll_of 469 rfl rfl
theorem zk_im_Rows_settle : Cond.instanceMethod yX5_settle ∈ zAll := zAll_of 467 (by decide +kernel) (by decide +kernel)
theorem zk_sel_Rows_settle : Cond.selects RX5 yX5_settle yX5_settle ∈ zAll := zAll_of 468 (by decide +kernel) (by decide +kernel)
set_option maxRecDepth 40000 in
theorem zk_code_Rows_has : Cond.code yX5_has cX5_has 2 (some .boolean) ∈ zAll := zAll_of 563 rfl rfl
theorem zk_im_Rows_has : Cond.instanceMethod yX5_has ∈ zAll := zAll_of 561 (by decide +kernel) (by decide +kernel)
theorem zk_sel_Rows_has : Cond.selects RX5 yX5_has yX5_has ∈ zAll := zAll_of 562 (by decide +kernel) (by decide +kernel)
set_option maxRecDepth 40000 in
theorem zk_code_Rows_sizeAt : Cond.code yX5_sizeAt cX5_sizeAt 2 (some .int) ∈ zAll := zAll_of 567 rfl rfl
theorem zk_im_Rows_sizeAt : Cond.instanceMethod yX5_sizeAt ∈ zAll := zAll_of 565 (by decide +kernel) (by decide +kernel)
theorem zk_sel_Rows_sizeAt : Cond.selects RX5 yX5_sizeAt yX5_sizeAt ∈ zAll := zAll_of 566 (by decide +kernel) (by decide +kernel)
set_option maxRecDepth 40000 in
theorem zk_code_Rows_at : Cond.code yX5_at cX5_at 3 (some .int) ∈ zAll := zAll_of 595 rfl rfl
theorem zk_im_Rows_at : Cond.instanceMethod yX5_at ∈ zAll := zAll_of 593 (by decide +kernel) (by decide +kernel)
theorem zk_sel_Rows_at : Cond.selects RX5 yX5_at yX5_at ∈ zAll := zAll_of 594 (by decide +kernel) (by decide +kernel)
set_option maxRecDepth 40000 in
theorem zk_code_Rows_seeAll : Cond.code yX5_seeAll cX5_seeAll 4 none ∈ zAll := zAll_of 654 rfl rfl
theorem zk_im_Rows_seeAll : Cond.instanceMethod yX5_seeAll ∈ zAll := zAll_of 653 (by decide +kernel) (by decide +kernel)
theorem zk_sel_Rows_seeAll : Cond.selects RX5 yX5_seeAll yX5_seeAll ∈ zAll := zAll_of 16 (by decide +kernel) (by decide +kernel)
set_option maxRecDepth 40000 in
theorem zk_code_Integer_bitCount : Cond.code yJ6_bitCount_0f7a4 cJ6_bitCount_0f7a4 1 (some .int) ∈ zAll := zAll_of 607 rfl rfl
theorem zk_st_Integer_bitCount : Cond.static yJ6_bitCount_0f7a4 ∈ zAll := zAll_of 606 (by decide +kernel) (by decide +kernel)
set_option maxRecDepth 40000 in
theorem zk_code_Rows_pairsOf : Cond.code yX5_pairsOf cX5_pairsOf 4 (some .int) ∈ zAll := zAll_of 603 rfl rfl
theorem zk_im_Rows_pairsOf : Cond.instanceMethod yX5_pairsOf ∈ zAll := zAll_of 601 (by decide +kernel) (by decide +kernel)
theorem zk_sel_Rows_pairsOf : Cond.selects RX5 yX5_pairsOf yX5_pairsOf ∈ zAll := zAll_of 602 (by decide +kernel) (by decide +kernel)
set_option maxRecDepth 40000 in
theorem zk_code_Rows_agree : Cond.code yX5_agree cX5_agree 4 (some .boolean) ∈ zAll := zAll_of 618 rfl rfl
theorem zk_im_Rows_agree : Cond.instanceMethod yX5_agree ∈ zAll := zAll_of 616 (by decide +kernel) (by decide +kernel)
theorem zk_sel_Rows_agree : Cond.selects RX5 yX5_agree yX5_agree ∈ zAll := zAll_of 617 (by decide +kernel) (by decide +kernel)
set_option maxRecDepth 40000 in
theorem zk_code_Rows_pairsBeyond : Cond.code yX5_pairsBeyond cX5_pairsBeyond 5 (some .int) ∈ zAll := zAll_of 626 rfl rfl
theorem zk_im_Rows_pairsBeyond : Cond.instanceMethod yX5_pairsBeyond ∈ zAll := zAll_of 624 (by decide +kernel) (by decide +kernel)
theorem zk_sel_Rows_pairsBeyond : Cond.selects RX5 yX5_pairsBeyond yX5_pairsBeyond ∈ zAll := zAll_of 625 (by decide +kernel) (by decide +kernel)
set_option maxRecDepth 40000 in
theorem zk_code_Rows_pairBeyond : Cond.code yX5_pairBeyond cX5_pairBeyond 8 (some .int) ∈ zAll := zAll_of 634 rfl rfl
theorem zk_im_Rows_pairBeyond : Cond.instanceMethod yX5_pairBeyond ∈ zAll := zAll_of 632 (by decide +kernel) (by decide +kernel)
theorem zk_sel_Rows_pairBeyond : Cond.selects RX5 yX5_pairBeyond yX5_pairBeyond ∈ zAll := zAll_of 633 (by decide +kernel) (by decide +kernel)
set_option maxRecDepth 40000 in
theorem zk_code_Rows_meet : Cond.code yX5_meet cX5_meet 4 (some .boolean) ∈ zAll := zAll_of 642 rfl rfl
theorem zk_im_Rows_meet : Cond.instanceMethod yX5_meet ∈ zAll := zAll_of 640 (by decide +kernel) (by decide +kernel)
theorem zk_sel_Rows_meet : Cond.selects RX5 yX5_meet yX5_meet ∈ zAll := zAll_of 641 (by decide +kernel) (by decide +kernel)
set_option maxRecDepth 40000 in
theorem zk_code_Rows_denier : Cond.code yX5_denier cX5_denier 6 (some .int) ∈ zAll := zAll_of 650 rfl rfl
theorem zk_im_Rows_denier : Cond.instanceMethod yX5_denier ∈ zAll := zAll_of 648 (by decide +kernel) (by decide +kernel)
theorem zk_sel_Rows_denier : Cond.selects RX5 yX5_denier yX5_denier ∈ zAll := zAll_of 649 (by decide +kernel) (by decide +kernel)
set_option maxRecDepth 40000 in
theorem zk_code_Rows_rare : Cond.code yX5_rare cX5_rare 2 (some .int) ∈ zAll := zAll_of 672 rfl rfl
theorem zk_im_Rows_rare : Cond.instanceMethod yX5_rare ∈ zAll := zAll_of 670 (by decide +kernel) (by decide +kernel)
theorem zk_sel_Rows_rare : Cond.selects RX5 yX5_rare yX5_rare ∈ zAll := zAll_of 671 (by decide +kernel) (by decide +kernel)
set_option maxRecDepth 40000 in
theorem zk_code_Rows_within : Cond.code yX5_within cX5_within 4 (some .boolean) ∈ zAll := zAll_of 681 rfl rfl
theorem zk_im_Rows_within : Cond.instanceMethod yX5_within ∈ zAll := zAll_of 680 (by decide +kernel) (by decide +kernel)
theorem zk_sel_Rows_within : Cond.selects RX5 yX5_within yX5_within ∈ zAll := zAll_of 17 (by decide +kernel) (by decide +kernel)
set_option maxRecDepth 40000 in
theorem zk_code_Rows_serves : Cond.code yX5_serves cX5_serves 4 (some .int) ∈ zAll := zAll_of 677 rfl rfl
theorem zk_im_Rows_serves : Cond.instanceMethod yX5_serves ∈ zAll := zAll_of 675 (by decide +kernel) (by decide +kernel)
theorem zk_sel_Rows_serves : Cond.selects RX5 yX5_serves yX5_serves ∈ zAll := zAll_of 676 (by decide +kernel) (by decide +kernel)
set_option maxRecDepth 40000 in
theorem zk_code_Rows_mightBeMade : Cond.code yX5_mightBeMade cX5_mightBeMade 4 (some .boolean) ∈ zAll := zAll_of 701 rfl rfl
theorem zk_im_Rows_mightBeMade : Cond.instanceMethod yX5_mightBeMade ∈ zAll := zAll_of 700 (by decide +kernel) (by decide +kernel)
theorem zk_sel_Rows_mightBeMade : Cond.selects RX5 yX5_mightBeMade yX5_mightBeMade ∈ zAll := zAll_of 19 (by decide +kernel) (by decide +kernel)
set_option maxRecDepth 40000 in
theorem zk_code_Rows_isCandidate : Cond.code yX5_isCandidate cX5_isCandidate 3 (some .boolean) ∈ zAll := zAll_of 715 rfl rfl
theorem zk_im_Rows_isCandidate : Cond.instanceMethod yX5_isCandidate ∈ zAll := zAll_of 714 (by decide +kernel) (by decide +kernel)
theorem zk_sel_Rows_isCandidate : Cond.selects RX5 yX5_isCandidate yX5_isCandidate ∈ zAll := zAll_of 22 (by decide +kernel) (by decide +kernel)
set_option maxRecDepth 40000 in
theorem zk_code_Rows_isCandidateNew : Cond.code yX5_isCandidateNew cX5_isCandidateNew 2 (some .boolean) ∈ zAll := zAll_of 711 rfl rfl
theorem zk_im_Rows_isCandidateNew : Cond.instanceMethod yX5_isCandidateNew ∈ zAll := zAll_of 710 (by decide +kernel) (by decide +kernel)
theorem zk_sel_Rows_isCandidateNew : Cond.selects RX5 yX5_isCandidateNew yX5_isCandidateNew ∈ zAll := zAll_of 21 (by decide +kernel) (by decide +kernel)
set_option maxRecDepth 40000 in
theorem zk_code_Rows_tryNext : Cond.code yX5_tryNext cX5_tryNext 7 none ∈ zAll := zAll_of 705 rfl rfl
theorem zk_im_Rows_tryNext : Cond.instanceMethod yX5_tryNext ∈ zAll := zAll_of 704 (by decide +kernel) (by decide +kernel)
theorem zk_sel_Rows_tryNext : Cond.selects RX5 yX5_tryNext yX5_tryNext ∈ zAll := zAll_of 20 (by decide +kernel) (by decide +kernel)
set_option maxRecDepth 40000 in
theorem zk_code_Rows_seekNext : Cond.code yX5_seekNext cX5_seekNext 4 (some .int) ∈ zAll := zAll_of 697 rfl rfl
theorem zk_im_Rows_seekNext : Cond.instanceMethod yX5_seekNext ∈ zAll := zAll_of 695 (by decide +kernel) (by decide +kernel)
theorem zk_sel_Rows_seekNext : Cond.selects RX5 yX5_seekNext yX5_seekNext ∈ zAll := zAll_of 696 (by decide +kernel) (by decide +kernel)
set_option maxRecDepth 40000 in
theorem zk_code_Terms_has : Cond.code yX7_has cX7_has 2 (some .boolean) ∈ zAll := zAll_of 348 rfl rfl
theorem zk_im_Terms_has : Cond.instanceMethod yX7_has ∈ zAll := zAll_of 346 (by decide +kernel) (by decide +kernel)
theorem zk_sel_Terms_has : Cond.selects RX7 yX7_has yX7_has ∈ zAll := zAll_of 347 (by decide +kernel) (by decide +kernel)
set_option maxRecDepth 40000 in
theorem zk_code_Terms_find : Cond.code yX7_find cX7_find 4 (some .int) ∈ zAll := zAll_of 352 rfl rfl
theorem zk_im_Terms_find : Cond.instanceMethod yX7_find ∈ zAll := zAll_of 350 (by decide +kernel) (by decide +kernel)
theorem zk_sel_Terms_find : Cond.selects RX7 yX7_find yX7_find ∈ zAll := zAll_of 351 (by decide +kernel) (by decide +kernel)
set_option maxRecDepth 40000 in
theorem zk_code_Terms_add : Cond.code yX7_add cX7_add 4 (some .int) ∈ zAll := zAll_of 356 rfl rfl
theorem zk_im_Terms_add : Cond.instanceMethod yX7_add ∈ zAll := zAll_of 354 (by decide +kernel) (by decide +kernel)
theorem zk_sel_Terms_add : Cond.selects RX7 yX7_add yX7_add ∈ zAll := zAll_of 355 (by decide +kernel) (by decide +kernel)
set_option maxRecDepth 40000 in
theorem zk_code_S_put : Cond.code yX8_put cX8_put 5 (some .int) ∈ zAll := zAll_of 344 rfl rfl
theorem zk_im_S_put : Cond.instanceMethod yX8_put ∈ zAll := zAll_of 342 (by decide +kernel) (by decide +kernel)
theorem zk_sel_S_put : Cond.selects RX8 yX8_put yX8_put ∈ zAll := zAll_of 343 (by decide +kernel) (by decide +kernel)
set_option maxRecDepth 40000 in
theorem zk_code_S_part : Cond.code yX8_part cX8_part 3 (some .int) ∈ zAll := zAll_of 364 rfl rfl
theorem zk_im_S_part : Cond.instanceMethod yX8_part ∈ zAll := zAll_of 362 (by decide +kernel) (by decide +kernel)
theorem zk_sel_S_part : Cond.selects RX8 yX8_part yX8_part ∈ zAll := zAll_of 363 (by decide +kernel) (by decide +kernel)
set_option maxRecDepth 40000 in
theorem zk_code_S_pageChanged : Cond.code yX8_pageChanged cX8_pageChanged 1 none ∈ zAll := zAll_of 376 rfl rfl
theorem zk_im_S_pageChanged : Cond.instanceMethod yX8_pageChanged ∈ zAll := zAll_of 375 (by decide +kernel) (by decide +kernel)
theorem zk_sel_S_pageChanged : Cond.selects RX8 yX8_pageChanged yX8_pageChanged ∈ zAll := zAll_of 0 (by decide +kernel) (by decide +kernel)
set_option maxRecDepth 40000 in
theorem zk_code_S_law : Cond.code yX8_law cX8_law 4 (some .int) ∈ zAll := zAll_of 368 rfl rfl
theorem zk_im_S_law : Cond.instanceMethod yX8_law ∈ zAll := zAll_of 366 (by decide +kernel) (by decide +kernel)
theorem zk_sel_S_law : Cond.selects RX8 yX8_law yX8_law ∈ zAll := zAll_of 367 (by decide +kernel) (by decide +kernel)
set_option maxRecDepth 40000 in
theorem zk_code_S_unlaw : Cond.code yX8_unlaw cX8_unlaw 1 (some .int) ∈ zAll := zAll_of 391 rfl rfl
theorem zk_im_S_unlaw : Cond.instanceMethod yX8_unlaw ∈ zAll := zAll_of 389 (by decide +kernel) (by decide +kernel)
theorem zk_sel_S_unlaw : Cond.selects RX8 yX8_unlaw yX8_unlaw ∈ zAll := zAll_of 390 (by decide +kernel) (by decide +kernel)
set_option maxRecDepth 40000 in
theorem zk_code_S_settle : Cond.code yX8_settle cX8_settle 1 none ∈ zAll := zAll_of 402 rfl rfl
theorem zk_im_S_settle : Cond.instanceMethod yX8_settle ∈ zAll := zAll_of 401 (by decide +kernel) (by decide +kernel)
theorem zk_sel_S_settle : Cond.selects RX8 yX8_settle yX8_settle ∈ zAll := zAll_of 1 (by decide +kernel) (by decide +kernel)
set_option maxRecDepth 40000 in
theorem zk_code_S_worlds : Cond.code yX8_worlds cX8_worlds 3 (some .int) ∈ zAll := zAll_of 395 rfl rfl
theorem zk_im_S_worlds : Cond.instanceMethod yX8_worlds ∈ zAll := zAll_of 393 (by decide +kernel) (by decide +kernel)
theorem zk_sel_S_worlds : Cond.selects RX8 yX8_worlds yX8_worlds ∈ zAll := zAll_of 394 (by decide +kernel) (by decide +kernel)
set_option maxRecDepth 40000 in
theorem zk_code_S_number : Cond.code yX8_number cX8_number 3 (some .int) ∈ zAll := zAll_of 516 rfl rfl
theorem zk_im_S_number : Cond.instanceMethod yX8_number ∈ zAll := zAll_of 514 (by decide +kernel) (by decide +kernel)
theorem zk_sel_S_number : Cond.selects RX8 yX8_number yX8_number ∈ zAll := zAll_of 515 (by decide +kernel) (by decide +kernel)
set_option maxRecDepth 40000 in
theorem zk_code_S_isWorld : Cond.code yX8_isWorld cX8_isWorld 2 (some .boolean) ∈ zAll := zAll_of 527 rfl rfl
theorem zk_st_S_isWorld : Cond.static yX8_isWorld ∈ zAll := zAll_of 526 (by decide +kernel) (by decide +kernel)
set_option maxRecDepth 40000 in
theorem zk_code_S_firstBroken : Cond.code yX8_firstBroken cX8_firstBroken 4 (some .int) ∈ zAll := zAll_of 532 rfl rfl
theorem zk_im_S_firstBroken : Cond.instanceMethod yX8_firstBroken ∈ zAll := zAll_of 531 (by decide +kernel) (by decide +kernel)
theorem zk_sel_S_firstBroken : Cond.selects RX8 yX8_firstBroken yX8_firstBroken ∈ zAll := zAll_of 12 (by decide +kernel) (by decide +kernel)
set_option maxRecDepth 40000 in
theorem zk_code_S_keeps : Cond.code yX8_keeps cX8_keeps 3 (some .int) ∈ zAll := zAll_of 524 rfl rfl
theorem zk_im_S_keeps : Cond.instanceMethod yX8_keeps ∈ zAll := zAll_of 522 (by decide +kernel) (by decide +kernel)
theorem zk_sel_S_keeps : Cond.selects RX8 yX8_keeps yX8_keeps ∈ zAll := zAll_of 523 (by decide +kernel) (by decide +kernel)
set_option maxRecDepth 40000 in
theorem zk_code_S_breaks : Cond.code yX8_breaks cX8_breaks 3 (some .int) ∈ zAll := zAll_of 538 rfl rfl
theorem zk_im_S_breaks : Cond.instanceMethod yX8_breaks ∈ zAll := zAll_of 536 (by decide +kernel) (by decide +kernel)
theorem zk_sel_S_breaks : Cond.selects RX8 yX8_breaks yX8_breaks ∈ zAll := zAll_of 537 (by decide +kernel) (by decide +kernel)
set_option maxRecDepth 40000 in
theorem zk_code_S_plain : Cond.code yX8_plain cX8_plain 3 (some .int) ∈ zAll := zAll_of 542 rfl rfl
theorem zk_im_S_plain : Cond.instanceMethod yX8_plain ∈ zAll := zAll_of 540 (by decide +kernel) (by decide +kernel)
theorem zk_sel_S_plain : Cond.selects RX8 yX8_plain yX8_plain ∈ zAll := zAll_of 541 (by decide +kernel) (by decide +kernel)
set_option maxRecDepth 40000 in
theorem zk_code_S_list : Cond.code yX8_list cX8_list 2 (some .int) ∈ zAll := zAll_of 555 rfl rfl
theorem zk_im_S_list : Cond.instanceMethod yX8_list ∈ zAll := zAll_of 553 (by decide +kernel) (by decide +kernel)
theorem zk_sel_S_list : Cond.selects RX8 yX8_list yX8_list ∈ zAll := zAll_of 554 (by decide +kernel) (by decide +kernel)
set_option maxRecDepth 40000 in
theorem zk_code_S_world : Cond.code yX8_world cX8_world 3 (some .int) ∈ zAll := zAll_of 559 rfl rfl
theorem zk_im_S_world : Cond.instanceMethod yX8_world ∈ zAll := zAll_of 557 (by decide +kernel) (by decide +kernel)
theorem zk_sel_S_world : Cond.selects RX8 yX8_world yX8_world ∈ zAll := zAll_of 558 (by decide +kernel) (by decide +kernel)
set_option maxRecDepth 40000 in
theorem zk_code_S_isMadeOf : Cond.code yX8_isMadeOf cX8_isMadeOf 3 (some .boolean) ∈ zAll := zAll_of 575 rfl rfl
theorem zk_im_S_isMadeOf : Cond.instanceMethod yX8_isMadeOf ∈ zAll := zAll_of 574 (by decide +kernel) (by decide +kernel)
theorem zk_sel_S_isMadeOf : Cond.selects RX8 yX8_isMadeOf yX8_isMadeOf ∈ zAll := zAll_of 14 (by decide +kernel) (by decide +kernel)
set_option maxRecDepth 40000 in
theorem zk_code_S_make : Cond.code yX8_make cX8_make 5 (some .int) ∈ zAll := zAll_of 571 rfl rfl
theorem zk_im_S_make : Cond.instanceMethod yX8_make ∈ zAll := zAll_of 569 (by decide +kernel) (by decide +kernel)
theorem zk_sel_S_make : Cond.selects RX8 yX8_make yX8_make ∈ zAll := zAll_of 570 (by decide +kernel) (by decide +kernel)
set_option maxRecDepth 40000 in
theorem zk_code_S_yes : Cond.code yX8_yes cX8_yes 6 (some .int) ∈ zAll := zAll_of 591 rfl rfl
theorem zk_im_S_yes : Cond.instanceMethod yX8_yes ∈ zAll := zAll_of 589 (by decide +kernel) (by decide +kernel)
theorem zk_sel_S_yes : Cond.selects RX8 yX8_yes yX8_yes ∈ zAll := zAll_of 590 (by decide +kernel) (by decide +kernel)
set_option maxRecDepth 40000 in
theorem zk_code_S_many : Cond.code yX8_many cX8_many 2 (some .int) ∈ zAll := zAll_of 599 rfl rfl
theorem zk_im_S_many : Cond.instanceMethod yX8_many ∈ zAll := zAll_of 597 (by decide +kernel) (by decide +kernel)
theorem zk_sel_S_many : Cond.selects RX8 yX8_many yX8_many ∈ zAll := zAll_of 598 (by decide +kernel) (by decide +kernel)
set_option maxRecDepth 40000 in
theorem zk_code_S_twin : Cond.code yX8_twin cX8_twin 3 (some .int) ∈ zAll := zAll_of 614 rfl rfl
theorem zk_im_S_twin : Cond.instanceMethod yX8_twin ∈ zAll := zAll_of 612 (by decide +kernel) (by decide +kernel)
theorem zk_sel_S_twin : Cond.selects RX8 yX8_twin yX8_twin ∈ zAll := zAll_of 613 (by decide +kernel) (by decide +kernel)
set_option maxRecDepth 40000 in
theorem zk_code_S_butFor : Cond.code yX8_butFor cX8_butFor 3 (some .int) ∈ zAll := zAll_of 622 rfl rfl
theorem zk_im_S_butFor : Cond.instanceMethod yX8_butFor ∈ zAll := zAll_of 620 (by decide +kernel) (by decide +kernel)
theorem zk_sel_S_butFor : Cond.selects RX8 yX8_butFor yX8_butFor ∈ zAll := zAll_of 621 (by decide +kernel) (by decide +kernel)
set_option maxRecDepth 40000 in
theorem zk_code_S_look : Cond.code yX8_look cX8_look 4 (some .int) ∈ zAll := zAll_of 630 rfl rfl
theorem zk_im_S_look : Cond.instanceMethod yX8_look ∈ zAll := zAll_of 628 (by decide +kernel) (by decide +kernel)
theorem zk_sel_S_look : Cond.selects RX8 yX8_look yX8_look ∈ zAll := zAll_of 629 (by decide +kernel) (by decide +kernel)
set_option maxRecDepth 40000 in
theorem zk_code_S_never : Cond.code yX8_never cX8_never 3 (some .int) ∈ zAll := zAll_of 638 rfl rfl
theorem zk_im_S_never : Cond.instanceMethod yX8_never ∈ zAll := zAll_of 636 (by decide +kernel) (by decide +kernel)
theorem zk_sel_S_never : Cond.selects RX8 yX8_never yX8_never ∈ zAll := zAll_of 637 (by decide +kernel) (by decide +kernel)
set_option maxRecDepth 40000 in
theorem zk_code_S_deny : Cond.code yX8_deny cX8_deny 4 (some .int) ∈ zAll := zAll_of 646 rfl rfl
theorem zk_im_S_deny : Cond.instanceMethod yX8_deny ∈ zAll := zAll_of 644 (by decide +kernel) (by decide +kernel)
theorem zk_sel_S_deny : Cond.selects RX8 yX8_deny yX8_deny ∈ zAll := zAll_of 645 (by decide +kernel) (by decide +kernel)
set_option maxRecDepth 40000 in
theorem zk_code_S_weigh : Cond.code yX8_weigh cX8_weigh 4 (some .int) ∈ zAll := zAll_of 660 rfl rfl
theorem zk_im_S_weigh : Cond.instanceMethod yX8_weigh ∈ zAll := zAll_of 658 (by decide +kernel) (by decide +kernel)
theorem zk_sel_S_weigh : Cond.selects RX8 yX8_weigh yX8_weigh ∈ zAll := zAll_of 659 (by decide +kernel) (by decide +kernel)
set_option maxRecDepth 40000 in
theorem zk_code_S_wake : Cond.code yX8_wake cX8_wake 4 (some .int) ∈ zAll := zAll_of 664 rfl rfl
theorem zk_im_S_wake : Cond.instanceMethod yX8_wake ∈ zAll := zAll_of 662 (by decide +kernel) (by decide +kernel)
theorem zk_sel_S_wake : Cond.selects RX8 yX8_wake yX8_wake ∈ zAll := zAll_of 663 (by decide +kernel) (by decide +kernel)
set_option maxRecDepth 40000 in
theorem zk_code_S_worthOf : Cond.code yX8_worthOf cX8_worthOf 2 (some .int) ∈ zAll := zAll_of 685 rfl rfl
theorem zk_im_S_worthOf : Cond.instanceMethod yX8_worthOf ∈ zAll := zAll_of 684 (by decide +kernel) (by decide +kernel)
theorem zk_sel_S_worthOf : Cond.selects RX8 yX8_worthOf yX8_worthOf ∈ zAll := zAll_of 18 (by decide +kernel) (by decide +kernel)
set_option maxRecDepth 40000 in
theorem zk_code_S_worth : Cond.code yX8_worth cX8_worth 3 (some .int) ∈ zAll := zAll_of 668 rfl rfl
theorem zk_im_S_worth : Cond.instanceMethod yX8_worth ∈ zAll := zAll_of 666 (by decide +kernel) (by decide +kernel)
theorem zk_sel_S_worth : Cond.selects RX8 yX8_worth yX8_worth ∈ zAll := zAll_of 667 (by decide +kernel) (by decide +kernel)
set_option maxRecDepth 40000 in
theorem zk_code_S_best : Cond.code yX8_best cX8_best 5 (some .int) ∈ zAll := zAll_of 689 rfl rfl
theorem zk_im_S_best : Cond.instanceMethod yX8_best ∈ zAll := zAll_of 687 (by decide +kernel) (by decide +kernel)
theorem zk_sel_S_best : Cond.selects RX8 yX8_best yX8_best ∈ zAll := zAll_of 688 (by decide +kernel) (by decide +kernel)
set_option maxRecDepth 40000 in
theorem zk_code_S_next : Cond.code yX8_next cX8_next 1 (some .int) ∈ zAll := zAll_of 693 rfl rfl
theorem zk_im_S_next : Cond.instanceMethod yX8_next ∈ zAll := zAll_of 691 (by decide +kernel) (by decide +kernel)
theorem zk_sel_S_next : Cond.selects RX8 yX8_next yX8_next ∈ zAll := zAll_of 692 (by decide +kernel) (by decide +kernel)
set_option maxRecDepth 40000 in
theorem zk_code_S_makeNext : Cond.code yX8_makeNext cX8_makeNext 2 (some .int) ∈ zAll := zAll_of 719 rfl rfl
theorem zk_im_S_makeNext : Cond.instanceMethod yX8_makeNext ∈ zAll := zAll_of 717 (by decide +kernel) (by decide +kernel)
theorem zk_sel_S_makeNext : Cond.selects RX8 yX8_makeNext yX8_makeNext ∈ zAll := zAll_of 718 (by decide +kernel) (by decide +kernel)
set_option maxRecDepth 40000 in
theorem zk_code_S_needed : Cond.code yX8_needed cX8_needed 2 (some .int) ∈ zAll := zAll_of 723 rfl rfl
theorem zk_im_S_needed : Cond.instanceMethod yX8_needed ∈ zAll := zAll_of 721 (by decide +kernel) (by decide +kernel)
theorem zk_sel_S_needed : Cond.selects RX8 yX8_needed yX8_needed ∈ zAll := zAll_of 722 (by decide +kernel) (by decide +kernel)
set_option maxRecDepth 40000 in
theorem zk_code_S_least : Cond.code yX8_least cX8_least 3 (some .int) ∈ zAll := zAll_of 731 rfl rfl
theorem zk_im_S_least : Cond.instanceMethod yX8_least ∈ zAll := zAll_of 729 (by decide +kernel) (by decide +kernel)
theorem zk_sel_S_least : Cond.selects RX8 yX8_least yX8_least ∈ zAll := zAll_of 730 (by decide +kernel) (by decide +kernel)
set_option maxRecDepth 40000 in
theorem zk_code_S_even : Cond.code yX8_even cX8_even 1 (some .int) ∈ zAll := zAll_of 735 rfl rfl
theorem zk_im_S_even : Cond.instanceMethod yX8_even ∈ zAll := zAll_of 733 (by decide +kernel) (by decide +kernel)
theorem zk_sel_S_even : Cond.selects RX8 yX8_even yX8_even ∈ zAll := zAll_of 734 (by decide +kernel) (by decide +kernel)
set_option maxRecDepth 40000 in
theorem zk_code_S_isSlot : Cond.code yX8_isSlot cX8_isSlot 1 (some .boolean) ∈ zAll := zAll_of 759 rfl rfl
theorem zk_st_S_isSlot : Cond.static yX8_isSlot ∈ zAll := zAll_of 758 (by decide +kernel) (by decide +kernel)
set_option maxRecDepth 40000 in
theorem zk_code_S_keep : Cond.code yX8_keep cX8_keep 2 (some .int) ∈ zAll := zAll_of 756 rfl rfl
theorem zk_im_S_keep : Cond.instanceMethod yX8_keep ∈ zAll := zAll_of 754 (by decide +kernel) (by decide +kernel)
theorem zk_sel_S_keep : Cond.selects RX8 yX8_keep yX8_keep ∈ zAll := zAll_of 755 (by decide +kernel) (by decide +kernel)
set_option maxRecDepth 40000 in
theorem zk_code_S_same : Cond.code yX8_same cX8_same 2 (some .int) ∈ zAll := zAll_of 767 rfl rfl
theorem zk_im_S_same : Cond.instanceMethod yX8_same ∈ zAll := zAll_of 765 (by decide +kernel) (by decide +kernel)
theorem zk_sel_S_same : Cond.selects RX8 yX8_same yX8_same ∈ zAll := zAll_of 766 (by decide +kernel) (by decide +kernel)
set_option maxRecDepth 40000 in
theorem zk_code_S_shown : Cond.code yX8_shown cX8_shown 3 (some .int) ∈ zAll := zAll_of 775 rfl rfl
theorem zk_im_S_shown : Cond.instanceMethod yX8_shown ∈ zAll := zAll_of 773 (by decide +kernel) (by decide +kernel)
theorem zk_sel_S_shown : Cond.selects RX8 yX8_shown yX8_shown ∈ zAll := zAll_of 774 (by decide +kernel) (by decide +kernel)
set_option maxRecDepth 40000 in
theorem zk_code_S_groups : Cond.code yX8_groups cX8_groups 1 (some .int) ∈ zAll := zAll_of 823 rfl rfl
theorem zk_im_S_groups : Cond.instanceMethod yX8_groups ∈ zAll := zAll_of 821 (by decide +kernel) (by decide +kernel)
theorem zk_sel_S_groups : Cond.selects RX8 yX8_groups yX8_groups ∈ zAll := zAll_of 822 (by decide +kernel) (by decide +kernel)
set_option maxRecDepth 40000 in
theorem zk_code_S_first : Cond.code yX8_first cX8_first 2 (some .int) ∈ zAll := zAll_of 831 rfl rfl
theorem zk_im_S_first : Cond.instanceMethod yX8_first ∈ zAll := zAll_of 829 (by decide +kernel) (by decide +kernel)
theorem zk_sel_S_first : Cond.selects RX8 yX8_first yX8_first ∈ zAll := zAll_of 830 (by decide +kernel) (by decide +kernel)
set_option maxRecDepth 40000 in
theorem zk_code_S_count : Cond.code yX8_count cX8_count 2 (some .int) ∈ zAll := zAll_of 835 rfl rfl
theorem zk_im_S_count : Cond.instanceMethod yX8_count ∈ zAll := zAll_of 833 (by decide +kernel) (by decide +kernel)
theorem zk_sel_S_count : Cond.selects RX8 yX8_count yX8_count ∈ zAll := zAll_of 834 (by decide +kernel) (by decide +kernel)
set_option maxRecDepth 40000 in
theorem zk_code_Model_in : Cond.code yX9_in cX9_in 6 (some .boolean) ∈ zAll := zAll_of 971 rfl rfl
theorem zk_st_Model_in : Cond.static yX9_in ∈ zAll := zAll_of 970 (by decide +kernel) (by decide +kernel)
set_option maxRecDepth 40000 in
theorem zk_code_Model_isTerm : Cond.code yX9_isTerm cX9_isTerm 2 (some .boolean) ∈ zAll := zAll_of 968 rfl rfl
theorem zk_im_Model_isTerm : Cond.instanceMethod yX9_isTerm ∈ zAll := zAll_of 967 (by decide +kernel) (by decide +kernel)
theorem zk_sel_Model_isTerm : Cond.selects RX9 yX9_isTerm yX9_isTerm ∈ zAll := zAll_of 32 (by decide +kernel) (by decide +kernel)
set_option maxRecDepth 40000 in
theorem zk_code_Model_put : Cond.code yX9_put cX9_put 3 (some .int) ∈ zAll := zAll_of 964 rfl rfl
theorem zk_im_Model_put : Cond.instanceMethod yX9_put ∈ zAll := zAll_of 962 (by decide +kernel) (by decide +kernel)
theorem zk_sel_Model_put : Cond.selects RX9 yX9_put yX9_put ∈ zAll := zAll_of 963 (by decide +kernel) (by decide +kernel)
set_option maxRecDepth 40000 in
theorem zk_code_Model_part : Cond.code yX9_part cX9_part 3 (some .int) ∈ zAll := zAll_of 975 rfl rfl
theorem zk_im_Model_part : Cond.instanceMethod yX9_part ∈ zAll := zAll_of 973 (by decide +kernel) (by decide +kernel)
theorem zk_sel_Model_part : Cond.selects RX9 yX9_part yX9_part ∈ zAll := zAll_of 974 (by decide +kernel) (by decide +kernel)
set_option maxRecDepth 40000 in
theorem zk_code_Model_law : Cond.code yX9_law cX9_law 3 (some .int) ∈ zAll := zAll_of 979 rfl rfl
theorem zk_im_Model_law : Cond.instanceMethod yX9_law ∈ zAll := zAll_of 977 (by decide +kernel) (by decide +kernel)
theorem zk_sel_Model_law : Cond.selects RX9 yX9_law yX9_law ∈ zAll := zAll_of 978 (by decide +kernel) (by decide +kernel)
set_option maxRecDepth 40000 in
theorem zk_code_Model_unlaw : Cond.code yX9_unlaw cX9_unlaw 1 (some .int) ∈ zAll := zAll_of 983 rfl rfl
theorem zk_im_Model_unlaw : Cond.instanceMethod yX9_unlaw ∈ zAll := zAll_of 981 (by decide +kernel) (by decide +kernel)
theorem zk_sel_Model_unlaw : Cond.selects RX9 yX9_unlaw yX9_unlaw ∈ zAll := zAll_of 982 (by decide +kernel) (by decide +kernel)
set_option maxRecDepth 40000 in
theorem zk_code_Model_baseOf : Cond.code yX9_baseOf cX9_baseOf 1 (some .int) ∈ zAll := zAll_of 1013 rfl rfl
theorem zk_st_Model_baseOf : Cond.static yX9_baseOf ∈ zAll := zAll_of 1012 (by decide +kernel) (by decide +kernel)
set_option maxRecDepth 40000 in
theorem zk_code_Model_countOf : Cond.code yX9_countOf cX9_countOf 1 (some .int) ∈ zAll := zAll_of 1037 rfl rfl
theorem zk_st_Model_countOf : Cond.static yX9_countOf ∈ zAll := zAll_of 1036 (by decide +kernel) (by decide +kernel)
set_option maxRecDepth 40000 in
theorem zk_code_Model_sizeAt : Cond.code yX9_sizeAt cX9_sizeAt 1 (some .int) ∈ zAll := zAll_of 1010 rfl rfl
theorem zk_st_Model_sizeAt : Cond.static yX9_sizeAt ∈ zAll := zAll_of 1009 (by decide +kernel) (by decide +kernel)
set_option maxRecDepth 40000 in
theorem zk_code_Model_layWorld : Cond.code yX9_layWorld cX9_layWorld 4 none ∈ zAll := zAll_of 1007 rfl rfl
theorem zk_im_Model_layWorld : Cond.instanceMethod yX9_layWorld ∈ zAll := zAll_of 1006 (by decide +kernel) (by decide +kernel)
theorem zk_sel_Model_layWorld : Cond.selects RX9 yX9_layWorld yX9_layWorld ∈ zAll := zAll_of 36 (by decide +kernel) (by decide +kernel)
set_option maxRecDepth 40000 in
theorem zk_code_Model_want : Cond.code yX9_want cX9_want 4 none ∈ zAll := zAll_of 1003 rfl rfl
theorem zk_im_Model_want : Cond.instanceMethod yX9_want ∈ zAll := zAll_of 1002 (by decide +kernel) (by decide +kernel)
theorem zk_sel_Model_want : Cond.selects RX9 yX9_want yX9_want ∈ zAll := zAll_of 35 (by decide +kernel) (by decide +kernel)
set_option maxRecDepth 40000 in
theorem zk_code_Model_isSame : Cond.code yX9_isSame cX9_isSame 8 (some .boolean) ∈ zAll := zAll_of 1021 rfl rfl
theorem zk_im_Model_isSame : Cond.instanceMethod yX9_isSame ∈ zAll := zAll_of 1020 (by decide +kernel) (by decide +kernel)
theorem zk_sel_Model_isSame : Cond.selects RX9 yX9_isSame yX9_isSame ∈ zAll := zAll_of 38 (by decide +kernel) (by decide +kernel)
set_option maxRecDepth 40000 in
theorem zk_code_Model_keepsOne : Cond.code yX9_keepsOne cX9_keepsOne 4 (some .boolean) ∈ zAll := zAll_of 1017 rfl rfl
theorem zk_im_Model_keepsOne : Cond.instanceMethod yX9_keepsOne ∈ zAll := zAll_of 1016 (by decide +kernel) (by decide +kernel)
theorem zk_sel_Model_keepsOne : Cond.selects RX9 yX9_keepsOne yX9_keepsOne ∈ zAll := zAll_of 37 (by decide +kernel) (by decide +kernel)
set_option maxRecDepth 40000 in
theorem zk_code_Model_layBroken : Cond.code yX9_layBroken cX9_layBroken 7 none ∈ zAll := zAll_of 999 rfl rfl
theorem zk_im_Model_layBroken : Cond.instanceMethod yX9_layBroken ∈ zAll := zAll_of 998 (by decide +kernel) (by decide +kernel)
theorem zk_sel_Model_layBroken : Cond.selects RX9 yX9_layBroken yX9_layBroken ∈ zAll := zAll_of 34 (by decide +kernel) (by decide +kernel)
set_option maxRecDepth 40000 in
theorem zk_code_Model_oldName : Cond.code yX9_oldName cX9_oldName 2 (some .int) ∈ zAll := zAll_of 1034 rfl rfl
theorem zk_im_Model_oldName : Cond.instanceMethod yX9_oldName ∈ zAll := zAll_of 1033 (by decide +kernel) (by decide +kernel)
theorem zk_sel_Model_oldName : Cond.selects RX9 yX9_oldName yX9_oldName ∈ zAll := zAll_of 41 (by decide +kernel) (by decide +kernel)
set_option maxRecDepth 40000 in
theorem zk_code_Model_renamed : Cond.code yX9_renamed cX9_renamed 6 (some .int) ∈ zAll := zAll_of 1030 rfl rfl
theorem zk_im_Model_renamed : Cond.instanceMethod yX9_renamed ∈ zAll := zAll_of 1029 (by decide +kernel) (by decide +kernel)
theorem zk_sel_Model_renamed : Cond.selects RX9 yX9_renamed yX9_renamed ∈ zAll := zAll_of 40 (by decide +kernel) (by decide +kernel)
set_option maxRecDepth 40000 in
theorem zk_code_Model_leastName : Cond.code yX9_leastName cX9_leastName 4 (some .int) ∈ zAll := zAll_of 1025 rfl rfl
theorem zk_im_Model_leastName : Cond.instanceMethod yX9_leastName ∈ zAll := zAll_of 1024 (by decide +kernel) (by decide +kernel)
theorem zk_sel_Model_leastName : Cond.selects RX9 yX9_leastName yX9_leastName ∈ zAll := zAll_of 39 (by decide +kernel) (by decide +kernel)
set_option maxRecDepth 40000 in
theorem zk_code_Model_layAll : Cond.code yX9_layAll cX9_layAll 2 none ∈ zAll := zAll_of 995 rfl rfl
theorem zk_im_Model_layAll : Cond.instanceMethod yX9_layAll ∈ zAll := zAll_of 994 (by decide +kernel) (by decide +kernel)
theorem zk_sel_Model_layAll : Cond.selects RX9 yX9_layAll yX9_layAll ∈ zAll := zAll_of 33 (by decide +kernel) (by decide +kernel)
set_option maxRecDepth 40000 in
theorem zk_code_Model_isSize : Cond.code yX9_isSize cX9_isSize 1 (some .boolean) ∈ zAll := zAll_of 990 rfl rfl
theorem zk_st_Model_isSize : Cond.static yX9_isSize ∈ zAll := zAll_of 989 (by decide +kernel) (by decide +kernel)
set_option maxRecDepth 40000 in
theorem zk_code_Model_isWorldOf : Cond.code yX9_isWorldOf cX9_isWorldOf 2 (some .boolean) ∈ zAll := zAll_of 1048 rfl rfl
theorem zk_st_Model_isWorldOf : Cond.static yX9_isWorldOf ∈ zAll := zAll_of 1047 (by decide +kernel) (by decide +kernel)
set_option maxRecDepth 40000 in
theorem zk_code_Model_worlds : Cond.code yX9_worlds cX9_worlds 5 (some .int) ∈ zAll := zAll_of 987 rfl rfl
theorem zk_im_Model_worlds : Cond.instanceMethod yX9_worlds ∈ zAll := zAll_of 985 (by decide +kernel) (by decide +kernel)
theorem zk_sel_Model_worlds : Cond.selects RX9 yX9_worlds yX9_worlds ∈ zAll := zAll_of 986 (by decide +kernel) (by decide +kernel)
set_option maxRecDepth 40000 in
theorem zk_code_Model_number : Cond.code yX9_number cX9_number 5 (some .int) ∈ zAll := zAll_of 1041 rfl rfl
theorem zk_im_Model_number : Cond.instanceMethod yX9_number ∈ zAll := zAll_of 1039 (by decide +kernel) (by decide +kernel)
theorem zk_sel_Model_number : Cond.selects RX9 yX9_number yX9_number ∈ zAll := zAll_of 1040 (by decide +kernel) (by decide +kernel)
set_option maxRecDepth 40000 in
theorem zk_code_Model_keeps : Cond.code yX9_keeps cX9_keeps 3 (some .int) ∈ zAll := zAll_of 1045 rfl rfl
theorem zk_im_Model_keeps : Cond.instanceMethod yX9_keeps ∈ zAll := zAll_of 1043 (by decide +kernel) (by decide +kernel)
theorem zk_sel_Model_keeps : Cond.selects RX9 yX9_keeps yX9_keeps ∈ zAll := zAll_of 1044 (by decide +kernel) (by decide +kernel)
set_option maxRecDepth 40000 in
theorem zk_code_Model_breaks : Cond.code yX9_breaks cX9_breaks 4 (some .int) ∈ zAll := zAll_of 1052 rfl rfl
theorem zk_im_Model_breaks : Cond.instanceMethod yX9_breaks ∈ zAll := zAll_of 1050 (by decide +kernel) (by decide +kernel)
theorem zk_sel_Model_breaks : Cond.selects RX9 yX9_breaks yX9_breaks ∈ zAll := zAll_of 1051 (by decide +kernel) (by decide +kernel)
set_option maxRecDepth 40000 in
theorem zk_code_Model_plain : Cond.code yX9_plain cX9_plain 3 (some .int) ∈ zAll := zAll_of 1056 rfl rfl
theorem zk_im_Model_plain : Cond.instanceMethod yX9_plain ∈ zAll := zAll_of 1054 (by decide +kernel) (by decide +kernel)
theorem zk_sel_Model_plain : Cond.selects RX9 yX9_plain yX9_plain ∈ zAll := zAll_of 1055 (by decide +kernel) (by decide +kernel)
set_option maxRecDepth 40000 in
theorem zk_code_Model_onList : Cond.code yX9_onList cX9_onList 1 (some .int) ∈ zAll := zAll_of 1064 rfl rfl
theorem zk_im_Model_onList : Cond.instanceMethod yX9_onList ∈ zAll := zAll_of 1063 (by decide +kernel) (by decide +kernel)
theorem zk_sel_Model_onList : Cond.selects RX9 yX9_onList yX9_onList ∈ zAll := zAll_of 42 (by decide +kernel) (by decide +kernel)
set_option maxRecDepth 40000 in
theorem zk_code_Model_pairs : Cond.code yX9_pairs cX9_pairs 4 (some .int) ∈ zAll := zAll_of 1068 rfl rfl
theorem zk_im_Model_pairs : Cond.instanceMethod yX9_pairs ∈ zAll := zAll_of 1067 (by decide +kernel) (by decide +kernel)
theorem zk_sel_Model_pairs : Cond.selects RX9 yX9_pairs yX9_pairs ∈ zAll := zAll_of 43 (by decide +kernel) (by decide +kernel)
set_option maxRecDepth 40000 in
theorem zk_code_Model_list : Cond.code yX9_list cX9_list 2 (some .int) ∈ zAll := zAll_of 1060 rfl rfl
theorem zk_im_Model_list : Cond.instanceMethod yX9_list ∈ zAll := zAll_of 1058 (by decide +kernel) (by decide +kernel)
theorem zk_sel_Model_list : Cond.selects RX9 yX9_list yX9_list ∈ zAll := zAll_of 1059 (by decide +kernel) (by decide +kernel)
set_option maxRecDepth 40000 in
theorem zk_code_Model_world : Cond.code yX9_world cX9_world 4 (some .int) ∈ zAll := zAll_of 1072 rfl rfl
theorem zk_im_Model_world : Cond.instanceMethod yX9_world ∈ zAll := zAll_of 1070 (by decide +kernel) (by decide +kernel)
theorem zk_sel_Model_world : Cond.selects RX9 yX9_world yX9_world ∈ zAll := zAll_of 1071 (by decide +kernel) (by decide +kernel)
set_option maxRecDepth 40000 in
theorem zk_code_Model_isNotion : Cond.code yX9_isNotion cX9_isNotion 2 (some .boolean) ∈ zAll := zAll_of 1081 rfl rfl
theorem zk_im_Model_isNotion : Cond.instanceMethod yX9_isNotion ∈ zAll := zAll_of 1080 (by decide +kernel) (by decide +kernel)
theorem zk_sel_Model_isNotion : Cond.selects RX9 yX9_isNotion yX9_isNotion ∈ zAll := zAll_of 44 (by decide +kernel) (by decide +kernel)
set_option maxRecDepth 40000 in
theorem zk_code_Model_set : Cond.code yX9_set cX9_set 5 none ∈ zAll := zAll_of 1085 rfl rfl
theorem zk_im_Model_set : Cond.instanceMethod yX9_set ∈ zAll := zAll_of 1084 (by decide +kernel) (by decide +kernel)
theorem zk_sel_Model_set : Cond.selects RX9 yX9_set yX9_set ∈ zAll := zAll_of 45 (by decide +kernel) (by decide +kernel)
set_option maxRecDepth 40000 in
theorem zk_code_Model_make : Cond.code yX9_make cX9_make 5 (some .int) ∈ zAll := zAll_of 1076 rfl rfl
theorem zk_im_Model_make : Cond.instanceMethod yX9_make ∈ zAll := zAll_of 1074 (by decide +kernel) (by decide +kernel)
theorem zk_sel_Model_make : Cond.selects RX9 yX9_make yX9_make ∈ zAll := zAll_of 1075 (by decide +kernel) (by decide +kernel)
set_option maxRecDepth 40000 in
theorem zk_code_Model_isSo : Cond.code yX9_isSo cX9_isSo 9 (some .boolean) ∈ zAll := zAll_of 1101 rfl rfl
theorem zk_im_Model_isSo : Cond.instanceMethod yX9_isSo ∈ zAll := zAll_of 1100 (by decide +kernel) (by decide +kernel)
theorem zk_sel_Model_isSo : Cond.selects RX9 yX9_isSo yX9_isSo ∈ zAll := zAll_of 48 (by decide +kernel) (by decide +kernel)
set_option maxRecDepth 40000 in
theorem zk_code_Model_layHere : Cond.code yX9_layHere cX9_layHere 3 none ∈ zAll := zAll_of 1097 rfl rfl
theorem zk_im_Model_layHere : Cond.instanceMethod yX9_layHere ∈ zAll := zAll_of 1096 (by decide +kernel) (by decide +kernel)
theorem zk_sel_Model_layHere : Cond.selects RX9 yX9_layHere yX9_layHere ∈ zAll := zAll_of 47 (by decide +kernel) (by decide +kernel)
set_option maxRecDepth 40000 in
theorem zk_code_Model_layRows : Cond.code yX9_layRows cX9_layRows 5 none ∈ zAll := zAll_of 1093 rfl rfl
theorem zk_im_Model_layRows : Cond.instanceMethod yX9_layRows ∈ zAll := zAll_of 1092 (by decide +kernel) (by decide +kernel)
theorem zk_sel_Model_layRows : Cond.selects RX9 yX9_layRows yX9_layRows ∈ zAll := zAll_of 46 (by decide +kernel) (by decide +kernel)
set_option maxRecDepth 40000 in
theorem zk_code_Model_yes : Cond.code yX9_yes cX9_yes 6 (some .int) ∈ zAll := zAll_of 1089 rfl rfl
theorem zk_im_Model_yes : Cond.instanceMethod yX9_yes ∈ zAll := zAll_of 1087 (by decide +kernel) (by decide +kernel)
theorem zk_sel_Model_yes : Cond.selects RX9 yX9_yes yX9_yes ∈ zAll := zAll_of 1088 (by decide +kernel) (by decide +kernel)
set_option maxRecDepth 40000 in
theorem zk_code_Model_manyOf : Cond.code yX9_manyOf cX9_manyOf 4 (some .int) ∈ zAll := zAll_of 1109 rfl rfl
theorem zk_im_Model_manyOf : Cond.instanceMethod yX9_manyOf ∈ zAll := zAll_of 1108 (by decide +kernel) (by decide +kernel)
theorem zk_sel_Model_manyOf : Cond.selects RX9 yX9_manyOf yX9_manyOf ∈ zAll := zAll_of 49 (by decide +kernel) (by decide +kernel)
set_option maxRecDepth 40000 in
theorem zk_code_Model_butForOf : Cond.code yX9_butForOf cX9_butForOf 5 (some .int) ∈ zAll := zAll_of 1121 rfl rfl
theorem zk_im_Model_butForOf : Cond.instanceMethod yX9_butForOf ∈ zAll := zAll_of 1120 (by decide +kernel) (by decide +kernel)
theorem zk_sel_Model_butForOf : Cond.selects RX9 yX9_butForOf yX9_butForOf ∈ zAll := zAll_of 51 (by decide +kernel) (by decide +kernel)
set_option maxRecDepth 40000 in
theorem zk_code_Model_agrees : Cond.code yX9_agrees cX9_agrees 3 (some .boolean) ∈ zAll := zAll_of 1117 rfl rfl
theorem zk_im_Model_agrees : Cond.instanceMethod yX9_agrees ∈ zAll := zAll_of 1116 (by decide +kernel) (by decide +kernel)
theorem zk_sel_Model_agrees : Cond.selects RX9 yX9_agrees yX9_agrees ∈ zAll := zAll_of 50 (by decide +kernel) (by decide +kernel)
set_option maxRecDepth 40000 in
theorem zk_code_Model_many : Cond.code yX9_many cX9_many 2 (some .int) ∈ zAll := zAll_of 1105 rfl rfl
theorem zk_im_Model_many : Cond.instanceMethod yX9_many ∈ zAll := zAll_of 1103 (by decide +kernel) (by decide +kernel)
theorem zk_sel_Model_many : Cond.selects RX9 yX9_many yX9_many ∈ zAll := zAll_of 1104 (by decide +kernel) (by decide +kernel)
set_option maxRecDepth 40000 in
theorem zk_code_Model_twin : Cond.code yX9_twin cX9_twin 3 (some .int) ∈ zAll := zAll_of 1113 rfl rfl
theorem zk_im_Model_twin : Cond.instanceMethod yX9_twin ∈ zAll := zAll_of 1111 (by decide +kernel) (by decide +kernel)
theorem zk_sel_Model_twin : Cond.selects RX9 yX9_twin yX9_twin ∈ zAll := zAll_of 1112 (by decide +kernel) (by decide +kernel)
set_option maxRecDepth 40000 in
theorem zk_code_Model_butFor : Cond.code yX9_butFor cX9_butFor 3 (some .int) ∈ zAll := zAll_of 1125 rfl rfl
theorem zk_im_Model_butFor : Cond.instanceMethod yX9_butFor ∈ zAll := zAll_of 1123 (by decide +kernel) (by decide +kernel)
theorem zk_sel_Model_butFor : Cond.selects RX9 yX9_butFor yX9_butFor ∈ zAll := zAll_of 1124 (by decide +kernel) (by decide +kernel)
set_option maxRecDepth 40000 in
theorem zk_code_Model_look : Cond.code yX9_look cX9_look 6 (some .int) ∈ zAll := zAll_of 1129 rfl rfl
theorem zk_im_Model_look : Cond.instanceMethod yX9_look ∈ zAll := zAll_of 1127 (by decide +kernel) (by decide +kernel)
theorem zk_sel_Model_look : Cond.selects RX9 yX9_look yX9_look ∈ zAll := zAll_of 1128 (by decide +kernel) (by decide +kernel)
set_option maxRecDepth 40000 in
theorem zk_code_Model_never : Cond.code yX9_never cX9_never 3 (some .int) ∈ zAll := zAll_of 1133 rfl rfl
theorem zk_im_Model_never : Cond.instanceMethod yX9_never ∈ zAll := zAll_of 1131 (by decide +kernel) (by decide +kernel)
theorem zk_sel_Model_never : Cond.selects RX9 yX9_never yX9_never ∈ zAll := zAll_of 1132 (by decide +kernel) (by decide +kernel)
set_option maxRecDepth 40000 in
theorem zk_code_Model_deny : Cond.code yX9_deny cX9_deny 6 (some .int) ∈ zAll := zAll_of 1137 rfl rfl
theorem zk_im_Model_deny : Cond.instanceMethod yX9_deny ∈ zAll := zAll_of 1135 (by decide +kernel) (by decide +kernel)
theorem zk_sel_Model_deny : Cond.selects RX9 yX9_deny yX9_deny ∈ zAll := zAll_of 1136 (by decide +kernel) (by decide +kernel)
set_option maxRecDepth 40000 in
theorem zk_code_Model_weigh : Cond.code yX9_weigh cX9_weigh 4 (some .int) ∈ zAll := zAll_of 1141 rfl rfl
theorem zk_im_Model_weigh : Cond.instanceMethod yX9_weigh ∈ zAll := zAll_of 1139 (by decide +kernel) (by decide +kernel)
theorem zk_sel_Model_weigh : Cond.selects RX9 yX9_weigh yX9_weigh ∈ zAll := zAll_of 1140 (by decide +kernel) (by decide +kernel)
set_option maxRecDepth 40000 in
theorem zk_code_Model_wake : Cond.code yX9_wake cX9_wake 4 (some .int) ∈ zAll := zAll_of 1147 rfl rfl
theorem zk_im_Model_wake : Cond.instanceMethod yX9_wake ∈ zAll := zAll_of 1145 (by decide +kernel) (by decide +kernel)
theorem zk_sel_Model_wake : Cond.selects RX9 yX9_wake yX9_wake ∈ zAll := zAll_of 1146 (by decide +kernel) (by decide +kernel)
set_option maxRecDepth 40000 in
theorem zk_code_Model_rareOf : Cond.code yX9_rareOf cX9_rareOf 4 (some .int) ∈ zAll := zAll_of 1155 rfl rfl
theorem zk_im_Model_rareOf : Cond.instanceMethod yX9_rareOf ∈ zAll := zAll_of 1154 (by decide +kernel) (by decide +kernel)
theorem zk_sel_Model_rareOf : Cond.selects RX9 yX9_rareOf yX9_rareOf ∈ zAll := zAll_of 52 (by decide +kernel) (by decide +kernel)
set_option maxRecDepth 40000 in
theorem zk_code_Model_servesOf : Cond.code yX9_servesOf cX9_servesOf 4 (some .int) ∈ zAll := zAll_of 1159 rfl rfl
theorem zk_im_Model_servesOf : Cond.instanceMethod yX9_servesOf ∈ zAll := zAll_of 1158 (by decide +kernel) (by decide +kernel)
theorem zk_sel_Model_servesOf : Cond.selects RX9 yX9_servesOf yX9_servesOf ∈ zAll := zAll_of 53 (by decide +kernel) (by decide +kernel)
set_option maxRecDepth 40000 in
theorem zk_code_Model_deepOf : Cond.code yX9_deepOf cX9_deepOf 3 (some .int) ∈ zAll := zAll_of 1163 rfl rfl
theorem zk_im_Model_deepOf : Cond.instanceMethod yX9_deepOf ∈ zAll := zAll_of 1162 (by decide +kernel) (by decide +kernel)
theorem zk_sel_Model_deepOf : Cond.selects RX9 yX9_deepOf yX9_deepOf ∈ zAll := zAll_of 54 (by decide +kernel) (by decide +kernel)
set_option maxRecDepth 40000 in
theorem zk_code_Model_worthOf : Cond.code yX9_worthOf cX9_worthOf 2 (some .int) ∈ zAll := zAll_of 1167 rfl rfl
theorem zk_im_Model_worthOf : Cond.instanceMethod yX9_worthOf ∈ zAll := zAll_of 1166 (by decide +kernel) (by decide +kernel)
theorem zk_sel_Model_worthOf : Cond.selects RX9 yX9_worthOf yX9_worthOf ∈ zAll := zAll_of 55 (by decide +kernel) (by decide +kernel)
set_option maxRecDepth 40000 in
theorem zk_code_Model_worth : Cond.code yX9_worth cX9_worth 3 (some .int) ∈ zAll := zAll_of 1151 rfl rfl
theorem zk_im_Model_worth : Cond.instanceMethod yX9_worth ∈ zAll := zAll_of 1149 (by decide +kernel) (by decide +kernel)
theorem zk_sel_Model_worth : Cond.selects RX9 yX9_worth yX9_worth ∈ zAll := zAll_of 1150 (by decide +kernel) (by decide +kernel)
set_option maxRecDepth 40000 in
theorem zk_code_Model_best : Cond.code yX9_best cX9_best 3 (some .int) ∈ zAll := zAll_of 1171 rfl rfl
theorem zk_im_Model_best : Cond.instanceMethod yX9_best ∈ zAll := zAll_of 1169 (by decide +kernel) (by decide +kernel)
theorem zk_sel_Model_best : Cond.selects RX9 yX9_best yX9_best ∈ zAll := zAll_of 1170 (by decide +kernel) (by decide +kernel)
set_option maxRecDepth 40000 in
theorem zk_code_Model_layTried : Cond.code yX9_layTried cX9_layTried 6 none ∈ zAll := zAll_of 1183 rfl rfl
theorem zk_im_Model_layTried : Cond.instanceMethod yX9_layTried ∈ zAll := zAll_of 1182 (by decide +kernel) (by decide +kernel)
theorem zk_sel_Model_layTried : Cond.selects RX9 yX9_layTried yX9_layTried ∈ zAll := zAll_of 57 (by decide +kernel) (by decide +kernel)
set_option maxRecDepth 40000 in
theorem zk_code_Model_nextCode : Cond.code yX9_nextCode cX9_nextCode 10 (some .int) ∈ zAll := zAll_of 1179 rfl rfl
theorem zk_im_Model_nextCode : Cond.instanceMethod yX9_nextCode ∈ zAll := zAll_of 1178 (by decide +kernel) (by decide +kernel)
theorem zk_sel_Model_nextCode : Cond.selects RX9 yX9_nextCode yX9_nextCode ∈ zAll := zAll_of 56 (by decide +kernel) (by decide +kernel)
set_option maxRecDepth 40000 in
theorem zk_code_Model_next : Cond.code yX9_next cX9_next 1 (some .int) ∈ zAll := zAll_of 1175 rfl rfl
theorem zk_im_Model_next : Cond.instanceMethod yX9_next ∈ zAll := zAll_of 1173 (by decide +kernel) (by decide +kernel)
theorem zk_sel_Model_next : Cond.selects RX9 yX9_next yX9_next ∈ zAll := zAll_of 1174 (by decide +kernel) (by decide +kernel)
set_option maxRecDepth 40000 in
theorem zk_code_Model_makeNext : Cond.code yX9_makeNext cX9_makeNext 2 (some .int) ∈ zAll := zAll_of 1187 rfl rfl
theorem zk_im_Model_makeNext : Cond.instanceMethod yX9_makeNext ∈ zAll := zAll_of 1185 (by decide +kernel) (by decide +kernel)
theorem zk_sel_Model_makeNext : Cond.selects RX9 yX9_makeNext yX9_makeNext ∈ zAll := zAll_of 1186 (by decide +kernel) (by decide +kernel)
set_option maxRecDepth 40000 in
theorem zk_code_Model_isNeeded : Cond.code yX9_isNeeded cX9_isNeeded 4 (some .boolean) ∈ zAll := zAll_of 1196 rfl rfl
theorem zk_im_Model_isNeeded : Cond.instanceMethod yX9_isNeeded ∈ zAll := zAll_of 1195 (by decide +kernel) (by decide +kernel)
theorem zk_sel_Model_isNeeded : Cond.selects RX9 yX9_isNeeded yX9_isNeeded ∈ zAll := zAll_of 58 (by decide +kernel) (by decide +kernel)
set_option maxRecDepth 40000 in
theorem zk_code_Model_needed : Cond.code yX9_needed cX9_needed 2 (some .int) ∈ zAll := zAll_of 1192 rfl rfl
theorem zk_im_Model_needed : Cond.instanceMethod yX9_needed ∈ zAll := zAll_of 1190 (by decide +kernel) (by decide +kernel)
theorem zk_sel_Model_needed : Cond.selects RX9 yX9_needed yX9_needed ∈ zAll := zAll_of 1191 (by decide +kernel) (by decide +kernel)
set_option maxRecDepth 40000 in
theorem zk_code_Model_least : Cond.code yX9_least cX9_least 3 (some .int) ∈ zAll := zAll_of 1200 rfl rfl
theorem zk_im_Model_least : Cond.instanceMethod yX9_least ∈ zAll := zAll_of 1198 (by decide +kernel) (by decide +kernel)
theorem zk_sel_Model_least : Cond.selects RX9 yX9_least yX9_least ∈ zAll := zAll_of 1199 (by decide +kernel) (by decide +kernel)
set_option maxRecDepth 40000 in
theorem zk_code_Model_turned : Cond.code yX9_turned cX9_turned 4 (some .int) ∈ zAll := zAll_of 1208 rfl rfl
theorem zk_im_Model_turned : Cond.instanceMethod yX9_turned ∈ zAll := zAll_of 1207 (by decide +kernel) (by decide +kernel)
theorem zk_sel_Model_turned : Cond.selects RX9 yX9_turned yX9_turned ∈ zAll := zAll_of 59 (by decide +kernel) (by decide +kernel)
set_option maxRecDepth 40000 in
theorem zk_code_Model_even : Cond.code yX9_even cX9_even 2 (some .int) ∈ zAll := zAll_of 1204 rfl rfl
theorem zk_im_Model_even : Cond.instanceMethod yX9_even ∈ zAll := zAll_of 1202 (by decide +kernel) (by decide +kernel)
theorem zk_sel_Model_even : Cond.selects RX9 yX9_even yX9_even ∈ zAll := zAll_of 1203 (by decide +kernel) (by decide +kernel)
set_option maxRecDepth 40000 in
theorem zk_code_Model_keep : Cond.code yX9_keep cX9_keep 3 (some .int) ∈ zAll := zAll_of 1212 rfl rfl
theorem zk_im_Model_keep : Cond.instanceMethod yX9_keep ∈ zAll := zAll_of 1210 (by decide +kernel) (by decide +kernel)
theorem zk_sel_Model_keep : Cond.selects RX9 yX9_keep yX9_keep ∈ zAll := zAll_of 1211 (by decide +kernel) (by decide +kernel)
set_option maxRecDepth 40000 in
theorem zk_code_Model_same : Cond.code yX9_same cX9_same 5 (some .int) ∈ zAll := zAll_of 1216 rfl rfl
theorem zk_im_Model_same : Cond.instanceMethod yX9_same ∈ zAll := zAll_of 1214 (by decide +kernel) (by decide +kernel)
theorem zk_sel_Model_same : Cond.selects RX9 yX9_same yX9_same ∈ zAll := zAll_of 1215 (by decide +kernel) (by decide +kernel)
set_option maxRecDepth 40000 in
theorem zk_code_Model_layImage : Cond.code yX9_layImage cX9_layImage 7 none ∈ zAll := zAll_of 1232 rfl rfl
theorem zk_im_Model_layImage : Cond.instanceMethod yX9_layImage ∈ zAll := zAll_of 1231 (by decide +kernel) (by decide +kernel)
theorem zk_sel_Model_layImage : Cond.selects RX9 yX9_layImage yX9_layImage ∈ zAll := zAll_of 62 (by decide +kernel) (by decide +kernel)
set_option maxRecDepth 40000 in
theorem zk_code_Model_layLaws : Cond.code yX9_layLaws cX9_layLaws 8 none ∈ zAll := zAll_of 1228 rfl rfl
theorem zk_im_Model_layLaws : Cond.instanceMethod yX9_layLaws ∈ zAll := zAll_of 1227 (by decide +kernel) (by decide +kernel)
theorem zk_sel_Model_layLaws : Cond.selects RX9 yX9_layLaws yX9_layLaws ∈ zAll := zAll_of 61 (by decide +kernel) (by decide +kernel)
set_option maxRecDepth 40000 in
theorem zk_code_Model_layParts : Cond.code yX9_layParts cX9_layParts 4 none ∈ zAll := zAll_of 1236 rfl rfl
theorem zk_im_Model_layParts : Cond.instanceMethod yX9_layParts ∈ zAll := zAll_of 1235 (by decide +kernel) (by decide +kernel)
theorem zk_sel_Model_layParts : Cond.selects RX9 yX9_layParts yX9_layParts ∈ zAll := zAll_of 63 (by decide +kernel) (by decide +kernel)
set_option maxRecDepth 40000 in
theorem zk_code_Model_joinAll : Cond.code yX9_joinAll cX9_joinAll 8 none ∈ zAll := zAll_of 1240 rfl rfl
theorem zk_im_Model_joinAll : Cond.instanceMethod yX9_joinAll ∈ zAll := zAll_of 1239 (by decide +kernel) (by decide +kernel)
theorem zk_sel_Model_joinAll : Cond.selects RX9 yX9_joinAll yX9_joinAll ∈ zAll := zAll_of 64 (by decide +kernel) (by decide +kernel)
set_option maxRecDepth 40000 in
theorem zk_code_Model_layShown : Cond.code yX9_layShown cX9_layShown 4 none ∈ zAll := zAll_of 1224 rfl rfl
theorem zk_im_Model_layShown : Cond.instanceMethod yX9_layShown ∈ zAll := zAll_of 1223 (by decide +kernel) (by decide +kernel)
theorem zk_sel_Model_layShown : Cond.selects RX9 yX9_layShown yX9_layShown ∈ zAll := zAll_of 60 (by decide +kernel) (by decide +kernel)
set_option maxRecDepth 40000 in
theorem zk_code_Model_shown : Cond.code yX9_shown cX9_shown 3 (some .int) ∈ zAll := zAll_of 1220 rfl rfl
theorem zk_im_Model_shown : Cond.instanceMethod yX9_shown ∈ zAll := zAll_of 1218 (by decide +kernel) (by decide +kernel)
theorem zk_sel_Model_shown : Cond.selects RX9 yX9_shown yX9_shown ∈ zAll := zAll_of 1219 (by decide +kernel) (by decide +kernel)
set_option maxRecDepth 40000 in
theorem zk_code_Model_groups : Cond.code yX9_groups cX9_groups 3 (some .int) ∈ zAll := zAll_of 1244 rfl rfl
theorem zk_im_Model_groups : Cond.instanceMethod yX9_groups ∈ zAll := zAll_of 1242 (by decide +kernel) (by decide +kernel)
theorem zk_sel_Model_groups : Cond.selects RX9 yX9_groups yX9_groups ∈ zAll := zAll_of 1243 (by decide +kernel) (by decide +kernel)
set_option maxRecDepth 40000 in
theorem zk_code_Model_first : Cond.code yX9_first cX9_first 2 (some .int) ∈ zAll := zAll_of 1248 rfl rfl
theorem zk_im_Model_first : Cond.instanceMethod yX9_first ∈ zAll := zAll_of 1246 (by decide +kernel) (by decide +kernel)
theorem zk_sel_Model_first : Cond.selects RX9 yX9_first yX9_first ∈ zAll := zAll_of 1247 (by decide +kernel) (by decide +kernel)
set_option maxRecDepth 40000 in
theorem zk_code_Model_count : Cond.code yX9_count cX9_count 4 (some .int) ∈ zAll := zAll_of 1252 rfl rfl
theorem zk_im_Model_count : Cond.instanceMethod yX9_count ∈ zAll := zAll_of 1250 (by decide +kernel) (by decide +kernel)
theorem zk_sel_Model_count : Cond.selects RX9 yX9_count yX9_count ∈ zAll := zAll_of 1251 (by decide +kernel) (by decide +kernel)
set_option maxRecDepth 40000 in
theorem zk_code_Math_max : Cond.code yJ9_max_7cf53 cJ9_max_7cf53 2 (some .int) ∈ zAll := zAll_of 802 rfl rfl
theorem zk_st_Math_max : Cond.static yJ9_max_7cf53 ∈ zAll := zAll_of 801 (by decide +kernel) (by decide +kernel)
set_option maxRecDepth 40000 in
theorem zk_code_Math_min : Cond.code yJ9_min_7cf53 cJ9_min_7cf53 2 (some .int) ∈ zAll := zAll_of 383 rfl rfl
theorem zk_st_Math_min : Cond.static yJ9_min_7cf53 ∈ zAll := zAll_of 382 (by decide +kernel) (by decide +kernel)
theorem zk_ini_Bits : Cond.initialized RX0 ∈ zAll := zAll_of 77 (by decide +kernel) (by decide +kernel)
theorem zk_ini_Catalog : Cond.initialized RX1 ∈ zAll := zAll_of 70 (by decide +kernel) (by decide +kernel)
theorem zk_ini_Notions : Cond.initialized RX2 ∈ zAll := zAll_of 72 (by decide +kernel) (by decide +kernel)
theorem zk_ini_Page : Cond.initialized RX3 ∈ zAll := zAll_of 68 (by decide +kernel) (by decide +kernel)
theorem zk_ini_Rounds : Cond.initialized RX4 ∈ zAll := zAll_of 74 (by decide +kernel) (by decide +kernel)
theorem zk_ini_Rows : Cond.initialized RX5 ∈ zAll := zAll_of 73 (by decide +kernel) (by decide +kernel)
theorem zk_ini_Table : Cond.initialized RX6 ∈ zAll := zAll_of 69 (by decide +kernel) (by decide +kernel)
theorem zk_ini_Terms : Cond.initialized RX7 ∈ zAll := zAll_of 67 (by decide +kernel) (by decide +kernel)
theorem zk_ini_S : Cond.initialized RX8 ∈ zAll := zAll_of 66 (by decide +kernel) (by decide +kernel)
theorem zk_ini_Model : Cond.initialized RX9 ∈ zAll := zAll_of 75 (by decide +kernel) (by decide +kernel)
theorem zk_ini_Integer : Cond.initialized RJ6 ∈ zAll := zAll_of 78 (by decide +kernel) (by decide +kernel)
theorem zk_ini_Math : Cond.initialized RJ9 ∈ zAll := zAll_of 76 (by decide +kernel) (by decide +kernel)
theorem zk_ini_J10 : Cond.initialized RJ10 ∈ zAll := zAll_of 79 (by decide +kernel) (by decide +kernel)
theorem zk_ini_Arrays : Cond.initialized RJ7 ∈ zAll := zAll_of 71 (by decide +kernel) (by decide +kernel)
theorem zk_ini_MathS : Cond.initialized "java/lang/Math" ∈ zAll := zAll_of 76 (by decide +kernel) (by decide +kernel)
theorem zk_st_Lmax : Cond.static Lib.Math.max.name ∈ zAll := zAll_of 801 (by decide +kernel) (by decide +kernel)
set_option maxRecDepth 40000 in
theorem zk_code_Lmax : Cond.code Lib.Math.max.name Lib.Math.max.code 2 (some .int) ∈ zAll := zAll_of 802 rfl rfl
theorem zk_st_Lmin : Cond.static Lib.Math.min.name ∈ zAll := zAll_of 382 (by decide +kernel) (by decide +kernel)
set_option maxRecDepth 40000 in
theorem zk_code_Lmin : Cond.code Lib.Math.min.name Lib.Math.min.code 2 (some .int) ∈ zAll := zAll_of 383 rfl rfl
theorem zin_Catalog : ∀ w ∈ u_ws RX1 TX1 8, w ∈ zAll := by decide +kernel
theorem zin_Notions : ∀ w ∈ u_ws RX2 TX2 7, w ∈ zAll := by decide +kernel
theorem zin_Page : ∀ w ∈ u_ws RX3 TX3 3, w ∈ zAll := by decide +kernel
theorem zin_Rounds : ∀ w ∈ u_ws RX4 TX4 6, w ∈ zAll := by decide +kernel
theorem zin_Rows : ∀ w ∈ u_ws RX5 TX5 14, w ∈ zAll := by decide +kernel
theorem zin_Table : ∀ w ∈ u_ws RX6 TX6 3, w ∈ zAll := by decide +kernel
theorem zin_Terms : ∀ w ∈ u_ws RX7 TX7 4, w ∈ zAll := by decide +kernel
theorem zin_S : ∀ w ∈ u_ws RX8 TX8 8, w ∈ zAll := by decide +kernel
theorem zin_Model : ∀ w ∈ u_ws RX9 TX9 38, w ∈ zAll := by decide +kernel
