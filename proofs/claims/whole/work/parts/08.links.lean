theorem tb {i : Nat} {w : Cond} (h : lw_tbl[i]? = some w) (hg : goodWord w = true) : w ∈ gw := gw_in (List.mem_of_getElem? h) hg
abbrev mX10_slot : sM := (yX10_slot, cX10_slot, 2, (some .int), 0, 0)
theorem okX10_slot : MOk mX10_slot := ⟨by decide, (tb (i := 769) (by decide +kernel) (by decide +kernel)), (tb (i := 128) (by decide +kernel) (by decide +kernel)), by decide, by decide⟩
abbrev mX10_agree : sM := (yX10_agree, cX10_agree, 6, (some .boolean), 0, 0)
theorem okX10_agree : MOk mX10_agree := ⟨by decide, (tb (i := 1104) (by decide +kernel) (by decide +kernel)), (tb (i := 128) (by decide +kernel) (by decide +kernel)), by decide, by decide⟩
abbrev mX2_hears : sM := (yX2_hears, cX2_hears, 6, (some .boolean), 0, 0)
theorem okX2_hears : MOk mX2_hears := ⟨by decide, (tb (i := 948) (by decide +kernel) (by decide +kernel)), (tb (i := 137) (by decide +kernel) (by decide +kernel)), by decide, by decide⟩
abbrev mX1_wasGivenBy : sM := (yX1_wasGivenBy, cX1_wasGivenBy, 3, (some .boolean), 0, 0)
theorem okX1_wasGivenBy : MOk mX1_wasGivenBy := ⟨by decide, (tb (i := 974) (by decide +kernel) (by decide +kernel)), (tb (i := 133) (by decide +kernel) (by decide +kernel)), by decide, by decide⟩
abbrev mX1_echoesAt : sM := (yX1_echoesAt, cX1_echoesAt, 2, (some .boolean), 0, 0)
theorem okX1_echoesAt : MOk mX1_echoesAt := ⟨by decide, (tb (i := 922) (by decide +kernel) (by decide +kernel)), (tb (i := 133) (by decide +kernel) (by decide +kernel)), by decide, by decide⟩
abbrev mX1_restsGiven : sM := (yX1_restsGiven, cX1_restsGiven, 3, (some .int), 0, 0)
theorem okX1_restsGiven : MOk mX1_restsGiven := ⟨by decide, (tb (i := 1035) (by decide +kernel) (by decide +kernel)), (tb (i := 133) (by decide +kernel) (by decide +kernel)), by decide, by decide⟩
abbrev mX1_hush : sM := (yX1_hush, cX1_hush, 3, none, 0, 0)
theorem okX1_hush : MOk mX1_hush := ⟨by decide, (tb (i := 1043) (by decide +kernel) (by decide +kernel)), (tb (i := 133) (by decide +kernel) (by decide +kernel)), by decide, by decide⟩
abbrev mX1_blow : sM := (yX1_blow, cX1_blow, 4, (some .int), 0, 0)
theorem okX1_blow : MOk mX1_blow := ⟨by decide, (tb (i := 1174) (by decide +kernel) (by decide +kernel)), (tb (i := 133) (by decide +kernel) (by decide +kernel)), by decide, by decide⟩
abbrev mX1_giveOther : sM := (yX1_giveOther, cX1_giveOther, 3, none, 0, 0)
theorem okX1_giveOther : MOk mX1_giveOther := ⟨by decide, (tb (i := 1263) (by decide +kernel) (by decide +kernel)), (tb (i := 133) (by decide +kernel) (by decide +kernel)), by decide, by decide⟩
abbrev mX1_sendEchoes : sM := (yX1_sendEchoes, cX1_sendEchoes, 3, none, 0, 0)
theorem okX1_sendEchoes : MOk mX1_sendEchoes := ⟨by decide, (tb (i := 918) (by decide +kernel) (by decide +kernel)), (tb (i := 133) (by decide +kernel) (by decide +kernel)), by decide, by decide⟩
abbrev mX1_repeatsAfter : sM := (yX1_repeatsAfter, cX1_repeatsAfter, 3, (some .boolean), 0, 0)
theorem okX1_repeatsAfter : MOk mX1_repeatsAfter := ⟨by decide, (tb (i := 1203) (by decide +kernel) (by decide +kernel)), (tb (i := 133) (by decide +kernel) (by decide +kernel)), by decide, by decide⟩
abbrev mX2_placeOf : sM := (yX2_placeOf, cX2_placeOf, 2, (some .int), 0, 0)
theorem okX2_placeOf : MOk mX2_placeOf := ⟨by decide, (tb (i := 964) (by decide +kernel) (by decide +kernel)), (tb (i := 137) (by decide +kernel) (by decide +kernel)), by decide, by decide⟩
abbrev mX2_hasMade : sM := (yX2_hasMade, cX2_hasMade, 3, (some .boolean), 0, 0)
theorem okX2_hasMade : MOk mX2_hasMade := ⟨by decide, (tb (i := 1019) (by decide +kernel) (by decide +kernel)), (tb (i := 137) (by decide +kernel) (by decide +kernel)), by decide, by decide⟩
abbrev mX2_madeAsTold : sM := (yX2_madeAsTold, cX2_madeAsTold, 4, (some .boolean), 0, 0)
theorem okX2_madeAsTold : MOk mX2_madeAsTold := ⟨by decide, (tb (i := 1051) (by decide +kernel) (by decide +kernel)), (tb (i := 137) (by decide +kernel) (by decide +kernel)), by decide, by decide⟩
abbrev mX2_madeTheSame : sM := (yX2_madeTheSame, cX2_madeTheSame, 3, (some .boolean), 0, 0)
theorem okX2_madeTheSame : MOk mX2_madeTheSame := ⟨by decide, (tb (i := 1183) (by decide +kernel) (by decide +kernel)), (tb (i := 137) (by decide +kernel) (by decide +kernel)), by decide, by decide⟩
abbrev mX3_moveAt : sM := (yX3_moveAt, cX3_moveAt, 2, (some .int), 0, 0)
theorem okX3_moveAt : MOk mX3_moveAt := ⟨by decide, (tb (i := 985) (by decide +kernel) (by decide +kernel)), (tb (i := 134) (by decide +kernel) (by decide +kernel)), by decide, by decide⟩
abbrev mX4_reset : sM := (yX4_reset, cX4_reset, 1, none, 0, 0)
theorem okX4_reset : MOk mX4_reset := ⟨by decide, (tb (i := 281) (by decide +kernel) (by decide +kernel)), (tb (i := 130) (by decide +kernel) (by decide +kernel)), by decide, by decide⟩
abbrev mX10_reset : sM := (yX10_reset, cX10_reset, 2, none, 0, 0)
theorem okX10_reset : MOk mX10_reset := ⟨by decide, (tb (i := 176) (by decide +kernel) (by decide +kernel)), (tb (i := 128) (by decide +kernel) (by decide +kernel)), by decide, by decide⟩
abbrev mX5_isLetter : sM := (yX5_isLetter, cX5_isLetter, 1, (some .boolean), 0, 0)
theorem okX5_isLetter : MOk mX5_isLetter := ⟨by decide, (tb (i := 658) (by decide +kernel) (by decide +kernel)), (tb (i := 132) (by decide +kernel) (by decide +kernel)), by decide, by decide⟩
abbrev mX5_keepToken : sM := (yX5_keepToken, cX5_keepToken, 4, none, 0, 0)
theorem okX5_keepToken : MOk mX5_keepToken := ⟨by decide, (tb (i := 720) (by decide +kernel) (by decide +kernel)), (tb (i := 132) (by decide +kernel) (by decide +kernel)), by decide, by decide⟩
abbrev mX5_isDigit : sM := (yX5_isDigit, cX5_isDigit, 1, (some .boolean), 0, 0)
theorem okX5_isDigit : MOk mX5_isDigit := ⟨by decide, (tb (i := 723) (by decide +kernel) (by decide +kernel)), (tb (i := 132) (by decide +kernel) (by decide +kernel)), by decide, by decide⟩
abbrev mX5_number : sM := (yX5_number, cX5_number, 5, (some .int), 0, 0)
theorem okX5_number : MOk mX5_number := ⟨by decide, (tb (i := 729) (by decide +kernel) (by decide +kernel)), (tb (i := 132) (by decide +kernel) (by decide +kernel)), by decide, by decide⟩
abbrev mX6_reset : sM := (yX6_reset, cX6_reset, 1, none, 0, 0)
theorem okX6_reset : MOk mX6_reset := ⟨by decide, (tb (i := 741) (by decide +kernel) (by decide +kernel)), (tb (i := 129) (by decide +kernel) (by decide +kernel)), by decide, by decide⟩
abbrev mX5_next : sM := (yX5_next, cX5_next, 1, none, 0, 0)
theorem okX5_next : MOk mX5_next := ⟨by decide, (tb (i := 746) (by decide +kernel) (by decide +kernel)), (tb (i := 132) (by decide +kernel) (by decide +kernel)), by decide, by decide⟩
abbrev mX5_note : sM := (yX5_note, cX5_note, 4, none, 0, 0)
theorem okX5_note : MOk mX5_note := ⟨by decide, (tb (i := 766) (by decide +kernel) (by decide +kernel)), (tb (i := 132) (by decide +kernel) (by decide +kernel)), by decide, by decide⟩
abbrev mX5_isMoveHere : sM := (yX5_isMoveHere, cX5_isMoveHere, 1, (some .boolean), 0, 0)
theorem okX5_isMoveHere : MOk mX5_isMoveHere := ⟨by decide, (tb (i := 777) (by decide +kernel) (by decide +kernel)), (tb (i := 132) (by decide +kernel) (by decide +kernel)), by decide, by decide⟩
abbrev mX5_isBeatHere : sM := (yX5_isBeatHere, cX5_isBeatHere, 1, (some .boolean), 0, 0)
theorem okX5_isBeatHere : MOk mX5_isBeatHere := ⟨by decide, (tb (i := 781) (by decide +kernel) (by decide +kernel)), (tb (i := 132) (by decide +kernel) (by decide +kernel)), by decide, by decide⟩
abbrev mX5_mostOfArmy : sM := (yX5_mostOfArmy, cX5_mostOfArmy, 1, (some .int), 0, 0)
theorem okX5_mostOfArmy : MOk mX5_mostOfArmy := ⟨by decide, (tb (i := 804) (by decide +kernel) (by decide +kernel)), (tb (i := 132) (by decide +kernel) (by decide +kernel)), by decide, by decide⟩
abbrev mX5_addVillage : sM := (yX5_addVillage, cX5_addVillage, 6, none, 0, 0)
theorem okX5_addVillage : MOk mX5_addVillage := ⟨by decide, (tb (i := 828) (by decide +kernel) (by decide +kernel)), (tb (i := 132) (by decide +kernel) (by decide +kernel)), by decide, by decide⟩
abbrev mX7_swapped : sM := (yX7_swapped, cX7_swapped, 3, (some .int), 0, 0)
theorem okX7_swapped : MOk mX7_swapped := ⟨by decide, (tb (i := 1144) (by decide +kernel) (by decide +kernel)), (tb (i := 135) (by decide +kernel) (by decide +kernel)), by decide, by decide⟩
abbrev mX7_say : sM := (yX7_say, cX7_say, 4, none, 0, 0)
theorem okX7_say : MOk mX7_say := ⟨by decide, (tb (i := 1148) (by decide +kernel) (by decide +kernel)), (tb (i := 135) (by decide +kernel) (by decide +kernel)), by decide, by decide⟩
abbrev mX7_sameVersion : sM := (yX7_sameVersion, cX7_sameVersion, 4, (some .boolean), 0, 0)
theorem okX7_sameVersion : MOk mX7_sameVersion := ⟨by decide, (tb (i := 1160) (by decide +kernel) (by decide +kernel)), (tb (i := 135) (by decide +kernel) (by decide +kernel)), by decide, by decide⟩
abbrev mX8_push : sM := (yX8_push, cX8_push, 3, none, 0, 0)
theorem okX8_push : MOk mX8_push := ⟨by decide, (tb (i := 629) (by decide +kernel) (by decide +kernel)), (tb (i := 127) (by decide +kernel) (by decide +kernel)), by decide, by decide⟩
abbrev mX9_depth : sM := (yX9_depth, cX9_depth, 5, (some .int), 0, 0)
theorem okX9_depth : MOk mX9_depth := ⟨by decide, (tb (i := 1125) (by decide +kernel) (by decide +kernel)), (tb (i := 131) (by decide +kernel) (by decide +kernel)), by decide, by decide⟩
abbrev mX11_end : sM := (yX11_end, cX11_end, 2, (some .int), 0, 0)
theorem okX11_end : MOk mX11_end := ⟨by decide, (tb (i := 633) (by decide +kernel) (by decide +kernel)), (tb (i := 126) (by decide +kernel) (by decide +kernel)), by decide, by decide⟩
abbrev mX11_isSort : sM := (yX11_isSort, cX11_isSort, 1, (some .boolean), 0, 0)
theorem okX11_isSort : MOk mX11_isSort := ⟨by decide, (tb (i := 640) (by decide +kernel) (by decide +kernel)), (tb (i := 126) (by decide +kernel) (by decide +kernel)), by decide, by decide⟩
abbrev mX11_mayStandAt : sM := (yX11_mayStandAt, cX11_mayStandAt, 4, (some .boolean), 0, 0)
theorem okX11_mayStandAt : MOk mX11_mayStandAt := ⟨by decide, (tb (i := 644) (by decide +kernel) (by decide +kernel)), (tb (i := 126) (by decide +kernel) (by decide +kernel)), by decide, by decide⟩
abbrev mX11_fault : sM := (yX11_fault, cX11_fault, 2, (some .int), 0, 0)
theorem okX11_fault : MOk mX11_fault := ⟨by decide, (tb (i := 862) (by decide +kernel) (by decide +kernel)), (tb (i := 126) (by decide +kernel) (by decide +kernel)), by decide, by decide⟩
abbrev mX11_warAt : sM := (yX11_warAt, cX11_warAt, 2, (some (.object "OneDrum$War")), 0, 0)
theorem okX11_warAt : MOk mX11_warAt := ⟨by decide, (tb (i := 870) (by decide +kernel) (by decide +kernel)), (tb (i := 126) (by decide +kernel) (by decide +kernel)), by decide, by decide⟩
abbrev mX11_isArmy : sM := (yX11_isArmy, cX11_isArmy, 1, (some .boolean), 0, 0)
theorem okX11_isArmy : MOk mX11_isArmy := ⟨by decide, (tb (i := 873) (by decide +kernel) (by decide +kernel)), (tb (i := 126) (by decide +kernel) (by decide +kernel)), by decide, by decide⟩
abbrev mX11_ofArmy : sM := (yX11_ofArmy, cX11_ofArmy, 3, (some .int), 0, 0)
theorem okX11_ofArmy : MOk mX11_ofArmy := ⟨by decide, (tb (i := 876) (by decide +kernel) (by decide +kernel)), (tb (i := 126) (by decide +kernel) (by decide +kernel)), by decide, by decide⟩
abbrev mX11_scoreAt : sM := (yX11_scoreAt, cX11_scoreAt, 2, (some (.object "OneDrum$Score")), 0, 0)
theorem okX11_scoreAt : MOk mX11_scoreAt := ⟨by decide, (tb (i := 892) (by decide +kernel) (by decide +kernel)), (tb (i := 126) (by decide +kernel) (by decide +kernel)), by decide, by decide⟩
abbrev mX11_isMove : sM := (yX11_isMove, cX11_isMove, 1, (some .boolean), 0, 0)
theorem okX11_isMove : MOk mX11_isMove := ⟨by decide, (tb (i := 1002) (by decide +kernel) (by decide +kernel)), (tb (i := 126) (by decide +kernel) (by decide +kernel)), by decide, by decide⟩
abbrev mX11_hearingAt : sM := (yX11_hearingAt, cX11_hearingAt, 2, (some (.object "OneDrum$Hearing")), 0, 0)
theorem okX11_hearingAt : MOk mX11_hearingAt := ⟨by decide, (tb (i := 1027) (by decide +kernel) (by decide +kernel)), (tb (i := 126) (by decide +kernel) (by decide +kernel)), by decide, by decide⟩
abbrev mX11_villagesAt : sM := (yX11_villagesAt, cX11_villagesAt, 2, (some (.object "OneDrum$Villages")), 0, 0)
theorem okX11_villagesAt : MOk mX11_villagesAt := ⟨by decide, (tb (i := 1121) (by decide +kernel) (by decide +kernel)), (tb (i := 126) (by decide +kernel) (by decide +kernel)), by decide, by decide⟩
abbrev mX11_moveCountsToNothing : sM := (yX11_moveCountsToNothing, cX11_moveCountsToNothing, 2, none, 0, 0)
theorem okX11_moveCountsToNothing : MOk mX11_moveCountsToNothing := ⟨by decide, (tb (i := 1170) (by decide +kernel) (by decide +kernel)), (tb (i := 126) (by decide +kernel) (by decide +kernel)), by decide, by decide⟩
abbrev mX11_countMoves : sM := (yX11_countMoves, cX11_countMoves, 4, none, 0, 0)
theorem okX11_countMoves : MOk mX11_countMoves := ⟨by decide, (tb (i := 1191) (by decide +kernel) (by decide +kernel)), (tb (i := 126) (by decide +kernel) (by decide +kernel)), by decide, by decide⟩
abbrev mX12_isIn : sM := (yX12_isIn, cX12_isIn, 3, (some .boolean), 0, 0)
theorem okX12_isIn : MOk mX12_isIn := ⟨by decide, (tb (i := 1420) (by decide +kernel) (by decide +kernel)), (tb (i := 138) (by decide +kernel) (by decide +kernel)), by decide, by decide⟩
abbrev mX12_feed : sM := (yX12_feed, cX12_feed, 8, (some .int), 0, 0)
theorem okX12_feed : MOk mX12_feed := ⟨by decide, (tb (i := 1409) (by decide +kernel) (by decide +kernel)), (tb (i := 138) (by decide +kernel) (by decide +kernel)), by decide, by decide⟩
abbrev mX12_end : sM := (yX12_end, cX12_end, 2, (some .int), 0, 0)
theorem okX12_end : MOk mX12_end := ⟨by decide, (tb (i := 1413) (by decide +kernel) (by decide +kernel)), (tb (i := 138) (by decide +kernel) (by decide +kernel)), by decide, by decide⟩
abbrev mX12_byteAt : sM := (yX12_byteAt, cX12_byteAt, 2, (some .int), 0, 0)
theorem okX12_byteAt : MOk mX12_byteAt := ⟨by decide, (tb (i := 1436) (by decide +kernel) (by decide +kernel)), (tb (i := 138) (by decide +kernel) (by decide +kernel)), by decide, by decide⟩
abbrev mX12_isLetter : sM := (yX12_isLetter, cX12_isLetter, 1, (some .boolean), 0, 0)
theorem okX12_isLetter : MOk mX12_isLetter := ⟨by decide, (tb (i := 1439) (by decide +kernel) (by decide +kernel)), (tb (i := 138) (by decide +kernel) (by decide +kernel)), by decide, by decide⟩
abbrev mX12_isDigit : sM := (yX12_isDigit, cX12_isDigit, 1, (some .boolean), 0, 0)
theorem okX12_isDigit : MOk mX12_isDigit := ⟨by decide, (tb (i := 1457) (by decide +kernel) (by decide +kernel)), (tb (i := 138) (by decide +kernel) (by decide +kernel)), by decide, by decide⟩
abbrev mX12_four : sM := (yX12_four, cX12_four, 4, (some .long), 0, 0)
theorem okX12_four : MOk mX12_four := ⟨by decide, (tb (i := 1447) (by decide +kernel) (by decide +kernel)), (tb (i := 138) (by decide +kernel) (by decide +kernel)), by decide, by decide⟩
abbrev mX12_ends : sM := (yX12_ends, cX12_ends, 1, none, 0, 0)
theorem okX12_ends : MOk mX12_ends := ⟨by decide, (tb (i := 1473) (by decide +kernel) (by decide +kernel)), (tb (i := 138) (by decide +kernel) (by decide +kernel)), by decide, by decide⟩
abbrev mX12_also : sM := (yX12_also, cX12_also, 3, none, 0, 0)
theorem okX12_also : MOk mX12_also := ⟨by decide, (tb (i := 1485) (by decide +kernel) (by decide +kernel)), (tb (i := 138) (by decide +kernel) (by decide +kernel)), by decide, by decide⟩
abbrev mX12_placeOf : sM := (yX12_placeOf, cX12_placeOf, 2, (some .int), 0, 0)
theorem okX12_placeOf : MOk mX12_placeOf := ⟨by decide, (tb (i := 1519) (by decide +kernel) (by decide +kernel)), (tb (i := 138) (by decide +kernel) (by decide +kernel)), by decide, by decide⟩
abbrev mX12_sizeOf : sM := (yX12_sizeOf, cX12_sizeOf, 1, (some .int), 0, 0)
theorem okX12_sizeOf : MOk mX12_sizeOf := ⟨by decide, (tb (i := 1516) (by decide +kernel) (by decide +kernel)), (tb (i := 138) (by decide +kernel) (by decide +kernel)), by decide, by decide⟩
abbrev mX12_clears : sM := (yX12_clears, cX12_clears, 3, none, 0, 0)
theorem okX12_clears : MOk mX12_clears := ⟨by decide, (tb (i := 1428) (by decide +kernel) (by decide +kernel)), (tb (i := 138) (by decide +kernel) (by decide +kernel)), by decide, by decide⟩
abbrev mX12_fault : sM := (yX12_fault, cX12_fault, 2, (some .int), 0, 0)
theorem okX12_fault : MOk mX12_fault := ⟨by decide, (tb (i := 1523) (by decide +kernel) (by decide +kernel)), (tb (i := 138) (by decide +kernel) (by decide +kernel)), by decide, by decide⟩
abbrev mX12_of : sM := (yX12_of, cX12_of, 2, (some .int), 0, 0)
theorem okX12_of : MOk mX12_of := ⟨by decide, (tb (i := 1535) (by decide +kernel) (by decide +kernel)), (tb (i := 138) (by decide +kernel) (by decide +kernel)), by decide, by decide⟩
abbrev mX12_orderAt : sM := (yX12_orderAt, cX12_orderAt, 3, (some .int), 0, 0)
theorem okX12_orderAt : MOk mX12_orderAt := ⟨by decide, (tb (i := 1554) (by decide +kernel) (by decide +kernel)), (tb (i := 138) (by decide +kernel) (by decide +kernel)), by decide, by decide⟩
abbrev mX12_givesNumber : sM := (yX12_givesNumber, cX12_givesNumber, 6, none, 0, 0)
theorem okX12_givesNumber : MOk mX12_givesNumber := ⟨by decide, (tb (i := 1669) (by decide +kernel) (by decide +kernel)), (tb (i := 138) (by decide +kernel) (by decide +kernel)), by decide, by decide⟩
abbrev mX12_codesOf : sM := (yX12_codesOf, cX12_codesOf, 1, (some .int), 0, 0)
theorem okX12_codesOf : MOk mX12_codesOf := ⟨by decide, (tb (i := 1661) (by decide +kernel) (by decide +kernel)), (tb (i := 138) (by decide +kernel) (by decide +kernel)), by decide, by decide⟩
abbrev mX12_bitsOf : sM := (yX12_bitsOf, cX12_bitsOf, 3, (some .int), 0, 0)
theorem okX12_bitsOf : MOk mX12_bitsOf := ⟨by decide, (tb (i := 1692) (by decide +kernel) (by decide +kernel)), (tb (i := 138) (by decide +kernel) (by decide +kernel)), by decide, by decide⟩
abbrev mX12_lesser : sM := (yX12_lesser, cX12_lesser, 2, (some .int), 0, 0)
theorem okX12_lesser : MOk mX12_lesser := ⟨by decide, (tb (i := 1715) (by decide +kernel) (by decide +kernel)), (tb (i := 138) (by decide +kernel) (by decide +kernel)), by decide, by decide⟩
abbrev mX12_villageOf : sM := (yX12_villageOf, cX12_villageOf, 3, (some .int), 0, 0)
theorem okX12_villageOf : MOk mX12_villageOf := ⟨by decide, (tb (i := 1739) (by decide +kernel) (by decide +kernel)), (tb (i := 138) (by decide +kernel) (by decide +kernel)), by decide, by decide⟩
abbrev mX12_repeats : sM := (yX12_repeats, cX12_repeats, 4, (some .int), 0, 0)
theorem okX12_repeats : MOk mX12_repeats := ⟨by decide, (tb (i := 1759) (by decide +kernel) (by decide +kernel)), (tb (i := 138) (by decide +kernel) (by decide +kernel)), by decide, by decide⟩
abbrev mX12_adds : sM := (yX12_adds, cX12_adds, 3, none, 0, 0)
theorem okX12_adds : MOk mX12_adds := ⟨by decide, (tb (i := 1763) (by decide +kernel) (by decide +kernel)), (tb (i := 138) (by decide +kernel) (by decide +kernel)), by decide, by decide⟩
abbrev mX12_areAlike : sM := (yX12_areAlike, cX12_areAlike, 5, (some .boolean), 0, 0)
theorem okX12_areAlike : MOk mX12_areAlike := ⟨by decide, (tb (i := 1771) (by decide +kernel) (by decide +kernel)), (tb (i := 138) (by decide +kernel) (by decide +kernel)), by decide, by decide⟩
abbrev mX12_below : sM := (yX12_below, cX12_below, 2, (some .int), 0, 0)
theorem okX12_below : MOk mX12_below := ⟨by decide, (tb (i := 1779) (by decide +kernel) (by decide +kernel)), (tb (i := 138) (by decide +kernel) (by decide +kernel)), by decide, by decide⟩
abbrev mX12_madeAlike : sM := (yX12_madeAlike, cX12_madeAlike, 3, (some .boolean), 0, 0)
theorem okX12_madeAlike : MOk mX12_madeAlike := ⟨by decide, (tb (i := 1784) (by decide +kernel) (by decide +kernel)), (tb (i := 138) (by decide +kernel) (by decide +kernel)), by decide, by decide⟩
abbrev mX12_period : sM := (yX12_period, cX12_period, 4, (some .int), 0, 0)
theorem okX12_period : MOk mX12_period := ⟨by decide, (tb (i := 1792) (by decide +kernel) (by decide +kernel)), (tb (i := 138) (by decide +kernel) (by decide +kernel)), by decide, by decide⟩
abbrev mX12_hangsLess : sM := (yX12_hangsLess, cX12_hangsLess, 3, (some .boolean), 0, 0)
theorem okX12_hangsLess : MOk mX12_hangsLess := ⟨by decide, (tb (i := 1818) (by decide +kernel) (by decide +kernel)), (tb (i := 138) (by decide +kernel) (by decide +kernel)), by decide, by decide⟩
abbrev mJ6_bitCount_0f7a4 : sM := (yJ6_bitCount_0f7a4, cJ6_bitCount_0f7a4, 1, (some .int), 0, 0)
theorem okJ6_bitCount_0f7a4 : MOk mJ6_bitCount_0f7a4 := ⟨by decide, (tb (i := 1054) (by decide +kernel) (by decide +kernel)), (tb (i := 145) (by decide +kernel) (by decide +kernel)), by decide, by decide⟩
abbrev mJ6_signum_0f7a4 : sM := (yJ6_signum_0f7a4, cJ6_signum_0f7a4, 1, (some .int), 0, 0)
theorem okJ6_signum_0f7a4 : MOk mJ6_signum_0f7a4 := ⟨by decide, (tb (i := 991) (by decide +kernel) (by decide +kernel)), (tb (i := 145) (by decide +kernel) (by decide +kernel)), by decide, by decide⟩
abbrev mX0_init : sM := (yX0_init, cX0_init, 1, none, 1, 21)
theorem okX0_init : MOk mX0_init := ⟨by decide, (tb (i := 513) (by decide +kernel) (by decide +kernel)), (tb (i := 136) (by decide +kernel) (by decide +kernel)), by decide, by decide⟩
abbrev mX0_take : sM := (yX0_take, cX0_take, 7, none, 1, 21)
theorem okX0_take : MOk mX0_take := ⟨by decide, (tb (i := 1081) (by decide +kernel) (by decide +kernel)), (tb (i := 136) (by decide +kernel) (by decide +kernel)), by decide, by decide⟩
abbrev mX0_fewestChanges : sM := (yX0_fewestChanges, cX0_fewestChanges, 5, (some .int), 1, 21)
theorem okX0_fewestChanges : MOk mX0_fewestChanges := ⟨by decide, (tb (i := 1086) (by decide +kernel) (by decide +kernel)), (tb (i := 136) (by decide +kernel) (by decide +kernel)), by decide, by decide⟩
abbrev mX0_heads : sM := (yX0_heads, cX0_heads, 9, (some .int), 1, 25)
theorem okX0_heads : MOk mX0_heads := ⟨by decide, (tb (i := 1100) (by decide +kernel) (by decide +kernel)), (tb (i := 136) (by decide +kernel) (by decide +kernel)), by decide, by decide⟩
abbrev mX0_readOn : sM := (yX0_readOn, cX0_readOn, 4, none, 1, 21)
theorem okX0_readOn : MOk mX0_readOn := ⟨by decide, (tb (i := 1227) (by decide +kernel) (by decide +kernel)), (tb (i := 136) (by decide +kernel) (by decide +kernel)), by decide, by decide⟩
abbrev mX0_reach : sM := (yX0_reach, cX0_reach, 6, (some .boolean), 1, 21)
theorem okX0_reach : MOk mX0_reach := ⟨by decide, (tb (i := 1243) (by decide +kernel) (by decide +kernel)), (tb (i := 136) (by decide +kernel) (by decide +kernel)), by decide, by decide⟩
abbrev mX1_init : sM := (yX1_init, cX1_init, 1, none, 1, 21)
theorem okX1_init : MOk mX1_init := ⟨by decide, (tb (i := 442) (by decide +kernel) (by decide +kernel)), (tb (i := 133) (by decide +kernel) (by decide +kernel)), by decide, by decide⟩
abbrev mX1_layTurn : sM := (yX1_layTurn, cX1_layTurn, 7, none, 1, 21)
theorem okX1_layTurn : MOk mX1_layTurn := ⟨by decide, (tb (i := 909) (by decide +kernel) (by decide +kernel)), (tb (i := 133) (by decide +kernel) (by decide +kernel)), by decide, by decide⟩
abbrev mX1_play : sM := (yX1_play, cX1_play, 4, none, 1, 22)
theorem okX1_play : MOk mX1_play := ⟨by decide, (tb (i := 914) (by decide +kernel) (by decide +kernel)), (tb (i := 133) (by decide +kernel) (by decide +kernel)), by decide, by decide⟩
abbrev mX1_period : sM := (yX1_period, cX1_period, 2, (some .int), 1, 22)
theorem okX1_period : MOk mX1_period := ⟨by decide, (tb (i := 1199) (by decide +kernel) (by decide +kernel)), (tb (i := 133) (by decide +kernel) (by decide +kernel)), by decide, by decide⟩
abbrev mX2_init : sM := (yX2_init, cX2_init, 1, none, 1, 21)
theorem okX2_init : MOk mX2_init := ⟨by decide, (tb (i := 545) (by decide +kernel) (by decide +kernel)), (tb (i := 137) (by decide +kernel) (by decide +kernel)), by decide, by decide⟩
abbrev mX2_longestOrder : sM := (yX2_longestOrder, cX2_longestOrder, 8, (some .int), 1, 25)
theorem okX2_longestOrder : MOk mX2_longestOrder := ⟨by decide, (tb (i := 943) (by decide +kernel) (by decide +kernel)), (tb (i := 137) (by decide +kernel) (by decide +kernel)), by decide, by decide⟩
abbrev mX2_foreignness : sM := (yX2_foreignness, cX2_foreignness, 6, (some .int), 1, 22)
theorem okX2_foreignness : MOk mX2_foreignness := ⟨by decide, (tb (i := 970) (by decide +kernel) (by decide +kernel)), (tb (i := 137) (by decide +kernel) (by decide +kernel)), by decide, by decide⟩
abbrev mX2_echoedMoves : sM := (yX2_echoedMoves, cX2_echoedMoves, 6, (some .int), 1, 21)
theorem okX2_echoedMoves : MOk mX2_echoedMoves := ⟨by decide, (tb (i := 960) (by decide +kernel) (by decide +kernel)), (tb (i := 137) (by decide +kernel) (by decide +kernel)), by decide, by decide⟩
abbrev mX2_alikeFrom : sM := (yX2_alikeFrom, cX2_alikeFrom, 6, (some .int), 1, 21)
theorem okX2_alikeFrom : MOk mX2_alikeFrom := ⟨by decide, (tb (i := 1211) (by decide +kernel) (by decide +kernel)), (tb (i := 137) (by decide +kernel) (by decide +kernel)), by decide, by decide⟩
abbrev mX3_init : sM := (yX3_init, cX3_init, 1, none, 1, 21)
theorem okX3_init : MOk mX3_init := ⟨by decide, (tb (i := 477) (by decide +kernel) (by decide +kernel)), (tb (i := 134) (by decide +kernel) (by decide +kernel)), by decide, by decide⟩
abbrev mX3_stride : sM := (yX3_stride, cX3_stride, 3, (some .int), 1, 20)
theorem okX3_stride : MOk mX3_stride := ⟨by decide, (tb (i := 988) (by decide +kernel) (by decide +kernel)), (tb (i := 134) (by decide +kernel) (by decide +kernel)), by decide, by decide⟩
abbrev mX4_init : sM := (yX4_init, cX4_init, 1, none, 1, 21)
theorem okX4_init : MOk mX4_init := ⟨by decide, (tb (i := 276) (by decide +kernel) (by decide +kernel)), (tb (i := 130) (by decide +kernel) (by decide +kernel)), by decide, by decide⟩
abbrev mX4_copyFrom : sM := (yX4_copyFrom, cX4_copyFrom, 2, none, 1, 60)
theorem okX4_copyFrom : MOk mX4_copyFrom := ⟨by decide, (tb (i := 852) (by decide +kernel) (by decide +kernel)), (tb (i := 130) (by decide +kernel) (by decide +kernel)), by decide, by decide⟩
abbrev mX10_init : sM := (yX10_init, cX10_init, 1, none, 1, 21)
theorem okX10_init : MOk mX10_init := ⟨by decide, (tb (i := 171) (by decide +kernel) (by decide +kernel)), (tb (i := 128) (by decide +kernel) (by decide +kernel)), by decide, by decide⟩
abbrev mX6_init : sM := (yX6_init, cX6_init, 1, none, 1, 21)
theorem okX6_init : MOk mX6_init := ⟨by decide, (tb (i := 258) (by decide +kernel) (by decide +kernel)), (tb (i := 129) (by decide +kernel) (by decide +kernel)), by decide, by decide⟩
abbrev mX9_init : sM := (yX9_init, cX9_init, 1, none, 1, 21)
theorem okX9_init : MOk mX9_init := ⟨by decide, (tb (i := 298) (by decide +kernel) (by decide +kernel)), (tb (i := 131) (by decide +kernel) (by decide +kernel)), by decide, by decide⟩
abbrev mX5_behindLetters : sM := (yX5_behindLetters, cX5_behindLetters, 4, (some .int), 1, 20)
theorem okX5_behindLetters : MOk mX5_behindLetters := ⟨by decide, (tb (i := 661) (by decide +kernel) (by decide +kernel)), (tb (i := 132) (by decide +kernel) (by decide +kernel)), by decide, by decide⟩
abbrev mX5_behindDigits : sM := (yX5_behindDigits, cX5_behindDigits, 4, (some .int), 1, 20)
theorem okX5_behindDigits : MOk mX5_behindDigits := ⟨by decide, (tb (i := 726) (by decide +kernel) (by decide +kernel)), (tb (i := 132) (by decide +kernel) (by decide +kernel)), by decide, by decide⟩
abbrev mX5_resetDrafts : sM := (yX5_resetDrafts, cX5_resetDrafts, 1, none, 1, 21)
theorem okX5_resetDrafts : MOk mX5_resetDrafts := ⟨by decide, (tb (i := 736) (by decide +kernel) (by decide +kernel)), (tb (i := 132) (by decide +kernel) (by decide +kernel)), by decide, by decide⟩
abbrev mX5_takeNumber : sM := (yX5_takeNumber, cX5_takeNumber, 3, (some .boolean), 1, 23)
theorem okX5_takeNumber : MOk mX5_takeNumber := ⟨by decide, (tb (i := 762) (by decide +kernel) (by decide +kernel)), (tb (i := 132) (by decide +kernel) (by decide +kernel)), by decide, by decide⟩
abbrev mX5_takeMove : sM := (yX5_takeMove, cX5_takeMove, 1, (some .boolean), 1, 20)
theorem okX5_takeMove : MOk mX5_takeMove := ⟨by decide, (tb (i := 773) (by decide +kernel) (by decide +kernel)), (tb (i := 132) (by decide +kernel) (by decide +kernel)), by decide, by decide⟩
abbrev mX5_readOrderBeats : sM := (yX5_readOrderBeats, cX5_readOrderBeats, 4, (some .int), 1, 23)
theorem okX5_readOrderBeats : MOk mX5_readOrderBeats := ⟨by decide, (tb (i := 785) (by decide +kernel) (by decide +kernel)), (tb (i := 132) (by decide +kernel) (by decide +kernel)), by decide, by decide⟩
abbrev mX5_takeBeat : sM := (yX5_takeBeat, cX5_takeBeat, 1, (some .boolean), 1, 20)
theorem okX5_takeBeat : MOk mX5_takeBeat := ⟨by decide, (tb (i := 793) (by decide +kernel) (by decide +kernel)), (tb (i := 132) (by decide +kernel) (by decide +kernel)), by decide, by decide⟩
abbrev mX5_addGiven : sM := (yX5_addGiven, cX5_addGiven, 3, none, 1, 23)
theorem okX5_addGiven : MOk mX5_addGiven := ⟨by decide, (tb (i := 812) (by decide +kernel) (by decide +kernel)), (tb (i := 132) (by decide +kernel) (by decide +kernel)), by decide, by decide⟩
abbrev mX5_takeSemicolon : sM := (yX5_takeSemicolon, cX5_takeSemicolon, 1, (some .boolean), 1, 20)
theorem okX5_takeSemicolon : MOk mX5_takeSemicolon := ⟨by decide, (tb (i := 832) (by decide +kernel) (by decide +kernel)), (tb (i := 132) (by decide +kernel) (by decide +kernel)), by decide, by decide⟩
abbrev mX6_copyFrom : sM := (yX6_copyFrom, cX6_copyFrom, 2, none, 1, 60)
theorem okX6_copyFrom : MOk mX6_copyFrom := ⟨by decide, (tb (i := 847) (by decide +kernel) (by decide +kernel)), (tb (i := 129) (by decide +kernel) (by decide +kernel)), by decide, by decide⟩
abbrev mX6_giveNumber : sM := (yX6_giveNumber, cX6_giveNumber, 6, none, 1, 21)
theorem okX6_giveNumber : MOk mX6_giveNumber := ⟨by decide, (tb (i := 1006) (by decide +kernel) (by decide +kernel)), (tb (i := 129) (by decide +kernel) (by decide +kernel)), by decide, by decide⟩
abbrev mX7_init : sM := (yX7_init, cX7_init, 1, none, 1, 21)
theorem okX7_init : MOk mX7_init := ⟨by decide, (tb (i := 496) (by decide +kernel) (by decide +kernel)), (tb (i := 135) (by decide +kernel) (by decide +kernel)), by decide, by decide⟩
abbrev mX7_repeat : sM := (yX7_repeat, cX7_repeat, 11, none, 1, 23)
theorem okX7_repeat : MOk mX7_repeat := ⟨by decide, (tb (i := 1141) (by decide +kernel) (by decide +kernel)), (tb (i := 135) (by decide +kernel) (by decide +kernel)), by decide, by decide⟩
abbrev mX7_likeBits : sM := (yX7_likeBits, cX7_likeBits, 5, (some .int), 1, 23)
theorem okX7_likeBits : MOk mX7_likeBits := ⟨by decide, (tb (i := 1156) (by decide +kernel) (by decide +kernel)), (tb (i := 135) (by decide +kernel) (by decide +kernel)), by decide, by decide⟩
abbrev mX10_copyFrom : sM := (yX10_copyFrom, cX10_copyFrom, 2, none, 1, 60)
theorem okX10_copyFrom : MOk mX10_copyFrom := ⟨by decide, (tb (i := 840) (by decide +kernel) (by decide +kernel)), (tb (i := 128) (by decide +kernel) (by decide +kernel)), by decide, by decide⟩
abbrev mX9_copyFrom : sM := (yX9_copyFrom, cX9_copyFrom, 2, none, 1, 60)
theorem okX9_copyFrom : MOk mX9_copyFrom := ⟨by decide, (tb (i := 857) (by decide +kernel) (by decide +kernel)), (tb (i := 131) (by decide +kernel) (by decide +kernel)), by decide, by decide⟩
abbrev mX10_sameBeats : sM := (yX10_sameBeats, cX10_sameBeats, 3, (some .boolean), 1, 25)
theorem okX10_sameBeats : MOk mX10_sameBeats := ⟨by decide, (tb (i := 1112) (by decide +kernel) (by decide +kernel)), (tb (i := 128) (by decide +kernel) (by decide +kernel)), by decide, by decide⟩
abbrev mX11_feed : sM := (yX11_feed, cX11_feed, 6, (some .int), 1, 22)
theorem okX11_feed : MOk mX11_feed := ⟨by decide, (tb (i := 625) (by decide +kernel) (by decide +kernel)), (tb (i := 126) (by decide +kernel) (by decide +kernel)), by decide, by decide⟩
abbrev mX11_war : sM := (yX11_war, cX11_war, 4, (some .int), 1, 22)
theorem okX11_war : MOk mX11_war := ⟨by decide, (tb (i := 866) (by decide +kernel) (by decide +kernel)), (tb (i := 126) (by decide +kernel) (by decide +kernel)), by decide, by decide⟩
abbrev mX11_isOrder : sM := (yX11_isOrder, cX11_isOrder, 3, (some .boolean), 1, 20)
theorem okX11_isOrder : MOk mX11_isOrder := ⟨by decide, (tb (i := 883) (by decide +kernel) (by decide +kernel)), (tb (i := 126) (by decide +kernel) (by decide +kernel)), by decide, by decide⟩
abbrev mX11_given : sM := (yX11_given, cX11_given, 5, (some .int), 1, 21)
theorem okX11_given : MOk mX11_given := ⟨by decide, (tb (i := 888) (by decide +kernel) (by decide +kernel)), (tb (i := 126) (by decide +kernel) (by decide +kernel)), by decide, by decide⟩
abbrev mX11_told : sM := (yX11_told, cX11_told, 5, (some .int), 1, 21)
theorem okX11_told : MOk mX11_told := ⟨by decide, (tb (i := 1023) (by decide +kernel) (by decide +kernel)), (tb (i := 126) (by decide +kernel) (by decide +kernel)), by decide, by decide⟩
abbrev mX11_village : sM := (yX11_village, cX11_village, 5, (some .int), 1, 24)
theorem okX11_village : MOk mX11_village := ⟨by decide, (tb (i := 1117) (by decide +kernel) (by decide +kernel)), (tb (i := 126) (by decide +kernel) (by decide +kernel)), by decide, by decide⟩
abbrev mX11_count : sM := (yX11_count, cX11_count, 2, (some .int), 1, 20)
theorem okX11_count : MOk mX11_count := ⟨by decide, (tb (i := 1267) (by decide +kernel) (by decide +kernel)), (tb (i := 126) (by decide +kernel) (by decide +kernel)), by decide, by decide⟩
abbrev mX12_init : sM := (yX12_init, cX12_init, 1, none, 1, 21)
theorem okX12_init : MOk mX12_init := ⟨by decide, (tb (i := 1289) (by decide +kernel) (by decide +kernel)), (tb (i := 138) (by decide +kernel) (by decide +kernel)), by decide, by decide⟩
abbrev mX12_eight : sM := (yX12_eight, cX12_eight, 8, (some .long), 1, 23)
theorem okX12_eight : MOk mX12_eight := ⟨by decide, (tb (i := 1450) (by decide +kernel) (by decide +kernel)), (tb (i := 138) (by decide +kernel) (by decide +kernel)), by decide, by decide⟩
abbrev mX12_isBeat : sM := (yX12_isBeat, cX12_isBeat, 1, (some .boolean), 1, 22)
theorem okX12_isBeat : MOk mX12_isBeat := ⟨by decide, (tb (i := 1489) (by decide +kernel) (by decide +kernel)), (tb (i := 138) (by decide +kernel) (by decide +kernel)), by decide, by decide⟩
abbrev mX12_isMove : sM := (yX12_isMove, cX12_isMove, 1, (some .boolean), 1, 22)
theorem okX12_isMove : MOk mX12_isMove := ⟨by decide, (tb (i := 1509) (by decide +kernel) (by decide +kernel)), (tb (i := 138) (by decide +kernel) (by decide +kernel)), by decide, by decide⟩
abbrev mX12_isOf : sM := (yX12_isOf, cX12_isOf, 3, (some .boolean), 1, 22)
theorem okX12_isOf : MOk mX12_isOf := ⟨by decide, (tb (i := 1424) (by decide +kernel) (by decide +kernel)), (tb (i := 138) (by decide +kernel) (by decide +kernel)), by decide, by decide⟩
abbrev mX12_isArmy : sM := (yX12_isArmy, cX12_isArmy, 1, (some .boolean), 1, 22)
theorem okX12_isArmy : MOk mX12_isArmy := ⟨by decide, (tb (i := 1538) (by decide +kernel) (by decide +kernel)), (tb (i := 138) (by decide +kernel) (by decide +kernel)), by decide, by decide⟩
abbrev mX12_orders : sM := (yX12_orders, cX12_orders, 2, (some .int), 1, 21)
theorem okX12_orders : MOk mX12_orders := ⟨by decide, (tb (i := 1550) (by decide +kernel) (by decide +kernel)), (tb (i := 138) (by decide +kernel) (by decide +kernel)), by decide, by decide⟩
abbrev mX12_lengthOf : sM := (yX12_lengthOf, cX12_lengthOf, 3, (some .int), 1, 22)
theorem okX12_lengthOf : MOk mX12_lengthOf := ⟨by decide, (tb (i := 1558) (by decide +kernel) (by decide +kernel)), (tb (i := 138) (by decide +kernel) (by decide +kernel)), by decide, by decide⟩
abbrev mX12_beatOf : sM := (yX12_beatOf, cX12_beatOf, 4, (some .int), 1, 22)
theorem okX12_beatOf : MOk mX12_beatOf := ⟨by decide, (tb (i := 1562) (by decide +kernel) (by decide +kernel)), (tb (i := 138) (by decide +kernel) (by decide +kernel)), by decide, by decide⟩
abbrev mX12_laysRow : sM := (yX12_laysRow, cX12_laysRow, 4, none, 1, 21)
theorem okX12_laysRow : MOk mX12_laysRow := ⟨by decide, (tb (i := 1586) (by decide +kernel) (by decide +kernel)), (tb (i := 138) (by decide +kernel) (by decide +kernel)), by decide, by decide⟩
abbrev mX12_plays : sM := (yX12_plays, cX12_plays, 4, none, 1, 21)
theorem okX12_plays : MOk mX12_plays := ⟨by decide, (tb (i := 1590) (by decide +kernel) (by decide +kernel)), (tb (i := 138) (by decide +kernel) (by decide +kernel)), by decide, by decide⟩
abbrev mX12_hears : sM := (yX12_hears, cX12_hears, 3, (some .int), 1, 21)
theorem okX12_hears : MOk mX12_hears := ⟨by decide, (tb (i := 1598) (by decide +kernel) (by decide +kernel)), (tb (i := 138) (by decide +kernel) (by decide +kernel)), by decide, by decide⟩
abbrev mX12_placeHeard : sM := (yX12_placeHeard, cX12_placeHeard, 3, (some .int), 1, 21)
theorem okX12_placeHeard : MOk mX12_placeHeard := ⟨by decide, (tb (i := 1606) (by decide +kernel) (by decide +kernel)), (tb (i := 138) (by decide +kernel) (by decide +kernel)), by decide, by decide⟩
abbrev mX12_moveAt : sM := (yX12_moveAt, cX12_moveAt, 4, (some .int), 1, 22)
theorem okX12_moveAt : MOk mX12_moveAt := ⟨by decide, (tb (i := 1646) (by decide +kernel) (by decide +kernel)), (tb (i := 138) (by decide +kernel) (by decide +kernel)), by decide, by decide⟩
abbrev mX12_apart : sM := (yX12_apart, cX12_apart, 8, (some .int), 1, 21)
theorem okX12_apart : MOk mX12_apart := ⟨by decide, (tb (i := 1712) (by decide +kernel) (by decide +kernel)), (tb (i := 138) (by decide +kernel) (by decide +kernel)), by decide, by decide⟩
abbrev mX12_depthOf : sM := (yX12_depthOf, cX12_depthOf, 4, (some .int), 1, 22)
theorem okX12_depthOf : MOk mX12_depthOf := ⟨by decide, (tb (i := 1743) (by decide +kernel) (by decide +kernel)), (tb (i := 138) (by decide +kernel) (by decide +kernel)), by decide, by decide⟩
abbrev mX12_changes : sM := (yX12_changes, cX12_changes, 8, none, 1, 23)
theorem okX12_changes : MOk mX12_changes := ⟨by decide, (tb (i := 1755) (by decide +kernel) (by decide +kernel)), (tb (i := 138) (by decide +kernel) (by decide +kernel)), by decide, by decide⟩
abbrev mX12_count : sM := (yX12_count, cX12_count, 2, (some .int), 1, 22)
theorem okX12_count : MOk mX12_count := ⟨by decide, (tb (i := 1834) (by decide +kernel) (by decide +kernel)), (tb (i := 138) (by decide +kernel) (by decide +kernel)), by decide, by decide⟩
abbrev mX12_image : sM := (yX12_image, cX12_image, 3, (some .boolean), 1, 22)
theorem okX12_image : MOk mX12_image := ⟨by decide, (tb (i := 1838) (by decide +kernel) (by decide +kernel)), (tb (i := 138) (by decide +kernel) (by decide +kernel)), by decide, by decide⟩
abbrev mX12_again : sM := (yX12_again, cX12_again, 3, (some .boolean), 1, 22)
theorem okX12_again : MOk mX12_again := ⟨by decide, (tb (i := 1842) (by decide +kernel) (by decide +kernel)), (tb (i := 138) (by decide +kernel) (by decide +kernel)), by decide, by decide⟩
abbrev mX0_farness : sM := (yX0_farness, cX0_farness, 4, (some .int), 2, 47)
theorem okX0_farness : MOk mX0_farness := ⟨by decide, (tb (i := 1077) (by decide +kernel) (by decide +kernel)), (tb (i := 136) (by decide +kernel) (by decide +kernel)), by decide, by decide⟩
abbrev mX0_readAll : sM := (yX0_readAll, cX0_readAll, 7, none, 2, 44)
theorem okX0_readAll : MOk mX0_readAll := ⟨by decide, (tb (i := 1222) (by decide +kernel) (by decide +kernel)), (tb (i := 136) (by decide +kernel) (by decide +kernel)), by decide, by decide⟩
abbrev mX0_beginTwofold : sM := (yX0_beginTwofold, cX0_beginTwofold, 8, none, 2, 46)
theorem okX0_beginTwofold : MOk mX0_beginTwofold := ⟨by decide, (tb (i := 1239) (by decide +kernel) (by decide +kernel)), (tb (i := 136) (by decide +kernel) (by decide +kernel)), by decide, by decide⟩
abbrev mX0_goOnTwofold : sM := (yX0_goOnTwofold, cX0_goOnTwofold, 13, (some .boolean), 2, 46)
theorem okX0_goOnTwofold : MOk mX0_goOnTwofold := ⟨by decide, (tb (i := 1247) (by decide +kernel) (by decide +kernel)), (tb (i := 136) (by decide +kernel) (by decide +kernel)), by decide, by decide⟩
abbrev mX1_lay : sM := (yX1_lay, cX1_lay, 5, none, 2, 47)
theorem okX1_lay : MOk mX1_lay := ⟨by decide, (tb (i := 904) (by decide +kernel) (by decide +kernel)), (tb (i := 133) (by decide +kernel) (by decide +kernel)), by decide, by decide⟩
abbrev mX2_listen : sM := (yX2_listen, cX2_listen, 7, none, 2, 52)
theorem okX2_listen : MOk mX2_listen := ⟨by decide, (tb (i := 938) (by decide +kernel) (by decide +kernel)), (tb (i := 137) (by decide +kernel) (by decide +kernel)), by decide, by decide⟩
abbrev mX3_walk : sM := (yX3_walk, cX3_walk, 8, none, 2, 42)
theorem okX3_walk : MOk mX3_walk := ⟨by decide, (tb (i := 982) (by decide +kernel) (by decide +kernel)), (tb (i := 134) (by decide +kernel) (by decide +kernel)), by decide, by decide⟩
abbrev mX5_init : sM := (yX5_init, cX5_init, 1, none, 2, 41)
theorem okX5_init : MOk mX5_init := ⟨by decide, (tb (i := 373) (by decide +kernel) (by decide +kernel)), (tb (i := 132) (by decide +kernel) (by decide +kernel)), by decide, by decide⟩
abbrev mX5_readOrder : sM := (yX5_readOrder, cX5_readOrder, 6, (some .boolean), 2, 46)
theorem okX5_readOrder : MOk mX5_readOrder := ⟨by decide, (tb (i := 758) (by decide +kernel) (by decide +kernel)), (tb (i := 132) (by decide +kernel) (by decide +kernel)), by decide, by decide⟩
abbrev mX5_readWet : sM := (yX5_readWet, cX5_readWet, 2, (some .boolean), 2, 40)
theorem okX5_readWet : MOk mX5_readWet := ⟨by decide, (tb (i := 789) (by decide +kernel) (by decide +kernel)), (tb (i := 132) (by decide +kernel) (by decide +kernel)), by decide, by decide⟩
abbrev mX5_readOfDrum : sM := (yX5_readOfDrum, cX5_readOfDrum, 3, (some .boolean), 2, 45)
theorem okX5_readOfDrum : MOk mX5_readOfDrum := ⟨by decide, (tb (i := 797) (by decide +kernel) (by decide +kernel)), (tb (i := 132) (by decide +kernel) (by decide +kernel)), by decide, by decide⟩
abbrev mX5_readOfArmy : sM := (yX5_readOfArmy, cX5_readOfArmy, 3, (some .boolean), 2, 45)
theorem okX5_readOfArmy : MOk mX5_readOfArmy := ⟨by decide, (tb (i := 801) (by decide +kernel) (by decide +kernel)), (tb (i := 132) (by decide +kernel) (by decide +kernel)), by decide, by decide⟩
abbrev mX5_readScoreLine : sM := (yX5_readScoreLine, cX5_readScoreLine, 4, (some .boolean), 2, 45)
theorem okX5_readScoreLine : MOk mX5_readScoreLine := ⟨by decide, (tb (i := 808) (by decide +kernel) (by decide +kernel)), (tb (i := 132) (by decide +kernel) (by decide +kernel)), by decide, by decide⟩
abbrev mX5_readHearingLine : sM := (yX5_readHearingLine, cX5_readHearingLine, 5, (some .boolean), 2, 45)
theorem okX5_readHearingLine : MOk mX5_readHearingLine := ⟨by decide, (tb (i := 816) (by decide +kernel) (by decide +kernel)), (tb (i := 132) (by decide +kernel) (by decide +kernel)), by decide, by decide⟩
abbrev mX5_takeParent : sM := (yX5_takeParent, cX5_takeParent, 1, (some .boolean), 2, 45)
theorem okX5_takeParent : MOk mX5_takeParent := ⟨by decide, (tb (i := 824) (by decide +kernel) (by decide +kernel)), (tb (i := 132) (by decide +kernel) (by decide +kernel)), by decide, by decide⟩
abbrev mX7_tell : sM := (yX7_tell, cX7_tell, 5, none, 2, 53)
theorem okX7_tell : MOk mX7_tell := ⟨by decide, (tb (i := 1137) (by decide +kernel) (by decide +kernel)), (tb (i := 135) (by decide +kernel) (by decide +kernel)), by decide, by decide⟩
abbrev mX8_init : sM := (yX8_init, cX8_init, 2, none, 2, 41)
theorem okX8_init : MOk mX8_init := ⟨by decide, (tb (i := 158) (by decide +kernel) (by decide +kernel)), (tb (i := 127) (by decide +kernel) (by decide +kernel)), by decide, by decide⟩
abbrev mX8_copyFrom : sM := (yX8_copyFrom, cX8_copyFrom, 3, none, 2, 81)
theorem okX8_copyFrom : MOk mX8_copyFrom := ⟨by decide, (tb (i := 1275) (by decide +kernel) (by decide +kernel)), (tb (i := 127) (by decide +kernel) (by decide +kernel)), by decide, by decide⟩
abbrev mX11_keepText : sM := (yX11_keepText, cX11_keepText, 4, (some .int), 2, 81)
theorem okX11_keepText : MOk mX11_keepText := ⟨by decide, (tb (i := 836) (by decide +kernel) (by decide +kernel)), (tb (i := 126) (by decide +kernel) (by decide +kernel)), by decide, by decide⟩
abbrev mX11_order : sM := (yX11_order, cX11_order, 8, (some .int), 2, 42)
theorem okX11_order : MOk mX11_order := ⟨by decide, (tb (i := 880) (by decide +kernel) (by decide +kernel)), (tb (i := 126) (by decide +kernel) (by decide +kernel)), by decide, by decide⟩
abbrev mX11_madeInAll : sM := (yX11_madeInAll, cX11_madeInAll, 3, (some .int), 2, 46)
theorem okX11_madeInAll : MOk mX11_madeInAll := ⟨by decide, (tb (i := 956) (by decide +kernel) (by decide +kernel)), (tb (i := 126) (by decide +kernel) (by decide +kernel)), by decide, by decide⟩
abbrev mX11_shared : sM := (yX11_shared, cX11_shared, 7, (some .int), 2, 47)
theorem okX11_shared : MOk mX11_shared := ⟨by decide, (tb (i := 1108) (by decide +kernel) (by decide +kernel)), (tb (i := 126) (by decide +kernel) (by decide +kernel)), by decide, by decide⟩
abbrev mX11_mostAlikeFrom : sM := (yX11_mostAlikeFrom, cX11_mostAlikeFrom, 4, (some .int), 2, 46)
theorem okX11_mostAlikeFrom : MOk mX11_mostAlikeFrom := ⟨by decide, (tb (i := 1207) (by decide +kernel) (by decide +kernel)), (tb (i := 126) (by decide +kernel) (by decide +kernel)), by decide, by decide⟩
abbrev mX12_otherWord : sM := (yX12_otherWord, cX12_otherWord, 2, (some .int), 2, 50)
theorem okX12_otherWord : MOk mX12_otherWord := ⟨by decide, (tb (i := 1454) (by decide +kernel) (by decide +kernel)), (tb (i := 138) (by decide +kernel) (by decide +kernel)), by decide, by decide⟩
abbrev mX12_isWar : sM := (yX12_isWar, cX12_isWar, 2, (some .boolean), 2, 44)
theorem okX12_isWar : MOk mX12_isWar := ⟨by decide, (tb (i := 1531) (by decide +kernel) (by decide +kernel)), (tb (i := 138) (by decide +kernel) (by decide +kernel)), by decide, by decide⟩
abbrev mX12_isOrder : sM := (yX12_isOrder, cX12_isOrder, 3, (some .boolean), 2, 42)
theorem okX12_isOrder : MOk mX12_isOrder := ⟨by decide, (tb (i := 1546) (by decide +kernel) (by decide +kernel)), (tb (i := 138) (by decide +kernel) (by decide +kernel)), by decide, by decide⟩
abbrev mX12_isScore : sM := (yX12_isScore, cX12_isScore, 2, (some .boolean), 2, 44)
theorem okX12_isScore : MOk mX12_isScore := ⟨by decide, (tb (i := 1570) (by decide +kernel) (by decide +kernel)), (tb (i := 138) (by decide +kernel) (by decide +kernel)), by decide, by decide⟩
abbrev mX12_takesScore : sM := (yX12_takesScore, cX12_takesScore, 3, none, 2, 44)
theorem okX12_takesScore : MOk mX12_takesScore := ⟨by decide, (tb (i := 1582) (by decide +kernel) (by decide +kernel)), (tb (i := 138) (by decide +kernel) (by decide +kernel)), by decide, by decide⟩
abbrev mX12_heardAt : sM := (yX12_heardAt, cX12_heardAt, 3, (some .int), 2, 43)
theorem okX12_heardAt : MOk mX12_heardAt := ⟨by decide, (tb (i := 1602) (by decide +kernel) (by decide +kernel)), (tb (i := 138) (by decide +kernel) (by decide +kernel)), by decide, by decide⟩
abbrev mX12_purity : sM := (yX12_purity, cX12_purity, 6, (some .int), 2, 44)
theorem okX12_purity : MOk mX12_purity := ⟨by decide, (tb (i := 1626) (by decide +kernel) (by decide +kernel)), (tb (i := 138) (by decide +kernel) (by decide +kernel)), by decide, by decide⟩
abbrev mX12_echoed : sM := (yX12_echoed, cX12_echoed, 7, (some .int), 2, 44)
theorem okX12_echoed : MOk mX12_echoed := ⟨by decide, (tb (i := 1622) (by decide +kernel) (by decide +kernel)), (tb (i := 138) (by decide +kernel) (by decide +kernel)), by decide, by decide⟩
abbrev mX12_goesTo : sM := (yX12_goesTo, cX12_goesTo, 7, (some .int), 2, 45)
theorem okX12_goesTo : MOk mX12_goesTo := ⟨by decide, (tb (i := 1642) (by decide +kernel) (by decide +kernel)), (tb (i := 138) (by decide +kernel) (by decide +kernel)), by decide, by decide⟩
abbrev mX12_isHearing : sM := (yX12_isHearing, cX12_isHearing, 2, (some .boolean), 2, 44)
theorem okX12_isHearing : MOk mX12_isHearing := ⟨by decide, (tb (i := 1681) (by decide +kernel) (by decide +kernel)), (tb (i := 138) (by decide +kernel) (by decide +kernel)), by decide, by decide⟩
abbrev mX12_farOf : sM := (yX12_farOf, cX12_farOf, 5, (some .int), 2, 48)
theorem okX12_farOf : MOk mX12_farOf := ⟨by decide, (tb (i := 1708) (by decide +kernel) (by decide +kernel)), (tb (i := 138) (by decide +kernel) (by decide +kernel)), by decide, by decide⟩
abbrev mX12_beginsWith : sM := (yX12_beginsWith, cX12_beginsWith, 7, (some .boolean), 2, 45)
theorem okX12_beginsWith : MOk mX12_beginsWith := ⟨by decide, (tb (i := 1723) (by decide +kernel) (by decide +kernel)), (tb (i := 138) (by decide +kernel) (by decide +kernel)), by decide, by decide⟩
abbrev mX12_areVillages : sM := (yX12_areVillages, cX12_areVillages, 2, (some .boolean), 2, 44)
theorem okX12_areVillages : MOk mX12_areVillages := ⟨by decide, (tb (i := 1735) (by decide +kernel) (by decide +kernel)), (tb (i := 138) (by decide +kernel) (by decide +kernel)), by decide, by decide⟩
abbrev mX12_goesInto : sM := (yX12_goesInto, cX12_goesInto, 8, (some .boolean), 2, 45)
theorem okX12_goesInto : MOk mX12_goesInto := ⟨by decide, (tb (i := 1814) (by decide +kernel) (by decide +kernel)), (tb (i := 138) (by decide +kernel) (by decide +kernel)), by decide, by decide⟩
abbrev mX0_safety : sM := (yX0_safety, cX0_safety, 9, (some .int), 3, 70)
theorem okX0_safety : MOk mX0_safety := ⟨by decide, (tb (i := 1094) (by decide +kernel) (by decide +kernel)), (tb (i := 136) (by decide +kernel) (by decide +kernel)), by decide, by decide⟩
abbrev mX0_shortestTwofold : sM := (yX0_shortestTwofold, cX0_shortestTwofold, 6, (some .int), 3, 78)
theorem okX0_shortestTwofold : MOk mX0_shortestTwofold := ⟨by decide, (tb (i := 1235) (by decide +kernel) (by decide +kernel)), (tb (i := 136) (by decide +kernel) (by decide +kernel)), by decide, by decide⟩
abbrev mX5_readWarLine : sM := (yX5_readWarLine, cX5_readWarLine, 3, (some .boolean), 3, 71)
theorem okX5_readWarLine : MOk mX5_readWarLine := ⟨by decide, (tb (i := 754) (by decide +kernel) (by decide +kernel)), (tb (i := 132) (by decide +kernel) (by decide +kernel)), by decide, by decide⟩
abbrev mX5_readVillageLine : sM := (yX5_readVillageLine, cX5_readVillageLine, 7, (some .boolean), 3, 65)
theorem okX5_readVillageLine : MOk mX5_readVillageLine := ⟨by decide, (tb (i := 820) (by decide +kernel) (by decide +kernel)), (tb (i := 132) (by decide +kernel) (by decide +kernel)), by decide, by decide⟩
abbrev mX11_init : sM := (yX11_init, cX11_init, 2, none, 3, 62)
theorem okX11_init : MOk mX11_init := ⟨by decide, (tb (i := 150) (by decide +kernel) (by decide +kernel)), (tb (i := 126) (by decide +kernel) (by decide +kernel)), by decide, by decide⟩
abbrev mX11_perform : sM := (yX11_perform, cX11_perform, 5, (some .boolean), 3, 71)
theorem okX11_perform : MOk mX11_perform := ⟨by decide, (tb (i := 900) (by decide +kernel) (by decide +kernel)), (tb (i := 126) (by decide +kernel) (by decide +kernel)), by decide, by decide⟩
abbrev mX11_listenBoth : sM := (yX11_listenBoth, cX11_listenBoth, 3, none, 3, 78)
theorem okX11_listenBoth : MOk mX11_listenBoth := ⟨by decide, (tb (i := 934) (by decide +kernel) (by decide +kernel)), (tb (i := 126) (by decide +kernel) (by decide +kernel)), by decide, by decide⟩
abbrev mX11_letsMake : sM := (yX11_letsMake, cX11_letsMake, 4, (some .boolean), 3, 78)
theorem okX11_letsMake : MOk mX11_letsMake := ⟨by decide, (tb (i := 1015) (by decide +kernel) (by decide +kernel)), (tb (i := 126) (by decide +kernel) (by decide +kernel)), by decide, by decide⟩
abbrev mX11_soundsAsTold : sM := (yX11_soundsAsTold, cX11_soundsAsTold, 4, (some .boolean), 3, 78)
theorem okX11_soundsAsTold : MOk mX11_soundsAsTold := ⟨by decide, (tb (i := 1047) (by decide +kernel) (by decide +kernel)), (tb (i := 126) (by decide +kernel) (by decide +kernel)), by decide, by decide⟩
abbrev mX11_far : sM := (yX11_far, cX11_far, 6, (some .int), 3, 70)
theorem okX11_far : MOk mX11_far := ⟨by decide, (tb (i := 1073) (by decide +kernel) (by decide +kernel)), (tb (i := 126) (by decide +kernel) (by decide +kernel)), by decide, by decide⟩
abbrev mX11_theyMeet : sM := (yX11_theyMeet, cX11_theyMeet, 2, (some .boolean), 3, 69)
theorem okX11_theyMeet : MOk mX11_theyMeet := ⟨by decide, (tb (i := 1187) (by decide +kernel) (by decide +kernel)), (tb (i := 126) (by decide +kernel) (by decide +kernel)), by decide, by decide⟩
abbrev mX11_image : sM := (yX11_image, cX11_image, 2, (some .boolean), 3, 103)
theorem okX11_image : MOk mX11_image := ⟨by decide, (tb (i := 1271) (by decide +kernel) (by decide +kernel)), (tb (i := 126) (by decide +kernel) (by decide +kernel)), by decide, by decide⟩
abbrev mX11_again : sM := (yX11_again, cX11_again, 2, (some .boolean), 3, 103)
theorem okX11_again : MOk mX11_again := ⟨by decide, (tb (i := 1284) (by decide +kernel) (by decide +kernel)), (tb (i := 126) (by decide +kernel) (by decide +kernel)), by decide, by decide⟩
abbrev mX12_wordOf : sM := (yX12_wordOf, cX12_wordOf, 2, (some .int), 3, 71)
theorem okX12_wordOf : MOk mX12_wordOf := ⟨by decide, (tb (i := 1444) (by decide +kernel) (by decide +kernel)), (tb (i := 138) (by decide +kernel) (by decide +kernel)), by decide, by decide⟩
abbrev mX12_war : sM := (yX12_war, cX12_war, 4, (some .int), 3, 65)
theorem okX12_war : MOk mX12_war := ⟨by decide, (tb (i := 1527) (by decide +kernel) (by decide +kernel)), (tb (i := 138) (by decide +kernel) (by decide +kernel)), by decide, by decide⟩
abbrev mX12_order : sM := (yX12_order, cX12_order, 5, (some .int), 3, 65)
theorem okX12_order : MOk mX12_order := ⟨by decide, (tb (i := 1542) (by decide +kernel) (by decide +kernel)), (tb (i := 138) (by decide +kernel) (by decide +kernel)), by decide, by decide⟩
abbrev mX12_given : sM := (yX12_given, cX12_given, 4, (some .int), 3, 65)
theorem okX12_given : MOk mX12_given := ⟨by decide, (tb (i := 1566) (by decide +kernel) (by decide +kernel)), (tb (i := 138) (by decide +kernel) (by decide +kernel)), by decide, by decide⟩
abbrev mX12_arePlayed : sM := (yX12_arePlayed, cX12_arePlayed, 3, (some .boolean), 3, 66)
theorem okX12_arePlayed : MOk mX12_arePlayed := ⟨by decide, (tb (i := 1578) (by decide +kernel) (by decide +kernel)), (tb (i := 138) (by decide +kernel) (by decide +kernel)), by decide, by decide⟩
abbrev mX12_isFrom : sM := (yX12_isFrom, cX12_isFrom, 6, (some .boolean), 3, 65)
theorem okX12_isFrom : MOk mX12_isFrom := ⟨by decide, (tb (i := 1618) (by decide +kernel) (by decide +kernel)), (tb (i := 138) (by decide +kernel) (by decide +kernel)), by decide, by decide⟩
abbrev mX12_steps : sM := (yX12_steps, cX12_steps, 4, none, 3, 71)
theorem okX12_steps : MOk mX12_steps := ⟨by decide, (tb (i := 1638) (by decide +kernel) (by decide +kernel)), (tb (i := 138) (by decide +kernel) (by decide +kernel)), by decide, by decide⟩
abbrev mX12_told : sM := (yX12_told, cX12_told, 4, (some .int), 3, 65)
theorem okX12_told : MOk mX12_told := ⟨by decide, (tb (i := 1677) (by decide +kernel) (by decide +kernel)), (tb (i := 138) (by decide +kernel) (by decide +kernel)), by decide, by decide⟩
abbrev mX12_far : sM := (yX12_far, cX12_far, 5, (some .int), 3, 72)
theorem okX12_far : MOk mX12_far := ⟨by decide, (tb (i := 1704) (by decide +kernel) (by decide +kernel)), (tb (i := 138) (by decide +kernel) (by decide +kernel)), by decide, by decide⟩
abbrev mX12_codes : sM := (yX12_codes, cX12_codes, 8, (some .int), 3, 72)
theorem okX12_codes : MOk mX12_codes := ⟨by decide, (tb (i := 1719) (by decide +kernel) (by decide +kernel)), (tb (i := 138) (by decide +kernel) (by decide +kernel)), by decide, by decide⟩
abbrev mX12_shared : sM := (yX12_shared, cX12_shared, 7, (some .int), 3, 71)
theorem okX12_shared : MOk mX12_shared := ⟨by decide, (tb (i := 1727) (by decide +kernel) (by decide +kernel)), (tb (i := 138) (by decide +kernel) (by decide +kernel)), by decide, by decide⟩
abbrev mX12_village : sM := (yX12_village, cX12_village, 4, (some .int), 3, 65)
theorem okX12_village : MOk mX12_village := ⟨by decide, (tb (i := 1731) (by decide +kernel) (by decide +kernel)), (tb (i := 138) (by decide +kernel) (by decide +kernel)), by decide, by decide⟩
abbrev mX12_alikeFrom : sM := (yX12_alikeFrom, cX12_alikeFrom, 4, (some .int), 3, 65)
theorem okX12_alikeFrom : MOk mX12_alikeFrom := ⟨by decide, (tb (i := 1796) (by decide +kernel) (by decide +kernel)), (tb (i := 138) (by decide +kernel) (by decide +kernel)), by decide, by decide⟩
abbrev mX12_hangsOn : sM := (yX12_hangsOn, cX12_hangsOn, 7, (some .boolean), 3, 72)
theorem okX12_hangsOn : MOk mX12_hangsOn := ⟨by decide, (tb (i := 1822) (by decide +kernel) (by decide +kernel)), (tb (i := 138) (by decide +kernel) (by decide +kernel)), by decide, by decide⟩
abbrev mX5_readLine : sM := (yX5_readLine, cX5_readLine, 5, (some .boolean), 4, 93)
theorem okX5_readLine : MOk mX5_readLine := ⟨by decide, (tb (i := 750) (by decide +kernel) (by decide +kernel)), (tb (i := 132) (by decide +kernel) (by decide +kernel)), by decide, by decide⟩
abbrev mX11_row : sM := (yX11_row, cX11_row, 5, (some .int), 4, 95)
theorem okX11_row : MOk mX11_row := ⟨by decide, (tb (i := 896) (by decide +kernel) (by decide +kernel)), (tb (i := 126) (by decide +kernel) (by decide +kernel)), by decide, by decide⟩
abbrev mX11_performToBoth : sM := (yX11_performToBoth, cX11_performToBoth, 3, (some .boolean), 4, 100)
theorem okX11_performToBoth : MOk mX11_performToBoth := ⟨by decide, (tb (i := 930) (by decide +kernel) (by decide +kernel)), (tb (i := 126) (by decide +kernel) (by decide +kernel)), by decide, by decide⟩
abbrev mX11_holdsAgainstAll : sM := (yX11_holdsAgainstAll, cX11_holdsAgainstAll, 7, (some .boolean), 4, 101)
theorem okX11_holdsAgainstAll : MOk mX11_holdsAgainstAll := ⟨by decide, (tb (i := 1011) (by decide +kernel) (by decide +kernel)), (tb (i := 126) (by decide +kernel) (by decide +kernel)), by decide, by decide⟩
abbrev mX11_explains : sM := (yX11_explains, cX11_explains, 4, (some .boolean), 4, 101)
theorem okX11_explains : MOk mX11_explains := ⟨by decide, (tb (i := 1039) (by decide +kernel) (by decide +kernel)), (tb (i := 126) (by decide +kernel) (by decide +kernel)), by decide, by decide⟩
abbrev mX11_meant : sM := (yX11_meant, cX11_meant, 11, (some .int), 4, 101)
theorem okX11_meant : MOk mX11_meant := ⟨by decide, (tb (i := 1061) (by decide +kernel) (by decide +kernel)), (tb (i := 126) (by decide +kernel) (by decide +kernel)), by decide, by decide⟩
abbrev mX11_shortestTruce : sM := (yX11_shortestTruce, cX11_shortestTruce, 6, (some .int), 4, 101)
theorem okX11_shortestTruce : MOk mX11_shortestTruce := ⟨by decide, (tb (i := 1069) (by decide +kernel) (by decide +kernel)), (tb (i := 126) (by decide +kernel) (by decide +kernel)), by decide, by decide⟩
abbrev mX11_codes : sM := (yX11_codes, cX11_codes, 5, (some .int), 4, 98)
theorem okX11_codes : MOk mX11_codes := ⟨by decide, (tb (i := 1090) (by decide +kernel) (by decide +kernel)), (tb (i := 126) (by decide +kernel) (by decide +kernel)), by decide, by decide⟩
abbrev mX11_tellAround : sM := (yX11_tellAround, cX11_tellAround, 6, (some .boolean), 4, 95)
theorem okX11_tellAround : MOk mX11_tellAround := ⟨by decide, (tb (i := 1133) (by decide +kernel) (by decide +kernel)), (tb (i := 126) (by decide +kernel) (by decide +kernel)), by decide, by decide⟩
abbrev mX11_playToBoth : sM := (yX11_playToBoth, cX11_playToBoth, 2, none, 4, 100)
theorem okX11_playToBoth : MOk mX11_playToBoth := ⟨by decide, (tb (i := 1179) (by decide +kernel) (by decide +kernel)), (tb (i := 126) (by decide +kernel) (by decide +kernel)), by decide, by decide⟩
abbrev mX11_unique : sM := (yX11_unique, cX11_unique, 6, (some .int), 4, 103)
theorem okX11_unique : MOk mX11_unique := ⟨by decide, (tb (i := 1231) (by decide +kernel) (by decide +kernel)), (tb (i := 126) (by decide +kernel) (by decide +kernel)), by decide, by decide⟩
abbrev mX11_letsMakeBy : sM := (yX11_letsMakeBy, cX11_letsMakeBy, 10, (some .boolean), 4, 101)
theorem okX11_letsMakeBy : MOk mX11_letsMakeBy := ⟨by decide, (tb (i := 1259) (by decide +kernel) (by decide +kernel)), (tb (i := 126) (by decide +kernel) (by decide +kernel)), by decide, by decide⟩
abbrev mX12_advance : sM := (yX12_advance, cX12_advance, 4, none, 4, 92)
theorem okX12_advance : MOk mX12_advance := ⟨by decide, (tb (i := 1432) (by decide +kernel) (by decide +kernel)), (tb (i := 138) (by decide +kernel) (by decide +kernel)), by decide, by decide⟩
abbrev mX12_row : sM := (yX12_row, cX12_row, 5, (some .int), 4, 88)
theorem okX12_row : MOk mX12_row := ⟨by decide, (tb (i := 1574) (by decide +kernel) (by decide +kernel)), (tb (i := 138) (by decide +kernel) (by decide +kernel)), by decide, by decide⟩
abbrev mX12_heard : sM := (yX12_heard, cX12_heard, 5, (some .int), 4, 88)
theorem okX12_heard : MOk mX12_heard := ⟨by decide, (tb (i := 1594) (by decide +kernel) (by decide +kernel)), (tb (i := 138) (by decide +kernel) (by decide +kernel)), by decide, by decide⟩
abbrev mX12_makes : sM := (yX12_makes, cX12_makes, 5, none, 4, 90)
theorem okX12_makes : MOk mX12_makes := ⟨by decide, (tb (i := 1614) (by decide +kernel) (by decide +kernel)), (tb (i := 138) (by decide +kernel) (by decide +kernel)), by decide, by decide⟩
abbrev mX12_areTold : sM := (yX12_areTold, cX12_areTold, 6, (some .boolean), 4, 88)
theorem okX12_areTold : MOk mX12_areTold := ⟨by decide, (tb (i := 1751) (by decide +kernel) (by decide +kernel)), (tb (i := 138) (by decide +kernel) (by decide +kernel)), by decide, by decide⟩
abbrev mX12_common : sM := (yX12_common, cX12_common, 8, (some .int), 4, 88)
theorem okX12_common : MOk mX12_common := ⟨by decide, (tb (i := 1788) (by decide +kernel) (by decide +kernel)), (tb (i := 138) (by decide +kernel) (by decide +kernel)), by decide, by decide⟩
abbrev mX12_readings : sM := (yX12_readings, cX12_readings, 8, (some .long), 4, 90)
theorem okX12_readings : MOk mX12_readings := ⟨by decide, (tb (i := 1800) (by decide +kernel) (by decide +kernel)), (tb (i := 138) (by decide +kernel) (by decide +kernel)), by decide, by decide⟩
abbrev mX12_twofold : sM := (yX12_twofold, cX12_twofold, 5, (some .int), 4, 98)
theorem okX12_twofold : MOk mX12_twofold := ⟨by decide, (tb (i := 1810) (by decide +kernel) (by decide +kernel)), (tb (i := 138) (by decide +kernel) (by decide +kernel)), by decide, by decide⟩
abbrev mX5_isWord : sM := (yX5_isWord, cX5_isWord, 5, (some .boolean), 5, 106)
theorem okX5_isWord : MOk mX5_isWord := ⟨by decide, (tb (i := 716) (by decide +kernel) (by decide +kernel)), (tb (i := 132) (by decide +kernel) (by decide +kernel)), by decide, by decide⟩
abbrev mX11_heard : sM := (yX11_heard, cX11_heard, 6, (some .int), 5, 122)
theorem okX11_heard : MOk mX11_heard := ⟨by decide, (tb (i := 926) (by decide +kernel) (by decide +kernel)), (tb (i := 126) (by decide +kernel) (by decide +kernel)), by decide, by decide⟩
abbrev mX11_made : sM := (yX11_made, cX11_made, 7, (some .int), 5, 122)
theorem okX11_made : MOk mX11_made := ⟨by decide, (tb (i := 952) (by decide +kernel) (by decide +kernel)), (tb (i := 126) (by decide +kernel) (by decide +kernel)), by decide, by decide⟩
abbrev mX11_march : sM := (yX11_march, cX11_march, 5, (some .int), 5, 122)
theorem okX11_march : MOk mX11_march := ⟨by decide, (tb (i := 978) (by decide +kernel) (by decide +kernel)), (tb (i := 126) (by decide +kernel) (by decide +kernel)), by decide, by decide⟩
abbrev mX11_meets : sM := (yX11_meets, cX11_meets, 3, (some .int), 5, 122)
theorem okX11_meets : MOk mX11_meets := ⟨by decide, (tb (i := 995) (by decide +kernel) (by decide +kernel)), (tb (i := 126) (by decide +kernel) (by decide +kernel)), by decide, by decide⟩
abbrev mX11_force : sM := (yX11_force, cX11_force, 10, (some .int), 5, 127)
theorem okX11_force : MOk mX11_force := ⟨by decide, (tb (i := 999) (by decide +kernel) (by decide +kernel)), (tb (i := 126) (by decide +kernel) (by decide +kernel)), by decide, by decide⟩
abbrev mX11_bribes : sM := (yX11_bribes, cX11_bribes, 12, (some .int), 5, 124)
theorem okX11_bribes : MOk mX11_bribes := ⟨by decide, (tb (i := 1031) (by decide +kernel) (by decide +kernel)), (tb (i := 126) (by decide +kernel) (by decide +kernel)), by decide, by decide⟩
abbrev mX11_truce : sM := (yX11_truce, cX11_truce, 7, (some .int), 5, 126)
theorem okX11_truce : MOk mX11_truce := ⟨by decide, (tb (i := 1065) (by decide +kernel) (by decide +kernel)), (tb (i := 126) (by decide +kernel) (by decide +kernel)), by decide, by decide⟩
abbrev mX11_version : sM := (yX11_version, cX11_version, 7, (some .int), 5, 120)
theorem okX11_version : MOk mX11_version := ⟨by decide, (tb (i := 1129) (by decide +kernel) (by decide +kernel)), (tb (i := 126) (by decide +kernel) (by decide +kernel)), by decide, by decide⟩
abbrev mX11_tale : sM := (yX11_tale, cX11_tale, 6, (some .int), 5, 120)
theorem okX11_tale : MOk mX11_tale := ⟨by decide, (tb (i := 1152) (by decide +kernel) (by decide +kernel)), (tb (i := 126) (by decide +kernel) (by decide +kernel)), by decide, by decide⟩
abbrev mX11_drawn : sM := (yX11_drawn, cX11_drawn, 15, (some .int), 5, 121)
theorem okX11_drawn : MOk mX11_drawn := ⟨by decide, (tb (i := 1166) (by decide +kernel) (by decide +kernel)), (tb (i := 126) (by decide +kernel) (by decide +kernel)), by decide, by decide⟩
abbrev mX11_common : sM := (yX11_common, cX11_common, 8, (some .int), 5, 122)
theorem okX11_common : MOk mX11_common := ⟨by decide, (tb (i := 1195) (by decide +kernel) (by decide +kernel)), (tb (i := 126) (by decide +kernel) (by decide +kernel)), by decide, by decide⟩
abbrev mX11_readings : sM := (yX11_readings, cX11_readings, 6, (some .long), 5, 122)
theorem okX11_readings : MOk mX11_readings := ⟨by decide, (tb (i := 1217) (by decide +kernel) (by decide +kernel)), (tb (i := 126) (by decide +kernel) (by decide +kernel)), by decide, by decide⟩
abbrev mX11_fewestChanged : sM := (yX11_fewestChanged, cX11_fewestChanged, 6, (some .int), 5, 130)
theorem okX11_fewestChanged : MOk mX11_fewestChanged := ⟨by decide, (tb (i := 1255) (by decide +kernel) (by decide +kernel)), (tb (i := 126) (by decide +kernel) (by decide +kernel)), by decide, by decide⟩
abbrev mX12_numbered : sM := (yX12_numbered, cX12_numbered, 4, (some .int), 5, 115)
theorem okX12_numbered : MOk mX12_numbered := ⟨by decide, (tb (i := 1481) (by decide +kernel) (by decide +kernel)), (tb (i := 138) (by decide +kernel) (by decide +kernel)), by decide, by decide⟩
abbrev mX12_takes : sM := (yX12_takes, cX12_takes, 4, (some .int), 5, 115)
theorem okX12_takes : MOk mX12_takes := ⟨by decide, (tb (i := 1469) (by decide +kernel) (by decide +kernel)), (tb (i := 138) (by decide +kernel) (by decide +kernel)), by decide, by decide⟩
abbrev mX12_endsLine : sM := (yX12_endsLine, cX12_endsLine, 1, none, 5, 115)
theorem okX12_endsLine : MOk mX12_endsLine := ⟨by decide, (tb (i := 1497) (by decide +kernel) (by decide +kernel)), (tb (i := 138) (by decide +kernel) (by decide +kernel)), by decide, by decide⟩
abbrev mX12_made : sM := (yX12_made, cX12_made, 7, (some .int), 5, 114)
theorem okX12_made : MOk mX12_made := ⟨by decide, (tb (i := 1610) (by decide +kernel) (by decide +kernel)), (tb (i := 138) (by decide +kernel) (by decide +kernel)), by decide, by decide⟩
abbrev mX12_begins : sM := (yX12_begins, cX12_begins, 1, none, 5, 114)
theorem okX12_begins : MOk mX12_begins := ⟨by decide, (tb (i := 1634) (by decide +kernel) (by decide +kernel)), (tb (i := 138) (by decide +kernel) (by decide +kernel)), by decide, by decide⟩
abbrev mX12_isMade : sM := (yX12_isMade, cX12_isMade, 5, (some .boolean), 5, 114)
theorem okX12_isMade : MOk mX12_isMade := ⟨by decide, (tb (i := 1673) (by decide +kernel) (by decide +kernel)), (tb (i := 138) (by decide +kernel) (by decide +kernel)), by decide, by decide⟩
abbrev mX12_isSo : sM := (yX12_isSo, cX12_isSo, 4, (some .boolean), 5, 114)
theorem okX12_isSo : MOk mX12_isSo := ⟨by decide, (tb (i := 1689) (by decide +kernel) (by decide +kernel)), (tb (i := 138) (by decide +kernel) (by decide +kernel)), by decide, by decide⟩
abbrev mX12_version : sM := (yX12_version, cX12_version, 6, (some .int), 5, 113)
theorem okX12_version : MOk mX12_version := ⟨by decide, (tb (i := 1747) (by decide +kernel) (by decide +kernel)), (tb (i := 138) (by decide +kernel) (by decide +kernel)), by decide, by decide⟩
abbrev mX12_tale : sM := (yX12_tale, cX12_tale, 8, (some .int), 5, 113)
theorem okX12_tale : MOk mX12_tale := ⟨by decide, (tb (i := 1767) (by decide +kernel) (by decide +kernel)), (tb (i := 138) (by decide +kernel) (by decide +kernel)), by decide, by decide⟩
abbrev mX12_unique : sM := (yX12_unique, cX12_unique, 5, (some .int), 5, 122)
theorem okX12_unique : MOk mX12_unique := ⟨by decide, (tb (i := 1806) (by decide +kernel) (by decide +kernel)), (tb (i := 138) (by decide +kernel) (by decide +kernel)), by decide, by decide⟩
abbrev mX5_wordNumber : sM := (yX5_wordNumber, cX5_wordNumber, 6, (some .int), 6, 130)
theorem okX5_wordNumber : MOk mX5_wordNumber := ⟨by decide, (tb (i := 664) (by decide +kernel) (by decide +kernel)), (tb (i := 132) (by decide +kernel) (by decide +kernel)), by decide, by decide⟩
abbrev mX11_fix : sM := (yX11_fix, cX11_fix, 9, (some .int), 6, 155)
theorem okX11_fix : MOk mX11_fix := ⟨by decide, (tb (i := 1251) (by decide +kernel) (by decide +kernel)), (tb (i := 126) (by decide +kernel) (by decide +kernel)), by decide, by decide⟩
abbrev mX12_beatTold : sM := (yX12_beatTold, cX12_beatTold, 1, (some .int), 6, 138)
theorem okX12_beatTold : MOk mX12_beatTold := ⟨by decide, (tb (i := 1493) (by decide +kernel) (by decide +kernel)), (tb (i := 138) (by decide +kernel) (by decide +kernel)), by decide, by decide⟩
abbrev mX12_armyTold : sM := (yX12_armyTold, cX12_armyTold, 1, (some .int), 6, 138)
theorem okX12_armyTold : MOk mX12_armyTold := ⟨by decide, (tb (i := 1477) (by decide +kernel) (by decide +kernel)), (tb (i := 138) (by decide +kernel) (by decide +kernel)), by decide, by decide⟩
abbrev mX12_march : sM := (yX12_march, cX12_march, 6, (some .int), 6, 134)
theorem okX12_march : MOk mX12_march := ⟨by decide, (tb (i := 1630) (by decide +kernel) (by decide +kernel)), (tb (i := 138) (by decide +kernel) (by decide +kernel)), by decide, by decide⟩
abbrev mX12_meeting : sM := (yX12_meeting, cX12_meeting, 4, (some .int), 6, 134)
theorem okX12_meeting : MOk mX12_meeting := ⟨by decide, (tb (i := 1654) (by decide +kernel) (by decide +kernel)), (tb (i := 138) (by decide +kernel) (by decide +kernel)), by decide, by decide⟩
abbrev mX12_isForced : sM := (yX12_isForced, cX12_isForced, 7, (some .boolean), 6, 138)
theorem okX12_isForced : MOk mX12_isForced := ⟨by decide, (tb (i := 1665) (by decide +kernel) (by decide +kernel)), (tb (i := 138) (by decide +kernel) (by decide +kernel)), by decide, by decide⟩
abbrev mX12_bribes : sM := (yX12_bribes, cX12_bribes, 9, (some .int), 6, 137)
theorem okX12_bribes : MOk mX12_bribes := ⟨by decide, (tb (i := 1685) (by decide +kernel) (by decide +kernel)), (tb (i := 138) (by decide +kernel) (by decide +kernel)), by decide, by decide⟩
abbrev mX12_meant : sM := (yX12_meant, cX12_meant, 9, (some .int), 6, 137)
theorem okX12_meant : MOk mX12_meant := ⟨by decide, (tb (i := 1696) (by decide +kernel) (by decide +kernel)), (tb (i := 138) (by decide +kernel) (by decide +kernel)), by decide, by decide⟩
abbrev mX12_truce : sM := (yX12_truce, cX12_truce, 7, (some .int), 6, 138)
theorem okX12_truce : MOk mX12_truce := ⟨by decide, (tb (i := 1700) (by decide +kernel) (by decide +kernel)), (tb (i := 138) (by decide +kernel) (by decide +kernel)), by decide, by decide⟩
abbrev mX12_isFixed : sM := (yX12_isFixed, cX12_isFixed, 9, (some .boolean), 6, 138)
theorem okX12_isFixed : MOk mX12_isFixed := ⟨by decide, (tb (i := 1830) (by decide +kernel) (by decide +kernel)), (tb (i := 138) (by decide +kernel) (by decide +kernel)), by decide, by decide⟩
abbrev mX5_scan : sM := (yX5_scan, cX5_scan, 5, none, 7, 155)
theorem okX5_scan : MOk mX5_scan := ⟨by decide, (tb (i := 655) (by decide +kernel) (by decide +kernel)), (tb (i := 132) (by decide +kernel) (by decide +kernel)), by decide, by decide⟩
abbrev mX12_orderLine : sM := (yX12_orderLine, cX12_orderLine, 9, none, 7, 158)
theorem okX12_orderLine : MOk mX12_orderLine := ⟨by decide, (tb (i := 1465) (by decide +kernel) (by decide +kernel)), (tb (i := 138) (by decide +kernel) (by decide +kernel)), by decide, by decide⟩
abbrev mX12_scoreLine : sM := (yX12_scoreLine, cX12_scoreLine, 4, none, 7, 158)
theorem okX12_scoreLine : MOk mX12_scoreLine := ⟨by decide, (tb (i := 1501) (by decide +kernel) (by decide +kernel)), (tb (i := 138) (by decide +kernel) (by decide +kernel)), by decide, by decide⟩
abbrev mX12_hearingLine : sM := (yX12_hearingLine, cX12_hearingLine, 4, none, 7, 158)
theorem okX12_hearingLine : MOk mX12_hearingLine := ⟨by decide, (tb (i := 1505) (by decide +kernel) (by decide +kernel)), (tb (i := 138) (by decide +kernel) (by decide +kernel)), by decide, by decide⟩
abbrev mX12_villageLine : sM := (yX12_villageLine, cX12_villageLine, 8, none, 7, 158)
theorem okX12_villageLine : MOk mX12_villageLine := ⟨by decide, (tb (i := 1513) (by decide +kernel) (by decide +kernel)), (tb (i := 138) (by decide +kernel) (by decide +kernel)), by decide, by decide⟩
abbrev mX12_meets : sM := (yX12_meets, cX12_meets, 3, (some .int), 7, 157)
theorem okX12_meets : MOk mX12_meets := ⟨by decide, (tb (i := 1650) (by decide +kernel) (by decide +kernel)), (tb (i := 138) (by decide +kernel) (by decide +kernel)), by decide, by decide⟩
abbrev mX12_force : sM := (yX12_force, cX12_force, 9, (some .int), 7, 164)
theorem okX12_force : MOk mX12_force := ⟨by decide, (tb (i := 1658) (by decide +kernel) (by decide +kernel)), (tb (i := 138) (by decide +kernel) (by decide +kernel)), by decide, by decide⟩
abbrev mX12_drawn : sM := (yX12_drawn, cX12_drawn, 12, (some .int), 7, 157)
theorem okX12_drawn : MOk mX12_drawn := ⟨by decide, (tb (i := 1775) (by decide +kernel) (by decide +kernel)), (tb (i := 138) (by decide +kernel) (by decide +kernel)), by decide, by decide⟩
abbrev mX12_fix : sM := (yX12_fix, cX12_fix, 8, (some .int), 7, 166)
theorem okX12_fix : MOk mX12_fix := ⟨by decide, (tb (i := 1826) (by decide +kernel) (by decide +kernel)), (tb (i := 138) (by decide +kernel) (by decide +kernel)), by decide, by decide⟩
abbrev mX5_read : sM := (yX5_read, cX5_read, 5, none, 8, 179)
theorem okX5_read : MOk mX5_read := ⟨by decide, (tb (i := 648) (by decide +kernel) (by decide +kernel)), (tb (i := 132) (by decide +kernel) (by decide +kernel)), by decide, by decide⟩
abbrev mX12_warLine : sM := (yX12_warLine, cX12_warLine, 4, none, 8, 186)
theorem okX12_warLine : MOk mX12_warLine := ⟨by decide, (tb (i := 1461) (by decide +kernel) (by decide +kernel)), (tb (i := 138) (by decide +kernel) (by decide +kernel)), by decide, by decide⟩
abbrev mX11_text : sM := (yX11_text, cX11_text, 4, (some .int), 9, 203)
theorem okX11_text : MOk mX11_text := ⟨by decide, (tb (i := 637) (by decide +kernel) (by decide +kernel)), (tb (i := 126) (by decide +kernel) (by decide +kernel)), by decide, by decide⟩
abbrev mX12_text : sM := (yX12_text, cX12_text, 5, (some .int), 9, 209)
theorem okX12_text : MOk mX12_text := ⟨by decide, (tb (i := 1417) (by decide +kernel) (by decide +kernel)), (tb (i := 138) (by decide +kernel) (by decide +kernel)), by decide, by decide⟩
theorem fX11_10 : Fld RX11 10 11 0 true := ⟨(RX11, TX11, 11), rfl, by decide, rfl, by decide, (tb (i := 588) (by decide +kernel) (by decide +kernel))⟩
theorem fX11_16 : Fld RX11 16 11 1 true := ⟨(RX11, TX11, 11), rfl, by decide, rfl, by decide, (tb (i := 589) (by decide +kernel) (by decide +kernel))⟩
theorem fX11_20 : Fld RX11 20 11 2 true := ⟨(RX11, TX11, 11), rfl, by decide, rfl, by decide, (tb (i := 590) (by decide +kernel) (by decide +kernel))⟩
theorem fX11_27 : Fld RX11 27 11 3 true := ⟨(RX11, TX11, 11), rfl, by decide, rfl, by decide, (tb (i := 591) (by decide +kernel) (by decide +kernel))⟩
theorem fX11_34 : Fld RX11 34 11 4 true := ⟨(RX11, TX11, 11), rfl, by decide, rfl, by decide, (tb (i := 592) (by decide +kernel) (by decide +kernel))⟩
theorem fX11_41 : Fld RX11 41 11 5 true := ⟨(RX11, TX11, 11), rfl, by decide, rfl, by decide, (tb (i := 593) (by decide +kernel) (by decide +kernel))⟩
theorem fX11_47 : Fld RX11 47 11 6 true := ⟨(RX11, TX11, 11), rfl, by decide, rfl, by decide, (tb (i := 594) (by decide +kernel) (by decide +kernel))⟩
theorem fX11_54 : Fld RX11 54 11 7 true := ⟨(RX11, TX11, 11), rfl, by decide, rfl, by decide, (tb (i := 595) (by decide +kernel) (by decide +kernel))⟩
theorem fX11_61 : Fld RX11 61 11 8 true := ⟨(RX11, TX11, 11), rfl, by decide, rfl, by decide, (tb (i := 596) (by decide +kernel) (by decide +kernel))⟩
theorem fX11_68 : Fld RX11 68 11 9 true := ⟨(RX11, TX11, 11), rfl, by decide, rfl, by decide, (tb (i := 597) (by decide +kernel) (by decide +kernel))⟩
theorem fX11_72 : Fld RX11 72 11 10 true := ⟨(RX11, TX11, 11), rfl, by decide, rfl, by decide, (tb (i := 598) (by decide +kernel) (by decide +kernel))⟩
theorem fX11_77 : Fld RX11 77 8 1 false := ⟨(RX8, TX8, 9), rfl, by decide, rfl, by decide, (tb (i := 334) (by decide +kernel) (by decide +kernel))⟩
theorem fX11_85 : Fld RX11 85 8 2 false := ⟨(RX8, TX8, 9), rfl, by decide, rfl, by decide, (tb (i := 336) (by decide +kernel) (by decide +kernel))⟩
theorem fX11_88 : Fld RX11 88 8 3 false := ⟨(RX8, TX8, 9), rfl, by decide, rfl, by decide, (tb (i := 338) (by decide +kernel) (by decide +kernel))⟩
theorem fX11_99 : Fld RX11 99 8 0 true := ⟨(RX8, TX8, 9), rfl, by decide, rfl, by decide, (tb (i := 332) (by decide +kernel) (by decide +kernel))⟩
theorem fX11_107 : Fld RX11 107 5 4 false := ⟨(RX5, TX5, 15), rfl, by decide, rfl, by decide, (tb (i := 392) (by decide +kernel) (by decide +kernel))⟩
theorem fX11_108 : Fld RX11 108 5 5 false := ⟨(RX5, TX5, 15), rfl, by decide, rfl, by decide, (tb (i := 394) (by decide +kernel) (by decide +kernel))⟩
theorem fX11_113 : Fld RX11 113 8 4 true := ⟨(RX8, TX8, 9), rfl, by decide, rfl, by decide, (tb (i := 340) (by decide +kernel) (by decide +kernel))⟩
theorem fX11_116 : Fld RX11 116 8 5 true := ⟨(RX8, TX8, 9), rfl, by decide, rfl, by decide, (tb (i := 342) (by decide +kernel) (by decide +kernel))⟩
theorem fX11_120 : Fld RX11 120 5 0 true := ⟨(RX5, TX5, 15), rfl, by decide, rfl, by decide, (tb (i := 384) (by decide +kernel) (by decide +kernel))⟩
theorem fX11_130 : Fld RX11 130 8 6 true := ⟨(RX8, TX8, 9), rfl, by decide, rfl, by decide, (tb (i := 344) (by decide +kernel) (by decide +kernel))⟩
theorem fX11_134 : Fld RX11 134 5 1 true := ⟨(RX5, TX5, 15), rfl, by decide, rfl, by decide, (tb (i := 386) (by decide +kernel) (by decide +kernel))⟩
theorem fX11_140 : Fld RX11 140 8 7 true := ⟨(RX8, TX8, 9), rfl, by decide, rfl, by decide, (tb (i := 346) (by decide +kernel) (by decide +kernel))⟩
theorem fX11_144 : Fld RX11 144 5 2 true := ⟨(RX5, TX5, 15), rfl, by decide, rfl, by decide, (tb (i := 388) (by decide +kernel) (by decide +kernel))⟩
theorem fX11_153 : Fld RX11 153 8 8 true := ⟨(RX8, TX8, 9), rfl, by decide, rfl, by decide, (tb (i := 348) (by decide +kernel) (by decide +kernel))⟩
theorem fX11_157 : Fld RX11 157 5 3 true := ⟨(RX5, TX5, 15), rfl, by decide, rfl, by decide, (tb (i := 390) (by decide +kernel) (by decide +kernel))⟩
theorem fX11_169 : Fld RX11 169 10 0 false := ⟨(RX10, TX10, 12), rfl, by decide, rfl, by decide, (tb (i := 179) (by decide +kernel) (by decide +kernel))⟩
theorem fX11_172 : Fld RX11 172 10 1 false := ⟨(RX10, TX10, 12), rfl, by decide, rfl, by decide, (tb (i := 182) (by decide +kernel) (by decide +kernel))⟩
theorem fX11_175 : Fld RX11 175 10 2 false := ⟨(RX10, TX10, 12), rfl, by decide, rfl, by decide, (tb (i := 186) (by decide +kernel) (by decide +kernel))⟩
theorem fX11_178 : Fld RX11 178 10 3 true := ⟨(RX10, TX10, 12), rfl, by decide, rfl, by decide, (tb (i := 190) (by decide +kernel) (by decide +kernel))⟩
theorem fX11_188 : Fld RX11 188 10 4 true := ⟨(RX10, TX10, 12), rfl, by decide, rfl, by decide, (tb (i := 195) (by decide +kernel) (by decide +kernel))⟩
theorem fX11_191 : Fld RX11 191 10 5 true := ⟨(RX10, TX10, 12), rfl, by decide, rfl, by decide, (tb (i := 199) (by decide +kernel) (by decide +kernel))⟩
theorem fX11_194 : Fld RX11 194 10 6 true := ⟨(RX10, TX10, 12), rfl, by decide, rfl, by decide, (tb (i := 203) (by decide +kernel) (by decide +kernel))⟩
theorem fX11_197 : Fld RX11 197 10 7 true := ⟨(RX10, TX10, 12), rfl, by decide, rfl, by decide, (tb (i := 207) (by decide +kernel) (by decide +kernel))⟩
theorem fX11_200 : Fld RX11 200 10 8 true := ⟨(RX10, TX10, 12), rfl, by decide, rfl, by decide, (tb (i := 212) (by decide +kernel) (by decide +kernel))⟩
theorem fX11_210 : Fld RX11 210 10 9 true := ⟨(RX10, TX10, 12), rfl, by decide, rfl, by decide, (tb (i := 217) (by decide +kernel) (by decide +kernel))⟩
theorem fX11_213 : Fld RX11 213 10 10 true := ⟨(RX10, TX10, 12), rfl, by decide, rfl, by decide, (tb (i := 222) (by decide +kernel) (by decide +kernel))⟩
theorem fX11_216 : Fld RX11 216 10 11 true := ⟨(RX10, TX10, 12), rfl, by decide, rfl, by decide, (tb (i := 227) (by decide +kernel) (by decide +kernel))⟩
theorem fX11_223 : Fld RX11 223 6 0 true := ⟨(RX6, TX6, 2), rfl, by decide, rfl, by decide, (tb (i := 262) (by decide +kernel) (by decide +kernel))⟩
theorem fX11_224 : Fld RX11 224 6 1 true := ⟨(RX6, TX6, 2), rfl, by decide, rfl, by decide, (tb (i := 266) (by decide +kernel) (by decide +kernel))⟩
theorem fX11_228 : Fld RX11 228 1 5 false := ⟨(RX1, TX1, 6), rfl, by decide, rfl, by decide, (tb (i := 457) (by decide +kernel) (by decide +kernel))⟩
theorem fX11_231 : Fld RX11 231 1 0 true := ⟨(RX1, TX1, 6), rfl, by decide, rfl, by decide, (tb (i := 445) (by decide +kernel) (by decide +kernel))⟩
theorem fX11_234 : Fld RX11 234 1 1 true := ⟨(RX1, TX1, 6), rfl, by decide, rfl, by decide, (tb (i := 447) (by decide +kernel) (by decide +kernel))⟩
theorem fX11_237 : Fld RX11 237 1 3 true := ⟨(RX1, TX1, 6), rfl, by decide, rfl, by decide, (tb (i := 452) (by decide +kernel) (by decide +kernel))⟩
theorem fX11_246 : Fld RX11 246 2 1 false := ⟨(RX2, TX2, 10), rfl, by decide, rfl, by decide, (tb (i := 551) (by decide +kernel) (by decide +kernel))⟩
theorem fX11_249 : Fld RX11 249 2 0 true := ⟨(RX2, TX2, 10), rfl, by decide, rfl, by decide, (tb (i := 548) (by decide +kernel) (by decide +kernel))⟩
theorem fX11_254 : Fld RX11 254 2 6 false := ⟨(RX2, TX2, 10), rfl, by decide, rfl, by decide, (tb (i := 562) (by decide +kernel) (by decide +kernel))⟩
theorem fX11_257 : Fld RX11 257 2 2 true := ⟨(RX2, TX2, 10), rfl, by decide, rfl, by decide, (tb (i := 554) (by decide +kernel) (by decide +kernel))⟩
theorem fX11_258 : Fld RX11 258 2 4 true := ⟨(RX2, TX2, 10), rfl, by decide, rfl, by decide, (tb (i := 558) (by decide +kernel) (by decide +kernel))⟩
theorem fX11_265 : Fld RX11 265 2 3 true := ⟨(RX2, TX2, 10), rfl, by decide, rfl, by decide, (tb (i := 556) (by decide +kernel) (by decide +kernel))⟩
theorem fX11_272 : Fld RX11 272 2 7 false := ⟨(RX2, TX2, 10), rfl, by decide, rfl, by decide, (tb (i := 564) (by decide +kernel) (by decide +kernel))⟩
theorem fX11_283 : Fld RX11 283 3 0 true := ⟨(RX3, TX3, 3), rfl, by decide, rfl, by decide, (tb (i := 480) (by decide +kernel) (by decide +kernel))⟩
theorem fX11_286 : Fld RX11 286 3 1 true := ⟨(RX3, TX3, 3), rfl, by decide, rfl, by decide, (tb (i := 482) (by decide +kernel) (by decide +kernel))⟩
theorem fX11_289 : Fld RX11 289 3 2 false := ⟨(RX3, TX3, 3), rfl, by decide, rfl, by decide, (tb (i := 484) (by decide +kernel) (by decide +kernel))⟩
theorem fX11_314 : Fld RX11 314 4 0 true := ⟨(RX4, TX4, 2), rfl, by decide, rfl, by decide, (tb (i := 285) (by decide +kernel) (by decide +kernel))⟩
theorem fX11_315 : Fld RX11 315 4 1 true := ⟨(RX4, TX4, 2), rfl, by decide, rfl, by decide, (tb (i := 289) (by decide +kernel) (by decide +kernel))⟩
theorem fX11_356 : Fld RX11 356 9 0 false := ⟨(RX9, TX9, 5), rfl, by decide, rfl, by decide, (tb (i := 303) (by decide +kernel) (by decide +kernel))⟩
theorem fX11_359 : Fld RX11 359 9 1 true := ⟨(RX9, TX9, 5), rfl, by decide, rfl, by decide, (tb (i := 307) (by decide +kernel) (by decide +kernel))⟩
theorem fX11_362 : Fld RX11 362 9 2 true := ⟨(RX9, TX9, 5), rfl, by decide, rfl, by decide, (tb (i := 311) (by decide +kernel) (by decide +kernel))⟩
theorem fX11_365 : Fld RX11 365 9 3 true := ⟨(RX9, TX9, 5), rfl, by decide, rfl, by decide, (tb (i := 315) (by decide +kernel) (by decide +kernel))⟩
theorem fX11_366 : Fld RX11 366 9 4 true := ⟨(RX9, TX9, 5), rfl, by decide, rfl, by decide, (tb (i := 319) (by decide +kernel) (by decide +kernel))⟩
theorem fX11_376 : Fld RX11 376 7 1 true := ⟨(RX7, TX7, 2), rfl, by decide, rfl, by decide, (tb (i := 503) (by decide +kernel) (by decide +kernel))⟩
theorem fX11_377 : Fld RX11 377 7 0 true := ⟨(RX7, TX7, 2), rfl, by decide, rfl, by decide, (tb (i := 501) (by decide +kernel) (by decide +kernel))⟩
theorem fX11_435 : Fld RX11 435 0 1 true := ⟨(RX0, TX0, 7), rfl, by decide, rfl, by decide, (tb (i := 520) (by decide +kernel) (by decide +kernel))⟩
theorem fX11_438 : Fld RX11 438 0 0 true := ⟨(RX0, TX0, 7), rfl, by decide, rfl, by decide, (tb (i := 518) (by decide +kernel) (by decide +kernel))⟩
theorem fX0_9 : Fld RX0 9 0 0 true := ⟨(RX0, TX0, 7), rfl, by decide, rfl, by decide, (tb (i := 517) (by decide +kernel) (by decide +kernel))⟩
theorem fX0_15 : Fld RX0 15 0 1 true := ⟨(RX0, TX0, 7), rfl, by decide, rfl, by decide, (tb (i := 519) (by decide +kernel) (by decide +kernel))⟩
theorem fX0_21 : Fld RX0 21 0 2 true := ⟨(RX0, TX0, 7), rfl, by decide, rfl, by decide, (tb (i := 521) (by decide +kernel) (by decide +kernel))⟩
theorem fX0_24 : Fld RX0 24 0 3 true := ⟨(RX0, TX0, 7), rfl, by decide, rfl, by decide, (tb (i := 522) (by decide +kernel) (by decide +kernel))⟩
theorem fX0_27 : Fld RX0 27 0 4 true := ⟨(RX0, TX0, 7), rfl, by decide, rfl, by decide, (tb (i := 523) (by decide +kernel) (by decide +kernel))⟩
theorem fX0_30 : Fld RX0 30 0 5 true := ⟨(RX0, TX0, 7), rfl, by decide, rfl, by decide, (tb (i := 524) (by decide +kernel) (by decide +kernel))⟩
theorem fX0_34 : Fld RX0 34 0 6 false := ⟨(RX0, TX0, 7), rfl, by decide, rfl, by decide, (tb (i := 525) (by decide +kernel) (by decide +kernel))⟩
theorem fX0_44 : Fld RX0 44 10 11 true := ⟨(RX10, TX10, 12), rfl, by decide, rfl, by decide, (tb (i := 224) (by decide +kernel) (by decide +kernel))⟩
theorem fX0_49 : Fld RX0 49 10 10 true := ⟨(RX10, TX10, 12), rfl, by decide, rfl, by decide, (tb (i := 220) (by decide +kernel) (by decide +kernel))⟩
theorem fX0_60 : Fld RX0 60 10 8 true := ⟨(RX10, TX10, 12), rfl, by decide, rfl, by decide, (tb (i := 210) (by decide +kernel) (by decide +kernel))⟩
theorem fX0_66 : Fld RX0 66 10 9 true := ⟨(RX10, TX10, 12), rfl, by decide, rfl, by decide, (tb (i := 215) (by decide +kernel) (by decide +kernel))⟩
theorem fX0_77 : Fld RX0 77 2 1 false := ⟨(RX2, TX2, 10), rfl, by decide, rfl, by decide, (tb (i := 550) (by decide +kernel) (by decide +kernel))⟩
theorem fX1_9 : Fld RX1 9 1 0 true := ⟨(RX1, TX1, 6), rfl, by decide, rfl, by decide, (tb (i := 444) (by decide +kernel) (by decide +kernel))⟩
theorem fX1_15 : Fld RX1 15 1 1 true := ⟨(RX1, TX1, 6), rfl, by decide, rfl, by decide, (tb (i := 446) (by decide +kernel) (by decide +kernel))⟩
theorem fX1_18 : Fld RX1 18 1 2 true := ⟨(RX1, TX1, 6), rfl, by decide, rfl, by decide, (tb (i := 448) (by decide +kernel) (by decide +kernel))⟩
theorem fX1_21 : Fld RX1 21 1 3 true := ⟨(RX1, TX1, 6), rfl, by decide, rfl, by decide, (tb (i := 449) (by decide +kernel) (by decide +kernel))⟩
theorem fX1_24 : Fld RX1 24 1 4 true := ⟨(RX1, TX1, 6), rfl, by decide, rfl, by decide, (tb (i := 453) (by decide +kernel) (by decide +kernel))⟩
theorem fX1_28 : Fld RX1 28 1 5 false := ⟨(RX1, TX1, 6), rfl, by decide, rfl, by decide, (tb (i := 454) (by decide +kernel) (by decide +kernel))⟩
theorem fX1_42 : Fld RX1 42 6 0 true := ⟨(RX6, TX6, 2), rfl, by decide, rfl, by decide, (tb (i := 261) (by decide +kernel) (by decide +kernel))⟩
theorem fX1_50 : Fld RX1 50 6 1 true := ⟨(RX6, TX6, 2), rfl, by decide, rfl, by decide, (tb (i := 265) (by decide +kernel) (by decide +kernel))⟩
theorem fX1_54 : Fld RX1 54 10 1 false := ⟨(RX10, TX10, 12), rfl, by decide, rfl, by decide, (tb (i := 183) (by decide +kernel) (by decide +kernel))⟩
theorem fX1_59 : Fld RX1 59 10 3 true := ⟨(RX10, TX10, 12), rfl, by decide, rfl, by decide, (tb (i := 191) (by decide +kernel) (by decide +kernel))⟩
theorem fX1_62 : Fld RX1 62 10 2 false := ⟨(RX10, TX10, 12), rfl, by decide, rfl, by decide, (tb (i := 187) (by decide +kernel) (by decide +kernel))⟩
theorem fX2_9 : Fld RX2 9 2 0 true := ⟨(RX2, TX2, 10), rfl, by decide, rfl, by decide, (tb (i := 547) (by decide +kernel) (by decide +kernel))⟩
theorem fX2_15 : Fld RX2 15 2 1 false := ⟨(RX2, TX2, 10), rfl, by decide, rfl, by decide, (tb (i := 549) (by decide +kernel) (by decide +kernel))⟩
theorem fX2_19 : Fld RX2 19 2 2 true := ⟨(RX2, TX2, 10), rfl, by decide, rfl, by decide, (tb (i := 552) (by decide +kernel) (by decide +kernel))⟩
theorem fX2_22 : Fld RX2 22 2 3 true := ⟨(RX2, TX2, 10), rfl, by decide, rfl, by decide, (tb (i := 555) (by decide +kernel) (by decide +kernel))⟩
theorem fX2_25 : Fld RX2 25 2 4 true := ⟨(RX2, TX2, 10), rfl, by decide, rfl, by decide, (tb (i := 557) (by decide +kernel) (by decide +kernel))⟩
theorem fX2_28 : Fld RX2 28 2 5 true := ⟨(RX2, TX2, 10), rfl, by decide, rfl, by decide, (tb (i := 559) (by decide +kernel) (by decide +kernel))⟩
theorem fX2_31 : Fld RX2 31 2 6 false := ⟨(RX2, TX2, 10), rfl, by decide, rfl, by decide, (tb (i := 560) (by decide +kernel) (by decide +kernel))⟩
theorem fX2_34 : Fld RX2 34 2 7 false := ⟨(RX2, TX2, 10), rfl, by decide, rfl, by decide, (tb (i := 563) (by decide +kernel) (by decide +kernel))⟩
theorem fX2_37 : Fld RX2 37 2 8 false := ⟨(RX2, TX2, 10), rfl, by decide, rfl, by decide, (tb (i := 565) (by decide +kernel) (by decide +kernel))⟩
theorem fX2_40 : Fld RX2 40 2 9 false := ⟨(RX2, TX2, 10), rfl, by decide, rfl, by decide, (tb (i := 566) (by decide +kernel) (by decide +kernel))⟩
theorem fX2_43 : Fld RX2 43 10 4 true := ⟨(RX10, TX10, 12), rfl, by decide, rfl, by decide, (tb (i := 193) (by decide +kernel) (by decide +kernel))⟩
theorem fX2_47 : Fld RX2 47 10 5 true := ⟨(RX10, TX10, 12), rfl, by decide, rfl, by decide, (tb (i := 197) (by decide +kernel) (by decide +kernel))⟩
theorem fX2_55 : Fld RX2 55 1 5 false := ⟨(RX1, TX1, 6), rfl, by decide, rfl, by decide, (tb (i := 455) (by decide +kernel) (by decide +kernel))⟩
theorem fX2_60 : Fld RX2 60 1 3 true := ⟨(RX1, TX1, 6), rfl, by decide, rfl, by decide, (tb (i := 451) (by decide +kernel) (by decide +kernel))⟩
theorem fX2_70 : Fld RX2 70 10 9 true := ⟨(RX10, TX10, 12), rfl, by decide, rfl, by decide, (tb (i := 214) (by decide +kernel) (by decide +kernel))⟩
theorem fX2_71 : Fld RX2 71 10 10 true := ⟨(RX10, TX10, 12), rfl, by decide, rfl, by decide, (tb (i := 219) (by decide +kernel) (by decide +kernel))⟩
theorem fX2_72 : Fld RX2 72 10 8 true := ⟨(RX10, TX10, 12), rfl, by decide, rfl, by decide, (tb (i := 209) (by decide +kernel) (by decide +kernel))⟩
theorem fX2_79 : Fld RX2 79 10 11 true := ⟨(RX10, TX10, 12), rfl, by decide, rfl, by decide, (tb (i := 225) (by decide +kernel) (by decide +kernel))⟩
theorem fX2_92 : Fld RX2 92 4 0 true := ⟨(RX4, TX4, 2), rfl, by decide, rfl, by decide, (tb (i := 283) (by decide +kernel) (by decide +kernel))⟩
theorem fX2_97 : Fld RX2 97 4 1 true := ⟨(RX4, TX4, 2), rfl, by decide, rfl, by decide, (tb (i := 287) (by decide +kernel) (by decide +kernel))⟩
theorem fX3_9 : Fld RX3 9 3 0 true := ⟨(RX3, TX3, 3), rfl, by decide, rfl, by decide, (tb (i := 479) (by decide +kernel) (by decide +kernel))⟩
theorem fX3_15 : Fld RX3 15 3 1 true := ⟨(RX3, TX3, 3), rfl, by decide, rfl, by decide, (tb (i := 481) (by decide +kernel) (by decide +kernel))⟩
theorem fX3_18 : Fld RX3 18 3 2 false := ⟨(RX3, TX3, 3), rfl, by decide, rfl, by decide, (tb (i := 483) (by decide +kernel) (by decide +kernel))⟩
theorem fX3_22 : Fld RX3 22 10 7 true := ⟨(RX10, TX10, 12), rfl, by decide, rfl, by decide, (tb (i := 205) (by decide +kernel) (by decide +kernel))⟩
theorem fX3_27 : Fld RX3 27 10 6 true := ⟨(RX10, TX10, 12), rfl, by decide, rfl, by decide, (tb (i := 201) (by decide +kernel) (by decide +kernel))⟩
theorem fX3_38 : Fld RX3 38 2 6 false := ⟨(RX2, TX2, 10), rfl, by decide, rfl, by decide, (tb (i := 561) (by decide +kernel) (by decide +kernel))⟩
theorem fX3_43 : Fld RX3 43 2 2 true := ⟨(RX2, TX2, 10), rfl, by decide, rfl, by decide, (tb (i := 553) (by decide +kernel) (by decide +kernel))⟩
theorem fX4_9 : Fld RX4 9 4 0 true := ⟨(RX4, TX4, 2), rfl, by decide, rfl, by decide, (tb (i := 282) (by decide +kernel) (by decide +kernel))⟩
theorem fX4_15 : Fld RX4 15 4 1 true := ⟨(RX4, TX4, 2), rfl, by decide, rfl, by decide, (tb (i := 286) (by decide +kernel) (by decide +kernel))⟩
theorem fX5_12 : Fld RX5 12 5 0 true := ⟨(RX5, TX5, 15), rfl, by decide, rfl, by decide, (tb (i := 383) (by decide +kernel) (by decide +kernel))⟩
theorem fX5_21 : Fld RX5 21 5 1 true := ⟨(RX5, TX5, 15), rfl, by decide, rfl, by decide, (tb (i := 385) (by decide +kernel) (by decide +kernel))⟩
theorem fX5_28 : Fld RX5 28 5 2 true := ⟨(RX5, TX5, 15), rfl, by decide, rfl, by decide, (tb (i := 387) (by decide +kernel) (by decide +kernel))⟩
theorem fX5_35 : Fld RX5 35 5 3 true := ⟨(RX5, TX5, 15), rfl, by decide, rfl, by decide, (tb (i := 389) (by decide +kernel) (by decide +kernel))⟩
theorem fX5_39 : Fld RX5 39 5 4 false := ⟨(RX5, TX5, 15), rfl, by decide, rfl, by decide, (tb (i := 391) (by decide +kernel) (by decide +kernel))⟩
theorem fX5_43 : Fld RX5 43 5 5 false := ⟨(RX5, TX5, 15), rfl, by decide, rfl, by decide, (tb (i := 393) (by decide +kernel) (by decide +kernel))⟩
theorem fX5_46 : Fld RX5 46 5 6 true := ⟨(RX5, TX5, 15), rfl, by decide, rfl, by decide, (tb (i := 395) (by decide +kernel) (by decide +kernel))⟩
theorem fX5_50 : Fld RX5 50 5 7 true := ⟨(RX5, TX5, 15), rfl, by decide, rfl, by decide, (tb (i := 396) (by decide +kernel) (by decide +kernel))⟩
theorem fX5_53 : Fld RX5 53 5 8 true := ⟨(RX5, TX5, 15), rfl, by decide, rfl, by decide, (tb (i := 397) (by decide +kernel) (by decide +kernel))⟩
theorem fX5_56 : Fld RX5 56 5 9 false := ⟨(RX5, TX5, 15), rfl, by decide, rfl, by decide, (tb (i := 398) (by decide +kernel) (by decide +kernel))⟩
theorem fX5_59 : Fld RX5 59 5 10 false := ⟨(RX5, TX5, 15), rfl, by decide, rfl, by decide, (tb (i := 399) (by decide +kernel) (by decide +kernel))⟩
theorem fX5_62 : Fld RX5 62 5 11 false := ⟨(RX5, TX5, 15), rfl, by decide, rfl, by decide, (tb (i := 400) (by decide +kernel) (by decide +kernel))⟩
theorem fX5_65 : Fld RX5 65 5 12 false := ⟨(RX5, TX5, 15), rfl, by decide, rfl, by decide, (tb (i := 401) (by decide +kernel) (by decide +kernel))⟩
theorem fX5_68 : Fld RX5 68 5 13 false := ⟨(RX5, TX5, 15), rfl, by decide, rfl, by decide, (tb (i := 402) (by decide +kernel) (by decide +kernel))⟩
theorem fX5_71 : Fld RX5 71 5 14 false := ⟨(RX5, TX5, 15), rfl, by decide, rfl, by decide, (tb (i := 403) (by decide +kernel) (by decide +kernel))⟩
theorem fX5_99 : Fld RX5 99 9 0 false := ⟨(RX9, TX9, 5), rfl, by decide, rfl, by decide, (tb (i := 302) (by decide +kernel) (by decide +kernel))⟩
theorem fX5_134 : Fld RX5 134 10 0 false := ⟨(RX10, TX10, 12), rfl, by decide, rfl, by decide, (tb (i := 178) (by decide +kernel) (by decide +kernel))⟩
theorem fX5_137 : Fld RX5 137 10 1 false := ⟨(RX10, TX10, 12), rfl, by decide, rfl, by decide, (tb (i := 181) (by decide +kernel) (by decide +kernel))⟩
theorem fX5_140 : Fld RX5 140 10 2 false := ⟨(RX10, TX10, 12), rfl, by decide, rfl, by decide, (tb (i := 185) (by decide +kernel) (by decide +kernel))⟩
theorem fX5_146 : Fld RX5 146 10 3 true := ⟨(RX10, TX10, 12), rfl, by decide, rfl, by decide, (tb (i := 189) (by decide +kernel) (by decide +kernel))⟩
theorem fX5_153 : Fld RX5 153 10 4 true := ⟨(RX10, TX10, 12), rfl, by decide, rfl, by decide, (tb (i := 194) (by decide +kernel) (by decide +kernel))⟩
theorem fX5_156 : Fld RX5 156 10 5 true := ⟨(RX10, TX10, 12), rfl, by decide, rfl, by decide, (tb (i := 198) (by decide +kernel) (by decide +kernel))⟩
theorem fX5_159 : Fld RX5 159 10 6 true := ⟨(RX10, TX10, 12), rfl, by decide, rfl, by decide, (tb (i := 202) (by decide +kernel) (by decide +kernel))⟩
theorem fX5_162 : Fld RX5 162 10 7 true := ⟨(RX10, TX10, 12), rfl, by decide, rfl, by decide, (tb (i := 206) (by decide +kernel) (by decide +kernel))⟩
theorem fX5_164 : Fld RX5 164 10 8 true := ⟨(RX10, TX10, 12), rfl, by decide, rfl, by decide, (tb (i := 211) (by decide +kernel) (by decide +kernel))⟩
theorem fX5_183 : Fld RX5 183 10 9 true := ⟨(RX10, TX10, 12), rfl, by decide, rfl, by decide, (tb (i := 216) (by decide +kernel) (by decide +kernel))⟩
theorem fX5_186 : Fld RX5 186 10 10 true := ⟨(RX10, TX10, 12), rfl, by decide, rfl, by decide, (tb (i := 221) (by decide +kernel) (by decide +kernel))⟩
theorem fX5_189 : Fld RX5 189 10 11 true := ⟨(RX10, TX10, 12), rfl, by decide, rfl, by decide, (tb (i := 226) (by decide +kernel) (by decide +kernel))⟩
theorem fX5_196 : Fld RX5 196 6 0 true := ⟨(RX6, TX6, 2), rfl, by decide, rfl, by decide, (tb (i := 263) (by decide +kernel) (by decide +kernel))⟩
theorem fX5_199 : Fld RX5 199 6 1 true := ⟨(RX6, TX6, 2), rfl, by decide, rfl, by decide, (tb (i := 267) (by decide +kernel) (by decide +kernel))⟩
theorem fX5_203 : Fld RX5 203 4 1 true := ⟨(RX4, TX4, 2), rfl, by decide, rfl, by decide, (tb (i := 288) (by decide +kernel) (by decide +kernel))⟩
theorem fX5_204 : Fld RX5 204 4 0 true := ⟨(RX4, TX4, 2), rfl, by decide, rfl, by decide, (tb (i := 284) (by decide +kernel) (by decide +kernel))⟩
theorem fX5_212 : Fld RX5 212 9 1 true := ⟨(RX9, TX9, 5), rfl, by decide, rfl, by decide, (tb (i := 306) (by decide +kernel) (by decide +kernel))⟩
theorem fX5_215 : Fld RX5 215 9 2 true := ⟨(RX9, TX9, 5), rfl, by decide, rfl, by decide, (tb (i := 310) (by decide +kernel) (by decide +kernel))⟩
theorem fX5_218 : Fld RX5 218 9 3 true := ⟨(RX9, TX9, 5), rfl, by decide, rfl, by decide, (tb (i := 314) (by decide +kernel) (by decide +kernel))⟩
theorem fX5_221 : Fld RX5 221 9 4 true := ⟨(RX9, TX9, 5), rfl, by decide, rfl, by decide, (tb (i := 318) (by decide +kernel) (by decide +kernel))⟩
theorem fX6_9 : Fld RX6 9 6 0 true := ⟨(RX6, TX6, 2), rfl, by decide, rfl, by decide, (tb (i := 260) (by decide +kernel) (by decide +kernel))⟩
theorem fX6_15 : Fld RX6 15 6 1 true := ⟨(RX6, TX6, 2), rfl, by decide, rfl, by decide, (tb (i := 264) (by decide +kernel) (by decide +kernel))⟩
theorem fX7_11 : Fld RX7 11 7 0 true := ⟨(RX7, TX7, 2), rfl, by decide, rfl, by decide, (tb (i := 500) (by decide +kernel) (by decide +kernel))⟩
theorem fX7_16 : Fld RX7 16 7 1 true := ⟨(RX7, TX7, 2), rfl, by decide, rfl, by decide, (tb (i := 502) (by decide +kernel) (by decide +kernel))⟩
theorem fX7_20 : Fld RX7 20 9 0 false := ⟨(RX9, TX9, 5), rfl, by decide, rfl, by decide, (tb (i := 301) (by decide +kernel) (by decide +kernel))⟩
theorem fX7_26 : Fld RX7 26 9 1 true := ⟨(RX9, TX9, 5), rfl, by decide, rfl, by decide, (tb (i := 305) (by decide +kernel) (by decide +kernel))⟩
theorem fX7_33 : Fld RX7 33 1 3 true := ⟨(RX1, TX1, 6), rfl, by decide, rfl, by decide, (tb (i := 450) (by decide +kernel) (by decide +kernel))⟩
theorem fX7_38 : Fld RX7 38 1 5 false := ⟨(RX1, TX1, 6), rfl, by decide, rfl, by decide, (tb (i := 456) (by decide +kernel) (by decide +kernel))⟩
theorem fX7_41 : Fld RX7 41 9 2 true := ⟨(RX9, TX9, 5), rfl, by decide, rfl, by decide, (tb (i := 309) (by decide +kernel) (by decide +kernel))⟩
theorem fX7_44 : Fld RX7 44 9 3 true := ⟨(RX9, TX9, 5), rfl, by decide, rfl, by decide, (tb (i := 313) (by decide +kernel) (by decide +kernel))⟩
theorem fX7_47 : Fld RX7 47 9 4 true := ⟨(RX9, TX9, 5), rfl, by decide, rfl, by decide, (tb (i := 317) (by decide +kernel) (by decide +kernel))⟩
theorem fX8_9 : Fld RX8 9 8 0 true := ⟨(RX8, TX8, 9), rfl, by decide, rfl, by decide, (tb (i := 331) (by decide +kernel) (by decide +kernel))⟩
theorem fX8_15 : Fld RX8 15 8 1 false := ⟨(RX8, TX8, 9), rfl, by decide, rfl, by decide, (tb (i := 333) (by decide +kernel) (by decide +kernel))⟩
theorem fX8_19 : Fld RX8 19 8 2 false := ⟨(RX8, TX8, 9), rfl, by decide, rfl, by decide, (tb (i := 335) (by decide +kernel) (by decide +kernel))⟩
theorem fX8_22 : Fld RX8 22 8 3 false := ⟨(RX8, TX8, 9), rfl, by decide, rfl, by decide, (tb (i := 337) (by decide +kernel) (by decide +kernel))⟩
theorem fX8_25 : Fld RX8 25 8 4 true := ⟨(RX8, TX8, 9), rfl, by decide, rfl, by decide, (tb (i := 339) (by decide +kernel) (by decide +kernel))⟩
theorem fX8_31 : Fld RX8 31 8 5 true := ⟨(RX8, TX8, 9), rfl, by decide, rfl, by decide, (tb (i := 341) (by decide +kernel) (by decide +kernel))⟩
theorem fX8_37 : Fld RX8 37 8 6 true := ⟨(RX8, TX8, 9), rfl, by decide, rfl, by decide, (tb (i := 343) (by decide +kernel) (by decide +kernel))⟩
theorem fX8_43 : Fld RX8 43 8 7 true := ⟨(RX8, TX8, 9), rfl, by decide, rfl, by decide, (tb (i := 345) (by decide +kernel) (by decide +kernel))⟩
theorem fX8_49 : Fld RX8 49 8 8 true := ⟨(RX8, TX8, 9), rfl, by decide, rfl, by decide, (tb (i := 347) (by decide +kernel) (by decide +kernel))⟩
theorem fX9_9 : Fld RX9 9 9 0 false := ⟨(RX9, TX9, 5), rfl, by decide, rfl, by decide, (tb (i := 300) (by decide +kernel) (by decide +kernel))⟩
theorem fX9_15 : Fld RX9 15 9 1 true := ⟨(RX9, TX9, 5), rfl, by decide, rfl, by decide, (tb (i := 304) (by decide +kernel) (by decide +kernel))⟩
theorem fX9_19 : Fld RX9 19 9 2 true := ⟨(RX9, TX9, 5), rfl, by decide, rfl, by decide, (tb (i := 308) (by decide +kernel) (by decide +kernel))⟩
theorem fX9_22 : Fld RX9 22 9 3 true := ⟨(RX9, TX9, 5), rfl, by decide, rfl, by decide, (tb (i := 312) (by decide +kernel) (by decide +kernel))⟩
theorem fX9_25 : Fld RX9 25 9 4 true := ⟨(RX9, TX9, 5), rfl, by decide, rfl, by decide, (tb (i := 316) (by decide +kernel) (by decide +kernel))⟩
theorem fX10_9 : Fld RX10 9 10 3 true := ⟨(RX10, TX10, 12), rfl, by decide, rfl, by decide, (tb (i := 188) (by decide +kernel) (by decide +kernel))⟩
theorem fX10_15 : Fld RX10 15 10 4 true := ⟨(RX10, TX10, 12), rfl, by decide, rfl, by decide, (tb (i := 192) (by decide +kernel) (by decide +kernel))⟩
theorem fX10_18 : Fld RX10 18 10 5 true := ⟨(RX10, TX10, 12), rfl, by decide, rfl, by decide, (tb (i := 196) (by decide +kernel) (by decide +kernel))⟩
theorem fX10_21 : Fld RX10 21 10 6 true := ⟨(RX10, TX10, 12), rfl, by decide, rfl, by decide, (tb (i := 200) (by decide +kernel) (by decide +kernel))⟩
theorem fX10_24 : Fld RX10 24 10 7 true := ⟨(RX10, TX10, 12), rfl, by decide, rfl, by decide, (tb (i := 204) (by decide +kernel) (by decide +kernel))⟩
theorem fX10_27 : Fld RX10 27 10 8 true := ⟨(RX10, TX10, 12), rfl, by decide, rfl, by decide, (tb (i := 208) (by decide +kernel) (by decide +kernel))⟩
theorem fX10_30 : Fld RX10 30 10 9 true := ⟨(RX10, TX10, 12), rfl, by decide, rfl, by decide, (tb (i := 213) (by decide +kernel) (by decide +kernel))⟩
theorem fX10_33 : Fld RX10 33 10 10 true := ⟨(RX10, TX10, 12), rfl, by decide, rfl, by decide, (tb (i := 218) (by decide +kernel) (by decide +kernel))⟩
theorem fX10_36 : Fld RX10 36 10 11 true := ⟨(RX10, TX10, 12), rfl, by decide, rfl, by decide, (tb (i := 223) (by decide +kernel) (by decide +kernel))⟩
theorem fX10_42 : Fld RX10 42 10 0 false := ⟨(RX10, TX10, 12), rfl, by decide, rfl, by decide, (tb (i := 177) (by decide +kernel) (by decide +kernel))⟩
theorem fX10_46 : Fld RX10 46 10 1 false := ⟨(RX10, TX10, 12), rfl, by decide, rfl, by decide, (tb (i := 180) (by decide +kernel) (by decide +kernel))⟩
theorem fX10_49 : Fld RX10 49 10 2 false := ⟨(RX10, TX10, 12), rfl, by decide, rfl, by decide, (tb (i := 184) (by decide +kernel) (by decide +kernel))⟩
theorem fX12_7 : Fld RX12 7 12 0 true := ⟨(RX12, TX12, 38), rfl, by decide, rfl, by decide, (tb (i := 1291) (by decide +kernel) (by decide +kernel))⟩
theorem fX12_13 : Fld RX12 13 12 1 true := ⟨(RX12, TX12, 38), rfl, by decide, rfl, by decide, (tb (i := 1292) (by decide +kernel) (by decide +kernel))⟩
theorem fX12_17 : Fld RX12 17 12 9 true := ⟨(RX12, TX12, 38), rfl, by decide, rfl, by decide, (tb (i := 1300) (by decide +kernel) (by decide +kernel))⟩
theorem fX12_20 : Fld RX12 20 12 12 true := ⟨(RX12, TX12, 38), rfl, by decide, rfl, by decide, (tb (i := 1303) (by decide +kernel) (by decide +kernel))⟩
theorem fX12_23 : Fld RX12 23 12 13 true := ⟨(RX12, TX12, 38), rfl, by decide, rfl, by decide, (tb (i := 1304) (by decide +kernel) (by decide +kernel))⟩
theorem fX12_26 : Fld RX12 26 12 14 true := ⟨(RX12, TX12, 38), rfl, by decide, rfl, by decide, (tb (i := 1305) (by decide +kernel) (by decide +kernel))⟩
theorem fX12_29 : Fld RX12 29 12 15 true := ⟨(RX12, TX12, 38), rfl, by decide, rfl, by decide, (tb (i := 1306) (by decide +kernel) (by decide +kernel))⟩
theorem fX12_32 : Fld RX12 32 12 16 true := ⟨(RX12, TX12, 38), rfl, by decide, rfl, by decide, (tb (i := 1307) (by decide +kernel) (by decide +kernel))⟩
theorem fX12_35 : Fld RX12 35 12 17 true := ⟨(RX12, TX12, 38), rfl, by decide, rfl, by decide, (tb (i := 1308) (by decide +kernel) (by decide +kernel))⟩
theorem fX12_38 : Fld RX12 38 12 19 true := ⟨(RX12, TX12, 38), rfl, by decide, rfl, by decide, (tb (i := 1310) (by decide +kernel) (by decide +kernel))⟩
theorem fX12_41 : Fld RX12 41 12 20 true := ⟨(RX12, TX12, 38), rfl, by decide, rfl, by decide, (tb (i := 1311) (by decide +kernel) (by decide +kernel))⟩
theorem fX12_44 : Fld RX12 44 12 21 true := ⟨(RX12, TX12, 38), rfl, by decide, rfl, by decide, (tb (i := 1312) (by decide +kernel) (by decide +kernel))⟩
theorem fX12_47 : Fld RX12 47 12 22 true := ⟨(RX12, TX12, 38), rfl, by decide, rfl, by decide, (tb (i := 1313) (by decide +kernel) (by decide +kernel))⟩
theorem fX12_50 : Fld RX12 50 12 23 true := ⟨(RX12, TX12, 38), rfl, by decide, rfl, by decide, (tb (i := 1314) (by decide +kernel) (by decide +kernel))⟩
theorem fX12_53 : Fld RX12 53 12 24 true := ⟨(RX12, TX12, 38), rfl, by decide, rfl, by decide, (tb (i := 1315) (by decide +kernel) (by decide +kernel))⟩
theorem fX12_56 : Fld RX12 56 12 26 true := ⟨(RX12, TX12, 38), rfl, by decide, rfl, by decide, (tb (i := 1317) (by decide +kernel) (by decide +kernel))⟩
theorem fX12_59 : Fld RX12 59 12 27 true := ⟨(RX12, TX12, 38), rfl, by decide, rfl, by decide, (tb (i := 1318) (by decide +kernel) (by decide +kernel))⟩
theorem fX12_62 : Fld RX12 62 12 28 true := ⟨(RX12, TX12, 38), rfl, by decide, rfl, by decide, (tb (i := 1319) (by decide +kernel) (by decide +kernel))⟩
theorem fX12_65 : Fld RX12 65 12 30 true := ⟨(RX12, TX12, 38), rfl, by decide, rfl, by decide, (tb (i := 1321) (by decide +kernel) (by decide +kernel))⟩
theorem fX12_68 : Fld RX12 68 12 31 true := ⟨(RX12, TX12, 38), rfl, by decide, rfl, by decide, (tb (i := 1322) (by decide +kernel) (by decide +kernel))⟩
theorem fX12_71 : Fld RX12 71 12 32 true := ⟨(RX12, TX12, 38), rfl, by decide, rfl, by decide, (tb (i := 1323) (by decide +kernel) (by decide +kernel))⟩
theorem fX12_74 : Fld RX12 74 12 34 true := ⟨(RX12, TX12, 38), rfl, by decide, rfl, by decide, (tb (i := 1325) (by decide +kernel) (by decide +kernel))⟩
theorem fX12_77 : Fld RX12 77 12 35 true := ⟨(RX12, TX12, 38), rfl, by decide, rfl, by decide, (tb (i := 1326) (by decide +kernel) (by decide +kernel))⟩
theorem fX12_81 : Fld RX12 81 12 36 true := ⟨(RX12, TX12, 38), rfl, by decide, rfl, by decide, (tb (i := 1327) (by decide +kernel) (by decide +kernel))⟩
theorem fX12_84 : Fld RX12 84 12 37 true := ⟨(RX12, TX12, 38), rfl, by decide, rfl, by decide, (tb (i := 1328) (by decide +kernel) (by decide +kernel))⟩
theorem fX12_87 : Fld RX12 87 12 2 false := ⟨(RX12, TX12, 38), rfl, by decide, rfl, by decide, (tb (i := 1293) (by decide +kernel) (by decide +kernel))⟩
theorem fX12_105 : Fld RX12 105 12 3 false := ⟨(RX12, TX12, 38), rfl, by decide, rfl, by decide, (tb (i := 1294) (by decide +kernel) (by decide +kernel))⟩
theorem fX12_112 : Fld RX12 112 12 4 false := ⟨(RX12, TX12, 38), rfl, by decide, rfl, by decide, (tb (i := 1295) (by decide +kernel) (by decide +kernel))⟩
theorem fX12_115 : Fld RX12 115 12 5 false := ⟨(RX12, TX12, 38), rfl, by decide, rfl, by decide, (tb (i := 1296) (by decide +kernel) (by decide +kernel))⟩
theorem fX12_129 : Fld RX12 129 12 7 false := ⟨(RX12, TX12, 38), rfl, by decide, rfl, by decide, (tb (i := 1298) (by decide +kernel) (by decide +kernel))⟩
theorem fX12_135 : Fld RX12 135 12 6 false := ⟨(RX12, TX12, 38), rfl, by decide, rfl, by decide, (tb (i := 1297) (by decide +kernel) (by decide +kernel))⟩
theorem fX12_138 : Fld RX12 138 12 8 false := ⟨(RX12, TX12, 38), rfl, by decide, rfl, by decide, (tb (i := 1299) (by decide +kernel) (by decide +kernel))⟩
theorem fX12_209 : Fld RX12 209 12 10 false := ⟨(RX12, TX12, 38), rfl, by decide, rfl, by decide, (tb (i := 1301) (by decide +kernel) (by decide +kernel))⟩
theorem fX12_237 : Fld RX12 237 12 11 false := ⟨(RX12, TX12, 38), rfl, by decide, rfl, by decide, (tb (i := 1302) (by decide +kernel) (by decide +kernel))⟩
theorem fX12_243 : Fld RX12 243 12 18 false := ⟨(RX12, TX12, 38), rfl, by decide, rfl, by decide, (tb (i := 1309) (by decide +kernel) (by decide +kernel))⟩
theorem fX12_308 : Fld RX12 308 12 25 false := ⟨(RX12, TX12, 38), rfl, by decide, rfl, by decide, (tb (i := 1316) (by decide +kernel) (by decide +kernel))⟩
theorem fX12_331 : Fld RX12 331 12 29 false := ⟨(RX12, TX12, 38), rfl, by decide, rfl, by decide, (tb (i := 1320) (by decide +kernel) (by decide +kernel))⟩
theorem fX12_358 : Fld RX12 358 12 33 false := ⟨(RX12, TX12, 38), rfl, by decide, rfl, by decide, (tb (i := 1324) (by decide +kernel) (by decide +kernel))⟩
theorem nX11_7 : NewC RX11 7 8 := ⟨(RX8, TX8, 9), rfl, (tb (i := 154) (by decide +kernel) (by decide +kernel)), (tb (i := 155) (by decide +kernel) (by decide +kernel)), (tb (i := 127) (by decide +kernel) (by decide +kernel))⟩
theorem nX11_24 : NewC RX11 24 5 := ⟨(RX5, TX5, 15), rfl, (tb (i := 369) (by decide +kernel) (by decide +kernel)), (tb (i := 370) (by decide +kernel) (by decide +kernel)), (tb (i := 132) (by decide +kernel) (by decide +kernel))⟩
theorem nX11_31 : NewC RX11 31 6 := ⟨(RX6, TX6, 2), rfl, (tb (i := 436) (by decide +kernel) (by decide +kernel)), (tb (i := 255) (by decide +kernel) (by decide +kernel)), (tb (i := 129) (by decide +kernel) (by decide +kernel))⟩
theorem nX11_38 : NewC RX11 38 1 := ⟨(RX1, TX1, 6), rfl, (tb (i := 438) (by decide +kernel) (by decide +kernel)), (tb (i := 439) (by decide +kernel) (by decide +kernel)), (tb (i := 133) (by decide +kernel) (by decide +kernel))⟩
theorem nX11_45 : NewC RX11 45 2 := ⟨(RX2, TX2, 10), rfl, (tb (i := 471) (by decide +kernel) (by decide +kernel)), (tb (i := 542) (by decide +kernel) (by decide +kernel)), (tb (i := 137) (by decide +kernel) (by decide +kernel))⟩
theorem nX11_51 : NewC RX11 51 3 := ⟨(RX3, TX3, 3), rfl, (tb (i := 473) (by decide +kernel) (by decide +kernel)), (tb (i := 474) (by decide +kernel) (by decide +kernel)), (tb (i := 134) (by decide +kernel) (by decide +kernel))⟩
theorem nX11_58 : NewC RX11 58 7 := ⟨(RX7, TX7, 2), rfl, (tb (i := 492) (by decide +kernel) (by decide +kernel)), (tb (i := 493) (by decide +kernel) (by decide +kernel)), (tb (i := 135) (by decide +kernel) (by decide +kernel))⟩
theorem nX11_65 : NewC RX11 65 0 := ⟨(RX0, TX0, 7), rfl, (tb (i := 509) (by decide +kernel) (by decide +kernel)), (tb (i := 510) (by decide +kernel) (by decide +kernel)), (tb (i := 136) (by decide +kernel) (by decide +kernel))⟩
theorem nX5_9 : NewC RX5 9 10 := ⟨(RX10, TX10, 12), rfl, (tb (i := 375) (by decide +kernel) (by decide +kernel)), (tb (i := 168) (by decide +kernel) (by decide +kernel)), (tb (i := 128) (by decide +kernel) (by decide +kernel))⟩
theorem nX5_18 : NewC RX5 18 6 := ⟨(RX6, TX6, 2), rfl, (tb (i := 377) (by decide +kernel) (by decide +kernel)), (tb (i := 255) (by decide +kernel) (by decide +kernel)), (tb (i := 129) (by decide +kernel) (by decide +kernel))⟩
theorem nX5_25 : NewC RX5 25 4 := ⟨(RX4, TX4, 2), rfl, (tb (i := 379) (by decide +kernel) (by decide +kernel)), (tb (i := 273) (by decide +kernel) (by decide +kernel)), (tb (i := 130) (by decide +kernel) (by decide +kernel))⟩
theorem nX5_32 : NewC RX5 32 9 := ⟨(RX9, TX9, 5), rfl, (tb (i := 381) (by decide +kernel) (by decide +kernel)), (tb (i := 295) (by decide +kernel) (by decide +kernel)), (tb (i := 131) (by decide +kernel) (by decide +kernel))⟩
theorem nX8_29 : NewC RX8 29 10 := ⟨(RX10, TX10, 12), rfl, (tb (i := 160) (by decide +kernel) (by decide +kernel)), (tb (i := 168) (by decide +kernel) (by decide +kernel)), (tb (i := 128) (by decide +kernel) (by decide +kernel))⟩
theorem nX8_35 : NewC RX8 35 6 := ⟨(RX6, TX6, 2), rfl, (tb (i := 162) (by decide +kernel) (by decide +kernel)), (tb (i := 255) (by decide +kernel) (by decide +kernel)), (tb (i := 129) (by decide +kernel) (by decide +kernel))⟩
theorem nX8_41 : NewC RX8 41 4 := ⟨(RX4, TX4, 2), rfl, (tb (i := 164) (by decide +kernel) (by decide +kernel)), (tb (i := 273) (by decide +kernel) (by decide +kernel)), (tb (i := 130) (by decide +kernel) (by decide +kernel))⟩
theorem nX8_47 : NewC RX8 47 9 := ⟨(RX9, TX9, 5), rfl, (tb (i := 166) (by decide +kernel) (by decide +kernel)), (tb (i := 295) (by decide +kernel) (by decide +kernel)), (tb (i := 131) (by decide +kernel) (by decide +kernel))⟩
theorem nL_7 : NewC RL 7 11 := ⟨(RX11, TX11, 11), rfl, (tb (i := 146) (by decide +kernel) (by decide +kernel)), (tb (i := 147) (by decide +kernel) (by decide +kernel)), (tb (i := 126) (by decide +kernel) (by decide +kernel))⟩
theorem nL_10 : NewC RL 10 12 := ⟨(RX12, TX12, 38), rfl, (tb (i := 1285) (by decide +kernel) (by decide +kernel)), (tb (i := 1286) (by decide +kernel) (by decide +kernel)), (tb (i := 138) (by decide +kernel) (by decide +kernel))⟩
theorem lX11_1 : Cond.methodLink RX11 1 Lib.objectInit ∈ gw ∧ Cond.instanceMethod Lib.objectInit ∈ gw ∧ Cond.code Lib.objectInit ⟨#[0xb1]⟩ 1 none ∈ gw := ⟨(tb (i := 151) (by decide +kernel) (by decide +kernel)), (tb (i := 152) (by decide +kernel) (by decide +kernel)), (tb (i := 153) (by decide +kernel) (by decide +kernel))⟩
theorem lX11_9 : LkI RX11 9 mX8_init 0 := ⟨okX8_init, (tb (i := 156) (by decide +kernel) (by decide +kernel)), (tb (i := 157) (by decide +kernel) (by decide +kernel)), rfl, rfl, by decide +kernel⟩
theorem lX11_26 : LkN RX11 26 mX5_init 0 "OneDrum" := ⟨okX5_init, List.mem_filter.mpr ⟨List.mem_of_getElem? (i := 371) (by decide +kernel), rfl⟩, (tb (i := 372) (by decide +kernel) (by decide +kernel)), rfl, rfl, by decide +kernel⟩
theorem lX11_33 : LkN RX11 33 mX6_init 0 "OneDrum" := ⟨okX6_init, List.mem_filter.mpr ⟨List.mem_of_getElem? (i := 437) (by decide +kernel), rfl⟩, (tb (i := 257) (by decide +kernel) (by decide +kernel)), rfl, rfl, by decide +kernel⟩
theorem lX11_40 : LkN RX11 40 mX1_init 0 "OneDrum" := ⟨okX1_init, List.mem_filter.mpr ⟨List.mem_of_getElem? (i := 440) (by decide +kernel), rfl⟩, (tb (i := 441) (by decide +kernel) (by decide +kernel)), rfl, rfl, by decide +kernel⟩
theorem lX11_53 : LkN RX11 53 mX3_init 0 "OneDrum" := ⟨okX3_init, List.mem_filter.mpr ⟨List.mem_of_getElem? (i := 475) (by decide +kernel), rfl⟩, (tb (i := 476) (by decide +kernel) (by decide +kernel)), rfl, rfl, by decide +kernel⟩
theorem lX11_60 : LkN RX11 60 mX7_init 0 "OneDrum" := ⟨okX7_init, List.mem_filter.mpr ⟨List.mem_of_getElem? (i := 494) (by decide +kernel), rfl⟩, (tb (i := 495) (by decide +kernel) (by decide +kernel)), rfl, rfl, by decide +kernel⟩
theorem lX11_67 : LkN RX11 67 mX0_init 0 "OneDrum" := ⟨okX0_init, List.mem_filter.mpr ⟨List.mem_of_getElem? (i := 511) (by decide +kernel), rfl⟩, (tb (i := 512) (by decide +kernel) (by decide +kernel)), rfl, rfl, by decide +kernel⟩
theorem lX11_76 : LkN RX11 76 mX2_init 0 "OneDrum" := ⟨okX2_init, List.mem_filter.mpr ⟨List.mem_of_getElem? (i := 543) (by decide +kernel), rfl⟩, (tb (i := 544) (by decide +kernel) (by decide +kernel)), rfl, rfl, by decide +kernel⟩
theorem lX11_81 : LkV RX11 81 mX8_push 1 8 := ⟨okX8_push, (tb (i := 626) (by decide +kernel) (by decide +kernel)), (tb (i := 627) (by decide +kernel) (by decide +kernel)), (tb (i := 628) (by decide +kernel) (by decide +kernel)), by decide +kernel, (RX8, TX8, 9), rfl, rfl⟩
theorem lX11_91 : LkS RX11 91 mX11_isSort 1 := ⟨okX11_isSort, (tb (i := 638) (by decide +kernel) (by decide +kernel)), (tb (i := 639) (by decide +kernel) (by decide +kernel)), by decide +kernel⟩
theorem lX11_95 : LkV RX11 95 mX11_mayStandAt 2 11 := ⟨okX11_mayStandAt, (tb (i := 641) (by decide +kernel) (by decide +kernel)), (tb (i := 643) (by decide +kernel) (by decide +kernel)), (tb (i := 0) (by decide +kernel) (by decide +kernel)), by decide +kernel, (RX11, TX11, 11), rfl, rfl⟩
theorem lX11_103 : LkV RX11 103 mX5_read 3 5 := ⟨okX5_read, (tb (i := 645) (by decide +kernel) (by decide +kernel)), (tb (i := 646) (by decide +kernel) (by decide +kernel)), (tb (i := 647) (by decide +kernel) (by decide +kernel)), by decide +kernel, (RX5, TX5, 15), rfl, rfl⟩
theorem lX11_109 : LkV RX11 109 mX11_keepText 2 11 := ⟨okX11_keepText, (tb (i := 833) (by decide +kernel) (by decide +kernel)), (tb (i := 835) (by decide +kernel) (by decide +kernel)), (tb (i := 25) (by decide +kernel) (by decide +kernel)), by decide +kernel, (RX11, TX11, 11), rfl, rfl⟩
theorem lX11_124 : LkV RX11 124 mX10_copyFrom 1 10 := ⟨okX10_copyFrom, (tb (i := 837) (by decide +kernel) (by decide +kernel)), (tb (i := 838) (by decide +kernel) (by decide +kernel)), (tb (i := 839) (by decide +kernel) (by decide +kernel)), by decide +kernel, (RX10, TX10, 12), rfl, rfl⟩
theorem lX11_137 : LkV RX11 137 mX6_copyFrom 1 6 := ⟨okX6_copyFrom, (tb (i := 844) (by decide +kernel) (by decide +kernel)), (tb (i := 845) (by decide +kernel) (by decide +kernel)), (tb (i := 846) (by decide +kernel) (by decide +kernel)), by decide +kernel, (RX6, TX6, 2), rfl, rfl⟩
theorem lX11_148 : LkV RX11 148 mX4_copyFrom 1 4 := ⟨okX4_copyFrom, (tb (i := 849) (by decide +kernel) (by decide +kernel)), (tb (i := 850) (by decide +kernel) (by decide +kernel)), (tb (i := 851) (by decide +kernel) (by decide +kernel)), by decide +kernel, (RX4, TX4, 2), rfl, rfl⟩
theorem lX11_160 : LkV RX11 160 mX9_copyFrom 1 9 := ⟨okX9_copyFrom, (tb (i := 854) (by decide +kernel) (by decide +kernel)), (tb (i := 855) (by decide +kernel) (by decide +kernel)), (tb (i := 856) (by decide +kernel) (by decide +kernel)), by decide +kernel, (RX9, TX9, 5), rfl, rfl⟩
theorem lX11_165 : LkV RX11 165 mX11_warAt 1 11 := ⟨okX11_warAt, (tb (i := 867) (by decide +kernel) (by decide +kernel)), (tb (i := 869) (by decide +kernel) (by decide +kernel)), (tb (i := 26) (by decide +kernel) (by decide +kernel)), by decide +kernel, (RX11, TX11, 11), rfl, rfl⟩
theorem lX11_181 : LkS RX11 181 mX11_isArmy 1 := ⟨okX11_isArmy, (tb (i := 871) (by decide +kernel) (by decide +kernel)), (tb (i := 872) (by decide +kernel) (by decide +kernel)), by decide +kernel⟩
theorem lX11_184 : LkS RX11 184 mX11_ofArmy 3 := ⟨okX11_ofArmy, (tb (i := 874) (by decide +kernel) (by decide +kernel)), (tb (i := 875) (by decide +kernel) (by decide +kernel)), by decide +kernel⟩
theorem lX11_203 : LkS RX11 203 mX11_isOrder 3 := ⟨okX11_isOrder, (tb (i := 881) (by decide +kernel) (by decide +kernel)), (tb (i := 882) (by decide +kernel) (by decide +kernel)), by decide +kernel⟩
theorem lX11_207 : LkS RX11 207 mX10_slot 2 := ⟨okX10_slot, (tb (i := 884) (by decide +kernel) (by decide +kernel)), (tb (i := 768) (by decide +kernel) (by decide +kernel)), by decide +kernel⟩
theorem lX11_219 : LkV RX11 219 mX11_scoreAt 1 11 := ⟨okX11_scoreAt, (tb (i := 889) (by decide +kernel) (by decide +kernel)), (tb (i := 891) (by decide +kernel) (by decide +kernel)), (tb (i := 27) (by decide +kernel) (by decide +kernel)), by decide +kernel, (RX11, TX11, 11), rfl, rfl⟩
theorem lX11_225 : LkV RX11 225 mX11_perform 2 11 := ⟨okX11_perform, (tb (i := 897) (by decide +kernel) (by decide +kernel)), (tb (i := 899) (by decide +kernel) (by decide +kernel)), (tb (i := 28) (by decide +kernel) (by decide +kernel)), by decide +kernel, (RX11, TX11, 11), rfl, rfl⟩
theorem lX11_240 : LkV RX11 240 mX1_echoesAt 1 1 := ⟨okX1_echoesAt, (tb (i := 919) (by decide +kernel) (by decide +kernel)), (tb (i := 920) (by decide +kernel) (by decide +kernel)), (tb (i := 921) (by decide +kernel) (by decide +kernel)), by decide +kernel, (RX1, TX1, 6), rfl, rfl⟩
theorem lX11_243 : LkV RX11 243 mX11_performToBoth 2 11 := ⟨okX11_performToBoth, (tb (i := 927) (by decide +kernel) (by decide +kernel)), (tb (i := 929) (by decide +kernel) (by decide +kernel)), (tb (i := 31) (by decide +kernel) (by decide +kernel)), by decide +kernel, (RX11, TX11, 11), rfl, rfl⟩
theorem lX11_250 : LkV RX11 250 mX11_madeInAll 2 11 := ⟨okX11_madeInAll, (tb (i := 953) (by decide +kernel) (by decide +kernel)), (tb (i := 955) (by decide +kernel) (by decide +kernel)), (tb (i := 34) (by decide +kernel) (by decide +kernel)), by decide +kernel, (RX11, TX11, 11), rfl, rfl⟩
theorem lX11_261 : LkV RX11 261 mX2_placeOf 1 2 := ⟨okX2_placeOf, (tb (i := 966) (by decide +kernel) (by decide +kernel)), (tb (i := 962) (by decide +kernel) (by decide +kernel)), (tb (i := 963) (by decide +kernel) (by decide +kernel)), by decide +kernel, (RX2, TX2, 10), rfl, rfl⟩
theorem lX11_268 : LkV RX11 268 mX2_foreignness 3 2 := ⟨okX2_foreignness, (tb (i := 967) (by decide +kernel) (by decide +kernel)), (tb (i := 968) (by decide +kernel) (by decide +kernel)), (tb (i := 969) (by decide +kernel) (by decide +kernel)), by decide +kernel, (RX2, TX2, 10), rfl, rfl⟩
theorem lX11_275 : LkV RX11 275 mX2_echoedMoves 1 2 := ⟨okX2_echoedMoves, (tb (i := 957) (by decide +kernel) (by decide +kernel)), (tb (i := 958) (by decide +kernel) (by decide +kernel)), (tb (i := 959) (by decide +kernel) (by decide +kernel)), by decide +kernel, (RX2, TX2, 10), rfl, rfl⟩
theorem lX11_279 : LkV RX11 279 mX3_walk 3 3 := ⟨okX3_walk, (tb (i := 979) (by decide +kernel) (by decide +kernel)), (tb (i := 980) (by decide +kernel) (by decide +kernel)), (tb (i := 981) (by decide +kernel) (by decide +kernel)), by decide +kernel, (RX3, TX3, 3), rfl, rfl⟩
theorem lX11_292 : LkS RX11 292 mX11_isMove 1 := ⟨okX11_isMove, (tb (i := 1000) (by decide +kernel) (by decide +kernel)), (tb (i := 1001) (by decide +kernel) (by decide +kernel)), by decide +kernel⟩
theorem lX11_295 : LkV RX11 295 mX6_giveNumber 3 6 := ⟨okX6_giveNumber, (tb (i := 1003) (by decide +kernel) (by decide +kernel)), (tb (i := 1004) (by decide +kernel) (by decide +kernel)), (tb (i := 1005) (by decide +kernel) (by decide +kernel)), by decide +kernel, (RX6, TX6, 2), rfl, rfl⟩
theorem lX11_299 : LkV RX11 299 mX11_holdsAgainstAll 4 11 := ⟨okX11_holdsAgainstAll, (tb (i := 1008) (by decide +kernel) (by decide +kernel)), (tb (i := 1010) (by decide +kernel) (by decide +kernel)), (tb (i := 35) (by decide +kernel) (by decide +kernel)), by decide +kernel, (RX11, TX11, 11), rfl, rfl⟩
theorem lX11_303 : LkV RX11 303 mX1_lay 2 1 := ⟨okX1_lay, (tb (i := 901) (by decide +kernel) (by decide +kernel)), (tb (i := 902) (by decide +kernel) (by decide +kernel)), (tb (i := 903) (by decide +kernel) (by decide +kernel)), by decide +kernel, (RX1, TX1, 6), rfl, rfl⟩
theorem lX11_307 : LkV RX11 307 mX11_letsMake 3 11 := ⟨okX11_letsMake, (tb (i := 1012) (by decide +kernel) (by decide +kernel)), (tb (i := 1014) (by decide +kernel) (by decide +kernel)), (tb (i := 36) (by decide +kernel) (by decide +kernel)), by decide +kernel, (RX11, TX11, 11), rfl, rfl⟩
theorem lX11_310 : LkV RX11 310 mX11_hearingAt 1 11 := ⟨okX11_hearingAt, (tb (i := 1024) (by decide +kernel) (by decide +kernel)), (tb (i := 1026) (by decide +kernel) (by decide +kernel)), (tb (i := 37) (by decide +kernel) (by decide +kernel)), by decide +kernel, (RX11, TX11, 11), rfl, rfl⟩
theorem lX11_316 : LkV RX11 316 mX1_restsGiven 0 1 := ⟨okX1_restsGiven, (tb (i := 1032) (by decide +kernel) (by decide +kernel)), (tb (i := 1033) (by decide +kernel) (by decide +kernel)), (tb (i := 1034) (by decide +kernel) (by decide +kernel)), by decide +kernel, (RX1, TX1, 6), rfl, rfl⟩
theorem lX11_320 : LkV RX11 320 mX11_explains 3 11 := ⟨okX11_explains, (tb (i := 1036) (by decide +kernel) (by decide +kernel)), (tb (i := 1038) (by decide +kernel) (by decide +kernel)), (tb (i := 38) (by decide +kernel) (by decide +kernel)), by decide +kernel, (RX11, TX11, 11), rfl, rfl⟩
theorem lX11_324 : LkS RX11 324 mJ6_bitCount_0f7a4 1 := ⟨okJ6_bitCount_0f7a4, (tb (i := 1052) (by decide +kernel) (by decide +kernel)), (tb (i := 1053) (by decide +kernel) (by decide +kernel)), by decide +kernel⟩
theorem lX11_329 : LkV RX11 329 mX1_hush 1 1 := ⟨okX1_hush, (tb (i := 1040) (by decide +kernel) (by decide +kernel)), (tb (i := 1041) (by decide +kernel) (by decide +kernel)), (tb (i := 1042) (by decide +kernel) (by decide +kernel)), by decide +kernel, (RX1, TX1, 6), rfl, rfl⟩
theorem lX11_332 : LkV RX11 332 mX11_soundsAsTold 2 11 := ⟨okX11_soundsAsTold, (tb (i := 1044) (by decide +kernel) (by decide +kernel)), (tb (i := 1046) (by decide +kernel) (by decide +kernel)), (tb (i := 39) (by decide +kernel) (by decide +kernel)), by decide +kernel, (RX11, TX11, 11), rfl, rfl⟩
theorem lX11_336 : LkV RX11 336 mX11_shortestTruce 3 11 := ⟨okX11_shortestTruce, (tb (i := 1066) (by decide +kernel) (by decide +kernel)), (tb (i := 1068) (by decide +kernel) (by decide +kernel)), (tb (i := 40) (by decide +kernel) (by decide +kernel)), by decide +kernel, (RX11, TX11, 11), rfl, rfl⟩
theorem lX11_339 : LkV RX11 339 mX0_farness 3 0 := ⟨okX0_farness, (tb (i := 1074) (by decide +kernel) (by decide +kernel)), (tb (i := 1075) (by decide +kernel) (by decide +kernel)), (tb (i := 1076) (by decide +kernel) (by decide +kernel)), by decide +kernel, (RX0, TX0, 7), rfl, rfl⟩
theorem lX11_342 : LkV RX11 342 mX0_safety 2 0 := ⟨okX0_safety, (tb (i := 1091) (by decide +kernel) (by decide +kernel)), (tb (i := 1092) (by decide +kernel) (by decide +kernel)), (tb (i := 1093) (by decide +kernel) (by decide +kernel)), by decide +kernel, (RX0, TX0, 7), rfl, rfl⟩
theorem lX11_346 : LkV RX11 346 mX0_heads 2 0 := ⟨okX0_heads, (tb (i := 1097) (by decide +kernel) (by decide +kernel)), (tb (i := 1098) (by decide +kernel) (by decide +kernel)), (tb (i := 1099) (by decide +kernel) (by decide +kernel)), by decide +kernel, (RX0, TX0, 7), rfl, rfl⟩
theorem lX11_349 : LkV RX11 349 mX10_sameBeats 2 10 := ⟨okX10_sameBeats, (tb (i := 1109) (by decide +kernel) (by decide +kernel)), (tb (i := 1110) (by decide +kernel) (by decide +kernel)), (tb (i := 1111) (by decide +kernel) (by decide +kernel)), by decide +kernel, (RX10, TX10, 12), rfl, rfl⟩
theorem lX11_352 : LkV RX11 352 mX11_villagesAt 1 11 := ⟨okX11_villagesAt, (tb (i := 1118) (by decide +kernel) (by decide +kernel)), (tb (i := 1120) (by decide +kernel) (by decide +kernel)), (tb (i := 41) (by decide +kernel) (by decide +kernel)), by decide +kernel, (RX11, TX11, 11), rfl, rfl⟩
theorem lX11_369 : LkV RX11 369 mX9_depth 1 9 := ⟨okX9_depth, (tb (i := 1122) (by decide +kernel) (by decide +kernel)), (tb (i := 1123) (by decide +kernel) (by decide +kernel)), (tb (i := 1124) (by decide +kernel) (by decide +kernel)), by decide +kernel, (RX9, TX9, 5), rfl, rfl⟩
theorem lX11_372 : LkV RX11 372 mX11_tellAround 4 11 := ⟨okX11_tellAround, (tb (i := 1130) (by decide +kernel) (by decide +kernel)), (tb (i := 1132) (by decide +kernel) (by decide +kernel)), (tb (i := 42) (by decide +kernel) (by decide +kernel)), by decide +kernel, (RX11, TX11, 11), rfl, rfl⟩
theorem lX11_380 : LkV RX11 380 mX7_likeBits 2 7 := ⟨okX7_likeBits, (tb (i := 1153) (by decide +kernel) (by decide +kernel)), (tb (i := 1154) (by decide +kernel) (by decide +kernel)), (tb (i := 1155) (by decide +kernel) (by decide +kernel)), by decide +kernel, (RX7, TX7, 2), rfl, rfl⟩
theorem lX11_383 : LkV RX11 383 mX0_take 4 0 := ⟨okX0_take, (tb (i := 1161) (by decide +kernel) (by decide +kernel)), (tb (i := 1079) (by decide +kernel) (by decide +kernel)), (tb (i := 1080) (by decide +kernel) (by decide +kernel)), by decide +kernel, (RX0, TX0, 7), rfl, rfl⟩
theorem lX11_387 : LkV RX11 387 mX0_fewestChanges 0 0 := ⟨okX0_fewestChanges, (tb (i := 1162) (by decide +kernel) (by decide +kernel)), (tb (i := 1084) (by decide +kernel) (by decide +kernel)), (tb (i := 1085) (by decide +kernel) (by decide +kernel)), by decide +kernel, (RX0, TX0, 7), rfl, rfl⟩
theorem lX11_390 : LkV RX11 390 mX7_tell 2 7 := ⟨okX7_tell, (tb (i := 1134) (by decide +kernel) (by decide +kernel)), (tb (i := 1135) (by decide +kernel) (by decide +kernel)), (tb (i := 1136) (by decide +kernel) (by decide +kernel)), by decide +kernel, (RX7, TX7, 2), rfl, rfl⟩
theorem lX11_394 : LkV RX11 394 mX11_moveCountsToNothing 0 11 := ⟨okX11_moveCountsToNothing, (tb (i := 1167) (by decide +kernel) (by decide +kernel)), (tb (i := 1169) (by decide +kernel) (by decide +kernel)), (tb (i := 46) (by decide +kernel) (by decide +kernel)), by decide +kernel, (RX11, TX11, 11), rfl, rfl⟩
theorem lX11_397 : LkV RX11 397 mX1_blow 1 1 := ⟨okX1_blow, (tb (i := 1171) (by decide +kernel) (by decide +kernel)), (tb (i := 1172) (by decide +kernel) (by decide +kernel)), (tb (i := 1173) (by decide +kernel) (by decide +kernel)), by decide +kernel, (RX1, TX1, 6), rfl, rfl⟩
theorem lX11_400 : LkV RX11 400 mX11_playToBoth 1 11 := ⟨okX11_playToBoth, (tb (i := 1176) (by decide +kernel) (by decide +kernel)), (tb (i := 1178) (by decide +kernel) (by decide +kernel)), (tb (i := 47) (by decide +kernel) (by decide +kernel)), by decide +kernel, (RX11, TX11, 11), rfl, rfl⟩
theorem lX11_403 : LkV RX11 403 mX2_madeTheSame 1 2 := ⟨okX2_madeTheSame, (tb (i := 1180) (by decide +kernel) (by decide +kernel)), (tb (i := 1181) (by decide +kernel) (by decide +kernel)), (tb (i := 1182) (by decide +kernel) (by decide +kernel)), by decide +kernel, (RX2, TX2, 10), rfl, rfl⟩
theorem lX11_407 : LkV RX11 407 mX11_theyMeet 1 11 := ⟨okX11_theyMeet, (tb (i := 1184) (by decide +kernel) (by decide +kernel)), (tb (i := 1186) (by decide +kernel) (by decide +kernel)), (tb (i := 48) (by decide +kernel) (by decide +kernel)), by decide +kernel, (RX11, TX11, 11), rfl, rfl⟩
theorem lX11_411 : LkV RX11 411 mX11_countMoves 0 11 := ⟨okX11_countMoves, (tb (i := 1188) (by decide +kernel) (by decide +kernel)), (tb (i := 1190) (by decide +kernel) (by decide +kernel)), (tb (i := 49) (by decide +kernel) (by decide +kernel)), by decide +kernel, (RX11, TX11, 11), rfl, rfl⟩
theorem lX11_414 : LkV RX11 414 mX1_period 0 1 := ⟨okX1_period, (tb (i := 1196) (by decide +kernel) (by decide +kernel)), (tb (i := 1197) (by decide +kernel) (by decide +kernel)), (tb (i := 1198) (by decide +kernel) (by decide +kernel)), by decide +kernel, (RX1, TX1, 6), rfl, rfl⟩
theorem lX11_417 : LkV RX11 417 mX11_mostAlikeFrom 1 11 := ⟨okX11_mostAlikeFrom, (tb (i := 1204) (by decide +kernel) (by decide +kernel)), (tb (i := 1206) (by decide +kernel) (by decide +kernel)), (tb (i := 51) (by decide +kernel) (by decide +kernel)), by decide +kernel, (RX11, TX11, 11), rfl, rfl⟩
theorem lX11_420 : LkV RX11 420 mX2_alikeFrom 3 2 := ⟨okX2_alikeFrom, (tb (i := 1208) (by decide +kernel) (by decide +kernel)), (tb (i := 1209) (by decide +kernel) (by decide +kernel)), (tb (i := 1210) (by decide +kernel) (by decide +kernel)), by decide +kernel, (RX2, TX2, 10), rfl, rfl⟩
theorem lX11_424 : Cond.methodLink RX11 424 Lib.Math.max.name ∈ gw := (tb (i := 1213) (by decide +kernel) (by decide +kernel))
theorem lX11_431 : LkV RX11 431 mX0_readAll 3 0 := ⟨okX0_readAll, (tb (i := 1219) (by decide +kernel) (by decide +kernel)), (tb (i := 1220) (by decide +kernel) (by decide +kernel)), (tb (i := 1221) (by decide +kernel) (by decide +kernel)), by decide +kernel, (RX0, TX0, 7), rfl, rfl⟩
theorem lX11_442 : LkV RX11 442 mX0_shortestTwofold 2 0 := ⟨okX0_shortestTwofold, (tb (i := 1232) (by decide +kernel) (by decide +kernel)), (tb (i := 1233) (by decide +kernel) (by decide +kernel)), (tb (i := 1234) (by decide +kernel) (by decide +kernel)), by decide +kernel, (RX0, TX0, 7), rfl, rfl⟩
theorem lX11_445 : LkV RX11 445 mX11_fewestChanged 3 11 := ⟨okX11_fewestChanged, (tb (i := 1252) (by decide +kernel) (by decide +kernel)), (tb (i := 1254) (by decide +kernel) (by decide +kernel)), (tb (i := 56) (by decide +kernel) (by decide +kernel)), by decide +kernel, (RX11, TX11, 11), rfl, rfl⟩
theorem lX11_448 : LkV RX11 448 mX11_letsMakeBy 5 11 := ⟨okX11_letsMakeBy, (tb (i := 1256) (by decide +kernel) (by decide +kernel)), (tb (i := 1258) (by decide +kernel) (by decide +kernel)), (tb (i := 57) (by decide +kernel) (by decide +kernel)), by decide +kernel, (RX11, TX11, 11), rfl, rfl⟩
theorem lX11_452 : LkV RX11 452 mX1_giveOther 2 1 := ⟨okX1_giveOther, (tb (i := 1260) (by decide +kernel) (by decide +kernel)), (tb (i := 1261) (by decide +kernel) (by decide +kernel)), (tb (i := 1262) (by decide +kernel) (by decide +kernel)), by decide +kernel, (RX1, TX1, 6), rfl, rfl⟩
theorem lX11_456 : LkV RX11 456 mX8_copyFrom 1 8 := ⟨okX8_copyFrom, (tb (i := 1272) (by decide +kernel) (by decide +kernel)), (tb (i := 1273) (by decide +kernel) (by decide +kernel)), (tb (i := 1274) (by decide +kernel) (by decide +kernel)), by decide +kernel, (RX8, TX8, 9), rfl, rfl⟩
theorem lX11_459 : LkV RX11 459 mX1_play 1 1 := ⟨okX1_play, (tb (i := 911) (by decide +kernel) (by decide +kernel)), (tb (i := 912) (by decide +kernel) (by decide +kernel)), (tb (i := 913) (by decide +kernel) (by decide +kernel)), by decide +kernel, (RX1, TX1, 6), rfl, rfl⟩
theorem lX11_462 : LkV RX11 462 mX11_listenBoth 1 11 := ⟨okX11_listenBoth, (tb (i := 931) (by decide +kernel) (by decide +kernel)), (tb (i := 933) (by decide +kernel) (by decide +kernel)), (tb (i := 32) (by decide +kernel) (by decide +kernel)), by decide +kernel, (RX11, TX11, 11), rfl, rfl⟩
theorem lX11_465 : LkV RX11 465 mX2_listen 3 2 := ⟨okX2_listen, (tb (i := 935) (by decide +kernel) (by decide +kernel)), (tb (i := 936) (by decide +kernel) (by decide +kernel)), (tb (i := 937) (by decide +kernel) (by decide +kernel)), by decide +kernel, (RX2, TX2, 10), rfl, rfl⟩
theorem lX11_469 : LkV RX11 469 mX2_hasMade 1 2 := ⟨okX2_hasMade, (tb (i := 1016) (by decide +kernel) (by decide +kernel)), (tb (i := 1017) (by decide +kernel) (by decide +kernel)), (tb (i := 1018) (by decide +kernel) (by decide +kernel)), by decide +kernel, (RX2, TX2, 10), rfl, rfl⟩
theorem lX11_472 : LkV RX11 472 mX2_madeAsTold 2 2 := ⟨okX2_madeAsTold, (tb (i := 1048) (by decide +kernel) (by decide +kernel)), (tb (i := 1049) (by decide +kernel) (by decide +kernel)), (tb (i := 1050) (by decide +kernel) (by decide +kernel)), by decide +kernel, (RX2, TX2, 10), rfl, rfl⟩
theorem lX0_3 : Cond.methodLink RX0 3 Lib.objectInit ∈ gw ∧ Cond.instanceMethod Lib.objectInit ∈ gw ∧ Cond.code Lib.objectInit ⟨#[0xb1]⟩ 1 none ∈ gw := ⟨(tb (i := 514) (by decide +kernel) (by decide +kernel)), (tb (i := 152) (by decide +kernel) (by decide +kernel)), (tb (i := 153) (by decide +kernel) (by decide +kernel))⟩
theorem lX0_38 : Cond.methodLink RX0 38 Lib.Math.min.name ∈ gw := (tb (i := 1082) (by decide +kernel) (by decide +kernel))
theorem lX0_52 : LkV RX0 52 mX0_take 4 0 := ⟨okX0_take, (tb (i := 1078) (by decide +kernel) (by decide +kernel)), (tb (i := 1079) (by decide +kernel) (by decide +kernel)), (tb (i := 1080) (by decide +kernel) (by decide +kernel)), by decide +kernel, (RX0, TX0, 7), rfl, rfl⟩
theorem lX0_56 : LkV RX0 56 mX0_fewestChanges 0 0 := ⟨okX0_fewestChanges, (tb (i := 1083) (by decide +kernel) (by decide +kernel)), (tb (i := 1084) (by decide +kernel) (by decide +kernel)), (tb (i := 1085) (by decide +kernel) (by decide +kernel)), by decide +kernel, (RX0, TX0, 7), rfl, rfl⟩
theorem lX0_63 : LkS RX0 63 mX10_slot 2 := ⟨okX10_slot, (tb (i := 1095) (by decide +kernel) (by decide +kernel)), (tb (i := 768) (by decide +kernel) (by decide +kernel)), by decide +kernel⟩
theorem lX0_69 : LkV RX0 69 mX0_farness 3 0 := ⟨okX0_farness, (tb (i := 1096) (by decide +kernel) (by decide +kernel)), (tb (i := 1075) (by decide +kernel) (by decide +kernel)), (tb (i := 1076) (by decide +kernel) (by decide +kernel)), by decide +kernel, (RX0, TX0, 7), rfl, rfl⟩
theorem lX0_73 : LkV RX0 73 mX10_agree 4 10 := ⟨okX10_agree, (tb (i := 1101) (by decide +kernel) (by decide +kernel)), (tb (i := 1102) (by decide +kernel) (by decide +kernel)), (tb (i := 1103) (by decide +kernel) (by decide +kernel)), by decide +kernel, (RX10, TX10, 12), rfl, rfl⟩
theorem lX0_82 : LkV RX0 82 mX2_hears 3 2 := ⟨okX2_hears, (tb (i := 1223) (by decide +kernel) (by decide +kernel)), (tb (i := 946) (by decide +kernel) (by decide +kernel)), (tb (i := 947) (by decide +kernel) (by decide +kernel)), by decide +kernel, (RX2, TX2, 10), rfl, rfl⟩
theorem lX0_86 : LkV RX0 86 mX0_readOn 2 0 := ⟨okX0_readOn, (tb (i := 1224) (by decide +kernel) (by decide +kernel)), (tb (i := 1226) (by decide +kernel) (by decide +kernel)), (tb (i := 52) (by decide +kernel) (by decide +kernel)), by decide +kernel, (RX0, TX0, 7), rfl, rfl⟩
theorem lX0_90 : LkV RX0 90 mX0_beginTwofold 4 0 := ⟨okX0_beginTwofold, (tb (i := 1236) (by decide +kernel) (by decide +kernel)), (tb (i := 1238) (by decide +kernel) (by decide +kernel)), (tb (i := 53) (by decide +kernel) (by decide +kernel)), by decide +kernel, (RX0, TX0, 7), rfl, rfl⟩
theorem lX0_94 : LkV RX0 94 mX0_goOnTwofold 3 0 := ⟨okX0_goOnTwofold, (tb (i := 1244) (by decide +kernel) (by decide +kernel)), (tb (i := 1246) (by decide +kernel) (by decide +kernel)), (tb (i := 55) (by decide +kernel) (by decide +kernel)), by decide +kernel, (RX0, TX0, 7), rfl, rfl⟩
theorem lX0_97 : LkV RX0 97 mX0_reach 4 0 := ⟨okX0_reach, (tb (i := 1240) (by decide +kernel) (by decide +kernel)), (tb (i := 1242) (by decide +kernel) (by decide +kernel)), (tb (i := 54) (by decide +kernel) (by decide +kernel)), by decide +kernel, (RX0, TX0, 7), rfl, rfl⟩
theorem lX1_3 : Cond.methodLink RX1 3 Lib.objectInit ∈ gw ∧ Cond.instanceMethod Lib.objectInit ∈ gw ∧ Cond.code Lib.objectInit ⟨#[0xb1]⟩ 1 none ∈ gw := ⟨(tb (i := 443) (by decide +kernel) (by decide +kernel)), (tb (i := 152) (by decide +kernel) (by decide +kernel)), (tb (i := 153) (by decide +kernel) (by decide +kernel))⟩
theorem lX1_32 : Cond.methodLink RX1 32 Lib.Math.max.name ∈ gw := (tb (i := 905) (by decide +kernel) (by decide +kernel))
theorem lX1_38 : LkV RX1 38 mX1_layTurn 4 1 := ⟨okX1_layTurn, (tb (i := 906) (by decide +kernel) (by decide +kernel)), (tb (i := 908) (by decide +kernel) (by decide +kernel)), (tb (i := 29) (by decide +kernel) (by decide +kernel)), by decide +kernel, (RX1, TX1, 6), rfl, rfl⟩
theorem lX1_47 : Cond.methodLink RX1 47 Lib.Math.min.name ∈ gw := (tb (i := 910) (by decide +kernel) (by decide +kernel))
theorem lX1_65 : LkV RX1 65 mX1_sendEchoes 1 1 := ⟨okX1_sendEchoes, (tb (i := 915) (by decide +kernel) (by decide +kernel)), (tb (i := 917) (by decide +kernel) (by decide +kernel)), (tb (i := 30) (by decide +kernel) (by decide +kernel)), by decide +kernel, (RX1, TX1, 6), rfl, rfl⟩
theorem lX1_69 : LkV RX1 69 mX1_repeatsAfter 1 1 := ⟨okX1_repeatsAfter, (tb (i := 1200) (by decide +kernel) (by decide +kernel)), (tb (i := 1202) (by decide +kernel) (by decide +kernel)), (tb (i := 50) (by decide +kernel) (by decide +kernel)), by decide +kernel, (RX1, TX1, 6), rfl, rfl⟩
theorem lX2_3 : Cond.methodLink RX2 3 Lib.objectInit ∈ gw ∧ Cond.instanceMethod Lib.objectInit ∈ gw ∧ Cond.code Lib.objectInit ⟨#[0xb1]⟩ 1 none ∈ gw := ⟨(tb (i := 546) (by decide +kernel) (by decide +kernel)), (tb (i := 152) (by decide +kernel) (by decide +kernel)), (tb (i := 153) (by decide +kernel) (by decide +kernel))⟩
theorem lX2_49 : Cond.methodLink RX2 49 Lib.Math.max.name ∈ gw := (tb (i := 939) (by decide +kernel) (by decide +kernel))
theorem lX2_63 : LkV RX2 63 mX2_longestOrder 3 2 := ⟨okX2_longestOrder, (tb (i := 940) (by decide +kernel) (by decide +kernel)), (tb (i := 942) (by decide +kernel) (by decide +kernel)), (tb (i := 33) (by decide +kernel) (by decide +kernel)), by decide +kernel, (RX2, TX2, 10), rfl, rfl⟩
theorem lX2_67 : LkS RX2 67 mX10_slot 2 := ⟨okX10_slot, (tb (i := 944) (by decide +kernel) (by decide +kernel)), (tb (i := 768) (by decide +kernel) (by decide +kernel)), by decide +kernel⟩
theorem lX2_75 : LkV RX2 75 mX2_hears 3 2 := ⟨okX2_hears, (tb (i := 945) (by decide +kernel) (by decide +kernel)), (tb (i := 946) (by decide +kernel) (by decide +kernel)), (tb (i := 947) (by decide +kernel) (by decide +kernel)), by decide +kernel, (RX2, TX2, 10), rfl, rfl⟩
theorem lX2_80 : LkV RX2 80 mX2_placeOf 1 2 := ⟨okX2_placeOf, (tb (i := 961) (by decide +kernel) (by decide +kernel)), (tb (i := 962) (by decide +kernel) (by decide +kernel)), (tb (i := 963) (by decide +kernel) (by decide +kernel)), by decide +kernel, (RX2, TX2, 10), rfl, rfl⟩
theorem lX2_84 : LkV RX2 84 mX1_wasGivenBy 2 1 := ⟨okX1_wasGivenBy, (tb (i := 971) (by decide +kernel) (by decide +kernel)), (tb (i := 972) (by decide +kernel) (by decide +kernel)), (tb (i := 973) (by decide +kernel) (by decide +kernel)), by decide +kernel, (RX1, TX1, 6), rfl, rfl⟩
theorem lX2_88 : LkV RX2 88 mX1_echoesAt 1 1 := ⟨okX1_echoesAt, (tb (i := 965) (by decide +kernel) (by decide +kernel)), (tb (i := 920) (by decide +kernel) (by decide +kernel)), (tb (i := 921) (by decide +kernel) (by decide +kernel)), by decide +kernel, (RX1, TX1, 6), rfl, rfl⟩
theorem lX2_98 : Cond.methodLink RX2 98 Lib.Math.min.name ∈ gw := (tb (i := 1212) (by decide +kernel) (by decide +kernel))
theorem lX3_3 : Cond.methodLink RX3 3 Lib.objectInit ∈ gw ∧ Cond.instanceMethod Lib.objectInit ∈ gw ∧ Cond.code Lib.objectInit ⟨#[0xb1]⟩ 1 none ∈ gw := ⟨(tb (i := 478) (by decide +kernel) (by decide +kernel)), (tb (i := 152) (by decide +kernel) (by decide +kernel)), (tb (i := 153) (by decide +kernel) (by decide +kernel))⟩
theorem lX3_30 : LkS RX3 30 mX3_moveAt 2 := ⟨okX3_moveAt, (tb (i := 983) (by decide +kernel) (by decide +kernel)), (tb (i := 984) (by decide +kernel) (by decide +kernel)), by decide +kernel⟩
theorem lX3_34 : LkS RX3 34 mX3_stride 3 := ⟨okX3_stride, (tb (i := 986) (by decide +kernel) (by decide +kernel)), (tb (i := 987) (by decide +kernel) (by decide +kernel)), by decide +kernel⟩
theorem lX3_46 : LkS RX3 46 mJ6_signum_0f7a4 1 := ⟨okJ6_signum_0f7a4, (tb (i := 989) (by decide +kernel) (by decide +kernel)), (tb (i := 990) (by decide +kernel) (by decide +kernel)), by decide +kernel⟩
theorem lX4_3 : Cond.methodLink RX4 3 Lib.objectInit ∈ gw ∧ Cond.instanceMethod Lib.objectInit ∈ gw ∧ Cond.code Lib.objectInit ⟨#[0xb1]⟩ 1 none ∈ gw := ⟨(tb (i := 277) (by decide +kernel) (by decide +kernel)), (tb (i := 152) (by decide +kernel) (by decide +kernel)), (tb (i := 153) (by decide +kernel) (by decide +kernel))⟩
theorem lX4_18 : LkV RX4 18 mX4_reset 0 4 := ⟨okX4_reset, (tb (i := 278) (by decide +kernel) (by decide +kernel)), (tb (i := 279) (by decide +kernel) (by decide +kernel)), (tb (i := 280) (by decide +kernel) (by decide +kernel)), by decide +kernel, (RX4, TX4, 2), rfl, rfl⟩
theorem lX4_21 : Cond.methodLink RX4 21 arraycopyName ∈ gw := (tb (i := 853) (by decide +kernel) (by decide +kernel))
theorem lX5_3 : Cond.methodLink RX5 3 Lib.objectInit ∈ gw ∧ Cond.instanceMethod Lib.objectInit ∈ gw ∧ Cond.code Lib.objectInit ⟨#[0xb1]⟩ 1 none ∈ gw := ⟨(tb (i := 374) (by decide +kernel) (by decide +kernel)), (tb (i := 152) (by decide +kernel) (by decide +kernel)), (tb (i := 153) (by decide +kernel) (by decide +kernel))⟩
theorem lX5_11 : LkI RX5 11 mX10_init 0 := ⟨okX10_init, (tb (i := 376) (by decide +kernel) (by decide +kernel)), (tb (i := 170) (by decide +kernel) (by decide +kernel)), rfl, rfl, by decide +kernel⟩
theorem lX5_20 : LkN RX5 20 mX6_init 0 "OneDrum" := ⟨okX6_init, List.mem_filter.mpr ⟨List.mem_of_getElem? (i := 378) (by decide +kernel), rfl⟩, (tb (i := 257) (by decide +kernel) (by decide +kernel)), rfl, rfl, by decide +kernel⟩
theorem lX5_27 : LkI RX5 27 mX4_init 0 := ⟨okX4_init, (tb (i := 380) (by decide +kernel) (by decide +kernel)), (tb (i := 275) (by decide +kernel) (by decide +kernel)), rfl, rfl, by decide +kernel⟩
theorem lX5_34 : LkN RX5 34 mX9_init 0 "OneDrum" := ⟨okX9_init, List.mem_filter.mpr ⟨List.mem_of_getElem? (i := 382) (by decide +kernel), rfl⟩, (tb (i := 297) (by decide +kernel) (by decide +kernel)), rfl, rfl, by decide +kernel⟩
theorem lX5_74 : Cond.methodLink RX5 74 Lib.Math.min.name ∈ gw := (tb (i := 649) (by decide +kernel) (by decide +kernel))
theorem lX5_80 : LkV RX5 80 mX5_scan 2 5 := ⟨okX5_scan, (tb (i := 652) (by decide +kernel) (by decide +kernel)), (tb (i := 654) (by decide +kernel) (by decide +kernel)), (tb (i := 1) (by decide +kernel) (by decide +kernel)), by decide +kernel, (RX5, TX5, 15), rfl, rfl⟩
theorem lX5_84 : LkV RX5 84 mX5_resetDrafts 0 5 := ⟨okX5_resetDrafts, (tb (i := 733) (by decide +kernel) (by decide +kernel)), (tb (i := 735) (by decide +kernel) (by decide +kernel)), (tb (i := 3) (by decide +kernel) (by decide +kernel)), by decide +kernel, (RX5, TX5, 15), rfl, rfl⟩
theorem lX5_87 : LkV RX5 87 mX5_next 0 5 := ⟨okX5_next, (tb (i := 743) (by decide +kernel) (by decide +kernel)), (tb (i := 745) (by decide +kernel) (by decide +kernel)), (tb (i := 4) (by decide +kernel) (by decide +kernel)), by decide +kernel, (RX5, TX5, 15), rfl, rfl⟩
theorem lX5_90 : LkV RX5 90 mX5_readLine 1 5 := ⟨okX5_readLine, (tb (i := 747) (by decide +kernel) (by decide +kernel)), (tb (i := 749) (by decide +kernel) (by decide +kernel)), (tb (i := 5) (by decide +kernel) (by decide +kernel)), by decide +kernel, (RX5, TX5, 15), rfl, rfl⟩
theorem lX5_94 : LkV RX5 94 mX10_reset 0 10 := ⟨okX10_reset, (tb (i := 737) (by decide +kernel) (by decide +kernel)), (tb (i := 174) (by decide +kernel) (by decide +kernel)), (tb (i := 175) (by decide +kernel) (by decide +kernel)), by decide +kernel, (RX10, TX10, 12), rfl, rfl⟩
theorem lX5_97 : LkV RX5 97 mX6_reset 0 6 := ⟨okX6_reset, (tb (i := 738) (by decide +kernel) (by decide +kernel)), (tb (i := 739) (by decide +kernel) (by decide +kernel)), (tb (i := 740) (by decide +kernel) (by decide +kernel)), by decide +kernel, (RX6, TX6, 2), rfl, rfl⟩
theorem lX5_98 : LkV RX5 98 mX4_reset 0 4 := ⟨okX4_reset, (tb (i := 742) (by decide +kernel) (by decide +kernel)), (tb (i := 279) (by decide +kernel) (by decide +kernel)), (tb (i := 280) (by decide +kernel) (by decide +kernel)), by decide +kernel, (RX4, TX4, 2), rfl, rfl⟩
theorem lX5_102 : LkV RX5 102 mX5_readWarLine 2 5 := ⟨okX5_readWarLine, (tb (i := 751) (by decide +kernel) (by decide +kernel)), (tb (i := 753) (by decide +kernel) (by decide +kernel)), (tb (i := 6) (by decide +kernel) (by decide +kernel)), by decide +kernel, (RX5, TX5, 15), rfl, rfl⟩
theorem lX5_106 : LkV RX5 106 mX5_readScoreLine 1 5 := ⟨okX5_readScoreLine, (tb (i := 805) (by decide +kernel) (by decide +kernel)), (tb (i := 807) (by decide +kernel) (by decide +kernel)), (tb (i := 18) (by decide +kernel) (by decide +kernel)), by decide +kernel, (RX5, TX5, 15), rfl, rfl⟩
theorem lX5_109 : LkV RX5 109 mX5_readHearingLine 1 5 := ⟨okX5_readHearingLine, (tb (i := 813) (by decide +kernel) (by decide +kernel)), (tb (i := 815) (by decide +kernel) (by decide +kernel)), (tb (i := 20) (by decide +kernel) (by decide +kernel)), by decide +kernel, (RX5, TX5, 15), rfl, rfl⟩
theorem lX5_112 : LkV RX5 112 mX5_readVillageLine 2 5 := ⟨okX5_readVillageLine, (tb (i := 817) (by decide +kernel) (by decide +kernel)), (tb (i := 819) (by decide +kernel) (by decide +kernel)), (tb (i := 21) (by decide +kernel) (by decide +kernel)), by decide +kernel, (RX5, TX5, 15), rfl, rfl⟩
theorem lX5_115 : LkV RX5 115 mX5_takeSemicolon 0 5 := ⟨okX5_takeSemicolon, (tb (i := 829) (by decide +kernel) (by decide +kernel)), (tb (i := 831) (by decide +kernel) (by decide +kernel)), (tb (i := 24) (by decide +kernel) (by decide +kernel)), by decide +kernel, (RX5, TX5, 15), rfl, rfl⟩
theorem lX5_119 : LkV RX5 119 mX5_readOrder 1 5 := ⟨okX5_readOrder, (tb (i := 755) (by decide +kernel) (by decide +kernel)), (tb (i := 757) (by decide +kernel) (by decide +kernel)), (tb (i := 7) (by decide +kernel) (by decide +kernel)), by decide +kernel, (RX5, TX5, 15), rfl, rfl⟩
theorem lX5_122 : LkV RX5 122 mX5_readWet 0 5 := ⟨okX5_readWet, (tb (i := 786) (by decide +kernel) (by decide +kernel)), (tb (i := 788) (by decide +kernel) (by decide +kernel)), (tb (i := 14) (by decide +kernel) (by decide +kernel)), by decide +kernel, (RX5, TX5, 15), rfl, rfl⟩
theorem lX5_125 : LkV RX5 125 mX5_readOfDrum 1 5 := ⟨okX5_readOfDrum, (tb (i := 794) (by decide +kernel) (by decide +kernel)), (tb (i := 796) (by decide +kernel) (by decide +kernel)), (tb (i := 16) (by decide +kernel) (by decide +kernel)), by decide +kernel, (RX5, TX5, 15), rfl, rfl⟩
theorem lX5_128 : LkV RX5 128 mX5_readOfArmy 1 5 := ⟨okX5_readOfArmy, (tb (i := 798) (by decide +kernel) (by decide +kernel)), (tb (i := 800) (by decide +kernel) (by decide +kernel)), (tb (i := 17) (by decide +kernel) (by decide +kernel)), by decide +kernel, (RX5, TX5, 15), rfl, rfl⟩
theorem lX5_131 : LkV RX5 131 mX5_takeNumber 2 5 := ⟨okX5_takeNumber, (tb (i := 759) (by decide +kernel) (by decide +kernel)), (tb (i := 761) (by decide +kernel) (by decide +kernel)), (tb (i := 8) (by decide +kernel) (by decide +kernel)), by decide +kernel, (RX5, TX5, 15), rfl, rfl⟩
theorem lX5_143 : LkV RX5 143 mX5_takeBeat 0 5 := ⟨okX5_takeBeat, (tb (i := 790) (by decide +kernel) (by decide +kernel)), (tb (i := 792) (by decide +kernel) (by decide +kernel)), (tb (i := 15) (by decide +kernel) (by decide +kernel)), by decide +kernel, (RX5, TX5, 15), rfl, rfl⟩
theorem lX5_149 : LkS RX5 149 mX5_mostOfArmy 1 := ⟨okX5_mostOfArmy, (tb (i := 802) (by decide +kernel) (by decide +kernel)), (tb (i := 803) (by decide +kernel) (by decide +kernel)), by decide +kernel⟩
theorem lX5_167 : LkS RX5 167 mX10_slot 2 := ⟨okX10_slot, (tb (i := 767) (by decide +kernel) (by decide +kernel)), (tb (i := 768) (by decide +kernel) (by decide +kernel)), by decide +kernel⟩
theorem lX5_170 : LkV RX5 170 mX5_note 2 5 := ⟨okX5_note, (tb (i := 763) (by decide +kernel) (by decide +kernel)), (tb (i := 765) (by decide +kernel) (by decide +kernel)), (tb (i := 9) (by decide +kernel) (by decide +kernel)), by decide +kernel, (RX5, TX5, 15), rfl, rfl⟩
theorem lX5_174 : LkV RX5 174 mX5_takeMove 0 5 := ⟨okX5_takeMove, (tb (i := 770) (by decide +kernel) (by decide +kernel)), (tb (i := 772) (by decide +kernel) (by decide +kernel)), (tb (i := 10) (by decide +kernel) (by decide +kernel)), by decide +kernel, (RX5, TX5, 15), rfl, rfl⟩
theorem lX5_177 : LkV RX5 177 mX5_isBeatHere 0 5 := ⟨okX5_isBeatHere, (tb (i := 778) (by decide +kernel) (by decide +kernel)), (tb (i := 780) (by decide +kernel) (by decide +kernel)), (tb (i := 12) (by decide +kernel) (by decide +kernel)), by decide +kernel, (RX5, TX5, 15), rfl, rfl⟩
theorem lX5_180 : LkV RX5 180 mX5_readOrderBeats 1 5 := ⟨okX5_readOrderBeats, (tb (i := 782) (by decide +kernel) (by decide +kernel)), (tb (i := 784) (by decide +kernel) (by decide +kernel)), (tb (i := 13) (by decide +kernel) (by decide +kernel)), by decide +kernel, (RX5, TX5, 15), rfl, rfl⟩
theorem lX5_192 : LkV RX5 192 mX5_addGiven 1 5 := ⟨okX5_addGiven, (tb (i := 809) (by decide +kernel) (by decide +kernel)), (tb (i := 811) (by decide +kernel) (by decide +kernel)), (tb (i := 19) (by decide +kernel) (by decide +kernel)), by decide +kernel, (RX5, TX5, 15), rfl, rfl⟩
theorem lX5_200 : LkV RX5 200 mX5_isMoveHere 0 5 := ⟨okX5_isMoveHere, (tb (i := 774) (by decide +kernel) (by decide +kernel)), (tb (i := 776) (by decide +kernel) (by decide +kernel)), (tb (i := 11) (by decide +kernel) (by decide +kernel)), by decide +kernel, (RX5, TX5, 15), rfl, rfl⟩
theorem lX5_205 : LkV RX5 205 mX5_takeParent 0 5 := ⟨okX5_takeParent, (tb (i := 821) (by decide +kernel) (by decide +kernel)), (tb (i := 823) (by decide +kernel) (by decide +kernel)), (tb (i := 22) (by decide +kernel) (by decide +kernel)), by decide +kernel, (RX5, TX5, 15), rfl, rfl⟩
theorem lX5_208 : LkV RX5 208 mX5_addVillage 4 5 := ⟨okX5_addVillage, (tb (i := 825) (by decide +kernel) (by decide +kernel)), (tb (i := 827) (by decide +kernel) (by decide +kernel)), (tb (i := 23) (by decide +kernel) (by decide +kernel)), by decide +kernel, (RX5, TX5, 15), rfl, rfl⟩
theorem lX5_224 : LkS RX5 224 mX5_isLetter 1 := ⟨okX5_isLetter, (tb (i := 656) (by decide +kernel) (by decide +kernel)), (tb (i := 657) (by decide +kernel) (by decide +kernel)), by decide +kernel⟩
theorem lX5_227 : LkS RX5 227 mX5_behindLetters 3 := ⟨okX5_behindLetters, (tb (i := 659) (by decide +kernel) (by decide +kernel)), (tb (i := 660) (by decide +kernel) (by decide +kernel)), by decide +kernel⟩
theorem lX5_231 : LkS RX5 231 mX5_wordNumber 3 := ⟨okX5_wordNumber, (tb (i := 662) (by decide +kernel) (by decide +kernel)), (tb (i := 663) (by decide +kernel) (by decide +kernel)), by decide +kernel⟩
theorem lX5_234 : LkV RX5 234 mX5_keepToken 3 5 := ⟨okX5_keepToken, (tb (i := 717) (by decide +kernel) (by decide +kernel)), (tb (i := 719) (by decide +kernel) (by decide +kernel)), (tb (i := 2) (by decide +kernel) (by decide +kernel)), by decide +kernel, (RX5, TX5, 15), rfl, rfl⟩
theorem lX5_238 : LkS RX5 238 mX5_isDigit 1 := ⟨okX5_isDigit, (tb (i := 721) (by decide +kernel) (by decide +kernel)), (tb (i := 722) (by decide +kernel) (by decide +kernel)), by decide +kernel⟩
theorem lX5_241 : LkS RX5 241 mX5_behindDigits 3 := ⟨okX5_behindDigits, (tb (i := 724) (by decide +kernel) (by decide +kernel)), (tb (i := 725) (by decide +kernel) (by decide +kernel)), by decide +kernel⟩
theorem lX5_244 : LkS RX5 244 mX5_number 3 := ⟨okX5_number, (tb (i := 727) (by decide +kernel) (by decide +kernel)), (tb (i := 728) (by decide +kernel) (by decide +kernel)), by decide +kernel⟩
theorem lX5_247 : Cond.methodLink RX5 247 Lib.Math.max.name ∈ gw := (tb (i := 730) (by decide +kernel) (by decide +kernel))
theorem lX5_262 : LkS RX5 262 mX5_isWord 4 := ⟨okX5_isWord, (tb (i := 714) (by decide +kernel) (by decide +kernel)), (tb (i := 715) (by decide +kernel) (by decide +kernel)), by decide +kernel⟩
theorem lX6_3 : Cond.methodLink RX6 3 Lib.objectInit ∈ gw ∧ Cond.instanceMethod Lib.objectInit ∈ gw ∧ Cond.code Lib.objectInit ⟨#[0xb1]⟩ 1 none ∈ gw := ⟨(tb (i := 259) (by decide +kernel) (by decide +kernel)), (tb (i := 152) (by decide +kernel) (by decide +kernel)), (tb (i := 153) (by decide +kernel) (by decide +kernel))⟩
theorem lX6_18 : Cond.methodLink RX6 18 arraycopyName ∈ gw := (tb (i := 848) (by decide +kernel) (by decide +kernel))
theorem lX6_24 : Cond.methodLink RX6 24 Lib.Math.min.name ∈ gw := (tb (i := 1007) (by decide +kernel) (by decide +kernel))
theorem lX7_3 : Cond.methodLink RX7 3 Lib.objectInit ∈ gw ∧ Cond.instanceMethod Lib.objectInit ∈ gw ∧ Cond.code Lib.objectInit ⟨#[0xb1]⟩ 1 none ∈ gw := ⟨(tb (i := 497) (by decide +kernel) (by decide +kernel)), (tb (i := 152) (by decide +kernel) (by decide +kernel)), (tb (i := 153) (by decide +kernel) (by decide +kernel))⟩
theorem lX7_29 : LkV RX7 29 mX7_repeat 4 7 := ⟨okX7_repeat, (tb (i := 1138) (by decide +kernel) (by decide +kernel)), (tb (i := 1140) (by decide +kernel) (by decide +kernel)), (tb (i := 43) (by decide +kernel) (by decide +kernel)), by decide +kernel, (RX7, TX7, 2), rfl, rfl⟩
theorem lX7_50 : LkS RX7 50 mX7_swapped 3 := ⟨okX7_swapped, (tb (i := 1142) (by decide +kernel) (by decide +kernel)), (tb (i := 1143) (by decide +kernel) (by decide +kernel)), by decide +kernel⟩
theorem lX7_54 : LkV RX7 54 mX7_say 2 7 := ⟨okX7_say, (tb (i := 1145) (by decide +kernel) (by decide +kernel)), (tb (i := 1147) (by decide +kernel) (by decide +kernel)), (tb (i := 44) (by decide +kernel) (by decide +kernel)), by decide +kernel, (RX7, TX7, 2), rfl, rfl⟩
theorem lX7_58 : LkV RX7 58 mX7_sameVersion 2 7 := ⟨okX7_sameVersion, (tb (i := 1157) (by decide +kernel) (by decide +kernel)), (tb (i := 1159) (by decide +kernel) (by decide +kernel)), (tb (i := 45) (by decide +kernel) (by decide +kernel)), by decide +kernel, (RX7, TX7, 2), rfl, rfl⟩
theorem lX8_3 : Cond.methodLink RX8 3 Lib.objectInit ∈ gw ∧ Cond.instanceMethod Lib.objectInit ∈ gw ∧ Cond.code Lib.objectInit ⟨#[0xb1]⟩ 1 none ∈ gw := ⟨(tb (i := 159) (by decide +kernel) (by decide +kernel)), (tb (i := 152) (by decide +kernel) (by decide +kernel)), (tb (i := 153) (by decide +kernel) (by decide +kernel))⟩
theorem lX8_53 : LkI RX8 53 mX10_init 0 := ⟨okX10_init, (tb (i := 169) (by decide +kernel) (by decide +kernel)), (tb (i := 170) (by decide +kernel) (by decide +kernel)), rfl, rfl, by decide +kernel⟩
theorem lX8_54 : LkN RX8 54 mX6_init 0 "OneDrum" := ⟨okX6_init, List.mem_filter.mpr ⟨List.mem_of_getElem? (i := 256) (by decide +kernel), rfl⟩, (tb (i := 257) (by decide +kernel) (by decide +kernel)), rfl, rfl, by decide +kernel⟩
theorem lX8_55 : LkI RX8 55 mX4_init 0 := ⟨okX4_init, (tb (i := 274) (by decide +kernel) (by decide +kernel)), (tb (i := 275) (by decide +kernel) (by decide +kernel)), rfl, rfl, by decide +kernel⟩
theorem lX8_56 : LkN RX8 56 mX9_init 0 "OneDrum" := ⟨okX9_init, List.mem_filter.mpr ⟨List.mem_of_getElem? (i := 296) (by decide +kernel), rfl⟩, (tb (i := 297) (by decide +kernel) (by decide +kernel)), rfl, rfl, by decide +kernel⟩
theorem lX8_57 : Cond.methodLink RX8 57 arraycopyName ∈ gw := (tb (i := 1276) (by decide +kernel) (by decide +kernel))
theorem lX8_63 : LkV RX8 63 mX10_copyFrom 1 10 := ⟨okX10_copyFrom, (tb (i := 1277) (by decide +kernel) (by decide +kernel)), (tb (i := 838) (by decide +kernel) (by decide +kernel)), (tb (i := 839) (by decide +kernel) (by decide +kernel)), by decide +kernel, (RX10, TX10, 12), rfl, rfl⟩
theorem lX8_67 : LkV RX8 67 mX6_copyFrom 1 6 := ⟨okX6_copyFrom, (tb (i := 1278) (by decide +kernel) (by decide +kernel)), (tb (i := 845) (by decide +kernel) (by decide +kernel)), (tb (i := 846) (by decide +kernel) (by decide +kernel)), by decide +kernel, (RX6, TX6, 2), rfl, rfl⟩
theorem lX8_70 : LkV RX8 70 mX4_copyFrom 1 4 := ⟨okX4_copyFrom, (tb (i := 1279) (by decide +kernel) (by decide +kernel)), (tb (i := 850) (by decide +kernel) (by decide +kernel)), (tb (i := 851) (by decide +kernel) (by decide +kernel)), by decide +kernel, (RX4, TX4, 2), rfl, rfl⟩
theorem lX8_73 : LkV RX8 73 mX9_copyFrom 1 9 := ⟨okX9_copyFrom, (tb (i := 1280) (by decide +kernel) (by decide +kernel)), (tb (i := 855) (by decide +kernel) (by decide +kernel)), (tb (i := 856) (by decide +kernel) (by decide +kernel)), by decide +kernel, (RX9, TX9, 5), rfl, rfl⟩
theorem lX9_3 : Cond.methodLink RX9 3 Lib.objectInit ∈ gw ∧ Cond.instanceMethod Lib.objectInit ∈ gw ∧ Cond.code Lib.objectInit ⟨#[0xb1]⟩ 1 none ∈ gw := ⟨(tb (i := 299) (by decide +kernel) (by decide +kernel)), (tb (i := 152) (by decide +kernel) (by decide +kernel)), (tb (i := 153) (by decide +kernel) (by decide +kernel))⟩
theorem lX9_28 : Cond.methodLink RX9 28 arraycopyName ∈ gw := (tb (i := 858) (by decide +kernel) (by decide +kernel))
theorem lX10_3 : Cond.methodLink RX10 3 Lib.objectInit ∈ gw ∧ Cond.instanceMethod Lib.objectInit ∈ gw ∧ Cond.code Lib.objectInit ⟨#[0xb1]⟩ 1 none ∈ gw := ⟨(tb (i := 172) (by decide +kernel) (by decide +kernel)), (tb (i := 152) (by decide +kernel) (by decide +kernel)), (tb (i := 153) (by decide +kernel) (by decide +kernel))⟩
theorem lX10_39 : LkV RX10 39 mX10_reset 0 10 := ⟨okX10_reset, (tb (i := 173) (by decide +kernel) (by decide +kernel)), (tb (i := 174) (by decide +kernel) (by decide +kernel)), (tb (i := 175) (by decide +kernel) (by decide +kernel)), by decide +kernel, (RX10, TX10, 12), rfl, rfl⟩
theorem lX10_52 : Cond.methodLink RX10 52 arraycopyName ∈ gw := (tb (i := 841) (by decide +kernel) (by decide +kernel))
theorem lX10_58 : LkV RX10 58 mX10_agree 4 10 := ⟨okX10_agree, (tb (i := 1113) (by decide +kernel) (by decide +kernel)), (tb (i := 1102) (by decide +kernel) (by decide +kernel)), (tb (i := 1103) (by decide +kernel) (by decide +kernel)), by decide +kernel, (RX10, TX10, 12), rfl, rfl⟩
theorem lL_9 : LkI RL 9 mX11_init 0 := ⟨okX11_init, (tb (i := 148) (by decide +kernel) (by decide +kernel)), (tb (i := 149) (by decide +kernel) (by decide +kernel)), rfl, rfl, by decide +kernel⟩
theorem lL_12 : LkI RL 12 mX12_init 0 := ⟨okX12_init, (tb (i := 1287) (by decide +kernel) (by decide +kernel)), (tb (i := 1288) (by decide +kernel) (by decide +kernel)), rfl, rfl, by decide +kernel⟩
theorem lL_13 : LkV RL 13 mX11_feed 5 11 := ⟨okX11_feed, (tb (i := 622) (by decide +kernel) (by decide +kernel)), (tb (i := 623) (by decide +kernel) (by decide +kernel)), (tb (i := 624) (by decide +kernel) (by decide +kernel)), by decide +kernel, (RX11, TX11, 11), rfl, rfl⟩
theorem lL_17 : LkV RL 17 mX12_feed 5 12 := ⟨okX12_feed, (tb (i := 1406) (by decide +kernel) (by decide +kernel)), (tb (i := 1407) (by decide +kernel) (by decide +kernel)), (tb (i := 1408) (by decide +kernel) (by decide +kernel)), by decide +kernel, (RX12, TX12, 38), rfl, rfl⟩
theorem lL_18 : LkV RL 18 mX11_end 1 11 := ⟨okX11_end, (tb (i := 630) (by decide +kernel) (by decide +kernel)), (tb (i := 631) (by decide +kernel) (by decide +kernel)), (tb (i := 632) (by decide +kernel) (by decide +kernel)), by decide +kernel, (RX11, TX11, 11), rfl, rfl⟩
theorem lL_22 : LkV RL 22 mX12_end 1 12 := ⟨okX12_end, (tb (i := 1410) (by decide +kernel) (by decide +kernel)), (tb (i := 1411) (by decide +kernel) (by decide +kernel)), (tb (i := 1412) (by decide +kernel) (by decide +kernel)), by decide +kernel, (RX12, TX12, 38), rfl, rfl⟩
theorem lL_23 : LkV RL 23 mX11_text 2 11 := ⟨okX11_text, (tb (i := 634) (by decide +kernel) (by decide +kernel)), (tb (i := 635) (by decide +kernel) (by decide +kernel)), (tb (i := 636) (by decide +kernel) (by decide +kernel)), by decide +kernel, (RX11, TX11, 11), rfl, rfl⟩
theorem lL_27 : LkV RL 27 mX12_text 2 12 := ⟨okX12_text, (tb (i := 1414) (by decide +kernel) (by decide +kernel)), (tb (i := 1415) (by decide +kernel) (by decide +kernel)), (tb (i := 1416) (by decide +kernel) (by decide +kernel)), by decide +kernel, (RX12, TX12, 38), rfl, rfl⟩
theorem lL_28 : LkV RL 28 mX11_fault 1 11 := ⟨okX11_fault, (tb (i := 859) (by decide +kernel) (by decide +kernel)), (tb (i := 860) (by decide +kernel) (by decide +kernel)), (tb (i := 861) (by decide +kernel) (by decide +kernel)), by decide +kernel, (RX11, TX11, 11), rfl, rfl⟩
theorem lL_31 : LkV RL 31 mX12_fault 1 12 := ⟨okX12_fault, (tb (i := 1520) (by decide +kernel) (by decide +kernel)), (tb (i := 1521) (by decide +kernel) (by decide +kernel)), (tb (i := 1522) (by decide +kernel) (by decide +kernel)), by decide +kernel, (RX12, TX12, 38), rfl, rfl⟩
theorem lL_32 : LkV RL 32 mX11_war 2 11 := ⟨okX11_war, (tb (i := 863) (by decide +kernel) (by decide +kernel)), (tb (i := 864) (by decide +kernel) (by decide +kernel)), (tb (i := 865) (by decide +kernel) (by decide +kernel)), by decide +kernel, (RX11, TX11, 11), rfl, rfl⟩
theorem lL_35 : LkV RL 35 mX12_war 2 12 := ⟨okX12_war, (tb (i := 1524) (by decide +kernel) (by decide +kernel)), (tb (i := 1525) (by decide +kernel) (by decide +kernel)), (tb (i := 1526) (by decide +kernel) (by decide +kernel)), by decide +kernel, (RX12, TX12, 38), rfl, rfl⟩
theorem lL_36 : LkV RL 36 mX11_order 4 11 := ⟨okX11_order, (tb (i := 877) (by decide +kernel) (by decide +kernel)), (tb (i := 878) (by decide +kernel) (by decide +kernel)), (tb (i := 879) (by decide +kernel) (by decide +kernel)), by decide +kernel, (RX11, TX11, 11), rfl, rfl⟩
theorem lL_40 : LkV RL 40 mX12_order 4 12 := ⟨okX12_order, (tb (i := 1539) (by decide +kernel) (by decide +kernel)), (tb (i := 1540) (by decide +kernel) (by decide +kernel)), (tb (i := 1541) (by decide +kernel) (by decide +kernel)), by decide +kernel, (RX12, TX12, 38), rfl, rfl⟩
theorem lL_41 : LkV RL 41 mX11_given 3 11 := ⟨okX11_given, (tb (i := 885) (by decide +kernel) (by decide +kernel)), (tb (i := 886) (by decide +kernel) (by decide +kernel)), (tb (i := 887) (by decide +kernel) (by decide +kernel)), by decide +kernel, (RX11, TX11, 11), rfl, rfl⟩
theorem lL_45 : LkV RL 45 mX12_given 3 12 := ⟨okX12_given, (tb (i := 1563) (by decide +kernel) (by decide +kernel)), (tb (i := 1564) (by decide +kernel) (by decide +kernel)), (tb (i := 1565) (by decide +kernel) (by decide +kernel)), by decide +kernel, (RX12, TX12, 38), rfl, rfl⟩
theorem lL_46 : LkV RL 46 mX11_row 4 11 := ⟨okX11_row, (tb (i := 893) (by decide +kernel) (by decide +kernel)), (tb (i := 894) (by decide +kernel) (by decide +kernel)), (tb (i := 895) (by decide +kernel) (by decide +kernel)), by decide +kernel, (RX11, TX11, 11), rfl, rfl⟩
theorem lL_49 : LkV RL 49 mX12_row 4 12 := ⟨okX12_row, (tb (i := 1571) (by decide +kernel) (by decide +kernel)), (tb (i := 1572) (by decide +kernel) (by decide +kernel)), (tb (i := 1573) (by decide +kernel) (by decide +kernel)), by decide +kernel, (RX12, TX12, 38), rfl, rfl⟩
theorem lL_50 : LkV RL 50 mX11_heard 4 11 := ⟨okX11_heard, (tb (i := 923) (by decide +kernel) (by decide +kernel)), (tb (i := 924) (by decide +kernel) (by decide +kernel)), (tb (i := 925) (by decide +kernel) (by decide +kernel)), by decide +kernel, (RX11, TX11, 11), rfl, rfl⟩
theorem lL_53 : LkV RL 53 mX12_heard 4 12 := ⟨okX12_heard, (tb (i := 1591) (by decide +kernel) (by decide +kernel)), (tb (i := 1592) (by decide +kernel) (by decide +kernel)), (tb (i := 1593) (by decide +kernel) (by decide +kernel)), by decide +kernel, (RX12, TX12, 38), rfl, rfl⟩
theorem lL_54 : LkV RL 54 mX11_made 5 11 := ⟨okX11_made, (tb (i := 949) (by decide +kernel) (by decide +kernel)), (tb (i := 950) (by decide +kernel) (by decide +kernel)), (tb (i := 951) (by decide +kernel) (by decide +kernel)), by decide +kernel, (RX11, TX11, 11), rfl, rfl⟩
theorem lL_57 : LkV RL 57 mX12_made 5 12 := ⟨okX12_made, (tb (i := 1607) (by decide +kernel) (by decide +kernel)), (tb (i := 1608) (by decide +kernel) (by decide +kernel)), (tb (i := 1609) (by decide +kernel) (by decide +kernel)), by decide +kernel, (RX12, TX12, 38), rfl, rfl⟩
theorem lL_58 : LkV RL 58 mX11_march 4 11 := ⟨okX11_march, (tb (i := 975) (by decide +kernel) (by decide +kernel)), (tb (i := 976) (by decide +kernel) (by decide +kernel)), (tb (i := 977) (by decide +kernel) (by decide +kernel)), by decide +kernel, (RX11, TX11, 11), rfl, rfl⟩
theorem lL_61 : LkV RL 61 mX12_march 4 12 := ⟨okX12_march, (tb (i := 1627) (by decide +kernel) (by decide +kernel)), (tb (i := 1628) (by decide +kernel) (by decide +kernel)), (tb (i := 1629) (by decide +kernel) (by decide +kernel)), by decide +kernel, (RX12, TX12, 38), rfl, rfl⟩
theorem lL_62 : LkV RL 62 mX11_meets 2 11 := ⟨okX11_meets, (tb (i := 992) (by decide +kernel) (by decide +kernel)), (tb (i := 993) (by decide +kernel) (by decide +kernel)), (tb (i := 994) (by decide +kernel) (by decide +kernel)), by decide +kernel, (RX11, TX11, 11), rfl, rfl⟩
theorem lL_65 : LkV RL 65 mX12_meets 2 12 := ⟨okX12_meets, (tb (i := 1647) (by decide +kernel) (by decide +kernel)), (tb (i := 1648) (by decide +kernel) (by decide +kernel)), (tb (i := 1649) (by decide +kernel) (by decide +kernel)), by decide +kernel, (RX12, TX12, 38), rfl, rfl⟩
theorem lL_66 : LkV RL 66 mX11_force 5 11 := ⟨okX11_force, (tb (i := 996) (by decide +kernel) (by decide +kernel)), (tb (i := 997) (by decide +kernel) (by decide +kernel)), (tb (i := 998) (by decide +kernel) (by decide +kernel)), by decide +kernel, (RX11, TX11, 11), rfl, rfl⟩
theorem lL_70 : LkV RL 70 mX12_force 5 12 := ⟨okX12_force, (tb (i := 1655) (by decide +kernel) (by decide +kernel)), (tb (i := 1656) (by decide +kernel) (by decide +kernel)), (tb (i := 1657) (by decide +kernel) (by decide +kernel)), by decide +kernel, (RX12, TX12, 38), rfl, rfl⟩
theorem lL_71 : LkV RL 71 mX11_told 3 11 := ⟨okX11_told, (tb (i := 1020) (by decide +kernel) (by decide +kernel)), (tb (i := 1021) (by decide +kernel) (by decide +kernel)), (tb (i := 1022) (by decide +kernel) (by decide +kernel)), by decide +kernel, (RX11, TX11, 11), rfl, rfl⟩
theorem lL_74 : LkV RL 74 mX12_told 3 12 := ⟨okX12_told, (tb (i := 1674) (by decide +kernel) (by decide +kernel)), (tb (i := 1675) (by decide +kernel) (by decide +kernel)), (tb (i := 1676) (by decide +kernel) (by decide +kernel)), by decide +kernel, (RX12, TX12, 38), rfl, rfl⟩
theorem lL_75 : LkV RL 75 mX11_bribes 4 11 := ⟨okX11_bribes, (tb (i := 1028) (by decide +kernel) (by decide +kernel)), (tb (i := 1029) (by decide +kernel) (by decide +kernel)), (tb (i := 1030) (by decide +kernel) (by decide +kernel)), by decide +kernel, (RX11, TX11, 11), rfl, rfl⟩
theorem lL_78 : LkV RL 78 mX12_bribes 4 12 := ⟨okX12_bribes, (tb (i := 1682) (by decide +kernel) (by decide +kernel)), (tb (i := 1683) (by decide +kernel) (by decide +kernel)), (tb (i := 1684) (by decide +kernel) (by decide +kernel)), by decide +kernel, (RX12, TX12, 38), rfl, rfl⟩
theorem lL_79 : LkV RL 79 mX11_meant 5 11 := ⟨okX11_meant, (tb (i := 1058) (by decide +kernel) (by decide +kernel)), (tb (i := 1059) (by decide +kernel) (by decide +kernel)), (tb (i := 1060) (by decide +kernel) (by decide +kernel)), by decide +kernel, (RX11, TX11, 11), rfl, rfl⟩
theorem lL_82 : LkV RL 82 mX12_meant 5 12 := ⟨okX12_meant, (tb (i := 1693) (by decide +kernel) (by decide +kernel)), (tb (i := 1694) (by decide +kernel) (by decide +kernel)), (tb (i := 1695) (by decide +kernel) (by decide +kernel)), by decide +kernel, (RX12, TX12, 38), rfl, rfl⟩
theorem lL_83 : LkV RL 83 mX11_truce 4 11 := ⟨okX11_truce, (tb (i := 1062) (by decide +kernel) (by decide +kernel)), (tb (i := 1063) (by decide +kernel) (by decide +kernel)), (tb (i := 1064) (by decide +kernel) (by decide +kernel)), by decide +kernel, (RX11, TX11, 11), rfl, rfl⟩
theorem lL_87 : LkV RL 87 mX12_truce 4 12 := ⟨okX12_truce, (tb (i := 1697) (by decide +kernel) (by decide +kernel)), (tb (i := 1698) (by decide +kernel) (by decide +kernel)), (tb (i := 1699) (by decide +kernel) (by decide +kernel)), by decide +kernel, (RX12, TX12, 38), rfl, rfl⟩
theorem lL_88 : LkV RL 88 mX11_far 4 11 := ⟨okX11_far, (tb (i := 1070) (by decide +kernel) (by decide +kernel)), (tb (i := 1071) (by decide +kernel) (by decide +kernel)), (tb (i := 1072) (by decide +kernel) (by decide +kernel)), by decide +kernel, (RX11, TX11, 11), rfl, rfl⟩
theorem lL_91 : LkV RL 91 mX12_far 4 12 := ⟨okX12_far, (tb (i := 1701) (by decide +kernel) (by decide +kernel)), (tb (i := 1702) (by decide +kernel) (by decide +kernel)), (tb (i := 1703) (by decide +kernel) (by decide +kernel)), by decide +kernel, (RX12, TX12, 38), rfl, rfl⟩
theorem lL_92 : LkV RL 92 mX11_codes 3 11 := ⟨okX11_codes, (tb (i := 1087) (by decide +kernel) (by decide +kernel)), (tb (i := 1088) (by decide +kernel) (by decide +kernel)), (tb (i := 1089) (by decide +kernel) (by decide +kernel)), by decide +kernel, (RX11, TX11, 11), rfl, rfl⟩
theorem lL_95 : LkV RL 95 mX12_codes 3 12 := ⟨okX12_codes, (tb (i := 1716) (by decide +kernel) (by decide +kernel)), (tb (i := 1717) (by decide +kernel) (by decide +kernel)), (tb (i := 1718) (by decide +kernel) (by decide +kernel)), by decide +kernel, (RX12, TX12, 38), rfl, rfl⟩
theorem lL_96 : LkV RL 96 mX11_shared 2 11 := ⟨okX11_shared, (tb (i := 1105) (by decide +kernel) (by decide +kernel)), (tb (i := 1106) (by decide +kernel) (by decide +kernel)), (tb (i := 1107) (by decide +kernel) (by decide +kernel)), by decide +kernel, (RX11, TX11, 11), rfl, rfl⟩
theorem lL_99 : LkV RL 99 mX12_shared 2 12 := ⟨okX12_shared, (tb (i := 1724) (by decide +kernel) (by decide +kernel)), (tb (i := 1725) (by decide +kernel) (by decide +kernel)), (tb (i := 1726) (by decide +kernel) (by decide +kernel)), by decide +kernel, (RX12, TX12, 38), rfl, rfl⟩
theorem lL_100 : LkV RL 100 mX11_village 3 11 := ⟨okX11_village, (tb (i := 1114) (by decide +kernel) (by decide +kernel)), (tb (i := 1115) (by decide +kernel) (by decide +kernel)), (tb (i := 1116) (by decide +kernel) (by decide +kernel)), by decide +kernel, (RX11, TX11, 11), rfl, rfl⟩
theorem lL_103 : LkV RL 103 mX12_village 3 12 := ⟨okX12_village, (tb (i := 1728) (by decide +kernel) (by decide +kernel)), (tb (i := 1729) (by decide +kernel) (by decide +kernel)), (tb (i := 1730) (by decide +kernel) (by decide +kernel)), by decide +kernel, (RX12, TX12, 38), rfl, rfl⟩
theorem lL_104 : LkV RL 104 mX11_version 5 11 := ⟨okX11_version, (tb (i := 1126) (by decide +kernel) (by decide +kernel)), (tb (i := 1127) (by decide +kernel) (by decide +kernel)), (tb (i := 1128) (by decide +kernel) (by decide +kernel)), by decide +kernel, (RX11, TX11, 11), rfl, rfl⟩
theorem lL_107 : LkV RL 107 mX12_version 5 12 := ⟨okX12_version, (tb (i := 1744) (by decide +kernel) (by decide +kernel)), (tb (i := 1745) (by decide +kernel) (by decide +kernel)), (tb (i := 1746) (by decide +kernel) (by decide +kernel)), by decide +kernel, (RX12, TX12, 38), rfl, rfl⟩
theorem lL_108 : LkV RL 108 mX11_tale 5 11 := ⟨okX11_tale, (tb (i := 1149) (by decide +kernel) (by decide +kernel)), (tb (i := 1150) (by decide +kernel) (by decide +kernel)), (tb (i := 1151) (by decide +kernel) (by decide +kernel)), by decide +kernel, (RX11, TX11, 11), rfl, rfl⟩
theorem lL_111 : LkV RL 111 mX12_tale 5 12 := ⟨okX12_tale, (tb (i := 1764) (by decide +kernel) (by decide +kernel)), (tb (i := 1765) (by decide +kernel) (by decide +kernel)), (tb (i := 1766) (by decide +kernel) (by decide +kernel)), by decide +kernel, (RX12, TX12, 38), rfl, rfl⟩
theorem lL_112 : LkV RL 112 mX11_drawn 5 11 := ⟨okX11_drawn, (tb (i := 1163) (by decide +kernel) (by decide +kernel)), (tb (i := 1164) (by decide +kernel) (by decide +kernel)), (tb (i := 1165) (by decide +kernel) (by decide +kernel)), by decide +kernel, (RX11, TX11, 11), rfl, rfl⟩
theorem lL_115 : LkV RL 115 mX12_drawn 5 12 := ⟨okX12_drawn, (tb (i := 1772) (by decide +kernel) (by decide +kernel)), (tb (i := 1773) (by decide +kernel) (by decide +kernel)), (tb (i := 1774) (by decide +kernel) (by decide +kernel)), by decide +kernel, (RX12, TX12, 38), rfl, rfl⟩
theorem lL_116 : LkV RL 116 mX11_common 3 11 := ⟨okX11_common, (tb (i := 1192) (by decide +kernel) (by decide +kernel)), (tb (i := 1193) (by decide +kernel) (by decide +kernel)), (tb (i := 1194) (by decide +kernel) (by decide +kernel)), by decide +kernel, (RX11, TX11, 11), rfl, rfl⟩
theorem lL_119 : LkV RL 119 mX12_common 3 12 := ⟨okX12_common, (tb (i := 1785) (by decide +kernel) (by decide +kernel)), (tb (i := 1786) (by decide +kernel) (by decide +kernel)), (tb (i := 1787) (by decide +kernel) (by decide +kernel)), by decide +kernel, (RX12, TX12, 38), rfl, rfl⟩
theorem lL_120 : LkV RL 120 mX11_readings 4 11 := ⟨okX11_readings, (tb (i := 1214) (by decide +kernel) (by decide +kernel)), (tb (i := 1215) (by decide +kernel) (by decide +kernel)), (tb (i := 1216) (by decide +kernel) (by decide +kernel)), by decide +kernel, (RX11, TX11, 11), rfl, rfl⟩
theorem lL_124 : LkV RL 124 mX12_readings 4 12 := ⟨okX12_readings, (tb (i := 1797) (by decide +kernel) (by decide +kernel)), (tb (i := 1798) (by decide +kernel) (by decide +kernel)), (tb (i := 1799) (by decide +kernel) (by decide +kernel)), by decide +kernel, (RX12, TX12, 38), rfl, rfl⟩
theorem lL_125 : LkV RL 125 mX11_unique 3 11 := ⟨okX11_unique, (tb (i := 1228) (by decide +kernel) (by decide +kernel)), (tb (i := 1229) (by decide +kernel) (by decide +kernel)), (tb (i := 1230) (by decide +kernel) (by decide +kernel)), by decide +kernel, (RX11, TX11, 11), rfl, rfl⟩
theorem lL_129 : LkV RL 129 mX12_unique 3 12 := ⟨okX12_unique, (tb (i := 1803) (by decide +kernel) (by decide +kernel)), (tb (i := 1804) (by decide +kernel) (by decide +kernel)), (tb (i := 1805) (by decide +kernel) (by decide +kernel)), by decide +kernel, (RX12, TX12, 38), rfl, rfl⟩
theorem lL_130 : LkV RL 130 mX11_fix 5 11 := ⟨okX11_fix, (tb (i := 1248) (by decide +kernel) (by decide +kernel)), (tb (i := 1249) (by decide +kernel) (by decide +kernel)), (tb (i := 1250) (by decide +kernel) (by decide +kernel)), by decide +kernel, (RX11, TX11, 11), rfl, rfl⟩
theorem lL_133 : LkV RL 133 mX12_fix 5 12 := ⟨okX12_fix, (tb (i := 1823) (by decide +kernel) (by decide +kernel)), (tb (i := 1824) (by decide +kernel) (by decide +kernel)), (tb (i := 1825) (by decide +kernel) (by decide +kernel)), by decide +kernel, (RX12, TX12, 38), rfl, rfl⟩
theorem lL_134 : LkV RL 134 mX11_count 1 11 := ⟨okX11_count, (tb (i := 1264) (by decide +kernel) (by decide +kernel)), (tb (i := 1265) (by decide +kernel) (by decide +kernel)), (tb (i := 1266) (by decide +kernel) (by decide +kernel)), by decide +kernel, (RX11, TX11, 11), rfl, rfl⟩
theorem lL_137 : LkV RL 137 mX12_count 1 12 := ⟨okX12_count, (tb (i := 1831) (by decide +kernel) (by decide +kernel)), (tb (i := 1832) (by decide +kernel) (by decide +kernel)), (tb (i := 1833) (by decide +kernel) (by decide +kernel)), by decide +kernel, (RX12, TX12, 38), rfl, rfl⟩
theorem lL_138 : LkV RL 138 mX11_image 1 11 := ⟨okX11_image, (tb (i := 1268) (by decide +kernel) (by decide +kernel)), (tb (i := 1269) (by decide +kernel) (by decide +kernel)), (tb (i := 1270) (by decide +kernel) (by decide +kernel)), by decide +kernel, (RX11, TX11, 11), rfl, rfl⟩
theorem lL_142 : LkV RL 142 mX12_image 1 12 := ⟨okX12_image, (tb (i := 1835) (by decide +kernel) (by decide +kernel)), (tb (i := 1836) (by decide +kernel) (by decide +kernel)), (tb (i := 1837) (by decide +kernel) (by decide +kernel)), by decide +kernel, (RX12, TX12, 38), rfl, rfl⟩
theorem lL_143 : LkV RL 143 mX11_again 1 11 := ⟨okX11_again, (tb (i := 1281) (by decide +kernel) (by decide +kernel)), (tb (i := 1282) (by decide +kernel) (by decide +kernel)), (tb (i := 1283) (by decide +kernel) (by decide +kernel)), by decide +kernel, (RX11, TX11, 11), rfl, rfl⟩
theorem lL_146 : LkV RL 146 mX12_again 1 12 := ⟨okX12_again, (tb (i := 1839) (by decide +kernel) (by decide +kernel)), (tb (i := 1840) (by decide +kernel) (by decide +kernel)), (tb (i := 1841) (by decide +kernel) (by decide +kernel)), by decide +kernel, (RX12, TX12, 38), rfl, rfl⟩
theorem lX12_1 : Cond.methodLink RX12 1 Lib.objectInit ∈ gw ∧ Cond.instanceMethod Lib.objectInit ∈ gw ∧ Cond.code Lib.objectInit ⟨#[0xb1]⟩ 1 none ∈ gw := ⟨(tb (i := 1290) (by decide +kernel) (by decide +kernel)), (tb (i := 152) (by decide +kernel) (by decide +kernel)), (tb (i := 153) (by decide +kernel) (by decide +kernel))⟩
theorem lX12_91 : LkS RX12 91 mX12_four 4 := ⟨okX12_four, (tb (i := 1445) (by decide +kernel) (by decide +kernel)), (tb (i := 1446) (by decide +kernel) (by decide +kernel)), by decide +kernel⟩
theorem lX12_97 : LkS RX12 97 mX12_eight 8 := ⟨okX12_eight, (tb (i := 1448) (by decide +kernel) (by decide +kernel)), (tb (i := 1449) (by decide +kernel) (by decide +kernel)), by decide +kernel⟩
theorem lX12_101 : LkS RX12 101 mX12_otherWord 1 := ⟨okX12_otherWord, (tb (i := 1452) (by decide +kernel) (by decide +kernel)), (tb (i := 1453) (by decide +kernel) (by decide +kernel)), by decide +kernel⟩
theorem lX12_108 : LkV RX12 108 mX12_byteAt 1 12 := ⟨okX12_byteAt, (tb (i := 1433) (by decide +kernel) (by decide +kernel)), (tb (i := 1435) (by decide +kernel) (by decide +kernel)), (tb (i := 61) (by decide +kernel) (by decide +kernel)), by decide +kernel, (RX12, TX12, 38), rfl, rfl⟩
theorem lX12_118 : LkS RX12 118 mX12_isLetter 1 := ⟨okX12_isLetter, (tb (i := 1437) (by decide +kernel) (by decide +kernel)), (tb (i := 1438) (by decide +kernel) (by decide +kernel)), by decide +kernel⟩
theorem lX12_126 : LkS RX12 126 mX12_wordOf 1 := ⟨okX12_wordOf, (tb (i := 1442) (by decide +kernel) (by decide +kernel)), (tb (i := 1443) (by decide +kernel) (by decide +kernel)), by decide +kernel⟩
theorem lX12_132 : LkS RX12 132 mX12_isDigit 1 := ⟨okX12_isDigit, (tb (i := 1455) (by decide +kernel) (by decide +kernel)), (tb (i := 1456) (by decide +kernel) (by decide +kernel)), by decide +kernel⟩
theorem lX12_142 : LkV RX12 142 mX12_ends 0 12 := ⟨okX12_ends, (tb (i := 1470) (by decide +kernel) (by decide +kernel)), (tb (i := 1472) (by decide +kernel) (by decide +kernel)), (tb (i := 65) (by decide +kernel) (by decide +kernel)), by decide +kernel, (RX12, TX12, 38), rfl, rfl⟩
theorem lX12_145 : LkS RX12 145 mX12_isIn 3 := ⟨okX12_isIn, (tb (i := 1418) (by decide +kernel) (by decide +kernel)), (tb (i := 1419) (by decide +kernel) (by decide +kernel)), by decide +kernel⟩
theorem lX12_149 : LkV RX12 149 mX12_also 2 12 := ⟨okX12_also, (tb (i := 1482) (by decide +kernel) (by decide +kernel)), (tb (i := 1484) (by decide +kernel) (by decide +kernel)), (tb (i := 68) (by decide +kernel) (by decide +kernel)), by decide +kernel, (RX12, TX12, 38), rfl, rfl⟩
theorem lX12_153 : LkV RX12 153 mX12_advance 0 12 := ⟨okX12_advance, (tb (i := 1429) (by decide +kernel) (by decide +kernel)), (tb (i := 1431) (by decide +kernel) (by decide +kernel)), (tb (i := 60) (by decide +kernel) (by decide +kernel)), by decide +kernel, (RX12, TX12, 38), rfl, rfl⟩
theorem lX12_156 : LkV RX12 156 mX12_takes 2 12 := ⟨okX12_takes, (tb (i := 1466) (by decide +kernel) (by decide +kernel)), (tb (i := 1468) (by decide +kernel) (by decide +kernel)), (tb (i := 64) (by decide +kernel) (by decide +kernel)), by decide +kernel, (RX12, TX12, 38), rfl, rfl⟩
theorem lX12_160 : LkV RX12 160 mX12_numbered 2 12 := ⟨okX12_numbered, (tb (i := 1478) (by decide +kernel) (by decide +kernel)), (tb (i := 1480) (by decide +kernel) (by decide +kernel)), (tb (i := 67) (by decide +kernel) (by decide +kernel)), by decide +kernel, (RX12, TX12, 38), rfl, rfl⟩
theorem lX12_163 : LkV RX12 163 mX12_armyTold 0 12 := ⟨okX12_armyTold, (tb (i := 1474) (by decide +kernel) (by decide +kernel)), (tb (i := 1476) (by decide +kernel) (by decide +kernel)), (tb (i := 66) (by decide +kernel) (by decide +kernel)), by decide +kernel, (RX12, TX12, 38), rfl, rfl⟩
theorem lX12_167 : LkV RX12 167 mX12_isBeat 0 12 := ⟨okX12_isBeat, (tb (i := 1486) (by decide +kernel) (by decide +kernel)), (tb (i := 1488) (by decide +kernel) (by decide +kernel)), (tb (i := 69) (by decide +kernel) (by decide +kernel)), by decide +kernel, (RX12, TX12, 38), rfl, rfl⟩
theorem lX12_171 : LkV RX12 171 mX12_beatTold 0 12 := ⟨okX12_beatTold, (tb (i := 1490) (by decide +kernel) (by decide +kernel)), (tb (i := 1492) (by decide +kernel) (by decide +kernel)), (tb (i := 70) (by decide +kernel) (by decide +kernel)), by decide +kernel, (RX12, TX12, 38), rfl, rfl⟩
theorem lX12_174 : LkV RX12 174 mX12_orderLine 0 12 := ⟨okX12_orderLine, (tb (i := 1462) (by decide +kernel) (by decide +kernel)), (tb (i := 1464) (by decide +kernel) (by decide +kernel)), (tb (i := 63) (by decide +kernel) (by decide +kernel)), by decide +kernel, (RX12, TX12, 38), rfl, rfl⟩
theorem lX12_177 : LkV RX12 177 mX12_endsLine 0 12 := ⟨okX12_endsLine, (tb (i := 1494) (by decide +kernel) (by decide +kernel)), (tb (i := 1496) (by decide +kernel) (by decide +kernel)), (tb (i := 71) (by decide +kernel) (by decide +kernel)), by decide +kernel, (RX12, TX12, 38), rfl, rfl⟩
theorem lX12_180 : LkV RX12 180 mX12_isMove 0 12 := ⟨okX12_isMove, (tb (i := 1506) (by decide +kernel) (by decide +kernel)), (tb (i := 1508) (by decide +kernel) (by decide +kernel)), (tb (i := 74) (by decide +kernel) (by decide +kernel)), by decide +kernel, (RX12, TX12, 38), rfl, rfl⟩
theorem lX12_183 : LkV RX12 183 mX12_isOf 2 12 := ⟨okX12_isOf, (tb (i := 1421) (by decide +kernel) (by decide +kernel)), (tb (i := 1423) (by decide +kernel) (by decide +kernel)), (tb (i := 58) (by decide +kernel) (by decide +kernel)), by decide +kernel, (RX12, TX12, 38), rfl, rfl⟩
theorem lX12_187 : LkV RX12 187 mX12_clears 1 12 := ⟨okX12_clears, (tb (i := 1425) (by decide +kernel) (by decide +kernel)), (tb (i := 1427) (by decide +kernel) (by decide +kernel)), (tb (i := 59) (by decide +kernel) (by decide +kernel)), by decide +kernel, (RX12, TX12, 38), rfl, rfl⟩
theorem lX12_191 : LkV RX12 191 mX12_warLine 0 12 := ⟨okX12_warLine, (tb (i := 1458) (by decide +kernel) (by decide +kernel)), (tb (i := 1460) (by decide +kernel) (by decide +kernel)), (tb (i := 62) (by decide +kernel) (by decide +kernel)), by decide +kernel, (RX12, TX12, 38), rfl, rfl⟩
theorem lX12_194 : LkV RX12 194 mX12_scoreLine 0 12 := ⟨okX12_scoreLine, (tb (i := 1498) (by decide +kernel) (by decide +kernel)), (tb (i := 1500) (by decide +kernel) (by decide +kernel)), (tb (i := 72) (by decide +kernel) (by decide +kernel)), by decide +kernel, (RX12, TX12, 38), rfl, rfl⟩
theorem lX12_197 : LkV RX12 197 mX12_hearingLine 0 12 := ⟨okX12_hearingLine, (tb (i := 1502) (by decide +kernel) (by decide +kernel)), (tb (i := 1504) (by decide +kernel) (by decide +kernel)), (tb (i := 73) (by decide +kernel) (by decide +kernel)), by decide +kernel, (RX12, TX12, 38), rfl, rfl⟩
theorem lX12_200 : LkV RX12 200 mX12_villageLine 0 12 := ⟨okX12_villageLine, (tb (i := 1510) (by decide +kernel) (by decide +kernel)), (tb (i := 1512) (by decide +kernel) (by decide +kernel)), (tb (i := 75) (by decide +kernel) (by decide +kernel)), by decide +kernel, (RX12, TX12, 38), rfl, rfl⟩
theorem lX12_203 : LkS RX12 203 mX12_sizeOf 1 := ⟨okX12_sizeOf, (tb (i := 1514) (by decide +kernel) (by decide +kernel)), (tb (i := 1515) (by decide +kernel) (by decide +kernel)), by decide +kernel⟩
theorem lX12_206 : LkS RX12 206 mX12_placeOf 2 := ⟨okX12_placeOf, (tb (i := 1517) (by decide +kernel) (by decide +kernel)), (tb (i := 1518) (by decide +kernel) (by decide +kernel)), by decide +kernel⟩
theorem lX12_212 : LkV RX12 212 mX12_of 1 12 := ⟨okX12_of, (tb (i := 1532) (by decide +kernel) (by decide +kernel)), (tb (i := 1534) (by decide +kernel) (by decide +kernel)), (tb (i := 77) (by decide +kernel) (by decide +kernel)), by decide +kernel, (RX12, TX12, 38), rfl, rfl⟩
theorem lX12_215 : LkV RX12 215 mX12_orderAt 2 12 := ⟨okX12_orderAt, (tb (i := 1551) (by decide +kernel) (by decide +kernel)), (tb (i := 1553) (by decide +kernel) (by decide +kernel)), (tb (i := 80) (by decide +kernel) (by decide +kernel)), by decide +kernel, (RX12, TX12, 38), rfl, rfl⟩
theorem lX12_218 : LkS RX12 218 mX12_isArmy 1 := ⟨okX12_isArmy, (tb (i := 1536) (by decide +kernel) (by decide +kernel)), (tb (i := 1537) (by decide +kernel) (by decide +kernel)), by decide +kernel⟩
theorem lX12_221 : LkV RX12 221 mX12_orders 1 12 := ⟨okX12_orders, (tb (i := 1547) (by decide +kernel) (by decide +kernel)), (tb (i := 1549) (by decide +kernel) (by decide +kernel)), (tb (i := 79) (by decide +kernel) (by decide +kernel)), by decide +kernel, (RX12, TX12, 38), rfl, rfl⟩
theorem lX12_224 : LkV RX12 224 mX12_isWar 1 12 := ⟨okX12_isWar, (tb (i := 1528) (by decide +kernel) (by decide +kernel)), (tb (i := 1530) (by decide +kernel) (by decide +kernel)), (tb (i := 76) (by decide +kernel) (by decide +kernel)), by decide +kernel, (RX12, TX12, 38), rfl, rfl⟩
theorem lX12_227 : LkV RX12 227 mX12_isOrder 2 12 := ⟨okX12_isOrder, (tb (i := 1543) (by decide +kernel) (by decide +kernel)), (tb (i := 1545) (by decide +kernel) (by decide +kernel)), (tb (i := 78) (by decide +kernel) (by decide +kernel)), by decide +kernel, (RX12, TX12, 38), rfl, rfl⟩
theorem lX12_230 : LkV RX12 230 mX12_lengthOf 2 12 := ⟨okX12_lengthOf, (tb (i := 1555) (by decide +kernel) (by decide +kernel)), (tb (i := 1557) (by decide +kernel) (by decide +kernel)), (tb (i := 81) (by decide +kernel) (by decide +kernel)), by decide +kernel, (RX12, TX12, 38), rfl, rfl⟩
theorem lX12_233 : LkV RX12 233 mX12_beatOf 3 12 := ⟨okX12_beatOf, (tb (i := 1559) (by decide +kernel) (by decide +kernel)), (tb (i := 1561) (by decide +kernel) (by decide +kernel)), (tb (i := 82) (by decide +kernel) (by decide +kernel)), by decide +kernel, (RX12, TX12, 38), rfl, rfl⟩
theorem lX12_240 : LkV RX12 240 mX12_isScore 1 12 := ⟨okX12_isScore, (tb (i := 1567) (by decide +kernel) (by decide +kernel)), (tb (i := 1569) (by decide +kernel) (by decide +kernel)), (tb (i := 83) (by decide +kernel) (by decide +kernel)), by decide +kernel, (RX12, TX12, 38), rfl, rfl⟩
theorem lX12_246 : LkV RX12 246 mX12_laysRow 0 12 := ⟨okX12_laysRow, (tb (i := 1583) (by decide +kernel) (by decide +kernel)), (tb (i := 1585) (by decide +kernel) (by decide +kernel)), (tb (i := 86) (by decide +kernel) (by decide +kernel)), by decide +kernel, (RX12, TX12, 38), rfl, rfl⟩
theorem lX12_249 : LkV RX12 249 mX12_takesScore 0 12 := ⟨okX12_takesScore, (tb (i := 1579) (by decide +kernel) (by decide +kernel)), (tb (i := 1581) (by decide +kernel) (by decide +kernel)), (tb (i := 85) (by decide +kernel) (by decide +kernel)), by decide +kernel, (RX12, TX12, 38), rfl, rfl⟩
theorem lX12_252 : LkV RX12 252 mX12_plays 1 12 := ⟨okX12_plays, (tb (i := 1587) (by decide +kernel) (by decide +kernel)), (tb (i := 1589) (by decide +kernel) (by decide +kernel)), (tb (i := 87) (by decide +kernel) (by decide +kernel)), by decide +kernel, (RX12, TX12, 38), rfl, rfl⟩
theorem lX12_255 : LkV RX12 255 mX12_arePlayed 2 12 := ⟨okX12_arePlayed, (tb (i := 1575) (by decide +kernel) (by decide +kernel)), (tb (i := 1577) (by decide +kernel) (by decide +kernel)), (tb (i := 84) (by decide +kernel) (by decide +kernel)), by decide +kernel, (RX12, TX12, 38), rfl, rfl⟩
theorem lX12_258 : LkV RX12 258 mX12_placeHeard 2 12 := ⟨okX12_placeHeard, (tb (i := 1603) (by decide +kernel) (by decide +kernel)), (tb (i := 1605) (by decide +kernel) (by decide +kernel)), (tb (i := 90) (by decide +kernel) (by decide +kernel)), by decide +kernel, (RX12, TX12, 38), rfl, rfl⟩
theorem lX12_261 : LkV RX12 261 mX12_hears 1 12 := ⟨okX12_hears, (tb (i := 1595) (by decide +kernel) (by decide +kernel)), (tb (i := 1597) (by decide +kernel) (by decide +kernel)), (tb (i := 88) (by decide +kernel) (by decide +kernel)), by decide +kernel, (RX12, TX12, 38), rfl, rfl⟩
theorem lX12_264 : LkV RX12 264 mX12_heardAt 2 12 := ⟨okX12_heardAt, (tb (i := 1599) (by decide +kernel) (by decide +kernel)), (tb (i := 1601) (by decide +kernel) (by decide +kernel)), (tb (i := 89) (by decide +kernel) (by decide +kernel)), by decide +kernel, (RX12, TX12, 38), rfl, rfl⟩
theorem lX12_267 : LkV RX12 267 mX12_isFrom 3 12 := ⟨okX12_isFrom, (tb (i := 1615) (by decide +kernel) (by decide +kernel)), (tb (i := 1617) (by decide +kernel) (by decide +kernel)), (tb (i := 92) (by decide +kernel) (by decide +kernel)), by decide +kernel, (RX12, TX12, 38), rfl, rfl⟩
theorem lX12_270 : LkV RX12 270 mX12_makes 1 12 := ⟨okX12_makes, (tb (i := 1611) (by decide +kernel) (by decide +kernel)), (tb (i := 1613) (by decide +kernel) (by decide +kernel)), (tb (i := 91) (by decide +kernel) (by decide +kernel)), by decide +kernel, (RX12, TX12, 38), rfl, rfl⟩
theorem lX12_273 : LkV RX12 273 mX12_echoed 1 12 := ⟨okX12_echoed, (tb (i := 1619) (by decide +kernel) (by decide +kernel)), (tb (i := 1621) (by decide +kernel) (by decide +kernel)), (tb (i := 93) (by decide +kernel) (by decide +kernel)), by decide +kernel, (RX12, TX12, 38), rfl, rfl⟩
theorem lX12_276 : LkV RX12 276 mX12_purity 2 12 := ⟨okX12_purity, (tb (i := 1623) (by decide +kernel) (by decide +kernel)), (tb (i := 1625) (by decide +kernel) (by decide +kernel)), (tb (i := 94) (by decide +kernel) (by decide +kernel)), by decide +kernel, (RX12, TX12, 38), rfl, rfl⟩
theorem lX12_279 : LkV RX12 279 mX12_moveAt 2 12 := ⟨okX12_moveAt, (tb (i := 1643) (by decide +kernel) (by decide +kernel)), (tb (i := 1645) (by decide +kernel) (by decide +kernel)), (tb (i := 98) (by decide +kernel) (by decide +kernel)), by decide +kernel, (RX12, TX12, 38), rfl, rfl⟩
theorem lX12_282 : LkV RX12 282 mX12_goesTo 2 12 := ⟨okX12_goesTo, (tb (i := 1639) (by decide +kernel) (by decide +kernel)), (tb (i := 1641) (by decide +kernel) (by decide +kernel)), (tb (i := 97) (by decide +kernel) (by decide +kernel)), by decide +kernel, (RX12, TX12, 38), rfl, rfl⟩
theorem lX12_285 : LkV RX12 285 mX12_begins 0 12 := ⟨okX12_begins, (tb (i := 1631) (by decide +kernel) (by decide +kernel)), (tb (i := 1633) (by decide +kernel) (by decide +kernel)), (tb (i := 95) (by decide +kernel) (by decide +kernel)), by decide +kernel, (RX12, TX12, 38), rfl, rfl⟩
theorem lX12_288 : LkV RX12 288 mX12_steps 1 12 := ⟨okX12_steps, (tb (i := 1635) (by decide +kernel) (by decide +kernel)), (tb (i := 1637) (by decide +kernel) (by decide +kernel)), (tb (i := 96) (by decide +kernel) (by decide +kernel)), by decide +kernel, (RX12, TX12, 38), rfl, rfl⟩
theorem lX12_291 : LkV RX12 291 mX12_meeting 0 12 := ⟨okX12_meeting, (tb (i := 1651) (by decide +kernel) (by decide +kernel)), (tb (i := 1653) (by decide +kernel) (by decide +kernel)), (tb (i := 99) (by decide +kernel) (by decide +kernel)), by decide +kernel, (RX12, TX12, 38), rfl, rfl⟩
theorem lX12_294 : LkS RX12 294 mX12_codesOf 1 := ⟨okX12_codesOf, (tb (i := 1659) (by decide +kernel) (by decide +kernel)), (tb (i := 1660) (by decide +kernel) (by decide +kernel)), by decide +kernel⟩
theorem lX12_297 : LkV RX12 297 mX12_givesNumber 3 12 := ⟨okX12_givesNumber, (tb (i := 1666) (by decide +kernel) (by decide +kernel)), (tb (i := 1668) (by decide +kernel) (by decide +kernel)), (tb (i := 101) (by decide +kernel) (by decide +kernel)), by decide +kernel, (RX12, TX12, 38), rfl, rfl⟩
theorem lX12_301 : LkV RX12 301 mX12_isMade 2 12 := ⟨okX12_isMade, (tb (i := 1670) (by decide +kernel) (by decide +kernel)), (tb (i := 1672) (by decide +kernel) (by decide +kernel)), (tb (i := 102) (by decide +kernel) (by decide +kernel)), by decide +kernel, (RX12, TX12, 38), rfl, rfl⟩
theorem lX12_304 : LkV RX12 304 mX12_isForced 4 12 := ⟨okX12_isForced, (tb (i := 1662) (by decide +kernel) (by decide +kernel)), (tb (i := 1664) (by decide +kernel) (by decide +kernel)), (tb (i := 100) (by decide +kernel) (by decide +kernel)), by decide +kernel, (RX12, TX12, 38), rfl, rfl⟩
theorem lX12_311 : LkV RX12 311 mX12_isHearing 1 12 := ⟨okX12_isHearing, (tb (i := 1678) (by decide +kernel) (by decide +kernel)), (tb (i := 1680) (by decide +kernel) (by decide +kernel)), (tb (i := 103) (by decide +kernel) (by decide +kernel)), by decide +kernel, (RX12, TX12, 38), rfl, rfl⟩
theorem lX12_314 : LkV RX12 314 mX12_isSo 0 12 := ⟨okX12_isSo, (tb (i := 1686) (by decide +kernel) (by decide +kernel)), (tb (i := 1688) (by decide +kernel) (by decide +kernel)), (tb (i := 104) (by decide +kernel) (by decide +kernel)), by decide +kernel, (RX12, TX12, 38), rfl, rfl⟩
theorem lX12_317 : LkS RX12 317 mX12_bitsOf 1 := ⟨okX12_bitsOf, (tb (i := 1690) (by decide +kernel) (by decide +kernel)), (tb (i := 1691) (by decide +kernel) (by decide +kernel)), by decide +kernel⟩
theorem lX12_320 : LkS RX12 320 mX12_lesser 2 := ⟨okX12_lesser, (tb (i := 1713) (by decide +kernel) (by decide +kernel)), (tb (i := 1714) (by decide +kernel) (by decide +kernel)), by decide +kernel⟩
theorem lX12_323 : LkV RX12 323 mX12_apart 2 12 := ⟨okX12_apart, (tb (i := 1709) (by decide +kernel) (by decide +kernel)), (tb (i := 1711) (by decide +kernel) (by decide +kernel)), (tb (i := 106) (by decide +kernel) (by decide +kernel)), by decide +kernel, (RX12, TX12, 38), rfl, rfl⟩
theorem lX12_325 : LkV RX12 325 mX12_farOf 3 12 := ⟨okX12_farOf, (tb (i := 1705) (by decide +kernel) (by decide +kernel)), (tb (i := 1707) (by decide +kernel) (by decide +kernel)), (tb (i := 105) (by decide +kernel) (by decide +kernel)), by decide +kernel, (RX12, TX12, 38), rfl, rfl⟩
theorem lX12_328 : LkV RX12 328 mX12_beginsWith 4 12 := ⟨okX12_beginsWith, (tb (i := 1720) (by decide +kernel) (by decide +kernel)), (tb (i := 1722) (by decide +kernel) (by decide +kernel)), (tb (i := 107) (by decide +kernel) (by decide +kernel)), by decide +kernel, (RX12, TX12, 38), rfl, rfl⟩
theorem lX12_334 : LkV RX12 334 mX12_villageOf 2 12 := ⟨okX12_villageOf, (tb (i := 1736) (by decide +kernel) (by decide +kernel)), (tb (i := 1738) (by decide +kernel) (by decide +kernel)), (tb (i := 109) (by decide +kernel) (by decide +kernel)), by decide +kernel, (RX12, TX12, 38), rfl, rfl⟩
theorem lX12_337 : LkV RX12 337 mX12_areVillages 1 12 := ⟨okX12_areVillages, (tb (i := 1732) (by decide +kernel) (by decide +kernel)), (tb (i := 1734) (by decide +kernel) (by decide +kernel)), (tb (i := 108) (by decide +kernel) (by decide +kernel)), by decide +kernel, (RX12, TX12, 38), rfl, rfl⟩
theorem lX12_340 : LkV RX12 340 mX12_depthOf 1 12 := ⟨okX12_depthOf, (tb (i := 1740) (by decide +kernel) (by decide +kernel)), (tb (i := 1742) (by decide +kernel) (by decide +kernel)), (tb (i := 110) (by decide +kernel) (by decide +kernel)), by decide +kernel, (RX12, TX12, 38), rfl, rfl⟩
theorem lX12_343 : LkV RX12 343 mX12_repeats 1 12 := ⟨okX12_repeats, (tb (i := 1756) (by decide +kernel) (by decide +kernel)), (tb (i := 1758) (by decide +kernel) (by decide +kernel)), (tb (i := 113) (by decide +kernel) (by decide +kernel)), by decide +kernel, (RX12, TX12, 38), rfl, rfl⟩
theorem lX12_346 : LkV RX12 346 mX12_adds 2 12 := ⟨okX12_adds, (tb (i := 1760) (by decide +kernel) (by decide +kernel)), (tb (i := 1762) (by decide +kernel) (by decide +kernel)), (tb (i := 114) (by decide +kernel) (by decide +kernel)), by decide +kernel, (RX12, TX12, 38), rfl, rfl⟩
theorem lX12_349 : LkV RX12 349 mX12_changes 1 12 := ⟨okX12_changes, (tb (i := 1752) (by decide +kernel) (by decide +kernel)), (tb (i := 1754) (by decide +kernel) (by decide +kernel)), (tb (i := 112) (by decide +kernel) (by decide +kernel)), by decide +kernel, (RX12, TX12, 38), rfl, rfl⟩
theorem lX12_352 : LkV RX12 352 mX12_areTold 4 12 := ⟨okX12_areTold, (tb (i := 1748) (by decide +kernel) (by decide +kernel)), (tb (i := 1750) (by decide +kernel) (by decide +kernel)), (tb (i := 111) (by decide +kernel) (by decide +kernel)), by decide +kernel, (RX12, TX12, 38), rfl, rfl⟩
theorem lX12_355 : LkV RX12 355 mX12_areAlike 2 12 := ⟨okX12_areAlike, (tb (i := 1768) (by decide +kernel) (by decide +kernel)), (tb (i := 1770) (by decide +kernel) (by decide +kernel)), (tb (i := 115) (by decide +kernel) (by decide +kernel)), by decide +kernel, (RX12, TX12, 38), rfl, rfl⟩
theorem lX12_362 : LkV RX12 362 mX12_below 1 12 := ⟨okX12_below, (tb (i := 1776) (by decide +kernel) (by decide +kernel)), (tb (i := 1778) (by decide +kernel) (by decide +kernel)), (tb (i := 116) (by decide +kernel) (by decide +kernel)), by decide +kernel, (RX12, TX12, 38), rfl, rfl⟩
theorem lX12_365 : LkV RX12 365 mX12_madeAlike 0 12 := ⟨okX12_madeAlike, (tb (i := 1781) (by decide +kernel) (by decide +kernel)), (tb (i := 1783) (by decide +kernel) (by decide +kernel)), (tb (i := 117) (by decide +kernel) (by decide +kernel)), by decide +kernel, (RX12, TX12, 38), rfl, rfl⟩
theorem lX12_368 : LkV RX12 368 mX12_period 0 12 := ⟨okX12_period, (tb (i := 1789) (by decide +kernel) (by decide +kernel)), (tb (i := 1791) (by decide +kernel) (by decide +kernel)), (tb (i := 118) (by decide +kernel) (by decide +kernel)), by decide +kernel, (RX12, TX12, 38), rfl, rfl⟩
theorem lX12_371 : LkV RX12 371 mX12_alikeFrom 2 12 := ⟨okX12_alikeFrom, (tb (i := 1793) (by decide +kernel) (by decide +kernel)), (tb (i := 1795) (by decide +kernel) (by decide +kernel)), (tb (i := 119) (by decide +kernel) (by decide +kernel)), by decide +kernel, (RX12, TX12, 38), rfl, rfl⟩
theorem lX12_378 : LkV RX12 378 mX12_goesInto 5 12 := ⟨okX12_goesInto, (tb (i := 1811) (by decide +kernel) (by decide +kernel)), (tb (i := 1813) (by decide +kernel) (by decide +kernel)), (tb (i := 121) (by decide +kernel) (by decide +kernel)), by decide +kernel, (RX12, TX12, 38), rfl, rfl⟩
theorem lX12_382 : LkV RX12 382 mX12_hangsLess 2 12 := ⟨okX12_hangsLess, (tb (i := 1815) (by decide +kernel) (by decide +kernel)), (tb (i := 1817) (by decide +kernel) (by decide +kernel)), (tb (i := 122) (by decide +kernel) (by decide +kernel)), by decide +kernel, (RX12, TX12, 38), rfl, rfl⟩
theorem lX12_385 : LkV RX12 385 mX12_hangsOn 4 12 := ⟨okX12_hangsOn, (tb (i := 1819) (by decide +kernel) (by decide +kernel)), (tb (i := 1821) (by decide +kernel) (by decide +kernel)), (tb (i := 123) (by decide +kernel) (by decide +kernel)), by decide +kernel, (RX12, TX12, 38), rfl, rfl⟩
theorem lX12_388 : LkV RX12 388 mX12_twofold 1 12 := ⟨okX12_twofold, (tb (i := 1807) (by decide +kernel) (by decide +kernel)), (tb (i := 1809) (by decide +kernel) (by decide +kernel)), (tb (i := 120) (by decide +kernel) (by decide +kernel)), by decide +kernel, (RX12, TX12, 38), rfl, rfl⟩
theorem lX12_391 : LkV RX12 391 mX12_isFixed 4 12 := ⟨okX12_isFixed, (tb (i := 1827) (by decide +kernel) (by decide +kernel)), (tb (i := 1829) (by decide +kernel) (by decide +kernel)), (tb (i := 124) (by decide +kernel) (by decide +kernel)), by decide +kernel, (RX12, TX12, 38), rfl, rfl⟩
theorem kX0_33 : Cond.constant RX0 33 (Int32.ofInt (1000000)) ∈ gw := (tb (i := 516) (by decide +kernel) (by decide +kernel))
theorem kX1_53 : Cond.constant RX1 53 (Int32.ofInt (1103515245)) ∈ gw := (tb (i := 1175) (by decide +kernel) (by decide +kernel))
theorem kX12_361 : Cond.constant RX12 361 (Int32.ofInt (1103515245)) ∈ gw := (tb (i := 1780) (by decide +kernel) (by decide +kernel))
theorem kJ6_265 : Cond.constant RJ6 265 (Int32.ofInt (1431655765)) ∈ gw := (tb (i := 1055) (by decide +kernel) (by decide +kernel))
theorem kJ6_266 : Cond.constant RJ6 266 (Int32.ofInt (858993459)) ∈ gw := (tb (i := 1056) (by decide +kernel) (by decide +kernel))
theorem kJ6_267 : Cond.constant RJ6 267 (Int32.ofInt (252645135)) ∈ gw := (tb (i := 1057) (by decide +kernel) (by decide +kernel))
theorem kX11_429 : Cond.constantLong RX11 429 (Int64.ofInt (-2)) ∈ gw := (tb (i := 1218) (by decide +kernel) (by decide +kernel))
theorem kX12_95 : Cond.constantLong RX12 95 (Int64.ofInt (1048576)) ∈ gw := (tb (i := 1451) (by decide +kernel) (by decide +kernel))
theorem kX12_122 : Cond.constantLong RX12 122 (Int64.ofInt (32)) ∈ gw := (tb (i := 1440) (by decide +kernel) (by decide +kernel))
theorem kX12_124 : Cond.constantLong RX12 124 (Int64.ofInt (96)) ∈ gw := (tb (i := 1441) (by decide +kernel) (by decide +kernel))
theorem kX12_374 : Cond.constantLong RX12 374 (Int64.ofInt (-2)) ∈ gw := (tb (i := 1801) (by decide +kernel) (by decide +kernel))
theorem kX12_376 : Cond.constantLong RX12 376 (Int64.ofInt (-1)) ∈ gw := (tb (i := 1802) (by decide +kernel) (by decide +kernel))
theorem arc_byte : Cond.arrayClass .byte ∈ gw := (tb (i := 253) (by decide +kernel) (by decide +kernel))
theorem arc_int : Cond.arrayClass .int ∈ gw := (tb (i := 254) (by decide +kernel) (by decide +kernel))
theorem arc_boolean : Cond.arrayClass .boolean ∈ gw := (tb (i := 435) (by decide +kernel) (by decide +kernel))
theorem arc_long : Cond.arrayClass .long ∈ gw := (tb (i := 541) (by decide +kernel) (by decide +kernel))
theorem math_max : Cond.static Lib.Math.max.name ∈ gw ∧ Cond.initialized "java/lang/Math" ∈ gw ∧ Cond.code Lib.Math.max.name Lib.Math.max.code 2 (some .int) ∈ gw := ⟨(tb (i := 731) (by decide +kernel) (by decide +kernel)), (tb (i := 139) (by decide +kernel) (by decide +kernel)), (tb (i := 732) (by decide +kernel) (by decide +kernel))⟩
theorem math_min : Cond.static Lib.Math.min.name ∈ gw ∧ Cond.initialized "java/lang/Math" ∈ gw ∧ Cond.code Lib.Math.min.name Lib.Math.min.code 2 (some .int) ∈ gw := ⟨(tb (i := 650) (by decide +kernel) (by decide +kernel)), (tb (i := 139) (by decide +kernel) (by decide +kernel)), (tb (i := 651) (by decide +kernel) (by decide +kernel))⟩
