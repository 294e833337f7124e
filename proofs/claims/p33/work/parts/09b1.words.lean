set_option maxRecDepth 20000 in
theorem ggX8_blameToken_X8_blame : GoodIn wsX8_blameToken wsX8_blame := qaf qID (by decide +kernel) qam4
set_option maxRecDepth 20000 in
theorem gX8_blameToken_X8_blame : GoodIn wsX8_blameToken (wsV RX8 43 RX8 yX8_blame wsX8_blame) := goodIn_app (qag qID [965, 966, 967, 15] rfl (by decide +kernel)) ggX8_blameToken_X8_blame
set_option maxRecDepth 20000 in
theorem ggX8_isEnded_X8_skipBlanks : GoodIn wsX8_isEnded wsX8_skipBlanks := qaf qLJ (by decide +kernel) qyu
set_option maxRecDepth 20000 in
theorem gX8_isEnded_X8_skipBlanks : GoodIn wsX8_isEnded (wsV RX8 40 RX8 yX8_skipBlanks wsX8_skipBlanks) := goodIn_app (qag qLJ [771, 772, 773, 15] rfl (by decide +kernel)) ggX8_isEnded_X8_skipBlanks
set_option maxRecDepth 20000 in
theorem ggX8_seesDigit_X8_skipBlanks : GoodIn wsX8_seesDigit wsX8_skipBlanks := qaf qAH (by decide +kernel) qyu
set_option maxRecDepth 20000 in
theorem gX8_seesDigit_X8_skipBlanks : GoodIn wsX8_seesDigit (wsV RX8 40 RX8 yX8_skipBlanks wsX8_skipBlanks) := goodIn_app (qag qAH [771, 772, 773, 15] rfl (by decide +kernel)) ggX8_seesDigit_X8_skipBlanks
set_option maxRecDepth 20000 in
theorem ggX8_seesDigit_X8_digitAt : GoodIn wsX8_seesDigit wsX8_digitAt := qaf qAH (by decide +kernel) qaoh
set_option maxRecDepth 20000 in
theorem gX8_seesDigit_X8_digitAt : GoodIn wsX8_seesDigit (wsV RX8 47 RX8 yX8_digitAt wsX8_digitAt) := goodIn_app (qag qAH [974, 975, 976, 15] rfl (by decide +kernel)) ggX8_seesDigit_X8_digitAt
set_option maxRecDepth 20000 in
theorem ggX8_takes_X8_skipBlanks : GoodIn wsX8_takes wsX8_skipBlanks := qaf qCw (by decide +kernel) qyu
set_option maxRecDepth 20000 in
theorem gX8_takes_X8_skipBlanks : GoodIn wsX8_takes (wsV RX8 40 RX8 yX8_skipBlanks wsX8_skipBlanks) := goodIn_app (qag qCw [771, 772, 773, 15] rfl (by decide +kernel)) ggX8_takes_X8_skipBlanks
set_option maxRecDepth 20000 in
theorem ggX8_takes_X8_isFaulty : GoodIn wsX8_takes wsX8_isFaulty := qaf qCw (by decide +kernel) qoR
set_option maxRecDepth 20000 in
theorem gX8_takes_X8_isFaulty : GoodIn wsX8_takes (wsV RX8 51 RX8 yX8_isFaulty wsX8_isFaulty) := goodIn_app (qag qCw [835, 724, 725, 15] rfl (by decide +kernel)) ggX8_takes_X8_isFaulty
set_option maxRecDepth 20000 in
theorem ggX8_needs_X8_takes : GoodIn wsX8_needs wsX8_takes := qaf q5t (by decide +kernel) qU9
set_option maxRecDepth 20000 in
theorem gX8_needs_X8_takes : GoodIn wsX8_needs (wsV RX8 55 RX8 yX8_takes wsX8_takes) := goodIn_app (qag q5t [982, 983, 1024, 15] rfl (by decide +kernel)) ggX8_needs_X8_takes
set_option maxRecDepth 20000 in
theorem ggX8_needs_X8_blameSign : GoodIn wsX8_needs wsX8_blameSign := qaf q5t (by decide +kernel) qEi
set_option maxRecDepth 20000 in
theorem gX8_needs_X8_blameSign : GoodIn wsX8_needs (wsV RX8 59 RX8 yX8_blameSign wsX8_blameSign) := goodIn_app (qag q5t [1026, 1027, 1028, 15] rfl (by decide +kernel)) ggX8_needs_X8_blameSign
set_option maxRecDepth 20000 in
theorem ggX8_needsEnd_X8_isEnded : GoodIn wsX8_needsEnd wsX8_isEnded := qaf qOa (by decide +kernel) qSb
set_option maxRecDepth 20000 in
theorem gX8_needsEnd_X8_isEnded : GoodIn wsX8_needsEnd (wsV RX8 62 RX8 yX8_isEnded wsX8_isEnded) := goodIn_app (qag qOa [1472, 768, 769, 15] rfl (by decide +kernel)) ggX8_needsEnd_X8_isEnded
set_option maxRecDepth 20000 in
theorem ggX8_needsEnd_X8_blameSign : GoodIn wsX8_needsEnd wsX8_blameSign := qaf qOa (by decide +kernel) qEi
set_option maxRecDepth 20000 in
theorem gX8_needsEnd_X8_blameSign : GoodIn wsX8_needsEnd (wsV RX8 59 RX8 yX8_blameSign wsX8_blameSign) := goodIn_app (qag qOa [1026, 1027, 1028, 15] rfl (by decide +kernel)) ggX8_needsEnd_X8_blameSign
set_option maxRecDepth 20000 in
theorem ggX8_takesWord_X8_skipBlanks : GoodIn wsX8_takesWord wsX8_skipBlanks := qaf qld (by decide +kernel) qyu
set_option maxRecDepth 20000 in
theorem gX8_takesWord_X8_skipBlanks : GoodIn wsX8_takesWord (wsV RX8 40 RX8 yX8_skipBlanks wsX8_skipBlanks) := goodIn_app (qag qld [771, 772, 773, 15] rfl (by decide +kernel)) ggX8_takesWord_X8_skipBlanks
set_option maxRecDepth 20000 in
theorem ggX8_takesWord_J0_length_8abf5 : GoodIn wsX8_takesWord wsJ0_length_8abf5 := qaf qld (by decide +kernel) qVw
set_option maxRecDepth 20000 in
theorem gX8_takesWord_J0_length_8abf5 : GoodIn wsX8_takesWord (wsV RX8 65 RJ0 yJ0_length_8abf5 wsJ0_length_8abf5) := goodIn_app (qag qld [783, 784, 785, 786] rfl (by decide +kernel)) ggX8_takesWord_J0_length_8abf5
set_option maxRecDepth 20000 in
theorem ggX8_takesWord_X8_isFaulty : GoodIn wsX8_takesWord wsX8_isFaulty := qaf qld (by decide +kernel) qoR
set_option maxRecDepth 20000 in
theorem gX8_takesWord_X8_isFaulty : GoodIn wsX8_takesWord (wsV RX8 51 RX8 yX8_isFaulty wsX8_isFaulty) := goodIn_app (qag qld [835, 724, 725, 15] rfl (by decide +kernel)) ggX8_takesWord_X8_isFaulty
set_option maxRecDepth 20000 in
theorem ggX8_takesWord_X8_isLetter : GoodIn wsX8_takesWord wsX8_isLetter := qaf qld (by decide +kernel) qaNy
set_option maxRecDepth 20000 in
theorem gX8_takesWord_X8_isLetter : GoodIn wsX8_takesWord (wsV RX8 70 RX8 yX8_isLetter wsX8_isLetter) := goodIn_app (qag qld [836, 837, 838, 15] rfl (by decide +kernel)) ggX8_takesWord_X8_isLetter
set_option maxRecDepth 20000 in
theorem ggX8_takesWord_J0_charAt_5068e : GoodIn wsX8_takesWord wsJ0_charAt_5068e := qaf qld (by decide +kernel) qV2
set_option maxRecDepth 20000 in
theorem gX8_takesWord_J0_charAt_5068e : GoodIn wsX8_takesWord (wsV RX8 74 RJ0 yJ0_charAt_5068e wsJ0_charAt_5068e) := goodIn_app (qag qld [840, 841, 842, 786] rfl (by decide +kernel)) ggX8_takesWord_J0_charAt_5068e
set_option maxRecDepth 20000 in
theorem ggX8_number_X8_skipBlanks : GoodIn wsX8_number wsX8_skipBlanks := qaf qne (by decide +kernel) qyu
set_option maxRecDepth 20000 in
theorem gX8_number_X8_skipBlanks : GoodIn wsX8_number (wsV RX8 40 RX8 yX8_skipBlanks wsX8_skipBlanks) := goodIn_app (qag qne [771, 772, 773, 15] rfl (by decide +kernel)) ggX8_number_X8_skipBlanks
set_option maxRecDepth 20000 in
theorem ggX8_number_X8_digitAt : GoodIn wsX8_number wsX8_digitAt := qaf qne (by decide +kernel) qaoh
set_option maxRecDepth 20000 in
theorem gX8_number_X8_digitAt : GoodIn wsX8_number (wsV RX8 47 RX8 yX8_digitAt wsX8_digitAt) := goodIn_app (qag qne [974, 975, 976, 15] rfl (by decide +kernel)) ggX8_number_X8_digitAt
set_option maxRecDepth 20000 in
theorem ggX8_number_X8_blame : GoodIn wsX8_number wsX8_blame := qaf qne (by decide +kernel) qam4
set_option maxRecDepth 20000 in
theorem gX8_number_X8_blame : GoodIn wsX8_number (wsV RX8 43 RX8 yX8_blame wsX8_blame) := goodIn_app (qag qne [965, 966, 967, 15] rfl (by decide +kernel)) ggX8_number_X8_blame
set_option maxRecDepth 20000 in
theorem ggX8_number_X8_isFaulty : GoodIn wsX8_number wsX8_isFaulty := qaf qne (by decide +kernel) qoR
set_option maxRecDepth 20000 in
theorem gX8_number_X8_isFaulty : GoodIn wsX8_number (wsV RX8 51 RX8 yX8_isFaulty wsX8_isFaulty) := goodIn_app (qag qne [835, 724, 725, 15] rfl (by decide +kernel)) ggX8_number_X8_isFaulty
set_option maxRecDepth 20000 in
theorem ggX8_number_X10_within : GoodIn wsX8_number wsX10_within := qaf qne (by decide +kernel) qCb
set_option maxRecDepth 20000 in
theorem gX8_number_X10_within_n79 : GoodIn wsX8_number (wsX10_within) := ggX8_number_X10_within
set_option maxRecDepth 20000 in
theorem ggX9_readFrom_X8_isFaulty : GoodIn wsX9_readFrom wsX8_isFaulty := qaf qk1 (by decide +kernel) qoR
set_option maxRecDepth 20000 in
theorem gX9_readFrom_X8_isFaulty : GoodIn wsX9_readFrom (wsV RX9 43 RX8 yX8_isFaulty wsX8_isFaulty) := goodIn_app (qag qk1 [1608, 724, 725, 15] rfl (by decide +kernel)) ggX9_readFrom_X8_isFaulty
set_option maxRecDepth 20000 in
theorem ggX9_readFrom_X8_isEnded : GoodIn wsX9_readFrom wsX8_isEnded := qaf qk1 (by decide +kernel) qSb
set_option maxRecDepth 20000 in
theorem gX9_readFrom_X8_isEnded : GoodIn wsX9_readFrom (wsV RX9 49 RX8 yX8_isEnded wsX8_isEnded) := goodIn_app (qag qk1 [1609, 768, 769, 15] rfl (by decide +kernel)) ggX9_readFrom_X8_isEnded
set_option maxRecDepth 20000 in
theorem ggX9_readFrom_X8_takes : GoodIn wsX9_readFrom wsX8_takes := qaf qk1 (by decide +kernel) qU9
set_option maxRecDepth 20000 in
theorem gX9_readFrom_X8_takes : GoodIn wsX9_readFrom (wsV RX9 52 RX8 yX8_takes wsX8_takes) := goodIn_app (qag qk1 [1610, 983, 1024, 15] rfl (by decide +kernel)) ggX9_readFrom_X8_takes
set_option maxRecDepth 20000 in
theorem ggX9_readFrom_X9_closeLoop : GoodIn wsX9_readFrom wsX9_closeLoop := qaf qk1 (by decide +kernel) qaKc
set_option maxRecDepth 20000 in
theorem gX9_readFrom_X9_closeLoop : GoodIn wsX9_readFrom (wsV RX9 56 RX9 yX9_closeLoop wsX9_closeLoop) := goodIn_app (qag qk1 [1611, 1612, 1613, 74] rfl (by decide +kernel)) ggX9_readFrom_X9_closeLoop
set_option maxRecDepth 20000 in
theorem ggX9_readFrom_X8_needs : GoodIn wsX9_readFrom wsX8_needs := qaf qk1 (by decide +kernel) qAz
set_option maxRecDepth 20000 in
theorem gX9_readFrom_X8_needs : GoodIn wsX9_readFrom (wsV RX9 59 RX8 yX8_needs wsX8_needs) := goodIn_app (qag qk1 [1619, 979, 980, 15] rfl (by decide +kernel)) ggX9_readFrom_X8_needs
set_option maxRecDepth 20000 in
theorem ggX9_readFrom_X9_readStep : GoodIn wsX9_readFrom wsX9_readStep := qaf qk1 (by decide +kernel) qaSp
set_option maxRecDepth 20000 in
theorem gX9_readFrom_X9_readStep : GoodIn wsX9_readFrom (wsV RX9 63 RX9 yX9_readStep wsX9_readStep) := goodIn_app (qag qk1 [1620, 1621, 1622, 74] rfl (by decide +kernel)) ggX9_readFrom_X9_readStep
set_option maxRecDepth 20000 in
theorem ggX9_readStep_X8_takesWord : GoodIn wsX9_readStep wsX8_takesWord := qaf qnD (by decide +kernel) qKD
set_option maxRecDepth 20000 in
theorem gX9_readStep_X8_takesWord : GoodIn wsX9_readStep (wsV RX9 69 RX8 yX8_takesWord wsX8_takesWord) := goodIn_app (qag qnD [1664, 780, 781, 15] rfl (by decide +kernel)) ggX9_readStep_X8_takesWord
set_option maxRecDepth 20000 in
theorem ggX9_readStep_X9_openLoop : GoodIn wsX9_readStep wsX9_openLoop := qaf qnD (by decide +kernel) qaQM
set_option maxRecDepth 20000 in
theorem gX9_readStep_X9_openLoop : GoodIn wsX9_readStep (wsV RX9 73 RX9 yX9_openLoop wsX9_openLoop) := goodIn_app (qag qnD [1665, 1666, 1667, 74] rfl (by decide +kernel)) ggX9_readStep_X9_openLoop
set_option maxRecDepth 20000 in
theorem ggX9_readStep_X8_number : GoodIn wsX9_readStep wsX8_number := qaf qnD (by decide +kernel) qBu
set_option maxRecDepth 20000 in
theorem gX9_readStep_X8_number : GoodIn wsX9_readStep (wsV RX9 78 RX8 yX8_number wsX8_number) := goodIn_app (qag qnD [1670, 970, 971, 15] rfl (by decide +kernel)) ggX9_readStep_X8_number
set_option maxRecDepth 20000 in
theorem ggX9_readStep_X9_add : GoodIn wsX9_readStep wsX9_add := qaf qnD (by decide +kernel) qaRn
set_option maxRecDepth 20000 in
theorem gX9_readStep_X9_add : GoodIn wsX9_readStep (wsV RX9 82 RX9 yX9_add wsX9_add) := goodIn_app (qag qnD [1615, 1616, 1617, 74] rfl (by decide +kernel)) ggX9_readStep_X9_add
set_option maxRecDepth 20000 in
theorem ggX9_readStep_X8_blameSign : GoodIn wsX9_readStep wsX8_blameSign := qaf qnD (by decide +kernel) qEi
set_option maxRecDepth 20000 in
theorem gX9_readStep_X8_blameSign : GoodIn wsX9_readStep (wsV RX9 92 RX8 yX8_blameSign wsX8_blameSign) := goodIn_app (qag qnD [1671, 1027, 1028, 15] rfl (by decide +kernel)) ggX9_readStep_X8_blameSign
set_option maxRecDepth 20000 in
theorem ggX9_readStep_X8_needs : GoodIn wsX9_readStep wsX8_needs := qaf qnD (by decide +kernel) qAz
set_option maxRecDepth 20000 in
theorem gX9_readStep_X8_needs : GoodIn wsX9_readStep (wsV RX9 59 RX8 yX8_needs wsX8_needs) := goodIn_app (qag qnD [1619, 979, 980, 15] rfl (by decide +kernel)) ggX9_readStep_X8_needs
set_option maxRecDepth 20000 in
theorem ggX9_openLoop_X8_blameToken : GoodIn wsX9_openLoop wsX8_blameToken := qaf qqR (by decide +kernel) qud
set_option maxRecDepth 20000 in
theorem gX9_openLoop_X8_blameToken : GoodIn wsX9_openLoop (wsV RX9 95 RX8 yX8_blameToken wsX8_blameToken) := goodIn_app (qag qqR [1669, 962, 963, 15] rfl (by decide +kernel)) ggX9_openLoop_X8_blameToken
set_option maxRecDepth 20000 in
theorem ggX9_openLoop_X8_number : GoodIn wsX9_openLoop wsX8_number := qaf qqR (by decide +kernel) qBu
set_option maxRecDepth 20000 in
theorem gX9_openLoop_X8_number : GoodIn wsX9_openLoop (wsV RX9 78 RX8 yX8_number wsX8_number) := goodIn_app (qag qqR [1670, 970, 971, 15] rfl (by decide +kernel)) ggX9_openLoop_X8_number
set_option maxRecDepth 20000 in
theorem ggX9_openLoop_X8_needs : GoodIn wsX9_openLoop wsX8_needs := qaf qqR (by decide +kernel) qAz
set_option maxRecDepth 20000 in
theorem gX9_openLoop_X8_needs : GoodIn wsX9_openLoop (wsV RX9 59 RX8 yX8_needs wsX8_needs) := goodIn_app (qag qqR [1619, 979, 980, 15] rfl (by decide +kernel)) ggX9_openLoop_X8_needs
set_option maxRecDepth 20000 in
theorem ggX9_openLoop_X9_add : GoodIn wsX9_openLoop wsX9_add := qaf qqR (by decide +kernel) qaRn
set_option maxRecDepth 20000 in
theorem gX9_openLoop_X9_add : GoodIn wsX9_openLoop (wsV RX9 82 RX9 yX9_add wsX9_add) := goodIn_app (qag qqR [1615, 1616, 1617, 74] rfl (by decide +kernel)) ggX9_openLoop_X9_add
set_option maxRecDepth 20000 in
theorem ggX9_closeLoop_X9_add : GoodIn wsX9_closeLoop wsX9_add := qaf qxN (by decide +kernel) qaRn
set_option maxRecDepth 20000 in
theorem gX9_closeLoop_X9_add : GoodIn wsX9_closeLoop (wsV RX9 82 RX9 yX9_add wsX9_add) := goodIn_app (qag qxN [1615, 1616, 1617, 74] rfl (by decide +kernel)) ggX9_closeLoop_X9_add
set_option maxRecDepth 20000 in
theorem ggX9_runOn_X9_behindEnd : GoodIn wsX9_runOn wsX9_behindEnd := qaf quw (by decide +kernel) qaGk
set_option maxRecDepth 20000 in
theorem gX9_runOn_X9_behindEnd : GoodIn wsX9_runOn (wsV RX9 105 RX9 yX9_behindEnd wsX9_behindEnd) := goodIn_app (qag quw [1685, 1686, 1687, 74] rfl (by decide +kernel)) ggX9_runOn_X9_behindEnd
set_option maxRecDepth 20000 in
theorem ggX9_runOn_X9_behindAgain : GoodIn wsX9_runOn wsX9_behindAgain := qaf quw (by decide +kernel) qar0
set_option maxRecDepth 20000 in
theorem gX9_runOn_X9_behindAgain : GoodIn wsX9_runOn (wsV RX9 109 RX9 yX9_behindAgain wsX9_behindAgain) := goodIn_app (qag quw [1729, 1730, 1731, 74] rfl (by decide +kernel)) ggX9_runOn_X9_behindAgain
set_option maxRecDepth 20000 in
theorem ggX9_runOn_X9_isAllowed : GoodIn wsX9_runOn wsX9_isAllowed := qaf quw (by decide +kernel) qaKV
set_option maxRecDepth 20000 in
theorem gX9_runOn_X9_isAllowed : GoodIn wsX9_runOn (wsV RX9 112 RX9 yX9_isAllowed wsX9_isAllowed) := goodIn_app (qag quw [1733, 1734, 1735, 74] rfl (by decide +kernel)) ggX9_runOn_X9_isAllowed
set_option maxRecDepth 20000 in
theorem ggX9_runOn_X9_doStep : GoodIn wsX9_runOn wsX9_doStep := qaf quw (by decide +kernel) qaWV
set_option maxRecDepth 20000 in
theorem gX9_runOn_X9_doStep : GoodIn wsX9_runOn (wsV RX9 116 RX9 yX9_doStep wsX9_doStep) := goodIn_app (qag quw [1987, 1988, 1989, 74] rfl (by decide +kernel)) ggX9_runOn_X9_doStep
set_option maxRecDepth 20000 in
theorem ggX9_doStep_X1_leapTo : GoodIn wsX9_doStep wsX1_leapTo := qaf qtt (by decide +kernel) qaEd
set_option maxRecDepth 20000 in
theorem gX9_doStep_X1_leapTo : GoodIn wsX9_doStep (wsV RX9 120 RX1 yX1_leapTo wsX1_leapTo) := goodIn_app (qag qtt [1991, 1992, 1993, 78] rfl (by decide +kernel)) ggX9_doStep_X1_leapTo
set_option maxRecDepth 20000 in
theorem ggX9_doStep_X1_fight : GoodIn wsX9_doStep wsX1_fight := qaf qtt (by decide +kernel) qaMk
set_option maxRecDepth 20000 in
theorem gX9_doStep_X1_fight : GoodIn wsX9_doStep (wsV RX9 126 RX1 yX1_fight wsX1_fight) := goodIn_app (qag qtt [1999, 2000, 2001, 78] rfl (by decide +kernel)) ggX9_doStep_X1_fight
set_option maxRecDepth 20000 in
theorem ggX9_doStep_X1_payBack : GoodIn wsX9_doStep wsX1_payBack := qaf qtt (by decide +kernel) qaWm
set_option maxRecDepth 20000 in
theorem gX9_doStep_X1_payBack : GoodIn wsX9_doStep (wsV RX9 129 RX1 yX1_payBack wsX1_payBack) := goodIn_app (qag qtt [2004, 2005, 2006, 78] rfl (by decide +kernel)) ggX9_doStep_X1_payBack
set_option maxRecDepth 20000 in
theorem ggX9_doStep_X1_passDay : GoodIn wsX9_doStep wsX1_passDay := qaf qtt (by decide +kernel) q1u
set_option maxRecDepth 20000 in
theorem gX9_doStep_X1_passDay : GoodIn wsX9_doStep (wsV RX9 133 RX1 yX1_passDay wsX1_passDay) := goodIn_app (qag qtt [2048, 2049, 2050, 78] rfl (by decide +kernel)) ggX9_doStep_X1_passDay
set_option maxRecDepth 20000 in
theorem ggX9_isAllowed_X1_couldLeap : GoodIn wsX9_isAllowed wsX1_couldLeap := qaf qod (by decide +kernel) qTy
set_option maxRecDepth 20000 in
theorem gX9_isAllowed_X1_couldLeap : GoodIn wsX9_isAllowed (wsV RX9 136 RX1 yX1_couldLeap wsX1_couldLeap) := goodIn_app (qag qod [1737, 1738, 1739, 78] rfl (by decide +kernel)) ggX9_isAllowed_X1_couldLeap
set_option maxRecDepth 20000 in
theorem ggX9_isAllowed_X1_couldFight : GoodIn wsX9_isAllowed wsX1_couldFight := qaf qod (by decide +kernel) q4d
set_option maxRecDepth 20000 in
theorem gX9_isAllowed_X1_couldFight : GoodIn wsX9_isAllowed (wsV RX9 140 RX1 yX1_couldFight wsX1_couldFight) := goodIn_app (qag qod [1935, 1936, 1937, 78] rfl (by decide +kernel)) ggX9_isAllowed_X1_couldFight
set_option maxRecDepth 20000 in
theorem ggX9_isAllowed_X1_couldPay : GoodIn wsX9_isAllowed wsX1_couldPay := qaf qod (by decide +kernel) qaPI
set_option maxRecDepth 20000 in
theorem gX9_isAllowed_X1_couldPay : GoodIn wsX9_isAllowed (wsV RX9 143 RX1 yX1_couldPay wsX1_couldPay) := goodIn_app (qag qod [1939, 1940, 1941, 78] rfl (by decide +kernel)) ggX9_isAllowed_X1_couldPay
set_option maxRecDepth 20000 in
theorem ggX9_isAllowed_X1_year : GoodIn wsX9_isAllowed wsX1_year := qaf qod (by decide +kernel) qaUv
set_option maxRecDepth 20000 in
theorem gX9_isAllowed_X1_year : GoodIn wsX9_isAllowed (wsV RX9 147 RX1 yX1_year wsX1_year) := goodIn_app (qag qod [1943, 1984, 1985, 78] rfl (by decide +kernel)) ggX9_isAllowed_X1_year
set_option maxRecDepth 20000 in
theorem ggX10_init_X8_init : GoodIn wsX10_init wsX8_init := qaf qaB (by decide +kernel) qa5e
set_option maxRecDepth 20000 in
theorem gX10_init_X8_init_n9 : GoodIn wsX10_init (wsX8_init) := ggX10_init_X8_init
set_option maxRecDepth 20000 in
theorem ggX10_init_X2_init : GoodIn wsX10_init wsX2_init := qaf qaB (by decide +kernel) qa9a
set_option maxRecDepth 20000 in
theorem gX10_init_X2_init_n18 : GoodIn wsX10_init (wsX2_init) := ggX10_init_X2_init
set_option maxRecDepth 20000 in
theorem ggX10_init_X4_init : GoodIn wsX10_init wsX4_init := qaf qaB (by decide +kernel) qa9f
set_option maxRecDepth 20000 in
theorem gX10_init_X4_init : GoodIn wsX10_init (wsX4_init) := ggX10_init_X4_init
set_option maxRecDepth 20000 in
theorem ggX10_init_X0_init : GoodIn wsX10_init wsX0_init := qaf qaB (by decide +kernel) qa9V
set_option maxRecDepth 20000 in
theorem gX10_init_X0_init : GoodIn wsX10_init (wsX0_init) := ggX10_init_X0_init
set_option maxRecDepth 20000 in
theorem ggX10_init_X9_init : GoodIn wsX10_init wsX9_init := qaf qaB (by decide +kernel) qa92
set_option maxRecDepth 20000 in
theorem gX10_init_X9_init_n48 : GoodIn wsX10_init (wsX9_init) := ggX10_init_X9_init
set_option maxRecDepth 20000 in
theorem ggX10_init_X1_init : GoodIn wsX10_init wsX1_init := qaf qaB (by decide +kernel) qa5f
set_option maxRecDepth 20000 in
theorem gX10_init_X1_init : GoodIn wsX10_init (wsX1_init) := ggX10_init_X1_init
set_option maxRecDepth 20000 in
theorem ggX10_init_X5_init : GoodIn wsX10_init wsX5_init := qaf qaB (by decide +kernel) qa5d
set_option maxRecDepth 20000 in
theorem gX10_init_X5_init_n67 : GoodIn wsX10_init (wsX5_init) := ggX10_init_X5_init
set_option maxRecDepth 20000 in
theorem ggX10_init_X6_init : GoodIn wsX10_init wsX6_init := qaf qaB (by decide +kernel) qa91
set_option maxRecDepth 20000 in
theorem gX10_init_X6_init_n78 : GoodIn wsX10_init (wsX6_init) := ggX10_init_X6_init
set_option maxRecDepth 20000 in
theorem ggX10_init_X7_init : GoodIn wsX10_init wsX7_init := qaf qaB (by decide +kernel) qa7h
set_option maxRecDepth 20000 in
theorem gX10_init_X7_init_n85 : GoodIn wsX10_init (wsX7_init) := ggX10_init_X7_init
set_option maxRecDepth 20000 in
theorem ggX10_init_X3_init : GoodIn wsX10_init wsX3_init := qaf qaB (by decide +kernel) qa3G
set_option maxRecDepth 20000 in
theorem gX10_init_X3_init_n92 : GoodIn wsX10_init (wsX3_init) := ggX10_init_X3_init
set_option maxRecDepth 20000 in
theorem ggX10_feed_X8_hasRoom : GoodIn wsX10_feed wsX8_hasRoom := qaf qGC (by decide +kernel) qaU4
set_option maxRecDepth 20000 in
theorem gX10_feed_X8_hasRoom : GoodIn wsX10_feed (wsV RX10 97 RX8 yX8_hasRoom wsX8_hasRoom) := goodIn_app (qag qGC [576, 577, 578, 15] rfl (by decide +kernel)) ggX10_feed_X8_hasRoom
set_option maxRecDepth 20000 in
theorem ggX10_feed_X8_put : GoodIn wsX10_feed wsX8_put := qaf qGC (by decide +kernel) qbbV
set_option maxRecDepth 20000 in
theorem gX10_feed_X8_put : GoodIn wsX10_feed (wsV RX10 101 RX8 yX8_put wsX8_put) := goodIn_app (qag qGC [581, 582, 583, 15] rfl (by decide +kernel)) ggX10_feed_X8_put
set_option maxRecDepth 20000 in
theorem ggX10_down_X10_openText : GoodIn wsX10_down wsX10_openText := goodIn_ca (qaf qh0 (by decide +kernel) qKC) (goodIn_sub (fun _ h => List.mem_cons_of_mem _ (List.mem_append_right _ h)) (by decide +kernel))
set_option maxRecDepth 20000 in
theorem gX10_down_X10_openText : GoodIn wsX10_down (wsV RX10 109 RX10 yX10_openText wsX10_openText) := goodIn_app (qag qh0 [645, 646, 647, 2] rfl (by decide +kernel)) ggX10_down_X10_openText
set_option maxRecDepth 20000 in
theorem ggX10_down_X2_readFrom : GoodIn wsX10_down wsX2_readFrom := qaf qh0 (by decide +kernel) qaRI
set_option maxRecDepth 20000 in
theorem gX10_down_X2_readFrom : GoodIn wsX10_down (wsV RX10 113 RX2 yX2_readFrom wsX2_readFrom) := goodIn_app (qag qh0 [716, 717, 718, 19] rfl (by decide +kernel)) ggX10_down_X2_readFrom
set_option maxRecDepth 20000 in
theorem ggX10_down_X8_isFaulty : GoodIn wsX10_down wsX8_isFaulty := qaf qh0 (by decide +kernel) qoR
set_option maxRecDepth 20000 in
theorem gX10_down_X8_isFaulty : GoodIn wsX10_down (wsV RX10 117 RX8 yX8_isFaulty wsX8_isFaulty) := goodIn_app (qag qh0 [1095, 724, 725, 15] rfl (by decide +kernel)) ggX10_down_X8_isFaulty
set_option maxRecDepth 20000 in
theorem ggX10_down_X4_setPlain : GoodIn wsX10_down wsX4_setPlain := qaf qh0 (by decide +kernel) qadB
set_option maxRecDepth 20000 in
theorem gX10_down_X4_setPlain : GoodIn wsX10_down (wsV RX10 123 RX4 yX4_setPlain wsX4_setPlain) := goodIn_app (qag qh0 [1096, 205, 206, 64] rfl (by decide +kernel)) ggX10_down_X4_setPlain
set_option maxRecDepth 20000 in
theorem ggX10_down_X0_clear : GoodIn wsX10_down wsX0_clear := qaf qh0 (by decide +kernel) qaje
set_option maxRecDepth 20000 in
theorem gX10_down_X0_clear : GoodIn wsX10_down (wsV RX10 126 RX0 yX0_clear wsX0_clear) := goodIn_app (qag qh0 [1097, 259, 260, 69] rfl (by decide +kernel)) ggX10_down_X0_clear
set_option maxRecDepth 20000 in
theorem ggX10_down_X1_begin : GoodIn wsX10_down wsX1_begin := qaf qh0 (by decide +kernel) qaLD
set_option maxRecDepth 20000 in
theorem gX10_down_X1_begin : GoodIn wsX10_down (wsV RX10 129 RX1 yX1_begin wsX1_begin) := goodIn_app (qag qh0 [1098, 279, 320, 78] rfl (by decide +kernel)) ggX10_down_X1_begin
set_option maxRecDepth 20000 in
theorem ggX10_law_X10_openText : GoodIn wsX10_law wsX10_openText := goodIn_ca (qaf qvQ (by decide +kernel) qKC) (goodIn_sub (fun _ h => List.mem_cons_of_mem _ (List.mem_append_right _ h)) (by decide +kernel))
set_option maxRecDepth 20000 in
theorem gX10_law_X10_openText : GoodIn wsX10_law (wsV RX10 109 RX10 yX10_openText wsX10_openText) := goodIn_app (qag qvQ [645, 646, 647, 2] rfl (by decide +kernel)) ggX10_law_X10_openText
set_option maxRecDepth 20000 in
theorem ggX10_law_X4_readFrom : GoodIn wsX10_law wsX4_readFrom := qaf qvQ (by decide +kernel) qaSe
set_option maxRecDepth 20000 in
theorem gX10_law_X4_readFrom : GoodIn wsX10_law (wsV RX10 144 RX4 yX4_readFrom wsX4_readFrom) := goodIn_app (qag qvQ [1349, 1350, 1351, 64] rfl (by decide +kernel)) ggX10_law_X4_readFrom
set_option maxRecDepth 20000 in
theorem ggX10_law_X8_isFaulty : GoodIn wsX10_law wsX8_isFaulty := qaf qvQ (by decide +kernel) qoR
set_option maxRecDepth 20000 in
theorem gX10_law_X8_isFaulty : GoodIn wsX10_law (wsV RX10 117 RX8 yX8_isFaulty wsX8_isFaulty) := goodIn_app (qag qvQ [1095, 724, 725, 15] rfl (by decide +kernel)) ggX10_law_X8_isFaulty
set_option maxRecDepth 20000 in
theorem ggX10_law_X1_obey : GoodIn wsX10_law wsX1_obey := qaf qvQ (by decide +kernel) qa3d
set_option maxRecDepth 20000 in
theorem gX10_law_X1_obey : GoodIn wsX10_law (wsV RX10 145 RX1 yX1_obey wsX1_obey) := goodIn_app (qag qvQ [1473, 1474, 1475, 78] rfl (by decide +kernel)) ggX10_law_X1_obey
set_option maxRecDepth 20000 in
theorem ggX10_work_X10_openText : GoodIn wsX10_work wsX10_openText := goodIn_ca (qaf qie (by decide +kernel) qKC) (goodIn_sub (fun _ h => List.mem_cons_of_mem _ (List.mem_append_right _ h)) (by decide +kernel))
set_option maxRecDepth 20000 in
theorem gX10_work_X10_openText : GoodIn wsX10_work (wsV RX10 109 RX10 yX10_openText wsX10_openText) := goodIn_app (qag qie [645, 646, 647, 2] rfl (by decide +kernel)) ggX10_work_X10_openText
set_option maxRecDepth 20000 in
theorem ggX10_work_X9_readFrom : GoodIn wsX10_work wsX9_readFrom := qaf qie (by decide +kernel) qaPW
set_option maxRecDepth 20000 in
theorem gX10_work_X9_readFrom : GoodIn wsX10_work (wsV RX10 152 RX9 yX9_readFrom wsX9_readFrom) := goodIn_app (qag qie [1600, 1601, 1602, 74] rfl (by decide +kernel)) ggX10_work_X9_readFrom
set_option maxRecDepth 20000 in
theorem ggX10_work_X8_isFaulty : GoodIn wsX10_work wsX8_isFaulty := qaf qie (by decide +kernel) qoR
set_option maxRecDepth 20000 in
theorem gX10_work_X8_isFaulty : GoodIn wsX10_work (wsV RX10 117 RX8 yX8_isFaulty wsX8_isFaulty) := goodIn_app (qag qie [1095, 724, 725, 15] rfl (by decide +kernel)) ggX10_work_X8_isFaulty
set_option maxRecDepth 20000 in
theorem ggX10_work_X5_push : GoodIn wsX10_work wsX5_push := qaf qie (by decide +kernel) qaST
set_option maxRecDepth 20000 in
theorem gX10_work_X5_push : GoodIn wsX10_work (wsV RX10 155 RX5 yX5_push wsX5_push) := goodIn_app (qag qie [1672, 1673, 1674, 83] rfl (by decide +kernel)) ggX10_work_X5_push
set_option maxRecDepth 20000 in
theorem ggX10_work_X9_runOn : GoodIn wsX10_work wsX9_runOn := qaf qie (by decide +kernel) qa2U
set_option maxRecDepth 20000 in
theorem gX10_work_X9_runOn : GoodIn wsX10_work (wsV RX10 159 RX9 yX9_runOn wsX9_runOn) := goodIn_app (qag qie [1679, 1680, 1681, 74] rfl (by decide +kernel)) ggX10_work_X9_runOn
set_option maxRecDepth 20000 in
theorem ggX10_book_X10_openText : GoodIn wsX10_book wsX10_openText := goodIn_ca (qaf qrx (by decide +kernel) qKC) (goodIn_sub (fun _ h => List.mem_cons_of_mem _ (List.mem_append_right _ h)) (by decide +kernel))
set_option maxRecDepth 20000 in
theorem gX10_book_X10_openText : GoodIn wsX10_book (wsV RX10 109 RX10 yX10_openText wsX10_openText) := goodIn_app (qag qrx [645, 646, 647, 2] rfl (by decide +kernel)) ggX10_book_X10_openText
set_option maxRecDepth 20000 in
theorem ggX10_book_X0_readFrom : GoodIn wsX10_book wsX0_readFrom := qaf qrx (by decide +kernel) qaOr
set_option maxRecDepth 20000 in
theorem gX10_book_X0_readFrom : GoodIn wsX10_book (wsV RX10 168 RX0 yX0_readFrom wsX0_readFrom) := goodIn_app (qag qrx [2387, 2388, 2389, 69] rfl (by decide +kernel)) ggX10_book_X0_readFrom
set_option maxRecDepth 20000 in
theorem ggX10_book_X8_isFaulty : GoodIn wsX10_book wsX8_isFaulty := qaf qrx (by decide +kernel) qoR
set_option maxRecDepth 20000 in
theorem gX10_book_X8_isFaulty : GoodIn wsX10_book (wsV RX10 117 RX8 yX8_isFaulty wsX8_isFaulty) := goodIn_app (qag qrx [1095, 724, 725, 15] rfl (by decide +kernel)) ggX10_book_X8_isFaulty
set_option maxRecDepth 20000 in
theorem ggX10_undo_X5_pop : GoodIn wsX10_undo wsX5_pop := qaf qGJ (by decide +kernel) qa0R
set_option maxRecDepth 20000 in
theorem gX10_undo_X5_pop : GoodIn wsX10_undo (wsV RX10 177 RX5 yX5_pop wsX5_pop) := goodIn_app (qag qGJ [2501, 2502, 2503, 83] rfl (by decide +kernel)) ggX10_undo_X5_pop
set_option maxRecDepth 20000 in
theorem ggX10_told_X10_needWithin : GoodIn wsX10_told wsX10_needWithin := goodIn_ca (qaf qiz (by decide +kernel) qdG) (goodIn_sub (fun _ h => List.mem_cons_of_mem _ (List.mem_append_right _ h)) (by decide +kernel))
set_option maxRecDepth 20000 in
theorem gX10_told_X10_needWithin : GoodIn wsX10_told (wsV RX10 180 RX10 yX10_needWithin wsX10_needWithin) := goodIn_app (qag qiz [653, 654, 655, 2] rfl (by decide +kernel)) ggX10_told_X10_needWithin
set_option maxRecDepth 20000 in
theorem ggX10_told_X1_day : GoodIn wsX10_told wsX1_day := qaf qiz (by decide +kernel) qauZ
set_option maxRecDepth 20000 in
theorem gX10_told_X1_day : GoodIn wsX10_told (wsV RX10 187 RX1 yX1_day wsX1_day) := goodIn_app (qag qiz [2518, 1873, 1874, 78] rfl (by decide +kernel)) ggX10_told_X1_day
set_option maxRecDepth 20000 in
theorem ggX10_told_X1_year : GoodIn wsX10_told wsX1_year := qaf qiz (by decide +kernel) qaUv
set_option maxRecDepth 20000 in
theorem gX10_told_X1_year : GoodIn wsX10_told (wsV RX10 191 RX1 yX1_year wsX1_year) := goodIn_app (qag qiz [2519, 1984, 1985, 78] rfl (by decide +kernel)) ggX10_told_X1_year
set_option maxRecDepth 20000 in
theorem ggX10_told_X1_caughtOnes : GoodIn wsX10_told wsX1_caughtOnes := qaf qiz (by decide +kernel) qOX
set_option maxRecDepth 20000 in
theorem gX10_told_X1_caughtOnes : GoodIn wsX10_told (wsV RX10 194 RX1 yX1_caughtOnes wsX1_caughtOnes) := goodIn_app (qag qiz [2560, 2561, 2562, 78] rfl (by decide +kernel)) ggX10_told_X1_caughtOnes
set_option maxRecDepth 20000 in
theorem ggX10_told_X1_leaptOnes : GoodIn wsX10_told wsX1_leaptOnes := qaf qiz (by decide +kernel) qaJh
set_option maxRecDepth 20000 in
theorem gX10_told_X1_leaptOnes : GoodIn wsX10_told (wsV RX10 197 RX1 yX1_leaptOnes wsX1_leaptOnes) := goodIn_app (qag qiz [2564, 2565, 2566, 78] rfl (by decide +kernel)) ggX10_told_X1_leaptOnes
set_option maxRecDepth 20000 in
theorem ggX10_told_X1_allDebts : GoodIn wsX10_told wsX1_allDebts := qaf qiz (by decide +kernel) qah4
set_option maxRecDepth 20000 in
theorem gX10_told_X1_allDebts : GoodIn wsX10_told (wsV RX10 203 RX1 yX1_allDebts wsX1_allDebts) := goodIn_app (qag qiz [2568, 2569, 2570, 78] rfl (by decide +kernel)) ggX10_told_X1_allDebts
set_option maxRecDepth 20000 in
theorem ggX10_told_X1_endangered : GoodIn wsX10_told wsX1_endangered := qaf qiz (by decide +kernel) q3Y
set_option maxRecDepth 20000 in
theorem gX10_told_X1_endangered : GoodIn wsX10_told (wsV RX10 206 RX1 yX1_endangered wsX1_endangered) := goodIn_app (qag qiz [2572, 2059, 2060, 78] rfl (by decide +kernel)) ggX10_told_X1_endangered
set_option maxRecDepth 20000 in
theorem ggX10_form_X10_needForm : GoodIn wsX10_form wsX10_needForm := goodIn_ca (qaf qun (by decide +kernel) qDP) (goodIn_sub (fun _ h => List.mem_cons_of_mem _ (List.mem_append_left _ (List.mem_append_right _ h))) (by decide +kernel))
set_option maxRecDepth 20000 in
theorem gX10_form_X10_needForm : GoodIn wsX10_form (wsV RX10 209 RX10 yX10_needForm wsX10_needForm) := goodIn_app (qag qun [2646, 2647, 2688, 2] rfl (by decide +kernel)) ggX10_form_X10_needForm
set_option maxRecDepth 20000 in
theorem ggX10_form_X10_needWithin : GoodIn wsX10_form wsX10_needWithin := goodIn_ca (qaf qun (by decide +kernel) qdG) (goodIn_sub (fun _ h => List.mem_cons_of_mem _ (List.mem_append_right _ h)) (by decide +kernel))
set_option maxRecDepth 20000 in
theorem gX10_form_X10_needWithin : GoodIn wsX10_form (wsV RX10 180 RX10 yX10_needWithin wsX10_needWithin) := goodIn_app (qag qun [653, 654, 655, 2] rfl (by decide +kernel)) ggX10_form_X10_needWithin
set_option maxRecDepth 20000 in
theorem ggX10_form_X2_isSafe : GoodIn wsX10_form wsX2_isSafe := qaf qun (by decide +kernel) q9P
set_option maxRecDepth 20000 in
theorem gX10_form_X2_isSafe : GoodIn wsX10_form (wsV RX10 219 RX2 yX2_isSafe wsX2_isSafe) := goodIn_app (qag qun [2693, 2063, 2064, 19] rfl (by decide +kernel)) ggX10_form_X2_isSafe
set_option maxRecDepth 20000 in
theorem ggX10_form_X1_seatedIn : GoodIn wsX10_form wsX1_seatedIn := qaf qun (by decide +kernel) qWL
set_option maxRecDepth 20000 in
theorem gX10_form_X1_seatedIn : GoodIn wsX10_form (wsV RX10 223 RX1 yX1_seatedIn wsX1_seatedIn) := goodIn_app (qag qun [2694, 1798, 1799, 78] rfl (by decide +kernel)) ggX10_form_X1_seatedIn
set_option maxRecDepth 20000 in
theorem ggX10_hare_X10_needHare : GoodIn wsX10_hare wsX10_needHare := goodIn_ca (qaf qkD (by decide +kernel) qtE) (goodIn_sub (fun _ h => List.mem_cons_of_mem _ (List.mem_append_left _ (List.mem_append_right _ h))) (by decide +kernel))
set_option maxRecDepth 20000 in
theorem gX10_hare_X10_needHare : GoodIn wsX10_hare (wsV RX10 227 RX10 yX10_needHare wsX10_needHare) := goodIn_app (qag qkD [2711, 2752, 2753, 2] rfl (by decide +kernel)) ggX10_hare_X10_needHare
set_option maxRecDepth 20000 in
theorem ggX10_hare_X10_needWithin : GoodIn wsX10_hare wsX10_needWithin := goodIn_ca (qaf qkD (by decide +kernel) qdG) (goodIn_sub (fun _ h => List.mem_cons_of_mem _ (List.mem_append_right _ h)) (by decide +kernel))
set_option maxRecDepth 20000 in
theorem gX10_hare_X10_needWithin : GoodIn wsX10_hare (wsV RX10 180 RX10 yX10_needWithin wsX10_needWithin) := goodIn_app (qag qkD [653, 654, 655, 2] rfl (by decide +kernel)) ggX10_hare_X10_needWithin
set_option maxRecDepth 20000 in
theorem ggX10_hare_X1_isCaught : GoodIn wsX10_hare wsX1_isCaught := qaf qkD (by decide +kernel) qoU
set_option maxRecDepth 20000 in
theorem gX10_hare_X1_isCaught : GoodIn wsX10_hare (wsV RX10 230 RX1 yX1_isCaught wsX1_isCaught) := goodIn_app (qag qkD [2755, 1742, 1743, 78] rfl (by decide +kernel)) ggX10_hare_X1_isCaught
set_option maxRecDepth 20000 in
theorem ggX10_hare_X1_sits : GoodIn wsX10_hare wsX1_sits := qaf qkD (by decide +kernel) qEh
set_option maxRecDepth 20000 in
theorem gX10_hare_X1_sits : GoodIn wsX10_hare (wsV RX10 233 RX1 yX1_sits wsX1_sits) := goodIn_app (qag qkD [2756, 1746, 1747, 78] rfl (by decide +kernel)) ggX10_hare_X1_sits
set_option maxRecDepth 20000 in
theorem ggX10_hare_X1_strong : GoodIn wsX10_hare wsX1_strong := qaf qkD (by decide +kernel) qFh
set_option maxRecDepth 20000 in
theorem gX10_hare_X1_strong : GoodIn wsX10_hare (wsV RX10 236 RX1 yX1_strong wsX1_strong) := goodIn_app (qag qkD [2757, 1809, 1810, 78] rfl (by decide +kernel)) ggX10_hare_X1_strong
set_option maxRecDepth 20000 in
theorem ggX10_hare_X1_still : GoodIn wsX10_hare wsX1_still := qaf qkD (by decide +kernel) qajA
set_option maxRecDepth 20000 in
theorem gX10_hare_X1_still : GoodIn wsX10_hare (wsV RX10 242 RX1 yX1_still wsX1_still) := goodIn_app (qag qkD [2758, 1813, 1814, 78] rfl (by decide +kernel)) ggX10_hare_X1_still
set_option maxRecDepth 20000 in
theorem ggX10_hare_X1_leaps : GoodIn wsX10_hare wsX1_leaps := qaf qkD (by decide +kernel) qaMj
set_option maxRecDepth 20000 in
theorem gX10_hare_X1_leaps : GoodIn wsX10_hare (wsV RX10 245 RX1 yX1_leaps wsX1_leaps) := goodIn_app (qag qkD [2759, 1877, 1878, 78] rfl (by decide +kernel)) ggX10_hare_X1_leaps
set_option maxRecDepth 20000 in
theorem ggX10_hare_X1_owes : GoodIn wsX10_hare wsX1_owes := qaf qkD (by decide +kernel) qavY
set_option maxRecDepth 20000 in
theorem gX10_hare_X1_owes : GoodIn wsX10_hare (wsV RX10 248 RX1 yX1_owes wsX1_owes) := goodIn_app (qag qkD [2760, 1857, 1858, 78] rfl (by decide +kernel)) ggX10_hare_X1_owes
set_option maxRecDepth 20000 in
theorem ggX10_hare_X1_owed : GoodIn wsX10_hare wsX1_owed := qaf qkD (by decide +kernel) qaA4
set_option maxRecDepth 20000 in
theorem gX10_hare_X1_owed : GoodIn wsX10_hare (wsV RX10 251 RX1 yX1_owed wsX1_owed) := goodIn_app (qag qkD [2761, 1865, 1866, 78] rfl (by decide +kernel)) ggX10_hare_X1_owed
set_option maxRecDepth 20000 in
theorem ggX10_hare_X1_reach : GoodIn wsX10_hare wsX1_reach := qaf qkD (by decide +kernel) q5j
set_option maxRecDepth 20000 in
theorem gX10_hare_X1_reach : GoodIn wsX10_hare (wsV RX10 254 RX1 yX1_reach wsX1_reach) := goodIn_app (qag qkD [2762, 1794, 1795, 78] rfl (by decide +kernel)) ggX10_hare_X1_reach
set_option maxRecDepth 20000 in
theorem ggX10_fox_X10_within : GoodIn wsX10_fox wsX10_within := qaf qyI (by decide +kernel) qCb
set_option maxRecDepth 20000 in
theorem gX10_fox_X10_within : GoodIn wsX10_fox (va_wsS RX10 257 yX10_within wsX10_within) := goodIn_app (qag qyI [657, 658, 2] rfl (by decide +kernel)) ggX10_fox_X10_within
set_option maxRecDepth 20000 in
theorem ggX10_fox_X10_needWithin : GoodIn wsX10_fox wsX10_needWithin := goodIn_ca (qaf qyI (by decide +kernel) qdG) (goodIn_sub (fun _ h => List.mem_cons_of_mem _ (List.mem_append_right _ h)) (by decide +kernel))
set_option maxRecDepth 20000 in
theorem gX10_fox_X10_needWithin : GoodIn wsX10_fox (wsV RX10 180 RX10 yX10_needWithin wsX10_needWithin) := goodIn_app (qag qyI [653, 654, 655, 2] rfl (by decide +kernel)) ggX10_fox_X10_needWithin
set_option maxRecDepth 20000 in
theorem ggX10_debt_X10_needHare : GoodIn wsX10_debt wsX10_needHare := goodIn_ca (qaf qOC (by decide +kernel) qtE) (goodIn_sub (fun _ h => List.mem_cons_of_mem _ (List.mem_append_right _ h)) (by decide +kernel))
set_option maxRecDepth 20000 in
theorem gX10_debt_X10_needHare : GoodIn wsX10_debt (wsV RX10 227 RX10 yX10_needHare wsX10_needHare) := goodIn_app (qag qOC [2711, 2752, 2753, 2] rfl (by decide +kernel)) ggX10_debt_X10_needHare
set_option maxRecDepth 20000 in
theorem ggX10_debt_X1_owesTo : GoodIn wsX10_debt wsX1_owesTo := qaf qOC (by decide +kernel) qQA
set_option maxRecDepth 20000 in
theorem gX10_debt_X1_owesTo : GoodIn wsX10_debt (wsV RX10 277 RX1 yX1_owesTo wsX1_owesTo) := goodIn_app (qag qOC [2831, 1861, 1862, 78] rfl (by decide +kernel)) ggX10_debt_X1_owesTo
set_option maxRecDepth 20000 in
theorem ggX10_far_X10_needForm : GoodIn wsX10_far wsX10_needForm := goodIn_ca (qaf qUQ (by decide +kernel) qDP) (goodIn_sub (fun _ h => List.mem_cons_of_mem _ (List.mem_append_right _ h)) (by decide +kernel))
set_option maxRecDepth 20000 in
theorem gX10_far_X10_needForm : GoodIn wsX10_far (wsV RX10 209 RX10 yX10_needForm wsX10_needForm) := goodIn_app (qag qUQ [2646, 2647, 2688, 2] rfl (by decide +kernel)) ggX10_far_X10_needForm
set_option maxRecDepth 20000 in
theorem ggX10_far_X2_apart : GoodIn wsX10_far wsX2_apart := qaf qUQ (by decide +kernel) qOu
set_option maxRecDepth 20000 in
theorem gX10_far_X2_apart : GoodIn wsX10_far (wsV RX10 281 RX2 yX2_apart wsX2_apart) := goodIn_app (qag qUQ [2883, 1750, 1751, 19] rfl (by decide +kernel)) ggX10_far_X2_apart
set_option maxRecDepth 20000 in
theorem ggX10_would_X10_needWithin : GoodIn wsX10_would wsX10_needWithin := goodIn_ca (qaf qxP (by decide +kernel) qdG) (goodIn_sub (fun _ h => List.mem_cons_of_mem _ (List.mem_append_right _ h)) (by decide +kernel))
set_option maxRecDepth 20000 in
theorem gX10_would_X10_needWithin : GoodIn wsX10_would (wsV RX10 180 RX10 yX10_needWithin wsX10_needWithin) := goodIn_app (qag qxP [653, 654, 655, 2] rfl (by decide +kernel)) ggX10_would_X10_needWithin
set_option maxRecDepth 20000 in
theorem ggX10_would_X4_setFacts : GoodIn wsX10_would wsX4_setFacts := qaf qxP (by decide +kernel) qaeG
set_option maxRecDepth 20000 in
theorem gX10_would_X4_setFacts : GoodIn wsX10_would (wsV RX10 284 RX4 yX4_setFacts wsX4_setFacts) := goodIn_app (qag qxP [2895, 1869, 1870, 64] rfl (by decide +kernel)) ggX10_would_X4_setFacts
set_option maxRecDepth 20000 in
theorem ggX10_would_X4_setTimes : GoodIn wsX10_would wsX4_setTimes := qaf qxP (by decide +kernel) qad3
set_option maxRecDepth 20000 in
theorem gX10_would_X4_setTimes : GoodIn wsX10_would (wsV RX10 288 RX4 yX4_setTimes wsX4_setTimes) := goodIn_app (qag qxP [2896, 1921, 1922, 64] rfl (by decide +kernel)) ggX10_would_X4_setTimes
set_option maxRecDepth 20000 in
theorem ggX10_would_X4_reach : GoodIn wsX10_would wsX4_reach := qaf qxP (by decide +kernel) qaLj
set_option maxRecDepth 20000 in
theorem gX10_would_X4_reach : GoodIn wsX10_would (wsV RX10 291 RX4 yX4_reach wsX4_reach) := goodIn_app (qag qxP [2897, 1925, 1926, 64] rfl (by decide +kernel)) ggX10_would_X4_reach
set_option maxRecDepth 20000 in
theorem ggX10_can_X10_needHare : GoodIn wsX10_can wsX10_needHare := goodIn_ca (qaf qLM (by decide +kernel) qtE) (goodIn_sub (fun _ h => List.mem_cons_of_mem _ (List.mem_append_right _ h)) (by decide +kernel))
set_option maxRecDepth 20000 in
theorem gX10_can_X10_needHare : GoodIn wsX10_can (wsV RX10 227 RX10 yX10_needHare wsX10_needHare) := goodIn_app (qag qLM [2711, 2752, 2753, 2] rfl (by decide +kernel)) ggX10_can_X10_needHare
set_option maxRecDepth 20000 in
theorem ggX10_can_X10_needForm : GoodIn wsX10_can wsX10_needForm := goodIn_ca (qaf qLM (by decide +kernel) qDP) (goodIn_sub (fun _ h => List.mem_cons_of_mem _ (List.mem_append_right _ h)) (by decide +kernel))
set_option maxRecDepth 20000 in
theorem gX10_can_X10_needForm : GoodIn wsX10_can (wsV RX10 209 RX10 yX10_needForm wsX10_needForm) := goodIn_app (qag qLM [2646, 2647, 2688, 2] rfl (by decide +kernel)) ggX10_can_X10_needForm
set_option maxRecDepth 20000 in
theorem ggX10_can_X1_couldLeap : GoodIn wsX10_can wsX1_couldLeap := qaf qLM (by decide +kernel) qTy
set_option maxRecDepth 20000 in
theorem gX10_can_X1_couldLeap : GoodIn wsX10_can (wsV RX10 293 RX1 yX1_couldLeap wsX1_couldLeap) := goodIn_app (qag qLM [2949, 1738, 1739, 78] rfl (by decide +kernel)) ggX10_can_X1_couldLeap
set_option maxRecDepth 20000 in
theorem ggX10_ahead_X10_needWithin : GoodIn wsX10_ahead wsX10_needWithin := goodIn_ca (qaf qq6 (by decide +kernel) qdG) (goodIn_sub (fun _ h => List.mem_cons_of_mem _ (List.mem_append_right _ h)) (by decide +kernel))
set_option maxRecDepth 20000 in
theorem gX10_ahead_X10_needWithin : GoodIn wsX10_ahead (wsV RX10 180 RX10 yX10_needWithin wsX10_needWithin) := goodIn_app (qag qq6 [653, 654, 655, 2] rfl (by decide +kernel)) ggX10_ahead_X10_needWithin
set_option maxRecDepth 20000 in
theorem ggX10_ahead_X1_copyFrom : GoodIn wsX10_ahead wsX1_copyFrom := qaf qq6 (by decide +kernel) qWr
set_option maxRecDepth 20000 in
theorem gX10_ahead_X1_copyFrom : GoodIn wsX10_ahead (wsV RX10 297 RX1 yX1_copyFrom wsX1_copyFrom) := goodIn_app (qag qq6 [2961, 2962, 2963, 78] rfl (by decide +kernel)) ggX10_ahead_X1_copyFrom
set_option maxRecDepth 20000 in
theorem ggX10_ahead_X1_passDay : GoodIn wsX10_ahead wsX1_passDay := qaf qq6 (by decide +kernel) q1u
set_option maxRecDepth 20000 in
theorem gX10_ahead_X1_passDay : GoodIn wsX10_ahead (wsV RX10 300 RX1 yX1_passDay wsX1_passDay) := goodIn_app (qag qq6 [2965, 2049, 2050, 78] rfl (by decide +kernel)) ggX10_ahead_X1_passDay
set_option maxRecDepth 20000 in
theorem ggX10_ahead_X1_day : GoodIn wsX10_ahead wsX1_day := qaf qq6 (by decide +kernel) qauZ
set_option maxRecDepth 20000 in
theorem gX10_ahead_X1_day : GoodIn wsX10_ahead (wsV RX10 187 RX1 yX1_day wsX1_day) := goodIn_app (qag qq6 [2518, 1873, 1874, 78] rfl (by decide +kernel)) ggX10_ahead_X1_day
set_option maxRecDepth 20000 in
theorem ggX10_ahead_X1_caughtOnes : GoodIn wsX10_ahead wsX1_caughtOnes := qaf qq6 (by decide +kernel) qOX
set_option maxRecDepth 20000 in
theorem gX10_ahead_X1_caughtOnes : GoodIn wsX10_ahead (wsV RX10 194 RX1 yX1_caughtOnes wsX1_caughtOnes) := goodIn_app (qag qq6 [2560, 2561, 2562, 78] rfl (by decide +kernel)) ggX10_ahead_X1_caughtOnes
set_option maxRecDepth 20000 in
theorem ggX10_ahead_X1_allDebts : GoodIn wsX10_ahead wsX1_allDebts := qaf qq6 (by decide +kernel) qah4
set_option maxRecDepth 20000 in
theorem gX10_ahead_X1_allDebts : GoodIn wsX10_ahead (wsV RX10 203 RX1 yX1_allDebts wsX1_allDebts) := goodIn_app (qag qq6 [2568, 2569, 2570, 78] rfl (by decide +kernel)) ggX10_ahead_X1_allDebts
set_option maxRecDepth 20000 in
theorem ggX10_hops_X10_needHare : GoodIn wsX10_hops wsX10_needHare := goodIn_ca (qaf qti (by decide +kernel) qtE) (goodIn_sub (fun _ h => List.mem_cons_of_mem _ (List.mem_append_right _ h)) (by decide +kernel))
set_option maxRecDepth 20000 in
theorem gX10_hops_X10_needHare : GoodIn wsX10_hops (wsV RX10 227 RX10 yX10_needHare wsX10_needHare) := goodIn_app (qag qti [2711, 2752, 2753, 2] rfl (by decide +kernel)) ggX10_hops_X10_needHare
set_option maxRecDepth 20000 in
theorem ggX10_hops_X10_needForm : GoodIn wsX10_hops wsX10_needForm := goodIn_ca (qaf qti (by decide +kernel) qDP) (goodIn_sub (fun _ h => List.mem_cons_of_mem _ (List.mem_append_right _ h)) (by decide +kernel))
set_option maxRecDepth 20000 in
theorem gX10_hops_X10_needForm : GoodIn wsX10_hops (wsV RX10 209 RX10 yX10_needForm wsX10_needForm) := goodIn_app (qag qti [2646, 2647, 2688, 2] rfl (by decide +kernel)) ggX10_hops_X10_needForm
set_option maxRecDepth 20000 in
theorem ggX10_hops_X1_isCaught : GoodIn wsX10_hops wsX1_isCaught := qaf qti (by decide +kernel) qoU
set_option maxRecDepth 20000 in
theorem gX10_hops_X1_isCaught : GoodIn wsX10_hops (wsV RX10 230 RX1 yX1_isCaught wsX1_isCaught) := goodIn_app (qag qti [2755, 1742, 1743, 78] rfl (by decide +kernel)) ggX10_hops_X1_isCaught
set_option maxRecDepth 20000 in
theorem ggX10_hops_X1_sits : GoodIn wsX10_hops wsX1_sits := qaf qti (by decide +kernel) qEh
set_option maxRecDepth 20000 in
theorem gX10_hops_X1_sits : GoodIn wsX10_hops (wsV RX10 233 RX1 yX1_sits wsX1_sits) := goodIn_app (qag qti [2756, 1746, 1747, 78] rfl (by decide +kernel)) ggX10_hops_X1_sits
set_option maxRecDepth 20000 in
theorem ggX10_hops_X1_reach : GoodIn wsX10_hops wsX1_reach := qaf qti (by decide +kernel) q5j
set_option maxRecDepth 20000 in
theorem gX10_hops_X1_reach : GoodIn wsX10_hops (wsV RX10 254 RX1 yX1_reach wsX1_reach) := goodIn_app (qag qti [2762, 1794, 1795, 78] rfl (by decide +kernel)) ggX10_hops_X1_reach
set_option maxRecDepth 20000 in
theorem ggX10_hops_X2_hopsBetween : GoodIn wsX10_hops wsX2_hopsBetween := qaf qti (by decide +kernel) qauB
set_option maxRecDepth 20000 in
theorem gX10_hops_X2_hopsBetween : GoodIn wsX10_hops (wsV RX10 303 RX2 yX2_hopsBetween wsX2_hopsBetween) := goodIn_app (qag qti [3017, 3018, 3019, 19] rfl (by decide +kernel)) ggX10_hops_X2_hopsBetween
set_option maxRecDepth 20000 in
theorem ggX10_seats_X7_settle : GoodIn wsX10_seats wsX7_settle := qaf qFY (by decide +kernel) qaC5
set_option maxRecDepth 20000 in
theorem gX10_seats_X7_settle : GoodIn wsX10_seats (wsV RX10 307 RX7 yX7_settle wsX7_settle) := goodIn_app (qag qFY [3075, 3076, 3077, 132] rfl (by decide +kernel)) ggX10_seats_X7_settle
set_option maxRecDepth 20000 in
theorem ggX10_seat_X10_needHare : GoodIn wsX10_seat wsX10_needHare := goodIn_ca (qaf qCX (by decide +kernel) qtE) (goodIn_sub (fun _ h => List.mem_cons_of_mem _ (List.mem_append_right _ h)) (by decide +kernel))
set_option maxRecDepth 20000 in
theorem gX10_seat_X10_needHare : GoodIn wsX10_seat (wsV RX10 227 RX10 yX10_needHare wsX10_needHare) := goodIn_app (qag qCX [2711, 2752, 2753, 2] rfl (by decide +kernel)) ggX10_seat_X10_needHare
set_option maxRecDepth 20000 in
theorem ggX10_seat_X7_settle : GoodIn wsX10_seat wsX7_settle := qaf qCX (by decide +kernel) qaC5
set_option maxRecDepth 20000 in
theorem gX10_seat_X7_settle : GoodIn wsX10_seat (wsV RX10 307 RX7 yX7_settle wsX7_settle) := goodIn_app (qag qCX [3075, 3076, 3077, 132] rfl (by decide +kernel)) ggX10_seat_X7_settle
set_option maxRecDepth 20000 in
theorem ggX10_ring_X6_settle : GoodIn wsX10_ring wsX6_settle := qaf qJ9 (by decide +kernel) qaxj
set_option maxRecDepth 20000 in
theorem gX10_ring_X6_settle : GoodIn wsX10_ring (wsV RX10 316 RX6 yX6_settle wsX6_settle) := goodIn_app (qag qJ9 [3220, 3221, 3222, 128] rfl (by decide +kernel)) ggX10_ring_X6_settle
set_option maxRecDepth 20000 in
theorem ggX10_ringed_X10_needLegal : GoodIn wsX10_ringed wsX10_needLegal := goodIn_ca (qaf qt1 (by decide +kernel) q1n) (goodIn_sub (fun _ h => List.mem_cons_of_mem _ (List.mem_append_right _ h)) (by decide +kernel))
set_option maxRecDepth 20000 in
theorem gX10_ringed_X10_needLegal : GoodIn wsX10_ringed (wsV RX10 322 RX10 yX10_needLegal wsX10_needLegal) := goodIn_app (qag qt1 [660, 661, 662, 2] rfl (by decide +kernel)) ggX10_ringed_X10_needLegal
set_option maxRecDepth 20000 in
theorem ggX10_ringed_X6_settle : GoodIn wsX10_ringed wsX6_settle := qaf qt1 (by decide +kernel) qaxj
set_option maxRecDepth 20000 in
theorem gX10_ringed_X6_settle : GoodIn wsX10_ringed (wsV RX10 316 RX6 yX6_settle wsX6_settle) := goodIn_app (qag qt1 [3220, 3221, 3222, 128] rfl (by decide +kernel)) ggX10_ringed_X6_settle
set_option maxRecDepth 20000 in
theorem ggX10_bouts_X10_needHare : GoodIn wsX10_bouts wsX10_needHare := goodIn_ca (qaf qph (by decide +kernel) qtE) (goodIn_sub (fun _ h => List.mem_cons_of_mem _ (List.mem_append_right _ h)) (by decide +kernel))
set_option maxRecDepth 20000 in
theorem gX10_bouts_X10_needHare : GoodIn wsX10_bouts (wsV RX10 227 RX10 yX10_needHare wsX10_needHare) := goodIn_app (qag qph [2711, 2752, 2753, 2] rfl (by decide +kernel)) ggX10_bouts_X10_needHare
set_option maxRecDepth 20000 in
theorem ggX10_bouts_X1_isCaught : GoodIn wsX10_bouts wsX1_isCaught := qaf qph (by decide +kernel) qoU
set_option maxRecDepth 20000 in
theorem gX10_bouts_X1_isCaught : GoodIn wsX10_bouts (wsV RX10 230 RX1 yX1_isCaught wsX1_isCaught) := goodIn_app (qag qph [2755, 1742, 1743, 78] rfl (by decide +kernel)) ggX10_bouts_X1_isCaught
set_option maxRecDepth 20000 in
theorem ggX10_bouts_X1_freeOnes : GoodIn wsX10_bouts wsX1_freeOnes := qaf qph (by decide +kernel) qaRl
set_option maxRecDepth 20000 in
theorem gX10_bouts_X1_freeOnes : GoodIn wsX10_bouts (wsV RX10 329 RX1 yX1_freeOnes wsX1_freeOnes) := goodIn_app (qag qph [3396, 3397, 3398, 78] rfl (by decide +kernel)) ggX10_bouts_X1_freeOnes
set_option maxRecDepth 20000 in
theorem ggX10_bouts_X10_holds : GoodIn wsX10_bouts wsX10_holds := qaf qph (by decide +kernel) qq0
set_option maxRecDepth 20000 in
theorem gX10_bouts_X10_holds : GoodIn wsX10_bouts (va_wsS RX10 332 yX10_holds wsX10_holds) := goodIn_app (qag qph [3400, 2052, 2] rfl (by decide +kernel)) ggX10_bouts_X10_holds
set_option maxRecDepth 20000 in
theorem ggX10_bouts_X1_strong : GoodIn wsX10_bouts wsX1_strong := qaf qph (by decide +kernel) qFh
set_option maxRecDepth 20000 in
theorem gX10_bouts_X1_strong : GoodIn wsX10_bouts (wsV RX10 236 RX1 yX1_strong wsX1_strong) := goodIn_app (qag qph [2757, 1809, 1810, 78] rfl (by decide +kernel)) ggX10_bouts_X1_strong
set_option maxRecDepth 20000 in
theorem ggX10_bouts_X10_ordersWon : GoodIn wsX10_bouts wsX10_ordersWon := qaf qph (by decide +kernel) q2L
set_option maxRecDepth 20000 in
theorem gX10_bouts_X10_ordersWon : GoodIn wsX10_bouts (va_wsS RX10 335 yX10_ordersWon wsX10_ordersWon) := goodIn_app (qag qph [3401, 3402, 2] rfl (by decide +kernel)) ggX10_bouts_X10_ordersWon
set_option maxRecDepth 20000 in
theorem ggX10_fits_X10_needWithin : GoodIn wsX10_fits wsX10_needWithin := goodIn_ca (qaf qyZ (by decide +kernel) qdG) (goodIn_sub (fun _ h => List.mem_cons_of_mem _ (List.mem_append_right _ h)) (by decide +kernel))
set_option maxRecDepth 20000 in
theorem gX10_fits_X10_needWithin : GoodIn wsX10_fits (wsV RX10 180 RX10 yX10_needWithin wsX10_needWithin) := goodIn_app (qag qyZ [653, 654, 655, 2] rfl (by decide +kernel)) ggX10_fits_X10_needWithin
set_option maxRecDepth 20000 in
theorem ggX10_fits_X3_settle : GoodIn wsX10_fits wsX3_settle := qaf qyZ (by decide +kernel) qayy
set_option maxRecDepth 20000 in
theorem gX10_fits_X3_settle : GoodIn wsX10_fits (wsV RX10 339 RX3 yX3_settle wsX3_settle) := goodIn_app (qag qyZ [3462, 3463, 3464, 136] rfl (by decide +kernel)) ggX10_fits_X3_settle
set_option maxRecDepth 20000 in
theorem ggX10_look_X10_needWithin : GoodIn wsX10_look wsX10_needWithin := goodIn_ca (qaf qvB (by decide +kernel) qdG) (goodIn_sub (fun _ h => List.mem_cons_of_mem _ (List.mem_append_right _ h)) (by decide +kernel))
set_option maxRecDepth 20000 in
theorem gX10_look_X10_needWithin : GoodIn wsX10_look (wsV RX10 180 RX10 yX10_needWithin wsX10_needWithin) := goodIn_app (qag qvB [653, 654, 655, 2] rfl (by decide +kernel)) ggX10_look_X10_needWithin
set_option maxRecDepth 20000 in
theorem ggX10_look_X3_settle : GoodIn wsX10_look wsX3_settle := qaf qvB (by decide +kernel) qayy
set_option maxRecDepth 20000 in
theorem gX10_look_X3_settle : GoodIn wsX10_look (wsV RX10 339 RX3 yX3_settle wsX3_settle) := goodIn_app (qag qvB [3462, 3463, 3464, 136] rfl (by decide +kernel)) ggX10_look_X3_settle
set_option maxRecDepth 20000 in
theorem ggX10_look_X3_lookAhead : GoodIn wsX10_look wsX3_lookAhead := qaf qvB (by decide +kernel) qaGt
set_option maxRecDepth 20000 in
theorem gX10_look_X3_lookAhead : GoodIn wsX10_look (wsV RX10 346 RX3 yX3_lookAhead wsX3_lookAhead) := goodIn_app (qag qvB [3595, 3596, 3597, 136] rfl (by decide +kernel)) ggX10_look_X3_lookAhead
set_option maxRecDepth 20000 in
theorem ggX10_watch_X10_needWithin : GoodIn wsX10_watch wsX10_needWithin := goodIn_ca (qaf qJ3 (by decide +kernel) qdG) (goodIn_sub (fun _ h => List.mem_cons_of_mem _ (List.mem_append_right _ h)) (by decide +kernel))
set_option maxRecDepth 20000 in
theorem gX10_watch_X10_needWithin : GoodIn wsX10_watch (wsV RX10 180 RX10 yX10_needWithin wsX10_needWithin) := goodIn_app (qag qJ3 [653, 654, 655, 2] rfl (by decide +kernel)) ggX10_watch_X10_needWithin
set_option maxRecDepth 20000 in
theorem ggX10_watch_X2_watchers : GoodIn wsX10_watch wsX2_watchers := qaf qJ3 (by decide +kernel) qaRd
set_option maxRecDepth 20000 in
theorem gX10_watch_X2_watchers : GoodIn wsX10_watch (wsV RX10 355 RX2 yX2_watchers wsX2_watchers) := goodIn_app (qag qJ3 [3666, 3667, 3668, 19] rfl (by decide +kernel)) ggX10_watch_X2_watchers
set_option maxRecDepth 20000 in
theorem ggX10_few_X10_needWithin : GoodIn wsX10_few wsX10_needWithin := goodIn_ca (qaf qVx (by decide +kernel) qdG) (goodIn_sub (fun _ h => List.mem_cons_of_mem _ (List.mem_append_right _ h)) (by decide +kernel))
set_option maxRecDepth 20000 in
theorem gX10_few_X10_needWithin : GoodIn wsX10_few (wsV RX10 180 RX10 yX10_needWithin wsX10_needWithin) := goodIn_app (qag qVx [653, 654, 655, 2] rfl (by decide +kernel)) ggX10_few_X10_needWithin
set_option maxRecDepth 20000 in
theorem ggX10_few_X10_choices : GoodIn wsX10_few wsX10_choices := qaf qVx (by decide +kernel) qaMW
set_option maxRecDepth 20000 in
theorem gX10_few_X10_choices : GoodIn wsX10_few (va_wsS RX10 358 yX10_choices wsX10_choices) := goodIn_app (qag qVx [3726, 3727, 2] rfl (by decide +kernel)) ggX10_few_X10_choices
set_option maxRecDepth 20000 in
theorem ggX10_few_X10_power : GoodIn wsX10_few wsX10_power := qaf qVx (by decide +kernel) qaXE
set_option maxRecDepth 20000 in
theorem gX10_few_X10_power : GoodIn wsX10_few (va_wsS RX10 362 yX10_power wsX10_power) := goodIn_app (qag qVx [3729, 3730, 2] rfl (by decide +kernel)) ggX10_few_X10_power
set_option maxRecDepth 20000 in
theorem ggX10_road_X10_needWithin : GoodIn wsX10_road wsX10_needWithin := goodIn_ca (qaf q5n (by decide +kernel) qdG) (goodIn_sub (fun _ h => List.mem_cons_of_mem _ (List.mem_append_right _ h)) (by decide +kernel))
set_option maxRecDepth 20000 in
theorem gX10_road_X10_needWithin : GoodIn wsX10_road (wsV RX10 180 RX10 yX10_needWithin wsX10_needWithin) := goodIn_app (qag q5n [653, 654, 655, 2] rfl (by decide +kernel)) ggX10_road_X10_needWithin
set_option maxRecDepth 20000 in
theorem ggX10_road_X10_gain : GoodIn wsX10_road wsX10_gain := qaf q5n (by decide +kernel) qa1A
set_option maxRecDepth 20000 in
theorem gX10_road_X10_gain : GoodIn wsX10_road (va_wsS RX10 365 yX10_gain wsX10_gain) := goodIn_app (qag q5n [3787, 3788, 2] rfl (by decide +kernel)) ggX10_road_X10_gain
set_option maxRecDepth 20000 in
theorem ggX10_clover_X10_needHare : GoodIn wsX10_clover wsX10_needHare := goodIn_ca (qaf qrq (by decide +kernel) qtE) (goodIn_sub (fun _ h => List.mem_cons_of_mem _ (List.mem_append_left _ (List.mem_append_right _ h))) (by decide +kernel))
set_option maxRecDepth 20000 in
theorem gX10_clover_X10_needHare : GoodIn wsX10_clover (wsV RX10 227 RX10 yX10_needHare wsX10_needHare) := goodIn_app (qag qrq [2711, 2752, 2753, 2] rfl (by decide +kernel)) ggX10_clover_X10_needHare
set_option maxRecDepth 20000 in
theorem ggX10_clover_X10_needWithin : GoodIn wsX10_clover wsX10_needWithin := goodIn_ca (qaf qrq (by decide +kernel) qdG) (goodIn_sub (fun _ h => List.mem_cons_of_mem _ (List.mem_append_right _ h)) (by decide +kernel))
set_option maxRecDepth 20000 in
theorem gX10_clover_X10_needWithin : GoodIn wsX10_clover (wsV RX10 180 RX10 yX10_needWithin wsX10_needWithin) := goodIn_app (qag qrq [653, 654, 655, 2] rfl (by decide +kernel)) ggX10_clover_X10_needWithin
set_option maxRecDepth 20000 in
theorem ggX10_clover_X10_holds : GoodIn wsX10_clover wsX10_holds := qaf qrq (by decide +kernel) qq0
set_option maxRecDepth 20000 in
theorem gX10_clover_X10_holds : GoodIn wsX10_clover (va_wsS RX10 332 yX10_holds wsX10_holds) := goodIn_app (qag qrq [3400, 2052, 2] rfl (by decide +kernel)) ggX10_clover_X10_holds
set_option maxRecDepth 20000 in
theorem ggX10_clover_X1_cloverFor : GoodIn wsX10_clover wsX1_cloverFor := qaf qrq (by decide +kernel) qaE0
set_option maxRecDepth 20000 in
theorem gX10_clover_X1_cloverFor : GoodIn wsX10_clover (wsV RX10 369 RX1 yX1_cloverFor wsX1_cloverFor) := goodIn_app (qag qrq [3844, 3845, 3846, 78] rfl (by decide +kernel)) ggX10_clover_X1_cloverFor
set_option maxRecDepth 20000 in
theorem ggX10_strongest_X10_needWithin : GoodIn wsX10_strongest wsX10_needWithin := goodIn_ca (qaf qpk (by decide +kernel) qdG) (goodIn_sub (fun _ h => List.mem_cons_of_mem _ (List.mem_append_right _ h)) (by decide +kernel))
set_option maxRecDepth 20000 in
theorem gX10_strongest_X10_needWithin : GoodIn wsX10_strongest (wsV RX10 180 RX10 yX10_needWithin wsX10_needWithin) := goodIn_app (qag qpk [653, 654, 655, 2] rfl (by decide +kernel)) ggX10_strongest_X10_needWithin
set_option maxRecDepth 20000 in
theorem ggX10_strongest_X1_isCaught : GoodIn wsX10_strongest wsX1_isCaught := qaf qpk (by decide +kernel) qoU
set_option maxRecDepth 20000 in
theorem gX10_strongest_X1_isCaught : GoodIn wsX10_strongest (wsV RX10 230 RX1 yX1_isCaught wsX1_isCaught) := goodIn_app (qag qpk [2755, 1742, 1743, 78] rfl (by decide +kernel)) ggX10_strongest_X1_isCaught
set_option maxRecDepth 20000 in
theorem ggX10_strongest_X1_strong : GoodIn wsX10_strongest wsX1_strong := qaf qpk (by decide +kernel) qFh
set_option maxRecDepth 20000 in
theorem gX10_strongest_X1_strong : GoodIn wsX10_strongest (wsV RX10 236 RX1 yX1_strong wsX1_strong) := goodIn_app (qag qpk [2757, 1809, 1810, 78] rfl (by decide +kernel)) ggX10_strongest_X1_strong
set_option maxRecDepth 20000 in
theorem ggX10_ties_X10_needHare : GoodIn wsX10_ties wsX10_needHare := goodIn_ca (qaf qyO (by decide +kernel) qtE) (goodIn_sub (fun _ h => List.mem_cons_of_mem _ (List.mem_append_left _ (List.mem_append_right _ h))) (by decide +kernel))
set_option maxRecDepth 20000 in
theorem gX10_ties_X10_needHare : GoodIn wsX10_ties (wsV RX10 227 RX10 yX10_needHare wsX10_needHare) := goodIn_app (qag qyO [2711, 2752, 2753, 2] rfl (by decide +kernel)) ggX10_ties_X10_needHare
set_option maxRecDepth 20000 in
theorem ggX10_ties_X10_needWithin : GoodIn wsX10_ties wsX10_needWithin := goodIn_ca (qaf qyO (by decide +kernel) qdG) (goodIn_sub (fun _ h => List.mem_cons_of_mem _ (List.mem_append_right _ h)) (by decide +kernel))
set_option maxRecDepth 20000 in
theorem gX10_ties_X10_needWithin : GoodIn wsX10_ties (wsV RX10 180 RX10 yX10_needWithin wsX10_needWithin) := goodIn_app (qag qyO [653, 654, 655, 2] rfl (by decide +kernel)) ggX10_ties_X10_needWithin
set_option maxRecDepth 20000 in
theorem ggX10_ties_X1_owesTo : GoodIn wsX10_ties wsX1_owesTo := qaf qyO (by decide +kernel) qQA
set_option maxRecDepth 20000 in
theorem gX10_ties_X1_owesTo : GoodIn wsX10_ties (wsV RX10 277 RX1 yX1_owesTo wsX1_owesTo) := goodIn_app (qag qyO [2831, 1861, 1862, 78] rfl (by decide +kernel)) ggX10_ties_X1_owesTo
set_option maxRecDepth 20000 in
theorem ggX10_refuge_X10_needForm : GoodIn wsX10_refuge wsX10_needForm := goodIn_ca (qaf qsB (by decide +kernel) qDP) (goodIn_sub (fun _ h => List.mem_cons_of_mem _ (List.mem_append_left _ (List.mem_append_right _ h))) (by decide +kernel))
set_option maxRecDepth 20000 in
theorem gX10_refuge_X10_needForm : GoodIn wsX10_refuge (wsV RX10 209 RX10 yX10_needForm wsX10_needForm) := goodIn_app (qag qsB [2646, 2647, 2688, 2] rfl (by decide +kernel)) ggX10_refuge_X10_needForm
set_option maxRecDepth 20000 in
theorem ggX10_refuge_X10_needWithin : GoodIn wsX10_refuge wsX10_needWithin := goodIn_ca (qaf qsB (by decide +kernel) qdG) (goodIn_sub (fun _ h => List.mem_cons_of_mem _ (List.mem_append_right _ h)) (by decide +kernel))
set_option maxRecDepth 20000 in
theorem gX10_refuge_X10_needWithin : GoodIn wsX10_refuge (wsV RX10 180 RX10 yX10_needWithin wsX10_needWithin) := goodIn_app (qag qsB [653, 654, 655, 2] rfl (by decide +kernel)) ggX10_refuge_X10_needWithin
set_option maxRecDepth 20000 in
theorem ggX10_refuge_X2_isSafe : GoodIn wsX10_refuge wsX2_isSafe := qaf qsB (by decide +kernel) q9P
set_option maxRecDepth 20000 in
theorem gX10_refuge_X2_isSafe : GoodIn wsX10_refuge (wsV RX10 219 RX2 yX2_isSafe wsX2_isSafe) := goodIn_app (qag qsB [2693, 2063, 2064, 19] rfl (by decide +kernel)) ggX10_refuge_X2_isSafe
set_option maxRecDepth 20000 in
theorem ggX10_refuge_X2_apart : GoodIn wsX10_refuge wsX2_apart := qaf qsB (by decide +kernel) qOu
set_option maxRecDepth 20000 in
theorem gX10_refuge_X2_apart : GoodIn wsX10_refuge (wsV RX10 281 RX2 yX2_apart wsX2_apart) := goodIn_app (qag qsB [2883, 1750, 1751, 19] rfl (by decide +kernel)) ggX10_refuge_X2_apart
set_option maxRecDepth 20000 in
theorem ggX10_range_X10_needHare : GoodIn wsX10_range wsX10_needHare := goodIn_ca (qaf qJW (by decide +kernel) qtE) (goodIn_sub (fun _ h => List.mem_cons_of_mem _ (List.mem_append_right _ h)) (by decide +kernel))
set_option maxRecDepth 20000 in
theorem gX10_range_X10_needHare : GoodIn wsX10_range (wsV RX10 227 RX10 yX10_needHare wsX10_needHare) := goodIn_app (qag qJW [2711, 2752, 2753, 2] rfl (by decide +kernel)) ggX10_range_X10_needHare
set_option maxRecDepth 20000 in
theorem ggX10_range_X1_leapable : GoodIn wsX10_range wsX1_leapable := qaf qJW (by decide +kernel) qafZ
set_option maxRecDepth 20000 in
theorem gX10_range_X1_leapable : GoodIn wsX10_range (wsV RX10 372 RX1 yX1_leapable wsX1_leapable) := goodIn_app (qag qJW [3981, 3090, 3091, 78] rfl (by decide +kernel)) ggX10_range_X1_leapable
set_option maxRecDepth 20000 in
theorem ggX10_march_X10_needWithin : GoodIn wsX10_march wsX10_needWithin := goodIn_ca (qaf qq5 (by decide +kernel) qdG) (goodIn_sub (fun _ h => List.mem_cons_of_mem _ (List.mem_append_right _ h)) (by decide +kernel))
set_option maxRecDepth 20000 in
theorem gX10_march_X10_needWithin : GoodIn wsX10_march (wsV RX10 180 RX10 yX10_needWithin wsX10_needWithin) := goodIn_app (qag qq5 [653, 654, 655, 2] rfl (by decide +kernel)) ggX10_march_X10_needWithin
set_option maxRecDepth 20000 in
theorem ggX10_march_X1_copyFrom : GoodIn wsX10_march wsX1_copyFrom := qaf qq5 (by decide +kernel) qWr
set_option maxRecDepth 20000 in
theorem gX10_march_X1_copyFrom : GoodIn wsX10_march (wsV RX10 297 RX1 yX1_copyFrom wsX1_copyFrom) := goodIn_app (qag qq5 [2961, 2962, 2963, 78] rfl (by decide +kernel)) ggX10_march_X1_copyFrom
set_option maxRecDepth 20000 in
theorem ggX10_march_X1_drawDays : GoodIn wsX10_march wsX1_drawDays := qaf qq5 (by decide +kernel) qahJ
set_option maxRecDepth 20000 in
theorem gX10_march_X1_drawDays : GoodIn wsX10_march (wsV RX10 375 RX1 yX1_drawDays wsX1_drawDays) := goodIn_app (qag qq5 [4037, 4038, 4039, 78] rfl (by decide +kernel)) ggX10_march_X1_drawDays
