set_option maxRecDepth 20000 in
theorem ggX0_init_X0_clear : GoodIn wsX0_init wsX0_clear := qaf qLo (by decide +kernel) qakx
set_option maxRecDepth 20000 in
theorem gX0_init_X0_clear : GoodIn wsX0_init (wsV RX0 15 RX0 yX0_clear wsX0_clear) := goodIn_app (qag qLo [258, 259, 260, 69] rfl (by decide +kernel)) ggX0_init_X0_clear
set_option maxRecDepth 20000 in
theorem ggX0_readFrom_X0_clear : GoodIn wsX0_readFrom wsX0_clear := qaf qxh (by decide +kernel) qakx
set_option maxRecDepth 20000 in
theorem gX0_readFrom_X0_clear : GoodIn wsX0_readFrom (wsV RX0 15 RX0 yX0_clear wsX0_clear) := goodIn_app (qag qxh [258, 259, 260, 69] rfl (by decide +kernel)) ggX0_readFrom_X0_clear
set_option maxRecDepth 20000 in
theorem ggX0_readFrom_X8_isFaulty : GoodIn wsX0_readFrom wsX8_isFaulty := qaf qxh (by decide +kernel) qoK
set_option maxRecDepth 20000 in
theorem gX0_readFrom_X8_isFaulty : GoodIn wsX0_readFrom (wsV RX0 22 RX8 yX8_isFaulty wsX8_isFaulty) := goodIn_app (qag qxh [2391, 724, 725, 15] rfl (by decide +kernel)) ggX0_readFrom_X8_isFaulty
set_option maxRecDepth 20000 in
theorem ggX0_readFrom_X8_isEnded : GoodIn wsX0_readFrom wsX8_isEnded := qaf qxh (by decide +kernel) qR4
set_option maxRecDepth 20000 in
theorem gX0_readFrom_X8_isEnded : GoodIn wsX0_readFrom (wsV RX0 28 RX8 yX8_isEnded wsX8_isEnded) := goodIn_app (qag qxh [2432, 768, 769, 15] rfl (by decide +kernel)) ggX0_readFrom_X8_isEnded
set_option maxRecDepth 20000 in
theorem ggX0_readFrom_X0_readLine : GoodIn wsX0_readFrom wsX0_readLine := qaf qxh (by decide +kernel) qaRD
set_option maxRecDepth 20000 in
theorem gX0_readFrom_X0_readLine : GoodIn wsX0_readFrom (wsV RX0 31 RX0 yX0_readLine wsX0_readLine) := goodIn_app (qag qxh [2433, 2434, 2435, 69] rfl (by decide +kernel)) ggX0_readFrom_X0_readLine
set_option maxRecDepth 20000 in
theorem ggX0_readLine_X8_number : GoodIn wsX0_readLine wsX8_number := qaf qmh (by decide +kernel) qB5
set_option maxRecDepth 20000 in
theorem gX0_readLine_X8_number : GoodIn wsX0_readLine (wsV RX0 35 RX8 yX8_number wsX8_number) := goodIn_app (qag qmh [2437, 970, 971, 15] rfl (by decide +kernel)) ggX0_readLine_X8_number
set_option maxRecDepth 20000 in
theorem ggX0_readLine_X10_within : GoodIn wsX0_readLine wsX10_within := qaf qmh (by decide +kernel) qBI
set_option maxRecDepth 20000 in
theorem gX0_readLine_X10_within_n39 : GoodIn wsX0_readLine (wsX10_within) := ggX0_readLine_X10_within
set_option maxRecDepth 20000 in
theorem ggX0_readLine_X0_tells : GoodIn wsX0_readLine wsX0_tells := qaf qmh (by decide +kernel) qaK8
set_option maxRecDepth 20000 in
theorem gX0_readLine_X0_tells : GoodIn wsX0_readLine (wsV RX0 43 RX0 yX0_tells wsX0_tells) := goodIn_app (qag qmh [2438, 2439, 2440, 69] rfl (by decide +kernel)) ggX0_readLine_X0_tells
set_option maxRecDepth 20000 in
theorem ggX0_readLine_X8_blameToken : GoodIn wsX0_readLine wsX8_blameToken := qaf qmh (by decide +kernel) qub
set_option maxRecDepth 20000 in
theorem gX0_readLine_X8_blameToken : GoodIn wsX0_readLine (wsV RX0 47 RX8 yX8_blameToken wsX8_blameToken) := goodIn_app (qag qmh [2442, 962, 963, 15] rfl (by decide +kernel)) ggX0_readLine_X8_blameToken
set_option maxRecDepth 20000 in
theorem ggX0_readLine_X8_needs : GoodIn wsX0_readLine wsX8_needs := qaf qmh (by decide +kernel) qAx
set_option maxRecDepth 20000 in
theorem gX0_readLine_X8_needs : GoodIn wsX0_readLine (wsV RX0 51 RX8 yX8_needs wsX8_needs) := goodIn_app (qag qmh [2443, 979, 980, 15] rfl (by decide +kernel)) ggX0_readLine_X8_needs
set_option maxRecDepth 20000 in
theorem ggX0_readLine_X8_isFaulty : GoodIn wsX0_readLine wsX8_isFaulty := qaf qmh (by decide +kernel) qoK
set_option maxRecDepth 20000 in
theorem gX0_readLine_X8_isFaulty : GoodIn wsX0_readLine (wsV RX0 22 RX8 yX8_isFaulty wsX8_isFaulty) := goodIn_app (qag qmh [2391, 724, 725, 15] rfl (by decide +kernel)) ggX0_readLine_X8_isFaulty
set_option maxRecDepth 20000 in
theorem ggX1_init_X1_begin : GoodIn wsX1_init wsX1_begin := qaf qHA (by decide +kernel) qaLH
set_option maxRecDepth 20000 in
theorem gX1_init_X1_begin : GoodIn wsX1_init (wsV RX1 20 RX1 yX1_begin wsX1_begin) := goodIn_app (qag qHA [278, 279, 320, 78] rfl (by decide +kernel)) ggX1_init_X1_begin
set_option maxRecDepth 20000 in
theorem ggX1_owes_X1_owesTo : GoodIn wsX1_owes wsX1_owesTo := qaf qV7 (by decide +kernel) qQ2
set_option maxRecDepth 20000 in
theorem gX1_owes_X1_owesTo : GoodIn wsX1_owes (wsV RX1 51 RX1 yX1_owesTo wsX1_owesTo) := goodIn_app (qag qV7 [1860, 1861, 1862, 78] rfl (by decide +kernel)) ggX1_owes_X1_owesTo
set_option maxRecDepth 20000 in
theorem ggX1_owed_X1_owesTo : GoodIn wsX1_owed wsX1_owesTo := qaf qUY (by decide +kernel) qQ2
set_option maxRecDepth 20000 in
theorem gX1_owed_X1_owesTo : GoodIn wsX1_owed (wsV RX1 51 RX1 yX1_owesTo wsX1_owesTo) := goodIn_app (qag qUY [1860, 1861, 1862, 78] rfl (by decide +kernel)) ggX1_owed_X1_owesTo
set_option maxRecDepth 20000 in
theorem ggX1_allDebts_X1_owes : GoodIn wsX1_allDebts wsX1_owes := qaf qCt (by decide +kernel) qavd
set_option maxRecDepth 20000 in
theorem gX1_allDebts_X1_owes : GoodIn wsX1_allDebts (wsV RX1 55 RX1 yX1_owes wsX1_owes) := goodIn_app (qag qCt [1856, 1857, 1858, 78] rfl (by decide +kernel)) ggX1_allDebts_X1_owes
set_option maxRecDepth 20000 in
theorem ggX1_seatedIn_X1_isCaught : GoodIn wsX1_seatedIn wsX1_isCaught := qaf qw5 (by decide +kernel) qoT
set_option maxRecDepth 20000 in
theorem gX1_seatedIn_X1_isCaught : GoodIn wsX1_seatedIn (wsV RX1 59 RX1 yX1_isCaught wsX1_isCaught) := goodIn_app (qag qw5 [1741, 1742, 1743, 78] rfl (by decide +kernel)) ggX1_seatedIn_X1_isCaught
set_option maxRecDepth 20000 in
theorem ggX1_seatedIn_X1_sits : GoodIn wsX1_seatedIn wsX1_sits := qaf qw5 (by decide +kernel) qD5
set_option maxRecDepth 20000 in
theorem gX1_seatedIn_X1_sits : GoodIn wsX1_seatedIn (wsV RX1 63 RX1 yX1_sits wsX1_sits) := goodIn_app (qag qw5 [1745, 1746, 1747, 78] rfl (by decide +kernel)) ggX1_seatedIn_X1_sits
set_option maxRecDepth 20000 in
theorem ggX1_strongTogether_X1_isCaught : GoodIn wsX1_strongTogether wsX1_isCaught := qaf qpg (by decide +kernel) qoT
set_option maxRecDepth 20000 in
theorem gX1_strongTogether_X1_isCaught : GoodIn wsX1_strongTogether (wsV RX1 59 RX1 yX1_isCaught wsX1_isCaught) := goodIn_app (qag qpg [1741, 1742, 1743, 78] rfl (by decide +kernel)) ggX1_strongTogether_X1_isCaught
set_option maxRecDepth 20000 in
theorem ggX1_strongTogether_X1_strong : GoodIn wsX1_strongTogether wsX1_strong := qaf qpg (by decide +kernel) qFV
set_option maxRecDepth 20000 in
theorem gX1_strongTogether_X1_strong : GoodIn wsX1_strongTogether (wsV RX1 66 RX1 yX1_strong wsX1_strong) := goodIn_app (qag qpg [1808, 1809, 1810, 78] rfl (by decide +kernel)) ggX1_strongTogether_X1_strong
set_option maxRecDepth 20000 in
theorem ggX1_reach_X1_sits : GoodIn wsX1_reach wsX1_sits := qaf qiw (by decide +kernel) qD5
set_option maxRecDepth 20000 in
theorem gX1_reach_X1_sits : GoodIn wsX1_reach (wsV RX1 63 RX1 yX1_sits wsX1_sits) := goodIn_app (qag qiw [1745, 1746, 1747, 78] rfl (by decide +kernel)) ggX1_reach_X1_sits
set_option maxRecDepth 20000 in
theorem ggX1_reach_X1_seatedIn : GoodIn wsX1_reach wsX1_seatedIn := qaf qiw (by decide +kernel) qWu
set_option maxRecDepth 20000 in
theorem gX1_reach_X1_seatedIn : GoodIn wsX1_reach (wsV RX1 69 RX1 yX1_seatedIn wsX1_seatedIn) := goodIn_app (qag qiw [1797, 1798, 1799, 78] rfl (by decide +kernel)) ggX1_reach_X1_seatedIn
set_option maxRecDepth 20000 in
theorem ggX1_reach_J6_bitCount_0f7a4 : GoodIn wsX1_reach wsJ6_bitCount_0f7a4 := qaf qiw (by decide +kernel) qFG
set_option maxRecDepth 20000 in
theorem gX1_reach_J6_bitCount_0f7a4 : GoodIn wsX1_reach (va_wsS RX1 72 yJ6_bitCount_0f7a4 wsJ6_bitCount_0f7a4) := goodIn_app (qag qiw [1801, 1802, 1803] rfl (by decide +kernel)) ggX1_reach_J6_bitCount_0f7a4
set_option maxRecDepth 20000 in
theorem ggX1_reach_X1_strong : GoodIn wsX1_reach wsX1_strong := qaf qiw (by decide +kernel) qFV
set_option maxRecDepth 20000 in
theorem gX1_reach_X1_strong : GoodIn wsX1_reach (wsV RX1 66 RX1 yX1_strong wsX1_strong) := goodIn_app (qag qiw [1808, 1809, 1810, 78] rfl (by decide +kernel)) ggX1_reach_X1_strong
set_option maxRecDepth 20000 in
theorem ggX1_reach_X1_still : GoodIn wsX1_reach wsX1_still := qaf qiw (by decide +kernel) qajX
set_option maxRecDepth 20000 in
theorem gX1_reach_X1_still : GoodIn wsX1_reach (wsV RX1 77 RX1 yX1_still wsX1_still) := goodIn_app (qag qiw [1812, 1813, 1814, 78] rfl (by decide +kernel)) ggX1_reach_X1_still
set_option maxRecDepth 20000 in
theorem ggX1_reach_X1_owes : GoodIn wsX1_reach wsX1_owes := qaf qiw (by decide +kernel) qavd
set_option maxRecDepth 20000 in
theorem gX1_reach_X1_owes : GoodIn wsX1_reach (wsV RX1 55 RX1 yX1_owes wsX1_owes) := goodIn_app (qag qiw [1856, 1857, 1858, 78] rfl (by decide +kernel)) ggX1_reach_X1_owes
set_option maxRecDepth 20000 in
theorem ggX1_reach_X1_owed : GoodIn wsX1_reach wsX1_owed := qaf qiw (by decide +kernel) qaDx
set_option maxRecDepth 20000 in
theorem gX1_reach_X1_owed : GoodIn wsX1_reach (wsV RX1 80 RX1 yX1_owed wsX1_owed) := goodIn_app (qag qiw [1864, 1865, 1866, 78] rfl (by decide +kernel)) ggX1_reach_X1_owed
set_option maxRecDepth 20000 in
theorem ggX1_reach_X4_setFacts : GoodIn wsX1_reach wsX4_setFacts := qaf qiw (by decide +kernel) qag7
set_option maxRecDepth 20000 in
theorem gX1_reach_X4_setFacts : GoodIn wsX1_reach (wsV RX1 83 RX4 yX4_setFacts wsX4_setFacts) := goodIn_app (qag qiw [1868, 1869, 1870, 64] rfl (by decide +kernel)) ggX1_reach_X4_setFacts
set_option maxRecDepth 20000 in
theorem ggX1_reach_X1_day : GoodIn wsX1_reach wsX1_day := qaf qiw (by decide +kernel) qau4
set_option maxRecDepth 20000 in
theorem gX1_reach_X1_day : GoodIn wsX1_reach (wsV RX1 89 RX1 yX1_day wsX1_day) := goodIn_app (qag qiw [1872, 1873, 1874, 78] rfl (by decide +kernel)) ggX1_reach_X1_day
set_option maxRecDepth 20000 in
theorem ggX1_reach_X1_leaps : GoodIn wsX1_reach wsX1_leaps := qaf qiw (by decide +kernel) qaLu
set_option maxRecDepth 20000 in
theorem gX1_reach_X1_leaps : GoodIn wsX1_reach (wsV RX1 93 RX1 yX1_leaps wsX1_leaps) := goodIn_app (qag qiw [1876, 1877, 1878, 78] rfl (by decide +kernel)) ggX1_reach_X1_leaps
set_option maxRecDepth 20000 in
theorem ggX1_reach_X4_setTimes : GoodIn wsX1_reach wsX4_setTimes := qaf qiw (by decide +kernel) qadj
set_option maxRecDepth 20000 in
theorem gX1_reach_X4_setTimes : GoodIn wsX1_reach (wsV RX1 96 RX4 yX4_setTimes wsX4_setTimes) := goodIn_app (qag qiw [1920, 1921, 1922, 64] rfl (by decide +kernel)) ggX1_reach_X4_setTimes
set_option maxRecDepth 20000 in
theorem ggX1_reach_X4_reach : GoodIn wsX1_reach wsX4_reach := qaf qiw (by decide +kernel) qaLG
set_option maxRecDepth 20000 in
theorem gX1_reach_X4_reach : GoodIn wsX1_reach (wsV RX1 100 RX4 yX4_reach wsX4_reach) := goodIn_app (qag qiw [1924, 1925, 1926, 64] rfl (by decide +kernel)) ggX1_reach_X4_reach
set_option maxRecDepth 20000 in
theorem ggX1_couldLeap_X1_isCaught : GoodIn wsX1_couldLeap wsX1_isCaught := qaf qrO (by decide +kernel) qoT
set_option maxRecDepth 20000 in
theorem gX1_couldLeap_X1_isCaught : GoodIn wsX1_couldLeap (wsV RX1 59 RX1 yX1_isCaught wsX1_isCaught) := goodIn_app (qag qrO [1741, 1742, 1743, 78] rfl (by decide +kernel)) ggX1_couldLeap_X1_isCaught
set_option maxRecDepth 20000 in
theorem ggX1_couldLeap_X1_sits : GoodIn wsX1_couldLeap wsX1_sits := qaf qrO (by decide +kernel) qD5
set_option maxRecDepth 20000 in
theorem gX1_couldLeap_X1_sits : GoodIn wsX1_couldLeap (wsV RX1 63 RX1 yX1_sits wsX1_sits) := goodIn_app (qag qrO [1745, 1746, 1747, 78] rfl (by decide +kernel)) ggX1_couldLeap_X1_sits
set_option maxRecDepth 20000 in
theorem ggX1_couldLeap_X2_apart : GoodIn wsX1_couldLeap wsX2_apart := qaf qrO (by decide +kernel) qOB
set_option maxRecDepth 20000 in
theorem gX1_couldLeap_X2_apart : GoodIn wsX1_couldLeap (wsV RX1 103 RX2 yX2_apart wsX2_apart) := goodIn_app (qag qrO [1749, 1750, 1751, 19] rfl (by decide +kernel)) ggX1_couldLeap_X2_apart
set_option maxRecDepth 20000 in
theorem ggX1_couldLeap_X1_reach : GoodIn wsX1_couldLeap wsX1_reach := qaf qrO (by decide +kernel) q5q
set_option maxRecDepth 20000 in
theorem gX1_couldLeap_X1_reach : GoodIn wsX1_couldLeap (wsV RX1 106 RX1 yX1_reach wsX1_reach) := goodIn_app (qag qrO [1793, 1794, 1795, 78] rfl (by decide +kernel)) ggX1_couldLeap_X1_reach
set_option maxRecDepth 20000 in
theorem ggX1_leapable_X1_isCaught : GoodIn wsX1_leapable wsX1_isCaught := qaf qqK (by decide +kernel) qoT
set_option maxRecDepth 20000 in
theorem gX1_leapable_X1_isCaught : GoodIn wsX1_leapable (wsV RX1 59 RX1 yX1_isCaught wsX1_isCaught) := goodIn_app (qag qqK [1741, 1742, 1743, 78] rfl (by decide +kernel)) ggX1_leapable_X1_isCaught
set_option maxRecDepth 20000 in
theorem ggX1_leapable_X1_sits : GoodIn wsX1_leapable wsX1_sits := qaf qqK (by decide +kernel) qD5
set_option maxRecDepth 20000 in
theorem gX1_leapable_X1_sits : GoodIn wsX1_leapable (wsV RX1 63 RX1 yX1_sits wsX1_sits) := goodIn_app (qag qqK [1745, 1746, 1747, 78] rfl (by decide +kernel)) ggX1_leapable_X1_sits
set_option maxRecDepth 20000 in
theorem ggX1_leapable_X1_reach : GoodIn wsX1_leapable wsX1_reach := qaf qqK (by decide +kernel) q5q
set_option maxRecDepth 20000 in
theorem gX1_leapable_X1_reach : GoodIn wsX1_leapable (wsV RX1 106 RX1 yX1_reach wsX1_reach) := goodIn_app (qag qqK [1793, 1794, 1795, 78] rfl (by decide +kernel)) ggX1_leapable_X1_reach
set_option maxRecDepth 20000 in
theorem ggX1_leapable_X2_formsWithin : GoodIn wsX1_leapable wsX2_formsWithin := qaf qqK (by decide +kernel) qMu
set_option maxRecDepth 20000 in
theorem gX1_leapable_X2_formsWithin_n108 : GoodIn wsX1_leapable (wsX2_formsWithin) := ggX1_leapable_X2_formsWithin
set_option maxRecDepth 20000 in
theorem ggX1_leapTo_X1_stir : GoodIn wsX1_leapTo wsX1_stir := qaf qW0 (by decide +kernel) qaUL
set_option maxRecDepth 20000 in
theorem gX1_leapTo_X1_stir : GoodIn wsX1_leapTo (wsV RX1 111 RX1 yX1_stir wsX1_stir) := goodIn_app (qag qW0 [1995, 1996, 1997, 78] rfl (by decide +kernel)) ggX1_leapTo_X1_stir
set_option maxRecDepth 20000 in
theorem ggX1_couldFight_X1_isCaught : GoodIn wsX1_couldFight wsX1_isCaught := qaf qIV (by decide +kernel) qoT
set_option maxRecDepth 20000 in
theorem gX1_couldFight_X1_isCaught : GoodIn wsX1_couldFight (wsV RX1 59 RX1 yX1_isCaught wsX1_isCaught) := goodIn_app (qag qIV [1741, 1742, 1743, 78] rfl (by decide +kernel)) ggX1_couldFight_X1_isCaught
set_option maxRecDepth 20000 in
theorem ggX1_couldFight_X1_sits : GoodIn wsX1_couldFight wsX1_sits := qaf qIV (by decide +kernel) qD5
set_option maxRecDepth 20000 in
theorem gX1_couldFight_X1_sits : GoodIn wsX1_couldFight (wsV RX1 63 RX1 yX1_sits wsX1_sits) := goodIn_app (qag qIV [1745, 1746, 1747, 78] rfl (by decide +kernel)) ggX1_couldFight_X1_sits
set_option maxRecDepth 20000 in
theorem ggX1_fight_X1_strong : GoodIn wsX1_fight wsX1_strong := qaf qAr (by decide +kernel) qFV
set_option maxRecDepth 20000 in
theorem gX1_fight_X1_strong : GoodIn wsX1_fight (wsV RX1 66 RX1 yX1_strong wsX1_strong) := goodIn_app (qag qAr [1808, 1809, 1810, 78] rfl (by decide +kernel)) ggX1_fight_X1_strong
set_option maxRecDepth 20000 in
theorem ggX1_fight_X1_stir : GoodIn wsX1_fight wsX1_stir := qaf qAr (by decide +kernel) qaUL
set_option maxRecDepth 20000 in
theorem gX1_fight_X1_stir : GoodIn wsX1_fight (wsV RX1 111 RX1 yX1_stir wsX1_stir) := goodIn_app (qag qAr [1995, 1996, 1997, 78] rfl (by decide +kernel)) ggX1_fight_X1_stir
set_option maxRecDepth 20000 in
theorem ggX1_couldPay_X1_isCaught : GoodIn wsX1_couldPay wsX1_isCaught := qaf qN2 (by decide +kernel) qoT
set_option maxRecDepth 20000 in
theorem gX1_couldPay_X1_isCaught : GoodIn wsX1_couldPay (wsV RX1 59 RX1 yX1_isCaught wsX1_isCaught) := goodIn_app (qag qN2 [1741, 1742, 1743, 78] rfl (by decide +kernel)) ggX1_couldPay_X1_isCaught
set_option maxRecDepth 20000 in
theorem ggX1_couldPay_X1_owesTo : GoodIn wsX1_couldPay wsX1_owesTo := qaf qN2 (by decide +kernel) qQ2
set_option maxRecDepth 20000 in
theorem gX1_couldPay_X1_owesTo : GoodIn wsX1_couldPay (wsV RX1 51 RX1 yX1_owesTo wsX1_owesTo) := goodIn_app (qag qN2 [1860, 1861, 1862, 78] rfl (by decide +kernel)) ggX1_couldPay_X1_owesTo
set_option maxRecDepth 20000 in
theorem ggX1_passDay_X10_holds : GoodIn wsX1_passDay wsX10_holds := qaf qvi (by decide +kernel) qqZ
set_option maxRecDepth 20000 in
theorem gX1_passDay_X10_holds_n120 : GoodIn wsX1_passDay (wsX10_holds) := ggX1_passDay_X10_holds
set_option maxRecDepth 20000 in
theorem ggX1_passDay_X1_strike : GoodIn wsX1_passDay wsX1_strike := qaf qvi (by decide +kernel) qaY7
set_option maxRecDepth 20000 in
theorem gX1_passDay_X1_strike : GoodIn wsX1_passDay (wsV RX1 124 RX1 yX1_strike wsX1_strike) := goodIn_app (qag qvi [2054, 2055, 2056, 78] rfl (by decide +kernel)) ggX1_passDay_X1_strike
set_option maxRecDepth 20000 in
theorem ggX1_strike_X1_endangered : GoodIn wsX1_strike wsX1_endangered := qaf qto (by decide +kernel) q0L
set_option maxRecDepth 20000 in
theorem gX1_strike_X1_endangered : GoodIn wsX1_strike (wsV RX1 127 RX1 yX1_endangered wsX1_endangered) := goodIn_app (qag qto [2058, 2059, 2060, 78] rfl (by decide +kernel)) ggX1_strike_X1_endangered
set_option maxRecDepth 20000 in
theorem ggX1_strike_X10_holds : GoodIn wsX1_strike wsX10_holds := qaf qto (by decide +kernel) qqZ
set_option maxRecDepth 20000 in
theorem gX1_strike_X10_holds_n120 : GoodIn wsX1_strike (wsX10_holds) := ggX1_strike_X10_holds
set_option maxRecDepth 20000 in
theorem ggX1_strike_X1_dropDebts : GoodIn wsX1_strike wsX1_dropDebts := qaf qto (by decide +kernel) qaJi
set_option maxRecDepth 20000 in
theorem gX1_strike_X1_dropDebts : GoodIn wsX1_strike (wsV RX1 130 RX1 yX1_dropDebts wsX1_dropDebts) := goodIn_app (qag qto [2066, 2067, 2068, 78] rfl (by decide +kernel)) ggX1_strike_X1_dropDebts
set_option maxRecDepth 20000 in
theorem ggX1_endangered_X1_isCaught : GoodIn wsX1_endangered wsX1_isCaught := qaf qn7 (by decide +kernel) qoT
set_option maxRecDepth 20000 in
theorem gX1_endangered_X1_isCaught : GoodIn wsX1_endangered (wsV RX1 59 RX1 yX1_isCaught wsX1_isCaught) := goodIn_app (qag qn7 [1741, 1742, 1743, 78] rfl (by decide +kernel)) ggX1_endangered_X1_isCaught
set_option maxRecDepth 20000 in
theorem ggX1_endangered_X1_sits : GoodIn wsX1_endangered wsX1_sits := qaf qn7 (by decide +kernel) qD5
set_option maxRecDepth 20000 in
theorem gX1_endangered_X1_sits : GoodIn wsX1_endangered (wsV RX1 63 RX1 yX1_sits wsX1_sits) := goodIn_app (qag qn7 [1745, 1746, 1747, 78] rfl (by decide +kernel)) ggX1_endangered_X1_sits
set_option maxRecDepth 20000 in
theorem ggX1_endangered_X2_isSafe : GoodIn wsX1_endangered wsX2_isSafe := qaf qn7 (by decide +kernel) qab6
set_option maxRecDepth 20000 in
theorem gX1_endangered_X2_isSafe : GoodIn wsX1_endangered (wsV RX1 133 RX2 yX2_isSafe wsX2_isSafe) := goodIn_app (qag qn7 [2062, 2063, 2064, 19] rfl (by decide +kernel)) ggX1_endangered_X2_isSafe
set_option maxRecDepth 20000 in
theorem ggX1_endangered_X1_still : GoodIn wsX1_endangered wsX1_still := qaf qn7 (by decide +kernel) qajX
set_option maxRecDepth 20000 in
theorem gX1_endangered_X1_still : GoodIn wsX1_endangered (wsV RX1 77 RX1 yX1_still wsX1_still) := goodIn_app (qag qn7 [1812, 1813, 1814, 78] rfl (by decide +kernel)) ggX1_endangered_X1_still
set_option maxRecDepth 20000 in
theorem ggX1_drawDays_X1_nextSeed : GoodIn wsX1_drawDays wsX1_nextSeed := qaf qnB (by decide +kernel) qaQ2
set_option maxRecDepth 20000 in
theorem gX1_drawDays_X1_nextSeed : GoodIn wsX1_drawDays (va_wsS RX1 139 yX1_nextSeed wsX1_nextSeed) := goodIn_app (qag qnB [4038, 4039, 78] rfl (by decide +kernel)) ggX1_drawDays_X1_nextSeed
set_option maxRecDepth 20000 in
theorem ggX1_drawDays_X1_drawnBits : GoodIn wsX1_drawDays wsX1_drawnBits := qaf qnB (by decide +kernel) qaHX
set_option maxRecDepth 20000 in
theorem gX1_drawDays_X1_drawnBits : GoodIn wsX1_drawDays (va_wsS RX1 142 yX1_drawnBits wsX1_drawnBits) := goodIn_app (qag qnB [4042, 4043, 78] rfl (by decide +kernel)) ggX1_drawDays_X1_drawnBits
set_option maxRecDepth 20000 in
theorem ggX1_drawDays_X1_leapIfAllowed : GoodIn wsX1_drawDays wsX1_leapIfAllowed := qaf qnB (by decide +kernel) qac5
set_option maxRecDepth 20000 in
theorem gX1_drawDays_X1_leapIfAllowed : GoodIn wsX1_drawDays (wsV RX1 145 RX1 yX1_leapIfAllowed wsX1_leapIfAllowed) := goodIn_app (qag qnB [4045, 4046, 4047, 78] rfl (by decide +kernel)) ggX1_drawDays_X1_leapIfAllowed
set_option maxRecDepth 20000 in
theorem ggX1_drawDays_X1_fightIfAllowed : GoodIn wsX1_drawDays wsX1_fightIfAllowed := qaf qnB (by decide +kernel) q9H
set_option maxRecDepth 20000 in
theorem gX1_drawDays_X1_fightIfAllowed : GoodIn wsX1_drawDays (wsV RX1 148 RX1 yX1_fightIfAllowed wsX1_fightIfAllowed) := goodIn_app (qag qnB [4051, 4052, 4053, 78] rfl (by decide +kernel)) ggX1_drawDays_X1_fightIfAllowed
set_option maxRecDepth 20000 in
theorem ggX1_drawDays_X1_passDay : GoodIn wsX1_drawDays wsX1_passDay := qaf qnB (by decide +kernel) q3D
set_option maxRecDepth 20000 in
theorem gX1_drawDays_X1_passDay : GoodIn wsX1_drawDays (wsV RX1 152 RX1 yX1_passDay wsX1_passDay) := goodIn_app (qag qnB [4097, 2049, 2050, 78] rfl (by decide +kernel)) ggX1_drawDays_X1_passDay
set_option maxRecDepth 20000 in
theorem ggX1_leapIfAllowed_X1_couldLeap : GoodIn wsX1_leapIfAllowed wsX1_couldLeap := qaf qBo (by decide +kernel) qT4
set_option maxRecDepth 20000 in
theorem gX1_leapIfAllowed_X1_couldLeap : GoodIn wsX1_leapIfAllowed (wsV RX1 155 RX1 yX1_couldLeap wsX1_couldLeap) := goodIn_app (qag qBo [4049, 1738, 1739, 78] rfl (by decide +kernel)) ggX1_leapIfAllowed_X1_couldLeap
set_option maxRecDepth 20000 in
theorem ggX1_leapIfAllowed_X1_leapTo : GoodIn wsX1_leapIfAllowed wsX1_leapTo := qaf qBo (by decide +kernel) qaCQ
set_option maxRecDepth 20000 in
theorem gX1_leapIfAllowed_X1_leapTo : GoodIn wsX1_leapIfAllowed (wsV RX1 158 RX1 yX1_leapTo wsX1_leapTo) := goodIn_app (qag qBo [4050, 1992, 1993, 78] rfl (by decide +kernel)) ggX1_leapIfAllowed_X1_leapTo
set_option maxRecDepth 20000 in
theorem ggX1_fightIfAllowed_X1_couldFight : GoodIn wsX1_fightIfAllowed wsX1_couldFight := qaf qzG (by decide +kernel) q22
set_option maxRecDepth 20000 in
theorem gX1_fightIfAllowed_X1_couldFight : GoodIn wsX1_fightIfAllowed (wsV RX1 161 RX1 yX1_couldFight wsX1_couldFight) := goodIn_app (qag qzG [4055, 1936, 1937, 78] rfl (by decide +kernel)) ggX1_fightIfAllowed_X1_couldFight
set_option maxRecDepth 20000 in
theorem ggX1_fightIfAllowed_X1_fight : GoodIn wsX1_fightIfAllowed wsX1_fight := qaf qzG (by decide +kernel) qaLl
set_option maxRecDepth 20000 in
theorem gX1_fightIfAllowed_X1_fight : GoodIn wsX1_fightIfAllowed (wsV RX1 164 RX1 yX1_fight wsX1_fight) := goodIn_app (qag qzG [4096, 2000, 2001, 78] rfl (by decide +kernel)) ggX1_fightIfAllowed_X1_fight
set_option maxRecDepth 20000 in
theorem ggX1_cloverFor_X10_holds : GoodIn wsX1_cloverFor wsX10_holds := qaf qjq (by decide +kernel) qqZ
set_option maxRecDepth 20000 in
theorem gX1_cloverFor_X10_holds_n120 : GoodIn wsX1_cloverFor (wsX10_holds) := ggX1_cloverFor_X10_holds
set_option maxRecDepth 20000 in
theorem ggX1_cloverFor_X1_owed : GoodIn wsX1_cloverFor wsX1_owed := qaf qjq (by decide +kernel) qaDx
set_option maxRecDepth 20000 in
theorem gX1_cloverFor_X1_owed : GoodIn wsX1_cloverFor (wsV RX1 80 RX1 yX1_owed wsX1_owed) := goodIn_app (qag qjq [1864, 1865, 1866, 78] rfl (by decide +kernel)) ggX1_cloverFor_X1_owed
set_option maxRecDepth 20000 in
theorem ggX1_cloverFor_X1_givenBy : GoodIn wsX1_cloverFor wsX1_givenBy := qaf qjq (by decide +kernel) qaTc
set_option maxRecDepth 20000 in
theorem gX1_cloverFor_X1_givenBy : GoodIn wsX1_cloverFor (wsV RX1 168 RX1 yX1_givenBy wsX1_givenBy) := goodIn_app (qag qjq [3849, 3850, 3851, 78] rfl (by decide +kernel)) ggX1_cloverFor_X1_givenBy
set_option maxRecDepth 20000 in
theorem ggX2_readFrom_X8_isFaulty : GoodIn wsX2_readFrom wsX8_isFaulty := qaf qpM (by decide +kernel) qoK
set_option maxRecDepth 20000 in
theorem gX2_readFrom_X8_isFaulty : GoodIn wsX2_readFrom (wsV RX2 46 RX8 yX8_isFaulty wsX8_isFaulty) := goodIn_app (qag qpM [723, 724, 725, 15] rfl (by decide +kernel)) ggX2_readFrom_X8_isFaulty
set_option maxRecDepth 20000 in
theorem ggX2_readFrom_X8_isEnded : GoodIn wsX2_readFrom wsX8_isEnded := qaf qpM (by decide +kernel) qR4
set_option maxRecDepth 20000 in
theorem gX2_readFrom_X8_isEnded : GoodIn wsX2_readFrom (wsV RX2 52 RX8 yX8_isEnded wsX8_isEnded) := goodIn_app (qag qpM [727, 768, 769, 15] rfl (by decide +kernel)) ggX2_readFrom_X8_isEnded
set_option maxRecDepth 20000 in
theorem ggX2_readFrom_X2_readClause : GoodIn wsX2_readFrom wsX2_readClause := qaf qpM (by decide +kernel) qaxK
set_option maxRecDepth 20000 in
theorem gX2_readFrom_X2_readClause : GoodIn wsX2_readFrom (wsV RX2 55 RX2 yX2_readClause wsX2_readClause) := goodIn_app (qag qpM [775, 776, 777, 19] rfl (by decide +kernel)) ggX2_readFrom_X2_readClause
set_option maxRecDepth 20000 in
theorem ggX2_readFrom_X2_findSafe : GoodIn wsX2_readFrom wsX2_findSafe := qaf qpM (by decide +kernel) qaRd
set_option maxRecDepth 20000 in
theorem gX2_readFrom_X2_findSafe : GoodIn wsX2_readFrom (wsV RX2 59 RX2 yX2_findSafe wsX2_findSafe) := goodIn_app (qag qpM [1043, 1044, 1045, 19] rfl (by decide +kernel)) ggX2_readFrom_X2_findSafe
set_option maxRecDepth 20000 in
theorem ggX2_readClause_X8_takesWord : GoodIn wsX2_readClause wsX8_takesWord := qaf qnS (by decide +kernel) qKX
set_option maxRecDepth 20000 in
theorem gX2_readClause_X8_takesWord : GoodIn wsX2_readClause (wsV RX2 64 RX8 yX8_takesWord wsX8_takesWord) := goodIn_app (qag qnS [779, 780, 781, 15] rfl (by decide +kernel)) ggX2_readClause_X8_takesWord
set_option maxRecDepth 20000 in
theorem ggX2_readClause_X2_readForm : GoodIn wsX2_readClause wsX2_readForm := qaf qnS (by decide +kernel) qaRw
set_option maxRecDepth 20000 in
theorem gX2_readClause_X2_readForm : GoodIn wsX2_readClause (wsV RX2 68 RX2 yX2_readForm wsX2_readForm) := goodIn_app (qag qnS [917, 918, 919, 19] rfl (by decide +kernel)) ggX2_readClause_X2_readForm
set_option maxRecDepth 20000 in
theorem ggX2_readClause_X2_readHare : GoodIn wsX2_readClause wsX2_readHare := qaf qnS (by decide +kernel) qaQd
set_option maxRecDepth 20000 in
theorem gX2_readClause_X2_readHare : GoodIn wsX2_readClause (wsV RX2 73 RX2 yX2_readHare wsX2_readHare) := goodIn_app (qag qnS [1030, 1031, 1032, 19] rfl (by decide +kernel)) ggX2_readClause_X2_readHare
set_option maxRecDepth 20000 in
theorem ggX2_readClause_X2_readFox : GoodIn wsX2_readClause wsX2_readFox := qaf qnS (by decide +kernel) qaV0
set_option maxRecDepth 20000 in
theorem gX2_readClause_X2_readFox : GoodIn wsX2_readClause (wsV RX2 78 RX2 yX2_readFox wsX2_readFox) := goodIn_app (qag qnS [1034, 1035, 1036, 19] rfl (by decide +kernel)) ggX2_readClause_X2_readFox
set_option maxRecDepth 20000 in
theorem ggX2_readClause_X2_readDebt : GoodIn wsX2_readClause wsX2_readDebt := qaf qnS (by decide +kernel) qaNk
set_option maxRecDepth 20000 in
theorem gX2_readClause_X2_readDebt : GoodIn wsX2_readClause (wsV RX2 83 RX2 yX2_readDebt wsX2_readDebt) := goodIn_app (qag qnS [1038, 1039, 1040, 19] rfl (by decide +kernel)) ggX2_readClause_X2_readDebt
set_option maxRecDepth 20000 in
theorem ggX2_readClause_X8_blameSign : GoodIn wsX2_readClause wsX8_blameSign := qaf qnS (by decide +kernel) qEj
set_option maxRecDepth 20000 in
theorem gX2_readClause_X8_blameSign : GoodIn wsX2_readClause (wsV RX2 86 RX8 yX8_blameSign wsX8_blameSign) := goodIn_app (qag qnS [1042, 1027, 1028, 15] rfl (by decide +kernel)) ggX2_readClause_X8_blameSign
set_option maxRecDepth 20000 in
theorem ggX2_readForm_X8_blameToken : GoodIn wsX2_readForm wsX8_blameToken := qaf qtR (by decide +kernel) qub
set_option maxRecDepth 20000 in
theorem gX2_readForm_X8_blameToken : GoodIn wsX2_readForm (wsV RX2 89 RX8 yX8_blameToken wsX8_blameToken) := goodIn_app (qag qtR [961, 962, 963, 15] rfl (by decide +kernel)) ggX2_readForm_X8_blameToken
set_option maxRecDepth 20000 in
theorem ggX2_readForm_X8_number : GoodIn wsX2_readForm wsX8_number := qaf qtR (by decide +kernel) qB5
set_option maxRecDepth 20000 in
theorem gX2_readForm_X8_number : GoodIn wsX2_readForm (wsV RX2 93 RX8 yX8_number wsX8_number) := goodIn_app (qag qtR [969, 970, 971, 15] rfl (by decide +kernel)) ggX2_readForm_X8_number
set_option maxRecDepth 20000 in
theorem ggX2_readForm_X8_needs : GoodIn wsX2_readForm wsX8_needs := qaf qtR (by decide +kernel) qAx
set_option maxRecDepth 20000 in
theorem gX2_readForm_X8_needs : GoodIn wsX2_readForm (wsV RX2 97 RX8 yX8_needs wsX8_needs) := goodIn_app (qag qtR [978, 979, 980, 15] rfl (by decide +kernel)) ggX2_readForm_X8_needs
set_option maxRecDepth 20000 in
theorem ggX2_readHare_X8_blameToken : GoodIn wsX2_readHare wsX8_blameToken := qaf qrT (by decide +kernel) qub
set_option maxRecDepth 20000 in
theorem gX2_readHare_X8_blameToken : GoodIn wsX2_readHare (wsV RX2 89 RX8 yX8_blameToken wsX8_blameToken) := goodIn_app (qag qrT [961, 962, 963, 15] rfl (by decide +kernel)) ggX2_readHare_X8_blameToken
set_option maxRecDepth 20000 in
theorem ggX2_readHare_X8_number : GoodIn wsX2_readHare wsX8_number := qaf qrT (by decide +kernel) qB5
set_option maxRecDepth 20000 in
theorem gX2_readHare_X8_number : GoodIn wsX2_readHare (wsV RX2 93 RX8 yX8_number wsX8_number) := goodIn_app (qag qrT [969, 970, 971, 15] rfl (by decide +kernel)) ggX2_readHare_X8_number
set_option maxRecDepth 20000 in
theorem ggX2_readHare_X8_needs : GoodIn wsX2_readHare wsX8_needs := qaf qrT (by decide +kernel) qAx
set_option maxRecDepth 20000 in
theorem gX2_readHare_X8_needs : GoodIn wsX2_readHare (wsV RX2 97 RX8 yX8_needs wsX8_needs) := goodIn_app (qag qrT [978, 979, 980, 15] rfl (by decide +kernel)) ggX2_readHare_X8_needs
set_option maxRecDepth 20000 in
theorem ggX2_readFox_X8_blameToken : GoodIn wsX2_readFox wsX8_blameToken := qaf qvo (by decide +kernel) qub
set_option maxRecDepth 20000 in
theorem gX2_readFox_X8_blameToken : GoodIn wsX2_readFox (wsV RX2 89 RX8 yX8_blameToken wsX8_blameToken) := goodIn_app (qag qvo [961, 962, 963, 15] rfl (by decide +kernel)) ggX2_readFox_X8_blameToken
set_option maxRecDepth 20000 in
theorem ggX2_readFox_X8_number : GoodIn wsX2_readFox wsX8_number := qaf qvo (by decide +kernel) qB5
set_option maxRecDepth 20000 in
theorem gX2_readFox_X8_number : GoodIn wsX2_readFox (wsV RX2 93 RX8 yX8_number wsX8_number) := goodIn_app (qag qvo [969, 970, 971, 15] rfl (by decide +kernel)) ggX2_readFox_X8_number
set_option maxRecDepth 20000 in
theorem ggX2_readFox_X8_needs : GoodIn wsX2_readFox wsX8_needs := qaf qvo (by decide +kernel) qAx
set_option maxRecDepth 20000 in
theorem gX2_readFox_X8_needs : GoodIn wsX2_readFox (wsV RX2 97 RX8 yX8_needs wsX8_needs) := goodIn_app (qag qvo [978, 979, 980, 15] rfl (by decide +kernel)) ggX2_readFox_X8_needs
set_option maxRecDepth 20000 in
theorem ggX2_readDebt_X8_blameToken : GoodIn wsX2_readDebt wsX8_blameToken := qaf qsb (by decide +kernel) qub
set_option maxRecDepth 20000 in
theorem gX2_readDebt_X8_blameToken : GoodIn wsX2_readDebt (wsV RX2 89 RX8 yX8_blameToken wsX8_blameToken) := goodIn_app (qag qsb [961, 962, 963, 15] rfl (by decide +kernel)) ggX2_readDebt_X8_blameToken
set_option maxRecDepth 20000 in
theorem ggX2_readDebt_X8_number : GoodIn wsX2_readDebt wsX8_number := qaf qsb (by decide +kernel) qB5
set_option maxRecDepth 20000 in
theorem gX2_readDebt_X8_number : GoodIn wsX2_readDebt (wsV RX2 93 RX8 yX8_number wsX8_number) := goodIn_app (qag qsb [969, 970, 971, 15] rfl (by decide +kernel)) ggX2_readDebt_X8_number
set_option maxRecDepth 20000 in
theorem ggX2_readDebt_X8_needs : GoodIn wsX2_readDebt wsX8_needs := qaf qsb (by decide +kernel) qAx
set_option maxRecDepth 20000 in
theorem gX2_readDebt_X8_needs : GoodIn wsX2_readDebt (wsV RX2 97 RX8 yX8_needs wsX8_needs) := goodIn_app (qag qsb [978, 979, 980, 15] rfl (by decide +kernel)) ggX2_readDebt_X8_needs
set_option maxRecDepth 20000 in
theorem ggX2_readDebt_X8_isFaulty : GoodIn wsX2_readDebt wsX8_isFaulty := qaf qsb (by decide +kernel) qoK
set_option maxRecDepth 20000 in
theorem gX2_readDebt_X8_isFaulty : GoodIn wsX2_readDebt (wsV RX2 46 RX8 yX8_isFaulty wsX8_isFaulty) := goodIn_app (qag qsb [723, 724, 725, 15] rfl (by decide +kernel)) ggX2_readDebt_X8_isFaulty
set_option maxRecDepth 20000 in
theorem ggX2_findSafe_X2_foxIsNear : GoodIn wsX2_findSafe wsX2_foxIsNear := qaf qGJ (by decide +kernel) qaE1
set_option maxRecDepth 20000 in
theorem gX2_findSafe_X2_foxIsNear : GoodIn wsX2_findSafe (wsV RX2 104 RX2 yX2_foxIsNear wsX2_foxIsNear) := goodIn_app (qag qGJ [1088, 1089, 1090, 19] rfl (by decide +kernel)) ggX2_findSafe_X2_foxIsNear
set_option maxRecDepth 20000 in
theorem ggX2_isSafe_X10_holds : GoodIn wsX2_isSafe wsX10_holds := qaf qQu (by decide +kernel) qqZ
set_option maxRecDepth 20000 in
theorem gX2_isSafe_X10_holds_n114 : GoodIn wsX2_isSafe (wsX10_holds) := ggX2_isSafe_X10_holds
set_option maxRecDepth 20000 in
theorem ggX2_formsWithin_X2_apart : GoodIn wsX2_formsWithin wsX2_apart := qaf qEs (by decide +kernel) qOB
set_option maxRecDepth 20000 in
theorem gX2_formsWithin_X2_apart : GoodIn wsX2_formsWithin (wsV RX2 118 RX2 yX2_apart wsX2_apart) := goodIn_app (qag qEs [3025, 1750, 1751, 19] rfl (by decide +kernel)) ggX2_formsWithin_X2_apart
set_option maxRecDepth 20000 in
theorem ggX2_hopsBetween_X10_holds : GoodIn wsX2_hopsBetween wsX10_holds := qaf quz (by decide +kernel) qqZ
set_option maxRecDepth 20000 in
theorem gX2_hopsBetween_X10_holds_n114 : GoodIn wsX2_hopsBetween (wsX10_holds) := ggX2_hopsBetween_X10_holds
set_option maxRecDepth 20000 in
theorem ggX2_hopsBetween_X2_formsWithin : GoodIn wsX2_hopsBetween wsX2_formsWithin := qaf quz (by decide +kernel) qMu
set_option maxRecDepth 20000 in
theorem gX2_hopsBetween_X2_formsWithin : GoodIn wsX2_hopsBetween (wsV RX2 121 RX2 yX2_formsWithin wsX2_formsWithin) := goodIn_app (qag quz [3021, 3022, 3023, 19] rfl (by decide +kernel)) ggX2_hopsBetween_X2_formsWithin
set_option maxRecDepth 20000 in
theorem ggX2_watchers_X2_formsWithin : GoodIn wsX2_watchers wsX2_formsWithin := qaf qu5 (by decide +kernel) qMu
set_option maxRecDepth 20000 in
theorem gX2_watchers_X2_formsWithin : GoodIn wsX2_watchers (wsV RX2 121 RX2 yX2_formsWithin wsX2_formsWithin) := goodIn_app (qag qu5 [3021, 3022, 3023, 19] rfl (by decide +kernel)) ggX2_watchers_X2_formsWithin
set_option maxRecDepth 20000 in
theorem ggX2_watchers_J6_bitCount_0f7a4 : GoodIn wsX2_watchers wsJ6_bitCount_0f7a4 := qaf qu5 (by decide +kernel) qFG
set_option maxRecDepth 20000 in
theorem gX2_watchers_J6_bitCount_0f7a4 : GoodIn wsX2_watchers (va_wsS RX2 124 yJ6_bitCount_0f7a4 wsJ6_bitCount_0f7a4) := goodIn_app (qag qu5 [3670, 1802, 1803] rfl (by decide +kernel)) ggX2_watchers_J6_bitCount_0f7a4
set_option maxRecDepth 20000 in
theorem ggX2_watchers_X2_seenFrom : GoodIn wsX2_watchers wsX2_seenFrom := qaf qu5 (by decide +kernel) qaQU
set_option maxRecDepth 20000 in
theorem gX2_watchers_X2_seenFrom : GoodIn wsX2_watchers (wsV RX2 129 RX2 yX2_seenFrom wsX2_seenFrom) := goodIn_app (qag qu5 [3671, 3712, 3713, 19] rfl (by decide +kernel)) ggX2_watchers_X2_seenFrom
set_option maxRecDepth 20000 in
theorem ggX2_seenFrom_X10_holds : GoodIn wsX2_seenFrom wsX10_holds := qaf qC3 (by decide +kernel) qqZ
set_option maxRecDepth 20000 in
theorem gX2_seenFrom_X10_holds_n114 : GoodIn wsX2_seenFrom (wsX10_holds) := ggX2_seenFrom_X10_holds
set_option maxRecDepth 20000 in
theorem ggX3_settle_X1_seatedIn : GoodIn wsX3_settle wsX1_seatedIn := qaf qh3 (by decide +kernel) qWu
set_option maxRecDepth 20000 in
theorem gX3_settle_X1_seatedIn : GoodIn wsX3_settle (wsV RX3 51 RX1 yX1_seatedIn wsX1_seatedIn) := goodIn_app (qag qh3 [3474, 1798, 1799, 78] rfl (by decide +kernel)) ggX3_settle_X1_seatedIn
set_option maxRecDepth 20000 in
theorem ggX3_settle_J6_bitCount_0f7a4 : GoodIn wsX3_settle wsJ6_bitCount_0f7a4 := qaf qh3 (by decide +kernel) qFG
set_option maxRecDepth 20000 in
theorem gX3_settle_J6_bitCount_0f7a4 : GoodIn wsX3_settle (va_wsS RX3 55 yJ6_bitCount_0f7a4 wsJ6_bitCount_0f7a4) := goodIn_app (qag qh3 [3475, 1802, 1803] rfl (by decide +kernel)) ggX3_settle_J6_bitCount_0f7a4
set_option maxRecDepth 20000 in
theorem ggX3_settle_X1_sits : GoodIn wsX3_settle wsX1_sits := qaf qh3 (by decide +kernel) qD5
set_option maxRecDepth 20000 in
theorem gX3_settle_X1_sits : GoodIn wsX3_settle (wsV RX3 60 RX1 yX1_sits wsX1_sits) := goodIn_app (qag qh3 [3476, 1746, 1747, 78] rfl (by decide +kernel)) ggX3_settle_X1_sits
set_option maxRecDepth 20000 in
theorem ggX3_settle_X1_isCaught : GoodIn wsX3_settle wsX1_isCaught := qaf qh3 (by decide +kernel) qoT
set_option maxRecDepth 20000 in
theorem gX3_settle_X1_isCaught : GoodIn wsX3_settle (wsV RX3 62 RX1 yX1_isCaught wsX1_isCaught) := goodIn_app (qag qh3 [3477, 1742, 1743, 78] rfl (by decide +kernel)) ggX3_settle_X1_isCaught
set_option maxRecDepth 20000 in
theorem ggX3_settle_X3_formsFor : GoodIn wsX3_settle wsX3_formsFor := qaf qh3 (by decide +kernel) qaNZ
set_option maxRecDepth 20000 in
theorem gX3_settle_X3_formsFor : GoodIn wsX3_settle (wsV RX3 66 RX3 yX3_formsFor wsX3_formsFor) := goodIn_app (qag qh3 [3478, 3479, 3520, 136] rfl (by decide +kernel)) ggX3_settle_X3_formsFor
set_option maxRecDepth 20000 in
theorem ggX3_formsFor_X3_allRight : GoodIn wsX3_formsFor wsX3_allRight := qaf qCQ (by decide +kernel) qaMn
set_option maxRecDepth 20000 in
theorem gX3_formsFor_X3_allRight : GoodIn wsX3_formsFor (wsV RX3 69 RX3 yX3_allRight wsX3_allRight) := goodIn_app (qag qCQ [3522, 3523, 3524, 136] rfl (by decide +kernel)) ggX3_formsFor_X3_allRight
set_option maxRecDepth 20000 in
theorem ggX3_allRight_X3_seatedThen : GoodIn wsX3_allRight wsX3_seatedThen := qaf qzh (by decide +kernel) q1T
set_option maxRecDepth 20000 in
theorem gX3_allRight_X3_seatedThen : GoodIn wsX3_allRight (wsV RX3 73 RX3 yX3_seatedThen wsX3_seatedThen) := goodIn_app (qag qzh [3526, 3527, 3528, 136] rfl (by decide +kernel)) ggX3_allRight_X3_seatedThen
set_option maxRecDepth 20000 in
theorem ggX3_allRight_X0_agrees : GoodIn wsX3_allRight wsX0_agrees := qaf qzh (by decide +kernel) qaYC
set_option maxRecDepth 20000 in
theorem gX3_allRight_X0_agrees : GoodIn wsX3_allRight (wsV RX3 77 RX0 yX0_agrees wsX0_agrees) := goodIn_app (qag qzh [3530, 3531, 3532, 69] rfl (by decide +kernel)) ggX3_allRight_X0_agrees
set_option maxRecDepth 20000 in
theorem ggX3_lookAhead_X0_tells : GoodIn wsX3_lookAhead wsX0_tells := qaf qtA (by decide +kernel) qaK8
set_option maxRecDepth 20000 in
theorem gX3_lookAhead_X0_tells : GoodIn wsX3_lookAhead (wsV RX3 88 RX0 yX0_tells wsX0_tells) := goodIn_app (qag qtA [3601, 2439, 2440, 69] rfl (by decide +kernel)) ggX3_lookAhead_X0_tells
set_option maxRecDepth 20000 in
theorem ggX3_lookAhead_X3_worstAt : GoodIn wsX3_lookAhead wsX3_worstAt := qaf qtA (by decide +kernel) qaUJ
set_option maxRecDepth 20000 in
theorem gX3_lookAhead_X3_worstAt : GoodIn wsX3_lookAhead (wsV RX3 91 RX3 yX3_worstAt wsX3_worstAt) := goodIn_app (qag qtA [3602, 3603, 3604, 136] rfl (by decide +kernel)) ggX3_lookAhead_X3_worstAt
set_option maxRecDepth 20000 in
theorem ggX3_worstAt_X10_holds : GoodIn wsX3_worstAt wsX10_holds := qaf qot (by decide +kernel) qqZ
set_option maxRecDepth 20000 in
theorem gX3_worstAt_X10_holds_n94 : GoodIn wsX3_worstAt (wsX10_holds) := ggX3_worstAt_X10_holds
set_option maxRecDepth 20000 in
theorem ggX3_worstAt_X3_seatedThen : GoodIn wsX3_worstAt wsX3_seatedThen := qaf qot (by decide +kernel) q1T
set_option maxRecDepth 20000 in
theorem gX3_worstAt_X3_seatedThen : GoodIn wsX3_worstAt (wsV RX3 73 RX3 yX3_seatedThen wsX3_seatedThen) := goodIn_app (qag qot [3526, 3527, 3528, 136] rfl (by decide +kernel)) ggX3_worstAt_X3_seatedThen
set_option maxRecDepth 20000 in
theorem ggX3_worstAt_X3_tallied : GoodIn wsX3_worstAt wsX3_tallied := qaf qot (by decide +kernel) qaWa
set_option maxRecDepth 20000 in
theorem gX3_worstAt_X3_tallied : GoodIn wsX3_worstAt (wsV RX3 97 RX3 yX3_tallied wsX3_tallied) := goodIn_app (qag qot [3607, 3648, 3649, 136] rfl (by decide +kernel)) ggX3_worstAt_X3_tallied
set_option maxRecDepth 20000 in
theorem ggX3_tallied_X10_within : GoodIn wsX3_tallied wsX10_within := qaf qLH (by decide +kernel) qBI
set_option maxRecDepth 20000 in
theorem gX3_tallied_X10_within_n106 : GoodIn wsX3_tallied (wsX10_within) := ggX3_tallied_X10_within
set_option maxRecDepth 20000 in
theorem ggX4_init_X4_setPlain : GoodIn wsX4_init wsX4_setPlain := qaf qBQ (by decide +kernel) qah8
set_option maxRecDepth 20000 in
theorem gX4_init_X4_setPlain : GoodIn wsX4_init (wsV RX4 24 RX4 yX4_setPlain wsX4_setPlain) := goodIn_app (qag qBQ [204, 205, 206, 64] rfl (by decide +kernel)) ggX4_init_X4_setPlain
set_option maxRecDepth 20000 in
theorem ggX4_setPlain_X4_add : GoodIn wsX4_setPlain wsX4_add := qaf qNT (by decide +kernel) q5g
set_option maxRecDepth 20000 in
theorem gX4_setPlain_X4_add : GoodIn wsX4_setPlain (wsV RX4 31 RX4 yX4_add wsX4_add) := goodIn_app (qag qNT [209, 210, 211, 64] rfl (by decide +kernel)) ggX4_setPlain_X4_add
set_option maxRecDepth 20000 in
theorem ggX4_readFrom_X4_readSum : GoodIn wsX4_readFrom wsX4_readSum := qaf qCO (by decide +kernel) q3N
set_option maxRecDepth 20000 in
theorem gX4_readFrom_X4_readSum : GoodIn wsX4_readFrom (wsV RX4 35 RX4 yX4_readSum wsX4_readSum) := goodIn_app (qag qCO [1353, 1354, 1355, 64] rfl (by decide +kernel)) ggX4_readFrom_X4_readSum
set_option maxRecDepth 20000 in
theorem ggX4_readFrom_X8_needsEnd : GoodIn wsX4_readFrom wsX8_needsEnd := qaf qCO (by decide +kernel) qaNG
set_option maxRecDepth 20000 in
theorem gX4_readFrom_X8_needsEnd : GoodIn wsX4_readFrom (wsV RX4 39 RX8 yX8_needsEnd wsX8_needsEnd) := goodIn_app (qag qCO [1428, 1429, 1430, 15] rfl (by decide +kernel)) ggX4_readFrom_X8_needsEnd
set_option maxRecDepth 20000 in
theorem ggX4_readSum_X4_readProduct : GoodIn wsX4_readSum wsX4_readProduct := qaf qy8 (by decide +kernel) qaum
set_option maxRecDepth 20000 in
theorem gX4_readSum_X4_readProduct : GoodIn wsX4_readSum (wsV RX4 44 RX4 yX4_readProduct wsX4_readProduct) := goodIn_app (qag qy8 [1357, 1358, 1359, 64] rfl (by decide +kernel)) ggX4_readSum_X4_readProduct
set_option maxRecDepth 20000 in
theorem ggX4_readSum_X8_isFaulty : GoodIn wsX4_readSum wsX8_isFaulty := qaf qy8 (by decide +kernel) qoK
set_option maxRecDepth 20000 in
theorem gX4_readSum_X8_isFaulty : GoodIn wsX4_readSum (wsV RX4 47 RX8 yX8_isFaulty wsX8_isFaulty) := goodIn_app (qag qy8 [1360, 724, 725, 15] rfl (by decide +kernel)) ggX4_readSum_X8_isFaulty
set_option maxRecDepth 20000 in
theorem ggX4_readSum_X8_takes : GoodIn wsX4_readSum wsX8_takes := qaf qy8 (by decide +kernel) qVq
set_option maxRecDepth 20000 in
theorem gX4_readSum_X8_takes : GoodIn wsX4_readSum (wsV RX4 51 RX8 yX8_takes wsX8_takes) := goodIn_app (qag qy8 [1361, 983, 1024, 15] rfl (by decide +kernel)) ggX4_readSum_X8_takes
set_option maxRecDepth 20000 in
theorem ggX4_readSum_X4_add : GoodIn wsX4_readSum wsX4_add := qaf qy8 (by decide +kernel) q5g
set_option maxRecDepth 20000 in
theorem gX4_readSum_X4_add : GoodIn wsX4_readSum (wsV RX4 31 RX4 yX4_add wsX4_add) := goodIn_app (qag qy8 [209, 210, 211, 64] rfl (by decide +kernel)) ggX4_readSum_X4_add
set_option maxRecDepth 20000 in
theorem ggX4_readProduct_X4_readUnit : GoodIn wsX4_readProduct wsX4_readUnit := qaf qss (by decide +kernel) qaSv
set_option maxRecDepth 20000 in
theorem gX4_readProduct_X4_readUnit : GoodIn wsX4_readProduct (wsV RX4 55 RX4 yX4_readUnit wsX4_readUnit) := goodIn_app (qag qss [1367, 1408, 1409, 64] rfl (by decide +kernel)) ggX4_readProduct_X4_readUnit
set_option maxRecDepth 20000 in
theorem ggX4_readProduct_X8_isFaulty : GoodIn wsX4_readProduct wsX8_isFaulty := qaf qss (by decide +kernel) qoK
set_option maxRecDepth 20000 in
theorem gX4_readProduct_X8_isFaulty : GoodIn wsX4_readProduct (wsV RX4 47 RX8 yX8_isFaulty wsX8_isFaulty) := goodIn_app (qag qss [1360, 724, 725, 15] rfl (by decide +kernel)) ggX4_readProduct_X8_isFaulty
set_option maxRecDepth 20000 in
theorem ggX4_readProduct_X8_takes : GoodIn wsX4_readProduct wsX8_takes := qaf qss (by decide +kernel) qVq
set_option maxRecDepth 20000 in
theorem gX4_readProduct_X8_takes : GoodIn wsX4_readProduct (wsV RX4 51 RX8 yX8_takes wsX8_takes) := goodIn_app (qag qss [1361, 983, 1024, 15] rfl (by decide +kernel)) ggX4_readProduct_X8_takes
set_option maxRecDepth 20000 in
theorem ggX4_readProduct_X4_add : GoodIn wsX4_readProduct wsX4_add := qaf qss (by decide +kernel) q5g
set_option maxRecDepth 20000 in
theorem gX4_readProduct_X4_add : GoodIn wsX4_readProduct (wsV RX4 31 RX4 yX4_add wsX4_add) := goodIn_app (qag qss [209, 210, 211, 64] rfl (by decide +kernel)) ggX4_readProduct_X4_add
set_option maxRecDepth 20000 in
theorem ggX4_readUnit_X8_seesDigit : GoodIn wsX4_readUnit wsX8_seesDigit := qaf qmN (by decide +kernel) qaHo
set_option maxRecDepth 20000 in
theorem gX4_readUnit_X8_seesDigit : GoodIn wsX4_readUnit (wsV RX4 58 RX8 yX8_seesDigit wsX8_seesDigit) := goodIn_app (qag qmN [1411, 1412, 1413, 15] rfl (by decide +kernel)) ggX4_readUnit_X8_seesDigit
set_option maxRecDepth 20000 in
theorem ggX4_readUnit_X8_number : GoodIn wsX4_readUnit wsX8_number := qaf qmN (by decide +kernel) qB5
set_option maxRecDepth 20000 in
theorem gX4_readUnit_X8_number : GoodIn wsX4_readUnit (wsV RX4 61 RX8 yX8_number wsX8_number) := goodIn_app (qag qmN [1415, 970, 971, 15] rfl (by decide +kernel)) ggX4_readUnit_X8_number
set_option maxRecDepth 20000 in
theorem ggX4_readUnit_X4_add : GoodIn wsX4_readUnit wsX4_add := qaf qmN (by decide +kernel) q5g
set_option maxRecDepth 20000 in
theorem gX4_readUnit_X4_add : GoodIn wsX4_readUnit (wsV RX4 31 RX4 yX4_add wsX4_add) := goodIn_app (qag qmN [209, 210, 211, 64] rfl (by decide +kernel)) ggX4_readUnit_X4_add
set_option maxRecDepth 20000 in
theorem ggX4_readUnit_X8_takes : GoodIn wsX4_readUnit wsX8_takes := qaf qmN (by decide +kernel) qVq
set_option maxRecDepth 20000 in
theorem gX4_readUnit_X8_takes : GoodIn wsX4_readUnit (wsV RX4 51 RX8 yX8_takes wsX8_takes) := goodIn_app (qag qmN [1361, 983, 1024, 15] rfl (by decide +kernel)) ggX4_readUnit_X8_takes
set_option maxRecDepth 20000 in
theorem ggX4_readUnit_X4_readInner : GoodIn wsX4_readUnit wsX4_readInner := qaf qmN (by decide +kernel) qaEu
set_option maxRecDepth 20000 in
theorem gX4_readUnit_X4_readInner : GoodIn wsX4_readUnit (wsV RX4 65 RX4 yX4_readInner wsX4_readInner) := goodIn_app (qag qmN [1416, 1417, 1418, 64] rfl (by decide +kernel)) ggX4_readUnit_X4_readInner
set_option maxRecDepth 20000 in
theorem ggX4_readUnit_X8_takesWord : GoodIn wsX4_readUnit wsX8_takesWord := qaf qmN (by decide +kernel) qKX
set_option maxRecDepth 20000 in
theorem gX4_readUnit_X8_takesWord : GoodIn wsX4_readUnit (wsV RX4 70 RX8 yX8_takesWord wsX8_takesWord) := goodIn_app (qag qmN [1419, 780, 781, 15] rfl (by decide +kernel)) ggX4_readUnit_X8_takesWord
set_option maxRecDepth 20000 in
theorem ggX4_readUnit_X4_readPair : GoodIn wsX4_readUnit wsX4_readPair := qaf qmN (by decide +kernel) qaOn
set_option maxRecDepth 20000 in
theorem gX4_readUnit_X4_readPair : GoodIn wsX4_readUnit (wsV RX4 74 RX4 yX4_readPair wsX4_readPair) := goodIn_app (qag qmN [1420, 1421, 1422, 64] rfl (by decide +kernel)) ggX4_readUnit_X4_readPair
set_option maxRecDepth 20000 in
theorem ggX4_readUnit_X4_readFact : GoodIn wsX4_readUnit wsX4_readFact := qaf qmN (by decide +kernel) qaOA
set_option maxRecDepth 20000 in
theorem gX4_readUnit_X4_readFact : GoodIn wsX4_readUnit (wsV RX4 80 RX4 yX4_readFact wsX4_readFact) := goodIn_app (qag qmN [1423, 1424, 1425, 64] rfl (by decide +kernel)) ggX4_readUnit_X4_readFact
set_option maxRecDepth 20000 in
theorem ggX4_readInner_X8_blameToken : GoodIn wsX4_readInner wsX8_blameToken := qaf qAB (by decide +kernel) qub
set_option maxRecDepth 20000 in
theorem gX4_readInner_X8_blameToken : GoodIn wsX4_readInner (wsV RX4 84 RX8 yX8_blameToken wsX8_blameToken) := goodIn_app (qag qAB [1363, 962, 963, 15] rfl (by decide +kernel)) ggX4_readInner_X8_blameToken
set_option maxRecDepth 20000 in
theorem ggX4_readInner_X4_readSum : GoodIn wsX4_readInner wsX4_readSum := qaf qAB (by decide +kernel) q3N
set_option maxRecDepth 20000 in
theorem gX4_readInner_X4_readSum : GoodIn wsX4_readInner (wsV RX4 35 RX4 yX4_readSum wsX4_readSum) := goodIn_app (qag qAB [1353, 1354, 1355, 64] rfl (by decide +kernel)) ggX4_readInner_X4_readSum
set_option maxRecDepth 20000 in
theorem ggX4_readInner_X8_needs : GoodIn wsX4_readInner wsX8_needs := qaf qAB (by decide +kernel) qAx
set_option maxRecDepth 20000 in
theorem gX4_readInner_X8_needs : GoodIn wsX4_readInner (wsV RX4 88 RX8 yX8_needs wsX8_needs) := goodIn_app (qag qAB [1364, 979, 980, 15] rfl (by decide +kernel)) ggX4_readInner_X8_needs
set_option maxRecDepth 20000 in
theorem ggX4_readPair_X8_blameToken : GoodIn wsX4_readPair wsX8_blameToken := qaf qxt (by decide +kernel) qub
set_option maxRecDepth 20000 in
theorem gX4_readPair_X8_blameToken : GoodIn wsX4_readPair (wsV RX4 84 RX8 yX8_blameToken wsX8_blameToken) := goodIn_app (qag qxt [1363, 962, 963, 15] rfl (by decide +kernel)) ggX4_readPair_X8_blameToken
set_option maxRecDepth 20000 in
theorem ggX4_readPair_X8_needs : GoodIn wsX4_readPair wsX8_needs := qaf qxt (by decide +kernel) qAx
set_option maxRecDepth 20000 in
theorem gX4_readPair_X8_needs : GoodIn wsX4_readPair (wsV RX4 88 RX8 yX8_needs wsX8_needs) := goodIn_app (qag qxt [1364, 979, 980, 15] rfl (by decide +kernel)) ggX4_readPair_X8_needs
set_option maxRecDepth 20000 in
theorem ggX4_readPair_X4_readSum : GoodIn wsX4_readPair wsX4_readSum := qaf qxt (by decide +kernel) q3N
set_option maxRecDepth 20000 in
theorem gX4_readPair_X4_readSum : GoodIn wsX4_readPair (wsV RX4 35 RX4 yX4_readSum wsX4_readSum) := goodIn_app (qag qxt [1353, 1354, 1355, 64] rfl (by decide +kernel)) ggX4_readPair_X4_readSum
set_option maxRecDepth 20000 in
theorem ggX4_readPair_X4_add : GoodIn wsX4_readPair wsX4_add := qaf qxt (by decide +kernel) q5g
set_option maxRecDepth 20000 in
theorem gX4_readPair_X4_add : GoodIn wsX4_readPair (wsV RX4 31 RX4 yX4_add wsX4_add) := goodIn_app (qag qxt [209, 210, 211, 64] rfl (by decide +kernel)) ggX4_readPair_X4_add
set_option maxRecDepth 20000 in
theorem ggX4_readFact_X8_takesWord : GoodIn wsX4_readFact wsX8_takesWord := qaf qDe (by decide +kernel) qKX
set_option maxRecDepth 20000 in
theorem gX4_readFact_X8_takesWord : GoodIn wsX4_readFact (wsV RX4 70 RX8 yX8_takesWord wsX8_takesWord) := goodIn_app (qag qDe [1419, 780, 781, 15] rfl (by decide +kernel)) ggX4_readFact_X8_takesWord
set_option maxRecDepth 20000 in
theorem ggX4_readFact_X4_add : GoodIn wsX4_readFact wsX4_add := qaf qDe (by decide +kernel) q5g
set_option maxRecDepth 20000 in
theorem gX4_readFact_X4_add : GoodIn wsX4_readFact (wsV RX4 31 RX4 yX4_add wsX4_add) := goodIn_app (qag qDe [209, 210, 211, 64] rfl (by decide +kernel)) ggX4_readFact_X4_add
set_option maxRecDepth 20000 in
theorem ggX4_readFact_X8_blameSign : GoodIn wsX4_readFact wsX8_blameSign := qaf qDe (by decide +kernel) qEj
set_option maxRecDepth 20000 in
theorem gX4_readFact_X8_blameSign : GoodIn wsX4_readFact (wsV RX4 108 RX8 yX8_blameSign wsX8_blameSign) := goodIn_app (qag qDe [1427, 1027, 1028, 15] rfl (by decide +kernel)) ggX4_readFact_X8_blameSign
set_option maxRecDepth 20000 in
theorem ggX4_reach_X4_joined : GoodIn wsX4_reach wsX4_joined := qaf qtp (by decide +kernel) qaZB
set_option maxRecDepth 20000 in
theorem gX4_reach_X4_joined : GoodIn wsX4_reach (va_wsS RX4 111 yX4_joined wsX4_joined) := goodIn_app (qag qtp [1932, 1933, 64] rfl (by decide +kernel)) ggX4_reach_X4_joined
set_option maxRecDepth 20000 in
theorem ggX6_settle_X6_settleFor : GoodIn wsX6_settle wsX6_settleFor := qaf qvV (by decide +kernel) qaHK
set_option maxRecDepth 20000 in
theorem gX6_settle_X6_settleFor : GoodIn wsX6_settle (wsV RX6 27 RX6 yX6_settleFor wsX6_settleFor) := goodIn_app (qag qvV [3266, 3267, 3268, 128] rfl (by decide +kernel)) ggX6_settle_X6_settleFor
set_option maxRecDepth 20000 in
theorem ggX6_settle_X6_leastWay : GoodIn wsX6_settle wsX6_leastWay := qaf qvV (by decide +kernel) qadD
set_option maxRecDepth 20000 in
theorem gX6_settle_X6_leastWay : GoodIn wsX6_settle (wsV RX6 31 RX6 yX6_leastWay wsX6_leastWay) := goodIn_app (qag qvV [3270, 3271, 3272, 128] rfl (by decide +kernel)) ggX6_settle_X6_leastWay
set_option maxRecDepth 20000 in
theorem ggX6_settle_X6_walk : GoodIn wsX6_settle wsX6_walk := qaf qvV (by decide +kernel) qbao
set_option maxRecDepth 20000 in
theorem gX6_settle_X6_walk : GoodIn wsX6_settle (wsV RX6 35 RX6 yX6_walk wsX6_walk) := goodIn_app (qag qvV [3281, 3282, 3283, 128] rfl (by decide +kernel)) ggX6_settle_X6_walk
set_option maxRecDepth 20000 in
theorem ggX6_settleFor_X10_holds : GoodIn wsX6_settleFor wsX10_holds := qaf qtw (by decide +kernel) qqZ
set_option maxRecDepth 20000 in
theorem gX6_settleFor_X10_holds_n38 : GoodIn wsX6_settleFor (wsX10_holds) := ggX6_settleFor_X10_holds
set_option maxRecDepth 20000 in
theorem ggX6_settleFor_X6_leastWay : GoodIn wsX6_settleFor wsX6_leastWay := qaf qtw (by decide +kernel) qadD
set_option maxRecDepth 20000 in
theorem gX6_settleFor_X6_leastWay : GoodIn wsX6_settleFor (wsV RX6 31 RX6 yX6_leastWay wsX6_leastWay) := goodIn_app (qag qtw [3270, 3271, 3272, 128] rfl (by decide +kernel)) ggX6_settleFor_X6_leastWay
set_option maxRecDepth 20000 in
theorem ggX6_leastWay_X2_apart : GoodIn wsX6_leastWay wsX2_apart := qaf qoS (by decide +kernel) qOB
set_option maxRecDepth 20000 in
theorem gX6_leastWay_X2_apart : GoodIn wsX6_leastWay (wsV RX6 42 RX2 yX2_apart wsX2_apart) := goodIn_app (qag qoS [3276, 1750, 1751, 19] rfl (by decide +kernel)) ggX6_leastWay_X2_apart
set_option maxRecDepth 20000 in
theorem ggX6_leastWay_X10_holds : GoodIn wsX6_leastWay wsX10_holds := qaf qoS (by decide +kernel) qqZ
set_option maxRecDepth 20000 in
theorem gX6_leastWay_X10_holds_n38 : GoodIn wsX6_leastWay (wsX10_holds) := ggX6_leastWay_X10_holds
set_option maxRecDepth 20000 in
theorem ggX6_leastWay_X6_wayOver : GoodIn wsX6_leastWay wsX6_wayOver := qaf qoS (by decide +kernel) qanX
set_option maxRecDepth 20000 in
theorem gX6_leastWay_X6_wayOver : GoodIn wsX6_leastWay (wsV RX6 49 RX6 yX6_wayOver wsX6_wayOver) := goodIn_app (qag qoS [3277, 3278, 3279, 128] rfl (by decide +kernel)) ggX6_leastWay_X6_wayOver
set_option maxRecDepth 20000 in
theorem ggX6_wayOver_X2_apart : GoodIn wsX6_wayOver wsX2_apart := qaf qSl (by decide +kernel) qOB
set_option maxRecDepth 20000 in
theorem gX6_wayOver_X2_apart : GoodIn wsX6_wayOver (wsV RX6 42 RX2 yX2_apart wsX2_apart) := goodIn_app (qag qSl [3276, 1750, 1751, 19] rfl (by decide +kernel)) ggX6_wayOver_X2_apart
set_option maxRecDepth 20000 in
theorem ggX6_walk_X6_firstBest : GoodIn wsX6_walk wsX6_firstBest := qaf qUO (by decide +kernel) qaK0
set_option maxRecDepth 20000 in
theorem gX6_walk_X6_firstBest : GoodIn wsX6_walk (wsV RX6 58 RX6 yX6_firstBest wsX6_firstBest) := goodIn_app (qag qUO [3285, 3286, 3287, 128] rfl (by decide +kernel)) ggX6_walk_X6_firstBest
set_option maxRecDepth 20000 in
theorem ggX6_firstBest_X10_holds : GoodIn wsX6_firstBest wsX10_holds := qaf qtF (by decide +kernel) qqZ
set_option maxRecDepth 20000 in
theorem gX6_firstBest_X10_holds_n38 : GoodIn wsX6_firstBest (wsX10_holds) := ggX6_firstBest_X10_holds
set_option maxRecDepth 20000 in
theorem ggX6_firstBest_X6_wayOver : GoodIn wsX6_firstBest wsX6_wayOver := qaf qtF (by decide +kernel) qanX
set_option maxRecDepth 20000 in
theorem gX6_firstBest_X6_wayOver : GoodIn wsX6_firstBest (wsV RX6 49 RX6 yX6_wayOver wsX6_wayOver) := goodIn_app (qag qtF [3277, 3278, 3279, 128] rfl (by decide +kernel)) ggX6_firstBest_X6_wayOver
set_option maxRecDepth 20000 in
theorem ggX7_settle_X7_allowedTo : GoodIn wsX7_settle wsX7_allowedTo := qaf qq5 (by decide +kernel) qaEO
set_option maxRecDepth 20000 in
theorem gX7_settle_X7_allowedTo : GoodIn wsX7_settle (wsV RX7 36 RX7 yX7_allowedTo wsX7_allowedTo) := goodIn_app (qag qq5 [3083, 3084, 3085, 132] rfl (by decide +kernel)) ggX7_settle_X7_allowedTo
set_option maxRecDepth 20000 in
theorem ggX7_settle_X7_mostFrom : GoodIn wsX7_settle wsX7_mostFrom := qaf qq5 (by decide +kernel) qaRz
set_option maxRecDepth 20000 in
theorem gX7_settle_X7_mostFrom : GoodIn wsX7_settle (wsV RX7 40 RX7 yX7_mostFrom wsX7_mostFrom) := goodIn_app (qag qq5 [3094, 3095, 3136, 132] rfl (by decide +kernel)) ggX7_settle_X7_mostFrom
set_option maxRecDepth 20000 in
theorem ggX7_settle_X7_give : GoodIn wsX7_settle wsX7_give := qaf qq5 (by decide +kernel) qa3s
set_option maxRecDepth 20000 in
theorem gX7_settle_X7_give : GoodIn wsX7_settle (wsV RX7 47 RX7 yX7_give wsX7_give) := goodIn_app (qag qq5 [3143, 3144, 3145, 132] rfl (by decide +kernel)) ggX7_settle_X7_give
set_option maxRecDepth 20000 in
theorem ggX7_allowedTo_X1_isCaught : GoodIn wsX7_allowedTo wsX1_isCaught := qaf qrF (by decide +kernel) qoT
set_option maxRecDepth 20000 in
theorem gX7_allowedTo_X1_isCaught : GoodIn wsX7_allowedTo (wsV RX7 51 RX1 yX1_isCaught wsX1_isCaught) := goodIn_app (qag qrF [3088, 1742, 1743, 78] rfl (by decide +kernel)) ggX7_allowedTo_X1_isCaught
set_option maxRecDepth 20000 in
theorem ggX7_allowedTo_X1_leapable : GoodIn wsX7_allowedTo wsX1_leapable := qaf qrF (by decide +kernel) qagk
set_option maxRecDepth 20000 in
theorem gX7_allowedTo_X1_leapable : GoodIn wsX7_allowedTo (wsV RX7 55 RX1 yX1_leapable wsX1_leapable) := goodIn_app (qag qrF [3089, 3090, 3091, 78] rfl (by decide +kernel)) ggX7_allowedTo_X1_leapable
set_option maxRecDepth 20000 in
theorem ggX7_allowedTo_X1_sits : GoodIn wsX7_allowedTo wsX1_sits := qaf qrF (by decide +kernel) qD5
set_option maxRecDepth 20000 in
theorem gX7_allowedTo_X1_sits : GoodIn wsX7_allowedTo (wsV RX7 59 RX1 yX1_sits wsX1_sits) := goodIn_app (qag qrF [3093, 1746, 1747, 78] rfl (by decide +kernel)) ggX7_allowedTo_X1_sits
set_option maxRecDepth 20000 in
theorem ggX7_mostFrom_X7_mostBehind : GoodIn wsX7_mostFrom wsX7_mostBehind := qaf qrU (by decide +kernel) q4v
set_option maxRecDepth 20000 in
theorem gX7_mostFrom_X7_mostBehind : GoodIn wsX7_mostFrom (wsV RX7 65 RX7 yX7_mostBehind wsX7_mostBehind) := goodIn_app (qag qrU [3139, 3140, 3141, 132] rfl (by decide +kernel)) ggX7_mostFrom_X7_mostBehind
set_option maxRecDepth 20000 in
theorem ggX7_mostFrom_X10_holds : GoodIn wsX7_mostFrom wsX10_holds := qaf qrU (by decide +kernel) qqZ
set_option maxRecDepth 20000 in
theorem gX7_mostFrom_X10_holds_n68 : GoodIn wsX7_mostFrom (wsX10_holds) := ggX7_mostFrom_X10_holds
set_option maxRecDepth 20000 in
theorem ggX7_give_X7_firstBest : GoodIn wsX7_give wsX7_firstBest := qaf qaeI (by decide +kernel) qaJ8
set_option maxRecDepth 20000 in
theorem gX7_give_X7_firstBest : GoodIn wsX7_give (wsV RX7 77 RX7 yX7_firstBest wsX7_firstBest) := goodIn_app (qag qaeI [3147, 3148, 3149, 132] rfl (by decide +kernel)) ggX7_give_X7_firstBest
set_option maxRecDepth 20000 in
theorem ggX7_firstBest_X10_holds : GoodIn wsX7_firstBest wsX10_holds := qaf qva (by decide +kernel) qqZ
set_option maxRecDepth 20000 in
theorem gX7_firstBest_X10_holds_n68 : GoodIn wsX7_firstBest (wsX10_holds) := ggX7_firstBest_X10_holds
set_option maxRecDepth 20000 in
theorem ggX7_firstBest_X7_mostBehind : GoodIn wsX7_firstBest wsX7_mostBehind := qaf qva (by decide +kernel) q4v
set_option maxRecDepth 20000 in
theorem gX7_firstBest_X7_mostBehind : GoodIn wsX7_firstBest (wsV RX7 65 RX7 yX7_mostBehind wsX7_mostBehind) := goodIn_app (qag qva [3139, 3140, 3141, 132] rfl (by decide +kernel)) ggX7_firstBest_X7_mostBehind
set_option maxRecDepth 20000 in
theorem ggX8_blameSign_X8_skipBlanks : GoodIn wsX8_blameSign wsX8_skipBlanks := qaf qAz (by decide +kernel) qyd
set_option maxRecDepth 20000 in
theorem gX8_blameSign_X8_skipBlanks : GoodIn wsX8_blameSign (wsV RX8 40 RX8 yX8_skipBlanks wsX8_skipBlanks) := goodIn_app (qag qAz [771, 772, 773, 15] rfl (by decide +kernel)) ggX8_blameSign_X8_skipBlanks
set_option maxRecDepth 20000 in
theorem ggX8_blameSign_X8_blame : GoodIn wsX8_blameSign wsX8_blame := qaf qAz (by decide +kernel) qajF
set_option maxRecDepth 20000 in
theorem gX8_blameSign_X8_blame : GoodIn wsX8_blameSign (wsV RX8 43 RX8 yX8_blame wsX8_blame) := goodIn_app (qag qAz [965, 966, 967, 15] rfl (by decide +kernel)) ggX8_blameSign_X8_blame
