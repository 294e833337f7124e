set_option maxRecDepth 20000 in
theorem ggX0_init_X0_clear : GoodIn wsX0_init wsX0_clear := qaf qLA (by decide +kernel) qaje
set_option maxRecDepth 20000 in
theorem gX0_init_X0_clear : GoodIn wsX0_init (wsV RX0 15 RX0 yX0_clear wsX0_clear) := goodIn_app (qag qLA [258, 259, 260, 69] rfl (by decide +kernel)) ggX0_init_X0_clear
set_option maxRecDepth 20000 in
theorem ggX0_readFrom_X0_clear : GoodIn wsX0_readFrom wsX0_clear := qaf qxa (by decide +kernel) qaje
set_option maxRecDepth 20000 in
theorem gX0_readFrom_X0_clear : GoodIn wsX0_readFrom (wsV RX0 15 RX0 yX0_clear wsX0_clear) := goodIn_app (qag qxa [258, 259, 260, 69] rfl (by decide +kernel)) ggX0_readFrom_X0_clear
set_option maxRecDepth 20000 in
theorem ggX0_readFrom_X8_isFaulty : GoodIn wsX0_readFrom wsX8_isFaulty := qaf qxa (by decide +kernel) qoR
set_option maxRecDepth 20000 in
theorem gX0_readFrom_X8_isFaulty : GoodIn wsX0_readFrom (wsV RX0 22 RX8 yX8_isFaulty wsX8_isFaulty) := goodIn_app (qag qxa [2391, 724, 725, 15] rfl (by decide +kernel)) ggX0_readFrom_X8_isFaulty
set_option maxRecDepth 20000 in
theorem ggX0_readFrom_X8_isEnded : GoodIn wsX0_readFrom wsX8_isEnded := qaf qxa (by decide +kernel) qSb
set_option maxRecDepth 20000 in
theorem gX0_readFrom_X8_isEnded : GoodIn wsX0_readFrom (wsV RX0 28 RX8 yX8_isEnded wsX8_isEnded) := goodIn_app (qag qxa [2432, 768, 769, 15] rfl (by decide +kernel)) ggX0_readFrom_X8_isEnded
set_option maxRecDepth 20000 in
theorem ggX0_readFrom_X0_readLine : GoodIn wsX0_readFrom wsX0_readLine := qaf qxa (by decide +kernel) qaQk
set_option maxRecDepth 20000 in
theorem gX0_readFrom_X0_readLine : GoodIn wsX0_readFrom (wsV RX0 31 RX0 yX0_readLine wsX0_readLine) := goodIn_app (qag qxa [2433, 2434, 2435, 69] rfl (by decide +kernel)) ggX0_readFrom_X0_readLine
set_option maxRecDepth 20000 in
theorem ggX0_readLine_X8_number : GoodIn wsX0_readLine wsX8_number := qaf qmq (by decide +kernel) qBu
set_option maxRecDepth 20000 in
theorem gX0_readLine_X8_number : GoodIn wsX0_readLine (wsV RX0 35 RX8 yX8_number wsX8_number) := goodIn_app (qag qmq [2437, 970, 971, 15] rfl (by decide +kernel)) ggX0_readLine_X8_number
set_option maxRecDepth 20000 in
theorem ggX0_readLine_X10_within : GoodIn wsX0_readLine wsX10_within := qaf qmq (by decide +kernel) qCb
set_option maxRecDepth 20000 in
theorem gX0_readLine_X10_within_n39 : GoodIn wsX0_readLine (wsX10_within) := ggX0_readLine_X10_within
set_option maxRecDepth 20000 in
theorem ggX0_readLine_X0_tells : GoodIn wsX0_readLine wsX0_tells := qaf qmq (by decide +kernel) qaMo
set_option maxRecDepth 20000 in
theorem gX0_readLine_X0_tells : GoodIn wsX0_readLine (wsV RX0 43 RX0 yX0_tells wsX0_tells) := goodIn_app (qag qmq [2438, 2439, 2440, 69] rfl (by decide +kernel)) ggX0_readLine_X0_tells
set_option maxRecDepth 20000 in
theorem ggX0_readLine_X8_blameToken : GoodIn wsX0_readLine wsX8_blameToken := qaf qmq (by decide +kernel) qud
set_option maxRecDepth 20000 in
theorem gX0_readLine_X8_blameToken : GoodIn wsX0_readLine (wsV RX0 47 RX8 yX8_blameToken wsX8_blameToken) := goodIn_app (qag qmq [2442, 962, 963, 15] rfl (by decide +kernel)) ggX0_readLine_X8_blameToken
set_option maxRecDepth 20000 in
theorem ggX0_readLine_X8_needs : GoodIn wsX0_readLine wsX8_needs := qaf qmq (by decide +kernel) qAz
set_option maxRecDepth 20000 in
theorem gX0_readLine_X8_needs : GoodIn wsX0_readLine (wsV RX0 51 RX8 yX8_needs wsX8_needs) := goodIn_app (qag qmq [2443, 979, 980, 15] rfl (by decide +kernel)) ggX0_readLine_X8_needs
set_option maxRecDepth 20000 in
theorem ggX0_readLine_X8_isFaulty : GoodIn wsX0_readLine wsX8_isFaulty := qaf qmq (by decide +kernel) qoR
set_option maxRecDepth 20000 in
theorem gX0_readLine_X8_isFaulty : GoodIn wsX0_readLine (wsV RX0 22 RX8 yX8_isFaulty wsX8_isFaulty) := goodIn_app (qag qmq [2391, 724, 725, 15] rfl (by decide +kernel)) ggX0_readLine_X8_isFaulty
set_option maxRecDepth 20000 in
theorem ggX1_init_X1_begin : GoodIn wsX1_init wsX1_begin := qaf qHj (by decide +kernel) qaLD
set_option maxRecDepth 20000 in
theorem gX1_init_X1_begin : GoodIn wsX1_init (wsV RX1 20 RX1 yX1_begin wsX1_begin) := goodIn_app (qag qHj [278, 279, 320, 78] rfl (by decide +kernel)) ggX1_init_X1_begin
set_option maxRecDepth 20000 in
theorem ggX1_owes_X1_owesTo : GoodIn wsX1_owes wsX1_owesTo := qaf qU8 (by decide +kernel) qQA
set_option maxRecDepth 20000 in
theorem gX1_owes_X1_owesTo : GoodIn wsX1_owes (wsV RX1 51 RX1 yX1_owesTo wsX1_owesTo) := goodIn_app (qag qU8 [1860, 1861, 1862, 78] rfl (by decide +kernel)) ggX1_owes_X1_owesTo
set_option maxRecDepth 20000 in
theorem ggX1_owed_X1_owesTo : GoodIn wsX1_owed wsX1_owesTo := qaf qVY (by decide +kernel) qQA
set_option maxRecDepth 20000 in
theorem gX1_owed_X1_owesTo : GoodIn wsX1_owed (wsV RX1 51 RX1 yX1_owesTo wsX1_owesTo) := goodIn_app (qag qVY [1860, 1861, 1862, 78] rfl (by decide +kernel)) ggX1_owed_X1_owesTo
set_option maxRecDepth 20000 in
theorem ggX1_allDebts_X1_owes : GoodIn wsX1_allDebts wsX1_owes := qaf qDa (by decide +kernel) qavY
set_option maxRecDepth 20000 in
theorem gX1_allDebts_X1_owes : GoodIn wsX1_allDebts (wsV RX1 55 RX1 yX1_owes wsX1_owes) := goodIn_app (qag qDa [1856, 1857, 1858, 78] rfl (by decide +kernel)) ggX1_allDebts_X1_owes
set_option maxRecDepth 20000 in
theorem ggX1_seatedIn_X1_isCaught : GoodIn wsX1_seatedIn wsX1_isCaught := qaf qwK (by decide +kernel) qoU
set_option maxRecDepth 20000 in
theorem gX1_seatedIn_X1_isCaught : GoodIn wsX1_seatedIn (wsV RX1 59 RX1 yX1_isCaught wsX1_isCaught) := goodIn_app (qag qwK [1741, 1742, 1743, 78] rfl (by decide +kernel)) ggX1_seatedIn_X1_isCaught
set_option maxRecDepth 20000 in
theorem ggX1_seatedIn_X1_sits : GoodIn wsX1_seatedIn wsX1_sits := qaf qwK (by decide +kernel) qEh
set_option maxRecDepth 20000 in
theorem gX1_seatedIn_X1_sits : GoodIn wsX1_seatedIn (wsV RX1 63 RX1 yX1_sits wsX1_sits) := goodIn_app (qag qwK [1745, 1746, 1747, 78] rfl (by decide +kernel)) ggX1_seatedIn_X1_sits
set_option maxRecDepth 20000 in
theorem ggX1_strongTogether_X1_isCaught : GoodIn wsX1_strongTogether wsX1_isCaught := qaf qpm (by decide +kernel) qoU
set_option maxRecDepth 20000 in
theorem gX1_strongTogether_X1_isCaught : GoodIn wsX1_strongTogether (wsV RX1 59 RX1 yX1_isCaught wsX1_isCaught) := goodIn_app (qag qpm [1741, 1742, 1743, 78] rfl (by decide +kernel)) ggX1_strongTogether_X1_isCaught
set_option maxRecDepth 20000 in
theorem ggX1_strongTogether_X1_strong : GoodIn wsX1_strongTogether wsX1_strong := qaf qpm (by decide +kernel) qFh
set_option maxRecDepth 20000 in
theorem gX1_strongTogether_X1_strong : GoodIn wsX1_strongTogether (wsV RX1 66 RX1 yX1_strong wsX1_strong) := goodIn_app (qag qpm [1808, 1809, 1810, 78] rfl (by decide +kernel)) ggX1_strongTogether_X1_strong
set_option maxRecDepth 20000 in
theorem ggX1_reach_X1_sits : GoodIn wsX1_reach wsX1_sits := qaf qiw (by decide +kernel) qEh
set_option maxRecDepth 20000 in
theorem gX1_reach_X1_sits : GoodIn wsX1_reach (wsV RX1 63 RX1 yX1_sits wsX1_sits) := goodIn_app (qag qiw [1745, 1746, 1747, 78] rfl (by decide +kernel)) ggX1_reach_X1_sits
set_option maxRecDepth 20000 in
theorem ggX1_reach_X1_seatedIn : GoodIn wsX1_reach wsX1_seatedIn := qaf qiw (by decide +kernel) qWL
set_option maxRecDepth 20000 in
theorem gX1_reach_X1_seatedIn : GoodIn wsX1_reach (wsV RX1 69 RX1 yX1_seatedIn wsX1_seatedIn) := goodIn_app (qag qiw [1797, 1798, 1799, 78] rfl (by decide +kernel)) ggX1_reach_X1_seatedIn
set_option maxRecDepth 20000 in
theorem ggX1_reach_J6_bitCount_0f7a4 : GoodIn wsX1_reach wsJ6_bitCount_0f7a4 := qaf qiw (by decide +kernel) qFm
set_option maxRecDepth 20000 in
theorem gX1_reach_J6_bitCount_0f7a4 : GoodIn wsX1_reach (va_wsS RX1 72 yJ6_bitCount_0f7a4 wsJ6_bitCount_0f7a4) := goodIn_app (qag qiw [1801, 1802, 1803] rfl (by decide +kernel)) ggX1_reach_J6_bitCount_0f7a4
set_option maxRecDepth 20000 in
theorem ggX1_reach_X1_strong : GoodIn wsX1_reach wsX1_strong := qaf qiw (by decide +kernel) qFh
set_option maxRecDepth 20000 in
theorem gX1_reach_X1_strong : GoodIn wsX1_reach (wsV RX1 66 RX1 yX1_strong wsX1_strong) := goodIn_app (qag qiw [1808, 1809, 1810, 78] rfl (by decide +kernel)) ggX1_reach_X1_strong
set_option maxRecDepth 20000 in
theorem ggX1_reach_X1_still : GoodIn wsX1_reach wsX1_still := qaf qiw (by decide +kernel) qajA
set_option maxRecDepth 20000 in
theorem gX1_reach_X1_still : GoodIn wsX1_reach (wsV RX1 77 RX1 yX1_still wsX1_still) := goodIn_app (qag qiw [1812, 1813, 1814, 78] rfl (by decide +kernel)) ggX1_reach_X1_still
set_option maxRecDepth 20000 in
theorem ggX1_reach_X1_owes : GoodIn wsX1_reach wsX1_owes := qaf qiw (by decide +kernel) qavY
set_option maxRecDepth 20000 in
theorem gX1_reach_X1_owes : GoodIn wsX1_reach (wsV RX1 55 RX1 yX1_owes wsX1_owes) := goodIn_app (qag qiw [1856, 1857, 1858, 78] rfl (by decide +kernel)) ggX1_reach_X1_owes
set_option maxRecDepth 20000 in
theorem ggX1_reach_X1_owed : GoodIn wsX1_reach wsX1_owed := qaf qiw (by decide +kernel) qaA4
set_option maxRecDepth 20000 in
theorem gX1_reach_X1_owed : GoodIn wsX1_reach (wsV RX1 80 RX1 yX1_owed wsX1_owed) := goodIn_app (qag qiw [1864, 1865, 1866, 78] rfl (by decide +kernel)) ggX1_reach_X1_owed
set_option maxRecDepth 20000 in
theorem ggX1_reach_X4_setFacts : GoodIn wsX1_reach wsX4_setFacts := qaf qiw (by decide +kernel) qaeG
set_option maxRecDepth 20000 in
theorem gX1_reach_X4_setFacts : GoodIn wsX1_reach (wsV RX1 83 RX4 yX4_setFacts wsX4_setFacts) := goodIn_app (qag qiw [1868, 1869, 1870, 64] rfl (by decide +kernel)) ggX1_reach_X4_setFacts
set_option maxRecDepth 20000 in
theorem ggX1_reach_X1_day : GoodIn wsX1_reach wsX1_day := qaf qiw (by decide +kernel) qauZ
set_option maxRecDepth 20000 in
theorem gX1_reach_X1_day : GoodIn wsX1_reach (wsV RX1 89 RX1 yX1_day wsX1_day) := goodIn_app (qag qiw [1872, 1873, 1874, 78] rfl (by decide +kernel)) ggX1_reach_X1_day
set_option maxRecDepth 20000 in
theorem ggX1_reach_X1_leaps : GoodIn wsX1_reach wsX1_leaps := qaf qiw (by decide +kernel) qaMj
set_option maxRecDepth 20000 in
theorem gX1_reach_X1_leaps : GoodIn wsX1_reach (wsV RX1 93 RX1 yX1_leaps wsX1_leaps) := goodIn_app (qag qiw [1876, 1877, 1878, 78] rfl (by decide +kernel)) ggX1_reach_X1_leaps
set_option maxRecDepth 20000 in
theorem ggX1_reach_X4_setTimes : GoodIn wsX1_reach wsX4_setTimes := qaf qiw (by decide +kernel) qad3
set_option maxRecDepth 20000 in
theorem gX1_reach_X4_setTimes : GoodIn wsX1_reach (wsV RX1 96 RX4 yX4_setTimes wsX4_setTimes) := goodIn_app (qag qiw [1920, 1921, 1922, 64] rfl (by decide +kernel)) ggX1_reach_X4_setTimes
set_option maxRecDepth 20000 in
theorem ggX1_reach_X4_reach : GoodIn wsX1_reach wsX4_reach := qaf qiw (by decide +kernel) qaLj
set_option maxRecDepth 20000 in
theorem gX1_reach_X4_reach : GoodIn wsX1_reach (wsV RX1 100 RX4 yX4_reach wsX4_reach) := goodIn_app (qag qiw [1924, 1925, 1926, 64] rfl (by decide +kernel)) ggX1_reach_X4_reach
set_option maxRecDepth 20000 in
theorem ggX1_couldLeap_X1_isCaught : GoodIn wsX1_couldLeap wsX1_isCaught := qaf qrP (by decide +kernel) qoU
set_option maxRecDepth 20000 in
theorem gX1_couldLeap_X1_isCaught : GoodIn wsX1_couldLeap (wsV RX1 59 RX1 yX1_isCaught wsX1_isCaught) := goodIn_app (qag qrP [1741, 1742, 1743, 78] rfl (by decide +kernel)) ggX1_couldLeap_X1_isCaught
set_option maxRecDepth 20000 in
theorem ggX1_couldLeap_X1_sits : GoodIn wsX1_couldLeap wsX1_sits := qaf qrP (by decide +kernel) qEh
set_option maxRecDepth 20000 in
theorem gX1_couldLeap_X1_sits : GoodIn wsX1_couldLeap (wsV RX1 63 RX1 yX1_sits wsX1_sits) := goodIn_app (qag qrP [1745, 1746, 1747, 78] rfl (by decide +kernel)) ggX1_couldLeap_X1_sits
set_option maxRecDepth 20000 in
theorem ggX1_couldLeap_X2_apart : GoodIn wsX1_couldLeap wsX2_apart := qaf qrP (by decide +kernel) qOu
set_option maxRecDepth 20000 in
theorem gX1_couldLeap_X2_apart : GoodIn wsX1_couldLeap (wsV RX1 103 RX2 yX2_apart wsX2_apart) := goodIn_app (qag qrP [1749, 1750, 1751, 19] rfl (by decide +kernel)) ggX1_couldLeap_X2_apart
set_option maxRecDepth 20000 in
theorem ggX1_couldLeap_X1_reach : GoodIn wsX1_couldLeap wsX1_reach := qaf qrP (by decide +kernel) q5j
set_option maxRecDepth 20000 in
theorem gX1_couldLeap_X1_reach : GoodIn wsX1_couldLeap (wsV RX1 106 RX1 yX1_reach wsX1_reach) := goodIn_app (qag qrP [1793, 1794, 1795, 78] rfl (by decide +kernel)) ggX1_couldLeap_X1_reach
set_option maxRecDepth 20000 in
theorem ggX1_leapable_X1_isCaught : GoodIn wsX1_leapable wsX1_isCaught := qaf qqO (by decide +kernel) qoU
set_option maxRecDepth 20000 in
theorem gX1_leapable_X1_isCaught : GoodIn wsX1_leapable (wsV RX1 59 RX1 yX1_isCaught wsX1_isCaught) := goodIn_app (qag qqO [1741, 1742, 1743, 78] rfl (by decide +kernel)) ggX1_leapable_X1_isCaught
set_option maxRecDepth 20000 in
theorem ggX1_leapable_X1_sits : GoodIn wsX1_leapable wsX1_sits := qaf qqO (by decide +kernel) qEh
set_option maxRecDepth 20000 in
theorem gX1_leapable_X1_sits : GoodIn wsX1_leapable (wsV RX1 63 RX1 yX1_sits wsX1_sits) := goodIn_app (qag qqO [1745, 1746, 1747, 78] rfl (by decide +kernel)) ggX1_leapable_X1_sits
set_option maxRecDepth 20000 in
theorem ggX1_leapable_X1_reach : GoodIn wsX1_leapable wsX1_reach := qaf qqO (by decide +kernel) q5j
set_option maxRecDepth 20000 in
theorem gX1_leapable_X1_reach : GoodIn wsX1_leapable (wsV RX1 106 RX1 yX1_reach wsX1_reach) := goodIn_app (qag qqO [1793, 1794, 1795, 78] rfl (by decide +kernel)) ggX1_leapable_X1_reach
set_option maxRecDepth 20000 in
theorem ggX1_leapable_X2_formsWithin : GoodIn wsX1_leapable wsX2_formsWithin := qaf qqO (by decide +kernel) qMH
set_option maxRecDepth 20000 in
theorem gX1_leapable_X2_formsWithin_n108 : GoodIn wsX1_leapable (wsX2_formsWithin) := ggX1_leapable_X2_formsWithin
set_option maxRecDepth 20000 in
theorem ggX1_leapTo_X1_stir : GoodIn wsX1_leapTo wsX1_stir := qaf qXP (by decide +kernel) qaTL
set_option maxRecDepth 20000 in
theorem gX1_leapTo_X1_stir : GoodIn wsX1_leapTo (wsV RX1 111 RX1 yX1_stir wsX1_stir) := goodIn_app (qag qXP [1995, 1996, 1997, 78] rfl (by decide +kernel)) ggX1_leapTo_X1_stir
set_option maxRecDepth 20000 in
theorem ggX1_couldFight_X1_isCaught : GoodIn wsX1_couldFight wsX1_isCaught := qaf qI7 (by decide +kernel) qoU
set_option maxRecDepth 20000 in
theorem gX1_couldFight_X1_isCaught : GoodIn wsX1_couldFight (wsV RX1 59 RX1 yX1_isCaught wsX1_isCaught) := goodIn_app (qag qI7 [1741, 1742, 1743, 78] rfl (by decide +kernel)) ggX1_couldFight_X1_isCaught
set_option maxRecDepth 20000 in
theorem ggX1_couldFight_X1_sits : GoodIn wsX1_couldFight wsX1_sits := qaf qI7 (by decide +kernel) qEh
set_option maxRecDepth 20000 in
theorem gX1_couldFight_X1_sits : GoodIn wsX1_couldFight (wsV RX1 63 RX1 yX1_sits wsX1_sits) := goodIn_app (qag qI7 [1745, 1746, 1747, 78] rfl (by decide +kernel)) ggX1_couldFight_X1_sits
set_option maxRecDepth 20000 in
theorem ggX1_fight_X1_strong : GoodIn wsX1_fight wsX1_strong := qaf qAG (by decide +kernel) qFh
set_option maxRecDepth 20000 in
theorem gX1_fight_X1_strong : GoodIn wsX1_fight (wsV RX1 66 RX1 yX1_strong wsX1_strong) := goodIn_app (qag qAG [1808, 1809, 1810, 78] rfl (by decide +kernel)) ggX1_fight_X1_strong
set_option maxRecDepth 20000 in
theorem ggX1_fight_X1_stir : GoodIn wsX1_fight wsX1_stir := qaf qAG (by decide +kernel) qaTL
set_option maxRecDepth 20000 in
theorem gX1_fight_X1_stir : GoodIn wsX1_fight (wsV RX1 111 RX1 yX1_stir wsX1_stir) := goodIn_app (qag qAG [1995, 1996, 1997, 78] rfl (by decide +kernel)) ggX1_fight_X1_stir
set_option maxRecDepth 20000 in
theorem ggX1_couldPay_X1_isCaught : GoodIn wsX1_couldPay wsX1_isCaught := qaf qNW (by decide +kernel) qoU
set_option maxRecDepth 20000 in
theorem gX1_couldPay_X1_isCaught : GoodIn wsX1_couldPay (wsV RX1 59 RX1 yX1_isCaught wsX1_isCaught) := goodIn_app (qag qNW [1741, 1742, 1743, 78] rfl (by decide +kernel)) ggX1_couldPay_X1_isCaught
set_option maxRecDepth 20000 in
theorem ggX1_couldPay_X1_owesTo : GoodIn wsX1_couldPay wsX1_owesTo := qaf qNW (by decide +kernel) qQA
set_option maxRecDepth 20000 in
theorem gX1_couldPay_X1_owesTo : GoodIn wsX1_couldPay (wsV RX1 51 RX1 yX1_owesTo wsX1_owesTo) := goodIn_app (qag qNW [1860, 1861, 1862, 78] rfl (by decide +kernel)) ggX1_couldPay_X1_owesTo
set_option maxRecDepth 20000 in
theorem ggX1_passDay_X10_holds : GoodIn wsX1_passDay wsX10_holds := qaf qvt (by decide +kernel) qq0
set_option maxRecDepth 20000 in
theorem gX1_passDay_X10_holds_n120 : GoodIn wsX1_passDay (wsX10_holds) := ggX1_passDay_X10_holds
set_option maxRecDepth 20000 in
theorem ggX1_passDay_X1_strike : GoodIn wsX1_passDay wsX1_strike := qaf qvt (by decide +kernel) qaXt
set_option maxRecDepth 20000 in
theorem gX1_passDay_X1_strike : GoodIn wsX1_passDay (wsV RX1 124 RX1 yX1_strike wsX1_strike) := goodIn_app (qag qvt [2054, 2055, 2056, 78] rfl (by decide +kernel)) ggX1_passDay_X1_strike
set_option maxRecDepth 20000 in
theorem ggX1_strike_X1_endangered : GoodIn wsX1_strike wsX1_endangered := qaf qth (by decide +kernel) q3Y
set_option maxRecDepth 20000 in
theorem gX1_strike_X1_endangered : GoodIn wsX1_strike (wsV RX1 127 RX1 yX1_endangered wsX1_endangered) := goodIn_app (qag qth [2058, 2059, 2060, 78] rfl (by decide +kernel)) ggX1_strike_X1_endangered
set_option maxRecDepth 20000 in
theorem ggX1_strike_X10_holds : GoodIn wsX1_strike wsX10_holds := qaf qth (by decide +kernel) qq0
set_option maxRecDepth 20000 in
theorem gX1_strike_X10_holds_n120 : GoodIn wsX1_strike (wsX10_holds) := ggX1_strike_X10_holds
set_option maxRecDepth 20000 in
theorem ggX1_strike_X1_dropDebts : GoodIn wsX1_strike wsX1_dropDebts := qaf qth (by decide +kernel) qaES
set_option maxRecDepth 20000 in
theorem gX1_strike_X1_dropDebts : GoodIn wsX1_strike (wsV RX1 130 RX1 yX1_dropDebts wsX1_dropDebts) := goodIn_app (qag qth [2066, 2067, 2068, 78] rfl (by decide +kernel)) ggX1_strike_X1_dropDebts
set_option maxRecDepth 20000 in
theorem ggX1_endangered_X1_isCaught : GoodIn wsX1_endangered wsX1_isCaught := qaf qn3 (by decide +kernel) qoU
set_option maxRecDepth 20000 in
theorem gX1_endangered_X1_isCaught : GoodIn wsX1_endangered (wsV RX1 59 RX1 yX1_isCaught wsX1_isCaught) := goodIn_app (qag qn3 [1741, 1742, 1743, 78] rfl (by decide +kernel)) ggX1_endangered_X1_isCaught
set_option maxRecDepth 20000 in
theorem ggX1_endangered_X1_sits : GoodIn wsX1_endangered wsX1_sits := qaf qn3 (by decide +kernel) qEh
set_option maxRecDepth 20000 in
theorem gX1_endangered_X1_sits : GoodIn wsX1_endangered (wsV RX1 63 RX1 yX1_sits wsX1_sits) := goodIn_app (qag qn3 [1745, 1746, 1747, 78] rfl (by decide +kernel)) ggX1_endangered_X1_sits
set_option maxRecDepth 20000 in
theorem ggX1_endangered_X2_isSafe : GoodIn wsX1_endangered wsX2_isSafe := qaf qn3 (by decide +kernel) q9P
set_option maxRecDepth 20000 in
theorem gX1_endangered_X2_isSafe : GoodIn wsX1_endangered (wsV RX1 133 RX2 yX2_isSafe wsX2_isSafe) := goodIn_app (qag qn3 [2062, 2063, 2064, 19] rfl (by decide +kernel)) ggX1_endangered_X2_isSafe
set_option maxRecDepth 20000 in
theorem ggX1_endangered_X1_still : GoodIn wsX1_endangered wsX1_still := qaf qn3 (by decide +kernel) qajA
set_option maxRecDepth 20000 in
theorem gX1_endangered_X1_still : GoodIn wsX1_endangered (wsV RX1 77 RX1 yX1_still wsX1_still) := goodIn_app (qag qn3 [1812, 1813, 1814, 78] rfl (by decide +kernel)) ggX1_endangered_X1_still
set_option maxRecDepth 20000 in
theorem ggX1_drawDays_X1_nextSeed : GoodIn wsX1_drawDays wsX1_nextSeed := qaf qnE (by decide +kernel) qaO3
set_option maxRecDepth 20000 in
theorem gX1_drawDays_X1_nextSeed : GoodIn wsX1_drawDays (va_wsS RX1 139 yX1_nextSeed wsX1_nextSeed) := goodIn_app (qag qnE [4042, 4043, 78] rfl (by decide +kernel)) ggX1_drawDays_X1_nextSeed
set_option maxRecDepth 20000 in
theorem ggX1_drawDays_X1_drawnBits : GoodIn wsX1_drawDays wsX1_drawnBits := qaf qnE (by decide +kernel) qaKU
set_option maxRecDepth 20000 in
theorem gX1_drawDays_X1_drawnBits : GoodIn wsX1_drawDays (va_wsS RX1 142 yX1_drawnBits wsX1_drawnBits) := goodIn_app (qag qnE [4046, 4047, 78] rfl (by decide +kernel)) ggX1_drawDays_X1_drawnBits
set_option maxRecDepth 20000 in
theorem ggX1_drawDays_X1_leapIfAllowed : GoodIn wsX1_drawDays wsX1_leapIfAllowed := qaf qnE (by decide +kernel) qagI
set_option maxRecDepth 20000 in
theorem gX1_drawDays_X1_leapIfAllowed : GoodIn wsX1_drawDays (wsV RX1 145 RX1 yX1_leapIfAllowed wsX1_leapIfAllowed) := goodIn_app (qag qnE [4049, 4050, 4051, 78] rfl (by decide +kernel)) ggX1_drawDays_X1_leapIfAllowed
set_option maxRecDepth 20000 in
theorem ggX1_drawDays_X1_fightIfAllowed : GoodIn wsX1_drawDays wsX1_fightIfAllowed := qaf qnE (by decide +kernel) qabk
set_option maxRecDepth 20000 in
theorem gX1_drawDays_X1_fightIfAllowed : GoodIn wsX1_drawDays (wsV RX1 148 RX1 yX1_fightIfAllowed wsX1_fightIfAllowed) := goodIn_app (qag qnE [4055, 4096, 4097, 78] rfl (by decide +kernel)) ggX1_drawDays_X1_fightIfAllowed
set_option maxRecDepth 20000 in
theorem ggX1_drawDays_X1_passDay : GoodIn wsX1_drawDays wsX1_passDay := qaf qnE (by decide +kernel) q1u
set_option maxRecDepth 20000 in
theorem gX1_drawDays_X1_passDay : GoodIn wsX1_drawDays (wsV RX1 152 RX1 yX1_passDay wsX1_passDay) := goodIn_app (qag qnE [4101, 2049, 2050, 78] rfl (by decide +kernel)) ggX1_drawDays_X1_passDay
set_option maxRecDepth 20000 in
theorem ggX1_leapIfAllowed_X1_couldLeap : GoodIn wsX1_leapIfAllowed wsX1_couldLeap := qaf qBe (by decide +kernel) qTy
set_option maxRecDepth 20000 in
theorem gX1_leapIfAllowed_X1_couldLeap : GoodIn wsX1_leapIfAllowed (wsV RX1 155 RX1 yX1_couldLeap wsX1_couldLeap) := goodIn_app (qag qBe [4053, 1738, 1739, 78] rfl (by decide +kernel)) ggX1_leapIfAllowed_X1_couldLeap
set_option maxRecDepth 20000 in
theorem ggX1_leapIfAllowed_X1_leapTo : GoodIn wsX1_leapIfAllowed wsX1_leapTo := qaf qBe (by decide +kernel) qaEd
set_option maxRecDepth 20000 in
theorem gX1_leapIfAllowed_X1_leapTo : GoodIn wsX1_leapIfAllowed (wsV RX1 158 RX1 yX1_leapTo wsX1_leapTo) := goodIn_app (qag qBe [4054, 1992, 1993, 78] rfl (by decide +kernel)) ggX1_leapIfAllowed_X1_leapTo
set_option maxRecDepth 20000 in
theorem ggX1_fightIfAllowed_X1_couldFight : GoodIn wsX1_fightIfAllowed wsX1_couldFight := qaf qzy (by decide +kernel) q4d
set_option maxRecDepth 20000 in
theorem gX1_fightIfAllowed_X1_couldFight : GoodIn wsX1_fightIfAllowed (wsV RX1 161 RX1 yX1_couldFight wsX1_couldFight) := goodIn_app (qag qzy [4099, 1936, 1937, 78] rfl (by decide +kernel)) ggX1_fightIfAllowed_X1_couldFight
set_option maxRecDepth 20000 in
theorem ggX1_fightIfAllowed_X1_fight : GoodIn wsX1_fightIfAllowed wsX1_fight := qaf qzy (by decide +kernel) qaMk
set_option maxRecDepth 20000 in
theorem gX1_fightIfAllowed_X1_fight : GoodIn wsX1_fightIfAllowed (wsV RX1 164 RX1 yX1_fight wsX1_fight) := goodIn_app (qag qzy [4100, 2000, 2001, 78] rfl (by decide +kernel)) ggX1_fightIfAllowed_X1_fight
set_option maxRecDepth 20000 in
theorem ggX1_cloverFor_X10_holds : GoodIn wsX1_cloverFor wsX10_holds := qaf qkx (by decide +kernel) qq0
set_option maxRecDepth 20000 in
theorem gX1_cloverFor_X10_holds_n120 : GoodIn wsX1_cloverFor (wsX10_holds) := ggX1_cloverFor_X10_holds
set_option maxRecDepth 20000 in
theorem ggX1_cloverFor_X1_owed : GoodIn wsX1_cloverFor wsX1_owed := qaf qkx (by decide +kernel) qaA4
set_option maxRecDepth 20000 in
theorem gX1_cloverFor_X1_owed : GoodIn wsX1_cloverFor (wsV RX1 80 RX1 yX1_owed wsX1_owed) := goodIn_app (qag qkx [1864, 1865, 1866, 78] rfl (by decide +kernel)) ggX1_cloverFor_X1_owed
set_option maxRecDepth 20000 in
theorem ggX1_cloverFor_X1_givenBy : GoodIn wsX1_cloverFor wsX1_givenBy := qaf qkx (by decide +kernel) qaTC
set_option maxRecDepth 20000 in
theorem gX1_cloverFor_X1_givenBy : GoodIn wsX1_cloverFor (wsV RX1 168 RX1 yX1_givenBy wsX1_givenBy) := goodIn_app (qag qkx [3849, 3850, 3851, 78] rfl (by decide +kernel)) ggX1_cloverFor_X1_givenBy
set_option maxRecDepth 20000 in
theorem ggX2_readFrom_X8_isFaulty : GoodIn wsX2_readFrom wsX8_isFaulty := qaf qpG (by decide +kernel) qoR
set_option maxRecDepth 20000 in
theorem gX2_readFrom_X8_isFaulty : GoodIn wsX2_readFrom (wsV RX2 46 RX8 yX8_isFaulty wsX8_isFaulty) := goodIn_app (qag qpG [723, 724, 725, 15] rfl (by decide +kernel)) ggX2_readFrom_X8_isFaulty
set_option maxRecDepth 20000 in
theorem ggX2_readFrom_X8_isEnded : GoodIn wsX2_readFrom wsX8_isEnded := qaf qpG (by decide +kernel) qSb
set_option maxRecDepth 20000 in
theorem gX2_readFrom_X8_isEnded : GoodIn wsX2_readFrom (wsV RX2 52 RX8 yX8_isEnded wsX8_isEnded) := goodIn_app (qag qpG [727, 768, 769, 15] rfl (by decide +kernel)) ggX2_readFrom_X8_isEnded
set_option maxRecDepth 20000 in
theorem ggX2_readFrom_X2_readClause : GoodIn wsX2_readFrom wsX2_readClause := qaf qpG (by decide +kernel) qavH
set_option maxRecDepth 20000 in
theorem gX2_readFrom_X2_readClause : GoodIn wsX2_readFrom (wsV RX2 55 RX2 yX2_readClause wsX2_readClause) := goodIn_app (qag qpG [775, 776, 777, 19] rfl (by decide +kernel)) ggX2_readFrom_X2_readClause
set_option maxRecDepth 20000 in
theorem ggX2_readFrom_X2_findSafe : GoodIn wsX2_readFrom wsX2_findSafe := qaf qpG (by decide +kernel) qaNF
set_option maxRecDepth 20000 in
theorem gX2_readFrom_X2_findSafe : GoodIn wsX2_readFrom (wsV RX2 59 RX2 yX2_findSafe wsX2_findSafe) := goodIn_app (qag qpG [1043, 1044, 1045, 19] rfl (by decide +kernel)) ggX2_readFrom_X2_findSafe
set_option maxRecDepth 20000 in
theorem ggX2_readClause_X8_takesWord : GoodIn wsX2_readClause wsX8_takesWord := qaf qnS (by decide +kernel) qKD
set_option maxRecDepth 20000 in
theorem gX2_readClause_X8_takesWord : GoodIn wsX2_readClause (wsV RX2 64 RX8 yX8_takesWord wsX8_takesWord) := goodIn_app (qag qnS [779, 780, 781, 15] rfl (by decide +kernel)) ggX2_readClause_X8_takesWord
set_option maxRecDepth 20000 in
theorem ggX2_readClause_X2_readForm : GoodIn wsX2_readClause wsX2_readForm := qaf qnS (by decide +kernel) qaNU
set_option maxRecDepth 20000 in
theorem gX2_readClause_X2_readForm : GoodIn wsX2_readClause (wsV RX2 68 RX2 yX2_readForm wsX2_readForm) := goodIn_app (qag qnS [917, 918, 919, 19] rfl (by decide +kernel)) ggX2_readClause_X2_readForm
set_option maxRecDepth 20000 in
theorem ggX2_readClause_X2_readHare : GoodIn wsX2_readClause wsX2_readHare := qaf qnS (by decide +kernel) qaNT
set_option maxRecDepth 20000 in
theorem gX2_readClause_X2_readHare : GoodIn wsX2_readClause (wsV RX2 73 RX2 yX2_readHare wsX2_readHare) := goodIn_app (qag qnS [1030, 1031, 1032, 19] rfl (by decide +kernel)) ggX2_readClause_X2_readHare
set_option maxRecDepth 20000 in
theorem ggX2_readClause_X2_readFox : GoodIn wsX2_readClause wsX2_readFox := qaf qnS (by decide +kernel) qaUc
set_option maxRecDepth 20000 in
theorem gX2_readClause_X2_readFox : GoodIn wsX2_readClause (wsV RX2 78 RX2 yX2_readFox wsX2_readFox) := goodIn_app (qag qnS [1034, 1035, 1036, 19] rfl (by decide +kernel)) ggX2_readClause_X2_readFox
set_option maxRecDepth 20000 in
theorem ggX2_readClause_X2_readDebt : GoodIn wsX2_readClause wsX2_readDebt := qaf qnS (by decide +kernel) qaNB
set_option maxRecDepth 20000 in
theorem gX2_readClause_X2_readDebt : GoodIn wsX2_readClause (wsV RX2 83 RX2 yX2_readDebt wsX2_readDebt) := goodIn_app (qag qnS [1038, 1039, 1040, 19] rfl (by decide +kernel)) ggX2_readClause_X2_readDebt
set_option maxRecDepth 20000 in
theorem ggX2_readClause_X8_blameSign : GoodIn wsX2_readClause wsX8_blameSign := qaf qnS (by decide +kernel) qEi
set_option maxRecDepth 20000 in
theorem gX2_readClause_X8_blameSign : GoodIn wsX2_readClause (wsV RX2 86 RX8 yX8_blameSign wsX8_blameSign) := goodIn_app (qag qnS [1042, 1027, 1028, 15] rfl (by decide +kernel)) ggX2_readClause_X8_blameSign
set_option maxRecDepth 20000 in
theorem ggX2_readForm_X8_blameToken : GoodIn wsX2_readForm wsX8_blameToken := qaf qtN (by decide +kernel) qud
set_option maxRecDepth 20000 in
theorem gX2_readForm_X8_blameToken : GoodIn wsX2_readForm (wsV RX2 89 RX8 yX8_blameToken wsX8_blameToken) := goodIn_app (qag qtN [961, 962, 963, 15] rfl (by decide +kernel)) ggX2_readForm_X8_blameToken
set_option maxRecDepth 20000 in
theorem ggX2_readForm_X8_number : GoodIn wsX2_readForm wsX8_number := qaf qtN (by decide +kernel) qBu
set_option maxRecDepth 20000 in
theorem gX2_readForm_X8_number : GoodIn wsX2_readForm (wsV RX2 93 RX8 yX8_number wsX8_number) := goodIn_app (qag qtN [969, 970, 971, 15] rfl (by decide +kernel)) ggX2_readForm_X8_number
set_option maxRecDepth 20000 in
theorem ggX2_readForm_X8_needs : GoodIn wsX2_readForm wsX8_needs := qaf qtN (by decide +kernel) qAz
set_option maxRecDepth 20000 in
theorem gX2_readForm_X8_needs : GoodIn wsX2_readForm (wsV RX2 97 RX8 yX8_needs wsX8_needs) := goodIn_app (qag qtN [978, 979, 980, 15] rfl (by decide +kernel)) ggX2_readForm_X8_needs
set_option maxRecDepth 20000 in
theorem ggX2_readHare_X8_blameToken : GoodIn wsX2_readHare wsX8_blameToken := qaf qsf (by decide +kernel) qud
set_option maxRecDepth 20000 in
theorem gX2_readHare_X8_blameToken : GoodIn wsX2_readHare (wsV RX2 89 RX8 yX8_blameToken wsX8_blameToken) := goodIn_app (qag qsf [961, 962, 963, 15] rfl (by decide +kernel)) ggX2_readHare_X8_blameToken
set_option maxRecDepth 20000 in
theorem ggX2_readHare_X8_number : GoodIn wsX2_readHare wsX8_number := qaf qsf (by decide +kernel) qBu
set_option maxRecDepth 20000 in
theorem gX2_readHare_X8_number : GoodIn wsX2_readHare (wsV RX2 93 RX8 yX8_number wsX8_number) := goodIn_app (qag qsf [969, 970, 971, 15] rfl (by decide +kernel)) ggX2_readHare_X8_number
set_option maxRecDepth 20000 in
theorem ggX2_readHare_X8_needs : GoodIn wsX2_readHare wsX8_needs := qaf qsf (by decide +kernel) qAz
set_option maxRecDepth 20000 in
theorem gX2_readHare_X8_needs : GoodIn wsX2_readHare (wsV RX2 97 RX8 yX8_needs wsX8_needs) := goodIn_app (qag qsf [978, 979, 980, 15] rfl (by decide +kernel)) ggX2_readHare_X8_needs
set_option maxRecDepth 20000 in
theorem ggX2_readFox_X8_blameToken : GoodIn wsX2_readFox wsX8_blameToken := qaf qve (by decide +kernel) qud
set_option maxRecDepth 20000 in
theorem gX2_readFox_X8_blameToken : GoodIn wsX2_readFox (wsV RX2 89 RX8 yX8_blameToken wsX8_blameToken) := goodIn_app (qag qve [961, 962, 963, 15] rfl (by decide +kernel)) ggX2_readFox_X8_blameToken
set_option maxRecDepth 20000 in
theorem ggX2_readFox_X8_number : GoodIn wsX2_readFox wsX8_number := qaf qve (by decide +kernel) qBu
set_option maxRecDepth 20000 in
theorem gX2_readFox_X8_number : GoodIn wsX2_readFox (wsV RX2 93 RX8 yX8_number wsX8_number) := goodIn_app (qag qve [969, 970, 971, 15] rfl (by decide +kernel)) ggX2_readFox_X8_number
set_option maxRecDepth 20000 in
theorem ggX2_readFox_X8_needs : GoodIn wsX2_readFox wsX8_needs := qaf qve (by decide +kernel) qAz
set_option maxRecDepth 20000 in
theorem gX2_readFox_X8_needs : GoodIn wsX2_readFox (wsV RX2 97 RX8 yX8_needs wsX8_needs) := goodIn_app (qag qve [978, 979, 980, 15] rfl (by decide +kernel)) ggX2_readFox_X8_needs
set_option maxRecDepth 20000 in
theorem ggX2_readDebt_X8_blameToken : GoodIn wsX2_readDebt wsX8_blameToken := qaf qr9 (by decide +kernel) qud
set_option maxRecDepth 20000 in
theorem gX2_readDebt_X8_blameToken : GoodIn wsX2_readDebt (wsV RX2 89 RX8 yX8_blameToken wsX8_blameToken) := goodIn_app (qag qr9 [961, 962, 963, 15] rfl (by decide +kernel)) ggX2_readDebt_X8_blameToken
set_option maxRecDepth 20000 in
theorem ggX2_readDebt_X8_number : GoodIn wsX2_readDebt wsX8_number := qaf qr9 (by decide +kernel) qBu
set_option maxRecDepth 20000 in
theorem gX2_readDebt_X8_number : GoodIn wsX2_readDebt (wsV RX2 93 RX8 yX8_number wsX8_number) := goodIn_app (qag qr9 [969, 970, 971, 15] rfl (by decide +kernel)) ggX2_readDebt_X8_number
set_option maxRecDepth 20000 in
theorem ggX2_readDebt_X8_needs : GoodIn wsX2_readDebt wsX8_needs := qaf qr9 (by decide +kernel) qAz
set_option maxRecDepth 20000 in
theorem gX2_readDebt_X8_needs : GoodIn wsX2_readDebt (wsV RX2 97 RX8 yX8_needs wsX8_needs) := goodIn_app (qag qr9 [978, 979, 980, 15] rfl (by decide +kernel)) ggX2_readDebt_X8_needs
set_option maxRecDepth 20000 in
theorem ggX2_readDebt_X8_isFaulty : GoodIn wsX2_readDebt wsX8_isFaulty := qaf qr9 (by decide +kernel) qoR
set_option maxRecDepth 20000 in
theorem gX2_readDebt_X8_isFaulty : GoodIn wsX2_readDebt (wsV RX2 46 RX8 yX8_isFaulty wsX8_isFaulty) := goodIn_app (qag qr9 [723, 724, 725, 15] rfl (by decide +kernel)) ggX2_readDebt_X8_isFaulty
set_option maxRecDepth 20000 in
theorem ggX2_findSafe_X2_foxIsNear : GoodIn wsX2_findSafe wsX2_foxIsNear := qaf qIb (by decide +kernel) qaJV
set_option maxRecDepth 20000 in
theorem gX2_findSafe_X2_foxIsNear : GoodIn wsX2_findSafe (wsV RX2 104 RX2 yX2_foxIsNear wsX2_foxIsNear) := goodIn_app (qag qIb [1088, 1089, 1090, 19] rfl (by decide +kernel)) ggX2_findSafe_X2_foxIsNear
set_option maxRecDepth 20000 in
theorem ggX2_isSafe_X10_holds : GoodIn wsX2_isSafe wsX10_holds := qaf qPn (by decide +kernel) qq0
set_option maxRecDepth 20000 in
theorem gX2_isSafe_X10_holds_n114 : GoodIn wsX2_isSafe (wsX10_holds) := ggX2_isSafe_X10_holds
set_option maxRecDepth 20000 in
theorem ggX2_formsWithin_X2_apart : GoodIn wsX2_formsWithin wsX2_apart := qaf qE6 (by decide +kernel) qOu
set_option maxRecDepth 20000 in
theorem gX2_formsWithin_X2_apart : GoodIn wsX2_formsWithin (wsV RX2 118 RX2 yX2_apart wsX2_apart) := goodIn_app (qag qE6 [3025, 1750, 1751, 19] rfl (by decide +kernel)) ggX2_formsWithin_X2_apart
set_option maxRecDepth 20000 in
theorem ggX2_hopsBetween_X10_holds : GoodIn wsX2_hopsBetween wsX10_holds := qaf quC (by decide +kernel) qq0
set_option maxRecDepth 20000 in
theorem gX2_hopsBetween_X10_holds_n114 : GoodIn wsX2_hopsBetween (wsX10_holds) := ggX2_hopsBetween_X10_holds
set_option maxRecDepth 20000 in
theorem ggX2_hopsBetween_X2_formsWithin : GoodIn wsX2_hopsBetween wsX2_formsWithin := qaf quC (by decide +kernel) qMH
set_option maxRecDepth 20000 in
theorem gX2_hopsBetween_X2_formsWithin : GoodIn wsX2_hopsBetween (wsV RX2 121 RX2 yX2_formsWithin wsX2_formsWithin) := goodIn_app (qag quC [3021, 3022, 3023, 19] rfl (by decide +kernel)) ggX2_hopsBetween_X2_formsWithin
set_option maxRecDepth 20000 in
theorem ggX2_watchers_X2_formsWithin : GoodIn wsX2_watchers wsX2_formsWithin := qaf qva (by decide +kernel) qMH
set_option maxRecDepth 20000 in
theorem gX2_watchers_X2_formsWithin : GoodIn wsX2_watchers (wsV RX2 121 RX2 yX2_formsWithin wsX2_formsWithin) := goodIn_app (qag qva [3021, 3022, 3023, 19] rfl (by decide +kernel)) ggX2_watchers_X2_formsWithin
set_option maxRecDepth 20000 in
theorem ggX2_watchers_J6_bitCount_0f7a4 : GoodIn wsX2_watchers wsJ6_bitCount_0f7a4 := qaf qva (by decide +kernel) qFm
set_option maxRecDepth 20000 in
theorem gX2_watchers_J6_bitCount_0f7a4 : GoodIn wsX2_watchers (va_wsS RX2 124 yJ6_bitCount_0f7a4 wsJ6_bitCount_0f7a4) := goodIn_app (qag qva [3670, 1802, 1803] rfl (by decide +kernel)) ggX2_watchers_J6_bitCount_0f7a4
set_option maxRecDepth 20000 in
theorem ggX2_watchers_X2_seenFrom : GoodIn wsX2_watchers wsX2_seenFrom := qaf qva (by decide +kernel) qaNq
set_option maxRecDepth 20000 in
theorem gX2_watchers_X2_seenFrom : GoodIn wsX2_watchers (wsV RX2 129 RX2 yX2_seenFrom wsX2_seenFrom) := goodIn_app (qag qva [3671, 3712, 3713, 19] rfl (by decide +kernel)) ggX2_watchers_X2_seenFrom
set_option maxRecDepth 20000 in
theorem ggX2_seenFrom_X10_holds : GoodIn wsX2_seenFrom wsX10_holds := qaf qCF (by decide +kernel) qq0
set_option maxRecDepth 20000 in
theorem gX2_seenFrom_X10_holds_n114 : GoodIn wsX2_seenFrom (wsX10_holds) := ggX2_seenFrom_X10_holds
set_option maxRecDepth 20000 in
theorem ggX3_settle_X1_seatedIn : GoodIn wsX3_settle wsX1_seatedIn := qaf qh2 (by decide +kernel) qWL
set_option maxRecDepth 20000 in
theorem gX3_settle_X1_seatedIn : GoodIn wsX3_settle (wsV RX3 51 RX1 yX1_seatedIn wsX1_seatedIn) := goodIn_app (qag qh2 [3474, 1798, 1799, 78] rfl (by decide +kernel)) ggX3_settle_X1_seatedIn
set_option maxRecDepth 20000 in
theorem ggX3_settle_J6_bitCount_0f7a4 : GoodIn wsX3_settle wsJ6_bitCount_0f7a4 := qaf qh2 (by decide +kernel) qFm
set_option maxRecDepth 20000 in
theorem gX3_settle_J6_bitCount_0f7a4 : GoodIn wsX3_settle (va_wsS RX3 55 yJ6_bitCount_0f7a4 wsJ6_bitCount_0f7a4) := goodIn_app (qag qh2 [3475, 1802, 1803] rfl (by decide +kernel)) ggX3_settle_J6_bitCount_0f7a4
set_option maxRecDepth 20000 in
theorem ggX3_settle_X1_sits : GoodIn wsX3_settle wsX1_sits := qaf qh2 (by decide +kernel) qEh
set_option maxRecDepth 20000 in
theorem gX3_settle_X1_sits : GoodIn wsX3_settle (wsV RX3 60 RX1 yX1_sits wsX1_sits) := goodIn_app (qag qh2 [3476, 1746, 1747, 78] rfl (by decide +kernel)) ggX3_settle_X1_sits
set_option maxRecDepth 20000 in
theorem ggX3_settle_X1_isCaught : GoodIn wsX3_settle wsX1_isCaught := qaf qh2 (by decide +kernel) qoU
set_option maxRecDepth 20000 in
theorem gX3_settle_X1_isCaught : GoodIn wsX3_settle (wsV RX3 62 RX1 yX1_isCaught wsX1_isCaught) := goodIn_app (qag qh2 [3477, 1742, 1743, 78] rfl (by decide +kernel)) ggX3_settle_X1_isCaught
set_option maxRecDepth 20000 in
theorem ggX3_settle_X3_formsFor : GoodIn wsX3_settle wsX3_formsFor := qaf qh2 (by decide +kernel) qaPq
set_option maxRecDepth 20000 in
theorem gX3_settle_X3_formsFor : GoodIn wsX3_settle (wsV RX3 66 RX3 yX3_formsFor wsX3_formsFor) := goodIn_app (qag qh2 [3478, 3479, 3520, 136] rfl (by decide +kernel)) ggX3_settle_X3_formsFor
set_option maxRecDepth 20000 in
theorem ggX3_formsFor_X3_allRight : GoodIn wsX3_formsFor wsX3_allRight := qaf qC9 (by decide +kernel) qaP6
set_option maxRecDepth 20000 in
theorem gX3_formsFor_X3_allRight : GoodIn wsX3_formsFor (wsV RX3 69 RX3 yX3_allRight wsX3_allRight) := goodIn_app (qag qC9 [3522, 3523, 3524, 136] rfl (by decide +kernel)) ggX3_formsFor_X3_allRight
set_option maxRecDepth 20000 in
theorem ggX3_allRight_X3_seatedThen : GoodIn wsX3_allRight wsX3_seatedThen := qaf qzM (by decide +kernel) q2B
set_option maxRecDepth 20000 in
theorem gX3_allRight_X3_seatedThen : GoodIn wsX3_allRight (wsV RX3 73 RX3 yX3_seatedThen wsX3_seatedThen) := goodIn_app (qag qzM [3526, 3527, 3528, 136] rfl (by decide +kernel)) ggX3_allRight_X3_seatedThen
set_option maxRecDepth 20000 in
theorem ggX3_allRight_X0_agrees : GoodIn wsX3_allRight wsX0_agrees := qaf qzM (by decide +kernel) qaXJ
set_option maxRecDepth 20000 in
theorem gX3_allRight_X0_agrees : GoodIn wsX3_allRight (wsV RX3 77 RX0 yX0_agrees wsX0_agrees) := goodIn_app (qag qzM [3530, 3531, 3532, 69] rfl (by decide +kernel)) ggX3_allRight_X0_agrees
set_option maxRecDepth 20000 in
theorem ggX3_lookAhead_X0_tells : GoodIn wsX3_lookAhead wsX0_tells := qaf qtM (by decide +kernel) qaMo
set_option maxRecDepth 20000 in
theorem gX3_lookAhead_X0_tells : GoodIn wsX3_lookAhead (wsV RX3 88 RX0 yX0_tells wsX0_tells) := goodIn_app (qag qtM [3601, 2439, 2440, 69] rfl (by decide +kernel)) ggX3_lookAhead_X0_tells
set_option maxRecDepth 20000 in
theorem ggX3_lookAhead_X3_worstAt : GoodIn wsX3_lookAhead wsX3_worstAt := qaf qtM (by decide +kernel) qaUu
set_option maxRecDepth 20000 in
theorem gX3_lookAhead_X3_worstAt : GoodIn wsX3_lookAhead (wsV RX3 91 RX3 yX3_worstAt wsX3_worstAt) := goodIn_app (qag qtM [3602, 3603, 3604, 136] rfl (by decide +kernel)) ggX3_lookAhead_X3_worstAt
set_option maxRecDepth 20000 in
theorem ggX3_worstAt_X10_holds : GoodIn wsX3_worstAt wsX10_holds := qaf qoz (by decide +kernel) qq0
set_option maxRecDepth 20000 in
theorem gX3_worstAt_X10_holds_n94 : GoodIn wsX3_worstAt (wsX10_holds) := ggX3_worstAt_X10_holds
set_option maxRecDepth 20000 in
theorem ggX3_worstAt_X3_seatedThen : GoodIn wsX3_worstAt wsX3_seatedThen := qaf qoz (by decide +kernel) q2B
set_option maxRecDepth 20000 in
theorem gX3_worstAt_X3_seatedThen : GoodIn wsX3_worstAt (wsV RX3 73 RX3 yX3_seatedThen wsX3_seatedThen) := goodIn_app (qag qoz [3526, 3527, 3528, 136] rfl (by decide +kernel)) ggX3_worstAt_X3_seatedThen
set_option maxRecDepth 20000 in
theorem ggX3_worstAt_X3_tallied : GoodIn wsX3_worstAt wsX3_tallied := qaf qoz (by decide +kernel) qaVk
set_option maxRecDepth 20000 in
theorem gX3_worstAt_X3_tallied : GoodIn wsX3_worstAt (wsV RX3 97 RX3 yX3_tallied wsX3_tallied) := goodIn_app (qag qoz [3607, 3648, 3649, 136] rfl (by decide +kernel)) ggX3_worstAt_X3_tallied
set_option maxRecDepth 20000 in
theorem ggX3_tallied_X10_within : GoodIn wsX3_tallied wsX10_within := qaf qLh (by decide +kernel) qCb
set_option maxRecDepth 20000 in
theorem gX3_tallied_X10_within_n106 : GoodIn wsX3_tallied (wsX10_within) := ggX3_tallied_X10_within
set_option maxRecDepth 20000 in
theorem ggX4_init_X4_setPlain : GoodIn wsX4_init wsX4_setPlain := qaf qCe (by decide +kernel) qadB
set_option maxRecDepth 20000 in
theorem gX4_init_X4_setPlain : GoodIn wsX4_init (wsV RX4 24 RX4 yX4_setPlain wsX4_setPlain) := goodIn_app (qag qCe [204, 205, 206, 64] rfl (by decide +kernel)) ggX4_init_X4_setPlain
set_option maxRecDepth 20000 in
theorem ggX4_setPlain_X4_add : GoodIn wsX4_setPlain wsX4_add := qaf qOg (by decide +kernel) q5s
set_option maxRecDepth 20000 in
theorem gX4_setPlain_X4_add : GoodIn wsX4_setPlain (wsV RX4 31 RX4 yX4_add wsX4_add) := goodIn_app (qag qOg [209, 210, 211, 64] rfl (by decide +kernel)) ggX4_setPlain_X4_add
set_option maxRecDepth 20000 in
theorem ggX4_readFrom_X4_readSum : GoodIn wsX4_readFrom wsX4_readSum := qaf qCJ (by decide +kernel) q3Z
set_option maxRecDepth 20000 in
theorem gX4_readFrom_X4_readSum : GoodIn wsX4_readFrom (wsV RX4 35 RX4 yX4_readSum wsX4_readSum) := goodIn_app (qag qCJ [1353, 1354, 1355, 64] rfl (by decide +kernel)) ggX4_readFrom_X4_readSum
set_option maxRecDepth 20000 in
theorem ggX4_readFrom_X8_needsEnd : GoodIn wsX4_readFrom wsX8_needsEnd := qaf qCJ (by decide +kernel) qaQN
set_option maxRecDepth 20000 in
theorem gX4_readFrom_X8_needsEnd : GoodIn wsX4_readFrom (wsV RX4 39 RX8 yX8_needsEnd wsX8_needsEnd) := goodIn_app (qag qCJ [1428, 1429, 1430, 15] rfl (by decide +kernel)) ggX4_readFrom_X8_needsEnd
set_option maxRecDepth 20000 in
theorem ggX4_readSum_X4_readProduct : GoodIn wsX4_readSum wsX4_readProduct := qaf qy6 (by decide +kernel) qas0
set_option maxRecDepth 20000 in
theorem gX4_readSum_X4_readProduct : GoodIn wsX4_readSum (wsV RX4 44 RX4 yX4_readProduct wsX4_readProduct) := goodIn_app (qag qy6 [1357, 1358, 1359, 64] rfl (by decide +kernel)) ggX4_readSum_X4_readProduct
set_option maxRecDepth 20000 in
theorem ggX4_readSum_X8_isFaulty : GoodIn wsX4_readSum wsX8_isFaulty := qaf qy6 (by decide +kernel) qoR
set_option maxRecDepth 20000 in
theorem gX4_readSum_X8_isFaulty : GoodIn wsX4_readSum (wsV RX4 47 RX8 yX8_isFaulty wsX8_isFaulty) := goodIn_app (qag qy6 [1360, 724, 725, 15] rfl (by decide +kernel)) ggX4_readSum_X8_isFaulty
set_option maxRecDepth 20000 in
theorem ggX4_readSum_X8_takes : GoodIn wsX4_readSum wsX8_takes := qaf qy6 (by decide +kernel) qU9
set_option maxRecDepth 20000 in
theorem gX4_readSum_X8_takes : GoodIn wsX4_readSum (wsV RX4 51 RX8 yX8_takes wsX8_takes) := goodIn_app (qag qy6 [1361, 983, 1024, 15] rfl (by decide +kernel)) ggX4_readSum_X8_takes
set_option maxRecDepth 20000 in
theorem ggX4_readSum_X4_add : GoodIn wsX4_readSum wsX4_add := qaf qy6 (by decide +kernel) q5s
set_option maxRecDepth 20000 in
theorem gX4_readSum_X4_add : GoodIn wsX4_readSum (wsV RX4 31 RX4 yX4_add wsX4_add) := goodIn_app (qag qy6 [209, 210, 211, 64] rfl (by decide +kernel)) ggX4_readSum_X4_add
set_option maxRecDepth 20000 in
theorem ggX4_readProduct_X4_readUnit : GoodIn wsX4_readProduct wsX4_readUnit := qaf qsz (by decide +kernel) qaRx
set_option maxRecDepth 20000 in
theorem gX4_readProduct_X4_readUnit : GoodIn wsX4_readProduct (wsV RX4 55 RX4 yX4_readUnit wsX4_readUnit) := goodIn_app (qag qsz [1367, 1408, 1409, 64] rfl (by decide +kernel)) ggX4_readProduct_X4_readUnit
set_option maxRecDepth 20000 in
theorem ggX4_readProduct_X8_isFaulty : GoodIn wsX4_readProduct wsX8_isFaulty := qaf qsz (by decide +kernel) qoR
set_option maxRecDepth 20000 in
theorem gX4_readProduct_X8_isFaulty : GoodIn wsX4_readProduct (wsV RX4 47 RX8 yX8_isFaulty wsX8_isFaulty) := goodIn_app (qag qsz [1360, 724, 725, 15] rfl (by decide +kernel)) ggX4_readProduct_X8_isFaulty
set_option maxRecDepth 20000 in
theorem ggX4_readProduct_X8_takes : GoodIn wsX4_readProduct wsX8_takes := qaf qsz (by decide +kernel) qU9
set_option maxRecDepth 20000 in
theorem gX4_readProduct_X8_takes : GoodIn wsX4_readProduct (wsV RX4 51 RX8 yX8_takes wsX8_takes) := goodIn_app (qag qsz [1361, 983, 1024, 15] rfl (by decide +kernel)) ggX4_readProduct_X8_takes
set_option maxRecDepth 20000 in
theorem ggX4_readProduct_X4_add : GoodIn wsX4_readProduct wsX4_add := qaf qsz (by decide +kernel) q5s
set_option maxRecDepth 20000 in
theorem gX4_readProduct_X4_add : GoodIn wsX4_readProduct (wsV RX4 31 RX4 yX4_add wsX4_add) := goodIn_app (qag qsz [209, 210, 211, 64] rfl (by decide +kernel)) ggX4_readProduct_X4_add
set_option maxRecDepth 20000 in
theorem ggX4_readUnit_X8_seesDigit : GoodIn wsX4_readUnit wsX8_seesDigit := qaf qly (by decide +kernel) qaEV
set_option maxRecDepth 20000 in
theorem gX4_readUnit_X8_seesDigit : GoodIn wsX4_readUnit (wsV RX4 58 RX8 yX8_seesDigit wsX8_seesDigit) := goodIn_app (qag qly [1411, 1412, 1413, 15] rfl (by decide +kernel)) ggX4_readUnit_X8_seesDigit
set_option maxRecDepth 20000 in
theorem ggX4_readUnit_X8_number : GoodIn wsX4_readUnit wsX8_number := qaf qly (by decide +kernel) qBu
set_option maxRecDepth 20000 in
theorem gX4_readUnit_X8_number : GoodIn wsX4_readUnit (wsV RX4 61 RX8 yX8_number wsX8_number) := goodIn_app (qag qly [1415, 970, 971, 15] rfl (by decide +kernel)) ggX4_readUnit_X8_number
set_option maxRecDepth 20000 in
theorem ggX4_readUnit_X4_add : GoodIn wsX4_readUnit wsX4_add := qaf qly (by decide +kernel) q5s
set_option maxRecDepth 20000 in
theorem gX4_readUnit_X4_add : GoodIn wsX4_readUnit (wsV RX4 31 RX4 yX4_add wsX4_add) := goodIn_app (qag qly [209, 210, 211, 64] rfl (by decide +kernel)) ggX4_readUnit_X4_add
set_option maxRecDepth 20000 in
theorem ggX4_readUnit_X8_takes : GoodIn wsX4_readUnit wsX8_takes := qaf qly (by decide +kernel) qU9
set_option maxRecDepth 20000 in
theorem gX4_readUnit_X8_takes : GoodIn wsX4_readUnit (wsV RX4 51 RX8 yX8_takes wsX8_takes) := goodIn_app (qag qly [1361, 983, 1024, 15] rfl (by decide +kernel)) ggX4_readUnit_X8_takes
set_option maxRecDepth 20000 in
theorem ggX4_readUnit_X4_readInner : GoodIn wsX4_readUnit wsX4_readInner := qaf qly (by decide +kernel) qaJ2
set_option maxRecDepth 20000 in
theorem gX4_readUnit_X4_readInner : GoodIn wsX4_readUnit (wsV RX4 65 RX4 yX4_readInner wsX4_readInner) := goodIn_app (qag qly [1416, 1417, 1418, 64] rfl (by decide +kernel)) ggX4_readUnit_X4_readInner
set_option maxRecDepth 20000 in
theorem ggX4_readUnit_X8_takesWord : GoodIn wsX4_readUnit wsX8_takesWord := qaf qly (by decide +kernel) qKD
set_option maxRecDepth 20000 in
theorem gX4_readUnit_X8_takesWord : GoodIn wsX4_readUnit (wsV RX4 70 RX8 yX8_takesWord wsX8_takesWord) := goodIn_app (qag qly [1419, 780, 781, 15] rfl (by decide +kernel)) ggX4_readUnit_X8_takesWord
set_option maxRecDepth 20000 in
theorem ggX4_readUnit_X4_readPair : GoodIn wsX4_readUnit wsX4_readPair := qaf qly (by decide +kernel) qaNw
set_option maxRecDepth 20000 in
theorem gX4_readUnit_X4_readPair : GoodIn wsX4_readUnit (wsV RX4 74 RX4 yX4_readPair wsX4_readPair) := goodIn_app (qag qly [1420, 1421, 1422, 64] rfl (by decide +kernel)) ggX4_readUnit_X4_readPair
set_option maxRecDepth 20000 in
theorem ggX4_readUnit_X4_readFact : GoodIn wsX4_readUnit wsX4_readFact := qaf qly (by decide +kernel) qaN7
set_option maxRecDepth 20000 in
theorem gX4_readUnit_X4_readFact : GoodIn wsX4_readUnit (wsV RX4 80 RX4 yX4_readFact wsX4_readFact) := goodIn_app (qag qly [1423, 1424, 1425, 64] rfl (by decide +kernel)) ggX4_readUnit_X4_readFact
set_option maxRecDepth 20000 in
theorem ggX4_readInner_X8_blameToken : GoodIn wsX4_readInner wsX8_blameToken := qaf qAq (by decide +kernel) qud
set_option maxRecDepth 20000 in
theorem gX4_readInner_X8_blameToken : GoodIn wsX4_readInner (wsV RX4 84 RX8 yX8_blameToken wsX8_blameToken) := goodIn_app (qag qAq [1363, 962, 963, 15] rfl (by decide +kernel)) ggX4_readInner_X8_blameToken
set_option maxRecDepth 20000 in
theorem ggX4_readInner_X4_readSum : GoodIn wsX4_readInner wsX4_readSum := qaf qAq (by decide +kernel) q3Z
set_option maxRecDepth 20000 in
theorem gX4_readInner_X4_readSum : GoodIn wsX4_readInner (wsV RX4 35 RX4 yX4_readSum wsX4_readSum) := goodIn_app (qag qAq [1353, 1354, 1355, 64] rfl (by decide +kernel)) ggX4_readInner_X4_readSum
set_option maxRecDepth 20000 in
theorem ggX4_readInner_X8_needs : GoodIn wsX4_readInner wsX8_needs := qaf qAq (by decide +kernel) qAz
set_option maxRecDepth 20000 in
theorem gX4_readInner_X8_needs : GoodIn wsX4_readInner (wsV RX4 88 RX8 yX8_needs wsX8_needs) := goodIn_app (qag qAq [1364, 979, 980, 15] rfl (by decide +kernel)) ggX4_readInner_X8_needs
set_option maxRecDepth 20000 in
theorem ggX4_readPair_X8_blameToken : GoodIn wsX4_readPair wsX8_blameToken := qaf qwH (by decide +kernel) qud
set_option maxRecDepth 20000 in
theorem gX4_readPair_X8_blameToken : GoodIn wsX4_readPair (wsV RX4 84 RX8 yX8_blameToken wsX8_blameToken) := goodIn_app (qag qwH [1363, 962, 963, 15] rfl (by decide +kernel)) ggX4_readPair_X8_blameToken
set_option maxRecDepth 20000 in
theorem ggX4_readPair_X8_needs : GoodIn wsX4_readPair wsX8_needs := qaf qwH (by decide +kernel) qAz
set_option maxRecDepth 20000 in
theorem gX4_readPair_X8_needs : GoodIn wsX4_readPair (wsV RX4 88 RX8 yX8_needs wsX8_needs) := goodIn_app (qag qwH [1364, 979, 980, 15] rfl (by decide +kernel)) ggX4_readPair_X8_needs
set_option maxRecDepth 20000 in
theorem ggX4_readPair_X4_readSum : GoodIn wsX4_readPair wsX4_readSum := qaf qwH (by decide +kernel) q3Z
set_option maxRecDepth 20000 in
theorem gX4_readPair_X4_readSum : GoodIn wsX4_readPair (wsV RX4 35 RX4 yX4_readSum wsX4_readSum) := goodIn_app (qag qwH [1353, 1354, 1355, 64] rfl (by decide +kernel)) ggX4_readPair_X4_readSum
set_option maxRecDepth 20000 in
theorem ggX4_readPair_X4_add : GoodIn wsX4_readPair wsX4_add := qaf qwH (by decide +kernel) q5s
set_option maxRecDepth 20000 in
theorem gX4_readPair_X4_add : GoodIn wsX4_readPair (wsV RX4 31 RX4 yX4_add wsX4_add) := goodIn_app (qag qwH [209, 210, 211, 64] rfl (by decide +kernel)) ggX4_readPair_X4_add
set_option maxRecDepth 20000 in
theorem ggX4_readFact_X8_takesWord : GoodIn wsX4_readFact wsX8_takesWord := qaf qCE (by decide +kernel) qKD
set_option maxRecDepth 20000 in
theorem gX4_readFact_X8_takesWord : GoodIn wsX4_readFact (wsV RX4 70 RX8 yX8_takesWord wsX8_takesWord) := goodIn_app (qag qCE [1419, 780, 781, 15] rfl (by decide +kernel)) ggX4_readFact_X8_takesWord
set_option maxRecDepth 20000 in
theorem ggX4_readFact_X4_add : GoodIn wsX4_readFact wsX4_add := qaf qCE (by decide +kernel) q5s
set_option maxRecDepth 20000 in
theorem gX4_readFact_X4_add : GoodIn wsX4_readFact (wsV RX4 31 RX4 yX4_add wsX4_add) := goodIn_app (qag qCE [209, 210, 211, 64] rfl (by decide +kernel)) ggX4_readFact_X4_add
set_option maxRecDepth 20000 in
theorem ggX4_readFact_X8_blameSign : GoodIn wsX4_readFact wsX8_blameSign := qaf qCE (by decide +kernel) qEi
set_option maxRecDepth 20000 in
theorem gX4_readFact_X8_blameSign : GoodIn wsX4_readFact (wsV RX4 108 RX8 yX8_blameSign wsX8_blameSign) := goodIn_app (qag qCE [1427, 1027, 1028, 15] rfl (by decide +kernel)) ggX4_readFact_X8_blameSign
set_option maxRecDepth 20000 in
theorem ggX4_reach_X4_joined : GoodIn wsX4_reach wsX4_joined := qaf qsY (by decide +kernel) qaZp
set_option maxRecDepth 20000 in
theorem gX4_reach_X4_joined : GoodIn wsX4_reach (va_wsS RX4 111 yX4_joined wsX4_joined) := goodIn_app (qag qsY [1932, 1933, 64] rfl (by decide +kernel)) ggX4_reach_X4_joined
set_option maxRecDepth 20000 in
theorem ggX6_settle_X6_settleFor : GoodIn wsX6_settle wsX6_settleFor := qaf qvX (by decide +kernel) qaGV
set_option maxRecDepth 20000 in
theorem gX6_settle_X6_settleFor : GoodIn wsX6_settle (wsV RX6 27 RX6 yX6_settleFor wsX6_settleFor) := goodIn_app (qag qvX [3266, 3267, 3268, 128] rfl (by decide +kernel)) ggX6_settle_X6_settleFor
set_option maxRecDepth 20000 in
theorem ggX6_settle_X6_leastWay : GoodIn wsX6_settle wsX6_leastWay := qaf qvX (by decide +kernel) qaef
set_option maxRecDepth 20000 in
theorem gX6_settle_X6_leastWay : GoodIn wsX6_settle (wsV RX6 31 RX6 yX6_leastWay wsX6_leastWay) := goodIn_app (qag qvX [3270, 3271, 3272, 128] rfl (by decide +kernel)) ggX6_settle_X6_leastWay
set_option maxRecDepth 20000 in
theorem ggX6_settle_X6_walk : GoodIn wsX6_settle wsX6_walk := qaf qvX (by decide +kernel) qa5R
set_option maxRecDepth 20000 in
theorem gX6_settle_X6_walk : GoodIn wsX6_settle (wsV RX6 35 RX6 yX6_walk wsX6_walk) := goodIn_app (qag qvX [3281, 3282, 3283, 128] rfl (by decide +kernel)) ggX6_settle_X6_walk
set_option maxRecDepth 20000 in
theorem ggX6_settleFor_X10_holds : GoodIn wsX6_settleFor wsX10_holds := qaf qtB (by decide +kernel) qq0
set_option maxRecDepth 20000 in
theorem gX6_settleFor_X10_holds_n38 : GoodIn wsX6_settleFor (wsX10_holds) := ggX6_settleFor_X10_holds
set_option maxRecDepth 20000 in
theorem ggX6_settleFor_X6_leastWay : GoodIn wsX6_settleFor wsX6_leastWay := qaf qtB (by decide +kernel) qaef
set_option maxRecDepth 20000 in
theorem gX6_settleFor_X6_leastWay : GoodIn wsX6_settleFor (wsV RX6 31 RX6 yX6_leastWay wsX6_leastWay) := goodIn_app (qag qtB [3270, 3271, 3272, 128] rfl (by decide +kernel)) ggX6_settleFor_X6_leastWay
set_option maxRecDepth 20000 in
theorem ggX6_leastWay_X2_apart : GoodIn wsX6_leastWay wsX2_apart := qaf qoX (by decide +kernel) qOu
set_option maxRecDepth 20000 in
theorem gX6_leastWay_X2_apart : GoodIn wsX6_leastWay (wsV RX6 42 RX2 yX2_apart wsX2_apart) := goodIn_app (qag qoX [3276, 1750, 1751, 19] rfl (by decide +kernel)) ggX6_leastWay_X2_apart
set_option maxRecDepth 20000 in
theorem ggX6_leastWay_X10_holds : GoodIn wsX6_leastWay wsX10_holds := qaf qoX (by decide +kernel) qq0
set_option maxRecDepth 20000 in
theorem gX6_leastWay_X10_holds_n38 : GoodIn wsX6_leastWay (wsX10_holds) := ggX6_leastWay_X10_holds
set_option maxRecDepth 20000 in
theorem ggX6_leastWay_X6_wayOver : GoodIn wsX6_leastWay wsX6_wayOver := qaf qoX (by decide +kernel) qaor
set_option maxRecDepth 20000 in
theorem gX6_leastWay_X6_wayOver : GoodIn wsX6_leastWay (wsV RX6 49 RX6 yX6_wayOver wsX6_wayOver) := goodIn_app (qag qoX [3277, 3278, 3279, 128] rfl (by decide +kernel)) ggX6_leastWay_X6_wayOver
set_option maxRecDepth 20000 in
theorem ggX6_wayOver_X2_apart : GoodIn wsX6_wayOver wsX2_apart := qaf qRV (by decide +kernel) qOu
set_option maxRecDepth 20000 in
theorem gX6_wayOver_X2_apart : GoodIn wsX6_wayOver (wsV RX6 42 RX2 yX2_apart wsX2_apart) := goodIn_app (qag qRV [3276, 1750, 1751, 19] rfl (by decide +kernel)) ggX6_wayOver_X2_apart
set_option maxRecDepth 20000 in
theorem ggX6_walk_X6_firstBest : GoodIn wsX6_walk wsX6_firstBest := qaf qV8 (by decide +kernel) qaFN
set_option maxRecDepth 20000 in
theorem gX6_walk_X6_firstBest : GoodIn wsX6_walk (wsV RX6 58 RX6 yX6_firstBest wsX6_firstBest) := goodIn_app (qag qV8 [3285, 3286, 3287, 128] rfl (by decide +kernel)) ggX6_walk_X6_firstBest
set_option maxRecDepth 20000 in
theorem ggX6_firstBest_X10_holds : GoodIn wsX6_firstBest wsX10_holds := qaf qtI (by decide +kernel) qq0
set_option maxRecDepth 20000 in
theorem gX6_firstBest_X10_holds_n38 : GoodIn wsX6_firstBest (wsX10_holds) := ggX6_firstBest_X10_holds
set_option maxRecDepth 20000 in
theorem ggX6_firstBest_X6_wayOver : GoodIn wsX6_firstBest wsX6_wayOver := qaf qtI (by decide +kernel) qaor
set_option maxRecDepth 20000 in
theorem gX6_firstBest_X6_wayOver : GoodIn wsX6_firstBest (wsV RX6 49 RX6 yX6_wayOver wsX6_wayOver) := goodIn_app (qag qtI [3277, 3278, 3279, 128] rfl (by decide +kernel)) ggX6_firstBest_X6_wayOver
set_option maxRecDepth 20000 in
theorem ggX7_settle_X7_allowedTo : GoodIn wsX7_settle wsX7_allowedTo := qaf qq8 (by decide +kernel) qaLb
set_option maxRecDepth 20000 in
theorem gX7_settle_X7_allowedTo : GoodIn wsX7_settle (wsV RX7 36 RX7 yX7_allowedTo wsX7_allowedTo) := goodIn_app (qag qq8 [3083, 3084, 3085, 132] rfl (by decide +kernel)) ggX7_settle_X7_allowedTo
set_option maxRecDepth 20000 in
theorem ggX7_settle_X7_mostFrom : GoodIn wsX7_settle wsX7_mostFrom := qaf qq8 (by decide +kernel) qaPD
set_option maxRecDepth 20000 in
theorem gX7_settle_X7_mostFrom : GoodIn wsX7_settle (wsV RX7 40 RX7 yX7_mostFrom wsX7_mostFrom) := goodIn_app (qag qq8 [3094, 3095, 3136, 132] rfl (by decide +kernel)) ggX7_settle_X7_mostFrom
set_option maxRecDepth 20000 in
theorem ggX7_settle_X7_give : GoodIn wsX7_settle wsX7_give := qaf qq8 (by decide +kernel) qa7w
set_option maxRecDepth 20000 in
theorem gX7_settle_X7_give : GoodIn wsX7_settle (wsV RX7 47 RX7 yX7_give wsX7_give) := goodIn_app (qag qq8 [3143, 3144, 3145, 132] rfl (by decide +kernel)) ggX7_settle_X7_give
set_option maxRecDepth 20000 in
theorem ggX7_allowedTo_X1_isCaught : GoodIn wsX7_allowedTo wsX1_isCaught := qaf qrK (by decide +kernel) qoU
set_option maxRecDepth 20000 in
theorem gX7_allowedTo_X1_isCaught : GoodIn wsX7_allowedTo (wsV RX7 51 RX1 yX1_isCaught wsX1_isCaught) := goodIn_app (qag qrK [3088, 1742, 1743, 78] rfl (by decide +kernel)) ggX7_allowedTo_X1_isCaught
set_option maxRecDepth 20000 in
theorem ggX7_allowedTo_X1_leapable : GoodIn wsX7_allowedTo wsX1_leapable := qaf qrK (by decide +kernel) qafZ
set_option maxRecDepth 20000 in
theorem gX7_allowedTo_X1_leapable : GoodIn wsX7_allowedTo (wsV RX7 55 RX1 yX1_leapable wsX1_leapable) := goodIn_app (qag qrK [3089, 3090, 3091, 78] rfl (by decide +kernel)) ggX7_allowedTo_X1_leapable
set_option maxRecDepth 20000 in
theorem ggX7_allowedTo_X1_sits : GoodIn wsX7_allowedTo wsX1_sits := qaf qrK (by decide +kernel) qEh
set_option maxRecDepth 20000 in
theorem gX7_allowedTo_X1_sits : GoodIn wsX7_allowedTo (wsV RX7 59 RX1 yX1_sits wsX1_sits) := goodIn_app (qag qrK [3093, 1746, 1747, 78] rfl (by decide +kernel)) ggX7_allowedTo_X1_sits
set_option maxRecDepth 20000 in
theorem ggX7_mostFrom_X7_mostBehind : GoodIn wsX7_mostFrom wsX7_mostBehind := qaf qrT (by decide +kernel) q0G
set_option maxRecDepth 20000 in
theorem gX7_mostFrom_X7_mostBehind : GoodIn wsX7_mostFrom (wsV RX7 65 RX7 yX7_mostBehind wsX7_mostBehind) := goodIn_app (qag qrT [3139, 3140, 3141, 132] rfl (by decide +kernel)) ggX7_mostFrom_X7_mostBehind
set_option maxRecDepth 20000 in
theorem ggX7_mostFrom_X10_holds : GoodIn wsX7_mostFrom wsX10_holds := qaf qrT (by decide +kernel) qq0
set_option maxRecDepth 20000 in
theorem gX7_mostFrom_X10_holds_n68 : GoodIn wsX7_mostFrom (wsX10_holds) := ggX7_mostFrom_X10_holds
set_option maxRecDepth 20000 in
theorem ggX7_give_X7_firstBest : GoodIn wsX7_give wsX7_firstBest := qaf qahZ (by decide +kernel) qaKI
set_option maxRecDepth 20000 in
theorem gX7_give_X7_firstBest : GoodIn wsX7_give (wsV RX7 77 RX7 yX7_firstBest wsX7_firstBest) := goodIn_app (qag qahZ [3147, 3148, 3149, 132] rfl (by decide +kernel)) ggX7_give_X7_firstBest
set_option maxRecDepth 20000 in
theorem ggX7_firstBest_X10_holds : GoodIn wsX7_firstBest wsX10_holds := qaf qvf (by decide +kernel) qq0
set_option maxRecDepth 20000 in
theorem gX7_firstBest_X10_holds_n68 : GoodIn wsX7_firstBest (wsX10_holds) := ggX7_firstBest_X10_holds
set_option maxRecDepth 20000 in
theorem ggX7_firstBest_X7_mostBehind : GoodIn wsX7_firstBest wsX7_mostBehind := qaf qvf (by decide +kernel) q0G
set_option maxRecDepth 20000 in
theorem gX7_firstBest_X7_mostBehind : GoodIn wsX7_firstBest (wsV RX7 65 RX7 yX7_mostBehind wsX7_mostBehind) := goodIn_app (qag qvf [3139, 3140, 3141, 132] rfl (by decide +kernel)) ggX7_firstBest_X7_mostBehind
set_option maxRecDepth 20000 in
theorem ggX8_blameSign_X8_skipBlanks : GoodIn wsX8_blameSign wsX8_skipBlanks := qaf qAw (by decide +kernel) qyu
set_option maxRecDepth 20000 in
theorem gX8_blameSign_X8_skipBlanks : GoodIn wsX8_blameSign (wsV RX8 40 RX8 yX8_skipBlanks wsX8_skipBlanks) := goodIn_app (qag qAw [771, 772, 773, 15] rfl (by decide +kernel)) ggX8_blameSign_X8_skipBlanks
set_option maxRecDepth 20000 in
theorem ggX8_blameSign_X8_blame : GoodIn wsX8_blameSign wsX8_blame := qaf qAw (by decide +kernel) qam4
set_option maxRecDepth 20000 in
theorem gX8_blameSign_X8_blame : GoodIn wsX8_blameSign (wsV RX8 43 RX8 yX8_blame wsX8_blame) := goodIn_app (qag qAw [965, 966, 967, 15] rfl (by decide +kernel)) ggX8_blameSign_X8_blame
