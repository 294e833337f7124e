def sX0_clear : List Nat := [257, 261, 262, 4672, 4673]
def wsX0_clear : List Cond := cw 261 :: wI sX0_clear
theorem mbX0_clear : ∀ i ∈ sX0_clear, cw i ∈ wsX0_clear := fun i h => List.mem_cons_of_mem _ (List.mem_map_of_mem h)
theorem okX0_clear : okM 261 sX0_clear = true := okM_by (by decide +kernel)
def sX0_init : List Nat := [11, 12, 69, 147, 215, 256, 257, 258, 259, 260, 261, 262, 4672, 4673]
def wsX0_init : List Cond := cw 215 :: wI sX0_init
theorem mbX0_init : ∀ i ∈ sX0_init, cw i ∈ wsX0_init := fun i h => List.mem_cons_of_mem _ (List.mem_map_of_mem h)
theorem okX0_init : okM 215 sX0_init = true := okM_by (by decide +kernel)
def sX8_isFaulty : List Nat := [715, 726, 4480, 4481, 4482, 4483, 4484, 4485, 4486]
def wsX8_isFaulty : List Cond := cw 726 :: wI sX8_isFaulty
theorem mbX8_isFaulty : ∀ i ∈ sX8_isFaulty, cw i ∈ wsX8_isFaulty := fun i h => List.mem_cons_of_mem _ (List.mem_map_of_mem h)
theorem okX8_isFaulty : okM 726 sX8_isFaulty = true := okM_by (by decide +kernel)
def sX8_skipBlanks : List Nat := [142, 712, 713, 774, 4480, 4481, 4482, 4483, 4484, 4485, 4486]
def wsX8_skipBlanks : List Cond := cw 774 :: wI sX8_skipBlanks
theorem mbX8_skipBlanks : ∀ i ∈ sX8_skipBlanks, cw i ∈ wsX8_skipBlanks := fun i h => List.mem_cons_of_mem _ (List.mem_map_of_mem h)
theorem okX8_skipBlanks : okM 774 sX8_skipBlanks = true := okM_by (by decide +kernel)
def sX8_isEnded : List Nat := [15, 142, 712, 713, 770, 771, 772, 773, 774, 4480, 4481, 4482, 4483, 4484, 4485, 4486]
def wsX8_isEnded : List Cond := cw 770 :: wI sX8_isEnded
theorem mbX8_isEnded : ∀ i ∈ sX8_isEnded, cw i ∈ wsX8_isEnded := fun i h => List.mem_cons_of_mem _ (List.mem_map_of_mem h)
theorem okX8_isEnded : okM 770 sX8_isEnded = true := okM_by (by decide +kernel)
def sX8_digitAt : List Nat := [142, 712, 977, 4480, 4481, 4482, 4483, 4484, 4485, 4486]
def wsX8_digitAt : List Cond := cw 977 :: wI sX8_digitAt
theorem mbX8_digitAt : ∀ i ∈ sX8_digitAt, cw i ∈ wsX8_digitAt := fun i h => List.mem_cons_of_mem _ (List.mem_map_of_mem h)
theorem okX8_digitAt : okM 977 sX8_digitAt = true := okM_by (by decide +kernel)
def sX8_blame : List Nat := [143, 715, 968, 4480, 4481, 4482, 4483, 4484, 4485, 4486]
def wsX8_blame : List Cond := cw 968 :: wI sX8_blame
theorem mbX8_blame : ∀ i ∈ sX8_blame, cw i ∈ wsX8_blame := fun i h => List.mem_cons_of_mem _ (List.mem_map_of_mem h)
theorem okX8_blame : okM 968 sX8_blame = true := okM_by (by decide +kernel)
def sX10_within : List Nat := [659]
def wsX10_within : List Cond := cw 659 :: wI sX10_within
theorem okX10_within : okM 659 sX10_within = true := okM_by (by decide +kernel)
def sX8_number : List Nat := [2, 15, 142, 143, 650, 651, 652, 658, 659, 711, 712, 713, 714, 715, 724, 725, 726, 771, 772, 773, 774, 835, 965, 966, 967, 968, 972, 973, 974, 975, 976, 977, 4480, 4481, 4482, 4483, 4484, 4485, 4486]
def wsX8_number : List Cond := cw 972 :: wI sX8_number
theorem mbX8_number : ∀ i ∈ sX8_number, cw i ∈ wsX8_number := fun i h => List.mem_cons_of_mem _ (List.mem_map_of_mem h)
theorem okX8_number : okM 972 sX8_number = true := okM_by (by decide +kernel)
def sX0_tells : List Nat := [257, 2441, 4672, 4673]
def wsX0_tells : List Cond := cw 2441 :: wI sX0_tells
theorem mbX0_tells : ∀ i ∈ sX0_tells, cw i ∈ wsX0_tells := fun i h => List.mem_cons_of_mem _ (List.mem_map_of_mem h)
theorem okX0_tells : okM 2441 sX0_tells = true := okM_by (by decide +kernel)
def sX8_blameToken : List Nat := [15, 143, 714, 715, 964, 965, 966, 967, 968, 4480, 4481, 4482, 4483, 4484, 4485, 4486]
def wsX8_blameToken : List Cond := cw 964 :: wI sX8_blameToken
theorem mbX8_blameToken : ∀ i ∈ sX8_blameToken, cw i ∈ wsX8_blameToken := fun i h => List.mem_cons_of_mem _ (List.mem_map_of_mem h)
theorem okX8_blameToken : okM 964 sX8_blameToken = true := okM_by (by decide +kernel)
def sX8_takes : List Nat := [15, 142, 712, 713, 714, 715, 724, 725, 726, 771, 772, 773, 774, 835, 1025, 4480, 4481, 4482, 4483, 4484, 4485, 4486]
def wsX8_takes : List Cond := cw 1025 :: wI sX8_takes
theorem mbX8_takes : ∀ i ∈ sX8_takes, cw i ∈ wsX8_takes := fun i h => List.mem_cons_of_mem _ (List.mem_map_of_mem h)
theorem okX8_takes : okM 1025 sX8_takes = true := okM_by (by decide +kernel)
def sX8_blameSign : List Nat := [15, 142, 143, 712, 713, 715, 771, 772, 773, 774, 965, 966, 967, 968, 1029, 4480, 4481, 4482, 4483, 4484, 4485, 4486]
def wsX8_blameSign : List Cond := cw 1029 :: wI sX8_blameSign
theorem mbX8_blameSign : ∀ i ∈ sX8_blameSign, cw i ∈ wsX8_blameSign := fun i h => List.mem_cons_of_mem _ (List.mem_map_of_mem h)
theorem okX8_blameSign : okM 1029 sX8_blameSign = true := okM_by (by decide +kernel)
def sX8_needs : List Nat := [15, 142, 143, 712, 713, 714, 715, 724, 725, 726, 771, 772, 773, 774, 835, 965, 966, 967, 968, 981, 982, 983, 1024, 1025, 1026, 1027, 1028, 1029, 4480, 4481, 4482, 4483, 4484, 4485, 4486]
def wsX8_needs : List Cond := cw 981 :: wI sX8_needs
theorem mbX8_needs : ∀ i ∈ sX8_needs, cw i ∈ wsX8_needs := fun i h => List.mem_cons_of_mem _ (List.mem_map_of_mem h)
theorem okX8_needs : okM 981 sX8_needs = true := okM_by (by decide +kernel)
def sX0_readLine : List Nat := [2, 15, 69, 142, 143, 257, 262, 650, 651, 652, 658, 659, 711, 712, 713, 714, 715, 724, 725, 726, 771, 772, 773, 774, 835, 962, 963, 964, 965, 966, 967, 968, 970, 971, 972, 973, 974, 975, 976, 977, 979, 980, 981, 982, 983, 1024, 1025, 1026, 1027, 1028, 1029, 2391, 2436, 2437, 2438, 2439, 2440, 2441, 2442, 2443, 4480, 4481, 4482, 4483, 4484, 4485, 4486, 4672, 4673]
def wsX0_readLine : List Cond := cw 2436 :: wI sX0_readLine
theorem mbX0_readLine : ∀ i ∈ sX0_readLine, cw i ∈ wsX0_readLine := fun i h => List.mem_cons_of_mem _ (List.mem_map_of_mem h)
theorem okX0_readLine : okM 2436 sX0_readLine = true := okM_by (by decide +kernel)
def sX0_readFrom : List Nat := [2, 15, 69, 142, 143, 257, 258, 259, 260, 261, 262, 650, 651, 652, 658, 659, 711, 712, 713, 714, 715, 724, 725, 726, 768, 769, 770, 771, 772, 773, 774, 835, 962, 963, 964, 965, 966, 967, 968, 970, 971, 972, 973, 974, 975, 976, 977, 979, 980, 981, 982, 983, 1024, 1025, 1026, 1027, 1028, 1029, 2390, 2391, 2432, 2433, 2434, 2435, 2436, 2437, 2438, 2439, 2440, 2441, 2442, 2443, 4480, 4481, 4482, 4483, 4484, 4485, 4486, 4672, 4673]
def wsX0_readFrom : List Cond := cw 2390 :: wI sX0_readFrom
theorem mbX0_readFrom : ∀ i ∈ sX0_readFrom, cw i ∈ wsX0_readFrom := fun i h => List.mem_cons_of_mem _ (List.mem_map_of_mem h)
theorem okX0_readFrom : okM 2390 sX0_readFrom = true := okM_by (by decide +kernel)
def sX0_agrees : List Nat := [257, 3533, 4672, 4673]
def wsX0_agrees : List Cond := cw 3533 :: wI sX0_agrees
theorem mbX0_agrees : ∀ i ∈ sX0_agrees, cw i ∈ wsX0_agrees := fun i h => List.mem_cons_of_mem _ (List.mem_map_of_mem h)
theorem okX0_agrees : okM 3533 sX0_agrees = true := okM_by (by decide +kernel)
def sX1_begin : List Nat := [276, 321, 322, 323, 324, 325, 326, 327, 328, 329, 330, 331, 4544, 4545, 4546, 4547, 4548, 4549, 4550, 4551, 4552, 4553, 4554, 4555, 4800, 4801, 4802, 4803]
def wsX1_begin : List Cond := cw 321 :: wI sX1_begin
theorem mbX1_begin : ∀ i ∈ sX1_begin, cw i ∈ wsX1_begin := fun i h => List.mem_cons_of_mem _ (List.mem_map_of_mem h)
theorem okX1_begin : okM 321 sX1_begin = true := okM_by (by decide +kernel)
def sX1_init : List Nat := [11, 12, 78, 147, 274, 275, 276, 277, 278, 279, 320, 321, 322, 323, 324, 325, 326, 327, 328, 329, 330, 331, 4544, 4545, 4546, 4547, 4548, 4549, 4550, 4551, 4552, 4553, 4554, 4555, 4800, 4801, 4802, 4803]
def wsX1_init : List Cond := cw 274 :: wI sX1_init
theorem mbX1_init : ∀ i ∈ sX1_init, cw i ∈ wsX1_init := fun i h => List.mem_cons_of_mem _ (List.mem_map_of_mem h)
theorem okX1_init : okM 274 sX1_init = true := okM_by (by decide +kernel)
def sX1_obey : List Nat := [323, 1476, 4800, 4801, 4802, 4803]
def wsX1_obey : List Cond := cw 1476 :: wI sX1_obey
theorem mbX1_obey : ∀ i ∈ sX1_obey, cw i ∈ wsX1_obey := fun i h => List.mem_cons_of_mem _ (List.mem_map_of_mem h)
theorem okX1_obey : okM 1476 sX1_obey = true := okM_by (by decide +kernel)
def sX1_copyFrom : List Nat := [276, 322, 323, 328, 329, 330, 331, 2964, 4800, 4801, 4802, 4803]
def wsX1_copyFrom : List Cond := cw 2964 :: wI sX1_copyFrom
theorem mbX1_copyFrom : ∀ i ∈ sX1_copyFrom, cw i ∈ wsX1_copyFrom := fun i h => List.mem_cons_of_mem _ (List.mem_map_of_mem h)
theorem okX1_copyFrom : okM 2964 sX1_copyFrom = true := okM_by (by decide +kernel)
def sX1_day : List Nat := [276, 1875, 4800, 4801, 4802, 4803]
def wsX1_day : List Cond := cw 1875 :: wI sX1_day
theorem mbX1_day : ∀ i ∈ sX1_day, cw i ∈ wsX1_day := fun i h => List.mem_cons_of_mem _ (List.mem_map_of_mem h)
theorem okX1_day : okM 1875 sX1_day = true := okM_by (by decide +kernel)
def sX1_year : List Nat := [276, 1986, 4800, 4801, 4802, 4803]
def wsX1_year : List Cond := cw 1986 :: wI sX1_year
theorem mbX1_year : ∀ i ∈ sX1_year, cw i ∈ wsX1_year := fun i h => List.mem_cons_of_mem _ (List.mem_map_of_mem h)
theorem okX1_year : okM 1986 sX1_year = true := okM_by (by decide +kernel)
def sX1_caughtOnes : List Nat := [276, 2563, 4800, 4801, 4802, 4803]
def wsX1_caughtOnes : List Cond := cw 2563 :: wI sX1_caughtOnes
theorem mbX1_caughtOnes : ∀ i ∈ sX1_caughtOnes, cw i ∈ wsX1_caughtOnes := fun i h => List.mem_cons_of_mem _ (List.mem_map_of_mem h)
theorem okX1_caughtOnes : okM 2563 sX1_caughtOnes = true := okM_by (by decide +kernel)
def sX1_leaptOnes : List Nat := [276, 2567, 4800, 4801, 4802, 4803]
def wsX1_leaptOnes : List Cond := cw 2567 :: wI sX1_leaptOnes
theorem mbX1_leaptOnes : ∀ i ∈ sX1_leaptOnes, cw i ∈ wsX1_leaptOnes := fun i h => List.mem_cons_of_mem _ (List.mem_map_of_mem h)
theorem okX1_leaptOnes : okM 2567 sX1_leaptOnes = true := okM_by (by decide +kernel)
def sX1_freeOnes : List Nat := [276, 322, 324, 3399, 4544, 4545, 4546, 4547, 4548, 4549, 4550, 4551, 4552, 4553, 4554, 4555, 4800, 4801, 4802, 4803]
def wsX1_freeOnes : List Cond := cw 3399 :: wI sX1_freeOnes
theorem mbX1_freeOnes : ∀ i ∈ sX1_freeOnes, cw i ∈ wsX1_freeOnes := fun i h => List.mem_cons_of_mem _ (List.mem_map_of_mem h)
theorem okX1_freeOnes : okM 3399 sX1_freeOnes = true := okM_by (by decide +kernel)
def sX1_isCaught : List Nat := [276, 1744, 4800, 4801, 4802, 4803]
def wsX1_isCaught : List Cond := cw 1744 :: wI sX1_isCaught
theorem mbX1_isCaught : ∀ i ∈ sX1_isCaught, cw i ∈ wsX1_isCaught := fun i h => List.mem_cons_of_mem _ (List.mem_map_of_mem h)
theorem okX1_isCaught : okM 1744 sX1_isCaught = true := okM_by (by decide +kernel)
def sX1_sits : List Nat := [276, 1748, 4800, 4801, 4802, 4803]
def wsX1_sits : List Cond := cw 1748 :: wI sX1_sits
theorem mbX1_sits : ∀ i ∈ sX1_sits, cw i ∈ wsX1_sits := fun i h => List.mem_cons_of_mem _ (List.mem_map_of_mem h)
theorem okX1_sits : okM 1748 sX1_sits = true := okM_by (by decide +kernel)
def sX1_strong : List Nat := [276, 1811, 4800, 4801, 4802, 4803]
def wsX1_strong : List Cond := cw 1811 :: wI sX1_strong
theorem mbX1_strong : ∀ i ∈ sX1_strong, cw i ∈ wsX1_strong := fun i h => List.mem_cons_of_mem _ (List.mem_map_of_mem h)
theorem okX1_strong : okM 1811 sX1_strong = true := okM_by (by decide +kernel)
def sX1_still : List Nat := [276, 1815, 4800, 4801, 4802, 4803]
def wsX1_still : List Cond := cw 1815 :: wI sX1_still
theorem mbX1_still : ∀ i ∈ sX1_still, cw i ∈ wsX1_still := fun i h => List.mem_cons_of_mem _ (List.mem_map_of_mem h)
theorem okX1_still : okM 1815 sX1_still = true := okM_by (by decide +kernel)
def sX1_leaps : List Nat := [276, 1879, 4800, 4801, 4802, 4803]
def wsX1_leaps : List Cond := cw 1879 :: wI sX1_leaps
theorem mbX1_leaps : ∀ i ∈ sX1_leaps, cw i ∈ wsX1_leaps := fun i h => List.mem_cons_of_mem _ (List.mem_map_of_mem h)
theorem okX1_leaps : okM 1879 sX1_leaps = true := okM_by (by decide +kernel)
def sX1_owesTo : List Nat := [276, 1863, 4800, 4801, 4802, 4803]
def wsX1_owesTo : List Cond := cw 1863 :: wI sX1_owesTo
theorem mbX1_owesTo : ∀ i ∈ sX1_owesTo, cw i ∈ wsX1_owesTo := fun i h => List.mem_cons_of_mem _ (List.mem_map_of_mem h)
theorem okX1_owesTo : okM 1863 sX1_owesTo = true := okM_by (by decide +kernel)
def sX1_owes : List Nat := [78, 276, 322, 324, 1859, 1860, 1861, 1862, 1863, 4544, 4545, 4546, 4547, 4548, 4549, 4550, 4551, 4552, 4553, 4554, 4555, 4800, 4801, 4802, 4803]
def wsX1_owes : List Cond := cw 1859 :: wI sX1_owes
theorem mbX1_owes : ∀ i ∈ sX1_owes, cw i ∈ wsX1_owes := fun i h => List.mem_cons_of_mem _ (List.mem_map_of_mem h)
theorem okX1_owes : okM 1859 sX1_owes = true := okM_by (by decide +kernel)
def sX1_owed : List Nat := [78, 276, 322, 324, 1860, 1861, 1862, 1863, 1867, 4544, 4545, 4546, 4547, 4548, 4549, 4550, 4551, 4552, 4553, 4554, 4555, 4800, 4801, 4802, 4803]
def wsX1_owed : List Cond := cw 1867 :: wI sX1_owed
theorem mbX1_owed : ∀ i ∈ sX1_owed, cw i ∈ wsX1_owed := fun i h => List.mem_cons_of_mem _ (List.mem_map_of_mem h)
theorem okX1_owed : okM 1867 sX1_owed = true := okM_by (by decide +kernel)
def sX1_allDebts : List Nat := [78, 276, 322, 324, 1856, 1857, 1858, 1859, 1860, 1861, 1862, 1863, 2571, 4544, 4545, 4546, 4547, 4548, 4549, 4550, 4551, 4552, 4553, 4554, 4555, 4800, 4801, 4802, 4803]
def wsX1_allDebts : List Cond := cw 2571 :: wI sX1_allDebts
theorem mbX1_allDebts : ∀ i ∈ sX1_allDebts, cw i ∈ wsX1_allDebts := fun i h => List.mem_cons_of_mem _ (List.mem_map_of_mem h)
theorem okX1_allDebts : okM 2571 sX1_allDebts = true := okM_by (by decide +kernel)
def sX1_seatedIn : List Nat := [78, 276, 322, 324, 1741, 1742, 1743, 1744, 1745, 1746, 1747, 1748, 1800, 4544, 4545, 4546, 4547, 4548, 4549, 4550, 4551, 4552, 4553, 4554, 4555, 4800, 4801, 4802, 4803]
def wsX1_seatedIn : List Cond := cw 1800 :: wI sX1_seatedIn
theorem mbX1_seatedIn : ∀ i ∈ sX1_seatedIn, cw i ∈ wsX1_seatedIn := fun i h => List.mem_cons_of_mem _ (List.mem_map_of_mem h)
theorem okX1_seatedIn : okM 1800 sX1_seatedIn = true := okM_by (by decide +kernel)
def sX1_strongTogether : List Nat := [78, 276, 322, 324, 1741, 1742, 1743, 1744, 1808, 1809, 1810, 1811, 4101, 4544, 4545, 4546, 4547, 4548, 4549, 4550, 4551, 4552, 4553, 4554, 4555, 4800, 4801, 4802, 4803]
def wsX1_strongTogether : List Cond := cw 4101 :: wI sX1_strongTogether
theorem mbX1_strongTogether : ∀ i ∈ sX1_strongTogether, cw i ∈ wsX1_strongTogether := fun i h => List.mem_cons_of_mem _ (List.mem_map_of_mem h)
theorem okX1_strongTogether : okM 4101 sX1_strongTogether = true := okM_by (by decide +kernel)
def sJ6_bitCount_0f7a4 : List Nat := [1804, 1805, 1806, 1807]
def wsJ6_bitCount_0f7a4 : List Cond := cw 1804 :: wI sJ6_bitCount_0f7a4
theorem mbJ6_bitCount_0f7a4 : ∀ i ∈ sJ6_bitCount_0f7a4, cw i ∈ wsJ6_bitCount_0f7a4 := fun i h => List.mem_cons_of_mem _ (List.mem_map_of_mem h)
theorem okJ6_bitCount_0f7a4 : okM 1804 sJ6_bitCount_0f7a4 = true := okM_by (by decide +kernel)
def sX4_setFacts : List Nat := [203, 1871, 4608, 4609, 4610, 4611, 4612]
def wsX4_setFacts : List Cond := cw 1871 :: wI sX4_setFacts
theorem mbX4_setFacts : ∀ i ∈ sX4_setFacts, cw i ∈ wsX4_setFacts := fun i h => List.mem_cons_of_mem _ (List.mem_map_of_mem h)
theorem okX4_setFacts : okM 1871 sX4_setFacts = true := okM_by (by decide +kernel)
def sX4_setTimes : List Nat := [203, 1923, 4608, 4609, 4610, 4611, 4612]
def wsX4_setTimes : List Cond := cw 1923 :: wI sX4_setTimes
theorem mbX4_setTimes : ∀ i ∈ sX4_setTimes, cw i ∈ wsX4_setTimes := fun i h => List.mem_cons_of_mem _ (List.mem_map_of_mem h)
theorem okX4_setTimes : okM 1923 sX4_setTimes = true := okM_by (by decide +kernel)
def sX4_joined : List Nat := [1934]
def wsX4_joined : List Cond := cw 1934 :: wI sX4_joined
theorem okX4_joined : okM 1934 sX4_joined = true := okM_by (by decide +kernel)
def sX4_reach : List Nat := [64, 200, 201, 202, 203, 208, 650, 651, 652, 1927, 1928, 1929, 1930, 1931, 1932, 1933, 1934, 4608, 4609, 4610, 4611, 4612]
def wsX4_reach : List Cond := cw 1927 :: wI sX4_reach
theorem mbX4_reach : ∀ i ∈ sX4_reach, cw i ∈ wsX4_reach := fun i h => List.mem_cons_of_mem _ (List.mem_map_of_mem h)
theorem okX4_reach : okM 1927 sX4_reach = true := okM_by (by decide +kernel)
def sX1_reach : List Nat := [64, 78, 200, 201, 202, 203, 208, 276, 322, 323, 324, 650, 651, 652, 1741, 1742, 1743, 1744, 1745, 1746, 1747, 1748, 1796, 1797, 1798, 1799, 1800, 1801, 1802, 1803, 1804, 1805, 1806, 1807, 1808, 1809, 1810, 1811, 1812, 1813, 1814, 1815, 1856, 1857, 1858, 1859, 1860, 1861, 1862, 1863, 1864, 1865, 1866, 1867, 1868, 1869, 1870, 1871, 1872, 1873, 1874, 1875, 1876, 1877, 1878, 1879, 1920, 1921, 1922, 1923, 1924, 1925, 1926, 1927, 1928, 1929, 1930, 1931, 1932, 1933, 1934, 4544, 4545, 4546, 4547, 4548, 4549, 4550, 4551, 4552, 4553, 4554, 4555, 4608, 4609, 4610, 4611, 4612, 4800, 4801, 4802, 4803]
def wsX1_reach : List Cond := cw 1796 :: wI sX1_reach
theorem mbX1_reach : ∀ i ∈ sX1_reach, cw i ∈ wsX1_reach := fun i h => List.mem_cons_of_mem _ (List.mem_map_of_mem h)
theorem okX1_reach : okM 1796 sX1_reach = true := okM_by (by decide +kernel)
def sX2_apart : List Nat := [148, 149, 651, 1092, 1093, 1094, 1792, 4544, 4545, 4546, 4547, 4548, 4549, 4550, 4551, 4552, 4553, 4554, 4555]
def wsX2_apart : List Cond := cw 1792 :: wI sX2_apart
theorem mbX2_apart : ∀ i ∈ sX2_apart, cw i ∈ wsX2_apart := fun i h => List.mem_cons_of_mem _ (List.mem_map_of_mem h)
theorem okX2_apart : okM 1792 sX2_apart = true := okM_by (by decide +kernel)
def sX1_couldLeap : List Nat := [19, 64, 78, 148, 149, 200, 201, 202, 203, 208, 276, 322, 323, 324, 650, 651, 652, 1092, 1093, 1094, 1740, 1741, 1742, 1743, 1744, 1745, 1746, 1747, 1748, 1749, 1750, 1751, 1792, 1793, 1794, 1795, 1796, 1797, 1798, 1799, 1800, 1801, 1802, 1803, 1804, 1805, 1806, 1807, 1808, 1809, 1810, 1811, 1812, 1813, 1814, 1815, 1856, 1857, 1858, 1859, 1860, 1861, 1862, 1863, 1864, 1865, 1866, 1867, 1868, 1869, 1870, 1871, 1872, 1873, 1874, 1875, 1876, 1877, 1878, 1879, 1920, 1921, 1922, 1923, 1924, 1925, 1926, 1927, 1928, 1929, 1930, 1931, 1932, 1933, 1934, 4544, 4545, 4546, 4547, 4548, 4549, 4550, 4551, 4552, 4553, 4554, 4555, 4608, 4609, 4610, 4611, 4612, 4800, 4801, 4802, 4803]
def wsX1_couldLeap : List Cond := cw 1740 :: wI sX1_couldLeap
theorem mbX1_couldLeap : ∀ i ∈ sX1_couldLeap, cw i ∈ wsX1_couldLeap := fun i h => List.mem_cons_of_mem _ (List.mem_map_of_mem h)
theorem okX1_couldLeap : okM 1740 sX1_couldLeap = true := okM_by (by decide +kernel)
def sX2_formsWithin : List Nat := [19, 148, 149, 651, 720, 1092, 1093, 1094, 1750, 1751, 1792, 3024, 3025, 4544, 4545, 4546, 4547, 4548, 4549, 4550, 4551, 4552, 4553, 4554, 4555]
def wsX2_formsWithin : List Cond := cw 3024 :: wI sX2_formsWithin
theorem mbX2_formsWithin : ∀ i ∈ sX2_formsWithin, cw i ∈ wsX2_formsWithin := fun i h => List.mem_cons_of_mem _ (List.mem_map_of_mem h)
theorem okX2_formsWithin : okM 3024 sX2_formsWithin = true := okM_by (by decide +kernel)
def sX1_leapable : List Nat := [19, 64, 78, 148, 149, 200, 201, 202, 203, 208, 276, 322, 323, 324, 650, 651, 652, 720, 1092, 1093, 1094, 1741, 1742, 1743, 1744, 1745, 1746, 1747, 1748, 1750, 1751, 1792, 1793, 1794, 1795, 1796, 1797, 1798, 1799, 1800, 1801, 1802, 1803, 1804, 1805, 1806, 1807, 1808, 1809, 1810, 1811, 1812, 1813, 1814, 1815, 1856, 1857, 1858, 1859, 1860, 1861, 1862, 1863, 1864, 1865, 1866, 1867, 1868, 1869, 1870, 1871, 1872, 1873, 1874, 1875, 1876, 1877, 1878, 1879, 1920, 1921, 1922, 1923, 1924, 1925, 1926, 1927, 1928, 1929, 1930, 1931, 1932, 1933, 1934, 3022, 3023, 3024, 3025, 3092, 4544, 4545, 4546, 4547, 4548, 4549, 4550, 4551, 4552, 4553, 4554, 4555, 4608, 4609, 4610, 4611, 4612, 4800, 4801, 4802, 4803]
def wsX1_leapable : List Cond := cw 3092 :: wI sX1_leapable
theorem mbX1_leapable : ∀ i ∈ sX1_leapable, cw i ∈ wsX1_leapable := fun i h => List.mem_cons_of_mem _ (List.mem_map_of_mem h)
theorem okX1_leapable : okM 3092 sX1_leapable = true := okM_by (by decide +kernel)
def sX1_stir : List Nat := [276, 1998, 4800, 4801, 4802, 4803]
def wsX1_stir : List Cond := cw 1998 :: wI sX1_stir
theorem mbX1_stir : ∀ i ∈ sX1_stir, cw i ∈ wsX1_stir := fun i h => List.mem_cons_of_mem _ (List.mem_map_of_mem h)
theorem okX1_stir : okM 1998 sX1_stir = true := okM_by (by decide +kernel)
def sX1_leapTo : List Nat := [78, 276, 1994, 1995, 1996, 1997, 1998, 4800, 4801, 4802, 4803]
def wsX1_leapTo : List Cond := cw 1994 :: wI sX1_leapTo
theorem mbX1_leapTo : ∀ i ∈ sX1_leapTo, cw i ∈ wsX1_leapTo := fun i h => List.mem_cons_of_mem _ (List.mem_map_of_mem h)
theorem okX1_leapTo : okM 1994 sX1_leapTo = true := okM_by (by decide +kernel)
def sX1_couldFight : List Nat := [78, 276, 1741, 1742, 1743, 1744, 1745, 1746, 1747, 1748, 1938, 4800, 4801, 4802, 4803]
def wsX1_couldFight : List Cond := cw 1938 :: wI sX1_couldFight
theorem mbX1_couldFight : ∀ i ∈ sX1_couldFight, cw i ∈ wsX1_couldFight := fun i h => List.mem_cons_of_mem _ (List.mem_map_of_mem h)
theorem okX1_couldFight : okM 1938 sX1_couldFight = true := okM_by (by decide +kernel)
def sX1_fight : List Nat := [78, 276, 651, 1808, 1809, 1810, 1811, 1930, 1931, 1995, 1996, 1997, 1998, 2002, 2003, 4800, 4801, 4802, 4803]
def wsX1_fight : List Cond := cw 2002 :: wI sX1_fight
theorem mbX1_fight : ∀ i ∈ sX1_fight, cw i ∈ wsX1_fight := fun i h => List.mem_cons_of_mem _ (List.mem_map_of_mem h)
theorem okX1_fight : okM 2002 sX1_fight = true := okM_by (by decide +kernel)
def sX1_couldPay : List Nat := [78, 276, 1741, 1742, 1743, 1744, 1860, 1861, 1862, 1863, 1942, 4800, 4801, 4802, 4803]
def wsX1_couldPay : List Cond := cw 1942 :: wI sX1_couldPay
theorem mbX1_couldPay : ∀ i ∈ sX1_couldPay, cw i ∈ wsX1_couldPay := fun i h => List.mem_cons_of_mem _ (List.mem_map_of_mem h)
theorem okX1_couldPay : okM 1942 sX1_couldPay = true := okM_by (by decide +kernel)
def sX1_payBack : List Nat := [276, 2007, 4800, 4801, 4802, 4803]
def wsX1_payBack : List Cond := cw 2007 :: wI sX1_payBack
theorem mbX1_payBack : ∀ i ∈ sX1_payBack, cw i ∈ wsX1_payBack := fun i h => List.mem_cons_of_mem _ (List.mem_map_of_mem h)
theorem okX1_payBack : okM 2007 sX1_payBack = true := okM_by (by decide +kernel)
def sX10_holds : List Nat := [2053]
def wsX10_holds : List Cond := cw 2053 :: wI sX10_holds
theorem okX10_holds : okM 2053 sX10_holds = true := okM_by (by decide +kernel)
def sX2_isSafe : List Nat := [2, 1047, 2052, 2053, 2065, 4544, 4545, 4546, 4547, 4548, 4549, 4550, 4551, 4552, 4553, 4554, 4555]
def wsX2_isSafe : List Cond := cw 2065 :: wI sX2_isSafe
theorem mbX2_isSafe : ∀ i ∈ sX2_isSafe, cw i ∈ wsX2_isSafe := fun i h => List.mem_cons_of_mem _ (List.mem_map_of_mem h)
theorem okX2_isSafe : okM 2065 sX2_isSafe = true := okM_by (by decide +kernel)
def sX1_endangered : List Nat := [2, 19, 78, 276, 322, 324, 1047, 1741, 1742, 1743, 1744, 1745, 1746, 1747, 1748, 1812, 1813, 1814, 1815, 2052, 2053, 2061, 2062, 2063, 2064, 2065, 4544, 4545, 4546, 4547, 4548, 4549, 4550, 4551, 4552, 4553, 4554, 4555, 4800, 4801, 4802, 4803]
def wsX1_endangered : List Cond := cw 2061 :: wI sX1_endangered
theorem mbX1_endangered : ∀ i ∈ sX1_endangered, cw i ∈ wsX1_endangered := fun i h => List.mem_cons_of_mem _ (List.mem_map_of_mem h)
theorem okX1_endangered : okM 2061 sX1_endangered = true := okM_by (by decide +kernel)
def sX1_dropDebts : List Nat := [276, 322, 324, 2069, 4544, 4545, 4546, 4547, 4548, 4549, 4550, 4551, 4552, 4553, 4554, 4555, 4800, 4801, 4802, 4803]
def wsX1_dropDebts : List Cond := cw 2069 :: wI sX1_dropDebts
theorem mbX1_dropDebts : ∀ i ∈ sX1_dropDebts, cw i ∈ wsX1_dropDebts := fun i h => List.mem_cons_of_mem _ (List.mem_map_of_mem h)
theorem okX1_dropDebts : okM 2069 sX1_dropDebts = true := okM_by (by decide +kernel)
def sX1_strike : List Nat := [2, 19, 78, 276, 322, 324, 326, 1047, 1741, 1742, 1743, 1744, 1745, 1746, 1747, 1748, 1812, 1813, 1814, 1815, 2052, 2053, 2057, 2058, 2059, 2060, 2061, 2062, 2063, 2064, 2065, 2066, 2067, 2068, 2069, 4544, 4545, 4546, 4547, 4548, 4549, 4550, 4551, 4552, 4553, 4554, 4555, 4800, 4801, 4802, 4803]
def wsX1_strike : List Cond := cw 2057 :: wI sX1_strike
theorem mbX1_strike : ∀ i ∈ sX1_strike, cw i ∈ wsX1_strike := fun i h => List.mem_cons_of_mem _ (List.mem_map_of_mem h)
theorem okX1_strike : okM 2057 sX1_strike = true := okM_by (by decide +kernel)
def sX1_passDay : List Nat := [2, 19, 78, 276, 322, 324, 326, 1047, 1741, 1742, 1743, 1744, 1745, 1746, 1747, 1748, 1812, 1813, 1814, 1815, 2051, 2052, 2053, 2054, 2055, 2056, 2057, 2058, 2059, 2060, 2061, 2062, 2063, 2064, 2065, 2066, 2067, 2068, 2069, 4544, 4545, 4546, 4547, 4548, 4549, 4550, 4551, 4552, 4553, 4554, 4555, 4800, 4801, 4802, 4803]
def wsX1_passDay : List Cond := cw 2051 :: wI sX1_passDay
theorem mbX1_passDay : ∀ i ∈ sX1_passDay, cw i ∈ wsX1_passDay := fun i h => List.mem_cons_of_mem _ (List.mem_map_of_mem h)
theorem okX1_passDay : okM 2051 sX1_passDay = true := okM_by (by decide +kernel)
def sX1_nextSeed : List Nat := [4040, 4041]
def wsX1_nextSeed : List Cond := cw 4040 :: wI sX1_nextSeed
theorem mbX1_nextSeed : ∀ i ∈ sX1_nextSeed, cw i ∈ wsX1_nextSeed := fun i h => List.mem_cons_of_mem _ (List.mem_map_of_mem h)
theorem okX1_nextSeed : okM 4040 sX1_nextSeed = true := okM_by (by decide +kernel)
def sX1_drawnBits : List Nat := [4044]
def wsX1_drawnBits : List Cond := cw 4044 :: wI sX1_drawnBits
theorem okX1_drawnBits : okM 4044 sX1_drawnBits = true := okM_by (by decide +kernel)
def sX1_leapIfAllowed : List Nat := [19, 64, 78, 148, 149, 200, 201, 202, 203, 208, 276, 322, 323, 324, 650, 651, 652, 1092, 1093, 1094, 1738, 1739, 1740, 1741, 1742, 1743, 1744, 1745, 1746, 1747, 1748, 1749, 1750, 1751, 1792, 1793, 1794, 1795, 1796, 1797, 1798, 1799, 1800, 1801, 1802, 1803, 1804, 1805, 1806, 1807, 1808, 1809, 1810, 1811, 1812, 1813, 1814, 1815, 1856, 1857, 1858, 1859, 1860, 1861, 1862, 1863, 1864, 1865, 1866, 1867, 1868, 1869, 1870, 1871, 1872, 1873, 1874, 1875, 1876, 1877, 1878, 1879, 1920, 1921, 1922, 1923, 1924, 1925, 1926, 1927, 1928, 1929, 1930, 1931, 1932, 1933, 1934, 1992, 1993, 1994, 1995, 1996, 1997, 1998, 4048, 4049, 4050, 4544, 4545, 4546, 4547, 4548, 4549, 4550, 4551, 4552, 4553, 4554, 4555, 4608, 4609, 4610, 4611, 4612, 4800, 4801, 4802, 4803]
def wsX1_leapIfAllowed : List Cond := cw 4048 :: wI sX1_leapIfAllowed
theorem mbX1_leapIfAllowed : ∀ i ∈ sX1_leapIfAllowed, cw i ∈ wsX1_leapIfAllowed := fun i h => List.mem_cons_of_mem _ (List.mem_map_of_mem h)
theorem okX1_leapIfAllowed : okM 4048 sX1_leapIfAllowed = true := okM_by (by decide +kernel)
def sX1_fightIfAllowed : List Nat := [78, 276, 651, 1741, 1742, 1743, 1744, 1745, 1746, 1747, 1748, 1808, 1809, 1810, 1811, 1930, 1931, 1936, 1937, 1938, 1995, 1996, 1997, 1998, 2000, 2001, 2002, 2003, 4054, 4055, 4096, 4800, 4801, 4802, 4803]
def wsX1_fightIfAllowed : List Cond := cw 4054 :: wI sX1_fightIfAllowed
theorem mbX1_fightIfAllowed : ∀ i ∈ sX1_fightIfAllowed, cw i ∈ wsX1_fightIfAllowed := fun i h => List.mem_cons_of_mem _ (List.mem_map_of_mem h)
theorem okX1_fightIfAllowed : okM 4054 sX1_fightIfAllowed = true := okM_by (by decide +kernel)
def sX1_drawDays : List Nat := [2, 19, 64, 78, 148, 149, 200, 201, 202, 203, 208, 276, 322, 323, 324, 326, 650, 651, 652, 1047, 1092, 1093, 1094, 1738, 1739, 1740, 1741, 1742, 1743, 1744, 1745, 1746, 1747, 1748, 1749, 1750, 1751, 1792, 1793, 1794, 1795, 1796, 1797, 1798, 1799, 1800, 1801, 1802, 1803, 1804, 1805, 1806, 1807, 1808, 1809, 1810, 1811, 1812, 1813, 1814, 1815, 1856, 1857, 1858, 1859, 1860, 1861, 1862, 1863, 1864, 1865, 1866, 1867, 1868, 1869, 1870, 1871, 1872, 1873, 1874, 1875, 1876, 1877, 1878, 1879, 1920, 1921, 1922, 1923, 1924, 1925, 1926, 1927, 1928, 1929, 1930, 1931, 1932, 1933, 1934, 1936, 1937, 1938, 1992, 1993, 1994, 1995, 1996, 1997, 1998, 2000, 2001, 2002, 2003, 2049, 2050, 2051, 2052, 2053, 2054, 2055, 2056, 2057, 2058, 2059, 2060, 2061, 2062, 2063, 2064, 2065, 2066, 2067, 2068, 2069, 4036, 4037, 4038, 4039, 4040, 4041, 4042, 4043, 4044, 4045, 4046, 4047, 4048, 4049, 4050, 4051, 4052, 4053, 4054, 4055, 4096, 4097, 4544, 4545, 4546, 4547, 4548, 4549, 4550, 4551, 4552, 4553, 4554, 4555, 4608, 4609, 4610, 4611, 4612, 4800, 4801, 4802, 4803]
def wsX1_drawDays : List Cond := cw 4036 :: wI sX1_drawDays
theorem mbX1_drawDays : ∀ i ∈ sX1_drawDays, cw i ∈ wsX1_drawDays := fun i h => List.mem_cons_of_mem _ (List.mem_map_of_mem h)
theorem okX1_drawDays : okM 4036 sX1_drawDays = true := okM_by (by decide +kernel)
def sX1_givenBy : List Nat := [277, 322, 324, 650, 651, 652, 3848, 3852, 4544, 4545, 4546, 4547, 4548, 4549, 4550, 4551, 4552, 4553, 4554, 4555, 4800, 4801, 4802, 4803]
def wsX1_givenBy : List Cond := cw 3852 :: wI sX1_givenBy
theorem mbX1_givenBy : ∀ i ∈ sX1_givenBy, cw i ∈ wsX1_givenBy := fun i h => List.mem_cons_of_mem _ (List.mem_map_of_mem h)
theorem okX1_givenBy : okM 3852 sX1_givenBy = true := okM_by (by decide +kernel)
def sX1_cloverFor : List Nat := [2, 78, 276, 277, 322, 324, 650, 651, 652, 1860, 1861, 1862, 1863, 1864, 1865, 1866, 1867, 2052, 2053, 3847, 3848, 3849, 3850, 3851, 3852, 4544, 4545, 4546, 4547, 4548, 4549, 4550, 4551, 4552, 4553, 4554, 4555, 4800, 4801, 4802, 4803]
def wsX1_cloverFor : List Cond := cw 3847 :: wI sX1_cloverFor
theorem mbX1_cloverFor : ∀ i ∈ sX1_cloverFor, cw i ∈ wsX1_cloverFor := fun i h => List.mem_cons_of_mem _ (List.mem_map_of_mem h)
theorem okX1_cloverFor : okM 3847 sX1_cloverFor = true := okM_by (by decide +kernel)
def sX2_init : List Nat := [11, 12, 145, 146, 147, 148, 149, 150, 151, 192, 193, 194, 195, 4544, 4545, 4546, 4547, 4548, 4549, 4550, 4551, 4552, 4553, 4554, 4555]
def wsX2_init : List Cond := cw 145 :: wI sX2_init
theorem mbX2_init : ∀ i ∈ sX2_init, cw i ∈ wsX2_init := fun i h => List.mem_cons_of_mem _ (List.mem_map_of_mem h)
theorem okX2_init : okM 145 sX2_init = true := okM_by (by decide +kernel)
def sJ0_coder_7d493 : List Nat := [832, 833, 834]
def wsJ0_coder_7d493 : List Cond := cw 832 :: wI sJ0_coder_7d493
theorem mbJ0_coder_7d493 : ∀ i ∈ sJ0_coder_7d493, cw i ∈ wsJ0_coder_7d493 := fun i h => List.mem_cons_of_mem _ (List.mem_map_of_mem h)
theorem okJ0_coder_7d493 : okM 832 sJ0_coder_7d493 = true := okM_by (by decide +kernel)
def sJ0_length_8abf5 : List Nat := [786, 787, 788, 789, 790, 791, 832, 833, 834]
def wsJ0_length_8abf5 : List Cond := cw 787 :: wI sJ0_length_8abf5
theorem mbJ0_length_8abf5 : ∀ i ∈ sJ0_length_8abf5, cw i ∈ wsJ0_length_8abf5 := fun i h => List.mem_cons_of_mem _ (List.mem_map_of_mem h)
theorem okJ0_length_8abf5 : okM 787 sJ0_length_8abf5 = true := okM_by (by decide +kernel)
def sX8_isLetter : List Nat := [142, 712, 839, 4480, 4481, 4482, 4483, 4484, 4485, 4486]
def wsX8_isLetter : List Cond := cw 839 :: wI sX8_isLetter
theorem mbX8_isLetter : ∀ i ∈ sX8_isLetter, cw i ∈ wsX8_isLetter := fun i h => List.mem_cons_of_mem _ (List.mem_map_of_mem h)
theorem okX8_isLetter : okM 839 sX8_isLetter = true := okM_by (by decide +kernel)
def sJ0_isLatin1_aae02 : List Nat := [833, 834, 847]
def wsJ0_isLatin1_aae02 : List Cond := cw 847 :: wI sJ0_isLatin1_aae02
theorem mbJ0_isLatin1_aae02 : ∀ i ∈ sJ0_isLatin1_aae02, cw i ∈ wsJ0_isLatin1_aae02 := fun i h => List.mem_cons_of_mem _ (List.mem_map_of_mem h)
theorem okJ0_isLatin1_aae02 : okM 847 sJ0_isLatin1_aae02 = true := okM_by (by decide +kernel)
def sJ3_checkIndex_8e157 : List Nat := [899]
def wsJ3_checkIndex_8e157 : List Cond := cw 899 :: wI sJ3_checkIndex_8e157
theorem okJ3_checkIndex_8e157 : okM 899 sJ3_checkIndex_8e157 = true := okM_by (by decide +kernel)
def sJ0_checkIndex_df160 : List Nat := [854, 855, 896, 897, 898, 899]
def wsJ0_checkIndex_df160 : List Cond := cw 854 :: wI sJ0_checkIndex_df160
theorem mbJ0_checkIndex_df160 : ∀ i ∈ sJ0_checkIndex_df160, cw i ∈ wsJ0_checkIndex_df160 := fun i h => List.mem_cons_of_mem _ (List.mem_map_of_mem h)
theorem okJ0_checkIndex_df160 : okM 854 sJ0_checkIndex_df160 = true := okM_by (by decide +kernel)
def sJ1_charAt_3b067 : List Nat := [786, 851, 852, 853, 854, 855, 896, 897, 898, 899]
def wsJ1_charAt_3b067 : List Cond := cw 851 :: wI sJ1_charAt_3b067
theorem mbJ1_charAt_3b067 : ∀ i ∈ sJ1_charAt_3b067, cw i ∈ wsJ1_charAt_3b067 := fun i h => List.mem_cons_of_mem _ (List.mem_map_of_mem h)
theorem okJ1_charAt_3b067 : okM 851 sJ1_charAt_3b067 = true := okM_by (by decide +kernel)
def sJ0_charAt_5068e : List Nat := [786, 788, 833, 834, 843, 844, 845, 846, 847, 848, 849, 850, 851, 852, 853, 854, 855, 896, 897, 898, 899, 900, 901, 902, 903, 904, 905, 906, 907, 908, 909, 910, 911, 912, 913, 914, 915, 916]
def wsJ0_charAt_5068e : List Cond := cw 843 :: wI sJ0_charAt_5068e
theorem mbJ0_charAt_5068e : ∀ i ∈ sJ0_charAt_5068e, cw i ∈ wsJ0_charAt_5068e := fun i h => List.mem_cons_of_mem _ (List.mem_map_of_mem h)
theorem okJ0_charAt_5068e : okM 843 sJ0_charAt_5068e = true := okM_by (by decide +kernel)
def sX8_takesWord : List Nat := [15, 142, 712, 713, 714, 715, 724, 725, 726, 771, 772, 773, 774, 782, 783, 784, 785, 786, 787, 788, 789, 790, 791, 832, 833, 834, 835, 836, 837, 838, 839, 840, 841, 842, 843, 844, 845, 846, 847, 848, 849, 850, 851, 852, 853, 854, 855, 896, 897, 898, 899, 900, 901, 902, 903, 904, 905, 906, 907, 908, 909, 910, 911, 912, 913, 914, 915, 916, 4480, 4481, 4482, 4483, 4484, 4485, 4486]
def wsX8_takesWord : List Cond := cw 782 :: wI sX8_takesWord
theorem mbX8_takesWord : ∀ i ∈ sX8_takesWord, cw i ∈ wsX8_takesWord := fun i h => List.mem_cons_of_mem _ (List.mem_map_of_mem h)
theorem okX8_takesWord : okM 782 sX8_takesWord = true := okM_by (by decide +kernel)
def sX2_readForm : List Nat := [2, 15, 142, 143, 148, 149, 650, 651, 652, 658, 659, 711, 712, 713, 714, 715, 720, 724, 725, 726, 771, 772, 773, 774, 835, 960, 961, 962, 963, 964, 965, 966, 967, 968, 969, 970, 971, 972, 973, 974, 975, 976, 977, 978, 979, 980, 981, 982, 983, 1024, 1025, 1026, 1027, 1028, 1029, 4480, 4481, 4482, 4483, 4484, 4485, 4486, 4544, 4545, 4546, 4547, 4548, 4549, 4550, 4551, 4552, 4553, 4554, 4555]
def wsX2_readForm : List Cond := cw 960 :: wI sX2_readForm
theorem mbX2_readForm : ∀ i ∈ sX2_readForm, cw i ∈ wsX2_readForm := fun i h => List.mem_cons_of_mem _ (List.mem_map_of_mem h)
theorem okX2_readForm : okM 960 sX2_readForm = true := okM_by (by decide +kernel)
def sX2_readHare : List Nat := [2, 15, 142, 143, 192, 193, 650, 651, 652, 658, 659, 711, 712, 713, 714, 715, 720, 721, 724, 725, 726, 771, 772, 773, 774, 835, 961, 962, 963, 964, 965, 966, 967, 968, 969, 970, 971, 972, 973, 974, 975, 976, 977, 978, 979, 980, 981, 982, 983, 1024, 1025, 1026, 1027, 1028, 1029, 1033, 4480, 4481, 4482, 4483, 4484, 4485, 4486, 4544, 4545, 4546, 4547, 4548, 4549, 4550, 4551, 4552, 4553, 4554, 4555]
def wsX2_readHare : List Cond := cw 1033 :: wI sX2_readHare
theorem mbX2_readHare : ∀ i ∈ sX2_readHare, cw i ∈ wsX2_readHare := fun i h => List.mem_cons_of_mem _ (List.mem_map_of_mem h)
theorem okX2_readHare : okM 1033 sX2_readHare = true := okM_by (by decide +kernel)
def sX2_readFox : List Nat := [2, 15, 142, 143, 150, 151, 650, 651, 652, 658, 659, 711, 712, 713, 714, 715, 722, 724, 725, 726, 771, 772, 773, 774, 835, 961, 962, 963, 964, 965, 966, 967, 968, 969, 970, 971, 972, 973, 974, 975, 976, 977, 978, 979, 980, 981, 982, 983, 1024, 1025, 1026, 1027, 1028, 1029, 1037, 4480, 4481, 4482, 4483, 4484, 4485, 4486, 4544, 4545, 4546, 4547, 4548, 4549, 4550, 4551, 4552, 4553, 4554, 4555]
def wsX2_readFox : List Cond := cw 1037 :: wI sX2_readFox
theorem mbX2_readFox : ∀ i ∈ sX2_readFox, cw i ∈ wsX2_readFox := fun i h => List.mem_cons_of_mem _ (List.mem_map_of_mem h)
theorem okX2_readFox : okM 1037 sX2_readFox = true := okM_by (by decide +kernel)
def sX2_readDebt : List Nat := [2, 15, 142, 143, 194, 650, 651, 652, 658, 659, 711, 712, 713, 714, 715, 721, 723, 724, 725, 726, 771, 772, 773, 774, 835, 961, 962, 963, 964, 965, 966, 967, 968, 969, 970, 971, 972, 973, 974, 975, 976, 977, 978, 979, 980, 981, 982, 983, 1024, 1025, 1026, 1027, 1028, 1029, 1041, 4480, 4481, 4482, 4483, 4484, 4485, 4486, 4544, 4545, 4546, 4547, 4548, 4549, 4550, 4551, 4552, 4553, 4554, 4555]
def wsX2_readDebt : List Cond := cw 1041 :: wI sX2_readDebt
theorem mbX2_readDebt : ∀ i ∈ sX2_readDebt, cw i ∈ wsX2_readDebt := fun i h => List.mem_cons_of_mem _ (List.mem_map_of_mem h)
theorem okX2_readDebt : okM 1041 sX2_readDebt = true := okM_by (by decide +kernel)
def sX2_readClause : List Nat := [2, 15, 19, 142, 143, 148, 149, 150, 151, 192, 193, 194, 650, 651, 652, 658, 659, 711, 712, 713, 714, 715, 720, 721, 722, 723, 724, 725, 726, 771, 772, 773, 774, 778, 779, 780, 781, 782, 783, 784, 785, 786, 787, 788, 789, 790, 791, 832, 833, 834, 835, 836, 837, 838, 839, 840, 841, 842, 843, 844, 845, 846, 847, 848, 849, 850, 851, 852, 853, 854, 855, 896, 897, 898, 899, 900, 901, 902, 903, 904, 905, 906, 907, 908, 909, 910, 911, 912, 913, 914, 915, 916, 917, 918, 919, 960, 961, 962, 963, 964, 965, 966, 967, 968, 969, 970, 971, 972, 973, 974, 975, 976, 977, 978, 979, 980, 981, 982, 983, 1024, 1025, 1026, 1027, 1028, 1029, 1030, 1031, 1032, 1033, 1034, 1035, 1036, 1037, 1038, 1039, 1040, 1041, 1042, 4480, 4481, 4482, 4483, 4484, 4485, 4486, 4544, 4545, 4546, 4547, 4548, 4549, 4550, 4551, 4552, 4553, 4554, 4555]
def wsX2_readClause : List Cond := cw 778 :: wI sX2_readClause
theorem mbX2_readClause : ∀ i ∈ sX2_readClause, cw i ∈ wsX2_readClause := fun i h => List.mem_cons_of_mem _ (List.mem_map_of_mem h)
theorem okX2_readClause : okM 778 sX2_readClause = true := okM_by (by decide +kernel)
def sX2_foxIsNear : List Nat := [148, 149, 150, 151, 651, 722, 1091, 1092, 1093, 1094, 4544, 4545, 4546, 4547, 4548, 4549, 4550, 4551, 4552, 4553, 4554, 4555]
def wsX2_foxIsNear : List Cond := cw 1091 :: wI sX2_foxIsNear
theorem mbX2_foxIsNear : ∀ i ∈ sX2_foxIsNear, cw i ∈ wsX2_foxIsNear := fun i h => List.mem_cons_of_mem _ (List.mem_map_of_mem h)
theorem okX2_foxIsNear : okM 1091 sX2_foxIsNear = true := okM_by (by decide +kernel)
def sX2_findSafe : List Nat := [19, 148, 149, 150, 151, 651, 720, 722, 1046, 1047, 1088, 1089, 1090, 1091, 1092, 1093, 1094, 4544, 4545, 4546, 4547, 4548, 4549, 4550, 4551, 4552, 4553, 4554, 4555]
def wsX2_findSafe : List Cond := cw 1046 :: wI sX2_findSafe
theorem mbX2_findSafe : ∀ i ∈ sX2_findSafe, cw i ∈ wsX2_findSafe := fun i h => List.mem_cons_of_mem _ (List.mem_map_of_mem h)
theorem okX2_findSafe : okM 1046 sX2_findSafe = true := okM_by (by decide +kernel)
def sX2_readFrom : List Nat := [2, 15, 19, 142, 143, 148, 149, 150, 151, 192, 193, 194, 650, 651, 652, 658, 659, 711, 712, 713, 714, 715, 719, 720, 721, 722, 723, 724, 725, 726, 727, 768, 769, 770, 771, 772, 773, 774, 775, 776, 777, 778, 779, 780, 781, 782, 783, 784, 785, 786, 787, 788, 789, 790, 791, 832, 833, 834, 835, 836, 837, 838, 839, 840, 841, 842, 843, 844, 845, 846, 847, 848, 849, 850, 851, 852, 853, 854, 855, 896, 897, 898, 899, 900, 901, 902, 903, 904, 905, 906, 907, 908, 909, 910, 911, 912, 913, 914, 915, 916, 917, 918, 919, 960, 961, 962, 963, 964, 965, 966, 967, 968, 969, 970, 971, 972, 973, 974, 975, 976, 977, 978, 979, 980, 981, 982, 983, 1024, 1025, 1026, 1027, 1028, 1029, 1030, 1031, 1032, 1033, 1034, 1035, 1036, 1037, 1038, 1039, 1040, 1041, 1042, 1043, 1044, 1045, 1046, 1047, 1088, 1089, 1090, 1091, 1092, 1093, 1094, 4480, 4481, 4482, 4483, 4484, 4485, 4486, 4544, 4545, 4546, 4547, 4548, 4549, 4550, 4551, 4552, 4553, 4554, 4555]
def wsX2_readFrom : List Cond := cw 719 :: wI sX2_readFrom
theorem mbX2_readFrom : ∀ i ∈ sX2_readFrom, cw i ∈ wsX2_readFrom := fun i h => List.mem_cons_of_mem _ (List.mem_map_of_mem h)
theorem okX2_readFrom : okM 719 sX2_readFrom = true := okM_by (by decide +kernel)
def sX2_hopsBetween : List Nat := [2, 19, 148, 149, 651, 720, 1092, 1093, 1094, 1750, 1751, 1792, 2052, 2053, 3020, 3021, 3022, 3023, 3024, 3025, 4544, 4545, 4546, 4547, 4548, 4549, 4550, 4551, 4552, 4553, 4554, 4555]
def wsX2_hopsBetween : List Cond := cw 3020 :: wI sX2_hopsBetween
theorem mbX2_hopsBetween : ∀ i ∈ sX2_hopsBetween, cw i ∈ wsX2_hopsBetween := fun i h => List.mem_cons_of_mem _ (List.mem_map_of_mem h)
theorem okX2_hopsBetween : okM 3020 sX2_hopsBetween = true := okM_by (by decide +kernel)
def sX2_seenFrom : List Nat := [2, 195, 720, 2052, 2053, 3714, 4544, 4545, 4546, 4547, 4548, 4549, 4550, 4551, 4552, 4553, 4554, 4555]
def wsX2_seenFrom : List Cond := cw 3714 :: wI sX2_seenFrom
theorem mbX2_seenFrom : ∀ i ∈ sX2_seenFrom, cw i ∈ wsX2_seenFrom := fun i h => List.mem_cons_of_mem _ (List.mem_map_of_mem h)
theorem okX2_seenFrom : okM 3714 sX2_seenFrom = true := okM_by (by decide +kernel)
def sX2_watchers : List Nat := [2, 19, 148, 149, 195, 651, 720, 1092, 1093, 1094, 1750, 1751, 1792, 1802, 1803, 1804, 1805, 1806, 1807, 2052, 2053, 3021, 3022, 3023, 3024, 3025, 3669, 3670, 3671, 3712, 3713, 3714, 4544, 4545, 4546, 4547, 4548, 4549, 4550, 4551, 4552, 4553, 4554, 4555]
def wsX2_watchers : List Cond := cw 3669 :: wI sX2_watchers
theorem mbX2_watchers : ∀ i ∈ sX2_watchers, cw i ∈ wsX2_watchers := fun i h => List.mem_cons_of_mem _ (List.mem_map_of_mem h)
theorem okX2_watchers : okM 3669 sX2_watchers = true := okM_by (by decide +kernel)
def sX3_init : List Nat := [11, 12, 147, 388, 389, 390, 391, 392, 393, 5056, 5057, 5058, 5059, 5060, 5061, 5062, 5063, 5064, 5065, 5066]
def wsX3_init : List Cond := cw 388 :: wI sX3_init
theorem mbX3_init : ∀ i ∈ sX3_init, cw i ∈ wsX3_init := fun i h => List.mem_cons_of_mem _ (List.mem_map_of_mem h)
theorem okX3_init : okM 388 sX3_init = true := okM_by (by decide +kernel)
def sX3_seatedThen : List Nat := [390, 391, 3529, 5056, 5057, 5058, 5059, 5060, 5061, 5062, 5063, 5064, 5065, 5066]
def wsX3_seatedThen : List Cond := cw 3529 :: wI sX3_seatedThen
theorem mbX3_seatedThen : ∀ i ∈ sX3_seatedThen, cw i ∈ wsX3_seatedThen := fun i h => List.mem_cons_of_mem _ (List.mem_map_of_mem h)
theorem okX3_seatedThen : okM 3529 sX3_seatedThen = true := okM_by (by decide +kernel)
def sX3_allRight : List Nat := [69, 136, 257, 390, 391, 3470, 3471, 3525, 3526, 3527, 3528, 3529, 3530, 3531, 3532, 3533, 4672, 4673, 5056, 5057, 5058, 5059, 5060, 5061, 5062, 5063, 5064, 5065, 5066]
def wsX3_allRight : List Cond := cw 3525 :: wI sX3_allRight
theorem mbX3_allRight : ∀ i ∈ sX3_allRight, cw i ∈ wsX3_allRight := fun i h => List.mem_cons_of_mem _ (List.mem_map_of_mem h)
theorem okX3_allRight : okM 3525 sX3_allRight = true := okM_by (by decide +kernel)
def sX3_formsFor : List Nat := [69, 136, 257, 390, 391, 3470, 3471, 3472, 3473, 3521, 3522, 3523, 3524, 3525, 3526, 3527, 3528, 3529, 3530, 3531, 3532, 3533, 4672, 4673, 5056, 5057, 5058, 5059, 5060, 5061, 5062, 5063, 5064, 5065, 5066]
def wsX3_formsFor : List Cond := cw 3521 :: wI sX3_formsFor
theorem mbX3_formsFor : ∀ i ∈ sX3_formsFor, cw i ∈ wsX3_formsFor := fun i h => List.mem_cons_of_mem _ (List.mem_map_of_mem h)
theorem okX3_formsFor : okM 3521 sX3_formsFor = true := okM_by (by decide +kernel)
def sX3_settle : List Nat := [69, 78, 136, 257, 276, 322, 324, 390, 391, 392, 1741, 1742, 1743, 1744, 1745, 1746, 1747, 1748, 1798, 1799, 1800, 1802, 1803, 1804, 1805, 1806, 1807, 3465, 3466, 3467, 3468, 3469, 3470, 3471, 3472, 3473, 3474, 3475, 3476, 3477, 3478, 3479, 3520, 3521, 3522, 3523, 3524, 3525, 3526, 3527, 3528, 3529, 3530, 3531, 3532, 3533, 4544, 4545, 4546, 4547, 4548, 4549, 4550, 4551, 4552, 4553, 4554, 4555, 4672, 4673, 4800, 4801, 4802, 4803, 5056, 5057, 5058, 5059, 5060, 5061, 5062, 5063, 5064, 5065, 5066]
def wsX3_settle : List Cond := cw 3465 :: wI sX3_settle
theorem mbX3_settle : ∀ i ∈ sX3_settle, cw i ∈ wsX3_settle := fun i h => List.mem_cons_of_mem _ (List.mem_map_of_mem h)
theorem okX3_settle : okM 3465 sX3_settle = true := okM_by (by decide +kernel)
def sX3_tallied : List Nat := [2, 393, 658, 659, 3650, 5056, 5057, 5058, 5059, 5060, 5061, 5062, 5063, 5064, 5065, 5066]
def wsX3_tallied : List Cond := cw 3650 :: wI sX3_tallied
theorem mbX3_tallied : ∀ i ∈ sX3_tallied, cw i ∈ wsX3_tallied := fun i h => List.mem_cons_of_mem _ (List.mem_map_of_mem h)
theorem okX3_tallied : okM 3650 sX3_tallied = true := okM_by (by decide +kernel)
def sX3_worstAt : List Nat := [2, 136, 390, 391, 392, 393, 651, 658, 659, 1930, 1931, 2052, 2053, 3468, 3470, 3526, 3527, 3528, 3529, 3605, 3606, 3607, 3648, 3649, 3650, 5056, 5057, 5058, 5059, 5060, 5061, 5062, 5063, 5064, 5065, 5066]
def wsX3_worstAt : List Cond := cw 3605 :: wI sX3_worstAt
theorem mbX3_worstAt : ∀ i ∈ sX3_worstAt, cw i ∈ wsX3_worstAt := fun i h => List.mem_cons_of_mem _ (List.mem_map_of_mem h)
theorem okX3_worstAt : okM 3605 sX3_worstAt = true := okM_by (by decide +kernel)
def sX3_lookAhead : List Nat := [2, 69, 136, 257, 390, 391, 392, 393, 651, 658, 659, 1930, 1931, 2052, 2053, 2439, 2440, 2441, 3468, 3470, 3471, 3526, 3527, 3528, 3529, 3598, 3599, 3600, 3601, 3602, 3603, 3604, 3605, 3606, 3607, 3648, 3649, 3650, 4672, 4673, 5056, 5057, 5058, 5059, 5060, 5061, 5062, 5063, 5064, 5065, 5066]
def wsX3_lookAhead : List Cond := cw 3598 :: wI sX3_lookAhead
theorem mbX3_lookAhead : ∀ i ∈ sX3_lookAhead, cw i ∈ wsX3_lookAhead := fun i h => List.mem_cons_of_mem _ (List.mem_map_of_mem h)
theorem okX3_lookAhead : okM 3598 sX3_lookAhead = true := okM_by (by decide +kernel)
def sX4_add : List Nat := [200, 201, 208, 212, 4608, 4609, 4610, 4611, 4612]
def wsX4_add : List Cond := cw 212 :: wI sX4_add
theorem mbX4_add : ∀ i ∈ sX4_add, cw i ∈ wsX4_add := fun i h => List.mem_cons_of_mem _ (List.mem_map_of_mem h)
theorem okX4_add : okM 212 sX4_add = true := okM_by (by decide +kernel)
def sX4_setPlain : List Nat := [64, 200, 201, 207, 208, 209, 210, 211, 212, 4608, 4609, 4610, 4611, 4612]
def wsX4_setPlain : List Cond := cw 207 :: wI sX4_setPlain
theorem mbX4_setPlain : ∀ i ∈ sX4_setPlain, cw i ∈ wsX4_setPlain := fun i h => List.mem_cons_of_mem _ (List.mem_map_of_mem h)
theorem okX4_setPlain : okM 207 sX4_setPlain = true := okM_by (by decide +kernel)
def sX4_init : List Nat := [11, 12, 64, 147, 198, 199, 200, 201, 202, 203, 204, 205, 206, 207, 208, 209, 210, 211, 212, 4608, 4609, 4610, 4611, 4612]
def wsX4_init : List Cond := cw 198 :: wI sX4_init
theorem mbX4_init : ∀ i ∈ sX4_init, cw i ∈ wsX4_init := fun i h => List.mem_cons_of_mem _ (List.mem_map_of_mem h)
theorem okX4_init : okM 198 sX4_init = true := okM_by (by decide +kernel)
def sX8_seesDigit : List Nat := [15, 142, 712, 713, 771, 772, 773, 774, 974, 975, 976, 977, 1414, 4480, 4481, 4482, 4483, 4484, 4485, 4486]
def wsX8_seesDigit : List Cond := cw 1414 :: wI sX8_seesDigit
theorem mbX8_seesDigit : ∀ i ∈ sX8_seesDigit, cw i ∈ wsX8_seesDigit := fun i h => List.mem_cons_of_mem _ (List.mem_map_of_mem h)
theorem okX8_seesDigit : okM 1414 sX8_seesDigit = true := okM_by (by decide +kernel)
def sX4_readFact : List Nat := [15, 64, 142, 143, 200, 201, 208, 209, 210, 211, 212, 712, 713, 714, 715, 724, 725, 726, 771, 772, 773, 774, 780, 781, 782, 783, 784, 785, 786, 787, 788, 789, 790, 791, 832, 833, 834, 835, 836, 837, 838, 839, 840, 841, 842, 843, 844, 845, 846, 847, 848, 849, 850, 851, 852, 853, 854, 855, 896, 897, 898, 899, 900, 901, 902, 903, 904, 905, 906, 907, 908, 909, 910, 911, 912, 913, 914, 915, 916, 965, 966, 967, 968, 1027, 1028, 1029, 1419, 1426, 1427, 4480, 4481, 4482, 4483, 4484, 4485, 4486, 4608, 4609, 4610, 4611, 4612]
def wsX4_readFact : List Cond := cw 1426 :: wI sX4_readFact
theorem mbX4_readFact : ∀ i ∈ sX4_readFact, cw i ∈ wsX4_readFact := fun i h => List.mem_cons_of_mem _ (List.mem_map_of_mem h)
theorem okX4_readFact : okM 1426 sX4_readFact = true := okM_by (by decide +kernel)
def sX4_readInner : List Nat := [2, 15, 64, 142, 143, 200, 201, 208, 209, 210, 211, 212, 650, 651, 652, 658, 659, 711, 712, 713, 714, 715, 724, 725, 726, 771, 772, 773, 774, 780, 781, 782, 783, 784, 785, 786, 787, 788, 789, 790, 791, 832, 833, 834, 835, 836, 837, 838, 839, 840, 841, 842, 843, 844, 845, 846, 847, 848, 849, 850, 851, 852, 853, 854, 855, 896, 897, 898, 899, 900, 901, 902, 903, 904, 905, 906, 907, 908, 909, 910, 911, 912, 913, 914, 915, 916, 962, 963, 964, 965, 966, 967, 968, 970, 971, 972, 973, 974, 975, 976, 977, 979, 980, 981, 982, 983, 1024, 1025, 1026, 1027, 1028, 1029, 1353, 1354, 1355, 1356, 1357, 1358, 1359, 1360, 1361, 1362, 1363, 1364, 1365, 1366, 1367, 1408, 1409, 1410, 1411, 1412, 1413, 1414, 1415, 1416, 1417, 1418, 1419, 1420, 1421, 1422, 1423, 1424, 1425, 1426, 1427, 4480, 4481, 4482, 4483, 4484, 4485, 4486, 4608, 4609, 4610, 4611, 4612]
def wsX4_readInner : List Cond := cw 1362 :: wI sX4_readInner
theorem mbX4_readInner : ∀ i ∈ sX4_readInner, cw i ∈ wsX4_readInner := fun i h => List.mem_cons_of_mem _ (List.mem_map_of_mem h)
theorem okX4_readInner : okM 1362 sX4_readInner = true := okM_by (by decide +kernel)
def sX4_readPair : List Nat := [2, 15, 64, 142, 143, 200, 201, 208, 209, 210, 211, 212, 650, 651, 652, 658, 659, 711, 712, 713, 714, 715, 724, 725, 726, 771, 772, 773, 774, 780, 781, 782, 783, 784, 785, 786, 787, 788, 789, 790, 791, 832, 833, 834, 835, 836, 837, 838, 839, 840, 841, 842, 843, 844, 845, 846, 847, 848, 849, 850, 851, 852, 853, 854, 855, 896, 897, 898, 899, 900, 901, 902, 903, 904, 905, 906, 907, 908, 909, 910, 911, 912, 913, 914, 915, 916, 962, 963, 964, 965, 966, 967, 968, 970, 971, 972, 973, 974, 975, 976, 977, 979, 980, 981, 982, 983, 1024, 1025, 1026, 1027, 1028, 1029, 1353, 1354, 1355, 1356, 1357, 1358, 1359, 1360, 1361, 1362, 1363, 1364, 1365, 1366, 1367, 1408, 1409, 1410, 1411, 1412, 1413, 1414, 1415, 1416, 1417, 1418, 1419, 1420, 1421, 1422, 1423, 1424, 1425, 1426, 1427, 4480, 4481, 4482, 4483, 4484, 4485, 4486, 4608, 4609, 4610, 4611, 4612]
def wsX4_readPair : List Cond := cw 1365 :: wI sX4_readPair
theorem mbX4_readPair : ∀ i ∈ sX4_readPair, cw i ∈ wsX4_readPair := fun i h => List.mem_cons_of_mem _ (List.mem_map_of_mem h)
theorem okX4_readPair : okM 1365 sX4_readPair = true := okM_by (by decide +kernel)
def sX4_readProduct : List Nat := [2, 15, 64, 142, 143, 200, 201, 208, 209, 210, 211, 212, 650, 651, 652, 658, 659, 711, 712, 713, 714, 715, 724, 725, 726, 771, 772, 773, 774, 780, 781, 782, 783, 784, 785, 786, 787, 788, 789, 790, 791, 832, 833, 834, 835, 836, 837, 838, 839, 840, 841, 842, 843, 844, 845, 846, 847, 848, 849, 850, 851, 852, 853, 854, 855, 896, 897, 898, 899, 900, 901, 902, 903, 904, 905, 906, 907, 908, 909, 910, 911, 912, 913, 914, 915, 916, 962, 963, 964, 965, 966, 967, 968, 970, 971, 972, 973, 974, 975, 976, 977, 979, 980, 981, 982, 983, 1024, 1025, 1026, 1027, 1028, 1029, 1353, 1354, 1355, 1356, 1357, 1358, 1359, 1360, 1361, 1362, 1363, 1364, 1365, 1366, 1367, 1408, 1409, 1410, 1411, 1412, 1413, 1414, 1415, 1416, 1417, 1418, 1419, 1420, 1421, 1422, 1423, 1424, 1425, 1426, 1427, 4480, 4481, 4482, 4483, 4484, 4485, 4486, 4608, 4609, 4610, 4611, 4612]
def wsX4_readProduct : List Cond := cw 1366 :: wI sX4_readProduct
theorem mbX4_readProduct : ∀ i ∈ sX4_readProduct, cw i ∈ wsX4_readProduct := fun i h => List.mem_cons_of_mem _ (List.mem_map_of_mem h)
theorem okX4_readProduct : okM 1366 sX4_readProduct = true := okM_by (by decide +kernel)
def sX4_readSum : List Nat := [2, 15, 64, 142, 143, 200, 201, 208, 209, 210, 211, 212, 650, 651, 652, 658, 659, 711, 712, 713, 714, 715, 724, 725, 726, 771, 772, 773, 774, 780, 781, 782, 783, 784, 785, 786, 787, 788, 789, 790, 791, 832, 833, 834, 835, 836, 837, 838, 839, 840, 841, 842, 843, 844, 845, 846, 847, 848, 849, 850, 851, 852, 853, 854, 855, 896, 897, 898, 899, 900, 901, 902, 903, 904, 905, 906, 907, 908, 909, 910, 911, 912, 913, 914, 915, 916, 962, 963, 964, 965, 966, 967, 968, 970, 971, 972, 973, 974, 975, 976, 977, 979, 980, 981, 982, 983, 1024, 1025, 1026, 1027, 1028, 1029, 1353, 1354, 1355, 1356, 1357, 1358, 1359, 1360, 1361, 1362, 1363, 1364, 1365, 1366, 1367, 1408, 1409, 1410, 1411, 1412, 1413, 1414, 1415, 1416, 1417, 1418, 1419, 1420, 1421, 1422, 1423, 1424, 1425, 1426, 1427, 4480, 4481, 4482, 4483, 4484, 4485, 4486, 4608, 4609, 4610, 4611, 4612]
def wsX4_readSum : List Cond := cw 1356 :: wI sX4_readSum
theorem mbX4_readSum : ∀ i ∈ sX4_readSum, cw i ∈ wsX4_readSum := fun i h => List.mem_cons_of_mem _ (List.mem_map_of_mem h)
theorem okX4_readSum : okM 1356 sX4_readSum = true := okM_by (by decide +kernel)
def sX4_readUnit : List Nat := [2, 15, 64, 142, 143, 200, 201, 208, 209, 210, 211, 212, 650, 651, 652, 658, 659, 711, 712, 713, 714, 715, 724, 725, 726, 771, 772, 773, 774, 780, 781, 782, 783, 784, 785, 786, 787, 788, 789, 790, 791, 832, 833, 834, 835, 836, 837, 838, 839, 840, 841, 842, 843, 844, 845, 846, 847, 848, 849, 850, 851, 852, 853, 854, 855, 896, 897, 898, 899, 900, 901, 902, 903, 904, 905, 906, 907, 908, 909, 910, 911, 912, 913, 914, 915, 916, 962, 963, 964, 965, 966, 967, 968, 970, 971, 972, 973, 974, 975, 976, 977, 979, 980, 981, 982, 983, 1024, 1025, 1026, 1027, 1028, 1029, 1353, 1354, 1355, 1356, 1357, 1358, 1359, 1360, 1361, 1362, 1363, 1364, 1365, 1366, 1367, 1408, 1409, 1410, 1411, 1412, 1413, 1414, 1415, 1416, 1417, 1418, 1419, 1420, 1421, 1422, 1423, 1424, 1425, 1426, 1427, 4480, 4481, 4482, 4483, 4484, 4485, 4486, 4608, 4609, 4610, 4611, 4612]
def wsX4_readUnit : List Cond := cw 1410 :: wI sX4_readUnit
theorem mbX4_readUnit : ∀ i ∈ sX4_readUnit, cw i ∈ wsX4_readUnit := fun i h => List.mem_cons_of_mem _ (List.mem_map_of_mem h)
theorem okX4_readUnit : okM 1410 sX4_readUnit = true := okM_by (by decide +kernel)
def sX8_needsEnd : List Nat := [15, 142, 143, 712, 713, 715, 768, 769, 770, 771, 772, 773, 774, 965, 966, 967, 968, 1026, 1027, 1028, 1029, 1431, 1472, 4480, 4481, 4482, 4483, 4484, 4485, 4486]
def wsX8_needsEnd : List Cond := cw 1431 :: wI sX8_needsEnd
theorem mbX8_needsEnd : ∀ i ∈ sX8_needsEnd, cw i ∈ wsX8_needsEnd := fun i h => List.mem_cons_of_mem _ (List.mem_map_of_mem h)
theorem okX8_needsEnd : okM 1431 sX8_needsEnd = true := okM_by (by decide +kernel)
def sX4_readFrom : List Nat := [2, 15, 64, 142, 143, 200, 201, 208, 209, 210, 211, 212, 650, 651, 652, 658, 659, 711, 712, 713, 714, 715, 724, 725, 726, 768, 769, 770, 771, 772, 773, 774, 780, 781, 782, 783, 784, 785, 786, 787, 788, 789, 790, 791, 832, 833, 834, 835, 836, 837, 838, 839, 840, 841, 842, 843, 844, 845, 846, 847, 848, 849, 850, 851, 852, 853, 854, 855, 896, 897, 898, 899, 900, 901, 902, 903, 904, 905, 906, 907, 908, 909, 910, 911, 912, 913, 914, 915, 916, 962, 963, 964, 965, 966, 967, 968, 970, 971, 972, 973, 974, 975, 976, 977, 979, 980, 981, 982, 983, 1024, 1025, 1026, 1027, 1028, 1029, 1352, 1353, 1354, 1355, 1356, 1357, 1358, 1359, 1360, 1361, 1362, 1363, 1364, 1365, 1366, 1367, 1408, 1409, 1410, 1411, 1412, 1413, 1414, 1415, 1416, 1417, 1418, 1419, 1420, 1421, 1422, 1423, 1424, 1425, 1426, 1427, 1428, 1429, 1430, 1431, 1472, 4480, 4481, 4482, 4483, 4484, 4485, 4486, 4608, 4609, 4610, 4611, 4612]
def wsX4_readFrom : List Cond := cw 1352 :: wI sX4_readFrom
theorem mbX4_readFrom : ∀ i ∈ sX4_readFrom, cw i ∈ wsX4_readFrom := fun i h => List.mem_cons_of_mem _ (List.mem_map_of_mem h)
theorem okX4_readFrom : okM 1352 sX4_readFrom = true := okM_by (by decide +kernel)
def sX5_init : List Nat := [11, 12, 147, 333, 334, 335, 4864, 4865]
def wsX5_init : List Cond := cw 333 :: wI sX5_init
theorem mbX5_init : ∀ i ∈ sX5_init, cw i ∈ wsX5_init := fun i h => List.mem_cons_of_mem _ (List.mem_map_of_mem h)
theorem okX5_init : okM 333 sX5_init = true := okM_by (by decide +kernel)
def sX5_push : List Nat := [329, 330, 331, 335, 1675, 1676, 1677, 1678, 4800, 4801, 4802, 4803, 4864, 4865]
def wsX5_push : List Cond := cw 1675 :: wI sX5_push
theorem mbX5_push : ∀ i ∈ sX5_push, cw i ∈ wsX5_push := fun i h => List.mem_cons_of_mem _ (List.mem_map_of_mem h)
theorem okX5_push : okM 1675 sX5_push = true := okM_by (by decide +kernel)
def sX5_pop : List Nat := [329, 330, 331, 335, 1676, 1677, 1678, 2504, 4800, 4801, 4802, 4803, 4864, 4865]
def wsX5_pop : List Cond := cw 2504 :: wI sX5_pop
theorem mbX5_pop : ∀ i ∈ sX5_pop, cw i ∈ wsX5_pop := fun i h => List.mem_cons_of_mem _ (List.mem_map_of_mem h)
theorem okX5_pop : okM 2504 sX5_pop = true := okM_by (by decide +kernel)
def sX5_copyFrom : List Nat := [329, 330, 331, 335, 1676, 1678, 4180, 4864, 4865]
def wsX5_copyFrom : List Cond := cw 4180 :: wI sX5_copyFrom
theorem mbX5_copyFrom : ∀ i ∈ sX5_copyFrom, cw i ∈ wsX5_copyFrom := fun i h => List.mem_cons_of_mem _ (List.mem_map_of_mem h)
theorem okX5_copyFrom : okM 4180 sX5_copyFrom = true := okM_by (by decide +kernel)
def sX6_init : List Nat := [11, 12, 147, 337, 338, 339, 340, 4928, 4929, 4930]
def wsX6_init : List Cond := cw 337 :: wI sX6_init
theorem mbX6_init : ∀ i ∈ sX6_init, cw i ∈ wsX6_init := fun i h => List.mem_cons_of_mem _ (List.mem_map_of_mem h)
theorem okX6_init : okM 337 sX6_init = true := okM_by (by decide +kernel)
def sX6_wayOver : List Nat := [19, 148, 149, 339, 651, 1092, 1093, 1094, 1750, 1751, 1792, 3276, 3280, 4544, 4545, 4546, 4547, 4548, 4549, 4550, 4551, 4552, 4553, 4554, 4555, 4928, 4929, 4930]
def wsX6_wayOver : List Cond := cw 3280 :: wI sX6_wayOver
theorem mbX6_wayOver : ∀ i ∈ sX6_wayOver, cw i ∈ wsX6_wayOver := fun i h => List.mem_cons_of_mem _ (List.mem_map_of_mem h)
theorem okX6_wayOver : okM 3280 sX6_wayOver = true := okM_by (by decide +kernel)
def sX6_leastWay : List Nat := [2, 19, 128, 148, 149, 339, 650, 651, 652, 1092, 1093, 1094, 1750, 1751, 1792, 2052, 2053, 3265, 3273, 3274, 3275, 3276, 3277, 3278, 3279, 3280, 4544, 4545, 4546, 4547, 4548, 4549, 4550, 4551, 4552, 4553, 4554, 4555, 4928, 4929, 4930]
def wsX6_leastWay : List Cond := cw 3273 :: wI sX6_leastWay
theorem mbX6_leastWay : ∀ i ∈ sX6_leastWay, cw i ∈ wsX6_leastWay := fun i h => List.mem_cons_of_mem _ (List.mem_map_of_mem h)
theorem okX6_leastWay : okM 3273 sX6_leastWay = true := okM_by (by decide +kernel)
def sX6_settleFor : List Nat := [2, 19, 128, 148, 149, 339, 650, 651, 652, 1092, 1093, 1094, 1750, 1751, 1792, 2052, 2053, 3265, 3269, 3270, 3271, 3272, 3273, 3274, 3275, 3276, 3277, 3278, 3279, 3280, 4544, 4545, 4546, 4547, 4548, 4549, 4550, 4551, 4552, 4553, 4554, 4555, 4928, 4929, 4930]
def wsX6_settleFor : List Cond := cw 3269 :: wI sX6_settleFor
theorem mbX6_settleFor : ∀ i ∈ sX6_settleFor, cw i ∈ wsX6_settleFor := fun i h => List.mem_cons_of_mem _ (List.mem_map_of_mem h)
theorem okX6_settleFor : okM 3269 sX6_settleFor = true := okM_by (by decide +kernel)
def sX6_firstBest : List Nat := [2, 19, 128, 148, 149, 339, 651, 1092, 1093, 1094, 1750, 1751, 1792, 2052, 2053, 3265, 3276, 3277, 3278, 3279, 3280, 3328, 4544, 4545, 4546, 4547, 4548, 4549, 4550, 4551, 4552, 4553, 4554, 4555, 4928, 4929, 4930]
def wsX6_firstBest : List Cond := cw 3328 :: wI sX6_firstBest
theorem mbX6_firstBest : ∀ i ∈ sX6_firstBest, cw i ∈ wsX6_firstBest := fun i h => List.mem_cons_of_mem _ (List.mem_map_of_mem h)
theorem okX6_firstBest : okM 3328 sX6_firstBest = true := okM_by (by decide +kernel)
def sX6_walk : List Nat := [2, 19, 128, 148, 149, 339, 340, 651, 1092, 1093, 1094, 1750, 1751, 1792, 2052, 2053, 3265, 3276, 3277, 3278, 3279, 3280, 3284, 3285, 3286, 3287, 3328, 4544, 4545, 4546, 4547, 4548, 4549, 4550, 4551, 4552, 4553, 4554, 4555, 4928, 4929, 4930]
def wsX6_walk : List Cond := cw 3284 :: wI sX6_walk
theorem mbX6_walk : ∀ i ∈ sX6_walk, cw i ∈ wsX6_walk := fun i h => List.mem_cons_of_mem _ (List.mem_map_of_mem h)
theorem okX6_walk : okM 3284 sX6_walk = true := okM_by (by decide +kernel)
def sX6_settle : List Nat := [2, 19, 128, 148, 149, 339, 340, 650, 651, 652, 1092, 1093, 1094, 1750, 1751, 1792, 2052, 2053, 3223, 3264, 3265, 3266, 3267, 3268, 3269, 3270, 3271, 3272, 3273, 3274, 3275, 3276, 3277, 3278, 3279, 3280, 3281, 3282, 3283, 3284, 3285, 3286, 3287, 3328, 4544, 4545, 4546, 4547, 4548, 4549, 4550, 4551, 4552, 4553, 4554, 4555, 4928, 4929, 4930]
def wsX6_settle : List Cond := cw 3223 :: wI sX6_settle
theorem mbX6_settle : ∀ i ∈ sX6_settle, cw i ∈ wsX6_settle := fun i h => List.mem_cons_of_mem _ (List.mem_map_of_mem h)
theorem okX6_settle : okM 3223 sX6_settle = true := okM_by (by decide +kernel)
def sX7_init : List Nat := [11, 12, 147, 342, 343, 384, 385, 386, 4992, 4993, 4994, 4995]
def wsX7_init : List Cond := cw 342 :: wI sX7_init
theorem mbX7_init : ∀ i ∈ sX7_init, cw i ∈ wsX7_init := fun i h => List.mem_cons_of_mem _ (List.mem_map_of_mem h)
theorem okX7_init : okM 342 sX7_init = true := okM_by (by decide +kernel)
def sX7_allowedTo : List Nat := [19, 64, 78, 148, 149, 200, 201, 202, 203, 208, 276, 322, 323, 324, 650, 651, 652, 720, 1092, 1093, 1094, 1741, 1742, 1743, 1744, 1745, 1746, 1747, 1748, 1750, 1751, 1792, 1793, 1794, 1795, 1796, 1797, 1798, 1799, 1800, 1801, 1802, 1803, 1804, 1805, 1806, 1807, 1808, 1809, 1810, 1811, 1812, 1813, 1814, 1815, 1856, 1857, 1858, 1859, 1860, 1861, 1862, 1863, 1864, 1865, 1866, 1867, 1868, 1869, 1870, 1871, 1872, 1873, 1874, 1875, 1876, 1877, 1878, 1879, 1920, 1921, 1922, 1923, 1924, 1925, 1926, 1927, 1928, 1929, 1930, 1931, 1932, 1933, 1934, 3022, 3023, 3024, 3025, 3079, 3086, 3087, 3088, 3089, 3090, 3091, 3092, 3093, 4544, 4545, 4546, 4547, 4548, 4549, 4550, 4551, 4552, 4553, 4554, 4555, 4608, 4609, 4610, 4611, 4612, 4800, 4801, 4802, 4803]
def wsX7_allowedTo : List Cond := cw 3086 :: wI sX7_allowedTo
theorem mbX7_allowedTo : ∀ i ∈ sX7_allowedTo, cw i ∈ wsX7_allowedTo := fun i h => List.mem_cons_of_mem _ (List.mem_map_of_mem h)
theorem okX7_allowedTo : okM 3086 sX7_allowedTo = true := okM_by (by decide +kernel)
def sX7_mostBehind : List Nat := [384, 3142, 4992, 4993, 4994, 4995]
def wsX7_mostBehind : List Cond := cw 3142 :: wI sX7_mostBehind
theorem mbX7_mostBehind : ∀ i ∈ sX7_mostBehind, cw i ∈ wsX7_mostBehind := fun i h => List.mem_cons_of_mem _ (List.mem_map_of_mem h)
theorem okX7_mostBehind : okM 3142 sX7_mostBehind = true := okM_by (by decide +kernel)
def sX7_mostFrom : List Nat := [2, 132, 384, 385, 651, 1930, 1931, 2052, 2053, 3137, 3138, 3139, 3140, 3141, 3142, 4992, 4993, 4994, 4995]
def wsX7_mostFrom : List Cond := cw 3137 :: wI sX7_mostFrom
theorem mbX7_mostFrom : ∀ i ∈ sX7_mostFrom, cw i ∈ wsX7_mostFrom := fun i h => List.mem_cons_of_mem _ (List.mem_map_of_mem h)
theorem okX7_mostFrom : okM 3137 sX7_mostFrom = true := okM_by (by decide +kernel)
def sX7_firstBest : List Nat := [2, 132, 384, 385, 2052, 2053, 3139, 3140, 3141, 3142, 3150, 4992, 4993, 4994, 4995]
def wsX7_firstBest : List Cond := cw 3150 :: wI sX7_firstBest
theorem mbX7_firstBest : ∀ i ∈ sX7_firstBest, cw i ∈ wsX7_firstBest := fun i h => List.mem_cons_of_mem _ (List.mem_map_of_mem h)
theorem okX7_firstBest : okM 3150 sX7_firstBest = true := okM_by (by decide +kernel)
def sX7_give : List Nat := [2, 132, 384, 385, 386, 2052, 2053, 3139, 3140, 3141, 3142, 3146, 3147, 3148, 3149, 3150, 4992, 4993, 4994, 4995]
def wsX7_give : List Cond := cw 3146 :: wI sX7_give
theorem mbX7_give : ∀ i ∈ sX7_give, cw i ∈ wsX7_give := fun i h => List.mem_cons_of_mem _ (List.mem_map_of_mem h)
theorem okX7_give : okM 3146 sX7_give = true := okM_by (by decide +kernel)
def sX7_settle : List Nat := [2, 19, 64, 78, 132, 148, 149, 200, 201, 202, 203, 208, 276, 322, 323, 324, 384, 385, 386, 650, 651, 652, 720, 1092, 1093, 1094, 1741, 1742, 1743, 1744, 1745, 1746, 1747, 1748, 1750, 1751, 1792, 1793, 1794, 1795, 1796, 1797, 1798, 1799, 1800, 1801, 1802, 1803, 1804, 1805, 1806, 1807, 1808, 1809, 1810, 1811, 1812, 1813, 1814, 1815, 1856, 1857, 1858, 1859, 1860, 1861, 1862, 1863, 1864, 1865, 1866, 1867, 1868, 1869, 1870, 1871, 1872, 1873, 1874, 1875, 1876, 1877, 1878, 1879, 1920, 1921, 1922, 1923, 1924, 1925, 1926, 1927, 1928, 1929, 1930, 1931, 1932, 1933, 1934, 2052, 2053, 3022, 3023, 3024, 3025, 3078, 3079, 3080, 3081, 3082, 3083, 3084, 3085, 3086, 3087, 3088, 3089, 3090, 3091, 3092, 3093, 3094, 3095, 3136, 3137, 3138, 3139, 3140, 3141, 3142, 3143, 3144, 3145, 3146, 3147, 3148, 3149, 3150, 4544, 4545, 4546, 4547, 4548, 4549, 4550, 4551, 4552, 4553, 4554, 4555, 4608, 4609, 4610, 4611, 4612, 4800, 4801, 4802, 4803, 4992, 4993, 4994, 4995]
def wsX7_settle : List Cond := cw 3078 :: wI sX7_settle
theorem mbX7_settle : ∀ i ∈ sX7_settle, cw i ∈ wsX7_settle := fun i h => List.mem_cons_of_mem _ (List.mem_map_of_mem h)
theorem okX7_settle : okM 3078 sX7_settle = true := okM_by (by decide +kernel)
def sX8_init : List Nat := [11, 12, 139, 140, 141, 142, 143, 4480, 4481, 4482, 4483, 4484, 4485, 4486]
def wsX8_init : List Cond := cw 139 :: wI sX8_init
theorem mbX8_init : ∀ i ∈ sX8_init, cw i ∈ wsX8_init := fun i h => List.mem_cons_of_mem _ (List.mem_map_of_mem h)
theorem okX8_init : okM 139 sX8_init = true := okM_by (by decide +kernel)
def sX8_hasRoom : List Nat := [579, 580, 4480, 4481, 4482, 4483, 4484, 4485, 4486]
def wsX8_hasRoom : List Cond := cw 579 :: wI sX8_hasRoom
theorem mbX8_hasRoom : ∀ i ∈ sX8_hasRoom, cw i ∈ wsX8_hasRoom := fun i h => List.mem_cons_of_mem _ (List.mem_map_of_mem h)
theorem okX8_hasRoom : okM 579 sX8_hasRoom = true := okM_by (by decide +kernel)
def sX8_put : List Nat := [142, 580, 584, 4480, 4481, 4482, 4483, 4484, 4485, 4486]
def wsX8_put : List Cond := cw 584 :: wI sX8_put
theorem mbX8_put : ∀ i ∈ sX8_put, cw i ∈ wsX8_put := fun i h => List.mem_cons_of_mem _ (List.mem_map_of_mem h)
theorem okX8_put : okM 584 sX8_put = true := okM_by (by decide +kernel)
def sX8_open : List Nat := [143, 580, 650, 651, 652, 710, 711, 712, 713, 714, 715, 4480, 4481, 4482, 4483, 4484, 4485, 4486]
def wsX8_open : List Cond := cw 710 :: wI sX8_open
theorem mbX8_open : ∀ i ∈ sX8_open, cw i ∈ wsX8_open := fun i h => List.mem_cons_of_mem _ (List.mem_map_of_mem h)
theorem okX8_open : okM 710 sX8_open = true := okM_by (by decide +kernel)
def sX9_init : List Nat := [11, 12, 147, 264, 265, 266, 267, 268, 269, 270, 271, 4736, 4737, 4738, 4739, 4740, 4741, 4742, 4743, 4744, 4745, 4746, 4747]
def wsX9_init : List Cond := cw 264 :: wI sX9_init
theorem mbX9_init : ∀ i ∈ sX9_init, cw i ∈ wsX9_init := fun i h => List.mem_cons_of_mem _ (List.mem_map_of_mem h)
theorem okX9_init : okM 264 sX9_init = true := okM_by (by decide +kernel)
def sX9_add : List Nat := [266, 267, 268, 269, 1606, 1618, 4736, 4737, 4738, 4739, 4740, 4741, 4742, 4743, 4744, 4745, 4746, 4747]
def wsX9_add : List Cond := cw 1618 :: wI sX9_add
theorem mbX9_add : ∀ i ∈ sX9_add, cw i ∈ wsX9_add := fun i h => List.mem_cons_of_mem _ (List.mem_map_of_mem h)
theorem okX9_add : okM 1618 sX9_add = true := okM_by (by decide +kernel)
def sX9_closeLoop : List Nat := [74, 266, 267, 268, 269, 270, 1606, 1607, 1614, 1615, 1616, 1617, 1618, 4736, 4737, 4738, 4739, 4740, 4741, 4742, 4743, 4744, 4745, 4746, 4747]
def wsX9_closeLoop : List Cond := cw 1614 :: wI sX9_closeLoop
theorem mbX9_closeLoop : ∀ i ∈ sX9_closeLoop, cw i ∈ wsX9_closeLoop := fun i h => List.mem_cons_of_mem _ (List.mem_map_of_mem h)
theorem okX9_closeLoop : okM 1614 sX9_closeLoop = true := okM_by (by decide +kernel)
def sX9_openLoop : List Nat := [2, 15, 74, 142, 143, 266, 267, 268, 269, 270, 650, 651, 652, 658, 659, 711, 712, 713, 714, 715, 724, 725, 726, 771, 772, 773, 774, 835, 962, 963, 964, 965, 966, 967, 968, 970, 971, 972, 973, 974, 975, 976, 977, 979, 980, 981, 982, 983, 1024, 1025, 1026, 1027, 1028, 1029, 1606, 1607, 1615, 1616, 1617, 1618, 1619, 1668, 1669, 1670, 4480, 4481, 4482, 4483, 4484, 4485, 4486, 4736, 4737, 4738, 4739, 4740, 4741, 4742, 4743, 4744, 4745, 4746, 4747]
def wsX9_openLoop : List Cond := cw 1668 :: wI sX9_openLoop
theorem mbX9_openLoop : ∀ i ∈ sX9_openLoop, cw i ∈ wsX9_openLoop := fun i h => List.mem_cons_of_mem _ (List.mem_map_of_mem h)
theorem okX9_openLoop : okM 1668 sX9_openLoop = true := okM_by (by decide +kernel)
def sX9_readStep : List Nat := [2, 15, 74, 142, 143, 266, 267, 268, 269, 270, 650, 651, 652, 658, 659, 711, 712, 713, 714, 715, 724, 725, 726, 771, 772, 773, 774, 780, 781, 782, 783, 784, 785, 786, 787, 788, 789, 790, 791, 832, 833, 834, 835, 836, 837, 838, 839, 840, 841, 842, 843, 844, 845, 846, 847, 848, 849, 850, 851, 852, 853, 854, 855, 896, 897, 898, 899, 900, 901, 902, 903, 904, 905, 906, 907, 908, 909, 910, 911, 912, 913, 914, 915, 916, 962, 963, 964, 965, 966, 967, 968, 970, 971, 972, 973, 974, 975, 976, 977, 979, 980, 981, 982, 983, 1024, 1025, 1026, 1027, 1028, 1029, 1604, 1605, 1606, 1607, 1615, 1616, 1617, 1618, 1619, 1623, 1664, 1665, 1666, 1667, 1668, 1669, 1670, 1671, 4480, 4481, 4482, 4483, 4484, 4485, 4486, 4736, 4737, 4738, 4739, 4740, 4741, 4742, 4743, 4744, 4745, 4746, 4747]
def wsX9_readStep : List Cond := cw 1623 :: wI sX9_readStep
theorem mbX9_readStep : ∀ i ∈ sX9_readStep, cw i ∈ wsX9_readStep := fun i h => List.mem_cons_of_mem _ (List.mem_map_of_mem h)
theorem okX9_readStep : okM 1623 sX9_readStep = true := okM_by (by decide +kernel)
def sX9_readFrom : List Nat := [2, 15, 74, 142, 143, 266, 267, 268, 269, 270, 650, 651, 652, 658, 659, 711, 712, 713, 714, 715, 724, 725, 726, 768, 769, 770, 771, 772, 773, 774, 780, 781, 782, 783, 784, 785, 786, 787, 788, 789, 790, 791, 832, 833, 834, 835, 836, 837, 838, 839, 840, 841, 842, 843, 844, 845, 846, 847, 848, 849, 850, 851, 852, 853, 854, 855, 896, 897, 898, 899, 900, 901, 902, 903, 904, 905, 906, 907, 908, 909, 910, 911, 912, 913, 914, 915, 916, 962, 963, 964, 965, 966, 967, 968, 970, 971, 972, 973, 974, 975, 976, 977, 979, 980, 981, 982, 983, 1024, 1025, 1026, 1027, 1028, 1029, 1603, 1604, 1605, 1606, 1607, 1608, 1609, 1610, 1611, 1612, 1613, 1614, 1615, 1616, 1617, 1618, 1619, 1620, 1621, 1622, 1623, 1664, 1665, 1666, 1667, 1668, 1669, 1670, 1671, 4480, 4481, 4482, 4483, 4484, 4485, 4486, 4736, 4737, 4738, 4739, 4740, 4741, 4742, 4743, 4744, 4745, 4746, 4747]
def wsX9_readFrom : List Cond := cw 1603 :: wI sX9_readFrom
theorem mbX9_readFrom : ∀ i ∈ sX9_readFrom, cw i ∈ wsX9_readFrom := fun i h => List.mem_cons_of_mem _ (List.mem_map_of_mem h)
theorem okX9_readFrom : okM 1603 sX9_readFrom = true := okM_by (by decide +kernel)
def sX9_behindEnd : List Nat := [267, 271, 1607, 1728, 4736, 4737, 4738, 4739, 4740, 4741, 4742, 4743, 4744, 4745, 4746, 4747]
def wsX9_behindEnd : List Cond := cw 1728 :: wI sX9_behindEnd
theorem mbX9_behindEnd : ∀ i ∈ sX9_behindEnd, cw i ∈ wsX9_behindEnd := fun i h => List.mem_cons_of_mem _ (List.mem_map_of_mem h)
theorem okX9_behindEnd : okM 1728 sX9_behindEnd = true := okM_by (by decide +kernel)
def sX9_behindAgain : List Nat := [267, 268, 271, 1607, 1732, 4736, 4737, 4738, 4739, 4740, 4741, 4742, 4743, 4744, 4745, 4746, 4747]
def wsX9_behindAgain : List Cond := cw 1732 :: wI sX9_behindAgain
theorem mbX9_behindAgain : ∀ i ∈ sX9_behindAgain, cw i ∈ wsX9_behindAgain := fun i h => List.mem_cons_of_mem _ (List.mem_map_of_mem h)
theorem okX9_behindAgain : okM 1732 sX9_behindAgain = true := okM_by (by decide +kernel)
def sX9_isAllowed : List Nat := [19, 64, 78, 148, 149, 200, 201, 202, 203, 208, 266, 267, 268, 269, 276, 322, 323, 324, 650, 651, 652, 1092, 1093, 1094, 1736, 1737, 1738, 1739, 1740, 1741, 1742, 1743, 1744, 1745, 1746, 1747, 1748, 1749, 1750, 1751, 1792, 1793, 1794, 1795, 1796, 1797, 1798, 1799, 1800, 1801, 1802, 1803, 1804, 1805, 1806, 1807, 1808, 1809, 1810, 1811, 1812, 1813, 1814, 1815, 1856, 1857, 1858, 1859, 1860, 1861, 1862, 1863, 1864, 1865, 1866, 1867, 1868, 1869, 1870, 1871, 1872, 1873, 1874, 1875, 1876, 1877, 1878, 1879, 1920, 1921, 1922, 1923, 1924, 1925, 1926, 1927, 1928, 1929, 1930, 1931, 1932, 1933, 1934, 1935, 1936, 1937, 1938, 1939, 1940, 1941, 1942, 1943, 1984, 1985, 1986, 4544, 4545, 4546, 4547, 4548, 4549, 4550, 4551, 4552, 4553, 4554, 4555, 4608, 4609, 4610, 4611, 4612, 4736, 4737, 4738, 4739, 4740, 4741, 4742, 4743, 4744, 4745, 4746, 4747, 4800, 4801, 4802, 4803]
def wsX9_isAllowed : List Cond := cw 1736 :: wI sX9_isAllowed
theorem mbX9_isAllowed : ∀ i ∈ sX9_isAllowed, cw i ∈ wsX9_isAllowed := fun i h => List.mem_cons_of_mem _ (List.mem_map_of_mem h)
theorem okX9_isAllowed : okM 1736 sX9_isAllowed = true := okM_by (by decide +kernel)
def sX9_doStep : List Nat := [2, 19, 78, 266, 267, 268, 269, 276, 322, 324, 326, 651, 1047, 1741, 1742, 1743, 1744, 1745, 1746, 1747, 1748, 1808, 1809, 1810, 1811, 1812, 1813, 1814, 1815, 1930, 1931, 1990, 1991, 1992, 1993, 1994, 1995, 1996, 1997, 1998, 1999, 2000, 2001, 2002, 2003, 2004, 2005, 2006, 2007, 2048, 2049, 2050, 2051, 2052, 2053, 2054, 2055, 2056, 2057, 2058, 2059, 2060, 2061, 2062, 2063, 2064, 2065, 2066, 2067, 2068, 2069, 4544, 4545, 4546, 4547, 4548, 4549, 4550, 4551, 4552, 4553, 4554, 4555, 4736, 4737, 4738, 4739, 4740, 4741, 4742, 4743, 4744, 4745, 4746, 4747, 4800, 4801, 4802, 4803]
def wsX9_doStep : List Cond := cw 1990 :: wI sX9_doStep
theorem mbX9_doStep : ∀ i ∈ sX9_doStep, cw i ∈ wsX9_doStep := fun i h => List.mem_cons_of_mem _ (List.mem_map_of_mem h)
theorem okX9_doStep : okM 1990 sX9_doStep = true := okM_by (by decide +kernel)
def sX9_runOn : List Nat := [2, 19, 64, 74, 78, 148, 149, 200, 201, 202, 203, 208, 266, 267, 268, 269, 271, 276, 322, 323, 324, 326, 650, 651, 652, 1047, 1092, 1093, 1094, 1606, 1607, 1682, 1683, 1684, 1685, 1686, 1687, 1728, 1729, 1730, 1731, 1732, 1733, 1734, 1735, 1736, 1737, 1738, 1739, 1740, 1741, 1742, 1743, 1744, 1745, 1746, 1747, 1748, 1749, 1750, 1751, 1792, 1793, 1794, 1795, 1796, 1797, 1798, 1799, 1800, 1801, 1802, 1803, 1804, 1805, 1806, 1807, 1808, 1809, 1810, 1811, 1812, 1813, 1814, 1815, 1856, 1857, 1858, 1859, 1860, 1861, 1862, 1863, 1864, 1865, 1866, 1867, 1868, 1869, 1870, 1871, 1872, 1873, 1874, 1875, 1876, 1877, 1878, 1879, 1920, 1921, 1922, 1923, 1924, 1925, 1926, 1927, 1928, 1929, 1930, 1931, 1932, 1933, 1934, 1935, 1936, 1937, 1938, 1939, 1940, 1941, 1942, 1943, 1984, 1985, 1986, 1987, 1988, 1989, 1990, 1991, 1992, 1993, 1994, 1995, 1996, 1997, 1998, 1999, 2000, 2001, 2002, 2003, 2004, 2005, 2006, 2007, 2048, 2049, 2050, 2051, 2052, 2053, 2054, 2055, 2056, 2057, 2058, 2059, 2060, 2061, 2062, 2063, 2064, 2065, 2066, 2067, 2068, 2069, 4544, 4545, 4546, 4547, 4548, 4549, 4550, 4551, 4552, 4553, 4554, 4555, 4608, 4609, 4610, 4611, 4612, 4736, 4737, 4738, 4739, 4740, 4741, 4742, 4743, 4744, 4745, 4746, 4747, 4800, 4801, 4802, 4803]
def wsX9_runOn : List Cond := cw 1682 :: wI sX9_runOn
theorem mbX9_runOn : ∀ i ∈ sX9_runOn, cw i ∈ wsX9_runOn := fun i h => List.mem_cons_of_mem _ (List.mem_map_of_mem h)
theorem okX9_runOn : okM 1682 sX9_runOn = true := okM_by (by decide +kernel)
def sX10_init : List Nat := [9, 10, 11, 12, 13, 14, 15, 16, 17, 18, 19, 20, 21, 22, 23, 64, 65, 66, 67, 68, 69, 70, 71, 72, 73, 74, 75, 76, 77, 78, 79, 80, 81, 82, 83, 84, 85, 86, 87, 128, 129, 130, 131, 132, 133, 134, 135, 136, 137, 138, 139, 140, 141, 142, 143, 144, 145, 146, 147, 148, 149, 150, 151, 192, 193, 194, 195, 196, 197, 198, 199, 200, 201, 202, 203, 204, 205, 206, 207, 208, 209, 210, 211, 212, 213, 214, 215, 256, 257, 258, 259, 260, 261, 262, 263, 264, 265, 266, 267, 268, 269, 270, 271, 272, 273, 274, 275, 276, 277, 278, 279, 320, 321, 322, 323, 324, 325, 326, 327, 328, 329, 330, 331, 332, 333, 334, 335, 336, 337, 338, 339, 340, 341, 342, 343, 384, 385, 386, 387, 388, 389, 390, 391, 392, 393, 4352, 4353, 4354, 4355, 4356, 4357, 4358, 4359, 4360, 4361, 4362, 4363, 4364, 4365, 4366, 4367, 4368, 4369, 4370, 4480, 4481, 4482, 4483, 4484, 4485, 4486, 4544, 4545, 4546, 4547, 4548, 4549, 4550, 4551, 4552, 4553, 4554, 4555, 4608, 4609, 4610, 4611, 4612, 4672, 4673, 4736, 4737, 4738, 4739, 4740, 4741, 4742, 4743, 4744, 4745, 4746, 4747, 4800, 4801, 4802, 4803, 4864, 4865, 4928, 4929, 4930, 4992, 4993, 4994, 4995, 5056, 5057, 5058, 5059, 5060, 5061, 5062, 5063, 5064, 5065, 5066]
def wsX10_init : List Cond := cw 9 :: wI sX10_init
theorem mbX10_init : ∀ i ∈ sX10_init, cw i ∈ wsX10_init := fun i h => List.mem_cons_of_mem _ (List.mem_map_of_mem h)
def sX10_feed : List Nat := [15, 16, 142, 534, 535, 576, 577, 578, 579, 580, 581, 582, 583, 584, 4352, 4353, 4354, 4355, 4356, 4357, 4358, 4359, 4360, 4361, 4362, 4363, 4364, 4365, 4366, 4367, 4368, 4369, 4370, 4480, 4481, 4482, 4483, 4484, 4485, 4486]
def wsX10_feed : List Cond := cw 534 :: wI sX10_feed
theorem mbX10_feed : ∀ i ∈ sX10_feed, cw i ∈ wsX10_feed := fun i h => List.mem_cons_of_mem _ (List.mem_map_of_mem h)
def sX10_needLegal : List Nat := [663, 704, 705, 706, 4352, 4353, 4354, 4355, 4356, 4357, 4358, 4359, 4360, 4361, 4362, 4363, 4364, 4365, 4366, 4367, 4368, 4369, 4370]
def wsX10_needLegal : List Cond := cw 663 :: (wI sX10_needLegal ++ (vx_atS RX10 409 "java/lang/IllegalArgumentException" ["java/lang/RuntimeException", "java/lang/Exception"]).filter goodWord)
theorem mbX10_needLegal : ∀ i ∈ sX10_needLegal, cw i ∈ wsX10_needLegal := fun i h => List.mem_cons_of_mem _ (List.mem_append_left _ (List.mem_map_of_mem h))
theorem okX10_needLegal : okM 663 sX10_needLegal = true := okM_by (by decide +kernel)
def sX10_needWithin : List Nat := [2, 656, 657, 658, 659, 660, 661, 662, 663, 704, 705, 706, 4352, 4353, 4354, 4355, 4356, 4357, 4358, 4359, 4360, 4361, 4362, 4363, 4364, 4365, 4366, 4367, 4368, 4369, 4370]
def wsX10_needWithin : List Cond := cw 656 :: (wI sX10_needWithin ++ (vx_atS RX10 409 "java/lang/IllegalArgumentException" ["java/lang/RuntimeException", "java/lang/Exception"]).filter goodWord)
theorem mbX10_needWithin : ∀ i ∈ sX10_needWithin, cw i ∈ wsX10_needWithin := fun i h => List.mem_cons_of_mem _ (List.mem_append_left _ (List.mem_map_of_mem h))
theorem okX10_needWithin : okM 656 sX10_needWithin = true := okM_by (by decide +kernel)
def sX10_openText : List Nat := [2, 15, 16, 143, 535, 580, 648, 649, 650, 651, 652, 653, 654, 655, 656, 657, 658, 659, 660, 661, 662, 663, 704, 705, 706, 707, 708, 709, 710, 711, 712, 713, 714, 715, 4352, 4353, 4354, 4355, 4356, 4357, 4358, 4359, 4360, 4361, 4362, 4363, 4364, 4365, 4366, 4367, 4368, 4369, 4370, 4480, 4481, 4482, 4483, 4484, 4485, 4486]
def wsX10_openText : List Cond := cw 648 :: (wI sX10_openText ++ (vx_atS RX10 409 "java/lang/IllegalArgumentException" ["java/lang/RuntimeException", "java/lang/Exception"]).filter goodWord)
theorem mbX10_openText : ∀ i ∈ sX10_openText, cw i ∈ wsX10_openText := fun i h => List.mem_cons_of_mem _ (List.mem_append_left _ (List.mem_map_of_mem h))
theorem okX10_openText : okM 648 sX10_openText = true := okM_by (by decide +kernel)
def sX10_down : List Nat := [2, 15, 16, 19, 20, 21, 64, 65, 69, 70, 78, 79, 84, 142, 143, 148, 149, 150, 151, 192, 193, 194, 200, 201, 205, 206, 207, 208, 209, 210, 211, 212, 257, 259, 260, 261, 262, 276, 279, 320, 321, 322, 323, 324, 325, 326, 327, 328, 329, 330, 331, 535, 580, 599, 640, 641, 642, 643, 644, 645, 646, 647, 648, 649, 650, 651, 652, 653, 654, 655, 656, 657, 658, 659, 660, 661, 662, 663, 704, 705, 706, 707, 708, 709, 710, 711, 712, 713, 714, 715, 716, 717, 718, 719, 720, 721, 722, 723, 724, 725, 726, 727, 768, 769, 770, 771, 772, 773, 774, 775, 776, 777, 778, 779, 780, 781, 782, 783, 784, 785, 786, 787, 788, 789, 790, 791, 832, 833, 834, 835, 836, 837, 838, 839, 840, 841, 842, 843, 844, 845, 846, 847, 848, 849, 850, 851, 852, 853, 854, 855, 896, 897, 898, 899, 900, 901, 902, 903, 904, 905, 906, 907, 908, 909, 910, 911, 912, 913, 914, 915, 916, 917, 918, 919, 960, 961, 962, 963, 964, 965, 966, 967, 968, 969, 970, 971, 972, 973, 974, 975, 976, 977, 978, 979, 980, 981, 982, 983, 1024, 1025, 1026, 1027, 1028, 1029, 1030, 1031, 1032, 1033, 1034, 1035, 1036, 1037, 1038, 1039, 1040, 1041, 1042, 1043, 1044, 1045, 1046, 1047, 1088, 1089, 1090, 1091, 1092, 1093, 1094, 1095, 1096, 1097, 1098, 4352, 4353, 4354, 4355, 4356, 4357, 4358, 4359, 4360, 4361, 4362, 4363, 4364, 4365, 4366, 4367, 4368, 4369, 4370, 4480, 4481, 4482, 4483, 4484, 4485, 4486, 4544, 4545, 4546, 4547, 4548, 4549, 4550, 4551, 4552, 4553, 4554, 4555, 4608, 4609, 4610, 4611, 4612, 4672, 4673, 4800, 4801, 4802, 4803, 4864, 4865]
def wsX10_down : List Cond := cw 599 :: (wI sX10_down ++ (vx_atS RX10 409 "java/lang/IllegalArgumentException" ["java/lang/RuntimeException", "java/lang/Exception"]).filter goodWord)
theorem mbX10_down : ∀ i ∈ sX10_down, cw i ∈ wsX10_down := fun i h => List.mem_cons_of_mem _ (List.mem_append_left _ (List.mem_map_of_mem h))
theorem okX10_down : okM 599 sX10_down = true := okM_by (by decide +kernel)
def sX10_law : List Nat := [2, 15, 16, 64, 65, 66, 78, 79, 142, 143, 200, 201, 208, 209, 210, 211, 212, 323, 535, 580, 640, 645, 646, 647, 648, 649, 650, 651, 652, 653, 654, 655, 656, 657, 658, 659, 660, 661, 662, 663, 704, 705, 706, 707, 708, 709, 710, 711, 712, 713, 714, 715, 724, 725, 726, 768, 769, 770, 771, 772, 773, 774, 780, 781, 782, 783, 784, 785, 786, 787, 788, 789, 790, 791, 832, 833, 834, 835, 836, 837, 838, 839, 840, 841, 842, 843, 844, 845, 846, 847, 848, 849, 850, 851, 852, 853, 854, 855, 896, 897, 898, 899, 900, 901, 902, 903, 904, 905, 906, 907, 908, 909, 910, 911, 912, 913, 914, 915, 916, 962, 963, 964, 965, 966, 967, 968, 970, 971, 972, 973, 974, 975, 976, 977, 979, 980, 981, 982, 983, 1024, 1025, 1026, 1027, 1028, 1029, 1095, 1348, 1349, 1350, 1351, 1352, 1353, 1354, 1355, 1356, 1357, 1358, 1359, 1360, 1361, 1362, 1363, 1364, 1365, 1366, 1367, 1408, 1409, 1410, 1411, 1412, 1413, 1414, 1415, 1416, 1417, 1418, 1419, 1420, 1421, 1422, 1423, 1424, 1425, 1426, 1427, 1428, 1429, 1430, 1431, 1472, 1473, 1474, 1475, 1476, 4352, 4353, 4354, 4355, 4356, 4357, 4358, 4359, 4360, 4361, 4362, 4363, 4364, 4365, 4366, 4367, 4368, 4369, 4370, 4480, 4481, 4482, 4483, 4484, 4485, 4486, 4608, 4609, 4610, 4611, 4612, 4800, 4801, 4802, 4803]
def wsX10_law : List Cond := cw 1348 :: (wI sX10_law ++ (vx_atS RX10 409 "java/lang/IllegalArgumentException" ["java/lang/RuntimeException", "java/lang/Exception"]).filter goodWord)
theorem mbX10_law : ∀ i ∈ sX10_law, cw i ∈ wsX10_law := fun i h => List.mem_cons_of_mem _ (List.mem_append_left _ (List.mem_map_of_mem h))
theorem okX10_law : okM 1348 sX10_law = true := okM_by (by decide +kernel)
def sX10_work : List Nat := [2, 15, 16, 19, 20, 64, 74, 75, 78, 79, 83, 84, 142, 143, 148, 149, 200, 201, 202, 203, 208, 266, 267, 268, 269, 270, 271, 276, 322, 323, 324, 326, 329, 330, 331, 335, 535, 580, 640, 641, 643, 644, 645, 646, 647, 648, 649, 650, 651, 652, 653, 654, 655, 656, 657, 658, 659, 660, 661, 662, 663, 704, 705, 706, 707, 708, 709, 710, 711, 712, 713, 714, 715, 724, 725, 726, 768, 769, 770, 771, 772, 773, 774, 780, 781, 782, 783, 784, 785, 786, 787, 788, 789, 790, 791, 832, 833, 834, 835, 836, 837, 838, 839, 840, 841, 842, 843, 844, 845, 846, 847, 848, 849, 850, 851, 852, 853, 854, 855, 896, 897, 898, 899, 900, 901, 902, 903, 904, 905, 906, 907, 908, 909, 910, 911, 912, 913, 914, 915, 916, 962, 963, 964, 965, 966, 967, 968, 970, 971, 972, 973, 974, 975, 976, 977, 979, 980, 981, 982, 983, 1024, 1025, 1026, 1027, 1028, 1029, 1047, 1092, 1093, 1094, 1095, 1556, 1557, 1558, 1559, 1600, 1601, 1602, 1603, 1604, 1605, 1606, 1607, 1608, 1609, 1610, 1611, 1612, 1613, 1614, 1615, 1616, 1617, 1618, 1619, 1620, 1621, 1622, 1623, 1664, 1665, 1666, 1667, 1668, 1669, 1670, 1671, 1672, 1673, 1674, 1675, 1676, 1677, 1678, 1679, 1680, 1681, 1682, 1683, 1684, 1685, 1686, 1687, 1728, 1729, 1730, 1731, 1732, 1733, 1734, 1735, 1736, 1737, 1738, 1739, 1740, 1741, 1742, 1743, 1744, 1745, 1746, 1747, 1748, 1749, 1750, 1751, 1792, 1793, 1794, 1795, 1796, 1797, 1798, 1799, 1800, 1801, 1802, 1803, 1804, 1805, 1806, 1807, 1808, 1809, 1810, 1811, 1812, 1813, 1814, 1815, 1856, 1857, 1858, 1859, 1860, 1861, 1862, 1863, 1864, 1865, 1866, 1867, 1868, 1869, 1870, 1871, 1872, 1873, 1874, 1875, 1876, 1877, 1878, 1879, 1920, 1921, 1922, 1923, 1924, 1925, 1926, 1927, 1928, 1929, 1930, 1931, 1932, 1933, 1934, 1935, 1936, 1937, 1938, 1939, 1940, 1941, 1942, 1943, 1984, 1985, 1986, 1987, 1988, 1989, 1990, 1991, 1992, 1993, 1994, 1995, 1996, 1997, 1998, 1999, 2000, 2001, 2002, 2003, 2004, 2005, 2006, 2007, 2048, 2049, 2050, 2051, 2052, 2053, 2054, 2055, 2056, 2057, 2058, 2059, 2060, 2061, 2062, 2063, 2064, 2065, 2066, 2067, 2068, 2069, 4352, 4353, 4354, 4355, 4356, 4357, 4358, 4359, 4360, 4361, 4362, 4363, 4364, 4365, 4366, 4367, 4368, 4369, 4370, 4480, 4481, 4482, 4483, 4484, 4485, 4486, 4544, 4545, 4546, 4547, 4548, 4549, 4550, 4551, 4552, 4553, 4554, 4555, 4608, 4609, 4610, 4611, 4612, 4736, 4737, 4738, 4739, 4740, 4741, 4742, 4743, 4744, 4745, 4746, 4747, 4800, 4801, 4802, 4803, 4864, 4865]
def wsX10_work : List Cond := cw 1556 :: (wI sX10_work ++ (vx_atS RX10 409 "java/lang/IllegalArgumentException" ["java/lang/RuntimeException", "java/lang/Exception"]).filter goodWord)
theorem mbX10_work : ∀ i ∈ sX10_work, cw i ∈ wsX10_work := fun i h => List.mem_cons_of_mem _ (List.mem_append_left _ (List.mem_map_of_mem h))
theorem okX10_work : okM 1556 sX10_work = true := okM_by (by decide +kernel)
def sX10_book : List Nat := [2, 15, 16, 20, 69, 70, 71, 142, 143, 257, 258, 259, 260, 261, 262, 535, 580, 640, 645, 646, 647, 648, 649, 650, 651, 652, 653, 654, 655, 656, 657, 658, 659, 660, 661, 662, 663, 704, 705, 706, 707, 708, 709, 710, 711, 712, 713, 714, 715, 724, 725, 726, 768, 769, 770, 771, 772, 773, 774, 835, 962, 963, 964, 965, 966, 967, 968, 970, 971, 972, 973, 974, 975, 976, 977, 979, 980, 981, 982, 983, 1024, 1025, 1026, 1027, 1028, 1029, 1095, 1557, 2385, 2386, 2387, 2388, 2389, 2390, 2391, 2432, 2433, 2434, 2435, 2436, 2437, 2438, 2439, 2440, 2441, 2442, 2443, 4352, 4353, 4354, 4355, 4356, 4357, 4358, 4359, 4360, 4361, 4362, 4363, 4364, 4365, 4366, 4367, 4368, 4369, 4370, 4480, 4481, 4482, 4483, 4484, 4485, 4486, 4544, 4545, 4546, 4547, 4548, 4549, 4550, 4551, 4552, 4553, 4554, 4555, 4672, 4673]
def wsX10_book : List Cond := cw 2385 :: (wI sX10_book ++ (vx_atS RX10 409 "java/lang/IllegalArgumentException" ["java/lang/RuntimeException", "java/lang/Exception"]).filter goodWord)
theorem mbX10_book : ∀ i ∈ sX10_book, cw i ∈ wsX10_book := fun i h => List.mem_cons_of_mem _ (List.mem_append_left _ (List.mem_map_of_mem h))
theorem okX10_book : okM 2385 sX10_book = true := okM_by (by decide +kernel)
def sX10_fault : List Nat := [16, 2451, 2452, 4352, 4353, 4354, 4355, 4356, 4357, 4358, 4359, 4360, 4361, 4362, 4363, 4364, 4365, 4366, 4367, 4368, 4369, 4370, 4480, 4481, 4482, 4483, 4484, 4485, 4486]
def wsX10_fault : List Cond := cw 2451 :: wI sX10_fault
theorem mbX10_fault : ∀ i ∈ sX10_fault, cw i ∈ wsX10_fault := fun i h => List.mem_cons_of_mem _ (List.mem_map_of_mem h)
def sX10_undo : List Nat := [79, 83, 84, 329, 330, 331, 335, 641, 643, 1676, 1677, 1678, 2500, 2501, 2502, 2503, 2504, 4352, 4353, 4354, 4355, 4356, 4357, 4358, 4359, 4360, 4361, 4362, 4363, 4364, 4365, 4366, 4367, 4368, 4369, 4370, 4800, 4801, 4802, 4803, 4864, 4865]
def wsX10_undo : List Cond := cw 2500 :: wI sX10_undo
theorem mbX10_undo : ∀ i ∈ sX10_undo, cw i ∈ wsX10_undo := fun i h => List.mem_cons_of_mem _ (List.mem_map_of_mem h)
def sX10_told : List Nat := [2, 19, 20, 70, 78, 79, 276, 322, 324, 643, 644, 653, 654, 655, 656, 657, 658, 659, 660, 661, 662, 663, 704, 705, 706, 1047, 1557, 1741, 1742, 1743, 1744, 1745, 1746, 1747, 1748, 1812, 1813, 1814, 1815, 1856, 1857, 1858, 1859, 1860, 1861, 1862, 1863, 1873, 1874, 1875, 1984, 1985, 1986, 2052, 2053, 2059, 2060, 2061, 2062, 2063, 2064, 2065, 2386, 2515, 2516, 2517, 2518, 2519, 2560, 2561, 2562, 2563, 2564, 2565, 2566, 2567, 2568, 2569, 2570, 2571, 2572, 4352, 4353, 4354, 4355, 4356, 4357, 4358, 4359, 4360, 4361, 4362, 4363, 4364, 4365, 4366, 4367, 4368, 4369, 4370, 4544, 4545, 4546, 4547, 4548, 4549, 4550, 4551, 4552, 4553, 4554, 4555, 4672, 4673, 4800, 4801, 4802, 4803]
def wsX10_told : List Cond := cw 2515 :: (wI sX10_told ++ (vx_atS RX10 409 "java/lang/IllegalArgumentException" ["java/lang/RuntimeException", "java/lang/Exception"]).filter goodWord)
theorem mbX10_told : ∀ i ∈ sX10_told, cw i ∈ wsX10_told := fun i h => List.mem_cons_of_mem _ (List.mem_append_left _ (List.mem_map_of_mem h))
theorem okX10_told : okM 2515 sX10_told = true := okM_by (by decide +kernel)
def sX10_needForm : List Nat := [2, 20, 657, 658, 659, 1557, 2689, 2690, 2691, 2692, 4352, 4353, 4354, 4355, 4356, 4357, 4358, 4359, 4360, 4361, 4362, 4363, 4364, 4365, 4366, 4367, 4368, 4369, 4370, 4544, 4545, 4546, 4547, 4548, 4549, 4550, 4551, 4552, 4553, 4554, 4555]
def wsX10_needForm : List Cond := cw 2689 :: (wI sX10_needForm ++ (ux_atS RX10 268 "java/util/NoSuchElementException" 13 ux_rx ["java/lang/RuntimeException", "java/lang/Exception"]).filter goodWord)
theorem mbX10_needForm : ∀ i ∈ sX10_needForm, cw i ∈ wsX10_needForm := fun i h => List.mem_cons_of_mem _ (List.mem_append_left _ (List.mem_map_of_mem h))
theorem okX10_needForm : okM 2689 sX10_needForm = true := okM_by (by decide +kernel)
def sX10_form : List Nat := [2, 19, 20, 78, 79, 276, 322, 324, 653, 654, 655, 656, 657, 658, 659, 660, 661, 662, 663, 704, 705, 706, 1047, 1557, 1741, 1742, 1743, 1744, 1745, 1746, 1747, 1748, 1798, 1799, 1800, 2052, 2053, 2063, 2064, 2065, 2643, 2644, 2645, 2646, 2647, 2688, 2689, 2690, 2691, 2692, 2693, 2694, 4352, 4353, 4354, 4355, 4356, 4357, 4358, 4359, 4360, 4361, 4362, 4363, 4364, 4365, 4366, 4367, 4368, 4369, 4370, 4544, 4545, 4546, 4547, 4548, 4549, 4550, 4551, 4552, 4553, 4554, 4555, 4800, 4801, 4802, 4803]
def wsX10_form : List Cond := cw 2643 :: (wI sX10_form ++ (ux_atS RX10 268 "java/util/NoSuchElementException" 13 ux_rx ["java/lang/RuntimeException", "java/lang/Exception"]).filter goodWord ++ (vx_atS RX10 409 "java/lang/IllegalArgumentException" ["java/lang/RuntimeException", "java/lang/Exception"]).filter goodWord)
theorem mbX10_form : ∀ i ∈ sX10_form, cw i ∈ wsX10_form := fun i h => List.mem_cons_of_mem _ (List.mem_append_left _ (List.mem_append_left _ (List.mem_map_of_mem h)))
theorem okX10_form : okM 2643 sX10_form = true := okM_by (by decide +kernel)
def sX10_needHare : List Nat := [2, 20, 644, 657, 658, 659, 2690, 2691, 2692, 2754, 4352, 4353, 4354, 4355, 4356, 4357, 4358, 4359, 4360, 4361, 4362, 4363, 4364, 4365, 4366, 4367, 4368, 4369, 4370, 4544, 4545, 4546, 4547, 4548, 4549, 4550, 4551, 4552, 4553, 4554, 4555]
def wsX10_needHare : List Cond := cw 2754 :: (wI sX10_needHare ++ (ux_atS RX10 268 "java/util/NoSuchElementException" 13 ux_rx ["java/lang/RuntimeException", "java/lang/Exception"]).filter goodWord)
theorem mbX10_needHare : ∀ i ∈ sX10_needHare, cw i ∈ wsX10_needHare := fun i h => List.mem_cons_of_mem _ (List.mem_append_left _ (List.mem_map_of_mem h))
theorem okX10_needHare : okM 2754 sX10_needHare = true := okM_by (by decide +kernel)
def sX10_hare : List Nat := [2, 20, 64, 78, 79, 200, 201, 202, 203, 208, 276, 322, 323, 324, 644, 650, 651, 652, 653, 654, 655, 656, 657, 658, 659, 660, 661, 662, 663, 704, 705, 706, 1741, 1742, 1743, 1744, 1745, 1746, 1747, 1748, 1794, 1795, 1796, 1797, 1798, 1799, 1800, 1801, 1802, 1803, 1804, 1805, 1806, 1807, 1808, 1809, 1810, 1811, 1812, 1813, 1814, 1815, 1856, 1857, 1858, 1859, 1860, 1861, 1862, 1863, 1864, 1865, 1866, 1867, 1868, 1869, 1870, 1871, 1872, 1873, 1874, 1875, 1876, 1877, 1878, 1879, 1920, 1921, 1922, 1923, 1924, 1925, 1926, 1927, 1928, 1929, 1930, 1931, 1932, 1933, 1934, 2690, 2691, 2692, 2709, 2710, 2711, 2752, 2753, 2754, 2755, 2756, 2757, 2758, 2759, 2760, 2761, 2762, 4352, 4353, 4354, 4355, 4356, 4357, 4358, 4359, 4360, 4361, 4362, 4363, 4364, 4365, 4366, 4367, 4368, 4369, 4370, 4544, 4545, 4546, 4547, 4548, 4549, 4550, 4551, 4552, 4553, 4554, 4555, 4608, 4609, 4610, 4611, 4612, 4800, 4801, 4802, 4803]
def wsX10_hare : List Cond := cw 2709 :: (wI sX10_hare ++ (ux_atS RX10 268 "java/util/NoSuchElementException" 13 ux_rx ["java/lang/RuntimeException", "java/lang/Exception"]).filter goodWord ++ (vx_atS RX10 409 "java/lang/IllegalArgumentException" ["java/lang/RuntimeException", "java/lang/Exception"]).filter goodWord)
theorem mbX10_hare : ∀ i ∈ sX10_hare, cw i ∈ wsX10_hare := fun i h => List.mem_cons_of_mem _ (List.mem_append_left _ (List.mem_append_left _ (List.mem_map_of_mem h)))
theorem okX10_hare : okM 2709 sX10_hare = true := okM_by (by decide +kernel)
def sX10_fox : List Nat := [2, 20, 653, 654, 655, 656, 657, 658, 659, 660, 661, 662, 663, 704, 705, 706, 2516, 2690, 2691, 2692, 2817, 2818, 2819, 4352, 4353, 4354, 4355, 4356, 4357, 4358, 4359, 4360, 4361, 4362, 4363, 4364, 4365, 4366, 4367, 4368, 4369, 4370, 4544, 4545, 4546, 4547, 4548, 4549, 4550, 4551, 4552, 4553, 4554, 4555]
def wsX10_fox : List Cond := cw 2817 :: (wI sX10_fox ++ (ux_atS RX10 268 "java/util/NoSuchElementException" 13 ux_rx ["java/lang/RuntimeException", "java/lang/Exception"]).filter goodWord ++ (vx_atS RX10 409 "java/lang/IllegalArgumentException" ["java/lang/RuntimeException", "java/lang/Exception"]).filter goodWord)
theorem mbX10_fox : ∀ i ∈ sX10_fox, cw i ∈ wsX10_fox := fun i h => List.mem_cons_of_mem _ (List.mem_append_left _ (List.mem_append_left _ (List.mem_map_of_mem h)))
theorem okX10_fox : okM 2817 sX10_fox = true := okM_by (by decide +kernel)
def sX10_debt : List Nat := [2, 20, 78, 79, 276, 644, 657, 658, 659, 1861, 1862, 1863, 2690, 2691, 2692, 2711, 2752, 2753, 2754, 2830, 2831, 4352, 4353, 4354, 4355, 4356, 4357, 4358, 4359, 4360, 4361, 4362, 4363, 4364, 4365, 4366, 4367, 4368, 4369, 4370, 4544, 4545, 4546, 4547, 4548, 4549, 4550, 4551, 4552, 4553, 4554, 4555, 4800, 4801, 4802, 4803]
def wsX10_debt : List Cond := cw 2830 :: (wI sX10_debt ++ (ux_atS RX10 268 "java/util/NoSuchElementException" 13 ux_rx ["java/lang/RuntimeException", "java/lang/Exception"]).filter goodWord)
theorem mbX10_debt : ∀ i ∈ sX10_debt, cw i ∈ wsX10_debt := fun i h => List.mem_cons_of_mem _ (List.mem_append_left _ (List.mem_map_of_mem h))
theorem okX10_debt : okM 2830 sX10_debt = true := okM_by (by decide +kernel)
def sX10_far : List Nat := [2, 19, 20, 148, 149, 651, 657, 658, 659, 1092, 1093, 1094, 1557, 1750, 1751, 1792, 2646, 2647, 2688, 2689, 2690, 2691, 2692, 2882, 2883, 4352, 4353, 4354, 4355, 4356, 4357, 4358, 4359, 4360, 4361, 4362, 4363, 4364, 4365, 4366, 4367, 4368, 4369, 4370, 4544, 4545, 4546, 4547, 4548, 4549, 4550, 4551, 4552, 4553, 4554, 4555]
def wsX10_far : List Cond := cw 2882 :: (wI sX10_far ++ (ux_atS RX10 268 "java/util/NoSuchElementException" 13 ux_rx ["java/lang/RuntimeException", "java/lang/Exception"]).filter goodWord)
theorem mbX10_far : ∀ i ∈ sX10_far, cw i ∈ wsX10_far := fun i h => List.mem_cons_of_mem _ (List.mem_append_left _ (List.mem_map_of_mem h))
theorem okX10_far : okM 2882 sX10_far = true := okM_by (by decide +kernel)
def sX10_would : List Nat := [2, 64, 65, 200, 201, 202, 203, 208, 650, 651, 652, 653, 654, 655, 656, 657, 658, 659, 660, 661, 662, 663, 704, 705, 706, 1869, 1870, 1871, 1921, 1922, 1923, 1925, 1926, 1927, 1928, 1929, 1930, 1931, 1932, 1933, 1934, 2894, 2895, 2896, 2897, 4352, 4353, 4354, 4355, 4356, 4357, 4358, 4359, 4360, 4361, 4362, 4363, 4364, 4365, 4366, 4367, 4368, 4369, 4370, 4608, 4609, 4610, 4611, 4612]
def wsX10_would : List Cond := cw 2894 :: (wI sX10_would ++ (vx_atS RX10 409 "java/lang/IllegalArgumentException" ["java/lang/RuntimeException", "java/lang/Exception"]).filter goodWord)
theorem mbX10_would : ∀ i ∈ sX10_would, cw i ∈ wsX10_would := fun i h => List.mem_cons_of_mem _ (List.mem_append_left _ (List.mem_map_of_mem h))
theorem okX10_would : okM 2894 sX10_would = true := okM_by (by decide +kernel)
def sX10_can : List Nat := [2, 19, 20, 64, 78, 79, 148, 149, 200, 201, 202, 203, 208, 276, 322, 323, 324, 644, 650, 651, 652, 657, 658, 659, 1092, 1093, 1094, 1557, 1738, 1739, 1740, 1741, 1742, 1743, 1744, 1745, 1746, 1747, 1748, 1749, 1750, 1751, 1792, 1793, 1794, 1795, 1796, 1797, 1798, 1799, 1800, 1801, 1802, 1803, 1804, 1805, 1806, 1807, 1808, 1809, 1810, 1811, 1812, 1813, 1814, 1815, 1856, 1857, 1858, 1859, 1860, 1861, 1862, 1863, 1864, 1865, 1866, 1867, 1868, 1869, 1870, 1871, 1872, 1873, 1874, 1875, 1876, 1877, 1878, 1879, 1920, 1921, 1922, 1923, 1924, 1925, 1926, 1927, 1928, 1929, 1930, 1931, 1932, 1933, 1934, 2646, 2647, 2688, 2689, 2690, 2691, 2692, 2711, 2752, 2753, 2754, 2948, 2949, 4352, 4353, 4354, 4355, 4356, 4357, 4358, 4359, 4360, 4361, 4362, 4363, 4364, 4365, 4366, 4367, 4368, 4369, 4370, 4544, 4545, 4546, 4547, 4548, 4549, 4550, 4551, 4552, 4553, 4554, 4555, 4608, 4609, 4610, 4611, 4612, 4800, 4801, 4802, 4803]
def wsX10_can : List Cond := cw 2948 :: (wI sX10_can ++ (ux_atS RX10 268 "java/util/NoSuchElementException" 13 ux_rx ["java/lang/RuntimeException", "java/lang/Exception"]).filter goodWord)
theorem mbX10_can : ∀ i ∈ sX10_can, cw i ∈ wsX10_can := fun i h => List.mem_cons_of_mem _ (List.mem_append_left _ (List.mem_map_of_mem h))
theorem okX10_can : okM 2948 sX10_can = true := okM_by (by decide +kernel)
def sX10_ahead : List Nat := [2, 19, 78, 79, 80, 276, 322, 323, 324, 326, 328, 329, 330, 331, 653, 654, 655, 656, 657, 658, 659, 660, 661, 662, 663, 704, 705, 706, 1047, 1741, 1742, 1743, 1744, 1745, 1746, 1747, 1748, 1812, 1813, 1814, 1815, 1856, 1857, 1858, 1859, 1860, 1861, 1862, 1863, 1873, 1874, 1875, 2049, 2050, 2051, 2052, 2053, 2054, 2055, 2056, 2057, 2058, 2059, 2060, 2061, 2062, 2063, 2064, 2065, 2066, 2067, 2068, 2069, 2518, 2560, 2561, 2562, 2563, 2568, 2569, 2570, 2571, 2960, 2961, 2962, 2963, 2964, 2965, 4352, 4353, 4354, 4355, 4356, 4357, 4358, 4359, 4360, 4361, 4362, 4363, 4364, 4365, 4366, 4367, 4368, 4369, 4370, 4544, 4545, 4546, 4547, 4548, 4549, 4550, 4551, 4552, 4553, 4554, 4555, 4800, 4801, 4802, 4803]
def wsX10_ahead : List Cond := cw 2960 :: (wI sX10_ahead ++ (vx_atS RX10 409 "java/lang/IllegalArgumentException" ["java/lang/RuntimeException", "java/lang/Exception"]).filter goodWord)
theorem mbX10_ahead : ∀ i ∈ sX10_ahead, cw i ∈ wsX10_ahead := fun i h => List.mem_cons_of_mem _ (List.mem_append_left _ (List.mem_map_of_mem h))
theorem okX10_ahead : okM 2960 sX10_ahead = true := okM_by (by decide +kernel)
def sX10_hops : List Nat := [2, 19, 20, 64, 78, 79, 148, 149, 200, 201, 202, 203, 208, 276, 322, 323, 324, 644, 650, 651, 652, 657, 658, 659, 720, 1092, 1093, 1094, 1557, 1741, 1742, 1743, 1744, 1745, 1746, 1747, 1748, 1750, 1751, 1792, 1794, 1795, 1796, 1797, 1798, 1799, 1800, 1801, 1802, 1803, 1804, 1805, 1806, 1807, 1808, 1809, 1810, 1811, 1812, 1813, 1814, 1815, 1856, 1857, 1858, 1859, 1860, 1861, 1862, 1863, 1864, 1865, 1866, 1867, 1868, 1869, 1870, 1871, 1872, 1873, 1874, 1875, 1876, 1877, 1878, 1879, 1920, 1921, 1922, 1923, 1924, 1925, 1926, 1927, 1928, 1929, 1930, 1931, 1932, 1933, 1934, 2052, 2053, 2646, 2647, 2688, 2689, 2690, 2691, 2692, 2711, 2752, 2753, 2754, 2755, 2756, 2762, 3016, 3017, 3018, 3019, 3020, 3021, 3022, 3023, 3024, 3025, 4352, 4353, 4354, 4355, 4356, 4357, 4358, 4359, 4360, 4361, 4362, 4363, 4364, 4365, 4366, 4367, 4368, 4369, 4370, 4544, 4545, 4546, 4547, 4548, 4549, 4550, 4551, 4552, 4553, 4554, 4555, 4608, 4609, 4610, 4611, 4612, 4800, 4801, 4802, 4803]
def wsX10_hops : List Cond := cw 3016 :: (wI sX10_hops ++ (ux_atS RX10 268 "java/util/NoSuchElementException" 13 ux_rx ["java/lang/RuntimeException", "java/lang/Exception"]).filter goodWord)
theorem mbX10_hops : ∀ i ∈ sX10_hops, cw i ∈ wsX10_hops := fun i h => List.mem_cons_of_mem _ (List.mem_append_left _ (List.mem_map_of_mem h))
theorem okX10_hops : okM 3016 sX10_hops = true := okM_by (by decide +kernel)
def sX10_seats : List Nat := [2, 19, 64, 78, 79, 132, 133, 148, 149, 200, 201, 202, 203, 208, 276, 322, 323, 324, 384, 385, 386, 650, 651, 652, 720, 1092, 1093, 1094, 1741, 1742, 1743, 1744, 1745, 1746, 1747, 1748, 1750, 1751, 1792, 1793, 1794, 1795, 1796, 1797, 1798, 1799, 1800, 1801, 1802, 1803, 1804, 1805, 1806, 1807, 1808, 1809, 1810, 1811, 1812, 1813, 1814, 1815, 1856, 1857, 1858, 1859, 1860, 1861, 1862, 1863, 1864, 1865, 1866, 1867, 1868, 1869, 1870, 1871, 1872, 1873, 1874, 1875, 1876, 1877, 1878, 1879, 1920, 1921, 1922, 1923, 1924, 1925, 1926, 1927, 1928, 1929, 1930, 1931, 1932, 1933, 1934, 2052, 2053, 3022, 3023, 3024, 3025, 3073, 3074, 3075, 3076, 3077, 3078, 3079, 3080, 3081, 3082, 3083, 3084, 3085, 3086, 3087, 3088, 3089, 3090, 3091, 3092, 3093, 3094, 3095, 3136, 3137, 3138, 3139, 3140, 3141, 3142, 3143, 3144, 3145, 3146, 3147, 3148, 3149, 3150, 4352, 4353, 4354, 4355, 4356, 4357, 4358, 4359, 4360, 4361, 4362, 4363, 4364, 4365, 4366, 4367, 4368, 4369, 4370, 4544, 4545, 4546, 4547, 4548, 4549, 4550, 4551, 4552, 4553, 4554, 4555, 4608, 4609, 4610, 4611, 4612, 4800, 4801, 4802, 4803, 4992, 4993, 4994, 4995]
def wsX10_seats : List Cond := cw 3073 :: wI sX10_seats
theorem mbX10_seats : ∀ i ∈ sX10_seats, cw i ∈ wsX10_seats := fun i h => List.mem_cons_of_mem _ (List.mem_map_of_mem h)
def sX10_seat : List Nat := [2, 19, 20, 64, 78, 79, 132, 133, 148, 149, 200, 201, 202, 203, 208, 276, 322, 323, 324, 384, 385, 386, 644, 650, 651, 652, 657, 658, 659, 720, 1092, 1093, 1094, 1741, 1742, 1743, 1744, 1745, 1746, 1747, 1748, 1750, 1751, 1792, 1793, 1794, 1795, 1796, 1797, 1798, 1799, 1800, 1801, 1802, 1803, 1804, 1805, 1806, 1807, 1808, 1809, 1810, 1811, 1812, 1813, 1814, 1815, 1856, 1857, 1858, 1859, 1860, 1861, 1862, 1863, 1864, 1865, 1866, 1867, 1868, 1869, 1870, 1871, 1872, 1873, 1874, 1875, 1876, 1877, 1878, 1879, 1920, 1921, 1922, 1923, 1924, 1925, 1926, 1927, 1928, 1929, 1930, 1931, 1932, 1933, 1934, 2052, 2053, 2690, 2691, 2692, 2711, 2752, 2753, 2754, 3022, 3023, 3024, 3025, 3075, 3076, 3077, 3078, 3079, 3080, 3081, 3082, 3083, 3084, 3085, 3086, 3087, 3088, 3089, 3090, 3091, 3092, 3093, 3094, 3095, 3136, 3137, 3138, 3139, 3140, 3141, 3142, 3143, 3144, 3145, 3146, 3147, 3148, 3149, 3150, 3209, 3210, 4352, 4353, 4354, 4355, 4356, 4357, 4358, 4359, 4360, 4361, 4362, 4363, 4364, 4365, 4366, 4367, 4368, 4369, 4370, 4544, 4545, 4546, 4547, 4548, 4549, 4550, 4551, 4552, 4553, 4554, 4555, 4608, 4609, 4610, 4611, 4612, 4800, 4801, 4802, 4803, 4992, 4993, 4994, 4995]
def wsX10_seat : List Cond := cw 3209 :: (wI sX10_seat ++ (ux_atS RX10 268 "java/util/NoSuchElementException" 13 ux_rx ["java/lang/RuntimeException", "java/lang/Exception"]).filter goodWord)
theorem mbX10_seat : ∀ i ∈ sX10_seat, cw i ∈ wsX10_seat := fun i h => List.mem_cons_of_mem _ (List.mem_append_left _ (List.mem_map_of_mem h))
theorem okX10_seat : okM 3209 sX10_seat = true := okM_by (by decide +kernel)
def sX10_ring : List Nat := [2, 19, 20, 128, 129, 148, 149, 339, 340, 650, 651, 652, 1092, 1093, 1094, 1750, 1751, 1792, 2052, 2053, 3218, 3219, 3220, 3221, 3222, 3223, 3264, 3265, 3266, 3267, 3268, 3269, 3270, 3271, 3272, 3273, 3274, 3275, 3276, 3277, 3278, 3279, 3280, 3281, 3282, 3283, 3284, 3285, 3286, 3287, 3328, 4352, 4353, 4354, 4355, 4356, 4357, 4358, 4359, 4360, 4361, 4362, 4363, 4364, 4365, 4366, 4367, 4368, 4369, 4370, 4544, 4545, 4546, 4547, 4548, 4549, 4550, 4551, 4552, 4553, 4554, 4555, 4928, 4929, 4930]
def wsX10_ring : List Cond := cw 3218 :: wI sX10_ring
theorem mbX10_ring : ∀ i ∈ sX10_ring, cw i ∈ wsX10_ring := fun i h => List.mem_cons_of_mem _ (List.mem_map_of_mem h)
def sX10_ringed : List Nat := [2, 19, 20, 128, 129, 148, 149, 339, 340, 650, 651, 652, 660, 661, 662, 663, 704, 705, 706, 1092, 1093, 1094, 1557, 1750, 1751, 1792, 2052, 2053, 3220, 3221, 3222, 3223, 3264, 3265, 3266, 3267, 3268, 3269, 3270, 3271, 3272, 3273, 3274, 3275, 3276, 3277, 3278, 3279, 3280, 3281, 3282, 3283, 3284, 3285, 3286, 3287, 3328, 3343, 3344, 4352, 4353, 4354, 4355, 4356, 4357, 4358, 4359, 4360, 4361, 4362, 4363, 4364, 4365, 4366, 4367, 4368, 4369, 4370, 4544, 4545, 4546, 4547, 4548, 4549, 4550, 4551, 4552, 4553, 4554, 4555, 4928, 4929, 4930]
def wsX10_ringed : List Cond := cw 3343 :: (wI sX10_ringed ++ (vx_atS RX10 409 "java/lang/IllegalArgumentException" ["java/lang/RuntimeException", "java/lang/Exception"]).filter goodWord)
theorem mbX10_ringed : ∀ i ∈ sX10_ringed, cw i ∈ wsX10_ringed := fun i h => List.mem_cons_of_mem _ (List.mem_append_left _ (List.mem_map_of_mem h))
theorem okX10_ringed : okM 3343 sX10_ringed = true := okM_by (by decide +kernel)
def sX10_ordersWon : List Nat := [2, 78, 276, 651, 1809, 1810, 1811, 1930, 1931, 2052, 2053, 2757, 3400, 3401, 3402, 3403, 3404, 4800, 4801, 4802, 4803]
def wsX10_ordersWon : List Cond := cw 3403 :: wI sX10_ordersWon
theorem mbX10_ordersWon : ∀ i ∈ sX10_ordersWon, cw i ∈ wsX10_ordersWon := fun i h => List.mem_cons_of_mem _ (List.mem_map_of_mem h)
theorem okX10_ordersWon : okM 3403 sX10_ordersWon = true := okM_by (by decide +kernel)
def sX10_bouts : List Nat := [2, 20, 78, 79, 276, 322, 324, 644, 651, 657, 658, 659, 1742, 1743, 1744, 1809, 1810, 1811, 1930, 1931, 2052, 2053, 2690, 2691, 2692, 2711, 2752, 2753, 2754, 2755, 2757, 3395, 3396, 3397, 3398, 3399, 3400, 3401, 3402, 3403, 3404, 4352, 4353, 4354, 4355, 4356, 4357, 4358, 4359, 4360, 4361, 4362, 4363, 4364, 4365, 4366, 4367, 4368, 4369, 4370, 4544, 4545, 4546, 4547, 4548, 4549, 4550, 4551, 4552, 4553, 4554, 4555, 4800, 4801, 4802, 4803]
def wsX10_bouts : List Cond := cw 3395 :: (wI sX10_bouts ++ (ux_atS RX10 268 "java/util/NoSuchElementException" 13 ux_rx ["java/lang/RuntimeException", "java/lang/Exception"]).filter goodWord)
theorem mbX10_bouts : ∀ i ∈ sX10_bouts, cw i ∈ wsX10_bouts := fun i h => List.mem_cons_of_mem _ (List.mem_append_left _ (List.mem_map_of_mem h))
theorem okX10_bouts : okM 3395 sX10_bouts = true := okM_by (by decide +kernel)
def sX10_fits : List Nat := [2, 69, 70, 78, 79, 136, 137, 257, 276, 322, 324, 390, 391, 392, 653, 654, 655, 656, 657, 658, 659, 660, 661, 662, 663, 704, 705, 706, 1741, 1742, 1743, 1744, 1745, 1746, 1747, 1748, 1798, 1799, 1800, 1802, 1803, 1804, 1805, 1806, 1807, 3459, 3460, 3461, 3462, 3463, 3464, 3465, 3466, 3467, 3468, 3469, 3470, 3471, 3472, 3473, 3474, 3475, 3476, 3477, 3478, 3479, 3520, 3521, 3522, 3523, 3524, 3525, 3526, 3527, 3528, 3529, 3530, 3531, 3532, 3533, 4352, 4353, 4354, 4355, 4356, 4357, 4358, 4359, 4360, 4361, 4362, 4363, 4364, 4365, 4366, 4367, 4368, 4369, 4370, 4544, 4545, 4546, 4547, 4548, 4549, 4550, 4551, 4552, 4553, 4554, 4555, 4672, 4673, 4800, 4801, 4802, 4803, 5056, 5057, 5058, 5059, 5060, 5061, 5062, 5063, 5064, 5065, 5066]
def wsX10_fits : List Cond := cw 3459 :: (wI sX10_fits ++ (vx_atS RX10 409 "java/lang/IllegalArgumentException" ["java/lang/RuntimeException", "java/lang/Exception"]).filter goodWord)
theorem mbX10_fits : ∀ i ∈ sX10_fits, cw i ∈ wsX10_fits := fun i h => List.mem_cons_of_mem _ (List.mem_append_left _ (List.mem_map_of_mem h))
theorem okX10_fits : okM 3459 sX10_fits = true := okM_by (by decide +kernel)
def sX10_look : List Nat := [2, 69, 70, 78, 79, 136, 137, 257, 276, 322, 324, 390, 391, 392, 393, 651, 653, 654, 655, 656, 657, 658, 659, 660, 661, 662, 663, 704, 705, 706, 1741, 1742, 1743, 1744, 1745, 1746, 1747, 1748, 1798, 1799, 1800, 1802, 1803, 1804, 1805, 1806, 1807, 1930, 1931, 2052, 2053, 2439, 2440, 2441, 3462, 3463, 3464, 3465, 3466, 3467, 3468, 3469, 3470, 3471, 3472, 3473, 3474, 3475, 3476, 3477, 3478, 3479, 3520, 3521, 3522, 3523, 3524, 3525, 3526, 3527, 3528, 3529, 3530, 3531, 3532, 3533, 3592, 3593, 3594, 3595, 3596, 3597, 3598, 3599, 3600, 3601, 3602, 3603, 3604, 3605, 3606, 3607, 3648, 3649, 3650, 4352, 4353, 4354, 4355, 4356, 4357, 4358, 4359, 4360, 4361, 4362, 4363, 4364, 4365, 4366, 4367, 4368, 4369, 4370, 4544, 4545, 4546, 4547, 4548, 4549, 4550, 4551, 4552, 4553, 4554, 4555, 4672, 4673, 4800, 4801, 4802, 4803, 5056, 5057, 5058, 5059, 5060, 5061, 5062, 5063, 5064, 5065, 5066]
def wsX10_look : List Cond := cw 3592 :: (wI sX10_look ++ (vx_atS RX10 409 "java/lang/IllegalArgumentException" ["java/lang/RuntimeException", "java/lang/Exception"]).filter goodWord)
theorem mbX10_look : ∀ i ∈ sX10_look, cw i ∈ wsX10_look := fun i h => List.mem_cons_of_mem _ (List.mem_append_left _ (List.mem_map_of_mem h))
theorem okX10_look : okM 3592 sX10_look = true := okM_by (by decide +kernel)
def sX10_watch : List Nat := [2, 19, 20, 148, 149, 195, 651, 653, 654, 655, 656, 657, 658, 659, 660, 661, 662, 663, 704, 705, 706, 720, 1092, 1093, 1094, 1750, 1751, 1792, 1802, 1803, 1804, 1805, 1806, 1807, 2052, 2053, 3021, 3022, 3023, 3024, 3025, 3665, 3666, 3667, 3668, 3669, 3670, 3671, 3712, 3713, 3714, 4352, 4353, 4354, 4355, 4356, 4357, 4358, 4359, 4360, 4361, 4362, 4363, 4364, 4365, 4366, 4367, 4368, 4369, 4370, 4544, 4545, 4546, 4547, 4548, 4549, 4550, 4551, 4552, 4553, 4554, 4555]
def wsX10_watch : List Cond := cw 3665 :: (wI sX10_watch ++ (vx_atS RX10 409 "java/lang/IllegalArgumentException" ["java/lang/RuntimeException", "java/lang/Exception"]).filter goodWord)
theorem mbX10_watch : ∀ i ∈ sX10_watch, cw i ∈ wsX10_watch := fun i h => List.mem_cons_of_mem _ (List.mem_append_left _ (List.mem_map_of_mem h))
theorem okX10_watch : okM 3665 sX10_watch = true := okM_by (by decide +kernel)
def sX10_choices : List Nat := [3728]
def wsX10_choices : List Cond := cw 3728 :: wI sX10_choices
theorem okX10_choices : okM 3728 sX10_choices = true := okM_by (by decide +kernel)
def sX10_power : List Nat := [3731]
def wsX10_power : List Cond := cw 3731 :: wI sX10_power
theorem okX10_power : okM 3731 sX10_power = true := okM_by (by decide +kernel)
def sX10_few : List Nat := [2, 653, 654, 655, 656, 657, 658, 659, 660, 661, 662, 663, 704, 705, 706, 3725, 3726, 3727, 3728, 3729, 3730, 3731, 4352, 4353, 4354, 4355, 4356, 4357, 4358, 4359, 4360, 4361, 4362, 4363, 4364, 4365, 4366, 4367, 4368, 4369, 4370]
def wsX10_few : List Cond := cw 3725 :: (wI sX10_few ++ (vx_atS RX10 409 "java/lang/IllegalArgumentException" ["java/lang/RuntimeException", "java/lang/Exception"]).filter goodWord)
theorem mbX10_few : ∀ i ∈ sX10_few, cw i ∈ wsX10_few := fun i h => List.mem_cons_of_mem _ (List.mem_append_left _ (List.mem_map_of_mem h))
theorem okX10_few : okM 3725 sX10_few = true := okM_by (by decide +kernel)
def sX10_gain : List Nat := [3789]
def wsX10_gain : List Cond := cw 3789 :: wI sX10_gain
theorem okX10_gain : okM 3789 sX10_gain = true := okM_by (by decide +kernel)
def sX10_road : List Nat := [2, 653, 654, 655, 656, 657, 658, 659, 660, 661, 662, 663, 704, 705, 706, 3786, 3787, 3788, 3789, 4352, 4353, 4354, 4355, 4356, 4357, 4358, 4359, 4360, 4361, 4362, 4363, 4364, 4365, 4366, 4367, 4368, 4369, 4370]
def wsX10_road : List Cond := cw 3786 :: (wI sX10_road ++ (vx_atS RX10 409 "java/lang/IllegalArgumentException" ["java/lang/RuntimeException", "java/lang/Exception"]).filter goodWord)
theorem mbX10_road : ∀ i ∈ sX10_road, cw i ∈ wsX10_road := fun i h => List.mem_cons_of_mem _ (List.mem_append_left _ (List.mem_map_of_mem h))
theorem okX10_road : okM 3786 sX10_road = true := okM_by (by decide +kernel)
def sX10_clover : List Nat := [2, 20, 78, 79, 276, 277, 322, 324, 644, 650, 651, 652, 653, 654, 655, 656, 657, 658, 659, 660, 661, 662, 663, 704, 705, 706, 1860, 1861, 1862, 1863, 1864, 1865, 1866, 1867, 2052, 2053, 2690, 2691, 2692, 2711, 2752, 2753, 2754, 3400, 3843, 3844, 3845, 3846, 3847, 3848, 3849, 3850, 3851, 3852, 4352, 4353, 4354, 4355, 4356, 4357, 4358, 4359, 4360, 4361, 4362, 4363, 4364, 4365, 4366, 4367, 4368, 4369, 4370, 4544, 4545, 4546, 4547, 4548, 4549, 4550, 4551, 4552, 4553, 4554, 4555, 4800, 4801, 4802, 4803]
def wsX10_clover : List Cond := cw 3843 :: (wI sX10_clover ++ (ux_atS RX10 268 "java/util/NoSuchElementException" 13 ux_rx ["java/lang/RuntimeException", "java/lang/Exception"]).filter goodWord ++ (vx_atS RX10 409 "java/lang/IllegalArgumentException" ["java/lang/RuntimeException", "java/lang/Exception"]).filter goodWord)
theorem mbX10_clover : ∀ i ∈ sX10_clover, cw i ∈ wsX10_clover := fun i h => List.mem_cons_of_mem _ (List.mem_append_left _ (List.mem_append_left _ (List.mem_map_of_mem h)))
theorem okX10_clover : okM 3843 sX10_clover = true := okM_by (by decide +kernel)
def sX10_strongest : List Nat := [2, 20, 78, 79, 276, 644, 653, 654, 655, 656, 657, 658, 659, 660, 661, 662, 663, 704, 705, 706, 1742, 1743, 1744, 1809, 1810, 1811, 2755, 2757, 3907, 4352, 4353, 4354, 4355, 4356, 4357, 4358, 4359, 4360, 4361, 4362, 4363, 4364, 4365, 4366, 4367, 4368, 4369, 4370, 4544, 4545, 4546, 4547, 4548, 4549, 4550, 4551, 4552, 4553, 4554, 4555, 4800, 4801, 4802, 4803]
def wsX10_strongest : List Cond := cw 3907 :: (wI sX10_strongest ++ (vx_atS RX10 409 "java/lang/IllegalArgumentException" ["java/lang/RuntimeException", "java/lang/Exception"]).filter goodWord)
theorem mbX10_strongest : ∀ i ∈ sX10_strongest, cw i ∈ wsX10_strongest := fun i h => List.mem_cons_of_mem _ (List.mem_append_left _ (List.mem_map_of_mem h))
theorem okX10_strongest : okM 3907 sX10_strongest = true := okM_by (by decide +kernel)
def sX10_ties : List Nat := [2, 20, 78, 79, 276, 644, 653, 654, 655, 656, 657, 658, 659, 660, 661, 662, 663, 704, 705, 706, 1861, 1862, 1863, 2690, 2691, 2692, 2711, 2752, 2753, 2754, 2831, 3918, 4352, 4353, 4354, 4355, 4356, 4357, 4358, 4359, 4360, 4361, 4362, 4363, 4364, 4365, 4366, 4367, 4368, 4369, 4370, 4544, 4545, 4546, 4547, 4548, 4549, 4550, 4551, 4552, 4553, 4554, 4555, 4800, 4801, 4802, 4803]
def wsX10_ties : List Cond := cw 3918 :: (wI sX10_ties ++ (ux_atS RX10 268 "java/util/NoSuchElementException" 13 ux_rx ["java/lang/RuntimeException", "java/lang/Exception"]).filter goodWord ++ (vx_atS RX10 409 "java/lang/IllegalArgumentException" ["java/lang/RuntimeException", "java/lang/Exception"]).filter goodWord)
theorem mbX10_ties : ∀ i ∈ sX10_ties, cw i ∈ wsX10_ties := fun i h => List.mem_cons_of_mem _ (List.mem_append_left _ (List.mem_append_left _ (List.mem_map_of_mem h)))
theorem okX10_ties : okM 3918 sX10_ties = true := okM_by (by decide +kernel)
def sX10_refuge : List Nat := [2, 19, 20, 148, 149, 651, 653, 654, 655, 656, 657, 658, 659, 660, 661, 662, 663, 704, 705, 706, 1047, 1092, 1093, 1094, 1557, 1750, 1751, 1792, 2052, 2053, 2063, 2064, 2065, 2646, 2647, 2688, 2689, 2690, 2691, 2692, 2693, 2883, 3969, 4352, 4353, 4354, 4355, 4356, 4357, 4358, 4359, 4360, 4361, 4362, 4363, 4364, 4365, 4366, 4367, 4368, 4369, 4370, 4544, 4545, 4546, 4547, 4548, 4549, 4550, 4551, 4552, 4553, 4554, 4555]
def wsX10_refuge : List Cond := cw 3969 :: (wI sX10_refuge ++ (ux_atS RX10 268 "java/util/NoSuchElementException" 13 ux_rx ["java/lang/RuntimeException", "java/lang/Exception"]).filter goodWord ++ (vx_atS RX10 409 "java/lang/IllegalArgumentException" ["java/lang/RuntimeException", "java/lang/Exception"]).filter goodWord)
theorem mbX10_refuge : ∀ i ∈ sX10_refuge, cw i ∈ wsX10_refuge := fun i h => List.mem_cons_of_mem _ (List.mem_append_left _ (List.mem_append_left _ (List.mem_map_of_mem h)))
theorem okX10_refuge : okM 3969 sX10_refuge = true := okM_by (by decide +kernel)
def sX10_range : List Nat := [2, 19, 20, 64, 78, 79, 148, 149, 200, 201, 202, 203, 208, 276, 322, 323, 324, 644, 650, 651, 652, 657, 658, 659, 720, 1092, 1093, 1094, 1741, 1742, 1743, 1744, 1745, 1746, 1747, 1748, 1750, 1751, 1792, 1793, 1794, 1795, 1796, 1797, 1798, 1799, 1800, 1801, 1802, 1803, 1804, 1805, 1806, 1807, 1808, 1809, 1810, 1811, 1812, 1813, 1814, 1815, 1856, 1857, 1858, 1859, 1860, 1861, 1862, 1863, 1864, 1865, 1866, 1867, 1868, 1869, 1870, 1871, 1872, 1873, 1874, 1875, 1876, 1877, 1878, 1879, 1920, 1921, 1922, 1923, 1924, 1925, 1926, 1927, 1928, 1929, 1930, 1931, 1932, 1933, 1934, 2690, 2691, 2692, 2711, 2752, 2753, 2754, 3022, 3023, 3024, 3025, 3090, 3091, 3092, 3980, 3981, 4352, 4353, 4354, 4355, 4356, 4357, 4358, 4359, 4360, 4361, 4362, 4363, 4364, 4365, 4366, 4367, 4368, 4369, 4370, 4544, 4545, 4546, 4547, 4548, 4549, 4550, 4551, 4552, 4553, 4554, 4555, 4608, 4609, 4610, 4611, 4612, 4800, 4801, 4802, 4803]
def wsX10_range : List Cond := cw 3980 :: (wI sX10_range ++ (ux_atS RX10 268 "java/util/NoSuchElementException" 13 ux_rx ["java/lang/RuntimeException", "java/lang/Exception"]).filter goodWord)
theorem mbX10_range : ∀ i ∈ sX10_range, cw i ∈ wsX10_range := fun i h => List.mem_cons_of_mem _ (List.mem_append_left _ (List.mem_map_of_mem h))
theorem okX10_range : okM 3980 sX10_range = true := okM_by (by decide +kernel)
def sX10_march : List Nat := [2, 19, 64, 78, 79, 80, 148, 149, 200, 201, 202, 203, 208, 276, 322, 323, 324, 326, 328, 329, 330, 331, 650, 651, 652, 653, 654, 655, 656, 657, 658, 659, 660, 661, 662, 663, 704, 705, 706, 1047, 1092, 1093, 1094, 1738, 1739, 1740, 1741, 1742, 1743, 1744, 1745, 1746, 1747, 1748, 1749, 1750, 1751, 1792, 1793, 1794, 1795, 1796, 1797, 1798, 1799, 1800, 1801, 1802, 1803, 1804, 1805, 1806, 1807, 1808, 1809, 1810, 1811, 1812, 1813, 1814, 1815, 1856, 1857, 1858, 1859, 1860, 1861, 1862, 1863, 1864, 1865, 1866, 1867, 1868, 1869, 1870, 1871, 1872, 1873, 1874, 1875, 1876, 1877, 1878, 1879, 1920, 1921, 1922, 1923, 1924, 1925, 1926, 1927, 1928, 1929, 1930, 1931, 1932, 1933, 1934, 1936, 1937, 1938, 1992, 1993, 1994, 1995, 1996, 1997, 1998, 2000, 2001, 2002, 2003, 2049, 2050, 2051, 2052, 2053, 2054, 2055, 2056, 2057, 2058, 2059, 2060, 2061, 2062, 2063, 2064, 2065, 2066, 2067, 2068, 2069, 2518, 2560, 2561, 2562, 2563, 2961, 2962, 2963, 2964, 4032, 4033, 4034, 4035, 4036, 4037, 4038, 4039, 4040, 4041, 4042, 4043, 4044, 4045, 4046, 4047, 4048, 4049, 4050, 4051, 4052, 4053, 4054, 4055, 4096, 4097, 4098, 4099, 4100, 4101, 4352, 4353, 4354, 4355, 4356, 4357, 4358, 4359, 4360, 4361, 4362, 4363, 4364, 4365, 4366, 4367, 4368, 4369, 4370, 4544, 4545, 4546, 4547, 4548, 4549, 4550, 4551, 4552, 4553, 4554, 4555, 4608, 4609, 4610, 4611, 4612, 4800, 4801, 4802, 4803]
def wsX10_march : List Cond := cw 4032 :: (wI sX10_march ++ (vx_atS RX10 409 "java/lang/IllegalArgumentException" ["java/lang/RuntimeException", "java/lang/Exception"]).filter goodWord)
theorem mbX10_march : ∀ i ∈ sX10_march, cw i ∈ wsX10_march := fun i h => List.mem_cons_of_mem _ (List.mem_append_left _ (List.mem_map_of_mem h))
theorem okX10_march : okM 4032 sX10_march = true := okM_by (by decide +kernel)
def sX10_span : List Nat := [2, 19, 20, 64, 78, 79, 80, 148, 149, 200, 201, 202, 203, 208, 276, 322, 323, 324, 326, 328, 329, 330, 331, 644, 649, 650, 651, 652, 653, 654, 655, 656, 657, 658, 659, 660, 661, 662, 663, 704, 705, 706, 1047, 1092, 1093, 1094, 1738, 1739, 1740, 1741, 1742, 1743, 1744, 1745, 1746, 1747, 1748, 1749, 1750, 1751, 1792, 1793, 1794, 1795, 1796, 1797, 1798, 1799, 1800, 1801, 1802, 1803, 1804, 1805, 1806, 1807, 1808, 1809, 1810, 1811, 1812, 1813, 1814, 1815, 1856, 1857, 1858, 1859, 1860, 1861, 1862, 1863, 1864, 1865, 1866, 1867, 1868, 1869, 1870, 1871, 1872, 1873, 1874, 1875, 1876, 1877, 1878, 1879, 1920, 1921, 1922, 1923, 1924, 1925, 1926, 1927, 1928, 1929, 1930, 1931, 1932, 1933, 1934, 1936, 1937, 1938, 1992, 1993, 1994, 1995, 1996, 1997, 1998, 2000, 2001, 2002, 2003, 2049, 2050, 2051, 2052, 2053, 2054, 2055, 2056, 2057, 2058, 2059, 2060, 2061, 2062, 2063, 2064, 2065, 2066, 2067, 2068, 2069, 2755, 2961, 2962, 2963, 2964, 3404, 4033, 4034, 4035, 4036, 4037, 4038, 4039, 4040, 4041, 4042, 4043, 4044, 4045, 4046, 4047, 4048, 4049, 4050, 4051, 4052, 4053, 4054, 4055, 4096, 4097, 4167, 4168, 4352, 4353, 4354, 4355, 4356, 4357, 4358, 4359, 4360, 4361, 4362, 4363, 4364, 4365, 4366, 4367, 4368, 4369, 4370, 4544, 4545, 4546, 4547, 4548, 4549, 4550, 4551, 4552, 4553, 4554, 4555, 4608, 4609, 4610, 4611, 4612, 4800, 4801, 4802, 4803]
def wsX10_span : List Cond := cw 4167 :: (wI sX10_span ++ (vx_atS RX10 409 "java/lang/IllegalArgumentException" ["java/lang/RuntimeException", "java/lang/Exception"]).filter goodWord)
theorem mbX10_span : ∀ i ∈ sX10_span, cw i ∈ wsX10_span := fun i h => List.mem_cons_of_mem _ (List.mem_append_left _ (List.mem_map_of_mem h))
theorem okX10_span : okM 4167 sX10_span = true := okM_by (by decide +kernel)
def sX10_image : List Nat := [79, 83, 84, 85, 329, 330, 331, 335, 642, 1672, 1673, 1674, 1675, 1676, 1677, 1678, 4176, 4177, 4178, 4179, 4180, 4352, 4353, 4354, 4355, 4356, 4357, 4358, 4359, 4360, 4361, 4362, 4363, 4364, 4365, 4366, 4367, 4368, 4369, 4370, 4800, 4801, 4802, 4803, 4864, 4865]
def wsX10_image : List Cond := cw 4176 :: wI sX10_image
theorem mbX10_image : ∀ i ∈ sX10_image, cw i ∈ wsX10_image := fun i h => List.mem_cons_of_mem _ (List.mem_map_of_mem h)
def sX10_restore : List Nat := [79, 83, 84, 85, 329, 330, 331, 335, 642, 643, 1676, 1677, 1678, 2501, 2502, 2503, 2504, 4177, 4178, 4179, 4180, 4236, 4352, 4353, 4354, 4355, 4356, 4357, 4358, 4359, 4360, 4361, 4362, 4363, 4364, 4365, 4366, 4367, 4368, 4369, 4370, 4800, 4801, 4802, 4803, 4864, 4865]
def wsX10_restore : List Cond := cw 4236 :: wI sX10_restore
theorem mbX10_restore : ∀ i ∈ sX10_restore, cw i ∈ wsX10_restore := fun i h => List.mem_cons_of_mem _ (List.mem_map_of_mem h)
def sX10_status : List Nat := [706, 2692, 4244, 4352, 4353, 4354, 4355, 4356, 4357, 4358, 4359, 4360, 4361, 4362, 4363, 4364, 4365, 4366, 4367, 4368, 4369, 4370]
def wsX10_status : List Cond := cw 4244 :: wI sX10_status
theorem mbX10_status : ∀ i ∈ sX10_status, cw i ∈ wsX10_status := fun i h => List.mem_cons_of_mem _ (List.mem_map_of_mem h)
def sX10_count : List Nat := [16, 84, 535, 641, 642, 4292, 4352, 4353, 4354, 4355, 4356, 4357, 4358, 4359, 4360, 4361, 4362, 4363, 4364, 4365, 4366, 4367, 4368, 4369, 4370, 4480, 4481, 4482, 4483, 4484, 4485, 4486, 4864, 4865]
def wsX10_count : List Cond := cw 4292 :: wI sX10_count
theorem mbX10_count : ∀ i ∈ sX10_count, cw i ∈ wsX10_count := fun i h => List.mem_cons_of_mem _ (List.mem_map_of_mem h)
def sX11_may : List Nat := [398, 589, 1108, 4416, 4417, 4418, 4419, 4420, 4421, 4422, 4423, 4424, 4425, 4426, 4427, 4428, 4429, 4430, 4431, 4432, 4433, 4434, 4435, 4436, 4437, 4438, 4439, 4440, 4441, 4442, 4443, 4444, 4445, 4446, 4447, 4448, 4449, 4450, 4451, 4452, 4453, 4454, 4455, 4456, 4457, 4458, 4459, 4460, 4461, 4462, 4463, 4464, 4465, 4466, 4467, 4468, 4469, 4470]
def wsX11_may : List Cond := cw 1108 :: wI sX11_may
theorem mbX11_may : ∀ i ∈ sX11_may, cw i ∈ wsX11_may := fun i h => List.mem_cons_of_mem _ (List.mem_map_of_mem h)
theorem okX11_may : okM 1108 sX11_may = true := okM_by (by decide +kernel)
def sX11_within : List Nat := [2579]
def wsX11_within : List Cond := cw 2579 :: wI sX11_within
theorem okX11_within : okM 2579 sX11_within = true := okM_by (by decide +kernel)
def sX11_clears : List Nat := [404, 471, 512, 513, 514, 4416, 4417, 4418, 4419, 4420, 4421, 4422, 4423, 4424, 4425, 4426, 4427, 4428, 4429, 4430, 4431, 4432, 4433, 4434, 4435, 4436, 4437, 4438, 4439, 4440, 4441, 4442, 4443, 4444, 4445, 4446, 4447, 4448, 4449, 4450, 4451, 4452, 4453, 4454, 4455, 4456, 4457, 4458, 4459, 4460, 4461, 4462, 4463, 4464, 4465, 4466, 4467, 4468, 4469, 4470]
def wsX11_clears : List Cond := cw 471 :: wI sX11_clears
theorem mbX11_clears : ∀ i ∈ sX11_clears, cw i ∈ wsX11_clears := fun i h => List.mem_cons_of_mem _ (List.mem_map_of_mem h)
theorem okX11_clears : okM 471 sX11_clears = true := okM_by (by decide +kernel)
def sX11_copies : List Nat := [530]
def wsX11_copies : List Cond := cw 530 :: wI sX11_copies
theorem okX11_copies : okM 530 sX11_copies = true := okM_by (by decide +kernel)
def sX11_sets : List Nat := [5, 401, 402, 403, 404, 405, 406, 407, 456, 460, 512, 513, 514, 518, 519, 520, 521, 522, 523, 524, 525, 526, 527, 528, 529, 530, 4416, 4417, 4418, 4419, 4420, 4421, 4422, 4423, 4424, 4425, 4426, 4427, 4428, 4429, 4430, 4431, 4432, 4433, 4434, 4435, 4436, 4437, 4438, 4439, 4440, 4441, 4442, 4443, 4444, 4445, 4446, 4447, 4448, 4449, 4450, 4451, 4452, 4453, 4454, 4455, 4456, 4457, 4458, 4459, 4460, 4461, 4462, 4463, 4464, 4465, 4466, 4467, 4468, 4469, 4470]
def wsX11_sets : List Cond := cw 518 :: wI sX11_sets
theorem mbX11_sets : ∀ i ∈ sX11_sets, cw i ∈ wsX11_sets := fun i h => List.mem_cons_of_mem _ (List.mem_map_of_mem h)
theorem okX11_sets : okM 518 sX11_sets = true := okM_by (by decide +kernel)
def sX11_init : List Nat := [5, 6, 11, 12, 147, 396, 397, 398, 399, 400, 401, 402, 403, 404, 405, 406, 407, 448, 449, 450, 451, 452, 453, 454, 455, 456, 457, 458, 459, 460, 461, 462, 463, 464, 465, 466, 467, 468, 469, 470, 471, 512, 513, 514, 515, 516, 517, 518, 519, 520, 521, 522, 523, 524, 525, 526, 527, 528, 529, 530, 4416, 4417, 4418, 4419, 4420, 4421, 4422, 4423, 4424, 4425, 4426, 4427, 4428, 4429, 4430, 4431, 4432, 4433, 4434, 4435, 4436, 4437, 4438, 4439, 4440, 4441, 4442, 4443, 4444, 4445, 4446, 4447, 4448, 4449, 4450, 4451, 4452, 4453, 4454, 4455, 4456, 4457, 4458, 4459, 4460, 4461, 4462, 4463, 4464, 4465, 4466, 4467, 4468, 4469, 4470]
def wsX11_init : List Cond := cw 396 :: wI sX11_init
theorem mbX11_init : ∀ i ∈ sX11_init, cw i ∈ wsX11_init := fun i h => List.mem_cons_of_mem _ (List.mem_map_of_mem h)
def sX11_feed : List Nat := [400, 588, 589, 590, 4416, 4417, 4418, 4419, 4420, 4421, 4422, 4423, 4424, 4425, 4426, 4427, 4428, 4429, 4430, 4431, 4432, 4433, 4434, 4435, 4436, 4437, 4438, 4439, 4440, 4441, 4442, 4443, 4444, 4445, 4446, 4447, 4448, 4449, 4450, 4451, 4452, 4453, 4454, 4455, 4456, 4457, 4458, 4459, 4460, 4461, 4462, 4463, 4464, 4465, 4466, 4467, 4468, 4469, 4470]
def wsX11_feed : List Cond := cw 588 :: wI sX11_feed
theorem mbX11_feed : ∀ i ∈ sX11_feed, cw i ∈ wsX11_feed := fun i h => List.mem_cons_of_mem _ (List.mem_map_of_mem h)
def sX11_fine : List Nat := [1104, 1158, 4416, 4417, 4418, 4419, 4420, 4421, 4422, 4423, 4424, 4425, 4426, 4427, 4428, 4429, 4430, 4431, 4432, 4433, 4434, 4435, 4436, 4437, 4438, 4439, 4440, 4441, 4442, 4443, 4444, 4445, 4446, 4447, 4448, 4449, 4450, 4451, 4452, 4453, 4454, 4455, 4456, 4457, 4458, 4459, 4460, 4461, 4462, 4463, 4464, 4465, 4466, 4467, 4468, 4469, 4470]
def wsX11_fine : List Cond := cw 1158 :: wI sX11_fine
theorem mbX11_fine : ∀ i ∈ sX11_fine, cw i ∈ wsX11_fine := fun i h => List.mem_cons_of_mem _ (List.mem_map_of_mem h)
theorem okX11_fine : okM 1158 sX11_fine = true := okM_by (by decide +kernel)
def sX11_wrong : List Nat := [1104, 1225, 1226, 4416, 4417, 4418, 4419, 4420, 4421, 4422, 4423, 4424, 4425, 4426, 4427, 4428, 4429, 4430, 4431, 4432, 4433, 4434, 4435, 4436, 4437, 4438, 4439, 4440, 4441, 4442, 4443, 4444, 4445, 4446, 4447, 4448, 4449, 4450, 4451, 4452, 4453, 4454, 4455, 4456, 4457, 4458, 4459, 4460, 4461, 4462, 4463, 4464, 4465, 4466, 4467, 4468, 4469, 4470]
def wsX11_wrong : List Cond := cw 1225 :: wI sX11_wrong
theorem mbX11_wrong : ∀ i ∈ sX11_wrong, cw i ∈ wsX11_wrong := fun i h => List.mem_cons_of_mem _ (List.mem_map_of_mem h)
theorem okX11_wrong : okM 1225 sX11_wrong = true := okM_by (by decide +kernel)
def sX11_here : List Nat := [400, 1103, 1153, 1166, 4416, 4417, 4418, 4419, 4420, 4421, 4422, 4423, 4424, 4425, 4426, 4427, 4428, 4429, 4430, 4431, 4432, 4433, 4434, 4435, 4436, 4437, 4438, 4439, 4440, 4441, 4442, 4443, 4444, 4445, 4446, 4447, 4448, 4449, 4450, 4451, 4452, 4453, 4454, 4455, 4456, 4457, 4458, 4459, 4460, 4461, 4462, 4463, 4464, 4465, 4466, 4467, 4468, 4469, 4470]
def wsX11_here : List Cond := cw 1166 :: wI sX11_here
theorem mbX11_here : ∀ i ∈ sX11_here, cw i ∈ wsX11_here := fun i h => List.mem_cons_of_mem _ (List.mem_map_of_mem h)
theorem okX11_here : okM 1166 sX11_here = true := okM_by (by decide +kernel)
def sX11_isSmall : List Nat := [1173]
def wsX11_isSmall : List Cond := cw 1173 :: wI sX11_isSmall
theorem okX11_isSmall : okM 1173 sX11_isSmall = true := okM_by (by decide +kernel)
def sX11_isDigit : List Nat := [1285]
def wsX11_isDigit : List Cond := cw 1285 :: wI sX11_isDigit
theorem okX11_isDigit : okM 1285 sX11_isDigit = true := okM_by (by decide +kernel)
def sX11_word : List Nat := [5, 400, 1103, 1153, 1163, 1164, 1165, 1166, 1170, 1171, 1172, 1173, 4416, 4417, 4418, 4419, 4420, 4421, 4422, 4423, 4424, 4425, 4426, 4427, 4428, 4429, 4430, 4431, 4432, 4433, 4434, 4435, 4436, 4437, 4438, 4439, 4440, 4441, 4442, 4443, 4444, 4445, 4446, 4447, 4448, 4449, 4450, 4451, 4452, 4453, 4454, 4455, 4456, 4457, 4458, 4459, 4460, 4461, 4462, 4463, 4464, 4465, 4466, 4467, 4468, 4469, 4470]
def wsX11_word : List Cond := cw 1170 :: wI sX11_word
theorem mbX11_word : ∀ i ∈ sX11_word, cw i ∈ wsX11_word := fun i h => List.mem_cons_of_mem _ (List.mem_map_of_mem h)
theorem okX11_word : okM 1170 sX11_word = true := okM_by (by decide +kernel)
def sX11_of : List Nat := [784, 785, 786, 787, 788, 789, 790, 791, 832, 833, 834, 841, 842, 843, 844, 845, 846, 847, 848, 849, 850, 851, 852, 853, 854, 855, 896, 897, 898, 899, 900, 901, 902, 903, 904, 905, 906, 907, 908, 909, 910, 911, 912, 913, 914, 915, 916, 1219, 1220, 1221]
def wsX11_of : List Cond := cw 1219 :: wI sX11_of
theorem mbX11_of : ∀ i ∈ sX11_of, cw i ∈ wsX11_of := fun i h => List.mem_cons_of_mem _ (List.mem_map_of_mem h)
theorem okX11_of : okM 1219 sX11_of = true := okM_by (by decide +kernel)
def sX11_pass : List Nat := [5, 400, 1103, 1153, 1171, 1172, 1173, 1234, 4416, 4417, 4418, 4419, 4420, 4421, 4422, 4423, 4424, 4425, 4426, 4427, 4428, 4429, 4430, 4431, 4432, 4433, 4434, 4435, 4436, 4437, 4438, 4439, 4440, 4441, 4442, 4443, 4444, 4445, 4446, 4447, 4448, 4449, 4450, 4451, 4452, 4453, 4454, 4455, 4456, 4457, 4458, 4459, 4460, 4461, 4462, 4463, 4464, 4465, 4466, 4467, 4468, 4469, 4470]
def wsX11_pass : List Cond := cw 1234 :: wI sX11_pass
theorem mbX11_pass : ∀ i ∈ sX11_pass, cw i ∈ wsX11_pass := fun i h => List.mem_cons_of_mem _ (List.mem_map_of_mem h)
theorem okX11_pass : okM 1234 sX11_pass = true := okM_by (by decide +kernel)
def sX11_readNumber : List Nat := [5, 400, 1103, 1104, 1153, 1155, 1156, 1157, 1158, 1163, 1164, 1165, 1166, 1222, 1223, 1224, 1225, 1226, 1282, 1283, 1284, 1285, 4416, 4417, 4418, 4419, 4420, 4421, 4422, 4423, 4424, 4425, 4426, 4427, 4428, 4429, 4430, 4431, 4432, 4433, 4434, 4435, 4436, 4437, 4438, 4439, 4440, 4441, 4442, 4443, 4444, 4445, 4446, 4447, 4448, 4449, 4450, 4451, 4452, 4453, 4454, 4455, 4456, 4457, 4458, 4459, 4460, 4461, 4462, 4463, 4464, 4465, 4466, 4467, 4468, 4469, 4470]
def wsX11_readNumber : List Cond := cw 1282 :: wI sX11_readNumber
theorem mbX11_readNumber : ∀ i ∈ sX11_readNumber, cw i ∈ wsX11_readNumber := fun i h => List.mem_cons_of_mem _ (List.mem_map_of_mem h)
theorem okX11_readNumber : okM 1282 sX11_readNumber = true := okM_by (by decide +kernel)
def sX11_sign : List Nat := [5, 400, 1103, 1104, 1153, 1155, 1156, 1157, 1158, 1163, 1164, 1165, 1166, 1222, 1223, 1224, 1225, 1226, 1297, 4416, 4417, 4418, 4419, 4420, 4421, 4422, 4423, 4424, 4425, 4426, 4427, 4428, 4429, 4430, 4431, 4432, 4433, 4434, 4435, 4436, 4437, 4438, 4439, 4440, 4441, 4442, 4443, 4444, 4445, 4446, 4447, 4448, 4449, 4450, 4451, 4452, 4453, 4454, 4455, 4456, 4457, 4458, 4459, 4460, 4461, 4462, 4463, 4464, 4465, 4466, 4467, 4468, 4469, 4470]
def wsX11_sign : List Cond := cw 1297 :: wI sX11_sign
theorem mbX11_sign : ∀ i ∈ sX11_sign, cw i ∈ wsX11_sign := fun i h => List.mem_cons_of_mem _ (List.mem_map_of_mem h)
theorem okX11_sign : okM 1297 sX11_sign = true := okM_by (by decide +kernel)
def sX11_isMore : List Nat := [5, 400, 1103, 1153, 1162, 1163, 1164, 1165, 1166, 4416, 4417, 4418, 4419, 4420, 4421, 4422, 4423, 4424, 4425, 4426, 4427, 4428, 4429, 4430, 4431, 4432, 4433, 4434, 4435, 4436, 4437, 4438, 4439, 4440, 4441, 4442, 4443, 4444, 4445, 4446, 4447, 4448, 4449, 4450, 4451, 4452, 4453, 4454, 4455, 4456, 4457, 4458, 4459, 4460, 4461, 4462, 4463, 4464, 4465, 4466, 4467, 4468, 4469, 4470]
def wsX11_isMore : List Cond := cw 1162 :: wI sX11_isMore
theorem mbX11_isMore : ∀ i ∈ sX11_isMore, cw i ∈ wsX11_isMore := fun i h => List.mem_cons_of_mem _ (List.mem_map_of_mem h)
theorem okX11_isMore : okM 1162 sX11_isMore = true := okM_by (by decide +kernel)
def sX11_begins : List Nat := [399, 590, 1103, 1104, 1152, 1153, 1154, 4416, 4417, 4418, 4419, 4420, 4421, 4422, 4423, 4424, 4425, 4426, 4427, 4428, 4429, 4430, 4431, 4432, 4433, 4434, 4435, 4436, 4437, 4438, 4439, 4440, 4441, 4442, 4443, 4444, 4445, 4446, 4447, 4448, 4449, 4450, 4451, 4452, 4453, 4454, 4455, 4456, 4457, 4458, 4459, 4460, 4461, 4462, 4463, 4464, 4465, 4466, 4467, 4468, 4469, 4470]
def wsX11_begins : List Cond := cw 1152 :: wI sX11_begins
theorem mbX11_begins : ∀ i ∈ sX11_begins, cw i ∈ wsX11_begins := fun i h => List.mem_cons_of_mem _ (List.mem_map_of_mem h)
theorem okX11_begins : okM 1152 sX11_begins = true := okM_by (by decide +kernel)
def sX11_result : List Nat := [5, 399, 1104, 1155, 1156, 1157, 1158, 1226, 1301, 4416, 4417, 4418, 4419, 4420, 4421, 4422, 4423, 4424, 4425, 4426, 4427, 4428, 4429, 4430, 4431, 4432, 4433, 4434, 4435, 4436, 4437, 4438, 4439, 4440, 4441, 4442, 4443, 4444, 4445, 4446, 4447, 4448, 4449, 4450, 4451, 4452, 4453, 4454, 4455, 4456, 4457, 4458, 4459, 4460, 4461, 4462, 4463, 4464, 4465, 4466, 4467, 4468, 4469, 4470]
def wsX11_result : List Cond := cw 1301 :: wI sX11_result
theorem mbX11_result : ∀ i ∈ sX11_result, cw i ∈ wsX11_result := fun i h => List.mem_cons_of_mem _ (List.mem_map_of_mem h)
theorem okX11_result : okM 1301 sX11_result = true := okM_by (by decide +kernel)
def sX11_fault : List Nat := [399, 589, 2496, 4416, 4417, 4418, 4419, 4420, 4421, 4422, 4423, 4424, 4425, 4426, 4427, 4428, 4429, 4430, 4431, 4432, 4433, 4434, 4435, 4436, 4437, 4438, 4439, 4440, 4441, 4442, 4443, 4444, 4445, 4446, 4447, 4448, 4449, 4450, 4451, 4452, 4453, 4454, 4455, 4456, 4457, 4458, 4459, 4460, 4461, 4462, 4463, 4464, 4465, 4466, 4467, 4468, 4469, 4470]
def wsX11_fault : List Cond := cw 2496 :: wI sX11_fault
theorem mbX11_fault : ∀ i ∈ sX11_fault, cw i ∈ wsX11_fault := fun i h => List.mem_cons_of_mem _ (List.mem_map_of_mem h)
def sX11_readHare : List Nat := [5, 400, 513, 1103, 1104, 1153, 1155, 1156, 1157, 1158, 1163, 1164, 1165, 1166, 1222, 1223, 1224, 1225, 1226, 1239, 1280, 1281, 1282, 1283, 1284, 1285, 1293, 4416, 4417, 4418, 4419, 4420, 4421, 4422, 4423, 4424, 4425, 4426, 4427, 4428, 4429, 4430, 4431, 4432, 4433, 4434, 4435, 4436, 4437, 4438, 4439, 4440, 4441, 4442, 4443, 4444, 4445, 4446, 4447, 4448, 4449, 4450, 4451, 4452, 4453, 4454, 4455, 4456, 4457, 4458, 4459, 4460, 4461, 4462, 4463, 4464, 4465, 4466, 4467, 4468, 4469, 4470]
def wsX11_readHare : List Cond := cw 1293 :: wI sX11_readHare
theorem mbX11_readHare : ∀ i ∈ sX11_readHare, cw i ∈ wsX11_readHare := fun i h => List.mem_cons_of_mem _ (List.mem_map_of_mem h)
theorem okX11_readHare : okM 1293 sX11_readHare = true := okM_by (by decide +kernel)
def sX11_readDebt : List Nat := [5, 400, 404, 513, 1103, 1104, 1153, 1155, 1156, 1157, 1158, 1163, 1164, 1165, 1166, 1222, 1223, 1224, 1225, 1226, 1239, 1280, 1281, 1282, 1283, 1284, 1285, 1289, 1290, 1291, 1292, 1293, 4416, 4417, 4418, 4419, 4420, 4421, 4422, 4423, 4424, 4425, 4426, 4427, 4428, 4429, 4430, 4431, 4432, 4433, 4434, 4435, 4436, 4437, 4438, 4439, 4440, 4441, 4442, 4443, 4444, 4445, 4446, 4447, 4448, 4449, 4450, 4451, 4452, 4453, 4454, 4455, 4456, 4457, 4458, 4459, 4460, 4461, 4462, 4463, 4464, 4465, 4466, 4467, 4468, 4469, 4470]
def wsX11_readDebt : List Cond := cw 1289 :: wI sX11_readDebt
theorem mbX11_readDebt : ∀ i ∈ sX11_readDebt, cw i ∈ wsX11_readDebt := fun i h => List.mem_cons_of_mem _ (List.mem_map_of_mem h)
theorem okX11_readDebt : okM 1289 sX11_readDebt = true := okM_by (by decide +kernel)
def sX11_isRow : List Nat := [5, 784, 785, 786, 787, 788, 789, 790, 791, 832, 833, 834, 841, 842, 843, 844, 845, 846, 847, 848, 849, 850, 851, 852, 853, 854, 855, 896, 897, 898, 899, 900, 901, 902, 903, 904, 905, 906, 907, 908, 909, 910, 911, 912, 913, 914, 915, 916, 1216, 1217, 1218, 1219, 1220, 1221]
def wsX11_isRow : List Cond := cw 1216 :: wI sX11_isRow
theorem mbX11_isRow : ∀ i ∈ sX11_isRow, cw i ∈ wsX11_isRow := fun i h => List.mem_cons_of_mem _ (List.mem_map_of_mem h)
theorem okX11_isRow : okM 1216 sX11_isRow = true := okM_by (by decide +kernel)
def sX11_isFull : List Nat := [5, 512, 513, 514, 784, 785, 786, 787, 788, 789, 790, 791, 832, 833, 834, 841, 842, 843, 844, 845, 846, 847, 848, 849, 850, 851, 852, 853, 854, 855, 896, 897, 898, 899, 900, 901, 902, 903, 904, 905, 906, 907, 908, 909, 910, 911, 912, 913, 914, 915, 916, 1217, 1218, 1219, 1220, 1221, 1230, 4416, 4417, 4418, 4419, 4420, 4421, 4422, 4423, 4424, 4425, 4426, 4427, 4428, 4429, 4430, 4431, 4432, 4433, 4434, 4435, 4436, 4437, 4438, 4439, 4440, 4441, 4442, 4443, 4444, 4445, 4446, 4447, 4448, 4449, 4450, 4451, 4452, 4453, 4454, 4455, 4456, 4457, 4458, 4459, 4460, 4461, 4462, 4463, 4464, 4465, 4466, 4467, 4468, 4469, 4470]
def wsX11_isFull : List Cond := cw 1230 :: wI sX11_isFull
theorem mbX11_isFull : ∀ i ∈ sX11_isFull, cw i ∈ wsX11_isFull := fun i h => List.mem_cons_of_mem _ (List.mem_map_of_mem h)
theorem okX11_isFull : okM 1230 sX11_isFull = true := okM_by (by decide +kernel)
def sX11_readRow : List Nat := [5, 400, 401, 402, 403, 404, 512, 513, 514, 784, 785, 786, 787, 788, 789, 790, 791, 832, 833, 834, 841, 842, 843, 844, 845, 846, 847, 848, 849, 850, 851, 852, 853, 854, 855, 896, 897, 898, 899, 900, 901, 902, 903, 904, 905, 906, 907, 908, 909, 910, 911, 912, 913, 914, 915, 916, 1103, 1104, 1153, 1155, 1156, 1157, 1158, 1163, 1164, 1165, 1166, 1217, 1218, 1219, 1220, 1221, 1222, 1223, 1224, 1225, 1226, 1238, 1239, 1280, 1281, 1282, 1283, 1284, 1285, 1286, 1287, 1288, 1289, 1290, 1291, 1292, 1293, 4416, 4417, 4418, 4419, 4420, 4421, 4422, 4423, 4424, 4425, 4426, 4427, 4428, 4429, 4430, 4431, 4432, 4433, 4434, 4435, 4436, 4437, 4438, 4439, 4440, 4441, 4442, 4443, 4444, 4445, 4446, 4447, 4448, 4449, 4450, 4451, 4452, 4453, 4454, 4455, 4456, 4457, 4458, 4459, 4460, 4461, 4462, 4463, 4464, 4465, 4466, 4467, 4468, 4469, 4470]
def wsX11_readRow : List Cond := cw 1238 :: wI sX11_readRow
theorem mbX11_readRow : ∀ i ∈ sX11_readRow, cw i ∈ wsX11_readRow := fun i h => List.mem_cons_of_mem _ (List.mem_map_of_mem h)
theorem okX11_readRow : okM 1238 sX11_readRow = true := okM_by (by decide +kernel)
def sX11_down : List Nat := [5, 398, 399, 400, 401, 402, 403, 404, 405, 406, 407, 456, 460, 468, 469, 470, 471, 512, 513, 514, 515, 516, 517, 518, 519, 520, 521, 522, 523, 524, 525, 526, 527, 528, 529, 530, 589, 590, 784, 785, 786, 787, 788, 789, 790, 791, 832, 833, 834, 841, 842, 843, 844, 845, 846, 847, 848, 849, 850, 851, 852, 853, 854, 855, 896, 897, 898, 899, 900, 901, 902, 903, 904, 905, 906, 907, 908, 909, 910, 911, 912, 913, 914, 915, 916, 1102, 1103, 1104, 1105, 1106, 1107, 1108, 1109, 1110, 1111, 1152, 1153, 1154, 1155, 1156, 1157, 1158, 1159, 1160, 1161, 1162, 1163, 1164, 1165, 1166, 1167, 1168, 1169, 1170, 1171, 1172, 1173, 1174, 1175, 1216, 1217, 1218, 1219, 1220, 1221, 1222, 1223, 1224, 1225, 1226, 1227, 1228, 1229, 1230, 1231, 1232, 1233, 1234, 1235, 1236, 1237, 1238, 1239, 1280, 1281, 1282, 1283, 1284, 1285, 1286, 1287, 1288, 1289, 1290, 1291, 1292, 1293, 1294, 1295, 1296, 1297, 1298, 1299, 1300, 1301, 4416, 4417, 4418, 4419, 4420, 4421, 4422, 4423, 4424, 4425, 4426, 4427, 4428, 4429, 4430, 4431, 4432, 4433, 4434, 4435, 4436, 4437, 4438, 4439, 4440, 4441, 4442, 4443, 4444, 4445, 4446, 4447, 4448, 4449, 4450, 4451, 4452, 4453, 4454, 4455, 4456, 4457, 4458, 4459, 4460, 4461, 4462, 4463, 4464, 4465, 4466, 4467, 4468, 4469, 4470]
def wsX11_down : List Cond := cw 1102 :: wI sX11_down
theorem mbX11_down : ∀ i ∈ sX11_down, cw i ∈ wsX11_down := fun i h => List.mem_cons_of_mem _ (List.mem_map_of_mem h)
def sX11_emit : List Nat := [5, 448, 449, 1104, 1155, 1156, 1157, 1158, 1481, 1492, 4416, 4417, 4418, 4419, 4420, 4421, 4422, 4423, 4424, 4425, 4426, 4427, 4428, 4429, 4430, 4431, 4432, 4433, 4434, 4435, 4436, 4437, 4438, 4439, 4440, 4441, 4442, 4443, 4444, 4445, 4446, 4447, 4448, 4449, 4450, 4451, 4452, 4453, 4454, 4455, 4456, 4457, 4458, 4459, 4460, 4461, 4462, 4463, 4464, 4465, 4466, 4467, 4468, 4469, 4470]
def wsX11_emit : List Cond := cw 1492 :: wI sX11_emit
theorem mbX11_emit : ∀ i ∈ sX11_emit, cw i ∈ wsX11_emit := fun i h => List.mem_cons_of_mem _ (List.mem_map_of_mem h)
theorem okX11_emit : okM 1492 sX11_emit = true := okM_by (by decide +kernel)
def sX11_opensOne : List Nat := [5, 1103, 1104, 1154, 1155, 1156, 1157, 1158, 1222, 1223, 1224, 1225, 1226, 1541, 4416, 4417, 4418, 4419, 4420, 4421, 4422, 4423, 4424, 4425, 4426, 4427, 4428, 4429, 4430, 4431, 4432, 4433, 4434, 4435, 4436, 4437, 4438, 4439, 4440, 4441, 4442, 4443, 4444, 4445, 4446, 4447, 4448, 4449, 4450, 4451, 4452, 4453, 4454, 4455, 4456, 4457, 4458, 4459, 4460, 4461, 4462, 4463, 4464, 4465, 4466, 4467, 4468, 4469, 4470]
def wsX11_opensOne : List Cond := cw 1541 :: wI sX11_opensOne
theorem mbX11_opensOne : ∀ i ∈ sX11_opensOne, cw i ∈ wsX11_opensOne := fun i h => List.mem_cons_of_mem _ (List.mem_map_of_mem h)
theorem okX11_opensOne : okM 1541 sX11_opensOne = true := okM_by (by decide +kernel)
def sX11_factHere : List Nat := [5, 400, 784, 785, 786, 787, 788, 789, 790, 791, 832, 833, 834, 841, 842, 843, 844, 845, 846, 847, 848, 849, 850, 851, 852, 853, 854, 855, 896, 897, 898, 899, 900, 901, 902, 903, 904, 905, 906, 907, 908, 909, 910, 911, 912, 913, 914, 915, 916, 1103, 1153, 1163, 1164, 1165, 1166, 1167, 1168, 1169, 1170, 1171, 1172, 1173, 1217, 1218, 1219, 1220, 1221, 1549, 4416, 4417, 4418, 4419, 4420, 4421, 4422, 4423, 4424, 4425, 4426, 4427, 4428, 4429, 4430, 4431, 4432, 4433, 4434, 4435, 4436, 4437, 4438, 4439, 4440, 4441, 4442, 4443, 4444, 4445, 4446, 4447, 4448, 4449, 4450, 4451, 4452, 4453, 4454, 4455, 4456, 4457, 4458, 4459, 4460, 4461, 4462, 4463, 4464, 4465, 4466, 4467, 4468, 4469, 4470]
def wsX11_factHere : List Cond := cw 1549 :: wI sX11_factHere
theorem mbX11_factHere : ∀ i ∈ sX11_factHere, cw i ∈ wsX11_factHere := fun i h => List.mem_cons_of_mem _ (List.mem_map_of_mem h)
theorem okX11_factHere : okM 1549 sX11_factHere = true := okM_by (by decide +kernel)
def sX11_readProduct : List Nat := [5, 400, 448, 449, 784, 785, 786, 787, 788, 789, 790, 791, 832, 833, 834, 841, 842, 843, 844, 845, 846, 847, 848, 849, 850, 851, 852, 853, 854, 855, 896, 897, 898, 899, 900, 901, 902, 903, 904, 905, 906, 907, 908, 909, 910, 911, 912, 913, 914, 915, 916, 1103, 1104, 1153, 1154, 1155, 1156, 1157, 1158, 1163, 1164, 1165, 1166, 1167, 1168, 1169, 1170, 1171, 1172, 1173, 1217, 1218, 1219, 1220, 1221, 1222, 1223, 1224, 1225, 1226, 1231, 1232, 1233, 1234, 1239, 1280, 1281, 1282, 1283, 1284, 1285, 1294, 1295, 1296, 1297, 1481, 1482, 1483, 1484, 1485, 1486, 1487, 1488, 1489, 1490, 1491, 1492, 1493, 1494, 1495, 1536, 1537, 1538, 1539, 1540, 1541, 1542, 1543, 1544, 1545, 1546, 1547, 1548, 1549, 4416, 4417, 4418, 4419, 4420, 4421, 4422, 4423, 4424, 4425, 4426, 4427, 4428, 4429, 4430, 4431, 4432, 4433, 4434, 4435, 4436, 4437, 4438, 4439, 4440, 4441, 4442, 4443, 4444, 4445, 4446, 4447, 4448, 4449, 4450, 4451, 4452, 4453, 4454, 4455, 4456, 4457, 4458, 4459, 4460, 4461, 4462, 4463, 4464, 4465, 4466, 4467, 4468, 4469, 4470]
def wsX11_readProduct : List Cond := cw 1493 :: wI sX11_readProduct
theorem mbX11_readProduct : ∀ i ∈ sX11_readProduct, cw i ∈ wsX11_readProduct := fun i h => List.mem_cons_of_mem _ (List.mem_map_of_mem h)
theorem okX11_readProduct : okM 1493 sX11_readProduct = true := okM_by (by decide +kernel)
def sX11_readSum : List Nat := [5, 400, 448, 449, 784, 785, 786, 787, 788, 789, 790, 791, 832, 833, 834, 841, 842, 843, 844, 845, 846, 847, 848, 849, 850, 851, 852, 853, 854, 855, 896, 897, 898, 899, 900, 901, 902, 903, 904, 905, 906, 907, 908, 909, 910, 911, 912, 913, 914, 915, 916, 1103, 1104, 1153, 1154, 1155, 1156, 1157, 1158, 1163, 1164, 1165, 1166, 1167, 1168, 1169, 1170, 1171, 1172, 1173, 1217, 1218, 1219, 1220, 1221, 1222, 1223, 1224, 1225, 1226, 1231, 1232, 1233, 1234, 1239, 1280, 1281, 1282, 1283, 1284, 1285, 1294, 1295, 1296, 1297, 1481, 1482, 1483, 1484, 1485, 1486, 1487, 1488, 1489, 1490, 1491, 1492, 1493, 1494, 1495, 1536, 1537, 1538, 1539, 1540, 1541, 1542, 1543, 1544, 1545, 1546, 1547, 1548, 1549, 4416, 4417, 4418, 4419, 4420, 4421, 4422, 4423, 4424, 4425, 4426, 4427, 4428, 4429, 4430, 4431, 4432, 4433, 4434, 4435, 4436, 4437, 4438, 4439, 4440, 4441, 4442, 4443, 4444, 4445, 4446, 4447, 4448, 4449, 4450, 4451, 4452, 4453, 4454, 4455, 4456, 4457, 4458, 4459, 4460, 4461, 4462, 4463, 4464, 4465, 4466, 4467, 4468, 4469, 4470]
def wsX11_readSum : List Cond := cw 1485 :: wI sX11_readSum
theorem mbX11_readSum : ∀ i ∈ sX11_readSum, cw i ∈ wsX11_readSum := fun i h => List.mem_cons_of_mem _ (List.mem_map_of_mem h)
theorem okX11_readSum : okM 1485 sX11_readSum = true := okM_by (by decide +kernel)
def sX11_readTwo : List Nat := [5, 400, 448, 449, 784, 785, 786, 787, 788, 789, 790, 791, 832, 833, 834, 841, 842, 843, 844, 845, 846, 847, 848, 849, 850, 851, 852, 853, 854, 855, 896, 897, 898, 899, 900, 901, 902, 903, 904, 905, 906, 907, 908, 909, 910, 911, 912, 913, 914, 915, 916, 1103, 1104, 1153, 1154, 1155, 1156, 1157, 1158, 1163, 1164, 1165, 1166, 1167, 1168, 1169, 1170, 1171, 1172, 1173, 1217, 1218, 1219, 1220, 1221, 1222, 1223, 1224, 1225, 1226, 1231, 1232, 1233, 1234, 1239, 1280, 1281, 1282, 1283, 1284, 1285, 1294, 1295, 1296, 1297, 1481, 1482, 1483, 1484, 1485, 1486, 1487, 1488, 1489, 1490, 1491, 1492, 1493, 1494, 1495, 1536, 1537, 1538, 1539, 1540, 1541, 1542, 1543, 1544, 1545, 1546, 1547, 1548, 1549, 4416, 4417, 4418, 4419, 4420, 4421, 4422, 4423, 4424, 4425, 4426, 4427, 4428, 4429, 4430, 4431, 4432, 4433, 4434, 4435, 4436, 4437, 4438, 4439, 4440, 4441, 4442, 4443, 4444, 4445, 4446, 4447, 4448, 4449, 4450, 4451, 4452, 4453, 4454, 4455, 4456, 4457, 4458, 4459, 4460, 4461, 4462, 4463, 4464, 4465, 4466, 4467, 4468, 4469, 4470]
def wsX11_readTwo : List Cond := cw 1537 :: wI sX11_readTwo
theorem mbX11_readTwo : ∀ i ∈ sX11_readTwo, cw i ∈ wsX11_readTwo := fun i h => List.mem_cons_of_mem _ (List.mem_map_of_mem h)
theorem okX11_readTwo : okM 1537 sX11_readTwo = true := okM_by (by decide +kernel)
def sX11_readUnit : List Nat := [5, 400, 448, 449, 784, 785, 786, 787, 788, 789, 790, 791, 832, 833, 834, 841, 842, 843, 844, 845, 846, 847, 848, 849, 850, 851, 852, 853, 854, 855, 896, 897, 898, 899, 900, 901, 902, 903, 904, 905, 906, 907, 908, 909, 910, 911, 912, 913, 914, 915, 916, 1103, 1104, 1153, 1154, 1155, 1156, 1157, 1158, 1163, 1164, 1165, 1166, 1167, 1168, 1169, 1170, 1171, 1172, 1173, 1217, 1218, 1219, 1220, 1221, 1222, 1223, 1224, 1225, 1226, 1231, 1232, 1233, 1234, 1239, 1280, 1281, 1282, 1283, 1284, 1285, 1294, 1295, 1296, 1297, 1481, 1482, 1483, 1484, 1485, 1486, 1487, 1488, 1489, 1490, 1491, 1492, 1493, 1494, 1495, 1536, 1537, 1538, 1539, 1540, 1541, 1542, 1543, 1544, 1545, 1546, 1547, 1548, 1549, 4416, 4417, 4418, 4419, 4420, 4421, 4422, 4423, 4424, 4425, 4426, 4427, 4428, 4429, 4430, 4431, 4432, 4433, 4434, 4435, 4436, 4437, 4438, 4439, 4440, 4441, 4442, 4443, 4444, 4445, 4446, 4447, 4448, 4449, 4450, 4451, 4452, 4453, 4454, 4455, 4456, 4457, 4458, 4459, 4460, 4461, 4462, 4463, 4464, 4465, 4466, 4467, 4468, 4469, 4470]
def wsX11_readUnit : List Cond := cw 1542 :: wI sX11_readUnit
theorem mbX11_readUnit : ∀ i ∈ sX11_readUnit, cw i ∈ wsX11_readUnit := fun i h => List.mem_cons_of_mem _ (List.mem_map_of_mem h)
theorem okX11_readUnit : okM 1542 sX11_readUnit = true := okM_by (by decide +kernel)
def sX11_law : List Nat := [5, 398, 399, 400, 448, 449, 450, 451, 522, 527, 528, 529, 530, 589, 590, 784, 785, 786, 787, 788, 789, 790, 791, 832, 833, 834, 841, 842, 843, 844, 845, 846, 847, 848, 849, 850, 851, 852, 853, 854, 855, 896, 897, 898, 899, 900, 901, 902, 903, 904, 905, 906, 907, 908, 909, 910, 911, 912, 913, 914, 915, 916, 1103, 1104, 1105, 1106, 1107, 1108, 1109, 1110, 1111, 1152, 1153, 1154, 1155, 1156, 1157, 1158, 1159, 1160, 1161, 1162, 1163, 1164, 1165, 1166, 1167, 1168, 1169, 1170, 1171, 1172, 1173, 1217, 1218, 1219, 1220, 1221, 1222, 1223, 1224, 1225, 1226, 1231, 1232, 1233, 1234, 1239, 1280, 1281, 1282, 1283, 1284, 1285, 1294, 1295, 1296, 1297, 1298, 1299, 1300, 1301, 1480, 1481, 1482, 1483, 1484, 1485, 1486, 1487, 1488, 1489, 1490, 1491, 1492, 1493, 1494, 1495, 1536, 1537, 1538, 1539, 1540, 1541, 1542, 1543, 1544, 1545, 1546, 1547, 1548, 1549, 4416, 4417, 4418, 4419, 4420, 4421, 4422, 4423, 4424, 4425, 4426, 4427, 4428, 4429, 4430, 4431, 4432, 4433, 4434, 4435, 4436, 4437, 4438, 4439, 4440, 4441, 4442, 4443, 4444, 4445, 4446, 4447, 4448, 4449, 4450, 4451, 4452, 4453, 4454, 4455, 4456, 4457, 4458, 4459, 4460, 4461, 4462, 4463, 4464, 4465, 4466, 4467, 4468, 4469, 4470]
def wsX11_law : List Cond := cw 1480 :: wI sX11_law
theorem mbX11_law : ∀ i ∈ sX11_law, cw i ∈ wsX11_law := fun i h => List.mem_cons_of_mem _ (List.mem_map_of_mem h)
def sX11_both : List Nat := [2314]
def wsX11_both : List Cond := cw 2314 :: wI sX11_both
theorem okX11_both : okM 2314 sX11_both = true := okM_by (by decide +kernel)
def sX11_valueNow : List Nat := [5, 450, 451, 452, 453, 522, 2311, 2312, 2313, 2314, 4416, 4417, 4418, 4419, 4420, 4421, 4422, 4423, 4424, 4425, 4426, 4427, 4428, 4429, 4430, 4431, 4432, 4433, 4434, 4435, 4436, 4437, 4438, 4439, 4440, 4441, 4442, 4443, 4444, 4445, 4446, 4447, 4448, 4449, 4450, 4451, 4452, 4453, 4454, 4455, 4456, 4457, 4458, 4459, 4460, 4461, 4462, 4463, 4464, 4465, 4466, 4467, 4468, 4469, 4470]
def wsX11_valueNow : List Cond := cw 2311 :: wI sX11_valueNow
theorem mbX11_valueNow : ∀ i ∈ sX11_valueNow, cw i ∈ wsX11_valueNow := fun i h => List.mem_cons_of_mem _ (List.mem_map_of_mem h)
theorem okX11_valueNow : okM 2311 sX11_valueNow = true := okM_by (by decide +kernel)
def sX11_leapNow : List Nat := [5, 450, 451, 452, 453, 522, 2307, 2308, 2309, 2310, 2311, 2312, 2313, 2314, 4416, 4417, 4418, 4419, 4420, 4421, 4422, 4423, 4424, 4425, 4426, 4427, 4428, 4429, 4430, 4431, 4432, 4433, 4434, 4435, 4436, 4437, 4438, 4439, 4440, 4441, 4442, 4443, 4444, 4445, 4446, 4447, 4448, 4449, 4450, 4451, 4452, 4453, 4454, 4455, 4456, 4457, 4458, 4459, 4460, 4461, 4462, 4463, 4464, 4465, 4466, 4467, 4468, 4469, 4470]
def wsX11_leapNow : List Cond := cw 2307 :: wI sX11_leapNow
theorem mbX11_leapNow : ∀ i ∈ sX11_leapNow, cw i ∈ wsX11_leapNow := fun i h => List.mem_cons_of_mem _ (List.mem_map_of_mem h)
theorem okX11_leapNow : okM 2307 sX11_leapNow = true := okM_by (by decide +kernel)
def sX11_tellsStep : List Nat := [5, 454, 1104, 1155, 1156, 1157, 1158, 2114, 2125, 4416, 4417, 4418, 4419, 4420, 4421, 4422, 4423, 4424, 4425, 4426, 4427, 4428, 4429, 4430, 4431, 4432, 4433, 4434, 4435, 4436, 4437, 4438, 4439, 4440, 4441, 4442, 4443, 4444, 4445, 4446, 4447, 4448, 4449, 4450, 4451, 4452, 4453, 4454, 4455, 4456, 4457, 4458, 4459, 4460, 4461, 4462, 4463, 4464, 4465, 4466, 4467, 4468, 4469, 4470]
def wsX11_tellsStep : List Cond := cw 2125 :: wI sX11_tellsStep
theorem mbX11_tellsStep : ∀ i ∈ sX11_tellsStep, cw i ∈ wsX11_tellsStep := fun i h => List.mem_cons_of_mem _ (List.mem_map_of_mem h)
theorem okX11_tellsStep : okM 2125 sX11_tellsStep = true := okM_by (by decide +kernel)
def sX11_readLiving : List Nat := [5, 400, 520, 1103, 1104, 1153, 1155, 1156, 1157, 1158, 1163, 1164, 1165, 1166, 1222, 1223, 1224, 1225, 1226, 1239, 1280, 1281, 1282, 1283, 1284, 1285, 2129, 4416, 4417, 4418, 4419, 4420, 4421, 4422, 4423, 4424, 4425, 4426, 4427, 4428, 4429, 4430, 4431, 4432, 4433, 4434, 4435, 4436, 4437, 4438, 4439, 4440, 4441, 4442, 4443, 4444, 4445, 4446, 4447, 4448, 4449, 4450, 4451, 4452, 4453, 4454, 4455, 4456, 4457, 4458, 4459, 4460, 4461, 4462, 4463, 4464, 4465, 4466, 4467, 4468, 4469, 4470]
def wsX11_readLiving : List Cond := cw 2129 :: wI sX11_readLiving
theorem mbX11_readLiving : ∀ i ∈ sX11_readLiving, cw i ∈ wsX11_readLiving := fun i h => List.mem_cons_of_mem _ (List.mem_map_of_mem h)
theorem okX11_readLiving : okM 2129 sX11_readLiving = true := okM_by (by decide +kernel)
def sX11_readStep : List Nat := [5, 400, 454, 519, 520, 784, 785, 786, 787, 788, 789, 790, 791, 832, 833, 834, 841, 842, 843, 844, 845, 846, 847, 848, 849, 850, 851, 852, 853, 854, 855, 896, 897, 898, 899, 900, 901, 902, 903, 904, 905, 906, 907, 908, 909, 910, 911, 912, 913, 914, 915, 916, 1103, 1104, 1153, 1154, 1155, 1156, 1157, 1158, 1163, 1164, 1165, 1166, 1167, 1168, 1169, 1170, 1171, 1172, 1173, 1217, 1218, 1219, 1220, 1221, 1222, 1223, 1224, 1225, 1226, 1231, 1232, 1233, 1234, 1239, 1280, 1281, 1282, 1283, 1284, 1285, 1294, 1295, 1296, 1297, 1538, 1539, 1540, 1541, 2114, 2118, 2119, 2120, 2121, 2122, 2123, 2124, 2125, 2126, 2127, 2128, 2129, 4416, 4417, 4418, 4419, 4420, 4421, 4422, 4423, 4424, 4425, 4426, 4427, 4428, 4429, 4430, 4431, 4432, 4433, 4434, 4435, 4436, 4437, 4438, 4439, 4440, 4441, 4442, 4443, 4444, 4445, 4446, 4447, 4448, 4449, 4450, 4451, 4452, 4453, 4454, 4455, 4456, 4457, 4458, 4459, 4460, 4461, 4462, 4463, 4464, 4465, 4466, 4467, 4468, 4469, 4470]
def wsX11_readStep : List Cond := cw 2121 :: wI sX11_readStep
theorem mbX11_readStep : ∀ i ∈ sX11_readStep, cw i ∈ wsX11_readStep := fun i h => List.mem_cons_of_mem _ (List.mem_map_of_mem h)
theorem okX11_readStep : okM 2121 sX11_readStep = true := okM_by (by decide +kernel)
def sX11_take : List Nat := [5, 456, 457, 527, 528, 529, 530, 2133, 4416, 4417, 4418, 4419, 4420, 4421, 4422, 4423, 4424, 4425, 4426, 4427, 4428, 4429, 4430, 4431, 4432, 4433, 4434, 4435, 4436, 4437, 4438, 4439, 4440, 4441, 4442, 4443, 4444, 4445, 4446, 4447, 4448, 4449, 4450, 4451, 4452, 4453, 4454, 4455, 4456, 4457, 4458, 4459, 4460, 4461, 4462, 4463, 4464, 4465, 4466, 4467, 4468, 4469, 4470]
def wsX11_take : List Cond := cw 2133 :: wI sX11_take
theorem mbX11_take : ∀ i ∈ sX11_take, cw i ∈ wsX11_take := fun i h => List.mem_cons_of_mem _ (List.mem_map_of_mem h)
theorem okX11_take : okM 2133 sX11_take = true := okM_by (by decide +kernel)
def sX11_isCaught : List Nat := [457, 2193, 4416, 4417, 4418, 4419, 4420, 4421, 4422, 4423, 4424, 4425, 4426, 4427, 4428, 4429, 4430, 4431, 4432, 4433, 4434, 4435, 4436, 4437, 4438, 4439, 4440, 4441, 4442, 4443, 4444, 4445, 4446, 4447, 4448, 4449, 4450, 4451, 4452, 4453, 4454, 4455, 4456, 4457, 4458, 4459, 4460, 4461, 4462, 4463, 4464, 4465, 4466, 4467, 4468, 4469, 4470]
def wsX11_isCaught : List Cond := cw 2193 :: wI sX11_isCaught
theorem mbX11_isCaught : ∀ i ∈ sX11_isCaught, cw i ∈ wsX11_isCaught := fun i h => List.mem_cons_of_mem _ (List.mem_map_of_mem h)
theorem okX11_isCaught : okM 2193 sX11_isCaught = true := okM_by (by decide +kernel)
def sX11_size : List Nat := [2240]
def wsX11_size : List Cond := cw 2240 :: wI sX11_size
theorem okX11_size : okM 2240 sX11_size = true := okM_by (by decide +kernel)
def sX11_farOf : List Nat := [5, 405, 2197, 2198, 2199, 2240, 4416, 4417, 4418, 4419, 4420, 4421, 4422, 4423, 4424, 4425, 4426, 4427, 4428, 4429, 4430, 4431, 4432, 4433, 4434, 4435, 4436, 4437, 4438, 4439, 4440, 4441, 4442, 4443, 4444, 4445, 4446, 4447, 4448, 4449, 4450, 4451, 4452, 4453, 4454, 4455, 4456, 4457, 4458, 4459, 4460, 4461, 4462, 4463, 4464, 4465, 4466, 4467, 4468, 4469, 4470]
def wsX11_farOf : List Cond := cw 2197 :: wI sX11_farOf
theorem mbX11_farOf : ∀ i ∈ sX11_farOf, cw i ∈ wsX11_farOf := fun i h => List.mem_cons_of_mem _ (List.mem_map_of_mem h)
theorem okX11_farOf : okM 2197 sX11_farOf = true := okM_by (by decide +kernel)
def sX11_owes : List Nat := [457, 520, 2248, 4416, 4417, 4418, 4419, 4420, 4421, 4422, 4423, 4424, 4425, 4426, 4427, 4428, 4429, 4430, 4431, 4432, 4433, 4434, 4435, 4436, 4437, 4438, 4439, 4440, 4441, 4442, 4443, 4444, 4445, 4446, 4447, 4448, 4449, 4450, 4451, 4452, 4453, 4454, 4455, 4456, 4457, 4458, 4459, 4460, 4461, 4462, 4463, 4464, 4465, 4466, 4467, 4468, 4469, 4470]
def wsX11_owes : List Cond := cw 2248 :: wI sX11_owes
theorem mbX11_owes : ∀ i ∈ sX11_owes, cw i ∈ wsX11_owes := fun i h => List.mem_cons_of_mem _ (List.mem_map_of_mem h)
theorem okX11_owes : okM 2248 sX11_owes = true := okM_by (by decide +kernel)
def sX11_isOwed : List Nat := [457, 520, 2252, 4416, 4417, 4418, 4419, 4420, 4421, 4422, 4423, 4424, 4425, 4426, 4427, 4428, 4429, 4430, 4431, 4432, 4433, 4434, 4435, 4436, 4437, 4438, 4439, 4440, 4441, 4442, 4443, 4444, 4445, 4446, 4447, 4448, 4449, 4450, 4451, 4452, 4453, 4454, 4455, 4456, 4457, 4458, 4459, 4460, 4461, 4462, 4463, 4464, 4465, 4466, 4467, 4468, 4469, 4470]
def wsX11_isOwed : List Cond := cw 2252 :: wI sX11_isOwed
theorem mbX11_isOwed : ∀ i ∈ sX11_isOwed, cw i ∈ wsX11_isOwed := fun i h => List.mem_cons_of_mem _ (List.mem_map_of_mem h)
theorem okX11_isOwed : okM 2252 sX11_isOwed = true := okM_by (by decide +kernel)
def sX11_sitIn : List Nat := [457, 520, 2256, 4416, 4417, 4418, 4419, 4420, 4421, 4422, 4423, 4424, 4425, 4426, 4427, 4428, 4429, 4430, 4431, 4432, 4433, 4434, 4435, 4436, 4437, 4438, 4439, 4440, 4441, 4442, 4443, 4444, 4445, 4446, 4447, 4448, 4449, 4450, 4451, 4452, 4453, 4454, 4455, 4456, 4457, 4458, 4459, 4460, 4461, 4462, 4463, 4464, 4465, 4466, 4467, 4468, 4469, 4470]
def wsX11_sitIn : List Cond := cw 2256 :: wI sX11_sitIn
theorem mbX11_sitIn : ∀ i ∈ sX11_sitIn, cw i ∈ wsX11_sitIn := fun i h => List.mem_cons_of_mem _ (List.mem_map_of_mem h)
theorem okX11_sitIn : okM 2256 sX11_sitIn = true := okM_by (by decide +kernel)
def sX11_ones : List Nat := [2259]
def wsX11_ones : List Cond := cw 2259 :: wI sX11_ones
theorem okX11_ones : okM 2259 sX11_ones = true := okM_by (by decide +kernel)
def sX11_leapOf : List Nat := [5, 450, 451, 452, 453, 522, 2263, 2304, 2305, 2306, 2307, 2308, 2309, 2310, 2311, 2312, 2313, 2314, 4416, 4417, 4418, 4419, 4420, 4421, 4422, 4423, 4424, 4425, 4426, 4427, 4428, 4429, 4430, 4431, 4432, 4433, 4434, 4435, 4436, 4437, 4438, 4439, 4440, 4441, 4442, 4443, 4444, 4445, 4446, 4447, 4448, 4449, 4450, 4451, 4452, 4453, 4454, 4455, 4456, 4457, 4458, 4459, 4460, 4461, 4462, 4463, 4464, 4465, 4466, 4467, 4468, 4469, 4470]
def wsX11_leapOf : List Cond := cw 2263 :: wI sX11_leapOf
theorem mbX11_leapOf : ∀ i ∈ sX11_leapOf, cw i ∈ wsX11_leapOf := fun i h => List.mem_cons_of_mem _ (List.mem_map_of_mem h)
theorem okX11_leapOf : okM 2263 sX11_leapOf = true := okM_by (by decide +kernel)
def sX11_leapBy : List Nat := [5, 450, 451, 452, 453, 457, 520, 522, 2190, 2191, 2192, 2193, 2244, 2245, 2246, 2247, 2248, 2249, 2250, 2251, 2252, 2253, 2254, 2255, 2256, 2257, 2258, 2259, 2260, 2261, 2262, 2263, 2304, 2305, 2306, 2307, 2308, 2309, 2310, 2311, 2312, 2313, 2314, 4416, 4417, 4418, 4419, 4420, 4421, 4422, 4423, 4424, 4425, 4426, 4427, 4428, 4429, 4430, 4431, 4432, 4433, 4434, 4435, 4436, 4437, 4438, 4439, 4440, 4441, 4442, 4443, 4444, 4445, 4446, 4447, 4448, 4449, 4450, 4451, 4452, 4453, 4454, 4455, 4456, 4457, 4458, 4459, 4460, 4461, 4462, 4463, 4464, 4465, 4466, 4467, 4468, 4469, 4470]
def wsX11_leapBy : List Cond := cw 2244 :: wI sX11_leapBy
theorem mbX11_leapBy : ∀ i ∈ sX11_leapBy, cw i ∈ wsX11_leapBy := fun i h => List.mem_cons_of_mem _ (List.mem_map_of_mem h)
theorem okX11_leapBy : okM 2244 sX11_leapBy = true := okM_by (by decide +kernel)
def sX11_canLeap : List Nat := [5, 405, 450, 451, 452, 453, 457, 520, 522, 2189, 2190, 2191, 2192, 2193, 2194, 2195, 2196, 2197, 2198, 2199, 2240, 2241, 2242, 2243, 2244, 2245, 2246, 2247, 2248, 2249, 2250, 2251, 2252, 2253, 2254, 2255, 2256, 2257, 2258, 2259, 2260, 2261, 2262, 2263, 2304, 2305, 2306, 2307, 2308, 2309, 2310, 2311, 2312, 2313, 2314, 4416, 4417, 4418, 4419, 4420, 4421, 4422, 4423, 4424, 4425, 4426, 4427, 4428, 4429, 4430, 4431, 4432, 4433, 4434, 4435, 4436, 4437, 4438, 4439, 4440, 4441, 4442, 4443, 4444, 4445, 4446, 4447, 4448, 4449, 4450, 4451, 4452, 4453, 4454, 4455, 4456, 4457, 4458, 4459, 4460, 4461, 4462, 4463, 4464, 4465, 4466, 4467, 4468, 4469, 4470]
def wsX11_canLeap : List Cond := cw 2189 :: wI sX11_canLeap
theorem mbX11_canLeap : ∀ i ∈ sX11_canLeap, cw i ∈ wsX11_canLeap := fun i h => List.mem_cons_of_mem _ (List.mem_map_of_mem h)
theorem okX11_canLeap : okM 2189 sX11_canLeap = true := okM_by (by decide +kernel)
def sX11_leapsTo : List Nat := [5, 405, 450, 451, 452, 453, 457, 520, 522, 2185, 2186, 2187, 2188, 2189, 2190, 2191, 2192, 2193, 2194, 2195, 2196, 2197, 2198, 2199, 2240, 2241, 2242, 2243, 2244, 2245, 2246, 2247, 2248, 2249, 2250, 2251, 2252, 2253, 2254, 2255, 2256, 2257, 2258, 2259, 2260, 2261, 2262, 2263, 2304, 2305, 2306, 2307, 2308, 2309, 2310, 2311, 2312, 2313, 2314, 4416, 4417, 4418, 4419, 4420, 4421, 4422, 4423, 4424, 4425, 4426, 4427, 4428, 4429, 4430, 4431, 4432, 4433, 4434, 4435, 4436, 4437, 4438, 4439, 4440, 4441, 4442, 4443, 4444, 4445, 4446, 4447, 4448, 4449, 4450, 4451, 4452, 4453, 4454, 4455, 4456, 4457, 4458, 4459, 4460, 4461, 4462, 4463, 4464, 4465, 4466, 4467, 4468, 4469, 4470]
def wsX11_leapsTo : List Cond := cw 2185 :: wI sX11_leapsTo
theorem mbX11_leapsTo : ∀ i ∈ sX11_leapsTo, cw i ∈ wsX11_leapsTo := fun i h => List.mem_cons_of_mem _ (List.mem_map_of_mem h)
theorem okX11_leapsTo : okM 2185 sX11_leapsTo = true := okM_by (by decide +kernel)
def sX11_boxes : List Nat := [5, 457, 2190, 2191, 2192, 2193, 2318, 4416, 4417, 4418, 4419, 4420, 4421, 4422, 4423, 4424, 4425, 4426, 4427, 4428, 4429, 4430, 4431, 4432, 4433, 4434, 4435, 4436, 4437, 4438, 4439, 4440, 4441, 4442, 4443, 4444, 4445, 4446, 4447, 4448, 4449, 4450, 4451, 4452, 4453, 4454, 4455, 4456, 4457, 4458, 4459, 4460, 4461, 4462, 4463, 4464, 4465, 4466, 4467, 4468, 4469, 4470]
def wsX11_boxes : List Cond := cw 2318 :: wI sX11_boxes
theorem mbX11_boxes : ∀ i ∈ sX11_boxes, cw i ∈ wsX11_boxes := fun i h => List.mem_cons_of_mem _ (List.mem_map_of_mem h)
theorem okX11_boxes : okM 2318 sX11_boxes = true := okM_by (by decide +kernel)
def sX11_pays : List Nat := [5, 457, 2190, 2191, 2192, 2193, 2322, 4416, 4417, 4418, 4419, 4420, 4421, 4422, 4423, 4424, 4425, 4426, 4427, 4428, 4429, 4430, 4431, 4432, 4433, 4434, 4435, 4436, 4437, 4438, 4439, 4440, 4441, 4442, 4443, 4444, 4445, 4446, 4447, 4448, 4449, 4450, 4451, 4452, 4453, 4454, 4455, 4456, 4457, 4458, 4459, 4460, 4461, 4462, 4463, 4464, 4465, 4466, 4467, 4468, 4469, 4470]
def wsX11_pays : List Cond := cw 2322 :: wI sX11_pays
theorem mbX11_pays : ∀ i ∈ sX11_pays, cw i ∈ wsX11_pays := fun i h => List.mem_cons_of_mem _ (List.mem_map_of_mem h)
theorem okX11_pays : okM 2322 sX11_pays = true := okM_by (by decide +kernel)
def sX11_isSafe : List Nat := [5, 405, 407, 521, 2198, 2199, 2240, 2378, 4416, 4417, 4418, 4419, 4420, 4421, 4422, 4423, 4424, 4425, 4426, 4427, 4428, 4429, 4430, 4431, 4432, 4433, 4434, 4435, 4436, 4437, 4438, 4439, 4440, 4441, 4442, 4443, 4444, 4445, 4446, 4447, 4448, 4449, 4450, 4451, 4452, 4453, 4454, 4455, 4456, 4457, 4458, 4459, 4460, 4461, 4462, 4463, 4464, 4465, 4466, 4467, 4468, 4469, 4470]
def wsX11_isSafe : List Cond := cw 2378 :: wI sX11_isSafe
theorem mbX11_isSafe : ∀ i ∈ sX11_isSafe, cw i ∈ wsX11_isSafe := fun i h => List.mem_cons_of_mem _ (List.mem_map_of_mem h)
theorem okX11_isSafe : okM 2378 sX11_isSafe = true := okM_by (by decide +kernel)
def sX11_wouldBeCaught : List Nat := [5, 405, 407, 457, 521, 2190, 2191, 2192, 2193, 2198, 2199, 2240, 2374, 2375, 2376, 2377, 2378, 4416, 4417, 4418, 4419, 4420, 4421, 4422, 4423, 4424, 4425, 4426, 4427, 4428, 4429, 4430, 4431, 4432, 4433, 4434, 4435, 4436, 4437, 4438, 4439, 4440, 4441, 4442, 4443, 4444, 4445, 4446, 4447, 4448, 4449, 4450, 4451, 4452, 4453, 4454, 4455, 4456, 4457, 4458, 4459, 4460, 4461, 4462, 4463, 4464, 4465, 4466, 4467, 4468, 4469, 4470]
def wsX11_wouldBeCaught : List Cond := cw 2374 :: wI sX11_wouldBeCaught
theorem mbX11_wouldBeCaught : ∀ i ∈ sX11_wouldBeCaught, cw i ∈ wsX11_wouldBeCaught := fun i h => List.mem_cons_of_mem _ (List.mem_map_of_mem h)
theorem okX11_wouldBeCaught : okM 2374 sX11_wouldBeCaught = true := okM_by (by decide +kernel)
def sX11_strokes : List Nat := [5, 405, 406, 407, 457, 520, 521, 2190, 2191, 2192, 2193, 2198, 2199, 2240, 2370, 2371, 2372, 2373, 2374, 2375, 2376, 2377, 2378, 4416, 4417, 4418, 4419, 4420, 4421, 4422, 4423, 4424, 4425, 4426, 4427, 4428, 4429, 4430, 4431, 4432, 4433, 4434, 4435, 4436, 4437, 4438, 4439, 4440, 4441, 4442, 4443, 4444, 4445, 4446, 4447, 4448, 4449, 4450, 4451, 4452, 4453, 4454, 4455, 4456, 4457, 4458, 4459, 4460, 4461, 4462, 4463, 4464, 4465, 4466, 4467, 4468, 4469, 4470]
def wsX11_strokes : List Cond := cw 2370 :: wI sX11_strokes
theorem mbX11_strokes : ∀ i ∈ sX11_strokes, cw i ∈ wsX11_strokes := fun i h => List.mem_cons_of_mem _ (List.mem_map_of_mem h)
theorem okX11_strokes : okM 2370 sX11_strokes = true := okM_by (by decide +kernel)
def sX11_passes : List Nat := [5, 405, 406, 407, 457, 520, 521, 2190, 2191, 2192, 2193, 2198, 2199, 2240, 2326, 2327, 2368, 2369, 2370, 2371, 2372, 2373, 2374, 2375, 2376, 2377, 2378, 4416, 4417, 4418, 4419, 4420, 4421, 4422, 4423, 4424, 4425, 4426, 4427, 4428, 4429, 4430, 4431, 4432, 4433, 4434, 4435, 4436, 4437, 4438, 4439, 4440, 4441, 4442, 4443, 4444, 4445, 4446, 4447, 4448, 4449, 4450, 4451, 4452, 4453, 4454, 4455, 4456, 4457, 4458, 4459, 4460, 4461, 4462, 4463, 4464, 4465, 4466, 4467, 4468, 4469, 4470]
def wsX11_passes : List Cond := cw 2326 :: wI sX11_passes
theorem mbX11_passes : ∀ i ∈ sX11_passes, cw i ∈ wsX11_passes := fun i h => List.mem_cons_of_mem _ (List.mem_map_of_mem h)
theorem okX11_passes : okM 2326 sX11_passes = true := okM_by (by decide +kernel)
def sX11_isDone : List Nat := [5, 405, 406, 407, 450, 451, 452, 453, 457, 520, 521, 522, 2181, 2182, 2183, 2184, 2185, 2186, 2187, 2188, 2189, 2190, 2191, 2192, 2193, 2194, 2195, 2196, 2197, 2198, 2199, 2240, 2241, 2242, 2243, 2244, 2245, 2246, 2247, 2248, 2249, 2250, 2251, 2252, 2253, 2254, 2255, 2256, 2257, 2258, 2259, 2260, 2261, 2262, 2263, 2304, 2305, 2306, 2307, 2308, 2309, 2310, 2311, 2312, 2313, 2314, 2315, 2316, 2317, 2318, 2319, 2320, 2321, 2322, 2323, 2324, 2325, 2326, 2327, 2368, 2369, 2370, 2371, 2372, 2373, 2374, 2375, 2376, 2377, 2378, 4416, 4417, 4418, 4419, 4420, 4421, 4422, 4423, 4424, 4425, 4426, 4427, 4428, 4429, 4430, 4431, 4432, 4433, 4434, 4435, 4436, 4437, 4438, 4439, 4440, 4441, 4442, 4443, 4444, 4445, 4446, 4447, 4448, 4449, 4450, 4451, 4452, 4453, 4454, 4455, 4456, 4457, 4458, 4459, 4460, 4461, 4462, 4463, 4464, 4465, 4466, 4467, 4468, 4469, 4470]
def wsX11_isDone : List Cond := cw 2181 :: wI sX11_isDone
theorem mbX11_isDone : ∀ i ∈ sX11_isDone, cw i ∈ wsX11_isDone := fun i h => List.mem_cons_of_mem _ (List.mem_map_of_mem h)
theorem okX11_isDone : okM 2181 sX11_isDone = true := okM_by (by decide +kernel)
def sX11_goesSteps : List Nat := [5, 405, 406, 407, 450, 451, 452, 453, 455, 457, 520, 521, 522, 2115, 2116, 2117, 2134, 2135, 2176, 2177, 2178, 2179, 2180, 2181, 2182, 2183, 2184, 2185, 2186, 2187, 2188, 2189, 2190, 2191, 2192, 2193, 2194, 2195, 2196, 2197, 2198, 2199, 2240, 2241, 2242, 2243, 2244, 2245, 2246, 2247, 2248, 2249, 2250, 2251, 2252, 2253, 2254, 2255, 2256, 2257, 2258, 2259, 2260, 2261, 2262, 2263, 2304, 2305, 2306, 2307, 2308, 2309, 2310, 2311, 2312, 2313, 2314, 2315, 2316, 2317, 2318, 2319, 2320, 2321, 2322, 2323, 2324, 2325, 2326, 2327, 2368, 2369, 2370, 2371, 2372, 2373, 2374, 2375, 2376, 2377, 2378, 4416, 4417, 4418, 4419, 4420, 4421, 4422, 4423, 4424, 4425, 4426, 4427, 4428, 4429, 4430, 4431, 4432, 4433, 4434, 4435, 4436, 4437, 4438, 4439, 4440, 4441, 4442, 4443, 4444, 4445, 4446, 4447, 4448, 4449, 4450, 4451, 4452, 4453, 4454, 4455, 4456, 4457, 4458, 4459, 4460, 4461, 4462, 4463, 4464, 4465, 4466, 4467, 4468, 4469, 4470]
def wsX11_goesSteps : List Cond := cw 2177 :: wI sX11_goesSteps
theorem mbX11_goesSteps : ∀ i ∈ sX11_goesSteps, cw i ∈ wsX11_goesSteps := fun i h => List.mem_cons_of_mem _ (List.mem_map_of_mem h)
theorem okX11_goesSteps : okM 2177 sX11_goesSteps = true := okM_by (by decide +kernel)
def sX11_work : List Nat := [5, 398, 399, 400, 405, 406, 407, 450, 451, 452, 453, 454, 455, 456, 457, 458, 519, 520, 521, 522, 524, 526, 527, 528, 529, 530, 589, 590, 784, 785, 786, 787, 788, 789, 790, 791, 832, 833, 834, 841, 842, 843, 844, 845, 846, 847, 848, 849, 850, 851, 852, 853, 854, 855, 896, 897, 898, 899, 900, 901, 902, 903, 904, 905, 906, 907, 908, 909, 910, 911, 912, 913, 914, 915, 916, 1103, 1104, 1105, 1106, 1107, 1108, 1109, 1110, 1111, 1152, 1153, 1154, 1155, 1156, 1157, 1158, 1159, 1160, 1161, 1162, 1163, 1164, 1165, 1166, 1167, 1168, 1169, 1170, 1171, 1172, 1173, 1217, 1218, 1219, 1220, 1221, 1222, 1223, 1224, 1225, 1226, 1231, 1232, 1233, 1234, 1239, 1280, 1281, 1282, 1283, 1284, 1285, 1294, 1295, 1296, 1297, 1298, 1299, 1300, 1301, 1538, 1539, 1540, 1541, 2113, 2114, 2115, 2116, 2117, 2118, 2119, 2120, 2121, 2122, 2123, 2124, 2125, 2126, 2127, 2128, 2129, 2130, 2131, 2132, 2133, 2134, 2135, 2176, 2177, 2178, 2179, 2180, 2181, 2182, 2183, 2184, 2185, 2186, 2187, 2188, 2189, 2190, 2191, 2192, 2193, 2194, 2195, 2196, 2197, 2198, 2199, 2240, 2241, 2242, 2243, 2244, 2245, 2246, 2247, 2248, 2249, 2250, 2251, 2252, 2253, 2254, 2255, 2256, 2257, 2258, 2259, 2260, 2261, 2262, 2263, 2304, 2305, 2306, 2307, 2308, 2309, 2310, 2311, 2312, 2313, 2314, 2315, 2316, 2317, 2318, 2319, 2320, 2321, 2322, 2323, 2324, 2325, 2326, 2327, 2368, 2369, 2370, 2371, 2372, 2373, 2374, 2375, 2376, 2377, 2378, 4416, 4417, 4418, 4419, 4420, 4421, 4422, 4423, 4424, 4425, 4426, 4427, 4428, 4429, 4430, 4431, 4432, 4433, 4434, 4435, 4436, 4437, 4438, 4439, 4440, 4441, 4442, 4443, 4444, 4445, 4446, 4447, 4448, 4449, 4450, 4451, 4452, 4453, 4454, 4455, 4456, 4457, 4458, 4459, 4460, 4461, 4462, 4463, 4464, 4465, 4466, 4467, 4468, 4469, 4470]
def wsX11_work : List Cond := cw 2113 :: wI sX11_work
theorem mbX11_work : ∀ i ∈ sX11_work, cw i ∈ wsX11_work := fun i h => List.mem_cons_of_mem _ (List.mem_map_of_mem h)
def sX11_book : List Nat := [5, 398, 399, 400, 459, 460, 519, 523, 527, 528, 529, 530, 589, 590, 1103, 1104, 1105, 1106, 1107, 1108, 1109, 1110, 1111, 1152, 1153, 1154, 1155, 1156, 1157, 1158, 1159, 1160, 1161, 1162, 1163, 1164, 1165, 1166, 1222, 1223, 1224, 1225, 1226, 1239, 1280, 1281, 1282, 1283, 1284, 1285, 1294, 1295, 1296, 1297, 1298, 1299, 1300, 1301, 2447, 4416, 4417, 4418, 4419, 4420, 4421, 4422, 4423, 4424, 4425, 4426, 4427, 4428, 4429, 4430, 4431, 4432, 4433, 4434, 4435, 4436, 4437, 4438, 4439, 4440, 4441, 4442, 4443, 4444, 4445, 4446, 4447, 4448, 4449, 4450, 4451, 4452, 4453, 4454, 4455, 4456, 4457, 4458, 4459, 4460, 4461, 4462, 4463, 4464, 4465, 4466, 4467, 4468, 4469, 4470]
def wsX11_book : List Cond := cw 2447 :: wI sX11_book
theorem mbX11_book : ∀ i ∈ sX11_book, cw i ∈ wsX11_book := fun i h => List.mem_cons_of_mem _ (List.mem_map_of_mem h)
def sX11_undo : List Nat := [456, 458, 524, 526, 589, 2508, 4416, 4417, 4418, 4419, 4420, 4421, 4422, 4423, 4424, 4425, 4426, 4427, 4428, 4429, 4430, 4431, 4432, 4433, 4434, 4435, 4436, 4437, 4438, 4439, 4440, 4441, 4442, 4443, 4444, 4445, 4446, 4447, 4448, 4449, 4450, 4451, 4452, 4453, 4454, 4455, 4456, 4457, 4458, 4459, 4460, 4461, 4462, 4463, 4464, 4465, 4466, 4467, 4468, 4469, 4470]
def wsX11_undo : List Cond := cw 2508 :: wI sX11_undo
theorem mbX11_undo : ∀ i ∈ sX11_undo, cw i ∈ wsX11_undo := fun i h => List.mem_cons_of_mem _ (List.mem_map_of_mem h)
def sX11_caughtNow : List Nat := [5, 457, 520, 2190, 2191, 2192, 2193, 2627, 4416, 4417, 4418, 4419, 4420, 4421, 4422, 4423, 4424, 4425, 4426, 4427, 4428, 4429, 4430, 4431, 4432, 4433, 4434, 4435, 4436, 4437, 4438, 4439, 4440, 4441, 4442, 4443, 4444, 4445, 4446, 4447, 4448, 4449, 4450, 4451, 4452, 4453, 4454, 4455, 4456, 4457, 4458, 4459, 4460, 4461, 4462, 4463, 4464, 4465, 4466, 4467, 4468, 4469, 4470]
def wsX11_caughtNow : List Cond := cw 2627 :: wI sX11_caughtNow
theorem mbX11_caughtNow : ∀ i ∈ sX11_caughtNow, cw i ∈ wsX11_caughtNow := fun i h => List.mem_cons_of_mem _ (List.mem_map_of_mem h)
theorem okX11_caughtNow : okM 2627 sX11_caughtNow = true := okM_by (by decide +kernel)
def sX11_debtsNow : List Nat := [457, 2635, 4416, 4417, 4418, 4419, 4420, 4421, 4422, 4423, 4424, 4425, 4426, 4427, 4428, 4429, 4430, 4431, 4432, 4433, 4434, 4435, 4436, 4437, 4438, 4439, 4440, 4441, 4442, 4443, 4444, 4445, 4446, 4447, 4448, 4449, 4450, 4451, 4452, 4453, 4454, 4455, 4456, 4457, 4458, 4459, 4460, 4461, 4462, 4463, 4464, 4465, 4466, 4467, 4468, 4469, 4470]
def wsX11_debtsNow : List Cond := cw 2635 :: wI sX11_debtsNow
theorem mbX11_debtsNow : ∀ i ∈ sX11_debtsNow, cw i ∈ wsX11_debtsNow := fun i h => List.mem_cons_of_mem _ (List.mem_map_of_mem h)
theorem okX11_debtsNow : okM 2635 sX11_debtsNow = true := okM_by (by decide +kernel)
def sX11_bitsTold : List Nat := [5, 405, 407, 457, 520, 521, 2190, 2191, 2192, 2193, 2198, 2199, 2240, 2371, 2372, 2373, 2374, 2375, 2376, 2377, 2378, 2583, 4416, 4417, 4418, 4419, 4420, 4421, 4422, 4423, 4424, 4425, 4426, 4427, 4428, 4429, 4430, 4431, 4432, 4433, 4434, 4435, 4436, 4437, 4438, 4439, 4440, 4441, 4442, 4443, 4444, 4445, 4446, 4447, 4448, 4449, 4450, 4451, 4452, 4453, 4454, 4455, 4456, 4457, 4458, 4459, 4460, 4461, 4462, 4463, 4464, 4465, 4466, 4467, 4468, 4469, 4470]
def wsX11_bitsTold : List Cond := cw 2583 :: wI sX11_bitsTold
theorem mbX11_bitsTold : ∀ i ∈ sX11_bitsTold, cw i ∈ wsX11_bitsTold := fun i h => List.mem_cons_of_mem _ (List.mem_map_of_mem h)
theorem okX11_bitsTold : okM 2583 sX11_bitsTold = true := okM_by (by decide +kernel)
def sX11_safeForms : List Nat := [5, 405, 407, 519, 521, 2198, 2199, 2240, 2375, 2376, 2377, 2378, 2631, 4416, 4417, 4418, 4419, 4420, 4421, 4422, 4423, 4424, 4425, 4426, 4427, 4428, 4429, 4430, 4431, 4432, 4433, 4434, 4435, 4436, 4437, 4438, 4439, 4440, 4441, 4442, 4443, 4444, 4445, 4446, 4447, 4448, 4449, 4450, 4451, 4452, 4453, 4454, 4455, 4456, 4457, 4458, 4459, 4460, 4461, 4462, 4463, 4464, 4465, 4466, 4467, 4468, 4469, 4470]
def wsX11_safeForms : List Cond := cw 2631 :: wI sX11_safeForms
theorem mbX11_safeForms : ∀ i ∈ sX11_safeForms, cw i ∈ wsX11_safeForms := fun i h => List.mem_cons_of_mem _ (List.mem_map_of_mem h)
theorem okX11_safeForms : okM 2631 sX11_safeForms = true := okM_by (by decide +kernel)
def sX11_told : List Nat := [5, 398, 405, 407, 456, 457, 519, 520, 521, 523, 526, 527, 528, 529, 530, 589, 1105, 1106, 1107, 1108, 2130, 2131, 2132, 2133, 2190, 2191, 2192, 2193, 2198, 2199, 2240, 2371, 2372, 2373, 2374, 2375, 2376, 2377, 2378, 2576, 2577, 2578, 2579, 2580, 2581, 2582, 2583, 2624, 2625, 2626, 2627, 2628, 2629, 2630, 2631, 2632, 2633, 2634, 2635, 4416, 4417, 4418, 4419, 4420, 4421, 4422, 4423, 4424, 4425, 4426, 4427, 4428, 4429, 4430, 4431, 4432, 4433, 4434, 4435, 4436, 4437, 4438, 4439, 4440, 4441, 4442, 4443, 4444, 4445, 4446, 4447, 4448, 4449, 4450, 4451, 4452, 4453, 4454, 4455, 4456, 4457, 4458, 4459, 4460, 4461, 4462, 4463, 4464, 4465, 4466, 4467, 4468, 4469, 4470]
def wsX11_told : List Cond := cw 2576 :: wI sX11_told
theorem mbX11_told : ∀ i ∈ sX11_told, cw i ∈ wsX11_told := fun i h => List.mem_cons_of_mem _ (List.mem_map_of_mem h)
def sX11_isForm : List Nat := [5, 398, 519, 589, 1105, 1106, 1107, 1108, 2577, 2578, 2579, 2702, 4416, 4417, 4418, 4419, 4420, 4421, 4422, 4423, 4424, 4425, 4426, 4427, 4428, 4429, 4430, 4431, 4432, 4433, 4434, 4435, 4436, 4437, 4438, 4439, 4440, 4441, 4442, 4443, 4444, 4445, 4446, 4447, 4448, 4449, 4450, 4451, 4452, 4453, 4454, 4455, 4456, 4457, 4458, 4459, 4460, 4461, 4462, 4463, 4464, 4465, 4466, 4467, 4468, 4469, 4470]
def wsX11_isForm : List Cond := cw 2702 :: wI sX11_isForm
theorem mbX11_isForm : ∀ i ∈ sX11_isForm, cw i ∈ wsX11_isForm := fun i h => List.mem_cons_of_mem _ (List.mem_map_of_mem h)
theorem okX11_isForm : okM 2702 sX11_isForm = true := okM_by (by decide +kernel)
def sX11_isHare : List Nat := [5, 398, 520, 589, 1105, 1106, 1107, 1108, 2577, 2578, 2579, 2770, 4416, 4417, 4418, 4419, 4420, 4421, 4422, 4423, 4424, 4425, 4426, 4427, 4428, 4429, 4430, 4431, 4432, 4433, 4434, 4435, 4436, 4437, 4438, 4439, 4440, 4441, 4442, 4443, 4444, 4445, 4446, 4447, 4448, 4449, 4450, 4451, 4452, 4453, 4454, 4455, 4456, 4457, 4458, 4459, 4460, 4461, 4462, 4463, 4464, 4465, 4466, 4467, 4468, 4469, 4470]
def wsX11_isHare : List Cond := cw 2770 :: wI sX11_isHare
theorem mbX11_isHare : ∀ i ∈ sX11_isHare, cw i ∈ wsX11_isHare := fun i h => List.mem_cons_of_mem _ (List.mem_map_of_mem h)
theorem okX11_isHare : okM 2770 sX11_isHare = true := okM_by (by decide +kernel)
def sX11_form : List Nat := [5, 398, 405, 407, 456, 457, 519, 520, 521, 527, 528, 529, 530, 589, 1105, 1106, 1107, 1108, 2130, 2131, 2132, 2133, 2198, 2199, 2240, 2253, 2254, 2255, 2256, 2375, 2376, 2377, 2378, 2577, 2578, 2579, 2698, 2699, 2700, 2701, 2702, 4416, 4417, 4418, 4419, 4420, 4421, 4422, 4423, 4424, 4425, 4426, 4427, 4428, 4429, 4430, 4431, 4432, 4433, 4434, 4435, 4436, 4437, 4438, 4439, 4440, 4441, 4442, 4443, 4444, 4445, 4446, 4447, 4448, 4449, 4450, 4451, 4452, 4453, 4454, 4455, 4456, 4457, 4458, 4459, 4460, 4461, 4462, 4463, 4464, 4465, 4466, 4467, 4468, 4469, 4470]
def wsX11_form : List Cond := cw 2698 :: wI sX11_form
theorem mbX11_form : ∀ i ∈ sX11_form, cw i ∈ wsX11_form := fun i h => List.mem_cons_of_mem _ (List.mem_map_of_mem h)
def sX11_hare : List Nat := [5, 398, 406, 450, 451, 452, 453, 456, 457, 520, 522, 527, 528, 529, 530, 589, 1105, 1106, 1107, 1108, 2130, 2131, 2132, 2133, 2190, 2191, 2192, 2193, 2241, 2242, 2243, 2244, 2245, 2246, 2247, 2248, 2249, 2250, 2251, 2252, 2253, 2254, 2255, 2256, 2257, 2258, 2259, 2260, 2261, 2262, 2263, 2304, 2305, 2306, 2307, 2308, 2309, 2310, 2311, 2312, 2313, 2314, 2577, 2578, 2579, 2766, 2767, 2768, 2769, 2770, 4416, 4417, 4418, 4419, 4420, 4421, 4422, 4423, 4424, 4425, 4426, 4427, 4428, 4429, 4430, 4431, 4432, 4433, 4434, 4435, 4436, 4437, 4438, 4439, 4440, 4441, 4442, 4443, 4444, 4445, 4446, 4447, 4448, 4449, 4450, 4451, 4452, 4453, 4454, 4455, 4456, 4457, 4458, 4459, 4460, 4461, 4462, 4463, 4464, 4465, 4466, 4467, 4468, 4469, 4470]
def wsX11_hare : List Cond := cw 2766 :: wI sX11_hare
theorem mbX11_hare : ∀ i ∈ sX11_hare, cw i ∈ wsX11_hare := fun i h => List.mem_cons_of_mem _ (List.mem_map_of_mem h)
def sX11_fox : List Nat := [5, 398, 407, 521, 589, 1105, 1106, 1107, 1108, 2577, 2578, 2579, 2823, 4416, 4417, 4418, 4419, 4420, 4421, 4422, 4423, 4424, 4425, 4426, 4427, 4428, 4429, 4430, 4431, 4432, 4433, 4434, 4435, 4436, 4437, 4438, 4439, 4440, 4441, 4442, 4443, 4444, 4445, 4446, 4447, 4448, 4449, 4450, 4451, 4452, 4453, 4454, 4455, 4456, 4457, 4458, 4459, 4460, 4461, 4462, 4463, 4464, 4465, 4466, 4467, 4468, 4469, 4470]
def wsX11_fox : List Cond := cw 2823 :: wI sX11_fox
theorem mbX11_fox : ∀ i ∈ sX11_fox, cw i ∈ wsX11_fox := fun i h => List.mem_cons_of_mem _ (List.mem_map_of_mem h)
def sX11_debt : List Nat := [5, 398, 456, 520, 589, 1105, 1106, 1107, 1108, 2577, 2578, 2579, 2767, 2768, 2769, 2770, 2835, 4416, 4417, 4418, 4419, 4420, 4421, 4422, 4423, 4424, 4425, 4426, 4427, 4428, 4429, 4430, 4431, 4432, 4433, 4434, 4435, 4436, 4437, 4438, 4439, 4440, 4441, 4442, 4443, 4444, 4445, 4446, 4447, 4448, 4449, 4450, 4451, 4452, 4453, 4454, 4455, 4456, 4457, 4458, 4459, 4460, 4461, 4462, 4463, 4464, 4465, 4466, 4467, 4468, 4469, 4470]
def wsX11_debt : List Cond := cw 2835 :: wI sX11_debt
theorem mbX11_debt : ∀ i ∈ sX11_debt, cw i ∈ wsX11_debt := fun i h => List.mem_cons_of_mem _ (List.mem_map_of_mem h)
def sX11_far : List Nat := [5, 398, 405, 519, 589, 1105, 1106, 1107, 1108, 2194, 2195, 2196, 2197, 2198, 2199, 2240, 2577, 2578, 2579, 2699, 2700, 2701, 2702, 2887, 4416, 4417, 4418, 4419, 4420, 4421, 4422, 4423, 4424, 4425, 4426, 4427, 4428, 4429, 4430, 4431, 4432, 4433, 4434, 4435, 4436, 4437, 4438, 4439, 4440, 4441, 4442, 4443, 4444, 4445, 4446, 4447, 4448, 4449, 4450, 4451, 4452, 4453, 4454, 4455, 4456, 4457, 4458, 4459, 4460, 4461, 4462, 4463, 4464, 4465, 4466, 4467, 4468, 4469, 4470]
def wsX11_far : List Cond := cw 2887 :: wI sX11_far
theorem mbX11_far : ∀ i ∈ sX11_far, cw i ∈ wsX11_far := fun i h => List.mem_cons_of_mem _ (List.mem_map_of_mem h)
def sX11_would : List Nat := [5, 398, 450, 451, 452, 453, 522, 589, 1105, 1106, 1107, 1108, 2260, 2261, 2262, 2263, 2304, 2305, 2306, 2307, 2308, 2309, 2310, 2311, 2312, 2313, 2314, 2577, 2578, 2579, 2901, 4416, 4417, 4418, 4419, 4420, 4421, 4422, 4423, 4424, 4425, 4426, 4427, 4428, 4429, 4430, 4431, 4432, 4433, 4434, 4435, 4436, 4437, 4438, 4439, 4440, 4441, 4442, 4443, 4444, 4445, 4446, 4447, 4448, 4449, 4450, 4451, 4452, 4453, 4454, 4455, 4456, 4457, 4458, 4459, 4460, 4461, 4462, 4463, 4464, 4465, 4466, 4467, 4468, 4469, 4470]
def wsX11_would : List Cond := cw 2901 :: wI sX11_would
theorem mbX11_would : ∀ i ∈ sX11_would, cw i ∈ wsX11_would := fun i h => List.mem_cons_of_mem _ (List.mem_map_of_mem h)
def sX11_can : List Nat := [5, 398, 405, 450, 451, 452, 453, 456, 457, 519, 520, 522, 527, 528, 529, 530, 589, 1105, 1106, 1107, 1108, 2130, 2131, 2132, 2133, 2186, 2187, 2188, 2189, 2190, 2191, 2192, 2193, 2194, 2195, 2196, 2197, 2198, 2199, 2240, 2241, 2242, 2243, 2244, 2245, 2246, 2247, 2248, 2249, 2250, 2251, 2252, 2253, 2254, 2255, 2256, 2257, 2258, 2259, 2260, 2261, 2262, 2263, 2304, 2305, 2306, 2307, 2308, 2309, 2310, 2311, 2312, 2313, 2314, 2577, 2578, 2579, 2699, 2700, 2701, 2702, 2767, 2768, 2769, 2770, 2953, 4416, 4417, 4418, 4419, 4420, 4421, 4422, 4423, 4424, 4425, 4426, 4427, 4428, 4429, 4430, 4431, 4432, 4433, 4434, 4435, 4436, 4437, 4438, 4439, 4440, 4441, 4442, 4443, 4444, 4445, 4446, 4447, 4448, 4449, 4450, 4451, 4452, 4453, 4454, 4455, 4456, 4457, 4458, 4459, 4460, 4461, 4462, 4463, 4464, 4465, 4466, 4467, 4468, 4469, 4470]
def wsX11_can : List Cond := cw 2953 :: wI sX11_can
theorem mbX11_can : ∀ i ∈ sX11_can, cw i ∈ wsX11_can := fun i h => List.mem_cons_of_mem _ (List.mem_map_of_mem h)
def sX11_rangeOf : List Nat := [5, 405, 450, 451, 452, 453, 457, 519, 520, 522, 2186, 2187, 2188, 2189, 2190, 2191, 2192, 2193, 2194, 2195, 2196, 2197, 2198, 2199, 2240, 2241, 2242, 2243, 2244, 2245, 2246, 2247, 2248, 2249, 2250, 2251, 2252, 2253, 2254, 2255, 2256, 2257, 2258, 2259, 2260, 2261, 2262, 2263, 2304, 2305, 2306, 2307, 2308, 2309, 2310, 2311, 2312, 2313, 2314, 3202, 4416, 4417, 4418, 4419, 4420, 4421, 4422, 4423, 4424, 4425, 4426, 4427, 4428, 4429, 4430, 4431, 4432, 4433, 4434, 4435, 4436, 4437, 4438, 4439, 4440, 4441, 4442, 4443, 4444, 4445, 4446, 4447, 4448, 4449, 4450, 4451, 4452, 4453, 4454, 4455, 4456, 4457, 4458, 4459, 4460, 4461, 4462, 4463, 4464, 4465, 4466, 4467, 4468, 4469, 4470]
def wsX11_rangeOf : List Cond := cw 3202 :: wI sX11_rangeOf
theorem mbX11_rangeOf : ∀ i ∈ sX11_rangeOf, cw i ∈ wsX11_rangeOf := fun i h => List.mem_cons_of_mem _ (List.mem_map_of_mem h)
theorem okX11_rangeOf : okM 3202 sX11_rangeOf = true := okM_by (by decide +kernel)
def sX11_range : List Nat := [5, 398, 405, 450, 451, 452, 453, 456, 457, 519, 520, 522, 527, 528, 529, 530, 589, 1105, 1106, 1107, 1108, 2130, 2131, 2132, 2133, 2186, 2187, 2188, 2189, 2190, 2191, 2192, 2193, 2194, 2195, 2196, 2197, 2198, 2199, 2240, 2241, 2242, 2243, 2244, 2245, 2246, 2247, 2248, 2249, 2250, 2251, 2252, 2253, 2254, 2255, 2256, 2257, 2258, 2259, 2260, 2261, 2262, 2263, 2304, 2305, 2306, 2307, 2308, 2309, 2310, 2311, 2312, 2313, 2314, 2577, 2578, 2579, 2767, 2768, 2769, 2770, 3159, 3200, 3201, 3202, 3985, 4416, 4417, 4418, 4419, 4420, 4421, 4422, 4423, 4424, 4425, 4426, 4427, 4428, 4429, 4430, 4431, 4432, 4433, 4434, 4435, 4436, 4437, 4438, 4439, 4440, 4441, 4442, 4443, 4444, 4445, 4446, 4447, 4448, 4449, 4450, 4451, 4452, 4453, 4454, 4455, 4456, 4457, 4458, 4459, 4460, 4461, 4462, 4463, 4464, 4465, 4466, 4467, 4468, 4469, 4470]
def wsX11_range : List Cond := cw 3985 :: wI sX11_range
theorem mbX11_range : ∀ i ∈ sX11_range, cw i ∈ wsX11_range := fun i h => List.mem_cons_of_mem _ (List.mem_map_of_mem h)
def sX11_ahead : List Nat := [5, 398, 405, 406, 407, 456, 457, 520, 521, 527, 528, 529, 530, 589, 1105, 1106, 1107, 1108, 2130, 2131, 2132, 2133, 2190, 2191, 2192, 2193, 2198, 2199, 2240, 2323, 2324, 2325, 2326, 2327, 2368, 2369, 2370, 2371, 2372, 2373, 2374, 2375, 2376, 2377, 2378, 2577, 2578, 2579, 2624, 2625, 2626, 2627, 2632, 2633, 2634, 2635, 3009, 4416, 4417, 4418, 4419, 4420, 4421, 4422, 4423, 4424, 4425, 4426, 4427, 4428, 4429, 4430, 4431, 4432, 4433, 4434, 4435, 4436, 4437, 4438, 4439, 4440, 4441, 4442, 4443, 4444, 4445, 4446, 4447, 4448, 4449, 4450, 4451, 4452, 4453, 4454, 4455, 4456, 4457, 4458, 4459, 4460, 4461, 4462, 4463, 4464, 4465, 4466, 4467, 4468, 4469, 4470]
def wsX11_ahead : List Cond := cw 3009 :: wI sX11_ahead
theorem mbX11_ahead : ∀ i ∈ sX11_ahead, cw i ∈ wsX11_ahead := fun i h => List.mem_cons_of_mem _ (List.mem_map_of_mem h)
def sX11_hops : List Nat := [5, 398, 405, 450, 451, 452, 453, 456, 457, 519, 520, 522, 527, 528, 529, 530, 589, 1105, 1106, 1107, 1108, 2130, 2131, 2132, 2133, 2190, 2191, 2192, 2193, 2194, 2195, 2196, 2197, 2198, 2199, 2240, 2241, 2242, 2243, 2244, 2245, 2246, 2247, 2248, 2249, 2250, 2251, 2252, 2253, 2254, 2255, 2256, 2257, 2258, 2259, 2260, 2261, 2262, 2263, 2304, 2305, 2306, 2307, 2308, 2309, 2310, 2311, 2312, 2313, 2314, 2577, 2578, 2579, 2699, 2700, 2701, 2702, 2767, 2768, 2769, 2770, 3029, 4416, 4417, 4418, 4419, 4420, 4421, 4422, 4423, 4424, 4425, 4426, 4427, 4428, 4429, 4430, 4431, 4432, 4433, 4434, 4435, 4436, 4437, 4438, 4439, 4440, 4441, 4442, 4443, 4444, 4445, 4446, 4447, 4448, 4449, 4450, 4451, 4452, 4453, 4454, 4455, 4456, 4457, 4458, 4459, 4460, 4461, 4462, 4463, 4464, 4465, 4466, 4467, 4468, 4469, 4470]
def wsX11_hops : List Cond := cw 3029 :: wI sX11_hops
theorem mbX11_hops : ∀ i ∈ sX11_hops, cw i ∈ wsX11_hops := fun i h => List.mem_cons_of_mem _ (List.mem_map_of_mem h)
def sX11_findSeats : List Nat := [5, 405, 407, 450, 451, 452, 453, 456, 457, 461, 462, 463, 519, 520, 521, 522, 527, 528, 529, 530, 2130, 2131, 2132, 2133, 2186, 2187, 2188, 2189, 2190, 2191, 2192, 2193, 2194, 2195, 2196, 2197, 2198, 2199, 2240, 2241, 2242, 2243, 2244, 2245, 2246, 2247, 2248, 2249, 2250, 2251, 2252, 2253, 2254, 2255, 2256, 2257, 2258, 2259, 2260, 2261, 2262, 2263, 2304, 2305, 2306, 2307, 2308, 2309, 2310, 2311, 2312, 2313, 2314, 2375, 2376, 2377, 2378, 2628, 2629, 2630, 2631, 3158, 3159, 3200, 3201, 3202, 4416, 4417, 4418, 4419, 4420, 4421, 4422, 4423, 4424, 4425, 4426, 4427, 4428, 4429, 4430, 4431, 4432, 4433, 4434, 4435, 4436, 4437, 4438, 4439, 4440, 4441, 4442, 4443, 4444, 4445, 4446, 4447, 4448, 4449, 4450, 4451, 4452, 4453, 4454, 4455, 4456, 4457, 4458, 4459, 4460, 4461, 4462, 4463, 4464, 4465, 4466, 4467, 4468, 4469, 4470]
def wsX11_findSeats : List Cond := cw 3158 :: wI sX11_findSeats
theorem mbX11_findSeats : ∀ i ∈ sX11_findSeats, cw i ∈ wsX11_findSeats := fun i h => List.mem_cons_of_mem _ (List.mem_map_of_mem h)
theorem okX11_findSeats : okM 3158 sX11_findSeats = true := okM_by (by decide +kernel)
def sX11_seats : List Nat := [5, 405, 407, 450, 451, 452, 453, 456, 457, 461, 462, 463, 519, 520, 521, 522, 527, 528, 529, 530, 589, 2130, 2131, 2132, 2133, 2186, 2187, 2188, 2189, 2190, 2191, 2192, 2193, 2194, 2195, 2196, 2197, 2198, 2199, 2240, 2241, 2242, 2243, 2244, 2245, 2246, 2247, 2248, 2249, 2250, 2251, 2252, 2253, 2254, 2255, 2256, 2257, 2258, 2259, 2260, 2261, 2262, 2263, 2304, 2305, 2306, 2307, 2308, 2309, 2310, 2311, 2312, 2313, 2314, 2375, 2376, 2377, 2378, 2628, 2629, 2630, 2631, 3154, 3155, 3156, 3157, 3158, 3159, 3200, 3201, 3202, 4416, 4417, 4418, 4419, 4420, 4421, 4422, 4423, 4424, 4425, 4426, 4427, 4428, 4429, 4430, 4431, 4432, 4433, 4434, 4435, 4436, 4437, 4438, 4439, 4440, 4441, 4442, 4443, 4444, 4445, 4446, 4447, 4448, 4449, 4450, 4451, 4452, 4453, 4454, 4455, 4456, 4457, 4458, 4459, 4460, 4461, 4462, 4463, 4464, 4465, 4466, 4467, 4468, 4469, 4470]
def wsX11_seats : List Cond := cw 3154 :: wI sX11_seats
theorem mbX11_seats : ∀ i ∈ sX11_seats, cw i ∈ wsX11_seats := fun i h => List.mem_cons_of_mem _ (List.mem_map_of_mem h)
def sX11_seat : List Nat := [5, 398, 405, 407, 450, 451, 452, 453, 456, 457, 461, 462, 463, 519, 520, 521, 522, 527, 528, 529, 530, 589, 1105, 1106, 1107, 1108, 2130, 2131, 2132, 2133, 2186, 2187, 2188, 2189, 2190, 2191, 2192, 2193, 2194, 2195, 2196, 2197, 2198, 2199, 2240, 2241, 2242, 2243, 2244, 2245, 2246, 2247, 2248, 2249, 2250, 2251, 2252, 2253, 2254, 2255, 2256, 2257, 2258, 2259, 2260, 2261, 2262, 2263, 2304, 2305, 2306, 2307, 2308, 2309, 2310, 2311, 2312, 2313, 2314, 2375, 2376, 2377, 2378, 2577, 2578, 2579, 2628, 2629, 2630, 2631, 2767, 2768, 2769, 2770, 3155, 3156, 3157, 3158, 3159, 3200, 3201, 3202, 3214, 4416, 4417, 4418, 4419, 4420, 4421, 4422, 4423, 4424, 4425, 4426, 4427, 4428, 4429, 4430, 4431, 4432, 4433, 4434, 4435, 4436, 4437, 4438, 4439, 4440, 4441, 4442, 4443, 4444, 4445, 4446, 4447, 4448, 4449, 4450, 4451, 4452, 4453, 4454, 4455, 4456, 4457, 4458, 4459, 4460, 4461, 4462, 4463, 4464, 4465, 4466, 4467, 4468, 4469, 4470]
def wsX11_seat : List Cond := cw 3214 :: wI sX11_seat
theorem mbX11_seat : ∀ i ∈ sX11_seat, cw i ∈ wsX11_seat := fun i h => List.mem_cons_of_mem _ (List.mem_map_of_mem h)
def sX11_layRing : List Nat := [5, 405, 464, 519, 2194, 2195, 2196, 2197, 2198, 2199, 2240, 3336, 4416, 4417, 4418, 4419, 4420, 4421, 4422, 4423, 4424, 4425, 4426, 4427, 4428, 4429, 4430, 4431, 4432, 4433, 4434, 4435, 4436, 4437, 4438, 4439, 4440, 4441, 4442, 4443, 4444, 4445, 4446, 4447, 4448, 4449, 4450, 4451, 4452, 4453, 4454, 4455, 4456, 4457, 4458, 4459, 4460, 4461, 4462, 4463, 4464, 4465, 4466, 4467, 4468, 4469, 4470]
def wsX11_layRing : List Cond := cw 3336 :: wI sX11_layRing
theorem mbX11_layRing : ∀ i ∈ sX11_layRing, cw i ∈ wsX11_layRing := fun i h => List.mem_cons_of_mem _ (List.mem_map_of_mem h)
theorem okX11_layRing : okM 3336 sX11_layRing = true := okM_by (by decide +kernel)
def sX11_ring : List Nat := [5, 405, 464, 519, 589, 2194, 2195, 2196, 2197, 2198, 2199, 2240, 3332, 3333, 3334, 3335, 3336, 4416, 4417, 4418, 4419, 4420, 4421, 4422, 4423, 4424, 4425, 4426, 4427, 4428, 4429, 4430, 4431, 4432, 4433, 4434, 4435, 4436, 4437, 4438, 4439, 4440, 4441, 4442, 4443, 4444, 4445, 4446, 4447, 4448, 4449, 4450, 4451, 4452, 4453, 4454, 4455, 4456, 4457, 4458, 4459, 4460, 4461, 4462, 4463, 4464, 4465, 4466, 4467, 4468, 4469, 4470]
def wsX11_ring : List Cond := cw 3332 :: wI sX11_ring
theorem mbX11_ring : ∀ i ∈ sX11_ring, cw i ∈ wsX11_ring := fun i h => List.mem_cons_of_mem _ (List.mem_map_of_mem h)
def sX11_ringed : List Nat := [5, 398, 405, 464, 519, 589, 1105, 1106, 1107, 1108, 2194, 2195, 2196, 2197, 2198, 2199, 2240, 3333, 3334, 3335, 3336, 3348, 4416, 4417, 4418, 4419, 4420, 4421, 4422, 4423, 4424, 4425, 4426, 4427, 4428, 4429, 4430, 4431, 4432, 4433, 4434, 4435, 4436, 4437, 4438, 4439, 4440, 4441, 4442, 4443, 4444, 4445, 4446, 4447, 4448, 4449, 4450, 4451, 4452, 4453, 4454, 4455, 4456, 4457, 4458, 4459, 4460, 4461, 4462, 4463, 4464, 4465, 4466, 4467, 4468, 4469, 4470]
def wsX11_ringed : List Cond := cw 3348 :: wI sX11_ringed
theorem mbX11_ringed : ∀ i ∈ sX11_ringed, cw i ∈ wsX11_ringed := fun i h => List.mem_cons_of_mem _ (List.mem_map_of_mem h)
def sX11_lastsIn : List Nat := [5, 456, 520, 3409, 3410, 3411, 3412, 4416, 4417, 4418, 4419, 4420, 4421, 4422, 4423, 4424, 4425, 4426, 4427, 4428, 4429, 4430, 4431, 4432, 4433, 4434, 4435, 4436, 4437, 4438, 4439, 4440, 4441, 4442, 4443, 4444, 4445, 4446, 4447, 4448, 4449, 4450, 4451, 4452, 4453, 4454, 4455, 4456, 4457, 4458, 4459, 4460, 4461, 4462, 4463, 4464, 4465, 4466, 4467, 4468, 4469, 4470]
def wsX11_lastsIn : List Cond := cw 3412 :: wI sX11_lastsIn
theorem mbX11_lastsIn : ∀ i ∈ sX11_lastsIn, cw i ∈ wsX11_lastsIn := fun i h => List.mem_cons_of_mem _ (List.mem_map_of_mem h)
theorem okX11_lastsIn : okM 3412 sX11_lastsIn = true := okM_by (by decide +kernel)
def sX11_bouts : List Nat := [5, 398, 456, 457, 520, 527, 528, 529, 530, 589, 1105, 1106, 1107, 1108, 2130, 2131, 2132, 2133, 2190, 2191, 2192, 2193, 2577, 2578, 2579, 2624, 2625, 2626, 2627, 2767, 2768, 2769, 2770, 3408, 3409, 3410, 3411, 3412, 4416, 4417, 4418, 4419, 4420, 4421, 4422, 4423, 4424, 4425, 4426, 4427, 4428, 4429, 4430, 4431, 4432, 4433, 4434, 4435, 4436, 4437, 4438, 4439, 4440, 4441, 4442, 4443, 4444, 4445, 4446, 4447, 4448, 4449, 4450, 4451, 4452, 4453, 4454, 4455, 4456, 4457, 4458, 4459, 4460, 4461, 4462, 4463, 4464, 4465, 4466, 4467, 4468, 4469, 4470]
def wsX11_bouts : List Cond := cw 3408 :: wI sX11_bouts
theorem mbX11_bouts : ∀ i ∈ sX11_bouts, cw i ∈ wsX11_bouts := fun i h => List.mem_cons_of_mem _ (List.mem_map_of_mem h)
def sX11_sitsThen : List Nat := [5, 457, 520, 2253, 2254, 2255, 2256, 2257, 2258, 2259, 3585, 4416, 4417, 4418, 4419, 4420, 4421, 4422, 4423, 4424, 4425, 4426, 4427, 4428, 4429, 4430, 4431, 4432, 4433, 4434, 4435, 4436, 4437, 4438, 4439, 4440, 4441, 4442, 4443, 4444, 4445, 4446, 4447, 4448, 4449, 4450, 4451, 4452, 4453, 4454, 4455, 4456, 4457, 4458, 4459, 4460, 4461, 4462, 4463, 4464, 4465, 4466, 4467, 4468, 4469, 4470]
def wsX11_sitsThen : List Cond := cw 3585 :: wI sX11_sitsThen
theorem mbX11_sitsThen : ∀ i ∈ sX11_sitsThen, cw i ∈ wsX11_sitsThen := fun i h => List.mem_cons_of_mem _ (List.mem_map_of_mem h)
theorem okX11_sitsThen : okM 3585 sX11_sitsThen = true := okM_by (by decide +kernel)
def sX11_isFit : List Nat := [5, 457, 460, 519, 520, 2190, 2191, 2192, 2193, 2253, 2254, 2255, 2256, 2257, 2258, 2259, 3541, 3542, 3543, 3584, 3585, 4416, 4417, 4418, 4419, 4420, 4421, 4422, 4423, 4424, 4425, 4426, 4427, 4428, 4429, 4430, 4431, 4432, 4433, 4434, 4435, 4436, 4437, 4438, 4439, 4440, 4441, 4442, 4443, 4444, 4445, 4446, 4447, 4448, 4449, 4450, 4451, 4452, 4453, 4454, 4455, 4456, 4457, 4458, 4459, 4460, 4461, 4462, 4463, 4464, 4465, 4466, 4467, 4468, 4469, 4470]
def wsX11_isFit : List Cond := cw 3541 :: wI sX11_isFit
theorem mbX11_isFit : ∀ i ∈ sX11_isFit, cw i ∈ wsX11_isFit := fun i h => List.mem_cons_of_mem _ (List.mem_map_of_mem h)
theorem okX11_isFit : okM 3541 sX11_isFit = true := okM_by (by decide +kernel)
def sX11_fits : List Nat := [5, 398, 456, 457, 460, 519, 520, 527, 528, 529, 530, 589, 1105, 1106, 1107, 1108, 2130, 2131, 2132, 2133, 2190, 2191, 2192, 2193, 2253, 2254, 2255, 2256, 2257, 2258, 2259, 2577, 2578, 2579, 3537, 3538, 3539, 3540, 3541, 3542, 3543, 3584, 3585, 4416, 4417, 4418, 4419, 4420, 4421, 4422, 4423, 4424, 4425, 4426, 4427, 4428, 4429, 4430, 4431, 4432, 4433, 4434, 4435, 4436, 4437, 4438, 4439, 4440, 4441, 4442, 4443, 4444, 4445, 4446, 4447, 4448, 4449, 4450, 4451, 4452, 4453, 4454, 4455, 4456, 4457, 4458, 4459, 4460, 4461, 4462, 4463, 4464, 4465, 4466, 4467, 4468, 4469, 4470]
def wsX11_fits : List Cond := cw 3537 :: wI sX11_fits
theorem mbX11_fits : ∀ i ∈ sX11_fits, cw i ∈ wsX11_fits := fun i h => List.mem_cons_of_mem _ (List.mem_map_of_mem h)
def sX11_worstOf : List Nat := [5, 457, 460, 465, 519, 520, 2190, 2191, 2192, 2193, 2253, 2254, 2255, 2256, 2257, 2258, 2259, 3538, 3539, 3540, 3541, 3542, 3543, 3584, 3585, 3658, 4416, 4417, 4418, 4419, 4420, 4421, 4422, 4423, 4424, 4425, 4426, 4427, 4428, 4429, 4430, 4431, 4432, 4433, 4434, 4435, 4436, 4437, 4438, 4439, 4440, 4441, 4442, 4443, 4444, 4445, 4446, 4447, 4448, 4449, 4450, 4451, 4452, 4453, 4454, 4455, 4456, 4457, 4458, 4459, 4460, 4461, 4462, 4463, 4464, 4465, 4466, 4467, 4468, 4469, 4470]
def wsX11_worstOf : List Cond := cw 3658 :: wI sX11_worstOf
theorem mbX11_worstOf : ∀ i ∈ sX11_worstOf, cw i ∈ wsX11_worstOf := fun i h => List.mem_cons_of_mem _ (List.mem_map_of_mem h)
theorem okX11_worstOf : okM 3658 sX11_worstOf = true := okM_by (by decide +kernel)
def sX11_look : List Nat := [5, 398, 456, 457, 460, 465, 519, 520, 527, 528, 529, 530, 589, 1105, 1106, 1107, 1108, 2130, 2131, 2132, 2133, 2190, 2191, 2192, 2193, 2253, 2254, 2255, 2256, 2257, 2258, 2259, 2577, 2578, 2579, 3538, 3539, 3540, 3541, 3542, 3543, 3584, 3585, 3654, 3655, 3656, 3657, 3658, 4416, 4417, 4418, 4419, 4420, 4421, 4422, 4423, 4424, 4425, 4426, 4427, 4428, 4429, 4430, 4431, 4432, 4433, 4434, 4435, 4436, 4437, 4438, 4439, 4440, 4441, 4442, 4443, 4444, 4445, 4446, 4447, 4448, 4449, 4450, 4451, 4452, 4453, 4454, 4455, 4456, 4457, 4458, 4459, 4460, 4461, 4462, 4463, 4464, 4465, 4466, 4467, 4468, 4469, 4470]
def wsX11_look : List Cond := cw 3654 :: wI sX11_look
theorem mbX11_look : ∀ i ∈ sX11_look, cw i ∈ wsX11_look := fun i h => List.mem_cons_of_mem _ (List.mem_map_of_mem h)
def sX11_watch : List Nat := [5, 398, 405, 519, 589, 1105, 1106, 1107, 1108, 2194, 2195, 2196, 2197, 2198, 2199, 2240, 2257, 2258, 2259, 2577, 2578, 2579, 3718, 4416, 4417, 4418, 4419, 4420, 4421, 4422, 4423, 4424, 4425, 4426, 4427, 4428, 4429, 4430, 4431, 4432, 4433, 4434, 4435, 4436, 4437, 4438, 4439, 4440, 4441, 4442, 4443, 4444, 4445, 4446, 4447, 4448, 4449, 4450, 4451, 4452, 4453, 4454, 4455, 4456, 4457, 4458, 4459, 4460, 4461, 4462, 4463, 4464, 4465, 4466, 4467, 4468, 4469, 4470]
def wsX11_watch : List Cond := cw 3718 :: wI sX11_watch
theorem mbX11_watch : ∀ i ∈ sX11_watch, cw i ∈ wsX11_watch := fun i h => List.mem_cons_of_mem _ (List.mem_map_of_mem h)
def sX11_least : List Nat := [3779]
def wsX11_least : List Cond := cw 3779 :: wI sX11_least
theorem okX11_least : okM 3779 sX11_least = true := okM_by (by decide +kernel)
def sX11_few : List Nat := [5, 398, 466, 589, 1105, 1106, 1107, 1108, 2577, 2578, 2579, 3735, 3776, 3777, 3778, 3779, 4416, 4417, 4418, 4419, 4420, 4421, 4422, 4423, 4424, 4425, 4426, 4427, 4428, 4429, 4430, 4431, 4432, 4433, 4434, 4435, 4436, 4437, 4438, 4439, 4440, 4441, 4442, 4443, 4444, 4445, 4446, 4447, 4448, 4449, 4450, 4451, 4452, 4453, 4454, 4455, 4456, 4457, 4458, 4459, 4460, 4461, 4462, 4463, 4464, 4465, 4466, 4467, 4468, 4469, 4470]
def wsX11_few : List Cond := cw 3735 :: wI sX11_few
theorem mbX11_few : ∀ i ∈ sX11_few, cw i ∈ wsX11_few := fun i h => List.mem_cons_of_mem _ (List.mem_map_of_mem h)
def sX11_hasBy : List Nat := [3796]
def wsX11_hasBy : List Cond := cw 3796 :: wI sX11_hasBy
theorem okX11_hasBy : okM 3796 sX11_hasBy = true := okM_by (by decide +kernel)
def sX11_road : List Nat := [5, 398, 589, 1105, 1106, 1107, 1108, 2577, 2578, 2579, 3793, 3794, 3795, 3796, 4416, 4417, 4418, 4419, 4420, 4421, 4422, 4423, 4424, 4425, 4426, 4427, 4428, 4429, 4430, 4431, 4432, 4433, 4434, 4435, 4436, 4437, 4438, 4439, 4440, 4441, 4442, 4443, 4444, 4445, 4446, 4447, 4448, 4449, 4450, 4451, 4452, 4453, 4454, 4455, 4456, 4457, 4458, 4459, 4460, 4461, 4462, 4463, 4464, 4465, 4466, 4467, 4468, 4469, 4470]
def wsX11_road : List Cond := cw 3793 :: wI sX11_road
theorem mbX11_road : ∀ i ∈ sX11_road, cw i ∈ wsX11_road := fun i h => List.mem_cons_of_mem _ (List.mem_map_of_mem h)
def sX11_cloverBy : List Nat := [5, 457, 520, 2249, 2250, 2251, 2252, 3860, 4416, 4417, 4418, 4419, 4420, 4421, 4422, 4423, 4424, 4425, 4426, 4427, 4428, 4429, 4430, 4431, 4432, 4433, 4434, 4435, 4436, 4437, 4438, 4439, 4440, 4441, 4442, 4443, 4444, 4445, 4446, 4447, 4448, 4449, 4450, 4451, 4452, 4453, 4454, 4455, 4456, 4457, 4458, 4459, 4460, 4461, 4462, 4463, 4464, 4465, 4466, 4467, 4468, 4469, 4470]
def wsX11_cloverBy : List Cond := cw 3860 :: wI sX11_cloverBy
theorem mbX11_cloverBy : ∀ i ∈ sX11_cloverBy, cw i ∈ wsX11_cloverBy := fun i h => List.mem_cons_of_mem _ (List.mem_map_of_mem h)
theorem okX11_cloverBy : okM 3860 sX11_cloverBy = true := okM_by (by decide +kernel)
def sX11_clover : List Nat := [5, 398, 456, 457, 520, 527, 528, 529, 530, 589, 1105, 1106, 1107, 1108, 2130, 2131, 2132, 2133, 2249, 2250, 2251, 2252, 2577, 2578, 2579, 2767, 2768, 2769, 2770, 3856, 3857, 3858, 3859, 3860, 4416, 4417, 4418, 4419, 4420, 4421, 4422, 4423, 4424, 4425, 4426, 4427, 4428, 4429, 4430, 4431, 4432, 4433, 4434, 4435, 4436, 4437, 4438, 4439, 4440, 4441, 4442, 4443, 4444, 4445, 4446, 4447, 4448, 4449, 4450, 4451, 4452, 4453, 4454, 4455, 4456, 4457, 4458, 4459, 4460, 4461, 4462, 4463, 4464, 4465, 4466, 4467, 4468, 4469, 4470]
def wsX11_clover : List Cond := cw 3856 :: wI sX11_clover
theorem mbX11_clover : ∀ i ∈ sX11_clover, cw i ∈ wsX11_clover := fun i h => List.mem_cons_of_mem _ (List.mem_map_of_mem h)
def sX11_strongest : List Nat := [5, 398, 456, 457, 520, 527, 528, 529, 530, 589, 1105, 1106, 1107, 1108, 2130, 2131, 2132, 2133, 2190, 2191, 2192, 2193, 2577, 2578, 2579, 3911, 4416, 4417, 4418, 4419, 4420, 4421, 4422, 4423, 4424, 4425, 4426, 4427, 4428, 4429, 4430, 4431, 4432, 4433, 4434, 4435, 4436, 4437, 4438, 4439, 4440, 4441, 4442, 4443, 4444, 4445, 4446, 4447, 4448, 4449, 4450, 4451, 4452, 4453, 4454, 4455, 4456, 4457, 4458, 4459, 4460, 4461, 4462, 4463, 4464, 4465, 4466, 4467, 4468, 4469, 4470]
def wsX11_strongest : List Cond := cw 3911 :: wI sX11_strongest
theorem mbX11_strongest : ∀ i ∈ sX11_strongest, cw i ∈ wsX11_strongest := fun i h => List.mem_cons_of_mem _ (List.mem_map_of_mem h)
def sX11_ties : List Nat := [5, 398, 456, 520, 589, 1105, 1106, 1107, 1108, 2577, 2578, 2579, 2767, 2768, 2769, 2770, 3922, 4416, 4417, 4418, 4419, 4420, 4421, 4422, 4423, 4424, 4425, 4426, 4427, 4428, 4429, 4430, 4431, 4432, 4433, 4434, 4435, 4436, 4437, 4438, 4439, 4440, 4441, 4442, 4443, 4444, 4445, 4446, 4447, 4448, 4449, 4450, 4451, 4452, 4453, 4454, 4455, 4456, 4457, 4458, 4459, 4460, 4461, 4462, 4463, 4464, 4465, 4466, 4467, 4468, 4469, 4470]
def wsX11_ties : List Cond := cw 3922 :: wI sX11_ties
theorem mbX11_ties : ∀ i ∈ sX11_ties, cw i ∈ wsX11_ties := fun i h => List.mem_cons_of_mem _ (List.mem_map_of_mem h)
def sX11_refuge : List Nat := [5, 398, 405, 407, 519, 521, 589, 1105, 1106, 1107, 1108, 2194, 2195, 2196, 2197, 2198, 2199, 2240, 2375, 2376, 2377, 2378, 2577, 2578, 2579, 2699, 2700, 2701, 2702, 3973, 4416, 4417, 4418, 4419, 4420, 4421, 4422, 4423, 4424, 4425, 4426, 4427, 4428, 4429, 4430, 4431, 4432, 4433, 4434, 4435, 4436, 4437, 4438, 4439, 4440, 4441, 4442, 4443, 4444, 4445, 4446, 4447, 4448, 4449, 4450, 4451, 4452, 4453, 4454, 4455, 4456, 4457, 4458, 4459, 4460, 4461, 4462, 4463, 4464, 4465, 4466, 4467, 4468, 4469, 4470]
def wsX11_refuge : List Cond := cw 3973 :: wI sX11_refuge
theorem mbX11_refuge : ∀ i ∈ sX11_refuge, cw i ∈ wsX11_refuge := fun i h => List.mem_cons_of_mem _ (List.mem_map_of_mem h)
def sX11_draws : List Nat := [4111, 4115, 4116, 4416, 4417, 4418, 4419, 4420, 4421, 4422, 4423, 4424, 4425, 4426, 4427, 4428, 4429, 4430, 4431, 4432, 4433, 4434, 4435, 4436, 4437, 4438, 4439, 4440, 4441, 4442, 4443, 4444, 4445, 4446, 4447, 4448, 4449, 4450, 4451, 4452, 4453, 4454, 4455, 4456, 4457, 4458, 4459, 4460, 4461, 4462, 4463, 4464, 4465, 4466, 4467, 4468, 4469, 4470]
def wsX11_draws : List Cond := cw 4115 :: wI sX11_draws
theorem mbX11_draws : ∀ i ∈ sX11_draws, cw i ∈ wsX11_draws := fun i h => List.mem_cons_of_mem _ (List.mem_map_of_mem h)
theorem okX11_draws : okM 4115 sX11_draws = true := okM_by (by decide +kernel)
def sX11_marchGoes : List Nat := [5, 405, 406, 407, 450, 451, 452, 453, 456, 457, 519, 520, 521, 522, 527, 528, 529, 530, 2130, 2131, 2132, 2133, 2182, 2183, 2184, 2185, 2186, 2187, 2188, 2189, 2190, 2191, 2192, 2193, 2194, 2195, 2196, 2197, 2198, 2199, 2240, 2241, 2242, 2243, 2244, 2245, 2246, 2247, 2248, 2249, 2250, 2251, 2252, 2253, 2254, 2255, 2256, 2257, 2258, 2259, 2260, 2261, 2262, 2263, 2304, 2305, 2306, 2307, 2308, 2309, 2310, 2311, 2312, 2313, 2314, 2315, 2316, 2317, 2318, 2323, 2324, 2325, 2326, 2327, 2368, 2369, 2370, 2371, 2372, 2373, 2374, 2375, 2376, 2377, 2378, 4106, 4110, 4111, 4112, 4113, 4114, 4115, 4116, 4416, 4417, 4418, 4419, 4420, 4421, 4422, 4423, 4424, 4425, 4426, 4427, 4428, 4429, 4430, 4431, 4432, 4433, 4434, 4435, 4436, 4437, 4438, 4439, 4440, 4441, 4442, 4443, 4444, 4445, 4446, 4447, 4448, 4449, 4450, 4451, 4452, 4453, 4454, 4455, 4456, 4457, 4458, 4459, 4460, 4461, 4462, 4463, 4464, 4465, 4466, 4467, 4468, 4469, 4470]
def wsX11_marchGoes : List Cond := cw 4110 :: wI sX11_marchGoes
theorem mbX11_marchGoes : ∀ i ∈ sX11_marchGoes, cw i ∈ wsX11_marchGoes := fun i h => List.mem_cons_of_mem _ (List.mem_map_of_mem h)
theorem okX11_marchGoes : okM 4110 sX11_marchGoes = true := okM_by (by decide +kernel)
def sX11_strengthNow : List Nat := [5, 457, 520, 2190, 2191, 2192, 2193, 4160, 4416, 4417, 4418, 4419, 4420, 4421, 4422, 4423, 4424, 4425, 4426, 4427, 4428, 4429, 4430, 4431, 4432, 4433, 4434, 4435, 4436, 4437, 4438, 4439, 4440, 4441, 4442, 4443, 4444, 4445, 4446, 4447, 4448, 4449, 4450, 4451, 4452, 4453, 4454, 4455, 4456, 4457, 4458, 4459, 4460, 4461, 4462, 4463, 4464, 4465, 4466, 4467, 4468, 4469, 4470]
def wsX11_strengthNow : List Cond := cw 4160 :: wI sX11_strengthNow
theorem mbX11_strengthNow : ∀ i ∈ sX11_strengthNow, cw i ∈ wsX11_strengthNow := fun i h => List.mem_cons_of_mem _ (List.mem_map_of_mem h)
theorem okX11_strengthNow : okM 4160 sX11_strengthNow = true := okM_by (by decide +kernel)
def sX11_march : List Nat := [5, 398, 405, 406, 407, 450, 451, 452, 453, 456, 457, 519, 520, 521, 522, 527, 528, 529, 530, 589, 1105, 1106, 1107, 1108, 2130, 2131, 2132, 2133, 2182, 2183, 2184, 2185, 2186, 2187, 2188, 2189, 2190, 2191, 2192, 2193, 2194, 2195, 2196, 2197, 2198, 2199, 2240, 2241, 2242, 2243, 2244, 2245, 2246, 2247, 2248, 2249, 2250, 2251, 2252, 2253, 2254, 2255, 2256, 2257, 2258, 2259, 2260, 2261, 2262, 2263, 2304, 2305, 2306, 2307, 2308, 2309, 2310, 2311, 2312, 2313, 2314, 2315, 2316, 2317, 2318, 2323, 2324, 2325, 2326, 2327, 2368, 2369, 2370, 2371, 2372, 2373, 2374, 2375, 2376, 2377, 2378, 2577, 2578, 2579, 2624, 2625, 2626, 2627, 4105, 4106, 4107, 4108, 4109, 4110, 4111, 4112, 4113, 4114, 4115, 4116, 4117, 4118, 4119, 4160, 4416, 4417, 4418, 4419, 4420, 4421, 4422, 4423, 4424, 4425, 4426, 4427, 4428, 4429, 4430, 4431, 4432, 4433, 4434, 4435, 4436, 4437, 4438, 4439, 4440, 4441, 4442, 4443, 4444, 4445, 4446, 4447, 4448, 4449, 4450, 4451, 4452, 4453, 4454, 4455, 4456, 4457, 4458, 4459, 4460, 4461, 4462, 4463, 4464, 4465, 4466, 4467, 4468, 4469, 4470]
def wsX11_march : List Cond := cw 4105 :: wI sX11_march
theorem mbX11_march : ∀ i ∈ sX11_march, cw i ∈ wsX11_march := fun i h => List.mem_cons_of_mem _ (List.mem_map_of_mem h)
def sX11_span : List Nat := [5, 398, 405, 406, 407, 450, 451, 452, 453, 456, 457, 519, 520, 521, 522, 527, 528, 529, 530, 589, 1105, 1106, 1107, 1108, 2130, 2131, 2132, 2133, 2182, 2183, 2184, 2185, 2186, 2187, 2188, 2189, 2190, 2191, 2192, 2193, 2194, 2195, 2196, 2197, 2198, 2199, 2240, 2241, 2242, 2243, 2244, 2245, 2246, 2247, 2248, 2249, 2250, 2251, 2252, 2253, 2254, 2255, 2256, 2257, 2258, 2259, 2260, 2261, 2262, 2263, 2304, 2305, 2306, 2307, 2308, 2309, 2310, 2311, 2312, 2313, 2314, 2315, 2316, 2317, 2318, 2323, 2324, 2325, 2326, 2327, 2368, 2369, 2370, 2371, 2372, 2373, 2374, 2375, 2376, 2377, 2378, 2577, 2578, 2579, 4106, 4107, 4108, 4109, 4110, 4111, 4112, 4113, 4114, 4115, 4116, 4172, 4416, 4417, 4418, 4419, 4420, 4421, 4422, 4423, 4424, 4425, 4426, 4427, 4428, 4429, 4430, 4431, 4432, 4433, 4434, 4435, 4436, 4437, 4438, 4439, 4440, 4441, 4442, 4443, 4444, 4445, 4446, 4447, 4448, 4449, 4450, 4451, 4452, 4453, 4454, 4455, 4456, 4457, 4458, 4459, 4460, 4461, 4462, 4463, 4464, 4465, 4466, 4467, 4468, 4469, 4470]
def wsX11_span : List Cond := cw 4172 :: wI sX11_span
theorem mbX11_span : ∀ i ∈ sX11_span, cw i ∈ wsX11_span := fun i h => List.mem_cons_of_mem _ (List.mem_map_of_mem h)
def sX11_keepsRow : List Nat := [467, 4232, 4416, 4417, 4418, 4419, 4420, 4421, 4422, 4423, 4424, 4425, 4426, 4427, 4428, 4429, 4430, 4431, 4432, 4433, 4434, 4435, 4436, 4437, 4438, 4439, 4440, 4441, 4442, 4443, 4444, 4445, 4446, 4447, 4448, 4449, 4450, 4451, 4452, 4453, 4454, 4455, 4456, 4457, 4458, 4459, 4460, 4461, 4462, 4463, 4464, 4465, 4466, 4467, 4468, 4469, 4470]
def wsX11_keepsRow : List Cond := cw 4232 :: wI sX11_keepsRow
theorem mbX11_keepsRow : ∀ i ∈ sX11_keepsRow, cw i ∈ wsX11_keepsRow := fun i h => List.mem_cons_of_mem _ (List.mem_map_of_mem h)
theorem okX11_keepsRow : okM 4232 sX11_keepsRow = true := okM_by (by decide +kernel)
def sX11_keepsAll : List Nat := [5, 456, 458, 467, 524, 4228, 4229, 4230, 4231, 4232, 4416, 4417, 4418, 4419, 4420, 4421, 4422, 4423, 4424, 4425, 4426, 4427, 4428, 4429, 4430, 4431, 4432, 4433, 4434, 4435, 4436, 4437, 4438, 4439, 4440, 4441, 4442, 4443, 4444, 4445, 4446, 4447, 4448, 4449, 4450, 4451, 4452, 4453, 4454, 4455, 4456, 4457, 4458, 4459, 4460, 4461, 4462, 4463, 4464, 4465, 4466, 4467, 4468, 4469, 4470]
def wsX11_keepsAll : List Cond := cw 4228 :: wI sX11_keepsAll
theorem mbX11_keepsAll : ∀ i ∈ sX11_keepsAll, cw i ∈ wsX11_keepsAll := fun i h => List.mem_cons_of_mem _ (List.mem_map_of_mem h)
theorem okX11_keepsAll : okM 4228 sX11_keepsAll = true := okM_by (by decide +kernel)
def sX11_image : List Nat := [5, 456, 458, 467, 524, 525, 589, 4224, 4225, 4226, 4227, 4228, 4229, 4230, 4231, 4232, 4416, 4417, 4418, 4419, 4420, 4421, 4422, 4423, 4424, 4425, 4426, 4427, 4428, 4429, 4430, 4431, 4432, 4433, 4434, 4435, 4436, 4437, 4438, 4439, 4440, 4441, 4442, 4443, 4444, 4445, 4446, 4447, 4448, 4449, 4450, 4451, 4452, 4453, 4454, 4455, 4456, 4457, 4458, 4459, 4460, 4461, 4462, 4463, 4464, 4465, 4466, 4467, 4468, 4469, 4470]
def wsX11_image : List Cond := cw 4224 :: wI sX11_image
theorem mbX11_image : ∀ i ∈ sX11_image, cw i ∈ wsX11_image := fun i h => List.mem_cons_of_mem _ (List.mem_map_of_mem h)
def sX11_restore : List Nat := [5, 456, 458, 467, 524, 525, 526, 589, 4225, 4226, 4227, 4228, 4229, 4230, 4231, 4232, 4240, 4416, 4417, 4418, 4419, 4420, 4421, 4422, 4423, 4424, 4425, 4426, 4427, 4428, 4429, 4430, 4431, 4432, 4433, 4434, 4435, 4436, 4437, 4438, 4439, 4440, 4441, 4442, 4443, 4444, 4445, 4446, 4447, 4448, 4449, 4450, 4451, 4452, 4453, 4454, 4455, 4456, 4457, 4458, 4459, 4460, 4461, 4462, 4463, 4464, 4465, 4466, 4467, 4468, 4469, 4470]
def wsX11_restore : List Cond := cw 4240 :: wI sX11_restore
theorem mbX11_restore : ∀ i ∈ sX11_restore, cw i ∈ wsX11_restore := fun i h => List.mem_cons_of_mem _ (List.mem_map_of_mem h)
def sX11_status : List Nat := [5, 398, 589, 2577, 2578, 2579, 4288, 4416, 4417, 4418, 4419, 4420, 4421, 4422, 4423, 4424, 4425, 4426, 4427, 4428, 4429, 4430, 4431, 4432, 4433, 4434, 4435, 4436, 4437, 4438, 4439, 4440, 4441, 4442, 4443, 4444, 4445, 4446, 4447, 4448, 4449, 4450, 4451, 4452, 4453, 4454, 4455, 4456, 4457, 4458, 4459, 4460, 4461, 4462, 4463, 4464, 4465, 4466, 4467, 4468, 4469, 4470]
def wsX11_status : List Cond := cw 4288 :: wI sX11_status
theorem mbX11_status : ∀ i ∈ sX11_status, cw i ∈ wsX11_status := fun i h => List.mem_cons_of_mem _ (List.mem_map_of_mem h)
def sX11_count : List Nat := [524, 525, 589, 590, 4296, 4416, 4417, 4418, 4419, 4420, 4421, 4422, 4423, 4424, 4425, 4426, 4427, 4428, 4429, 4430, 4431, 4432, 4433, 4434, 4435, 4436, 4437, 4438, 4439, 4440, 4441, 4442, 4443, 4444, 4445, 4446, 4447, 4448, 4449, 4450, 4451, 4452, 4453, 4454, 4455, 4456, 4457, 4458, 4459, 4460, 4461, 4462, 4463, 4464, 4465, 4466, 4467, 4468, 4469, 4470]
def wsX11_count : List Cond := cw 4296 :: wI sX11_count
theorem mbX11_count : ∀ i ∈ sX11_count, cw i ∈ wsX11_count := fun i h => List.mem_cons_of_mem _ (List.mem_map_of_mem h)
def sL_down : List Nat := [2, 15, 16, 19, 20, 21, 64, 65, 69, 70, 78, 79, 84, 142, 143, 148, 149, 150, 151, 192, 193, 194, 200, 201, 205, 206, 207, 208, 209, 210, 211, 212, 257, 259, 260, 261, 262, 276, 279, 320, 321, 322, 323, 324, 325, 326, 327, 328, 329, 330, 331, 535, 580, 594, 595, 596, 597, 598, 599, 640, 641, 642, 643, 644, 645, 646, 647, 648, 649, 650, 651, 652, 653, 654, 655, 656, 657, 658, 659, 660, 661, 662, 663, 704, 705, 706, 707, 708, 709, 710, 711, 712, 713, 714, 715, 716, 717, 718, 719, 720, 721, 722, 723, 724, 725, 726, 727, 768, 769, 770, 771, 772, 773, 774, 775, 776, 777, 778, 779, 780, 781, 782, 783, 784, 785, 786, 787, 788, 789, 790, 791, 832, 833, 834, 835, 836, 837, 838, 839, 840, 841, 842, 843, 844, 845, 846, 847, 848, 849, 850, 851, 852, 853, 854, 855, 896, 897, 898, 899, 900, 901, 902, 903, 904, 905, 906, 907, 908, 909, 910, 911, 912, 913, 914, 915, 916, 917, 918, 919, 960, 961, 962, 963, 964, 965, 966, 967, 968, 969, 970, 971, 972, 973, 974, 975, 976, 977, 978, 979, 980, 981, 982, 983, 1024, 1025, 1026, 1027, 1028, 1029, 1030, 1031, 1032, 1033, 1034, 1035, 1036, 1037, 1038, 1039, 1040, 1041, 1042, 1043, 1044, 1045, 1046, 1047, 1088, 1089, 1090, 1091, 1092, 1093, 1094, 1095, 1096, 1097, 1098, 4352, 4353, 4354, 4355, 4356, 4357, 4358, 4359, 4360, 4361, 4362, 4363, 4364, 4365, 4366, 4367, 4368, 4369, 4370, 4480, 4481, 4482, 4483, 4484, 4485, 4486, 4544, 4545, 4546, 4547, 4548, 4549, 4550, 4551, 4552, 4553, 4554, 4555, 4608, 4609, 4610, 4611, 4612, 4672, 4673, 4800, 4801, 4802, 4803, 4864, 4865]
def wsL_down : List Cond := cw 594 :: (wI sL_down ++ (vx_atS RX10 409 "java/lang/IllegalArgumentException" ["java/lang/RuntimeException", "java/lang/Exception"]).filter goodWord)
theorem mbL_down : ∀ i ∈ sL_down, cw i ∈ wsL_down := fun i h => List.mem_cons_of_mem _ (List.mem_append_left _ (List.mem_map_of_mem h))
def sL_law : List Nat := [2, 15, 16, 64, 65, 66, 78, 79, 142, 143, 200, 201, 208, 209, 210, 211, 212, 323, 535, 580, 595, 640, 645, 646, 647, 648, 649, 650, 651, 652, 653, 654, 655, 656, 657, 658, 659, 660, 661, 662, 663, 704, 705, 706, 707, 708, 709, 710, 711, 712, 713, 714, 715, 724, 725, 726, 768, 769, 770, 771, 772, 773, 774, 780, 781, 782, 783, 784, 785, 786, 787, 788, 789, 790, 791, 832, 833, 834, 835, 836, 837, 838, 839, 840, 841, 842, 843, 844, 845, 846, 847, 848, 849, 850, 851, 852, 853, 854, 855, 896, 897, 898, 899, 900, 901, 902, 903, 904, 905, 906, 907, 908, 909, 910, 911, 912, 913, 914, 915, 916, 962, 963, 964, 965, 966, 967, 968, 970, 971, 972, 973, 974, 975, 976, 977, 979, 980, 981, 982, 983, 1024, 1025, 1026, 1027, 1028, 1029, 1095, 1344, 1345, 1346, 1347, 1348, 1349, 1350, 1351, 1352, 1353, 1354, 1355, 1356, 1357, 1358, 1359, 1360, 1361, 1362, 1363, 1364, 1365, 1366, 1367, 1408, 1409, 1410, 1411, 1412, 1413, 1414, 1415, 1416, 1417, 1418, 1419, 1420, 1421, 1422, 1423, 1424, 1425, 1426, 1427, 1428, 1429, 1430, 1431, 1472, 1473, 1474, 1475, 1476, 4352, 4353, 4354, 4355, 4356, 4357, 4358, 4359, 4360, 4361, 4362, 4363, 4364, 4365, 4366, 4367, 4368, 4369, 4370, 4480, 4481, 4482, 4483, 4484, 4485, 4486, 4608, 4609, 4610, 4611, 4612, 4800, 4801, 4802, 4803]
def wsL_law : List Cond := cw 1344 :: (wI sL_law ++ (vx_atS RX10 409 "java/lang/IllegalArgumentException" ["java/lang/RuntimeException", "java/lang/Exception"]).filter goodWord)
theorem mbL_law : ∀ i ∈ sL_law, cw i ∈ wsL_law := fun i h => List.mem_cons_of_mem _ (List.mem_append_left _ (List.mem_map_of_mem h))
def sL_work : List Nat := [2, 15, 16, 19, 20, 64, 74, 75, 78, 79, 83, 84, 142, 143, 148, 149, 200, 201, 202, 203, 208, 266, 267, 268, 269, 270, 271, 276, 322, 323, 324, 326, 329, 330, 331, 335, 535, 580, 595, 640, 641, 643, 644, 645, 646, 647, 648, 649, 650, 651, 652, 653, 654, 655, 656, 657, 658, 659, 660, 661, 662, 663, 704, 705, 706, 707, 708, 709, 710, 711, 712, 713, 714, 715, 724, 725, 726, 768, 769, 770, 771, 772, 773, 774, 780, 781, 782, 783, 784, 785, 786, 787, 788, 789, 790, 791, 832, 833, 834, 835, 836, 837, 838, 839, 840, 841, 842, 843, 844, 845, 846, 847, 848, 849, 850, 851, 852, 853, 854, 855, 896, 897, 898, 899, 900, 901, 902, 903, 904, 905, 906, 907, 908, 909, 910, 911, 912, 913, 914, 915, 916, 962, 963, 964, 965, 966, 967, 968, 970, 971, 972, 973, 974, 975, 976, 977, 979, 980, 981, 982, 983, 1024, 1025, 1026, 1027, 1028, 1029, 1047, 1092, 1093, 1094, 1095, 1552, 1553, 1554, 1555, 1556, 1557, 1558, 1559, 1600, 1601, 1602, 1603, 1604, 1605, 1606, 1607, 1608, 1609, 1610, 1611, 1612, 1613, 1614, 1615, 1616, 1617, 1618, 1619, 1620, 1621, 1622, 1623, 1664, 1665, 1666, 1667, 1668, 1669, 1670, 1671, 1672, 1673, 1674, 1675, 1676, 1677, 1678, 1679, 1680, 1681, 1682, 1683, 1684, 1685, 1686, 1687, 1728, 1729, 1730, 1731, 1732, 1733, 1734, 1735, 1736, 1737, 1738, 1739, 1740, 1741, 1742, 1743, 1744, 1745, 1746, 1747, 1748, 1749, 1750, 1751, 1792, 1793, 1794, 1795, 1796, 1797, 1798, 1799, 1800, 1801, 1802, 1803, 1804, 1805, 1806, 1807, 1808, 1809, 1810, 1811, 1812, 1813, 1814, 1815, 1856, 1857, 1858, 1859, 1860, 1861, 1862, 1863, 1864, 1865, 1866, 1867, 1868, 1869, 1870, 1871, 1872, 1873, 1874, 1875, 1876, 1877, 1878, 1879, 1920, 1921, 1922, 1923, 1924, 1925, 1926, 1927, 1928, 1929, 1930, 1931, 1932, 1933, 1934, 1935, 1936, 1937, 1938, 1939, 1940, 1941, 1942, 1943, 1984, 1985, 1986, 1987, 1988, 1989, 1990, 1991, 1992, 1993, 1994, 1995, 1996, 1997, 1998, 1999, 2000, 2001, 2002, 2003, 2004, 2005, 2006, 2007, 2048, 2049, 2050, 2051, 2052, 2053, 2054, 2055, 2056, 2057, 2058, 2059, 2060, 2061, 2062, 2063, 2064, 2065, 2066, 2067, 2068, 2069, 4352, 4353, 4354, 4355, 4356, 4357, 4358, 4359, 4360, 4361, 4362, 4363, 4364, 4365, 4366, 4367, 4368, 4369, 4370, 4480, 4481, 4482, 4483, 4484, 4485, 4486, 4544, 4545, 4546, 4547, 4548, 4549, 4550, 4551, 4552, 4553, 4554, 4555, 4608, 4609, 4610, 4611, 4612, 4736, 4737, 4738, 4739, 4740, 4741, 4742, 4743, 4744, 4745, 4746, 4747, 4800, 4801, 4802, 4803, 4864, 4865]
def wsL_work : List Cond := cw 1552 :: (wI sL_work ++ (vx_atS RX10 409 "java/lang/IllegalArgumentException" ["java/lang/RuntimeException", "java/lang/Exception"]).filter goodWord)
theorem mbL_work : ∀ i ∈ sL_work, cw i ∈ wsL_work := fun i h => List.mem_cons_of_mem _ (List.mem_append_left _ (List.mem_map_of_mem h))
def sL_book : List Nat := [2, 15, 16, 20, 69, 70, 71, 142, 143, 257, 258, 259, 260, 261, 262, 535, 580, 595, 640, 645, 646, 647, 648, 649, 650, 651, 652, 653, 654, 655, 656, 657, 658, 659, 660, 661, 662, 663, 704, 705, 706, 707, 708, 709, 710, 711, 712, 713, 714, 715, 724, 725, 726, 768, 769, 770, 771, 772, 773, 774, 835, 962, 963, 964, 965, 966, 967, 968, 970, 971, 972, 973, 974, 975, 976, 977, 979, 980, 981, 982, 983, 1024, 1025, 1026, 1027, 1028, 1029, 1095, 1557, 2381, 2382, 2383, 2384, 2385, 2386, 2387, 2388, 2389, 2390, 2391, 2432, 2433, 2434, 2435, 2436, 2437, 2438, 2439, 2440, 2441, 2442, 2443, 4352, 4353, 4354, 4355, 4356, 4357, 4358, 4359, 4360, 4361, 4362, 4363, 4364, 4365, 4366, 4367, 4368, 4369, 4370, 4480, 4481, 4482, 4483, 4484, 4485, 4486, 4544, 4545, 4546, 4547, 4548, 4549, 4550, 4551, 4552, 4553, 4554, 4555, 4672, 4673]
def wsL_book : List Cond := cw 2381 :: (wI sL_book ++ (vx_atS RX10 409 "java/lang/IllegalArgumentException" ["java/lang/RuntimeException", "java/lang/Exception"]).filter goodWord)
theorem mbL_book : ∀ i ∈ sL_book, cw i ∈ wsL_book := fun i h => List.mem_cons_of_mem _ (List.mem_append_left _ (List.mem_map_of_mem h))
def sL_told : List Nat := [2, 19, 20, 70, 78, 79, 276, 322, 324, 595, 643, 644, 653, 654, 655, 656, 657, 658, 659, 660, 661, 662, 663, 704, 705, 706, 1047, 1557, 1741, 1742, 1743, 1744, 1745, 1746, 1747, 1748, 1812, 1813, 1814, 1815, 1856, 1857, 1858, 1859, 1860, 1861, 1862, 1863, 1873, 1874, 1875, 1984, 1985, 1986, 2052, 2053, 2059, 2060, 2061, 2062, 2063, 2064, 2065, 2386, 2511, 2512, 2513, 2514, 2515, 2516, 2517, 2518, 2519, 2560, 2561, 2562, 2563, 2564, 2565, 2566, 2567, 2568, 2569, 2570, 2571, 2572, 4352, 4353, 4354, 4355, 4356, 4357, 4358, 4359, 4360, 4361, 4362, 4363, 4364, 4365, 4366, 4367, 4368, 4369, 4370, 4544, 4545, 4546, 4547, 4548, 4549, 4550, 4551, 4552, 4553, 4554, 4555, 4672, 4673, 4800, 4801, 4802, 4803]
def wsL_told : List Cond := cw 2511 :: (wI sL_told ++ (vx_atS RX10 409 "java/lang/IllegalArgumentException" ["java/lang/RuntimeException", "java/lang/Exception"]).filter goodWord)
theorem mbL_told : ∀ i ∈ sL_told, cw i ∈ wsL_told := fun i h => List.mem_cons_of_mem _ (List.mem_append_left _ (List.mem_map_of_mem h))
def sL_form : List Nat := [2, 19, 20, 78, 79, 276, 322, 324, 595, 653, 654, 655, 656, 657, 658, 659, 660, 661, 662, 663, 704, 705, 706, 1047, 1557, 1741, 1742, 1743, 1744, 1745, 1746, 1747, 1748, 1798, 1799, 1800, 2052, 2053, 2063, 2064, 2065, 2638, 2639, 2640, 2641, 2642, 2643, 2644, 2645, 2646, 2647, 2688, 2689, 2690, 2691, 2692, 2693, 2694, 4352, 4353, 4354, 4355, 4356, 4357, 4358, 4359, 4360, 4361, 4362, 4363, 4364, 4365, 4366, 4367, 4368, 4369, 4370, 4544, 4545, 4546, 4547, 4548, 4549, 4550, 4551, 4552, 4553, 4554, 4555, 4800, 4801, 4802, 4803]
def wsL_form : List Cond := cw 2638 :: (wI sL_form ++ (ux_atS RX10 268 "java/util/NoSuchElementException" 13 ux_rx ["java/lang/RuntimeException", "java/lang/Exception"]).filter goodWord ++ (vx_atS RX10 409 "java/lang/IllegalArgumentException" ["java/lang/RuntimeException", "java/lang/Exception"]).filter goodWord)
theorem mbL_form : ∀ i ∈ sL_form, cw i ∈ wsL_form := fun i h => List.mem_cons_of_mem _ (List.mem_append_left _ (List.mem_append_left _ (List.mem_map_of_mem h)))
def sL_hare : List Nat := [2, 20, 64, 78, 79, 200, 201, 202, 203, 208, 276, 322, 323, 324, 595, 644, 650, 651, 652, 653, 654, 655, 656, 657, 658, 659, 660, 661, 662, 663, 704, 705, 706, 1741, 1742, 1743, 1744, 1745, 1746, 1747, 1748, 1794, 1795, 1796, 1797, 1798, 1799, 1800, 1801, 1802, 1803, 1804, 1805, 1806, 1807, 1808, 1809, 1810, 1811, 1812, 1813, 1814, 1815, 1856, 1857, 1858, 1859, 1860, 1861, 1862, 1863, 1864, 1865, 1866, 1867, 1868, 1869, 1870, 1871, 1872, 1873, 1874, 1875, 1876, 1877, 1878, 1879, 1920, 1921, 1922, 1923, 1924, 1925, 1926, 1927, 1928, 1929, 1930, 1931, 1932, 1933, 1934, 2639, 2690, 2691, 2692, 2705, 2706, 2707, 2708, 2709, 2710, 2711, 2752, 2753, 2754, 2755, 2756, 2757, 2758, 2759, 2760, 2761, 2762, 4352, 4353, 4354, 4355, 4356, 4357, 4358, 4359, 4360, 4361, 4362, 4363, 4364, 4365, 4366, 4367, 4368, 4369, 4370, 4544, 4545, 4546, 4547, 4548, 4549, 4550, 4551, 4552, 4553, 4554, 4555, 4608, 4609, 4610, 4611, 4612, 4800, 4801, 4802, 4803]
def wsL_hare : List Cond := cw 2705 :: (wI sL_hare ++ (ux_atS RX10 268 "java/util/NoSuchElementException" 13 ux_rx ["java/lang/RuntimeException", "java/lang/Exception"]).filter goodWord ++ (vx_atS RX10 409 "java/lang/IllegalArgumentException" ["java/lang/RuntimeException", "java/lang/Exception"]).filter goodWord)
theorem mbL_hare : ∀ i ∈ sL_hare, cw i ∈ wsL_hare := fun i h => List.mem_cons_of_mem _ (List.mem_append_left _ (List.mem_append_left _ (List.mem_map_of_mem h)))
def sL_fox : List Nat := [2, 20, 595, 653, 654, 655, 656, 657, 658, 659, 660, 661, 662, 663, 704, 705, 706, 2516, 2639, 2690, 2691, 2692, 2773, 2774, 2775, 2816, 2817, 2818, 2819, 4352, 4353, 4354, 4355, 4356, 4357, 4358, 4359, 4360, 4361, 4362, 4363, 4364, 4365, 4366, 4367, 4368, 4369, 4370, 4544, 4545, 4546, 4547, 4548, 4549, 4550, 4551, 4552, 4553, 4554, 4555]
def wsL_fox : List Cond := cw 2773 :: (wI sL_fox ++ (ux_atS RX10 268 "java/util/NoSuchElementException" 13 ux_rx ["java/lang/RuntimeException", "java/lang/Exception"]).filter goodWord ++ (vx_atS RX10 409 "java/lang/IllegalArgumentException" ["java/lang/RuntimeException", "java/lang/Exception"]).filter goodWord)
theorem mbL_fox : ∀ i ∈ sL_fox, cw i ∈ wsL_fox := fun i h => List.mem_cons_of_mem _ (List.mem_append_left _ (List.mem_append_left _ (List.mem_map_of_mem h)))
def sL_debt : List Nat := [2, 20, 78, 79, 276, 644, 657, 658, 659, 1861, 1862, 1863, 2639, 2690, 2691, 2692, 2711, 2752, 2753, 2754, 2826, 2827, 2828, 2829, 2830, 2831, 4352, 4353, 4354, 4355, 4356, 4357, 4358, 4359, 4360, 4361, 4362, 4363, 4364, 4365, 4366, 4367, 4368, 4369, 4370, 4544, 4545, 4546, 4547, 4548, 4549, 4550, 4551, 4552, 4553, 4554, 4555, 4800, 4801, 4802, 4803]
def wsL_debt : List Cond := cw 2826 :: (wI sL_debt ++ (ux_atS RX10 268 "java/util/NoSuchElementException" 13 ux_rx ["java/lang/RuntimeException", "java/lang/Exception"]).filter goodWord)
theorem mbL_debt : ∀ i ∈ sL_debt, cw i ∈ wsL_debt := fun i h => List.mem_cons_of_mem _ (List.mem_append_left _ (List.mem_map_of_mem h))
def sL_far : List Nat := [2, 19, 20, 148, 149, 651, 657, 658, 659, 1092, 1093, 1094, 1557, 1750, 1751, 1792, 2639, 2646, 2647, 2688, 2689, 2690, 2691, 2692, 2838, 2839, 2880, 2881, 2882, 2883, 4352, 4353, 4354, 4355, 4356, 4357, 4358, 4359, 4360, 4361, 4362, 4363, 4364, 4365, 4366, 4367, 4368, 4369, 4370, 4544, 4545, 4546, 4547, 4548, 4549, 4550, 4551, 4552, 4553, 4554, 4555]
def wsL_far : List Cond := cw 2838 :: (wI sL_far ++ (ux_atS RX10 268 "java/util/NoSuchElementException" 13 ux_rx ["java/lang/RuntimeException", "java/lang/Exception"]).filter goodWord)
theorem mbL_far : ∀ i ∈ sL_far, cw i ∈ wsL_far := fun i h => List.mem_cons_of_mem _ (List.mem_append_left _ (List.mem_map_of_mem h))
def sL_would : List Nat := [2, 64, 65, 200, 201, 202, 203, 208, 595, 650, 651, 652, 653, 654, 655, 656, 657, 658, 659, 660, 661, 662, 663, 704, 705, 706, 1869, 1870, 1871, 1921, 1922, 1923, 1925, 1926, 1927, 1928, 1929, 1930, 1931, 1932, 1933, 1934, 2890, 2891, 2892, 2893, 2894, 2895, 2896, 2897, 4352, 4353, 4354, 4355, 4356, 4357, 4358, 4359, 4360, 4361, 4362, 4363, 4364, 4365, 4366, 4367, 4368, 4369, 4370, 4608, 4609, 4610, 4611, 4612]
def wsL_would : List Cond := cw 2890 :: (wI sL_would ++ (vx_atS RX10 409 "java/lang/IllegalArgumentException" ["java/lang/RuntimeException", "java/lang/Exception"]).filter goodWord)
theorem mbL_would : ∀ i ∈ sL_would, cw i ∈ wsL_would := fun i h => List.mem_cons_of_mem _ (List.mem_append_left _ (List.mem_map_of_mem h))
def sL_can : List Nat := [2, 19, 20, 64, 78, 79, 148, 149, 200, 201, 202, 203, 208, 276, 322, 323, 324, 644, 650, 651, 652, 657, 658, 659, 1092, 1093, 1094, 1557, 1738, 1739, 1740, 1741, 1742, 1743, 1744, 1745, 1746, 1747, 1748, 1749, 1750, 1751, 1792, 1793, 1794, 1795, 1796, 1797, 1798, 1799, 1800, 1801, 1802, 1803, 1804, 1805, 1806, 1807, 1808, 1809, 1810, 1811, 1812, 1813, 1814, 1815, 1856, 1857, 1858, 1859, 1860, 1861, 1862, 1863, 1864, 1865, 1866, 1867, 1868, 1869, 1870, 1871, 1872, 1873, 1874, 1875, 1876, 1877, 1878, 1879, 1920, 1921, 1922, 1923, 1924, 1925, 1926, 1927, 1928, 1929, 1930, 1931, 1932, 1933, 1934, 2639, 2646, 2647, 2688, 2689, 2690, 2691, 2692, 2711, 2752, 2753, 2754, 2944, 2945, 2946, 2947, 2948, 2949, 4352, 4353, 4354, 4355, 4356, 4357, 4358, 4359, 4360, 4361, 4362, 4363, 4364, 4365, 4366, 4367, 4368, 4369, 4370, 4544, 4545, 4546, 4547, 4548, 4549, 4550, 4551, 4552, 4553, 4554, 4555, 4608, 4609, 4610, 4611, 4612, 4800, 4801, 4802, 4803]
def wsL_can : List Cond := cw 2944 :: (wI sL_can ++ (ux_atS RX10 268 "java/util/NoSuchElementException" 13 ux_rx ["java/lang/RuntimeException", "java/lang/Exception"]).filter goodWord)
theorem mbL_can : ∀ i ∈ sL_can, cw i ∈ wsL_can := fun i h => List.mem_cons_of_mem _ (List.mem_append_left _ (List.mem_map_of_mem h))
def sL_ahead : List Nat := [2, 19, 78, 79, 80, 276, 322, 323, 324, 326, 328, 329, 330, 331, 595, 653, 654, 655, 656, 657, 658, 659, 660, 661, 662, 663, 704, 705, 706, 1047, 1741, 1742, 1743, 1744, 1745, 1746, 1747, 1748, 1812, 1813, 1814, 1815, 1856, 1857, 1858, 1859, 1860, 1861, 1862, 1863, 1873, 1874, 1875, 2049, 2050, 2051, 2052, 2053, 2054, 2055, 2056, 2057, 2058, 2059, 2060, 2061, 2062, 2063, 2064, 2065, 2066, 2067, 2068, 2069, 2518, 2560, 2561, 2562, 2563, 2568, 2569, 2570, 2571, 2956, 2957, 2958, 2959, 2960, 2961, 2962, 2963, 2964, 2965, 4352, 4353, 4354, 4355, 4356, 4357, 4358, 4359, 4360, 4361, 4362, 4363, 4364, 4365, 4366, 4367, 4368, 4369, 4370, 4544, 4545, 4546, 4547, 4548, 4549, 4550, 4551, 4552, 4553, 4554, 4555, 4800, 4801, 4802, 4803]
def wsL_ahead : List Cond := cw 2956 :: (wI sL_ahead ++ (vx_atS RX10 409 "java/lang/IllegalArgumentException" ["java/lang/RuntimeException", "java/lang/Exception"]).filter goodWord)
theorem mbL_ahead : ∀ i ∈ sL_ahead, cw i ∈ wsL_ahead := fun i h => List.mem_cons_of_mem _ (List.mem_append_left _ (List.mem_map_of_mem h))
def sL_hops : List Nat := [2, 19, 20, 64, 78, 79, 148, 149, 200, 201, 202, 203, 208, 276, 322, 323, 324, 644, 650, 651, 652, 657, 658, 659, 720, 1092, 1093, 1094, 1557, 1741, 1742, 1743, 1744, 1745, 1746, 1747, 1748, 1750, 1751, 1792, 1794, 1795, 1796, 1797, 1798, 1799, 1800, 1801, 1802, 1803, 1804, 1805, 1806, 1807, 1808, 1809, 1810, 1811, 1812, 1813, 1814, 1815, 1856, 1857, 1858, 1859, 1860, 1861, 1862, 1863, 1864, 1865, 1866, 1867, 1868, 1869, 1870, 1871, 1872, 1873, 1874, 1875, 1876, 1877, 1878, 1879, 1920, 1921, 1922, 1923, 1924, 1925, 1926, 1927, 1928, 1929, 1930, 1931, 1932, 1933, 1934, 2052, 2053, 2639, 2646, 2647, 2688, 2689, 2690, 2691, 2692, 2711, 2752, 2753, 2754, 2755, 2756, 2762, 3012, 3013, 3014, 3015, 3016, 3017, 3018, 3019, 3020, 3021, 3022, 3023, 3024, 3025, 4352, 4353, 4354, 4355, 4356, 4357, 4358, 4359, 4360, 4361, 4362, 4363, 4364, 4365, 4366, 4367, 4368, 4369, 4370, 4544, 4545, 4546, 4547, 4548, 4549, 4550, 4551, 4552, 4553, 4554, 4555, 4608, 4609, 4610, 4611, 4612, 4800, 4801, 4802, 4803]
def wsL_hops : List Cond := cw 3012 :: (wI sL_hops ++ (ux_atS RX10 268 "java/util/NoSuchElementException" 13 ux_rx ["java/lang/RuntimeException", "java/lang/Exception"]).filter goodWord)
theorem mbL_hops : ∀ i ∈ sL_hops, cw i ∈ wsL_hops := fun i h => List.mem_cons_of_mem _ (List.mem_append_left _ (List.mem_map_of_mem h))
def sL_seat : List Nat := [2, 19, 20, 64, 78, 79, 132, 133, 148, 149, 200, 201, 202, 203, 208, 276, 322, 323, 324, 384, 385, 386, 644, 650, 651, 652, 657, 658, 659, 720, 1092, 1093, 1094, 1741, 1742, 1743, 1744, 1745, 1746, 1747, 1748, 1750, 1751, 1792, 1793, 1794, 1795, 1796, 1797, 1798, 1799, 1800, 1801, 1802, 1803, 1804, 1805, 1806, 1807, 1808, 1809, 1810, 1811, 1812, 1813, 1814, 1815, 1856, 1857, 1858, 1859, 1860, 1861, 1862, 1863, 1864, 1865, 1866, 1867, 1868, 1869, 1870, 1871, 1872, 1873, 1874, 1875, 1876, 1877, 1878, 1879, 1920, 1921, 1922, 1923, 1924, 1925, 1926, 1927, 1928, 1929, 1930, 1931, 1932, 1933, 1934, 2052, 2053, 2639, 2690, 2691, 2692, 2711, 2752, 2753, 2754, 3022, 3023, 3024, 3025, 3075, 3076, 3077, 3078, 3079, 3080, 3081, 3082, 3083, 3084, 3085, 3086, 3087, 3088, 3089, 3090, 3091, 3092, 3093, 3094, 3095, 3136, 3137, 3138, 3139, 3140, 3141, 3142, 3143, 3144, 3145, 3146, 3147, 3148, 3149, 3150, 3205, 3206, 3207, 3208, 3209, 3210, 4352, 4353, 4354, 4355, 4356, 4357, 4358, 4359, 4360, 4361, 4362, 4363, 4364, 4365, 4366, 4367, 4368, 4369, 4370, 4544, 4545, 4546, 4547, 4548, 4549, 4550, 4551, 4552, 4553, 4554, 4555, 4608, 4609, 4610, 4611, 4612, 4800, 4801, 4802, 4803, 4992, 4993, 4994, 4995]
def wsL_seat : List Cond := cw 3205 :: (wI sL_seat ++ (ux_atS RX10 268 "java/util/NoSuchElementException" 13 ux_rx ["java/lang/RuntimeException", "java/lang/Exception"]).filter goodWord)
theorem mbL_seat : ∀ i ∈ sL_seat, cw i ∈ wsL_seat := fun i h => List.mem_cons_of_mem _ (List.mem_append_left _ (List.mem_map_of_mem h))
def sL_ringed : List Nat := [2, 19, 20, 128, 129, 148, 149, 339, 340, 595, 650, 651, 652, 660, 661, 662, 663, 704, 705, 706, 1092, 1093, 1094, 1557, 1750, 1751, 1792, 2052, 2053, 3220, 3221, 3222, 3223, 3264, 3265, 3266, 3267, 3268, 3269, 3270, 3271, 3272, 3273, 3274, 3275, 3276, 3277, 3278, 3279, 3280, 3281, 3282, 3283, 3284, 3285, 3286, 3287, 3328, 3339, 3340, 3341, 3342, 3343, 3344, 4352, 4353, 4354, 4355, 4356, 4357, 4358, 4359, 4360, 4361, 4362, 4363, 4364, 4365, 4366, 4367, 4368, 4369, 4370, 4544, 4545, 4546, 4547, 4548, 4549, 4550, 4551, 4552, 4553, 4554, 4555, 4928, 4929, 4930]
def wsL_ringed : List Cond := cw 3339 :: (wI sL_ringed ++ (vx_atS RX10 409 "java/lang/IllegalArgumentException" ["java/lang/RuntimeException", "java/lang/Exception"]).filter goodWord)
theorem mbL_ringed : ∀ i ∈ sL_ringed, cw i ∈ wsL_ringed := fun i h => List.mem_cons_of_mem _ (List.mem_append_left _ (List.mem_map_of_mem h))
def sL_bouts : List Nat := [2, 20, 78, 79, 276, 322, 324, 644, 651, 657, 658, 659, 1742, 1743, 1744, 1809, 1810, 1811, 1930, 1931, 2052, 2053, 2639, 2690, 2691, 2692, 2711, 2752, 2753, 2754, 2755, 2757, 3351, 3392, 3393, 3394, 3395, 3396, 3397, 3398, 3399, 3400, 3401, 3402, 3403, 3404, 4352, 4353, 4354, 4355, 4356, 4357, 4358, 4359, 4360, 4361, 4362, 4363, 4364, 4365, 4366, 4367, 4368, 4369, 4370, 4544, 4545, 4546, 4547, 4548, 4549, 4550, 4551, 4552, 4553, 4554, 4555, 4800, 4801, 4802, 4803]
def wsL_bouts : List Cond := cw 3351 :: (wI sL_bouts ++ (ux_atS RX10 268 "java/util/NoSuchElementException" 13 ux_rx ["java/lang/RuntimeException", "java/lang/Exception"]).filter goodWord)
theorem mbL_bouts : ∀ i ∈ sL_bouts, cw i ∈ wsL_bouts := fun i h => List.mem_cons_of_mem _ (List.mem_append_left _ (List.mem_map_of_mem h))
def sL_fits : List Nat := [2, 69, 70, 78, 79, 136, 137, 257, 276, 322, 324, 390, 391, 392, 595, 653, 654, 655, 656, 657, 658, 659, 660, 661, 662, 663, 704, 705, 706, 1741, 1742, 1743, 1744, 1745, 1746, 1747, 1748, 1798, 1799, 1800, 1802, 1803, 1804, 1805, 1806, 1807, 3415, 3456, 3457, 3458, 3459, 3460, 3461, 3462, 3463, 3464, 3465, 3466, 3467, 3468, 3469, 3470, 3471, 3472, 3473, 3474, 3475, 3476, 3477, 3478, 3479, 3520, 3521, 3522, 3523, 3524, 3525, 3526, 3527, 3528, 3529, 3530, 3531, 3532, 3533, 4352, 4353, 4354, 4355, 4356, 4357, 4358, 4359, 4360, 4361, 4362, 4363, 4364, 4365, 4366, 4367, 4368, 4369, 4370, 4544, 4545, 4546, 4547, 4548, 4549, 4550, 4551, 4552, 4553, 4554, 4555, 4672, 4673, 4800, 4801, 4802, 4803, 5056, 5057, 5058, 5059, 5060, 5061, 5062, 5063, 5064, 5065, 5066]
def wsL_fits : List Cond := cw 3415 :: (wI sL_fits ++ (vx_atS RX10 409 "java/lang/IllegalArgumentException" ["java/lang/RuntimeException", "java/lang/Exception"]).filter goodWord)
theorem mbL_fits : ∀ i ∈ sL_fits, cw i ∈ wsL_fits := fun i h => List.mem_cons_of_mem _ (List.mem_append_left _ (List.mem_map_of_mem h))
def sL_look : List Nat := [2, 69, 70, 78, 79, 136, 137, 257, 276, 322, 324, 390, 391, 392, 393, 595, 651, 653, 654, 655, 656, 657, 658, 659, 660, 661, 662, 663, 704, 705, 706, 1741, 1742, 1743, 1744, 1745, 1746, 1747, 1748, 1798, 1799, 1800, 1802, 1803, 1804, 1805, 1806, 1807, 1930, 1931, 2052, 2053, 2439, 2440, 2441, 3462, 3463, 3464, 3465, 3466, 3467, 3468, 3469, 3470, 3471, 3472, 3473, 3474, 3475, 3476, 3477, 3478, 3479, 3520, 3521, 3522, 3523, 3524, 3525, 3526, 3527, 3528, 3529, 3530, 3531, 3532, 3533, 3588, 3589, 3590, 3591, 3592, 3593, 3594, 3595, 3596, 3597, 3598, 3599, 3600, 3601, 3602, 3603, 3604, 3605, 3606, 3607, 3648, 3649, 3650, 4352, 4353, 4354, 4355, 4356, 4357, 4358, 4359, 4360, 4361, 4362, 4363, 4364, 4365, 4366, 4367, 4368, 4369, 4370, 4544, 4545, 4546, 4547, 4548, 4549, 4550, 4551, 4552, 4553, 4554, 4555, 4672, 4673, 4800, 4801, 4802, 4803, 5056, 5057, 5058, 5059, 5060, 5061, 5062, 5063, 5064, 5065, 5066]
def wsL_look : List Cond := cw 3588 :: (wI sL_look ++ (vx_atS RX10 409 "java/lang/IllegalArgumentException" ["java/lang/RuntimeException", "java/lang/Exception"]).filter goodWord)
theorem mbL_look : ∀ i ∈ sL_look, cw i ∈ wsL_look := fun i h => List.mem_cons_of_mem _ (List.mem_append_left _ (List.mem_map_of_mem h))
def sL_watch : List Nat := [2, 19, 20, 148, 149, 195, 595, 651, 653, 654, 655, 656, 657, 658, 659, 660, 661, 662, 663, 704, 705, 706, 720, 1092, 1093, 1094, 1750, 1751, 1792, 1802, 1803, 1804, 1805, 1806, 1807, 2052, 2053, 3021, 3022, 3023, 3024, 3025, 3661, 3662, 3663, 3664, 3665, 3666, 3667, 3668, 3669, 3670, 3671, 3712, 3713, 3714, 4352, 4353, 4354, 4355, 4356, 4357, 4358, 4359, 4360, 4361, 4362, 4363, 4364, 4365, 4366, 4367, 4368, 4369, 4370, 4544, 4545, 4546, 4547, 4548, 4549, 4550, 4551, 4552, 4553, 4554, 4555]
def wsL_watch : List Cond := cw 3661 :: (wI sL_watch ++ (vx_atS RX10 409 "java/lang/IllegalArgumentException" ["java/lang/RuntimeException", "java/lang/Exception"]).filter goodWord)
theorem mbL_watch : ∀ i ∈ sL_watch, cw i ∈ wsL_watch := fun i h => List.mem_cons_of_mem _ (List.mem_append_left _ (List.mem_map_of_mem h))
def sL_few : List Nat := [2, 595, 653, 654, 655, 656, 657, 658, 659, 660, 661, 662, 663, 704, 705, 706, 3721, 3722, 3723, 3724, 3725, 3726, 3727, 3728, 3729, 3730, 3731, 4352, 4353, 4354, 4355, 4356, 4357, 4358, 4359, 4360, 4361, 4362, 4363, 4364, 4365, 4366, 4367, 4368, 4369, 4370]
def wsL_few : List Cond := cw 3721 :: (wI sL_few ++ (vx_atS RX10 409 "java/lang/IllegalArgumentException" ["java/lang/RuntimeException", "java/lang/Exception"]).filter goodWord)
theorem mbL_few : ∀ i ∈ sL_few, cw i ∈ wsL_few := fun i h => List.mem_cons_of_mem _ (List.mem_append_left _ (List.mem_map_of_mem h))
def sL_road : List Nat := [2, 595, 653, 654, 655, 656, 657, 658, 659, 660, 661, 662, 663, 704, 705, 706, 3782, 3783, 3784, 3785, 3786, 3787, 3788, 3789, 4352, 4353, 4354, 4355, 4356, 4357, 4358, 4359, 4360, 4361, 4362, 4363, 4364, 4365, 4366, 4367, 4368, 4369, 4370]
def wsL_road : List Cond := cw 3782 :: (wI sL_road ++ (vx_atS RX10 409 "java/lang/IllegalArgumentException" ["java/lang/RuntimeException", "java/lang/Exception"]).filter goodWord)
theorem mbL_road : ∀ i ∈ sL_road, cw i ∈ wsL_road := fun i h => List.mem_cons_of_mem _ (List.mem_append_left _ (List.mem_map_of_mem h))
def sL_clover : List Nat := [2, 20, 78, 79, 276, 277, 322, 324, 595, 644, 650, 651, 652, 653, 654, 655, 656, 657, 658, 659, 660, 661, 662, 663, 704, 705, 706, 1860, 1861, 1862, 1863, 1864, 1865, 1866, 1867, 2052, 2053, 2639, 2690, 2691, 2692, 2711, 2752, 2753, 2754, 3400, 3799, 3840, 3841, 3842, 3843, 3844, 3845, 3846, 3847, 3848, 3849, 3850, 3851, 3852, 4352, 4353, 4354, 4355, 4356, 4357, 4358, 4359, 4360, 4361, 4362, 4363, 4364, 4365, 4366, 4367, 4368, 4369, 4370, 4544, 4545, 4546, 4547, 4548, 4549, 4550, 4551, 4552, 4553, 4554, 4555, 4800, 4801, 4802, 4803]
def wsL_clover : List Cond := cw 3799 :: (wI sL_clover ++ (ux_atS RX10 268 "java/util/NoSuchElementException" 13 ux_rx ["java/lang/RuntimeException", "java/lang/Exception"]).filter goodWord ++ (vx_atS RX10 409 "java/lang/IllegalArgumentException" ["java/lang/RuntimeException", "java/lang/Exception"]).filter goodWord)
theorem mbL_clover : ∀ i ∈ sL_clover, cw i ∈ wsL_clover := fun i h => List.mem_cons_of_mem _ (List.mem_append_left _ (List.mem_append_left _ (List.mem_map_of_mem h)))
def sL_strongest : List Nat := [2, 20, 78, 79, 276, 595, 644, 653, 654, 655, 656, 657, 658, 659, 660, 661, 662, 663, 704, 705, 706, 1742, 1743, 1744, 1809, 1810, 1811, 2755, 2757, 3863, 3904, 3905, 3906, 3907, 4352, 4353, 4354, 4355, 4356, 4357, 4358, 4359, 4360, 4361, 4362, 4363, 4364, 4365, 4366, 4367, 4368, 4369, 4370, 4544, 4545, 4546, 4547, 4548, 4549, 4550, 4551, 4552, 4553, 4554, 4555, 4800, 4801, 4802, 4803]
def wsL_strongest : List Cond := cw 3863 :: (wI sL_strongest ++ (vx_atS RX10 409 "java/lang/IllegalArgumentException" ["java/lang/RuntimeException", "java/lang/Exception"]).filter goodWord)
theorem mbL_strongest : ∀ i ∈ sL_strongest, cw i ∈ wsL_strongest := fun i h => List.mem_cons_of_mem _ (List.mem_append_left _ (List.mem_map_of_mem h))
def sL_ties : List Nat := [2, 20, 78, 79, 276, 595, 644, 653, 654, 655, 656, 657, 658, 659, 660, 661, 662, 663, 704, 705, 706, 1861, 1862, 1863, 2639, 2690, 2691, 2692, 2711, 2752, 2753, 2754, 2831, 3914, 3915, 3916, 3917, 3918, 4352, 4353, 4354, 4355, 4356, 4357, 4358, 4359, 4360, 4361, 4362, 4363, 4364, 4365, 4366, 4367, 4368, 4369, 4370, 4544, 4545, 4546, 4547, 4548, 4549, 4550, 4551, 4552, 4553, 4554, 4555, 4800, 4801, 4802, 4803]
def wsL_ties : List Cond := cw 3914 :: (wI sL_ties ++ (ux_atS RX10 268 "java/util/NoSuchElementException" 13 ux_rx ["java/lang/RuntimeException", "java/lang/Exception"]).filter goodWord ++ (vx_atS RX10 409 "java/lang/IllegalArgumentException" ["java/lang/RuntimeException", "java/lang/Exception"]).filter goodWord)
theorem mbL_ties : ∀ i ∈ sL_ties, cw i ∈ wsL_ties := fun i h => List.mem_cons_of_mem _ (List.mem_append_left _ (List.mem_append_left _ (List.mem_map_of_mem h)))
def sL_refuge : List Nat := [2, 19, 20, 148, 149, 595, 651, 653, 654, 655, 656, 657, 658, 659, 660, 661, 662, 663, 704, 705, 706, 1047, 1092, 1093, 1094, 1557, 1750, 1751, 1792, 2052, 2053, 2063, 2064, 2065, 2639, 2646, 2647, 2688, 2689, 2690, 2691, 2692, 2693, 2883, 3925, 3926, 3927, 3968, 3969, 4352, 4353, 4354, 4355, 4356, 4357, 4358, 4359, 4360, 4361, 4362, 4363, 4364, 4365, 4366, 4367, 4368, 4369, 4370, 4544, 4545, 4546, 4547, 4548, 4549, 4550, 4551, 4552, 4553, 4554, 4555]
def wsL_refuge : List Cond := cw 3925 :: (wI sL_refuge ++ (ux_atS RX10 268 "java/util/NoSuchElementException" 13 ux_rx ["java/lang/RuntimeException", "java/lang/Exception"]).filter goodWord ++ (vx_atS RX10 409 "java/lang/IllegalArgumentException" ["java/lang/RuntimeException", "java/lang/Exception"]).filter goodWord)
theorem mbL_refuge : ∀ i ∈ sL_refuge, cw i ∈ wsL_refuge := fun i h => List.mem_cons_of_mem _ (List.mem_append_left _ (List.mem_append_left _ (List.mem_map_of_mem h)))
def sL_range : List Nat := [2, 19, 20, 64, 78, 79, 148, 149, 200, 201, 202, 203, 208, 276, 322, 323, 324, 644, 650, 651, 652, 657, 658, 659, 720, 1092, 1093, 1094, 1741, 1742, 1743, 1744, 1745, 1746, 1747, 1748, 1750, 1751, 1792, 1793, 1794, 1795, 1796, 1797, 1798, 1799, 1800, 1801, 1802, 1803, 1804, 1805, 1806, 1807, 1808, 1809, 1810, 1811, 1812, 1813, 1814, 1815, 1856, 1857, 1858, 1859, 1860, 1861, 1862, 1863, 1864, 1865, 1866, 1867, 1868, 1869, 1870, 1871, 1872, 1873, 1874, 1875, 1876, 1877, 1878, 1879, 1920, 1921, 1922, 1923, 1924, 1925, 1926, 1927, 1928, 1929, 1930, 1931, 1932, 1933, 1934, 2639, 2690, 2691, 2692, 2711, 2752, 2753, 2754, 3022, 3023, 3024, 3025, 3090, 3091, 3092, 3976, 3977, 3978, 3979, 3980, 3981, 4352, 4353, 4354, 4355, 4356, 4357, 4358, 4359, 4360, 4361, 4362, 4363, 4364, 4365, 4366, 4367, 4368, 4369, 4370, 4544, 4545, 4546, 4547, 4548, 4549, 4550, 4551, 4552, 4553, 4554, 4555, 4608, 4609, 4610, 4611, 4612, 4800, 4801, 4802, 4803]
def wsL_range : List Cond := cw 3976 :: (wI sL_range ++ (ux_atS RX10 268 "java/util/NoSuchElementException" 13 ux_rx ["java/lang/RuntimeException", "java/lang/Exception"]).filter goodWord)
theorem mbL_range : ∀ i ∈ sL_range, cw i ∈ wsL_range := fun i h => List.mem_cons_of_mem _ (List.mem_append_left _ (List.mem_map_of_mem h))
def sL_march : List Nat := [2, 19, 64, 78, 79, 80, 148, 149, 200, 201, 202, 203, 208, 276, 322, 323, 324, 326, 328, 329, 330, 331, 595, 650, 651, 652, 653, 654, 655, 656, 657, 658, 659, 660, 661, 662, 663, 704, 705, 706, 1047, 1092, 1093, 1094, 1738, 1739, 1740, 1741, 1742, 1743, 1744, 1745, 1746, 1747, 1748, 1749, 1750, 1751, 1792, 1793, 1794, 1795, 1796, 1797, 1798, 1799, 1800, 1801, 1802, 1803, 1804, 1805, 1806, 1807, 1808, 1809, 1810, 1811, 1812, 1813, 1814, 1815, 1856, 1857, 1858, 1859, 1860, 1861, 1862, 1863, 1864, 1865, 1866, 1867, 1868, 1869, 1870, 1871, 1872, 1873, 1874, 1875, 1876, 1877, 1878, 1879, 1920, 1921, 1922, 1923, 1924, 1925, 1926, 1927, 1928, 1929, 1930, 1931, 1932, 1933, 1934, 1936, 1937, 1938, 1992, 1993, 1994, 1995, 1996, 1997, 1998, 2000, 2001, 2002, 2003, 2049, 2050, 2051, 2052, 2053, 2054, 2055, 2056, 2057, 2058, 2059, 2060, 2061, 2062, 2063, 2064, 2065, 2066, 2067, 2068, 2069, 2518, 2560, 2561, 2562, 2563, 2961, 2962, 2963, 2964, 3988, 3989, 3990, 3991, 4032, 4033, 4034, 4035, 4036, 4037, 4038, 4039, 4040, 4041, 4042, 4043, 4044, 4045, 4046, 4047, 4048, 4049, 4050, 4051, 4052, 4053, 4054, 4055, 4096, 4097, 4098, 4099, 4100, 4101, 4352, 4353, 4354, 4355, 4356, 4357, 4358, 4359, 4360, 4361, 4362, 4363, 4364, 4365, 4366, 4367, 4368, 4369, 4370, 4544, 4545, 4546, 4547, 4548, 4549, 4550, 4551, 4552, 4553, 4554, 4555, 4608, 4609, 4610, 4611, 4612, 4800, 4801, 4802, 4803]
def wsL_march : List Cond := cw 3988 :: (wI sL_march ++ (vx_atS RX10 409 "java/lang/IllegalArgumentException" ["java/lang/RuntimeException", "java/lang/Exception"]).filter goodWord)
theorem mbL_march : ∀ i ∈ sL_march, cw i ∈ wsL_march := fun i h => List.mem_cons_of_mem _ (List.mem_append_left _ (List.mem_map_of_mem h))
def sL_span : List Nat := [2, 19, 20, 64, 78, 79, 80, 148, 149, 200, 201, 202, 203, 208, 276, 322, 323, 324, 326, 328, 329, 330, 331, 595, 644, 649, 650, 651, 652, 653, 654, 655, 656, 657, 658, 659, 660, 661, 662, 663, 704, 705, 706, 1047, 1092, 1093, 1094, 1738, 1739, 1740, 1741, 1742, 1743, 1744, 1745, 1746, 1747, 1748, 1749, 1750, 1751, 1792, 1793, 1794, 1795, 1796, 1797, 1798, 1799, 1800, 1801, 1802, 1803, 1804, 1805, 1806, 1807, 1808, 1809, 1810, 1811, 1812, 1813, 1814, 1815, 1856, 1857, 1858, 1859, 1860, 1861, 1862, 1863, 1864, 1865, 1866, 1867, 1868, 1869, 1870, 1871, 1872, 1873, 1874, 1875, 1876, 1877, 1878, 1879, 1920, 1921, 1922, 1923, 1924, 1925, 1926, 1927, 1928, 1929, 1930, 1931, 1932, 1933, 1934, 1936, 1937, 1938, 1992, 1993, 1994, 1995, 1996, 1997, 1998, 2000, 2001, 2002, 2003, 2049, 2050, 2051, 2052, 2053, 2054, 2055, 2056, 2057, 2058, 2059, 2060, 2061, 2062, 2063, 2064, 2065, 2066, 2067, 2068, 2069, 2755, 2961, 2962, 2963, 2964, 3404, 4033, 4034, 4035, 4036, 4037, 4038, 4039, 4040, 4041, 4042, 4043, 4044, 4045, 4046, 4047, 4048, 4049, 4050, 4051, 4052, 4053, 4054, 4055, 4096, 4097, 4163, 4164, 4165, 4166, 4167, 4168, 4352, 4353, 4354, 4355, 4356, 4357, 4358, 4359, 4360, 4361, 4362, 4363, 4364, 4365, 4366, 4367, 4368, 4369, 4370, 4544, 4545, 4546, 4547, 4548, 4549, 4550, 4551, 4552, 4553, 4554, 4555, 4608, 4609, 4610, 4611, 4612, 4800, 4801, 4802, 4803]
def wsL_span : List Cond := cw 4163 :: (wI sL_span ++ (vx_atS RX10 409 "java/lang/IllegalArgumentException" ["java/lang/RuntimeException", "java/lang/Exception"]).filter goodWord)
theorem mbL_span : ∀ i ∈ sL_span, cw i ∈ wsL_span := fun i h => List.mem_cons_of_mem _ (List.mem_append_left _ (List.mem_map_of_mem h))
abbrev vwCl : List vw_C := [(RX0, TX0, 2), (RX1, TX1, 4), (RX2, TX2, 12), (RX3, TX3, 11), (RX4, TX4, 5), (RX5, TX5, 2), (RX6, TX6, 3), (RX7, TX7, 4), (RX8, TX8, 7), (RX9, TX9, 12), (RX10, TX10, 19), (RX11, TX11, 55)]
