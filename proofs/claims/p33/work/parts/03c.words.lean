def qav9 : List Nat := [257, 261, 262, 4672, 4673]
def wsX0_clear : List Cond := cw 261 :: wI qav9
theorem qaiR : ∀ i ∈ qav9, cw i ∈ wsX0_clear := fun i h => List.mem_cons_of_mem _ (List.mem_map_of_mem h)
theorem qaje : okM 261 qav9 = true := qaq (by decide +kernel)
def qaQi : List Nat := [11, 12, 69, 147, 215, 256, 257, 258, 259, 260, 261, 262, 4672, 4673]
def wsX0_init : List Cond := cw 215 :: wI qaQi
theorem qLA : ∀ i ∈ qaQi, cw i ∈ wsX0_init := fun i h => List.mem_cons_of_mem _ (List.mem_map_of_mem h)
theorem qa9V : okM 215 qaQi = true := qaq (by decide +kernel)
def q4I : List Nat := [715, 726, 4480, 4481, 4482, 4483, 4484, 4485, 4486]
def wsX8_isFaulty : List Cond := cw 726 :: wI q4I
theorem qaho : ∀ i ∈ q4I, cw i ∈ wsX8_isFaulty := fun i h => List.mem_cons_of_mem _ (List.mem_map_of_mem h)
theorem qoR : okM 726 q4I = true := qaq (by decide +kernel)
def qUE : List Nat := [142, 712, 713, 774, 4480, 4481, 4482, 4483, 4484, 4485, 4486]
def wsX8_skipBlanks : List Cond := cw 774 :: wI qUE
theorem qIq : ∀ i ∈ qUE, cw i ∈ wsX8_skipBlanks := fun i h => List.mem_cons_of_mem _ (List.mem_map_of_mem h)
theorem qyu : okM 774 qUE = true := qaq (by decide +kernel)
def qaaT : List Nat := [15, 142, 712, 713, 770, 771, 772, 773, 774, 4480, 4481, 4482, 4483, 4484, 4485, 4486]
def wsX8_isEnded : List Cond := cw 770 :: wI qaaT
theorem qLJ : ∀ i ∈ qaaT, cw i ∈ wsX8_isEnded := fun i h => List.mem_cons_of_mem _ (List.mem_map_of_mem h)
theorem qSb : okM 770 qaaT = true := qaq (by decide +kernel)
def qabd : List Nat := [142, 712, 977, 4480, 4481, 4482, 4483, 4484, 4485, 4486]
def wsX8_digitAt : List Cond := cw 977 :: wI qabd
theorem q22 : ∀ i ∈ qabd, cw i ∈ wsX8_digitAt := fun i h => List.mem_cons_of_mem _ (List.mem_map_of_mem h)
theorem qaoh : okM 977 qabd = true := qaq (by decide +kernel)
def qayR : List Nat := [143, 715, 968, 4480, 4481, 4482, 4483, 4484, 4485, 4486]
def wsX8_blame : List Cond := cw 968 :: wI qayR
theorem qaio : ∀ i ∈ qayR, cw i ∈ wsX8_blame := fun i h => List.mem_cons_of_mem _ (List.mem_map_of_mem h)
theorem qam4 : okM 968 qayR = true := qaq (by decide +kernel)
def qawB : List Nat := [659]
def wsX10_within : List Cond := cw 659 :: wI qawB
theorem qCb : okM 659 qawB = true := qaq (by decide +kernel)
def qalw : List Nat := [2, 15, 142, 143, 650, 651, 652, 658, 659, 711, 712, 713, 714, 715, 724, 725, 726, 771, 772, 773, 774, 835, 965, 966, 967, 968, 972, 973, 974, 975, 976, 977, 4480, 4481, 4482, 4483, 4484, 4485, 4486]
def wsX8_number : List Cond := cw 972 :: wI qalw
theorem qne : ∀ i ∈ qalw, cw i ∈ wsX8_number := fun i h => List.mem_cons_of_mem _ (List.mem_map_of_mem h)
theorem qBu : okM 972 qalw = true := qaq (by decide +kernel)
def qaAP : List Nat := [257, 2441, 4672, 4673]
def wsX0_tells : List Cond := cw 2441 :: wI qaAP
theorem qaLB : ∀ i ∈ qaAP, cw i ∈ wsX0_tells := fun i h => List.mem_cons_of_mem _ (List.mem_map_of_mem h)
theorem qaMo : okM 2441 qaAP = true := qaq (by decide +kernel)
def qTJ : List Nat := [15, 143, 714, 715, 964, 965, 966, 967, 968, 4480, 4481, 4482, 4483, 4484, 4485, 4486]
def wsX8_blameToken : List Cond := cw 964 :: wI qTJ
theorem qID : ∀ i ∈ qTJ, cw i ∈ wsX8_blameToken := fun i h => List.mem_cons_of_mem _ (List.mem_map_of_mem h)
theorem qud : okM 964 qTJ = true := qaq (by decide +kernel)
def qaEs : List Nat := [15, 142, 712, 713, 714, 715, 724, 725, 726, 771, 772, 773, 774, 835, 1025, 4480, 4481, 4482, 4483, 4484, 4485, 4486]
def wsX8_takes : List Cond := cw 1025 :: wI qaEs
theorem qCw : ∀ i ∈ qaEs, cw i ∈ wsX8_takes := fun i h => List.mem_cons_of_mem _ (List.mem_map_of_mem h)
theorem qU9 : okM 1025 qaEs = true := qaq (by decide +kernel)
def qYl : List Nat := [15, 142, 143, 712, 713, 715, 771, 772, 773, 774, 965, 966, 967, 968, 1029, 4480, 4481, 4482, 4483, 4484, 4485, 4486]
def wsX8_blameSign : List Cond := cw 1029 :: wI qYl
theorem qAw : ∀ i ∈ qYl, cw i ∈ wsX8_blameSign := fun i h => List.mem_cons_of_mem _ (List.mem_map_of_mem h)
theorem qEi : okM 1029 qYl = true := qaq (by decide +kernel)
def qazO : List Nat := [15, 142, 143, 712, 713, 714, 715, 724, 725, 726, 771, 772, 773, 774, 835, 965, 966, 967, 968, 981, 982, 983, 1024, 1025, 1026, 1027, 1028, 1029, 4480, 4481, 4482, 4483, 4484, 4485, 4486]
def wsX8_needs : List Cond := cw 981 :: wI qazO
theorem q5t : ∀ i ∈ qazO, cw i ∈ wsX8_needs := fun i h => List.mem_cons_of_mem _ (List.mem_map_of_mem h)
theorem qAz : okM 981 qazO = true := qaq (by decide +kernel)
def q3Q : List Nat := [2, 15, 69, 142, 143, 257, 262, 650, 651, 652, 658, 659, 711, 712, 713, 714, 715, 724, 725, 726, 771, 772, 773, 774, 835, 962, 963, 964, 965, 966, 967, 968, 970, 971, 972, 973, 974, 975, 976, 977, 979, 980, 981, 982, 983, 1024, 1025, 1026, 1027, 1028, 1029, 2391, 2436, 2437, 2438, 2439, 2440, 2441, 2442, 2443, 4480, 4481, 4482, 4483, 4484, 4485, 4486, 4672, 4673]
def wsX0_readLine : List Cond := cw 2436 :: wI q3Q
theorem qmq : ∀ i ∈ q3Q, cw i ∈ wsX0_readLine := fun i h => List.mem_cons_of_mem _ (List.mem_map_of_mem h)
theorem qaQk : okM 2436 q3Q = true := qaq (by decide +kernel)
def q3a : List Nat := [2, 15, 69, 142, 143, 257, 258, 259, 260, 261, 262, 650, 651, 652, 658, 659, 711, 712, 713, 714, 715, 724, 725, 726, 768, 769, 770, 771, 772, 773, 774, 835, 962, 963, 964, 965, 966, 967, 968, 970, 971, 972, 973, 974, 975, 976, 977, 979, 980, 981, 982, 983, 1024, 1025, 1026, 1027, 1028, 1029, 2390, 2391, 2432, 2433, 2434, 2435, 2436, 2437, 2438, 2439, 2440, 2441, 2442, 2443, 4480, 4481, 4482, 4483, 4484, 4485, 4486, 4672, 4673]
def wsX0_readFrom : List Cond := cw 2390 :: wI q3a
theorem qxa : ∀ i ∈ q3a, cw i ∈ wsX0_readFrom := fun i h => List.mem_cons_of_mem _ (List.mem_map_of_mem h)
theorem qaOr : okM 2390 q3a = true := qaq (by decide +kernel)
def qakH : List Nat := [257, 3533, 4672, 4673]
def wsX0_agrees : List Cond := cw 3533 :: wI qakH
theorem qaAK : ∀ i ∈ qakH, cw i ∈ wsX0_agrees := fun i h => List.mem_cons_of_mem _ (List.mem_map_of_mem h)
theorem qaXJ : okM 3533 qakH = true := qaq (by decide +kernel)
def qazX : List Nat := [276, 321, 322, 323, 324, 325, 326, 327, 328, 329, 330, 331, 4544, 4545, 4546, 4547, 4548, 4549, 4550, 4551, 4552, 4553, 4554, 4555, 4800, 4801, 4802, 4803]
def wsX1_begin : List Cond := cw 321 :: wI qazX
theorem qvx : ∀ i ∈ qazX, cw i ∈ wsX1_begin := fun i h => List.mem_cons_of_mem _ (List.mem_map_of_mem h)
theorem qaLD : okM 321 qazX = true := qaq (by decide +kernel)
def qaNS : List Nat := [11, 12, 78, 147, 274, 275, 276, 277, 278, 279, 320, 321, 322, 323, 324, 325, 326, 327, 328, 329, 330, 331, 4544, 4545, 4546, 4547, 4548, 4549, 4550, 4551, 4552, 4553, 4554, 4555, 4800, 4801, 4802, 4803]
def wsX1_init : List Cond := cw 274 :: wI qaNS
theorem qHj : ∀ i ∈ qaNS, cw i ∈ wsX1_init := fun i h => List.mem_cons_of_mem _ (List.mem_map_of_mem h)
theorem qa5f : okM 274 qaNS = true := qaq (by decide +kernel)
def qaRk : List Nat := [323, 1476, 4800, 4801, 4802, 4803]
def wsX1_obey : List Cond := cw 1476 :: wI qaRk
theorem qaUA : ∀ i ∈ qaRk, cw i ∈ wsX1_obey := fun i h => List.mem_cons_of_mem _ (List.mem_map_of_mem h)
theorem qa3d : okM 1476 qaRk = true := qaq (by decide +kernel)
def q0U : List Nat := [276, 322, 323, 328, 329, 330, 331, 2964, 4800, 4801, 4802, 4803]
def wsX1_copyFrom : List Cond := cw 2964 :: wI q0U
theorem qxd : ∀ i ∈ q0U, cw i ∈ wsX1_copyFrom := fun i h => List.mem_cons_of_mem _ (List.mem_map_of_mem h)
theorem qWr : okM 2964 q0U = true := qaq (by decide +kernel)
def qaXh : List Nat := [276, 1875, 4800, 4801, 4802, 4803]
def wsX1_day : List Cond := cw 1875 :: wI qaXh
theorem qa0W : ∀ i ∈ qaXh, cw i ∈ wsX1_day := fun i h => List.mem_cons_of_mem _ (List.mem_map_of_mem h)
theorem qauZ : okM 1875 qaXh = true := qaq (by decide +kernel)
def qaP8 : List Nat := [276, 1986, 4800, 4801, 4802, 4803]
def wsX1_year : List Cond := cw 1986 :: wI qaP8
theorem qaUf : ∀ i ∈ qaP8, cw i ∈ wsX1_year := fun i h => List.mem_cons_of_mem _ (List.mem_map_of_mem h)
theorem qaUv : okM 1986 qaP8 = true := qaq (by decide +kernel)
def qS7 : List Nat := [276, 2563, 4800, 4801, 4802, 4803]
def wsX1_caughtOnes : List Cond := cw 2563 :: wI qS7
theorem q2U : ∀ i ∈ qS7, cw i ∈ wsX1_caughtOnes := fun i h => List.mem_cons_of_mem _ (List.mem_map_of_mem h)
theorem qOX : okM 2563 qS7 = true := qaq (by decide +kernel)
def qYG : List Nat := [276, 2567, 4800, 4801, 4802, 4803]
def wsX1_leaptOnes : List Cond := cw 2567 :: wI qYG
theorem q8b : ∀ i ∈ qYG, cw i ∈ wsX1_leaptOnes := fun i h => List.mem_cons_of_mem _ (List.mem_map_of_mem h)
theorem qaJh : okM 2567 qYG = true := qaq (by decide +kernel)
def q2P : List Nat := [276, 322, 324, 3399, 4544, 4545, 4546, 4547, 4548, 4549, 4550, 4551, 4552, 4553, 4554, 4555, 4800, 4801, 4802, 4803]
def wsX1_freeOnes : List Cond := cw 3399 :: wI q2P
theorem qHZ : ∀ i ∈ q2P, cw i ∈ wsX1_freeOnes := fun i h => List.mem_cons_of_mem _ (List.mem_map_of_mem h)
theorem qaRl : okM 3399 q2P = true := qaq (by decide +kernel)
def q2m : List Nat := [276, 1744, 4800, 4801, 4802, 4803]
def wsX1_isCaught : List Cond := cw 1744 :: wI q2m
theorem qadM : ∀ i ∈ q2m, cw i ∈ wsX1_isCaught := fun i h => List.mem_cons_of_mem _ (List.mem_map_of_mem h)
theorem qoU : okM 1744 q2m = true := qaq (by decide +kernel)
def qaNK : List Nat := [276, 1748, 4800, 4801, 4802, 4803]
def wsX1_sits : List Cond := cw 1748 :: wI qaNK
theorem qaT8 : ∀ i ∈ qaNK, cw i ∈ wsX1_sits := fun i h => List.mem_cons_of_mem _ (List.mem_map_of_mem h)
theorem qEh : okM 1748 qaNK = true := qaq (by decide +kernel)
def qajO : List Nat := [276, 1811, 4800, 4801, 4802, 4803]
def wsX1_strong : List Cond := cw 1811 :: wI qajO
theorem qavI : ∀ i ∈ qajO, cw i ∈ wsX1_strong := fun i h => List.mem_cons_of_mem _ (List.mem_map_of_mem h)
theorem qFh : okM 1811 qajO = true := qaq (by decide +kernel)
def qaxs : List Nat := [276, 1815, 4800, 4801, 4802, 4803]
def wsX1_still : List Cond := cw 1815 :: wI qaxs
theorem qaLy : ∀ i ∈ qaxs, cw i ∈ wsX1_still := fun i h => List.mem_cons_of_mem _ (List.mem_map_of_mem h)
theorem qajA : okM 1815 qaxs = true := qaq (by decide +kernel)
def qavN : List Nat := [276, 1879, 4800, 4801, 4802, 4803]
def wsX1_leaps : List Cond := cw 1879 :: wI qavN
theorem qaLm : ∀ i ∈ qavN, cw i ∈ wsX1_leaps := fun i h => List.mem_cons_of_mem _ (List.mem_map_of_mem h)
theorem qaMj : okM 1879 qavN = true := qaq (by decide +kernel)
def qalt : List Nat := [276, 1863, 4800, 4801, 4802, 4803]
def wsX1_owesTo : List Cond := cw 1863 :: wI qalt
theorem qaxM : ∀ i ∈ qalt, cw i ∈ wsX1_owesTo := fun i h => List.mem_cons_of_mem _ (List.mem_map_of_mem h)
theorem qQA : okM 1863 qalt = true := qaq (by decide +kernel)
def qaNX : List Nat := [78, 276, 322, 324, 1859, 1860, 1861, 1862, 1863, 4544, 4545, 4546, 4547, 4548, 4549, 4550, 4551, 4552, 4553, 4554, 4555, 4800, 4801, 4802, 4803]
def wsX1_owes : List Cond := cw 1859 :: wI qaNX
theorem qU8 : ∀ i ∈ qaNX, cw i ∈ wsX1_owes := fun i h => List.mem_cons_of_mem _ (List.mem_map_of_mem h)
theorem qavY : okM 1859 qaNX = true := qaq (by decide +kernel)
def qaM1 : List Nat := [78, 276, 322, 324, 1860, 1861, 1862, 1863, 1867, 4544, 4545, 4546, 4547, 4548, 4549, 4550, 4551, 4552, 4553, 4554, 4555, 4800, 4801, 4802, 4803]
def wsX1_owed : List Cond := cw 1867 :: wI qaM1
theorem qVY : ∀ i ∈ qaM1, cw i ∈ wsX1_owed := fun i h => List.mem_cons_of_mem _ (List.mem_map_of_mem h)
theorem qaA4 : okM 1867 qaM1 = true := qaq (by decide +kernel)
def q1e : List Nat := [78, 276, 322, 324, 1856, 1857, 1858, 1859, 1860, 1861, 1862, 1863, 2571, 4544, 4545, 4546, 4547, 4548, 4549, 4550, 4551, 4552, 4553, 4554, 4555, 4800, 4801, 4802, 4803]
def wsX1_allDebts : List Cond := cw 2571 :: wI q1e
theorem qDa : ∀ i ∈ q1e, cw i ∈ wsX1_allDebts := fun i h => List.mem_cons_of_mem _ (List.mem_map_of_mem h)
theorem qah4 : okM 2571 q1e = true := qaq (by decide +kernel)
def q2p : List Nat := [78, 276, 322, 324, 1741, 1742, 1743, 1744, 1745, 1746, 1747, 1748, 1800, 4544, 4545, 4546, 4547, 4548, 4549, 4550, 4551, 4552, 4553, 4554, 4555, 4800, 4801, 4802, 4803]
def wsX1_seatedIn : List Cond := cw 1800 :: wI q2p
theorem qwK : ∀ i ∈ q2p, cw i ∈ wsX1_seatedIn := fun i h => List.mem_cons_of_mem _ (List.mem_map_of_mem h)
theorem qWL : okM 1800 q2p = true := qaq (by decide +kernel)
def qH4 : List Nat := [78, 276, 322, 324, 1741, 1742, 1743, 1744, 1808, 1809, 1810, 1811, 4105, 4544, 4545, 4546, 4547, 4548, 4549, 4550, 4551, 4552, 4553, 4554, 4555, 4800, 4801, 4802, 4803]
def wsX1_strongTogether : List Cond := cw 4105 :: wI qH4
theorem qpm : ∀ i ∈ qH4, cw i ∈ wsX1_strongTogether := fun i h => List.mem_cons_of_mem _ (List.mem_map_of_mem h)
theorem qab8 : okM 4105 qH4 = true := qaq (by decide +kernel)
def qI9 : List Nat := [1804, 1805, 1806, 1807]
def wsJ6_bitCount_0f7a4 : List Cond := cw 1804 :: wI qI9
theorem qFH : ∀ i ∈ qI9, cw i ∈ wsJ6_bitCount_0f7a4 := fun i h => List.mem_cons_of_mem _ (List.mem_map_of_mem h)
theorem qFm : okM 1804 qI9 = true := qaq (by decide +kernel)
def q0V : List Nat := [203, 1871, 4608, 4609, 4610, 4611, 4612]
def wsX4_setFacts : List Cond := cw 1871 :: wI q0V
theorem qae2 : ∀ i ∈ q0V, cw i ∈ wsX4_setFacts := fun i h => List.mem_cons_of_mem _ (List.mem_map_of_mem h)
theorem qaeG : okM 1871 q0V = true := qaq (by decide +kernel)
def q2E : List Nat := [203, 1923, 4608, 4609, 4610, 4611, 4612]
def wsX4_setTimes : List Cond := cw 1923 :: wI q2E
theorem qafE : ∀ i ∈ q2E, cw i ∈ wsX4_setTimes := fun i h => List.mem_cons_of_mem _ (List.mem_map_of_mem h)
theorem qad3 : okM 1923 q2E = true := qaq (by decide +kernel)
def qaLE : List Nat := [1934]
def wsX4_joined : List Cond := cw 1934 :: wI qaLE
theorem qaZp : okM 1934 qaLE = true := qaq (by decide +kernel)
def qaAm : List Nat := [64, 200, 201, 202, 203, 208, 650, 651, 652, 1927, 1928, 1929, 1930, 1931, 1932, 1933, 1934, 4608, 4609, 4610, 4611, 4612]
def wsX4_reach : List Cond := cw 1927 :: wI qaAm
theorem qsY : ∀ i ∈ qaAm, cw i ∈ wsX4_reach := fun i h => List.mem_cons_of_mem _ (List.mem_map_of_mem h)
theorem qaLj : okM 1927 qaAm = true := qaq (by decide +kernel)
def qawJ : List Nat := [64, 78, 200, 201, 202, 203, 208, 276, 322, 323, 324, 650, 651, 652, 1741, 1742, 1743, 1744, 1745, 1746, 1747, 1748, 1796, 1797, 1798, 1799, 1800, 1801, 1802, 1803, 1804, 1805, 1806, 1807, 1808, 1809, 1810, 1811, 1812, 1813, 1814, 1815, 1856, 1857, 1858, 1859, 1860, 1861, 1862, 1863, 1864, 1865, 1866, 1867, 1868, 1869, 1870, 1871, 1872, 1873, 1874, 1875, 1876, 1877, 1878, 1879, 1920, 1921, 1922, 1923, 1924, 1925, 1926, 1927, 1928, 1929, 1930, 1931, 1932, 1933, 1934, 4544, 4545, 4546, 4547, 4548, 4549, 4550, 4551, 4552, 4553, 4554, 4555, 4608, 4609, 4610, 4611, 4612, 4800, 4801, 4802, 4803]
def wsX1_reach : List Cond := cw 1796 :: wI qawJ
theorem qiw : ∀ i ∈ qawJ, cw i ∈ wsX1_reach := fun i h => List.mem_cons_of_mem _ (List.mem_map_of_mem h)
theorem q5j : okM 1796 qawJ = true := qaq (by decide +kernel)
def qawK : List Nat := [148, 149, 651, 1092, 1093, 1094, 1792, 4544, 4545, 4546, 4547, 4548, 4549, 4550, 4551, 4552, 4553, 4554, 4555]
def wsX2_apart : List Cond := cw 1792 :: wI qawK
theorem qJ5 : ∀ i ∈ qawK, cw i ∈ wsX2_apart := fun i h => List.mem_cons_of_mem _ (List.mem_map_of_mem h)
theorem qOu : okM 1792 qawK = true := qaq (by decide +kernel)
def qXk : List Nat := [19, 64, 78, 148, 149, 200, 201, 202, 203, 208, 276, 322, 323, 324, 650, 651, 652, 1092, 1093, 1094, 1740, 1741, 1742, 1743, 1744, 1745, 1746, 1747, 1748, 1749, 1750, 1751, 1792, 1793, 1794, 1795, 1796, 1797, 1798, 1799, 1800, 1801, 1802, 1803, 1804, 1805, 1806, 1807, 1808, 1809, 1810, 1811, 1812, 1813, 1814, 1815, 1856, 1857, 1858, 1859, 1860, 1861, 1862, 1863, 1864, 1865, 1866, 1867, 1868, 1869, 1870, 1871, 1872, 1873, 1874, 1875, 1876, 1877, 1878, 1879, 1920, 1921, 1922, 1923, 1924, 1925, 1926, 1927, 1928, 1929, 1930, 1931, 1932, 1933, 1934, 4544, 4545, 4546, 4547, 4548, 4549, 4550, 4551, 4552, 4553, 4554, 4555, 4608, 4609, 4610, 4611, 4612, 4800, 4801, 4802, 4803]
def wsX1_couldLeap : List Cond := cw 1740 :: wI qXk
theorem qrP : ∀ i ∈ qXk, cw i ∈ wsX1_couldLeap := fun i h => List.mem_cons_of_mem _ (List.mem_map_of_mem h)
theorem qTy : okM 1740 qXk = true := qaq (by decide +kernel)
def qRl : List Nat := [19, 148, 149, 651, 720, 1092, 1093, 1094, 1750, 1751, 1792, 3024, 3025, 4544, 4545, 4546, 4547, 4548, 4549, 4550, 4551, 4552, 4553, 4554, 4555]
def wsX2_formsWithin : List Cond := cw 3024 :: wI qRl
theorem qE6 : ∀ i ∈ qRl, cw i ∈ wsX2_formsWithin := fun i h => List.mem_cons_of_mem _ (List.mem_map_of_mem h)
theorem qMH : okM 3024 qRl = true := qaq (by decide +kernel)
def q4g : List Nat := [19, 64, 78, 148, 149, 200, 201, 202, 203, 208, 276, 322, 323, 324, 650, 651, 652, 720, 1092, 1093, 1094, 1741, 1742, 1743, 1744, 1745, 1746, 1747, 1748, 1750, 1751, 1792, 1793, 1794, 1795, 1796, 1797, 1798, 1799, 1800, 1801, 1802, 1803, 1804, 1805, 1806, 1807, 1808, 1809, 1810, 1811, 1812, 1813, 1814, 1815, 1856, 1857, 1858, 1859, 1860, 1861, 1862, 1863, 1864, 1865, 1866, 1867, 1868, 1869, 1870, 1871, 1872, 1873, 1874, 1875, 1876, 1877, 1878, 1879, 1920, 1921, 1922, 1923, 1924, 1925, 1926, 1927, 1928, 1929, 1930, 1931, 1932, 1933, 1934, 3022, 3023, 3024, 3025, 3092, 4544, 4545, 4546, 4547, 4548, 4549, 4550, 4551, 4552, 4553, 4554, 4555, 4608, 4609, 4610, 4611, 4612, 4800, 4801, 4802, 4803]
def wsX1_leapable : List Cond := cw 3092 :: wI q4g
theorem qqO : ∀ i ∈ q4g, cw i ∈ wsX1_leapable := fun i h => List.mem_cons_of_mem _ (List.mem_map_of_mem h)
theorem qafZ : okM 3092 q4g = true := qaq (by decide +kernel)
def qaOq : List Nat := [276, 1998, 4800, 4801, 4802, 4803]
def wsX1_stir : List Cond := cw 1998 :: wI qaOq
theorem qaTi : ∀ i ∈ qaOq, cw i ∈ wsX1_stir := fun i h => List.mem_cons_of_mem _ (List.mem_map_of_mem h)
theorem qaTL : okM 1998 qaOq = true := qaq (by decide +kernel)
def qakx : List Nat := [78, 276, 1994, 1995, 1996, 1997, 1998, 4800, 4801, 4802, 4803]
def wsX1_leapTo : List Cond := cw 1994 :: wI qakx
theorem qXP : ∀ i ∈ qakx, cw i ∈ wsX1_leapTo := fun i h => List.mem_cons_of_mem _ (List.mem_map_of_mem h)
theorem qaEd : okM 1994 qakx = true := qaq (by decide +kernel)
def qUu : List Nat := [78, 276, 1741, 1742, 1743, 1744, 1745, 1746, 1747, 1748, 1938, 4800, 4801, 4802, 4803]
def wsX1_couldFight : List Cond := cw 1938 :: wI qUu
theorem qI7 : ∀ i ∈ qUu, cw i ∈ wsX1_couldFight := fun i h => List.mem_cons_of_mem _ (List.mem_map_of_mem h)
theorem q4d : okM 1938 qUu = true := qaq (by decide +kernel)
def qaBG : List Nat := [78, 276, 651, 1808, 1809, 1810, 1811, 1930, 1931, 1995, 1996, 1997, 1998, 2002, 2003, 4800, 4801, 4802, 4803]
def wsX1_fight : List Cond := cw 2002 :: wI qaBG
theorem qAG : ∀ i ∈ qaBG, cw i ∈ wsX1_fight := fun i h => List.mem_cons_of_mem _ (List.mem_map_of_mem h)
theorem qaMk : okM 2002 qaBG = true := qaq (by decide +kernel)
def q26 : List Nat := [78, 276, 1741, 1742, 1743, 1744, 1860, 1861, 1862, 1863, 1942, 4800, 4801, 4802, 4803]
def wsX1_couldPay : List Cond := cw 1942 :: wI q26
theorem qNW : ∀ i ∈ q26, cw i ∈ wsX1_couldPay := fun i h => List.mem_cons_of_mem _ (List.mem_map_of_mem h)
theorem qaPI : okM 1942 q26 = true := qaq (by decide +kernel)
def qaaw : List Nat := [276, 2007, 4800, 4801, 4802, 4803]
def wsX1_payBack : List Cond := cw 2007 :: wI qaaw
theorem qaoE : ∀ i ∈ qaaw, cw i ∈ wsX1_payBack := fun i h => List.mem_cons_of_mem _ (List.mem_map_of_mem h)
theorem qaWm : okM 2007 qaaw = true := qaq (by decide +kernel)
def qaLS : List Nat := [2053]
def wsX10_holds : List Cond := cw 2053 :: wI qaLS
theorem qq0 : okM 2053 qaLS = true := qaq (by decide +kernel)
def qalk : List Nat := [2, 1047, 2052, 2053, 2065, 4544, 4545, 4546, 4547, 4548, 4549, 4550, 4551, 4552, 4553, 4554, 4555]
def wsX2_isSafe : List Cond := cw 2065 :: wI qalk
theorem qPn : ∀ i ∈ qalk, cw i ∈ wsX2_isSafe := fun i h => List.mem_cons_of_mem _ (List.mem_map_of_mem h)
theorem q9P : okM 2065 qalk = true := qaq (by decide +kernel)
def qS4 : List Nat := [2, 19, 78, 276, 322, 324, 1047, 1741, 1742, 1743, 1744, 1745, 1746, 1747, 1748, 1812, 1813, 1814, 1815, 2052, 2053, 2061, 2062, 2063, 2064, 2065, 4544, 4545, 4546, 4547, 4548, 4549, 4550, 4551, 4552, 4553, 4554, 4555, 4800, 4801, 4802, 4803]
def wsX1_endangered : List Cond := cw 2061 :: wI qS4
theorem qn3 : ∀ i ∈ qS4, cw i ∈ wsX1_endangered := fun i h => List.mem_cons_of_mem _ (List.mem_map_of_mem h)
theorem q3Y : okM 2061 qS4 = true := qaq (by decide +kernel)
def qXQ : List Nat := [276, 322, 324, 2069, 4544, 4545, 4546, 4547, 4548, 4549, 4550, 4551, 4552, 4553, 4554, 4555, 4800, 4801, 4802, 4803]
def wsX1_dropDebts : List Cond := cw 2069 :: wI qXQ
theorem qDO : ∀ i ∈ qXQ, cw i ∈ wsX1_dropDebts := fun i h => List.mem_cons_of_mem _ (List.mem_map_of_mem h)
theorem qaES : okM 2069 qXQ = true := qaq (by decide +kernel)
def qai3 : List Nat := [2, 19, 78, 276, 322, 324, 326, 1047, 1741, 1742, 1743, 1744, 1745, 1746, 1747, 1748, 1812, 1813, 1814, 1815, 2052, 2053, 2057, 2058, 2059, 2060, 2061, 2062, 2063, 2064, 2065, 2066, 2067, 2068, 2069, 4544, 4545, 4546, 4547, 4548, 4549, 4550, 4551, 4552, 4553, 4554, 4555, 4800, 4801, 4802, 4803]
def wsX1_strike : List Cond := cw 2057 :: wI qai3
theorem qth : ∀ i ∈ qai3, cw i ∈ wsX1_strike := fun i h => List.mem_cons_of_mem _ (List.mem_map_of_mem h)
theorem qaXt : okM 2057 qai3 = true := qaq (by decide +kernel)
def qacw : List Nat := [2, 19, 78, 276, 322, 324, 326, 1047, 1741, 1742, 1743, 1744, 1745, 1746, 1747, 1748, 1812, 1813, 1814, 1815, 2051, 2052, 2053, 2054, 2055, 2056, 2057, 2058, 2059, 2060, 2061, 2062, 2063, 2064, 2065, 2066, 2067, 2068, 2069, 4544, 4545, 4546, 4547, 4548, 4549, 4550, 4551, 4552, 4553, 4554, 4555, 4800, 4801, 4802, 4803]
def wsX1_passDay : List Cond := cw 2051 :: wI qacw
theorem qvt : ∀ i ∈ qacw, cw i ∈ wsX1_passDay := fun i h => List.mem_cons_of_mem _ (List.mem_map_of_mem h)
theorem q1u : okM 2051 qacw = true := qaq (by decide +kernel)
def q1b : List Nat := [4044, 4045]
def wsX1_nextSeed : List Cond := cw 4044 :: wI q1b
theorem qaNu : ∀ i ∈ q1b, cw i ∈ wsX1_nextSeed := fun i h => List.mem_cons_of_mem _ (List.mem_map_of_mem h)
theorem qaO3 : okM 4044 q1b = true := qaq (by decide +kernel)
def qahu : List Nat := [4048]
def wsX1_drawnBits : List Cond := cw 4048 :: wI qahu
theorem qaKU : okM 4048 qahu = true := qaq (by decide +kernel)
def qKi : List Nat := [19, 64, 78, 148, 149, 200, 201, 202, 203, 208, 276, 322, 323, 324, 650, 651, 652, 1092, 1093, 1094, 1738, 1739, 1740, 1741, 1742, 1743, 1744, 1745, 1746, 1747, 1748, 1749, 1750, 1751, 1792, 1793, 1794, 1795, 1796, 1797, 1798, 1799, 1800, 1801, 1802, 1803, 1804, 1805, 1806, 1807, 1808, 1809, 1810, 1811, 1812, 1813, 1814, 1815, 1856, 1857, 1858, 1859, 1860, 1861, 1862, 1863, 1864, 1865, 1866, 1867, 1868, 1869, 1870, 1871, 1872, 1873, 1874, 1875, 1876, 1877, 1878, 1879, 1920, 1921, 1922, 1923, 1924, 1925, 1926, 1927, 1928, 1929, 1930, 1931, 1932, 1933, 1934, 1992, 1993, 1994, 1995, 1996, 1997, 1998, 4052, 4053, 4054, 4544, 4545, 4546, 4547, 4548, 4549, 4550, 4551, 4552, 4553, 4554, 4555, 4608, 4609, 4610, 4611, 4612, 4800, 4801, 4802, 4803]
def wsX1_leapIfAllowed : List Cond := cw 4052 :: wI qKi
theorem qBe : ∀ i ∈ qKi, cw i ∈ wsX1_leapIfAllowed := fun i h => List.mem_cons_of_mem _ (List.mem_map_of_mem h)
theorem qagI : okM 4052 qKi = true := qaq (by decide +kernel)
def qHT : List Nat := [78, 276, 651, 1741, 1742, 1743, 1744, 1745, 1746, 1747, 1748, 1808, 1809, 1810, 1811, 1930, 1931, 1936, 1937, 1938, 1995, 1996, 1997, 1998, 2000, 2001, 2002, 2003, 4098, 4099, 4100, 4800, 4801, 4802, 4803]
def wsX1_fightIfAllowed : List Cond := cw 4098 :: wI qHT
theorem qzy : ∀ i ∈ qHT, cw i ∈ wsX1_fightIfAllowed := fun i h => List.mem_cons_of_mem _ (List.mem_map_of_mem h)
theorem qabk : okM 4098 qHT = true := qaq (by decide +kernel)
def q4c : List Nat := [2, 19, 64, 78, 148, 149, 200, 201, 202, 203, 208, 276, 322, 323, 324, 326, 650, 651, 652, 1047, 1092, 1093, 1094, 1738, 1739, 1740, 1741, 1742, 1743, 1744, 1745, 1746, 1747, 1748, 1749, 1750, 1751, 1792, 1793, 1794, 1795, 1796, 1797, 1798, 1799, 1800, 1801, 1802, 1803, 1804, 1805, 1806, 1807, 1808, 1809, 1810, 1811, 1812, 1813, 1814, 1815, 1856, 1857, 1858, 1859, 1860, 1861, 1862, 1863, 1864, 1865, 1866, 1867, 1868, 1869, 1870, 1871, 1872, 1873, 1874, 1875, 1876, 1877, 1878, 1879, 1920, 1921, 1922, 1923, 1924, 1925, 1926, 1927, 1928, 1929, 1930, 1931, 1932, 1933, 1934, 1936, 1937, 1938, 1992, 1993, 1994, 1995, 1996, 1997, 1998, 2000, 2001, 2002, 2003, 2049, 2050, 2051, 2052, 2053, 2054, 2055, 2056, 2057, 2058, 2059, 2060, 2061, 2062, 2063, 2064, 2065, 2066, 2067, 2068, 2069, 4040, 4041, 4042, 4043, 4044, 4045, 4046, 4047, 4048, 4049, 4050, 4051, 4052, 4053, 4054, 4055, 4096, 4097, 4098, 4099, 4100, 4101, 4544, 4545, 4546, 4547, 4548, 4549, 4550, 4551, 4552, 4553, 4554, 4555, 4608, 4609, 4610, 4611, 4612, 4800, 4801, 4802, 4803]
def wsX1_drawDays : List Cond := cw 4040 :: wI q4c
theorem qnE : ∀ i ∈ q4c, cw i ∈ wsX1_drawDays := fun i h => List.mem_cons_of_mem _ (List.mem_map_of_mem h)
theorem qahJ : okM 4040 q4c = true := qaq (by decide +kernel)
def qaam : List Nat := [277, 322, 324, 650, 651, 652, 3848, 3852, 4544, 4545, 4546, 4547, 4548, 4549, 4550, 4551, 4552, 4553, 4554, 4555, 4800, 4801, 4802, 4803]
def wsX1_givenBy : List Cond := cw 3852 :: wI qaam
theorem qxp : ∀ i ∈ qaam, cw i ∈ wsX1_givenBy := fun i h => List.mem_cons_of_mem _ (List.mem_map_of_mem h)
theorem qaTC : okM 3852 qaam = true := qaq (by decide +kernel)
def qYw : List Nat := [2, 78, 276, 277, 322, 324, 650, 651, 652, 1860, 1861, 1862, 1863, 1864, 1865, 1866, 1867, 2052, 2053, 3847, 3848, 3849, 3850, 3851, 3852, 4544, 4545, 4546, 4547, 4548, 4549, 4550, 4551, 4552, 4553, 4554, 4555, 4800, 4801, 4802, 4803]
def wsX1_cloverFor : List Cond := cw 3847 :: wI qYw
theorem qkx : ∀ i ∈ qYw, cw i ∈ wsX1_cloverFor := fun i h => List.mem_cons_of_mem _ (List.mem_map_of_mem h)
theorem qaE0 : okM 3847 qYw = true := qaq (by decide +kernel)
def qaO5 : List Nat := [11, 12, 145, 146, 147, 148, 149, 150, 151, 192, 193, 194, 195, 4544, 4545, 4546, 4547, 4548, 4549, 4550, 4551, 4552, 4553, 4554, 4555]
def wsX2_init : List Cond := cw 145 :: wI qaO5
theorem qyW : ∀ i ∈ qaO5, cw i ∈ wsX2_init := fun i h => List.mem_cons_of_mem _ (List.mem_map_of_mem h)
theorem qa9a : okM 145 qaO5 = true := qaq (by decide +kernel)
def qOQ : List Nat := [832, 833, 834]
def wsJ0_coder_7d493 : List Cond := cw 832 :: wI qOQ
theorem qYP : ∀ i ∈ qOQ, cw i ∈ wsJ0_coder_7d493 := fun i h => List.mem_cons_of_mem _ (List.mem_map_of_mem h)
theorem qapJ : okM 832 qOQ = true := qaq (by decide +kernel)
def qMm : List Nat := [786, 787, 788, 789, 790, 791, 832, 833, 834]
def wsJ0_length_8abf5 : List Cond := cw 787 :: wI qMm
theorem qJz : ∀ i ∈ qMm, cw i ∈ wsJ0_length_8abf5 := fun i h => List.mem_cons_of_mem _ (List.mem_map_of_mem h)
theorem qVw : okM 787 qMm = true := qaq (by decide +kernel)
def q1Y : List Nat := [142, 712, 839, 4480, 4481, 4482, 4483, 4484, 4485, 4486]
def wsX8_isLetter : List Cond := cw 839 :: wI q1Y
theorem qXx : ∀ i ∈ q1Y, cw i ∈ wsX8_isLetter := fun i h => List.mem_cons_of_mem _ (List.mem_map_of_mem h)
theorem qaNy : okM 839 q1Y = true := qaq (by decide +kernel)
def qIY : List Nat := [833, 834, 847]
def wsJ0_isLatin1_aae02 : List Cond := cw 847 :: wI qIY
theorem qQD : ∀ i ∈ qIY, cw i ∈ wsJ0_isLatin1_aae02 := fun i h => List.mem_cons_of_mem _ (List.mem_map_of_mem h)
theorem qaaD : okM 847 qIY = true := qaq (by decide +kernel)
def qNt : List Nat := [899]
def wsJ3_checkIndex_8e157 : List Cond := cw 899 :: wI qNt
theorem q1U : okM 899 qNt = true := qaq (by decide +kernel)
def qDq : List Nat := [854, 855, 896, 897, 898, 899]
def wsJ0_checkIndex_df160 : List Cond := cw 854 :: wI qDq
theorem qBx : ∀ i ∈ qDq, cw i ∈ wsJ0_checkIndex_df160 := fun i h => List.mem_cons_of_mem _ (List.mem_map_of_mem h)
theorem q4O : okM 854 qDq = true := qaq (by decide +kernel)
def qMz : List Nat := [786, 851, 852, 853, 854, 855, 896, 897, 898, 899]
def wsJ1_charAt_3b067 : List Cond := cw 851 :: wI qMz
theorem qVE : ∀ i ∈ qMz, cw i ∈ wsJ1_charAt_3b067 := fun i h => List.mem_cons_of_mem _ (List.mem_map_of_mem h)
theorem qal2 : okM 851 qMz = true := qaq (by decide +kernel)
def qL2 : List Nat := [786, 788, 833, 834, 843, 844, 845, 846, 847, 848, 849, 850, 851, 852, 853, 854, 855, 896, 897, 898, 899, 900, 901, 902, 903, 904, 905, 906, 907, 908, 909, 910, 911, 912, 913, 914, 915, 916]
def wsJ0_charAt_5068e : List Cond := cw 843 :: wI qL2
theorem qyP : ∀ i ∈ qL2, cw i ∈ wsJ0_charAt_5068e := fun i h => List.mem_cons_of_mem _ (List.mem_map_of_mem h)
theorem qV2 : okM 843 qL2 = true := qaq (by decide +kernel)
def qYe : List Nat := [15, 142, 712, 713, 714, 715, 724, 725, 726, 771, 772, 773, 774, 782, 783, 784, 785, 786, 787, 788, 789, 790, 791, 832, 833, 834, 835, 836, 837, 838, 839, 840, 841, 842, 843, 844, 845, 846, 847, 848, 849, 850, 851, 852, 853, 854, 855, 896, 897, 898, 899, 900, 901, 902, 903, 904, 905, 906, 907, 908, 909, 910, 911, 912, 913, 914, 915, 916, 4480, 4481, 4482, 4483, 4484, 4485, 4486]
def wsX8_takesWord : List Cond := cw 782 :: wI qYe
theorem qld : ∀ i ∈ qYe, cw i ∈ wsX8_takesWord := fun i h => List.mem_cons_of_mem _ (List.mem_map_of_mem h)
theorem qKD : okM 782 qYe = true := qaq (by decide +kernel)
def q15 : List Nat := [2, 15, 142, 143, 148, 149, 650, 651, 652, 658, 659, 711, 712, 713, 714, 715, 720, 724, 725, 726, 771, 772, 773, 774, 835, 960, 961, 962, 963, 964, 965, 966, 967, 968, 969, 970, 971, 972, 973, 974, 975, 976, 977, 978, 979, 980, 981, 982, 983, 1024, 1025, 1026, 1027, 1028, 1029, 4480, 4481, 4482, 4483, 4484, 4485, 4486, 4544, 4545, 4546, 4547, 4548, 4549, 4550, 4551, 4552, 4553, 4554, 4555]
def wsX2_readForm : List Cond := cw 960 :: wI q15
theorem qtN : ∀ i ∈ q15, cw i ∈ wsX2_readForm := fun i h => List.mem_cons_of_mem _ (List.mem_map_of_mem h)
theorem qaNU : okM 960 q15 = true := qaq (by decide +kernel)
def q3x : List Nat := [2, 15, 142, 143, 192, 193, 650, 651, 652, 658, 659, 711, 712, 713, 714, 715, 720, 721, 724, 725, 726, 771, 772, 773, 774, 835, 961, 962, 963, 964, 965, 966, 967, 968, 969, 970, 971, 972, 973, 974, 975, 976, 977, 978, 979, 980, 981, 982, 983, 1024, 1025, 1026, 1027, 1028, 1029, 1033, 4480, 4481, 4482, 4483, 4484, 4485, 4486, 4544, 4545, 4546, 4547, 4548, 4549, 4550, 4551, 4552, 4553, 4554, 4555]
def wsX2_readHare : List Cond := cw 1033 :: wI q3x
theorem qsf : ∀ i ∈ q3x, cw i ∈ wsX2_readHare := fun i h => List.mem_cons_of_mem _ (List.mem_map_of_mem h)
theorem qaNT : okM 1033 q3x = true := qaq (by decide +kernel)
def qaaS : List Nat := [2, 15, 142, 143, 150, 151, 650, 651, 652, 658, 659, 711, 712, 713, 714, 715, 722, 724, 725, 726, 771, 772, 773, 774, 835, 961, 962, 963, 964, 965, 966, 967, 968, 969, 970, 971, 972, 973, 974, 975, 976, 977, 978, 979, 980, 981, 982, 983, 1024, 1025, 1026, 1027, 1028, 1029, 1037, 4480, 4481, 4482, 4483, 4484, 4485, 4486, 4544, 4545, 4546, 4547, 4548, 4549, 4550, 4551, 4552, 4553, 4554, 4555]
def wsX2_readFox : List Cond := cw 1037 :: wI qaaS
theorem qve : ∀ i ∈ qaaS, cw i ∈ wsX2_readFox := fun i h => List.mem_cons_of_mem _ (List.mem_map_of_mem h)
theorem qaUc : okM 1037 qaaS = true := qaq (by decide +kernel)
def q1X : List Nat := [2, 15, 142, 143, 194, 650, 651, 652, 658, 659, 711, 712, 713, 714, 715, 721, 723, 724, 725, 726, 771, 772, 773, 774, 835, 961, 962, 963, 964, 965, 966, 967, 968, 969, 970, 971, 972, 973, 974, 975, 976, 977, 978, 979, 980, 981, 982, 983, 1024, 1025, 1026, 1027, 1028, 1029, 1041, 4480, 4481, 4482, 4483, 4484, 4485, 4486, 4544, 4545, 4546, 4547, 4548, 4549, 4550, 4551, 4552, 4553, 4554, 4555]
def wsX2_readDebt : List Cond := cw 1041 :: wI q1X
theorem qr9 : ∀ i ∈ q1X, cw i ∈ wsX2_readDebt := fun i h => List.mem_cons_of_mem _ (List.mem_map_of_mem h)
theorem qaNB : okM 1041 q1X = true := qaq (by decide +kernel)
def qTD : List Nat := [2, 15, 19, 142, 143, 148, 149, 150, 151, 192, 193, 194, 650, 651, 652, 658, 659, 711, 712, 713, 714, 715, 720, 721, 722, 723, 724, 725, 726, 771, 772, 773, 774, 778, 779, 780, 781, 782, 783, 784, 785, 786, 787, 788, 789, 790, 791, 832, 833, 834, 835, 836, 837, 838, 839, 840, 841, 842, 843, 844, 845, 846, 847, 848, 849, 850, 851, 852, 853, 854, 855, 896, 897, 898, 899, 900, 901, 902, 903, 904, 905, 906, 907, 908, 909, 910, 911, 912, 913, 914, 915, 916, 917, 918, 919, 960, 961, 962, 963, 964, 965, 966, 967, 968, 969, 970, 971, 972, 973, 974, 975, 976, 977, 978, 979, 980, 981, 982, 983, 1024, 1025, 1026, 1027, 1028, 1029, 1030, 1031, 1032, 1033, 1034, 1035, 1036, 1037, 1038, 1039, 1040, 1041, 1042, 4480, 4481, 4482, 4483, 4484, 4485, 4486, 4544, 4545, 4546, 4547, 4548, 4549, 4550, 4551, 4552, 4553, 4554, 4555]
def wsX2_readClause : List Cond := cw 778 :: wI qTD
theorem qnS : ∀ i ∈ qTD, cw i ∈ wsX2_readClause := fun i h => List.mem_cons_of_mem _ (List.mem_map_of_mem h)
theorem qavH : okM 778 qTD = true := qaq (by decide +kernel)
def qYy : List Nat := [148, 149, 150, 151, 651, 722, 1091, 1092, 1093, 1094, 4544, 4545, 4546, 4547, 4548, 4549, 4550, 4551, 4552, 4553, 4554, 4555]
def wsX2_foxIsNear : List Cond := cw 1091 :: wI qYy
theorem qrL : ∀ i ∈ qYy, cw i ∈ wsX2_foxIsNear := fun i h => List.mem_cons_of_mem _ (List.mem_map_of_mem h)
theorem qaJV : okM 1091 qYy = true := qaq (by decide +kernel)
def q3h : List Nat := [19, 148, 149, 150, 151, 651, 720, 722, 1046, 1047, 1088, 1089, 1090, 1091, 1092, 1093, 1094, 4544, 4545, 4546, 4547, 4548, 4549, 4550, 4551, 4552, 4553, 4554, 4555]
def wsX2_findSafe : List Cond := cw 1046 :: wI q3h
theorem qIb : ∀ i ∈ q3h, cw i ∈ wsX2_findSafe := fun i h => List.mem_cons_of_mem _ (List.mem_map_of_mem h)
theorem qaNF : okM 1046 q3h = true := qaq (by decide +kernel)
def q3T : List Nat := [2, 15, 19, 142, 143, 148, 149, 150, 151, 192, 193, 194, 650, 651, 652, 658, 659, 711, 712, 713, 714, 715, 719, 720, 721, 722, 723, 724, 725, 726, 727, 768, 769, 770, 771, 772, 773, 774, 775, 776, 777, 778, 779, 780, 781, 782, 783, 784, 785, 786, 787, 788, 789, 790, 791, 832, 833, 834, 835, 836, 837, 838, 839, 840, 841, 842, 843, 844, 845, 846, 847, 848, 849, 850, 851, 852, 853, 854, 855, 896, 897, 898, 899, 900, 901, 902, 903, 904, 905, 906, 907, 908, 909, 910, 911, 912, 913, 914, 915, 916, 917, 918, 919, 960, 961, 962, 963, 964, 965, 966, 967, 968, 969, 970, 971, 972, 973, 974, 975, 976, 977, 978, 979, 980, 981, 982, 983, 1024, 1025, 1026, 1027, 1028, 1029, 1030, 1031, 1032, 1033, 1034, 1035, 1036, 1037, 1038, 1039, 1040, 1041, 1042, 1043, 1044, 1045, 1046, 1047, 1088, 1089, 1090, 1091, 1092, 1093, 1094, 4480, 4481, 4482, 4483, 4484, 4485, 4486, 4544, 4545, 4546, 4547, 4548, 4549, 4550, 4551, 4552, 4553, 4554, 4555]
def wsX2_readFrom : List Cond := cw 719 :: wI q3T
theorem qpG : ∀ i ∈ q3T, cw i ∈ wsX2_readFrom := fun i h => List.mem_cons_of_mem _ (List.mem_map_of_mem h)
theorem qaRI : okM 719 q3T = true := qaq (by decide +kernel)
def qRe : List Nat := [2, 19, 148, 149, 651, 720, 1092, 1093, 1094, 1750, 1751, 1792, 2052, 2053, 3020, 3021, 3022, 3023, 3024, 3025, 4544, 4545, 4546, 4547, 4548, 4549, 4550, 4551, 4552, 4553, 4554, 4555]
def wsX2_hopsBetween : List Cond := cw 3020 :: wI qRe
theorem quC : ∀ i ∈ qRe, cw i ∈ wsX2_hopsBetween := fun i h => List.mem_cons_of_mem _ (List.mem_map_of_mem h)
theorem qauB : okM 3020 qRe = true := qaq (by decide +kernel)
def q2v : List Nat := [2, 195, 720, 2052, 2053, 3714, 4544, 4545, 4546, 4547, 4548, 4549, 4550, 4551, 4552, 4553, 4554, 4555]
def wsX2_seenFrom : List Cond := cw 3714 :: wI q2v
theorem qCF : ∀ i ∈ q2v, cw i ∈ wsX2_seenFrom := fun i h => List.mem_cons_of_mem _ (List.mem_map_of_mem h)
theorem qaNq : okM 3714 q2v = true := qaq (by decide +kernel)
def q1C : List Nat := [2, 19, 148, 149, 195, 651, 720, 1092, 1093, 1094, 1750, 1751, 1792, 1802, 1803, 1804, 1805, 1806, 1807, 2052, 2053, 3021, 3022, 3023, 3024, 3025, 3669, 3670, 3671, 3712, 3713, 3714, 4544, 4545, 4546, 4547, 4548, 4549, 4550, 4551, 4552, 4553, 4554, 4555]
def wsX2_watchers : List Cond := cw 3669 :: wI q1C
theorem qva : ∀ i ∈ q1C, cw i ∈ wsX2_watchers := fun i h => List.mem_cons_of_mem _ (List.mem_map_of_mem h)
theorem qaRd : okM 3669 q1C = true := qaq (by decide +kernel)
def qaNP : List Nat := [11, 12, 147, 388, 389, 390, 391, 392, 393, 5056, 5057, 5058, 5059, 5060, 5061, 5062, 5063, 5064, 5065, 5066]
def wsX3_init : List Cond := cw 388 :: wI qaNP
theorem qGY : ∀ i ∈ qaNP, cw i ∈ wsX3_init := fun i h => List.mem_cons_of_mem _ (List.mem_map_of_mem h)
theorem qa3G : okM 388 qaNP = true := qaq (by decide +kernel)
def qTA : List Nat := [390, 391, 3529, 5056, 5057, 5058, 5059, 5060, 5061, 5062, 5063, 5064, 5065, 5066]
def wsX3_seatedThen : List Cond := cw 3529 :: wI qTA
theorem qQb : ∀ i ∈ qTA, cw i ∈ wsX3_seatedThen := fun i h => List.mem_cons_of_mem _ (List.mem_map_of_mem h)
theorem q2B : okM 3529 qTA = true := qaq (by decide +kernel)
def q2I : List Nat := [69, 136, 257, 390, 391, 3470, 3471, 3525, 3526, 3527, 3528, 3529, 3530, 3531, 3532, 3533, 4672, 4673, 5056, 5057, 5058, 5059, 5060, 5061, 5062, 5063, 5064, 5065, 5066]
def wsX3_allRight : List Cond := cw 3525 :: wI q2I
theorem qzM : ∀ i ∈ q2I, cw i ∈ wsX3_allRight := fun i h => List.mem_cons_of_mem _ (List.mem_map_of_mem h)
theorem qaP6 : okM 3525 q2I = true := qaq (by decide +kernel)
def q3O : List Nat := [69, 136, 257, 390, 391, 3470, 3471, 3472, 3473, 3521, 3522, 3523, 3524, 3525, 3526, 3527, 3528, 3529, 3530, 3531, 3532, 3533, 4672, 4673, 5056, 5057, 5058, 5059, 5060, 5061, 5062, 5063, 5064, 5065, 5066]
def wsX3_formsFor : List Cond := cw 3521 :: wI q3O
theorem qC9 : ∀ i ∈ q3O, cw i ∈ wsX3_formsFor := fun i h => List.mem_cons_of_mem _ (List.mem_map_of_mem h)
theorem qaPq : okM 3521 q3O = true := qaq (by decide +kernel)
def qakd : List Nat := [69, 78, 136, 257, 276, 322, 324, 390, 391, 392, 1741, 1742, 1743, 1744, 1745, 1746, 1747, 1748, 1798, 1799, 1800, 1802, 1803, 1804, 1805, 1806, 1807, 3465, 3466, 3467, 3468, 3469, 3470, 3471, 3472, 3473, 3474, 3475, 3476, 3477, 3478, 3479, 3520, 3521, 3522, 3523, 3524, 3525, 3526, 3527, 3528, 3529, 3530, 3531, 3532, 3533, 4544, 4545, 4546, 4547, 4548, 4549, 4550, 4551, 4552, 4553, 4554, 4555, 4672, 4673, 4800, 4801, 4802, 4803, 5056, 5057, 5058, 5059, 5060, 5061, 5062, 5063, 5064, 5065, 5066]
def wsX3_settle : List Cond := cw 3465 :: wI qakd
theorem qh2 : ∀ i ∈ qakd, cw i ∈ wsX3_settle := fun i h => List.mem_cons_of_mem _ (List.mem_map_of_mem h)
theorem qayy : okM 3465 qakd = true := qaq (by decide +kernel)
def qaaq : List Nat := [2, 393, 658, 659, 3650, 5056, 5057, 5058, 5059, 5060, 5061, 5062, 5063, 5064, 5065, 5066]
def wsX3_tallied : List Cond := cw 3650 :: wI qaaq
theorem qLh : ∀ i ∈ qaaq, cw i ∈ wsX3_tallied := fun i h => List.mem_cons_of_mem _ (List.mem_map_of_mem h)
theorem qaVk : okM 3650 qaaq = true := qaq (by decide +kernel)
def q8w : List Nat := [2, 136, 390, 391, 392, 393, 651, 658, 659, 1930, 1931, 2052, 2053, 3468, 3470, 3526, 3527, 3528, 3529, 3605, 3606, 3607, 3648, 3649, 3650, 5056, 5057, 5058, 5059, 5060, 5061, 5062, 5063, 5064, 5065, 5066]
def wsX3_worstAt : List Cond := cw 3605 :: wI q8w
theorem qoz : ∀ i ∈ q8w, cw i ∈ wsX3_worstAt := fun i h => List.mem_cons_of_mem _ (List.mem_map_of_mem h)
theorem qaUu : okM 3605 q8w = true := qaq (by decide +kernel)
def qWq : List Nat := [2, 69, 136, 257, 390, 391, 392, 393, 651, 658, 659, 1930, 1931, 2052, 2053, 2439, 2440, 2441, 3468, 3470, 3471, 3526, 3527, 3528, 3529, 3598, 3599, 3600, 3601, 3602, 3603, 3604, 3605, 3606, 3607, 3648, 3649, 3650, 4672, 4673, 5056, 5057, 5058, 5059, 5060, 5061, 5062, 5063, 5064, 5065, 5066]
def wsX3_lookAhead : List Cond := cw 3598 :: wI qWq
theorem qtM : ∀ i ∈ qWq, cw i ∈ wsX3_lookAhead := fun i h => List.mem_cons_of_mem _ (List.mem_map_of_mem h)
theorem qaGt : okM 3598 qWq = true := qaq (by decide +kernel)
def qaZk : List Nat := [200, 201, 208, 212, 4608, 4609, 4610, 4611, 4612]
def wsX4_add : List Cond := cw 212 :: wI qaZk
theorem qavj : ∀ i ∈ qaZk, cw i ∈ wsX4_add := fun i h => List.mem_cons_of_mem _ (List.mem_map_of_mem h)
theorem q5s : okM 212 qaZk = true := qaq (by decide +kernel)
def q4h : List Nat := [64, 200, 201, 207, 208, 209, 210, 211, 212, 4608, 4609, 4610, 4611, 4612]
def wsX4_setPlain : List Cond := cw 207 :: wI q4h
theorem qOg : ∀ i ∈ q4h, cw i ∈ wsX4_setPlain := fun i h => List.mem_cons_of_mem _ (List.mem_map_of_mem h)
theorem qadB : okM 207 q4h = true := qaq (by decide +kernel)
def qaMS : List Nat := [11, 12, 64, 147, 198, 199, 200, 201, 202, 203, 204, 205, 206, 207, 208, 209, 210, 211, 212, 4608, 4609, 4610, 4611, 4612]
def wsX4_init : List Cond := cw 198 :: wI qaMS
theorem qCe : ∀ i ∈ qaMS, cw i ∈ wsX4_init := fun i h => List.mem_cons_of_mem _ (List.mem_map_of_mem h)
theorem qa9f : okM 198 qaMS = true := qaq (by decide +kernel)
def qX1 : List Nat := [15, 142, 712, 713, 771, 772, 773, 774, 974, 975, 976, 977, 1414, 4480, 4481, 4482, 4483, 4484, 4485, 4486]
def wsX8_seesDigit : List Cond := cw 1414 :: wI qX1
theorem qAH : ∀ i ∈ qX1, cw i ∈ wsX8_seesDigit := fun i h => List.mem_cons_of_mem _ (List.mem_map_of_mem h)
theorem qaEV : okM 1414 qX1 = true := qaq (by decide +kernel)
def q3P : List Nat := [15, 64, 142, 143, 200, 201, 208, 209, 210, 211, 212, 712, 713, 714, 715, 724, 725, 726, 771, 772, 773, 774, 780, 781, 782, 783, 784, 785, 786, 787, 788, 789, 790, 791, 832, 833, 834, 835, 836, 837, 838, 839, 840, 841, 842, 843, 844, 845, 846, 847, 848, 849, 850, 851, 852, 853, 854, 855, 896, 897, 898, 899, 900, 901, 902, 903, 904, 905, 906, 907, 908, 909, 910, 911, 912, 913, 914, 915, 916, 965, 966, 967, 968, 1027, 1028, 1029, 1419, 1426, 1427, 4480, 4481, 4482, 4483, 4484, 4485, 4486, 4608, 4609, 4610, 4611, 4612]
def wsX4_readFact : List Cond := cw 1426 :: wI q3P
theorem qCE : ∀ i ∈ q3P, cw i ∈ wsX4_readFact := fun i h => List.mem_cons_of_mem _ (List.mem_map_of_mem h)
theorem qaN7 : okM 1426 q3P = true := qaq (by decide +kernel)
def qYv : List Nat := [2, 15, 64, 142, 143, 200, 201, 208, 209, 210, 211, 212, 650, 651, 652, 658, 659, 711, 712, 713, 714, 715, 724, 725, 726, 771, 772, 773, 774, 780, 781, 782, 783, 784, 785, 786, 787, 788, 789, 790, 791, 832, 833, 834, 835, 836, 837, 838, 839, 840, 841, 842, 843, 844, 845, 846, 847, 848, 849, 850, 851, 852, 853, 854, 855, 896, 897, 898, 899, 900, 901, 902, 903, 904, 905, 906, 907, 908, 909, 910, 911, 912, 913, 914, 915, 916, 962, 963, 964, 965, 966, 967, 968, 970, 971, 972, 973, 974, 975, 976, 977, 979, 980, 981, 982, 983, 1024, 1025, 1026, 1027, 1028, 1029, 1353, 1354, 1355, 1356, 1357, 1358, 1359, 1360, 1361, 1362, 1363, 1364, 1365, 1366, 1367, 1408, 1409, 1410, 1411, 1412, 1413, 1414, 1415, 1416, 1417, 1418, 1419, 1420, 1421, 1422, 1423, 1424, 1425, 1426, 1427, 4480, 4481, 4482, 4483, 4484, 4485, 4486, 4608, 4609, 4610, 4611, 4612]
def wsX4_readInner : List Cond := cw 1362 :: wI qYv
theorem qAq : ∀ i ∈ qYv, cw i ∈ wsX4_readInner := fun i h => List.mem_cons_of_mem _ (List.mem_map_of_mem h)
theorem qaJ2 : okM 1362 qYv = true := qaq (by decide +kernel)
def q2e : List Nat := [2, 15, 64, 142, 143, 200, 201, 208, 209, 210, 211, 212, 650, 651, 652, 658, 659, 711, 712, 713, 714, 715, 724, 725, 726, 771, 772, 773, 774, 780, 781, 782, 783, 784, 785, 786, 787, 788, 789, 790, 791, 832, 833, 834, 835, 836, 837, 838, 839, 840, 841, 842, 843, 844, 845, 846, 847, 848, 849, 850, 851, 852, 853, 854, 855, 896, 897, 898, 899, 900, 901, 902, 903, 904, 905, 906, 907, 908, 909, 910, 911, 912, 913, 914, 915, 916, 962, 963, 964, 965, 966, 967, 968, 970, 971, 972, 973, 974, 975, 976, 977, 979, 980, 981, 982, 983, 1024, 1025, 1026, 1027, 1028, 1029, 1353, 1354, 1355, 1356, 1357, 1358, 1359, 1360, 1361, 1362, 1363, 1364, 1365, 1366, 1367, 1408, 1409, 1410, 1411, 1412, 1413, 1414, 1415, 1416, 1417, 1418, 1419, 1420, 1421, 1422, 1423, 1424, 1425, 1426, 1427, 4480, 4481, 4482, 4483, 4484, 4485, 4486, 4608, 4609, 4610, 4611, 4612]
def wsX4_readPair : List Cond := cw 1365 :: wI q2e
theorem qwH : ∀ i ∈ q2e, cw i ∈ wsX4_readPair := fun i h => List.mem_cons_of_mem _ (List.mem_map_of_mem h)
theorem qaNw : okM 1365 q2e = true := qaq (by decide +kernel)
def qRb : List Nat := [2, 15, 64, 142, 143, 200, 201, 208, 209, 210, 211, 212, 650, 651, 652, 658, 659, 711, 712, 713, 714, 715, 724, 725, 726, 771, 772, 773, 774, 780, 781, 782, 783, 784, 785, 786, 787, 788, 789, 790, 791, 832, 833, 834, 835, 836, 837, 838, 839, 840, 841, 842, 843, 844, 845, 846, 847, 848, 849, 850, 851, 852, 853, 854, 855, 896, 897, 898, 899, 900, 901, 902, 903, 904, 905, 906, 907, 908, 909, 910, 911, 912, 913, 914, 915, 916, 962, 963, 964, 965, 966, 967, 968, 970, 971, 972, 973, 974, 975, 976, 977, 979, 980, 981, 982, 983, 1024, 1025, 1026, 1027, 1028, 1029, 1353, 1354, 1355, 1356, 1357, 1358, 1359, 1360, 1361, 1362, 1363, 1364, 1365, 1366, 1367, 1408, 1409, 1410, 1411, 1412, 1413, 1414, 1415, 1416, 1417, 1418, 1419, 1420, 1421, 1422, 1423, 1424, 1425, 1426, 1427, 4480, 4481, 4482, 4483, 4484, 4485, 4486, 4608, 4609, 4610, 4611, 4612]
def wsX4_readProduct : List Cond := cw 1366 :: wI qRb
theorem qsz : ∀ i ∈ qRb, cw i ∈ wsX4_readProduct := fun i h => List.mem_cons_of_mem _ (List.mem_map_of_mem h)
theorem qas0 : okM 1366 qRb = true := qaq (by decide +kernel)
def q8W : List Nat := [2, 15, 64, 142, 143, 200, 201, 208, 209, 210, 211, 212, 650, 651, 652, 658, 659, 711, 712, 713, 714, 715, 724, 725, 726, 771, 772, 773, 774, 780, 781, 782, 783, 784, 785, 786, 787, 788, 789, 790, 791, 832, 833, 834, 835, 836, 837, 838, 839, 840, 841, 842, 843, 844, 845, 846, 847, 848, 849, 850, 851, 852, 853, 854, 855, 896, 897, 898, 899, 900, 901, 902, 903, 904, 905, 906, 907, 908, 909, 910, 911, 912, 913, 914, 915, 916, 962, 963, 964, 965, 966, 967, 968, 970, 971, 972, 973, 974, 975, 976, 977, 979, 980, 981, 982, 983, 1024, 1025, 1026, 1027, 1028, 1029, 1353, 1354, 1355, 1356, 1357, 1358, 1359, 1360, 1361, 1362, 1363, 1364, 1365, 1366, 1367, 1408, 1409, 1410, 1411, 1412, 1413, 1414, 1415, 1416, 1417, 1418, 1419, 1420, 1421, 1422, 1423, 1424, 1425, 1426, 1427, 4480, 4481, 4482, 4483, 4484, 4485, 4486, 4608, 4609, 4610, 4611, 4612]
def wsX4_readSum : List Cond := cw 1356 :: wI q8W
theorem qy6 : ∀ i ∈ q8W, cw i ∈ wsX4_readSum := fun i h => List.mem_cons_of_mem _ (List.mem_map_of_mem h)
theorem q3Z : okM 1356 q8W = true := qaq (by decide +kernel)
def q2o : List Nat := [2, 15, 64, 142, 143, 200, 201, 208, 209, 210, 211, 212, 650, 651, 652, 658, 659, 711, 712, 713, 714, 715, 724, 725, 726, 771, 772, 773, 774, 780, 781, 782, 783, 784, 785, 786, 787, 788, 789, 790, 791, 832, 833, 834, 835, 836, 837, 838, 839, 840, 841, 842, 843, 844, 845, 846, 847, 848, 849, 850, 851, 852, 853, 854, 855, 896, 897, 898, 899, 900, 901, 902, 903, 904, 905, 906, 907, 908, 909, 910, 911, 912, 913, 914, 915, 916, 962, 963, 964, 965, 966, 967, 968, 970, 971, 972, 973, 974, 975, 976, 977, 979, 980, 981, 982, 983, 1024, 1025, 1026, 1027, 1028, 1029, 1353, 1354, 1355, 1356, 1357, 1358, 1359, 1360, 1361, 1362, 1363, 1364, 1365, 1366, 1367, 1408, 1409, 1410, 1411, 1412, 1413, 1414, 1415, 1416, 1417, 1418, 1419, 1420, 1421, 1422, 1423, 1424, 1425, 1426, 1427, 4480, 4481, 4482, 4483, 4484, 4485, 4486, 4608, 4609, 4610, 4611, 4612]
def wsX4_readUnit : List Cond := cw 1410 :: wI q2o
theorem qly : ∀ i ∈ q2o, cw i ∈ wsX4_readUnit := fun i h => List.mem_cons_of_mem _ (List.mem_map_of_mem h)
theorem qaRx : okM 1410 q2o = true := qaq (by decide +kernel)
def q3e : List Nat := [15, 142, 143, 712, 713, 715, 768, 769, 770, 771, 772, 773, 774, 965, 966, 967, 968, 1026, 1027, 1028, 1029, 1431, 1472, 4480, 4481, 4482, 4483, 4484, 4485, 4486]
def wsX8_needsEnd : List Cond := cw 1431 :: wI q3e
theorem qOa : ∀ i ∈ q3e, cw i ∈ wsX8_needsEnd := fun i h => List.mem_cons_of_mem _ (List.mem_map_of_mem h)
theorem qaQN : okM 1431 q3e = true := qaq (by decide +kernel)
def q2H : List Nat := [2, 15, 64, 142, 143, 200, 201, 208, 209, 210, 211, 212, 650, 651, 652, 658, 659, 711, 712, 713, 714, 715, 724, 725, 726, 768, 769, 770, 771, 772, 773, 774, 780, 781, 782, 783, 784, 785, 786, 787, 788, 789, 790, 791, 832, 833, 834, 835, 836, 837, 838, 839, 840, 841, 842, 843, 844, 845, 846, 847, 848, 849, 850, 851, 852, 853, 854, 855, 896, 897, 898, 899, 900, 901, 902, 903, 904, 905, 906, 907, 908, 909, 910, 911, 912, 913, 914, 915, 916, 962, 963, 964, 965, 966, 967, 968, 970, 971, 972, 973, 974, 975, 976, 977, 979, 980, 981, 982, 983, 1024, 1025, 1026, 1027, 1028, 1029, 1352, 1353, 1354, 1355, 1356, 1357, 1358, 1359, 1360, 1361, 1362, 1363, 1364, 1365, 1366, 1367, 1408, 1409, 1410, 1411, 1412, 1413, 1414, 1415, 1416, 1417, 1418, 1419, 1420, 1421, 1422, 1423, 1424, 1425, 1426, 1427, 1428, 1429, 1430, 1431, 1472, 4480, 4481, 4482, 4483, 4484, 4485, 4486, 4608, 4609, 4610, 4611, 4612]
def wsX4_readFrom : List Cond := cw 1352 :: wI q2H
theorem qCJ : ∀ i ∈ q2H, cw i ∈ wsX4_readFrom := fun i h => List.mem_cons_of_mem _ (List.mem_map_of_mem h)
theorem qaSe : okM 1352 q2H = true := qaq (by decide +kernel)
def qaMM : List Nat := [11, 12, 147, 333, 334, 335, 4864, 4865]
def wsX5_init : List Cond := cw 333 :: wI qaMM
theorem qVc : ∀ i ∈ qaMM, cw i ∈ wsX5_init := fun i h => List.mem_cons_of_mem _ (List.mem_map_of_mem h)
theorem qa5d : okM 333 qaMM = true := qaq (by decide +kernel)
def qaOU : List Nat := [329, 330, 331, 335, 1675, 1676, 1677, 1678, 4800, 4801, 4802, 4803, 4864, 4865]
def wsX5_push : List Cond := cw 1675 :: wI qaOU
theorem qGO : ∀ i ∈ qaOU, cw i ∈ wsX5_push := fun i h => List.mem_cons_of_mem _ (List.mem_map_of_mem h)
theorem qaST : okM 1675 qaOU = true := qaq (by decide +kernel)
def qaW5 : List Nat := [329, 330, 331, 335, 1676, 1677, 1678, 2504, 4800, 4801, 4802, 4803, 4864, 4865]
def wsX5_pop : List Cond := cw 2504 :: wI qaW5
theorem qOr : ∀ i ∈ qaW5, cw i ∈ wsX5_pop := fun i h => List.mem_cons_of_mem _ (List.mem_map_of_mem h)
theorem qa0R : okM 2504 qaW5 = true := qaq (by decide +kernel)
def q09 : List Nat := [329, 330, 331, 335, 1676, 1678, 4224, 4864, 4865]
def wsX5_copyFrom : List Cond := cw 4224 :: wI q09
theorem qzc : ∀ i ∈ q09, cw i ∈ wsX5_copyFrom := fun i h => List.mem_cons_of_mem _ (List.mem_map_of_mem h)
theorem qaf0 : okM 4224 q09 = true := qaq (by decide +kernel)
def qaQh : List Nat := [11, 12, 147, 337, 338, 339, 340, 4928, 4929, 4930]
def wsX6_init : List Cond := cw 337 :: wI qaQh
theorem qQp : ∀ i ∈ qaQh, cw i ∈ wsX6_init := fun i h => List.mem_cons_of_mem _ (List.mem_map_of_mem h)
theorem qa91 : okM 337 qaQh = true := qaq (by decide +kernel)
def qaa9 : List Nat := [19, 148, 149, 339, 651, 1092, 1093, 1094, 1750, 1751, 1792, 3276, 3280, 4544, 4545, 4546, 4547, 4548, 4549, 4550, 4551, 4552, 4553, 4554, 4555, 4928, 4929, 4930]
def wsX6_wayOver : List Cond := cw 3280 :: wI qaa9
theorem qRV : ∀ i ∈ qaa9, cw i ∈ wsX6_wayOver := fun i h => List.mem_cons_of_mem _ (List.mem_map_of_mem h)
theorem qaor : okM 3280 qaa9 = true := qaq (by decide +kernel)
def q4v : List Nat := [2, 19, 128, 148, 149, 339, 650, 651, 652, 1092, 1093, 1094, 1750, 1751, 1792, 2052, 2053, 3265, 3273, 3274, 3275, 3276, 3277, 3278, 3279, 3280, 4544, 4545, 4546, 4547, 4548, 4549, 4550, 4551, 4552, 4553, 4554, 4555, 4928, 4929, 4930]
def wsX6_leastWay : List Cond := cw 3273 :: wI q4v
theorem qoX : ∀ i ∈ q4v, cw i ∈ wsX6_leastWay := fun i h => List.mem_cons_of_mem _ (List.mem_map_of_mem h)
theorem qaef : okM 3273 q4v = true := qaq (by decide +kernel)
def qYn : List Nat := [2, 19, 128, 148, 149, 339, 650, 651, 652, 1092, 1093, 1094, 1750, 1751, 1792, 2052, 2053, 3265, 3269, 3270, 3271, 3272, 3273, 3274, 3275, 3276, 3277, 3278, 3279, 3280, 4544, 4545, 4546, 4547, 4548, 4549, 4550, 4551, 4552, 4553, 4554, 4555, 4928, 4929, 4930]
def wsX6_settleFor : List Cond := cw 3269 :: wI qYn
theorem qtB : ∀ i ∈ qYn, cw i ∈ wsX6_settleFor := fun i h => List.mem_cons_of_mem _ (List.mem_map_of_mem h)
theorem qaGV : okM 3269 qYn = true := qaq (by decide +kernel)
def qYb : List Nat := [2, 19, 128, 148, 149, 339, 651, 1092, 1093, 1094, 1750, 1751, 1792, 2052, 2053, 3265, 3276, 3277, 3278, 3279, 3280, 3328, 4544, 4545, 4546, 4547, 4548, 4549, 4550, 4551, 4552, 4553, 4554, 4555, 4928, 4929, 4930]
def wsX6_firstBest : List Cond := cw 3328 :: wI qYb
theorem qtI : ∀ i ∈ qYb, cw i ∈ wsX6_firstBest := fun i h => List.mem_cons_of_mem _ (List.mem_map_of_mem h)
theorem qaFN : okM 3328 qYb = true := qaq (by decide +kernel)
def qaNz : List Nat := [2, 19, 128, 148, 149, 339, 340, 651, 1092, 1093, 1094, 1750, 1751, 1792, 2052, 2053, 3265, 3276, 3277, 3278, 3279, 3280, 3284, 3285, 3286, 3287, 3328, 4544, 4545, 4546, 4547, 4548, 4549, 4550, 4551, 4552, 4553, 4554, 4555, 4928, 4929, 4930]
def wsX6_walk : List Cond := cw 3284 :: wI qaNz
theorem qV8 : ∀ i ∈ qaNz, cw i ∈ wsX6_walk := fun i h => List.mem_cons_of_mem _ (List.mem_map_of_mem h)
theorem qa5R : okM 3284 qaNz = true := qaq (by decide +kernel)
def qano : List Nat := [2, 19, 128, 148, 149, 339, 340, 650, 651, 652, 1092, 1093, 1094, 1750, 1751, 1792, 2052, 2053, 3223, 3264, 3265, 3266, 3267, 3268, 3269, 3270, 3271, 3272, 3273, 3274, 3275, 3276, 3277, 3278, 3279, 3280, 3281, 3282, 3283, 3284, 3285, 3286, 3287, 3328, 4544, 4545, 4546, 4547, 4548, 4549, 4550, 4551, 4552, 4553, 4554, 4555, 4928, 4929, 4930]
def wsX6_settle : List Cond := cw 3223 :: wI qano
theorem qvX : ∀ i ∈ qano, cw i ∈ wsX6_settle := fun i h => List.mem_cons_of_mem _ (List.mem_map_of_mem h)
theorem qaxj : okM 3223 qano = true := qaq (by decide +kernel)
def qaNr : List Nat := [11, 12, 147, 342, 343, 384, 385, 386, 4992, 4993, 4994, 4995]
def wsX7_init : List Cond := cw 342 :: wI qaNr
theorem qLD : ∀ i ∈ qaNr, cw i ∈ wsX7_init := fun i h => List.mem_cons_of_mem _ (List.mem_map_of_mem h)
theorem qa7h : okM 342 qaNr = true := qaq (by decide +kernel)
def qXc : List Nat := [19, 64, 78, 148, 149, 200, 201, 202, 203, 208, 276, 322, 323, 324, 650, 651, 652, 720, 1092, 1093, 1094, 1741, 1742, 1743, 1744, 1745, 1746, 1747, 1748, 1750, 1751, 1792, 1793, 1794, 1795, 1796, 1797, 1798, 1799, 1800, 1801, 1802, 1803, 1804, 1805, 1806, 1807, 1808, 1809, 1810, 1811, 1812, 1813, 1814, 1815, 1856, 1857, 1858, 1859, 1860, 1861, 1862, 1863, 1864, 1865, 1866, 1867, 1868, 1869, 1870, 1871, 1872, 1873, 1874, 1875, 1876, 1877, 1878, 1879, 1920, 1921, 1922, 1923, 1924, 1925, 1926, 1927, 1928, 1929, 1930, 1931, 1932, 1933, 1934, 3022, 3023, 3024, 3025, 3079, 3086, 3087, 3088, 3089, 3090, 3091, 3092, 3093, 4544, 4545, 4546, 4547, 4548, 4549, 4550, 4551, 4552, 4553, 4554, 4555, 4608, 4609, 4610, 4611, 4612, 4800, 4801, 4802, 4803]
def wsX7_allowedTo : List Cond := cw 3086 :: wI qXc
theorem qrK : ∀ i ∈ qXc, cw i ∈ wsX7_allowedTo := fun i h => List.mem_cons_of_mem _ (List.mem_map_of_mem h)
theorem qaLb : okM 3086 qXc = true := qaq (by decide +kernel)
def qTz : List Nat := [384, 3142, 4992, 4993, 4994, 4995]
def wsX7_mostBehind : List Cond := cw 3142 :: wI qTz
theorem q03 : ∀ i ∈ qTz, cw i ∈ wsX7_mostBehind := fun i h => List.mem_cons_of_mem _ (List.mem_map_of_mem h)
theorem q0G : okM 3142 qTz = true := qaq (by decide +kernel)
def q3E : List Nat := [2, 132, 384, 385, 651, 1930, 1931, 2052, 2053, 3137, 3138, 3139, 3140, 3141, 3142, 4992, 4993, 4994, 4995]
def wsX7_mostFrom : List Cond := cw 3137 :: wI q3E
theorem qrT : ∀ i ∈ q3E, cw i ∈ wsX7_mostFrom := fun i h => List.mem_cons_of_mem _ (List.mem_map_of_mem h)
theorem qaPD : okM 3137 q3E = true := qaq (by decide +kernel)
def qX2 : List Nat := [2, 132, 384, 385, 2052, 2053, 3139, 3140, 3141, 3142, 3150, 4992, 4993, 4994, 4995]
def wsX7_firstBest : List Cond := cw 3150 :: wI qX2
theorem qvf : ∀ i ∈ qX2, cw i ∈ wsX7_firstBest := fun i h => List.mem_cons_of_mem _ (List.mem_map_of_mem h)
theorem qaKI : okM 3150 qX2 = true := qaq (by decide +kernel)
def qaSE : List Nat := [2, 132, 384, 385, 386, 2052, 2053, 3139, 3140, 3141, 3142, 3146, 3147, 3148, 3149, 3150, 4992, 4993, 4994, 4995]
def wsX7_give : List Cond := cw 3146 :: wI qaSE
theorem qahZ : ∀ i ∈ qaSE, cw i ∈ wsX7_give := fun i h => List.mem_cons_of_mem _ (List.mem_map_of_mem h)
theorem qa7w : okM 3146 qaSE = true := qaq (by decide +kernel)
def qaiE : List Nat := [2, 19, 64, 78, 132, 148, 149, 200, 201, 202, 203, 208, 276, 322, 323, 324, 384, 385, 386, 650, 651, 652, 720, 1092, 1093, 1094, 1741, 1742, 1743, 1744, 1745, 1746, 1747, 1748, 1750, 1751, 1792, 1793, 1794, 1795, 1796, 1797, 1798, 1799, 1800, 1801, 1802, 1803, 1804, 1805, 1806, 1807, 1808, 1809, 1810, 1811, 1812, 1813, 1814, 1815, 1856, 1857, 1858, 1859, 1860, 1861, 1862, 1863, 1864, 1865, 1866, 1867, 1868, 1869, 1870, 1871, 1872, 1873, 1874, 1875, 1876, 1877, 1878, 1879, 1920, 1921, 1922, 1923, 1924, 1925, 1926, 1927, 1928, 1929, 1930, 1931, 1932, 1933, 1934, 2052, 2053, 3022, 3023, 3024, 3025, 3078, 3079, 3080, 3081, 3082, 3083, 3084, 3085, 3086, 3087, 3088, 3089, 3090, 3091, 3092, 3093, 3094, 3095, 3136, 3137, 3138, 3139, 3140, 3141, 3142, 3143, 3144, 3145, 3146, 3147, 3148, 3149, 3150, 4544, 4545, 4546, 4547, 4548, 4549, 4550, 4551, 4552, 4553, 4554, 4555, 4608, 4609, 4610, 4611, 4612, 4800, 4801, 4802, 4803, 4992, 4993, 4994, 4995]
def wsX7_settle : List Cond := cw 3078 :: wI qaiE
theorem qq8 : ∀ i ∈ qaiE, cw i ∈ wsX7_settle := fun i h => List.mem_cons_of_mem _ (List.mem_map_of_mem h)
theorem qaC5 : okM 3078 qaiE = true := qaq (by decide +kernel)
def qaRA : List Nat := [11, 12, 139, 140, 141, 142, 143, 4480, 4481, 4482, 4483, 4484, 4485, 4486]
def wsX8_init : List Cond := cw 139 :: wI qaRA
theorem qOV : ∀ i ∈ qaRA, cw i ∈ wsX8_init := fun i h => List.mem_cons_of_mem _ (List.mem_map_of_mem h)
theorem qa5e : okM 139 qaRA = true := qaq (by decide +kernel)
def qabo : List Nat := [579, 580, 4480, 4481, 4482, 4483, 4484, 4485, 4486]
def wsX8_hasRoom : List Cond := cw 579 :: wI qabo
theorem qan6 : ∀ i ∈ qabo, cw i ∈ wsX8_hasRoom := fun i h => List.mem_cons_of_mem _ (List.mem_map_of_mem h)
theorem qaU4 : okM 579 qabo = true := qaq (by decide +kernel)
def qaXs : List Nat := [142, 580, 584, 4480, 4481, 4482, 4483, 4484, 4485, 4486]
def wsX8_put : List Cond := cw 584 :: wI qaXs
theorem qaSm : ∀ i ∈ qaXs, cw i ∈ wsX8_put := fun i h => List.mem_cons_of_mem _ (List.mem_map_of_mem h)
theorem qbbV : okM 584 qaXs = true := qaq (by decide +kernel)
def qaQz : List Nat := [143, 580, 650, 651, 652, 710, 711, 712, 713, 714, 715, 4480, 4481, 4482, 4483, 4484, 4485, 4486]
def wsX8_open : List Cond := cw 710 :: wI qaQz
theorem qCf : ∀ i ∈ qaQz, cw i ∈ wsX8_open := fun i h => List.mem_cons_of_mem _ (List.mem_map_of_mem h)
theorem qa72 : okM 710 qaQz = true := qaq (by decide +kernel)
def qaSf : List Nat := [11, 12, 147, 264, 265, 266, 267, 268, 269, 270, 271, 4736, 4737, 4738, 4739, 4740, 4741, 4742, 4743, 4744, 4745, 4746, 4747]
def wsX9_init : List Cond := cw 264 :: wI qaSf
theorem qBG : ∀ i ∈ qaSf, cw i ∈ wsX9_init := fun i h => List.mem_cons_of_mem _ (List.mem_map_of_mem h)
theorem qa92 : okM 264 qaSf = true := qaq (by decide +kernel)
def qaXp : List Nat := [266, 267, 268, 269, 1606, 1618, 4736, 4737, 4738, 4739, 4740, 4741, 4742, 4743, 4744, 4745, 4746, 4747]
def wsX9_add : List Cond := cw 1618 :: wI qaXp
theorem q5q : ∀ i ∈ qaXp, cw i ∈ wsX9_add := fun i h => List.mem_cons_of_mem _ (List.mem_map_of_mem h)
theorem qaRn : okM 1618 qaXp = true := qaq (by decide +kernel)
def qYi : List Nat := [74, 266, 267, 268, 269, 270, 1606, 1607, 1614, 1615, 1616, 1617, 1618, 4736, 4737, 4738, 4739, 4740, 4741, 4742, 4743, 4744, 4745, 4746, 4747]
def wsX9_closeLoop : List Cond := cw 1614 :: wI qYi
theorem qxN : ∀ i ∈ qYi, cw i ∈ wsX9_closeLoop := fun i h => List.mem_cons_of_mem _ (List.mem_map_of_mem h)
theorem qaKc : okM 1614 qYi = true := qaq (by decide +kernel)
def q0P : List Nat := [2, 15, 74, 142, 143, 266, 267, 268, 269, 270, 650, 651, 652, 658, 659, 711, 712, 713, 714, 715, 724, 725, 726, 771, 772, 773, 774, 835, 962, 963, 964, 965, 966, 967, 968, 970, 971, 972, 973, 974, 975, 976, 977, 979, 980, 981, 982, 983, 1024, 1025, 1026, 1027, 1028, 1029, 1606, 1607, 1615, 1616, 1617, 1618, 1619, 1668, 1669, 1670, 4480, 4481, 4482, 4483, 4484, 4485, 4486, 4736, 4737, 4738, 4739, 4740, 4741, 4742, 4743, 4744, 4745, 4746, 4747]
def wsX9_openLoop : List Cond := cw 1668 :: wI q0P
theorem qqR : ∀ i ∈ q0P, cw i ∈ wsX9_openLoop := fun i h => List.mem_cons_of_mem _ (List.mem_map_of_mem h)
theorem qaQM : okM 1668 q0P = true := qaq (by decide +kernel)
def q39 : List Nat := [2, 15, 74, 142, 143, 266, 267, 268, 269, 270, 650, 651, 652, 658, 659, 711, 712, 713, 714, 715, 724, 725, 726, 771, 772, 773, 774, 780, 781, 782, 783, 784, 785, 786, 787, 788, 789, 790, 791, 832, 833, 834, 835, 836, 837, 838, 839, 840, 841, 842, 843, 844, 845, 846, 847, 848, 849, 850, 851, 852, 853, 854, 855, 896, 897, 898, 899, 900, 901, 902, 903, 904, 905, 906, 907, 908, 909, 910, 911, 912, 913, 914, 915, 916, 962, 963, 964, 965, 966, 967, 968, 970, 971, 972, 973, 974, 975, 976, 977, 979, 980, 981, 982, 983, 1024, 1025, 1026, 1027, 1028, 1029, 1604, 1605, 1606, 1607, 1615, 1616, 1617, 1618, 1619, 1623, 1664, 1665, 1666, 1667, 1668, 1669, 1670, 1671, 4480, 4481, 4482, 4483, 4484, 4485, 4486, 4736, 4737, 4738, 4739, 4740, 4741, 4742, 4743, 4744, 4745, 4746, 4747]
def wsX9_readStep : List Cond := cw 1623 :: wI q39
theorem qnD : ∀ i ∈ q39, cw i ∈ wsX9_readStep := fun i h => List.mem_cons_of_mem _ (List.mem_map_of_mem h)
theorem qaSp : okM 1623 q39 = true := qaq (by decide +kernel)
def q4k : List Nat := [2, 15, 74, 142, 143, 266, 267, 268, 269, 270, 650, 651, 652, 658, 659, 711, 712, 713, 714, 715, 724, 725, 726, 768, 769, 770, 771, 772, 773, 774, 780, 781, 782, 783, 784, 785, 786, 787, 788, 789, 790, 791, 832, 833, 834, 835, 836, 837, 838, 839, 840, 841, 842, 843, 844, 845, 846, 847, 848, 849, 850, 851, 852, 853, 854, 855, 896, 897, 898, 899, 900, 901, 902, 903, 904, 905, 906, 907, 908, 909, 910, 911, 912, 913, 914, 915, 916, 962, 963, 964, 965, 966, 967, 968, 970, 971, 972, 973, 974, 975, 976, 977, 979, 980, 981, 982, 983, 1024, 1025, 1026, 1027, 1028, 1029, 1603, 1604, 1605, 1606, 1607, 1608, 1609, 1610, 1611, 1612, 1613, 1614, 1615, 1616, 1617, 1618, 1619, 1620, 1621, 1622, 1623, 1664, 1665, 1666, 1667, 1668, 1669, 1670, 1671, 4480, 4481, 4482, 4483, 4484, 4485, 4486, 4736, 4737, 4738, 4739, 4740, 4741, 4742, 4743, 4744, 4745, 4746, 4747]
def wsX9_readFrom : List Cond := cw 1603 :: wI q4k
theorem qk1 : ∀ i ∈ q4k, cw i ∈ wsX9_readFrom := fun i h => List.mem_cons_of_mem _ (List.mem_map_of_mem h)
theorem qaPW : okM 1603 q4k = true := qaq (by decide +kernel)
def qWo : List Nat := [267, 271, 1607, 1728, 4736, 4737, 4738, 4739, 4740, 4741, 4742, 4743, 4744, 4745, 4746, 4747]
def wsX9_behindEnd : List Cond := cw 1728 :: wI qWo
theorem qKs : ∀ i ∈ qWo, cw i ∈ wsX9_behindEnd := fun i h => List.mem_cons_of_mem _ (List.mem_map_of_mem h)
theorem qaGk : okM 1728 qWo = true := qaq (by decide +kernel)
def qPX : List Nat := [267, 268, 271, 1607, 1732, 4736, 4737, 4738, 4739, 4740, 4741, 4742, 4743, 4744, 4745, 4746, 4747]
def wsX9_behindAgain : List Cond := cw 1732 :: wI qPX
theorem qz5 : ∀ i ∈ qPX, cw i ∈ wsX9_behindAgain := fun i h => List.mem_cons_of_mem _ (List.mem_map_of_mem h)
theorem qar0 : okM 1732 qPX = true := qaq (by decide +kernel)
def qYA : List Nat := [19, 64, 78, 148, 149, 200, 201, 202, 203, 208, 266, 267, 268, 269, 276, 322, 323, 324, 650, 651, 652, 1092, 1093, 1094, 1736, 1737, 1738, 1739, 1740, 1741, 1742, 1743, 1744, 1745, 1746, 1747, 1748, 1749, 1750, 1751, 1792, 1793, 1794, 1795, 1796, 1797, 1798, 1799, 1800, 1801, 1802, 1803, 1804, 1805, 1806, 1807, 1808, 1809, 1810, 1811, 1812, 1813, 1814, 1815, 1856, 1857, 1858, 1859, 1860, 1861, 1862, 1863, 1864, 1865, 1866, 1867, 1868, 1869, 1870, 1871, 1872, 1873, 1874, 1875, 1876, 1877, 1878, 1879, 1920, 1921, 1922, 1923, 1924, 1925, 1926, 1927, 1928, 1929, 1930, 1931, 1932, 1933, 1934, 1935, 1936, 1937, 1938, 1939, 1940, 1941, 1942, 1943, 1984, 1985, 1986, 4544, 4545, 4546, 4547, 4548, 4549, 4550, 4551, 4552, 4553, 4554, 4555, 4608, 4609, 4610, 4611, 4612, 4736, 4737, 4738, 4739, 4740, 4741, 4742, 4743, 4744, 4745, 4746, 4747, 4800, 4801, 4802, 4803]
def wsX9_isAllowed : List Cond := cw 1736 :: wI qYA
theorem qod : ∀ i ∈ qYA, cw i ∈ wsX9_isAllowed := fun i h => List.mem_cons_of_mem _ (List.mem_map_of_mem h)
theorem qaKV : okM 1736 qYA = true := qaq (by decide +kernel)
def qajC : List Nat := [2, 19, 78, 266, 267, 268, 269, 276, 322, 324, 326, 651, 1047, 1741, 1742, 1743, 1744, 1745, 1746, 1747, 1748, 1808, 1809, 1810, 1811, 1812, 1813, 1814, 1815, 1930, 1931, 1990, 1991, 1992, 1993, 1994, 1995, 1996, 1997, 1998, 1999, 2000, 2001, 2002, 2003, 2004, 2005, 2006, 2007, 2048, 2049, 2050, 2051, 2052, 2053, 2054, 2055, 2056, 2057, 2058, 2059, 2060, 2061, 2062, 2063, 2064, 2065, 2066, 2067, 2068, 2069, 4544, 4545, 4546, 4547, 4548, 4549, 4550, 4551, 4552, 4553, 4554, 4555, 4736, 4737, 4738, 4739, 4740, 4741, 4742, 4743, 4744, 4745, 4746, 4747, 4800, 4801, 4802, 4803]
def wsX9_doStep : List Cond := cw 1990 :: wI qajC
theorem qtt : ∀ i ∈ qajC, cw i ∈ wsX9_doStep := fun i h => List.mem_cons_of_mem _ (List.mem_map_of_mem h)
theorem qaWV : okM 1990 qajC = true := qaq (by decide +kernel)
def qaAD : List Nat := [2, 19, 64, 74, 78, 148, 149, 200, 201, 202, 203, 208, 266, 267, 268, 269, 271, 276, 322, 323, 324, 326, 650, 651, 652, 1047, 1092, 1093, 1094, 1606, 1607, 1682, 1683, 1684, 1685, 1686, 1687, 1728, 1729, 1730, 1731, 1732, 1733, 1734, 1735, 1736, 1737, 1738, 1739, 1740, 1741, 1742, 1743, 1744, 1745, 1746, 1747, 1748, 1749, 1750, 1751, 1792, 1793, 1794, 1795, 1796, 1797, 1798, 1799, 1800, 1801, 1802, 1803, 1804, 1805, 1806, 1807, 1808, 1809, 1810, 1811, 1812, 1813, 1814, 1815, 1856, 1857, 1858, 1859, 1860, 1861, 1862, 1863, 1864, 1865, 1866, 1867, 1868, 1869, 1870, 1871, 1872, 1873, 1874, 1875, 1876, 1877, 1878, 1879, 1920, 1921, 1922, 1923, 1924, 1925, 1926, 1927, 1928, 1929, 1930, 1931, 1932, 1933, 1934, 1935, 1936, 1937, 1938, 1939, 1940, 1941, 1942, 1943, 1984, 1985, 1986, 1987, 1988, 1989, 1990, 1991, 1992, 1993, 1994, 1995, 1996, 1997, 1998, 1999, 2000, 2001, 2002, 2003, 2004, 2005, 2006, 2007, 2048, 2049, 2050, 2051, 2052, 2053, 2054, 2055, 2056, 2057, 2058, 2059, 2060, 2061, 2062, 2063, 2064, 2065, 2066, 2067, 2068, 2069, 4544, 4545, 4546, 4547, 4548, 4549, 4550, 4551, 4552, 4553, 4554, 4555, 4608, 4609, 4610, 4611, 4612, 4736, 4737, 4738, 4739, 4740, 4741, 4742, 4743, 4744, 4745, 4746, 4747, 4800, 4801, 4802, 4803]
def wsX9_runOn : List Cond := cw 1682 :: wI qaAD
theorem quw : ∀ i ∈ qaAD, cw i ∈ wsX9_runOn := fun i h => List.mem_cons_of_mem _ (List.mem_map_of_mem h)
theorem qa2U : okM 1682 qaAD = true := qaq (by decide +kernel)
def qaWl : List Nat := [9, 10, 11, 12, 13, 14, 15, 16, 17, 18, 19, 20, 21, 22, 23, 64, 65, 66, 67, 68, 69, 70, 71, 72, 73, 74, 75, 76, 77, 78, 79, 80, 81, 82, 83, 84, 85, 86, 87, 128, 129, 130, 131, 132, 133, 134, 135, 136, 137, 138, 139, 140, 141, 142, 143, 144, 145, 146, 147, 148, 149, 150, 151, 192, 193, 194, 195, 196, 197, 198, 199, 200, 201, 202, 203, 204, 205, 206, 207, 208, 209, 210, 211, 212, 213, 214, 215, 256, 257, 258, 259, 260, 261, 262, 263, 264, 265, 266, 267, 268, 269, 270, 271, 272, 273, 274, 275, 276, 277, 278, 279, 320, 321, 322, 323, 324, 325, 326, 327, 328, 329, 330, 331, 332, 333, 334, 335, 336, 337, 338, 339, 340, 341, 342, 343, 384, 385, 386, 387, 388, 389, 390, 391, 392, 393, 4352, 4353, 4354, 4355, 4356, 4357, 4358, 4359, 4360, 4361, 4362, 4363, 4364, 4365, 4366, 4367, 4368, 4369, 4370, 4480, 4481, 4482, 4483, 4484, 4485, 4486, 4544, 4545, 4546, 4547, 4548, 4549, 4550, 4551, 4552, 4553, 4554, 4555, 4608, 4609, 4610, 4611, 4612, 4672, 4673, 4736, 4737, 4738, 4739, 4740, 4741, 4742, 4743, 4744, 4745, 4746, 4747, 4800, 4801, 4802, 4803, 4864, 4865, 4928, 4929, 4930, 4992, 4993, 4994, 4995, 5056, 5057, 5058, 5059, 5060, 5061, 5062, 5063, 5064, 5065, 5066]
def wsX10_init : List Cond := cw 9 :: wI qaWl
theorem qaB : ∀ i ∈ qaWl, cw i ∈ wsX10_init := fun i h => List.mem_cons_of_mem _ (List.mem_map_of_mem h)
def qaVz : List Nat := [15, 16, 142, 534, 535, 576, 577, 578, 579, 580, 581, 582, 583, 584, 4352, 4353, 4354, 4355, 4356, 4357, 4358, 4359, 4360, 4361, 4362, 4363, 4364, 4365, 4366, 4367, 4368, 4369, 4370, 4480, 4481, 4482, 4483, 4484, 4485, 4486]
def wsX10_feed : List Cond := cw 534 :: wI qaVz
theorem qGC : ∀ i ∈ qaVz, cw i ∈ wsX10_feed := fun i h => List.mem_cons_of_mem _ (List.mem_map_of_mem h)
def qTc : List Nat := [663, 704, 705, 706, 4352, 4353, 4354, 4355, 4356, 4357, 4358, 4359, 4360, 4361, 4362, 4363, 4364, 4365, 4366, 4367, 4368, 4369, 4370]
def wsX10_needLegal : List Cond := cw 663 :: (wI qTc ++ (vx_atS RX10 409 "java/lang/IllegalArgumentException" ["java/lang/RuntimeException", "java/lang/Exception"]).filter goodWord)
theorem qIv : ∀ i ∈ qTc, cw i ∈ wsX10_needLegal := fun i h => List.mem_cons_of_mem _ (List.mem_append_left _ (List.mem_map_of_mem h))
theorem q1n : okM 663 qTc = true := qaq (by decide +kernel)
def qRf : List Nat := [2, 656, 657, 658, 659, 660, 661, 662, 663, 704, 705, 706, 4352, 4353, 4354, 4355, 4356, 4357, 4358, 4359, 4360, 4361, 4362, 4363, 4364, 4365, 4366, 4367, 4368, 4369, 4370]
def wsX10_needWithin : List Cond := cw 656 :: (wI qRf ++ (vx_atS RX10 409 "java/lang/IllegalArgumentException" ["java/lang/RuntimeException", "java/lang/Exception"]).filter goodWord)
theorem qEF : ∀ i ∈ qRf, cw i ∈ wsX10_needWithin := fun i h => List.mem_cons_of_mem _ (List.mem_append_left _ (List.mem_map_of_mem h))
theorem qdG : okM 656 qRf = true := qaq (by decide +kernel)
def qYa : List Nat := [2, 15, 16, 143, 535, 580, 648, 649, 650, 651, 652, 653, 654, 655, 656, 657, 658, 659, 660, 661, 662, 663, 704, 705, 706, 707, 708, 709, 710, 711, 712, 713, 714, 715, 4352, 4353, 4354, 4355, 4356, 4357, 4358, 4359, 4360, 4361, 4362, 4363, 4364, 4365, 4366, 4367, 4368, 4369, 4370, 4480, 4481, 4482, 4483, 4484, 4485, 4486]
def wsX10_openText : List Cond := cw 648 :: (wI qYa ++ (vx_atS RX10 409 "java/lang/IllegalArgumentException" ["java/lang/RuntimeException", "java/lang/Exception"]).filter goodWord)
theorem qpp : ∀ i ∈ qYa, cw i ∈ wsX10_openText := fun i h => List.mem_cons_of_mem _ (List.mem_append_left _ (List.mem_map_of_mem h))
theorem qKC : okM 648 qYa = true := qaq (by decide +kernel)
def qaEg : List Nat := [2, 15, 16, 19, 20, 21, 64, 65, 69, 70, 78, 79, 84, 142, 143, 148, 149, 150, 151, 192, 193, 194, 200, 201, 205, 206, 207, 208, 209, 210, 211, 212, 257, 259, 260, 261, 262, 276, 279, 320, 321, 322, 323, 324, 325, 326, 327, 328, 329, 330, 331, 535, 580, 599, 640, 641, 642, 643, 644, 645, 646, 647, 648, 649, 650, 651, 652, 653, 654, 655, 656, 657, 658, 659, 660, 661, 662, 663, 704, 705, 706, 707, 708, 709, 710, 711, 712, 713, 714, 715, 716, 717, 718, 719, 720, 721, 722, 723, 724, 725, 726, 727, 768, 769, 770, 771, 772, 773, 774, 775, 776, 777, 778, 779, 780, 781, 782, 783, 784, 785, 786, 787, 788, 789, 790, 791, 832, 833, 834, 835, 836, 837, 838, 839, 840, 841, 842, 843, 844, 845, 846, 847, 848, 849, 850, 851, 852, 853, 854, 855, 896, 897, 898, 899, 900, 901, 902, 903, 904, 905, 906, 907, 908, 909, 910, 911, 912, 913, 914, 915, 916, 917, 918, 919, 960, 961, 962, 963, 964, 965, 966, 967, 968, 969, 970, 971, 972, 973, 974, 975, 976, 977, 978, 979, 980, 981, 982, 983, 1024, 1025, 1026, 1027, 1028, 1029, 1030, 1031, 1032, 1033, 1034, 1035, 1036, 1037, 1038, 1039, 1040, 1041, 1042, 1043, 1044, 1045, 1046, 1047, 1088, 1089, 1090, 1091, 1092, 1093, 1094, 1095, 1096, 1097, 1098, 4352, 4353, 4354, 4355, 4356, 4357, 4358, 4359, 4360, 4361, 4362, 4363, 4364, 4365, 4366, 4367, 4368, 4369, 4370, 4480, 4481, 4482, 4483, 4484, 4485, 4486, 4544, 4545, 4546, 4547, 4548, 4549, 4550, 4551, 4552, 4553, 4554, 4555, 4608, 4609, 4610, 4611, 4612, 4672, 4673, 4800, 4801, 4802, 4803, 4864, 4865]
def wsX10_down : List Cond := cw 599 :: (wI qaEg ++ (vx_atS RX10 409 "java/lang/IllegalArgumentException" ["java/lang/RuntimeException", "java/lang/Exception"]).filter goodWord)
theorem qh0 : ∀ i ∈ qaEg, cw i ∈ wsX10_down := fun i h => List.mem_cons_of_mem _ (List.mem_append_left _ (List.mem_map_of_mem h))
theorem qa2v : okM 599 qaEg = true := qaq (by decide +kernel)
def qaNl : List Nat := [2, 15, 16, 64, 65, 66, 78, 79, 142, 143, 200, 201, 208, 209, 210, 211, 212, 323, 535, 580, 640, 645, 646, 647, 648, 649, 650, 651, 652, 653, 654, 655, 656, 657, 658, 659, 660, 661, 662, 663, 704, 705, 706, 707, 708, 709, 710, 711, 712, 713, 714, 715, 724, 725, 726, 768, 769, 770, 771, 772, 773, 774, 780, 781, 782, 783, 784, 785, 786, 787, 788, 789, 790, 791, 832, 833, 834, 835, 836, 837, 838, 839, 840, 841, 842, 843, 844, 845, 846, 847, 848, 849, 850, 851, 852, 853, 854, 855, 896, 897, 898, 899, 900, 901, 902, 903, 904, 905, 906, 907, 908, 909, 910, 911, 912, 913, 914, 915, 916, 962, 963, 964, 965, 966, 967, 968, 970, 971, 972, 973, 974, 975, 976, 977, 979, 980, 981, 982, 983, 1024, 1025, 1026, 1027, 1028, 1029, 1095, 1348, 1349, 1350, 1351, 1352, 1353, 1354, 1355, 1356, 1357, 1358, 1359, 1360, 1361, 1362, 1363, 1364, 1365, 1366, 1367, 1408, 1409, 1410, 1411, 1412, 1413, 1414, 1415, 1416, 1417, 1418, 1419, 1420, 1421, 1422, 1423, 1424, 1425, 1426, 1427, 1428, 1429, 1430, 1431, 1472, 1473, 1474, 1475, 1476, 4352, 4353, 4354, 4355, 4356, 4357, 4358, 4359, 4360, 4361, 4362, 4363, 4364, 4365, 4366, 4367, 4368, 4369, 4370, 4480, 4481, 4482, 4483, 4484, 4485, 4486, 4608, 4609, 4610, 4611, 4612, 4800, 4801, 4802, 4803]
def wsX10_law : List Cond := cw 1348 :: (wI qaNl ++ (vx_atS RX10 409 "java/lang/IllegalArgumentException" ["java/lang/RuntimeException", "java/lang/Exception"]).filter goodWord)
theorem qvQ : ∀ i ∈ qaNl, cw i ∈ wsX10_law := fun i h => List.mem_cons_of_mem _ (List.mem_append_left _ (List.mem_map_of_mem h))
theorem qa33 : okM 1348 qaNl = true := qaq (by decide +kernel)
def qav6 : List Nat := [2, 15, 16, 19, 20, 64, 74, 75, 78, 79, 83, 84, 142, 143, 148, 149, 200, 201, 202, 203, 208, 266, 267, 268, 269, 270, 271, 276, 322, 323, 324, 326, 329, 330, 331, 335, 535, 580, 640, 641, 643, 644, 645, 646, 647, 648, 649, 650, 651, 652, 653, 654, 655, 656, 657, 658, 659, 660, 661, 662, 663, 704, 705, 706, 707, 708, 709, 710, 711, 712, 713, 714, 715, 724, 725, 726, 768, 769, 770, 771, 772, 773, 774, 780, 781, 782, 783, 784, 785, 786, 787, 788, 789, 790, 791, 832, 833, 834, 835, 836, 837, 838, 839, 840, 841, 842, 843, 844, 845, 846, 847, 848, 849, 850, 851, 852, 853, 854, 855, 896, 897, 898, 899, 900, 901, 902, 903, 904, 905, 906, 907, 908, 909, 910, 911, 912, 913, 914, 915, 916, 962, 963, 964, 965, 966, 967, 968, 970, 971, 972, 973, 974, 975, 976, 977, 979, 980, 981, 982, 983, 1024, 1025, 1026, 1027, 1028, 1029, 1047, 1092, 1093, 1094, 1095, 1556, 1557, 1558, 1559, 1600, 1601, 1602, 1603, 1604, 1605, 1606, 1607, 1608, 1609, 1610, 1611, 1612, 1613, 1614, 1615, 1616, 1617, 1618, 1619, 1620, 1621, 1622, 1623, 1664, 1665, 1666, 1667, 1668, 1669, 1670, 1671, 1672, 1673, 1674, 1675, 1676, 1677, 1678, 1679, 1680, 1681, 1682, 1683, 1684, 1685, 1686, 1687, 1728, 1729, 1730, 1731, 1732, 1733, 1734, 1735, 1736, 1737, 1738, 1739, 1740, 1741, 1742, 1743, 1744, 1745, 1746, 1747, 1748, 1749, 1750, 1751, 1792, 1793, 1794, 1795, 1796, 1797, 1798, 1799, 1800, 1801, 1802, 1803, 1804, 1805, 1806, 1807, 1808, 1809, 1810, 1811, 1812, 1813, 1814, 1815, 1856, 1857, 1858, 1859, 1860, 1861, 1862, 1863, 1864, 1865, 1866, 1867, 1868, 1869, 1870, 1871, 1872, 1873, 1874, 1875, 1876, 1877, 1878, 1879, 1920, 1921, 1922, 1923, 1924, 1925, 1926, 1927, 1928, 1929, 1930, 1931, 1932, 1933, 1934, 1935, 1936, 1937, 1938, 1939, 1940, 1941, 1942, 1943, 1984, 1985, 1986, 1987, 1988, 1989, 1990, 1991, 1992, 1993, 1994, 1995, 1996, 1997, 1998, 1999, 2000, 2001, 2002, 2003, 2004, 2005, 2006, 2007, 2048, 2049, 2050, 2051, 2052, 2053, 2054, 2055, 2056, 2057, 2058, 2059, 2060, 2061, 2062, 2063, 2064, 2065, 2066, 2067, 2068, 2069, 4352, 4353, 4354, 4355, 4356, 4357, 4358, 4359, 4360, 4361, 4362, 4363, 4364, 4365, 4366, 4367, 4368, 4369, 4370, 4480, 4481, 4482, 4483, 4484, 4485, 4486, 4544, 4545, 4546, 4547, 4548, 4549, 4550, 4551, 4552, 4553, 4554, 4555, 4608, 4609, 4610, 4611, 4612, 4736, 4737, 4738, 4739, 4740, 4741, 4742, 4743, 4744, 4745, 4746, 4747, 4800, 4801, 4802, 4803, 4864, 4865]
def wsX10_work : List Cond := cw 1556 :: (wI qav6 ++ (vx_atS RX10 409 "java/lang/IllegalArgumentException" ["java/lang/RuntimeException", "java/lang/Exception"]).filter goodWord)
theorem qie : ∀ i ∈ qav6, cw i ∈ wsX10_work := fun i h => List.mem_cons_of_mem _ (List.mem_append_left _ (List.mem_map_of_mem h))
theorem qa1y : okM 1556 qav6 = true := qaq (by decide +kernel)
def qaDX : List Nat := [2, 15, 16, 20, 69, 70, 71, 142, 143, 257, 258, 259, 260, 261, 262, 535, 580, 640, 645, 646, 647, 648, 649, 650, 651, 652, 653, 654, 655, 656, 657, 658, 659, 660, 661, 662, 663, 704, 705, 706, 707, 708, 709, 710, 711, 712, 713, 714, 715, 724, 725, 726, 768, 769, 770, 771, 772, 773, 774, 835, 962, 963, 964, 965, 966, 967, 968, 970, 971, 972, 973, 974, 975, 976, 977, 979, 980, 981, 982, 983, 1024, 1025, 1026, 1027, 1028, 1029, 1095, 1557, 2385, 2386, 2387, 2388, 2389, 2390, 2391, 2432, 2433, 2434, 2435, 2436, 2437, 2438, 2439, 2440, 2441, 2442, 2443, 4352, 4353, 4354, 4355, 4356, 4357, 4358, 4359, 4360, 4361, 4362, 4363, 4364, 4365, 4366, 4367, 4368, 4369, 4370, 4480, 4481, 4482, 4483, 4484, 4485, 4486, 4544, 4545, 4546, 4547, 4548, 4549, 4550, 4551, 4552, 4553, 4554, 4555, 4672, 4673]
def wsX10_book : List Cond := cw 2385 :: (wI qaDX ++ (vx_atS RX10 409 "java/lang/IllegalArgumentException" ["java/lang/RuntimeException", "java/lang/Exception"]).filter goodWord)
theorem qrx : ∀ i ∈ qaDX, cw i ∈ wsX10_book := fun i h => List.mem_cons_of_mem _ (List.mem_append_left _ (List.mem_map_of_mem h))
theorem qa2I : okM 2385 qaDX = true := qaq (by decide +kernel)
def qaLG : List Nat := [16, 2451, 2452, 4352, 4353, 4354, 4355, 4356, 4357, 4358, 4359, 4360, 4361, 4362, 4363, 4364, 4365, 4366, 4367, 4368, 4369, 4370, 4480, 4481, 4482, 4483, 4484, 4485, 4486]
def wsX10_fault : List Cond := cw 2451 :: wI qaLG
theorem qWZ : ∀ i ∈ qaLG, cw i ∈ wsX10_fault := fun i h => List.mem_cons_of_mem _ (List.mem_map_of_mem h)
def qaUD : List Nat := [79, 83, 84, 329, 330, 331, 335, 641, 643, 1676, 1677, 1678, 2500, 2501, 2502, 2503, 2504, 4352, 4353, 4354, 4355, 4356, 4357, 4358, 4359, 4360, 4361, 4362, 4363, 4364, 4365, 4366, 4367, 4368, 4369, 4370, 4800, 4801, 4802, 4803, 4864, 4865]
def wsX10_undo : List Cond := cw 2500 :: wI qaUD
theorem qGJ : ∀ i ∈ qaUD, cw i ∈ wsX10_undo := fun i h => List.mem_cons_of_mem _ (List.mem_map_of_mem h)
def qaw8 : List Nat := [2, 19, 20, 70, 78, 79, 276, 322, 324, 643, 644, 653, 654, 655, 656, 657, 658, 659, 660, 661, 662, 663, 704, 705, 706, 1047, 1557, 1741, 1742, 1743, 1744, 1745, 1746, 1747, 1748, 1812, 1813, 1814, 1815, 1856, 1857, 1858, 1859, 1860, 1861, 1862, 1863, 1873, 1874, 1875, 1984, 1985, 1986, 2052, 2053, 2059, 2060, 2061, 2062, 2063, 2064, 2065, 2386, 2515, 2516, 2517, 2518, 2519, 2560, 2561, 2562, 2563, 2564, 2565, 2566, 2567, 2568, 2569, 2570, 2571, 2572, 4352, 4353, 4354, 4355, 4356, 4357, 4358, 4359, 4360, 4361, 4362, 4363, 4364, 4365, 4366, 4367, 4368, 4369, 4370, 4544, 4545, 4546, 4547, 4548, 4549, 4550, 4551, 4552, 4553, 4554, 4555, 4672, 4673, 4800, 4801, 4802, 4803]
def wsX10_told : List Cond := cw 2515 :: (wI qaw8 ++ (vx_atS RX10 409 "java/lang/IllegalArgumentException" ["java/lang/RuntimeException", "java/lang/Exception"]).filter goodWord)
theorem qiz : ∀ i ∈ qaw8, cw i ∈ wsX10_told := fun i h => List.mem_cons_of_mem _ (List.mem_append_left _ (List.mem_map_of_mem h))
theorem qa1Z : okM 2515 qaw8 = true := qaq (by decide +kernel)
def qWv : List Nat := [2, 20, 657, 658, 659, 1557, 2689, 2690, 2691, 2692, 4352, 4353, 4354, 4355, 4356, 4357, 4358, 4359, 4360, 4361, 4362, 4363, 4364, 4365, 4366, 4367, 4368, 4369, 4370, 4544, 4545, 4546, 4547, 4548, 4549, 4550, 4551, 4552, 4553, 4554, 4555]
def wsX10_needForm : List Cond := cw 2689 :: (wI qWv ++ (qqx RX10 268 "java/util/NoSuchElementException" 13 qxA ["java/lang/RuntimeException", "java/lang/Exception"]).filter goodWord)
theorem qtP : ∀ i ∈ qWv, cw i ∈ wsX10_needForm := fun i h => List.mem_cons_of_mem _ (List.mem_append_left _ (List.mem_map_of_mem h))
theorem qDP : okM 2689 qWv = true := qaq (by decide +kernel)
def qayk : List Nat := [2, 19, 20, 78, 79, 276, 322, 324, 653, 654, 655, 656, 657, 658, 659, 660, 661, 662, 663, 704, 705, 706, 1047, 1557, 1741, 1742, 1743, 1744, 1745, 1746, 1747, 1748, 1798, 1799, 1800, 2052, 2053, 2063, 2064, 2065, 2643, 2644, 2645, 2646, 2647, 2688, 2689, 2690, 2691, 2692, 2693, 2694, 4352, 4353, 4354, 4355, 4356, 4357, 4358, 4359, 4360, 4361, 4362, 4363, 4364, 4365, 4366, 4367, 4368, 4369, 4370, 4544, 4545, 4546, 4547, 4548, 4549, 4550, 4551, 4552, 4553, 4554, 4555, 4800, 4801, 4802, 4803]
def wsX10_form : List Cond := cw 2643 :: (wI qayk ++ (qqx RX10 268 "java/util/NoSuchElementException" 13 qxA ["java/lang/RuntimeException", "java/lang/Exception"]).filter goodWord ++ (vx_atS RX10 409 "java/lang/IllegalArgumentException" ["java/lang/RuntimeException", "java/lang/Exception"]).filter goodWord)
theorem qun : ∀ i ∈ qayk, cw i ∈ wsX10_form := fun i h => List.mem_cons_of_mem _ (List.mem_append_left _ (List.mem_append_left _ (List.mem_map_of_mem h)))
theorem qa2Z : okM 2643 qayk = true := qaq (by decide +kernel)
def qWi : List Nat := [2, 20, 644, 657, 658, 659, 2690, 2691, 2692, 2754, 4352, 4353, 4354, 4355, 4356, 4357, 4358, 4359, 4360, 4361, 4362, 4363, 4364, 4365, 4366, 4367, 4368, 4369, 4370, 4544, 4545, 4546, 4547, 4548, 4549, 4550, 4551, 4552, 4553, 4554, 4555]
def wsX10_needHare : List Cond := cw 2754 :: (wI qWi ++ (qqx RX10 268 "java/util/NoSuchElementException" 13 qxA ["java/lang/RuntimeException", "java/lang/Exception"]).filter goodWord)
theorem qtD : ∀ i ∈ qWi, cw i ∈ wsX10_needHare := fun i h => List.mem_cons_of_mem _ (List.mem_append_left _ (List.mem_map_of_mem h))
theorem qtE : okM 2754 qWi = true := qaq (by decide +kernel)
def qaAJ : List Nat := [2, 20, 64, 78, 79, 200, 201, 202, 203, 208, 276, 322, 323, 324, 644, 650, 651, 652, 653, 654, 655, 656, 657, 658, 659, 660, 661, 662, 663, 704, 705, 706, 1741, 1742, 1743, 1744, 1745, 1746, 1747, 1748, 1794, 1795, 1796, 1797, 1798, 1799, 1800, 1801, 1802, 1803, 1804, 1805, 1806, 1807, 1808, 1809, 1810, 1811, 1812, 1813, 1814, 1815, 1856, 1857, 1858, 1859, 1860, 1861, 1862, 1863, 1864, 1865, 1866, 1867, 1868, 1869, 1870, 1871, 1872, 1873, 1874, 1875, 1876, 1877, 1878, 1879, 1920, 1921, 1922, 1923, 1924, 1925, 1926, 1927, 1928, 1929, 1930, 1931, 1932, 1933, 1934, 2690, 2691, 2692, 2709, 2710, 2711, 2752, 2753, 2754, 2755, 2756, 2757, 2758, 2759, 2760, 2761, 2762, 4352, 4353, 4354, 4355, 4356, 4357, 4358, 4359, 4360, 4361, 4362, 4363, 4364, 4365, 4366, 4367, 4368, 4369, 4370, 4544, 4545, 4546, 4547, 4548, 4549, 4550, 4551, 4552, 4553, 4554, 4555, 4608, 4609, 4610, 4611, 4612, 4800, 4801, 4802, 4803]
def wsX10_hare : List Cond := cw 2709 :: (wI qaAJ ++ (qqx RX10 268 "java/util/NoSuchElementException" 13 qxA ["java/lang/RuntimeException", "java/lang/Exception"]).filter goodWord ++ (vx_atS RX10 409 "java/lang/IllegalArgumentException" ["java/lang/RuntimeException", "java/lang/Exception"]).filter goodWord)
theorem qkD : ∀ i ∈ qaAJ, cw i ∈ wsX10_hare := fun i h => List.mem_cons_of_mem _ (List.mem_append_left _ (List.mem_append_left _ (List.mem_map_of_mem h)))
theorem qa2B : okM 2709 qaAJ = true := qaq (by decide +kernel)
def qaPy : List Nat := [2, 20, 653, 654, 655, 656, 657, 658, 659, 660, 661, 662, 663, 704, 705, 706, 2516, 2690, 2691, 2692, 2817, 2818, 2819, 4352, 4353, 4354, 4355, 4356, 4357, 4358, 4359, 4360, 4361, 4362, 4363, 4364, 4365, 4366, 4367, 4368, 4369, 4370, 4544, 4545, 4546, 4547, 4548, 4549, 4550, 4551, 4552, 4553, 4554, 4555]
def wsX10_fox : List Cond := cw 2817 :: (wI qaPy ++ (qqx RX10 268 "java/util/NoSuchElementException" 13 qxA ["java/lang/RuntimeException", "java/lang/Exception"]).filter goodWord ++ (vx_atS RX10 409 "java/lang/IllegalArgumentException" ["java/lang/RuntimeException", "java/lang/Exception"]).filter goodWord)
theorem qyI : ∀ i ∈ qaPy, cw i ∈ wsX10_fox := fun i h => List.mem_cons_of_mem _ (List.mem_append_left _ (List.mem_append_left _ (List.mem_map_of_mem h)))
theorem qa6G : okM 2817 qaPy = true := qaq (by decide +kernel)
def qavq : List Nat := [2, 20, 78, 79, 276, 644, 657, 658, 659, 1861, 1862, 1863, 2690, 2691, 2692, 2711, 2752, 2753, 2754, 2830, 2831, 4352, 4353, 4354, 4355, 4356, 4357, 4358, 4359, 4360, 4361, 4362, 4363, 4364, 4365, 4366, 4367, 4368, 4369, 4370, 4544, 4545, 4546, 4547, 4548, 4549, 4550, 4551, 4552, 4553, 4554, 4555, 4800, 4801, 4802, 4803]
def wsX10_debt : List Cond := cw 2830 :: (wI qavq ++ (qqx RX10 268 "java/util/NoSuchElementException" 13 qxA ["java/lang/RuntimeException", "java/lang/Exception"]).filter goodWord)
theorem qOC : ∀ i ∈ qavq, cw i ∈ wsX10_debt := fun i h => List.mem_cons_of_mem _ (List.mem_append_left _ (List.mem_map_of_mem h))
theorem qa1M : okM 2830 qavq = true := qaq (by decide +kernel)
def qaO1 : List Nat := [2, 19, 20, 148, 149, 651, 657, 658, 659, 1092, 1093, 1094, 1557, 1750, 1751, 1792, 2646, 2647, 2688, 2689, 2690, 2691, 2692, 2882, 2883, 4352, 4353, 4354, 4355, 4356, 4357, 4358, 4359, 4360, 4361, 4362, 4363, 4364, 4365, 4366, 4367, 4368, 4369, 4370, 4544, 4545, 4546, 4547, 4548, 4549, 4550, 4551, 4552, 4553, 4554, 4555]
def wsX10_far : List Cond := cw 2882 :: (wI qaO1 ++ (qqx RX10 268 "java/util/NoSuchElementException" 13 qxA ["java/lang/RuntimeException", "java/lang/Exception"]).filter goodWord)
theorem qUQ : ∀ i ∈ qaO1, cw i ∈ wsX10_far := fun i h => List.mem_cons_of_mem _ (List.mem_append_left _ (List.mem_map_of_mem h))
theorem qa6j : okM 2882 qaO1 = true := qaq (by decide +kernel)
def qaiC : List Nat := [2, 64, 65, 200, 201, 202, 203, 208, 650, 651, 652, 653, 654, 655, 656, 657, 658, 659, 660, 661, 662, 663, 704, 705, 706, 1869, 1870, 1871, 1921, 1922, 1923, 1925, 1926, 1927, 1928, 1929, 1930, 1931, 1932, 1933, 1934, 2894, 2895, 2896, 2897, 4352, 4353, 4354, 4355, 4356, 4357, 4358, 4359, 4360, 4361, 4362, 4363, 4364, 4365, 4366, 4367, 4368, 4369, 4370, 4608, 4609, 4610, 4611, 4612]
def wsX10_would : List Cond := cw 2894 :: (wI qaiC ++ (vx_atS RX10 409 "java/lang/IllegalArgumentException" ["java/lang/RuntimeException", "java/lang/Exception"]).filter goodWord)
theorem qxP : ∀ i ∈ qaiC, cw i ∈ wsX10_would := fun i h => List.mem_cons_of_mem _ (List.mem_append_left _ (List.mem_map_of_mem h))
theorem qaY9 : okM 2894 qaiC = true := qaq (by decide +kernel)
def qaOA : List Nat := [2, 19, 20, 64, 78, 79, 148, 149, 200, 201, 202, 203, 208, 276, 322, 323, 324, 644, 650, 651, 652, 657, 658, 659, 1092, 1093, 1094, 1557, 1738, 1739, 1740, 1741, 1742, 1743, 1744, 1745, 1746, 1747, 1748, 1749, 1750, 1751, 1792, 1793, 1794, 1795, 1796, 1797, 1798, 1799, 1800, 1801, 1802, 1803, 1804, 1805, 1806, 1807, 1808, 1809, 1810, 1811, 1812, 1813, 1814, 1815, 1856, 1857, 1858, 1859, 1860, 1861, 1862, 1863, 1864, 1865, 1866, 1867, 1868, 1869, 1870, 1871, 1872, 1873, 1874, 1875, 1876, 1877, 1878, 1879, 1920, 1921, 1922, 1923, 1924, 1925, 1926, 1927, 1928, 1929, 1930, 1931, 1932, 1933, 1934, 2646, 2647, 2688, 2689, 2690, 2691, 2692, 2711, 2752, 2753, 2754, 2948, 2949, 4352, 4353, 4354, 4355, 4356, 4357, 4358, 4359, 4360, 4361, 4362, 4363, 4364, 4365, 4366, 4367, 4368, 4369, 4370, 4544, 4545, 4546, 4547, 4548, 4549, 4550, 4551, 4552, 4553, 4554, 4555, 4608, 4609, 4610, 4611, 4612, 4800, 4801, 4802, 4803]
def wsX10_can : List Cond := cw 2948 :: (wI qaOA ++ (qqx RX10 268 "java/util/NoSuchElementException" 13 qxA ["java/lang/RuntimeException", "java/lang/Exception"]).filter goodWord)
theorem qLM : ∀ i ∈ qaOA, cw i ∈ wsX10_can := fun i h => List.mem_cons_of_mem _ (List.mem_append_left _ (List.mem_map_of_mem h))
theorem qa3q : okM 2948 qaOA = true := qaq (by decide +kernel)
def qajf : List Nat := [2, 19, 78, 79, 80, 276, 322, 323, 324, 326, 328, 329, 330, 331, 653, 654, 655, 656, 657, 658, 659, 660, 661, 662, 663, 704, 705, 706, 1047, 1741, 1742, 1743, 1744, 1745, 1746, 1747, 1748, 1812, 1813, 1814, 1815, 1856, 1857, 1858, 1859, 1860, 1861, 1862, 1863, 1873, 1874, 1875, 2049, 2050, 2051, 2052, 2053, 2054, 2055, 2056, 2057, 2058, 2059, 2060, 2061, 2062, 2063, 2064, 2065, 2066, 2067, 2068, 2069, 2518, 2560, 2561, 2562, 2563, 2568, 2569, 2570, 2571, 2960, 2961, 2962, 2963, 2964, 2965, 4352, 4353, 4354, 4355, 4356, 4357, 4358, 4359, 4360, 4361, 4362, 4363, 4364, 4365, 4366, 4367, 4368, 4369, 4370, 4544, 4545, 4546, 4547, 4548, 4549, 4550, 4551, 4552, 4553, 4554, 4555, 4800, 4801, 4802, 4803]
def wsX10_ahead : List Cond := cw 2960 :: (wI qajf ++ (vx_atS RX10 409 "java/lang/IllegalArgumentException" ["java/lang/RuntimeException", "java/lang/Exception"]).filter goodWord)
theorem qq6 : ∀ i ∈ qajf, cw i ∈ wsX10_ahead := fun i h => List.mem_cons_of_mem _ (List.mem_append_left _ (List.mem_map_of_mem h))
theorem qaXP : okM 2960 qajf = true := qaq (by decide +kernel)
def qayN : List Nat := [2, 19, 20, 64, 78, 79, 148, 149, 200, 201, 202, 203, 208, 276, 322, 323, 324, 644, 650, 651, 652, 657, 658, 659, 720, 1092, 1093, 1094, 1557, 1741, 1742, 1743, 1744, 1745, 1746, 1747, 1748, 1750, 1751, 1792, 1794, 1795, 1796, 1797, 1798, 1799, 1800, 1801, 1802, 1803, 1804, 1805, 1806, 1807, 1808, 1809, 1810, 1811, 1812, 1813, 1814, 1815, 1856, 1857, 1858, 1859, 1860, 1861, 1862, 1863, 1864, 1865, 1866, 1867, 1868, 1869, 1870, 1871, 1872, 1873, 1874, 1875, 1876, 1877, 1878, 1879, 1920, 1921, 1922, 1923, 1924, 1925, 1926, 1927, 1928, 1929, 1930, 1931, 1932, 1933, 1934, 2052, 2053, 2646, 2647, 2688, 2689, 2690, 2691, 2692, 2711, 2752, 2753, 2754, 2755, 2756, 2762, 3016, 3017, 3018, 3019, 3020, 3021, 3022, 3023, 3024, 3025, 4352, 4353, 4354, 4355, 4356, 4357, 4358, 4359, 4360, 4361, 4362, 4363, 4364, 4365, 4366, 4367, 4368, 4369, 4370, 4544, 4545, 4546, 4547, 4548, 4549, 4550, 4551, 4552, 4553, 4554, 4555, 4608, 4609, 4610, 4611, 4612, 4800, 4801, 4802, 4803]
def wsX10_hops : List Cond := cw 3016 :: (wI qayN ++ (qqx RX10 268 "java/util/NoSuchElementException" 13 qxA ["java/lang/RuntimeException", "java/lang/Exception"]).filter goodWord)
theorem qti : ∀ i ∈ qayN, cw i ∈ wsX10_hops := fun i h => List.mem_cons_of_mem _ (List.mem_append_left _ (List.mem_map_of_mem h))
theorem qa1u : okM 3016 qayN = true := qaq (by decide +kernel)
def qaLC : List Nat := [2, 19, 64, 78, 79, 132, 133, 148, 149, 200, 201, 202, 203, 208, 276, 322, 323, 324, 384, 385, 386, 650, 651, 652, 720, 1092, 1093, 1094, 1741, 1742, 1743, 1744, 1745, 1746, 1747, 1748, 1750, 1751, 1792, 1793, 1794, 1795, 1796, 1797, 1798, 1799, 1800, 1801, 1802, 1803, 1804, 1805, 1806, 1807, 1808, 1809, 1810, 1811, 1812, 1813, 1814, 1815, 1856, 1857, 1858, 1859, 1860, 1861, 1862, 1863, 1864, 1865, 1866, 1867, 1868, 1869, 1870, 1871, 1872, 1873, 1874, 1875, 1876, 1877, 1878, 1879, 1920, 1921, 1922, 1923, 1924, 1925, 1926, 1927, 1928, 1929, 1930, 1931, 1932, 1933, 1934, 2052, 2053, 3022, 3023, 3024, 3025, 3073, 3074, 3075, 3076, 3077, 3078, 3079, 3080, 3081, 3082, 3083, 3084, 3085, 3086, 3087, 3088, 3089, 3090, 3091, 3092, 3093, 3094, 3095, 3136, 3137, 3138, 3139, 3140, 3141, 3142, 3143, 3144, 3145, 3146, 3147, 3148, 3149, 3150, 4352, 4353, 4354, 4355, 4356, 4357, 4358, 4359, 4360, 4361, 4362, 4363, 4364, 4365, 4366, 4367, 4368, 4369, 4370, 4544, 4545, 4546, 4547, 4548, 4549, 4550, 4551, 4552, 4553, 4554, 4555, 4608, 4609, 4610, 4611, 4612, 4800, 4801, 4802, 4803, 4992, 4993, 4994, 4995]
def wsX10_seats : List Cond := cw 3073 :: wI qaLC
theorem qFY : ∀ i ∈ qaLC, cw i ∈ wsX10_seats := fun i h => List.mem_cons_of_mem _ (List.mem_map_of_mem h)
def qaxI : List Nat := [2, 19, 20, 64, 78, 79, 132, 133, 148, 149, 200, 201, 202, 203, 208, 276, 322, 323, 324, 384, 385, 386, 644, 650, 651, 652, 657, 658, 659, 720, 1092, 1093, 1094, 1741, 1742, 1743, 1744, 1745, 1746, 1747, 1748, 1750, 1751, 1792, 1793, 1794, 1795, 1796, 1797, 1798, 1799, 1800, 1801, 1802, 1803, 1804, 1805, 1806, 1807, 1808, 1809, 1810, 1811, 1812, 1813, 1814, 1815, 1856, 1857, 1858, 1859, 1860, 1861, 1862, 1863, 1864, 1865, 1866, 1867, 1868, 1869, 1870, 1871, 1872, 1873, 1874, 1875, 1876, 1877, 1878, 1879, 1920, 1921, 1922, 1923, 1924, 1925, 1926, 1927, 1928, 1929, 1930, 1931, 1932, 1933, 1934, 2052, 2053, 2690, 2691, 2692, 2711, 2752, 2753, 2754, 3022, 3023, 3024, 3025, 3075, 3076, 3077, 3078, 3079, 3080, 3081, 3082, 3083, 3084, 3085, 3086, 3087, 3088, 3089, 3090, 3091, 3092, 3093, 3094, 3095, 3136, 3137, 3138, 3139, 3140, 3141, 3142, 3143, 3144, 3145, 3146, 3147, 3148, 3149, 3150, 3209, 3210, 4352, 4353, 4354, 4355, 4356, 4357, 4358, 4359, 4360, 4361, 4362, 4363, 4364, 4365, 4366, 4367, 4368, 4369, 4370, 4544, 4545, 4546, 4547, 4548, 4549, 4550, 4551, 4552, 4553, 4554, 4555, 4608, 4609, 4610, 4611, 4612, 4800, 4801, 4802, 4803, 4992, 4993, 4994, 4995]
def wsX10_seat : List Cond := cw 3209 :: (wI qaxI ++ (qqx RX10 268 "java/util/NoSuchElementException" 13 qxA ["java/lang/RuntimeException", "java/lang/Exception"]).filter goodWord)
theorem qCX : ∀ i ∈ qaxI, cw i ∈ wsX10_seat := fun i h => List.mem_cons_of_mem _ (List.mem_append_left _ (List.mem_map_of_mem h))
theorem qa11 : okM 3209 qaxI = true := qaq (by decide +kernel)
def qaUB : List Nat := [2, 19, 20, 128, 129, 148, 149, 339, 340, 650, 651, 652, 1092, 1093, 1094, 1750, 1751, 1792, 2052, 2053, 3218, 3219, 3220, 3221, 3222, 3223, 3264, 3265, 3266, 3267, 3268, 3269, 3270, 3271, 3272, 3273, 3274, 3275, 3276, 3277, 3278, 3279, 3280, 3281, 3282, 3283, 3284, 3285, 3286, 3287, 3328, 4352, 4353, 4354, 4355, 4356, 4357, 4358, 4359, 4360, 4361, 4362, 4363, 4364, 4365, 4366, 4367, 4368, 4369, 4370, 4544, 4545, 4546, 4547, 4548, 4549, 4550, 4551, 4552, 4553, 4554, 4555, 4928, 4929, 4930]
def wsX10_ring : List Cond := cw 3218 :: wI qaUB
theorem qJ9 : ∀ i ∈ qaUB, cw i ∈ wsX10_ring := fun i h => List.mem_cons_of_mem _ (List.mem_map_of_mem h)
def qabC : List Nat := [2, 19, 20, 128, 129, 148, 149, 339, 340, 650, 651, 652, 660, 661, 662, 663, 704, 705, 706, 1092, 1093, 1094, 1557, 1750, 1751, 1792, 2052, 2053, 3220, 3221, 3222, 3223, 3264, 3265, 3266, 3267, 3268, 3269, 3270, 3271, 3272, 3273, 3274, 3275, 3276, 3277, 3278, 3279, 3280, 3281, 3282, 3283, 3284, 3285, 3286, 3287, 3328, 3343, 3344, 4352, 4353, 4354, 4355, 4356, 4357, 4358, 4359, 4360, 4361, 4362, 4363, 4364, 4365, 4366, 4367, 4368, 4369, 4370, 4544, 4545, 4546, 4547, 4548, 4549, 4550, 4551, 4552, 4553, 4554, 4555, 4928, 4929, 4930]
def wsX10_ringed : List Cond := cw 3343 :: (wI qabC ++ (vx_atS RX10 409 "java/lang/IllegalArgumentException" ["java/lang/RuntimeException", "java/lang/Exception"]).filter goodWord)
theorem qt1 : ∀ i ∈ qabC, cw i ∈ wsX10_ringed := fun i h => List.mem_cons_of_mem _ (List.mem_append_left _ (List.mem_map_of_mem h))
theorem qaUz : okM 3343 qabC = true := qaq (by decide +kernel)
def qT6 : List Nat := [2, 78, 276, 651, 1809, 1810, 1811, 1930, 1931, 2052, 2053, 2757, 3400, 3401, 3402, 3403, 3404, 4800, 4801, 4802, 4803]
def wsX10_ordersWon : List Cond := cw 3403 :: wI qT6
theorem qk0 : ∀ i ∈ qT6, cw i ∈ wsX10_ordersWon := fun i h => List.mem_cons_of_mem _ (List.mem_map_of_mem h)
theorem q2L : okM 3403 qT6 = true := qaq (by decide +kernel)
def qam2 : List Nat := [2, 20, 78, 79, 276, 322, 324, 644, 651, 657, 658, 659, 1742, 1743, 1744, 1809, 1810, 1811, 1930, 1931, 2052, 2053, 2690, 2691, 2692, 2711, 2752, 2753, 2754, 2755, 2757, 3395, 3396, 3397, 3398, 3399, 3400, 3401, 3402, 3403, 3404, 4352, 4353, 4354, 4355, 4356, 4357, 4358, 4359, 4360, 4361, 4362, 4363, 4364, 4365, 4366, 4367, 4368, 4369, 4370, 4544, 4545, 4546, 4547, 4548, 4549, 4550, 4551, 4552, 4553, 4554, 4555, 4800, 4801, 4802, 4803]
def wsX10_bouts : List Cond := cw 3395 :: (wI qam2 ++ (qqx RX10 268 "java/util/NoSuchElementException" 13 qxA ["java/lang/RuntimeException", "java/lang/Exception"]).filter goodWord)
theorem qph : ∀ i ∈ qam2, cw i ∈ wsX10_bouts := fun i h => List.mem_cons_of_mem _ (List.mem_append_left _ (List.mem_map_of_mem h))
theorem qaZW : okM 3395 qam2 = true := qaq (by decide +kernel)
def qax8 : List Nat := [2, 69, 70, 78, 79, 136, 137, 257, 276, 322, 324, 390, 391, 392, 653, 654, 655, 656, 657, 658, 659, 660, 661, 662, 663, 704, 705, 706, 1741, 1742, 1743, 1744, 1745, 1746, 1747, 1748, 1798, 1799, 1800, 1802, 1803, 1804, 1805, 1806, 1807, 3459, 3460, 3461, 3462, 3463, 3464, 3465, 3466, 3467, 3468, 3469, 3470, 3471, 3472, 3473, 3474, 3475, 3476, 3477, 3478, 3479, 3520, 3521, 3522, 3523, 3524, 3525, 3526, 3527, 3528, 3529, 3530, 3531, 3532, 3533, 4352, 4353, 4354, 4355, 4356, 4357, 4358, 4359, 4360, 4361, 4362, 4363, 4364, 4365, 4366, 4367, 4368, 4369, 4370, 4544, 4545, 4546, 4547, 4548, 4549, 4550, 4551, 4552, 4553, 4554, 4555, 4672, 4673, 4800, 4801, 4802, 4803, 5056, 5057, 5058, 5059, 5060, 5061, 5062, 5063, 5064, 5065, 5066]
def wsX10_fits : List Cond := cw 3459 :: (wI qax8 ++ (vx_atS RX10 409 "java/lang/IllegalArgumentException" ["java/lang/RuntimeException", "java/lang/Exception"]).filter goodWord)
theorem qyZ : ∀ i ∈ qax8, cw i ∈ wsX10_fits := fun i h => List.mem_cons_of_mem _ (List.mem_append_left _ (List.mem_map_of_mem h))
theorem qa1I : okM 3459 qax8 = true := qaq (by decide +kernel)
def qaDy : List Nat := [2, 69, 70, 78, 79, 136, 137, 257, 276, 322, 324, 390, 391, 392, 393, 651, 653, 654, 655, 656, 657, 658, 659, 660, 661, 662, 663, 704, 705, 706, 1741, 1742, 1743, 1744, 1745, 1746, 1747, 1748, 1798, 1799, 1800, 1802, 1803, 1804, 1805, 1806, 1807, 1930, 1931, 2052, 2053, 2439, 2440, 2441, 3462, 3463, 3464, 3465, 3466, 3467, 3468, 3469, 3470, 3471, 3472, 3473, 3474, 3475, 3476, 3477, 3478, 3479, 3520, 3521, 3522, 3523, 3524, 3525, 3526, 3527, 3528, 3529, 3530, 3531, 3532, 3533, 3592, 3593, 3594, 3595, 3596, 3597, 3598, 3599, 3600, 3601, 3602, 3603, 3604, 3605, 3606, 3607, 3648, 3649, 3650, 4352, 4353, 4354, 4355, 4356, 4357, 4358, 4359, 4360, 4361, 4362, 4363, 4364, 4365, 4366, 4367, 4368, 4369, 4370, 4544, 4545, 4546, 4547, 4548, 4549, 4550, 4551, 4552, 4553, 4554, 4555, 4672, 4673, 4800, 4801, 4802, 4803, 5056, 5057, 5058, 5059, 5060, 5061, 5062, 5063, 5064, 5065, 5066]
def wsX10_look : List Cond := cw 3592 :: (wI qaDy ++ (vx_atS RX10 409 "java/lang/IllegalArgumentException" ["java/lang/RuntimeException", "java/lang/Exception"]).filter goodWord)
theorem qvB : ∀ i ∈ qaDy, cw i ∈ wsX10_look := fun i h => List.mem_cons_of_mem _ (List.mem_append_left _ (List.mem_map_of_mem h))
theorem qa17 : okM 3592 qaDy = true := qaq (by decide +kernel)
def qaiP : List Nat := [2, 19, 20, 148, 149, 195, 651, 653, 654, 655, 656, 657, 658, 659, 660, 661, 662, 663, 704, 705, 706, 720, 1092, 1093, 1094, 1750, 1751, 1792, 1802, 1803, 1804, 1805, 1806, 1807, 2052, 2053, 3021, 3022, 3023, 3024, 3025, 3665, 3666, 3667, 3668, 3669, 3670, 3671, 3712, 3713, 3714, 4352, 4353, 4354, 4355, 4356, 4357, 4358, 4359, 4360, 4361, 4362, 4363, 4364, 4365, 4366, 4367, 4368, 4369, 4370, 4544, 4545, 4546, 4547, 4548, 4549, 4550, 4551, 4552, 4553, 4554, 4555]
def wsX10_watch : List Cond := cw 3665 :: (wI qaiP ++ (vx_atS RX10 409 "java/lang/IllegalArgumentException" ["java/lang/RuntimeException", "java/lang/Exception"]).filter goodWord)
theorem qJ3 : ∀ i ∈ qaiP, cw i ∈ wsX10_watch := fun i h => List.mem_cons_of_mem _ (List.mem_append_left _ (List.mem_map_of_mem h))
theorem qaYF : okM 3665 qaiP = true := qaq (by decide +kernel)
def qaop : List Nat := [3728]
def wsX10_choices : List Cond := cw 3728 :: wI qaop
theorem qaMW : okM 3728 qaop = true := qaq (by decide +kernel)
def qaL1 : List Nat := [3731]
def wsX10_power : List Cond := cw 3731 :: wI qaL1
theorem qaXE : okM 3731 qaL1 = true := qaq (by decide +kernel)
def qaQx : List Nat := [2, 653, 654, 655, 656, 657, 658, 659, 660, 661, 662, 663, 704, 705, 706, 3725, 3726, 3727, 3728, 3729, 3730, 3731, 4352, 4353, 4354, 4355, 4356, 4357, 4358, 4359, 4360, 4361, 4362, 4363, 4364, 4365, 4366, 4367, 4368, 4369, 4370]
def wsX10_few : List Cond := cw 3725 :: (wI qaQx ++ (vx_atS RX10 409 "java/lang/IllegalArgumentException" ["java/lang/RuntimeException", "java/lang/Exception"]).filter goodWord)
theorem qVx : ∀ i ∈ qaQx, cw i ∈ wsX10_few := fun i h => List.mem_cons_of_mem _ (List.mem_append_left _ (List.mem_map_of_mem h))
theorem qa9g : okM 3725 qaQx = true := qaq (by decide +kernel)
def qaV8 : List Nat := [3789]
def wsX10_gain : List Cond := cw 3789 :: wI qaV8
theorem qa1A : okM 3789 qaV8 = true := qaq (by decide +kernel)
def qawP : List Nat := [2, 653, 654, 655, 656, 657, 658, 659, 660, 661, 662, 663, 704, 705, 706, 3786, 3787, 3788, 3789, 4352, 4353, 4354, 4355, 4356, 4357, 4358, 4359, 4360, 4361, 4362, 4363, 4364, 4365, 4366, 4367, 4368, 4369, 4370]
def wsX10_road : List Cond := cw 3786 :: (wI qawP ++ (vx_atS RX10 409 "java/lang/IllegalArgumentException" ["java/lang/RuntimeException", "java/lang/Exception"]).filter goodWord)
theorem q5n : ∀ i ∈ qawP, cw i ∈ wsX10_road := fun i h => List.mem_cons_of_mem _ (List.mem_append_left _ (List.mem_map_of_mem h))
theorem qa2h : okM 3786 qawP = true := qaq (by decide +kernel)
def qaaI : List Nat := [2, 20, 78, 79, 276, 277, 322, 324, 644, 650, 651, 652, 653, 654, 655, 656, 657, 658, 659, 660, 661, 662, 663, 704, 705, 706, 1860, 1861, 1862, 1863, 1864, 1865, 1866, 1867, 2052, 2053, 2690, 2691, 2692, 2711, 2752, 2753, 2754, 3400, 3843, 3844, 3845, 3846, 3847, 3848, 3849, 3850, 3851, 3852, 4352, 4353, 4354, 4355, 4356, 4357, 4358, 4359, 4360, 4361, 4362, 4363, 4364, 4365, 4366, 4367, 4368, 4369, 4370, 4544, 4545, 4546, 4547, 4548, 4549, 4550, 4551, 4552, 4553, 4554, 4555, 4800, 4801, 4802, 4803]
def wsX10_clover : List Cond := cw 3843 :: (wI qaaI ++ (qqx RX10 268 "java/util/NoSuchElementException" 13 qxA ["java/lang/RuntimeException", "java/lang/Exception"]).filter goodWord ++ (vx_atS RX10 409 "java/lang/IllegalArgumentException" ["java/lang/RuntimeException", "java/lang/Exception"]).filter goodWord)
theorem qrq : ∀ i ∈ qaaI, cw i ∈ wsX10_clover := fun i h => List.mem_cons_of_mem _ (List.mem_append_left _ (List.mem_append_left _ (List.mem_map_of_mem h)))
theorem qaS8 : okM 3843 qaaI = true := qaq (by decide +kernel)
def qTr : List Nat := [2, 20, 78, 79, 276, 644, 653, 654, 655, 656, 657, 658, 659, 660, 661, 662, 663, 704, 705, 706, 1742, 1743, 1744, 1809, 1810, 1811, 2755, 2757, 3907, 4352, 4353, 4354, 4355, 4356, 4357, 4358, 4359, 4360, 4361, 4362, 4363, 4364, 4365, 4366, 4367, 4368, 4369, 4370, 4544, 4545, 4546, 4547, 4548, 4549, 4550, 4551, 4552, 4553, 4554, 4555, 4800, 4801, 4802, 4803]
def wsX10_strongest : List Cond := cw 3907 :: (wI qTr ++ (vx_atS RX10 409 "java/lang/IllegalArgumentException" ["java/lang/RuntimeException", "java/lang/Exception"]).filter goodWord)
theorem qpk : ∀ i ∈ qTr, cw i ∈ wsX10_strongest := fun i h => List.mem_cons_of_mem _ (List.mem_append_left _ (List.mem_map_of_mem h))
theorem qaBM : okM 3907 qTr = true := qaq (by decide +kernel)
def qavU : List Nat := [2, 20, 78, 79, 276, 644, 653, 654, 655, 656, 657, 658, 659, 660, 661, 662, 663, 704, 705, 706, 1861, 1862, 1863, 2690, 2691, 2692, 2711, 2752, 2753, 2754, 2831, 3918, 4352, 4353, 4354, 4355, 4356, 4357, 4358, 4359, 4360, 4361, 4362, 4363, 4364, 4365, 4366, 4367, 4368, 4369, 4370, 4544, 4545, 4546, 4547, 4548, 4549, 4550, 4551, 4552, 4553, 4554, 4555, 4800, 4801, 4802, 4803]
def wsX10_ties : List Cond := cw 3918 :: (wI qavU ++ (qqx RX10 268 "java/util/NoSuchElementException" 13 qxA ["java/lang/RuntimeException", "java/lang/Exception"]).filter goodWord ++ (vx_atS RX10 409 "java/lang/IllegalArgumentException" ["java/lang/RuntimeException", "java/lang/Exception"]).filter goodWord)
theorem qyO : ∀ i ∈ qavU, cw i ∈ wsX10_ties := fun i h => List.mem_cons_of_mem _ (List.mem_append_left _ (List.mem_append_left _ (List.mem_map_of_mem h)))
theorem qa2e : okM 3918 qavU = true := qaq (by decide +kernel)
def qacx : List Nat := [2, 19, 20, 148, 149, 651, 653, 654, 655, 656, 657, 658, 659, 660, 661, 662, 663, 704, 705, 706, 1047, 1092, 1093, 1094, 1557, 1750, 1751, 1792, 2052, 2053, 2063, 2064, 2065, 2646, 2647, 2688, 2689, 2690, 2691, 2692, 2693, 2883, 3969, 4352, 4353, 4354, 4355, 4356, 4357, 4358, 4359, 4360, 4361, 4362, 4363, 4364, 4365, 4366, 4367, 4368, 4369, 4370, 4544, 4545, 4546, 4547, 4548, 4549, 4550, 4551, 4552, 4553, 4554, 4555]
def wsX10_refuge : List Cond := cw 3969 :: (wI qacx ++ (qqx RX10 268 "java/util/NoSuchElementException" 13 qxA ["java/lang/RuntimeException", "java/lang/Exception"]).filter goodWord ++ (vx_atS RX10 409 "java/lang/IllegalArgumentException" ["java/lang/RuntimeException", "java/lang/Exception"]).filter goodWord)
theorem qsB : ∀ i ∈ qacx, cw i ∈ wsX10_refuge := fun i h => List.mem_cons_of_mem _ (List.mem_append_left _ (List.mem_append_left _ (List.mem_map_of_mem h)))
theorem qaT3 : okM 3969 qacx = true := qaq (by decide +kernel)
def qamo : List Nat := [2, 19, 20, 64, 78, 79, 148, 149, 200, 201, 202, 203, 208, 276, 322, 323, 324, 644, 650, 651, 652, 657, 658, 659, 720, 1092, 1093, 1094, 1741, 1742, 1743, 1744, 1745, 1746, 1747, 1748, 1750, 1751, 1792, 1793, 1794, 1795, 1796, 1797, 1798, 1799, 1800, 1801, 1802, 1803, 1804, 1805, 1806, 1807, 1808, 1809, 1810, 1811, 1812, 1813, 1814, 1815, 1856, 1857, 1858, 1859, 1860, 1861, 1862, 1863, 1864, 1865, 1866, 1867, 1868, 1869, 1870, 1871, 1872, 1873, 1874, 1875, 1876, 1877, 1878, 1879, 1920, 1921, 1922, 1923, 1924, 1925, 1926, 1927, 1928, 1929, 1930, 1931, 1932, 1933, 1934, 2690, 2691, 2692, 2711, 2752, 2753, 2754, 3022, 3023, 3024, 3025, 3090, 3091, 3092, 3980, 3981, 4352, 4353, 4354, 4355, 4356, 4357, 4358, 4359, 4360, 4361, 4362, 4363, 4364, 4365, 4366, 4367, 4368, 4369, 4370, 4544, 4545, 4546, 4547, 4548, 4549, 4550, 4551, 4552, 4553, 4554, 4555, 4608, 4609, 4610, 4611, 4612, 4800, 4801, 4802, 4803]
def wsX10_range : List Cond := cw 3980 :: (wI qamo ++ (qqx RX10 268 "java/util/NoSuchElementException" 13 qxA ["java/lang/RuntimeException", "java/lang/Exception"]).filter goodWord)
theorem qJW : ∀ i ∈ qamo, cw i ∈ wsX10_range := fun i h => List.mem_cons_of_mem _ (List.mem_append_left _ (List.mem_map_of_mem h))
theorem qaWL : okM 3980 qamo = true := qaq (by decide +kernel)
def qakh : List Nat := [2, 19, 64, 78, 79, 80, 148, 149, 200, 201, 202, 203, 208, 276, 322, 323, 324, 326, 328, 329, 330, 331, 650, 651, 652, 653, 654, 655, 656, 657, 658, 659, 660, 661, 662, 663, 704, 705, 706, 1047, 1092, 1093, 1094, 1738, 1739, 1740, 1741, 1742, 1743, 1744, 1745, 1746, 1747, 1748, 1749, 1750, 1751, 1792, 1793, 1794, 1795, 1796, 1797, 1798, 1799, 1800, 1801, 1802, 1803, 1804, 1805, 1806, 1807, 1808, 1809, 1810, 1811, 1812, 1813, 1814, 1815, 1856, 1857, 1858, 1859, 1860, 1861, 1862, 1863, 1864, 1865, 1866, 1867, 1868, 1869, 1870, 1871, 1872, 1873, 1874, 1875, 1876, 1877, 1878, 1879, 1920, 1921, 1922, 1923, 1924, 1925, 1926, 1927, 1928, 1929, 1930, 1931, 1932, 1933, 1934, 1936, 1937, 1938, 1992, 1993, 1994, 1995, 1996, 1997, 1998, 2000, 2001, 2002, 2003, 2049, 2050, 2051, 2052, 2053, 2054, 2055, 2056, 2057, 2058, 2059, 2060, 2061, 2062, 2063, 2064, 2065, 2066, 2067, 2068, 2069, 2518, 2560, 2561, 2562, 2563, 2961, 2962, 2963, 2964, 4036, 4037, 4038, 4039, 4040, 4041, 4042, 4043, 4044, 4045, 4046, 4047, 4048, 4049, 4050, 4051, 4052, 4053, 4054, 4055, 4096, 4097, 4098, 4099, 4100, 4101, 4102, 4103, 4104, 4105, 4352, 4353, 4354, 4355, 4356, 4357, 4358, 4359, 4360, 4361, 4362, 4363, 4364, 4365, 4366, 4367, 4368, 4369, 4370, 4544, 4545, 4546, 4547, 4548, 4549, 4550, 4551, 4552, 4553, 4554, 4555, 4608, 4609, 4610, 4611, 4612, 4800, 4801, 4802, 4803]
def wsX10_march : List Cond := cw 4036 :: (wI qakh ++ (vx_atS RX10 409 "java/lang/IllegalArgumentException" ["java/lang/RuntimeException", "java/lang/Exception"]).filter goodWord)
theorem qq5 : ∀ i ∈ qakh, cw i ∈ wsX10_march := fun i h => List.mem_cons_of_mem _ (List.mem_append_left _ (List.mem_map_of_mem h))
theorem qaYW : okM 4036 qakh = true := qaq (by decide +kernel)
def qaEe : List Nat := [2, 19, 20, 64, 78, 79, 80, 148, 149, 200, 201, 202, 203, 208, 276, 322, 323, 324, 326, 328, 329, 330, 331, 644, 649, 650, 651, 652, 653, 654, 655, 656, 657, 658, 659, 660, 661, 662, 663, 704, 705, 706, 1047, 1092, 1093, 1094, 1738, 1739, 1740, 1741, 1742, 1743, 1744, 1745, 1746, 1747, 1748, 1749, 1750, 1751, 1792, 1793, 1794, 1795, 1796, 1797, 1798, 1799, 1800, 1801, 1802, 1803, 1804, 1805, 1806, 1807, 1808, 1809, 1810, 1811, 1812, 1813, 1814, 1815, 1856, 1857, 1858, 1859, 1860, 1861, 1862, 1863, 1864, 1865, 1866, 1867, 1868, 1869, 1870, 1871, 1872, 1873, 1874, 1875, 1876, 1877, 1878, 1879, 1920, 1921, 1922, 1923, 1924, 1925, 1926, 1927, 1928, 1929, 1930, 1931, 1932, 1933, 1934, 1936, 1937, 1938, 1992, 1993, 1994, 1995, 1996, 1997, 1998, 2000, 2001, 2002, 2003, 2049, 2050, 2051, 2052, 2053, 2054, 2055, 2056, 2057, 2058, 2059, 2060, 2061, 2062, 2063, 2064, 2065, 2066, 2067, 2068, 2069, 2755, 2961, 2962, 2963, 2964, 3404, 4037, 4038, 4039, 4040, 4041, 4042, 4043, 4044, 4045, 4046, 4047, 4048, 4049, 4050, 4051, 4052, 4053, 4054, 4055, 4096, 4097, 4098, 4099, 4100, 4101, 4171, 4172, 4352, 4353, 4354, 4355, 4356, 4357, 4358, 4359, 4360, 4361, 4362, 4363, 4364, 4365, 4366, 4367, 4368, 4369, 4370, 4544, 4545, 4546, 4547, 4548, 4549, 4550, 4551, 4552, 4553, 4554, 4555, 4608, 4609, 4610, 4611, 4612, 4800, 4801, 4802, 4803]
def wsX10_span : List Cond := cw 4171 :: (wI qaEe ++ (vx_atS RX10 409 "java/lang/IllegalArgumentException" ["java/lang/RuntimeException", "java/lang/Exception"]).filter goodWord)
theorem qnA : ∀ i ∈ qaEe, cw i ∈ wsX10_span := fun i h => List.mem_cons_of_mem _ (List.mem_append_left _ (List.mem_map_of_mem h))
theorem qa2t : okM 4171 qaEe = true := qaq (by decide +kernel)
def qaLk : List Nat := [79, 83, 84, 85, 329, 330, 331, 335, 642, 1672, 1673, 1674, 1675, 1676, 1677, 1678, 4180, 4181, 4182, 4183, 4224, 4352, 4353, 4354, 4355, 4356, 4357, 4358, 4359, 4360, 4361, 4362, 4363, 4364, 4365, 4366, 4367, 4368, 4369, 4370, 4800, 4801, 4802, 4803, 4864, 4865]
def wsX10_image : List Cond := cw 4180 :: wI qaLk
theorem qz0 : ∀ i ∈ qaLk, cw i ∈ wsX10_image := fun i h => List.mem_cons_of_mem _ (List.mem_map_of_mem h)
def qan5 : List Nat := [79, 83, 84, 85, 329, 330, 331, 335, 642, 643, 1676, 1677, 1678, 2501, 2502, 2503, 2504, 4181, 4182, 4183, 4224, 4240, 4352, 4353, 4354, 4355, 4356, 4357, 4358, 4359, 4360, 4361, 4362, 4363, 4364, 4365, 4366, 4367, 4368, 4369, 4370, 4800, 4801, 4802, 4803, 4864, 4865]
def wsX10_restore : List Cond := cw 4240 :: wI qan5
theorem qtL : ∀ i ∈ qan5, cw i ∈ wsX10_restore := fun i h => List.mem_cons_of_mem _ (List.mem_map_of_mem h)
def qaxn : List Nat := [706, 2692, 4288, 4352, 4353, 4354, 4355, 4356, 4357, 4358, 4359, 4360, 4361, 4362, 4363, 4364, 4365, 4366, 4367, 4368, 4369, 4370]
def wsX10_status : List Cond := cw 4288 :: wI qaxn
theorem q2z : ∀ i ∈ qaxn, cw i ∈ wsX10_status := fun i h => List.mem_cons_of_mem _ (List.mem_map_of_mem h)
def qaMh : List Nat := [16, 84, 535, 641, 642, 4296, 4352, 4353, 4354, 4355, 4356, 4357, 4358, 4359, 4360, 4361, 4362, 4363, 4364, 4365, 4366, 4367, 4368, 4369, 4370, 4480, 4481, 4482, 4483, 4484, 4485, 4486, 4864, 4865]
def wsX10_count : List Cond := cw 4296 :: wI qaMh
theorem qBr : ∀ i ∈ qaMh, cw i ∈ wsX10_count := fun i h => List.mem_cons_of_mem _ (List.mem_map_of_mem h)
def qaCQ : List Nat := [589, 3989, 4416, 4417, 4418, 4419, 4420, 4421, 4422, 4423, 4424, 4425, 4426, 4427, 4428, 4429, 4430, 4431, 4432, 4433, 4434, 4435, 4436, 4437, 4438, 4439, 4440, 4441, 4442, 4443, 4444, 4445, 4446, 4447, 4448, 4449, 4450, 4451, 4452, 4453, 4454, 4455, 4456, 4457, 4458, 4459, 4460, 4461, 4462, 4463, 4464, 4465, 4466, 4467, 4468, 4469, 4470]
def wsX11_thrown : List Cond := cw 3989 :: wI qaCQ
theorem qaoG : ∀ i ∈ qaCQ, cw i ∈ wsX11_thrown := fun i h => List.mem_cons_of_mem _ (List.mem_map_of_mem h)
def qaPH : List Nat := [398, 589, 1108, 4416, 4417, 4418, 4419, 4420, 4421, 4422, 4423, 4424, 4425, 4426, 4427, 4428, 4429, 4430, 4431, 4432, 4433, 4434, 4435, 4436, 4437, 4438, 4439, 4440, 4441, 4442, 4443, 4444, 4445, 4446, 4447, 4448, 4449, 4450, 4451, 4452, 4453, 4454, 4455, 4456, 4457, 4458, 4459, 4460, 4461, 4462, 4463, 4464, 4465, 4466, 4467, 4468, 4469, 4470]
def wsX11_may : List Cond := cw 1108 :: wI qaPH
theorem qaDA : ∀ i ∈ qaPH, cw i ∈ wsX11_may := fun i h => List.mem_cons_of_mem _ (List.mem_map_of_mem h)
theorem qoO : okM 1108 qaPH = true := qaq (by decide +kernel)
def qaDz : List Nat := [2579]
def wsX11_within : List Cond := cw 2579 :: wI qaDz
theorem qix : okM 2579 qaDz = true := qaq (by decide +kernel)
def qaaK : List Nat := [404, 471, 512, 513, 514, 4416, 4417, 4418, 4419, 4420, 4421, 4422, 4423, 4424, 4425, 4426, 4427, 4428, 4429, 4430, 4431, 4432, 4433, 4434, 4435, 4436, 4437, 4438, 4439, 4440, 4441, 4442, 4443, 4444, 4445, 4446, 4447, 4448, 4449, 4450, 4451, 4452, 4453, 4454, 4455, 4456, 4457, 4458, 4459, 4460, 4461, 4462, 4463, 4464, 4465, 4466, 4467, 4468, 4469, 4470]
def wsX11_clears : List Cond := cw 471 :: wI qaaK
theorem qK6 : ∀ i ∈ qaaK, cw i ∈ wsX11_clears := fun i h => List.mem_cons_of_mem _ (List.mem_map_of_mem h)
theorem qaoy : okM 471 qaaK = true := qaq (by decide +kernel)
def qawZ : List Nat := [530]
def wsX11_copies : List Cond := cw 530 :: wI qawZ
theorem qLe : okM 530 qawZ = true := qaq (by decide +kernel)
def qaCY : List Nat := [5, 401, 402, 403, 404, 405, 406, 407, 456, 460, 512, 513, 514, 518, 519, 520, 521, 522, 523, 524, 525, 526, 527, 528, 529, 530, 4416, 4417, 4418, 4419, 4420, 4421, 4422, 4423, 4424, 4425, 4426, 4427, 4428, 4429, 4430, 4431, 4432, 4433, 4434, 4435, 4436, 4437, 4438, 4439, 4440, 4441, 4442, 4443, 4444, 4445, 4446, 4447, 4448, 4449, 4450, 4451, 4452, 4453, 4454, 4455, 4456, 4457, 4458, 4459, 4460, 4461, 4462, 4463, 4464, 4465, 4466, 4467, 4468, 4469, 4470]
def wsX11_sets : List Cond := cw 518 :: wI qaCY
theorem qm7 : ∀ i ∈ qaCY, cw i ∈ wsX11_sets := fun i h => List.mem_cons_of_mem _ (List.mem_map_of_mem h)
theorem qaLN : okM 518 qaCY = true := qaq (by decide +kernel)
def qaWq : List Nat := [5, 6, 11, 12, 147, 396, 397, 398, 399, 400, 401, 402, 403, 404, 405, 406, 407, 448, 449, 450, 451, 452, 453, 454, 455, 456, 457, 458, 459, 460, 461, 462, 463, 464, 465, 466, 467, 468, 469, 470, 471, 512, 513, 514, 515, 516, 517, 518, 519, 520, 521, 522, 523, 524, 525, 526, 527, 528, 529, 530, 4416, 4417, 4418, 4419, 4420, 4421, 4422, 4423, 4424, 4425, 4426, 4427, 4428, 4429, 4430, 4431, 4432, 4433, 4434, 4435, 4436, 4437, 4438, 4439, 4440, 4441, 4442, 4443, 4444, 4445, 4446, 4447, 4448, 4449, 4450, 4451, 4452, 4453, 4454, 4455, 4456, 4457, 4458, 4459, 4460, 4461, 4462, 4463, 4464, 4465, 4466, 4467, 4468, 4469, 4470]
def wsX11_init : List Cond := cw 396 :: wI qaWq
theorem qcy : ∀ i ∈ qaWq, cw i ∈ wsX11_init := fun i h => List.mem_cons_of_mem _ (List.mem_map_of_mem h)
def qaVM : List Nat := [400, 588, 589, 590, 4416, 4417, 4418, 4419, 4420, 4421, 4422, 4423, 4424, 4425, 4426, 4427, 4428, 4429, 4430, 4431, 4432, 4433, 4434, 4435, 4436, 4437, 4438, 4439, 4440, 4441, 4442, 4443, 4444, 4445, 4446, 4447, 4448, 4449, 4450, 4451, 4452, 4453, 4454, 4455, 4456, 4457, 4458, 4459, 4460, 4461, 4462, 4463, 4464, 4465, 4466, 4467, 4468, 4469, 4470]
def wsX11_feed : List Cond := cw 588 :: wI qaVM
theorem q4W : ∀ i ∈ qaVM, cw i ∈ wsX11_feed := fun i h => List.mem_cons_of_mem _ (List.mem_map_of_mem h)
def qavQ : List Nat := [1104, 1158, 4416, 4417, 4418, 4419, 4420, 4421, 4422, 4423, 4424, 4425, 4426, 4427, 4428, 4429, 4430, 4431, 4432, 4433, 4434, 4435, 4436, 4437, 4438, 4439, 4440, 4441, 4442, 4443, 4444, 4445, 4446, 4447, 4448, 4449, 4450, 4451, 4452, 4453, 4454, 4455, 4456, 4457, 4458, 4459, 4460, 4461, 4462, 4463, 4464, 4465, 4466, 4467, 4468, 4469, 4470]
def wsX11_fine : List Cond := cw 1158 :: wI qavQ
theorem qaLX : ∀ i ∈ qavQ, cw i ∈ wsX11_fine := fun i h => List.mem_cons_of_mem _ (List.mem_map_of_mem h)
theorem qsV : okM 1158 qavQ = true := qaq (by decide +kernel)
def qala : List Nat := [1104, 1225, 1226, 4416, 4417, 4418, 4419, 4420, 4421, 4422, 4423, 4424, 4425, 4426, 4427, 4428, 4429, 4430, 4431, 4432, 4433, 4434, 4435, 4436, 4437, 4438, 4439, 4440, 4441, 4442, 4443, 4444, 4445, 4446, 4447, 4448, 4449, 4450, 4451, 4452, 4453, 4454, 4455, 4456, 4457, 4458, 4459, 4460, 4461, 4462, 4463, 4464, 4465, 4466, 4467, 4468, 4469, 4470]
def wsX11_wrong : List Cond := cw 1225 :: wI qala
theorem qab0 : ∀ i ∈ qala, cw i ∈ wsX11_wrong := fun i h => List.mem_cons_of_mem _ (List.mem_map_of_mem h)
theorem qzR : okM 1225 qala = true := qaq (by decide +kernel)
def qaAe : List Nat := [400, 1103, 1153, 1166, 4416, 4417, 4418, 4419, 4420, 4421, 4422, 4423, 4424, 4425, 4426, 4427, 4428, 4429, 4430, 4431, 4432, 4433, 4434, 4435, 4436, 4437, 4438, 4439, 4440, 4441, 4442, 4443, 4444, 4445, 4446, 4447, 4448, 4449, 4450, 4451, 4452, 4453, 4454, 4455, 4456, 4457, 4458, 4459, 4460, 4461, 4462, 4463, 4464, 4465, 4466, 4467, 4468, 4469, 4470]
def wsX11_here : List Cond := cw 1166 :: wI qaAe
theorem q47 : ∀ i ∈ qaAe, cw i ∈ wsX11_here := fun i h => List.mem_cons_of_mem _ (List.mem_map_of_mem h)
theorem qAE : okM 1166 qaAe = true := qaq (by decide +kernel)
def qan4 : List Nat := [1173]
def wsX11_isSmall : List Cond := cw 1173 :: wI qan4
theorem qadn : okM 1173 qan4 = true := qaq (by decide +kernel)
def qaof : List Nat := [1285]
def wsX11_isDigit : List Cond := cw 1285 :: wI qaof
theorem qagj : okM 1285 qaof = true := qaq (by decide +kernel)
def qazI : List Nat := [5, 400, 1103, 1153, 1163, 1164, 1165, 1166, 1170, 1171, 1172, 1173, 4416, 4417, 4418, 4419, 4420, 4421, 4422, 4423, 4424, 4425, 4426, 4427, 4428, 4429, 4430, 4431, 4432, 4433, 4434, 4435, 4436, 4437, 4438, 4439, 4440, 4441, 4442, 4443, 4444, 4445, 4446, 4447, 4448, 4449, 4450, 4451, 4452, 4453, 4454, 4455, 4456, 4457, 4458, 4459, 4460, 4461, 4462, 4463, 4464, 4465, 4466, 4467, 4468, 4469, 4470]
def wsX11_word : List Cond := cw 1170 :: wI qazI
theorem qGv : ∀ i ∈ qazI, cw i ∈ wsX11_word := fun i h => List.mem_cons_of_mem _ (List.mem_map_of_mem h)
theorem q5k : okM 1170 qazI = true := qaq (by decide +kernel)
def qaYy : List Nat := [784, 785, 786, 787, 788, 789, 790, 791, 832, 833, 834, 841, 842, 843, 844, 845, 846, 847, 848, 849, 850, 851, 852, 853, 854, 855, 896, 897, 898, 899, 900, 901, 902, 903, 904, 905, 906, 907, 908, 909, 910, 911, 912, 913, 914, 915, 916, 1219, 1220, 1221]
def wsX11_of : List Cond := cw 1219 :: wI qaYy
theorem qau7 : ∀ i ∈ qaYy, cw i ∈ wsX11_of := fun i h => List.mem_cons_of_mem _ (List.mem_map_of_mem h)
theorem q4U : okM 1219 qaYy = true := qaq (by decide +kernel)
def qayI : List Nat := [5, 400, 1103, 1153, 1171, 1172, 1173, 1234, 4416, 4417, 4418, 4419, 4420, 4421, 4422, 4423, 4424, 4425, 4426, 4427, 4428, 4429, 4430, 4431, 4432, 4433, 4434, 4435, 4436, 4437, 4438, 4439, 4440, 4441, 4442, 4443, 4444, 4445, 4446, 4447, 4448, 4449, 4450, 4451, 4452, 4453, 4454, 4455, 4456, 4457, 4458, 4459, 4460, 4461, 4462, 4463, 4464, 4465, 4466, 4467, 4468, 4469, 4470]
def wsX11_pass : List Cond := cw 1234 :: wI qayI
theorem qOE : ∀ i ∈ qayI, cw i ∈ wsX11_pass := fun i h => List.mem_cons_of_mem _ (List.mem_map_of_mem h)
theorem qajF : okM 1234 qayI = true := qaq (by decide +kernel)
def qPB : List Nat := [5, 400, 1103, 1104, 1153, 1155, 1156, 1157, 1158, 1163, 1164, 1165, 1166, 1222, 1223, 1224, 1225, 1226, 1282, 1283, 1284, 1285, 4416, 4417, 4418, 4419, 4420, 4421, 4422, 4423, 4424, 4425, 4426, 4427, 4428, 4429, 4430, 4431, 4432, 4433, 4434, 4435, 4436, 4437, 4438, 4439, 4440, 4441, 4442, 4443, 4444, 4445, 4446, 4447, 4448, 4449, 4450, 4451, 4452, 4453, 4454, 4455, 4456, 4457, 4458, 4459, 4460, 4461, 4462, 4463, 4464, 4465, 4466, 4467, 4468, 4469, 4470]
def wsX11_readNumber : List Cond := cw 1282 :: wI qPB
theorem qmZ : ∀ i ∈ qPB, cw i ∈ wsX11_readNumber := fun i h => List.mem_cons_of_mem _ (List.mem_map_of_mem h)
theorem quK : okM 1282 qPB = true := qaq (by decide +kernel)
def qayh : List Nat := [5, 400, 1103, 1104, 1153, 1155, 1156, 1157, 1158, 1163, 1164, 1165, 1166, 1222, 1223, 1224, 1225, 1226, 1297, 4416, 4417, 4418, 4419, 4420, 4421, 4422, 4423, 4424, 4425, 4426, 4427, 4428, 4429, 4430, 4431, 4432, 4433, 4434, 4435, 4436, 4437, 4438, 4439, 4440, 4441, 4442, 4443, 4444, 4445, 4446, 4447, 4448, 4449, 4450, 4451, 4452, 4453, 4454, 4455, 4456, 4457, 4458, 4459, 4460, 4461, 4462, 4463, 4464, 4465, 4466, 4467, 4468, 4469, 4470]
def wsX11_sign : List Cond := cw 1297 :: wI qayh
theorem qGr : ∀ i ∈ qayh, cw i ∈ wsX11_sign := fun i h => List.mem_cons_of_mem _ (List.mem_map_of_mem h)
theorem qVi : okM 1297 qayh = true := qaq (by decide +kernel)
def qabj : List Nat := [5, 400, 1103, 1153, 1162, 1163, 1164, 1165, 1166, 4416, 4417, 4418, 4419, 4420, 4421, 4422, 4423, 4424, 4425, 4426, 4427, 4428, 4429, 4430, 4431, 4432, 4433, 4434, 4435, 4436, 4437, 4438, 4439, 4440, 4441, 4442, 4443, 4444, 4445, 4446, 4447, 4448, 4449, 4450, 4451, 4452, 4453, 4454, 4455, 4456, 4457, 4458, 4459, 4460, 4461, 4462, 4463, 4464, 4465, 4466, 4467, 4468, 4469, 4470]
def wsX11_isMore : List Cond := cw 1162 :: wI qabj
theorem qLs : ∀ i ∈ qabj, cw i ∈ wsX11_isMore := fun i h => List.mem_cons_of_mem _ (List.mem_map_of_mem h)
theorem qR9 : okM 1162 qabj = true := qaq (by decide +kernel)
def q93 : List Nat := [399, 590, 1103, 1104, 1152, 1153, 1154, 4416, 4417, 4418, 4419, 4420, 4421, 4422, 4423, 4424, 4425, 4426, 4427, 4428, 4429, 4430, 4431, 4432, 4433, 4434, 4435, 4436, 4437, 4438, 4439, 4440, 4441, 4442, 4443, 4444, 4445, 4446, 4447, 4448, 4449, 4450, 4451, 4452, 4453, 4454, 4455, 4456, 4457, 4458, 4459, 4460, 4461, 4462, 4463, 4464, 4465, 4466, 4467, 4468, 4469, 4470]
def wsX11_begins : List Cond := cw 1152 :: wI q93
theorem qBP : ∀ i ∈ q93, cw i ∈ wsX11_begins := fun i h => List.mem_cons_of_mem _ (List.mem_map_of_mem h)
theorem qRI : okM 1152 q93 = true := qaq (by decide +kernel)
def qaac : List Nat := [5, 399, 1104, 1155, 1156, 1157, 1158, 1226, 1301, 4416, 4417, 4418, 4419, 4420, 4421, 4422, 4423, 4424, 4425, 4426, 4427, 4428, 4429, 4430, 4431, 4432, 4433, 4434, 4435, 4436, 4437, 4438, 4439, 4440, 4441, 4442, 4443, 4444, 4445, 4446, 4447, 4448, 4449, 4450, 4451, 4452, 4453, 4454, 4455, 4456, 4457, 4458, 4459, 4460, 4461, 4462, 4463, 4464, 4465, 4466, 4467, 4468, 4469, 4470]
def wsX11_result : List Cond := cw 1301 :: wI qaac
theorem qGH : ∀ i ∈ qaac, cw i ∈ wsX11_result := fun i h => List.mem_cons_of_mem _ (List.mem_map_of_mem h)
theorem qSA : okM 1301 qaac = true := qaq (by decide +kernel)
def qaMm : List Nat := [399, 589, 2496, 4416, 4417, 4418, 4419, 4420, 4421, 4422, 4423, 4424, 4425, 4426, 4427, 4428, 4429, 4430, 4431, 4432, 4433, 4434, 4435, 4436, 4437, 4438, 4439, 4440, 4441, 4442, 4443, 4444, 4445, 4446, 4447, 4448, 4449, 4450, 4451, 4452, 4453, 4454, 4455, 4456, 4457, 4458, 4459, 4460, 4461, 4462, 4463, 4464, 4465, 4466, 4467, 4468, 4469, 4470]
def wsX11_fault : List Cond := cw 2496 :: wI qaMm
theorem q9M : ∀ i ∈ qaMm, cw i ∈ wsX11_fault := fun i h => List.mem_cons_of_mem _ (List.mem_map_of_mem h)
def qWC : List Nat := [5, 400, 513, 1103, 1104, 1153, 1155, 1156, 1157, 1158, 1163, 1164, 1165, 1166, 1222, 1223, 1224, 1225, 1226, 1239, 1280, 1281, 1282, 1283, 1284, 1285, 1293, 4416, 4417, 4418, 4419, 4420, 4421, 4422, 4423, 4424, 4425, 4426, 4427, 4428, 4429, 4430, 4431, 4432, 4433, 4434, 4435, 4436, 4437, 4438, 4439, 4440, 4441, 4442, 4443, 4444, 4445, 4446, 4447, 4448, 4449, 4450, 4451, 4452, 4453, 4454, 4455, 4456, 4457, 4458, 4459, 4460, 4461, 4462, 4463, 4464, 4465, 4466, 4467, 4468, 4469, 4470]
def wsX11_readHare : List Cond := cw 1293 :: wI qWC
theorem qKt : ∀ i ∈ qWC, cw i ∈ wsX11_readHare := fun i h => List.mem_cons_of_mem _ (List.mem_map_of_mem h)
theorem qaIT : okM 1293 qWC = true := qaq (by decide +kernel)
def qWK : List Nat := [5, 400, 404, 513, 1103, 1104, 1153, 1155, 1156, 1157, 1158, 1163, 1164, 1165, 1166, 1222, 1223, 1224, 1225, 1226, 1239, 1280, 1281, 1282, 1283, 1284, 1285, 1289, 1290, 1291, 1292, 1293, 4416, 4417, 4418, 4419, 4420, 4421, 4422, 4423, 4424, 4425, 4426, 4427, 4428, 4429, 4430, 4431, 4432, 4433, 4434, 4435, 4436, 4437, 4438, 4439, 4440, 4441, 4442, 4443, 4444, 4445, 4446, 4447, 4448, 4449, 4450, 4451, 4452, 4453, 4454, 4455, 4456, 4457, 4458, 4459, 4460, 4461, 4462, 4463, 4464, 4465, 4466, 4467, 4468, 4469, 4470]
def wsX11_readDebt : List Cond := cw 1289 :: wI qWK
theorem qoi : ∀ i ∈ qWK, cw i ∈ wsX11_readDebt := fun i h => List.mem_cons_of_mem _ (List.mem_map_of_mem h)
theorem qaJ1 : okM 1289 qWK = true := qaq (by decide +kernel)
def qam8 : List Nat := [5, 784, 785, 786, 787, 788, 789, 790, 791, 832, 833, 834, 841, 842, 843, 844, 845, 846, 847, 848, 849, 850, 851, 852, 853, 854, 855, 896, 897, 898, 899, 900, 901, 902, 903, 904, 905, 906, 907, 908, 909, 910, 911, 912, 913, 914, 915, 916, 1216, 1217, 1218, 1219, 1220, 1221]
def wsX11_isRow : List Cond := cw 1216 :: wI qam8
theorem qaCA : ∀ i ∈ qam8, cw i ∈ wsX11_isRow := fun i h => List.mem_cons_of_mem _ (List.mem_map_of_mem h)
theorem qaZI : okM 1216 qam8 = true := qaq (by decide +kernel)
def qaaH : List Nat := [5, 512, 513, 514, 784, 785, 786, 787, 788, 789, 790, 791, 832, 833, 834, 841, 842, 843, 844, 845, 846, 847, 848, 849, 850, 851, 852, 853, 854, 855, 896, 897, 898, 899, 900, 901, 902, 903, 904, 905, 906, 907, 908, 909, 910, 911, 912, 913, 914, 915, 916, 1217, 1218, 1219, 1220, 1221, 1230, 4416, 4417, 4418, 4419, 4420, 4421, 4422, 4423, 4424, 4425, 4426, 4427, 4428, 4429, 4430, 4431, 4432, 4433, 4434, 4435, 4436, 4437, 4438, 4439, 4440, 4441, 4442, 4443, 4444, 4445, 4446, 4447, 4448, 4449, 4450, 4451, 4452, 4453, 4454, 4455, 4456, 4457, 4458, 4459, 4460, 4461, 4462, 4463, 4464, 4465, 4466, 4467, 4468, 4469, 4470]
def wsX11_isFull : List Cond := cw 1230 :: wI qaaH
theorem qGp : ∀ i ∈ qaaH, cw i ∈ wsX11_isFull := fun i h => List.mem_cons_of_mem _ (List.mem_map_of_mem h)
theorem qaVP : okM 1230 qaaH = true := qaq (by decide +kernel)
def q1G : List Nat := [5, 400, 401, 402, 403, 404, 512, 513, 514, 784, 785, 786, 787, 788, 789, 790, 791, 832, 833, 834, 841, 842, 843, 844, 845, 846, 847, 848, 849, 850, 851, 852, 853, 854, 855, 896, 897, 898, 899, 900, 901, 902, 903, 904, 905, 906, 907, 908, 909, 910, 911, 912, 913, 914, 915, 916, 1103, 1104, 1153, 1155, 1156, 1157, 1158, 1163, 1164, 1165, 1166, 1217, 1218, 1219, 1220, 1221, 1222, 1223, 1224, 1225, 1226, 1238, 1239, 1280, 1281, 1282, 1283, 1284, 1285, 1286, 1287, 1288, 1289, 1290, 1291, 1292, 1293, 4416, 4417, 4418, 4419, 4420, 4421, 4422, 4423, 4424, 4425, 4426, 4427, 4428, 4429, 4430, 4431, 4432, 4433, 4434, 4435, 4436, 4437, 4438, 4439, 4440, 4441, 4442, 4443, 4444, 4445, 4446, 4447, 4448, 4449, 4450, 4451, 4452, 4453, 4454, 4455, 4456, 4457, 4458, 4459, 4460, 4461, 4462, 4463, 4464, 4465, 4466, 4467, 4468, 4469, 4470]
def wsX11_readRow : List Cond := cw 1238 :: wI q1G
theorem qpH : ∀ i ∈ q1G, cw i ∈ wsX11_readRow := fun i h => List.mem_cons_of_mem _ (List.mem_map_of_mem h)
theorem qaMU : okM 1238 q1G = true := qaq (by decide +kernel)
def qaTP : List Nat := [5, 398, 399, 400, 401, 402, 403, 404, 405, 406, 407, 456, 460, 468, 469, 470, 471, 512, 513, 514, 515, 516, 517, 518, 519, 520, 521, 522, 523, 524, 525, 526, 527, 528, 529, 530, 589, 590, 784, 785, 786, 787, 788, 789, 790, 791, 832, 833, 834, 841, 842, 843, 844, 845, 846, 847, 848, 849, 850, 851, 852, 853, 854, 855, 896, 897, 898, 899, 900, 901, 902, 903, 904, 905, 906, 907, 908, 909, 910, 911, 912, 913, 914, 915, 916, 1102, 1103, 1104, 1105, 1106, 1107, 1108, 1109, 1110, 1111, 1152, 1153, 1154, 1155, 1156, 1157, 1158, 1159, 1160, 1161, 1162, 1163, 1164, 1165, 1166, 1167, 1168, 1169, 1170, 1171, 1172, 1173, 1174, 1175, 1216, 1217, 1218, 1219, 1220, 1221, 1222, 1223, 1224, 1225, 1226, 1227, 1228, 1229, 1230, 1231, 1232, 1233, 1234, 1235, 1236, 1237, 1238, 1239, 1280, 1281, 1282, 1283, 1284, 1285, 1286, 1287, 1288, 1289, 1290, 1291, 1292, 1293, 1294, 1295, 1296, 1297, 1298, 1299, 1300, 1301, 4416, 4417, 4418, 4419, 4420, 4421, 4422, 4423, 4424, 4425, 4426, 4427, 4428, 4429, 4430, 4431, 4432, 4433, 4434, 4435, 4436, 4437, 4438, 4439, 4440, 4441, 4442, 4443, 4444, 4445, 4446, 4447, 4448, 4449, 4450, 4451, 4452, 4453, 4454, 4455, 4456, 4457, 4458, 4459, 4460, 4461, 4462, 4463, 4464, 4465, 4466, 4467, 4468, 4469, 4470]
def wsX11_down : List Cond := cw 1102 :: wI qaTP
theorem qdJ : ∀ i ∈ qaTP, cw i ∈ wsX11_down := fun i h => List.mem_cons_of_mem _ (List.mem_map_of_mem h)
def qavT : List Nat := [5, 448, 449, 1104, 1155, 1156, 1157, 1158, 1481, 1492, 4416, 4417, 4418, 4419, 4420, 4421, 4422, 4423, 4424, 4425, 4426, 4427, 4428, 4429, 4430, 4431, 4432, 4433, 4434, 4435, 4436, 4437, 4438, 4439, 4440, 4441, 4442, 4443, 4444, 4445, 4446, 4447, 4448, 4449, 4450, 4451, 4452, 4453, 4454, 4455, 4456, 4457, 4458, 4459, 4460, 4461, 4462, 4463, 4464, 4465, 4466, 4467, 4468, 4469, 4470]
def wsX11_emit : List Cond := cw 1492 :: wI qavT
theorem qOD : ∀ i ∈ qavT, cw i ∈ wsX11_emit := fun i h => List.mem_cons_of_mem _ (List.mem_map_of_mem h)
theorem q4V : okM 1492 qavT = true := qaq (by decide +kernel)
def qXi : List Nat := [5, 1103, 1104, 1154, 1155, 1156, 1157, 1158, 1222, 1223, 1224, 1225, 1226, 1541, 4416, 4417, 4418, 4419, 4420, 4421, 4422, 4423, 4424, 4425, 4426, 4427, 4428, 4429, 4430, 4431, 4432, 4433, 4434, 4435, 4436, 4437, 4438, 4439, 4440, 4441, 4442, 4443, 4444, 4445, 4446, 4447, 4448, 4449, 4450, 4451, 4452, 4453, 4454, 4455, 4456, 4457, 4458, 4459, 4460, 4461, 4462, 4463, 4464, 4465, 4466, 4467, 4468, 4469, 4470]
def wsX11_opensOne : List Cond := cw 1541 :: wI qXi
theorem qxC : ∀ i ∈ qXi, cw i ∈ wsX11_opensOne := fun i h => List.mem_cons_of_mem _ (List.mem_map_of_mem h)
theorem qUF : okM 1541 qXi = true := qaq (by decide +kernel)
def qYf : List Nat := [5, 400, 784, 785, 786, 787, 788, 789, 790, 791, 832, 833, 834, 841, 842, 843, 844, 845, 846, 847, 848, 849, 850, 851, 852, 853, 854, 855, 896, 897, 898, 899, 900, 901, 902, 903, 904, 905, 906, 907, 908, 909, 910, 911, 912, 913, 914, 915, 916, 1103, 1153, 1163, 1164, 1165, 1166, 1167, 1168, 1169, 1170, 1171, 1172, 1173, 1217, 1218, 1219, 1220, 1221, 1549, 4416, 4417, 4418, 4419, 4420, 4421, 4422, 4423, 4424, 4425, 4426, 4427, 4428, 4429, 4430, 4431, 4432, 4433, 4434, 4435, 4436, 4437, 4438, 4439, 4440, 4441, 4442, 4443, 4444, 4445, 4446, 4447, 4448, 4449, 4450, 4451, 4452, 4453, 4454, 4455, 4456, 4457, 4458, 4459, 4460, 4461, 4462, 4463, 4464, 4465, 4466, 4467, 4468, 4469, 4470]
def wsX11_factHere : List Cond := cw 1549 :: wI qYf
theorem qKA : ∀ i ∈ qYf, cw i ∈ wsX11_factHere := fun i h => List.mem_cons_of_mem _ (List.mem_map_of_mem h)
theorem qaJG : okM 1549 qYf = true := qaq (by decide +kernel)
def qMU : List Nat := [5, 400, 448, 449, 784, 785, 786, 787, 788, 789, 790, 791, 832, 833, 834, 841, 842, 843, 844, 845, 846, 847, 848, 849, 850, 851, 852, 853, 854, 855, 896, 897, 898, 899, 900, 901, 902, 903, 904, 905, 906, 907, 908, 909, 910, 911, 912, 913, 914, 915, 916, 1103, 1104, 1153, 1154, 1155, 1156, 1157, 1158, 1163, 1164, 1165, 1166, 1167, 1168, 1169, 1170, 1171, 1172, 1173, 1217, 1218, 1219, 1220, 1221, 1222, 1223, 1224, 1225, 1226, 1231, 1232, 1233, 1234, 1239, 1280, 1281, 1282, 1283, 1284, 1285, 1294, 1295, 1296, 1297, 1481, 1482, 1483, 1484, 1485, 1486, 1487, 1488, 1489, 1490, 1491, 1492, 1493, 1494, 1495, 1536, 1537, 1538, 1539, 1540, 1541, 1542, 1543, 1544, 1545, 1546, 1547, 1548, 1549, 4416, 4417, 4418, 4419, 4420, 4421, 4422, 4423, 4424, 4425, 4426, 4427, 4428, 4429, 4430, 4431, 4432, 4433, 4434, 4435, 4436, 4437, 4438, 4439, 4440, 4441, 4442, 4443, 4444, 4445, 4446, 4447, 4448, 4449, 4450, 4451, 4452, 4453, 4454, 4455, 4456, 4457, 4458, 4459, 4460, 4461, 4462, 4463, 4464, 4465, 4466, 4467, 4468, 4469, 4470]
def wsX11_readProduct : List Cond := cw 1493 :: wI qMU
theorem qkP : ∀ i ∈ qMU, cw i ∈ wsX11_readProduct := fun i h => List.mem_cons_of_mem _ (List.mem_map_of_mem h)
theorem qajB : okM 1493 qMU = true := qaq (by decide +kernel)
def q3K : List Nat := [5, 400, 448, 449, 784, 785, 786, 787, 788, 789, 790, 791, 832, 833, 834, 841, 842, 843, 844, 845, 846, 847, 848, 849, 850, 851, 852, 853, 854, 855, 896, 897, 898, 899, 900, 901, 902, 903, 904, 905, 906, 907, 908, 909, 910, 911, 912, 913, 914, 915, 916, 1103, 1104, 1153, 1154, 1155, 1156, 1157, 1158, 1163, 1164, 1165, 1166, 1167, 1168, 1169, 1170, 1171, 1172, 1173, 1217, 1218, 1219, 1220, 1221, 1222, 1223, 1224, 1225, 1226, 1231, 1232, 1233, 1234, 1239, 1280, 1281, 1282, 1283, 1284, 1285, 1294, 1295, 1296, 1297, 1481, 1482, 1483, 1484, 1485, 1486, 1487, 1488, 1489, 1490, 1491, 1492, 1493, 1494, 1495, 1536, 1537, 1538, 1539, 1540, 1541, 1542, 1543, 1544, 1545, 1546, 1547, 1548, 1549, 4416, 4417, 4418, 4419, 4420, 4421, 4422, 4423, 4424, 4425, 4426, 4427, 4428, 4429, 4430, 4431, 4432, 4433, 4434, 4435, 4436, 4437, 4438, 4439, 4440, 4441, 4442, 4443, 4444, 4445, 4446, 4447, 4448, 4449, 4450, 4451, 4452, 4453, 4454, 4455, 4456, 4457, 4458, 4459, 4460, 4461, 4462, 4463, 4464, 4465, 4466, 4467, 4468, 4469, 4470]
def wsX11_readSum : List Cond := cw 1485 :: wI q3K
theorem qqS : ∀ i ∈ q3K, cw i ∈ wsX11_readSum := fun i h => List.mem_cons_of_mem _ (List.mem_map_of_mem h)
theorem qXv : okM 1485 q3K = true := qaq (by decide +kernel)
def q1W : List Nat := [5, 400, 448, 449, 784, 785, 786, 787, 788, 789, 790, 791, 832, 833, 834, 841, 842, 843, 844, 845, 846, 847, 848, 849, 850, 851, 852, 853, 854, 855, 896, 897, 898, 899, 900, 901, 902, 903, 904, 905, 906, 907, 908, 909, 910, 911, 912, 913, 914, 915, 916, 1103, 1104, 1153, 1154, 1155, 1156, 1157, 1158, 1163, 1164, 1165, 1166, 1167, 1168, 1169, 1170, 1171, 1172, 1173, 1217, 1218, 1219, 1220, 1221, 1222, 1223, 1224, 1225, 1226, 1231, 1232, 1233, 1234, 1239, 1280, 1281, 1282, 1283, 1284, 1285, 1294, 1295, 1296, 1297, 1481, 1482, 1483, 1484, 1485, 1486, 1487, 1488, 1489, 1490, 1491, 1492, 1493, 1494, 1495, 1536, 1537, 1538, 1539, 1540, 1541, 1542, 1543, 1544, 1545, 1546, 1547, 1548, 1549, 4416, 4417, 4418, 4419, 4420, 4421, 4422, 4423, 4424, 4425, 4426, 4427, 4428, 4429, 4430, 4431, 4432, 4433, 4434, 4435, 4436, 4437, 4438, 4439, 4440, 4441, 4442, 4443, 4444, 4445, 4446, 4447, 4448, 4449, 4450, 4451, 4452, 4453, 4454, 4455, 4456, 4457, 4458, 4459, 4460, 4461, 4462, 4463, 4464, 4465, 4466, 4467, 4468, 4469, 4470]
def wsX11_readTwo : List Cond := cw 1537 :: wI q1W
theorem qtA : ∀ i ∈ q1W, cw i ∈ wsX11_readTwo := fun i h => List.mem_cons_of_mem _ (List.mem_map_of_mem h)
theorem qaPw : okM 1537 q1W = true := qaq (by decide +kernel)
def qXX : List Nat := [5, 400, 448, 449, 784, 785, 786, 787, 788, 789, 790, 791, 832, 833, 834, 841, 842, 843, 844, 845, 846, 847, 848, 849, 850, 851, 852, 853, 854, 855, 896, 897, 898, 899, 900, 901, 902, 903, 904, 905, 906, 907, 908, 909, 910, 911, 912, 913, 914, 915, 916, 1103, 1104, 1153, 1154, 1155, 1156, 1157, 1158, 1163, 1164, 1165, 1166, 1167, 1168, 1169, 1170, 1171, 1172, 1173, 1217, 1218, 1219, 1220, 1221, 1222, 1223, 1224, 1225, 1226, 1231, 1232, 1233, 1234, 1239, 1280, 1281, 1282, 1283, 1284, 1285, 1294, 1295, 1296, 1297, 1481, 1482, 1483, 1484, 1485, 1486, 1487, 1488, 1489, 1490, 1491, 1492, 1493, 1494, 1495, 1536, 1537, 1538, 1539, 1540, 1541, 1542, 1543, 1544, 1545, 1546, 1547, 1548, 1549, 4416, 4417, 4418, 4419, 4420, 4421, 4422, 4423, 4424, 4425, 4426, 4427, 4428, 4429, 4430, 4431, 4432, 4433, 4434, 4435, 4436, 4437, 4438, 4439, 4440, 4441, 4442, 4443, 4444, 4445, 4446, 4447, 4448, 4449, 4450, 4451, 4452, 4453, 4454, 4455, 4456, 4457, 4458, 4459, 4460, 4461, 4462, 4463, 4464, 4465, 4466, 4467, 4468, 4469, 4470]
def wsX11_readUnit : List Cond := cw 1542 :: wI qXX
theorem qbJ : ∀ i ∈ qXX, cw i ∈ wsX11_readUnit := fun i h => List.mem_cons_of_mem _ (List.mem_map_of_mem h)
theorem qaJQ : okM 1542 qXX = true := qaq (by decide +kernel)
def qa0U : List Nat := [5, 398, 399, 400, 448, 449, 450, 451, 522, 527, 528, 529, 530, 589, 590, 784, 785, 786, 787, 788, 789, 790, 791, 832, 833, 834, 841, 842, 843, 844, 845, 846, 847, 848, 849, 850, 851, 852, 853, 854, 855, 896, 897, 898, 899, 900, 901, 902, 903, 904, 905, 906, 907, 908, 909, 910, 911, 912, 913, 914, 915, 916, 1103, 1104, 1105, 1106, 1107, 1108, 1109, 1110, 1111, 1152, 1153, 1154, 1155, 1156, 1157, 1158, 1159, 1160, 1161, 1162, 1163, 1164, 1165, 1166, 1167, 1168, 1169, 1170, 1171, 1172, 1173, 1217, 1218, 1219, 1220, 1221, 1222, 1223, 1224, 1225, 1226, 1231, 1232, 1233, 1234, 1239, 1280, 1281, 1282, 1283, 1284, 1285, 1294, 1295, 1296, 1297, 1298, 1299, 1300, 1301, 1480, 1481, 1482, 1483, 1484, 1485, 1486, 1487, 1488, 1489, 1490, 1491, 1492, 1493, 1494, 1495, 1536, 1537, 1538, 1539, 1540, 1541, 1542, 1543, 1544, 1545, 1546, 1547, 1548, 1549, 4416, 4417, 4418, 4419, 4420, 4421, 4422, 4423, 4424, 4425, 4426, 4427, 4428, 4429, 4430, 4431, 4432, 4433, 4434, 4435, 4436, 4437, 4438, 4439, 4440, 4441, 4442, 4443, 4444, 4445, 4446, 4447, 4448, 4449, 4450, 4451, 4452, 4453, 4454, 4455, 4456, 4457, 4458, 4459, 4460, 4461, 4462, 4463, 4464, 4465, 4466, 4467, 4468, 4469, 4470]
def wsX11_law : List Cond := cw 1480 :: wI qa0U
theorem qnj : ∀ i ∈ qa0U, cw i ∈ wsX11_law := fun i h => List.mem_cons_of_mem _ (List.mem_map_of_mem h)
def qaUG : List Nat := [2314]
def wsX11_both : List Cond := cw 2314 :: wI qaUG
theorem qa25 : okM 2314 qaUG = true := qaq (by decide +kernel)
def qYr : List Nat := [5, 450, 451, 452, 453, 522, 2311, 2312, 2313, 2314, 4416, 4417, 4418, 4419, 4420, 4421, 4422, 4423, 4424, 4425, 4426, 4427, 4428, 4429, 4430, 4431, 4432, 4433, 4434, 4435, 4436, 4437, 4438, 4439, 4440, 4441, 4442, 4443, 4444, 4445, 4446, 4447, 4448, 4449, 4450, 4451, 4452, 4453, 4454, 4455, 4456, 4457, 4458, 4459, 4460, 4461, 4462, 4463, 4464, 4465, 4466, 4467, 4468, 4469, 4470]
def wsX11_valueNow : List Cond := cw 2311 :: wI qYr
theorem qvi : ∀ i ∈ qYr, cw i ∈ wsX11_valueNow := fun i h => List.mem_cons_of_mem _ (List.mem_map_of_mem h)
theorem qaGv : okM 2311 qYr = true := qaq (by decide +kernel)
def q4L : List Nat := [5, 450, 451, 452, 453, 522, 2307, 2308, 2309, 2310, 2311, 2312, 2313, 2314, 4416, 4417, 4418, 4419, 4420, 4421, 4422, 4423, 4424, 4425, 4426, 4427, 4428, 4429, 4430, 4431, 4432, 4433, 4434, 4435, 4436, 4437, 4438, 4439, 4440, 4441, 4442, 4443, 4444, 4445, 4446, 4447, 4448, 4449, 4450, 4451, 4452, 4453, 4454, 4455, 4456, 4457, 4458, 4459, 4460, 4461, 4462, 4463, 4464, 4465, 4466, 4467, 4468, 4469, 4470]
def wsX11_leapNow : List Cond := cw 2307 :: wI q4L
theorem qHq : ∀ i ∈ q4L, cw i ∈ wsX11_leapNow := fun i h => List.mem_cons_of_mem _ (List.mem_map_of_mem h)
theorem qaR7 : okM 2307 q4L = true := qaq (by decide +kernel)
def qTs : List Nat := [5, 454, 1104, 1155, 1156, 1157, 1158, 2114, 2125, 4416, 4417, 4418, 4419, 4420, 4421, 4422, 4423, 4424, 4425, 4426, 4427, 4428, 4429, 4430, 4431, 4432, 4433, 4434, 4435, 4436, 4437, 4438, 4439, 4440, 4441, 4442, 4443, 4444, 4445, 4446, 4447, 4448, 4449, 4450, 4451, 4452, 4453, 4454, 4455, 4456, 4457, 4458, 4459, 4460, 4461, 4462, 4463, 4464, 4465, 4466, 4467, 4468, 4469, 4470]
def wsX11_tellsStep : List Cond := cw 2125 :: wI qTs
theorem qCc : ∀ i ∈ qTs, cw i ∈ wsX11_tellsStep := fun i h => List.mem_cons_of_mem _ (List.mem_map_of_mem h)
theorem qaw5 : okM 2125 qTs = true := qaq (by decide +kernel)
def qOS : List Nat := [5, 400, 520, 1103, 1104, 1153, 1155, 1156, 1157, 1158, 1163, 1164, 1165, 1166, 1222, 1223, 1224, 1225, 1226, 1239, 1280, 1281, 1282, 1283, 1284, 1285, 2129, 4416, 4417, 4418, 4419, 4420, 4421, 4422, 4423, 4424, 4425, 4426, 4427, 4428, 4429, 4430, 4431, 4432, 4433, 4434, 4435, 4436, 4437, 4438, 4439, 4440, 4441, 4442, 4443, 4444, 4445, 4446, 4447, 4448, 4449, 4450, 4451, 4452, 4453, 4454, 4455, 4456, 4457, 4458, 4459, 4460, 4461, 4462, 4463, 4464, 4465, 4466, 4467, 4468, 4469, 4470]
def wsX11_readLiving : List Cond := cw 2129 :: wI qOS
theorem qE9 : ∀ i ∈ qOS, cw i ∈ wsX11_readLiving := fun i h => List.mem_cons_of_mem _ (List.mem_map_of_mem h)
theorem qatO : okM 2129 qOS = true := qaq (by decide +kernel)
def qWO : List Nat := [5, 400, 454, 519, 520, 784, 785, 786, 787, 788, 789, 790, 791, 832, 833, 834, 841, 842, 843, 844, 845, 846, 847, 848, 849, 850, 851, 852, 853, 854, 855, 896, 897, 898, 899, 900, 901, 902, 903, 904, 905, 906, 907, 908, 909, 910, 911, 912, 913, 914, 915, 916, 1103, 1104, 1153, 1154, 1155, 1156, 1157, 1158, 1163, 1164, 1165, 1166, 1167, 1168, 1169, 1170, 1171, 1172, 1173, 1217, 1218, 1219, 1220, 1221, 1222, 1223, 1224, 1225, 1226, 1231, 1232, 1233, 1234, 1239, 1280, 1281, 1282, 1283, 1284, 1285, 1294, 1295, 1296, 1297, 1538, 1539, 1540, 1541, 2114, 2118, 2119, 2120, 2121, 2122, 2123, 2124, 2125, 2126, 2127, 2128, 2129, 4416, 4417, 4418, 4419, 4420, 4421, 4422, 4423, 4424, 4425, 4426, 4427, 4428, 4429, 4430, 4431, 4432, 4433, 4434, 4435, 4436, 4437, 4438, 4439, 4440, 4441, 4442, 4443, 4444, 4445, 4446, 4447, 4448, 4449, 4450, 4451, 4452, 4453, 4454, 4455, 4456, 4457, 4458, 4459, 4460, 4461, 4462, 4463, 4464, 4465, 4466, 4467, 4468, 4469, 4470]
def wsX11_readStep : List Cond := cw 2121 :: wI qWO
theorem qbv : ∀ i ∈ qWO, cw i ∈ wsX11_readStep := fun i h => List.mem_cons_of_mem _ (List.mem_map_of_mem h)
theorem q7O : okM 2121 qWO = true := qaq (by decide +kernel)
def qaC3 : List Nat := [5, 456, 457, 527, 528, 529, 530, 2133, 4416, 4417, 4418, 4419, 4420, 4421, 4422, 4423, 4424, 4425, 4426, 4427, 4428, 4429, 4430, 4431, 4432, 4433, 4434, 4435, 4436, 4437, 4438, 4439, 4440, 4441, 4442, 4443, 4444, 4445, 4446, 4447, 4448, 4449, 4450, 4451, 4452, 4453, 4454, 4455, 4456, 4457, 4458, 4459, 4460, 4461, 4462, 4463, 4464, 4465, 4466, 4467, 4468, 4469, 4470]
def wsX11_take : List Cond := cw 2133 :: wI qaC3
theorem qVv : ∀ i ∈ qaC3, cw i ∈ wsX11_take := fun i h => List.mem_cons_of_mem _ (List.mem_map_of_mem h)
theorem qtc : okM 2133 qaC3 = true := qaq (by decide +kernel)
def qXE : List Nat := [457, 2193, 4416, 4417, 4418, 4419, 4420, 4421, 4422, 4423, 4424, 4425, 4426, 4427, 4428, 4429, 4430, 4431, 4432, 4433, 4434, 4435, 4436, 4437, 4438, 4439, 4440, 4441, 4442, 4443, 4444, 4445, 4446, 4447, 4448, 4449, 4450, 4451, 4452, 4453, 4454, 4455, 4456, 4457, 4458, 4459, 4460, 4461, 4462, 4463, 4464, 4465, 4466, 4467, 4468, 4469, 4470]
def wsX11_isCaught : List Cond := cw 2193 :: wI qXE
theorem q7f : ∀ i ∈ qXE, cw i ∈ wsX11_isCaught := fun i h => List.mem_cons_of_mem _ (List.mem_map_of_mem h)
theorem qnl : okM 2193 qXE = true := qaq (by decide +kernel)
def qaVL : List Nat := [2240]
def wsX11_size : List Cond := cw 2240 :: wI qaVL
theorem qaLw : okM 2240 qaVL = true := qaq (by decide +kernel)
def qany : List Nat := [5, 405, 2197, 2198, 2199, 2240, 4416, 4417, 4418, 4419, 4420, 4421, 4422, 4423, 4424, 4425, 4426, 4427, 4428, 4429, 4430, 4431, 4432, 4433, 4434, 4435, 4436, 4437, 4438, 4439, 4440, 4441, 4442, 4443, 4444, 4445, 4446, 4447, 4448, 4449, 4450, 4451, 4452, 4453, 4454, 4455, 4456, 4457, 4458, 4459, 4460, 4461, 4462, 4463, 4464, 4465, 4466, 4467, 4468, 4469, 4470]
def wsX11_farOf : List Cond := cw 2197 :: wI qany
theorem qYg : ∀ i ∈ qany, cw i ∈ wsX11_farOf := fun i h => List.mem_cons_of_mem _ (List.mem_map_of_mem h)
theorem qFk : okM 2197 qany = true := qaq (by decide +kernel)
def qaBr : List Nat := [457, 520, 2248, 4416, 4417, 4418, 4419, 4420, 4421, 4422, 4423, 4424, 4425, 4426, 4427, 4428, 4429, 4430, 4431, 4432, 4433, 4434, 4435, 4436, 4437, 4438, 4439, 4440, 4441, 4442, 4443, 4444, 4445, 4446, 4447, 4448, 4449, 4450, 4451, 4452, 4453, 4454, 4455, 4456, 4457, 4458, 4459, 4460, 4461, 4462, 4463, 4464, 4465, 4466, 4467, 4468, 4469, 4470]
def wsX11_owes : List Cond := cw 2248 :: wI qaBr
theorem qamn : ∀ i ∈ qaBr, cw i ∈ wsX11_owes := fun i h => List.mem_cons_of_mem _ (List.mem_map_of_mem h)
theorem qaLt : okM 2248 qaBr = true := qaq (by decide +kernel)
def q9O : List Nat := [457, 520, 2252, 4416, 4417, 4418, 4419, 4420, 4421, 4422, 4423, 4424, 4425, 4426, 4427, 4428, 4429, 4430, 4431, 4432, 4433, 4434, 4435, 4436, 4437, 4438, 4439, 4440, 4441, 4442, 4443, 4444, 4445, 4446, 4447, 4448, 4449, 4450, 4451, 4452, 4453, 4454, 4455, 4456, 4457, 4458, 4459, 4460, 4461, 4462, 4463, 4464, 4465, 4466, 4467, 4468, 4469, 4470]
def wsX11_isOwed : List Cond := cw 2252 :: wI q9O
theorem q3A : ∀ i ∈ q9O, cw i ∈ wsX11_isOwed := fun i h => List.mem_cons_of_mem _ (List.mem_map_of_mem h)
theorem qSX : okM 2252 q9O = true := qaq (by decide +kernel)
def qakr : List Nat := [457, 520, 2256, 4416, 4417, 4418, 4419, 4420, 4421, 4422, 4423, 4424, 4425, 4426, 4427, 4428, 4429, 4430, 4431, 4432, 4433, 4434, 4435, 4436, 4437, 4438, 4439, 4440, 4441, 4442, 4443, 4444, 4445, 4446, 4447, 4448, 4449, 4450, 4451, 4452, 4453, 4454, 4455, 4456, 4457, 4458, 4459, 4460, 4461, 4462, 4463, 4464, 4465, 4466, 4467, 4468, 4469, 4470]
def wsX11_sitIn : List Cond := cw 2256 :: wI qakr
theorem qabX : ∀ i ∈ qakr, cw i ∈ wsX11_sitIn := fun i h => List.mem_cons_of_mem _ (List.mem_map_of_mem h)
theorem q8P : okM 2256 qakr = true := qaq (by decide +kernel)
def qaVa : List Nat := [2259]
def wsX11_ones : List Cond := cw 2259 :: wI qaVa
theorem qajG : okM 2259 qaVa = true := qaq (by decide +kernel)
def qabY : List Nat := [5, 450, 451, 452, 453, 522, 2263, 2304, 2305, 2306, 2307, 2308, 2309, 2310, 2311, 2312, 2313, 2314, 4416, 4417, 4418, 4419, 4420, 4421, 4422, 4423, 4424, 4425, 4426, 4427, 4428, 4429, 4430, 4431, 4432, 4433, 4434, 4435, 4436, 4437, 4438, 4439, 4440, 4441, 4442, 4443, 4444, 4445, 4446, 4447, 4448, 4449, 4450, 4451, 4452, 4453, 4454, 4455, 4456, 4457, 4458, 4459, 4460, 4461, 4462, 4463, 4464, 4465, 4466, 4467, 4468, 4469, 4470]
def wsX11_leapOf : List Cond := cw 2263 :: wI qabY
theorem qRU : ∀ i ∈ qabY, cw i ∈ wsX11_leapOf := fun i h => List.mem_cons_of_mem _ (List.mem_map_of_mem h)
theorem qaol : okM 2263 qabY = true := qaq (by decide +kernel)
def qabt : List Nat := [5, 450, 451, 452, 453, 457, 520, 522, 2190, 2191, 2192, 2193, 2244, 2245, 2246, 2247, 2248, 2249, 2250, 2251, 2252, 2253, 2254, 2255, 2256, 2257, 2258, 2259, 2260, 2261, 2262, 2263, 2304, 2305, 2306, 2307, 2308, 2309, 2310, 2311, 2312, 2313, 2314, 4416, 4417, 4418, 4419, 4420, 4421, 4422, 4423, 4424, 4425, 4426, 4427, 4428, 4429, 4430, 4431, 4432, 4433, 4434, 4435, 4436, 4437, 4438, 4439, 4440, 4441, 4442, 4443, 4444, 4445, 4446, 4447, 4448, 4449, 4450, 4451, 4452, 4453, 4454, 4455, 4456, 4457, 4458, 4459, 4460, 4461, 4462, 4463, 4464, 4465, 4466, 4467, 4468, 4469, 4470]
def wsX11_leapBy : List Cond := cw 2244 :: wI qabt
theorem qqk : ∀ i ∈ qabt, cw i ∈ wsX11_leapBy := fun i h => List.mem_cons_of_mem _ (List.mem_map_of_mem h)
theorem q1w : okM 2244 qabt = true := qaq (by decide +kernel)
def q2a : List Nat := [5, 405, 450, 451, 452, 453, 457, 520, 522, 2189, 2190, 2191, 2192, 2193, 2194, 2195, 2196, 2197, 2198, 2199, 2240, 2241, 2242, 2243, 2244, 2245, 2246, 2247, 2248, 2249, 2250, 2251, 2252, 2253, 2254, 2255, 2256, 2257, 2258, 2259, 2260, 2261, 2262, 2263, 2304, 2305, 2306, 2307, 2308, 2309, 2310, 2311, 2312, 2313, 2314, 4416, 4417, 4418, 4419, 4420, 4421, 4422, 4423, 4424, 4425, 4426, 4427, 4428, 4429, 4430, 4431, 4432, 4433, 4434, 4435, 4436, 4437, 4438, 4439, 4440, 4441, 4442, 4443, 4444, 4445, 4446, 4447, 4448, 4449, 4450, 4451, 4452, 4453, 4454, 4455, 4456, 4457, 4458, 4459, 4460, 4461, 4462, 4463, 4464, 4465, 4466, 4467, 4468, 4469, 4470]
def wsX11_canLeap : List Cond := cw 2189 :: wI q2a
theorem qxl : ∀ i ∈ q2a, cw i ∈ wsX11_canLeap := fun i h => List.mem_cons_of_mem _ (List.mem_map_of_mem h)
theorem qXb : okM 2189 q2a = true := qaq (by decide +kernel)
def q0S : List Nat := [5, 405, 450, 451, 452, 453, 457, 520, 522, 2185, 2186, 2187, 2188, 2189, 2190, 2191, 2192, 2193, 2194, 2195, 2196, 2197, 2198, 2199, 2240, 2241, 2242, 2243, 2244, 2245, 2246, 2247, 2248, 2249, 2250, 2251, 2252, 2253, 2254, 2255, 2256, 2257, 2258, 2259, 2260, 2261, 2262, 2263, 2304, 2305, 2306, 2307, 2308, 2309, 2310, 2311, 2312, 2313, 2314, 4416, 4417, 4418, 4419, 4420, 4421, 4422, 4423, 4424, 4425, 4426, 4427, 4428, 4429, 4430, 4431, 4432, 4433, 4434, 4435, 4436, 4437, 4438, 4439, 4440, 4441, 4442, 4443, 4444, 4445, 4446, 4447, 4448, 4449, 4450, 4451, 4452, 4453, 4454, 4455, 4456, 4457, 4458, 4459, 4460, 4461, 4462, 4463, 4464, 4465, 4466, 4467, 4468, 4469, 4470]
def wsX11_leapsTo : List Cond := cw 2185 :: wI q0S
theorem qOe : ∀ i ∈ q0S, cw i ∈ wsX11_leapsTo := fun i h => List.mem_cons_of_mem _ (List.mem_map_of_mem h)
theorem qaeQ : okM 2185 q0S = true := qaq (by decide +kernel)
def qajQ : List Nat := [5, 457, 2190, 2191, 2192, 2193, 2318, 4416, 4417, 4418, 4419, 4420, 4421, 4422, 4423, 4424, 4425, 4426, 4427, 4428, 4429, 4430, 4431, 4432, 4433, 4434, 4435, 4436, 4437, 4438, 4439, 4440, 4441, 4442, 4443, 4444, 4445, 4446, 4447, 4448, 4449, 4450, 4451, 4452, 4453, 4454, 4455, 4456, 4457, 4458, 4459, 4460, 4461, 4462, 4463, 4464, 4465, 4466, 4467, 4468, 4469, 4470]
def wsX11_boxes : List Cond := cw 2318 :: wI qajQ
theorem qYc : ∀ i ∈ qajQ, cw i ∈ wsX11_boxes := fun i h => List.mem_cons_of_mem _ (List.mem_map_of_mem h)
theorem qaAw : okM 2318 qajQ = true := qaq (by decide +kernel)
def qazz : List Nat := [5, 457, 2190, 2191, 2192, 2193, 2322, 4416, 4417, 4418, 4419, 4420, 4421, 4422, 4423, 4424, 4425, 4426, 4427, 4428, 4429, 4430, 4431, 4432, 4433, 4434, 4435, 4436, 4437, 4438, 4439, 4440, 4441, 4442, 4443, 4444, 4445, 4446, 4447, 4448, 4449, 4450, 4451, 4452, 4453, 4454, 4455, 4456, 4457, 4458, 4459, 4460, 4461, 4462, 4463, 4464, 4465, 4466, 4467, 4468, 4469, 4470]
def wsX11_pays : List Cond := cw 2322 :: wI qazz
theorem q4S : ∀ i ∈ qazz, cw i ∈ wsX11_pays := fun i h => List.mem_cons_of_mem _ (List.mem_map_of_mem h)
theorem qa1L : okM 2322 qazz = true := qaq (by decide +kernel)
def qabi : List Nat := [5, 405, 407, 521, 2198, 2199, 2240, 2378, 4416, 4417, 4418, 4419, 4420, 4421, 4422, 4423, 4424, 4425, 4426, 4427, 4428, 4429, 4430, 4431, 4432, 4433, 4434, 4435, 4436, 4437, 4438, 4439, 4440, 4441, 4442, 4443, 4444, 4445, 4446, 4447, 4448, 4449, 4450, 4451, 4452, 4453, 4454, 4455, 4456, 4457, 4458, 4459, 4460, 4461, 4462, 4463, 4464, 4465, 4466, 4467, 4468, 4469, 4470]
def wsX11_isSafe : List Cond := cw 2378 :: wI qabi
theorem qGj : ∀ i ∈ qabi, cw i ∈ wsX11_isSafe := fun i h => List.mem_cons_of_mem _ (List.mem_map_of_mem h)
theorem qSm : okM 2378 qabi = true := qaq (by decide +kernel)
def qHt : List Nat := [5, 405, 407, 457, 521, 2190, 2191, 2192, 2193, 2198, 2199, 2240, 2374, 2375, 2376, 2377, 2378, 4416, 4417, 4418, 4419, 4420, 4421, 4422, 4423, 4424, 4425, 4426, 4427, 4428, 4429, 4430, 4431, 4432, 4433, 4434, 4435, 4436, 4437, 4438, 4439, 4440, 4441, 4442, 4443, 4444, 4445, 4446, 4447, 4448, 4449, 4450, 4451, 4452, 4453, 4454, 4455, 4456, 4457, 4458, 4459, 4460, 4461, 4462, 4463, 4464, 4465, 4466, 4467, 4468, 4469, 4470]
def wsX11_wouldBeCaught : List Cond := cw 2374 :: wI qHt
theorem qs0 : ∀ i ∈ qHt, cw i ∈ wsX11_wouldBeCaught := fun i h => List.mem_cons_of_mem _ (List.mem_map_of_mem h)
theorem qO2 : okM 2374 qHt = true := qaq (by decide +kernel)
def q4r : List Nat := [5, 405, 406, 407, 457, 520, 521, 2190, 2191, 2192, 2193, 2198, 2199, 2240, 2370, 2371, 2372, 2373, 2374, 2375, 2376, 2377, 2378, 4416, 4417, 4418, 4419, 4420, 4421, 4422, 4423, 4424, 4425, 4426, 4427, 4428, 4429, 4430, 4431, 4432, 4433, 4434, 4435, 4436, 4437, 4438, 4439, 4440, 4441, 4442, 4443, 4444, 4445, 4446, 4447, 4448, 4449, 4450, 4451, 4452, 4453, 4454, 4455, 4456, 4457, 4458, 4459, 4460, 4461, 4462, 4463, 4464, 4465, 4466, 4467, 4468, 4469, 4470]
def wsX11_strokes : List Cond := cw 2370 :: wI q4r
theorem qwY : ∀ i ∈ q4r, cw i ∈ wsX11_strokes := fun i h => List.mem_cons_of_mem _ (List.mem_map_of_mem h)
theorem qaPA : okM 2370 q4r = true := qaq (by decide +kernel)
def q8I : List Nat := [5, 405, 406, 407, 457, 520, 521, 2190, 2191, 2192, 2193, 2198, 2199, 2240, 2326, 2327, 2368, 2369, 2370, 2371, 2372, 2373, 2374, 2375, 2376, 2377, 2378, 4416, 4417, 4418, 4419, 4420, 4421, 4422, 4423, 4424, 4425, 4426, 4427, 4428, 4429, 4430, 4431, 4432, 4433, 4434, 4435, 4436, 4437, 4438, 4439, 4440, 4441, 4442, 4443, 4444, 4445, 4446, 4447, 4448, 4449, 4450, 4451, 4452, 4453, 4454, 4455, 4456, 4457, 4458, 4459, 4460, 4461, 4462, 4463, 4464, 4465, 4466, 4467, 4468, 4469, 4470]
def wsX11_passes : List Cond := cw 2326 :: wI q8I
theorem qCh : ∀ i ∈ q8I, cw i ∈ wsX11_passes := fun i h => List.mem_cons_of_mem _ (List.mem_map_of_mem h)
theorem q4F : okM 2326 q8I = true := qaq (by decide +kernel)
def q9m : List Nat := [5, 405, 406, 407, 450, 451, 452, 453, 457, 520, 521, 522, 2181, 2182, 2183, 2184, 2185, 2186, 2187, 2188, 2189, 2190, 2191, 2192, 2193, 2194, 2195, 2196, 2197, 2198, 2199, 2240, 2241, 2242, 2243, 2244, 2245, 2246, 2247, 2248, 2249, 2250, 2251, 2252, 2253, 2254, 2255, 2256, 2257, 2258, 2259, 2260, 2261, 2262, 2263, 2304, 2305, 2306, 2307, 2308, 2309, 2310, 2311, 2312, 2313, 2314, 2315, 2316, 2317, 2318, 2319, 2320, 2321, 2322, 2323, 2324, 2325, 2326, 2327, 2368, 2369, 2370, 2371, 2372, 2373, 2374, 2375, 2376, 2377, 2378, 4416, 4417, 4418, 4419, 4420, 4421, 4422, 4423, 4424, 4425, 4426, 4427, 4428, 4429, 4430, 4431, 4432, 4433, 4434, 4435, 4436, 4437, 4438, 4439, 4440, 4441, 4442, 4443, 4444, 4445, 4446, 4447, 4448, 4449, 4450, 4451, 4452, 4453, 4454, 4455, 4456, 4457, 4458, 4459, 4460, 4461, 4462, 4463, 4464, 4465, 4466, 4467, 4468, 4469, 4470]
def wsX11_isDone : List Cond := cw 2181 :: wI q9m
theorem qvr : ∀ i ∈ q9m, cw i ∈ wsX11_isDone := fun i h => List.mem_cons_of_mem _ (List.mem_map_of_mem h)
theorem qaT4 : okM 2181 q9m = true := qaq (by decide +kernel)
def qUb : List Nat := [5, 405, 406, 407, 450, 451, 452, 453, 455, 457, 520, 521, 522, 2115, 2116, 2117, 2134, 2135, 2176, 2177, 2178, 2179, 2180, 2181, 2182, 2183, 2184, 2185, 2186, 2187, 2188, 2189, 2190, 2191, 2192, 2193, 2194, 2195, 2196, 2197, 2198, 2199, 2240, 2241, 2242, 2243, 2244, 2245, 2246, 2247, 2248, 2249, 2250, 2251, 2252, 2253, 2254, 2255, 2256, 2257, 2258, 2259, 2260, 2261, 2262, 2263, 2304, 2305, 2306, 2307, 2308, 2309, 2310, 2311, 2312, 2313, 2314, 2315, 2316, 2317, 2318, 2319, 2320, 2321, 2322, 2323, 2324, 2325, 2326, 2327, 2368, 2369, 2370, 2371, 2372, 2373, 2374, 2375, 2376, 2377, 2378, 4416, 4417, 4418, 4419, 4420, 4421, 4422, 4423, 4424, 4425, 4426, 4427, 4428, 4429, 4430, 4431, 4432, 4433, 4434, 4435, 4436, 4437, 4438, 4439, 4440, 4441, 4442, 4443, 4444, 4445, 4446, 4447, 4448, 4449, 4450, 4451, 4452, 4453, 4454, 4455, 4456, 4457, 4458, 4459, 4460, 4461, 4462, 4463, 4464, 4465, 4466, 4467, 4468, 4469, 4470]
def wsX11_goesSteps : List Cond := cw 2177 :: wI qUb
theorem qkT : ∀ i ∈ qUb, cw i ∈ wsX11_goesSteps := fun i h => List.mem_cons_of_mem _ (List.mem_map_of_mem h)
theorem q4C : okM 2177 qUb = true := qaq (by decide +kernel)
def qaUy : List Nat := [5, 398, 399, 400, 405, 406, 407, 450, 451, 452, 453, 454, 455, 456, 457, 458, 519, 520, 521, 522, 524, 526, 527, 528, 529, 530, 589, 590, 784, 785, 786, 787, 788, 789, 790, 791, 832, 833, 834, 841, 842, 843, 844, 845, 846, 847, 848, 849, 850, 851, 852, 853, 854, 855, 896, 897, 898, 899, 900, 901, 902, 903, 904, 905, 906, 907, 908, 909, 910, 911, 912, 913, 914, 915, 916, 1103, 1104, 1105, 1106, 1107, 1108, 1109, 1110, 1111, 1152, 1153, 1154, 1155, 1156, 1157, 1158, 1159, 1160, 1161, 1162, 1163, 1164, 1165, 1166, 1167, 1168, 1169, 1170, 1171, 1172, 1173, 1217, 1218, 1219, 1220, 1221, 1222, 1223, 1224, 1225, 1226, 1231, 1232, 1233, 1234, 1239, 1280, 1281, 1282, 1283, 1284, 1285, 1294, 1295, 1296, 1297, 1298, 1299, 1300, 1301, 1538, 1539, 1540, 1541, 2113, 2114, 2115, 2116, 2117, 2118, 2119, 2120, 2121, 2122, 2123, 2124, 2125, 2126, 2127, 2128, 2129, 2130, 2131, 2132, 2133, 2134, 2135, 2176, 2177, 2178, 2179, 2180, 2181, 2182, 2183, 2184, 2185, 2186, 2187, 2188, 2189, 2190, 2191, 2192, 2193, 2194, 2195, 2196, 2197, 2198, 2199, 2240, 2241, 2242, 2243, 2244, 2245, 2246, 2247, 2248, 2249, 2250, 2251, 2252, 2253, 2254, 2255, 2256, 2257, 2258, 2259, 2260, 2261, 2262, 2263, 2304, 2305, 2306, 2307, 2308, 2309, 2310, 2311, 2312, 2313, 2314, 2315, 2316, 2317, 2318, 2319, 2320, 2321, 2322, 2323, 2324, 2325, 2326, 2327, 2368, 2369, 2370, 2371, 2372, 2373, 2374, 2375, 2376, 2377, 2378, 4416, 4417, 4418, 4419, 4420, 4421, 4422, 4423, 4424, 4425, 4426, 4427, 4428, 4429, 4430, 4431, 4432, 4433, 4434, 4435, 4436, 4437, 4438, 4439, 4440, 4441, 4442, 4443, 4444, 4445, 4446, 4447, 4448, 4449, 4450, 4451, 4452, 4453, 4454, 4455, 4456, 4457, 4458, 4459, 4460, 4461, 4462, 4463, 4464, 4465, 4466, 4467, 4468, 4469, 4470]
def wsX11_work : List Cond := cw 2113 :: wI qaUy
theorem qeH : ∀ i ∈ qaUy, cw i ∈ wsX11_work := fun i h => List.mem_cons_of_mem _ (List.mem_map_of_mem h)
def qaS5 : List Nat := [5, 398, 399, 400, 459, 460, 519, 523, 527, 528, 529, 530, 589, 590, 1103, 1104, 1105, 1106, 1107, 1108, 1109, 1110, 1111, 1152, 1153, 1154, 1155, 1156, 1157, 1158, 1159, 1160, 1161, 1162, 1163, 1164, 1165, 1166, 1222, 1223, 1224, 1225, 1226, 1239, 1280, 1281, 1282, 1283, 1284, 1285, 1294, 1295, 1296, 1297, 1298, 1299, 1300, 1301, 2447, 4416, 4417, 4418, 4419, 4420, 4421, 4422, 4423, 4424, 4425, 4426, 4427, 4428, 4429, 4430, 4431, 4432, 4433, 4434, 4435, 4436, 4437, 4438, 4439, 4440, 4441, 4442, 4443, 4444, 4445, 4446, 4447, 4448, 4449, 4450, 4451, 4452, 4453, 4454, 4455, 4456, 4457, 4458, 4459, 4460, 4461, 4462, 4463, 4464, 4465, 4466, 4467, 4468, 4469, 4470]
def wsX11_book : List Cond := cw 2447 :: wI qaS5
theorem qgn : ∀ i ∈ qaS5, cw i ∈ wsX11_book := fun i h => List.mem_cons_of_mem _ (List.mem_map_of_mem h)
def qaTE : List Nat := [456, 458, 524, 526, 589, 2508, 4416, 4417, 4418, 4419, 4420, 4421, 4422, 4423, 4424, 4425, 4426, 4427, 4428, 4429, 4430, 4431, 4432, 4433, 4434, 4435, 4436, 4437, 4438, 4439, 4440, 4441, 4442, 4443, 4444, 4445, 4446, 4447, 4448, 4449, 4450, 4451, 4452, 4453, 4454, 4455, 4456, 4457, 4458, 4459, 4460, 4461, 4462, 4463, 4464, 4465, 4466, 4467, 4468, 4469, 4470]
def wsX11_undo : List Cond := cw 2508 :: wI qaTE
theorem qOA : ∀ i ∈ qaTE, cw i ∈ wsX11_undo := fun i h => List.mem_cons_of_mem _ (List.mem_map_of_mem h)
def qTj : List Nat := [5, 457, 520, 2190, 2191, 2192, 2193, 2627, 4416, 4417, 4418, 4419, 4420, 4421, 4422, 4423, 4424, 4425, 4426, 4427, 4428, 4429, 4430, 4431, 4432, 4433, 4434, 4435, 4436, 4437, 4438, 4439, 4440, 4441, 4442, 4443, 4444, 4445, 4446, 4447, 4448, 4449, 4450, 4451, 4452, 4453, 4454, 4455, 4456, 4457, 4458, 4459, 4460, 4461, 4462, 4463, 4464, 4465, 4466, 4467, 4468, 4469, 4470]
def wsX11_caughtNow : List Cond := cw 2627 :: wI qTj
theorem qIM : ∀ i ∈ qTj, cw i ∈ wsX11_caughtNow := fun i h => List.mem_cons_of_mem _ (List.mem_map_of_mem h)
theorem qI3 : okM 2627 qTj = true := qaq (by decide +kernel)
def qXm : List Nat := [457, 2635, 4416, 4417, 4418, 4419, 4420, 4421, 4422, 4423, 4424, 4425, 4426, 4427, 4428, 4429, 4430, 4431, 4432, 4433, 4434, 4435, 4436, 4437, 4438, 4439, 4440, 4441, 4442, 4443, 4444, 4445, 4446, 4447, 4448, 4449, 4450, 4451, 4452, 4453, 4454, 4455, 4456, 4457, 4458, 4459, 4460, 4461, 4462, 4463, 4464, 4465, 4466, 4467, 4468, 4469, 4470]
def wsX11_debtsNow : List Cond := cw 2635 :: wI qXm
theorem q7o : ∀ i ∈ qXm, cw i ∈ wsX11_debtsNow := fun i h => List.mem_cons_of_mem _ (List.mem_map_of_mem h)
theorem q7v : okM 2635 qXm = true := qaq (by decide +kernel)
def qWm : List Nat := [5, 405, 407, 457, 520, 521, 2190, 2191, 2192, 2193, 2198, 2199, 2240, 2371, 2372, 2373, 2374, 2375, 2376, 2377, 2378, 2583, 4416, 4417, 4418, 4419, 4420, 4421, 4422, 4423, 4424, 4425, 4426, 4427, 4428, 4429, 4430, 4431, 4432, 4433, 4434, 4435, 4436, 4437, 4438, 4439, 4440, 4441, 4442, 4443, 4444, 4445, 4446, 4447, 4448, 4449, 4450, 4451, 4452, 4453, 4454, 4455, 4456, 4457, 4458, 4459, 4460, 4461, 4462, 4463, 4464, 4465, 4466, 4467, 4468, 4469, 4470]
def wsX11_bitsTold : List Cond := cw 2583 :: wI qWm
theorem qDV : ∀ i ∈ qWm, cw i ∈ wsX11_bitsTold := fun i h => List.mem_cons_of_mem _ (List.mem_map_of_mem h)
theorem qaHg : okM 2583 qWm = true := qaq (by decide +kernel)
def qT8 : List Nat := [5, 405, 407, 519, 521, 2198, 2199, 2240, 2375, 2376, 2377, 2378, 2631, 4416, 4417, 4418, 4419, 4420, 4421, 4422, 4423, 4424, 4425, 4426, 4427, 4428, 4429, 4430, 4431, 4432, 4433, 4434, 4435, 4436, 4437, 4438, 4439, 4440, 4441, 4442, 4443, 4444, 4445, 4446, 4447, 4448, 4449, 4450, 4451, 4452, 4453, 4454, 4455, 4456, 4457, 4458, 4459, 4460, 4461, 4462, 4463, 4464, 4465, 4466, 4467, 4468, 4469, 4470]
def wsX11_safeForms : List Cond := cw 2631 :: wI qT8
theorem qHb : ∀ i ∈ qT8, cw i ∈ wsX11_safeForms := fun i h => List.mem_cons_of_mem _ (List.mem_map_of_mem h)
theorem q2A : okM 2631 qT8 = true := qaq (by decide +kernel)
def qaTO : List Nat := [5, 398, 405, 407, 456, 457, 519, 520, 521, 523, 526, 527, 528, 529, 530, 589, 1105, 1106, 1107, 1108, 2130, 2131, 2132, 2133, 2190, 2191, 2192, 2193, 2198, 2199, 2240, 2371, 2372, 2373, 2374, 2375, 2376, 2377, 2378, 2576, 2577, 2578, 2579, 2580, 2581, 2582, 2583, 2624, 2625, 2626, 2627, 2628, 2629, 2630, 2631, 2632, 2633, 2634, 2635, 4416, 4417, 4418, 4419, 4420, 4421, 4422, 4423, 4424, 4425, 4426, 4427, 4428, 4429, 4430, 4431, 4432, 4433, 4434, 4435, 4436, 4437, 4438, 4439, 4440, 4441, 4442, 4443, 4444, 4445, 4446, 4447, 4448, 4449, 4450, 4451, 4452, 4453, 4454, 4455, 4456, 4457, 4458, 4459, 4460, 4461, 4462, 4463, 4464, 4465, 4466, 4467, 4468, 4469, 4470]
def wsX11_told : List Cond := cw 2576 :: wI qaTO
theorem qnz : ∀ i ∈ qaTO, cw i ∈ wsX11_told := fun i h => List.mem_cons_of_mem _ (List.mem_map_of_mem h)
def qaci : List Nat := [5, 398, 519, 589, 1105, 1106, 1107, 1108, 2577, 2578, 2579, 2702, 4416, 4417, 4418, 4419, 4420, 4421, 4422, 4423, 4424, 4425, 4426, 4427, 4428, 4429, 4430, 4431, 4432, 4433, 4434, 4435, 4436, 4437, 4438, 4439, 4440, 4441, 4442, 4443, 4444, 4445, 4446, 4447, 4448, 4449, 4450, 4451, 4452, 4453, 4454, 4455, 4456, 4457, 4458, 4459, 4460, 4461, 4462, 4463, 4464, 4465, 4466, 4467, 4468, 4469, 4470]
def wsX11_isForm : List Cond := cw 2702 :: wI qaci
theorem qGc : ∀ i ∈ qaci, cw i ∈ wsX11_isForm := fun i h => List.mem_cons_of_mem _ (List.mem_map_of_mem h)
theorem qK9 : okM 2702 qaci = true := qaq (by decide +kernel)
def qaau : List Nat := [5, 398, 520, 589, 1105, 1106, 1107, 1108, 2577, 2578, 2579, 2770, 4416, 4417, 4418, 4419, 4420, 4421, 4422, 4423, 4424, 4425, 4426, 4427, 4428, 4429, 4430, 4431, 4432, 4433, 4434, 4435, 4436, 4437, 4438, 4439, 4440, 4441, 4442, 4443, 4444, 4445, 4446, 4447, 4448, 4449, 4450, 4451, 4452, 4453, 4454, 4455, 4456, 4457, 4458, 4459, 4460, 4461, 4462, 4463, 4464, 4465, 4466, 4467, 4468, 4469, 4470]
def wsX11_isHare : List Cond := cw 2770 :: wI qaau
theorem qGs : ∀ i ∈ qaau, cw i ∈ wsX11_isHare := fun i h => List.mem_cons_of_mem _ (List.mem_map_of_mem h)
theorem qxo : okM 2770 qaau = true := qaq (by decide +kernel)
def qaTe : List Nat := [5, 398, 405, 407, 456, 457, 519, 520, 521, 527, 528, 529, 530, 589, 1105, 1106, 1107, 1108, 2130, 2131, 2132, 2133, 2198, 2199, 2240, 2253, 2254, 2255, 2256, 2375, 2376, 2377, 2378, 2577, 2578, 2579, 2698, 2699, 2700, 2701, 2702, 4416, 4417, 4418, 4419, 4420, 4421, 4422, 4423, 4424, 4425, 4426, 4427, 4428, 4429, 4430, 4431, 4432, 4433, 4434, 4435, 4436, 4437, 4438, 4439, 4440, 4441, 4442, 4443, 4444, 4445, 4446, 4447, 4448, 4449, 4450, 4451, 4452, 4453, 4454, 4455, 4456, 4457, 4458, 4459, 4460, 4461, 4462, 4463, 4464, 4465, 4466, 4467, 4468, 4469, 4470]
def wsX11_form : List Cond := cw 2698 :: wI qaTe
theorem qtn : ∀ i ∈ qaTe, cw i ∈ wsX11_form := fun i h => List.mem_cons_of_mem _ (List.mem_map_of_mem h)
def qaUK : List Nat := [5, 398, 406, 450, 451, 452, 453, 456, 457, 520, 522, 527, 528, 529, 530, 589, 1105, 1106, 1107, 1108, 2130, 2131, 2132, 2133, 2190, 2191, 2192, 2193, 2241, 2242, 2243, 2244, 2245, 2246, 2247, 2248, 2249, 2250, 2251, 2252, 2253, 2254, 2255, 2256, 2257, 2258, 2259, 2260, 2261, 2262, 2263, 2304, 2305, 2306, 2307, 2308, 2309, 2310, 2311, 2312, 2313, 2314, 2577, 2578, 2579, 2766, 2767, 2768, 2769, 2770, 4416, 4417, 4418, 4419, 4420, 4421, 4422, 4423, 4424, 4425, 4426, 4427, 4428, 4429, 4430, 4431, 4432, 4433, 4434, 4435, 4436, 4437, 4438, 4439, 4440, 4441, 4442, 4443, 4444, 4445, 4446, 4447, 4448, 4449, 4450, 4451, 4452, 4453, 4454, 4455, 4456, 4457, 4458, 4459, 4460, 4461, 4462, 4463, 4464, 4465, 4466, 4467, 4468, 4469, 4470]
def wsX11_hare : List Cond := cw 2766 :: wI qaUK
theorem qqq : ∀ i ∈ qaUK, cw i ∈ wsX11_hare := fun i h => List.mem_cons_of_mem _ (List.mem_map_of_mem h)
def qa0q : List Nat := [5, 398, 407, 521, 589, 1105, 1106, 1107, 1108, 2577, 2578, 2579, 2823, 4416, 4417, 4418, 4419, 4420, 4421, 4422, 4423, 4424, 4425, 4426, 4427, 4428, 4429, 4430, 4431, 4432, 4433, 4434, 4435, 4436, 4437, 4438, 4439, 4440, 4441, 4442, 4443, 4444, 4445, 4446, 4447, 4448, 4449, 4450, 4451, 4452, 4453, 4454, 4455, 4456, 4457, 4458, 4459, 4460, 4461, 4462, 4463, 4464, 4465, 4466, 4467, 4468, 4469, 4470]
def wsX11_fox : List Cond := cw 2823 :: wI qa0q
theorem qLf : ∀ i ∈ qa0q, cw i ∈ wsX11_fox := fun i h => List.mem_cons_of_mem _ (List.mem_map_of_mem h)
def qaUR : List Nat := [5, 398, 456, 520, 589, 1105, 1106, 1107, 1108, 2577, 2578, 2579, 2767, 2768, 2769, 2770, 2835, 4416, 4417, 4418, 4419, 4420, 4421, 4422, 4423, 4424, 4425, 4426, 4427, 4428, 4429, 4430, 4431, 4432, 4433, 4434, 4435, 4436, 4437, 4438, 4439, 4440, 4441, 4442, 4443, 4444, 4445, 4446, 4447, 4448, 4449, 4450, 4451, 4452, 4453, 4454, 4455, 4456, 4457, 4458, 4459, 4460, 4461, 4462, 4463, 4464, 4465, 4466, 4467, 4468, 4469, 4470]
def wsX11_debt : List Cond := cw 2835 :: wI qaUR
theorem qVh : ∀ i ∈ qaUR, cw i ∈ wsX11_debt := fun i h => List.mem_cons_of_mem _ (List.mem_map_of_mem h)
def qa05 : List Nat := [5, 398, 405, 519, 589, 1105, 1106, 1107, 1108, 2194, 2195, 2196, 2197, 2198, 2199, 2240, 2577, 2578, 2579, 2699, 2700, 2701, 2702, 2887, 4416, 4417, 4418, 4419, 4420, 4421, 4422, 4423, 4424, 4425, 4426, 4427, 4428, 4429, 4430, 4431, 4432, 4433, 4434, 4435, 4436, 4437, 4438, 4439, 4440, 4441, 4442, 4443, 4444, 4445, 4446, 4447, 4448, 4449, 4450, 4451, 4452, 4453, 4454, 4455, 4456, 4457, 4458, 4459, 4460, 4461, 4462, 4463, 4464, 4465, 4466, 4467, 4468, 4469, 4470]
def wsX11_far : List Cond := cw 2887 :: wI qa05
theorem qUR : ∀ i ∈ qa05, cw i ∈ wsX11_far := fun i h => List.mem_cons_of_mem _ (List.mem_map_of_mem h)
def qaLp : List Nat := [5, 398, 450, 451, 452, 453, 522, 589, 1105, 1106, 1107, 1108, 2260, 2261, 2262, 2263, 2304, 2305, 2306, 2307, 2308, 2309, 2310, 2311, 2312, 2313, 2314, 2577, 2578, 2579, 2901, 4416, 4417, 4418, 4419, 4420, 4421, 4422, 4423, 4424, 4425, 4426, 4427, 4428, 4429, 4430, 4431, 4432, 4433, 4434, 4435, 4436, 4437, 4438, 4439, 4440, 4441, 4442, 4443, 4444, 4445, 4446, 4447, 4448, 4449, 4450, 4451, 4452, 4453, 4454, 4455, 4456, 4457, 4458, 4459, 4460, 4461, 4462, 4463, 4464, 4465, 4466, 4467, 4468, 4469, 4470]
def wsX11_would : List Cond := cw 2901 :: wI qaLp
theorem qBE : ∀ i ∈ qaLp, cw i ∈ wsX11_would := fun i h => List.mem_cons_of_mem _ (List.mem_map_of_mem h)
def qa1p : List Nat := [5, 398, 405, 450, 451, 452, 453, 456, 457, 519, 520, 522, 527, 528, 529, 530, 589, 1105, 1106, 1107, 1108, 2130, 2131, 2132, 2133, 2186, 2187, 2188, 2189, 2190, 2191, 2192, 2193, 2194, 2195, 2196, 2197, 2198, 2199, 2240, 2241, 2242, 2243, 2244, 2245, 2246, 2247, 2248, 2249, 2250, 2251, 2252, 2253, 2254, 2255, 2256, 2257, 2258, 2259, 2260, 2261, 2262, 2263, 2304, 2305, 2306, 2307, 2308, 2309, 2310, 2311, 2312, 2313, 2314, 2577, 2578, 2579, 2699, 2700, 2701, 2702, 2767, 2768, 2769, 2770, 2953, 4416, 4417, 4418, 4419, 4420, 4421, 4422, 4423, 4424, 4425, 4426, 4427, 4428, 4429, 4430, 4431, 4432, 4433, 4434, 4435, 4436, 4437, 4438, 4439, 4440, 4441, 4442, 4443, 4444, 4445, 4446, 4447, 4448, 4449, 4450, 4451, 4452, 4453, 4454, 4455, 4456, 4457, 4458, 4459, 4460, 4461, 4462, 4463, 4464, 4465, 4466, 4467, 4468, 4469, 4470]
def wsX11_can : List Cond := cw 2953 :: wI qa1p
theorem qDW : ∀ i ∈ qa1p, cw i ∈ wsX11_can := fun i h => List.mem_cons_of_mem _ (List.mem_map_of_mem h)
def q4x : List Nat := [5, 405, 450, 451, 452, 453, 457, 519, 520, 522, 2186, 2187, 2188, 2189, 2190, 2191, 2192, 2193, 2194, 2195, 2196, 2197, 2198, 2199, 2240, 2241, 2242, 2243, 2244, 2245, 2246, 2247, 2248, 2249, 2250, 2251, 2252, 2253, 2254, 2255, 2256, 2257, 2258, 2259, 2260, 2261, 2262, 2263, 2304, 2305, 2306, 2307, 2308, 2309, 2310, 2311, 2312, 2313, 2314, 3202, 4416, 4417, 4418, 4419, 4420, 4421, 4422, 4423, 4424, 4425, 4426, 4427, 4428, 4429, 4430, 4431, 4432, 4433, 4434, 4435, 4436, 4437, 4438, 4439, 4440, 4441, 4442, 4443, 4444, 4445, 4446, 4447, 4448, 4449, 4450, 4451, 4452, 4453, 4454, 4455, 4456, 4457, 4458, 4459, 4460, 4461, 4462, 4463, 4464, 4465, 4466, 4467, 4468, 4469, 4470]
def wsX11_rangeOf : List Cond := cw 3202 :: wI q4x
theorem qOm : ∀ i ∈ q4x, cw i ∈ wsX11_rangeOf := fun i h => List.mem_cons_of_mem _ (List.mem_map_of_mem h)
theorem qahQ : okM 3202 q4x = true := qaq (by decide +kernel)
def qaLo : List Nat := [5, 398, 405, 450, 451, 452, 453, 456, 457, 519, 520, 522, 527, 528, 529, 530, 589, 1105, 1106, 1107, 1108, 2130, 2131, 2132, 2133, 2186, 2187, 2188, 2189, 2190, 2191, 2192, 2193, 2194, 2195, 2196, 2197, 2198, 2199, 2240, 2241, 2242, 2243, 2244, 2245, 2246, 2247, 2248, 2249, 2250, 2251, 2252, 2253, 2254, 2255, 2256, 2257, 2258, 2259, 2260, 2261, 2262, 2263, 2304, 2305, 2306, 2307, 2308, 2309, 2310, 2311, 2312, 2313, 2314, 2577, 2578, 2579, 2767, 2768, 2769, 2770, 3159, 3200, 3201, 3202, 3985, 4416, 4417, 4418, 4419, 4420, 4421, 4422, 4423, 4424, 4425, 4426, 4427, 4428, 4429, 4430, 4431, 4432, 4433, 4434, 4435, 4436, 4437, 4438, 4439, 4440, 4441, 4442, 4443, 4444, 4445, 4446, 4447, 4448, 4449, 4450, 4451, 4452, 4453, 4454, 4455, 4456, 4457, 4458, 4459, 4460, 4461, 4462, 4463, 4464, 4465, 4466, 4467, 4468, 4469, 4470]
def wsX11_range : List Cond := cw 3985 :: wI qaLo
theorem qBN : ∀ i ∈ qaLo, cw i ∈ wsX11_range := fun i h => List.mem_cons_of_mem _ (List.mem_map_of_mem h)
def qaLP : List Nat := [5, 398, 405, 406, 407, 456, 457, 520, 521, 527, 528, 529, 530, 589, 1105, 1106, 1107, 1108, 2130, 2131, 2132, 2133, 2190, 2191, 2192, 2193, 2198, 2199, 2240, 2323, 2324, 2325, 2326, 2327, 2368, 2369, 2370, 2371, 2372, 2373, 2374, 2375, 2376, 2377, 2378, 2577, 2578, 2579, 2624, 2625, 2626, 2627, 2632, 2633, 2634, 2635, 3009, 4416, 4417, 4418, 4419, 4420, 4421, 4422, 4423, 4424, 4425, 4426, 4427, 4428, 4429, 4430, 4431, 4432, 4433, 4434, 4435, 4436, 4437, 4438, 4439, 4440, 4441, 4442, 4443, 4444, 4445, 4446, 4447, 4448, 4449, 4450, 4451, 4452, 4453, 4454, 4455, 4456, 4457, 4458, 4459, 4460, 4461, 4462, 4463, 4464, 4465, 4466, 4467, 4468, 4469, 4470]
def wsX11_ahead : List Cond := cw 3009 :: wI qaLP
theorem qq1 : ∀ i ∈ qaLP, cw i ∈ wsX11_ahead := fun i h => List.mem_cons_of_mem _ (List.mem_map_of_mem h)
def qaVX : List Nat := [5, 398, 405, 450, 451, 452, 453, 456, 457, 519, 520, 522, 527, 528, 529, 530, 589, 1105, 1106, 1107, 1108, 2130, 2131, 2132, 2133, 2190, 2191, 2192, 2193, 2194, 2195, 2196, 2197, 2198, 2199, 2240, 2241, 2242, 2243, 2244, 2245, 2246, 2247, 2248, 2249, 2250, 2251, 2252, 2253, 2254, 2255, 2256, 2257, 2258, 2259, 2260, 2261, 2262, 2263, 2304, 2305, 2306, 2307, 2308, 2309, 2310, 2311, 2312, 2313, 2314, 2577, 2578, 2579, 2699, 2700, 2701, 2702, 2767, 2768, 2769, 2770, 3029, 4416, 4417, 4418, 4419, 4420, 4421, 4422, 4423, 4424, 4425, 4426, 4427, 4428, 4429, 4430, 4431, 4432, 4433, 4434, 4435, 4436, 4437, 4438, 4439, 4440, 4441, 4442, 4443, 4444, 4445, 4446, 4447, 4448, 4449, 4450, 4451, 4452, 4453, 4454, 4455, 4456, 4457, 4458, 4459, 4460, 4461, 4462, 4463, 4464, 4465, 4466, 4467, 4468, 4469, 4470]
def wsX11_hops : List Cond := cw 3029 :: wI qaVX
theorem qsr : ∀ i ∈ qaVX, cw i ∈ wsX11_hops := fun i h => List.mem_cons_of_mem _ (List.mem_map_of_mem h)
def qTw : List Nat := [5, 405, 407, 450, 451, 452, 453, 456, 457, 461, 462, 463, 519, 520, 521, 522, 527, 528, 529, 530, 2130, 2131, 2132, 2133, 2186, 2187, 2188, 2189, 2190, 2191, 2192, 2193, 2194, 2195, 2196, 2197, 2198, 2199, 2240, 2241, 2242, 2243, 2244, 2245, 2246, 2247, 2248, 2249, 2250, 2251, 2252, 2253, 2254, 2255, 2256, 2257, 2258, 2259, 2260, 2261, 2262, 2263, 2304, 2305, 2306, 2307, 2308, 2309, 2310, 2311, 2312, 2313, 2314, 2375, 2376, 2377, 2378, 2628, 2629, 2630, 2631, 3158, 3159, 3200, 3201, 3202, 4416, 4417, 4418, 4419, 4420, 4421, 4422, 4423, 4424, 4425, 4426, 4427, 4428, 4429, 4430, 4431, 4432, 4433, 4434, 4435, 4436, 4437, 4438, 4439, 4440, 4441, 4442, 4443, 4444, 4445, 4446, 4447, 4448, 4449, 4450, 4451, 4452, 4453, 4454, 4455, 4456, 4457, 4458, 4459, 4460, 4461, 4462, 4463, 4464, 4465, 4466, 4467, 4468, 4469, 4470]
def wsX11_findSeats : List Cond := cw 3158 :: wI qTw
theorem qio : ∀ i ∈ qTw, cw i ∈ wsX11_findSeats := fun i h => List.mem_cons_of_mem _ (List.mem_map_of_mem h)
theorem q4l : okM 3158 qTw = true := qaq (by decide +kernel)
def qaL9 : List Nat := [5, 405, 407, 450, 451, 452, 453, 456, 457, 461, 462, 463, 519, 520, 521, 522, 527, 528, 529, 530, 589, 2130, 2131, 2132, 2133, 2186, 2187, 2188, 2189, 2190, 2191, 2192, 2193, 2194, 2195, 2196, 2197, 2198, 2199, 2240, 2241, 2242, 2243, 2244, 2245, 2246, 2247, 2248, 2249, 2250, 2251, 2252, 2253, 2254, 2255, 2256, 2257, 2258, 2259, 2260, 2261, 2262, 2263, 2304, 2305, 2306, 2307, 2308, 2309, 2310, 2311, 2312, 2313, 2314, 2375, 2376, 2377, 2378, 2628, 2629, 2630, 2631, 3154, 3155, 3156, 3157, 3158, 3159, 3200, 3201, 3202, 4416, 4417, 4418, 4419, 4420, 4421, 4422, 4423, 4424, 4425, 4426, 4427, 4428, 4429, 4430, 4431, 4432, 4433, 4434, 4435, 4436, 4437, 4438, 4439, 4440, 4441, 4442, 4443, 4444, 4445, 4446, 4447, 4448, 4449, 4450, 4451, 4452, 4453, 4454, 4455, 4456, 4457, 4458, 4459, 4460, 4461, 4462, 4463, 4464, 4465, 4466, 4467, 4468, 4469, 4470]
def wsX11_seats : List Cond := cw 3154 :: wI qaL9
theorem qOY : ∀ i ∈ qaL9, cw i ∈ wsX11_seats := fun i h => List.mem_cons_of_mem _ (List.mem_map_of_mem h)
def qaV7 : List Nat := [5, 398, 405, 407, 450, 451, 452, 453, 456, 457, 461, 462, 463, 519, 520, 521, 522, 527, 528, 529, 530, 589, 1105, 1106, 1107, 1108, 2130, 2131, 2132, 2133, 2186, 2187, 2188, 2189, 2190, 2191, 2192, 2193, 2194, 2195, 2196, 2197, 2198, 2199, 2240, 2241, 2242, 2243, 2244, 2245, 2246, 2247, 2248, 2249, 2250, 2251, 2252, 2253, 2254, 2255, 2256, 2257, 2258, 2259, 2260, 2261, 2262, 2263, 2304, 2305, 2306, 2307, 2308, 2309, 2310, 2311, 2312, 2313, 2314, 2375, 2376, 2377, 2378, 2577, 2578, 2579, 2628, 2629, 2630, 2631, 2767, 2768, 2769, 2770, 3155, 3156, 3157, 3158, 3159, 3200, 3201, 3202, 3214, 4416, 4417, 4418, 4419, 4420, 4421, 4422, 4423, 4424, 4425, 4426, 4427, 4428, 4429, 4430, 4431, 4432, 4433, 4434, 4435, 4436, 4437, 4438, 4439, 4440, 4441, 4442, 4443, 4444, 4445, 4446, 4447, 4448, 4449, 4450, 4451, 4452, 4453, 4454, 4455, 4456, 4457, 4458, 4459, 4460, 4461, 4462, 4463, 4464, 4465, 4466, 4467, 4468, 4469, 4470]
def wsX11_seat : List Cond := cw 3214 :: wI qaV7
theorem qJA : ∀ i ∈ qaV7, cw i ∈ wsX11_seat := fun i h => List.mem_cons_of_mem _ (List.mem_map_of_mem h)
def q1q : List Nat := [5, 405, 464, 519, 2194, 2195, 2196, 2197, 2198, 2199, 2240, 3336, 4416, 4417, 4418, 4419, 4420, 4421, 4422, 4423, 4424, 4425, 4426, 4427, 4428, 4429, 4430, 4431, 4432, 4433, 4434, 4435, 4436, 4437, 4438, 4439, 4440, 4441, 4442, 4443, 4444, 4445, 4446, 4447, 4448, 4449, 4450, 4451, 4452, 4453, 4454, 4455, 4456, 4457, 4458, 4459, 4460, 4461, 4462, 4463, 4464, 4465, 4466, 4467, 4468, 4469, 4470]
def wsX11_layRing : List Cond := cw 3336 :: wI q1q
theorem qIA : ∀ i ∈ q1q, cw i ∈ wsX11_layRing := fun i h => List.mem_cons_of_mem _ (List.mem_map_of_mem h)
theorem qafN : okM 3336 q1q = true := qaq (by decide +kernel)
def qaTF : List Nat := [5, 405, 464, 519, 589, 2194, 2195, 2196, 2197, 2198, 2199, 2240, 3332, 3333, 3334, 3335, 3336, 4416, 4417, 4418, 4419, 4420, 4421, 4422, 4423, 4424, 4425, 4426, 4427, 4428, 4429, 4430, 4431, 4432, 4433, 4434, 4435, 4436, 4437, 4438, 4439, 4440, 4441, 4442, 4443, 4444, 4445, 4446, 4447, 4448, 4449, 4450, 4451, 4452, 4453, 4454, 4455, 4456, 4457, 4458, 4459, 4460, 4461, 4462, 4463, 4464, 4465, 4466, 4467, 4468, 4469, 4470]
def wsX11_ring : List Cond := cw 3332 :: wI qaTF
theorem qOt : ∀ i ∈ qaTF, cw i ∈ wsX11_ring := fun i h => List.mem_cons_of_mem _ (List.mem_map_of_mem h)
def qaEf : List Nat := [5, 398, 405, 464, 519, 589, 1105, 1106, 1107, 1108, 2194, 2195, 2196, 2197, 2198, 2199, 2240, 3333, 3334, 3335, 3336, 3348, 4416, 4417, 4418, 4419, 4420, 4421, 4422, 4423, 4424, 4425, 4426, 4427, 4428, 4429, 4430, 4431, 4432, 4433, 4434, 4435, 4436, 4437, 4438, 4439, 4440, 4441, 4442, 4443, 4444, 4445, 4446, 4447, 4448, 4449, 4450, 4451, 4452, 4453, 4454, 4455, 4456, 4457, 4458, 4459, 4460, 4461, 4462, 4463, 4464, 4465, 4466, 4467, 4468, 4469, 4470]
def wsX11_ringed : List Cond := cw 3348 :: wI qaEf
theorem qvp : ∀ i ∈ qaEf, cw i ∈ wsX11_ringed := fun i h => List.mem_cons_of_mem _ (List.mem_map_of_mem h)
def q4u : List Nat := [5, 456, 520, 3409, 3410, 3411, 3412, 4416, 4417, 4418, 4419, 4420, 4421, 4422, 4423, 4424, 4425, 4426, 4427, 4428, 4429, 4430, 4431, 4432, 4433, 4434, 4435, 4436, 4437, 4438, 4439, 4440, 4441, 4442, 4443, 4444, 4445, 4446, 4447, 4448, 4449, 4450, 4451, 4452, 4453, 4454, 4455, 4456, 4457, 4458, 4459, 4460, 4461, 4462, 4463, 4464, 4465, 4466, 4467, 4468, 4469, 4470]
def wsX11_lastsIn : List Cond := cw 3412 :: wI q4u
theorem qxe : ∀ i ∈ q4u, cw i ∈ wsX11_lastsIn := fun i h => List.mem_cons_of_mem _ (List.mem_map_of_mem h)
theorem qaeL : okM 3412 q4u = true := qaq (by decide +kernel)
def qaLK : List Nat := [5, 398, 456, 457, 520, 527, 528, 529, 530, 589, 1105, 1106, 1107, 1108, 2130, 2131, 2132, 2133, 2190, 2191, 2192, 2193, 2577, 2578, 2579, 2624, 2625, 2626, 2627, 2767, 2768, 2769, 2770, 3408, 3409, 3410, 3411, 3412, 4416, 4417, 4418, 4419, 4420, 4421, 4422, 4423, 4424, 4425, 4426, 4427, 4428, 4429, 4430, 4431, 4432, 4433, 4434, 4435, 4436, 4437, 4438, 4439, 4440, 4441, 4442, 4443, 4444, 4445, 4446, 4447, 4448, 4449, 4450, 4451, 4452, 4453, 4454, 4455, 4456, 4457, 4458, 4459, 4460, 4461, 4462, 4463, 4464, 4465, 4466, 4467, 4468, 4469, 4470]
def wsX11_bouts : List Cond := cw 3408 :: wI qaLK
theorem quz : ∀ i ∈ qaLK, cw i ∈ wsX11_bouts := fun i h => List.mem_cons_of_mem _ (List.mem_map_of_mem h)
def qW4 : List Nat := [5, 457, 520, 2253, 2254, 2255, 2256, 2257, 2258, 2259, 3585, 4416, 4417, 4418, 4419, 4420, 4421, 4422, 4423, 4424, 4425, 4426, 4427, 4428, 4429, 4430, 4431, 4432, 4433, 4434, 4435, 4436, 4437, 4438, 4439, 4440, 4441, 4442, 4443, 4444, 4445, 4446, 4447, 4448, 4449, 4450, 4451, 4452, 4453, 4454, 4455, 4456, 4457, 4458, 4459, 4460, 4461, 4462, 4463, 4464, 4465, 4466, 4467, 4468, 4469, 4470]
def wsX11_sitsThen : List Cond := cw 3585 :: wI qW4
theorem qKP : ∀ i ∈ qW4, cw i ∈ wsX11_sitsThen := fun i h => List.mem_cons_of_mem _ (List.mem_map_of_mem h)
theorem q7Y : okM 3585 qW4 = true := qaq (by decide +kernel)
def qaiV : List Nat := [5, 457, 460, 519, 520, 2190, 2191, 2192, 2193, 2253, 2254, 2255, 2256, 2257, 2258, 2259, 3541, 3542, 3543, 3584, 3585, 4416, 4417, 4418, 4419, 4420, 4421, 4422, 4423, 4424, 4425, 4426, 4427, 4428, 4429, 4430, 4431, 4432, 4433, 4434, 4435, 4436, 4437, 4438, 4439, 4440, 4441, 4442, 4443, 4444, 4445, 4446, 4447, 4448, 4449, 4450, 4451, 4452, 4453, 4454, 4455, 4456, 4457, 4458, 4459, 4460, 4461, 4462, 4463, 4464, 4465, 4466, 4467, 4468, 4469, 4470]
def wsX11_isFit : List Cond := cw 3541 :: wI qaiV
theorem qFg : ∀ i ∈ qaiV, cw i ∈ wsX11_isFit := fun i h => List.mem_cons_of_mem _ (List.mem_map_of_mem h)
theorem qaw4 : okM 3541 qaiV = true := qaq (by decide +kernel)
def qaWh : List Nat := [5, 398, 456, 457, 460, 519, 520, 527, 528, 529, 530, 589, 1105, 1106, 1107, 1108, 2130, 2131, 2132, 2133, 2190, 2191, 2192, 2193, 2253, 2254, 2255, 2256, 2257, 2258, 2259, 2577, 2578, 2579, 3537, 3538, 3539, 3540, 3541, 3542, 3543, 3584, 3585, 4416, 4417, 4418, 4419, 4420, 4421, 4422, 4423, 4424, 4425, 4426, 4427, 4428, 4429, 4430, 4431, 4432, 4433, 4434, 4435, 4436, 4437, 4438, 4439, 4440, 4441, 4442, 4443, 4444, 4445, 4446, 4447, 4448, 4449, 4450, 4451, 4452, 4453, 4454, 4455, 4456, 4457, 4458, 4459, 4460, 4461, 4462, 4463, 4464, 4465, 4466, 4467, 4468, 4469, 4470]
def wsX11_fits : List Cond := cw 3537 :: wI qaWh
theorem qwD : ∀ i ∈ qaWh, cw i ∈ wsX11_fits := fun i h => List.mem_cons_of_mem _ (List.mem_map_of_mem h)
def q1k : List Nat := [5, 457, 460, 465, 519, 520, 2190, 2191, 2192, 2193, 2253, 2254, 2255, 2256, 2257, 2258, 2259, 3538, 3539, 3540, 3541, 3542, 3543, 3584, 3585, 3658, 4416, 4417, 4418, 4419, 4420, 4421, 4422, 4423, 4424, 4425, 4426, 4427, 4428, 4429, 4430, 4431, 4432, 4433, 4434, 4435, 4436, 4437, 4438, 4439, 4440, 4441, 4442, 4443, 4444, 4445, 4446, 4447, 4448, 4449, 4450, 4451, 4452, 4453, 4454, 4455, 4456, 4457, 4458, 4459, 4460, 4461, 4462, 4463, 4464, 4465, 4466, 4467, 4468, 4469, 4470]
def wsX11_worstOf : List Cond := cw 3658 :: wI q1k
theorem qw9 : ∀ i ∈ q1k, cw i ∈ wsX11_worstOf := fun i h => List.mem_cons_of_mem _ (List.mem_map_of_mem h)
theorem qaOV : okM 3658 q1k = true := qaq (by decide +kernel)
def qaTp : List Nat := [5, 398, 456, 457, 460, 465, 519, 520, 527, 528, 529, 530, 589, 1105, 1106, 1107, 1108, 2130, 2131, 2132, 2133, 2190, 2191, 2192, 2193, 2253, 2254, 2255, 2256, 2257, 2258, 2259, 2577, 2578, 2579, 3538, 3539, 3540, 3541, 3542, 3543, 3584, 3585, 3654, 3655, 3656, 3657, 3658, 4416, 4417, 4418, 4419, 4420, 4421, 4422, 4423, 4424, 4425, 4426, 4427, 4428, 4429, 4430, 4431, 4432, 4433, 4434, 4435, 4436, 4437, 4438, 4439, 4440, 4441, 4442, 4443, 4444, 4445, 4446, 4447, 4448, 4449, 4450, 4451, 4452, 4453, 4454, 4455, 4456, 4457, 4458, 4459, 4460, 4461, 4462, 4463, 4464, 4465, 4466, 4467, 4468, 4469, 4470]
def wsX11_look : List Cond := cw 3654 :: wI qaTp
theorem qwE : ∀ i ∈ qaTp, cw i ∈ wsX11_look := fun i h => List.mem_cons_of_mem _ (List.mem_map_of_mem h)
def qaLQ : List Nat := [5, 398, 405, 519, 589, 1105, 1106, 1107, 1108, 2194, 2195, 2196, 2197, 2198, 2199, 2240, 2257, 2258, 2259, 2577, 2578, 2579, 3718, 4416, 4417, 4418, 4419, 4420, 4421, 4422, 4423, 4424, 4425, 4426, 4427, 4428, 4429, 4430, 4431, 4432, 4433, 4434, 4435, 4436, 4437, 4438, 4439, 4440, 4441, 4442, 4443, 4444, 4445, 4446, 4447, 4448, 4449, 4450, 4451, 4452, 4453, 4454, 4455, 4456, 4457, 4458, 4459, 4460, 4461, 4462, 4463, 4464, 4465, 4466, 4467, 4468, 4469, 4470]
def wsX11_watch : List Cond := cw 3718 :: wI qaLQ
theorem qv8 : ∀ i ∈ qaLQ, cw i ∈ wsX11_watch := fun i h => List.mem_cons_of_mem _ (List.mem_map_of_mem h)
def qaL4 : List Nat := [3779]
def wsX11_least : List Cond := cw 3779 :: wI qaL4
theorem qaZK : okM 3779 qaL4 = true := qaq (by decide +kernel)
def qa01 : List Nat := [5, 398, 466, 589, 1105, 1106, 1107, 1108, 2577, 2578, 2579, 3735, 3776, 3777, 3778, 3779, 4416, 4417, 4418, 4419, 4420, 4421, 4422, 4423, 4424, 4425, 4426, 4427, 4428, 4429, 4430, 4431, 4432, 4433, 4434, 4435, 4436, 4437, 4438, 4439, 4440, 4441, 4442, 4443, 4444, 4445, 4446, 4447, 4448, 4449, 4450, 4451, 4452, 4453, 4454, 4455, 4456, 4457, 4458, 4459, 4460, 4461, 4462, 4463, 4464, 4465, 4466, 4467, 4468, 4469, 4470]
def wsX11_few : List Cond := cw 3735 :: wI qa01
theorem qDS : ∀ i ∈ qa01, cw i ∈ wsX11_few := fun i h => List.mem_cons_of_mem _ (List.mem_map_of_mem h)
def qaL7 : List Nat := [3796]
def wsX11_hasBy : List Cond := cw 3796 :: wI qaL7
theorem qaWu : okM 3796 qaL7 = true := qaq (by decide +kernel)
def qaWg : List Nat := [5, 398, 589, 1105, 1106, 1107, 1108, 2577, 2578, 2579, 3793, 3794, 3795, 3796, 4416, 4417, 4418, 4419, 4420, 4421, 4422, 4423, 4424, 4425, 4426, 4427, 4428, 4429, 4430, 4431, 4432, 4433, 4434, 4435, 4436, 4437, 4438, 4439, 4440, 4441, 4442, 4443, 4444, 4445, 4446, 4447, 4448, 4449, 4450, 4451, 4452, 4453, 4454, 4455, 4456, 4457, 4458, 4459, 4460, 4461, 4462, 4463, 4464, 4465, 4466, 4467, 4468, 4469, 4470]
def wsX11_road : List Cond := cw 3793 :: wI qaWg
theorem qGi : ∀ i ∈ qaWg, cw i ∈ wsX11_road := fun i h => List.mem_cons_of_mem _ (List.mem_map_of_mem h)
def qWP : List Nat := [5, 457, 520, 2249, 2250, 2251, 2252, 3860, 4416, 4417, 4418, 4419, 4420, 4421, 4422, 4423, 4424, 4425, 4426, 4427, 4428, 4429, 4430, 4431, 4432, 4433, 4434, 4435, 4436, 4437, 4438, 4439, 4440, 4441, 4442, 4443, 4444, 4445, 4446, 4447, 4448, 4449, 4450, 4451, 4452, 4453, 4454, 4455, 4456, 4457, 4458, 4459, 4460, 4461, 4462, 4463, 4464, 4465, 4466, 4467, 4468, 4469, 4470]
def wsX11_cloverBy : List Cond := cw 3860 :: wI qWP
theorem qKm : ∀ i ∈ qWP, cw i ∈ wsX11_cloverBy := fun i h => List.mem_cons_of_mem _ (List.mem_map_of_mem h)
theorem qaGW : okM 3860 qWP = true := qaq (by decide +kernel)
def qaEr : List Nat := [5, 398, 456, 457, 520, 527, 528, 529, 530, 589, 1105, 1106, 1107, 1108, 2130, 2131, 2132, 2133, 2249, 2250, 2251, 2252, 2577, 2578, 2579, 2767, 2768, 2769, 2770, 3856, 3857, 3858, 3859, 3860, 4416, 4417, 4418, 4419, 4420, 4421, 4422, 4423, 4424, 4425, 4426, 4427, 4428, 4429, 4430, 4431, 4432, 4433, 4434, 4435, 4436, 4437, 4438, 4439, 4440, 4441, 4442, 4443, 4444, 4445, 4446, 4447, 4448, 4449, 4450, 4451, 4452, 4453, 4454, 4455, 4456, 4457, 4458, 4459, 4460, 4461, 4462, 4463, 4464, 4465, 4466, 4467, 4468, 4469, 4470]
def wsX11_clover : List Cond := cw 3856 :: wI qaEr
theorem qo4 : ∀ i ∈ qaEr, cw i ∈ wsX11_clover := fun i h => List.mem_cons_of_mem _ (List.mem_map_of_mem h)
def q7Z : List Nat := [5, 398, 456, 457, 520, 527, 528, 529, 530, 589, 1105, 1106, 1107, 1108, 2130, 2131, 2132, 2133, 2190, 2191, 2192, 2193, 2577, 2578, 2579, 3911, 4416, 4417, 4418, 4419, 4420, 4421, 4422, 4423, 4424, 4425, 4426, 4427, 4428, 4429, 4430, 4431, 4432, 4433, 4434, 4435, 4436, 4437, 4438, 4439, 4440, 4441, 4442, 4443, 4444, 4445, 4446, 4447, 4448, 4449, 4450, 4451, 4452, 4453, 4454, 4455, 4456, 4457, 4458, 4459, 4460, 4461, 4462, 4463, 4464, 4465, 4466, 4467, 4468, 4469, 4470]
def wsX11_strongest : List Cond := cw 3911 :: wI q7Z
theorem qnV : ∀ i ∈ q7Z, cw i ∈ wsX11_strongest := fun i h => List.mem_cons_of_mem _ (List.mem_map_of_mem h)
def qaUo : List Nat := [5, 398, 456, 520, 589, 1105, 1106, 1107, 1108, 2577, 2578, 2579, 2767, 2768, 2769, 2770, 3922, 4416, 4417, 4418, 4419, 4420, 4421, 4422, 4423, 4424, 4425, 4426, 4427, 4428, 4429, 4430, 4431, 4432, 4433, 4434, 4435, 4436, 4437, 4438, 4439, 4440, 4441, 4442, 4443, 4444, 4445, 4446, 4447, 4448, 4449, 4450, 4451, 4452, 4453, 4454, 4455, 4456, 4457, 4458, 4459, 4460, 4461, 4462, 4463, 4464, 4465, 4466, 4467, 4468, 4469, 4470]
def wsX11_ties : List Cond := cw 3922 :: wI qaUo
theorem qAF : ∀ i ∈ qaUo, cw i ∈ wsX11_ties := fun i h => List.mem_cons_of_mem _ (List.mem_map_of_mem h)
def qaAl : List Nat := [5, 398, 405, 407, 519, 521, 589, 1105, 1106, 1107, 1108, 2194, 2195, 2196, 2197, 2198, 2199, 2240, 2375, 2376, 2377, 2378, 2577, 2578, 2579, 2699, 2700, 2701, 2702, 3973, 4416, 4417, 4418, 4419, 4420, 4421, 4422, 4423, 4424, 4425, 4426, 4427, 4428, 4429, 4430, 4431, 4432, 4433, 4434, 4435, 4436, 4437, 4438, 4439, 4440, 4441, 4442, 4443, 4444, 4445, 4446, 4447, 4448, 4449, 4450, 4451, 4452, 4453, 4454, 4455, 4456, 4457, 4458, 4459, 4460, 4461, 4462, 4463, 4464, 4465, 4466, 4467, 4468, 4469, 4470]
def wsX11_refuge : List Cond := cw 3973 :: wI qaAl
theorem qra : ∀ i ∈ qaAl, cw i ∈ wsX11_refuge := fun i h => List.mem_cons_of_mem _ (List.mem_map_of_mem h)
def qaim : List Nat := [4115, 4119, 4160, 4416, 4417, 4418, 4419, 4420, 4421, 4422, 4423, 4424, 4425, 4426, 4427, 4428, 4429, 4430, 4431, 4432, 4433, 4434, 4435, 4436, 4437, 4438, 4439, 4440, 4441, 4442, 4443, 4444, 4445, 4446, 4447, 4448, 4449, 4450, 4451, 4452, 4453, 4454, 4455, 4456, 4457, 4458, 4459, 4460, 4461, 4462, 4463, 4464, 4465, 4466, 4467, 4468, 4469, 4470]
def wsX11_draws : List Cond := cw 4119 :: wI qaim
theorem qab2 : ∀ i ∈ qaim, cw i ∈ wsX11_draws := fun i h => List.mem_cons_of_mem _ (List.mem_map_of_mem h)
theorem qaWZ : okM 4119 qaim = true := qaq (by decide +kernel)
def qT3 : List Nat := [5, 405, 406, 407, 450, 451, 452, 453, 456, 457, 519, 520, 521, 522, 527, 528, 529, 530, 2130, 2131, 2132, 2133, 2182, 2183, 2184, 2185, 2186, 2187, 2188, 2189, 2190, 2191, 2192, 2193, 2194, 2195, 2196, 2197, 2198, 2199, 2240, 2241, 2242, 2243, 2244, 2245, 2246, 2247, 2248, 2249, 2250, 2251, 2252, 2253, 2254, 2255, 2256, 2257, 2258, 2259, 2260, 2261, 2262, 2263, 2304, 2305, 2306, 2307, 2308, 2309, 2310, 2311, 2312, 2313, 2314, 2315, 2316, 2317, 2318, 2323, 2324, 2325, 2326, 2327, 2368, 2369, 2370, 2371, 2372, 2373, 2374, 2375, 2376, 2377, 2378, 4110, 4114, 4115, 4116, 4117, 4118, 4119, 4160, 4416, 4417, 4418, 4419, 4420, 4421, 4422, 4423, 4424, 4425, 4426, 4427, 4428, 4429, 4430, 4431, 4432, 4433, 4434, 4435, 4436, 4437, 4438, 4439, 4440, 4441, 4442, 4443, 4444, 4445, 4446, 4447, 4448, 4449, 4450, 4451, 4452, 4453, 4454, 4455, 4456, 4457, 4458, 4459, 4460, 4461, 4462, 4463, 4464, 4465, 4466, 4467, 4468, 4469, 4470]
def wsX11_marchGoes : List Cond := cw 4114 :: wI qT3
theorem qir : ∀ i ∈ qT3, cw i ∈ wsX11_marchGoes := fun i h => List.mem_cons_of_mem _ (List.mem_map_of_mem h)
theorem q3u : okM 4114 qT3 = true := qaq (by decide +kernel)
def qMy : List Nat := [5, 457, 520, 2190, 2191, 2192, 2193, 4164, 4416, 4417, 4418, 4419, 4420, 4421, 4422, 4423, 4424, 4425, 4426, 4427, 4428, 4429, 4430, 4431, 4432, 4433, 4434, 4435, 4436, 4437, 4438, 4439, 4440, 4441, 4442, 4443, 4444, 4445, 4446, 4447, 4448, 4449, 4450, 4451, 4452, 4453, 4454, 4455, 4456, 4457, 4458, 4459, 4460, 4461, 4462, 4463, 4464, 4465, 4466, 4467, 4468, 4469, 4470]
def wsX11_strengthNow : List Cond := cw 4164 :: wI qMy
theorem qyt : ∀ i ∈ qMy, cw i ∈ wsX11_strengthNow := fun i h => List.mem_cons_of_mem _ (List.mem_map_of_mem h)
theorem qakJ : okM 4164 qMy = true := qaq (by decide +kernel)
def qaLr : List Nat := [5, 398, 405, 406, 407, 450, 451, 452, 453, 456, 457, 519, 520, 521, 522, 527, 528, 529, 530, 589, 1105, 1106, 1107, 1108, 2130, 2131, 2132, 2133, 2182, 2183, 2184, 2185, 2186, 2187, 2188, 2189, 2190, 2191, 2192, 2193, 2194, 2195, 2196, 2197, 2198, 2199, 2240, 2241, 2242, 2243, 2244, 2245, 2246, 2247, 2248, 2249, 2250, 2251, 2252, 2253, 2254, 2255, 2256, 2257, 2258, 2259, 2260, 2261, 2262, 2263, 2304, 2305, 2306, 2307, 2308, 2309, 2310, 2311, 2312, 2313, 2314, 2315, 2316, 2317, 2318, 2323, 2324, 2325, 2326, 2327, 2368, 2369, 2370, 2371, 2372, 2373, 2374, 2375, 2376, 2377, 2378, 2577, 2578, 2579, 2624, 2625, 2626, 2627, 4109, 4110, 4111, 4112, 4113, 4114, 4115, 4116, 4117, 4118, 4119, 4160, 4161, 4162, 4163, 4164, 4416, 4417, 4418, 4419, 4420, 4421, 4422, 4423, 4424, 4425, 4426, 4427, 4428, 4429, 4430, 4431, 4432, 4433, 4434, 4435, 4436, 4437, 4438, 4439, 4440, 4441, 4442, 4443, 4444, 4445, 4446, 4447, 4448, 4449, 4450, 4451, 4452, 4453, 4454, 4455, 4456, 4457, 4458, 4459, 4460, 4461, 4462, 4463, 4464, 4465, 4466, 4467, 4468, 4469, 4470]
def wsX11_march : List Cond := cw 4109 :: wI qaLr
theorem qsm : ∀ i ∈ qaLr, cw i ∈ wsX11_march := fun i h => List.mem_cons_of_mem _ (List.mem_map_of_mem h)
def qaSZ : List Nat := [5, 398, 405, 406, 407, 450, 451, 452, 453, 456, 457, 519, 520, 521, 522, 527, 528, 529, 530, 589, 1105, 1106, 1107, 1108, 2130, 2131, 2132, 2133, 2182, 2183, 2184, 2185, 2186, 2187, 2188, 2189, 2190, 2191, 2192, 2193, 2194, 2195, 2196, 2197, 2198, 2199, 2240, 2241, 2242, 2243, 2244, 2245, 2246, 2247, 2248, 2249, 2250, 2251, 2252, 2253, 2254, 2255, 2256, 2257, 2258, 2259, 2260, 2261, 2262, 2263, 2304, 2305, 2306, 2307, 2308, 2309, 2310, 2311, 2312, 2313, 2314, 2315, 2316, 2317, 2318, 2323, 2324, 2325, 2326, 2327, 2368, 2369, 2370, 2371, 2372, 2373, 2374, 2375, 2376, 2377, 2378, 2577, 2578, 2579, 4110, 4111, 4112, 4113, 4114, 4115, 4116, 4117, 4118, 4119, 4160, 4176, 4416, 4417, 4418, 4419, 4420, 4421, 4422, 4423, 4424, 4425, 4426, 4427, 4428, 4429, 4430, 4431, 4432, 4433, 4434, 4435, 4436, 4437, 4438, 4439, 4440, 4441, 4442, 4443, 4444, 4445, 4446, 4447, 4448, 4449, 4450, 4451, 4452, 4453, 4454, 4455, 4456, 4457, 4458, 4459, 4460, 4461, 4462, 4463, 4464, 4465, 4466, 4467, 4468, 4469, 4470]
def wsX11_span : List Cond := cw 4176 :: wI qaSZ
theorem qwy : ∀ i ∈ qaSZ, cw i ∈ wsX11_span := fun i h => List.mem_cons_of_mem _ (List.mem_map_of_mem h)
def qXu : List Nat := [467, 4236, 4416, 4417, 4418, 4419, 4420, 4421, 4422, 4423, 4424, 4425, 4426, 4427, 4428, 4429, 4430, 4431, 4432, 4433, 4434, 4435, 4436, 4437, 4438, 4439, 4440, 4441, 4442, 4443, 4444, 4445, 4446, 4447, 4448, 4449, 4450, 4451, 4452, 4453, 4454, 4455, 4456, 4457, 4458, 4459, 4460, 4461, 4462, 4463, 4464, 4465, 4466, 4467, 4468, 4469, 4470]
def wsX11_keepsRow : List Cond := cw 4236 :: wI qXu
theorem q8q : ∀ i ∈ qXu, cw i ∈ wsX11_keepsRow := fun i h => List.mem_cons_of_mem _ (List.mem_map_of_mem h)
theorem qaKy : okM 4236 qXu = true := qaq (by decide +kernel)
def qXF : List Nat := [5, 456, 458, 467, 524, 4232, 4233, 4234, 4235, 4236, 4416, 4417, 4418, 4419, 4420, 4421, 4422, 4423, 4424, 4425, 4426, 4427, 4428, 4429, 4430, 4431, 4432, 4433, 4434, 4435, 4436, 4437, 4438, 4439, 4440, 4441, 4442, 4443, 4444, 4445, 4446, 4447, 4448, 4449, 4450, 4451, 4452, 4453, 4454, 4455, 4456, 4457, 4458, 4459, 4460, 4461, 4462, 4463, 4464, 4465, 4466, 4467, 4468, 4469, 4470]
def wsX11_keepsAll : List Cond := cw 4232 :: wI qXF
theorem qxM : ∀ i ∈ qXF, cw i ∈ wsX11_keepsAll := fun i h => List.mem_cons_of_mem _ (List.mem_map_of_mem h)
theorem q75 : okM 4232 qXF = true := qaq (by decide +kernel)
def qaLF : List Nat := [5, 456, 458, 467, 524, 525, 589, 4228, 4229, 4230, 4231, 4232, 4233, 4234, 4235, 4236, 4416, 4417, 4418, 4419, 4420, 4421, 4422, 4423, 4424, 4425, 4426, 4427, 4428, 4429, 4430, 4431, 4432, 4433, 4434, 4435, 4436, 4437, 4438, 4439, 4440, 4441, 4442, 4443, 4444, 4445, 4446, 4447, 4448, 4449, 4450, 4451, 4452, 4453, 4454, 4455, 4456, 4457, 4458, 4459, 4460, 4461, 4462, 4463, 4464, 4465, 4466, 4467, 4468, 4469, 4470]
def wsX11_image : List Cond := cw 4228 :: wI qaLF
theorem qQO : ∀ i ∈ qaLF, cw i ∈ wsX11_image := fun i h => List.mem_cons_of_mem _ (List.mem_map_of_mem h)
def qaoj : List Nat := [5, 456, 458, 467, 524, 525, 526, 589, 4229, 4230, 4231, 4232, 4233, 4234, 4235, 4236, 4244, 4416, 4417, 4418, 4419, 4420, 4421, 4422, 4423, 4424, 4425, 4426, 4427, 4428, 4429, 4430, 4431, 4432, 4433, 4434, 4435, 4436, 4437, 4438, 4439, 4440, 4441, 4442, 4443, 4444, 4445, 4446, 4447, 4448, 4449, 4450, 4451, 4452, 4453, 4454, 4455, 4456, 4457, 4458, 4459, 4460, 4461, 4462, 4463, 4464, 4465, 4466, 4467, 4468, 4469, 4470]
def wsX11_restore : List Cond := cw 4244 :: wI qaoj
theorem qCY : ∀ i ∈ qaoj, cw i ∈ wsX11_restore := fun i h => List.mem_cons_of_mem _ (List.mem_map_of_mem h)
def qaDB : List Nat := [5, 398, 589, 2577, 2578, 2579, 4292, 4416, 4417, 4418, 4419, 4420, 4421, 4422, 4423, 4424, 4425, 4426, 4427, 4428, 4429, 4430, 4431, 4432, 4433, 4434, 4435, 4436, 4437, 4438, 4439, 4440, 4441, 4442, 4443, 4444, 4445, 4446, 4447, 4448, 4449, 4450, 4451, 4452, 4453, 4454, 4455, 4456, 4457, 4458, 4459, 4460, 4461, 4462, 4463, 4464, 4465, 4466, 4467, 4468, 4469, 4470]
def wsX11_status : List Cond := cw 4292 :: wI qaDB
theorem qLm : ∀ i ∈ qaDB, cw i ∈ wsX11_status := fun i h => List.mem_cons_of_mem _ (List.mem_map_of_mem h)
def qaMc : List Nat := [524, 525, 589, 590, 4300, 4416, 4417, 4418, 4419, 4420, 4421, 4422, 4423, 4424, 4425, 4426, 4427, 4428, 4429, 4430, 4431, 4432, 4433, 4434, 4435, 4436, 4437, 4438, 4439, 4440, 4441, 4442, 4443, 4444, 4445, 4446, 4447, 4448, 4449, 4450, 4451, 4452, 4453, 4454, 4455, 4456, 4457, 4458, 4459, 4460, 4461, 4462, 4463, 4464, 4465, 4466, 4467, 4468, 4469, 4470]
def wsX11_count : List Cond := cw 4300 :: wI qaMc
theorem qRd : ∀ i ∈ qaMc, cw i ∈ wsX11_count := fun i h => List.mem_cons_of_mem _ (List.mem_map_of_mem h)
def qa5O : List Nat := [2, 15, 16, 19, 20, 21, 64, 65, 69, 70, 78, 79, 84, 142, 143, 148, 149, 150, 151, 192, 193, 194, 200, 201, 205, 206, 207, 208, 209, 210, 211, 212, 257, 259, 260, 261, 262, 276, 279, 320, 321, 322, 323, 324, 325, 326, 327, 328, 329, 330, 331, 535, 580, 594, 595, 596, 597, 598, 599, 640, 641, 642, 643, 644, 645, 646, 647, 648, 649, 650, 651, 652, 653, 654, 655, 656, 657, 658, 659, 660, 661, 662, 663, 704, 705, 706, 707, 708, 709, 710, 711, 712, 713, 714, 715, 716, 717, 718, 719, 720, 721, 722, 723, 724, 725, 726, 727, 768, 769, 770, 771, 772, 773, 774, 775, 776, 777, 778, 779, 780, 781, 782, 783, 784, 785, 786, 787, 788, 789, 790, 791, 832, 833, 834, 835, 836, 837, 838, 839, 840, 841, 842, 843, 844, 845, 846, 847, 848, 849, 850, 851, 852, 853, 854, 855, 896, 897, 898, 899, 900, 901, 902, 903, 904, 905, 906, 907, 908, 909, 910, 911, 912, 913, 914, 915, 916, 917, 918, 919, 960, 961, 962, 963, 964, 965, 966, 967, 968, 969, 970, 971, 972, 973, 974, 975, 976, 977, 978, 979, 980, 981, 982, 983, 1024, 1025, 1026, 1027, 1028, 1029, 1030, 1031, 1032, 1033, 1034, 1035, 1036, 1037, 1038, 1039, 1040, 1041, 1042, 1043, 1044, 1045, 1046, 1047, 1088, 1089, 1090, 1091, 1092, 1093, 1094, 1095, 1096, 1097, 1098, 4352, 4353, 4354, 4355, 4356, 4357, 4358, 4359, 4360, 4361, 4362, 4363, 4364, 4365, 4366, 4367, 4368, 4369, 4370, 4480, 4481, 4482, 4483, 4484, 4485, 4486, 4544, 4545, 4546, 4547, 4548, 4549, 4550, 4551, 4552, 4553, 4554, 4555, 4608, 4609, 4610, 4611, 4612, 4672, 4673, 4800, 4801, 4802, 4803, 4864, 4865]
def wsL_down : List Cond := cw 594 :: (wI qa5O ++ (vx_atS RX10 409 "java/lang/IllegalArgumentException" ["java/lang/RuntimeException", "java/lang/Exception"]).filter goodWord)
theorem qavd : ∀ i ∈ qa5O, cw i ∈ wsL_down := fun i h => List.mem_cons_of_mem _ (List.mem_append_left _ (List.mem_map_of_mem h))
def qbeo : List Nat := [2, 15, 16, 64, 65, 66, 78, 79, 142, 143, 200, 201, 208, 209, 210, 211, 212, 323, 535, 580, 595, 640, 645, 646, 647, 648, 649, 650, 651, 652, 653, 654, 655, 656, 657, 658, 659, 660, 661, 662, 663, 704, 705, 706, 707, 708, 709, 710, 711, 712, 713, 714, 715, 724, 725, 726, 768, 769, 770, 771, 772, 773, 774, 780, 781, 782, 783, 784, 785, 786, 787, 788, 789, 790, 791, 832, 833, 834, 835, 836, 837, 838, 839, 840, 841, 842, 843, 844, 845, 846, 847, 848, 849, 850, 851, 852, 853, 854, 855, 896, 897, 898, 899, 900, 901, 902, 903, 904, 905, 906, 907, 908, 909, 910, 911, 912, 913, 914, 915, 916, 962, 963, 964, 965, 966, 967, 968, 970, 971, 972, 973, 974, 975, 976, 977, 979, 980, 981, 982, 983, 1024, 1025, 1026, 1027, 1028, 1029, 1095, 1344, 1345, 1346, 1347, 1348, 1349, 1350, 1351, 1352, 1353, 1354, 1355, 1356, 1357, 1358, 1359, 1360, 1361, 1362, 1363, 1364, 1365, 1366, 1367, 1408, 1409, 1410, 1411, 1412, 1413, 1414, 1415, 1416, 1417, 1418, 1419, 1420, 1421, 1422, 1423, 1424, 1425, 1426, 1427, 1428, 1429, 1430, 1431, 1472, 1473, 1474, 1475, 1476, 4352, 4353, 4354, 4355, 4356, 4357, 4358, 4359, 4360, 4361, 4362, 4363, 4364, 4365, 4366, 4367, 4368, 4369, 4370, 4480, 4481, 4482, 4483, 4484, 4485, 4486, 4608, 4609, 4610, 4611, 4612, 4800, 4801, 4802, 4803]
def wsL_law : List Cond := cw 1344 :: (wI qbeo ++ (vx_atS RX10 409 "java/lang/IllegalArgumentException" ["java/lang/RuntimeException", "java/lang/Exception"]).filter goodWord)
theorem qaM8 : ∀ i ∈ qbeo, cw i ∈ wsL_law := fun i h => List.mem_cons_of_mem _ (List.mem_append_left _ (List.mem_map_of_mem h))
def qa7F : List Nat := [2, 15, 16, 19, 20, 64, 74, 75, 78, 79, 83, 84, 142, 143, 148, 149, 200, 201, 202, 203, 208, 266, 267, 268, 269, 270, 271, 276, 322, 323, 324, 326, 329, 330, 331, 335, 535, 580, 595, 640, 641, 643, 644, 645, 646, 647, 648, 649, 650, 651, 652, 653, 654, 655, 656, 657, 658, 659, 660, 661, 662, 663, 704, 705, 706, 707, 708, 709, 710, 711, 712, 713, 714, 715, 724, 725, 726, 768, 769, 770, 771, 772, 773, 774, 780, 781, 782, 783, 784, 785, 786, 787, 788, 789, 790, 791, 832, 833, 834, 835, 836, 837, 838, 839, 840, 841, 842, 843, 844, 845, 846, 847, 848, 849, 850, 851, 852, 853, 854, 855, 896, 897, 898, 899, 900, 901, 902, 903, 904, 905, 906, 907, 908, 909, 910, 911, 912, 913, 914, 915, 916, 962, 963, 964, 965, 966, 967, 968, 970, 971, 972, 973, 974, 975, 976, 977, 979, 980, 981, 982, 983, 1024, 1025, 1026, 1027, 1028, 1029, 1047, 1092, 1093, 1094, 1095, 1552, 1553, 1554, 1555, 1556, 1557, 1558, 1559, 1600, 1601, 1602, 1603, 1604, 1605, 1606, 1607, 1608, 1609, 1610, 1611, 1612, 1613, 1614, 1615, 1616, 1617, 1618, 1619, 1620, 1621, 1622, 1623, 1664, 1665, 1666, 1667, 1668, 1669, 1670, 1671, 1672, 1673, 1674, 1675, 1676, 1677, 1678, 1679, 1680, 1681, 1682, 1683, 1684, 1685, 1686, 1687, 1728, 1729, 1730, 1731, 1732, 1733, 1734, 1735, 1736, 1737, 1738, 1739, 1740, 1741, 1742, 1743, 1744, 1745, 1746, 1747, 1748, 1749, 1750, 1751, 1792, 1793, 1794, 1795, 1796, 1797, 1798, 1799, 1800, 1801, 1802, 1803, 1804, 1805, 1806, 1807, 1808, 1809, 1810, 1811, 1812, 1813, 1814, 1815, 1856, 1857, 1858, 1859, 1860, 1861, 1862, 1863, 1864, 1865, 1866, 1867, 1868, 1869, 1870, 1871, 1872, 1873, 1874, 1875, 1876, 1877, 1878, 1879, 1920, 1921, 1922, 1923, 1924, 1925, 1926, 1927, 1928, 1929, 1930, 1931, 1932, 1933, 1934, 1935, 1936, 1937, 1938, 1939, 1940, 1941, 1942, 1943, 1984, 1985, 1986, 1987, 1988, 1989, 1990, 1991, 1992, 1993, 1994, 1995, 1996, 1997, 1998, 1999, 2000, 2001, 2002, 2003, 2004, 2005, 2006, 2007, 2048, 2049, 2050, 2051, 2052, 2053, 2054, 2055, 2056, 2057, 2058, 2059, 2060, 2061, 2062, 2063, 2064, 2065, 2066, 2067, 2068, 2069, 4352, 4353, 4354, 4355, 4356, 4357, 4358, 4359, 4360, 4361, 4362, 4363, 4364, 4365, 4366, 4367, 4368, 4369, 4370, 4480, 4481, 4482, 4483, 4484, 4485, 4486, 4544, 4545, 4546, 4547, 4548, 4549, 4550, 4551, 4552, 4553, 4554, 4555, 4608, 4609, 4610, 4611, 4612, 4736, 4737, 4738, 4739, 4740, 4741, 4742, 4743, 4744, 4745, 4746, 4747, 4800, 4801, 4802, 4803, 4864, 4865]
def wsL_work : List Cond := cw 1552 :: (wI qa7F ++ (vx_atS RX10 409 "java/lang/IllegalArgumentException" ["java/lang/RuntimeException", "java/lang/Exception"]).filter goodWord)
theorem qavb : ∀ i ∈ qa7F, cw i ∈ wsL_work := fun i h => List.mem_cons_of_mem _ (List.mem_append_left _ (List.mem_map_of_mem h))
def qa80 : List Nat := [2, 15, 16, 20, 69, 70, 71, 142, 143, 257, 258, 259, 260, 261, 262, 535, 580, 595, 640, 645, 646, 647, 648, 649, 650, 651, 652, 653, 654, 655, 656, 657, 658, 659, 660, 661, 662, 663, 704, 705, 706, 707, 708, 709, 710, 711, 712, 713, 714, 715, 724, 725, 726, 768, 769, 770, 771, 772, 773, 774, 835, 962, 963, 964, 965, 966, 967, 968, 970, 971, 972, 973, 974, 975, 976, 977, 979, 980, 981, 982, 983, 1024, 1025, 1026, 1027, 1028, 1029, 1095, 1557, 2381, 2382, 2383, 2384, 2385, 2386, 2387, 2388, 2389, 2390, 2391, 2432, 2433, 2434, 2435, 2436, 2437, 2438, 2439, 2440, 2441, 2442, 2443, 4352, 4353, 4354, 4355, 4356, 4357, 4358, 4359, 4360, 4361, 4362, 4363, 4364, 4365, 4366, 4367, 4368, 4369, 4370, 4480, 4481, 4482, 4483, 4484, 4485, 4486, 4544, 4545, 4546, 4547, 4548, 4549, 4550, 4551, 4552, 4553, 4554, 4555, 4672, 4673]
def wsL_book : List Cond := cw 2381 :: (wI qa80 ++ (vx_atS RX10 409 "java/lang/IllegalArgumentException" ["java/lang/RuntimeException", "java/lang/Exception"]).filter goodWord)
theorem qau1 : ∀ i ∈ qa80, cw i ∈ wsL_book := fun i h => List.mem_cons_of_mem _ (List.mem_append_left _ (List.mem_map_of_mem h))
def qbaK : List Nat := [2, 19, 20, 70, 78, 79, 276, 322, 324, 595, 643, 644, 653, 654, 655, 656, 657, 658, 659, 660, 661, 662, 663, 704, 705, 706, 1047, 1557, 1741, 1742, 1743, 1744, 1745, 1746, 1747, 1748, 1812, 1813, 1814, 1815, 1856, 1857, 1858, 1859, 1860, 1861, 1862, 1863, 1873, 1874, 1875, 1984, 1985, 1986, 2052, 2053, 2059, 2060, 2061, 2062, 2063, 2064, 2065, 2386, 2511, 2512, 2513, 2514, 2515, 2516, 2517, 2518, 2519, 2560, 2561, 2562, 2563, 2564, 2565, 2566, 2567, 2568, 2569, 2570, 2571, 2572, 4352, 4353, 4354, 4355, 4356, 4357, 4358, 4359, 4360, 4361, 4362, 4363, 4364, 4365, 4366, 4367, 4368, 4369, 4370, 4544, 4545, 4546, 4547, 4548, 4549, 4550, 4551, 4552, 4553, 4554, 4555, 4672, 4673, 4800, 4801, 4802, 4803]
def wsL_told : List Cond := cw 2511 :: (wI qbaK ++ (vx_atS RX10 409 "java/lang/IllegalArgumentException" ["java/lang/RuntimeException", "java/lang/Exception"]).filter goodWord)
theorem qave : ∀ i ∈ qbaK, cw i ∈ wsL_told := fun i h => List.mem_cons_of_mem _ (List.mem_append_left _ (List.mem_map_of_mem h))
def qa4r : List Nat := [2, 19, 20, 78, 79, 276, 322, 324, 595, 653, 654, 655, 656, 657, 658, 659, 660, 661, 662, 663, 704, 705, 706, 1047, 1557, 1741, 1742, 1743, 1744, 1745, 1746, 1747, 1748, 1798, 1799, 1800, 2052, 2053, 2063, 2064, 2065, 2638, 2639, 2640, 2641, 2642, 2643, 2644, 2645, 2646, 2647, 2688, 2689, 2690, 2691, 2692, 2693, 2694, 4352, 4353, 4354, 4355, 4356, 4357, 4358, 4359, 4360, 4361, 4362, 4363, 4364, 4365, 4366, 4367, 4368, 4369, 4370, 4544, 4545, 4546, 4547, 4548, 4549, 4550, 4551, 4552, 4553, 4554, 4555, 4800, 4801, 4802, 4803]
def wsL_form : List Cond := cw 2638 :: (wI qa4r ++ (qqx RX10 268 "java/util/NoSuchElementException" 13 qxA ["java/lang/RuntimeException", "java/lang/Exception"]).filter goodWord ++ (vx_atS RX10 409 "java/lang/IllegalArgumentException" ["java/lang/RuntimeException", "java/lang/Exception"]).filter goodWord)
theorem qacC : ∀ i ∈ qa4r, cw i ∈ wsL_form := fun i h => List.mem_cons_of_mem _ (List.mem_append_left _ (List.mem_append_left _ (List.mem_map_of_mem h)))
def qbai : List Nat := [2, 20, 64, 78, 79, 200, 201, 202, 203, 208, 276, 322, 323, 324, 595, 644, 650, 651, 652, 653, 654, 655, 656, 657, 658, 659, 660, 661, 662, 663, 704, 705, 706, 1741, 1742, 1743, 1744, 1745, 1746, 1747, 1748, 1794, 1795, 1796, 1797, 1798, 1799, 1800, 1801, 1802, 1803, 1804, 1805, 1806, 1807, 1808, 1809, 1810, 1811, 1812, 1813, 1814, 1815, 1856, 1857, 1858, 1859, 1860, 1861, 1862, 1863, 1864, 1865, 1866, 1867, 1868, 1869, 1870, 1871, 1872, 1873, 1874, 1875, 1876, 1877, 1878, 1879, 1920, 1921, 1922, 1923, 1924, 1925, 1926, 1927, 1928, 1929, 1930, 1931, 1932, 1933, 1934, 2639, 2690, 2691, 2692, 2705, 2706, 2707, 2708, 2709, 2710, 2711, 2752, 2753, 2754, 2755, 2756, 2757, 2758, 2759, 2760, 2761, 2762, 4352, 4353, 4354, 4355, 4356, 4357, 4358, 4359, 4360, 4361, 4362, 4363, 4364, 4365, 4366, 4367, 4368, 4369, 4370, 4544, 4545, 4546, 4547, 4548, 4549, 4550, 4551, 4552, 4553, 4554, 4555, 4608, 4609, 4610, 4611, 4612, 4800, 4801, 4802, 4803]
def wsL_hare : List Cond := cw 2705 :: (wI qbai ++ (qqx RX10 268 "java/util/NoSuchElementException" 13 qxA ["java/lang/RuntimeException", "java/lang/Exception"]).filter goodWord ++ (vx_atS RX10 409 "java/lang/IllegalArgumentException" ["java/lang/RuntimeException", "java/lang/Exception"]).filter goodWord)
theorem qacE : ∀ i ∈ qbai, cw i ∈ wsL_hare := fun i h => List.mem_cons_of_mem _ (List.mem_append_left _ (List.mem_append_left _ (List.mem_map_of_mem h)))
def qbde : List Nat := [2, 20, 595, 653, 654, 655, 656, 657, 658, 659, 660, 661, 662, 663, 704, 705, 706, 2516, 2639, 2690, 2691, 2692, 2773, 2774, 2775, 2816, 2817, 2818, 2819, 4352, 4353, 4354, 4355, 4356, 4357, 4358, 4359, 4360, 4361, 4362, 4363, 4364, 4365, 4366, 4367, 4368, 4369, 4370, 4544, 4545, 4546, 4547, 4548, 4549, 4550, 4551, 4552, 4553, 4554, 4555]
def wsL_fox : List Cond := cw 2773 :: (wI qbde ++ (qqx RX10 268 "java/util/NoSuchElementException" 13 qxA ["java/lang/RuntimeException", "java/lang/Exception"]).filter goodWord ++ (vx_atS RX10 409 "java/lang/IllegalArgumentException" ["java/lang/RuntimeException", "java/lang/Exception"]).filter goodWord)
theorem qavy : ∀ i ∈ qbde, cw i ∈ wsL_fox := fun i h => List.mem_cons_of_mem _ (List.mem_append_left _ (List.mem_append_left _ (List.mem_map_of_mem h)))
def qa6o : List Nat := [2, 20, 78, 79, 276, 644, 657, 658, 659, 1861, 1862, 1863, 2639, 2690, 2691, 2692, 2711, 2752, 2753, 2754, 2826, 2827, 2828, 2829, 2830, 2831, 4352, 4353, 4354, 4355, 4356, 4357, 4358, 4359, 4360, 4361, 4362, 4363, 4364, 4365, 4366, 4367, 4368, 4369, 4370, 4544, 4545, 4546, 4547, 4548, 4549, 4550, 4551, 4552, 4553, 4554, 4555, 4800, 4801, 4802, 4803]
def wsL_debt : List Cond := cw 2826 :: (wI qa6o ++ (qqx RX10 268 "java/util/NoSuchElementException" 13 qxA ["java/lang/RuntimeException", "java/lang/Exception"]).filter goodWord)
theorem qau4 : ∀ i ∈ qa6o, cw i ∈ wsL_debt := fun i h => List.mem_cons_of_mem _ (List.mem_append_left _ (List.mem_map_of_mem h))
def qbcK : List Nat := [2, 19, 20, 148, 149, 651, 657, 658, 659, 1092, 1093, 1094, 1557, 1750, 1751, 1792, 2639, 2646, 2647, 2688, 2689, 2690, 2691, 2692, 2838, 2839, 2880, 2881, 2882, 2883, 4352, 4353, 4354, 4355, 4356, 4357, 4358, 4359, 4360, 4361, 4362, 4363, 4364, 4365, 4366, 4367, 4368, 4369, 4370, 4544, 4545, 4546, 4547, 4548, 4549, 4550, 4551, 4552, 4553, 4554, 4555]
def wsL_far : List Cond := cw 2838 :: (wI qbcK ++ (qqx RX10 268 "java/util/NoSuchElementException" 13 qxA ["java/lang/RuntimeException", "java/lang/Exception"]).filter goodWord)
theorem qaPi : ∀ i ∈ qbcK, cw i ∈ wsL_far := fun i h => List.mem_cons_of_mem _ (List.mem_append_left _ (List.mem_map_of_mem h))
def qa0f : List Nat := [2, 64, 65, 200, 201, 202, 203, 208, 595, 650, 651, 652, 653, 654, 655, 656, 657, 658, 659, 660, 661, 662, 663, 704, 705, 706, 1869, 1870, 1871, 1921, 1922, 1923, 1925, 1926, 1927, 1928, 1929, 1930, 1931, 1932, 1933, 1934, 2890, 2891, 2892, 2893, 2894, 2895, 2896, 2897, 4352, 4353, 4354, 4355, 4356, 4357, 4358, 4359, 4360, 4361, 4362, 4363, 4364, 4365, 4366, 4367, 4368, 4369, 4370, 4608, 4609, 4610, 4611, 4612]
def wsL_would : List Cond := cw 2890 :: (wI qa0f ++ (vx_atS RX10 409 "java/lang/IllegalArgumentException" ["java/lang/RuntimeException", "java/lang/Exception"]).filter goodWord)
theorem qaeu : ∀ i ∈ qa0f, cw i ∈ wsL_would := fun i h => List.mem_cons_of_mem _ (List.mem_append_left _ (List.mem_map_of_mem h))
def qbdL : List Nat := [2, 19, 20, 64, 78, 79, 148, 149, 200, 201, 202, 203, 208, 276, 322, 323, 324, 644, 650, 651, 652, 657, 658, 659, 1092, 1093, 1094, 1557, 1738, 1739, 1740, 1741, 1742, 1743, 1744, 1745, 1746, 1747, 1748, 1749, 1750, 1751, 1792, 1793, 1794, 1795, 1796, 1797, 1798, 1799, 1800, 1801, 1802, 1803, 1804, 1805, 1806, 1807, 1808, 1809, 1810, 1811, 1812, 1813, 1814, 1815, 1856, 1857, 1858, 1859, 1860, 1861, 1862, 1863, 1864, 1865, 1866, 1867, 1868, 1869, 1870, 1871, 1872, 1873, 1874, 1875, 1876, 1877, 1878, 1879, 1920, 1921, 1922, 1923, 1924, 1925, 1926, 1927, 1928, 1929, 1930, 1931, 1932, 1933, 1934, 2639, 2646, 2647, 2688, 2689, 2690, 2691, 2692, 2711, 2752, 2753, 2754, 2944, 2945, 2946, 2947, 2948, 2949, 4352, 4353, 4354, 4355, 4356, 4357, 4358, 4359, 4360, 4361, 4362, 4363, 4364, 4365, 4366, 4367, 4368, 4369, 4370, 4544, 4545, 4546, 4547, 4548, 4549, 4550, 4551, 4552, 4553, 4554, 4555, 4608, 4609, 4610, 4611, 4612, 4800, 4801, 4802, 4803]
def wsL_can : List Cond := cw 2944 :: (wI qbdL ++ (qqx RX10 268 "java/util/NoSuchElementException" 13 qxA ["java/lang/RuntimeException", "java/lang/Exception"]).filter goodWord)
theorem qaPm : ∀ i ∈ qbdL, cw i ∈ wsL_can := fun i h => List.mem_cons_of_mem _ (List.mem_append_left _ (List.mem_map_of_mem h))
def qa0k : List Nat := [2, 19, 78, 79, 80, 276, 322, 323, 324, 326, 328, 329, 330, 331, 595, 653, 654, 655, 656, 657, 658, 659, 660, 661, 662, 663, 704, 705, 706, 1047, 1741, 1742, 1743, 1744, 1745, 1746, 1747, 1748, 1812, 1813, 1814, 1815, 1856, 1857, 1858, 1859, 1860, 1861, 1862, 1863, 1873, 1874, 1875, 2049, 2050, 2051, 2052, 2053, 2054, 2055, 2056, 2057, 2058, 2059, 2060, 2061, 2062, 2063, 2064, 2065, 2066, 2067, 2068, 2069, 2518, 2560, 2561, 2562, 2563, 2568, 2569, 2570, 2571, 2956, 2957, 2958, 2959, 2960, 2961, 2962, 2963, 2964, 2965, 4352, 4353, 4354, 4355, 4356, 4357, 4358, 4359, 4360, 4361, 4362, 4363, 4364, 4365, 4366, 4367, 4368, 4369, 4370, 4544, 4545, 4546, 4547, 4548, 4549, 4550, 4551, 4552, 4553, 4554, 4555, 4800, 4801, 4802, 4803]
def wsL_ahead : List Cond := cw 2956 :: (wI qa0k ++ (vx_atS RX10 409 "java/lang/IllegalArgumentException" ["java/lang/RuntimeException", "java/lang/Exception"]).filter goodWord)
theorem qafh : ∀ i ∈ qa0k, cw i ∈ wsL_ahead := fun i h => List.mem_cons_of_mem _ (List.mem_append_left _ (List.mem_map_of_mem h))
def qa4b : List Nat := [2, 19, 20, 64, 78, 79, 148, 149, 200, 201, 202, 203, 208, 276, 322, 323, 324, 644, 650, 651, 652, 657, 658, 659, 720, 1092, 1093, 1094, 1557, 1741, 1742, 1743, 1744, 1745, 1746, 1747, 1748, 1750, 1751, 1792, 1794, 1795, 1796, 1797, 1798, 1799, 1800, 1801, 1802, 1803, 1804, 1805, 1806, 1807, 1808, 1809, 1810, 1811, 1812, 1813, 1814, 1815, 1856, 1857, 1858, 1859, 1860, 1861, 1862, 1863, 1864, 1865, 1866, 1867, 1868, 1869, 1870, 1871, 1872, 1873, 1874, 1875, 1876, 1877, 1878, 1879, 1920, 1921, 1922, 1923, 1924, 1925, 1926, 1927, 1928, 1929, 1930, 1931, 1932, 1933, 1934, 2052, 2053, 2639, 2646, 2647, 2688, 2689, 2690, 2691, 2692, 2711, 2752, 2753, 2754, 2755, 2756, 2762, 3012, 3013, 3014, 3015, 3016, 3017, 3018, 3019, 3020, 3021, 3022, 3023, 3024, 3025, 4352, 4353, 4354, 4355, 4356, 4357, 4358, 4359, 4360, 4361, 4362, 4363, 4364, 4365, 4366, 4367, 4368, 4369, 4370, 4544, 4545, 4546, 4547, 4548, 4549, 4550, 4551, 4552, 4553, 4554, 4555, 4608, 4609, 4610, 4611, 4612, 4800, 4801, 4802, 4803]
def wsL_hops : List Cond := cw 3012 :: (wI qa4b ++ (qqx RX10 268 "java/util/NoSuchElementException" 13 qxA ["java/lang/RuntimeException", "java/lang/Exception"]).filter goodWord)
theorem qavi : ∀ i ∈ qa4b, cw i ∈ wsL_hops := fun i h => List.mem_cons_of_mem _ (List.mem_append_left _ (List.mem_map_of_mem h))
def qa3J : List Nat := [2, 19, 20, 64, 78, 79, 132, 133, 148, 149, 200, 201, 202, 203, 208, 276, 322, 323, 324, 384, 385, 386, 644, 650, 651, 652, 657, 658, 659, 720, 1092, 1093, 1094, 1741, 1742, 1743, 1744, 1745, 1746, 1747, 1748, 1750, 1751, 1792, 1793, 1794, 1795, 1796, 1797, 1798, 1799, 1800, 1801, 1802, 1803, 1804, 1805, 1806, 1807, 1808, 1809, 1810, 1811, 1812, 1813, 1814, 1815, 1856, 1857, 1858, 1859, 1860, 1861, 1862, 1863, 1864, 1865, 1866, 1867, 1868, 1869, 1870, 1871, 1872, 1873, 1874, 1875, 1876, 1877, 1878, 1879, 1920, 1921, 1922, 1923, 1924, 1925, 1926, 1927, 1928, 1929, 1930, 1931, 1932, 1933, 1934, 2052, 2053, 2639, 2690, 2691, 2692, 2711, 2752, 2753, 2754, 3022, 3023, 3024, 3025, 3075, 3076, 3077, 3078, 3079, 3080, 3081, 3082, 3083, 3084, 3085, 3086, 3087, 3088, 3089, 3090, 3091, 3092, 3093, 3094, 3095, 3136, 3137, 3138, 3139, 3140, 3141, 3142, 3143, 3144, 3145, 3146, 3147, 3148, 3149, 3150, 3205, 3206, 3207, 3208, 3209, 3210, 4352, 4353, 4354, 4355, 4356, 4357, 4358, 4359, 4360, 4361, 4362, 4363, 4364, 4365, 4366, 4367, 4368, 4369, 4370, 4544, 4545, 4546, 4547, 4548, 4549, 4550, 4551, 4552, 4553, 4554, 4555, 4608, 4609, 4610, 4611, 4612, 4800, 4801, 4802, 4803, 4992, 4993, 4994, 4995]
def wsL_seat : List Cond := cw 3205 :: (wI qa3J ++ (qqx RX10 268 "java/util/NoSuchElementException" 13 qxA ["java/lang/RuntimeException", "java/lang/Exception"]).filter goodWord)
theorem qau5 : ∀ i ∈ qa3J, cw i ∈ wsL_seat := fun i h => List.mem_cons_of_mem _ (List.mem_append_left _ (List.mem_map_of_mem h))
def qaWk : List Nat := [2, 19, 20, 128, 129, 148, 149, 339, 340, 595, 650, 651, 652, 660, 661, 662, 663, 704, 705, 706, 1092, 1093, 1094, 1557, 1750, 1751, 1792, 2052, 2053, 3220, 3221, 3222, 3223, 3264, 3265, 3266, 3267, 3268, 3269, 3270, 3271, 3272, 3273, 3274, 3275, 3276, 3277, 3278, 3279, 3280, 3281, 3282, 3283, 3284, 3285, 3286, 3287, 3328, 3339, 3340, 3341, 3342, 3343, 3344, 4352, 4353, 4354, 4355, 4356, 4357, 4358, 4359, 4360, 4361, 4362, 4363, 4364, 4365, 4366, 4367, 4368, 4369, 4370, 4544, 4545, 4546, 4547, 4548, 4549, 4550, 4551, 4552, 4553, 4554, 4555, 4928, 4929, 4930]
def wsL_ringed : List Cond := cw 3339 :: (wI qaWk ++ (vx_atS RX10 409 "java/lang/IllegalArgumentException" ["java/lang/RuntimeException", "java/lang/Exception"]).filter goodWord)
theorem q49 : ∀ i ∈ qaWk, cw i ∈ wsL_ringed := fun i h => List.mem_cons_of_mem _ (List.mem_append_left _ (List.mem_map_of_mem h))
def qa0T : List Nat := [2, 20, 78, 79, 276, 322, 324, 644, 651, 657, 658, 659, 1742, 1743, 1744, 1809, 1810, 1811, 1930, 1931, 2052, 2053, 2639, 2690, 2691, 2692, 2711, 2752, 2753, 2754, 2755, 2757, 3351, 3392, 3393, 3394, 3395, 3396, 3397, 3398, 3399, 3400, 3401, 3402, 3403, 3404, 4352, 4353, 4354, 4355, 4356, 4357, 4358, 4359, 4360, 4361, 4362, 4363, 4364, 4365, 4366, 4367, 4368, 4369, 4370, 4544, 4545, 4546, 4547, 4548, 4549, 4550, 4551, 4552, 4553, 4554, 4555, 4800, 4801, 4802, 4803]
def wsL_bouts : List Cond := cw 3351 :: (wI qa0T ++ (qqx RX10 268 "java/util/NoSuchElementException" 13 qxA ["java/lang/RuntimeException", "java/lang/Exception"]).filter goodWord)
theorem qag1 : ∀ i ∈ qa0T, cw i ∈ wsL_bouts := fun i h => List.mem_cons_of_mem _ (List.mem_append_left _ (List.mem_map_of_mem h))
def qa4S : List Nat := [2, 69, 70, 78, 79, 136, 137, 257, 276, 322, 324, 390, 391, 392, 595, 653, 654, 655, 656, 657, 658, 659, 660, 661, 662, 663, 704, 705, 706, 1741, 1742, 1743, 1744, 1745, 1746, 1747, 1748, 1798, 1799, 1800, 1802, 1803, 1804, 1805, 1806, 1807, 3415, 3456, 3457, 3458, 3459, 3460, 3461, 3462, 3463, 3464, 3465, 3466, 3467, 3468, 3469, 3470, 3471, 3472, 3473, 3474, 3475, 3476, 3477, 3478, 3479, 3520, 3521, 3522, 3523, 3524, 3525, 3526, 3527, 3528, 3529, 3530, 3531, 3532, 3533, 4352, 4353, 4354, 4355, 4356, 4357, 4358, 4359, 4360, 4361, 4362, 4363, 4364, 4365, 4366, 4367, 4368, 4369, 4370, 4544, 4545, 4546, 4547, 4548, 4549, 4550, 4551, 4552, 4553, 4554, 4555, 4672, 4673, 4800, 4801, 4802, 4803, 5056, 5057, 5058, 5059, 5060, 5061, 5062, 5063, 5064, 5065, 5066]
def wsL_fits : List Cond := cw 3415 :: (wI qa4S ++ (vx_atS RX10 409 "java/lang/IllegalArgumentException" ["java/lang/RuntimeException", "java/lang/Exception"]).filter goodWord)
theorem qavf : ∀ i ∈ qa4S, cw i ∈ wsL_fits := fun i h => List.mem_cons_of_mem _ (List.mem_append_left _ (List.mem_map_of_mem h))
def qa3r : List Nat := [2, 69, 70, 78, 79, 136, 137, 257, 276, 322, 324, 390, 391, 392, 393, 595, 651, 653, 654, 655, 656, 657, 658, 659, 660, 661, 662, 663, 704, 705, 706, 1741, 1742, 1743, 1744, 1745, 1746, 1747, 1748, 1798, 1799, 1800, 1802, 1803, 1804, 1805, 1806, 1807, 1930, 1931, 2052, 2053, 2439, 2440, 2441, 3462, 3463, 3464, 3465, 3466, 3467, 3468, 3469, 3470, 3471, 3472, 3473, 3474, 3475, 3476, 3477, 3478, 3479, 3520, 3521, 3522, 3523, 3524, 3525, 3526, 3527, 3528, 3529, 3530, 3531, 3532, 3533, 3588, 3589, 3590, 3591, 3592, 3593, 3594, 3595, 3596, 3597, 3598, 3599, 3600, 3601, 3602, 3603, 3604, 3605, 3606, 3607, 3648, 3649, 3650, 4352, 4353, 4354, 4355, 4356, 4357, 4358, 4359, 4360, 4361, 4362, 4363, 4364, 4365, 4366, 4367, 4368, 4369, 4370, 4544, 4545, 4546, 4547, 4548, 4549, 4550, 4551, 4552, 4553, 4554, 4555, 4672, 4673, 4800, 4801, 4802, 4803, 5056, 5057, 5058, 5059, 5060, 5061, 5062, 5063, 5064, 5065, 5066]
def wsL_look : List Cond := cw 3588 :: (wI qa3r ++ (vx_atS RX10 409 "java/lang/IllegalArgumentException" ["java/lang/RuntimeException", "java/lang/Exception"]).filter goodWord)
theorem qau8 : ∀ i ∈ qa3r, cw i ∈ wsL_look := fun i h => List.mem_cons_of_mem _ (List.mem_append_left _ (List.mem_map_of_mem h))
def qa0z : List Nat := [2, 19, 20, 148, 149, 195, 595, 651, 653, 654, 655, 656, 657, 658, 659, 660, 661, 662, 663, 704, 705, 706, 720, 1092, 1093, 1094, 1750, 1751, 1792, 1802, 1803, 1804, 1805, 1806, 1807, 2052, 2053, 3021, 3022, 3023, 3024, 3025, 3661, 3662, 3663, 3664, 3665, 3666, 3667, 3668, 3669, 3670, 3671, 3712, 3713, 3714, 4352, 4353, 4354, 4355, 4356, 4357, 4358, 4359, 4360, 4361, 4362, 4363, 4364, 4365, 4366, 4367, 4368, 4369, 4370, 4544, 4545, 4546, 4547, 4548, 4549, 4550, 4551, 4552, 4553, 4554, 4555]
def wsL_watch : List Cond := cw 3661 :: (wI qa0z ++ (vx_atS RX10 409 "java/lang/IllegalArgumentException" ["java/lang/RuntimeException", "java/lang/Exception"]).filter goodWord)
theorem qafI : ∀ i ∈ qa0z, cw i ∈ wsL_watch := fun i h => List.mem_cons_of_mem _ (List.mem_append_left _ (List.mem_map_of_mem h))
def qbc9 : List Nat := [2, 595, 653, 654, 655, 656, 657, 658, 659, 660, 661, 662, 663, 704, 705, 706, 3721, 3722, 3723, 3724, 3725, 3726, 3727, 3728, 3729, 3730, 3731, 4352, 4353, 4354, 4355, 4356, 4357, 4358, 4359, 4360, 4361, 4362, 4363, 4364, 4365, 4366, 4367, 4368, 4369, 4370]
def wsL_few : List Cond := cw 3721 :: (wI qbc9 ++ (vx_atS RX10 409 "java/lang/IllegalArgumentException" ["java/lang/RuntimeException", "java/lang/Exception"]).filter goodWord)
theorem qaNt : ∀ i ∈ qbc9, cw i ∈ wsL_few := fun i h => List.mem_cons_of_mem _ (List.mem_append_left _ (List.mem_map_of_mem h))
def qa8k : List Nat := [2, 595, 653, 654, 655, 656, 657, 658, 659, 660, 661, 662, 663, 704, 705, 706, 3782, 3783, 3784, 3785, 3786, 3787, 3788, 3789, 4352, 4353, 4354, 4355, 4356, 4357, 4358, 4359, 4360, 4361, 4362, 4363, 4364, 4365, 4366, 4367, 4368, 4369, 4370]
def wsL_road : List Cond := cw 3782 :: (wI qa8k ++ (vx_atS RX10 409 "java/lang/IllegalArgumentException" ["java/lang/RuntimeException", "java/lang/Exception"]).filter goodWord)
theorem qau6 : ∀ i ∈ qa8k, cw i ∈ wsL_road := fun i h => List.mem_cons_of_mem _ (List.mem_append_left _ (List.mem_map_of_mem h))
def qaUW : List Nat := [2, 20, 78, 79, 276, 277, 322, 324, 595, 644, 650, 651, 652, 653, 654, 655, 656, 657, 658, 659, 660, 661, 662, 663, 704, 705, 706, 1860, 1861, 1862, 1863, 1864, 1865, 1866, 1867, 2052, 2053, 2639, 2690, 2691, 2692, 2711, 2752, 2753, 2754, 3400, 3799, 3840, 3841, 3842, 3843, 3844, 3845, 3846, 3847, 3848, 3849, 3850, 3851, 3852, 4352, 4353, 4354, 4355, 4356, 4357, 4358, 4359, 4360, 4361, 4362, 4363, 4364, 4365, 4366, 4367, 4368, 4369, 4370, 4544, 4545, 4546, 4547, 4548, 4549, 4550, 4551, 4552, 4553, 4554, 4555, 4800, 4801, 4802, 4803]
def wsL_clover : List Cond := cw 3799 :: (wI qaUW ++ (qqx RX10 268 "java/util/NoSuchElementException" 13 qxA ["java/lang/RuntimeException", "java/lang/Exception"]).filter goodWord ++ (vx_atS RX10 409 "java/lang/IllegalArgumentException" ["java/lang/RuntimeException", "java/lang/Exception"]).filter goodWord)
theorem qVq : ∀ i ∈ qaUW, cw i ∈ wsL_clover := fun i h => List.mem_cons_of_mem _ (List.mem_append_left _ (List.mem_append_left _ (List.mem_map_of_mem h)))
def qaov : List Nat := [2, 20, 78, 79, 276, 595, 644, 653, 654, 655, 656, 657, 658, 659, 660, 661, 662, 663, 704, 705, 706, 1742, 1743, 1744, 1809, 1810, 1811, 2755, 2757, 3863, 3904, 3905, 3906, 3907, 4352, 4353, 4354, 4355, 4356, 4357, 4358, 4359, 4360, 4361, 4362, 4363, 4364, 4365, 4366, 4367, 4368, 4369, 4370, 4544, 4545, 4546, 4547, 4548, 4549, 4550, 4551, 4552, 4553, 4554, 4555, 4800, 4801, 4802, 4803]
def wsL_strongest : List Cond := cw 3863 :: (wI qaov ++ (vx_atS RX10 409 "java/lang/IllegalArgumentException" ["java/lang/RuntimeException", "java/lang/Exception"]).filter goodWord)
theorem qOf : ∀ i ∈ qaov, cw i ∈ wsL_strongest := fun i h => List.mem_cons_of_mem _ (List.mem_append_left _ (List.mem_map_of_mem h))
def qbaO : List Nat := [2, 20, 78, 79, 276, 595, 644, 653, 654, 655, 656, 657, 658, 659, 660, 661, 662, 663, 704, 705, 706, 1861, 1862, 1863, 2639, 2690, 2691, 2692, 2711, 2752, 2753, 2754, 2831, 3914, 3915, 3916, 3917, 3918, 4352, 4353, 4354, 4355, 4356, 4357, 4358, 4359, 4360, 4361, 4362, 4363, 4364, 4365, 4366, 4367, 4368, 4369, 4370, 4544, 4545, 4546, 4547, 4548, 4549, 4550, 4551, 4552, 4553, 4554, 4555, 4800, 4801, 4802, 4803]
def wsL_ties : List Cond := cw 3914 :: (wI qbaO ++ (qqx RX10 268 "java/util/NoSuchElementException" 13 qxA ["java/lang/RuntimeException", "java/lang/Exception"]).filter goodWord ++ (vx_atS RX10 409 "java/lang/IllegalArgumentException" ["java/lang/RuntimeException", "java/lang/Exception"]).filter goodWord)
theorem qafW : ∀ i ∈ qbaO, cw i ∈ wsL_ties := fun i h => List.mem_cons_of_mem _ (List.mem_append_left _ (List.mem_append_left _ (List.mem_map_of_mem h)))
def qaUs : List Nat := [2, 19, 20, 148, 149, 595, 651, 653, 654, 655, 656, 657, 658, 659, 660, 661, 662, 663, 704, 705, 706, 1047, 1092, 1093, 1094, 1557, 1750, 1751, 1792, 2052, 2053, 2063, 2064, 2065, 2639, 2646, 2647, 2688, 2689, 2690, 2691, 2692, 2693, 2883, 3925, 3926, 3927, 3968, 3969, 4352, 4353, 4354, 4355, 4356, 4357, 4358, 4359, 4360, 4361, 4362, 4363, 4364, 4365, 4366, 4367, 4368, 4369, 4370, 4544, 4545, 4546, 4547, 4548, 4549, 4550, 4551, 4552, 4553, 4554, 4555]
def wsL_refuge : List Cond := cw 3925 :: (wI qaUs ++ (qqx RX10 268 "java/util/NoSuchElementException" 13 qxA ["java/lang/RuntimeException", "java/lang/Exception"]).filter goodWord ++ (vx_atS RX10 409 "java/lang/IllegalArgumentException" ["java/lang/RuntimeException", "java/lang/Exception"]).filter goodWord)
theorem qUZ : ∀ i ∈ qaUs, cw i ∈ wsL_refuge := fun i h => List.mem_cons_of_mem _ (List.mem_append_left _ (List.mem_append_left _ (List.mem_map_of_mem h)))
def qa0L : List Nat := [2, 19, 20, 64, 78, 79, 148, 149, 200, 201, 202, 203, 208, 276, 322, 323, 324, 644, 650, 651, 652, 657, 658, 659, 720, 1092, 1093, 1094, 1741, 1742, 1743, 1744, 1745, 1746, 1747, 1748, 1750, 1751, 1792, 1793, 1794, 1795, 1796, 1797, 1798, 1799, 1800, 1801, 1802, 1803, 1804, 1805, 1806, 1807, 1808, 1809, 1810, 1811, 1812, 1813, 1814, 1815, 1856, 1857, 1858, 1859, 1860, 1861, 1862, 1863, 1864, 1865, 1866, 1867, 1868, 1869, 1870, 1871, 1872, 1873, 1874, 1875, 1876, 1877, 1878, 1879, 1920, 1921, 1922, 1923, 1924, 1925, 1926, 1927, 1928, 1929, 1930, 1931, 1932, 1933, 1934, 2639, 2690, 2691, 2692, 2711, 2752, 2753, 2754, 3022, 3023, 3024, 3025, 3090, 3091, 3092, 3976, 3977, 3978, 3979, 3980, 3981, 4352, 4353, 4354, 4355, 4356, 4357, 4358, 4359, 4360, 4361, 4362, 4363, 4364, 4365, 4366, 4367, 4368, 4369, 4370, 4544, 4545, 4546, 4547, 4548, 4549, 4550, 4551, 4552, 4553, 4554, 4555, 4608, 4609, 4610, 4611, 4612, 4800, 4801, 4802, 4803]
def wsL_range : List Cond := cw 3976 :: (wI qa0L ++ (qqx RX10 268 "java/util/NoSuchElementException" 13 qxA ["java/lang/RuntimeException", "java/lang/Exception"]).filter goodWord)
theorem qafv : ∀ i ∈ qa0L, cw i ∈ wsL_range := fun i h => List.mem_cons_of_mem _ (List.mem_append_left _ (List.mem_map_of_mem h))
def qa0J : List Nat := [2, 19, 64, 78, 79, 80, 148, 149, 200, 201, 202, 203, 208, 276, 322, 323, 324, 326, 328, 329, 330, 331, 595, 650, 651, 652, 653, 654, 655, 656, 657, 658, 659, 660, 661, 662, 663, 704, 705, 706, 1047, 1092, 1093, 1094, 1738, 1739, 1740, 1741, 1742, 1743, 1744, 1745, 1746, 1747, 1748, 1749, 1750, 1751, 1792, 1793, 1794, 1795, 1796, 1797, 1798, 1799, 1800, 1801, 1802, 1803, 1804, 1805, 1806, 1807, 1808, 1809, 1810, 1811, 1812, 1813, 1814, 1815, 1856, 1857, 1858, 1859, 1860, 1861, 1862, 1863, 1864, 1865, 1866, 1867, 1868, 1869, 1870, 1871, 1872, 1873, 1874, 1875, 1876, 1877, 1878, 1879, 1920, 1921, 1922, 1923, 1924, 1925, 1926, 1927, 1928, 1929, 1930, 1931, 1932, 1933, 1934, 1936, 1937, 1938, 1992, 1993, 1994, 1995, 1996, 1997, 1998, 2000, 2001, 2002, 2003, 2049, 2050, 2051, 2052, 2053, 2054, 2055, 2056, 2057, 2058, 2059, 2060, 2061, 2062, 2063, 2064, 2065, 2066, 2067, 2068, 2069, 2518, 2560, 2561, 2562, 2563, 2961, 2962, 2963, 2964, 4032, 4033, 4034, 4035, 4036, 4037, 4038, 4039, 4040, 4041, 4042, 4043, 4044, 4045, 4046, 4047, 4048, 4049, 4050, 4051, 4052, 4053, 4054, 4055, 4096, 4097, 4098, 4099, 4100, 4101, 4102, 4103, 4104, 4105, 4352, 4353, 4354, 4355, 4356, 4357, 4358, 4359, 4360, 4361, 4362, 4363, 4364, 4365, 4366, 4367, 4368, 4369, 4370, 4544, 4545, 4546, 4547, 4548, 4549, 4550, 4551, 4552, 4553, 4554, 4555, 4608, 4609, 4610, 4611, 4612, 4800, 4801, 4802, 4803]
def wsL_march : List Cond := cw 4032 :: (wI qa0J ++ (vx_atS RX10 409 "java/lang/IllegalArgumentException" ["java/lang/RuntimeException", "java/lang/Exception"]).filter goodWord)
theorem qafg : ∀ i ∈ qa0J, cw i ∈ wsL_march := fun i h => List.mem_cons_of_mem _ (List.mem_append_left _ (List.mem_map_of_mem h))
def qa29 : List Nat := [2, 19, 20, 64, 78, 79, 80, 148, 149, 200, 201, 202, 203, 208, 276, 322, 323, 324, 326, 328, 329, 330, 331, 595, 644, 649, 650, 651, 652, 653, 654, 655, 656, 657, 658, 659, 660, 661, 662, 663, 704, 705, 706, 1047, 1092, 1093, 1094, 1738, 1739, 1740, 1741, 1742, 1743, 1744, 1745, 1746, 1747, 1748, 1749, 1750, 1751, 1792, 1793, 1794, 1795, 1796, 1797, 1798, 1799, 1800, 1801, 1802, 1803, 1804, 1805, 1806, 1807, 1808, 1809, 1810, 1811, 1812, 1813, 1814, 1815, 1856, 1857, 1858, 1859, 1860, 1861, 1862, 1863, 1864, 1865, 1866, 1867, 1868, 1869, 1870, 1871, 1872, 1873, 1874, 1875, 1876, 1877, 1878, 1879, 1920, 1921, 1922, 1923, 1924, 1925, 1926, 1927, 1928, 1929, 1930, 1931, 1932, 1933, 1934, 1936, 1937, 1938, 1992, 1993, 1994, 1995, 1996, 1997, 1998, 2000, 2001, 2002, 2003, 2049, 2050, 2051, 2052, 2053, 2054, 2055, 2056, 2057, 2058, 2059, 2060, 2061, 2062, 2063, 2064, 2065, 2066, 2067, 2068, 2069, 2755, 2961, 2962, 2963, 2964, 3404, 4037, 4038, 4039, 4040, 4041, 4042, 4043, 4044, 4045, 4046, 4047, 4048, 4049, 4050, 4051, 4052, 4053, 4054, 4055, 4096, 4097, 4098, 4099, 4100, 4101, 4167, 4168, 4169, 4170, 4171, 4172, 4352, 4353, 4354, 4355, 4356, 4357, 4358, 4359, 4360, 4361, 4362, 4363, 4364, 4365, 4366, 4367, 4368, 4369, 4370, 4544, 4545, 4546, 4547, 4548, 4549, 4550, 4551, 4552, 4553, 4554, 4555, 4608, 4609, 4610, 4611, 4612, 4800, 4801, 4802, 4803]
def wsL_span : List Cond := cw 4167 :: (wI qa29 ++ (vx_atS RX10 409 "java/lang/IllegalArgumentException" ["java/lang/RuntimeException", "java/lang/Exception"]).filter goodWord)
theorem qavc : ∀ i ∈ qa29, cw i ∈ wsL_span := fun i h => List.mem_cons_of_mem _ (List.mem_append_left _ (List.mem_map_of_mem h))
abbrev vwCl : List vw_C := [(RX0, TX0, 2), (RX1, TX1, 4), (RX2, TX2, 12), (RX3, TX3, 11), (RX4, TX4, 5), (RX5, TX5, 2), (RX6, TX6, 3), (RX7, TX7, 4), (RX8, TX8, 7), (RX9, TX9, 12), (RX10, TX10, 19), (RX11, TX11, 55)]
