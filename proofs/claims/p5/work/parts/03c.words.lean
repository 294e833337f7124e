def qav9 : List Nat := [257, 261, 262, 4672, 4673]
def wsX0_clear : List Cond := cw 261 :: wI qav9
theorem qaiQ : ∀ i ∈ qav9, cw i ∈ wsX0_clear := fun i h => List.mem_cons_of_mem _ (List.mem_map_of_mem h)
theorem qajd : okM 261 qav9 = true := qaq (by decide +kernel)
def qaQg : List Nat := [11, 12, 69, 147, 215, 256, 257, 258, 259, 260, 261, 262, 4672, 4673]
def wsX0_init : List Cond := cw 215 :: wI qaQg
theorem qLA : ∀ i ∈ qaQg, cw i ∈ wsX0_init := fun i h => List.mem_cons_of_mem _ (List.mem_map_of_mem h)
theorem qa9T : okM 215 qaQg = true := qaq (by decide +kernel)
def q4H : List Nat := [715, 726, 4480, 4481, 4482, 4483, 4484, 4485, 4486]
def wsX8_isFaulty : List Cond := cw 726 :: wI q4H
theorem qaho : ∀ i ∈ q4H, cw i ∈ wsX8_isFaulty := fun i h => List.mem_cons_of_mem _ (List.mem_map_of_mem h)
theorem qoQ : okM 726 q4H = true := qaq (by decide +kernel)
def qUB : List Nat := [142, 712, 713, 774, 4480, 4481, 4482, 4483, 4484, 4485, 4486]
def wsX8_skipBlanks : List Cond := cw 774 :: wI qUB
theorem qIp : ∀ i ∈ qUB, cw i ∈ wsX8_skipBlanks := fun i h => List.mem_cons_of_mem _ (List.mem_map_of_mem h)
theorem qyt : okM 774 qUB = true := qaq (by decide +kernel)
def qaaT : List Nat := [15, 142, 712, 713, 770, 771, 772, 773, 774, 4480, 4481, 4482, 4483, 4484, 4485, 4486]
def wsX8_isEnded : List Cond := cw 770 :: wI qaaT
theorem qLJ : ∀ i ∈ qaaT, cw i ∈ wsX8_isEnded := fun i h => List.mem_cons_of_mem _ (List.mem_map_of_mem h)
theorem qR9 : okM 770 qaaT = true := qaq (by decide +kernel)
def qabd : List Nat := [142, 712, 977, 4480, 4481, 4482, 4483, 4484, 4485, 4486]
def wsX8_digitAt : List Cond := cw 977 :: wI qabd
theorem q2Y : ∀ i ∈ qabd, cw i ∈ wsX8_digitAt := fun i h => List.mem_cons_of_mem _ (List.mem_map_of_mem h)
theorem qaog : okM 977 qabd = true := qaq (by decide +kernel)
def qayR : List Nat := [143, 715, 968, 4480, 4481, 4482, 4483, 4484, 4485, 4486]
def wsX8_blame : List Cond := cw 968 :: wI qayR
theorem qain : ∀ i ∈ qayR, cw i ∈ wsX8_blame := fun i h => List.mem_cons_of_mem _ (List.mem_map_of_mem h)
theorem qam2 : okM 968 qayR = true := qaq (by decide +kernel)
def qawA : List Nat := [659]
def wsX10_within : List Cond := cw 659 :: wI qawA
theorem qCa : okM 659 qawA = true := qaq (by decide +kernel)
def qalu : List Nat := [2, 15, 142, 143, 650, 651, 652, 658, 659, 711, 712, 713, 714, 715, 724, 725, 726, 771, 772, 773, 774, 835, 965, 966, 967, 968, 972, 973, 974, 975, 976, 977, 4480, 4481, 4482, 4483, 4484, 4485, 4486]
def wsX8_number : List Cond := cw 972 :: wI qalu
theorem qnc : ∀ i ∈ qalu, cw i ∈ wsX8_number := fun i h => List.mem_cons_of_mem _ (List.mem_map_of_mem h)
theorem qBt : okM 972 qalu = true := qaq (by decide +kernel)
def qaAP : List Nat := [257, 2445, 4672, 4673]
def wsX0_tells : List Cond := cw 2445 :: wI qaAP
theorem qaLB : ∀ i ∈ qaAP, cw i ∈ wsX0_tells := fun i h => List.mem_cons_of_mem _ (List.mem_map_of_mem h)
theorem qaMo : okM 2445 qaAP = true := qaq (by decide +kernel)
def qTG : List Nat := [15, 143, 714, 715, 964, 965, 966, 967, 968, 4480, 4481, 4482, 4483, 4484, 4485, 4486]
def wsX8_blameToken : List Cond := cw 964 :: wI qTG
theorem qIC : ∀ i ∈ qTG, cw i ∈ wsX8_blameToken := fun i h => List.mem_cons_of_mem _ (List.mem_map_of_mem h)
theorem qud : okM 964 qTG = true := qaq (by decide +kernel)
def qaEt : List Nat := [15, 142, 712, 713, 714, 715, 724, 725, 726, 771, 772, 773, 774, 835, 1025, 4480, 4481, 4482, 4483, 4484, 4485, 4486]
def wsX8_takes : List Cond := cw 1025 :: wI qaEt
theorem qCv : ∀ i ∈ qaEt, cw i ∈ wsX8_takes := fun i h => List.mem_cons_of_mem _ (List.mem_map_of_mem h)
theorem qU6 : okM 1025 qaEt = true := qaq (by decide +kernel)
def qYh : List Nat := [15, 142, 143, 712, 713, 715, 771, 772, 773, 774, 965, 966, 967, 968, 1029, 4480, 4481, 4482, 4483, 4484, 4485, 4486]
def wsX8_blameSign : List Cond := cw 1029 :: wI qYh
theorem qAv : ∀ i ∈ qYh, cw i ∈ wsX8_blameSign := fun i h => List.mem_cons_of_mem _ (List.mem_map_of_mem h)
theorem qEh : okM 1029 qYh = true := qaq (by decide +kernel)
def qazO : List Nat := [15, 142, 143, 712, 713, 714, 715, 724, 725, 726, 771, 772, 773, 774, 835, 965, 966, 967, 968, 981, 982, 983, 1024, 1025, 1026, 1027, 1028, 1029, 4480, 4481, 4482, 4483, 4484, 4485, 4486]
def wsX8_needs : List Cond := cw 981 :: wI qazO
theorem q5s : ∀ i ∈ qazO, cw i ∈ wsX8_needs := fun i h => List.mem_cons_of_mem _ (List.mem_map_of_mem h)
theorem qAy : okM 981 qazO = true := qaq (by decide +kernel)
def q3P : List Nat := [2, 15, 69, 142, 143, 257, 262, 650, 651, 652, 658, 659, 711, 712, 713, 714, 715, 724, 725, 726, 771, 772, 773, 774, 835, 962, 963, 964, 965, 966, 967, 968, 970, 971, 972, 973, 974, 975, 976, 977, 979, 980, 981, 982, 983, 1024, 1025, 1026, 1027, 1028, 1029, 2435, 2440, 2441, 2442, 2443, 2444, 2445, 2446, 2447, 4480, 4481, 4482, 4483, 4484, 4485, 4486, 4672, 4673]
def wsX0_readLine : List Cond := cw 2440 :: wI q3P
theorem qmp : ∀ i ∈ q3P, cw i ∈ wsX0_readLine := fun i h => List.mem_cons_of_mem _ (List.mem_map_of_mem h)
theorem qaQi : okM 2440 q3P = true := qaq (by decide +kernel)
def q25 : List Nat := [2, 15, 69, 142, 143, 257, 258, 259, 260, 261, 262, 650, 651, 652, 658, 659, 711, 712, 713, 714, 715, 724, 725, 726, 768, 769, 770, 771, 772, 773, 774, 835, 962, 963, 964, 965, 966, 967, 968, 970, 971, 972, 973, 974, 975, 976, 977, 979, 980, 981, 982, 983, 1024, 1025, 1026, 1027, 1028, 1029, 2434, 2435, 2436, 2437, 2438, 2439, 2440, 2441, 2442, 2443, 2444, 2445, 2446, 2447, 4480, 4481, 4482, 4483, 4484, 4485, 4486, 4672, 4673]
def wsX0_readFrom : List Cond := cw 2434 :: wI q25
theorem qw9 : ∀ i ∈ q25, cw i ∈ wsX0_readFrom := fun i h => List.mem_cons_of_mem _ (List.mem_map_of_mem h)
theorem qaOr : okM 2434 q25 = true := qaq (by decide +kernel)
def qakF : List Nat := [257, 3537, 4672, 4673]
def wsX0_agrees : List Cond := cw 3537 :: wI qakF
theorem qaAK : ∀ i ∈ qakF, cw i ∈ wsX0_agrees := fun i h => List.mem_cons_of_mem _ (List.mem_map_of_mem h)
theorem qaXI : okM 3537 qakF = true := qaq (by decide +kernel)
def qazX : List Nat := [276, 321, 322, 323, 324, 325, 326, 327, 328, 329, 330, 331, 4544, 4545, 4546, 4547, 4548, 4549, 4550, 4551, 4552, 4553, 4554, 4555, 4800, 4801, 4802, 4803]
def wsX1_begin : List Cond := cw 321 :: wI qazX
theorem qvx : ∀ i ∈ qazX, cw i ∈ wsX1_begin := fun i h => List.mem_cons_of_mem _ (List.mem_map_of_mem h)
theorem qaLD : okM 321 qazX = true := qaq (by decide +kernel)
def qaNU : List Nat := [11, 12, 78, 147, 274, 275, 276, 277, 278, 279, 320, 321, 322, 323, 324, 325, 326, 327, 328, 329, 330, 331, 4544, 4545, 4546, 4547, 4548, 4549, 4550, 4551, 4552, 4553, 4554, 4555, 4800, 4801, 4802, 4803]
def wsX1_init : List Cond := cw 274 :: wI qaNU
theorem qHi : ∀ i ∈ qaNU, cw i ∈ wsX1_init := fun i h => List.mem_cons_of_mem _ (List.mem_map_of_mem h)
theorem qa5c : okM 274 qaNU = true := qaq (by decide +kernel)
def qaRi : List Nat := [323, 1476, 4800, 4801, 4802, 4803]
def wsX1_obey : List Cond := cw 1476 :: wI qaRi
theorem qaUz : ∀ i ∈ qaRi, cw i ∈ wsX1_obey := fun i h => List.mem_cons_of_mem _ (List.mem_map_of_mem h)
theorem qa3a : okM 1476 qaRi = true := qaq (by decide +kernel)
def q0R : List Nat := [276, 322, 323, 328, 329, 330, 331, 3008, 4800, 4801, 4802, 4803]
def wsX1_copyFrom : List Cond := cw 3008 :: wI q0R
theorem qxc : ∀ i ∈ q0R, cw i ∈ wsX1_copyFrom := fun i h => List.mem_cons_of_mem _ (List.mem_map_of_mem h)
theorem qWm : okM 3008 q0R = true := qaq (by decide +kernel)
def qaXg : List Nat := [276, 1875, 4800, 4801, 4802, 4803]
def wsX1_day : List Cond := cw 1875 :: wI qaXg
theorem qa0V : ∀ i ∈ qaXg, cw i ∈ wsX1_day := fun i h => List.mem_cons_of_mem _ (List.mem_map_of_mem h)
theorem qauZ : okM 1875 qaXg = true := qaq (by decide +kernel)
def qaP6 : List Nat := [276, 1986, 4800, 4801, 4802, 4803]
def wsX1_year : List Cond := cw 1986 :: wI qaP6
theorem qaUe : ∀ i ∈ qaP6, cw i ∈ wsX1_year := fun i h => List.mem_cons_of_mem _ (List.mem_map_of_mem h)
theorem qaUu : okM 1986 qaP6 = true := qaq (by decide +kernel)
def qS4 : List Nat := [276, 2567, 4800, 4801, 4802, 4803]
def wsX1_caughtOnes : List Cond := cw 2567 :: wI qS4
theorem q2S : ∀ i ∈ qS4, cw i ∈ wsX1_caughtOnes := fun i h => List.mem_cons_of_mem _ (List.mem_map_of_mem h)
theorem qOV : okM 2567 qS4 = true := qaq (by decide +kernel)
def qYE : List Nat := [276, 2571, 4800, 4801, 4802, 4803]
def wsX1_leaptOnes : List Cond := cw 2571 :: wI qYE
theorem q8a : ∀ i ∈ qYE, cw i ∈ wsX1_leaptOnes := fun i h => List.mem_cons_of_mem _ (List.mem_map_of_mem h)
theorem qaJl : okM 2571 qYE = true := qaq (by decide +kernel)
def q2N : List Nat := [276, 322, 324, 3403, 4544, 4545, 4546, 4547, 4548, 4549, 4550, 4551, 4552, 4553, 4554, 4555, 4800, 4801, 4802, 4803]
def wsX1_freeOnes : List Cond := cw 3403 :: wI q2N
theorem qHY : ∀ i ∈ q2N, cw i ∈ wsX1_freeOnes := fun i h => List.mem_cons_of_mem _ (List.mem_map_of_mem h)
theorem qaRj : okM 3403 q2N = true := qaq (by decide +kernel)
def q2j : List Nat := [276, 1744, 4800, 4801, 4802, 4803]
def wsX1_isCaught : List Cond := cw 1744 :: wI q2j
theorem qadM : ∀ i ∈ q2j, cw i ∈ wsX1_isCaught := fun i h => List.mem_cons_of_mem _ (List.mem_map_of_mem h)
theorem qoT : okM 1744 q2j = true := qaq (by decide +kernel)
def qaNL : List Nat := [276, 1748, 4800, 4801, 4802, 4803]
def wsX1_sits : List Cond := cw 1748 :: wI qaNL
theorem qaT7 : ∀ i ∈ qaNL, cw i ∈ wsX1_sits := fun i h => List.mem_cons_of_mem _ (List.mem_map_of_mem h)
theorem qEg : okM 1748 qaNL = true := qaq (by decide +kernel)
def qajM : List Nat := [276, 1811, 4800, 4801, 4802, 4803]
def wsX1_strong : List Cond := cw 1811 :: wI qajM
theorem qavI : ∀ i ∈ qajM, cw i ∈ wsX1_strong := fun i h => List.mem_cons_of_mem _ (List.mem_map_of_mem h)
theorem qFg : okM 1811 qajM = true := qaq (by decide +kernel)
def qaxr : List Nat := [276, 1815, 4800, 4801, 4802, 4803]
def wsX1_still : List Cond := cw 1815 :: wI qaxr
theorem qaLy : ∀ i ∈ qaxr, cw i ∈ wsX1_still := fun i h => List.mem_cons_of_mem _ (List.mem_map_of_mem h)
theorem qajy : okM 1815 qaxr = true := qaq (by decide +kernel)
def qavN : List Nat := [276, 1879, 4800, 4801, 4802, 4803]
def wsX1_leaps : List Cond := cw 1879 :: wI qavN
theorem qaLl : ∀ i ∈ qavN, cw i ∈ wsX1_leaps := fun i h => List.mem_cons_of_mem _ (List.mem_map_of_mem h)
theorem qaMj : okM 1879 qavN = true := qaq (by decide +kernel)
def qalr : List Nat := [276, 1863, 4800, 4801, 4802, 4803]
def wsX1_owesTo : List Cond := cw 1863 :: wI qalr
theorem qaxL : ∀ i ∈ qalr, cw i ∈ wsX1_owesTo := fun i h => List.mem_cons_of_mem _ (List.mem_map_of_mem h)
theorem qQy : okM 1863 qalr = true := qaq (by decide +kernel)
def qaN0 : List Nat := [78, 276, 322, 324, 1859, 1860, 1861, 1862, 1863, 4544, 4545, 4546, 4547, 4548, 4549, 4550, 4551, 4552, 4553, 4554, 4555, 4800, 4801, 4802, 4803]
def wsX1_owes : List Cond := cw 1859 :: wI qaN0
theorem qU5 : ∀ i ∈ qaN0, cw i ∈ wsX1_owes := fun i h => List.mem_cons_of_mem _ (List.mem_map_of_mem h)
theorem qavY : okM 1859 qaN0 = true := qaq (by decide +kernel)
def qaMZ : List Nat := [78, 276, 322, 324, 1860, 1861, 1862, 1863, 1867, 4544, 4545, 4546, 4547, 4548, 4549, 4550, 4551, 4552, 4553, 4554, 4555, 4800, 4801, 4802, 4803]
def wsX1_owed : List Cond := cw 1867 :: wI qaMZ
theorem qVV : ∀ i ∈ qaMZ, cw i ∈ wsX1_owed := fun i h => List.mem_cons_of_mem _ (List.mem_map_of_mem h)
theorem qaA4 : okM 1867 qaMZ = true := qaq (by decide +kernel)
def q1b : List Nat := [78, 276, 322, 324, 1856, 1857, 1858, 1859, 1860, 1861, 1862, 1863, 2575, 4544, 4545, 4546, 4547, 4548, 4549, 4550, 4551, 4552, 4553, 4554, 4555, 4800, 4801, 4802, 4803]
def wsX1_allDebts : List Cond := cw 2575 :: wI q1b
theorem qC9 : ∀ i ∈ q1b, cw i ∈ wsX1_allDebts := fun i h => List.mem_cons_of_mem _ (List.mem_map_of_mem h)
theorem qah1 : okM 2575 q1b = true := qaq (by decide +kernel)
def q2m : List Nat := [78, 276, 322, 324, 1741, 1742, 1743, 1744, 1745, 1746, 1747, 1748, 1800, 4544, 4545, 4546, 4547, 4548, 4549, 4550, 4551, 4552, 4553, 4554, 4555, 4800, 4801, 4802, 4803]
def wsX1_seatedIn : List Cond := cw 1800 :: wI q2m
theorem qwJ : ∀ i ∈ q2m, cw i ∈ wsX1_seatedIn := fun i h => List.mem_cons_of_mem _ (List.mem_map_of_mem h)
theorem qWG : okM 1800 q2m = true := qaq (by decide +kernel)
def qH3 : List Nat := [78, 276, 322, 324, 1741, 1742, 1743, 1744, 1808, 1809, 1810, 1811, 4105, 4544, 4545, 4546, 4547, 4548, 4549, 4550, 4551, 4552, 4553, 4554, 4555, 4800, 4801, 4802, 4803]
def wsX1_strongTogether : List Cond := cw 4105 :: wI qH3
theorem qpm : ∀ i ∈ qH3, cw i ∈ wsX1_strongTogether := fun i h => List.mem_cons_of_mem _ (List.mem_map_of_mem h)
theorem qab8 : okM 4105 qH3 = true := qaq (by decide +kernel)
def qI8 : List Nat := [1804, 1805, 1806, 1807]
def wsJ6_bitCount_0f7a4 : List Cond := cw 1804 :: wI qI8
theorem qFG : ∀ i ∈ qI8, cw i ∈ wsJ6_bitCount_0f7a4 := fun i h => List.mem_cons_of_mem _ (List.mem_map_of_mem h)
theorem qFl : okM 1804 qI8 = true := qaq (by decide +kernel)
def q0S : List Nat := [203, 1871, 4608, 4609, 4610, 4611, 4612]
def wsX4_setFacts : List Cond := cw 1871 :: wI q0S
theorem qaeZ : ∀ i ∈ q0S, cw i ∈ wsX4_setFacts := fun i h => List.mem_cons_of_mem _ (List.mem_map_of_mem h)
theorem qaeE : okM 1871 q0S = true := qaq (by decide +kernel)
def q2B : List Nat := [203, 1923, 4608, 4609, 4610, 4611, 4612]
def wsX4_setTimes : List Cond := cw 1923 :: wI q2B
theorem qafD : ∀ i ∈ q2B, cw i ∈ wsX4_setTimes := fun i h => List.mem_cons_of_mem _ (List.mem_map_of_mem h)
theorem qad2 : okM 1923 q2B = true := qaq (by decide +kernel)
def qaLE : List Nat := [1934]
def wsX4_joined : List Cond := cw 1934 :: wI qaLE
theorem qaZn : okM 1934 qaLE = true := qaq (by decide +kernel)
def qaAm : List Nat := [64, 200, 201, 202, 203, 208, 650, 651, 652, 1927, 1928, 1929, 1930, 1931, 1932, 1933, 1934, 4608, 4609, 4610, 4611, 4612]
def wsX4_reach : List Cond := cw 1927 :: wI qaAm
theorem qsX : ∀ i ∈ qaAm, cw i ∈ wsX4_reach := fun i h => List.mem_cons_of_mem _ (List.mem_map_of_mem h)
theorem qaLi : okM 1927 qaAm = true := qaq (by decide +kernel)
def qawI : List Nat := [64, 78, 200, 201, 202, 203, 208, 276, 322, 323, 324, 650, 651, 652, 1741, 1742, 1743, 1744, 1745, 1746, 1747, 1748, 1796, 1797, 1798, 1799, 1800, 1801, 1802, 1803, 1804, 1805, 1806, 1807, 1808, 1809, 1810, 1811, 1812, 1813, 1814, 1815, 1856, 1857, 1858, 1859, 1860, 1861, 1862, 1863, 1864, 1865, 1866, 1867, 1868, 1869, 1870, 1871, 1872, 1873, 1874, 1875, 1876, 1877, 1878, 1879, 1920, 1921, 1922, 1923, 1924, 1925, 1926, 1927, 1928, 1929, 1930, 1931, 1932, 1933, 1934, 4544, 4545, 4546, 4547, 4548, 4549, 4550, 4551, 4552, 4553, 4554, 4555, 4608, 4609, 4610, 4611, 4612, 4800, 4801, 4802, 4803]
def wsX1_reach : List Cond := cw 1796 :: wI qawI
theorem qiw : ∀ i ∈ qawI, cw i ∈ wsX1_reach := fun i h => List.mem_cons_of_mem _ (List.mem_map_of_mem h)
theorem q5i : okM 1796 qawI = true := qaq (by decide +kernel)
def qawJ : List Nat := [148, 149, 651, 1092, 1093, 1094, 1792, 4544, 4545, 4546, 4547, 4548, 4549, 4550, 4551, 4552, 4553, 4554, 4555]
def wsX2_apart : List Cond := cw 1792 :: wI qawJ
theorem qJ4 : ∀ i ∈ qawJ, cw i ∈ wsX2_apart := fun i h => List.mem_cons_of_mem _ (List.mem_map_of_mem h)
theorem qOt : okM 1792 qawJ = true := qaq (by decide +kernel)
def qXh : List Nat := [19, 64, 78, 148, 149, 200, 201, 202, 203, 208, 276, 322, 323, 324, 650, 651, 652, 1092, 1093, 1094, 1740, 1741, 1742, 1743, 1744, 1745, 1746, 1747, 1748, 1749, 1750, 1751, 1792, 1793, 1794, 1795, 1796, 1797, 1798, 1799, 1800, 1801, 1802, 1803, 1804, 1805, 1806, 1807, 1808, 1809, 1810, 1811, 1812, 1813, 1814, 1815, 1856, 1857, 1858, 1859, 1860, 1861, 1862, 1863, 1864, 1865, 1866, 1867, 1868, 1869, 1870, 1871, 1872, 1873, 1874, 1875, 1876, 1877, 1878, 1879, 1920, 1921, 1922, 1923, 1924, 1925, 1926, 1927, 1928, 1929, 1930, 1931, 1932, 1933, 1934, 4544, 4545, 4546, 4547, 4548, 4549, 4550, 4551, 4552, 4553, 4554, 4555, 4608, 4609, 4610, 4611, 4612, 4800, 4801, 4802, 4803]
def wsX1_couldLeap : List Cond := cw 1740 :: wI qXh
theorem qrQ : ∀ i ∈ qXh, cw i ∈ wsX1_couldLeap := fun i h => List.mem_cons_of_mem _ (List.mem_map_of_mem h)
theorem qTv : okM 1740 qXh = true := qaq (by decide +kernel)
def qRk : List Nat := [19, 148, 149, 651, 720, 1092, 1093, 1094, 1750, 1751, 1792, 3028, 3029, 4544, 4545, 4546, 4547, 4548, 4549, 4550, 4551, 4552, 4553, 4554, 4555]
def wsX2_formsWithin : List Cond := cw 3028 :: wI qRk
theorem qE5 : ∀ i ∈ qRk, cw i ∈ wsX2_formsWithin := fun i h => List.mem_cons_of_mem _ (List.mem_map_of_mem h)
theorem qMG : okM 3028 qRk = true := qaq (by decide +kernel)
def q4f : List Nat := [19, 64, 78, 148, 149, 200, 201, 202, 203, 208, 276, 322, 323, 324, 650, 651, 652, 720, 1092, 1093, 1094, 1741, 1742, 1743, 1744, 1745, 1746, 1747, 1748, 1750, 1751, 1792, 1793, 1794, 1795, 1796, 1797, 1798, 1799, 1800, 1801, 1802, 1803, 1804, 1805, 1806, 1807, 1808, 1809, 1810, 1811, 1812, 1813, 1814, 1815, 1856, 1857, 1858, 1859, 1860, 1861, 1862, 1863, 1864, 1865, 1866, 1867, 1868, 1869, 1870, 1871, 1872, 1873, 1874, 1875, 1876, 1877, 1878, 1879, 1920, 1921, 1922, 1923, 1924, 1925, 1926, 1927, 1928, 1929, 1930, 1931, 1932, 1933, 1934, 3026, 3027, 3028, 3029, 3136, 4544, 4545, 4546, 4547, 4548, 4549, 4550, 4551, 4552, 4553, 4554, 4555, 4608, 4609, 4610, 4611, 4612, 4800, 4801, 4802, 4803]
def wsX1_leapable : List Cond := cw 3136 :: wI q4f
theorem qqO : ∀ i ∈ q4f, cw i ∈ wsX1_leapable := fun i h => List.mem_cons_of_mem _ (List.mem_map_of_mem h)
theorem qaf1 : okM 3136 q4f = true := qaq (by decide +kernel)
def qaOq : List Nat := [276, 1998, 4800, 4801, 4802, 4803]
def wsX1_stir : List Cond := cw 1998 :: wI qaOq
theorem qaTh : ∀ i ∈ qaOq, cw i ∈ wsX1_stir := fun i h => List.mem_cons_of_mem _ (List.mem_map_of_mem h)
theorem qaTK : okM 1998 qaOq = true := qaq (by decide +kernel)
def qakv : List Nat := [78, 276, 1994, 1995, 1996, 1997, 1998, 4800, 4801, 4802, 4803]
def wsX1_leapTo : List Cond := cw 1994 :: wI qakv
theorem qXH : ∀ i ∈ qakv, cw i ∈ wsX1_leapTo := fun i h => List.mem_cons_of_mem _ (List.mem_map_of_mem h)
theorem qaEe : okM 1994 qakv = true := qaq (by decide +kernel)
def qUr : List Nat := [78, 276, 1741, 1742, 1743, 1744, 1745, 1746, 1747, 1748, 1938, 4800, 4801, 4802, 4803]
def wsX1_couldFight : List Cond := cw 1938 :: wI qUr
theorem qI6 : ∀ i ∈ qUr, cw i ∈ wsX1_couldFight := fun i h => List.mem_cons_of_mem _ (List.mem_map_of_mem h)
theorem q4c : okM 1938 qUr = true := qaq (by decide +kernel)
def qaBG : List Nat := [78, 276, 651, 1808, 1809, 1810, 1811, 1930, 1931, 1995, 1996, 1997, 1998, 2002, 2003, 4800, 4801, 4802, 4803]
def wsX1_fight : List Cond := cw 2002 :: wI qaBG
theorem qAF : ∀ i ∈ qaBG, cw i ∈ wsX1_fight := fun i h => List.mem_cons_of_mem _ (List.mem_map_of_mem h)
theorem qaMk : okM 2002 qaBG = true := qaq (by decide +kernel)
def q24 : List Nat := [78, 276, 1741, 1742, 1743, 1744, 1860, 1861, 1862, 1863, 1942, 4800, 4801, 4802, 4803]
def wsX1_couldPay : List Cond := cw 1942 :: wI q24
theorem qNV : ∀ i ∈ q24, cw i ∈ wsX1_couldPay := fun i h => List.mem_cons_of_mem _ (List.mem_map_of_mem h)
theorem qaPJ : okM 1942 q24 = true := qaq (by decide +kernel)
def qaaw : List Nat := [276, 2007, 4800, 4801, 4802, 4803]
def wsX1_payBack : List Cond := cw 2007 :: wI qaaw
theorem qaoD : ∀ i ∈ qaaw, cw i ∈ wsX1_payBack := fun i h => List.mem_cons_of_mem _ (List.mem_map_of_mem h)
theorem qaWl : okM 2007 qaaw = true := qaq (by decide +kernel)
def qaLS : List Nat := [2053]
def wsX10_holds : List Cond := cw 2053 :: wI qaLS
theorem qq1 : okM 2053 qaLS = true := qaq (by decide +kernel)
def qali : List Nat := [2, 1047, 2052, 2053, 2065, 4544, 4545, 4546, 4547, 4548, 4549, 4550, 4551, 4552, 4553, 4554, 4555]
def wsX2_isSafe : List Cond := cw 2065 :: wI qali
theorem qPl : ∀ i ∈ qali, cw i ∈ wsX2_isSafe := fun i h => List.mem_cons_of_mem _ (List.mem_map_of_mem h)
theorem q9P : okM 2065 qali = true := qaq (by decide +kernel)
def qS1 : List Nat := [2, 19, 78, 276, 322, 324, 1047, 1741, 1742, 1743, 1744, 1745, 1746, 1747, 1748, 1812, 1813, 1814, 1815, 2052, 2053, 2061, 2062, 2063, 2064, 2065, 4544, 4545, 4546, 4547, 4548, 4549, 4550, 4551, 4552, 4553, 4554, 4555, 4800, 4801, 4802, 4803]
def wsX1_endangered : List Cond := cw 2061 :: wI qS1
theorem qn3 : ∀ i ∈ qS1, cw i ∈ wsX1_endangered := fun i h => List.mem_cons_of_mem _ (List.mem_map_of_mem h)
theorem q3X : okM 2061 qS1 = true := qaq (by decide +kernel)
def qXI : List Nat := [276, 322, 324, 2069, 4544, 4545, 4546, 4547, 4548, 4549, 4550, 4551, 4552, 4553, 4554, 4555, 4800, 4801, 4802, 4803]
def wsX1_dropDebts : List Cond := cw 2069 :: wI qXI
theorem qDN : ∀ i ∈ qXI, cw i ∈ wsX1_dropDebts := fun i h => List.mem_cons_of_mem _ (List.mem_map_of_mem h)
theorem qaET : okM 2069 qXI = true := qaq (by decide +kernel)
def qai2 : List Nat := [2, 19, 78, 276, 322, 324, 326, 1047, 1741, 1742, 1743, 1744, 1745, 1746, 1747, 1748, 1812, 1813, 1814, 1815, 2052, 2053, 2057, 2058, 2059, 2060, 2061, 2062, 2063, 2064, 2065, 2066, 2067, 2068, 2069, 4544, 4545, 4546, 4547, 4548, 4549, 4550, 4551, 4552, 4553, 4554, 4555, 4800, 4801, 4802, 4803]
def wsX1_strike : List Cond := cw 2057 :: wI qai2
theorem qtg : ∀ i ∈ qai2, cw i ∈ wsX1_strike := fun i h => List.mem_cons_of_mem _ (List.mem_map_of_mem h)
theorem qaXs : okM 2057 qai2 = true := qaq (by decide +kernel)
def qacw : List Nat := [2, 19, 78, 276, 322, 324, 326, 1047, 1741, 1742, 1743, 1744, 1745, 1746, 1747, 1748, 1812, 1813, 1814, 1815, 2051, 2052, 2053, 2054, 2055, 2056, 2057, 2058, 2059, 2060, 2061, 2062, 2063, 2064, 2065, 2066, 2067, 2068, 2069, 4544, 4545, 4546, 4547, 4548, 4549, 4550, 4551, 4552, 4553, 4554, 4555, 4800, 4801, 4802, 4803]
def wsX1_passDay : List Cond := cw 2051 :: wI qacw
theorem qvt : ∀ i ∈ qacw, cw i ∈ wsX1_passDay := fun i h => List.mem_cons_of_mem _ (List.mem_map_of_mem h)
theorem q1q : okM 2051 qacw = true := qaq (by decide +kernel)
def q08 : List Nat := [4044, 4045]
def wsX1_nextSeed : List Cond := cw 4044 :: wI q08
theorem qaNu : ∀ i ∈ q08, cw i ∈ wsX1_nextSeed := fun i h => List.mem_cons_of_mem _ (List.mem_map_of_mem h)
theorem qaO6 : okM 4044 q08 = true := qaq (by decide +kernel)
def qahv : List Nat := [4048]
def wsX1_drawnBits : List Cond := cw 4048 :: wI qahv
theorem qaKU : okM 4048 qahv = true := qaq (by decide +kernel)
def qKh : List Nat := [19, 64, 78, 148, 149, 200, 201, 202, 203, 208, 276, 322, 323, 324, 650, 651, 652, 1092, 1093, 1094, 1738, 1739, 1740, 1741, 1742, 1743, 1744, 1745, 1746, 1747, 1748, 1749, 1750, 1751, 1792, 1793, 1794, 1795, 1796, 1797, 1798, 1799, 1800, 1801, 1802, 1803, 1804, 1805, 1806, 1807, 1808, 1809, 1810, 1811, 1812, 1813, 1814, 1815, 1856, 1857, 1858, 1859, 1860, 1861, 1862, 1863, 1864, 1865, 1866, 1867, 1868, 1869, 1870, 1871, 1872, 1873, 1874, 1875, 1876, 1877, 1878, 1879, 1920, 1921, 1922, 1923, 1924, 1925, 1926, 1927, 1928, 1929, 1930, 1931, 1932, 1933, 1934, 1992, 1993, 1994, 1995, 1996, 1997, 1998, 4052, 4053, 4054, 4544, 4545, 4546, 4547, 4548, 4549, 4550, 4551, 4552, 4553, 4554, 4555, 4608, 4609, 4610, 4611, 4612, 4800, 4801, 4802, 4803]
def wsX1_leapIfAllowed : List Cond := cw 4052 :: wI qKh
theorem qBd : ∀ i ∈ qKh, cw i ∈ wsX1_leapIfAllowed := fun i h => List.mem_cons_of_mem _ (List.mem_map_of_mem h)
theorem qagK : okM 4052 qKh = true := qaq (by decide +kernel)
def qHS : List Nat := [78, 276, 651, 1741, 1742, 1743, 1744, 1745, 1746, 1747, 1748, 1808, 1809, 1810, 1811, 1930, 1931, 1936, 1937, 1938, 1995, 1996, 1997, 1998, 2000, 2001, 2002, 2003, 4098, 4099, 4100, 4800, 4801, 4802, 4803]
def wsX1_fightIfAllowed : List Cond := cw 4098 :: wI qHS
theorem qzy : ∀ i ∈ qHS, cw i ∈ wsX1_fightIfAllowed := fun i h => List.mem_cons_of_mem _ (List.mem_map_of_mem h)
theorem qabk : okM 4098 qHS = true := qaq (by decide +kernel)
def q4b : List Nat := [2, 19, 64, 78, 148, 149, 200, 201, 202, 203, 208, 276, 322, 323, 324, 326, 650, 651, 652, 1047, 1092, 1093, 1094, 1738, 1739, 1740, 1741, 1742, 1743, 1744, 1745, 1746, 1747, 1748, 1749, 1750, 1751, 1792, 1793, 1794, 1795, 1796, 1797, 1798, 1799, 1800, 1801, 1802, 1803, 1804, 1805, 1806, 1807, 1808, 1809, 1810, 1811, 1812, 1813, 1814, 1815, 1856, 1857, 1858, 1859, 1860, 1861, 1862, 1863, 1864, 1865, 1866, 1867, 1868, 1869, 1870, 1871, 1872, 1873, 1874, 1875, 1876, 1877, 1878, 1879, 1920, 1921, 1922, 1923, 1924, 1925, 1926, 1927, 1928, 1929, 1930, 1931, 1932, 1933, 1934, 1936, 1937, 1938, 1992, 1993, 1994, 1995, 1996, 1997, 1998, 2000, 2001, 2002, 2003, 2049, 2050, 2051, 2052, 2053, 2054, 2055, 2056, 2057, 2058, 2059, 2060, 2061, 2062, 2063, 2064, 2065, 2066, 2067, 2068, 2069, 4040, 4041, 4042, 4043, 4044, 4045, 4046, 4047, 4048, 4049, 4050, 4051, 4052, 4053, 4054, 4055, 4096, 4097, 4098, 4099, 4100, 4101, 4544, 4545, 4546, 4547, 4548, 4549, 4550, 4551, 4552, 4553, 4554, 4555, 4608, 4609, 4610, 4611, 4612, 4800, 4801, 4802, 4803]
def wsX1_drawDays : List Cond := cw 4040 :: wI q4b
theorem qnD : ∀ i ∈ q4b, cw i ∈ wsX1_drawDays := fun i h => List.mem_cons_of_mem _ (List.mem_map_of_mem h)
theorem qahH : okM 4040 q4b = true := qaq (by decide +kernel)
def qaam : List Nat := [277, 322, 324, 650, 651, 652, 3852, 3856, 4544, 4545, 4546, 4547, 4548, 4549, 4550, 4551, 4552, 4553, 4554, 4555, 4800, 4801, 4802, 4803]
def wsX1_givenBy : List Cond := cw 3856 :: wI qaam
theorem qxo : ∀ i ∈ qaam, cw i ∈ wsX1_givenBy := fun i h => List.mem_cons_of_mem _ (List.mem_map_of_mem h)
theorem qaTB : okM 3856 qaam = true := qaq (by decide +kernel)
def qYv : List Nat := [2, 78, 276, 277, 322, 324, 650, 651, 652, 1860, 1861, 1862, 1863, 1864, 1865, 1866, 1867, 2052, 2053, 3851, 3852, 3853, 3854, 3855, 3856, 4544, 4545, 4546, 4547, 4548, 4549, 4550, 4551, 4552, 4553, 4554, 4555, 4800, 4801, 4802, 4803]
def wsX1_cloverFor : List Cond := cw 3851 :: wI qYv
theorem qky : ∀ i ∈ qYv, cw i ∈ wsX1_cloverFor := fun i h => List.mem_cons_of_mem _ (List.mem_map_of_mem h)
theorem qaE1 : okM 3851 qYv = true := qaq (by decide +kernel)
def qaO8 : List Nat := [11, 12, 145, 146, 147, 148, 149, 150, 151, 192, 193, 194, 195, 4544, 4545, 4546, 4547, 4548, 4549, 4550, 4551, 4552, 4553, 4554, 4555]
def wsX2_init : List Cond := cw 145 :: wI qaO8
theorem qyW : ∀ i ∈ qaO8, cw i ∈ wsX2_init := fun i h => List.mem_cons_of_mem _ (List.mem_map_of_mem h)
theorem qa88 : okM 145 qaO8 = true := qaq (by decide +kernel)
def qOO : List Nat := [832, 833, 834]
def wsJ0_coder_7d493 : List Cond := cw 832 :: wI qOO
theorem qYM : ∀ i ∈ qOO, cw i ∈ wsJ0_coder_7d493 := fun i h => List.mem_cons_of_mem _ (List.mem_map_of_mem h)
theorem qapI : okM 832 qOO = true := qaq (by decide +kernel)
def qMm : List Nat := [786, 787, 788, 789, 790, 791, 832, 833, 834]
def wsJ0_length_8abf5 : List Cond := cw 787 :: wI qMm
theorem qJy : ∀ i ∈ qMm, cw i ∈ wsJ0_length_8abf5 := fun i h => List.mem_cons_of_mem _ (List.mem_map_of_mem h)
theorem qVt : okM 787 qMm = true := qaq (by decide +kernel)
def q1U : List Nat := [142, 712, 839, 4480, 4481, 4482, 4483, 4484, 4485, 4486]
def wsX8_isLetter : List Cond := cw 839 :: wI q1U
theorem qXr : ∀ i ∈ q1U, cw i ∈ wsX8_isLetter := fun i h => List.mem_cons_of_mem _ (List.mem_map_of_mem h)
theorem qaNy : okM 839 q1U = true := qaq (by decide +kernel)
def qIX : List Nat := [833, 834, 847]
def wsJ0_isLatin1_aae02 : List Cond := cw 847 :: wI qIX
theorem qQB : ∀ i ∈ qIX, cw i ∈ wsJ0_isLatin1_aae02 := fun i h => List.mem_cons_of_mem _ (List.mem_map_of_mem h)
theorem qaaD : okM 847 qIX = true := qaq (by decide +kernel)
def qNs : List Nat := [899]
def wsJ3_checkIndex_8e157 : List Cond := cw 899 :: wI qNs
theorem q1Q : okM 899 qNs = true := qaq (by decide +kernel)
def qDp : List Nat := [854, 855, 896, 897, 898, 899]
def wsJ0_checkIndex_df160 : List Cond := cw 854 :: wI qDp
theorem qBw : ∀ i ∈ qDp, cw i ∈ wsJ0_checkIndex_df160 := fun i h => List.mem_cons_of_mem _ (List.mem_map_of_mem h)
theorem q4N : okM 854 qDp = true := qaq (by decide +kernel)
def qMy : List Nat := [786, 851, 852, 853, 854, 855, 896, 897, 898, 899]
def wsJ1_charAt_3b067 : List Cond := cw 851 :: wI qMy
theorem qVB : ∀ i ∈ qMy, cw i ∈ wsJ1_charAt_3b067 := fun i h => List.mem_cons_of_mem _ (List.mem_map_of_mem h)
theorem qal0 : okM 851 qMy = true := qaq (by decide +kernel)
def qL2 : List Nat := [786, 788, 833, 834, 843, 844, 845, 846, 847, 848, 849, 850, 851, 852, 853, 854, 855, 896, 897, 898, 899, 900, 901, 902, 903, 904, 905, 906, 907, 908, 909, 910, 911, 912, 913, 914, 915, 916]
def wsJ0_charAt_5068e : List Cond := cw 843 :: wI qL2
theorem qyP : ∀ i ∈ qL2, cw i ∈ wsJ0_charAt_5068e := fun i h => List.mem_cons_of_mem _ (List.mem_map_of_mem h)
theorem qVZ : okM 843 qL2 = true := qaq (by decide +kernel)
def qX7 : List Nat := [15, 142, 712, 713, 714, 715, 724, 725, 726, 771, 772, 773, 774, 782, 783, 784, 785, 786, 787, 788, 789, 790, 791, 832, 833, 834, 835, 836, 837, 838, 839, 840, 841, 842, 843, 844, 845, 846, 847, 848, 849, 850, 851, 852, 853, 854, 855, 896, 897, 898, 899, 900, 901, 902, 903, 904, 905, 906, 907, 908, 909, 910, 911, 912, 913, 914, 915, 916, 4480, 4481, 4482, 4483, 4484, 4485, 4486]
def wsX8_takesWord : List Cond := cw 782 :: wI qX7
theorem qld : ∀ i ∈ qX7, cw i ∈ wsX8_takesWord := fun i h => List.mem_cons_of_mem _ (List.mem_map_of_mem h)
theorem qKE : okM 782 qX7 = true := qaq (by decide +kernel)
def q1W : List Nat := [2, 15, 142, 143, 148, 149, 650, 651, 652, 658, 659, 711, 712, 713, 714, 715, 720, 724, 725, 726, 771, 772, 773, 774, 835, 960, 961, 962, 963, 964, 965, 966, 967, 968, 969, 970, 971, 972, 973, 974, 975, 976, 977, 978, 979, 980, 981, 982, 983, 1024, 1025, 1026, 1027, 1028, 1029, 4480, 4481, 4482, 4483, 4484, 4485, 4486, 4544, 4545, 4546, 4547, 4548, 4549, 4550, 4551, 4552, 4553, 4554, 4555]
def wsX2_readForm : List Cond := cw 960 :: wI q1W
theorem qtN : ∀ i ∈ q1W, cw i ∈ wsX2_readForm := fun i h => List.mem_cons_of_mem _ (List.mem_map_of_mem h)
theorem qaNW : okM 960 q1W = true := qaq (by decide +kernel)
def q3w : List Nat := [2, 15, 142, 143, 192, 193, 650, 651, 652, 658, 659, 711, 712, 713, 714, 715, 720, 721, 724, 725, 726, 771, 772, 773, 774, 835, 961, 962, 963, 964, 965, 966, 967, 968, 969, 970, 971, 972, 973, 974, 975, 976, 977, 978, 979, 980, 981, 982, 983, 1024, 1025, 1026, 1027, 1028, 1029, 1033, 4480, 4481, 4482, 4483, 4484, 4485, 4486, 4544, 4545, 4546, 4547, 4548, 4549, 4550, 4551, 4552, 4553, 4554, 4555]
def wsX2_readHare : List Cond := cw 1033 :: wI q3w
theorem qsf : ∀ i ∈ q3w, cw i ∈ wsX2_readHare := fun i h => List.mem_cons_of_mem _ (List.mem_map_of_mem h)
theorem qaNV : okM 1033 q3w = true := qaq (by decide +kernel)
def qaaS : List Nat := [2, 15, 142, 143, 150, 151, 650, 651, 652, 658, 659, 711, 712, 713, 714, 715, 722, 724, 725, 726, 771, 772, 773, 774, 835, 961, 962, 963, 964, 965, 966, 967, 968, 969, 970, 971, 972, 973, 974, 975, 976, 977, 978, 979, 980, 981, 982, 983, 1024, 1025, 1026, 1027, 1028, 1029, 1037, 4480, 4481, 4482, 4483, 4484, 4485, 4486, 4544, 4545, 4546, 4547, 4548, 4549, 4550, 4551, 4552, 4553, 4554, 4555]
def wsX2_readFox : List Cond := cw 1037 :: wI qaaS
theorem qve : ∀ i ∈ qaaS, cw i ∈ wsX2_readFox := fun i h => List.mem_cons_of_mem _ (List.mem_map_of_mem h)
theorem qaUb : okM 1037 qaaS = true := qaq (by decide +kernel)
def q1T : List Nat := [2, 15, 142, 143, 194, 650, 651, 652, 658, 659, 711, 712, 713, 714, 715, 721, 723, 724, 725, 726, 771, 772, 773, 774, 835, 961, 962, 963, 964, 965, 966, 967, 968, 969, 970, 971, 972, 973, 974, 975, 976, 977, 978, 979, 980, 981, 982, 983, 1024, 1025, 1026, 1027, 1028, 1029, 1041, 4480, 4481, 4482, 4483, 4484, 4485, 4486, 4544, 4545, 4546, 4547, 4548, 4549, 4550, 4551, 4552, 4553, 4554, 4555]
def wsX2_readDebt : List Cond := cw 1041 :: wI q1T
theorem qr9 : ∀ i ∈ q1T, cw i ∈ wsX2_readDebt := fun i h => List.mem_cons_of_mem _ (List.mem_map_of_mem h)
theorem qaNB : okM 1041 q1T = true := qaq (by decide +kernel)
def qTA : List Nat := [2, 15, 19, 142, 143, 148, 149, 150, 151, 192, 193, 194, 650, 651, 652, 658, 659, 711, 712, 713, 714, 715, 720, 721, 722, 723, 724, 725, 726, 771, 772, 773, 774, 778, 779, 780, 781, 782, 783, 784, 785, 786, 787, 788, 789, 790, 791, 832, 833, 834, 835, 836, 837, 838, 839, 840, 841, 842, 843, 844, 845, 846, 847, 848, 849, 850, 851, 852, 853, 854, 855, 896, 897, 898, 899, 900, 901, 902, 903, 904, 905, 906, 907, 908, 909, 910, 911, 912, 913, 914, 915, 916, 917, 918, 919, 960, 961, 962, 963, 964, 965, 966, 967, 968, 969, 970, 971, 972, 973, 974, 975, 976, 977, 978, 979, 980, 981, 982, 983, 1024, 1025, 1026, 1027, 1028, 1029, 1030, 1031, 1032, 1033, 1034, 1035, 1036, 1037, 1038, 1039, 1040, 1041, 1042, 4480, 4481, 4482, 4483, 4484, 4485, 4486, 4544, 4545, 4546, 4547, 4548, 4549, 4550, 4551, 4552, 4553, 4554, 4555]
def wsX2_readClause : List Cond := cw 778 :: wI qTA
theorem qnR : ∀ i ∈ qTA, cw i ∈ wsX2_readClause := fun i h => List.mem_cons_of_mem _ (List.mem_map_of_mem h)
theorem qavH : okM 778 qTA = true := qaq (by decide +kernel)
def qYx : List Nat := [148, 149, 150, 151, 651, 722, 1091, 1092, 1093, 1094, 4544, 4545, 4546, 4547, 4548, 4549, 4550, 4551, 4552, 4553, 4554, 4555]
def wsX2_foxIsNear : List Cond := cw 1091 :: wI qYx
theorem qrM : ∀ i ∈ qYx, cw i ∈ wsX2_foxIsNear := fun i h => List.mem_cons_of_mem _ (List.mem_map_of_mem h)
theorem qaJX : okM 1091 qYx = true := qaq (by decide +kernel)
def q3f : List Nat := [19, 148, 149, 150, 151, 651, 720, 722, 1046, 1047, 1088, 1089, 1090, 1091, 1092, 1093, 1094, 4544, 4545, 4546, 4547, 4548, 4549, 4550, 4551, 4552, 4553, 4554, 4555]
def wsX2_findSafe : List Cond := cw 1046 :: wI q3f
theorem qIa : ∀ i ∈ q3f, cw i ∈ wsX2_findSafe := fun i h => List.mem_cons_of_mem _ (List.mem_map_of_mem h)
theorem qaNF : okM 1046 q3f = true := qaq (by decide +kernel)
def q3S : List Nat := [2, 15, 19, 142, 143, 148, 149, 150, 151, 192, 193, 194, 650, 651, 652, 658, 659, 711, 712, 713, 714, 715, 719, 720, 721, 722, 723, 724, 725, 726, 727, 768, 769, 770, 771, 772, 773, 774, 775, 776, 777, 778, 779, 780, 781, 782, 783, 784, 785, 786, 787, 788, 789, 790, 791, 832, 833, 834, 835, 836, 837, 838, 839, 840, 841, 842, 843, 844, 845, 846, 847, 848, 849, 850, 851, 852, 853, 854, 855, 896, 897, 898, 899, 900, 901, 902, 903, 904, 905, 906, 907, 908, 909, 910, 911, 912, 913, 914, 915, 916, 917, 918, 919, 960, 961, 962, 963, 964, 965, 966, 967, 968, 969, 970, 971, 972, 973, 974, 975, 976, 977, 978, 979, 980, 981, 982, 983, 1024, 1025, 1026, 1027, 1028, 1029, 1030, 1031, 1032, 1033, 1034, 1035, 1036, 1037, 1038, 1039, 1040, 1041, 1042, 1043, 1044, 1045, 1046, 1047, 1088, 1089, 1090, 1091, 1092, 1093, 1094, 4480, 4481, 4482, 4483, 4484, 4485, 4486, 4544, 4545, 4546, 4547, 4548, 4549, 4550, 4551, 4552, 4553, 4554, 4555]
def wsX2_readFrom : List Cond := cw 719 :: wI q3S
theorem qpF : ∀ i ∈ q3S, cw i ∈ wsX2_readFrom := fun i h => List.mem_cons_of_mem _ (List.mem_map_of_mem h)
theorem qaRG : okM 719 q3S = true := qaq (by decide +kernel)
def qRd : List Nat := [2, 19, 148, 149, 651, 720, 1092, 1093, 1094, 1750, 1751, 1792, 2052, 2053, 3024, 3025, 3026, 3027, 3028, 3029, 4544, 4545, 4546, 4547, 4548, 4549, 4550, 4551, 4552, 4553, 4554, 4555]
def wsX2_hopsBetween : List Cond := cw 3024 :: wI qRd
theorem quC : ∀ i ∈ qRd, cw i ∈ wsX2_hopsBetween := fun i h => List.mem_cons_of_mem _ (List.mem_map_of_mem h)
theorem qauA : okM 3024 qRd = true := qaq (by decide +kernel)
def q2s : List Nat := [2, 195, 720, 2052, 2053, 3718, 4544, 4545, 4546, 4547, 4548, 4549, 4550, 4551, 4552, 4553, 4554, 4555]
def wsX2_seenFrom : List Cond := cw 3718 :: wI q2s
theorem qCE : ∀ i ∈ q2s, cw i ∈ wsX2_seenFrom := fun i h => List.mem_cons_of_mem _ (List.mem_map_of_mem h)
theorem qaNq : okM 3718 q2s = true := qaq (by decide +kernel)
def q1y : List Nat := [2, 19, 148, 149, 195, 651, 720, 1092, 1093, 1094, 1750, 1751, 1792, 1802, 1803, 1804, 1805, 1806, 1807, 2052, 2053, 3025, 3026, 3027, 3028, 3029, 3713, 3714, 3715, 3716, 3717, 3718, 4544, 4545, 4546, 4547, 4548, 4549, 4550, 4551, 4552, 4553, 4554, 4555]
def wsX2_watchers : List Cond := cw 3713 :: wI q1y
theorem qva : ∀ i ∈ q1y, cw i ∈ wsX2_watchers := fun i h => List.mem_cons_of_mem _ (List.mem_map_of_mem h)
theorem qaRb : okM 3713 q1y = true := qaq (by decide +kernel)
def qaNQ : List Nat := [11, 12, 147, 388, 389, 390, 391, 392, 393, 5056, 5057, 5058, 5059, 5060, 5061, 5062, 5063, 5064, 5065, 5066]
def wsX3_init : List Cond := cw 388 :: wI qaNQ
theorem qGX : ∀ i ∈ qaNQ, cw i ∈ wsX3_init := fun i h => List.mem_cons_of_mem _ (List.mem_map_of_mem h)
theorem qa3D : okM 388 qaNQ = true := qaq (by decide +kernel)
def qTx : List Nat := [390, 391, 3533, 5056, 5057, 5058, 5059, 5060, 5061, 5062, 5063, 5064, 5065, 5066]
def wsX3_seatedThen : List Cond := cw 3533 :: wI qTx
theorem qP9 : ∀ i ∈ qTx, cw i ∈ wsX3_seatedThen := fun i h => List.mem_cons_of_mem _ (List.mem_map_of_mem h)
theorem q2y : okM 3533 qTx = true := qaq (by decide +kernel)
def q2F : List Nat := [69, 136, 257, 390, 391, 3474, 3475, 3529, 3530, 3531, 3532, 3533, 3534, 3535, 3536, 3537, 4672, 4673, 5056, 5057, 5058, 5059, 5060, 5061, 5062, 5063, 5064, 5065, 5066]
def wsX3_allRight : List Cond := cw 3529 :: wI q2F
theorem qzM : ∀ i ∈ q2F, cw i ∈ wsX3_allRight := fun i h => List.mem_cons_of_mem _ (List.mem_map_of_mem h)
theorem qaP4 : okM 3529 q2F = true := qaq (by decide +kernel)
def q3N : List Nat := [69, 136, 257, 390, 391, 3474, 3475, 3476, 3477, 3525, 3526, 3527, 3528, 3529, 3530, 3531, 3532, 3533, 3534, 3535, 3536, 3537, 4672, 4673, 5056, 5057, 5058, 5059, 5060, 5061, 5062, 5063, 5064, 5065, 5066]
def wsX3_formsFor : List Cond := cw 3525 :: wI q3N
theorem qC8 : ∀ i ∈ q3N, cw i ∈ wsX3_formsFor := fun i h => List.mem_cons_of_mem _ (List.mem_map_of_mem h)
theorem qaPr : okM 3525 q3N = true := qaq (by decide +kernel)
def qakb : List Nat := [69, 78, 136, 257, 276, 322, 324, 390, 391, 392, 1741, 1742, 1743, 1744, 1745, 1746, 1747, 1748, 1798, 1799, 1800, 1802, 1803, 1804, 1805, 1806, 1807, 3469, 3470, 3471, 3472, 3473, 3474, 3475, 3476, 3477, 3478, 3479, 3520, 3521, 3522, 3523, 3524, 3525, 3526, 3527, 3528, 3529, 3530, 3531, 3532, 3533, 3534, 3535, 3536, 3537, 4544, 4545, 4546, 4547, 4548, 4549, 4550, 4551, 4552, 4553, 4554, 4555, 4672, 4673, 4800, 4801, 4802, 4803, 5056, 5057, 5058, 5059, 5060, 5061, 5062, 5063, 5064, 5065, 5066]
def wsX3_settle : List Cond := cw 3469 :: wI qakb
theorem qh2 : ∀ i ∈ qakb, cw i ∈ wsX3_settle := fun i h => List.mem_cons_of_mem _ (List.mem_map_of_mem h)
theorem qayx : okM 3469 qakb = true := qaq (by decide +kernel)
def qaaq : List Nat := [2, 393, 658, 659, 3654, 5056, 5057, 5058, 5059, 5060, 5061, 5062, 5063, 5064, 5065, 5066]
def wsX3_tallied : List Cond := cw 3654 :: wI qaaq
theorem qLh : ∀ i ∈ qaaq, cw i ∈ wsX3_tallied := fun i h => List.mem_cons_of_mem _ (List.mem_map_of_mem h)
theorem qaVj : okM 3654 qaaq = true := qaq (by decide +kernel)
def q8w : List Nat := [2, 136, 390, 391, 392, 393, 651, 658, 659, 1930, 1931, 2052, 2053, 3472, 3474, 3530, 3531, 3532, 3533, 3649, 3650, 3651, 3652, 3653, 3654, 5056, 5057, 5058, 5059, 5060, 5061, 5062, 5063, 5064, 5065, 5066]
def wsX3_worstAt : List Cond := cw 3649 :: wI q8w
theorem qoz : ∀ i ∈ q8w, cw i ∈ wsX3_worstAt := fun i h => List.mem_cons_of_mem _ (List.mem_map_of_mem h)
theorem qaUt : okM 3649 q8w = true := qaq (by decide +kernel)
def qWl : List Nat := [2, 69, 136, 257, 390, 391, 392, 393, 651, 658, 659, 1930, 1931, 2052, 2053, 2443, 2444, 2445, 3472, 3474, 3475, 3530, 3531, 3532, 3533, 3602, 3603, 3604, 3605, 3606, 3607, 3648, 3649, 3650, 3651, 3652, 3653, 3654, 4672, 4673, 5056, 5057, 5058, 5059, 5060, 5061, 5062, 5063, 5064, 5065, 5066]
def wsX3_lookAhead : List Cond := cw 3602 :: wI qWl
theorem qtM : ∀ i ∈ qWl, cw i ∈ wsX3_lookAhead := fun i h => List.mem_cons_of_mem _ (List.mem_map_of_mem h)
theorem qaGv : okM 3602 qWl = true := qaq (by decide +kernel)
def qaZi : List Nat := [200, 201, 208, 212, 4608, 4609, 4610, 4611, 4612]
def wsX4_add : List Cond := cw 212 :: wI qaZi
theorem qavj : ∀ i ∈ qaZi, cw i ∈ wsX4_add := fun i h => List.mem_cons_of_mem _ (List.mem_map_of_mem h)
theorem q5r : okM 212 qaZi = true := qaq (by decide +kernel)
def q4g : List Nat := [64, 200, 201, 207, 208, 209, 210, 211, 212, 4608, 4609, 4610, 4611, 4612]
def wsX4_setPlain : List Cond := cw 207 :: wI q4g
theorem qOg : ∀ i ∈ q4g, cw i ∈ wsX4_setPlain := fun i h => List.mem_cons_of_mem _ (List.mem_map_of_mem h)
theorem qadB : okM 207 q4g = true := qaq (by decide +kernel)
def qaMP : List Nat := [11, 12, 64, 147, 198, 199, 200, 201, 202, 203, 204, 205, 206, 207, 208, 209, 210, 211, 212, 4608, 4609, 4610, 4611, 4612]
def wsX4_init : List Cond := cw 198 :: wI qaMP
theorem qCd : ∀ i ∈ qaMP, cw i ∈ wsX4_init := fun i h => List.mem_cons_of_mem _ (List.mem_map_of_mem h)
theorem qa9d : okM 198 qaMP = true := qaq (by decide +kernel)
def qXT : List Nat := [15, 142, 712, 713, 771, 772, 773, 774, 974, 975, 976, 977, 1414, 4480, 4481, 4482, 4483, 4484, 4485, 4486]
def wsX8_seesDigit : List Cond := cw 1414 :: wI qXT
theorem qAG : ∀ i ∈ qXT, cw i ∈ wsX8_seesDigit := fun i h => List.mem_cons_of_mem _ (List.mem_map_of_mem h)
theorem qaEW : okM 1414 qXT = true := qaq (by decide +kernel)
def q3O : List Nat := [15, 64, 142, 143, 200, 201, 208, 209, 210, 211, 212, 712, 713, 714, 715, 724, 725, 726, 771, 772, 773, 774, 780, 781, 782, 783, 784, 785, 786, 787, 788, 789, 790, 791, 832, 833, 834, 835, 836, 837, 838, 839, 840, 841, 842, 843, 844, 845, 846, 847, 848, 849, 850, 851, 852, 853, 854, 855, 896, 897, 898, 899, 900, 901, 902, 903, 904, 905, 906, 907, 908, 909, 910, 911, 912, 913, 914, 915, 916, 965, 966, 967, 968, 1027, 1028, 1029, 1419, 1426, 1427, 4480, 4481, 4482, 4483, 4484, 4485, 4486, 4608, 4609, 4610, 4611, 4612]
def wsX4_readFact : List Cond := cw 1426 :: wI q3O
theorem qCD : ∀ i ∈ q3O, cw i ∈ wsX4_readFact := fun i h => List.mem_cons_of_mem _ (List.mem_map_of_mem h)
theorem qaN7 : okM 1426 q3O = true := qaq (by decide +kernel)
def qYu : List Nat := [2, 15, 64, 142, 143, 200, 201, 208, 209, 210, 211, 212, 650, 651, 652, 658, 659, 711, 712, 713, 714, 715, 724, 725, 726, 771, 772, 773, 774, 780, 781, 782, 783, 784, 785, 786, 787, 788, 789, 790, 791, 832, 833, 834, 835, 836, 837, 838, 839, 840, 841, 842, 843, 844, 845, 846, 847, 848, 849, 850, 851, 852, 853, 854, 855, 896, 897, 898, 899, 900, 901, 902, 903, 904, 905, 906, 907, 908, 909, 910, 911, 912, 913, 914, 915, 916, 962, 963, 964, 965, 966, 967, 968, 970, 971, 972, 973, 974, 975, 976, 977, 979, 980, 981, 982, 983, 1024, 1025, 1026, 1027, 1028, 1029, 1353, 1354, 1355, 1356, 1357, 1358, 1359, 1360, 1361, 1362, 1363, 1364, 1365, 1366, 1367, 1408, 1409, 1410, 1411, 1412, 1413, 1414, 1415, 1416, 1417, 1418, 1419, 1420, 1421, 1422, 1423, 1424, 1425, 1426, 1427, 4480, 4481, 4482, 4483, 4484, 4485, 4486, 4608, 4609, 4610, 4611, 4612]
def wsX4_readInner : List Cond := cw 1362 :: wI qYu
theorem qAq : ∀ i ∈ qYu, cw i ∈ wsX4_readInner := fun i h => List.mem_cons_of_mem _ (List.mem_map_of_mem h)
theorem qaJ5 : okM 1362 qYu = true := qaq (by decide +kernel)
def q2a : List Nat := [2, 15, 64, 142, 143, 200, 201, 208, 209, 210, 211, 212, 650, 651, 652, 658, 659, 711, 712, 713, 714, 715, 724, 725, 726, 771, 772, 773, 774, 780, 781, 782, 783, 784, 785, 786, 787, 788, 789, 790, 791, 832, 833, 834, 835, 836, 837, 838, 839, 840, 841, 842, 843, 844, 845, 846, 847, 848, 849, 850, 851, 852, 853, 854, 855, 896, 897, 898, 899, 900, 901, 902, 903, 904, 905, 906, 907, 908, 909, 910, 911, 912, 913, 914, 915, 916, 962, 963, 964, 965, 966, 967, 968, 970, 971, 972, 973, 974, 975, 976, 977, 979, 980, 981, 982, 983, 1024, 1025, 1026, 1027, 1028, 1029, 1353, 1354, 1355, 1356, 1357, 1358, 1359, 1360, 1361, 1362, 1363, 1364, 1365, 1366, 1367, 1408, 1409, 1410, 1411, 1412, 1413, 1414, 1415, 1416, 1417, 1418, 1419, 1420, 1421, 1422, 1423, 1424, 1425, 1426, 1427, 4480, 4481, 4482, 4483, 4484, 4485, 4486, 4608, 4609, 4610, 4611, 4612]
def wsX4_readPair : List Cond := cw 1365 :: wI q2a
theorem qwG : ∀ i ∈ q2a, cw i ∈ wsX4_readPair := fun i h => List.mem_cons_of_mem _ (List.mem_map_of_mem h)
theorem qaNw : okM 1365 q2a = true := qaq (by decide +kernel)
def qRa : List Nat := [2, 15, 64, 142, 143, 200, 201, 208, 209, 210, 211, 212, 650, 651, 652, 658, 659, 711, 712, 713, 714, 715, 724, 725, 726, 771, 772, 773, 774, 780, 781, 782, 783, 784, 785, 786, 787, 788, 789, 790, 791, 832, 833, 834, 835, 836, 837, 838, 839, 840, 841, 842, 843, 844, 845, 846, 847, 848, 849, 850, 851, 852, 853, 854, 855, 896, 897, 898, 899, 900, 901, 902, 903, 904, 905, 906, 907, 908, 909, 910, 911, 912, 913, 914, 915, 916, 962, 963, 964, 965, 966, 967, 968, 970, 971, 972, 973, 974, 975, 976, 977, 979, 980, 981, 982, 983, 1024, 1025, 1026, 1027, 1028, 1029, 1353, 1354, 1355, 1356, 1357, 1358, 1359, 1360, 1361, 1362, 1363, 1364, 1365, 1366, 1367, 1408, 1409, 1410, 1411, 1412, 1413, 1414, 1415, 1416, 1417, 1418, 1419, 1420, 1421, 1422, 1423, 1424, 1425, 1426, 1427, 4480, 4481, 4482, 4483, 4484, 4485, 4486, 4608, 4609, 4610, 4611, 4612]
def wsX4_readProduct : List Cond := cw 1366 :: wI qRa
theorem qsz : ∀ i ∈ qRa, cw i ∈ wsX4_readProduct := fun i h => List.mem_cons_of_mem _ (List.mem_map_of_mem h)
theorem qasZ : okM 1366 qRa = true := qaq (by decide +kernel)
def q8W : List Nat := [2, 15, 64, 142, 143, 200, 201, 208, 209, 210, 211, 212, 650, 651, 652, 658, 659, 711, 712, 713, 714, 715, 724, 725, 726, 771, 772, 773, 774, 780, 781, 782, 783, 784, 785, 786, 787, 788, 789, 790, 791, 832, 833, 834, 835, 836, 837, 838, 839, 840, 841, 842, 843, 844, 845, 846, 847, 848, 849, 850, 851, 852, 853, 854, 855, 896, 897, 898, 899, 900, 901, 902, 903, 904, 905, 906, 907, 908, 909, 910, 911, 912, 913, 914, 915, 916, 962, 963, 964, 965, 966, 967, 968, 970, 971, 972, 973, 974, 975, 976, 977, 979, 980, 981, 982, 983, 1024, 1025, 1026, 1027, 1028, 1029, 1353, 1354, 1355, 1356, 1357, 1358, 1359, 1360, 1361, 1362, 1363, 1364, 1365, 1366, 1367, 1408, 1409, 1410, 1411, 1412, 1413, 1414, 1415, 1416, 1417, 1418, 1419, 1420, 1421, 1422, 1423, 1424, 1425, 1426, 1427, 4480, 4481, 4482, 4483, 4484, 4485, 4486, 4608, 4609, 4610, 4611, 4612]
def wsX4_readSum : List Cond := cw 1356 :: wI q8W
theorem qy6 : ∀ i ∈ q8W, cw i ∈ wsX4_readSum := fun i h => List.mem_cons_of_mem _ (List.mem_map_of_mem h)
theorem q3Y : okM 1356 q8W = true := qaq (by decide +kernel)
def q2l : List Nat := [2, 15, 64, 142, 143, 200, 201, 208, 209, 210, 211, 212, 650, 651, 652, 658, 659, 711, 712, 713, 714, 715, 724, 725, 726, 771, 772, 773, 774, 780, 781, 782, 783, 784, 785, 786, 787, 788, 789, 790, 791, 832, 833, 834, 835, 836, 837, 838, 839, 840, 841, 842, 843, 844, 845, 846, 847, 848, 849, 850, 851, 852, 853, 854, 855, 896, 897, 898, 899, 900, 901, 902, 903, 904, 905, 906, 907, 908, 909, 910, 911, 912, 913, 914, 915, 916, 962, 963, 964, 965, 966, 967, 968, 970, 971, 972, 973, 974, 975, 976, 977, 979, 980, 981, 982, 983, 1024, 1025, 1026, 1027, 1028, 1029, 1353, 1354, 1355, 1356, 1357, 1358, 1359, 1360, 1361, 1362, 1363, 1364, 1365, 1366, 1367, 1408, 1409, 1410, 1411, 1412, 1413, 1414, 1415, 1416, 1417, 1418, 1419, 1420, 1421, 1422, 1423, 1424, 1425, 1426, 1427, 4480, 4481, 4482, 4483, 4484, 4485, 4486, 4608, 4609, 4610, 4611, 4612]
def wsX4_readUnit : List Cond := cw 1410 :: wI q2l
theorem qlw : ∀ i ∈ q2l, cw i ∈ wsX4_readUnit := fun i h => List.mem_cons_of_mem _ (List.mem_map_of_mem h)
theorem qaRu : okM 1410 q2l = true := qaq (by decide +kernel)
def q3c : List Nat := [15, 142, 143, 712, 713, 715, 768, 769, 770, 771, 772, 773, 774, 965, 966, 967, 968, 1026, 1027, 1028, 1029, 1431, 1472, 4480, 4481, 4482, 4483, 4484, 4485, 4486]
def wsX8_needsEnd : List Cond := cw 1431 :: wI q3c
theorem qN9 : ∀ i ∈ q3c, cw i ∈ wsX8_needsEnd := fun i h => List.mem_cons_of_mem _ (List.mem_map_of_mem h)
theorem qaQJ : okM 1431 q3c = true := qaq (by decide +kernel)
def q2E : List Nat := [2, 15, 64, 142, 143, 200, 201, 208, 209, 210, 211, 212, 650, 651, 652, 658, 659, 711, 712, 713, 714, 715, 724, 725, 726, 768, 769, 770, 771, 772, 773, 774, 780, 781, 782, 783, 784, 785, 786, 787, 788, 789, 790, 791, 832, 833, 834, 835, 836, 837, 838, 839, 840, 841, 842, 843, 844, 845, 846, 847, 848, 849, 850, 851, 852, 853, 854, 855, 896, 897, 898, 899, 900, 901, 902, 903, 904, 905, 906, 907, 908, 909, 910, 911, 912, 913, 914, 915, 916, 962, 963, 964, 965, 966, 967, 968, 970, 971, 972, 973, 974, 975, 976, 977, 979, 980, 981, 982, 983, 1024, 1025, 1026, 1027, 1028, 1029, 1352, 1353, 1354, 1355, 1356, 1357, 1358, 1359, 1360, 1361, 1362, 1363, 1364, 1365, 1366, 1367, 1408, 1409, 1410, 1411, 1412, 1413, 1414, 1415, 1416, 1417, 1418, 1419, 1420, 1421, 1422, 1423, 1424, 1425, 1426, 1427, 1428, 1429, 1430, 1431, 1472, 4480, 4481, 4482, 4483, 4484, 4485, 4486, 4608, 4609, 4610, 4611, 4612]
def wsX4_readFrom : List Cond := cw 1352 :: wI q2E
theorem qCI : ∀ i ∈ q2E, cw i ∈ wsX4_readFrom := fun i h => List.mem_cons_of_mem _ (List.mem_map_of_mem h)
theorem qaSb : okM 1352 q2E = true := qaq (by decide +kernel)
def qaMJ : List Nat := [11, 12, 147, 333, 334, 335, 4864, 4865]
def wsX5_init : List Cond := cw 333 :: wI qaMJ
theorem qU9 : ∀ i ∈ qaMJ, cw i ∈ wsX5_init := fun i h => List.mem_cons_of_mem _ (List.mem_map_of_mem h)
theorem qa5a : okM 333 qaMJ = true := qaq (by decide +kernel)
def qaOW : List Nat := [329, 330, 331, 335, 1675, 1676, 1677, 1678, 4800, 4801, 4802, 4803, 4864, 4865]
def wsX5_push : List Cond := cw 1675 :: wI qaOW
theorem qGN : ∀ i ∈ qaOW, cw i ∈ wsX5_push := fun i h => List.mem_cons_of_mem _ (List.mem_map_of_mem h)
theorem qaSS : okM 1675 qaOW = true := qaq (by decide +kernel)
def qaW4 : List Nat := [329, 330, 331, 335, 1676, 1677, 1678, 2508, 4800, 4801, 4802, 4803, 4864, 4865]
def wsX5_pop : List Cond := cw 2508 :: wI qaW4
theorem qOp : ∀ i ∈ qaW4, cw i ∈ wsX5_pop := fun i h => List.mem_cons_of_mem _ (List.mem_map_of_mem h)
theorem qa0Q : okM 2508 qaW4 = true := qaq (by decide +kernel)
def q06 : List Nat := [329, 330, 331, 335, 1676, 1678, 4224, 4864, 4865]
def wsX5_copyFrom : List Cond := cw 4224 :: wI q06
theorem qzc : ∀ i ∈ q06, cw i ∈ wsX5_copyFrom := fun i h => List.mem_cons_of_mem _ (List.mem_map_of_mem h)
theorem qaf2 : okM 4224 q06 = true := qaq (by decide +kernel)
def qaQf : List Nat := [11, 12, 147, 337, 338, 339, 340, 4928, 4929, 4930]
def wsX6_init : List Cond := cw 337 :: wI qaQf
theorem qQn : ∀ i ∈ qaQf, cw i ∈ wsX6_init := fun i h => List.mem_cons_of_mem _ (List.mem_map_of_mem h)
theorem qa9Y : okM 337 qaQf = true := qaq (by decide +kernel)
def qaa9 : List Nat := [19, 148, 149, 339, 651, 1092, 1093, 1094, 1750, 1751, 1792, 3280, 3284, 4544, 4545, 4546, 4547, 4548, 4549, 4550, 4551, 4552, 4553, 4554, 4555, 4928, 4929, 4930]
def wsX6_wayOver : List Cond := cw 3284 :: wI qaa9
theorem qRU : ∀ i ∈ qaa9, cw i ∈ wsX6_wayOver := fun i h => List.mem_cons_of_mem _ (List.mem_map_of_mem h)
theorem qaoq : okM 3284 qaa9 = true := qaq (by decide +kernel)
def q4u : List Nat := [2, 19, 128, 148, 149, 339, 650, 651, 652, 1092, 1093, 1094, 1750, 1751, 1792, 2052, 2053, 3269, 3277, 3278, 3279, 3280, 3281, 3282, 3283, 3284, 4544, 4545, 4546, 4547, 4548, 4549, 4550, 4551, 4552, 4553, 4554, 4555, 4928, 4929, 4930]
def wsX6_leastWay : List Cond := cw 3277 :: wI q4u
theorem qoW : ∀ i ∈ q4u, cw i ∈ wsX6_leastWay := fun i h => List.mem_cons_of_mem _ (List.mem_map_of_mem h)
theorem qaee : okM 3277 q4u = true := qaq (by decide +kernel)
def qYj : List Nat := [2, 19, 128, 148, 149, 339, 650, 651, 652, 1092, 1093, 1094, 1750, 1751, 1792, 2052, 2053, 3269, 3273, 3274, 3275, 3276, 3277, 3278, 3279, 3280, 3281, 3282, 3283, 3284, 4544, 4545, 4546, 4547, 4548, 4549, 4550, 4551, 4552, 4553, 4554, 4555, 4928, 4929, 4930]
def wsX6_settleFor : List Cond := cw 3273 :: wI qYj
theorem qtA : ∀ i ∈ qYj, cw i ∈ wsX6_settleFor := fun i h => List.mem_cons_of_mem _ (List.mem_map_of_mem h)
theorem qaGY : okM 3273 qYj = true := qaq (by decide +kernel)
def qX4 : List Nat := [2, 19, 128, 148, 149, 339, 651, 1092, 1093, 1094, 1750, 1751, 1792, 2052, 2053, 3269, 3280, 3281, 3282, 3283, 3284, 3332, 4544, 4545, 4546, 4547, 4548, 4549, 4550, 4551, 4552, 4553, 4554, 4555, 4928, 4929, 4930]
def wsX6_firstBest : List Cond := cw 3332 :: wI qX4
theorem qtH : ∀ i ∈ qX4, cw i ∈ wsX6_firstBest := fun i h => List.mem_cons_of_mem _ (List.mem_map_of_mem h)
theorem qaFQ : okM 3332 qX4 = true := qaq (by decide +kernel)
def qaNz : List Nat := [2, 19, 128, 148, 149, 339, 340, 651, 1092, 1093, 1094, 1750, 1751, 1792, 2052, 2053, 3269, 3280, 3281, 3282, 3283, 3284, 3328, 3329, 3330, 3331, 3332, 4544, 4545, 4546, 4547, 4548, 4549, 4550, 4551, 4552, 4553, 4554, 4555, 4928, 4929, 4930]
def wsX6_walk : List Cond := cw 3328 :: wI qaNz
theorem qV5 : ∀ i ∈ qaNz, cw i ∈ wsX6_walk := fun i h => List.mem_cons_of_mem _ (List.mem_map_of_mem h)
theorem qa5O : okM 3328 qaNz = true := qaq (by decide +kernel)
def qanm : List Nat := [2, 19, 128, 148, 149, 339, 340, 650, 651, 652, 1092, 1093, 1094, 1750, 1751, 1792, 2052, 2053, 3267, 3268, 3269, 3270, 3271, 3272, 3273, 3274, 3275, 3276, 3277, 3278, 3279, 3280, 3281, 3282, 3283, 3284, 3285, 3286, 3287, 3328, 3329, 3330, 3331, 3332, 4544, 4545, 4546, 4547, 4548, 4549, 4550, 4551, 4552, 4553, 4554, 4555, 4928, 4929, 4930]
def wsX6_settle : List Cond := cw 3267 :: wI qanm
theorem qvW : ∀ i ∈ qanm, cw i ∈ wsX6_settle := fun i h => List.mem_cons_of_mem _ (List.mem_map_of_mem h)
theorem qaxi : okM 3267 qanm = true := qaq (by decide +kernel)
def qaNr : List Nat := [11, 12, 147, 342, 343, 384, 385, 386, 4992, 4993, 4994, 4995]
def wsX7_init : List Cond := cw 342 :: wI qaNr
theorem qLD : ∀ i ∈ qaNr, cw i ∈ wsX7_init := fun i h => List.mem_cons_of_mem _ (List.mem_map_of_mem h)
theorem qa7f : okM 342 qaNr = true := qaq (by decide +kernel)
def qXb : List Nat := [19, 64, 78, 148, 149, 200, 201, 202, 203, 208, 276, 322, 323, 324, 650, 651, 652, 720, 1092, 1093, 1094, 1741, 1742, 1743, 1744, 1745, 1746, 1747, 1748, 1750, 1751, 1792, 1793, 1794, 1795, 1796, 1797, 1798, 1799, 1800, 1801, 1802, 1803, 1804, 1805, 1806, 1807, 1808, 1809, 1810, 1811, 1812, 1813, 1814, 1815, 1856, 1857, 1858, 1859, 1860, 1861, 1862, 1863, 1864, 1865, 1866, 1867, 1868, 1869, 1870, 1871, 1872, 1873, 1874, 1875, 1876, 1877, 1878, 1879, 1920, 1921, 1922, 1923, 1924, 1925, 1926, 1927, 1928, 1929, 1930, 1931, 1932, 1933, 1934, 3026, 3027, 3028, 3029, 3083, 3090, 3091, 3092, 3093, 3094, 3095, 3136, 3137, 4544, 4545, 4546, 4547, 4548, 4549, 4550, 4551, 4552, 4553, 4554, 4555, 4608, 4609, 4610, 4611, 4612, 4800, 4801, 4802, 4803]
def wsX7_allowedTo : List Cond := cw 3090 :: wI qXb
theorem qrL : ∀ i ∈ qXb, cw i ∈ wsX7_allowedTo := fun i h => List.mem_cons_of_mem _ (List.mem_map_of_mem h)
theorem qaLb : okM 3090 qXb = true := qaq (by decide +kernel)
def qTw : List Nat := [384, 3146, 4992, 4993, 4994, 4995]
def wsX7_mostBehind : List Cond := cw 3146 :: wI qTw
theorem q00 : ∀ i ∈ qTw, cw i ∈ wsX7_mostBehind := fun i h => List.mem_cons_of_mem _ (List.mem_map_of_mem h)
theorem q0D : okM 3146 qTw = true := qaq (by decide +kernel)
def q3D : List Nat := [2, 132, 384, 385, 651, 1930, 1931, 2052, 2053, 3141, 3142, 3143, 3144, 3145, 3146, 4992, 4993, 4994, 4995]
def wsX7_mostFrom : List Cond := cw 3141 :: wI q3D
theorem qrU : ∀ i ∈ q3D, cw i ∈ wsX7_mostFrom := fun i h => List.mem_cons_of_mem _ (List.mem_map_of_mem h)
theorem qaPE : okM 3141 q3D = true := qaq (by decide +kernel)
def qXV : List Nat := [2, 132, 384, 385, 2052, 2053, 3143, 3144, 3145, 3146, 3154, 4992, 4993, 4994, 4995]
def wsX7_firstBest : List Cond := cw 3154 :: wI qXV
theorem qvf : ∀ i ∈ qXV, cw i ∈ wsX7_firstBest := fun i h => List.mem_cons_of_mem _ (List.mem_map_of_mem h)
theorem qaKI : okM 3154 qXV = true := qaq (by decide +kernel)
def qaSC : List Nat := [2, 132, 384, 385, 386, 2052, 2053, 3143, 3144, 3145, 3146, 3150, 3151, 3152, 3153, 3154, 4992, 4993, 4994, 4995]
def wsX7_give : List Cond := cw 3150 :: wI qaSC
theorem qahW : ∀ i ∈ qaSC, cw i ∈ wsX7_give := fun i h => List.mem_cons_of_mem _ (List.mem_map_of_mem h)
theorem qa7t : okM 3150 qaSC = true := qaq (by decide +kernel)
def qaiD : List Nat := [2, 19, 64, 78, 132, 148, 149, 200, 201, 202, 203, 208, 276, 322, 323, 324, 384, 385, 386, 650, 651, 652, 720, 1092, 1093, 1094, 1741, 1742, 1743, 1744, 1745, 1746, 1747, 1748, 1750, 1751, 1792, 1793, 1794, 1795, 1796, 1797, 1798, 1799, 1800, 1801, 1802, 1803, 1804, 1805, 1806, 1807, 1808, 1809, 1810, 1811, 1812, 1813, 1814, 1815, 1856, 1857, 1858, 1859, 1860, 1861, 1862, 1863, 1864, 1865, 1866, 1867, 1868, 1869, 1870, 1871, 1872, 1873, 1874, 1875, 1876, 1877, 1878, 1879, 1920, 1921, 1922, 1923, 1924, 1925, 1926, 1927, 1928, 1929, 1930, 1931, 1932, 1933, 1934, 2052, 2053, 3026, 3027, 3028, 3029, 3082, 3083, 3084, 3085, 3086, 3087, 3088, 3089, 3090, 3091, 3092, 3093, 3094, 3095, 3136, 3137, 3138, 3139, 3140, 3141, 3142, 3143, 3144, 3145, 3146, 3147, 3148, 3149, 3150, 3151, 3152, 3153, 3154, 4544, 4545, 4546, 4547, 4548, 4549, 4550, 4551, 4552, 4553, 4554, 4555, 4608, 4609, 4610, 4611, 4612, 4800, 4801, 4802, 4803, 4992, 4993, 4994, 4995]
def wsX7_settle : List Cond := cw 3082 :: wI qaiD
theorem qq9 : ∀ i ∈ qaiD, cw i ∈ wsX7_settle := fun i h => List.mem_cons_of_mem _ (List.mem_map_of_mem h)
theorem qaC5 : okM 3082 qaiD = true := qaq (by decide +kernel)
def qaRx : List Nat := [11, 12, 139, 140, 141, 142, 143, 4480, 4481, 4482, 4483, 4484, 4485, 4486]
def wsX8_init : List Cond := cw 139 :: wI qaRx
theorem qOT : ∀ i ∈ qaRx, cw i ∈ wsX8_init := fun i h => List.mem_cons_of_mem _ (List.mem_map_of_mem h)
theorem qa5b : okM 139 qaRx = true := qaq (by decide +kernel)
def qabo : List Nat := [579, 580, 4480, 4481, 4482, 4483, 4484, 4485, 4486]
def wsX8_hasRoom : List Cond := cw 579 :: wI qabo
theorem qan3 : ∀ i ∈ qabo, cw i ∈ wsX8_hasRoom := fun i h => List.mem_cons_of_mem _ (List.mem_map_of_mem h)
theorem qaU3 : okM 579 qabo = true := qaq (by decide +kernel)
def qaXr : List Nat := [142, 580, 584, 4480, 4481, 4482, 4483, 4484, 4485, 4486]
def wsX8_put : List Cond := cw 584 :: wI qaXr
theorem qaSk : ∀ i ∈ qaXr, cw i ∈ wsX8_put := fun i h => List.mem_cons_of_mem _ (List.mem_map_of_mem h)
theorem qbbR : okM 584 qaXr = true := qaq (by decide +kernel)
def qaQw : List Nat := [143, 580, 650, 651, 652, 710, 711, 712, 713, 714, 715, 4480, 4481, 4482, 4483, 4484, 4485, 4486]
def wsX8_open : List Cond := cw 710 :: wI qaQw
theorem qCe : ∀ i ∈ qaQw, cw i ∈ wsX8_open := fun i h => List.mem_cons_of_mem _ (List.mem_map_of_mem h)
theorem qa7Z : okM 710 qaQw = true := qaq (by decide +kernel)
def qaSc : List Nat := [11, 12, 147, 264, 265, 266, 267, 268, 269, 270, 271, 4736, 4737, 4738, 4739, 4740, 4741, 4742, 4743, 4744, 4745, 4746, 4747]
def wsX9_init : List Cond := cw 264 :: wI qaSc
theorem qBF : ∀ i ∈ qaSc, cw i ∈ wsX9_init := fun i h => List.mem_cons_of_mem _ (List.mem_map_of_mem h)
theorem qa9Z : okM 264 qaSc = true := qaq (by decide +kernel)
def qaXo : List Nat := [266, 267, 268, 269, 1606, 1618, 4736, 4737, 4738, 4739, 4740, 4741, 4742, 4743, 4744, 4745, 4746, 4747]
def wsX9_add : List Cond := cw 1618 :: wI qaXo
theorem q5p : ∀ i ∈ qaXo, cw i ∈ wsX9_add := fun i h => List.mem_cons_of_mem _ (List.mem_map_of_mem h)
theorem qaRl : okM 1618 qaXo = true := qaq (by decide +kernel)
def qYc : List Nat := [74, 266, 267, 268, 269, 270, 1606, 1607, 1614, 1615, 1616, 1617, 1618, 4736, 4737, 4738, 4739, 4740, 4741, 4742, 4743, 4744, 4745, 4746, 4747]
def wsX9_closeLoop : List Cond := cw 1614 :: wI qYc
theorem qxM : ∀ i ∈ qYc, cw i ∈ wsX9_closeLoop := fun i h => List.mem_cons_of_mem _ (List.mem_map_of_mem h)
theorem qaKf : okM 1614 qYc = true := qaq (by decide +kernel)
def q0M : List Nat := [2, 15, 74, 142, 143, 266, 267, 268, 269, 270, 650, 651, 652, 658, 659, 711, 712, 713, 714, 715, 724, 725, 726, 771, 772, 773, 774, 835, 962, 963, 964, 965, 966, 967, 968, 970, 971, 972, 973, 974, 975, 976, 977, 979, 980, 981, 982, 983, 1024, 1025, 1026, 1027, 1028, 1029, 1606, 1607, 1615, 1616, 1617, 1618, 1619, 1668, 1669, 1670, 4480, 4481, 4482, 4483, 4484, 4485, 4486, 4736, 4737, 4738, 4739, 4740, 4741, 4742, 4743, 4744, 4745, 4746, 4747]
def wsX9_openLoop : List Cond := cw 1668 :: wI q0M
theorem qqR : ∀ i ∈ q0M, cw i ∈ wsX9_openLoop := fun i h => List.mem_cons_of_mem _ (List.mem_map_of_mem h)
theorem qaQI : okM 1668 q0M = true := qaq (by decide +kernel)
def q38 : List Nat := [2, 15, 74, 142, 143, 266, 267, 268, 269, 270, 650, 651, 652, 658, 659, 711, 712, 713, 714, 715, 724, 725, 726, 771, 772, 773, 774, 780, 781, 782, 783, 784, 785, 786, 787, 788, 789, 790, 791, 832, 833, 834, 835, 836, 837, 838, 839, 840, 841, 842, 843, 844, 845, 846, 847, 848, 849, 850, 851, 852, 853, 854, 855, 896, 897, 898, 899, 900, 901, 902, 903, 904, 905, 906, 907, 908, 909, 910, 911, 912, 913, 914, 915, 916, 962, 963, 964, 965, 966, 967, 968, 970, 971, 972, 973, 974, 975, 976, 977, 979, 980, 981, 982, 983, 1024, 1025, 1026, 1027, 1028, 1029, 1604, 1605, 1606, 1607, 1615, 1616, 1617, 1618, 1619, 1623, 1664, 1665, 1666, 1667, 1668, 1669, 1670, 1671, 4480, 4481, 4482, 4483, 4484, 4485, 4486, 4736, 4737, 4738, 4739, 4740, 4741, 4742, 4743, 4744, 4745, 4746, 4747]
def wsX9_readStep : List Cond := cw 1623 :: wI q38
theorem qnC : ∀ i ∈ q38, cw i ∈ wsX9_readStep := fun i h => List.mem_cons_of_mem _ (List.mem_map_of_mem h)
theorem qaSn : okM 1623 q38 = true := qaq (by decide +kernel)
def q4j : List Nat := [2, 15, 74, 142, 143, 266, 267, 268, 269, 270, 650, 651, 652, 658, 659, 711, 712, 713, 714, 715, 724, 725, 726, 768, 769, 770, 771, 772, 773, 774, 780, 781, 782, 783, 784, 785, 786, 787, 788, 789, 790, 791, 832, 833, 834, 835, 836, 837, 838, 839, 840, 841, 842, 843, 844, 845, 846, 847, 848, 849, 850, 851, 852, 853, 854, 855, 896, 897, 898, 899, 900, 901, 902, 903, 904, 905, 906, 907, 908, 909, 910, 911, 912, 913, 914, 915, 916, 962, 963, 964, 965, 966, 967, 968, 970, 971, 972, 973, 974, 975, 976, 977, 979, 980, 981, 982, 983, 1024, 1025, 1026, 1027, 1028, 1029, 1603, 1604, 1605, 1606, 1607, 1608, 1609, 1610, 1611, 1612, 1613, 1614, 1615, 1616, 1617, 1618, 1619, 1620, 1621, 1622, 1623, 1664, 1665, 1666, 1667, 1668, 1669, 1670, 1671, 4480, 4481, 4482, 4483, 4484, 4485, 4486, 4736, 4737, 4738, 4739, 4740, 4741, 4742, 4743, 4744, 4745, 4746, 4747]
def wsX9_readFrom : List Cond := cw 1603 :: wI q4j
theorem qk2 : ∀ i ∈ q4j, cw i ∈ wsX9_readFrom := fun i h => List.mem_cons_of_mem _ (List.mem_map_of_mem h)
theorem qaPV : okM 1603 q4j = true := qaq (by decide +kernel)
def qWj : List Nat := [267, 271, 1607, 1728, 4736, 4737, 4738, 4739, 4740, 4741, 4742, 4743, 4744, 4745, 4746, 4747]
def wsX9_behindEnd : List Cond := cw 1728 :: wI qWj
theorem qKr : ∀ i ∈ qWj, cw i ∈ wsX9_behindEnd := fun i h => List.mem_cons_of_mem _ (List.mem_map_of_mem h)
theorem qaGm : okM 1728 qWj = true := qaq (by decide +kernel)
def qPV : List Nat := [267, 268, 271, 1607, 1732, 4736, 4737, 4738, 4739, 4740, 4741, 4742, 4743, 4744, 4745, 4746, 4747]
def wsX9_behindAgain : List Cond := cw 1732 :: wI qPV
theorem qz5 : ∀ i ∈ qPV, cw i ∈ wsX9_behindAgain := fun i h => List.mem_cons_of_mem _ (List.mem_map_of_mem h)
theorem qarZ : okM 1732 qPV = true := qaq (by decide +kernel)
def qYA : List Nat := [19, 64, 78, 148, 149, 200, 201, 202, 203, 208, 266, 267, 268, 269, 276, 322, 323, 324, 650, 651, 652, 1092, 1093, 1094, 1736, 1737, 1738, 1739, 1740, 1741, 1742, 1743, 1744, 1745, 1746, 1747, 1748, 1749, 1750, 1751, 1792, 1793, 1794, 1795, 1796, 1797, 1798, 1799, 1800, 1801, 1802, 1803, 1804, 1805, 1806, 1807, 1808, 1809, 1810, 1811, 1812, 1813, 1814, 1815, 1856, 1857, 1858, 1859, 1860, 1861, 1862, 1863, 1864, 1865, 1866, 1867, 1868, 1869, 1870, 1871, 1872, 1873, 1874, 1875, 1876, 1877, 1878, 1879, 1920, 1921, 1922, 1923, 1924, 1925, 1926, 1927, 1928, 1929, 1930, 1931, 1932, 1933, 1934, 1935, 1936, 1937, 1938, 1939, 1940, 1941, 1942, 1943, 1984, 1985, 1986, 4544, 4545, 4546, 4547, 4548, 4549, 4550, 4551, 4552, 4553, 4554, 4555, 4608, 4609, 4610, 4611, 4612, 4736, 4737, 4738, 4739, 4740, 4741, 4742, 4743, 4744, 4745, 4746, 4747, 4800, 4801, 4802, 4803]
def wsX9_isAllowed : List Cond := cw 1736 :: wI qYA
theorem qod : ∀ i ∈ qYA, cw i ∈ wsX9_isAllowed := fun i h => List.mem_cons_of_mem _ (List.mem_map_of_mem h)
theorem qaKV : okM 1736 qYA = true := qaq (by decide +kernel)
def qajA : List Nat := [2, 19, 78, 266, 267, 268, 269, 276, 322, 324, 326, 651, 1047, 1741, 1742, 1743, 1744, 1745, 1746, 1747, 1748, 1808, 1809, 1810, 1811, 1812, 1813, 1814, 1815, 1930, 1931, 1990, 1991, 1992, 1993, 1994, 1995, 1996, 1997, 1998, 1999, 2000, 2001, 2002, 2003, 2004, 2005, 2006, 2007, 2048, 2049, 2050, 2051, 2052, 2053, 2054, 2055, 2056, 2057, 2058, 2059, 2060, 2061, 2062, 2063, 2064, 2065, 2066, 2067, 2068, 2069, 4544, 4545, 4546, 4547, 4548, 4549, 4550, 4551, 4552, 4553, 4554, 4555, 4736, 4737, 4738, 4739, 4740, 4741, 4742, 4743, 4744, 4745, 4746, 4747, 4800, 4801, 4802, 4803]
def wsX9_doStep : List Cond := cw 1990 :: wI qajA
theorem qts : ∀ i ∈ qajA, cw i ∈ wsX9_doStep := fun i h => List.mem_cons_of_mem _ (List.mem_map_of_mem h)
theorem qaWU : okM 1990 qajA = true := qaq (by decide +kernel)
def qaAD : List Nat := [2, 19, 64, 74, 78, 148, 149, 200, 201, 202, 203, 208, 266, 267, 268, 269, 271, 276, 322, 323, 324, 326, 650, 651, 652, 1047, 1092, 1093, 1094, 1606, 1607, 1682, 1683, 1684, 1685, 1686, 1687, 1728, 1729, 1730, 1731, 1732, 1733, 1734, 1735, 1736, 1737, 1738, 1739, 1740, 1741, 1742, 1743, 1744, 1745, 1746, 1747, 1748, 1749, 1750, 1751, 1792, 1793, 1794, 1795, 1796, 1797, 1798, 1799, 1800, 1801, 1802, 1803, 1804, 1805, 1806, 1807, 1808, 1809, 1810, 1811, 1812, 1813, 1814, 1815, 1856, 1857, 1858, 1859, 1860, 1861, 1862, 1863, 1864, 1865, 1866, 1867, 1868, 1869, 1870, 1871, 1872, 1873, 1874, 1875, 1876, 1877, 1878, 1879, 1920, 1921, 1922, 1923, 1924, 1925, 1926, 1927, 1928, 1929, 1930, 1931, 1932, 1933, 1934, 1935, 1936, 1937, 1938, 1939, 1940, 1941, 1942, 1943, 1984, 1985, 1986, 1987, 1988, 1989, 1990, 1991, 1992, 1993, 1994, 1995, 1996, 1997, 1998, 1999, 2000, 2001, 2002, 2003, 2004, 2005, 2006, 2007, 2048, 2049, 2050, 2051, 2052, 2053, 2054, 2055, 2056, 2057, 2058, 2059, 2060, 2061, 2062, 2063, 2064, 2065, 2066, 2067, 2068, 2069, 4544, 4545, 4546, 4547, 4548, 4549, 4550, 4551, 4552, 4553, 4554, 4555, 4608, 4609, 4610, 4611, 4612, 4736, 4737, 4738, 4739, 4740, 4741, 4742, 4743, 4744, 4745, 4746, 4747, 4800, 4801, 4802, 4803]
def wsX9_runOn : List Cond := cw 1682 :: wI qaAD
theorem quw : ∀ i ∈ qaAD, cw i ∈ wsX9_runOn := fun i h => List.mem_cons_of_mem _ (List.mem_map_of_mem h)
theorem qa2R : okM 1682 qaAD = true := qaq (by decide +kernel)
def qaWk : List Nat := [9, 10, 11, 12, 13, 14, 15, 16, 17, 18, 19, 20, 21, 22, 23, 64, 65, 66, 67, 68, 69, 70, 71, 72, 73, 74, 75, 76, 77, 78, 79, 80, 81, 82, 83, 84, 85, 86, 87, 128, 129, 130, 131, 132, 133, 134, 135, 136, 137, 138, 139, 140, 141, 142, 143, 144, 145, 146, 147, 148, 149, 150, 151, 192, 193, 194, 195, 196, 197, 198, 199, 200, 201, 202, 203, 204, 205, 206, 207, 208, 209, 210, 211, 212, 213, 214, 215, 256, 257, 258, 259, 260, 261, 262, 263, 264, 265, 266, 267, 268, 269, 270, 271, 272, 273, 274, 275, 276, 277, 278, 279, 320, 321, 322, 323, 324, 325, 326, 327, 328, 329, 330, 331, 332, 333, 334, 335, 336, 337, 338, 339, 340, 341, 342, 343, 384, 385, 386, 387, 388, 389, 390, 391, 392, 393, 4352, 4353, 4354, 4355, 4356, 4357, 4358, 4359, 4360, 4361, 4362, 4363, 4364, 4365, 4366, 4367, 4368, 4369, 4370, 4480, 4481, 4482, 4483, 4484, 4485, 4486, 4544, 4545, 4546, 4547, 4548, 4549, 4550, 4551, 4552, 4553, 4554, 4555, 4608, 4609, 4610, 4611, 4612, 4672, 4673, 4736, 4737, 4738, 4739, 4740, 4741, 4742, 4743, 4744, 4745, 4746, 4747, 4800, 4801, 4802, 4803, 4864, 4865, 4928, 4929, 4930, 4992, 4993, 4994, 4995, 5056, 5057, 5058, 5059, 5060, 5061, 5062, 5063, 5064, 5065, 5066]
def wsX10_init : List Cond := cw 9 :: wI qaWk
theorem qaB : ∀ i ∈ qaWk, cw i ∈ wsX10_init := fun i h => List.mem_cons_of_mem _ (List.mem_map_of_mem h)
def qaVx : List Nat := [15, 16, 142, 534, 535, 576, 577, 578, 579, 580, 581, 582, 583, 584, 4352, 4353, 4354, 4355, 4356, 4357, 4358, 4359, 4360, 4361, 4362, 4363, 4364, 4365, 4366, 4367, 4368, 4369, 4370, 4480, 4481, 4482, 4483, 4484, 4485, 4486]
def wsX10_feed : List Cond := cw 534 :: wI qaVx
theorem qGB : ∀ i ∈ qaVx, cw i ∈ wsX10_feed := fun i h => List.mem_cons_of_mem _ (List.mem_map_of_mem h)
def qS9 : List Nat := [663, 704, 705, 706, 4352, 4353, 4354, 4355, 4356, 4357, 4358, 4359, 4360, 4361, 4362, 4363, 4364, 4365, 4366, 4367, 4368, 4369, 4370]
def wsX10_needLegal : List Cond := cw 663 :: (wI qS9 ++ (vx_atS RX10 409 "java/lang/IllegalArgumentException" ["java/lang/RuntimeException", "java/lang/Exception"]).filter goodWord)
theorem qIu : ∀ i ∈ qS9, cw i ∈ wsX10_needLegal := fun i h => List.mem_cons_of_mem _ (List.mem_append_left _ (List.mem_map_of_mem h))
theorem q1k : okM 663 qS9 = true := qaq (by decide +kernel)
def qRe : List Nat := [2, 656, 657, 658, 659, 660, 661, 662, 663, 704, 705, 706, 4352, 4353, 4354, 4355, 4356, 4357, 4358, 4359, 4360, 4361, 4362, 4363, 4364, 4365, 4366, 4367, 4368, 4369, 4370]
def wsX10_needWithin : List Cond := cw 656 :: (wI qRe ++ (vx_atS RX10 409 "java/lang/IllegalArgumentException" ["java/lang/RuntimeException", "java/lang/Exception"]).filter goodWord)
theorem qEE : ∀ i ∈ qRe, cw i ∈ wsX10_needWithin := fun i h => List.mem_cons_of_mem _ (List.mem_append_left _ (List.mem_map_of_mem h))
theorem qdG : okM 656 qRe = true := qaq (by decide +kernel)
def qX3 : List Nat := [2, 15, 16, 143, 535, 580, 648, 649, 650, 651, 652, 653, 654, 655, 656, 657, 658, 659, 660, 661, 662, 663, 704, 705, 706, 707, 708, 709, 710, 711, 712, 713, 714, 715, 4352, 4353, 4354, 4355, 4356, 4357, 4358, 4359, 4360, 4361, 4362, 4363, 4364, 4365, 4366, 4367, 4368, 4369, 4370, 4480, 4481, 4482, 4483, 4484, 4485, 4486]
def wsX10_openText : List Cond := cw 648 :: (wI qX3 ++ (vx_atS RX10 409 "java/lang/IllegalArgumentException" ["java/lang/RuntimeException", "java/lang/Exception"]).filter goodWord)
theorem qpp : ∀ i ∈ qX3, cw i ∈ wsX10_openText := fun i h => List.mem_cons_of_mem _ (List.mem_append_left _ (List.mem_map_of_mem h))
theorem qKD : okM 648 qX3 = true := qaq (by decide +kernel)
def qaEh : List Nat := [2, 15, 16, 19, 20, 21, 64, 65, 69, 70, 78, 79, 84, 142, 143, 148, 149, 150, 151, 192, 193, 194, 200, 201, 205, 206, 207, 208, 209, 210, 211, 212, 257, 259, 260, 261, 262, 276, 279, 320, 321, 322, 323, 324, 325, 326, 327, 328, 329, 330, 331, 535, 580, 599, 640, 641, 642, 643, 644, 645, 646, 647, 648, 649, 650, 651, 652, 653, 654, 655, 656, 657, 658, 659, 660, 661, 662, 663, 704, 705, 706, 707, 708, 709, 710, 711, 712, 713, 714, 715, 716, 717, 718, 719, 720, 721, 722, 723, 724, 725, 726, 727, 768, 769, 770, 771, 772, 773, 774, 775, 776, 777, 778, 779, 780, 781, 782, 783, 784, 785, 786, 787, 788, 789, 790, 791, 832, 833, 834, 835, 836, 837, 838, 839, 840, 841, 842, 843, 844, 845, 846, 847, 848, 849, 850, 851, 852, 853, 854, 855, 896, 897, 898, 899, 900, 901, 902, 903, 904, 905, 906, 907, 908, 909, 910, 911, 912, 913, 914, 915, 916, 917, 918, 919, 960, 961, 962, 963, 964, 965, 966, 967, 968, 969, 970, 971, 972, 973, 974, 975, 976, 977, 978, 979, 980, 981, 982, 983, 1024, 1025, 1026, 1027, 1028, 1029, 1030, 1031, 1032, 1033, 1034, 1035, 1036, 1037, 1038, 1039, 1040, 1041, 1042, 1043, 1044, 1045, 1046, 1047, 1088, 1089, 1090, 1091, 1092, 1093, 1094, 1095, 1096, 1097, 1098, 4352, 4353, 4354, 4355, 4356, 4357, 4358, 4359, 4360, 4361, 4362, 4363, 4364, 4365, 4366, 4367, 4368, 4369, 4370, 4480, 4481, 4482, 4483, 4484, 4485, 4486, 4544, 4545, 4546, 4547, 4548, 4549, 4550, 4551, 4552, 4553, 4554, 4555, 4608, 4609, 4610, 4611, 4612, 4672, 4673, 4800, 4801, 4802, 4803, 4864, 4865]
def wsX10_down : List Cond := cw 599 :: (wI qaEh ++ (vx_atS RX10 409 "java/lang/IllegalArgumentException" ["java/lang/RuntimeException", "java/lang/Exception"]).filter goodWord)
theorem qh0 : ∀ i ∈ qaEh, cw i ∈ wsX10_down := fun i h => List.mem_cons_of_mem _ (List.mem_append_left _ (List.mem_map_of_mem h))
theorem qa2t : okM 599 qaEh = true := qaq (by decide +kernel)
def qaNj : List Nat := [2, 15, 16, 64, 65, 66, 78, 79, 142, 143, 200, 201, 208, 209, 210, 211, 212, 323, 535, 580, 640, 645, 646, 647, 648, 649, 650, 651, 652, 653, 654, 655, 656, 657, 658, 659, 660, 661, 662, 663, 704, 705, 706, 707, 708, 709, 710, 711, 712, 713, 714, 715, 724, 725, 726, 768, 769, 770, 771, 772, 773, 774, 780, 781, 782, 783, 784, 785, 786, 787, 788, 789, 790, 791, 832, 833, 834, 835, 836, 837, 838, 839, 840, 841, 842, 843, 844, 845, 846, 847, 848, 849, 850, 851, 852, 853, 854, 855, 896, 897, 898, 899, 900, 901, 902, 903, 904, 905, 906, 907, 908, 909, 910, 911, 912, 913, 914, 915, 916, 962, 963, 964, 965, 966, 967, 968, 970, 971, 972, 973, 974, 975, 976, 977, 979, 980, 981, 982, 983, 1024, 1025, 1026, 1027, 1028, 1029, 1095, 1348, 1349, 1350, 1351, 1352, 1353, 1354, 1355, 1356, 1357, 1358, 1359, 1360, 1361, 1362, 1363, 1364, 1365, 1366, 1367, 1408, 1409, 1410, 1411, 1412, 1413, 1414, 1415, 1416, 1417, 1418, 1419, 1420, 1421, 1422, 1423, 1424, 1425, 1426, 1427, 1428, 1429, 1430, 1431, 1472, 1473, 1474, 1475, 1476, 4352, 4353, 4354, 4355, 4356, 4357, 4358, 4359, 4360, 4361, 4362, 4363, 4364, 4365, 4366, 4367, 4368, 4369, 4370, 4480, 4481, 4482, 4483, 4484, 4485, 4486, 4608, 4609, 4610, 4611, 4612, 4800, 4801, 4802, 4803]
def wsX10_law : List Cond := cw 1348 :: (wI qaNj ++ (vx_atS RX10 409 "java/lang/IllegalArgumentException" ["java/lang/RuntimeException", "java/lang/Exception"]).filter goodWord)
theorem qvP : ∀ i ∈ qaNj, cw i ∈ wsX10_law := fun i h => List.mem_cons_of_mem _ (List.mem_append_left _ (List.mem_map_of_mem h))
theorem qa30 : okM 1348 qaNj = true := qaq (by decide +kernel)
def qav6 : List Nat := [2, 15, 16, 19, 20, 64, 74, 75, 78, 79, 83, 84, 142, 143, 148, 149, 200, 201, 202, 203, 208, 266, 267, 268, 269, 270, 271, 276, 322, 323, 324, 326, 329, 330, 331, 335, 535, 580, 640, 641, 643, 644, 645, 646, 647, 648, 649, 650, 651, 652, 653, 654, 655, 656, 657, 658, 659, 660, 661, 662, 663, 704, 705, 706, 707, 708, 709, 710, 711, 712, 713, 714, 715, 724, 725, 726, 768, 769, 770, 771, 772, 773, 774, 780, 781, 782, 783, 784, 785, 786, 787, 788, 789, 790, 791, 832, 833, 834, 835, 836, 837, 838, 839, 840, 841, 842, 843, 844, 845, 846, 847, 848, 849, 850, 851, 852, 853, 854, 855, 896, 897, 898, 899, 900, 901, 902, 903, 904, 905, 906, 907, 908, 909, 910, 911, 912, 913, 914, 915, 916, 962, 963, 964, 965, 966, 967, 968, 970, 971, 972, 973, 974, 975, 976, 977, 979, 980, 981, 982, 983, 1024, 1025, 1026, 1027, 1028, 1029, 1047, 1092, 1093, 1094, 1095, 1556, 1557, 1558, 1559, 1600, 1601, 1602, 1603, 1604, 1605, 1606, 1607, 1608, 1609, 1610, 1611, 1612, 1613, 1614, 1615, 1616, 1617, 1618, 1619, 1620, 1621, 1622, 1623, 1664, 1665, 1666, 1667, 1668, 1669, 1670, 1671, 1672, 1673, 1674, 1675, 1676, 1677, 1678, 1679, 1680, 1681, 1682, 1683, 1684, 1685, 1686, 1687, 1728, 1729, 1730, 1731, 1732, 1733, 1734, 1735, 1736, 1737, 1738, 1739, 1740, 1741, 1742, 1743, 1744, 1745, 1746, 1747, 1748, 1749, 1750, 1751, 1792, 1793, 1794, 1795, 1796, 1797, 1798, 1799, 1800, 1801, 1802, 1803, 1804, 1805, 1806, 1807, 1808, 1809, 1810, 1811, 1812, 1813, 1814, 1815, 1856, 1857, 1858, 1859, 1860, 1861, 1862, 1863, 1864, 1865, 1866, 1867, 1868, 1869, 1870, 1871, 1872, 1873, 1874, 1875, 1876, 1877, 1878, 1879, 1920, 1921, 1922, 1923, 1924, 1925, 1926, 1927, 1928, 1929, 1930, 1931, 1932, 1933, 1934, 1935, 1936, 1937, 1938, 1939, 1940, 1941, 1942, 1943, 1984, 1985, 1986, 1987, 1988, 1989, 1990, 1991, 1992, 1993, 1994, 1995, 1996, 1997, 1998, 1999, 2000, 2001, 2002, 2003, 2004, 2005, 2006, 2007, 2048, 2049, 2050, 2051, 2052, 2053, 2054, 2055, 2056, 2057, 2058, 2059, 2060, 2061, 2062, 2063, 2064, 2065, 2066, 2067, 2068, 2069, 4352, 4353, 4354, 4355, 4356, 4357, 4358, 4359, 4360, 4361, 4362, 4363, 4364, 4365, 4366, 4367, 4368, 4369, 4370, 4480, 4481, 4482, 4483, 4484, 4485, 4486, 4544, 4545, 4546, 4547, 4548, 4549, 4550, 4551, 4552, 4553, 4554, 4555, 4608, 4609, 4610, 4611, 4612, 4736, 4737, 4738, 4739, 4740, 4741, 4742, 4743, 4744, 4745, 4746, 4747, 4800, 4801, 4802, 4803, 4864, 4865]
def wsX10_work : List Cond := cw 1556 :: (wI qav6 ++ (vx_atS RX10 409 "java/lang/IllegalArgumentException" ["java/lang/RuntimeException", "java/lang/Exception"]).filter goodWord)
theorem qie : ∀ i ∈ qav6, cw i ∈ wsX10_work := fun i h => List.mem_cons_of_mem _ (List.mem_append_left _ (List.mem_map_of_mem h))
theorem qa1w : okM 1556 qav6 = true := qaq (by decide +kernel)
def qaDY : List Nat := [2, 15, 16, 20, 69, 70, 71, 142, 143, 257, 258, 259, 260, 261, 262, 535, 580, 640, 645, 646, 647, 648, 649, 650, 651, 652, 653, 654, 655, 656, 657, 658, 659, 660, 661, 662, 663, 704, 705, 706, 707, 708, 709, 710, 711, 712, 713, 714, 715, 724, 725, 726, 768, 769, 770, 771, 772, 773, 774, 835, 962, 963, 964, 965, 966, 967, 968, 970, 971, 972, 973, 974, 975, 976, 977, 979, 980, 981, 982, 983, 1024, 1025, 1026, 1027, 1028, 1029, 1095, 1557, 2389, 2390, 2391, 2432, 2433, 2434, 2435, 2436, 2437, 2438, 2439, 2440, 2441, 2442, 2443, 2444, 2445, 2446, 2447, 4352, 4353, 4354, 4355, 4356, 4357, 4358, 4359, 4360, 4361, 4362, 4363, 4364, 4365, 4366, 4367, 4368, 4369, 4370, 4480, 4481, 4482, 4483, 4484, 4485, 4486, 4544, 4545, 4546, 4547, 4548, 4549, 4550, 4551, 4552, 4553, 4554, 4555, 4672, 4673]
def wsX10_book : List Cond := cw 2389 :: (wI qaDY ++ (vx_atS RX10 409 "java/lang/IllegalArgumentException" ["java/lang/RuntimeException", "java/lang/Exception"]).filter goodWord)
theorem qry : ∀ i ∈ qaDY, cw i ∈ wsX10_book := fun i h => List.mem_cons_of_mem _ (List.mem_append_left _ (List.mem_map_of_mem h))
theorem qa2F : okM 2389 qaDY = true := qaq (by decide +kernel)
def qaLG : List Nat := [16, 2455, 2496, 4352, 4353, 4354, 4355, 4356, 4357, 4358, 4359, 4360, 4361, 4362, 4363, 4364, 4365, 4366, 4367, 4368, 4369, 4370, 4480, 4481, 4482, 4483, 4484, 4485, 4486]
def wsX10_fault : List Cond := cw 2455 :: wI qaLG
theorem qWV : ∀ i ∈ qaLG, cw i ∈ wsX10_fault := fun i h => List.mem_cons_of_mem _ (List.mem_map_of_mem h)
def qaUC : List Nat := [79, 83, 84, 329, 330, 331, 335, 641, 643, 1676, 1677, 1678, 2504, 2505, 2506, 2507, 2508, 4352, 4353, 4354, 4355, 4356, 4357, 4358, 4359, 4360, 4361, 4362, 4363, 4364, 4365, 4366, 4367, 4368, 4369, 4370, 4800, 4801, 4802, 4803, 4864, 4865]
def wsX10_undo : List Cond := cw 2504 :: wI qaUC
theorem qGI : ∀ i ∈ qaUC, cw i ∈ wsX10_undo := fun i h => List.mem_cons_of_mem _ (List.mem_map_of_mem h)
def qaw7 : List Nat := [2, 19, 20, 70, 78, 79, 276, 322, 324, 643, 644, 653, 654, 655, 656, 657, 658, 659, 660, 661, 662, 663, 704, 705, 706, 1047, 1557, 1741, 1742, 1743, 1744, 1745, 1746, 1747, 1748, 1812, 1813, 1814, 1815, 1856, 1857, 1858, 1859, 1860, 1861, 1862, 1863, 1873, 1874, 1875, 1984, 1985, 1986, 2052, 2053, 2059, 2060, 2061, 2062, 2063, 2064, 2065, 2390, 2519, 2560, 2561, 2562, 2563, 2564, 2565, 2566, 2567, 2568, 2569, 2570, 2571, 2572, 2573, 2574, 2575, 2576, 4352, 4353, 4354, 4355, 4356, 4357, 4358, 4359, 4360, 4361, 4362, 4363, 4364, 4365, 4366, 4367, 4368, 4369, 4370, 4544, 4545, 4546, 4547, 4548, 4549, 4550, 4551, 4552, 4553, 4554, 4555, 4672, 4673, 4800, 4801, 4802, 4803]
def wsX10_told : List Cond := cw 2519 :: (wI qaw7 ++ (vx_atS RX10 409 "java/lang/IllegalArgumentException" ["java/lang/RuntimeException", "java/lang/Exception"]).filter goodWord)
theorem qiz : ∀ i ∈ qaw7, cw i ∈ wsX10_told := fun i h => List.mem_cons_of_mem _ (List.mem_append_left _ (List.mem_map_of_mem h))
theorem qa1X : okM 2519 qaw7 = true := qaq (by decide +kernel)
def qWq : List Nat := [2, 20, 657, 658, 659, 1557, 2693, 2694, 2695, 2696, 4352, 4353, 4354, 4355, 4356, 4357, 4358, 4359, 4360, 4361, 4362, 4363, 4364, 4365, 4366, 4367, 4368, 4369, 4370, 4544, 4545, 4546, 4547, 4548, 4549, 4550, 4551, 4552, 4553, 4554, 4555]
def wsX10_needForm : List Cond := cw 2693 :: (wI qWq ++ (qqw RX10 268 "java/util/NoSuchElementException" 13 qxz ["java/lang/RuntimeException", "java/lang/Exception"]).filter goodWord)
theorem qtP : ∀ i ∈ qWq, cw i ∈ wsX10_needForm := fun i h => List.mem_cons_of_mem _ (List.mem_append_left _ (List.mem_map_of_mem h))
theorem qDO : okM 2693 qWq = true := qaq (by decide +kernel)
def qayj : List Nat := [2, 19, 20, 78, 79, 276, 322, 324, 653, 654, 655, 656, 657, 658, 659, 660, 661, 662, 663, 704, 705, 706, 1047, 1557, 1741, 1742, 1743, 1744, 1745, 1746, 1747, 1748, 1798, 1799, 1800, 2052, 2053, 2063, 2064, 2065, 2647, 2688, 2689, 2690, 2691, 2692, 2693, 2694, 2695, 2696, 2697, 2698, 4352, 4353, 4354, 4355, 4356, 4357, 4358, 4359, 4360, 4361, 4362, 4363, 4364, 4365, 4366, 4367, 4368, 4369, 4370, 4544, 4545, 4546, 4547, 4548, 4549, 4550, 4551, 4552, 4553, 4554, 4555, 4800, 4801, 4802, 4803]
def wsX10_form : List Cond := cw 2647 :: (wI qayj ++ (qqw RX10 268 "java/util/NoSuchElementException" 13 qxz ["java/lang/RuntimeException", "java/lang/Exception"]).filter goodWord ++ (vx_atS RX10 409 "java/lang/IllegalArgumentException" ["java/lang/RuntimeException", "java/lang/Exception"]).filter goodWord)
theorem qun : ∀ i ∈ qayj, cw i ∈ wsX10_form := fun i h => List.mem_cons_of_mem _ (List.mem_append_left _ (List.mem_append_left _ (List.mem_map_of_mem h)))
theorem qa2W : okM 2647 qayj = true := qaq (by decide +kernel)
def qWd : List Nat := [2, 20, 644, 657, 658, 659, 2694, 2695, 2696, 2758, 4352, 4353, 4354, 4355, 4356, 4357, 4358, 4359, 4360, 4361, 4362, 4363, 4364, 4365, 4366, 4367, 4368, 4369, 4370, 4544, 4545, 4546, 4547, 4548, 4549, 4550, 4551, 4552, 4553, 4554, 4555]
def wsX10_needHare : List Cond := cw 2758 :: (wI qWd ++ (qqw RX10 268 "java/util/NoSuchElementException" 13 qxz ["java/lang/RuntimeException", "java/lang/Exception"]).filter goodWord)
theorem qtC : ∀ i ∈ qWd, cw i ∈ wsX10_needHare := fun i h => List.mem_cons_of_mem _ (List.mem_append_left _ (List.mem_map_of_mem h))
theorem qtD : okM 2758 qWd = true := qaq (by decide +kernel)
def qaAJ : List Nat := [2, 20, 64, 78, 79, 200, 201, 202, 203, 208, 276, 322, 323, 324, 644, 650, 651, 652, 653, 654, 655, 656, 657, 658, 659, 660, 661, 662, 663, 704, 705, 706, 1741, 1742, 1743, 1744, 1745, 1746, 1747, 1748, 1794, 1795, 1796, 1797, 1798, 1799, 1800, 1801, 1802, 1803, 1804, 1805, 1806, 1807, 1808, 1809, 1810, 1811, 1812, 1813, 1814, 1815, 1856, 1857, 1858, 1859, 1860, 1861, 1862, 1863, 1864, 1865, 1866, 1867, 1868, 1869, 1870, 1871, 1872, 1873, 1874, 1875, 1876, 1877, 1878, 1879, 1920, 1921, 1922, 1923, 1924, 1925, 1926, 1927, 1928, 1929, 1930, 1931, 1932, 1933, 1934, 2694, 2695, 2696, 2753, 2754, 2755, 2756, 2757, 2758, 2759, 2760, 2761, 2762, 2763, 2764, 2765, 2766, 4352, 4353, 4354, 4355, 4356, 4357, 4358, 4359, 4360, 4361, 4362, 4363, 4364, 4365, 4366, 4367, 4368, 4369, 4370, 4544, 4545, 4546, 4547, 4548, 4549, 4550, 4551, 4552, 4553, 4554, 4555, 4608, 4609, 4610, 4611, 4612, 4800, 4801, 4802, 4803]
def wsX10_hare : List Cond := cw 2753 :: (wI qaAJ ++ (qqw RX10 268 "java/util/NoSuchElementException" 13 qxz ["java/lang/RuntimeException", "java/lang/Exception"]).filter goodWord ++ (vx_atS RX10 409 "java/lang/IllegalArgumentException" ["java/lang/RuntimeException", "java/lang/Exception"]).filter goodWord)
theorem qkE : ∀ i ∈ qaAJ, cw i ∈ wsX10_hare := fun i h => List.mem_cons_of_mem _ (List.mem_append_left _ (List.mem_append_left _ (List.mem_map_of_mem h)))
theorem qa2y : okM 2753 qaAJ = true := qaq (by decide +kernel)
def qaPz : List Nat := [2, 20, 653, 654, 655, 656, 657, 658, 659, 660, 661, 662, 663, 704, 705, 706, 2560, 2694, 2695, 2696, 2821, 2822, 2823, 4352, 4353, 4354, 4355, 4356, 4357, 4358, 4359, 4360, 4361, 4362, 4363, 4364, 4365, 4366, 4367, 4368, 4369, 4370, 4544, 4545, 4546, 4547, 4548, 4549, 4550, 4551, 4552, 4553, 4554, 4555]
def wsX10_fox : List Cond := cw 2821 :: (wI qaPz ++ (qqw RX10 268 "java/util/NoSuchElementException" 13 qxz ["java/lang/RuntimeException", "java/lang/Exception"]).filter goodWord ++ (vx_atS RX10 409 "java/lang/IllegalArgumentException" ["java/lang/RuntimeException", "java/lang/Exception"]).filter goodWord)
theorem qyI : ∀ i ∈ qaPz, cw i ∈ wsX10_fox := fun i h => List.mem_cons_of_mem _ (List.mem_append_left _ (List.mem_append_left _ (List.mem_map_of_mem h)))
theorem qa6E : okM 2821 qaPz = true := qaq (by decide +kernel)
def qavq : List Nat := [2, 20, 78, 79, 276, 644, 657, 658, 659, 1861, 1862, 1863, 2694, 2695, 2696, 2755, 2756, 2757, 2758, 2834, 2835, 4352, 4353, 4354, 4355, 4356, 4357, 4358, 4359, 4360, 4361, 4362, 4363, 4364, 4365, 4366, 4367, 4368, 4369, 4370, 4544, 4545, 4546, 4547, 4548, 4549, 4550, 4551, 4552, 4553, 4554, 4555, 4800, 4801, 4802, 4803]
def wsX10_debt : List Cond := cw 2834 :: (wI qavq ++ (qqw RX10 268 "java/util/NoSuchElementException" 13 qxz ["java/lang/RuntimeException", "java/lang/Exception"]).filter goodWord)
theorem qOB : ∀ i ∈ qavq, cw i ∈ wsX10_debt := fun i h => List.mem_cons_of_mem _ (List.mem_append_left _ (List.mem_map_of_mem h))
theorem qa1K : okM 2834 qavq = true := qaq (by decide +kernel)
def qaO4 : List Nat := [2, 19, 20, 148, 149, 651, 657, 658, 659, 1092, 1093, 1094, 1557, 1750, 1751, 1792, 2690, 2691, 2692, 2693, 2694, 2695, 2696, 2886, 2887, 4352, 4353, 4354, 4355, 4356, 4357, 4358, 4359, 4360, 4361, 4362, 4363, 4364, 4365, 4366, 4367, 4368, 4369, 4370, 4544, 4545, 4546, 4547, 4548, 4549, 4550, 4551, 4552, 4553, 4554, 4555]
def wsX10_far : List Cond := cw 2886 :: (wI qaO4 ++ (qqw RX10 268 "java/util/NoSuchElementException" 13 qxz ["java/lang/RuntimeException", "java/lang/Exception"]).filter goodWord)
theorem qUN : ∀ i ∈ qaO4, cw i ∈ wsX10_far := fun i h => List.mem_cons_of_mem _ (List.mem_append_left _ (List.mem_map_of_mem h))
theorem qa6h : okM 2886 qaO4 = true := qaq (by decide +kernel)
def qaiB : List Nat := [2, 64, 65, 200, 201, 202, 203, 208, 650, 651, 652, 653, 654, 655, 656, 657, 658, 659, 660, 661, 662, 663, 704, 705, 706, 1869, 1870, 1871, 1921, 1922, 1923, 1925, 1926, 1927, 1928, 1929, 1930, 1931, 1932, 1933, 1934, 2898, 2899, 2900, 2901, 4352, 4353, 4354, 4355, 4356, 4357, 4358, 4359, 4360, 4361, 4362, 4363, 4364, 4365, 4366, 4367, 4368, 4369, 4370, 4608, 4609, 4610, 4611, 4612]
def wsX10_would : List Cond := cw 2898 :: (wI qaiB ++ (vx_atS RX10 409 "java/lang/IllegalArgumentException" ["java/lang/RuntimeException", "java/lang/Exception"]).filter goodWord)
theorem qxO : ∀ i ∈ qaiB, cw i ∈ wsX10_would := fun i h => List.mem_cons_of_mem _ (List.mem_append_left _ (List.mem_map_of_mem h))
theorem qaY7 : okM 2898 qaiB = true := qaq (by decide +kernel)
def qaOA : List Nat := [2, 19, 20, 64, 78, 79, 148, 149, 200, 201, 202, 203, 208, 276, 322, 323, 324, 644, 650, 651, 652, 657, 658, 659, 1092, 1093, 1094, 1557, 1738, 1739, 1740, 1741, 1742, 1743, 1744, 1745, 1746, 1747, 1748, 1749, 1750, 1751, 1792, 1793, 1794, 1795, 1796, 1797, 1798, 1799, 1800, 1801, 1802, 1803, 1804, 1805, 1806, 1807, 1808, 1809, 1810, 1811, 1812, 1813, 1814, 1815, 1856, 1857, 1858, 1859, 1860, 1861, 1862, 1863, 1864, 1865, 1866, 1867, 1868, 1869, 1870, 1871, 1872, 1873, 1874, 1875, 1876, 1877, 1878, 1879, 1920, 1921, 1922, 1923, 1924, 1925, 1926, 1927, 1928, 1929, 1930, 1931, 1932, 1933, 1934, 2690, 2691, 2692, 2693, 2694, 2695, 2696, 2755, 2756, 2757, 2758, 2952, 2953, 4352, 4353, 4354, 4355, 4356, 4357, 4358, 4359, 4360, 4361, 4362, 4363, 4364, 4365, 4366, 4367, 4368, 4369, 4370, 4544, 4545, 4546, 4547, 4548, 4549, 4550, 4551, 4552, 4553, 4554, 4555, 4608, 4609, 4610, 4611, 4612, 4800, 4801, 4802, 4803]
def wsX10_can : List Cond := cw 2952 :: (wI qaOA ++ (qqw RX10 268 "java/util/NoSuchElementException" 13 qxz ["java/lang/RuntimeException", "java/lang/Exception"]).filter goodWord)
theorem qLM : ∀ i ∈ qaOA, cw i ∈ wsX10_can := fun i h => List.mem_cons_of_mem _ (List.mem_append_left _ (List.mem_map_of_mem h))
theorem qa3n : okM 2952 qaOA = true := qaq (by decide +kernel)
def qaje : List Nat := [2, 19, 78, 79, 80, 276, 322, 323, 324, 326, 328, 329, 330, 331, 653, 654, 655, 656, 657, 658, 659, 660, 661, 662, 663, 704, 705, 706, 1047, 1741, 1742, 1743, 1744, 1745, 1746, 1747, 1748, 1812, 1813, 1814, 1815, 1856, 1857, 1858, 1859, 1860, 1861, 1862, 1863, 1873, 1874, 1875, 2049, 2050, 2051, 2052, 2053, 2054, 2055, 2056, 2057, 2058, 2059, 2060, 2061, 2062, 2063, 2064, 2065, 2066, 2067, 2068, 2069, 2562, 2564, 2565, 2566, 2567, 2572, 2573, 2574, 2575, 2964, 2965, 2966, 2967, 3008, 3009, 4352, 4353, 4354, 4355, 4356, 4357, 4358, 4359, 4360, 4361, 4362, 4363, 4364, 4365, 4366, 4367, 4368, 4369, 4370, 4544, 4545, 4546, 4547, 4548, 4549, 4550, 4551, 4552, 4553, 4554, 4555, 4800, 4801, 4802, 4803]
def wsX10_ahead : List Cond := cw 2964 :: (wI qaje ++ (vx_atS RX10 409 "java/lang/IllegalArgumentException" ["java/lang/RuntimeException", "java/lang/Exception"]).filter goodWord)
theorem qq7 : ∀ i ∈ qaje, cw i ∈ wsX10_ahead := fun i h => List.mem_cons_of_mem _ (List.mem_append_left _ (List.mem_map_of_mem h))
theorem qaXN : okM 2964 qaje = true := qaq (by decide +kernel)
def qayN : List Nat := [2, 19, 20, 64, 78, 79, 148, 149, 200, 201, 202, 203, 208, 276, 322, 323, 324, 644, 650, 651, 652, 657, 658, 659, 720, 1092, 1093, 1094, 1557, 1741, 1742, 1743, 1744, 1745, 1746, 1747, 1748, 1750, 1751, 1792, 1794, 1795, 1796, 1797, 1798, 1799, 1800, 1801, 1802, 1803, 1804, 1805, 1806, 1807, 1808, 1809, 1810, 1811, 1812, 1813, 1814, 1815, 1856, 1857, 1858, 1859, 1860, 1861, 1862, 1863, 1864, 1865, 1866, 1867, 1868, 1869, 1870, 1871, 1872, 1873, 1874, 1875, 1876, 1877, 1878, 1879, 1920, 1921, 1922, 1923, 1924, 1925, 1926, 1927, 1928, 1929, 1930, 1931, 1932, 1933, 1934, 2052, 2053, 2690, 2691, 2692, 2693, 2694, 2695, 2696, 2755, 2756, 2757, 2758, 2759, 2760, 2766, 3020, 3021, 3022, 3023, 3024, 3025, 3026, 3027, 3028, 3029, 4352, 4353, 4354, 4355, 4356, 4357, 4358, 4359, 4360, 4361, 4362, 4363, 4364, 4365, 4366, 4367, 4368, 4369, 4370, 4544, 4545, 4546, 4547, 4548, 4549, 4550, 4551, 4552, 4553, 4554, 4555, 4608, 4609, 4610, 4611, 4612, 4800, 4801, 4802, 4803]
def wsX10_hops : List Cond := cw 3020 :: (wI qayN ++ (qqw RX10 268 "java/util/NoSuchElementException" 13 qxz ["java/lang/RuntimeException", "java/lang/Exception"]).filter goodWord)
theorem qth : ∀ i ∈ qayN, cw i ∈ wsX10_hops := fun i h => List.mem_cons_of_mem _ (List.mem_append_left _ (List.mem_map_of_mem h))
theorem qa1s : okM 3020 qayN = true := qaq (by decide +kernel)
def qaLC : List Nat := [2, 19, 64, 78, 79, 132, 133, 148, 149, 200, 201, 202, 203, 208, 276, 322, 323, 324, 384, 385, 386, 650, 651, 652, 720, 1092, 1093, 1094, 1741, 1742, 1743, 1744, 1745, 1746, 1747, 1748, 1750, 1751, 1792, 1793, 1794, 1795, 1796, 1797, 1798, 1799, 1800, 1801, 1802, 1803, 1804, 1805, 1806, 1807, 1808, 1809, 1810, 1811, 1812, 1813, 1814, 1815, 1856, 1857, 1858, 1859, 1860, 1861, 1862, 1863, 1864, 1865, 1866, 1867, 1868, 1869, 1870, 1871, 1872, 1873, 1874, 1875, 1876, 1877, 1878, 1879, 1920, 1921, 1922, 1923, 1924, 1925, 1926, 1927, 1928, 1929, 1930, 1931, 1932, 1933, 1934, 2052, 2053, 3026, 3027, 3028, 3029, 3077, 3078, 3079, 3080, 3081, 3082, 3083, 3084, 3085, 3086, 3087, 3088, 3089, 3090, 3091, 3092, 3093, 3094, 3095, 3136, 3137, 3138, 3139, 3140, 3141, 3142, 3143, 3144, 3145, 3146, 3147, 3148, 3149, 3150, 3151, 3152, 3153, 3154, 4352, 4353, 4354, 4355, 4356, 4357, 4358, 4359, 4360, 4361, 4362, 4363, 4364, 4365, 4366, 4367, 4368, 4369, 4370, 4544, 4545, 4546, 4547, 4548, 4549, 4550, 4551, 4552, 4553, 4554, 4555, 4608, 4609, 4610, 4611, 4612, 4800, 4801, 4802, 4803, 4992, 4993, 4994, 4995]
def wsX10_seats : List Cond := cw 3077 :: wI qaLC
theorem qFX : ∀ i ∈ qaLC, cw i ∈ wsX10_seats := fun i h => List.mem_cons_of_mem _ (List.mem_map_of_mem h)
def qaxH : List Nat := [2, 19, 20, 64, 78, 79, 132, 133, 148, 149, 200, 201, 202, 203, 208, 276, 322, 323, 324, 384, 385, 386, 644, 650, 651, 652, 657, 658, 659, 720, 1092, 1093, 1094, 1741, 1742, 1743, 1744, 1745, 1746, 1747, 1748, 1750, 1751, 1792, 1793, 1794, 1795, 1796, 1797, 1798, 1799, 1800, 1801, 1802, 1803, 1804, 1805, 1806, 1807, 1808, 1809, 1810, 1811, 1812, 1813, 1814, 1815, 1856, 1857, 1858, 1859, 1860, 1861, 1862, 1863, 1864, 1865, 1866, 1867, 1868, 1869, 1870, 1871, 1872, 1873, 1874, 1875, 1876, 1877, 1878, 1879, 1920, 1921, 1922, 1923, 1924, 1925, 1926, 1927, 1928, 1929, 1930, 1931, 1932, 1933, 1934, 2052, 2053, 2694, 2695, 2696, 2755, 2756, 2757, 2758, 3026, 3027, 3028, 3029, 3079, 3080, 3081, 3082, 3083, 3084, 3085, 3086, 3087, 3088, 3089, 3090, 3091, 3092, 3093, 3094, 3095, 3136, 3137, 3138, 3139, 3140, 3141, 3142, 3143, 3144, 3145, 3146, 3147, 3148, 3149, 3150, 3151, 3152, 3153, 3154, 3213, 3214, 4352, 4353, 4354, 4355, 4356, 4357, 4358, 4359, 4360, 4361, 4362, 4363, 4364, 4365, 4366, 4367, 4368, 4369, 4370, 4544, 4545, 4546, 4547, 4548, 4549, 4550, 4551, 4552, 4553, 4554, 4555, 4608, 4609, 4610, 4611, 4612, 4800, 4801, 4802, 4803, 4992, 4993, 4994, 4995]
def wsX10_seat : List Cond := cw 3213 :: (wI qaxH ++ (qqw RX10 268 "java/util/NoSuchElementException" 13 qxz ["java/lang/RuntimeException", "java/lang/Exception"]).filter goodWord)
theorem qCW : ∀ i ∈ qaxH, cw i ∈ wsX10_seat := fun i h => List.mem_cons_of_mem _ (List.mem_append_left _ (List.mem_map_of_mem h))
theorem qa1Z : okM 3213 qaxH = true := qaq (by decide +kernel)
def qaUA : List Nat := [2, 19, 20, 128, 129, 148, 149, 339, 340, 650, 651, 652, 1092, 1093, 1094, 1750, 1751, 1792, 2052, 2053, 3222, 3223, 3264, 3265, 3266, 3267, 3268, 3269, 3270, 3271, 3272, 3273, 3274, 3275, 3276, 3277, 3278, 3279, 3280, 3281, 3282, 3283, 3284, 3285, 3286, 3287, 3328, 3329, 3330, 3331, 3332, 4352, 4353, 4354, 4355, 4356, 4357, 4358, 4359, 4360, 4361, 4362, 4363, 4364, 4365, 4366, 4367, 4368, 4369, 4370, 4544, 4545, 4546, 4547, 4548, 4549, 4550, 4551, 4552, 4553, 4554, 4555, 4928, 4929, 4930]
def wsX10_ring : List Cond := cw 3222 :: wI qaUA
theorem qJ8 : ∀ i ∈ qaUA, cw i ∈ wsX10_ring := fun i h => List.mem_cons_of_mem _ (List.mem_map_of_mem h)
def qabC : List Nat := [2, 19, 20, 128, 129, 148, 149, 339, 340, 650, 651, 652, 660, 661, 662, 663, 704, 705, 706, 1092, 1093, 1094, 1557, 1750, 1751, 1792, 2052, 2053, 3264, 3265, 3266, 3267, 3268, 3269, 3270, 3271, 3272, 3273, 3274, 3275, 3276, 3277, 3278, 3279, 3280, 3281, 3282, 3283, 3284, 3285, 3286, 3287, 3328, 3329, 3330, 3331, 3332, 3347, 3348, 4352, 4353, 4354, 4355, 4356, 4357, 4358, 4359, 4360, 4361, 4362, 4363, 4364, 4365, 4366, 4367, 4368, 4369, 4370, 4544, 4545, 4546, 4547, 4548, 4549, 4550, 4551, 4552, 4553, 4554, 4555, 4928, 4929, 4930]
def wsX10_ringed : List Cond := cw 3347 :: (wI qabC ++ (vx_atS RX10 409 "java/lang/IllegalArgumentException" ["java/lang/RuntimeException", "java/lang/Exception"]).filter goodWord)
theorem qt1 : ∀ i ∈ qabC, cw i ∈ wsX10_ringed := fun i h => List.mem_cons_of_mem _ (List.mem_append_left _ (List.mem_map_of_mem h))
theorem qaUy : okM 3347 qabC = true := qaq (by decide +kernel)
def qT3 : List Nat := [2, 78, 276, 651, 1809, 1810, 1811, 1930, 1931, 2052, 2053, 2761, 3404, 3405, 3406, 3407, 3408, 4800, 4801, 4802, 4803]
def wsX10_ordersWon : List Cond := cw 3407 :: wI qT3
theorem qk1 : ∀ i ∈ qT3, cw i ∈ wsX10_ordersWon := fun i h => List.mem_cons_of_mem _ (List.mem_map_of_mem h)
theorem q2I : okM 3407 qT3 = true := qaq (by decide +kernel)
def qam0 : List Nat := [2, 20, 78, 79, 276, 322, 324, 644, 651, 657, 658, 659, 1742, 1743, 1744, 1809, 1810, 1811, 1930, 1931, 2052, 2053, 2694, 2695, 2696, 2755, 2756, 2757, 2758, 2759, 2761, 3399, 3400, 3401, 3402, 3403, 3404, 3405, 3406, 3407, 3408, 4352, 4353, 4354, 4355, 4356, 4357, 4358, 4359, 4360, 4361, 4362, 4363, 4364, 4365, 4366, 4367, 4368, 4369, 4370, 4544, 4545, 4546, 4547, 4548, 4549, 4550, 4551, 4552, 4553, 4554, 4555, 4800, 4801, 4802, 4803]
def wsX10_bouts : List Cond := cw 3399 :: (wI qam0 ++ (qqw RX10 268 "java/util/NoSuchElementException" 13 qxz ["java/lang/RuntimeException", "java/lang/Exception"]).filter goodWord)
theorem qph : ∀ i ∈ qam0, cw i ∈ wsX10_bouts := fun i h => List.mem_cons_of_mem _ (List.mem_append_left _ (List.mem_map_of_mem h))
theorem qaZU : okM 3399 qam0 = true := qaq (by decide +kernel)
def qax7 : List Nat := [2, 69, 70, 78, 79, 136, 137, 257, 276, 322, 324, 390, 391, 392, 653, 654, 655, 656, 657, 658, 659, 660, 661, 662, 663, 704, 705, 706, 1741, 1742, 1743, 1744, 1745, 1746, 1747, 1748, 1798, 1799, 1800, 1802, 1803, 1804, 1805, 1806, 1807, 3463, 3464, 3465, 3466, 3467, 3468, 3469, 3470, 3471, 3472, 3473, 3474, 3475, 3476, 3477, 3478, 3479, 3520, 3521, 3522, 3523, 3524, 3525, 3526, 3527, 3528, 3529, 3530, 3531, 3532, 3533, 3534, 3535, 3536, 3537, 4352, 4353, 4354, 4355, 4356, 4357, 4358, 4359, 4360, 4361, 4362, 4363, 4364, 4365, 4366, 4367, 4368, 4369, 4370, 4544, 4545, 4546, 4547, 4548, 4549, 4550, 4551, 4552, 4553, 4554, 4555, 4672, 4673, 4800, 4801, 4802, 4803, 5056, 5057, 5058, 5059, 5060, 5061, 5062, 5063, 5064, 5065, 5066]
def wsX10_fits : List Cond := cw 3463 :: (wI qax7 ++ (vx_atS RX10 409 "java/lang/IllegalArgumentException" ["java/lang/RuntimeException", "java/lang/Exception"]).filter goodWord)
theorem qyZ : ∀ i ∈ qax7, cw i ∈ wsX10_fits := fun i h => List.mem_cons_of_mem _ (List.mem_append_left _ (List.mem_map_of_mem h))
theorem qa1G : okM 3463 qax7 = true := qaq (by decide +kernel)
def qaDy : List Nat := [2, 69, 70, 78, 79, 136, 137, 257, 276, 322, 324, 390, 391, 392, 393, 651, 653, 654, 655, 656, 657, 658, 659, 660, 661, 662, 663, 704, 705, 706, 1741, 1742, 1743, 1744, 1745, 1746, 1747, 1748, 1798, 1799, 1800, 1802, 1803, 1804, 1805, 1806, 1807, 1930, 1931, 2052, 2053, 2443, 2444, 2445, 3466, 3467, 3468, 3469, 3470, 3471, 3472, 3473, 3474, 3475, 3476, 3477, 3478, 3479, 3520, 3521, 3522, 3523, 3524, 3525, 3526, 3527, 3528, 3529, 3530, 3531, 3532, 3533, 3534, 3535, 3536, 3537, 3596, 3597, 3598, 3599, 3600, 3601, 3602, 3603, 3604, 3605, 3606, 3607, 3648, 3649, 3650, 3651, 3652, 3653, 3654, 4352, 4353, 4354, 4355, 4356, 4357, 4358, 4359, 4360, 4361, 4362, 4363, 4364, 4365, 4366, 4367, 4368, 4369, 4370, 4544, 4545, 4546, 4547, 4548, 4549, 4550, 4551, 4552, 4553, 4554, 4555, 4672, 4673, 4800, 4801, 4802, 4803, 5056, 5057, 5058, 5059, 5060, 5061, 5062, 5063, 5064, 5065, 5066]
def wsX10_look : List Cond := cw 3596 :: (wI qaDy ++ (vx_atS RX10 409 "java/lang/IllegalArgumentException" ["java/lang/RuntimeException", "java/lang/Exception"]).filter goodWord)
theorem qvA : ∀ i ∈ qaDy, cw i ∈ wsX10_look := fun i h => List.mem_cons_of_mem _ (List.mem_append_left _ (List.mem_map_of_mem h))
theorem qa15 : okM 3596 qaDy = true := qaq (by decide +kernel)
def qaiO : List Nat := [2, 19, 20, 148, 149, 195, 651, 653, 654, 655, 656, 657, 658, 659, 660, 661, 662, 663, 704, 705, 706, 720, 1092, 1093, 1094, 1750, 1751, 1792, 1802, 1803, 1804, 1805, 1806, 1807, 2052, 2053, 3025, 3026, 3027, 3028, 3029, 3669, 3670, 3671, 3712, 3713, 3714, 3715, 3716, 3717, 3718, 4352, 4353, 4354, 4355, 4356, 4357, 4358, 4359, 4360, 4361, 4362, 4363, 4364, 4365, 4366, 4367, 4368, 4369, 4370, 4544, 4545, 4546, 4547, 4548, 4549, 4550, 4551, 4552, 4553, 4554, 4555]
def wsX10_watch : List Cond := cw 3669 :: (wI qaiO ++ (vx_atS RX10 409 "java/lang/IllegalArgumentException" ["java/lang/RuntimeException", "java/lang/Exception"]).filter goodWord)
theorem qJ2 : ∀ i ∈ qaiO, cw i ∈ wsX10_watch := fun i h => List.mem_cons_of_mem _ (List.mem_append_left _ (List.mem_map_of_mem h))
theorem qaYD : okM 3669 qaiO = true := qaq (by decide +kernel)
def qaoo : List Nat := [3732]
def wsX10_choices : List Cond := cw 3732 :: wI qaoo
theorem qaMU : okM 3732 qaoo = true := qaq (by decide +kernel)
def qaL1 : List Nat := [3735]
def wsX10_power : List Cond := cw 3735 :: wI qaL1
theorem qaXD : okM 3735 qaL1 = true := qaq (by decide +kernel)
def qaQu : List Nat := [2, 653, 654, 655, 656, 657, 658, 659, 660, 661, 662, 663, 704, 705, 706, 3729, 3730, 3731, 3732, 3733, 3734, 3735, 4352, 4353, 4354, 4355, 4356, 4357, 4358, 4359, 4360, 4361, 4362, 4363, 4364, 4365, 4366, 4367, 4368, 4369, 4370]
def wsX10_few : List Cond := cw 3729 :: (wI qaQu ++ (vx_atS RX10 409 "java/lang/IllegalArgumentException" ["java/lang/RuntimeException", "java/lang/Exception"]).filter goodWord)
theorem qVu : ∀ i ∈ qaQu, cw i ∈ wsX10_few := fun i h => List.mem_cons_of_mem _ (List.mem_append_left _ (List.mem_map_of_mem h))
theorem qa9e : okM 3729 qaQu = true := qaq (by decide +kernel)
def qaV6 : List Nat := [3793]
def wsX10_gain : List Cond := cw 3793 :: wI qaV6
theorem qa1y : okM 3793 qaV6 = true := qaq (by decide +kernel)
def qawO : List Nat := [2, 653, 654, 655, 656, 657, 658, 659, 660, 661, 662, 663, 704, 705, 706, 3790, 3791, 3792, 3793, 4352, 4353, 4354, 4355, 4356, 4357, 4358, 4359, 4360, 4361, 4362, 4363, 4364, 4365, 4366, 4367, 4368, 4369, 4370]
def wsX10_road : List Cond := cw 3790 :: (wI qawO ++ (vx_atS RX10 409 "java/lang/IllegalArgumentException" ["java/lang/RuntimeException", "java/lang/Exception"]).filter goodWord)
theorem q5m : ∀ i ∈ qawO, cw i ∈ wsX10_road := fun i h => List.mem_cons_of_mem _ (List.mem_append_left _ (List.mem_map_of_mem h))
theorem qa2f : okM 3790 qawO = true := qaq (by decide +kernel)
def qaaI : List Nat := [2, 20, 78, 79, 276, 277, 322, 324, 644, 650, 651, 652, 653, 654, 655, 656, 657, 658, 659, 660, 661, 662, 663, 704, 705, 706, 1860, 1861, 1862, 1863, 1864, 1865, 1866, 1867, 2052, 2053, 2694, 2695, 2696, 2755, 2756, 2757, 2758, 3404, 3847, 3848, 3849, 3850, 3851, 3852, 3853, 3854, 3855, 3856, 4352, 4353, 4354, 4355, 4356, 4357, 4358, 4359, 4360, 4361, 4362, 4363, 4364, 4365, 4366, 4367, 4368, 4369, 4370, 4544, 4545, 4546, 4547, 4548, 4549, 4550, 4551, 4552, 4553, 4554, 4555, 4800, 4801, 4802, 4803]
def wsX10_clover : List Cond := cw 3847 :: (wI qaaI ++ (qqw RX10 268 "java/util/NoSuchElementException" 13 qxz ["java/lang/RuntimeException", "java/lang/Exception"]).filter goodWord ++ (vx_atS RX10 409 "java/lang/IllegalArgumentException" ["java/lang/RuntimeException", "java/lang/Exception"]).filter goodWord)
theorem qrr : ∀ i ∈ qaaI, cw i ∈ wsX10_clover := fun i h => List.mem_cons_of_mem _ (List.mem_append_left _ (List.mem_append_left _ (List.mem_map_of_mem h)))
theorem qaS7 : okM 3847 qaaI = true := qaq (by decide +kernel)
def qTo : List Nat := [2, 20, 78, 79, 276, 644, 653, 654, 655, 656, 657, 658, 659, 660, 661, 662, 663, 704, 705, 706, 1742, 1743, 1744, 1809, 1810, 1811, 2759, 2761, 3911, 4352, 4353, 4354, 4355, 4356, 4357, 4358, 4359, 4360, 4361, 4362, 4363, 4364, 4365, 4366, 4367, 4368, 4369, 4370, 4544, 4545, 4546, 4547, 4548, 4549, 4550, 4551, 4552, 4553, 4554, 4555, 4800, 4801, 4802, 4803]
def wsX10_strongest : List Cond := cw 3911 :: (wI qTo ++ (vx_atS RX10 409 "java/lang/IllegalArgumentException" ["java/lang/RuntimeException", "java/lang/Exception"]).filter goodWord)
theorem qpk : ∀ i ∈ qTo, cw i ∈ wsX10_strongest := fun i h => List.mem_cons_of_mem _ (List.mem_append_left _ (List.mem_map_of_mem h))
theorem qaBM : okM 3911 qTo = true := qaq (by decide +kernel)
def qavU : List Nat := [2, 20, 78, 79, 276, 644, 653, 654, 655, 656, 657, 658, 659, 660, 661, 662, 663, 704, 705, 706, 1861, 1862, 1863, 2694, 2695, 2696, 2755, 2756, 2757, 2758, 2835, 3922, 4352, 4353, 4354, 4355, 4356, 4357, 4358, 4359, 4360, 4361, 4362, 4363, 4364, 4365, 4366, 4367, 4368, 4369, 4370, 4544, 4545, 4546, 4547, 4548, 4549, 4550, 4551, 4552, 4553, 4554, 4555, 4800, 4801, 4802, 4803]
def wsX10_ties : List Cond := cw 3922 :: (wI qavU ++ (qqw RX10 268 "java/util/NoSuchElementException" 13 qxz ["java/lang/RuntimeException", "java/lang/Exception"]).filter goodWord ++ (vx_atS RX10 409 "java/lang/IllegalArgumentException" ["java/lang/RuntimeException", "java/lang/Exception"]).filter goodWord)
theorem qyO : ∀ i ∈ qavU, cw i ∈ wsX10_ties := fun i h => List.mem_cons_of_mem _ (List.mem_append_left _ (List.mem_append_left _ (List.mem_map_of_mem h)))
theorem qa2c : okM 3922 qavU = true := qaq (by decide +kernel)
def qacx : List Nat := [2, 19, 20, 148, 149, 651, 653, 654, 655, 656, 657, 658, 659, 660, 661, 662, 663, 704, 705, 706, 1047, 1092, 1093, 1094, 1557, 1750, 1751, 1792, 2052, 2053, 2063, 2064, 2065, 2690, 2691, 2692, 2693, 2694, 2695, 2696, 2697, 2887, 3973, 4352, 4353, 4354, 4355, 4356, 4357, 4358, 4359, 4360, 4361, 4362, 4363, 4364, 4365, 4366, 4367, 4368, 4369, 4370, 4544, 4545, 4546, 4547, 4548, 4549, 4550, 4551, 4552, 4553, 4554, 4555]
def wsX10_refuge : List Cond := cw 3973 :: (wI qacx ++ (qqw RX10 268 "java/util/NoSuchElementException" 13 qxz ["java/lang/RuntimeException", "java/lang/Exception"]).filter goodWord ++ (vx_atS RX10 409 "java/lang/IllegalArgumentException" ["java/lang/RuntimeException", "java/lang/Exception"]).filter goodWord)
theorem qsB : ∀ i ∈ qacx, cw i ∈ wsX10_refuge := fun i h => List.mem_cons_of_mem _ (List.mem_append_left _ (List.mem_append_left _ (List.mem_map_of_mem h)))
theorem qaT2 : okM 3973 qacx = true := qaq (by decide +kernel)
def qamm : List Nat := [2, 19, 20, 64, 78, 79, 148, 149, 200, 201, 202, 203, 208, 276, 322, 323, 324, 644, 650, 651, 652, 657, 658, 659, 720, 1092, 1093, 1094, 1741, 1742, 1743, 1744, 1745, 1746, 1747, 1748, 1750, 1751, 1792, 1793, 1794, 1795, 1796, 1797, 1798, 1799, 1800, 1801, 1802, 1803, 1804, 1805, 1806, 1807, 1808, 1809, 1810, 1811, 1812, 1813, 1814, 1815, 1856, 1857, 1858, 1859, 1860, 1861, 1862, 1863, 1864, 1865, 1866, 1867, 1868, 1869, 1870, 1871, 1872, 1873, 1874, 1875, 1876, 1877, 1878, 1879, 1920, 1921, 1922, 1923, 1924, 1925, 1926, 1927, 1928, 1929, 1930, 1931, 1932, 1933, 1934, 2694, 2695, 2696, 2755, 2756, 2757, 2758, 3026, 3027, 3028, 3029, 3094, 3095, 3136, 3984, 3985, 4352, 4353, 4354, 4355, 4356, 4357, 4358, 4359, 4360, 4361, 4362, 4363, 4364, 4365, 4366, 4367, 4368, 4369, 4370, 4544, 4545, 4546, 4547, 4548, 4549, 4550, 4551, 4552, 4553, 4554, 4555, 4608, 4609, 4610, 4611, 4612, 4800, 4801, 4802, 4803]
def wsX10_range : List Cond := cw 3984 :: (wI qamm ++ (qqw RX10 268 "java/util/NoSuchElementException" 13 qxz ["java/lang/RuntimeException", "java/lang/Exception"]).filter goodWord)
theorem qJV : ∀ i ∈ qamm, cw i ∈ wsX10_range := fun i h => List.mem_cons_of_mem _ (List.mem_append_left _ (List.mem_map_of_mem h))
theorem qaWK : okM 3984 qamm = true := qaq (by decide +kernel)
def qakf : List Nat := [2, 19, 64, 78, 79, 80, 148, 149, 200, 201, 202, 203, 208, 276, 322, 323, 324, 326, 328, 329, 330, 331, 650, 651, 652, 653, 654, 655, 656, 657, 658, 659, 660, 661, 662, 663, 704, 705, 706, 1047, 1092, 1093, 1094, 1738, 1739, 1740, 1741, 1742, 1743, 1744, 1745, 1746, 1747, 1748, 1749, 1750, 1751, 1792, 1793, 1794, 1795, 1796, 1797, 1798, 1799, 1800, 1801, 1802, 1803, 1804, 1805, 1806, 1807, 1808, 1809, 1810, 1811, 1812, 1813, 1814, 1815, 1856, 1857, 1858, 1859, 1860, 1861, 1862, 1863, 1864, 1865, 1866, 1867, 1868, 1869, 1870, 1871, 1872, 1873, 1874, 1875, 1876, 1877, 1878, 1879, 1920, 1921, 1922, 1923, 1924, 1925, 1926, 1927, 1928, 1929, 1930, 1931, 1932, 1933, 1934, 1936, 1937, 1938, 1992, 1993, 1994, 1995, 1996, 1997, 1998, 2000, 2001, 2002, 2003, 2049, 2050, 2051, 2052, 2053, 2054, 2055, 2056, 2057, 2058, 2059, 2060, 2061, 2062, 2063, 2064, 2065, 2066, 2067, 2068, 2069, 2562, 2564, 2565, 2566, 2567, 2965, 2966, 2967, 3008, 4036, 4037, 4038, 4039, 4040, 4041, 4042, 4043, 4044, 4045, 4046, 4047, 4048, 4049, 4050, 4051, 4052, 4053, 4054, 4055, 4096, 4097, 4098, 4099, 4100, 4101, 4102, 4103, 4104, 4105, 4352, 4353, 4354, 4355, 4356, 4357, 4358, 4359, 4360, 4361, 4362, 4363, 4364, 4365, 4366, 4367, 4368, 4369, 4370, 4544, 4545, 4546, 4547, 4548, 4549, 4550, 4551, 4552, 4553, 4554, 4555, 4608, 4609, 4610, 4611, 4612, 4800, 4801, 4802, 4803]
def wsX10_march : List Cond := cw 4036 :: (wI qakf ++ (vx_atS RX10 409 "java/lang/IllegalArgumentException" ["java/lang/RuntimeException", "java/lang/Exception"]).filter goodWord)
theorem qq6 : ∀ i ∈ qakf, cw i ∈ wsX10_march := fun i h => List.mem_cons_of_mem _ (List.mem_append_left _ (List.mem_map_of_mem h))
theorem qaYU : okM 4036 qakf = true := qaq (by decide +kernel)
def qaEf : List Nat := [2, 19, 20, 64, 78, 79, 80, 148, 149, 200, 201, 202, 203, 208, 276, 322, 323, 324, 326, 328, 329, 330, 331, 644, 649, 650, 651, 652, 653, 654, 655, 656, 657, 658, 659, 660, 661, 662, 663, 704, 705, 706, 1047, 1092, 1093, 1094, 1738, 1739, 1740, 1741, 1742, 1743, 1744, 1745, 1746, 1747, 1748, 1749, 1750, 1751, 1792, 1793, 1794, 1795, 1796, 1797, 1798, 1799, 1800, 1801, 1802, 1803, 1804, 1805, 1806, 1807, 1808, 1809, 1810, 1811, 1812, 1813, 1814, 1815, 1856, 1857, 1858, 1859, 1860, 1861, 1862, 1863, 1864, 1865, 1866, 1867, 1868, 1869, 1870, 1871, 1872, 1873, 1874, 1875, 1876, 1877, 1878, 1879, 1920, 1921, 1922, 1923, 1924, 1925, 1926, 1927, 1928, 1929, 1930, 1931, 1932, 1933, 1934, 1936, 1937, 1938, 1992, 1993, 1994, 1995, 1996, 1997, 1998, 2000, 2001, 2002, 2003, 2049, 2050, 2051, 2052, 2053, 2054, 2055, 2056, 2057, 2058, 2059, 2060, 2061, 2062, 2063, 2064, 2065, 2066, 2067, 2068, 2069, 2759, 2965, 2966, 2967, 3008, 3408, 4037, 4038, 4039, 4040, 4041, 4042, 4043, 4044, 4045, 4046, 4047, 4048, 4049, 4050, 4051, 4052, 4053, 4054, 4055, 4096, 4097, 4098, 4099, 4100, 4101, 4171, 4172, 4352, 4353, 4354, 4355, 4356, 4357, 4358, 4359, 4360, 4361, 4362, 4363, 4364, 4365, 4366, 4367, 4368, 4369, 4370, 4544, 4545, 4546, 4547, 4548, 4549, 4550, 4551, 4552, 4553, 4554, 4555, 4608, 4609, 4610, 4611, 4612, 4800, 4801, 4802, 4803]
def wsX10_span : List Cond := cw 4171 :: (wI qaEf ++ (vx_atS RX10 409 "java/lang/IllegalArgumentException" ["java/lang/RuntimeException", "java/lang/Exception"]).filter goodWord)
theorem qny : ∀ i ∈ qaEf, cw i ∈ wsX10_span := fun i h => List.mem_cons_of_mem _ (List.mem_append_left _ (List.mem_map_of_mem h))
theorem qa2r : okM 4171 qaEf = true := qaq (by decide +kernel)
def qaLj : List Nat := [79, 83, 84, 85, 329, 330, 331, 335, 642, 1672, 1673, 1674, 1675, 1676, 1677, 1678, 4180, 4181, 4182, 4183, 4224, 4352, 4353, 4354, 4355, 4356, 4357, 4358, 4359, 4360, 4361, 4362, 4363, 4364, 4365, 4366, 4367, 4368, 4369, 4370, 4800, 4801, 4802, 4803, 4864, 4865]
def wsX10_image : List Cond := cw 4180 :: wI qaLj
theorem qz0 : ∀ i ∈ qaLj, cw i ∈ wsX10_image := fun i h => List.mem_cons_of_mem _ (List.mem_map_of_mem h)
def qan2 : List Nat := [79, 83, 84, 85, 329, 330, 331, 335, 642, 643, 1676, 1677, 1678, 2505, 2506, 2507, 2508, 4181, 4182, 4183, 4224, 4240, 4352, 4353, 4354, 4355, 4356, 4357, 4358, 4359, 4360, 4361, 4362, 4363, 4364, 4365, 4366, 4367, 4368, 4369, 4370, 4800, 4801, 4802, 4803, 4864, 4865]
def wsX10_restore : List Cond := cw 4240 :: wI qan2
theorem qtL : ∀ i ∈ qan2, cw i ∈ wsX10_restore := fun i h => List.mem_cons_of_mem _ (List.mem_map_of_mem h)
def qaxm : List Nat := [706, 2696, 4288, 4352, 4353, 4354, 4355, 4356, 4357, 4358, 4359, 4360, 4361, 4362, 4363, 4364, 4365, 4366, 4367, 4368, 4369, 4370]
def wsX10_status : List Cond := cw 4288 :: wI qaxm
theorem q2w : ∀ i ∈ qaxm, cw i ∈ wsX10_status := fun i h => List.mem_cons_of_mem _ (List.mem_map_of_mem h)
def qaMh : List Nat := [16, 84, 535, 641, 642, 4296, 4352, 4353, 4354, 4355, 4356, 4357, 4358, 4359, 4360, 4361, 4362, 4363, 4364, 4365, 4366, 4367, 4368, 4369, 4370, 4480, 4481, 4482, 4483, 4484, 4485, 4486, 4864, 4865]
def wsX10_count : List Cond := cw 4296 :: wI qaMh
theorem qBq : ∀ i ∈ qaMh, cw i ∈ wsX10_count := fun i h => List.mem_cons_of_mem _ (List.mem_map_of_mem h)
def qaCQ : List Nat := [589, 2382, 4416, 4417, 4418, 4419, 4420, 4421, 4422, 4423, 4424, 4425, 4426, 4427, 4428, 4429, 4430, 4431, 4432, 4433, 4434, 4435, 4436, 4437, 4438, 4439, 4440, 4441, 4442, 4443, 4444, 4445, 4446, 4447, 4448, 4449, 4450, 4451, 4452, 4453, 4454, 4455, 4456, 4457, 4458, 4459, 4460, 4461, 4462, 4463, 4464, 4465, 4466, 4467, 4468, 4469, 4470]
def wsX11_thrown : List Cond := cw 2382 :: wI qaCQ
theorem qaoF : ∀ i ∈ qaCQ, cw i ∈ wsX11_thrown := fun i h => List.mem_cons_of_mem _ (List.mem_map_of_mem h)
def qaPI : List Nat := [398, 589, 1108, 4416, 4417, 4418, 4419, 4420, 4421, 4422, 4423, 4424, 4425, 4426, 4427, 4428, 4429, 4430, 4431, 4432, 4433, 4434, 4435, 4436, 4437, 4438, 4439, 4440, 4441, 4442, 4443, 4444, 4445, 4446, 4447, 4448, 4449, 4450, 4451, 4452, 4453, 4454, 4455, 4456, 4457, 4458, 4459, 4460, 4461, 4462, 4463, 4464, 4465, 4466, 4467, 4468, 4469, 4470]
def wsX11_may : List Cond := cw 1108 :: wI qaPI
theorem qaDA : ∀ i ∈ qaPI, cw i ∈ wsX11_may := fun i h => List.mem_cons_of_mem _ (List.mem_map_of_mem h)
theorem qoN : okM 1108 qaPI = true := qaq (by decide +kernel)
def qaDz : List Nat := [2583]
def wsX11_within : List Cond := cw 2583 :: wI qaDz
theorem qix : okM 2583 qaDz = true := qaq (by decide +kernel)
def qaaK : List Nat := [404, 471, 512, 513, 514, 4416, 4417, 4418, 4419, 4420, 4421, 4422, 4423, 4424, 4425, 4426, 4427, 4428, 4429, 4430, 4431, 4432, 4433, 4434, 4435, 4436, 4437, 4438, 4439, 4440, 4441, 4442, 4443, 4444, 4445, 4446, 4447, 4448, 4449, 4450, 4451, 4452, 4453, 4454, 4455, 4456, 4457, 4458, 4459, 4460, 4461, 4462, 4463, 4464, 4465, 4466, 4467, 4468, 4469, 4470]
def wsX11_clears : List Cond := cw 471 :: wI qaaK
theorem qK6 : ∀ i ∈ qaaK, cw i ∈ wsX11_clears := fun i h => List.mem_cons_of_mem _ (List.mem_map_of_mem h)
theorem qaox : okM 471 qaaK = true := qaq (by decide +kernel)
def qawY : List Nat := [530]
def wsX11_copies : List Cond := cw 530 :: wI qawY
theorem qLe : okM 530 qawY = true := qaq (by decide +kernel)
def qaCY : List Nat := [5, 401, 402, 403, 404, 405, 406, 407, 456, 460, 512, 513, 514, 518, 519, 520, 521, 522, 523, 524, 525, 526, 527, 528, 529, 530, 4416, 4417, 4418, 4419, 4420, 4421, 4422, 4423, 4424, 4425, 4426, 4427, 4428, 4429, 4430, 4431, 4432, 4433, 4434, 4435, 4436, 4437, 4438, 4439, 4440, 4441, 4442, 4443, 4444, 4445, 4446, 4447, 4448, 4449, 4450, 4451, 4452, 4453, 4454, 4455, 4456, 4457, 4458, 4459, 4460, 4461, 4462, 4463, 4464, 4465, 4466, 4467, 4468, 4469, 4470]
def wsX11_sets : List Cond := cw 518 :: wI qaCY
theorem qm5 : ∀ i ∈ qaCY, cw i ∈ wsX11_sets := fun i h => List.mem_cons_of_mem _ (List.mem_map_of_mem h)
theorem qaLN : okM 518 qaCY = true := qaq (by decide +kernel)
def qaWp : List Nat := [5, 6, 11, 12, 147, 396, 397, 398, 399, 400, 401, 402, 403, 404, 405, 406, 407, 448, 449, 450, 451, 452, 453, 454, 455, 456, 457, 458, 459, 460, 461, 462, 463, 464, 465, 466, 467, 468, 469, 470, 471, 512, 513, 514, 515, 516, 517, 518, 519, 520, 521, 522, 523, 524, 525, 526, 527, 528, 529, 530, 4416, 4417, 4418, 4419, 4420, 4421, 4422, 4423, 4424, 4425, 4426, 4427, 4428, 4429, 4430, 4431, 4432, 4433, 4434, 4435, 4436, 4437, 4438, 4439, 4440, 4441, 4442, 4443, 4444, 4445, 4446, 4447, 4448, 4449, 4450, 4451, 4452, 4453, 4454, 4455, 4456, 4457, 4458, 4459, 4460, 4461, 4462, 4463, 4464, 4465, 4466, 4467, 4468, 4469, 4470]
def wsX11_init : List Cond := cw 396 :: wI qaWp
theorem qcy : ∀ i ∈ qaWp, cw i ∈ wsX11_init := fun i h => List.mem_cons_of_mem _ (List.mem_map_of_mem h)
def qaVK : List Nat := [400, 588, 589, 590, 4416, 4417, 4418, 4419, 4420, 4421, 4422, 4423, 4424, 4425, 4426, 4427, 4428, 4429, 4430, 4431, 4432, 4433, 4434, 4435, 4436, 4437, 4438, 4439, 4440, 4441, 4442, 4443, 4444, 4445, 4446, 4447, 4448, 4449, 4450, 4451, 4452, 4453, 4454, 4455, 4456, 4457, 4458, 4459, 4460, 4461, 4462, 4463, 4464, 4465, 4466, 4467, 4468, 4469, 4470]
def wsX11_feed : List Cond := cw 588 :: wI qaVK
theorem q4V : ∀ i ∈ qaVK, cw i ∈ wsX11_feed := fun i h => List.mem_cons_of_mem _ (List.mem_map_of_mem h)
def qavQ : List Nat := [1104, 1158, 4416, 4417, 4418, 4419, 4420, 4421, 4422, 4423, 4424, 4425, 4426, 4427, 4428, 4429, 4430, 4431, 4432, 4433, 4434, 4435, 4436, 4437, 4438, 4439, 4440, 4441, 4442, 4443, 4444, 4445, 4446, 4447, 4448, 4449, 4450, 4451, 4452, 4453, 4454, 4455, 4456, 4457, 4458, 4459, 4460, 4461, 4462, 4463, 4464, 4465, 4466, 4467, 4468, 4469, 4470]
def wsX11_fine : List Cond := cw 1158 :: wI qavQ
theorem qaLX : ∀ i ∈ qavQ, cw i ∈ wsX11_fine := fun i h => List.mem_cons_of_mem _ (List.mem_map_of_mem h)
theorem qsU : okM 1158 qavQ = true := qaq (by decide +kernel)
def qak8 : List Nat := [1104, 1225, 1226, 4416, 4417, 4418, 4419, 4420, 4421, 4422, 4423, 4424, 4425, 4426, 4427, 4428, 4429, 4430, 4431, 4432, 4433, 4434, 4435, 4436, 4437, 4438, 4439, 4440, 4441, 4442, 4443, 4444, 4445, 4446, 4447, 4448, 4449, 4450, 4451, 4452, 4453, 4454, 4455, 4456, 4457, 4458, 4459, 4460, 4461, 4462, 4463, 4464, 4465, 4466, 4467, 4468, 4469, 4470]
def wsX11_wrong : List Cond := cw 1225 :: wI qak8
theorem qab0 : ∀ i ∈ qak8, cw i ∈ wsX11_wrong := fun i h => List.mem_cons_of_mem _ (List.mem_map_of_mem h)
theorem qzR : okM 1225 qak8 = true := qaq (by decide +kernel)
def qaAe : List Nat := [400, 1103, 1153, 1166, 4416, 4417, 4418, 4419, 4420, 4421, 4422, 4423, 4424, 4425, 4426, 4427, 4428, 4429, 4430, 4431, 4432, 4433, 4434, 4435, 4436, 4437, 4438, 4439, 4440, 4441, 4442, 4443, 4444, 4445, 4446, 4447, 4448, 4449, 4450, 4451, 4452, 4453, 4454, 4455, 4456, 4457, 4458, 4459, 4460, 4461, 4462, 4463, 4464, 4465, 4466, 4467, 4468, 4469, 4470]
def wsX11_here : List Cond := cw 1166 :: wI qaAe
theorem q46 : ∀ i ∈ qaAe, cw i ∈ wsX11_here := fun i h => List.mem_cons_of_mem _ (List.mem_map_of_mem h)
theorem qAD : okM 1166 qaAe = true := qaq (by decide +kernel)
def qan1 : List Nat := [1173]
def wsX11_isSmall : List Cond := cw 1173 :: wI qan1
theorem qado : okM 1173 qan1 = true := qaq (by decide +kernel)
def qaoe : List Nat := [1285]
def wsX11_isDigit : List Cond := cw 1285 :: wI qaoe
theorem qagm : okM 1285 qaoe = true := qaq (by decide +kernel)
def qazI : List Nat := [5, 400, 1103, 1153, 1163, 1164, 1165, 1166, 1170, 1171, 1172, 1173, 4416, 4417, 4418, 4419, 4420, 4421, 4422, 4423, 4424, 4425, 4426, 4427, 4428, 4429, 4430, 4431, 4432, 4433, 4434, 4435, 4436, 4437, 4438, 4439, 4440, 4441, 4442, 4443, 4444, 4445, 4446, 4447, 4448, 4449, 4450, 4451, 4452, 4453, 4454, 4455, 4456, 4457, 4458, 4459, 4460, 4461, 4462, 4463, 4464, 4465, 4466, 4467, 4468, 4469, 4470]
def wsX11_word : List Cond := cw 1170 :: wI qazI
theorem qGu : ∀ i ∈ qazI, cw i ∈ wsX11_word := fun i h => List.mem_cons_of_mem _ (List.mem_map_of_mem h)
theorem q5j : okM 1170 qazI = true := qaq (by decide +kernel)
def qaYw : List Nat := [784, 785, 786, 787, 788, 789, 790, 791, 832, 833, 834, 841, 842, 843, 844, 845, 846, 847, 848, 849, 850, 851, 852, 853, 854, 855, 896, 897, 898, 899, 900, 901, 902, 903, 904, 905, 906, 907, 908, 909, 910, 911, 912, 913, 914, 915, 916, 1219, 1220, 1221]
def wsX11_of : List Cond := cw 1219 :: wI qaYw
theorem qau7 : ∀ i ∈ qaYw, cw i ∈ wsX11_of := fun i h => List.mem_cons_of_mem _ (List.mem_map_of_mem h)
theorem q4T : okM 1219 qaYw = true := qaq (by decide +kernel)
def qayI : List Nat := [5, 400, 1103, 1153, 1171, 1172, 1173, 1234, 4416, 4417, 4418, 4419, 4420, 4421, 4422, 4423, 4424, 4425, 4426, 4427, 4428, 4429, 4430, 4431, 4432, 4433, 4434, 4435, 4436, 4437, 4438, 4439, 4440, 4441, 4442, 4443, 4444, 4445, 4446, 4447, 4448, 4449, 4450, 4451, 4452, 4453, 4454, 4455, 4456, 4457, 4458, 4459, 4460, 4461, 4462, 4463, 4464, 4465, 4466, 4467, 4468, 4469, 4470]
def wsX11_pass : List Cond := cw 1234 :: wI qayI
theorem qOD : ∀ i ∈ qayI, cw i ∈ wsX11_pass := fun i h => List.mem_cons_of_mem _ (List.mem_map_of_mem h)
theorem qajD : okM 1234 qayI = true := qaq (by decide +kernel)
def qPz : List Nat := [5, 400, 1103, 1104, 1153, 1155, 1156, 1157, 1158, 1163, 1164, 1165, 1166, 1222, 1223, 1224, 1225, 1226, 1282, 1283, 1284, 1285, 4416, 4417, 4418, 4419, 4420, 4421, 4422, 4423, 4424, 4425, 4426, 4427, 4428, 4429, 4430, 4431, 4432, 4433, 4434, 4435, 4436, 4437, 4438, 4439, 4440, 4441, 4442, 4443, 4444, 4445, 4446, 4447, 4448, 4449, 4450, 4451, 4452, 4453, 4454, 4455, 4456, 4457, 4458, 4459, 4460, 4461, 4462, 4463, 4464, 4465, 4466, 4467, 4468, 4469, 4470]
def wsX11_readNumber : List Cond := cw 1282 :: wI qPz
theorem qmY : ∀ i ∈ qPz, cw i ∈ wsX11_readNumber := fun i h => List.mem_cons_of_mem _ (List.mem_map_of_mem h)
theorem quL : okM 1282 qPz = true := qaq (by decide +kernel)
def qayg : List Nat := [5, 400, 1103, 1104, 1153, 1155, 1156, 1157, 1158, 1163, 1164, 1165, 1166, 1222, 1223, 1224, 1225, 1226, 1297, 4416, 4417, 4418, 4419, 4420, 4421, 4422, 4423, 4424, 4425, 4426, 4427, 4428, 4429, 4430, 4431, 4432, 4433, 4434, 4435, 4436, 4437, 4438, 4439, 4440, 4441, 4442, 4443, 4444, 4445, 4446, 4447, 4448, 4449, 4450, 4451, 4452, 4453, 4454, 4455, 4456, 4457, 4458, 4459, 4460, 4461, 4462, 4463, 4464, 4465, 4466, 4467, 4468, 4469, 4470]
def wsX11_sign : List Cond := cw 1297 :: wI qayg
theorem qGq : ∀ i ∈ qayg, cw i ∈ wsX11_sign := fun i h => List.mem_cons_of_mem _ (List.mem_map_of_mem h)
theorem qVf : okM 1297 qayg = true := qaq (by decide +kernel)
def qabj : List Nat := [5, 400, 1103, 1153, 1162, 1163, 1164, 1165, 1166, 4416, 4417, 4418, 4419, 4420, 4421, 4422, 4423, 4424, 4425, 4426, 4427, 4428, 4429, 4430, 4431, 4432, 4433, 4434, 4435, 4436, 4437, 4438, 4439, 4440, 4441, 4442, 4443, 4444, 4445, 4446, 4447, 4448, 4449, 4450, 4451, 4452, 4453, 4454, 4455, 4456, 4457, 4458, 4459, 4460, 4461, 4462, 4463, 4464, 4465, 4466, 4467, 4468, 4469, 4470]
def wsX11_isMore : List Cond := cw 1162 :: wI qabj
theorem qLs : ∀ i ∈ qabj, cw i ∈ wsX11_isMore := fun i h => List.mem_cons_of_mem _ (List.mem_map_of_mem h)
theorem qR7 : okM 1162 qabj = true := qaq (by decide +kernel)
def q93 : List Nat := [399, 590, 1103, 1104, 1152, 1153, 1154, 4416, 4417, 4418, 4419, 4420, 4421, 4422, 4423, 4424, 4425, 4426, 4427, 4428, 4429, 4430, 4431, 4432, 4433, 4434, 4435, 4436, 4437, 4438, 4439, 4440, 4441, 4442, 4443, 4444, 4445, 4446, 4447, 4448, 4449, 4450, 4451, 4452, 4453, 4454, 4455, 4456, 4457, 4458, 4459, 4460, 4461, 4462, 4463, 4464, 4465, 4466, 4467, 4468, 4469, 4470]
def wsX11_begins : List Cond := cw 1152 :: wI q93
theorem qBO : ∀ i ∈ q93, cw i ∈ wsX11_begins := fun i h => List.mem_cons_of_mem _ (List.mem_map_of_mem h)
theorem qRH : okM 1152 q93 = true := qaq (by decide +kernel)
def qaac : List Nat := [5, 399, 1104, 1155, 1156, 1157, 1158, 1226, 1301, 4416, 4417, 4418, 4419, 4420, 4421, 4422, 4423, 4424, 4425, 4426, 4427, 4428, 4429, 4430, 4431, 4432, 4433, 4434, 4435, 4436, 4437, 4438, 4439, 4440, 4441, 4442, 4443, 4444, 4445, 4446, 4447, 4448, 4449, 4450, 4451, 4452, 4453, 4454, 4455, 4456, 4457, 4458, 4459, 4460, 4461, 4462, 4463, 4464, 4465, 4466, 4467, 4468, 4469, 4470]
def wsX11_result : List Cond := cw 1301 :: wI qaac
theorem qGG : ∀ i ∈ qaac, cw i ∈ wsX11_result := fun i h => List.mem_cons_of_mem _ (List.mem_map_of_mem h)
theorem qSy : okM 1301 qaac = true := qaq (by decide +kernel)
def qaMm : List Nat := [399, 589, 2500, 4416, 4417, 4418, 4419, 4420, 4421, 4422, 4423, 4424, 4425, 4426, 4427, 4428, 4429, 4430, 4431, 4432, 4433, 4434, 4435, 4436, 4437, 4438, 4439, 4440, 4441, 4442, 4443, 4444, 4445, 4446, 4447, 4448, 4449, 4450, 4451, 4452, 4453, 4454, 4455, 4456, 4457, 4458, 4459, 4460, 4461, 4462, 4463, 4464, 4465, 4466, 4467, 4468, 4469, 4470]
def wsX11_fault : List Cond := cw 2500 :: wI qaMm
theorem q9M : ∀ i ∈ qaMm, cw i ∈ wsX11_fault := fun i h => List.mem_cons_of_mem _ (List.mem_map_of_mem h)
def qWx : List Nat := [5, 400, 513, 1103, 1104, 1153, 1155, 1156, 1157, 1158, 1163, 1164, 1165, 1166, 1222, 1223, 1224, 1225, 1226, 1239, 1280, 1281, 1282, 1283, 1284, 1285, 1293, 4416, 4417, 4418, 4419, 4420, 4421, 4422, 4423, 4424, 4425, 4426, 4427, 4428, 4429, 4430, 4431, 4432, 4433, 4434, 4435, 4436, 4437, 4438, 4439, 4440, 4441, 4442, 4443, 4444, 4445, 4446, 4447, 4448, 4449, 4450, 4451, 4452, 4453, 4454, 4455, 4456, 4457, 4458, 4459, 4460, 4461, 4462, 4463, 4464, 4465, 4466, 4467, 4468, 4469, 4470]
def wsX11_readHare : List Cond := cw 1293 :: wI qWx
theorem qKs : ∀ i ∈ qWx, cw i ∈ wsX11_readHare := fun i h => List.mem_cons_of_mem _ (List.mem_map_of_mem h)
theorem qaIX : okM 1293 qWx = true := qaq (by decide +kernel)
def qWF : List Nat := [5, 400, 404, 513, 1103, 1104, 1153, 1155, 1156, 1157, 1158, 1163, 1164, 1165, 1166, 1222, 1223, 1224, 1225, 1226, 1239, 1280, 1281, 1282, 1283, 1284, 1285, 1289, 1290, 1291, 1292, 1293, 4416, 4417, 4418, 4419, 4420, 4421, 4422, 4423, 4424, 4425, 4426, 4427, 4428, 4429, 4430, 4431, 4432, 4433, 4434, 4435, 4436, 4437, 4438, 4439, 4440, 4441, 4442, 4443, 4444, 4445, 4446, 4447, 4448, 4449, 4450, 4451, 4452, 4453, 4454, 4455, 4456, 4457, 4458, 4459, 4460, 4461, 4462, 4463, 4464, 4465, 4466, 4467, 4468, 4469, 4470]
def wsX11_readDebt : List Cond := cw 1289 :: wI qWF
theorem qoi : ∀ i ∈ qWF, cw i ∈ wsX11_readDebt := fun i h => List.mem_cons_of_mem _ (List.mem_map_of_mem h)
theorem qaJ4 : okM 1289 qWF = true := qaq (by decide +kernel)
def qam6 : List Nat := [5, 784, 785, 786, 787, 788, 789, 790, 791, 832, 833, 834, 841, 842, 843, 844, 845, 846, 847, 848, 849, 850, 851, 852, 853, 854, 855, 896, 897, 898, 899, 900, 901, 902, 903, 904, 905, 906, 907, 908, 909, 910, 911, 912, 913, 914, 915, 916, 1216, 1217, 1218, 1219, 1220, 1221]
def wsX11_isRow : List Cond := cw 1216 :: wI qam6
theorem qaCA : ∀ i ∈ qam6, cw i ∈ wsX11_isRow := fun i h => List.mem_cons_of_mem _ (List.mem_map_of_mem h)
theorem qaZG : okM 1216 qam6 = true := qaq (by decide +kernel)
def qaaH : List Nat := [5, 512, 513, 514, 784, 785, 786, 787, 788, 789, 790, 791, 832, 833, 834, 841, 842, 843, 844, 845, 846, 847, 848, 849, 850, 851, 852, 853, 854, 855, 896, 897, 898, 899, 900, 901, 902, 903, 904, 905, 906, 907, 908, 909, 910, 911, 912, 913, 914, 915, 916, 1217, 1218, 1219, 1220, 1221, 1230, 4416, 4417, 4418, 4419, 4420, 4421, 4422, 4423, 4424, 4425, 4426, 4427, 4428, 4429, 4430, 4431, 4432, 4433, 4434, 4435, 4436, 4437, 4438, 4439, 4440, 4441, 4442, 4443, 4444, 4445, 4446, 4447, 4448, 4449, 4450, 4451, 4452, 4453, 4454, 4455, 4456, 4457, 4458, 4459, 4460, 4461, 4462, 4463, 4464, 4465, 4466, 4467, 4468, 4469, 4470]
def wsX11_isFull : List Cond := cw 1230 :: wI qaaH
theorem qGo : ∀ i ∈ qaaH, cw i ∈ wsX11_isFull := fun i h => List.mem_cons_of_mem _ (List.mem_map_of_mem h)
theorem qaVN : okM 1230 qaaH = true := qaq (by decide +kernel)
def q1C : List Nat := [5, 400, 401, 402, 403, 404, 512, 513, 514, 784, 785, 786, 787, 788, 789, 790, 791, 832, 833, 834, 841, 842, 843, 844, 845, 846, 847, 848, 849, 850, 851, 852, 853, 854, 855, 896, 897, 898, 899, 900, 901, 902, 903, 904, 905, 906, 907, 908, 909, 910, 911, 912, 913, 914, 915, 916, 1103, 1104, 1153, 1155, 1156, 1157, 1158, 1163, 1164, 1165, 1166, 1217, 1218, 1219, 1220, 1221, 1222, 1223, 1224, 1225, 1226, 1238, 1239, 1280, 1281, 1282, 1283, 1284, 1285, 1286, 1287, 1288, 1289, 1290, 1291, 1292, 1293, 4416, 4417, 4418, 4419, 4420, 4421, 4422, 4423, 4424, 4425, 4426, 4427, 4428, 4429, 4430, 4431, 4432, 4433, 4434, 4435, 4436, 4437, 4438, 4439, 4440, 4441, 4442, 4443, 4444, 4445, 4446, 4447, 4448, 4449, 4450, 4451, 4452, 4453, 4454, 4455, 4456, 4457, 4458, 4459, 4460, 4461, 4462, 4463, 4464, 4465, 4466, 4467, 4468, 4469, 4470]
def wsX11_readRow : List Cond := cw 1238 :: wI q1C
theorem qpG : ∀ i ∈ q1C, cw i ∈ wsX11_readRow := fun i h => List.mem_cons_of_mem _ (List.mem_map_of_mem h)
theorem qaMR : okM 1238 q1C = true := qaq (by decide +kernel)
def qaTO : List Nat := [5, 398, 399, 400, 401, 402, 403, 404, 405, 406, 407, 456, 460, 468, 469, 470, 471, 512, 513, 514, 515, 516, 517, 518, 519, 520, 521, 522, 523, 524, 525, 526, 527, 528, 529, 530, 589, 590, 784, 785, 786, 787, 788, 789, 790, 791, 832, 833, 834, 841, 842, 843, 844, 845, 846, 847, 848, 849, 850, 851, 852, 853, 854, 855, 896, 897, 898, 899, 900, 901, 902, 903, 904, 905, 906, 907, 908, 909, 910, 911, 912, 913, 914, 915, 916, 1102, 1103, 1104, 1105, 1106, 1107, 1108, 1109, 1110, 1111, 1152, 1153, 1154, 1155, 1156, 1157, 1158, 1159, 1160, 1161, 1162, 1163, 1164, 1165, 1166, 1167, 1168, 1169, 1170, 1171, 1172, 1173, 1174, 1175, 1216, 1217, 1218, 1219, 1220, 1221, 1222, 1223, 1224, 1225, 1226, 1227, 1228, 1229, 1230, 1231, 1232, 1233, 1234, 1235, 1236, 1237, 1238, 1239, 1280, 1281, 1282, 1283, 1284, 1285, 1286, 1287, 1288, 1289, 1290, 1291, 1292, 1293, 1294, 1295, 1296, 1297, 1298, 1299, 1300, 1301, 4416, 4417, 4418, 4419, 4420, 4421, 4422, 4423, 4424, 4425, 4426, 4427, 4428, 4429, 4430, 4431, 4432, 4433, 4434, 4435, 4436, 4437, 4438, 4439, 4440, 4441, 4442, 4443, 4444, 4445, 4446, 4447, 4448, 4449, 4450, 4451, 4452, 4453, 4454, 4455, 4456, 4457, 4458, 4459, 4460, 4461, 4462, 4463, 4464, 4465, 4466, 4467, 4468, 4469, 4470]
def wsX11_down : List Cond := cw 1102 :: wI qaTO
theorem qdJ : ∀ i ∈ qaTO, cw i ∈ wsX11_down := fun i h => List.mem_cons_of_mem _ (List.mem_map_of_mem h)
def qavT : List Nat := [5, 448, 449, 1104, 1155, 1156, 1157, 1158, 1481, 1492, 4416, 4417, 4418, 4419, 4420, 4421, 4422, 4423, 4424, 4425, 4426, 4427, 4428, 4429, 4430, 4431, 4432, 4433, 4434, 4435, 4436, 4437, 4438, 4439, 4440, 4441, 4442, 4443, 4444, 4445, 4446, 4447, 4448, 4449, 4450, 4451, 4452, 4453, 4454, 4455, 4456, 4457, 4458, 4459, 4460, 4461, 4462, 4463, 4464, 4465, 4466, 4467, 4468, 4469, 4470]
def wsX11_emit : List Cond := cw 1492 :: wI qavT
theorem qOC : ∀ i ∈ qavT, cw i ∈ wsX11_emit := fun i h => List.mem_cons_of_mem _ (List.mem_map_of_mem h)
theorem q4U : okM 1492 qavT = true := qaq (by decide +kernel)
def qXf : List Nat := [5, 1103, 1104, 1154, 1155, 1156, 1157, 1158, 1222, 1223, 1224, 1225, 1226, 1541, 4416, 4417, 4418, 4419, 4420, 4421, 4422, 4423, 4424, 4425, 4426, 4427, 4428, 4429, 4430, 4431, 4432, 4433, 4434, 4435, 4436, 4437, 4438, 4439, 4440, 4441, 4442, 4443, 4444, 4445, 4446, 4447, 4448, 4449, 4450, 4451, 4452, 4453, 4454, 4455, 4456, 4457, 4458, 4459, 4460, 4461, 4462, 4463, 4464, 4465, 4466, 4467, 4468, 4469, 4470]
def wsX11_opensOne : List Cond := cw 1541 :: wI qXf
theorem qxB : ∀ i ∈ qXf, cw i ∈ wsX11_opensOne := fun i h => List.mem_cons_of_mem _ (List.mem_map_of_mem h)
theorem qUC : okM 1541 qXf = true := qaq (by decide +kernel)
def qX8 : List Nat := [5, 400, 784, 785, 786, 787, 788, 789, 790, 791, 832, 833, 834, 841, 842, 843, 844, 845, 846, 847, 848, 849, 850, 851, 852, 853, 854, 855, 896, 897, 898, 899, 900, 901, 902, 903, 904, 905, 906, 907, 908, 909, 910, 911, 912, 913, 914, 915, 916, 1103, 1153, 1163, 1164, 1165, 1166, 1167, 1168, 1169, 1170, 1171, 1172, 1173, 1217, 1218, 1219, 1220, 1221, 1549, 4416, 4417, 4418, 4419, 4420, 4421, 4422, 4423, 4424, 4425, 4426, 4427, 4428, 4429, 4430, 4431, 4432, 4433, 4434, 4435, 4436, 4437, 4438, 4439, 4440, 4441, 4442, 4443, 4444, 4445, 4446, 4447, 4448, 4449, 4450, 4451, 4452, 4453, 4454, 4455, 4456, 4457, 4458, 4459, 4460, 4461, 4462, 4463, 4464, 4465, 4466, 4467, 4468, 4469, 4470]
def wsX11_factHere : List Cond := cw 1549 :: wI qX8
theorem qKA : ∀ i ∈ qX8, cw i ∈ wsX11_factHere := fun i h => List.mem_cons_of_mem _ (List.mem_map_of_mem h)
theorem qaJJ : okM 1549 qX8 = true := qaq (by decide +kernel)
def qMT : List Nat := [5, 400, 448, 449, 784, 785, 786, 787, 788, 789, 790, 791, 832, 833, 834, 841, 842, 843, 844, 845, 846, 847, 848, 849, 850, 851, 852, 853, 854, 855, 896, 897, 898, 899, 900, 901, 902, 903, 904, 905, 906, 907, 908, 909, 910, 911, 912, 913, 914, 915, 916, 1103, 1104, 1153, 1154, 1155, 1156, 1157, 1158, 1163, 1164, 1165, 1166, 1167, 1168, 1169, 1170, 1171, 1172, 1173, 1217, 1218, 1219, 1220, 1221, 1222, 1223, 1224, 1225, 1226, 1231, 1232, 1233, 1234, 1239, 1280, 1281, 1282, 1283, 1284, 1285, 1294, 1295, 1296, 1297, 1481, 1482, 1483, 1484, 1485, 1486, 1487, 1488, 1489, 1490, 1491, 1492, 1493, 1494, 1495, 1536, 1537, 1538, 1539, 1540, 1541, 1542, 1543, 1544, 1545, 1546, 1547, 1548, 1549, 4416, 4417, 4418, 4419, 4420, 4421, 4422, 4423, 4424, 4425, 4426, 4427, 4428, 4429, 4430, 4431, 4432, 4433, 4434, 4435, 4436, 4437, 4438, 4439, 4440, 4441, 4442, 4443, 4444, 4445, 4446, 4447, 4448, 4449, 4450, 4451, 4452, 4453, 4454, 4455, 4456, 4457, 4458, 4459, 4460, 4461, 4462, 4463, 4464, 4465, 4466, 4467, 4468, 4469, 4470]
def wsX11_readProduct : List Cond := cw 1493 :: wI qMT
theorem qkQ : ∀ i ∈ qMT, cw i ∈ wsX11_readProduct := fun i h => List.mem_cons_of_mem _ (List.mem_map_of_mem h)
theorem qajz : okM 1493 qMT = true := qaq (by decide +kernel)
def q3J : List Nat := [5, 400, 448, 449, 784, 785, 786, 787, 788, 789, 790, 791, 832, 833, 834, 841, 842, 843, 844, 845, 846, 847, 848, 849, 850, 851, 852, 853, 854, 855, 896, 897, 898, 899, 900, 901, 902, 903, 904, 905, 906, 907, 908, 909, 910, 911, 912, 913, 914, 915, 916, 1103, 1104, 1153, 1154, 1155, 1156, 1157, 1158, 1163, 1164, 1165, 1166, 1167, 1168, 1169, 1170, 1171, 1172, 1173, 1217, 1218, 1219, 1220, 1221, 1222, 1223, 1224, 1225, 1226, 1231, 1232, 1233, 1234, 1239, 1280, 1281, 1282, 1283, 1284, 1285, 1294, 1295, 1296, 1297, 1481, 1482, 1483, 1484, 1485, 1486, 1487, 1488, 1489, 1490, 1491, 1492, 1493, 1494, 1495, 1536, 1537, 1538, 1539, 1540, 1541, 1542, 1543, 1544, 1545, 1546, 1547, 1548, 1549, 4416, 4417, 4418, 4419, 4420, 4421, 4422, 4423, 4424, 4425, 4426, 4427, 4428, 4429, 4430, 4431, 4432, 4433, 4434, 4435, 4436, 4437, 4438, 4439, 4440, 4441, 4442, 4443, 4444, 4445, 4446, 4447, 4448, 4449, 4450, 4451, 4452, 4453, 4454, 4455, 4456, 4457, 4458, 4459, 4460, 4461, 4462, 4463, 4464, 4465, 4466, 4467, 4468, 4469, 4470]
def wsX11_readSum : List Cond := cw 1485 :: wI q3J
theorem qqS : ∀ i ∈ q3J, cw i ∈ wsX11_readSum := fun i h => List.mem_cons_of_mem _ (List.mem_map_of_mem h)
theorem qXq : okM 1485 q3J = true := qaq (by decide +kernel)
def q1S : List Nat := [5, 400, 448, 449, 784, 785, 786, 787, 788, 789, 790, 791, 832, 833, 834, 841, 842, 843, 844, 845, 846, 847, 848, 849, 850, 851, 852, 853, 854, 855, 896, 897, 898, 899, 900, 901, 902, 903, 904, 905, 906, 907, 908, 909, 910, 911, 912, 913, 914, 915, 916, 1103, 1104, 1153, 1154, 1155, 1156, 1157, 1158, 1163, 1164, 1165, 1166, 1167, 1168, 1169, 1170, 1171, 1172, 1173, 1217, 1218, 1219, 1220, 1221, 1222, 1223, 1224, 1225, 1226, 1231, 1232, 1233, 1234, 1239, 1280, 1281, 1282, 1283, 1284, 1285, 1294, 1295, 1296, 1297, 1481, 1482, 1483, 1484, 1485, 1486, 1487, 1488, 1489, 1490, 1491, 1492, 1493, 1494, 1495, 1536, 1537, 1538, 1539, 1540, 1541, 1542, 1543, 1544, 1545, 1546, 1547, 1548, 1549, 4416, 4417, 4418, 4419, 4420, 4421, 4422, 4423, 4424, 4425, 4426, 4427, 4428, 4429, 4430, 4431, 4432, 4433, 4434, 4435, 4436, 4437, 4438, 4439, 4440, 4441, 4442, 4443, 4444, 4445, 4446, 4447, 4448, 4449, 4450, 4451, 4452, 4453, 4454, 4455, 4456, 4457, 4458, 4459, 4460, 4461, 4462, 4463, 4464, 4465, 4466, 4467, 4468, 4469, 4470]
def wsX11_readTwo : List Cond := cw 1537 :: wI q1S
theorem qtz : ∀ i ∈ q1S, cw i ∈ wsX11_readTwo := fun i h => List.mem_cons_of_mem _ (List.mem_map_of_mem h)
theorem qaPx : okM 1537 q1S = true := qaq (by decide +kernel)
def qXP : List Nat := [5, 400, 448, 449, 784, 785, 786, 787, 788, 789, 790, 791, 832, 833, 834, 841, 842, 843, 844, 845, 846, 847, 848, 849, 850, 851, 852, 853, 854, 855, 896, 897, 898, 899, 900, 901, 902, 903, 904, 905, 906, 907, 908, 909, 910, 911, 912, 913, 914, 915, 916, 1103, 1104, 1153, 1154, 1155, 1156, 1157, 1158, 1163, 1164, 1165, 1166, 1167, 1168, 1169, 1170, 1171, 1172, 1173, 1217, 1218, 1219, 1220, 1221, 1222, 1223, 1224, 1225, 1226, 1231, 1232, 1233, 1234, 1239, 1280, 1281, 1282, 1283, 1284, 1285, 1294, 1295, 1296, 1297, 1481, 1482, 1483, 1484, 1485, 1486, 1487, 1488, 1489, 1490, 1491, 1492, 1493, 1494, 1495, 1536, 1537, 1538, 1539, 1540, 1541, 1542, 1543, 1544, 1545, 1546, 1547, 1548, 1549, 4416, 4417, 4418, 4419, 4420, 4421, 4422, 4423, 4424, 4425, 4426, 4427, 4428, 4429, 4430, 4431, 4432, 4433, 4434, 4435, 4436, 4437, 4438, 4439, 4440, 4441, 4442, 4443, 4444, 4445, 4446, 4447, 4448, 4449, 4450, 4451, 4452, 4453, 4454, 4455, 4456, 4457, 4458, 4459, 4460, 4461, 4462, 4463, 4464, 4465, 4466, 4467, 4468, 4469, 4470]
def wsX11_readUnit : List Cond := cw 1542 :: wI qXP
theorem qbJ : ∀ i ∈ qXP, cw i ∈ wsX11_readUnit := fun i h => List.mem_cons_of_mem _ (List.mem_map_of_mem h)
theorem qaJT : okM 1542 qXP = true := qaq (by decide +kernel)
def qa0T : List Nat := [5, 398, 399, 400, 448, 449, 450, 451, 522, 527, 528, 529, 530, 589, 590, 784, 785, 786, 787, 788, 789, 790, 791, 832, 833, 834, 841, 842, 843, 844, 845, 846, 847, 848, 849, 850, 851, 852, 853, 854, 855, 896, 897, 898, 899, 900, 901, 902, 903, 904, 905, 906, 907, 908, 909, 910, 911, 912, 913, 914, 915, 916, 1103, 1104, 1105, 1106, 1107, 1108, 1109, 1110, 1111, 1152, 1153, 1154, 1155, 1156, 1157, 1158, 1159, 1160, 1161, 1162, 1163, 1164, 1165, 1166, 1167, 1168, 1169, 1170, 1171, 1172, 1173, 1217, 1218, 1219, 1220, 1221, 1222, 1223, 1224, 1225, 1226, 1231, 1232, 1233, 1234, 1239, 1280, 1281, 1282, 1283, 1284, 1285, 1294, 1295, 1296, 1297, 1298, 1299, 1300, 1301, 1480, 1481, 1482, 1483, 1484, 1485, 1486, 1487, 1488, 1489, 1490, 1491, 1492, 1493, 1494, 1495, 1536, 1537, 1538, 1539, 1540, 1541, 1542, 1543, 1544, 1545, 1546, 1547, 1548, 1549, 4416, 4417, 4418, 4419, 4420, 4421, 4422, 4423, 4424, 4425, 4426, 4427, 4428, 4429, 4430, 4431, 4432, 4433, 4434, 4435, 4436, 4437, 4438, 4439, 4440, 4441, 4442, 4443, 4444, 4445, 4446, 4447, 4448, 4449, 4450, 4451, 4452, 4453, 4454, 4455, 4456, 4457, 4458, 4459, 4460, 4461, 4462, 4463, 4464, 4465, 4466, 4467, 4468, 4469, 4470]
def wsX11_law : List Cond := cw 1480 :: wI qa0T
theorem qnh : ∀ i ∈ qa0T, cw i ∈ wsX11_law := fun i h => List.mem_cons_of_mem _ (List.mem_map_of_mem h)
def qaUF : List Nat := [2314]
def wsX11_both : List Cond := cw 2314 :: wI qaUF
theorem qa22 : okM 2314 qaUF = true := qaq (by decide +kernel)
def qYp : List Nat := [5, 450, 451, 452, 453, 522, 2311, 2312, 2313, 2314, 4416, 4417, 4418, 4419, 4420, 4421, 4422, 4423, 4424, 4425, 4426, 4427, 4428, 4429, 4430, 4431, 4432, 4433, 4434, 4435, 4436, 4437, 4438, 4439, 4440, 4441, 4442, 4443, 4444, 4445, 4446, 4447, 4448, 4449, 4450, 4451, 4452, 4453, 4454, 4455, 4456, 4457, 4458, 4459, 4460, 4461, 4462, 4463, 4464, 4465, 4466, 4467, 4468, 4469, 4470]
def wsX11_valueNow : List Cond := cw 2311 :: wI qYp
theorem qvi : ∀ i ∈ qYp, cw i ∈ wsX11_valueNow := fun i h => List.mem_cons_of_mem _ (List.mem_map_of_mem h)
theorem qaGx : okM 2311 qYp = true := qaq (by decide +kernel)
def q4K : List Nat := [5, 450, 451, 452, 453, 522, 2307, 2308, 2309, 2310, 2311, 2312, 2313, 2314, 4416, 4417, 4418, 4419, 4420, 4421, 4422, 4423, 4424, 4425, 4426, 4427, 4428, 4429, 4430, 4431, 4432, 4433, 4434, 4435, 4436, 4437, 4438, 4439, 4440, 4441, 4442, 4443, 4444, 4445, 4446, 4447, 4448, 4449, 4450, 4451, 4452, 4453, 4454, 4455, 4456, 4457, 4458, 4459, 4460, 4461, 4462, 4463, 4464, 4465, 4466, 4467, 4468, 4469, 4470]
def wsX11_leapNow : List Cond := cw 2307 :: wI q4K
theorem qHp : ∀ i ∈ q4K, cw i ∈ wsX11_leapNow := fun i h => List.mem_cons_of_mem _ (List.mem_map_of_mem h)
theorem qaR4 : okM 2307 q4K = true := qaq (by decide +kernel)
def qTp : List Nat := [5, 454, 1104, 1155, 1156, 1157, 1158, 2114, 2125, 4416, 4417, 4418, 4419, 4420, 4421, 4422, 4423, 4424, 4425, 4426, 4427, 4428, 4429, 4430, 4431, 4432, 4433, 4434, 4435, 4436, 4437, 4438, 4439, 4440, 4441, 4442, 4443, 4444, 4445, 4446, 4447, 4448, 4449, 4450, 4451, 4452, 4453, 4454, 4455, 4456, 4457, 4458, 4459, 4460, 4461, 4462, 4463, 4464, 4465, 4466, 4467, 4468, 4469, 4470]
def wsX11_tellsStep : List Cond := cw 2125 :: wI qTp
theorem qCb : ∀ i ∈ qTp, cw i ∈ wsX11_tellsStep := fun i h => List.mem_cons_of_mem _ (List.mem_map_of_mem h)
theorem qaw4 : okM 2125 qTp = true := qaq (by decide +kernel)
def qOQ : List Nat := [5, 400, 520, 1103, 1104, 1153, 1155, 1156, 1157, 1158, 1163, 1164, 1165, 1166, 1222, 1223, 1224, 1225, 1226, 1239, 1280, 1281, 1282, 1283, 1284, 1285, 2129, 4416, 4417, 4418, 4419, 4420, 4421, 4422, 4423, 4424, 4425, 4426, 4427, 4428, 4429, 4430, 4431, 4432, 4433, 4434, 4435, 4436, 4437, 4438, 4439, 4440, 4441, 4442, 4443, 4444, 4445, 4446, 4447, 4448, 4449, 4450, 4451, 4452, 4453, 4454, 4455, 4456, 4457, 4458, 4459, 4460, 4461, 4462, 4463, 4464, 4465, 4466, 4467, 4468, 4469, 4470]
def wsX11_readLiving : List Cond := cw 2129 :: wI qOQ
theorem qE8 : ∀ i ∈ qOQ, cw i ∈ wsX11_readLiving := fun i h => List.mem_cons_of_mem _ (List.mem_map_of_mem h)
theorem qatN : okM 2129 qOQ = true := qaq (by decide +kernel)
def qWJ : List Nat := [5, 400, 454, 519, 520, 784, 785, 786, 787, 788, 789, 790, 791, 832, 833, 834, 841, 842, 843, 844, 845, 846, 847, 848, 849, 850, 851, 852, 853, 854, 855, 896, 897, 898, 899, 900, 901, 902, 903, 904, 905, 906, 907, 908, 909, 910, 911, 912, 913, 914, 915, 916, 1103, 1104, 1153, 1154, 1155, 1156, 1157, 1158, 1163, 1164, 1165, 1166, 1167, 1168, 1169, 1170, 1171, 1172, 1173, 1217, 1218, 1219, 1220, 1221, 1222, 1223, 1224, 1225, 1226, 1231, 1232, 1233, 1234, 1239, 1280, 1281, 1282, 1283, 1284, 1285, 1294, 1295, 1296, 1297, 1538, 1539, 1540, 1541, 2114, 2118, 2119, 2120, 2121, 2122, 2123, 2124, 2125, 2126, 2127, 2128, 2129, 4416, 4417, 4418, 4419, 4420, 4421, 4422, 4423, 4424, 4425, 4426, 4427, 4428, 4429, 4430, 4431, 4432, 4433, 4434, 4435, 4436, 4437, 4438, 4439, 4440, 4441, 4442, 4443, 4444, 4445, 4446, 4447, 4448, 4449, 4450, 4451, 4452, 4453, 4454, 4455, 4456, 4457, 4458, 4459, 4460, 4461, 4462, 4463, 4464, 4465, 4466, 4467, 4468, 4469, 4470]
def wsX11_readStep : List Cond := cw 2121 :: wI qWJ
theorem qbv : ∀ i ∈ qWJ, cw i ∈ wsX11_readStep := fun i h => List.mem_cons_of_mem _ (List.mem_map_of_mem h)
theorem q7N : okM 2121 qWJ = true := qaq (by decide +kernel)
def qaC3 : List Nat := [5, 456, 457, 527, 528, 529, 530, 2133, 4416, 4417, 4418, 4419, 4420, 4421, 4422, 4423, 4424, 4425, 4426, 4427, 4428, 4429, 4430, 4431, 4432, 4433, 4434, 4435, 4436, 4437, 4438, 4439, 4440, 4441, 4442, 4443, 4444, 4445, 4446, 4447, 4448, 4449, 4450, 4451, 4452, 4453, 4454, 4455, 4456, 4457, 4458, 4459, 4460, 4461, 4462, 4463, 4464, 4465, 4466, 4467, 4468, 4469, 4470]
def wsX11_take : List Cond := cw 2133 :: wI qaC3
theorem qVs : ∀ i ∈ qaC3, cw i ∈ wsX11_take := fun i h => List.mem_cons_of_mem _ (List.mem_map_of_mem h)
theorem qtb : okM 2133 qaC3 = true := qaq (by decide +kernel)
def qXy : List Nat := [457, 2193, 4416, 4417, 4418, 4419, 4420, 4421, 4422, 4423, 4424, 4425, 4426, 4427, 4428, 4429, 4430, 4431, 4432, 4433, 4434, 4435, 4436, 4437, 4438, 4439, 4440, 4441, 4442, 4443, 4444, 4445, 4446, 4447, 4448, 4449, 4450, 4451, 4452, 4453, 4454, 4455, 4456, 4457, 4458, 4459, 4460, 4461, 4462, 4463, 4464, 4465, 4466, 4467, 4468, 4469, 4470]
def wsX11_isCaught : List Cond := cw 2193 :: wI qXy
theorem q7e : ∀ i ∈ qXy, cw i ∈ wsX11_isCaught := fun i h => List.mem_cons_of_mem _ (List.mem_map_of_mem h)
theorem qnj : okM 2193 qXy = true := qaq (by decide +kernel)
def qaVJ : List Nat := [2240]
def wsX11_size : List Cond := cw 2240 :: wI qaVJ
theorem qaLw : okM 2240 qaVJ = true := qaq (by decide +kernel)
def qanw : List Nat := [5, 405, 2197, 2198, 2199, 2240, 4416, 4417, 4418, 4419, 4420, 4421, 4422, 4423, 4424, 4425, 4426, 4427, 4428, 4429, 4430, 4431, 4432, 4433, 4434, 4435, 4436, 4437, 4438, 4439, 4440, 4441, 4442, 4443, 4444, 4445, 4446, 4447, 4448, 4449, 4450, 4451, 4452, 4453, 4454, 4455, 4456, 4457, 4458, 4459, 4460, 4461, 4462, 4463, 4464, 4465, 4466, 4467, 4468, 4469, 4470]
def wsX11_farOf : List Cond := cw 2197 :: wI qanw
theorem qX9 : ∀ i ∈ qanw, cw i ∈ wsX11_farOf := fun i h => List.mem_cons_of_mem _ (List.mem_map_of_mem h)
theorem qFj : okM 2197 qanw = true := qaq (by decide +kernel)
def qaBr : List Nat := [457, 520, 2248, 4416, 4417, 4418, 4419, 4420, 4421, 4422, 4423, 4424, 4425, 4426, 4427, 4428, 4429, 4430, 4431, 4432, 4433, 4434, 4435, 4436, 4437, 4438, 4439, 4440, 4441, 4442, 4443, 4444, 4445, 4446, 4447, 4448, 4449, 4450, 4451, 4452, 4453, 4454, 4455, 4456, 4457, 4458, 4459, 4460, 4461, 4462, 4463, 4464, 4465, 4466, 4467, 4468, 4469, 4470]
def wsX11_owes : List Cond := cw 2248 :: wI qaBr
theorem qaml : ∀ i ∈ qaBr, cw i ∈ wsX11_owes := fun i h => List.mem_cons_of_mem _ (List.mem_map_of_mem h)
theorem qaLs : okM 2248 qaBr = true := qaq (by decide +kernel)
def q9O : List Nat := [457, 520, 2252, 4416, 4417, 4418, 4419, 4420, 4421, 4422, 4423, 4424, 4425, 4426, 4427, 4428, 4429, 4430, 4431, 4432, 4433, 4434, 4435, 4436, 4437, 4438, 4439, 4440, 4441, 4442, 4443, 4444, 4445, 4446, 4447, 4448, 4449, 4450, 4451, 4452, 4453, 4454, 4455, 4456, 4457, 4458, 4459, 4460, 4461, 4462, 4463, 4464, 4465, 4466, 4467, 4468, 4469, 4470]
def wsX11_isOwed : List Cond := cw 2252 :: wI q9O
theorem q3z : ∀ i ∈ q9O, cw i ∈ wsX11_isOwed := fun i h => List.mem_cons_of_mem _ (List.mem_map_of_mem h)
theorem qSU : okM 2252 q9O = true := qaq (by decide +kernel)
def qakp : List Nat := [457, 520, 2256, 4416, 4417, 4418, 4419, 4420, 4421, 4422, 4423, 4424, 4425, 4426, 4427, 4428, 4429, 4430, 4431, 4432, 4433, 4434, 4435, 4436, 4437, 4438, 4439, 4440, 4441, 4442, 4443, 4444, 4445, 4446, 4447, 4448, 4449, 4450, 4451, 4452, 4453, 4454, 4455, 4456, 4457, 4458, 4459, 4460, 4461, 4462, 4463, 4464, 4465, 4466, 4467, 4468, 4469, 4470]
def wsX11_sitIn : List Cond := cw 2256 :: wI qakp
theorem qabX : ∀ i ∈ qakp, cw i ∈ wsX11_sitIn := fun i h => List.mem_cons_of_mem _ (List.mem_map_of_mem h)
theorem q8P : okM 2256 qakp = true := qaq (by decide +kernel)
def qaU9 : List Nat := [2259]
def wsX11_ones : List Cond := cw 2259 :: wI qaU9
theorem qajE : okM 2259 qaU9 = true := qaq (by decide +kernel)
def qabY : List Nat := [5, 450, 451, 452, 453, 522, 2263, 2304, 2305, 2306, 2307, 2308, 2309, 2310, 2311, 2312, 2313, 2314, 4416, 4417, 4418, 4419, 4420, 4421, 4422, 4423, 4424, 4425, 4426, 4427, 4428, 4429, 4430, 4431, 4432, 4433, 4434, 4435, 4436, 4437, 4438, 4439, 4440, 4441, 4442, 4443, 4444, 4445, 4446, 4447, 4448, 4449, 4450, 4451, 4452, 4453, 4454, 4455, 4456, 4457, 4458, 4459, 4460, 4461, 4462, 4463, 4464, 4465, 4466, 4467, 4468, 4469, 4470]
def wsX11_leapOf : List Cond := cw 2263 :: wI qabY
theorem qRT : ∀ i ∈ qabY, cw i ∈ wsX11_leapOf := fun i h => List.mem_cons_of_mem _ (List.mem_map_of_mem h)
theorem qaok : okM 2263 qabY = true := qaq (by decide +kernel)
def qabt : List Nat := [5, 450, 451, 452, 453, 457, 520, 522, 2190, 2191, 2192, 2193, 2244, 2245, 2246, 2247, 2248, 2249, 2250, 2251, 2252, 2253, 2254, 2255, 2256, 2257, 2258, 2259, 2260, 2261, 2262, 2263, 2304, 2305, 2306, 2307, 2308, 2309, 2310, 2311, 2312, 2313, 2314, 4416, 4417, 4418, 4419, 4420, 4421, 4422, 4423, 4424, 4425, 4426, 4427, 4428, 4429, 4430, 4431, 4432, 4433, 4434, 4435, 4436, 4437, 4438, 4439, 4440, 4441, 4442, 4443, 4444, 4445, 4446, 4447, 4448, 4449, 4450, 4451, 4452, 4453, 4454, 4455, 4456, 4457, 4458, 4459, 4460, 4461, 4462, 4463, 4464, 4465, 4466, 4467, 4468, 4469, 4470]
def wsX11_leapBy : List Cond := cw 2244 :: wI qabt
theorem qqi : ∀ i ∈ qabt, cw i ∈ wsX11_leapBy := fun i h => List.mem_cons_of_mem _ (List.mem_map_of_mem h)
theorem q1r : okM 2244 qabt = true := qaq (by decide +kernel)
def q1Z : List Nat := [5, 405, 450, 451, 452, 453, 457, 520, 522, 2189, 2190, 2191, 2192, 2193, 2194, 2195, 2196, 2197, 2198, 2199, 2240, 2241, 2242, 2243, 2244, 2245, 2246, 2247, 2248, 2249, 2250, 2251, 2252, 2253, 2254, 2255, 2256, 2257, 2258, 2259, 2260, 2261, 2262, 2263, 2304, 2305, 2306, 2307, 2308, 2309, 2310, 2311, 2312, 2313, 2314, 4416, 4417, 4418, 4419, 4420, 4421, 4422, 4423, 4424, 4425, 4426, 4427, 4428, 4429, 4430, 4431, 4432, 4433, 4434, 4435, 4436, 4437, 4438, 4439, 4440, 4441, 4442, 4443, 4444, 4445, 4446, 4447, 4448, 4449, 4450, 4451, 4452, 4453, 4454, 4455, 4456, 4457, 4458, 4459, 4460, 4461, 4462, 4463, 4464, 4465, 4466, 4467, 4468, 4469, 4470]
def wsX11_canLeap : List Cond := cw 2189 :: wI q1Z
theorem qxk : ∀ i ∈ q1Z, cw i ∈ wsX11_canLeap := fun i h => List.mem_cons_of_mem _ (List.mem_map_of_mem h)
theorem qXa : okM 2189 q1Z = true := qaq (by decide +kernel)
def q0P : List Nat := [5, 405, 450, 451, 452, 453, 457, 520, 522, 2185, 2186, 2187, 2188, 2189, 2190, 2191, 2192, 2193, 2194, 2195, 2196, 2197, 2198, 2199, 2240, 2241, 2242, 2243, 2244, 2245, 2246, 2247, 2248, 2249, 2250, 2251, 2252, 2253, 2254, 2255, 2256, 2257, 2258, 2259, 2260, 2261, 2262, 2263, 2304, 2305, 2306, 2307, 2308, 2309, 2310, 2311, 2312, 2313, 2314, 4416, 4417, 4418, 4419, 4420, 4421, 4422, 4423, 4424, 4425, 4426, 4427, 4428, 4429, 4430, 4431, 4432, 4433, 4434, 4435, 4436, 4437, 4438, 4439, 4440, 4441, 4442, 4443, 4444, 4445, 4446, 4447, 4448, 4449, 4450, 4451, 4452, 4453, 4454, 4455, 4456, 4457, 4458, 4459, 4460, 4461, 4462, 4463, 4464, 4465, 4466, 4467, 4468, 4469, 4470]
def wsX11_leapsTo : List Cond := cw 2185 :: wI q0P
theorem qOe : ∀ i ∈ q0P, cw i ∈ wsX11_leapsTo := fun i h => List.mem_cons_of_mem _ (List.mem_map_of_mem h)
theorem qaeN : okM 2185 q0P = true := qaq (by decide +kernel)
def qajO : List Nat := [5, 457, 2190, 2191, 2192, 2193, 2318, 4416, 4417, 4418, 4419, 4420, 4421, 4422, 4423, 4424, 4425, 4426, 4427, 4428, 4429, 4430, 4431, 4432, 4433, 4434, 4435, 4436, 4437, 4438, 4439, 4440, 4441, 4442, 4443, 4444, 4445, 4446, 4447, 4448, 4449, 4450, 4451, 4452, 4453, 4454, 4455, 4456, 4457, 4458, 4459, 4460, 4461, 4462, 4463, 4464, 4465, 4466, 4467, 4468, 4469, 4470]
def wsX11_boxes : List Cond := cw 2318 :: wI qajO
theorem qX5 : ∀ i ∈ qajO, cw i ∈ wsX11_boxes := fun i h => List.mem_cons_of_mem _ (List.mem_map_of_mem h)
theorem qaAw : okM 2318 qajO = true := qaq (by decide +kernel)
def qazz : List Nat := [5, 457, 2190, 2191, 2192, 2193, 2322, 4416, 4417, 4418, 4419, 4420, 4421, 4422, 4423, 4424, 4425, 4426, 4427, 4428, 4429, 4430, 4431, 4432, 4433, 4434, 4435, 4436, 4437, 4438, 4439, 4440, 4441, 4442, 4443, 4444, 4445, 4446, 4447, 4448, 4449, 4450, 4451, 4452, 4453, 4454, 4455, 4456, 4457, 4458, 4459, 4460, 4461, 4462, 4463, 4464, 4465, 4466, 4467, 4468, 4469, 4470]
def wsX11_pays : List Cond := cw 2322 :: wI qazz
theorem q4R : ∀ i ∈ qazz, cw i ∈ wsX11_pays := fun i h => List.mem_cons_of_mem _ (List.mem_map_of_mem h)
theorem qa1J : okM 2322 qazz = true := qaq (by decide +kernel)
def qabi : List Nat := [5, 405, 407, 521, 2198, 2199, 2240, 2378, 4416, 4417, 4418, 4419, 4420, 4421, 4422, 4423, 4424, 4425, 4426, 4427, 4428, 4429, 4430, 4431, 4432, 4433, 4434, 4435, 4436, 4437, 4438, 4439, 4440, 4441, 4442, 4443, 4444, 4445, 4446, 4447, 4448, 4449, 4450, 4451, 4452, 4453, 4454, 4455, 4456, 4457, 4458, 4459, 4460, 4461, 4462, 4463, 4464, 4465, 4466, 4467, 4468, 4469, 4470]
def wsX11_isSafe : List Cond := cw 2378 :: wI qabi
theorem qGi : ∀ i ∈ qabi, cw i ∈ wsX11_isSafe := fun i h => List.mem_cons_of_mem _ (List.mem_map_of_mem h)
theorem qSk : okM 2378 qabi = true := qaq (by decide +kernel)
def qHs : List Nat := [5, 405, 407, 457, 521, 2190, 2191, 2192, 2193, 2198, 2199, 2240, 2374, 2375, 2376, 2377, 2378, 4416, 4417, 4418, 4419, 4420, 4421, 4422, 4423, 4424, 4425, 4426, 4427, 4428, 4429, 4430, 4431, 4432, 4433, 4434, 4435, 4436, 4437, 4438, 4439, 4440, 4441, 4442, 4443, 4444, 4445, 4446, 4447, 4448, 4449, 4450, 4451, 4452, 4453, 4454, 4455, 4456, 4457, 4458, 4459, 4460, 4461, 4462, 4463, 4464, 4465, 4466, 4467, 4468, 4469, 4470]
def wsX11_wouldBeCaught : List Cond := cw 2374 :: wI qHs
theorem qsZ : ∀ i ∈ qHs, cw i ∈ wsX11_wouldBeCaught := fun i h => List.mem_cons_of_mem _ (List.mem_map_of_mem h)
theorem qO0 : okM 2374 qHs = true := qaq (by decide +kernel)
def q4q : List Nat := [5, 405, 406, 407, 457, 520, 521, 2190, 2191, 2192, 2193, 2198, 2199, 2240, 2370, 2371, 2372, 2373, 2374, 2375, 2376, 2377, 2378, 4416, 4417, 4418, 4419, 4420, 4421, 4422, 4423, 4424, 4425, 4426, 4427, 4428, 4429, 4430, 4431, 4432, 4433, 4434, 4435, 4436, 4437, 4438, 4439, 4440, 4441, 4442, 4443, 4444, 4445, 4446, 4447, 4448, 4449, 4450, 4451, 4452, 4453, 4454, 4455, 4456, 4457, 4458, 4459, 4460, 4461, 4462, 4463, 4464, 4465, 4466, 4467, 4468, 4469, 4470]
def wsX11_strokes : List Cond := cw 2370 :: wI q4q
theorem qwX : ∀ i ∈ q4q, cw i ∈ wsX11_strokes := fun i h => List.mem_cons_of_mem _ (List.mem_map_of_mem h)
theorem qaPB : okM 2370 q4q = true := qaq (by decide +kernel)
def q8I : List Nat := [5, 405, 406, 407, 457, 520, 521, 2190, 2191, 2192, 2193, 2198, 2199, 2240, 2326, 2327, 2368, 2369, 2370, 2371, 2372, 2373, 2374, 2375, 2376, 2377, 2378, 4416, 4417, 4418, 4419, 4420, 4421, 4422, 4423, 4424, 4425, 4426, 4427, 4428, 4429, 4430, 4431, 4432, 4433, 4434, 4435, 4436, 4437, 4438, 4439, 4440, 4441, 4442, 4443, 4444, 4445, 4446, 4447, 4448, 4449, 4450, 4451, 4452, 4453, 4454, 4455, 4456, 4457, 4458, 4459, 4460, 4461, 4462, 4463, 4464, 4465, 4466, 4467, 4468, 4469, 4470]
def wsX11_passes : List Cond := cw 2326 :: wI q8I
theorem qCg : ∀ i ∈ q8I, cw i ∈ wsX11_passes := fun i h => List.mem_cons_of_mem _ (List.mem_map_of_mem h)
theorem q4E : okM 2326 q8I = true := qaq (by decide +kernel)
def q9m : List Nat := [5, 405, 406, 407, 450, 451, 452, 453, 457, 520, 521, 522, 2181, 2182, 2183, 2184, 2185, 2186, 2187, 2188, 2189, 2190, 2191, 2192, 2193, 2194, 2195, 2196, 2197, 2198, 2199, 2240, 2241, 2242, 2243, 2244, 2245, 2246, 2247, 2248, 2249, 2250, 2251, 2252, 2253, 2254, 2255, 2256, 2257, 2258, 2259, 2260, 2261, 2262, 2263, 2304, 2305, 2306, 2307, 2308, 2309, 2310, 2311, 2312, 2313, 2314, 2315, 2316, 2317, 2318, 2319, 2320, 2321, 2322, 2323, 2324, 2325, 2326, 2327, 2368, 2369, 2370, 2371, 2372, 2373, 2374, 2375, 2376, 2377, 2378, 4416, 4417, 4418, 4419, 4420, 4421, 4422, 4423, 4424, 4425, 4426, 4427, 4428, 4429, 4430, 4431, 4432, 4433, 4434, 4435, 4436, 4437, 4438, 4439, 4440, 4441, 4442, 4443, 4444, 4445, 4446, 4447, 4448, 4449, 4450, 4451, 4452, 4453, 4454, 4455, 4456, 4457, 4458, 4459, 4460, 4461, 4462, 4463, 4464, 4465, 4466, 4467, 4468, 4469, 4470]
def wsX11_isDone : List Cond := cw 2181 :: wI q9m
theorem qvr : ∀ i ∈ q9m, cw i ∈ wsX11_isDone := fun i h => List.mem_cons_of_mem _ (List.mem_map_of_mem h)
theorem qaT3 : okM 2181 q9m = true := qaq (by decide +kernel)
def qT8 : List Nat := [5, 405, 406, 407, 450, 451, 452, 453, 455, 457, 520, 521, 522, 2115, 2116, 2117, 2134, 2135, 2176, 2177, 2178, 2179, 2180, 2181, 2182, 2183, 2184, 2185, 2186, 2187, 2188, 2189, 2190, 2191, 2192, 2193, 2194, 2195, 2196, 2197, 2198, 2199, 2240, 2241, 2242, 2243, 2244, 2245, 2246, 2247, 2248, 2249, 2250, 2251, 2252, 2253, 2254, 2255, 2256, 2257, 2258, 2259, 2260, 2261, 2262, 2263, 2304, 2305, 2306, 2307, 2308, 2309, 2310, 2311, 2312, 2313, 2314, 2315, 2316, 2317, 2318, 2319, 2320, 2321, 2322, 2323, 2324, 2325, 2326, 2327, 2368, 2369, 2370, 2371, 2372, 2373, 2374, 2375, 2376, 2377, 2378, 4416, 4417, 4418, 4419, 4420, 4421, 4422, 4423, 4424, 4425, 4426, 4427, 4428, 4429, 4430, 4431, 4432, 4433, 4434, 4435, 4436, 4437, 4438, 4439, 4440, 4441, 4442, 4443, 4444, 4445, 4446, 4447, 4448, 4449, 4450, 4451, 4452, 4453, 4454, 4455, 4456, 4457, 4458, 4459, 4460, 4461, 4462, 4463, 4464, 4465, 4466, 4467, 4468, 4469, 4470]
def wsX11_goesSteps : List Cond := cw 2177 :: wI qT8
theorem qkU : ∀ i ∈ qT8, cw i ∈ wsX11_goesSteps := fun i h => List.mem_cons_of_mem _ (List.mem_map_of_mem h)
theorem q4B : okM 2177 qT8 = true := qaq (by decide +kernel)
def qaUx : List Nat := [5, 398, 399, 400, 405, 406, 407, 450, 451, 452, 453, 454, 455, 456, 457, 458, 519, 520, 521, 522, 524, 526, 527, 528, 529, 530, 589, 590, 784, 785, 786, 787, 788, 789, 790, 791, 832, 833, 834, 841, 842, 843, 844, 845, 846, 847, 848, 849, 850, 851, 852, 853, 854, 855, 896, 897, 898, 899, 900, 901, 902, 903, 904, 905, 906, 907, 908, 909, 910, 911, 912, 913, 914, 915, 916, 1103, 1104, 1105, 1106, 1107, 1108, 1109, 1110, 1111, 1152, 1153, 1154, 1155, 1156, 1157, 1158, 1159, 1160, 1161, 1162, 1163, 1164, 1165, 1166, 1167, 1168, 1169, 1170, 1171, 1172, 1173, 1217, 1218, 1219, 1220, 1221, 1222, 1223, 1224, 1225, 1226, 1231, 1232, 1233, 1234, 1239, 1280, 1281, 1282, 1283, 1284, 1285, 1294, 1295, 1296, 1297, 1298, 1299, 1300, 1301, 1538, 1539, 1540, 1541, 2113, 2114, 2115, 2116, 2117, 2118, 2119, 2120, 2121, 2122, 2123, 2124, 2125, 2126, 2127, 2128, 2129, 2130, 2131, 2132, 2133, 2134, 2135, 2176, 2177, 2178, 2179, 2180, 2181, 2182, 2183, 2184, 2185, 2186, 2187, 2188, 2189, 2190, 2191, 2192, 2193, 2194, 2195, 2196, 2197, 2198, 2199, 2240, 2241, 2242, 2243, 2244, 2245, 2246, 2247, 2248, 2249, 2250, 2251, 2252, 2253, 2254, 2255, 2256, 2257, 2258, 2259, 2260, 2261, 2262, 2263, 2304, 2305, 2306, 2307, 2308, 2309, 2310, 2311, 2312, 2313, 2314, 2315, 2316, 2317, 2318, 2319, 2320, 2321, 2322, 2323, 2324, 2325, 2326, 2327, 2368, 2369, 2370, 2371, 2372, 2373, 2374, 2375, 2376, 2377, 2378, 4416, 4417, 4418, 4419, 4420, 4421, 4422, 4423, 4424, 4425, 4426, 4427, 4428, 4429, 4430, 4431, 4432, 4433, 4434, 4435, 4436, 4437, 4438, 4439, 4440, 4441, 4442, 4443, 4444, 4445, 4446, 4447, 4448, 4449, 4450, 4451, 4452, 4453, 4454, 4455, 4456, 4457, 4458, 4459, 4460, 4461, 4462, 4463, 4464, 4465, 4466, 4467, 4468, 4469, 4470]
def wsX11_work : List Cond := cw 2113 :: wI qaUx
theorem qeH : ∀ i ∈ qaUx, cw i ∈ wsX11_work := fun i h => List.mem_cons_of_mem _ (List.mem_map_of_mem h)
def qaS4 : List Nat := [5, 398, 399, 400, 459, 460, 519, 523, 527, 528, 529, 530, 589, 590, 1103, 1104, 1105, 1106, 1107, 1108, 1109, 1110, 1111, 1152, 1153, 1154, 1155, 1156, 1157, 1158, 1159, 1160, 1161, 1162, 1163, 1164, 1165, 1166, 1222, 1223, 1224, 1225, 1226, 1239, 1280, 1281, 1282, 1283, 1284, 1285, 1294, 1295, 1296, 1297, 1298, 1299, 1300, 1301, 2451, 4416, 4417, 4418, 4419, 4420, 4421, 4422, 4423, 4424, 4425, 4426, 4427, 4428, 4429, 4430, 4431, 4432, 4433, 4434, 4435, 4436, 4437, 4438, 4439, 4440, 4441, 4442, 4443, 4444, 4445, 4446, 4447, 4448, 4449, 4450, 4451, 4452, 4453, 4454, 4455, 4456, 4457, 4458, 4459, 4460, 4461, 4462, 4463, 4464, 4465, 4466, 4467, 4468, 4469, 4470]
def wsX11_book : List Cond := cw 2451 :: wI qaS4
theorem qgn : ∀ i ∈ qaS4, cw i ∈ wsX11_book := fun i h => List.mem_cons_of_mem _ (List.mem_map_of_mem h)
def qaTD : List Nat := [456, 458, 524, 526, 589, 2512, 4416, 4417, 4418, 4419, 4420, 4421, 4422, 4423, 4424, 4425, 4426, 4427, 4428, 4429, 4430, 4431, 4432, 4433, 4434, 4435, 4436, 4437, 4438, 4439, 4440, 4441, 4442, 4443, 4444, 4445, 4446, 4447, 4448, 4449, 4450, 4451, 4452, 4453, 4454, 4455, 4456, 4457, 4458, 4459, 4460, 4461, 4462, 4463, 4464, 4465, 4466, 4467, 4468, 4469, 4470]
def wsX11_undo : List Cond := cw 2512 :: wI qaTD
theorem qOz : ∀ i ∈ qaTD, cw i ∈ wsX11_undo := fun i h => List.mem_cons_of_mem _ (List.mem_map_of_mem h)
def qTg : List Nat := [5, 457, 520, 2190, 2191, 2192, 2193, 2631, 4416, 4417, 4418, 4419, 4420, 4421, 4422, 4423, 4424, 4425, 4426, 4427, 4428, 4429, 4430, 4431, 4432, 4433, 4434, 4435, 4436, 4437, 4438, 4439, 4440, 4441, 4442, 4443, 4444, 4445, 4446, 4447, 4448, 4449, 4450, 4451, 4452, 4453, 4454, 4455, 4456, 4457, 4458, 4459, 4460, 4461, 4462, 4463, 4464, 4465, 4466, 4467, 4468, 4469, 4470]
def wsX11_caughtNow : List Cond := cw 2631 :: wI qTg
theorem qIL : ∀ i ∈ qTg, cw i ∈ wsX11_caughtNow := fun i h => List.mem_cons_of_mem _ (List.mem_map_of_mem h)
theorem qI2 : okM 2631 qTg = true := qaq (by decide +kernel)
def qXi : List Nat := [457, 2639, 4416, 4417, 4418, 4419, 4420, 4421, 4422, 4423, 4424, 4425, 4426, 4427, 4428, 4429, 4430, 4431, 4432, 4433, 4434, 4435, 4436, 4437, 4438, 4439, 4440, 4441, 4442, 4443, 4444, 4445, 4446, 4447, 4448, 4449, 4450, 4451, 4452, 4453, 4454, 4455, 4456, 4457, 4458, 4459, 4460, 4461, 4462, 4463, 4464, 4465, 4466, 4467, 4468, 4469, 4470]
def wsX11_debtsNow : List Cond := cw 2639 :: wI qXi
theorem q7n : ∀ i ∈ qXi, cw i ∈ wsX11_debtsNow := fun i h => List.mem_cons_of_mem _ (List.mem_map_of_mem h)
theorem q7v : okM 2639 qXi = true := qaq (by decide +kernel)
def qWh : List Nat := [5, 405, 407, 457, 520, 521, 2190, 2191, 2192, 2193, 2198, 2199, 2240, 2371, 2372, 2373, 2374, 2375, 2376, 2377, 2378, 2627, 4416, 4417, 4418, 4419, 4420, 4421, 4422, 4423, 4424, 4425, 4426, 4427, 4428, 4429, 4430, 4431, 4432, 4433, 4434, 4435, 4436, 4437, 4438, 4439, 4440, 4441, 4442, 4443, 4444, 4445, 4446, 4447, 4448, 4449, 4450, 4451, 4452, 4453, 4454, 4455, 4456, 4457, 4458, 4459, 4460, 4461, 4462, 4463, 4464, 4465, 4466, 4467, 4468, 4469, 4470]
def wsX11_bitsTold : List Cond := cw 2627 :: wI qWh
theorem qDU : ∀ i ∈ qWh, cw i ∈ wsX11_bitsTold := fun i h => List.mem_cons_of_mem _ (List.mem_map_of_mem h)
theorem qaHj : okM 2627 qWh = true := qaq (by decide +kernel)
def qT5 : List Nat := [5, 405, 407, 519, 521, 2198, 2199, 2240, 2375, 2376, 2377, 2378, 2635, 4416, 4417, 4418, 4419, 4420, 4421, 4422, 4423, 4424, 4425, 4426, 4427, 4428, 4429, 4430, 4431, 4432, 4433, 4434, 4435, 4436, 4437, 4438, 4439, 4440, 4441, 4442, 4443, 4444, 4445, 4446, 4447, 4448, 4449, 4450, 4451, 4452, 4453, 4454, 4455, 4456, 4457, 4458, 4459, 4460, 4461, 4462, 4463, 4464, 4465, 4466, 4467, 4468, 4469, 4470]
def wsX11_safeForms : List Cond := cw 2635 :: wI qT5
theorem qHa : ∀ i ∈ qT5, cw i ∈ wsX11_safeForms := fun i h => List.mem_cons_of_mem _ (List.mem_map_of_mem h)
theorem q2x : okM 2635 qT5 = true := qaq (by decide +kernel)
def qaTN : List Nat := [5, 398, 405, 407, 456, 457, 519, 520, 521, 523, 526, 527, 528, 529, 530, 589, 1105, 1106, 1107, 1108, 2130, 2131, 2132, 2133, 2190, 2191, 2192, 2193, 2198, 2199, 2240, 2371, 2372, 2373, 2374, 2375, 2376, 2377, 2378, 2580, 2581, 2582, 2583, 2624, 2625, 2626, 2627, 2628, 2629, 2630, 2631, 2632, 2633, 2634, 2635, 2636, 2637, 2638, 2639, 4416, 4417, 4418, 4419, 4420, 4421, 4422, 4423, 4424, 4425, 4426, 4427, 4428, 4429, 4430, 4431, 4432, 4433, 4434, 4435, 4436, 4437, 4438, 4439, 4440, 4441, 4442, 4443, 4444, 4445, 4446, 4447, 4448, 4449, 4450, 4451, 4452, 4453, 4454, 4455, 4456, 4457, 4458, 4459, 4460, 4461, 4462, 4463, 4464, 4465, 4466, 4467, 4468, 4469, 4470]
def wsX11_told : List Cond := cw 2580 :: wI qaTN
theorem qnx : ∀ i ∈ qaTN, cw i ∈ wsX11_told := fun i h => List.mem_cons_of_mem _ (List.mem_map_of_mem h)
def qaci : List Nat := [5, 398, 519, 589, 1105, 1106, 1107, 1108, 2581, 2582, 2583, 2706, 4416, 4417, 4418, 4419, 4420, 4421, 4422, 4423, 4424, 4425, 4426, 4427, 4428, 4429, 4430, 4431, 4432, 4433, 4434, 4435, 4436, 4437, 4438, 4439, 4440, 4441, 4442, 4443, 4444, 4445, 4446, 4447, 4448, 4449, 4450, 4451, 4452, 4453, 4454, 4455, 4456, 4457, 4458, 4459, 4460, 4461, 4462, 4463, 4464, 4465, 4466, 4467, 4468, 4469, 4470]
def wsX11_isForm : List Cond := cw 2706 :: wI qaci
theorem qGb : ∀ i ∈ qaci, cw i ∈ wsX11_isForm := fun i h => List.mem_cons_of_mem _ (List.mem_map_of_mem h)
theorem qK9 : okM 2706 qaci = true := qaq (by decide +kernel)
def qaau : List Nat := [5, 398, 520, 589, 1105, 1106, 1107, 1108, 2581, 2582, 2583, 2774, 4416, 4417, 4418, 4419, 4420, 4421, 4422, 4423, 4424, 4425, 4426, 4427, 4428, 4429, 4430, 4431, 4432, 4433, 4434, 4435, 4436, 4437, 4438, 4439, 4440, 4441, 4442, 4443, 4444, 4445, 4446, 4447, 4448, 4449, 4450, 4451, 4452, 4453, 4454, 4455, 4456, 4457, 4458, 4459, 4460, 4461, 4462, 4463, 4464, 4465, 4466, 4467, 4468, 4469, 4470]
def wsX11_isHare : List Cond := cw 2774 :: wI qaau
theorem qGr : ∀ i ∈ qaau, cw i ∈ wsX11_isHare := fun i h => List.mem_cons_of_mem _ (List.mem_map_of_mem h)
theorem qxn : okM 2774 qaau = true := qaq (by decide +kernel)
def qaTd : List Nat := [5, 398, 405, 407, 456, 457, 519, 520, 521, 527, 528, 529, 530, 589, 1105, 1106, 1107, 1108, 2130, 2131, 2132, 2133, 2198, 2199, 2240, 2253, 2254, 2255, 2256, 2375, 2376, 2377, 2378, 2581, 2582, 2583, 2702, 2703, 2704, 2705, 2706, 4416, 4417, 4418, 4419, 4420, 4421, 4422, 4423, 4424, 4425, 4426, 4427, 4428, 4429, 4430, 4431, 4432, 4433, 4434, 4435, 4436, 4437, 4438, 4439, 4440, 4441, 4442, 4443, 4444, 4445, 4446, 4447, 4448, 4449, 4450, 4451, 4452, 4453, 4454, 4455, 4456, 4457, 4458, 4459, 4460, 4461, 4462, 4463, 4464, 4465, 4466, 4467, 4468, 4469, 4470]
def wsX11_form : List Cond := cw 2702 :: wI qaTd
theorem qtm : ∀ i ∈ qaTd, cw i ∈ wsX11_form := fun i h => List.mem_cons_of_mem _ (List.mem_map_of_mem h)
def qaUJ : List Nat := [5, 398, 406, 450, 451, 452, 453, 456, 457, 520, 522, 527, 528, 529, 530, 589, 1105, 1106, 1107, 1108, 2130, 2131, 2132, 2133, 2190, 2191, 2192, 2193, 2241, 2242, 2243, 2244, 2245, 2246, 2247, 2248, 2249, 2250, 2251, 2252, 2253, 2254, 2255, 2256, 2257, 2258, 2259, 2260, 2261, 2262, 2263, 2304, 2305, 2306, 2307, 2308, 2309, 2310, 2311, 2312, 2313, 2314, 2581, 2582, 2583, 2770, 2771, 2772, 2773, 2774, 4416, 4417, 4418, 4419, 4420, 4421, 4422, 4423, 4424, 4425, 4426, 4427, 4428, 4429, 4430, 4431, 4432, 4433, 4434, 4435, 4436, 4437, 4438, 4439, 4440, 4441, 4442, 4443, 4444, 4445, 4446, 4447, 4448, 4449, 4450, 4451, 4452, 4453, 4454, 4455, 4456, 4457, 4458, 4459, 4460, 4461, 4462, 4463, 4464, 4465, 4466, 4467, 4468, 4469, 4470]
def wsX11_hare : List Cond := cw 2770 :: wI qaUJ
theorem qqo : ∀ i ∈ qaUJ, cw i ∈ wsX11_hare := fun i h => List.mem_cons_of_mem _ (List.mem_map_of_mem h)
def qa0p : List Nat := [5, 398, 407, 521, 589, 1105, 1106, 1107, 1108, 2581, 2582, 2583, 2827, 4416, 4417, 4418, 4419, 4420, 4421, 4422, 4423, 4424, 4425, 4426, 4427, 4428, 4429, 4430, 4431, 4432, 4433, 4434, 4435, 4436, 4437, 4438, 4439, 4440, 4441, 4442, 4443, 4444, 4445, 4446, 4447, 4448, 4449, 4450, 4451, 4452, 4453, 4454, 4455, 4456, 4457, 4458, 4459, 4460, 4461, 4462, 4463, 4464, 4465, 4466, 4467, 4468, 4469, 4470]
def wsX11_fox : List Cond := cw 2827 :: wI qa0p
theorem qLf : ∀ i ∈ qa0p, cw i ∈ wsX11_fox := fun i h => List.mem_cons_of_mem _ (List.mem_map_of_mem h)
def qaUQ : List Nat := [5, 398, 456, 520, 589, 1105, 1106, 1107, 1108, 2581, 2582, 2583, 2771, 2772, 2773, 2774, 2839, 4416, 4417, 4418, 4419, 4420, 4421, 4422, 4423, 4424, 4425, 4426, 4427, 4428, 4429, 4430, 4431, 4432, 4433, 4434, 4435, 4436, 4437, 4438, 4439, 4440, 4441, 4442, 4443, 4444, 4445, 4446, 4447, 4448, 4449, 4450, 4451, 4452, 4453, 4454, 4455, 4456, 4457, 4458, 4459, 4460, 4461, 4462, 4463, 4464, 4465, 4466, 4467, 4468, 4469, 4470]
def wsX11_debt : List Cond := cw 2839 :: wI qaUQ
theorem qVe : ∀ i ∈ qaUQ, cw i ∈ wsX11_debt := fun i h => List.mem_cons_of_mem _ (List.mem_map_of_mem h)
def qa04 : List Nat := [5, 398, 405, 519, 589, 1105, 1106, 1107, 1108, 2194, 2195, 2196, 2197, 2198, 2199, 2240, 2581, 2582, 2583, 2703, 2704, 2705, 2706, 2891, 4416, 4417, 4418, 4419, 4420, 4421, 4422, 4423, 4424, 4425, 4426, 4427, 4428, 4429, 4430, 4431, 4432, 4433, 4434, 4435, 4436, 4437, 4438, 4439, 4440, 4441, 4442, 4443, 4444, 4445, 4446, 4447, 4448, 4449, 4450, 4451, 4452, 4453, 4454, 4455, 4456, 4457, 4458, 4459, 4460, 4461, 4462, 4463, 4464, 4465, 4466, 4467, 4468, 4469, 4470]
def wsX11_far : List Cond := cw 2891 :: wI qa04
theorem qUO : ∀ i ∈ qa04, cw i ∈ wsX11_far := fun i h => List.mem_cons_of_mem _ (List.mem_map_of_mem h)
def qaLo : List Nat := [5, 398, 450, 451, 452, 453, 522, 589, 1105, 1106, 1107, 1108, 2260, 2261, 2262, 2263, 2304, 2305, 2306, 2307, 2308, 2309, 2310, 2311, 2312, 2313, 2314, 2581, 2582, 2583, 2945, 4416, 4417, 4418, 4419, 4420, 4421, 4422, 4423, 4424, 4425, 4426, 4427, 4428, 4429, 4430, 4431, 4432, 4433, 4434, 4435, 4436, 4437, 4438, 4439, 4440, 4441, 4442, 4443, 4444, 4445, 4446, 4447, 4448, 4449, 4450, 4451, 4452, 4453, 4454, 4455, 4456, 4457, 4458, 4459, 4460, 4461, 4462, 4463, 4464, 4465, 4466, 4467, 4468, 4469, 4470]
def wsX11_would : List Cond := cw 2945 :: wI qaLo
theorem qBD : ∀ i ∈ qaLo, cw i ∈ wsX11_would := fun i h => List.mem_cons_of_mem _ (List.mem_map_of_mem h)
def qa1n : List Nat := [5, 398, 405, 450, 451, 452, 453, 456, 457, 519, 520, 522, 527, 528, 529, 530, 589, 1105, 1106, 1107, 1108, 2130, 2131, 2132, 2133, 2186, 2187, 2188, 2189, 2190, 2191, 2192, 2193, 2194, 2195, 2196, 2197, 2198, 2199, 2240, 2241, 2242, 2243, 2244, 2245, 2246, 2247, 2248, 2249, 2250, 2251, 2252, 2253, 2254, 2255, 2256, 2257, 2258, 2259, 2260, 2261, 2262, 2263, 2304, 2305, 2306, 2307, 2308, 2309, 2310, 2311, 2312, 2313, 2314, 2581, 2582, 2583, 2703, 2704, 2705, 2706, 2771, 2772, 2773, 2774, 2957, 4416, 4417, 4418, 4419, 4420, 4421, 4422, 4423, 4424, 4425, 4426, 4427, 4428, 4429, 4430, 4431, 4432, 4433, 4434, 4435, 4436, 4437, 4438, 4439, 4440, 4441, 4442, 4443, 4444, 4445, 4446, 4447, 4448, 4449, 4450, 4451, 4452, 4453, 4454, 4455, 4456, 4457, 4458, 4459, 4460, 4461, 4462, 4463, 4464, 4465, 4466, 4467, 4468, 4469, 4470]
def wsX11_can : List Cond := cw 2957 :: wI qa1n
theorem qDV : ∀ i ∈ qa1n, cw i ∈ wsX11_can := fun i h => List.mem_cons_of_mem _ (List.mem_map_of_mem h)
def q4w : List Nat := [5, 405, 450, 451, 452, 453, 457, 519, 520, 522, 2186, 2187, 2188, 2189, 2190, 2191, 2192, 2193, 2194, 2195, 2196, 2197, 2198, 2199, 2240, 2241, 2242, 2243, 2244, 2245, 2246, 2247, 2248, 2249, 2250, 2251, 2252, 2253, 2254, 2255, 2256, 2257, 2258, 2259, 2260, 2261, 2262, 2263, 2304, 2305, 2306, 2307, 2308, 2309, 2310, 2311, 2312, 2313, 2314, 3206, 4416, 4417, 4418, 4419, 4420, 4421, 4422, 4423, 4424, 4425, 4426, 4427, 4428, 4429, 4430, 4431, 4432, 4433, 4434, 4435, 4436, 4437, 4438, 4439, 4440, 4441, 4442, 4443, 4444, 4445, 4446, 4447, 4448, 4449, 4450, 4451, 4452, 4453, 4454, 4455, 4456, 4457, 4458, 4459, 4460, 4461, 4462, 4463, 4464, 4465, 4466, 4467, 4468, 4469, 4470]
def wsX11_rangeOf : List Cond := cw 3206 :: wI q4w
theorem qOl : ∀ i ∈ q4w, cw i ∈ wsX11_rangeOf := fun i h => List.mem_cons_of_mem _ (List.mem_map_of_mem h)
theorem qahO : okM 3206 q4w = true := qaq (by decide +kernel)
def qaLn : List Nat := [5, 398, 405, 450, 451, 452, 453, 456, 457, 519, 520, 522, 527, 528, 529, 530, 589, 1105, 1106, 1107, 1108, 2130, 2131, 2132, 2133, 2186, 2187, 2188, 2189, 2190, 2191, 2192, 2193, 2194, 2195, 2196, 2197, 2198, 2199, 2240, 2241, 2242, 2243, 2244, 2245, 2246, 2247, 2248, 2249, 2250, 2251, 2252, 2253, 2254, 2255, 2256, 2257, 2258, 2259, 2260, 2261, 2262, 2263, 2304, 2305, 2306, 2307, 2308, 2309, 2310, 2311, 2312, 2313, 2314, 2581, 2582, 2583, 2771, 2772, 2773, 2774, 3203, 3204, 3205, 3206, 3989, 4416, 4417, 4418, 4419, 4420, 4421, 4422, 4423, 4424, 4425, 4426, 4427, 4428, 4429, 4430, 4431, 4432, 4433, 4434, 4435, 4436, 4437, 4438, 4439, 4440, 4441, 4442, 4443, 4444, 4445, 4446, 4447, 4448, 4449, 4450, 4451, 4452, 4453, 4454, 4455, 4456, 4457, 4458, 4459, 4460, 4461, 4462, 4463, 4464, 4465, 4466, 4467, 4468, 4469, 4470]
def wsX11_range : List Cond := cw 3989 :: wI qaLn
theorem qBM : ∀ i ∈ qaLn, cw i ∈ wsX11_range := fun i h => List.mem_cons_of_mem _ (List.mem_map_of_mem h)
def qaLP : List Nat := [5, 398, 405, 406, 407, 456, 457, 520, 521, 527, 528, 529, 530, 589, 1105, 1106, 1107, 1108, 2130, 2131, 2132, 2133, 2190, 2191, 2192, 2193, 2198, 2199, 2240, 2323, 2324, 2325, 2326, 2327, 2368, 2369, 2370, 2371, 2372, 2373, 2374, 2375, 2376, 2377, 2378, 2581, 2582, 2583, 2628, 2629, 2630, 2631, 2636, 2637, 2638, 2639, 3013, 4416, 4417, 4418, 4419, 4420, 4421, 4422, 4423, 4424, 4425, 4426, 4427, 4428, 4429, 4430, 4431, 4432, 4433, 4434, 4435, 4436, 4437, 4438, 4439, 4440, 4441, 4442, 4443, 4444, 4445, 4446, 4447, 4448, 4449, 4450, 4451, 4452, 4453, 4454, 4455, 4456, 4457, 4458, 4459, 4460, 4461, 4462, 4463, 4464, 4465, 4466, 4467, 4468, 4469, 4470]
def wsX11_ahead : List Cond := cw 3013 :: wI qaLP
theorem qq2 : ∀ i ∈ qaLP, cw i ∈ wsX11_ahead := fun i h => List.mem_cons_of_mem _ (List.mem_map_of_mem h)
def qaVV : List Nat := [5, 398, 405, 450, 451, 452, 453, 456, 457, 519, 520, 522, 527, 528, 529, 530, 589, 1105, 1106, 1107, 1108, 2130, 2131, 2132, 2133, 2190, 2191, 2192, 2193, 2194, 2195, 2196, 2197, 2198, 2199, 2240, 2241, 2242, 2243, 2244, 2245, 2246, 2247, 2248, 2249, 2250, 2251, 2252, 2253, 2254, 2255, 2256, 2257, 2258, 2259, 2260, 2261, 2262, 2263, 2304, 2305, 2306, 2307, 2308, 2309, 2310, 2311, 2312, 2313, 2314, 2581, 2582, 2583, 2703, 2704, 2705, 2706, 2771, 2772, 2773, 2774, 3073, 4416, 4417, 4418, 4419, 4420, 4421, 4422, 4423, 4424, 4425, 4426, 4427, 4428, 4429, 4430, 4431, 4432, 4433, 4434, 4435, 4436, 4437, 4438, 4439, 4440, 4441, 4442, 4443, 4444, 4445, 4446, 4447, 4448, 4449, 4450, 4451, 4452, 4453, 4454, 4455, 4456, 4457, 4458, 4459, 4460, 4461, 4462, 4463, 4464, 4465, 4466, 4467, 4468, 4469, 4470]
def wsX11_hops : List Cond := cw 3073 :: wI qaVV
theorem qsr : ∀ i ∈ qaVV, cw i ∈ wsX11_hops := fun i h => List.mem_cons_of_mem _ (List.mem_map_of_mem h)
def qTt : List Nat := [5, 405, 407, 450, 451, 452, 453, 456, 457, 461, 462, 463, 519, 520, 521, 522, 527, 528, 529, 530, 2130, 2131, 2132, 2133, 2186, 2187, 2188, 2189, 2190, 2191, 2192, 2193, 2194, 2195, 2196, 2197, 2198, 2199, 2240, 2241, 2242, 2243, 2244, 2245, 2246, 2247, 2248, 2249, 2250, 2251, 2252, 2253, 2254, 2255, 2256, 2257, 2258, 2259, 2260, 2261, 2262, 2263, 2304, 2305, 2306, 2307, 2308, 2309, 2310, 2311, 2312, 2313, 2314, 2375, 2376, 2377, 2378, 2632, 2633, 2634, 2635, 3202, 3203, 3204, 3205, 3206, 4416, 4417, 4418, 4419, 4420, 4421, 4422, 4423, 4424, 4425, 4426, 4427, 4428, 4429, 4430, 4431, 4432, 4433, 4434, 4435, 4436, 4437, 4438, 4439, 4440, 4441, 4442, 4443, 4444, 4445, 4446, 4447, 4448, 4449, 4450, 4451, 4452, 4453, 4454, 4455, 4456, 4457, 4458, 4459, 4460, 4461, 4462, 4463, 4464, 4465, 4466, 4467, 4468, 4469, 4470]
def wsX11_findSeats : List Cond := cw 3202 :: wI qTt
theorem qio : ∀ i ∈ qTt, cw i ∈ wsX11_findSeats := fun i h => List.mem_cons_of_mem _ (List.mem_map_of_mem h)
theorem q4k : okM 3202 qTt = true := qaq (by decide +kernel)
def qaL9 : List Nat := [5, 405, 407, 450, 451, 452, 453, 456, 457, 461, 462, 463, 519, 520, 521, 522, 527, 528, 529, 530, 589, 2130, 2131, 2132, 2133, 2186, 2187, 2188, 2189, 2190, 2191, 2192, 2193, 2194, 2195, 2196, 2197, 2198, 2199, 2240, 2241, 2242, 2243, 2244, 2245, 2246, 2247, 2248, 2249, 2250, 2251, 2252, 2253, 2254, 2255, 2256, 2257, 2258, 2259, 2260, 2261, 2262, 2263, 2304, 2305, 2306, 2307, 2308, 2309, 2310, 2311, 2312, 2313, 2314, 2375, 2376, 2377, 2378, 2632, 2633, 2634, 2635, 3158, 3159, 3200, 3201, 3202, 3203, 3204, 3205, 3206, 4416, 4417, 4418, 4419, 4420, 4421, 4422, 4423, 4424, 4425, 4426, 4427, 4428, 4429, 4430, 4431, 4432, 4433, 4434, 4435, 4436, 4437, 4438, 4439, 4440, 4441, 4442, 4443, 4444, 4445, 4446, 4447, 4448, 4449, 4450, 4451, 4452, 4453, 4454, 4455, 4456, 4457, 4458, 4459, 4460, 4461, 4462, 4463, 4464, 4465, 4466, 4467, 4468, 4469, 4470]
def wsX11_seats : List Cond := cw 3158 :: wI qaL9
theorem qOW : ∀ i ∈ qaL9, cw i ∈ wsX11_seats := fun i h => List.mem_cons_of_mem _ (List.mem_map_of_mem h)
def qaV5 : List Nat := [5, 398, 405, 407, 450, 451, 452, 453, 456, 457, 461, 462, 463, 519, 520, 521, 522, 527, 528, 529, 530, 589, 1105, 1106, 1107, 1108, 2130, 2131, 2132, 2133, 2186, 2187, 2188, 2189, 2190, 2191, 2192, 2193, 2194, 2195, 2196, 2197, 2198, 2199, 2240, 2241, 2242, 2243, 2244, 2245, 2246, 2247, 2248, 2249, 2250, 2251, 2252, 2253, 2254, 2255, 2256, 2257, 2258, 2259, 2260, 2261, 2262, 2263, 2304, 2305, 2306, 2307, 2308, 2309, 2310, 2311, 2312, 2313, 2314, 2375, 2376, 2377, 2378, 2581, 2582, 2583, 2632, 2633, 2634, 2635, 2771, 2772, 2773, 2774, 3159, 3200, 3201, 3202, 3203, 3204, 3205, 3206, 3218, 4416, 4417, 4418, 4419, 4420, 4421, 4422, 4423, 4424, 4425, 4426, 4427, 4428, 4429, 4430, 4431, 4432, 4433, 4434, 4435, 4436, 4437, 4438, 4439, 4440, 4441, 4442, 4443, 4444, 4445, 4446, 4447, 4448, 4449, 4450, 4451, 4452, 4453, 4454, 4455, 4456, 4457, 4458, 4459, 4460, 4461, 4462, 4463, 4464, 4465, 4466, 4467, 4468, 4469, 4470]
def wsX11_seat : List Cond := cw 3218 :: wI qaV5
theorem qJz : ∀ i ∈ qaV5, cw i ∈ wsX11_seat := fun i h => List.mem_cons_of_mem _ (List.mem_map_of_mem h)
def q1n : List Nat := [5, 405, 464, 519, 2194, 2195, 2196, 2197, 2198, 2199, 2240, 3340, 4416, 4417, 4418, 4419, 4420, 4421, 4422, 4423, 4424, 4425, 4426, 4427, 4428, 4429, 4430, 4431, 4432, 4433, 4434, 4435, 4436, 4437, 4438, 4439, 4440, 4441, 4442, 4443, 4444, 4445, 4446, 4447, 4448, 4449, 4450, 4451, 4452, 4453, 4454, 4455, 4456, 4457, 4458, 4459, 4460, 4461, 4462, 4463, 4464, 4465, 4466, 4467, 4468, 4469, 4470]
def wsX11_layRing : List Cond := cw 3340 :: wI q1n
theorem qIz : ∀ i ∈ q1n, cw i ∈ wsX11_layRing := fun i h => List.mem_cons_of_mem _ (List.mem_map_of_mem h)
theorem qafO : okM 3340 q1n = true := qaq (by decide +kernel)
def qaTE : List Nat := [5, 405, 464, 519, 589, 2194, 2195, 2196, 2197, 2198, 2199, 2240, 3336, 3337, 3338, 3339, 3340, 4416, 4417, 4418, 4419, 4420, 4421, 4422, 4423, 4424, 4425, 4426, 4427, 4428, 4429, 4430, 4431, 4432, 4433, 4434, 4435, 4436, 4437, 4438, 4439, 4440, 4441, 4442, 4443, 4444, 4445, 4446, 4447, 4448, 4449, 4450, 4451, 4452, 4453, 4454, 4455, 4456, 4457, 4458, 4459, 4460, 4461, 4462, 4463, 4464, 4465, 4466, 4467, 4468, 4469, 4470]
def wsX11_ring : List Cond := cw 3336 :: wI qaTE
theorem qOs : ∀ i ∈ qaTE, cw i ∈ wsX11_ring := fun i h => List.mem_cons_of_mem _ (List.mem_map_of_mem h)
def qaEg : List Nat := [5, 398, 405, 464, 519, 589, 1105, 1106, 1107, 1108, 2194, 2195, 2196, 2197, 2198, 2199, 2240, 3337, 3338, 3339, 3340, 3392, 4416, 4417, 4418, 4419, 4420, 4421, 4422, 4423, 4424, 4425, 4426, 4427, 4428, 4429, 4430, 4431, 4432, 4433, 4434, 4435, 4436, 4437, 4438, 4439, 4440, 4441, 4442, 4443, 4444, 4445, 4446, 4447, 4448, 4449, 4450, 4451, 4452, 4453, 4454, 4455, 4456, 4457, 4458, 4459, 4460, 4461, 4462, 4463, 4464, 4465, 4466, 4467, 4468, 4469, 4470]
def wsX11_ringed : List Cond := cw 3392 :: wI qaEg
theorem qvp : ∀ i ∈ qaEg, cw i ∈ wsX11_ringed := fun i h => List.mem_cons_of_mem _ (List.mem_map_of_mem h)
def q4t : List Nat := [5, 456, 520, 3413, 3414, 3415, 3456, 4416, 4417, 4418, 4419, 4420, 4421, 4422, 4423, 4424, 4425, 4426, 4427, 4428, 4429, 4430, 4431, 4432, 4433, 4434, 4435, 4436, 4437, 4438, 4439, 4440, 4441, 4442, 4443, 4444, 4445, 4446, 4447, 4448, 4449, 4450, 4451, 4452, 4453, 4454, 4455, 4456, 4457, 4458, 4459, 4460, 4461, 4462, 4463, 4464, 4465, 4466, 4467, 4468, 4469, 4470]
def wsX11_lastsIn : List Cond := cw 3456 :: wI q4t
theorem qxd : ∀ i ∈ q4t, cw i ∈ wsX11_lastsIn := fun i h => List.mem_cons_of_mem _ (List.mem_map_of_mem h)
theorem qaeI : okM 3456 q4t = true := qaq (by decide +kernel)
def qaLK : List Nat := [5, 398, 456, 457, 520, 527, 528, 529, 530, 589, 1105, 1106, 1107, 1108, 2130, 2131, 2132, 2133, 2190, 2191, 2192, 2193, 2581, 2582, 2583, 2628, 2629, 2630, 2631, 2771, 2772, 2773, 2774, 3412, 3413, 3414, 3415, 3456, 4416, 4417, 4418, 4419, 4420, 4421, 4422, 4423, 4424, 4425, 4426, 4427, 4428, 4429, 4430, 4431, 4432, 4433, 4434, 4435, 4436, 4437, 4438, 4439, 4440, 4441, 4442, 4443, 4444, 4445, 4446, 4447, 4448, 4449, 4450, 4451, 4452, 4453, 4454, 4455, 4456, 4457, 4458, 4459, 4460, 4461, 4462, 4463, 4464, 4465, 4466, 4467, 4468, 4469, 4470]
def wsX11_bouts : List Cond := cw 3412 :: wI qaLK
theorem quz : ∀ i ∈ qaLK, cw i ∈ wsX11_bouts := fun i h => List.mem_cons_of_mem _ (List.mem_map_of_mem h)
def qW2 : List Nat := [5, 457, 520, 2253, 2254, 2255, 2256, 2257, 2258, 2259, 3589, 4416, 4417, 4418, 4419, 4420, 4421, 4422, 4423, 4424, 4425, 4426, 4427, 4428, 4429, 4430, 4431, 4432, 4433, 4434, 4435, 4436, 4437, 4438, 4439, 4440, 4441, 4442, 4443, 4444, 4445, 4446, 4447, 4448, 4449, 4450, 4451, 4452, 4453, 4454, 4455, 4456, 4457, 4458, 4459, 4460, 4461, 4462, 4463, 4464, 4465, 4466, 4467, 4468, 4469, 4470]
def wsX11_sitsThen : List Cond := cw 3589 :: wI qW2
theorem qKQ : ∀ i ∈ qW2, cw i ∈ wsX11_sitsThen := fun i h => List.mem_cons_of_mem _ (List.mem_map_of_mem h)
theorem q7X : okM 3589 qW2 = true := qaq (by decide +kernel)
def qaiU : List Nat := [5, 457, 460, 519, 520, 2190, 2191, 2192, 2193, 2253, 2254, 2255, 2256, 2257, 2258, 2259, 3585, 3586, 3587, 3588, 3589, 4416, 4417, 4418, 4419, 4420, 4421, 4422, 4423, 4424, 4425, 4426, 4427, 4428, 4429, 4430, 4431, 4432, 4433, 4434, 4435, 4436, 4437, 4438, 4439, 4440, 4441, 4442, 4443, 4444, 4445, 4446, 4447, 4448, 4449, 4450, 4451, 4452, 4453, 4454, 4455, 4456, 4457, 4458, 4459, 4460, 4461, 4462, 4463, 4464, 4465, 4466, 4467, 4468, 4469, 4470]
def wsX11_isFit : List Cond := cw 3585 :: wI qaiU
theorem qFf : ∀ i ∈ qaiU, cw i ∈ wsX11_isFit := fun i h => List.mem_cons_of_mem _ (List.mem_map_of_mem h)
theorem qaw3 : okM 3585 qaiU = true := qaq (by decide +kernel)
def qaWg : List Nat := [5, 398, 456, 457, 460, 519, 520, 527, 528, 529, 530, 589, 1105, 1106, 1107, 1108, 2130, 2131, 2132, 2133, 2190, 2191, 2192, 2193, 2253, 2254, 2255, 2256, 2257, 2258, 2259, 2581, 2582, 2583, 3541, 3542, 3543, 3584, 3585, 3586, 3587, 3588, 3589, 4416, 4417, 4418, 4419, 4420, 4421, 4422, 4423, 4424, 4425, 4426, 4427, 4428, 4429, 4430, 4431, 4432, 4433, 4434, 4435, 4436, 4437, 4438, 4439, 4440, 4441, 4442, 4443, 4444, 4445, 4446, 4447, 4448, 4449, 4450, 4451, 4452, 4453, 4454, 4455, 4456, 4457, 4458, 4459, 4460, 4461, 4462, 4463, 4464, 4465, 4466, 4467, 4468, 4469, 4470]
def wsX11_fits : List Cond := cw 3541 :: wI qaWg
theorem qwC : ∀ i ∈ qaWg, cw i ∈ wsX11_fits := fun i h => List.mem_cons_of_mem _ (List.mem_map_of_mem h)
def q1h : List Nat := [5, 457, 460, 465, 519, 520, 2190, 2191, 2192, 2193, 2253, 2254, 2255, 2256, 2257, 2258, 2259, 3542, 3543, 3584, 3585, 3586, 3587, 3588, 3589, 3662, 4416, 4417, 4418, 4419, 4420, 4421, 4422, 4423, 4424, 4425, 4426, 4427, 4428, 4429, 4430, 4431, 4432, 4433, 4434, 4435, 4436, 4437, 4438, 4439, 4440, 4441, 4442, 4443, 4444, 4445, 4446, 4447, 4448, 4449, 4450, 4451, 4452, 4453, 4454, 4455, 4456, 4457, 4458, 4459, 4460, 4461, 4462, 4463, 4464, 4465, 4466, 4467, 4468, 4469, 4470]
def wsX11_worstOf : List Cond := cw 3662 :: wI q1h
theorem qw8 : ∀ i ∈ q1h, cw i ∈ wsX11_worstOf := fun i h => List.mem_cons_of_mem _ (List.mem_map_of_mem h)
theorem qaOX : okM 3662 q1h = true := qaq (by decide +kernel)
def qaTo : List Nat := [5, 398, 456, 457, 460, 465, 519, 520, 527, 528, 529, 530, 589, 1105, 1106, 1107, 1108, 2130, 2131, 2132, 2133, 2190, 2191, 2192, 2193, 2253, 2254, 2255, 2256, 2257, 2258, 2259, 2581, 2582, 2583, 3542, 3543, 3584, 3585, 3586, 3587, 3588, 3589, 3658, 3659, 3660, 3661, 3662, 4416, 4417, 4418, 4419, 4420, 4421, 4422, 4423, 4424, 4425, 4426, 4427, 4428, 4429, 4430, 4431, 4432, 4433, 4434, 4435, 4436, 4437, 4438, 4439, 4440, 4441, 4442, 4443, 4444, 4445, 4446, 4447, 4448, 4449, 4450, 4451, 4452, 4453, 4454, 4455, 4456, 4457, 4458, 4459, 4460, 4461, 4462, 4463, 4464, 4465, 4466, 4467, 4468, 4469, 4470]
def wsX11_look : List Cond := cw 3658 :: wI qaTo
theorem qwD : ∀ i ∈ qaTo, cw i ∈ wsX11_look := fun i h => List.mem_cons_of_mem _ (List.mem_map_of_mem h)
def qaLQ : List Nat := [5, 398, 405, 519, 589, 1105, 1106, 1107, 1108, 2194, 2195, 2196, 2197, 2198, 2199, 2240, 2257, 2258, 2259, 2581, 2582, 2583, 3722, 4416, 4417, 4418, 4419, 4420, 4421, 4422, 4423, 4424, 4425, 4426, 4427, 4428, 4429, 4430, 4431, 4432, 4433, 4434, 4435, 4436, 4437, 4438, 4439, 4440, 4441, 4442, 4443, 4444, 4445, 4446, 4447, 4448, 4449, 4450, 4451, 4452, 4453, 4454, 4455, 4456, 4457, 4458, 4459, 4460, 4461, 4462, 4463, 4464, 4465, 4466, 4467, 4468, 4469, 4470]
def wsX11_watch : List Cond := cw 3722 :: wI qaLQ
theorem qv7 : ∀ i ∈ qaLQ, cw i ∈ wsX11_watch := fun i h => List.mem_cons_of_mem _ (List.mem_map_of_mem h)
def qaL4 : List Nat := [3783]
def wsX11_least : List Cond := cw 3783 :: wI qaL4
theorem qaZI : okM 3783 qaL4 = true := qaq (by decide +kernel)
def qa00 : List Nat := [5, 398, 466, 589, 1105, 1106, 1107, 1108, 2581, 2582, 2583, 3779, 3780, 3781, 3782, 3783, 4416, 4417, 4418, 4419, 4420, 4421, 4422, 4423, 4424, 4425, 4426, 4427, 4428, 4429, 4430, 4431, 4432, 4433, 4434, 4435, 4436, 4437, 4438, 4439, 4440, 4441, 4442, 4443, 4444, 4445, 4446, 4447, 4448, 4449, 4450, 4451, 4452, 4453, 4454, 4455, 4456, 4457, 4458, 4459, 4460, 4461, 4462, 4463, 4464, 4465, 4466, 4467, 4468, 4469, 4470]
def wsX11_few : List Cond := cw 3779 :: wI qa00
theorem qDR : ∀ i ∈ qa00, cw i ∈ wsX11_few := fun i h => List.mem_cons_of_mem _ (List.mem_map_of_mem h)
def qaL7 : List Nat := [3840]
def wsX11_hasBy : List Cond := cw 3840 :: wI qaL7
theorem qaWt : okM 3840 qaL7 = true := qaq (by decide +kernel)
def qaWf : List Nat := [5, 398, 589, 1105, 1106, 1107, 1108, 2581, 2582, 2583, 3797, 3798, 3799, 3840, 4416, 4417, 4418, 4419, 4420, 4421, 4422, 4423, 4424, 4425, 4426, 4427, 4428, 4429, 4430, 4431, 4432, 4433, 4434, 4435, 4436, 4437, 4438, 4439, 4440, 4441, 4442, 4443, 4444, 4445, 4446, 4447, 4448, 4449, 4450, 4451, 4452, 4453, 4454, 4455, 4456, 4457, 4458, 4459, 4460, 4461, 4462, 4463, 4464, 4465, 4466, 4467, 4468, 4469, 4470]
def wsX11_road : List Cond := cw 3797 :: wI qaWf
theorem qGh : ∀ i ∈ qaWf, cw i ∈ wsX11_road := fun i h => List.mem_cons_of_mem _ (List.mem_map_of_mem h)
def qWK : List Nat := [5, 457, 520, 2249, 2250, 2251, 2252, 3904, 4416, 4417, 4418, 4419, 4420, 4421, 4422, 4423, 4424, 4425, 4426, 4427, 4428, 4429, 4430, 4431, 4432, 4433, 4434, 4435, 4436, 4437, 4438, 4439, 4440, 4441, 4442, 4443, 4444, 4445, 4446, 4447, 4448, 4449, 4450, 4451, 4452, 4453, 4454, 4455, 4456, 4457, 4458, 4459, 4460, 4461, 4462, 4463, 4464, 4465, 4466, 4467, 4468, 4469, 4470]
def wsX11_cloverBy : List Cond := cw 3904 :: wI qWK
theorem qKl : ∀ i ∈ qWK, cw i ∈ wsX11_cloverBy := fun i h => List.mem_cons_of_mem _ (List.mem_map_of_mem h)
theorem qaGZ : okM 3904 qWK = true := qaq (by decide +kernel)
def qaEs : List Nat := [5, 398, 456, 457, 520, 527, 528, 529, 530, 589, 1105, 1106, 1107, 1108, 2130, 2131, 2132, 2133, 2249, 2250, 2251, 2252, 2581, 2582, 2583, 2771, 2772, 2773, 2774, 3860, 3861, 3862, 3863, 3904, 4416, 4417, 4418, 4419, 4420, 4421, 4422, 4423, 4424, 4425, 4426, 4427, 4428, 4429, 4430, 4431, 4432, 4433, 4434, 4435, 4436, 4437, 4438, 4439, 4440, 4441, 4442, 4443, 4444, 4445, 4446, 4447, 4448, 4449, 4450, 4451, 4452, 4453, 4454, 4455, 4456, 4457, 4458, 4459, 4460, 4461, 4462, 4463, 4464, 4465, 4466, 4467, 4468, 4469, 4470]
def wsX11_clover : List Cond := cw 3860 :: wI qaEs
theorem qo3 : ∀ i ∈ qaEs, cw i ∈ wsX11_clover := fun i h => List.mem_cons_of_mem _ (List.mem_map_of_mem h)
def q7Y : List Nat := [5, 398, 456, 457, 520, 527, 528, 529, 530, 589, 1105, 1106, 1107, 1108, 2130, 2131, 2132, 2133, 2190, 2191, 2192, 2193, 2581, 2582, 2583, 3915, 4416, 4417, 4418, 4419, 4420, 4421, 4422, 4423, 4424, 4425, 4426, 4427, 4428, 4429, 4430, 4431, 4432, 4433, 4434, 4435, 4436, 4437, 4438, 4439, 4440, 4441, 4442, 4443, 4444, 4445, 4446, 4447, 4448, 4449, 4450, 4451, 4452, 4453, 4454, 4455, 4456, 4457, 4458, 4459, 4460, 4461, 4462, 4463, 4464, 4465, 4466, 4467, 4468, 4469, 4470]
def wsX11_strongest : List Cond := cw 3915 :: wI q7Y
theorem qnV : ∀ i ∈ q7Y, cw i ∈ wsX11_strongest := fun i h => List.mem_cons_of_mem _ (List.mem_map_of_mem h)
def qaUn : List Nat := [5, 398, 456, 520, 589, 1105, 1106, 1107, 1108, 2581, 2582, 2583, 2771, 2772, 2773, 2774, 3926, 4416, 4417, 4418, 4419, 4420, 4421, 4422, 4423, 4424, 4425, 4426, 4427, 4428, 4429, 4430, 4431, 4432, 4433, 4434, 4435, 4436, 4437, 4438, 4439, 4440, 4441, 4442, 4443, 4444, 4445, 4446, 4447, 4448, 4449, 4450, 4451, 4452, 4453, 4454, 4455, 4456, 4457, 4458, 4459, 4460, 4461, 4462, 4463, 4464, 4465, 4466, 4467, 4468, 4469, 4470]
def wsX11_ties : List Cond := cw 3926 :: wI qaUn
theorem qAE : ∀ i ∈ qaUn, cw i ∈ wsX11_ties := fun i h => List.mem_cons_of_mem _ (List.mem_map_of_mem h)
def qaAl : List Nat := [5, 398, 405, 407, 519, 521, 589, 1105, 1106, 1107, 1108, 2194, 2195, 2196, 2197, 2198, 2199, 2240, 2375, 2376, 2377, 2378, 2581, 2582, 2583, 2703, 2704, 2705, 2706, 3977, 4416, 4417, 4418, 4419, 4420, 4421, 4422, 4423, 4424, 4425, 4426, 4427, 4428, 4429, 4430, 4431, 4432, 4433, 4434, 4435, 4436, 4437, 4438, 4439, 4440, 4441, 4442, 4443, 4444, 4445, 4446, 4447, 4448, 4449, 4450, 4451, 4452, 4453, 4454, 4455, 4456, 4457, 4458, 4459, 4460, 4461, 4462, 4463, 4464, 4465, 4466, 4467, 4468, 4469, 4470]
def wsX11_refuge : List Cond := cw 3977 :: wI qaAl
theorem qrb : ∀ i ∈ qaAl, cw i ∈ wsX11_refuge := fun i h => List.mem_cons_of_mem _ (List.mem_map_of_mem h)
def qail : List Nat := [4115, 4119, 4160, 4416, 4417, 4418, 4419, 4420, 4421, 4422, 4423, 4424, 4425, 4426, 4427, 4428, 4429, 4430, 4431, 4432, 4433, 4434, 4435, 4436, 4437, 4438, 4439, 4440, 4441, 4442, 4443, 4444, 4445, 4446, 4447, 4448, 4449, 4450, 4451, 4452, 4453, 4454, 4455, 4456, 4457, 4458, 4459, 4460, 4461, 4462, 4463, 4464, 4465, 4466, 4467, 4468, 4469, 4470]
def wsX11_draws : List Cond := cw 4119 :: wI qail
theorem qab2 : ∀ i ∈ qail, cw i ∈ wsX11_draws := fun i h => List.mem_cons_of_mem _ (List.mem_map_of_mem h)
theorem qaWY : okM 4119 qail = true := qaq (by decide +kernel)
def qT0 : List Nat := [5, 405, 406, 407, 450, 451, 452, 453, 456, 457, 519, 520, 521, 522, 527, 528, 529, 530, 2130, 2131, 2132, 2133, 2182, 2183, 2184, 2185, 2186, 2187, 2188, 2189, 2190, 2191, 2192, 2193, 2194, 2195, 2196, 2197, 2198, 2199, 2240, 2241, 2242, 2243, 2244, 2245, 2246, 2247, 2248, 2249, 2250, 2251, 2252, 2253, 2254, 2255, 2256, 2257, 2258, 2259, 2260, 2261, 2262, 2263, 2304, 2305, 2306, 2307, 2308, 2309, 2310, 2311, 2312, 2313, 2314, 2315, 2316, 2317, 2318, 2323, 2324, 2325, 2326, 2327, 2368, 2369, 2370, 2371, 2372, 2373, 2374, 2375, 2376, 2377, 2378, 4110, 4114, 4115, 4116, 4117, 4118, 4119, 4160, 4416, 4417, 4418, 4419, 4420, 4421, 4422, 4423, 4424, 4425, 4426, 4427, 4428, 4429, 4430, 4431, 4432, 4433, 4434, 4435, 4436, 4437, 4438, 4439, 4440, 4441, 4442, 4443, 4444, 4445, 4446, 4447, 4448, 4449, 4450, 4451, 4452, 4453, 4454, 4455, 4456, 4457, 4458, 4459, 4460, 4461, 4462, 4463, 4464, 4465, 4466, 4467, 4468, 4469, 4470]
def wsX11_marchGoes : List Cond := cw 4114 :: wI qT0
theorem qir : ∀ i ∈ qT0, cw i ∈ wsX11_marchGoes := fun i h => List.mem_cons_of_mem _ (List.mem_map_of_mem h)
theorem q3t : okM 4114 qT0 = true := qaq (by decide +kernel)
def qMx : List Nat := [5, 457, 520, 2190, 2191, 2192, 2193, 4164, 4416, 4417, 4418, 4419, 4420, 4421, 4422, 4423, 4424, 4425, 4426, 4427, 4428, 4429, 4430, 4431, 4432, 4433, 4434, 4435, 4436, 4437, 4438, 4439, 4440, 4441, 4442, 4443, 4444, 4445, 4446, 4447, 4448, 4449, 4450, 4451, 4452, 4453, 4454, 4455, 4456, 4457, 4458, 4459, 4460, 4461, 4462, 4463, 4464, 4465, 4466, 4467, 4468, 4469, 4470]
def wsX11_strengthNow : List Cond := cw 4164 :: wI qMx
theorem qys : ∀ i ∈ qMx, cw i ∈ wsX11_strengthNow := fun i h => List.mem_cons_of_mem _ (List.mem_map_of_mem h)
theorem qakH : okM 4164 qMx = true := qaq (by decide +kernel)
def qaLq : List Nat := [5, 398, 405, 406, 407, 450, 451, 452, 453, 456, 457, 519, 520, 521, 522, 527, 528, 529, 530, 589, 1105, 1106, 1107, 1108, 2130, 2131, 2132, 2133, 2182, 2183, 2184, 2185, 2186, 2187, 2188, 2189, 2190, 2191, 2192, 2193, 2194, 2195, 2196, 2197, 2198, 2199, 2240, 2241, 2242, 2243, 2244, 2245, 2246, 2247, 2248, 2249, 2250, 2251, 2252, 2253, 2254, 2255, 2256, 2257, 2258, 2259, 2260, 2261, 2262, 2263, 2304, 2305, 2306, 2307, 2308, 2309, 2310, 2311, 2312, 2313, 2314, 2315, 2316, 2317, 2318, 2323, 2324, 2325, 2326, 2327, 2368, 2369, 2370, 2371, 2372, 2373, 2374, 2375, 2376, 2377, 2378, 2581, 2582, 2583, 2628, 2629, 2630, 2631, 4109, 4110, 4111, 4112, 4113, 4114, 4115, 4116, 4117, 4118, 4119, 4160, 4161, 4162, 4163, 4164, 4416, 4417, 4418, 4419, 4420, 4421, 4422, 4423, 4424, 4425, 4426, 4427, 4428, 4429, 4430, 4431, 4432, 4433, 4434, 4435, 4436, 4437, 4438, 4439, 4440, 4441, 4442, 4443, 4444, 4445, 4446, 4447, 4448, 4449, 4450, 4451, 4452, 4453, 4454, 4455, 4456, 4457, 4458, 4459, 4460, 4461, 4462, 4463, 4464, 4465, 4466, 4467, 4468, 4469, 4470]
def wsX11_march : List Cond := cw 4109 :: wI qaLq
theorem qsm : ∀ i ∈ qaLq, cw i ∈ wsX11_march := fun i h => List.mem_cons_of_mem _ (List.mem_map_of_mem h)
def qaSY : List Nat := [5, 398, 405, 406, 407, 450, 451, 452, 453, 456, 457, 519, 520, 521, 522, 527, 528, 529, 530, 589, 1105, 1106, 1107, 1108, 2130, 2131, 2132, 2133, 2182, 2183, 2184, 2185, 2186, 2187, 2188, 2189, 2190, 2191, 2192, 2193, 2194, 2195, 2196, 2197, 2198, 2199, 2240, 2241, 2242, 2243, 2244, 2245, 2246, 2247, 2248, 2249, 2250, 2251, 2252, 2253, 2254, 2255, 2256, 2257, 2258, 2259, 2260, 2261, 2262, 2263, 2304, 2305, 2306, 2307, 2308, 2309, 2310, 2311, 2312, 2313, 2314, 2315, 2316, 2317, 2318, 2323, 2324, 2325, 2326, 2327, 2368, 2369, 2370, 2371, 2372, 2373, 2374, 2375, 2376, 2377, 2378, 2581, 2582, 2583, 4110, 4111, 4112, 4113, 4114, 4115, 4116, 4117, 4118, 4119, 4160, 4176, 4416, 4417, 4418, 4419, 4420, 4421, 4422, 4423, 4424, 4425, 4426, 4427, 4428, 4429, 4430, 4431, 4432, 4433, 4434, 4435, 4436, 4437, 4438, 4439, 4440, 4441, 4442, 4443, 4444, 4445, 4446, 4447, 4448, 4449, 4450, 4451, 4452, 4453, 4454, 4455, 4456, 4457, 4458, 4459, 4460, 4461, 4462, 4463, 4464, 4465, 4466, 4467, 4468, 4469, 4470]
def wsX11_span : List Cond := cw 4176 :: wI qaSY
theorem qwx : ∀ i ∈ qaSY, cw i ∈ wsX11_span := fun i h => List.mem_cons_of_mem _ (List.mem_map_of_mem h)
def qXp : List Nat := [467, 4236, 4416, 4417, 4418, 4419, 4420, 4421, 4422, 4423, 4424, 4425, 4426, 4427, 4428, 4429, 4430, 4431, 4432, 4433, 4434, 4435, 4436, 4437, 4438, 4439, 4440, 4441, 4442, 4443, 4444, 4445, 4446, 4447, 4448, 4449, 4450, 4451, 4452, 4453, 4454, 4455, 4456, 4457, 4458, 4459, 4460, 4461, 4462, 4463, 4464, 4465, 4466, 4467, 4468, 4469, 4470]
def wsX11_keepsRow : List Cond := cw 4236 :: wI qXp
theorem q8q : ∀ i ∈ qXp, cw i ∈ wsX11_keepsRow := fun i h => List.mem_cons_of_mem _ (List.mem_map_of_mem h)
theorem qaKz : okM 4236 qXp = true := qaq (by decide +kernel)
def qXz : List Nat := [5, 456, 458, 467, 524, 4232, 4233, 4234, 4235, 4236, 4416, 4417, 4418, 4419, 4420, 4421, 4422, 4423, 4424, 4425, 4426, 4427, 4428, 4429, 4430, 4431, 4432, 4433, 4434, 4435, 4436, 4437, 4438, 4439, 4440, 4441, 4442, 4443, 4444, 4445, 4446, 4447, 4448, 4449, 4450, 4451, 4452, 4453, 4454, 4455, 4456, 4457, 4458, 4459, 4460, 4461, 4462, 4463, 4464, 4465, 4466, 4467, 4468, 4469, 4470]
def wsX11_keepsAll : List Cond := cw 4232 :: wI qXz
theorem qxL : ∀ i ∈ qXz, cw i ∈ wsX11_keepsAll := fun i h => List.mem_cons_of_mem _ (List.mem_map_of_mem h)
theorem q74 : okM 4232 qXz = true := qaq (by decide +kernel)
def qaLF : List Nat := [5, 456, 458, 467, 524, 525, 589, 4228, 4229, 4230, 4231, 4232, 4233, 4234, 4235, 4236, 4416, 4417, 4418, 4419, 4420, 4421, 4422, 4423, 4424, 4425, 4426, 4427, 4428, 4429, 4430, 4431, 4432, 4433, 4434, 4435, 4436, 4437, 4438, 4439, 4440, 4441, 4442, 4443, 4444, 4445, 4446, 4447, 4448, 4449, 4450, 4451, 4452, 4453, 4454, 4455, 4456, 4457, 4458, 4459, 4460, 4461, 4462, 4463, 4464, 4465, 4466, 4467, 4468, 4469, 4470]
def wsX11_image : List Cond := cw 4228 :: wI qaLF
theorem qQM : ∀ i ∈ qaLF, cw i ∈ wsX11_image := fun i h => List.mem_cons_of_mem _ (List.mem_map_of_mem h)
def qaoi : List Nat := [5, 456, 458, 467, 524, 525, 526, 589, 4229, 4230, 4231, 4232, 4233, 4234, 4235, 4236, 4244, 4416, 4417, 4418, 4419, 4420, 4421, 4422, 4423, 4424, 4425, 4426, 4427, 4428, 4429, 4430, 4431, 4432, 4433, 4434, 4435, 4436, 4437, 4438, 4439, 4440, 4441, 4442, 4443, 4444, 4445, 4446, 4447, 4448, 4449, 4450, 4451, 4452, 4453, 4454, 4455, 4456, 4457, 4458, 4459, 4460, 4461, 4462, 4463, 4464, 4465, 4466, 4467, 4468, 4469, 4470]
def wsX11_restore : List Cond := cw 4244 :: wI qaoi
theorem qCX : ∀ i ∈ qaoi, cw i ∈ wsX11_restore := fun i h => List.mem_cons_of_mem _ (List.mem_map_of_mem h)
def qaDB : List Nat := [5, 398, 589, 2581, 2582, 2583, 4292, 4416, 4417, 4418, 4419, 4420, 4421, 4422, 4423, 4424, 4425, 4426, 4427, 4428, 4429, 4430, 4431, 4432, 4433, 4434, 4435, 4436, 4437, 4438, 4439, 4440, 4441, 4442, 4443, 4444, 4445, 4446, 4447, 4448, 4449, 4450, 4451, 4452, 4453, 4454, 4455, 4456, 4457, 4458, 4459, 4460, 4461, 4462, 4463, 4464, 4465, 4466, 4467, 4468, 4469, 4470]
def wsX11_status : List Cond := cw 4292 :: wI qaDB
theorem qLm : ∀ i ∈ qaDB, cw i ∈ wsX11_status := fun i h => List.mem_cons_of_mem _ (List.mem_map_of_mem h)
def qaMc : List Nat := [524, 525, 589, 590, 4300, 4416, 4417, 4418, 4419, 4420, 4421, 4422, 4423, 4424, 4425, 4426, 4427, 4428, 4429, 4430, 4431, 4432, 4433, 4434, 4435, 4436, 4437, 4438, 4439, 4440, 4441, 4442, 4443, 4444, 4445, 4446, 4447, 4448, 4449, 4450, 4451, 4452, 4453, 4454, 4455, 4456, 4457, 4458, 4459, 4460, 4461, 4462, 4463, 4464, 4465, 4466, 4467, 4468, 4469, 4470]
def wsX11_count : List Cond := cw 4300 :: wI qaMc
theorem qRc : ∀ i ∈ qaMc, cw i ∈ wsX11_count := fun i h => List.mem_cons_of_mem _ (List.mem_map_of_mem h)
def qa5L : List Nat := [2, 15, 16, 19, 20, 21, 64, 65, 69, 70, 78, 79, 84, 142, 143, 148, 149, 150, 151, 192, 193, 194, 200, 201, 205, 206, 207, 208, 209, 210, 211, 212, 257, 259, 260, 261, 262, 276, 279, 320, 321, 322, 323, 324, 325, 326, 327, 328, 329, 330, 331, 535, 580, 594, 595, 596, 597, 598, 599, 640, 641, 642, 643, 644, 645, 646, 647, 648, 649, 650, 651, 652, 653, 654, 655, 656, 657, 658, 659, 660, 661, 662, 663, 704, 705, 706, 707, 708, 709, 710, 711, 712, 713, 714, 715, 716, 717, 718, 719, 720, 721, 722, 723, 724, 725, 726, 727, 768, 769, 770, 771, 772, 773, 774, 775, 776, 777, 778, 779, 780, 781, 782, 783, 784, 785, 786, 787, 788, 789, 790, 791, 832, 833, 834, 835, 836, 837, 838, 839, 840, 841, 842, 843, 844, 845, 846, 847, 848, 849, 850, 851, 852, 853, 854, 855, 896, 897, 898, 899, 900, 901, 902, 903, 904, 905, 906, 907, 908, 909, 910, 911, 912, 913, 914, 915, 916, 917, 918, 919, 960, 961, 962, 963, 964, 965, 966, 967, 968, 969, 970, 971, 972, 973, 974, 975, 976, 977, 978, 979, 980, 981, 982, 983, 1024, 1025, 1026, 1027, 1028, 1029, 1030, 1031, 1032, 1033, 1034, 1035, 1036, 1037, 1038, 1039, 1040, 1041, 1042, 1043, 1044, 1045, 1046, 1047, 1088, 1089, 1090, 1091, 1092, 1093, 1094, 1095, 1096, 1097, 1098, 4352, 4353, 4354, 4355, 4356, 4357, 4358, 4359, 4360, 4361, 4362, 4363, 4364, 4365, 4366, 4367, 4368, 4369, 4370, 4480, 4481, 4482, 4483, 4484, 4485, 4486, 4544, 4545, 4546, 4547, 4548, 4549, 4550, 4551, 4552, 4553, 4554, 4555, 4608, 4609, 4610, 4611, 4612, 4672, 4673, 4800, 4801, 4802, 4803, 4864, 4865]
def wsL_down : List Cond := cw 594 :: (wI qa5L ++ (vx_atS RX10 409 "java/lang/IllegalArgumentException" ["java/lang/RuntimeException", "java/lang/Exception"]).filter goodWord)
theorem qave : ∀ i ∈ qa5L, cw i ∈ wsL_down := fun i h => List.mem_cons_of_mem _ (List.mem_append_left _ (List.mem_map_of_mem h))
def qbeh : List Nat := [2, 15, 16, 64, 65, 66, 78, 79, 142, 143, 200, 201, 208, 209, 210, 211, 212, 323, 535, 580, 595, 640, 645, 646, 647, 648, 649, 650, 651, 652, 653, 654, 655, 656, 657, 658, 659, 660, 661, 662, 663, 704, 705, 706, 707, 708, 709, 710, 711, 712, 713, 714, 715, 724, 725, 726, 768, 769, 770, 771, 772, 773, 774, 780, 781, 782, 783, 784, 785, 786, 787, 788, 789, 790, 791, 832, 833, 834, 835, 836, 837, 838, 839, 840, 841, 842, 843, 844, 845, 846, 847, 848, 849, 850, 851, 852, 853, 854, 855, 896, 897, 898, 899, 900, 901, 902, 903, 904, 905, 906, 907, 908, 909, 910, 911, 912, 913, 914, 915, 916, 962, 963, 964, 965, 966, 967, 968, 970, 971, 972, 973, 974, 975, 976, 977, 979, 980, 981, 982, 983, 1024, 1025, 1026, 1027, 1028, 1029, 1095, 1344, 1345, 1346, 1347, 1348, 1349, 1350, 1351, 1352, 1353, 1354, 1355, 1356, 1357, 1358, 1359, 1360, 1361, 1362, 1363, 1364, 1365, 1366, 1367, 1408, 1409, 1410, 1411, 1412, 1413, 1414, 1415, 1416, 1417, 1418, 1419, 1420, 1421, 1422, 1423, 1424, 1425, 1426, 1427, 1428, 1429, 1430, 1431, 1472, 1473, 1474, 1475, 1476, 4352, 4353, 4354, 4355, 4356, 4357, 4358, 4359, 4360, 4361, 4362, 4363, 4364, 4365, 4366, 4367, 4368, 4369, 4370, 4480, 4481, 4482, 4483, 4484, 4485, 4486, 4608, 4609, 4610, 4611, 4612, 4800, 4801, 4802, 4803]
def wsL_law : List Cond := cw 1344 :: (wI qbeh ++ (vx_atS RX10 409 "java/lang/IllegalArgumentException" ["java/lang/RuntimeException", "java/lang/Exception"]).filter goodWord)
theorem qaM5 : ∀ i ∈ qbeh, cw i ∈ wsL_law := fun i h => List.mem_cons_of_mem _ (List.mem_append_left _ (List.mem_map_of_mem h))
def qa7C : List Nat := [2, 15, 16, 19, 20, 64, 74, 75, 78, 79, 83, 84, 142, 143, 148, 149, 200, 201, 202, 203, 208, 266, 267, 268, 269, 270, 271, 276, 322, 323, 324, 326, 329, 330, 331, 335, 535, 580, 595, 640, 641, 643, 644, 645, 646, 647, 648, 649, 650, 651, 652, 653, 654, 655, 656, 657, 658, 659, 660, 661, 662, 663, 704, 705, 706, 707, 708, 709, 710, 711, 712, 713, 714, 715, 724, 725, 726, 768, 769, 770, 771, 772, 773, 774, 780, 781, 782, 783, 784, 785, 786, 787, 788, 789, 790, 791, 832, 833, 834, 835, 836, 837, 838, 839, 840, 841, 842, 843, 844, 845, 846, 847, 848, 849, 850, 851, 852, 853, 854, 855, 896, 897, 898, 899, 900, 901, 902, 903, 904, 905, 906, 907, 908, 909, 910, 911, 912, 913, 914, 915, 916, 962, 963, 964, 965, 966, 967, 968, 970, 971, 972, 973, 974, 975, 976, 977, 979, 980, 981, 982, 983, 1024, 1025, 1026, 1027, 1028, 1029, 1047, 1092, 1093, 1094, 1095, 1552, 1553, 1554, 1555, 1556, 1557, 1558, 1559, 1600, 1601, 1602, 1603, 1604, 1605, 1606, 1607, 1608, 1609, 1610, 1611, 1612, 1613, 1614, 1615, 1616, 1617, 1618, 1619, 1620, 1621, 1622, 1623, 1664, 1665, 1666, 1667, 1668, 1669, 1670, 1671, 1672, 1673, 1674, 1675, 1676, 1677, 1678, 1679, 1680, 1681, 1682, 1683, 1684, 1685, 1686, 1687, 1728, 1729, 1730, 1731, 1732, 1733, 1734, 1735, 1736, 1737, 1738, 1739, 1740, 1741, 1742, 1743, 1744, 1745, 1746, 1747, 1748, 1749, 1750, 1751, 1792, 1793, 1794, 1795, 1796, 1797, 1798, 1799, 1800, 1801, 1802, 1803, 1804, 1805, 1806, 1807, 1808, 1809, 1810, 1811, 1812, 1813, 1814, 1815, 1856, 1857, 1858, 1859, 1860, 1861, 1862, 1863, 1864, 1865, 1866, 1867, 1868, 1869, 1870, 1871, 1872, 1873, 1874, 1875, 1876, 1877, 1878, 1879, 1920, 1921, 1922, 1923, 1924, 1925, 1926, 1927, 1928, 1929, 1930, 1931, 1932, 1933, 1934, 1935, 1936, 1937, 1938, 1939, 1940, 1941, 1942, 1943, 1984, 1985, 1986, 1987, 1988, 1989, 1990, 1991, 1992, 1993, 1994, 1995, 1996, 1997, 1998, 1999, 2000, 2001, 2002, 2003, 2004, 2005, 2006, 2007, 2048, 2049, 2050, 2051, 2052, 2053, 2054, 2055, 2056, 2057, 2058, 2059, 2060, 2061, 2062, 2063, 2064, 2065, 2066, 2067, 2068, 2069, 4352, 4353, 4354, 4355, 4356, 4357, 4358, 4359, 4360, 4361, 4362, 4363, 4364, 4365, 4366, 4367, 4368, 4369, 4370, 4480, 4481, 4482, 4483, 4484, 4485, 4486, 4544, 4545, 4546, 4547, 4548, 4549, 4550, 4551, 4552, 4553, 4554, 4555, 4608, 4609, 4610, 4611, 4612, 4736, 4737, 4738, 4739, 4740, 4741, 4742, 4743, 4744, 4745, 4746, 4747, 4800, 4801, 4802, 4803, 4864, 4865]
def wsL_work : List Cond := cw 1552 :: (wI qa7C ++ (vx_atS RX10 409 "java/lang/IllegalArgumentException" ["java/lang/RuntimeException", "java/lang/Exception"]).filter goodWord)
theorem qavb : ∀ i ∈ qa7C, cw i ∈ wsL_work := fun i h => List.mem_cons_of_mem _ (List.mem_append_left _ (List.mem_map_of_mem h))
def qa8Y : List Nat := [2, 15, 16, 20, 69, 70, 71, 142, 143, 257, 258, 259, 260, 261, 262, 535, 580, 595, 640, 645, 646, 647, 648, 649, 650, 651, 652, 653, 654, 655, 656, 657, 658, 659, 660, 661, 662, 663, 704, 705, 706, 707, 708, 709, 710, 711, 712, 713, 714, 715, 724, 725, 726, 768, 769, 770, 771, 772, 773, 774, 835, 962, 963, 964, 965, 966, 967, 968, 970, 971, 972, 973, 974, 975, 976, 977, 979, 980, 981, 982, 983, 1024, 1025, 1026, 1027, 1028, 1029, 1095, 1557, 2385, 2386, 2387, 2388, 2389, 2390, 2391, 2432, 2433, 2434, 2435, 2436, 2437, 2438, 2439, 2440, 2441, 2442, 2443, 2444, 2445, 2446, 2447, 4352, 4353, 4354, 4355, 4356, 4357, 4358, 4359, 4360, 4361, 4362, 4363, 4364, 4365, 4366, 4367, 4368, 4369, 4370, 4480, 4481, 4482, 4483, 4484, 4485, 4486, 4544, 4545, 4546, 4547, 4548, 4549, 4550, 4551, 4552, 4553, 4554, 4555, 4672, 4673]
def wsL_book : List Cond := cw 2385 :: (wI qa8Y ++ (vx_atS RX10 409 "java/lang/IllegalArgumentException" ["java/lang/RuntimeException", "java/lang/Exception"]).filter goodWord)
theorem qau1 : ∀ i ∈ qa8Y, cw i ∈ wsL_book := fun i h => List.mem_cons_of_mem _ (List.mem_append_left _ (List.mem_map_of_mem h))
def qbaF : List Nat := [2, 19, 20, 70, 78, 79, 276, 322, 324, 595, 643, 644, 653, 654, 655, 656, 657, 658, 659, 660, 661, 662, 663, 704, 705, 706, 1047, 1557, 1741, 1742, 1743, 1744, 1745, 1746, 1747, 1748, 1812, 1813, 1814, 1815, 1856, 1857, 1858, 1859, 1860, 1861, 1862, 1863, 1873, 1874, 1875, 1984, 1985, 1986, 2052, 2053, 2059, 2060, 2061, 2062, 2063, 2064, 2065, 2390, 2515, 2516, 2517, 2518, 2519, 2560, 2561, 2562, 2563, 2564, 2565, 2566, 2567, 2568, 2569, 2570, 2571, 2572, 2573, 2574, 2575, 2576, 4352, 4353, 4354, 4355, 4356, 4357, 4358, 4359, 4360, 4361, 4362, 4363, 4364, 4365, 4366, 4367, 4368, 4369, 4370, 4544, 4545, 4546, 4547, 4548, 4549, 4550, 4551, 4552, 4553, 4554, 4555, 4672, 4673, 4800, 4801, 4802, 4803]
def wsL_told : List Cond := cw 2515 :: (wI qbaF ++ (vx_atS RX10 409 "java/lang/IllegalArgumentException" ["java/lang/RuntimeException", "java/lang/Exception"]).filter goodWord)
theorem qavf : ∀ i ∈ qbaF, cw i ∈ wsL_told := fun i h => List.mem_cons_of_mem _ (List.mem_append_left _ (List.mem_map_of_mem h))
def qa4o : List Nat := [2, 19, 20, 78, 79, 276, 322, 324, 595, 653, 654, 655, 656, 657, 658, 659, 660, 661, 662, 663, 704, 705, 706, 1047, 1557, 1741, 1742, 1743, 1744, 1745, 1746, 1747, 1748, 1798, 1799, 1800, 2052, 2053, 2063, 2064, 2065, 2642, 2643, 2644, 2645, 2646, 2647, 2688, 2689, 2690, 2691, 2692, 2693, 2694, 2695, 2696, 2697, 2698, 4352, 4353, 4354, 4355, 4356, 4357, 4358, 4359, 4360, 4361, 4362, 4363, 4364, 4365, 4366, 4367, 4368, 4369, 4370, 4544, 4545, 4546, 4547, 4548, 4549, 4550, 4551, 4552, 4553, 4554, 4555, 4800, 4801, 4802, 4803]
def wsL_form : List Cond := cw 2642 :: (wI qa4o ++ (qqw RX10 268 "java/util/NoSuchElementException" 13 qxz ["java/lang/RuntimeException", "java/lang/Exception"]).filter goodWord ++ (vx_atS RX10 409 "java/lang/IllegalArgumentException" ["java/lang/RuntimeException", "java/lang/Exception"]).filter goodWord)
theorem qacD : ∀ i ∈ qa4o, cw i ∈ wsL_form := fun i h => List.mem_cons_of_mem _ (List.mem_append_left _ (List.mem_append_left _ (List.mem_map_of_mem h)))
def qbaf : List Nat := [2, 20, 64, 78, 79, 200, 201, 202, 203, 208, 276, 322, 323, 324, 595, 644, 650, 651, 652, 653, 654, 655, 656, 657, 658, 659, 660, 661, 662, 663, 704, 705, 706, 1741, 1742, 1743, 1744, 1745, 1746, 1747, 1748, 1794, 1795, 1796, 1797, 1798, 1799, 1800, 1801, 1802, 1803, 1804, 1805, 1806, 1807, 1808, 1809, 1810, 1811, 1812, 1813, 1814, 1815, 1856, 1857, 1858, 1859, 1860, 1861, 1862, 1863, 1864, 1865, 1866, 1867, 1868, 1869, 1870, 1871, 1872, 1873, 1874, 1875, 1876, 1877, 1878, 1879, 1920, 1921, 1922, 1923, 1924, 1925, 1926, 1927, 1928, 1929, 1930, 1931, 1932, 1933, 1934, 2643, 2694, 2695, 2696, 2709, 2710, 2711, 2752, 2753, 2754, 2755, 2756, 2757, 2758, 2759, 2760, 2761, 2762, 2763, 2764, 2765, 2766, 4352, 4353, 4354, 4355, 4356, 4357, 4358, 4359, 4360, 4361, 4362, 4363, 4364, 4365, 4366, 4367, 4368, 4369, 4370, 4544, 4545, 4546, 4547, 4548, 4549, 4550, 4551, 4552, 4553, 4554, 4555, 4608, 4609, 4610, 4611, 4612, 4800, 4801, 4802, 4803]
def wsL_hare : List Cond := cw 2709 :: (wI qbaf ++ (qqw RX10 268 "java/util/NoSuchElementException" 13 qxz ["java/lang/RuntimeException", "java/lang/Exception"]).filter goodWord ++ (vx_atS RX10 409 "java/lang/IllegalArgumentException" ["java/lang/RuntimeException", "java/lang/Exception"]).filter goodWord)
theorem qacF : ∀ i ∈ qbaf, cw i ∈ wsL_hare := fun i h => List.mem_cons_of_mem _ (List.mem_append_left _ (List.mem_append_left _ (List.mem_map_of_mem h)))
def qbc9 : List Nat := [2, 20, 595, 653, 654, 655, 656, 657, 658, 659, 660, 661, 662, 663, 704, 705, 706, 2560, 2643, 2694, 2695, 2696, 2817, 2818, 2819, 2820, 2821, 2822, 2823, 4352, 4353, 4354, 4355, 4356, 4357, 4358, 4359, 4360, 4361, 4362, 4363, 4364, 4365, 4366, 4367, 4368, 4369, 4370, 4544, 4545, 4546, 4547, 4548, 4549, 4550, 4551, 4552, 4553, 4554, 4555]
def wsL_fox : List Cond := cw 2817 :: (wI qbc9 ++ (qqw RX10 268 "java/util/NoSuchElementException" 13 qxz ["java/lang/RuntimeException", "java/lang/Exception"]).filter goodWord ++ (vx_atS RX10 409 "java/lang/IllegalArgumentException" ["java/lang/RuntimeException", "java/lang/Exception"]).filter goodWord)
theorem qavy : ∀ i ∈ qbc9, cw i ∈ wsL_fox := fun i h => List.mem_cons_of_mem _ (List.mem_append_left _ (List.mem_append_left _ (List.mem_map_of_mem h)))
def qa6m : List Nat := [2, 20, 78, 79, 276, 644, 657, 658, 659, 1861, 1862, 1863, 2643, 2694, 2695, 2696, 2755, 2756, 2757, 2758, 2830, 2831, 2832, 2833, 2834, 2835, 4352, 4353, 4354, 4355, 4356, 4357, 4358, 4359, 4360, 4361, 4362, 4363, 4364, 4365, 4366, 4367, 4368, 4369, 4370, 4544, 4545, 4546, 4547, 4548, 4549, 4550, 4551, 4552, 4553, 4554, 4555, 4800, 4801, 4802, 4803]
def wsL_debt : List Cond := cw 2830 :: (wI qa6m ++ (qqw RX10 268 "java/util/NoSuchElementException" 13 qxz ["java/lang/RuntimeException", "java/lang/Exception"]).filter goodWord)
theorem qau4 : ∀ i ∈ qa6m, cw i ∈ wsL_debt := fun i h => List.mem_cons_of_mem _ (List.mem_append_left _ (List.mem_map_of_mem h))
def qbcF : List Nat := [2, 19, 20, 148, 149, 651, 657, 658, 659, 1092, 1093, 1094, 1557, 1750, 1751, 1792, 2643, 2690, 2691, 2692, 2693, 2694, 2695, 2696, 2882, 2883, 2884, 2885, 2886, 2887, 4352, 4353, 4354, 4355, 4356, 4357, 4358, 4359, 4360, 4361, 4362, 4363, 4364, 4365, 4366, 4367, 4368, 4369, 4370, 4544, 4545, 4546, 4547, 4548, 4549, 4550, 4551, 4552, 4553, 4554, 4555]
def wsL_far : List Cond := cw 2882 :: (wI qbcF ++ (qqw RX10 268 "java/util/NoSuchElementException" 13 qxz ["java/lang/RuntimeException", "java/lang/Exception"]).filter goodWord)
theorem qaPk : ∀ i ∈ qbcF, cw i ∈ wsL_far := fun i h => List.mem_cons_of_mem _ (List.mem_append_left _ (List.mem_map_of_mem h))
def qa0d : List Nat := [2, 64, 65, 200, 201, 202, 203, 208, 595, 650, 651, 652, 653, 654, 655, 656, 657, 658, 659, 660, 661, 662, 663, 704, 705, 706, 1869, 1870, 1871, 1921, 1922, 1923, 1925, 1926, 1927, 1928, 1929, 1930, 1931, 1932, 1933, 1934, 2894, 2895, 2896, 2897, 2898, 2899, 2900, 2901, 4352, 4353, 4354, 4355, 4356, 4357, 4358, 4359, 4360, 4361, 4362, 4363, 4364, 4365, 4366, 4367, 4368, 4369, 4370, 4608, 4609, 4610, 4611, 4612]
def wsL_would : List Cond := cw 2894 :: (wI qa0d ++ (vx_atS RX10 409 "java/lang/IllegalArgumentException" ["java/lang/RuntimeException", "java/lang/Exception"]).filter goodWord)
theorem qaeu : ∀ i ∈ qa0d, cw i ∈ wsL_would := fun i h => List.mem_cons_of_mem _ (List.mem_append_left _ (List.mem_map_of_mem h))
def qbdF : List Nat := [2, 19, 20, 64, 78, 79, 148, 149, 200, 201, 202, 203, 208, 276, 322, 323, 324, 644, 650, 651, 652, 657, 658, 659, 1092, 1093, 1094, 1557, 1738, 1739, 1740, 1741, 1742, 1743, 1744, 1745, 1746, 1747, 1748, 1749, 1750, 1751, 1792, 1793, 1794, 1795, 1796, 1797, 1798, 1799, 1800, 1801, 1802, 1803, 1804, 1805, 1806, 1807, 1808, 1809, 1810, 1811, 1812, 1813, 1814, 1815, 1856, 1857, 1858, 1859, 1860, 1861, 1862, 1863, 1864, 1865, 1866, 1867, 1868, 1869, 1870, 1871, 1872, 1873, 1874, 1875, 1876, 1877, 1878, 1879, 1920, 1921, 1922, 1923, 1924, 1925, 1926, 1927, 1928, 1929, 1930, 1931, 1932, 1933, 1934, 2643, 2690, 2691, 2692, 2693, 2694, 2695, 2696, 2755, 2756, 2757, 2758, 2948, 2949, 2950, 2951, 2952, 2953, 4352, 4353, 4354, 4355, 4356, 4357, 4358, 4359, 4360, 4361, 4362, 4363, 4364, 4365, 4366, 4367, 4368, 4369, 4370, 4544, 4545, 4546, 4547, 4548, 4549, 4550, 4551, 4552, 4553, 4554, 4555, 4608, 4609, 4610, 4611, 4612, 4800, 4801, 4802, 4803]
def wsL_can : List Cond := cw 2948 :: (wI qbdF ++ (qqw RX10 268 "java/util/NoSuchElementException" 13 qxz ["java/lang/RuntimeException", "java/lang/Exception"]).filter goodWord)
theorem qaPo : ∀ i ∈ qbdF, cw i ∈ wsL_can := fun i h => List.mem_cons_of_mem _ (List.mem_append_left _ (List.mem_map_of_mem h))
def qa0j : List Nat := [2, 19, 78, 79, 80, 276, 322, 323, 324, 326, 328, 329, 330, 331, 595, 653, 654, 655, 656, 657, 658, 659, 660, 661, 662, 663, 704, 705, 706, 1047, 1741, 1742, 1743, 1744, 1745, 1746, 1747, 1748, 1812, 1813, 1814, 1815, 1856, 1857, 1858, 1859, 1860, 1861, 1862, 1863, 1873, 1874, 1875, 2049, 2050, 2051, 2052, 2053, 2054, 2055, 2056, 2057, 2058, 2059, 2060, 2061, 2062, 2063, 2064, 2065, 2066, 2067, 2068, 2069, 2562, 2564, 2565, 2566, 2567, 2572, 2573, 2574, 2575, 2960, 2961, 2962, 2963, 2964, 2965, 2966, 2967, 3008, 3009, 4352, 4353, 4354, 4355, 4356, 4357, 4358, 4359, 4360, 4361, 4362, 4363, 4364, 4365, 4366, 4367, 4368, 4369, 4370, 4544, 4545, 4546, 4547, 4548, 4549, 4550, 4551, 4552, 4553, 4554, 4555, 4800, 4801, 4802, 4803]
def wsL_ahead : List Cond := cw 2960 :: (wI qa0j ++ (vx_atS RX10 409 "java/lang/IllegalArgumentException" ["java/lang/RuntimeException", "java/lang/Exception"]).filter goodWord)
theorem qafg : ∀ i ∈ qa0j, cw i ∈ wsL_ahead := fun i h => List.mem_cons_of_mem _ (List.mem_append_left _ (List.mem_map_of_mem h))
def qa38 : List Nat := [2, 19, 20, 64, 78, 79, 148, 149, 200, 201, 202, 203, 208, 276, 322, 323, 324, 644, 650, 651, 652, 657, 658, 659, 720, 1092, 1093, 1094, 1557, 1741, 1742, 1743, 1744, 1745, 1746, 1747, 1748, 1750, 1751, 1792, 1794, 1795, 1796, 1797, 1798, 1799, 1800, 1801, 1802, 1803, 1804, 1805, 1806, 1807, 1808, 1809, 1810, 1811, 1812, 1813, 1814, 1815, 1856, 1857, 1858, 1859, 1860, 1861, 1862, 1863, 1864, 1865, 1866, 1867, 1868, 1869, 1870, 1871, 1872, 1873, 1874, 1875, 1876, 1877, 1878, 1879, 1920, 1921, 1922, 1923, 1924, 1925, 1926, 1927, 1928, 1929, 1930, 1931, 1932, 1933, 1934, 2052, 2053, 2643, 2690, 2691, 2692, 2693, 2694, 2695, 2696, 2755, 2756, 2757, 2758, 2759, 2760, 2766, 3016, 3017, 3018, 3019, 3020, 3021, 3022, 3023, 3024, 3025, 3026, 3027, 3028, 3029, 4352, 4353, 4354, 4355, 4356, 4357, 4358, 4359, 4360, 4361, 4362, 4363, 4364, 4365, 4366, 4367, 4368, 4369, 4370, 4544, 4545, 4546, 4547, 4548, 4549, 4550, 4551, 4552, 4553, 4554, 4555, 4608, 4609, 4610, 4611, 4612, 4800, 4801, 4802, 4803]
def wsL_hops : List Cond := cw 3016 :: (wI qa38 ++ (qqw RX10 268 "java/util/NoSuchElementException" 13 qxz ["java/lang/RuntimeException", "java/lang/Exception"]).filter goodWord)
theorem qavi : ∀ i ∈ qa38, cw i ∈ wsL_hops := fun i h => List.mem_cons_of_mem _ (List.mem_append_left _ (List.mem_map_of_mem h))
def qa3G : List Nat := [2, 19, 20, 64, 78, 79, 132, 133, 148, 149, 200, 201, 202, 203, 208, 276, 322, 323, 324, 384, 385, 386, 644, 650, 651, 652, 657, 658, 659, 720, 1092, 1093, 1094, 1741, 1742, 1743, 1744, 1745, 1746, 1747, 1748, 1750, 1751, 1792, 1793, 1794, 1795, 1796, 1797, 1798, 1799, 1800, 1801, 1802, 1803, 1804, 1805, 1806, 1807, 1808, 1809, 1810, 1811, 1812, 1813, 1814, 1815, 1856, 1857, 1858, 1859, 1860, 1861, 1862, 1863, 1864, 1865, 1866, 1867, 1868, 1869, 1870, 1871, 1872, 1873, 1874, 1875, 1876, 1877, 1878, 1879, 1920, 1921, 1922, 1923, 1924, 1925, 1926, 1927, 1928, 1929, 1930, 1931, 1932, 1933, 1934, 2052, 2053, 2643, 2694, 2695, 2696, 2755, 2756, 2757, 2758, 3026, 3027, 3028, 3029, 3079, 3080, 3081, 3082, 3083, 3084, 3085, 3086, 3087, 3088, 3089, 3090, 3091, 3092, 3093, 3094, 3095, 3136, 3137, 3138, 3139, 3140, 3141, 3142, 3143, 3144, 3145, 3146, 3147, 3148, 3149, 3150, 3151, 3152, 3153, 3154, 3209, 3210, 3211, 3212, 3213, 3214, 4352, 4353, 4354, 4355, 4356, 4357, 4358, 4359, 4360, 4361, 4362, 4363, 4364, 4365, 4366, 4367, 4368, 4369, 4370, 4544, 4545, 4546, 4547, 4548, 4549, 4550, 4551, 4552, 4553, 4554, 4555, 4608, 4609, 4610, 4611, 4612, 4800, 4801, 4802, 4803, 4992, 4993, 4994, 4995]
def wsL_seat : List Cond := cw 3209 :: (wI qa3G ++ (qqw RX10 268 "java/util/NoSuchElementException" 13 qxz ["java/lang/RuntimeException", "java/lang/Exception"]).filter goodWord)
theorem qau5 : ∀ i ∈ qa3G, cw i ∈ wsL_seat := fun i h => List.mem_cons_of_mem _ (List.mem_append_left _ (List.mem_map_of_mem h))
def qaWj : List Nat := [2, 19, 20, 128, 129, 148, 149, 339, 340, 595, 650, 651, 652, 660, 661, 662, 663, 704, 705, 706, 1092, 1093, 1094, 1557, 1750, 1751, 1792, 2052, 2053, 3264, 3265, 3266, 3267, 3268, 3269, 3270, 3271, 3272, 3273, 3274, 3275, 3276, 3277, 3278, 3279, 3280, 3281, 3282, 3283, 3284, 3285, 3286, 3287, 3328, 3329, 3330, 3331, 3332, 3343, 3344, 3345, 3346, 3347, 3348, 4352, 4353, 4354, 4355, 4356, 4357, 4358, 4359, 4360, 4361, 4362, 4363, 4364, 4365, 4366, 4367, 4368, 4369, 4370, 4544, 4545, 4546, 4547, 4548, 4549, 4550, 4551, 4552, 4553, 4554, 4555, 4928, 4929, 4930]
def wsL_ringed : List Cond := cw 3343 :: (wI qaWj ++ (vx_atS RX10 409 "java/lang/IllegalArgumentException" ["java/lang/RuntimeException", "java/lang/Exception"]).filter goodWord)
theorem q48 : ∀ i ∈ qaWj, cw i ∈ wsL_ringed := fun i h => List.mem_cons_of_mem _ (List.mem_append_left _ (List.mem_map_of_mem h))
def qa0S : List Nat := [2, 20, 78, 79, 276, 322, 324, 644, 651, 657, 658, 659, 1742, 1743, 1744, 1809, 1810, 1811, 1930, 1931, 2052, 2053, 2643, 2694, 2695, 2696, 2755, 2756, 2757, 2758, 2759, 2761, 3395, 3396, 3397, 3398, 3399, 3400, 3401, 3402, 3403, 3404, 3405, 3406, 3407, 3408, 4352, 4353, 4354, 4355, 4356, 4357, 4358, 4359, 4360, 4361, 4362, 4363, 4364, 4365, 4366, 4367, 4368, 4369, 4370, 4544, 4545, 4546, 4547, 4548, 4549, 4550, 4551, 4552, 4553, 4554, 4555, 4800, 4801, 4802, 4803]
def wsL_bouts : List Cond := cw 3395 :: (wI qa0S ++ (qqw RX10 268 "java/util/NoSuchElementException" 13 qxz ["java/lang/RuntimeException", "java/lang/Exception"]).filter goodWord)
theorem qag3 : ∀ i ∈ qa0S, cw i ∈ wsL_bouts := fun i h => List.mem_cons_of_mem _ (List.mem_append_left _ (List.mem_map_of_mem h))
def qa4P : List Nat := [2, 69, 70, 78, 79, 136, 137, 257, 276, 322, 324, 390, 391, 392, 595, 653, 654, 655, 656, 657, 658, 659, 660, 661, 662, 663, 704, 705, 706, 1741, 1742, 1743, 1744, 1745, 1746, 1747, 1748, 1798, 1799, 1800, 1802, 1803, 1804, 1805, 1806, 1807, 3459, 3460, 3461, 3462, 3463, 3464, 3465, 3466, 3467, 3468, 3469, 3470, 3471, 3472, 3473, 3474, 3475, 3476, 3477, 3478, 3479, 3520, 3521, 3522, 3523, 3524, 3525, 3526, 3527, 3528, 3529, 3530, 3531, 3532, 3533, 3534, 3535, 3536, 3537, 4352, 4353, 4354, 4355, 4356, 4357, 4358, 4359, 4360, 4361, 4362, 4363, 4364, 4365, 4366, 4367, 4368, 4369, 4370, 4544, 4545, 4546, 4547, 4548, 4549, 4550, 4551, 4552, 4553, 4554, 4555, 4672, 4673, 4800, 4801, 4802, 4803, 5056, 5057, 5058, 5059, 5060, 5061, 5062, 5063, 5064, 5065, 5066]
def wsL_fits : List Cond := cw 3459 :: (wI qa4P ++ (vx_atS RX10 409 "java/lang/IllegalArgumentException" ["java/lang/RuntimeException", "java/lang/Exception"]).filter goodWord)
theorem qavg : ∀ i ∈ qa4P, cw i ∈ wsL_fits := fun i h => List.mem_cons_of_mem _ (List.mem_append_left _ (List.mem_map_of_mem h))
def qa3o : List Nat := [2, 69, 70, 78, 79, 136, 137, 257, 276, 322, 324, 390, 391, 392, 393, 595, 651, 653, 654, 655, 656, 657, 658, 659, 660, 661, 662, 663, 704, 705, 706, 1741, 1742, 1743, 1744, 1745, 1746, 1747, 1748, 1798, 1799, 1800, 1802, 1803, 1804, 1805, 1806, 1807, 1930, 1931, 2052, 2053, 2443, 2444, 2445, 3466, 3467, 3468, 3469, 3470, 3471, 3472, 3473, 3474, 3475, 3476, 3477, 3478, 3479, 3520, 3521, 3522, 3523, 3524, 3525, 3526, 3527, 3528, 3529, 3530, 3531, 3532, 3533, 3534, 3535, 3536, 3537, 3592, 3593, 3594, 3595, 3596, 3597, 3598, 3599, 3600, 3601, 3602, 3603, 3604, 3605, 3606, 3607, 3648, 3649, 3650, 3651, 3652, 3653, 3654, 4352, 4353, 4354, 4355, 4356, 4357, 4358, 4359, 4360, 4361, 4362, 4363, 4364, 4365, 4366, 4367, 4368, 4369, 4370, 4544, 4545, 4546, 4547, 4548, 4549, 4550, 4551, 4552, 4553, 4554, 4555, 4672, 4673, 4800, 4801, 4802, 4803, 5056, 5057, 5058, 5059, 5060, 5061, 5062, 5063, 5064, 5065, 5066]
def wsL_look : List Cond := cw 3592 :: (wI qa3o ++ (vx_atS RX10 409 "java/lang/IllegalArgumentException" ["java/lang/RuntimeException", "java/lang/Exception"]).filter goodWord)
theorem qau8 : ∀ i ∈ qa3o, cw i ∈ wsL_look := fun i h => List.mem_cons_of_mem _ (List.mem_append_left _ (List.mem_map_of_mem h))
def qa0y : List Nat := [2, 19, 20, 148, 149, 195, 595, 651, 653, 654, 655, 656, 657, 658, 659, 660, 661, 662, 663, 704, 705, 706, 720, 1092, 1093, 1094, 1750, 1751, 1792, 1802, 1803, 1804, 1805, 1806, 1807, 2052, 2053, 3025, 3026, 3027, 3028, 3029, 3665, 3666, 3667, 3668, 3669, 3670, 3671, 3712, 3713, 3714, 3715, 3716, 3717, 3718, 4352, 4353, 4354, 4355, 4356, 4357, 4358, 4359, 4360, 4361, 4362, 4363, 4364, 4365, 4366, 4367, 4368, 4369, 4370, 4544, 4545, 4546, 4547, 4548, 4549, 4550, 4551, 4552, 4553, 4554, 4555]
def wsL_watch : List Cond := cw 3665 :: (wI qa0y ++ (vx_atS RX10 409 "java/lang/IllegalArgumentException" ["java/lang/RuntimeException", "java/lang/Exception"]).filter goodWord)
theorem qafJ : ∀ i ∈ qa0y, cw i ∈ wsL_watch := fun i h => List.mem_cons_of_mem _ (List.mem_append_left _ (List.mem_map_of_mem h))
def qbc4 : List Nat := [2, 595, 653, 654, 655, 656, 657, 658, 659, 660, 661, 662, 663, 704, 705, 706, 3725, 3726, 3727, 3728, 3729, 3730, 3731, 3732, 3733, 3734, 3735, 4352, 4353, 4354, 4355, 4356, 4357, 4358, 4359, 4360, 4361, 4362, 4363, 4364, 4365, 4366, 4367, 4368, 4369, 4370]
def wsL_few : List Cond := cw 3725 :: (wI qbc4 ++ (vx_atS RX10 409 "java/lang/IllegalArgumentException" ["java/lang/RuntimeException", "java/lang/Exception"]).filter goodWord)
theorem qaNt : ∀ i ∈ qbc4, cw i ∈ wsL_few := fun i h => List.mem_cons_of_mem _ (List.mem_append_left _ (List.mem_map_of_mem h))
def qa8h : List Nat := [2, 595, 653, 654, 655, 656, 657, 658, 659, 660, 661, 662, 663, 704, 705, 706, 3786, 3787, 3788, 3789, 3790, 3791, 3792, 3793, 4352, 4353, 4354, 4355, 4356, 4357, 4358, 4359, 4360, 4361, 4362, 4363, 4364, 4365, 4366, 4367, 4368, 4369, 4370]
def wsL_road : List Cond := cw 3786 :: (wI qa8h ++ (vx_atS RX10 409 "java/lang/IllegalArgumentException" ["java/lang/RuntimeException", "java/lang/Exception"]).filter goodWord)
theorem qau6 : ∀ i ∈ qa8h, cw i ∈ wsL_road := fun i h => List.mem_cons_of_mem _ (List.mem_append_left _ (List.mem_map_of_mem h))
def qaUV : List Nat := [2, 20, 78, 79, 276, 277, 322, 324, 595, 644, 650, 651, 652, 653, 654, 655, 656, 657, 658, 659, 660, 661, 662, 663, 704, 705, 706, 1860, 1861, 1862, 1863, 1864, 1865, 1866, 1867, 2052, 2053, 2643, 2694, 2695, 2696, 2755, 2756, 2757, 2758, 3404, 3843, 3844, 3845, 3846, 3847, 3848, 3849, 3850, 3851, 3852, 3853, 3854, 3855, 3856, 4352, 4353, 4354, 4355, 4356, 4357, 4358, 4359, 4360, 4361, 4362, 4363, 4364, 4365, 4366, 4367, 4368, 4369, 4370, 4544, 4545, 4546, 4547, 4548, 4549, 4550, 4551, 4552, 4553, 4554, 4555, 4800, 4801, 4802, 4803]
def wsL_clover : List Cond := cw 3843 :: (wI qaUV ++ (qqw RX10 268 "java/util/NoSuchElementException" 13 qxz ["java/lang/RuntimeException", "java/lang/Exception"]).filter goodWord ++ (vx_atS RX10 409 "java/lang/IllegalArgumentException" ["java/lang/RuntimeException", "java/lang/Exception"]).filter goodWord)
theorem qVn : ∀ i ∈ qaUV, cw i ∈ wsL_clover := fun i h => List.mem_cons_of_mem _ (List.mem_append_left _ (List.mem_append_left _ (List.mem_map_of_mem h)))
def qaou : List Nat := [2, 20, 78, 79, 276, 595, 644, 653, 654, 655, 656, 657, 658, 659, 660, 661, 662, 663, 704, 705, 706, 1742, 1743, 1744, 1809, 1810, 1811, 2759, 2761, 3907, 3908, 3909, 3910, 3911, 4352, 4353, 4354, 4355, 4356, 4357, 4358, 4359, 4360, 4361, 4362, 4363, 4364, 4365, 4366, 4367, 4368, 4369, 4370, 4544, 4545, 4546, 4547, 4548, 4549, 4550, 4551, 4552, 4553, 4554, 4555, 4800, 4801, 4802, 4803]
def wsL_strongest : List Cond := cw 3907 :: (wI qaou ++ (vx_atS RX10 409 "java/lang/IllegalArgumentException" ["java/lang/RuntimeException", "java/lang/Exception"]).filter goodWord)
theorem qOf : ∀ i ∈ qaou, cw i ∈ wsL_strongest := fun i h => List.mem_cons_of_mem _ (List.mem_append_left _ (List.mem_map_of_mem h))
def qbaJ : List Nat := [2, 20, 78, 79, 276, 595, 644, 653, 654, 655, 656, 657, 658, 659, 660, 661, 662, 663, 704, 705, 706, 1861, 1862, 1863, 2643, 2694, 2695, 2696, 2755, 2756, 2757, 2758, 2835, 3918, 3919, 3920, 3921, 3922, 4352, 4353, 4354, 4355, 4356, 4357, 4358, 4359, 4360, 4361, 4362, 4363, 4364, 4365, 4366, 4367, 4368, 4369, 4370, 4544, 4545, 4546, 4547, 4548, 4549, 4550, 4551, 4552, 4553, 4554, 4555, 4800, 4801, 4802, 4803]
def wsL_ties : List Cond := cw 3918 :: (wI qbaJ ++ (qqw RX10 268 "java/util/NoSuchElementException" 13 qxz ["java/lang/RuntimeException", "java/lang/Exception"]).filter goodWord ++ (vx_atS RX10 409 "java/lang/IllegalArgumentException" ["java/lang/RuntimeException", "java/lang/Exception"]).filter goodWord)
theorem qafY : ∀ i ∈ qbaJ, cw i ∈ wsL_ties := fun i h => List.mem_cons_of_mem _ (List.mem_append_left _ (List.mem_append_left _ (List.mem_map_of_mem h)))
def qaUr : List Nat := [2, 19, 20, 148, 149, 595, 651, 653, 654, 655, 656, 657, 658, 659, 660, 661, 662, 663, 704, 705, 706, 1047, 1092, 1093, 1094, 1557, 1750, 1751, 1792, 2052, 2053, 2063, 2064, 2065, 2643, 2690, 2691, 2692, 2693, 2694, 2695, 2696, 2697, 2887, 3969, 3970, 3971, 3972, 3973, 4352, 4353, 4354, 4355, 4356, 4357, 4358, 4359, 4360, 4361, 4362, 4363, 4364, 4365, 4366, 4367, 4368, 4369, 4370, 4544, 4545, 4546, 4547, 4548, 4549, 4550, 4551, 4552, 4553, 4554, 4555]
def wsL_refuge : List Cond := cw 3969 :: (wI qaUr ++ (qqw RX10 268 "java/util/NoSuchElementException" 13 qxz ["java/lang/RuntimeException", "java/lang/Exception"]).filter goodWord ++ (vx_atS RX10 409 "java/lang/IllegalArgumentException" ["java/lang/RuntimeException", "java/lang/Exception"]).filter goodWord)
theorem qUW : ∀ i ∈ qaUr, cw i ∈ wsL_refuge := fun i h => List.mem_cons_of_mem _ (List.mem_append_left _ (List.mem_append_left _ (List.mem_map_of_mem h)))
def qa0K : List Nat := [2, 19, 20, 64, 78, 79, 148, 149, 200, 201, 202, 203, 208, 276, 322, 323, 324, 644, 650, 651, 652, 657, 658, 659, 720, 1092, 1093, 1094, 1741, 1742, 1743, 1744, 1745, 1746, 1747, 1748, 1750, 1751, 1792, 1793, 1794, 1795, 1796, 1797, 1798, 1799, 1800, 1801, 1802, 1803, 1804, 1805, 1806, 1807, 1808, 1809, 1810, 1811, 1812, 1813, 1814, 1815, 1856, 1857, 1858, 1859, 1860, 1861, 1862, 1863, 1864, 1865, 1866, 1867, 1868, 1869, 1870, 1871, 1872, 1873, 1874, 1875, 1876, 1877, 1878, 1879, 1920, 1921, 1922, 1923, 1924, 1925, 1926, 1927, 1928, 1929, 1930, 1931, 1932, 1933, 1934, 2643, 2694, 2695, 2696, 2755, 2756, 2757, 2758, 3026, 3027, 3028, 3029, 3094, 3095, 3136, 3980, 3981, 3982, 3983, 3984, 3985, 4352, 4353, 4354, 4355, 4356, 4357, 4358, 4359, 4360, 4361, 4362, 4363, 4364, 4365, 4366, 4367, 4368, 4369, 4370, 4544, 4545, 4546, 4547, 4548, 4549, 4550, 4551, 4552, 4553, 4554, 4555, 4608, 4609, 4610, 4611, 4612, 4800, 4801, 4802, 4803]
def wsL_range : List Cond := cw 3980 :: (wI qa0K ++ (qqw RX10 268 "java/util/NoSuchElementException" 13 qxz ["java/lang/RuntimeException", "java/lang/Exception"]).filter goodWord)
theorem qafv : ∀ i ∈ qa0K, cw i ∈ wsL_range := fun i h => List.mem_cons_of_mem _ (List.mem_append_left _ (List.mem_map_of_mem h))
def qa0H : List Nat := [2, 19, 64, 78, 79, 80, 148, 149, 200, 201, 202, 203, 208, 276, 322, 323, 324, 326, 328, 329, 330, 331, 595, 650, 651, 652, 653, 654, 655, 656, 657, 658, 659, 660, 661, 662, 663, 704, 705, 706, 1047, 1092, 1093, 1094, 1738, 1739, 1740, 1741, 1742, 1743, 1744, 1745, 1746, 1747, 1748, 1749, 1750, 1751, 1792, 1793, 1794, 1795, 1796, 1797, 1798, 1799, 1800, 1801, 1802, 1803, 1804, 1805, 1806, 1807, 1808, 1809, 1810, 1811, 1812, 1813, 1814, 1815, 1856, 1857, 1858, 1859, 1860, 1861, 1862, 1863, 1864, 1865, 1866, 1867, 1868, 1869, 1870, 1871, 1872, 1873, 1874, 1875, 1876, 1877, 1878, 1879, 1920, 1921, 1922, 1923, 1924, 1925, 1926, 1927, 1928, 1929, 1930, 1931, 1932, 1933, 1934, 1936, 1937, 1938, 1992, 1993, 1994, 1995, 1996, 1997, 1998, 2000, 2001, 2002, 2003, 2049, 2050, 2051, 2052, 2053, 2054, 2055, 2056, 2057, 2058, 2059, 2060, 2061, 2062, 2063, 2064, 2065, 2066, 2067, 2068, 2069, 2562, 2564, 2565, 2566, 2567, 2965, 2966, 2967, 3008, 4032, 4033, 4034, 4035, 4036, 4037, 4038, 4039, 4040, 4041, 4042, 4043, 4044, 4045, 4046, 4047, 4048, 4049, 4050, 4051, 4052, 4053, 4054, 4055, 4096, 4097, 4098, 4099, 4100, 4101, 4102, 4103, 4104, 4105, 4352, 4353, 4354, 4355, 4356, 4357, 4358, 4359, 4360, 4361, 4362, 4363, 4364, 4365, 4366, 4367, 4368, 4369, 4370, 4544, 4545, 4546, 4547, 4548, 4549, 4550, 4551, 4552, 4553, 4554, 4555, 4608, 4609, 4610, 4611, 4612, 4800, 4801, 4802, 4803]
def wsL_march : List Cond := cw 4032 :: (wI qa0H ++ (vx_atS RX10 409 "java/lang/IllegalArgumentException" ["java/lang/RuntimeException", "java/lang/Exception"]).filter goodWord)
theorem qaff : ∀ i ∈ qa0H, cw i ∈ wsL_march := fun i h => List.mem_cons_of_mem _ (List.mem_append_left _ (List.mem_map_of_mem h))
def qa26 : List Nat := [2, 19, 20, 64, 78, 79, 80, 148, 149, 200, 201, 202, 203, 208, 276, 322, 323, 324, 326, 328, 329, 330, 331, 595, 644, 649, 650, 651, 652, 653, 654, 655, 656, 657, 658, 659, 660, 661, 662, 663, 704, 705, 706, 1047, 1092, 1093, 1094, 1738, 1739, 1740, 1741, 1742, 1743, 1744, 1745, 1746, 1747, 1748, 1749, 1750, 1751, 1792, 1793, 1794, 1795, 1796, 1797, 1798, 1799, 1800, 1801, 1802, 1803, 1804, 1805, 1806, 1807, 1808, 1809, 1810, 1811, 1812, 1813, 1814, 1815, 1856, 1857, 1858, 1859, 1860, 1861, 1862, 1863, 1864, 1865, 1866, 1867, 1868, 1869, 1870, 1871, 1872, 1873, 1874, 1875, 1876, 1877, 1878, 1879, 1920, 1921, 1922, 1923, 1924, 1925, 1926, 1927, 1928, 1929, 1930, 1931, 1932, 1933, 1934, 1936, 1937, 1938, 1992, 1993, 1994, 1995, 1996, 1997, 1998, 2000, 2001, 2002, 2003, 2049, 2050, 2051, 2052, 2053, 2054, 2055, 2056, 2057, 2058, 2059, 2060, 2061, 2062, 2063, 2064, 2065, 2066, 2067, 2068, 2069, 2759, 2965, 2966, 2967, 3008, 3408, 4037, 4038, 4039, 4040, 4041, 4042, 4043, 4044, 4045, 4046, 4047, 4048, 4049, 4050, 4051, 4052, 4053, 4054, 4055, 4096, 4097, 4098, 4099, 4100, 4101, 4167, 4168, 4169, 4170, 4171, 4172, 4352, 4353, 4354, 4355, 4356, 4357, 4358, 4359, 4360, 4361, 4362, 4363, 4364, 4365, 4366, 4367, 4368, 4369, 4370, 4544, 4545, 4546, 4547, 4548, 4549, 4550, 4551, 4552, 4553, 4554, 4555, 4608, 4609, 4610, 4611, 4612, 4800, 4801, 4802, 4803]
def wsL_span : List Cond := cw 4167 :: (wI qa26 ++ (vx_atS RX10 409 "java/lang/IllegalArgumentException" ["java/lang/RuntimeException", "java/lang/Exception"]).filter goodWord)
theorem qavd : ∀ i ∈ qa26, cw i ∈ wsL_span := fun i h => List.mem_cons_of_mem _ (List.mem_append_left _ (List.mem_map_of_mem h))
abbrev vwCl : List vw_C := [(RX0, TX0, 2), (RX1, TX1, 4), (RX2, TX2, 12), (RX3, TX3, 11), (RX4, TX4, 5), (RX5, TX5, 2), (RX6, TX6, 3), (RX7, TX7, 4), (RX8, TX8, 7), (RX9, TX9, 12), (RX10, TX10, 19), (RX11, TX11, 55)]
