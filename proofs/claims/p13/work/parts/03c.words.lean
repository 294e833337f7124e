def qawb : List Nat := [257, 261, 262, 4672, 4673]
def wsX0_clear : List Cond := cw 261 :: wI qawb
theorem qaiR : ∀ i ∈ qawb, cw i ∈ wsX0_clear := fun i h => List.mem_cons_of_mem _ (List.mem_map_of_mem h)
theorem qaje : okM 261 qawb = true := qaq (by decide +kernel)
def qaQj : List Nat := [11, 12, 69, 147, 215, 256, 257, 258, 259, 260, 261, 262, 4672, 4673]
def wsX0_init : List Cond := cw 215 :: wI qaQj
theorem qLA : ∀ i ∈ qaQj, cw i ∈ wsX0_init := fun i h => List.mem_cons_of_mem _ (List.mem_map_of_mem h)
theorem qa9S : okM 215 qaQj = true := qaq (by decide +kernel)
def q4I : List Nat := [715, 726, 4480, 4481, 4482, 4483, 4484, 4485, 4486]
def wsX8_isFaulty : List Cond := cw 726 :: wI q4I
theorem qahq : ∀ i ∈ q4I, cw i ∈ wsX8_isFaulty := fun i h => List.mem_cons_of_mem _ (List.mem_map_of_mem h)
theorem qoQ : okM 726 q4I = true := qaq (by decide +kernel)
def qUC : List Nat := [142, 712, 713, 774, 4480, 4481, 4482, 4483, 4484, 4485, 4486]
def wsX8_skipBlanks : List Cond := cw 774 :: wI qUC
theorem qIp : ∀ i ∈ qUC, cw i ∈ wsX8_skipBlanks := fun i h => List.mem_cons_of_mem _ (List.mem_map_of_mem h)
theorem qyt : okM 774 qUC = true := qaq (by decide +kernel)
def qaaT : List Nat := [15, 142, 712, 713, 770, 771, 772, 773, 774, 4480, 4481, 4482, 4483, 4484, 4485, 4486]
def wsX8_isEnded : List Cond := cw 770 :: wI qaaT
theorem qLJ : ∀ i ∈ qaaT, cw i ∈ wsX8_isEnded := fun i h => List.mem_cons_of_mem _ (List.mem_map_of_mem h)
theorem qR9 : okM 770 qaaT = true := qaq (by decide +kernel)
def qabd : List Nat := [142, 712, 977, 4480, 4481, 4482, 4483, 4484, 4485, 4486]
def wsX8_digitAt : List Cond := cw 977 :: wI qabd
theorem q2Z : ∀ i ∈ qabd, cw i ∈ wsX8_digitAt := fun i h => List.mem_cons_of_mem _ (List.mem_map_of_mem h)
theorem qaoh : okM 977 qabd = true := qaq (by decide +kernel)
def qayT : List Nat := [143, 715, 968, 4480, 4481, 4482, 4483, 4484, 4485, 4486]
def wsX8_blame : List Cond := cw 968 :: wI qayT
theorem qaio : ∀ i ∈ qayT, cw i ∈ wsX8_blame := fun i h => List.mem_cons_of_mem _ (List.mem_map_of_mem h)
theorem qam3 : okM 968 qayT = true := qaq (by decide +kernel)
def qawC : List Nat := [659]
def wsX10_within : List Cond := cw 659 :: wI qawC
theorem qCa : okM 659 qawC = true := qaq (by decide +kernel)
def qalv : List Nat := [2, 15, 142, 143, 650, 651, 652, 658, 659, 711, 712, 713, 714, 715, 724, 725, 726, 771, 772, 773, 774, 835, 965, 966, 967, 968, 972, 973, 974, 975, 976, 977, 4480, 4481, 4482, 4483, 4484, 4485, 4486]
def wsX8_number : List Cond := cw 972 :: wI qalv
theorem qnd : ∀ i ∈ qalv, cw i ∈ wsX8_number := fun i h => List.mem_cons_of_mem _ (List.mem_map_of_mem h)
theorem qBt : okM 972 qalv = true := qaq (by decide +kernel)
def qaAQ : List Nat := [257, 2441, 4672, 4673]
def wsX0_tells : List Cond := cw 2441 :: wI qaAQ
theorem qaLD : ∀ i ∈ qaAQ, cw i ∈ wsX0_tells := fun i h => List.mem_cons_of_mem _ (List.mem_map_of_mem h)
theorem qaMq : okM 2441 qaAQ = true := qaq (by decide +kernel)
def qTH : List Nat := [15, 143, 714, 715, 964, 965, 966, 967, 968, 4480, 4481, 4482, 4483, 4484, 4485, 4486]
def wsX8_blameToken : List Cond := cw 964 :: wI qTH
theorem qIC : ∀ i ∈ qTH, cw i ∈ wsX8_blameToken := fun i h => List.mem_cons_of_mem _ (List.mem_map_of_mem h)
theorem quc : okM 964 qTH = true := qaq (by decide +kernel)
def qaEv : List Nat := [15, 142, 712, 713, 714, 715, 724, 725, 726, 771, 772, 773, 774, 835, 1025, 4480, 4481, 4482, 4483, 4484, 4485, 4486]
def wsX8_takes : List Cond := cw 1025 :: wI qaEv
theorem qCv : ∀ i ∈ qaEv, cw i ∈ wsX8_takes := fun i h => List.mem_cons_of_mem _ (List.mem_map_of_mem h)
theorem qU7 : okM 1025 qaEv = true := qaq (by decide +kernel)
def qYi : List Nat := [15, 142, 143, 712, 713, 715, 771, 772, 773, 774, 965, 966, 967, 968, 1029, 4480, 4481, 4482, 4483, 4484, 4485, 4486]
def wsX8_blameSign : List Cond := cw 1029 :: wI qYi
theorem qAv : ∀ i ∈ qYi, cw i ∈ wsX8_blameSign := fun i h => List.mem_cons_of_mem _ (List.mem_map_of_mem h)
theorem qEh : okM 1029 qYi = true := qaq (by decide +kernel)
def qazP : List Nat := [15, 142, 143, 712, 713, 714, 715, 724, 725, 726, 771, 772, 773, 774, 835, 965, 966, 967, 968, 981, 982, 983, 1024, 1025, 1026, 1027, 1028, 1029, 4480, 4481, 4482, 4483, 4484, 4485, 4486]
def wsX8_needs : List Cond := cw 981 :: wI qazP
theorem q5t : ∀ i ∈ qazP, cw i ∈ wsX8_needs := fun i h => List.mem_cons_of_mem _ (List.mem_map_of_mem h)
theorem qAy : okM 981 qazP = true := qaq (by decide +kernel)
def q3Q : List Nat := [2, 15, 69, 142, 143, 257, 262, 650, 651, 652, 658, 659, 711, 712, 713, 714, 715, 724, 725, 726, 771, 772, 773, 774, 835, 962, 963, 964, 965, 966, 967, 968, 970, 971, 972, 973, 974, 975, 976, 977, 979, 980, 981, 982, 983, 1024, 1025, 1026, 1027, 1028, 1029, 2391, 2436, 2437, 2438, 2439, 2440, 2441, 2442, 2443, 4480, 4481, 4482, 4483, 4484, 4485, 4486, 4672, 4673]
def wsX0_readLine : List Cond := cw 2436 :: wI q3Q
theorem qmp : ∀ i ∈ q3Q, cw i ∈ wsX0_readLine := fun i h => List.mem_cons_of_mem _ (List.mem_map_of_mem h)
theorem qaQl : okM 2436 q3Q = true := qaq (by decide +kernel)
def q26 : List Nat := [2, 15, 69, 142, 143, 257, 258, 259, 260, 261, 262, 650, 651, 652, 658, 659, 711, 712, 713, 714, 715, 724, 725, 726, 768, 769, 770, 771, 772, 773, 774, 835, 962, 963, 964, 965, 966, 967, 968, 970, 971, 972, 973, 974, 975, 976, 977, 979, 980, 981, 982, 983, 1024, 1025, 1026, 1027, 1028, 1029, 2390, 2391, 2432, 2433, 2434, 2435, 2436, 2437, 2438, 2439, 2440, 2441, 2442, 2443, 4480, 4481, 4482, 4483, 4484, 4485, 4486, 4672, 4673]
def wsX0_readFrom : List Cond := cw 2390 :: wI q26
theorem qw9 : ∀ i ∈ q26, cw i ∈ wsX0_readFrom := fun i h => List.mem_cons_of_mem _ (List.mem_map_of_mem h)
theorem qaOu : okM 2390 q26 = true := qaq (by decide +kernel)
def qakG : List Nat := [257, 3537, 4672, 4673]
def wsX0_agrees : List Cond := cw 3537 :: wI qakG
theorem qaAL : ∀ i ∈ qakG, cw i ∈ wsX0_agrees := fun i h => List.mem_cons_of_mem _ (List.mem_map_of_mem h)
theorem qaXJ : okM 3537 qakG = true := qaq (by decide +kernel)
def qazY : List Nat := [276, 321, 322, 323, 324, 325, 326, 327, 328, 329, 330, 331, 4544, 4545, 4546, 4547, 4548, 4549, 4550, 4551, 4552, 4553, 4554, 4555, 4800, 4801, 4802, 4803]
def wsX1_begin : List Cond := cw 321 :: wI qazY
theorem qvw : ∀ i ∈ qazY, cw i ∈ wsX1_begin := fun i h => List.mem_cons_of_mem _ (List.mem_map_of_mem h)
theorem qaLF : okM 321 qazY = true := qaq (by decide +kernel)
def qaNW : List Nat := [11, 12, 78, 147, 274, 275, 276, 277, 278, 279, 320, 321, 322, 323, 324, 325, 326, 327, 328, 329, 330, 331, 4544, 4545, 4546, 4547, 4548, 4549, 4550, 4551, 4552, 4553, 4554, 4555, 4800, 4801, 4802, 4803]
def wsX1_init : List Cond := cw 274 :: wI qaNW
theorem qHi : ∀ i ∈ qaNW, cw i ∈ wsX1_init := fun i h => List.mem_cons_of_mem _ (List.mem_map_of_mem h)
theorem qa5b : okM 274 qaNW = true := qaq (by decide +kernel)
def qaRk : List Nat := [323, 1476, 4800, 4801, 4802, 4803]
def wsX1_obey : List Cond := cw 1476 :: wI qaRk
theorem qaUB : ∀ i ∈ qaRk, cw i ∈ wsX1_obey := fun i h => List.mem_cons_of_mem _ (List.mem_map_of_mem h)
theorem qa29 : okM 1476 qaRk = true := qaq (by decide +kernel)
def q0S : List Nat := [276, 322, 323, 328, 329, 330, 331, 3008, 4800, 4801, 4802, 4803]
def wsX1_copyFrom : List Cond := cw 3008 :: wI q0S
theorem qxc : ∀ i ∈ q0S, cw i ∈ wsX1_copyFrom := fun i h => List.mem_cons_of_mem _ (List.mem_map_of_mem h)
theorem qWo : okM 3008 q0S = true := qaq (by decide +kernel)
def qaXh : List Nat := [276, 1875, 4800, 4801, 4802, 4803]
def wsX1_day : List Cond := cw 1875 :: wI qaXh
theorem qa0U : ∀ i ∈ qaXh, cw i ∈ wsX1_day := fun i h => List.mem_cons_of_mem _ (List.mem_map_of_mem h)
theorem qau0 : okM 1875 qaXh = true := qaq (by decide +kernel)
def qaP9 : List Nat := [276, 1986, 4800, 4801, 4802, 4803]
def wsX1_year : List Cond := cw 1986 :: wI qaP9
theorem qaUg : ∀ i ∈ qaP9, cw i ∈ wsX1_year := fun i h => List.mem_cons_of_mem _ (List.mem_map_of_mem h)
theorem qaUw : okM 1986 qaP9 = true := qaq (by decide +kernel)
def qS5 : List Nat := [276, 2563, 4800, 4801, 4802, 4803]
def wsX1_caughtOnes : List Cond := cw 2563 :: wI qS5
theorem q2T : ∀ i ∈ qS5, cw i ∈ wsX1_caughtOnes := fun i h => List.mem_cons_of_mem _ (List.mem_map_of_mem h)
theorem qOU : okM 2563 qS5 = true := qaq (by decide +kernel)
def qYF : List Nat := [276, 2567, 4800, 4801, 4802, 4803]
def wsX1_leaptOnes : List Cond := cw 2567 :: wI qYF
theorem q8b : ∀ i ∈ qYF, cw i ∈ wsX1_leaptOnes := fun i h => List.mem_cons_of_mem _ (List.mem_map_of_mem h)
theorem qaJn : okM 2567 qYF = true := qaq (by decide +kernel)
def q2O : List Nat := [276, 322, 324, 3403, 4544, 4545, 4546, 4547, 4548, 4549, 4550, 4551, 4552, 4553, 4554, 4555, 4800, 4801, 4802, 4803]
def wsX1_freeOnes : List Cond := cw 3403 :: wI q2O
theorem qHY : ∀ i ∈ q2O, cw i ∈ wsX1_freeOnes := fun i h => List.mem_cons_of_mem _ (List.mem_map_of_mem h)
theorem qaRl : okM 3403 q2O = true := qaq (by decide +kernel)
def q2k : List Nat := [276, 1744, 4800, 4801, 4802, 4803]
def wsX1_isCaught : List Cond := cw 1744 :: wI q2k
theorem qadN : ∀ i ∈ q2k, cw i ∈ wsX1_isCaught := fun i h => List.mem_cons_of_mem _ (List.mem_map_of_mem h)
theorem qoT : okM 1744 q2k = true := qaq (by decide +kernel)
def qaNO : List Nat := [276, 1748, 4800, 4801, 4802, 4803]
def wsX1_sits : List Cond := cw 1748 :: wI qaNO
theorem qaT9 : ∀ i ∈ qaNO, cw i ∈ wsX1_sits := fun i h => List.mem_cons_of_mem _ (List.mem_map_of_mem h)
theorem qEg : okM 1748 qaNO = true := qaq (by decide +kernel)
def qajN : List Nat := [276, 1811, 4800, 4801, 4802, 4803]
def wsX1_strong : List Cond := cw 1811 :: wI qajN
theorem qavK : ∀ i ∈ qajN, cw i ∈ wsX1_strong := fun i h => List.mem_cons_of_mem _ (List.mem_map_of_mem h)
theorem qFg : okM 1811 qajN = true := qaq (by decide +kernel)
def qaxt : List Nat := [276, 1815, 4800, 4801, 4802, 4803]
def wsX1_still : List Cond := cw 1815 :: wI qaxt
theorem qaLA : ∀ i ∈ qaxt, cw i ∈ wsX1_still := fun i h => List.mem_cons_of_mem _ (List.mem_map_of_mem h)
theorem qajz : okM 1815 qaxt = true := qaq (by decide +kernel)
def qavP : List Nat := [276, 1879, 4800, 4801, 4802, 4803]
def wsX1_leaps : List Cond := cw 1879 :: wI qavP
theorem qaLn : ∀ i ∈ qavP, cw i ∈ wsX1_leaps := fun i h => List.mem_cons_of_mem _ (List.mem_map_of_mem h)
theorem qaMl : okM 1879 qavP = true := qaq (by decide +kernel)
def qals : List Nat := [276, 1863, 4800, 4801, 4802, 4803]
def wsX1_owesTo : List Cond := cw 1863 :: wI qals
theorem qaxN : ∀ i ∈ qals, cw i ∈ wsX1_owesTo := fun i h => List.mem_cons_of_mem _ (List.mem_map_of_mem h)
theorem qQy : okM 1863 qals = true := qaq (by decide +kernel)
def qaN2 : List Nat := [78, 276, 322, 324, 1859, 1860, 1861, 1862, 1863, 4544, 4545, 4546, 4547, 4548, 4549, 4550, 4551, 4552, 4553, 4554, 4555, 4800, 4801, 4802, 4803]
def wsX1_owes : List Cond := cw 1859 :: wI qaN2
theorem qU6 : ∀ i ∈ qaN2, cw i ∈ wsX1_owes := fun i h => List.mem_cons_of_mem _ (List.mem_map_of_mem h)
theorem qav0 : okM 1859 qaN2 = true := qaq (by decide +kernel)
def qaM4 : List Nat := [78, 276, 322, 324, 1860, 1861, 1862, 1863, 1867, 4544, 4545, 4546, 4547, 4548, 4549, 4550, 4551, 4552, 4553, 4554, 4555, 4800, 4801, 4802, 4803]
def wsX1_owed : List Cond := cw 1867 :: wI qaM4
theorem qVW : ∀ i ∈ qaM4, cw i ∈ wsX1_owed := fun i h => List.mem_cons_of_mem _ (List.mem_map_of_mem h)
theorem qaA6 : okM 1867 qaM4 = true := qaq (by decide +kernel)
def q1c : List Nat := [78, 276, 322, 324, 1856, 1857, 1858, 1859, 1860, 1861, 1862, 1863, 2571, 4544, 4545, 4546, 4547, 4548, 4549, 4550, 4551, 4552, 4553, 4554, 4555, 4800, 4801, 4802, 4803]
def wsX1_allDebts : List Cond := cw 2571 :: wI q1c
theorem qC9 : ∀ i ∈ q1c, cw i ∈ wsX1_allDebts := fun i h => List.mem_cons_of_mem _ (List.mem_map_of_mem h)
theorem qah4 : okM 2571 q1c = true := qaq (by decide +kernel)
def q2n : List Nat := [78, 276, 322, 324, 1741, 1742, 1743, 1744, 1745, 1746, 1747, 1748, 1800, 4544, 4545, 4546, 4547, 4548, 4549, 4550, 4551, 4552, 4553, 4554, 4555, 4800, 4801, 4802, 4803]
def wsX1_seatedIn : List Cond := cw 1800 :: wI q2n
theorem qwI : ∀ i ∈ q2n, cw i ∈ wsX1_seatedIn := fun i h => List.mem_cons_of_mem _ (List.mem_map_of_mem h)
theorem qWG : okM 1800 q2n = true := qaq (by decide +kernel)
def qH3 : List Nat := [78, 276, 322, 324, 1741, 1742, 1743, 1744, 1808, 1809, 1810, 1811, 4105, 4544, 4545, 4546, 4547, 4548, 4549, 4550, 4551, 4552, 4553, 4554, 4555, 4800, 4801, 4802, 4803]
def wsX1_strongTogether : List Cond := cw 4105 :: wI qH3
theorem qpm : ∀ i ∈ qH3, cw i ∈ wsX1_strongTogether := fun i h => List.mem_cons_of_mem _ (List.mem_map_of_mem h)
theorem qab8 : okM 4105 qH3 = true := qaq (by decide +kernel)
def qI8 : List Nat := [1804, 1805, 1806, 1807]
def wsJ6_bitCount_0f7a4 : List Cond := cw 1804 :: wI qI8
theorem qFG : ∀ i ∈ qI8, cw i ∈ wsJ6_bitCount_0f7a4 := fun i h => List.mem_cons_of_mem _ (List.mem_map_of_mem h)
theorem qFl : okM 1804 qI8 = true := qaq (by decide +kernel)
def q0T : List Nat := [203, 1871, 4608, 4609, 4610, 4611, 4612]
def wsX4_setFacts : List Cond := cw 1871 :: wI q0T
theorem qae1 : ∀ i ∈ q0T, cw i ∈ wsX4_setFacts := fun i h => List.mem_cons_of_mem _ (List.mem_map_of_mem h)
theorem qaeG : okM 1871 q0T = true := qaq (by decide +kernel)
def q2C : List Nat := [203, 1923, 4608, 4609, 4610, 4611, 4612]
def wsX4_setTimes : List Cond := cw 1923 :: wI q2C
theorem qafF : ∀ i ∈ q2C, cw i ∈ wsX4_setTimes := fun i h => List.mem_cons_of_mem _ (List.mem_map_of_mem h)
theorem qad3 : okM 1923 q2C = true := qaq (by decide +kernel)
def qaLG : List Nat := [1934]
def wsX4_joined : List Cond := cw 1934 :: wI qaLG
theorem qaZn : okM 1934 qaLG = true := qaq (by decide +kernel)
def qaAn : List Nat := [64, 200, 201, 202, 203, 208, 650, 651, 652, 1927, 1928, 1929, 1930, 1931, 1932, 1933, 1934, 4608, 4609, 4610, 4611, 4612]
def wsX4_reach : List Cond := cw 1927 :: wI qaAn
theorem qsW : ∀ i ∈ qaAn, cw i ∈ wsX4_reach := fun i h => List.mem_cons_of_mem _ (List.mem_map_of_mem h)
theorem qaLk : okM 1927 qaAn = true := qaq (by decide +kernel)
def qawK : List Nat := [64, 78, 200, 201, 202, 203, 208, 276, 322, 323, 324, 650, 651, 652, 1741, 1742, 1743, 1744, 1745, 1746, 1747, 1748, 1796, 1797, 1798, 1799, 1800, 1801, 1802, 1803, 1804, 1805, 1806, 1807, 1808, 1809, 1810, 1811, 1812, 1813, 1814, 1815, 1856, 1857, 1858, 1859, 1860, 1861, 1862, 1863, 1864, 1865, 1866, 1867, 1868, 1869, 1870, 1871, 1872, 1873, 1874, 1875, 1876, 1877, 1878, 1879, 1920, 1921, 1922, 1923, 1924, 1925, 1926, 1927, 1928, 1929, 1930, 1931, 1932, 1933, 1934, 4544, 4545, 4546, 4547, 4548, 4549, 4550, 4551, 4552, 4553, 4554, 4555, 4608, 4609, 4610, 4611, 4612, 4800, 4801, 4802, 4803]
def wsX1_reach : List Cond := cw 1796 :: wI qawK
theorem qiw : ∀ i ∈ qawK, cw i ∈ wsX1_reach := fun i h => List.mem_cons_of_mem _ (List.mem_map_of_mem h)
theorem q5j : okM 1796 qawK = true := qaq (by decide +kernel)
def qawL : List Nat := [148, 149, 651, 1092, 1093, 1094, 1792, 4544, 4545, 4546, 4547, 4548, 4549, 4550, 4551, 4552, 4553, 4554, 4555]
def wsX2_apart : List Cond := cw 1792 :: wI qawL
theorem qJ4 : ∀ i ∈ qawL, cw i ∈ wsX2_apart := fun i h => List.mem_cons_of_mem _ (List.mem_map_of_mem h)
theorem qOs : okM 1792 qawL = true := qaq (by decide +kernel)
def qXg : List Nat := [19, 64, 78, 148, 149, 200, 201, 202, 203, 208, 276, 322, 323, 324, 650, 651, 652, 1092, 1093, 1094, 1740, 1741, 1742, 1743, 1744, 1745, 1746, 1747, 1748, 1749, 1750, 1751, 1792, 1793, 1794, 1795, 1796, 1797, 1798, 1799, 1800, 1801, 1802, 1803, 1804, 1805, 1806, 1807, 1808, 1809, 1810, 1811, 1812, 1813, 1814, 1815, 1856, 1857, 1858, 1859, 1860, 1861, 1862, 1863, 1864, 1865, 1866, 1867, 1868, 1869, 1870, 1871, 1872, 1873, 1874, 1875, 1876, 1877, 1878, 1879, 1920, 1921, 1922, 1923, 1924, 1925, 1926, 1927, 1928, 1929, 1930, 1931, 1932, 1933, 1934, 4544, 4545, 4546, 4547, 4548, 4549, 4550, 4551, 4552, 4553, 4554, 4555, 4608, 4609, 4610, 4611, 4612, 4800, 4801, 4802, 4803]
def wsX1_couldLeap : List Cond := cw 1740 :: wI qXg
theorem qrP : ∀ i ∈ qXg, cw i ∈ wsX1_couldLeap := fun i h => List.mem_cons_of_mem _ (List.mem_map_of_mem h)
theorem qTw : okM 1740 qXg = true := qaq (by decide +kernel)
def qRk : List Nat := [19, 148, 149, 651, 720, 1092, 1093, 1094, 1750, 1751, 1792, 3028, 3029, 4544, 4545, 4546, 4547, 4548, 4549, 4550, 4551, 4552, 4553, 4554, 4555]
def wsX2_formsWithin : List Cond := cw 3028 :: wI qRk
theorem qE5 : ∀ i ∈ qRk, cw i ∈ wsX2_formsWithin := fun i h => List.mem_cons_of_mem _ (List.mem_map_of_mem h)
theorem qMF : okM 3028 qRk = true := qaq (by decide +kernel)
def q4g : List Nat := [19, 64, 78, 148, 149, 200, 201, 202, 203, 208, 276, 322, 323, 324, 650, 651, 652, 720, 1092, 1093, 1094, 1741, 1742, 1743, 1744, 1745, 1746, 1747, 1748, 1750, 1751, 1792, 1793, 1794, 1795, 1796, 1797, 1798, 1799, 1800, 1801, 1802, 1803, 1804, 1805, 1806, 1807, 1808, 1809, 1810, 1811, 1812, 1813, 1814, 1815, 1856, 1857, 1858, 1859, 1860, 1861, 1862, 1863, 1864, 1865, 1866, 1867, 1868, 1869, 1870, 1871, 1872, 1873, 1874, 1875, 1876, 1877, 1878, 1879, 1920, 1921, 1922, 1923, 1924, 1925, 1926, 1927, 1928, 1929, 1930, 1931, 1932, 1933, 1934, 3026, 3027, 3028, 3029, 3136, 4544, 4545, 4546, 4547, 4548, 4549, 4550, 4551, 4552, 4553, 4554, 4555, 4608, 4609, 4610, 4611, 4612, 4800, 4801, 4802, 4803]
def wsX1_leapable : List Cond := cw 3136 :: wI q4g
theorem qqO : ∀ i ∈ q4g, cw i ∈ wsX1_leapable := fun i h => List.mem_cons_of_mem _ (List.mem_map_of_mem h)
theorem qaf1 : okM 3136 q4g = true := qaq (by decide +kernel)
def qaOt : List Nat := [276, 1998, 4800, 4801, 4802, 4803]
def wsX1_stir : List Cond := cw 1998 :: wI qaOt
theorem qaTj : ∀ i ∈ qaOt, cw i ∈ wsX1_stir := fun i h => List.mem_cons_of_mem _ (List.mem_map_of_mem h)
theorem qaTM : okM 1998 qaOt = true := qaq (by decide +kernel)
def qakw : List Nat := [78, 276, 1994, 1995, 1996, 1997, 1998, 4800, 4801, 4802, 4803]
def wsX1_leapTo : List Cond := cw 1994 :: wI qakw
theorem qXJ : ∀ i ∈ qakw, cw i ∈ wsX1_leapTo := fun i h => List.mem_cons_of_mem _ (List.mem_map_of_mem h)
theorem qaEg : okM 1994 qakw = true := qaq (by decide +kernel)
def qUs : List Nat := [78, 276, 1741, 1742, 1743, 1744, 1745, 1746, 1747, 1748, 1938, 4800, 4801, 4802, 4803]
def wsX1_couldFight : List Cond := cw 1938 :: wI qUs
theorem qI6 : ∀ i ∈ qUs, cw i ∈ wsX1_couldFight := fun i h => List.mem_cons_of_mem _ (List.mem_map_of_mem h)
theorem q4d : okM 1938 qUs = true := qaq (by decide +kernel)
def qaBI : List Nat := [78, 276, 651, 1808, 1809, 1810, 1811, 1930, 1931, 1995, 1996, 1997, 1998, 2002, 2003, 4800, 4801, 4802, 4803]
def wsX1_fight : List Cond := cw 2002 :: wI qaBI
theorem qAF : ∀ i ∈ qaBI, cw i ∈ wsX1_fight := fun i h => List.mem_cons_of_mem _ (List.mem_map_of_mem h)
theorem qaMm : okM 2002 qaBI = true := qaq (by decide +kernel)
def q25 : List Nat := [78, 276, 1741, 1742, 1743, 1744, 1860, 1861, 1862, 1863, 1942, 4800, 4801, 4802, 4803]
def wsX1_couldPay : List Cond := cw 1942 :: wI q25
theorem qNU : ∀ i ∈ q25, cw i ∈ wsX1_couldPay := fun i h => List.mem_cons_of_mem _ (List.mem_map_of_mem h)
theorem qaPK : okM 1942 q25 = true := qaq (by decide +kernel)
def qaaw : List Nat := [276, 2007, 4800, 4801, 4802, 4803]
def wsX1_payBack : List Cond := cw 2007 :: wI qaaw
theorem qaoE : ∀ i ∈ qaaw, cw i ∈ wsX1_payBack := fun i h => List.mem_cons_of_mem _ (List.mem_map_of_mem h)
theorem qaWm : okM 2007 qaaw = true := qaq (by decide +kernel)
def qaLU : List Nat := [2053]
def wsX10_holds : List Cond := cw 2053 :: wI qaLU
theorem qq0 : okM 2053 qaLU = true := qaq (by decide +kernel)
def qalj : List Nat := [2, 1047, 2052, 2053, 2065, 4544, 4545, 4546, 4547, 4548, 4549, 4550, 4551, 4552, 4553, 4554, 4555]
def wsX2_isSafe : List Cond := cw 2065 :: wI qalj
theorem qPk : ∀ i ∈ qalj, cw i ∈ wsX2_isSafe := fun i h => List.mem_cons_of_mem _ (List.mem_map_of_mem h)
theorem q9Q : okM 2065 qalj = true := qaq (by decide +kernel)
def qS2 : List Nat := [2, 19, 78, 276, 322, 324, 1047, 1741, 1742, 1743, 1744, 1745, 1746, 1747, 1748, 1812, 1813, 1814, 1815, 2052, 2053, 2061, 2062, 2063, 2064, 2065, 4544, 4545, 4546, 4547, 4548, 4549, 4550, 4551, 4552, 4553, 4554, 4555, 4800, 4801, 4802, 4803]
def wsX1_endangered : List Cond := cw 2061 :: wI qS2
theorem qn2 : ∀ i ∈ qS2, cw i ∈ wsX1_endangered := fun i h => List.mem_cons_of_mem _ (List.mem_map_of_mem h)
theorem q3Y : okM 2061 qS2 = true := qaq (by decide +kernel)
def qXK : List Nat := [276, 322, 324, 2069, 4544, 4545, 4546, 4547, 4548, 4549, 4550, 4551, 4552, 4553, 4554, 4555, 4800, 4801, 4802, 4803]
def wsX1_dropDebts : List Cond := cw 2069 :: wI qXK
theorem qDN : ∀ i ∈ qXK, cw i ∈ wsX1_dropDebts := fun i h => List.mem_cons_of_mem _ (List.mem_map_of_mem h)
theorem qaEV : okM 2069 qXK = true := qaq (by decide +kernel)
def qai3 : List Nat := [2, 19, 78, 276, 322, 324, 326, 1047, 1741, 1742, 1743, 1744, 1745, 1746, 1747, 1748, 1812, 1813, 1814, 1815, 2052, 2053, 2057, 2058, 2059, 2060, 2061, 2062, 2063, 2064, 2065, 2066, 2067, 2068, 2069, 4544, 4545, 4546, 4547, 4548, 4549, 4550, 4551, 4552, 4553, 4554, 4555, 4800, 4801, 4802, 4803]
def wsX1_strike : List Cond := cw 2057 :: wI qai3
theorem qtf : ∀ i ∈ qai3, cw i ∈ wsX1_strike := fun i h => List.mem_cons_of_mem _ (List.mem_map_of_mem h)
theorem qaXt : okM 2057 qai3 = true := qaq (by decide +kernel)
def qacw : List Nat := [2, 19, 78, 276, 322, 324, 326, 1047, 1741, 1742, 1743, 1744, 1745, 1746, 1747, 1748, 1812, 1813, 1814, 1815, 2051, 2052, 2053, 2054, 2055, 2056, 2057, 2058, 2059, 2060, 2061, 2062, 2063, 2064, 2065, 2066, 2067, 2068, 2069, 4544, 4545, 4546, 4547, 4548, 4549, 4550, 4551, 4552, 4553, 4554, 4555, 4800, 4801, 4802, 4803]
def wsX1_passDay : List Cond := cw 2051 :: wI qacw
theorem qvs : ∀ i ∈ qacw, cw i ∈ wsX1_passDay := fun i h => List.mem_cons_of_mem _ (List.mem_map_of_mem h)
theorem q1r : okM 2051 qacw = true := qaq (by decide +kernel)
def q09 : List Nat := [4044, 4045]
def wsX1_nextSeed : List Cond := cw 4044 :: wI q09
theorem qaNy : ∀ i ∈ q09, cw i ∈ wsX1_nextSeed := fun i h => List.mem_cons_of_mem _ (List.mem_map_of_mem h)
theorem qaO6 : okM 4044 q09 = true := qaq (by decide +kernel)
def qahx : List Nat := [4048]
def wsX1_drawnBits : List Cond := cw 4048 :: wI qahx
theorem qaKW : okM 4048 qahx = true := qaq (by decide +kernel)
def qKh : List Nat := [19, 64, 78, 148, 149, 200, 201, 202, 203, 208, 276, 322, 323, 324, 650, 651, 652, 1092, 1093, 1094, 1738, 1739, 1740, 1741, 1742, 1743, 1744, 1745, 1746, 1747, 1748, 1749, 1750, 1751, 1792, 1793, 1794, 1795, 1796, 1797, 1798, 1799, 1800, 1801, 1802, 1803, 1804, 1805, 1806, 1807, 1808, 1809, 1810, 1811, 1812, 1813, 1814, 1815, 1856, 1857, 1858, 1859, 1860, 1861, 1862, 1863, 1864, 1865, 1866, 1867, 1868, 1869, 1870, 1871, 1872, 1873, 1874, 1875, 1876, 1877, 1878, 1879, 1920, 1921, 1922, 1923, 1924, 1925, 1926, 1927, 1928, 1929, 1930, 1931, 1932, 1933, 1934, 1992, 1993, 1994, 1995, 1996, 1997, 1998, 4052, 4053, 4054, 4544, 4545, 4546, 4547, 4548, 4549, 4550, 4551, 4552, 4553, 4554, 4555, 4608, 4609, 4610, 4611, 4612, 4800, 4801, 4802, 4803]
def wsX1_leapIfAllowed : List Cond := cw 4052 :: wI qKh
theorem qBd : ∀ i ∈ qKh, cw i ∈ wsX1_leapIfAllowed := fun i h => List.mem_cons_of_mem _ (List.mem_map_of_mem h)
theorem qagL : okM 4052 qKh = true := qaq (by decide +kernel)
def qHS : List Nat := [78, 276, 651, 1741, 1742, 1743, 1744, 1745, 1746, 1747, 1748, 1808, 1809, 1810, 1811, 1930, 1931, 1936, 1937, 1938, 1995, 1996, 1997, 1998, 2000, 2001, 2002, 2003, 4098, 4099, 4100, 4800, 4801, 4802, 4803]
def wsX1_fightIfAllowed : List Cond := cw 4098 :: wI qHS
theorem qzy : ∀ i ∈ qHS, cw i ∈ wsX1_fightIfAllowed := fun i h => List.mem_cons_of_mem _ (List.mem_map_of_mem h)
theorem qabk : okM 4098 qHS = true := qaq (by decide +kernel)
def q4c : List Nat := [2, 19, 64, 78, 148, 149, 200, 201, 202, 203, 208, 276, 322, 323, 324, 326, 650, 651, 652, 1047, 1092, 1093, 1094, 1738, 1739, 1740, 1741, 1742, 1743, 1744, 1745, 1746, 1747, 1748, 1749, 1750, 1751, 1792, 1793, 1794, 1795, 1796, 1797, 1798, 1799, 1800, 1801, 1802, 1803, 1804, 1805, 1806, 1807, 1808, 1809, 1810, 1811, 1812, 1813, 1814, 1815, 1856, 1857, 1858, 1859, 1860, 1861, 1862, 1863, 1864, 1865, 1866, 1867, 1868, 1869, 1870, 1871, 1872, 1873, 1874, 1875, 1876, 1877, 1878, 1879, 1920, 1921, 1922, 1923, 1924, 1925, 1926, 1927, 1928, 1929, 1930, 1931, 1932, 1933, 1934, 1936, 1937, 1938, 1992, 1993, 1994, 1995, 1996, 1997, 1998, 2000, 2001, 2002, 2003, 2049, 2050, 2051, 2052, 2053, 2054, 2055, 2056, 2057, 2058, 2059, 2060, 2061, 2062, 2063, 2064, 2065, 2066, 2067, 2068, 2069, 4040, 4041, 4042, 4043, 4044, 4045, 4046, 4047, 4048, 4049, 4050, 4051, 4052, 4053, 4054, 4055, 4096, 4097, 4098, 4099, 4100, 4101, 4544, 4545, 4546, 4547, 4548, 4549, 4550, 4551, 4552, 4553, 4554, 4555, 4608, 4609, 4610, 4611, 4612, 4800, 4801, 4802, 4803]
def wsX1_drawDays : List Cond := cw 4040 :: wI q4c
theorem qnE : ∀ i ∈ q4c, cw i ∈ wsX1_drawDays := fun i h => List.mem_cons_of_mem _ (List.mem_map_of_mem h)
theorem qahJ : okM 4040 q4c = true := qaq (by decide +kernel)
def qaam : List Nat := [277, 322, 324, 650, 651, 652, 3852, 3856, 4544, 4545, 4546, 4547, 4548, 4549, 4550, 4551, 4552, 4553, 4554, 4555, 4800, 4801, 4802, 4803]
def wsX1_givenBy : List Cond := cw 3856 :: wI qaam
theorem qxo : ∀ i ∈ qaam, cw i ∈ wsX1_givenBy := fun i h => List.mem_cons_of_mem _ (List.mem_map_of_mem h)
theorem qaTD : okM 3856 qaam = true := qaq (by decide +kernel)
def qYu : List Nat := [2, 78, 276, 277, 322, 324, 650, 651, 652, 1860, 1861, 1862, 1863, 1864, 1865, 1866, 1867, 2052, 2053, 3851, 3852, 3853, 3854, 3855, 3856, 4544, 4545, 4546, 4547, 4548, 4549, 4550, 4551, 4552, 4553, 4554, 4555, 4800, 4801, 4802, 4803]
def wsX1_cloverFor : List Cond := cw 3851 :: wI qYu
theorem qky : ∀ i ∈ qYu, cw i ∈ wsX1_cloverFor := fun i h => List.mem_cons_of_mem _ (List.mem_map_of_mem h)
theorem qaE3 : okM 3851 qYu = true := qaq (by decide +kernel)
def qaO8 : List Nat := [11, 12, 145, 146, 147, 148, 149, 150, 151, 192, 193, 194, 195, 4544, 4545, 4546, 4547, 4548, 4549, 4550, 4551, 4552, 4553, 4554, 4555]
def wsX2_init : List Cond := cw 145 :: wI qaO8
theorem qyW : ∀ i ∈ qaO8, cw i ∈ wsX2_init := fun i h => List.mem_cons_of_mem _ (List.mem_map_of_mem h)
theorem qa87 : okM 145 qaO8 = true := qaq (by decide +kernel)
def qON : List Nat := [832, 833, 834]
def wsJ0_coder_7d493 : List Cond := cw 832 :: wI qON
theorem qYN : ∀ i ∈ qON, cw i ∈ wsJ0_coder_7d493 := fun i h => List.mem_cons_of_mem _ (List.mem_map_of_mem h)
theorem qapJ : okM 832 qON = true := qaq (by decide +kernel)
def qMl : List Nat := [786, 787, 788, 789, 790, 791, 832, 833, 834]
def wsJ0_length_8abf5 : List Cond := cw 787 :: wI qMl
theorem qJy : ∀ i ∈ qMl, cw i ∈ wsJ0_length_8abf5 := fun i h => List.mem_cons_of_mem _ (List.mem_map_of_mem h)
theorem qVu : okM 787 qMl = true := qaq (by decide +kernel)
def q1V : List Nat := [142, 712, 839, 4480, 4481, 4482, 4483, 4484, 4485, 4486]
def wsX8_isLetter : List Cond := cw 839 :: wI q1V
theorem qXs : ∀ i ∈ q1V, cw i ∈ wsX8_isLetter := fun i h => List.mem_cons_of_mem _ (List.mem_map_of_mem h)
theorem qaNC : okM 839 q1V = true := qaq (by decide +kernel)
def qIX : List Nat := [833, 834, 847]
def wsJ0_isLatin1_aae02 : List Cond := cw 847 :: wI qIX
theorem qQB : ∀ i ∈ qIX, cw i ∈ wsJ0_isLatin1_aae02 := fun i h => List.mem_cons_of_mem _ (List.mem_map_of_mem h)
theorem qaaD : okM 847 qIX = true := qaq (by decide +kernel)
def qNr : List Nat := [899]
def wsJ3_checkIndex_8e157 : List Cond := cw 899 :: wI qNr
theorem q1R : okM 899 qNr = true := qaq (by decide +kernel)
def qDp : List Nat := [854, 855, 896, 897, 898, 899]
def wsJ0_checkIndex_df160 : List Cond := cw 854 :: wI qDp
theorem qBw : ∀ i ∈ qDp, cw i ∈ wsJ0_checkIndex_df160 := fun i h => List.mem_cons_of_mem _ (List.mem_map_of_mem h)
theorem q4O : okM 854 qDp = true := qaq (by decide +kernel)
def qMx : List Nat := [786, 851, 852, 853, 854, 855, 896, 897, 898, 899]
def wsJ1_charAt_3b067 : List Cond := cw 851 :: wI qMx
theorem qVC : ∀ i ∈ qMx, cw i ∈ wsJ1_charAt_3b067 := fun i h => List.mem_cons_of_mem _ (List.mem_map_of_mem h)
theorem qal1 : okM 851 qMx = true := qaq (by decide +kernel)
def qL1 : List Nat := [786, 788, 833, 834, 843, 844, 845, 846, 847, 848, 849, 850, 851, 852, 853, 854, 855, 896, 897, 898, 899, 900, 901, 902, 903, 904, 905, 906, 907, 908, 909, 910, 911, 912, 913, 914, 915, 916]
def wsJ0_charAt_5068e : List Cond := cw 843 :: wI qL1
theorem qyP : ∀ i ∈ qL1, cw i ∈ wsJ0_charAt_5068e := fun i h => List.mem_cons_of_mem _ (List.mem_map_of_mem h)
theorem qV0 : okM 843 qL1 = true := qaq (by decide +kernel)
def qX8 : List Nat := [15, 142, 712, 713, 714, 715, 724, 725, 726, 771, 772, 773, 774, 782, 783, 784, 785, 786, 787, 788, 789, 790, 791, 832, 833, 834, 835, 836, 837, 838, 839, 840, 841, 842, 843, 844, 845, 846, 847, 848, 849, 850, 851, 852, 853, 854, 855, 896, 897, 898, 899, 900, 901, 902, 903, 904, 905, 906, 907, 908, 909, 910, 911, 912, 913, 914, 915, 916, 4480, 4481, 4482, 4483, 4484, 4485, 4486]
def wsX8_takesWord : List Cond := cw 782 :: wI qX8
theorem qld : ∀ i ∈ qX8, cw i ∈ wsX8_takesWord := fun i h => List.mem_cons_of_mem _ (List.mem_map_of_mem h)
theorem qKE : okM 782 qX8 = true := qaq (by decide +kernel)
def q1X : List Nat := [2, 15, 142, 143, 148, 149, 650, 651, 652, 658, 659, 711, 712, 713, 714, 715, 720, 724, 725, 726, 771, 772, 773, 774, 835, 960, 961, 962, 963, 964, 965, 966, 967, 968, 969, 970, 971, 972, 973, 974, 975, 976, 977, 978, 979, 980, 981, 982, 983, 1024, 1025, 1026, 1027, 1028, 1029, 4480, 4481, 4482, 4483, 4484, 4485, 4486, 4544, 4545, 4546, 4547, 4548, 4549, 4550, 4551, 4552, 4553, 4554, 4555]
def wsX2_readForm : List Cond := cw 960 :: wI q1X
theorem qtL : ∀ i ∈ q1X, cw i ∈ wsX2_readForm := fun i h => List.mem_cons_of_mem _ (List.mem_map_of_mem h)
theorem qaNY : okM 960 q1X = true := qaq (by decide +kernel)
def q3x : List Nat := [2, 15, 142, 143, 192, 193, 650, 651, 652, 658, 659, 711, 712, 713, 714, 715, 720, 721, 724, 725, 726, 771, 772, 773, 774, 835, 961, 962, 963, 964, 965, 966, 967, 968, 969, 970, 971, 972, 973, 974, 975, 976, 977, 978, 979, 980, 981, 982, 983, 1024, 1025, 1026, 1027, 1028, 1029, 1033, 4480, 4481, 4482, 4483, 4484, 4485, 4486, 4544, 4545, 4546, 4547, 4548, 4549, 4550, 4551, 4552, 4553, 4554, 4555]
def wsX2_readHare : List Cond := cw 1033 :: wI q3x
theorem qse : ∀ i ∈ q3x, cw i ∈ wsX2_readHare := fun i h => List.mem_cons_of_mem _ (List.mem_map_of_mem h)
theorem qaNX : okM 1033 q3x = true := qaq (by decide +kernel)
def qaaS : List Nat := [2, 15, 142, 143, 150, 151, 650, 651, 652, 658, 659, 711, 712, 713, 714, 715, 722, 724, 725, 726, 771, 772, 773, 774, 835, 961, 962, 963, 964, 965, 966, 967, 968, 969, 970, 971, 972, 973, 974, 975, 976, 977, 978, 979, 980, 981, 982, 983, 1024, 1025, 1026, 1027, 1028, 1029, 1037, 4480, 4481, 4482, 4483, 4484, 4485, 4486, 4544, 4545, 4546, 4547, 4548, 4549, 4550, 4551, 4552, 4553, 4554, 4555]
def wsX2_readFox : List Cond := cw 1037 :: wI qaaS
theorem qvd : ∀ i ∈ qaaS, cw i ∈ wsX2_readFox := fun i h => List.mem_cons_of_mem _ (List.mem_map_of_mem h)
theorem qaUd : okM 1037 qaaS = true := qaq (by decide +kernel)
def q1U : List Nat := [2, 15, 142, 143, 194, 650, 651, 652, 658, 659, 711, 712, 713, 714, 715, 721, 723, 724, 725, 726, 771, 772, 773, 774, 835, 961, 962, 963, 964, 965, 966, 967, 968, 969, 970, 971, 972, 973, 974, 975, 976, 977, 978, 979, 980, 981, 982, 983, 1024, 1025, 1026, 1027, 1028, 1029, 1041, 4480, 4481, 4482, 4483, 4484, 4485, 4486, 4544, 4545, 4546, 4547, 4548, 4549, 4550, 4551, 4552, 4553, 4554, 4555]
def wsX2_readDebt : List Cond := cw 1041 :: wI q1U
theorem qr8 : ∀ i ∈ q1U, cw i ∈ wsX2_readDebt := fun i h => List.mem_cons_of_mem _ (List.mem_map_of_mem h)
theorem qaNF : okM 1041 q1U = true := qaq (by decide +kernel)
def qTB : List Nat := [2, 15, 19, 142, 143, 148, 149, 150, 151, 192, 193, 194, 650, 651, 652, 658, 659, 711, 712, 713, 714, 715, 720, 721, 722, 723, 724, 725, 726, 771, 772, 773, 774, 778, 779, 780, 781, 782, 783, 784, 785, 786, 787, 788, 789, 790, 791, 832, 833, 834, 835, 836, 837, 838, 839, 840, 841, 842, 843, 844, 845, 846, 847, 848, 849, 850, 851, 852, 853, 854, 855, 896, 897, 898, 899, 900, 901, 902, 903, 904, 905, 906, 907, 908, 909, 910, 911, 912, 913, 914, 915, 916, 917, 918, 919, 960, 961, 962, 963, 964, 965, 966, 967, 968, 969, 970, 971, 972, 973, 974, 975, 976, 977, 978, 979, 980, 981, 982, 983, 1024, 1025, 1026, 1027, 1028, 1029, 1030, 1031, 1032, 1033, 1034, 1035, 1036, 1037, 1038, 1039, 1040, 1041, 1042, 4480, 4481, 4482, 4483, 4484, 4485, 4486, 4544, 4545, 4546, 4547, 4548, 4549, 4550, 4551, 4552, 4553, 4554, 4555]
def wsX2_readClause : List Cond := cw 778 :: wI qTB
theorem qnS : ∀ i ∈ qTB, cw i ∈ wsX2_readClause := fun i h => List.mem_cons_of_mem _ (List.mem_map_of_mem h)
theorem qavJ : okM 778 qTB = true := qaq (by decide +kernel)
def qYw : List Nat := [148, 149, 150, 151, 651, 722, 1091, 1092, 1093, 1094, 4544, 4545, 4546, 4547, 4548, 4549, 4550, 4551, 4552, 4553, 4554, 4555]
def wsX2_foxIsNear : List Cond := cw 1091 :: wI qYw
theorem qrL : ∀ i ∈ qYw, cw i ∈ wsX2_foxIsNear := fun i h => List.mem_cons_of_mem _ (List.mem_map_of_mem h)
theorem qaJZ : okM 1091 qYw = true := qaq (by decide +kernel)
def q3g : List Nat := [19, 148, 149, 150, 151, 651, 720, 722, 1046, 1047, 1088, 1089, 1090, 1091, 1092, 1093, 1094, 4544, 4545, 4546, 4547, 4548, 4549, 4550, 4551, 4552, 4553, 4554, 4555]
def wsX2_findSafe : List Cond := cw 1046 :: wI q3g
theorem qIa : ∀ i ∈ q3g, cw i ∈ wsX2_findSafe := fun i h => List.mem_cons_of_mem _ (List.mem_map_of_mem h)
theorem qaNJ : okM 1046 q3g = true := qaq (by decide +kernel)
def q3T : List Nat := [2, 15, 19, 142, 143, 148, 149, 150, 151, 192, 193, 194, 650, 651, 652, 658, 659, 711, 712, 713, 714, 715, 719, 720, 721, 722, 723, 724, 725, 726, 727, 768, 769, 770, 771, 772, 773, 774, 775, 776, 777, 778, 779, 780, 781, 782, 783, 784, 785, 786, 787, 788, 789, 790, 791, 832, 833, 834, 835, 836, 837, 838, 839, 840, 841, 842, 843, 844, 845, 846, 847, 848, 849, 850, 851, 852, 853, 854, 855, 896, 897, 898, 899, 900, 901, 902, 903, 904, 905, 906, 907, 908, 909, 910, 911, 912, 913, 914, 915, 916, 917, 918, 919, 960, 961, 962, 963, 964, 965, 966, 967, 968, 969, 970, 971, 972, 973, 974, 975, 976, 977, 978, 979, 980, 981, 982, 983, 1024, 1025, 1026, 1027, 1028, 1029, 1030, 1031, 1032, 1033, 1034, 1035, 1036, 1037, 1038, 1039, 1040, 1041, 1042, 1043, 1044, 1045, 1046, 1047, 1088, 1089, 1090, 1091, 1092, 1093, 1094, 4480, 4481, 4482, 4483, 4484, 4485, 4486, 4544, 4545, 4546, 4547, 4548, 4549, 4550, 4551, 4552, 4553, 4554, 4555]
def wsX2_readFrom : List Cond := cw 719 :: wI q3T
theorem qpG : ∀ i ∈ q3T, cw i ∈ wsX2_readFrom := fun i h => List.mem_cons_of_mem _ (List.mem_map_of_mem h)
theorem qaRJ : okM 719 q3T = true := qaq (by decide +kernel)
def qRd : List Nat := [2, 19, 148, 149, 651, 720, 1092, 1093, 1094, 1750, 1751, 1792, 2052, 2053, 3024, 3025, 3026, 3027, 3028, 3029, 4544, 4545, 4546, 4547, 4548, 4549, 4550, 4551, 4552, 4553, 4554, 4555]
def wsX2_hopsBetween : List Cond := cw 3024 :: wI qRd
theorem quB : ∀ i ∈ qRd, cw i ∈ wsX2_hopsBetween := fun i h => List.mem_cons_of_mem _ (List.mem_map_of_mem h)
theorem qauB : okM 3024 qRd = true := qaq (by decide +kernel)
def q2t : List Nat := [2, 195, 720, 2052, 2053, 3718, 4544, 4545, 4546, 4547, 4548, 4549, 4550, 4551, 4552, 4553, 4554, 4555]
def wsX2_seenFrom : List Cond := cw 3718 :: wI q2t
theorem qCE : ∀ i ∈ q2t, cw i ∈ wsX2_seenFrom := fun i h => List.mem_cons_of_mem _ (List.mem_map_of_mem h)
theorem qaNu : okM 3718 q2t = true := qaq (by decide +kernel)
def q1z : List Nat := [2, 19, 148, 149, 195, 651, 720, 1092, 1093, 1094, 1750, 1751, 1792, 1802, 1803, 1804, 1805, 1806, 1807, 2052, 2053, 3025, 3026, 3027, 3028, 3029, 3713, 3714, 3715, 3716, 3717, 3718, 4544, 4545, 4546, 4547, 4548, 4549, 4550, 4551, 4552, 4553, 4554, 4555]
def wsX2_watchers : List Cond := cw 3713 :: wI q1z
theorem qu9 : ∀ i ∈ q1z, cw i ∈ wsX2_watchers := fun i h => List.mem_cons_of_mem _ (List.mem_map_of_mem h)
theorem qaRd : okM 3713 q1z = true := qaq (by decide +kernel)
def qaNT : List Nat := [11, 12, 147, 388, 389, 390, 391, 392, 393, 5056, 5057, 5058, 5059, 5060, 5061, 5062, 5063, 5064, 5065, 5066]
def wsX3_init : List Cond := cw 388 :: wI qaNT
theorem qGX : ∀ i ∈ qaNT, cw i ∈ wsX3_init := fun i h => List.mem_cons_of_mem _ (List.mem_map_of_mem h)
theorem qa3C : okM 388 qaNT = true := qaq (by decide +kernel)
def qTy : List Nat := [390, 391, 3533, 5056, 5057, 5058, 5059, 5060, 5061, 5062, 5063, 5064, 5065, 5066]
def wsX3_seatedThen : List Cond := cw 3533 :: wI qTy
theorem qP9 : ∀ i ∈ qTy, cw i ∈ wsX3_seatedThen := fun i h => List.mem_cons_of_mem _ (List.mem_map_of_mem h)
theorem q2z : okM 3533 qTy = true := qaq (by decide +kernel)
def q2G : List Nat := [69, 136, 257, 390, 391, 3474, 3475, 3529, 3530, 3531, 3532, 3533, 3534, 3535, 3536, 3537, 4672, 4673, 5056, 5057, 5058, 5059, 5060, 5061, 5062, 5063, 5064, 5065, 5066]
def wsX3_allRight : List Cond := cw 3529 :: wI q2G
theorem qzM : ∀ i ∈ q2G, cw i ∈ wsX3_allRight := fun i h => List.mem_cons_of_mem _ (List.mem_map_of_mem h)
theorem qaP7 : okM 3529 q2G = true := qaq (by decide +kernel)
def q3O : List Nat := [69, 136, 257, 390, 391, 3474, 3475, 3476, 3477, 3525, 3526, 3527, 3528, 3529, 3530, 3531, 3532, 3533, 3534, 3535, 3536, 3537, 4672, 4673, 5056, 5057, 5058, 5059, 5060, 5061, 5062, 5063, 5064, 5065, 5066]
def wsX3_formsFor : List Cond := cw 3525 :: wI q3O
theorem qC8 : ∀ i ∈ q3O, cw i ∈ wsX3_formsFor := fun i h => List.mem_cons_of_mem _ (List.mem_map_of_mem h)
theorem qaPs : okM 3525 q3O = true := qaq (by decide +kernel)
def qakc : List Nat := [69, 78, 136, 257, 276, 322, 324, 390, 391, 392, 1741, 1742, 1743, 1744, 1745, 1746, 1747, 1748, 1798, 1799, 1800, 1802, 1803, 1804, 1805, 1806, 1807, 3469, 3470, 3471, 3472, 3473, 3474, 3475, 3476, 3477, 3478, 3479, 3520, 3521, 3522, 3523, 3524, 3525, 3526, 3527, 3528, 3529, 3530, 3531, 3532, 3533, 3534, 3535, 3536, 3537, 4544, 4545, 4546, 4547, 4548, 4549, 4550, 4551, 4552, 4553, 4554, 4555, 4672, 4673, 4800, 4801, 4802, 4803, 5056, 5057, 5058, 5059, 5060, 5061, 5062, 5063, 5064, 5065, 5066]
def wsX3_settle : List Cond := cw 3469 :: wI qakc
theorem qh2 : ∀ i ∈ qakc, cw i ∈ wsX3_settle := fun i h => List.mem_cons_of_mem _ (List.mem_map_of_mem h)
theorem qayz : okM 3469 qakc = true := qaq (by decide +kernel)
def qaaq : List Nat := [2, 393, 658, 659, 3654, 5056, 5057, 5058, 5059, 5060, 5061, 5062, 5063, 5064, 5065, 5066]
def wsX3_tallied : List Cond := cw 3654 :: wI qaaq
theorem qLh : ∀ i ∈ qaaq, cw i ∈ wsX3_tallied := fun i h => List.mem_cons_of_mem _ (List.mem_map_of_mem h)
theorem qaVk : okM 3654 qaaq = true := qaq (by decide +kernel)
def q8x : List Nat := [2, 136, 390, 391, 392, 393, 651, 658, 659, 1930, 1931, 2052, 2053, 3472, 3474, 3530, 3531, 3532, 3533, 3649, 3650, 3651, 3652, 3653, 3654, 5056, 5057, 5058, 5059, 5060, 5061, 5062, 5063, 5064, 5065, 5066]
def wsX3_worstAt : List Cond := cw 3649 :: wI q8x
theorem qoz : ∀ i ∈ q8x, cw i ∈ wsX3_worstAt := fun i h => List.mem_cons_of_mem _ (List.mem_map_of_mem h)
theorem qaUv : okM 3649 q8x = true := qaq (by decide +kernel)
def qWn : List Nat := [2, 69, 136, 257, 390, 391, 392, 393, 651, 658, 659, 1930, 1931, 2052, 2053, 2439, 2440, 2441, 3472, 3474, 3475, 3530, 3531, 3532, 3533, 3602, 3603, 3604, 3605, 3606, 3607, 3648, 3649, 3650, 3651, 3652, 3653, 3654, 4672, 4673, 5056, 5057, 5058, 5059, 5060, 5061, 5062, 5063, 5064, 5065, 5066]
def wsX3_lookAhead : List Cond := cw 3602 :: wI qWn
theorem qtK : ∀ i ∈ qWn, cw i ∈ wsX3_lookAhead := fun i h => List.mem_cons_of_mem _ (List.mem_map_of_mem h)
theorem qaGx : okM 3602 qWn = true := qaq (by decide +kernel)
def qaZi : List Nat := [200, 201, 208, 212, 4608, 4609, 4610, 4611, 4612]
def wsX4_add : List Cond := cw 212 :: wI qaZi
theorem qavl : ∀ i ∈ qaZi, cw i ∈ wsX4_add := fun i h => List.mem_cons_of_mem _ (List.mem_map_of_mem h)
theorem q5s : okM 212 qaZi = true := qaq (by decide +kernel)
def q4h : List Nat := [64, 200, 201, 207, 208, 209, 210, 211, 212, 4608, 4609, 4610, 4611, 4612]
def wsX4_setPlain : List Cond := cw 207 :: wI q4h
theorem qOf : ∀ i ∈ q4h, cw i ∈ wsX4_setPlain := fun i h => List.mem_cons_of_mem _ (List.mem_map_of_mem h)
theorem qadC : okM 207 q4h = true := qaq (by decide +kernel)
def qaMU : List Nat := [11, 12, 64, 147, 198, 199, 200, 201, 202, 203, 204, 205, 206, 207, 208, 209, 210, 211, 212, 4608, 4609, 4610, 4611, 4612]
def wsX4_init : List Cond := cw 198 :: wI qaMU
theorem qCd : ∀ i ∈ qaMU, cw i ∈ wsX4_init := fun i h => List.mem_cons_of_mem _ (List.mem_map_of_mem h)
theorem qa9c : okM 198 qaMU = true := qaq (by decide +kernel)
def qXV : List Nat := [15, 142, 712, 713, 771, 772, 773, 774, 974, 975, 976, 977, 1414, 4480, 4481, 4482, 4483, 4484, 4485, 4486]
def wsX8_seesDigit : List Cond := cw 1414 :: wI qXV
theorem qAG : ∀ i ∈ qXV, cw i ∈ wsX8_seesDigit := fun i h => List.mem_cons_of_mem _ (List.mem_map_of_mem h)
theorem qaEY : okM 1414 qXV = true := qaq (by decide +kernel)
def q3P : List Nat := [15, 64, 142, 143, 200, 201, 208, 209, 210, 211, 212, 712, 713, 714, 715, 724, 725, 726, 771, 772, 773, 774, 780, 781, 782, 783, 784, 785, 786, 787, 788, 789, 790, 791, 832, 833, 834, 835, 836, 837, 838, 839, 840, 841, 842, 843, 844, 845, 846, 847, 848, 849, 850, 851, 852, 853, 854, 855, 896, 897, 898, 899, 900, 901, 902, 903, 904, 905, 906, 907, 908, 909, 910, 911, 912, 913, 914, 915, 916, 965, 966, 967, 968, 1027, 1028, 1029, 1419, 1426, 1427, 4480, 4481, 4482, 4483, 4484, 4485, 4486, 4608, 4609, 4610, 4611, 4612]
def wsX4_readFact : List Cond := cw 1426 :: wI q3P
theorem qCD : ∀ i ∈ q3P, cw i ∈ wsX4_readFact := fun i h => List.mem_cons_of_mem _ (List.mem_map_of_mem h)
theorem qaOa : okM 1426 q3P = true := qaq (by decide +kernel)
def qYt : List Nat := [2, 15, 64, 142, 143, 200, 201, 208, 209, 210, 211, 212, 650, 651, 652, 658, 659, 711, 712, 713, 714, 715, 724, 725, 726, 771, 772, 773, 774, 780, 781, 782, 783, 784, 785, 786, 787, 788, 789, 790, 791, 832, 833, 834, 835, 836, 837, 838, 839, 840, 841, 842, 843, 844, 845, 846, 847, 848, 849, 850, 851, 852, 853, 854, 855, 896, 897, 898, 899, 900, 901, 902, 903, 904, 905, 906, 907, 908, 909, 910, 911, 912, 913, 914, 915, 916, 962, 963, 964, 965, 966, 967, 968, 970, 971, 972, 973, 974, 975, 976, 977, 979, 980, 981, 982, 983, 1024, 1025, 1026, 1027, 1028, 1029, 1353, 1354, 1355, 1356, 1357, 1358, 1359, 1360, 1361, 1362, 1363, 1364, 1365, 1366, 1367, 1408, 1409, 1410, 1411, 1412, 1413, 1414, 1415, 1416, 1417, 1418, 1419, 1420, 1421, 1422, 1423, 1424, 1425, 1426, 1427, 4480, 4481, 4482, 4483, 4484, 4485, 4486, 4608, 4609, 4610, 4611, 4612]
def wsX4_readInner : List Cond := cw 1362 :: wI qYt
theorem qAq : ∀ i ∈ qYt, cw i ∈ wsX4_readInner := fun i h => List.mem_cons_of_mem _ (List.mem_map_of_mem h)
theorem qaJ7 : okM 1362 qYt = true := qaq (by decide +kernel)
def q2b : List Nat := [2, 15, 64, 142, 143, 200, 201, 208, 209, 210, 211, 212, 650, 651, 652, 658, 659, 711, 712, 713, 714, 715, 724, 725, 726, 771, 772, 773, 774, 780, 781, 782, 783, 784, 785, 786, 787, 788, 789, 790, 791, 832, 833, 834, 835, 836, 837, 838, 839, 840, 841, 842, 843, 844, 845, 846, 847, 848, 849, 850, 851, 852, 853, 854, 855, 896, 897, 898, 899, 900, 901, 902, 903, 904, 905, 906, 907, 908, 909, 910, 911, 912, 913, 914, 915, 916, 962, 963, 964, 965, 966, 967, 968, 970, 971, 972, 973, 974, 975, 976, 977, 979, 980, 981, 982, 983, 1024, 1025, 1026, 1027, 1028, 1029, 1353, 1354, 1355, 1356, 1357, 1358, 1359, 1360, 1361, 1362, 1363, 1364, 1365, 1366, 1367, 1408, 1409, 1410, 1411, 1412, 1413, 1414, 1415, 1416, 1417, 1418, 1419, 1420, 1421, 1422, 1423, 1424, 1425, 1426, 1427, 4480, 4481, 4482, 4483, 4484, 4485, 4486, 4608, 4609, 4610, 4611, 4612]
def wsX4_readPair : List Cond := cw 1365 :: wI q2b
theorem qwF : ∀ i ∈ q2b, cw i ∈ wsX4_readPair := fun i h => List.mem_cons_of_mem _ (List.mem_map_of_mem h)
theorem qaNA : okM 1365 q2b = true := qaq (by decide +kernel)
def qRa : List Nat := [2, 15, 64, 142, 143, 200, 201, 208, 209, 210, 211, 212, 650, 651, 652, 658, 659, 711, 712, 713, 714, 715, 724, 725, 726, 771, 772, 773, 774, 780, 781, 782, 783, 784, 785, 786, 787, 788, 789, 790, 791, 832, 833, 834, 835, 836, 837, 838, 839, 840, 841, 842, 843, 844, 845, 846, 847, 848, 849, 850, 851, 852, 853, 854, 855, 896, 897, 898, 899, 900, 901, 902, 903, 904, 905, 906, 907, 908, 909, 910, 911, 912, 913, 914, 915, 916, 962, 963, 964, 965, 966, 967, 968, 970, 971, 972, 973, 974, 975, 976, 977, 979, 980, 981, 982, 983, 1024, 1025, 1026, 1027, 1028, 1029, 1353, 1354, 1355, 1356, 1357, 1358, 1359, 1360, 1361, 1362, 1363, 1364, 1365, 1366, 1367, 1408, 1409, 1410, 1411, 1412, 1413, 1414, 1415, 1416, 1417, 1418, 1419, 1420, 1421, 1422, 1423, 1424, 1425, 1426, 1427, 4480, 4481, 4482, 4483, 4484, 4485, 4486, 4608, 4609, 4610, 4611, 4612]
def wsX4_readProduct : List Cond := cw 1366 :: wI qRa
theorem qsy : ∀ i ∈ qRa, cw i ∈ wsX4_readProduct := fun i h => List.mem_cons_of_mem _ (List.mem_map_of_mem h)
theorem qas0 : okM 1366 qRa = true := qaq (by decide +kernel)
def q8X : List Nat := [2, 15, 64, 142, 143, 200, 201, 208, 209, 210, 211, 212, 650, 651, 652, 658, 659, 711, 712, 713, 714, 715, 724, 725, 726, 771, 772, 773, 774, 780, 781, 782, 783, 784, 785, 786, 787, 788, 789, 790, 791, 832, 833, 834, 835, 836, 837, 838, 839, 840, 841, 842, 843, 844, 845, 846, 847, 848, 849, 850, 851, 852, 853, 854, 855, 896, 897, 898, 899, 900, 901, 902, 903, 904, 905, 906, 907, 908, 909, 910, 911, 912, 913, 914, 915, 916, 962, 963, 964, 965, 966, 967, 968, 970, 971, 972, 973, 974, 975, 976, 977, 979, 980, 981, 982, 983, 1024, 1025, 1026, 1027, 1028, 1029, 1353, 1354, 1355, 1356, 1357, 1358, 1359, 1360, 1361, 1362, 1363, 1364, 1365, 1366, 1367, 1408, 1409, 1410, 1411, 1412, 1413, 1414, 1415, 1416, 1417, 1418, 1419, 1420, 1421, 1422, 1423, 1424, 1425, 1426, 1427, 4480, 4481, 4482, 4483, 4484, 4485, 4486, 4608, 4609, 4610, 4611, 4612]
def wsX4_readSum : List Cond := cw 1356 :: wI q8X
theorem qy6 : ∀ i ∈ q8X, cw i ∈ wsX4_readSum := fun i h => List.mem_cons_of_mem _ (List.mem_map_of_mem h)
theorem q3Z : okM 1356 q8X = true := qaq (by decide +kernel)
def q2m : List Nat := [2, 15, 64, 142, 143, 200, 201, 208, 209, 210, 211, 212, 650, 651, 652, 658, 659, 711, 712, 713, 714, 715, 724, 725, 726, 771, 772, 773, 774, 780, 781, 782, 783, 784, 785, 786, 787, 788, 789, 790, 791, 832, 833, 834, 835, 836, 837, 838, 839, 840, 841, 842, 843, 844, 845, 846, 847, 848, 849, 850, 851, 852, 853, 854, 855, 896, 897, 898, 899, 900, 901, 902, 903, 904, 905, 906, 907, 908, 909, 910, 911, 912, 913, 914, 915, 916, 962, 963, 964, 965, 966, 967, 968, 970, 971, 972, 973, 974, 975, 976, 977, 979, 980, 981, 982, 983, 1024, 1025, 1026, 1027, 1028, 1029, 1353, 1354, 1355, 1356, 1357, 1358, 1359, 1360, 1361, 1362, 1363, 1364, 1365, 1366, 1367, 1408, 1409, 1410, 1411, 1412, 1413, 1414, 1415, 1416, 1417, 1418, 1419, 1420, 1421, 1422, 1423, 1424, 1425, 1426, 1427, 4480, 4481, 4482, 4483, 4484, 4485, 4486, 4608, 4609, 4610, 4611, 4612]
def wsX4_readUnit : List Cond := cw 1410 :: wI q2m
theorem qlw : ∀ i ∈ q2m, cw i ∈ wsX4_readUnit := fun i h => List.mem_cons_of_mem _ (List.mem_map_of_mem h)
theorem qaRx : okM 1410 q2m = true := qaq (by decide +kernel)
def q3d : List Nat := [15, 142, 143, 712, 713, 715, 768, 769, 770, 771, 772, 773, 774, 965, 966, 967, 968, 1026, 1027, 1028, 1029, 1431, 1472, 4480, 4481, 4482, 4483, 4484, 4485, 4486]
def wsX8_needsEnd : List Cond := cw 1431 :: wI q3d
theorem qN8 : ∀ i ∈ q3d, cw i ∈ wsX8_needsEnd := fun i h => List.mem_cons_of_mem _ (List.mem_map_of_mem h)
theorem qaQN : okM 1431 q3d = true := qaq (by decide +kernel)
def q2F : List Nat := [2, 15, 64, 142, 143, 200, 201, 208, 209, 210, 211, 212, 650, 651, 652, 658, 659, 711, 712, 713, 714, 715, 724, 725, 726, 768, 769, 770, 771, 772, 773, 774, 780, 781, 782, 783, 784, 785, 786, 787, 788, 789, 790, 791, 832, 833, 834, 835, 836, 837, 838, 839, 840, 841, 842, 843, 844, 845, 846, 847, 848, 849, 850, 851, 852, 853, 854, 855, 896, 897, 898, 899, 900, 901, 902, 903, 904, 905, 906, 907, 908, 909, 910, 911, 912, 913, 914, 915, 916, 962, 963, 964, 965, 966, 967, 968, 970, 971, 972, 973, 974, 975, 976, 977, 979, 980, 981, 982, 983, 1024, 1025, 1026, 1027, 1028, 1029, 1352, 1353, 1354, 1355, 1356, 1357, 1358, 1359, 1360, 1361, 1362, 1363, 1364, 1365, 1366, 1367, 1408, 1409, 1410, 1411, 1412, 1413, 1414, 1415, 1416, 1417, 1418, 1419, 1420, 1421, 1422, 1423, 1424, 1425, 1426, 1427, 1428, 1429, 1430, 1431, 1472, 4480, 4481, 4482, 4483, 4484, 4485, 4486, 4608, 4609, 4610, 4611, 4612]
def wsX4_readFrom : List Cond := cw 1352 :: wI q2F
theorem qCI : ∀ i ∈ q2F, cw i ∈ wsX4_readFrom := fun i h => List.mem_cons_of_mem _ (List.mem_map_of_mem h)
theorem qaSd : okM 1352 q2F = true := qaq (by decide +kernel)
def qaMO : List Nat := [11, 12, 147, 333, 334, 335, 4864, 4865]
def wsX5_init : List Cond := cw 333 :: wI qaMO
theorem qVa : ∀ i ∈ qaMO, cw i ∈ wsX5_init := fun i h => List.mem_cons_of_mem _ (List.mem_map_of_mem h)
theorem qa49 : okM 333 qaMO = true := qaq (by decide +kernel)
def qaOX : List Nat := [329, 330, 331, 335, 1675, 1676, 1677, 1678, 4800, 4801, 4802, 4803, 4864, 4865]
def wsX5_push : List Cond := cw 1675 :: wI qaOX
theorem qGN : ∀ i ∈ qaOX, cw i ∈ wsX5_push := fun i h => List.mem_cons_of_mem _ (List.mem_map_of_mem h)
theorem qaSU : okM 1675 qaOX = true := qaq (by decide +kernel)
def qaW5 : List Nat := [329, 330, 331, 335, 1676, 1677, 1678, 2504, 4800, 4801, 4802, 4803, 4864, 4865]
def wsX5_pop : List Cond := cw 2504 :: wI qaW5
theorem qOo : ∀ i ∈ qaW5, cw i ∈ wsX5_pop := fun i h => List.mem_cons_of_mem _ (List.mem_map_of_mem h)
theorem qa0P : okM 2504 qaW5 = true := qaq (by decide +kernel)
def q07 : List Nat := [329, 330, 331, 335, 1676, 1678, 4224, 4864, 4865]
def wsX5_copyFrom : List Cond := cw 4224 :: wI q07
theorem qzc : ∀ i ∈ q07, cw i ∈ wsX5_copyFrom := fun i h => List.mem_cons_of_mem _ (List.mem_map_of_mem h)
theorem qaf2 : okM 4224 q07 = true := qaq (by decide +kernel)
def qaQi : List Nat := [11, 12, 147, 337, 338, 339, 340, 4928, 4929, 4930]
def wsX6_init : List Cond := cw 337 :: wI qaQi
theorem qQn : ∀ i ∈ qaQi, cw i ∈ wsX6_init := fun i h => List.mem_cons_of_mem _ (List.mem_map_of_mem h)
theorem qa9X : okM 337 qaQi = true := qaq (by decide +kernel)
def qaa9 : List Nat := [19, 148, 149, 339, 651, 1092, 1093, 1094, 1750, 1751, 1792, 3280, 3284, 4544, 4545, 4546, 4547, 4548, 4549, 4550, 4551, 4552, 4553, 4554, 4555, 4928, 4929, 4930]
def wsX6_wayOver : List Cond := cw 3284 :: wI qaa9
theorem qRU : ∀ i ∈ qaa9, cw i ∈ wsX6_wayOver := fun i h => List.mem_cons_of_mem _ (List.mem_map_of_mem h)
theorem qaor : okM 3284 qaa9 = true := qaq (by decide +kernel)
def q4v : List Nat := [2, 19, 128, 148, 149, 339, 650, 651, 652, 1092, 1093, 1094, 1750, 1751, 1792, 2052, 2053, 3269, 3277, 3278, 3279, 3280, 3281, 3282, 3283, 3284, 4544, 4545, 4546, 4547, 4548, 4549, 4550, 4551, 4552, 4553, 4554, 4555, 4928, 4929, 4930]
def wsX6_leastWay : List Cond := cw 3277 :: wI q4v
theorem qoW : ∀ i ∈ q4v, cw i ∈ wsX6_leastWay := fun i h => List.mem_cons_of_mem _ (List.mem_map_of_mem h)
theorem qaef : okM 3277 q4v = true := qaq (by decide +kernel)
def qYk : List Nat := [2, 19, 128, 148, 149, 339, 650, 651, 652, 1092, 1093, 1094, 1750, 1751, 1792, 2052, 2053, 3269, 3273, 3274, 3275, 3276, 3277, 3278, 3279, 3280, 3281, 3282, 3283, 3284, 4544, 4545, 4546, 4547, 4548, 4549, 4550, 4551, 4552, 4553, 4554, 4555, 4928, 4929, 4930]
def wsX6_settleFor : List Cond := cw 3273 :: wI qYk
theorem qtz : ∀ i ∈ qYk, cw i ∈ wsX6_settleFor := fun i h => List.mem_cons_of_mem _ (List.mem_map_of_mem h)
theorem qaG0 : okM 3273 qYk = true := qaq (by decide +kernel)
def qX5 : List Nat := [2, 19, 128, 148, 149, 339, 651, 1092, 1093, 1094, 1750, 1751, 1792, 2052, 2053, 3269, 3280, 3281, 3282, 3283, 3284, 3332, 4544, 4545, 4546, 4547, 4548, 4549, 4550, 4551, 4552, 4553, 4554, 4555, 4928, 4929, 4930]
def wsX6_firstBest : List Cond := cw 3332 :: wI qX5
theorem qtG : ∀ i ∈ qX5, cw i ∈ wsX6_firstBest := fun i h => List.mem_cons_of_mem _ (List.mem_map_of_mem h)
theorem qaFS : okM 3332 qX5 = true := qaq (by decide +kernel)
def qaND : List Nat := [2, 19, 128, 148, 149, 339, 340, 651, 1092, 1093, 1094, 1750, 1751, 1792, 2052, 2053, 3269, 3280, 3281, 3282, 3283, 3284, 3328, 3329, 3330, 3331, 3332, 4544, 4545, 4546, 4547, 4548, 4549, 4550, 4551, 4552, 4553, 4554, 4555, 4928, 4929, 4930]
def wsX6_walk : List Cond := cw 3328 :: wI qaND
theorem qV6 : ∀ i ∈ qaND, cw i ∈ wsX6_walk := fun i h => List.mem_cons_of_mem _ (List.mem_map_of_mem h)
theorem qa5N : okM 3328 qaND = true := qaq (by decide +kernel)
def qann : List Nat := [2, 19, 128, 148, 149, 339, 340, 650, 651, 652, 1092, 1093, 1094, 1750, 1751, 1792, 2052, 2053, 3267, 3268, 3269, 3270, 3271, 3272, 3273, 3274, 3275, 3276, 3277, 3278, 3279, 3280, 3281, 3282, 3283, 3284, 3285, 3286, 3287, 3328, 3329, 3330, 3331, 3332, 4544, 4545, 4546, 4547, 4548, 4549, 4550, 4551, 4552, 4553, 4554, 4555, 4928, 4929, 4930]
def wsX6_settle : List Cond := cw 3267 :: wI qann
theorem qvV : ∀ i ∈ qann, cw i ∈ wsX6_settle := fun i h => List.mem_cons_of_mem _ (List.mem_map_of_mem h)
theorem qaxk : okM 3267 qann = true := qaq (by decide +kernel)
def qaNv : List Nat := [11, 12, 147, 342, 343, 384, 385, 386, 4992, 4993, 4994, 4995]
def wsX7_init : List Cond := cw 342 :: wI qaNv
theorem qLD : ∀ i ∈ qaNv, cw i ∈ wsX7_init := fun i h => List.mem_cons_of_mem _ (List.mem_map_of_mem h)
theorem qa7e : okM 342 qaNv = true := qaq (by decide +kernel)
def qXa : List Nat := [19, 64, 78, 148, 149, 200, 201, 202, 203, 208, 276, 322, 323, 324, 650, 651, 652, 720, 1092, 1093, 1094, 1741, 1742, 1743, 1744, 1745, 1746, 1747, 1748, 1750, 1751, 1792, 1793, 1794, 1795, 1796, 1797, 1798, 1799, 1800, 1801, 1802, 1803, 1804, 1805, 1806, 1807, 1808, 1809, 1810, 1811, 1812, 1813, 1814, 1815, 1856, 1857, 1858, 1859, 1860, 1861, 1862, 1863, 1864, 1865, 1866, 1867, 1868, 1869, 1870, 1871, 1872, 1873, 1874, 1875, 1876, 1877, 1878, 1879, 1920, 1921, 1922, 1923, 1924, 1925, 1926, 1927, 1928, 1929, 1930, 1931, 1932, 1933, 1934, 3026, 3027, 3028, 3029, 3083, 3090, 3091, 3092, 3093, 3094, 3095, 3136, 3137, 4544, 4545, 4546, 4547, 4548, 4549, 4550, 4551, 4552, 4553, 4554, 4555, 4608, 4609, 4610, 4611, 4612, 4800, 4801, 4802, 4803]
def wsX7_allowedTo : List Cond := cw 3090 :: wI qXa
theorem qrK : ∀ i ∈ qXa, cw i ∈ wsX7_allowedTo := fun i h => List.mem_cons_of_mem _ (List.mem_map_of_mem h)
theorem qaLd : okM 3090 qXa = true := qaq (by decide +kernel)
def qTx : List Nat := [384, 3146, 4992, 4993, 4994, 4995]
def wsX7_mostBehind : List Cond := cw 3146 :: wI qTx
theorem q01 : ∀ i ∈ qTx, cw i ∈ wsX7_mostBehind := fun i h => List.mem_cons_of_mem _ (List.mem_map_of_mem h)
theorem q0E : okM 3146 qTx = true := qaq (by decide +kernel)
def q3E : List Nat := [2, 132, 384, 385, 651, 1930, 1931, 2052, 2053, 3141, 3142, 3143, 3144, 3145, 3146, 4992, 4993, 4994, 4995]
def wsX7_mostFrom : List Cond := cw 3141 :: wI q3E
theorem qrT : ∀ i ∈ q3E, cw i ∈ wsX7_mostFrom := fun i h => List.mem_cons_of_mem _ (List.mem_map_of_mem h)
theorem qaPF : okM 3141 q3E = true := qaq (by decide +kernel)
def qXW : List Nat := [2, 132, 384, 385, 2052, 2053, 3143, 3144, 3145, 3146, 3154, 4992, 4993, 4994, 4995]
def wsX7_firstBest : List Cond := cw 3154 :: wI qXW
theorem qve : ∀ i ∈ qXW, cw i ∈ wsX7_firstBest := fun i h => List.mem_cons_of_mem _ (List.mem_map_of_mem h)
theorem qaKK : okM 3154 qXW = true := qaq (by decide +kernel)
def qaSE : List Nat := [2, 132, 384, 385, 386, 2052, 2053, 3143, 3144, 3145, 3146, 3150, 3151, 3152, 3153, 3154, 4992, 4993, 4994, 4995]
def wsX7_give : List Cond := cw 3150 :: wI qaSE
theorem qahZ : ∀ i ∈ qaSE, cw i ∈ wsX7_give := fun i h => List.mem_cons_of_mem _ (List.mem_map_of_mem h)
theorem qa7s : okM 3150 qaSE = true := qaq (by decide +kernel)
def qaiE : List Nat := [2, 19, 64, 78, 132, 148, 149, 200, 201, 202, 203, 208, 276, 322, 323, 324, 384, 385, 386, 650, 651, 652, 720, 1092, 1093, 1094, 1741, 1742, 1743, 1744, 1745, 1746, 1747, 1748, 1750, 1751, 1792, 1793, 1794, 1795, 1796, 1797, 1798, 1799, 1800, 1801, 1802, 1803, 1804, 1805, 1806, 1807, 1808, 1809, 1810, 1811, 1812, 1813, 1814, 1815, 1856, 1857, 1858, 1859, 1860, 1861, 1862, 1863, 1864, 1865, 1866, 1867, 1868, 1869, 1870, 1871, 1872, 1873, 1874, 1875, 1876, 1877, 1878, 1879, 1920, 1921, 1922, 1923, 1924, 1925, 1926, 1927, 1928, 1929, 1930, 1931, 1932, 1933, 1934, 2052, 2053, 3026, 3027, 3028, 3029, 3082, 3083, 3084, 3085, 3086, 3087, 3088, 3089, 3090, 3091, 3092, 3093, 3094, 3095, 3136, 3137, 3138, 3139, 3140, 3141, 3142, 3143, 3144, 3145, 3146, 3147, 3148, 3149, 3150, 3151, 3152, 3153, 3154, 4544, 4545, 4546, 4547, 4548, 4549, 4550, 4551, 4552, 4553, 4554, 4555, 4608, 4609, 4610, 4611, 4612, 4800, 4801, 4802, 4803, 4992, 4993, 4994, 4995]
def wsX7_settle : List Cond := cw 3082 :: wI qaiE
theorem qq8 : ∀ i ∈ qaiE, cw i ∈ wsX7_settle := fun i h => List.mem_cons_of_mem _ (List.mem_map_of_mem h)
theorem qaC7 : okM 3082 qaiE = true := qaq (by decide +kernel)
def qaRA : List Nat := [11, 12, 139, 140, 141, 142, 143, 4480, 4481, 4482, 4483, 4484, 4485, 4486]
def wsX8_init : List Cond := cw 139 :: wI qaRA
theorem qOS : ∀ i ∈ qaRA, cw i ∈ wsX8_init := fun i h => List.mem_cons_of_mem _ (List.mem_map_of_mem h)
theorem qa5a : okM 139 qaRA = true := qaq (by decide +kernel)
def qabo : List Nat := [579, 580, 4480, 4481, 4482, 4483, 4484, 4485, 4486]
def wsX8_hasRoom : List Cond := cw 579 :: wI qabo
theorem qan4 : ∀ i ∈ qabo, cw i ∈ wsX8_hasRoom := fun i h => List.mem_cons_of_mem _ (List.mem_map_of_mem h)
theorem qaU5 : okM 579 qabo = true := qaq (by decide +kernel)
def qaXs : List Nat := [142, 580, 584, 4480, 4481, 4482, 4483, 4484, 4485, 4486]
def wsX8_put : List Cond := cw 584 :: wI qaXs
theorem qaSl : ∀ i ∈ qaXs, cw i ∈ wsX8_put := fun i h => List.mem_cons_of_mem _ (List.mem_map_of_mem h)
theorem qbbQ : okM 584 qaXs = true := qaq (by decide +kernel)
def qaQA : List Nat := [143, 580, 650, 651, 652, 710, 711, 712, 713, 714, 715, 4480, 4481, 4482, 4483, 4484, 4485, 4486]
def wsX8_open : List Cond := cw 710 :: wI qaQA
theorem qCe : ∀ i ∈ qaQA, cw i ∈ wsX8_open := fun i h => List.mem_cons_of_mem _ (List.mem_map_of_mem h)
theorem qa7Y : okM 710 qaQA = true := qaq (by decide +kernel)
def qaSe : List Nat := [11, 12, 147, 264, 265, 266, 267, 268, 269, 270, 271, 4736, 4737, 4738, 4739, 4740, 4741, 4742, 4743, 4744, 4745, 4746, 4747]
def wsX9_init : List Cond := cw 264 :: wI qaSe
theorem qBF : ∀ i ∈ qaSe, cw i ∈ wsX9_init := fun i h => List.mem_cons_of_mem _ (List.mem_map_of_mem h)
theorem qa9Y : okM 264 qaSe = true := qaq (by decide +kernel)
def qaXp : List Nat := [266, 267, 268, 269, 1606, 1618, 4736, 4737, 4738, 4739, 4740, 4741, 4742, 4743, 4744, 4745, 4746, 4747]
def wsX9_add : List Cond := cw 1618 :: wI qaXp
theorem q5q : ∀ i ∈ qaXp, cw i ∈ wsX9_add := fun i h => List.mem_cons_of_mem _ (List.mem_map_of_mem h)
theorem qaRn : okM 1618 qaXp = true := qaq (by decide +kernel)
def qYd : List Nat := [74, 266, 267, 268, 269, 270, 1606, 1607, 1614, 1615, 1616, 1617, 1618, 4736, 4737, 4738, 4739, 4740, 4741, 4742, 4743, 4744, 4745, 4746, 4747]
def wsX9_closeLoop : List Cond := cw 1614 :: wI qYd
theorem qxM : ∀ i ∈ qYd, cw i ∈ wsX9_closeLoop := fun i h => List.mem_cons_of_mem _ (List.mem_map_of_mem h)
theorem qaKh : okM 1614 qYd = true := qaq (by decide +kernel)
def q0N : List Nat := [2, 15, 74, 142, 143, 266, 267, 268, 269, 270, 650, 651, 652, 658, 659, 711, 712, 713, 714, 715, 724, 725, 726, 771, 772, 773, 774, 835, 962, 963, 964, 965, 966, 967, 968, 970, 971, 972, 973, 974, 975, 976, 977, 979, 980, 981, 982, 983, 1024, 1025, 1026, 1027, 1028, 1029, 1606, 1607, 1615, 1616, 1617, 1618, 1619, 1668, 1669, 1670, 4480, 4481, 4482, 4483, 4484, 4485, 4486, 4736, 4737, 4738, 4739, 4740, 4741, 4742, 4743, 4744, 4745, 4746, 4747]
def wsX9_openLoop : List Cond := cw 1668 :: wI q0N
theorem qqR : ∀ i ∈ q0N, cw i ∈ wsX9_openLoop := fun i h => List.mem_cons_of_mem _ (List.mem_map_of_mem h)
theorem qaQM : okM 1668 q0N = true := qaq (by decide +kernel)
def q39 : List Nat := [2, 15, 74, 142, 143, 266, 267, 268, 269, 270, 650, 651, 652, 658, 659, 711, 712, 713, 714, 715, 724, 725, 726, 771, 772, 773, 774, 780, 781, 782, 783, 784, 785, 786, 787, 788, 789, 790, 791, 832, 833, 834, 835, 836, 837, 838, 839, 840, 841, 842, 843, 844, 845, 846, 847, 848, 849, 850, 851, 852, 853, 854, 855, 896, 897, 898, 899, 900, 901, 902, 903, 904, 905, 906, 907, 908, 909, 910, 911, 912, 913, 914, 915, 916, 962, 963, 964, 965, 966, 967, 968, 970, 971, 972, 973, 974, 975, 976, 977, 979, 980, 981, 982, 983, 1024, 1025, 1026, 1027, 1028, 1029, 1604, 1605, 1606, 1607, 1615, 1616, 1617, 1618, 1619, 1623, 1664, 1665, 1666, 1667, 1668, 1669, 1670, 1671, 4480, 4481, 4482, 4483, 4484, 4485, 4486, 4736, 4737, 4738, 4739, 4740, 4741, 4742, 4743, 4744, 4745, 4746, 4747]
def wsX9_readStep : List Cond := cw 1623 :: wI q39
theorem qnD : ∀ i ∈ q39, cw i ∈ wsX9_readStep := fun i h => List.mem_cons_of_mem _ (List.mem_map_of_mem h)
theorem qaSo : okM 1623 q39 = true := qaq (by decide +kernel)
def q4k : List Nat := [2, 15, 74, 142, 143, 266, 267, 268, 269, 270, 650, 651, 652, 658, 659, 711, 712, 713, 714, 715, 724, 725, 726, 768, 769, 770, 771, 772, 773, 774, 780, 781, 782, 783, 784, 785, 786, 787, 788, 789, 790, 791, 832, 833, 834, 835, 836, 837, 838, 839, 840, 841, 842, 843, 844, 845, 846, 847, 848, 849, 850, 851, 852, 853, 854, 855, 896, 897, 898, 899, 900, 901, 902, 903, 904, 905, 906, 907, 908, 909, 910, 911, 912, 913, 914, 915, 916, 962, 963, 964, 965, 966, 967, 968, 970, 971, 972, 973, 974, 975, 976, 977, 979, 980, 981, 982, 983, 1024, 1025, 1026, 1027, 1028, 1029, 1603, 1604, 1605, 1606, 1607, 1608, 1609, 1610, 1611, 1612, 1613, 1614, 1615, 1616, 1617, 1618, 1619, 1620, 1621, 1622, 1623, 1664, 1665, 1666, 1667, 1668, 1669, 1670, 1671, 4480, 4481, 4482, 4483, 4484, 4485, 4486, 4736, 4737, 4738, 4739, 4740, 4741, 4742, 4743, 4744, 4745, 4746, 4747]
def wsX9_readFrom : List Cond := cw 1603 :: wI q4k
theorem qk2 : ∀ i ∈ q4k, cw i ∈ wsX9_readFrom := fun i h => List.mem_cons_of_mem _ (List.mem_map_of_mem h)
theorem qaPX : okM 1603 q4k = true := qaq (by decide +kernel)
def qWl : List Nat := [267, 271, 1607, 1728, 4736, 4737, 4738, 4739, 4740, 4741, 4742, 4743, 4744, 4745, 4746, 4747]
def wsX9_behindEnd : List Cond := cw 1728 :: wI qWl
theorem qKr : ∀ i ∈ qWl, cw i ∈ wsX9_behindEnd := fun i h => List.mem_cons_of_mem _ (List.mem_map_of_mem h)
theorem qaGo : okM 1728 qWl = true := qaq (by decide +kernel)
def qPV : List Nat := [267, 268, 271, 1607, 1732, 4736, 4737, 4738, 4739, 4740, 4741, 4742, 4743, 4744, 4745, 4746, 4747]
def wsX9_behindAgain : List Cond := cw 1732 :: wI qPV
theorem qz5 : ∀ i ∈ qPV, cw i ∈ wsX9_behindAgain := fun i h => List.mem_cons_of_mem _ (List.mem_map_of_mem h)
theorem qar0 : okM 1732 qPV = true := qaq (by decide +kernel)
def qYz : List Nat := [19, 64, 78, 148, 149, 200, 201, 202, 203, 208, 266, 267, 268, 269, 276, 322, 323, 324, 650, 651, 652, 1092, 1093, 1094, 1736, 1737, 1738, 1739, 1740, 1741, 1742, 1743, 1744, 1745, 1746, 1747, 1748, 1749, 1750, 1751, 1792, 1793, 1794, 1795, 1796, 1797, 1798, 1799, 1800, 1801, 1802, 1803, 1804, 1805, 1806, 1807, 1808, 1809, 1810, 1811, 1812, 1813, 1814, 1815, 1856, 1857, 1858, 1859, 1860, 1861, 1862, 1863, 1864, 1865, 1866, 1867, 1868, 1869, 1870, 1871, 1872, 1873, 1874, 1875, 1876, 1877, 1878, 1879, 1920, 1921, 1922, 1923, 1924, 1925, 1926, 1927, 1928, 1929, 1930, 1931, 1932, 1933, 1934, 1935, 1936, 1937, 1938, 1939, 1940, 1941, 1942, 1943, 1984, 1985, 1986, 4544, 4545, 4546, 4547, 4548, 4549, 4550, 4551, 4552, 4553, 4554, 4555, 4608, 4609, 4610, 4611, 4612, 4736, 4737, 4738, 4739, 4740, 4741, 4742, 4743, 4744, 4745, 4746, 4747, 4800, 4801, 4802, 4803]
def wsX9_isAllowed : List Cond := cw 1736 :: wI qYz
theorem qoc : ∀ i ∈ qYz, cw i ∈ wsX9_isAllowed := fun i h => List.mem_cons_of_mem _ (List.mem_map_of_mem h)
theorem qaKX : okM 1736 qYz = true := qaq (by decide +kernel)
def qajB : List Nat := [2, 19, 78, 266, 267, 268, 269, 276, 322, 324, 326, 651, 1047, 1741, 1742, 1743, 1744, 1745, 1746, 1747, 1748, 1808, 1809, 1810, 1811, 1812, 1813, 1814, 1815, 1930, 1931, 1990, 1991, 1992, 1993, 1994, 1995, 1996, 1997, 1998, 1999, 2000, 2001, 2002, 2003, 2004, 2005, 2006, 2007, 2048, 2049, 2050, 2051, 2052, 2053, 2054, 2055, 2056, 2057, 2058, 2059, 2060, 2061, 2062, 2063, 2064, 2065, 2066, 2067, 2068, 2069, 4544, 4545, 4546, 4547, 4548, 4549, 4550, 4551, 4552, 4553, 4554, 4555, 4736, 4737, 4738, 4739, 4740, 4741, 4742, 4743, 4744, 4745, 4746, 4747, 4800, 4801, 4802, 4803]
def wsX9_doStep : List Cond := cw 1990 :: wI qajB
theorem qtr : ∀ i ∈ qajB, cw i ∈ wsX9_doStep := fun i h => List.mem_cons_of_mem _ (List.mem_map_of_mem h)
theorem qaWV : okM 1990 qajB = true := qaq (by decide +kernel)
def qaAE : List Nat := [2, 19, 64, 74, 78, 148, 149, 200, 201, 202, 203, 208, 266, 267, 268, 269, 271, 276, 322, 323, 324, 326, 650, 651, 652, 1047, 1092, 1093, 1094, 1606, 1607, 1682, 1683, 1684, 1685, 1686, 1687, 1728, 1729, 1730, 1731, 1732, 1733, 1734, 1735, 1736, 1737, 1738, 1739, 1740, 1741, 1742, 1743, 1744, 1745, 1746, 1747, 1748, 1749, 1750, 1751, 1792, 1793, 1794, 1795, 1796, 1797, 1798, 1799, 1800, 1801, 1802, 1803, 1804, 1805, 1806, 1807, 1808, 1809, 1810, 1811, 1812, 1813, 1814, 1815, 1856, 1857, 1858, 1859, 1860, 1861, 1862, 1863, 1864, 1865, 1866, 1867, 1868, 1869, 1870, 1871, 1872, 1873, 1874, 1875, 1876, 1877, 1878, 1879, 1920, 1921, 1922, 1923, 1924, 1925, 1926, 1927, 1928, 1929, 1930, 1931, 1932, 1933, 1934, 1935, 1936, 1937, 1938, 1939, 1940, 1941, 1942, 1943, 1984, 1985, 1986, 1987, 1988, 1989, 1990, 1991, 1992, 1993, 1994, 1995, 1996, 1997, 1998, 1999, 2000, 2001, 2002, 2003, 2004, 2005, 2006, 2007, 2048, 2049, 2050, 2051, 2052, 2053, 2054, 2055, 2056, 2057, 2058, 2059, 2060, 2061, 2062, 2063, 2064, 2065, 2066, 2067, 2068, 2069, 4544, 4545, 4546, 4547, 4548, 4549, 4550, 4551, 4552, 4553, 4554, 4555, 4608, 4609, 4610, 4611, 4612, 4736, 4737, 4738, 4739, 4740, 4741, 4742, 4743, 4744, 4745, 4746, 4747, 4800, 4801, 4802, 4803]
def wsX9_runOn : List Cond := cw 1682 :: wI qaAE
theorem quv : ∀ i ∈ qaAE, cw i ∈ wsX9_runOn := fun i h => List.mem_cons_of_mem _ (List.mem_map_of_mem h)
theorem qa2Q : okM 1682 qaAE = true := qaq (by decide +kernel)
def qaWl : List Nat := [9, 10, 11, 12, 13, 14, 15, 16, 17, 18, 19, 20, 21, 22, 23, 64, 65, 66, 67, 68, 69, 70, 71, 72, 73, 74, 75, 76, 77, 78, 79, 80, 81, 82, 83, 84, 85, 86, 87, 128, 129, 130, 131, 132, 133, 134, 135, 136, 137, 138, 139, 140, 141, 142, 143, 144, 145, 146, 147, 148, 149, 150, 151, 192, 193, 194, 195, 196, 197, 198, 199, 200, 201, 202, 203, 204, 205, 206, 207, 208, 209, 210, 211, 212, 213, 214, 215, 256, 257, 258, 259, 260, 261, 262, 263, 264, 265, 266, 267, 268, 269, 270, 271, 272, 273, 274, 275, 276, 277, 278, 279, 320, 321, 322, 323, 324, 325, 326, 327, 328, 329, 330, 331, 332, 333, 334, 335, 336, 337, 338, 339, 340, 341, 342, 343, 384, 385, 386, 387, 388, 389, 390, 391, 392, 393, 4352, 4353, 4354, 4355, 4356, 4357, 4358, 4359, 4360, 4361, 4362, 4363, 4364, 4365, 4366, 4367, 4368, 4369, 4370, 4480, 4481, 4482, 4483, 4484, 4485, 4486, 4544, 4545, 4546, 4547, 4548, 4549, 4550, 4551, 4552, 4553, 4554, 4555, 4608, 4609, 4610, 4611, 4612, 4672, 4673, 4736, 4737, 4738, 4739, 4740, 4741, 4742, 4743, 4744, 4745, 4746, 4747, 4800, 4801, 4802, 4803, 4864, 4865, 4928, 4929, 4930, 4992, 4993, 4994, 4995, 5056, 5057, 5058, 5059, 5060, 5061, 5062, 5063, 5064, 5065, 5066]
def wsX10_init : List Cond := cw 9 :: wI qaWl
theorem qaB : ∀ i ∈ qaWl, cw i ∈ wsX10_init := fun i h => List.mem_cons_of_mem _ (List.mem_map_of_mem h)
def qaVy : List Nat := [15, 16, 142, 534, 535, 576, 577, 578, 579, 580, 581, 582, 583, 584, 4352, 4353, 4354, 4355, 4356, 4357, 4358, 4359, 4360, 4361, 4362, 4363, 4364, 4365, 4366, 4367, 4368, 4369, 4370, 4480, 4481, 4482, 4483, 4484, 4485, 4486]
def wsX10_feed : List Cond := cw 534 :: wI qaVy
theorem qGB : ∀ i ∈ qaVy, cw i ∈ wsX10_feed := fun i h => List.mem_cons_of_mem _ (List.mem_map_of_mem h)
def qTa : List Nat := [663, 704, 705, 706, 4352, 4353, 4354, 4355, 4356, 4357, 4358, 4359, 4360, 4361, 4362, 4363, 4364, 4365, 4366, 4367, 4368, 4369, 4370]
def wsX10_needLegal : List Cond := cw 663 :: (wI qTa ++ (vx_atS RX10 409 "java/lang/IllegalArgumentException" ["java/lang/RuntimeException", "java/lang/Exception"]).filter goodWord)
theorem qIu : ∀ i ∈ qTa, cw i ∈ wsX10_needLegal := fun i h => List.mem_cons_of_mem _ (List.mem_append_left _ (List.mem_map_of_mem h))
theorem q1l : okM 663 qTa = true := qaq (by decide +kernel)
def qRe : List Nat := [2, 656, 657, 658, 659, 660, 661, 662, 663, 704, 705, 706, 4352, 4353, 4354, 4355, 4356, 4357, 4358, 4359, 4360, 4361, 4362, 4363, 4364, 4365, 4366, 4367, 4368, 4369, 4370]
def wsX10_needWithin : List Cond := cw 656 :: (wI qRe ++ (vx_atS RX10 409 "java/lang/IllegalArgumentException" ["java/lang/RuntimeException", "java/lang/Exception"]).filter goodWord)
theorem qEE : ∀ i ∈ qRe, cw i ∈ wsX10_needWithin := fun i h => List.mem_cons_of_mem _ (List.mem_append_left _ (List.mem_map_of_mem h))
theorem qdG : okM 656 qRe = true := qaq (by decide +kernel)
def qX4 : List Nat := [2, 15, 16, 143, 535, 580, 648, 649, 650, 651, 652, 653, 654, 655, 656, 657, 658, 659, 660, 661, 662, 663, 704, 705, 706, 707, 708, 709, 710, 711, 712, 713, 714, 715, 4352, 4353, 4354, 4355, 4356, 4357, 4358, 4359, 4360, 4361, 4362, 4363, 4364, 4365, 4366, 4367, 4368, 4369, 4370, 4480, 4481, 4482, 4483, 4484, 4485, 4486]
def wsX10_openText : List Cond := cw 648 :: (wI qX4 ++ (vx_atS RX10 409 "java/lang/IllegalArgumentException" ["java/lang/RuntimeException", "java/lang/Exception"]).filter goodWord)
theorem qpp : ∀ i ∈ qX4, cw i ∈ wsX10_openText := fun i h => List.mem_cons_of_mem _ (List.mem_append_left _ (List.mem_map_of_mem h))
theorem qKD : okM 648 qX4 = true := qaq (by decide +kernel)
def qaEj : List Nat := [2, 15, 16, 19, 20, 21, 64, 65, 69, 70, 78, 79, 84, 142, 143, 148, 149, 150, 151, 192, 193, 194, 200, 201, 205, 206, 207, 208, 209, 210, 211, 212, 257, 259, 260, 261, 262, 276, 279, 320, 321, 322, 323, 324, 325, 326, 327, 328, 329, 330, 331, 535, 580, 599, 640, 641, 642, 643, 644, 645, 646, 647, 648, 649, 650, 651, 652, 653, 654, 655, 656, 657, 658, 659, 660, 661, 662, 663, 704, 705, 706, 707, 708, 709, 710, 711, 712, 713, 714, 715, 716, 717, 718, 719, 720, 721, 722, 723, 724, 725, 726, 727, 768, 769, 770, 771, 772, 773, 774, 775, 776, 777, 778, 779, 780, 781, 782, 783, 784, 785, 786, 787, 788, 789, 790, 791, 832, 833, 834, 835, 836, 837, 838, 839, 840, 841, 842, 843, 844, 845, 846, 847, 848, 849, 850, 851, 852, 853, 854, 855, 896, 897, 898, 899, 900, 901, 902, 903, 904, 905, 906, 907, 908, 909, 910, 911, 912, 913, 914, 915, 916, 917, 918, 919, 960, 961, 962, 963, 964, 965, 966, 967, 968, 969, 970, 971, 972, 973, 974, 975, 976, 977, 978, 979, 980, 981, 982, 983, 1024, 1025, 1026, 1027, 1028, 1029, 1030, 1031, 1032, 1033, 1034, 1035, 1036, 1037, 1038, 1039, 1040, 1041, 1042, 1043, 1044, 1045, 1046, 1047, 1088, 1089, 1090, 1091, 1092, 1093, 1094, 1095, 1096, 1097, 1098, 4352, 4353, 4354, 4355, 4356, 4357, 4358, 4359, 4360, 4361, 4362, 4363, 4364, 4365, 4366, 4367, 4368, 4369, 4370, 4480, 4481, 4482, 4483, 4484, 4485, 4486, 4544, 4545, 4546, 4547, 4548, 4549, 4550, 4551, 4552, 4553, 4554, 4555, 4608, 4609, 4610, 4611, 4612, 4672, 4673, 4800, 4801, 4802, 4803, 4864, 4865]
def wsX10_down : List Cond := cw 599 :: (wI qaEj ++ (vx_atS RX10 409 "java/lang/IllegalArgumentException" ["java/lang/RuntimeException", "java/lang/Exception"]).filter goodWord)
theorem qh0 : ∀ i ∈ qaEj, cw i ∈ wsX10_down := fun i h => List.mem_cons_of_mem _ (List.mem_append_left _ (List.mem_map_of_mem h))
theorem qa2s : okM 599 qaEj = true := qaq (by decide +kernel)
def qaNo : List Nat := [2, 15, 16, 64, 65, 66, 78, 79, 142, 143, 200, 201, 208, 209, 210, 211, 212, 323, 535, 580, 640, 645, 646, 647, 648, 649, 650, 651, 652, 653, 654, 655, 656, 657, 658, 659, 660, 661, 662, 663, 704, 705, 706, 707, 708, 709, 710, 711, 712, 713, 714, 715, 724, 725, 726, 768, 769, 770, 771, 772, 773, 774, 780, 781, 782, 783, 784, 785, 786, 787, 788, 789, 790, 791, 832, 833, 834, 835, 836, 837, 838, 839, 840, 841, 842, 843, 844, 845, 846, 847, 848, 849, 850, 851, 852, 853, 854, 855, 896, 897, 898, 899, 900, 901, 902, 903, 904, 905, 906, 907, 908, 909, 910, 911, 912, 913, 914, 915, 916, 962, 963, 964, 965, 966, 967, 968, 970, 971, 972, 973, 974, 975, 976, 977, 979, 980, 981, 982, 983, 1024, 1025, 1026, 1027, 1028, 1029, 1095, 1348, 1349, 1350, 1351, 1352, 1353, 1354, 1355, 1356, 1357, 1358, 1359, 1360, 1361, 1362, 1363, 1364, 1365, 1366, 1367, 1408, 1409, 1410, 1411, 1412, 1413, 1414, 1415, 1416, 1417, 1418, 1419, 1420, 1421, 1422, 1423, 1424, 1425, 1426, 1427, 1428, 1429, 1430, 1431, 1472, 1473, 1474, 1475, 1476, 4352, 4353, 4354, 4355, 4356, 4357, 4358, 4359, 4360, 4361, 4362, 4363, 4364, 4365, 4366, 4367, 4368, 4369, 4370, 4480, 4481, 4482, 4483, 4484, 4485, 4486, 4608, 4609, 4610, 4611, 4612, 4800, 4801, 4802, 4803]
def wsX10_law : List Cond := cw 1348 :: (wI qaNo ++ (vx_atS RX10 409 "java/lang/IllegalArgumentException" ["java/lang/RuntimeException", "java/lang/Exception"]).filter goodWord)
theorem qvO : ∀ i ∈ qaNo, cw i ∈ wsX10_law := fun i h => List.mem_cons_of_mem _ (List.mem_append_left _ (List.mem_map_of_mem h))
theorem qa3Z : okM 1348 qaNo = true := qaq (by decide +kernel)
def qav8 : List Nat := [2, 15, 16, 19, 20, 64, 74, 75, 78, 79, 83, 84, 142, 143, 148, 149, 200, 201, 202, 203, 208, 266, 267, 268, 269, 270, 271, 276, 322, 323, 324, 326, 329, 330, 331, 335, 535, 580, 640, 641, 643, 644, 645, 646, 647, 648, 649, 650, 651, 652, 653, 654, 655, 656, 657, 658, 659, 660, 661, 662, 663, 704, 705, 706, 707, 708, 709, 710, 711, 712, 713, 714, 715, 724, 725, 726, 768, 769, 770, 771, 772, 773, 774, 780, 781, 782, 783, 784, 785, 786, 787, 788, 789, 790, 791, 832, 833, 834, 835, 836, 837, 838, 839, 840, 841, 842, 843, 844, 845, 846, 847, 848, 849, 850, 851, 852, 853, 854, 855, 896, 897, 898, 899, 900, 901, 902, 903, 904, 905, 906, 907, 908, 909, 910, 911, 912, 913, 914, 915, 916, 962, 963, 964, 965, 966, 967, 968, 970, 971, 972, 973, 974, 975, 976, 977, 979, 980, 981, 982, 983, 1024, 1025, 1026, 1027, 1028, 1029, 1047, 1092, 1093, 1094, 1095, 1556, 1557, 1558, 1559, 1600, 1601, 1602, 1603, 1604, 1605, 1606, 1607, 1608, 1609, 1610, 1611, 1612, 1613, 1614, 1615, 1616, 1617, 1618, 1619, 1620, 1621, 1622, 1623, 1664, 1665, 1666, 1667, 1668, 1669, 1670, 1671, 1672, 1673, 1674, 1675, 1676, 1677, 1678, 1679, 1680, 1681, 1682, 1683, 1684, 1685, 1686, 1687, 1728, 1729, 1730, 1731, 1732, 1733, 1734, 1735, 1736, 1737, 1738, 1739, 1740, 1741, 1742, 1743, 1744, 1745, 1746, 1747, 1748, 1749, 1750, 1751, 1792, 1793, 1794, 1795, 1796, 1797, 1798, 1799, 1800, 1801, 1802, 1803, 1804, 1805, 1806, 1807, 1808, 1809, 1810, 1811, 1812, 1813, 1814, 1815, 1856, 1857, 1858, 1859, 1860, 1861, 1862, 1863, 1864, 1865, 1866, 1867, 1868, 1869, 1870, 1871, 1872, 1873, 1874, 1875, 1876, 1877, 1878, 1879, 1920, 1921, 1922, 1923, 1924, 1925, 1926, 1927, 1928, 1929, 1930, 1931, 1932, 1933, 1934, 1935, 1936, 1937, 1938, 1939, 1940, 1941, 1942, 1943, 1984, 1985, 1986, 1987, 1988, 1989, 1990, 1991, 1992, 1993, 1994, 1995, 1996, 1997, 1998, 1999, 2000, 2001, 2002, 2003, 2004, 2005, 2006, 2007, 2048, 2049, 2050, 2051, 2052, 2053, 2054, 2055, 2056, 2057, 2058, 2059, 2060, 2061, 2062, 2063, 2064, 2065, 2066, 2067, 2068, 2069, 4352, 4353, 4354, 4355, 4356, 4357, 4358, 4359, 4360, 4361, 4362, 4363, 4364, 4365, 4366, 4367, 4368, 4369, 4370, 4480, 4481, 4482, 4483, 4484, 4485, 4486, 4544, 4545, 4546, 4547, 4548, 4549, 4550, 4551, 4552, 4553, 4554, 4555, 4608, 4609, 4610, 4611, 4612, 4736, 4737, 4738, 4739, 4740, 4741, 4742, 4743, 4744, 4745, 4746, 4747, 4800, 4801, 4802, 4803, 4864, 4865]
def wsX10_work : List Cond := cw 1556 :: (wI qav8 ++ (vx_atS RX10 409 "java/lang/IllegalArgumentException" ["java/lang/RuntimeException", "java/lang/Exception"]).filter goodWord)
theorem qie : ∀ i ∈ qav8, cw i ∈ wsX10_work := fun i h => List.mem_cons_of_mem _ (List.mem_append_left _ (List.mem_map_of_mem h))
theorem qa1v : okM 1556 qav8 = true := qaq (by decide +kernel)
def qaD0 : List Nat := [2, 15, 16, 20, 69, 70, 71, 142, 143, 257, 258, 259, 260, 261, 262, 535, 580, 640, 645, 646, 647, 648, 649, 650, 651, 652, 653, 654, 655, 656, 657, 658, 659, 660, 661, 662, 663, 704, 705, 706, 707, 708, 709, 710, 711, 712, 713, 714, 715, 724, 725, 726, 768, 769, 770, 771, 772, 773, 774, 835, 962, 963, 964, 965, 966, 967, 968, 970, 971, 972, 973, 974, 975, 976, 977, 979, 980, 981, 982, 983, 1024, 1025, 1026, 1027, 1028, 1029, 1095, 1557, 2385, 2386, 2387, 2388, 2389, 2390, 2391, 2432, 2433, 2434, 2435, 2436, 2437, 2438, 2439, 2440, 2441, 2442, 2443, 4352, 4353, 4354, 4355, 4356, 4357, 4358, 4359, 4360, 4361, 4362, 4363, 4364, 4365, 4366, 4367, 4368, 4369, 4370, 4480, 4481, 4482, 4483, 4484, 4485, 4486, 4544, 4545, 4546, 4547, 4548, 4549, 4550, 4551, 4552, 4553, 4554, 4555, 4672, 4673]
def wsX10_book : List Cond := cw 2385 :: (wI qaD0 ++ (vx_atS RX10 409 "java/lang/IllegalArgumentException" ["java/lang/RuntimeException", "java/lang/Exception"]).filter goodWord)
theorem qrx : ∀ i ∈ qaD0, cw i ∈ wsX10_book := fun i h => List.mem_cons_of_mem _ (List.mem_append_left _ (List.mem_map_of_mem h))
theorem qa2E : okM 2385 qaD0 = true := qaq (by decide +kernel)
def qaLI : List Nat := [16, 2451, 2452, 4352, 4353, 4354, 4355, 4356, 4357, 4358, 4359, 4360, 4361, 4362, 4363, 4364, 4365, 4366, 4367, 4368, 4369, 4370, 4480, 4481, 4482, 4483, 4484, 4485, 4486]
def wsX10_fault : List Cond := cw 2451 :: wI qaLI
theorem qWV : ∀ i ∈ qaLI, cw i ∈ wsX10_fault := fun i h => List.mem_cons_of_mem _ (List.mem_map_of_mem h)
def qaUE : List Nat := [79, 83, 84, 329, 330, 331, 335, 641, 643, 1676, 1677, 1678, 2500, 2501, 2502, 2503, 2504, 4352, 4353, 4354, 4355, 4356, 4357, 4358, 4359, 4360, 4361, 4362, 4363, 4364, 4365, 4366, 4367, 4368, 4369, 4370, 4800, 4801, 4802, 4803, 4864, 4865]
def wsX10_undo : List Cond := cw 2500 :: wI qaUE
theorem qGI : ∀ i ∈ qaUE, cw i ∈ wsX10_undo := fun i h => List.mem_cons_of_mem _ (List.mem_map_of_mem h)
def qaw9 : List Nat := [2, 19, 20, 70, 78, 79, 276, 322, 324, 643, 644, 653, 654, 655, 656, 657, 658, 659, 660, 661, 662, 663, 704, 705, 706, 1047, 1557, 1741, 1742, 1743, 1744, 1745, 1746, 1747, 1748, 1812, 1813, 1814, 1815, 1856, 1857, 1858, 1859, 1860, 1861, 1862, 1863, 1873, 1874, 1875, 1984, 1985, 1986, 2052, 2053, 2059, 2060, 2061, 2062, 2063, 2064, 2065, 2386, 2515, 2516, 2517, 2518, 2519, 2560, 2561, 2562, 2563, 2564, 2565, 2566, 2567, 2568, 2569, 2570, 2571, 2572, 4352, 4353, 4354, 4355, 4356, 4357, 4358, 4359, 4360, 4361, 4362, 4363, 4364, 4365, 4366, 4367, 4368, 4369, 4370, 4544, 4545, 4546, 4547, 4548, 4549, 4550, 4551, 4552, 4553, 4554, 4555, 4672, 4673, 4800, 4801, 4802, 4803]
def wsX10_told : List Cond := cw 2515 :: (wI qaw9 ++ (vx_atS RX10 409 "java/lang/IllegalArgumentException" ["java/lang/RuntimeException", "java/lang/Exception"]).filter goodWord)
theorem qiz : ∀ i ∈ qaw9, cw i ∈ wsX10_told := fun i h => List.mem_cons_of_mem _ (List.mem_append_left _ (List.mem_map_of_mem h))
theorem qa1W : okM 2515 qaw9 = true := qaq (by decide +kernel)
def qWs : List Nat := [2, 20, 657, 658, 659, 1557, 2689, 2690, 2691, 2692, 4352, 4353, 4354, 4355, 4356, 4357, 4358, 4359, 4360, 4361, 4362, 4363, 4364, 4365, 4366, 4367, 4368, 4369, 4370, 4544, 4545, 4546, 4547, 4548, 4549, 4550, 4551, 4552, 4553, 4554, 4555]
def wsX10_needForm : List Cond := cw 2689 :: (wI qWs ++ (qqx RX10 268 "java/util/NoSuchElementException" 13 qxz ["java/lang/RuntimeException", "java/lang/Exception"]).filter goodWord)
theorem qtN : ∀ i ∈ qWs, cw i ∈ wsX10_needForm := fun i h => List.mem_cons_of_mem _ (List.mem_append_left _ (List.mem_map_of_mem h))
theorem qDO : okM 2689 qWs = true := qaq (by decide +kernel)
def qayl : List Nat := [2, 19, 20, 78, 79, 276, 322, 324, 653, 654, 655, 656, 657, 658, 659, 660, 661, 662, 663, 704, 705, 706, 1047, 1557, 1741, 1742, 1743, 1744, 1745, 1746, 1747, 1748, 1798, 1799, 1800, 2052, 2053, 2063, 2064, 2065, 2643, 2644, 2645, 2646, 2647, 2688, 2689, 2690, 2691, 2692, 2693, 2694, 4352, 4353, 4354, 4355, 4356, 4357, 4358, 4359, 4360, 4361, 4362, 4363, 4364, 4365, 4366, 4367, 4368, 4369, 4370, 4544, 4545, 4546, 4547, 4548, 4549, 4550, 4551, 4552, 4553, 4554, 4555, 4800, 4801, 4802, 4803]
def wsX10_form : List Cond := cw 2643 :: (wI qayl ++ (qqx RX10 268 "java/util/NoSuchElementException" 13 qxz ["java/lang/RuntimeException", "java/lang/Exception"]).filter goodWord ++ (vx_atS RX10 409 "java/lang/IllegalArgumentException" ["java/lang/RuntimeException", "java/lang/Exception"]).filter goodWord)
theorem qum : ∀ i ∈ qayl, cw i ∈ wsX10_form := fun i h => List.mem_cons_of_mem _ (List.mem_append_left _ (List.mem_append_left _ (List.mem_map_of_mem h)))
theorem qa2V : okM 2643 qayl = true := qaq (by decide +kernel)
def qWf : List Nat := [2, 20, 644, 657, 658, 659, 2690, 2691, 2692, 2754, 4352, 4353, 4354, 4355, 4356, 4357, 4358, 4359, 4360, 4361, 4362, 4363, 4364, 4365, 4366, 4367, 4368, 4369, 4370, 4544, 4545, 4546, 4547, 4548, 4549, 4550, 4551, 4552, 4553, 4554, 4555]
def wsX10_needHare : List Cond := cw 2754 :: (wI qWf ++ (qqx RX10 268 "java/util/NoSuchElementException" 13 qxz ["java/lang/RuntimeException", "java/lang/Exception"]).filter goodWord)
theorem qtB : ∀ i ∈ qWf, cw i ∈ wsX10_needHare := fun i h => List.mem_cons_of_mem _ (List.mem_append_left _ (List.mem_map_of_mem h))
theorem qtC : okM 2754 qWf = true := qaq (by decide +kernel)
def qaAK : List Nat := [2, 20, 64, 78, 79, 200, 201, 202, 203, 208, 276, 322, 323, 324, 644, 650, 651, 652, 653, 654, 655, 656, 657, 658, 659, 660, 661, 662, 663, 704, 705, 706, 1741, 1742, 1743, 1744, 1745, 1746, 1747, 1748, 1794, 1795, 1796, 1797, 1798, 1799, 1800, 1801, 1802, 1803, 1804, 1805, 1806, 1807, 1808, 1809, 1810, 1811, 1812, 1813, 1814, 1815, 1856, 1857, 1858, 1859, 1860, 1861, 1862, 1863, 1864, 1865, 1866, 1867, 1868, 1869, 1870, 1871, 1872, 1873, 1874, 1875, 1876, 1877, 1878, 1879, 1920, 1921, 1922, 1923, 1924, 1925, 1926, 1927, 1928, 1929, 1930, 1931, 1932, 1933, 1934, 2690, 2691, 2692, 2709, 2710, 2711, 2752, 2753, 2754, 2755, 2756, 2757, 2758, 2759, 2760, 2761, 2762, 4352, 4353, 4354, 4355, 4356, 4357, 4358, 4359, 4360, 4361, 4362, 4363, 4364, 4365, 4366, 4367, 4368, 4369, 4370, 4544, 4545, 4546, 4547, 4548, 4549, 4550, 4551, 4552, 4553, 4554, 4555, 4608, 4609, 4610, 4611, 4612, 4800, 4801, 4802, 4803]
def wsX10_hare : List Cond := cw 2709 :: (wI qaAK ++ (qqx RX10 268 "java/util/NoSuchElementException" 13 qxz ["java/lang/RuntimeException", "java/lang/Exception"]).filter goodWord ++ (vx_atS RX10 409 "java/lang/IllegalArgumentException" ["java/lang/RuntimeException", "java/lang/Exception"]).filter goodWord)
theorem qkE : ∀ i ∈ qaAK, cw i ∈ wsX10_hare := fun i h => List.mem_cons_of_mem _ (List.mem_append_left _ (List.mem_append_left _ (List.mem_map_of_mem h)))
theorem qa2x : okM 2709 qaAK = true := qaq (by decide +kernel)
def qaPA : List Nat := [2, 20, 653, 654, 655, 656, 657, 658, 659, 660, 661, 662, 663, 704, 705, 706, 2516, 2690, 2691, 2692, 2817, 2818, 2819, 4352, 4353, 4354, 4355, 4356, 4357, 4358, 4359, 4360, 4361, 4362, 4363, 4364, 4365, 4366, 4367, 4368, 4369, 4370, 4544, 4545, 4546, 4547, 4548, 4549, 4550, 4551, 4552, 4553, 4554, 4555]
def wsX10_fox : List Cond := cw 2817 :: (wI qaPA ++ (qqx RX10 268 "java/util/NoSuchElementException" 13 qxz ["java/lang/RuntimeException", "java/lang/Exception"]).filter goodWord ++ (vx_atS RX10 409 "java/lang/IllegalArgumentException" ["java/lang/RuntimeException", "java/lang/Exception"]).filter goodWord)
theorem qyI : ∀ i ∈ qaPA, cw i ∈ wsX10_fox := fun i h => List.mem_cons_of_mem _ (List.mem_append_left _ (List.mem_append_left _ (List.mem_map_of_mem h)))
theorem qa6D : okM 2817 qaPA = true := qaq (by decide +kernel)
def qavs : List Nat := [2, 20, 78, 79, 276, 644, 657, 658, 659, 1861, 1862, 1863, 2690, 2691, 2692, 2711, 2752, 2753, 2754, 2830, 2831, 4352, 4353, 4354, 4355, 4356, 4357, 4358, 4359, 4360, 4361, 4362, 4363, 4364, 4365, 4366, 4367, 4368, 4369, 4370, 4544, 4545, 4546, 4547, 4548, 4549, 4550, 4551, 4552, 4553, 4554, 4555, 4800, 4801, 4802, 4803]
def wsX10_debt : List Cond := cw 2830 :: (wI qavs ++ (qqx RX10 268 "java/util/NoSuchElementException" 13 qxz ["java/lang/RuntimeException", "java/lang/Exception"]).filter goodWord)
theorem qOA : ∀ i ∈ qavs, cw i ∈ wsX10_debt := fun i h => List.mem_cons_of_mem _ (List.mem_append_left _ (List.mem_map_of_mem h))
theorem qa1J : okM 2830 qavs = true := qaq (by decide +kernel)
def qaO4 : List Nat := [2, 19, 20, 148, 149, 651, 657, 658, 659, 1092, 1093, 1094, 1557, 1750, 1751, 1792, 2646, 2647, 2688, 2689, 2690, 2691, 2692, 2886, 2887, 4352, 4353, 4354, 4355, 4356, 4357, 4358, 4359, 4360, 4361, 4362, 4363, 4364, 4365, 4366, 4367, 4368, 4369, 4370, 4544, 4545, 4546, 4547, 4548, 4549, 4550, 4551, 4552, 4553, 4554, 4555]
def wsX10_far : List Cond := cw 2886 :: (wI qaO4 ++ (qqx RX10 268 "java/util/NoSuchElementException" 13 qxz ["java/lang/RuntimeException", "java/lang/Exception"]).filter goodWord)
theorem qUO : ∀ i ∈ qaO4, cw i ∈ wsX10_far := fun i h => List.mem_cons_of_mem _ (List.mem_append_left _ (List.mem_map_of_mem h))
theorem qa6g : okM 2886 qaO4 = true := qaq (by decide +kernel)
def qaiC : List Nat := [2, 64, 65, 200, 201, 202, 203, 208, 650, 651, 652, 653, 654, 655, 656, 657, 658, 659, 660, 661, 662, 663, 704, 705, 706, 1869, 1870, 1871, 1921, 1922, 1923, 1925, 1926, 1927, 1928, 1929, 1930, 1931, 1932, 1933, 1934, 2898, 2899, 2900, 2901, 4352, 4353, 4354, 4355, 4356, 4357, 4358, 4359, 4360, 4361, 4362, 4363, 4364, 4365, 4366, 4367, 4368, 4369, 4370, 4608, 4609, 4610, 4611, 4612]
def wsX10_would : List Cond := cw 2898 :: (wI qaiC ++ (vx_atS RX10 409 "java/lang/IllegalArgumentException" ["java/lang/RuntimeException", "java/lang/Exception"]).filter goodWord)
theorem qxO : ∀ i ∈ qaiC, cw i ∈ wsX10_would := fun i h => List.mem_cons_of_mem _ (List.mem_append_left _ (List.mem_map_of_mem h))
theorem qaY7 : okM 2898 qaiC = true := qaq (by decide +kernel)
def qaOD : List Nat := [2, 19, 20, 64, 78, 79, 148, 149, 200, 201, 202, 203, 208, 276, 322, 323, 324, 644, 650, 651, 652, 657, 658, 659, 1092, 1093, 1094, 1557, 1738, 1739, 1740, 1741, 1742, 1743, 1744, 1745, 1746, 1747, 1748, 1749, 1750, 1751, 1792, 1793, 1794, 1795, 1796, 1797, 1798, 1799, 1800, 1801, 1802, 1803, 1804, 1805, 1806, 1807, 1808, 1809, 1810, 1811, 1812, 1813, 1814, 1815, 1856, 1857, 1858, 1859, 1860, 1861, 1862, 1863, 1864, 1865, 1866, 1867, 1868, 1869, 1870, 1871, 1872, 1873, 1874, 1875, 1876, 1877, 1878, 1879, 1920, 1921, 1922, 1923, 1924, 1925, 1926, 1927, 1928, 1929, 1930, 1931, 1932, 1933, 1934, 2646, 2647, 2688, 2689, 2690, 2691, 2692, 2711, 2752, 2753, 2754, 2952, 2953, 4352, 4353, 4354, 4355, 4356, 4357, 4358, 4359, 4360, 4361, 4362, 4363, 4364, 4365, 4366, 4367, 4368, 4369, 4370, 4544, 4545, 4546, 4547, 4548, 4549, 4550, 4551, 4552, 4553, 4554, 4555, 4608, 4609, 4610, 4611, 4612, 4800, 4801, 4802, 4803]
def wsX10_can : List Cond := cw 2952 :: (wI qaOD ++ (qqx RX10 268 "java/util/NoSuchElementException" 13 qxz ["java/lang/RuntimeException", "java/lang/Exception"]).filter goodWord)
theorem qLM : ∀ i ∈ qaOD, cw i ∈ wsX10_can := fun i h => List.mem_cons_of_mem _ (List.mem_append_left _ (List.mem_map_of_mem h))
theorem qa3m : okM 2952 qaOD = true := qaq (by decide +kernel)
def qajf : List Nat := [2, 19, 78, 79, 80, 276, 322, 323, 324, 326, 328, 329, 330, 331, 653, 654, 655, 656, 657, 658, 659, 660, 661, 662, 663, 704, 705, 706, 1047, 1741, 1742, 1743, 1744, 1745, 1746, 1747, 1748, 1812, 1813, 1814, 1815, 1856, 1857, 1858, 1859, 1860, 1861, 1862, 1863, 1873, 1874, 1875, 2049, 2050, 2051, 2052, 2053, 2054, 2055, 2056, 2057, 2058, 2059, 2060, 2061, 2062, 2063, 2064, 2065, 2066, 2067, 2068, 2069, 2518, 2560, 2561, 2562, 2563, 2568, 2569, 2570, 2571, 2964, 2965, 2966, 2967, 3008, 3009, 4352, 4353, 4354, 4355, 4356, 4357, 4358, 4359, 4360, 4361, 4362, 4363, 4364, 4365, 4366, 4367, 4368, 4369, 4370, 4544, 4545, 4546, 4547, 4548, 4549, 4550, 4551, 4552, 4553, 4554, 4555, 4800, 4801, 4802, 4803]
def wsX10_ahead : List Cond := cw 2964 :: (wI qajf ++ (vx_atS RX10 409 "java/lang/IllegalArgumentException" ["java/lang/RuntimeException", "java/lang/Exception"]).filter goodWord)
theorem qq6 : ∀ i ∈ qajf, cw i ∈ wsX10_ahead := fun i h => List.mem_cons_of_mem _ (List.mem_append_left _ (List.mem_map_of_mem h))
theorem qaXO : okM 2964 qajf = true := qaq (by decide +kernel)
def qayP : List Nat := [2, 19, 20, 64, 78, 79, 148, 149, 200, 201, 202, 203, 208, 276, 322, 323, 324, 644, 650, 651, 652, 657, 658, 659, 720, 1092, 1093, 1094, 1557, 1741, 1742, 1743, 1744, 1745, 1746, 1747, 1748, 1750, 1751, 1792, 1794, 1795, 1796, 1797, 1798, 1799, 1800, 1801, 1802, 1803, 1804, 1805, 1806, 1807, 1808, 1809, 1810, 1811, 1812, 1813, 1814, 1815, 1856, 1857, 1858, 1859, 1860, 1861, 1862, 1863, 1864, 1865, 1866, 1867, 1868, 1869, 1870, 1871, 1872, 1873, 1874, 1875, 1876, 1877, 1878, 1879, 1920, 1921, 1922, 1923, 1924, 1925, 1926, 1927, 1928, 1929, 1930, 1931, 1932, 1933, 1934, 2052, 2053, 2646, 2647, 2688, 2689, 2690, 2691, 2692, 2711, 2752, 2753, 2754, 2755, 2756, 2762, 3020, 3021, 3022, 3023, 3024, 3025, 3026, 3027, 3028, 3029, 4352, 4353, 4354, 4355, 4356, 4357, 4358, 4359, 4360, 4361, 4362, 4363, 4364, 4365, 4366, 4367, 4368, 4369, 4370, 4544, 4545, 4546, 4547, 4548, 4549, 4550, 4551, 4552, 4553, 4554, 4555, 4608, 4609, 4610, 4611, 4612, 4800, 4801, 4802, 4803]
def wsX10_hops : List Cond := cw 3020 :: (wI qayP ++ (qqx RX10 268 "java/util/NoSuchElementException" 13 qxz ["java/lang/RuntimeException", "java/lang/Exception"]).filter goodWord)
theorem qtg : ∀ i ∈ qayP, cw i ∈ wsX10_hops := fun i h => List.mem_cons_of_mem _ (List.mem_append_left _ (List.mem_map_of_mem h))
theorem qa1r : okM 3020 qayP = true := qaq (by decide +kernel)
def qaLE : List Nat := [2, 19, 64, 78, 79, 132, 133, 148, 149, 200, 201, 202, 203, 208, 276, 322, 323, 324, 384, 385, 386, 650, 651, 652, 720, 1092, 1093, 1094, 1741, 1742, 1743, 1744, 1745, 1746, 1747, 1748, 1750, 1751, 1792, 1793, 1794, 1795, 1796, 1797, 1798, 1799, 1800, 1801, 1802, 1803, 1804, 1805, 1806, 1807, 1808, 1809, 1810, 1811, 1812, 1813, 1814, 1815, 1856, 1857, 1858, 1859, 1860, 1861, 1862, 1863, 1864, 1865, 1866, 1867, 1868, 1869, 1870, 1871, 1872, 1873, 1874, 1875, 1876, 1877, 1878, 1879, 1920, 1921, 1922, 1923, 1924, 1925, 1926, 1927, 1928, 1929, 1930, 1931, 1932, 1933, 1934, 2052, 2053, 3026, 3027, 3028, 3029, 3077, 3078, 3079, 3080, 3081, 3082, 3083, 3084, 3085, 3086, 3087, 3088, 3089, 3090, 3091, 3092, 3093, 3094, 3095, 3136, 3137, 3138, 3139, 3140, 3141, 3142, 3143, 3144, 3145, 3146, 3147, 3148, 3149, 3150, 3151, 3152, 3153, 3154, 4352, 4353, 4354, 4355, 4356, 4357, 4358, 4359, 4360, 4361, 4362, 4363, 4364, 4365, 4366, 4367, 4368, 4369, 4370, 4544, 4545, 4546, 4547, 4548, 4549, 4550, 4551, 4552, 4553, 4554, 4555, 4608, 4609, 4610, 4611, 4612, 4800, 4801, 4802, 4803, 4992, 4993, 4994, 4995]
def wsX10_seats : List Cond := cw 3077 :: wI qaLE
theorem qFX : ∀ i ∈ qaLE, cw i ∈ wsX10_seats := fun i h => List.mem_cons_of_mem _ (List.mem_map_of_mem h)
def qaxJ : List Nat := [2, 19, 20, 64, 78, 79, 132, 133, 148, 149, 200, 201, 202, 203, 208, 276, 322, 323, 324, 384, 385, 386, 644, 650, 651, 652, 657, 658, 659, 720, 1092, 1093, 1094, 1741, 1742, 1743, 1744, 1745, 1746, 1747, 1748, 1750, 1751, 1792, 1793, 1794, 1795, 1796, 1797, 1798, 1799, 1800, 1801, 1802, 1803, 1804, 1805, 1806, 1807, 1808, 1809, 1810, 1811, 1812, 1813, 1814, 1815, 1856, 1857, 1858, 1859, 1860, 1861, 1862, 1863, 1864, 1865, 1866, 1867, 1868, 1869, 1870, 1871, 1872, 1873, 1874, 1875, 1876, 1877, 1878, 1879, 1920, 1921, 1922, 1923, 1924, 1925, 1926, 1927, 1928, 1929, 1930, 1931, 1932, 1933, 1934, 2052, 2053, 2690, 2691, 2692, 2711, 2752, 2753, 2754, 3026, 3027, 3028, 3029, 3079, 3080, 3081, 3082, 3083, 3084, 3085, 3086, 3087, 3088, 3089, 3090, 3091, 3092, 3093, 3094, 3095, 3136, 3137, 3138, 3139, 3140, 3141, 3142, 3143, 3144, 3145, 3146, 3147, 3148, 3149, 3150, 3151, 3152, 3153, 3154, 3213, 3214, 4352, 4353, 4354, 4355, 4356, 4357, 4358, 4359, 4360, 4361, 4362, 4363, 4364, 4365, 4366, 4367, 4368, 4369, 4370, 4544, 4545, 4546, 4547, 4548, 4549, 4550, 4551, 4552, 4553, 4554, 4555, 4608, 4609, 4610, 4611, 4612, 4800, 4801, 4802, 4803, 4992, 4993, 4994, 4995]
def wsX10_seat : List Cond := cw 3213 :: (wI qaxJ ++ (qqx RX10 268 "java/util/NoSuchElementException" 13 qxz ["java/lang/RuntimeException", "java/lang/Exception"]).filter goodWord)
theorem qCW : ∀ i ∈ qaxJ, cw i ∈ wsX10_seat := fun i h => List.mem_cons_of_mem _ (List.mem_append_left _ (List.mem_map_of_mem h))
theorem qa1Y : okM 3213 qaxJ = true := qaq (by decide +kernel)
def qaUC : List Nat := [2, 19, 20, 128, 129, 148, 149, 339, 340, 650, 651, 652, 1092, 1093, 1094, 1750, 1751, 1792, 2052, 2053, 3222, 3223, 3264, 3265, 3266, 3267, 3268, 3269, 3270, 3271, 3272, 3273, 3274, 3275, 3276, 3277, 3278, 3279, 3280, 3281, 3282, 3283, 3284, 3285, 3286, 3287, 3328, 3329, 3330, 3331, 3332, 4352, 4353, 4354, 4355, 4356, 4357, 4358, 4359, 4360, 4361, 4362, 4363, 4364, 4365, 4366, 4367, 4368, 4369, 4370, 4544, 4545, 4546, 4547, 4548, 4549, 4550, 4551, 4552, 4553, 4554, 4555, 4928, 4929, 4930]
def wsX10_ring : List Cond := cw 3222 :: wI qaUC
theorem qJ8 : ∀ i ∈ qaUC, cw i ∈ wsX10_ring := fun i h => List.mem_cons_of_mem _ (List.mem_map_of_mem h)
def qabC : List Nat := [2, 19, 20, 128, 129, 148, 149, 339, 340, 650, 651, 652, 660, 661, 662, 663, 704, 705, 706, 1092, 1093, 1094, 1557, 1750, 1751, 1792, 2052, 2053, 3264, 3265, 3266, 3267, 3268, 3269, 3270, 3271, 3272, 3273, 3274, 3275, 3276, 3277, 3278, 3279, 3280, 3281, 3282, 3283, 3284, 3285, 3286, 3287, 3328, 3329, 3330, 3331, 3332, 3347, 3348, 4352, 4353, 4354, 4355, 4356, 4357, 4358, 4359, 4360, 4361, 4362, 4363, 4364, 4365, 4366, 4367, 4368, 4369, 4370, 4544, 4545, 4546, 4547, 4548, 4549, 4550, 4551, 4552, 4553, 4554, 4555, 4928, 4929, 4930]
def wsX10_ringed : List Cond := cw 3347 :: (wI qabC ++ (vx_atS RX10 409 "java/lang/IllegalArgumentException" ["java/lang/RuntimeException", "java/lang/Exception"]).filter goodWord)
theorem qt0 : ∀ i ∈ qabC, cw i ∈ wsX10_ringed := fun i h => List.mem_cons_of_mem _ (List.mem_append_left _ (List.mem_map_of_mem h))
theorem qaUA : okM 3347 qabC = true := qaq (by decide +kernel)
def qT4 : List Nat := [2, 78, 276, 651, 1809, 1810, 1811, 1930, 1931, 2052, 2053, 2757, 3404, 3405, 3406, 3407, 3408, 4800, 4801, 4802, 4803]
def wsX10_ordersWon : List Cond := cw 3407 :: wI qT4
theorem qk1 : ∀ i ∈ qT4, cw i ∈ wsX10_ordersWon := fun i h => List.mem_cons_of_mem _ (List.mem_map_of_mem h)
theorem q2J : okM 3407 qT4 = true := qaq (by decide +kernel)
def qam1 : List Nat := [2, 20, 78, 79, 276, 322, 324, 644, 651, 657, 658, 659, 1742, 1743, 1744, 1809, 1810, 1811, 1930, 1931, 2052, 2053, 2690, 2691, 2692, 2711, 2752, 2753, 2754, 2755, 2757, 3399, 3400, 3401, 3402, 3403, 3404, 3405, 3406, 3407, 3408, 4352, 4353, 4354, 4355, 4356, 4357, 4358, 4359, 4360, 4361, 4362, 4363, 4364, 4365, 4366, 4367, 4368, 4369, 4370, 4544, 4545, 4546, 4547, 4548, 4549, 4550, 4551, 4552, 4553, 4554, 4555, 4800, 4801, 4802, 4803]
def wsX10_bouts : List Cond := cw 3399 :: (wI qam1 ++ (qqx RX10 268 "java/util/NoSuchElementException" 13 qxz ["java/lang/RuntimeException", "java/lang/Exception"]).filter goodWord)
theorem qph : ∀ i ∈ qam1, cw i ∈ wsX10_bouts := fun i h => List.mem_cons_of_mem _ (List.mem_append_left _ (List.mem_map_of_mem h))
theorem qaZU : okM 3399 qam1 = true := qaq (by decide +kernel)
def qax9 : List Nat := [2, 69, 70, 78, 79, 136, 137, 257, 276, 322, 324, 390, 391, 392, 653, 654, 655, 656, 657, 658, 659, 660, 661, 662, 663, 704, 705, 706, 1741, 1742, 1743, 1744, 1745, 1746, 1747, 1748, 1798, 1799, 1800, 1802, 1803, 1804, 1805, 1806, 1807, 3463, 3464, 3465, 3466, 3467, 3468, 3469, 3470, 3471, 3472, 3473, 3474, 3475, 3476, 3477, 3478, 3479, 3520, 3521, 3522, 3523, 3524, 3525, 3526, 3527, 3528, 3529, 3530, 3531, 3532, 3533, 3534, 3535, 3536, 3537, 4352, 4353, 4354, 4355, 4356, 4357, 4358, 4359, 4360, 4361, 4362, 4363, 4364, 4365, 4366, 4367, 4368, 4369, 4370, 4544, 4545, 4546, 4547, 4548, 4549, 4550, 4551, 4552, 4553, 4554, 4555, 4672, 4673, 4800, 4801, 4802, 4803, 5056, 5057, 5058, 5059, 5060, 5061, 5062, 5063, 5064, 5065, 5066]
def wsX10_fits : List Cond := cw 3463 :: (wI qax9 ++ (vx_atS RX10 409 "java/lang/IllegalArgumentException" ["java/lang/RuntimeException", "java/lang/Exception"]).filter goodWord)
theorem qyZ : ∀ i ∈ qax9, cw i ∈ wsX10_fits := fun i h => List.mem_cons_of_mem _ (List.mem_append_left _ (List.mem_map_of_mem h))
theorem qa1F : okM 3463 qax9 = true := qaq (by decide +kernel)
def qaDA : List Nat := [2, 69, 70, 78, 79, 136, 137, 257, 276, 322, 324, 390, 391, 392, 393, 651, 653, 654, 655, 656, 657, 658, 659, 660, 661, 662, 663, 704, 705, 706, 1741, 1742, 1743, 1744, 1745, 1746, 1747, 1748, 1798, 1799, 1800, 1802, 1803, 1804, 1805, 1806, 1807, 1930, 1931, 2052, 2053, 2439, 2440, 2441, 3466, 3467, 3468, 3469, 3470, 3471, 3472, 3473, 3474, 3475, 3476, 3477, 3478, 3479, 3520, 3521, 3522, 3523, 3524, 3525, 3526, 3527, 3528, 3529, 3530, 3531, 3532, 3533, 3534, 3535, 3536, 3537, 3596, 3597, 3598, 3599, 3600, 3601, 3602, 3603, 3604, 3605, 3606, 3607, 3648, 3649, 3650, 3651, 3652, 3653, 3654, 4352, 4353, 4354, 4355, 4356, 4357, 4358, 4359, 4360, 4361, 4362, 4363, 4364, 4365, 4366, 4367, 4368, 4369, 4370, 4544, 4545, 4546, 4547, 4548, 4549, 4550, 4551, 4552, 4553, 4554, 4555, 4672, 4673, 4800, 4801, 4802, 4803, 5056, 5057, 5058, 5059, 5060, 5061, 5062, 5063, 5064, 5065, 5066]
def wsX10_look : List Cond := cw 3596 :: (wI qaDA ++ (vx_atS RX10 409 "java/lang/IllegalArgumentException" ["java/lang/RuntimeException", "java/lang/Exception"]).filter goodWord)
theorem qvz : ∀ i ∈ qaDA, cw i ∈ wsX10_look := fun i h => List.mem_cons_of_mem _ (List.mem_append_left _ (List.mem_map_of_mem h))
theorem qa14 : okM 3596 qaDA = true := qaq (by decide +kernel)
def qaiP : List Nat := [2, 19, 20, 148, 149, 195, 651, 653, 654, 655, 656, 657, 658, 659, 660, 661, 662, 663, 704, 705, 706, 720, 1092, 1093, 1094, 1750, 1751, 1792, 1802, 1803, 1804, 1805, 1806, 1807, 2052, 2053, 3025, 3026, 3027, 3028, 3029, 3669, 3670, 3671, 3712, 3713, 3714, 3715, 3716, 3717, 3718, 4352, 4353, 4354, 4355, 4356, 4357, 4358, 4359, 4360, 4361, 4362, 4363, 4364, 4365, 4366, 4367, 4368, 4369, 4370, 4544, 4545, 4546, 4547, 4548, 4549, 4550, 4551, 4552, 4553, 4554, 4555]
def wsX10_watch : List Cond := cw 3669 :: (wI qaiP ++ (vx_atS RX10 409 "java/lang/IllegalArgumentException" ["java/lang/RuntimeException", "java/lang/Exception"]).filter goodWord)
theorem qJ2 : ∀ i ∈ qaiP, cw i ∈ wsX10_watch := fun i h => List.mem_cons_of_mem _ (List.mem_append_left _ (List.mem_map_of_mem h))
theorem qaYE : okM 3669 qaiP = true := qaq (by decide +kernel)
def qaop : List Nat := [3732]
def wsX10_choices : List Cond := cw 3732 :: wI qaop
theorem qaMZ : okM 3732 qaop = true := qaq (by decide +kernel)
def qaL3 : List Nat := [3735]
def wsX10_power : List Cond := cw 3735 :: wI qaL3
theorem qaXE : okM 3735 qaL3 = true := qaq (by decide +kernel)
def qaQy : List Nat := [2, 653, 654, 655, 656, 657, 658, 659, 660, 661, 662, 663, 704, 705, 706, 3729, 3730, 3731, 3732, 3733, 3734, 3735, 4352, 4353, 4354, 4355, 4356, 4357, 4358, 4359, 4360, 4361, 4362, 4363, 4364, 4365, 4366, 4367, 4368, 4369, 4370]
def wsX10_few : List Cond := cw 3729 :: (wI qaQy ++ (vx_atS RX10 409 "java/lang/IllegalArgumentException" ["java/lang/RuntimeException", "java/lang/Exception"]).filter goodWord)
theorem qVv : ∀ i ∈ qaQy, cw i ∈ wsX10_few := fun i h => List.mem_cons_of_mem _ (List.mem_append_left _ (List.mem_map_of_mem h))
theorem qa9d : okM 3729 qaQy = true := qaq (by decide +kernel)
def qaV7 : List Nat := [3793]
def wsX10_gain : List Cond := cw 3793 :: wI qaV7
theorem qa1x : okM 3793 qaV7 = true := qaq (by decide +kernel)
def qawQ : List Nat := [2, 653, 654, 655, 656, 657, 658, 659, 660, 661, 662, 663, 704, 705, 706, 3790, 3791, 3792, 3793, 4352, 4353, 4354, 4355, 4356, 4357, 4358, 4359, 4360, 4361, 4362, 4363, 4364, 4365, 4366, 4367, 4368, 4369, 4370]
def wsX10_road : List Cond := cw 3790 :: (wI qawQ ++ (vx_atS RX10 409 "java/lang/IllegalArgumentException" ["java/lang/RuntimeException", "java/lang/Exception"]).filter goodWord)
theorem q5n : ∀ i ∈ qawQ, cw i ∈ wsX10_road := fun i h => List.mem_cons_of_mem _ (List.mem_append_left _ (List.mem_map_of_mem h))
theorem qa2e : okM 3790 qawQ = true := qaq (by decide +kernel)
def qaaI : List Nat := [2, 20, 78, 79, 276, 277, 322, 324, 644, 650, 651, 652, 653, 654, 655, 656, 657, 658, 659, 660, 661, 662, 663, 704, 705, 706, 1860, 1861, 1862, 1863, 1864, 1865, 1866, 1867, 2052, 2053, 2690, 2691, 2692, 2711, 2752, 2753, 2754, 3404, 3847, 3848, 3849, 3850, 3851, 3852, 3853, 3854, 3855, 3856, 4352, 4353, 4354, 4355, 4356, 4357, 4358, 4359, 4360, 4361, 4362, 4363, 4364, 4365, 4366, 4367, 4368, 4369, 4370, 4544, 4545, 4546, 4547, 4548, 4549, 4550, 4551, 4552, 4553, 4554, 4555, 4800, 4801, 4802, 4803]
def wsX10_clover : List Cond := cw 3847 :: (wI qaaI ++ (qqx RX10 268 "java/util/NoSuchElementException" 13 qxz ["java/lang/RuntimeException", "java/lang/Exception"]).filter goodWord ++ (vx_atS RX10 409 "java/lang/IllegalArgumentException" ["java/lang/RuntimeException", "java/lang/Exception"]).filter goodWord)
theorem qrq : ∀ i ∈ qaaI, cw i ∈ wsX10_clover := fun i h => List.mem_cons_of_mem _ (List.mem_append_left _ (List.mem_append_left _ (List.mem_map_of_mem h)))
theorem qaS9 : okM 3847 qaaI = true := qaq (by decide +kernel)
def qTp : List Nat := [2, 20, 78, 79, 276, 644, 653, 654, 655, 656, 657, 658, 659, 660, 661, 662, 663, 704, 705, 706, 1742, 1743, 1744, 1809, 1810, 1811, 2755, 2757, 3911, 4352, 4353, 4354, 4355, 4356, 4357, 4358, 4359, 4360, 4361, 4362, 4363, 4364, 4365, 4366, 4367, 4368, 4369, 4370, 4544, 4545, 4546, 4547, 4548, 4549, 4550, 4551, 4552, 4553, 4554, 4555, 4800, 4801, 4802, 4803]
def wsX10_strongest : List Cond := cw 3911 :: (wI qTp ++ (vx_atS RX10 409 "java/lang/IllegalArgumentException" ["java/lang/RuntimeException", "java/lang/Exception"]).filter goodWord)
theorem qpk : ∀ i ∈ qTp, cw i ∈ wsX10_strongest := fun i h => List.mem_cons_of_mem _ (List.mem_append_left _ (List.mem_map_of_mem h))
theorem qaBO : okM 3911 qTp = true := qaq (by decide +kernel)
def qavW : List Nat := [2, 20, 78, 79, 276, 644, 653, 654, 655, 656, 657, 658, 659, 660, 661, 662, 663, 704, 705, 706, 1861, 1862, 1863, 2690, 2691, 2692, 2711, 2752, 2753, 2754, 2831, 3922, 4352, 4353, 4354, 4355, 4356, 4357, 4358, 4359, 4360, 4361, 4362, 4363, 4364, 4365, 4366, 4367, 4368, 4369, 4370, 4544, 4545, 4546, 4547, 4548, 4549, 4550, 4551, 4552, 4553, 4554, 4555, 4800, 4801, 4802, 4803]
def wsX10_ties : List Cond := cw 3922 :: (wI qavW ++ (qqx RX10 268 "java/util/NoSuchElementException" 13 qxz ["java/lang/RuntimeException", "java/lang/Exception"]).filter goodWord ++ (vx_atS RX10 409 "java/lang/IllegalArgumentException" ["java/lang/RuntimeException", "java/lang/Exception"]).filter goodWord)
theorem qyO : ∀ i ∈ qavW, cw i ∈ wsX10_ties := fun i h => List.mem_cons_of_mem _ (List.mem_append_left _ (List.mem_append_left _ (List.mem_map_of_mem h)))
theorem qa2b : okM 3922 qavW = true := qaq (by decide +kernel)
def qacx : List Nat := [2, 19, 20, 148, 149, 651, 653, 654, 655, 656, 657, 658, 659, 660, 661, 662, 663, 704, 705, 706, 1047, 1092, 1093, 1094, 1557, 1750, 1751, 1792, 2052, 2053, 2063, 2064, 2065, 2646, 2647, 2688, 2689, 2690, 2691, 2692, 2693, 2887, 3973, 4352, 4353, 4354, 4355, 4356, 4357, 4358, 4359, 4360, 4361, 4362, 4363, 4364, 4365, 4366, 4367, 4368, 4369, 4370, 4544, 4545, 4546, 4547, 4548, 4549, 4550, 4551, 4552, 4553, 4554, 4555]
def wsX10_refuge : List Cond := cw 3973 :: (wI qacx ++ (qqx RX10 268 "java/util/NoSuchElementException" 13 qxz ["java/lang/RuntimeException", "java/lang/Exception"]).filter goodWord ++ (vx_atS RX10 409 "java/lang/IllegalArgumentException" ["java/lang/RuntimeException", "java/lang/Exception"]).filter goodWord)
theorem qsA : ∀ i ∈ qacx, cw i ∈ wsX10_refuge := fun i h => List.mem_cons_of_mem _ (List.mem_append_left _ (List.mem_append_left _ (List.mem_map_of_mem h)))
theorem qaT4 : okM 3973 qacx = true := qaq (by decide +kernel)
def qamn : List Nat := [2, 19, 20, 64, 78, 79, 148, 149, 200, 201, 202, 203, 208, 276, 322, 323, 324, 644, 650, 651, 652, 657, 658, 659, 720, 1092, 1093, 1094, 1741, 1742, 1743, 1744, 1745, 1746, 1747, 1748, 1750, 1751, 1792, 1793, 1794, 1795, 1796, 1797, 1798, 1799, 1800, 1801, 1802, 1803, 1804, 1805, 1806, 1807, 1808, 1809, 1810, 1811, 1812, 1813, 1814, 1815, 1856, 1857, 1858, 1859, 1860, 1861, 1862, 1863, 1864, 1865, 1866, 1867, 1868, 1869, 1870, 1871, 1872, 1873, 1874, 1875, 1876, 1877, 1878, 1879, 1920, 1921, 1922, 1923, 1924, 1925, 1926, 1927, 1928, 1929, 1930, 1931, 1932, 1933, 1934, 2690, 2691, 2692, 2711, 2752, 2753, 2754, 3026, 3027, 3028, 3029, 3094, 3095, 3136, 3984, 3985, 4352, 4353, 4354, 4355, 4356, 4357, 4358, 4359, 4360, 4361, 4362, 4363, 4364, 4365, 4366, 4367, 4368, 4369, 4370, 4544, 4545, 4546, 4547, 4548, 4549, 4550, 4551, 4552, 4553, 4554, 4555, 4608, 4609, 4610, 4611, 4612, 4800, 4801, 4802, 4803]
def wsX10_range : List Cond := cw 3984 :: (wI qamn ++ (qqx RX10 268 "java/util/NoSuchElementException" 13 qxz ["java/lang/RuntimeException", "java/lang/Exception"]).filter goodWord)
theorem qJV : ∀ i ∈ qamn, cw i ∈ wsX10_range := fun i h => List.mem_cons_of_mem _ (List.mem_append_left _ (List.mem_map_of_mem h))
theorem qaWL : okM 3984 qamn = true := qaq (by decide +kernel)
def qakg : List Nat := [2, 19, 64, 78, 79, 80, 148, 149, 200, 201, 202, 203, 208, 276, 322, 323, 324, 326, 328, 329, 330, 331, 650, 651, 652, 653, 654, 655, 656, 657, 658, 659, 660, 661, 662, 663, 704, 705, 706, 1047, 1092, 1093, 1094, 1738, 1739, 1740, 1741, 1742, 1743, 1744, 1745, 1746, 1747, 1748, 1749, 1750, 1751, 1792, 1793, 1794, 1795, 1796, 1797, 1798, 1799, 1800, 1801, 1802, 1803, 1804, 1805, 1806, 1807, 1808, 1809, 1810, 1811, 1812, 1813, 1814, 1815, 1856, 1857, 1858, 1859, 1860, 1861, 1862, 1863, 1864, 1865, 1866, 1867, 1868, 1869, 1870, 1871, 1872, 1873, 1874, 1875, 1876, 1877, 1878, 1879, 1920, 1921, 1922, 1923, 1924, 1925, 1926, 1927, 1928, 1929, 1930, 1931, 1932, 1933, 1934, 1936, 1937, 1938, 1992, 1993, 1994, 1995, 1996, 1997, 1998, 2000, 2001, 2002, 2003, 2049, 2050, 2051, 2052, 2053, 2054, 2055, 2056, 2057, 2058, 2059, 2060, 2061, 2062, 2063, 2064, 2065, 2066, 2067, 2068, 2069, 2518, 2560, 2561, 2562, 2563, 2965, 2966, 2967, 3008, 4036, 4037, 4038, 4039, 4040, 4041, 4042, 4043, 4044, 4045, 4046, 4047, 4048, 4049, 4050, 4051, 4052, 4053, 4054, 4055, 4096, 4097, 4098, 4099, 4100, 4101, 4102, 4103, 4104, 4105, 4352, 4353, 4354, 4355, 4356, 4357, 4358, 4359, 4360, 4361, 4362, 4363, 4364, 4365, 4366, 4367, 4368, 4369, 4370, 4544, 4545, 4546, 4547, 4548, 4549, 4550, 4551, 4552, 4553, 4554, 4555, 4608, 4609, 4610, 4611, 4612, 4800, 4801, 4802, 4803]
def wsX10_march : List Cond := cw 4036 :: (wI qakg ++ (vx_atS RX10 409 "java/lang/IllegalArgumentException" ["java/lang/RuntimeException", "java/lang/Exception"]).filter goodWord)
theorem qq5 : ∀ i ∈ qakg, cw i ∈ wsX10_march := fun i h => List.mem_cons_of_mem _ (List.mem_append_left _ (List.mem_map_of_mem h))
theorem qaYU : okM 4036 qakg = true := qaq (by decide +kernel)
def qaEh : List Nat := [2, 19, 20, 64, 78, 79, 80, 148, 149, 200, 201, 202, 203, 208, 276, 322, 323, 324, 326, 328, 329, 330, 331, 644, 649, 650, 651, 652, 653, 654, 655, 656, 657, 658, 659, 660, 661, 662, 663, 704, 705, 706, 1047, 1092, 1093, 1094, 1738, 1739, 1740, 1741, 1742, 1743, 1744, 1745, 1746, 1747, 1748, 1749, 1750, 1751, 1792, 1793, 1794, 1795, 1796, 1797, 1798, 1799, 1800, 1801, 1802, 1803, 1804, 1805, 1806, 1807, 1808, 1809, 1810, 1811, 1812, 1813, 1814, 1815, 1856, 1857, 1858, 1859, 1860, 1861, 1862, 1863, 1864, 1865, 1866, 1867, 1868, 1869, 1870, 1871, 1872, 1873, 1874, 1875, 1876, 1877, 1878, 1879, 1920, 1921, 1922, 1923, 1924, 1925, 1926, 1927, 1928, 1929, 1930, 1931, 1932, 1933, 1934, 1936, 1937, 1938, 1992, 1993, 1994, 1995, 1996, 1997, 1998, 2000, 2001, 2002, 2003, 2049, 2050, 2051, 2052, 2053, 2054, 2055, 2056, 2057, 2058, 2059, 2060, 2061, 2062, 2063, 2064, 2065, 2066, 2067, 2068, 2069, 2755, 2965, 2966, 2967, 3008, 3408, 4037, 4038, 4039, 4040, 4041, 4042, 4043, 4044, 4045, 4046, 4047, 4048, 4049, 4050, 4051, 4052, 4053, 4054, 4055, 4096, 4097, 4098, 4099, 4100, 4101, 4171, 4172, 4352, 4353, 4354, 4355, 4356, 4357, 4358, 4359, 4360, 4361, 4362, 4363, 4364, 4365, 4366, 4367, 4368, 4369, 4370, 4544, 4545, 4546, 4547, 4548, 4549, 4550, 4551, 4552, 4553, 4554, 4555, 4608, 4609, 4610, 4611, 4612, 4800, 4801, 4802, 4803]
def wsX10_span : List Cond := cw 4171 :: (wI qaEh ++ (vx_atS RX10 409 "java/lang/IllegalArgumentException" ["java/lang/RuntimeException", "java/lang/Exception"]).filter goodWord)
theorem qnz : ∀ i ∈ qaEh, cw i ∈ wsX10_span := fun i h => List.mem_cons_of_mem _ (List.mem_append_left _ (List.mem_map_of_mem h))
theorem qa2q : okM 4171 qaEh = true := qaq (by decide +kernel)
def qaLl : List Nat := [79, 83, 84, 85, 329, 330, 331, 335, 642, 1672, 1673, 1674, 1675, 1676, 1677, 1678, 4180, 4181, 4182, 4183, 4224, 4352, 4353, 4354, 4355, 4356, 4357, 4358, 4359, 4360, 4361, 4362, 4363, 4364, 4365, 4366, 4367, 4368, 4369, 4370, 4800, 4801, 4802, 4803, 4864, 4865]
def wsX10_image : List Cond := cw 4180 :: wI qaLl
theorem qz0 : ∀ i ∈ qaLl, cw i ∈ wsX10_image := fun i h => List.mem_cons_of_mem _ (List.mem_map_of_mem h)
def qan3 : List Nat := [79, 83, 84, 85, 329, 330, 331, 335, 642, 643, 1676, 1677, 1678, 2501, 2502, 2503, 2504, 4181, 4182, 4183, 4224, 4240, 4352, 4353, 4354, 4355, 4356, 4357, 4358, 4359, 4360, 4361, 4362, 4363, 4364, 4365, 4366, 4367, 4368, 4369, 4370, 4800, 4801, 4802, 4803, 4864, 4865]
def wsX10_restore : List Cond := cw 4240 :: wI qan3
theorem qtJ : ∀ i ∈ qan3, cw i ∈ wsX10_restore := fun i h => List.mem_cons_of_mem _ (List.mem_map_of_mem h)
def qaxo : List Nat := [706, 2692, 4288, 4352, 4353, 4354, 4355, 4356, 4357, 4358, 4359, 4360, 4361, 4362, 4363, 4364, 4365, 4366, 4367, 4368, 4369, 4370]
def wsX10_status : List Cond := cw 4288 :: wI qaxo
theorem q2x : ∀ i ∈ qaxo, cw i ∈ wsX10_status := fun i h => List.mem_cons_of_mem _ (List.mem_map_of_mem h)
def qaMj : List Nat := [16, 84, 535, 641, 642, 4296, 4352, 4353, 4354, 4355, 4356, 4357, 4358, 4359, 4360, 4361, 4362, 4363, 4364, 4365, 4366, 4367, 4368, 4369, 4370, 4480, 4481, 4482, 4483, 4484, 4485, 4486, 4864, 4865]
def wsX10_count : List Cond := cw 4296 :: wI qaMj
theorem qBq : ∀ i ∈ qaMj, cw i ∈ wsX10_count := fun i h => List.mem_cons_of_mem _ (List.mem_map_of_mem h)
def qaCS : List Nat := [589, 2839, 4416, 4417, 4418, 4419, 4420, 4421, 4422, 4423, 4424, 4425, 4426, 4427, 4428, 4429, 4430, 4431, 4432, 4433, 4434, 4435, 4436, 4437, 4438, 4439, 4440, 4441, 4442, 4443, 4444, 4445, 4446, 4447, 4448, 4449, 4450, 4451, 4452, 4453, 4454, 4455, 4456, 4457, 4458, 4459, 4460, 4461, 4462, 4463, 4464, 4465, 4466, 4467, 4468, 4469, 4470]
def wsX11_thrown : List Cond := cw 2839 :: wI qaCS
theorem qaoG : ∀ i ∈ qaCS, cw i ∈ wsX11_thrown := fun i h => List.mem_cons_of_mem _ (List.mem_map_of_mem h)
def qaPJ : List Nat := [398, 589, 1108, 4416, 4417, 4418, 4419, 4420, 4421, 4422, 4423, 4424, 4425, 4426, 4427, 4428, 4429, 4430, 4431, 4432, 4433, 4434, 4435, 4436, 4437, 4438, 4439, 4440, 4441, 4442, 4443, 4444, 4445, 4446, 4447, 4448, 4449, 4450, 4451, 4452, 4453, 4454, 4455, 4456, 4457, 4458, 4459, 4460, 4461, 4462, 4463, 4464, 4465, 4466, 4467, 4468, 4469, 4470]
def wsX11_may : List Cond := cw 1108 :: wI qaPJ
theorem qaDC : ∀ i ∈ qaPJ, cw i ∈ wsX11_may := fun i h => List.mem_cons_of_mem _ (List.mem_map_of_mem h)
theorem qoN : okM 1108 qaPJ = true := qaq (by decide +kernel)
def qaDB : List Nat := [2579]
def wsX11_within : List Cond := cw 2579 :: wI qaDB
theorem qix : okM 2579 qaDB = true := qaq (by decide +kernel)
def qaaK : List Nat := [404, 471, 512, 513, 514, 4416, 4417, 4418, 4419, 4420, 4421, 4422, 4423, 4424, 4425, 4426, 4427, 4428, 4429, 4430, 4431, 4432, 4433, 4434, 4435, 4436, 4437, 4438, 4439, 4440, 4441, 4442, 4443, 4444, 4445, 4446, 4447, 4448, 4449, 4450, 4451, 4452, 4453, 4454, 4455, 4456, 4457, 4458, 4459, 4460, 4461, 4462, 4463, 4464, 4465, 4466, 4467, 4468, 4469, 4470]
def wsX11_clears : List Cond := cw 471 :: wI qaaK
theorem qK6 : ∀ i ∈ qaaK, cw i ∈ wsX11_clears := fun i h => List.mem_cons_of_mem _ (List.mem_map_of_mem h)
theorem qaoy : okM 471 qaaK = true := qaq (by decide +kernel)
def qaw0 : List Nat := [530]
def wsX11_copies : List Cond := cw 530 :: wI qaw0
theorem qLe : okM 530 qaw0 = true := qaq (by decide +kernel)
def qaC0 : List Nat := [5, 401, 402, 403, 404, 405, 406, 407, 456, 460, 512, 513, 514, 518, 519, 520, 521, 522, 523, 524, 525, 526, 527, 528, 529, 530, 4416, 4417, 4418, 4419, 4420, 4421, 4422, 4423, 4424, 4425, 4426, 4427, 4428, 4429, 4430, 4431, 4432, 4433, 4434, 4435, 4436, 4437, 4438, 4439, 4440, 4441, 4442, 4443, 4444, 4445, 4446, 4447, 4448, 4449, 4450, 4451, 4452, 4453, 4454, 4455, 4456, 4457, 4458, 4459, 4460, 4461, 4462, 4463, 4464, 4465, 4466, 4467, 4468, 4469, 4470]
def wsX11_sets : List Cond := cw 518 :: wI qaC0
theorem qm6 : ∀ i ∈ qaC0, cw i ∈ wsX11_sets := fun i h => List.mem_cons_of_mem _ (List.mem_map_of_mem h)
theorem qaLP : okM 518 qaC0 = true := qaq (by decide +kernel)
def qaWq : List Nat := [5, 6, 11, 12, 147, 396, 397, 398, 399, 400, 401, 402, 403, 404, 405, 406, 407, 448, 449, 450, 451, 452, 453, 454, 455, 456, 457, 458, 459, 460, 461, 462, 463, 464, 465, 466, 467, 468, 469, 470, 471, 512, 513, 514, 515, 516, 517, 518, 519, 520, 521, 522, 523, 524, 525, 526, 527, 528, 529, 530, 4416, 4417, 4418, 4419, 4420, 4421, 4422, 4423, 4424, 4425, 4426, 4427, 4428, 4429, 4430, 4431, 4432, 4433, 4434, 4435, 4436, 4437, 4438, 4439, 4440, 4441, 4442, 4443, 4444, 4445, 4446, 4447, 4448, 4449, 4450, 4451, 4452, 4453, 4454, 4455, 4456, 4457, 4458, 4459, 4460, 4461, 4462, 4463, 4464, 4465, 4466, 4467, 4468, 4469, 4470]
def wsX11_init : List Cond := cw 396 :: wI qaWq
theorem qcx : ∀ i ∈ qaWq, cw i ∈ wsX11_init := fun i h => List.mem_cons_of_mem _ (List.mem_map_of_mem h)
def qaVL : List Nat := [400, 588, 589, 590, 4416, 4417, 4418, 4419, 4420, 4421, 4422, 4423, 4424, 4425, 4426, 4427, 4428, 4429, 4430, 4431, 4432, 4433, 4434, 4435, 4436, 4437, 4438, 4439, 4440, 4441, 4442, 4443, 4444, 4445, 4446, 4447, 4448, 4449, 4450, 4451, 4452, 4453, 4454, 4455, 4456, 4457, 4458, 4459, 4460, 4461, 4462, 4463, 4464, 4465, 4466, 4467, 4468, 4469, 4470]
def wsX11_feed : List Cond := cw 588 :: wI qaVL
theorem q4W : ∀ i ∈ qaVL, cw i ∈ wsX11_feed := fun i h => List.mem_cons_of_mem _ (List.mem_map_of_mem h)
def qavS : List Nat := [1104, 1158, 4416, 4417, 4418, 4419, 4420, 4421, 4422, 4423, 4424, 4425, 4426, 4427, 4428, 4429, 4430, 4431, 4432, 4433, 4434, 4435, 4436, 4437, 4438, 4439, 4440, 4441, 4442, 4443, 4444, 4445, 4446, 4447, 4448, 4449, 4450, 4451, 4452, 4453, 4454, 4455, 4456, 4457, 4458, 4459, 4460, 4461, 4462, 4463, 4464, 4465, 4466, 4467, 4468, 4469, 4470]
def wsX11_fine : List Cond := cw 1158 :: wI qavS
theorem qaLZ : ∀ i ∈ qavS, cw i ∈ wsX11_fine := fun i h => List.mem_cons_of_mem _ (List.mem_map_of_mem h)
theorem qsT : okM 1158 qavS = true := qaq (by decide +kernel)
def qak9 : List Nat := [1104, 1225, 1226, 4416, 4417, 4418, 4419, 4420, 4421, 4422, 4423, 4424, 4425, 4426, 4427, 4428, 4429, 4430, 4431, 4432, 4433, 4434, 4435, 4436, 4437, 4438, 4439, 4440, 4441, 4442, 4443, 4444, 4445, 4446, 4447, 4448, 4449, 4450, 4451, 4452, 4453, 4454, 4455, 4456, 4457, 4458, 4459, 4460, 4461, 4462, 4463, 4464, 4465, 4466, 4467, 4468, 4469, 4470]
def wsX11_wrong : List Cond := cw 1225 :: wI qak9
theorem qab0 : ∀ i ∈ qak9, cw i ∈ wsX11_wrong := fun i h => List.mem_cons_of_mem _ (List.mem_map_of_mem h)
theorem qzR : okM 1225 qak9 = true := qaq (by decide +kernel)
def qaAf : List Nat := [400, 1103, 1153, 1166, 4416, 4417, 4418, 4419, 4420, 4421, 4422, 4423, 4424, 4425, 4426, 4427, 4428, 4429, 4430, 4431, 4432, 4433, 4434, 4435, 4436, 4437, 4438, 4439, 4440, 4441, 4442, 4443, 4444, 4445, 4446, 4447, 4448, 4449, 4450, 4451, 4452, 4453, 4454, 4455, 4456, 4457, 4458, 4459, 4460, 4461, 4462, 4463, 4464, 4465, 4466, 4467, 4468, 4469, 4470]
def wsX11_here : List Cond := cw 1166 :: wI qaAf
theorem q47 : ∀ i ∈ qaAf, cw i ∈ wsX11_here := fun i h => List.mem_cons_of_mem _ (List.mem_map_of_mem h)
theorem qAD : okM 1166 qaAf = true := qaq (by decide +kernel)
def qan2 : List Nat := [1173]
def wsX11_isSmall : List Cond := cw 1173 :: wI qan2
theorem qado : okM 1173 qan2 = true := qaq (by decide +kernel)
def qaof : List Nat := [1285]
def wsX11_isDigit : List Cond := cw 1285 :: wI qaof
theorem qagl : okM 1285 qaof = true := qaq (by decide +kernel)
def qazJ : List Nat := [5, 400, 1103, 1153, 1163, 1164, 1165, 1166, 1170, 1171, 1172, 1173, 4416, 4417, 4418, 4419, 4420, 4421, 4422, 4423, 4424, 4425, 4426, 4427, 4428, 4429, 4430, 4431, 4432, 4433, 4434, 4435, 4436, 4437, 4438, 4439, 4440, 4441, 4442, 4443, 4444, 4445, 4446, 4447, 4448, 4449, 4450, 4451, 4452, 4453, 4454, 4455, 4456, 4457, 4458, 4459, 4460, 4461, 4462, 4463, 4464, 4465, 4466, 4467, 4468, 4469, 4470]
def wsX11_word : List Cond := cw 1170 :: wI qazJ
theorem qGu : ∀ i ∈ qazJ, cw i ∈ wsX11_word := fun i h => List.mem_cons_of_mem _ (List.mem_map_of_mem h)
theorem q5k : okM 1170 qazJ = true := qaq (by decide +kernel)
def qaYx : List Nat := [784, 785, 786, 787, 788, 789, 790, 791, 832, 833, 834, 841, 842, 843, 844, 845, 846, 847, 848, 849, 850, 851, 852, 853, 854, 855, 896, 897, 898, 899, 900, 901, 902, 903, 904, 905, 906, 907, 908, 909, 910, 911, 912, 913, 914, 915, 916, 1219, 1220, 1221]
def wsX11_of : List Cond := cw 1219 :: wI qaYx
theorem qau9 : ∀ i ∈ qaYx, cw i ∈ wsX11_of := fun i h => List.mem_cons_of_mem _ (List.mem_map_of_mem h)
theorem q4U : okM 1219 qaYx = true := qaq (by decide +kernel)
def qayK : List Nat := [5, 400, 1103, 1153, 1171, 1172, 1173, 1234, 4416, 4417, 4418, 4419, 4420, 4421, 4422, 4423, 4424, 4425, 4426, 4427, 4428, 4429, 4430, 4431, 4432, 4433, 4434, 4435, 4436, 4437, 4438, 4439, 4440, 4441, 4442, 4443, 4444, 4445, 4446, 4447, 4448, 4449, 4450, 4451, 4452, 4453, 4454, 4455, 4456, 4457, 4458, 4459, 4460, 4461, 4462, 4463, 4464, 4465, 4466, 4467, 4468, 4469, 4470]
def wsX11_pass : List Cond := cw 1234 :: wI qayK
theorem qOC : ∀ i ∈ qayK, cw i ∈ wsX11_pass := fun i h => List.mem_cons_of_mem _ (List.mem_map_of_mem h)
theorem qajE : okM 1234 qayK = true := qaq (by decide +kernel)
def qPy : List Nat := [5, 400, 1103, 1104, 1153, 1155, 1156, 1157, 1158, 1163, 1164, 1165, 1166, 1222, 1223, 1224, 1225, 1226, 1282, 1283, 1284, 1285, 4416, 4417, 4418, 4419, 4420, 4421, 4422, 4423, 4424, 4425, 4426, 4427, 4428, 4429, 4430, 4431, 4432, 4433, 4434, 4435, 4436, 4437, 4438, 4439, 4440, 4441, 4442, 4443, 4444, 4445, 4446, 4447, 4448, 4449, 4450, 4451, 4452, 4453, 4454, 4455, 4456, 4457, 4458, 4459, 4460, 4461, 4462, 4463, 4464, 4465, 4466, 4467, 4468, 4469, 4470]
def wsX11_readNumber : List Cond := cw 1282 :: wI qPy
theorem qmY : ∀ i ∈ qPy, cw i ∈ wsX11_readNumber := fun i h => List.mem_cons_of_mem _ (List.mem_map_of_mem h)
theorem quK : okM 1282 qPy = true := qaq (by decide +kernel)
def qayi : List Nat := [5, 400, 1103, 1104, 1153, 1155, 1156, 1157, 1158, 1163, 1164, 1165, 1166, 1222, 1223, 1224, 1225, 1226, 1297, 4416, 4417, 4418, 4419, 4420, 4421, 4422, 4423, 4424, 4425, 4426, 4427, 4428, 4429, 4430, 4431, 4432, 4433, 4434, 4435, 4436, 4437, 4438, 4439, 4440, 4441, 4442, 4443, 4444, 4445, 4446, 4447, 4448, 4449, 4450, 4451, 4452, 4453, 4454, 4455, 4456, 4457, 4458, 4459, 4460, 4461, 4462, 4463, 4464, 4465, 4466, 4467, 4468, 4469, 4470]
def wsX11_sign : List Cond := cw 1297 :: wI qayi
theorem qGq : ∀ i ∈ qayi, cw i ∈ wsX11_sign := fun i h => List.mem_cons_of_mem _ (List.mem_map_of_mem h)
theorem qVg : okM 1297 qayi = true := qaq (by decide +kernel)
def qabj : List Nat := [5, 400, 1103, 1153, 1162, 1163, 1164, 1165, 1166, 4416, 4417, 4418, 4419, 4420, 4421, 4422, 4423, 4424, 4425, 4426, 4427, 4428, 4429, 4430, 4431, 4432, 4433, 4434, 4435, 4436, 4437, 4438, 4439, 4440, 4441, 4442, 4443, 4444, 4445, 4446, 4447, 4448, 4449, 4450, 4451, 4452, 4453, 4454, 4455, 4456, 4457, 4458, 4459, 4460, 4461, 4462, 4463, 4464, 4465, 4466, 4467, 4468, 4469, 4470]
def wsX11_isMore : List Cond := cw 1162 :: wI qabj
theorem qLs : ∀ i ∈ qabj, cw i ∈ wsX11_isMore := fun i h => List.mem_cons_of_mem _ (List.mem_map_of_mem h)
theorem qR7 : okM 1162 qabj = true := qaq (by decide +kernel)
def q94 : List Nat := [399, 590, 1103, 1104, 1152, 1153, 1154, 4416, 4417, 4418, 4419, 4420, 4421, 4422, 4423, 4424, 4425, 4426, 4427, 4428, 4429, 4430, 4431, 4432, 4433, 4434, 4435, 4436, 4437, 4438, 4439, 4440, 4441, 4442, 4443, 4444, 4445, 4446, 4447, 4448, 4449, 4450, 4451, 4452, 4453, 4454, 4455, 4456, 4457, 4458, 4459, 4460, 4461, 4462, 4463, 4464, 4465, 4466, 4467, 4468, 4469, 4470]
def wsX11_begins : List Cond := cw 1152 :: wI q94
theorem qBO : ∀ i ∈ q94, cw i ∈ wsX11_begins := fun i h => List.mem_cons_of_mem _ (List.mem_map_of_mem h)
theorem qRH : okM 1152 q94 = true := qaq (by decide +kernel)
def qaac : List Nat := [5, 399, 1104, 1155, 1156, 1157, 1158, 1226, 1301, 4416, 4417, 4418, 4419, 4420, 4421, 4422, 4423, 4424, 4425, 4426, 4427, 4428, 4429, 4430, 4431, 4432, 4433, 4434, 4435, 4436, 4437, 4438, 4439, 4440, 4441, 4442, 4443, 4444, 4445, 4446, 4447, 4448, 4449, 4450, 4451, 4452, 4453, 4454, 4455, 4456, 4457, 4458, 4459, 4460, 4461, 4462, 4463, 4464, 4465, 4466, 4467, 4468, 4469, 4470]
def wsX11_result : List Cond := cw 1301 :: wI qaac
theorem qGG : ∀ i ∈ qaac, cw i ∈ wsX11_result := fun i h => List.mem_cons_of_mem _ (List.mem_map_of_mem h)
theorem qSy : okM 1301 qaac = true := qaq (by decide +kernel)
def qaMo : List Nat := [399, 589, 2496, 4416, 4417, 4418, 4419, 4420, 4421, 4422, 4423, 4424, 4425, 4426, 4427, 4428, 4429, 4430, 4431, 4432, 4433, 4434, 4435, 4436, 4437, 4438, 4439, 4440, 4441, 4442, 4443, 4444, 4445, 4446, 4447, 4448, 4449, 4450, 4451, 4452, 4453, 4454, 4455, 4456, 4457, 4458, 4459, 4460, 4461, 4462, 4463, 4464, 4465, 4466, 4467, 4468, 4469, 4470]
def wsX11_fault : List Cond := cw 2496 :: wI qaMo
theorem q9N : ∀ i ∈ qaMo, cw i ∈ wsX11_fault := fun i h => List.mem_cons_of_mem _ (List.mem_map_of_mem h)
def qWy : List Nat := [5, 400, 513, 1103, 1104, 1153, 1155, 1156, 1157, 1158, 1163, 1164, 1165, 1166, 1222, 1223, 1224, 1225, 1226, 1239, 1280, 1281, 1282, 1283, 1284, 1285, 1293, 4416, 4417, 4418, 4419, 4420, 4421, 4422, 4423, 4424, 4425, 4426, 4427, 4428, 4429, 4430, 4431, 4432, 4433, 4434, 4435, 4436, 4437, 4438, 4439, 4440, 4441, 4442, 4443, 4444, 4445, 4446, 4447, 4448, 4449, 4450, 4451, 4452, 4453, 4454, 4455, 4456, 4457, 4458, 4459, 4460, 4461, 4462, 4463, 4464, 4465, 4466, 4467, 4468, 4469, 4470]
def wsX11_readHare : List Cond := cw 1293 :: wI qWy
theorem qKs : ∀ i ∈ qWy, cw i ∈ wsX11_readHare := fun i h => List.mem_cons_of_mem _ (List.mem_map_of_mem h)
theorem qaIZ : okM 1293 qWy = true := qaq (by decide +kernel)
def qWF : List Nat := [5, 400, 404, 513, 1103, 1104, 1153, 1155, 1156, 1157, 1158, 1163, 1164, 1165, 1166, 1222, 1223, 1224, 1225, 1226, 1239, 1280, 1281, 1282, 1283, 1284, 1285, 1289, 1290, 1291, 1292, 1293, 4416, 4417, 4418, 4419, 4420, 4421, 4422, 4423, 4424, 4425, 4426, 4427, 4428, 4429, 4430, 4431, 4432, 4433, 4434, 4435, 4436, 4437, 4438, 4439, 4440, 4441, 4442, 4443, 4444, 4445, 4446, 4447, 4448, 4449, 4450, 4451, 4452, 4453, 4454, 4455, 4456, 4457, 4458, 4459, 4460, 4461, 4462, 4463, 4464, 4465, 4466, 4467, 4468, 4469, 4470]
def wsX11_readDebt : List Cond := cw 1289 :: wI qWF
theorem qoh : ∀ i ∈ qWF, cw i ∈ wsX11_readDebt := fun i h => List.mem_cons_of_mem _ (List.mem_map_of_mem h)
theorem qaJ6 : okM 1289 qWF = true := qaq (by decide +kernel)
def qam7 : List Nat := [5, 784, 785, 786, 787, 788, 789, 790, 791, 832, 833, 834, 841, 842, 843, 844, 845, 846, 847, 848, 849, 850, 851, 852, 853, 854, 855, 896, 897, 898, 899, 900, 901, 902, 903, 904, 905, 906, 907, 908, 909, 910, 911, 912, 913, 914, 915, 916, 1216, 1217, 1218, 1219, 1220, 1221]
def wsX11_isRow : List Cond := cw 1216 :: wI qam7
theorem qaCC : ∀ i ∈ qam7, cw i ∈ wsX11_isRow := fun i h => List.mem_cons_of_mem _ (List.mem_map_of_mem h)
theorem qaZG : okM 1216 qam7 = true := qaq (by decide +kernel)
def qaaH : List Nat := [5, 512, 513, 514, 784, 785, 786, 787, 788, 789, 790, 791, 832, 833, 834, 841, 842, 843, 844, 845, 846, 847, 848, 849, 850, 851, 852, 853, 854, 855, 896, 897, 898, 899, 900, 901, 902, 903, 904, 905, 906, 907, 908, 909, 910, 911, 912, 913, 914, 915, 916, 1217, 1218, 1219, 1220, 1221, 1230, 4416, 4417, 4418, 4419, 4420, 4421, 4422, 4423, 4424, 4425, 4426, 4427, 4428, 4429, 4430, 4431, 4432, 4433, 4434, 4435, 4436, 4437, 4438, 4439, 4440, 4441, 4442, 4443, 4444, 4445, 4446, 4447, 4448, 4449, 4450, 4451, 4452, 4453, 4454, 4455, 4456, 4457, 4458, 4459, 4460, 4461, 4462, 4463, 4464, 4465, 4466, 4467, 4468, 4469, 4470]
def wsX11_isFull : List Cond := cw 1230 :: wI qaaH
theorem qGo : ∀ i ∈ qaaH, cw i ∈ wsX11_isFull := fun i h => List.mem_cons_of_mem _ (List.mem_map_of_mem h)
theorem qaVO : okM 1230 qaaH = true := qaq (by decide +kernel)
def q1D : List Nat := [5, 400, 401, 402, 403, 404, 512, 513, 514, 784, 785, 786, 787, 788, 789, 790, 791, 832, 833, 834, 841, 842, 843, 844, 845, 846, 847, 848, 849, 850, 851, 852, 853, 854, 855, 896, 897, 898, 899, 900, 901, 902, 903, 904, 905, 906, 907, 908, 909, 910, 911, 912, 913, 914, 915, 916, 1103, 1104, 1153, 1155, 1156, 1157, 1158, 1163, 1164, 1165, 1166, 1217, 1218, 1219, 1220, 1221, 1222, 1223, 1224, 1225, 1226, 1238, 1239, 1280, 1281, 1282, 1283, 1284, 1285, 1286, 1287, 1288, 1289, 1290, 1291, 1292, 1293, 4416, 4417, 4418, 4419, 4420, 4421, 4422, 4423, 4424, 4425, 4426, 4427, 4428, 4429, 4430, 4431, 4432, 4433, 4434, 4435, 4436, 4437, 4438, 4439, 4440, 4441, 4442, 4443, 4444, 4445, 4446, 4447, 4448, 4449, 4450, 4451, 4452, 4453, 4454, 4455, 4456, 4457, 4458, 4459, 4460, 4461, 4462, 4463, 4464, 4465, 4466, 4467, 4468, 4469, 4470]
def wsX11_readRow : List Cond := cw 1238 :: wI q1D
theorem qpH : ∀ i ∈ q1D, cw i ∈ wsX11_readRow := fun i h => List.mem_cons_of_mem _ (List.mem_map_of_mem h)
theorem qaMW : okM 1238 q1D = true := qaq (by decide +kernel)
def qaTQ : List Nat := [5, 398, 399, 400, 401, 402, 403, 404, 405, 406, 407, 456, 460, 468, 469, 470, 471, 512, 513, 514, 515, 516, 517, 518, 519, 520, 521, 522, 523, 524, 525, 526, 527, 528, 529, 530, 589, 590, 784, 785, 786, 787, 788, 789, 790, 791, 832, 833, 834, 841, 842, 843, 844, 845, 846, 847, 848, 849, 850, 851, 852, 853, 854, 855, 896, 897, 898, 899, 900, 901, 902, 903, 904, 905, 906, 907, 908, 909, 910, 911, 912, 913, 914, 915, 916, 1102, 1103, 1104, 1105, 1106, 1107, 1108, 1109, 1110, 1111, 1152, 1153, 1154, 1155, 1156, 1157, 1158, 1159, 1160, 1161, 1162, 1163, 1164, 1165, 1166, 1167, 1168, 1169, 1170, 1171, 1172, 1173, 1174, 1175, 1216, 1217, 1218, 1219, 1220, 1221, 1222, 1223, 1224, 1225, 1226, 1227, 1228, 1229, 1230, 1231, 1232, 1233, 1234, 1235, 1236, 1237, 1238, 1239, 1280, 1281, 1282, 1283, 1284, 1285, 1286, 1287, 1288, 1289, 1290, 1291, 1292, 1293, 1294, 1295, 1296, 1297, 1298, 1299, 1300, 1301, 4416, 4417, 4418, 4419, 4420, 4421, 4422, 4423, 4424, 4425, 4426, 4427, 4428, 4429, 4430, 4431, 4432, 4433, 4434, 4435, 4436, 4437, 4438, 4439, 4440, 4441, 4442, 4443, 4444, 4445, 4446, 4447, 4448, 4449, 4450, 4451, 4452, 4453, 4454, 4455, 4456, 4457, 4458, 4459, 4460, 4461, 4462, 4463, 4464, 4465, 4466, 4467, 4468, 4469, 4470]
def wsX11_down : List Cond := cw 1102 :: wI qaTQ
theorem qdJ : ∀ i ∈ qaTQ, cw i ∈ wsX11_down := fun i h => List.mem_cons_of_mem _ (List.mem_map_of_mem h)
def qavV : List Nat := [5, 448, 449, 1104, 1155, 1156, 1157, 1158, 1481, 1492, 4416, 4417, 4418, 4419, 4420, 4421, 4422, 4423, 4424, 4425, 4426, 4427, 4428, 4429, 4430, 4431, 4432, 4433, 4434, 4435, 4436, 4437, 4438, 4439, 4440, 4441, 4442, 4443, 4444, 4445, 4446, 4447, 4448, 4449, 4450, 4451, 4452, 4453, 4454, 4455, 4456, 4457, 4458, 4459, 4460, 4461, 4462, 4463, 4464, 4465, 4466, 4467, 4468, 4469, 4470]
def wsX11_emit : List Cond := cw 1492 :: wI qavV
theorem qOB : ∀ i ∈ qavV, cw i ∈ wsX11_emit := fun i h => List.mem_cons_of_mem _ (List.mem_map_of_mem h)
theorem q4V : okM 1492 qavV = true := qaq (by decide +kernel)
def qXe : List Nat := [5, 1103, 1104, 1154, 1155, 1156, 1157, 1158, 1222, 1223, 1224, 1225, 1226, 1541, 4416, 4417, 4418, 4419, 4420, 4421, 4422, 4423, 4424, 4425, 4426, 4427, 4428, 4429, 4430, 4431, 4432, 4433, 4434, 4435, 4436, 4437, 4438, 4439, 4440, 4441, 4442, 4443, 4444, 4445, 4446, 4447, 4448, 4449, 4450, 4451, 4452, 4453, 4454, 4455, 4456, 4457, 4458, 4459, 4460, 4461, 4462, 4463, 4464, 4465, 4466, 4467, 4468, 4469, 4470]
def wsX11_opensOne : List Cond := cw 1541 :: wI qXe
theorem qxB : ∀ i ∈ qXe, cw i ∈ wsX11_opensOne := fun i h => List.mem_cons_of_mem _ (List.mem_map_of_mem h)
theorem qUD : okM 1541 qXe = true := qaq (by decide +kernel)
def qX9 : List Nat := [5, 400, 784, 785, 786, 787, 788, 789, 790, 791, 832, 833, 834, 841, 842, 843, 844, 845, 846, 847, 848, 849, 850, 851, 852, 853, 854, 855, 896, 897, 898, 899, 900, 901, 902, 903, 904, 905, 906, 907, 908, 909, 910, 911, 912, 913, 914, 915, 916, 1103, 1153, 1163, 1164, 1165, 1166, 1167, 1168, 1169, 1170, 1171, 1172, 1173, 1217, 1218, 1219, 1220, 1221, 1549, 4416, 4417, 4418, 4419, 4420, 4421, 4422, 4423, 4424, 4425, 4426, 4427, 4428, 4429, 4430, 4431, 4432, 4433, 4434, 4435, 4436, 4437, 4438, 4439, 4440, 4441, 4442, 4443, 4444, 4445, 4446, 4447, 4448, 4449, 4450, 4451, 4452, 4453, 4454, 4455, 4456, 4457, 4458, 4459, 4460, 4461, 4462, 4463, 4464, 4465, 4466, 4467, 4468, 4469, 4470]
def wsX11_factHere : List Cond := cw 1549 :: wI qX9
theorem qKA : ∀ i ∈ qX9, cw i ∈ wsX11_factHere := fun i h => List.mem_cons_of_mem _ (List.mem_map_of_mem h)
theorem qaJL : okM 1549 qX9 = true := qaq (by decide +kernel)
def qMS : List Nat := [5, 400, 448, 449, 784, 785, 786, 787, 788, 789, 790, 791, 832, 833, 834, 841, 842, 843, 844, 845, 846, 847, 848, 849, 850, 851, 852, 853, 854, 855, 896, 897, 898, 899, 900, 901, 902, 903, 904, 905, 906, 907, 908, 909, 910, 911, 912, 913, 914, 915, 916, 1103, 1104, 1153, 1154, 1155, 1156, 1157, 1158, 1163, 1164, 1165, 1166, 1167, 1168, 1169, 1170, 1171, 1172, 1173, 1217, 1218, 1219, 1220, 1221, 1222, 1223, 1224, 1225, 1226, 1231, 1232, 1233, 1234, 1239, 1280, 1281, 1282, 1283, 1284, 1285, 1294, 1295, 1296, 1297, 1481, 1482, 1483, 1484, 1485, 1486, 1487, 1488, 1489, 1490, 1491, 1492, 1493, 1494, 1495, 1536, 1537, 1538, 1539, 1540, 1541, 1542, 1543, 1544, 1545, 1546, 1547, 1548, 1549, 4416, 4417, 4418, 4419, 4420, 4421, 4422, 4423, 4424, 4425, 4426, 4427, 4428, 4429, 4430, 4431, 4432, 4433, 4434, 4435, 4436, 4437, 4438, 4439, 4440, 4441, 4442, 4443, 4444, 4445, 4446, 4447, 4448, 4449, 4450, 4451, 4452, 4453, 4454, 4455, 4456, 4457, 4458, 4459, 4460, 4461, 4462, 4463, 4464, 4465, 4466, 4467, 4468, 4469, 4470]
def wsX11_readProduct : List Cond := cw 1493 :: wI qMS
theorem qkQ : ∀ i ∈ qMS, cw i ∈ wsX11_readProduct := fun i h => List.mem_cons_of_mem _ (List.mem_map_of_mem h)
theorem qajA : okM 1493 qMS = true := qaq (by decide +kernel)
def q3K : List Nat := [5, 400, 448, 449, 784, 785, 786, 787, 788, 789, 790, 791, 832, 833, 834, 841, 842, 843, 844, 845, 846, 847, 848, 849, 850, 851, 852, 853, 854, 855, 896, 897, 898, 899, 900, 901, 902, 903, 904, 905, 906, 907, 908, 909, 910, 911, 912, 913, 914, 915, 916, 1103, 1104, 1153, 1154, 1155, 1156, 1157, 1158, 1163, 1164, 1165, 1166, 1167, 1168, 1169, 1170, 1171, 1172, 1173, 1217, 1218, 1219, 1220, 1221, 1222, 1223, 1224, 1225, 1226, 1231, 1232, 1233, 1234, 1239, 1280, 1281, 1282, 1283, 1284, 1285, 1294, 1295, 1296, 1297, 1481, 1482, 1483, 1484, 1485, 1486, 1487, 1488, 1489, 1490, 1491, 1492, 1493, 1494, 1495, 1536, 1537, 1538, 1539, 1540, 1541, 1542, 1543, 1544, 1545, 1546, 1547, 1548, 1549, 4416, 4417, 4418, 4419, 4420, 4421, 4422, 4423, 4424, 4425, 4426, 4427, 4428, 4429, 4430, 4431, 4432, 4433, 4434, 4435, 4436, 4437, 4438, 4439, 4440, 4441, 4442, 4443, 4444, 4445, 4446, 4447, 4448, 4449, 4450, 4451, 4452, 4453, 4454, 4455, 4456, 4457, 4458, 4459, 4460, 4461, 4462, 4463, 4464, 4465, 4466, 4467, 4468, 4469, 4470]
def wsX11_readSum : List Cond := cw 1485 :: wI q3K
theorem qqS : ∀ i ∈ q3K, cw i ∈ wsX11_readSum := fun i h => List.mem_cons_of_mem _ (List.mem_map_of_mem h)
theorem qXq : okM 1485 q3K = true := qaq (by decide +kernel)
def q1T : List Nat := [5, 400, 448, 449, 784, 785, 786, 787, 788, 789, 790, 791, 832, 833, 834, 841, 842, 843, 844, 845, 846, 847, 848, 849, 850, 851, 852, 853, 854, 855, 896, 897, 898, 899, 900, 901, 902, 903, 904, 905, 906, 907, 908, 909, 910, 911, 912, 913, 914, 915, 916, 1103, 1104, 1153, 1154, 1155, 1156, 1157, 1158, 1163, 1164, 1165, 1166, 1167, 1168, 1169, 1170, 1171, 1172, 1173, 1217, 1218, 1219, 1220, 1221, 1222, 1223, 1224, 1225, 1226, 1231, 1232, 1233, 1234, 1239, 1280, 1281, 1282, 1283, 1284, 1285, 1294, 1295, 1296, 1297, 1481, 1482, 1483, 1484, 1485, 1486, 1487, 1488, 1489, 1490, 1491, 1492, 1493, 1494, 1495, 1536, 1537, 1538, 1539, 1540, 1541, 1542, 1543, 1544, 1545, 1546, 1547, 1548, 1549, 4416, 4417, 4418, 4419, 4420, 4421, 4422, 4423, 4424, 4425, 4426, 4427, 4428, 4429, 4430, 4431, 4432, 4433, 4434, 4435, 4436, 4437, 4438, 4439, 4440, 4441, 4442, 4443, 4444, 4445, 4446, 4447, 4448, 4449, 4450, 4451, 4452, 4453, 4454, 4455, 4456, 4457, 4458, 4459, 4460, 4461, 4462, 4463, 4464, 4465, 4466, 4467, 4468, 4469, 4470]
def wsX11_readTwo : List Cond := cw 1537 :: wI q1T
theorem qty : ∀ i ∈ q1T, cw i ∈ wsX11_readTwo := fun i h => List.mem_cons_of_mem _ (List.mem_map_of_mem h)
theorem qaPy : okM 1537 q1T = true := qaq (by decide +kernel)
def qXR : List Nat := [5, 400, 448, 449, 784, 785, 786, 787, 788, 789, 790, 791, 832, 833, 834, 841, 842, 843, 844, 845, 846, 847, 848, 849, 850, 851, 852, 853, 854, 855, 896, 897, 898, 899, 900, 901, 902, 903, 904, 905, 906, 907, 908, 909, 910, 911, 912, 913, 914, 915, 916, 1103, 1104, 1153, 1154, 1155, 1156, 1157, 1158, 1163, 1164, 1165, 1166, 1167, 1168, 1169, 1170, 1171, 1172, 1173, 1217, 1218, 1219, 1220, 1221, 1222, 1223, 1224, 1225, 1226, 1231, 1232, 1233, 1234, 1239, 1280, 1281, 1282, 1283, 1284, 1285, 1294, 1295, 1296, 1297, 1481, 1482, 1483, 1484, 1485, 1486, 1487, 1488, 1489, 1490, 1491, 1492, 1493, 1494, 1495, 1536, 1537, 1538, 1539, 1540, 1541, 1542, 1543, 1544, 1545, 1546, 1547, 1548, 1549, 4416, 4417, 4418, 4419, 4420, 4421, 4422, 4423, 4424, 4425, 4426, 4427, 4428, 4429, 4430, 4431, 4432, 4433, 4434, 4435, 4436, 4437, 4438, 4439, 4440, 4441, 4442, 4443, 4444, 4445, 4446, 4447, 4448, 4449, 4450, 4451, 4452, 4453, 4454, 4455, 4456, 4457, 4458, 4459, 4460, 4461, 4462, 4463, 4464, 4465, 4466, 4467, 4468, 4469, 4470]
def wsX11_readUnit : List Cond := cw 1542 :: wI qXR
theorem qbJ : ∀ i ∈ qXR, cw i ∈ wsX11_readUnit := fun i h => List.mem_cons_of_mem _ (List.mem_map_of_mem h)
theorem qaJV : okM 1542 qXR = true := qaq (by decide +kernel)
def qa0S : List Nat := [5, 398, 399, 400, 448, 449, 450, 451, 522, 527, 528, 529, 530, 589, 590, 784, 785, 786, 787, 788, 789, 790, 791, 832, 833, 834, 841, 842, 843, 844, 845, 846, 847, 848, 849, 850, 851, 852, 853, 854, 855, 896, 897, 898, 899, 900, 901, 902, 903, 904, 905, 906, 907, 908, 909, 910, 911, 912, 913, 914, 915, 916, 1103, 1104, 1105, 1106, 1107, 1108, 1109, 1110, 1111, 1152, 1153, 1154, 1155, 1156, 1157, 1158, 1159, 1160, 1161, 1162, 1163, 1164, 1165, 1166, 1167, 1168, 1169, 1170, 1171, 1172, 1173, 1217, 1218, 1219, 1220, 1221, 1222, 1223, 1224, 1225, 1226, 1231, 1232, 1233, 1234, 1239, 1280, 1281, 1282, 1283, 1284, 1285, 1294, 1295, 1296, 1297, 1298, 1299, 1300, 1301, 1480, 1481, 1482, 1483, 1484, 1485, 1486, 1487, 1488, 1489, 1490, 1491, 1492, 1493, 1494, 1495, 1536, 1537, 1538, 1539, 1540, 1541, 1542, 1543, 1544, 1545, 1546, 1547, 1548, 1549, 4416, 4417, 4418, 4419, 4420, 4421, 4422, 4423, 4424, 4425, 4426, 4427, 4428, 4429, 4430, 4431, 4432, 4433, 4434, 4435, 4436, 4437, 4438, 4439, 4440, 4441, 4442, 4443, 4444, 4445, 4446, 4447, 4448, 4449, 4450, 4451, 4452, 4453, 4454, 4455, 4456, 4457, 4458, 4459, 4460, 4461, 4462, 4463, 4464, 4465, 4466, 4467, 4468, 4469, 4470]
def wsX11_law : List Cond := cw 1480 :: wI qa0S
theorem qni : ∀ i ∈ qa0S, cw i ∈ wsX11_law := fun i h => List.mem_cons_of_mem _ (List.mem_map_of_mem h)
def qaUH : List Nat := [2314]
def wsX11_both : List Cond := cw 2314 :: wI qaUH
theorem qa21 : okM 2314 qaUH = true := qaq (by decide +kernel)
def qYp : List Nat := [5, 450, 451, 452, 453, 522, 2311, 2312, 2313, 2314, 4416, 4417, 4418, 4419, 4420, 4421, 4422, 4423, 4424, 4425, 4426, 4427, 4428, 4429, 4430, 4431, 4432, 4433, 4434, 4435, 4436, 4437, 4438, 4439, 4440, 4441, 4442, 4443, 4444, 4445, 4446, 4447, 4448, 4449, 4450, 4451, 4452, 4453, 4454, 4455, 4456, 4457, 4458, 4459, 4460, 4461, 4462, 4463, 4464, 4465, 4466, 4467, 4468, 4469, 4470]
def wsX11_valueNow : List Cond := cw 2311 :: wI qYp
theorem qvh : ∀ i ∈ qYp, cw i ∈ wsX11_valueNow := fun i h => List.mem_cons_of_mem _ (List.mem_map_of_mem h)
theorem qaGz : okM 2311 qYp = true := qaq (by decide +kernel)
def q4L : List Nat := [5, 450, 451, 452, 453, 522, 2307, 2308, 2309, 2310, 2311, 2312, 2313, 2314, 4416, 4417, 4418, 4419, 4420, 4421, 4422, 4423, 4424, 4425, 4426, 4427, 4428, 4429, 4430, 4431, 4432, 4433, 4434, 4435, 4436, 4437, 4438, 4439, 4440, 4441, 4442, 4443, 4444, 4445, 4446, 4447, 4448, 4449, 4450, 4451, 4452, 4453, 4454, 4455, 4456, 4457, 4458, 4459, 4460, 4461, 4462, 4463, 4464, 4465, 4466, 4467, 4468, 4469, 4470]
def wsX11_leapNow : List Cond := cw 2307 :: wI q4L
theorem qHp : ∀ i ∈ q4L, cw i ∈ wsX11_leapNow := fun i h => List.mem_cons_of_mem _ (List.mem_map_of_mem h)
theorem qaR7 : okM 2307 q4L = true := qaq (by decide +kernel)
def qTq : List Nat := [5, 454, 1104, 1155, 1156, 1157, 1158, 2114, 2125, 4416, 4417, 4418, 4419, 4420, 4421, 4422, 4423, 4424, 4425, 4426, 4427, 4428, 4429, 4430, 4431, 4432, 4433, 4434, 4435, 4436, 4437, 4438, 4439, 4440, 4441, 4442, 4443, 4444, 4445, 4446, 4447, 4448, 4449, 4450, 4451, 4452, 4453, 4454, 4455, 4456, 4457, 4458, 4459, 4460, 4461, 4462, 4463, 4464, 4465, 4466, 4467, 4468, 4469, 4470]
def wsX11_tellsStep : List Cond := cw 2125 :: wI qTq
theorem qCb : ∀ i ∈ qTq, cw i ∈ wsX11_tellsStep := fun i h => List.mem_cons_of_mem _ (List.mem_map_of_mem h)
theorem qaw6 : okM 2125 qTq = true := qaq (by decide +kernel)
def qOP : List Nat := [5, 400, 520, 1103, 1104, 1153, 1155, 1156, 1157, 1158, 1163, 1164, 1165, 1166, 1222, 1223, 1224, 1225, 1226, 1239, 1280, 1281, 1282, 1283, 1284, 1285, 2129, 4416, 4417, 4418, 4419, 4420, 4421, 4422, 4423, 4424, 4425, 4426, 4427, 4428, 4429, 4430, 4431, 4432, 4433, 4434, 4435, 4436, 4437, 4438, 4439, 4440, 4441, 4442, 4443, 4444, 4445, 4446, 4447, 4448, 4449, 4450, 4451, 4452, 4453, 4454, 4455, 4456, 4457, 4458, 4459, 4460, 4461, 4462, 4463, 4464, 4465, 4466, 4467, 4468, 4469, 4470]
def wsX11_readLiving : List Cond := cw 2129 :: wI qOP
theorem qE8 : ∀ i ∈ qOP, cw i ∈ wsX11_readLiving := fun i h => List.mem_cons_of_mem _ (List.mem_map_of_mem h)
theorem qatO : okM 2129 qOP = true := qaq (by decide +kernel)
def qWJ : List Nat := [5, 400, 454, 519, 520, 784, 785, 786, 787, 788, 789, 790, 791, 832, 833, 834, 841, 842, 843, 844, 845, 846, 847, 848, 849, 850, 851, 852, 853, 854, 855, 896, 897, 898, 899, 900, 901, 902, 903, 904, 905, 906, 907, 908, 909, 910, 911, 912, 913, 914, 915, 916, 1103, 1104, 1153, 1154, 1155, 1156, 1157, 1158, 1163, 1164, 1165, 1166, 1167, 1168, 1169, 1170, 1171, 1172, 1173, 1217, 1218, 1219, 1220, 1221, 1222, 1223, 1224, 1225, 1226, 1231, 1232, 1233, 1234, 1239, 1280, 1281, 1282, 1283, 1284, 1285, 1294, 1295, 1296, 1297, 1538, 1539, 1540, 1541, 2114, 2118, 2119, 2120, 2121, 2122, 2123, 2124, 2125, 2126, 2127, 2128, 2129, 4416, 4417, 4418, 4419, 4420, 4421, 4422, 4423, 4424, 4425, 4426, 4427, 4428, 4429, 4430, 4431, 4432, 4433, 4434, 4435, 4436, 4437, 4438, 4439, 4440, 4441, 4442, 4443, 4444, 4445, 4446, 4447, 4448, 4449, 4450, 4451, 4452, 4453, 4454, 4455, 4456, 4457, 4458, 4459, 4460, 4461, 4462, 4463, 4464, 4465, 4466, 4467, 4468, 4469, 4470]
def wsX11_readStep : List Cond := cw 2121 :: wI qWJ
theorem qbv : ∀ i ∈ qWJ, cw i ∈ wsX11_readStep := fun i h => List.mem_cons_of_mem _ (List.mem_map_of_mem h)
theorem q7O : okM 2121 qWJ = true := qaq (by decide +kernel)
def qaC5 : List Nat := [5, 456, 457, 527, 528, 529, 530, 2133, 4416, 4417, 4418, 4419, 4420, 4421, 4422, 4423, 4424, 4425, 4426, 4427, 4428, 4429, 4430, 4431, 4432, 4433, 4434, 4435, 4436, 4437, 4438, 4439, 4440, 4441, 4442, 4443, 4444, 4445, 4446, 4447, 4448, 4449, 4450, 4451, 4452, 4453, 4454, 4455, 4456, 4457, 4458, 4459, 4460, 4461, 4462, 4463, 4464, 4465, 4466, 4467, 4468, 4469, 4470]
def wsX11_take : List Cond := cw 2133 :: wI qaC5
theorem qVt : ∀ i ∈ qaC5, cw i ∈ wsX11_take := fun i h => List.mem_cons_of_mem _ (List.mem_map_of_mem h)
theorem qta : okM 2133 qaC5 = true := qaq (by decide +kernel)
def qXz : List Nat := [457, 2193, 4416, 4417, 4418, 4419, 4420, 4421, 4422, 4423, 4424, 4425, 4426, 4427, 4428, 4429, 4430, 4431, 4432, 4433, 4434, 4435, 4436, 4437, 4438, 4439, 4440, 4441, 4442, 4443, 4444, 4445, 4446, 4447, 4448, 4449, 4450, 4451, 4452, 4453, 4454, 4455, 4456, 4457, 4458, 4459, 4460, 4461, 4462, 4463, 4464, 4465, 4466, 4467, 4468, 4469, 4470]
def wsX11_isCaught : List Cond := cw 2193 :: wI qXz
theorem q7f : ∀ i ∈ qXz, cw i ∈ wsX11_isCaught := fun i h => List.mem_cons_of_mem _ (List.mem_map_of_mem h)
theorem qnk : okM 2193 qXz = true := qaq (by decide +kernel)
def qaVK : List Nat := [2240]
def wsX11_size : List Cond := cw 2240 :: wI qaVK
theorem qaLy : okM 2240 qaVK = true := qaq (by decide +kernel)
def qanx : List Nat := [5, 405, 2197, 2198, 2199, 2240, 4416, 4417, 4418, 4419, 4420, 4421, 4422, 4423, 4424, 4425, 4426, 4427, 4428, 4429, 4430, 4431, 4432, 4433, 4434, 4435, 4436, 4437, 4438, 4439, 4440, 4441, 4442, 4443, 4444, 4445, 4446, 4447, 4448, 4449, 4450, 4451, 4452, 4453, 4454, 4455, 4456, 4457, 4458, 4459, 4460, 4461, 4462, 4463, 4464, 4465, 4466, 4467, 4468, 4469, 4470]
def wsX11_farOf : List Cond := cw 2197 :: wI qanx
theorem qYa : ∀ i ∈ qanx, cw i ∈ wsX11_farOf := fun i h => List.mem_cons_of_mem _ (List.mem_map_of_mem h)
theorem qFj : okM 2197 qanx = true := qaq (by decide +kernel)
def qaBt : List Nat := [457, 520, 2248, 4416, 4417, 4418, 4419, 4420, 4421, 4422, 4423, 4424, 4425, 4426, 4427, 4428, 4429, 4430, 4431, 4432, 4433, 4434, 4435, 4436, 4437, 4438, 4439, 4440, 4441, 4442, 4443, 4444, 4445, 4446, 4447, 4448, 4449, 4450, 4451, 4452, 4453, 4454, 4455, 4456, 4457, 4458, 4459, 4460, 4461, 4462, 4463, 4464, 4465, 4466, 4467, 4468, 4469, 4470]
def wsX11_owes : List Cond := cw 2248 :: wI qaBt
theorem qamm : ∀ i ∈ qaBt, cw i ∈ wsX11_owes := fun i h => List.mem_cons_of_mem _ (List.mem_map_of_mem h)
theorem qaLu : okM 2248 qaBt = true := qaq (by decide +kernel)
def q9P : List Nat := [457, 520, 2252, 4416, 4417, 4418, 4419, 4420, 4421, 4422, 4423, 4424, 4425, 4426, 4427, 4428, 4429, 4430, 4431, 4432, 4433, 4434, 4435, 4436, 4437, 4438, 4439, 4440, 4441, 4442, 4443, 4444, 4445, 4446, 4447, 4448, 4449, 4450, 4451, 4452, 4453, 4454, 4455, 4456, 4457, 4458, 4459, 4460, 4461, 4462, 4463, 4464, 4465, 4466, 4467, 4468, 4469, 4470]
def wsX11_isOwed : List Cond := cw 2252 :: wI q9P
theorem q3A : ∀ i ∈ q9P, cw i ∈ wsX11_isOwed := fun i h => List.mem_cons_of_mem _ (List.mem_map_of_mem h)
theorem qSU : okM 2252 q9P = true := qaq (by decide +kernel)
def qakq : List Nat := [457, 520, 2256, 4416, 4417, 4418, 4419, 4420, 4421, 4422, 4423, 4424, 4425, 4426, 4427, 4428, 4429, 4430, 4431, 4432, 4433, 4434, 4435, 4436, 4437, 4438, 4439, 4440, 4441, 4442, 4443, 4444, 4445, 4446, 4447, 4448, 4449, 4450, 4451, 4452, 4453, 4454, 4455, 4456, 4457, 4458, 4459, 4460, 4461, 4462, 4463, 4464, 4465, 4466, 4467, 4468, 4469, 4470]
def wsX11_sitIn : List Cond := cw 2256 :: wI qakq
theorem qabX : ∀ i ∈ qakq, cw i ∈ wsX11_sitIn := fun i h => List.mem_cons_of_mem _ (List.mem_map_of_mem h)
theorem q8Q : okM 2256 qakq = true := qaq (by decide +kernel)
def qaVb : List Nat := [2259]
def wsX11_ones : List Cond := cw 2259 :: wI qaVb
theorem qajF : okM 2259 qaVb = true := qaq (by decide +kernel)
def qabY : List Nat := [5, 450, 451, 452, 453, 522, 2263, 2304, 2305, 2306, 2307, 2308, 2309, 2310, 2311, 2312, 2313, 2314, 4416, 4417, 4418, 4419, 4420, 4421, 4422, 4423, 4424, 4425, 4426, 4427, 4428, 4429, 4430, 4431, 4432, 4433, 4434, 4435, 4436, 4437, 4438, 4439, 4440, 4441, 4442, 4443, 4444, 4445, 4446, 4447, 4448, 4449, 4450, 4451, 4452, 4453, 4454, 4455, 4456, 4457, 4458, 4459, 4460, 4461, 4462, 4463, 4464, 4465, 4466, 4467, 4468, 4469, 4470]
def wsX11_leapOf : List Cond := cw 2263 :: wI qabY
theorem qRT : ∀ i ∈ qabY, cw i ∈ wsX11_leapOf := fun i h => List.mem_cons_of_mem _ (List.mem_map_of_mem h)
theorem qaol : okM 2263 qabY = true := qaq (by decide +kernel)
def qabt : List Nat := [5, 450, 451, 452, 453, 457, 520, 522, 2190, 2191, 2192, 2193, 2244, 2245, 2246, 2247, 2248, 2249, 2250, 2251, 2252, 2253, 2254, 2255, 2256, 2257, 2258, 2259, 2260, 2261, 2262, 2263, 2304, 2305, 2306, 2307, 2308, 2309, 2310, 2311, 2312, 2313, 2314, 4416, 4417, 4418, 4419, 4420, 4421, 4422, 4423, 4424, 4425, 4426, 4427, 4428, 4429, 4430, 4431, 4432, 4433, 4434, 4435, 4436, 4437, 4438, 4439, 4440, 4441, 4442, 4443, 4444, 4445, 4446, 4447, 4448, 4449, 4450, 4451, 4452, 4453, 4454, 4455, 4456, 4457, 4458, 4459, 4460, 4461, 4462, 4463, 4464, 4465, 4466, 4467, 4468, 4469, 4470]
def wsX11_leapBy : List Cond := cw 2244 :: wI qabt
theorem qqk : ∀ i ∈ qabt, cw i ∈ wsX11_leapBy := fun i h => List.mem_cons_of_mem _ (List.mem_map_of_mem h)
theorem q1s : okM 2244 qabt = true := qaq (by decide +kernel)
def q15 : List Nat := [5, 405, 450, 451, 452, 453, 457, 520, 522, 2189, 2190, 2191, 2192, 2193, 2194, 2195, 2196, 2197, 2198, 2199, 2240, 2241, 2242, 2243, 2244, 2245, 2246, 2247, 2248, 2249, 2250, 2251, 2252, 2253, 2254, 2255, 2256, 2257, 2258, 2259, 2260, 2261, 2262, 2263, 2304, 2305, 2306, 2307, 2308, 2309, 2310, 2311, 2312, 2313, 2314, 4416, 4417, 4418, 4419, 4420, 4421, 4422, 4423, 4424, 4425, 4426, 4427, 4428, 4429, 4430, 4431, 4432, 4433, 4434, 4435, 4436, 4437, 4438, 4439, 4440, 4441, 4442, 4443, 4444, 4445, 4446, 4447, 4448, 4449, 4450, 4451, 4452, 4453, 4454, 4455, 4456, 4457, 4458, 4459, 4460, 4461, 4462, 4463, 4464, 4465, 4466, 4467, 4468, 4469, 4470]
def wsX11_canLeap : List Cond := cw 2189 :: wI q15
theorem qxk : ∀ i ∈ q15, cw i ∈ wsX11_canLeap := fun i h => List.mem_cons_of_mem _ (List.mem_map_of_mem h)
theorem qW9 : okM 2189 q15 = true := qaq (by decide +kernel)
def q0Q : List Nat := [5, 405, 450, 451, 452, 453, 457, 520, 522, 2185, 2186, 2187, 2188, 2189, 2190, 2191, 2192, 2193, 2194, 2195, 2196, 2197, 2198, 2199, 2240, 2241, 2242, 2243, 2244, 2245, 2246, 2247, 2248, 2249, 2250, 2251, 2252, 2253, 2254, 2255, 2256, 2257, 2258, 2259, 2260, 2261, 2262, 2263, 2304, 2305, 2306, 2307, 2308, 2309, 2310, 2311, 2312, 2313, 2314, 4416, 4417, 4418, 4419, 4420, 4421, 4422, 4423, 4424, 4425, 4426, 4427, 4428, 4429, 4430, 4431, 4432, 4433, 4434, 4435, 4436, 4437, 4438, 4439, 4440, 4441, 4442, 4443, 4444, 4445, 4446, 4447, 4448, 4449, 4450, 4451, 4452, 4453, 4454, 4455, 4456, 4457, 4458, 4459, 4460, 4461, 4462, 4463, 4464, 4465, 4466, 4467, 4468, 4469, 4470]
def wsX11_leapsTo : List Cond := cw 2185 :: wI q0Q
theorem qOd : ∀ i ∈ q0Q, cw i ∈ wsX11_leapsTo := fun i h => List.mem_cons_of_mem _ (List.mem_map_of_mem h)
theorem qaeP : okM 2185 q0Q = true := qaq (by decide +kernel)
def qajP : List Nat := [5, 457, 2190, 2191, 2192, 2193, 2318, 4416, 4417, 4418, 4419, 4420, 4421, 4422, 4423, 4424, 4425, 4426, 4427, 4428, 4429, 4430, 4431, 4432, 4433, 4434, 4435, 4436, 4437, 4438, 4439, 4440, 4441, 4442, 4443, 4444, 4445, 4446, 4447, 4448, 4449, 4450, 4451, 4452, 4453, 4454, 4455, 4456, 4457, 4458, 4459, 4460, 4461, 4462, 4463, 4464, 4465, 4466, 4467, 4468, 4469, 4470]
def wsX11_boxes : List Cond := cw 2318 :: wI qajP
theorem qX6 : ∀ i ∈ qajP, cw i ∈ wsX11_boxes := fun i h => List.mem_cons_of_mem _ (List.mem_map_of_mem h)
theorem qaAx : okM 2318 qajP = true := qaq (by decide +kernel)
def qazB : List Nat := [5, 457, 2190, 2191, 2192, 2193, 2322, 4416, 4417, 4418, 4419, 4420, 4421, 4422, 4423, 4424, 4425, 4426, 4427, 4428, 4429, 4430, 4431, 4432, 4433, 4434, 4435, 4436, 4437, 4438, 4439, 4440, 4441, 4442, 4443, 4444, 4445, 4446, 4447, 4448, 4449, 4450, 4451, 4452, 4453, 4454, 4455, 4456, 4457, 4458, 4459, 4460, 4461, 4462, 4463, 4464, 4465, 4466, 4467, 4468, 4469, 4470]
def wsX11_pays : List Cond := cw 2322 :: wI qazB
theorem q4S : ∀ i ∈ qazB, cw i ∈ wsX11_pays := fun i h => List.mem_cons_of_mem _ (List.mem_map_of_mem h)
theorem qa1I : okM 2322 qazB = true := qaq (by decide +kernel)
def qabi : List Nat := [5, 405, 407, 521, 2198, 2199, 2240, 2378, 4416, 4417, 4418, 4419, 4420, 4421, 4422, 4423, 4424, 4425, 4426, 4427, 4428, 4429, 4430, 4431, 4432, 4433, 4434, 4435, 4436, 4437, 4438, 4439, 4440, 4441, 4442, 4443, 4444, 4445, 4446, 4447, 4448, 4449, 4450, 4451, 4452, 4453, 4454, 4455, 4456, 4457, 4458, 4459, 4460, 4461, 4462, 4463, 4464, 4465, 4466, 4467, 4468, 4469, 4470]
def wsX11_isSafe : List Cond := cw 2378 :: wI qabi
theorem qGi : ∀ i ∈ qabi, cw i ∈ wsX11_isSafe := fun i h => List.mem_cons_of_mem _ (List.mem_map_of_mem h)
theorem qSk : okM 2378 qabi = true := qaq (by decide +kernel)
def qHs : List Nat := [5, 405, 407, 457, 521, 2190, 2191, 2192, 2193, 2198, 2199, 2240, 2374, 2375, 2376, 2377, 2378, 4416, 4417, 4418, 4419, 4420, 4421, 4422, 4423, 4424, 4425, 4426, 4427, 4428, 4429, 4430, 4431, 4432, 4433, 4434, 4435, 4436, 4437, 4438, 4439, 4440, 4441, 4442, 4443, 4444, 4445, 4446, 4447, 4448, 4449, 4450, 4451, 4452, 4453, 4454, 4455, 4456, 4457, 4458, 4459, 4460, 4461, 4462, 4463, 4464, 4465, 4466, 4467, 4468, 4469, 4470]
def wsX11_wouldBeCaught : List Cond := cw 2374 :: wI qHs
theorem qsY : ∀ i ∈ qHs, cw i ∈ wsX11_wouldBeCaught := fun i h => List.mem_cons_of_mem _ (List.mem_map_of_mem h)
theorem qOZ : okM 2374 qHs = true := qaq (by decide +kernel)
def q4r : List Nat := [5, 405, 406, 407, 457, 520, 521, 2190, 2191, 2192, 2193, 2198, 2199, 2240, 2370, 2371, 2372, 2373, 2374, 2375, 2376, 2377, 2378, 4416, 4417, 4418, 4419, 4420, 4421, 4422, 4423, 4424, 4425, 4426, 4427, 4428, 4429, 4430, 4431, 4432, 4433, 4434, 4435, 4436, 4437, 4438, 4439, 4440, 4441, 4442, 4443, 4444, 4445, 4446, 4447, 4448, 4449, 4450, 4451, 4452, 4453, 4454, 4455, 4456, 4457, 4458, 4459, 4460, 4461, 4462, 4463, 4464, 4465, 4466, 4467, 4468, 4469, 4470]
def wsX11_strokes : List Cond := cw 2370 :: wI q4r
theorem qwW : ∀ i ∈ q4r, cw i ∈ wsX11_strokes := fun i h => List.mem_cons_of_mem _ (List.mem_map_of_mem h)
theorem qaPC : okM 2370 q4r = true := qaq (by decide +kernel)
def q8J : List Nat := [5, 405, 406, 407, 457, 520, 521, 2190, 2191, 2192, 2193, 2198, 2199, 2240, 2326, 2327, 2368, 2369, 2370, 2371, 2372, 2373, 2374, 2375, 2376, 2377, 2378, 4416, 4417, 4418, 4419, 4420, 4421, 4422, 4423, 4424, 4425, 4426, 4427, 4428, 4429, 4430, 4431, 4432, 4433, 4434, 4435, 4436, 4437, 4438, 4439, 4440, 4441, 4442, 4443, 4444, 4445, 4446, 4447, 4448, 4449, 4450, 4451, 4452, 4453, 4454, 4455, 4456, 4457, 4458, 4459, 4460, 4461, 4462, 4463, 4464, 4465, 4466, 4467, 4468, 4469, 4470]
def wsX11_passes : List Cond := cw 2326 :: wI q8J
theorem qCg : ∀ i ∈ q8J, cw i ∈ wsX11_passes := fun i h => List.mem_cons_of_mem _ (List.mem_map_of_mem h)
theorem q4F : okM 2326 q8J = true := qaq (by decide +kernel)
def q9n : List Nat := [5, 405, 406, 407, 450, 451, 452, 453, 457, 520, 521, 522, 2181, 2182, 2183, 2184, 2185, 2186, 2187, 2188, 2189, 2190, 2191, 2192, 2193, 2194, 2195, 2196, 2197, 2198, 2199, 2240, 2241, 2242, 2243, 2244, 2245, 2246, 2247, 2248, 2249, 2250, 2251, 2252, 2253, 2254, 2255, 2256, 2257, 2258, 2259, 2260, 2261, 2262, 2263, 2304, 2305, 2306, 2307, 2308, 2309, 2310, 2311, 2312, 2313, 2314, 2315, 2316, 2317, 2318, 2319, 2320, 2321, 2322, 2323, 2324, 2325, 2326, 2327, 2368, 2369, 2370, 2371, 2372, 2373, 2374, 2375, 2376, 2377, 2378, 4416, 4417, 4418, 4419, 4420, 4421, 4422, 4423, 4424, 4425, 4426, 4427, 4428, 4429, 4430, 4431, 4432, 4433, 4434, 4435, 4436, 4437, 4438, 4439, 4440, 4441, 4442, 4443, 4444, 4445, 4446, 4447, 4448, 4449, 4450, 4451, 4452, 4453, 4454, 4455, 4456, 4457, 4458, 4459, 4460, 4461, 4462, 4463, 4464, 4465, 4466, 4467, 4468, 4469, 4470]
def wsX11_isDone : List Cond := cw 2181 :: wI q9n
theorem qvq : ∀ i ∈ q9n, cw i ∈ wsX11_isDone := fun i h => List.mem_cons_of_mem _ (List.mem_map_of_mem h)
theorem qaT5 : okM 2181 q9n = true := qaq (by decide +kernel)
def qT9 : List Nat := [5, 405, 406, 407, 450, 451, 452, 453, 455, 457, 520, 521, 522, 2115, 2116, 2117, 2134, 2135, 2176, 2177, 2178, 2179, 2180, 2181, 2182, 2183, 2184, 2185, 2186, 2187, 2188, 2189, 2190, 2191, 2192, 2193, 2194, 2195, 2196, 2197, 2198, 2199, 2240, 2241, 2242, 2243, 2244, 2245, 2246, 2247, 2248, 2249, 2250, 2251, 2252, 2253, 2254, 2255, 2256, 2257, 2258, 2259, 2260, 2261, 2262, 2263, 2304, 2305, 2306, 2307, 2308, 2309, 2310, 2311, 2312, 2313, 2314, 2315, 2316, 2317, 2318, 2319, 2320, 2321, 2322, 2323, 2324, 2325, 2326, 2327, 2368, 2369, 2370, 2371, 2372, 2373, 2374, 2375, 2376, 2377, 2378, 4416, 4417, 4418, 4419, 4420, 4421, 4422, 4423, 4424, 4425, 4426, 4427, 4428, 4429, 4430, 4431, 4432, 4433, 4434, 4435, 4436, 4437, 4438, 4439, 4440, 4441, 4442, 4443, 4444, 4445, 4446, 4447, 4448, 4449, 4450, 4451, 4452, 4453, 4454, 4455, 4456, 4457, 4458, 4459, 4460, 4461, 4462, 4463, 4464, 4465, 4466, 4467, 4468, 4469, 4470]
def wsX11_goesSteps : List Cond := cw 2177 :: wI qT9
theorem qkU : ∀ i ∈ qT9, cw i ∈ wsX11_goesSteps := fun i h => List.mem_cons_of_mem _ (List.mem_map_of_mem h)
theorem q4C : okM 2177 qT9 = true := qaq (by decide +kernel)
def qaUz : List Nat := [5, 398, 399, 400, 405, 406, 407, 450, 451, 452, 453, 454, 455, 456, 457, 458, 519, 520, 521, 522, 524, 526, 527, 528, 529, 530, 589, 590, 784, 785, 786, 787, 788, 789, 790, 791, 832, 833, 834, 841, 842, 843, 844, 845, 846, 847, 848, 849, 850, 851, 852, 853, 854, 855, 896, 897, 898, 899, 900, 901, 902, 903, 904, 905, 906, 907, 908, 909, 910, 911, 912, 913, 914, 915, 916, 1103, 1104, 1105, 1106, 1107, 1108, 1109, 1110, 1111, 1152, 1153, 1154, 1155, 1156, 1157, 1158, 1159, 1160, 1161, 1162, 1163, 1164, 1165, 1166, 1167, 1168, 1169, 1170, 1171, 1172, 1173, 1217, 1218, 1219, 1220, 1221, 1222, 1223, 1224, 1225, 1226, 1231, 1232, 1233, 1234, 1239, 1280, 1281, 1282, 1283, 1284, 1285, 1294, 1295, 1296, 1297, 1298, 1299, 1300, 1301, 1538, 1539, 1540, 1541, 2113, 2114, 2115, 2116, 2117, 2118, 2119, 2120, 2121, 2122, 2123, 2124, 2125, 2126, 2127, 2128, 2129, 2130, 2131, 2132, 2133, 2134, 2135, 2176, 2177, 2178, 2179, 2180, 2181, 2182, 2183, 2184, 2185, 2186, 2187, 2188, 2189, 2190, 2191, 2192, 2193, 2194, 2195, 2196, 2197, 2198, 2199, 2240, 2241, 2242, 2243, 2244, 2245, 2246, 2247, 2248, 2249, 2250, 2251, 2252, 2253, 2254, 2255, 2256, 2257, 2258, 2259, 2260, 2261, 2262, 2263, 2304, 2305, 2306, 2307, 2308, 2309, 2310, 2311, 2312, 2313, 2314, 2315, 2316, 2317, 2318, 2319, 2320, 2321, 2322, 2323, 2324, 2325, 2326, 2327, 2368, 2369, 2370, 2371, 2372, 2373, 2374, 2375, 2376, 2377, 2378, 4416, 4417, 4418, 4419, 4420, 4421, 4422, 4423, 4424, 4425, 4426, 4427, 4428, 4429, 4430, 4431, 4432, 4433, 4434, 4435, 4436, 4437, 4438, 4439, 4440, 4441, 4442, 4443, 4444, 4445, 4446, 4447, 4448, 4449, 4450, 4451, 4452, 4453, 4454, 4455, 4456, 4457, 4458, 4459, 4460, 4461, 4462, 4463, 4464, 4465, 4466, 4467, 4468, 4469, 4470]
def wsX11_work : List Cond := cw 2113 :: wI qaUz
theorem qeH : ∀ i ∈ qaUz, cw i ∈ wsX11_work := fun i h => List.mem_cons_of_mem _ (List.mem_map_of_mem h)
def qaS6 : List Nat := [5, 398, 399, 400, 459, 460, 519, 523, 527, 528, 529, 530, 589, 590, 1103, 1104, 1105, 1106, 1107, 1108, 1109, 1110, 1111, 1152, 1153, 1154, 1155, 1156, 1157, 1158, 1159, 1160, 1161, 1162, 1163, 1164, 1165, 1166, 1222, 1223, 1224, 1225, 1226, 1239, 1280, 1281, 1282, 1283, 1284, 1285, 1294, 1295, 1296, 1297, 1298, 1299, 1300, 1301, 2447, 4416, 4417, 4418, 4419, 4420, 4421, 4422, 4423, 4424, 4425, 4426, 4427, 4428, 4429, 4430, 4431, 4432, 4433, 4434, 4435, 4436, 4437, 4438, 4439, 4440, 4441, 4442, 4443, 4444, 4445, 4446, 4447, 4448, 4449, 4450, 4451, 4452, 4453, 4454, 4455, 4456, 4457, 4458, 4459, 4460, 4461, 4462, 4463, 4464, 4465, 4466, 4467, 4468, 4469, 4470]
def wsX11_book : List Cond := cw 2447 :: wI qaS6
theorem qgn : ∀ i ∈ qaS6, cw i ∈ wsX11_book := fun i h => List.mem_cons_of_mem _ (List.mem_map_of_mem h)
def qaTF : List Nat := [456, 458, 524, 526, 589, 2508, 4416, 4417, 4418, 4419, 4420, 4421, 4422, 4423, 4424, 4425, 4426, 4427, 4428, 4429, 4430, 4431, 4432, 4433, 4434, 4435, 4436, 4437, 4438, 4439, 4440, 4441, 4442, 4443, 4444, 4445, 4446, 4447, 4448, 4449, 4450, 4451, 4452, 4453, 4454, 4455, 4456, 4457, 4458, 4459, 4460, 4461, 4462, 4463, 4464, 4465, 4466, 4467, 4468, 4469, 4470]
def wsX11_undo : List Cond := cw 2508 :: wI qaTF
theorem qOy : ∀ i ∈ qaTF, cw i ∈ wsX11_undo := fun i h => List.mem_cons_of_mem _ (List.mem_map_of_mem h)
def qTh : List Nat := [5, 457, 520, 2190, 2191, 2192, 2193, 2627, 4416, 4417, 4418, 4419, 4420, 4421, 4422, 4423, 4424, 4425, 4426, 4427, 4428, 4429, 4430, 4431, 4432, 4433, 4434, 4435, 4436, 4437, 4438, 4439, 4440, 4441, 4442, 4443, 4444, 4445, 4446, 4447, 4448, 4449, 4450, 4451, 4452, 4453, 4454, 4455, 4456, 4457, 4458, 4459, 4460, 4461, 4462, 4463, 4464, 4465, 4466, 4467, 4468, 4469, 4470]
def wsX11_caughtNow : List Cond := cw 2627 :: wI qTh
theorem qIL : ∀ i ∈ qTh, cw i ∈ wsX11_caughtNow := fun i h => List.mem_cons_of_mem _ (List.mem_map_of_mem h)
theorem qI2 : okM 2627 qTh = true := qaq (by decide +kernel)
def qXi : List Nat := [457, 2635, 4416, 4417, 4418, 4419, 4420, 4421, 4422, 4423, 4424, 4425, 4426, 4427, 4428, 4429, 4430, 4431, 4432, 4433, 4434, 4435, 4436, 4437, 4438, 4439, 4440, 4441, 4442, 4443, 4444, 4445, 4446, 4447, 4448, 4449, 4450, 4451, 4452, 4453, 4454, 4455, 4456, 4457, 4458, 4459, 4460, 4461, 4462, 4463, 4464, 4465, 4466, 4467, 4468, 4469, 4470]
def wsX11_debtsNow : List Cond := cw 2635 :: wI qXi
theorem q7o : ∀ i ∈ qXi, cw i ∈ wsX11_debtsNow := fun i h => List.mem_cons_of_mem _ (List.mem_map_of_mem h)
theorem q7w : okM 2635 qXi = true := qaq (by decide +kernel)
def qWj : List Nat := [5, 405, 407, 457, 520, 521, 2190, 2191, 2192, 2193, 2198, 2199, 2240, 2371, 2372, 2373, 2374, 2375, 2376, 2377, 2378, 2583, 4416, 4417, 4418, 4419, 4420, 4421, 4422, 4423, 4424, 4425, 4426, 4427, 4428, 4429, 4430, 4431, 4432, 4433, 4434, 4435, 4436, 4437, 4438, 4439, 4440, 4441, 4442, 4443, 4444, 4445, 4446, 4447, 4448, 4449, 4450, 4451, 4452, 4453, 4454, 4455, 4456, 4457, 4458, 4459, 4460, 4461, 4462, 4463, 4464, 4465, 4466, 4467, 4468, 4469, 4470]
def wsX11_bitsTold : List Cond := cw 2583 :: wI qWj
theorem qDU : ∀ i ∈ qWj, cw i ∈ wsX11_bitsTold := fun i h => List.mem_cons_of_mem _ (List.mem_map_of_mem h)
theorem qaHl : okM 2583 qWj = true := qaq (by decide +kernel)
def qT6 : List Nat := [5, 405, 407, 519, 521, 2198, 2199, 2240, 2375, 2376, 2377, 2378, 2631, 4416, 4417, 4418, 4419, 4420, 4421, 4422, 4423, 4424, 4425, 4426, 4427, 4428, 4429, 4430, 4431, 4432, 4433, 4434, 4435, 4436, 4437, 4438, 4439, 4440, 4441, 4442, 4443, 4444, 4445, 4446, 4447, 4448, 4449, 4450, 4451, 4452, 4453, 4454, 4455, 4456, 4457, 4458, 4459, 4460, 4461, 4462, 4463, 4464, 4465, 4466, 4467, 4468, 4469, 4470]
def wsX11_safeForms : List Cond := cw 2631 :: wI qT6
theorem qHa : ∀ i ∈ qT6, cw i ∈ wsX11_safeForms := fun i h => List.mem_cons_of_mem _ (List.mem_map_of_mem h)
theorem q2y : okM 2631 qT6 = true := qaq (by decide +kernel)
def qaTP : List Nat := [5, 398, 405, 407, 456, 457, 519, 520, 521, 523, 526, 527, 528, 529, 530, 589, 1105, 1106, 1107, 1108, 2130, 2131, 2132, 2133, 2190, 2191, 2192, 2193, 2198, 2199, 2240, 2371, 2372, 2373, 2374, 2375, 2376, 2377, 2378, 2576, 2577, 2578, 2579, 2580, 2581, 2582, 2583, 2624, 2625, 2626, 2627, 2628, 2629, 2630, 2631, 2632, 2633, 2634, 2635, 4416, 4417, 4418, 4419, 4420, 4421, 4422, 4423, 4424, 4425, 4426, 4427, 4428, 4429, 4430, 4431, 4432, 4433, 4434, 4435, 4436, 4437, 4438, 4439, 4440, 4441, 4442, 4443, 4444, 4445, 4446, 4447, 4448, 4449, 4450, 4451, 4452, 4453, 4454, 4455, 4456, 4457, 4458, 4459, 4460, 4461, 4462, 4463, 4464, 4465, 4466, 4467, 4468, 4469, 4470]
def wsX11_told : List Cond := cw 2576 :: wI qaTP
theorem qny : ∀ i ∈ qaTP, cw i ∈ wsX11_told := fun i h => List.mem_cons_of_mem _ (List.mem_map_of_mem h)
def qaci : List Nat := [5, 398, 519, 589, 1105, 1106, 1107, 1108, 2577, 2578, 2579, 2702, 4416, 4417, 4418, 4419, 4420, 4421, 4422, 4423, 4424, 4425, 4426, 4427, 4428, 4429, 4430, 4431, 4432, 4433, 4434, 4435, 4436, 4437, 4438, 4439, 4440, 4441, 4442, 4443, 4444, 4445, 4446, 4447, 4448, 4449, 4450, 4451, 4452, 4453, 4454, 4455, 4456, 4457, 4458, 4459, 4460, 4461, 4462, 4463, 4464, 4465, 4466, 4467, 4468, 4469, 4470]
def wsX11_isForm : List Cond := cw 2702 :: wI qaci
theorem qGb : ∀ i ∈ qaci, cw i ∈ wsX11_isForm := fun i h => List.mem_cons_of_mem _ (List.mem_map_of_mem h)
theorem qK9 : okM 2702 qaci = true := qaq (by decide +kernel)
def qaau : List Nat := [5, 398, 520, 589, 1105, 1106, 1107, 1108, 2577, 2578, 2579, 2770, 4416, 4417, 4418, 4419, 4420, 4421, 4422, 4423, 4424, 4425, 4426, 4427, 4428, 4429, 4430, 4431, 4432, 4433, 4434, 4435, 4436, 4437, 4438, 4439, 4440, 4441, 4442, 4443, 4444, 4445, 4446, 4447, 4448, 4449, 4450, 4451, 4452, 4453, 4454, 4455, 4456, 4457, 4458, 4459, 4460, 4461, 4462, 4463, 4464, 4465, 4466, 4467, 4468, 4469, 4470]
def wsX11_isHare : List Cond := cw 2770 :: wI qaau
theorem qGr : ∀ i ∈ qaau, cw i ∈ wsX11_isHare := fun i h => List.mem_cons_of_mem _ (List.mem_map_of_mem h)
theorem qxn : okM 2770 qaau = true := qaq (by decide +kernel)
def qaTf : List Nat := [5, 398, 405, 407, 456, 457, 519, 520, 521, 527, 528, 529, 530, 589, 1105, 1106, 1107, 1108, 2130, 2131, 2132, 2133, 2198, 2199, 2240, 2253, 2254, 2255, 2256, 2375, 2376, 2377, 2378, 2577, 2578, 2579, 2698, 2699, 2700, 2701, 2702, 4416, 4417, 4418, 4419, 4420, 4421, 4422, 4423, 4424, 4425, 4426, 4427, 4428, 4429, 4430, 4431, 4432, 4433, 4434, 4435, 4436, 4437, 4438, 4439, 4440, 4441, 4442, 4443, 4444, 4445, 4446, 4447, 4448, 4449, 4450, 4451, 4452, 4453, 4454, 4455, 4456, 4457, 4458, 4459, 4460, 4461, 4462, 4463, 4464, 4465, 4466, 4467, 4468, 4469, 4470]
def wsX11_form : List Cond := cw 2698 :: wI qaTf
theorem qtl : ∀ i ∈ qaTf, cw i ∈ wsX11_form := fun i h => List.mem_cons_of_mem _ (List.mem_map_of_mem h)
def qaUL : List Nat := [5, 398, 406, 450, 451, 452, 453, 456, 457, 520, 522, 527, 528, 529, 530, 589, 1105, 1106, 1107, 1108, 2130, 2131, 2132, 2133, 2190, 2191, 2192, 2193, 2241, 2242, 2243, 2244, 2245, 2246, 2247, 2248, 2249, 2250, 2251, 2252, 2253, 2254, 2255, 2256, 2257, 2258, 2259, 2260, 2261, 2262, 2263, 2304, 2305, 2306, 2307, 2308, 2309, 2310, 2311, 2312, 2313, 2314, 2577, 2578, 2579, 2766, 2767, 2768, 2769, 2770, 4416, 4417, 4418, 4419, 4420, 4421, 4422, 4423, 4424, 4425, 4426, 4427, 4428, 4429, 4430, 4431, 4432, 4433, 4434, 4435, 4436, 4437, 4438, 4439, 4440, 4441, 4442, 4443, 4444, 4445, 4446, 4447, 4448, 4449, 4450, 4451, 4452, 4453, 4454, 4455, 4456, 4457, 4458, 4459, 4460, 4461, 4462, 4463, 4464, 4465, 4466, 4467, 4468, 4469, 4470]
def wsX11_hare : List Cond := cw 2766 :: wI qaUL
theorem qqq : ∀ i ∈ qaUL, cw i ∈ wsX11_hare := fun i h => List.mem_cons_of_mem _ (List.mem_map_of_mem h)
def qa0o : List Nat := [5, 398, 407, 521, 589, 1105, 1106, 1107, 1108, 2577, 2578, 2579, 2823, 4416, 4417, 4418, 4419, 4420, 4421, 4422, 4423, 4424, 4425, 4426, 4427, 4428, 4429, 4430, 4431, 4432, 4433, 4434, 4435, 4436, 4437, 4438, 4439, 4440, 4441, 4442, 4443, 4444, 4445, 4446, 4447, 4448, 4449, 4450, 4451, 4452, 4453, 4454, 4455, 4456, 4457, 4458, 4459, 4460, 4461, 4462, 4463, 4464, 4465, 4466, 4467, 4468, 4469, 4470]
def wsX11_fox : List Cond := cw 2823 :: wI qa0o
theorem qLf : ∀ i ∈ qa0o, cw i ∈ wsX11_fox := fun i h => List.mem_cons_of_mem _ (List.mem_map_of_mem h)
def qaUS : List Nat := [5, 398, 456, 520, 589, 1105, 1106, 1107, 1108, 2577, 2578, 2579, 2767, 2768, 2769, 2770, 2835, 4416, 4417, 4418, 4419, 4420, 4421, 4422, 4423, 4424, 4425, 4426, 4427, 4428, 4429, 4430, 4431, 4432, 4433, 4434, 4435, 4436, 4437, 4438, 4439, 4440, 4441, 4442, 4443, 4444, 4445, 4446, 4447, 4448, 4449, 4450, 4451, 4452, 4453, 4454, 4455, 4456, 4457, 4458, 4459, 4460, 4461, 4462, 4463, 4464, 4465, 4466, 4467, 4468, 4469, 4470]
def wsX11_debt : List Cond := cw 2835 :: wI qaUS
theorem qVf : ∀ i ∈ qaUS, cw i ∈ wsX11_debt := fun i h => List.mem_cons_of_mem _ (List.mem_map_of_mem h)
def qa03 : List Nat := [5, 398, 405, 519, 589, 1105, 1106, 1107, 1108, 2194, 2195, 2196, 2197, 2198, 2199, 2240, 2577, 2578, 2579, 2699, 2700, 2701, 2702, 2891, 4416, 4417, 4418, 4419, 4420, 4421, 4422, 4423, 4424, 4425, 4426, 4427, 4428, 4429, 4430, 4431, 4432, 4433, 4434, 4435, 4436, 4437, 4438, 4439, 4440, 4441, 4442, 4443, 4444, 4445, 4446, 4447, 4448, 4449, 4450, 4451, 4452, 4453, 4454, 4455, 4456, 4457, 4458, 4459, 4460, 4461, 4462, 4463, 4464, 4465, 4466, 4467, 4468, 4469, 4470]
def wsX11_far : List Cond := cw 2891 :: wI qa03
theorem qUP : ∀ i ∈ qa03, cw i ∈ wsX11_far := fun i h => List.mem_cons_of_mem _ (List.mem_map_of_mem h)
def qaLq : List Nat := [5, 398, 450, 451, 452, 453, 522, 589, 1105, 1106, 1107, 1108, 2260, 2261, 2262, 2263, 2304, 2305, 2306, 2307, 2308, 2309, 2310, 2311, 2312, 2313, 2314, 2577, 2578, 2579, 2945, 4416, 4417, 4418, 4419, 4420, 4421, 4422, 4423, 4424, 4425, 4426, 4427, 4428, 4429, 4430, 4431, 4432, 4433, 4434, 4435, 4436, 4437, 4438, 4439, 4440, 4441, 4442, 4443, 4444, 4445, 4446, 4447, 4448, 4449, 4450, 4451, 4452, 4453, 4454, 4455, 4456, 4457, 4458, 4459, 4460, 4461, 4462, 4463, 4464, 4465, 4466, 4467, 4468, 4469, 4470]
def wsX11_would : List Cond := cw 2945 :: wI qaLq
theorem qBD : ∀ i ∈ qaLq, cw i ∈ wsX11_would := fun i h => List.mem_cons_of_mem _ (List.mem_map_of_mem h)
def qa1m : List Nat := [5, 398, 405, 450, 451, 452, 453, 456, 457, 519, 520, 522, 527, 528, 529, 530, 589, 1105, 1106, 1107, 1108, 2130, 2131, 2132, 2133, 2186, 2187, 2188, 2189, 2190, 2191, 2192, 2193, 2194, 2195, 2196, 2197, 2198, 2199, 2240, 2241, 2242, 2243, 2244, 2245, 2246, 2247, 2248, 2249, 2250, 2251, 2252, 2253, 2254, 2255, 2256, 2257, 2258, 2259, 2260, 2261, 2262, 2263, 2304, 2305, 2306, 2307, 2308, 2309, 2310, 2311, 2312, 2313, 2314, 2577, 2578, 2579, 2699, 2700, 2701, 2702, 2767, 2768, 2769, 2770, 2957, 4416, 4417, 4418, 4419, 4420, 4421, 4422, 4423, 4424, 4425, 4426, 4427, 4428, 4429, 4430, 4431, 4432, 4433, 4434, 4435, 4436, 4437, 4438, 4439, 4440, 4441, 4442, 4443, 4444, 4445, 4446, 4447, 4448, 4449, 4450, 4451, 4452, 4453, 4454, 4455, 4456, 4457, 4458, 4459, 4460, 4461, 4462, 4463, 4464, 4465, 4466, 4467, 4468, 4469, 4470]
def wsX11_can : List Cond := cw 2957 :: wI qa1m
theorem qDV : ∀ i ∈ qa1m, cw i ∈ wsX11_can := fun i h => List.mem_cons_of_mem _ (List.mem_map_of_mem h)
def q4x : List Nat := [5, 405, 450, 451, 452, 453, 457, 519, 520, 522, 2186, 2187, 2188, 2189, 2190, 2191, 2192, 2193, 2194, 2195, 2196, 2197, 2198, 2199, 2240, 2241, 2242, 2243, 2244, 2245, 2246, 2247, 2248, 2249, 2250, 2251, 2252, 2253, 2254, 2255, 2256, 2257, 2258, 2259, 2260, 2261, 2262, 2263, 2304, 2305, 2306, 2307, 2308, 2309, 2310, 2311, 2312, 2313, 2314, 3206, 4416, 4417, 4418, 4419, 4420, 4421, 4422, 4423, 4424, 4425, 4426, 4427, 4428, 4429, 4430, 4431, 4432, 4433, 4434, 4435, 4436, 4437, 4438, 4439, 4440, 4441, 4442, 4443, 4444, 4445, 4446, 4447, 4448, 4449, 4450, 4451, 4452, 4453, 4454, 4455, 4456, 4457, 4458, 4459, 4460, 4461, 4462, 4463, 4464, 4465, 4466, 4467, 4468, 4469, 4470]
def wsX11_rangeOf : List Cond := cw 3206 :: wI q4x
theorem qOk : ∀ i ∈ q4x, cw i ∈ wsX11_rangeOf := fun i h => List.mem_cons_of_mem _ (List.mem_map_of_mem h)
theorem qahQ : okM 3206 q4x = true := qaq (by decide +kernel)
def qaLp : List Nat := [5, 398, 405, 450, 451, 452, 453, 456, 457, 519, 520, 522, 527, 528, 529, 530, 589, 1105, 1106, 1107, 1108, 2130, 2131, 2132, 2133, 2186, 2187, 2188, 2189, 2190, 2191, 2192, 2193, 2194, 2195, 2196, 2197, 2198, 2199, 2240, 2241, 2242, 2243, 2244, 2245, 2246, 2247, 2248, 2249, 2250, 2251, 2252, 2253, 2254, 2255, 2256, 2257, 2258, 2259, 2260, 2261, 2262, 2263, 2304, 2305, 2306, 2307, 2308, 2309, 2310, 2311, 2312, 2313, 2314, 2577, 2578, 2579, 2767, 2768, 2769, 2770, 3203, 3204, 3205, 3206, 3989, 4416, 4417, 4418, 4419, 4420, 4421, 4422, 4423, 4424, 4425, 4426, 4427, 4428, 4429, 4430, 4431, 4432, 4433, 4434, 4435, 4436, 4437, 4438, 4439, 4440, 4441, 4442, 4443, 4444, 4445, 4446, 4447, 4448, 4449, 4450, 4451, 4452, 4453, 4454, 4455, 4456, 4457, 4458, 4459, 4460, 4461, 4462, 4463, 4464, 4465, 4466, 4467, 4468, 4469, 4470]
def wsX11_range : List Cond := cw 3989 :: wI qaLp
theorem qBM : ∀ i ∈ qaLp, cw i ∈ wsX11_range := fun i h => List.mem_cons_of_mem _ (List.mem_map_of_mem h)
def qaLR : List Nat := [5, 398, 405, 406, 407, 456, 457, 520, 521, 527, 528, 529, 530, 589, 1105, 1106, 1107, 1108, 2130, 2131, 2132, 2133, 2190, 2191, 2192, 2193, 2198, 2199, 2240, 2323, 2324, 2325, 2326, 2327, 2368, 2369, 2370, 2371, 2372, 2373, 2374, 2375, 2376, 2377, 2378, 2577, 2578, 2579, 2624, 2625, 2626, 2627, 2632, 2633, 2634, 2635, 3013, 4416, 4417, 4418, 4419, 4420, 4421, 4422, 4423, 4424, 4425, 4426, 4427, 4428, 4429, 4430, 4431, 4432, 4433, 4434, 4435, 4436, 4437, 4438, 4439, 4440, 4441, 4442, 4443, 4444, 4445, 4446, 4447, 4448, 4449, 4450, 4451, 4452, 4453, 4454, 4455, 4456, 4457, 4458, 4459, 4460, 4461, 4462, 4463, 4464, 4465, 4466, 4467, 4468, 4469, 4470]
def wsX11_ahead : List Cond := cw 3013 :: wI qaLR
theorem qq1 : ∀ i ∈ qaLR, cw i ∈ wsX11_ahead := fun i h => List.mem_cons_of_mem _ (List.mem_map_of_mem h)
def qaVW : List Nat := [5, 398, 405, 450, 451, 452, 453, 456, 457, 519, 520, 522, 527, 528, 529, 530, 589, 1105, 1106, 1107, 1108, 2130, 2131, 2132, 2133, 2190, 2191, 2192, 2193, 2194, 2195, 2196, 2197, 2198, 2199, 2240, 2241, 2242, 2243, 2244, 2245, 2246, 2247, 2248, 2249, 2250, 2251, 2252, 2253, 2254, 2255, 2256, 2257, 2258, 2259, 2260, 2261, 2262, 2263, 2304, 2305, 2306, 2307, 2308, 2309, 2310, 2311, 2312, 2313, 2314, 2577, 2578, 2579, 2699, 2700, 2701, 2702, 2767, 2768, 2769, 2770, 3073, 4416, 4417, 4418, 4419, 4420, 4421, 4422, 4423, 4424, 4425, 4426, 4427, 4428, 4429, 4430, 4431, 4432, 4433, 4434, 4435, 4436, 4437, 4438, 4439, 4440, 4441, 4442, 4443, 4444, 4445, 4446, 4447, 4448, 4449, 4450, 4451, 4452, 4453, 4454, 4455, 4456, 4457, 4458, 4459, 4460, 4461, 4462, 4463, 4464, 4465, 4466, 4467, 4468, 4469, 4470]
def wsX11_hops : List Cond := cw 3073 :: wI qaVW
theorem qsq : ∀ i ∈ qaVW, cw i ∈ wsX11_hops := fun i h => List.mem_cons_of_mem _ (List.mem_map_of_mem h)
def qTu : List Nat := [5, 405, 407, 450, 451, 452, 453, 456, 457, 461, 462, 463, 519, 520, 521, 522, 527, 528, 529, 530, 2130, 2131, 2132, 2133, 2186, 2187, 2188, 2189, 2190, 2191, 2192, 2193, 2194, 2195, 2196, 2197, 2198, 2199, 2240, 2241, 2242, 2243, 2244, 2245, 2246, 2247, 2248, 2249, 2250, 2251, 2252, 2253, 2254, 2255, 2256, 2257, 2258, 2259, 2260, 2261, 2262, 2263, 2304, 2305, 2306, 2307, 2308, 2309, 2310, 2311, 2312, 2313, 2314, 2375, 2376, 2377, 2378, 2628, 2629, 2630, 2631, 3202, 3203, 3204, 3205, 3206, 4416, 4417, 4418, 4419, 4420, 4421, 4422, 4423, 4424, 4425, 4426, 4427, 4428, 4429, 4430, 4431, 4432, 4433, 4434, 4435, 4436, 4437, 4438, 4439, 4440, 4441, 4442, 4443, 4444, 4445, 4446, 4447, 4448, 4449, 4450, 4451, 4452, 4453, 4454, 4455, 4456, 4457, 4458, 4459, 4460, 4461, 4462, 4463, 4464, 4465, 4466, 4467, 4468, 4469, 4470]
def wsX11_findSeats : List Cond := cw 3202 :: wI qTu
theorem qio : ∀ i ∈ qTu, cw i ∈ wsX11_findSeats := fun i h => List.mem_cons_of_mem _ (List.mem_map_of_mem h)
theorem q4l : okM 3202 qTu = true := qaq (by decide +kernel)
def qaMb : List Nat := [5, 405, 407, 450, 451, 452, 453, 456, 457, 461, 462, 463, 519, 520, 521, 522, 527, 528, 529, 530, 589, 2130, 2131, 2132, 2133, 2186, 2187, 2188, 2189, 2190, 2191, 2192, 2193, 2194, 2195, 2196, 2197, 2198, 2199, 2240, 2241, 2242, 2243, 2244, 2245, 2246, 2247, 2248, 2249, 2250, 2251, 2252, 2253, 2254, 2255, 2256, 2257, 2258, 2259, 2260, 2261, 2262, 2263, 2304, 2305, 2306, 2307, 2308, 2309, 2310, 2311, 2312, 2313, 2314, 2375, 2376, 2377, 2378, 2628, 2629, 2630, 2631, 3158, 3159, 3200, 3201, 3202, 3203, 3204, 3205, 3206, 4416, 4417, 4418, 4419, 4420, 4421, 4422, 4423, 4424, 4425, 4426, 4427, 4428, 4429, 4430, 4431, 4432, 4433, 4434, 4435, 4436, 4437, 4438, 4439, 4440, 4441, 4442, 4443, 4444, 4445, 4446, 4447, 4448, 4449, 4450, 4451, 4452, 4453, 4454, 4455, 4456, 4457, 4458, 4459, 4460, 4461, 4462, 4463, 4464, 4465, 4466, 4467, 4468, 4469, 4470]
def wsX11_seats : List Cond := cw 3158 :: wI qaMb
theorem qOV : ∀ i ∈ qaMb, cw i ∈ wsX11_seats := fun i h => List.mem_cons_of_mem _ (List.mem_map_of_mem h)
def qaV6 : List Nat := [5, 398, 405, 407, 450, 451, 452, 453, 456, 457, 461, 462, 463, 519, 520, 521, 522, 527, 528, 529, 530, 589, 1105, 1106, 1107, 1108, 2130, 2131, 2132, 2133, 2186, 2187, 2188, 2189, 2190, 2191, 2192, 2193, 2194, 2195, 2196, 2197, 2198, 2199, 2240, 2241, 2242, 2243, 2244, 2245, 2246, 2247, 2248, 2249, 2250, 2251, 2252, 2253, 2254, 2255, 2256, 2257, 2258, 2259, 2260, 2261, 2262, 2263, 2304, 2305, 2306, 2307, 2308, 2309, 2310, 2311, 2312, 2313, 2314, 2375, 2376, 2377, 2378, 2577, 2578, 2579, 2628, 2629, 2630, 2631, 2767, 2768, 2769, 2770, 3159, 3200, 3201, 3202, 3203, 3204, 3205, 3206, 3218, 4416, 4417, 4418, 4419, 4420, 4421, 4422, 4423, 4424, 4425, 4426, 4427, 4428, 4429, 4430, 4431, 4432, 4433, 4434, 4435, 4436, 4437, 4438, 4439, 4440, 4441, 4442, 4443, 4444, 4445, 4446, 4447, 4448, 4449, 4450, 4451, 4452, 4453, 4454, 4455, 4456, 4457, 4458, 4459, 4460, 4461, 4462, 4463, 4464, 4465, 4466, 4467, 4468, 4469, 4470]
def wsX11_seat : List Cond := cw 3218 :: wI qaV6
theorem qJz : ∀ i ∈ qaV6, cw i ∈ wsX11_seat := fun i h => List.mem_cons_of_mem _ (List.mem_map_of_mem h)
def q1o : List Nat := [5, 405, 464, 519, 2194, 2195, 2196, 2197, 2198, 2199, 2240, 3340, 4416, 4417, 4418, 4419, 4420, 4421, 4422, 4423, 4424, 4425, 4426, 4427, 4428, 4429, 4430, 4431, 4432, 4433, 4434, 4435, 4436, 4437, 4438, 4439, 4440, 4441, 4442, 4443, 4444, 4445, 4446, 4447, 4448, 4449, 4450, 4451, 4452, 4453, 4454, 4455, 4456, 4457, 4458, 4459, 4460, 4461, 4462, 4463, 4464, 4465, 4466, 4467, 4468, 4469, 4470]
def wsX11_layRing : List Cond := cw 3340 :: wI q1o
theorem qIz : ∀ i ∈ q1o, cw i ∈ wsX11_layRing := fun i h => List.mem_cons_of_mem _ (List.mem_map_of_mem h)
theorem qafP : okM 3340 q1o = true := qaq (by decide +kernel)
def qaTG : List Nat := [5, 405, 464, 519, 589, 2194, 2195, 2196, 2197, 2198, 2199, 2240, 3336, 3337, 3338, 3339, 3340, 4416, 4417, 4418, 4419, 4420, 4421, 4422, 4423, 4424, 4425, 4426, 4427, 4428, 4429, 4430, 4431, 4432, 4433, 4434, 4435, 4436, 4437, 4438, 4439, 4440, 4441, 4442, 4443, 4444, 4445, 4446, 4447, 4448, 4449, 4450, 4451, 4452, 4453, 4454, 4455, 4456, 4457, 4458, 4459, 4460, 4461, 4462, 4463, 4464, 4465, 4466, 4467, 4468, 4469, 4470]
def wsX11_ring : List Cond := cw 3336 :: wI qaTG
theorem qOr : ∀ i ∈ qaTG, cw i ∈ wsX11_ring := fun i h => List.mem_cons_of_mem _ (List.mem_map_of_mem h)
def qaEi : List Nat := [5, 398, 405, 464, 519, 589, 1105, 1106, 1107, 1108, 2194, 2195, 2196, 2197, 2198, 2199, 2240, 3337, 3338, 3339, 3340, 3392, 4416, 4417, 4418, 4419, 4420, 4421, 4422, 4423, 4424, 4425, 4426, 4427, 4428, 4429, 4430, 4431, 4432, 4433, 4434, 4435, 4436, 4437, 4438, 4439, 4440, 4441, 4442, 4443, 4444, 4445, 4446, 4447, 4448, 4449, 4450, 4451, 4452, 4453, 4454, 4455, 4456, 4457, 4458, 4459, 4460, 4461, 4462, 4463, 4464, 4465, 4466, 4467, 4468, 4469, 4470]
def wsX11_ringed : List Cond := cw 3392 :: wI qaEi
theorem qvo : ∀ i ∈ qaEi, cw i ∈ wsX11_ringed := fun i h => List.mem_cons_of_mem _ (List.mem_map_of_mem h)
def q4u : List Nat := [5, 456, 520, 3413, 3414, 3415, 3456, 4416, 4417, 4418, 4419, 4420, 4421, 4422, 4423, 4424, 4425, 4426, 4427, 4428, 4429, 4430, 4431, 4432, 4433, 4434, 4435, 4436, 4437, 4438, 4439, 4440, 4441, 4442, 4443, 4444, 4445, 4446, 4447, 4448, 4449, 4450, 4451, 4452, 4453, 4454, 4455, 4456, 4457, 4458, 4459, 4460, 4461, 4462, 4463, 4464, 4465, 4466, 4467, 4468, 4469, 4470]
def wsX11_lastsIn : List Cond := cw 3456 :: wI q4u
theorem qxd : ∀ i ∈ q4u, cw i ∈ wsX11_lastsIn := fun i h => List.mem_cons_of_mem _ (List.mem_map_of_mem h)
theorem qaeK : okM 3456 q4u = true := qaq (by decide +kernel)
def qaLM : List Nat := [5, 398, 456, 457, 520, 527, 528, 529, 530, 589, 1105, 1106, 1107, 1108, 2130, 2131, 2132, 2133, 2190, 2191, 2192, 2193, 2577, 2578, 2579, 2624, 2625, 2626, 2627, 2767, 2768, 2769, 2770, 3412, 3413, 3414, 3415, 3456, 4416, 4417, 4418, 4419, 4420, 4421, 4422, 4423, 4424, 4425, 4426, 4427, 4428, 4429, 4430, 4431, 4432, 4433, 4434, 4435, 4436, 4437, 4438, 4439, 4440, 4441, 4442, 4443, 4444, 4445, 4446, 4447, 4448, 4449, 4450, 4451, 4452, 4453, 4454, 4455, 4456, 4457, 4458, 4459, 4460, 4461, 4462, 4463, 4464, 4465, 4466, 4467, 4468, 4469, 4470]
def wsX11_bouts : List Cond := cw 3412 :: wI qaLM
theorem quy : ∀ i ∈ qaLM, cw i ∈ wsX11_bouts := fun i h => List.mem_cons_of_mem _ (List.mem_map_of_mem h)
def qW1 : List Nat := [5, 457, 520, 2253, 2254, 2255, 2256, 2257, 2258, 2259, 3589, 4416, 4417, 4418, 4419, 4420, 4421, 4422, 4423, 4424, 4425, 4426, 4427, 4428, 4429, 4430, 4431, 4432, 4433, 4434, 4435, 4436, 4437, 4438, 4439, 4440, 4441, 4442, 4443, 4444, 4445, 4446, 4447, 4448, 4449, 4450, 4451, 4452, 4453, 4454, 4455, 4456, 4457, 4458, 4459, 4460, 4461, 4462, 4463, 4464, 4465, 4466, 4467, 4468, 4469, 4470]
def wsX11_sitsThen : List Cond := cw 3589 :: wI qW1
theorem qKQ : ∀ i ∈ qW1, cw i ∈ wsX11_sitsThen := fun i h => List.mem_cons_of_mem _ (List.mem_map_of_mem h)
theorem q7Y : okM 3589 qW1 = true := qaq (by decide +kernel)
def qaiV : List Nat := [5, 457, 460, 519, 520, 2190, 2191, 2192, 2193, 2253, 2254, 2255, 2256, 2257, 2258, 2259, 3585, 3586, 3587, 3588, 3589, 4416, 4417, 4418, 4419, 4420, 4421, 4422, 4423, 4424, 4425, 4426, 4427, 4428, 4429, 4430, 4431, 4432, 4433, 4434, 4435, 4436, 4437, 4438, 4439, 4440, 4441, 4442, 4443, 4444, 4445, 4446, 4447, 4448, 4449, 4450, 4451, 4452, 4453, 4454, 4455, 4456, 4457, 4458, 4459, 4460, 4461, 4462, 4463, 4464, 4465, 4466, 4467, 4468, 4469, 4470]
def wsX11_isFit : List Cond := cw 3585 :: wI qaiV
theorem qFf : ∀ i ∈ qaiV, cw i ∈ wsX11_isFit := fun i h => List.mem_cons_of_mem _ (List.mem_map_of_mem h)
theorem qaw5 : okM 3585 qaiV = true := qaq (by decide +kernel)
def qaWh : List Nat := [5, 398, 456, 457, 460, 519, 520, 527, 528, 529, 530, 589, 1105, 1106, 1107, 1108, 2130, 2131, 2132, 2133, 2190, 2191, 2192, 2193, 2253, 2254, 2255, 2256, 2257, 2258, 2259, 2577, 2578, 2579, 3541, 3542, 3543, 3584, 3585, 3586, 3587, 3588, 3589, 4416, 4417, 4418, 4419, 4420, 4421, 4422, 4423, 4424, 4425, 4426, 4427, 4428, 4429, 4430, 4431, 4432, 4433, 4434, 4435, 4436, 4437, 4438, 4439, 4440, 4441, 4442, 4443, 4444, 4445, 4446, 4447, 4448, 4449, 4450, 4451, 4452, 4453, 4454, 4455, 4456, 4457, 4458, 4459, 4460, 4461, 4462, 4463, 4464, 4465, 4466, 4467, 4468, 4469, 4470]
def wsX11_fits : List Cond := cw 3541 :: wI qaWh
theorem qwB : ∀ i ∈ qaWh, cw i ∈ wsX11_fits := fun i h => List.mem_cons_of_mem _ (List.mem_map_of_mem h)
def q1i : List Nat := [5, 457, 460, 465, 519, 520, 2190, 2191, 2192, 2193, 2253, 2254, 2255, 2256, 2257, 2258, 2259, 3542, 3543, 3584, 3585, 3586, 3587, 3588, 3589, 3662, 4416, 4417, 4418, 4419, 4420, 4421, 4422, 4423, 4424, 4425, 4426, 4427, 4428, 4429, 4430, 4431, 4432, 4433, 4434, 4435, 4436, 4437, 4438, 4439, 4440, 4441, 4442, 4443, 4444, 4445, 4446, 4447, 4448, 4449, 4450, 4451, 4452, 4453, 4454, 4455, 4456, 4457, 4458, 4459, 4460, 4461, 4462, 4463, 4464, 4465, 4466, 4467, 4468, 4469, 4470]
def wsX11_worstOf : List Cond := cw 3662 :: wI q1i
theorem qw8 : ∀ i ∈ q1i, cw i ∈ wsX11_worstOf := fun i h => List.mem_cons_of_mem _ (List.mem_map_of_mem h)
theorem qaOY : okM 3662 q1i = true := qaq (by decide +kernel)
def qaTq : List Nat := [5, 398, 456, 457, 460, 465, 519, 520, 527, 528, 529, 530, 589, 1105, 1106, 1107, 1108, 2130, 2131, 2132, 2133, 2190, 2191, 2192, 2193, 2253, 2254, 2255, 2256, 2257, 2258, 2259, 2577, 2578, 2579, 3542, 3543, 3584, 3585, 3586, 3587, 3588, 3589, 3658, 3659, 3660, 3661, 3662, 4416, 4417, 4418, 4419, 4420, 4421, 4422, 4423, 4424, 4425, 4426, 4427, 4428, 4429, 4430, 4431, 4432, 4433, 4434, 4435, 4436, 4437, 4438, 4439, 4440, 4441, 4442, 4443, 4444, 4445, 4446, 4447, 4448, 4449, 4450, 4451, 4452, 4453, 4454, 4455, 4456, 4457, 4458, 4459, 4460, 4461, 4462, 4463, 4464, 4465, 4466, 4467, 4468, 4469, 4470]
def wsX11_look : List Cond := cw 3658 :: wI qaTq
theorem qwC : ∀ i ∈ qaTq, cw i ∈ wsX11_look := fun i h => List.mem_cons_of_mem _ (List.mem_map_of_mem h)
def qaLS : List Nat := [5, 398, 405, 519, 589, 1105, 1106, 1107, 1108, 2194, 2195, 2196, 2197, 2198, 2199, 2240, 2257, 2258, 2259, 2577, 2578, 2579, 3722, 4416, 4417, 4418, 4419, 4420, 4421, 4422, 4423, 4424, 4425, 4426, 4427, 4428, 4429, 4430, 4431, 4432, 4433, 4434, 4435, 4436, 4437, 4438, 4439, 4440, 4441, 4442, 4443, 4444, 4445, 4446, 4447, 4448, 4449, 4450, 4451, 4452, 4453, 4454, 4455, 4456, 4457, 4458, 4459, 4460, 4461, 4462, 4463, 4464, 4465, 4466, 4467, 4468, 4469, 4470]
def wsX11_watch : List Cond := cw 3722 :: wI qaLS
theorem qv6 : ∀ i ∈ qaLS, cw i ∈ wsX11_watch := fun i h => List.mem_cons_of_mem _ (List.mem_map_of_mem h)
def qaL6 : List Nat := [3783]
def wsX11_least : List Cond := cw 3783 :: wI qaL6
theorem qaZI : okM 3783 qaL6 = true := qaq (by decide +kernel)
def qa0Z : List Nat := [5, 398, 466, 589, 1105, 1106, 1107, 1108, 2577, 2578, 2579, 3779, 3780, 3781, 3782, 3783, 4416, 4417, 4418, 4419, 4420, 4421, 4422, 4423, 4424, 4425, 4426, 4427, 4428, 4429, 4430, 4431, 4432, 4433, 4434, 4435, 4436, 4437, 4438, 4439, 4440, 4441, 4442, 4443, 4444, 4445, 4446, 4447, 4448, 4449, 4450, 4451, 4452, 4453, 4454, 4455, 4456, 4457, 4458, 4459, 4460, 4461, 4462, 4463, 4464, 4465, 4466, 4467, 4468, 4469, 4470]
def wsX11_few : List Cond := cw 3779 :: wI qa0Z
theorem qDR : ∀ i ∈ qa0Z, cw i ∈ wsX11_few := fun i h => List.mem_cons_of_mem _ (List.mem_map_of_mem h)
def qaL9 : List Nat := [3840]
def wsX11_hasBy : List Cond := cw 3840 :: wI qaL9
theorem qaWu : okM 3840 qaL9 = true := qaq (by decide +kernel)
def qaWg : List Nat := [5, 398, 589, 1105, 1106, 1107, 1108, 2577, 2578, 2579, 3797, 3798, 3799, 3840, 4416, 4417, 4418, 4419, 4420, 4421, 4422, 4423, 4424, 4425, 4426, 4427, 4428, 4429, 4430, 4431, 4432, 4433, 4434, 4435, 4436, 4437, 4438, 4439, 4440, 4441, 4442, 4443, 4444, 4445, 4446, 4447, 4448, 4449, 4450, 4451, 4452, 4453, 4454, 4455, 4456, 4457, 4458, 4459, 4460, 4461, 4462, 4463, 4464, 4465, 4466, 4467, 4468, 4469, 4470]
def wsX11_road : List Cond := cw 3797 :: wI qaWg
theorem qGh : ∀ i ∈ qaWg, cw i ∈ wsX11_road := fun i h => List.mem_cons_of_mem _ (List.mem_map_of_mem h)
def qWK : List Nat := [5, 457, 520, 2249, 2250, 2251, 2252, 3904, 4416, 4417, 4418, 4419, 4420, 4421, 4422, 4423, 4424, 4425, 4426, 4427, 4428, 4429, 4430, 4431, 4432, 4433, 4434, 4435, 4436, 4437, 4438, 4439, 4440, 4441, 4442, 4443, 4444, 4445, 4446, 4447, 4448, 4449, 4450, 4451, 4452, 4453, 4454, 4455, 4456, 4457, 4458, 4459, 4460, 4461, 4462, 4463, 4464, 4465, 4466, 4467, 4468, 4469, 4470]
def wsX11_cloverBy : List Cond := cw 3904 :: wI qWK
theorem qKl : ∀ i ∈ qWK, cw i ∈ wsX11_cloverBy := fun i h => List.mem_cons_of_mem _ (List.mem_map_of_mem h)
theorem qaG1 : okM 3904 qWK = true := qaq (by decide +kernel)
def qaEu : List Nat := [5, 398, 456, 457, 520, 527, 528, 529, 530, 589, 1105, 1106, 1107, 1108, 2130, 2131, 2132, 2133, 2249, 2250, 2251, 2252, 2577, 2578, 2579, 2767, 2768, 2769, 2770, 3860, 3861, 3862, 3863, 3904, 4416, 4417, 4418, 4419, 4420, 4421, 4422, 4423, 4424, 4425, 4426, 4427, 4428, 4429, 4430, 4431, 4432, 4433, 4434, 4435, 4436, 4437, 4438, 4439, 4440, 4441, 4442, 4443, 4444, 4445, 4446, 4447, 4448, 4449, 4450, 4451, 4452, 4453, 4454, 4455, 4456, 4457, 4458, 4459, 4460, 4461, 4462, 4463, 4464, 4465, 4466, 4467, 4468, 4469, 4470]
def wsX11_clover : List Cond := cw 3860 :: wI qaEu
theorem qo3 : ∀ i ∈ qaEu, cw i ∈ wsX11_clover := fun i h => List.mem_cons_of_mem _ (List.mem_map_of_mem h)
def q7Z : List Nat := [5, 398, 456, 457, 520, 527, 528, 529, 530, 589, 1105, 1106, 1107, 1108, 2130, 2131, 2132, 2133, 2190, 2191, 2192, 2193, 2577, 2578, 2579, 3915, 4416, 4417, 4418, 4419, 4420, 4421, 4422, 4423, 4424, 4425, 4426, 4427, 4428, 4429, 4430, 4431, 4432, 4433, 4434, 4435, 4436, 4437, 4438, 4439, 4440, 4441, 4442, 4443, 4444, 4445, 4446, 4447, 4448, 4449, 4450, 4451, 4452, 4453, 4454, 4455, 4456, 4457, 4458, 4459, 4460, 4461, 4462, 4463, 4464, 4465, 4466, 4467, 4468, 4469, 4470]
def wsX11_strongest : List Cond := cw 3915 :: wI q7Z
theorem qnV : ∀ i ∈ q7Z, cw i ∈ wsX11_strongest := fun i h => List.mem_cons_of_mem _ (List.mem_map_of_mem h)
def qaUp : List Nat := [5, 398, 456, 520, 589, 1105, 1106, 1107, 1108, 2577, 2578, 2579, 2767, 2768, 2769, 2770, 3926, 4416, 4417, 4418, 4419, 4420, 4421, 4422, 4423, 4424, 4425, 4426, 4427, 4428, 4429, 4430, 4431, 4432, 4433, 4434, 4435, 4436, 4437, 4438, 4439, 4440, 4441, 4442, 4443, 4444, 4445, 4446, 4447, 4448, 4449, 4450, 4451, 4452, 4453, 4454, 4455, 4456, 4457, 4458, 4459, 4460, 4461, 4462, 4463, 4464, 4465, 4466, 4467, 4468, 4469, 4470]
def wsX11_ties : List Cond := cw 3926 :: wI qaUp
theorem qAE : ∀ i ∈ qaUp, cw i ∈ wsX11_ties := fun i h => List.mem_cons_of_mem _ (List.mem_map_of_mem h)
def qaAm : List Nat := [5, 398, 405, 407, 519, 521, 589, 1105, 1106, 1107, 1108, 2194, 2195, 2196, 2197, 2198, 2199, 2240, 2375, 2376, 2377, 2378, 2577, 2578, 2579, 2699, 2700, 2701, 2702, 3977, 4416, 4417, 4418, 4419, 4420, 4421, 4422, 4423, 4424, 4425, 4426, 4427, 4428, 4429, 4430, 4431, 4432, 4433, 4434, 4435, 4436, 4437, 4438, 4439, 4440, 4441, 4442, 4443, 4444, 4445, 4446, 4447, 4448, 4449, 4450, 4451, 4452, 4453, 4454, 4455, 4456, 4457, 4458, 4459, 4460, 4461, 4462, 4463, 4464, 4465, 4466, 4467, 4468, 4469, 4470]
def wsX11_refuge : List Cond := cw 3977 :: wI qaAm
theorem qra : ∀ i ∈ qaAm, cw i ∈ wsX11_refuge := fun i h => List.mem_cons_of_mem _ (List.mem_map_of_mem h)
def qaim : List Nat := [4115, 4119, 4160, 4416, 4417, 4418, 4419, 4420, 4421, 4422, 4423, 4424, 4425, 4426, 4427, 4428, 4429, 4430, 4431, 4432, 4433, 4434, 4435, 4436, 4437, 4438, 4439, 4440, 4441, 4442, 4443, 4444, 4445, 4446, 4447, 4448, 4449, 4450, 4451, 4452, 4453, 4454, 4455, 4456, 4457, 4458, 4459, 4460, 4461, 4462, 4463, 4464, 4465, 4466, 4467, 4468, 4469, 4470]
def wsX11_draws : List Cond := cw 4119 :: wI qaim
theorem qab2 : ∀ i ∈ qaim, cw i ∈ wsX11_draws := fun i h => List.mem_cons_of_mem _ (List.mem_map_of_mem h)
theorem qaWZ : okM 4119 qaim = true := qaq (by decide +kernel)
def qT1 : List Nat := [5, 405, 406, 407, 450, 451, 452, 453, 456, 457, 519, 520, 521, 522, 527, 528, 529, 530, 2130, 2131, 2132, 2133, 2182, 2183, 2184, 2185, 2186, 2187, 2188, 2189, 2190, 2191, 2192, 2193, 2194, 2195, 2196, 2197, 2198, 2199, 2240, 2241, 2242, 2243, 2244, 2245, 2246, 2247, 2248, 2249, 2250, 2251, 2252, 2253, 2254, 2255, 2256, 2257, 2258, 2259, 2260, 2261, 2262, 2263, 2304, 2305, 2306, 2307, 2308, 2309, 2310, 2311, 2312, 2313, 2314, 2315, 2316, 2317, 2318, 2323, 2324, 2325, 2326, 2327, 2368, 2369, 2370, 2371, 2372, 2373, 2374, 2375, 2376, 2377, 2378, 4110, 4114, 4115, 4116, 4117, 4118, 4119, 4160, 4416, 4417, 4418, 4419, 4420, 4421, 4422, 4423, 4424, 4425, 4426, 4427, 4428, 4429, 4430, 4431, 4432, 4433, 4434, 4435, 4436, 4437, 4438, 4439, 4440, 4441, 4442, 4443, 4444, 4445, 4446, 4447, 4448, 4449, 4450, 4451, 4452, 4453, 4454, 4455, 4456, 4457, 4458, 4459, 4460, 4461, 4462, 4463, 4464, 4465, 4466, 4467, 4468, 4469, 4470]
def wsX11_marchGoes : List Cond := cw 4114 :: wI qT1
theorem qir : ∀ i ∈ qT1, cw i ∈ wsX11_marchGoes := fun i h => List.mem_cons_of_mem _ (List.mem_map_of_mem h)
theorem q3u : okM 4114 qT1 = true := qaq (by decide +kernel)
def qMw : List Nat := [5, 457, 520, 2190, 2191, 2192, 2193, 4164, 4416, 4417, 4418, 4419, 4420, 4421, 4422, 4423, 4424, 4425, 4426, 4427, 4428, 4429, 4430, 4431, 4432, 4433, 4434, 4435, 4436, 4437, 4438, 4439, 4440, 4441, 4442, 4443, 4444, 4445, 4446, 4447, 4448, 4449, 4450, 4451, 4452, 4453, 4454, 4455, 4456, 4457, 4458, 4459, 4460, 4461, 4462, 4463, 4464, 4465, 4466, 4467, 4468, 4469, 4470]
def wsX11_strengthNow : List Cond := cw 4164 :: wI qMw
theorem qys : ∀ i ∈ qMw, cw i ∈ wsX11_strengthNow := fun i h => List.mem_cons_of_mem _ (List.mem_map_of_mem h)
theorem qakI : okM 4164 qMw = true := qaq (by decide +kernel)
def qaLs : List Nat := [5, 398, 405, 406, 407, 450, 451, 452, 453, 456, 457, 519, 520, 521, 522, 527, 528, 529, 530, 589, 1105, 1106, 1107, 1108, 2130, 2131, 2132, 2133, 2182, 2183, 2184, 2185, 2186, 2187, 2188, 2189, 2190, 2191, 2192, 2193, 2194, 2195, 2196, 2197, 2198, 2199, 2240, 2241, 2242, 2243, 2244, 2245, 2246, 2247, 2248, 2249, 2250, 2251, 2252, 2253, 2254, 2255, 2256, 2257, 2258, 2259, 2260, 2261, 2262, 2263, 2304, 2305, 2306, 2307, 2308, 2309, 2310, 2311, 2312, 2313, 2314, 2315, 2316, 2317, 2318, 2323, 2324, 2325, 2326, 2327, 2368, 2369, 2370, 2371, 2372, 2373, 2374, 2375, 2376, 2377, 2378, 2577, 2578, 2579, 2624, 2625, 2626, 2627, 4109, 4110, 4111, 4112, 4113, 4114, 4115, 4116, 4117, 4118, 4119, 4160, 4161, 4162, 4163, 4164, 4416, 4417, 4418, 4419, 4420, 4421, 4422, 4423, 4424, 4425, 4426, 4427, 4428, 4429, 4430, 4431, 4432, 4433, 4434, 4435, 4436, 4437, 4438, 4439, 4440, 4441, 4442, 4443, 4444, 4445, 4446, 4447, 4448, 4449, 4450, 4451, 4452, 4453, 4454, 4455, 4456, 4457, 4458, 4459, 4460, 4461, 4462, 4463, 4464, 4465, 4466, 4467, 4468, 4469, 4470]
def wsX11_march : List Cond := cw 4109 :: wI qaLs
theorem qsl : ∀ i ∈ qaLs, cw i ∈ wsX11_march := fun i h => List.mem_cons_of_mem _ (List.mem_map_of_mem h)
def qaS0 : List Nat := [5, 398, 405, 406, 407, 450, 451, 452, 453, 456, 457, 519, 520, 521, 522, 527, 528, 529, 530, 589, 1105, 1106, 1107, 1108, 2130, 2131, 2132, 2133, 2182, 2183, 2184, 2185, 2186, 2187, 2188, 2189, 2190, 2191, 2192, 2193, 2194, 2195, 2196, 2197, 2198, 2199, 2240, 2241, 2242, 2243, 2244, 2245, 2246, 2247, 2248, 2249, 2250, 2251, 2252, 2253, 2254, 2255, 2256, 2257, 2258, 2259, 2260, 2261, 2262, 2263, 2304, 2305, 2306, 2307, 2308, 2309, 2310, 2311, 2312, 2313, 2314, 2315, 2316, 2317, 2318, 2323, 2324, 2325, 2326, 2327, 2368, 2369, 2370, 2371, 2372, 2373, 2374, 2375, 2376, 2377, 2378, 2577, 2578, 2579, 4110, 4111, 4112, 4113, 4114, 4115, 4116, 4117, 4118, 4119, 4160, 4176, 4416, 4417, 4418, 4419, 4420, 4421, 4422, 4423, 4424, 4425, 4426, 4427, 4428, 4429, 4430, 4431, 4432, 4433, 4434, 4435, 4436, 4437, 4438, 4439, 4440, 4441, 4442, 4443, 4444, 4445, 4446, 4447, 4448, 4449, 4450, 4451, 4452, 4453, 4454, 4455, 4456, 4457, 4458, 4459, 4460, 4461, 4462, 4463, 4464, 4465, 4466, 4467, 4468, 4469, 4470]
def wsX11_span : List Cond := cw 4176 :: wI qaS0
theorem qww : ∀ i ∈ qaS0, cw i ∈ wsX11_span := fun i h => List.mem_cons_of_mem _ (List.mem_map_of_mem h)
def qXp : List Nat := [467, 4236, 4416, 4417, 4418, 4419, 4420, 4421, 4422, 4423, 4424, 4425, 4426, 4427, 4428, 4429, 4430, 4431, 4432, 4433, 4434, 4435, 4436, 4437, 4438, 4439, 4440, 4441, 4442, 4443, 4444, 4445, 4446, 4447, 4448, 4449, 4450, 4451, 4452, 4453, 4454, 4455, 4456, 4457, 4458, 4459, 4460, 4461, 4462, 4463, 4464, 4465, 4466, 4467, 4468, 4469, 4470]
def wsX11_keepsRow : List Cond := cw 4236 :: wI qXp
theorem q8r : ∀ i ∈ qXp, cw i ∈ wsX11_keepsRow := fun i h => List.mem_cons_of_mem _ (List.mem_map_of_mem h)
theorem qaKB : okM 4236 qXp = true := qaq (by decide +kernel)
def qXA : List Nat := [5, 456, 458, 467, 524, 4232, 4233, 4234, 4235, 4236, 4416, 4417, 4418, 4419, 4420, 4421, 4422, 4423, 4424, 4425, 4426, 4427, 4428, 4429, 4430, 4431, 4432, 4433, 4434, 4435, 4436, 4437, 4438, 4439, 4440, 4441, 4442, 4443, 4444, 4445, 4446, 4447, 4448, 4449, 4450, 4451, 4452, 4453, 4454, 4455, 4456, 4457, 4458, 4459, 4460, 4461, 4462, 4463, 4464, 4465, 4466, 4467, 4468, 4469, 4470]
def wsX11_keepsAll : List Cond := cw 4232 :: wI qXA
theorem qxL : ∀ i ∈ qXA, cw i ∈ wsX11_keepsAll := fun i h => List.mem_cons_of_mem _ (List.mem_map_of_mem h)
theorem q75 : okM 4232 qXA = true := qaq (by decide +kernel)
def qaLH : List Nat := [5, 456, 458, 467, 524, 525, 589, 4228, 4229, 4230, 4231, 4232, 4233, 4234, 4235, 4236, 4416, 4417, 4418, 4419, 4420, 4421, 4422, 4423, 4424, 4425, 4426, 4427, 4428, 4429, 4430, 4431, 4432, 4433, 4434, 4435, 4436, 4437, 4438, 4439, 4440, 4441, 4442, 4443, 4444, 4445, 4446, 4447, 4448, 4449, 4450, 4451, 4452, 4453, 4454, 4455, 4456, 4457, 4458, 4459, 4460, 4461, 4462, 4463, 4464, 4465, 4466, 4467, 4468, 4469, 4470]
def wsX11_image : List Cond := cw 4228 :: wI qaLH
theorem qQM : ∀ i ∈ qaLH, cw i ∈ wsX11_image := fun i h => List.mem_cons_of_mem _ (List.mem_map_of_mem h)
def qaoj : List Nat := [5, 456, 458, 467, 524, 525, 526, 589, 4229, 4230, 4231, 4232, 4233, 4234, 4235, 4236, 4244, 4416, 4417, 4418, 4419, 4420, 4421, 4422, 4423, 4424, 4425, 4426, 4427, 4428, 4429, 4430, 4431, 4432, 4433, 4434, 4435, 4436, 4437, 4438, 4439, 4440, 4441, 4442, 4443, 4444, 4445, 4446, 4447, 4448, 4449, 4450, 4451, 4452, 4453, 4454, 4455, 4456, 4457, 4458, 4459, 4460, 4461, 4462, 4463, 4464, 4465, 4466, 4467, 4468, 4469, 4470]
def wsX11_restore : List Cond := cw 4244 :: wI qaoj
theorem qCX : ∀ i ∈ qaoj, cw i ∈ wsX11_restore := fun i h => List.mem_cons_of_mem _ (List.mem_map_of_mem h)
def qaDD : List Nat := [5, 398, 589, 2577, 2578, 2579, 4292, 4416, 4417, 4418, 4419, 4420, 4421, 4422, 4423, 4424, 4425, 4426, 4427, 4428, 4429, 4430, 4431, 4432, 4433, 4434, 4435, 4436, 4437, 4438, 4439, 4440, 4441, 4442, 4443, 4444, 4445, 4446, 4447, 4448, 4449, 4450, 4451, 4452, 4453, 4454, 4455, 4456, 4457, 4458, 4459, 4460, 4461, 4462, 4463, 4464, 4465, 4466, 4467, 4468, 4469, 4470]
def wsX11_status : List Cond := cw 4292 :: wI qaDD
theorem qLm : ∀ i ∈ qaDD, cw i ∈ wsX11_status := fun i h => List.mem_cons_of_mem _ (List.mem_map_of_mem h)
def qaMe : List Nat := [524, 525, 589, 590, 4300, 4416, 4417, 4418, 4419, 4420, 4421, 4422, 4423, 4424, 4425, 4426, 4427, 4428, 4429, 4430, 4431, 4432, 4433, 4434, 4435, 4436, 4437, 4438, 4439, 4440, 4441, 4442, 4443, 4444, 4445, 4446, 4447, 4448, 4449, 4450, 4451, 4452, 4453, 4454, 4455, 4456, 4457, 4458, 4459, 4460, 4461, 4462, 4463, 4464, 4465, 4466, 4467, 4468, 4469, 4470]
def wsX11_count : List Cond := cw 4300 :: wI qaMe
theorem qRc : ∀ i ∈ qaMe, cw i ∈ wsX11_count := fun i h => List.mem_cons_of_mem _ (List.mem_map_of_mem h)
def qa5K : List Nat := [2, 15, 16, 19, 20, 21, 64, 65, 69, 70, 78, 79, 84, 142, 143, 148, 149, 150, 151, 192, 193, 194, 200, 201, 205, 206, 207, 208, 209, 210, 211, 212, 257, 259, 260, 261, 262, 276, 279, 320, 321, 322, 323, 324, 325, 326, 327, 328, 329, 330, 331, 535, 580, 594, 595, 596, 597, 598, 599, 640, 641, 642, 643, 644, 645, 646, 647, 648, 649, 650, 651, 652, 653, 654, 655, 656, 657, 658, 659, 660, 661, 662, 663, 704, 705, 706, 707, 708, 709, 710, 711, 712, 713, 714, 715, 716, 717, 718, 719, 720, 721, 722, 723, 724, 725, 726, 727, 768, 769, 770, 771, 772, 773, 774, 775, 776, 777, 778, 779, 780, 781, 782, 783, 784, 785, 786, 787, 788, 789, 790, 791, 832, 833, 834, 835, 836, 837, 838, 839, 840, 841, 842, 843, 844, 845, 846, 847, 848, 849, 850, 851, 852, 853, 854, 855, 896, 897, 898, 899, 900, 901, 902, 903, 904, 905, 906, 907, 908, 909, 910, 911, 912, 913, 914, 915, 916, 917, 918, 919, 960, 961, 962, 963, 964, 965, 966, 967, 968, 969, 970, 971, 972, 973, 974, 975, 976, 977, 978, 979, 980, 981, 982, 983, 1024, 1025, 1026, 1027, 1028, 1029, 1030, 1031, 1032, 1033, 1034, 1035, 1036, 1037, 1038, 1039, 1040, 1041, 1042, 1043, 1044, 1045, 1046, 1047, 1088, 1089, 1090, 1091, 1092, 1093, 1094, 1095, 1096, 1097, 1098, 4352, 4353, 4354, 4355, 4356, 4357, 4358, 4359, 4360, 4361, 4362, 4363, 4364, 4365, 4366, 4367, 4368, 4369, 4370, 4480, 4481, 4482, 4483, 4484, 4485, 4486, 4544, 4545, 4546, 4547, 4548, 4549, 4550, 4551, 4552, 4553, 4554, 4555, 4608, 4609, 4610, 4611, 4612, 4672, 4673, 4800, 4801, 4802, 4803, 4864, 4865]
def wsL_down : List Cond := cw 594 :: (wI qa5K ++ (vx_atS RX10 409 "java/lang/IllegalArgumentException" ["java/lang/RuntimeException", "java/lang/Exception"]).filter goodWord)
theorem qavf : ∀ i ∈ qa5K, cw i ∈ wsL_down := fun i h => List.mem_cons_of_mem _ (List.mem_append_left _ (List.mem_map_of_mem h))
def qbek : List Nat := [2, 15, 16, 64, 65, 66, 78, 79, 142, 143, 200, 201, 208, 209, 210, 211, 212, 323, 535, 580, 595, 640, 645, 646, 647, 648, 649, 650, 651, 652, 653, 654, 655, 656, 657, 658, 659, 660, 661, 662, 663, 704, 705, 706, 707, 708, 709, 710, 711, 712, 713, 714, 715, 724, 725, 726, 768, 769, 770, 771, 772, 773, 774, 780, 781, 782, 783, 784, 785, 786, 787, 788, 789, 790, 791, 832, 833, 834, 835, 836, 837, 838, 839, 840, 841, 842, 843, 844, 845, 846, 847, 848, 849, 850, 851, 852, 853, 854, 855, 896, 897, 898, 899, 900, 901, 902, 903, 904, 905, 906, 907, 908, 909, 910, 911, 912, 913, 914, 915, 916, 962, 963, 964, 965, 966, 967, 968, 970, 971, 972, 973, 974, 975, 976, 977, 979, 980, 981, 982, 983, 1024, 1025, 1026, 1027, 1028, 1029, 1095, 1344, 1345, 1346, 1347, 1348, 1349, 1350, 1351, 1352, 1353, 1354, 1355, 1356, 1357, 1358, 1359, 1360, 1361, 1362, 1363, 1364, 1365, 1366, 1367, 1408, 1409, 1410, 1411, 1412, 1413, 1414, 1415, 1416, 1417, 1418, 1419, 1420, 1421, 1422, 1423, 1424, 1425, 1426, 1427, 1428, 1429, 1430, 1431, 1472, 1473, 1474, 1475, 1476, 4352, 4353, 4354, 4355, 4356, 4357, 4358, 4359, 4360, 4361, 4362, 4363, 4364, 4365, 4366, 4367, 4368, 4369, 4370, 4480, 4481, 4482, 4483, 4484, 4485, 4486, 4608, 4609, 4610, 4611, 4612, 4800, 4801, 4802, 4803]
def wsL_law : List Cond := cw 1344 :: (wI qbek ++ (vx_atS RX10 409 "java/lang/IllegalArgumentException" ["java/lang/RuntimeException", "java/lang/Exception"]).filter goodWord)
theorem qaNb : ∀ i ∈ qbek, cw i ∈ wsL_law := fun i h => List.mem_cons_of_mem _ (List.mem_append_left _ (List.mem_map_of_mem h))
def qa7B : List Nat := [2, 15, 16, 19, 20, 64, 74, 75, 78, 79, 83, 84, 142, 143, 148, 149, 200, 201, 202, 203, 208, 266, 267, 268, 269, 270, 271, 276, 322, 323, 324, 326, 329, 330, 331, 335, 535, 580, 595, 640, 641, 643, 644, 645, 646, 647, 648, 649, 650, 651, 652, 653, 654, 655, 656, 657, 658, 659, 660, 661, 662, 663, 704, 705, 706, 707, 708, 709, 710, 711, 712, 713, 714, 715, 724, 725, 726, 768, 769, 770, 771, 772, 773, 774, 780, 781, 782, 783, 784, 785, 786, 787, 788, 789, 790, 791, 832, 833, 834, 835, 836, 837, 838, 839, 840, 841, 842, 843, 844, 845, 846, 847, 848, 849, 850, 851, 852, 853, 854, 855, 896, 897, 898, 899, 900, 901, 902, 903, 904, 905, 906, 907, 908, 909, 910, 911, 912, 913, 914, 915, 916, 962, 963, 964, 965, 966, 967, 968, 970, 971, 972, 973, 974, 975, 976, 977, 979, 980, 981, 982, 983, 1024, 1025, 1026, 1027, 1028, 1029, 1047, 1092, 1093, 1094, 1095, 1552, 1553, 1554, 1555, 1556, 1557, 1558, 1559, 1600, 1601, 1602, 1603, 1604, 1605, 1606, 1607, 1608, 1609, 1610, 1611, 1612, 1613, 1614, 1615, 1616, 1617, 1618, 1619, 1620, 1621, 1622, 1623, 1664, 1665, 1666, 1667, 1668, 1669, 1670, 1671, 1672, 1673, 1674, 1675, 1676, 1677, 1678, 1679, 1680, 1681, 1682, 1683, 1684, 1685, 1686, 1687, 1728, 1729, 1730, 1731, 1732, 1733, 1734, 1735, 1736, 1737, 1738, 1739, 1740, 1741, 1742, 1743, 1744, 1745, 1746, 1747, 1748, 1749, 1750, 1751, 1792, 1793, 1794, 1795, 1796, 1797, 1798, 1799, 1800, 1801, 1802, 1803, 1804, 1805, 1806, 1807, 1808, 1809, 1810, 1811, 1812, 1813, 1814, 1815, 1856, 1857, 1858, 1859, 1860, 1861, 1862, 1863, 1864, 1865, 1866, 1867, 1868, 1869, 1870, 1871, 1872, 1873, 1874, 1875, 1876, 1877, 1878, 1879, 1920, 1921, 1922, 1923, 1924, 1925, 1926, 1927, 1928, 1929, 1930, 1931, 1932, 1933, 1934, 1935, 1936, 1937, 1938, 1939, 1940, 1941, 1942, 1943, 1984, 1985, 1986, 1987, 1988, 1989, 1990, 1991, 1992, 1993, 1994, 1995, 1996, 1997, 1998, 1999, 2000, 2001, 2002, 2003, 2004, 2005, 2006, 2007, 2048, 2049, 2050, 2051, 2052, 2053, 2054, 2055, 2056, 2057, 2058, 2059, 2060, 2061, 2062, 2063, 2064, 2065, 2066, 2067, 2068, 2069, 4352, 4353, 4354, 4355, 4356, 4357, 4358, 4359, 4360, 4361, 4362, 4363, 4364, 4365, 4366, 4367, 4368, 4369, 4370, 4480, 4481, 4482, 4483, 4484, 4485, 4486, 4544, 4545, 4546, 4547, 4548, 4549, 4550, 4551, 4552, 4553, 4554, 4555, 4608, 4609, 4610, 4611, 4612, 4736, 4737, 4738, 4739, 4740, 4741, 4742, 4743, 4744, 4745, 4746, 4747, 4800, 4801, 4802, 4803, 4864, 4865]
def wsL_work : List Cond := cw 1552 :: (wI qa7B ++ (vx_atS RX10 409 "java/lang/IllegalArgumentException" ["java/lang/RuntimeException", "java/lang/Exception"]).filter goodWord)
theorem qavd : ∀ i ∈ qa7B, cw i ∈ wsL_work := fun i h => List.mem_cons_of_mem _ (List.mem_append_left _ (List.mem_map_of_mem h))
def qa8X : List Nat := [2, 15, 16, 20, 69, 70, 71, 142, 143, 257, 258, 259, 260, 261, 262, 535, 580, 595, 640, 645, 646, 647, 648, 649, 650, 651, 652, 653, 654, 655, 656, 657, 658, 659, 660, 661, 662, 663, 704, 705, 706, 707, 708, 709, 710, 711, 712, 713, 714, 715, 724, 725, 726, 768, 769, 770, 771, 772, 773, 774, 835, 962, 963, 964, 965, 966, 967, 968, 970, 971, 972, 973, 974, 975, 976, 977, 979, 980, 981, 982, 983, 1024, 1025, 1026, 1027, 1028, 1029, 1095, 1557, 2381, 2382, 2383, 2384, 2385, 2386, 2387, 2388, 2389, 2390, 2391, 2432, 2433, 2434, 2435, 2436, 2437, 2438, 2439, 2440, 2441, 2442, 2443, 4352, 4353, 4354, 4355, 4356, 4357, 4358, 4359, 4360, 4361, 4362, 4363, 4364, 4365, 4366, 4367, 4368, 4369, 4370, 4480, 4481, 4482, 4483, 4484, 4485, 4486, 4544, 4545, 4546, 4547, 4548, 4549, 4550, 4551, 4552, 4553, 4554, 4555, 4672, 4673]
def wsL_book : List Cond := cw 2381 :: (wI qa8X ++ (vx_atS RX10 409 "java/lang/IllegalArgumentException" ["java/lang/RuntimeException", "java/lang/Exception"]).filter goodWord)
theorem qau2 : ∀ i ∈ qa8X, cw i ∈ wsL_book := fun i h => List.mem_cons_of_mem _ (List.mem_append_left _ (List.mem_map_of_mem h))
def qbaE : List Nat := [2, 19, 20, 70, 78, 79, 276, 322, 324, 595, 643, 644, 653, 654, 655, 656, 657, 658, 659, 660, 661, 662, 663, 704, 705, 706, 1047, 1557, 1741, 1742, 1743, 1744, 1745, 1746, 1747, 1748, 1812, 1813, 1814, 1815, 1856, 1857, 1858, 1859, 1860, 1861, 1862, 1863, 1873, 1874, 1875, 1984, 1985, 1986, 2052, 2053, 2059, 2060, 2061, 2062, 2063, 2064, 2065, 2386, 2511, 2512, 2513, 2514, 2515, 2516, 2517, 2518, 2519, 2560, 2561, 2562, 2563, 2564, 2565, 2566, 2567, 2568, 2569, 2570, 2571, 2572, 4352, 4353, 4354, 4355, 4356, 4357, 4358, 4359, 4360, 4361, 4362, 4363, 4364, 4365, 4366, 4367, 4368, 4369, 4370, 4544, 4545, 4546, 4547, 4548, 4549, 4550, 4551, 4552, 4553, 4554, 4555, 4672, 4673, 4800, 4801, 4802, 4803]
def wsL_told : List Cond := cw 2511 :: (wI qbaE ++ (vx_atS RX10 409 "java/lang/IllegalArgumentException" ["java/lang/RuntimeException", "java/lang/Exception"]).filter goodWord)
theorem qavg : ∀ i ∈ qbaE, cw i ∈ wsL_told := fun i h => List.mem_cons_of_mem _ (List.mem_append_left _ (List.mem_map_of_mem h))
def qa4n : List Nat := [2, 19, 20, 78, 79, 276, 322, 324, 595, 653, 654, 655, 656, 657, 658, 659, 660, 661, 662, 663, 704, 705, 706, 1047, 1557, 1741, 1742, 1743, 1744, 1745, 1746, 1747, 1748, 1798, 1799, 1800, 2052, 2053, 2063, 2064, 2065, 2638, 2639, 2640, 2641, 2642, 2643, 2644, 2645, 2646, 2647, 2688, 2689, 2690, 2691, 2692, 2693, 2694, 4352, 4353, 4354, 4355, 4356, 4357, 4358, 4359, 4360, 4361, 4362, 4363, 4364, 4365, 4366, 4367, 4368, 4369, 4370, 4544, 4545, 4546, 4547, 4548, 4549, 4550, 4551, 4552, 4553, 4554, 4555, 4800, 4801, 4802, 4803]
def wsL_form : List Cond := cw 2638 :: (wI qa4n ++ (qqx RX10 268 "java/util/NoSuchElementException" 13 qxz ["java/lang/RuntimeException", "java/lang/Exception"]).filter goodWord ++ (vx_atS RX10 409 "java/lang/IllegalArgumentException" ["java/lang/RuntimeException", "java/lang/Exception"]).filter goodWord)
theorem qacD : ∀ i ∈ qa4n, cw i ∈ wsL_form := fun i h => List.mem_cons_of_mem _ (List.mem_append_left _ (List.mem_append_left _ (List.mem_map_of_mem h)))
def qbad : List Nat := [2, 20, 64, 78, 79, 200, 201, 202, 203, 208, 276, 322, 323, 324, 595, 644, 650, 651, 652, 653, 654, 655, 656, 657, 658, 659, 660, 661, 662, 663, 704, 705, 706, 1741, 1742, 1743, 1744, 1745, 1746, 1747, 1748, 1794, 1795, 1796, 1797, 1798, 1799, 1800, 1801, 1802, 1803, 1804, 1805, 1806, 1807, 1808, 1809, 1810, 1811, 1812, 1813, 1814, 1815, 1856, 1857, 1858, 1859, 1860, 1861, 1862, 1863, 1864, 1865, 1866, 1867, 1868, 1869, 1870, 1871, 1872, 1873, 1874, 1875, 1876, 1877, 1878, 1879, 1920, 1921, 1922, 1923, 1924, 1925, 1926, 1927, 1928, 1929, 1930, 1931, 1932, 1933, 1934, 2639, 2690, 2691, 2692, 2705, 2706, 2707, 2708, 2709, 2710, 2711, 2752, 2753, 2754, 2755, 2756, 2757, 2758, 2759, 2760, 2761, 2762, 4352, 4353, 4354, 4355, 4356, 4357, 4358, 4359, 4360, 4361, 4362, 4363, 4364, 4365, 4366, 4367, 4368, 4369, 4370, 4544, 4545, 4546, 4547, 4548, 4549, 4550, 4551, 4552, 4553, 4554, 4555, 4608, 4609, 4610, 4611, 4612, 4800, 4801, 4802, 4803]
def wsL_hare : List Cond := cw 2705 :: (wI qbad ++ (qqx RX10 268 "java/util/NoSuchElementException" 13 qxz ["java/lang/RuntimeException", "java/lang/Exception"]).filter goodWord ++ (vx_atS RX10 409 "java/lang/IllegalArgumentException" ["java/lang/RuntimeException", "java/lang/Exception"]).filter goodWord)
theorem qacF : ∀ i ∈ qbad, cw i ∈ wsL_hare := fun i h => List.mem_cons_of_mem _ (List.mem_append_left _ (List.mem_append_left _ (List.mem_map_of_mem h)))
def qbc9 : List Nat := [2, 20, 595, 653, 654, 655, 656, 657, 658, 659, 660, 661, 662, 663, 704, 705, 706, 2516, 2639, 2690, 2691, 2692, 2773, 2774, 2775, 2816, 2817, 2818, 2819, 4352, 4353, 4354, 4355, 4356, 4357, 4358, 4359, 4360, 4361, 4362, 4363, 4364, 4365, 4366, 4367, 4368, 4369, 4370, 4544, 4545, 4546, 4547, 4548, 4549, 4550, 4551, 4552, 4553, 4554, 4555]
def wsL_fox : List Cond := cw 2773 :: (wI qbc9 ++ (qqx RX10 268 "java/util/NoSuchElementException" 13 qxz ["java/lang/RuntimeException", "java/lang/Exception"]).filter goodWord ++ (vx_atS RX10 409 "java/lang/IllegalArgumentException" ["java/lang/RuntimeException", "java/lang/Exception"]).filter goodWord)
theorem qavA : ∀ i ∈ qbc9, cw i ∈ wsL_fox := fun i h => List.mem_cons_of_mem _ (List.mem_append_left _ (List.mem_append_left _ (List.mem_map_of_mem h)))
def qa6l : List Nat := [2, 20, 78, 79, 276, 644, 657, 658, 659, 1861, 1862, 1863, 2639, 2690, 2691, 2692, 2711, 2752, 2753, 2754, 2826, 2827, 2828, 2829, 2830, 2831, 4352, 4353, 4354, 4355, 4356, 4357, 4358, 4359, 4360, 4361, 4362, 4363, 4364, 4365, 4366, 4367, 4368, 4369, 4370, 4544, 4545, 4546, 4547, 4548, 4549, 4550, 4551, 4552, 4553, 4554, 4555, 4800, 4801, 4802, 4803]
def wsL_debt : List Cond := cw 2826 :: (wI qa6l ++ (qqx RX10 268 "java/util/NoSuchElementException" 13 qxz ["java/lang/RuntimeException", "java/lang/Exception"]).filter goodWord)
theorem qau6 : ∀ i ∈ qa6l, cw i ∈ wsL_debt := fun i h => List.mem_cons_of_mem _ (List.mem_append_left _ (List.mem_map_of_mem h))
def qbcF : List Nat := [2, 19, 20, 148, 149, 651, 657, 658, 659, 1092, 1093, 1094, 1557, 1750, 1751, 1792, 2639, 2646, 2647, 2688, 2689, 2690, 2691, 2692, 2882, 2883, 2884, 2885, 2886, 2887, 4352, 4353, 4354, 4355, 4356, 4357, 4358, 4359, 4360, 4361, 4362, 4363, 4364, 4365, 4366, 4367, 4368, 4369, 4370, 4544, 4545, 4546, 4547, 4548, 4549, 4550, 4551, 4552, 4553, 4554, 4555]
def wsL_far : List Cond := cw 2882 :: (wI qbcF ++ (qqx RX10 268 "java/util/NoSuchElementException" 13 qxz ["java/lang/RuntimeException", "java/lang/Exception"]).filter goodWord)
theorem qaPl : ∀ i ∈ qbcF, cw i ∈ wsL_far := fun i h => List.mem_cons_of_mem _ (List.mem_append_left _ (List.mem_map_of_mem h))
def qa0d : List Nat := [2, 64, 65, 200, 201, 202, 203, 208, 595, 650, 651, 652, 653, 654, 655, 656, 657, 658, 659, 660, 661, 662, 663, 704, 705, 706, 1869, 1870, 1871, 1921, 1922, 1923, 1925, 1926, 1927, 1928, 1929, 1930, 1931, 1932, 1933, 1934, 2894, 2895, 2896, 2897, 2898, 2899, 2900, 2901, 4352, 4353, 4354, 4355, 4356, 4357, 4358, 4359, 4360, 4361, 4362, 4363, 4364, 4365, 4366, 4367, 4368, 4369, 4370, 4608, 4609, 4610, 4611, 4612]
def wsL_would : List Cond := cw 2894 :: (wI qa0d ++ (vx_atS RX10 409 "java/lang/IllegalArgumentException" ["java/lang/RuntimeException", "java/lang/Exception"]).filter goodWord)
theorem qaev : ∀ i ∈ qa0d, cw i ∈ wsL_would := fun i h => List.mem_cons_of_mem _ (List.mem_append_left _ (List.mem_map_of_mem h))
def qbdG : List Nat := [2, 19, 20, 64, 78, 79, 148, 149, 200, 201, 202, 203, 208, 276, 322, 323, 324, 644, 650, 651, 652, 657, 658, 659, 1092, 1093, 1094, 1557, 1738, 1739, 1740, 1741, 1742, 1743, 1744, 1745, 1746, 1747, 1748, 1749, 1750, 1751, 1792, 1793, 1794, 1795, 1796, 1797, 1798, 1799, 1800, 1801, 1802, 1803, 1804, 1805, 1806, 1807, 1808, 1809, 1810, 1811, 1812, 1813, 1814, 1815, 1856, 1857, 1858, 1859, 1860, 1861, 1862, 1863, 1864, 1865, 1866, 1867, 1868, 1869, 1870, 1871, 1872, 1873, 1874, 1875, 1876, 1877, 1878, 1879, 1920, 1921, 1922, 1923, 1924, 1925, 1926, 1927, 1928, 1929, 1930, 1931, 1932, 1933, 1934, 2639, 2646, 2647, 2688, 2689, 2690, 2691, 2692, 2711, 2752, 2753, 2754, 2948, 2949, 2950, 2951, 2952, 2953, 4352, 4353, 4354, 4355, 4356, 4357, 4358, 4359, 4360, 4361, 4362, 4363, 4364, 4365, 4366, 4367, 4368, 4369, 4370, 4544, 4545, 4546, 4547, 4548, 4549, 4550, 4551, 4552, 4553, 4554, 4555, 4608, 4609, 4610, 4611, 4612, 4800, 4801, 4802, 4803]
def wsL_can : List Cond := cw 2948 :: (wI qbdG ++ (qqx RX10 268 "java/util/NoSuchElementException" 13 qxz ["java/lang/RuntimeException", "java/lang/Exception"]).filter goodWord)
theorem qaPp : ∀ i ∈ qbdG, cw i ∈ wsL_can := fun i h => List.mem_cons_of_mem _ (List.mem_append_left _ (List.mem_map_of_mem h))
def qa0i : List Nat := [2, 19, 78, 79, 80, 276, 322, 323, 324, 326, 328, 329, 330, 331, 595, 653, 654, 655, 656, 657, 658, 659, 660, 661, 662, 663, 704, 705, 706, 1047, 1741, 1742, 1743, 1744, 1745, 1746, 1747, 1748, 1812, 1813, 1814, 1815, 1856, 1857, 1858, 1859, 1860, 1861, 1862, 1863, 1873, 1874, 1875, 2049, 2050, 2051, 2052, 2053, 2054, 2055, 2056, 2057, 2058, 2059, 2060, 2061, 2062, 2063, 2064, 2065, 2066, 2067, 2068, 2069, 2518, 2560, 2561, 2562, 2563, 2568, 2569, 2570, 2571, 2960, 2961, 2962, 2963, 2964, 2965, 2966, 2967, 3008, 3009, 4352, 4353, 4354, 4355, 4356, 4357, 4358, 4359, 4360, 4361, 4362, 4363, 4364, 4365, 4366, 4367, 4368, 4369, 4370, 4544, 4545, 4546, 4547, 4548, 4549, 4550, 4551, 4552, 4553, 4554, 4555, 4800, 4801, 4802, 4803]
def wsL_ahead : List Cond := cw 2960 :: (wI qa0i ++ (vx_atS RX10 409 "java/lang/IllegalArgumentException" ["java/lang/RuntimeException", "java/lang/Exception"]).filter goodWord)
theorem qafh : ∀ i ∈ qa0i, cw i ∈ wsL_ahead := fun i h => List.mem_cons_of_mem _ (List.mem_append_left _ (List.mem_map_of_mem h))
def qa37 : List Nat := [2, 19, 20, 64, 78, 79, 148, 149, 200, 201, 202, 203, 208, 276, 322, 323, 324, 644, 650, 651, 652, 657, 658, 659, 720, 1092, 1093, 1094, 1557, 1741, 1742, 1743, 1744, 1745, 1746, 1747, 1748, 1750, 1751, 1792, 1794, 1795, 1796, 1797, 1798, 1799, 1800, 1801, 1802, 1803, 1804, 1805, 1806, 1807, 1808, 1809, 1810, 1811, 1812, 1813, 1814, 1815, 1856, 1857, 1858, 1859, 1860, 1861, 1862, 1863, 1864, 1865, 1866, 1867, 1868, 1869, 1870, 1871, 1872, 1873, 1874, 1875, 1876, 1877, 1878, 1879, 1920, 1921, 1922, 1923, 1924, 1925, 1926, 1927, 1928, 1929, 1930, 1931, 1932, 1933, 1934, 2052, 2053, 2639, 2646, 2647, 2688, 2689, 2690, 2691, 2692, 2711, 2752, 2753, 2754, 2755, 2756, 2762, 3016, 3017, 3018, 3019, 3020, 3021, 3022, 3023, 3024, 3025, 3026, 3027, 3028, 3029, 4352, 4353, 4354, 4355, 4356, 4357, 4358, 4359, 4360, 4361, 4362, 4363, 4364, 4365, 4366, 4367, 4368, 4369, 4370, 4544, 4545, 4546, 4547, 4548, 4549, 4550, 4551, 4552, 4553, 4554, 4555, 4608, 4609, 4610, 4611, 4612, 4800, 4801, 4802, 4803]
def wsL_hops : List Cond := cw 3016 :: (wI qa37 ++ (qqx RX10 268 "java/util/NoSuchElementException" 13 qxz ["java/lang/RuntimeException", "java/lang/Exception"]).filter goodWord)
theorem qavk : ∀ i ∈ qa37, cw i ∈ wsL_hops := fun i h => List.mem_cons_of_mem _ (List.mem_append_left _ (List.mem_map_of_mem h))
def qa3F : List Nat := [2, 19, 20, 64, 78, 79, 132, 133, 148, 149, 200, 201, 202, 203, 208, 276, 322, 323, 324, 384, 385, 386, 644, 650, 651, 652, 657, 658, 659, 720, 1092, 1093, 1094, 1741, 1742, 1743, 1744, 1745, 1746, 1747, 1748, 1750, 1751, 1792, 1793, 1794, 1795, 1796, 1797, 1798, 1799, 1800, 1801, 1802, 1803, 1804, 1805, 1806, 1807, 1808, 1809, 1810, 1811, 1812, 1813, 1814, 1815, 1856, 1857, 1858, 1859, 1860, 1861, 1862, 1863, 1864, 1865, 1866, 1867, 1868, 1869, 1870, 1871, 1872, 1873, 1874, 1875, 1876, 1877, 1878, 1879, 1920, 1921, 1922, 1923, 1924, 1925, 1926, 1927, 1928, 1929, 1930, 1931, 1932, 1933, 1934, 2052, 2053, 2639, 2690, 2691, 2692, 2711, 2752, 2753, 2754, 3026, 3027, 3028, 3029, 3079, 3080, 3081, 3082, 3083, 3084, 3085, 3086, 3087, 3088, 3089, 3090, 3091, 3092, 3093, 3094, 3095, 3136, 3137, 3138, 3139, 3140, 3141, 3142, 3143, 3144, 3145, 3146, 3147, 3148, 3149, 3150, 3151, 3152, 3153, 3154, 3209, 3210, 3211, 3212, 3213, 3214, 4352, 4353, 4354, 4355, 4356, 4357, 4358, 4359, 4360, 4361, 4362, 4363, 4364, 4365, 4366, 4367, 4368, 4369, 4370, 4544, 4545, 4546, 4547, 4548, 4549, 4550, 4551, 4552, 4553, 4554, 4555, 4608, 4609, 4610, 4611, 4612, 4800, 4801, 4802, 4803, 4992, 4993, 4994, 4995]
def wsL_seat : List Cond := cw 3209 :: (wI qa3F ++ (qqx RX10 268 "java/util/NoSuchElementException" 13 qxz ["java/lang/RuntimeException", "java/lang/Exception"]).filter goodWord)
theorem qau7 : ∀ i ∈ qa3F, cw i ∈ wsL_seat := fun i h => List.mem_cons_of_mem _ (List.mem_append_left _ (List.mem_map_of_mem h))
def qaWk : List Nat := [2, 19, 20, 128, 129, 148, 149, 339, 340, 595, 650, 651, 652, 660, 661, 662, 663, 704, 705, 706, 1092, 1093, 1094, 1557, 1750, 1751, 1792, 2052, 2053, 3264, 3265, 3266, 3267, 3268, 3269, 3270, 3271, 3272, 3273, 3274, 3275, 3276, 3277, 3278, 3279, 3280, 3281, 3282, 3283, 3284, 3285, 3286, 3287, 3328, 3329, 3330, 3331, 3332, 3343, 3344, 3345, 3346, 3347, 3348, 4352, 4353, 4354, 4355, 4356, 4357, 4358, 4359, 4360, 4361, 4362, 4363, 4364, 4365, 4366, 4367, 4368, 4369, 4370, 4544, 4545, 4546, 4547, 4548, 4549, 4550, 4551, 4552, 4553, 4554, 4555, 4928, 4929, 4930]
def wsL_ringed : List Cond := cw 3343 :: (wI qaWk ++ (vx_atS RX10 409 "java/lang/IllegalArgumentException" ["java/lang/RuntimeException", "java/lang/Exception"]).filter goodWord)
theorem q49 : ∀ i ∈ qaWk, cw i ∈ wsL_ringed := fun i h => List.mem_cons_of_mem _ (List.mem_append_left _ (List.mem_map_of_mem h))
def qa0R : List Nat := [2, 20, 78, 79, 276, 322, 324, 644, 651, 657, 658, 659, 1742, 1743, 1744, 1809, 1810, 1811, 1930, 1931, 2052, 2053, 2639, 2690, 2691, 2692, 2711, 2752, 2753, 2754, 2755, 2757, 3395, 3396, 3397, 3398, 3399, 3400, 3401, 3402, 3403, 3404, 3405, 3406, 3407, 3408, 4352, 4353, 4354, 4355, 4356, 4357, 4358, 4359, 4360, 4361, 4362, 4363, 4364, 4365, 4366, 4367, 4368, 4369, 4370, 4544, 4545, 4546, 4547, 4548, 4549, 4550, 4551, 4552, 4553, 4554, 4555, 4800, 4801, 4802, 4803]
def wsL_bouts : List Cond := cw 3395 :: (wI qa0R ++ (qqx RX10 268 "java/util/NoSuchElementException" 13 qxz ["java/lang/RuntimeException", "java/lang/Exception"]).filter goodWord)
theorem qag4 : ∀ i ∈ qa0R, cw i ∈ wsL_bouts := fun i h => List.mem_cons_of_mem _ (List.mem_append_left _ (List.mem_map_of_mem h))
def qa4O : List Nat := [2, 69, 70, 78, 79, 136, 137, 257, 276, 322, 324, 390, 391, 392, 595, 653, 654, 655, 656, 657, 658, 659, 660, 661, 662, 663, 704, 705, 706, 1741, 1742, 1743, 1744, 1745, 1746, 1747, 1748, 1798, 1799, 1800, 1802, 1803, 1804, 1805, 1806, 1807, 3459, 3460, 3461, 3462, 3463, 3464, 3465, 3466, 3467, 3468, 3469, 3470, 3471, 3472, 3473, 3474, 3475, 3476, 3477, 3478, 3479, 3520, 3521, 3522, 3523, 3524, 3525, 3526, 3527, 3528, 3529, 3530, 3531, 3532, 3533, 3534, 3535, 3536, 3537, 4352, 4353, 4354, 4355, 4356, 4357, 4358, 4359, 4360, 4361, 4362, 4363, 4364, 4365, 4366, 4367, 4368, 4369, 4370, 4544, 4545, 4546, 4547, 4548, 4549, 4550, 4551, 4552, 4553, 4554, 4555, 4672, 4673, 4800, 4801, 4802, 4803, 5056, 5057, 5058, 5059, 5060, 5061, 5062, 5063, 5064, 5065, 5066]
def wsL_fits : List Cond := cw 3459 :: (wI qa4O ++ (vx_atS RX10 409 "java/lang/IllegalArgumentException" ["java/lang/RuntimeException", "java/lang/Exception"]).filter goodWord)
theorem qavh : ∀ i ∈ qa4O, cw i ∈ wsL_fits := fun i h => List.mem_cons_of_mem _ (List.mem_append_left _ (List.mem_map_of_mem h))
def qa3n : List Nat := [2, 69, 70, 78, 79, 136, 137, 257, 276, 322, 324, 390, 391, 392, 393, 595, 651, 653, 654, 655, 656, 657, 658, 659, 660, 661, 662, 663, 704, 705, 706, 1741, 1742, 1743, 1744, 1745, 1746, 1747, 1748, 1798, 1799, 1800, 1802, 1803, 1804, 1805, 1806, 1807, 1930, 1931, 2052, 2053, 2439, 2440, 2441, 3466, 3467, 3468, 3469, 3470, 3471, 3472, 3473, 3474, 3475, 3476, 3477, 3478, 3479, 3520, 3521, 3522, 3523, 3524, 3525, 3526, 3527, 3528, 3529, 3530, 3531, 3532, 3533, 3534, 3535, 3536, 3537, 3592, 3593, 3594, 3595, 3596, 3597, 3598, 3599, 3600, 3601, 3602, 3603, 3604, 3605, 3606, 3607, 3648, 3649, 3650, 3651, 3652, 3653, 3654, 4352, 4353, 4354, 4355, 4356, 4357, 4358, 4359, 4360, 4361, 4362, 4363, 4364, 4365, 4366, 4367, 4368, 4369, 4370, 4544, 4545, 4546, 4547, 4548, 4549, 4550, 4551, 4552, 4553, 4554, 4555, 4672, 4673, 4800, 4801, 4802, 4803, 5056, 5057, 5058, 5059, 5060, 5061, 5062, 5063, 5064, 5065, 5066]
def wsL_look : List Cond := cw 3592 :: (wI qa3n ++ (vx_atS RX10 409 "java/lang/IllegalArgumentException" ["java/lang/RuntimeException", "java/lang/Exception"]).filter goodWord)
theorem qava : ∀ i ∈ qa3n, cw i ∈ wsL_look := fun i h => List.mem_cons_of_mem _ (List.mem_append_left _ (List.mem_map_of_mem h))
def qa0x : List Nat := [2, 19, 20, 148, 149, 195, 595, 651, 653, 654, 655, 656, 657, 658, 659, 660, 661, 662, 663, 704, 705, 706, 720, 1092, 1093, 1094, 1750, 1751, 1792, 1802, 1803, 1804, 1805, 1806, 1807, 2052, 2053, 3025, 3026, 3027, 3028, 3029, 3665, 3666, 3667, 3668, 3669, 3670, 3671, 3712, 3713, 3714, 3715, 3716, 3717, 3718, 4352, 4353, 4354, 4355, 4356, 4357, 4358, 4359, 4360, 4361, 4362, 4363, 4364, 4365, 4366, 4367, 4368, 4369, 4370, 4544, 4545, 4546, 4547, 4548, 4549, 4550, 4551, 4552, 4553, 4554, 4555]
def wsL_watch : List Cond := cw 3665 :: (wI qa0x ++ (vx_atS RX10 409 "java/lang/IllegalArgumentException" ["java/lang/RuntimeException", "java/lang/Exception"]).filter goodWord)
theorem qafK : ∀ i ∈ qa0x, cw i ∈ wsL_watch := fun i h => List.mem_cons_of_mem _ (List.mem_append_left _ (List.mem_map_of_mem h))
def qbc4 : List Nat := [2, 595, 653, 654, 655, 656, 657, 658, 659, 660, 661, 662, 663, 704, 705, 706, 3725, 3726, 3727, 3728, 3729, 3730, 3731, 3732, 3733, 3734, 3735, 4352, 4353, 4354, 4355, 4356, 4357, 4358, 4359, 4360, 4361, 4362, 4363, 4364, 4365, 4366, 4367, 4368, 4369, 4370]
def wsL_few : List Cond := cw 3725 :: (wI qbc4 ++ (vx_atS RX10 409 "java/lang/IllegalArgumentException" ["java/lang/RuntimeException", "java/lang/Exception"]).filter goodWord)
theorem qaNx : ∀ i ∈ qbc4, cw i ∈ wsL_few := fun i h => List.mem_cons_of_mem _ (List.mem_append_left _ (List.mem_map_of_mem h))
def qa8g : List Nat := [2, 595, 653, 654, 655, 656, 657, 658, 659, 660, 661, 662, 663, 704, 705, 706, 3786, 3787, 3788, 3789, 3790, 3791, 3792, 3793, 4352, 4353, 4354, 4355, 4356, 4357, 4358, 4359, 4360, 4361, 4362, 4363, 4364, 4365, 4366, 4367, 4368, 4369, 4370]
def wsL_road : List Cond := cw 3786 :: (wI qa8g ++ (vx_atS RX10 409 "java/lang/IllegalArgumentException" ["java/lang/RuntimeException", "java/lang/Exception"]).filter goodWord)
theorem qau8 : ∀ i ∈ qa8g, cw i ∈ wsL_road := fun i h => List.mem_cons_of_mem _ (List.mem_append_left _ (List.mem_map_of_mem h))
def qaUX : List Nat := [2, 20, 78, 79, 276, 277, 322, 324, 595, 644, 650, 651, 652, 653, 654, 655, 656, 657, 658, 659, 660, 661, 662, 663, 704, 705, 706, 1860, 1861, 1862, 1863, 1864, 1865, 1866, 1867, 2052, 2053, 2639, 2690, 2691, 2692, 2711, 2752, 2753, 2754, 3404, 3843, 3844, 3845, 3846, 3847, 3848, 3849, 3850, 3851, 3852, 3853, 3854, 3855, 3856, 4352, 4353, 4354, 4355, 4356, 4357, 4358, 4359, 4360, 4361, 4362, 4363, 4364, 4365, 4366, 4367, 4368, 4369, 4370, 4544, 4545, 4546, 4547, 4548, 4549, 4550, 4551, 4552, 4553, 4554, 4555, 4800, 4801, 4802, 4803]
def wsL_clover : List Cond := cw 3843 :: (wI qaUX ++ (qqx RX10 268 "java/util/NoSuchElementException" 13 qxz ["java/lang/RuntimeException", "java/lang/Exception"]).filter goodWord ++ (vx_atS RX10 409 "java/lang/IllegalArgumentException" ["java/lang/RuntimeException", "java/lang/Exception"]).filter goodWord)
theorem qVo : ∀ i ∈ qaUX, cw i ∈ wsL_clover := fun i h => List.mem_cons_of_mem _ (List.mem_append_left _ (List.mem_append_left _ (List.mem_map_of_mem h)))
def qaov : List Nat := [2, 20, 78, 79, 276, 595, 644, 653, 654, 655, 656, 657, 658, 659, 660, 661, 662, 663, 704, 705, 706, 1742, 1743, 1744, 1809, 1810, 1811, 2755, 2757, 3907, 3908, 3909, 3910, 3911, 4352, 4353, 4354, 4355, 4356, 4357, 4358, 4359, 4360, 4361, 4362, 4363, 4364, 4365, 4366, 4367, 4368, 4369, 4370, 4544, 4545, 4546, 4547, 4548, 4549, 4550, 4551, 4552, 4553, 4554, 4555, 4800, 4801, 4802, 4803]
def wsL_strongest : List Cond := cw 3907 :: (wI qaov ++ (vx_atS RX10 409 "java/lang/IllegalArgumentException" ["java/lang/RuntimeException", "java/lang/Exception"]).filter goodWord)
theorem qOe : ∀ i ∈ qaov, cw i ∈ wsL_strongest := fun i h => List.mem_cons_of_mem _ (List.mem_append_left _ (List.mem_map_of_mem h))
def qbaI : List Nat := [2, 20, 78, 79, 276, 595, 644, 653, 654, 655, 656, 657, 658, 659, 660, 661, 662, 663, 704, 705, 706, 1861, 1862, 1863, 2639, 2690, 2691, 2692, 2711, 2752, 2753, 2754, 2831, 3918, 3919, 3920, 3921, 3922, 4352, 4353, 4354, 4355, 4356, 4357, 4358, 4359, 4360, 4361, 4362, 4363, 4364, 4365, 4366, 4367, 4368, 4369, 4370, 4544, 4545, 4546, 4547, 4548, 4549, 4550, 4551, 4552, 4553, 4554, 4555, 4800, 4801, 4802, 4803]
def wsL_ties : List Cond := cw 3918 :: (wI qbaI ++ (qqx RX10 268 "java/util/NoSuchElementException" 13 qxz ["java/lang/RuntimeException", "java/lang/Exception"]).filter goodWord ++ (vx_atS RX10 409 "java/lang/IllegalArgumentException" ["java/lang/RuntimeException", "java/lang/Exception"]).filter goodWord)
theorem qafY : ∀ i ∈ qbaI, cw i ∈ wsL_ties := fun i h => List.mem_cons_of_mem _ (List.mem_append_left _ (List.mem_append_left _ (List.mem_map_of_mem h)))
def qaUt : List Nat := [2, 19, 20, 148, 149, 595, 651, 653, 654, 655, 656, 657, 658, 659, 660, 661, 662, 663, 704, 705, 706, 1047, 1092, 1093, 1094, 1557, 1750, 1751, 1792, 2052, 2053, 2063, 2064, 2065, 2639, 2646, 2647, 2688, 2689, 2690, 2691, 2692, 2693, 2887, 3969, 3970, 3971, 3972, 3973, 4352, 4353, 4354, 4355, 4356, 4357, 4358, 4359, 4360, 4361, 4362, 4363, 4364, 4365, 4366, 4367, 4368, 4369, 4370, 4544, 4545, 4546, 4547, 4548, 4549, 4550, 4551, 4552, 4553, 4554, 4555]
def wsL_refuge : List Cond := cw 3969 :: (wI qaUt ++ (qqx RX10 268 "java/util/NoSuchElementException" 13 qxz ["java/lang/RuntimeException", "java/lang/Exception"]).filter goodWord ++ (vx_atS RX10 409 "java/lang/IllegalArgumentException" ["java/lang/RuntimeException", "java/lang/Exception"]).filter goodWord)
theorem qUX : ∀ i ∈ qaUt, cw i ∈ wsL_refuge := fun i h => List.mem_cons_of_mem _ (List.mem_append_left _ (List.mem_append_left _ (List.mem_map_of_mem h)))
def qa0J : List Nat := [2, 19, 20, 64, 78, 79, 148, 149, 200, 201, 202, 203, 208, 276, 322, 323, 324, 644, 650, 651, 652, 657, 658, 659, 720, 1092, 1093, 1094, 1741, 1742, 1743, 1744, 1745, 1746, 1747, 1748, 1750, 1751, 1792, 1793, 1794, 1795, 1796, 1797, 1798, 1799, 1800, 1801, 1802, 1803, 1804, 1805, 1806, 1807, 1808, 1809, 1810, 1811, 1812, 1813, 1814, 1815, 1856, 1857, 1858, 1859, 1860, 1861, 1862, 1863, 1864, 1865, 1866, 1867, 1868, 1869, 1870, 1871, 1872, 1873, 1874, 1875, 1876, 1877, 1878, 1879, 1920, 1921, 1922, 1923, 1924, 1925, 1926, 1927, 1928, 1929, 1930, 1931, 1932, 1933, 1934, 2639, 2690, 2691, 2692, 2711, 2752, 2753, 2754, 3026, 3027, 3028, 3029, 3094, 3095, 3136, 3980, 3981, 3982, 3983, 3984, 3985, 4352, 4353, 4354, 4355, 4356, 4357, 4358, 4359, 4360, 4361, 4362, 4363, 4364, 4365, 4366, 4367, 4368, 4369, 4370, 4544, 4545, 4546, 4547, 4548, 4549, 4550, 4551, 4552, 4553, 4554, 4555, 4608, 4609, 4610, 4611, 4612, 4800, 4801, 4802, 4803]
def wsL_range : List Cond := cw 3980 :: (wI qa0J ++ (qqx RX10 268 "java/util/NoSuchElementException" 13 qxz ["java/lang/RuntimeException", "java/lang/Exception"]).filter goodWord)
theorem qafw : ∀ i ∈ qa0J, cw i ∈ wsL_range := fun i h => List.mem_cons_of_mem _ (List.mem_append_left _ (List.mem_map_of_mem h))
def qa0H : List Nat := [2, 19, 64, 78, 79, 80, 148, 149, 200, 201, 202, 203, 208, 276, 322, 323, 324, 326, 328, 329, 330, 331, 595, 650, 651, 652, 653, 654, 655, 656, 657, 658, 659, 660, 661, 662, 663, 704, 705, 706, 1047, 1092, 1093, 1094, 1738, 1739, 1740, 1741, 1742, 1743, 1744, 1745, 1746, 1747, 1748, 1749, 1750, 1751, 1792, 1793, 1794, 1795, 1796, 1797, 1798, 1799, 1800, 1801, 1802, 1803, 1804, 1805, 1806, 1807, 1808, 1809, 1810, 1811, 1812, 1813, 1814, 1815, 1856, 1857, 1858, 1859, 1860, 1861, 1862, 1863, 1864, 1865, 1866, 1867, 1868, 1869, 1870, 1871, 1872, 1873, 1874, 1875, 1876, 1877, 1878, 1879, 1920, 1921, 1922, 1923, 1924, 1925, 1926, 1927, 1928, 1929, 1930, 1931, 1932, 1933, 1934, 1936, 1937, 1938, 1992, 1993, 1994, 1995, 1996, 1997, 1998, 2000, 2001, 2002, 2003, 2049, 2050, 2051, 2052, 2053, 2054, 2055, 2056, 2057, 2058, 2059, 2060, 2061, 2062, 2063, 2064, 2065, 2066, 2067, 2068, 2069, 2518, 2560, 2561, 2562, 2563, 2965, 2966, 2967, 3008, 4032, 4033, 4034, 4035, 4036, 4037, 4038, 4039, 4040, 4041, 4042, 4043, 4044, 4045, 4046, 4047, 4048, 4049, 4050, 4051, 4052, 4053, 4054, 4055, 4096, 4097, 4098, 4099, 4100, 4101, 4102, 4103, 4104, 4105, 4352, 4353, 4354, 4355, 4356, 4357, 4358, 4359, 4360, 4361, 4362, 4363, 4364, 4365, 4366, 4367, 4368, 4369, 4370, 4544, 4545, 4546, 4547, 4548, 4549, 4550, 4551, 4552, 4553, 4554, 4555, 4608, 4609, 4610, 4611, 4612, 4800, 4801, 4802, 4803]
def wsL_march : List Cond := cw 4032 :: (wI qa0H ++ (vx_atS RX10 409 "java/lang/IllegalArgumentException" ["java/lang/RuntimeException", "java/lang/Exception"]).filter goodWord)
theorem qafg : ∀ i ∈ qa0H, cw i ∈ wsL_march := fun i h => List.mem_cons_of_mem _ (List.mem_append_left _ (List.mem_map_of_mem h))
def qa25 : List Nat := [2, 19, 20, 64, 78, 79, 80, 148, 149, 200, 201, 202, 203, 208, 276, 322, 323, 324, 326, 328, 329, 330, 331, 595, 644, 649, 650, 651, 652, 653, 654, 655, 656, 657, 658, 659, 660, 661, 662, 663, 704, 705, 706, 1047, 1092, 1093, 1094, 1738, 1739, 1740, 1741, 1742, 1743, 1744, 1745, 1746, 1747, 1748, 1749, 1750, 1751, 1792, 1793, 1794, 1795, 1796, 1797, 1798, 1799, 1800, 1801, 1802, 1803, 1804, 1805, 1806, 1807, 1808, 1809, 1810, 1811, 1812, 1813, 1814, 1815, 1856, 1857, 1858, 1859, 1860, 1861, 1862, 1863, 1864, 1865, 1866, 1867, 1868, 1869, 1870, 1871, 1872, 1873, 1874, 1875, 1876, 1877, 1878, 1879, 1920, 1921, 1922, 1923, 1924, 1925, 1926, 1927, 1928, 1929, 1930, 1931, 1932, 1933, 1934, 1936, 1937, 1938, 1992, 1993, 1994, 1995, 1996, 1997, 1998, 2000, 2001, 2002, 2003, 2049, 2050, 2051, 2052, 2053, 2054, 2055, 2056, 2057, 2058, 2059, 2060, 2061, 2062, 2063, 2064, 2065, 2066, 2067, 2068, 2069, 2755, 2965, 2966, 2967, 3008, 3408, 4037, 4038, 4039, 4040, 4041, 4042, 4043, 4044, 4045, 4046, 4047, 4048, 4049, 4050, 4051, 4052, 4053, 4054, 4055, 4096, 4097, 4098, 4099, 4100, 4101, 4167, 4168, 4169, 4170, 4171, 4172, 4352, 4353, 4354, 4355, 4356, 4357, 4358, 4359, 4360, 4361, 4362, 4363, 4364, 4365, 4366, 4367, 4368, 4369, 4370, 4544, 4545, 4546, 4547, 4548, 4549, 4550, 4551, 4552, 4553, 4554, 4555, 4608, 4609, 4610, 4611, 4612, 4800, 4801, 4802, 4803]
def wsL_span : List Cond := cw 4167 :: (wI qa25 ++ (vx_atS RX10 409 "java/lang/IllegalArgumentException" ["java/lang/RuntimeException", "java/lang/Exception"]).filter goodWord)
theorem qave : ∀ i ∈ qa25, cw i ∈ wsL_span := fun i h => List.mem_cons_of_mem _ (List.mem_append_left _ (List.mem_map_of_mem h))
abbrev vwCl : List vw_C := [(RX0, TX0, 2), (RX1, TX1, 4), (RX2, TX2, 12), (RX3, TX3, 11), (RX4, TX4, 5), (RX5, TX5, 2), (RX6, TX6, 3), (RX7, TX7, 4), (RX8, TX8, 7), (RX9, TX9, 12), (RX10, TX10, 19), (RX11, TX11, 55)]
