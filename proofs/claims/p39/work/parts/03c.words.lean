def qazL : List Nat := [257, 261, 262, 4672, 4673]
def wsX0_clear : List Cond := cw 261 :: wI qazL
theorem qai4 : ∀ i ∈ qazL, cw i ∈ wsX0_clear := fun i h => List.mem_cons_of_mem _ (List.mem_map_of_mem h)
theorem qakx : okM 261 qazL = true := qaq (by decide +kernel)
def qaQf : List Nat := [11, 12, 69, 147, 215, 256, 257, 258, 259, 260, 261, 262, 4672, 4673]
def wsX0_init : List Cond := cw 215 :: wI qaQf
theorem qLo : ∀ i ∈ qaQf, cw i ∈ wsX0_init := fun i h => List.mem_cons_of_mem _ (List.mem_map_of_mem h)
theorem qbaj : okM 215 qaQf = true := qaq (by decide +kernel)
def q06 : List Nat := [715, 726, 4480, 4481, 4482, 4483, 4484, 4485, 4486]
def wsX8_isFaulty : List Cond := cw 726 :: wI q06
theorem qadu : ∀ i ∈ q06, cw i ∈ wsX8_isFaulty := fun i h => List.mem_cons_of_mem _ (List.mem_map_of_mem h)
theorem qoK : okM 726 q06 = true := qaq (by decide +kernel)
def qS2 : List Nat := [142, 712, 713, 774, 4480, 4481, 4482, 4483, 4484, 4485, 4486]
def wsX8_skipBlanks : List Cond := cw 774 :: wI qS2
theorem qIH : ∀ i ∈ qS2, cw i ∈ wsX8_skipBlanks := fun i h => List.mem_cons_of_mem _ (List.mem_map_of_mem h)
theorem qyd : okM 774 qS2 = true := qaq (by decide +kernel)
def qabE : List Nat := [15, 142, 712, 713, 770, 771, 772, 773, 774, 4480, 4481, 4482, 4483, 4484, 4485, 4486]
def wsX8_isEnded : List Cond := cw 770 :: wI qabE
theorem qLF : ∀ i ∈ qabE, cw i ∈ wsX8_isEnded := fun i h => List.mem_cons_of_mem _ (List.mem_map_of_mem h)
theorem qR4 : okM 770 qabE = true := qaq (by decide +kernel)
def qaax : List Nat := [142, 712, 977, 4480, 4481, 4482, 4483, 4484, 4485, 4486]
def wsX8_digitAt : List Cond := cw 977 :: wI qaax
theorem q4e : ∀ i ∈ qaax, cw i ∈ wsX8_digitAt := fun i h => List.mem_cons_of_mem _ (List.mem_map_of_mem h)
theorem qaot : okM 977 qaax = true := qaq (by decide +kernel)
def qax2 : List Nat := [143, 715, 968, 4480, 4481, 4482, 4483, 4484, 4485, 4486]
def wsX8_blame : List Cond := cw 968 :: wI qax2
theorem qalU : ∀ i ∈ qax2, cw i ∈ wsX8_blame := fun i h => List.mem_cons_of_mem _ (List.mem_map_of_mem h)
theorem qajF : okM 968 qax2 = true := qaq (by decide +kernel)
def qaDt : List Nat := [659]
def wsX10_within : List Cond := cw 659 :: wI qaDt
theorem qBI : okM 659 qaDt = true := qaq (by decide +kernel)
def qajx : List Nat := [2, 15, 142, 143, 650, 651, 652, 658, 659, 711, 712, 713, 714, 715, 724, 725, 726, 771, 772, 773, 774, 835, 965, 966, 967, 968, 972, 973, 974, 975, 976, 977, 4480, 4481, 4482, 4483, 4484, 4485, 4486]
def wsX8_number : List Cond := cw 972 :: wI qajx
theorem qm9 : ∀ i ∈ qajx, cw i ∈ wsX8_number := fun i h => List.mem_cons_of_mem _ (List.mem_map_of_mem h)
theorem qB5 : okM 972 qajx = true := qaq (by decide +kernel)
def qaxT : List Nat := [257, 2441, 4672, 4673]
def wsX0_tells : List Cond := cw 2441 :: wI qaxT
theorem qaL6 : ∀ i ∈ qaxT, cw i ∈ wsX0_tells := fun i h => List.mem_cons_of_mem _ (List.mem_map_of_mem h)
theorem qaK8 : okM 2441 qaxT = true := qaq (by decide +kernel)
def qUB : List Nat := [15, 143, 714, 715, 964, 965, 966, 967, 968, 4480, 4481, 4482, 4483, 4484, 4485, 4486]
def wsX8_blameToken : List Cond := cw 964 :: wI qUB
theorem qGS : ∀ i ∈ qUB, cw i ∈ wsX8_blameToken := fun i h => List.mem_cons_of_mem _ (List.mem_map_of_mem h)
theorem qub : okM 964 qUB = true := qaq (by decide +kernel)
def qaAQ : List Nat := [15, 142, 712, 713, 714, 715, 724, 725, 726, 771, 772, 773, 774, 835, 1025, 4480, 4481, 4482, 4483, 4484, 4485, 4486]
def wsX8_takes : List Cond := cw 1025 :: wI qaAQ
theorem qCR : ∀ i ∈ qaAQ, cw i ∈ wsX8_takes := fun i h => List.mem_cons_of_mem _ (List.mem_map_of_mem h)
theorem qVq : okM 1025 qaAQ = true := qaq (by decide +kernel)
def qYB : List Nat := [15, 142, 143, 712, 713, 715, 771, 772, 773, 774, 965, 966, 967, 968, 1029, 4480, 4481, 4482, 4483, 4484, 4485, 4486]
def wsX8_blameSign : List Cond := cw 1029 :: wI qYB
theorem qAz : ∀ i ∈ qYB, cw i ∈ wsX8_blameSign := fun i h => List.mem_cons_of_mem _ (List.mem_map_of_mem h)
theorem qEj : okM 1029 qYB = true := qaq (by decide +kernel)
def qaCC : List Nat := [15, 142, 143, 712, 713, 714, 715, 724, 725, 726, 771, 772, 773, 774, 835, 965, 966, 967, 968, 981, 982, 983, 1024, 1025, 1026, 1027, 1028, 1029, 4480, 4481, 4482, 4483, 4484, 4485, 4486]
def wsX8_needs : List Cond := cw 981 :: wI qaCC
theorem q5e : ∀ i ∈ qaCC, cw i ∈ wsX8_needs := fun i h => List.mem_cons_of_mem _ (List.mem_map_of_mem h)
theorem qAx : okM 981 qaCC = true := qaq (by decide +kernel)
def q4x : List Nat := [2, 15, 69, 142, 143, 257, 262, 650, 651, 652, 658, 659, 711, 712, 713, 714, 715, 724, 725, 726, 771, 772, 773, 774, 835, 962, 963, 964, 965, 966, 967, 968, 970, 971, 972, 973, 974, 975, 976, 977, 979, 980, 981, 982, 983, 1024, 1025, 1026, 1027, 1028, 1029, 2391, 2436, 2437, 2438, 2439, 2440, 2441, 2442, 2443, 4480, 4481, 4482, 4483, 4484, 4485, 4486, 4672, 4673]
def wsX0_readLine : List Cond := cw 2436 :: wI q4x
theorem qmh : ∀ i ∈ q4x, cw i ∈ wsX0_readLine := fun i h => List.mem_cons_of_mem _ (List.mem_map_of_mem h)
theorem qaRD : okM 2436 q4x = true := qaq (by decide +kernel)
def q3U : List Nat := [2, 15, 69, 142, 143, 257, 258, 259, 260, 261, 262, 650, 651, 652, 658, 659, 711, 712, 713, 714, 715, 724, 725, 726, 768, 769, 770, 771, 772, 773, 774, 835, 962, 963, 964, 965, 966, 967, 968, 970, 971, 972, 973, 974, 975, 976, 977, 979, 980, 981, 982, 983, 1024, 1025, 1026, 1027, 1028, 1029, 2390, 2391, 2432, 2433, 2434, 2435, 2436, 2437, 2438, 2439, 2440, 2441, 2442, 2443, 4480, 4481, 4482, 4483, 4484, 4485, 4486, 4672, 4673]
def wsX0_readFrom : List Cond := cw 2390 :: wI q3U
theorem qxh : ∀ i ∈ q3U, cw i ∈ wsX0_readFrom := fun i h => List.mem_cons_of_mem _ (List.mem_map_of_mem h)
theorem qaNo : okM 2390 q3U = true := qaq (by decide +kernel)
def qaiW : List Nat := [257, 3533, 4672, 4673]
def wsX0_agrees : List Cond := cw 3533 :: wI qaiW
theorem qawh : ∀ i ∈ qaiW, cw i ∈ wsX0_agrees := fun i h => List.mem_cons_of_mem _ (List.mem_map_of_mem h)
theorem qaYC : okM 3533 qaiW = true := qaq (by decide +kernel)
def qaCy : List Nat := [276, 321, 322, 323, 324, 325, 326, 327, 328, 329, 330, 331, 4544, 4545, 4546, 4547, 4548, 4549, 4550, 4551, 4552, 4553, 4554, 4555, 4800, 4801, 4802, 4803]
def wsX1_begin : List Cond := cw 321 :: wI qaCy
theorem qvA : ∀ i ∈ qaCy, cw i ∈ wsX1_begin := fun i h => List.mem_cons_of_mem _ (List.mem_map_of_mem h)
theorem qaLH : okM 321 qaCy = true := qaq (by decide +kernel)
def qaOg : List Nat := [11, 12, 78, 147, 274, 275, 276, 277, 278, 279, 320, 321, 322, 323, 324, 325, 326, 327, 328, 329, 330, 331, 4544, 4545, 4546, 4547, 4548, 4549, 4550, 4551, 4552, 4553, 4554, 4555, 4800, 4801, 4802, 4803]
def wsX1_init : List Cond := cw 274 :: wI qaOg
theorem qHA : ∀ i ∈ qaOg, cw i ∈ wsX1_init := fun i h => List.mem_cons_of_mem _ (List.mem_map_of_mem h)
theorem qa4x : okM 274 qaOg = true := qaq (by decide +kernel)
def qaN9 : List Nat := [323, 1476, 4800, 4801, 4802, 4803]
def wsX1_obey : List Cond := cw 1476 :: wI qaN9
theorem qaUN : ∀ i ∈ qaN9, cw i ∈ wsX1_obey := fun i h => List.mem_cons_of_mem _ (List.mem_map_of_mem h)
theorem qa22 : okM 1476 qaN9 = true := qaq (by decide +kernel)
def q3a : List Nat := [276, 322, 323, 328, 329, 330, 331, 2964, 4800, 4801, 4802, 4803]
def wsX1_copyFrom : List Cond := cw 2964 :: wI q3a
theorem qxg : ∀ i ∈ q3a, cw i ∈ wsX1_copyFrom := fun i h => List.mem_cons_of_mem _ (List.mem_map_of_mem h)
theorem qXw : okM 2964 q3a = true := qaq (by decide +kernel)
def qaZv : List Nat := [276, 1875, 4800, 4801, 4802, 4803]
def wsX1_day : List Cond := cw 1875 :: wI qaZv
theorem qa0l : ∀ i ∈ qaZv, cw i ∈ wsX1_day := fun i h => List.mem_cons_of_mem _ (List.mem_map_of_mem h)
theorem qau4 : okM 1875 qaZv = true := qaq (by decide +kernel)
def qaNf : List Nat := [276, 1986, 4800, 4801, 4802, 4803]
def wsX1_year : List Cond := cw 1986 :: wI qaNf
theorem qaTE : ∀ i ∈ qaNf, cw i ∈ wsX1_year := fun i h => List.mem_cons_of_mem _ (List.mem_map_of_mem h)
theorem qaUa : okM 1986 qaNf = true := qaq (by decide +kernel)
def qTd : List Nat := [276, 2563, 4800, 4801, 4802, 4803]
def wsX1_caughtOnes : List Cond := cw 2563 :: wI qTd
theorem q4K : ∀ i ∈ qTd, cw i ∈ wsX1_caughtOnes := fun i h => List.mem_cons_of_mem _ (List.mem_map_of_mem h)
theorem qOD : okM 2563 qTd = true := qaq (by decide +kernel)
def qWC : List Nat := [276, 2567, 4800, 4801, 4802, 4803]
def wsX1_leaptOnes : List Cond := cw 2567 :: wI qWC
theorem q7a : ∀ i ∈ qWC, cw i ∈ wsX1_leaptOnes := fun i h => List.mem_cons_of_mem _ (List.mem_map_of_mem h)
theorem qaGR : okM 2567 qWC = true := qaq (by decide +kernel)
def q1m : List Nat := [276, 322, 324, 3399, 4544, 4545, 4546, 4547, 4548, 4549, 4550, 4551, 4552, 4553, 4554, 4555, 4800, 4801, 4802, 4803]
def wsX1_freeOnes : List Cond := cw 3399 :: wI q1m
theorem qHj : ∀ i ∈ q1m, cw i ∈ wsX1_freeOnes := fun i h => List.mem_cons_of_mem _ (List.mem_map_of_mem h)
theorem qaO5 : okM 3399 q1m = true := qaq (by decide +kernel)
def q0E : List Nat := [276, 1744, 4800, 4801, 4802, 4803]
def wsX1_isCaught : List Cond := cw 1744 :: wI q0E
theorem qagq : ∀ i ∈ q0E, cw i ∈ wsX1_isCaught := fun i h => List.mem_cons_of_mem _ (List.mem_map_of_mem h)
theorem qoT : okM 1744 q0E = true := qaq (by decide +kernel)
def qaOk : List Nat := [276, 1748, 4800, 4801, 4802, 4803]
def wsX1_sits : List Cond := cw 1748 :: wI qaOk
theorem qaTB : ∀ i ∈ qaOk, cw i ∈ wsX1_sits := fun i h => List.mem_cons_of_mem _ (List.mem_map_of_mem h)
theorem qD5 : okM 1748 qaOk = true := qaq (by decide +kernel)
def qaly : List Nat := [276, 1811, 4800, 4801, 4802, 4803]
def wsX1_strong : List Cond := cw 1811 :: wI qaly
theorem qaxs : ∀ i ∈ qaly, cw i ∈ wsX1_strong := fun i h => List.mem_cons_of_mem _ (List.mem_map_of_mem h)
theorem qFV : okM 1811 qaly = true := qaq (by decide +kernel)
def qaw5 : List Nat := [276, 1815, 4800, 4801, 4802, 4803]
def wsX1_still : List Cond := cw 1815 :: wI qaw5
theorem qaMa : ∀ i ∈ qaw5, cw i ∈ wsX1_still := fun i h => List.mem_cons_of_mem _ (List.mem_map_of_mem h)
theorem qajX : okM 1815 qaw5 = true := qaq (by decide +kernel)
def qaBX : List Nat := [276, 1879, 4800, 4801, 4802, 4803]
def wsX1_leaps : List Cond := cw 1879 :: wI qaBX
theorem qaLy : ∀ i ∈ qaBX, cw i ∈ wsX1_leaps := fun i h => List.mem_cons_of_mem _ (List.mem_map_of_mem h)
theorem qaLu : okM 1879 qaBX = true := qaq (by decide +kernel)
def qaiB : List Nat := [276, 1863, 4800, 4801, 4802, 4803]
def wsX1_owesTo : List Cond := cw 1863 :: wI qaiB
theorem qaDD : ∀ i ∈ qaiB, cw i ∈ wsX1_owesTo := fun i h => List.mem_cons_of_mem _ (List.mem_map_of_mem h)
theorem qQ2 : okM 1863 qaiB = true := qaq (by decide +kernel)
def qaSt : List Nat := [78, 276, 322, 324, 1859, 1860, 1861, 1862, 1863, 4544, 4545, 4546, 4547, 4548, 4549, 4550, 4551, 4552, 4553, 4554, 4555, 4800, 4801, 4802, 4803]
def wsX1_owes : List Cond := cw 1859 :: wI qaSt
theorem qV7 : ∀ i ∈ qaSt, cw i ∈ wsX1_owes := fun i h => List.mem_cons_of_mem _ (List.mem_map_of_mem h)
theorem qavd : okM 1859 qaSt = true := qaq (by decide +kernel)
def qaOG : List Nat := [78, 276, 322, 324, 1860, 1861, 1862, 1863, 1867, 4544, 4545, 4546, 4547, 4548, 4549, 4550, 4551, 4552, 4553, 4554, 4555, 4800, 4801, 4802, 4803]
def wsX1_owed : List Cond := cw 1867 :: wI qaOG
theorem qUY : ∀ i ∈ qaOG, cw i ∈ wsX1_owed := fun i h => List.mem_cons_of_mem _ (List.mem_map_of_mem h)
theorem qaDx : okM 1867 qaOG = true := qaq (by decide +kernel)
def q4b : List Nat := [78, 276, 322, 324, 1856, 1857, 1858, 1859, 1860, 1861, 1862, 1863, 2571, 4544, 4545, 4546, 4547, 4548, 4549, 4550, 4551, 4552, 4553, 4554, 4555, 4800, 4801, 4802, 4803]
def wsX1_allDebts : List Cond := cw 2571 :: wI q4b
theorem qCt : ∀ i ∈ q4b, cw i ∈ wsX1_allDebts := fun i h => List.mem_cons_of_mem _ (List.mem_map_of_mem h)
theorem qadq : okM 2571 q4b = true := qaq (by decide +kernel)
def q1s : List Nat := [78, 276, 322, 324, 1741, 1742, 1743, 1744, 1745, 1746, 1747, 1748, 1800, 4544, 4545, 4546, 4547, 4548, 4549, 4550, 4551, 4552, 4553, 4554, 4555, 4800, 4801, 4802, 4803]
def wsX1_seatedIn : List Cond := cw 1800 :: wI q1s
theorem qw5 : ∀ i ∈ q1s, cw i ∈ wsX1_seatedIn := fun i h => List.mem_cons_of_mem _ (List.mem_map_of_mem h)
theorem qWu : okM 1800 q1s = true := qaq (by decide +kernel)
def qHf : List Nat := [78, 276, 322, 324, 1741, 1742, 1743, 1744, 1808, 1809, 1810, 1811, 4101, 4544, 4545, 4546, 4547, 4548, 4549, 4550, 4551, 4552, 4553, 4554, 4555, 4800, 4801, 4802, 4803]
def wsX1_strongTogether : List Cond := cw 4101 :: wI qHf
theorem qpg : ∀ i ∈ qHf, cw i ∈ wsX1_strongTogether := fun i h => List.mem_cons_of_mem _ (List.mem_map_of_mem h)
theorem q9F : okM 4101 qHf = true := qaq (by decide +kernel)
def qIP : List Nat := [1804, 1805, 1806, 1807]
def wsJ6_bitCount_0f7a4 : List Cond := cw 1804 :: wI qIP
theorem qFO : ∀ i ∈ qIP, cw i ∈ wsJ6_bitCount_0f7a4 := fun i h => List.mem_cons_of_mem _ (List.mem_map_of_mem h)
theorem qFG : okM 1804 qIP = true := qaq (by decide +kernel)
def q4s : List Nat := [203, 1871, 4608, 4609, 4610, 4611, 4612]
def wsX4_setFacts : List Cond := cw 1871 :: wI q4s
theorem qadC : ∀ i ∈ q4s, cw i ∈ wsX4_setFacts := fun i h => List.mem_cons_of_mem _ (List.mem_map_of_mem h)
theorem qag7 : okM 1871 q4s = true := qaq (by decide +kernel)
def q4m : List Nat := [203, 1923, 4608, 4609, 4610, 4611, 4612]
def wsX4_setTimes : List Cond := cw 1923 :: wI q4m
theorem qagG : ∀ i ∈ q4m, cw i ∈ wsX4_setTimes := fun i h => List.mem_cons_of_mem _ (List.mem_map_of_mem h)
theorem qadj : okM 1923 q4m = true := qaq (by decide +kernel)
def qaLz : List Nat := [1934]
def wsX4_joined : List Cond := cw 1934 :: wI qaLz
theorem qaZB : okM 1934 qaLz = true := qaq (by decide +kernel)
def qayW : List Nat := [64, 200, 201, 202, 203, 208, 650, 651, 652, 1927, 1928, 1929, 1930, 1931, 1932, 1933, 1934, 4608, 4609, 4610, 4611, 4612]
def wsX4_reach : List Cond := cw 1927 :: wI qayW
theorem qtp : ∀ i ∈ qayW, cw i ∈ wsX4_reach := fun i h => List.mem_cons_of_mem _ (List.mem_map_of_mem h)
theorem qaLG : okM 1927 qayW = true := qaq (by decide +kernel)
def qaxS : List Nat := [64, 78, 200, 201, 202, 203, 208, 276, 322, 323, 324, 650, 651, 652, 1741, 1742, 1743, 1744, 1745, 1746, 1747, 1748, 1796, 1797, 1798, 1799, 1800, 1801, 1802, 1803, 1804, 1805, 1806, 1807, 1808, 1809, 1810, 1811, 1812, 1813, 1814, 1815, 1856, 1857, 1858, 1859, 1860, 1861, 1862, 1863, 1864, 1865, 1866, 1867, 1868, 1869, 1870, 1871, 1872, 1873, 1874, 1875, 1876, 1877, 1878, 1879, 1920, 1921, 1922, 1923, 1924, 1925, 1926, 1927, 1928, 1929, 1930, 1931, 1932, 1933, 1934, 4544, 4545, 4546, 4547, 4548, 4549, 4550, 4551, 4552, 4553, 4554, 4555, 4608, 4609, 4610, 4611, 4612, 4800, 4801, 4802, 4803]
def wsX1_reach : List Cond := cw 1796 :: wI qaxS
theorem qiw : ∀ i ∈ qaxS, cw i ∈ wsX1_reach := fun i h => List.mem_cons_of_mem _ (List.mem_map_of_mem h)
theorem q5q : okM 1796 qaxS = true := qaq (by decide +kernel)
def qaAg : List Nat := [148, 149, 651, 1092, 1093, 1094, 1792, 4544, 4545, 4546, 4547, 4548, 4549, 4550, 4551, 4552, 4553, 4554, 4555]
def wsX2_apart : List Cond := cw 1792 :: wI qaAg
theorem qJv : ∀ i ∈ qaAg, cw i ∈ wsX2_apart := fun i h => List.mem_cons_of_mem _ (List.mem_map_of_mem h)
theorem qOB : okM 1792 qaAg = true := qaq (by decide +kernel)
def qX5 : List Nat := [19, 64, 78, 148, 149, 200, 201, 202, 203, 208, 276, 322, 323, 324, 650, 651, 652, 1092, 1093, 1094, 1740, 1741, 1742, 1743, 1744, 1745, 1746, 1747, 1748, 1749, 1750, 1751, 1792, 1793, 1794, 1795, 1796, 1797, 1798, 1799, 1800, 1801, 1802, 1803, 1804, 1805, 1806, 1807, 1808, 1809, 1810, 1811, 1812, 1813, 1814, 1815, 1856, 1857, 1858, 1859, 1860, 1861, 1862, 1863, 1864, 1865, 1866, 1867, 1868, 1869, 1870, 1871, 1872, 1873, 1874, 1875, 1876, 1877, 1878, 1879, 1920, 1921, 1922, 1923, 1924, 1925, 1926, 1927, 1928, 1929, 1930, 1931, 1932, 1933, 1934, 4544, 4545, 4546, 4547, 4548, 4549, 4550, 4551, 4552, 4553, 4554, 4555, 4608, 4609, 4610, 4611, 4612, 4800, 4801, 4802, 4803]
def wsX1_couldLeap : List Cond := cw 1740 :: wI qX5
theorem qrO : ∀ i ∈ qX5, cw i ∈ wsX1_couldLeap := fun i h => List.mem_cons_of_mem _ (List.mem_map_of_mem h)
theorem qT4 : okM 1740 qX5 = true := qaq (by decide +kernel)
def qQc : List Nat := [19, 148, 149, 651, 720, 1092, 1093, 1094, 1750, 1751, 1792, 3024, 3025, 4544, 4545, 4546, 4547, 4548, 4549, 4550, 4551, 4552, 4553, 4554, 4555]
def wsX2_formsWithin : List Cond := cw 3024 :: wI qQc
theorem qEs : ∀ i ∈ qQc, cw i ∈ wsX2_formsWithin := fun i h => List.mem_cons_of_mem _ (List.mem_map_of_mem h)
theorem qMu : okM 3024 qQc = true := qaq (by decide +kernel)
def q26 : List Nat := [19, 64, 78, 148, 149, 200, 201, 202, 203, 208, 276, 322, 323, 324, 650, 651, 652, 720, 1092, 1093, 1094, 1741, 1742, 1743, 1744, 1745, 1746, 1747, 1748, 1750, 1751, 1792, 1793, 1794, 1795, 1796, 1797, 1798, 1799, 1800, 1801, 1802, 1803, 1804, 1805, 1806, 1807, 1808, 1809, 1810, 1811, 1812, 1813, 1814, 1815, 1856, 1857, 1858, 1859, 1860, 1861, 1862, 1863, 1864, 1865, 1866, 1867, 1868, 1869, 1870, 1871, 1872, 1873, 1874, 1875, 1876, 1877, 1878, 1879, 1920, 1921, 1922, 1923, 1924, 1925, 1926, 1927, 1928, 1929, 1930, 1931, 1932, 1933, 1934, 3022, 3023, 3024, 3025, 3092, 4544, 4545, 4546, 4547, 4548, 4549, 4550, 4551, 4552, 4553, 4554, 4555, 4608, 4609, 4610, 4611, 4612, 4800, 4801, 4802, 4803]
def wsX1_leapable : List Cond := cw 3092 :: wI q26
theorem qqK : ∀ i ∈ q26, cw i ∈ wsX1_leapable := fun i h => List.mem_cons_of_mem _ (List.mem_map_of_mem h)
theorem qagk : okM 3092 q26 = true := qaq (by decide +kernel)
def qaRy : List Nat := [276, 1998, 4800, 4801, 4802, 4803]
def wsX1_stir : List Cond := cw 1998 :: wI qaRy
theorem qaUQ : ∀ i ∈ qaRy, cw i ∈ wsX1_stir := fun i h => List.mem_cons_of_mem _ (List.mem_map_of_mem h)
theorem qaUL : okM 1998 qaRy = true := qaq (by decide +kernel)
def qamn : List Nat := [78, 276, 1994, 1995, 1996, 1997, 1998, 4800, 4801, 4802, 4803]
def wsX1_leapTo : List Cond := cw 1994 :: wI qamn
theorem qW0 : ∀ i ∈ qamn, cw i ∈ wsX1_leapTo := fun i h => List.mem_cons_of_mem _ (List.mem_map_of_mem h)
theorem qaCQ : okM 1994 qamn = true := qaq (by decide +kernel)
def qUh : List Nat := [78, 276, 1741, 1742, 1743, 1744, 1745, 1746, 1747, 1748, 1938, 4800, 4801, 4802, 4803]
def wsX1_couldFight : List Cond := cw 1938 :: wI qUh
theorem qIV : ∀ i ∈ qUh, cw i ∈ wsX1_couldFight := fun i h => List.mem_cons_of_mem _ (List.mem_map_of_mem h)
theorem q22 : okM 1938 qUh = true := qaq (by decide +kernel)
def qaAB : List Nat := [78, 276, 651, 1808, 1809, 1810, 1811, 1930, 1931, 1995, 1996, 1997, 1998, 2002, 2003, 4800, 4801, 4802, 4803]
def wsX1_fight : List Cond := cw 2002 :: wI qaAB
theorem qAr : ∀ i ∈ qaAB, cw i ∈ wsX1_fight := fun i h => List.mem_cons_of_mem _ (List.mem_map_of_mem h)
theorem qaLl : okM 2002 qaAB = true := qaq (by decide +kernel)
def q2h : List Nat := [78, 276, 1741, 1742, 1743, 1744, 1860, 1861, 1862, 1863, 1942, 4800, 4801, 4802, 4803]
def wsX1_couldPay : List Cond := cw 1942 :: wI q2h
theorem qN2 : ∀ i ∈ q2h, cw i ∈ wsX1_couldPay := fun i h => List.mem_cons_of_mem _ (List.mem_map_of_mem h)
theorem qaQh : okM 1942 q2h = true := qaq (by decide +kernel)
def qaad : List Nat := [276, 2007, 4800, 4801, 4802, 4803]
def wsX1_payBack : List Cond := cw 2007 :: wI qaad
theorem qanU : ∀ i ∈ qaad, cw i ∈ wsX1_payBack := fun i h => List.mem_cons_of_mem _ (List.mem_map_of_mem h)
theorem qaTh : okM 2007 qaad = true := qaq (by decide +kernel)
def qaLn : List Nat := [2053]
def wsX10_holds : List Cond := cw 2053 :: wI qaLn
theorem qqZ : okM 2053 qaLn = true := qaq (by decide +kernel)
def qame : List Nat := [2, 1047, 2052, 2053, 2065, 4544, 4545, 4546, 4547, 4548, 4549, 4550, 4551, 4552, 4553, 4554, 4555]
def wsX2_isSafe : List Cond := cw 2065 :: wI qame
theorem qQu : ∀ i ∈ qame, cw i ∈ wsX2_isSafe := fun i h => List.mem_cons_of_mem _ (List.mem_map_of_mem h)
theorem qab6 : okM 2065 qame = true := qaq (by decide +kernel)
def qTT : List Nat := [2, 19, 78, 276, 322, 324, 1047, 1741, 1742, 1743, 1744, 1745, 1746, 1747, 1748, 1812, 1813, 1814, 1815, 2052, 2053, 2061, 2062, 2063, 2064, 2065, 4544, 4545, 4546, 4547, 4548, 4549, 4550, 4551, 4552, 4553, 4554, 4555, 4800, 4801, 4802, 4803]
def wsX1_endangered : List Cond := cw 2061 :: wI qTT
theorem qn7 : ∀ i ∈ qTT, cw i ∈ wsX1_endangered := fun i h => List.mem_cons_of_mem _ (List.mem_map_of_mem h)
theorem q0L : okM 2061 qTT = true := qaq (by decide +kernel)
def qWF : List Nat := [276, 322, 324, 2069, 4544, 4545, 4546, 4547, 4548, 4549, 4550, 4551, 4552, 4553, 4554, 4555, 4800, 4801, 4802, 4803]
def wsX1_dropDebts : List Cond := cw 2069 :: wI qWF
theorem qEn : ∀ i ∈ qWF, cw i ∈ wsX1_dropDebts := fun i h => List.mem_cons_of_mem _ (List.mem_map_of_mem h)
theorem qaJi : okM 2069 qWF = true := qaq (by decide +kernel)
def qano : List Nat := [2, 19, 78, 276, 322, 324, 326, 1047, 1741, 1742, 1743, 1744, 1745, 1746, 1747, 1748, 1812, 1813, 1814, 1815, 2052, 2053, 2057, 2058, 2059, 2060, 2061, 2062, 2063, 2064, 2065, 2066, 2067, 2068, 2069, 4544, 4545, 4546, 4547, 4548, 4549, 4550, 4551, 4552, 4553, 4554, 4555, 4800, 4801, 4802, 4803]
def wsX1_strike : List Cond := cw 2057 :: wI qano
theorem qto : ∀ i ∈ qano, cw i ∈ wsX1_strike := fun i h => List.mem_cons_of_mem _ (List.mem_map_of_mem h)
theorem qaY7 : okM 2057 qano = true := qaq (by decide +kernel)
def qacs : List Nat := [2, 19, 78, 276, 322, 324, 326, 1047, 1741, 1742, 1743, 1744, 1745, 1746, 1747, 1748, 1812, 1813, 1814, 1815, 2051, 2052, 2053, 2054, 2055, 2056, 2057, 2058, 2059, 2060, 2061, 2062, 2063, 2064, 2065, 2066, 2067, 2068, 2069, 4544, 4545, 4546, 4547, 4548, 4549, 4550, 4551, 4552, 4553, 4554, 4555, 4800, 4801, 4802, 4803]
def wsX1_passDay : List Cond := cw 2051 :: wI qacs
theorem qvi : ∀ i ∈ qacs, cw i ∈ wsX1_passDay := fun i h => List.mem_cons_of_mem _ (List.mem_map_of_mem h)
theorem q3D : okM 2051 qacs = true := qaq (by decide +kernel)
def q4C : List Nat := [4040, 4041]
def wsX1_nextSeed : List Cond := cw 4040 :: wI q4C
theorem qaMI : ∀ i ∈ q4C, cw i ∈ wsX1_nextSeed := fun i h => List.mem_cons_of_mem _ (List.mem_map_of_mem h)
theorem qaQ2 : okM 4040 q4C = true := qaq (by decide +kernel)
def qae8 : List Nat := [4044]
def wsX1_drawnBits : List Cond := cw 4044 :: wI qae8
theorem qaHX : okM 4044 qae8 = true := qaq (by decide +kernel)
def qJ9 : List Nat := [19, 64, 78, 148, 149, 200, 201, 202, 203, 208, 276, 322, 323, 324, 650, 651, 652, 1092, 1093, 1094, 1738, 1739, 1740, 1741, 1742, 1743, 1744, 1745, 1746, 1747, 1748, 1749, 1750, 1751, 1792, 1793, 1794, 1795, 1796, 1797, 1798, 1799, 1800, 1801, 1802, 1803, 1804, 1805, 1806, 1807, 1808, 1809, 1810, 1811, 1812, 1813, 1814, 1815, 1856, 1857, 1858, 1859, 1860, 1861, 1862, 1863, 1864, 1865, 1866, 1867, 1868, 1869, 1870, 1871, 1872, 1873, 1874, 1875, 1876, 1877, 1878, 1879, 1920, 1921, 1922, 1923, 1924, 1925, 1926, 1927, 1928, 1929, 1930, 1931, 1932, 1933, 1934, 1992, 1993, 1994, 1995, 1996, 1997, 1998, 4048, 4049, 4050, 4544, 4545, 4546, 4547, 4548, 4549, 4550, 4551, 4552, 4553, 4554, 4555, 4608, 4609, 4610, 4611, 4612, 4800, 4801, 4802, 4803]
def wsX1_leapIfAllowed : List Cond := cw 4048 :: wI qJ9
theorem qBo : ∀ i ∈ qJ9, cw i ∈ wsX1_leapIfAllowed := fun i h => List.mem_cons_of_mem _ (List.mem_map_of_mem h)
theorem qac5 : okM 4048 qJ9 = true := qaq (by decide +kernel)
def qIs : List Nat := [78, 276, 651, 1741, 1742, 1743, 1744, 1745, 1746, 1747, 1748, 1808, 1809, 1810, 1811, 1930, 1931, 1936, 1937, 1938, 1995, 1996, 1997, 1998, 2000, 2001, 2002, 2003, 4054, 4055, 4096, 4800, 4801, 4802, 4803]
def wsX1_fightIfAllowed : List Cond := cw 4054 :: wI qIs
theorem qzG : ∀ i ∈ qIs, cw i ∈ wsX1_fightIfAllowed := fun i h => List.mem_cons_of_mem _ (List.mem_map_of_mem h)
theorem q9H : okM 4054 qIs = true := qaq (by decide +kernel)
def q2F : List Nat := [2, 19, 64, 78, 148, 149, 200, 201, 202, 203, 208, 276, 322, 323, 324, 326, 650, 651, 652, 1047, 1092, 1093, 1094, 1738, 1739, 1740, 1741, 1742, 1743, 1744, 1745, 1746, 1747, 1748, 1749, 1750, 1751, 1792, 1793, 1794, 1795, 1796, 1797, 1798, 1799, 1800, 1801, 1802, 1803, 1804, 1805, 1806, 1807, 1808, 1809, 1810, 1811, 1812, 1813, 1814, 1815, 1856, 1857, 1858, 1859, 1860, 1861, 1862, 1863, 1864, 1865, 1866, 1867, 1868, 1869, 1870, 1871, 1872, 1873, 1874, 1875, 1876, 1877, 1878, 1879, 1920, 1921, 1922, 1923, 1924, 1925, 1926, 1927, 1928, 1929, 1930, 1931, 1932, 1933, 1934, 1936, 1937, 1938, 1992, 1993, 1994, 1995, 1996, 1997, 1998, 2000, 2001, 2002, 2003, 2049, 2050, 2051, 2052, 2053, 2054, 2055, 2056, 2057, 2058, 2059, 2060, 2061, 2062, 2063, 2064, 2065, 2066, 2067, 2068, 2069, 4036, 4037, 4038, 4039, 4040, 4041, 4042, 4043, 4044, 4045, 4046, 4047, 4048, 4049, 4050, 4051, 4052, 4053, 4054, 4055, 4096, 4097, 4544, 4545, 4546, 4547, 4548, 4549, 4550, 4551, 4552, 4553, 4554, 4555, 4608, 4609, 4610, 4611, 4612, 4800, 4801, 4802, 4803]
def wsX1_drawDays : List Cond := cw 4036 :: wI q2F
theorem qnB : ∀ i ∈ q2F, cw i ∈ wsX1_drawDays := fun i h => List.mem_cons_of_mem _ (List.mem_map_of_mem h)
theorem qaft : okM 4036 q2F = true := qaq (by decide +kernel)
def qabU : List Nat := [277, 322, 324, 650, 651, 652, 3848, 3852, 4544, 4545, 4546, 4547, 4548, 4549, 4550, 4551, 4552, 4553, 4554, 4555, 4800, 4801, 4802, 4803]
def wsX1_givenBy : List Cond := cw 3852 :: wI qabU
theorem qxq : ∀ i ∈ qabU, cw i ∈ wsX1_givenBy := fun i h => List.mem_cons_of_mem _ (List.mem_map_of_mem h)
theorem qaTc : okM 3852 qabU = true := qaq (by decide +kernel)
def qWD : List Nat := [2, 78, 276, 277, 322, 324, 650, 651, 652, 1860, 1861, 1862, 1863, 1864, 1865, 1866, 1867, 2052, 2053, 3847, 3848, 3849, 3850, 3851, 3852, 4544, 4545, 4546, 4547, 4548, 4549, 4550, 4551, 4552, 4553, 4554, 4555, 4800, 4801, 4802, 4803]
def wsX1_cloverFor : List Cond := cw 3847 :: wI qWD
theorem qjq : ∀ i ∈ qWD, cw i ∈ wsX1_cloverFor := fun i h => List.mem_cons_of_mem _ (List.mem_map_of_mem h)
theorem qaHD : okM 3847 qWD = true := qaq (by decide +kernel)
def qaRf : List Nat := [11, 12, 145, 146, 147, 148, 149, 150, 151, 192, 193, 194, 195, 4544, 4545, 4546, 4547, 4548, 4549, 4550, 4551, 4552, 4553, 4554, 4555]
def wsX2_init : List Cond := cw 145 :: wI qaRf
theorem qym : ∀ i ∈ qaRf, cw i ∈ wsX2_init := fun i h => List.mem_cons_of_mem _ (List.mem_map_of_mem h)
theorem qa7b : okM 145 qaRf = true := qaq (by decide +kernel)
def qQa : List Nat := [832, 833, 834]
def wsJ0_coder_7d493 : List Cond := cw 832 :: wI qQa
theorem qYR : ∀ i ∈ qQa, cw i ∈ wsJ0_coder_7d493 := fun i h => List.mem_cons_of_mem _ (List.mem_map_of_mem h)
theorem qasc : okM 832 qQa = true := qaq (by decide +kernel)
def qMx : List Nat := [786, 787, 788, 789, 790, 791, 832, 833, 834]
def wsJ0_length_8abf5 : List Cond := cw 787 :: wI qMx
theorem qJ4 : ∀ i ∈ qMx, cw i ∈ wsJ0_length_8abf5 := fun i h => List.mem_cons_of_mem _ (List.mem_map_of_mem h)
theorem qVu : okM 787 qMx = true := qaq (by decide +kernel)
def q0S : List Nat := [142, 712, 839, 4480, 4481, 4482, 4483, 4484, 4485, 4486]
def wsX8_isLetter : List Cond := cw 839 :: wI q0S
theorem qXs : ∀ i ∈ q0S, cw i ∈ wsX8_isLetter := fun i h => List.mem_cons_of_mem _ (List.mem_map_of_mem h)
theorem qaP5 : okM 839 q0S = true := qaq (by decide +kernel)
def qIB : List Nat := [833, 834, 847]
def wsJ0_isLatin1_aae02 : List Cond := cw 847 :: wI qIB
theorem qQL : ∀ i ∈ qIB, cw i ∈ wsJ0_isLatin1_aae02 := fun i h => List.mem_cons_of_mem _ (List.mem_map_of_mem h)
theorem qabT : okM 847 qIB = true := qaq (by decide +kernel)
def qNu : List Nat := [899]
def wsJ3_checkIndex_8e157 : List Cond := cw 899 :: wI qNu
theorem q0M : okM 899 qNu = true := qaq (by decide +kernel)
def qDv : List Nat := [854, 855, 896, 897, 898, 899]
def wsJ0_checkIndex_df160 : List Cond := cw 854 :: wI qDv
theorem qBy : ∀ i ∈ qDv, cw i ∈ wsJ0_checkIndex_df160 := fun i h => List.mem_cons_of_mem _ (List.mem_map_of_mem h)
theorem q4g : okM 854 qDv = true := qaq (by decide +kernel)
def qMP : List Nat := [786, 851, 852, 853, 854, 855, 896, 897, 898, 899]
def wsJ1_charAt_3b067 : List Cond := cw 851 :: wI qMP
theorem qVn : ∀ i ∈ qMP, cw i ∈ wsJ1_charAt_3b067 := fun i h => List.mem_cons_of_mem _ (List.mem_map_of_mem h)
theorem qajE : okM 851 qMP = true := qaq (by decide +kernel)
def qMk : List Nat := [786, 788, 833, 834, 843, 844, 845, 846, 847, 848, 849, 850, 851, 852, 853, 854, 855, 896, 897, 898, 899, 900, 901, 902, 903, 904, 905, 906, 907, 908, 909, 910, 911, 912, 913, 914, 915, 916]
def wsJ0_charAt_5068e : List Cond := cw 843 :: wI qMk
theorem qyn : ∀ i ∈ qMk, cw i ∈ wsJ0_charAt_5068e := fun i h => List.mem_cons_of_mem _ (List.mem_map_of_mem h)
theorem qVQ : okM 843 qMk = true := qaq (by decide +kernel)
def qWE : List Nat := [15, 142, 712, 713, 714, 715, 724, 725, 726, 771, 772, 773, 774, 782, 783, 784, 785, 786, 787, 788, 789, 790, 791, 832, 833, 834, 835, 836, 837, 838, 839, 840, 841, 842, 843, 844, 845, 846, 847, 848, 849, 850, 851, 852, 853, 854, 855, 896, 897, 898, 899, 900, 901, 902, 903, 904, 905, 906, 907, 908, 909, 910, 911, 912, 913, 914, 915, 916, 4480, 4481, 4482, 4483, 4484, 4485, 4486]
def wsX8_takesWord : List Cond := cw 782 :: wI qWE
theorem qk8 : ∀ i ∈ qWE, cw i ∈ wsX8_takesWord := fun i h => List.mem_cons_of_mem _ (List.mem_map_of_mem h)
theorem qKX : okM 782 qWE = true := qaq (by decide +kernel)
def q31 : List Nat := [2, 15, 142, 143, 148, 149, 650, 651, 652, 658, 659, 711, 712, 713, 714, 715, 720, 724, 725, 726, 771, 772, 773, 774, 835, 960, 961, 962, 963, 964, 965, 966, 967, 968, 969, 970, 971, 972, 973, 974, 975, 976, 977, 978, 979, 980, 981, 982, 983, 1024, 1025, 1026, 1027, 1028, 1029, 4480, 4481, 4482, 4483, 4484, 4485, 4486, 4544, 4545, 4546, 4547, 4548, 4549, 4550, 4551, 4552, 4553, 4554, 4555]
def wsX2_readForm : List Cond := cw 960 :: wI q31
theorem qtR : ∀ i ∈ q31, cw i ∈ wsX2_readForm := fun i h => List.mem_cons_of_mem _ (List.mem_map_of_mem h)
theorem qaRw : okM 960 q31 = true := qaq (by decide +kernel)
def q4d : List Nat := [2, 15, 142, 143, 192, 193, 650, 651, 652, 658, 659, 711, 712, 713, 714, 715, 720, 721, 724, 725, 726, 771, 772, 773, 774, 835, 961, 962, 963, 964, 965, 966, 967, 968, 969, 970, 971, 972, 973, 974, 975, 976, 977, 978, 979, 980, 981, 982, 983, 1024, 1025, 1026, 1027, 1028, 1029, 1033, 4480, 4481, 4482, 4483, 4484, 4485, 4486, 4544, 4545, 4546, 4547, 4548, 4549, 4550, 4551, 4552, 4553, 4554, 4555]
def wsX2_readHare : List Cond := cw 1033 :: wI q4d
theorem qrT : ∀ i ∈ q4d, cw i ∈ wsX2_readHare := fun i h => List.mem_cons_of_mem _ (List.mem_map_of_mem h)
theorem qaQd : okM 1033 q4d = true := qaq (by decide +kernel)
def qab0 : List Nat := [2, 15, 142, 143, 150, 151, 650, 651, 652, 658, 659, 711, 712, 713, 714, 715, 722, 724, 725, 726, 771, 772, 773, 774, 835, 961, 962, 963, 964, 965, 966, 967, 968, 969, 970, 971, 972, 973, 974, 975, 976, 977, 978, 979, 980, 981, 982, 983, 1024, 1025, 1026, 1027, 1028, 1029, 1037, 4480, 4481, 4482, 4483, 4484, 4485, 4486, 4544, 4545, 4546, 4547, 4548, 4549, 4550, 4551, 4552, 4553, 4554, 4555]
def wsX2_readFox : List Cond := cw 1037 :: wI qab0
theorem qvo : ∀ i ∈ qab0, cw i ∈ wsX2_readFox := fun i h => List.mem_cons_of_mem _ (List.mem_map_of_mem h)
theorem qaV0 : okM 1037 qab0 = true := qaq (by decide +kernel)
def q2K : List Nat := [2, 15, 142, 143, 194, 650, 651, 652, 658, 659, 711, 712, 713, 714, 715, 721, 723, 724, 725, 726, 771, 772, 773, 774, 835, 961, 962, 963, 964, 965, 966, 967, 968, 969, 970, 971, 972, 973, 974, 975, 976, 977, 978, 979, 980, 981, 982, 983, 1024, 1025, 1026, 1027, 1028, 1029, 1041, 4480, 4481, 4482, 4483, 4484, 4485, 4486, 4544, 4545, 4546, 4547, 4548, 4549, 4550, 4551, 4552, 4553, 4554, 4555]
def wsX2_readDebt : List Cond := cw 1041 :: wI q2K
theorem qsb : ∀ i ∈ q2K, cw i ∈ wsX2_readDebt := fun i h => List.mem_cons_of_mem _ (List.mem_map_of_mem h)
theorem qaNk : okM 1041 q2K = true := qaq (by decide +kernel)
def qT1 : List Nat := [2, 15, 19, 142, 143, 148, 149, 150, 151, 192, 193, 194, 650, 651, 652, 658, 659, 711, 712, 713, 714, 715, 720, 721, 722, 723, 724, 725, 726, 771, 772, 773, 774, 778, 779, 780, 781, 782, 783, 784, 785, 786, 787, 788, 789, 790, 791, 832, 833, 834, 835, 836, 837, 838, 839, 840, 841, 842, 843, 844, 845, 846, 847, 848, 849, 850, 851, 852, 853, 854, 855, 896, 897, 898, 899, 900, 901, 902, 903, 904, 905, 906, 907, 908, 909, 910, 911, 912, 913, 914, 915, 916, 917, 918, 919, 960, 961, 962, 963, 964, 965, 966, 967, 968, 969, 970, 971, 972, 973, 974, 975, 976, 977, 978, 979, 980, 981, 982, 983, 1024, 1025, 1026, 1027, 1028, 1029, 1030, 1031, 1032, 1033, 1034, 1035, 1036, 1037, 1038, 1039, 1040, 1041, 1042, 4480, 4481, 4482, 4483, 4484, 4485, 4486, 4544, 4545, 4546, 4547, 4548, 4549, 4550, 4551, 4552, 4553, 4554, 4555]
def wsX2_readClause : List Cond := cw 778 :: wI qT1
theorem qnS : ∀ i ∈ qT1, cw i ∈ wsX2_readClause := fun i h => List.mem_cons_of_mem _ (List.mem_map_of_mem h)
theorem qaxK : okM 778 qT1 = true := qaq (by decide +kernel)
def qXj : List Nat := [148, 149, 150, 151, 651, 722, 1091, 1092, 1093, 1094, 4544, 4545, 4546, 4547, 4548, 4549, 4550, 4551, 4552, 4553, 4554, 4555]
def wsX2_foxIsNear : List Cond := cw 1091 :: wI qXj
theorem qrK : ∀ i ∈ qXj, cw i ∈ wsX2_foxIsNear := fun i h => List.mem_cons_of_mem _ (List.mem_map_of_mem h)
theorem qaE1 : okM 1091 qXj = true := qaq (by decide +kernel)
def q07 : List Nat := [19, 148, 149, 150, 151, 651, 720, 722, 1046, 1047, 1088, 1089, 1090, 1091, 1092, 1093, 1094, 4544, 4545, 4546, 4547, 4548, 4549, 4550, 4551, 4552, 4553, 4554, 4555]
def wsX2_findSafe : List Cond := cw 1046 :: wI q07
theorem qGJ : ∀ i ∈ q07, cw i ∈ wsX2_findSafe := fun i h => List.mem_cons_of_mem _ (List.mem_map_of_mem h)
theorem qaRd : okM 1046 q07 = true := qaq (by decide +kernel)
def q4G : List Nat := [2, 15, 19, 142, 143, 148, 149, 150, 151, 192, 193, 194, 650, 651, 652, 658, 659, 711, 712, 713, 714, 715, 719, 720, 721, 722, 723, 724, 725, 726, 727, 768, 769, 770, 771, 772, 773, 774, 775, 776, 777, 778, 779, 780, 781, 782, 783, 784, 785, 786, 787, 788, 789, 790, 791, 832, 833, 834, 835, 836, 837, 838, 839, 840, 841, 842, 843, 844, 845, 846, 847, 848, 849, 850, 851, 852, 853, 854, 855, 896, 897, 898, 899, 900, 901, 902, 903, 904, 905, 906, 907, 908, 909, 910, 911, 912, 913, 914, 915, 916, 917, 918, 919, 960, 961, 962, 963, 964, 965, 966, 967, 968, 969, 970, 971, 972, 973, 974, 975, 976, 977, 978, 979, 980, 981, 982, 983, 1024, 1025, 1026, 1027, 1028, 1029, 1030, 1031, 1032, 1033, 1034, 1035, 1036, 1037, 1038, 1039, 1040, 1041, 1042, 1043, 1044, 1045, 1046, 1047, 1088, 1089, 1090, 1091, 1092, 1093, 1094, 4480, 4481, 4482, 4483, 4484, 4485, 4486, 4544, 4545, 4546, 4547, 4548, 4549, 4550, 4551, 4552, 4553, 4554, 4555]
def wsX2_readFrom : List Cond := cw 719 :: wI q4G
theorem qpM : ∀ i ∈ q4G, cw i ∈ wsX2_readFrom := fun i h => List.mem_cons_of_mem _ (List.mem_map_of_mem h)
theorem qaMO : okM 719 q4G = true := qaq (by decide +kernel)
def qRi : List Nat := [2, 19, 148, 149, 651, 720, 1092, 1093, 1094, 1750, 1751, 1792, 2052, 2053, 3020, 3021, 3022, 3023, 3024, 3025, 4544, 4545, 4546, 4547, 4548, 4549, 4550, 4551, 4552, 4553, 4554, 4555]
def wsX2_hopsBetween : List Cond := cw 3020 :: wI qRi
theorem quz : ∀ i ∈ qRi, cw i ∈ wsX2_hopsBetween := fun i h => List.mem_cons_of_mem _ (List.mem_map_of_mem h)
theorem qatB : okM 3020 qRi = true := qaq (by decide +kernel)
def q1K : List Nat := [2, 195, 720, 2052, 2053, 3714, 4544, 4545, 4546, 4547, 4548, 4549, 4550, 4551, 4552, 4553, 4554, 4555]
def wsX2_seenFrom : List Cond := cw 3714 :: wI q1K
theorem qC3 : ∀ i ∈ q1K, cw i ∈ wsX2_seenFrom := fun i h => List.mem_cons_of_mem _ (List.mem_map_of_mem h)
theorem qaQU : okM 3714 q1K = true := qaq (by decide +kernel)
def q0X : List Nat := [2, 19, 148, 149, 195, 651, 720, 1092, 1093, 1094, 1750, 1751, 1792, 1802, 1803, 1804, 1805, 1806, 1807, 2052, 2053, 3021, 3022, 3023, 3024, 3025, 3669, 3670, 3671, 3712, 3713, 3714, 4544, 4545, 4546, 4547, 4548, 4549, 4550, 4551, 4552, 4553, 4554, 4555]
def wsX2_watchers : List Cond := cw 3669 :: wI q0X
theorem qu5 : ∀ i ∈ q0X, cw i ∈ wsX2_watchers := fun i h => List.mem_cons_of_mem _ (List.mem_map_of_mem h)
theorem qaQj : okM 3669 q0X = true := qaq (by decide +kernel)
def qaQz : List Nat := [11, 12, 147, 388, 389, 390, 391, 392, 393, 5056, 5057, 5058, 5059, 5060, 5061, 5062, 5063, 5064, 5065, 5066]
def wsX3_init : List Cond := cw 388 :: wI qaQz
theorem qIK : ∀ i ∈ qaQz, cw i ∈ wsX3_init := fun i h => List.mem_cons_of_mem _ (List.mem_map_of_mem h)
theorem qa7B : okM 388 qaQz = true := qaq (by decide +kernel)
def qUr : List Nat := [390, 391, 3529, 5056, 5057, 5058, 5059, 5060, 5061, 5062, 5063, 5064, 5065, 5066]
def wsX3_seatedThen : List Cond := cw 3529 :: wI qUr
theorem qQU : ∀ i ∈ qUr, cw i ∈ wsX3_seatedThen := fun i h => List.mem_cons_of_mem _ (List.mem_map_of_mem h)
theorem q1T : okM 3529 qUr = true := qaq (by decide +kernel)
def q05 : List Nat := [69, 136, 257, 390, 391, 3470, 3471, 3525, 3526, 3527, 3528, 3529, 3530, 3531, 3532, 3533, 4672, 4673, 5056, 5057, 5058, 5059, 5060, 5061, 5062, 5063, 5064, 5065, 5066]
def wsX3_allRight : List Cond := cw 3525 :: wI q05
theorem qzh : ∀ i ∈ q05, cw i ∈ wsX3_allRight := fun i h => List.mem_cons_of_mem _ (List.mem_map_of_mem h)
theorem qaMn : okM 3525 q05 = true := qaq (by decide +kernel)
def q2l : List Nat := [69, 136, 257, 390, 391, 3470, 3471, 3472, 3473, 3521, 3522, 3523, 3524, 3525, 3526, 3527, 3528, 3529, 3530, 3531, 3532, 3533, 4672, 4673, 5056, 5057, 5058, 5059, 5060, 5061, 5062, 5063, 5064, 5065, 5066]
def wsX3_formsFor : List Cond := cw 3521 :: wI q2l
theorem qCQ : ∀ i ∈ q2l, cw i ∈ wsX3_formsFor := fun i h => List.mem_cons_of_mem _ (List.mem_map_of_mem h)
theorem qaNZ : okM 3521 q2l = true := qaq (by decide +kernel)
def qaiR : List Nat := [69, 78, 136, 257, 276, 322, 324, 390, 391, 392, 1741, 1742, 1743, 1744, 1745, 1746, 1747, 1748, 1798, 1799, 1800, 1802, 1803, 1804, 1805, 1806, 1807, 3465, 3466, 3467, 3468, 3469, 3470, 3471, 3472, 3473, 3474, 3475, 3476, 3477, 3478, 3479, 3520, 3521, 3522, 3523, 3524, 3525, 3526, 3527, 3528, 3529, 3530, 3531, 3532, 3533, 4544, 4545, 4546, 4547, 4548, 4549, 4550, 4551, 4552, 4553, 4554, 4555, 4672, 4673, 4800, 4801, 4802, 4803, 5056, 5057, 5058, 5059, 5060, 5061, 5062, 5063, 5064, 5065, 5066]
def wsX3_settle : List Cond := cw 3465 :: wI qaiR
theorem qh3 : ∀ i ∈ qaiR, cw i ∈ wsX3_settle := fun i h => List.mem_cons_of_mem _ (List.mem_map_of_mem h)
theorem qaBJ : okM 3465 qaiR = true := qaq (by decide +kernel)
def q8Y : List Nat := [2, 393, 658, 659, 3650, 5056, 5057, 5058, 5059, 5060, 5061, 5062, 5063, 5064, 5065, 5066]
def wsX3_tallied : List Cond := cw 3650 :: wI q8Y
theorem qLH : ∀ i ∈ q8Y, cw i ∈ wsX3_tallied := fun i h => List.mem_cons_of_mem _ (List.mem_map_of_mem h)
theorem qaWa : okM 3650 q8Y = true := qaq (by decide +kernel)
def qaam : List Nat := [2, 136, 390, 391, 392, 393, 651, 658, 659, 1930, 1931, 2052, 2053, 3468, 3470, 3526, 3527, 3528, 3529, 3605, 3606, 3607, 3648, 3649, 3650, 5056, 5057, 5058, 5059, 5060, 5061, 5062, 5063, 5064, 5065, 5066]
def wsX3_worstAt : List Cond := cw 3605 :: wI qaam
theorem qot : ∀ i ∈ qaam, cw i ∈ wsX3_worstAt := fun i h => List.mem_cons_of_mem _ (List.mem_map_of_mem h)
theorem qaUJ : okM 3605 qaam = true := qaq (by decide +kernel)
def qXn : List Nat := [2, 69, 136, 257, 390, 391, 392, 393, 651, 658, 659, 1930, 1931, 2052, 2053, 2439, 2440, 2441, 3468, 3470, 3471, 3526, 3527, 3528, 3529, 3598, 3599, 3600, 3601, 3602, 3603, 3604, 3605, 3606, 3607, 3648, 3649, 3650, 4672, 4673, 5056, 5057, 5058, 5059, 5060, 5061, 5062, 5063, 5064, 5065, 5066]
def wsX3_lookAhead : List Cond := cw 3598 :: wI qXn
theorem qtA : ∀ i ∈ qXn, cw i ∈ wsX3_lookAhead := fun i h => List.mem_cons_of_mem _ (List.mem_map_of_mem h)
theorem qaKf : okM 3598 qXn = true := qaq (by decide +kernel)
def qaWV : List Nat := [200, 201, 208, 212, 4608, 4609, 4610, 4611, 4612]
def wsX4_add : List Cond := cw 212 :: wI qaWV
theorem qauU : ∀ i ∈ qaWV, cw i ∈ wsX4_add := fun i h => List.mem_cons_of_mem _ (List.mem_map_of_mem h)
theorem q5g : okM 212 qaWV = true := qaq (by decide +kernel)
def q4c : List Nat := [64, 200, 201, 207, 208, 209, 210, 211, 212, 4608, 4609, 4610, 4611, 4612]
def wsX4_setPlain : List Cond := cw 207 :: wI q4c
theorem qNT : ∀ i ∈ q4c, cw i ∈ wsX4_setPlain := fun i h => List.mem_cons_of_mem _ (List.mem_map_of_mem h)
theorem qah8 : okM 207 q4c = true := qaq (by decide +kernel)
def qaPC : List Nat := [11, 12, 64, 147, 198, 199, 200, 201, 202, 203, 204, 205, 206, 207, 208, 209, 210, 211, 212, 4608, 4609, 4610, 4611, 4612]
def wsX4_init : List Cond := cw 198 :: wI qaPC
theorem qBQ : ∀ i ∈ qaPC, cw i ∈ wsX4_init := fun i h => List.mem_cons_of_mem _ (List.mem_map_of_mem h)
theorem qa4I : okM 198 qaPC = true := qaq (by decide +kernel)
def qYh : List Nat := [15, 142, 712, 713, 771, 772, 773, 774, 974, 975, 976, 977, 1414, 4480, 4481, 4482, 4483, 4484, 4485, 4486]
def wsX8_seesDigit : List Cond := cw 1414 :: wI qYh
theorem qAC : ∀ i ∈ qYh, cw i ∈ wsX8_seesDigit := fun i h => List.mem_cons_of_mem _ (List.mem_map_of_mem h)
theorem qaHo : okM 1414 qYh = true := qaq (by decide +kernel)
def q4H : List Nat := [15, 64, 142, 143, 200, 201, 208, 209, 210, 211, 212, 712, 713, 714, 715, 724, 725, 726, 771, 772, 773, 774, 780, 781, 782, 783, 784, 785, 786, 787, 788, 789, 790, 791, 832, 833, 834, 835, 836, 837, 838, 839, 840, 841, 842, 843, 844, 845, 846, 847, 848, 849, 850, 851, 852, 853, 854, 855, 896, 897, 898, 899, 900, 901, 902, 903, 904, 905, 906, 907, 908, 909, 910, 911, 912, 913, 914, 915, 916, 965, 966, 967, 968, 1027, 1028, 1029, 1419, 1426, 1427, 4480, 4481, 4482, 4483, 4484, 4485, 4486, 4608, 4609, 4610, 4611, 4612]
def wsX4_readFact : List Cond := cw 1426 :: wI q4H
theorem qDe : ∀ i ∈ q4H, cw i ∈ wsX4_readFact := fun i h => List.mem_cons_of_mem _ (List.mem_map_of_mem h)
theorem qaOA : okM 1426 q4H = true := qaq (by decide +kernel)
def qYu : List Nat := [2, 15, 64, 142, 143, 200, 201, 208, 209, 210, 211, 212, 650, 651, 652, 658, 659, 711, 712, 713, 714, 715, 724, 725, 726, 771, 772, 773, 774, 780, 781, 782, 783, 784, 785, 786, 787, 788, 789, 790, 791, 832, 833, 834, 835, 836, 837, 838, 839, 840, 841, 842, 843, 844, 845, 846, 847, 848, 849, 850, 851, 852, 853, 854, 855, 896, 897, 898, 899, 900, 901, 902, 903, 904, 905, 906, 907, 908, 909, 910, 911, 912, 913, 914, 915, 916, 962, 963, 964, 965, 966, 967, 968, 970, 971, 972, 973, 974, 975, 976, 977, 979, 980, 981, 982, 983, 1024, 1025, 1026, 1027, 1028, 1029, 1353, 1354, 1355, 1356, 1357, 1358, 1359, 1360, 1361, 1362, 1363, 1364, 1365, 1366, 1367, 1408, 1409, 1410, 1411, 1412, 1413, 1414, 1415, 1416, 1417, 1418, 1419, 1420, 1421, 1422, 1423, 1424, 1425, 1426, 1427, 4480, 4481, 4482, 4483, 4484, 4485, 4486, 4608, 4609, 4610, 4611, 4612]
def wsX4_readInner : List Cond := cw 1362 :: wI qYu
theorem qAB : ∀ i ∈ qYu, cw i ∈ wsX4_readInner := fun i h => List.mem_cons_of_mem _ (List.mem_map_of_mem h)
theorem qaEu : okM 1362 qYu = true := qaq (by decide +kernel)
def q1O : List Nat := [2, 15, 64, 142, 143, 200, 201, 208, 209, 210, 211, 212, 650, 651, 652, 658, 659, 711, 712, 713, 714, 715, 724, 725, 726, 771, 772, 773, 774, 780, 781, 782, 783, 784, 785, 786, 787, 788, 789, 790, 791, 832, 833, 834, 835, 836, 837, 838, 839, 840, 841, 842, 843, 844, 845, 846, 847, 848, 849, 850, 851, 852, 853, 854, 855, 896, 897, 898, 899, 900, 901, 902, 903, 904, 905, 906, 907, 908, 909, 910, 911, 912, 913, 914, 915, 916, 962, 963, 964, 965, 966, 967, 968, 970, 971, 972, 973, 974, 975, 976, 977, 979, 980, 981, 982, 983, 1024, 1025, 1026, 1027, 1028, 1029, 1353, 1354, 1355, 1356, 1357, 1358, 1359, 1360, 1361, 1362, 1363, 1364, 1365, 1366, 1367, 1408, 1409, 1410, 1411, 1412, 1413, 1414, 1415, 1416, 1417, 1418, 1419, 1420, 1421, 1422, 1423, 1424, 1425, 1426, 1427, 4480, 4481, 4482, 4483, 4484, 4485, 4486, 4608, 4609, 4610, 4611, 4612]
def wsX4_readPair : List Cond := cw 1365 :: wI q1O
theorem qxt : ∀ i ∈ q1O, cw i ∈ wsX4_readPair := fun i h => List.mem_cons_of_mem _ (List.mem_map_of_mem h)
theorem qaOn : okM 1365 q1O = true := qaq (by decide +kernel)
def qP4 : List Nat := [2, 15, 64, 142, 143, 200, 201, 208, 209, 210, 211, 212, 650, 651, 652, 658, 659, 711, 712, 713, 714, 715, 724, 725, 726, 771, 772, 773, 774, 780, 781, 782, 783, 784, 785, 786, 787, 788, 789, 790, 791, 832, 833, 834, 835, 836, 837, 838, 839, 840, 841, 842, 843, 844, 845, 846, 847, 848, 849, 850, 851, 852, 853, 854, 855, 896, 897, 898, 899, 900, 901, 902, 903, 904, 905, 906, 907, 908, 909, 910, 911, 912, 913, 914, 915, 916, 962, 963, 964, 965, 966, 967, 968, 970, 971, 972, 973, 974, 975, 976, 977, 979, 980, 981, 982, 983, 1024, 1025, 1026, 1027, 1028, 1029, 1353, 1354, 1355, 1356, 1357, 1358, 1359, 1360, 1361, 1362, 1363, 1364, 1365, 1366, 1367, 1408, 1409, 1410, 1411, 1412, 1413, 1414, 1415, 1416, 1417, 1418, 1419, 1420, 1421, 1422, 1423, 1424, 1425, 1426, 1427, 4480, 4481, 4482, 4483, 4484, 4485, 4486, 4608, 4609, 4610, 4611, 4612]
def wsX4_readProduct : List Cond := cw 1366 :: wI qP4
theorem qss : ∀ i ∈ qP4, cw i ∈ wsX4_readProduct := fun i h => List.mem_cons_of_mem _ (List.mem_map_of_mem h)
theorem qaum : okM 1366 qP4 = true := qaq (by decide +kernel)
def qaaw : List Nat := [2, 15, 64, 142, 143, 200, 201, 208, 209, 210, 211, 212, 650, 651, 652, 658, 659, 711, 712, 713, 714, 715, 724, 725, 726, 771, 772, 773, 774, 780, 781, 782, 783, 784, 785, 786, 787, 788, 789, 790, 791, 832, 833, 834, 835, 836, 837, 838, 839, 840, 841, 842, 843, 844, 845, 846, 847, 848, 849, 850, 851, 852, 853, 854, 855, 896, 897, 898, 899, 900, 901, 902, 903, 904, 905, 906, 907, 908, 909, 910, 911, 912, 913, 914, 915, 916, 962, 963, 964, 965, 966, 967, 968, 970, 971, 972, 973, 974, 975, 976, 977, 979, 980, 981, 982, 983, 1024, 1025, 1026, 1027, 1028, 1029, 1353, 1354, 1355, 1356, 1357, 1358, 1359, 1360, 1361, 1362, 1363, 1364, 1365, 1366, 1367, 1408, 1409, 1410, 1411, 1412, 1413, 1414, 1415, 1416, 1417, 1418, 1419, 1420, 1421, 1422, 1423, 1424, 1425, 1426, 1427, 4480, 4481, 4482, 4483, 4484, 4485, 4486, 4608, 4609, 4610, 4611, 4612]
def wsX4_readSum : List Cond := cw 1356 :: wI qaaw
theorem qy8 : ∀ i ∈ qaaw, cw i ∈ wsX4_readSum := fun i h => List.mem_cons_of_mem _ (List.mem_map_of_mem h)
theorem q3N : okM 1356 qaaw = true := qaq (by decide +kernel)
def q0H : List Nat := [2, 15, 64, 142, 143, 200, 201, 208, 209, 210, 211, 212, 650, 651, 652, 658, 659, 711, 712, 713, 714, 715, 724, 725, 726, 771, 772, 773, 774, 780, 781, 782, 783, 784, 785, 786, 787, 788, 789, 790, 791, 832, 833, 834, 835, 836, 837, 838, 839, 840, 841, 842, 843, 844, 845, 846, 847, 848, 849, 850, 851, 852, 853, 854, 855, 896, 897, 898, 899, 900, 901, 902, 903, 904, 905, 906, 907, 908, 909, 910, 911, 912, 913, 914, 915, 916, 962, 963, 964, 965, 966, 967, 968, 970, 971, 972, 973, 974, 975, 976, 977, 979, 980, 981, 982, 983, 1024, 1025, 1026, 1027, 1028, 1029, 1353, 1354, 1355, 1356, 1357, 1358, 1359, 1360, 1361, 1362, 1363, 1364, 1365, 1366, 1367, 1408, 1409, 1410, 1411, 1412, 1413, 1414, 1415, 1416, 1417, 1418, 1419, 1420, 1421, 1422, 1423, 1424, 1425, 1426, 1427, 4480, 4481, 4482, 4483, 4484, 4485, 4486, 4608, 4609, 4610, 4611, 4612]
def wsX4_readUnit : List Cond := cw 1410 :: wI q0H
theorem qmN : ∀ i ∈ q0H, cw i ∈ wsX4_readUnit := fun i h => List.mem_cons_of_mem _ (List.mem_map_of_mem h)
theorem qaSv : okM 1410 q0H = true := qaq (by decide +kernel)
def q3m : List Nat := [15, 142, 143, 712, 713, 715, 768, 769, 770, 771, 772, 773, 774, 965, 966, 967, 968, 1026, 1027, 1028, 1029, 1431, 1472, 4480, 4481, 4482, 4483, 4484, 4485, 4486]
def wsX8_needsEnd : List Cond := cw 1431 :: wI q3m
theorem qN7 : ∀ i ∈ q3m, cw i ∈ wsX8_needsEnd := fun i h => List.mem_cons_of_mem _ (List.mem_map_of_mem h)
theorem qaNG : okM 1431 q3m = true := qaq (by decide +kernel)
def q3L : List Nat := [2, 15, 64, 142, 143, 200, 201, 208, 209, 210, 211, 212, 650, 651, 652, 658, 659, 711, 712, 713, 714, 715, 724, 725, 726, 768, 769, 770, 771, 772, 773, 774, 780, 781, 782, 783, 784, 785, 786, 787, 788, 789, 790, 791, 832, 833, 834, 835, 836, 837, 838, 839, 840, 841, 842, 843, 844, 845, 846, 847, 848, 849, 850, 851, 852, 853, 854, 855, 896, 897, 898, 899, 900, 901, 902, 903, 904, 905, 906, 907, 908, 909, 910, 911, 912, 913, 914, 915, 916, 962, 963, 964, 965, 966, 967, 968, 970, 971, 972, 973, 974, 975, 976, 977, 979, 980, 981, 982, 983, 1024, 1025, 1026, 1027, 1028, 1029, 1352, 1353, 1354, 1355, 1356, 1357, 1358, 1359, 1360, 1361, 1362, 1363, 1364, 1365, 1366, 1367, 1408, 1409, 1410, 1411, 1412, 1413, 1414, 1415, 1416, 1417, 1418, 1419, 1420, 1421, 1422, 1423, 1424, 1425, 1426, 1427, 1428, 1429, 1430, 1431, 1472, 4480, 4481, 4482, 4483, 4484, 4485, 4486, 4608, 4609, 4610, 4611, 4612]
def wsX4_readFrom : List Cond := cw 1352 :: wI q3L
theorem qCO : ∀ i ∈ q3L, cw i ∈ wsX4_readFrom := fun i h => List.mem_cons_of_mem _ (List.mem_map_of_mem h)
theorem qaN5 : okM 1352 q3L = true := qaq (by decide +kernel)
def qaQq : List Nat := [11, 12, 147, 333, 334, 335, 4864, 4865]
def wsX5_init : List Cond := cw 333 :: wI qaQq
theorem qV4 : ∀ i ∈ qaQq, cw i ∈ wsX5_init := fun i h => List.mem_cons_of_mem _ (List.mem_map_of_mem h)
theorem qa5R : okM 333 qaQq = true := qaq (by decide +kernel)
def qaRX : List Nat := [329, 330, 331, 335, 1675, 1676, 1677, 1678, 4800, 4801, 4802, 4803, 4864, 4865]
def wsX5_push : List Cond := cw 1675 :: wI qaRX
theorem qG7 : ∀ i ∈ qaRX, cw i ∈ wsX5_push := fun i h => List.mem_cons_of_mem _ (List.mem_map_of_mem h)
theorem qaTi : okM 1675 qaRX = true := qaq (by decide +kernel)
def qaZT : List Nat := [329, 330, 331, 335, 1676, 1677, 1678, 2504, 4800, 4801, 4802, 4803, 4864, 4865]
def wsX5_pop : List Cond := cw 2504 :: wI qaZT
theorem qOm : ∀ i ∈ qaZT, cw i ∈ wsX5_pop := fun i h => List.mem_cons_of_mem _ (List.mem_map_of_mem h)
theorem qa0L : okM 2504 qaZT = true := qaq (by decide +kernel)
def q1g : List Nat := [329, 330, 331, 335, 1676, 1678, 4180, 4864, 4865]
def wsX5_copyFrom : List Cond := cw 4180 :: wI q1g
theorem qzF : ∀ i ∈ q1g, cw i ∈ wsX5_copyFrom := fun i h => List.mem_cons_of_mem _ (List.mem_map_of_mem h)
theorem qaet : okM 4180 q1g = true := qaq (by decide +kernel)
def qaPa : List Nat := [11, 12, 147, 337, 338, 339, 340, 4928, 4929, 4930]
def wsX6_init : List Cond := cw 337 :: wI qaPa
theorem qPl : ∀ i ∈ qaPa, cw i ∈ wsX6_init := fun i h => List.mem_cons_of_mem _ (List.mem_map_of_mem h)
theorem qa7M : okM 337 qaPa = true := qaq (by decide +kernel)
def qaaH : List Nat := [19, 148, 149, 339, 651, 1092, 1093, 1094, 1750, 1751, 1792, 3276, 3280, 4544, 4545, 4546, 4547, 4548, 4549, 4550, 4551, 4552, 4553, 4554, 4555, 4928, 4929, 4930]
def wsX6_wayOver : List Cond := cw 3280 :: wI qaaH
theorem qSl : ∀ i ∈ qaaH, cw i ∈ wsX6_wayOver := fun i h => List.mem_cons_of_mem _ (List.mem_map_of_mem h)
theorem qanX : okM 3280 qaaH = true := qaq (by decide +kernel)
def q3v : List Nat := [2, 19, 128, 148, 149, 339, 650, 651, 652, 1092, 1093, 1094, 1750, 1751, 1792, 2052, 2053, 3265, 3273, 3274, 3275, 3276, 3277, 3278, 3279, 3280, 4544, 4545, 4546, 4547, 4548, 4549, 4550, 4551, 4552, 4553, 4554, 4555, 4928, 4929, 4930]
def wsX6_leastWay : List Cond := cw 3273 :: wI q3v
theorem qoS : ∀ i ∈ q3v, cw i ∈ wsX6_leastWay := fun i h => List.mem_cons_of_mem _ (List.mem_map_of_mem h)
theorem qadD : okM 3273 q3v = true := qaq (by decide +kernel)
def qWd : List Nat := [2, 19, 128, 148, 149, 339, 650, 651, 652, 1092, 1093, 1094, 1750, 1751, 1792, 2052, 2053, 3265, 3269, 3270, 3271, 3272, 3273, 3274, 3275, 3276, 3277, 3278, 3279, 3280, 4544, 4545, 4546, 4547, 4548, 4549, 4550, 4551, 4552, 4553, 4554, 4555, 4928, 4929, 4930]
def wsX6_settleFor : List Cond := cw 3269 :: wI qWd
theorem qtw : ∀ i ∈ qWd, cw i ∈ wsX6_settleFor := fun i h => List.mem_cons_of_mem _ (List.mem_map_of_mem h)
theorem qaHK : okM 3269 qWd = true := qaq (by decide +kernel)
def qWP : List Nat := [2, 19, 128, 148, 149, 339, 651, 1092, 1093, 1094, 1750, 1751, 1792, 2052, 2053, 3265, 3276, 3277, 3278, 3279, 3280, 3328, 4544, 4545, 4546, 4547, 4548, 4549, 4550, 4551, 4552, 4553, 4554, 4555, 4928, 4929, 4930]
def wsX6_firstBest : List Cond := cw 3328 :: wI qWP
theorem qtF : ∀ i ∈ qWP, cw i ∈ wsX6_firstBest := fun i h => List.mem_cons_of_mem _ (List.mem_map_of_mem h)
theorem qaK0 : okM 3328 qWP = true := qaq (by decide +kernel)
def qaOB : List Nat := [2, 19, 128, 148, 149, 339, 340, 651, 1092, 1093, 1094, 1750, 1751, 1792, 2052, 2053, 3265, 3276, 3277, 3278, 3279, 3280, 3284, 3285, 3286, 3287, 3328, 4544, 4545, 4546, 4547, 4548, 4549, 4550, 4551, 4552, 4553, 4554, 4555, 4928, 4929, 4930]
def wsX6_walk : List Cond := cw 3284 :: wI qaOB
theorem qUO : ∀ i ∈ qaOB, cw i ∈ wsX6_walk := fun i h => List.mem_cons_of_mem _ (List.mem_map_of_mem h)
theorem qbao : okM 3284 qaOB = true := qaq (by decide +kernel)
def qalK : List Nat := [2, 19, 128, 148, 149, 339, 340, 650, 651, 652, 1092, 1093, 1094, 1750, 1751, 1792, 2052, 2053, 3223, 3264, 3265, 3266, 3267, 3268, 3269, 3270, 3271, 3272, 3273, 3274, 3275, 3276, 3277, 3278, 3279, 3280, 3281, 3282, 3283, 3284, 3285, 3286, 3287, 3328, 4544, 4545, 4546, 4547, 4548, 4549, 4550, 4551, 4552, 4553, 4554, 4555, 4928, 4929, 4930]
def wsX6_settle : List Cond := cw 3223 :: wI qalK
theorem qvV : ∀ i ∈ qalK, cw i ∈ wsX6_settle := fun i h => List.mem_cons_of_mem _ (List.mem_map_of_mem h)
theorem qaAs : okM 3223 qalK = true := qaq (by decide +kernel)
def qaMf : List Nat := [11, 12, 147, 342, 343, 384, 385, 386, 4992, 4993, 4994, 4995]
def wsX7_init : List Cond := cw 342 :: wI qaMf
theorem qLm : ∀ i ∈ qaMf, cw i ∈ wsX7_init := fun i h => List.mem_cons_of_mem _ (List.mem_map_of_mem h)
theorem qa5N : okM 342 qaMf = true := qaq (by decide +kernel)
def qW7 : List Nat := [19, 64, 78, 148, 149, 200, 201, 202, 203, 208, 276, 322, 323, 324, 650, 651, 652, 720, 1092, 1093, 1094, 1741, 1742, 1743, 1744, 1745, 1746, 1747, 1748, 1750, 1751, 1792, 1793, 1794, 1795, 1796, 1797, 1798, 1799, 1800, 1801, 1802, 1803, 1804, 1805, 1806, 1807, 1808, 1809, 1810, 1811, 1812, 1813, 1814, 1815, 1856, 1857, 1858, 1859, 1860, 1861, 1862, 1863, 1864, 1865, 1866, 1867, 1868, 1869, 1870, 1871, 1872, 1873, 1874, 1875, 1876, 1877, 1878, 1879, 1920, 1921, 1922, 1923, 1924, 1925, 1926, 1927, 1928, 1929, 1930, 1931, 1932, 1933, 1934, 3022, 3023, 3024, 3025, 3079, 3086, 3087, 3088, 3089, 3090, 3091, 3092, 3093, 4544, 4545, 4546, 4547, 4548, 4549, 4550, 4551, 4552, 4553, 4554, 4555, 4608, 4609, 4610, 4611, 4612, 4800, 4801, 4802, 4803]
def wsX7_allowedTo : List Cond := cw 3086 :: wI qW7
theorem qrF : ∀ i ∈ qW7, cw i ∈ wsX7_allowedTo := fun i h => List.mem_cons_of_mem _ (List.mem_map_of_mem h)
theorem qaEO : okM 3086 qW7 = true := qaq (by decide +kernel)
def qSX : List Nat := [384, 3142, 4992, 4993, 4994, 4995]
def wsX7_mostBehind : List Cond := cw 3142 :: wI qSX
theorem q3s : ∀ i ∈ qSX, cw i ∈ wsX7_mostBehind := fun i h => List.mem_cons_of_mem _ (List.mem_map_of_mem h)
theorem q4v : okM 3142 qSX = true := qaq (by decide +kernel)
def q0D : List Nat := [2, 132, 384, 385, 651, 1930, 1931, 2052, 2053, 3137, 3138, 3139, 3140, 3141, 3142, 4992, 4993, 4994, 4995]
def wsX7_mostFrom : List Cond := cw 3137 :: wI q0D
theorem qrU : ∀ i ∈ q0D, cw i ∈ wsX7_mostFrom := fun i h => List.mem_cons_of_mem _ (List.mem_map_of_mem h)
theorem qaRz : okM 3137 q0D = true := qaq (by decide +kernel)
def qWl : List Nat := [2, 132, 384, 385, 2052, 2053, 3139, 3140, 3141, 3142, 3150, 4992, 4993, 4994, 4995]
def wsX7_firstBest : List Cond := cw 3150 :: wI qWl
theorem qva : ∀ i ∈ qWl, cw i ∈ wsX7_firstBest := fun i h => List.mem_cons_of_mem _ (List.mem_map_of_mem h)
theorem qaJ8 : okM 3150 qWl = true := qaq (by decide +kernel)
def qaOP : List Nat := [2, 132, 384, 385, 386, 2052, 2053, 3139, 3140, 3141, 3142, 3146, 3147, 3148, 3149, 3150, 4992, 4993, 4994, 4995]
def wsX7_give : List Cond := cw 3146 :: wI qaOP
theorem qaeI : ∀ i ∈ qaOP, cw i ∈ wsX7_give := fun i h => List.mem_cons_of_mem _ (List.mem_map_of_mem h)
theorem qa3s : okM 3146 qaOP = true := qaq (by decide +kernel)
def qanC : List Nat := [2, 19, 64, 78, 132, 148, 149, 200, 201, 202, 203, 208, 276, 322, 323, 324, 384, 385, 386, 650, 651, 652, 720, 1092, 1093, 1094, 1741, 1742, 1743, 1744, 1745, 1746, 1747, 1748, 1750, 1751, 1792, 1793, 1794, 1795, 1796, 1797, 1798, 1799, 1800, 1801, 1802, 1803, 1804, 1805, 1806, 1807, 1808, 1809, 1810, 1811, 1812, 1813, 1814, 1815, 1856, 1857, 1858, 1859, 1860, 1861, 1862, 1863, 1864, 1865, 1866, 1867, 1868, 1869, 1870, 1871, 1872, 1873, 1874, 1875, 1876, 1877, 1878, 1879, 1920, 1921, 1922, 1923, 1924, 1925, 1926, 1927, 1928, 1929, 1930, 1931, 1932, 1933, 1934, 2052, 2053, 3022, 3023, 3024, 3025, 3078, 3079, 3080, 3081, 3082, 3083, 3084, 3085, 3086, 3087, 3088, 3089, 3090, 3091, 3092, 3093, 3094, 3095, 3136, 3137, 3138, 3139, 3140, 3141, 3142, 3143, 3144, 3145, 3146, 3147, 3148, 3149, 3150, 4544, 4545, 4546, 4547, 4548, 4549, 4550, 4551, 4552, 4553, 4554, 4555, 4608, 4609, 4610, 4611, 4612, 4800, 4801, 4802, 4803, 4992, 4993, 4994, 4995]
def wsX7_settle : List Cond := cw 3078 :: wI qanC
theorem qq5 : ∀ i ∈ qanC, cw i ∈ wsX7_settle := fun i h => List.mem_cons_of_mem _ (List.mem_map_of_mem h)
theorem qaCS : okM 3078 qanC = true := qaq (by decide +kernel)
def qaNK : List Nat := [11, 12, 139, 140, 141, 142, 143, 4480, 4481, 4482, 4483, 4484, 4485, 4486]
def wsX8_init : List Cond := cw 139 :: wI qaNK
theorem qP8 : ∀ i ∈ qaNK, cw i ∈ wsX8_init := fun i h => List.mem_cons_of_mem _ (List.mem_map_of_mem h)
theorem qa5C : okM 139 qaNK = true := qaq (by decide +kernel)
def q9C : List Nat := [579, 580, 4480, 4481, 4482, 4483, 4484, 4485, 4486]
def wsX8_hasRoom : List Cond := cw 579 :: wI q9C
theorem qaog : ∀ i ∈ q9C, cw i ∈ wsX8_hasRoom := fun i h => List.mem_cons_of_mem _ (List.mem_map_of_mem h)
theorem qaSS : okM 579 q9C = true := qaq (by decide +kernel)
def qaZy : List Nat := [142, 580, 584, 4480, 4481, 4482, 4483, 4484, 4485, 4486]
def wsX8_put : List Cond := cw 584 :: wI qaZy
theorem qaNE : ∀ i ∈ qaZy, cw i ∈ wsX8_put := fun i h => List.mem_cons_of_mem _ (List.mem_map_of_mem h)
theorem qba1 : okM 584 qaZy = true := qaq (by decide +kernel)
def qaMB : List Nat := [143, 580, 650, 651, 652, 710, 711, 712, 713, 714, 715, 4480, 4481, 4482, 4483, 4484, 4485, 4486]
def wsX8_open : List Cond := cw 710 :: wI qaMB
theorem qBE : ∀ i ∈ qaMB, cw i ∈ wsX8_open := fun i h => List.mem_cons_of_mem _ (List.mem_map_of_mem h)
theorem qa5u : okM 710 qaMB = true := qaq (by decide +kernel)
def qaRA : List Nat := [11, 12, 147, 264, 265, 266, 267, 268, 269, 270, 271, 4736, 4737, 4738, 4739, 4740, 4741, 4742, 4743, 4744, 4745, 4746, 4747]
def wsX9_init : List Cond := cw 264 :: wI qaRA
theorem qB9 : ∀ i ∈ qaRA, cw i ∈ wsX9_init := fun i h => List.mem_cons_of_mem _ (List.mem_map_of_mem h)
theorem qa3Q : okM 264 qaRA = true := qaq (by decide +kernel)
def qaZh : List Nat := [266, 267, 268, 269, 1606, 1618, 4736, 4737, 4738, 4739, 4740, 4741, 4742, 4743, 4744, 4745, 4746, 4747]
def wsX9_add : List Cond := cw 1618 :: wI qaZh
theorem q5j : ∀ i ∈ qaZh, cw i ∈ wsX9_add := fun i h => List.mem_cons_of_mem _ (List.mem_map_of_mem h)
theorem qaMi : okM 1618 qaZh = true := qaq (by decide +kernel)
def qXb : List Nat := [74, 266, 267, 268, 269, 270, 1606, 1607, 1614, 1615, 1616, 1617, 1618, 4736, 4737, 4738, 4739, 4740, 4741, 4742, 4743, 4744, 4745, 4746, 4747]
def wsX9_closeLoop : List Cond := cw 1614 :: wI qXb
theorem qxy : ∀ i ∈ qXb, cw i ∈ wsX9_closeLoop := fun i h => List.mem_cons_of_mem _ (List.mem_map_of_mem h)
theorem qaIJ : okM 1614 qXb = true := qaq (by decide +kernel)
def q2r : List Nat := [2, 15, 74, 142, 143, 266, 267, 268, 269, 270, 650, 651, 652, 658, 659, 711, 712, 713, 714, 715, 724, 725, 726, 771, 772, 773, 774, 835, 962, 963, 964, 965, 966, 967, 968, 970, 971, 972, 973, 974, 975, 976, 977, 979, 980, 981, 982, 983, 1024, 1025, 1026, 1027, 1028, 1029, 1606, 1607, 1615, 1616, 1617, 1618, 1619, 1668, 1669, 1670, 4480, 4481, 4482, 4483, 4484, 4485, 4486, 4736, 4737, 4738, 4739, 4740, 4741, 4742, 4743, 4744, 4745, 4746, 4747]
def wsX9_openLoop : List Cond := cw 1668 :: wI q2r
theorem qqQ : ∀ i ∈ q2r, cw i ∈ wsX9_openLoop := fun i h => List.mem_cons_of_mem _ (List.mem_map_of_mem h)
theorem qaNB : okM 1668 q2r = true := qaq (by decide +kernel)
def q3i : List Nat := [2, 15, 74, 142, 143, 266, 267, 268, 269, 270, 650, 651, 652, 658, 659, 711, 712, 713, 714, 715, 724, 725, 726, 771, 772, 773, 774, 780, 781, 782, 783, 784, 785, 786, 787, 788, 789, 790, 791, 832, 833, 834, 835, 836, 837, 838, 839, 840, 841, 842, 843, 844, 845, 846, 847, 848, 849, 850, 851, 852, 853, 854, 855, 896, 897, 898, 899, 900, 901, 902, 903, 904, 905, 906, 907, 908, 909, 910, 911, 912, 913, 914, 915, 916, 962, 963, 964, 965, 966, 967, 968, 970, 971, 972, 973, 974, 975, 976, 977, 979, 980, 981, 982, 983, 1024, 1025, 1026, 1027, 1028, 1029, 1604, 1605, 1606, 1607, 1615, 1616, 1617, 1618, 1619, 1623, 1664, 1665, 1666, 1667, 1668, 1669, 1670, 1671, 4480, 4481, 4482, 4483, 4484, 4485, 4486, 4736, 4737, 4738, 4739, 4740, 4741, 4742, 4743, 4744, 4745, 4746, 4747]
def wsX9_readStep : List Cond := cw 1623 :: wI q3i
theorem qnC : ∀ i ∈ q3i, cw i ∈ wsX9_readStep := fun i h => List.mem_cons_of_mem _ (List.mem_map_of_mem h)
theorem qaOh : okM 1623 q3i = true := qaq (by decide +kernel)
def q0u : List Nat := [2, 15, 74, 142, 143, 266, 267, 268, 269, 270, 650, 651, 652, 658, 659, 711, 712, 713, 714, 715, 724, 725, 726, 768, 769, 770, 771, 772, 773, 774, 780, 781, 782, 783, 784, 785, 786, 787, 788, 789, 790, 791, 832, 833, 834, 835, 836, 837, 838, 839, 840, 841, 842, 843, 844, 845, 846, 847, 848, 849, 850, 851, 852, 853, 854, 855, 896, 897, 898, 899, 900, 901, 902, 903, 904, 905, 906, 907, 908, 909, 910, 911, 912, 913, 914, 915, 916, 962, 963, 964, 965, 966, 967, 968, 970, 971, 972, 973, 974, 975, 976, 977, 979, 980, 981, 982, 983, 1024, 1025, 1026, 1027, 1028, 1029, 1603, 1604, 1605, 1606, 1607, 1608, 1609, 1610, 1611, 1612, 1613, 1614, 1615, 1616, 1617, 1618, 1619, 1620, 1621, 1622, 1623, 1664, 1665, 1666, 1667, 1668, 1669, 1670, 1671, 4480, 4481, 4482, 4483, 4484, 4485, 4486, 4736, 4737, 4738, 4739, 4740, 4741, 4742, 4743, 4744, 4745, 4746, 4747]
def wsX9_readFrom : List Cond := cw 1603 :: wI q0u
theorem qkP : ∀ i ∈ q0u, cw i ∈ wsX9_readFrom := fun i h => List.mem_cons_of_mem _ (List.mem_map_of_mem h)
theorem qaQl : okM 1603 q0u = true := qaq (by decide +kernel)
def qXo : List Nat := [267, 271, 1607, 1728, 4736, 4737, 4738, 4739, 4740, 4741, 4742, 4743, 4744, 4745, 4746, 4747]
def wsX9_behindEnd : List Cond := cw 1728 :: wI qXo
theorem qKt : ∀ i ∈ qXo, cw i ∈ wsX9_behindEnd := fun i h => List.mem_cons_of_mem _ (List.mem_map_of_mem h)
theorem qaFJ : okM 1728 qXo = true := qaq (by decide +kernel)
def qOV : List Nat := [267, 268, 271, 1607, 1732, 4736, 4737, 4738, 4739, 4740, 4741, 4742, 4743, 4744, 4745, 4746, 4747]
def wsX9_behindAgain : List Cond := cw 1732 :: wI qOV
theorem qAo : ∀ i ∈ qOV, cw i ∈ wsX9_behindAgain := fun i h => List.mem_cons_of_mem _ (List.mem_map_of_mem h)
theorem qasf : okM 1732 qOV = true := qaq (by decide +kernel)
def qX1 : List Nat := [19, 64, 78, 148, 149, 200, 201, 202, 203, 208, 266, 267, 268, 269, 276, 322, 323, 324, 650, 651, 652, 1092, 1093, 1094, 1736, 1737, 1738, 1739, 1740, 1741, 1742, 1743, 1744, 1745, 1746, 1747, 1748, 1749, 1750, 1751, 1792, 1793, 1794, 1795, 1796, 1797, 1798, 1799, 1800, 1801, 1802, 1803, 1804, 1805, 1806, 1807, 1808, 1809, 1810, 1811, 1812, 1813, 1814, 1815, 1856, 1857, 1858, 1859, 1860, 1861, 1862, 1863, 1864, 1865, 1866, 1867, 1868, 1869, 1870, 1871, 1872, 1873, 1874, 1875, 1876, 1877, 1878, 1879, 1920, 1921, 1922, 1923, 1924, 1925, 1926, 1927, 1928, 1929, 1930, 1931, 1932, 1933, 1934, 1935, 1936, 1937, 1938, 1939, 1940, 1941, 1942, 1943, 1984, 1985, 1986, 4544, 4545, 4546, 4547, 4548, 4549, 4550, 4551, 4552, 4553, 4554, 4555, 4608, 4609, 4610, 4611, 4612, 4736, 4737, 4738, 4739, 4740, 4741, 4742, 4743, 4744, 4745, 4746, 4747, 4800, 4801, 4802, 4803]
def wsX9_isAllowed : List Cond := cw 1736 :: wI qX1
theorem qod : ∀ i ∈ qX1, cw i ∈ wsX9_isAllowed := fun i h => List.mem_cons_of_mem _ (List.mem_map_of_mem h)
theorem qaFC : okM 1736 qX1 = true := qaq (by decide +kernel)
def qai2 : List Nat := [2, 19, 78, 266, 267, 268, 269, 276, 322, 324, 326, 651, 1047, 1741, 1742, 1743, 1744, 1745, 1746, 1747, 1748, 1808, 1809, 1810, 1811, 1812, 1813, 1814, 1815, 1930, 1931, 1990, 1991, 1992, 1993, 1994, 1995, 1996, 1997, 1998, 1999, 2000, 2001, 2002, 2003, 2004, 2005, 2006, 2007, 2048, 2049, 2050, 2051, 2052, 2053, 2054, 2055, 2056, 2057, 2058, 2059, 2060, 2061, 2062, 2063, 2064, 2065, 2066, 2067, 2068, 2069, 4544, 4545, 4546, 4547, 4548, 4549, 4550, 4551, 4552, 4553, 4554, 4555, 4736, 4737, 4738, 4739, 4740, 4741, 4742, 4743, 4744, 4745, 4746, 4747, 4800, 4801, 4802, 4803]
def wsX9_doStep : List Cond := cw 1990 :: wI qai2
theorem qth : ∀ i ∈ qai2, cw i ∈ wsX9_doStep := fun i h => List.mem_cons_of_mem _ (List.mem_map_of_mem h)
theorem qaXw : okM 1990 qai2 = true := qaq (by decide +kernel)
def qaAy : List Nat := [2, 19, 64, 74, 78, 148, 149, 200, 201, 202, 203, 208, 266, 267, 268, 269, 271, 276, 322, 323, 324, 326, 650, 651, 652, 1047, 1092, 1093, 1094, 1606, 1607, 1682, 1683, 1684, 1685, 1686, 1687, 1728, 1729, 1730, 1731, 1732, 1733, 1734, 1735, 1736, 1737, 1738, 1739, 1740, 1741, 1742, 1743, 1744, 1745, 1746, 1747, 1748, 1749, 1750, 1751, 1792, 1793, 1794, 1795, 1796, 1797, 1798, 1799, 1800, 1801, 1802, 1803, 1804, 1805, 1806, 1807, 1808, 1809, 1810, 1811, 1812, 1813, 1814, 1815, 1856, 1857, 1858, 1859, 1860, 1861, 1862, 1863, 1864, 1865, 1866, 1867, 1868, 1869, 1870, 1871, 1872, 1873, 1874, 1875, 1876, 1877, 1878, 1879, 1920, 1921, 1922, 1923, 1924, 1925, 1926, 1927, 1928, 1929, 1930, 1931, 1932, 1933, 1934, 1935, 1936, 1937, 1938, 1939, 1940, 1941, 1942, 1943, 1984, 1985, 1986, 1987, 1988, 1989, 1990, 1991, 1992, 1993, 1994, 1995, 1996, 1997, 1998, 1999, 2000, 2001, 2002, 2003, 2004, 2005, 2006, 2007, 2048, 2049, 2050, 2051, 2052, 2053, 2054, 2055, 2056, 2057, 2058, 2059, 2060, 2061, 2062, 2063, 2064, 2065, 2066, 2067, 2068, 2069, 4544, 4545, 4546, 4547, 4548, 4549, 4550, 4551, 4552, 4553, 4554, 4555, 4608, 4609, 4610, 4611, 4612, 4736, 4737, 4738, 4739, 4740, 4741, 4742, 4743, 4744, 4745, 4746, 4747, 4800, 4801, 4802, 4803]
def wsX9_runOn : List Cond := cw 1682 :: wI qaAy
theorem qui : ∀ i ∈ qaAy, cw i ∈ wsX9_runOn := fun i h => List.mem_cons_of_mem _ (List.mem_map_of_mem h)
theorem qa1J : okM 1682 qaAy = true := qaq (by decide +kernel)
def qaVb : List Nat := [9, 10, 11, 12, 13, 14, 15, 16, 17, 18, 19, 20, 21, 22, 23, 64, 65, 66, 67, 68, 69, 70, 71, 72, 73, 74, 75, 76, 77, 78, 79, 80, 81, 82, 83, 84, 85, 86, 87, 128, 129, 130, 131, 132, 133, 134, 135, 136, 137, 138, 139, 140, 141, 142, 143, 144, 145, 146, 147, 148, 149, 150, 151, 192, 193, 194, 195, 196, 197, 198, 199, 200, 201, 202, 203, 204, 205, 206, 207, 208, 209, 210, 211, 212, 213, 214, 215, 256, 257, 258, 259, 260, 261, 262, 263, 264, 265, 266, 267, 268, 269, 270, 271, 272, 273, 274, 275, 276, 277, 278, 279, 320, 321, 322, 323, 324, 325, 326, 327, 328, 329, 330, 331, 332, 333, 334, 335, 336, 337, 338, 339, 340, 341, 342, 343, 384, 385, 386, 387, 388, 389, 390, 391, 392, 393, 4352, 4353, 4354, 4355, 4356, 4357, 4358, 4359, 4360, 4361, 4362, 4363, 4364, 4365, 4366, 4367, 4368, 4369, 4370, 4480, 4481, 4482, 4483, 4484, 4485, 4486, 4544, 4545, 4546, 4547, 4548, 4549, 4550, 4551, 4552, 4553, 4554, 4555, 4608, 4609, 4610, 4611, 4612, 4672, 4673, 4736, 4737, 4738, 4739, 4740, 4741, 4742, 4743, 4744, 4745, 4746, 4747, 4800, 4801, 4802, 4803, 4864, 4865, 4928, 4929, 4930, 4992, 4993, 4994, 4995, 5056, 5057, 5058, 5059, 5060, 5061, 5062, 5063, 5064, 5065, 5066]
def wsX10_init : List Cond := cw 9 :: wI qaVb
theorem qaB : ∀ i ∈ qaVb, cw i ∈ wsX10_init := fun i h => List.mem_cons_of_mem _ (List.mem_map_of_mem h)
def qaVh : List Nat := [15, 16, 142, 534, 535, 576, 577, 578, 579, 580, 581, 582, 583, 584, 4352, 4353, 4354, 4355, 4356, 4357, 4358, 4359, 4360, 4361, 4362, 4363, 4364, 4365, 4366, 4367, 4368, 4369, 4370, 4480, 4481, 4482, 4483, 4484, 4485, 4486]
def wsX10_feed : List Cond := cw 534 :: wI qaVh
theorem qGy : ∀ i ∈ qaVh, cw i ∈ wsX10_feed := fun i h => List.mem_cons_of_mem _ (List.mem_map_of_mem h)
def qTS : List Nat := [663, 704, 705, 706, 4352, 4353, 4354, 4355, 4356, 4357, 4358, 4359, 4360, 4361, 4362, 4363, 4364, 4365, 4366, 4367, 4368, 4369, 4370]
def wsX10_needLegal : List Cond := cw 663 :: (wI qTS ++ (vx_atS RX10 409 "java/lang/IllegalArgumentException" ["java/lang/RuntimeException", "java/lang/Exception"]).filter goodWord)
theorem qHD : ∀ i ∈ qTS, cw i ∈ wsX10_needLegal := fun i h => List.mem_cons_of_mem _ (List.mem_append_left _ (List.mem_map_of_mem h))
theorem q2v : okM 663 qTS = true := qaq (by decide +kernel)
def qQG : List Nat := [2, 656, 657, 658, 659, 660, 661, 662, 663, 704, 705, 706, 4352, 4353, 4354, 4355, 4356, 4357, 4358, 4359, 4360, 4361, 4362, 4363, 4364, 4365, 4366, 4367, 4368, 4369, 4370]
def wsX10_needWithin : List Cond := cw 656 :: (wI qQG ++ (vx_atS RX10 409 "java/lang/IllegalArgumentException" ["java/lang/RuntimeException", "java/lang/Exception"]).filter goodWord)
theorem qEU : ∀ i ∈ qQG, cw i ∈ wsX10_needWithin := fun i h => List.mem_cons_of_mem _ (List.mem_append_left _ (List.mem_map_of_mem h))
theorem qdH : okM 656 qQG = true := qaq (by decide +kernel)
def qXO : List Nat := [2, 15, 16, 143, 535, 580, 648, 649, 650, 651, 652, 653, 654, 655, 656, 657, 658, 659, 660, 661, 662, 663, 704, 705, 706, 707, 708, 709, 710, 711, 712, 713, 714, 715, 4352, 4353, 4354, 4355, 4356, 4357, 4358, 4359, 4360, 4361, 4362, 4363, 4364, 4365, 4366, 4367, 4368, 4369, 4370, 4480, 4481, 4482, 4483, 4484, 4485, 4486]
def wsX10_openText : List Cond := cw 648 :: (wI qXO ++ (vx_atS RX10 409 "java/lang/IllegalArgumentException" ["java/lang/RuntimeException", "java/lang/Exception"]).filter goodWord)
theorem qpo : ∀ i ∈ qXO, cw i ∈ wsX10_openText := fun i h => List.mem_cons_of_mem _ (List.mem_append_left _ (List.mem_map_of_mem h))
theorem qKE : okM 648 qXO = true := qaq (by decide +kernel)
def qaAf : List Nat := [2, 15, 16, 19, 20, 21, 64, 65, 69, 70, 78, 79, 84, 142, 143, 148, 149, 150, 151, 192, 193, 194, 200, 201, 205, 206, 207, 208, 209, 210, 211, 212, 257, 259, 260, 261, 262, 276, 279, 320, 321, 322, 323, 324, 325, 326, 327, 328, 329, 330, 331, 535, 580, 599, 640, 641, 642, 643, 644, 645, 646, 647, 648, 649, 650, 651, 652, 653, 654, 655, 656, 657, 658, 659, 660, 661, 662, 663, 704, 705, 706, 707, 708, 709, 710, 711, 712, 713, 714, 715, 716, 717, 718, 719, 720, 721, 722, 723, 724, 725, 726, 727, 768, 769, 770, 771, 772, 773, 774, 775, 776, 777, 778, 779, 780, 781, 782, 783, 784, 785, 786, 787, 788, 789, 790, 791, 832, 833, 834, 835, 836, 837, 838, 839, 840, 841, 842, 843, 844, 845, 846, 847, 848, 849, 850, 851, 852, 853, 854, 855, 896, 897, 898, 899, 900, 901, 902, 903, 904, 905, 906, 907, 908, 909, 910, 911, 912, 913, 914, 915, 916, 917, 918, 919, 960, 961, 962, 963, 964, 965, 966, 967, 968, 969, 970, 971, 972, 973, 974, 975, 976, 977, 978, 979, 980, 981, 982, 983, 1024, 1025, 1026, 1027, 1028, 1029, 1030, 1031, 1032, 1033, 1034, 1035, 1036, 1037, 1038, 1039, 1040, 1041, 1042, 1043, 1044, 1045, 1046, 1047, 1088, 1089, 1090, 1091, 1092, 1093, 1094, 1095, 1096, 1097, 1098, 4352, 4353, 4354, 4355, 4356, 4357, 4358, 4359, 4360, 4361, 4362, 4363, 4364, 4365, 4366, 4367, 4368, 4369, 4370, 4480, 4481, 4482, 4483, 4484, 4485, 4486, 4544, 4545, 4546, 4547, 4548, 4549, 4550, 4551, 4552, 4553, 4554, 4555, 4608, 4609, 4610, 4611, 4612, 4672, 4673, 4800, 4801, 4802, 4803, 4864, 4865]
def wsX10_down : List Cond := cw 599 :: (wI qaAf ++ (vx_atS RX10 409 "java/lang/IllegalArgumentException" ["java/lang/RuntimeException", "java/lang/Exception"]).filter goodWord)
theorem qh0 : ∀ i ∈ qaAf, cw i ∈ wsX10_down := fun i h => List.mem_cons_of_mem _ (List.mem_append_left _ (List.mem_map_of_mem h))
theorem qa2j : okM 599 qaAf = true := qaq (by decide +kernel)
def qaNu : List Nat := [2, 15, 16, 64, 65, 66, 78, 79, 142, 143, 200, 201, 208, 209, 210, 211, 212, 323, 535, 580, 640, 645, 646, 647, 648, 649, 650, 651, 652, 653, 654, 655, 656, 657, 658, 659, 660, 661, 662, 663, 704, 705, 706, 707, 708, 709, 710, 711, 712, 713, 714, 715, 724, 725, 726, 768, 769, 770, 771, 772, 773, 774, 780, 781, 782, 783, 784, 785, 786, 787, 788, 789, 790, 791, 832, 833, 834, 835, 836, 837, 838, 839, 840, 841, 842, 843, 844, 845, 846, 847, 848, 849, 850, 851, 852, 853, 854, 855, 896, 897, 898, 899, 900, 901, 902, 903, 904, 905, 906, 907, 908, 909, 910, 911, 912, 913, 914, 915, 916, 962, 963, 964, 965, 966, 967, 968, 970, 971, 972, 973, 974, 975, 976, 977, 979, 980, 981, 982, 983, 1024, 1025, 1026, 1027, 1028, 1029, 1095, 1348, 1349, 1350, 1351, 1352, 1353, 1354, 1355, 1356, 1357, 1358, 1359, 1360, 1361, 1362, 1363, 1364, 1365, 1366, 1367, 1408, 1409, 1410, 1411, 1412, 1413, 1414, 1415, 1416, 1417, 1418, 1419, 1420, 1421, 1422, 1423, 1424, 1425, 1426, 1427, 1428, 1429, 1430, 1431, 1472, 1473, 1474, 1475, 1476, 4352, 4353, 4354, 4355, 4356, 4357, 4358, 4359, 4360, 4361, 4362, 4363, 4364, 4365, 4366, 4367, 4368, 4369, 4370, 4480, 4481, 4482, 4483, 4484, 4485, 4486, 4608, 4609, 4610, 4611, 4612, 4800, 4801, 4802, 4803]
def wsX10_law : List Cond := cw 1348 :: (wI qaNu ++ (vx_atS RX10 409 "java/lang/IllegalArgumentException" ["java/lang/RuntimeException", "java/lang/Exception"]).filter goodWord)
theorem qvZ : ∀ i ∈ qaNu, cw i ∈ wsX10_law := fun i h => List.mem_cons_of_mem _ (List.mem_append_left _ (List.mem_map_of_mem h))
theorem qa8W : okM 1348 qaNu = true := qaq (by decide +kernel)
def qaDi : List Nat := [2, 15, 16, 19, 20, 64, 74, 75, 78, 79, 83, 84, 142, 143, 148, 149, 200, 201, 202, 203, 208, 266, 267, 268, 269, 270, 271, 276, 322, 323, 324, 326, 329, 330, 331, 335, 535, 580, 640, 641, 643, 644, 645, 646, 647, 648, 649, 650, 651, 652, 653, 654, 655, 656, 657, 658, 659, 660, 661, 662, 663, 704, 705, 706, 707, 708, 709, 710, 711, 712, 713, 714, 715, 724, 725, 726, 768, 769, 770, 771, 772, 773, 774, 780, 781, 782, 783, 784, 785, 786, 787, 788, 789, 790, 791, 832, 833, 834, 835, 836, 837, 838, 839, 840, 841, 842, 843, 844, 845, 846, 847, 848, 849, 850, 851, 852, 853, 854, 855, 896, 897, 898, 899, 900, 901, 902, 903, 904, 905, 906, 907, 908, 909, 910, 911, 912, 913, 914, 915, 916, 962, 963, 964, 965, 966, 967, 968, 970, 971, 972, 973, 974, 975, 976, 977, 979, 980, 981, 982, 983, 1024, 1025, 1026, 1027, 1028, 1029, 1047, 1092, 1093, 1094, 1095, 1556, 1557, 1558, 1559, 1600, 1601, 1602, 1603, 1604, 1605, 1606, 1607, 1608, 1609, 1610, 1611, 1612, 1613, 1614, 1615, 1616, 1617, 1618, 1619, 1620, 1621, 1622, 1623, 1664, 1665, 1666, 1667, 1668, 1669, 1670, 1671, 1672, 1673, 1674, 1675, 1676, 1677, 1678, 1679, 1680, 1681, 1682, 1683, 1684, 1685, 1686, 1687, 1728, 1729, 1730, 1731, 1732, 1733, 1734, 1735, 1736, 1737, 1738, 1739, 1740, 1741, 1742, 1743, 1744, 1745, 1746, 1747, 1748, 1749, 1750, 1751, 1792, 1793, 1794, 1795, 1796, 1797, 1798, 1799, 1800, 1801, 1802, 1803, 1804, 1805, 1806, 1807, 1808, 1809, 1810, 1811, 1812, 1813, 1814, 1815, 1856, 1857, 1858, 1859, 1860, 1861, 1862, 1863, 1864, 1865, 1866, 1867, 1868, 1869, 1870, 1871, 1872, 1873, 1874, 1875, 1876, 1877, 1878, 1879, 1920, 1921, 1922, 1923, 1924, 1925, 1926, 1927, 1928, 1929, 1930, 1931, 1932, 1933, 1934, 1935, 1936, 1937, 1938, 1939, 1940, 1941, 1942, 1943, 1984, 1985, 1986, 1987, 1988, 1989, 1990, 1991, 1992, 1993, 1994, 1995, 1996, 1997, 1998, 1999, 2000, 2001, 2002, 2003, 2004, 2005, 2006, 2007, 2048, 2049, 2050, 2051, 2052, 2053, 2054, 2055, 2056, 2057, 2058, 2059, 2060, 2061, 2062, 2063, 2064, 2065, 2066, 2067, 2068, 2069, 4352, 4353, 4354, 4355, 4356, 4357, 4358, 4359, 4360, 4361, 4362, 4363, 4364, 4365, 4366, 4367, 4368, 4369, 4370, 4480, 4481, 4482, 4483, 4484, 4485, 4486, 4544, 4545, 4546, 4547, 4548, 4549, 4550, 4551, 4552, 4553, 4554, 4555, 4608, 4609, 4610, 4611, 4612, 4736, 4737, 4738, 4739, 4740, 4741, 4742, 4743, 4744, 4745, 4746, 4747, 4800, 4801, 4802, 4803, 4864, 4865]
def wsX10_work : List Cond := cw 1556 :: (wI qaDi ++ (vx_atS RX10 409 "java/lang/IllegalArgumentException" ["java/lang/RuntimeException", "java/lang/Exception"]).filter goodWord)
theorem qie : ∀ i ∈ qaDi, cw i ∈ wsX10_work := fun i h => List.mem_cons_of_mem _ (List.mem_append_left _ (List.mem_map_of_mem h))
theorem qa14 : okM 1556 qaDi = true := qaq (by decide +kernel)
def qayw : List Nat := [2, 15, 16, 20, 69, 70, 71, 142, 143, 257, 258, 259, 260, 261, 262, 535, 580, 640, 645, 646, 647, 648, 649, 650, 651, 652, 653, 654, 655, 656, 657, 658, 659, 660, 661, 662, 663, 704, 705, 706, 707, 708, 709, 710, 711, 712, 713, 714, 715, 724, 725, 726, 768, 769, 770, 771, 772, 773, 774, 835, 962, 963, 964, 965, 966, 967, 968, 970, 971, 972, 973, 974, 975, 976, 977, 979, 980, 981, 982, 983, 1024, 1025, 1026, 1027, 1028, 1029, 1095, 1557, 2385, 2386, 2387, 2388, 2389, 2390, 2391, 2432, 2433, 2434, 2435, 2436, 2437, 2438, 2439, 2440, 2441, 2442, 2443, 4352, 4353, 4354, 4355, 4356, 4357, 4358, 4359, 4360, 4361, 4362, 4363, 4364, 4365, 4366, 4367, 4368, 4369, 4370, 4480, 4481, 4482, 4483, 4484, 4485, 4486, 4544, 4545, 4546, 4547, 4548, 4549, 4550, 4551, 4552, 4553, 4554, 4555, 4672, 4673]
def wsX10_book : List Cond := cw 2385 :: (wI qayw ++ (vx_atS RX10 409 "java/lang/IllegalArgumentException" ["java/lang/RuntimeException", "java/lang/Exception"]).filter goodWord)
theorem qrf : ∀ i ∈ qayw, cw i ∈ wsX10_book := fun i h => List.mem_cons_of_mem _ (List.mem_append_left _ (List.mem_map_of_mem h))
theorem qa16 : okM 2385 qayw = true := qaq (by decide +kernel)
def qaLO : List Nat := [16, 2451, 2452, 4352, 4353, 4354, 4355, 4356, 4357, 4358, 4359, 4360, 4361, 4362, 4363, 4364, 4365, 4366, 4367, 4368, 4369, 4370, 4480, 4481, 4482, 4483, 4484, 4485, 4486]
def wsX10_fault : List Cond := cw 2451 :: wI qaLO
theorem qWK : ∀ i ∈ qaLO, cw i ∈ wsX10_fault := fun i h => List.mem_cons_of_mem _ (List.mem_map_of_mem h)
def qaUc : List Nat := [79, 83, 84, 329, 330, 331, 335, 641, 643, 1676, 1677, 1678, 2500, 2501, 2502, 2503, 2504, 4352, 4353, 4354, 4355, 4356, 4357, 4358, 4359, 4360, 4361, 4362, 4363, 4364, 4365, 4366, 4367, 4368, 4369, 4370, 4800, 4801, 4802, 4803, 4864, 4865]
def wsX10_undo : List Cond := cw 2500 :: wI qaUc
theorem qGe : ∀ i ∈ qaUc, cw i ∈ wsX10_undo := fun i h => List.mem_cons_of_mem _ (List.mem_map_of_mem h)
def qaAx : List Nat := [2, 19, 20, 70, 78, 79, 276, 322, 324, 643, 644, 653, 654, 655, 656, 657, 658, 659, 660, 661, 662, 663, 704, 705, 706, 1047, 1557, 1741, 1742, 1743, 1744, 1745, 1746, 1747, 1748, 1812, 1813, 1814, 1815, 1856, 1857, 1858, 1859, 1860, 1861, 1862, 1863, 1873, 1874, 1875, 1984, 1985, 1986, 2052, 2053, 2059, 2060, 2061, 2062, 2063, 2064, 2065, 2386, 2515, 2516, 2517, 2518, 2519, 2560, 2561, 2562, 2563, 2564, 2565, 2566, 2567, 2568, 2569, 2570, 2571, 2572, 4352, 4353, 4354, 4355, 4356, 4357, 4358, 4359, 4360, 4361, 4362, 4363, 4364, 4365, 4366, 4367, 4368, 4369, 4370, 4544, 4545, 4546, 4547, 4548, 4549, 4550, 4551, 4552, 4553, 4554, 4555, 4672, 4673, 4800, 4801, 4802, 4803]
def wsX10_told : List Cond := cw 2515 :: (wI qaAx ++ (vx_atS RX10 409 "java/lang/IllegalArgumentException" ["java/lang/RuntimeException", "java/lang/Exception"]).filter goodWord)
theorem qiz : ∀ i ∈ qaAx, cw i ∈ wsX10_told := fun i h => List.mem_cons_of_mem _ (List.mem_append_left _ (List.mem_map_of_mem h))
theorem qa11 : okM 2515 qaAx = true := qaq (by decide +kernel)
def qWM : List Nat := [2, 20, 657, 658, 659, 1557, 2689, 2690, 2691, 2692, 4352, 4353, 4354, 4355, 4356, 4357, 4358, 4359, 4360, 4361, 4362, 4363, 4364, 4365, 4366, 4367, 4368, 4369, 4370, 4544, 4545, 4546, 4547, 4548, 4549, 4550, 4551, 4552, 4553, 4554, 4555]
def wsX10_needForm : List Cond := cw 2689 :: (wI qWM ++ (qqA RX10 268 "java/util/NoSuchElementException" 13 qxN ["java/lang/RuntimeException", "java/lang/Exception"]).filter goodWord)
theorem qtC : ∀ i ∈ qWM, cw i ∈ wsX10_needForm := fun i h => List.mem_cons_of_mem _ (List.mem_append_left _ (List.mem_map_of_mem h))
theorem qD2 : okM 2689 qWM = true := qaq (by decide +kernel)
def qaxR : List Nat := [2, 19, 20, 78, 79, 276, 322, 324, 653, 654, 655, 656, 657, 658, 659, 660, 661, 662, 663, 704, 705, 706, 1047, 1557, 1741, 1742, 1743, 1744, 1745, 1746, 1747, 1748, 1798, 1799, 1800, 2052, 2053, 2063, 2064, 2065, 2643, 2644, 2645, 2646, 2647, 2688, 2689, 2690, 2691, 2692, 2693, 2694, 4352, 4353, 4354, 4355, 4356, 4357, 4358, 4359, 4360, 4361, 4362, 4363, 4364, 4365, 4366, 4367, 4368, 4369, 4370, 4544, 4545, 4546, 4547, 4548, 4549, 4550, 4551, 4552, 4553, 4554, 4555, 4800, 4801, 4802, 4803]
def wsX10_form : List Cond := cw 2643 :: (wI qaxR ++ (qqA RX10 268 "java/util/NoSuchElementException" 13 qxN ["java/lang/RuntimeException", "java/lang/Exception"]).filter goodWord ++ (vx_atS RX10 409 "java/lang/IllegalArgumentException" ["java/lang/RuntimeException", "java/lang/Exception"]).filter goodWord)
theorem quu : ∀ i ∈ qaxR, cw i ∈ wsX10_form := fun i h => List.mem_cons_of_mem _ (List.mem_append_left _ (List.mem_append_left _ (List.mem_map_of_mem h)))
theorem qa2b : okM 2643 qaxR = true := qaq (by decide +kernel)
def qWI : List Nat := [2, 20, 644, 657, 658, 659, 2690, 2691, 2692, 2754, 4352, 4353, 4354, 4355, 4356, 4357, 4358, 4359, 4360, 4361, 4362, 4363, 4364, 4365, 4366, 4367, 4368, 4369, 4370, 4544, 4545, 4546, 4547, 4548, 4549, 4550, 4551, 4552, 4553, 4554, 4555]
def wsX10_needHare : List Cond := cw 2754 :: (wI qWI ++ (qqA RX10 268 "java/util/NoSuchElementException" 13 qxN ["java/lang/RuntimeException", "java/lang/Exception"]).filter goodWord)
theorem qtS : ∀ i ∈ qWI, cw i ∈ wsX10_needHare := fun i h => List.mem_cons_of_mem _ (List.mem_append_left _ (List.mem_map_of_mem h))
theorem qtH : okM 2754 qWI = true := qaq (by decide +kernel)
def qaEh : List Nat := [2, 20, 64, 78, 79, 200, 201, 202, 203, 208, 276, 322, 323, 324, 644, 650, 651, 652, 653, 654, 655, 656, 657, 658, 659, 660, 661, 662, 663, 704, 705, 706, 1741, 1742, 1743, 1744, 1745, 1746, 1747, 1748, 1794, 1795, 1796, 1797, 1798, 1799, 1800, 1801, 1802, 1803, 1804, 1805, 1806, 1807, 1808, 1809, 1810, 1811, 1812, 1813, 1814, 1815, 1856, 1857, 1858, 1859, 1860, 1861, 1862, 1863, 1864, 1865, 1866, 1867, 1868, 1869, 1870, 1871, 1872, 1873, 1874, 1875, 1876, 1877, 1878, 1879, 1920, 1921, 1922, 1923, 1924, 1925, 1926, 1927, 1928, 1929, 1930, 1931, 1932, 1933, 1934, 2690, 2691, 2692, 2709, 2710, 2711, 2752, 2753, 2754, 2755, 2756, 2757, 2758, 2759, 2760, 2761, 2762, 4352, 4353, 4354, 4355, 4356, 4357, 4358, 4359, 4360, 4361, 4362, 4363, 4364, 4365, 4366, 4367, 4368, 4369, 4370, 4544, 4545, 4546, 4547, 4548, 4549, 4550, 4551, 4552, 4553, 4554, 4555, 4608, 4609, 4610, 4611, 4612, 4800, 4801, 4802, 4803]
def wsX10_hare : List Cond := cw 2709 :: (wI qaEh ++ (qqA RX10 268 "java/util/NoSuchElementException" 13 qxN ["java/lang/RuntimeException", "java/lang/Exception"]).filter goodWord ++ (vx_atS RX10 409 "java/lang/IllegalArgumentException" ["java/lang/RuntimeException", "java/lang/Exception"]).filter goodWord)
theorem qkL : ∀ i ∈ qaEh, cw i ∈ wsX10_hare := fun i h => List.mem_cons_of_mem _ (List.mem_append_left _ (List.mem_append_left _ (List.mem_map_of_mem h)))
theorem qa1i : okM 2709 qaEh = true := qaq (by decide +kernel)
def qaMl : List Nat := [2, 20, 653, 654, 655, 656, 657, 658, 659, 660, 661, 662, 663, 704, 705, 706, 2516, 2690, 2691, 2692, 2817, 2818, 2819, 4352, 4353, 4354, 4355, 4356, 4357, 4358, 4359, 4360, 4361, 4362, 4363, 4364, 4365, 4366, 4367, 4368, 4369, 4370, 4544, 4545, 4546, 4547, 4548, 4549, 4550, 4551, 4552, 4553, 4554, 4555]
def wsX10_fox : List Cond := cw 2817 :: (wI qaMl ++ (qqA RX10 268 "java/util/NoSuchElementException" 13 qxN ["java/lang/RuntimeException", "java/lang/Exception"]).filter goodWord ++ (vx_atS RX10 409 "java/lang/IllegalArgumentException" ["java/lang/RuntimeException", "java/lang/Exception"]).filter goodWord)
theorem qy0 : ∀ i ∈ qaMl, cw i ∈ wsX10_fox := fun i h => List.mem_cons_of_mem _ (List.mem_append_left _ (List.mem_append_left _ (List.mem_map_of_mem h)))
theorem qa41 : okM 2817 qaMl = true := qaq (by decide +kernel)
def qaAU : List Nat := [2, 20, 78, 79, 276, 644, 657, 658, 659, 1861, 1862, 1863, 2690, 2691, 2692, 2711, 2752, 2753, 2754, 2830, 2831, 4352, 4353, 4354, 4355, 4356, 4357, 4358, 4359, 4360, 4361, 4362, 4363, 4364, 4365, 4366, 4367, 4368, 4369, 4370, 4544, 4545, 4546, 4547, 4548, 4549, 4550, 4551, 4552, 4553, 4554, 4555, 4800, 4801, 4802, 4803]
def wsX10_debt : List Cond := cw 2830 :: (wI qaAU ++ (qqA RX10 268 "java/util/NoSuchElementException" 13 qxN ["java/lang/RuntimeException", "java/lang/Exception"]).filter goodWord)
theorem qOy : ∀ i ∈ qaAU, cw i ∈ wsX10_debt := fun i h => List.mem_cons_of_mem _ (List.mem_append_left _ (List.mem_map_of_mem h))
theorem qa1W : okM 2830 qaAU = true := qaq (by decide +kernel)
def qaSE : List Nat := [2, 19, 20, 148, 149, 651, 657, 658, 659, 1092, 1093, 1094, 1557, 1750, 1751, 1792, 2646, 2647, 2688, 2689, 2690, 2691, 2692, 2882, 2883, 4352, 4353, 4354, 4355, 4356, 4357, 4358, 4359, 4360, 4361, 4362, 4363, 4364, 4365, 4366, 4367, 4368, 4369, 4370, 4544, 4545, 4546, 4547, 4548, 4549, 4550, 4551, 4552, 4553, 4554, 4555]
def wsX10_far : List Cond := cw 2882 :: (wI qaSE ++ (qqA RX10 268 "java/util/NoSuchElementException" 13 qxN ["java/lang/RuntimeException", "java/lang/Exception"]).filter goodWord)
theorem qUR : ∀ i ∈ qaSE, cw i ∈ wsX10_far := fun i h => List.mem_cons_of_mem _ (List.mem_append_left _ (List.mem_map_of_mem h))
theorem qa88 : okM 2882 qaSE = true := qaq (by decide +kernel)
def qanA : List Nat := [2, 64, 65, 200, 201, 202, 203, 208, 650, 651, 652, 653, 654, 655, 656, 657, 658, 659, 660, 661, 662, 663, 704, 705, 706, 1869, 1870, 1871, 1921, 1922, 1923, 1925, 1926, 1927, 1928, 1929, 1930, 1931, 1932, 1933, 1934, 2894, 2895, 2896, 2897, 4352, 4353, 4354, 4355, 4356, 4357, 4358, 4359, 4360, 4361, 4362, 4363, 4364, 4365, 4366, 4367, 4368, 4369, 4370, 4608, 4609, 4610, 4611, 4612]
def wsX10_would : List Cond := cw 2894 :: (wI qanA ++ (vx_atS RX10 409 "java/lang/IllegalArgumentException" ["java/lang/RuntimeException", "java/lang/Exception"]).filter goodWord)
theorem qxL : ∀ i ∈ qanA, cw i ∈ wsX10_would := fun i h => List.mem_cons_of_mem _ (List.mem_append_left _ (List.mem_map_of_mem h))
theorem qaWn : okM 2894 qanA = true := qaq (by decide +kernel)
def qaRp : List Nat := [2, 19, 20, 64, 78, 79, 148, 149, 200, 201, 202, 203, 208, 276, 322, 323, 324, 644, 650, 651, 652, 657, 658, 659, 1092, 1093, 1094, 1557, 1738, 1739, 1740, 1741, 1742, 1743, 1744, 1745, 1746, 1747, 1748, 1749, 1750, 1751, 1792, 1793, 1794, 1795, 1796, 1797, 1798, 1799, 1800, 1801, 1802, 1803, 1804, 1805, 1806, 1807, 1808, 1809, 1810, 1811, 1812, 1813, 1814, 1815, 1856, 1857, 1858, 1859, 1860, 1861, 1862, 1863, 1864, 1865, 1866, 1867, 1868, 1869, 1870, 1871, 1872, 1873, 1874, 1875, 1876, 1877, 1878, 1879, 1920, 1921, 1922, 1923, 1924, 1925, 1926, 1927, 1928, 1929, 1930, 1931, 1932, 1933, 1934, 2646, 2647, 2688, 2689, 2690, 2691, 2692, 2711, 2752, 2753, 2754, 2948, 2949, 4352, 4353, 4354, 4355, 4356, 4357, 4358, 4359, 4360, 4361, 4362, 4363, 4364, 4365, 4366, 4367, 4368, 4369, 4370, 4544, 4545, 4546, 4547, 4548, 4549, 4550, 4551, 4552, 4553, 4554, 4555, 4608, 4609, 4610, 4611, 4612, 4800, 4801, 4802, 4803]
def wsX10_can : List Cond := cw 2948 :: (wI qaRp ++ (qqA RX10 268 "java/util/NoSuchElementException" 13 qxN ["java/lang/RuntimeException", "java/lang/Exception"]).filter goodWord)
theorem qLf : ∀ i ∈ qaRp, cw i ∈ wsX10_can := fun i h => List.mem_cons_of_mem _ (List.mem_append_left _ (List.mem_map_of_mem h))
theorem qa7q : okM 2948 qaRp = true := qaq (by decide +kernel)
def qalO : List Nat := [2, 19, 78, 79, 80, 276, 322, 323, 324, 326, 328, 329, 330, 331, 653, 654, 655, 656, 657, 658, 659, 660, 661, 662, 663, 704, 705, 706, 1047, 1741, 1742, 1743, 1744, 1745, 1746, 1747, 1748, 1812, 1813, 1814, 1815, 1856, 1857, 1858, 1859, 1860, 1861, 1862, 1863, 1873, 1874, 1875, 2049, 2050, 2051, 2052, 2053, 2054, 2055, 2056, 2057, 2058, 2059, 2060, 2061, 2062, 2063, 2064, 2065, 2066, 2067, 2068, 2069, 2518, 2560, 2561, 2562, 2563, 2568, 2569, 2570, 2571, 2960, 2961, 2962, 2963, 2964, 2965, 4352, 4353, 4354, 4355, 4356, 4357, 4358, 4359, 4360, 4361, 4362, 4363, 4364, 4365, 4366, 4367, 4368, 4369, 4370, 4544, 4545, 4546, 4547, 4548, 4549, 4550, 4551, 4552, 4553, 4554, 4555, 4800, 4801, 4802, 4803]
def wsX10_ahead : List Cond := cw 2960 :: (wI qalO ++ (vx_atS RX10 409 "java/lang/IllegalArgumentException" ["java/lang/RuntimeException", "java/lang/Exception"]).filter goodWord)
theorem qq3 : ∀ i ∈ qalO, cw i ∈ wsX10_ahead := fun i h => List.mem_cons_of_mem _ (List.mem_append_left _ (List.mem_map_of_mem h))
theorem qaYX : okM 2960 qalO = true := qaq (by decide +kernel)
def qaCF : List Nat := [2, 19, 20, 64, 78, 79, 148, 149, 200, 201, 202, 203, 208, 276, 322, 323, 324, 644, 650, 651, 652, 657, 658, 659, 720, 1092, 1093, 1094, 1557, 1741, 1742, 1743, 1744, 1745, 1746, 1747, 1748, 1750, 1751, 1792, 1794, 1795, 1796, 1797, 1798, 1799, 1800, 1801, 1802, 1803, 1804, 1805, 1806, 1807, 1808, 1809, 1810, 1811, 1812, 1813, 1814, 1815, 1856, 1857, 1858, 1859, 1860, 1861, 1862, 1863, 1864, 1865, 1866, 1867, 1868, 1869, 1870, 1871, 1872, 1873, 1874, 1875, 1876, 1877, 1878, 1879, 1920, 1921, 1922, 1923, 1924, 1925, 1926, 1927, 1928, 1929, 1930, 1931, 1932, 1933, 1934, 2052, 2053, 2646, 2647, 2688, 2689, 2690, 2691, 2692, 2711, 2752, 2753, 2754, 2755, 2756, 2762, 3016, 3017, 3018, 3019, 3020, 3021, 3022, 3023, 3024, 3025, 4352, 4353, 4354, 4355, 4356, 4357, 4358, 4359, 4360, 4361, 4362, 4363, 4364, 4365, 4366, 4367, 4368, 4369, 4370, 4544, 4545, 4546, 4547, 4548, 4549, 4550, 4551, 4552, 4553, 4554, 4555, 4608, 4609, 4610, 4611, 4612, 4800, 4801, 4802, 4803]
def wsX10_hops : List Cond := cw 3016 :: (wI qaCF ++ (qqA RX10 268 "java/util/NoSuchElementException" 13 qxN ["java/lang/RuntimeException", "java/lang/Exception"]).filter goodWord)
theorem qtb : ∀ i ∈ qaCF, cw i ∈ wsX10_hops := fun i h => List.mem_cons_of_mem _ (List.mem_append_left _ (List.mem_map_of_mem h))
theorem qa2g : okM 3016 qaCF = true := qaq (by decide +kernel)
def qaLT : List Nat := [2, 19, 64, 78, 79, 132, 133, 148, 149, 200, 201, 202, 203, 208, 276, 322, 323, 324, 384, 385, 386, 650, 651, 652, 720, 1092, 1093, 1094, 1741, 1742, 1743, 1744, 1745, 1746, 1747, 1748, 1750, 1751, 1792, 1793, 1794, 1795, 1796, 1797, 1798, 1799, 1800, 1801, 1802, 1803, 1804, 1805, 1806, 1807, 1808, 1809, 1810, 1811, 1812, 1813, 1814, 1815, 1856, 1857, 1858, 1859, 1860, 1861, 1862, 1863, 1864, 1865, 1866, 1867, 1868, 1869, 1870, 1871, 1872, 1873, 1874, 1875, 1876, 1877, 1878, 1879, 1920, 1921, 1922, 1923, 1924, 1925, 1926, 1927, 1928, 1929, 1930, 1931, 1932, 1933, 1934, 2052, 2053, 3022, 3023, 3024, 3025, 3073, 3074, 3075, 3076, 3077, 3078, 3079, 3080, 3081, 3082, 3083, 3084, 3085, 3086, 3087, 3088, 3089, 3090, 3091, 3092, 3093, 3094, 3095, 3136, 3137, 3138, 3139, 3140, 3141, 3142, 3143, 3144, 3145, 3146, 3147, 3148, 3149, 3150, 4352, 4353, 4354, 4355, 4356, 4357, 4358, 4359, 4360, 4361, 4362, 4363, 4364, 4365, 4366, 4367, 4368, 4369, 4370, 4544, 4545, 4546, 4547, 4548, 4549, 4550, 4551, 4552, 4553, 4554, 4555, 4608, 4609, 4610, 4611, 4612, 4800, 4801, 4802, 4803, 4992, 4993, 4994, 4995]
def wsX10_seats : List Cond := cw 3073 :: wI qaLT
theorem qF3 : ∀ i ∈ qaLT, cw i ∈ wsX10_seats := fun i h => List.mem_cons_of_mem _ (List.mem_map_of_mem h)
def qaB2 : List Nat := [2, 19, 20, 64, 78, 79, 132, 133, 148, 149, 200, 201, 202, 203, 208, 276, 322, 323, 324, 384, 385, 386, 644, 650, 651, 652, 657, 658, 659, 720, 1092, 1093, 1094, 1741, 1742, 1743, 1744, 1745, 1746, 1747, 1748, 1750, 1751, 1792, 1793, 1794, 1795, 1796, 1797, 1798, 1799, 1800, 1801, 1802, 1803, 1804, 1805, 1806, 1807, 1808, 1809, 1810, 1811, 1812, 1813, 1814, 1815, 1856, 1857, 1858, 1859, 1860, 1861, 1862, 1863, 1864, 1865, 1866, 1867, 1868, 1869, 1870, 1871, 1872, 1873, 1874, 1875, 1876, 1877, 1878, 1879, 1920, 1921, 1922, 1923, 1924, 1925, 1926, 1927, 1928, 1929, 1930, 1931, 1932, 1933, 1934, 2052, 2053, 2690, 2691, 2692, 2711, 2752, 2753, 2754, 3022, 3023, 3024, 3025, 3075, 3076, 3077, 3078, 3079, 3080, 3081, 3082, 3083, 3084, 3085, 3086, 3087, 3088, 3089, 3090, 3091, 3092, 3093, 3094, 3095, 3136, 3137, 3138, 3139, 3140, 3141, 3142, 3143, 3144, 3145, 3146, 3147, 3148, 3149, 3150, 3209, 3210, 4352, 4353, 4354, 4355, 4356, 4357, 4358, 4359, 4360, 4361, 4362, 4363, 4364, 4365, 4366, 4367, 4368, 4369, 4370, 4544, 4545, 4546, 4547, 4548, 4549, 4550, 4551, 4552, 4553, 4554, 4555, 4608, 4609, 4610, 4611, 4612, 4800, 4801, 4802, 4803, 4992, 4993, 4994, 4995]
def wsX10_seat : List Cond := cw 3209 :: (wI qaB2 ++ (qqA RX10 268 "java/util/NoSuchElementException" 13 qxN ["java/lang/RuntimeException", "java/lang/Exception"]).filter goodWord)
theorem qCS : ∀ i ∈ qaB2, cw i ∈ wsX10_seat := fun i h => List.mem_cons_of_mem _ (List.mem_append_left _ (List.mem_map_of_mem h))
theorem qa1Q : okM 3209 qaB2 = true := qaq (by decide +kernel)
def qaUh : List Nat := [2, 19, 20, 128, 129, 148, 149, 339, 340, 650, 651, 652, 1092, 1093, 1094, 1750, 1751, 1792, 2052, 2053, 3218, 3219, 3220, 3221, 3222, 3223, 3264, 3265, 3266, 3267, 3268, 3269, 3270, 3271, 3272, 3273, 3274, 3275, 3276, 3277, 3278, 3279, 3280, 3281, 3282, 3283, 3284, 3285, 3286, 3287, 3328, 4352, 4353, 4354, 4355, 4356, 4357, 4358, 4359, 4360, 4361, 4362, 4363, 4364, 4365, 4366, 4367, 4368, 4369, 4370, 4544, 4545, 4546, 4547, 4548, 4549, 4550, 4551, 4552, 4553, 4554, 4555, 4928, 4929, 4930]
def wsX10_ring : List Cond := cw 3218 :: wI qaUh
theorem qJ3 : ∀ i ∈ qaUh, cw i ∈ wsX10_ring := fun i h => List.mem_cons_of_mem _ (List.mem_map_of_mem h)
def qaci : List Nat := [2, 19, 20, 128, 129, 148, 149, 339, 340, 650, 651, 652, 660, 661, 662, 663, 704, 705, 706, 1092, 1093, 1094, 1557, 1750, 1751, 1792, 2052, 2053, 3220, 3221, 3222, 3223, 3264, 3265, 3266, 3267, 3268, 3269, 3270, 3271, 3272, 3273, 3274, 3275, 3276, 3277, 3278, 3279, 3280, 3281, 3282, 3283, 3284, 3285, 3286, 3287, 3328, 3343, 3344, 4352, 4353, 4354, 4355, 4356, 4357, 4358, 4359, 4360, 4361, 4362, 4363, 4364, 4365, 4366, 4367, 4368, 4369, 4370, 4544, 4545, 4546, 4547, 4548, 4549, 4550, 4551, 4552, 4553, 4554, 4555, 4928, 4929, 4930]
def wsX10_ringed : List Cond := cw 3343 :: (wI qaci ++ (vx_atS RX10 409 "java/lang/IllegalArgumentException" ["java/lang/RuntimeException", "java/lang/Exception"]).filter goodWord)
theorem qt3 : ∀ i ∈ qaci, cw i ∈ wsX10_ringed := fun i h => List.mem_cons_of_mem _ (List.mem_append_left _ (List.mem_map_of_mem h))
theorem qaUy : okM 3343 qaci = true := qaq (by decide +kernel)
def qTY : List Nat := [2, 78, 276, 651, 1809, 1810, 1811, 1930, 1931, 2052, 2053, 2757, 3400, 3401, 3402, 3403, 3404, 4800, 4801, 4802, 4803]
def wsX10_ordersWon : List Cond := cw 3403 :: wI qTY
theorem qkU : ∀ i ∈ qTY, cw i ∈ wsX10_ordersWon := fun i h => List.mem_cons_of_mem _ (List.mem_map_of_mem h)
theorem q4i : okM 3403 qTY = true := qaq (by decide +kernel)
def qalS : List Nat := [2, 20, 78, 79, 276, 322, 324, 644, 651, 657, 658, 659, 1742, 1743, 1744, 1809, 1810, 1811, 1930, 1931, 2052, 2053, 2690, 2691, 2692, 2711, 2752, 2753, 2754, 2755, 2757, 3395, 3396, 3397, 3398, 3399, 3400, 3401, 3402, 3403, 3404, 4352, 4353, 4354, 4355, 4356, 4357, 4358, 4359, 4360, 4361, 4362, 4363, 4364, 4365, 4366, 4367, 4368, 4369, 4370, 4544, 4545, 4546, 4547, 4548, 4549, 4550, 4551, 4552, 4553, 4554, 4555, 4800, 4801, 4802, 4803]
def wsX10_bouts : List Cond := cw 3395 :: (wI qalS ++ (qqA RX10 268 "java/util/NoSuchElementException" 13 qxN ["java/lang/RuntimeException", "java/lang/Exception"]).filter goodWord)
theorem qo8 : ∀ i ∈ qalS, cw i ∈ wsX10_bouts := fun i h => List.mem_cons_of_mem _ (List.mem_append_left _ (List.mem_map_of_mem h))
theorem qaXT : okM 3395 qalS = true := qaq (by decide +kernel)
def qaBF : List Nat := [2, 69, 70, 78, 79, 136, 137, 257, 276, 322, 324, 390, 391, 392, 653, 654, 655, 656, 657, 658, 659, 660, 661, 662, 663, 704, 705, 706, 1741, 1742, 1743, 1744, 1745, 1746, 1747, 1748, 1798, 1799, 1800, 1802, 1803, 1804, 1805, 1806, 1807, 3459, 3460, 3461, 3462, 3463, 3464, 3465, 3466, 3467, 3468, 3469, 3470, 3471, 3472, 3473, 3474, 3475, 3476, 3477, 3478, 3479, 3520, 3521, 3522, 3523, 3524, 3525, 3526, 3527, 3528, 3529, 3530, 3531, 3532, 3533, 4352, 4353, 4354, 4355, 4356, 4357, 4358, 4359, 4360, 4361, 4362, 4363, 4364, 4365, 4366, 4367, 4368, 4369, 4370, 4544, 4545, 4546, 4547, 4548, 4549, 4550, 4551, 4552, 4553, 4554, 4555, 4672, 4673, 4800, 4801, 4802, 4803, 5056, 5057, 5058, 5059, 5060, 5061, 5062, 5063, 5064, 5065, 5066]
def wsX10_fits : List Cond := cw 3459 :: (wI qaBF ++ (vx_atS RX10 409 "java/lang/IllegalArgumentException" ["java/lang/RuntimeException", "java/lang/Exception"]).filter goodWord)
theorem qyx : ∀ i ∈ qaBF, cw i ∈ wsX10_fits := fun i h => List.mem_cons_of_mem _ (List.mem_append_left _ (List.mem_map_of_mem h))
theorem qa1Z : okM 3459 qaBF = true := qaq (by decide +kernel)
def qawj : List Nat := [2, 69, 70, 78, 79, 136, 137, 257, 276, 322, 324, 390, 391, 392, 393, 651, 653, 654, 655, 656, 657, 658, 659, 660, 661, 662, 663, 704, 705, 706, 1741, 1742, 1743, 1744, 1745, 1746, 1747, 1748, 1798, 1799, 1800, 1802, 1803, 1804, 1805, 1806, 1807, 1930, 1931, 2052, 2053, 2439, 2440, 2441, 3462, 3463, 3464, 3465, 3466, 3467, 3468, 3469, 3470, 3471, 3472, 3473, 3474, 3475, 3476, 3477, 3478, 3479, 3520, 3521, 3522, 3523, 3524, 3525, 3526, 3527, 3528, 3529, 3530, 3531, 3532, 3533, 3592, 3593, 3594, 3595, 3596, 3597, 3598, 3599, 3600, 3601, 3602, 3603, 3604, 3605, 3606, 3607, 3648, 3649, 3650, 4352, 4353, 4354, 4355, 4356, 4357, 4358, 4359, 4360, 4361, 4362, 4363, 4364, 4365, 4366, 4367, 4368, 4369, 4370, 4544, 4545, 4546, 4547, 4548, 4549, 4550, 4551, 4552, 4553, 4554, 4555, 4672, 4673, 4800, 4801, 4802, 4803, 5056, 5057, 5058, 5059, 5060, 5061, 5062, 5063, 5064, 5065, 5066]
def wsX10_look : List Cond := cw 3592 :: (wI qawj ++ (vx_atS RX10 409 "java/lang/IllegalArgumentException" ["java/lang/RuntimeException", "java/lang/Exception"]).filter goodWord)
theorem qvF : ∀ i ∈ qawj, cw i ∈ wsX10_look := fun i h => List.mem_cons_of_mem _ (List.mem_append_left _ (List.mem_map_of_mem h))
theorem qa1E : okM 3592 qawj = true := qaq (by decide +kernel)
def qaka : List Nat := [2, 19, 20, 148, 149, 195, 651, 653, 654, 655, 656, 657, 658, 659, 660, 661, 662, 663, 704, 705, 706, 720, 1092, 1093, 1094, 1750, 1751, 1792, 1802, 1803, 1804, 1805, 1806, 1807, 2052, 2053, 3021, 3022, 3023, 3024, 3025, 3665, 3666, 3667, 3668, 3669, 3670, 3671, 3712, 3713, 3714, 4352, 4353, 4354, 4355, 4356, 4357, 4358, 4359, 4360, 4361, 4362, 4363, 4364, 4365, 4366, 4367, 4368, 4369, 4370, 4544, 4545, 4546, 4547, 4548, 4549, 4550, 4551, 4552, 4553, 4554, 4555]
def wsX10_watch : List Cond := cw 3665 :: (wI qaka ++ (vx_atS RX10 409 "java/lang/IllegalArgumentException" ["java/lang/RuntimeException", "java/lang/Exception"]).filter goodWord)
theorem qJy : ∀ i ∈ qaka, cw i ∈ wsX10_watch := fun i h => List.mem_cons_of_mem _ (List.mem_append_left _ (List.mem_map_of_mem h))
theorem qaXJ : okM 3665 qaka = true := qaq (by decide +kernel)
def qaob : List Nat := [3728]
def wsX10_choices : List Cond := cw 3728 :: wI qaob
theorem qaPz : okM 3728 qaob = true := qaq (by decide +kernel)
def qaMb : List Nat := [3731]
def wsX10_power : List Cond := cw 3731 :: wI qaMb
theorem qaYl : okM 3731 qaMb = true := qaq (by decide +kernel)
def qaSk : List Nat := [2, 653, 654, 655, 656, 657, 658, 659, 660, 661, 662, 663, 704, 705, 706, 3725, 3726, 3727, 3728, 3729, 3730, 3731, 4352, 4353, 4354, 4355, 4356, 4357, 4358, 4359, 4360, 4361, 4362, 4363, 4364, 4365, 4366, 4367, 4368, 4369, 4370]
def wsX10_few : List Cond := cw 3725 :: (wI qaSk ++ (vx_atS RX10 409 "java/lang/IllegalArgumentException" ["java/lang/RuntimeException", "java/lang/Exception"]).filter goodWord)
theorem qVD : ∀ i ∈ qaSk, cw i ∈ wsX10_few := fun i h => List.mem_cons_of_mem _ (List.mem_append_left _ (List.mem_map_of_mem h))
theorem qa29 : okM 3725 qaSk = true := qaq (by decide +kernel)
def qaVr : List Nat := [3789]
def wsX10_gain : List Cond := cw 3789 :: wI qaVr
theorem qa1f : okM 3789 qaVr = true := qaq (by decide +kernel)
def qawu : List Nat := [2, 653, 654, 655, 656, 657, 658, 659, 660, 661, 662, 663, 704, 705, 706, 3786, 3787, 3788, 3789, 4352, 4353, 4354, 4355, 4356, 4357, 4358, 4359, 4360, 4361, 4362, 4363, 4364, 4365, 4366, 4367, 4368, 4369, 4370]
def wsX10_road : List Cond := cw 3786 :: (wI qawu ++ (vx_atS RX10 409 "java/lang/IllegalArgumentException" ["java/lang/RuntimeException", "java/lang/Exception"]).filter goodWord)
theorem q5f : ∀ i ∈ qawu, cw i ∈ wsX10_road := fun i h => List.mem_cons_of_mem _ (List.mem_append_left _ (List.mem_map_of_mem h))
theorem qa2d : okM 3786 qawu = true := qaq (by decide +kernel)
def qacq : List Nat := [2, 20, 78, 79, 276, 277, 322, 324, 644, 650, 651, 652, 653, 654, 655, 656, 657, 658, 659, 660, 661, 662, 663, 704, 705, 706, 1860, 1861, 1862, 1863, 1864, 1865, 1866, 1867, 2052, 2053, 2690, 2691, 2692, 2711, 2752, 2753, 2754, 3400, 3843, 3844, 3845, 3846, 3847, 3848, 3849, 3850, 3851, 3852, 4352, 4353, 4354, 4355, 4356, 4357, 4358, 4359, 4360, 4361, 4362, 4363, 4364, 4365, 4366, 4367, 4368, 4369, 4370, 4544, 4545, 4546, 4547, 4548, 4549, 4550, 4551, 4552, 4553, 4554, 4555, 4800, 4801, 4802, 4803]
def wsX10_clover : List Cond := cw 3843 :: (wI qacq ++ (qqA RX10 268 "java/util/NoSuchElementException" 13 qxN ["java/lang/RuntimeException", "java/lang/Exception"]).filter goodWord ++ (vx_atS RX10 409 "java/lang/IllegalArgumentException" ["java/lang/RuntimeException", "java/lang/Exception"]).filter goodWord)
theorem qrr : ∀ i ∈ qacq, cw i ∈ wsX10_clover := fun i h => List.mem_cons_of_mem _ (List.mem_append_left _ (List.mem_append_left _ (List.mem_map_of_mem h)))
theorem qaTw : okM 3843 qacq = true := qaq (by decide +kernel)
def qTu : List Nat := [2, 20, 78, 79, 276, 644, 653, 654, 655, 656, 657, 658, 659, 660, 661, 662, 663, 704, 705, 706, 1742, 1743, 1744, 1809, 1810, 1811, 2755, 2757, 3907, 4352, 4353, 4354, 4355, 4356, 4357, 4358, 4359, 4360, 4361, 4362, 4363, 4364, 4365, 4366, 4367, 4368, 4369, 4370, 4544, 4545, 4546, 4547, 4548, 4549, 4550, 4551, 4552, 4553, 4554, 4555, 4800, 4801, 4802, 4803]
def wsX10_strongest : List Cond := cw 3907 :: (wI qTu ++ (vx_atS RX10 409 "java/lang/IllegalArgumentException" ["java/lang/RuntimeException", "java/lang/Exception"]).filter goodWord)
theorem qo6 : ∀ i ∈ qTu, cw i ∈ wsX10_strongest := fun i h => List.mem_cons_of_mem _ (List.mem_append_left _ (List.mem_map_of_mem h))
theorem qaya : okM 3907 qTu = true := qaq (by decide +kernel)
def qay0 : List Nat := [2, 20, 78, 79, 276, 644, 653, 654, 655, 656, 657, 658, 659, 660, 661, 662, 663, 704, 705, 706, 1861, 1862, 1863, 2690, 2691, 2692, 2711, 2752, 2753, 2754, 2831, 3918, 4352, 4353, 4354, 4355, 4356, 4357, 4358, 4359, 4360, 4361, 4362, 4363, 4364, 4365, 4366, 4367, 4368, 4369, 4370, 4544, 4545, 4546, 4547, 4548, 4549, 4550, 4551, 4552, 4553, 4554, 4555, 4800, 4801, 4802, 4803]
def wsX10_ties : List Cond := cw 3918 :: (wI qay0 ++ (qqA RX10 268 "java/util/NoSuchElementException" 13 qxN ["java/lang/RuntimeException", "java/lang/Exception"]).filter goodWord ++ (vx_atS RX10 409 "java/lang/IllegalArgumentException" ["java/lang/RuntimeException", "java/lang/Exception"]).filter goodWord)
theorem qx8 : ∀ i ∈ qay0, cw i ∈ wsX10_ties := fun i h => List.mem_cons_of_mem _ (List.mem_append_left _ (List.mem_append_left _ (List.mem_map_of_mem h)))
theorem qa13 : okM 3918 qay0 = true := qaq (by decide +kernel)
def qacj : List Nat := [2, 19, 20, 148, 149, 651, 653, 654, 655, 656, 657, 658, 659, 660, 661, 662, 663, 704, 705, 706, 1047, 1092, 1093, 1094, 1557, 1750, 1751, 1792, 2052, 2053, 2063, 2064, 2065, 2646, 2647, 2688, 2689, 2690, 2691, 2692, 2693, 2883, 3969, 4352, 4353, 4354, 4355, 4356, 4357, 4358, 4359, 4360, 4361, 4362, 4363, 4364, 4365, 4366, 4367, 4368, 4369, 4370, 4544, 4545, 4546, 4547, 4548, 4549, 4550, 4551, 4552, 4553, 4554, 4555]
def wsX10_refuge : List Cond := cw 3969 :: (wI qacj ++ (qqA RX10 268 "java/util/NoSuchElementException" 13 qxN ["java/lang/RuntimeException", "java/lang/Exception"]).filter goodWord ++ (vx_atS RX10 409 "java/lang/IllegalArgumentException" ["java/lang/RuntimeException", "java/lang/Exception"]).filter goodWord)
theorem qsv : ∀ i ∈ qacj, cw i ∈ wsX10_refuge := fun i h => List.mem_cons_of_mem _ (List.mem_append_left _ (List.mem_append_left _ (List.mem_map_of_mem h)))
theorem qaTt : okM 3969 qacj = true := qaq (by decide +kernel)
def qajN : List Nat := [2, 19, 20, 64, 78, 79, 148, 149, 200, 201, 202, 203, 208, 276, 322, 323, 324, 644, 650, 651, 652, 657, 658, 659, 720, 1092, 1093, 1094, 1741, 1742, 1743, 1744, 1745, 1746, 1747, 1748, 1750, 1751, 1792, 1793, 1794, 1795, 1796, 1797, 1798, 1799, 1800, 1801, 1802, 1803, 1804, 1805, 1806, 1807, 1808, 1809, 1810, 1811, 1812, 1813, 1814, 1815, 1856, 1857, 1858, 1859, 1860, 1861, 1862, 1863, 1864, 1865, 1866, 1867, 1868, 1869, 1870, 1871, 1872, 1873, 1874, 1875, 1876, 1877, 1878, 1879, 1920, 1921, 1922, 1923, 1924, 1925, 1926, 1927, 1928, 1929, 1930, 1931, 1932, 1933, 1934, 2690, 2691, 2692, 2711, 2752, 2753, 2754, 3022, 3023, 3024, 3025, 3090, 3091, 3092, 3980, 3981, 4352, 4353, 4354, 4355, 4356, 4357, 4358, 4359, 4360, 4361, 4362, 4363, 4364, 4365, 4366, 4367, 4368, 4369, 4370, 4544, 4545, 4546, 4547, 4548, 4549, 4550, 4551, 4552, 4553, 4554, 4555, 4608, 4609, 4610, 4611, 4612, 4800, 4801, 4802, 4803]
def wsX10_range : List Cond := cw 3980 :: (wI qajN ++ (qqA RX10 268 "java/util/NoSuchElementException" 13 qxN ["java/lang/RuntimeException", "java/lang/Exception"]).filter goodWord)
theorem qJX : ∀ i ∈ qajN, cw i ∈ wsX10_range := fun i h => List.mem_cons_of_mem _ (List.mem_append_left _ (List.mem_map_of_mem h))
theorem qaZC : okM 3980 qajN = true := qaq (by decide +kernel)
def qajP : List Nat := [2, 19, 64, 78, 79, 80, 148, 149, 200, 201, 202, 203, 208, 276, 322, 323, 324, 326, 328, 329, 330, 331, 650, 651, 652, 653, 654, 655, 656, 657, 658, 659, 660, 661, 662, 663, 704, 705, 706, 1047, 1092, 1093, 1094, 1738, 1739, 1740, 1741, 1742, 1743, 1744, 1745, 1746, 1747, 1748, 1749, 1750, 1751, 1792, 1793, 1794, 1795, 1796, 1797, 1798, 1799, 1800, 1801, 1802, 1803, 1804, 1805, 1806, 1807, 1808, 1809, 1810, 1811, 1812, 1813, 1814, 1815, 1856, 1857, 1858, 1859, 1860, 1861, 1862, 1863, 1864, 1865, 1866, 1867, 1868, 1869, 1870, 1871, 1872, 1873, 1874, 1875, 1876, 1877, 1878, 1879, 1920, 1921, 1922, 1923, 1924, 1925, 1926, 1927, 1928, 1929, 1930, 1931, 1932, 1933, 1934, 1936, 1937, 1938, 1992, 1993, 1994, 1995, 1996, 1997, 1998, 2000, 2001, 2002, 2003, 2049, 2050, 2051, 2052, 2053, 2054, 2055, 2056, 2057, 2058, 2059, 2060, 2061, 2062, 2063, 2064, 2065, 2066, 2067, 2068, 2069, 2518, 2560, 2561, 2562, 2563, 2961, 2962, 2963, 2964, 4032, 4033, 4034, 4035, 4036, 4037, 4038, 4039, 4040, 4041, 4042, 4043, 4044, 4045, 4046, 4047, 4048, 4049, 4050, 4051, 4052, 4053, 4054, 4055, 4096, 4097, 4098, 4099, 4100, 4101, 4352, 4353, 4354, 4355, 4356, 4357, 4358, 4359, 4360, 4361, 4362, 4363, 4364, 4365, 4366, 4367, 4368, 4369, 4370, 4544, 4545, 4546, 4547, 4548, 4549, 4550, 4551, 4552, 4553, 4554, 4555, 4608, 4609, 4610, 4611, 4612, 4800, 4801, 4802, 4803]
def wsX10_march : List Cond := cw 4032 :: (wI qajP ++ (vx_atS RX10 409 "java/lang/IllegalArgumentException" ["java/lang/RuntimeException", "java/lang/Exception"]).filter goodWord)
theorem qq1 : ∀ i ∈ qajP, cw i ∈ wsX10_march := fun i h => List.mem_cons_of_mem _ (List.mem_append_left _ (List.mem_map_of_mem h))
theorem qaXg : okM 4032 qajP = true := qaq (by decide +kernel)
def qaDF : List Nat := [2, 19, 20, 64, 78, 79, 80, 148, 149, 200, 201, 202, 203, 208, 276, 322, 323, 324, 326, 328, 329, 330, 331, 644, 649, 650, 651, 652, 653, 654, 655, 656, 657, 658, 659, 660, 661, 662, 663, 704, 705, 706, 1047, 1092, 1093, 1094, 1738, 1739, 1740, 1741, 1742, 1743, 1744, 1745, 1746, 1747, 1748, 1749, 1750, 1751, 1792, 1793, 1794, 1795, 1796, 1797, 1798, 1799, 1800, 1801, 1802, 1803, 1804, 1805, 1806, 1807, 1808, 1809, 1810, 1811, 1812, 1813, 1814, 1815, 1856, 1857, 1858, 1859, 1860, 1861, 1862, 1863, 1864, 1865, 1866, 1867, 1868, 1869, 1870, 1871, 1872, 1873, 1874, 1875, 1876, 1877, 1878, 1879, 1920, 1921, 1922, 1923, 1924, 1925, 1926, 1927, 1928, 1929, 1930, 1931, 1932, 1933, 1934, 1936, 1937, 1938, 1992, 1993, 1994, 1995, 1996, 1997, 1998, 2000, 2001, 2002, 2003, 2049, 2050, 2051, 2052, 2053, 2054, 2055, 2056, 2057, 2058, 2059, 2060, 2061, 2062, 2063, 2064, 2065, 2066, 2067, 2068, 2069, 2755, 2961, 2962, 2963, 2964, 3404, 4033, 4034, 4035, 4036, 4037, 4038, 4039, 4040, 4041, 4042, 4043, 4044, 4045, 4046, 4047, 4048, 4049, 4050, 4051, 4052, 4053, 4054, 4055, 4096, 4097, 4167, 4168, 4352, 4353, 4354, 4355, 4356, 4357, 4358, 4359, 4360, 4361, 4362, 4363, 4364, 4365, 4366, 4367, 4368, 4369, 4370, 4544, 4545, 4546, 4547, 4548, 4549, 4550, 4551, 4552, 4553, 4554, 4555, 4608, 4609, 4610, 4611, 4612, 4800, 4801, 4802, 4803]
def wsX10_span : List Cond := cw 4167 :: (wI qaDF ++ (vx_atS RX10 409 "java/lang/IllegalArgumentException" ["java/lang/RuntimeException", "java/lang/Exception"]).filter goodWord)
theorem qnw : ∀ i ∈ qaDF, cw i ∈ wsX10_span := fun i h => List.mem_cons_of_mem _ (List.mem_append_left _ (List.mem_map_of_mem h))
theorem qa1O : okM 4167 qaDF = true := qaq (by decide +kernel)
def qaLK : List Nat := [79, 83, 84, 85, 329, 330, 331, 335, 642, 1672, 1673, 1674, 1675, 1676, 1677, 1678, 4176, 4177, 4178, 4179, 4180, 4352, 4353, 4354, 4355, 4356, 4357, 4358, 4359, 4360, 4361, 4362, 4363, 4364, 4365, 4366, 4367, 4368, 4369, 4370, 4800, 4801, 4802, 4803, 4864, 4865]
def wsX10_image : List Cond := cw 4176 :: wI qaLK
theorem qzX : ∀ i ∈ qaLK, cw i ∈ wsX10_image := fun i h => List.mem_cons_of_mem _ (List.mem_map_of_mem h)
def qan1 : List Nat := [79, 83, 84, 85, 329, 330, 331, 335, 642, 643, 1676, 1677, 1678, 2501, 2502, 2503, 2504, 4177, 4178, 4179, 4180, 4236, 4352, 4353, 4354, 4355, 4356, 4357, 4358, 4359, 4360, 4361, 4362, 4363, 4364, 4365, 4366, 4367, 4368, 4369, 4370, 4800, 4801, 4802, 4803, 4864, 4865]
def wsX10_restore : List Cond := cw 4236 :: wI qan1
theorem qtM : ∀ i ∈ qan1, cw i ∈ wsX10_restore := fun i h => List.mem_cons_of_mem _ (List.mem_map_of_mem h)
def qaBl : List Nat := [706, 2692, 4244, 4352, 4353, 4354, 4355, 4356, 4357, 4358, 4359, 4360, 4361, 4362, 4363, 4364, 4365, 4366, 4367, 4368, 4369, 4370]
def wsX10_status : List Cond := cw 4244 :: wI qaBl
theorem q3o : ∀ i ∈ qaBl, cw i ∈ wsX10_status := fun i h => List.mem_cons_of_mem _ (List.mem_map_of_mem h)
def qaL1 : List Nat := [16, 84, 535, 641, 642, 4292, 4352, 4353, 4354, 4355, 4356, 4357, 4358, 4359, 4360, 4361, 4362, 4363, 4364, 4365, 4366, 4367, 4368, 4369, 4370, 4480, 4481, 4482, 4483, 4484, 4485, 4486, 4864, 4865]
def wsX10_count : List Cond := cw 4292 :: wI qaL1
theorem qB2 : ∀ i ∈ qaL1, cw i ∈ wsX10_count := fun i h => List.mem_cons_of_mem _ (List.mem_map_of_mem h)
def qaNS : List Nat := [398, 589, 1108, 4416, 4417, 4418, 4419, 4420, 4421, 4422, 4423, 4424, 4425, 4426, 4427, 4428, 4429, 4430, 4431, 4432, 4433, 4434, 4435, 4436, 4437, 4438, 4439, 4440, 4441, 4442, 4443, 4444, 4445, 4446, 4447, 4448, 4449, 4450, 4451, 4452, 4453, 4454, 4455, 4456, 4457, 4458, 4459, 4460, 4461, 4462, 4463, 4464, 4465, 4466, 4467, 4468, 4469, 4470]
def wsX11_may : List Cond := cw 1108 :: wI qaNS
theorem qaC7 : ∀ i ∈ qaNS, cw i ∈ wsX11_may := fun i h => List.mem_cons_of_mem _ (List.mem_map_of_mem h)
theorem qoR : okM 1108 qaNS = true := qaq (by decide +kernel)
def qaCh : List Nat := [2579]
def wsX11_within : List Cond := cw 2579 :: wI qaCh
theorem qiy : okM 2579 qaCh = true := qaq (by decide +kernel)
def qabW : List Nat := [404, 471, 512, 513, 514, 4416, 4417, 4418, 4419, 4420, 4421, 4422, 4423, 4424, 4425, 4426, 4427, 4428, 4429, 4430, 4431, 4432, 4433, 4434, 4435, 4436, 4437, 4438, 4439, 4440, 4441, 4442, 4443, 4444, 4445, 4446, 4447, 4448, 4449, 4450, 4451, 4452, 4453, 4454, 4455, 4456, 4457, 4458, 4459, 4460, 4461, 4462, 4463, 4464, 4465, 4466, 4467, 4468, 4469, 4470]
def wsX11_clears : List Cond := cw 471 :: wI qabW
theorem qLh : ∀ i ∈ qabW, cw i ∈ wsX11_clears := fun i h => List.mem_cons_of_mem _ (List.mem_map_of_mem h)
theorem qaon : okM 471 qabW = true := qaq (by decide +kernel)
def qayS : List Nat := [530]
def wsX11_copies : List Cond := cw 530 :: wI qayS
theorem qLw : okM 530 qayS = true := qaq (by decide +kernel)
def qaAL : List Nat := [5, 401, 402, 403, 404, 405, 406, 407, 456, 460, 512, 513, 514, 518, 519, 520, 521, 522, 523, 524, 525, 526, 527, 528, 529, 530, 4416, 4417, 4418, 4419, 4420, 4421, 4422, 4423, 4424, 4425, 4426, 4427, 4428, 4429, 4430, 4431, 4432, 4433, 4434, 4435, 4436, 4437, 4438, 4439, 4440, 4441, 4442, 4443, 4444, 4445, 4446, 4447, 4448, 4449, 4450, 4451, 4452, 4453, 4454, 4455, 4456, 4457, 4458, 4459, 4460, 4461, 4462, 4463, 4464, 4465, 4466, 4467, 4468, 4469, 4470]
def wsX11_sets : List Cond := cw 518 :: wI qaAL
theorem qm6 : ∀ i ∈ qaAL, cw i ∈ wsX11_sets := fun i h => List.mem_cons_of_mem _ (List.mem_map_of_mem h)
theorem qaL7 : okM 518 qaAL = true := qaq (by decide +kernel)
def qaSG : List Nat := [5, 6, 11, 12, 147, 396, 397, 398, 399, 400, 401, 402, 403, 404, 405, 406, 407, 448, 449, 450, 451, 452, 453, 454, 455, 456, 457, 458, 459, 460, 461, 462, 463, 464, 465, 466, 467, 468, 469, 470, 471, 512, 513, 514, 515, 516, 517, 518, 519, 520, 521, 522, 523, 524, 525, 526, 527, 528, 529, 530, 4416, 4417, 4418, 4419, 4420, 4421, 4422, 4423, 4424, 4425, 4426, 4427, 4428, 4429, 4430, 4431, 4432, 4433, 4434, 4435, 4436, 4437, 4438, 4439, 4440, 4441, 4442, 4443, 4444, 4445, 4446, 4447, 4448, 4449, 4450, 4451, 4452, 4453, 4454, 4455, 4456, 4457, 4458, 4459, 4460, 4461, 4462, 4463, 4464, 4465, 4466, 4467, 4468, 4469, 4470]
def wsX11_init : List Cond := cw 396 :: wI qaSG
theorem qcy : ∀ i ∈ qaSG, cw i ∈ wsX11_init := fun i h => List.mem_cons_of_mem _ (List.mem_map_of_mem h)
def qaVs : List Nat := [400, 588, 589, 590, 4416, 4417, 4418, 4419, 4420, 4421, 4422, 4423, 4424, 4425, 4426, 4427, 4428, 4429, 4430, 4431, 4432, 4433, 4434, 4435, 4436, 4437, 4438, 4439, 4440, 4441, 4442, 4443, 4444, 4445, 4446, 4447, 4448, 4449, 4450, 4451, 4452, 4453, 4454, 4455, 4456, 4457, 4458, 4459, 4460, 4461, 4462, 4463, 4464, 4465, 4466, 4467, 4468, 4469, 4470]
def wsX11_feed : List Cond := cw 588 :: wI qaVs
theorem q41 : ∀ i ∈ qaVs, cw i ∈ wsX11_feed := fun i h => List.mem_cons_of_mem _ (List.mem_map_of_mem h)
def qaC8 : List Nat := [1104, 1158, 4416, 4417, 4418, 4419, 4420, 4421, 4422, 4423, 4424, 4425, 4426, 4427, 4428, 4429, 4430, 4431, 4432, 4433, 4434, 4435, 4436, 4437, 4438, 4439, 4440, 4441, 4442, 4443, 4444, 4445, 4446, 4447, 4448, 4449, 4450, 4451, 4452, 4453, 4454, 4455, 4456, 4457, 4458, 4459, 4460, 4461, 4462, 4463, 4464, 4465, 4466, 4467, 4468, 4469, 4470]
def wsX11_fine : List Cond := cw 1158 :: wI qaC8
theorem qaLp : ∀ i ∈ qaC8, cw i ∈ wsX11_fine := fun i h => List.mem_cons_of_mem _ (List.mem_map_of_mem h)
theorem qsZ : okM 1158 qaC8 = true := qaq (by decide +kernel)
def qajC : List Nat := [1104, 1225, 1226, 4416, 4417, 4418, 4419, 4420, 4421, 4422, 4423, 4424, 4425, 4426, 4427, 4428, 4429, 4430, 4431, 4432, 4433, 4434, 4435, 4436, 4437, 4438, 4439, 4440, 4441, 4442, 4443, 4444, 4445, 4446, 4447, 4448, 4449, 4450, 4451, 4452, 4453, 4454, 4455, 4456, 4457, 4458, 4459, 4460, 4461, 4462, 4463, 4464, 4465, 4466, 4467, 4468, 4469, 4470]
def wsX11_wrong : List Cond := cw 1225 :: wI qajC
theorem qabe : ∀ i ∈ qajC, cw i ∈ wsX11_wrong := fun i h => List.mem_cons_of_mem _ (List.mem_map_of_mem h)
theorem qzC : okM 1225 qajC = true := qaq (by decide +kernel)
def qaEe : List Nat := [400, 1103, 1153, 1166, 4416, 4417, 4418, 4419, 4420, 4421, 4422, 4423, 4424, 4425, 4426, 4427, 4428, 4429, 4430, 4431, 4432, 4433, 4434, 4435, 4436, 4437, 4438, 4439, 4440, 4441, 4442, 4443, 4444, 4445, 4446, 4447, 4448, 4449, 4450, 4451, 4452, 4453, 4454, 4455, 4456, 4457, 4458, 4459, 4460, 4461, 4462, 4463, 4464, 4465, 4466, 4467, 4468, 4469, 4470]
def wsX11_here : List Cond := cw 1166 :: wI qaEe
theorem q4O : ∀ i ∈ qaEe, cw i ∈ wsX11_here := fun i h => List.mem_cons_of_mem _ (List.mem_map_of_mem h)
theorem qAu : okM 1166 qaEe = true := qaq (by decide +kernel)
def qaoh : List Nat := [1173]
def wsX11_isSmall : List Cond := cw 1173 :: wI qaoh
theorem qacX : okM 1173 qaoh = true := qaq (by decide +kernel)
def qaoc : List Nat := [1285]
def wsX11_isDigit : List Cond := cw 1285 :: wI qaoc
theorem qafQ : okM 1285 qaoc = true := qaq (by decide +kernel)
def qazY : List Nat := [5, 400, 1103, 1153, 1163, 1164, 1165, 1166, 1170, 1171, 1172, 1173, 4416, 4417, 4418, 4419, 4420, 4421, 4422, 4423, 4424, 4425, 4426, 4427, 4428, 4429, 4430, 4431, 4432, 4433, 4434, 4435, 4436, 4437, 4438, 4439, 4440, 4441, 4442, 4443, 4444, 4445, 4446, 4447, 4448, 4449, 4450, 4451, 4452, 4453, 4454, 4455, 4456, 4457, 4458, 4459, 4460, 4461, 4462, 4463, 4464, 4465, 4466, 4467, 4468, 4469, 4470]
def wsX11_word : List Cond := cw 1170 :: wI qazY
theorem qGt : ∀ i ∈ qazY, cw i ∈ wsX11_word := fun i h => List.mem_cons_of_mem _ (List.mem_map_of_mem h)
theorem q4Z : okM 1170 qazY = true := qaq (by decide +kernel)
def qaY3 : List Nat := [784, 785, 786, 787, 788, 789, 790, 791, 832, 833, 834, 841, 842, 843, 844, 845, 846, 847, 848, 849, 850, 851, 852, 853, 854, 855, 896, 897, 898, 899, 900, 901, 902, 903, 904, 905, 906, 907, 908, 909, 910, 911, 912, 913, 914, 915, 916, 1219, 1220, 1221]
def wsX11_of : List Cond := cw 1219 :: wI qaY3
theorem qau7 : ∀ i ∈ qaY3, cw i ∈ wsX11_of := fun i h => List.mem_cons_of_mem _ (List.mem_map_of_mem h)
theorem q4X : okM 1219 qaY3 = true := qaq (by decide +kernel)
def qaw3 : List Nat := [5, 400, 1103, 1153, 1171, 1172, 1173, 1234, 4416, 4417, 4418, 4419, 4420, 4421, 4422, 4423, 4424, 4425, 4426, 4427, 4428, 4429, 4430, 4431, 4432, 4433, 4434, 4435, 4436, 4437, 4438, 4439, 4440, 4441, 4442, 4443, 4444, 4445, 4446, 4447, 4448, 4449, 4450, 4451, 4452, 4453, 4454, 4455, 4456, 4457, 4458, 4459, 4460, 4461, 4462, 4463, 4464, 4465, 4466, 4467, 4468, 4469, 4470]
def wsX11_pass : List Cond := cw 1234 :: wI qaw3
theorem qOs : ∀ i ∈ qaw3, cw i ∈ wsX11_pass := fun i h => List.mem_cons_of_mem _ (List.mem_map_of_mem h)
theorem qaiQ : okM 1234 qaw3 = true := qaq (by decide +kernel)
def qPp : List Nat := [5, 400, 1103, 1104, 1153, 1155, 1156, 1157, 1158, 1163, 1164, 1165, 1166, 1222, 1223, 1224, 1225, 1226, 1282, 1283, 1284, 1285, 4416, 4417, 4418, 4419, 4420, 4421, 4422, 4423, 4424, 4425, 4426, 4427, 4428, 4429, 4430, 4431, 4432, 4433, 4434, 4435, 4436, 4437, 4438, 4439, 4440, 4441, 4442, 4443, 4444, 4445, 4446, 4447, 4448, 4449, 4450, 4451, 4452, 4453, 4454, 4455, 4456, 4457, 4458, 4459, 4460, 4461, 4462, 4463, 4464, 4465, 4466, 4467, 4468, 4469, 4470]
def wsX11_readNumber : List Cond := cw 1282 :: wI qPp
theorem qmZ : ∀ i ∈ qPp, cw i ∈ wsX11_readNumber := fun i h => List.mem_cons_of_mem _ (List.mem_map_of_mem h)
theorem quL : okM 1282 qPp = true := qaq (by decide +kernel)
def qaAR : List Nat := [5, 400, 1103, 1104, 1153, 1155, 1156, 1157, 1158, 1163, 1164, 1165, 1166, 1222, 1223, 1224, 1225, 1226, 1297, 4416, 4417, 4418, 4419, 4420, 4421, 4422, 4423, 4424, 4425, 4426, 4427, 4428, 4429, 4430, 4431, 4432, 4433, 4434, 4435, 4436, 4437, 4438, 4439, 4440, 4441, 4442, 4443, 4444, 4445, 4446, 4447, 4448, 4449, 4450, 4451, 4452, 4453, 4454, 4455, 4456, 4457, 4458, 4459, 4460, 4461, 4462, 4463, 4464, 4465, 4466, 4467, 4468, 4469, 4470]
def wsX11_sign : List Cond := cw 1297 :: wI qaAR
theorem qGG : ∀ i ∈ qaAR, cw i ∈ wsX11_sign := fun i h => List.mem_cons_of_mem _ (List.mem_map_of_mem h)
theorem qU8 : okM 1297 qaAR = true := qaq (by decide +kernel)
def q8K : List Nat := [5, 400, 1103, 1153, 1162, 1163, 1164, 1165, 1166, 4416, 4417, 4418, 4419, 4420, 4421, 4422, 4423, 4424, 4425, 4426, 4427, 4428, 4429, 4430, 4431, 4432, 4433, 4434, 4435, 4436, 4437, 4438, 4439, 4440, 4441, 4442, 4443, 4444, 4445, 4446, 4447, 4448, 4449, 4450, 4451, 4452, 4453, 4454, 4455, 4456, 4457, 4458, 4459, 4460, 4461, 4462, 4463, 4464, 4465, 4466, 4467, 4468, 4469, 4470]
def wsX11_isMore : List Cond := cw 1162 :: wI q8K
theorem qLv : ∀ i ∈ q8K, cw i ∈ wsX11_isMore := fun i h => List.mem_cons_of_mem _ (List.mem_map_of_mem h)
theorem qSy : okM 1162 q8K = true := qaq (by decide +kernel)
def q9M : List Nat := [399, 590, 1103, 1104, 1152, 1153, 1154, 4416, 4417, 4418, 4419, 4420, 4421, 4422, 4423, 4424, 4425, 4426, 4427, 4428, 4429, 4430, 4431, 4432, 4433, 4434, 4435, 4436, 4437, 4438, 4439, 4440, 4441, 4442, 4443, 4444, 4445, 4446, 4447, 4448, 4449, 4450, 4451, 4452, 4453, 4454, 4455, 4456, 4457, 4458, 4459, 4460, 4461, 4462, 4463, 4464, 4465, 4466, 4467, 4468, 4469, 4470]
def wsX11_begins : List Cond := cw 1152 :: wI q9M
theorem qBz : ∀ i ∈ q9M, cw i ∈ wsX11_begins := fun i h => List.mem_cons_of_mem _ (List.mem_map_of_mem h)
theorem qR8 : okM 1152 q9M = true := qaq (by decide +kernel)
def qacf : List Nat := [5, 399, 1104, 1155, 1156, 1157, 1158, 1226, 1301, 4416, 4417, 4418, 4419, 4420, 4421, 4422, 4423, 4424, 4425, 4426, 4427, 4428, 4429, 4430, 4431, 4432, 4433, 4434, 4435, 4436, 4437, 4438, 4439, 4440, 4441, 4442, 4443, 4444, 4445, 4446, 4447, 4448, 4449, 4450, 4451, 4452, 4453, 4454, 4455, 4456, 4457, 4458, 4459, 4460, 4461, 4462, 4463, 4464, 4465, 4466, 4467, 4468, 4469, 4470]
def wsX11_result : List Cond := cw 1301 :: wI qacf
theorem qGk : ∀ i ∈ qacf, cw i ∈ wsX11_result := fun i h => List.mem_cons_of_mem _ (List.mem_map_of_mem h)
theorem qR3 : okM 1301 qacf = true := qaq (by decide +kernel)
def qaLX : List Nat := [399, 589, 2496, 4416, 4417, 4418, 4419, 4420, 4421, 4422, 4423, 4424, 4425, 4426, 4427, 4428, 4429, 4430, 4431, 4432, 4433, 4434, 4435, 4436, 4437, 4438, 4439, 4440, 4441, 4442, 4443, 4444, 4445, 4446, 4447, 4448, 4449, 4450, 4451, 4452, 4453, 4454, 4455, 4456, 4457, 4458, 4459, 4460, 4461, 4462, 4463, 4464, 4465, 4466, 4467, 4468, 4469, 4470]
def wsX11_fault : List Cond := cw 2496 :: wI qaLX
theorem q9l : ∀ i ∈ qaLX, cw i ∈ wsX11_fault := fun i h => List.mem_cons_of_mem _ (List.mem_map_of_mem h)
def qWQ : List Nat := [5, 400, 513, 1103, 1104, 1153, 1155, 1156, 1157, 1158, 1163, 1164, 1165, 1166, 1222, 1223, 1224, 1225, 1226, 1239, 1280, 1281, 1282, 1283, 1284, 1285, 1293, 4416, 4417, 4418, 4419, 4420, 4421, 4422, 4423, 4424, 4425, 4426, 4427, 4428, 4429, 4430, 4431, 4432, 4433, 4434, 4435, 4436, 4437, 4438, 4439, 4440, 4441, 4442, 4443, 4444, 4445, 4446, 4447, 4448, 4449, 4450, 4451, 4452, 4453, 4454, 4455, 4456, 4457, 4458, 4459, 4460, 4461, 4462, 4463, 4464, 4465, 4466, 4467, 4468, 4469, 4470]
def wsX11_readHare : List Cond := cw 1293 :: wI qWQ
theorem qKN : ∀ i ∈ qWQ, cw i ∈ wsX11_readHare := fun i h => List.mem_cons_of_mem _ (List.mem_map_of_mem h)
theorem qaGh : okM 1293 qWQ = true := qaq (by decide +kernel)
def qYw : List Nat := [5, 400, 404, 513, 1103, 1104, 1153, 1155, 1156, 1157, 1158, 1163, 1164, 1165, 1166, 1222, 1223, 1224, 1225, 1226, 1239, 1280, 1281, 1282, 1283, 1284, 1285, 1289, 1290, 1291, 1292, 1293, 4416, 4417, 4418, 4419, 4420, 4421, 4422, 4423, 4424, 4425, 4426, 4427, 4428, 4429, 4430, 4431, 4432, 4433, 4434, 4435, 4436, 4437, 4438, 4439, 4440, 4441, 4442, 4443, 4444, 4445, 4446, 4447, 4448, 4449, 4450, 4451, 4452, 4453, 4454, 4455, 4456, 4457, 4458, 4459, 4460, 4461, 4462, 4463, 4464, 4465, 4466, 4467, 4468, 4469, 4470]
def wsX11_readDebt : List Cond := cw 1289 :: wI qYw
theorem qn9 : ∀ i ∈ qYw, cw i ∈ wsX11_readDebt := fun i h => List.mem_cons_of_mem _ (List.mem_map_of_mem h)
theorem qaJs : okM 1289 qYw = true := qaq (by decide +kernel)
def qajM : List Nat := [5, 784, 785, 786, 787, 788, 789, 790, 791, 832, 833, 834, 841, 842, 843, 844, 845, 846, 847, 848, 849, 850, 851, 852, 853, 854, 855, 896, 897, 898, 899, 900, 901, 902, 903, 904, 905, 906, 907, 908, 909, 910, 911, 912, 913, 914, 915, 916, 1216, 1217, 1218, 1219, 1220, 1221]
def wsX11_isRow : List Cond := cw 1216 :: wI qajM
theorem qays : ∀ i ∈ qajM, cw i ∈ wsX11_isRow := fun i h => List.mem_cons_of_mem _ (List.mem_map_of_mem h)
theorem qaWA : okM 1216 qajM = true := qaq (by decide +kernel)
def q98 : List Nat := [5, 512, 513, 514, 784, 785, 786, 787, 788, 789, 790, 791, 832, 833, 834, 841, 842, 843, 844, 845, 846, 847, 848, 849, 850, 851, 852, 853, 854, 855, 896, 897, 898, 899, 900, 901, 902, 903, 904, 905, 906, 907, 908, 909, 910, 911, 912, 913, 914, 915, 916, 1217, 1218, 1219, 1220, 1221, 1230, 4416, 4417, 4418, 4419, 4420, 4421, 4422, 4423, 4424, 4425, 4426, 4427, 4428, 4429, 4430, 4431, 4432, 4433, 4434, 4435, 4436, 4437, 4438, 4439, 4440, 4441, 4442, 4443, 4444, 4445, 4446, 4447, 4448, 4449, 4450, 4451, 4452, 4453, 4454, 4455, 4456, 4457, 4458, 4459, 4460, 4461, 4462, 4463, 4464, 4465, 4466, 4467, 4468, 4469, 4470]
def wsX11_isFull : List Cond := cw 1230 :: wI q98
theorem qGI : ∀ i ∈ q98, cw i ∈ wsX11_isFull := fun i h => List.mem_cons_of_mem _ (List.mem_map_of_mem h)
theorem qaUx : okM 1230 q98 = true := qaq (by decide +kernel)
def q3P : List Nat := [5, 400, 401, 402, 403, 404, 512, 513, 514, 784, 785, 786, 787, 788, 789, 790, 791, 832, 833, 834, 841, 842, 843, 844, 845, 846, 847, 848, 849, 850, 851, 852, 853, 854, 855, 896, 897, 898, 899, 900, 901, 902, 903, 904, 905, 906, 907, 908, 909, 910, 911, 912, 913, 914, 915, 916, 1103, 1104, 1153, 1155, 1156, 1157, 1158, 1163, 1164, 1165, 1166, 1217, 1218, 1219, 1220, 1221, 1222, 1223, 1224, 1225, 1226, 1238, 1239, 1280, 1281, 1282, 1283, 1284, 1285, 1286, 1287, 1288, 1289, 1290, 1291, 1292, 1293, 4416, 4417, 4418, 4419, 4420, 4421, 4422, 4423, 4424, 4425, 4426, 4427, 4428, 4429, 4430, 4431, 4432, 4433, 4434, 4435, 4436, 4437, 4438, 4439, 4440, 4441, 4442, 4443, 4444, 4445, 4446, 4447, 4448, 4449, 4450, 4451, 4452, 4453, 4454, 4455, 4456, 4457, 4458, 4459, 4460, 4461, 4462, 4463, 4464, 4465, 4466, 4467, 4468, 4469, 4470]
def wsX11_readRow : List Cond := cw 1238 :: wI q3P
theorem qpx : ∀ i ∈ q3P, cw i ∈ wsX11_readRow := fun i h => List.mem_cons_of_mem _ (List.mem_map_of_mem h)
theorem qaQo : okM 1238 q3P = true := qaq (by decide +kernel)
def qaVj : List Nat := [5, 398, 399, 400, 401, 402, 403, 404, 405, 406, 407, 456, 460, 468, 469, 470, 471, 512, 513, 514, 515, 516, 517, 518, 519, 520, 521, 522, 523, 524, 525, 526, 527, 528, 529, 530, 589, 590, 784, 785, 786, 787, 788, 789, 790, 791, 832, 833, 834, 841, 842, 843, 844, 845, 846, 847, 848, 849, 850, 851, 852, 853, 854, 855, 896, 897, 898, 899, 900, 901, 902, 903, 904, 905, 906, 907, 908, 909, 910, 911, 912, 913, 914, 915, 916, 1102, 1103, 1104, 1105, 1106, 1107, 1108, 1109, 1110, 1111, 1152, 1153, 1154, 1155, 1156, 1157, 1158, 1159, 1160, 1161, 1162, 1163, 1164, 1165, 1166, 1167, 1168, 1169, 1170, 1171, 1172, 1173, 1174, 1175, 1216, 1217, 1218, 1219, 1220, 1221, 1222, 1223, 1224, 1225, 1226, 1227, 1228, 1229, 1230, 1231, 1232, 1233, 1234, 1235, 1236, 1237, 1238, 1239, 1280, 1281, 1282, 1283, 1284, 1285, 1286, 1287, 1288, 1289, 1290, 1291, 1292, 1293, 1294, 1295, 1296, 1297, 1298, 1299, 1300, 1301, 4416, 4417, 4418, 4419, 4420, 4421, 4422, 4423, 4424, 4425, 4426, 4427, 4428, 4429, 4430, 4431, 4432, 4433, 4434, 4435, 4436, 4437, 4438, 4439, 4440, 4441, 4442, 4443, 4444, 4445, 4446, 4447, 4448, 4449, 4450, 4451, 4452, 4453, 4454, 4455, 4456, 4457, 4458, 4459, 4460, 4461, 4462, 4463, 4464, 4465, 4466, 4467, 4468, 4469, 4470]
def wsX11_down : List Cond := cw 1102 :: wI qaVj
theorem qdJ : ∀ i ∈ qaVj, cw i ∈ wsX11_down := fun i h => List.mem_cons_of_mem _ (List.mem_map_of_mem h)
def qaCj : List Nat := [5, 448, 449, 1104, 1155, 1156, 1157, 1158, 1481, 1492, 4416, 4417, 4418, 4419, 4420, 4421, 4422, 4423, 4424, 4425, 4426, 4427, 4428, 4429, 4430, 4431, 4432, 4433, 4434, 4435, 4436, 4437, 4438, 4439, 4440, 4441, 4442, 4443, 4444, 4445, 4446, 4447, 4448, 4449, 4450, 4451, 4452, 4453, 4454, 4455, 4456, 4457, 4458, 4459, 4460, 4461, 4462, 4463, 4464, 4465, 4466, 4467, 4468, 4469, 4470]
def wsX11_emit : List Cond := cw 1492 :: wI qaCj
theorem qOr : ∀ i ∈ qaCj, cw i ∈ wsX11_emit := fun i h => List.mem_cons_of_mem _ (List.mem_map_of_mem h)
theorem q4N : okM 1492 qaCj = true := qaq (by decide +kernel)
def qYy : List Nat := [5, 1103, 1104, 1154, 1155, 1156, 1157, 1158, 1222, 1223, 1224, 1225, 1226, 1541, 4416, 4417, 4418, 4419, 4420, 4421, 4422, 4423, 4424, 4425, 4426, 4427, 4428, 4429, 4430, 4431, 4432, 4433, 4434, 4435, 4436, 4437, 4438, 4439, 4440, 4441, 4442, 4443, 4444, 4445, 4446, 4447, 4448, 4449, 4450, 4451, 4452, 4453, 4454, 4455, 4456, 4457, 4458, 4459, 4460, 4461, 4462, 4463, 4464, 4465, 4466, 4467, 4468, 4469, 4470]
def wsX11_opensOne : List Cond := cw 1541 :: wI qYy
theorem qxA : ∀ i ∈ qYy, cw i ∈ wsX11_opensOne := fun i h => List.mem_cons_of_mem _ (List.mem_map_of_mem h)
theorem qTH : okM 1541 qYy = true := qaq (by decide +kernel)
def qXJ : List Nat := [5, 400, 784, 785, 786, 787, 788, 789, 790, 791, 832, 833, 834, 841, 842, 843, 844, 845, 846, 847, 848, 849, 850, 851, 852, 853, 854, 855, 896, 897, 898, 899, 900, 901, 902, 903, 904, 905, 906, 907, 908, 909, 910, 911, 912, 913, 914, 915, 916, 1103, 1153, 1163, 1164, 1165, 1166, 1167, 1168, 1169, 1170, 1171, 1172, 1173, 1217, 1218, 1219, 1220, 1221, 1549, 4416, 4417, 4418, 4419, 4420, 4421, 4422, 4423, 4424, 4425, 4426, 4427, 4428, 4429, 4430, 4431, 4432, 4433, 4434, 4435, 4436, 4437, 4438, 4439, 4440, 4441, 4442, 4443, 4444, 4445, 4446, 4447, 4448, 4449, 4450, 4451, 4452, 4453, 4454, 4455, 4456, 4457, 4458, 4459, 4460, 4461, 4462, 4463, 4464, 4465, 4466, 4467, 4468, 4469, 4470]
def wsX11_factHere : List Cond := cw 1549 :: wI qXJ
theorem qKA : ∀ i ∈ qXJ, cw i ∈ wsX11_factHere := fun i h => List.mem_cons_of_mem _ (List.mem_map_of_mem h)
theorem qaKA : okM 1549 qXJ = true := qaq (by decide +kernel)
def qM9 : List Nat := [5, 400, 448, 449, 784, 785, 786, 787, 788, 789, 790, 791, 832, 833, 834, 841, 842, 843, 844, 845, 846, 847, 848, 849, 850, 851, 852, 853, 854, 855, 896, 897, 898, 899, 900, 901, 902, 903, 904, 905, 906, 907, 908, 909, 910, 911, 912, 913, 914, 915, 916, 1103, 1104, 1153, 1154, 1155, 1156, 1157, 1158, 1163, 1164, 1165, 1166, 1167, 1168, 1169, 1170, 1171, 1172, 1173, 1217, 1218, 1219, 1220, 1221, 1222, 1223, 1224, 1225, 1226, 1231, 1232, 1233, 1234, 1239, 1280, 1281, 1282, 1283, 1284, 1285, 1294, 1295, 1296, 1297, 1481, 1482, 1483, 1484, 1485, 1486, 1487, 1488, 1489, 1490, 1491, 1492, 1493, 1494, 1495, 1536, 1537, 1538, 1539, 1540, 1541, 1542, 1543, 1544, 1545, 1546, 1547, 1548, 1549, 4416, 4417, 4418, 4419, 4420, 4421, 4422, 4423, 4424, 4425, 4426, 4427, 4428, 4429, 4430, 4431, 4432, 4433, 4434, 4435, 4436, 4437, 4438, 4439, 4440, 4441, 4442, 4443, 4444, 4445, 4446, 4447, 4448, 4449, 4450, 4451, 4452, 4453, 4454, 4455, 4456, 4457, 4458, 4459, 4460, 4461, 4462, 4463, 4464, 4465, 4466, 4467, 4468, 4469, 4470]
def wsX11_readProduct : List Cond := cw 1493 :: wI qM9
theorem qkE : ∀ i ∈ qM9, cw i ∈ wsX11_readProduct := fun i h => List.mem_cons_of_mem _ (List.mem_map_of_mem h)
theorem qaml : okM 1493 qM9 = true := qaq (by decide +kernel)
def q1I : List Nat := [5, 400, 448, 449, 784, 785, 786, 787, 788, 789, 790, 791, 832, 833, 834, 841, 842, 843, 844, 845, 846, 847, 848, 849, 850, 851, 852, 853, 854, 855, 896, 897, 898, 899, 900, 901, 902, 903, 904, 905, 906, 907, 908, 909, 910, 911, 912, 913, 914, 915, 916, 1103, 1104, 1153, 1154, 1155, 1156, 1157, 1158, 1163, 1164, 1165, 1166, 1167, 1168, 1169, 1170, 1171, 1172, 1173, 1217, 1218, 1219, 1220, 1221, 1222, 1223, 1224, 1225, 1226, 1231, 1232, 1233, 1234, 1239, 1280, 1281, 1282, 1283, 1284, 1285, 1294, 1295, 1296, 1297, 1481, 1482, 1483, 1484, 1485, 1486, 1487, 1488, 1489, 1490, 1491, 1492, 1493, 1494, 1495, 1536, 1537, 1538, 1539, 1540, 1541, 1542, 1543, 1544, 1545, 1546, 1547, 1548, 1549, 4416, 4417, 4418, 4419, 4420, 4421, 4422, 4423, 4424, 4425, 4426, 4427, 4428, 4429, 4430, 4431, 4432, 4433, 4434, 4435, 4436, 4437, 4438, 4439, 4440, 4441, 4442, 4443, 4444, 4445, 4446, 4447, 4448, 4449, 4450, 4451, 4452, 4453, 4454, 4455, 4456, 4457, 4458, 4459, 4460, 4461, 4462, 4463, 4464, 4465, 4466, 4467, 4468, 4469, 4470]
def wsX11_readSum : List Cond := cw 1485 :: wI q1I
theorem qqM : ∀ i ∈ q1I, cw i ∈ wsX11_readSum := fun i h => List.mem_cons_of_mem _ (List.mem_map_of_mem h)
theorem qW8 : okM 1485 q1I = true := qaq (by decide +kernel)
def q1L : List Nat := [5, 400, 448, 449, 784, 785, 786, 787, 788, 789, 790, 791, 832, 833, 834, 841, 842, 843, 844, 845, 846, 847, 848, 849, 850, 851, 852, 853, 854, 855, 896, 897, 898, 899, 900, 901, 902, 903, 904, 905, 906, 907, 908, 909, 910, 911, 912, 913, 914, 915, 916, 1103, 1104, 1153, 1154, 1155, 1156, 1157, 1158, 1163, 1164, 1165, 1166, 1167, 1168, 1169, 1170, 1171, 1172, 1173, 1217, 1218, 1219, 1220, 1221, 1222, 1223, 1224, 1225, 1226, 1231, 1232, 1233, 1234, 1239, 1280, 1281, 1282, 1283, 1284, 1285, 1294, 1295, 1296, 1297, 1481, 1482, 1483, 1484, 1485, 1486, 1487, 1488, 1489, 1490, 1491, 1492, 1493, 1494, 1495, 1536, 1537, 1538, 1539, 1540, 1541, 1542, 1543, 1544, 1545, 1546, 1547, 1548, 1549, 4416, 4417, 4418, 4419, 4420, 4421, 4422, 4423, 4424, 4425, 4426, 4427, 4428, 4429, 4430, 4431, 4432, 4433, 4434, 4435, 4436, 4437, 4438, 4439, 4440, 4441, 4442, 4443, 4444, 4445, 4446, 4447, 4448, 4449, 4450, 4451, 4452, 4453, 4454, 4455, 4456, 4457, 4458, 4459, 4460, 4461, 4462, 4463, 4464, 4465, 4466, 4467, 4468, 4469, 4470]
def wsX11_readTwo : List Cond := cw 1537 :: wI q1L
theorem qtL : ∀ i ∈ q1L, cw i ∈ wsX11_readTwo := fun i h => List.mem_cons_of_mem _ (List.mem_map_of_mem h)
theorem qaRQ : okM 1537 q1L = true := qaq (by decide +kernel)
def qYj : List Nat := [5, 400, 448, 449, 784, 785, 786, 787, 788, 789, 790, 791, 832, 833, 834, 841, 842, 843, 844, 845, 846, 847, 848, 849, 850, 851, 852, 853, 854, 855, 896, 897, 898, 899, 900, 901, 902, 903, 904, 905, 906, 907, 908, 909, 910, 911, 912, 913, 914, 915, 916, 1103, 1104, 1153, 1154, 1155, 1156, 1157, 1158, 1163, 1164, 1165, 1166, 1167, 1168, 1169, 1170, 1171, 1172, 1173, 1217, 1218, 1219, 1220, 1221, 1222, 1223, 1224, 1225, 1226, 1231, 1232, 1233, 1234, 1239, 1280, 1281, 1282, 1283, 1284, 1285, 1294, 1295, 1296, 1297, 1481, 1482, 1483, 1484, 1485, 1486, 1487, 1488, 1489, 1490, 1491, 1492, 1493, 1494, 1495, 1536, 1537, 1538, 1539, 1540, 1541, 1542, 1543, 1544, 1545, 1546, 1547, 1548, 1549, 4416, 4417, 4418, 4419, 4420, 4421, 4422, 4423, 4424, 4425, 4426, 4427, 4428, 4429, 4430, 4431, 4432, 4433, 4434, 4435, 4436, 4437, 4438, 4439, 4440, 4441, 4442, 4443, 4444, 4445, 4446, 4447, 4448, 4449, 4450, 4451, 4452, 4453, 4454, 4455, 4456, 4457, 4458, 4459, 4460, 4461, 4462, 4463, 4464, 4465, 4466, 4467, 4468, 4469, 4470]
def wsX11_readUnit : List Cond := cw 1542 :: wI qYj
theorem qbJ : ∀ i ∈ qYj, cw i ∈ wsX11_readUnit := fun i h => List.mem_cons_of_mem _ (List.mem_map_of_mem h)
theorem qaII : okM 1542 qYj = true := qaq (by decide +kernel)
def qa06 : List Nat := [5, 398, 399, 400, 448, 449, 450, 451, 522, 527, 528, 529, 530, 589, 590, 784, 785, 786, 787, 788, 789, 790, 791, 832, 833, 834, 841, 842, 843, 844, 845, 846, 847, 848, 849, 850, 851, 852, 853, 854, 855, 896, 897, 898, 899, 900, 901, 902, 903, 904, 905, 906, 907, 908, 909, 910, 911, 912, 913, 914, 915, 916, 1103, 1104, 1105, 1106, 1107, 1108, 1109, 1110, 1111, 1152, 1153, 1154, 1155, 1156, 1157, 1158, 1159, 1160, 1161, 1162, 1163, 1164, 1165, 1166, 1167, 1168, 1169, 1170, 1171, 1172, 1173, 1217, 1218, 1219, 1220, 1221, 1222, 1223, 1224, 1225, 1226, 1231, 1232, 1233, 1234, 1239, 1280, 1281, 1282, 1283, 1284, 1285, 1294, 1295, 1296, 1297, 1298, 1299, 1300, 1301, 1480, 1481, 1482, 1483, 1484, 1485, 1486, 1487, 1488, 1489, 1490, 1491, 1492, 1493, 1494, 1495, 1536, 1537, 1538, 1539, 1540, 1541, 1542, 1543, 1544, 1545, 1546, 1547, 1548, 1549, 4416, 4417, 4418, 4419, 4420, 4421, 4422, 4423, 4424, 4425, 4426, 4427, 4428, 4429, 4430, 4431, 4432, 4433, 4434, 4435, 4436, 4437, 4438, 4439, 4440, 4441, 4442, 4443, 4444, 4445, 4446, 4447, 4448, 4449, 4450, 4451, 4452, 4453, 4454, 4455, 4456, 4457, 4458, 4459, 4460, 4461, 4462, 4463, 4464, 4465, 4466, 4467, 4468, 4469, 4470]
def wsX11_law : List Cond := cw 1480 :: wI qa06
theorem qng : ∀ i ∈ qa06, cw i ∈ wsX11_law := fun i h => List.mem_cons_of_mem _ (List.mem_map_of_mem h)
def qaV4 : List Nat := [2314]
def wsX11_both : List Cond := cw 2314 :: wI qaV4
theorem qa1V : okM 2314 qaV4 = true := qaq (by decide +kernel)
def qYz : List Nat := [5, 450, 451, 452, 453, 522, 2311, 2312, 2313, 2314, 4416, 4417, 4418, 4419, 4420, 4421, 4422, 4423, 4424, 4425, 4426, 4427, 4428, 4429, 4430, 4431, 4432, 4433, 4434, 4435, 4436, 4437, 4438, 4439, 4440, 4441, 4442, 4443, 4444, 4445, 4446, 4447, 4448, 4449, 4450, 4451, 4452, 4453, 4454, 4455, 4456, 4457, 4458, 4459, 4460, 4461, 4462, 4463, 4464, 4465, 4466, 4467, 4468, 4469, 4470]
def wsX11_valueNow : List Cond := cw 2311 :: wI qYz
theorem qvh : ∀ i ∈ qYz, cw i ∈ wsX11_valueNow := fun i h => List.mem_cons_of_mem _ (List.mem_map_of_mem h)
theorem qaJ3 : okM 2311 qYz = true := qaq (by decide +kernel)
def q1M : List Nat := [5, 450, 451, 452, 453, 522, 2307, 2308, 2309, 2310, 2311, 2312, 2313, 2314, 4416, 4417, 4418, 4419, 4420, 4421, 4422, 4423, 4424, 4425, 4426, 4427, 4428, 4429, 4430, 4431, 4432, 4433, 4434, 4435, 4436, 4437, 4438, 4439, 4440, 4441, 4442, 4443, 4444, 4445, 4446, 4447, 4448, 4449, 4450, 4451, 4452, 4453, 4454, 4455, 4456, 4457, 4458, 4459, 4460, 4461, 4462, 4463, 4464, 4465, 4466, 4467, 4468, 4469, 4470]
def wsX11_leapNow : List Cond := cw 2307 :: wI q1M
theorem qHn : ∀ i ∈ q1M, cw i ∈ wsX11_leapNow := fun i h => List.mem_cons_of_mem _ (List.mem_map_of_mem h)
theorem qaOl : okM 2307 q1M = true := qaq (by decide +kernel)
def qUo : List Nat := [5, 454, 1104, 1155, 1156, 1157, 1158, 2114, 2125, 4416, 4417, 4418, 4419, 4420, 4421, 4422, 4423, 4424, 4425, 4426, 4427, 4428, 4429, 4430, 4431, 4432, 4433, 4434, 4435, 4436, 4437, 4438, 4439, 4440, 4441, 4442, 4443, 4444, 4445, 4446, 4447, 4448, 4449, 4450, 4451, 4452, 4453, 4454, 4455, 4456, 4457, 4458, 4459, 4460, 4461, 4462, 4463, 4464, 4465, 4466, 4467, 4468, 4469, 4470]
def wsX11_tellsStep : List Cond := cw 2125 :: wI qUo
theorem qCi : ∀ i ∈ qUo, cw i ∈ wsX11_tellsStep := fun i h => List.mem_cons_of_mem _ (List.mem_map_of_mem h)
theorem qazk : okM 2125 qUo = true := qaq (by decide +kernel)
def qRf : List Nat := [5, 400, 520, 1103, 1104, 1153, 1155, 1156, 1157, 1158, 1163, 1164, 1165, 1166, 1222, 1223, 1224, 1225, 1226, 1239, 1280, 1281, 1282, 1283, 1284, 1285, 2129, 4416, 4417, 4418, 4419, 4420, 4421, 4422, 4423, 4424, 4425, 4426, 4427, 4428, 4429, 4430, 4431, 4432, 4433, 4434, 4435, 4436, 4437, 4438, 4439, 4440, 4441, 4442, 4443, 4444, 4445, 4446, 4447, 4448, 4449, 4450, 4451, 4452, 4453, 4454, 4455, 4456, 4457, 4458, 4459, 4460, 4461, 4462, 4463, 4464, 4465, 4466, 4467, 4468, 4469, 4470]
def wsX11_readLiving : List Cond := cw 2129 :: wI qRf
theorem qEz : ∀ i ∈ qRf, cw i ∈ wsX11_readLiving := fun i h => List.mem_cons_of_mem _ (List.mem_map_of_mem h)
theorem qaua : okM 2129 qRf = true := qaq (by decide +kernel)
def qWv : List Nat := [5, 400, 454, 519, 520, 784, 785, 786, 787, 788, 789, 790, 791, 832, 833, 834, 841, 842, 843, 844, 845, 846, 847, 848, 849, 850, 851, 852, 853, 854, 855, 896, 897, 898, 899, 900, 901, 902, 903, 904, 905, 906, 907, 908, 909, 910, 911, 912, 913, 914, 915, 916, 1103, 1104, 1153, 1154, 1155, 1156, 1157, 1158, 1163, 1164, 1165, 1166, 1167, 1168, 1169, 1170, 1171, 1172, 1173, 1217, 1218, 1219, 1220, 1221, 1222, 1223, 1224, 1225, 1226, 1231, 1232, 1233, 1234, 1239, 1280, 1281, 1282, 1283, 1284, 1285, 1294, 1295, 1296, 1297, 1538, 1539, 1540, 1541, 2114, 2118, 2119, 2120, 2121, 2122, 2123, 2124, 2125, 2126, 2127, 2128, 2129, 4416, 4417, 4418, 4419, 4420, 4421, 4422, 4423, 4424, 4425, 4426, 4427, 4428, 4429, 4430, 4431, 4432, 4433, 4434, 4435, 4436, 4437, 4438, 4439, 4440, 4441, 4442, 4443, 4444, 4445, 4446, 4447, 4448, 4449, 4450, 4451, 4452, 4453, 4454, 4455, 4456, 4457, 4458, 4459, 4460, 4461, 4462, 4463, 4464, 4465, 4466, 4467, 4468, 4469, 4470]
def wsX11_readStep : List Cond := cw 2121 :: wI qWv
theorem qbv : ∀ i ∈ qWv, cw i ∈ wsX11_readStep := fun i h => List.mem_cons_of_mem _ (List.mem_map_of_mem h)
theorem q7e : okM 2121 qWv = true := qaq (by decide +kernel)
def qawN : List Nat := [5, 456, 457, 527, 528, 529, 530, 2133, 4416, 4417, 4418, 4419, 4420, 4421, 4422, 4423, 4424, 4425, 4426, 4427, 4428, 4429, 4430, 4431, 4432, 4433, 4434, 4435, 4436, 4437, 4438, 4439, 4440, 4441, 4442, 4443, 4444, 4445, 4446, 4447, 4448, 4449, 4450, 4451, 4452, 4453, 4454, 4455, 4456, 4457, 4458, 4459, 4460, 4461, 4462, 4463, 4464, 4465, 4466, 4467, 4468, 4469, 4470]
def wsX11_take : List Cond := cw 2133 :: wI qawN
theorem qVJ : ∀ i ∈ qawN, cw i ∈ wsX11_take := fun i h => List.mem_cons_of_mem _ (List.mem_map_of_mem h)
theorem qtm : okM 2133 qawN = true := qaq (by decide +kernel)
def qXW : List Nat := [457, 2193, 4416, 4417, 4418, 4419, 4420, 4421, 4422, 4423, 4424, 4425, 4426, 4427, 4428, 4429, 4430, 4431, 4432, 4433, 4434, 4435, 4436, 4437, 4438, 4439, 4440, 4441, 4442, 4443, 4444, 4445, 4446, 4447, 4448, 4449, 4450, 4451, 4452, 4453, 4454, 4455, 4456, 4457, 4458, 4459, 4460, 4461, 4462, 4463, 4464, 4465, 4466, 4467, 4468, 4469, 4470]
def wsX11_isCaught : List Cond := cw 2193 :: wI qXW
theorem q7o : ∀ i ∈ qXW, cw i ∈ wsX11_isCaught := fun i h => List.mem_cons_of_mem _ (List.mem_map_of_mem h)
theorem qnl : okM 2193 qXW = true := qaq (by decide +kernel)
def qaUI : List Nat := [2240]
def wsX11_size : List Cond := cw 2240 :: wI qaUI
theorem qaMd : okM 2240 qaUI = true := qaq (by decide +kernel)
def qaiI : List Nat := [5, 405, 2197, 2198, 2199, 2240, 4416, 4417, 4418, 4419, 4420, 4421, 4422, 4423, 4424, 4425, 4426, 4427, 4428, 4429, 4430, 4431, 4432, 4433, 4434, 4435, 4436, 4437, 4438, 4439, 4440, 4441, 4442, 4443, 4444, 4445, 4446, 4447, 4448, 4449, 4450, 4451, 4452, 4453, 4454, 4455, 4456, 4457, 4458, 4459, 4460, 4461, 4462, 4463, 4464, 4465, 4466, 4467, 4468, 4469, 4470]
def wsX11_farOf : List Cond := cw 2197 :: wI qaiI
theorem qX4 : ∀ i ∈ qaiI, cw i ∈ wsX11_farOf := fun i h => List.mem_cons_of_mem _ (List.mem_map_of_mem h)
theorem qFN : okM 2197 qaiI = true := qaq (by decide +kernel)
def qawA : List Nat := [457, 520, 2248, 4416, 4417, 4418, 4419, 4420, 4421, 4422, 4423, 4424, 4425, 4426, 4427, 4428, 4429, 4430, 4431, 4432, 4433, 4434, 4435, 4436, 4437, 4438, 4439, 4440, 4441, 4442, 4443, 4444, 4445, 4446, 4447, 4448, 4449, 4450, 4451, 4452, 4453, 4454, 4455, 4456, 4457, 4458, 4459, 4460, 4461, 4462, 4463, 4464, 4465, 4466, 4467, 4468, 4469, 4470]
def wsX11_owes : List Cond := cw 2248 :: wI qawA
theorem qak5 : ∀ i ∈ qawA, cw i ∈ wsX11_owes := fun i h => List.mem_cons_of_mem _ (List.mem_map_of_mem h)
theorem qaLd : okM 2248 qawA = true := qaq (by decide +kernel)
def qaag : List Nat := [457, 520, 2252, 4416, 4417, 4418, 4419, 4420, 4421, 4422, 4423, 4424, 4425, 4426, 4427, 4428, 4429, 4430, 4431, 4432, 4433, 4434, 4435, 4436, 4437, 4438, 4439, 4440, 4441, 4442, 4443, 4444, 4445, 4446, 4447, 4448, 4449, 4450, 4451, 4452, 4453, 4454, 4455, 4456, 4457, 4458, 4459, 4460, 4461, 4462, 4463, 4464, 4465, 4466, 4467, 4468, 4469, 4470]
def wsX11_isOwed : List Cond := cw 2252 :: wI qaag
theorem q1P : ∀ i ∈ qaag, cw i ∈ wsX11_isOwed := fun i h => List.mem_cons_of_mem _ (List.mem_map_of_mem h)
theorem qRz : okM 2252 qaag = true := qaq (by decide +kernel)
def qak2 : List Nat := [457, 520, 2256, 4416, 4417, 4418, 4419, 4420, 4421, 4422, 4423, 4424, 4425, 4426, 4427, 4428, 4429, 4430, 4431, 4432, 4433, 4434, 4435, 4436, 4437, 4438, 4439, 4440, 4441, 4442, 4443, 4444, 4445, 4446, 4447, 4448, 4449, 4450, 4451, 4452, 4453, 4454, 4455, 4456, 4457, 4458, 4459, 4460, 4461, 4462, 4463, 4464, 4465, 4466, 4467, 4468, 4469, 4470]
def wsX11_sitIn : List Cond := cw 2256 :: wI qak2
theorem qabQ : ∀ i ∈ qak2, cw i ∈ wsX11_sitIn := fun i h => List.mem_cons_of_mem _ (List.mem_map_of_mem h)
theorem qaau : okM 2256 qak2 = true := qaq (by decide +kernel)
def qaVL : List Nat := [2259]
def wsX11_ones : List Cond := cw 2259 :: wI qaVL
theorem qakr : okM 2259 qaVL = true := qaq (by decide +kernel)
def q9g : List Nat := [5, 450, 451, 452, 453, 522, 2263, 2304, 2305, 2306, 2307, 2308, 2309, 2310, 2311, 2312, 2313, 2314, 4416, 4417, 4418, 4419, 4420, 4421, 4422, 4423, 4424, 4425, 4426, 4427, 4428, 4429, 4430, 4431, 4432, 4433, 4434, 4435, 4436, 4437, 4438, 4439, 4440, 4441, 4442, 4443, 4444, 4445, 4446, 4447, 4448, 4449, 4450, 4451, 4452, 4453, 4454, 4455, 4456, 4457, 4458, 4459, 4460, 4461, 4462, 4463, 4464, 4465, 4466, 4467, 4468, 4469, 4470]
def wsX11_leapOf : List Cond := cw 2263 :: wI q9g
theorem qSS : ∀ i ∈ q9g, cw i ∈ wsX11_leapOf := fun i h => List.mem_cons_of_mem _ (List.mem_map_of_mem h)
theorem qaoz : okM 2263 q9g = true := qaq (by decide +kernel)
def q81 : List Nat := [5, 450, 451, 452, 453, 457, 520, 522, 2190, 2191, 2192, 2193, 2244, 2245, 2246, 2247, 2248, 2249, 2250, 2251, 2252, 2253, 2254, 2255, 2256, 2257, 2258, 2259, 2260, 2261, 2262, 2263, 2304, 2305, 2306, 2307, 2308, 2309, 2310, 2311, 2312, 2313, 2314, 4416, 4417, 4418, 4419, 4420, 4421, 4422, 4423, 4424, 4425, 4426, 4427, 4428, 4429, 4430, 4431, 4432, 4433, 4434, 4435, 4436, 4437, 4438, 4439, 4440, 4441, 4442, 4443, 4444, 4445, 4446, 4447, 4448, 4449, 4450, 4451, 4452, 4453, 4454, 4455, 4456, 4457, 4458, 4459, 4460, 4461, 4462, 4463, 4464, 4465, 4466, 4467, 4468, 4469, 4470]
def wsX11_leapBy : List Cond := cw 2244 :: wI q81
theorem qqe : ∀ i ∈ q81, cw i ∈ wsX11_leapBy := fun i h => List.mem_cons_of_mem _ (List.mem_map_of_mem h)
theorem q2i : okM 2244 q81 = true := qaq (by decide +kernel)
def q0R : List Nat := [5, 405, 450, 451, 452, 453, 457, 520, 522, 2189, 2190, 2191, 2192, 2193, 2194, 2195, 2196, 2197, 2198, 2199, 2240, 2241, 2242, 2243, 2244, 2245, 2246, 2247, 2248, 2249, 2250, 2251, 2252, 2253, 2254, 2255, 2256, 2257, 2258, 2259, 2260, 2261, 2262, 2263, 2304, 2305, 2306, 2307, 2308, 2309, 2310, 2311, 2312, 2313, 2314, 4416, 4417, 4418, 4419, 4420, 4421, 4422, 4423, 4424, 4425, 4426, 4427, 4428, 4429, 4430, 4431, 4432, 4433, 4434, 4435, 4436, 4437, 4438, 4439, 4440, 4441, 4442, 4443, 4444, 4445, 4446, 4447, 4448, 4449, 4450, 4451, 4452, 4453, 4454, 4455, 4456, 4457, 4458, 4459, 4460, 4461, 4462, 4463, 4464, 4465, 4466, 4467, 4468, 4469, 4470]
def wsX11_canLeap : List Cond := cw 2189 :: wI q0R
theorem qwN : ∀ i ∈ q0R, cw i ∈ wsX11_canLeap := fun i h => List.mem_cons_of_mem _ (List.mem_map_of_mem h)
theorem qXD : okM 2189 q0R = true := qaq (by decide +kernel)
def q1Z : List Nat := [5, 405, 450, 451, 452, 453, 457, 520, 522, 2185, 2186, 2187, 2188, 2189, 2190, 2191, 2192, 2193, 2194, 2195, 2196, 2197, 2198, 2199, 2240, 2241, 2242, 2243, 2244, 2245, 2246, 2247, 2248, 2249, 2250, 2251, 2252, 2253, 2254, 2255, 2256, 2257, 2258, 2259, 2260, 2261, 2262, 2263, 2304, 2305, 2306, 2307, 2308, 2309, 2310, 2311, 2312, 2313, 2314, 4416, 4417, 4418, 4419, 4420, 4421, 4422, 4423, 4424, 4425, 4426, 4427, 4428, 4429, 4430, 4431, 4432, 4433, 4434, 4435, 4436, 4437, 4438, 4439, 4440, 4441, 4442, 4443, 4444, 4445, 4446, 4447, 4448, 4449, 4450, 4451, 4452, 4453, 4454, 4455, 4456, 4457, 4458, 4459, 4460, 4461, 4462, 4463, 4464, 4465, 4466, 4467, 4468, 4469, 4470]
def wsX11_leapsTo : List Cond := cw 2185 :: wI q1Z
theorem qOa : ∀ i ∈ q1Z, cw i ∈ wsX11_leapsTo := fun i h => List.mem_cons_of_mem _ (List.mem_map_of_mem h)
theorem qafy : okM 2185 q1Z = true := qaq (by decide +kernel)
def qanL : List Nat := [5, 457, 2190, 2191, 2192, 2193, 2318, 4416, 4417, 4418, 4419, 4420, 4421, 4422, 4423, 4424, 4425, 4426, 4427, 4428, 4429, 4430, 4431, 4432, 4433, 4434, 4435, 4436, 4437, 4438, 4439, 4440, 4441, 4442, 4443, 4444, 4445, 4446, 4447, 4448, 4449, 4450, 4451, 4452, 4453, 4454, 4455, 4456, 4457, 4458, 4459, 4460, 4461, 4462, 4463, 4464, 4465, 4466, 4467, 4468, 4469, 4470]
def wsX11_boxes : List Cond := cw 2318 :: wI qanL
theorem qYe : ∀ i ∈ qanL, cw i ∈ wsX11_boxes := fun i h => List.mem_cons_of_mem _ (List.mem_map_of_mem h)
theorem qaEc : okM 2318 qanL = true := qaq (by decide +kernel)
def qazN : List Nat := [5, 457, 2190, 2191, 2192, 2193, 2322, 4416, 4417, 4418, 4419, 4420, 4421, 4422, 4423, 4424, 4425, 4426, 4427, 4428, 4429, 4430, 4431, 4432, 4433, 4434, 4435, 4436, 4437, 4438, 4439, 4440, 4441, 4442, 4443, 4444, 4445, 4446, 4447, 4448, 4449, 4450, 4451, 4452, 4453, 4454, 4455, 4456, 4457, 4458, 4459, 4460, 4461, 4462, 4463, 4464, 4465, 4466, 4467, 4468, 4469, 4470]
def wsX11_pays : List Cond := cw 2322 :: wI qazN
theorem q5i : ∀ i ∈ qazN, cw i ∈ wsX11_pays := fun i h => List.mem_cons_of_mem _ (List.mem_map_of_mem h)
theorem qa1p : okM 2322 qazN = true := qaq (by decide +kernel)
def qacm : List Nat := [5, 405, 407, 521, 2198, 2199, 2240, 2378, 4416, 4417, 4418, 4419, 4420, 4421, 4422, 4423, 4424, 4425, 4426, 4427, 4428, 4429, 4430, 4431, 4432, 4433, 4434, 4435, 4436, 4437, 4438, 4439, 4440, 4441, 4442, 4443, 4444, 4445, 4446, 4447, 4448, 4449, 4450, 4451, 4452, 4453, 4454, 4455, 4456, 4457, 4458, 4459, 4460, 4461, 4462, 4463, 4464, 4465, 4466, 4467, 4468, 4469, 4470]
def wsX11_isSafe : List Cond := cw 2378 :: wI qacm
theorem qGc : ∀ i ∈ qacm, cw i ∈ wsX11_isSafe := fun i h => List.mem_cons_of_mem _ (List.mem_map_of_mem h)
theorem qSh : okM 2378 qacm = true := qaq (by decide +kernel)
def qHJ : List Nat := [5, 405, 407, 457, 521, 2190, 2191, 2192, 2193, 2198, 2199, 2240, 2374, 2375, 2376, 2377, 2378, 4416, 4417, 4418, 4419, 4420, 4421, 4422, 4423, 4424, 4425, 4426, 4427, 4428, 4429, 4430, 4431, 4432, 4433, 4434, 4435, 4436, 4437, 4438, 4439, 4440, 4441, 4442, 4443, 4444, 4445, 4446, 4447, 4448, 4449, 4450, 4451, 4452, 4453, 4454, 4455, 4456, 4457, 4458, 4459, 4460, 4461, 4462, 4463, 4464, 4465, 4466, 4467, 4468, 4469, 4470]
def wsX11_wouldBeCaught : List Cond := cw 2374 :: wI qHJ
theorem qs1 : ∀ i ∈ qHJ, cw i ∈ wsX11_wouldBeCaught := fun i h => List.mem_cons_of_mem _ (List.mem_map_of_mem h)
theorem qQh : okM 2374 qHJ = true := qaq (by decide +kernel)
def q1c : List Nat := [5, 405, 406, 407, 457, 520, 521, 2190, 2191, 2192, 2193, 2198, 2199, 2240, 2370, 2371, 2372, 2373, 2374, 2375, 2376, 2377, 2378, 4416, 4417, 4418, 4419, 4420, 4421, 4422, 4423, 4424, 4425, 4426, 4427, 4428, 4429, 4430, 4431, 4432, 4433, 4434, 4435, 4436, 4437, 4438, 4439, 4440, 4441, 4442, 4443, 4444, 4445, 4446, 4447, 4448, 4449, 4450, 4451, 4452, 4453, 4454, 4455, 4456, 4457, 4458, 4459, 4460, 4461, 4462, 4463, 4464, 4465, 4466, 4467, 4468, 4469, 4470]
def wsX11_strokes : List Cond := cw 2370 :: wI q1c
theorem qwS : ∀ i ∈ q1c, cw i ∈ wsX11_strokes := fun i h => List.mem_cons_of_mem _ (List.mem_map_of_mem h)
theorem qaQH : okM 2370 q1c = true := qaq (by decide +kernel)
def qacd : List Nat := [5, 405, 406, 407, 457, 520, 521, 2190, 2191, 2192, 2193, 2198, 2199, 2240, 2326, 2327, 2368, 2369, 2370, 2371, 2372, 2373, 2374, 2375, 2376, 2377, 2378, 4416, 4417, 4418, 4419, 4420, 4421, 4422, 4423, 4424, 4425, 4426, 4427, 4428, 4429, 4430, 4431, 4432, 4433, 4434, 4435, 4436, 4437, 4438, 4439, 4440, 4441, 4442, 4443, 4444, 4445, 4446, 4447, 4448, 4449, 4450, 4451, 4452, 4453, 4454, 4455, 4456, 4457, 4458, 4459, 4460, 4461, 4462, 4463, 4464, 4465, 4466, 4467, 4468, 4469, 4470]
def wsX11_passes : List Cond := cw 2326 :: wI qacd
theorem qCf : ∀ i ∈ qacd, cw i ∈ wsX11_passes := fun i h => List.mem_cons_of_mem _ (List.mem_map_of_mem h)
theorem q3t : okM 2326 qacd = true := qaq (by decide +kernel)
def qaaN : List Nat := [5, 405, 406, 407, 450, 451, 452, 453, 457, 520, 521, 522, 2181, 2182, 2183, 2184, 2185, 2186, 2187, 2188, 2189, 2190, 2191, 2192, 2193, 2194, 2195, 2196, 2197, 2198, 2199, 2240, 2241, 2242, 2243, 2244, 2245, 2246, 2247, 2248, 2249, 2250, 2251, 2252, 2253, 2254, 2255, 2256, 2257, 2258, 2259, 2260, 2261, 2262, 2263, 2304, 2305, 2306, 2307, 2308, 2309, 2310, 2311, 2312, 2313, 2314, 2315, 2316, 2317, 2318, 2319, 2320, 2321, 2322, 2323, 2324, 2325, 2326, 2327, 2368, 2369, 2370, 2371, 2372, 2373, 2374, 2375, 2376, 2377, 2378, 4416, 4417, 4418, 4419, 4420, 4421, 4422, 4423, 4424, 4425, 4426, 4427, 4428, 4429, 4430, 4431, 4432, 4433, 4434, 4435, 4436, 4437, 4438, 4439, 4440, 4441, 4442, 4443, 4444, 4445, 4446, 4447, 4448, 4449, 4450, 4451, 4452, 4453, 4454, 4455, 4456, 4457, 4458, 4459, 4460, 4461, 4462, 4463, 4464, 4465, 4466, 4467, 4468, 4469, 4470]
def wsX11_isDone : List Cond := cw 2181 :: wI qaaN
theorem qvp : ∀ i ∈ qaaN, cw i ∈ wsX11_isDone := fun i h => List.mem_cons_of_mem _ (List.mem_map_of_mem h)
theorem qaU5 : okM 2181 qaaN = true := qaq (by decide +kernel)
def qS3 : List Nat := [5, 405, 406, 407, 450, 451, 452, 453, 455, 457, 520, 521, 522, 2115, 2116, 2117, 2134, 2135, 2176, 2177, 2178, 2179, 2180, 2181, 2182, 2183, 2184, 2185, 2186, 2187, 2188, 2189, 2190, 2191, 2192, 2193, 2194, 2195, 2196, 2197, 2198, 2199, 2240, 2241, 2242, 2243, 2244, 2245, 2246, 2247, 2248, 2249, 2250, 2251, 2252, 2253, 2254, 2255, 2256, 2257, 2258, 2259, 2260, 2261, 2262, 2263, 2304, 2305, 2306, 2307, 2308, 2309, 2310, 2311, 2312, 2313, 2314, 2315, 2316, 2317, 2318, 2319, 2320, 2321, 2322, 2323, 2324, 2325, 2326, 2327, 2368, 2369, 2370, 2371, 2372, 2373, 2374, 2375, 2376, 2377, 2378, 4416, 4417, 4418, 4419, 4420, 4421, 4422, 4423, 4424, 4425, 4426, 4427, 4428, 4429, 4430, 4431, 4432, 4433, 4434, 4435, 4436, 4437, 4438, 4439, 4440, 4441, 4442, 4443, 4444, 4445, 4446, 4447, 4448, 4449, 4450, 4451, 4452, 4453, 4454, 4455, 4456, 4457, 4458, 4459, 4460, 4461, 4462, 4463, 4464, 4465, 4466, 4467, 4468, 4469, 4470]
def wsX11_goesSteps : List Cond := cw 2177 :: wI qS3
theorem qkS : ∀ i ∈ qS3, cw i ∈ wsX11_goesSteps := fun i h => List.mem_cons_of_mem _ (List.mem_map_of_mem h)
theorem q3z : okM 2177 qS3 = true := qaq (by decide +kernel)
def qaVC : List Nat := [5, 398, 399, 400, 405, 406, 407, 450, 451, 452, 453, 454, 455, 456, 457, 458, 519, 520, 521, 522, 524, 526, 527, 528, 529, 530, 589, 590, 784, 785, 786, 787, 788, 789, 790, 791, 832, 833, 834, 841, 842, 843, 844, 845, 846, 847, 848, 849, 850, 851, 852, 853, 854, 855, 896, 897, 898, 899, 900, 901, 902, 903, 904, 905, 906, 907, 908, 909, 910, 911, 912, 913, 914, 915, 916, 1103, 1104, 1105, 1106, 1107, 1108, 1109, 1110, 1111, 1152, 1153, 1154, 1155, 1156, 1157, 1158, 1159, 1160, 1161, 1162, 1163, 1164, 1165, 1166, 1167, 1168, 1169, 1170, 1171, 1172, 1173, 1217, 1218, 1219, 1220, 1221, 1222, 1223, 1224, 1225, 1226, 1231, 1232, 1233, 1234, 1239, 1280, 1281, 1282, 1283, 1284, 1285, 1294, 1295, 1296, 1297, 1298, 1299, 1300, 1301, 1538, 1539, 1540, 1541, 2113, 2114, 2115, 2116, 2117, 2118, 2119, 2120, 2121, 2122, 2123, 2124, 2125, 2126, 2127, 2128, 2129, 2130, 2131, 2132, 2133, 2134, 2135, 2176, 2177, 2178, 2179, 2180, 2181, 2182, 2183, 2184, 2185, 2186, 2187, 2188, 2189, 2190, 2191, 2192, 2193, 2194, 2195, 2196, 2197, 2198, 2199, 2240, 2241, 2242, 2243, 2244, 2245, 2246, 2247, 2248, 2249, 2250, 2251, 2252, 2253, 2254, 2255, 2256, 2257, 2258, 2259, 2260, 2261, 2262, 2263, 2304, 2305, 2306, 2307, 2308, 2309, 2310, 2311, 2312, 2313, 2314, 2315, 2316, 2317, 2318, 2319, 2320, 2321, 2322, 2323, 2324, 2325, 2326, 2327, 2368, 2369, 2370, 2371, 2372, 2373, 2374, 2375, 2376, 2377, 2378, 4416, 4417, 4418, 4419, 4420, 4421, 4422, 4423, 4424, 4425, 4426, 4427, 4428, 4429, 4430, 4431, 4432, 4433, 4434, 4435, 4436, 4437, 4438, 4439, 4440, 4441, 4442, 4443, 4444, 4445, 4446, 4447, 4448, 4449, 4450, 4451, 4452, 4453, 4454, 4455, 4456, 4457, 4458, 4459, 4460, 4461, 4462, 4463, 4464, 4465, 4466, 4467, 4468, 4469, 4470]
def wsX11_work : List Cond := cw 2113 :: wI qaVC
theorem qen : ∀ i ∈ qaVC, cw i ∈ wsX11_work := fun i h => List.mem_cons_of_mem _ (List.mem_map_of_mem h)
def qaVz : List Nat := [5, 398, 399, 400, 459, 460, 519, 523, 527, 528, 529, 530, 589, 590, 1103, 1104, 1105, 1106, 1107, 1108, 1109, 1110, 1111, 1152, 1153, 1154, 1155, 1156, 1157, 1158, 1159, 1160, 1161, 1162, 1163, 1164, 1165, 1166, 1222, 1223, 1224, 1225, 1226, 1239, 1280, 1281, 1282, 1283, 1284, 1285, 1294, 1295, 1296, 1297, 1298, 1299, 1300, 1301, 2447, 4416, 4417, 4418, 4419, 4420, 4421, 4422, 4423, 4424, 4425, 4426, 4427, 4428, 4429, 4430, 4431, 4432, 4433, 4434, 4435, 4436, 4437, 4438, 4439, 4440, 4441, 4442, 4443, 4444, 4445, 4446, 4447, 4448, 4449, 4450, 4451, 4452, 4453, 4454, 4455, 4456, 4457, 4458, 4459, 4460, 4461, 4462, 4463, 4464, 4465, 4466, 4467, 4468, 4469, 4470]
def wsX11_book : List Cond := cw 2447 :: wI qaVz
theorem qgo : ∀ i ∈ qaVz, cw i ∈ wsX11_book := fun i h => List.mem_cons_of_mem _ (List.mem_map_of_mem h)
def qaS4 : List Nat := [456, 458, 524, 526, 589, 2508, 4416, 4417, 4418, 4419, 4420, 4421, 4422, 4423, 4424, 4425, 4426, 4427, 4428, 4429, 4430, 4431, 4432, 4433, 4434, 4435, 4436, 4437, 4438, 4439, 4440, 4441, 4442, 4443, 4444, 4445, 4446, 4447, 4448, 4449, 4450, 4451, 4452, 4453, 4454, 4455, 4456, 4457, 4458, 4459, 4460, 4461, 4462, 4463, 4464, 4465, 4466, 4467, 4468, 4469, 4470]
def wsX11_undo : List Cond := cw 2508 :: wI qaS4
theorem qOv : ∀ i ∈ qaS4, cw i ∈ wsX11_undo := fun i h => List.mem_cons_of_mem _ (List.mem_map_of_mem h)
def qTR : List Nat := [5, 457, 520, 2190, 2191, 2192, 2193, 2627, 4416, 4417, 4418, 4419, 4420, 4421, 4422, 4423, 4424, 4425, 4426, 4427, 4428, 4429, 4430, 4431, 4432, 4433, 4434, 4435, 4436, 4437, 4438, 4439, 4440, 4441, 4442, 4443, 4444, 4445, 4446, 4447, 4448, 4449, 4450, 4451, 4452, 4453, 4454, 4455, 4456, 4457, 4458, 4459, 4460, 4461, 4462, 4463, 4464, 4465, 4466, 4467, 4468, 4469, 4470]
def wsX11_caughtNow : List Cond := cw 2627 :: wI qTR
theorem qHW : ∀ i ∈ qTR, cw i ∈ wsX11_caughtNow := fun i h => List.mem_cons_of_mem _ (List.mem_map_of_mem h)
theorem qHh : okM 2627 qTR = true := qaq (by decide +kernel)
def qWT : List Nat := [457, 2635, 4416, 4417, 4418, 4419, 4420, 4421, 4422, 4423, 4424, 4425, 4426, 4427, 4428, 4429, 4430, 4431, 4432, 4433, 4434, 4435, 4436, 4437, 4438, 4439, 4440, 4441, 4442, 4443, 4444, 4445, 4446, 4447, 4448, 4449, 4450, 4451, 4452, 4453, 4454, 4455, 4456, 4457, 4458, 4459, 4460, 4461, 4462, 4463, 4464, 4465, 4466, 4467, 4468, 4469, 4470]
def wsX11_debtsNow : List Cond := cw 2635 :: wI qWT
theorem q7k : ∀ i ∈ qWT, cw i ∈ wsX11_debtsNow := fun i h => List.mem_cons_of_mem _ (List.mem_map_of_mem h)
theorem q8g : okM 2635 qWT = true := qaq (by decide +kernel)
def qWp : List Nat := [5, 405, 407, 457, 520, 521, 2190, 2191, 2192, 2193, 2198, 2199, 2240, 2371, 2372, 2373, 2374, 2375, 2376, 2377, 2378, 2583, 4416, 4417, 4418, 4419, 4420, 4421, 4422, 4423, 4424, 4425, 4426, 4427, 4428, 4429, 4430, 4431, 4432, 4433, 4434, 4435, 4436, 4437, 4438, 4439, 4440, 4441, 4442, 4443, 4444, 4445, 4446, 4447, 4448, 4449, 4450, 4451, 4452, 4453, 4454, 4455, 4456, 4457, 4458, 4459, 4460, 4461, 4462, 4463, 4464, 4465, 4466, 4467, 4468, 4469, 4470]
def wsX11_bitsTold : List Cond := cw 2583 :: wI qWp
theorem qEi : ∀ i ∈ qWp, cw i ∈ wsX11_bitsTold := fun i h => List.mem_cons_of_mem _ (List.mem_map_of_mem h)
theorem qaE9 : okM 2583 qWp = true := qaq (by decide +kernel)
def qTa : List Nat := [5, 405, 407, 519, 521, 2198, 2199, 2240, 2375, 2376, 2377, 2378, 2631, 4416, 4417, 4418, 4419, 4420, 4421, 4422, 4423, 4424, 4425, 4426, 4427, 4428, 4429, 4430, 4431, 4432, 4433, 4434, 4435, 4436, 4437, 4438, 4439, 4440, 4441, 4442, 4443, 4444, 4445, 4446, 4447, 4448, 4449, 4450, 4451, 4452, 4453, 4454, 4455, 4456, 4457, 4458, 4459, 4460, 4461, 4462, 4463, 4464, 4465, 4466, 4467, 4468, 4469, 4470]
def wsX11_safeForms : List Cond := cw 2631 :: wI qTa
theorem qHK : ∀ i ∈ qTa, cw i ∈ wsX11_safeForms := fun i h => List.mem_cons_of_mem _ (List.mem_map_of_mem h)
theorem q2E : okM 2631 qTa = true := qaq (by decide +kernel)
def qaVF : List Nat := [5, 398, 405, 407, 456, 457, 519, 520, 521, 523, 526, 527, 528, 529, 530, 589, 1105, 1106, 1107, 1108, 2130, 2131, 2132, 2133, 2190, 2191, 2192, 2193, 2198, 2199, 2240, 2371, 2372, 2373, 2374, 2375, 2376, 2377, 2378, 2576, 2577, 2578, 2579, 2580, 2581, 2582, 2583, 2624, 2625, 2626, 2627, 2628, 2629, 2630, 2631, 2632, 2633, 2634, 2635, 4416, 4417, 4418, 4419, 4420, 4421, 4422, 4423, 4424, 4425, 4426, 4427, 4428, 4429, 4430, 4431, 4432, 4433, 4434, 4435, 4436, 4437, 4438, 4439, 4440, 4441, 4442, 4443, 4444, 4445, 4446, 4447, 4448, 4449, 4450, 4451, 4452, 4453, 4454, 4455, 4456, 4457, 4458, 4459, 4460, 4461, 4462, 4463, 4464, 4465, 4466, 4467, 4468, 4469, 4470]
def wsX11_told : List Cond := cw 2576 :: wI qaVF
theorem qnv : ∀ i ∈ qaVF, cw i ∈ wsX11_told := fun i h => List.mem_cons_of_mem _ (List.mem_map_of_mem h)
def q91 : List Nat := [5, 398, 519, 589, 1105, 1106, 1107, 1108, 2577, 2578, 2579, 2702, 4416, 4417, 4418, 4419, 4420, 4421, 4422, 4423, 4424, 4425, 4426, 4427, 4428, 4429, 4430, 4431, 4432, 4433, 4434, 4435, 4436, 4437, 4438, 4439, 4440, 4441, 4442, 4443, 4444, 4445, 4446, 4447, 4448, 4449, 4450, 4451, 4452, 4453, 4454, 4455, 4456, 4457, 4458, 4459, 4460, 4461, 4462, 4463, 4464, 4465, 4466, 4467, 4468, 4469, 4470]
def wsX11_isForm : List Cond := cw 2702 :: wI q91
theorem qF7 : ∀ i ∈ q91, cw i ∈ wsX11_isForm := fun i h => List.mem_cons_of_mem _ (List.mem_map_of_mem h)
theorem qLC : okM 2702 q91 = true := qaq (by decide +kernel)
def qacn : List Nat := [5, 398, 520, 589, 1105, 1106, 1107, 1108, 2577, 2578, 2579, 2770, 4416, 4417, 4418, 4419, 4420, 4421, 4422, 4423, 4424, 4425, 4426, 4427, 4428, 4429, 4430, 4431, 4432, 4433, 4434, 4435, 4436, 4437, 4438, 4439, 4440, 4441, 4442, 4443, 4444, 4445, 4446, 4447, 4448, 4449, 4450, 4451, 4452, 4453, 4454, 4455, 4456, 4457, 4458, 4459, 4460, 4461, 4462, 4463, 4464, 4465, 4466, 4467, 4468, 4469, 4470]
def wsX11_isHare : List Cond := cw 2770 :: wI qacn
theorem qGg : ∀ i ∈ qacn, cw i ∈ wsX11_isHare := fun i h => List.mem_cons_of_mem _ (List.mem_map_of_mem h)
theorem qw6 : okM 2770 qacn = true := qaq (by decide +kernel)
def qaVE : List Nat := [5, 398, 405, 407, 456, 457, 519, 520, 521, 527, 528, 529, 530, 589, 1105, 1106, 1107, 1108, 2130, 2131, 2132, 2133, 2198, 2199, 2240, 2253, 2254, 2255, 2256, 2375, 2376, 2377, 2378, 2577, 2578, 2579, 2698, 2699, 2700, 2701, 2702, 4416, 4417, 4418, 4419, 4420, 4421, 4422, 4423, 4424, 4425, 4426, 4427, 4428, 4429, 4430, 4431, 4432, 4433, 4434, 4435, 4436, 4437, 4438, 4439, 4440, 4441, 4442, 4443, 4444, 4445, 4446, 4447, 4448, 4449, 4450, 4451, 4452, 4453, 4454, 4455, 4456, 4457, 4458, 4459, 4460, 4461, 4462, 4463, 4464, 4465, 4466, 4467, 4468, 4469, 4470]
def wsX11_form : List Cond := cw 2698 :: wI qaVE
theorem qs9 : ∀ i ∈ qaVE, cw i ∈ wsX11_form := fun i h => List.mem_cons_of_mem _ (List.mem_map_of_mem h)
def qaUX : List Nat := [5, 398, 406, 450, 451, 452, 453, 456, 457, 520, 522, 527, 528, 529, 530, 589, 1105, 1106, 1107, 1108, 2130, 2131, 2132, 2133, 2190, 2191, 2192, 2193, 2241, 2242, 2243, 2244, 2245, 2246, 2247, 2248, 2249, 2250, 2251, 2252, 2253, 2254, 2255, 2256, 2257, 2258, 2259, 2260, 2261, 2262, 2263, 2304, 2305, 2306, 2307, 2308, 2309, 2310, 2311, 2312, 2313, 2314, 2577, 2578, 2579, 2766, 2767, 2768, 2769, 2770, 4416, 4417, 4418, 4419, 4420, 4421, 4422, 4423, 4424, 4425, 4426, 4427, 4428, 4429, 4430, 4431, 4432, 4433, 4434, 4435, 4436, 4437, 4438, 4439, 4440, 4441, 4442, 4443, 4444, 4445, 4446, 4447, 4448, 4449, 4450, 4451, 4452, 4453, 4454, 4455, 4456, 4457, 4458, 4459, 4460, 4461, 4462, 4463, 4464, 4465, 4466, 4467, 4468, 4469, 4470]
def wsX11_hare : List Cond := cw 2766 :: wI qaUX
theorem qql : ∀ i ∈ qaUX, cw i ∈ wsX11_hare := fun i h => List.mem_cons_of_mem _ (List.mem_map_of_mem h)
def qa01 : List Nat := [5, 398, 407, 521, 589, 1105, 1106, 1107, 1108, 2577, 2578, 2579, 2823, 4416, 4417, 4418, 4419, 4420, 4421, 4422, 4423, 4424, 4425, 4426, 4427, 4428, 4429, 4430, 4431, 4432, 4433, 4434, 4435, 4436, 4437, 4438, 4439, 4440, 4441, 4442, 4443, 4444, 4445, 4446, 4447, 4448, 4449, 4450, 4451, 4452, 4453, 4454, 4455, 4456, 4457, 4458, 4459, 4460, 4461, 4462, 4463, 4464, 4465, 4466, 4467, 4468, 4469, 4470]
def wsX11_fox : List Cond := cw 2823 :: wI qa01
theorem qLO : ∀ i ∈ qa01, cw i ∈ wsX11_fox := fun i h => List.mem_cons_of_mem _ (List.mem_map_of_mem h)
def qaVR : List Nat := [5, 398, 456, 520, 589, 1105, 1106, 1107, 1108, 2577, 2578, 2579, 2767, 2768, 2769, 2770, 2835, 4416, 4417, 4418, 4419, 4420, 4421, 4422, 4423, 4424, 4425, 4426, 4427, 4428, 4429, 4430, 4431, 4432, 4433, 4434, 4435, 4436, 4437, 4438, 4439, 4440, 4441, 4442, 4443, 4444, 4445, 4446, 4447, 4448, 4449, 4450, 4451, 4452, 4453, 4454, 4455, 4456, 4457, 4458, 4459, 4460, 4461, 4462, 4463, 4464, 4465, 4466, 4467, 4468, 4469, 4470]
def wsX11_debt : List Cond := cw 2835 :: wI qaVR
theorem qVm : ∀ i ∈ qaVR, cw i ∈ wsX11_debt := fun i h => List.mem_cons_of_mem _ (List.mem_map_of_mem h)
def qa0y : List Nat := [5, 398, 405, 519, 589, 1105, 1106, 1107, 1108, 2194, 2195, 2196, 2197, 2198, 2199, 2240, 2577, 2578, 2579, 2699, 2700, 2701, 2702, 2887, 4416, 4417, 4418, 4419, 4420, 4421, 4422, 4423, 4424, 4425, 4426, 4427, 4428, 4429, 4430, 4431, 4432, 4433, 4434, 4435, 4436, 4437, 4438, 4439, 4440, 4441, 4442, 4443, 4444, 4445, 4446, 4447, 4448, 4449, 4450, 4451, 4452, 4453, 4454, 4455, 4456, 4457, 4458, 4459, 4460, 4461, 4462, 4463, 4464, 4465, 4466, 4467, 4468, 4469, 4470]
def wsX11_far : List Cond := cw 2887 :: wI qa0y
theorem qVt : ∀ i ∈ qa0y, cw i ∈ wsX11_far := fun i h => List.mem_cons_of_mem _ (List.mem_map_of_mem h)
def qaLU : List Nat := [5, 398, 450, 451, 452, 453, 522, 589, 1105, 1106, 1107, 1108, 2260, 2261, 2262, 2263, 2304, 2305, 2306, 2307, 2308, 2309, 2310, 2311, 2312, 2313, 2314, 2577, 2578, 2579, 2901, 4416, 4417, 4418, 4419, 4420, 4421, 4422, 4423, 4424, 4425, 4426, 4427, 4428, 4429, 4430, 4431, 4432, 4433, 4434, 4435, 4436, 4437, 4438, 4439, 4440, 4441, 4442, 4443, 4444, 4445, 4446, 4447, 4448, 4449, 4450, 4451, 4452, 4453, 4454, 4455, 4456, 4457, 4458, 4459, 4460, 4461, 4462, 4463, 4464, 4465, 4466, 4467, 4468, 4469, 4470]
def wsX11_would : List Cond := cw 2901 :: wI qaLU
theorem qCn : ∀ i ∈ qaLU, cw i ∈ wsX11_would := fun i h => List.mem_cons_of_mem _ (List.mem_map_of_mem h)
def qa0x : List Nat := [5, 398, 405, 450, 451, 452, 453, 456, 457, 519, 520, 522, 527, 528, 529, 530, 589, 1105, 1106, 1107, 1108, 2130, 2131, 2132, 2133, 2186, 2187, 2188, 2189, 2190, 2191, 2192, 2193, 2194, 2195, 2196, 2197, 2198, 2199, 2240, 2241, 2242, 2243, 2244, 2245, 2246, 2247, 2248, 2249, 2250, 2251, 2252, 2253, 2254, 2255, 2256, 2257, 2258, 2259, 2260, 2261, 2262, 2263, 2304, 2305, 2306, 2307, 2308, 2309, 2310, 2311, 2312, 2313, 2314, 2577, 2578, 2579, 2699, 2700, 2701, 2702, 2767, 2768, 2769, 2770, 2953, 4416, 4417, 4418, 4419, 4420, 4421, 4422, 4423, 4424, 4425, 4426, 4427, 4428, 4429, 4430, 4431, 4432, 4433, 4434, 4435, 4436, 4437, 4438, 4439, 4440, 4441, 4442, 4443, 4444, 4445, 4446, 4447, 4448, 4449, 4450, 4451, 4452, 4453, 4454, 4455, 4456, 4457, 4458, 4459, 4460, 4461, 4462, 4463, 4464, 4465, 4466, 4467, 4468, 4469, 4470]
def wsX11_can : List Cond := cw 2953 :: wI qa0x
theorem qDO : ∀ i ∈ qa0x, cw i ∈ wsX11_can := fun i h => List.mem_cons_of_mem _ (List.mem_map_of_mem h)
def q0x : List Nat := [5, 405, 450, 451, 452, 453, 457, 519, 520, 522, 2186, 2187, 2188, 2189, 2190, 2191, 2192, 2193, 2194, 2195, 2196, 2197, 2198, 2199, 2240, 2241, 2242, 2243, 2244, 2245, 2246, 2247, 2248, 2249, 2250, 2251, 2252, 2253, 2254, 2255, 2256, 2257, 2258, 2259, 2260, 2261, 2262, 2263, 2304, 2305, 2306, 2307, 2308, 2309, 2310, 2311, 2312, 2313, 2314, 3202, 4416, 4417, 4418, 4419, 4420, 4421, 4422, 4423, 4424, 4425, 4426, 4427, 4428, 4429, 4430, 4431, 4432, 4433, 4434, 4435, 4436, 4437, 4438, 4439, 4440, 4441, 4442, 4443, 4444, 4445, 4446, 4447, 4448, 4449, 4450, 4451, 4452, 4453, 4454, 4455, 4456, 4457, 4458, 4459, 4460, 4461, 4462, 4463, 4464, 4465, 4466, 4467, 4468, 4469, 4470]
def wsX11_rangeOf : List Cond := cw 3202 :: wI q0x
theorem qN8 : ∀ i ∈ q0x, cw i ∈ wsX11_rangeOf := fun i h => List.mem_cons_of_mem _ (List.mem_map_of_mem h)
theorem qahn : okM 3202 q0x = true := qaq (by decide +kernel)
def qaLQ : List Nat := [5, 398, 405, 450, 451, 452, 453, 456, 457, 519, 520, 522, 527, 528, 529, 530, 589, 1105, 1106, 1107, 1108, 2130, 2131, 2132, 2133, 2186, 2187, 2188, 2189, 2190, 2191, 2192, 2193, 2194, 2195, 2196, 2197, 2198, 2199, 2240, 2241, 2242, 2243, 2244, 2245, 2246, 2247, 2248, 2249, 2250, 2251, 2252, 2253, 2254, 2255, 2256, 2257, 2258, 2259, 2260, 2261, 2262, 2263, 2304, 2305, 2306, 2307, 2308, 2309, 2310, 2311, 2312, 2313, 2314, 2577, 2578, 2579, 2767, 2768, 2769, 2770, 3159, 3200, 3201, 3202, 3985, 4416, 4417, 4418, 4419, 4420, 4421, 4422, 4423, 4424, 4425, 4426, 4427, 4428, 4429, 4430, 4431, 4432, 4433, 4434, 4435, 4436, 4437, 4438, 4439, 4440, 4441, 4442, 4443, 4444, 4445, 4446, 4447, 4448, 4449, 4450, 4451, 4452, 4453, 4454, 4455, 4456, 4457, 4458, 4459, 4460, 4461, 4462, 4463, 4464, 4465, 4466, 4467, 4468, 4469, 4470]
def wsX11_range : List Cond := cw 3985 :: wI qaLQ
theorem qB7 : ∀ i ∈ qaLQ, cw i ∈ wsX11_range := fun i h => List.mem_cons_of_mem _ (List.mem_map_of_mem h)
def qaLr : List Nat := [5, 398, 405, 406, 407, 456, 457, 520, 521, 527, 528, 529, 530, 589, 1105, 1106, 1107, 1108, 2130, 2131, 2132, 2133, 2190, 2191, 2192, 2193, 2198, 2199, 2240, 2323, 2324, 2325, 2326, 2327, 2368, 2369, 2370, 2371, 2372, 2373, 2374, 2375, 2376, 2377, 2378, 2577, 2578, 2579, 2624, 2625, 2626, 2627, 2632, 2633, 2634, 2635, 3009, 4416, 4417, 4418, 4419, 4420, 4421, 4422, 4423, 4424, 4425, 4426, 4427, 4428, 4429, 4430, 4431, 4432, 4433, 4434, 4435, 4436, 4437, 4438, 4439, 4440, 4441, 4442, 4443, 4444, 4445, 4446, 4447, 4448, 4449, 4450, 4451, 4452, 4453, 4454, 4455, 4456, 4457, 4458, 4459, 4460, 4461, 4462, 4463, 4464, 4465, 4466, 4467, 4468, 4469, 4470]
def wsX11_ahead : List Cond := cw 3009 :: wI qaLr
theorem qq0 : ∀ i ∈ qaLr, cw i ∈ wsX11_ahead := fun i h => List.mem_cons_of_mem _ (List.mem_map_of_mem h)
def qaVk : List Nat := [5, 398, 405, 450, 451, 452, 453, 456, 457, 519, 520, 522, 527, 528, 529, 530, 589, 1105, 1106, 1107, 1108, 2130, 2131, 2132, 2133, 2190, 2191, 2192, 2193, 2194, 2195, 2196, 2197, 2198, 2199, 2240, 2241, 2242, 2243, 2244, 2245, 2246, 2247, 2248, 2249, 2250, 2251, 2252, 2253, 2254, 2255, 2256, 2257, 2258, 2259, 2260, 2261, 2262, 2263, 2304, 2305, 2306, 2307, 2308, 2309, 2310, 2311, 2312, 2313, 2314, 2577, 2578, 2579, 2699, 2700, 2701, 2702, 2767, 2768, 2769, 2770, 3029, 4416, 4417, 4418, 4419, 4420, 4421, 4422, 4423, 4424, 4425, 4426, 4427, 4428, 4429, 4430, 4431, 4432, 4433, 4434, 4435, 4436, 4437, 4438, 4439, 4440, 4441, 4442, 4443, 4444, 4445, 4446, 4447, 4448, 4449, 4450, 4451, 4452, 4453, 4454, 4455, 4456, 4457, 4458, 4459, 4460, 4461, 4462, 4463, 4464, 4465, 4466, 4467, 4468, 4469, 4470]
def wsX11_hops : List Cond := cw 3029 :: wI qaVk
theorem qsp : ∀ i ∈ qaVk, cw i ∈ wsX11_hops := fun i h => List.mem_cons_of_mem _ (List.mem_map_of_mem h)
def qTf : List Nat := [5, 405, 407, 450, 451, 452, 453, 456, 457, 461, 462, 463, 519, 520, 521, 522, 527, 528, 529, 530, 2130, 2131, 2132, 2133, 2186, 2187, 2188, 2189, 2190, 2191, 2192, 2193, 2194, 2195, 2196, 2197, 2198, 2199, 2240, 2241, 2242, 2243, 2244, 2245, 2246, 2247, 2248, 2249, 2250, 2251, 2252, 2253, 2254, 2255, 2256, 2257, 2258, 2259, 2260, 2261, 2262, 2263, 2304, 2305, 2306, 2307, 2308, 2309, 2310, 2311, 2312, 2313, 2314, 2375, 2376, 2377, 2378, 2628, 2629, 2630, 2631, 3158, 3159, 3200, 3201, 3202, 4416, 4417, 4418, 4419, 4420, 4421, 4422, 4423, 4424, 4425, 4426, 4427, 4428, 4429, 4430, 4431, 4432, 4433, 4434, 4435, 4436, 4437, 4438, 4439, 4440, 4441, 4442, 4443, 4444, 4445, 4446, 4447, 4448, 4449, 4450, 4451, 4452, 4453, 4454, 4455, 4456, 4457, 4458, 4459, 4460, 4461, 4462, 4463, 4464, 4465, 4466, 4467, 4468, 4469, 4470]
def wsX11_findSeats : List Cond := cw 3158 :: wI qTf
theorem qip : ∀ i ∈ qTf, cw i ∈ wsX11_findSeats := fun i h => List.mem_cons_of_mem _ (List.mem_map_of_mem h)
theorem q2W : okM 3158 qTf = true := qaq (by decide +kernel)
def qaLs : List Nat := [5, 405, 407, 450, 451, 452, 453, 456, 457, 461, 462, 463, 519, 520, 521, 522, 527, 528, 529, 530, 589, 2130, 2131, 2132, 2133, 2186, 2187, 2188, 2189, 2190, 2191, 2192, 2193, 2194, 2195, 2196, 2197, 2198, 2199, 2240, 2241, 2242, 2243, 2244, 2245, 2246, 2247, 2248, 2249, 2250, 2251, 2252, 2253, 2254, 2255, 2256, 2257, 2258, 2259, 2260, 2261, 2262, 2263, 2304, 2305, 2306, 2307, 2308, 2309, 2310, 2311, 2312, 2313, 2314, 2375, 2376, 2377, 2378, 2628, 2629, 2630, 2631, 3154, 3155, 3156, 3157, 3158, 3159, 3200, 3201, 3202, 4416, 4417, 4418, 4419, 4420, 4421, 4422, 4423, 4424, 4425, 4426, 4427, 4428, 4429, 4430, 4431, 4432, 4433, 4434, 4435, 4436, 4437, 4438, 4439, 4440, 4441, 4442, 4443, 4444, 4445, 4446, 4447, 4448, 4449, 4450, 4451, 4452, 4453, 4454, 4455, 4456, 4457, 4458, 4459, 4460, 4461, 4462, 4463, 4464, 4465, 4466, 4467, 4468, 4469, 4470]
def wsX11_seats : List Cond := cw 3154 :: wI qaLs
theorem qO7 : ∀ i ∈ qaLs, cw i ∈ wsX11_seats := fun i h => List.mem_cons_of_mem _ (List.mem_map_of_mem h)
def qaUt : List Nat := [5, 398, 405, 407, 450, 451, 452, 453, 456, 457, 461, 462, 463, 519, 520, 521, 522, 527, 528, 529, 530, 589, 1105, 1106, 1107, 1108, 2130, 2131, 2132, 2133, 2186, 2187, 2188, 2189, 2190, 2191, 2192, 2193, 2194, 2195, 2196, 2197, 2198, 2199, 2240, 2241, 2242, 2243, 2244, 2245, 2246, 2247, 2248, 2249, 2250, 2251, 2252, 2253, 2254, 2255, 2256, 2257, 2258, 2259, 2260, 2261, 2262, 2263, 2304, 2305, 2306, 2307, 2308, 2309, 2310, 2311, 2312, 2313, 2314, 2375, 2376, 2377, 2378, 2577, 2578, 2579, 2628, 2629, 2630, 2631, 2767, 2768, 2769, 2770, 3155, 3156, 3157, 3158, 3159, 3200, 3201, 3202, 3214, 4416, 4417, 4418, 4419, 4420, 4421, 4422, 4423, 4424, 4425, 4426, 4427, 4428, 4429, 4430, 4431, 4432, 4433, 4434, 4435, 4436, 4437, 4438, 4439, 4440, 4441, 4442, 4443, 4444, 4445, 4446, 4447, 4448, 4449, 4450, 4451, 4452, 4453, 4454, 4455, 4456, 4457, 4458, 4459, 4460, 4461, 4462, 4463, 4464, 4465, 4466, 4467, 4468, 4469, 4470]
def wsX11_seat : List Cond := cw 3214 :: wI qaUt
theorem qKf : ∀ i ∈ qaUt, cw i ∈ wsX11_seat := fun i h => List.mem_cons_of_mem _ (List.mem_map_of_mem h)
def q38 : List Nat := [5, 405, 464, 519, 2194, 2195, 2196, 2197, 2198, 2199, 2240, 3336, 4416, 4417, 4418, 4419, 4420, 4421, 4422, 4423, 4424, 4425, 4426, 4427, 4428, 4429, 4430, 4431, 4432, 4433, 4434, 4435, 4436, 4437, 4438, 4439, 4440, 4441, 4442, 4443, 4444, 4445, 4446, 4447, 4448, 4449, 4450, 4451, 4452, 4453, 4454, 4455, 4456, 4457, 4458, 4459, 4460, 4461, 4462, 4463, 4464, 4465, 4466, 4467, 4468, 4469, 4470]
def wsX11_layRing : List Cond := cw 3336 :: wI q38
theorem qId : ∀ i ∈ q38, cw i ∈ wsX11_layRing := fun i h => List.mem_cons_of_mem _ (List.mem_map_of_mem h)
theorem qahe : okM 3336 q38 = true := qaq (by decide +kernel)
def qaS3 : List Nat := [5, 405, 464, 519, 589, 2194, 2195, 2196, 2197, 2198, 2199, 2240, 3332, 3333, 3334, 3335, 3336, 4416, 4417, 4418, 4419, 4420, 4421, 4422, 4423, 4424, 4425, 4426, 4427, 4428, 4429, 4430, 4431, 4432, 4433, 4434, 4435, 4436, 4437, 4438, 4439, 4440, 4441, 4442, 4443, 4444, 4445, 4446, 4447, 4448, 4449, 4450, 4451, 4452, 4453, 4454, 4455, 4456, 4457, 4458, 4459, 4460, 4461, 4462, 4463, 4464, 4465, 4466, 4467, 4468, 4469, 4470]
def wsX11_ring : List Cond := cw 3332 :: wI qaS3
theorem qOw : ∀ i ∈ qaS3, cw i ∈ wsX11_ring := fun i h => List.mem_cons_of_mem _ (List.mem_map_of_mem h)
def qaBf : List Nat := [5, 398, 405, 464, 519, 589, 1105, 1106, 1107, 1108, 2194, 2195, 2196, 2197, 2198, 2199, 2240, 3333, 3334, 3335, 3336, 3348, 4416, 4417, 4418, 4419, 4420, 4421, 4422, 4423, 4424, 4425, 4426, 4427, 4428, 4429, 4430, 4431, 4432, 4433, 4434, 4435, 4436, 4437, 4438, 4439, 4440, 4441, 4442, 4443, 4444, 4445, 4446, 4447, 4448, 4449, 4450, 4451, 4452, 4453, 4454, 4455, 4456, 4457, 4458, 4459, 4460, 4461, 4462, 4463, 4464, 4465, 4466, 4467, 4468, 4469, 4470]
def wsX11_ringed : List Cond := cw 3348 :: wI qaBf
theorem qve : ∀ i ∈ qaBf, cw i ∈ wsX11_ringed := fun i h => List.mem_cons_of_mem _ (List.mem_map_of_mem h)
def q3n : List Nat := [5, 456, 520, 3409, 3410, 3411, 3412, 4416, 4417, 4418, 4419, 4420, 4421, 4422, 4423, 4424, 4425, 4426, 4427, 4428, 4429, 4430, 4431, 4432, 4433, 4434, 4435, 4436, 4437, 4438, 4439, 4440, 4441, 4442, 4443, 4444, 4445, 4446, 4447, 4448, 4449, 4450, 4451, 4452, 4453, 4454, 4455, 4456, 4457, 4458, 4459, 4460, 4461, 4462, 4463, 4464, 4465, 4466, 4467, 4468, 4469, 4470]
def wsX11_lastsIn : List Cond := cw 3412 :: wI q3n
theorem qxr : ∀ i ∈ q3n, cw i ∈ wsX11_lastsIn := fun i h => List.mem_cons_of_mem _ (List.mem_map_of_mem h)
theorem qadX : okM 3412 q3n = true := qaq (by decide +kernel)
def qaLj : List Nat := [5, 398, 456, 457, 520, 527, 528, 529, 530, 589, 1105, 1106, 1107, 1108, 2130, 2131, 2132, 2133, 2190, 2191, 2192, 2193, 2577, 2578, 2579, 2624, 2625, 2626, 2627, 2767, 2768, 2769, 2770, 3408, 3409, 3410, 3411, 3412, 4416, 4417, 4418, 4419, 4420, 4421, 4422, 4423, 4424, 4425, 4426, 4427, 4428, 4429, 4430, 4431, 4432, 4433, 4434, 4435, 4436, 4437, 4438, 4439, 4440, 4441, 4442, 4443, 4444, 4445, 4446, 4447, 4448, 4449, 4450, 4451, 4452, 4453, 4454, 4455, 4456, 4457, 4458, 4459, 4460, 4461, 4462, 4463, 4464, 4465, 4466, 4467, 4468, 4469, 4470]
def wsX11_bouts : List Cond := cw 3408 :: wI qaLj
theorem quB : ∀ i ∈ qaLj, cw i ∈ wsX11_bouts := fun i h => List.mem_cons_of_mem _ (List.mem_map_of_mem h)
def qWZ : List Nat := [5, 457, 520, 2253, 2254, 2255, 2256, 2257, 2258, 2259, 3585, 4416, 4417, 4418, 4419, 4420, 4421, 4422, 4423, 4424, 4425, 4426, 4427, 4428, 4429, 4430, 4431, 4432, 4433, 4434, 4435, 4436, 4437, 4438, 4439, 4440, 4441, 4442, 4443, 4444, 4445, 4446, 4447, 4448, 4449, 4450, 4451, 4452, 4453, 4454, 4455, 4456, 4457, 4458, 4459, 4460, 4461, 4462, 4463, 4464, 4465, 4466, 4467, 4468, 4469, 4470]
def wsX11_sitsThen : List Cond := cw 3585 :: wI qWZ
theorem qKG : ∀ i ∈ qWZ, cw i ∈ wsX11_sitsThen := fun i h => List.mem_cons_of_mem _ (List.mem_map_of_mem h)
theorem q7O : okM 3585 qWZ = true := qaq (by decide +kernel)
def qakj : List Nat := [5, 457, 460, 519, 520, 2190, 2191, 2192, 2193, 2253, 2254, 2255, 2256, 2257, 2258, 2259, 3541, 3542, 3543, 3584, 3585, 4416, 4417, 4418, 4419, 4420, 4421, 4422, 4423, 4424, 4425, 4426, 4427, 4428, 4429, 4430, 4431, 4432, 4433, 4434, 4435, 4436, 4437, 4438, 4439, 4440, 4441, 4442, 4443, 4444, 4445, 4446, 4447, 4448, 4449, 4450, 4451, 4452, 4453, 4454, 4455, 4456, 4457, 4458, 4459, 4460, 4461, 4462, 4463, 4464, 4465, 4466, 4467, 4468, 4469, 4470]
def wsX11_isFit : List Cond := cw 3541 :: wI qakj
theorem qFt : ∀ i ∈ qakj, cw i ∈ wsX11_isFit := fun i h => List.mem_cons_of_mem _ (List.mem_map_of_mem h)
theorem qaAj : okM 3541 qakj = true := qaq (by decide +kernel)
def qaVp : List Nat := [5, 398, 456, 457, 460, 519, 520, 527, 528, 529, 530, 589, 1105, 1106, 1107, 1108, 2130, 2131, 2132, 2133, 2190, 2191, 2192, 2193, 2253, 2254, 2255, 2256, 2257, 2258, 2259, 2577, 2578, 2579, 3537, 3538, 3539, 3540, 3541, 3542, 3543, 3584, 3585, 4416, 4417, 4418, 4419, 4420, 4421, 4422, 4423, 4424, 4425, 4426, 4427, 4428, 4429, 4430, 4431, 4432, 4433, 4434, 4435, 4436, 4437, 4438, 4439, 4440, 4441, 4442, 4443, 4444, 4445, 4446, 4447, 4448, 4449, 4450, 4451, 4452, 4453, 4454, 4455, 4456, 4457, 4458, 4459, 4460, 4461, 4462, 4463, 4464, 4465, 4466, 4467, 4468, 4469, 4470]
def wsX11_fits : List Cond := cw 3537 :: wI qaVp
theorem qwD : ∀ i ∈ qaVp, cw i ∈ wsX11_fits := fun i h => List.mem_cons_of_mem _ (List.mem_map_of_mem h)
def q0Y : List Nat := [5, 457, 460, 465, 519, 520, 2190, 2191, 2192, 2193, 2253, 2254, 2255, 2256, 2257, 2258, 2259, 3538, 3539, 3540, 3541, 3542, 3543, 3584, 3585, 3658, 4416, 4417, 4418, 4419, 4420, 4421, 4422, 4423, 4424, 4425, 4426, 4427, 4428, 4429, 4430, 4431, 4432, 4433, 4434, 4435, 4436, 4437, 4438, 4439, 4440, 4441, 4442, 4443, 4444, 4445, 4446, 4447, 4448, 4449, 4450, 4451, 4452, 4453, 4454, 4455, 4456, 4457, 4458, 4459, 4460, 4461, 4462, 4463, 4464, 4465, 4466, 4467, 4468, 4469, 4470]
def wsX11_worstOf : List Cond := cw 3658 :: wI q0Y
theorem qxm : ∀ i ∈ q0Y, cw i ∈ wsX11_worstOf := fun i h => List.mem_cons_of_mem _ (List.mem_map_of_mem h)
theorem qaMN : okM 3658 q0Y = true := qaq (by decide +kernel)
def qaVG : List Nat := [5, 398, 456, 457, 460, 465, 519, 520, 527, 528, 529, 530, 589, 1105, 1106, 1107, 1108, 2130, 2131, 2132, 2133, 2190, 2191, 2192, 2193, 2253, 2254, 2255, 2256, 2257, 2258, 2259, 2577, 2578, 2579, 3538, 3539, 3540, 3541, 3542, 3543, 3584, 3585, 3654, 3655, 3656, 3657, 3658, 4416, 4417, 4418, 4419, 4420, 4421, 4422, 4423, 4424, 4425, 4426, 4427, 4428, 4429, 4430, 4431, 4432, 4433, 4434, 4435, 4436, 4437, 4438, 4439, 4440, 4441, 4442, 4443, 4444, 4445, 4446, 4447, 4448, 4449, 4450, 4451, 4452, 4453, 4454, 4455, 4456, 4457, 4458, 4459, 4460, 4461, 4462, 4463, 4464, 4465, 4466, 4467, 4468, 4469, 4470]
def wsX11_look : List Cond := cw 3654 :: wI qaVG
theorem qwo : ∀ i ∈ qaVG, cw i ∈ wsX11_look := fun i h => List.mem_cons_of_mem _ (List.mem_map_of_mem h)
def qaLW : List Nat := [5, 398, 405, 519, 589, 1105, 1106, 1107, 1108, 2194, 2195, 2196, 2197, 2198, 2199, 2240, 2257, 2258, 2259, 2577, 2578, 2579, 3718, 4416, 4417, 4418, 4419, 4420, 4421, 4422, 4423, 4424, 4425, 4426, 4427, 4428, 4429, 4430, 4431, 4432, 4433, 4434, 4435, 4436, 4437, 4438, 4439, 4440, 4441, 4442, 4443, 4444, 4445, 4446, 4447, 4448, 4449, 4450, 4451, 4452, 4453, 4454, 4455, 4456, 4457, 4458, 4459, 4460, 4461, 4462, 4463, 4464, 4465, 4466, 4467, 4468, 4469, 4470]
def wsX11_watch : List Cond := cw 3718 :: wI qaLW
theorem qv1 : ∀ i ∈ qaLW, cw i ∈ wsX11_watch := fun i h => List.mem_cons_of_mem _ (List.mem_map_of_mem h)
def qaL5 : List Nat := [3779]
def wsX11_least : List Cond := cw 3779 :: wI qaL5
theorem qaZa : okM 3779 qaL5 = true := qaq (by decide +kernel)
def qa0n : List Nat := [5, 398, 466, 589, 1105, 1106, 1107, 1108, 2577, 2578, 2579, 3735, 3776, 3777, 3778, 3779, 4416, 4417, 4418, 4419, 4420, 4421, 4422, 4423, 4424, 4425, 4426, 4427, 4428, 4429, 4430, 4431, 4432, 4433, 4434, 4435, 4436, 4437, 4438, 4439, 4440, 4441, 4442, 4443, 4444, 4445, 4446, 4447, 4448, 4449, 4450, 4451, 4452, 4453, 4454, 4455, 4456, 4457, 4458, 4459, 4460, 4461, 4462, 4463, 4464, 4465, 4466, 4467, 4468, 4469, 4470]
def wsX11_few : List Cond := cw 3735 :: wI qa0n
theorem qEh : ∀ i ∈ qa0n, cw i ∈ wsX11_few := fun i h => List.mem_cons_of_mem _ (List.mem_map_of_mem h)
def qaMe : List Nat := [3796]
def wsX11_hasBy : List Cond := cw 3796 :: wI qaMe
theorem qaYm : okM 3796 qaMe = true := qaq (by decide +kernel)
def qaUi : List Nat := [5, 398, 589, 1105, 1106, 1107, 1108, 2577, 2578, 2579, 3793, 3794, 3795, 3796, 4416, 4417, 4418, 4419, 4420, 4421, 4422, 4423, 4424, 4425, 4426, 4427, 4428, 4429, 4430, 4431, 4432, 4433, 4434, 4435, 4436, 4437, 4438, 4439, 4440, 4441, 4442, 4443, 4444, 4445, 4446, 4447, 4448, 4449, 4450, 4451, 4452, 4453, 4454, 4455, 4456, 4457, 4458, 4459, 4460, 4461, 4462, 4463, 4464, 4465, 4466, 4467, 4468, 4469, 4470]
def wsX11_road : List Cond := cw 3793 :: wI qaUi
theorem qGD : ∀ i ∈ qaUi, cw i ∈ wsX11_road := fun i h => List.mem_cons_of_mem _ (List.mem_map_of_mem h)
def qXR : List Nat := [5, 457, 520, 2249, 2250, 2251, 2252, 3860, 4416, 4417, 4418, 4419, 4420, 4421, 4422, 4423, 4424, 4425, 4426, 4427, 4428, 4429, 4430, 4431, 4432, 4433, 4434, 4435, 4436, 4437, 4438, 4439, 4440, 4441, 4442, 4443, 4444, 4445, 4446, 4447, 4448, 4449, 4450, 4451, 4452, 4453, 4454, 4455, 4456, 4457, 4458, 4459, 4460, 4461, 4462, 4463, 4464, 4465, 4466, 4467, 4468, 4469, 4470]
def wsX11_cloverBy : List Cond := cw 3860 :: wI qXR
theorem qKJ : ∀ i ∈ qXR, cw i ∈ wsX11_cloverBy := fun i h => List.mem_cons_of_mem _ (List.mem_map_of_mem h)
theorem qaHJ : okM 3860 qXR = true := qaq (by decide +kernel)
def qaAk : List Nat := [5, 398, 456, 457, 520, 527, 528, 529, 530, 589, 1105, 1106, 1107, 1108, 2130, 2131, 2132, 2133, 2249, 2250, 2251, 2252, 2577, 2578, 2579, 2767, 2768, 2769, 2770, 3856, 3857, 3858, 3859, 3860, 4416, 4417, 4418, 4419, 4420, 4421, 4422, 4423, 4424, 4425, 4426, 4427, 4428, 4429, 4430, 4431, 4432, 4433, 4434, 4435, 4436, 4437, 4438, 4439, 4440, 4441, 4442, 4443, 4444, 4445, 4446, 4447, 4448, 4449, 4450, 4451, 4452, 4453, 4454, 4455, 4456, 4457, 4458, 4459, 4460, 4461, 4462, 4463, 4464, 4465, 4466, 4467, 4468, 4469, 4470]
def wsX11_clover : List Cond := cw 3856 :: wI qaAk
theorem qph : ∀ i ∈ qaAk, cw i ∈ wsX11_clover := fun i h => List.mem_cons_of_mem _ (List.mem_map_of_mem h)
def q71 : List Nat := [5, 398, 456, 457, 520, 527, 528, 529, 530, 589, 1105, 1106, 1107, 1108, 2130, 2131, 2132, 2133, 2190, 2191, 2192, 2193, 2577, 2578, 2579, 3911, 4416, 4417, 4418, 4419, 4420, 4421, 4422, 4423, 4424, 4425, 4426, 4427, 4428, 4429, 4430, 4431, 4432, 4433, 4434, 4435, 4436, 4437, 4438, 4439, 4440, 4441, 4442, 4443, 4444, 4445, 4446, 4447, 4448, 4449, 4450, 4451, 4452, 4453, 4454, 4455, 4456, 4457, 4458, 4459, 4460, 4461, 4462, 4463, 4464, 4465, 4466, 4467, 4468, 4469, 4470]
def wsX11_strongest : List Cond := cw 3911 :: wI q71
theorem qn2 : ∀ i ∈ q71, cw i ∈ wsX11_strongest := fun i h => List.mem_cons_of_mem _ (List.mem_map_of_mem h)
def qaVq : List Nat := [5, 398, 456, 520, 589, 1105, 1106, 1107, 1108, 2577, 2578, 2579, 2767, 2768, 2769, 2770, 3922, 4416, 4417, 4418, 4419, 4420, 4421, 4422, 4423, 4424, 4425, 4426, 4427, 4428, 4429, 4430, 4431, 4432, 4433, 4434, 4435, 4436, 4437, 4438, 4439, 4440, 4441, 4442, 4443, 4444, 4445, 4446, 4447, 4448, 4449, 4450, 4451, 4452, 4453, 4454, 4455, 4456, 4457, 4458, 4459, 4460, 4461, 4462, 4463, 4464, 4465, 4466, 4467, 4468, 4469, 4470]
def wsX11_ties : List Cond := cw 3922 :: wI qaVq
theorem qAv : ∀ i ∈ qaVq, cw i ∈ wsX11_ties := fun i h => List.mem_cons_of_mem _ (List.mem_map_of_mem h)
def qayC : List Nat := [5, 398, 405, 407, 519, 521, 589, 1105, 1106, 1107, 1108, 2194, 2195, 2196, 2197, 2198, 2199, 2240, 2375, 2376, 2377, 2378, 2577, 2578, 2579, 2699, 2700, 2701, 2702, 3973, 4416, 4417, 4418, 4419, 4420, 4421, 4422, 4423, 4424, 4425, 4426, 4427, 4428, 4429, 4430, 4431, 4432, 4433, 4434, 4435, 4436, 4437, 4438, 4439, 4440, 4441, 4442, 4443, 4444, 4445, 4446, 4447, 4448, 4449, 4450, 4451, 4452, 4453, 4454, 4455, 4456, 4457, 4458, 4459, 4460, 4461, 4462, 4463, 4464, 4465, 4466, 4467, 4468, 4469, 4470]
def wsX11_refuge : List Cond := cw 3973 :: wI qayC
theorem qro : ∀ i ∈ qayC, cw i ∈ wsX11_refuge := fun i h => List.mem_cons_of_mem _ (List.mem_map_of_mem h)
def qany : List Nat := [4111, 4115, 4116, 4416, 4417, 4418, 4419, 4420, 4421, 4422, 4423, 4424, 4425, 4426, 4427, 4428, 4429, 4430, 4431, 4432, 4433, 4434, 4435, 4436, 4437, 4438, 4439, 4440, 4441, 4442, 4443, 4444, 4445, 4446, 4447, 4448, 4449, 4450, 4451, 4452, 4453, 4454, 4455, 4456, 4457, 4458, 4459, 4460, 4461, 4462, 4463, 4464, 4465, 4466, 4467, 4468, 4469, 4470]
def wsX11_draws : List Cond := cw 4115 :: wI qany
theorem q8p : ∀ i ∈ qany, cw i ∈ wsX11_draws := fun i h => List.mem_cons_of_mem _ (List.mem_map_of_mem h)
theorem qaWT : okM 4115 qany = true := qaq (by decide +kernel)
def qTO : List Nat := [5, 405, 406, 407, 450, 451, 452, 453, 456, 457, 519, 520, 521, 522, 527, 528, 529, 530, 2130, 2131, 2132, 2133, 2182, 2183, 2184, 2185, 2186, 2187, 2188, 2189, 2190, 2191, 2192, 2193, 2194, 2195, 2196, 2197, 2198, 2199, 2240, 2241, 2242, 2243, 2244, 2245, 2246, 2247, 2248, 2249, 2250, 2251, 2252, 2253, 2254, 2255, 2256, 2257, 2258, 2259, 2260, 2261, 2262, 2263, 2304, 2305, 2306, 2307, 2308, 2309, 2310, 2311, 2312, 2313, 2314, 2315, 2316, 2317, 2318, 2323, 2324, 2325, 2326, 2327, 2368, 2369, 2370, 2371, 2372, 2373, 2374, 2375, 2376, 2377, 2378, 4106, 4110, 4111, 4112, 4113, 4114, 4115, 4116, 4416, 4417, 4418, 4419, 4420, 4421, 4422, 4423, 4424, 4425, 4426, 4427, 4428, 4429, 4430, 4431, 4432, 4433, 4434, 4435, 4436, 4437, 4438, 4439, 4440, 4441, 4442, 4443, 4444, 4445, 4446, 4447, 4448, 4449, 4450, 4451, 4452, 4453, 4454, 4455, 4456, 4457, 4458, 4459, 4460, 4461, 4462, 4463, 4464, 4465, 4466, 4467, 4468, 4469, 4470]
def wsX11_marchGoes : List Cond := cw 4110 :: wI qTO
theorem qir : ∀ i ∈ qTO, cw i ∈ wsX11_marchGoes := fun i h => List.mem_cons_of_mem _ (List.mem_map_of_mem h)
theorem q2p : okM 4110 qTO = true := qaq (by decide +kernel)
def qM6 : List Nat := [5, 457, 520, 2190, 2191, 2192, 2193, 4160, 4416, 4417, 4418, 4419, 4420, 4421, 4422, 4423, 4424, 4425, 4426, 4427, 4428, 4429, 4430, 4431, 4432, 4433, 4434, 4435, 4436, 4437, 4438, 4439, 4440, 4441, 4442, 4443, 4444, 4445, 4446, 4447, 4448, 4449, 4450, 4451, 4452, 4453, 4454, 4455, 4456, 4457, 4458, 4459, 4460, 4461, 4462, 4463, 4464, 4465, 4466, 4467, 4468, 4469, 4470]
def wsX11_strengthNow : List Cond := cw 4160 :: wI qM6
theorem qyj : ∀ i ∈ qM6, cw i ∈ wsX11_strengthNow := fun i h => List.mem_cons_of_mem _ (List.mem_map_of_mem h)
theorem qakX : okM 4160 qM6 = true := qaq (by decide +kernel)
def qaLP : List Nat := [5, 398, 405, 406, 407, 450, 451, 452, 453, 456, 457, 519, 520, 521, 522, 527, 528, 529, 530, 589, 1105, 1106, 1107, 1108, 2130, 2131, 2132, 2133, 2182, 2183, 2184, 2185, 2186, 2187, 2188, 2189, 2190, 2191, 2192, 2193, 2194, 2195, 2196, 2197, 2198, 2199, 2240, 2241, 2242, 2243, 2244, 2245, 2246, 2247, 2248, 2249, 2250, 2251, 2252, 2253, 2254, 2255, 2256, 2257, 2258, 2259, 2260, 2261, 2262, 2263, 2304, 2305, 2306, 2307, 2308, 2309, 2310, 2311, 2312, 2313, 2314, 2315, 2316, 2317, 2318, 2323, 2324, 2325, 2326, 2327, 2368, 2369, 2370, 2371, 2372, 2373, 2374, 2375, 2376, 2377, 2378, 2577, 2578, 2579, 2624, 2625, 2626, 2627, 4105, 4106, 4107, 4108, 4109, 4110, 4111, 4112, 4113, 4114, 4115, 4116, 4117, 4118, 4119, 4160, 4416, 4417, 4418, 4419, 4420, 4421, 4422, 4423, 4424, 4425, 4426, 4427, 4428, 4429, 4430, 4431, 4432, 4433, 4434, 4435, 4436, 4437, 4438, 4439, 4440, 4441, 4442, 4443, 4444, 4445, 4446, 4447, 4448, 4449, 4450, 4451, 4452, 4453, 4454, 4455, 4456, 4457, 4458, 4459, 4460, 4461, 4462, 4463, 4464, 4465, 4466, 4467, 4468, 4469, 4470]
def wsX11_march : List Cond := cw 4105 :: wI qaLP
theorem qr5 : ∀ i ∈ qaLP, cw i ∈ wsX11_march := fun i h => List.mem_cons_of_mem _ (List.mem_map_of_mem h)
def qaT5 : List Nat := [5, 398, 405, 406, 407, 450, 451, 452, 453, 456, 457, 519, 520, 521, 522, 527, 528, 529, 530, 589, 1105, 1106, 1107, 1108, 2130, 2131, 2132, 2133, 2182, 2183, 2184, 2185, 2186, 2187, 2188, 2189, 2190, 2191, 2192, 2193, 2194, 2195, 2196, 2197, 2198, 2199, 2240, 2241, 2242, 2243, 2244, 2245, 2246, 2247, 2248, 2249, 2250, 2251, 2252, 2253, 2254, 2255, 2256, 2257, 2258, 2259, 2260, 2261, 2262, 2263, 2304, 2305, 2306, 2307, 2308, 2309, 2310, 2311, 2312, 2313, 2314, 2315, 2316, 2317, 2318, 2323, 2324, 2325, 2326, 2327, 2368, 2369, 2370, 2371, 2372, 2373, 2374, 2375, 2376, 2377, 2378, 2577, 2578, 2579, 4106, 4107, 4108, 4109, 4110, 4111, 4112, 4113, 4114, 4115, 4116, 4172, 4416, 4417, 4418, 4419, 4420, 4421, 4422, 4423, 4424, 4425, 4426, 4427, 4428, 4429, 4430, 4431, 4432, 4433, 4434, 4435, 4436, 4437, 4438, 4439, 4440, 4441, 4442, 4443, 4444, 4445, 4446, 4447, 4448, 4449, 4450, 4451, 4452, 4453, 4454, 4455, 4456, 4457, 4458, 4459, 4460, 4461, 4462, 4463, 4464, 4465, 4466, 4467, 4468, 4469, 4470]
def wsX11_span : List Cond := cw 4172 :: wI qaT5
theorem qwF : ∀ i ∈ qaT5, cw i ∈ wsX11_span := fun i h => List.mem_cons_of_mem _ (List.mem_map_of_mem h)
def qXt : List Nat := [467, 4232, 4416, 4417, 4418, 4419, 4420, 4421, 4422, 4423, 4424, 4425, 4426, 4427, 4428, 4429, 4430, 4431, 4432, 4433, 4434, 4435, 4436, 4437, 4438, 4439, 4440, 4441, 4442, 4443, 4444, 4445, 4446, 4447, 4448, 4449, 4450, 4451, 4452, 4453, 4454, 4455, 4456, 4457, 4458, 4459, 4460, 4461, 4462, 4463, 4464, 4465, 4466, 4467, 4468, 4469, 4470]
def wsX11_keepsRow : List Cond := cw 4232 :: wI qXt
theorem q7Y : ∀ i ∈ qXt, cw i ∈ wsX11_keepsRow := fun i h => List.mem_cons_of_mem _ (List.mem_map_of_mem h)
theorem qaGo : okM 4232 qXt = true := qaq (by decide +kernel)
def qX0 : List Nat := [5, 456, 458, 467, 524, 4228, 4229, 4230, 4231, 4232, 4416, 4417, 4418, 4419, 4420, 4421, 4422, 4423, 4424, 4425, 4426, 4427, 4428, 4429, 4430, 4431, 4432, 4433, 4434, 4435, 4436, 4437, 4438, 4439, 4440, 4441, 4442, 4443, 4444, 4445, 4446, 4447, 4448, 4449, 4450, 4451, 4452, 4453, 4454, 4455, 4456, 4457, 4458, 4459, 4460, 4461, 4462, 4463, 4464, 4465, 4466, 4467, 4468, 4469, 4470]
def wsX11_keepsAll : List Cond := cw 4228 :: wI qX0
theorem qxJ : ∀ i ∈ qX0, cw i ∈ wsX11_keepsAll := fun i h => List.mem_cons_of_mem _ (List.mem_map_of_mem h)
theorem q7S : okM 4228 qX0 = true := qaq (by decide +kernel)
def qaL2 : List Nat := [5, 456, 458, 467, 524, 525, 589, 4224, 4225, 4226, 4227, 4228, 4229, 4230, 4231, 4232, 4416, 4417, 4418, 4419, 4420, 4421, 4422, 4423, 4424, 4425, 4426, 4427, 4428, 4429, 4430, 4431, 4432, 4433, 4434, 4435, 4436, 4437, 4438, 4439, 4440, 4441, 4442, 4443, 4444, 4445, 4446, 4447, 4448, 4449, 4450, 4451, 4452, 4453, 4454, 4455, 4456, 4457, 4458, 4459, 4460, 4461, 4462, 4463, 4464, 4465, 4466, 4467, 4468, 4469, 4470]
def wsX11_image : List Cond := cw 4224 :: wI qaL2
theorem qPz : ∀ i ∈ qaL2, cw i ∈ wsX11_image := fun i h => List.mem_cons_of_mem _ (List.mem_map_of_mem h)
def qaoo : List Nat := [5, 456, 458, 467, 524, 525, 526, 589, 4225, 4226, 4227, 4228, 4229, 4230, 4231, 4232, 4240, 4416, 4417, 4418, 4419, 4420, 4421, 4422, 4423, 4424, 4425, 4426, 4427, 4428, 4429, 4430, 4431, 4432, 4433, 4434, 4435, 4436, 4437, 4438, 4439, 4440, 4441, 4442, 4443, 4444, 4445, 4446, 4447, 4448, 4449, 4450, 4451, 4452, 4453, 4454, 4455, 4456, 4457, 4458, 4459, 4460, 4461, 4462, 4463, 4464, 4465, 4466, 4467, 4468, 4469, 4470]
def wsX11_restore : List Cond := cw 4240 :: wI qaoo
theorem qDb : ∀ i ∈ qaoo, cw i ∈ wsX11_restore := fun i h => List.mem_cons_of_mem _ (List.mem_map_of_mem h)
def qaDj : List Nat := [5, 398, 589, 2577, 2578, 2579, 4288, 4416, 4417, 4418, 4419, 4420, 4421, 4422, 4423, 4424, 4425, 4426, 4427, 4428, 4429, 4430, 4431, 4432, 4433, 4434, 4435, 4436, 4437, 4438, 4439, 4440, 4441, 4442, 4443, 4444, 4445, 4446, 4447, 4448, 4449, 4450, 4451, 4452, 4453, 4454, 4455, 4456, 4457, 4458, 4459, 4460, 4461, 4462, 4463, 4464, 4465, 4466, 4467, 4468, 4469, 4470]
def wsX11_status : List Cond := cw 4288 :: wI qaDj
theorem qK9 : ∀ i ∈ qaDj, cw i ∈ wsX11_status := fun i h => List.mem_cons_of_mem _ (List.mem_map_of_mem h)
def qaLe : List Nat := [524, 525, 589, 590, 4296, 4416, 4417, 4418, 4419, 4420, 4421, 4422, 4423, 4424, 4425, 4426, 4427, 4428, 4429, 4430, 4431, 4432, 4433, 4434, 4435, 4436, 4437, 4438, 4439, 4440, 4441, 4442, 4443, 4444, 4445, 4446, 4447, 4448, 4449, 4450, 4451, 4452, 4453, 4454, 4455, 4456, 4457, 4458, 4459, 4460, 4461, 4462, 4463, 4464, 4465, 4466, 4467, 4468, 4469, 4470]
def wsX11_count : List Cond := cw 4296 :: wI qaLe
theorem qQr : ∀ i ∈ qaLe, cw i ∈ wsX11_count := fun i h => List.mem_cons_of_mem _ (List.mem_map_of_mem h)
def qa3k : List Nat := [2, 15, 16, 19, 20, 21, 64, 65, 69, 70, 78, 79, 84, 142, 143, 148, 149, 150, 151, 192, 193, 194, 200, 201, 205, 206, 207, 208, 209, 210, 211, 212, 257, 259, 260, 261, 262, 276, 279, 320, 321, 322, 323, 324, 325, 326, 327, 328, 329, 330, 331, 535, 580, 594, 595, 596, 597, 598, 599, 640, 641, 642, 643, 644, 645, 646, 647, 648, 649, 650, 651, 652, 653, 654, 655, 656, 657, 658, 659, 660, 661, 662, 663, 704, 705, 706, 707, 708, 709, 710, 711, 712, 713, 714, 715, 716, 717, 718, 719, 720, 721, 722, 723, 724, 725, 726, 727, 768, 769, 770, 771, 772, 773, 774, 775, 776, 777, 778, 779, 780, 781, 782, 783, 784, 785, 786, 787, 788, 789, 790, 791, 832, 833, 834, 835, 836, 837, 838, 839, 840, 841, 842, 843, 844, 845, 846, 847, 848, 849, 850, 851, 852, 853, 854, 855, 896, 897, 898, 899, 900, 901, 902, 903, 904, 905, 906, 907, 908, 909, 910, 911, 912, 913, 914, 915, 916, 917, 918, 919, 960, 961, 962, 963, 964, 965, 966, 967, 968, 969, 970, 971, 972, 973, 974, 975, 976, 977, 978, 979, 980, 981, 982, 983, 1024, 1025, 1026, 1027, 1028, 1029, 1030, 1031, 1032, 1033, 1034, 1035, 1036, 1037, 1038, 1039, 1040, 1041, 1042, 1043, 1044, 1045, 1046, 1047, 1088, 1089, 1090, 1091, 1092, 1093, 1094, 1095, 1096, 1097, 1098, 4352, 4353, 4354, 4355, 4356, 4357, 4358, 4359, 4360, 4361, 4362, 4363, 4364, 4365, 4366, 4367, 4368, 4369, 4370, 4480, 4481, 4482, 4483, 4484, 4485, 4486, 4544, 4545, 4546, 4547, 4548, 4549, 4550, 4551, 4552, 4553, 4554, 4555, 4608, 4609, 4610, 4611, 4612, 4672, 4673, 4800, 4801, 4802, 4803, 4864, 4865]
def wsL_down : List Cond := cw 594 :: (wI qa3k ++ (vx_atS RX10 409 "java/lang/IllegalArgumentException" ["java/lang/RuntimeException", "java/lang/Exception"]).filter goodWord)
theorem qavb : ∀ i ∈ qa3k, cw i ∈ wsL_down := fun i h => List.mem_cons_of_mem _ (List.mem_append_left _ (List.mem_map_of_mem h))
def qbdt : List Nat := [2, 15, 16, 64, 65, 66, 78, 79, 142, 143, 200, 201, 208, 209, 210, 211, 212, 323, 535, 580, 595, 640, 645, 646, 647, 648, 649, 650, 651, 652, 653, 654, 655, 656, 657, 658, 659, 660, 661, 662, 663, 704, 705, 706, 707, 708, 709, 710, 711, 712, 713, 714, 715, 724, 725, 726, 768, 769, 770, 771, 772, 773, 774, 780, 781, 782, 783, 784, 785, 786, 787, 788, 789, 790, 791, 832, 833, 834, 835, 836, 837, 838, 839, 840, 841, 842, 843, 844, 845, 846, 847, 848, 849, 850, 851, 852, 853, 854, 855, 896, 897, 898, 899, 900, 901, 902, 903, 904, 905, 906, 907, 908, 909, 910, 911, 912, 913, 914, 915, 916, 962, 963, 964, 965, 966, 967, 968, 970, 971, 972, 973, 974, 975, 976, 977, 979, 980, 981, 982, 983, 1024, 1025, 1026, 1027, 1028, 1029, 1095, 1344, 1345, 1346, 1347, 1348, 1349, 1350, 1351, 1352, 1353, 1354, 1355, 1356, 1357, 1358, 1359, 1360, 1361, 1362, 1363, 1364, 1365, 1366, 1367, 1408, 1409, 1410, 1411, 1412, 1413, 1414, 1415, 1416, 1417, 1418, 1419, 1420, 1421, 1422, 1423, 1424, 1425, 1426, 1427, 1428, 1429, 1430, 1431, 1472, 1473, 1474, 1475, 1476, 4352, 4353, 4354, 4355, 4356, 4357, 4358, 4359, 4360, 4361, 4362, 4363, 4364, 4365, 4366, 4367, 4368, 4369, 4370, 4480, 4481, 4482, 4483, 4484, 4485, 4486, 4608, 4609, 4610, 4611, 4612, 4800, 4801, 4802, 4803]
def wsL_law : List Cond := cw 1344 :: (wI qbdt ++ (vx_atS RX10 409 "java/lang/IllegalArgumentException" ["java/lang/RuntimeException", "java/lang/Exception"]).filter goodWord)
theorem qaMC : ∀ i ∈ qbdt, cw i ∈ wsL_law := fun i h => List.mem_cons_of_mem _ (List.mem_append_left _ (List.mem_map_of_mem h))
def qa4V : List Nat := [2, 15, 16, 19, 20, 64, 74, 75, 78, 79, 83, 84, 142, 143, 148, 149, 200, 201, 202, 203, 208, 266, 267, 268, 269, 270, 271, 276, 322, 323, 324, 326, 329, 330, 331, 335, 535, 580, 595, 640, 641, 643, 644, 645, 646, 647, 648, 649, 650, 651, 652, 653, 654, 655, 656, 657, 658, 659, 660, 661, 662, 663, 704, 705, 706, 707, 708, 709, 710, 711, 712, 713, 714, 715, 724, 725, 726, 768, 769, 770, 771, 772, 773, 774, 780, 781, 782, 783, 784, 785, 786, 787, 788, 789, 790, 791, 832, 833, 834, 835, 836, 837, 838, 839, 840, 841, 842, 843, 844, 845, 846, 847, 848, 849, 850, 851, 852, 853, 854, 855, 896, 897, 898, 899, 900, 901, 902, 903, 904, 905, 906, 907, 908, 909, 910, 911, 912, 913, 914, 915, 916, 962, 963, 964, 965, 966, 967, 968, 970, 971, 972, 973, 974, 975, 976, 977, 979, 980, 981, 982, 983, 1024, 1025, 1026, 1027, 1028, 1029, 1047, 1092, 1093, 1094, 1095, 1552, 1553, 1554, 1555, 1556, 1557, 1558, 1559, 1600, 1601, 1602, 1603, 1604, 1605, 1606, 1607, 1608, 1609, 1610, 1611, 1612, 1613, 1614, 1615, 1616, 1617, 1618, 1619, 1620, 1621, 1622, 1623, 1664, 1665, 1666, 1667, 1668, 1669, 1670, 1671, 1672, 1673, 1674, 1675, 1676, 1677, 1678, 1679, 1680, 1681, 1682, 1683, 1684, 1685, 1686, 1687, 1728, 1729, 1730, 1731, 1732, 1733, 1734, 1735, 1736, 1737, 1738, 1739, 1740, 1741, 1742, 1743, 1744, 1745, 1746, 1747, 1748, 1749, 1750, 1751, 1792, 1793, 1794, 1795, 1796, 1797, 1798, 1799, 1800, 1801, 1802, 1803, 1804, 1805, 1806, 1807, 1808, 1809, 1810, 1811, 1812, 1813, 1814, 1815, 1856, 1857, 1858, 1859, 1860, 1861, 1862, 1863, 1864, 1865, 1866, 1867, 1868, 1869, 1870, 1871, 1872, 1873, 1874, 1875, 1876, 1877, 1878, 1879, 1920, 1921, 1922, 1923, 1924, 1925, 1926, 1927, 1928, 1929, 1930, 1931, 1932, 1933, 1934, 1935, 1936, 1937, 1938, 1939, 1940, 1941, 1942, 1943, 1984, 1985, 1986, 1987, 1988, 1989, 1990, 1991, 1992, 1993, 1994, 1995, 1996, 1997, 1998, 1999, 2000, 2001, 2002, 2003, 2004, 2005, 2006, 2007, 2048, 2049, 2050, 2051, 2052, 2053, 2054, 2055, 2056, 2057, 2058, 2059, 2060, 2061, 2062, 2063, 2064, 2065, 2066, 2067, 2068, 2069, 4352, 4353, 4354, 4355, 4356, 4357, 4358, 4359, 4360, 4361, 4362, 4363, 4364, 4365, 4366, 4367, 4368, 4369, 4370, 4480, 4481, 4482, 4483, 4484, 4485, 4486, 4544, 4545, 4546, 4547, 4548, 4549, 4550, 4551, 4552, 4553, 4554, 4555, 4608, 4609, 4610, 4611, 4612, 4736, 4737, 4738, 4739, 4740, 4741, 4742, 4743, 4744, 4745, 4746, 4747, 4800, 4801, 4802, 4803, 4864, 4865]
def wsL_work : List Cond := cw 1552 :: (wI qa4V ++ (vx_atS RX10 409 "java/lang/IllegalArgumentException" ["java/lang/RuntimeException", "java/lang/Exception"]).filter goodWord)
theorem qau3 : ∀ i ∈ qa4V, cw i ∈ wsL_work := fun i h => List.mem_cons_of_mem _ (List.mem_append_left _ (List.mem_map_of_mem h))
def qa5b : List Nat := [2, 15, 16, 20, 69, 70, 71, 142, 143, 257, 258, 259, 260, 261, 262, 535, 580, 595, 640, 645, 646, 647, 648, 649, 650, 651, 652, 653, 654, 655, 656, 657, 658, 659, 660, 661, 662, 663, 704, 705, 706, 707, 708, 709, 710, 711, 712, 713, 714, 715, 724, 725, 726, 768, 769, 770, 771, 772, 773, 774, 835, 962, 963, 964, 965, 966, 967, 968, 970, 971, 972, 973, 974, 975, 976, 977, 979, 980, 981, 982, 983, 1024, 1025, 1026, 1027, 1028, 1029, 1095, 1557, 2381, 2382, 2383, 2384, 2385, 2386, 2387, 2388, 2389, 2390, 2391, 2432, 2433, 2434, 2435, 2436, 2437, 2438, 2439, 2440, 2441, 2442, 2443, 4352, 4353, 4354, 4355, 4356, 4357, 4358, 4359, 4360, 4361, 4362, 4363, 4364, 4365, 4366, 4367, 4368, 4369, 4370, 4480, 4481, 4482, 4483, 4484, 4485, 4486, 4544, 4545, 4546, 4547, 4548, 4549, 4550, 4551, 4552, 4553, 4554, 4555, 4672, 4673]
def wsL_book : List Cond := cw 2381 :: (wI qa5b ++ (vx_atS RX10 409 "java/lang/IllegalArgumentException" ["java/lang/RuntimeException", "java/lang/Exception"]).filter goodWord)
theorem qau1 : ∀ i ∈ qa5b, cw i ∈ wsL_book := fun i h => List.mem_cons_of_mem _ (List.mem_append_left _ (List.mem_map_of_mem h))
def qbam : List Nat := [2, 19, 20, 70, 78, 79, 276, 322, 324, 595, 643, 644, 653, 654, 655, 656, 657, 658, 659, 660, 661, 662, 663, 704, 705, 706, 1047, 1557, 1741, 1742, 1743, 1744, 1745, 1746, 1747, 1748, 1812, 1813, 1814, 1815, 1856, 1857, 1858, 1859, 1860, 1861, 1862, 1863, 1873, 1874, 1875, 1984, 1985, 1986, 2052, 2053, 2059, 2060, 2061, 2062, 2063, 2064, 2065, 2386, 2511, 2512, 2513, 2514, 2515, 2516, 2517, 2518, 2519, 2560, 2561, 2562, 2563, 2564, 2565, 2566, 2567, 2568, 2569, 2570, 2571, 2572, 4352, 4353, 4354, 4355, 4356, 4357, 4358, 4359, 4360, 4361, 4362, 4363, 4364, 4365, 4366, 4367, 4368, 4369, 4370, 4544, 4545, 4546, 4547, 4548, 4549, 4550, 4551, 4552, 4553, 4554, 4555, 4672, 4673, 4800, 4801, 4802, 4803]
def wsL_told : List Cond := cw 2511 :: (wI qbam ++ (vx_atS RX10 409 "java/lang/IllegalArgumentException" ["java/lang/RuntimeException", "java/lang/Exception"]).filter goodWord)
theorem qau6 : ∀ i ∈ qbam, cw i ∈ wsL_told := fun i h => List.mem_cons_of_mem _ (List.mem_append_left _ (List.mem_map_of_mem h))
def qa7f : List Nat := [2, 19, 20, 78, 79, 276, 322, 324, 595, 653, 654, 655, 656, 657, 658, 659, 660, 661, 662, 663, 704, 705, 706, 1047, 1557, 1741, 1742, 1743, 1744, 1745, 1746, 1747, 1748, 1798, 1799, 1800, 2052, 2053, 2063, 2064, 2065, 2638, 2639, 2640, 2641, 2642, 2643, 2644, 2645, 2646, 2647, 2688, 2689, 2690, 2691, 2692, 2693, 2694, 4352, 4353, 4354, 4355, 4356, 4357, 4358, 4359, 4360, 4361, 4362, 4363, 4364, 4365, 4366, 4367, 4368, 4369, 4370, 4544, 4545, 4546, 4547, 4548, 4549, 4550, 4551, 4552, 4553, 4554, 4555, 4800, 4801, 4802, 4803]
def wsL_form : List Cond := cw 2638 :: (wI qa7f ++ (qqA RX10 268 "java/util/NoSuchElementException" 13 qxN ["java/lang/RuntimeException", "java/lang/Exception"]).filter goodWord ++ (vx_atS RX10 409 "java/lang/IllegalArgumentException" ["java/lang/RuntimeException", "java/lang/Exception"]).filter goodWord)
theorem qadY : ∀ i ∈ qa7f, cw i ∈ wsL_form := fun i h => List.mem_cons_of_mem _ (List.mem_append_left _ (List.mem_append_left _ (List.mem_map_of_mem h)))
def qa8B : List Nat := [2, 20, 64, 78, 79, 200, 201, 202, 203, 208, 276, 322, 323, 324, 595, 644, 650, 651, 652, 653, 654, 655, 656, 657, 658, 659, 660, 661, 662, 663, 704, 705, 706, 1741, 1742, 1743, 1744, 1745, 1746, 1747, 1748, 1794, 1795, 1796, 1797, 1798, 1799, 1800, 1801, 1802, 1803, 1804, 1805, 1806, 1807, 1808, 1809, 1810, 1811, 1812, 1813, 1814, 1815, 1856, 1857, 1858, 1859, 1860, 1861, 1862, 1863, 1864, 1865, 1866, 1867, 1868, 1869, 1870, 1871, 1872, 1873, 1874, 1875, 1876, 1877, 1878, 1879, 1920, 1921, 1922, 1923, 1924, 1925, 1926, 1927, 1928, 1929, 1930, 1931, 1932, 1933, 1934, 2639, 2690, 2691, 2692, 2705, 2706, 2707, 2708, 2709, 2710, 2711, 2752, 2753, 2754, 2755, 2756, 2757, 2758, 2759, 2760, 2761, 2762, 4352, 4353, 4354, 4355, 4356, 4357, 4358, 4359, 4360, 4361, 4362, 4363, 4364, 4365, 4366, 4367, 4368, 4369, 4370, 4544, 4545, 4546, 4547, 4548, 4549, 4550, 4551, 4552, 4553, 4554, 4555, 4608, 4609, 4610, 4611, 4612, 4800, 4801, 4802, 4803]
def wsL_hare : List Cond := cw 2705 :: (wI qa8B ++ (qqA RX10 268 "java/util/NoSuchElementException" 13 qxN ["java/lang/RuntimeException", "java/lang/Exception"]).filter goodWord ++ (vx_atS RX10 409 "java/lang/IllegalArgumentException" ["java/lang/RuntimeException", "java/lang/Exception"]).filter goodWord)
theorem qaeh : ∀ i ∈ qa8B, cw i ∈ wsL_hare := fun i h => List.mem_cons_of_mem _ (List.mem_append_left _ (List.mem_append_left _ (List.mem_map_of_mem h)))
def qbcH : List Nat := [2, 20, 595, 653, 654, 655, 656, 657, 658, 659, 660, 661, 662, 663, 704, 705, 706, 2516, 2639, 2690, 2691, 2692, 2773, 2774, 2775, 2816, 2817, 2818, 2819, 4352, 4353, 4354, 4355, 4356, 4357, 4358, 4359, 4360, 4361, 4362, 4363, 4364, 4365, 4366, 4367, 4368, 4369, 4370, 4544, 4545, 4546, 4547, 4548, 4549, 4550, 4551, 4552, 4553, 4554, 4555]
def wsL_fox : List Cond := cw 2773 :: (wI qbcH ++ (qqA RX10 268 "java/util/NoSuchElementException" 13 qxN ["java/lang/RuntimeException", "java/lang/Exception"]).filter goodWord ++ (vx_atS RX10 409 "java/lang/IllegalArgumentException" ["java/lang/RuntimeException", "java/lang/Exception"]).filter goodWord)
theorem qaBB : ∀ i ∈ qbcH, cw i ∈ wsL_fox := fun i h => List.mem_cons_of_mem _ (List.mem_append_left _ (List.mem_append_left _ (List.mem_map_of_mem h)))
def qa6Y : List Nat := [2, 20, 78, 79, 276, 644, 657, 658, 659, 1861, 1862, 1863, 2639, 2690, 2691, 2692, 2711, 2752, 2753, 2754, 2826, 2827, 2828, 2829, 2830, 2831, 4352, 4353, 4354, 4355, 4356, 4357, 4358, 4359, 4360, 4361, 4362, 4363, 4364, 4365, 4366, 4367, 4368, 4369, 4370, 4544, 4545, 4546, 4547, 4548, 4549, 4550, 4551, 4552, 4553, 4554, 4555, 4800, 4801, 4802, 4803]
def wsL_debt : List Cond := cw 2826 :: (wI qa6Y ++ (qqA RX10 268 "java/util/NoSuchElementException" 13 qxN ["java/lang/RuntimeException", "java/lang/Exception"]).filter goodWord)
theorem qau8 : ∀ i ∈ qa6Y, cw i ∈ wsL_debt := fun i h => List.mem_cons_of_mem _ (List.mem_append_left _ (List.mem_map_of_mem h))
def qbcr : List Nat := [2, 19, 20, 148, 149, 651, 657, 658, 659, 1092, 1093, 1094, 1557, 1750, 1751, 1792, 2639, 2646, 2647, 2688, 2689, 2690, 2691, 2692, 2838, 2839, 2880, 2881, 2882, 2883, 4352, 4353, 4354, 4355, 4356, 4357, 4358, 4359, 4360, 4361, 4362, 4363, 4364, 4365, 4366, 4367, 4368, 4369, 4370, 4544, 4545, 4546, 4547, 4548, 4549, 4550, 4551, 4552, 4553, 4554, 4555]
def wsL_far : List Cond := cw 2838 :: (wI qbcr ++ (qqA RX10 268 "java/util/NoSuchElementException" 13 qxN ["java/lang/RuntimeException", "java/lang/Exception"]).filter goodWord)
theorem qaQx : ∀ i ∈ qbcr, cw i ∈ wsL_far := fun i h => List.mem_cons_of_mem _ (List.mem_append_left _ (List.mem_map_of_mem h))
def qa0f : List Nat := [2, 64, 65, 200, 201, 202, 203, 208, 595, 650, 651, 652, 653, 654, 655, 656, 657, 658, 659, 660, 661, 662, 663, 704, 705, 706, 1869, 1870, 1871, 1921, 1922, 1923, 1925, 1926, 1927, 1928, 1929, 1930, 1931, 1932, 1933, 1934, 2890, 2891, 2892, 2893, 2894, 2895, 2896, 2897, 4352, 4353, 4354, 4355, 4356, 4357, 4358, 4359, 4360, 4361, 4362, 4363, 4364, 4365, 4366, 4367, 4368, 4369, 4370, 4608, 4609, 4610, 4611, 4612]
def wsL_would : List Cond := cw 2890 :: (wI qa0f ++ (vx_atS RX10 409 "java/lang/IllegalArgumentException" ["java/lang/RuntimeException", "java/lang/Exception"]).filter goodWord)
theorem qaev : ∀ i ∈ qa0f, cw i ∈ wsL_would := fun i h => List.mem_cons_of_mem _ (List.mem_append_left _ (List.mem_map_of_mem h))
def qbc9 : List Nat := [2, 19, 20, 64, 78, 79, 148, 149, 200, 201, 202, 203, 208, 276, 322, 323, 324, 644, 650, 651, 652, 657, 658, 659, 1092, 1093, 1094, 1557, 1738, 1739, 1740, 1741, 1742, 1743, 1744, 1745, 1746, 1747, 1748, 1749, 1750, 1751, 1792, 1793, 1794, 1795, 1796, 1797, 1798, 1799, 1800, 1801, 1802, 1803, 1804, 1805, 1806, 1807, 1808, 1809, 1810, 1811, 1812, 1813, 1814, 1815, 1856, 1857, 1858, 1859, 1860, 1861, 1862, 1863, 1864, 1865, 1866, 1867, 1868, 1869, 1870, 1871, 1872, 1873, 1874, 1875, 1876, 1877, 1878, 1879, 1920, 1921, 1922, 1923, 1924, 1925, 1926, 1927, 1928, 1929, 1930, 1931, 1932, 1933, 1934, 2639, 2646, 2647, 2688, 2689, 2690, 2691, 2692, 2711, 2752, 2753, 2754, 2944, 2945, 2946, 2947, 2948, 2949, 4352, 4353, 4354, 4355, 4356, 4357, 4358, 4359, 4360, 4361, 4362, 4363, 4364, 4365, 4366, 4367, 4368, 4369, 4370, 4544, 4545, 4546, 4547, 4548, 4549, 4550, 4551, 4552, 4553, 4554, 4555, 4608, 4609, 4610, 4611, 4612, 4800, 4801, 4802, 4803]
def wsL_can : List Cond := cw 2944 :: (wI qbc9 ++ (qqA RX10 268 "java/util/NoSuchElementException" 13 qxN ["java/lang/RuntimeException", "java/lang/Exception"]).filter goodWord)
theorem qaPy : ∀ i ∈ qbc9, cw i ∈ wsL_can := fun i h => List.mem_cons_of_mem _ (List.mem_append_left _ (List.mem_map_of_mem h))
def qa0h : List Nat := [2, 19, 78, 79, 80, 276, 322, 323, 324, 326, 328, 329, 330, 331, 595, 653, 654, 655, 656, 657, 658, 659, 660, 661, 662, 663, 704, 705, 706, 1047, 1741, 1742, 1743, 1744, 1745, 1746, 1747, 1748, 1812, 1813, 1814, 1815, 1856, 1857, 1858, 1859, 1860, 1861, 1862, 1863, 1873, 1874, 1875, 2049, 2050, 2051, 2052, 2053, 2054, 2055, 2056, 2057, 2058, 2059, 2060, 2061, 2062, 2063, 2064, 2065, 2066, 2067, 2068, 2069, 2518, 2560, 2561, 2562, 2563, 2568, 2569, 2570, 2571, 2956, 2957, 2958, 2959, 2960, 2961, 2962, 2963, 2964, 2965, 4352, 4353, 4354, 4355, 4356, 4357, 4358, 4359, 4360, 4361, 4362, 4363, 4364, 4365, 4366, 4367, 4368, 4369, 4370, 4544, 4545, 4546, 4547, 4548, 4549, 4550, 4551, 4552, 4553, 4554, 4555, 4800, 4801, 4802, 4803]
def wsL_ahead : List Cond := cw 2956 :: (wI qa0h ++ (vx_atS RX10 409 "java/lang/IllegalArgumentException" ["java/lang/RuntimeException", "java/lang/Exception"]).filter goodWord)
theorem qadd : ∀ i ∈ qa0h, cw i ∈ wsL_ahead := fun i h => List.mem_cons_of_mem _ (List.mem_append_left _ (List.mem_map_of_mem h))
def qa8z : List Nat := [2, 19, 20, 64, 78, 79, 148, 149, 200, 201, 202, 203, 208, 276, 322, 323, 324, 644, 650, 651, 652, 657, 658, 659, 720, 1092, 1093, 1094, 1557, 1741, 1742, 1743, 1744, 1745, 1746, 1747, 1748, 1750, 1751, 1792, 1794, 1795, 1796, 1797, 1798, 1799, 1800, 1801, 1802, 1803, 1804, 1805, 1806, 1807, 1808, 1809, 1810, 1811, 1812, 1813, 1814, 1815, 1856, 1857, 1858, 1859, 1860, 1861, 1862, 1863, 1864, 1865, 1866, 1867, 1868, 1869, 1870, 1871, 1872, 1873, 1874, 1875, 1876, 1877, 1878, 1879, 1920, 1921, 1922, 1923, 1924, 1925, 1926, 1927, 1928, 1929, 1930, 1931, 1932, 1933, 1934, 2052, 2053, 2639, 2646, 2647, 2688, 2689, 2690, 2691, 2692, 2711, 2752, 2753, 2754, 2755, 2756, 2762, 3012, 3013, 3014, 3015, 3016, 3017, 3018, 3019, 3020, 3021, 3022, 3023, 3024, 3025, 4352, 4353, 4354, 4355, 4356, 4357, 4358, 4359, 4360, 4361, 4362, 4363, 4364, 4365, 4366, 4367, 4368, 4369, 4370, 4544, 4545, 4546, 4547, 4548, 4549, 4550, 4551, 4552, 4553, 4554, 4555, 4608, 4609, 4610, 4611, 4612, 4800, 4801, 4802, 4803]
def wsL_hops : List Cond := cw 3012 :: (wI qa8z ++ (qqA RX10 268 "java/util/NoSuchElementException" 13 qxN ["java/lang/RuntimeException", "java/lang/Exception"]).filter goodWord)
theorem qauT : ∀ i ∈ qa8z, cw i ∈ wsL_hops := fun i h => List.mem_cons_of_mem _ (List.mem_append_left _ (List.mem_map_of_mem h))
def qa80 : List Nat := [2, 19, 20, 64, 78, 79, 132, 133, 148, 149, 200, 201, 202, 203, 208, 276, 322, 323, 324, 384, 385, 386, 644, 650, 651, 652, 657, 658, 659, 720, 1092, 1093, 1094, 1741, 1742, 1743, 1744, 1745, 1746, 1747, 1748, 1750, 1751, 1792, 1793, 1794, 1795, 1796, 1797, 1798, 1799, 1800, 1801, 1802, 1803, 1804, 1805, 1806, 1807, 1808, 1809, 1810, 1811, 1812, 1813, 1814, 1815, 1856, 1857, 1858, 1859, 1860, 1861, 1862, 1863, 1864, 1865, 1866, 1867, 1868, 1869, 1870, 1871, 1872, 1873, 1874, 1875, 1876, 1877, 1878, 1879, 1920, 1921, 1922, 1923, 1924, 1925, 1926, 1927, 1928, 1929, 1930, 1931, 1932, 1933, 1934, 2052, 2053, 2639, 2690, 2691, 2692, 2711, 2752, 2753, 2754, 3022, 3023, 3024, 3025, 3075, 3076, 3077, 3078, 3079, 3080, 3081, 3082, 3083, 3084, 3085, 3086, 3087, 3088, 3089, 3090, 3091, 3092, 3093, 3094, 3095, 3136, 3137, 3138, 3139, 3140, 3141, 3142, 3143, 3144, 3145, 3146, 3147, 3148, 3149, 3150, 3205, 3206, 3207, 3208, 3209, 3210, 4352, 4353, 4354, 4355, 4356, 4357, 4358, 4359, 4360, 4361, 4362, 4363, 4364, 4365, 4366, 4367, 4368, 4369, 4370, 4544, 4545, 4546, 4547, 4548, 4549, 4550, 4551, 4552, 4553, 4554, 4555, 4608, 4609, 4610, 4611, 4612, 4800, 4801, 4802, 4803, 4992, 4993, 4994, 4995]
def wsL_seat : List Cond := cw 3205 :: (wI qa80 ++ (qqA RX10 268 "java/util/NoSuchElementException" 13 qxN ["java/lang/RuntimeException", "java/lang/Exception"]).filter goodWord)
theorem qau0 : ∀ i ∈ qa80, cw i ∈ wsL_seat := fun i h => List.mem_cons_of_mem _ (List.mem_append_left _ (List.mem_map_of_mem h))
def qaTZ : List Nat := [2, 19, 20, 128, 129, 148, 149, 339, 340, 595, 650, 651, 652, 660, 661, 662, 663, 704, 705, 706, 1092, 1093, 1094, 1557, 1750, 1751, 1792, 2052, 2053, 3220, 3221, 3222, 3223, 3264, 3265, 3266, 3267, 3268, 3269, 3270, 3271, 3272, 3273, 3274, 3275, 3276, 3277, 3278, 3279, 3280, 3281, 3282, 3283, 3284, 3285, 3286, 3287, 3328, 3339, 3340, 3341, 3342, 3343, 3344, 4352, 4353, 4354, 4355, 4356, 4357, 4358, 4359, 4360, 4361, 4362, 4363, 4364, 4365, 4366, 4367, 4368, 4369, 4370, 4544, 4545, 4546, 4547, 4548, 4549, 4550, 4551, 4552, 4553, 4554, 4555, 4928, 4929, 4930]
def wsL_ringed : List Cond := cw 3339 :: (wI qaTZ ++ (vx_atS RX10 409 "java/lang/IllegalArgumentException" ["java/lang/RuntimeException", "java/lang/Exception"]).filter goodWord)
theorem q4Q : ∀ i ∈ qaTZ, cw i ∈ wsL_ringed := fun i h => List.mem_cons_of_mem _ (List.mem_append_left _ (List.mem_map_of_mem h))
def qa02 : List Nat := [2, 20, 78, 79, 276, 322, 324, 644, 651, 657, 658, 659, 1742, 1743, 1744, 1809, 1810, 1811, 1930, 1931, 2052, 2053, 2639, 2690, 2691, 2692, 2711, 2752, 2753, 2754, 2755, 2757, 3351, 3392, 3393, 3394, 3395, 3396, 3397, 3398, 3399, 3400, 3401, 3402, 3403, 3404, 4352, 4353, 4354, 4355, 4356, 4357, 4358, 4359, 4360, 4361, 4362, 4363, 4364, 4365, 4366, 4367, 4368, 4369, 4370, 4544, 4545, 4546, 4547, 4548, 4549, 4550, 4551, 4552, 4553, 4554, 4555, 4800, 4801, 4802, 4803]
def wsL_bouts : List Cond := cw 3351 :: (wI qa02 ++ (qqA RX10 268 "java/util/NoSuchElementException" 13 qxN ["java/lang/RuntimeException", "java/lang/Exception"]).filter goodWord)
theorem qaeE : ∀ i ∈ qa02, cw i ∈ wsL_bouts := fun i h => List.mem_cons_of_mem _ (List.mem_append_left _ (List.mem_map_of_mem h))
def qa4t : List Nat := [2, 69, 70, 78, 79, 136, 137, 257, 276, 322, 324, 390, 391, 392, 595, 653, 654, 655, 656, 657, 658, 659, 660, 661, 662, 663, 704, 705, 706, 1741, 1742, 1743, 1744, 1745, 1746, 1747, 1748, 1798, 1799, 1800, 1802, 1803, 1804, 1805, 1806, 1807, 3415, 3456, 3457, 3458, 3459, 3460, 3461, 3462, 3463, 3464, 3465, 3466, 3467, 3468, 3469, 3470, 3471, 3472, 3473, 3474, 3475, 3476, 3477, 3478, 3479, 3520, 3521, 3522, 3523, 3524, 3525, 3526, 3527, 3528, 3529, 3530, 3531, 3532, 3533, 4352, 4353, 4354, 4355, 4356, 4357, 4358, 4359, 4360, 4361, 4362, 4363, 4364, 4365, 4366, 4367, 4368, 4369, 4370, 4544, 4545, 4546, 4547, 4548, 4549, 4550, 4551, 4552, 4553, 4554, 4555, 4672, 4673, 4800, 4801, 4802, 4803, 5056, 5057, 5058, 5059, 5060, 5061, 5062, 5063, 5064, 5065, 5066]
def wsL_fits : List Cond := cw 3415 :: (wI qa4t ++ (vx_atS RX10 409 "java/lang/IllegalArgumentException" ["java/lang/RuntimeException", "java/lang/Exception"]).filter goodWord)
theorem qauZ : ∀ i ∈ qa4t, cw i ∈ wsL_fits := fun i h => List.mem_cons_of_mem _ (List.mem_append_left _ (List.mem_map_of_mem h))
def qa3g : List Nat := [2, 69, 70, 78, 79, 136, 137, 257, 276, 322, 324, 390, 391, 392, 393, 595, 651, 653, 654, 655, 656, 657, 658, 659, 660, 661, 662, 663, 704, 705, 706, 1741, 1742, 1743, 1744, 1745, 1746, 1747, 1748, 1798, 1799, 1800, 1802, 1803, 1804, 1805, 1806, 1807, 1930, 1931, 2052, 2053, 2439, 2440, 2441, 3462, 3463, 3464, 3465, 3466, 3467, 3468, 3469, 3470, 3471, 3472, 3473, 3474, 3475, 3476, 3477, 3478, 3479, 3520, 3521, 3522, 3523, 3524, 3525, 3526, 3527, 3528, 3529, 3530, 3531, 3532, 3533, 3588, 3589, 3590, 3591, 3592, 3593, 3594, 3595, 3596, 3597, 3598, 3599, 3600, 3601, 3602, 3603, 3604, 3605, 3606, 3607, 3648, 3649, 3650, 4352, 4353, 4354, 4355, 4356, 4357, 4358, 4359, 4360, 4361, 4362, 4363, 4364, 4365, 4366, 4367, 4368, 4369, 4370, 4544, 4545, 4546, 4547, 4548, 4549, 4550, 4551, 4552, 4553, 4554, 4555, 4672, 4673, 4800, 4801, 4802, 4803, 5056, 5057, 5058, 5059, 5060, 5061, 5062, 5063, 5064, 5065, 5066]
def wsL_look : List Cond := cw 3588 :: (wI qa3g ++ (vx_atS RX10 409 "java/lang/IllegalArgumentException" ["java/lang/RuntimeException", "java/lang/Exception"]).filter goodWord)
theorem qauW : ∀ i ∈ qa3g, cw i ∈ wsL_look := fun i h => List.mem_cons_of_mem _ (List.mem_append_left _ (List.mem_map_of_mem h))
def qa0p : List Nat := [2, 19, 20, 148, 149, 195, 595, 651, 653, 654, 655, 656, 657, 658, 659, 660, 661, 662, 663, 704, 705, 706, 720, 1092, 1093, 1094, 1750, 1751, 1792, 1802, 1803, 1804, 1805, 1806, 1807, 2052, 2053, 3021, 3022, 3023, 3024, 3025, 3661, 3662, 3663, 3664, 3665, 3666, 3667, 3668, 3669, 3670, 3671, 3712, 3713, 3714, 4352, 4353, 4354, 4355, 4356, 4357, 4358, 4359, 4360, 4361, 4362, 4363, 4364, 4365, 4366, 4367, 4368, 4369, 4370, 4544, 4545, 4546, 4547, 4548, 4549, 4550, 4551, 4552, 4553, 4554, 4555]
def wsL_watch : List Cond := cw 3661 :: (wI qa0p ++ (vx_atS RX10 409 "java/lang/IllegalArgumentException" ["java/lang/RuntimeException", "java/lang/Exception"]).filter goodWord)
theorem qacQ : ∀ i ∈ qa0p, cw i ∈ wsL_watch := fun i h => List.mem_cons_of_mem _ (List.mem_append_left _ (List.mem_map_of_mem h))
def qbdw : List Nat := [2, 595, 653, 654, 655, 656, 657, 658, 659, 660, 661, 662, 663, 704, 705, 706, 3721, 3722, 3723, 3724, 3725, 3726, 3727, 3728, 3729, 3730, 3731, 4352, 4353, 4354, 4355, 4356, 4357, 4358, 4359, 4360, 4361, 4362, 4363, 4364, 4365, 4366, 4367, 4368, 4369, 4370]
def wsL_few : List Cond := cw 3721 :: (wI qbdw ++ (vx_atS RX10 409 "java/lang/IllegalArgumentException" ["java/lang/RuntimeException", "java/lang/Exception"]).filter goodWord)
theorem qaPx : ∀ i ∈ qbdw, cw i ∈ wsL_few := fun i h => List.mem_cons_of_mem _ (List.mem_append_left _ (List.mem_map_of_mem h))
def qa3V : List Nat := [2, 595, 653, 654, 655, 656, 657, 658, 659, 660, 661, 662, 663, 704, 705, 706, 3782, 3783, 3784, 3785, 3786, 3787, 3788, 3789, 4352, 4353, 4354, 4355, 4356, 4357, 4358, 4359, 4360, 4361, 4362, 4363, 4364, 4365, 4366, 4367, 4368, 4369, 4370]
def wsL_road : List Cond := cw 3782 :: (wI qa3V ++ (vx_atS RX10 409 "java/lang/IllegalArgumentException" ["java/lang/RuntimeException", "java/lang/Exception"]).filter goodWord)
theorem qau9 : ∀ i ∈ qa3V, cw i ∈ wsL_road := fun i h => List.mem_cons_of_mem _ (List.mem_append_left _ (List.mem_map_of_mem h))
def qaTD : List Nat := [2, 20, 78, 79, 276, 277, 322, 324, 595, 644, 650, 651, 652, 653, 654, 655, 656, 657, 658, 659, 660, 661, 662, 663, 704, 705, 706, 1860, 1861, 1862, 1863, 1864, 1865, 1866, 1867, 2052, 2053, 2639, 2690, 2691, 2692, 2711, 2752, 2753, 2754, 3400, 3799, 3840, 3841, 3842, 3843, 3844, 3845, 3846, 3847, 3848, 3849, 3850, 3851, 3852, 4352, 4353, 4354, 4355, 4356, 4357, 4358, 4359, 4360, 4361, 4362, 4363, 4364, 4365, 4366, 4367, 4368, 4369, 4370, 4544, 4545, 4546, 4547, 4548, 4549, 4550, 4551, 4552, 4553, 4554, 4555, 4800, 4801, 4802, 4803]
def wsL_clover : List Cond := cw 3799 :: (wI qaTD ++ (qqA RX10 268 "java/util/NoSuchElementException" 13 qxN ["java/lang/RuntimeException", "java/lang/Exception"]).filter goodWord ++ (vx_atS RX10 409 "java/lang/IllegalArgumentException" ["java/lang/RuntimeException", "java/lang/Exception"]).filter goodWord)
theorem qVC : ∀ i ∈ qaTD, cw i ∈ wsL_clover := fun i h => List.mem_cons_of_mem _ (List.mem_append_left _ (List.mem_append_left _ (List.mem_map_of_mem h)))
def qaou : List Nat := [2, 20, 78, 79, 276, 595, 644, 653, 654, 655, 656, 657, 658, 659, 660, 661, 662, 663, 704, 705, 706, 1742, 1743, 1744, 1809, 1810, 1811, 2755, 2757, 3863, 3904, 3905, 3906, 3907, 4352, 4353, 4354, 4355, 4356, 4357, 4358, 4359, 4360, 4361, 4362, 4363, 4364, 4365, 4366, 4367, 4368, 4369, 4370, 4544, 4545, 4546, 4547, 4548, 4549, 4550, 4551, 4552, 4553, 4554, 4555, 4800, 4801, 4802, 4803]
def wsL_strongest : List Cond := cw 3863 :: (wI qaou ++ (vx_atS RX10 409 "java/lang/IllegalArgumentException" ["java/lang/RuntimeException", "java/lang/Exception"]).filter goodWord)
theorem qOl : ∀ i ∈ qaou, cw i ∈ wsL_strongest := fun i h => List.mem_cons_of_mem _ (List.mem_append_left _ (List.mem_map_of_mem h))
def qbag : List Nat := [2, 20, 78, 79, 276, 595, 644, 653, 654, 655, 656, 657, 658, 659, 660, 661, 662, 663, 704, 705, 706, 1861, 1862, 1863, 2639, 2690, 2691, 2692, 2711, 2752, 2753, 2754, 2831, 3914, 3915, 3916, 3917, 3918, 4352, 4353, 4354, 4355, 4356, 4357, 4358, 4359, 4360, 4361, 4362, 4363, 4364, 4365, 4366, 4367, 4368, 4369, 4370, 4544, 4545, 4546, 4547, 4548, 4549, 4550, 4551, 4552, 4553, 4554, 4555, 4800, 4801, 4802, 4803]
def wsL_ties : List Cond := cw 3914 :: (wI qbag ++ (qqA RX10 268 "java/util/NoSuchElementException" 13 qxN ["java/lang/RuntimeException", "java/lang/Exception"]).filter goodWord ++ (vx_atS RX10 409 "java/lang/IllegalArgumentException" ["java/lang/RuntimeException", "java/lang/Exception"]).filter goodWord)
theorem qadS : ∀ i ∈ qbag, cw i ∈ wsL_ties := fun i h => List.mem_cons_of_mem _ (List.mem_append_left _ (List.mem_append_left _ (List.mem_map_of_mem h)))
def qaUv : List Nat := [2, 19, 20, 148, 149, 595, 651, 653, 654, 655, 656, 657, 658, 659, 660, 661, 662, 663, 704, 705, 706, 1047, 1092, 1093, 1094, 1557, 1750, 1751, 1792, 2052, 2053, 2063, 2064, 2065, 2639, 2646, 2647, 2688, 2689, 2690, 2691, 2692, 2693, 2883, 3925, 3926, 3927, 3968, 3969, 4352, 4353, 4354, 4355, 4356, 4357, 4358, 4359, 4360, 4361, 4362, 4363, 4364, 4365, 4366, 4367, 4368, 4369, 4370, 4544, 4545, 4546, 4547, 4548, 4549, 4550, 4551, 4552, 4553, 4554, 4555]
def wsL_refuge : List Cond := cw 3925 :: (wI qaUv ++ (qqA RX10 268 "java/util/NoSuchElementException" 13 qxN ["java/lang/RuntimeException", "java/lang/Exception"]).filter goodWord ++ (vx_atS RX10 409 "java/lang/IllegalArgumentException" ["java/lang/RuntimeException", "java/lang/Exception"]).filter goodWord)
theorem qVd : ∀ i ∈ qaUv, cw i ∈ wsL_refuge := fun i h => List.mem_cons_of_mem _ (List.mem_append_left _ (List.mem_append_left _ (List.mem_map_of_mem h)))
def qa0d : List Nat := [2, 19, 20, 64, 78, 79, 148, 149, 200, 201, 202, 203, 208, 276, 322, 323, 324, 644, 650, 651, 652, 657, 658, 659, 720, 1092, 1093, 1094, 1741, 1742, 1743, 1744, 1745, 1746, 1747, 1748, 1750, 1751, 1792, 1793, 1794, 1795, 1796, 1797, 1798, 1799, 1800, 1801, 1802, 1803, 1804, 1805, 1806, 1807, 1808, 1809, 1810, 1811, 1812, 1813, 1814, 1815, 1856, 1857, 1858, 1859, 1860, 1861, 1862, 1863, 1864, 1865, 1866, 1867, 1868, 1869, 1870, 1871, 1872, 1873, 1874, 1875, 1876, 1877, 1878, 1879, 1920, 1921, 1922, 1923, 1924, 1925, 1926, 1927, 1928, 1929, 1930, 1931, 1932, 1933, 1934, 2639, 2690, 2691, 2692, 2711, 2752, 2753, 2754, 3022, 3023, 3024, 3025, 3090, 3091, 3092, 3976, 3977, 3978, 3979, 3980, 3981, 4352, 4353, 4354, 4355, 4356, 4357, 4358, 4359, 4360, 4361, 4362, 4363, 4364, 4365, 4366, 4367, 4368, 4369, 4370, 4544, 4545, 4546, 4547, 4548, 4549, 4550, 4551, 4552, 4553, 4554, 4555, 4608, 4609, 4610, 4611, 4612, 4800, 4801, 4802, 4803]
def wsL_range : List Cond := cw 3976 :: (wI qa0d ++ (qqA RX10 268 "java/util/NoSuchElementException" 13 qxN ["java/lang/RuntimeException", "java/lang/Exception"]).filter goodWord)
theorem qadA : ∀ i ∈ qa0d, cw i ∈ wsL_range := fun i h => List.mem_cons_of_mem _ (List.mem_append_left _ (List.mem_map_of_mem h))
def qaZ0 : List Nat := [2, 19, 64, 78, 79, 80, 148, 149, 200, 201, 202, 203, 208, 276, 322, 323, 324, 326, 328, 329, 330, 331, 595, 650, 651, 652, 653, 654, 655, 656, 657, 658, 659, 660, 661, 662, 663, 704, 705, 706, 1047, 1092, 1093, 1094, 1738, 1739, 1740, 1741, 1742, 1743, 1744, 1745, 1746, 1747, 1748, 1749, 1750, 1751, 1792, 1793, 1794, 1795, 1796, 1797, 1798, 1799, 1800, 1801, 1802, 1803, 1804, 1805, 1806, 1807, 1808, 1809, 1810, 1811, 1812, 1813, 1814, 1815, 1856, 1857, 1858, 1859, 1860, 1861, 1862, 1863, 1864, 1865, 1866, 1867, 1868, 1869, 1870, 1871, 1872, 1873, 1874, 1875, 1876, 1877, 1878, 1879, 1920, 1921, 1922, 1923, 1924, 1925, 1926, 1927, 1928, 1929, 1930, 1931, 1932, 1933, 1934, 1936, 1937, 1938, 1992, 1993, 1994, 1995, 1996, 1997, 1998, 2000, 2001, 2002, 2003, 2049, 2050, 2051, 2052, 2053, 2054, 2055, 2056, 2057, 2058, 2059, 2060, 2061, 2062, 2063, 2064, 2065, 2066, 2067, 2068, 2069, 2518, 2560, 2561, 2562, 2563, 2961, 2962, 2963, 2964, 3988, 3989, 3990, 3991, 4032, 4033, 4034, 4035, 4036, 4037, 4038, 4039, 4040, 4041, 4042, 4043, 4044, 4045, 4046, 4047, 4048, 4049, 4050, 4051, 4052, 4053, 4054, 4055, 4096, 4097, 4098, 4099, 4100, 4101, 4352, 4353, 4354, 4355, 4356, 4357, 4358, 4359, 4360, 4361, 4362, 4363, 4364, 4365, 4366, 4367, 4368, 4369, 4370, 4544, 4545, 4546, 4547, 4548, 4549, 4550, 4551, 4552, 4553, 4554, 4555, 4608, 4609, 4610, 4611, 4612, 4800, 4801, 4802, 4803]
def wsL_march : List Cond := cw 3988 :: (wI qaZ0 ++ (vx_atS RX10 409 "java/lang/IllegalArgumentException" ["java/lang/RuntimeException", "java/lang/Exception"]).filter goodWord)
theorem qady : ∀ i ∈ qaZ0, cw i ∈ wsL_march := fun i h => List.mem_cons_of_mem _ (List.mem_append_left _ (List.mem_map_of_mem h))
def qa6z : List Nat := [2, 19, 20, 64, 78, 79, 80, 148, 149, 200, 201, 202, 203, 208, 276, 322, 323, 324, 326, 328, 329, 330, 331, 595, 644, 649, 650, 651, 652, 653, 654, 655, 656, 657, 658, 659, 660, 661, 662, 663, 704, 705, 706, 1047, 1092, 1093, 1094, 1738, 1739, 1740, 1741, 1742, 1743, 1744, 1745, 1746, 1747, 1748, 1749, 1750, 1751, 1792, 1793, 1794, 1795, 1796, 1797, 1798, 1799, 1800, 1801, 1802, 1803, 1804, 1805, 1806, 1807, 1808, 1809, 1810, 1811, 1812, 1813, 1814, 1815, 1856, 1857, 1858, 1859, 1860, 1861, 1862, 1863, 1864, 1865, 1866, 1867, 1868, 1869, 1870, 1871, 1872, 1873, 1874, 1875, 1876, 1877, 1878, 1879, 1920, 1921, 1922, 1923, 1924, 1925, 1926, 1927, 1928, 1929, 1930, 1931, 1932, 1933, 1934, 1936, 1937, 1938, 1992, 1993, 1994, 1995, 1996, 1997, 1998, 2000, 2001, 2002, 2003, 2049, 2050, 2051, 2052, 2053, 2054, 2055, 2056, 2057, 2058, 2059, 2060, 2061, 2062, 2063, 2064, 2065, 2066, 2067, 2068, 2069, 2755, 2961, 2962, 2963, 2964, 3404, 4033, 4034, 4035, 4036, 4037, 4038, 4039, 4040, 4041, 4042, 4043, 4044, 4045, 4046, 4047, 4048, 4049, 4050, 4051, 4052, 4053, 4054, 4055, 4096, 4097, 4163, 4164, 4165, 4166, 4167, 4168, 4352, 4353, 4354, 4355, 4356, 4357, 4358, 4359, 4360, 4361, 4362, 4363, 4364, 4365, 4366, 4367, 4368, 4369, 4370, 4544, 4545, 4546, 4547, 4548, 4549, 4550, 4551, 4552, 4553, 4554, 4555, 4608, 4609, 4610, 4611, 4612, 4800, 4801, 4802, 4803]
def wsL_span : List Cond := cw 4163 :: (wI qa6z ++ (vx_atS RX10 409 "java/lang/IllegalArgumentException" ["java/lang/RuntimeException", "java/lang/Exception"]).filter goodWord)
theorem qauS : ∀ i ∈ qa6z, cw i ∈ wsL_span := fun i h => List.mem_cons_of_mem _ (List.mem_append_left _ (List.mem_map_of_mem h))
abbrev vwCl : List vw_C := [(RX0, TX0, 2), (RX1, TX1, 4), (RX2, TX2, 12), (RX3, TX3, 11), (RX4, TX4, 5), (RX5, TX5, 2), (RX6, TX6, 3), (RX7, TX7, 4), (RX8, TX8, 7), (RX9, TX9, 12), (RX10, TX10, 19), (RX11, TX11, 55)]
