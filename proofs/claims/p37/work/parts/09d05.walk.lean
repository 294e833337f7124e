/-- worlds by their leaves -/
def wd05_0 (x0 : Nat) (x1 x2 x3 x4 x5 x6 x7 : Value) (x8 : Nat) (x9 : Int32) (x10 x11 x12 : Value) (x13 : Nat) (x14 : ClassId) (x15 : Nat → Int32) : va_W := [(x0, .inr (2, [x1, x2, x3, x4, x5, x6, x7, .ref x8, .int x9, x10, x11, x12])), (x13, .inl (x14, 8, .inl x15))]
def wd05_1 (x0 x1 x2 : Nat) (x3 x4 x5 x6 x7 : Value) (x8 : Nat) (x9 : Int32) (x10 x11 x12 : Value) (x13 : Nat) (x14 : ClassId) (x15 : Nat → Int32) (x16 : Nat) (x17 : ClassId) (x18 : Nat → Int32) (x19 : Nat) (x20 : ClassId) (x21 : Nat → Int32) : va_W := [(x0, .inr (2, [.ref x1, .ref x2, x3, x4, x5, x6, x7, .ref x8, .int x9, x10, x11, x12])), (x13, .inl (x14, 8, .inl x15)), (x16, .inl (x17, 8, .inl x18)), (x19, .inl (x20, 8, .inl x21))]
def wd05_2 (x0 x1 x2 : Nat) (x3 x4 x5 x6 x7 : Value) (x8 : Nat) (x9 : Int32) (x10 x11 x12 : Value) (x13 : Nat) (x14 : ClassId) (x15 : Nat → Int32) : va_W := [(x0, .inr (2, [.ref x1, .ref x2, x3, x4, x5, x6, x7, .ref x8, .int x9, x10, x11, x12])), (x13, .inl (x14, 8, .inl x15))]
def wd05_3 (x0 x1 x2 : Nat) (x3 x4 x5 x6 x7 : Value) (x8 : Nat) (x9 : Int32) (x10 x11 x12 : Value) (x13 : Nat) (x14 : ClassId) (x15 : Nat → Int32) (x16 : Nat) (x17 : ClassId) (x18 : Nat → Int32) : va_W := [(x0, .inr (2, [.ref x1, .ref x2, x3, x4, x5, x6, x7, .ref x8, .int x9, x10, x11, x12])), (x13, .inl (x14, 8, .inl x15)), (x16, .inl (x17, 8, .inl x18))]
def wd05_4 (x0 : Nat) (x1 : Value) (x2 : Nat) (x3 x4 x5 x6 x7 x8 x9 x10 x11 x12 x13 x14 x15 x16 x17 x18 : Value) (x19 : Int32) (x20 x21 x22 : Nat) (x23 x24 x25 x26 x27 : Value) (x28 : Nat) (x29 : Int32) (x30 x31 x32 : Value) (x33 : Nat) (x34 : ClassId) (x35 : Nat → Int32) (x36 : Nat) (x37 : ClassId) (x38 : Nat → Int32) (x39 : Nat) (x40 : ClassId) (x41 : Nat → Int32) : va_W := [(x0, .inr (10, [x1, .ref x2, x3, x4, x5, x6, x7, x8, x9, x10, x11, x12, x13, x14, x15, x16, x17, x18, .int x19])), (x20, .inr (2, [.ref x21, .ref x22, x23, x24, x25, x26, x27, .ref x28, .int x29, x30, x31, x32])), (x33, .inl (x34, 8, .inl x35)), (x36, .inl (x37, 8, .inl x38)), (x39, .inl (x40, 8, .inl x41))]
def wd05_5 (x0 : Nat) (x1 : Value) (x2 : Nat) (x3 x4 x5 x6 x7 x8 x9 x10 x11 x12 x13 x14 x15 x16 x17 x18 : Value) (x19 : Int32) : va_W := [(x0, .inr (10, [x1, .ref x2, x3, x4, x5, x6, x7, x8, x9, x10, x11, x12, x13, x14, x15, x16, x17, x18, .int x19]))]
def wd05_6 (x0 : Nat) (x1 : Value) (x2 : Nat) (x3 x4 x5 x6 x7 x8 x9 x10 x11 x12 x13 x14 x15 x16 x17 x18 : Value) (x19 : Int32) (x20 x21 x22 : Nat) (x23 x24 x25 x26 x27 : Value) (x28 : Nat) (x29 : Int32) (x30 x31 x32 : Value) (x33 : Nat) (x34 : ClassId) (x35 : Nat → Int32) (x36 : Nat) (x37 : ClassId) (x38 : Nat → Int32) (x39 : Nat) (x40 : ClassId) (x41 : Nat → Int32) (x42 : Nat) (x43 : ClassId) (x44 : Nat) (x45 : Nat → Int64) : va_W := [(x0, .inr (10, [x1, .ref x2, x3, x4, x5, x6, x7, x8, x9, x10, x11, x12, x13, x14, x15, x16, x17, x18, .int x19])), (x20, .inr (2, [.ref x21, .ref x22, x23, x24, x25, x26, x27, .ref x28, .int x29, x30, x31, x32])), (x33, .inl (x34, 8, .inl x35)), (x36, .inl (x37, 8, .inl x38)), (x39, .inl (x40, 8, .inl x41)), (x42, .inl (x43, x44, .inr (.inl x45)))]
def wd05_7 (x0 x1 x2 x3 x4 : Nat) (x5 x6 : Value) (x7 : Int32) (x8 x9 x10 x11 x12 : Value) (x13 : Nat) (x14 : ClassId) (x15 : Nat → Int32) (x16 : Nat) (x17 : ClassId) (x18 : Nat → Int32) (x19 : Nat) (x20 : ClassId) (x21 : Nat → Int32) (x22 : Nat) (x23 : ClassId) (x24 : Nat → Int32) : va_W := [(x0, .inr (9, [.ref x1, .ref x2, .ref x3, .ref x4, x5, x6, .int x7, x8, x9, x10, x11, x12])), (x13, .inl (x14, 50, .inl x15)), (x16, .inl (x17, 50, .inl x18)), (x19, .inl (x20, 50, .inl x21)), (x22, .inl (x23, 50, .inl x24))]
def wd05_8 (x0 x1 x2 x3 x4 x5 : Nat) (x6 : Value) (x7 x8 : Int32) (x9 x10 x11 x12 : Value) (x13 : Nat) (x14 : ClassId) (x15 : Nat → Int32) (x16 : Nat) (x17 : ClassId) (x18 : Nat → Int32) (x19 : Nat) (x20 : ClassId) (x21 : Nat → Int32) (x22 : Nat) (x23 : ClassId) (x24 : Nat → Int32) (x25 : Nat) (x26 : ClassId) (x27 : Nat → Int32) : va_W := [(x0, .inr (9, [.ref x1, .ref x2, .ref x3, .ref x4, .ref x5, x6, .int x7, .int x8, x9, x10, x11, x12])), (x13, .inl (x14, 6, .inl x15)), (x16, .inl (x17, 50, .inl x18)), (x19, .inl (x20, 50, .inl x21)), (x22, .inl (x23, 50, .inl x24)), (x25, .inl (x26, 50, .inl x27))]
def wd05_9 (x0 x1 x2 x3 x4 x5 : Nat) (x6 : Value) (x7 x8 : Int32) (x9 x10 x11 x12 : Value) (x13 : Nat) (x14 : ClassId) (x15 : Nat → Int32) (x16 : Nat) (x17 : ClassId) (x18 : Nat → Int32) (x19 : Nat) (x20 : ClassId) (x21 : Nat → Int32) (x22 : Nat) (x23 : ClassId) (x24 : Nat → Int32) : va_W := [(x0, .inr (9, [.ref x1, .ref x2, .ref x3, .ref x4, .ref x5, x6, .int x7, .int x8, x9, x10, x11, x12])), (x13, .inl (x14, 50, .inl x15)), (x16, .inl (x17, 50, .inl x18)), (x19, .inl (x20, 50, .inl x21)), (x22, .inl (x23, 50, .inl x24))]
def wd05_10 (x0 : Nat) (x1 : ClassId) (x2 : Nat → Int32) : va_W := [(x0, .inl (x1, 6, .inl x2))]
def wd05_11 (x0 x1 x2 x3 x4 x5 : Nat) (x6 : Value) (x7 x8 : Int32) (x9 x10 x11 x12 : Value) (x13 x14 : Nat) (x15 x16 x17 : Int32) (x18 : Value) (x19 x20 : Int32) (x21 : Nat) (x22 : ClassId) (x23 : Nat → Int32) (x24 : Nat) (x25 : ClassId) (x26 : Nat → Int32) (x27 : Nat) (x28 : ClassId) (x29 : Nat → Int32) (x30 : Nat) (x31 : ClassId) (x32 : Nat → Int32) (x33 : Nat) (x34 : ClassId) (x35 : Nat → Int32) (x36 : Nat) (x37 : ClassId) (x38 : Nat → Int32) : va_W := [(x0, .inr (9, [.ref x1, .ref x2, .ref x3, .ref x4, .ref x5, x6, .int x7, .int x8, x9, x10, x11, x12])), (x13, .inr (8, [.ref x14, .int x15, .int x16, .int x17, x18, .int x19, .int x20])), (x21, .inl (x22, 600, .inl x23)), (x24, .inl (x25, 6, .inl x26)), (x27, .inl (x28, 50, .inl x29)), (x30, .inl (x31, 50, .inl x32)), (x33, .inl (x34, 50, .inl x35)), (x36, .inl (x37, 50, .inl x38))]
def wd05_12 (x0 x1 : Nat) (x2 x3 x4 : Int32) (x5 : Value) (x6 x7 : Int32) (x8 : Nat) (x9 : ClassId) (x10 : Nat → Int32) : va_W := [(x0, .inr (8, [.ref x1, .int x2, .int x3, .int x4, x5, .int x6, .int x7])), (x8, .inl (x9, 600, .inl x10))]
def wd05_13 (x0 x1 : Nat) (x2 x3 x4 : Int32) (x5 : Value) (x6 x7 : Int32) : va_W := [(x0, .inr (8, [.ref x1, .int x2, .int x3, .int x4, x5, .int x6, .int x7]))]
def wd05_14 (x0 x1 : Nat) (x2 : Int32) (x3 x4 : Nat) (x5 x6 x7 : Value) (x8 : Nat) (x9 : ClassId) (x10 : Nat → Int32) (x11 : Nat) (x12 : ClassId) (x13 : Nat → Int32) : va_W := [(x0, .inr (5, [.ref x1, .int x2])), (x3, .inr (1, [.ref x4, x5, x6, x7])), (x8, .inl (x9, 64, .inl x10)), (x11, .inl (x12, 1088, .inl x13))]
def wd05_15 (x0 : Nat) (x1 : Value) (x2 : Nat) (x3 x4 x5 : Value) (x6 : Nat) (x7 : Value) (x8 : Int32) (x9 x10 x11 x12 : Value) (x13 : Nat) (x14 : ClassId) (x15 : Nat → Int32) (x16 : Nat) (x17 : ClassId) (x18 : Nat → Int32) : va_W := [(x0, .inr (9, [x1, .ref x2, x3, x4, x5, .ref x6, x7, .int x8, x9, x10, x11, x12])), (x13, .inl (x14, 6, .inl x15)), (x16, .inl (x17, 50, .inl x18))]
def wd05_16 (x0 : Nat) (x1 : Value) (x2 x3 : Nat) (x4 x5 : Value) (x6 : Nat) (x7 : Value) (x8 : Int32) (x9 x10 x11 x12 : Value) (x13 : Nat) (x14 : ClassId) (x15 : Nat → Int32) (x16 : Nat) (x17 : ClassId) (x18 : Nat → Int32) (x19 : Nat) (x20 : ClassId) (x21 : Nat → Int32) : va_W := [(x0, .inr (9, [x1, .ref x2, .ref x3, x4, x5, .ref x6, x7, .int x8, x9, x10, x11, x12])), (x13, .inl (x14, 50, .inl x15)), (x16, .inl (x17, 6, .inl x18)), (x19, .inl (x20, 50, .inl x21))]
def wd05_17 (x0 x1 : Nat) (x2 x3 x4 : Value) (x5 : Nat) (x6 : ClassId) (x7 : Nat → Int32) : va_W := [(x0, .inr (1, [.ref x1, x2, x3, x4])), (x5, .inl (x6, 64, .inl x7))]
def wd05_18 (x0 x1 x2 x3 x4 : Nat) (x5 x6 x7 x8 x9 x10 x11 x12 : Value) (x13 : Nat) (x14 : ClassId) (x15 : Nat → Int32) (x16 x17 : Nat) (x18 : Value) (x19 x20 x21 : Nat) (x22 : ClassId) (x23 : Nat → Int32) (x24 : Nat) (x25 : ClassId) (x26 : Nat → Int32) (x27 : Nat) (x28 : ClassId) (x29 : Nat → Int32) (x30 x31 x32 : Nat) (x33 x34 x35 x36 x37 x38 x39 : Value) (x40 : Int32) (x41 x42 : Value) (x43 : Nat) (x44 : ClassId) (x45 : Nat → Int32) (x46 : Nat) (x47 : ClassId) (x48 : Nat → Int32) (x49 x50 x51 x52 x53 : Nat) (x54 : Int32) (x55 : Nat) (x56 : ClassId) (x57 : Nat → Int32) (x58 : Nat) (x59 : ClassId) (x60 : Nat → Int32) (x61 : Nat) (x62 : ClassId) (x63 : Nat → Int32) (x64 : Nat) (x65 : ClassId) (x66 : Nat → Int32) (x67 : Nat) (x68 : ClassId) (x69 : Nat → Int32) : va_W := [(x0, .inr (9, [.ref x1, .ref x2, .ref x3, .ref x4, x5, x6, x7, x8, x9, x10, x11, x12])), (x13, .inl (x14, 50, .inl x15)), (x16, .inr (1, [.ref x17, x18, .ref x19, .ref x20])), (x21, .inl (x22, 64, .inl x23)), (x24, .inl (x25, 50, .inl x26)), (x27, .inl (x28, 50, .inl x29)), (x30, .inr (2, [.ref x31, .ref x32, x33, x34, x35, x36, x37, x38, x39, .int x40, x41, x42])), (x43, .inl (x44, 8, .inl x45)), (x46, .inl (x47, 8, .inl x48)), (x49, .inr (4, [.ref x50, .ref x51, .ref x52, .ref x53, .int x54])), (x55, .inl (x56, 8, .inl x57)), (x58, .inl (x59, 150, .inl x60)), (x61, .inl (x62, 150, .inl x63)), (x64, .inl (x65, 150, .inl x66)), (x67, .inl (x68, 50, .inl x69))]
def wd05_19 (x0 x1 : Nat) (x2 : Value) (x3 x4 x5 : Nat) (x6 : ClassId) (x7 : Nat → Int32) : va_W := [(x0, .inr (1, [.ref x1, x2, .ref x3, .ref x4])), (x5, .inl (x6, 64, .inl x7))]
def wd05_20 (x0 x1 x2 x3 x4 : Nat) (x5 x6 x7 x8 x9 x10 x11 x12 : Value) (x13 : Nat) (x14 : ClassId) (x15 : Nat → Int32) (x16 : Nat) (x17 : ClassId) (x18 : Nat → Int32) (x19 : Nat) (x20 : ClassId) (x21 : Nat → Int32) (x22 x23 x24 : Nat) (x25 x26 x27 x28 x29 x30 x31 : Value) (x32 : Int32) (x33 x34 : Value) (x35 : Nat) (x36 : ClassId) (x37 : Nat → Int32) (x38 : Nat) (x39 : ClassId) (x40 : Nat → Int32) (x41 x42 x43 x44 x45 : Nat) (x46 : Int32) (x47 : Nat) (x48 : ClassId) (x49 : Nat → Int32) (x50 : Nat) (x51 : ClassId) (x52 : Nat → Int32) (x53 : Nat) (x54 : ClassId) (x55 : Nat → Int32) (x56 : Nat) (x57 : ClassId) (x58 : Nat → Int32) (x59 : Nat) (x60 : ClassId) (x61 : Nat → Int32) : va_W := [(x0, .inr (9, [.ref x1, .ref x2, .ref x3, .ref x4, x5, x6, x7, x8, x9, x10, x11, x12])), (x13, .inl (x14, 50, .inl x15)), (x16, .inl (x17, 50, .inl x18)), (x19, .inl (x20, 50, .inl x21)), (x22, .inr (2, [.ref x23, .ref x24, x25, x26, x27, x28, x29, x30, x31, .int x32, x33, x34])), (x35, .inl (x36, 8, .inl x37)), (x38, .inl (x39, 8, .inl x40)), (x41, .inr (4, [.ref x42, .ref x43, .ref x44, .ref x45, .int x46])), (x47, .inl (x48, 8, .inl x49)), (x50, .inl (x51, 150, .inl x52)), (x53, .inl (x54, 150, .inl x55)), (x56, .inl (x57, 150, .inl x58)), (x59, .inl (x60, 50, .inl x61))]
def wd05_21 (x0 x1 : Nat) (x2 : Value) (x3 x4 x5 : Nat) (x6 : ClassId) (x7 : Nat → Int32) (x8 x9 x10 : Nat) (x11 x12 x13 x14 x15 x16 x17 : Value) (x18 : Int32) (x19 x20 : Value) (x21 : Nat) (x22 : ClassId) (x23 : Nat → Int32) (x24 : Nat) (x25 : ClassId) (x26 : Nat → Int32) (x27 x28 x29 x30 x31 : Nat) (x32 : Int32) (x33 : Nat) (x34 : ClassId) (x35 : Nat → Int32) (x36 : Nat) (x37 : ClassId) (x38 : Nat → Int32) (x39 : Nat) (x40 : ClassId) (x41 : Nat → Int32) (x42 : Nat) (x43 : ClassId) (x44 : Nat → Int32) : va_W := [(x0, .inr (1, [.ref x1, x2, .ref x3, .ref x4])), (x5, .inl (x6, 64, .inl x7)), (x8, .inr (2, [.ref x9, .ref x10, x11, x12, x13, x14, x15, x16, x17, .int x18, x19, x20])), (x21, .inl (x22, 8, .inl x23)), (x24, .inl (x25, 8, .inl x26)), (x27, .inr (4, [.ref x28, .ref x29, .ref x30, .ref x31, .int x32])), (x33, .inl (x34, 8, .inl x35)), (x36, .inl (x37, 150, .inl x38)), (x39, .inl (x40, 150, .inl x41)), (x42, .inl (x43, 150, .inl x44))]
def wd05_22 (x0 x1 x2 x3 x4 : Nat) (x5 x6 x7 x8 x9 x10 x11 x12 : Value) (x13 : Nat) (x14 : ClassId) (x15 : Nat → Int32) (x16 : Nat) (x17 : ClassId) (x18 : Nat → Int32) (x19 : Nat) (x20 : ClassId) (x21 : Nat → Int32) (x22 : Nat) (x23 : ClassId) (x24 : Nat → Int32) : va_W := [(x0, .inr (9, [.ref x1, .ref x2, .ref x3, .ref x4, x5, x6, x7, x8, x9, x10, x11, x12])), (x13, .inl (x14, 50, .inl x15)), (x16, .inl (x17, 50, .inl x18)), (x19, .inl (x20, 50, .inl x21)), (x22, .inl (x23, 50, .inl x24))]
def wd05_23 (x0 x1 x2 x3 x4 : Nat) (x5 x6 x7 x8 x9 x10 x11 x12 : Value) (x13 : Nat) (x14 : ClassId) (x15 : Nat → Int32) (x16 x17 : Nat) (x18 : Value) (x19 : Nat) (x20 : Value) (x21 : Nat) (x22 x23 x24 x25 x26 : Value) (x27 : Nat) (x28 x29 x30 : Value) (x31 : Int32) (x32 : Value) (x33 : Int32) (x34 : Nat) (x35 : ClassId) (x36 : Nat → Int32) (x37 : Nat) (x38 : ClassId) (x39 : Nat → Int32) (x40 : Nat) (x41 : ClassId) (x42 : Nat → Int32) (x43 : Nat) (x44 : ClassId) (x45 : Nat → Int32) (x46 : Nat) (x47 : ClassId) (x48 : Nat → Int32) : va_W := [(x0, .inr (9, [.ref x1, .ref x2, .ref x3, .ref x4, x5, x6, x7, x8, x9, x10, x11, x12])), (x13, .inl (x14, 50, .inl x15)), (x16, .inr (1, [.ref x17, x18, .ref x19, x20])), (x21, .inr (2, [x22, x23, x24, x25, x26, .ref x27, x28, x29, x30, .int x31, x32, .int x33])), (x34, .inl (x35, 64, .inl x36)), (x37, .inl (x38, 6, .inl x39)), (x40, .inl (x41, 50, .inl x42)), (x43, .inl (x44, 50, .inl x45)), (x46, .inl (x47, 50, .inl x48))]
def wd05_24 (x0 x1 : Nat) (x2 : Value) (x3 : Nat) (x4 : Value) (x5 : Nat) (x6 x7 x8 x9 x10 : Value) (x11 : Nat) (x12 x13 x14 : Value) (x15 : Int32) (x16 : Value) (x17 : Int32) (x18 : Nat) (x19 : ClassId) (x20 : Nat → Int32) (x21 : Nat) (x22 : ClassId) (x23 : Nat → Int32) : va_W := [(x0, .inr (1, [.ref x1, x2, .ref x3, x4])), (x5, .inr (2, [x6, x7, x8, x9, x10, .ref x11, x12, x13, x14, .int x15, x16, .int x17])), (x18, .inl (x19, 64, .inl x20)), (x21, .inl (x22, 6, .inl x23))]
def wd05_25 (x0 x1 : Nat) (x2 : Value) (x3 : Nat) (x4 : Value) (x5 : Nat) (x6 : ClassId) (x7 : Nat → Int32) : va_W := [(x0, .inr (1, [.ref x1, x2, .ref x3, x4])), (x5, .inl (x6, 64, .inl x7))]
def wd05_26 (x0 x1 x2 x3 x4 : Nat) (x5 x6 x7 x8 x9 x10 x11 x12 : Value) (x13 : Nat) (x14 : ClassId) (x15 : Nat → Int32) (x16 : Nat) (x17 x18 x19 x20 x21 : Value) (x22 : Nat) (x23 x24 x25 : Value) (x26 : Int32) (x27 : Value) (x28 : Int32) (x29 : Nat) (x30 : ClassId) (x31 : Nat → Int32) (x32 : Nat) (x33 : ClassId) (x34 : Nat → Int32) (x35 : Nat) (x36 : ClassId) (x37 : Nat → Int32) (x38 : Nat) (x39 : ClassId) (x40 : Nat → Int32) : va_W := [(x0, .inr (9, [.ref x1, .ref x2, .ref x3, .ref x4, x5, x6, x7, x8, x9, x10, x11, x12])), (x13, .inl (x14, 50, .inl x15)), (x16, .inr (2, [x17, x18, x19, x20, x21, .ref x22, x23, x24, x25, .int x26, x27, .int x28])), (x29, .inl (x30, 6, .inl x31)), (x32, .inl (x33, 50, .inl x34)), (x35, .inl (x36, 50, .inl x37)), (x38, .inl (x39, 50, .inl x40))]
def wd05_27 (x0 x1 x2 x3 x4 : Nat) (x5 : Value) (x6 : Nat) (x7 x8 : Int32) (x9 x10 : Value) (x11 x12 : Int32) (x13 : Nat) (x14 : ClassId) (x15 : Nat → Int32) (x16 x17 : Nat) (x18 : Value) (x19 x20 x21 : Nat) (x22 : ClassId) (x23 : Nat → Int32) (x24 : Nat) (x25 : ClassId) (x26 : Nat → Int32) (x27 : Nat) (x28 : ClassId) (x29 : Nat → Int32) (x30 x31 x32 : Nat) (x33 x34 x35 : Value) (x36 : Nat) (x37 x38 x39 : Value) (x40 : Int32) (x41 : Value) (x42 : Int32) (x43 : Nat) (x44 : ClassId) (x45 : Nat → Int32) (x46 : Nat) (x47 : ClassId) (x48 : Nat → Int32) (x49 x50 x51 x52 x53 : Nat) (x54 : Int32) (x55 : Nat) (x56 : ClassId) (x57 : Nat → Int32) (x58 : Nat) (x59 : ClassId) (x60 : Nat → Int32) (x61 : Nat) (x62 : ClassId) (x63 : Nat → Int32) (x64 : Nat) (x65 : ClassId) (x66 : Nat → Int32) (x67 : Nat) (x68 : ClassId) (x69 : Nat → Int32) (x70 : Nat) (x71 : ClassId) (x72 : Nat → Int32) (x73 : Nat) (x74 : ClassId) (x75 : Nat → Int32) : va_W := [(x0, .inr (9, [.ref x1, .ref x2, .ref x3, .ref x4, x5, .ref x6, .int x7, .int x8, x9, x10, .int x11, .int x12])), (x13, .inl (x14, 50, .inl x15)), (x16, .inr (1, [.ref x17, x18, .ref x19, .ref x20])), (x21, .inl (x22, 64, .inl x23)), (x24, .inl (x25, 50, .inl x26)), (x27, .inl (x28, 50, .inl x29)), (x30, .inr (2, [.ref x31, .ref x32, x33, x34, x35, .ref x36, x37, x38, x39, .int x40, x41, .int x42])), (x43, .inl (x44, 8, .inl x45)), (x46, .inl (x47, 8, .inl x48)), (x49, .inr (4, [.ref x50, .ref x51, .ref x52, .ref x53, .int x54])), (x55, .inl (x56, 8, .inl x57)), (x58, .inl (x59, 150, .inl x60)), (x61, .inl (x62, 150, .inl x63)), (x64, .inl (x65, 150, .inl x66)), (x67, .inl (x68, 50, .inl x69)), (x70, .inl (x71, 6, .inl x72)), (x73, .inl (x74, 6, .inl x75))]
def wd05_28 (x0 x1 x2 x3 x4 : Nat) (x5 : Value) (x6 : Nat) (x7 x8 : Int32) (x9 x10 : Value) (x11 x12 : Int32) (x13 : Nat) (x14 : ClassId) (x15 : Nat → Int32) (x16 x17 : Nat) (x18 : Value) (x19 x20 x21 : Nat) (x22 : ClassId) (x23 : Nat → Int32) (x24 : Nat) (x25 : ClassId) (x26 : Nat → Int32) (x27 : Nat) (x28 : ClassId) (x29 : Nat → Int32) (x30 x31 x32 : Nat) (x33 x34 x35 : Value) (x36 : Nat) (x37 x38 x39 : Value) (x40 : Int32) (x41 : Value) (x42 : Int32) (x43 : Nat) (x44 : ClassId) (x45 : Nat → Int32) (x46 : Nat) (x47 : ClassId) (x48 : Nat → Int32) (x49 x50 x51 x52 x53 : Nat) (x54 : Int32) (x55 : Nat) (x56 : ClassId) (x57 : Nat → Int32) (x58 : Nat) (x59 : ClassId) (x60 : Nat → Int32) (x61 : Nat) (x62 : ClassId) (x63 : Nat → Int32) (x64 : Nat) (x65 : ClassId) (x66 : Nat → Int32) (x67 : Nat) (x68 : ClassId) (x69 : Nat → Int32) : va_W := [(x0, .inr (9, [.ref x1, .ref x2, .ref x3, .ref x4, x5, .ref x6, .int x7, .int x8, x9, x10, .int x11, .int x12])), (x13, .inl (x14, 50, .inl x15)), (x16, .inr (1, [.ref x17, x18, .ref x19, .ref x20])), (x21, .inl (x22, 64, .inl x23)), (x24, .inl (x25, 50, .inl x26)), (x27, .inl (x28, 50, .inl x29)), (x30, .inr (2, [.ref x31, .ref x32, x33, x34, x35, .ref x36, x37, x38, x39, .int x40, x41, .int x42])), (x43, .inl (x44, 8, .inl x45)), (x46, .inl (x47, 8, .inl x48)), (x49, .inr (4, [.ref x50, .ref x51, .ref x52, .ref x53, .int x54])), (x55, .inl (x56, 8, .inl x57)), (x58, .inl (x59, 150, .inl x60)), (x61, .inl (x62, 150, .inl x63)), (x64, .inl (x65, 150, .inl x66)), (x67, .inl (x68, 50, .inl x69))]
def wd05_29 (x0 x1 x2 x3 x4 : Nat) (x5 : Value) (x6 : Nat) (x7 x8 : Int32) (x9 x10 : Value) (x11 x12 : Int32) (x13 : Nat) (x14 : ClassId) (x15 : Nat → Int32) (x16 x17 : Nat) (x18 : Value) (x19 x20 x21 x22 x23 : Nat) (x24 x25 x26 : Value) (x27 : Nat) (x28 x29 x30 : Value) (x31 : Int32) (x32 : Value) (x33 : Int32) (x34 : Nat) (x35 : ClassId) (x36 : Nat → Int32) (x37 : Nat) (x38 : ClassId) (x39 : Nat → Int32) (x40 : Nat) (x41 : ClassId) (x42 : Nat → Int32) (x43 : Nat) (x44 : ClassId) (x45 : Nat → Int32) (x46 : Nat) (x47 : ClassId) (x48 : Nat → Int32) : va_W := [(x0, .inr (9, [.ref x1, .ref x2, .ref x3, .ref x4, x5, .ref x6, .int x7, .int x8, x9, x10, .int x11, .int x12])), (x13, .inl (x14, 50, .inl x15)), (x16, .inr (1, [.ref x17, x18, .ref x19, .ref x20])), (x21, .inr (2, [.ref x22, .ref x23, x24, x25, x26, .ref x27, x28, x29, x30, .int x31, x32, .int x33])), (x34, .inl (x35, 64, .inl x36)), (x37, .inl (x38, 6, .inl x39)), (x40, .inl (x41, 50, .inl x42)), (x43, .inl (x44, 50, .inl x45)), (x46, .inl (x47, 50, .inl x48))]
def wd05_30 (x0 x1 x2 x3 x4 : Nat) (x5 : Value) (x6 : Nat) (x7 x8 : Int32) (x9 x10 : Value) (x11 x12 : Int32) (x13 : Nat) (x14 : ClassId) (x15 : Nat → Int32) (x16 : Nat) (x17 : ClassId) (x18 : Nat → Int32) (x19 : Nat) (x20 : ClassId) (x21 : Nat → Int32) : va_W := [(x0, .inr (9, [.ref x1, .ref x2, .ref x3, .ref x4, x5, .ref x6, .int x7, .int x8, x9, x10, .int x11, .int x12])), (x13, .inl (x14, 50, .inl x15)), (x16, .inl (x17, 6, .inl x18)), (x19, .inl (x20, 50, .inl x21))]
def wd05_31 (x0 x1 x2 x3 x4 : Nat) (x5 : Value) (x6 : Nat) (x7 x8 : Int32) (x9 x10 : Value) (x11 x12 : Int32) (x13 : Nat) (x14 : ClassId) (x15 : Nat → Int32) (x16 : Nat) (x17 : ClassId) (x18 : Nat → Int32) : va_W := [(x0, .inr (9, [.ref x1, .ref x2, .ref x3, .ref x4, x5, .ref x6, .int x7, .int x8, x9, x10, .int x11, .int x12])), (x13, .inl (x14, 6, .inl x15)), (x16, .inl (x17, 50, .inl x18))]
def wd05_32 (x0 : Nat) (x1 x2 x3 : Value) (x4 : Nat) (x5 x6 x7 x8 x9 x10 x11 x12 x13 x14 x15 x16 x17 x18 : Value) (x19 : Int32) (x20 x21 x22 x23 x24 : Nat) (x25 : Int32) (x26 : Nat) (x27 : ClassId) (x28 : Nat → Int32) (x29 : Nat) (x30 : ClassId) (x31 : Nat → Int32) (x32 : Nat) (x33 : ClassId) (x34 : Nat → Int32) (x35 : Nat) (x36 : ClassId) (x37 : Nat → Int32) : va_W := [(x0, .inr (10, [x1, x2, x3, .ref x4, x5, x6, x7, x8, x9, x10, x11, x12, x13, x14, x15, x16, x17, x18, .int x19])), (x20, .inr (4, [.ref x21, .ref x22, .ref x23, .ref x24, .int x25])), (x26, .inl (x27, 8, .inl x28)), (x29, .inl (x30, 150, .inl x31)), (x32, .inl (x33, 150, .inl x34)), (x35, .inl (x36, 150, .inl x37))]
def wd05_33 (x0 : Nat) (x1 x2 x3 : Value) (x4 : Nat) (x5 x6 x7 x8 x9 x10 x11 x12 x13 x14 x15 x16 x17 x18 : Value) (x19 : Int32) : va_W := [(x0, .inr (10, [x1, x2, x3, .ref x4, x5, x6, x7, x8, x9, x10, x11, x12, x13, x14, x15, x16, x17, x18, .int x19]))]
def wd05_34 (x0 x1 x2 x3 x4 : Nat) (x5 : Int32) (x6 : Nat) (x7 : ClassId) (x8 : Nat → Int32) (x9 : Nat) (x10 : ClassId) (x11 : Nat → Int32) (x12 : Nat) (x13 : ClassId) (x14 : Nat → Int32) (x15 : Nat) (x16 : ClassId) (x17 : Nat → Int32) : va_W := [(x0, .inr (4, [.ref x1, .ref x2, .ref x3, .ref x4, .int x5])), (x6, .inl (x7, 8, .inl x8)), (x9, .inl (x10, 150, .inl x11)), (x12, .inl (x13, 150, .inl x14)), (x15, .inl (x16, 150, .inl x17))]
def wd05_35 (x0 x1 x2 x3 x4 : Nat) (x5 : Int32) (x6 : Nat) (x7 : ClassId) (x8 : Nat → Int32) : va_W := [(x0, .inr (4, [.ref x1, .ref x2, .ref x3, .ref x4, .int x5])), (x6, .inl (x7, 8, .inl x8))]
def wd05_36 (x0 : Nat) (x1 x2 x3 : Value) (x4 : Nat) (x5 x6 x7 x8 x9 x10 x11 x12 x13 x14 x15 x16 x17 x18 : Value) (x19 : Int32) (x20 : Nat) (x21 : ClassId) (x22 : Nat → Int32) (x23 : Nat) (x24 : ClassId) (x25 : Nat → Int32) (x26 : Nat) (x27 : ClassId) (x28 : Nat → Int32) : va_W := [(x0, .inr (10, [x1, x2, x3, .ref x4, x5, x6, x7, x8, x9, x10, x11, x12, x13, x14, x15, x16, x17, x18, .int x19])), (x20, .inl (x21, 150, .inl x22)), (x23, .inl (x24, 150, .inl x25)), (x26, .inl (x27, 150, .inl x28))]
def wd05_37 (x0 x1 x2 x3 x4 : Nat) (x5 : Int32) (x6 : Nat) (x7 : ClassId) (x8 : Nat → Int32) (x9 : Nat) (x10 : ClassId) (x11 : Nat → Int32) (x12 : Nat) (x13 : ClassId) (x14 : Nat → Int32) (x15 : Nat) (x16 : ClassId) (x17 : Nat → Int32) : va_W := [(x0, .inr (4, [.ref x1, .ref x2, .ref x3, .ref x4, .int x5])), (x6, .inl (x7, 150, .inl x8)), (x9, .inl (x10, 150, .inl x11)), (x12, .inl (x13, 150, .inl x14)), (x15, .inl (x16, 8, .inl x17))]
def wd05_38 (x0 : Nat) (x1 x2 x3 : Value) (x4 : Nat) (x5 x6 x7 x8 x9 x10 x11 x12 x13 x14 x15 x16 x17 x18 : Value) (x19 : Int32) (x20 x21 x22 x23 x24 : Nat) (x25 : Int32) (x26 : Nat) (x27 : ClassId) (x28 : Nat → Int32) (x29 : Nat) (x30 : ClassId) (x31 : Nat → Int32) (x32 : Nat) (x33 : ClassId) (x34 : Nat → Int32) (x35 : Nat) (x36 : ClassId) (x37 : Nat → Int32) (x38 : Nat) (x39 : ClassId) (x40 : Nat) (x41 : Nat → Int64) : va_W := [(x0, .inr (10, [x1, x2, x3, .ref x4, x5, x6, x7, x8, x9, x10, x11, x12, x13, x14, x15, x16, x17, x18, .int x19])), (x20, .inr (4, [.ref x21, .ref x22, .ref x23, .ref x24, .int x25])), (x26, .inl (x27, 8, .inl x28)), (x29, .inl (x30, 150, .inl x31)), (x32, .inl (x33, 150, .inl x34)), (x35, .inl (x36, 150, .inl x37)), (x38, .inl (x39, x40, .inr (.inl x41)))]
def wd05_39 (x0 x1 : Nat) (x2 : Int32) (x3 : Nat) (x4 : ClassId) (x5 : Nat → Int32) : va_W := [(x0, .inr (0, [.ref x1, .int x2])), (x3, .inl (x4, 8, .inl x5))]
def wd05_40 (x0 : Nat) (x1 : Int32) (x2 : Nat) (x3 : ClassId) (x4 : Nat → Int32) : va_W := [(x0, .inr (0, [.null, .int x1])), (x2, .inl (x3, 8, .inl x4))]
def wd05_41 (x0 x1 : Nat) (x2 x3 x4 x5 x6 x7 x8 x9 x10 : Value) (x11 : Nat) (x12 x13 x14 x15 : Value) (x16 : Int32) (x17 x18 x19 : Value) (x20 : Nat) (x21 x22 x23 x24 : Value) (x25 : Int32) (x26 x27 : Value) (x28 : Nat) (x29 : Value) (x30 : Int32) : va_W := [(x0, .inr (10, [.ref x1, x2, x3, x4, x5, x6, x7, x8, x9, x10, .ref x11, x12, x13, x14, x15, .int x16, x17, x18, x19])), (x20, .inr (8, [x21, x22, x23, x24, .int x25, x26, x27])), (x28, .inr (5, [x29, .int x30]))]
def wd05_42 (x0 x1 : Nat) (x2 x3 x4 x5 x6 x7 x8 x9 x10 x11 x12 x13 x14 x15 x16 x17 x18 x19 : Value) (x20 : Nat) (x21 x22 x23 x24 x25 x26 : Value) (x27 : Int32) : va_W := [(x0, .inr (10, [.ref x1, x2, x3, x4, x5, x6, x7, x8, x9, x10, x11, x12, x13, x14, x15, x16, x17, x18, x19])), (x20, .inr (8, [x21, x22, x23, x24, x25, x26, .int x27]))]
def wd05_43 (x0 : Nat) (x1 x2 x3 x4 : Value) (x5 : Int32) (x6 x7 : Value) : va_W := [(x0, .inr (8, [x1, x2, x3, x4, .int x5, x6, x7]))]
def wd05_44 (x0 x1 : Nat) (x2 x3 x4 : Value) (x5 : Int32) (x6 x7 : Value) (x8 : Nat) (x9 : ClassId) (x10 : Nat → Int32) : va_W := [(x0, .inr (8, [.ref x1, x2, x3, x4, .int x5, x6, x7])), (x8, .inl (x9, 600, .inl x10))]
def wd05_45 (x0 x1 : Nat) (x2 x3 x4 x5 x6 x7 x8 x9 x10 x11 x12 x13 x14 x15 x16 x17 x18 x19 : Value) (x20 x21 : Nat) (x22 x23 x24 : Value) (x25 : Int32) (x26 x27 : Value) (x28 : Nat) (x29 : ClassId) (x30 : Nat → Int32) : va_W := [(x0, .inr (10, [.ref x1, x2, x3, x4, x5, x6, x7, x8, x9, x10, x11, x12, x13, x14, x15, x16, x17, x18, x19])), (x20, .inr (8, [.ref x21, x22, x23, x24, .int x25, x26, x27])), (x28, .inl (x29, 600, .inl x30))]
def wd05_46 (x0 x1 : Nat) (x2 x3 x4 : Value) (x5 : Int32) (x6 x7 : Value) : va_W := [(x0, .inr (8, [.ref x1, x2, x3, x4, .int x5, x6, x7]))]
def wd05_47 (x0 x1 : Nat) (x2 x3 x4 x5 x6 x7 x8 x9 x10 x11 x12 x13 x14 x15 x16 x17 x18 x19 : Value) : va_W := [(x0, .inr (10, [.ref x1, x2, x3, x4, x5, x6, x7, x8, x9, x10, x11, x12, x13, x14, x15, x16, x17, x18, x19]))]
def wd05_48 (x0 x1 : Nat) (x2 : Int32) (x3 x4 : Nat) (x5 : Int32) (x6 : Nat) (x7 : ClassId) (x8 : Nat → Int32) (x9 : Nat) (x10 : ClassId) (x11 : Nat → Int32) : va_W := [(x0, .inr (5, [.ref x1, .int x2])), (x3, .inr (5, [.ref x4, .int x5])), (x6, .inl (x7, 1088, .inl x8)), (x9, .inl (x10, 1088, .inl x11))]
def wd05_49 (x0 : Nat) (x1 x2 x3 x4 x5 x6 x7 x8 : Value) (x9 : Nat) (x10 : Value) (x11 x12 : Nat) (x13 x14 x15 : Value) (x16 : Int32) (x17 x18 x19 : Value) (x20 : Nat) (x21 : ClassId) (x22 : Nat → Option Nat) (x23 x24 : Nat) (x25 : Int32) (x26 x27 : Nat) (x28 : Int32) (x29 : Nat) (x30 : ClassId) (x31 : Nat → Int32) (x32 : Nat) (x33 : ClassId) (x34 : Nat → Int32) (x35 x36 : Nat) (x37 x38 x39 : Value) (x40 : Nat) (x41 : ClassId) (x42 : Nat → Int32) (x43 x44 : Nat) (x45 : Int32) (x46 : Nat) (x47 : ClassId) (x48 : Nat → Int32) (x49 x50 : Nat) (x51 : Int32) (x52 : Nat) (x53 : ClassId) (x54 : Nat → Int32) : va_W := [(x0, .inr (10, [x1, x2, x3, x4, x5, x6, x7, x8, .ref x9, x10, .ref x11, .ref x12, x13, x14, x15, .int x16, x17, x18, x19])), (x20, .inl (x21, 3, .inr (.inr (.inr (.inr x22))))), (x23, .inr (5, [.ref x24, .int x25])), (x26, .inr (5, [.ref x27, .int x28])), (x29, .inl (x30, 1088, .inl x31)), (x32, .inl (x33, 1088, .inl x34)), (x35, .inr (1, [.ref x36, x37, x38, x39])), (x40, .inl (x41, 64, .inl x42)), (x43, .inr (5, [.ref x44, .int x45])), (x46, .inl (x47, 1088, .inl x48)), (x49, .inr (5, [.ref x50, .int x51])), (x52, .inl (x53, 1088, .inl x54))]
def wd05_50 (x0 : Nat) (x1 x2 x3 x4 x5 x6 x7 x8 : Value) (x9 : Nat) (x10 : Value) (x11 x12 : Nat) (x13 x14 x15 : Value) (x16 : Int32) (x17 x18 x19 : Value) (x20 : Nat) (x21 : ClassId) (x22 : Nat → Option Nat) (x23 x24 : Nat) (x25 : Int32) (x26 : Nat) (x27 : ClassId) (x28 : Nat → Int32) (x29 x30 : Nat) (x31 : Int32) (x32 : Nat) (x33 : ClassId) (x34 : Nat → Int32) (x35 x36 : Nat) (x37 : Int32) (x38 : Nat) (x39 : ClassId) (x40 : Nat → Int32) : va_W := [(x0, .inr (10, [x1, x2, x3, x4, x5, x6, x7, x8, .ref x9, x10, .ref x11, .ref x12, x13, x14, x15, .int x16, x17, x18, x19])), (x20, .inl (x21, 3, .inr (.inr (.inr (.inr x22))))), (x23, .inr (5, [.ref x24, .int x25])), (x26, .inl (x27, 1088, .inl x28)), (x29, .inr (5, [.ref x30, .int x31])), (x32, .inl (x33, 1088, .inl x34)), (x35, .inr (5, [.ref x36, .int x37])), (x38, .inl (x39, 1088, .inl x40))]
def wd05_51 (x0 : Nat) (x1 x2 x3 x4 x5 x6 x7 x8 : Value) (x9 : Nat) (x10 : Value) (x11 x12 : Nat) (x13 x14 x15 : Value) (x16 : Int32) (x17 x18 x19 : Value) (x20 : Nat) (x21 : ClassId) (x22 : Nat → Option Nat) (x23 x24 : Nat) (x25 : Int32) (x26 x27 : Nat) (x28 : Int32) (x29 : Nat) (x30 : ClassId) (x31 : Nat → Int32) (x32 : Nat) (x33 : ClassId) (x34 : Nat → Int32) (x35 x36 : Nat) (x37 : Int32) (x38 : Nat) (x39 : ClassId) (x40 : Nat → Int32) : va_W := [(x0, .inr (10, [x1, x2, x3, x4, x5, x6, x7, x8, .ref x9, x10, .ref x11, .ref x12, x13, x14, x15, .int x16, x17, x18, x19])), (x20, .inl (x21, 3, .inr (.inr (.inr (.inr x22))))), (x23, .inr (5, [.ref x24, .int x25])), (x26, .inr (5, [.ref x27, .int x28])), (x29, .inl (x30, 1088, .inl x31)), (x32, .inl (x33, 1088, .inl x34)), (x35, .inr (5, [.ref x36, .int x37])), (x38, .inl (x39, 1088, .inl x40))]
def wd05_52 (x0 : Nat) (x1 x2 x3 x4 x5 x6 x7 x8 : Value) (x9 : Nat) (x10 : Value) (x11 x12 : Nat) (x13 x14 x15 : Value) (x16 : Int32) (x17 x18 x19 : Value) (x20 : Nat) (x21 : ClassId) (x22 : Nat → Option Nat) (x23 x24 : Nat) (x25 : Int32) (x26 : Nat) (x27 : ClassId) (x28 : Nat → Int32) (x29 x30 : Nat) (x31 x32 x33 : Value) (x34 : Nat) (x35 : ClassId) (x36 : Nat → Int32) (x37 x38 : Nat) (x39 : Int32) (x40 : Nat) (x41 : ClassId) (x42 : Nat → Int32) : va_W := [(x0, .inr (10, [x1, x2, x3, x4, x5, x6, x7, x8, .ref x9, x10, .ref x11, .ref x12, x13, x14, x15, .int x16, x17, x18, x19])), (x20, .inl (x21, 3, .inr (.inr (.inr (.inr x22))))), (x23, .inr (5, [.ref x24, .int x25])), (x26, .inl (x27, 1088, .inl x28)), (x29, .inr (1, [.ref x30, x31, x32, x33])), (x34, .inl (x35, 64, .inl x36)), (x37, .inr (5, [.ref x38, .int x39])), (x40, .inl (x41, 1088, .inl x42))]
def wd05_53 (x0 : Nat) (x1 x2 x3 x4 x5 x6 : Int32) : va_W := [(x0, .inr (8, [.null, .int x1, .int x2, .int x3, .int x4, .int x5, .int x6]))]
def wd05_54 (x0 x1 : Nat) (x2 x3 x4 x5 x6 x7 : Int32) (x8 : Nat) (x9 : ClassId) (x10 : Nat → Int32) : va_W := [(x0, .inr (8, [.ref x1, .int x2, .int x3, .int x4, .int x5, .int x6, .int x7])), (x8, .inl (x9, 600, .inl x10))]
def wd05_55 (x0 : Nat) (x1 x2 x3 x4 x5 x6 : Int32) (x7 : Nat) (x8 : ClassId) (x9 : Nat → Int32) : va_W := [(x0, .inr (8, [.null, .int x1, .int x2, .int x3, .int x4, .int x5, .int x6])), (x7, .inl (x8, 600, .inl x9))]
def wd05_56 (x0 : Nat) (x1 x2 x3 x4 : Int32) : va_W := [(x0, .inr (2, [.null, .null, .null, .null, .null, .null, .null, .null, .int x1, .int x2, .int x3, .int x4]))]
def wd05_57 (x0 x1 x2 x3 x4 x5 x6 x7 x8 : Nat) (x9 x10 x11 x12 : Int32) (x13 : Nat) (x14 : ClassId) (x15 : Nat → Int32) (x16 : Nat) (x17 : ClassId) (x18 : Nat → Int32) (x19 : Nat) (x20 : ClassId) (x21 : Nat → Int32) (x22 : Nat) (x23 : ClassId) (x24 : Nat → Int32) (x25 : Nat) (x26 : ClassId) (x27 : Nat → Int32) (x28 : Nat) (x29 : ClassId) (x30 : Nat → Int32) (x31 : Nat) (x32 : ClassId) (x33 : Nat → Int32) (x34 : Nat) (x35 : ClassId) (x36 : Nat → Int32) : va_W := [(x0, .inr (2, [.ref x1, .ref x2, .ref x3, .ref x4, .ref x5, .ref x6, .ref x7, .ref x8, .int x9, .int x10, .int x11, .int x12])), (x13, .inl (x14, 8, .inl x15)), (x16, .inl (x17, 8, .inl x18)), (x19, .inl (x20, 4, .inl x21)), (x22, .inl (x23, 4, .inl x24)), (x25, .inl (x26, 6, .inl x27)), (x28, .inl (x29, 6, .inl x30)), (x31, .inl (x32, 36, .inl x33)), (x34, .inl (x35, 8, .inl x36))]
def wd05_58 (x0 : Nat) (x1 x2 x3 x4 : Int32) (x5 : Nat) (x6 : ClassId) (x7 : Nat → Int32) : va_W := [(x0, .inr (2, [.null, .null, .null, .null, .null, .null, .null, .null, .int x1, .int x2, .int x3, .int x4])), (x5, .inl (x6, 8, .inl x7))]
def wd05_59 (x0 x1 : Nat) (x2 x3 x4 x5 : Int32) (x6 : Nat) (x7 : ClassId) (x8 : Nat → Int32) : va_W := [(x0, .inr (2, [.ref x1, .null, .null, .null, .null, .null, .null, .null, .int x2, .int x3, .int x4, .int x5])), (x6, .inl (x7, 8, .inl x8))]
def wd05_60 (x0 x1 : Nat) (x2 x3 x4 x5 : Int32) (x6 : Nat) (x7 : ClassId) (x8 : Nat → Int32) (x9 : Nat) (x10 : ClassId) (x11 : Nat → Int32) : va_W := [(x0, .inr (2, [.ref x1, .null, .null, .null, .null, .null, .null, .null, .int x2, .int x3, .int x4, .int x5])), (x6, .inl (x7, 8, .inl x8)), (x9, .inl (x10, 8, .inl x11))]
def wd05_61 (x0 x1 x2 : Nat) (x3 x4 x5 x6 : Int32) (x7 : Nat) (x8 : ClassId) (x9 : Nat → Int32) (x10 : Nat) (x11 : ClassId) (x12 : Nat → Int32) : va_W := [(x0, .inr (2, [.ref x1, .ref x2, .null, .null, .null, .null, .null, .null, .int x3, .int x4, .int x5, .int x6])), (x7, .inl (x8, 8, .inl x9)), (x10, .inl (x11, 8, .inl x12))]
def wd05_62 (x0 x1 x2 : Nat) (x3 x4 x5 x6 : Int32) (x7 : Nat) (x8 : ClassId) (x9 : Nat → Int32) (x10 : Nat) (x11 : ClassId) (x12 : Nat → Int32) (x13 : Nat) (x14 : ClassId) (x15 : Nat → Int32) : va_W := [(x0, .inr (2, [.ref x1, .ref x2, .null, .null, .null, .null, .null, .null, .int x3, .int x4, .int x5, .int x6])), (x7, .inl (x8, 8, .inl x9)), (x10, .inl (x11, 8, .inl x12)), (x13, .inl (x14, 4, .inl x15))]
def wd05_63 (x0 x1 x2 x3 : Nat) (x4 x5 x6 x7 : Int32) (x8 : Nat) (x9 : ClassId) (x10 : Nat → Int32) (x11 : Nat) (x12 : ClassId) (x13 : Nat → Int32) (x14 : Nat) (x15 : ClassId) (x16 : Nat → Int32) : va_W := [(x0, .inr (2, [.ref x1, .ref x2, .ref x3, .null, .null, .null, .null, .null, .int x4, .int x5, .int x6, .int x7])), (x8, .inl (x9, 8, .inl x10)), (x11, .inl (x12, 8, .inl x13)), (x14, .inl (x15, 4, .inl x16))]
def wd05_64 (x0 x1 x2 x3 : Nat) (x4 x5 x6 x7 : Int32) (x8 : Nat) (x9 : ClassId) (x10 : Nat → Int32) (x11 : Nat) (x12 : ClassId) (x13 : Nat → Int32) (x14 : Nat) (x15 : ClassId) (x16 : Nat → Int32) (x17 : Nat) (x18 : ClassId) (x19 : Nat → Int32) : va_W := [(x0, .inr (2, [.ref x1, .ref x2, .ref x3, .null, .null, .null, .null, .null, .int x4, .int x5, .int x6, .int x7])), (x8, .inl (x9, 8, .inl x10)), (x11, .inl (x12, 8, .inl x13)), (x14, .inl (x15, 4, .inl x16)), (x17, .inl (x18, 4, .inl x19))]
def wd05_65 (x0 x1 x2 x3 x4 : Nat) (x5 x6 x7 x8 : Int32) (x9 : Nat) (x10 : ClassId) (x11 : Nat → Int32) (x12 : Nat) (x13 : ClassId) (x14 : Nat → Int32) (x15 : Nat) (x16 : ClassId) (x17 : Nat → Int32) (x18 : Nat) (x19 : ClassId) (x20 : Nat → Int32) : va_W := [(x0, .inr (2, [.ref x1, .ref x2, .ref x3, .ref x4, .null, .null, .null, .null, .int x5, .int x6, .int x7, .int x8])), (x9, .inl (x10, 8, .inl x11)), (x12, .inl (x13, 8, .inl x14)), (x15, .inl (x16, 4, .inl x17)), (x18, .inl (x19, 4, .inl x20))]
def wd05_66 (x0 x1 x2 x3 x4 : Nat) (x5 x6 x7 x8 : Int32) (x9 : Nat) (x10 : ClassId) (x11 : Nat → Int32) (x12 : Nat) (x13 : ClassId) (x14 : Nat → Int32) (x15 : Nat) (x16 : ClassId) (x17 : Nat → Int32) (x18 : Nat) (x19 : ClassId) (x20 : Nat → Int32) (x21 : Nat) (x22 : ClassId) (x23 : Nat → Int32) : va_W := [(x0, .inr (2, [.ref x1, .ref x2, .ref x3, .ref x4, .null, .null, .null, .null, .int x5, .int x6, .int x7, .int x8])), (x9, .inl (x10, 8, .inl x11)), (x12, .inl (x13, 8, .inl x14)), (x15, .inl (x16, 4, .inl x17)), (x18, .inl (x19, 4, .inl x20)), (x21, .inl (x22, 6, .inl x23))]
def wd05_67 (x0 x1 x2 x3 x4 x5 : Nat) (x6 x7 x8 x9 : Int32) (x10 : Nat) (x11 : ClassId) (x12 : Nat → Int32) (x13 : Nat) (x14 : ClassId) (x15 : Nat → Int32) (x16 : Nat) (x17 : ClassId) (x18 : Nat → Int32) (x19 : Nat) (x20 : ClassId) (x21 : Nat → Int32) (x22 : Nat) (x23 : ClassId) (x24 : Nat → Int32) : va_W := [(x0, .inr (2, [.ref x1, .ref x2, .ref x3, .ref x4, .ref x5, .null, .null, .null, .int x6, .int x7, .int x8, .int x9])), (x10, .inl (x11, 8, .inl x12)), (x13, .inl (x14, 8, .inl x15)), (x16, .inl (x17, 4, .inl x18)), (x19, .inl (x20, 4, .inl x21)), (x22, .inl (x23, 6, .inl x24))]
def wd05_68 (x0 x1 x2 x3 x4 x5 : Nat) (x6 x7 x8 x9 : Int32) (x10 : Nat) (x11 : ClassId) (x12 : Nat → Int32) (x13 : Nat) (x14 : ClassId) (x15 : Nat → Int32) (x16 : Nat) (x17 : ClassId) (x18 : Nat → Int32) (x19 : Nat) (x20 : ClassId) (x21 : Nat → Int32) (x22 : Nat) (x23 : ClassId) (x24 : Nat → Int32) (x25 : Nat) (x26 : ClassId) (x27 : Nat → Int32) : va_W := [(x0, .inr (2, [.ref x1, .ref x2, .ref x3, .ref x4, .ref x5, .null, .null, .null, .int x6, .int x7, .int x8, .int x9])), (x10, .inl (x11, 8, .inl x12)), (x13, .inl (x14, 8, .inl x15)), (x16, .inl (x17, 4, .inl x18)), (x19, .inl (x20, 4, .inl x21)), (x22, .inl (x23, 6, .inl x24)), (x25, .inl (x26, 6, .inl x27))]
def wd05_69 (x0 x1 x2 x3 x4 x5 x6 : Nat) (x7 x8 x9 x10 : Int32) (x11 : Nat) (x12 : ClassId) (x13 : Nat → Int32) (x14 : Nat) (x15 : ClassId) (x16 : Nat → Int32) (x17 : Nat) (x18 : ClassId) (x19 : Nat → Int32) (x20 : Nat) (x21 : ClassId) (x22 : Nat → Int32) (x23 : Nat) (x24 : ClassId) (x25 : Nat → Int32) (x26 : Nat) (x27 : ClassId) (x28 : Nat → Int32) : va_W := [(x0, .inr (2, [.ref x1, .ref x2, .ref x3, .ref x4, .ref x5, .ref x6, .null, .null, .int x7, .int x8, .int x9, .int x10])), (x11, .inl (x12, 8, .inl x13)), (x14, .inl (x15, 8, .inl x16)), (x17, .inl (x18, 4, .inl x19)), (x20, .inl (x21, 4, .inl x22)), (x23, .inl (x24, 6, .inl x25)), (x26, .inl (x27, 6, .inl x28))]
def wd05_70 (x0 x1 x2 x3 x4 x5 x6 : Nat) (x7 x8 x9 x10 : Int32) (x11 : Nat) (x12 : ClassId) (x13 : Nat → Int32) (x14 : Nat) (x15 : ClassId) (x16 : Nat → Int32) (x17 : Nat) (x18 : ClassId) (x19 : Nat → Int32) (x20 : Nat) (x21 : ClassId) (x22 : Nat → Int32) (x23 : Nat) (x24 : ClassId) (x25 : Nat → Int32) (x26 : Nat) (x27 : ClassId) (x28 : Nat → Int32) (x29 : Nat) (x30 : ClassId) (x31 : Nat → Int32) : va_W := [(x0, .inr (2, [.ref x1, .ref x2, .ref x3, .ref x4, .ref x5, .ref x6, .null, .null, .int x7, .int x8, .int x9, .int x10])), (x11, .inl (x12, 8, .inl x13)), (x14, .inl (x15, 8, .inl x16)), (x17, .inl (x18, 4, .inl x19)), (x20, .inl (x21, 4, .inl x22)), (x23, .inl (x24, 6, .inl x25)), (x26, .inl (x27, 6, .inl x28)), (x29, .inl (x30, 36, .inl x31))]
def wd05_71 (x0 x1 x2 x3 x4 x5 x6 x7 : Nat) (x8 x9 x10 x11 : Int32) (x12 : Nat) (x13 : ClassId) (x14 : Nat → Int32) (x15 : Nat) (x16 : ClassId) (x17 : Nat → Int32) (x18 : Nat) (x19 : ClassId) (x20 : Nat → Int32) (x21 : Nat) (x22 : ClassId) (x23 : Nat → Int32) (x24 : Nat) (x25 : ClassId) (x26 : Nat → Int32) (x27 : Nat) (x28 : ClassId) (x29 : Nat → Int32) (x30 : Nat) (x31 : ClassId) (x32 : Nat → Int32) : va_W := [(x0, .inr (2, [.ref x1, .ref x2, .ref x3, .ref x4, .ref x5, .ref x6, .ref x7, .null, .int x8, .int x9, .int x10, .int x11])), (x12, .inl (x13, 8, .inl x14)), (x15, .inl (x16, 8, .inl x17)), (x18, .inl (x19, 4, .inl x20)), (x21, .inl (x22, 4, .inl x23)), (x24, .inl (x25, 6, .inl x26)), (x27, .inl (x28, 6, .inl x29)), (x30, .inl (x31, 36, .inl x32))]
def wd05_72 (x0 x1 x2 x3 x4 x5 x6 x7 : Nat) (x8 x9 x10 x11 : Int32) (x12 : Nat) (x13 : ClassId) (x14 : Nat → Int32) (x15 : Nat) (x16 : ClassId) (x17 : Nat → Int32) (x18 : Nat) (x19 : ClassId) (x20 : Nat → Int32) (x21 : Nat) (x22 : ClassId) (x23 : Nat → Int32) (x24 : Nat) (x25 : ClassId) (x26 : Nat → Int32) (x27 : Nat) (x28 : ClassId) (x29 : Nat → Int32) (x30 : Nat) (x31 : ClassId) (x32 : Nat → Int32) (x33 : Nat) (x34 : ClassId) (x35 : Nat → Int32) : va_W := [(x0, .inr (2, [.ref x1, .ref x2, .ref x3, .ref x4, .ref x5, .ref x6, .ref x7, .null, .int x8, .int x9, .int x10, .int x11])), (x12, .inl (x13, 8, .inl x14)), (x15, .inl (x16, 8, .inl x17)), (x18, .inl (x19, 4, .inl x20)), (x21, .inl (x22, 4, .inl x23)), (x24, .inl (x25, 6, .inl x26)), (x27, .inl (x28, 6, .inl x29)), (x30, .inl (x31, 36, .inl x32)), (x33, .inl (x34, 8, .inl x35))]
def wd05_73 (x0 : Nat) (x1 : Int32) : va_W := [(x0, .inr (4, [.null, .null, .null, .null, .int x1]))]
def wd05_74 (x0 : Nat) (x1 : Int32) (x2 : Nat) (x3 : ClassId) (x4 : Nat → Int32) : va_W := [(x0, .inr (4, [.null, .null, .null, .null, .int x1])), (x2, .inl (x3, 150, .inl x4))]
def wd05_75 (x0 x1 : Nat) (x2 : Int32) (x3 : Nat) (x4 : ClassId) (x5 : Nat → Int32) : va_W := [(x0, .inr (4, [.ref x1, .null, .null, .null, .int x2])), (x3, .inl (x4, 150, .inl x5))]
def wd05_76 (x0 x1 : Nat) (x2 : Int32) (x3 : Nat) (x4 : ClassId) (x5 : Nat → Int32) (x6 : Nat) (x7 : ClassId) (x8 : Nat → Int32) : va_W := [(x0, .inr (4, [.ref x1, .null, .null, .null, .int x2])), (x3, .inl (x4, 150, .inl x5)), (x6, .inl (x7, 150, .inl x8))]
def wd05_77 (x0 x1 x2 : Nat) (x3 : Int32) (x4 : Nat) (x5 : ClassId) (x6 : Nat → Int32) (x7 : Nat) (x8 : ClassId) (x9 : Nat → Int32) : va_W := [(x0, .inr (4, [.ref x1, .ref x2, .null, .null, .int x3])), (x4, .inl (x5, 150, .inl x6)), (x7, .inl (x8, 150, .inl x9))]
def wd05_78 (x0 x1 x2 : Nat) (x3 : Int32) (x4 : Nat) (x5 : ClassId) (x6 : Nat → Int32) (x7 : Nat) (x8 : ClassId) (x9 : Nat → Int32) (x10 : Nat) (x11 : ClassId) (x12 : Nat → Int32) : va_W := [(x0, .inr (4, [.ref x1, .ref x2, .null, .null, .int x3])), (x4, .inl (x5, 150, .inl x6)), (x7, .inl (x8, 150, .inl x9)), (x10, .inl (x11, 150, .inl x12))]
def wd05_79 (x0 x1 x2 x3 : Nat) (x4 : Int32) (x5 : Nat) (x6 : ClassId) (x7 : Nat → Int32) (x8 : Nat) (x9 : ClassId) (x10 : Nat → Int32) (x11 : Nat) (x12 : ClassId) (x13 : Nat → Int32) : va_W := [(x0, .inr (4, [.ref x1, .ref x2, .ref x3, .null, .int x4])), (x5, .inl (x6, 150, .inl x7)), (x8, .inl (x9, 150, .inl x10)), (x11, .inl (x12, 150, .inl x13))]
def wd05_80 (x0 x1 x2 x3 : Nat) (x4 : Int32) (x5 : Nat) (x6 : ClassId) (x7 : Nat → Int32) (x8 : Nat) (x9 : ClassId) (x10 : Nat → Int32) (x11 : Nat) (x12 : ClassId) (x13 : Nat → Int32) (x14 : Nat) (x15 : ClassId) (x16 : Nat → Int32) : va_W := [(x0, .inr (4, [.ref x1, .ref x2, .ref x3, .null, .int x4])), (x5, .inl (x6, 150, .inl x7)), (x8, .inl (x9, 150, .inl x10)), (x11, .inl (x12, 150, .inl x13)), (x14, .inl (x15, 8, .inl x16))]
def wd05_81 (x0 x1 x2 x3 x4 : Nat) (x5 : Int32) (x6 : Nat) (x7 : ClassId) (x8 : Nat → Int32) (x9 : Nat) (x10 : ClassId) (x11 : Nat → Int32) : va_W := [(x0, .inr (4, [.ref x1, .ref x2, .ref x3, .ref x4, .int x5])), (x6, .inl (x7, 150, .inl x8)), (x9, .inl (x10, 150, .inl x11))]
def wd05_82 (x0 : Nat) (x1 x2 x3 x4 x5 x6 : Int32) : va_W := [(x0, .inr (9, [.null, .null, .null, .null, .null, .null, .int x1, .int x2, .int x3, .int x4, .int x5, .int x6]))]
def wd05_83 (x0 x1 x2 x3 x4 x5 x6 : Nat) (x7 x8 x9 x10 x11 x12 : Int32) (x13 : Nat) (x14 : ClassId) (x15 : Nat → Int32) (x16 : Nat) (x17 : ClassId) (x18 : Nat → Int32) (x19 : Nat) (x20 : ClassId) (x21 : Nat → Int32) (x22 : Nat) (x23 : ClassId) (x24 : Nat → Int32) (x25 : Nat) (x26 : ClassId) (x27 : Nat → Int32) (x28 : Nat) (x29 : ClassId) (x30 : Nat → Int32) : va_W := [(x0, .inr (9, [.ref x1, .ref x2, .ref x3, .ref x4, .ref x5, .ref x6, .int x7, .int x8, .int x9, .int x10, .int x11, .int x12])), (x13, .inl (x14, 50, .inl x15)), (x16, .inl (x17, 50, .inl x18)), (x19, .inl (x20, 50, .inl x21)), (x22, .inl (x23, 50, .inl x24)), (x25, .inl (x26, 6, .inl x27)), (x28, .inl (x29, 6, .inl x30))]
def wd05_84 (x0 : Nat) (x1 x2 x3 x4 x5 x6 : Int32) (x7 : Nat) (x8 : ClassId) (x9 : Nat → Int32) : va_W := [(x0, .inr (9, [.null, .null, .null, .null, .null, .null, .int x1, .int x2, .int x3, .int x4, .int x5, .int x6])), (x7, .inl (x8, 50, .inl x9))]
def wd05_85 (x0 x1 : Nat) (x2 x3 x4 x5 x6 x7 : Int32) (x8 : Nat) (x9 : ClassId) (x10 : Nat → Int32) : va_W := [(x0, .inr (9, [.ref x1, .null, .null, .null, .null, .null, .int x2, .int x3, .int x4, .int x5, .int x6, .int x7])), (x8, .inl (x9, 50, .inl x10))]
def wd05_86 (x0 x1 : Nat) (x2 x3 x4 x5 x6 x7 : Int32) (x8 : Nat) (x9 : ClassId) (x10 : Nat → Int32) (x11 : Nat) (x12 : ClassId) (x13 : Nat → Int32) : va_W := [(x0, .inr (9, [.ref x1, .null, .null, .null, .null, .null, .int x2, .int x3, .int x4, .int x5, .int x6, .int x7])), (x8, .inl (x9, 50, .inl x10)), (x11, .inl (x12, 50, .inl x13))]
def wd05_87 (x0 x1 x2 : Nat) (x3 x4 x5 x6 x7 x8 : Int32) (x9 : Nat) (x10 : ClassId) (x11 : Nat → Int32) (x12 : Nat) (x13 : ClassId) (x14 : Nat → Int32) : va_W := [(x0, .inr (9, [.ref x1, .ref x2, .null, .null, .null, .null, .int x3, .int x4, .int x5, .int x6, .int x7, .int x8])), (x9, .inl (x10, 50, .inl x11)), (x12, .inl (x13, 50, .inl x14))]
def wd05_88 (x0 x1 x2 : Nat) (x3 x4 x5 x6 x7 x8 : Int32) (x9 : Nat) (x10 : ClassId) (x11 : Nat → Int32) (x12 : Nat) (x13 : ClassId) (x14 : Nat → Int32) (x15 : Nat) (x16 : ClassId) (x17 : Nat → Int32) : va_W := [(x0, .inr (9, [.ref x1, .ref x2, .null, .null, .null, .null, .int x3, .int x4, .int x5, .int x6, .int x7, .int x8])), (x9, .inl (x10, 50, .inl x11)), (x12, .inl (x13, 50, .inl x14)), (x15, .inl (x16, 50, .inl x17))]
def wd05_89 (x0 x1 x2 x3 : Nat) (x4 x5 x6 x7 x8 x9 : Int32) (x10 : Nat) (x11 : ClassId) (x12 : Nat → Int32) (x13 : Nat) (x14 : ClassId) (x15 : Nat → Int32) (x16 : Nat) (x17 : ClassId) (x18 : Nat → Int32) : va_W := [(x0, .inr (9, [.ref x1, .ref x2, .ref x3, .null, .null, .null, .int x4, .int x5, .int x6, .int x7, .int x8, .int x9])), (x10, .inl (x11, 50, .inl x12)), (x13, .inl (x14, 50, .inl x15)), (x16, .inl (x17, 50, .inl x18))]
def wd05_90 (x0 x1 x2 x3 : Nat) (x4 x5 x6 x7 x8 x9 : Int32) (x10 : Nat) (x11 : ClassId) (x12 : Nat → Int32) (x13 : Nat) (x14 : ClassId) (x15 : Nat → Int32) (x16 : Nat) (x17 : ClassId) (x18 : Nat → Int32) (x19 : Nat) (x20 : ClassId) (x21 : Nat → Int32) : va_W := [(x0, .inr (9, [.ref x1, .ref x2, .ref x3, .null, .null, .null, .int x4, .int x5, .int x6, .int x7, .int x8, .int x9])), (x10, .inl (x11, 50, .inl x12)), (x13, .inl (x14, 50, .inl x15)), (x16, .inl (x17, 50, .inl x18)), (x19, .inl (x20, 50, .inl x21))]
def wd05_91 (x0 x1 x2 x3 x4 : Nat) (x5 x6 x7 x8 x9 x10 : Int32) (x11 : Nat) (x12 : ClassId) (x13 : Nat → Int32) (x14 : Nat) (x15 : ClassId) (x16 : Nat → Int32) (x17 : Nat) (x18 : ClassId) (x19 : Nat → Int32) (x20 : Nat) (x21 : ClassId) (x22 : Nat → Int32) : va_W := [(x0, .inr (9, [.ref x1, .ref x2, .ref x3, .ref x4, .null, .null, .int x5, .int x6, .int x7, .int x8, .int x9, .int x10])), (x11, .inl (x12, 50, .inl x13)), (x14, .inl (x15, 50, .inl x16)), (x17, .inl (x18, 50, .inl x19)), (x20, .inl (x21, 50, .inl x22))]
def wd05_92 (x0 x1 x2 x3 x4 : Nat) (x5 x6 x7 x8 x9 x10 : Int32) (x11 : Nat) (x12 : ClassId) (x13 : Nat → Int32) (x14 : Nat) (x15 : ClassId) (x16 : Nat → Int32) (x17 : Nat) (x18 : ClassId) (x19 : Nat → Int32) (x20 : Nat) (x21 : ClassId) (x22 : Nat → Int32) (x23 : Nat) (x24 : ClassId) (x25 : Nat → Int32) : va_W := [(x0, .inr (9, [.ref x1, .ref x2, .ref x3, .ref x4, .null, .null, .int x5, .int x6, .int x7, .int x8, .int x9, .int x10])), (x11, .inl (x12, 50, .inl x13)), (x14, .inl (x15, 50, .inl x16)), (x17, .inl (x18, 50, .inl x19)), (x20, .inl (x21, 50, .inl x22)), (x23, .inl (x24, 6, .inl x25))]
def wd05_93 (x0 x1 x2 x3 x4 x5 : Nat) (x6 x7 x8 x9 x10 x11 : Int32) (x12 : Nat) (x13 : ClassId) (x14 : Nat → Int32) (x15 : Nat) (x16 : ClassId) (x17 : Nat → Int32) (x18 : Nat) (x19 : ClassId) (x20 : Nat → Int32) (x21 : Nat) (x22 : ClassId) (x23 : Nat → Int32) (x24 : Nat) (x25 : ClassId) (x26 : Nat → Int32) : va_W := [(x0, .inr (9, [.ref x1, .ref x2, .ref x3, .ref x4, .ref x5, .null, .int x6, .int x7, .int x8, .int x9, .int x10, .int x11])), (x12, .inl (x13, 50, .inl x14)), (x15, .inl (x16, 50, .inl x17)), (x18, .inl (x19, 50, .inl x20)), (x21, .inl (x22, 50, .inl x23)), (x24, .inl (x25, 6, .inl x26))]
def wd05_94 (x0 x1 x2 x3 x4 x5 : Nat) (x6 x7 x8 x9 x10 x11 : Int32) (x12 : Nat) (x13 : ClassId) (x14 : Nat → Int32) (x15 : Nat) (x16 : ClassId) (x17 : Nat → Int32) (x18 : Nat) (x19 : ClassId) (x20 : Nat → Int32) (x21 : Nat) (x22 : ClassId) (x23 : Nat → Int32) (x24 : Nat) (x25 : ClassId) (x26 : Nat → Int32) (x27 : Nat) (x28 : ClassId) (x29 : Nat → Int32) : va_W := [(x0, .inr (9, [.ref x1, .ref x2, .ref x3, .ref x4, .ref x5, .null, .int x6, .int x7, .int x8, .int x9, .int x10, .int x11])), (x12, .inl (x13, 50, .inl x14)), (x15, .inl (x16, 50, .inl x17)), (x18, .inl (x19, 50, .inl x20)), (x21, .inl (x22, 50, .inl x23)), (x24, .inl (x25, 6, .inl x26)), (x27, .inl (x28, 6, .inl x29))]
def wd05_95 (x0 x1 : Nat) (x2 x3 x4 x5 : Value) (x6 x7 x8 : Nat) (x9 x10 : Value) (x11 : Int32) (x12 x13 : Value) (x14 : Nat) (x15 : ClassId) (x16 : Nat → Int32) (x17 : Nat) (x18 : ClassId) (x19 : Nat → Int32) (x20 : Nat) (x21 : ClassId) (x22 : Nat → Int32) : va_W := [(x0, .inr (1, [.null, .null, .null, .null])), (x1, .inr (2, [x2, x3, x4, x5, .ref x6, .ref x7, .ref x8, x9, x10, .int x11, x12, x13])), (x14, .inl (x15, 36, .inl x16)), (x17, .inl (x18, 6, .inl x19)), (x20, .inl (x21, 6, .inl x22))]
def wd05_96 (x0 x1 x2 x3 x4 x5 : Nat) (x6 x7 x8 x9 : Value) (x10 x11 x12 : Nat) (x13 x14 : Value) (x15 : Int32) (x16 x17 : Value) (x18 : Nat) (x19 : ClassId) (x20 : Nat → Int32) (x21 : Nat) (x22 : ClassId) (x23 : Nat → Int32) (x24 : Nat) (x25 : ClassId) (x26 : Nat → Int32) (x27 : Nat) (x28 : ClassId) (x29 : Nat → Int32) (x30 : Nat) (x31 : ClassId) (x32 : Nat → Int32) : va_W := [(x0, .inr (1, [.ref x1, .ref x2, .ref x3, .ref x4])), (x5, .inr (2, [x6, x7, x8, x9, .ref x10, .ref x11, .ref x12, x13, x14, .int x15, x16, x17])), (x18, .inl (x19, 36, .inl x20)), (x21, .inl (x22, 6, .inl x23)), (x24, .inl (x25, 6, .inl x26)), (x27, .inl (x28, 64, .inl x29)), (x30, .inl (x31, 6, .inl x32))]
def wd05_97 (x0 x1 : Nat) (x2 x3 x4 x5 : Value) (x6 x7 x8 : Nat) (x9 x10 : Value) (x11 : Int32) (x12 x13 : Value) (x14 : Nat) (x15 : ClassId) (x16 : Nat → Int32) (x17 : Nat) (x18 : ClassId) (x19 : Nat → Int32) (x20 : Nat) (x21 : ClassId) (x22 : Nat → Int32) (x23 : Nat) (x24 : ClassId) (x25 : Nat → Int32) : va_W := [(x0, .inr (1, [.null, .null, .null, .null])), (x1, .inr (2, [x2, x3, x4, x5, .ref x6, .ref x7, .ref x8, x9, x10, .int x11, x12, x13])), (x14, .inl (x15, 36, .inl x16)), (x17, .inl (x18, 6, .inl x19)), (x20, .inl (x21, 6, .inl x22)), (x23, .inl (x24, 64, .inl x25))]
def wd05_98 (x0 x1 x2 : Nat) (x3 x4 x5 x6 : Value) (x7 x8 x9 : Nat) (x10 x11 : Value) (x12 : Int32) (x13 x14 : Value) (x15 : Nat) (x16 : ClassId) (x17 : Nat → Int32) (x18 : Nat) (x19 : ClassId) (x20 : Nat → Int32) (x21 : Nat) (x22 : ClassId) (x23 : Nat → Int32) (x24 : Nat) (x25 : ClassId) (x26 : Nat → Int32) : va_W := [(x0, .inr (1, [.ref x1, .null, .null, .null])), (x2, .inr (2, [x3, x4, x5, x6, .ref x7, .ref x8, .ref x9, x10, x11, .int x12, x13, x14])), (x15, .inl (x16, 36, .inl x17)), (x18, .inl (x19, 6, .inl x20)), (x21, .inl (x22, 6, .inl x23)), (x24, .inl (x25, 64, .inl x26))]
def wd05_99 (x0 x1 x2 : Nat) (x3 x4 x5 x6 : Value) (x7 x8 x9 : Nat) (x10 x11 : Value) (x12 : Int32) (x13 x14 : Value) (x15 : Nat) (x16 : ClassId) (x17 : Nat → Int32) (x18 : Nat) (x19 : ClassId) (x20 : Nat → Int32) (x21 : Nat) (x22 : ClassId) (x23 : Nat → Int32) (x24 : Nat) (x25 : ClassId) (x26 : Nat → Int32) (x27 : Nat) (x28 : ClassId) (x29 : Nat → Int32) : va_W := [(x0, .inr (1, [.ref x1, .null, .null, .null])), (x2, .inr (2, [x3, x4, x5, x6, .ref x7, .ref x8, .ref x9, x10, x11, .int x12, x13, x14])), (x15, .inl (x16, 36, .inl x17)), (x18, .inl (x19, 6, .inl x20)), (x21, .inl (x22, 6, .inl x23)), (x24, .inl (x25, 64, .inl x26)), (x27, .inl (x28, 6, .inl x29))]
def wd05_100 (x0 x1 x2 x3 : Nat) (x4 x5 x6 x7 : Value) (x8 x9 x10 : Nat) (x11 x12 : Value) (x13 : Int32) (x14 x15 : Value) (x16 : Nat) (x17 : ClassId) (x18 : Nat → Int32) (x19 : Nat) (x20 : ClassId) (x21 : Nat → Int32) (x22 : Nat) (x23 : ClassId) (x24 : Nat → Int32) (x25 : Nat) (x26 : ClassId) (x27 : Nat → Int32) (x28 : Nat) (x29 : ClassId) (x30 : Nat → Int32) : va_W := [(x0, .inr (1, [.ref x1, .ref x2, .null, .null])), (x3, .inr (2, [x4, x5, x6, x7, .ref x8, .ref x9, .ref x10, x11, x12, .int x13, x14, x15])), (x16, .inl (x17, 36, .inl x18)), (x19, .inl (x20, 6, .inl x21)), (x22, .inl (x23, 6, .inl x24)), (x25, .inl (x26, 64, .inl x27)), (x28, .inl (x29, 6, .inl x30))]
def wd05_101 (x0 x1 x2 x3 : Nat) (x4 : ClassId) (x5 : Nat → Int32) (x6 : Nat) (x7 x8 x9 x10 : Value) (x11 x12 x13 : Nat) (x14 x15 : Value) (x16 : Int32) (x17 x18 : Value) (x19 : Nat) (x20 : ClassId) (x21 : Nat → Int32) (x22 : Nat) (x23 : ClassId) (x24 : Nat → Int32) (x25 : Nat) (x26 : ClassId) (x27 : Nat → Int32) : va_W := [(x0, .inr (1, [.ref x1, .ref x2, .null, .null])), (x3, .inl (x4, 64, .inl x5)), (x6, .inr (2, [x7, x8, x9, x10, .ref x11, .ref x12, .ref x13, x14, x15, .int x16, x17, x18])), (x19, .inl (x20, 36, .inl x21)), (x22, .inl (x23, 6, .inl x24)), (x25, .inl (x26, 6, .inl x27))]
theorem ui_X2_seenFrom_X2 : ∀ w ∈ u_ws RX2 TX2 12, w ∈ wsX2_seenFrom := uiM mbX2_seenFrom euX2 (by decide +kernel)
theorem uw_X2_seenFrom_f33 : (.fieldLink RX2 33 "MarchHares$Down" "near" "[I" : Cond) ∈ wsX2_seenFrom := mbX2_seenFrom 195 (by decide +kernel)
theorem uw_X2_seenFrom_f36 : (.fieldLink RX2 36 "MarchHares$Down" "forms" "I" : Cond) ∈ wsX2_seenFrom := mbX2_seenFrom 720 (by decide +kernel)
theorem uw_X2_seenFrom_iniRX10 : (.initialized RX10 : Cond) ∈ wsX2_seenFrom := mbX2_seenFrom 2 (by decide +kernel)
theorem uw_X2_seenFrom_stX10_holds : (.static yX10_holds : Cond) ∈ wsX2_seenFrom := mbX2_seenFrom 2052 (by decide +kernel)
set_option maxHeartbeats 4000000 in
set_option maxRecDepth 100000 in
theorem kb_X2_seenFrom_29 {p : Program} {l : Launch} {e : Env} {s : State} {m : MethodId} {args : Array Value} {below : List Frame} {meth : Method} {c : Code} {A : Nat → Prop} (dC : Nat → ClassId) (dI : Nat → Nat → Nat) (cyB cyI cyJ cyP : ClassId) (a0 jmE : Nat) (jmz jmA jlc jld jkJ jiT jj1 ja4 jaP jkk : Value) (jaN : Int32) (jmJ : Nat → Int32) (Q : Int32 → Prop) (K4 : Int32 → Int32 → Int32 → Prop) (hK4 : ∀ (H : Heap) (locs : List Loc) (ls : Array Slot) (l1 l2 l3 : Int32), va_P (dC, dI) vwCl (wd05_0 a0 jmz jmA jlc jld jkJ jiT jj1 jmE jaN ja4 jaP jkk jmE cyI jmJ) H → va_D A (wd05_0 a0 jmz jmA jlc jld jkJ jiT jj1 jmE jaN ja4 jaP jkk jmE cyI jmJ) → va_S A s.heap H locs → lv_has ls 4 [(0, .ref a0), (1, .int l1), (2, .int l2), (3, .int l3)] → K4 l1 l2 l3 → W p l e (headSpec wsX2_seenFrom ({ frames := 1, cells := 0, slots := 0, locals := 21 })).room s m args below meth c H locs 0 0 (MQ below (va_Qi (fun (r : Int32) (_ : Unit) => Q r ) (cB (dC, dI) (kT cyB cyI cyJ cyP) A (fun u : Unit => ((wd05_0 a0 jmz jmA jlc jld jkJ jiT jj1 jmE jaN ja4 jaP jkk jmE cyI jmJ) : va_W))) A) args s 0 0 A) (F0 m 4 ls [])) (C0 : cfx p s m args meth c cX2_seenFrom (some .int) wsX2_seenFrom RX2 4 A (dC, dI) (kT cyB cyI cyJ cyP)) : ∀ (H : Heap) (locs : List Loc) (ls : Array Slot) (l1 l2 l3 : Int32), va_P (dC, dI) vwCl (wd05_0 a0 jmz jmA jlc jld jkJ jiT jj1 jmE jaN ja4 jaP jkk jmE cyI jmJ) H → va_D A (wd05_0 a0 jmz jmA jlc jld jkJ jiT jj1 jmE jaN ja4 jaP jkk jmE cyI jmJ) → va_S A s.heap H locs → lv_has ls 4 [(0, .ref a0), (1, .int l1), (2, .int l2), (3, .int l3)] → wb_X2_seenFrom_29 jaN jmJ Q K4 l1 l2 l3 → W p l e (headSpec wsX2_seenFrom ({ frames := 1, cells := 0, slots := 0, locals := 21 })).room s m args below meth c H locs 0 0 (MQ below (va_Qi (fun (r : Int32) (_ : Unit) => Q r ) (cB (dC, dI) (kT cyB cyI cyJ cyP) A (fun u : Unit => ((wd05_0 a0 jmz jmA jlc jld jkJ jiT jj1 jmE jaN ja4 jaP jkk jmE cyI jmJ) : va_W))) A) args s 0 0 A) (F0 m 29 ls []) := by
  obtain ⟨hx, hb, hr, hts, hown, hlocks, hml, hA, hK, hNw⟩ := id C0
  intro H locs ls l1 l2 l3 hP hD hS hl hw
  obtain ⟨x6, ex6⟩ : ∃ y : Int32, y = l3 + 1 := ⟨_, rfl⟩
  have hw := hw x6 ex6
  refine lv_iinc (v := x6) (lv' := [(3, .int x6), (0, .ref a0), (1, .int l1), (2, .int l2)]) hx hb (dt_of tkX2_seenFrom_k26 3 rfl) hl (k := 3) rfl (by rw [ex6]; rfl) (by decide) rfl (fun ls hl => ?_)
  refine lv_goto (tgt := 4) hx hb (dt_of tkX2_seenFrom_k26 4 rfl) (by decide) ?_
  exact hK4 _ _ _ l1 l2 x6 hP hD hS (lv_sub hl [1, 2, 3, 0] rfl) hw
set_option maxHeartbeats 4000000 in
set_option maxRecDepth 100000 in
theorem kl_X2_seenFrom_4 {p : Program} {l : Launch} {e : Env} {s : State} {m : MethodId} {args : Array Value} {below : List Frame} {meth : Method} {c : Code} {A : Nat → Prop} (dC : Nat → ClassId) (dI : Nat → Nat → Nat) (cyB cyI cyJ cyP : ClassId) (a0 jmE : Nat) (jmz jmA jlc jld jkJ jiT jj1 ja4 jaP jkk : Value) (jaN : Int32) (jmJ : Nat → Int32) (Q : Int32 → Prop)  (C0 : cfx p s m args meth c cX2_seenFrom (some .int) wsX2_seenFrom RX2 4 A (dC, dI) (kT cyB cyI cyJ cyP)) : ∀ (n : Nat) (H : Heap) (locs : List Loc) (ls : Array Slot) (l1 l2 l3 : Int32), va_P (dC, dI) vwCl (wd05_0 a0 jmz jmA jlc jld jkJ jiT jj1 jmE jaN ja4 jaP jkk jmE cyI jmJ) H → va_D A (wd05_0 a0 jmz jmA jlc jld jkJ jiT jj1 jmE jaN ja4 jaP jkk jmE cyI jmJ) → va_S A s.heap H locs → lv_has ls 4 [(0, .ref a0), (1, .int l1), (2, .int l2), (3, .int l3)] → wl_X2_seenFrom_4 jaN jmJ Q  n l1 l2 l3 → W p l e (headSpec wsX2_seenFrom ({ frames := 1, cells := 0, slots := 0, locals := 21 })).room s m args below meth c H locs 0 0 (MQ below (va_Qi (fun (r : Int32) (_ : Unit) => Q r ) (cB (dC, dI) (kT cyB cyI cyJ cyP) A (fun u : Unit => ((wd05_0 a0 jmz jmA jlc jld jkJ jiT jj1 jmE jaN ja4 jaP jkk jmE cyI jmJ) : va_W))) A) args s 0 0 A) (F0 m 4 ls []) := by
  obtain ⟨hx, hb, hr, hts, hown, hlocks, hml, hA, hK, hNw⟩ := id C0
  intro n
  induction n with
  | zero => intro H locs ls l1 l2 l3 hP hD hS hl hw; exact False.elim hw
  | succ n ih =>
    intro H locs ls l1 l2 l3 hP hD hS hl hw
    refine lv_iload_n hx hb (dt_of tkX2_seenFrom_k0 4 rfl) rfl (lv_at hl 3 rfl) ?_
    refine lv_aload_n hx hb (dt_of tkX2_seenFrom_k0 5 rfl) rfl (lv_at hl 0 rfl) ?_
    refine va_get (D := (dC, dI)) (ci := 2) (v := .int jaN) (C := RX2) (T := TX2) (N := 12) hx hb hts ui_X2_seenFrom_X2 hown hK hP 0 rfl rfl 8 (by decide) (hts _ uw_X2_seenFrom_f36) (fun _ h9 => h9) rfl (dt_of tkX2_seenFrom_k0 6 rfl) ?_
    refine lv_icmp_ge (tgt := 35) hx hb (dt_of tkX2_seenFrom_k0 7 rfl) (by decide) (fun c1 => ?_) (fun c1 => ?_)
    · have hw := hw.1 c1
      refine lv_iload_n hx hb (dt_of tkX2_seenFrom_k26 5 rfl) rfl (lv_at hl 2 rfl) ?_
      exact ((W.iret (v := l2) hx hb hr (fun t ht hW => ⟨⟨l2, (), rfl, hw, by rw [ht]; exact hP, va_K.moved hW.alike hK, hD⟩, hS.F ht⟩) hS.2.2 (dt_of tkX2_seenFrom_k26 6 rfl)))
    · have hw := hw.2 c1
      refine lv_iload_n hx hb (dt_of tkX2_seenFrom_k0 8 rfl) rfl (lv_at hl 1 rfl) ?_
      refine lv_iload_n hx hb (dt_of tkX2_seenFrom_k0 9 rfl) rfl (lv_at hl 3 rfl) ?_
      obtain ⟨hCc, hPc, hDc, hFc⟩ := va_pick (ws' := []) hP hD hS hA [] (by decide +kernel) rfl
      refine va_calli (va_runSN (As := [.int l1, .int l3]) (rest := []) ⟨hx, hb, hml, hown, hts⟩ (ck_X10_holds l dC dI cyB cyI cyJ cyP  H.size    l1 l3 hw) ⟨(va_cnB 2 hts gX2_seenFrom_X10_holds_n114 rfl rfl rfl (nw_10 hNw) (hts _ uw_X2_seenFrom_iniRX10) (by decide +kernel) ⟨Nat.le_of_ble_eq_true rfl, Nat.le_of_ble_eq_true rfl⟩), (hts _ uw_X2_seenFrom_stX10_holds), trivial⟩ ⟨cPc_blind, cPc_pre hPc hK hDc hNw⟩ rfl rfl hl.1 rfl (lv_room (Nat.le_of_ble_eq_true rfl)) (dt_of tkX2_seenFrom_k0 10 rfl) ⟨Nat.le_of_ble_eq_true rfl, Nat.le_of_ble_eq_true rfl⟩) hS (fun q _ h => hFc q h) hFc (fun r2 u t H1 locs ht hvm hw hB hz1 hk1 hS => ?_)
      obtain ⟨hP1, hK1, hD1⟩ := hB
      rw [ht] at hP1
      obtain ⟨hP, hD⟩ := va_joinI (wr := (wd05_0 a0 jmz jmA jlc jld jkJ jiT jj1 jmE jaN ja4 jaP jkk jmE cyI jmJ)) (w1 := []) (wn := (wd05_0 a0 jmz jmA jlc jld jkJ jiT jj1 jmE jaN ja4 jaP jkk jmE cyI jmJ)) hP hD [] [0, 1] hCc rfl (by decide +kernel) (by decide +kernel) rfl hk1 hFc hP1 hD1
      generalize H1 = H at hP hS ⊢
      refine lv_if_eq (tgt := 29) hx hb (dt_of tkX2_seenFrom_k0 11 rfl) (by decide) (fun c3 => ?_) (fun c3 => ?_)
      · have hw := hw.1 c3
        exact kb_X2_seenFrom_29 dC dI cyB cyI cyJ cyP a0 jmE jmz jmA jlc jld jkJ jiT jj1 ja4 jaP jkk jaN jmJ Q (wl_X2_seenFrom_4 jaN jmJ Q  n) ih C0 _ _ _ l1 l2 l3 hP hD hS (lv_sub hl [0, 1, 2, 3] rfl) hw
      · have hw := hw.2 c3
        refine lv_iload_n hx hb (dt_of tkX2_seenFrom_k0 12 rfl) rfl (lv_at hl 2 rfl) ?_
        refine lv_aload_n hx hb (dt_of tkX2_seenFrom_k0 13 rfl) rfl (lv_at hl 0 rfl) ?_
        refine va_get (D := (dC, dI)) (ci := 2) (v := .ref jmE) (C := RX2) (T := TX2) (N := 12) hx hb hts ui_X2_seenFrom_X2 hown hK hP 0 rfl rfl 7 (by decide) (hts _ uw_X2_seenFrom_f33) (fun _ h9 => h9) rfl (dt_of tkX2_seenFrom_k0 14 rfl) ?_
        refine lv_iload_n hx hb (dt_of tkX2_seenFrom_k0 15 rfl) rfl (lv_at hl 3 rfl) ?_
        obtain ⟨hi9, hw⟩ := hw
        refine va_iald hx hb hK hP 1 1 rfl rfl hi9 (dt_of tkX2_seenFrom_k26 0 rfl) ?_
        refine lv_topi (fun x4 ex4 => ?_)
        have hw := hw x4 ex4
        refine lv_ior hx hb (dt_of tkX2_seenFrom_k26 1 rfl) ?_
        refine lv_topi (fun x5 ex5 => ?_)
        have hw := hw x5 ex5
        refine lv_istore_n (lv' := [(2, .int x5), (0, .ref a0), (1, .int l1), (3, .int l3)]) hx hb (dt_of tkX2_seenFrom_k26 2 rfl) rfl hl (by decide) rfl (fun ls hl => ?_)
        exact kb_X2_seenFrom_29 dC dI cyB cyI cyJ cyP a0 jmE jmz jmA jlc jld jkJ jiT jj1 ja4 jaP jkk jaN jmJ Q (wl_X2_seenFrom_4 jaN jmJ Q  n) ih C0 _ _ _ l1 x5 l3 hP hD hS (lv_sub hl [1, 2, 0, 3] rfl) hw
set_option maxHeartbeats 4000000 in
set_option maxRecDepth 100000 in
theorem ck_X2_seenFrom (l : Launch) (dC : Nat → ClassId) (dI : Nat → Nat → Nat) (cyB cyI cyJ cyP : ClassId) (a0 jmE sz : Nat) (jmz jmA jlc jld jkJ jiT jj1 ja4 jaP jkk : Value) (jaN : Int32) (jmJ : Nat → Int32)  (p1 : Int32) {Q : Int32 → Prop} (hw : wq_X2_seenFrom jaN jmJ  p1 Q) : Met l yX2_seenFrom wsX2_seenFrom ({ frames := 1, cells := 0, slots := 0, locals := 21 }) (va_Pc [.ref a0, .int p1] (cPc (dC, dI) (kT cyB cyI cyJ cyP) (wd05_0 a0 jmz jmA jlc jld jkJ jiT jj1 jmE jaN ja4 jaP jkk jmE cyI jmJ) sz)) (va_Qi (fun (r : Int32) (_ : Unit) => Q r ) (cB (dC, dI) (kT cyB cyI cyJ cyP) (va_A (wd05_0 a0 jmz jmA jlc jld jkJ jiT jj1 jmE jaN ja4 jaP jkk jmE cyI jmJ) sz) (fun u : Unit => ((wd05_0 a0 jmz jmA jlc jld jkJ jiT jj1 jmE jaN ja4 jaP jkk jmE cyI jmJ) : va_W))) (va_A (wd05_0 a0 jmz jmA jlc jld jkJ jiT jj1 jmE jaN ja4 jaP jkk jmE cyI jmJ) sz)) 0 0 (va_A (wd05_0 a0 jmz jmA jlc jld jkJ jiT jj1 jmE jaN ja4 jaP jkk jmE cyI jmJ) sz) := by
  refine Met.ofW (cc := cX2_seenFrom) (maxL := 4) (ret := (some .int)) (by decide) rfl ?_
  intro p e s m args below meth c s₁ B hml hv
  obtain ⟨rfl, hsz, hP, hK, hD0, hNw⟩ := hv
  have hx := B.exec
  have hb := B.bytes
  have hr := B.returns
  have hts := atoms_spec (ws := wsX2_seenFrom) B.pre
  have hown : s.vm.findClass RX2 = some m.cls := findClass_of_methodNamed B.named
  have hlocks := B.notSynchronized
  subst hsz
  have hD := hD0.self (sz := s.heap.size)
  generalize hAe : va_A (wd05_0 a0 jmz jmA jlc jld jkJ jiT jj1 jmE jaN ja4 jaP jkk jmE cyI jmJ) s.heap.size = A at hD ⊢
  have hA : ∀ q : Nat, s.heap.size ≤ q → A q := fun q h => by rw [← hAe]; exact Or.inr h
  have hS : va_S A s.heap s.heap [] := va_S.rf
  have hP : va_P (dC, dI) vwCl (wd05_0 a0 jmz jmA jlc jld jkJ jiT jj1 jmE jaN ja4 jaP jkk jmE cyI jmJ) s.heap := hP
  have hl := lv_entry ([.ref a0, .int p1]) (n := 4) (Nat.le_of_ble_eq_true rfl)
  rw [lg_entry_eq]
  generalize (lg_sl ([.ref a0, .int p1]) ++ List.replicate (4 - (lg_sl ([.ref a0, .int p1])).length) Slot.unset).toArray = ls at hl ⊢
  have hl : lv_has ls 4 [(0, .ref a0), (1, .int p1)] := hl
  have C0 : cfx p s m _ meth c cX2_seenFrom (some .int) wsX2_seenFrom RX2 4 A (dC, dI) (kT cyB cyI cyJ cyP) := ⟨hx, hb, hr, hts, hown, hlocks, hml, hA, hK, hNw⟩
  clear hAe
  obtain ⟨H, hH⟩ : ∃ H, H = s.heap := ⟨_, rfl⟩
  rw [← hH] at hP ⊢
  have hS : va_S A s.heap H [] := by rw [hH]; exact va_S.rf
  have hS := hS
  refine lv_iconst (v := 0) hx hb (dt_of tkX2_seenFrom_k0 0 rfl) (by decide) ?_
  refine lv_istore_n (lv' := [(2, .int 0), (0, .ref a0), (1, .int p1)]) hx hb (dt_of tkX2_seenFrom_k0 1 rfl) rfl hl (by decide) rfl (fun ls hl => ?_)
  refine lv_iconst (v := 0) hx hb (dt_of tkX2_seenFrom_k0 2 rfl) (by decide) ?_
  refine lv_istore_n (lv' := [(3, .int 0), (2, .int 0), (0, .ref a0), (1, .int p1)]) hx hb (dt_of tkX2_seenFrom_k0 3 rfl) rfl hl (by decide) rfl (fun ls hl => ?_)
  obtain ⟨n9, hw⟩ := hw
  exact kl_X2_seenFrom_4 dC dI cyB cyI cyJ cyP a0 jmE jmz jmA jlc jld jkJ jiT jj1 ja4 jaP jkk jaN jmJ Q  C0 n9 _ _ _ p1 0 0 hP hD hS (lv_sub hl [2, 3, 1, 0] rfl) hw
theorem ui_X2_watchers_X2 : ∀ w ∈ u_ws RX2 TX2 12, w ∈ wsX2_watchers := uiM mbX2_watchers euX2 (by decide +kernel)
theorem uw_X2_watchers_f33 : (.fieldLink RX2 33 "MarchHares$Down" "near" "[I" : Cond) ∈ wsX2_watchers := mbX2_watchers 195 (by decide +kernel)
theorem uw_X2_watchers_f36 : (.fieldLink RX2 36 "MarchHares$Down" "forms" "I" : Cond) ∈ wsX2_watchers := mbX2_watchers 720 (by decide +kernel)
set_option maxHeartbeats 4000000 in
set_option maxRecDepth 100000 in
theorem kb_X2_watchers_73 {p : Program} {l : Launch} {e : Env} {s : State} {m : MethodId} {args : Array Value} {below : List Frame} {meth : Method} {c : Code} {A : Nat → Prop} (dC : Nat → ClassId) (dI : Nat → Nat → Nat) (cyB cyI cyJ cyP : ClassId) (a0 jmE jha jhi : Nat) (jlc jld jkJ jiT jj1 ja4 jaP jkk : Value) (jaN : Int32) (jiR jiP : Nat → Int32) (Q : Int32 → (Nat → Int32) → Prop) (K42 : (Nat → Int32) → Int32 → Int32 → Int32 → Prop) (hK42 : ∀ (H : Heap) (locs : List Loc) (ls : Array Slot) (jmJ : Nat → Int32) (l2 l3 l4 : Int32), va_P (dC, dI) vwCl (wd05_1 a0 jha jhi jlc jld jkJ jiT jj1 jmE jaN ja4 jaP jkk jha cyI jiR jhi cyI jiP jmE cyI jmJ) H → va_D A (wd05_1 a0 jha jhi jlc jld jkJ jiT jj1 jmE jaN ja4 jaP jkk jha cyI jiR jhi cyI jiP jmE cyI jmJ) → va_S A s.heap H locs → lv_has ls 5 [(0, .ref a0), (2, .int l2), (3, .int l3), (4, .int l4)] → K42 jmJ l2 l3 l4 → W p l e (headSpec wsX2_watchers ({ frames := 3, cells := 0, slots := 0, locals := 78 })).room s m args below meth c H locs 0 0 (MQ below (va_Qi (fun (r : Int32) (u : (Nat → Int32)) => Q r u) (cB (dC, dI) (kT cyB cyI cyJ cyP) A (fun u : (Nat → Int32) => ((wd05_1 a0 jha jhi jlc jld jkJ jiT jj1 jmE jaN ja4 jaP jkk jha cyI jiR jhi cyI jiP jmE cyI u) : va_W))) A) args s 0 0 A) (F0 m 42 ls [])) (C0 : cfx p s m args meth c cX2_watchers (some .int) wsX2_watchers RX2 5 A (dC, dI) (kT cyB cyI cyJ cyP)) : ∀ (H : Heap) (locs : List Loc) (ls : Array Slot) (jmJ : Nat → Int32) (l2 l3 l4 : Int32), va_P (dC, dI) vwCl (wd05_1 a0 jha jhi jlc jld jkJ jiT jj1 jmE jaN ja4 jaP jkk jha cyI jiR jhi cyI jiP jmE cyI jmJ) H → va_D A (wd05_1 a0 jha jhi jlc jld jkJ jiT jj1 jmE jaN ja4 jaP jkk jha cyI jiR jhi cyI jiP jmE cyI jmJ) → va_S A s.heap H locs → lv_has ls 5 [(0, .ref a0), (2, .int l2), (3, .int l3), (4, .int l4)] → wb_X2_watchers_73 jaN jiR jiP Q K42 jmJ l2 l3 l4 → W p l e (headSpec wsX2_watchers ({ frames := 3, cells := 0, slots := 0, locals := 78 })).room s m args below meth c H locs 0 0 (MQ below (va_Qi (fun (r : Int32) (u : (Nat → Int32)) => Q r u) (cB (dC, dI) (kT cyB cyI cyJ cyP) A (fun u : (Nat → Int32) => ((wd05_1 a0 jha jhi jlc jld jkJ jiT jj1 jmE jaN ja4 jaP jkk jha cyI jiR jhi cyI jiP jmE cyI u) : va_W))) A) args s 0 0 A) (F0 m 73 ls []) := by
  obtain ⟨hx, hb, hr, hts, hown, hlocks, hml, hA, hK, hNw⟩ := id C0
  intro H locs ls jmJ l2 l3 l4 hP hD hS hl hw
  obtain ⟨x12, ex12⟩ : ∃ y : Int32, y = l4 + 1 := ⟨_, rfl⟩
  have hw := hw x12 ex12
  refine lv_iinc (v := x12) (lv' := [(4, .int x12), (0, .ref a0), (2, .int l2), (3, .int l3)]) hx hb (dt_of tkX2_watchers_k53 10 rfl) hl (k := 3) rfl (by rw [ex12]; rfl) (by decide) rfl (fun ls hl => ?_)
  refine lv_goto (tgt := 42) hx hb (dt_of tkX2_watchers_k53 11 rfl) (by decide) ?_
  exact hK42 _ _ _ jmJ l2 l3 x12 hP hD hS (lv_sub hl [1, 2, 3, 0] rfl) hw
set_option maxHeartbeats 4000000 in
set_option maxRecDepth 100000 in
theorem kl_X2_watchers_42 {p : Program} {l : Launch} {e : Env} {s : State} {m : MethodId} {args : Array Value} {below : List Frame} {meth : Method} {c : Code} {A : Nat → Prop} (dC : Nat → ClassId) (dI : Nat → Nat → Nat) (cyB cyI cyJ cyP : ClassId) (a0 jmE jha jhi : Nat) (jlc jld jkJ jiT jj1 ja4 jaP jkk : Value) (jaN : Int32) (jiR jiP : Nat → Int32) (Q : Int32 → (Nat → Int32) → Prop)  (C0 : cfx p s m args meth c cX2_watchers (some .int) wsX2_watchers RX2 5 A (dC, dI) (kT cyB cyI cyJ cyP)) : ∀ (n : Nat) (H : Heap) (locs : List Loc) (ls : Array Slot) (jmJ : Nat → Int32) (l2 l3 l4 : Int32), va_P (dC, dI) vwCl (wd05_1 a0 jha jhi jlc jld jkJ jiT jj1 jmE jaN ja4 jaP jkk jha cyI jiR jhi cyI jiP jmE cyI jmJ) H → va_D A (wd05_1 a0 jha jhi jlc jld jkJ jiT jj1 jmE jaN ja4 jaP jkk jha cyI jiR jhi cyI jiP jmE cyI jmJ) → va_S A s.heap H locs → lv_has ls 5 [(0, .ref a0), (2, .int l2), (3, .int l3), (4, .int l4)] → wl_X2_watchers_42 jaN jiR jiP Q  n jmJ l2 l3 l4 → W p l e (headSpec wsX2_watchers ({ frames := 3, cells := 0, slots := 0, locals := 78 })).room s m args below meth c H locs 0 0 (MQ below (va_Qi (fun (r : Int32) (u : (Nat → Int32)) => Q r u) (cB (dC, dI) (kT cyB cyI cyJ cyP) A (fun u : (Nat → Int32) => ((wd05_1 a0 jha jhi jlc jld jkJ jiT jj1 jmE jaN ja4 jaP jkk jha cyI jiR jhi cyI jiP jmE cyI u) : va_W))) A) args s 0 0 A) (F0 m 42 ls []) := by
  obtain ⟨hx, hb, hr, hts, hown, hlocks, hml, hA, hK, hNw⟩ := id C0
  intro n
  induction n with
  | zero => intro H locs ls jmJ l2 l3 l4 hP hD hS hl hw; exact False.elim hw
  | succ n ih =>
    intro H locs ls jmJ l2 l3 l4 hP hD hS hl hw
    refine lv_iload hx hb (dt_of tkX2_watchers_k28 11 rfl) (lv_at hl 3 rfl) ?_
    refine lv_iload_n hx hb (dt_of tkX2_watchers_k28 12 rfl) rfl (lv_at hl 1 rfl) ?_
    refine lv_icmp_ge (tgt := 79) hx hb (dt_of tkX2_watchers_k28 13 rfl) (by decide) (fun c6 => ?_) (fun c6 => ?_)
    · have hw := hw.1 c6
      refine lv_iload_n hx hb (dt_of tkX2_watchers_k53 12 rfl) rfl (lv_at hl 2 rfl) ?_
      exact ((W.iret (v := l3) hx hb hr (fun t ht hW => ⟨⟨l3, (jmJ), rfl, hw, by rw [ht]; exact hP, va_K.moved hW.alike hK, hD⟩, hS.F ht⟩) hS.2.2 (dt_of tkX2_watchers_k53 13 rfl)))
    · have hw := hw.2 c6
      refine lv_iload hx hb (dt_of tkX2_watchers_k28 14 rfl) (lv_at hl 3 rfl) ?_
      obtain ⟨hCc, hPc, hDc, hFc⟩ := va_pick (ws' := []) hP hD hS hA [] (by decide +kernel) rfl
      refine va_calli (va_runS (As := [.int l4]) (rest := []) ⟨hx, hb, hml, hown, hts⟩ (ck_J6_bitCount_0f7a4 l dC dI cyB cyI cyJ cyP  H.size    l4 hw) (va_cwS 1 hts gX2_watchers_J6_bitCount_0f7a4 rfl rfl rfl (by decide +kernel) ⟨Nat.le_of_ble_eq_true rfl, Nat.le_of_ble_eq_true rfl⟩) ⟨cPc_blind, cPc_pre hPc hK hDc hNw⟩ rfl rfl hl.1 rfl (lv_room (Nat.le_of_ble_eq_true rfl)) (dt_of tkX2_watchers_k28 15 rfl) ⟨Nat.le_of_ble_eq_true rfl, Nat.le_of_ble_eq_true rfl⟩) hS (fun q _ h => hFc q h) hFc (fun r7 u t H1 locs ht hvm hw hB hz1 hk1 hS => ?_)
      obtain ⟨hP1, hK1, hD1⟩ := hB
      rw [ht] at hP1
      obtain ⟨hP, hD⟩ := va_joinI (wr := (wd05_1 a0 jha jhi jlc jld jkJ jiT jj1 jmE jaN ja4 jaP jkk jha cyI jiR jhi cyI jiP jmE cyI jmJ)) (w1 := []) (wn := (wd05_1 a0 jha jhi jlc jld jkJ jiT jj1 jmE jaN ja4 jaP jkk jha cyI jiR jhi cyI jiP jmE cyI jmJ)) hP hD [] [0, 1, 2, 3] hCc rfl (by decide +kernel) (by decide +kernel) rfl hk1 hFc hP1 hD1
      generalize H1 = H at hP hS ⊢
      refine lv_iload_n hx hb (dt_of tkX2_watchers_k53 0 rfl) rfl (lv_at hl 2 rfl) ?_
      obtain ⟨hCc, hPc, hDc, hFc⟩ := va_pick (ws' := []) hP hD hS hA [] (by decide +kernel) rfl
      refine va_calli (va_runS (As := [.int l3]) (rest := [.int r7]) ⟨hx, hb, hml, hown, hts⟩ (ck_J6_bitCount_0f7a4 l dC dI cyB cyI cyJ cyP  H.size    l3 hw) (va_cwS 1 hts gX2_watchers_J6_bitCount_0f7a4 rfl rfl rfl (by decide +kernel) ⟨Nat.le_of_ble_eq_true rfl, Nat.le_of_ble_eq_true rfl⟩) ⟨cPc_blind, cPc_pre hPc hK hDc hNw⟩ rfl rfl hl.1 rfl (lv_room (Nat.le_of_ble_eq_true rfl)) (dt_of tkX2_watchers_k53 1 rfl) ⟨Nat.le_of_ble_eq_true rfl, Nat.le_of_ble_eq_true rfl⟩) hS (fun q _ h => hFc q h) hFc (fun r8 u t H1 locs ht hvm hw hB hz1 hk1 hS => ?_)
      obtain ⟨hP1, hK1, hD1⟩ := hB
      rw [ht] at hP1
      obtain ⟨hP, hD⟩ := va_joinI (wr := (wd05_1 a0 jha jhi jlc jld jkJ jiT jj1 jmE jaN ja4 jaP jkk jha cyI jiR jhi cyI jiP jmE cyI jmJ)) (w1 := []) (wn := (wd05_1 a0 jha jhi jlc jld jkJ jiT jj1 jmE jaN ja4 jaP jkk jha cyI jiR jhi cyI jiP jmE cyI jmJ)) hP hD [] [0, 1, 2, 3] hCc rfl (by decide +kernel) (by decide +kernel) rfl hk1 hFc hP1 hD1
      generalize H1 = H at hP hS ⊢
      refine lv_icmp_ge (tgt := 73) hx hb (dt_of tkX2_watchers_k53 2 rfl) (by decide) (fun c9 => ?_) (fun c9 => ?_)
      · have hw := hw.1 c9
        exact kb_X2_watchers_73 dC dI cyB cyI cyJ cyP a0 jmE jha jhi jlc jld jkJ jiT jj1 ja4 jaP jkk jaN jiR jiP Q (wl_X2_watchers_42 jaN jiR jiP Q  n) ih C0 _ _ _ jmJ l2 l3 l4 hP hD hS (lv_sub hl [0, 1, 2, 3] rfl) hw
      · have hw := hw.2 c9
        refine lv_aload_n hx hb (dt_of tkX2_watchers_k53 3 rfl) rfl (lv_at hl 0 rfl) ?_
        refine lv_iload hx hb (dt_of tkX2_watchers_k53 4 rfl) (lv_at hl 3 rfl) ?_
        obtain ⟨hCc, hPc, hDc, hFc⟩ := va_pick (ws' := (wd05_2 a0 jha jhi jlc jld jkJ jiT jj1 jmE jaN ja4 jaP jkk jmE cyI jmJ)) hP hD hS hA [0, 3] (by decide +kernel) rfl
        refine va_calli (va_runV (As := [.int l4]) (rest := []) ⟨hx, hb, hml, hown, hts⟩ (ck_X2_seenFrom l dC dI cyB cyI cyJ cyP a0 jmE H.size (.ref jha) (.ref jhi) (jlc) (jld) (jkJ) (jiT) (jj1) (ja4) (jaP) (jkk) jaN jmJ  l4 hw) (cwV 1 hts gX2_watchers_X2_seenFrom rfl rfl rfl (by decide +kernel) ⟨Nat.le_of_ble_eq_true rfl, Nat.le_of_ble_eq_true rfl⟩) ⟨cPc_blind, va_recv (q := (RX2, TX2, 12)) hK hPc (ci := 2) (q0 := 0) rfl rfl, cPc_pre hPc hK hDc hNw⟩ rfl rfl hl.1 rfl (lv_room (Nat.le_of_ble_eq_true rfl)) (dt_of tkX2_watchers_k53 5 rfl) ⟨Nat.le_of_ble_eq_true rfl, Nat.le_of_ble_eq_true rfl⟩) hS (fun q _ h => hFc q h) hFc (fun r10 u t H1 locs ht hvm hw hB hz1 hk1 hS => ?_)
        obtain ⟨hP1, hK1, hD1⟩ := hB
        rw [ht] at hP1
        obtain ⟨hP, hD⟩ := va_joinN (wr := [(jha, .inl (cyI, 8, .inl jiR)), (jhi, .inl (cyI, 8, .inl jiP))]) (w1 := (wd05_2 a0 jha jhi jlc jld jkJ jiT jj1 jmE jaN ja4 jaP jkk jmE cyI jmJ)) (wn := (wd05_1 a0 jha jhi jlc jld jkJ jiT jj1 jmE jaN ja4 jaP jkk jha cyI jiR jhi cyI jiP jmE cyI jmJ)) hP hD [0, 3] [1, 2] [2, 0, 1, 3] hCc rfl (by decide +kernel) (by decide +kernel) (by decide +kernel) rfl hk1 hFc hP1 hD1
        generalize H1 = H at hP hS ⊢
        refine lv_iload_n hx hb (dt_of tkX2_watchers_k53 6 rfl) rfl (lv_at hl 1 rfl) ?_
        refine lv_icmp_ne (tgt := 73) hx hb (dt_of tkX2_watchers_k53 7 rfl) (by decide) (fun c11 => ?_) (fun c11 => ?_)
        · have hw := hw.1 c11
          exact kb_X2_watchers_73 dC dI cyB cyI cyJ cyP a0 jmE jha jhi jlc jld jkJ jiT jj1 ja4 jaP jkk jaN jiR jiP Q (wl_X2_watchers_42 jaN jiR jiP Q  n) ih C0 _ _ _ jmJ l2 l3 l4 hP hD hS (lv_sub hl [0, 1, 2, 3] rfl) hw
        · have hw := hw.2 c11
          refine lv_iload hx hb (dt_of tkX2_watchers_k53 8 rfl) (lv_at hl 3 rfl) ?_
          refine lv_istore_n (lv' := [(3, .int l4), (0, .ref a0), (2, .int l2), (4, .int l4)]) hx hb (dt_of tkX2_watchers_k53 9 rfl) rfl hl (by decide) rfl (fun ls hl => ?_)
          exact kb_X2_watchers_73 dC dI cyB cyI cyJ cyP a0 jmE jha jhi jlc jld jkJ jiT jj1 ja4 jaP jkk jaN jiR jiP Q (wl_X2_watchers_42 jaN jiR jiP Q  n) ih C0 _ _ _ jmJ l2 l4 l4 hP hD hS (lv_sub hl [1, 2, 0, 3] rfl) hw
set_option maxHeartbeats 4000000 in
set_option maxRecDepth 100000 in
theorem kl_X2_watchers_2 {p : Program} {l : Launch} {e : Env} {s : State} {m : MethodId} {args : Array Value} {below : List Frame} {meth : Method} {c : Code} {A : Nat → Prop} (dC : Nat → ClassId) (dI : Nat → Nat → Nat) (cyB cyI cyJ cyP : ClassId) (a0 jmE jha jhi : Nat) (jlc jld jkJ jiT jj1 ja4 jaP jkk : Value) (jaN : Int32) (jiR jiP : Nat → Int32) (Q : Int32 → (Nat → Int32) → Prop)  (C0 : cfx p s m args meth c cX2_watchers (some .int) wsX2_watchers RX2 5 A (dC, dI) (kT cyB cyI cyJ cyP)) : ∀ (n : Nat) (H : Heap) (locs : List Loc) (ls : Array Slot) (jmJ : Nat → Int32) (l1 l2 : Int32), va_P (dC, dI) vwCl (wd05_1 a0 jha jhi jlc jld jkJ jiT jj1 jmE jaN ja4 jaP jkk jha cyI jiR jhi cyI jiP jmE cyI jmJ) H → va_D A (wd05_1 a0 jha jhi jlc jld jkJ jiT jj1 jmE jaN ja4 jaP jkk jha cyI jiR jhi cyI jiP jmE cyI jmJ) → va_S A s.heap H locs → lv_has ls 5 [(0, .ref a0), (1, .int l1), (2, .int l2)] → wl_X2_watchers_2 jaN jiR jiP Q  n jmJ l1 l2 → W p l e (headSpec wsX2_watchers ({ frames := 3, cells := 0, slots := 0, locals := 78 })).room s m args below meth c H locs 0 0 (MQ below (va_Qi (fun (r : Int32) (u : (Nat → Int32)) => Q r u) (cB (dC, dI) (kT cyB cyI cyJ cyP) A (fun u : (Nat → Int32) => ((wd05_1 a0 jha jhi jlc jld jkJ jiT jj1 jmE jaN ja4 jaP jkk jha cyI jiR jhi cyI jiP jmE cyI u) : va_W))) A) args s 0 0 A) (F0 m 2 ls []) := by
  obtain ⟨hx, hb, hr, hts, hown, hlocks, hml, hA, hK, hNw⟩ := id C0
  intro n
  induction n with
  | zero => intro H locs ls jmJ l1 l2 hP hD hS hl hw; exact False.elim hw
  | succ n ih =>
    intro H locs ls jmJ l1 l2 hP hD hS hl hw
    refine lv_iload_n hx hb (dt_of tkX2_watchers_k0 2 rfl) rfl (lv_at hl 2 rfl) ?_
    refine lv_aload_n hx hb (dt_of tkX2_watchers_k0 3 rfl) rfl (lv_at hl 0 rfl) ?_
    refine va_get (D := (dC, dI)) (ci := 2) (v := .int jaN) (C := RX2) (T := TX2) (N := 12) hx hb hts ui_X2_watchers_X2 hown hK hP 0 rfl rfl 8 (by decide) (hts _ uw_X2_watchers_f36) (fun _ h9 => h9) rfl (dt_of tkX2_watchers_k0 4 rfl) ?_
    refine lv_icmp_ge (tgt := 28) hx hb (dt_of tkX2_watchers_k0 5 rfl) (by decide) (fun c1 => ?_) (fun c1 => ?_)
    · have hw := hw.1 c1
      refine lv_iconst (v := 1) hx hb (dt_of tkX2_watchers_k28 0 rfl) (by decide) ?_
      refine lv_aload_n hx hb (dt_of tkX2_watchers_k28 1 rfl) rfl (lv_at hl 0 rfl) ?_
      refine va_get (D := (dC, dI)) (ci := 2) (v := .int jaN) (C := RX2) (T := TX2) (N := 12) hx hb hts ui_X2_watchers_X2 hown hK hP 0 rfl rfl 8 (by decide) (hts _ uw_X2_watchers_f36) (fun _ h9 => h9) rfl (dt_of tkX2_watchers_k28 2 rfl) ?_
      refine lv_ishl hx hb (dt_of tkX2_watchers_k28 3 rfl) ?_
      refine lv_iconst (v := 1) hx hb (dt_of tkX2_watchers_k28 4 rfl) (by decide) ?_
      refine lv_isub hx hb (dt_of tkX2_watchers_k28 5 rfl) ?_
      refine lv_topi (fun x2 ex2 => ?_)
      have hw := hw x2 ex2
      refine lv_istore_n (lv' := [(2, .int x2), (0, .ref a0), (1, .int l1)]) hx hb (dt_of tkX2_watchers_k28 6 rfl) rfl hl (by decide) rfl (fun ls hl => ?_)
      refine lv_iload_n hx hb (dt_of tkX2_watchers_k28 7 rfl) rfl (lv_at hl 0 rfl) ?_
      refine lv_istore_n (lv' := [(3, .int x2), (2, .int x2), (0, .ref a0), (1, .int l1)]) hx hb (dt_of tkX2_watchers_k28 8 rfl) rfl hl (by decide) rfl (fun ls hl => ?_)
      refine lv_iconst (v := 0) hx hb (dt_of tkX2_watchers_k28 9 rfl) (by decide) ?_
      refine lv_istore (lv' := [(4, .int 0), (3, .int x2), (2, .int x2), (0, .ref a0), (1, .int l1)]) hx hb (dt_of tkX2_watchers_k28 10 rfl) hl (by decide) rfl (fun ls hl => ?_)
      obtain ⟨n9, hw⟩ := hw
      exact kl_X2_watchers_42 dC dI cyB cyI cyJ cyP a0 jmE jha jhi jlc jld jkJ jiT jj1 ja4 jaP jkk jaN jiR jiP Q  C0 n9 _ _ _ jmJ x2 x2 0 hP hD hS (lv_sub hl [3, 2, 1, 0] rfl) hw
    · have hw := hw.2 c1
      refine lv_aload_n hx hb (dt_of tkX2_watchers_k0 6 rfl) rfl (lv_at hl 0 rfl) ?_
      refine va_get (D := (dC, dI)) (ci := 2) (v := .ref jmE) (C := RX2) (T := TX2) (N := 12) hx hb hts ui_X2_watchers_X2 hown hK hP 0 rfl rfl 7 (by decide) (hts _ uw_X2_watchers_f33) (fun _ h9 => h9) rfl (dt_of tkX2_watchers_k0 7 rfl) ?_
      refine lv_iload_n hx hb (dt_of tkX2_watchers_k0 8 rfl) rfl (lv_at hl 2 rfl) ?_
      refine lv_aload_n hx hb (dt_of tkX2_watchers_k0 9 rfl) rfl (lv_at hl 0 rfl) ?_
      refine lv_iload_n hx hb (dt_of tkX2_watchers_k0 10 rfl) rfl (lv_at hl 2 rfl) ?_
      refine lv_iload_n hx hb (dt_of tkX2_watchers_k0 11 rfl) rfl (lv_at hl 1 rfl) ?_
      obtain ⟨hCc, hPc, hDc, hFc⟩ := va_pick (ws' := (wd05_3 a0 jha jhi jlc jld jkJ jiT jj1 jmE jaN ja4 jaP jkk jha cyI jiR jhi cyI jiP)) hP hD hS hA [0, 1, 2] (by decide +kernel) rfl
      refine va_calli (va_runV (As := [.int l2, .int l1]) (rest := [.int l2, .ref jmE]) ⟨hx, hb, hml, hown, hts⟩ (ck_X2_formsWithin l dC dI cyB cyI cyJ cyP a0 jha jhi H.size (jlc) (jld) (jkJ) (jiT) (jj1) (.ref jmE) (ja4) (jaP) (jkk) jaN jiR jiP  l2 l1 hw) (cwV 2 hts gX2_watchers_X2_formsWithin rfl rfl rfl (by decide +kernel) ⟨Nat.le_of_ble_eq_true rfl, Nat.le_of_ble_eq_true rfl⟩) ⟨cPc_blind, va_recv (q := (RX2, TX2, 12)) hK hPc (ci := 2) (q0 := 0) rfl rfl, cPc_pre hPc hK hDc hNw⟩ rfl rfl hl.1 rfl (lv_room (Nat.le_of_ble_eq_true rfl)) (dt_of tkX2_watchers_k0 12 rfl) ⟨Nat.le_of_ble_eq_true rfl, Nat.le_of_ble_eq_true rfl⟩) hS (fun q _ h => hFc q h) hFc (fun r3 u t H1 locs ht hvm hw hB hz1 hk1 hS => ?_)
      obtain ⟨hP1, hK1, hD1⟩ := hB
      rw [ht] at hP1
      obtain ⟨hP, hD⟩ := va_joinN (wr := [(jmE, .inl (cyI, 8, .inl jmJ))]) (w1 := (wd05_3 a0 jha jhi jlc jld jkJ jiT jj1 jmE jaN ja4 jaP jkk jha cyI jiR jhi cyI jiP)) (wn := (wd05_1 a0 jha jhi jlc jld jkJ jiT jj1 jmE jaN ja4 jaP jkk jha cyI jiR jhi cyI jiP jmE cyI jmJ)) hP hD [0, 1, 2] [3] [1, 2, 3, 0] hCc rfl (by decide +kernel) (by decide +kernel) (by decide +kernel) rfl hk1 hFc hP1 hD1
      generalize H1 = H at hP hS ⊢
      obtain ⟨hi9, hw⟩ := hw
      refine va_iast hx hb hK hP hD hS 3 1 rfl rfl hi9 (dt_of tkX2_watchers_k0 13 rfl) (fun H locs hP hD hS => ?_)
      obtain ⟨f4, ef4⟩ : ∃ y : Nat → Int32, y = upd jmJ l2.toNatClampNeg r3 := ⟨_, rfl⟩
      have hw := hw f4 ef4
      have hP : va_P (dC, dI) vwCl (wd05_1 a0 jha jhi jlc jld jkJ jiT jj1 jmE jaN ja4 jaP jkk jha cyI jiR jhi cyI jiP jmE cyI f4) H := by rw [ef4]; exact hP
      have hD : va_D A (wd05_1 a0 jha jhi jlc jld jkJ jiT jj1 jmE jaN ja4 jaP jkk jha cyI jiR jhi cyI jiP jmE cyI f4) := by rw [ef4]; exact hD
      obtain ⟨x5, ex5⟩ : ∃ y : Int32, y = l2 + 1 := ⟨_, rfl⟩
      have hw := hw x5 ex5
      refine lv_iinc (v := x5) (lv' := [(2, .int x5), (0, .ref a0), (1, .int l1)]) hx hb (dt_of tkX2_watchers_k0 14 rfl) hl (k := 2) rfl (by rw [ex5]; rfl) (by decide) rfl (fun ls hl => ?_)
      refine lv_goto (tgt := 2) hx hb (dt_of tkX2_watchers_k0 15 rfl) (by decide) ?_
      exact ih _ _ _ f4 l1 x5 hP hD hS (lv_sub hl [1, 2, 0] rfl) hw
set_option maxHeartbeats 4000000 in
set_option maxRecDepth 100000 in
theorem ck_X2_watchers (l : Launch) (dC : Nat → ClassId) (dI : Nat → Nat → Nat) (cyB cyI cyJ cyP : ClassId) (a0 jmE jha jhi sz : Nat) (jlc jld jkJ jiT jj1 ja4 jaP jkk : Value) (jaN : Int32) (jiR jiP jmJ : Nat → Int32) (p1 : Int32) {Q : Int32 → (Nat → Int32) → Prop} (hw : wq_X2_watchers jaN jiR jiP jmJ p1 Q) : Met l yX2_watchers wsX2_watchers ({ frames := 3, cells := 0, slots := 0, locals := 78 }) (va_Pc [.ref a0, .int p1] (cPc (dC, dI) (kT cyB cyI cyJ cyP) (wd05_1 a0 jha jhi jlc jld jkJ jiT jj1 jmE jaN ja4 jaP jkk jha cyI jiR jhi cyI jiP jmE cyI jmJ) sz)) (va_Qi (fun (r : Int32) (u : (Nat → Int32)) => Q r u) (cB (dC, dI) (kT cyB cyI cyJ cyP) (va_A (wd05_1 a0 jha jhi jlc jld jkJ jiT jj1 jmE jaN ja4 jaP jkk jha cyI jiR jhi cyI jiP jmE cyI jmJ) sz) (fun u : (Nat → Int32) => ((wd05_1 a0 jha jhi jlc jld jkJ jiT jj1 jmE jaN ja4 jaP jkk jha cyI jiR jhi cyI jiP jmE cyI u) : va_W))) (va_A (wd05_1 a0 jha jhi jlc jld jkJ jiT jj1 jmE jaN ja4 jaP jkk jha cyI jiR jhi cyI jiP jmE cyI jmJ) sz)) 0 0 (va_A (wd05_1 a0 jha jhi jlc jld jkJ jiT jj1 jmE jaN ja4 jaP jkk jha cyI jiR jhi cyI jiP jmE cyI jmJ) sz) := by
  refine Met.ofW (cc := cX2_watchers) (maxL := 5) (ret := (some .int)) (by decide) rfl ?_
  intro p e s m args below meth c s₁ B hml hv
  obtain ⟨rfl, hsz, hP, hK, hD0, hNw⟩ := hv
  have hx := B.exec
  have hb := B.bytes
  have hr := B.returns
  have hts := atoms_spec (ws := wsX2_watchers) B.pre
  have hown : s.vm.findClass RX2 = some m.cls := findClass_of_methodNamed B.named
  have hlocks := B.notSynchronized
  subst hsz
  have hD := hD0.self (sz := s.heap.size)
  generalize hAe : va_A (wd05_1 a0 jha jhi jlc jld jkJ jiT jj1 jmE jaN ja4 jaP jkk jha cyI jiR jhi cyI jiP jmE cyI jmJ) s.heap.size = A at hD ⊢
  have hA : ∀ q : Nat, s.heap.size ≤ q → A q := fun q h => by rw [← hAe]; exact Or.inr h
  have hS : va_S A s.heap s.heap [] := va_S.rf
  have hP : va_P (dC, dI) vwCl (wd05_1 a0 jha jhi jlc jld jkJ jiT jj1 jmE jaN ja4 jaP jkk jha cyI jiR jhi cyI jiP jmE cyI jmJ) s.heap := hP
  have hl := lv_entry ([.ref a0, .int p1]) (n := 5) (Nat.le_of_ble_eq_true rfl)
  rw [lg_entry_eq]
  generalize (lg_sl ([.ref a0, .int p1]) ++ List.replicate (5 - (lg_sl ([.ref a0, .int p1])).length) Slot.unset).toArray = ls at hl ⊢
  have hl : lv_has ls 5 [(0, .ref a0), (1, .int p1)] := hl
  have C0 : cfx p s m _ meth c cX2_watchers (some .int) wsX2_watchers RX2 5 A (dC, dI) (kT cyB cyI cyJ cyP) := ⟨hx, hb, hr, hts, hown, hlocks, hml, hA, hK, hNw⟩
  clear hAe
  obtain ⟨H, hH⟩ : ∃ H, H = s.heap := ⟨_, rfl⟩
  rw [← hH] at hP ⊢
  have hS : va_S A s.heap H [] := by rw [hH]; exact va_S.rf
  have hS := hS
  refine lv_iconst (v := 0) hx hb (dt_of tkX2_watchers_k0 0 rfl) (by decide) ?_
  refine lv_istore_n (lv' := [(2, .int 0), (0, .ref a0), (1, .int p1)]) hx hb (dt_of tkX2_watchers_k0 1 rfl) rfl hl (by decide) rfl (fun ls hl => ?_)
  obtain ⟨n9, hw⟩ := hw
  exact kl_X2_watchers_2 dC dI cyB cyI cyJ cyP a0 jmE jha jhi jlc jld jkJ jiT jj1 ja4 jaP jkk jaN jiR jiP Q  C0 n9 _ _ _ jmJ p1 0 hP hD hS (lv_sub hl [1, 2, 0] rfl) hw
theorem ui_X10_watch_X10 : ∀ w ∈ u_ws RX10 TX10 19, w ∈ wsX10_watch := uiM mbX10_watch euX10 (by decide +kernel)
theorem uw_X10_watch_f19 : (.fieldLink RX10 19 "MarchHares" "ground" "LMarchHares$Down;" : Cond) ∈ wsX10_watch := mbX10_watch 20 (by decide +kernel)
set_option maxHeartbeats 4000000 in
set_option maxRecDepth 100000 in
theorem ck_X10_watch (l : Launch) (dC : Nat → ClassId) (dI : Nat → Nat → Nat) (cyB cyI cyJ cyP : ClassId) (a0 jaR jbs jbt jmB sz : Nat) (jaK ja1 jcp jbc jbV ja3 jbH ja2 jbO jaq jac jbI jbl jbn jba jaa jbA jbo jbp jbk jbj jbe jgP jbi jcd : Value) (jbE : Int32) (jci jcj : Nat → Int32) (jbz : Int32) (jol : Nat → Int32) (p1 : Int32) {E : String → Int32 → (Nat → Int32) → Prop} {Q : Int32 → Int32 → (Nat → Int32) → Prop} (hw : wq_X10_watch jbE jci jcj jbz jol p1 E Q) : vx_Met l yX10_watch wsX10_watch ({ frames := 8, cells := 1, slots := 6, locals := 164 }) (va_Pc [.ref a0, .int p1] (cPx l (dC, dI) (kT cyB cyI cyJ cyP) (wd05_4 a0 jaK jaR ja1 jcp jbc jbV ja3 jbH ja2 jbO jaq jac jbI jbl jbn jba jaa jbA jbz jaR jbs jbt jbo jbp jbk jbj jbe jmB jbE jgP jbi jcd jbs cyI jci jbt cyI jcj jmB cyI jol) sz)) (va_Qi (fun (r : Int32) (u : Int32 × (Nat → Int32)) => Q r u.1 u.2) (cB (dC, dI) (kT cyB cyI cyJ cyP) (va_A (wd05_4 a0 jaK jaR ja1 jcp jbc jbV ja3 jbH ja2 jbO jaq jac jbI jbl jbn jba jaa jbA jbz jaR jbs jbt jbo jbp jbk jbj jbe jmB jbE jgP jbi jcd jbs cyI jci jbt cyI jcj jmB cyI jol) sz) (fun u : Int32 × (Nat → Int32) => ((wd05_4 a0 jaK jaR ja1 jcp jbc jbV ja3 jbH ja2 jbO jaq jac jbI jbl jbn jba jaa jbA u.1 jaR jbs jbt jbo jbp jbk jbj jbe jmB jbE jgP jbi jcd jbs cyI jci jbt cyI jcj jmB cyI u.2) : va_W))) (va_A (wd05_4 a0 jaK jaR ja1 jcp jbc jbV ja3 jbH ja2 jbO jaq jac jbI jbl jbn jba jaa jbA jbz jaR jbs jbt jbo jbp jbk jbj jbe jmB jbE jgP jbi jcd jbs cyI jci jbt cyI jcj jmB cyI jol) sz)) (vx_X (fun _ => True) (fun (en : String) (u : Int32 × (Nat → Int32)) (t : State) => E en u.1 u.2 ∧ cB (dC, dI) (kT cyB cyI cyJ cyP) (va_A (wd05_4 a0 jaK jaR ja1 jcp jbc jbV ja3 jbH ja2 jbO jaq jac jbI jbl jbn jba jaa jbA jbz jaR jbs jbt jbo jbp jbk jbj jbe jmB jbE jgP jbi jcd jbs cyI jci jbt cyI jcj jmB cyI jol) sz) (fun u : Int32 × (Nat → Int32) => ((wd05_4 a0 jaK jaR ja1 jcp jbc jbV ja3 jbH ja2 jbO jaq jac jbI jbl jbn jba jaa jbA u.1 jaR jbs jbt jbo jbp jbk jbj jbe jmB jbE jgP jbi jcd jbs cyI jci jbt cyI jcj jmB cyI u.2) : va_W)) u t) (va_A (wd05_4 a0 jaK jaR ja1 jcp jbc jbV ja3 jbH ja2 jbO jaq jac jbI jbl jbn jba jaa jbA jbz jaR jbs jbt jbo jbp jbk jbj jbe jmB jbE jgP jbi jcd jbs cyI jci jbt cyI jcj jmB cyI jol) sz)) 1 6 (va_A (wd05_4 a0 jaK jaR ja1 jcp jbc jbV ja3 jbH ja2 jbO jaq jac jbI jbl jbn jba jaa jbA jbz jaR jbs jbt jbo jbp jbk jbj jbe jmB jbE jgP jbi jcd jbs cyI jci jbt cyI jcj jmB cyI jol) sz) := by
  refine vx_ofW (cc := cX10_watch) (maxL := 2) (ret := (some .int)) (by decide) rfl ?_
  intro p e s m args below meth c s₁ B hml hnt hv
  obtain ⟨rfl, hsz, hP, hK, hD0, hNw, hXl, hXu, hXn, hXt⟩ := hv
  have hx := B.exec
  have hb := B.bytes
  have hr := B.returns
  have hts := atoms_spec (ws := wsX10_watch) B.pre
  have hown : s.vm.findClass RX10 = some m.cls := findClass_of_methodNamed B.named
  have hlocks := B.notSynchronized
  subst hsz
  have hD := hD0.self (sz := s.heap.size)
  generalize hAe : va_A (wd05_4 a0 jaK jaR ja1 jcp jbc jbV ja3 jbH ja2 jbO jaq jac jbI jbl jbn jba jaa jbA jbz jaR jbs jbt jbo jbp jbk jbj jbe jmB jbE jgP jbi jcd jbs cyI jci jbt cyI jcj jmB cyI jol) s.heap.size = A at hD hXu hXn ⊢
  have hA : ∀ q : Nat, s.heap.size ≤ q → A q := fun q h => by rw [← hAe]; exact Or.inr h
  have hS : va_S A s.heap s.heap [] := va_S.rf
  have hP : va_P (dC, dI) vwCl (wd05_4 a0 jaK jaR ja1 jcp jbc jbV ja3 jbH ja2 jbO jaq jac jbI jbl jbn jba jaa jbA jbz jaR jbs jbt jbo jbp jbk jbj jbe jmB jbE jgP jbi jcd jbs cyI jci jbt cyI jcj jmB cyI jol) s.heap := hP
  have hl := lv_entry ([.ref a0, .int p1]) (n := 2) (Nat.le_of_ble_eq_true rfl)
  rw [lg_entry_eq]
  generalize (lg_sl ([.ref a0, .int p1]) ++ List.replicate (2 - (lg_sl ([.ref a0, .int p1])).length) Slot.unset).toArray = ls at hl ⊢
  have hl : lv_has ls 2 [(0, .ref a0), (1, .int p1)] := hl
  have hY : cfY l s A := ⟨hXl, hXu, hXn, hXt⟩
  have hXs : cfX l s c A := ⟨hnt, hY⟩
  have C0 : cfx p s m _ meth c cX10_watch (some .int) wsX10_watch RX10 2 A (dC, dI) (kT cyB cyI cyJ cyP) ∧ cfX l s c A := ⟨⟨hx, hb, hr, hts, hown, hlocks, hml, hA, hK, hNw⟩, hXs⟩
  clear hAe
  obtain ⟨H, hH⟩ : ∃ H, H = s.heap := ⟨_, rfl⟩
  rw [← hH] at hP ⊢
  have hS : va_S A s.heap H [] := by rw [hH]; exact va_S.rf
  have hS := hS
  refine lv_aload_n hx hb (dt_of tkX10_watch_k0 0 rfl) rfl (lv_at hl 0 rfl) ?_
  refine lv_iload_n hx hb (dt_of tkX10_watch_k0 1 rfl) rfl (lv_at hl 1 rfl) ?_
  refine lv_iconst (v := 0) hx hb (dt_of tkX10_watch_k0 2 rfl) (by decide) ?_
  refine lv_bipush (v := 60) hx hb (dt_of tkX10_watch_k0 3 rfl) (by decide) ?_
  obtain ⟨hCc, hPc, hDc, hFc⟩ := va_pick (ws' := (wd05_5 a0 jaK jaR ja1 jcp jbc jbV ja3 jbH ja2 jbO jaq jac jbI jbl jbn jba jaa jbA jbz)) hP hD hS hA [0] (by decide +kernel) rfl
  refine vx_callv (vx_runV (As := [.int p1, .int 0, .int 60]) (rest := []) ⟨hx, hb, hml, hown, hts⟩ (ck_X10_needWithin l dC dI cyB cyI cyJ cyP a0 H.size (jaK) (.ref jaR) (ja1) (jcp) (jbc) (jbV) (ja3) (jbH) (ja2) (jbO) (jaq) (jac) (jbI) (jbl) (jbn) (jba) (jaa) (jbA)  jbz p1 0 60 hw) (cwV 3 hts gX10_watch_X10_needWithin rfl rfl rfl (by decide +kernel) ⟨Nat.le_of_ble_eq_true rfl, Nat.le_of_ble_eq_true rfl⟩) ⟨cPx_blind, va_recv (q := (RX10, TX10, 19)) hK hPc (ci := 10) (q0 := 0) rfl rfl, cPx_pre hPc hK hDc hNw hY hS hFc⟩ rfl rfl hl.1 rfl (lv_room (Nat.le_of_ble_eq_true rfl)) (dt_of tkX10_watch_k0 4 rfl) ⟨Nat.le_of_ble_eq_true rfl, Nat.le_of_ble_eq_true rfl⟩) hS (fun q _ h => hFc q h) hFc (fun q _ h => hFc q h) (fun en ce q9 u t H1 locs ht hvm hpx hB hz1 hk1 hS hc9 hv9 hcl9 => ?_) (fun u t H1 locs ht hvm hw hB hz1 hk1 hS => ?_)
  · obtain ⟨x1, rfl⟩ : ∃ z, z = u := ⟨_, rfl⟩
    obtain ⟨hw, hP1, hK1, hD1⟩ := hB
    rw [ht] at hP1
    obtain ⟨hP, hD⟩ := va_joinN (wr := (wd05_1 jaR jbs jbt jbo jbp jbk jbj jbe jmB jbE jgP jbi jcd jbs cyI jci jbt cyI jcj jmB cyI jol)) (w1 := (wd05_5 a0 jaK jaR ja1 jcp jbc jbV ja3 jbH ja2 jbO jaq jac jbI jbl jbn jba jaa jbA x1)) (wn := (wd05_4 a0 jaK jaR ja1 jcp jbc jbV ja3 jbH ja2 jbO jaq jac jbI jbl jbn jba jaa jbA x1 jaR jbs jbt jbo jbp jbk jbj jbe jmB jbE jgP jbi jcd jbs cyI jci jbt cyI jcj jmB cyI jol)) hP hD [0] [1, 2, 3, 4] [4, 0, 1, 2, 3] hCc rfl (by decide +kernel) (by decide +kernel) (by decide +kernel) rfl hk1 hFc hP1 hD1
    generalize H1 = H at hP hS hc9 ⊢
    exact vx_out (fun x hx9 => (hXs.1 x hx9).elim) hlocks hc9 hv9 hcl9 (fun t2 ht2 hal2 => ⟨(x1, jol), trivial, ⟨hw, by rw [ht2]; exact hP, va_K.moved hal2 hK, hD⟩, hS.F ht2⟩) hS.2.2 (Nat.le_of_ble_eq_true rfl) (Nat.le_of_ble_eq_true rfl)
  obtain ⟨x1, rfl⟩ : ∃ z, z = u := ⟨_, rfl⟩
  obtain ⟨hP1, hK1, hD1⟩ := hB
  rw [ht] at hP1
  obtain ⟨hP, hD⟩ := va_joinN (wr := (wd05_1 jaR jbs jbt jbo jbp jbk jbj jbe jmB jbE jgP jbi jcd jbs cyI jci jbt cyI jcj jmB cyI jol)) (w1 := (wd05_5 a0 jaK jaR ja1 jcp jbc jbV ja3 jbH ja2 jbO jaq jac jbI jbl jbn jba jaa jbA x1)) (wn := (wd05_4 a0 jaK jaR ja1 jcp jbc jbV ja3 jbH ja2 jbO jaq jac jbI jbl jbn jba jaa jbA x1 jaR jbs jbt jbo jbp jbk jbj jbe jmB jbE jgP jbi jcd jbs cyI jci jbt cyI jcj jmB cyI jol)) hP hD [0] [1, 2, 3, 4] [4, 0, 1, 2, 3] hCc rfl (by decide +kernel) (by decide +kernel) (by decide +kernel) rfl hk1 hFc hP1 hD1
  generalize H1 = H at hP hS ⊢
  refine lv_aload_n hx hb (dt_of tkX10_watch_k0 5 rfl) rfl (lv_at hl 0 rfl) ?_
  refine va_get (D := (dC, dI)) (ci := 10) (v := .ref jaR) (C := RX10) (T := TX10) (N := 19) hx hb hts ui_X10_watch_X10 hown hK hP 0 rfl rfl 1 (by decide) (hts _ uw_X10_watch_f19) (fun _ h9 => h9) rfl (dt_of tkX10_watch_k0 6 rfl) ?_
  refine lv_iload_n hx hb (dt_of tkX10_watch_k0 7 rfl) rfl (lv_at hl 1 rfl) ?_
  obtain ⟨hCc, hPc, hDc, hFc⟩ := va_pick (ws' := (wd05_1 jaR jbs jbt jbo jbp jbk jbj jbe jmB jbE jgP jbi jcd jbs cyI jci jbt cyI jcj jmB cyI jol)) hP hD hS hA [1, 2, 3, 4] (by decide +kernel) rfl
  refine va_calli (va_runV (As := [.int p1]) (rest := []) ⟨hx, hb, hml, hown, hts⟩ (ck_X2_watchers l dC dI cyB cyI cyJ cyP jaR jmB jbs jbt H.size (jbo) (jbp) (jbk) (jbj) (jbe) (jgP) (jbi) (jcd) jbE jci jcj jol p1 hw) (cwV 1 hts gX10_watch_X2_watchers rfl rfl rfl (by decide +kernel) ⟨Nat.le_of_ble_eq_true rfl, Nat.le_of_ble_eq_true rfl⟩) ⟨cPc_blind, va_recv (q := (RX2, TX2, 12)) hK hPc (ci := 2) (q0 := 0) rfl rfl, cPc_pre hPc hK hDc hNw⟩ rfl rfl hl.1 rfl (lv_room (Nat.le_of_ble_eq_true rfl)) (dt_of tkX10_watch_k0 8 rfl) ⟨Nat.le_of_ble_eq_true rfl, Nat.le_of_ble_eq_true rfl⟩) hS (fun q _ h => hFc q h) hFc (fun r3 u t H1 locs ht hvm hw hB hz1 hk1 hS => ?_)
  obtain ⟨f2, rfl⟩ : ∃ z, z = u := ⟨_, rfl⟩
  obtain ⟨hP1, hK1, hD1⟩ := hB
  rw [ht] at hP1
  obtain ⟨hP, hD⟩ := va_joinI (wr := (wd05_5 a0 jaK jaR ja1 jcp jbc jbV ja3 jbH ja2 jbO jaq jac jbI jbl jbn jba jaa jbA x1)) (w1 := (wd05_1 jaR jbs jbt jbo jbp jbk jbj jbe jmB jbE jgP jbi jcd jbs cyI jci jbt cyI jcj jmB cyI f2)) (wn := (wd05_4 a0 jaK jaR ja1 jcp jbc jbV ja3 jbH ja2 jbO jaq jac jbI jbl jbn jba jaa jbA x1 jaR jbs jbt jbo jbp jbk jbj jbe jmB jbE jgP jbi jcd jbs cyI jci jbt cyI jcj jmB cyI f2)) hP hD [1, 2, 3, 4] [0] hCc rfl (by decide +kernel) (by decide +kernel) rfl hk1 hFc hP1 hD1
  generalize H1 = H at hP hS ⊢
  exact vx_ret (W.widen (k := 1) (n := 6) (Nat.le_of_ble_eq_true rfl) (Nat.le_of_ble_eq_true rfl) (W.iret (v := r3) hx hb hr (fun t ht hW => ⟨⟨r3, (x1, f2), rfl, hw, by rw [ht]; exact hP, va_K.moved hW.alike hK, hD⟩, hS.F ht⟩) hS.2.2 (dt_of tkX10_watch_k0 9 rfl)))
theorem uw_L_watch_ct13 : (.classLink RL 13 "java/lang/IllegalArgumentException" : Cond) ∈ wsL_watch := mbL_watch 595 (by decide +kernel)
theorem uw_L_watch_cw : (.codeWith yL_watch cL_watch 4 (some .int) [(0, 9, 12, 13)] : Cond) ∈ wsL_watch := mbL_watch 3661 (by decide +kernel)
set_option maxHeartbeats 4000000 in
set_option maxRecDepth 100000 in
theorem ck_L_watch (l : Launch) (dC : Nat → ClassId) (dI : Nat → Nat → Nat) (cyB cyI cyJ cyP : ClassId) (a0 a2 jaR jbs jbt jmB sz : Nat) (jaK ja1 jcp jbc jbV ja3 jbH ja2 jbO jaq jac jbI jbl jbn jba jaa jbA jbo jbp jbk jbj jbe jgP jbi jcd : Value) (n2 : Nat) (jbE : Int32) (jci jcj : Nat → Int32) (jbz : Int32) (jol : Nat → Int32) (f2 : Nat → Int64) (p1 : Int32) {Q : Int32 → Int32 → (Nat → Int32) → (Nat → Int64) → Prop} (hw : wq_L_watch n2 jbE jci jcj jbz jol f2 p1 Q) : Met l yL_watch wsL_watch ({ frames := 9, cells := 1, slots := 6, locals := 185 }) (va_Pc [.ref a0, .int p1, .ref a2] (cPx l (dC, dI) (kT cyB cyI cyJ cyP) (wd05_6 a0 jaK jaR ja1 jcp jbc jbV ja3 jbH ja2 jbO jaq jac jbI jbl jbn jba jaa jbA jbz jaR jbs jbt jbo jbp jbk jbj jbe jmB jbE jgP jbi jcd jbs cyI jci jbt cyI jcj jmB cyI jol a2 cyJ n2 f2) sz)) (va_Qi (fun (r : Int32) (u : Int32 × (Nat → Int32) × (Nat → Int64)) => Q r u.1 u.2.1 u.2.2) (cB (dC, dI) (kT cyB cyI cyJ cyP) (va_A (wd05_6 a0 jaK jaR ja1 jcp jbc jbV ja3 jbH ja2 jbO jaq jac jbI jbl jbn jba jaa jbA jbz jaR jbs jbt jbo jbp jbk jbj jbe jmB jbE jgP jbi jcd jbs cyI jci jbt cyI jcj jmB cyI jol a2 cyJ n2 f2) sz) (fun u : Int32 × (Nat → Int32) × (Nat → Int64) => ((wd05_6 a0 jaK jaR ja1 jcp jbc jbV ja3 jbH ja2 jbO jaq jac jbI jbl jbn jba jaa jbA u.1 jaR jbs jbt jbo jbp jbk jbj jbe jmB jbE jgP jbi jcd jbs cyI jci jbt cyI jcj jmB cyI u.2.1 a2 cyJ n2 u.2.2) : va_W))) (va_A (wd05_6 a0 jaK jaR ja1 jcp jbc jbV ja3 jbH ja2 jbO jaq jac jbI jbl jbn jba jaa jbA jbz jaR jbs jbt jbo jbp jbk jbj jbe jmB jbE jgP jbi jcd jbs cyI jci jbt cyI jcj jmB cyI jol a2 cyJ n2 f2) sz)) 1 6 (va_A (wd05_6 a0 jaK jaR ja1 jcp jbc jbV ja3 jbH ja2 jbO jaq jac jbI jbl jbn jba jaa jbA jbz jaR jbs jbt jbo jbp jbk jbj jbe jmB jbE jgP jbi jcd jbs cyI jci jbt cyI jcj jmB cyI jol a2 cyJ n2 f2) sz) := by
  refine va_MetW (cc := cL_watch) (maxL := 4) (ret := (some .int)) (by decide) rfl ?_
  intro p e s m args below meth c s₁ B hml hv
  obtain ⟨rfl, hsz, hP, hK, hD0, hNw, hXl, hXu, hXn, hXt⟩ := hv
  have hx := B.exec
  have hb := B.bytes
  have hr := B.returns
  have hts := atoms_spec (ws := wsL_watch) B.pre
  have hown : s.vm.findClass RL = some m.cls := findClass_of_methodNamed B.named
  have hlocks := B.notSynchronized
  subst hsz
  have hD := hD0.self (sz := s.heap.size)
  generalize hAe : va_A (wd05_6 a0 jaK jaR ja1 jcp jbc jbV ja3 jbH ja2 jbO jaq jac jbI jbl jbn jba jaa jbA jbz jaR jbs jbt jbo jbp jbk jbj jbe jmB jbE jgP jbi jcd jbs cyI jci jbt cyI jcj jmB cyI jol a2 cyJ n2 f2) s.heap.size = A at hD hXu hXn ⊢
  have hA : ∀ q : Nat, s.heap.size ≤ q → A q := fun q h => by rw [← hAe]; exact Or.inr h
  have hS : va_S A s.heap s.heap [] := va_S.rf
  have hP : va_P (dC, dI) vwCl (wd05_6 a0 jaK jaR ja1 jcp jbc jbV ja3 jbH ja2 jbO jaq jac jbI jbl jbn jba jaa jbA jbz jaR jbs jbt jbo jbp jbk jbj jbe jmB jbE jgP jbi jcd jbs cyI jci jbt cyI jcj jmB cyI jol a2 cyJ n2 f2) s.heap := hP
  have hl := lv_entry ([.ref a0, .int p1, .ref a2]) (n := 4) (Nat.le_of_ble_eq_true rfl)
  rw [lg_entry_eq]
  generalize (lg_sl ([.ref a0, .int p1, .ref a2]) ++ List.replicate (4 - (lg_sl ([.ref a0, .int p1, .ref a2])).length) Slot.unset).toArray = ls at hl ⊢
  have hl : lv_has ls 4 [(0, .ref a0), (1, .int p1), (2, .ref a2)] := hl
  have hY : cfY l s A := ⟨hXl, hXu, hXn, hXt⟩
  have hTb := vx_table (x := yL_watch) B (hts _ uw_L_watch_cw)
  clear hAe
  obtain ⟨H, hH⟩ : ∃ H, H = s.heap := ⟨_, rfl⟩
  rw [← hH] at hP ⊢
  have hS : va_S A s.heap H [] := by rw [hH]; exact va_S.rf
  have hS := hS
  refine lv_aload_n hx hb (dt_of tkL_watch_k0 0 rfl) rfl (lv_at hl 2 rfl) ?_
  refine lv_iconst (v := 0) hx hb (dt_of tkL_watch_k0 1 rfl) (by decide) ?_
  refine lv_aload_n hx hb (dt_of tkL_watch_k0 2 rfl) rfl (lv_at hl 0 rfl) ?_
  refine lv_iload_n hx hb (dt_of tkL_watch_k0 3 rfl) rfl (lv_at hl 1 rfl) ?_
  obtain ⟨hCc, hPc, hDc, hFc⟩ := va_pick (ws' := (wd05_4 a0 jaK jaR ja1 jcp jbc jbV ja3 jbH ja2 jbO jaq jac jbI jbl jbn jba jaa jbA jbz jaR jbs jbt jbo jbp jbk jbj jbe jmB jbE jgP jbi jcd jbs cyI jci jbt cyI jcj jmB cyI jol)) hP hD hS hA [0, 1, 2, 3, 4] (by decide +kernel) rfl
  refine vx_calli (vx_runV (As := [.int p1]) (rest := [.int 0, .ref a2]) ⟨hx, hb, hml, hown, hts⟩ (ck_X10_watch l dC dI cyB cyI cyJ cyP a0 jaR jbs jbt jmB H.size (jaK) (ja1) (jcp) (jbc) (jbV) (ja3) (jbH) (ja2) (jbO) (jaq) (jac) (jbI) (jbl) (jbn) (jba) (jaa) (jbA) (jbo) (jbp) (jbk) (jbj) (jbe) (jgP) (jbi) (jcd) jbE jci jcj jbz jol p1 hw) (cwV 1 hts gL_watch_X10_watch rfl rfl rfl (by decide +kernel) ⟨Nat.le_of_ble_eq_true rfl, Nat.le_of_ble_eq_true rfl⟩) ⟨cPx_blind, va_recv (q := (RX10, TX10, 19)) hK hPc (ci := 10) (q0 := 0) rfl rfl, cPx_pre hPc hK hDc hNw hY hS hFc⟩ rfl rfl hl.1 rfl (lv_room (Nat.le_of_ble_eq_true rfl)) (dt_of tkL_watch_k0 4 rfl) ⟨Nat.le_of_ble_eq_true rfl, Nat.le_of_ble_eq_true rfl⟩) hS (fun q _ h => hFc q h) hFc (fun q _ h => hFc q h) (fun en ce qx9 u t H1 locs ht hvm hpx hB hz1 hk1 hS hc9 hv9 hcl9 => ?_) (fun r4 u t H1 locs ht hvm hw hB hz1 hk1 hS => ?_)
  · obtain ⟨x1, f3⟩ := u
    obtain ⟨hw, hP1, hK1, hD1⟩ := hB
    rw [ht] at hP1
    obtain ⟨hP, hD⟩ := va_joinN (wr := [(a2, .inl (cyJ, n2, .inr (.inl f2)))]) (w1 := (wd05_4 a0 jaK jaR ja1 jcp jbc jbV ja3 jbH ja2 jbO jaq jac jbI jbl jbn jba jaa jbA x1 jaR jbs jbt jbo jbp jbk jbj jbe jmB jbE jgP jbi jcd jbs cyI jci jbt cyI jcj jmB cyI f3)) (wn := (wd05_6 a0 jaK jaR ja1 jcp jbc jbV ja3 jbH ja2 jbO jaq jac jbI jbl jbn jba jaa jbA x1 jaR jbs jbt jbo jbp jbk jbj jbe jmB jbE jgP jbi jcd jbs cyI jci jbt cyI jcj jmB cyI f3 a2 cyJ n2 f2)) hP hD [0, 1, 2, 3, 4] [5] [1, 2, 3, 4, 5, 0] hCc rfl (by decide +kernel) (by decide +kernel) (by decide +kernel) rfl hk1 hFc hP1 hD1
    generalize H1 = H at hP hS hc9 ⊢
    obtain ⟨rfl, hw⟩ := hw
    refine vx_catch (own := RL) (name := "java/lang/IllegalArgumentException") hown [] ⟨0, 9, 12, 13⟩ [] (hTb.trans rfl) (fun z hz => nomatch hz) (by decide) (by decide) (hts _ uw_L_watch_ct13) (va_Nw.use rfl (hY.2.2.2.1.2 _ (List.mem_of_getElem? (i := 0) rfl))) hc9 hv9 hcl9 ?_
    refine lv_astore_n (lv' := [(3, .ref qx9), (0, .ref a0), (1, .int p1), (2, .ref a2)]) hx hb (dt_of tkL_watch_k0 8 rfl) rfl hl (by decide) rfl (fun ls hl => ?_)
    refine lv_iconst (v := 1) hx hb (dt_of tkL_watch_k0 9 rfl) (by decide) ?_
    exact (W.widen (k := 1) (n := 6) (Nat.le_of_ble_eq_true rfl) (Nat.le_of_ble_eq_true rfl) (W.iret (v := 1) hx hb hr (fun t ht hW => ⟨⟨1, (x1, f3, f2), rfl, hw, by rw [ht]; exact hP, va_K.moved hW.alike hK, hD⟩, hS.F ht⟩) hS.2.2 (dt_of tkL_watch_k0 10 rfl)))
  obtain ⟨x1, f3⟩ := u
  obtain ⟨hP1, hK1, hD1⟩ := hB
  rw [ht] at hP1
  obtain ⟨hP, hD⟩ := va_join (wr := [(a2, .inl (cyJ, n2, .inr (.inl f2)))]) (w1 := (wd05_4 a0 jaK jaR ja1 jcp jbc jbV ja3 jbH ja2 jbO jaq jac jbI jbl jbn jba jaa jbA x1 jaR jbs jbt jbo jbp jbk jbj jbe jmB jbE jgP jbi jcd jbs cyI jci jbt cyI jcj jmB cyI f3)) hP hD [0, 1, 2, 3, 4] [5] rfl rfl (by decide) (by decide) hk1 hFc hP1 hD1
  have hP : va_P (dC, dI) vwCl (wd05_6 a0 jaK jaR ja1 jcp jbc jbV ja3 jbH ja2 jbO jaq jac jbI jbl jbn jba jaa jbA x1 jaR jbs jbt jbo jbp jbk jbj jbe jmB jbE jgP jbi jcd jbs cyI jci jbt cyI jcj jmB cyI f3 a2 cyJ n2 f2) H1 := hP.sub [1, 2, 3, 4, 5, 0] rfl
  have hD : va_D A (wd05_6 a0 jaK jaR ja1 jcp jbc jbV ja3 jbH ja2 jbO jaq jac jbI jbl jbn jba jaa jbA x1 jaR jbs jbt jbo jbp jbk jbj jbe jmB jbE jgP jbi jcd jbs cyI jci jbt cyI jcj jmB cyI f3 a2 cyJ n2 f2) := hD.sub [1, 2, 3, 4, 5, 0] (by decide) rfl
  generalize H1 = H at hP hS ⊢
  refine lv_i2l (v := r4.toInt64) hx hb (dt_of tkL_watch_k0 5 rfl) rfl ?_
  refine lv_topl (fun x5 ex5 => ?_)
  have hw := hw x5 ex5
  obtain ⟨hi9, hw⟩ := hw
  refine va_last hx hb hK hP hD hS 5 2 rfl rfl hi9 (dt_of tkL_watch_k0 6 rfl) (fun H locs hP hD hS => ?_)
  obtain ⟨f6, ef6⟩ : ∃ y : Nat → Int64, y = vp_updL f2 (0 : Int32).toNatClampNeg x5 := ⟨_, rfl⟩
  have hw := hw f6 ef6
  have hP : va_P (dC, dI) vwCl (wd05_6 a0 jaK jaR ja1 jcp jbc jbV ja3 jbH ja2 jbO jaq jac jbI jbl jbn jba jaa jbA x1 jaR jbs jbt jbo jbp jbk jbj jbe jmB jbE jgP jbi jcd jbs cyI jci jbt cyI jcj jmB cyI f3 a2 cyJ n2 f6) H := by rw [ef6]; exact hP
  have hD : va_D A (wd05_6 a0 jaK jaR ja1 jcp jbc jbV ja3 jbH ja2 jbO jaq jac jbI jbl jbn jba jaa jbA x1 jaR jbs jbt jbo jbp jbk jbj jbe jmB jbE jgP jbi jcd jbs cyI jci jbt cyI jcj jmB cyI f3 a2 cyJ n2 f6) := by rw [ef6]; exact hD
  refine lv_goto (tgt := 15) hx hb (dt_of tkL_watch_k0 7 rfl) (by decide) ?_
  refine lv_iconst (v := 0) hx hb (dt_of tkL_watch_k0 11 rfl) (by decide) ?_
  exact (W.widen (k := 1) (n := 6) (Nat.le_of_ble_eq_true rfl) (Nat.le_of_ble_eq_true rfl) (W.iret (v := 0) hx hb hr (fun t ht hW => ⟨⟨0, (x1, f3, f6), rfl, hw, by rw [ht]; exact hP, va_K.moved hW.alike hK, hD⟩, hS.F ht⟩) hS.2.2 (dt_of tkL_watch_k0 12 rfl)))
theorem ui_X9_add_X9 : ∀ w ∈ u_ws RX9 TX9 12, w ∈ wsX9_add := uiM mbX9_add euX9 (by decide +kernel)
theorem uw_X9_add_f11 : (.fieldLink RX9 11 "MarchHares$Work" "kinds" "[I" : Cond) ∈ wsX9_add := mbX9_add 266 (by decide +kernel)
theorem uw_X9_add_f15 : (.fieldLink RX9 15 "MarchHares$Work" "first" "[I" : Cond) ∈ wsX9_add := mbX9_add 267 (by decide +kernel)
theorem uw_X9_add_f18 : (.fieldLink RX9 18 "MarchHares$Work" "second" "[I" : Cond) ∈ wsX9_add := mbX9_add 268 (by decide +kernel)
theorem uw_X9_add_f21 : (.fieldLink RX9 21 "MarchHares$Work" "third" "[I" : Cond) ∈ wsX9_add := mbX9_add 269 (by decide +kernel)
theorem uw_X9_add_f37 : (.fieldLink RX9 37 "MarchHares$Work" "length" "I" : Cond) ∈ wsX9_add := mbX9_add 1606 (by decide +kernel)
set_option maxHeartbeats 4000000 in
set_option maxRecDepth 100000 in
theorem ck_X9_add (l : Launch) (dC : Nat → ClassId) (dI : Nat → Nat → Nat) (cyB cyI cyJ cyP : ClassId) (a0 jbU jgC jgh jho sz : Nat) (jme jkw joE ja4 ja0 jaG jaF : Value)  (jdC jiX jiF jjg : Nat → Int32) (jb7 p1 p2 p3 p4 : Int32) {Q : (Nat → Int32) → (Nat → Int32) → (Nat → Int32) → (Nat → Int32) → Int32 → Prop} (hw : wq_X9_add  jdC jiX jiF jjg jb7 p1 p2 p3 p4 Q) : Met l yX9_add wsX9_add ({ frames := 0, cells := 0, slots := 0, locals := 0 }) (va_Pc [.ref a0, .int p1, .int p2, .int p3, .int p4] (cPc (dC, dI) (kT cyB cyI cyJ cyP) (wd05_7 a0 jbU jgC jgh jho jme jkw jb7 joE ja4 ja0 jaG jaF jbU cyI jdC jgC cyI jiX jgh cyI jiF jho cyI jjg) sz)) (va_Qv (fun (u : (Nat → Int32) × (Nat → Int32) × (Nat → Int32) × (Nat → Int32) × Int32) => Q u.1 u.2.1 u.2.2.1 u.2.2.2.1 u.2.2.2.2) (cB (dC, dI) (kT cyB cyI cyJ cyP) (va_A (wd05_7 a0 jbU jgC jgh jho jme jkw jb7 joE ja4 ja0 jaG jaF jbU cyI jdC jgC cyI jiX jgh cyI jiF jho cyI jjg) sz) (fun u : (Nat → Int32) × (Nat → Int32) × (Nat → Int32) × (Nat → Int32) × Int32 => ((wd05_7 a0 jbU jgC jgh jho jme jkw u.2.2.2.2 joE ja4 ja0 jaG jaF jbU cyI u.1 jgC cyI u.2.1 jgh cyI u.2.2.1 jho cyI u.2.2.2.1) : va_W))) (va_A (wd05_7 a0 jbU jgC jgh jho jme jkw jb7 joE ja4 ja0 jaG jaF jbU cyI jdC jgC cyI jiX jgh cyI jiF jho cyI jjg) sz)) 0 0 (va_A (wd05_7 a0 jbU jgC jgh jho jme jkw jb7 joE ja4 ja0 jaG jaF jbU cyI jdC jgC cyI jiX jgh cyI jiF jho cyI jjg) sz) := by
  refine Met.ofW (cc := cX9_add) (maxL := 5) (ret := none) (by decide) rfl ?_
  intro p e s m args below meth c s₁ B hml hv
  obtain ⟨rfl, hsz, hP, hK, hD0, hNw⟩ := hv
  have hx := B.exec
  have hb := B.bytes
  have hr := B.returns
  have hts := atoms_spec (ws := wsX9_add) B.pre
  have hown : s.vm.findClass RX9 = some m.cls := findClass_of_methodNamed B.named
  have hlocks := B.notSynchronized
  subst hsz
  have hD := hD0.self (sz := s.heap.size)
  generalize hAe : va_A (wd05_7 a0 jbU jgC jgh jho jme jkw jb7 joE ja4 ja0 jaG jaF jbU cyI jdC jgC cyI jiX jgh cyI jiF jho cyI jjg) s.heap.size = A at hD ⊢
  have hA : ∀ q : Nat, s.heap.size ≤ q → A q := fun q h => by rw [← hAe]; exact Or.inr h
  have hS : va_S A s.heap s.heap [] := va_S.rf
  have hP : va_P (dC, dI) vwCl (wd05_7 a0 jbU jgC jgh jho jme jkw jb7 joE ja4 ja0 jaG jaF jbU cyI jdC jgC cyI jiX jgh cyI jiF jho cyI jjg) s.heap := hP
  have hl := lv_entry ([.ref a0, .int p1, .int p2, .int p3, .int p4]) (n := 5) (Nat.le_of_ble_eq_true rfl)
  rw [lg_entry_eq]
  generalize (lg_sl ([.ref a0, .int p1, .int p2, .int p3, .int p4]) ++ List.replicate (5 - (lg_sl ([.ref a0, .int p1, .int p2, .int p3, .int p4])).length) Slot.unset).toArray = ls at hl ⊢
  have hl : lv_has ls 5 [(0, .ref a0), (1, .int p1), (2, .int p2), (3, .int p3), (4, .int p4)] := hl
  have C0 : cfx p s m _ meth c cX9_add none wsX9_add RX9 5 A (dC, dI) (kT cyB cyI cyJ cyP) := ⟨hx, hb, hr, hts, hown, hlocks, hml, hA, hK, hNw⟩
  clear hAe
  obtain ⟨H, hH⟩ : ∃ H, H = s.heap := ⟨_, rfl⟩
  rw [← hH] at hP ⊢
  have hS : va_S A s.heap H [] := by rw [hH]; exact va_S.rf
  have hS := hS
  refine lv_aload_n hx hb (dt_of tkX9_add_k0 0 rfl) rfl (lv_at hl 0 rfl) ?_
  refine va_get (D := (dC, dI)) (ci := 9) (v := .int jb7) (C := RX9) (T := TX9) (N := 12) hx hb hts ui_X9_add_X9 hown hK hP 0 rfl rfl 6 (by decide) (hts _ uw_X9_add_f37) (fun _ h9 => h9) rfl (dt_of tkX9_add_k0 1 rfl) ?_
  refine lv_bipush (v := 50) hx hb (dt_of tkX9_add_k0 2 rfl) (by decide) ?_
  refine lv_icmp_ge (tgt := 60) hx hb (dt_of tkX9_add_k0 3 rfl) (by decide) (fun c1 => ?_) (fun c1 => ?_)
  · have hw := hw.1 c1
    exact ((W.vret hx hb hr (fun t ht hW => ⟨⟨(jdC, jiX, jiF, jjg, jb7), rfl, hw, by rw [ht]; exact hP, va_K.moved hW.alike hK, hD⟩, hS.F ht⟩) hS.2.2 (dt_of tkX9_add_k56 2 rfl)))
  · have hw := hw.2 c1
    refine lv_aload_n hx hb (dt_of tkX9_add_k0 4 rfl) rfl (lv_at hl 0 rfl) ?_
    refine va_get (D := (dC, dI)) (ci := 9) (v := .ref jbU) (C := RX9) (T := TX9) (N := 12) hx hb hts ui_X9_add_X9 hown hK hP 0 rfl rfl 0 (by decide) (hts _ uw_X9_add_f11) (fun _ h9 => h9) rfl (dt_of tkX9_add_k0 5 rfl) ?_
    refine lv_aload_n hx hb (dt_of tkX9_add_k0 6 rfl) rfl (lv_at hl 0 rfl) ?_
    refine va_get (D := (dC, dI)) (ci := 9) (v := .int jb7) (C := RX9) (T := TX9) (N := 12) hx hb hts ui_X9_add_X9 hown hK hP 0 rfl rfl 6 (by decide) (hts _ uw_X9_add_f37) (fun _ h9 => h9) rfl (dt_of tkX9_add_k0 7 rfl) ?_
    refine lv_iload_n hx hb (dt_of tkX9_add_k0 8 rfl) rfl (lv_at hl 1 rfl) ?_
    obtain ⟨hi9, hw⟩ := hw
    refine va_iast hx hb hK hP hD hS 1 1 rfl rfl hi9 (dt_of tkX9_add_k0 9 rfl) (fun H locs hP hD hS => ?_)
    obtain ⟨f2, ef2⟩ : ∃ y : Nat → Int32, y = upd jdC jb7.toNatClampNeg p1 := ⟨_, rfl⟩
    have hw := hw f2 ef2
    have hP : va_P (dC, dI) vwCl (wd05_7 a0 jbU jgC jgh jho jme jkw jb7 joE ja4 ja0 jaG jaF jbU cyI f2 jgC cyI jiX jgh cyI jiF jho cyI jjg) H := by rw [ef2]; exact hP
    have hD : va_D A (wd05_7 a0 jbU jgC jgh jho jme jkw jb7 joE ja4 ja0 jaG jaF jbU cyI f2 jgC cyI jiX jgh cyI jiF jho cyI jjg) := by rw [ef2]; exact hD
    refine lv_aload_n hx hb (dt_of tkX9_add_k0 10 rfl) rfl (lv_at hl 0 rfl) ?_
    refine va_get (D := (dC, dI)) (ci := 9) (v := .ref jgC) (C := RX9) (T := TX9) (N := 12) hx hb hts ui_X9_add_X9 hown hK hP 0 rfl rfl 1 (by decide) (hts _ uw_X9_add_f15) (fun _ h9 => h9) rfl (dt_of tkX9_add_k0 11 rfl) ?_
    refine lv_aload_n hx hb (dt_of tkX9_add_k0 12 rfl) rfl (lv_at hl 0 rfl) ?_
    refine va_get (D := (dC, dI)) (ci := 9) (v := .int jb7) (C := RX9) (T := TX9) (N := 12) hx hb hts ui_X9_add_X9 hown hK hP 0 rfl rfl 6 (by decide) (hts _ uw_X9_add_f37) (fun _ h9 => h9) rfl (dt_of tkX9_add_k0 13 rfl) ?_
    refine lv_iload_n hx hb (dt_of tkX9_add_k0 14 rfl) rfl (lv_at hl 2 rfl) ?_
    obtain ⟨hi9, hw⟩ := hw
    refine va_iast hx hb hK hP hD hS 2 1 rfl rfl hi9 (dt_of tkX9_add_k0 15 rfl) (fun H locs hP hD hS => ?_)
    obtain ⟨f3, ef3⟩ : ∃ y : Nat → Int32, y = upd jiX jb7.toNatClampNeg p2 := ⟨_, rfl⟩
    have hw := hw f3 ef3
    have hP : va_P (dC, dI) vwCl (wd05_7 a0 jbU jgC jgh jho jme jkw jb7 joE ja4 ja0 jaG jaF jbU cyI f2 jgC cyI f3 jgh cyI jiF jho cyI jjg) H := by rw [ef3]; exact hP
    have hD : va_D A (wd05_7 a0 jbU jgC jgh jho jme jkw jb7 joE ja4 ja0 jaG jaF jbU cyI f2 jgC cyI f3 jgh cyI jiF jho cyI jjg) := by rw [ef3]; exact hD
    refine lv_aload_n hx hb (dt_of tkX9_add_k29 0 rfl) rfl (lv_at hl 0 rfl) ?_
    refine va_get (D := (dC, dI)) (ci := 9) (v := .ref jgh) (C := RX9) (T := TX9) (N := 12) hx hb hts ui_X9_add_X9 hown hK hP 0 rfl rfl 2 (by decide) (hts _ uw_X9_add_f18) (fun _ h9 => h9) rfl (dt_of tkX9_add_k29 1 rfl) ?_
    refine lv_aload_n hx hb (dt_of tkX9_add_k29 2 rfl) rfl (lv_at hl 0 rfl) ?_
    refine va_get (D := (dC, dI)) (ci := 9) (v := .int jb7) (C := RX9) (T := TX9) (N := 12) hx hb hts ui_X9_add_X9 hown hK hP 0 rfl rfl 6 (by decide) (hts _ uw_X9_add_f37) (fun _ h9 => h9) rfl (dt_of tkX9_add_k29 3 rfl) ?_
    refine lv_iload_n hx hb (dt_of tkX9_add_k29 4 rfl) rfl (lv_at hl 3 rfl) ?_
    obtain ⟨hi9, hw⟩ := hw
    refine va_iast hx hb hK hP hD hS 3 1 rfl rfl hi9 (dt_of tkX9_add_k29 5 rfl) (fun H locs hP hD hS => ?_)
    obtain ⟨f4, ef4⟩ : ∃ y : Nat → Int32, y = upd jiF jb7.toNatClampNeg p3 := ⟨_, rfl⟩
    have hw := hw f4 ef4
    have hP : va_P (dC, dI) vwCl (wd05_7 a0 jbU jgC jgh jho jme jkw jb7 joE ja4 ja0 jaG jaF jbU cyI f2 jgC cyI f3 jgh cyI f4 jho cyI jjg) H := by rw [ef4]; exact hP
    have hD : va_D A (wd05_7 a0 jbU jgC jgh jho jme jkw jb7 joE ja4 ja0 jaG jaF jbU cyI f2 jgC cyI f3 jgh cyI f4 jho cyI jjg) := by rw [ef4]; exact hD
    refine lv_aload_n hx hb (dt_of tkX9_add_k29 6 rfl) rfl (lv_at hl 0 rfl) ?_
    refine va_get (D := (dC, dI)) (ci := 9) (v := .ref jho) (C := RX9) (T := TX9) (N := 12) hx hb hts ui_X9_add_X9 hown hK hP 0 rfl rfl 3 (by decide) (hts _ uw_X9_add_f21) (fun _ h9 => h9) rfl (dt_of tkX9_add_k29 7 rfl) ?_
    refine lv_aload_n hx hb (dt_of tkX9_add_k29 8 rfl) rfl (lv_at hl 0 rfl) ?_
    refine va_get (D := (dC, dI)) (ci := 9) (v := .int jb7) (C := RX9) (T := TX9) (N := 12) hx hb hts ui_X9_add_X9 hown hK hP 0 rfl rfl 6 (by decide) (hts _ uw_X9_add_f37) (fun _ h9 => h9) rfl (dt_of tkX9_add_k29 9 rfl) ?_
    refine lv_iload hx hb (dt_of tkX9_add_k29 10 rfl) (lv_at hl 4 rfl) ?_
    obtain ⟨hi9, hw⟩ := hw
    refine va_iast hx hb hK hP hD hS 4 1 rfl rfl hi9 (dt_of tkX9_add_k29 11 rfl) (fun H locs hP hD hS => ?_)
    obtain ⟨f5, ef5⟩ : ∃ y : Nat → Int32, y = upd jjg jb7.toNatClampNeg p4 := ⟨_, rfl⟩
    have hw := hw f5 ef5
    have hP : va_P (dC, dI) vwCl (wd05_7 a0 jbU jgC jgh jho jme jkw jb7 joE ja4 ja0 jaG jaF jbU cyI f2 jgC cyI f3 jgh cyI f4 jho cyI f5) H := by rw [ef5]; exact hP
    have hD : va_D A (wd05_7 a0 jbU jgC jgh jho jme jkw jb7 joE ja4 ja0 jaG jaF jbU cyI f2 jgC cyI f3 jgh cyI f4 jho cyI f5) := by rw [ef5]; exact hD
    refine lv_aload_n hx hb (dt_of tkX9_add_k29 12 rfl) rfl (lv_at hl 0 rfl) ?_
    refine lv_dup hx hb (dt_of tkX9_add_k29 13 rfl) rfl ?_
    refine va_get (D := (dC, dI)) (ci := 9) (v := .int jb7) (C := RX9) (T := TX9) (N := 12) hx hb hts ui_X9_add_X9 hown hK hP 0 rfl rfl 6 (by decide) (hts _ uw_X9_add_f37) (fun _ h9 => h9) rfl (dt_of tkX9_add_k29 14 rfl) ?_
    refine lv_iconst (v := 1) hx hb (dt_of tkX9_add_k29 15 rfl) (by decide) ?_
    refine lv_iadd hx hb (dt_of tkX9_add_k56 0 rfl) ?_
    refine lv_topi (fun x6 ex6 => ?_)
    have hw := hw x6 ex6
    refine va_put (D := (dC, dI)) (ci := 9) (v := .int x6) (ty := .int) (C := RX9) (T := TX9) (N := 12) hx hb hts ui_X9_add_X9 tyX9 tyX9_ok nmX9 hown hK hP hD hS 0 rfl rfl 6 (by decide) (hts _ uw_X9_add_f37) (fun _ h9 => h9) rfl (by decide +kernel) rfl rfl (Nat.le_of_ble_eq_true rfl) (dt_of tkX9_add_k56 1 rfl) (fun H locs hP hD hS => ?_)
    have hP : va_P (dC, dI) vwCl (wd05_7 a0 jbU jgC jgh jho jme jkw x6 joE ja4 ja0 jaG jaF jbU cyI f2 jgC cyI f3 jgh cyI f4 jho cyI f5) H := hP
    have hD : va_D A (wd05_7 a0 jbU jgC jgh jho jme jkw x6 joE ja4 ja0 jaG jaF jbU cyI f2 jgC cyI f3 jgh cyI f4 jho cyI f5) := hD
    exact ((W.vret hx hb hr (fun t ht hW => ⟨⟨(f2, f3, f4, f5, x6), rfl, hw, by rw [ht]; exact hP, va_K.moved hW.alike hK, hD⟩, hS.F ht⟩) hS.2.2 (dt_of tkX9_add_k56 2 rfl)))
theorem ui_X9_closeLoop_X9 : ∀ w ∈ u_ws RX9 TX9 12, w ∈ wsX9_closeLoop := uiM mbX9_closeLoop euX9 (by decide +kernel)
theorem uw_X9_closeLoop_f18 : (.fieldLink RX9 18 "MarchHares$Work" "second" "[I" : Cond) ∈ wsX9_closeLoop := mbX9_closeLoop 268 (by decide +kernel)
theorem uw_X9_closeLoop_f24 : (.fieldLink RX9 24 "MarchHares$Work" "heads" "[I" : Cond) ∈ wsX9_closeLoop := mbX9_closeLoop 270 (by decide +kernel)
theorem uw_X9_closeLoop_f37 : (.fieldLink RX9 37 "MarchHares$Work" "length" "I" : Cond) ∈ wsX9_closeLoop := mbX9_closeLoop 1606 (by decide +kernel)
theorem uw_X9_closeLoop_f40 : (.fieldLink RX9 40 "MarchHares$Work" "open" "I" : Cond) ∈ wsX9_closeLoop := mbX9_closeLoop 1607 (by decide +kernel)
set_option maxHeartbeats 4000000 in
set_option maxRecDepth 100000 in
theorem kb_X9_closeLoop_36 {p : Program} {l : Launch} {e : Env} {s : State} {m : MethodId} {args : Array Value} {below : List Frame} {meth : Method} {c : Code} {A : Nat → Prop} (dC : Nat → ClassId) (dI : Nat → Nat → Nat) (cyB cyI cyJ cyP : ClassId) (a0 jju jgh jbU jgC jho : Nat) (jkw ja4 ja0 jaG jaF : Value) (jlb : Nat → Int32) (Q : Int32 → (Nat → Int32) → (Nat → Int32) → (Nat → Int32) → (Nat → Int32) → Int32 → Prop)  (C0 : cfx p s m args meth c cX9_closeLoop none wsX9_closeLoop RX9 2 A (dC, dI) (kT cyB cyI cyJ cyP)) : ∀ (H : Heap) (locs : List Loc) (ls : Array Slot) (jjF : Int32) (jiF jdC jiX jjg : Nat → Int32) (jb7 l1 : Int32), va_P (dC, dI) vwCl (wd05_8 a0 jbU jgC jgh jho jju jkw jb7 jjF ja4 ja0 jaG jaF jju cyI jlb jgh cyI jiF jbU cyI jdC jgC cyI jiX jho cyI jjg) H → va_D A (wd05_8 a0 jbU jgC jgh jho jju jkw jb7 jjF ja4 ja0 jaG jaF jju cyI jlb jgh cyI jiF jbU cyI jdC jgC cyI jiX jho cyI jjg) → va_S A s.heap H locs → lv_has ls 2 [(0, .ref a0), (1, .int l1)] → wb_X9_closeLoop_36 jlb Q  jjF jiF jdC jiX jjg jb7 l1 → W p l e (headSpec wsX9_closeLoop ({ frames := 1, cells := 0, slots := 0, locals := 24 })).room s m args below meth c H locs 0 0 (MQ below (va_Qv (fun (u : Int32 × (Nat → Int32) × (Nat → Int32) × (Nat → Int32) × (Nat → Int32) × Int32) => Q u.1 u.2.1 u.2.2.1 u.2.2.2.1 u.2.2.2.2.1 u.2.2.2.2.2) (cB (dC, dI) (kT cyB cyI cyJ cyP) A (fun u : Int32 × (Nat → Int32) × (Nat → Int32) × (Nat → Int32) × (Nat → Int32) × Int32 => ((wd05_8 a0 jbU jgC jgh jho jju jkw u.2.2.2.2.2 u.1 ja4 ja0 jaG jaF jju cyI jlb jgh cyI u.2.1 jbU cyI u.2.2.1 jgC cyI u.2.2.2.1 jho cyI u.2.2.2.2.1) : va_W))) A) args s 0 0 A) (F0 m 36 ls []) := by
  obtain ⟨hx, hb, hr, hts, hown, hlocks, hml, hA, hK, hNw⟩ := id C0
  intro H locs ls jjF jiF jdC jiX jjg jb7 l1 hP hD hS hl hw
  refine lv_aload_n hx hb (dt_of tkX9_closeLoop_k27 5 rfl) rfl (lv_at hl 0 rfl) ?_
  refine lv_iconst (v := 5) hx hb (dt_of tkX9_closeLoop_k27 6 rfl) (by decide) ?_
  refine lv_iload_n hx hb (dt_of tkX9_closeLoop_k27 7 rfl) rfl (lv_at hl 1 rfl) ?_
  refine lv_iconst (v := 0) hx hb (dt_of tkX9_closeLoop_k27 8 rfl) (by decide) ?_
  refine lv_iconst (v := 0) hx hb (dt_of tkX9_closeLoop_k27 9 rfl) (by decide) ?_
  obtain ⟨hCc, hPc, hDc, hFc⟩ := va_pick (ws' := (wd05_9 a0 jbU jgC jgh jho jju jkw jb7 jjF ja4 ja0 jaG jaF jbU cyI jdC jgC cyI jiX jgh cyI jiF jho cyI jjg)) hP hD hS hA [0, 3, 4, 2, 5] (by decide +kernel) rfl
  refine va_callv (va_runV (As := [.int 5, .int l1, .int 0, .int 0]) (rest := []) ⟨hx, hb, hml, hown, hts⟩ (ck_X9_add l dC dI cyB cyI cyJ cyP a0 jbU jgC jgh jho H.size (.ref jju) (jkw) (.int jjF) (ja4) (ja0) (jaG) (jaF)  jdC jiX jiF jjg jb7 5 l1 0 0 hw) (cwV 4 hts gX9_closeLoop_X9_add rfl rfl rfl (by decide +kernel) ⟨Nat.le_of_ble_eq_true rfl, Nat.le_of_ble_eq_true rfl⟩) ⟨cPc_blind, va_recv (q := (RX9, TX9, 12)) hK hPc (ci := 9) (q0 := 0) rfl rfl, cPc_pre hPc hK hDc hNw⟩ rfl rfl hl.1 rfl (lv_room (Nat.le_of_ble_eq_true rfl)) (dt_of tkX9_closeLoop_k27 10 rfl) ⟨Nat.le_of_ble_eq_true rfl, Nat.le_of_ble_eq_true rfl⟩) hS (fun q _ h => hFc q h) hFc (fun u t H1 locs ht hvm hw hB hz1 hk1 hS => ?_)
  obtain ⟨f5, f6, f7, f8, x9⟩ := u
  obtain ⟨hP1, hK1, hD1⟩ := hB
  rw [ht] at hP1
  obtain ⟨hP, hD⟩ := va_joinN (wr := (wd05_10 jju cyI jlb)) (w1 := (wd05_9 a0 jbU jgC jgh jho jju jkw x9 jjF ja4 ja0 jaG jaF jbU cyI f5 jgC cyI f6 jgh cyI f7 jho cyI f8)) (wn := (wd05_8 a0 jbU jgC jgh jho jju jkw x9 jjF ja4 ja0 jaG jaF jju cyI jlb jgh cyI f7 jbU cyI f5 jgC cyI f6 jho cyI f8)) hP hD [0, 3, 4, 2, 5] [1] [1, 0, 4, 2, 3, 5] hCc rfl (by decide +kernel) (by decide +kernel) (by decide +kernel) rfl hk1 hFc hP1 hD1
  generalize H1 = H at hP hS ⊢
  exact ((W.vret hx hb hr (fun t ht hW => ⟨⟨(jjF, f7, f5, f6, f8, x9), rfl, hw, by rw [ht]; exact hP, va_K.moved hW.alike hK, hD⟩, hS.F ht⟩) hS.2.2 (dt_of tkX9_closeLoop_k27 11 rfl)))
set_option maxHeartbeats 4000000 in
set_option maxRecDepth 100000 in
theorem ck_X9_closeLoop (l : Launch) (dC : Nat → ClassId) (dI : Nat → Nat → Nat) (cyB cyI cyJ cyP : ClassId) (a0 jju jgh jbU jgC jho sz : Nat) (jkw ja4 ja0 jaG jaF : Value) (jlb : Nat → Int32) (jjF : Int32) (jiF jdC jiX jjg : Nat → Int32) (jb7 : Int32)  {Q : Int32 → (Nat → Int32) → (Nat → Int32) → (Nat → Int32) → (Nat → Int32) → Int32 → Prop} (hw : wq_X9_closeLoop jlb jjF jiF jdC jiX jjg jb7  Q) : Met l yX9_closeLoop wsX9_closeLoop ({ frames := 1, cells := 0, slots := 0, locals := 24 }) (va_Pc [.ref a0] (cPc (dC, dI) (kT cyB cyI cyJ cyP) (wd05_8 a0 jbU jgC jgh jho jju jkw jb7 jjF ja4 ja0 jaG jaF jju cyI jlb jgh cyI jiF jbU cyI jdC jgC cyI jiX jho cyI jjg) sz)) (va_Qv (fun (u : Int32 × (Nat → Int32) × (Nat → Int32) × (Nat → Int32) × (Nat → Int32) × Int32) => Q u.1 u.2.1 u.2.2.1 u.2.2.2.1 u.2.2.2.2.1 u.2.2.2.2.2) (cB (dC, dI) (kT cyB cyI cyJ cyP) (va_A (wd05_8 a0 jbU jgC jgh jho jju jkw jb7 jjF ja4 ja0 jaG jaF jju cyI jlb jgh cyI jiF jbU cyI jdC jgC cyI jiX jho cyI jjg) sz) (fun u : Int32 × (Nat → Int32) × (Nat → Int32) × (Nat → Int32) × (Nat → Int32) × Int32 => ((wd05_8 a0 jbU jgC jgh jho jju jkw u.2.2.2.2.2 u.1 ja4 ja0 jaG jaF jju cyI jlb jgh cyI u.2.1 jbU cyI u.2.2.1 jgC cyI u.2.2.2.1 jho cyI u.2.2.2.2.1) : va_W))) (va_A (wd05_8 a0 jbU jgC jgh jho jju jkw jb7 jjF ja4 ja0 jaG jaF jju cyI jlb jgh cyI jiF jbU cyI jdC jgC cyI jiX jho cyI jjg) sz)) 0 0 (va_A (wd05_8 a0 jbU jgC jgh jho jju jkw jb7 jjF ja4 ja0 jaG jaF jju cyI jlb jgh cyI jiF jbU cyI jdC jgC cyI jiX jho cyI jjg) sz) := by
  refine Met.ofW (cc := cX9_closeLoop) (maxL := 2) (ret := none) (by decide) rfl ?_
  intro p e s m args below meth c s₁ B hml hv
  obtain ⟨rfl, hsz, hP, hK, hD0, hNw⟩ := hv
  have hx := B.exec
  have hb := B.bytes
  have hr := B.returns
  have hts := atoms_spec (ws := wsX9_closeLoop) B.pre
  have hown : s.vm.findClass RX9 = some m.cls := findClass_of_methodNamed B.named
  have hlocks := B.notSynchronized
  subst hsz
  have hD := hD0.self (sz := s.heap.size)
  generalize hAe : va_A (wd05_8 a0 jbU jgC jgh jho jju jkw jb7 jjF ja4 ja0 jaG jaF jju cyI jlb jgh cyI jiF jbU cyI jdC jgC cyI jiX jho cyI jjg) s.heap.size = A at hD ⊢
  have hA : ∀ q : Nat, s.heap.size ≤ q → A q := fun q h => by rw [← hAe]; exact Or.inr h
  have hS : va_S A s.heap s.heap [] := va_S.rf
  have hP : va_P (dC, dI) vwCl (wd05_8 a0 jbU jgC jgh jho jju jkw jb7 jjF ja4 ja0 jaG jaF jju cyI jlb jgh cyI jiF jbU cyI jdC jgC cyI jiX jho cyI jjg) s.heap := hP
  have hl := lv_entry ([.ref a0]) (n := 2) (Nat.le_of_ble_eq_true rfl)
  rw [lg_entry_eq]
  generalize (lg_sl ([.ref a0]) ++ List.replicate (2 - (lg_sl ([.ref a0])).length) Slot.unset).toArray = ls at hl ⊢
  have hl : lv_has ls 2 [(0, .ref a0)] := hl
  have C0 : cfx p s m _ meth c cX9_closeLoop none wsX9_closeLoop RX9 2 A (dC, dI) (kT cyB cyI cyJ cyP) := ⟨hx, hb, hr, hts, hown, hlocks, hml, hA, hK, hNw⟩
  clear hAe
  obtain ⟨H, hH⟩ : ∃ H, H = s.heap := ⟨_, rfl⟩
  rw [← hH] at hP ⊢
  have hS : va_S A s.heap H [] := by rw [hH]; exact va_S.rf
  have hS := hS
  refine lv_aload_n hx hb (dt_of tkX9_closeLoop_k0 0 rfl) rfl (lv_at hl 0 rfl) ?_
  refine lv_dup hx hb (dt_of tkX9_closeLoop_k0 1 rfl) rfl ?_
  refine va_get (D := (dC, dI)) (ci := 9) (v := .int jjF) (C := RX9) (T := TX9) (N := 12) hx hb hts ui_X9_closeLoop_X9 hown hK hP 0 rfl rfl 7 (by decide) (hts _ uw_X9_closeLoop_f40) (fun _ h9 => h9) rfl (dt_of tkX9_closeLoop_k0 2 rfl) ?_
  refine lv_iconst (v := 1) hx hb (dt_of tkX9_closeLoop_k0 3 rfl) (by decide) ?_
  refine lv_isub hx hb (dt_of tkX9_closeLoop_k0 4 rfl) ?_
  refine lv_topi (fun x1 ex1 => ?_)
  have hw := hw x1 ex1
  refine va_put (D := (dC, dI)) (ci := 9) (v := .int x1) (ty := .int) (C := RX9) (T := TX9) (N := 12) hx hb hts ui_X9_closeLoop_X9 tyX9 tyX9_ok nmX9 hown hK hP hD hS 0 rfl rfl 7 (by decide) (hts _ uw_X9_closeLoop_f40) (fun _ h9 => h9) rfl (by decide +kernel) rfl rfl (Nat.le_of_ble_eq_true rfl) (dt_of tkX9_closeLoop_k0 5 rfl) (fun H locs hP hD hS => ?_)
  have hP : va_P (dC, dI) vwCl (wd05_8 a0 jbU jgC jgh jho jju jkw jb7 x1 ja4 ja0 jaG jaF jju cyI jlb jgh cyI jiF jbU cyI jdC jgC cyI jiX jho cyI jjg) H := hP
  have hD : va_D A (wd05_8 a0 jbU jgC jgh jho jju jkw jb7 x1 ja4 ja0 jaG jaF jju cyI jlb jgh cyI jiF jbU cyI jdC jgC cyI jiX jho cyI jjg) := hD
  refine lv_aload_n hx hb (dt_of tkX9_closeLoop_k0 6 rfl) rfl (lv_at hl 0 rfl) ?_
  refine va_get (D := (dC, dI)) (ci := 9) (v := .ref jju) (C := RX9) (T := TX9) (N := 12) hx hb hts ui_X9_closeLoop_X9 hown hK hP 0 rfl rfl 4 (by decide) (hts _ uw_X9_closeLoop_f24) (fun _ h9 => h9) rfl (dt_of tkX9_closeLoop_k0 7 rfl) ?_
  refine lv_aload_n hx hb (dt_of tkX9_closeLoop_k0 8 rfl) rfl (lv_at hl 0 rfl) ?_
  refine va_get (D := (dC, dI)) (ci := 9) (v := .int x1) (C := RX9) (T := TX9) (N := 12) hx hb hts ui_X9_closeLoop_X9 hown hK hP 0 rfl rfl 7 (by decide) (hts _ uw_X9_closeLoop_f40) (fun _ h9 => h9) rfl (dt_of tkX9_closeLoop_k0 9 rfl) ?_
  obtain ⟨hi9, hw⟩ := hw
  refine va_iald hx hb hK hP 1 1 rfl rfl hi9 (dt_of tkX9_closeLoop_k0 10 rfl) ?_
  refine lv_topi (fun x2 ex2 => ?_)
  have hw := hw x2 ex2
  refine lv_istore_n (lv' := [(1, .int x2), (0, .ref a0)]) hx hb (dt_of tkX9_closeLoop_k0 11 rfl) rfl hl (by decide) rfl (fun ls hl => ?_)
  refine lv_iload_n hx hb (dt_of tkX9_closeLoop_k0 12 rfl) rfl (lv_at hl 0 rfl) ?_
  refine lv_bipush (v := 50) hx hb (dt_of tkX9_closeLoop_k0 13 rfl) (by decide) ?_
  refine lv_icmp_ge (tgt := 36) hx hb (dt_of tkX9_closeLoop_k0 14 rfl) (by decide) (fun c3 => ?_) (fun c3 => ?_)
  · have hw := hw.1 c3
    exact kb_X9_closeLoop_36 dC dI cyB cyI cyJ cyP a0 jju jgh jbU jgC jho jkw ja4 ja0 jaG jaF jlb Q  C0 _ _ _ x1 jiF jdC jiX jjg jb7 x2 hP hD hS (lv_sub hl [1, 0] rfl) hw
  · have hw := hw.2 c3
    refine lv_aload_n hx hb (dt_of tkX9_closeLoop_k0 15 rfl) rfl (lv_at hl 1 rfl) ?_
    refine va_get (D := (dC, dI)) (ci := 9) (v := .ref jgh) (C := RX9) (T := TX9) (N := 12) hx hb hts ui_X9_closeLoop_X9 hown hK hP 0 rfl rfl 2 (by decide) (hts _ uw_X9_closeLoop_f18) (fun _ h9 => h9) rfl (dt_of tkX9_closeLoop_k27 0 rfl) ?_
    refine lv_iload_n hx hb (dt_of tkX9_closeLoop_k27 1 rfl) rfl (lv_at hl 0 rfl) ?_
    refine lv_aload_n hx hb (dt_of tkX9_closeLoop_k27 2 rfl) rfl (lv_at hl 1 rfl) ?_
    refine va_get (D := (dC, dI)) (ci := 9) (v := .int jb7) (C := RX9) (T := TX9) (N := 12) hx hb hts ui_X9_closeLoop_X9 hown hK hP 0 rfl rfl 6 (by decide) (hts _ uw_X9_closeLoop_f37) (fun _ h9 => h9) rfl (dt_of tkX9_closeLoop_k27 3 rfl) ?_
    obtain ⟨hi9, hw⟩ := hw
    refine va_iast hx hb hK hP hD hS 2 1 rfl rfl hi9 (dt_of tkX9_closeLoop_k27 4 rfl) (fun H locs hP hD hS => ?_)
    obtain ⟨f4, ef4⟩ : ∃ y : Nat → Int32, y = upd jiF x2.toNatClampNeg jb7 := ⟨_, rfl⟩
    have hw := hw f4 ef4
    have hP : va_P (dC, dI) vwCl (wd05_8 a0 jbU jgC jgh jho jju jkw jb7 x1 ja4 ja0 jaG jaF jju cyI jlb jgh cyI f4 jbU cyI jdC jgC cyI jiX jho cyI jjg) H := by rw [ef4]; exact hP
    have hD : va_D A (wd05_8 a0 jbU jgC jgh jho jju jkw jb7 x1 ja4 ja0 jaG jaF jju cyI jlb jgh cyI f4 jbU cyI jdC jgC cyI jiX jho cyI jjg) := by rw [ef4]; exact hD
    exact kb_X9_closeLoop_36 dC dI cyB cyI cyJ cyP a0 jju jgh jbU jgC jho jkw ja4 ja0 jaG jaF jlb Q  C0 _ _ _ x1 f4 jdC jiX jjg jb7 x2 hP hD hS (lv_sub hl [1, 0] rfl) hw
theorem ui_X9_openLoop_X9 : ∀ w ∈ u_ws RX9 TX9 12, w ∈ wsX9_openLoop := uiM mbX9_openLoop euX9 (by decide +kernel)
theorem uw_X9_openLoop_f24 : (.fieldLink RX9 24 "MarchHares$Work" "heads" "[I" : Cond) ∈ wsX9_openLoop := mbX9_openLoop 270 (by decide +kernel)
theorem uw_X9_openLoop_f37 : (.fieldLink RX9 37 "MarchHares$Work" "length" "I" : Cond) ∈ wsX9_openLoop := mbX9_openLoop 1606 (by decide +kernel)
theorem uw_X9_openLoop_f40 : (.fieldLink RX9 40 "MarchHares$Work" "open" "I" : Cond) ∈ wsX9_openLoop := mbX9_openLoop 1607 (by decide +kernel)
set_option maxHeartbeats 4000000 in
set_option maxRecDepth 100000 in
theorem ck_X9_openLoop (l : Launch) (dC : Nat → ClassId) (dI : Nat → Nat → Nat) (cyB cyI cyJ cyP : ClassId) (a0 a1 jbF jju jbU jgC jgh jho sz : Nat) (jkw ja4 ja0 jaG jaF jcI : Value) (jb3 : Int32) (jcq : Nat → Int32) (jhS jcU jbM jeF : Int32) (jlb : Nat → Int32) (jjF : Int32) (jdC jiX jiF jjg : Nat → Int32) (jb7 : Int32)  {Q : Int32 → Int32 → Int32 → Int32 → (Nat → Int32) → Int32 → (Nat → Int32) → (Nat → Int32) → (Nat → Int32) → (Nat → Int32) → Int32 → Prop} (hw : wq_X9_openLoop jb3 jcq jhS jcU jbM jeF jlb jjF jdC jiX jiF jjg jb7  Q) : Met l yX9_openLoop wsX9_openLoop ({ frames := 3, cells := 0, slots := 0, locals := 63 }) (va_Pc [.ref a0, .ref a1] (cPc (dC, dI) (kT cyB cyI cyJ cyP) (wd05_11 a0 jbU jgC jgh jho jju jkw jb7 jjF ja4 ja0 jaG jaF a1 jbF jb3 jhS jeF jcI jcU jbM jbF cyB jcq jju cyI jlb jbU cyI jdC jgC cyI jiX jgh cyI jiF jho cyI jjg) sz)) (va_Qv (fun (u : Int32 × Int32 × Int32 × Int32 × (Nat → Int32) × Int32 × (Nat → Int32) × (Nat → Int32) × (Nat → Int32) × (Nat → Int32) × Int32) => Q u.1 u.2.1 u.2.2.1 u.2.2.2.1 u.2.2.2.2.1 u.2.2.2.2.2.1 u.2.2.2.2.2.2.1 u.2.2.2.2.2.2.2.1 u.2.2.2.2.2.2.2.2.1 u.2.2.2.2.2.2.2.2.2.1 u.2.2.2.2.2.2.2.2.2.2) (cB (dC, dI) (kT cyB cyI cyJ cyP) (va_A (wd05_11 a0 jbU jgC jgh jho jju jkw jb7 jjF ja4 ja0 jaG jaF a1 jbF jb3 jhS jeF jcI jcU jbM jbF cyB jcq jju cyI jlb jbU cyI jdC jgC cyI jiX jgh cyI jiF jho cyI jjg) sz) (fun u : Int32 × Int32 × Int32 × Int32 × (Nat → Int32) × Int32 × (Nat → Int32) × (Nat → Int32) × (Nat → Int32) × (Nat → Int32) × Int32 => ((wd05_11 a0 jbU jgC jgh jho jju jkw u.2.2.2.2.2.2.2.2.2.2 u.2.2.2.2.2.1 ja4 ja0 jaG jaF a1 jbF jb3 u.1 u.2.2.2.1 jcI u.2.1 u.2.2.1 jbF cyB jcq jju cyI u.2.2.2.2.1 jbU cyI u.2.2.2.2.2.2.1 jgC cyI u.2.2.2.2.2.2.2.1 jgh cyI u.2.2.2.2.2.2.2.2.1 jho cyI u.2.2.2.2.2.2.2.2.2.1) : va_W))) (va_A (wd05_11 a0 jbU jgC jgh jho jju jkw jb7 jjF ja4 ja0 jaG jaF a1 jbF jb3 jhS jeF jcI jcU jbM jbF cyB jcq jju cyI jlb jbU cyI jdC jgC cyI jiX jgh cyI jiF jho cyI jjg) sz)) 0 0 (va_A (wd05_11 a0 jbU jgC jgh jho jju jkw jb7 jjF ja4 ja0 jaG jaF a1 jbF jb3 jhS jeF jcI jcU jbM jbF cyB jcq jju cyI jlb jbU cyI jdC jgC cyI jiX jgh cyI jiF jho cyI jjg) sz) := by
  refine Met.ofW (cc := cX9_openLoop) (maxL := 3) (ret := none) (by decide) rfl ?_
  intro p e s m args below meth c s₁ B hml hv
  obtain ⟨rfl, hsz, hP, hK, hD0, hNw⟩ := hv
  have hx := B.exec
  have hb := B.bytes
  have hr := B.returns
  have hts := atoms_spec (ws := wsX9_openLoop) B.pre
  have hown : s.vm.findClass RX9 = some m.cls := findClass_of_methodNamed B.named
  have hlocks := B.notSynchronized
  subst hsz
  have hD := hD0.self (sz := s.heap.size)
  generalize hAe : va_A (wd05_11 a0 jbU jgC jgh jho jju jkw jb7 jjF ja4 ja0 jaG jaF a1 jbF jb3 jhS jeF jcI jcU jbM jbF cyB jcq jju cyI jlb jbU cyI jdC jgC cyI jiX jgh cyI jiF jho cyI jjg) s.heap.size = A at hD ⊢
  have hA : ∀ q : Nat, s.heap.size ≤ q → A q := fun q h => by rw [← hAe]; exact Or.inr h
  have hS : va_S A s.heap s.heap [] := va_S.rf
  have hP : va_P (dC, dI) vwCl (wd05_11 a0 jbU jgC jgh jho jju jkw jb7 jjF ja4 ja0 jaG jaF a1 jbF jb3 jhS jeF jcI jcU jbM jbF cyB jcq jju cyI jlb jbU cyI jdC jgC cyI jiX jgh cyI jiF jho cyI jjg) s.heap := hP
  have hl := lv_entry ([.ref a0, .ref a1]) (n := 3) (Nat.le_of_ble_eq_true rfl)
  rw [lg_entry_eq]
  generalize (lg_sl ([.ref a0, .ref a1]) ++ List.replicate (3 - (lg_sl ([.ref a0, .ref a1])).length) Slot.unset).toArray = ls at hl ⊢
  have hl : lv_has ls 3 [(0, .ref a0), (1, .ref a1)] := hl
  have C0 : cfx p s m _ meth c cX9_openLoop none wsX9_openLoop RX9 3 A (dC, dI) (kT cyB cyI cyJ cyP) := ⟨hx, hb, hr, hts, hown, hlocks, hml, hA, hK, hNw⟩
  clear hAe
  obtain ⟨H, hH⟩ : ∃ H, H = s.heap := ⟨_, rfl⟩
  rw [← hH] at hP ⊢
  have hS : va_S A s.heap H [] := by rw [hH]; exact va_S.rf
  have hS := hS
  refine lv_aload_n hx hb (dt_of tkX9_openLoop_k0 0 rfl) rfl (lv_at hl 0 rfl) ?_
  refine va_get (D := (dC, dI)) (ci := 9) (v := .int jjF) (C := RX9) (T := TX9) (N := 12) hx hb hts ui_X9_openLoop_X9 hown hK hP 0 rfl rfl 7 (by decide) (hts _ uw_X9_openLoop_f40) (fun _ h9 => h9) rfl (dt_of tkX9_openLoop_k0 1 rfl) ?_
  refine lv_bipush (v := 6) hx hb (dt_of tkX9_openLoop_k0 2 rfl) (by decide) ?_
  refine lv_icmp_lt (tgt := 15) hx hb (dt_of tkX9_openLoop_k0 3 rfl) (by decide) (fun c1 => ?_) (fun c1 => ?_)
  · have hw := hw.1 c1
    refine lv_aload_n hx hb (dt_of tkX9_openLoop_k0 8 rfl) rfl (lv_at hl 1 rfl) ?_
    refine lv_iconst (v := 0) hx hb (dt_of tkX9_openLoop_k0 9 rfl) (by decide) ?_
    refine lv_bipush (v := 40) hx hb (dt_of tkX9_openLoop_k0 10 rfl) (by decide) ?_
    obtain ⟨hCc, hPc, hDc, hFc⟩ := va_pick (ws' := (wd05_12 a1 jbF jb3 jhS jeF jcI jcU jbM jbF cyB jcq)) hP hD hS hA [1, 2] (by decide +kernel) rfl
    refine va_calli (va_runV (As := [.int 0, .int 40]) (rest := []) ⟨hx, hb, hml, hown, hts⟩ (ck_X8_number l dC dI cyB cyI cyJ cyP a1 jbF H.size (jcI) jb3 jcq jhS jcU jbM jeF 0 40 hw) (cwV 2 hts gX9_openLoop_X8_number rfl rfl rfl (by decide +kernel) ⟨Nat.le_of_ble_eq_true rfl, Nat.le_of_ble_eq_true rfl⟩) ⟨cPc_blind, va_recv (q := (RX8, TX8, 7)) hK hPc (ci := 8) (q0 := 0) rfl rfl, cPc_pre hPc hK hDc hNw⟩ rfl rfl hl.1 rfl (lv_room (Nat.le_of_ble_eq_true rfl)) (dt_of tkX9_openLoop_k0 11 rfl) ⟨Nat.le_of_ble_eq_true rfl, Nat.le_of_ble_eq_true rfl⟩) hS (fun q _ h => hFc q h) hFc (fun r6 u t H1 locs ht hvm hw hB hz1 hk1 hS => ?_)
    obtain ⟨x2, x3, x4, x5⟩ := u
    obtain ⟨hP1, hK1, hD1⟩ := hB
    rw [ht] at hP1
    obtain ⟨hP, hD⟩ := va_joinN (wr := (wd05_8 a0 jbU jgC jgh jho jju jkw jb7 jjF ja4 ja0 jaG jaF jju cyI jlb jbU cyI jdC jgC cyI jiX jgh cyI jiF jho cyI jjg)) (w1 := (wd05_12 a1 jbF jb3 x2 x5 jcI x3 x4 jbF cyB jcq)) (wn := (wd05_11 a0 jbU jgC jgh jho jju jkw jb7 jjF ja4 ja0 jaG jaF a1 jbF jb3 x2 x5 jcI x3 x4 jbF cyB jcq jju cyI jlb jbU cyI jdC jgC cyI jiX jgh cyI jiF jho cyI jjg)) hP hD [1, 2] [0, 3, 4, 5, 6, 7] [0, 6, 7, 1, 2, 3, 4, 5] hCc rfl (by decide +kernel) (by decide +kernel) (by decide +kernel) rfl hk1 hFc hP1 hD1
    generalize H1 = H at hP hS ⊢
    refine lv_istore_n (lv' := [(2, .int r6), (0, .ref a0), (1, .ref a1)]) hx hb (dt_of tkX9_openLoop_k0 12 rfl) rfl hl (by decide) rfl (fun ls hl => ?_)
    refine lv_aload_n hx hb (dt_of tkX9_openLoop_k0 13 rfl) rfl (lv_at hl 2 rfl) ?_
    refine lv_bipush (v := 91) hx hb (dt_of tkX9_openLoop_k0 14 rfl) (by decide) ?_
    obtain ⟨hCc, hPc, hDc, hFc⟩ := va_pick (ws' := (wd05_12 a1 jbF jb3 x2 x5 jcI x3 x4 jbF cyB jcq)) hP hD hS hA [1, 2] (by decide +kernel) rfl
    refine va_callv (va_runV (As := [.int 91]) (rest := []) ⟨hx, hb, hml, hown, hts⟩ (ck_X8_needs l dC dI cyB cyI cyJ cyP a1 jbF H.size (jcI) jb3 jcq x2 x5 x3 x4 91 hw) (cwV 1 hts gX9_openLoop_X8_needs rfl rfl rfl (by decide +kernel) ⟨Nat.le_of_ble_eq_true rfl, Nat.le_of_ble_eq_true rfl⟩) ⟨cPc_blind, va_recv (q := (RX8, TX8, 7)) hK hPc (ci := 8) (q0 := 0) rfl rfl, cPc_pre hPc hK hDc hNw⟩ rfl rfl hl.1 rfl (lv_room (Nat.le_of_ble_eq_true rfl)) (dt_of tkX9_openLoop_k0 15 rfl) ⟨Nat.le_of_ble_eq_true rfl, Nat.le_of_ble_eq_true rfl⟩) hS (fun q _ h => hFc q h) hFc (fun u t H1 locs ht hvm hw hB hz1 hk1 hS => ?_)
    obtain ⟨x7, x8, x9, x10⟩ := u
    obtain ⟨hP1, hK1, hD1⟩ := hB
    rw [ht] at hP1
    obtain ⟨hP, hD⟩ := va_joinN (wr := (wd05_8 a0 jbU jgC jgh jho jju jkw jb7 jjF ja4 ja0 jaG jaF jju cyI jlb jbU cyI jdC jgC cyI jiX jgh cyI jiF jho cyI jjg)) (w1 := (wd05_12 a1 jbF jb3 x7 x8 jcI x9 x10 jbF cyB jcq)) (wn := (wd05_11 a0 jbU jgC jgh jho jju jkw jb7 jjF ja4 ja0 jaG jaF a1 jbF jb3 x7 x8 jcI x9 x10 jbF cyB jcq jju cyI jlb jbU cyI jdC jgC cyI jiX jgh cyI jiF jho cyI jjg)) hP hD [1, 2] [0, 3, 4, 5, 6, 7] [0, 6, 7, 1, 2, 3, 4, 5] hCc rfl (by decide +kernel) (by decide +kernel) (by decide +kernel) rfl hk1 hFc hP1 hD1
    generalize H1 = H at hP hS ⊢
    refine lv_aload_n hx hb (dt_of tkX9_openLoop_k29 0 rfl) rfl (lv_at hl 1 rfl) ?_
    refine va_get (D := (dC, dI)) (ci := 9) (v := .ref jju) (C := RX9) (T := TX9) (N := 12) hx hb hts ui_X9_openLoop_X9 hown hK hP 0 rfl rfl 4 (by decide) (hts _ uw_X9_openLoop_f24) (fun _ h9 => h9) rfl (dt_of tkX9_openLoop_k29 1 rfl) ?_
    refine lv_aload_n hx hb (dt_of tkX9_openLoop_k29 2 rfl) rfl (lv_at hl 1 rfl) ?_
    refine va_get (D := (dC, dI)) (ci := 9) (v := .int jjF) (C := RX9) (T := TX9) (N := 12) hx hb hts ui_X9_openLoop_X9 hown hK hP 0 rfl rfl 7 (by decide) (hts _ uw_X9_openLoop_f40) (fun _ h9 => h9) rfl (dt_of tkX9_openLoop_k29 3 rfl) ?_
    refine lv_aload_n hx hb (dt_of tkX9_openLoop_k29 4 rfl) rfl (lv_at hl 1 rfl) ?_
    refine va_get (D := (dC, dI)) (ci := 9) (v := .int jb7) (C := RX9) (T := TX9) (N := 12) hx hb hts ui_X9_openLoop_X9 hown hK hP 0 rfl rfl 6 (by decide) (hts _ uw_X9_openLoop_f37) (fun _ h9 => h9) rfl (dt_of tkX9_openLoop_k29 5 rfl) ?_
    obtain ⟨hi9, hw⟩ := hw
    refine va_iast hx hb hK hP hD hS 3 1 rfl rfl hi9 (dt_of tkX9_openLoop_k29 6 rfl) (fun H locs hP hD hS => ?_)
    obtain ⟨f11, ef11⟩ : ∃ y : Nat → Int32, y = upd jlb jjF.toNatClampNeg jb7 := ⟨_, rfl⟩
    have hw := hw f11 ef11
    have hP : va_P (dC, dI) vwCl (wd05_11 a0 jbU jgC jgh jho jju jkw jb7 jjF ja4 ja0 jaG jaF a1 jbF jb3 x7 x8 jcI x9 x10 jbF cyB jcq jju cyI f11 jbU cyI jdC jgC cyI jiX jgh cyI jiF jho cyI jjg) H := by rw [ef11]; exact hP
    have hD : va_D A (wd05_11 a0 jbU jgC jgh jho jju jkw jb7 jjF ja4 ja0 jaG jaF a1 jbF jb3 x7 x8 jcI x9 x10 jbF cyB jcq jju cyI f11 jbU cyI jdC jgC cyI jiX jgh cyI jiF jho cyI jjg) := by rw [ef11]; exact hD
    refine lv_aload_n hx hb (dt_of tkX9_openLoop_k29 7 rfl) rfl (lv_at hl 1 rfl) ?_
    refine lv_dup hx hb (dt_of tkX9_openLoop_k29 8 rfl) rfl ?_
    refine va_get (D := (dC, dI)) (ci := 9) (v := .int jjF) (C := RX9) (T := TX9) (N := 12) hx hb hts ui_X9_openLoop_X9 hown hK hP 0 rfl rfl 7 (by decide) (hts _ uw_X9_openLoop_f40) (fun _ h9 => h9) rfl (dt_of tkX9_openLoop_k29 9 rfl) ?_
    refine lv_iconst (v := 1) hx hb (dt_of tkX9_openLoop_k29 10 rfl) (by decide) ?_
    refine lv_iadd hx hb (dt_of tkX9_openLoop_k29 11 rfl) ?_
    refine lv_topi (fun x12 ex12 => ?_)
    have hw := hw x12 ex12
    refine va_put (D := (dC, dI)) (ci := 9) (v := .int x12) (ty := .int) (C := RX9) (T := TX9) (N := 12) hx hb hts ui_X9_openLoop_X9 tyX9 tyX9_ok nmX9 hown hK hP hD hS 0 rfl rfl 7 (by decide) (hts _ uw_X9_openLoop_f40) (fun _ h9 => h9) rfl (by decide +kernel) rfl rfl (Nat.le_of_ble_eq_true rfl) (dt_of tkX9_openLoop_k29 12 rfl) (fun H locs hP hD hS => ?_)
    have hP : va_P (dC, dI) vwCl (wd05_11 a0 jbU jgC jgh jho jju jkw jb7 x12 ja4 ja0 jaG jaF a1 jbF jb3 x7 x8 jcI x9 x10 jbF cyB jcq jju cyI f11 jbU cyI jdC jgC cyI jiX jgh cyI jiF jho cyI jjg) H := hP
    have hD : va_D A (wd05_11 a0 jbU jgC jgh jho jju jkw jb7 x12 ja4 ja0 jaG jaF a1 jbF jb3 x7 x8 jcI x9 x10 jbF cyB jcq jju cyI f11 jbU cyI jdC jgC cyI jiX jgh cyI jiF jho cyI jjg) := hD
    refine lv_aload_n hx hb (dt_of tkX9_openLoop_k29 13 rfl) rfl (lv_at hl 1 rfl) ?_
    refine lv_iconst (v := 4) hx hb (dt_of tkX9_openLoop_k29 14 rfl) (by decide) ?_
    refine lv_iload_n hx hb (dt_of tkX9_openLoop_k29 15 rfl) rfl (lv_at hl 0 rfl) ?_
    refine lv_iconst (v := 0) hx hb (dt_of tkX9_openLoop_k55 0 rfl) (by decide) ?_
    refine lv_iconst (v := 0) hx hb (dt_of tkX9_openLoop_k55 1 rfl) (by decide) ?_
    obtain ⟨hCc, hPc, hDc, hFc⟩ := va_pick (ws' := (wd05_9 a0 jbU jgC jgh jho jju jkw jb7 x12 ja4 ja0 jaG jaF jbU cyI jdC jgC cyI jiX jgh cyI jiF jho cyI jjg)) hP hD hS hA [0, 4, 5, 6, 7] (by decide +kernel) rfl
    refine va_callv (va_runV (As := [.int 4, .int r6, .int 0, .int 0]) (rest := []) ⟨hx, hb, hml, hown, hts⟩ (ck_X9_add l dC dI cyB cyI cyJ cyP a0 jbU jgC jgh jho H.size (.ref jju) (jkw) (.int x12) (ja4) (ja0) (jaG) (jaF)  jdC jiX jiF jjg jb7 4 r6 0 0 hw) (cwV 4 hts gX9_openLoop_X9_add rfl rfl rfl (by decide +kernel) ⟨Nat.le_of_ble_eq_true rfl, Nat.le_of_ble_eq_true rfl⟩) ⟨cPc_blind, va_recv (q := (RX9, TX9, 12)) hK hPc (ci := 9) (q0 := 0) rfl rfl, cPc_pre hPc hK hDc hNw⟩ rfl rfl hl.1 rfl (lv_room (Nat.le_of_ble_eq_true rfl)) (dt_of tkX9_openLoop_k55 2 rfl) ⟨Nat.le_of_ble_eq_true rfl, Nat.le_of_ble_eq_true rfl⟩) hS (fun q _ h => hFc q h) hFc (fun u t H1 locs ht hvm hw hB hz1 hk1 hS => ?_)
    obtain ⟨f13, f14, f15, f16, x17⟩ := u
    obtain ⟨hP1, hK1, hD1⟩ := hB
    rw [ht] at hP1
    obtain ⟨hP, hD⟩ := va_joinN (wr := [(a1, .inr (8, [.ref jbF, .int jb3, .int x7, .int x8, jcI, .int x9, .int x10])), (jbF, .inl (cyB, 600, .inl jcq)), (jju, .inl (cyI, 6, .inl f11))]) (w1 := (wd05_9 a0 jbU jgC jgh jho jju jkw x17 x12 ja4 ja0 jaG jaF jbU cyI f13 jgC cyI f14 jgh cyI f15 jho cyI f16)) (wn := (wd05_11 a0 jbU jgC jgh jho jju jkw x17 x12 ja4 ja0 jaG jaF a1 jbF jb3 x7 x8 jcI x9 x10 jbF cyB jcq jju cyI f11 jbU cyI f13 jgC cyI f14 jgh cyI f15 jho cyI f16)) hP hD [0, 4, 5, 6, 7] [1, 2, 3] [3, 0, 1, 2, 4, 5, 6, 7] hCc rfl (by decide +kernel) (by decide +kernel) (by decide +kernel) rfl hk1 hFc hP1 hD1
    generalize H1 = H at hP hS ⊢
    exact ((W.vret hx hb hr (fun t ht hW => ⟨⟨(x7, x9, x10, x8, f11, x12, f13, f14, f15, f16, x17), rfl, hw, by rw [ht]; exact hP, va_K.moved hW.alike hK, hD⟩, hS.F ht⟩) hS.2.2 (dt_of tkX9_openLoop_k55 3 rfl)))
  · have hw := hw.2 c1
    refine lv_aload_n hx hb (dt_of tkX9_openLoop_k0 4 rfl) rfl (lv_at hl 1 rfl) ?_
    refine lv_iconst (v := 3) hx hb (dt_of tkX9_openLoop_k0 5 rfl) (by decide) ?_
    obtain ⟨hCc, hPc, hDc, hFc⟩ := va_pick (ws' := (wd05_13 a1 jbF jb3 jhS jeF jcI jcU jbM)) hP hD hS hA [1] (by decide +kernel) rfl
    refine va_callv (va_runV (As := [.int 3]) (rest := []) ⟨hx, hb, hml, hown, hts⟩ (ck_X8_blameToken l dC dI cyB cyI cyJ cyP a1 H.size (.ref jbF) (.int jb3) (.int jhS) (jcI) jeF jcU jbM 3 hw) (cwV 1 hts gX9_openLoop_X8_blameToken rfl rfl rfl (by decide +kernel) ⟨Nat.le_of_ble_eq_true rfl, Nat.le_of_ble_eq_true rfl⟩) ⟨cPc_blind, va_recv (q := (RX8, TX8, 7)) hK hPc (ci := 8) (q0 := 0) rfl rfl, cPc_pre hPc hK hDc hNw⟩ rfl rfl hl.1 rfl (lv_room (Nat.le_of_ble_eq_true rfl)) (dt_of tkX9_openLoop_k0 6 rfl) ⟨Nat.le_of_ble_eq_true rfl, Nat.le_of_ble_eq_true rfl⟩) hS (fun q _ h => hFc q h) hFc (fun u t H1 locs ht hvm hw hB hz1 hk1 hS => ?_)
    obtain ⟨x18, x19⟩ := u
    obtain ⟨hP1, hK1, hD1⟩ := hB
    rw [ht] at hP1
    obtain ⟨hP, hD⟩ := va_joinN (wr := [(a0, .inr (9, [.ref jbU, .ref jgC, .ref jgh, .ref jho, .ref jju, jkw, .int jb7, .int jjF, ja4, ja0, jaG, jaF])), (jbF, .inl (cyB, 600, .inl jcq)), (jju, .inl (cyI, 6, .inl jlb)), (jbU, .inl (cyI, 50, .inl jdC)), (jgC, .inl (cyI, 50, .inl jiX)), (jgh, .inl (cyI, 50, .inl jiF)), (jho, .inl (cyI, 50, .inl jjg))]) (w1 := (wd05_13 a1 jbF jb3 jhS jeF jcI x18 x19)) (wn := (wd05_11 a0 jbU jgC jgh jho jju jkw jb7 jjF ja4 ja0 jaG jaF a1 jbF jb3 jhS jeF jcI x18 x19 jbF cyB jcq jju cyI jlb jbU cyI jdC jgC cyI jiX jgh cyI jiF jho cyI jjg)) hP hD [1] [0, 2, 3, 4, 5, 6, 7] [0, 7, 1, 2, 3, 4, 5, 6] hCc rfl (by decide +kernel) (by decide +kernel) (by decide +kernel) rfl hk1 hFc hP1 hD1
    generalize H1 = H at hP hS ⊢
    exact ((W.vret hx hb hr (fun t ht hW => ⟨⟨(jhS, x18, x19, jeF, jlb, jjF, jdC, jiX, jiF, jjg, jb7), rfl, hw, by rw [ht]; exact hP, va_K.moved hW.alike hK, hD⟩, hS.F ht⟩) hS.2.2 (dt_of tkX9_openLoop_k0 7 rfl)))
theorem ui_X5_push_X1 : ∀ w ∈ u_ws RX1 TX1 4, w ∈ wsX5_push := uiM mbX5_push euX1 (by decide +kernel)
theorem ui_X5_push_X5 : ∀ w ∈ u_ws RX5 TX5 2, w ∈ wsX5_push := uiM mbX5_push euX5 (by decide +kernel)
theorem uw_X5_push_aci : (.initialized "java/lang/System" : Cond) ∈ wsX5_push := mbX5_push 331 (by decide +kernel)
theorem uw_X5_push_acn : (.native arraycopyName : Cond) ∈ wsX5_push := mbX5_push 329 (by decide +kernel)
theorem uw_X5_push_acs : (.static arraycopyName : Cond) ∈ wsX5_push := mbX5_push 330 (by decide +kernel)
theorem uw_X5_push_f11 : (.fieldLink RX5 11 "MarchHares$Past" "rows" "[I" : Cond) ∈ wsX5_push := mbX5_push 335 (by decide +kernel)
theorem uw_X5_push_f17 : (.fieldLink RX5 17 "MarchHares$Past" "kept" "I" : Cond) ∈ wsX5_push := mbX5_push 1676 (by decide +kernel)
theorem uw_X5_push_f21 : (.fieldLink RX5 21 "MarchHares$Days" "row" "[I" : Cond) ∈ wsX5_push := mbX5_push 1677 (by decide +kernel)
theorem uw_X5_push_m24 : (.methodLink RX5 24 arraycopyName : Cond) ∈ wsX5_push := mbX5_push 1678 (by decide +kernel)
set_option maxHeartbeats 4000000 in
set_option maxRecDepth 100000 in
theorem ck_X5_push (l : Launch) (dC : Nat → ClassId) (dI : Nat → Nat → Nat) (cyB cyI cyJ cyP : ClassId) (a0 a1 jjO jnO sz : Nat) (jjP jpb jn2 : Value) (jkO joO : Nat → Int32) (joH : Int32)  {Q : (Nat → Int32) → Int32 → Prop} (hw : wq_X5_push jkO joO joH  Q) : Met l yX5_push wsX5_push ({ frames := 1, cells := 0, slots := 0, locals := 40 }) (va_Pc [.ref a0, .ref a1] (cPc (dC, dI) (kT cyB cyI cyJ cyP) (wd05_14 a0 jnO joH a1 jjO jjP jpb jn2 jjO cyI jkO jnO cyI joO) sz)) (va_Qv (fun (u : (Nat → Int32) × Int32) => Q u.1 u.2) (cB (dC, dI) (kT cyB cyI cyJ cyP) (va_A (wd05_14 a0 jnO joH a1 jjO jjP jpb jn2 jjO cyI jkO jnO cyI joO) sz) (fun u : (Nat → Int32) × Int32 => ((wd05_14 a0 jnO u.2 a1 jjO jjP jpb jn2 jjO cyI jkO jnO cyI u.1) : va_W))) (va_A (wd05_14 a0 jnO joH a1 jjO jjP jpb jn2 jjO cyI jkO jnO cyI joO) sz)) 0 0 (va_A (wd05_14 a0 jnO joH a1 jjO jjP jpb jn2 jjO cyI jkO jnO cyI joO) sz) := by
  refine Met.ofW (cc := cX5_push) (maxL := 2) (ret := none) (by decide) rfl ?_
  intro p e s m args below meth c s₁ B hml hv
  obtain ⟨rfl, hsz, hP, hK, hD0, hNw⟩ := hv
  have hx := B.exec
  have hb := B.bytes
  have hr := B.returns
  have hts := atoms_spec (ws := wsX5_push) B.pre
  have hown : s.vm.findClass RX5 = some m.cls := findClass_of_methodNamed B.named
  have hlocks := B.notSynchronized
  subst hsz
  have hD := hD0.self (sz := s.heap.size)
  generalize hAe : va_A (wd05_14 a0 jnO joH a1 jjO jjP jpb jn2 jjO cyI jkO jnO cyI joO) s.heap.size = A at hD ⊢
  have hA : ∀ q : Nat, s.heap.size ≤ q → A q := fun q h => by rw [← hAe]; exact Or.inr h
  have hS : va_S A s.heap s.heap [] := va_S.rf
  have hP : va_P (dC, dI) vwCl (wd05_14 a0 jnO joH a1 jjO jjP jpb jn2 jjO cyI jkO jnO cyI joO) s.heap := hP
  have hl := lv_entry ([.ref a0, .ref a1]) (n := 2) (Nat.le_of_ble_eq_true rfl)
  rw [lg_entry_eq]
  generalize (lg_sl ([.ref a0, .ref a1]) ++ List.replicate (2 - (lg_sl ([.ref a0, .ref a1])).length) Slot.unset).toArray = ls at hl ⊢
  have hl : lv_has ls 2 [(0, .ref a0), (1, .ref a1)] := hl
  have C0 : cfx p s m _ meth c cX5_push none wsX5_push RX5 2 A (dC, dI) (kT cyB cyI cyJ cyP) := ⟨hx, hb, hr, hts, hown, hlocks, hml, hA, hK, hNw⟩
  clear hAe
  obtain ⟨H, hH⟩ : ∃ H, H = s.heap := ⟨_, rfl⟩
  rw [← hH] at hP ⊢
  have hS : va_S A s.heap H [] := by rw [hH]; exact va_S.rf
  have hS := hS
  refine lv_aload_n hx hb (dt_of tkX5_push_k0 0 rfl) rfl (lv_at hl 0 rfl) ?_
  refine va_get (D := (dC, dI)) (ci := 5) (v := .int joH) (C := RX5) (T := TX5) (N := 2) hx hb hts ui_X5_push_X5 hown hK hP 0 rfl rfl 1 (by decide) (hts _ uw_X5_push_f17) (fun _ h9 => h9) rfl (dt_of tkX5_push_k0 1 rfl) ?_
  refine lv_bipush (v := 16) hx hb (dt_of tkX5_push_k0 2 rfl) (by decide) ?_
  refine lv_icmp_gt (tgt := 40) hx hb (dt_of tkX5_push_k0 3 rfl) (by decide) (fun c1 => ?_) (fun c1 => ?_)
  · have hw := hw.1 c1
    exact ((W.vret hx hb hr (fun t ht hW => ⟨⟨(joO, joH), rfl, hw, by rw [ht]; exact hP, va_K.moved hW.alike hK, hD⟩, hS.F ht⟩) hS.2.2 (dt_of tkX5_push_k31 5 rfl)))
  · have hw := hw.2 c1
    refine lv_aload_n hx hb (dt_of tkX5_push_k0 4 rfl) rfl (lv_at hl 1 rfl) ?_
    refine va_get (D := (dC, dI)) (ci := 1) (v := .ref jjO) (C := RX1) (T := TX1) (N := 4) hx hb hts ui_X5_push_X1 hown hK hP 1 rfl rfl 0 (by decide) (hts _ uw_X5_push_f21) (fun _ h9 => h9) rfl (dt_of tkX5_push_k0 5 rfl) ?_
    refine lv_iconst (v := 0) hx hb (dt_of tkX5_push_k0 6 rfl) (by decide) ?_
    refine lv_aload_n hx hb (dt_of tkX5_push_k0 7 rfl) rfl (lv_at hl 0 rfl) ?_
    refine va_get (D := (dC, dI)) (ci := 5) (v := .ref jnO) (C := RX5) (T := TX5) (N := 2) hx hb hts ui_X5_push_X5 hown hK hP 0 rfl rfl 0 (by decide) (hts _ uw_X5_push_f11) (fun _ h9 => h9) rfl (dt_of tkX5_push_k0 8 rfl) ?_
    refine lv_aload_n hx hb (dt_of tkX5_push_k0 9 rfl) rfl (lv_at hl 0 rfl) ?_
    refine va_get (D := (dC, dI)) (ci := 5) (v := .int joH) (C := RX5) (T := TX5) (N := 2) hx hb hts ui_X5_push_X5 hown hK hP 0 rfl rfl 1 (by decide) (hts _ uw_X5_push_f17) (fun _ h9 => h9) rfl (dt_of tkX5_push_k0 10 rfl) ?_
    refine lv_bipush (v := 64) hx hb (dt_of tkX5_push_k0 11 rfl) (by decide) ?_
    refine lv_imul hx hb (dt_of tkX5_push_k0 12 rfl) ?_
    refine lv_topi (fun x2 ex2 => ?_)
    have hw := hw x2 ex2
    refine lv_bipush (v := 64) hx hb (dt_of tkX5_push_k0 13 rfl) (by decide) ?_
    obtain ⟨hc19, hw⟩ := hw
    obtain ⟨hc49, hw⟩ := hw
    refine va_copyi hx hb (by rw [hml]; exact hl.1.symm) hown (hts _ uw_X5_push_m24) (hts _ uw_X5_push_acn) (hts _ uw_X5_push_acs) (hts _ uw_X5_push_aci) hK hP hD hS 2 3 1 1 rfl rfl rfl rfl rfl (by decide) hc19 (by decide) (by decide) hc49 (fun _ _ => rfl) (Nat.le_of_ble_eq_true rfl) (Nat.le_of_ble_eq_true rfl) (dt_of tkX5_push_k0 14 rfl) (fun H locs hP hD hS => ?_)
    obtain ⟨f3, ef3⟩ : ∃ y : Nat → Int32, y = va_cpy jkO joO (0 : Int32).toNatClampNeg x2.toNatClampNeg (64 : Int32).toNatClampNeg := ⟨_, rfl⟩
    have hw := hw f3 ef3
    have hP : va_P (dC, dI) vwCl (wd05_14 a0 jnO joH a1 jjO jjP jpb jn2 jjO cyI jkO jnO cyI f3) H := by rw [ef3]; exact hP
    have hD : va_D A (wd05_14 a0 jnO joH a1 jjO jjP jpb jn2 jjO cyI jkO jnO cyI f3) := by rw [ef3]; exact hD
    refine lv_aload_n hx hb (dt_of tkX5_push_k0 15 rfl) rfl (lv_at hl 0 rfl) ?_
    refine lv_dup hx hb (dt_of tkX5_push_k31 0 rfl) rfl ?_
    refine va_get (D := (dC, dI)) (ci := 5) (v := .int joH) (C := RX5) (T := TX5) (N := 2) hx hb hts ui_X5_push_X5 hown hK hP 0 rfl rfl 1 (by decide) (hts _ uw_X5_push_f17) (fun _ h9 => h9) rfl (dt_of tkX5_push_k31 1 rfl) ?_
    refine lv_iconst (v := 1) hx hb (dt_of tkX5_push_k31 2 rfl) (by decide) ?_
    refine lv_iadd hx hb (dt_of tkX5_push_k31 3 rfl) ?_
    refine lv_topi (fun x4 ex4 => ?_)
    have hw := hw x4 ex4
    refine va_put (D := (dC, dI)) (ci := 5) (v := .int x4) (ty := .int) (C := RX5) (T := TX5) (N := 2) hx hb hts ui_X5_push_X5 tyX5 tyX5_ok nmX5 hown hK hP hD hS 0 rfl rfl 1 (by decide) (hts _ uw_X5_push_f17) (fun _ h9 => h9) rfl (by decide +kernel) rfl rfl (Nat.le_of_ble_eq_true rfl) (dt_of tkX5_push_k31 4 rfl) (fun H locs hP hD hS => ?_)
    have hP : va_P (dC, dI) vwCl (wd05_14 a0 jnO x4 a1 jjO jjP jpb jn2 jjO cyI jkO jnO cyI f3) H := hP
    have hD : va_D A (wd05_14 a0 jnO x4 a1 jjO jjP jpb jn2 jjO cyI jkO jnO cyI f3) := hD
    exact ((W.vret hx hb hr (fun t ht hW => ⟨⟨(f3, x4), rfl, hw, by rw [ht]; exact hP, va_K.moved hW.alike hK, hD⟩, hS.F ht⟩) hS.2.2 (dt_of tkX5_push_k31 5 rfl)))
theorem ui_X9_behindEnd_X9 : ∀ w ∈ u_ws RX9 TX9 12, w ∈ wsX9_behindEnd := uiM mbX9_behindEnd euX9 (by decide +kernel)
theorem uw_X9_behindEnd_f15 : (.fieldLink RX9 15 "MarchHares$Work" "first" "[I" : Cond) ∈ wsX9_behindEnd := mbX9_behindEnd 267 (by decide +kernel)
theorem uw_X9_behindEnd_f27 : (.fieldLink RX9 27 "MarchHares$Work" "rounds" "[I" : Cond) ∈ wsX9_behindEnd := mbX9_behindEnd 271 (by decide +kernel)
theorem uw_X9_behindEnd_f40 : (.fieldLink RX9 40 "MarchHares$Work" "open" "I" : Cond) ∈ wsX9_behindEnd := mbX9_behindEnd 1607 (by decide +kernel)
set_option maxHeartbeats 4000000 in
set_option maxRecDepth 100000 in
theorem ck_X9_behindEnd (l : Launch) (dC : Nat → ClassId) (dI : Nat → Nat → Nat) (cyB cyI cyJ cyP : ClassId) (a0 jlw jgC sz : Nat) (jni jpk joZ jme jjf ja4 ja0 jaG jaF : Value) (jiX jmk : Nat → Int32) (jjF p1 : Int32) {Q : Int32 → (Nat → Int32) → Int32 → Prop} (hw : wq_X9_behindEnd jiX jmk jjF p1 Q) : Met l yX9_behindEnd wsX9_behindEnd ({ frames := 0, cells := 0, slots := 0, locals := 0 }) (va_Pc [.ref a0, .int p1] (cPc (dC, dI) (kT cyB cyI cyJ cyP) (wd05_15 a0 jni jgC jpk joZ jme jlw jjf jjF ja4 ja0 jaG jaF jlw cyI jmk jgC cyI jiX) sz)) (va_Qi (fun (r : Int32) (u : (Nat → Int32) × Int32) => Q r u.1 u.2) (cB (dC, dI) (kT cyB cyI cyJ cyP) (va_A (wd05_15 a0 jni jgC jpk joZ jme jlw jjf jjF ja4 ja0 jaG jaF jlw cyI jmk jgC cyI jiX) sz) (fun u : (Nat → Int32) × Int32 => ((wd05_15 a0 jni jgC jpk joZ jme jlw jjf u.2 ja4 ja0 jaG jaF jlw cyI u.1 jgC cyI jiX) : va_W))) (va_A (wd05_15 a0 jni jgC jpk joZ jme jlw jjf jjF ja4 ja0 jaG jaF jlw cyI jmk jgC cyI jiX) sz)) 0 0 (va_A (wd05_15 a0 jni jgC jpk joZ jme jlw jjf jjF ja4 ja0 jaG jaF jlw cyI jmk jgC cyI jiX) sz) := by
  refine Met.ofW (cc := cX9_behindEnd) (maxL := 2) (ret := (some .int)) (by decide) rfl ?_
  intro p e s m args below meth c s₁ B hml hv
  obtain ⟨rfl, hsz, hP, hK, hD0, hNw⟩ := hv
  have hx := B.exec
  have hb := B.bytes
  have hr := B.returns
  have hts := atoms_spec (ws := wsX9_behindEnd) B.pre
  have hown : s.vm.findClass RX9 = some m.cls := findClass_of_methodNamed B.named
  have hlocks := B.notSynchronized
  subst hsz
  have hD := hD0.self (sz := s.heap.size)
  generalize hAe : va_A (wd05_15 a0 jni jgC jpk joZ jme jlw jjf jjF ja4 ja0 jaG jaF jlw cyI jmk jgC cyI jiX) s.heap.size = A at hD ⊢
  have hA : ∀ q : Nat, s.heap.size ≤ q → A q := fun q h => by rw [← hAe]; exact Or.inr h
  have hS : va_S A s.heap s.heap [] := va_S.rf
  have hP : va_P (dC, dI) vwCl (wd05_15 a0 jni jgC jpk joZ jme jlw jjf jjF ja4 ja0 jaG jaF jlw cyI jmk jgC cyI jiX) s.heap := hP
  have hl := lv_entry ([.ref a0, .int p1]) (n := 2) (Nat.le_of_ble_eq_true rfl)
  rw [lg_entry_eq]
  generalize (lg_sl ([.ref a0, .int p1]) ++ List.replicate (2 - (lg_sl ([.ref a0, .int p1])).length) Slot.unset).toArray = ls at hl ⊢
  have hl : lv_has ls 2 [(0, .ref a0), (1, .int p1)] := hl
  have C0 : cfx p s m _ meth c cX9_behindEnd (some .int) wsX9_behindEnd RX9 2 A (dC, dI) (kT cyB cyI cyJ cyP) := ⟨hx, hb, hr, hts, hown, hlocks, hml, hA, hK, hNw⟩
  clear hAe
  obtain ⟨H, hH⟩ : ∃ H, H = s.heap := ⟨_, rfl⟩
  rw [← hH] at hP ⊢
  have hS : va_S A s.heap H [] := by rw [hH]; exact va_S.rf
  have hS := hS
  refine lv_aload_n hx hb (dt_of tkX9_behindEnd_k0 0 rfl) rfl (lv_at hl 0 rfl) ?_
  refine va_get (D := (dC, dI)) (ci := 9) (v := .int jjF) (C := RX9) (T := TX9) (N := 12) hx hb hts ui_X9_behindEnd_X9 hown hK hP 0 rfl rfl 7 (by decide) (hts _ uw_X9_behindEnd_f40) (fun _ h9 => h9) rfl (dt_of tkX9_behindEnd_k0 1 rfl) ?_
  refine lv_if_ne (tgt := 11) hx hb (dt_of tkX9_behindEnd_k0 2 rfl) (by decide) (fun c1 => ?_) (fun c1 => ?_)
  · have hw := hw.1 c1
    refine lv_aload_n hx hb (dt_of tkX9_behindEnd_k0 7 rfl) rfl (lv_at hl 0 rfl) ?_
    refine va_get (D := (dC, dI)) (ci := 9) (v := .ref jlw) (C := RX9) (T := TX9) (N := 12) hx hb hts ui_X9_behindEnd_X9 hown hK hP 0 rfl rfl 5 (by decide) (hts _ uw_X9_behindEnd_f27) (fun _ h9 => h9) rfl (dt_of tkX9_behindEnd_k0 8 rfl) ?_
    refine lv_aload_n hx hb (dt_of tkX9_behindEnd_k0 9 rfl) rfl (lv_at hl 0 rfl) ?_
    refine va_get (D := (dC, dI)) (ci := 9) (v := .int jjF) (C := RX9) (T := TX9) (N := 12) hx hb hts ui_X9_behindEnd_X9 hown hK hP 0 rfl rfl 7 (by decide) (hts _ uw_X9_behindEnd_f40) (fun _ h9 => h9) rfl (dt_of tkX9_behindEnd_k0 10 rfl) ?_
    refine lv_iconst (v := 1) hx hb (dt_of tkX9_behindEnd_k0 11 rfl) (by decide) ?_
    refine lv_isub hx hb (dt_of tkX9_behindEnd_k0 12 rfl) ?_
    refine lv_topi (fun x2 ex2 => ?_)
    have hw := hw x2 ex2
    refine lv_dup2_11 hx hb (dt_of tkX9_behindEnd_k0 13 rfl) rfl rfl ?_
    obtain ⟨hi9, hw⟩ := hw
    refine va_iald hx hb hK hP 1 1 rfl rfl hi9 (dt_of tkX9_behindEnd_k0 14 rfl) ?_
    refine lv_topi (fun x3 ex3 => ?_)
    have hw := hw x3 ex3
    refine lv_iconst (v := 1) hx hb (dt_of tkX9_behindEnd_k0 15 rfl) (by decide) ?_
    refine lv_isub hx hb (dt_of tkX9_behindEnd_k24 0 rfl) ?_
    refine lv_topi (fun x4 ex4 => ?_)
    have hw := hw x4 ex4
    obtain ⟨hi9, hw⟩ := hw
    refine va_iast hx hb hK hP hD hS 1 1 rfl rfl hi9 (dt_of tkX9_behindEnd_k24 1 rfl) (fun H locs hP hD hS => ?_)
    obtain ⟨f5, ef5⟩ : ∃ y : Nat → Int32, y = upd jmk x2.toNatClampNeg x4 := ⟨_, rfl⟩
    have hw := hw f5 ef5
    have hP : va_P (dC, dI) vwCl (wd05_15 a0 jni jgC jpk joZ jme jlw jjf jjF ja4 ja0 jaG jaF jlw cyI f5 jgC cyI jiX) H := by rw [ef5]; exact hP
    have hD : va_D A (wd05_15 a0 jni jgC jpk joZ jme jlw jjf jjF ja4 ja0 jaG jaF jlw cyI f5 jgC cyI jiX) := by rw [ef5]; exact hD
    refine lv_aload_n hx hb (dt_of tkX9_behindEnd_k24 2 rfl) rfl (lv_at hl 0 rfl) ?_
    refine va_get (D := (dC, dI)) (ci := 9) (v := .ref jlw) (C := RX9) (T := TX9) (N := 12) hx hb hts ui_X9_behindEnd_X9 hown hK hP 0 rfl rfl 5 (by decide) (hts _ uw_X9_behindEnd_f27) (fun _ h9 => h9) rfl (dt_of tkX9_behindEnd_k24 3 rfl) ?_
    refine lv_aload_n hx hb (dt_of tkX9_behindEnd_k24 4 rfl) rfl (lv_at hl 0 rfl) ?_
    refine va_get (D := (dC, dI)) (ci := 9) (v := .int jjF) (C := RX9) (T := TX9) (N := 12) hx hb hts ui_X9_behindEnd_X9 hown hK hP 0 rfl rfl 7 (by decide) (hts _ uw_X9_behindEnd_f40) (fun _ h9 => h9) rfl (dt_of tkX9_behindEnd_k24 5 rfl) ?_
    refine lv_iconst (v := 1) hx hb (dt_of tkX9_behindEnd_k24 6 rfl) (by decide) ?_
    refine lv_isub hx hb (dt_of tkX9_behindEnd_k24 7 rfl) ?_
    refine lv_topi (fun x6 ex6 => ?_)
    have hw := hw x6 ex6
    obtain ⟨hi9, hw⟩ := hw
    refine va_iald hx hb hK hP 1 1 rfl rfl hi9 (dt_of tkX9_behindEnd_k24 8 rfl) ?_
    refine lv_topi (fun x7 ex7 => ?_)
    have hw := hw x7 ex7
    refine lv_if_le (tgt := 49) hx hb (dt_of tkX9_behindEnd_k24 9 rfl) (by decide) (fun c8 => ?_) (fun c8 => ?_)
    · have hw := hw.1 c8
      refine lv_aload_n hx hb (dt_of tkX9_behindEnd_k48 1 rfl) rfl (lv_at hl 0 rfl) ?_
      refine lv_dup hx hb (dt_of tkX9_behindEnd_k48 2 rfl) rfl ?_
      refine va_get (D := (dC, dI)) (ci := 9) (v := .int jjF) (C := RX9) (T := TX9) (N := 12) hx hb hts ui_X9_behindEnd_X9 hown hK hP 0 rfl rfl 7 (by decide) (hts _ uw_X9_behindEnd_f40) (fun _ h9 => h9) rfl (dt_of tkX9_behindEnd_k48 3 rfl) ?_
      refine lv_iconst (v := 1) hx hb (dt_of tkX9_behindEnd_k48 4 rfl) (by decide) ?_
      refine lv_isub hx hb (dt_of tkX9_behindEnd_k48 5 rfl) ?_
      refine lv_topi (fun x9 ex9 => ?_)
      have hw := hw x9 ex9
      refine va_put (D := (dC, dI)) (ci := 9) (v := .int x9) (ty := .int) (C := RX9) (T := TX9) (N := 12) hx hb hts ui_X9_behindEnd_X9 tyX9 tyX9_ok nmX9 hown hK hP hD hS 0 rfl rfl 7 (by decide) (hts _ uw_X9_behindEnd_f40) (fun _ h9 => h9) rfl (by decide +kernel) rfl rfl (Nat.le_of_ble_eq_true rfl) (dt_of tkX9_behindEnd_k48 6 rfl) (fun H locs hP hD hS => ?_)
      have hP : va_P (dC, dI) vwCl (wd05_15 a0 jni jgC jpk joZ jme jlw jjf x9 ja4 ja0 jaG jaF jlw cyI f5 jgC cyI jiX) H := hP
      have hD : va_D A (wd05_15 a0 jni jgC jpk joZ jme jlw jjf x9 ja4 ja0 jaG jaF jlw cyI f5 jgC cyI jiX) := hD
      refine lv_iload_n hx hb (dt_of tkX9_behindEnd_k48 7 rfl) rfl (lv_at hl 1 rfl) ?_
      refine lv_iconst (v := 1) hx hb (dt_of tkX9_behindEnd_k48 8 rfl) (by decide) ?_
      refine lv_iadd hx hb (dt_of tkX9_behindEnd_k48 9 rfl) ?_
      exact ((W.iret (v := (p1 + 1)) hx hb hr (fun t ht hW => ⟨⟨(p1 + 1), (f5, x9), rfl, hw, by rw [ht]; exact hP, va_K.moved hW.alike hK, hD⟩, hS.F ht⟩) hS.2.2 (dt_of tkX9_behindEnd_k48 10 rfl)))
    · have hw := hw.2 c8
      refine lv_aload_n hx hb (dt_of tkX9_behindEnd_k24 10 rfl) rfl (lv_at hl 0 rfl) ?_
      refine va_get (D := (dC, dI)) (ci := 9) (v := .ref jgC) (C := RX9) (T := TX9) (N := 12) hx hb hts ui_X9_behindEnd_X9 hown hK hP 0 rfl rfl 1 (by decide) (hts _ uw_X9_behindEnd_f15) (fun _ h9 => h9) rfl (dt_of tkX9_behindEnd_k24 11 rfl) ?_
      refine lv_iload_n hx hb (dt_of tkX9_behindEnd_k24 12 rfl) rfl (lv_at hl 1 rfl) ?_
      obtain ⟨hi9, hw⟩ := hw
      refine va_iald hx hb hK hP 2 1 rfl rfl hi9 (dt_of tkX9_behindEnd_k24 13 rfl) ?_
      refine lv_topi (fun x10 ex10 => ?_)
      have hw := hw x10 ex10
      refine lv_iconst (v := 1) hx hb (dt_of tkX9_behindEnd_k24 14 rfl) (by decide) ?_
      refine lv_iadd hx hb (dt_of tkX9_behindEnd_k24 15 rfl) ?_
      exact ((W.iret (v := (x10 + 1)) hx hb hr (fun t ht hW => ⟨⟨(x10 + 1), (f5, jjF), rfl, hw, by rw [ht]; exact hP, va_K.moved hW.alike hK, hD⟩, hS.F ht⟩) hS.2.2 (dt_of tkX9_behindEnd_k48 0 rfl)))
  · have hw := hw.2 c1
    refine lv_iload_n hx hb (dt_of tkX9_behindEnd_k0 3 rfl) rfl (lv_at hl 1 rfl) ?_
    refine lv_iconst (v := 1) hx hb (dt_of tkX9_behindEnd_k0 4 rfl) (by decide) ?_
    refine lv_iadd hx hb (dt_of tkX9_behindEnd_k0 5 rfl) ?_
    exact ((W.iret (v := (p1 + 1)) hx hb hr (fun t ht hW => ⟨⟨(p1 + 1), (jmk, jjF), rfl, hw, by rw [ht]; exact hP, va_K.moved hW.alike hK, hD⟩, hS.F ht⟩) hS.2.2 (dt_of tkX9_behindEnd_k0 6 rfl)))
theorem ui_X9_behindAgain_X9 : ∀ w ∈ u_ws RX9 TX9 12, w ∈ wsX9_behindAgain := uiM mbX9_behindAgain euX9 (by decide +kernel)
theorem uw_X9_behindAgain_f15 : (.fieldLink RX9 15 "MarchHares$Work" "first" "[I" : Cond) ∈ wsX9_behindAgain := mbX9_behindAgain 267 (by decide +kernel)
theorem uw_X9_behindAgain_f18 : (.fieldLink RX9 18 "MarchHares$Work" "second" "[I" : Cond) ∈ wsX9_behindAgain := mbX9_behindAgain 268 (by decide +kernel)
theorem uw_X9_behindAgain_f27 : (.fieldLink RX9 27 "MarchHares$Work" "rounds" "[I" : Cond) ∈ wsX9_behindAgain := mbX9_behindAgain 271 (by decide +kernel)
theorem uw_X9_behindAgain_f40 : (.fieldLink RX9 40 "MarchHares$Work" "open" "I" : Cond) ∈ wsX9_behindAgain := mbX9_behindAgain 1607 (by decide +kernel)
set_option maxHeartbeats 4000000 in
set_option maxRecDepth 100000 in
theorem kb_X9_behindAgain_18 {p : Program} {l : Launch} {e : Env} {s : State} {m : MethodId} {args : Array Value} {below : List Frame} {meth : Method} {c : Code} {A : Nat → Prop} (dC : Nat → ClassId) (dI : Nat → Nat → Nat) (cyB cyI cyJ cyP : ClassId) (a0 jgC jlw jgh : Nat) (jni joZ jme jjf ja4 ja0 jaG jaF : Value) (jiX jiF : Nat → Int32) (Q : Int32 → (Nat → Int32) → Int32 → Prop)  (C0 : cfx p s m args meth c cX9_behindAgain (some .int) wsX9_behindAgain RX9 2 A (dC, dI) (kT cyB cyI cyJ cyP)) : ∀ (H : Heap) (locs : List Loc) (ls : Array Slot) (jmk : Nat → Int32) (jjF l1 : Int32), va_P (dC, dI) vwCl (wd05_16 a0 jni jgC jgh joZ jme jlw jjf jjF ja4 ja0 jaG jaF jgC cyI jiX jlw cyI jmk jgh cyI jiF) H → va_D A (wd05_16 a0 jni jgC jgh joZ jme jlw jjf jjF ja4 ja0 jaG jaF jgC cyI jiX jlw cyI jmk jgh cyI jiF) → va_S A s.heap H locs → lv_has ls 2 [(0, .ref a0), (1, .int l1)] → wb_X9_behindAgain_18 jiX jiF Q  jmk jjF l1 → W p l e (headSpec wsX9_behindAgain ({ frames := 0, cells := 0, slots := 0, locals := 0 })).room s m args below meth c H locs 0 0 (MQ below (va_Qi (fun (r : Int32) (u : (Nat → Int32) × Int32) => Q r u.1 u.2) (cB (dC, dI) (kT cyB cyI cyJ cyP) A (fun u : (Nat → Int32) × Int32 => ((wd05_16 a0 jni jgC jgh joZ jme jlw jjf u.2 ja4 ja0 jaG jaF jgC cyI jiX jlw cyI u.1 jgh cyI jiF) : va_W))) A) args s 0 0 A) (F0 m 18 ls []) := by
  obtain ⟨hx, hb, hr, hts, hown, hlocks, hml, hA, hK, hNw⟩ := id C0
  intro H locs ls jmk jjF l1 hP hD hS hl hw
  refine lv_aload_n hx hb (dt_of tkX9_behindAgain_k0 9 rfl) rfl (lv_at hl 0 rfl) ?_
  refine va_get (D := (dC, dI)) (ci := 9) (v := .ref jgh) (C := RX9) (T := TX9) (N := 12) hx hb hts ui_X9_behindAgain_X9 hown hK hP 0 rfl rfl 2 (by decide) (hts _ uw_X9_behindAgain_f18) (fun _ h9 => h9) rfl (dt_of tkX9_behindAgain_k0 10 rfl) ?_
  refine lv_iload_n hx hb (dt_of tkX9_behindAgain_k0 11 rfl) rfl (lv_at hl 1 rfl) ?_
  obtain ⟨hi9, hw⟩ := hw
  refine va_iald hx hb hK hP 3 1 rfl rfl hi9 (dt_of tkX9_behindAgain_k0 12 rfl) ?_
  refine lv_topi (fun x7 ex7 => ?_)
  have hw := hw x7 ex7
  refine lv_iconst (v := 1) hx hb (dt_of tkX9_behindAgain_k0 13 rfl) (by decide) ?_
  refine lv_iadd hx hb (dt_of tkX9_behindAgain_k0 14 rfl) ?_
  exact ((W.iret (v := (x7 + 1)) hx hb hr (fun t ht hW => ⟨⟨(x7 + 1), (jmk, jjF), rfl, hw, by rw [ht]; exact hP, va_K.moved hW.alike hK, hD⟩, hS.F ht⟩) hS.2.2 (dt_of tkX9_behindAgain_k0 15 rfl)))
set_option maxHeartbeats 4000000 in
set_option maxRecDepth 100000 in
theorem ck_X9_behindAgain (l : Launch) (dC : Nat → ClassId) (dI : Nat → Nat → Nat) (cyB cyI cyJ cyP : ClassId) (a0 jgC jlw jgh sz : Nat) (jni joZ jme jjf ja4 ja0 jaG jaF : Value) (jiX jiF jmk : Nat → Int32) (jjF p1 : Int32) {Q : Int32 → (Nat → Int32) → Int32 → Prop} (hw : wq_X9_behindAgain jiX jiF jmk jjF p1 Q) : Met l yX9_behindAgain wsX9_behindAgain ({ frames := 0, cells := 0, slots := 0, locals := 0 }) (va_Pc [.ref a0, .int p1] (cPc (dC, dI) (kT cyB cyI cyJ cyP) (wd05_16 a0 jni jgC jgh joZ jme jlw jjf jjF ja4 ja0 jaG jaF jgC cyI jiX jlw cyI jmk jgh cyI jiF) sz)) (va_Qi (fun (r : Int32) (u : (Nat → Int32) × Int32) => Q r u.1 u.2) (cB (dC, dI) (kT cyB cyI cyJ cyP) (va_A (wd05_16 a0 jni jgC jgh joZ jme jlw jjf jjF ja4 ja0 jaG jaF jgC cyI jiX jlw cyI jmk jgh cyI jiF) sz) (fun u : (Nat → Int32) × Int32 => ((wd05_16 a0 jni jgC jgh joZ jme jlw jjf u.2 ja4 ja0 jaG jaF jgC cyI jiX jlw cyI u.1 jgh cyI jiF) : va_W))) (va_A (wd05_16 a0 jni jgC jgh joZ jme jlw jjf jjF ja4 ja0 jaG jaF jgC cyI jiX jlw cyI jmk jgh cyI jiF) sz)) 0 0 (va_A (wd05_16 a0 jni jgC jgh joZ jme jlw jjf jjF ja4 ja0 jaG jaF jgC cyI jiX jlw cyI jmk jgh cyI jiF) sz) := by
  refine Met.ofW (cc := cX9_behindAgain) (maxL := 2) (ret := (some .int)) (by decide) rfl ?_
  intro p e s m args below meth c s₁ B hml hv
  obtain ⟨rfl, hsz, hP, hK, hD0, hNw⟩ := hv
  have hx := B.exec
  have hb := B.bytes
  have hr := B.returns
  have hts := atoms_spec (ws := wsX9_behindAgain) B.pre
  have hown : s.vm.findClass RX9 = some m.cls := findClass_of_methodNamed B.named
  have hlocks := B.notSynchronized
  subst hsz
  have hD := hD0.self (sz := s.heap.size)
  generalize hAe : va_A (wd05_16 a0 jni jgC jgh joZ jme jlw jjf jjF ja4 ja0 jaG jaF jgC cyI jiX jlw cyI jmk jgh cyI jiF) s.heap.size = A at hD ⊢
  have hA : ∀ q : Nat, s.heap.size ≤ q → A q := fun q h => by rw [← hAe]; exact Or.inr h
  have hS : va_S A s.heap s.heap [] := va_S.rf
  have hP : va_P (dC, dI) vwCl (wd05_16 a0 jni jgC jgh joZ jme jlw jjf jjF ja4 ja0 jaG jaF jgC cyI jiX jlw cyI jmk jgh cyI jiF) s.heap := hP
  have hl := lv_entry ([.ref a0, .int p1]) (n := 2) (Nat.le_of_ble_eq_true rfl)
  rw [lg_entry_eq]
  generalize (lg_sl ([.ref a0, .int p1]) ++ List.replicate (2 - (lg_sl ([.ref a0, .int p1])).length) Slot.unset).toArray = ls at hl ⊢
  have hl : lv_has ls 2 [(0, .ref a0), (1, .int p1)] := hl
  have C0 : cfx p s m _ meth c cX9_behindAgain (some .int) wsX9_behindAgain RX9 2 A (dC, dI) (kT cyB cyI cyJ cyP) := ⟨hx, hb, hr, hts, hown, hlocks, hml, hA, hK, hNw⟩
  clear hAe
  obtain ⟨H, hH⟩ : ∃ H, H = s.heap := ⟨_, rfl⟩
  rw [← hH] at hP ⊢
  have hS : va_S A s.heap H [] := by rw [hH]; exact va_S.rf
  have hS := hS
  refine lv_aload_n hx hb (dt_of tkX9_behindAgain_k0 0 rfl) rfl (lv_at hl 0 rfl) ?_
  refine va_get (D := (dC, dI)) (ci := 9) (v := .ref jgC) (C := RX9) (T := TX9) (N := 12) hx hb hts ui_X9_behindAgain_X9 hown hK hP 0 rfl rfl 1 (by decide) (hts _ uw_X9_behindAgain_f15) (fun _ h9 => h9) rfl (dt_of tkX9_behindAgain_k0 1 rfl) ?_
  refine lv_iload_n hx hb (dt_of tkX9_behindAgain_k0 2 rfl) rfl (lv_at hl 1 rfl) ?_
  obtain ⟨hi9, hw⟩ := hw
  refine va_iald hx hb hK hP 1 1 rfl rfl hi9 (dt_of tkX9_behindAgain_k0 3 rfl) ?_
  refine lv_topi (fun x1 ex1 => ?_)
  have hw := hw x1 ex1
  refine lv_if_eq (tgt := 18) hx hb (dt_of tkX9_behindAgain_k0 4 rfl) (by decide) (fun c2 => ?_) (fun c2 => ?_)
  · have hw := hw.1 c2
    exact kb_X9_behindAgain_18 dC dI cyB cyI cyJ cyP a0 jgC jlw jgh jni joZ jme jjf ja4 ja0 jaG jaF jiX jiF Q  C0 _ _ _ jmk jjF p1 hP hD hS (lv_sub hl [0, 1] rfl) hw
  · have hw := hw.2 c2
    refine lv_aload_n hx hb (dt_of tkX9_behindAgain_k0 5 rfl) rfl (lv_at hl 0 rfl) ?_
    refine va_get (D := (dC, dI)) (ci := 9) (v := .int jjF) (C := RX9) (T := TX9) (N := 12) hx hb hts ui_X9_behindAgain_X9 hown hK hP 0 rfl rfl 7 (by decide) (hts _ uw_X9_behindAgain_f40) (fun _ h9 => h9) rfl (dt_of tkX9_behindAgain_k0 6 rfl) ?_
    refine lv_bipush (v := 6) hx hb (dt_of tkX9_behindAgain_k0 7 rfl) (by decide) ?_
    refine lv_icmp_lt (tgt := 27) hx hb (dt_of tkX9_behindAgain_k0 8 rfl) (by decide) (fun c3 => ?_) (fun c3 => ?_)
    · have hw := hw.1 c3
      refine lv_aload_n hx hb (dt_of tkX9_behindAgain_k27 0 rfl) rfl (lv_at hl 0 rfl) ?_
      refine va_get (D := (dC, dI)) (ci := 9) (v := .ref jlw) (C := RX9) (T := TX9) (N := 12) hx hb hts ui_X9_behindAgain_X9 hown hK hP 0 rfl rfl 5 (by decide) (hts _ uw_X9_behindAgain_f27) (fun _ h9 => h9) rfl (dt_of tkX9_behindAgain_k27 1 rfl) ?_
      refine lv_aload_n hx hb (dt_of tkX9_behindAgain_k27 2 rfl) rfl (lv_at hl 0 rfl) ?_
      refine va_get (D := (dC, dI)) (ci := 9) (v := .int jjF) (C := RX9) (T := TX9) (N := 12) hx hb hts ui_X9_behindAgain_X9 hown hK hP 0 rfl rfl 7 (by decide) (hts _ uw_X9_behindAgain_f40) (fun _ h9 => h9) rfl (dt_of tkX9_behindAgain_k27 3 rfl) ?_
      refine lv_aload_n hx hb (dt_of tkX9_behindAgain_k27 4 rfl) rfl (lv_at hl 0 rfl) ?_
      refine va_get (D := (dC, dI)) (ci := 9) (v := .ref jgC) (C := RX9) (T := TX9) (N := 12) hx hb hts ui_X9_behindAgain_X9 hown hK hP 0 rfl rfl 1 (by decide) (hts _ uw_X9_behindAgain_f15) (fun _ h9 => h9) rfl (dt_of tkX9_behindAgain_k27 5 rfl) ?_
      refine lv_iload_n hx hb (dt_of tkX9_behindAgain_k27 6 rfl) rfl (lv_at hl 1 rfl) ?_
      obtain ⟨hi9, hw⟩ := hw
      refine va_iald hx hb hK hP 1 1 rfl rfl hi9 (dt_of tkX9_behindAgain_k27 7 rfl) ?_
      refine lv_topi (fun x4 ex4 => ?_)
      have hw := hw x4 ex4
      obtain ⟨hi9, hw⟩ := hw
      refine va_iast hx hb hK hP hD hS 2 1 rfl rfl hi9 (dt_of tkX9_behindAgain_k27 8 rfl) (fun H locs hP hD hS => ?_)
      obtain ⟨f5, ef5⟩ : ∃ y : Nat → Int32, y = upd jmk jjF.toNatClampNeg x4 := ⟨_, rfl⟩
      have hw := hw f5 ef5
      have hP : va_P (dC, dI) vwCl (wd05_16 a0 jni jgC jgh joZ jme jlw jjf jjF ja4 ja0 jaG jaF jgC cyI jiX jlw cyI f5 jgh cyI jiF) H := by rw [ef5]; exact hP
      have hD : va_D A (wd05_16 a0 jni jgC jgh joZ jme jlw jjf jjF ja4 ja0 jaG jaF jgC cyI jiX jlw cyI f5 jgh cyI jiF) := by rw [ef5]; exact hD
      refine lv_aload_n hx hb (dt_of tkX9_behindAgain_k27 9 rfl) rfl (lv_at hl 0 rfl) ?_
      refine lv_dup hx hb (dt_of tkX9_behindAgain_k27 10 rfl) rfl ?_
      refine va_get (D := (dC, dI)) (ci := 9) (v := .int jjF) (C := RX9) (T := TX9) (N := 12) hx hb hts ui_X9_behindAgain_X9 hown hK hP 0 rfl rfl 7 (by decide) (hts _ uw_X9_behindAgain_f40) (fun _ h9 => h9) rfl (dt_of tkX9_behindAgain_k27 11 rfl) ?_
      refine lv_iconst (v := 1) hx hb (dt_of tkX9_behindAgain_k27 12 rfl) (by decide) ?_
      refine lv_iadd hx hb (dt_of tkX9_behindAgain_k27 13 rfl) ?_
      refine lv_topi (fun x6 ex6 => ?_)
      have hw := hw x6 ex6
      refine va_put (D := (dC, dI)) (ci := 9) (v := .int x6) (ty := .int) (C := RX9) (T := TX9) (N := 12) hx hb hts ui_X9_behindAgain_X9 tyX9 tyX9_ok nmX9 hown hK hP hD hS 0 rfl rfl 7 (by decide) (hts _ uw_X9_behindAgain_f40) (fun _ h9 => h9) rfl (by decide +kernel) rfl rfl (Nat.le_of_ble_eq_true rfl) (dt_of tkX9_behindAgain_k27 14 rfl) (fun H locs hP hD hS => ?_)
      have hP : va_P (dC, dI) vwCl (wd05_16 a0 jni jgC jgh joZ jme jlw jjf x6 ja4 ja0 jaG jaF jgC cyI jiX jlw cyI f5 jgh cyI jiF) H := hP
      have hD : va_D A (wd05_16 a0 jni jgC jgh joZ jme jlw jjf x6 ja4 ja0 jaG jaF jgC cyI jiX jlw cyI f5 jgh cyI jiF) := hD
      refine lv_iload_n hx hb (dt_of tkX9_behindAgain_k27 15 rfl) rfl (lv_at hl 1 rfl) ?_
      refine lv_iconst (v := 1) hx hb (dt_of tkX9_behindAgain_k53 0 rfl) (by decide) ?_
      refine lv_iadd hx hb (dt_of tkX9_behindAgain_k53 1 rfl) ?_
      exact ((W.iret (v := (p1 + 1)) hx hb hr (fun t ht hW => ⟨⟨(p1 + 1), (f5, x6), rfl, hw, by rw [ht]; exact hP, va_K.moved hW.alike hK, hD⟩, hS.F ht⟩) hS.2.2 (dt_of tkX9_behindAgain_k53 2 rfl)))
    · have hw := hw.2 c3
      exact kb_X9_behindAgain_18 dC dI cyB cyI cyJ cyP a0 jgC jlw jgh jni joZ jme jjf ja4 ja0 jaG jaF jiX jiF Q  C0 _ _ _ jmk jjF p1 hP hD hS (lv_sub hl [0, 1] rfl) hw
set_option maxHeartbeats 4000000 in
set_option maxRecDepth 100000 in
theorem ck_X1_couldPay (l : Launch) (dC : Nat → ClassId) (dI : Nat → Nat → Nat) (cyB cyI cyJ cyP : ClassId) (a0 jch sz : Nat) (jcD ji6 jhx : Value) (jdE : Nat → Int32)  (p1 p2 p3 : Int32) {Q : Int32 → Prop} (hw : wq_X1_couldPay jdE  p1 p2 p3 Q) : Met l yX1_couldPay wsX1_couldPay ({ frames := 1, cells := 0, slots := 0, locals := 22 }) (va_Pc [.ref a0, .int p1, .int p2, .int p3] (cPc (dC, dI) (kT cyB cyI cyJ cyP) (wd05_17 a0 jch jcD ji6 jhx jch cyI jdE) sz)) (va_Qi (fun (r : Int32) (_ : Unit) => Q r ) (cB (dC, dI) (kT cyB cyI cyJ cyP) (va_A (wd05_17 a0 jch jcD ji6 jhx jch cyI jdE) sz) (fun u : Unit => ((wd05_17 a0 jch jcD ji6 jhx jch cyI jdE) : va_W))) (va_A (wd05_17 a0 jch jcD ji6 jhx jch cyI jdE) sz)) 0 0 (va_A (wd05_17 a0 jch jcD ji6 jhx jch cyI jdE) sz) := by
  refine Met.ofW (cc := cX1_couldPay) (maxL := 4) (ret := (some .boolean)) (by decide) rfl ?_
  intro p e s m args below meth c s₁ B hml hv
  obtain ⟨rfl, hsz, hP, hK, hD0, hNw⟩ := hv
  have hx := B.exec
  have hb := B.bytes
  have hr := B.returns
  have hts := atoms_spec (ws := wsX1_couldPay) B.pre
  have hown : s.vm.findClass RX1 = some m.cls := findClass_of_methodNamed B.named
  have hlocks := B.notSynchronized
  subst hsz
  have hD := hD0.self (sz := s.heap.size)
  generalize hAe : va_A (wd05_17 a0 jch jcD ji6 jhx jch cyI jdE) s.heap.size = A at hD ⊢
  have hA : ∀ q : Nat, s.heap.size ≤ q → A q := fun q h => by rw [← hAe]; exact Or.inr h
  have hS : va_S A s.heap s.heap [] := va_S.rf
  have hP : va_P (dC, dI) vwCl (wd05_17 a0 jch jcD ji6 jhx jch cyI jdE) s.heap := hP
  have hl := lv_entry ([.ref a0, .int p1, .int p2, .int p3]) (n := 4) (Nat.le_of_ble_eq_true rfl)
  rw [lg_entry_eq]
  generalize (lg_sl ([.ref a0, .int p1, .int p2, .int p3]) ++ List.replicate (4 - (lg_sl ([.ref a0, .int p1, .int p2, .int p3])).length) Slot.unset).toArray = ls at hl ⊢
  have hl : lv_has ls 4 [(0, .ref a0), (1, .int p1), (2, .int p2), (3, .int p3)] := hl
  have C0 : cfx p s m _ meth c cX1_couldPay (some .boolean) wsX1_couldPay RX1 4 A (dC, dI) (kT cyB cyI cyJ cyP) := ⟨hx, hb, hr, hts, hown, hlocks, hml, hA, hK, hNw⟩
  clear hAe
  obtain ⟨H, hH⟩ : ∃ H, H = s.heap := ⟨_, rfl⟩
  rw [← hH] at hP ⊢
  have hS : va_S A s.heap H [] := by rw [hH]; exact va_S.rf
  have hS := hS
  refine lv_aload_n hx hb (dt_of tkX1_couldPay_k0 0 rfl) rfl (lv_at hl 0 rfl) ?_
  refine lv_iload_n hx hb (dt_of tkX1_couldPay_k0 1 rfl) rfl (lv_at hl 1 rfl) ?_
  obtain ⟨hCc, hPc, hDc, hFc⟩ := va_pick (ws' := (wd05_17 a0 jch jcD ji6 jhx jch cyI jdE)) hP hD hS hA [0, 1] (by decide +kernel) rfl
  refine va_calli (va_runV (As := [.int p1]) (rest := []) ⟨hx, hb, hml, hown, hts⟩ (ck_X1_isCaught l dC dI cyB cyI cyJ cyP a0 jch H.size (jcD) (ji6) (jhx) jdE  p1 hw) (cwV 1 hts gX1_couldPay_X1_isCaught rfl rfl rfl (by decide +kernel) ⟨Nat.le_of_ble_eq_true rfl, Nat.le_of_ble_eq_true rfl⟩) ⟨cPc_blind, va_recv (q := (RX1, TX1, 4)) hK hPc (ci := 1) (q0 := 0) rfl rfl, cPc_pre hPc hK hDc hNw⟩ rfl rfl hl.1 rfl (lv_room (Nat.le_of_ble_eq_true rfl)) (dt_of tkX1_couldPay_k0 2 rfl) ⟨Nat.le_of_ble_eq_true rfl, Nat.le_of_ble_eq_true rfl⟩) hS (fun q _ h => hFc q h) hFc (fun r1 u t H1 locs ht hvm hw hB hz1 hk1 hS => ?_)
  obtain ⟨hP1, hK1, hD1⟩ := hB
  rw [ht] at hP1
  obtain ⟨hP, hD⟩ := va_joinI (wr := []) (w1 := (wd05_17 a0 jch jcD ji6 jhx jch cyI jdE)) (wn := (wd05_17 a0 jch jcD ji6 jhx jch cyI jdE)) hP hD [0, 1] [] hCc rfl (by decide +kernel) (by decide +kernel) rfl hk1 hFc hP1 hD1
  generalize H1 = H at hP hS ⊢
  refine lv_if_ne (tgt := 30) hx hb (dt_of tkX1_couldPay_k0 3 rfl) (by decide) (fun c2 => ?_) (fun c2 => ?_)
  · have hw := hw.1 c2
    refine lv_iconst (v := 0) hx hb (dt_of tkX1_couldPay_k30 0 rfl) (by decide) ?_
    exact ((W.zret (v := 0) hx hb hr rfl (fun t ht hW => ⟨⟨0, (), rfl, hw, by rw [ht]; exact hP, va_K.moved hW.alike hK, hD⟩, hS.F ht⟩) hS.2.2 (dt_of tkX1_couldPay_k30 1 rfl)))
  · have hw := hw.2 c2
    refine lv_aload_n hx hb (dt_of tkX1_couldPay_k0 4 rfl) rfl (lv_at hl 0 rfl) ?_
    refine lv_iload_n hx hb (dt_of tkX1_couldPay_k0 5 rfl) rfl (lv_at hl 2 rfl) ?_
    obtain ⟨hCc, hPc, hDc, hFc⟩ := va_pick (ws' := (wd05_17 a0 jch jcD ji6 jhx jch cyI jdE)) hP hD hS hA [0, 1] (by decide +kernel) rfl
    refine va_calli (va_runV (As := [.int p2]) (rest := []) ⟨hx, hb, hml, hown, hts⟩ (ck_X1_isCaught l dC dI cyB cyI cyJ cyP a0 jch H.size (jcD) (ji6) (jhx) jdE  p2 hw) (cwV 1 hts gX1_couldPay_X1_isCaught rfl rfl rfl (by decide +kernel) ⟨Nat.le_of_ble_eq_true rfl, Nat.le_of_ble_eq_true rfl⟩) ⟨cPc_blind, va_recv (q := (RX1, TX1, 4)) hK hPc (ci := 1) (q0 := 0) rfl rfl, cPc_pre hPc hK hDc hNw⟩ rfl rfl hl.1 rfl (lv_room (Nat.le_of_ble_eq_true rfl)) (dt_of tkX1_couldPay_k0 6 rfl) ⟨Nat.le_of_ble_eq_true rfl, Nat.le_of_ble_eq_true rfl⟩) hS (fun q _ h => hFc q h) hFc (fun r3 u t H1 locs ht hvm hw hB hz1 hk1 hS => ?_)
    obtain ⟨hP1, hK1, hD1⟩ := hB
    rw [ht] at hP1
    obtain ⟨hP, hD⟩ := va_joinI (wr := []) (w1 := (wd05_17 a0 jch jcD ji6 jhx jch cyI jdE)) (wn := (wd05_17 a0 jch jcD ji6 jhx jch cyI jdE)) hP hD [0, 1] [] hCc rfl (by decide +kernel) (by decide +kernel) rfl hk1 hFc hP1 hD1
    generalize H1 = H at hP hS ⊢
    refine lv_if_ne (tgt := 30) hx hb (dt_of tkX1_couldPay_k0 7 rfl) (by decide) (fun c4 => ?_) (fun c4 => ?_)
    · have hw := hw.1 c4
      refine lv_iconst (v := 0) hx hb (dt_of tkX1_couldPay_k30 0 rfl) (by decide) ?_
      exact ((W.zret (v := 0) hx hb hr rfl (fun t ht hW => ⟨⟨0, (), rfl, hw, by rw [ht]; exact hP, va_K.moved hW.alike hK, hD⟩, hS.F ht⟩) hS.2.2 (dt_of tkX1_couldPay_k30 1 rfl)))
    · have hw := hw.2 c4
      refine lv_aload_n hx hb (dt_of tkX1_couldPay_k0 8 rfl) rfl (lv_at hl 0 rfl) ?_
      refine lv_iload_n hx hb (dt_of tkX1_couldPay_k0 9 rfl) rfl (lv_at hl 1 rfl) ?_
      refine lv_iload_n hx hb (dt_of tkX1_couldPay_k0 10 rfl) rfl (lv_at hl 2 rfl) ?_
      obtain ⟨hCc, hPc, hDc, hFc⟩ := va_pick (ws' := (wd05_17 a0 jch jcD ji6 jhx jch cyI jdE)) hP hD hS hA [0, 1] (by decide +kernel) rfl
      refine va_calli (va_runV (As := [.int p1, .int p2]) (rest := []) ⟨hx, hb, hml, hown, hts⟩ (ck_X1_owesTo l dC dI cyB cyI cyJ cyP a0 jch H.size (jcD) (ji6) (jhx) jdE  p1 p2 hw) (cwV 2 hts gX1_couldPay_X1_owesTo rfl rfl rfl (by decide +kernel) ⟨Nat.le_of_ble_eq_true rfl, Nat.le_of_ble_eq_true rfl⟩) ⟨cPc_blind, va_recv (q := (RX1, TX1, 4)) hK hPc (ci := 1) (q0 := 0) rfl rfl, cPc_pre hPc hK hDc hNw⟩ rfl rfl hl.1 rfl (lv_room (Nat.le_of_ble_eq_true rfl)) (dt_of tkX1_couldPay_k0 11 rfl) ⟨Nat.le_of_ble_eq_true rfl, Nat.le_of_ble_eq_true rfl⟩) hS (fun q _ h => hFc q h) hFc (fun r5 u t H1 locs ht hvm hw hB hz1 hk1 hS => ?_)
      obtain ⟨hP1, hK1, hD1⟩ := hB
      rw [ht] at hP1
      obtain ⟨hP, hD⟩ := va_joinI (wr := []) (w1 := (wd05_17 a0 jch jcD ji6 jhx jch cyI jdE)) (wn := (wd05_17 a0 jch jcD ji6 jhx jch cyI jdE)) hP hD [0, 1] [] hCc rfl (by decide +kernel) (by decide +kernel) rfl hk1 hFc hP1 hD1
      generalize H1 = H at hP hS ⊢
      refine lv_iload_n hx hb (dt_of tkX1_couldPay_k0 12 rfl) rfl (lv_at hl 3 rfl) ?_
      refine lv_icmp_lt (tgt := 30) hx hb (dt_of tkX1_couldPay_k0 13 rfl) (by decide) (fun c6 => ?_) (fun c6 => ?_)
      · have hw := hw.1 c6
        refine lv_iconst (v := 0) hx hb (dt_of tkX1_couldPay_k30 0 rfl) (by decide) ?_
        exact ((W.zret (v := 0) hx hb hr rfl (fun t ht hW => ⟨⟨0, (), rfl, hw, by rw [ht]; exact hP, va_K.moved hW.alike hK, hD⟩, hS.F ht⟩) hS.2.2 (dt_of tkX1_couldPay_k30 1 rfl)))
      · have hw := hw.2 c6
        refine lv_iconst (v := 1) hx hb (dt_of tkX1_couldPay_k0 14 rfl) (by decide) ?_
        refine lv_goto (tgt := 31) hx hb (dt_of tkX1_couldPay_k0 15 rfl) (by decide) ?_
        exact ((W.zret (v := 1) hx hb hr rfl (fun t ht hW => ⟨⟨1, (), rfl, hw, by rw [ht]; exact hP, va_K.moved hW.alike hK, hD⟩, hS.F ht⟩) hS.2.2 (dt_of tkX1_couldPay_k30 1 rfl)))
theorem ui_X9_isAllowed_X9 : ∀ w ∈ u_ws RX9 TX9 12, w ∈ wsX9_isAllowed := uiM mbX9_isAllowed euX9 (by decide +kernel)
theorem uw_X9_isAllowed_f11 : (.fieldLink RX9 11 "MarchHares$Work" "kinds" "[I" : Cond) ∈ wsX9_isAllowed := mbX9_isAllowed 266 (by decide +kernel)
theorem uw_X9_isAllowed_f15 : (.fieldLink RX9 15 "MarchHares$Work" "first" "[I" : Cond) ∈ wsX9_isAllowed := mbX9_isAllowed 267 (by decide +kernel)
theorem uw_X9_isAllowed_f18 : (.fieldLink RX9 18 "MarchHares$Work" "second" "[I" : Cond) ∈ wsX9_isAllowed := mbX9_isAllowed 268 (by decide +kernel)
theorem uw_X9_isAllowed_f21 : (.fieldLink RX9 21 "MarchHares$Work" "third" "[I" : Cond) ∈ wsX9_isAllowed := mbX9_isAllowed 269 (by decide +kernel)
set_option maxHeartbeats 4000000 in
set_option maxRecDepth 100000 in
theorem ck_X9_isAllowed (l : Launch) (dC : Nat → ClassId) (dI : Nat → Nat → Nat) (cyB cyI cyJ cyP : ClassId) (a0 a2 jbU jnX jgC jgh jnP jon joo jo0 jox joB joy jop jho sz : Nat) (jme jkw jjf joE ja4 ja0 jaG jaF jnW jor jos jot joM jof jou jog joh jo5 : Value) (jdC joK jiX jiF : Nat → Int32) (jnR : Int32) (joQ joR : Nat → Int32) (joS : Int32) (joV joT jjg joJ joN : Nat → Int32) (p1 : Int32) {Q : Int32 → (Nat → Int32) → (Nat → Int32) → Prop} (hw : wq_X9_isAllowed jdC joK jiX jiF jnR joQ joR joS joV joT jjg joJ joN p1 Q) : Met l yX9_isAllowed wsX9_isAllowed ({ frames := 4, cells := 0, slots := 0, locals := 99 }) (va_Pc [.ref a0, .int p1, .ref a2] (cPc (dC, dI) (kT cyB cyI cyJ cyP) (wd05_18 a0 jbU jgC jgh jho jme jkw jjf joE ja4 ja0 jaG jaF jbU cyI jdC a2 jnX jnW jnP jo0 jnX cyI joK jgC cyI jiX jgh cyI jiF jnP jon joo jor jos jot joM jof jou jog jnR joh jo5 jon cyI joQ joo cyI joR jo0 joy jop joB jox joS jox cyI joJ joB cyI joN joy cyI joV jop cyI joT jho cyI jjg) sz)) (va_Qi (fun (r : Int32) (u : (Nat → Int32) × (Nat → Int32)) => Q r u.1 u.2) (cB (dC, dI) (kT cyB cyI cyJ cyP) (va_A (wd05_18 a0 jbU jgC jgh jho jme jkw jjf joE ja4 ja0 jaG jaF jbU cyI jdC a2 jnX jnW jnP jo0 jnX cyI joK jgC cyI jiX jgh cyI jiF jnP jon joo jor jos jot joM jof jou jog jnR joh jo5 jon cyI joQ joo cyI joR jo0 joy jop joB jox joS jox cyI joJ joB cyI joN joy cyI joV jop cyI joT jho cyI jjg) sz) (fun u : (Nat → Int32) × (Nat → Int32) => ((wd05_18 a0 jbU jgC jgh jho jme jkw jjf joE ja4 ja0 jaG jaF jbU cyI jdC a2 jnX jnW jnP jo0 jnX cyI joK jgC cyI jiX jgh cyI jiF jnP jon joo jor jos jot joM jof jou jog jnR joh jo5 jon cyI joQ joo cyI joR jo0 joy jop joB jox joS jox cyI u.1 joB cyI u.2 joy cyI joV jop cyI joT jho cyI jjg) : va_W))) (va_A (wd05_18 a0 jbU jgC jgh jho jme jkw jjf joE ja4 ja0 jaG jaF jbU cyI jdC a2 jnX jnW jnP jo0 jnX cyI joK jgC cyI jiX jgh cyI jiF jnP jon joo jor jos jot joM jof jou jog jnR joh jo5 jon cyI joQ joo cyI joR jo0 joy jop joB jox joS jox cyI joJ joB cyI joN joy cyI joV jop cyI joT jho cyI jjg) sz)) 0 0 (va_A (wd05_18 a0 jbU jgC jgh jho jme jkw jjf joE ja4 ja0 jaG jaF jbU cyI jdC a2 jnX jnW jnP jo0 jnX cyI joK jgC cyI jiX jgh cyI jiF jnP jon joo jor jos jot joM jof jou jog jnR joh jo5 jon cyI joQ joo cyI joR jo0 joy jop joB jox joS jox cyI joJ joB cyI joN joy cyI joV jop cyI joT jho cyI jjg) sz) := by
  refine Met.ofW (cc := cX9_isAllowed) (maxL := 3) (ret := (some .boolean)) (by decide) rfl ?_
  intro p e s m args below meth c s₁ B hml hv
  obtain ⟨rfl, hsz, hP, hK, hD0, hNw⟩ := hv
  have hx := B.exec
  have hb := B.bytes
  have hr := B.returns
  have hts := atoms_spec (ws := wsX9_isAllowed) B.pre
  have hown : s.vm.findClass RX9 = some m.cls := findClass_of_methodNamed B.named
  have hlocks := B.notSynchronized
  subst hsz
  have hD := hD0.self (sz := s.heap.size)
  generalize hAe : va_A (wd05_18 a0 jbU jgC jgh jho jme jkw jjf joE ja4 ja0 jaG jaF jbU cyI jdC a2 jnX jnW jnP jo0 jnX cyI joK jgC cyI jiX jgh cyI jiF jnP jon joo jor jos jot joM jof jou jog jnR joh jo5 jon cyI joQ joo cyI joR jo0 joy jop joB jox joS jox cyI joJ joB cyI joN joy cyI joV jop cyI joT jho cyI jjg) s.heap.size = A at hD ⊢
  have hA : ∀ q : Nat, s.heap.size ≤ q → A q := fun q h => by rw [← hAe]; exact Or.inr h
  have hS : va_S A s.heap s.heap [] := va_S.rf
  have hP : va_P (dC, dI) vwCl (wd05_18 a0 jbU jgC jgh jho jme jkw jjf joE ja4 ja0 jaG jaF jbU cyI jdC a2 jnX jnW jnP jo0 jnX cyI joK jgC cyI jiX jgh cyI jiF jnP jon joo jor jos jot joM jof jou jog jnR joh jo5 jon cyI joQ joo cyI joR jo0 joy jop joB jox joS jox cyI joJ joB cyI joN joy cyI joV jop cyI joT jho cyI jjg) s.heap := hP
  have hl := lv_entry ([.ref a0, .int p1, .ref a2]) (n := 3) (Nat.le_of_ble_eq_true rfl)
  rw [lg_entry_eq]
  generalize (lg_sl ([.ref a0, .int p1, .ref a2]) ++ List.replicate (3 - (lg_sl ([.ref a0, .int p1, .ref a2])).length) Slot.unset).toArray = ls at hl ⊢
  have hl : lv_has ls 3 [(0, .ref a0), (1, .int p1), (2, .ref a2)] := hl
  have C0 : cfx p s m _ meth c cX9_isAllowed (some .boolean) wsX9_isAllowed RX9 3 A (dC, dI) (kT cyB cyI cyJ cyP) := ⟨hx, hb, hr, hts, hown, hlocks, hml, hA, hK, hNw⟩
  clear hAe
  obtain ⟨H, hH⟩ : ∃ H, H = s.heap := ⟨_, rfl⟩
  rw [← hH] at hP ⊢
  have hS : va_S A s.heap H [] := by rw [hH]; exact va_S.rf
  have hS := hS
  refine lv_aload_n hx hb (dt_of tkX9_isAllowed_k0 0 rfl) rfl (lv_at hl 0 rfl) ?_
  refine va_get (D := (dC, dI)) (ci := 9) (v := .ref jbU) (C := RX9) (T := TX9) (N := 12) hx hb hts ui_X9_isAllowed_X9 hown hK hP 0 rfl rfl 0 (by decide) (hts _ uw_X9_isAllowed_f11) (fun _ h9 => h9) rfl (dt_of tkX9_isAllowed_k0 1 rfl) ?_
  refine lv_iload_n hx hb (dt_of tkX9_isAllowed_k0 2 rfl) rfl (lv_at hl 1 rfl) ?_
  obtain ⟨hi9, hw⟩ := hw
  refine va_iald hx hb hK hP 1 1 rfl rfl hi9 (dt_of tkX9_isAllowed_k0 3 rfl) ?_
  refine lv_topi (fun x1 ex1 => ?_)
  have hw := hw x1 ex1
  by_cases c2 : x1.toInt < 0 ∨ 2 < x1.toInt
  · have hw := hw.1 c2
    refine lv_tableOut (tgt := 89) hx hb dX9_isAllowed_6 c2 (by decide) ?_
    refine lv_aload_n hx hb (dt_of tkX9_isAllowed_k80 5 rfl) rfl (lv_at hl 2 rfl) ?_
    obtain ⟨hCc, hPc, hDc, hFc⟩ := va_pick (ws' := (wd05_19 a2 jnX jnW jnP jo0 jnX cyI joK)) hP hD hS hA [2, 3] (by decide +kernel) rfl
    refine va_calli (va_runV (As := []) (rest := []) ⟨hx, hb, hml, hown, hts⟩ (ck_X1_year l dC dI cyB cyI cyJ cyP a2 jnX H.size (jnW) (.ref jnP) (.ref jo0) joK   hw) (cwV 0 hts gX9_isAllowed_X1_year rfl rfl rfl (by decide +kernel) ⟨Nat.le_of_ble_eq_true rfl, Nat.le_of_ble_eq_true rfl⟩) ⟨cPc_blind, va_recv (q := (RX1, TX1, 4)) hK hPc (ci := 1) (q0 := 0) rfl rfl, cPc_pre hPc hK hDc hNw⟩ rfl rfl hl.1 rfl (lv_room (Nat.le_of_ble_eq_true rfl)) (dt_of tkX9_isAllowed_k80 6 rfl) ⟨Nat.le_of_ble_eq_true rfl, Nat.le_of_ble_eq_true rfl⟩) hS (fun q _ h => hFc q h) hFc (fun r3 u t H1 locs ht hvm hw hB hz1 hk1 hS => ?_)
    obtain ⟨hP1, hK1, hD1⟩ := hB
    rw [ht] at hP1
    obtain ⟨hP, hD⟩ := va_joinN (wr := (wd05_20 a0 jbU jgC jgh jho jme jkw jjf joE ja4 ja0 jaG jaF jbU cyI jdC jgC cyI jiX jgh cyI jiF jnP jon joo jor jos jot joM jof jou jog jnR joh jo5 jon cyI joQ joo cyI joR jo0 joy jop joB jox joS jox cyI joJ joB cyI joN joy cyI joV jop cyI joT jho cyI jjg)) (w1 := (wd05_19 a2 jnX jnW jnP jo0 jnX cyI joK)) (wn := (wd05_18 a0 jbU jgC jgh jho jme jkw jjf joE ja4 ja0 jaG jaF jbU cyI jdC a2 jnX jnW jnP jo0 jnX cyI joK jgC cyI jiX jgh cyI jiF jnP jon joo jor jos jot joM jof jou jog jnR joh jo5 jon cyI joQ joo cyI joR jo0 joy jop joB jox joS jox cyI joJ joB cyI joN joy cyI joV jop cyI joT jho cyI jjg)) hP hD [2, 3] [0, 1, 4, 5, 6, 7, 8, 9, 10, 11, 12, 13, 14] [0, 1, 13, 14, 2, 3, 4, 5, 6, 7, 8, 9, 10, 11, 12] hCc rfl (by decide +kernel) (by decide +kernel) (by decide +kernel) rfl hk1 hFc hP1 hD1
    generalize H1 = H at hP hS ⊢
    refine lv_bipush (v := 40) hx hb (dt_of tkX9_isAllowed_k80 7 rfl) (by decide) ?_
    refine lv_icmp_ge (tgt := 102) hx hb (dt_of tkX9_isAllowed_k80 8 rfl) (by decide) (fun c4 => ?_) (fun c4 => ?_)
    · have hw := hw.1 c4
      refine lv_iconst (v := 0) hx hb (dt_of tkX9_isAllowed_k80 11 rfl) (by decide) ?_
      exact ((W.zret (v := 0) hx hb hr rfl (fun t ht hW => ⟨⟨0, (joJ, joN), rfl, hw, by rw [ht]; exact hP, va_K.moved hW.alike hK, hD⟩, hS.F ht⟩) hS.2.2 (dt_of tkX9_isAllowed_k80 12 rfl)))
    · have hw := hw.2 c4
      refine lv_iconst (v := 1) hx hb (dt_of tkX9_isAllowed_k80 9 rfl) (by decide) ?_
      refine lv_goto (tgt := 103) hx hb (dt_of tkX9_isAllowed_k80 10 rfl) (by decide) ?_
      exact ((W.zret (v := 1) hx hb hr rfl (fun t ht hW => ⟨⟨1, (joJ, joN), rfl, hw, by rw [ht]; exact hP, va_K.moved hW.alike hK, hD⟩, hS.F ht⟩) hS.2.2 (dt_of tkX9_isAllowed_k80 12 rfl)))
  · have hw := hw.2
    rcases tsw_0_2 c2 with c2 | c2 | c2
    · have hw := hw.1 c2
      refine lv_tableIn (tgt := 32) (off := 26) hx hb dX9_isAllowed_6 (by rw [c2]; decide) (by rw [c2]; decide) (by rw [c2]; decide) (by decide) ?_
      refine lv_aload_n hx hb (dt_of tkX9_isAllowed_k32 0 rfl) rfl (lv_at hl 2 rfl) ?_
      refine lv_aload_n hx hb (dt_of tkX9_isAllowed_k32 1 rfl) rfl (lv_at hl 0 rfl) ?_
      refine va_get (D := (dC, dI)) (ci := 9) (v := .ref jgC) (C := RX9) (T := TX9) (N := 12) hx hb hts ui_X9_isAllowed_X9 hown hK hP 0 rfl rfl 1 (by decide) (hts _ uw_X9_isAllowed_f15) (fun _ h9 => h9) rfl (dt_of tkX9_isAllowed_k32 2 rfl) ?_
      refine lv_iload_n hx hb (dt_of tkX9_isAllowed_k32 3 rfl) rfl (lv_at hl 1 rfl) ?_
      obtain ⟨hi9, hw⟩ := hw
      refine va_iald hx hb hK hP 4 1 rfl rfl hi9 (dt_of tkX9_isAllowed_k32 4 rfl) ?_
      refine lv_topi (fun x5 ex5 => ?_)
      have hw := hw x5 ex5
      refine lv_aload_n hx hb (dt_of tkX9_isAllowed_k32 5 rfl) rfl (lv_at hl 0 rfl) ?_
      refine va_get (D := (dC, dI)) (ci := 9) (v := .ref jgh) (C := RX9) (T := TX9) (N := 12) hx hb hts ui_X9_isAllowed_X9 hown hK hP 0 rfl rfl 2 (by decide) (hts _ uw_X9_isAllowed_f18) (fun _ h9 => h9) rfl (dt_of tkX9_isAllowed_k32 6 rfl) ?_
      refine lv_iload_n hx hb (dt_of tkX9_isAllowed_k32 7 rfl) rfl (lv_at hl 1 rfl) ?_
      obtain ⟨hi9, hw⟩ := hw
      refine va_iald hx hb hK hP 5 1 rfl rfl hi9 (dt_of tkX9_isAllowed_k32 8 rfl) ?_
      refine lv_topi (fun x6 ex6 => ?_)
      have hw := hw x6 ex6
      obtain ⟨hCc, hPc, hDc, hFc⟩ := va_pick (ws' := (wd05_21 a2 jnX jnW jnP jo0 jnX cyI joK jnP jon joo jor jos jot joM jof jou jog jnR joh jo5 jon cyI joQ joo cyI joR jo0 joy jop joB jox joS jox cyI joJ joB cyI joN joy cyI joV jop cyI joT)) hP hD hS hA [2, 3, 6, 7, 8, 9, 10, 11, 12, 13] (by decide +kernel) rfl
      refine va_calli (va_runV (As := [.int x5, .int x6]) (rest := []) ⟨hx, hb, hml, hown, hts⟩ (ck_X1_couldLeap l dC dI cyB cyI cyJ cyP a2 jnX jnP jon joo jo0 jox joB joy jop H.size (jnW) (jor) (jos) (jot) (joM) (jof) (jou) (jog) (joh) (jo5) joK jnR joQ joR joS joV joT joJ joN x5 x6 hw) (cwV 2 hts gX9_isAllowed_X1_couldLeap rfl rfl rfl (by decide +kernel) ⟨Nat.le_of_ble_eq_true rfl, Nat.le_of_ble_eq_true rfl⟩) ⟨cPc_blind, va_recv (q := (RX1, TX1, 4)) hK hPc (ci := 1) (q0 := 0) rfl rfl, cPc_pre hPc hK hDc hNw⟩ rfl rfl hl.1 rfl (lv_room (Nat.le_of_ble_eq_true rfl)) (dt_of tkX9_isAllowed_k32 9 rfl) ⟨Nat.le_of_ble_eq_true rfl, Nat.le_of_ble_eq_true rfl⟩) hS (fun q _ h => hFc q h) hFc (fun r9 u t H1 locs ht hvm hw hB hz1 hk1 hS => ?_)
      obtain ⟨f7, f8⟩ := u
      obtain ⟨hP1, hK1, hD1⟩ := hB
      rw [ht] at hP1
      obtain ⟨hP, hD⟩ := va_joinN (wr := (wd05_22 a0 jbU jgC jgh jho jme jkw jjf joE ja4 ja0 jaG jaF jbU cyI jdC jgC cyI jiX jgh cyI jiF jho cyI jjg)) (w1 := (wd05_21 a2 jnX jnW jnP jo0 jnX cyI joK jnP jon joo jor jos jot joM jof jou jog jnR joh jo5 jon cyI joQ joo cyI joR jo0 joy jop joB jox joS jox cyI f7 joB cyI f8 joy cyI joV jop cyI joT)) (wn := (wd05_18 a0 jbU jgC jgh jho jme jkw jjf joE ja4 ja0 jaG jaF jbU cyI jdC a2 jnX jnW jnP jo0 jnX cyI joK jgC cyI jiX jgh cyI jiF jnP jon joo jor jos jot joM jof jou jog jnR joh jo5 jon cyI joQ joo cyI joR jo0 joy jop joB jox joS jox cyI f7 joB cyI f8 joy cyI joV jop cyI joT jho cyI jjg)) hP hD [2, 3, 6, 7, 8, 9, 10, 11, 12, 13] [0, 1, 4, 5, 14] [0, 1, 5, 6, 2, 3, 7, 8, 9, 10, 11, 12, 13, 14, 4] hCc rfl (by decide +kernel) (by decide +kernel) (by decide +kernel) rfl hk1 hFc hP1 hD1
      generalize H1 = H at hP hS ⊢
      obtain ⟨hn9, hw⟩ := hw
      exact ((W.zret (v := r9) hx hb hr hn9 (fun t ht hW => ⟨⟨r9, (f7, f8), rfl, hw, by rw [ht]; exact hP, va_K.moved hW.alike hK, hD⟩, hS.F ht⟩) hS.2.2 (dt_of tkX9_isAllowed_k32 10 rfl)))
    · have hw := hw.2.1 c2
      refine lv_tableIn (tgt := 49) (off := 43) hx hb dX9_isAllowed_6 (by rw [c2]; decide) (by rw [c2]; decide) (by rw [c2]; decide) (by decide) ?_
      refine lv_aload_n hx hb (dt_of tkX9_isAllowed_k32 11 rfl) rfl (lv_at hl 2 rfl) ?_
      refine lv_aload_n hx hb (dt_of tkX9_isAllowed_k32 12 rfl) rfl (lv_at hl 0 rfl) ?_
      refine va_get (D := (dC, dI)) (ci := 9) (v := .ref jgC) (C := RX9) (T := TX9) (N := 12) hx hb hts ui_X9_isAllowed_X9 hown hK hP 0 rfl rfl 1 (by decide) (hts _ uw_X9_isAllowed_f15) (fun _ h9 => h9) rfl (dt_of tkX9_isAllowed_k32 13 rfl) ?_
      refine lv_iload_n hx hb (dt_of tkX9_isAllowed_k32 14 rfl) rfl (lv_at hl 1 rfl) ?_
      obtain ⟨hi9, hw⟩ := hw
      refine va_iald hx hb hK hP 4 1 rfl rfl hi9 (dt_of tkX9_isAllowed_k32 15 rfl) ?_
      refine lv_topi (fun x10 ex10 => ?_)
      have hw := hw x10 ex10
      refine lv_aload_n hx hb (dt_of tkX9_isAllowed_k56 0 rfl) rfl (lv_at hl 0 rfl) ?_
      refine va_get (D := (dC, dI)) (ci := 9) (v := .ref jgh) (C := RX9) (T := TX9) (N := 12) hx hb hts ui_X9_isAllowed_X9 hown hK hP 0 rfl rfl 2 (by decide) (hts _ uw_X9_isAllowed_f18) (fun _ h9 => h9) rfl (dt_of tkX9_isAllowed_k56 1 rfl) ?_
      refine lv_iload_n hx hb (dt_of tkX9_isAllowed_k56 2 rfl) rfl (lv_at hl 1 rfl) ?_
      obtain ⟨hi9, hw⟩ := hw
      refine va_iald hx hb hK hP 5 1 rfl rfl hi9 (dt_of tkX9_isAllowed_k56 3 rfl) ?_
      refine lv_topi (fun x11 ex11 => ?_)
      have hw := hw x11 ex11
      obtain ⟨hCc, hPc, hDc, hFc⟩ := va_pick (ws' := (wd05_19 a2 jnX jnW jnP jo0 jnX cyI joK)) hP hD hS hA [2, 3] (by decide +kernel) rfl
      refine va_calli (va_runV (As := [.int x10, .int x11]) (rest := []) ⟨hx, hb, hml, hown, hts⟩ (ck_X1_couldFight l dC dI cyB cyI cyJ cyP a2 jnX H.size (jnW) (.ref jnP) (.ref jo0) joK  x10 x11 hw) (cwV 2 hts gX9_isAllowed_X1_couldFight rfl rfl rfl (by decide +kernel) ⟨Nat.le_of_ble_eq_true rfl, Nat.le_of_ble_eq_true rfl⟩) ⟨cPc_blind, va_recv (q := (RX1, TX1, 4)) hK hPc (ci := 1) (q0 := 0) rfl rfl, cPc_pre hPc hK hDc hNw⟩ rfl rfl hl.1 rfl (lv_room (Nat.le_of_ble_eq_true rfl)) (dt_of tkX9_isAllowed_k56 4 rfl) ⟨Nat.le_of_ble_eq_true rfl, Nat.le_of_ble_eq_true rfl⟩) hS (fun q _ h => hFc q h) hFc (fun r12 u t H1 locs ht hvm hw hB hz1 hk1 hS => ?_)
      obtain ⟨hP1, hK1, hD1⟩ := hB
      rw [ht] at hP1
      obtain ⟨hP, hD⟩ := va_joinN (wr := (wd05_20 a0 jbU jgC jgh jho jme jkw jjf joE ja4 ja0 jaG jaF jbU cyI jdC jgC cyI jiX jgh cyI jiF jnP jon joo jor jos jot joM jof jou jog jnR joh jo5 jon cyI joQ joo cyI joR jo0 joy jop joB jox joS jox cyI joJ joB cyI joN joy cyI joV jop cyI joT jho cyI jjg)) (w1 := (wd05_19 a2 jnX jnW jnP jo0 jnX cyI joK)) (wn := (wd05_18 a0 jbU jgC jgh jho jme jkw jjf joE ja4 ja0 jaG jaF jbU cyI jdC a2 jnX jnW jnP jo0 jnX cyI joK jgC cyI jiX jgh cyI jiF jnP jon joo jor jos jot joM jof jou jog jnR joh jo5 jon cyI joQ joo cyI joR jo0 joy jop joB jox joS jox cyI joJ joB cyI joN joy cyI joV jop cyI joT jho cyI jjg)) hP hD [2, 3] [0, 1, 4, 5, 6, 7, 8, 9, 10, 11, 12, 13, 14] [0, 1, 13, 14, 2, 3, 4, 5, 6, 7, 8, 9, 10, 11, 12] hCc rfl (by decide +kernel) (by decide +kernel) (by decide +kernel) rfl hk1 hFc hP1 hD1
      generalize H1 = H at hP hS ⊢
      obtain ⟨hn9, hw⟩ := hw
      exact ((W.zret (v := r12) hx hb hr hn9 (fun t ht hW => ⟨⟨r12, (joJ, joN), rfl, hw, by rw [ht]; exact hP, va_K.moved hW.alike hK, hD⟩, hS.F ht⟩) hS.2.2 (dt_of tkX9_isAllowed_k56 5 rfl)))
    · have hw := hw.2.2 c2
      refine lv_tableIn (tgt := 66) (off := 60) hx hb dX9_isAllowed_6 (by rw [c2]; decide) (by rw [c2]; decide) (by rw [c2]; decide) (by decide) ?_
      refine lv_aload_n hx hb (dt_of tkX9_isAllowed_k56 6 rfl) rfl (lv_at hl 2 rfl) ?_
      refine lv_aload_n hx hb (dt_of tkX9_isAllowed_k56 7 rfl) rfl (lv_at hl 0 rfl) ?_
      refine va_get (D := (dC, dI)) (ci := 9) (v := .ref jgC) (C := RX9) (T := TX9) (N := 12) hx hb hts ui_X9_isAllowed_X9 hown hK hP 0 rfl rfl 1 (by decide) (hts _ uw_X9_isAllowed_f15) (fun _ h9 => h9) rfl (dt_of tkX9_isAllowed_k56 8 rfl) ?_
      refine lv_iload_n hx hb (dt_of tkX9_isAllowed_k56 9 rfl) rfl (lv_at hl 1 rfl) ?_
      obtain ⟨hi9, hw⟩ := hw
      refine va_iald hx hb hK hP 4 1 rfl rfl hi9 (dt_of tkX9_isAllowed_k56 10 rfl) ?_
      refine lv_topi (fun x13 ex13 => ?_)
      have hw := hw x13 ex13
      refine lv_aload_n hx hb (dt_of tkX9_isAllowed_k56 11 rfl) rfl (lv_at hl 0 rfl) ?_
      refine va_get (D := (dC, dI)) (ci := 9) (v := .ref jgh) (C := RX9) (T := TX9) (N := 12) hx hb hts ui_X9_isAllowed_X9 hown hK hP 0 rfl rfl 2 (by decide) (hts _ uw_X9_isAllowed_f18) (fun _ h9 => h9) rfl (dt_of tkX9_isAllowed_k56 12 rfl) ?_
      refine lv_iload_n hx hb (dt_of tkX9_isAllowed_k56 13 rfl) rfl (lv_at hl 1 rfl) ?_
      obtain ⟨hi9, hw⟩ := hw
      refine va_iald hx hb hK hP 5 1 rfl rfl hi9 (dt_of tkX9_isAllowed_k56 14 rfl) ?_
      refine lv_topi (fun x14 ex14 => ?_)
      have hw := hw x14 ex14
      refine lv_aload_n hx hb (dt_of tkX9_isAllowed_k56 15 rfl) rfl (lv_at hl 0 rfl) ?_
      refine va_get (D := (dC, dI)) (ci := 9) (v := .ref jho) (C := RX9) (T := TX9) (N := 12) hx hb hts ui_X9_isAllowed_X9 hown hK hP 0 rfl rfl 3 (by decide) (hts _ uw_X9_isAllowed_f21) (fun _ h9 => h9) rfl (dt_of tkX9_isAllowed_k80 0 rfl) ?_
      refine lv_iload_n hx hb (dt_of tkX9_isAllowed_k80 1 rfl) rfl (lv_at hl 1 rfl) ?_
      obtain ⟨hi9, hw⟩ := hw
      refine va_iald hx hb hK hP 14 1 rfl rfl hi9 (dt_of tkX9_isAllowed_k80 2 rfl) ?_
      refine lv_topi (fun x15 ex15 => ?_)
      have hw := hw x15 ex15
      obtain ⟨hCc, hPc, hDc, hFc⟩ := va_pick (ws' := (wd05_19 a2 jnX jnW jnP jo0 jnX cyI joK)) hP hD hS hA [2, 3] (by decide +kernel) rfl
      refine va_calli (va_runV (As := [.int x13, .int x14, .int x15]) (rest := []) ⟨hx, hb, hml, hown, hts⟩ (ck_X1_couldPay l dC dI cyB cyI cyJ cyP a2 jnX H.size (jnW) (.ref jnP) (.ref jo0) joK  x13 x14 x15 hw) (cwV 3 hts gX9_isAllowed_X1_couldPay rfl rfl rfl (by decide +kernel) ⟨Nat.le_of_ble_eq_true rfl, Nat.le_of_ble_eq_true rfl⟩) ⟨cPc_blind, va_recv (q := (RX1, TX1, 4)) hK hPc (ci := 1) (q0 := 0) rfl rfl, cPc_pre hPc hK hDc hNw⟩ rfl rfl hl.1 rfl (lv_room (Nat.le_of_ble_eq_true rfl)) (dt_of tkX9_isAllowed_k80 3 rfl) ⟨Nat.le_of_ble_eq_true rfl, Nat.le_of_ble_eq_true rfl⟩) hS (fun q _ h => hFc q h) hFc (fun r16 u t H1 locs ht hvm hw hB hz1 hk1 hS => ?_)
      obtain ⟨hP1, hK1, hD1⟩ := hB
      rw [ht] at hP1
      obtain ⟨hP, hD⟩ := va_joinN (wr := (wd05_20 a0 jbU jgC jgh jho jme jkw jjf joE ja4 ja0 jaG jaF jbU cyI jdC jgC cyI jiX jgh cyI jiF jnP jon joo jor jos jot joM jof jou jog jnR joh jo5 jon cyI joQ joo cyI joR jo0 joy jop joB jox joS jox cyI joJ joB cyI joN joy cyI joV jop cyI joT jho cyI jjg)) (w1 := (wd05_19 a2 jnX jnW jnP jo0 jnX cyI joK)) (wn := (wd05_18 a0 jbU jgC jgh jho jme jkw jjf joE ja4 ja0 jaG jaF jbU cyI jdC a2 jnX jnW jnP jo0 jnX cyI joK jgC cyI jiX jgh cyI jiF jnP jon joo jor jos jot joM jof jou jog jnR joh jo5 jon cyI joQ joo cyI joR jo0 joy jop joB jox joS jox cyI joJ joB cyI joN joy cyI joV jop cyI joT jho cyI jjg)) hP hD [2, 3] [0, 1, 4, 5, 6, 7, 8, 9, 10, 11, 12, 13, 14] [0, 1, 13, 14, 2, 3, 4, 5, 6, 7, 8, 9, 10, 11, 12] hCc rfl (by decide +kernel) (by decide +kernel) (by decide +kernel) rfl hk1 hFc hP1 hD1
      generalize H1 = H at hP hS ⊢
      obtain ⟨hn9, hw⟩ := hw
      exact ((W.zret (v := r16) hx hb hr hn9 (fun t ht hW => ⟨⟨r16, (joJ, joN), rfl, hw, by rw [ht]; exact hP, va_K.moved hW.alike hK, hD⟩, hS.F ht⟩) hS.2.2 (dt_of tkX9_isAllowed_k80 4 rfl)))
theorem ui_X1_payBack_X1 : ∀ w ∈ u_ws RX1 TX1 4, w ∈ wsX1_payBack := uiM mbX1_payBack euX1 (by decide +kernel)
theorem uw_X1_payBack_f13 : (.fieldLink RX1 13 "MarchHares$Days" "row" "[I" : Cond) ∈ wsX1_payBack := mbX1_payBack 276 (by decide +kernel)
set_option maxHeartbeats 4000000 in
set_option maxRecDepth 100000 in
theorem ck_X1_payBack (l : Launch) (dC : Nat → ClassId) (dI : Nat → Nat → Nat) (cyB cyI cyJ cyP : ClassId) (a0 jch sz : Nat) (jcD ji6 jhx : Value)  (jdE : Nat → Int32) (p1 p2 p3 : Int32) {Q : (Nat → Int32) → Prop} (hw : wq_X1_payBack  jdE p1 p2 p3 Q) : Met l yX1_payBack wsX1_payBack ({ frames := 0, cells := 0, slots := 0, locals := 0 }) (va_Pc [.ref a0, .int p1, .int p2, .int p3] (cPc (dC, dI) (kT cyB cyI cyJ cyP) (wd05_17 a0 jch jcD ji6 jhx jch cyI jdE) sz)) (va_Qv (fun (u : (Nat → Int32)) => Q u) (cB (dC, dI) (kT cyB cyI cyJ cyP) (va_A (wd05_17 a0 jch jcD ji6 jhx jch cyI jdE) sz) (fun u : (Nat → Int32) => ((wd05_17 a0 jch jcD ji6 jhx jch cyI u) : va_W))) (va_A (wd05_17 a0 jch jcD ji6 jhx jch cyI jdE) sz)) 0 0 (va_A (wd05_17 a0 jch jcD ji6 jhx jch cyI jdE) sz) := by
  refine Met.ofW (cc := cX1_payBack) (maxL := 4) (ret := none) (by decide) rfl ?_
  intro p e s m args below meth c s₁ B hml hv
  obtain ⟨rfl, hsz, hP, hK, hD0, hNw⟩ := hv
  have hx := B.exec
  have hb := B.bytes
  have hr := B.returns
  have hts := atoms_spec (ws := wsX1_payBack) B.pre
  have hown : s.vm.findClass RX1 = some m.cls := findClass_of_methodNamed B.named
  have hlocks := B.notSynchronized
  subst hsz
  have hD := hD0.self (sz := s.heap.size)
  generalize hAe : va_A (wd05_17 a0 jch jcD ji6 jhx jch cyI jdE) s.heap.size = A at hD ⊢
  have hA : ∀ q : Nat, s.heap.size ≤ q → A q := fun q h => by rw [← hAe]; exact Or.inr h
  have hS : va_S A s.heap s.heap [] := va_S.rf
  have hP : va_P (dC, dI) vwCl (wd05_17 a0 jch jcD ji6 jhx jch cyI jdE) s.heap := hP
  have hl := lv_entry ([.ref a0, .int p1, .int p2, .int p3]) (n := 4) (Nat.le_of_ble_eq_true rfl)
  rw [lg_entry_eq]
  generalize (lg_sl ([.ref a0, .int p1, .int p2, .int p3]) ++ List.replicate (4 - (lg_sl ([.ref a0, .int p1, .int p2, .int p3])).length) Slot.unset).toArray = ls at hl ⊢
  have hl : lv_has ls 4 [(0, .ref a0), (1, .int p1), (2, .int p2), (3, .int p3)] := hl
  have C0 : cfx p s m _ meth c cX1_payBack none wsX1_payBack RX1 4 A (dC, dI) (kT cyB cyI cyJ cyP) := ⟨hx, hb, hr, hts, hown, hlocks, hml, hA, hK, hNw⟩
  clear hAe
  obtain ⟨H, hH⟩ : ∃ H, H = s.heap := ⟨_, rfl⟩
  rw [← hH] at hP ⊢
  have hS : va_S A s.heap H [] := by rw [hH]; exact va_S.rf
  have hS := hS
  refine lv_aload_n hx hb (dt_of tkX1_payBack_k0 0 rfl) rfl (lv_at hl 0 rfl) ?_
  refine va_get (D := (dC, dI)) (ci := 1) (v := .ref jch) (C := RX1) (T := TX1) (N := 4) hx hb hts ui_X1_payBack_X1 hown hK hP 0 rfl rfl 0 (by decide) (hts _ uw_X1_payBack_f13) (fun _ h9 => h9) rfl (dt_of tkX1_payBack_k0 1 rfl) ?_
  refine lv_bipush (v := 28) hx hb (dt_of tkX1_payBack_k0 2 rfl) (by decide) ?_
  refine lv_iload_n hx hb (dt_of tkX1_payBack_k0 3 rfl) rfl (lv_at hl 1 rfl) ?_
  refine lv_bipush (v := 6) hx hb (dt_of tkX1_payBack_k0 4 rfl) (by decide) ?_
  refine lv_imul hx hb (dt_of tkX1_payBack_k0 5 rfl) ?_
  refine lv_iadd hx hb (dt_of tkX1_payBack_k0 6 rfl) ?_
  refine lv_topi (fun x1 ex1 => ?_)
  have hw := hw x1 ex1
  refine lv_iload_n hx hb (dt_of tkX1_payBack_k0 7 rfl) rfl (lv_at hl 2 rfl) ?_
  refine lv_iadd hx hb (dt_of tkX1_payBack_k0 8 rfl) ?_
  refine lv_topi (fun x2 ex2 => ?_)
  have hw := hw x2 ex2
  refine lv_dup2_11 hx hb (dt_of tkX1_payBack_k0 9 rfl) rfl rfl ?_
  obtain ⟨hi9, hw⟩ := hw
  refine va_iald hx hb hK hP 1 1 rfl rfl hi9 (dt_of tkX1_payBack_k0 10 rfl) ?_
  refine lv_topi (fun x3 ex3 => ?_)
  have hw := hw x3 ex3
  refine lv_iload_n hx hb (dt_of tkX1_payBack_k0 11 rfl) rfl (lv_at hl 3 rfl) ?_
  refine lv_isub hx hb (dt_of tkX1_payBack_k0 12 rfl) ?_
  refine lv_topi (fun x4 ex4 => ?_)
  have hw := hw x4 ex4
  obtain ⟨hi9, hw⟩ := hw
  refine va_iast hx hb hK hP hD hS 1 1 rfl rfl hi9 (dt_of tkX1_payBack_k0 13 rfl) (fun H locs hP hD hS => ?_)
  obtain ⟨f5, ef5⟩ : ∃ y : Nat → Int32, y = upd jdE x2.toNatClampNeg x4 := ⟨_, rfl⟩
  have hw := hw f5 ef5
  have hP : va_P (dC, dI) vwCl (wd05_17 a0 jch jcD ji6 jhx jch cyI f5) H := by rw [ef5]; exact hP
  have hD : va_D A (wd05_17 a0 jch jcD ji6 jhx jch cyI f5) := by rw [ef5]; exact hD
  exact ((W.vret hx hb hr (fun t ht hW => ⟨⟨(f5), rfl, hw, by rw [ht]; exact hP, va_K.moved hW.alike hK, hD⟩, hS.F ht⟩) hS.2.2 (dt_of tkX1_payBack_k0 14 rfl)))
theorem ui_X9_doStep_X9 : ∀ w ∈ u_ws RX9 TX9 12, w ∈ wsX9_doStep := uiM mbX9_doStep euX9 (by decide +kernel)
theorem uw_X9_doStep_f11 : (.fieldLink RX9 11 "MarchHares$Work" "kinds" "[I" : Cond) ∈ wsX9_doStep := mbX9_doStep 266 (by decide +kernel)
theorem uw_X9_doStep_f15 : (.fieldLink RX9 15 "MarchHares$Work" "first" "[I" : Cond) ∈ wsX9_doStep := mbX9_doStep 267 (by decide +kernel)
theorem uw_X9_doStep_f18 : (.fieldLink RX9 18 "MarchHares$Work" "second" "[I" : Cond) ∈ wsX9_doStep := mbX9_doStep 268 (by decide +kernel)
theorem uw_X9_doStep_f21 : (.fieldLink RX9 21 "MarchHares$Work" "third" "[I" : Cond) ∈ wsX9_doStep := mbX9_doStep 269 (by decide +kernel)
set_option maxHeartbeats 4000000 in
set_option maxRecDepth 100000 in
theorem ck_X9_doStep (l : Launch) (dC : Nat → ClassId) (dI : Nat → Nat → Nat) (cyB cyI cyJ cyP : ClassId) (a0 a2 jbU jnP jnX jnU jgC jgh jho sz : Nat) (jme jkw jjf joE ja4 ja0 jaG jaF jnW jpe jo1 jo2 jor jos jot jof jou jog joh : Value) (jdC : Nat → Int32) (jnR joW : Int32) (joG jiX jiF jjg joK : Nat → Int32) (p1 : Int32) {Q : (Nat → Int32) → Prop} (hw : wq_X9_doStep jdC jnR joW joG jiX jiF jjg joK p1 Q) : Met l yX9_doStep wsX9_doStep ({ frames := 5, cells := 0, slots := 0, locals := 107 }) (va_Pc [.ref a0, .int p1, .ref a2] (cPc (dC, dI) (kT cyB cyI cyJ cyP) (wd05_23 a0 jbU jgC jgh jho jme jkw jjf joE ja4 ja0 jaG jaF jbU cyI jdC a2 jnX jnW jnP jpe jnP jo1 jo2 jor jos jot jnU jof jou jog jnR joh joW jnX cyI joK jnU cyI joG jgC cyI jiX jgh cyI jiF jho cyI jjg) sz)) (va_Qv (fun (u : (Nat → Int32)) => Q u) (cB (dC, dI) (kT cyB cyI cyJ cyP) (va_A (wd05_23 a0 jbU jgC jgh jho jme jkw jjf joE ja4 ja0 jaG jaF jbU cyI jdC a2 jnX jnW jnP jpe jnP jo1 jo2 jor jos jot jnU jof jou jog jnR joh joW jnX cyI joK jnU cyI joG jgC cyI jiX jgh cyI jiF jho cyI jjg) sz) (fun u : (Nat → Int32) => ((wd05_23 a0 jbU jgC jgh jho jme jkw jjf joE ja4 ja0 jaG jaF jbU cyI jdC a2 jnX jnW jnP jpe jnP jo1 jo2 jor jos jot jnU jof jou jog jnR joh joW jnX cyI u jnU cyI joG jgC cyI jiX jgh cyI jiF jho cyI jjg) : va_W))) (va_A (wd05_23 a0 jbU jgC jgh jho jme jkw jjf joE ja4 ja0 jaG jaF jbU cyI jdC a2 jnX jnW jnP jpe jnP jo1 jo2 jor jos jot jnU jof jou jog jnR joh joW jnX cyI joK jnU cyI joG jgC cyI jiX jgh cyI jiF jho cyI jjg) sz)) 0 0 (va_A (wd05_23 a0 jbU jgC jgh jho jme jkw jjf joE ja4 ja0 jaG jaF jbU cyI jdC a2 jnX jnW jnP jpe jnP jo1 jo2 jor jos jot jnU jof jou jog jnR joh joW jnX cyI joK jnU cyI joG jgC cyI jiX jgh cyI jiF jho cyI jjg) sz) := by
  refine Met.ofW (cc := cX9_doStep) (maxL := 3) (ret := none) (by decide) rfl ?_
  intro p e s m args below meth c s₁ B hml hv
  obtain ⟨rfl, hsz, hP, hK, hD0, hNw⟩ := hv
  have hx := B.exec
  have hb := B.bytes
  have hr := B.returns
  have hts := atoms_spec (ws := wsX9_doStep) B.pre
  have hown : s.vm.findClass RX9 = some m.cls := findClass_of_methodNamed B.named
  have hlocks := B.notSynchronized
  subst hsz
  have hD := hD0.self (sz := s.heap.size)
  generalize hAe : va_A (wd05_23 a0 jbU jgC jgh jho jme jkw jjf joE ja4 ja0 jaG jaF jbU cyI jdC a2 jnX jnW jnP jpe jnP jo1 jo2 jor jos jot jnU jof jou jog jnR joh joW jnX cyI joK jnU cyI joG jgC cyI jiX jgh cyI jiF jho cyI jjg) s.heap.size = A at hD ⊢
  have hA : ∀ q : Nat, s.heap.size ≤ q → A q := fun q h => by rw [← hAe]; exact Or.inr h
  have hS : va_S A s.heap s.heap [] := va_S.rf
  have hP : va_P (dC, dI) vwCl (wd05_23 a0 jbU jgC jgh jho jme jkw jjf joE ja4 ja0 jaG jaF jbU cyI jdC a2 jnX jnW jnP jpe jnP jo1 jo2 jor jos jot jnU jof jou jog jnR joh joW jnX cyI joK jnU cyI joG jgC cyI jiX jgh cyI jiF jho cyI jjg) s.heap := hP
  have hl := lv_entry ([.ref a0, .int p1, .ref a2]) (n := 3) (Nat.le_of_ble_eq_true rfl)
  rw [lg_entry_eq]
  generalize (lg_sl ([.ref a0, .int p1, .ref a2]) ++ List.replicate (3 - (lg_sl ([.ref a0, .int p1, .ref a2])).length) Slot.unset).toArray = ls at hl ⊢
  have hl : lv_has ls 3 [(0, .ref a0), (1, .int p1), (2, .ref a2)] := hl
  have C0 : cfx p s m _ meth c cX9_doStep none wsX9_doStep RX9 3 A (dC, dI) (kT cyB cyI cyJ cyP) := ⟨hx, hb, hr, hts, hown, hlocks, hml, hA, hK, hNw⟩
  clear hAe
  obtain ⟨H, hH⟩ : ∃ H, H = s.heap := ⟨_, rfl⟩
  rw [← hH] at hP ⊢
  have hS : va_S A s.heap H [] := by rw [hH]; exact va_S.rf
  have hS := hS
  refine lv_aload_n hx hb (dt_of tkX9_doStep_k0 0 rfl) rfl (lv_at hl 0 rfl) ?_
  refine va_get (D := (dC, dI)) (ci := 9) (v := .ref jbU) (C := RX9) (T := TX9) (N := 12) hx hb hts ui_X9_doStep_X9 hown hK hP 0 rfl rfl 0 (by decide) (hts _ uw_X9_doStep_f11) (fun _ h9 => h9) rfl (dt_of tkX9_doStep_k0 1 rfl) ?_
  refine lv_iload_n hx hb (dt_of tkX9_doStep_k0 2 rfl) rfl (lv_at hl 1 rfl) ?_
  obtain ⟨hi9, hw⟩ := hw
  refine va_iald hx hb hK hP 1 1 rfl rfl hi9 (dt_of tkX9_doStep_k0 3 rfl) ?_
  refine lv_topi (fun x1 ex1 => ?_)
  have hw := hw x1 ex1
  by_cases c2 : x1.toInt < 0 ∨ 2 < x1.toInt
  · have hw := hw.1 c2
    refine lv_tableOut (tgt := 95) hx hb dX9_doStep_6 c2 (by decide) ?_
    refine lv_aload_n hx hb (dt_of tkX9_doStep_k84 5 rfl) rfl (lv_at hl 2 rfl) ?_
    obtain ⟨hCc, hPc, hDc, hFc⟩ := va_pick (ws' := (wd05_24 a2 jnX jnW jnP jpe jnP jo1 jo2 jor jos jot jnU jof jou jog jnR joh joW jnX cyI joK jnU cyI joG)) hP hD hS hA [2, 3, 4, 5] (by decide +kernel) rfl
    refine va_callv (va_runV (As := []) (rest := []) ⟨hx, hb, hml, hown, hts⟩ (ck_X1_passDay l dC dI cyB cyI cyJ cyP a2 jnP jnX jnU H.size (jnW) (jpe) (jo1) (jo2) (jor) (jos) (jot) (jof) (jou) (jog) (joh) jnR joW joG joK  hw) (cwV 0 hts gX9_doStep_X1_passDay rfl rfl rfl (by decide +kernel) ⟨Nat.le_of_ble_eq_true rfl, Nat.le_of_ble_eq_true rfl⟩) ⟨cPc_blind, va_recv (q := (RX1, TX1, 4)) hK hPc (ci := 1) (q0 := 0) rfl rfl, cPc_pre hPc hK hDc hNw⟩ rfl rfl hl.1 rfl (lv_room (Nat.le_of_ble_eq_true rfl)) (dt_of tkX9_doStep_k84 6 rfl) ⟨Nat.le_of_ble_eq_true rfl, Nat.le_of_ble_eq_true rfl⟩) hS (fun q _ h => hFc q h) hFc (fun u t H1 locs ht hvm hw hB hz1 hk1 hS => ?_)
    obtain ⟨f3, rfl⟩ : ∃ z, z = u := ⟨_, rfl⟩
    obtain ⟨hP1, hK1, hD1⟩ := hB
    rw [ht] at hP1
    obtain ⟨hP, hD⟩ := va_joinN (wr := (wd05_22 a0 jbU jgC jgh jho jme jkw jjf joE ja4 ja0 jaG jaF jbU cyI jdC jgC cyI jiX jgh cyI jiF jho cyI jjg)) (w1 := (wd05_24 a2 jnX jnW jnP jpe jnP jo1 jo2 jor jos jot jnU jof jou jog jnR joh joW jnX cyI f3 jnU cyI joG)) (wn := (wd05_23 a0 jbU jgC jgh jho jme jkw jjf joE ja4 ja0 jaG jaF jbU cyI jdC a2 jnX jnW jnP jpe jnP jo1 jo2 jor jos jot jnU jof jou jog jnR joh joW jnX cyI f3 jnU cyI joG jgC cyI jiX jgh cyI jiF jho cyI jjg)) hP hD [2, 3, 4, 5] [0, 1, 6, 7, 8] [0, 1, 5, 6, 7, 8, 2, 3, 4] hCc rfl (by decide +kernel) (by decide +kernel) (by decide +kernel) rfl hk1 hFc hP1 hD1
    generalize H1 = H at hP hS ⊢
    exact ((W.vret hx hb hr (fun t ht hW => ⟨⟨(f3), rfl, hw, by rw [ht]; exact hP, va_K.moved hW.alike hK, hD⟩, hS.F ht⟩) hS.2.2 (dt_of tkX9_doStep_k84 7 rfl)))
  · have hw := hw.2
    rcases tsw_0_2 c2 with c2 | c2 | c2
    · have hw := hw.1 c2
      refine lv_tableIn (tgt := 32) (off := 26) hx hb dX9_doStep_6 (by rw [c2]; decide) (by rw [c2]; decide) (by rw [c2]; decide) (by decide) ?_
      refine lv_aload_n hx hb (dt_of tkX9_doStep_k32 0 rfl) rfl (lv_at hl 2 rfl) ?_
      refine lv_aload_n hx hb (dt_of tkX9_doStep_k32 1 rfl) rfl (lv_at hl 0 rfl) ?_
      refine va_get (D := (dC, dI)) (ci := 9) (v := .ref jgC) (C := RX9) (T := TX9) (N := 12) hx hb hts ui_X9_doStep_X9 hown hK hP 0 rfl rfl 1 (by decide) (hts _ uw_X9_doStep_f15) (fun _ h9 => h9) rfl (dt_of tkX9_doStep_k32 2 rfl) ?_
      refine lv_iload_n hx hb (dt_of tkX9_doStep_k32 3 rfl) rfl (lv_at hl 1 rfl) ?_
      obtain ⟨hi9, hw⟩ := hw
      refine va_iald hx hb hK hP 6 1 rfl rfl hi9 (dt_of tkX9_doStep_k32 4 rfl) ?_
      refine lv_topi (fun x4 ex4 => ?_)
      have hw := hw x4 ex4
      refine lv_aload_n hx hb (dt_of tkX9_doStep_k32 5 rfl) rfl (lv_at hl 0 rfl) ?_
      refine va_get (D := (dC, dI)) (ci := 9) (v := .ref jgh) (C := RX9) (T := TX9) (N := 12) hx hb hts ui_X9_doStep_X9 hown hK hP 0 rfl rfl 2 (by decide) (hts _ uw_X9_doStep_f18) (fun _ h9 => h9) rfl (dt_of tkX9_doStep_k32 6 rfl) ?_
      refine lv_iload_n hx hb (dt_of tkX9_doStep_k32 7 rfl) rfl (lv_at hl 1 rfl) ?_
      obtain ⟨hi9, hw⟩ := hw
      refine va_iald hx hb hK hP 7 1 rfl rfl hi9 (dt_of tkX9_doStep_k32 8 rfl) ?_
      refine lv_topi (fun x5 ex5 => ?_)
      have hw := hw x5 ex5
      obtain ⟨hCc, hPc, hDc, hFc⟩ := va_pick (ws' := (wd05_25 a2 jnX jnW jnP jpe jnX cyI joK)) hP hD hS hA [2, 4] (by decide +kernel) rfl
      refine va_callv (va_runV (As := [.int x4, .int x5]) (rest := []) ⟨hx, hb, hml, hown, hts⟩ (ck_X1_leapTo l dC dI cyB cyI cyJ cyP a2 jnX H.size (jnW) (.ref jnP) (jpe)  joK x4 x5 hw) (cwV 2 hts gX9_doStep_X1_leapTo rfl rfl rfl (by decide +kernel) ⟨Nat.le_of_ble_eq_true rfl, Nat.le_of_ble_eq_true rfl⟩) ⟨cPc_blind, va_recv (q := (RX1, TX1, 4)) hK hPc (ci := 1) (q0 := 0) rfl rfl, cPc_pre hPc hK hDc hNw⟩ rfl rfl hl.1 rfl (lv_room (Nat.le_of_ble_eq_true rfl)) (dt_of tkX9_doStep_k32 9 rfl) ⟨Nat.le_of_ble_eq_true rfl, Nat.le_of_ble_eq_true rfl⟩) hS (fun q _ h => hFc q h) hFc (fun u t H1 locs ht hvm hw hB hz1 hk1 hS => ?_)
      obtain ⟨f6, rfl⟩ : ∃ z, z = u := ⟨_, rfl⟩
      obtain ⟨hP1, hK1, hD1⟩ := hB
      rw [ht] at hP1
      obtain ⟨hP, hD⟩ := va_joinN (wr := (wd05_26 a0 jbU jgC jgh jho jme jkw jjf joE ja4 ja0 jaG jaF jbU cyI jdC jnP jo1 jo2 jor jos jot jnU jof jou jog jnR joh joW jnU cyI joG jgC cyI jiX jgh cyI jiF jho cyI jjg)) (w1 := (wd05_25 a2 jnX jnW jnP jpe jnX cyI f6)) (wn := (wd05_23 a0 jbU jgC jgh jho jme jkw jjf joE ja4 ja0 jaG jaF jbU cyI jdC a2 jnX jnW jnP jpe jnP jo1 jo2 jor jos jot jnU jof jou jog jnR joh joW jnX cyI f6 jnU cyI joG jgC cyI jiX jgh cyI jiF jho cyI jjg)) hP hD [2, 4] [0, 1, 3, 5, 6, 7, 8] [0, 1, 7, 2, 8, 3, 4, 5, 6] hCc rfl (by decide +kernel) (by decide +kernel) (by decide +kernel) rfl hk1 hFc hP1 hD1
      generalize H1 = H at hP hS ⊢
      refine lv_goto (tgt := 99) hx hb (dt_of tkX9_doStep_k32 10 rfl) (by decide) ?_
      exact ((W.vret hx hb hr (fun t ht hW => ⟨⟨(f6), rfl, hw, by rw [ht]; exact hP, va_K.moved hW.alike hK, hD⟩, hS.F ht⟩) hS.2.2 (dt_of tkX9_doStep_k84 7 rfl)))
    · have hw := hw.2.1 c2
      refine lv_tableIn (tgt := 51) (off := 45) hx hb dX9_doStep_6 (by rw [c2]; decide) (by rw [c2]; decide) (by rw [c2]; decide) (by decide) ?_
      refine lv_aload_n hx hb (dt_of tkX9_doStep_k32 11 rfl) rfl (lv_at hl 2 rfl) ?_
      refine lv_aload_n hx hb (dt_of tkX9_doStep_k32 12 rfl) rfl (lv_at hl 0 rfl) ?_
      refine va_get (D := (dC, dI)) (ci := 9) (v := .ref jgC) (C := RX9) (T := TX9) (N := 12) hx hb hts ui_X9_doStep_X9 hown hK hP 0 rfl rfl 1 (by decide) (hts _ uw_X9_doStep_f15) (fun _ h9 => h9) rfl (dt_of tkX9_doStep_k32 13 rfl) ?_
      refine lv_iload_n hx hb (dt_of tkX9_doStep_k32 14 rfl) rfl (lv_at hl 1 rfl) ?_
      obtain ⟨hi9, hw⟩ := hw
      refine va_iald hx hb hK hP 6 1 rfl rfl hi9 (dt_of tkX9_doStep_k32 15 rfl) ?_
      refine lv_topi (fun x7 ex7 => ?_)
      have hw := hw x7 ex7
      refine lv_aload_n hx hb (dt_of tkX9_doStep_k58 0 rfl) rfl (lv_at hl 0 rfl) ?_
      refine va_get (D := (dC, dI)) (ci := 9) (v := .ref jgh) (C := RX9) (T := TX9) (N := 12) hx hb hts ui_X9_doStep_X9 hown hK hP 0 rfl rfl 2 (by decide) (hts _ uw_X9_doStep_f18) (fun _ h9 => h9) rfl (dt_of tkX9_doStep_k58 1 rfl) ?_
      refine lv_iload_n hx hb (dt_of tkX9_doStep_k58 2 rfl) rfl (lv_at hl 1 rfl) ?_
      obtain ⟨hi9, hw⟩ := hw
      refine va_iald hx hb hK hP 7 1 rfl rfl hi9 (dt_of tkX9_doStep_k58 3 rfl) ?_
      refine lv_topi (fun x8 ex8 => ?_)
      have hw := hw x8 ex8
      obtain ⟨hCc, hPc, hDc, hFc⟩ := va_pick (ws' := (wd05_25 a2 jnX jnW jnP jpe jnX cyI joK)) hP hD hS hA [2, 4] (by decide +kernel) rfl
      refine va_callv (va_runV (As := [.int x7, .int x8]) (rest := []) ⟨hx, hb, hml, hown, hts⟩ (ck_X1_fight l dC dI cyB cyI cyJ cyP a2 jnX H.size (jnW) (.ref jnP) (jpe)  joK x7 x8 hw) (cwV 2 hts gX9_doStep_X1_fight rfl rfl rfl (by decide +kernel) ⟨Nat.le_of_ble_eq_true rfl, Nat.le_of_ble_eq_true rfl⟩) ⟨cPc_blind, va_recv (q := (RX1, TX1, 4)) hK hPc (ci := 1) (q0 := 0) rfl rfl, cPc_pre hPc hK hDc hNw⟩ rfl rfl hl.1 rfl (lv_room (Nat.le_of_ble_eq_true rfl)) (dt_of tkX9_doStep_k58 4 rfl) ⟨Nat.le_of_ble_eq_true rfl, Nat.le_of_ble_eq_true rfl⟩) hS (fun q _ h => hFc q h) hFc (fun u t H1 locs ht hvm hw hB hz1 hk1 hS => ?_)
      obtain ⟨f9, rfl⟩ : ∃ z, z = u := ⟨_, rfl⟩
      obtain ⟨hP1, hK1, hD1⟩ := hB
      rw [ht] at hP1
      obtain ⟨hP, hD⟩ := va_joinN (wr := (wd05_26 a0 jbU jgC jgh jho jme jkw jjf joE ja4 ja0 jaG jaF jbU cyI jdC jnP jo1 jo2 jor jos jot jnU jof jou jog jnR joh joW jnU cyI joG jgC cyI jiX jgh cyI jiF jho cyI jjg)) (w1 := (wd05_25 a2 jnX jnW jnP jpe jnX cyI f9)) (wn := (wd05_23 a0 jbU jgC jgh jho jme jkw jjf joE ja4 ja0 jaG jaF jbU cyI jdC a2 jnX jnW jnP jpe jnP jo1 jo2 jor jos jot jnU jof jou jog jnR joh joW jnX cyI f9 jnU cyI joG jgC cyI jiX jgh cyI jiF jho cyI jjg)) hP hD [2, 4] [0, 1, 3, 5, 6, 7, 8] [0, 1, 7, 2, 8, 3, 4, 5, 6] hCc rfl (by decide +kernel) (by decide +kernel) (by decide +kernel) rfl hk1 hFc hP1 hD1
      generalize H1 = H at hP hS ⊢
      refine lv_goto (tgt := 99) hx hb (dt_of tkX9_doStep_k58 5 rfl) (by decide) ?_
      exact ((W.vret hx hb hr (fun t ht hW => ⟨⟨(f9), rfl, hw, by rw [ht]; exact hP, va_K.moved hW.alike hK, hD⟩, hS.F ht⟩) hS.2.2 (dt_of tkX9_doStep_k84 7 rfl)))
    · have hw := hw.2.2 c2
      refine lv_tableIn (tgt := 70) (off := 64) hx hb dX9_doStep_6 (by rw [c2]; decide) (by rw [c2]; decide) (by rw [c2]; decide) (by decide) ?_
      refine lv_aload_n hx hb (dt_of tkX9_doStep_k58 6 rfl) rfl (lv_at hl 2 rfl) ?_
      refine lv_aload_n hx hb (dt_of tkX9_doStep_k58 7 rfl) rfl (lv_at hl 0 rfl) ?_
      refine va_get (D := (dC, dI)) (ci := 9) (v := .ref jgC) (C := RX9) (T := TX9) (N := 12) hx hb hts ui_X9_doStep_X9 hown hK hP 0 rfl rfl 1 (by decide) (hts _ uw_X9_doStep_f15) (fun _ h9 => h9) rfl (dt_of tkX9_doStep_k58 8 rfl) ?_
      refine lv_iload_n hx hb (dt_of tkX9_doStep_k58 9 rfl) rfl (lv_at hl 1 rfl) ?_
      obtain ⟨hi9, hw⟩ := hw
      refine va_iald hx hb hK hP 6 1 rfl rfl hi9 (dt_of tkX9_doStep_k58 10 rfl) ?_
      refine lv_topi (fun x10 ex10 => ?_)
      have hw := hw x10 ex10
      refine lv_aload_n hx hb (dt_of tkX9_doStep_k58 11 rfl) rfl (lv_at hl 0 rfl) ?_
      refine va_get (D := (dC, dI)) (ci := 9) (v := .ref jgh) (C := RX9) (T := TX9) (N := 12) hx hb hts ui_X9_doStep_X9 hown hK hP 0 rfl rfl 2 (by decide) (hts _ uw_X9_doStep_f18) (fun _ h9 => h9) rfl (dt_of tkX9_doStep_k58 12 rfl) ?_
      refine lv_iload_n hx hb (dt_of tkX9_doStep_k58 13 rfl) rfl (lv_at hl 1 rfl) ?_
      obtain ⟨hi9, hw⟩ := hw
      refine va_iald hx hb hK hP 7 1 rfl rfl hi9 (dt_of tkX9_doStep_k58 14 rfl) ?_
      refine lv_topi (fun x11 ex11 => ?_)
      have hw := hw x11 ex11
      refine lv_aload_n hx hb (dt_of tkX9_doStep_k58 15 rfl) rfl (lv_at hl 0 rfl) ?_
      refine va_get (D := (dC, dI)) (ci := 9) (v := .ref jho) (C := RX9) (T := TX9) (N := 12) hx hb hts ui_X9_doStep_X9 hown hK hP 0 rfl rfl 3 (by decide) (hts _ uw_X9_doStep_f21) (fun _ h9 => h9) rfl (dt_of tkX9_doStep_k84 0 rfl) ?_
      refine lv_iload_n hx hb (dt_of tkX9_doStep_k84 1 rfl) rfl (lv_at hl 1 rfl) ?_
      obtain ⟨hi9, hw⟩ := hw
      refine va_iald hx hb hK hP 8 1 rfl rfl hi9 (dt_of tkX9_doStep_k84 2 rfl) ?_
      refine lv_topi (fun x12 ex12 => ?_)
      have hw := hw x12 ex12
      obtain ⟨hCc, hPc, hDc, hFc⟩ := va_pick (ws' := (wd05_25 a2 jnX jnW jnP jpe jnX cyI joK)) hP hD hS hA [2, 4] (by decide +kernel) rfl
      refine va_callv (va_runV (As := [.int x10, .int x11, .int x12]) (rest := []) ⟨hx, hb, hml, hown, hts⟩ (ck_X1_payBack l dC dI cyB cyI cyJ cyP a2 jnX H.size (jnW) (.ref jnP) (jpe)  joK x10 x11 x12 hw) (cwV 3 hts gX9_doStep_X1_payBack rfl rfl rfl (by decide +kernel) ⟨Nat.le_of_ble_eq_true rfl, Nat.le_of_ble_eq_true rfl⟩) ⟨cPc_blind, va_recv (q := (RX1, TX1, 4)) hK hPc (ci := 1) (q0 := 0) rfl rfl, cPc_pre hPc hK hDc hNw⟩ rfl rfl hl.1 rfl (lv_room (Nat.le_of_ble_eq_true rfl)) (dt_of tkX9_doStep_k84 3 rfl) ⟨Nat.le_of_ble_eq_true rfl, Nat.le_of_ble_eq_true rfl⟩) hS (fun q _ h => hFc q h) hFc (fun u t H1 locs ht hvm hw hB hz1 hk1 hS => ?_)
      obtain ⟨f13, rfl⟩ : ∃ z, z = u := ⟨_, rfl⟩
      obtain ⟨hP1, hK1, hD1⟩ := hB
      rw [ht] at hP1
      obtain ⟨hP, hD⟩ := va_joinN (wr := (wd05_26 a0 jbU jgC jgh jho jme jkw jjf joE ja4 ja0 jaG jaF jbU cyI jdC jnP jo1 jo2 jor jos jot jnU jof jou jog jnR joh joW jnU cyI joG jgC cyI jiX jgh cyI jiF jho cyI jjg)) (w1 := (wd05_25 a2 jnX jnW jnP jpe jnX cyI f13)) (wn := (wd05_23 a0 jbU jgC jgh jho jme jkw jjf joE ja4 ja0 jaG jaF jbU cyI jdC a2 jnX jnW jnP jpe jnP jo1 jo2 jor jos jot jnU jof jou jog jnR joh joW jnX cyI f13 jnU cyI joG jgC cyI jiX jgh cyI jiF jho cyI jjg)) hP hD [2, 4] [0, 1, 3, 5, 6, 7, 8] [0, 1, 7, 2, 8, 3, 4, 5, 6] hCc rfl (by decide +kernel) (by decide +kernel) (by decide +kernel) rfl hk1 hFc hP1 hD1
      generalize H1 = H at hP hS ⊢
      refine lv_goto (tgt := 99) hx hb (dt_of tkX9_doStep_k84 4 rfl) (by decide) ?_
      exact ((W.vret hx hb hr (fun t ht hW => ⟨⟨(f13), rfl, hw, by rw [ht]; exact hP, va_K.moved hW.alike hK, hD⟩, hS.F ht⟩) hS.2.2 (dt_of tkX9_doStep_k84 7 rfl)))
theorem ui_X9_runOn_X9 : ∀ w ∈ u_ws RX9 TX9 12, w ∈ wsX9_runOn := uiM mbX9_runOn euX9 (by decide +kernel)
theorem uw_X9_runOn_f102 : (.fieldLink RX9 102 "MarchHares$Work" "refused" "I" : Cond) ∈ wsX9_runOn := mbX9_runOn 1684 (by decide +kernel)
theorem uw_X9_runOn_f11 : (.fieldLink RX9 11 "MarchHares$Work" "kinds" "[I" : Cond) ∈ wsX9_runOn := mbX9_runOn 266 (by decide +kernel)
theorem uw_X9_runOn_f37 : (.fieldLink RX9 37 "MarchHares$Work" "length" "I" : Cond) ∈ wsX9_runOn := mbX9_runOn 1606 (by decide +kernel)
theorem uw_X9_runOn_f40 : (.fieldLink RX9 40 "MarchHares$Work" "open" "I" : Cond) ∈ wsX9_runOn := mbX9_runOn 1607 (by decide +kernel)
theorem uw_X9_runOn_f99 : (.fieldLink RX9 99 "MarchHares$Work" "done" "I" : Cond) ∈ wsX9_runOn := mbX9_runOn 1683 (by decide +kernel)
set_option maxHeartbeats 4000000 in
set_option maxRecDepth 100000 in
theorem kb_X9_runOn_127 {p : Program} {l : Launch} {e : Env} {s : State} {m : MethodId} {args : Array Value} {below : List Frame} {meth : Method} {c : Code} {A : Nat → Prop} (dC : Nat → ClassId) (dI : Nat → Nat → Nat) (cyB cyI cyJ cyP : ClassId) (a0 a1 jbU jjO jgC jgh jjN jjs jjt jlL jjL jj7 jjM jjw jho jlt jlw : Nat) (jme ja4 ja0 jjP jky jkz jkA jkd jkB jna jke : Value) (jb7 : Int32) (jdC jiX jiF : Nat → Int32) (jh5 jkF : Int32) (jkl jkm : Nat → Int32) (jka : Int32) (jkx jkb jjg jl5 : Nat → Int32) (Q : Int32 → Int32 → Int32 → (Nat → Int32) → (Nat → Int32) → (Nat → Int32) → (Nat → Int32) → Prop) (K22 : Int32 → Int32 → Int32 → (Nat → Int32) → (Nat → Int32) → (Nat → Int32) → (Nat → Int32) → Int32 → Int32 → Int32 → Prop) (hK22 : ∀ (H : Heap) (locs : List Loc) (ls : Array Slot) (jiW jmI jjF : Int32) (jkt jkS jkO jmk : Nat → Int32) (l2 l3 l4 : Int32), va_P (dC, dI) vwCl (wd05_27 a0 jbU jgC jgh jho jme jlw jb7 jjF ja4 ja0 jiW jmI jbU cyI jdC a1 jjO jjP jjN jlL jjO cyI jkO jgC cyI jiX jgh cyI jiF jjN jjs jjt jky jkz jkA jlt jkd jkB jna jh5 jke jkF jjs cyI jkl jjt cyI jkm jlL jjM jjw jj7 jjL jka jjL cyI jkt jj7 cyI jkS jjM cyI jkx jjw cyI jkb jho cyI jjg jlt cyI jl5 jlw cyI jmk) H → va_D A (wd05_27 a0 jbU jgC jgh jho jme jlw jb7 jjF ja4 ja0 jiW jmI jbU cyI jdC a1 jjO jjP jjN jlL jjO cyI jkO jgC cyI jiX jgh cyI jiF jjN jjs jjt jky jkz jkA jlt jkd jkB jna jh5 jke jkF jjs cyI jkl jjt cyI jkm jlL jjM jjw jj7 jjL jka jjL cyI jkt jj7 cyI jkS jjM cyI jkx jjw cyI jkb jho cyI jjg jlt cyI jl5 jlw cyI jmk) → va_S A s.heap H locs → lv_has ls 5 [(0, .ref a0), (1, .ref a1), (2, .int l2), (3, .int l3), (4, .int l4)] → K22 jiW jmI jjF jkt jkS jkO jmk l2 l3 l4 → W p l e (headSpec wsX9_runOn ({ frames := 6, cells := 0, slots := 0, locals := 129 })).room s m args below meth c H locs 0 0 (MQ below (va_Qv (fun (u : Int32 × Int32 × Int32 × (Nat → Int32) × (Nat → Int32) × (Nat → Int32) × (Nat → Int32)) => Q u.1 u.2.1 u.2.2.1 u.2.2.2.1 u.2.2.2.2.1 u.2.2.2.2.2.1 u.2.2.2.2.2.2) (cB (dC, dI) (kT cyB cyI cyJ cyP) A (fun u : Int32 × Int32 × Int32 × (Nat → Int32) × (Nat → Int32) × (Nat → Int32) × (Nat → Int32) => ((wd05_27 a0 jbU jgC jgh jho jme jlw jb7 u.2.2.1 ja4 ja0 u.1 u.2.1 jbU cyI jdC a1 jjO jjP jjN jlL jjO cyI u.2.2.2.2.2.1 jgC cyI jiX jgh cyI jiF jjN jjs jjt jky jkz jkA jlt jkd jkB jna jh5 jke jkF jjs cyI jkl jjt cyI jkm jlL jjM jjw jj7 jjL jka jjL cyI u.2.2.2.1 jj7 cyI u.2.2.2.2.1 jjM cyI jkx jjw cyI jkb jho cyI jjg jlt cyI jl5 jlw cyI u.2.2.2.2.2.2) : va_W))) A) args s 0 0 A) (F0 m 22 ls [])) (C0 : cfx p s m args meth c cX9_runOn none wsX9_runOn RX9 5 A (dC, dI) (kT cyB cyI cyJ cyP)) : ∀ (H : Heap) (locs : List Loc) (ls : Array Slot) (jiW jmI jjF : Int32) (jkt jkS jkO jmk : Nat → Int32) (l2 l3 l4 : Int32), va_P (dC, dI) vwCl (wd05_27 a0 jbU jgC jgh jho jme jlw jb7 jjF ja4 ja0 jiW jmI jbU cyI jdC a1 jjO jjP jjN jlL jjO cyI jkO jgC cyI jiX jgh cyI jiF jjN jjs jjt jky jkz jkA jlt jkd jkB jna jh5 jke jkF jjs cyI jkl jjt cyI jkm jlL jjM jjw jj7 jjL jka jjL cyI jkt jj7 cyI jkS jjM cyI jkx jjw cyI jkb jho cyI jjg jlt cyI jl5 jlw cyI jmk) H → va_D A (wd05_27 a0 jbU jgC jgh jho jme jlw jb7 jjF ja4 ja0 jiW jmI jbU cyI jdC a1 jjO jjP jjN jlL jjO cyI jkO jgC cyI jiX jgh cyI jiF jjN jjs jjt jky jkz jkA jlt jkd jkB jna jh5 jke jkF jjs cyI jkl jjt cyI jkm jlL jjM jjw jj7 jjL jka jjL cyI jkt jj7 cyI jkS jjM cyI jkx jjw cyI jkb jho cyI jjg jlt cyI jl5 jlw cyI jmk) → va_S A s.heap H locs → lv_has ls 5 [(0, .ref a0), (1, .ref a1), (2, .int l2), (3, .int l3), (4, .int l4)] → wb_X9_runOn_127 jb7 jdC jiX jiF jh5 jkF jkl jkm jka jkx jkb jjg jl5 Q K22 jiW jmI jjF jkt jkS jkO jmk l2 l3 l4 → W p l e (headSpec wsX9_runOn ({ frames := 6, cells := 0, slots := 0, locals := 129 })).room s m args below meth c H locs 0 0 (MQ below (va_Qv (fun (u : Int32 × Int32 × Int32 × (Nat → Int32) × (Nat → Int32) × (Nat → Int32) × (Nat → Int32)) => Q u.1 u.2.1 u.2.2.1 u.2.2.2.1 u.2.2.2.2.1 u.2.2.2.2.2.1 u.2.2.2.2.2.2) (cB (dC, dI) (kT cyB cyI cyJ cyP) A (fun u : Int32 × Int32 × Int32 × (Nat → Int32) × (Nat → Int32) × (Nat → Int32) × (Nat → Int32) => ((wd05_27 a0 jbU jgC jgh jho jme jlw jb7 u.2.2.1 ja4 ja0 u.1 u.2.1 jbU cyI jdC a1 jjO jjP jjN jlL jjO cyI u.2.2.2.2.2.1 jgC cyI jiX jgh cyI jiF jjN jjs jjt jky jkz jkA jlt jkd jkB jna jh5 jke jkF jjs cyI jkl jjt cyI jkm jlL jjM jjw jj7 jjL jka jjL cyI u.2.2.2.1 jj7 cyI u.2.2.2.2.1 jjM cyI jkx jjw cyI jkb jho cyI jjg jlt cyI jl5 jlw cyI u.2.2.2.2.2.2) : va_W))) A) args s 0 0 A) (F0 m 127 ls []) := by
  obtain ⟨hx, hb, hr, hts, hown, hlocks, hml, hA, hK, hNw⟩ := id C0
  intro H locs ls jiW jmI jjF jkt jkS jkO jmk l2 l3 l4 hP hD hS hl hw
  obtain ⟨x23, ex23⟩ : ∃ y : Int32, y = l4 + 1 := ⟨_, rfl⟩
  have hw := hw x23 ex23
  refine lv_iinc (v := x23) (lv' := [(4, .int x23), (0, .ref a0), (1, .ref a1), (2, .int l2), (3, .int l3)]) hx hb (dt_of tkX9_runOn_k114 7 rfl) hl (k := 4) rfl (by rw [ex23]; rfl) (by decide) rfl (fun ls hl => ?_)
  refine lv_goto (tgt := 22) hx hb (dt_of tkX9_runOn_k114 8 rfl) (by decide) ?_
  exact hK22 _ _ _ jiW jmI jjF jkt jkS jkO jmk l2 l3 x23 hP hD hS (lv_sub hl [1, 2, 3, 4, 0] rfl) hw
set_option maxHeartbeats 4000000 in
set_option maxRecDepth 100000 in
theorem kb_X9_runOn_124 {p : Program} {l : Launch} {e : Env} {s : State} {m : MethodId} {args : Array Value} {below : List Frame} {meth : Method} {c : Code} {A : Nat → Prop} (dC : Nat → ClassId) (dI : Nat → Nat → Nat) (cyB cyI cyJ cyP : ClassId) (a0 a1 jbU jjO jgC jgh jjN jjs jjt jlL jjL jj7 jjM jjw jho jlt jlw : Nat) (jme ja4 ja0 jjP jky jkz jkA jkd jkB jna jke : Value) (jb7 : Int32) (jdC jiX jiF : Nat → Int32) (jh5 jkF : Int32) (jkl jkm : Nat → Int32) (jka : Int32) (jkx jkb jjg jl5 : Nat → Int32) (Q : Int32 → Int32 → Int32 → (Nat → Int32) → (Nat → Int32) → (Nat → Int32) → (Nat → Int32) → Prop) (K22 : Int32 → Int32 → Int32 → (Nat → Int32) → (Nat → Int32) → (Nat → Int32) → (Nat → Int32) → Int32 → Int32 → Int32 → Prop) (hK22 : ∀ (H : Heap) (locs : List Loc) (ls : Array Slot) (jiW jmI jjF : Int32) (jkt jkS jkO jmk : Nat → Int32) (l2 l3 l4 : Int32), va_P (dC, dI) vwCl (wd05_27 a0 jbU jgC jgh jho jme jlw jb7 jjF ja4 ja0 jiW jmI jbU cyI jdC a1 jjO jjP jjN jlL jjO cyI jkO jgC cyI jiX jgh cyI jiF jjN jjs jjt jky jkz jkA jlt jkd jkB jna jh5 jke jkF jjs cyI jkl jjt cyI jkm jlL jjM jjw jj7 jjL jka jjL cyI jkt jj7 cyI jkS jjM cyI jkx jjw cyI jkb jho cyI jjg jlt cyI jl5 jlw cyI jmk) H → va_D A (wd05_27 a0 jbU jgC jgh jho jme jlw jb7 jjF ja4 ja0 jiW jmI jbU cyI jdC a1 jjO jjP jjN jlL jjO cyI jkO jgC cyI jiX jgh cyI jiF jjN jjs jjt jky jkz jkA jlt jkd jkB jna jh5 jke jkF jjs cyI jkl jjt cyI jkm jlL jjM jjw jj7 jjL jka jjL cyI jkt jj7 cyI jkS jjM cyI jkx jjw cyI jkb jho cyI jjg jlt cyI jl5 jlw cyI jmk) → va_S A s.heap H locs → lv_has ls 5 [(0, .ref a0), (1, .ref a1), (2, .int l2), (3, .int l3), (4, .int l4)] → K22 jiW jmI jjF jkt jkS jkO jmk l2 l3 l4 → W p l e (headSpec wsX9_runOn ({ frames := 6, cells := 0, slots := 0, locals := 129 })).room s m args below meth c H locs 0 0 (MQ below (va_Qv (fun (u : Int32 × Int32 × Int32 × (Nat → Int32) × (Nat → Int32) × (Nat → Int32) × (Nat → Int32)) => Q u.1 u.2.1 u.2.2.1 u.2.2.2.1 u.2.2.2.2.1 u.2.2.2.2.2.1 u.2.2.2.2.2.2) (cB (dC, dI) (kT cyB cyI cyJ cyP) A (fun u : Int32 × Int32 × Int32 × (Nat → Int32) × (Nat → Int32) × (Nat → Int32) × (Nat → Int32) => ((wd05_27 a0 jbU jgC jgh jho jme jlw jb7 u.2.2.1 ja4 ja0 u.1 u.2.1 jbU cyI jdC a1 jjO jjP jjN jlL jjO cyI u.2.2.2.2.2.1 jgC cyI jiX jgh cyI jiF jjN jjs jjt jky jkz jkA jlt jkd jkB jna jh5 jke jkF jjs cyI jkl jjt cyI jkm jlL jjM jjw jj7 jjL jka jjL cyI u.2.2.2.1 jj7 cyI u.2.2.2.2.1 jjM cyI jkx jjw cyI jkb jho cyI jjg jlt cyI jl5 jlw cyI u.2.2.2.2.2.2) : va_W))) A) args s 0 0 A) (F0 m 22 ls [])) (C0 : cfx p s m args meth c cX9_runOn none wsX9_runOn RX9 5 A (dC, dI) (kT cyB cyI cyJ cyP)) : ∀ (H : Heap) (locs : List Loc) (ls : Array Slot) (jiW jmI jjF : Int32) (jkt jkS jkO jmk : Nat → Int32) (l2 l3 l4 : Int32), va_P (dC, dI) vwCl (wd05_27 a0 jbU jgC jgh jho jme jlw jb7 jjF ja4 ja0 jiW jmI jbU cyI jdC a1 jjO jjP jjN jlL jjO cyI jkO jgC cyI jiX jgh cyI jiF jjN jjs jjt jky jkz jkA jlt jkd jkB jna jh5 jke jkF jjs cyI jkl jjt cyI jkm jlL jjM jjw jj7 jjL jka jjL cyI jkt jj7 cyI jkS jjM cyI jkx jjw cyI jkb jho cyI jjg jlt cyI jl5 jlw cyI jmk) H → va_D A (wd05_27 a0 jbU jgC jgh jho jme jlw jb7 jjF ja4 ja0 jiW jmI jbU cyI jdC a1 jjO jjP jjN jlL jjO cyI jkO jgC cyI jiX jgh cyI jiF jjN jjs jjt jky jkz jkA jlt jkd jkB jna jh5 jke jkF jjs cyI jkl jjt cyI jkm jlL jjM jjw jj7 jjL jka jjL cyI jkt jj7 cyI jkS jjM cyI jkx jjw cyI jkb jho cyI jjg jlt cyI jl5 jlw cyI jmk) → va_S A s.heap H locs → lv_has ls 5 [(0, .ref a0), (1, .ref a1), (2, .int l2), (3, .int l3), (4, .int l4)] → wb_X9_runOn_124 jb7 jdC jiX jiF jh5 jkF jkl jkm jka jkx jkb jjg jl5 Q K22 jiW jmI jjF jkt jkS jkO jmk l2 l3 l4 → W p l e (headSpec wsX9_runOn ({ frames := 6, cells := 0, slots := 0, locals := 129 })).room s m args below meth c H locs 0 0 (MQ below (va_Qv (fun (u : Int32 × Int32 × Int32 × (Nat → Int32) × (Nat → Int32) × (Nat → Int32) × (Nat → Int32)) => Q u.1 u.2.1 u.2.2.1 u.2.2.2.1 u.2.2.2.2.1 u.2.2.2.2.2.1 u.2.2.2.2.2.2) (cB (dC, dI) (kT cyB cyI cyJ cyP) A (fun u : Int32 × Int32 × Int32 × (Nat → Int32) × (Nat → Int32) × (Nat → Int32) × (Nat → Int32) => ((wd05_27 a0 jbU jgC jgh jho jme jlw jb7 u.2.2.1 ja4 ja0 u.1 u.2.1 jbU cyI jdC a1 jjO jjP jjN jlL jjO cyI u.2.2.2.2.2.1 jgC cyI jiX jgh cyI jiF jjN jjs jjt jky jkz jkA jlt jkd jkB jna jh5 jke jkF jjs cyI jkl jjt cyI jkm jlL jjM jjw jj7 jjL jka jjL cyI u.2.2.2.1 jj7 cyI u.2.2.2.2.1 jjM cyI jkx jjw cyI jkb jho cyI jjg jlt cyI jl5 jlw cyI u.2.2.2.2.2.2) : va_W))) A) args s 0 0 A) (F0 m 124 ls []) := by
  obtain ⟨hx, hb, hr, hts, hown, hlocks, hml, hA, hK, hNw⟩ := id C0
  intro H locs ls jiW jmI jjF jkt jkS jkO jmk l2 l3 l4 hP hD hS hl hw
  obtain ⟨x22, ex22⟩ : ∃ y : Int32, y = l3 + 1 := ⟨_, rfl⟩
  have hw := hw x22 ex22
  refine lv_iinc (v := x22) (lv' := [(3, .int x22), (0, .ref a0), (1, .ref a1), (2, .int l2), (4, .int l4)]) hx hb (dt_of tkX9_runOn_k114 6 rfl) hl (k := 3) rfl (by rw [ex22]; rfl) (by decide) rfl (fun ls hl => ?_)
  exact kb_X9_runOn_127 dC dI cyB cyI cyJ cyP a0 a1 jbU jjO jgC jgh jjN jjs jjt jlL jjL jj7 jjM jjw jho jlt jlw jme ja4 ja0 jjP jky jkz jkA jkd jkB jna jke jb7 jdC jiX jiF jh5 jkF jkl jkm jka jkx jkb jjg jl5 Q K22 hK22 C0 _ _ _ jiW jmI jjF jkt jkS jkO jmk l2 x22 l4 hP hD hS (lv_sub hl [1, 2, 3, 0, 4] rfl) hw
set_option maxHeartbeats 4000000 in
set_option maxRecDepth 100000 in
theorem kl_X9_runOn_22 {p : Program} {l : Launch} {e : Env} {s : State} {m : MethodId} {args : Array Value} {below : List Frame} {meth : Method} {c : Code} {A : Nat → Prop} (dC : Nat → ClassId) (dI : Nat → Nat → Nat) (cyB cyI cyJ cyP : ClassId) (a0 a1 jbU jjO jgC jgh jjN jjs jjt jlL jjL jj7 jjM jjw jho jlt jlw : Nat) (jme ja4 ja0 jjP jky jkz jkA jkd jkB jna jke : Value) (jb7 : Int32) (jdC jiX jiF : Nat → Int32) (jh5 jkF : Int32) (jkl jkm : Nat → Int32) (jka : Int32) (jkx jkb jjg jl5 : Nat → Int32) (Q : Int32 → Int32 → Int32 → (Nat → Int32) → (Nat → Int32) → (Nat → Int32) → (Nat → Int32) → Prop)  (C0 : cfx p s m args meth c cX9_runOn none wsX9_runOn RX9 5 A (dC, dI) (kT cyB cyI cyJ cyP)) : ∀ (n : Nat) (H : Heap) (locs : List Loc) (ls : Array Slot) (jiW jmI jjF : Int32) (jkt jkS jkO jmk : Nat → Int32) (l2 l3 l4 : Int32), va_P (dC, dI) vwCl (wd05_27 a0 jbU jgC jgh jho jme jlw jb7 jjF ja4 ja0 jiW jmI jbU cyI jdC a1 jjO jjP jjN jlL jjO cyI jkO jgC cyI jiX jgh cyI jiF jjN jjs jjt jky jkz jkA jlt jkd jkB jna jh5 jke jkF jjs cyI jkl jjt cyI jkm jlL jjM jjw jj7 jjL jka jjL cyI jkt jj7 cyI jkS jjM cyI jkx jjw cyI jkb jho cyI jjg jlt cyI jl5 jlw cyI jmk) H → va_D A (wd05_27 a0 jbU jgC jgh jho jme jlw jb7 jjF ja4 ja0 jiW jmI jbU cyI jdC a1 jjO jjP jjN jlL jjO cyI jkO jgC cyI jiX jgh cyI jiF jjN jjs jjt jky jkz jkA jlt jkd jkB jna jh5 jke jkF jjs cyI jkl jjt cyI jkm jlL jjM jjw jj7 jjL jka jjL cyI jkt jj7 cyI jkS jjM cyI jkx jjw cyI jkb jho cyI jjg jlt cyI jl5 jlw cyI jmk) → va_S A s.heap H locs → lv_has ls 5 [(0, .ref a0), (1, .ref a1), (2, .int l2), (3, .int l3), (4, .int l4)] → wl_X9_runOn_22 jb7 jdC jiX jiF jh5 jkF jkl jkm jka jkx jkb jjg jl5 Q  n jiW jmI jjF jkt jkS jkO jmk l2 l3 l4 → W p l e (headSpec wsX9_runOn ({ frames := 6, cells := 0, slots := 0, locals := 129 })).room s m args below meth c H locs 0 0 (MQ below (va_Qv (fun (u : Int32 × Int32 × Int32 × (Nat → Int32) × (Nat → Int32) × (Nat → Int32) × (Nat → Int32)) => Q u.1 u.2.1 u.2.2.1 u.2.2.2.1 u.2.2.2.2.1 u.2.2.2.2.2.1 u.2.2.2.2.2.2) (cB (dC, dI) (kT cyB cyI cyJ cyP) A (fun u : Int32 × Int32 × Int32 × (Nat → Int32) × (Nat → Int32) × (Nat → Int32) × (Nat → Int32) => ((wd05_27 a0 jbU jgC jgh jho jme jlw jb7 u.2.2.1 ja4 ja0 u.1 u.2.1 jbU cyI jdC a1 jjO jjP jjN jlL jjO cyI u.2.2.2.2.2.1 jgC cyI jiX jgh cyI jiF jjN jjs jjt jky jkz jkA jlt jkd jkB jna jh5 jke jkF jjs cyI jkl jjt cyI jkm jlL jjM jjw jj7 jjL jka jjL cyI u.2.2.2.1 jj7 cyI u.2.2.2.2.1 jjM cyI jkx jjw cyI jkb jho cyI jjg jlt cyI jl5 jlw cyI u.2.2.2.2.2.2) : va_W))) A) args s 0 0 A) (F0 m 22 ls []) := by
  obtain ⟨hx, hb, hr, hts, hown, hlocks, hml, hA, hK, hNw⟩ := id C0
  intro n
  induction n with
  | zero => intro H locs ls jiW jmI jjF jkt jkS jkO jmk l2 l3 l4 hP hD hS hl hw; exact False.elim hw
  | succ n ih =>
    intro H locs ls jiW jmI jjF jkt jkS jkO jmk l2 l3 l4 hP hD hS hl hw
    refine lv_iload hx hb (dt_of tkX9_runOn_k0 15 rfl) (lv_at hl 4 rfl) ?_
    refine lv_sipush (v := 20000) hx hb (dt_of tkX9_runOn_k24 0 rfl) (by decide) ?_
    refine lv_icmp_ge (tgt := 133) hx hb (dt_of tkX9_runOn_k24 1 rfl) (by decide) (fun c1 => ?_) (fun c1 => ?_)
    · have hw := hw.1 c1
      exact ((W.vret hx hb hr (fun t ht hW => ⟨⟨(jiW, jmI, jjF, jkt, jkS, jkO, jmk), rfl, hw, by rw [ht]; exact hP, va_K.moved hW.alike hK, hD⟩, hS.F ht⟩) hS.2.2 (dt_of tkX9_runOn_k114 9 rfl)))
    · have hw := hw.2 c1
      refine lv_iload_n hx hb (dt_of tkX9_runOn_k24 2 rfl) rfl (lv_at hl 2 rfl) ?_
      refine lv_sipush (v := 200) hx hb (dt_of tkX9_runOn_k24 3 rfl) (by decide) ?_
      refine lv_icmp_ge (tgt := 133) hx hb (dt_of tkX9_runOn_k24 4 rfl) (by decide) (fun c2 => ?_) (fun c2 => ?_)
      · have hw := hw.1 c2
        exact ((W.vret hx hb hr (fun t ht hW => ⟨⟨(jiW, jmI, jjF, jkt, jkS, jkO, jmk), rfl, hw, by rw [ht]; exact hP, va_K.moved hW.alike hK, hD⟩, hS.F ht⟩) hS.2.2 (dt_of tkX9_runOn_k114 9 rfl)))
      · have hw := hw.2 c2
        refine lv_iload_n hx hb (dt_of tkX9_runOn_k24 5 rfl) rfl (lv_at hl 3 rfl) ?_
        refine lv_aload_n hx hb (dt_of tkX9_runOn_k24 6 rfl) rfl (lv_at hl 0 rfl) ?_
        refine va_get (D := (dC, dI)) (ci := 9) (v := .int jb7) (C := RX9) (T := TX9) (N := 12) hx hb hts ui_X9_runOn_X9 hown hK hP 0 rfl rfl 6 (by decide) (hts _ uw_X9_runOn_f37) (fun _ h9 => h9) rfl (dt_of tkX9_runOn_k24 7 rfl) ?_
        refine lv_icmp_ge (tgt := 133) hx hb (dt_of tkX9_runOn_k24 8 rfl) (by decide) (fun c3 => ?_) (fun c3 => ?_)
        · have hw := hw.1 c3
          exact ((W.vret hx hb hr (fun t ht hW => ⟨⟨(jiW, jmI, jjF, jkt, jkS, jkO, jmk), rfl, hw, by rw [ht]; exact hP, va_K.moved hW.alike hK, hD⟩, hS.F ht⟩) hS.2.2 (dt_of tkX9_runOn_k114 9 rfl)))
        · have hw := hw.2 c3
          refine lv_aload_n hx hb (dt_of tkX9_runOn_k24 9 rfl) rfl (lv_at hl 0 rfl) ?_
          refine va_get (D := (dC, dI)) (ci := 9) (v := .ref jbU) (C := RX9) (T := TX9) (N := 12) hx hb hts ui_X9_runOn_X9 hown hK hP 0 rfl rfl 0 (by decide) (hts _ uw_X9_runOn_f11) (fun _ h9 => h9) rfl (dt_of tkX9_runOn_k24 10 rfl) ?_
          refine lv_iload_n hx hb (dt_of tkX9_runOn_k24 11 rfl) rfl (lv_at hl 3 rfl) ?_
          obtain ⟨hi9, hw⟩ := hw
          refine va_iald hx hb hK hP 1 1 rfl rfl hi9 (dt_of tkX9_runOn_k24 12 rfl) ?_
          refine lv_topi (fun x4 ex4 => ?_)
          have hw := hw x4 ex4
          refine lv_iconst (v := 5) hx hb (dt_of tkX9_runOn_k24 13 rfl) (by decide) ?_
          refine lv_icmp_ne (tgt := 64) hx hb (dt_of tkX9_runOn_k24 14 rfl) (by decide) (fun c5 => ?_) (fun c5 => ?_)
          · have hw := hw.1 c5
            obtain ⟨x6, ex6⟩ : ∃ y : Int32, y = l2 + 1 := ⟨_, rfl⟩
            have hw := hw x6 ex6
            refine lv_iinc (v := x6) (lv' := [(2, .int x6), (0, .ref a0), (1, .ref a1), (3, .int l3), (4, .int l4)]) hx hb (dt_of tkX9_runOn_k56 4 rfl) hl (k := 2) rfl (by rw [ex6]; rfl) (by decide) rfl (fun ls hl => ?_)
            refine lv_aload_n hx hb (dt_of tkX9_runOn_k56 5 rfl) rfl (lv_at hl 1 rfl) ?_
            refine va_get (D := (dC, dI)) (ci := 9) (v := .ref jbU) (C := RX9) (T := TX9) (N := 12) hx hb hts ui_X9_runOn_X9 hown hK hP 0 rfl rfl 0 (by decide) (hts _ uw_X9_runOn_f11) (fun _ h9 => h9) rfl (dt_of tkX9_runOn_k56 6 rfl) ?_
            refine lv_iload_n hx hb (dt_of tkX9_runOn_k56 7 rfl) rfl (lv_at hl 3 rfl) ?_
            obtain ⟨hi9, hw⟩ := hw
            refine va_iald hx hb hK hP 1 1 rfl rfl hi9 (dt_of tkX9_runOn_k56 8 rfl) ?_
            refine lv_topi (fun x7 ex7 => ?_)
            have hw := hw x7 ex7
            refine lv_iconst (v := 4) hx hb (dt_of tkX9_runOn_k56 9 rfl) (by decide) ?_
            refine lv_icmp_ne (tgt := 86) hx hb (dt_of tkX9_runOn_k56 10 rfl) (by decide) (fun c8 => ?_) (fun c8 => ?_)
            · have hw := hw.1 c8
              refine lv_aload_n hx hb (dt_of tkX9_runOn_k86 0 rfl) rfl (lv_at hl 1 rfl) ?_
              refine lv_iload_n hx hb (dt_of tkX9_runOn_k86 1 rfl) rfl (lv_at hl 3 rfl) ?_
              refine lv_aload_n hx hb (dt_of tkX9_runOn_k86 2 rfl) rfl (lv_at hl 2 rfl) ?_
              obtain ⟨hCc, hPc, hDc, hFc⟩ := va_pick (ws' := (wd05_28 a0 jbU jgC jgh jho jme jlw jb7 jjF ja4 ja0 jiW jmI jbU cyI jdC a1 jjO jjP jjN jlL jjO cyI jkO jgC cyI jiX jgh cyI jiF jjN jjs jjt jky jkz jkA jlt jkd jkB jna jh5 jke jkF jjs cyI jkl jjt cyI jkm jlL jjM jjw jj7 jjL jka jjL cyI jkt jj7 cyI jkS jjM cyI jkx jjw cyI jkb jho cyI jjg)) hP hD hS hA [0, 1, 2, 3, 4, 5, 6, 7, 8, 9, 10, 11, 12, 13, 14] (by decide +kernel) rfl
              refine va_calli (va_runV (As := [.int l3, .ref a1]) (rest := []) ⟨hx, hb, hml, hown, hts⟩ (ck_X9_isAllowed l dC dI cyB cyI cyJ cyP a0 a1 jbU jjO jgC jgh jjN jjs jjt jlL jjL jj7 jjM jjw jho H.size (jme) (.ref jlw) (.int jb7) (.int jjF) (ja4) (ja0) (.int jiW) (.int jmI) (jjP) (jky) (jkz) (jkA) (.ref jlt) (jkd) (jkB) (jna) (jke) (.int jkF) jdC jkO jiX jiF jh5 jkl jkm jka jkx jkb jjg jkt jkS l3 hw) (cwV 2 hts gX9_runOn_X9_isAllowed rfl rfl rfl (by decide +kernel) ⟨Nat.le_of_ble_eq_true rfl, Nat.le_of_ble_eq_true rfl⟩) ⟨cPc_blind, va_recv (q := (RX9, TX9, 12)) hK hPc (ci := 9) (q0 := 0) rfl rfl, cPc_pre hPc hK hDc hNw⟩ rfl rfl hl.1 rfl (lv_room (Nat.le_of_ble_eq_true rfl)) (dt_of tkX9_runOn_k86 3 rfl) ⟨Nat.le_of_ble_eq_true rfl, Nat.le_of_ble_eq_true rfl⟩) hS (fun q _ h => hFc q h) hFc (fun r11 u t H1 locs ht hvm hw hB hz1 hk1 hS => ?_)
              obtain ⟨f9, f10⟩ := u
              obtain ⟨hP1, hK1, hD1⟩ := hB
              rw [ht] at hP1
              obtain ⟨hP, hD⟩ := va_joinN (wr := [(jlt, .inl (cyI, 6, .inl jl5)), (jlw, .inl (cyI, 6, .inl jmk))]) (w1 := (wd05_28 a0 jbU jgC jgh jho jme jlw jb7 jjF ja4 ja0 jiW jmI jbU cyI jdC a1 jjO jjP jjN jlL jjO cyI jkO jgC cyI jiX jgh cyI jiF jjN jjs jjt jky jkz jkA jlt jkd jkB jna jh5 jke jkF jjs cyI jkl jjt cyI jkm jlL jjM jjw jj7 jjL jka jjL cyI f9 jj7 cyI f10 jjM cyI jkx jjw cyI jkb jho cyI jjg)) (wn := (wd05_27 a0 jbU jgC jgh jho jme jlw jb7 jjF ja4 ja0 jiW jmI jbU cyI jdC a1 jjO jjP jjN jlL jjO cyI jkO jgC cyI jiX jgh cyI jiF jjN jjs jjt jky jkz jkA jlt jkd jkB jna jh5 jke jkF jjs cyI jkl jjt cyI jkm jlL jjM jjw jj7 jjL jka jjL cyI f9 jj7 cyI f10 jjM cyI jkx jjw cyI jkb jho cyI jjg jlt cyI jl5 jlw cyI jmk)) hP hD [0, 1, 2, 3, 4, 5, 6, 7, 8, 9, 10, 11, 12, 13, 14] [15, 16] [2, 3, 4, 5, 6, 7, 8, 9, 10, 11, 12, 13, 14, 15, 16, 0, 1] hCc rfl (by decide +kernel) (by decide +kernel) (by decide +kernel) rfl hk1 hFc hP1 hD1
              generalize H1 = H at hP hS ⊢
              refine lv_if_eq (tgt := 114) hx hb (dt_of tkX9_runOn_k86 4 rfl) (by decide) (fun c12 => ?_) (fun c12 => ?_)
              · have hw := hw.1 c12
                refine lv_aload_n hx hb (dt_of tkX9_runOn_k114 0 rfl) rfl (lv_at hl 1 rfl) ?_
                refine lv_dup hx hb (dt_of tkX9_runOn_k114 1 rfl) rfl ?_
                refine va_get (D := (dC, dI)) (ci := 9) (v := .int jmI) (C := RX9) (T := TX9) (N := 12) hx hb hts ui_X9_runOn_X9 hown hK hP 0 rfl rfl 11 (by decide) (hts _ uw_X9_runOn_f102) (fun _ h9 => h9) rfl (dt_of tkX9_runOn_k114 2 rfl) ?_
                refine lv_iconst (v := 1) hx hb (dt_of tkX9_runOn_k114 3 rfl) (by decide) ?_
                refine lv_iadd hx hb (dt_of tkX9_runOn_k114 4 rfl) ?_
                refine lv_topi (fun x13 ex13 => ?_)
                have hw := hw x13 ex13
                refine va_put (D := (dC, dI)) (ci := 9) (v := .int x13) (ty := .int) (C := RX9) (T := TX9) (N := 12) hx hb hts ui_X9_runOn_X9 tyX9 tyX9_ok nmX9 hown hK hP hD hS 0 rfl rfl 11 (by decide) (hts _ uw_X9_runOn_f102) (fun _ h9 => h9) rfl (by decide +kernel) rfl rfl (Nat.le_of_ble_eq_true rfl) (dt_of tkX9_runOn_k114 5 rfl) (fun H locs hP hD hS => ?_)
                have hP : va_P (dC, dI) vwCl (wd05_27 a0 jbU jgC jgh jho jme jlw jb7 jjF ja4 ja0 jiW x13 jbU cyI jdC a1 jjO jjP jjN jlL jjO cyI jkO jgC cyI jiX jgh cyI jiF jjN jjs jjt jky jkz jkA jlt jkd jkB jna jh5 jke jkF jjs cyI jkl jjt cyI jkm jlL jjM jjw jj7 jjL jka jjL cyI f9 jj7 cyI f10 jjM cyI jkx jjw cyI jkb jho cyI jjg jlt cyI jl5 jlw cyI jmk) H := hP
                have hD : va_D A (wd05_27 a0 jbU jgC jgh jho jme jlw jb7 jjF ja4 ja0 jiW x13 jbU cyI jdC a1 jjO jjP jjN jlL jjO cyI jkO jgC cyI jiX jgh cyI jiF jjN jjs jjt jky jkz jkA jlt jkd jkB jna jh5 jke jkF jjs cyI jkl jjt cyI jkm jlL jjM jjw jj7 jjL jka jjL cyI f9 jj7 cyI f10 jjM cyI jkx jjw cyI jkb jho cyI jjg jlt cyI jl5 jlw cyI jmk) := hD
                exact kb_X9_runOn_124 dC dI cyB cyI cyJ cyP a0 a1 jbU jjO jgC jgh jjN jjs jjt jlL jjL jj7 jjM jjw jho jlt jlw jme ja4 ja0 jjP jky jkz jkA jkd jkB jna jke jb7 jdC jiX jiF jh5 jkF jkl jkm jka jkx jkb jjg jl5 Q (wl_X9_runOn_22 jb7 jdC jiX jiF jh5 jkF jkl jkm jka jkx jkb jjg jl5 Q  n) ih C0 _ _ _ jiW x13 jjF f9 f10 jkO jmk x6 l3 l4 hP hD hS (lv_sub hl [1, 2, 0, 3, 4] rfl) hw
              · have hw := hw.2 c12
                refine lv_aload_n hx hb (dt_of tkX9_runOn_k86 5 rfl) rfl (lv_at hl 1 rfl) ?_
                refine lv_iload_n hx hb (dt_of tkX9_runOn_k86 6 rfl) rfl (lv_at hl 3 rfl) ?_
                refine lv_aload_n hx hb (dt_of tkX9_runOn_k86 7 rfl) rfl (lv_at hl 2 rfl) ?_
                obtain ⟨hCc, hPc, hDc, hFc⟩ := va_pick (ws' := (wd05_29 a0 jbU jgC jgh jho jme jlw jb7 jjF ja4 ja0 jiW jmI jbU cyI jdC a1 jjO jjP jjN jlL jjN jjs jjt jky jkz jkA jlt jkd jkB jna jh5 jke jkF jjO cyI jkO jlt cyI jl5 jgC cyI jiX jgh cyI jiF jho cyI jjg)) hP hD hS hA [0, 1, 2, 6, 3, 15, 4, 5, 14] (by decide +kernel) rfl
                refine va_callv (va_runV (As := [.int l3, .ref a1]) (rest := []) ⟨hx, hb, hml, hown, hts⟩ (ck_X9_doStep l dC dI cyB cyI cyJ cyP a0 a1 jbU jjN jjO jlt jgC jgh jho H.size (jme) (.ref jlw) (.int jb7) (.int jjF) (ja4) (ja0) (.int jiW) (.int jmI) (jjP) (.ref jlL) (.ref jjs) (.ref jjt) (jky) (jkz) (jkA) (jkd) (jkB) (jna) (jke) jdC jh5 jkF jl5 jiX jiF jjg jkO l3 hw) (cwV 2 hts gX9_runOn_X9_doStep rfl rfl rfl (by decide +kernel) ⟨Nat.le_of_ble_eq_true rfl, Nat.le_of_ble_eq_true rfl⟩) ⟨cPc_blind, va_recv (q := (RX9, TX9, 12)) hK hPc (ci := 9) (q0 := 0) rfl rfl, cPc_pre hPc hK hDc hNw⟩ rfl rfl hl.1 rfl (lv_room (Nat.le_of_ble_eq_true rfl)) (dt_of tkX9_runOn_k86 8 rfl) ⟨Nat.le_of_ble_eq_true rfl, Nat.le_of_ble_eq_true rfl⟩) hS (fun q _ h => hFc q h) hFc (fun u t H1 locs ht hvm hw hB hz1 hk1 hS => ?_)
                obtain ⟨f14, rfl⟩ : ∃ z, z = u := ⟨_, rfl⟩
                obtain ⟨hP1, hK1, hD1⟩ := hB
                rw [ht] at hP1
                obtain ⟨hP, hD⟩ := va_joinN (wr := [(jjs, .inl (cyI, 8, .inl jkl)), (jjt, .inl (cyI, 8, .inl jkm)), (jlL, .inr (4, [.ref jjM, .ref jjw, .ref jj7, .ref jjL, .int jka])), (jjL, .inl (cyI, 8, .inl f9)), (jj7, .inl (cyI, 150, .inl f10)), (jjM, .inl (cyI, 150, .inl jkx)), (jjw, .inl (cyI, 150, .inl jkb)), (jlw, .inl (cyI, 6, .inl jmk))]) (w1 := (wd05_29 a0 jbU jgC jgh jho jme jlw jb7 jjF ja4 ja0 jiW jmI jbU cyI jdC a1 jjO jjP jjN jlL jjN jjs jjt jky jkz jkA jlt jkd jkB jna jh5 jke jkF jjO cyI f14 jlt cyI jl5 jgC cyI jiX jgh cyI jiF jho cyI jjg)) (wn := (wd05_27 a0 jbU jgC jgh jho jme jlw jb7 jjF ja4 ja0 jiW jmI jbU cyI jdC a1 jjO jjP jjN jlL jjO cyI f14 jgC cyI jiX jgh cyI jiF jjN jjs jjt jky jkz jkA jlt jkd jkB jna jh5 jke jkF jjs cyI jkl jjt cyI jkm jlL jjM jjw jj7 jjL jka jjL cyI f9 jj7 cyI f10 jjM cyI jkx jjw cyI jkb jho cyI jjg jlt cyI jl5 jlw cyI jmk)) hP hD [0, 1, 2, 6, 3, 15, 4, 5, 14] [7, 8, 9, 10, 11, 12, 13, 16] [8, 9, 10, 12, 14, 15, 11, 0, 1, 2, 3, 4, 5, 6, 16, 13, 7] hCc rfl (by decide +kernel) (by decide +kernel) (by decide +kernel) rfl hk1 hFc hP1 hD1
                generalize H1 = H at hP hS ⊢
                refine lv_aload_n hx hb (dt_of tkX9_runOn_k86 9 rfl) rfl (lv_at hl 1 rfl) ?_
                refine lv_dup hx hb (dt_of tkX9_runOn_k86 10 rfl) rfl ?_
                refine va_get (D := (dC, dI)) (ci := 9) (v := .int jiW) (C := RX9) (T := TX9) (N := 12) hx hb hts ui_X9_runOn_X9 hown hK hP 0 rfl rfl 10 (by decide) (hts _ uw_X9_runOn_f99) (fun _ h9 => h9) rfl (dt_of tkX9_runOn_k86 11 rfl) ?_
                refine lv_iconst (v := 1) hx hb (dt_of tkX9_runOn_k86 12 rfl) (by decide) ?_
                refine lv_iadd hx hb (dt_of tkX9_runOn_k86 13 rfl) ?_
                refine lv_topi (fun x15 ex15 => ?_)
                have hw := hw x15 ex15
                refine va_put (D := (dC, dI)) (ci := 9) (v := .int x15) (ty := .int) (C := RX9) (T := TX9) (N := 12) hx hb hts ui_X9_runOn_X9 tyX9 tyX9_ok nmX9 hown hK hP hD hS 0 rfl rfl 10 (by decide) (hts _ uw_X9_runOn_f99) (fun _ h9 => h9) rfl (by decide +kernel) rfl rfl (Nat.le_of_ble_eq_true rfl) (dt_of tkX9_runOn_k86 14 rfl) (fun H locs hP hD hS => ?_)
                have hP : va_P (dC, dI) vwCl (wd05_27 a0 jbU jgC jgh jho jme jlw jb7 jjF ja4 ja0 x15 jmI jbU cyI jdC a1 jjO jjP jjN jlL jjO cyI f14 jgC cyI jiX jgh cyI jiF jjN jjs jjt jky jkz jkA jlt jkd jkB jna jh5 jke jkF jjs cyI jkl jjt cyI jkm jlL jjM jjw jj7 jjL jka jjL cyI f9 jj7 cyI f10 jjM cyI jkx jjw cyI jkb jho cyI jjg jlt cyI jl5 jlw cyI jmk) H := hP
                have hD : va_D A (wd05_27 a0 jbU jgC jgh jho jme jlw jb7 jjF ja4 ja0 x15 jmI jbU cyI jdC a1 jjO jjP jjN jlL jjO cyI f14 jgC cyI jiX jgh cyI jiF jjN jjs jjt jky jkz jkA jlt jkd jkB jna jh5 jke jkF jjs cyI jkl jjt cyI jkm jlL jjM jjw jj7 jjL jka jjL cyI f9 jj7 cyI f10 jjM cyI jkx jjw cyI jkb jho cyI jjg jlt cyI jl5 jlw cyI jmk) := hD
                refine lv_goto (tgt := 124) hx hb (dt_of tkX9_runOn_k86 15 rfl) (by decide) ?_
                exact kb_X9_runOn_124 dC dI cyB cyI cyJ cyP a0 a1 jbU jjO jgC jgh jjN jjs jjt jlL jjL jj7 jjM jjw jho jlt jlw jme ja4 ja0 jjP jky jkz jkA jkd jkB jna jke jb7 jdC jiX jiF jh5 jkF jkl jkm jka jkx jkb jjg jl5 Q (wl_X9_runOn_22 jb7 jdC jiX jiF jh5 jkF jkl jkm jka jkx jkb jjg jl5 Q  n) ih C0 _ _ _ x15 jmI jjF f9 f10 f14 jmk x6 l3 l4 hP hD hS (lv_sub hl [1, 2, 0, 3, 4] rfl) hw
            · have hw := hw.2 c8
              refine lv_aload_n hx hb (dt_of tkX9_runOn_k56 11 rfl) rfl (lv_at hl 1 rfl) ?_
              refine lv_iload_n hx hb (dt_of tkX9_runOn_k56 12 rfl) rfl (lv_at hl 3 rfl) ?_
              obtain ⟨hCc, hPc, hDc, hFc⟩ := va_pick (ws' := (wd05_30 a0 jbU jgC jgh jho jme jlw jb7 jjF ja4 ja0 jiW jmI jgC cyI jiX jlw cyI jmk jgh cyI jiF)) hP hD hS hA [0, 4, 16, 5] (by decide +kernel) rfl
              refine va_calli (va_runV (As := [.int l3]) (rest := []) ⟨hx, hb, hml, hown, hts⟩ (ck_X9_behindAgain l dC dI cyB cyI cyJ cyP a0 jgC jlw jgh H.size (.ref jbU) (.ref jho) (jme) (.int jb7) (ja4) (ja0) (.int jiW) (.int jmI) jiX jiF jmk jjF l3 hw) (cwV 1 hts gX9_runOn_X9_behindAgain rfl rfl rfl (by decide +kernel) ⟨Nat.le_of_ble_eq_true rfl, Nat.le_of_ble_eq_true rfl⟩) ⟨cPc_blind, va_recv (q := (RX9, TX9, 12)) hK hPc (ci := 9) (q0 := 0) rfl rfl, cPc_pre hPc hK hDc hNw⟩ rfl rfl hl.1 rfl (lv_room (Nat.le_of_ble_eq_true rfl)) (dt_of tkX9_runOn_k56 13 rfl) ⟨Nat.le_of_ble_eq_true rfl, Nat.le_of_ble_eq_true rfl⟩) hS (fun q _ h => hFc q h) hFc (fun r18 u t H1 locs ht hvm hw hB hz1 hk1 hS => ?_)
              obtain ⟨f16, x17⟩ := u
              obtain ⟨hP1, hK1, hD1⟩ := hB
              rw [ht] at hP1
              obtain ⟨hP, hD⟩ := va_joinN (wr := [(jbU, .inl (cyI, 50, .inl jdC)), (a1, .inr (1, [.ref jjO, jjP, .ref jjN, .ref jlL])), (jjO, .inl (cyI, 64, .inl jkO)), (jjN, .inr (2, [.ref jjs, .ref jjt, jky, jkz, jkA, .ref jlt, jkd, jkB, jna, .int jh5, jke, .int jkF])), (jjs, .inl (cyI, 8, .inl jkl)), (jjt, .inl (cyI, 8, .inl jkm)), (jlL, .inr (4, [.ref jjM, .ref jjw, .ref jj7, .ref jjL, .int jka])), (jjL, .inl (cyI, 8, .inl jkt)), (jj7, .inl (cyI, 150, .inl jkS)), (jjM, .inl (cyI, 150, .inl jkx)), (jjw, .inl (cyI, 150, .inl jkb)), (jho, .inl (cyI, 50, .inl jjg)), (jlt, .inl (cyI, 6, .inl jl5))]) (w1 := (wd05_30 a0 jbU jgC jgh jho jme jlw jb7 x17 ja4 ja0 jiW jmI jgC cyI jiX jlw cyI f16 jgh cyI jiF)) (wn := (wd05_27 a0 jbU jgC jgh jho jme jlw jb7 x17 ja4 ja0 jiW jmI jbU cyI jdC a1 jjO jjP jjN jlL jjO cyI jkO jgC cyI jiX jgh cyI jiF jjN jjs jjt jky jkz jkA jlt jkd jkB jna jh5 jke jkF jjs cyI jkl jjt cyI jkm jlL jjM jjw jj7 jjL jka jjL cyI jkt jj7 cyI jkS jjM cyI jkx jjw cyI jkb jho cyI jjg jlt cyI jl5 jlw cyI f16)) hP hD [0, 4, 16, 5] [1, 2, 3, 6, 7, 8, 9, 10, 11, 12, 13, 14, 15] [13, 0, 1, 2, 14, 16, 3, 4, 5, 6, 7, 8, 9, 10, 11, 12, 15] hCc rfl (by decide +kernel) (by decide +kernel) (by decide +kernel) rfl hk1 hFc hP1 hD1
              generalize H1 = H at hP hS ⊢
              refine lv_istore_n (lv' := [(3, .int r18), (2, .int x6), (0, .ref a0), (1, .ref a1), (4, .int l4)]) hx hb (dt_of tkX9_runOn_k56 14 rfl) rfl hl (by decide) rfl (fun ls hl => ?_)
              refine lv_goto (tgt := 127) hx hb (dt_of tkX9_runOn_k56 15 rfl) (by decide) ?_
              exact kb_X9_runOn_127 dC dI cyB cyI cyJ cyP a0 a1 jbU jjO jgC jgh jjN jjs jjt jlL jjL jj7 jjM jjw jho jlt jlw jme ja4 ja0 jjP jky jkz jkA jkd jkB jna jke jb7 jdC jiX jiF jh5 jkF jkl jkm jka jkx jkb jjg jl5 Q (wl_X9_runOn_22 jb7 jdC jiX jiF jh5 jkF jkl jkm jka jkx jkb jjg jl5 Q  n) ih C0 _ _ _ jiW jmI x17 jkt jkS jkO f16 x6 r18 l4 hP hD hS (lv_sub hl [2, 3, 1, 0, 4] rfl) hw
          · have hw := hw.2 c5
            refine lv_aload_n hx hb (dt_of tkX9_runOn_k24 15 rfl) rfl (lv_at hl 0 rfl) ?_
            refine lv_iload_n hx hb (dt_of tkX9_runOn_k56 0 rfl) rfl (lv_at hl 3 rfl) ?_
            obtain ⟨hCc, hPc, hDc, hFc⟩ := va_pick (ws' := (wd05_31 a0 jbU jgC jgh jho jme jlw jb7 jjF ja4 ja0 jiW jmI jlw cyI jmk jgC cyI jiX)) hP hD hS hA [0, 16, 4] (by decide +kernel) rfl
            refine va_calli (va_runV (As := [.int l3]) (rest := []) ⟨hx, hb, hml, hown, hts⟩ (ck_X9_behindEnd l dC dI cyB cyI cyJ cyP a0 jlw jgC H.size (.ref jbU) (.ref jgh) (.ref jho) (jme) (.int jb7) (ja4) (ja0) (.int jiW) (.int jmI) jiX jmk jjF l3 hw) (cwV 1 hts gX9_runOn_X9_behindEnd rfl rfl rfl (by decide +kernel) ⟨Nat.le_of_ble_eq_true rfl, Nat.le_of_ble_eq_true rfl⟩) ⟨cPc_blind, va_recv (q := (RX9, TX9, 12)) hK hPc (ci := 9) (q0 := 0) rfl rfl, cPc_pre hPc hK hDc hNw⟩ rfl rfl hl.1 rfl (lv_room (Nat.le_of_ble_eq_true rfl)) (dt_of tkX9_runOn_k56 1 rfl) ⟨Nat.le_of_ble_eq_true rfl, Nat.le_of_ble_eq_true rfl⟩) hS (fun q _ h => hFc q h) hFc (fun r21 u t H1 locs ht hvm hw hB hz1 hk1 hS => ?_)
            obtain ⟨f19, x20⟩ := u
            obtain ⟨hP1, hK1, hD1⟩ := hB
            rw [ht] at hP1
            obtain ⟨hP, hD⟩ := va_joinN (wr := [(jbU, .inl (cyI, 50, .inl jdC)), (a1, .inr (1, [.ref jjO, jjP, .ref jjN, .ref jlL])), (jjO, .inl (cyI, 64, .inl jkO)), (jgh, .inl (cyI, 50, .inl jiF)), (jjN, .inr (2, [.ref jjs, .ref jjt, jky, jkz, jkA, .ref jlt, jkd, jkB, jna, .int jh5, jke, .int jkF])), (jjs, .inl (cyI, 8, .inl jkl)), (jjt, .inl (cyI, 8, .inl jkm)), (jlL, .inr (4, [.ref jjM, .ref jjw, .ref jj7, .ref jjL, .int jka])), (jjL, .inl (cyI, 8, .inl jkt)), (jj7, .inl (cyI, 150, .inl jkS)), (jjM, .inl (cyI, 150, .inl jkx)), (jjw, .inl (cyI, 150, .inl jkb)), (jho, .inl (cyI, 50, .inl jjg)), (jlt, .inl (cyI, 6, .inl jl5))]) (w1 := (wd05_31 a0 jbU jgC jgh jho jme jlw jb7 x20 ja4 ja0 jiW jmI jlw cyI f19 jgC cyI jiX)) (wn := (wd05_27 a0 jbU jgC jgh jho jme jlw jb7 x20 ja4 ja0 jiW jmI jbU cyI jdC a1 jjO jjP jjN jlL jjO cyI jkO jgC cyI jiX jgh cyI jiF jjN jjs jjt jky jkz jkA jlt jkd jkB jna jh5 jke jkF jjs cyI jkl jjt cyI jkm jlL jjM jjw jj7 jjL jka jjL cyI jkt jj7 cyI jkS jjM cyI jkx jjw cyI jkb jho cyI jjg jlt cyI jl5 jlw cyI f19)) hP hD [0, 16, 4] [1, 2, 3, 5, 6, 7, 8, 9, 10, 11, 12, 13, 14, 15] [14, 0, 1, 2, 16, 3, 4, 5, 6, 7, 8, 9, 10, 11, 12, 13, 15] hCc rfl (by decide +kernel) (by decide +kernel) (by decide +kernel) rfl hk1 hFc hP1 hD1
            generalize H1 = H at hP hS ⊢
            refine lv_istore_n (lv' := [(3, .int r21), (0, .ref a0), (1, .ref a1), (2, .int l2), (4, .int l4)]) hx hb (dt_of tkX9_runOn_k56 2 rfl) rfl hl (by decide) rfl (fun ls hl => ?_)
            refine lv_goto (tgt := 127) hx hb (dt_of tkX9_runOn_k56 3 rfl) (by decide) ?_
            exact kb_X9_runOn_127 dC dI cyB cyI cyJ cyP a0 a1 jbU jjO jgC jgh jjN jjs jjt jlL jjL jj7 jjM jjw jho jlt jlw jme ja4 ja0 jjP jky jkz jkA jkd jkB jna jke jb7 jdC jiX jiF jh5 jkF jkl jkm jka jkx jkb jjg jl5 Q (wl_X9_runOn_22 jb7 jdC jiX jiF jh5 jkF jkl jkm jka jkx jkb jjg jl5 Q  n) ih C0 _ _ _ jiW jmI x20 jkt jkS jkO f19 l2 r21 l4 hP hD hS (lv_sub hl [1, 2, 3, 0, 4] rfl) hw
set_option maxHeartbeats 4000000 in
set_option maxRecDepth 100000 in
theorem ck_X9_runOn (l : Launch) (dC : Nat → ClassId) (dI : Nat → Nat → Nat) (cyB cyI cyJ cyP : ClassId) (a0 a1 jbU jjO jgC jgh jjN jjs jjt jlL jjL jj7 jjM jjw jho jlt jlw sz : Nat) (jme ja4 ja0 jjP jky jkz jkA jkd jkB jna jke : Value) (jb7 : Int32) (jdC jiX jiF : Nat → Int32) (jh5 jkF : Int32) (jkl jkm : Nat → Int32) (jka : Int32) (jkx jkb jjg jl5 : Nat → Int32) (jiW jmI jjF : Int32) (jkt jkS jkO jmk : Nat → Int32)  {Q : Int32 → Int32 → Int32 → (Nat → Int32) → (Nat → Int32) → (Nat → Int32) → (Nat → Int32) → Prop} (hw : wq_X9_runOn jb7 jdC jiX jiF jh5 jkF jkl jkm jka jkx jkb jjg jl5 jiW jmI jjF jkt jkS jkO jmk  Q) : Met l yX9_runOn wsX9_runOn ({ frames := 6, cells := 0, slots := 0, locals := 129 }) (va_Pc [.ref a0, .ref a1] (cPc (dC, dI) (kT cyB cyI cyJ cyP) (wd05_27 a0 jbU jgC jgh jho jme jlw jb7 jjF ja4 ja0 jiW jmI jbU cyI jdC a1 jjO jjP jjN jlL jjO cyI jkO jgC cyI jiX jgh cyI jiF jjN jjs jjt jky jkz jkA jlt jkd jkB jna jh5 jke jkF jjs cyI jkl jjt cyI jkm jlL jjM jjw jj7 jjL jka jjL cyI jkt jj7 cyI jkS jjM cyI jkx jjw cyI jkb jho cyI jjg jlt cyI jl5 jlw cyI jmk) sz)) (va_Qv (fun (u : Int32 × Int32 × Int32 × (Nat → Int32) × (Nat → Int32) × (Nat → Int32) × (Nat → Int32)) => Q u.1 u.2.1 u.2.2.1 u.2.2.2.1 u.2.2.2.2.1 u.2.2.2.2.2.1 u.2.2.2.2.2.2) (cB (dC, dI) (kT cyB cyI cyJ cyP) (va_A (wd05_27 a0 jbU jgC jgh jho jme jlw jb7 jjF ja4 ja0 jiW jmI jbU cyI jdC a1 jjO jjP jjN jlL jjO cyI jkO jgC cyI jiX jgh cyI jiF jjN jjs jjt jky jkz jkA jlt jkd jkB jna jh5 jke jkF jjs cyI jkl jjt cyI jkm jlL jjM jjw jj7 jjL jka jjL cyI jkt jj7 cyI jkS jjM cyI jkx jjw cyI jkb jho cyI jjg jlt cyI jl5 jlw cyI jmk) sz) (fun u : Int32 × Int32 × Int32 × (Nat → Int32) × (Nat → Int32) × (Nat → Int32) × (Nat → Int32) => ((wd05_27 a0 jbU jgC jgh jho jme jlw jb7 u.2.2.1 ja4 ja0 u.1 u.2.1 jbU cyI jdC a1 jjO jjP jjN jlL jjO cyI u.2.2.2.2.2.1 jgC cyI jiX jgh cyI jiF jjN jjs jjt jky jkz jkA jlt jkd jkB jna jh5 jke jkF jjs cyI jkl jjt cyI jkm jlL jjM jjw jj7 jjL jka jjL cyI u.2.2.2.1 jj7 cyI u.2.2.2.2.1 jjM cyI jkx jjw cyI jkb jho cyI jjg jlt cyI jl5 jlw cyI u.2.2.2.2.2.2) : va_W))) (va_A (wd05_27 a0 jbU jgC jgh jho jme jlw jb7 jjF ja4 ja0 jiW jmI jbU cyI jdC a1 jjO jjP jjN jlL jjO cyI jkO jgC cyI jiX jgh cyI jiF jjN jjs jjt jky jkz jkA jlt jkd jkB jna jh5 jke jkF jjs cyI jkl jjt cyI jkm jlL jjM jjw jj7 jjL jka jjL cyI jkt jj7 cyI jkS jjM cyI jkx jjw cyI jkb jho cyI jjg jlt cyI jl5 jlw cyI jmk) sz)) 0 0 (va_A (wd05_27 a0 jbU jgC jgh jho jme jlw jb7 jjF ja4 ja0 jiW jmI jbU cyI jdC a1 jjO jjP jjN jlL jjO cyI jkO jgC cyI jiX jgh cyI jiF jjN jjs jjt jky jkz jkA jlt jkd jkB jna jh5 jke jkF jjs cyI jkl jjt cyI jkm jlL jjM jjw jj7 jjL jka jjL cyI jkt jj7 cyI jkS jjM cyI jkx jjw cyI jkb jho cyI jjg jlt cyI jl5 jlw cyI jmk) sz) := by
  refine Met.ofW (cc := cX9_runOn) (maxL := 5) (ret := none) (by decide) rfl ?_
  intro p e s m args below meth c s₁ B hml hv
  obtain ⟨rfl, hsz, hP, hK, hD0, hNw⟩ := hv
  have hx := B.exec
  have hb := B.bytes
  have hr := B.returns
  have hts := atoms_spec (ws := wsX9_runOn) B.pre
  have hown : s.vm.findClass RX9 = some m.cls := findClass_of_methodNamed B.named
  have hlocks := B.notSynchronized
  subst hsz
  have hD := hD0.self (sz := s.heap.size)
  generalize hAe : va_A (wd05_27 a0 jbU jgC jgh jho jme jlw jb7 jjF ja4 ja0 jiW jmI jbU cyI jdC a1 jjO jjP jjN jlL jjO cyI jkO jgC cyI jiX jgh cyI jiF jjN jjs jjt jky jkz jkA jlt jkd jkB jna jh5 jke jkF jjs cyI jkl jjt cyI jkm jlL jjM jjw jj7 jjL jka jjL cyI jkt jj7 cyI jkS jjM cyI jkx jjw cyI jkb jho cyI jjg jlt cyI jl5 jlw cyI jmk) s.heap.size = A at hD ⊢
  have hA : ∀ q : Nat, s.heap.size ≤ q → A q := fun q h => by rw [← hAe]; exact Or.inr h
  have hS : va_S A s.heap s.heap [] := va_S.rf
  have hP : va_P (dC, dI) vwCl (wd05_27 a0 jbU jgC jgh jho jme jlw jb7 jjF ja4 ja0 jiW jmI jbU cyI jdC a1 jjO jjP jjN jlL jjO cyI jkO jgC cyI jiX jgh cyI jiF jjN jjs jjt jky jkz jkA jlt jkd jkB jna jh5 jke jkF jjs cyI jkl jjt cyI jkm jlL jjM jjw jj7 jjL jka jjL cyI jkt jj7 cyI jkS jjM cyI jkx jjw cyI jkb jho cyI jjg jlt cyI jl5 jlw cyI jmk) s.heap := hP
  have hl := lv_entry ([.ref a0, .ref a1]) (n := 5) (Nat.le_of_ble_eq_true rfl)
  rw [lg_entry_eq]
  generalize (lg_sl ([.ref a0, .ref a1]) ++ List.replicate (5 - (lg_sl ([.ref a0, .ref a1])).length) Slot.unset).toArray = ls at hl ⊢
  have hl : lv_has ls 5 [(0, .ref a0), (1, .ref a1)] := hl
  have C0 : cfx p s m _ meth c cX9_runOn none wsX9_runOn RX9 5 A (dC, dI) (kT cyB cyI cyJ cyP) := ⟨hx, hb, hr, hts, hown, hlocks, hml, hA, hK, hNw⟩
  clear hAe
  obtain ⟨H, hH⟩ : ∃ H, H = s.heap := ⟨_, rfl⟩
  rw [← hH] at hP ⊢
  have hS : va_S A s.heap H [] := by rw [hH]; exact va_S.rf
  have hS := hS
  refine lv_aload_n hx hb (dt_of tkX9_runOn_k0 0 rfl) rfl (lv_at hl 0 rfl) ?_
  refine lv_iconst (v := 0) hx hb (dt_of tkX9_runOn_k0 1 rfl) (by decide) ?_
  refine va_put (D := (dC, dI)) (ci := 9) (v := .int 0) (ty := .int) (C := RX9) (T := TX9) (N := 12) hx hb hts ui_X9_runOn_X9 tyX9 tyX9_ok nmX9 hown hK hP hD hS 0 rfl rfl 10 (by decide) (hts _ uw_X9_runOn_f99) (fun _ h9 => h9) rfl (by decide +kernel) rfl rfl (Nat.le_of_ble_eq_true rfl) (dt_of tkX9_runOn_k0 2 rfl) (fun H locs hP hD hS => ?_)
  have hP : va_P (dC, dI) vwCl (wd05_27 a0 jbU jgC jgh jho jme jlw jb7 jjF ja4 ja0 0 jmI jbU cyI jdC a1 jjO jjP jjN jlL jjO cyI jkO jgC cyI jiX jgh cyI jiF jjN jjs jjt jky jkz jkA jlt jkd jkB jna jh5 jke jkF jjs cyI jkl jjt cyI jkm jlL jjM jjw jj7 jjL jka jjL cyI jkt jj7 cyI jkS jjM cyI jkx jjw cyI jkb jho cyI jjg jlt cyI jl5 jlw cyI jmk) H := hP
  have hD : va_D A (wd05_27 a0 jbU jgC jgh jho jme jlw jb7 jjF ja4 ja0 0 jmI jbU cyI jdC a1 jjO jjP jjN jlL jjO cyI jkO jgC cyI jiX jgh cyI jiF jjN jjs jjt jky jkz jkA jlt jkd jkB jna jh5 jke jkF jjs cyI jkl jjt cyI jkm jlL jjM jjw jj7 jjL jka jjL cyI jkt jj7 cyI jkS jjM cyI jkx jjw cyI jkb jho cyI jjg jlt cyI jl5 jlw cyI jmk) := hD
  refine lv_aload_n hx hb (dt_of tkX9_runOn_k0 3 rfl) rfl (lv_at hl 0 rfl) ?_
  refine lv_iconst (v := 0) hx hb (dt_of tkX9_runOn_k0 4 rfl) (by decide) ?_
  refine va_put (D := (dC, dI)) (ci := 9) (v := .int 0) (ty := .int) (C := RX9) (T := TX9) (N := 12) hx hb hts ui_X9_runOn_X9 tyX9 tyX9_ok nmX9 hown hK hP hD hS 0 rfl rfl 11 (by decide) (hts _ uw_X9_runOn_f102) (fun _ h9 => h9) rfl (by decide +kernel) rfl rfl (Nat.le_of_ble_eq_true rfl) (dt_of tkX9_runOn_k0 5 rfl) (fun H locs hP hD hS => ?_)
  have hP : va_P (dC, dI) vwCl (wd05_27 a0 jbU jgC jgh jho jme jlw jb7 jjF ja4 ja0 0 0 jbU cyI jdC a1 jjO jjP jjN jlL jjO cyI jkO jgC cyI jiX jgh cyI jiF jjN jjs jjt jky jkz jkA jlt jkd jkB jna jh5 jke jkF jjs cyI jkl jjt cyI jkm jlL jjM jjw jj7 jjL jka jjL cyI jkt jj7 cyI jkS jjM cyI jkx jjw cyI jkb jho cyI jjg jlt cyI jl5 jlw cyI jmk) H := hP
  have hD : va_D A (wd05_27 a0 jbU jgC jgh jho jme jlw jb7 jjF ja4 ja0 0 0 jbU cyI jdC a1 jjO jjP jjN jlL jjO cyI jkO jgC cyI jiX jgh cyI jiF jjN jjs jjt jky jkz jkA jlt jkd jkB jna jh5 jke jkF jjs cyI jkl jjt cyI jkm jlL jjM jjw jj7 jjL jka jjL cyI jkt jj7 cyI jkS jjM cyI jkx jjw cyI jkb jho cyI jjg jlt cyI jl5 jlw cyI jmk) := hD
  refine lv_aload_n hx hb (dt_of tkX9_runOn_k0 6 rfl) rfl (lv_at hl 0 rfl) ?_
  refine lv_iconst (v := 0) hx hb (dt_of tkX9_runOn_k0 7 rfl) (by decide) ?_
  refine va_put (D := (dC, dI)) (ci := 9) (v := .int 0) (ty := .int) (C := RX9) (T := TX9) (N := 12) hx hb hts ui_X9_runOn_X9 tyX9 tyX9_ok nmX9 hown hK hP hD hS 0 rfl rfl 7 (by decide) (hts _ uw_X9_runOn_f40) (fun _ h9 => h9) rfl (by decide +kernel) rfl rfl (Nat.le_of_ble_eq_true rfl) (dt_of tkX9_runOn_k0 8 rfl) (fun H locs hP hD hS => ?_)
  have hP : va_P (dC, dI) vwCl (wd05_27 a0 jbU jgC jgh jho jme jlw jb7 0 ja4 ja0 0 0 jbU cyI jdC a1 jjO jjP jjN jlL jjO cyI jkO jgC cyI jiX jgh cyI jiF jjN jjs jjt jky jkz jkA jlt jkd jkB jna jh5 jke jkF jjs cyI jkl jjt cyI jkm jlL jjM jjw jj7 jjL jka jjL cyI jkt jj7 cyI jkS jjM cyI jkx jjw cyI jkb jho cyI jjg jlt cyI jl5 jlw cyI jmk) H := hP
  have hD : va_D A (wd05_27 a0 jbU jgC jgh jho jme jlw jb7 0 ja4 ja0 0 0 jbU cyI jdC a1 jjO jjP jjN jlL jjO cyI jkO jgC cyI jiX jgh cyI jiF jjN jjs jjt jky jkz jkA jlt jkd jkB jna jh5 jke jkF jjs cyI jkl jjt cyI jkm jlL jjM jjw jj7 jjL jka jjL cyI jkt jj7 cyI jkS jjM cyI jkx jjw cyI jkb jho cyI jjg jlt cyI jl5 jlw cyI jmk) := hD
  refine lv_iconst (v := 0) hx hb (dt_of tkX9_runOn_k0 9 rfl) (by decide) ?_
  refine lv_istore_n (lv' := [(2, .int 0), (0, .ref a0), (1, .ref a1)]) hx hb (dt_of tkX9_runOn_k0 10 rfl) rfl hl (by decide) rfl (fun ls hl => ?_)
  refine lv_iconst (v := 0) hx hb (dt_of tkX9_runOn_k0 11 rfl) (by decide) ?_
  refine lv_istore_n (lv' := [(3, .int 0), (2, .int 0), (0, .ref a0), (1, .ref a1)]) hx hb (dt_of tkX9_runOn_k0 12 rfl) rfl hl (by decide) rfl (fun ls hl => ?_)
  refine lv_iconst (v := 0) hx hb (dt_of tkX9_runOn_k0 13 rfl) (by decide) ?_
  refine lv_istore (lv' := [(4, .int 0), (3, .int 0), (2, .int 0), (0, .ref a0), (1, .ref a1)]) hx hb (dt_of tkX9_runOn_k0 14 rfl) hl (by decide) rfl (fun ls hl => ?_)
  obtain ⟨n9, hw⟩ := hw
  exact kl_X9_runOn_22 dC dI cyB cyI cyJ cyP a0 a1 jbU jjO jgC jgh jjN jjs jjt jlL jjL jj7 jjM jjw jho jlt jlw jme ja4 ja0 jjP jky jkz jkA jkd jkB jna jke jb7 jdC jiX jiF jh5 jkF jkl jkm jka jkx jkb jjg jl5 Q  C0 n9 _ _ _ 0 0 0 jkt jkS jkO jmk 0 0 0 hP hD hS (lv_sub hl [3, 4, 2, 1, 0] rfl) hw
theorem ui_X10_would_X10 : ∀ w ∈ u_ws RX10 TX10 19, w ∈ wsX10_would := uiM mbX10_would euX10 (by decide +kernel)
theorem uw_X10_would_f29 : (.fieldLink RX10 29 "MarchHares" "rule" "LMarchHares$Law;" : Cond) ∈ wsX10_would := mbX10_would 65 (by decide +kernel)
set_option maxHeartbeats 4000000 in
set_option maxRecDepth 100000 in
theorem ck_X10_would (l : Launch) (dC : Nat → ClassId) (dI : Nat → Nat → Nat) (cyB cyI cyJ cyP : ClassId) (a0 jb6 jcc jck jbW jbL sz : Nat) (jaK jfP ja1 jbc jbV ja3 jbH ja2 jbO jaq jac jbI jbl jbn jba jaa jbA : Value) (jdh : Int32) (jdN jdi : Nat → Int32) (jbz : Int32) (jfl jfK : Nat → Int32) (p1 p2 p3 p4 p5 p6 p7 p8 : Int32) {E : String → Int32 → (Nat → Int32) → (Nat → Int32) → Prop} {Q : Int32 → Int32 → (Nat → Int32) → (Nat → Int32) → Prop} (hw : wq_X10_would jdh jdN jdi jbz jfl jfK p1 p2 p3 p4 p5 p6 p7 p8 E Q) : vx_Met l yX10_would wsX10_would ({ frames := 8, cells := 8, slots := 48, locals := 164 }) (va_Pc [.ref a0, .int p1, .int p2, .int p3, .int p4, .int p5, .int p6, .int p7, .int p8] (cPx l (dC, dI) (kT cyB cyI cyJ cyP) (wd05_32 a0 jaK jfP ja1 jb6 jbc jbV ja3 jbH ja2 jbO jaq jac jbI jbl jbn jba jaa jbA jbz jb6 jbW jbL jck jcc jdh jcc cyI jfl jck cyI jfK jbW cyI jdN jbL cyI jdi) sz)) (va_Qi (fun (r : Int32) (u : Int32 × (Nat → Int32) × (Nat → Int32)) => Q r u.1 u.2.1 u.2.2) (cB (dC, dI) (kT cyB cyI cyJ cyP) (va_A (wd05_32 a0 jaK jfP ja1 jb6 jbc jbV ja3 jbH ja2 jbO jaq jac jbI jbl jbn jba jaa jbA jbz jb6 jbW jbL jck jcc jdh jcc cyI jfl jck cyI jfK jbW cyI jdN jbL cyI jdi) sz) (fun u : Int32 × (Nat → Int32) × (Nat → Int32) => ((wd05_32 a0 jaK jfP ja1 jb6 jbc jbV ja3 jbH ja2 jbO jaq jac jbI jbl jbn jba jaa jbA u.1 jb6 jbW jbL jck jcc jdh jcc cyI u.2.1 jck cyI u.2.2 jbW cyI jdN jbL cyI jdi) : va_W))) (va_A (wd05_32 a0 jaK jfP ja1 jb6 jbc jbV ja3 jbH ja2 jbO jaq jac jbI jbl jbn jba jaa jbA jbz jb6 jbW jbL jck jcc jdh jcc cyI jfl jck cyI jfK jbW cyI jdN jbL cyI jdi) sz)) (vx_X (fun _ => True) (fun (en : String) (u : Int32 × (Nat → Int32) × (Nat → Int32)) (t : State) => E en u.1 u.2.1 u.2.2 ∧ cB (dC, dI) (kT cyB cyI cyJ cyP) (va_A (wd05_32 a0 jaK jfP ja1 jb6 jbc jbV ja3 jbH ja2 jbO jaq jac jbI jbl jbn jba jaa jbA jbz jb6 jbW jbL jck jcc jdh jcc cyI jfl jck cyI jfK jbW cyI jdN jbL cyI jdi) sz) (fun u : Int32 × (Nat → Int32) × (Nat → Int32) => ((wd05_32 a0 jaK jfP ja1 jb6 jbc jbV ja3 jbH ja2 jbO jaq jac jbI jbl jbn jba jaa jbA u.1 jb6 jbW jbL jck jcc jdh jcc cyI u.2.1 jck cyI u.2.2 jbW cyI jdN jbL cyI jdi) : va_W)) u t) (va_A (wd05_32 a0 jaK jfP ja1 jb6 jbc jbV ja3 jbH ja2 jbO jaq jac jbI jbl jbn jba jaa jbA jbz jb6 jbW jbL jck jcc jdh jcc cyI jfl jck cyI jfK jbW cyI jdN jbL cyI jdi) sz)) 8 48 (va_A (wd05_32 a0 jaK jfP ja1 jb6 jbc jbV ja3 jbH ja2 jbO jaq jac jbI jbl jbn jba jaa jbA jbz jb6 jbW jbL jck jcc jdh jcc cyI jfl jck cyI jfK jbW cyI jdN jbL cyI jdi) sz) := by
  refine vx_ofW (cc := cX10_would) (maxL := 9) (ret := (some .int)) (by decide) rfl ?_
  intro p e s m args below meth c s₁ B hml hnt hv
  obtain ⟨rfl, hsz, hP, hK, hD0, hNw, hXl, hXu, hXn, hXt⟩ := hv
  have hx := B.exec
  have hb := B.bytes
  have hr := B.returns
  have hts := atoms_spec (ws := wsX10_would) B.pre
  have hown : s.vm.findClass RX10 = some m.cls := findClass_of_methodNamed B.named
  have hlocks := B.notSynchronized
  subst hsz
  have hD := hD0.self (sz := s.heap.size)
  generalize hAe : va_A (wd05_32 a0 jaK jfP ja1 jb6 jbc jbV ja3 jbH ja2 jbO jaq jac jbI jbl jbn jba jaa jbA jbz jb6 jbW jbL jck jcc jdh jcc cyI jfl jck cyI jfK jbW cyI jdN jbL cyI jdi) s.heap.size = A at hD hXu hXn ⊢
  have hA : ∀ q : Nat, s.heap.size ≤ q → A q := fun q h => by rw [← hAe]; exact Or.inr h
  have hS : va_S A s.heap s.heap [] := va_S.rf
  have hP : va_P (dC, dI) vwCl (wd05_32 a0 jaK jfP ja1 jb6 jbc jbV ja3 jbH ja2 jbO jaq jac jbI jbl jbn jba jaa jbA jbz jb6 jbW jbL jck jcc jdh jcc cyI jfl jck cyI jfK jbW cyI jdN jbL cyI jdi) s.heap := hP
  have hl := lv_entry ([.ref a0, .int p1, .int p2, .int p3, .int p4, .int p5, .int p6, .int p7, .int p8]) (n := 9) (Nat.le_of_ble_eq_true rfl)
  rw [lg_entry_eq]
  generalize (lg_sl ([.ref a0, .int p1, .int p2, .int p3, .int p4, .int p5, .int p6, .int p7, .int p8]) ++ List.replicate (9 - (lg_sl ([.ref a0, .int p1, .int p2, .int p3, .int p4, .int p5, .int p6, .int p7, .int p8])).length) Slot.unset).toArray = ls at hl ⊢
  have hl : lv_has ls 9 [(0, .ref a0), (1, .int p1), (2, .int p2), (3, .int p3), (4, .int p4), (5, .int p5), (6, .int p6), (7, .int p7), (8, .int p8)] := hl
  have hY : cfY l s A := ⟨hXl, hXu, hXn, hXt⟩
  have hXs : cfX l s c A := ⟨hnt, hY⟩
  have C0 : cfx p s m _ meth c cX10_would (some .int) wsX10_would RX10 9 A (dC, dI) (kT cyB cyI cyJ cyP) ∧ cfX l s c A := ⟨⟨hx, hb, hr, hts, hown, hlocks, hml, hA, hK, hNw⟩, hXs⟩
  clear hAe
  obtain ⟨H, hH⟩ : ∃ H, H = s.heap := ⟨_, rfl⟩
  rw [← hH] at hP ⊢
  have hS : va_S A s.heap H [] := by rw [hH]; exact va_S.rf
  have hS := hS
  refine lv_aload_n hx hb (dt_of tkX10_would_k0 0 rfl) rfl (lv_at hl 0 rfl) ?_
  refine lv_iload_n hx hb (dt_of tkX10_would_k0 1 rfl) rfl (lv_at hl 1 rfl) ?_
  refine lv_iconst (v := 0) hx hb (dt_of tkX10_would_k0 2 rfl) (by decide) ?_
  refine lv_bipush (v := 9) hx hb (dt_of tkX10_would_k0 3 rfl) (by decide) ?_
  obtain ⟨hCc, hPc, hDc, hFc⟩ := va_pick (ws' := (wd05_33 a0 jaK jfP ja1 jb6 jbc jbV ja3 jbH ja2 jbO jaq jac jbI jbl jbn jba jaa jbA jbz)) hP hD hS hA [0] (by decide +kernel) rfl
  refine vx_callv (vx_runV (As := [.int p1, .int 0, .int 9]) (rest := []) ⟨hx, hb, hml, hown, hts⟩ (ck_X10_needWithin l dC dI cyB cyI cyJ cyP a0 H.size (jaK) (jfP) (ja1) (.ref jb6) (jbc) (jbV) (ja3) (jbH) (ja2) (jbO) (jaq) (jac) (jbI) (jbl) (jbn) (jba) (jaa) (jbA)  jbz p1 0 9 hw) (cwV 3 hts gX10_would_X10_needWithin rfl rfl rfl (by decide +kernel) ⟨Nat.le_of_ble_eq_true rfl, Nat.le_of_ble_eq_true rfl⟩) ⟨cPx_blind, va_recv (q := (RX10, TX10, 19)) hK hPc (ci := 10) (q0 := 0) rfl rfl, cPx_pre hPc hK hDc hNw hY hS hFc⟩ rfl rfl hl.1 rfl (lv_room (Nat.le_of_ble_eq_true rfl)) (dt_of tkX10_would_k0 4 rfl) ⟨Nat.le_of_ble_eq_true rfl, Nat.le_of_ble_eq_true rfl⟩) hS (fun q _ h => hFc q h) hFc (fun q _ h => hFc q h) (fun en ce q9 u t H1 locs ht hvm hpx hB hz1 hk1 hS hc9 hv9 hcl9 => ?_) (fun u t H1 locs ht hvm hw hB hz1 hk1 hS => ?_)
  · obtain ⟨x1, rfl⟩ : ∃ z, z = u := ⟨_, rfl⟩
    obtain ⟨hw, hP1, hK1, hD1⟩ := hB
    rw [ht] at hP1
    obtain ⟨hP, hD⟩ := va_joinN (wr := (wd05_34 jb6 jbW jbL jck jcc jdh jcc cyI jfl jck cyI jfK jbW cyI jdN jbL cyI jdi)) (w1 := (wd05_33 a0 jaK jfP ja1 jb6 jbc jbV ja3 jbH ja2 jbO jaq jac jbI jbl jbn jba jaa jbA x1)) (wn := (wd05_32 a0 jaK jfP ja1 jb6 jbc jbV ja3 jbH ja2 jbO jaq jac jbI jbl jbn jba jaa jbA x1 jb6 jbW jbL jck jcc jdh jcc cyI jfl jck cyI jfK jbW cyI jdN jbL cyI jdi)) hP hD [0] [1, 2, 3, 4, 5] [5, 0, 1, 2, 3, 4] hCc rfl (by decide +kernel) (by decide +kernel) (by decide +kernel) rfl hk1 hFc hP1 hD1
    generalize H1 = H at hP hS hc9 ⊢
    exact vx_out (fun x hx9 => (hXs.1 x hx9).elim) hlocks hc9 hv9 hcl9 (fun t2 ht2 hal2 => ⟨(x1, jfl, jfK), trivial, ⟨hw, by rw [ht2]; exact hP, va_K.moved hal2 hK, hD⟩, hS.F ht2⟩) hS.2.2 (Nat.le_of_ble_eq_true rfl) (Nat.le_of_ble_eq_true rfl)
  obtain ⟨x1, rfl⟩ : ∃ z, z = u := ⟨_, rfl⟩
  obtain ⟨hP1, hK1, hD1⟩ := hB
  rw [ht] at hP1
  obtain ⟨hP, hD⟩ := va_joinN (wr := (wd05_34 jb6 jbW jbL jck jcc jdh jcc cyI jfl jck cyI jfK jbW cyI jdN jbL cyI jdi)) (w1 := (wd05_33 a0 jaK jfP ja1 jb6 jbc jbV ja3 jbH ja2 jbO jaq jac jbI jbl jbn jba jaa jbA x1)) (wn := (wd05_32 a0 jaK jfP ja1 jb6 jbc jbV ja3 jbH ja2 jbO jaq jac jbI jbl jbn jba jaa jbA x1 jb6 jbW jbL jck jcc jdh jcc cyI jfl jck cyI jfK jbW cyI jdN jbL cyI jdi)) hP hD [0] [1, 2, 3, 4, 5] [5, 0, 1, 2, 3, 4] hCc rfl (by decide +kernel) (by decide +kernel) (by decide +kernel) rfl hk1 hFc hP1 hD1
  generalize H1 = H at hP hS ⊢
  refine lv_aload_n hx hb (dt_of tkX10_would_k0 5 rfl) rfl (lv_at hl 0 rfl) ?_
  refine lv_iload_n hx hb (dt_of tkX10_would_k0 6 rfl) rfl (lv_at hl 2 rfl) ?_
  refine lv_iconst (v := 0) hx hb (dt_of tkX10_would_k0 7 rfl) (by decide) ?_
  refine lv_sipush (v := 999) hx hb (dt_of tkX10_would_k0 8 rfl) (by decide) ?_
  obtain ⟨hCc, hPc, hDc, hFc⟩ := va_pick (ws' := (wd05_33 a0 jaK jfP ja1 jb6 jbc jbV ja3 jbH ja2 jbO jaq jac jbI jbl jbn jba jaa jbA x1)) hP hD hS hA [0] (by decide +kernel) rfl
  refine vx_callv (vx_runV (As := [.int p2, .int 0, .int 999]) (rest := []) ⟨hx, hb, hml, hown, hts⟩ (ck_X10_needWithin l dC dI cyB cyI cyJ cyP a0 H.size (jaK) (jfP) (ja1) (.ref jb6) (jbc) (jbV) (ja3) (jbH) (ja2) (jbO) (jaq) (jac) (jbI) (jbl) (jbn) (jba) (jaa) (jbA)  x1 p2 0 999 hw) (cwV 3 hts gX10_would_X10_needWithin rfl rfl rfl (by decide +kernel) ⟨Nat.le_of_ble_eq_true rfl, Nat.le_of_ble_eq_true rfl⟩) ⟨cPx_blind, va_recv (q := (RX10, TX10, 19)) hK hPc (ci := 10) (q0 := 0) rfl rfl, cPx_pre hPc hK hDc hNw hY hS hFc⟩ rfl rfl hl.1 rfl (lv_room (Nat.le_of_ble_eq_true rfl)) (dt_of tkX10_would_k0 9 rfl) ⟨Nat.le_of_ble_eq_true rfl, Nat.le_of_ble_eq_true rfl⟩) hS (fun q _ h => hFc q h) hFc (fun q _ h => hFc q h) (fun en ce q9 u t H1 locs ht hvm hpx hB hz1 hk1 hS hc9 hv9 hcl9 => ?_) (fun u t H1 locs ht hvm hw hB hz1 hk1 hS => ?_)
  · obtain ⟨x2, rfl⟩ : ∃ z, z = u := ⟨_, rfl⟩
    obtain ⟨hw, hP1, hK1, hD1⟩ := hB
    rw [ht] at hP1
    obtain ⟨hP, hD⟩ := va_joinN (wr := (wd05_34 jb6 jbW jbL jck jcc jdh jcc cyI jfl jck cyI jfK jbW cyI jdN jbL cyI jdi)) (w1 := (wd05_33 a0 jaK jfP ja1 jb6 jbc jbV ja3 jbH ja2 jbO jaq jac jbI jbl jbn jba jaa jbA x2)) (wn := (wd05_32 a0 jaK jfP ja1 jb6 jbc jbV ja3 jbH ja2 jbO jaq jac jbI jbl jbn jba jaa jbA x2 jb6 jbW jbL jck jcc jdh jcc cyI jfl jck cyI jfK jbW cyI jdN jbL cyI jdi)) hP hD [0] [1, 2, 3, 4, 5] [5, 0, 1, 2, 3, 4] hCc rfl (by decide +kernel) (by decide +kernel) (by decide +kernel) rfl hk1 hFc hP1 hD1
    generalize H1 = H at hP hS hc9 ⊢
    exact vx_out (fun x hx9 => (hXs.1 x hx9).elim) hlocks hc9 hv9 hcl9 (fun t2 ht2 hal2 => ⟨(x2, jfl, jfK), trivial, ⟨hw, by rw [ht2]; exact hP, va_K.moved hal2 hK, hD⟩, hS.F ht2⟩) hS.2.2 (Nat.le_of_ble_eq_true rfl) (Nat.le_of_ble_eq_true rfl)
  obtain ⟨x2, rfl⟩ : ∃ z, z = u := ⟨_, rfl⟩
  obtain ⟨hP1, hK1, hD1⟩ := hB
  rw [ht] at hP1
  obtain ⟨hP, hD⟩ := va_joinN (wr := (wd05_34 jb6 jbW jbL jck jcc jdh jcc cyI jfl jck cyI jfK jbW cyI jdN jbL cyI jdi)) (w1 := (wd05_33 a0 jaK jfP ja1 jb6 jbc jbV ja3 jbH ja2 jbO jaq jac jbI jbl jbn jba jaa jbA x2)) (wn := (wd05_32 a0 jaK jfP ja1 jb6 jbc jbV ja3 jbH ja2 jbO jaq jac jbI jbl jbn jba jaa jbA x2 jb6 jbW jbL jck jcc jdh jcc cyI jfl jck cyI jfK jbW cyI jdN jbL cyI jdi)) hP hD [0] [1, 2, 3, 4, 5] [5, 0, 1, 2, 3, 4] hCc rfl (by decide +kernel) (by decide +kernel) (by decide +kernel) rfl hk1 hFc hP1 hD1
  generalize H1 = H at hP hS ⊢
  refine lv_aload_n hx hb (dt_of tkX10_would_k0 10 rfl) rfl (lv_at hl 0 rfl) ?_
  refine lv_iload_n hx hb (dt_of tkX10_would_k0 11 rfl) rfl (lv_at hl 3 rfl) ?_
  refine lv_iconst (v := 0) hx hb (dt_of tkX10_would_k0 12 rfl) (by decide) ?_
  refine lv_sipush (v := 999) hx hb (dt_of tkX10_would_k0 13 rfl) (by decide) ?_
  obtain ⟨hCc, hPc, hDc, hFc⟩ := va_pick (ws' := (wd05_33 a0 jaK jfP ja1 jb6 jbc jbV ja3 jbH ja2 jbO jaq jac jbI jbl jbn jba jaa jbA x2)) hP hD hS hA [0] (by decide +kernel) rfl
  refine vx_callv (vx_runV (As := [.int p3, .int 0, .int 999]) (rest := []) ⟨hx, hb, hml, hown, hts⟩ (ck_X10_needWithin l dC dI cyB cyI cyJ cyP a0 H.size (jaK) (jfP) (ja1) (.ref jb6) (jbc) (jbV) (ja3) (jbH) (ja2) (jbO) (jaq) (jac) (jbI) (jbl) (jbn) (jba) (jaa) (jbA)  x2 p3 0 999 hw) (cwV 3 hts gX10_would_X10_needWithin rfl rfl rfl (by decide +kernel) ⟨Nat.le_of_ble_eq_true rfl, Nat.le_of_ble_eq_true rfl⟩) ⟨cPx_blind, va_recv (q := (RX10, TX10, 19)) hK hPc (ci := 10) (q0 := 0) rfl rfl, cPx_pre hPc hK hDc hNw hY hS hFc⟩ rfl rfl hl.1 rfl (lv_room (Nat.le_of_ble_eq_true rfl)) (dt_of tkX10_would_k0 14 rfl) ⟨Nat.le_of_ble_eq_true rfl, Nat.le_of_ble_eq_true rfl⟩) hS (fun q _ h => hFc q h) hFc (fun q _ h => hFc q h) (fun en ce q9 u t H1 locs ht hvm hpx hB hz1 hk1 hS hc9 hv9 hcl9 => ?_) (fun u t H1 locs ht hvm hw hB hz1 hk1 hS => ?_)
  · obtain ⟨x3, rfl⟩ : ∃ z, z = u := ⟨_, rfl⟩
    obtain ⟨hw, hP1, hK1, hD1⟩ := hB
    rw [ht] at hP1
    obtain ⟨hP, hD⟩ := va_joinN (wr := (wd05_34 jb6 jbW jbL jck jcc jdh jcc cyI jfl jck cyI jfK jbW cyI jdN jbL cyI jdi)) (w1 := (wd05_33 a0 jaK jfP ja1 jb6 jbc jbV ja3 jbH ja2 jbO jaq jac jbI jbl jbn jba jaa jbA x3)) (wn := (wd05_32 a0 jaK jfP ja1 jb6 jbc jbV ja3 jbH ja2 jbO jaq jac jbI jbl jbn jba jaa jbA x3 jb6 jbW jbL jck jcc jdh jcc cyI jfl jck cyI jfK jbW cyI jdN jbL cyI jdi)) hP hD [0] [1, 2, 3, 4, 5] [5, 0, 1, 2, 3, 4] hCc rfl (by decide +kernel) (by decide +kernel) (by decide +kernel) rfl hk1 hFc hP1 hD1
    generalize H1 = H at hP hS hc9 ⊢
    exact vx_out (fun x hx9 => (hXs.1 x hx9).elim) hlocks hc9 hv9 hcl9 (fun t2 ht2 hal2 => ⟨(x3, jfl, jfK), trivial, ⟨hw, by rw [ht2]; exact hP, va_K.moved hal2 hK, hD⟩, hS.F ht2⟩) hS.2.2 (Nat.le_of_ble_eq_true rfl) (Nat.le_of_ble_eq_true rfl)
  obtain ⟨x3, rfl⟩ : ∃ z, z = u := ⟨_, rfl⟩
  obtain ⟨hP1, hK1, hD1⟩ := hB
  rw [ht] at hP1
  obtain ⟨hP, hD⟩ := va_joinN (wr := (wd05_34 jb6 jbW jbL jck jcc jdh jcc cyI jfl jck cyI jfK jbW cyI jdN jbL cyI jdi)) (w1 := (wd05_33 a0 jaK jfP ja1 jb6 jbc jbV ja3 jbH ja2 jbO jaq jac jbI jbl jbn jba jaa jbA x3)) (wn := (wd05_32 a0 jaK jfP ja1 jb6 jbc jbV ja3 jbH ja2 jbO jaq jac jbI jbl jbn jba jaa jbA x3 jb6 jbW jbL jck jcc jdh jcc cyI jfl jck cyI jfK jbW cyI jdN jbL cyI jdi)) hP hD [0] [1, 2, 3, 4, 5] [5, 0, 1, 2, 3, 4] hCc rfl (by decide +kernel) (by decide +kernel) (by decide +kernel) rfl hk1 hFc hP1 hD1
  generalize H1 = H at hP hS ⊢
  refine lv_aload_n hx hb (dt_of tkX10_would_k0 15 rfl) rfl (lv_at hl 0 rfl) ?_
  refine lv_iload hx hb (dt_of tkX10_would_k27 0 rfl) (lv_at hl 4 rfl) ?_
  refine lv_iconst (v := 0) hx hb (dt_of tkX10_would_k27 1 rfl) (by decide) ?_
  refine lv_sipush (v := 999) hx hb (dt_of tkX10_would_k27 2 rfl) (by decide) ?_
  obtain ⟨hCc, hPc, hDc, hFc⟩ := va_pick (ws' := (wd05_33 a0 jaK jfP ja1 jb6 jbc jbV ja3 jbH ja2 jbO jaq jac jbI jbl jbn jba jaa jbA x3)) hP hD hS hA [0] (by decide +kernel) rfl
  refine vx_callv (vx_runV (As := [.int p4, .int 0, .int 999]) (rest := []) ⟨hx, hb, hml, hown, hts⟩ (ck_X10_needWithin l dC dI cyB cyI cyJ cyP a0 H.size (jaK) (jfP) (ja1) (.ref jb6) (jbc) (jbV) (ja3) (jbH) (ja2) (jbO) (jaq) (jac) (jbI) (jbl) (jbn) (jba) (jaa) (jbA)  x3 p4 0 999 hw) (cwV 3 hts gX10_would_X10_needWithin rfl rfl rfl (by decide +kernel) ⟨Nat.le_of_ble_eq_true rfl, Nat.le_of_ble_eq_true rfl⟩) ⟨cPx_blind, va_recv (q := (RX10, TX10, 19)) hK hPc (ci := 10) (q0 := 0) rfl rfl, cPx_pre hPc hK hDc hNw hY hS hFc⟩ rfl rfl hl.1 rfl (lv_room (Nat.le_of_ble_eq_true rfl)) (dt_of tkX10_would_k27 3 rfl) ⟨Nat.le_of_ble_eq_true rfl, Nat.le_of_ble_eq_true rfl⟩) hS (fun q _ h => hFc q h) hFc (fun q _ h => hFc q h) (fun en ce q9 u t H1 locs ht hvm hpx hB hz1 hk1 hS hc9 hv9 hcl9 => ?_) (fun u t H1 locs ht hvm hw hB hz1 hk1 hS => ?_)
  · obtain ⟨x4, rfl⟩ : ∃ z, z = u := ⟨_, rfl⟩
    obtain ⟨hw, hP1, hK1, hD1⟩ := hB
    rw [ht] at hP1
    obtain ⟨hP, hD⟩ := va_joinN (wr := (wd05_34 jb6 jbW jbL jck jcc jdh jcc cyI jfl jck cyI jfK jbW cyI jdN jbL cyI jdi)) (w1 := (wd05_33 a0 jaK jfP ja1 jb6 jbc jbV ja3 jbH ja2 jbO jaq jac jbI jbl jbn jba jaa jbA x4)) (wn := (wd05_32 a0 jaK jfP ja1 jb6 jbc jbV ja3 jbH ja2 jbO jaq jac jbI jbl jbn jba jaa jbA x4 jb6 jbW jbL jck jcc jdh jcc cyI jfl jck cyI jfK jbW cyI jdN jbL cyI jdi)) hP hD [0] [1, 2, 3, 4, 5] [5, 0, 1, 2, 3, 4] hCc rfl (by decide +kernel) (by decide +kernel) (by decide +kernel) rfl hk1 hFc hP1 hD1
    generalize H1 = H at hP hS hc9 ⊢
    exact vx_out (fun x hx9 => (hXs.1 x hx9).elim) hlocks hc9 hv9 hcl9 (fun t2 ht2 hal2 => ⟨(x4, jfl, jfK), trivial, ⟨hw, by rw [ht2]; exact hP, va_K.moved hal2 hK, hD⟩, hS.F ht2⟩) hS.2.2 (Nat.le_of_ble_eq_true rfl) (Nat.le_of_ble_eq_true rfl)
  obtain ⟨x4, rfl⟩ : ∃ z, z = u := ⟨_, rfl⟩
  obtain ⟨hP1, hK1, hD1⟩ := hB
  rw [ht] at hP1
  obtain ⟨hP, hD⟩ := va_joinN (wr := (wd05_34 jb6 jbW jbL jck jcc jdh jcc cyI jfl jck cyI jfK jbW cyI jdN jbL cyI jdi)) (w1 := (wd05_33 a0 jaK jfP ja1 jb6 jbc jbV ja3 jbH ja2 jbO jaq jac jbI jbl jbn jba jaa jbA x4)) (wn := (wd05_32 a0 jaK jfP ja1 jb6 jbc jbV ja3 jbH ja2 jbO jaq jac jbI jbl jbn jba jaa jbA x4 jb6 jbW jbL jck jcc jdh jcc cyI jfl jck cyI jfK jbW cyI jdN jbL cyI jdi)) hP hD [0] [1, 2, 3, 4, 5] [5, 0, 1, 2, 3, 4] hCc rfl (by decide +kernel) (by decide +kernel) (by decide +kernel) rfl hk1 hFc hP1 hD1
  generalize H1 = H at hP hS ⊢
  refine lv_aload_n hx hb (dt_of tkX10_would_k27 4 rfl) rfl (lv_at hl 0 rfl) ?_
  refine lv_iload hx hb (dt_of tkX10_would_k27 5 rfl) (lv_at hl 5 rfl) ?_
  refine lv_iconst (v := 0) hx hb (dt_of tkX10_would_k27 6 rfl) (by decide) ?_
  refine lv_iconst (v := 5) hx hb (dt_of tkX10_would_k27 7 rfl) (by decide) ?_
  obtain ⟨hCc, hPc, hDc, hFc⟩ := va_pick (ws' := (wd05_33 a0 jaK jfP ja1 jb6 jbc jbV ja3 jbH ja2 jbO jaq jac jbI jbl jbn jba jaa jbA x4)) hP hD hS hA [0] (by decide +kernel) rfl
  refine vx_callv (vx_runV (As := [.int p5, .int 0, .int 5]) (rest := []) ⟨hx, hb, hml, hown, hts⟩ (ck_X10_needWithin l dC dI cyB cyI cyJ cyP a0 H.size (jaK) (jfP) (ja1) (.ref jb6) (jbc) (jbV) (ja3) (jbH) (ja2) (jbO) (jaq) (jac) (jbI) (jbl) (jbn) (jba) (jaa) (jbA)  x4 p5 0 5 hw) (cwV 3 hts gX10_would_X10_needWithin rfl rfl rfl (by decide +kernel) ⟨Nat.le_of_ble_eq_true rfl, Nat.le_of_ble_eq_true rfl⟩) ⟨cPx_blind, va_recv (q := (RX10, TX10, 19)) hK hPc (ci := 10) (q0 := 0) rfl rfl, cPx_pre hPc hK hDc hNw hY hS hFc⟩ rfl rfl hl.1 rfl (lv_room (Nat.le_of_ble_eq_true rfl)) (dt_of tkX10_would_k27 8 rfl) ⟨Nat.le_of_ble_eq_true rfl, Nat.le_of_ble_eq_true rfl⟩) hS (fun q _ h => hFc q h) hFc (fun q _ h => hFc q h) (fun en ce q9 u t H1 locs ht hvm hpx hB hz1 hk1 hS hc9 hv9 hcl9 => ?_) (fun u t H1 locs ht hvm hw hB hz1 hk1 hS => ?_)
  · obtain ⟨x5, rfl⟩ : ∃ z, z = u := ⟨_, rfl⟩
    obtain ⟨hw, hP1, hK1, hD1⟩ := hB
    rw [ht] at hP1
    obtain ⟨hP, hD⟩ := va_joinN (wr := (wd05_34 jb6 jbW jbL jck jcc jdh jcc cyI jfl jck cyI jfK jbW cyI jdN jbL cyI jdi)) (w1 := (wd05_33 a0 jaK jfP ja1 jb6 jbc jbV ja3 jbH ja2 jbO jaq jac jbI jbl jbn jba jaa jbA x5)) (wn := (wd05_32 a0 jaK jfP ja1 jb6 jbc jbV ja3 jbH ja2 jbO jaq jac jbI jbl jbn jba jaa jbA x5 jb6 jbW jbL jck jcc jdh jcc cyI jfl jck cyI jfK jbW cyI jdN jbL cyI jdi)) hP hD [0] [1, 2, 3, 4, 5] [5, 0, 1, 2, 3, 4] hCc rfl (by decide +kernel) (by decide +kernel) (by decide +kernel) rfl hk1 hFc hP1 hD1
    generalize H1 = H at hP hS hc9 ⊢
    exact vx_out (fun x hx9 => (hXs.1 x hx9).elim) hlocks hc9 hv9 hcl9 (fun t2 ht2 hal2 => ⟨(x5, jfl, jfK), trivial, ⟨hw, by rw [ht2]; exact hP, va_K.moved hal2 hK, hD⟩, hS.F ht2⟩) hS.2.2 (Nat.le_of_ble_eq_true rfl) (Nat.le_of_ble_eq_true rfl)
  obtain ⟨x5, rfl⟩ : ∃ z, z = u := ⟨_, rfl⟩
  obtain ⟨hP1, hK1, hD1⟩ := hB
  rw [ht] at hP1
  obtain ⟨hP, hD⟩ := va_joinN (wr := (wd05_34 jb6 jbW jbL jck jcc jdh jcc cyI jfl jck cyI jfK jbW cyI jdN jbL cyI jdi)) (w1 := (wd05_33 a0 jaK jfP ja1 jb6 jbc jbV ja3 jbH ja2 jbO jaq jac jbI jbl jbn jba jaa jbA x5)) (wn := (wd05_32 a0 jaK jfP ja1 jb6 jbc jbV ja3 jbH ja2 jbO jaq jac jbI jbl jbn jba jaa jbA x5 jb6 jbW jbL jck jcc jdh jcc cyI jfl jck cyI jfK jbW cyI jdN jbL cyI jdi)) hP hD [0] [1, 2, 3, 4, 5] [5, 0, 1, 2, 3, 4] hCc rfl (by decide +kernel) (by decide +kernel) (by decide +kernel) rfl hk1 hFc hP1 hD1
  generalize H1 = H at hP hS ⊢
  refine lv_aload_n hx hb (dt_of tkX10_would_k27 9 rfl) rfl (lv_at hl 0 rfl) ?_
  refine lv_iload hx hb (dt_of tkX10_would_k27 10 rfl) (lv_at hl 6 rfl) ?_
  refine lv_iconst (v := 1) hx hb (dt_of tkX10_would_k27 11 rfl) (by decide) ?_
  refine lv_bipush (v := 31) hx hb (dt_of tkX10_would_k27 12 rfl) (by decide) ?_
  obtain ⟨hCc, hPc, hDc, hFc⟩ := va_pick (ws' := (wd05_33 a0 jaK jfP ja1 jb6 jbc jbV ja3 jbH ja2 jbO jaq jac jbI jbl jbn jba jaa jbA x5)) hP hD hS hA [0] (by decide +kernel) rfl
  refine vx_callv (vx_runV (As := [.int p6, .int 1, .int 31]) (rest := []) ⟨hx, hb, hml, hown, hts⟩ (ck_X10_needWithin l dC dI cyB cyI cyJ cyP a0 H.size (jaK) (jfP) (ja1) (.ref jb6) (jbc) (jbV) (ja3) (jbH) (ja2) (jbO) (jaq) (jac) (jbI) (jbl) (jbn) (jba) (jaa) (jbA)  x5 p6 1 31 hw) (cwV 3 hts gX10_would_X10_needWithin rfl rfl rfl (by decide +kernel) ⟨Nat.le_of_ble_eq_true rfl, Nat.le_of_ble_eq_true rfl⟩) ⟨cPx_blind, va_recv (q := (RX10, TX10, 19)) hK hPc (ci := 10) (q0 := 0) rfl rfl, cPx_pre hPc hK hDc hNw hY hS hFc⟩ rfl rfl hl.1 rfl (lv_room (Nat.le_of_ble_eq_true rfl)) (dt_of tkX10_would_k27 13 rfl) ⟨Nat.le_of_ble_eq_true rfl, Nat.le_of_ble_eq_true rfl⟩) hS (fun q _ h => hFc q h) hFc (fun q _ h => hFc q h) (fun en ce q9 u t H1 locs ht hvm hpx hB hz1 hk1 hS hc9 hv9 hcl9 => ?_) (fun u t H1 locs ht hvm hw hB hz1 hk1 hS => ?_)
  · obtain ⟨x6, rfl⟩ : ∃ z, z = u := ⟨_, rfl⟩
    obtain ⟨hw, hP1, hK1, hD1⟩ := hB
    rw [ht] at hP1
    obtain ⟨hP, hD⟩ := va_joinN (wr := (wd05_34 jb6 jbW jbL jck jcc jdh jcc cyI jfl jck cyI jfK jbW cyI jdN jbL cyI jdi)) (w1 := (wd05_33 a0 jaK jfP ja1 jb6 jbc jbV ja3 jbH ja2 jbO jaq jac jbI jbl jbn jba jaa jbA x6)) (wn := (wd05_32 a0 jaK jfP ja1 jb6 jbc jbV ja3 jbH ja2 jbO jaq jac jbI jbl jbn jba jaa jbA x6 jb6 jbW jbL jck jcc jdh jcc cyI jfl jck cyI jfK jbW cyI jdN jbL cyI jdi)) hP hD [0] [1, 2, 3, 4, 5] [5, 0, 1, 2, 3, 4] hCc rfl (by decide +kernel) (by decide +kernel) (by decide +kernel) rfl hk1 hFc hP1 hD1
    generalize H1 = H at hP hS hc9 ⊢
    exact vx_out (fun x hx9 => (hXs.1 x hx9).elim) hlocks hc9 hv9 hcl9 (fun t2 ht2 hal2 => ⟨(x6, jfl, jfK), trivial, ⟨hw, by rw [ht2]; exact hP, va_K.moved hal2 hK, hD⟩, hS.F ht2⟩) hS.2.2 (Nat.le_of_ble_eq_true rfl) (Nat.le_of_ble_eq_true rfl)
  obtain ⟨x6, rfl⟩ : ∃ z, z = u := ⟨_, rfl⟩
  obtain ⟨hP1, hK1, hD1⟩ := hB
  rw [ht] at hP1
  obtain ⟨hP, hD⟩ := va_joinN (wr := (wd05_34 jb6 jbW jbL jck jcc jdh jcc cyI jfl jck cyI jfK jbW cyI jdN jbL cyI jdi)) (w1 := (wd05_33 a0 jaK jfP ja1 jb6 jbc jbV ja3 jbH ja2 jbO jaq jac jbI jbl jbn jba jaa jbA x6)) (wn := (wd05_32 a0 jaK jfP ja1 jb6 jbc jbV ja3 jbH ja2 jbO jaq jac jbI jbl jbn jba jaa jbA x6 jb6 jbW jbL jck jcc jdh jcc cyI jfl jck cyI jfK jbW cyI jdN jbL cyI jdi)) hP hD [0] [1, 2, 3, 4, 5] [5, 0, 1, 2, 3, 4] hCc rfl (by decide +kernel) (by decide +kernel) (by decide +kernel) rfl hk1 hFc hP1 hD1
  generalize H1 = H at hP hS ⊢
  refine lv_aload_n hx hb (dt_of tkX10_would_k27 14 rfl) rfl (lv_at hl 0 rfl) ?_
  refine lv_iload hx hb (dt_of tkX10_would_k27 15 rfl) (lv_at hl 7 rfl) ?_
  refine lv_iconst (v := 0) hx hb (dt_of tkX10_would_k56 0 rfl) (by decide) ?_
  refine lv_iconst (v := 5) hx hb (dt_of tkX10_would_k56 1 rfl) (by decide) ?_
  obtain ⟨hCc, hPc, hDc, hFc⟩ := va_pick (ws' := (wd05_33 a0 jaK jfP ja1 jb6 jbc jbV ja3 jbH ja2 jbO jaq jac jbI jbl jbn jba jaa jbA x6)) hP hD hS hA [0] (by decide +kernel) rfl
  refine vx_callv (vx_runV (As := [.int p7, .int 0, .int 5]) (rest := []) ⟨hx, hb, hml, hown, hts⟩ (ck_X10_needWithin l dC dI cyB cyI cyJ cyP a0 H.size (jaK) (jfP) (ja1) (.ref jb6) (jbc) (jbV) (ja3) (jbH) (ja2) (jbO) (jaq) (jac) (jbI) (jbl) (jbn) (jba) (jaa) (jbA)  x6 p7 0 5 hw) (cwV 3 hts gX10_would_X10_needWithin rfl rfl rfl (by decide +kernel) ⟨Nat.le_of_ble_eq_true rfl, Nat.le_of_ble_eq_true rfl⟩) ⟨cPx_blind, va_recv (q := (RX10, TX10, 19)) hK hPc (ci := 10) (q0 := 0) rfl rfl, cPx_pre hPc hK hDc hNw hY hS hFc⟩ rfl rfl hl.1 rfl (lv_room (Nat.le_of_ble_eq_true rfl)) (dt_of tkX10_would_k56 2 rfl) ⟨Nat.le_of_ble_eq_true rfl, Nat.le_of_ble_eq_true rfl⟩) hS (fun q _ h => hFc q h) hFc (fun q _ h => hFc q h) (fun en ce q9 u t H1 locs ht hvm hpx hB hz1 hk1 hS hc9 hv9 hcl9 => ?_) (fun u t H1 locs ht hvm hw hB hz1 hk1 hS => ?_)
  · obtain ⟨x7, rfl⟩ : ∃ z, z = u := ⟨_, rfl⟩
    obtain ⟨hw, hP1, hK1, hD1⟩ := hB
    rw [ht] at hP1
    obtain ⟨hP, hD⟩ := va_joinN (wr := (wd05_34 jb6 jbW jbL jck jcc jdh jcc cyI jfl jck cyI jfK jbW cyI jdN jbL cyI jdi)) (w1 := (wd05_33 a0 jaK jfP ja1 jb6 jbc jbV ja3 jbH ja2 jbO jaq jac jbI jbl jbn jba jaa jbA x7)) (wn := (wd05_32 a0 jaK jfP ja1 jb6 jbc jbV ja3 jbH ja2 jbO jaq jac jbI jbl jbn jba jaa jbA x7 jb6 jbW jbL jck jcc jdh jcc cyI jfl jck cyI jfK jbW cyI jdN jbL cyI jdi)) hP hD [0] [1, 2, 3, 4, 5] [5, 0, 1, 2, 3, 4] hCc rfl (by decide +kernel) (by decide +kernel) (by decide +kernel) rfl hk1 hFc hP1 hD1
    generalize H1 = H at hP hS hc9 ⊢
    exact vx_out (fun x hx9 => (hXs.1 x hx9).elim) hlocks hc9 hv9 hcl9 (fun t2 ht2 hal2 => ⟨(x7, jfl, jfK), trivial, ⟨hw, by rw [ht2]; exact hP, va_K.moved hal2 hK, hD⟩, hS.F ht2⟩) hS.2.2 (Nat.le_of_ble_eq_true rfl) (Nat.le_of_ble_eq_true rfl)
  obtain ⟨x7, rfl⟩ : ∃ z, z = u := ⟨_, rfl⟩
  obtain ⟨hP1, hK1, hD1⟩ := hB
  rw [ht] at hP1
  obtain ⟨hP, hD⟩ := va_joinN (wr := (wd05_34 jb6 jbW jbL jck jcc jdh jcc cyI jfl jck cyI jfK jbW cyI jdN jbL cyI jdi)) (w1 := (wd05_33 a0 jaK jfP ja1 jb6 jbc jbV ja3 jbH ja2 jbO jaq jac jbI jbl jbn jba jaa jbA x7)) (wn := (wd05_32 a0 jaK jfP ja1 jb6 jbc jbV ja3 jbH ja2 jbO jaq jac jbI jbl jbn jba jaa jbA x7 jb6 jbW jbL jck jcc jdh jcc cyI jfl jck cyI jfK jbW cyI jdN jbL cyI jdi)) hP hD [0] [1, 2, 3, 4, 5] [5, 0, 1, 2, 3, 4] hCc rfl (by decide +kernel) (by decide +kernel) (by decide +kernel) rfl hk1 hFc hP1 hD1
  generalize H1 = H at hP hS ⊢
  refine lv_aload_n hx hb (dt_of tkX10_would_k56 3 rfl) rfl (lv_at hl 0 rfl) ?_
  refine lv_iload hx hb (dt_of tkX10_would_k56 4 rfl) (lv_at hl 8 rfl) ?_
  refine lv_iconst (v := 0) hx hb (dt_of tkX10_would_k56 5 rfl) (by decide) ?_
  refine lv_sipush (v := 999) hx hb (dt_of tkX10_would_k56 6 rfl) (by decide) ?_
  obtain ⟨hCc, hPc, hDc, hFc⟩ := va_pick (ws' := (wd05_33 a0 jaK jfP ja1 jb6 jbc jbV ja3 jbH ja2 jbO jaq jac jbI jbl jbn jba jaa jbA x7)) hP hD hS hA [0] (by decide +kernel) rfl
  refine vx_callv (vx_runV (As := [.int p8, .int 0, .int 999]) (rest := []) ⟨hx, hb, hml, hown, hts⟩ (ck_X10_needWithin l dC dI cyB cyI cyJ cyP a0 H.size (jaK) (jfP) (ja1) (.ref jb6) (jbc) (jbV) (ja3) (jbH) (ja2) (jbO) (jaq) (jac) (jbI) (jbl) (jbn) (jba) (jaa) (jbA)  x7 p8 0 999 hw) (cwV 3 hts gX10_would_X10_needWithin rfl rfl rfl (by decide +kernel) ⟨Nat.le_of_ble_eq_true rfl, Nat.le_of_ble_eq_true rfl⟩) ⟨cPx_blind, va_recv (q := (RX10, TX10, 19)) hK hPc (ci := 10) (q0 := 0) rfl rfl, cPx_pre hPc hK hDc hNw hY hS hFc⟩ rfl rfl hl.1 rfl (lv_room (Nat.le_of_ble_eq_true rfl)) (dt_of tkX10_would_k56 7 rfl) ⟨Nat.le_of_ble_eq_true rfl, Nat.le_of_ble_eq_true rfl⟩) hS (fun q _ h => hFc q h) hFc (fun q _ h => hFc q h) (fun en ce q9 u t H1 locs ht hvm hpx hB hz1 hk1 hS hc9 hv9 hcl9 => ?_) (fun u t H1 locs ht hvm hw hB hz1 hk1 hS => ?_)
  · obtain ⟨x8, rfl⟩ : ∃ z, z = u := ⟨_, rfl⟩
    obtain ⟨hw, hP1, hK1, hD1⟩ := hB
    rw [ht] at hP1
    obtain ⟨hP, hD⟩ := va_joinN (wr := (wd05_34 jb6 jbW jbL jck jcc jdh jcc cyI jfl jck cyI jfK jbW cyI jdN jbL cyI jdi)) (w1 := (wd05_33 a0 jaK jfP ja1 jb6 jbc jbV ja3 jbH ja2 jbO jaq jac jbI jbl jbn jba jaa jbA x8)) (wn := (wd05_32 a0 jaK jfP ja1 jb6 jbc jbV ja3 jbH ja2 jbO jaq jac jbI jbl jbn jba jaa jbA x8 jb6 jbW jbL jck jcc jdh jcc cyI jfl jck cyI jfK jbW cyI jdN jbL cyI jdi)) hP hD [0] [1, 2, 3, 4, 5] [5, 0, 1, 2, 3, 4] hCc rfl (by decide +kernel) (by decide +kernel) (by decide +kernel) rfl hk1 hFc hP1 hD1
    generalize H1 = H at hP hS hc9 ⊢
    exact vx_out (fun x hx9 => (hXs.1 x hx9).elim) hlocks hc9 hv9 hcl9 (fun t2 ht2 hal2 => ⟨(x8, jfl, jfK), trivial, ⟨hw, by rw [ht2]; exact hP, va_K.moved hal2 hK, hD⟩, hS.F ht2⟩) hS.2.2 (Nat.le_of_ble_eq_true rfl) (Nat.le_of_ble_eq_true rfl)
  obtain ⟨x8, rfl⟩ : ∃ z, z = u := ⟨_, rfl⟩
  obtain ⟨hP1, hK1, hD1⟩ := hB
  rw [ht] at hP1
  obtain ⟨hP, hD⟩ := va_joinN (wr := (wd05_34 jb6 jbW jbL jck jcc jdh jcc cyI jfl jck cyI jfK jbW cyI jdN jbL cyI jdi)) (w1 := (wd05_33 a0 jaK jfP ja1 jb6 jbc jbV ja3 jbH ja2 jbO jaq jac jbI jbl jbn jba jaa jbA x8)) (wn := (wd05_32 a0 jaK jfP ja1 jb6 jbc jbV ja3 jbH ja2 jbO jaq jac jbI jbl jbn jba jaa jbA x8 jb6 jbW jbL jck jcc jdh jcc cyI jfl jck cyI jfK jbW cyI jdN jbL cyI jdi)) hP hD [0] [1, 2, 3, 4, 5] [5, 0, 1, 2, 3, 4] hCc rfl (by decide +kernel) (by decide +kernel) (by decide +kernel) rfl hk1 hFc hP1 hD1
  generalize H1 = H at hP hS ⊢
  refine lv_aload_n hx hb (dt_of tkX10_would_k56 8 rfl) rfl (lv_at hl 0 rfl) ?_
  refine va_get (D := (dC, dI)) (ci := 10) (v := .ref jb6) (C := RX10) (T := TX10) (N := 19) hx hb hts ui_X10_would_X10 hown hK hP 0 rfl rfl 3 (by decide) (hts _ uw_X10_would_f29) (fun _ h9 => h9) rfl (dt_of tkX10_would_k56 9 rfl) ?_
  refine lv_iload_n hx hb (dt_of tkX10_would_k56 10 rfl) rfl (lv_at hl 1 rfl) ?_
  refine lv_iload_n hx hb (dt_of tkX10_would_k56 11 rfl) rfl (lv_at hl 2 rfl) ?_
  refine lv_iload_n hx hb (dt_of tkX10_would_k56 12 rfl) rfl (lv_at hl 3 rfl) ?_
  refine lv_iload hx hb (dt_of tkX10_would_k56 13 rfl) (lv_at hl 4 rfl) ?_
  refine lv_iload hx hb (dt_of tkX10_would_k56 14 rfl) (lv_at hl 5 rfl) ?_
  obtain ⟨hCc, hPc, hDc, hFc⟩ := va_pick (ws' := (wd05_35 jb6 jbW jbL jck jcc jdh jcc cyI jfl)) hP hD hS hA [1, 2] (by decide +kernel) rfl
  refine va_callv (va_runV (As := [.int p1, .int p2, .int p3, .int p4, .int p5]) (rest := []) ⟨hx, hb, hml, hown, hts⟩ (ck_X4_setFacts l dC dI cyB cyI cyJ cyP jb6 jcc H.size (.ref jbW) (.ref jbL) (.ref jck) (.int jdh)  jfl p1 p2 p3 p4 p5 hw) (cwV 5 hts gX10_would_X4_setFacts rfl rfl rfl (by decide +kernel) ⟨Nat.le_of_ble_eq_true rfl, Nat.le_of_ble_eq_true rfl⟩) ⟨cPc_blind, va_recv (q := (RX4, TX4, 5)) hK hPc (ci := 4) (q0 := 0) rfl rfl, cPc_pre hPc hK hDc hNw⟩ rfl rfl hl.1 rfl (lv_room (Nat.le_of_ble_eq_true rfl)) (dt_of tkX10_would_k56 15 rfl) ⟨Nat.le_of_ble_eq_true rfl, Nat.le_of_ble_eq_true rfl⟩) hS (fun q _ h => hFc q h) hFc (fun u t H1 locs ht hvm hw hB hz1 hk1 hS => ?_)
  obtain ⟨f9, rfl⟩ : ∃ z, z = u := ⟨_, rfl⟩
  obtain ⟨hP1, hK1, hD1⟩ := hB
  rw [ht] at hP1
  obtain ⟨hP, hD⟩ := va_joinN (wr := (wd05_36 a0 jaK jfP ja1 jb6 jbc jbV ja3 jbH ja2 jbO jaq jac jbI jbl jbn jba jaa jbA x8 jck cyI jfK jbW cyI jdN jbL cyI jdi)) (w1 := (wd05_35 jb6 jbW jbL jck jcc jdh jcc cyI f9)) (wn := (wd05_32 a0 jaK jfP ja1 jb6 jbc jbV ja3 jbH ja2 jbO jaq jac jbI jbl jbn jba jaa jbA x8 jb6 jbW jbL jck jcc jdh jcc cyI f9 jck cyI jfK jbW cyI jdN jbL cyI jdi)) hP hD [1, 2] [0, 3, 4, 5] [0, 4, 5, 1, 2, 3] hCc rfl (by decide +kernel) (by decide +kernel) (by decide +kernel) rfl hk1 hFc hP1 hD1
  generalize H1 = H at hP hS ⊢
  refine lv_aload_n hx hb (dt_of tkX10_would_k85 0 rfl) rfl (lv_at hl 0 rfl) ?_
  refine va_get (D := (dC, dI)) (ci := 10) (v := .ref jb6) (C := RX10) (T := TX10) (N := 19) hx hb hts ui_X10_would_X10 hown hK hP 0 rfl rfl 3 (by decide) (hts _ uw_X10_would_f29) (fun _ h9 => h9) rfl (dt_of tkX10_would_k85 1 rfl) ?_
  refine lv_iload hx hb (dt_of tkX10_would_k85 2 rfl) (lv_at hl 6 rfl) ?_
  refine lv_iload hx hb (dt_of tkX10_would_k85 3 rfl) (lv_at hl 7 rfl) ?_
  refine lv_iload hx hb (dt_of tkX10_would_k85 4 rfl) (lv_at hl 8 rfl) ?_
  obtain ⟨hCc, hPc, hDc, hFc⟩ := va_pick (ws' := (wd05_35 jb6 jbW jbL jck jcc jdh jcc cyI f9)) hP hD hS hA [1, 2] (by decide +kernel) rfl
  refine va_callv (va_runV (As := [.int p6, .int p7, .int p8]) (rest := []) ⟨hx, hb, hml, hown, hts⟩ (ck_X4_setTimes l dC dI cyB cyI cyJ cyP jb6 jcc H.size (.ref jbW) (.ref jbL) (.ref jck) (.int jdh)  f9 p6 p7 p8 hw) (cwV 3 hts gX10_would_X4_setTimes rfl rfl rfl (by decide +kernel) ⟨Nat.le_of_ble_eq_true rfl, Nat.le_of_ble_eq_true rfl⟩) ⟨cPc_blind, va_recv (q := (RX4, TX4, 5)) hK hPc (ci := 4) (q0 := 0) rfl rfl, cPc_pre hPc hK hDc hNw⟩ rfl rfl hl.1 rfl (lv_room (Nat.le_of_ble_eq_true rfl)) (dt_of tkX10_would_k85 5 rfl) ⟨Nat.le_of_ble_eq_true rfl, Nat.le_of_ble_eq_true rfl⟩) hS (fun q _ h => hFc q h) hFc (fun u t H1 locs ht hvm hw hB hz1 hk1 hS => ?_)
  obtain ⟨f10, rfl⟩ : ∃ z, z = u := ⟨_, rfl⟩
  obtain ⟨hP1, hK1, hD1⟩ := hB
  rw [ht] at hP1
  obtain ⟨hP, hD⟩ := va_joinN (wr := (wd05_36 a0 jaK jfP ja1 jb6 jbc jbV ja3 jbH ja2 jbO jaq jac jbI jbl jbn jba jaa jbA x8 jck cyI jfK jbW cyI jdN jbL cyI jdi)) (w1 := (wd05_35 jb6 jbW jbL jck jcc jdh jcc cyI f10)) (wn := (wd05_32 a0 jaK jfP ja1 jb6 jbc jbV ja3 jbH ja2 jbO jaq jac jbI jbl jbn jba jaa jbA x8 jb6 jbW jbL jck jcc jdh jcc cyI f10 jck cyI jfK jbW cyI jdN jbL cyI jdi)) hP hD [1, 2] [0, 3, 4, 5] [0, 4, 5, 1, 2, 3] hCc rfl (by decide +kernel) (by decide +kernel) (by decide +kernel) rfl hk1 hFc hP1 hD1
  generalize H1 = H at hP hS ⊢
  refine lv_aload_n hx hb (dt_of tkX10_would_k85 6 rfl) rfl (lv_at hl 0 rfl) ?_
  refine va_get (D := (dC, dI)) (ci := 10) (v := .ref jb6) (C := RX10) (T := TX10) (N := 19) hx hb hts ui_X10_would_X10 hown hK hP 0 rfl rfl 3 (by decide) (hts _ uw_X10_would_f29) (fun _ h9 => h9) rfl (dt_of tkX10_would_k85 7 rfl) ?_
  obtain ⟨hCc, hPc, hDc, hFc⟩ := va_pick (ws' := (wd05_37 jb6 jbW jbL jck jcc jdh jck cyI jfK jbW cyI jdN jbL cyI jdi jcc cyI f10)) hP hD hS hA [1, 3, 4, 5, 2] (by decide +kernel) rfl
  refine va_calli (va_runV (As := []) (rest := []) ⟨hx, hb, hml, hown, hts⟩ (ck_X4_reach l dC dI cyB cyI cyJ cyP jb6 jck jbW jcc jbL H.size  jdh jdN jdi f10 jfK  hw) (cwV 0 hts gX10_would_X4_reach rfl rfl rfl (by decide +kernel) ⟨Nat.le_of_ble_eq_true rfl, Nat.le_of_ble_eq_true rfl⟩) ⟨cPc_blind, va_recv (q := (RX4, TX4, 5)) hK hPc (ci := 4) (q0 := 0) rfl rfl, cPc_pre hPc hK hDc hNw⟩ rfl rfl hl.1 rfl (lv_room (Nat.le_of_ble_eq_true rfl)) (dt_of tkX10_would_k85 8 rfl) ⟨Nat.le_of_ble_eq_true rfl, Nat.le_of_ble_eq_true rfl⟩) hS (fun q _ h => hFc q h) hFc (fun r12 u t H1 locs ht hvm hw hB hz1 hk1 hS => ?_)
  obtain ⟨f11, rfl⟩ : ∃ z, z = u := ⟨_, rfl⟩
  obtain ⟨hP1, hK1, hD1⟩ := hB
  rw [ht] at hP1
  obtain ⟨hP, hD⟩ := va_joinN (wr := (wd05_33 a0 jaK jfP ja1 jb6 jbc jbV ja3 jbH ja2 jbO jaq jac jbI jbl jbn jba jaa jbA x8)) (w1 := (wd05_37 jb6 jbW jbL jck jcc jdh jck cyI f11 jbW cyI jdN jbL cyI jdi jcc cyI f10)) (wn := (wd05_32 a0 jaK jfP ja1 jb6 jbc jbV ja3 jbH ja2 jbO jaq jac jbI jbl jbn jba jaa jbA x8 jb6 jbW jbL jck jcc jdh jcc cyI f10 jck cyI f11 jbW cyI jdN jbL cyI jdi)) hP hD [1, 3, 4, 5, 2] [0] [0, 1, 5, 2, 3, 4] hCc rfl (by decide +kernel) (by decide +kernel) (by decide +kernel) rfl hk1 hFc hP1 hD1
  generalize H1 = H at hP hS ⊢
  exact vx_ret (W.widen (k := 8) (n := 48) (Nat.le_of_ble_eq_true rfl) (Nat.le_of_ble_eq_true rfl) (W.iret (v := r12) hx hb hr (fun t ht hW => ⟨⟨r12, (x8, f10, f11), rfl, hw, by rw [ht]; exact hP, va_K.moved hW.alike hK, hD⟩, hS.F ht⟩) hS.2.2 (dt_of tkX10_would_k85 9 rfl)))
theorem uw_L_would_ct13 : (.classLink RL 13 "java/lang/IllegalArgumentException" : Cond) ∈ wsL_would := mbL_would 595 (by decide +kernel)
theorem uw_L_would_cw : (.codeWith yL_would cL_would 11 (some .int) [(0, 22, 25, 13)] : Cond) ∈ wsL_would := mbL_would 2890 (by decide +kernel)
set_option maxHeartbeats 4000000 in
set_option maxRecDepth 100000 in
theorem ck_L_would (l : Launch) (dC : Nat → ClassId) (dI : Nat → Nat → Nat) (cyB cyI cyJ cyP : ClassId) (a0 a9 jb6 jcc jck jbW jbL sz : Nat) (jaK jfP ja1 jbc jbV ja3 jbH ja2 jbO jaq jac jbI jbl jbn jba jaa jbA : Value) (n9 : Nat) (jdh : Int32) (jdN jdi : Nat → Int32) (jbz : Int32) (jfl jfK : Nat → Int32) (f9 : Nat → Int64) (p1 p2 p3 p4 p5 p6 p7 p8 : Int32) {Q : Int32 → Int32 → (Nat → Int32) → (Nat → Int32) → (Nat → Int64) → Prop} (hw : wq_L_would n9 jdh jdN jdi jbz jfl jfK f9 p1 p2 p3 p4 p5 p6 p7 p8 Q) : Met l yL_would wsL_would ({ frames := 9, cells := 8, slots := 48, locals := 192 }) (va_Pc [.ref a0, .int p1, .int p2, .int p3, .int p4, .int p5, .int p6, .int p7, .int p8, .ref a9] (cPx l (dC, dI) (kT cyB cyI cyJ cyP) (wd05_38 a0 jaK jfP ja1 jb6 jbc jbV ja3 jbH ja2 jbO jaq jac jbI jbl jbn jba jaa jbA jbz jb6 jbW jbL jck jcc jdh jcc cyI jfl jck cyI jfK jbW cyI jdN jbL cyI jdi a9 cyJ n9 f9) sz)) (va_Qi (fun (r : Int32) (u : Int32 × (Nat → Int32) × (Nat → Int32) × (Nat → Int64)) => Q r u.1 u.2.1 u.2.2.1 u.2.2.2) (cB (dC, dI) (kT cyB cyI cyJ cyP) (va_A (wd05_38 a0 jaK jfP ja1 jb6 jbc jbV ja3 jbH ja2 jbO jaq jac jbI jbl jbn jba jaa jbA jbz jb6 jbW jbL jck jcc jdh jcc cyI jfl jck cyI jfK jbW cyI jdN jbL cyI jdi a9 cyJ n9 f9) sz) (fun u : Int32 × (Nat → Int32) × (Nat → Int32) × (Nat → Int64) => ((wd05_38 a0 jaK jfP ja1 jb6 jbc jbV ja3 jbH ja2 jbO jaq jac jbI jbl jbn jba jaa jbA u.1 jb6 jbW jbL jck jcc jdh jcc cyI u.2.1 jck cyI u.2.2.1 jbW cyI jdN jbL cyI jdi a9 cyJ n9 u.2.2.2) : va_W))) (va_A (wd05_38 a0 jaK jfP ja1 jb6 jbc jbV ja3 jbH ja2 jbO jaq jac jbI jbl jbn jba jaa jbA jbz jb6 jbW jbL jck jcc jdh jcc cyI jfl jck cyI jfK jbW cyI jdN jbL cyI jdi a9 cyJ n9 f9) sz)) 8 48 (va_A (wd05_38 a0 jaK jfP ja1 jb6 jbc jbV ja3 jbH ja2 jbO jaq jac jbI jbl jbn jba jaa jbA jbz jb6 jbW jbL jck jcc jdh jcc cyI jfl jck cyI jfK jbW cyI jdN jbL cyI jdi a9 cyJ n9 f9) sz) := by
  refine va_MetW (cc := cL_would) (maxL := 11) (ret := (some .int)) (by decide) rfl ?_
  intro p e s m args below meth c s₁ B hml hv
  obtain ⟨rfl, hsz, hP, hK, hD0, hNw, hXl, hXu, hXn, hXt⟩ := hv
  have hx := B.exec
  have hb := B.bytes
  have hr := B.returns
  have hts := atoms_spec (ws := wsL_would) B.pre
  have hown : s.vm.findClass RL = some m.cls := findClass_of_methodNamed B.named
  have hlocks := B.notSynchronized
  subst hsz
  have hD := hD0.self (sz := s.heap.size)
  generalize hAe : va_A (wd05_38 a0 jaK jfP ja1 jb6 jbc jbV ja3 jbH ja2 jbO jaq jac jbI jbl jbn jba jaa jbA jbz jb6 jbW jbL jck jcc jdh jcc cyI jfl jck cyI jfK jbW cyI jdN jbL cyI jdi a9 cyJ n9 f9) s.heap.size = A at hD hXu hXn ⊢
  have hA : ∀ q : Nat, s.heap.size ≤ q → A q := fun q h => by rw [← hAe]; exact Or.inr h
  have hS : va_S A s.heap s.heap [] := va_S.rf
  have hP : va_P (dC, dI) vwCl (wd05_38 a0 jaK jfP ja1 jb6 jbc jbV ja3 jbH ja2 jbO jaq jac jbI jbl jbn jba jaa jbA jbz jb6 jbW jbL jck jcc jdh jcc cyI jfl jck cyI jfK jbW cyI jdN jbL cyI jdi a9 cyJ n9 f9) s.heap := hP
  have hl := lv_entry ([.ref a0, .int p1, .int p2, .int p3, .int p4, .int p5, .int p6, .int p7, .int p8, .ref a9]) (n := 11) (Nat.le_of_ble_eq_true rfl)
  rw [lg_entry_eq]
  generalize (lg_sl ([.ref a0, .int p1, .int p2, .int p3, .int p4, .int p5, .int p6, .int p7, .int p8, .ref a9]) ++ List.replicate (11 - (lg_sl ([.ref a0, .int p1, .int p2, .int p3, .int p4, .int p5, .int p6, .int p7, .int p8, .ref a9])).length) Slot.unset).toArray = ls at hl ⊢
  have hl : lv_has ls 11 [(0, .ref a0), (1, .int p1), (2, .int p2), (3, .int p3), (4, .int p4), (5, .int p5), (6, .int p6), (7, .int p7), (8, .int p8), (9, .ref a9)] := hl
  have hY : cfY l s A := ⟨hXl, hXu, hXn, hXt⟩
  have hTb := vx_table (x := yL_would) B (hts _ uw_L_would_cw)
  clear hAe
  obtain ⟨H, hH⟩ : ∃ H, H = s.heap := ⟨_, rfl⟩
  rw [← hH] at hP ⊢
  have hS : va_S A s.heap H [] := by rw [hH]; exact va_S.rf
  have hS := hS
  refine lv_aload hx hb (dt_of tkL_would_k0 0 rfl) (lv_at hl 9 rfl) ?_
  refine lv_iconst (v := 0) hx hb (dt_of tkL_would_k0 1 rfl) (by decide) ?_
  refine lv_aload_n hx hb (dt_of tkL_would_k0 2 rfl) rfl (lv_at hl 0 rfl) ?_
  refine lv_iload_n hx hb (dt_of tkL_would_k0 3 rfl) rfl (lv_at hl 1 rfl) ?_
  refine lv_iload_n hx hb (dt_of tkL_would_k0 4 rfl) rfl (lv_at hl 2 rfl) ?_
  refine lv_iload_n hx hb (dt_of tkL_would_k0 5 rfl) rfl (lv_at hl 3 rfl) ?_
  refine lv_iload hx hb (dt_of tkL_would_k0 6 rfl) (lv_at hl 4 rfl) ?_
  refine lv_iload hx hb (dt_of tkL_would_k0 7 rfl) (lv_at hl 5 rfl) ?_
  refine lv_iload hx hb (dt_of tkL_would_k0 8 rfl) (lv_at hl 6 rfl) ?_
  refine lv_iload hx hb (dt_of tkL_would_k0 9 rfl) (lv_at hl 7 rfl) ?_
  refine lv_iload hx hb (dt_of tkL_would_k0 10 rfl) (lv_at hl 8 rfl) ?_
  obtain ⟨hCc, hPc, hDc, hFc⟩ := va_pick (ws' := (wd05_32 a0 jaK jfP ja1 jb6 jbc jbV ja3 jbH ja2 jbO jaq jac jbI jbl jbn jba jaa jbA jbz jb6 jbW jbL jck jcc jdh jcc cyI jfl jck cyI jfK jbW cyI jdN jbL cyI jdi)) hP hD hS hA [0, 1, 2, 3, 4, 5] (by decide +kernel) rfl
  refine vx_calli (vx_runV (As := [.int p1, .int p2, .int p3, .int p4, .int p5, .int p6, .int p7, .int p8]) (rest := [.int 0, .ref a9]) ⟨hx, hb, hml, hown, hts⟩ (ck_X10_would l dC dI cyB cyI cyJ cyP a0 jb6 jcc jck jbW jbL H.size (jaK) (jfP) (ja1) (jbc) (jbV) (ja3) (jbH) (ja2) (jbO) (jaq) (jac) (jbI) (jbl) (jbn) (jba) (jaa) (jbA) jdh jdN jdi jbz jfl jfK p1 p2 p3 p4 p5 p6 p7 p8 hw) (cwV 8 hts gL_would_X10_would rfl rfl rfl (by decide +kernel) ⟨Nat.le_of_ble_eq_true rfl, Nat.le_of_ble_eq_true rfl⟩) ⟨cPx_blind, va_recv (q := (RX10, TX10, 19)) hK hPc (ci := 10) (q0 := 0) rfl rfl, cPx_pre hPc hK hDc hNw hY hS hFc⟩ rfl rfl hl.1 rfl (lv_room (Nat.le_of_ble_eq_true rfl)) (dt_of tkL_would_k0 11 rfl) ⟨Nat.le_of_ble_eq_true rfl, Nat.le_of_ble_eq_true rfl⟩) hS (fun q _ h => hFc q h) hFc (fun q _ h => hFc q h) (fun en ce qx9 u t H1 locs ht hvm hpx hB hz1 hk1 hS hc9 hv9 hcl9 => ?_) (fun r4 u t H1 locs ht hvm hw hB hz1 hk1 hS => ?_)
  · obtain ⟨x1, f2, f3⟩ := u
    obtain ⟨hw, hP1, hK1, hD1⟩ := hB
    rw [ht] at hP1
    obtain ⟨hP, hD⟩ := va_joinN (wr := [(a9, .inl (cyJ, n9, .inr (.inl f9)))]) (w1 := (wd05_32 a0 jaK jfP ja1 jb6 jbc jbV ja3 jbH ja2 jbO jaq jac jbI jbl jbn jba jaa jbA x1 jb6 jbW jbL jck jcc jdh jcc cyI f2 jck cyI f3 jbW cyI jdN jbL cyI jdi)) (wn := (wd05_38 a0 jaK jfP ja1 jb6 jbc jbV ja3 jbH ja2 jbO jaq jac jbI jbl jbn jba jaa jbA x1 jb6 jbW jbL jck jcc jdh jcc cyI f2 jck cyI f3 jbW cyI jdN jbL cyI jdi a9 cyJ n9 f9)) hP hD [0, 1, 2, 3, 4, 5] [6] [1, 2, 3, 4, 5, 6, 0] hCc rfl (by decide +kernel) (by decide +kernel) (by decide +kernel) rfl hk1 hFc hP1 hD1
    generalize H1 = H at hP hS hc9 ⊢
    obtain ⟨rfl, hw⟩ := hw
    refine vx_catch (own := RL) (name := "java/lang/IllegalArgumentException") hown [] ⟨0, 22, 25, 13⟩ [] (hTb.trans rfl) (fun z hz => nomatch hz) (by decide) (by decide) (hts _ uw_L_would_ct13) (va_Nw.use rfl (hY.2.2.2.1.2 _ (List.mem_of_getElem? (i := 0) rfl))) hc9 hv9 hcl9 ?_
    refine lv_astore (lv' := [(10, .ref qx9), (0, .ref a0), (1, .int p1), (2, .int p2), (3, .int p3), (4, .int p4), (5, .int p5), (6, .int p6), (7, .int p7), (8, .int p8), (9, .ref a9)]) hx hb (dt_of tkL_would_k0 15 rfl) hl (by decide) rfl (fun ls hl => ?_)
    refine lv_iconst (v := 1) hx hb (dt_of tkL_would_k27 0 rfl) (by decide) ?_
    exact (W.widen (k := 8) (n := 48) (Nat.le_of_ble_eq_true rfl) (Nat.le_of_ble_eq_true rfl) (W.iret (v := 1) hx hb hr (fun t ht hW => ⟨⟨1, (x1, f2, f3, f9), rfl, hw, by rw [ht]; exact hP, va_K.moved hW.alike hK, hD⟩, hS.F ht⟩) hS.2.2 (dt_of tkL_would_k27 1 rfl)))
  obtain ⟨x1, f2, f3⟩ := u
  obtain ⟨hP1, hK1, hD1⟩ := hB
  rw [ht] at hP1
  obtain ⟨hP, hD⟩ := va_join (wr := [(a9, .inl (cyJ, n9, .inr (.inl f9)))]) (w1 := (wd05_32 a0 jaK jfP ja1 jb6 jbc jbV ja3 jbH ja2 jbO jaq jac jbI jbl jbn jba jaa jbA x1 jb6 jbW jbL jck jcc jdh jcc cyI f2 jck cyI f3 jbW cyI jdN jbL cyI jdi)) hP hD [0, 1, 2, 3, 4, 5] [6] rfl rfl (by decide) (by decide) hk1 hFc hP1 hD1
  have hP : va_P (dC, dI) vwCl (wd05_38 a0 jaK jfP ja1 jb6 jbc jbV ja3 jbH ja2 jbO jaq jac jbI jbl jbn jba jaa jbA x1 jb6 jbW jbL jck jcc jdh jcc cyI f2 jck cyI f3 jbW cyI jdN jbL cyI jdi a9 cyJ n9 f9) H1 := hP.sub [1, 2, 3, 4, 5, 6, 0] rfl
  have hD : va_D A (wd05_38 a0 jaK jfP ja1 jb6 jbc jbV ja3 jbH ja2 jbO jaq jac jbI jbl jbn jba jaa jbA x1 jb6 jbW jbL jck jcc jdh jcc cyI f2 jck cyI f3 jbW cyI jdN jbL cyI jdi a9 cyJ n9 f9) := hD.sub [1, 2, 3, 4, 5, 6, 0] (by decide) rfl
  generalize H1 = H at hP hS ⊢
  refine lv_i2l (v := r4.toInt64) hx hb (dt_of tkL_would_k0 12 rfl) rfl ?_
  refine lv_topl (fun x5 ex5 => ?_)
  have hw := hw x5 ex5
  obtain ⟨hi9, hw⟩ := hw
  refine va_last hx hb hK hP hD hS 6 2 rfl rfl hi9 (dt_of tkL_would_k0 13 rfl) (fun H locs hP hD hS => ?_)
  obtain ⟨f6, ef6⟩ : ∃ y : Nat → Int64, y = vp_updL f9 (0 : Int32).toNatClampNeg x5 := ⟨_, rfl⟩
  have hw := hw f6 ef6
  have hP : va_P (dC, dI) vwCl (wd05_38 a0 jaK jfP ja1 jb6 jbc jbV ja3 jbH ja2 jbO jaq jac jbI jbl jbn jba jaa jbA x1 jb6 jbW jbL jck jcc jdh jcc cyI f2 jck cyI f3 jbW cyI jdN jbL cyI jdi a9 cyJ n9 f6) H := by rw [ef6]; exact hP
  have hD : va_D A (wd05_38 a0 jaK jfP ja1 jb6 jbc jbV ja3 jbH ja2 jbO jaq jac jbI jbl jbn jba jaa jbA x1 jb6 jbW jbL jck jcc jdh jcc cyI f2 jck cyI f3 jbW cyI jdN jbL cyI jdi a9 cyJ n9 f6) := by rw [ef6]; exact hD
  refine lv_goto (tgt := 29) hx hb (dt_of tkL_would_k0 14 rfl) (by decide) ?_
  refine lv_iconst (v := 0) hx hb (dt_of tkL_would_k27 2 rfl) (by decide) ?_
  exact (W.widen (k := 8) (n := 48) (Nat.le_of_ble_eq_true rfl) (Nat.le_of_ble_eq_true rfl) (W.iret (v := 0) hx hb hr (fun t ht hW => ⟨⟨0, (x1, f2, f3, f6), rfl, hw, by rw [ht]; exact hP, va_K.moved hW.alike hK, hD⟩, hS.F ht⟩) hS.2.2 (dt_of tkL_would_k27 3 rfl)))
theorem ui_X0_init_X0 : ∀ w ∈ u_ws RX0 TX0 2, w ∈ wsX0_init := uiM mbX0_init euX0 (by decide +kernel)
theorem uw_X0_init_acint : (.arrayClass .int : Cond) ∈ wsX0_init := mbX0_init 147 (by decide +kernel)
theorem uw_X0_init_cobj : (.code objectInit ⟨#[0xb1]⟩ 1 none : Cond) ∈ wsX0_init := mbX0_init 12 (by decide +kernel)
theorem uw_X0_init_f9 : (.fieldLink RX0 9 "MarchHares$Book" "seen" "[I" : Cond) ∈ wsX0_init := mbX0_init 257 (by decide +kernel)
theorem uw_X0_init_imobj : (.instanceMethod objectInit : Cond) ∈ wsX0_init := mbX0_init 11 (by decide +kernel)
theorem uw_X0_init_m3 : (.methodLink RX0 3 objectInit : Cond) ∈ wsX0_init := mbX0_init 256 (by decide +kernel)
set_option maxHeartbeats 4000000 in
set_option maxRecDepth 100000 in
theorem ck_X0_init (l : Launch) (dC : Nat → ClassId) (dI : Nat → Nat → Nat) (cyB cyI cyJ cyP : ClassId) (a0 sz : Nat)   {Q : Int32 → (Nat → Int32) → Prop} (hw : wq_X0_init  Q) : Met l yX0_init wsX0_init ({ frames := 1, cells := 1, slots := 8, locals := 24 }) (va_Pc [.ref a0] (cPc (dC, dI) (kT cyB cyI cyJ cyP) [(a0, .inr (0, [.null, .int 0]))] sz)) (va_Qv (fun (u : (Nat → Nat) × (Int32) × (Nat → Int32)) => Q u.2.1 u.2.2) (cB (dC, dI) (kT cyB cyI cyJ cyP) (va_A [(a0, .inr (0, [.null, .int 0]))] sz) (fun u : (Nat → Nat) × (Int32) × (Nat → Int32) => ((wd05_39 a0 (u.1 0) u.2.1 (u.1 0) cyI u.2.2) : va_W))) (va_A [(a0, .inr (0, [.null, .int 0]))] sz)) 1 8 (va_A [(a0, .inr (0, [.null, .int 0]))] sz) := by
  refine Met.ofW (cc := cX0_init) (maxL := 1) (ret := none) (by decide) rfl ?_
  intro p e s m args below meth c s₁ B hml hv
  obtain ⟨rfl, hsz, hP, hK, hD0, hNw⟩ := hv
  have hx := B.exec
  have hb := B.bytes
  have hr := B.returns
  have hts := atoms_spec (ws := wsX0_init) B.pre
  have hown : s.vm.findClass RX0 = some m.cls := findClass_of_methodNamed B.named
  have hlocks := B.notSynchronized
  have hin : meth.name = "<init>" := (name_of_methodNamed B.named B.method).1
  subst hsz
  have hD := hD0.self (sz := s.heap.size)
  generalize hAe : va_A [(a0, .inr (0, [.null, .int 0]))] s.heap.size = A at hD ⊢
  have hA : ∀ q : Nat, s.heap.size ≤ q → A q := fun q h => by rw [← hAe]; exact Or.inr h
  have hS : va_S A s.heap s.heap [] := va_S.rf
  have hP : va_P (dC, dI) vwCl [(a0, .inr (0, [.null, .int 0]))] s.heap := hP
  have hl := lv_entry ([.ref a0]) (n := 1) (Nat.le_of_ble_eq_true rfl)
  rw [lg_entry_eq]
  generalize (lg_sl ([.ref a0]) ++ List.replicate (1 - (lg_sl ([.ref a0])).length) Slot.unset).toArray = ls at hl ⊢
  have hl : lv_has ls 1 [(0, .ref a0)] := hl
  clear hAe
  obtain ⟨H, hH⟩ : ∃ H, H = s.heap := ⟨_, rfl⟩
  rw [← hH] at hP ⊢
  have hS : va_S A s.heap H [] := by rw [hH]; exact va_S.rf
  refine lv_aload_n hx hb (dt_of tkX0_init_k0 0 rfl) rfl (lv_at hl 0 rfl) ?_
  refine W.objInit hx hb hown (hts _ uw_X0_init_m3) (hts _ uw_X0_init_imobj) (hts _ uw_X0_init_cobj) rfl (by rw [hml]; exact hl.1) rfl (dt_of tkX0_init_k0 1 rfl) (Nat.le_of_ble_eq_true rfl) (Nat.le_of_ble_eq_true rfl) ?_
  refine W.eq (g2 := F0 m 4 ls []) rfl ?_
  refine lv_aload_n hx hb (dt_of tkX0_init_k0 2 rfl) rfl (lv_at hl 0 rfl) ?_
  refine lv_bipush (v := 8) hx hb (dt_of tkX0_init_k0 3 rfl) (by decide) ?_
  refine va_newa (atype := .int) (ty := .int) (N' := 8) (a0 := (8, .inl (fun _ => 0))) hx hb (hts _ uw_X0_init_acint) rfl hK hP hD hS hA (fun _ => rfl) (by decide) (by decide) (by decide) (Nat.le_of_ble_eq_true rfl) (Nat.le_of_ble_eq_true rfl) dX0_init_7 (fun jjj cA9 H hK9 hP hD hS => ?_)
  obtain rfl := kT_int hK9
  have hP : va_P (dC, dI) vwCl (wd05_40 a0 0 jjj cyI (fun _ => 0)) H := hP
  have hD : va_D A (wd05_40 a0 0 jjj cyI (fun _ => 0)) := hD
  refine va_putF (D := (dC, dI)) (ci := 0) (v := .ref jjj) (ty := .array .int) (C := RX0) (T := TX0) (N := 2) hx hb hts ui_X0_init_X0 tyX0 tyX0_ok nmX0 hown hK hP hD hS 0 rfl rfl 0 (by decide) (hts _ uw_X0_init_f9) (fun _ h9 => h9) rfl hin rfl (by decide +kernel) rfl rfl (Nat.le_of_ble_eq_true rfl) (dt_of tkX0_init_k9 0 rfl) (fun H locs hP hD hS => ?_)
  have hP : va_P (dC, dI) vwCl (wd05_39 a0 jjj 0 jjj cyI (fun _ => 0)) H := hP
  have hD : va_D A (wd05_39 a0 jjj 0 jjj cyI (fun _ => 0)) := hD
  refine lv_aload_n hx hb (dt_of tkX0_init_k9 1 rfl) rfl (lv_at hl 0 rfl) ?_
  obtain ⟨hCc, hPc, hDc, hFc⟩ := va_pick (ws' := (wd05_39 a0 jjj 0 jjj cyI (fun _ => 0))) hP hD hS hA [0, 1] (by decide +kernel) rfl
  refine va_callv (va_runV (As := []) (rest := []) ⟨hx, hb, hml, hown, hts⟩ (ck_X0_clear l dC dI cyB cyI cyJ cyP a0 jjj H.size   0 (fun _ => 0)  hw) (cwV 0 hts gX0_init_X0_clear rfl rfl rfl (by decide +kernel) ⟨Nat.le_of_ble_eq_true rfl, Nat.le_of_ble_eq_true rfl⟩) ⟨cPc_blind, va_recv (q := (RX0, TX0, 2)) hK hPc (ci := 0) (q0 := 0) rfl rfl, cPc_pre hPc hK hDc hNw⟩ rfl rfl hl.1 rfl (lv_room (Nat.le_of_ble_eq_true rfl)) (dt_of tkX0_init_k9 2 rfl) ⟨Nat.le_of_ble_eq_true rfl, Nat.le_of_ble_eq_true rfl⟩) hS (fun q _ h => hFc q h) hFc (fun u t H1 locs ht hvm hw hB hz1 hk1 hS => ?_)
  obtain ⟨x1, f2⟩ := u
  obtain ⟨hP1, hK1, hD1⟩ := hB
  rw [ht] at hP1
  obtain ⟨hP, hD⟩ := va_joinI (wr := []) (w1 := (wd05_39 a0 jjj x1 jjj cyI f2)) (wn := (wd05_39 a0 jjj x1 jjj cyI f2)) hP hD [0, 1] [] hCc rfl (by decide +kernel) (by decide +kernel) rfl hk1 hFc hP1 hD1
  generalize H1 = H at hP hS ⊢
  exact (W.widen (k := 1) (n := 8) (Nat.le_of_ble_eq_true rfl) (Nat.le_of_ble_eq_true rfl) (W.vret hx hb hr (fun t ht hW => ⟨⟨((adr [jjj]), x1, f2), rfl, hw, by rw [ht]; exact hP, va_K.moved hW.alike hK, hD⟩, hS.F ht⟩) hS.2.2 (dt_of tkX0_init_k9 3 rfl)))
theorem ui_X10_count_X10 : ∀ w ∈ u_ws RX10 TX10 19, w ∈ wsX10_count := uiM mbX10_count euX10 (by decide +kernel)
theorem ui_X10_count_X5 : ∀ w ∈ u_ws RX5 TX5 2, w ∈ wsX10_count := uiM mbX10_count euX5 (by decide +kernel)
theorem ui_X10_count_X8 : ∀ w ∈ u_ws RX8 TX8 7, w ∈ wsX10_count := uiM mbX10_count euX8 (by decide +kernel)
theorem uw_X10_count_f10 : (.fieldLink RX10 10 "MarchHares" "tape" "LMarchHares$Tape;" : Cond) ∈ wsX10_count := mbX10_count 16 (by decide +kernel)
theorem uw_X10_count_f105 : (.fieldLink RX10 105 "MarchHares$Tape" "filled" "I" : Cond) ∈ wsX10_count := mbX10_count 535 (by decide +kernel)
theorem uw_X10_count_f132 : (.fieldLink RX10 132 "MarchHares$Past" "kept" "I" : Cond) ∈ wsX10_count := mbX10_count 641 (by decide +kernel)
theorem uw_X10_count_f135 : (.fieldLink RX10 135 "MarchHares" "imagesKept" "I" : Cond) ∈ wsX10_count := mbX10_count 642 (by decide +kernel)
theorem uw_X10_count_f68 : (.fieldLink RX10 68 "MarchHares" "past" "LMarchHares$Past;" : Cond) ∈ wsX10_count := mbX10_count 84 (by decide +kernel)
set_option maxHeartbeats 4000000 in
set_option maxRecDepth 100000 in
theorem ck_X10_count (l : Launch) (dC : Nat → ClassId) (dI : Nat → Nat → Nat) (cyB cyI cyJ cyP : ClassId) (a0 jaW jeG sz : Nat) (jfP ja1 jcp jbc jbV ja3 jbH ja2 jbO jac jbI jbl jbn jaa jbA jdD jok jnj jn8 jnw jnx jm1 jm2 : Value) (jkc jj0 jje p1 : Int32) {Q : Int32 → Prop} (hw : wq_X10_count jkc jj0 jje  p1 Q) : Met l yX10_count wsX10_count ({ frames := 0, cells := 0, slots := 0, locals := 0 }) (va_Pc [.ref a0, .int p1] (cPc (dC, dI) (kT cyB cyI cyJ cyP) (wd05_41 a0 jaW jfP ja1 jcp jbc jbV ja3 jbH ja2 jbO jeG jac jbI jbl jbn jkc jaa jbA jdD jaW jok jnj jn8 jnw jj0 jnx jm1 jeG jm2 jje) sz)) (va_Qi (fun (r : Int32) (_ : Unit) => Q r ) (cB (dC, dI) (kT cyB cyI cyJ cyP) (va_A (wd05_41 a0 jaW jfP ja1 jcp jbc jbV ja3 jbH ja2 jbO jeG jac jbI jbl jbn jkc jaa jbA jdD jaW jok jnj jn8 jnw jj0 jnx jm1 jeG jm2 jje) sz) (fun u : Unit => ((wd05_41 a0 jaW jfP ja1 jcp jbc jbV ja3 jbH ja2 jbO jeG jac jbI jbl jbn jkc jaa jbA jdD jaW jok jnj jn8 jnw jj0 jnx jm1 jeG jm2 jje) : va_W))) (va_A (wd05_41 a0 jaW jfP ja1 jcp jbc jbV ja3 jbH ja2 jbO jeG jac jbI jbl jbn jkc jaa jbA jdD jaW jok jnj jn8 jnw jj0 jnx jm1 jeG jm2 jje) sz)) 0 0 (va_A (wd05_41 a0 jaW jfP ja1 jcp jbc jbV ja3 jbH ja2 jbO jeG jac jbI jbl jbn jkc jaa jbA jdD jaW jok jnj jn8 jnw jj0 jnx jm1 jeG jm2 jje) sz) := by
  refine Met.ofW (cc := cX10_count) (maxL := 2) (ret := (some .int)) (by decide) rfl ?_
  intro p e s m args below meth c s₁ B hml hv
  obtain ⟨rfl, hsz, hP, hK, hD0, hNw⟩ := hv
  have hx := B.exec
  have hb := B.bytes
  have hr := B.returns
  have hts := atoms_spec (ws := wsX10_count) B.pre
  have hown : s.vm.findClass RX10 = some m.cls := findClass_of_methodNamed B.named
  have hlocks := B.notSynchronized
  subst hsz
  have hD := hD0.self (sz := s.heap.size)
  generalize hAe : va_A (wd05_41 a0 jaW jfP ja1 jcp jbc jbV ja3 jbH ja2 jbO jeG jac jbI jbl jbn jkc jaa jbA jdD jaW jok jnj jn8 jnw jj0 jnx jm1 jeG jm2 jje) s.heap.size = A at hD ⊢
  have hA : ∀ q : Nat, s.heap.size ≤ q → A q := fun q h => by rw [← hAe]; exact Or.inr h
  have hS : va_S A s.heap s.heap [] := va_S.rf
  have hP : va_P (dC, dI) vwCl (wd05_41 a0 jaW jfP ja1 jcp jbc jbV ja3 jbH ja2 jbO jeG jac jbI jbl jbn jkc jaa jbA jdD jaW jok jnj jn8 jnw jj0 jnx jm1 jeG jm2 jje) s.heap := hP
  have hl := lv_entry ([.ref a0, .int p1]) (n := 2) (Nat.le_of_ble_eq_true rfl)
  rw [lg_entry_eq]
  generalize (lg_sl ([.ref a0, .int p1]) ++ List.replicate (2 - (lg_sl ([.ref a0, .int p1])).length) Slot.unset).toArray = ls at hl ⊢
  have hl : lv_has ls 2 [(0, .ref a0), (1, .int p1)] := hl
  have C0 : cfx p s m _ meth c cX10_count (some .int) wsX10_count RX10 2 A (dC, dI) (kT cyB cyI cyJ cyP) := ⟨hx, hb, hr, hts, hown, hlocks, hml, hA, hK, hNw⟩
  clear hAe
  obtain ⟨H, hH⟩ : ∃ H, H = s.heap := ⟨_, rfl⟩
  rw [← hH] at hP ⊢
  have hS : va_S A s.heap H [] := by rw [hH]; exact va_S.rf
  have hS := hS
  refine lv_iload_n hx hb (dt_of tkX10_count_k0 0 rfl) rfl (lv_at hl 1 rfl) ?_
  by_cases c1 : p1.toInt < 0 ∨ 2 < p1.toInt
  · have hw := hw.1 c1
    refine lv_tableOut (tgt := 49) hx hb dX10_count_1 c1 (by decide) ?_
    refine lv_iconst (v := (-1)) hx hb (dt_of tkX10_count_k28 11 rfl) (by decide) ?_
    exact ((W.iret (v := (-1)) hx hb hr (fun t ht hW => ⟨⟨(-1), (), rfl, hw, by rw [ht]; exact hP, va_K.moved hW.alike hK, hD⟩, hS.F ht⟩) hS.2.2 (dt_of tkX10_count_k28 12 rfl)))
  · have hw := hw.2
    rcases tsw_0_2 c1 with c1 | c1 | c1
    · have hw := hw.1 c1
      refine lv_tableIn (tgt := 28) (off := 27) hx hb dX10_count_1 (by rw [c1]; decide) (by rw [c1]; decide) (by rw [c1]; decide) (by decide) ?_
      refine lv_aload_n hx hb (dt_of tkX10_count_k28 0 rfl) rfl (lv_at hl 0 rfl) ?_
      refine va_get (D := (dC, dI)) (ci := 10) (v := .int jkc) (C := RX10) (T := TX10) (N := 19) hx hb hts ui_X10_count_X10 hown hK hP 0 rfl rfl 15 (by decide) (hts _ uw_X10_count_f135) (fun _ h9 => h9) rfl (dt_of tkX10_count_k28 1 rfl) ?_
      exact ((W.iret (v := jkc) hx hb hr (fun t ht hW => ⟨⟨jkc, (), rfl, hw, by rw [ht]; exact hP, va_K.moved hW.alike hK, hD⟩, hS.F ht⟩) hS.2.2 (dt_of tkX10_count_k28 2 rfl)))
    · have hw := hw.2.1 c1
      refine lv_tableIn (tgt := 33) (off := 32) hx hb dX10_count_1 (by rw [c1]; decide) (by rw [c1]; decide) (by rw [c1]; decide) (by decide) ?_
      refine lv_aload_n hx hb (dt_of tkX10_count_k28 3 rfl) rfl (lv_at hl 0 rfl) ?_
      refine va_get (D := (dC, dI)) (ci := 10) (v := .ref jaW) (C := RX10) (T := TX10) (N := 19) hx hb hts ui_X10_count_X10 hown hK hP 0 rfl rfl 0 (by decide) (hts _ uw_X10_count_f10) (fun _ h9 => h9) rfl (dt_of tkX10_count_k28 4 rfl) ?_
      refine va_get (D := (dC, dI)) (ci := 8) (v := .int jj0) (C := RX8) (T := TX8) (N := 7) hx hb hts ui_X10_count_X8 hown hK hP 1 rfl rfl 4 (by decide) (hts _ uw_X10_count_f105) (fun _ h9 => h9) rfl (dt_of tkX10_count_k28 5 rfl) ?_
      exact ((W.iret (v := jj0) hx hb hr (fun t ht hW => ⟨⟨jj0, (), rfl, hw, by rw [ht]; exact hP, va_K.moved hW.alike hK, hD⟩, hS.F ht⟩) hS.2.2 (dt_of tkX10_count_k28 6 rfl)))
    · have hw := hw.2.2 c1
      refine lv_tableIn (tgt := 41) (off := 40) hx hb dX10_count_1 (by rw [c1]; decide) (by rw [c1]; decide) (by rw [c1]; decide) (by decide) ?_
      refine lv_aload_n hx hb (dt_of tkX10_count_k28 7 rfl) rfl (lv_at hl 0 rfl) ?_
      refine va_get (D := (dC, dI)) (ci := 10) (v := .ref jeG) (C := RX10) (T := TX10) (N := 19) hx hb hts ui_X10_count_X10 hown hK hP 0 rfl rfl 10 (by decide) (hts _ uw_X10_count_f68) (fun _ h9 => h9) rfl (dt_of tkX10_count_k28 8 rfl) ?_
      refine va_get (D := (dC, dI)) (ci := 5) (v := .int jje) (C := RX5) (T := TX5) (N := 2) hx hb hts ui_X10_count_X5 hown hK hP 2 rfl rfl 1 (by decide) (hts _ uw_X10_count_f132) (fun _ h9 => h9) rfl (dt_of tkX10_count_k28 9 rfl) ?_
      exact ((W.iret (v := jje) hx hb hr (fun t ht hW => ⟨⟨jje, (), rfl, hw, by rw [ht]; exact hP, va_K.moved hW.alike hK, hD⟩, hS.F ht⟩) hS.2.2 (dt_of tkX10_count_k28 10 rfl)))
theorem ui_X10_fault_X10 : ∀ w ∈ u_ws RX10 TX10 19, w ∈ wsX10_fault := uiM mbX10_fault euX10 (by decide +kernel)
theorem ui_X10_fault_X8 : ∀ w ∈ u_ws RX8 TX8 7, w ∈ wsX10_fault := uiM mbX10_fault euX8 (by decide +kernel)
theorem uw_X10_fault_f10 : (.fieldLink RX10 10 "MarchHares" "tape" "LMarchHares$Tape;" : Cond) ∈ wsX10_fault := mbX10_fault 16 (by decide +kernel)
theorem uw_X10_fault_f174 : (.fieldLink RX10 174 "MarchHares$Tape" "faultPlace" "I" : Cond) ∈ wsX10_fault := mbX10_fault 2452 (by decide +kernel)
set_option maxHeartbeats 4000000 in
set_option maxRecDepth 100000 in
theorem ck_X10_fault (l : Launch) (dC : Nat → ClassId) (dI : Nat → Nat → Nat) (cyB cyI cyJ cyP : ClassId) (a0 jaW sz : Nat) (jfP ja1 jcp jbc jbV ja3 jbH ja2 jbO jaq jac jbI jbl jbn jba jaa jbA jdD jok jnj jn8 jnw jpj jnx : Value) (jjE : Int32)   {Q : Int32 → Prop} (hw : wq_X10_fault jjE   Q) : Met l yX10_fault wsX10_fault ({ frames := 0, cells := 0, slots := 0, locals := 0 }) (va_Pc [.ref a0] (cPc (dC, dI) (kT cyB cyI cyJ cyP) (wd05_42 a0 jaW jfP ja1 jcp jbc jbV ja3 jbH ja2 jbO jaq jac jbI jbl jbn jba jaa jbA jdD jaW jok jnj jn8 jnw jpj jnx jjE) sz)) (va_Qi (fun (r : Int32) (_ : Unit) => Q r ) (cB (dC, dI) (kT cyB cyI cyJ cyP) (va_A (wd05_42 a0 jaW jfP ja1 jcp jbc jbV ja3 jbH ja2 jbO jaq jac jbI jbl jbn jba jaa jbA jdD jaW jok jnj jn8 jnw jpj jnx jjE) sz) (fun u : Unit => ((wd05_42 a0 jaW jfP ja1 jcp jbc jbV ja3 jbH ja2 jbO jaq jac jbI jbl jbn jba jaa jbA jdD jaW jok jnj jn8 jnw jpj jnx jjE) : va_W))) (va_A (wd05_42 a0 jaW jfP ja1 jcp jbc jbV ja3 jbH ja2 jbO jaq jac jbI jbl jbn jba jaa jbA jdD jaW jok jnj jn8 jnw jpj jnx jjE) sz)) 0 0 (va_A (wd05_42 a0 jaW jfP ja1 jcp jbc jbV ja3 jbH ja2 jbO jaq jac jbI jbl jbn jba jaa jbA jdD jaW jok jnj jn8 jnw jpj jnx jjE) sz) := by
  refine Met.ofW (cc := cX10_fault) (maxL := 1) (ret := (some .int)) (by decide) rfl ?_
  intro p e s m args below meth c s₁ B hml hv
  obtain ⟨rfl, hsz, hP, hK, hD0, hNw⟩ := hv
  have hx := B.exec
  have hb := B.bytes
  have hr := B.returns
  have hts := atoms_spec (ws := wsX10_fault) B.pre
  have hown : s.vm.findClass RX10 = some m.cls := findClass_of_methodNamed B.named
  have hlocks := B.notSynchronized
  subst hsz
  have hD := hD0.self (sz := s.heap.size)
  generalize hAe : va_A (wd05_42 a0 jaW jfP ja1 jcp jbc jbV ja3 jbH ja2 jbO jaq jac jbI jbl jbn jba jaa jbA jdD jaW jok jnj jn8 jnw jpj jnx jjE) s.heap.size = A at hD ⊢
  have hA : ∀ q : Nat, s.heap.size ≤ q → A q := fun q h => by rw [← hAe]; exact Or.inr h
  have hS : va_S A s.heap s.heap [] := va_S.rf
  have hP : va_P (dC, dI) vwCl (wd05_42 a0 jaW jfP ja1 jcp jbc jbV ja3 jbH ja2 jbO jaq jac jbI jbl jbn jba jaa jbA jdD jaW jok jnj jn8 jnw jpj jnx jjE) s.heap := hP
  have hl := lv_entry ([.ref a0]) (n := 1) (Nat.le_of_ble_eq_true rfl)
  rw [lg_entry_eq]
  generalize (lg_sl ([.ref a0]) ++ List.replicate (1 - (lg_sl ([.ref a0])).length) Slot.unset).toArray = ls at hl ⊢
  have hl : lv_has ls 1 [(0, .ref a0)] := hl
  have C0 : cfx p s m _ meth c cX10_fault (some .int) wsX10_fault RX10 1 A (dC, dI) (kT cyB cyI cyJ cyP) := ⟨hx, hb, hr, hts, hown, hlocks, hml, hA, hK, hNw⟩
  clear hAe
  obtain ⟨H, hH⟩ : ∃ H, H = s.heap := ⟨_, rfl⟩
  rw [← hH] at hP ⊢
  have hS : va_S A s.heap H [] := by rw [hH]; exact va_S.rf
  have hS := hS
  refine lv_aload_n hx hb (dt_of tkX10_fault_k0 0 rfl) rfl (lv_at hl 0 rfl) ?_
  refine va_get (D := (dC, dI)) (ci := 10) (v := .ref jaW) (C := RX10) (T := TX10) (N := 19) hx hb hts ui_X10_fault_X10 hown hK hP 0 rfl rfl 0 (by decide) (hts _ uw_X10_fault_f10) (fun _ h9 => h9) rfl (dt_of tkX10_fault_k0 1 rfl) ?_
  refine va_get (D := (dC, dI)) (ci := 8) (v := .int jjE) (C := RX8) (T := TX8) (N := 7) hx hb hts ui_X10_fault_X8 hown hK hP 1 rfl rfl 6 (by decide) (hts _ uw_X10_fault_f174) (fun _ h9 => h9) rfl (dt_of tkX10_fault_k0 2 rfl) ?_
  exact ((W.iret (v := jjE) hx hb hr (fun t ht hW => ⟨⟨jjE, (), rfl, hw, by rw [ht]; exact hP, va_K.moved hW.alike hK, hD⟩, hS.F ht⟩) hS.2.2 (dt_of tkX10_fault_k0 3 rfl)))
theorem ui_X8_hasRoom_X8 : ∀ w ∈ u_ws RX8 TX8 7, w ∈ wsX8_hasRoom := uiM mbX8_hasRoom euX8 (by decide +kernel)
theorem uw_X8_hasRoom_f19 : (.fieldLink RX8 19 "MarchHares$Tape" "filled" "I" : Cond) ∈ wsX8_hasRoom := mbX8_hasRoom 580 (by decide +kernel)
set_option maxHeartbeats 4000000 in
set_option maxRecDepth 100000 in
theorem ck_X8_hasRoom (l : Launch) (dC : Nat → ClassId) (dI : Nat → Nat → Nat) (cyB cyI cyJ cyP : ClassId) (a0 sz : Nat) (jn7 jjf jby jl9 jmS jkr : Value) (jnc : Int32)   {Q : Int32 → Prop} (hw : wq_X8_hasRoom jnc   Q) : Met l yX8_hasRoom wsX8_hasRoom ({ frames := 0, cells := 0, slots := 0, locals := 0 }) (va_Pc [.ref a0] (cPc (dC, dI) (kT cyB cyI cyJ cyP) (wd05_43 a0 jn7 jjf jby jl9 jnc jmS jkr) sz)) (va_Qi (fun (r : Int32) (_ : Unit) => Q r ) (cB (dC, dI) (kT cyB cyI cyJ cyP) (va_A (wd05_43 a0 jn7 jjf jby jl9 jnc jmS jkr) sz) (fun u : Unit => ((wd05_43 a0 jn7 jjf jby jl9 jnc jmS jkr) : va_W))) (va_A (wd05_43 a0 jn7 jjf jby jl9 jnc jmS jkr) sz)) 0 0 (va_A (wd05_43 a0 jn7 jjf jby jl9 jnc jmS jkr) sz) := by
  refine Met.ofW (cc := cX8_hasRoom) (maxL := 1) (ret := (some .boolean)) (by decide) rfl ?_
  intro p e s m args below meth c s₁ B hml hv
  obtain ⟨rfl, hsz, hP, hK, hD0, hNw⟩ := hv
  have hx := B.exec
  have hb := B.bytes
  have hr := B.returns
  have hts := atoms_spec (ws := wsX8_hasRoom) B.pre
  have hown : s.vm.findClass RX8 = some m.cls := findClass_of_methodNamed B.named
  have hlocks := B.notSynchronized
  subst hsz
  have hD := hD0.self (sz := s.heap.size)
  generalize hAe : va_A (wd05_43 a0 jn7 jjf jby jl9 jnc jmS jkr) s.heap.size = A at hD ⊢
  have hA : ∀ q : Nat, s.heap.size ≤ q → A q := fun q h => by rw [← hAe]; exact Or.inr h
  have hS : va_S A s.heap s.heap [] := va_S.rf
  have hP : va_P (dC, dI) vwCl (wd05_43 a0 jn7 jjf jby jl9 jnc jmS jkr) s.heap := hP
  have hl := lv_entry ([.ref a0]) (n := 1) (Nat.le_of_ble_eq_true rfl)
  rw [lg_entry_eq]
  generalize (lg_sl ([.ref a0]) ++ List.replicate (1 - (lg_sl ([.ref a0])).length) Slot.unset).toArray = ls at hl ⊢
  have hl : lv_has ls 1 [(0, .ref a0)] := hl
  have C0 : cfx p s m _ meth c cX8_hasRoom (some .boolean) wsX8_hasRoom RX8 1 A (dC, dI) (kT cyB cyI cyJ cyP) := ⟨hx, hb, hr, hts, hown, hlocks, hml, hA, hK, hNw⟩
  clear hAe
  obtain ⟨H, hH⟩ : ∃ H, H = s.heap := ⟨_, rfl⟩
  rw [← hH] at hP ⊢
  have hS : va_S A s.heap H [] := by rw [hH]; exact va_S.rf
  have hS := hS
  refine lv_aload_n hx hb (dt_of tkX8_hasRoom_k0 0 rfl) rfl (lv_at hl 0 rfl) ?_
  refine va_get (D := (dC, dI)) (ci := 8) (v := .int jnc) (C := RX8) (T := TX8) (N := 7) hx hb hts ui_X8_hasRoom_X8 hown hK hP 0 rfl rfl 4 (by decide) (hts _ uw_X8_hasRoom_f19) (fun _ h9 => h9) rfl (dt_of tkX8_hasRoom_k0 1 rfl) ?_
  refine lv_bipush (v := 20) hx hb (dt_of tkX8_hasRoom_k0 2 rfl) (by decide) ?_
  refine lv_iadd hx hb (dt_of tkX8_hasRoom_k0 3 rfl) ?_
  refine lv_sipush (v := 600) hx hb (dt_of tkX8_hasRoom_k0 4 rfl) (by decide) ?_
  refine lv_icmp_gt (tgt := 17) hx hb (dt_of tkX8_hasRoom_k0 5 rfl) (by decide) (fun c1 => ?_) (fun c1 => ?_)
  · have hw := hw.1 c1
    refine lv_iconst (v := 0) hx hb (dt_of tkX8_hasRoom_k0 8 rfl) (by decide) ?_
    exact ((W.zret (v := 0) hx hb hr rfl (fun t ht hW => ⟨⟨0, (), rfl, hw, by rw [ht]; exact hP, va_K.moved hW.alike hK, hD⟩, hS.F ht⟩) hS.2.2 (dt_of tkX8_hasRoom_k0 9 rfl)))
  · have hw := hw.2 c1
    refine lv_iconst (v := 1) hx hb (dt_of tkX8_hasRoom_k0 6 rfl) (by decide) ?_
    refine lv_goto (tgt := 18) hx hb (dt_of tkX8_hasRoom_k0 7 rfl) (by decide) ?_
    exact ((W.zret (v := 1) hx hb hr rfl (fun t ht hW => ⟨⟨1, (), rfl, hw, by rw [ht]; exact hP, va_K.moved hW.alike hK, hD⟩, hS.F ht⟩) hS.2.2 (dt_of tkX8_hasRoom_k0 9 rfl)))
theorem ui_X8_put_X8 : ∀ w ∈ u_ws RX8 TX8 7, w ∈ wsX8_put := uiM mbX8_put euX8 (by decide +kernel)
theorem uw_X8_put_f11 : (.fieldLink RX8 11 "MarchHares$Tape" "bytes" "[B" : Cond) ∈ wsX8_put := mbX8_put 142 (by decide +kernel)
theorem uw_X8_put_f19 : (.fieldLink RX8 19 "MarchHares$Tape" "filled" "I" : Cond) ∈ wsX8_put := mbX8_put 580 (by decide +kernel)
set_option maxHeartbeats 4000000 in
set_option maxRecDepth 100000 in
theorem kb_X8_put_40 {p : Program} {l : Launch} {e : Env} {s : State} {m : MethodId} {args : Array Value} {below : List Frame} {meth : Method} {c : Code} {A : Nat → Prop} (dC : Nat → ClassId) (dI : Nat → Nat → Nat) (cyB cyI cyJ cyP : ClassId) (a0 jif : Nat) (jjf jby jl9 jmS jkr : Value)  (Q : (Nat → Int32) → Int32 → Prop) (K3 : (Nat → Int32) → Int32 → Int32 → Int32 → Prop) (hK3 : ∀ (H : Heap) (locs : List Loc) (ls : Array Slot) (jjA : Nat → Int32) (jnc l1 l2 : Int32), va_P (dC, dI) vwCl (wd05_44 a0 jif jjf jby jl9 jnc jmS jkr jif cyB jjA) H → va_D A (wd05_44 a0 jif jjf jby jl9 jnc jmS jkr jif cyB jjA) → va_S A s.heap H locs → lv_has ls 3 [(0, .ref a0), (1, .int l1), (2, .int l2)] → K3 jjA jnc l1 l2 → W p l e (headSpec wsX8_put ({ frames := 0, cells := 0, slots := 0, locals := 0 })).room s m args below meth c H locs 0 0 (MQ below (va_Qv (fun (u : (Nat → Int32) × Int32) => Q u.1 u.2) (cB (dC, dI) (kT cyB cyI cyJ cyP) A (fun u : (Nat → Int32) × Int32 => ((wd05_44 a0 jif jjf jby jl9 u.2 jmS jkr jif cyB u.1) : va_W))) A) args s 0 0 A) (F0 m 3 ls [])) (C0 : cfx p s m args meth c cX8_put none wsX8_put RX8 3 A (dC, dI) (kT cyB cyI cyJ cyP)) : ∀ (H : Heap) (locs : List Loc) (ls : Array Slot) (jjA : Nat → Int32) (jnc l1 l2 : Int32), va_P (dC, dI) vwCl (wd05_44 a0 jif jjf jby jl9 jnc jmS jkr jif cyB jjA) H → va_D A (wd05_44 a0 jif jjf jby jl9 jnc jmS jkr jif cyB jjA) → va_S A s.heap H locs → lv_has ls 3 [(0, .ref a0), (1, .int l1), (2, .int l2)] → wb_X8_put_40  Q K3 jjA jnc l1 l2 → W p l e (headSpec wsX8_put ({ frames := 0, cells := 0, slots := 0, locals := 0 })).room s m args below meth c H locs 0 0 (MQ below (va_Qv (fun (u : (Nat → Int32) × Int32) => Q u.1 u.2) (cB (dC, dI) (kT cyB cyI cyJ cyP) A (fun u : (Nat → Int32) × Int32 => ((wd05_44 a0 jif jjf jby jl9 u.2 jmS jkr jif cyB u.1) : va_W))) A) args s 0 0 A) (F0 m 40 ls []) := by
  obtain ⟨hx, hb, hr, hts, hown, hlocks, hml, hA, hK, hNw⟩ := id C0
  intro H locs ls jjA jnc l1 l2 hP hD hS hl hw
  obtain ⟨x6, ex6⟩ : ∃ y : Int32, y = l2 + (-8) := ⟨_, rfl⟩
  have hw := hw x6 ex6
  refine lv_iinc (v := x6) (lv' := [(2, .int x6), (0, .ref a0), (1, .int l1)]) hx hb (dt_of tkX8_put_k29 7 rfl) hl (k := 2) rfl (by rw [ex6]; rfl) (by decide) rfl (fun ls hl => ?_)
  refine lv_goto (tgt := 3) hx hb (dt_of tkX8_put_k29 8 rfl) (by decide) ?_
  exact hK3 _ _ _ jjA jnc l1 x6 hP hD hS (lv_sub hl [1, 2, 0] rfl) hw
set_option maxHeartbeats 4000000 in
set_option maxRecDepth 100000 in
theorem kl_X8_put_3 {p : Program} {l : Launch} {e : Env} {s : State} {m : MethodId} {args : Array Value} {below : List Frame} {meth : Method} {c : Code} {A : Nat → Prop} (dC : Nat → ClassId) (dI : Nat → Nat → Nat) (cyB cyI cyJ cyP : ClassId) (a0 jif : Nat) (jjf jby jl9 jmS jkr : Value)  (Q : (Nat → Int32) → Int32 → Prop)  (C0 : cfx p s m args meth c cX8_put none wsX8_put RX8 3 A (dC, dI) (kT cyB cyI cyJ cyP)) : ∀ (n : Nat) (H : Heap) (locs : List Loc) (ls : Array Slot) (jjA : Nat → Int32) (jnc l1 l2 : Int32), va_P (dC, dI) vwCl (wd05_44 a0 jif jjf jby jl9 jnc jmS jkr jif cyB jjA) H → va_D A (wd05_44 a0 jif jjf jby jl9 jnc jmS jkr jif cyB jjA) → va_S A s.heap H locs → lv_has ls 3 [(0, .ref a0), (1, .int l1), (2, .int l2)] → wl_X8_put_3  Q  n jjA jnc l1 l2 → W p l e (headSpec wsX8_put ({ frames := 0, cells := 0, slots := 0, locals := 0 })).room s m args below meth c H locs 0 0 (MQ below (va_Qv (fun (u : (Nat → Int32) × Int32) => Q u.1 u.2) (cB (dC, dI) (kT cyB cyI cyJ cyP) A (fun u : (Nat → Int32) × Int32 => ((wd05_44 a0 jif jjf jby jl9 u.2 jmS jkr jif cyB u.1) : va_W))) A) args s 0 0 A) (F0 m 3 ls []) := by
  obtain ⟨hx, hb, hr, hts, hown, hlocks, hml, hA, hK, hNw⟩ := id C0
  intro n
  induction n with
  | zero => intro H locs ls jjA jnc l1 l2 hP hD hS hl hw; exact False.elim hw
  | succ n ih =>
    intro H locs ls jjA jnc l1 l2 hP hD hS hl hw
    refine lv_iload_n hx hb (dt_of tkX8_put_k0 2 rfl) rfl (lv_at hl 2 rfl) ?_
    refine lv_if_lt (tgt := 46) hx hb (dt_of tkX8_put_k0 3 rfl) (by decide) (fun c1 => ?_) (fun c1 => ?_)
    · have hw := hw.1 c1
      exact ((W.vret hx hb hr (fun t ht hW => ⟨⟨(jjA, jnc), rfl, hw, by rw [ht]; exact hP, va_K.moved hW.alike hK, hD⟩, hS.F ht⟩) hS.2.2 (dt_of tkX8_put_k29 9 rfl)))
    · have hw := hw.2 c1
      refine lv_aload_n hx hb (dt_of tkX8_put_k0 4 rfl) rfl (lv_at hl 0 rfl) ?_
      refine va_get (D := (dC, dI)) (ci := 8) (v := .int jnc) (C := RX8) (T := TX8) (N := 7) hx hb hts ui_X8_put_X8 hown hK hP 0 rfl rfl 4 (by decide) (hts _ uw_X8_put_f19) (fun _ h9 => h9) rfl (dt_of tkX8_put_k0 5 rfl) ?_
      refine lv_sipush (v := 600) hx hb (dt_of tkX8_put_k0 6 rfl) (by decide) ?_
      refine lv_icmp_ge (tgt := 40) hx hb (dt_of tkX8_put_k0 7 rfl) (by decide) (fun c2 => ?_) (fun c2 => ?_)
      · have hw := hw.1 c2
        exact kb_X8_put_40 dC dI cyB cyI cyJ cyP a0 jif jjf jby jl9 jmS jkr  Q (wl_X8_put_3  Q  n) ih C0 _ _ _ jjA jnc l1 l2 hP hD hS (lv_sub hl [0, 1, 2] rfl) hw
      · have hw := hw.2 c2
        refine lv_aload_n hx hb (dt_of tkX8_put_k0 8 rfl) rfl (lv_at hl 0 rfl) ?_
        refine va_get (D := (dC, dI)) (ci := 8) (v := .ref jif) (C := RX8) (T := TX8) (N := 7) hx hb hts ui_X8_put_X8 hown hK hP 0 rfl rfl 0 (by decide) (hts _ uw_X8_put_f11) (fun _ h9 => h9) rfl (dt_of tkX8_put_k0 9 rfl) ?_
        refine lv_aload_n hx hb (dt_of tkX8_put_k0 10 rfl) rfl (lv_at hl 0 rfl) ?_
        refine va_get (D := (dC, dI)) (ci := 8) (v := .int jnc) (C := RX8) (T := TX8) (N := 7) hx hb hts ui_X8_put_X8 hown hK hP 0 rfl rfl 4 (by decide) (hts _ uw_X8_put_f19) (fun _ h9 => h9) rfl (dt_of tkX8_put_k0 11 rfl) ?_
        refine lv_iload_n hx hb (dt_of tkX8_put_k0 12 rfl) rfl (lv_at hl 1 rfl) ?_
        refine lv_iload_n hx hb (dt_of tkX8_put_k0 13 rfl) rfl (lv_at hl 2 rfl) ?_
        refine lv_ishr hx hb (dt_of tkX8_put_k0 14 rfl) ?_
        refine lv_i2b (v := (l1 >>> (l2 &&& 31)).toInt8.toInt32) hx hb (dt_of tkX8_put_k0 15 rfl) rfl ?_
        refine lv_topi (fun x3 ex3 => ?_)
        have hw := hw x3 ex3
        obtain ⟨hi9, hw⟩ := hw
        refine va_bast hx hb hK hP hD hS 1 0 rfl rfl hi9 (dt_of tkX8_put_k29 0 rfl) (fun H locs hP hD hS => ?_)
        obtain ⟨f4, ef4⟩ : ∃ y : Nat → Int32, y = upd jjA jnc.toNatClampNeg (vp_nar .byte x3) := ⟨_, rfl⟩
        have hw := hw f4 ef4
        have hP : va_P (dC, dI) vwCl (wd05_44 a0 jif jjf jby jl9 jnc jmS jkr jif cyB f4) H := by rw [ef4]; exact hP
        have hD : va_D A (wd05_44 a0 jif jjf jby jl9 jnc jmS jkr jif cyB f4) := by rw [ef4]; exact hD
        refine lv_aload_n hx hb (dt_of tkX8_put_k29 1 rfl) rfl (lv_at hl 0 rfl) ?_
        refine lv_dup hx hb (dt_of tkX8_put_k29 2 rfl) rfl ?_
        refine va_get (D := (dC, dI)) (ci := 8) (v := .int jnc) (C := RX8) (T := TX8) (N := 7) hx hb hts ui_X8_put_X8 hown hK hP 0 rfl rfl 4 (by decide) (hts _ uw_X8_put_f19) (fun _ h9 => h9) rfl (dt_of tkX8_put_k29 3 rfl) ?_
        refine lv_iconst (v := 1) hx hb (dt_of tkX8_put_k29 4 rfl) (by decide) ?_
        refine lv_iadd hx hb (dt_of tkX8_put_k29 5 rfl) ?_
        refine lv_topi (fun x5 ex5 => ?_)
        have hw := hw x5 ex5
        refine va_put (D := (dC, dI)) (ci := 8) (v := .int x5) (ty := .int) (C := RX8) (T := TX8) (N := 7) hx hb hts ui_X8_put_X8 tyX8 tyX8_ok nmX8 hown hK hP hD hS 0 rfl rfl 4 (by decide) (hts _ uw_X8_put_f19) (fun _ h9 => h9) rfl (by decide +kernel) rfl rfl (Nat.le_of_ble_eq_true rfl) (dt_of tkX8_put_k29 6 rfl) (fun H locs hP hD hS => ?_)
        have hP : va_P (dC, dI) vwCl (wd05_44 a0 jif jjf jby jl9 x5 jmS jkr jif cyB f4) H := hP
        have hD : va_D A (wd05_44 a0 jif jjf jby jl9 x5 jmS jkr jif cyB f4) := hD
        exact kb_X8_put_40 dC dI cyB cyI cyJ cyP a0 jif jjf jby jl9 jmS jkr  Q (wl_X8_put_3  Q  n) ih C0 _ _ _ f4 x5 l1 l2 hP hD hS (lv_sub hl [0, 1, 2] rfl) hw
set_option maxHeartbeats 4000000 in
set_option maxRecDepth 100000 in
theorem ck_X8_put (l : Launch) (dC : Nat → ClassId) (dI : Nat → Nat → Nat) (cyB cyI cyJ cyP : ClassId) (a0 jif sz : Nat) (jjf jby jl9 jmS jkr : Value)  (jjA : Nat → Int32) (jnc p1 : Int32) {Q : (Nat → Int32) → Int32 → Prop} (hw : wq_X8_put  jjA jnc p1 Q) : Met l yX8_put wsX8_put ({ frames := 0, cells := 0, slots := 0, locals := 0 }) (va_Pc [.ref a0, .int p1] (cPc (dC, dI) (kT cyB cyI cyJ cyP) (wd05_44 a0 jif jjf jby jl9 jnc jmS jkr jif cyB jjA) sz)) (va_Qv (fun (u : (Nat → Int32) × Int32) => Q u.1 u.2) (cB (dC, dI) (kT cyB cyI cyJ cyP) (va_A (wd05_44 a0 jif jjf jby jl9 jnc jmS jkr jif cyB jjA) sz) (fun u : (Nat → Int32) × Int32 => ((wd05_44 a0 jif jjf jby jl9 u.2 jmS jkr jif cyB u.1) : va_W))) (va_A (wd05_44 a0 jif jjf jby jl9 jnc jmS jkr jif cyB jjA) sz)) 0 0 (va_A (wd05_44 a0 jif jjf jby jl9 jnc jmS jkr jif cyB jjA) sz) := by
  refine Met.ofW (cc := cX8_put) (maxL := 3) (ret := none) (by decide) rfl ?_
  intro p e s m args below meth c s₁ B hml hv
  obtain ⟨rfl, hsz, hP, hK, hD0, hNw⟩ := hv
  have hx := B.exec
  have hb := B.bytes
  have hr := B.returns
  have hts := atoms_spec (ws := wsX8_put) B.pre
  have hown : s.vm.findClass RX8 = some m.cls := findClass_of_methodNamed B.named
  have hlocks := B.notSynchronized
  subst hsz
  have hD := hD0.self (sz := s.heap.size)
  generalize hAe : va_A (wd05_44 a0 jif jjf jby jl9 jnc jmS jkr jif cyB jjA) s.heap.size = A at hD ⊢
  have hA : ∀ q : Nat, s.heap.size ≤ q → A q := fun q h => by rw [← hAe]; exact Or.inr h
  have hS : va_S A s.heap s.heap [] := va_S.rf
  have hP : va_P (dC, dI) vwCl (wd05_44 a0 jif jjf jby jl9 jnc jmS jkr jif cyB jjA) s.heap := hP
  have hl := lv_entry ([.ref a0, .int p1]) (n := 3) (Nat.le_of_ble_eq_true rfl)
  rw [lg_entry_eq]
  generalize (lg_sl ([.ref a0, .int p1]) ++ List.replicate (3 - (lg_sl ([.ref a0, .int p1])).length) Slot.unset).toArray = ls at hl ⊢
  have hl : lv_has ls 3 [(0, .ref a0), (1, .int p1)] := hl
  have C0 : cfx p s m _ meth c cX8_put none wsX8_put RX8 3 A (dC, dI) (kT cyB cyI cyJ cyP) := ⟨hx, hb, hr, hts, hown, hlocks, hml, hA, hK, hNw⟩
  clear hAe
  obtain ⟨H, hH⟩ : ∃ H, H = s.heap := ⟨_, rfl⟩
  rw [← hH] at hP ⊢
  have hS : va_S A s.heap H [] := by rw [hH]; exact va_S.rf
  have hS := hS
  refine lv_bipush (v := 24) hx hb (dt_of tkX8_put_k0 0 rfl) (by decide) ?_
  refine lv_istore_n (lv' := [(2, .int 24), (0, .ref a0), (1, .int p1)]) hx hb (dt_of tkX8_put_k0 1 rfl) rfl hl (by decide) rfl (fun ls hl => ?_)
  obtain ⟨n9, hw⟩ := hw
  exact kl_X8_put_3 dC dI cyB cyI cyJ cyP a0 jif jjf jby jl9 jmS jkr  Q  C0 n9 _ _ _ jjA jnc p1 24 hP hD hS (lv_sub hl [1, 2, 0] rfl) hw
theorem ui_X10_feed_X10 : ∀ w ∈ u_ws RX10 TX10 19, w ∈ wsX10_feed := uiM mbX10_feed euX10 (by decide +kernel)
theorem ui_X10_feed_X8 : ∀ w ∈ u_ws RX8 TX8 7, w ∈ wsX10_feed := uiM mbX10_feed euX8 (by decide +kernel)
theorem uw_X10_feed_f10 : (.fieldLink RX10 10 "MarchHares" "tape" "LMarchHares$Tape;" : Cond) ∈ wsX10_feed := mbX10_feed 16 (by decide +kernel)
theorem uw_X10_feed_f105 : (.fieldLink RX10 105 "MarchHares$Tape" "filled" "I" : Cond) ∈ wsX10_feed := mbX10_feed 535 (by decide +kernel)
set_option maxHeartbeats 4000000 in
set_option maxRecDepth 100000 in
theorem ck_X10_feed (l : Launch) (dC : Nat → ClassId) (dI : Nat → Nat → Nat) (cyB cyI cyJ cyP : ClassId) (a0 jaW jfZ sz : Nat) (jfP ja1 jcp jbc jbV ja3 jbH ja2 jbO jaq jac jbI jbl jbn jba jaa jbA jdD jnj jn8 jnw jnx jm1 : Value)  (ji4 : Nat → Int32) (jj0 p1 p2 p3 p4 p5 : Int32) {Q : Int32 → (Nat → Int32) → Int32 → Prop} (hw : wq_X10_feed  ji4 jj0 p1 p2 p3 p4 p5 Q) : Met l yX10_feed wsX10_feed ({ frames := 1, cells := 0, slots := 0, locals := 22 }) (va_Pc [.ref a0, .int p1, .int p2, .int p3, .int p4, .int p5] (cPc (dC, dI) (kT cyB cyI cyJ cyP) (wd05_45 a0 jaW jfP ja1 jcp jbc jbV ja3 jbH ja2 jbO jaq jac jbI jbl jbn jba jaa jbA jdD jaW jfZ jnj jn8 jnw jj0 jnx jm1 jfZ cyB ji4) sz)) (va_Qi (fun (r : Int32) (u : (Nat → Int32) × Int32) => Q r u.1 u.2) (cB (dC, dI) (kT cyB cyI cyJ cyP) (va_A (wd05_45 a0 jaW jfP ja1 jcp jbc jbV ja3 jbH ja2 jbO jaq jac jbI jbl jbn jba jaa jbA jdD jaW jfZ jnj jn8 jnw jj0 jnx jm1 jfZ cyB ji4) sz) (fun u : (Nat → Int32) × Int32 => ((wd05_45 a0 jaW jfP ja1 jcp jbc jbV ja3 jbH ja2 jbO jaq jac jbI jbl jbn jba jaa jbA jdD jaW jfZ jnj jn8 jnw u.2 jnx jm1 jfZ cyB u.1) : va_W))) (va_A (wd05_45 a0 jaW jfP ja1 jcp jbc jbV ja3 jbH ja2 jbO jaq jac jbI jbl jbn jba jaa jbA jdD jaW jfZ jnj jn8 jnw jj0 jnx jm1 jfZ cyB ji4) sz)) 0 0 (va_A (wd05_45 a0 jaW jfP ja1 jcp jbc jbV ja3 jbH ja2 jbO jaq jac jbI jbl jbn jba jaa jbA jdD jaW jfZ jnj jn8 jnw jj0 jnx jm1 jfZ cyB ji4) sz) := by
  refine Met.ofW (cc := cX10_feed) (maxL := 6) (ret := (some .int)) (by decide) rfl ?_
  intro p e s m args below meth c s₁ B hml hv
  obtain ⟨rfl, hsz, hP, hK, hD0, hNw⟩ := hv
  have hx := B.exec
  have hb := B.bytes
  have hr := B.returns
  have hts := atoms_spec (ws := wsX10_feed) B.pre
  have hown : s.vm.findClass RX10 = some m.cls := findClass_of_methodNamed B.named
  have hlocks := B.notSynchronized
  subst hsz
  have hD := hD0.self (sz := s.heap.size)
  generalize hAe : va_A (wd05_45 a0 jaW jfP ja1 jcp jbc jbV ja3 jbH ja2 jbO jaq jac jbI jbl jbn jba jaa jbA jdD jaW jfZ jnj jn8 jnw jj0 jnx jm1 jfZ cyB ji4) s.heap.size = A at hD ⊢
  have hA : ∀ q : Nat, s.heap.size ≤ q → A q := fun q h => by rw [← hAe]; exact Or.inr h
  have hS : va_S A s.heap s.heap [] := va_S.rf
  have hP : va_P (dC, dI) vwCl (wd05_45 a0 jaW jfP ja1 jcp jbc jbV ja3 jbH ja2 jbO jaq jac jbI jbl jbn jba jaa jbA jdD jaW jfZ jnj jn8 jnw jj0 jnx jm1 jfZ cyB ji4) s.heap := hP
  have hl := lv_entry ([.ref a0, .int p1, .int p2, .int p3, .int p4, .int p5]) (n := 6) (Nat.le_of_ble_eq_true rfl)
  rw [lg_entry_eq]
  generalize (lg_sl ([.ref a0, .int p1, .int p2, .int p3, .int p4, .int p5]) ++ List.replicate (6 - (lg_sl ([.ref a0, .int p1, .int p2, .int p3, .int p4, .int p5])).length) Slot.unset).toArray = ls at hl ⊢
  have hl : lv_has ls 6 [(0, .ref a0), (1, .int p1), (2, .int p2), (3, .int p3), (4, .int p4), (5, .int p5)] := hl
  have C0 : cfx p s m _ meth c cX10_feed (some .int) wsX10_feed RX10 6 A (dC, dI) (kT cyB cyI cyJ cyP) := ⟨hx, hb, hr, hts, hown, hlocks, hml, hA, hK, hNw⟩
  clear hAe
  obtain ⟨H, hH⟩ : ∃ H, H = s.heap := ⟨_, rfl⟩
  rw [← hH] at hP ⊢
  have hS : va_S A s.heap H [] := by rw [hH]; exact va_S.rf
  have hS := hS
  refine lv_aload_n hx hb (dt_of tkX10_feed_k0 0 rfl) rfl (lv_at hl 0 rfl) ?_
  refine va_get (D := (dC, dI)) (ci := 10) (v := .ref jaW) (C := RX10) (T := TX10) (N := 19) hx hb hts ui_X10_feed_X10 hown hK hP 0 rfl rfl 0 (by decide) (hts _ uw_X10_feed_f10) (fun _ h9 => h9) rfl (dt_of tkX10_feed_k0 1 rfl) ?_
  obtain ⟨hCc, hPc, hDc, hFc⟩ := va_pick (ws' := (wd05_46 jaW jfZ jnj jn8 jnw jj0 jnx jm1)) hP hD hS hA [1] (by decide +kernel) rfl
  refine va_calli (va_runV (As := []) (rest := []) ⟨hx, hb, hml, hown, hts⟩ (ck_X8_hasRoom l dC dI cyB cyI cyJ cyP jaW H.size (.ref jfZ) (jnj) (jn8) (jnw) (jnx) (jm1) jj0   hw) (cwV 0 hts gX10_feed_X8_hasRoom rfl rfl rfl (by decide +kernel) ⟨Nat.le_of_ble_eq_true rfl, Nat.le_of_ble_eq_true rfl⟩) ⟨cPc_blind, va_recv (q := (RX8, TX8, 7)) hK hPc (ci := 8) (q0 := 0) rfl rfl, cPc_pre hPc hK hDc hNw⟩ rfl rfl hl.1 rfl (lv_room (Nat.le_of_ble_eq_true rfl)) (dt_of tkX10_feed_k0 2 rfl) ⟨Nat.le_of_ble_eq_true rfl, Nat.le_of_ble_eq_true rfl⟩) hS (fun q _ h => hFc q h) hFc (fun r1 u t H1 locs ht hvm hw hB hz1 hk1 hS => ?_)
  obtain ⟨hP1, hK1, hD1⟩ := hB
  rw [ht] at hP1
  obtain ⟨hP, hD⟩ := va_joinN (wr := [(a0, .inr (10, [.ref jaW, jfP, ja1, jcp, jbc, jbV, ja3, jbH, ja2, jbO, jaq, jac, jbI, jbl, jbn, jba, jaa, jbA, jdD])), (jfZ, .inl (cyB, 600, .inl ji4))]) (w1 := (wd05_46 jaW jfZ jnj jn8 jnw jj0 jnx jm1)) (wn := (wd05_45 a0 jaW jfP ja1 jcp jbc jbV ja3 jbH ja2 jbO jaq jac jbI jbl jbn jba jaa jbA jdD jaW jfZ jnj jn8 jnw jj0 jnx jm1 jfZ cyB ji4)) hP hD [1] [0, 2] [0, 2, 1] hCc rfl (by decide +kernel) (by decide +kernel) (by decide +kernel) rfl hk1 hFc hP1 hD1
  generalize H1 = H at hP hS ⊢
  refine lv_if_ne (tgt := 12) hx hb (dt_of tkX10_feed_k0 3 rfl) (by decide) (fun c2 => ?_) (fun c2 => ?_)
  · have hw := hw.1 c2
    refine lv_aload_n hx hb (dt_of tkX10_feed_k0 6 rfl) rfl (lv_at hl 0 rfl) ?_
    refine va_get (D := (dC, dI)) (ci := 10) (v := .ref jaW) (C := RX10) (T := TX10) (N := 19) hx hb hts ui_X10_feed_X10 hown hK hP 0 rfl rfl 0 (by decide) (hts _ uw_X10_feed_f10) (fun _ h9 => h9) rfl (dt_of tkX10_feed_k0 7 rfl) ?_
    refine lv_iload_n hx hb (dt_of tkX10_feed_k0 8 rfl) rfl (lv_at hl 1 rfl) ?_
    obtain ⟨hCc, hPc, hDc, hFc⟩ := va_pick (ws' := (wd05_44 jaW jfZ jnj jn8 jnw jj0 jnx jm1 jfZ cyB ji4)) hP hD hS hA [1, 2] (by decide +kernel) rfl
    refine va_callv (va_runV (As := [.int p1]) (rest := []) ⟨hx, hb, hml, hown, hts⟩ (ck_X8_put l dC dI cyB cyI cyJ cyP jaW jfZ H.size (jnj) (jn8) (jnw) (jnx) (jm1)  ji4 jj0 p1 hw) (cwV 1 hts gX10_feed_X8_put rfl rfl rfl (by decide +kernel) ⟨Nat.le_of_ble_eq_true rfl, Nat.le_of_ble_eq_true rfl⟩) ⟨cPc_blind, va_recv (q := (RX8, TX8, 7)) hK hPc (ci := 8) (q0 := 0) rfl rfl, cPc_pre hPc hK hDc hNw⟩ rfl rfl hl.1 rfl (lv_room (Nat.le_of_ble_eq_true rfl)) (dt_of tkX10_feed_k0 9 rfl) ⟨Nat.le_of_ble_eq_true rfl, Nat.le_of_ble_eq_true rfl⟩) hS (fun q _ h => hFc q h) hFc (fun u t H1 locs ht hvm hw hB hz1 hk1 hS => ?_)
    obtain ⟨f3, x4⟩ := u
    obtain ⟨hP1, hK1, hD1⟩ := hB
    rw [ht] at hP1
    obtain ⟨hP, hD⟩ := va_joinI (wr := (wd05_47 a0 jaW jfP ja1 jcp jbc jbV ja3 jbH ja2 jbO jaq jac jbI jbl jbn jba jaa jbA jdD)) (w1 := (wd05_44 jaW jfZ jnj jn8 jnw x4 jnx jm1 jfZ cyB f3)) (wn := (wd05_45 a0 jaW jfP ja1 jcp jbc jbV ja3 jbH ja2 jbO jaq jac jbI jbl jbn jba jaa jbA jdD jaW jfZ jnj jn8 jnw x4 jnx jm1 jfZ cyB f3)) hP hD [1, 2] [0] hCc rfl (by decide +kernel) (by decide +kernel) rfl hk1 hFc hP1 hD1
    generalize H1 = H at hP hS ⊢
    refine lv_aload_n hx hb (dt_of tkX10_feed_k0 10 rfl) rfl (lv_at hl 0 rfl) ?_
    refine va_get (D := (dC, dI)) (ci := 10) (v := .ref jaW) (C := RX10) (T := TX10) (N := 19) hx hb hts ui_X10_feed_X10 hown hK hP 0 rfl rfl 0 (by decide) (hts _ uw_X10_feed_f10) (fun _ h9 => h9) rfl (dt_of tkX10_feed_k0 11 rfl) ?_
    refine lv_iload_n hx hb (dt_of tkX10_feed_k0 12 rfl) rfl (lv_at hl 2 rfl) ?_
    obtain ⟨hCc, hPc, hDc, hFc⟩ := va_pick (ws' := (wd05_44 jaW jfZ jnj jn8 jnw x4 jnx jm1 jfZ cyB f3)) hP hD hS hA [1, 2] (by decide +kernel) rfl
    refine va_callv (va_runV (As := [.int p2]) (rest := []) ⟨hx, hb, hml, hown, hts⟩ (ck_X8_put l dC dI cyB cyI cyJ cyP jaW jfZ H.size (jnj) (jn8) (jnw) (jnx) (jm1)  f3 x4 p2 hw) (cwV 1 hts gX10_feed_X8_put rfl rfl rfl (by decide +kernel) ⟨Nat.le_of_ble_eq_true rfl, Nat.le_of_ble_eq_true rfl⟩) ⟨cPc_blind, va_recv (q := (RX8, TX8, 7)) hK hPc (ci := 8) (q0 := 0) rfl rfl, cPc_pre hPc hK hDc hNw⟩ rfl rfl hl.1 rfl (lv_room (Nat.le_of_ble_eq_true rfl)) (dt_of tkX10_feed_k0 13 rfl) ⟨Nat.le_of_ble_eq_true rfl, Nat.le_of_ble_eq_true rfl⟩) hS (fun q _ h => hFc q h) hFc (fun u t H1 locs ht hvm hw hB hz1 hk1 hS => ?_)
    obtain ⟨f5, x6⟩ := u
    obtain ⟨hP1, hK1, hD1⟩ := hB
    rw [ht] at hP1
    obtain ⟨hP, hD⟩ := va_joinI (wr := (wd05_47 a0 jaW jfP ja1 jcp jbc jbV ja3 jbH ja2 jbO jaq jac jbI jbl jbn jba jaa jbA jdD)) (w1 := (wd05_44 jaW jfZ jnj jn8 jnw x6 jnx jm1 jfZ cyB f5)) (wn := (wd05_45 a0 jaW jfP ja1 jcp jbc jbV ja3 jbH ja2 jbO jaq jac jbI jbl jbn jba jaa jbA jdD jaW jfZ jnj jn8 jnw x6 jnx jm1 jfZ cyB f5)) hP hD [1, 2] [0] hCc rfl (by decide +kernel) (by decide +kernel) rfl hk1 hFc hP1 hD1
    generalize H1 = H at hP hS ⊢
    refine lv_aload_n hx hb (dt_of tkX10_feed_k0 14 rfl) rfl (lv_at hl 0 rfl) ?_
    refine va_get (D := (dC, dI)) (ci := 10) (v := .ref jaW) (C := RX10) (T := TX10) (N := 19) hx hb hts ui_X10_feed_X10 hown hK hP 0 rfl rfl 0 (by decide) (hts _ uw_X10_feed_f10) (fun _ h9 => h9) rfl (dt_of tkX10_feed_k0 15 rfl) ?_
    refine lv_iload_n hx hb (dt_of tkX10_feed_k32 0 rfl) rfl (lv_at hl 3 rfl) ?_
    obtain ⟨hCc, hPc, hDc, hFc⟩ := va_pick (ws' := (wd05_44 jaW jfZ jnj jn8 jnw x6 jnx jm1 jfZ cyB f5)) hP hD hS hA [1, 2] (by decide +kernel) rfl
    refine va_callv (va_runV (As := [.int p3]) (rest := []) ⟨hx, hb, hml, hown, hts⟩ (ck_X8_put l dC dI cyB cyI cyJ cyP jaW jfZ H.size (jnj) (jn8) (jnw) (jnx) (jm1)  f5 x6 p3 hw) (cwV 1 hts gX10_feed_X8_put rfl rfl rfl (by decide +kernel) ⟨Nat.le_of_ble_eq_true rfl, Nat.le_of_ble_eq_true rfl⟩) ⟨cPc_blind, va_recv (q := (RX8, TX8, 7)) hK hPc (ci := 8) (q0 := 0) rfl rfl, cPc_pre hPc hK hDc hNw⟩ rfl rfl hl.1 rfl (lv_room (Nat.le_of_ble_eq_true rfl)) (dt_of tkX10_feed_k32 1 rfl) ⟨Nat.le_of_ble_eq_true rfl, Nat.le_of_ble_eq_true rfl⟩) hS (fun q _ h => hFc q h) hFc (fun u t H1 locs ht hvm hw hB hz1 hk1 hS => ?_)
    obtain ⟨f7, x8⟩ := u
    obtain ⟨hP1, hK1, hD1⟩ := hB
    rw [ht] at hP1
    obtain ⟨hP, hD⟩ := va_joinI (wr := (wd05_47 a0 jaW jfP ja1 jcp jbc jbV ja3 jbH ja2 jbO jaq jac jbI jbl jbn jba jaa jbA jdD)) (w1 := (wd05_44 jaW jfZ jnj jn8 jnw x8 jnx jm1 jfZ cyB f7)) (wn := (wd05_45 a0 jaW jfP ja1 jcp jbc jbV ja3 jbH ja2 jbO jaq jac jbI jbl jbn jba jaa jbA jdD jaW jfZ jnj jn8 jnw x8 jnx jm1 jfZ cyB f7)) hP hD [1, 2] [0] hCc rfl (by decide +kernel) (by decide +kernel) rfl hk1 hFc hP1 hD1
    generalize H1 = H at hP hS ⊢
    refine lv_aload_n hx hb (dt_of tkX10_feed_k32 2 rfl) rfl (lv_at hl 0 rfl) ?_
    refine va_get (D := (dC, dI)) (ci := 10) (v := .ref jaW) (C := RX10) (T := TX10) (N := 19) hx hb hts ui_X10_feed_X10 hown hK hP 0 rfl rfl 0 (by decide) (hts _ uw_X10_feed_f10) (fun _ h9 => h9) rfl (dt_of tkX10_feed_k32 3 rfl) ?_
    refine lv_iload hx hb (dt_of tkX10_feed_k32 4 rfl) (lv_at hl 4 rfl) ?_
    obtain ⟨hCc, hPc, hDc, hFc⟩ := va_pick (ws' := (wd05_44 jaW jfZ jnj jn8 jnw x8 jnx jm1 jfZ cyB f7)) hP hD hS hA [1, 2] (by decide +kernel) rfl
    refine va_callv (va_runV (As := [.int p4]) (rest := []) ⟨hx, hb, hml, hown, hts⟩ (ck_X8_put l dC dI cyB cyI cyJ cyP jaW jfZ H.size (jnj) (jn8) (jnw) (jnx) (jm1)  f7 x8 p4 hw) (cwV 1 hts gX10_feed_X8_put rfl rfl rfl (by decide +kernel) ⟨Nat.le_of_ble_eq_true rfl, Nat.le_of_ble_eq_true rfl⟩) ⟨cPc_blind, va_recv (q := (RX8, TX8, 7)) hK hPc (ci := 8) (q0 := 0) rfl rfl, cPc_pre hPc hK hDc hNw⟩ rfl rfl hl.1 rfl (lv_room (Nat.le_of_ble_eq_true rfl)) (dt_of tkX10_feed_k32 5 rfl) ⟨Nat.le_of_ble_eq_true rfl, Nat.le_of_ble_eq_true rfl⟩) hS (fun q _ h => hFc q h) hFc (fun u t H1 locs ht hvm hw hB hz1 hk1 hS => ?_)
    obtain ⟨f9, x10⟩ := u
    obtain ⟨hP1, hK1, hD1⟩ := hB
    rw [ht] at hP1
    obtain ⟨hP, hD⟩ := va_joinI (wr := (wd05_47 a0 jaW jfP ja1 jcp jbc jbV ja3 jbH ja2 jbO jaq jac jbI jbl jbn jba jaa jbA jdD)) (w1 := (wd05_44 jaW jfZ jnj jn8 jnw x10 jnx jm1 jfZ cyB f9)) (wn := (wd05_45 a0 jaW jfP ja1 jcp jbc jbV ja3 jbH ja2 jbO jaq jac jbI jbl jbn jba jaa jbA jdD jaW jfZ jnj jn8 jnw x10 jnx jm1 jfZ cyB f9)) hP hD [1, 2] [0] hCc rfl (by decide +kernel) (by decide +kernel) rfl hk1 hFc hP1 hD1
    generalize H1 = H at hP hS ⊢
    refine lv_aload_n hx hb (dt_of tkX10_feed_k32 6 rfl) rfl (lv_at hl 0 rfl) ?_
    refine va_get (D := (dC, dI)) (ci := 10) (v := .ref jaW) (C := RX10) (T := TX10) (N := 19) hx hb hts ui_X10_feed_X10 hown hK hP 0 rfl rfl 0 (by decide) (hts _ uw_X10_feed_f10) (fun _ h9 => h9) rfl (dt_of tkX10_feed_k32 7 rfl) ?_
    refine lv_iload hx hb (dt_of tkX10_feed_k32 8 rfl) (lv_at hl 5 rfl) ?_
    obtain ⟨hCc, hPc, hDc, hFc⟩ := va_pick (ws' := (wd05_44 jaW jfZ jnj jn8 jnw x10 jnx jm1 jfZ cyB f9)) hP hD hS hA [1, 2] (by decide +kernel) rfl
    refine va_callv (va_runV (As := [.int p5]) (rest := []) ⟨hx, hb, hml, hown, hts⟩ (ck_X8_put l dC dI cyB cyI cyJ cyP jaW jfZ H.size (jnj) (jn8) (jnw) (jnx) (jm1)  f9 x10 p5 hw) (cwV 1 hts gX10_feed_X8_put rfl rfl rfl (by decide +kernel) ⟨Nat.le_of_ble_eq_true rfl, Nat.le_of_ble_eq_true rfl⟩) ⟨cPc_blind, va_recv (q := (RX8, TX8, 7)) hK hPc (ci := 8) (q0 := 0) rfl rfl, cPc_pre hPc hK hDc hNw⟩ rfl rfl hl.1 rfl (lv_room (Nat.le_of_ble_eq_true rfl)) (dt_of tkX10_feed_k32 9 rfl) ⟨Nat.le_of_ble_eq_true rfl, Nat.le_of_ble_eq_true rfl⟩) hS (fun q _ h => hFc q h) hFc (fun u t H1 locs ht hvm hw hB hz1 hk1 hS => ?_)
    obtain ⟨f11, x12⟩ := u
    obtain ⟨hP1, hK1, hD1⟩ := hB
    rw [ht] at hP1
    obtain ⟨hP, hD⟩ := va_joinI (wr := (wd05_47 a0 jaW jfP ja1 jcp jbc jbV ja3 jbH ja2 jbO jaq jac jbI jbl jbn jba jaa jbA jdD)) (w1 := (wd05_44 jaW jfZ jnj jn8 jnw x12 jnx jm1 jfZ cyB f11)) (wn := (wd05_45 a0 jaW jfP ja1 jcp jbc jbV ja3 jbH ja2 jbO jaq jac jbI jbl jbn jba jaa jbA jdD jaW jfZ jnj jn8 jnw x12 jnx jm1 jfZ cyB f11)) hP hD [1, 2] [0] hCc rfl (by decide +kernel) (by decide +kernel) rfl hk1 hFc hP1 hD1
    generalize H1 = H at hP hS ⊢
    refine lv_aload_n hx hb (dt_of tkX10_feed_k32 10 rfl) rfl (lv_at hl 0 rfl) ?_
    refine va_get (D := (dC, dI)) (ci := 10) (v := .ref jaW) (C := RX10) (T := TX10) (N := 19) hx hb hts ui_X10_feed_X10 hown hK hP 0 rfl rfl 0 (by decide) (hts _ uw_X10_feed_f10) (fun _ h9 => h9) rfl (dt_of tkX10_feed_k32 11 rfl) ?_
    refine va_get (D := (dC, dI)) (ci := 8) (v := .int x12) (C := RX8) (T := TX8) (N := 7) hx hb hts ui_X10_feed_X8 hown hK hP 1 rfl rfl 4 (by decide) (hts _ uw_X10_feed_f105) (fun _ h9 => h9) rfl (dt_of tkX10_feed_k32 12 rfl) ?_
    exact ((W.iret (v := x12) hx hb hr (fun t ht hW => ⟨⟨x12, (f11, x12), rfl, hw, by rw [ht]; exact hP, va_K.moved hW.alike hK, hD⟩, hS.F ht⟩) hS.2.2 (dt_of tkX10_feed_k32 13 rfl)))
  · have hw := hw.2 c2
    refine lv_iconst (v := (-1)) hx hb (dt_of tkX10_feed_k0 4 rfl) (by decide) ?_
    exact ((W.iret (v := (-1)) hx hb hr (fun t ht hW => ⟨⟨(-1), (ji4, jj0), rfl, hw, by rw [ht]; exact hP, va_K.moved hW.alike hK, hD⟩, hS.F ht⟩) hS.2.2 (dt_of tkX10_feed_k0 5 rfl)))
theorem ui_X5_copyFrom_X5 : ∀ w ∈ u_ws RX5 TX5 2, w ∈ wsX5_copyFrom := uiM mbX5_copyFrom euX5 (by decide +kernel)
theorem uw_X5_copyFrom_aci : (.initialized "java/lang/System" : Cond) ∈ wsX5_copyFrom := mbX5_copyFrom 331 (by decide +kernel)
theorem uw_X5_copyFrom_acn : (.native arraycopyName : Cond) ∈ wsX5_copyFrom := mbX5_copyFrom 329 (by decide +kernel)
theorem uw_X5_copyFrom_acs : (.static arraycopyName : Cond) ∈ wsX5_copyFrom := mbX5_copyFrom 330 (by decide +kernel)
theorem uw_X5_copyFrom_f11 : (.fieldLink RX5 11 "MarchHares$Past" "rows" "[I" : Cond) ∈ wsX5_copyFrom := mbX5_copyFrom 335 (by decide +kernel)
theorem uw_X5_copyFrom_f17 : (.fieldLink RX5 17 "MarchHares$Past" "kept" "I" : Cond) ∈ wsX5_copyFrom := mbX5_copyFrom 1676 (by decide +kernel)
theorem uw_X5_copyFrom_m24 : (.methodLink RX5 24 arraycopyName : Cond) ∈ wsX5_copyFrom := mbX5_copyFrom 1678 (by decide +kernel)
set_option maxHeartbeats 4000000 in
set_option maxRecDepth 100000 in
theorem ck_X5_copyFrom (l : Launch) (dC : Nat → ClassId) (dI : Nat → Nat → Nat) (cyB cyI cyJ cyP : ClassId) (a0 a1 jpc jnO sz : Nat)  (jo7 : Int32) (jpi joO : Nat → Int32) (joH : Int32)  {Q : (Nat → Int32) → Int32 → Prop} (hw : wq_X5_copyFrom jo7 jpi joO joH  Q) : Met l yX5_copyFrom wsX5_copyFrom ({ frames := 1, cells := 0, slots := 0, locals := 40 }) (va_Pc [.ref a0, .ref a1] (cPc (dC, dI) (kT cyB cyI cyJ cyP) (wd05_48 a0 jnO joH a1 jpc jo7 jpc cyI jpi jnO cyI joO) sz)) (va_Qv (fun (u : (Nat → Int32) × Int32) => Q u.1 u.2) (cB (dC, dI) (kT cyB cyI cyJ cyP) (va_A (wd05_48 a0 jnO joH a1 jpc jo7 jpc cyI jpi jnO cyI joO) sz) (fun u : (Nat → Int32) × Int32 => ((wd05_48 a0 jnO u.2 a1 jpc jo7 jpc cyI jpi jnO cyI u.1) : va_W))) (va_A (wd05_48 a0 jnO joH a1 jpc jo7 jpc cyI jpi jnO cyI joO) sz)) 0 0 (va_A (wd05_48 a0 jnO joH a1 jpc jo7 jpc cyI jpi jnO cyI joO) sz) := by
  refine Met.ofW (cc := cX5_copyFrom) (maxL := 2) (ret := none) (by decide) rfl ?_
  intro p e s m args below meth c s₁ B hml hv
  obtain ⟨rfl, hsz, hP, hK, hD0, hNw⟩ := hv
  have hx := B.exec
  have hb := B.bytes
  have hr := B.returns
  have hts := atoms_spec (ws := wsX5_copyFrom) B.pre
  have hown : s.vm.findClass RX5 = some m.cls := findClass_of_methodNamed B.named
  have hlocks := B.notSynchronized
  subst hsz
  have hD := hD0.self (sz := s.heap.size)
  generalize hAe : va_A (wd05_48 a0 jnO joH a1 jpc jo7 jpc cyI jpi jnO cyI joO) s.heap.size = A at hD ⊢
  have hA : ∀ q : Nat, s.heap.size ≤ q → A q := fun q h => by rw [← hAe]; exact Or.inr h
  have hS : va_S A s.heap s.heap [] := va_S.rf
  have hP : va_P (dC, dI) vwCl (wd05_48 a0 jnO joH a1 jpc jo7 jpc cyI jpi jnO cyI joO) s.heap := hP
  have hl := lv_entry ([.ref a0, .ref a1]) (n := 2) (Nat.le_of_ble_eq_true rfl)
  rw [lg_entry_eq]
  generalize (lg_sl ([.ref a0, .ref a1]) ++ List.replicate (2 - (lg_sl ([.ref a0, .ref a1])).length) Slot.unset).toArray = ls at hl ⊢
  have hl : lv_has ls 2 [(0, .ref a0), (1, .ref a1)] := hl
  have C0 : cfx p s m _ meth c cX5_copyFrom none wsX5_copyFrom RX5 2 A (dC, dI) (kT cyB cyI cyJ cyP) := ⟨hx, hb, hr, hts, hown, hlocks, hml, hA, hK, hNw⟩
  clear hAe
  obtain ⟨H, hH⟩ : ∃ H, H = s.heap := ⟨_, rfl⟩
  rw [← hH] at hP ⊢
  have hS : va_S A s.heap H [] := by rw [hH]; exact va_S.rf
  have hS := hS
  refine lv_aload_n hx hb (dt_of tkX5_copyFrom_k0 0 rfl) rfl (lv_at hl 1 rfl) ?_
  refine va_get (D := (dC, dI)) (ci := 5) (v := .ref jpc) (C := RX5) (T := TX5) (N := 2) hx hb hts ui_X5_copyFrom_X5 hown hK hP 1 rfl rfl 0 (by decide) (hts _ uw_X5_copyFrom_f11) (fun _ h9 => h9) rfl (dt_of tkX5_copyFrom_k0 1 rfl) ?_
  refine lv_iconst (v := 0) hx hb (dt_of tkX5_copyFrom_k0 2 rfl) (by decide) ?_
  refine lv_aload_n hx hb (dt_of tkX5_copyFrom_k0 3 rfl) rfl (lv_at hl 0 rfl) ?_
  refine va_get (D := (dC, dI)) (ci := 5) (v := .ref jnO) (C := RX5) (T := TX5) (N := 2) hx hb hts ui_X5_copyFrom_X5 hown hK hP 0 rfl rfl 0 (by decide) (hts _ uw_X5_copyFrom_f11) (fun _ h9 => h9) rfl (dt_of tkX5_copyFrom_k0 4 rfl) ?_
  refine lv_iconst (v := 0) hx hb (dt_of tkX5_copyFrom_k0 5 rfl) (by decide) ?_
  refine lv_aload_n hx hb (dt_of tkX5_copyFrom_k0 6 rfl) rfl (lv_at hl 1 rfl) ?_
  refine va_get (D := (dC, dI)) (ci := 5) (v := .int jo7) (C := RX5) (T := TX5) (N := 2) hx hb hts ui_X5_copyFrom_X5 hown hK hP 1 rfl rfl 1 (by decide) (hts _ uw_X5_copyFrom_f17) (fun _ h9 => h9) rfl (dt_of tkX5_copyFrom_k0 7 rfl) ?_
  refine lv_bipush (v := 64) hx hb (dt_of tkX5_copyFrom_k0 8 rfl) (by decide) ?_
  refine lv_imul hx hb (dt_of tkX5_copyFrom_k0 9 rfl) ?_
  obtain ⟨hc29, hw⟩ := hw
  obtain ⟨hc39, hw⟩ := hw
  obtain ⟨hc49, hw⟩ := hw
  refine va_copyi hx hb (by rw [hml]; exact hl.1.symm) hown (hts _ uw_X5_copyFrom_m24) (hts _ uw_X5_copyFrom_acn) (hts _ uw_X5_copyFrom_acs) (hts _ uw_X5_copyFrom_aci) hK hP hD hS 2 3 1 1 rfl rfl rfl rfl rfl (by decide) (by decide) hc29 hc39 hc49 (fun _ _ => rfl) (Nat.le_of_ble_eq_true rfl) (Nat.le_of_ble_eq_true rfl) (dt_of tkX5_copyFrom_k0 10 rfl) (fun H locs hP hD hS => ?_)
  obtain ⟨f1, ef1⟩ : ∃ y : Nat → Int32, y = va_cpy jpi joO (0 : Int32).toNatClampNeg (0 : Int32).toNatClampNeg (jo7 * 64).toNatClampNeg := ⟨_, rfl⟩
  have hw := hw f1 ef1
  have hP : va_P (dC, dI) vwCl (wd05_48 a0 jnO joH a1 jpc jo7 jpc cyI jpi jnO cyI f1) H := by rw [ef1]; exact hP
  have hD : va_D A (wd05_48 a0 jnO joH a1 jpc jo7 jpc cyI jpi jnO cyI f1) := by rw [ef1]; exact hD
  refine lv_aload_n hx hb (dt_of tkX5_copyFrom_k0 11 rfl) rfl (lv_at hl 0 rfl) ?_
  refine lv_aload_n hx hb (dt_of tkX5_copyFrom_k0 12 rfl) rfl (lv_at hl 1 rfl) ?_
  refine va_get (D := (dC, dI)) (ci := 5) (v := .int jo7) (C := RX5) (T := TX5) (N := 2) hx hb hts ui_X5_copyFrom_X5 hown hK hP 1 rfl rfl 1 (by decide) (hts _ uw_X5_copyFrom_f17) (fun _ h9 => h9) rfl (dt_of tkX5_copyFrom_k0 13 rfl) ?_
  refine va_put (D := (dC, dI)) (ci := 5) (v := .int jo7) (ty := .int) (C := RX5) (T := TX5) (N := 2) hx hb hts ui_X5_copyFrom_X5 tyX5 tyX5_ok nmX5 hown hK hP hD hS 0 rfl rfl 1 (by decide) (hts _ uw_X5_copyFrom_f17) (fun _ h9 => h9) rfl (by decide +kernel) rfl rfl (Nat.le_of_ble_eq_true rfl) (dt_of tkX5_copyFrom_k0 14 rfl) (fun H locs hP hD hS => ?_)
  have hP : va_P (dC, dI) vwCl (wd05_48 a0 jnO jo7 a1 jpc jo7 jpc cyI jpi jnO cyI f1) H := hP
  have hD : va_D A (wd05_48 a0 jnO jo7 a1 jpc jo7 jpc cyI jpi jnO cyI f1) := hD
  exact ((W.vret hx hb hr (fun t ht hW => ⟨⟨(f1, jo7), rfl, hw, by rw [ht]; exact hP, va_K.moved hW.alike hK, hD⟩, hS.F ht⟩) hS.2.2 (dt_of tkX5_copyFrom_k0 15 rfl)))
theorem ui_X10_image_X10 : ∀ w ∈ u_ws RX10 TX10 19, w ∈ wsX10_image := uiM mbX10_image euX10 (by decide +kernel)
theorem uw_X10_image_f135 : (.fieldLink RX10 135 "MarchHares" "imagesKept" "I" : Cond) ∈ wsX10_image := mbX10_image 642 (by decide +kernel)
theorem uw_X10_image_f58 : (.fieldLink RX10 58 "MarchHares" "now" "LMarchHares$Days;" : Cond) ∈ wsX10_image := mbX10_image 79 (by decide +kernel)
theorem uw_X10_image_f68 : (.fieldLink RX10 68 "MarchHares" "past" "LMarchHares$Past;" : Cond) ∈ wsX10_image := mbX10_image 84 (by decide +kernel)
theorem uw_X10_image_f72 : (.fieldLink RX10 72 "MarchHares" "images" "[LMarchHares$Past;" : Cond) ∈ wsX10_image := mbX10_image 85 (by decide +kernel)
set_option maxHeartbeats 4000000 in
set_option maxRecDepth 100000 in
theorem ck_X10_image (l : Launch) (dC : Nat → ClassId) (dI : Nat → Nat → Nat) (cyB cyI cyJ cyP : ClassId) (a0 jjk jik jeG jhF jig jiq jiD jaT jbb jih jii sz : Nat) (jaK jfP ja1 jcp jbc jbV ja3 jbH jbO jbI jbl jbn jaa jbA jdD jbr jhD jfc : Value) (jje : Int32) (jkH jbQ jkU : Nat → Int32) (jk0 jkc : Int32) (jkV : Nat → Int32) (jk1 : Int32) (jkW : Nat → Int32) (jk2 : Int32)  {Q : Int32 → (Nat → Int32) → Int32 → Int32 → (Nat → Int32) → Int32 → (Nat → Int32) → Int32 → Prop} (hw : wq_X10_image jje jkH jbQ jkU jk0 jkc jkV jk1 jkW jk2  Q) : Met l yX10_image wsX10_image ({ frames := 2, cells := 0, slots := 0, locals := 61 }) (va_Pc [.ref a0] (cPc (dC, dI) (kT cyB cyI cyJ cyP) (wd05_49 a0 jaK jfP ja1 jcp jbc jbV ja3 jbH jaT jbO jeG jjk jbI jbl jbn jkc jaa jbA jdD jjk cyP (img3 jik jiq jiD) jik jig jk0 jeG jhF jje jhF cyI jkH jig cyI jkU jaT jbb jbr jhD jfc jbb cyI jbQ jiq jih jk1 jih cyI jkV jiD jii jk2 jii cyI jkW) sz)) (va_Qi (fun (r : Int32) (u : (Nat → Int32) × Int32 × Int32 × (Nat → Int32) × Int32 × (Nat → Int32) × Int32) => Q r u.1 u.2.1 u.2.2.1 u.2.2.2.1 u.2.2.2.2.1 u.2.2.2.2.2.1 u.2.2.2.2.2.2) (cB (dC, dI) (kT cyB cyI cyJ cyP) (va_A (wd05_49 a0 jaK jfP ja1 jcp jbc jbV ja3 jbH jaT jbO jeG jjk jbI jbl jbn jkc jaa jbA jdD jjk cyP (img3 jik jiq jiD) jik jig jk0 jeG jhF jje jhF cyI jkH jig cyI jkU jaT jbb jbr jhD jfc jbb cyI jbQ jiq jih jk1 jih cyI jkV jiD jii jk2 jii cyI jkW) sz) (fun u : (Nat → Int32) × Int32 × Int32 × (Nat → Int32) × Int32 × (Nat → Int32) × Int32 => ((wd05_49 a0 jaK jfP ja1 jcp jbc jbV ja3 jbH jaT jbO jeG jjk jbI jbl jbn u.2.2.1 jaa jbA jdD jjk cyP (img3 jik jiq jiD) jik jig u.2.1 jeG jhF jje jhF cyI jkH jig cyI u.1 jaT jbb jbr jhD jfc jbb cyI jbQ jiq jih u.2.2.2.2.1 jih cyI u.2.2.2.1 jiD jii u.2.2.2.2.2.2 jii cyI u.2.2.2.2.2.1) : va_W))) (va_A (wd05_49 a0 jaK jfP ja1 jcp jbc jbV ja3 jbH jaT jbO jeG jjk jbI jbl jbn jkc jaa jbA jdD jjk cyP (img3 jik jiq jiD) jik jig jk0 jeG jhF jje jhF cyI jkH jig cyI jkU jaT jbb jbr jhD jfc jbb cyI jbQ jiq jih jk1 jih cyI jkV jiD jii jk2 jii cyI jkW) sz)) 0 0 (va_A (wd05_49 a0 jaK jfP ja1 jcp jbc jbV ja3 jbH jaT jbO jeG jjk jbI jbl jbn jkc jaa jbA jdD jjk cyP (img3 jik jiq jiD) jik jig jk0 jeG jhF jje jhF cyI jkH jig cyI jkU jaT jbb jbr jhD jfc jbb cyI jbQ jiq jih jk1 jih cyI jkV jiD jii jk2 jii cyI jkW) sz) := by
  refine Met.ofW (cc := cX10_image) (maxL := 1) (ret := (some .int)) (by decide) rfl ?_
  intro p e s m args below meth c s₁ B hml hv
  obtain ⟨rfl, hsz, hP, hK, hD0, hNw⟩ := hv
  have hx := B.exec
  have hb := B.bytes
  have hr := B.returns
  have hts := atoms_spec (ws := wsX10_image) B.pre
  have hown : s.vm.findClass RX10 = some m.cls := findClass_of_methodNamed B.named
  have hlocks := B.notSynchronized
  subst hsz
  have hD := hD0.self (sz := s.heap.size)
  generalize hAe : va_A (wd05_49 a0 jaK jfP ja1 jcp jbc jbV ja3 jbH jaT jbO jeG jjk jbI jbl jbn jkc jaa jbA jdD jjk cyP (img3 jik jiq jiD) jik jig jk0 jeG jhF jje jhF cyI jkH jig cyI jkU jaT jbb jbr jhD jfc jbb cyI jbQ jiq jih jk1 jih cyI jkV jiD jii jk2 jii cyI jkW) s.heap.size = A at hD ⊢
  have hA : ∀ q : Nat, s.heap.size ≤ q → A q := fun q h => by rw [← hAe]; exact Or.inr h
  have hS : va_S A s.heap s.heap [] := va_S.rf
  have hP : va_P (dC, dI) vwCl (wd05_49 a0 jaK jfP ja1 jcp jbc jbV ja3 jbH jaT jbO jeG jjk jbI jbl jbn jkc jaa jbA jdD jjk cyP (img3 jik jiq jiD) jik jig jk0 jeG jhF jje jhF cyI jkH jig cyI jkU jaT jbb jbr jhD jfc jbb cyI jbQ jiq jih jk1 jih cyI jkV jiD jii jk2 jii cyI jkW) s.heap := hP
  have hl := lv_entry ([.ref a0]) (n := 1) (Nat.le_of_ble_eq_true rfl)
  rw [lg_entry_eq]
  generalize (lg_sl ([.ref a0]) ++ List.replicate (1 - (lg_sl ([.ref a0])).length) Slot.unset).toArray = ls at hl ⊢
  have hl : lv_has ls 1 [(0, .ref a0)] := hl
  have C0 : cfx p s m _ meth c cX10_image (some .int) wsX10_image RX10 1 A (dC, dI) (kT cyB cyI cyJ cyP) := ⟨hx, hb, hr, hts, hown, hlocks, hml, hA, hK, hNw⟩
  clear hAe
  obtain ⟨H, hH⟩ : ∃ H, H = s.heap := ⟨_, rfl⟩
  rw [← hH] at hP ⊢
  have hS : va_S A s.heap H [] := by rw [hH]; exact va_S.rf
  have hS := hS
  refine lv_aload_n hx hb (dt_of tkX10_image_k0 0 rfl) rfl (lv_at hl 0 rfl) ?_
  refine va_get (D := (dC, dI)) (ci := 10) (v := .int jkc) (C := RX10) (T := TX10) (N := 19) hx hb hts ui_X10_image_X10 hown hK hP 0 rfl rfl 15 (by decide) (hts _ uw_X10_image_f135) (fun _ h9 => h9) rfl (dt_of tkX10_image_k0 1 rfl) ?_
  refine lv_iconst (v := 3) hx hb (dt_of tkX10_image_k0 2 rfl) (by decide) ?_
  refine lv_icmp_lt (tgt := 10) hx hb (dt_of tkX10_image_k0 3 rfl) (by decide) (fun c1 => ?_) (fun c1 => ?_)
  · have hw := hw.1 c1
    refine lv_aload_n hx hb (dt_of tkX10_image_k0 6 rfl) rfl (lv_at hl 0 rfl) ?_
    refine va_get (D := (dC, dI)) (ci := 10) (v := .ref jjk) (C := RX10) (T := TX10) (N := 19) hx hb hts ui_X10_image_X10 hown hK hP 0 rfl rfl 11 (by decide) (hts _ uw_X10_image_f72) (fun _ h9 => h9) rfl (dt_of tkX10_image_k0 7 rfl) ?_
    refine lv_aload_n hx hb (dt_of tkX10_image_k0 8 rfl) rfl (lv_at hl 0 rfl) ?_
    refine va_get (D := (dC, dI)) (ci := 10) (v := .int jkc) (C := RX10) (T := TX10) (N := 19) hx hb hts ui_X10_image_X10 hown hK hP 0 rfl rfl 15 (by decide) (hts _ uw_X10_image_f135) (fun _ h9 => h9) rfl (dt_of tkX10_image_k0 9 rfl) ?_
    obtain ⟨hi9, hw⟩ := hw
    refine va_aldq hx hb hK hP 1 3 rfl rfl hi9 (dt_of tkX10_image_k0 10 rfl) ?_
    rcases in3 hi9 with c2 | c2 | c2
    · have hw := hw.1 c2
      rw [show va_rf (img3 jik jiq jiD jkc.toNatClampNeg) = .ref jik from by rw [c2]; rfl]
      refine lv_aload_n hx hb (dt_of tkX10_image_k0 11 rfl) rfl (lv_at hl 0 rfl) ?_
      refine va_get (D := (dC, dI)) (ci := 10) (v := .ref jeG) (C := RX10) (T := TX10) (N := 19) hx hb hts ui_X10_image_X10 hown hK hP 0 rfl rfl 10 (by decide) (hts _ uw_X10_image_f68) (fun _ h9 => h9) rfl (dt_of tkX10_image_k0 12 rfl) ?_
      obtain ⟨hCc, hPc, hDc, hFc⟩ := va_pick (ws' := (wd05_48 jik jig jk0 jeG jhF jje jhF cyI jkH jig cyI jkU)) hP hD hS hA [2, 3, 4, 5] (by decide +kernel) rfl
      refine va_callv (va_runV (As := [.ref jeG]) (rest := []) ⟨hx, hb, hml, hown, hts⟩ (ck_X5_copyFrom l dC dI cyB cyI cyJ cyP jik jeG jhF jig H.size  jje jkH jkU jk0  hw) (cwV 1 hts gX10_image_X5_copyFrom rfl rfl rfl (by decide +kernel) ⟨Nat.le_of_ble_eq_true rfl, Nat.le_of_ble_eq_true rfl⟩) ⟨cPc_blind, va_recv (q := (RX5, TX5, 2)) hK hPc (ci := 5) (q0 := 0) rfl rfl, cPc_pre hPc hK hDc hNw⟩ rfl rfl hl.1 rfl (lv_room (Nat.le_of_ble_eq_true rfl)) (dt_of tkX10_image_k0 13 rfl) ⟨Nat.le_of_ble_eq_true rfl, Nat.le_of_ble_eq_true rfl⟩) hS (fun q _ h => hFc q h) hFc (fun u t H1 locs ht hvm hw hB hz1 hk1 hS => ?_)
      obtain ⟨f3, x4⟩ := u
      obtain ⟨hP1, hK1, hD1⟩ := hB
      rw [ht] at hP1
      obtain ⟨hP, hD⟩ := va_joinN (wr := [(a0, .inr (10, [jaK, jfP, ja1, jcp, jbc, jbV, ja3, jbH, .ref jaT, jbO, .ref jeG, .ref jjk, jbI, jbl, jbn, .int jkc, jaa, jbA, jdD])), (jjk, .inl (cyP, 3, .inr (.inr (.inr (.inr (img3 jik jiq jiD)))))), (jaT, .inr (1, [.ref jbb, jbr, jhD, jfc])), (jbb, .inl (cyI, 64, .inl jbQ)), (jiq, .inr (5, [.ref jih, .int jk1])), (jih, .inl (cyI, 1088, .inl jkV)), (jiD, .inr (5, [.ref jii, .int jk2])), (jii, .inl (cyI, 1088, .inl jkW))]) (w1 := (wd05_48 jik jig x4 jeG jhF jje jhF cyI jkH jig cyI f3)) (wn := (wd05_49 a0 jaK jfP ja1 jcp jbc jbV ja3 jbH jaT jbO jeG jjk jbI jbl jbn jkc jaa jbA jdD jjk cyP (img3 jik jiq jiD) jik jig x4 jeG jhF jje jhF cyI jkH jig cyI f3 jaT jbb jbr jhD jfc jbb cyI jbQ jiq jih jk1 jih cyI jkV jiD jii jk2 jii cyI jkW)) hP hD [2, 3, 4, 5] [0, 1, 6, 7, 8, 9, 10, 11] [0, 1, 8, 9, 10, 11, 2, 3, 4, 5, 6, 7] hCc rfl (by decide +kernel) (by decide +kernel) (by decide +kernel) rfl hk1 hFc hP1 hD1
      generalize H1 = H at hP hS ⊢
      refine lv_aload_n hx hb (dt_of tkX10_image_k0 14 rfl) rfl (lv_at hl 0 rfl) ?_
      refine va_get (D := (dC, dI)) (ci := 10) (v := .ref jjk) (C := RX10) (T := TX10) (N := 19) hx hb hts ui_X10_image_X10 hown hK hP 0 rfl rfl 11 (by decide) (hts _ uw_X10_image_f72) (fun _ h9 => h9) rfl (dt_of tkX10_image_k0 15 rfl) ?_
      refine lv_aload_n hx hb (dt_of tkX10_image_k30 0 rfl) rfl (lv_at hl 0 rfl) ?_
      refine va_get (D := (dC, dI)) (ci := 10) (v := .int jkc) (C := RX10) (T := TX10) (N := 19) hx hb hts ui_X10_image_X10 hown hK hP 0 rfl rfl 15 (by decide) (hts _ uw_X10_image_f135) (fun _ h9 => h9) rfl (dt_of tkX10_image_k30 1 rfl) ?_
      obtain ⟨hi9, hw⟩ := hw
      refine va_aldq hx hb hK hP 1 3 rfl rfl hi9 (dt_of tkX10_image_k30 2 rfl) ?_
      rcases in3 hi9 with c5 | c5 | c5
      · have hw := hw.1 c5
        rw [show va_rf (img3 jik jiq jiD jkc.toNatClampNeg) = .ref jik from by rw [c5]; rfl]
        refine lv_aload_n hx hb (dt_of tkX10_image_k30 3 rfl) rfl (lv_at hl 0 rfl) ?_
        refine va_get (D := (dC, dI)) (ci := 10) (v := .ref jaT) (C := RX10) (T := TX10) (N := 19) hx hb hts ui_X10_image_X10 hown hK hP 0 rfl rfl 8 (by decide) (hts _ uw_X10_image_f58) (fun _ h9 => h9) rfl (dt_of tkX10_image_k30 4 rfl) ?_
        obtain ⟨hCc, hPc, hDc, hFc⟩ := va_pick (ws' := (wd05_14 jik jig x4 jaT jbb jbr jhD jfc jbb cyI jbQ jig cyI f3)) hP hD hS hA [2, 6, 7, 5] (by decide +kernel) rfl
        refine va_callv (va_runV (As := [.ref jaT]) (rest := []) ⟨hx, hb, hml, hown, hts⟩ (ck_X5_push l dC dI cyB cyI cyJ cyP jik jaT jbb jig H.size (jbr) (jhD) (jfc) jbQ f3 x4  hw) (cwV 1 hts gX10_image_X5_push rfl rfl rfl (by decide +kernel) ⟨Nat.le_of_ble_eq_true rfl, Nat.le_of_ble_eq_true rfl⟩) ⟨cPc_blind, va_recv (q := (RX5, TX5, 2)) hK hPc (ci := 5) (q0 := 0) rfl rfl, cPc_pre hPc hK hDc hNw⟩ rfl rfl hl.1 rfl (lv_room (Nat.le_of_ble_eq_true rfl)) (dt_of tkX10_image_k30 5 rfl) ⟨Nat.le_of_ble_eq_true rfl, Nat.le_of_ble_eq_true rfl⟩) hS (fun q _ h => hFc q h) hFc (fun u t H1 locs ht hvm hw hB hz1 hk1 hS => ?_)
        obtain ⟨f6, x7⟩ := u
        obtain ⟨hP1, hK1, hD1⟩ := hB
        rw [ht] at hP1
        obtain ⟨hP, hD⟩ := va_joinN (wr := (wd05_50 a0 jaK jfP ja1 jcp jbc jbV ja3 jbH jaT jbO jeG jjk jbI jbl jbn jkc jaa jbA jdD jjk cyP (img3 jik jiq jiD) jeG jhF jje jhF cyI jkH jiq jih jk1 jih cyI jkV jiD jii jk2 jii cyI jkW)) (w1 := (wd05_14 jik jig x7 jaT jbb jbr jhD jfc jbb cyI jbQ jig cyI f6)) (wn := (wd05_49 a0 jaK jfP ja1 jcp jbc jbV ja3 jbH jaT jbO jeG jjk jbI jbl jbn jkc jaa jbA jdD jjk cyP (img3 jik jiq jiD) jik jig x7 jeG jhF jje jhF cyI jkH jig cyI f6 jaT jbb jbr jhD jfc jbb cyI jbQ jiq jih jk1 jih cyI jkV jiD jii jk2 jii cyI jkW)) hP hD [2, 6, 7, 5] [0, 1, 3, 4, 8, 9, 10, 11] [0, 1, 8, 2, 3, 11, 9, 10, 4, 5, 6, 7] hCc rfl (by decide +kernel) (by decide +kernel) (by decide +kernel) rfl hk1 hFc hP1 hD1
        generalize H1 = H at hP hS ⊢
        refine lv_aload_n hx hb (dt_of tkX10_image_k30 6 rfl) rfl (lv_at hl 0 rfl) ?_
        refine lv_dup hx hb (dt_of tkX10_image_k30 7 rfl) rfl ?_
        refine va_get (D := (dC, dI)) (ci := 10) (v := .int jkc) (C := RX10) (T := TX10) (N := 19) hx hb hts ui_X10_image_X10 hown hK hP 0 rfl rfl 15 (by decide) (hts _ uw_X10_image_f135) (fun _ h9 => h9) rfl (dt_of tkX10_image_k30 8 rfl) ?_
        refine lv_iconst (v := 1) hx hb (dt_of tkX10_image_k30 9 rfl) (by decide) ?_
        refine lv_iadd hx hb (dt_of tkX10_image_k30 10 rfl) ?_
        refine lv_topi (fun x8 ex8 => ?_)
        have hw := hw x8 ex8
        refine va_put (D := (dC, dI)) (ci := 10) (v := .int x8) (ty := .int) (C := RX10) (T := TX10) (N := 19) hx hb hts ui_X10_image_X10 tyX10 tyX10_ok nmX10 hown hK hP hD hS 0 rfl rfl 15 (by decide) (hts _ uw_X10_image_f135) (fun _ h9 => h9) rfl (by decide +kernel) rfl rfl (Nat.le_of_ble_eq_true rfl) (dt_of tkX10_image_k30 11 rfl) (fun H locs hP hD hS => ?_)
        have hP : va_P (dC, dI) vwCl (wd05_49 a0 jaK jfP ja1 jcp jbc jbV ja3 jbH jaT jbO jeG jjk jbI jbl jbn x8 jaa jbA jdD jjk cyP (img3 jik jiq jiD) jik jig x7 jeG jhF jje jhF cyI jkH jig cyI f6 jaT jbb jbr jhD jfc jbb cyI jbQ jiq jih jk1 jih cyI jkV jiD jii jk2 jii cyI jkW) H := hP
        have hD : va_D A (wd05_49 a0 jaK jfP ja1 jcp jbc jbV ja3 jbH jaT jbO jeG jjk jbI jbl jbn x8 jaa jbA jdD jjk cyP (img3 jik jiq jiD) jik jig x7 jeG jhF jje jhF cyI jkH jig cyI f6 jaT jbb jbr jhD jfc jbb cyI jbQ jiq jih jk1 jih cyI jkV jiD jii jk2 jii cyI jkW) := hD
        refine lv_aload_n hx hb (dt_of tkX10_image_k30 12 rfl) rfl (lv_at hl 0 rfl) ?_
        refine va_get (D := (dC, dI)) (ci := 10) (v := .int x8) (C := RX10) (T := TX10) (N := 19) hx hb hts ui_X10_image_X10 hown hK hP 0 rfl rfl 15 (by decide) (hts _ uw_X10_image_f135) (fun _ h9 => h9) rfl (dt_of tkX10_image_k30 13 rfl) ?_
        exact ((W.iret (v := x8) hx hb hr (fun t ht hW => ⟨⟨x8, (f6, x7, x8, jkV, jk1, jkW, jk2), rfl, hw, by rw [ht]; exact hP, va_K.moved hW.alike hK, hD⟩, hS.F ht⟩) hS.2.2 (dt_of tkX10_image_k30 14 rfl)))
      · have hw := hw.2.1 c5
        rw [show va_rf (img3 jik jiq jiD jkc.toNatClampNeg) = .ref jiq from by rw [c5]; rfl]
        refine lv_aload_n hx hb (dt_of tkX10_image_k30 3 rfl) rfl (lv_at hl 0 rfl) ?_
        refine va_get (D := (dC, dI)) (ci := 10) (v := .ref jaT) (C := RX10) (T := TX10) (N := 19) hx hb hts ui_X10_image_X10 hown hK hP 0 rfl rfl 8 (by decide) (hts _ uw_X10_image_f58) (fun _ h9 => h9) rfl (dt_of tkX10_image_k30 4 rfl) ?_
        obtain ⟨hCc, hPc, hDc, hFc⟩ := va_pick (ws' := (wd05_14 jiq jih jk1 jaT jbb jbr jhD jfc jbb cyI jbQ jih cyI jkV)) hP hD hS hA [8, 6, 7, 9] (by decide +kernel) rfl
        refine va_callv (va_runV (As := [.ref jaT]) (rest := []) ⟨hx, hb, hml, hown, hts⟩ (ck_X5_push l dC dI cyB cyI cyJ cyP jiq jaT jbb jih H.size (jbr) (jhD) (jfc) jbQ jkV jk1  hw) (cwV 1 hts gX10_image_X5_push rfl rfl rfl (by decide +kernel) ⟨Nat.le_of_ble_eq_true rfl, Nat.le_of_ble_eq_true rfl⟩) ⟨cPc_blind, va_recv (q := (RX5, TX5, 2)) hK hPc (ci := 5) (q0 := 0) rfl rfl, cPc_pre hPc hK hDc hNw⟩ rfl rfl hl.1 rfl (lv_room (Nat.le_of_ble_eq_true rfl)) (dt_of tkX10_image_k30 5 rfl) ⟨Nat.le_of_ble_eq_true rfl, Nat.le_of_ble_eq_true rfl⟩) hS (fun q _ h => hFc q h) hFc (fun u t H1 locs ht hvm hw hB hz1 hk1 hS => ?_)
        obtain ⟨f9, x10⟩ := u
        obtain ⟨hP1, hK1, hD1⟩ := hB
        rw [ht] at hP1
        obtain ⟨hP, hD⟩ := va_joinN (wr := (wd05_51 a0 jaK jfP ja1 jcp jbc jbV ja3 jbH jaT jbO jeG jjk jbI jbl jbn jkc jaa jbA jdD jjk cyP (img3 jik jiq jiD) jik jig x4 jeG jhF jje jhF cyI jkH jig cyI f3 jiD jii jk2 jii cyI jkW)) (w1 := (wd05_14 jiq jih x10 jaT jbb jbr jhD jfc jbb cyI jbQ jih cyI f9)) (wn := (wd05_49 a0 jaK jfP ja1 jcp jbc jbV ja3 jbH jaT jbO jeG jjk jbI jbl jbn jkc jaa jbA jdD jjk cyP (img3 jik jiq jiD) jik jig x4 jeG jhF jje jhF cyI jkH jig cyI f3 jaT jbb jbr jhD jfc jbb cyI jbQ jiq jih x10 jih cyI f9 jiD jii jk2 jii cyI jkW)) hP hD [8, 6, 7, 9] [0, 1, 2, 3, 4, 5, 10, 11] [0, 1, 2, 3, 4, 5, 9, 10, 8, 11, 6, 7] hCc rfl (by decide +kernel) (by decide +kernel) (by decide +kernel) rfl hk1 hFc hP1 hD1
        generalize H1 = H at hP hS ⊢
        refine lv_aload_n hx hb (dt_of tkX10_image_k30 6 rfl) rfl (lv_at hl 0 rfl) ?_
        refine lv_dup hx hb (dt_of tkX10_image_k30 7 rfl) rfl ?_
        refine va_get (D := (dC, dI)) (ci := 10) (v := .int jkc) (C := RX10) (T := TX10) (N := 19) hx hb hts ui_X10_image_X10 hown hK hP 0 rfl rfl 15 (by decide) (hts _ uw_X10_image_f135) (fun _ h9 => h9) rfl (dt_of tkX10_image_k30 8 rfl) ?_
        refine lv_iconst (v := 1) hx hb (dt_of tkX10_image_k30 9 rfl) (by decide) ?_
        refine lv_iadd hx hb (dt_of tkX10_image_k30 10 rfl) ?_
        refine lv_topi (fun x11 ex11 => ?_)
        have hw := hw x11 ex11
        refine va_put (D := (dC, dI)) (ci := 10) (v := .int x11) (ty := .int) (C := RX10) (T := TX10) (N := 19) hx hb hts ui_X10_image_X10 tyX10 tyX10_ok nmX10 hown hK hP hD hS 0 rfl rfl 15 (by decide) (hts _ uw_X10_image_f135) (fun _ h9 => h9) rfl (by decide +kernel) rfl rfl (Nat.le_of_ble_eq_true rfl) (dt_of tkX10_image_k30 11 rfl) (fun H locs hP hD hS => ?_)
        have hP : va_P (dC, dI) vwCl (wd05_49 a0 jaK jfP ja1 jcp jbc jbV ja3 jbH jaT jbO jeG jjk jbI jbl jbn x11 jaa jbA jdD jjk cyP (img3 jik jiq jiD) jik jig x4 jeG jhF jje jhF cyI jkH jig cyI f3 jaT jbb jbr jhD jfc jbb cyI jbQ jiq jih x10 jih cyI f9 jiD jii jk2 jii cyI jkW) H := hP
        have hD : va_D A (wd05_49 a0 jaK jfP ja1 jcp jbc jbV ja3 jbH jaT jbO jeG jjk jbI jbl jbn x11 jaa jbA jdD jjk cyP (img3 jik jiq jiD) jik jig x4 jeG jhF jje jhF cyI jkH jig cyI f3 jaT jbb jbr jhD jfc jbb cyI jbQ jiq jih x10 jih cyI f9 jiD jii jk2 jii cyI jkW) := hD
        refine lv_aload_n hx hb (dt_of tkX10_image_k30 12 rfl) rfl (lv_at hl 0 rfl) ?_
        refine va_get (D := (dC, dI)) (ci := 10) (v := .int x11) (C := RX10) (T := TX10) (N := 19) hx hb hts ui_X10_image_X10 hown hK hP 0 rfl rfl 15 (by decide) (hts _ uw_X10_image_f135) (fun _ h9 => h9) rfl (dt_of tkX10_image_k30 13 rfl) ?_
        exact ((W.iret (v := x11) hx hb hr (fun t ht hW => ⟨⟨x11, (f3, x4, x11, f9, x10, jkW, jk2), rfl, hw, by rw [ht]; exact hP, va_K.moved hW.alike hK, hD⟩, hS.F ht⟩) hS.2.2 (dt_of tkX10_image_k30 14 rfl)))
      · have hw := hw.2.2 c5
        rw [show va_rf (img3 jik jiq jiD jkc.toNatClampNeg) = .ref jiD from by rw [c5]; rfl]
        refine lv_aload_n hx hb (dt_of tkX10_image_k30 3 rfl) rfl (lv_at hl 0 rfl) ?_
        refine va_get (D := (dC, dI)) (ci := 10) (v := .ref jaT) (C := RX10) (T := TX10) (N := 19) hx hb hts ui_X10_image_X10 hown hK hP 0 rfl rfl 8 (by decide) (hts _ uw_X10_image_f58) (fun _ h9 => h9) rfl (dt_of tkX10_image_k30 4 rfl) ?_
        obtain ⟨hCc, hPc, hDc, hFc⟩ := va_pick (ws' := (wd05_14 jiD jii jk2 jaT jbb jbr jhD jfc jbb cyI jbQ jii cyI jkW)) hP hD hS hA [10, 6, 7, 11] (by decide +kernel) rfl
        refine va_callv (va_runV (As := [.ref jaT]) (rest := []) ⟨hx, hb, hml, hown, hts⟩ (ck_X5_push l dC dI cyB cyI cyJ cyP jiD jaT jbb jii H.size (jbr) (jhD) (jfc) jbQ jkW jk2  hw) (cwV 1 hts gX10_image_X5_push rfl rfl rfl (by decide +kernel) ⟨Nat.le_of_ble_eq_true rfl, Nat.le_of_ble_eq_true rfl⟩) ⟨cPc_blind, va_recv (q := (RX5, TX5, 2)) hK hPc (ci := 5) (q0 := 0) rfl rfl, cPc_pre hPc hK hDc hNw⟩ rfl rfl hl.1 rfl (lv_room (Nat.le_of_ble_eq_true rfl)) (dt_of tkX10_image_k30 5 rfl) ⟨Nat.le_of_ble_eq_true rfl, Nat.le_of_ble_eq_true rfl⟩) hS (fun q _ h => hFc q h) hFc (fun u t H1 locs ht hvm hw hB hz1 hk1 hS => ?_)
        obtain ⟨f12, x13⟩ := u
        obtain ⟨hP1, hK1, hD1⟩ := hB
        rw [ht] at hP1
        obtain ⟨hP, hD⟩ := va_joinN (wr := (wd05_51 a0 jaK jfP ja1 jcp jbc jbV ja3 jbH jaT jbO jeG jjk jbI jbl jbn jkc jaa jbA jdD jjk cyP (img3 jik jiq jiD) jik jig x4 jeG jhF jje jhF cyI jkH jig cyI f3 jiq jih jk1 jih cyI jkV)) (w1 := (wd05_14 jiD jii x13 jaT jbb jbr jhD jfc jbb cyI jbQ jii cyI f12)) (wn := (wd05_49 a0 jaK jfP ja1 jcp jbc jbV ja3 jbH jaT jbO jeG jjk jbI jbl jbn jkc jaa jbA jdD jjk cyP (img3 jik jiq jiD) jik jig x4 jeG jhF jje jhF cyI jkH jig cyI f3 jaT jbb jbr jhD jfc jbb cyI jbQ jiq jih jk1 jih cyI jkV jiD jii x13 jii cyI f12)) hP hD [10, 6, 7, 11] [0, 1, 2, 3, 4, 5, 8, 9] [0, 1, 2, 3, 4, 5, 9, 10, 6, 7, 8, 11] hCc rfl (by decide +kernel) (by decide +kernel) (by decide +kernel) rfl hk1 hFc hP1 hD1
        generalize H1 = H at hP hS ⊢
        refine lv_aload_n hx hb (dt_of tkX10_image_k30 6 rfl) rfl (lv_at hl 0 rfl) ?_
        refine lv_dup hx hb (dt_of tkX10_image_k30 7 rfl) rfl ?_
        refine va_get (D := (dC, dI)) (ci := 10) (v := .int jkc) (C := RX10) (T := TX10) (N := 19) hx hb hts ui_X10_image_X10 hown hK hP 0 rfl rfl 15 (by decide) (hts _ uw_X10_image_f135) (fun _ h9 => h9) rfl (dt_of tkX10_image_k30 8 rfl) ?_
        refine lv_iconst (v := 1) hx hb (dt_of tkX10_image_k30 9 rfl) (by decide) ?_
        refine lv_iadd hx hb (dt_of tkX10_image_k30 10 rfl) ?_
        refine lv_topi (fun x14 ex14 => ?_)
        have hw := hw x14 ex14
        refine va_put (D := (dC, dI)) (ci := 10) (v := .int x14) (ty := .int) (C := RX10) (T := TX10) (N := 19) hx hb hts ui_X10_image_X10 tyX10 tyX10_ok nmX10 hown hK hP hD hS 0 rfl rfl 15 (by decide) (hts _ uw_X10_image_f135) (fun _ h9 => h9) rfl (by decide +kernel) rfl rfl (Nat.le_of_ble_eq_true rfl) (dt_of tkX10_image_k30 11 rfl) (fun H locs hP hD hS => ?_)
        have hP : va_P (dC, dI) vwCl (wd05_49 a0 jaK jfP ja1 jcp jbc jbV ja3 jbH jaT jbO jeG jjk jbI jbl jbn x14 jaa jbA jdD jjk cyP (img3 jik jiq jiD) jik jig x4 jeG jhF jje jhF cyI jkH jig cyI f3 jaT jbb jbr jhD jfc jbb cyI jbQ jiq jih jk1 jih cyI jkV jiD jii x13 jii cyI f12) H := hP
        have hD : va_D A (wd05_49 a0 jaK jfP ja1 jcp jbc jbV ja3 jbH jaT jbO jeG jjk jbI jbl jbn x14 jaa jbA jdD jjk cyP (img3 jik jiq jiD) jik jig x4 jeG jhF jje jhF cyI jkH jig cyI f3 jaT jbb jbr jhD jfc jbb cyI jbQ jiq jih jk1 jih cyI jkV jiD jii x13 jii cyI f12) := hD
        refine lv_aload_n hx hb (dt_of tkX10_image_k30 12 rfl) rfl (lv_at hl 0 rfl) ?_
        refine va_get (D := (dC, dI)) (ci := 10) (v := .int x14) (C := RX10) (T := TX10) (N := 19) hx hb hts ui_X10_image_X10 hown hK hP 0 rfl rfl 15 (by decide) (hts _ uw_X10_image_f135) (fun _ h9 => h9) rfl (dt_of tkX10_image_k30 13 rfl) ?_
        exact ((W.iret (v := x14) hx hb hr (fun t ht hW => ⟨⟨x14, (f3, x4, x14, jkV, jk1, f12, x13), rfl, hw, by rw [ht]; exact hP, va_K.moved hW.alike hK, hD⟩, hS.F ht⟩) hS.2.2 (dt_of tkX10_image_k30 14 rfl)))
    · have hw := hw.2.1 c2
      rw [show va_rf (img3 jik jiq jiD jkc.toNatClampNeg) = .ref jiq from by rw [c2]; rfl]
      refine lv_aload_n hx hb (dt_of tkX10_image_k0 11 rfl) rfl (lv_at hl 0 rfl) ?_
      refine va_get (D := (dC, dI)) (ci := 10) (v := .ref jeG) (C := RX10) (T := TX10) (N := 19) hx hb hts ui_X10_image_X10 hown hK hP 0 rfl rfl 10 (by decide) (hts _ uw_X10_image_f68) (fun _ h9 => h9) rfl (dt_of tkX10_image_k0 12 rfl) ?_
      obtain ⟨hCc, hPc, hDc, hFc⟩ := va_pick (ws' := (wd05_48 jiq jih jk1 jeG jhF jje jhF cyI jkH jih cyI jkV)) hP hD hS hA [8, 3, 4, 9] (by decide +kernel) rfl
      refine va_callv (va_runV (As := [.ref jeG]) (rest := []) ⟨hx, hb, hml, hown, hts⟩ (ck_X5_copyFrom l dC dI cyB cyI cyJ cyP jiq jeG jhF jih H.size  jje jkH jkV jk1  hw) (cwV 1 hts gX10_image_X5_copyFrom rfl rfl rfl (by decide +kernel) ⟨Nat.le_of_ble_eq_true rfl, Nat.le_of_ble_eq_true rfl⟩) ⟨cPc_blind, va_recv (q := (RX5, TX5, 2)) hK hPc (ci := 5) (q0 := 0) rfl rfl, cPc_pre hPc hK hDc hNw⟩ rfl rfl hl.1 rfl (lv_room (Nat.le_of_ble_eq_true rfl)) (dt_of tkX10_image_k0 13 rfl) ⟨Nat.le_of_ble_eq_true rfl, Nat.le_of_ble_eq_true rfl⟩) hS (fun q _ h => hFc q h) hFc (fun u t H1 locs ht hvm hw hB hz1 hk1 hS => ?_)
      obtain ⟨f15, x16⟩ := u
      obtain ⟨hP1, hK1, hD1⟩ := hB
      rw [ht] at hP1
      obtain ⟨hP, hD⟩ := va_joinN (wr := (wd05_52 a0 jaK jfP ja1 jcp jbc jbV ja3 jbH jaT jbO jeG jjk jbI jbl jbn jkc jaa jbA jdD jjk cyP (img3 jik jiq jiD) jik jig jk0 jig cyI jkU jaT jbb jbr jhD jfc jbb cyI jbQ jiD jii jk2 jii cyI jkW)) (w1 := (wd05_48 jiq jih x16 jeG jhF jje jhF cyI jkH jih cyI f15)) (wn := (wd05_49 a0 jaK jfP ja1 jcp jbc jbV ja3 jbH jaT jbO jeG jjk jbI jbl jbn jkc jaa jbA jdD jjk cyP (img3 jik jiq jiD) jik jig jk0 jeG jhF jje jhF cyI jkH jig cyI jkU jaT jbb jbr jhD jfc jbb cyI jbQ jiq jih x16 jih cyI f15 jiD jii jk2 jii cyI jkW)) hP hD [8, 3, 4, 9] [0, 1, 2, 5, 6, 7, 10, 11] [0, 1, 2, 9, 10, 3, 4, 5, 8, 11, 6, 7] hCc rfl (by decide +kernel) (by decide +kernel) (by decide +kernel) rfl hk1 hFc hP1 hD1
      generalize H1 = H at hP hS ⊢
      refine lv_aload_n hx hb (dt_of tkX10_image_k0 14 rfl) rfl (lv_at hl 0 rfl) ?_
      refine va_get (D := (dC, dI)) (ci := 10) (v := .ref jjk) (C := RX10) (T := TX10) (N := 19) hx hb hts ui_X10_image_X10 hown hK hP 0 rfl rfl 11 (by decide) (hts _ uw_X10_image_f72) (fun _ h9 => h9) rfl (dt_of tkX10_image_k0 15 rfl) ?_
      refine lv_aload_n hx hb (dt_of tkX10_image_k30 0 rfl) rfl (lv_at hl 0 rfl) ?_
      refine va_get (D := (dC, dI)) (ci := 10) (v := .int jkc) (C := RX10) (T := TX10) (N := 19) hx hb hts ui_X10_image_X10 hown hK hP 0 rfl rfl 15 (by decide) (hts _ uw_X10_image_f135) (fun _ h9 => h9) rfl (dt_of tkX10_image_k30 1 rfl) ?_
      obtain ⟨hi9, hw⟩ := hw
      refine va_aldq hx hb hK hP 1 3 rfl rfl hi9 (dt_of tkX10_image_k30 2 rfl) ?_
      rcases in3 hi9 with c17 | c17 | c17
      · have hw := hw.1 c17
        rw [show va_rf (img3 jik jiq jiD jkc.toNatClampNeg) = .ref jik from by rw [c17]; rfl]
        refine lv_aload_n hx hb (dt_of tkX10_image_k30 3 rfl) rfl (lv_at hl 0 rfl) ?_
        refine va_get (D := (dC, dI)) (ci := 10) (v := .ref jaT) (C := RX10) (T := TX10) (N := 19) hx hb hts ui_X10_image_X10 hown hK hP 0 rfl rfl 8 (by decide) (hts _ uw_X10_image_f58) (fun _ h9 => h9) rfl (dt_of tkX10_image_k30 4 rfl) ?_
        obtain ⟨hCc, hPc, hDc, hFc⟩ := va_pick (ws' := (wd05_14 jik jig jk0 jaT jbb jbr jhD jfc jbb cyI jbQ jig cyI jkU)) hP hD hS hA [2, 6, 7, 5] (by decide +kernel) rfl
        refine va_callv (va_runV (As := [.ref jaT]) (rest := []) ⟨hx, hb, hml, hown, hts⟩ (ck_X5_push l dC dI cyB cyI cyJ cyP jik jaT jbb jig H.size (jbr) (jhD) (jfc) jbQ jkU jk0  hw) (cwV 1 hts gX10_image_X5_push rfl rfl rfl (by decide +kernel) ⟨Nat.le_of_ble_eq_true rfl, Nat.le_of_ble_eq_true rfl⟩) ⟨cPc_blind, va_recv (q := (RX5, TX5, 2)) hK hPc (ci := 5) (q0 := 0) rfl rfl, cPc_pre hPc hK hDc hNw⟩ rfl rfl hl.1 rfl (lv_room (Nat.le_of_ble_eq_true rfl)) (dt_of tkX10_image_k30 5 rfl) ⟨Nat.le_of_ble_eq_true rfl, Nat.le_of_ble_eq_true rfl⟩) hS (fun q _ h => hFc q h) hFc (fun u t H1 locs ht hvm hw hB hz1 hk1 hS => ?_)
        obtain ⟨f18, x19⟩ := u
        obtain ⟨hP1, hK1, hD1⟩ := hB
        rw [ht] at hP1
        obtain ⟨hP, hD⟩ := va_joinN (wr := (wd05_50 a0 jaK jfP ja1 jcp jbc jbV ja3 jbH jaT jbO jeG jjk jbI jbl jbn jkc jaa jbA jdD jjk cyP (img3 jik jiq jiD) jeG jhF jje jhF cyI jkH jiq jih x16 jih cyI f15 jiD jii jk2 jii cyI jkW)) (w1 := (wd05_14 jik jig x19 jaT jbb jbr jhD jfc jbb cyI jbQ jig cyI f18)) (wn := (wd05_49 a0 jaK jfP ja1 jcp jbc jbV ja3 jbH jaT jbO jeG jjk jbI jbl jbn jkc jaa jbA jdD jjk cyP (img3 jik jiq jiD) jik jig x19 jeG jhF jje jhF cyI jkH jig cyI f18 jaT jbb jbr jhD jfc jbb cyI jbQ jiq jih x16 jih cyI f15 jiD jii jk2 jii cyI jkW)) hP hD [2, 6, 7, 5] [0, 1, 3, 4, 8, 9, 10, 11] [0, 1, 8, 2, 3, 11, 9, 10, 4, 5, 6, 7] hCc rfl (by decide +kernel) (by decide +kernel) (by decide +kernel) rfl hk1 hFc hP1 hD1
        generalize H1 = H at hP hS ⊢
        refine lv_aload_n hx hb (dt_of tkX10_image_k30 6 rfl) rfl (lv_at hl 0 rfl) ?_
        refine lv_dup hx hb (dt_of tkX10_image_k30 7 rfl) rfl ?_
        refine va_get (D := (dC, dI)) (ci := 10) (v := .int jkc) (C := RX10) (T := TX10) (N := 19) hx hb hts ui_X10_image_X10 hown hK hP 0 rfl rfl 15 (by decide) (hts _ uw_X10_image_f135) (fun _ h9 => h9) rfl (dt_of tkX10_image_k30 8 rfl) ?_
        refine lv_iconst (v := 1) hx hb (dt_of tkX10_image_k30 9 rfl) (by decide) ?_
        refine lv_iadd hx hb (dt_of tkX10_image_k30 10 rfl) ?_
        refine lv_topi (fun x20 ex20 => ?_)
        have hw := hw x20 ex20
        refine va_put (D := (dC, dI)) (ci := 10) (v := .int x20) (ty := .int) (C := RX10) (T := TX10) (N := 19) hx hb hts ui_X10_image_X10 tyX10 tyX10_ok nmX10 hown hK hP hD hS 0 rfl rfl 15 (by decide) (hts _ uw_X10_image_f135) (fun _ h9 => h9) rfl (by decide +kernel) rfl rfl (Nat.le_of_ble_eq_true rfl) (dt_of tkX10_image_k30 11 rfl) (fun H locs hP hD hS => ?_)
        have hP : va_P (dC, dI) vwCl (wd05_49 a0 jaK jfP ja1 jcp jbc jbV ja3 jbH jaT jbO jeG jjk jbI jbl jbn x20 jaa jbA jdD jjk cyP (img3 jik jiq jiD) jik jig x19 jeG jhF jje jhF cyI jkH jig cyI f18 jaT jbb jbr jhD jfc jbb cyI jbQ jiq jih x16 jih cyI f15 jiD jii jk2 jii cyI jkW) H := hP
        have hD : va_D A (wd05_49 a0 jaK jfP ja1 jcp jbc jbV ja3 jbH jaT jbO jeG jjk jbI jbl jbn x20 jaa jbA jdD jjk cyP (img3 jik jiq jiD) jik jig x19 jeG jhF jje jhF cyI jkH jig cyI f18 jaT jbb jbr jhD jfc jbb cyI jbQ jiq jih x16 jih cyI f15 jiD jii jk2 jii cyI jkW) := hD
        refine lv_aload_n hx hb (dt_of tkX10_image_k30 12 rfl) rfl (lv_at hl 0 rfl) ?_
        refine va_get (D := (dC, dI)) (ci := 10) (v := .int x20) (C := RX10) (T := TX10) (N := 19) hx hb hts ui_X10_image_X10 hown hK hP 0 rfl rfl 15 (by decide) (hts _ uw_X10_image_f135) (fun _ h9 => h9) rfl (dt_of tkX10_image_k30 13 rfl) ?_
        exact ((W.iret (v := x20) hx hb hr (fun t ht hW => ⟨⟨x20, (f18, x19, x20, f15, x16, jkW, jk2), rfl, hw, by rw [ht]; exact hP, va_K.moved hW.alike hK, hD⟩, hS.F ht⟩) hS.2.2 (dt_of tkX10_image_k30 14 rfl)))
      · have hw := hw.2.1 c17
        rw [show va_rf (img3 jik jiq jiD jkc.toNatClampNeg) = .ref jiq from by rw [c17]; rfl]
        refine lv_aload_n hx hb (dt_of tkX10_image_k30 3 rfl) rfl (lv_at hl 0 rfl) ?_
        refine va_get (D := (dC, dI)) (ci := 10) (v := .ref jaT) (C := RX10) (T := TX10) (N := 19) hx hb hts ui_X10_image_X10 hown hK hP 0 rfl rfl 8 (by decide) (hts _ uw_X10_image_f58) (fun _ h9 => h9) rfl (dt_of tkX10_image_k30 4 rfl) ?_
        obtain ⟨hCc, hPc, hDc, hFc⟩ := va_pick (ws' := (wd05_14 jiq jih x16 jaT jbb jbr jhD jfc jbb cyI jbQ jih cyI f15)) hP hD hS hA [8, 6, 7, 9] (by decide +kernel) rfl
        refine va_callv (va_runV (As := [.ref jaT]) (rest := []) ⟨hx, hb, hml, hown, hts⟩ (ck_X5_push l dC dI cyB cyI cyJ cyP jiq jaT jbb jih H.size (jbr) (jhD) (jfc) jbQ f15 x16  hw) (cwV 1 hts gX10_image_X5_push rfl rfl rfl (by decide +kernel) ⟨Nat.le_of_ble_eq_true rfl, Nat.le_of_ble_eq_true rfl⟩) ⟨cPc_blind, va_recv (q := (RX5, TX5, 2)) hK hPc (ci := 5) (q0 := 0) rfl rfl, cPc_pre hPc hK hDc hNw⟩ rfl rfl hl.1 rfl (lv_room (Nat.le_of_ble_eq_true rfl)) (dt_of tkX10_image_k30 5 rfl) ⟨Nat.le_of_ble_eq_true rfl, Nat.le_of_ble_eq_true rfl⟩) hS (fun q _ h => hFc q h) hFc (fun u t H1 locs ht hvm hw hB hz1 hk1 hS => ?_)
        obtain ⟨f21, x22⟩ := u
        obtain ⟨hP1, hK1, hD1⟩ := hB
        rw [ht] at hP1
        obtain ⟨hP, hD⟩ := va_joinN (wr := (wd05_51 a0 jaK jfP ja1 jcp jbc jbV ja3 jbH jaT jbO jeG jjk jbI jbl jbn jkc jaa jbA jdD jjk cyP (img3 jik jiq jiD) jik jig jk0 jeG jhF jje jhF cyI jkH jig cyI jkU jiD jii jk2 jii cyI jkW)) (w1 := (wd05_14 jiq jih x22 jaT jbb jbr jhD jfc jbb cyI jbQ jih cyI f21)) (wn := (wd05_49 a0 jaK jfP ja1 jcp jbc jbV ja3 jbH jaT jbO jeG jjk jbI jbl jbn jkc jaa jbA jdD jjk cyP (img3 jik jiq jiD) jik jig jk0 jeG jhF jje jhF cyI jkH jig cyI jkU jaT jbb jbr jhD jfc jbb cyI jbQ jiq jih x22 jih cyI f21 jiD jii jk2 jii cyI jkW)) hP hD [8, 6, 7, 9] [0, 1, 2, 3, 4, 5, 10, 11] [0, 1, 2, 3, 4, 5, 9, 10, 8, 11, 6, 7] hCc rfl (by decide +kernel) (by decide +kernel) (by decide +kernel) rfl hk1 hFc hP1 hD1
        generalize H1 = H at hP hS ⊢
        refine lv_aload_n hx hb (dt_of tkX10_image_k30 6 rfl) rfl (lv_at hl 0 rfl) ?_
        refine lv_dup hx hb (dt_of tkX10_image_k30 7 rfl) rfl ?_
        refine va_get (D := (dC, dI)) (ci := 10) (v := .int jkc) (C := RX10) (T := TX10) (N := 19) hx hb hts ui_X10_image_X10 hown hK hP 0 rfl rfl 15 (by decide) (hts _ uw_X10_image_f135) (fun _ h9 => h9) rfl (dt_of tkX10_image_k30 8 rfl) ?_
        refine lv_iconst (v := 1) hx hb (dt_of tkX10_image_k30 9 rfl) (by decide) ?_
        refine lv_iadd hx hb (dt_of tkX10_image_k30 10 rfl) ?_
        refine lv_topi (fun x23 ex23 => ?_)
        have hw := hw x23 ex23
        refine va_put (D := (dC, dI)) (ci := 10) (v := .int x23) (ty := .int) (C := RX10) (T := TX10) (N := 19) hx hb hts ui_X10_image_X10 tyX10 tyX10_ok nmX10 hown hK hP hD hS 0 rfl rfl 15 (by decide) (hts _ uw_X10_image_f135) (fun _ h9 => h9) rfl (by decide +kernel) rfl rfl (Nat.le_of_ble_eq_true rfl) (dt_of tkX10_image_k30 11 rfl) (fun H locs hP hD hS => ?_)
        have hP : va_P (dC, dI) vwCl (wd05_49 a0 jaK jfP ja1 jcp jbc jbV ja3 jbH jaT jbO jeG jjk jbI jbl jbn x23 jaa jbA jdD jjk cyP (img3 jik jiq jiD) jik jig jk0 jeG jhF jje jhF cyI jkH jig cyI jkU jaT jbb jbr jhD jfc jbb cyI jbQ jiq jih x22 jih cyI f21 jiD jii jk2 jii cyI jkW) H := hP
        have hD : va_D A (wd05_49 a0 jaK jfP ja1 jcp jbc jbV ja3 jbH jaT jbO jeG jjk jbI jbl jbn x23 jaa jbA jdD jjk cyP (img3 jik jiq jiD) jik jig jk0 jeG jhF jje jhF cyI jkH jig cyI jkU jaT jbb jbr jhD jfc jbb cyI jbQ jiq jih x22 jih cyI f21 jiD jii jk2 jii cyI jkW) := hD
        refine lv_aload_n hx hb (dt_of tkX10_image_k30 12 rfl) rfl (lv_at hl 0 rfl) ?_
        refine va_get (D := (dC, dI)) (ci := 10) (v := .int x23) (C := RX10) (T := TX10) (N := 19) hx hb hts ui_X10_image_X10 hown hK hP 0 rfl rfl 15 (by decide) (hts _ uw_X10_image_f135) (fun _ h9 => h9) rfl (dt_of tkX10_image_k30 13 rfl) ?_
        exact ((W.iret (v := x23) hx hb hr (fun t ht hW => ⟨⟨x23, (jkU, jk0, x23, f21, x22, jkW, jk2), rfl, hw, by rw [ht]; exact hP, va_K.moved hW.alike hK, hD⟩, hS.F ht⟩) hS.2.2 (dt_of tkX10_image_k30 14 rfl)))
      · have hw := hw.2.2 c17
        rw [show va_rf (img3 jik jiq jiD jkc.toNatClampNeg) = .ref jiD from by rw [c17]; rfl]
        refine lv_aload_n hx hb (dt_of tkX10_image_k30 3 rfl) rfl (lv_at hl 0 rfl) ?_
        refine va_get (D := (dC, dI)) (ci := 10) (v := .ref jaT) (C := RX10) (T := TX10) (N := 19) hx hb hts ui_X10_image_X10 hown hK hP 0 rfl rfl 8 (by decide) (hts _ uw_X10_image_f58) (fun _ h9 => h9) rfl (dt_of tkX10_image_k30 4 rfl) ?_
        obtain ⟨hCc, hPc, hDc, hFc⟩ := va_pick (ws' := (wd05_14 jiD jii jk2 jaT jbb jbr jhD jfc jbb cyI jbQ jii cyI jkW)) hP hD hS hA [10, 6, 7, 11] (by decide +kernel) rfl
        refine va_callv (va_runV (As := [.ref jaT]) (rest := []) ⟨hx, hb, hml, hown, hts⟩ (ck_X5_push l dC dI cyB cyI cyJ cyP jiD jaT jbb jii H.size (jbr) (jhD) (jfc) jbQ jkW jk2  hw) (cwV 1 hts gX10_image_X5_push rfl rfl rfl (by decide +kernel) ⟨Nat.le_of_ble_eq_true rfl, Nat.le_of_ble_eq_true rfl⟩) ⟨cPc_blind, va_recv (q := (RX5, TX5, 2)) hK hPc (ci := 5) (q0 := 0) rfl rfl, cPc_pre hPc hK hDc hNw⟩ rfl rfl hl.1 rfl (lv_room (Nat.le_of_ble_eq_true rfl)) (dt_of tkX10_image_k30 5 rfl) ⟨Nat.le_of_ble_eq_true rfl, Nat.le_of_ble_eq_true rfl⟩) hS (fun q _ h => hFc q h) hFc (fun u t H1 locs ht hvm hw hB hz1 hk1 hS => ?_)
        obtain ⟨f24, x25⟩ := u
        obtain ⟨hP1, hK1, hD1⟩ := hB
        rw [ht] at hP1
        obtain ⟨hP, hD⟩ := va_joinN (wr := (wd05_51 a0 jaK jfP ja1 jcp jbc jbV ja3 jbH jaT jbO jeG jjk jbI jbl jbn jkc jaa jbA jdD jjk cyP (img3 jik jiq jiD) jik jig jk0 jeG jhF jje jhF cyI jkH jig cyI jkU jiq jih x16 jih cyI f15)) (w1 := (wd05_14 jiD jii x25 jaT jbb jbr jhD jfc jbb cyI jbQ jii cyI f24)) (wn := (wd05_49 a0 jaK jfP ja1 jcp jbc jbV ja3 jbH jaT jbO jeG jjk jbI jbl jbn jkc jaa jbA jdD jjk cyP (img3 jik jiq jiD) jik jig jk0 jeG jhF jje jhF cyI jkH jig cyI jkU jaT jbb jbr jhD jfc jbb cyI jbQ jiq jih x16 jih cyI f15 jiD jii x25 jii cyI f24)) hP hD [10, 6, 7, 11] [0, 1, 2, 3, 4, 5, 8, 9] [0, 1, 2, 3, 4, 5, 9, 10, 6, 7, 8, 11] hCc rfl (by decide +kernel) (by decide +kernel) (by decide +kernel) rfl hk1 hFc hP1 hD1
        generalize H1 = H at hP hS ⊢
        refine lv_aload_n hx hb (dt_of tkX10_image_k30 6 rfl) rfl (lv_at hl 0 rfl) ?_
        refine lv_dup hx hb (dt_of tkX10_image_k30 7 rfl) rfl ?_
        refine va_get (D := (dC, dI)) (ci := 10) (v := .int jkc) (C := RX10) (T := TX10) (N := 19) hx hb hts ui_X10_image_X10 hown hK hP 0 rfl rfl 15 (by decide) (hts _ uw_X10_image_f135) (fun _ h9 => h9) rfl (dt_of tkX10_image_k30 8 rfl) ?_
        refine lv_iconst (v := 1) hx hb (dt_of tkX10_image_k30 9 rfl) (by decide) ?_
        refine lv_iadd hx hb (dt_of tkX10_image_k30 10 rfl) ?_
        refine lv_topi (fun x26 ex26 => ?_)
        have hw := hw x26 ex26
        refine va_put (D := (dC, dI)) (ci := 10) (v := .int x26) (ty := .int) (C := RX10) (T := TX10) (N := 19) hx hb hts ui_X10_image_X10 tyX10 tyX10_ok nmX10 hown hK hP hD hS 0 rfl rfl 15 (by decide) (hts _ uw_X10_image_f135) (fun _ h9 => h9) rfl (by decide +kernel) rfl rfl (Nat.le_of_ble_eq_true rfl) (dt_of tkX10_image_k30 11 rfl) (fun H locs hP hD hS => ?_)
        have hP : va_P (dC, dI) vwCl (wd05_49 a0 jaK jfP ja1 jcp jbc jbV ja3 jbH jaT jbO jeG jjk jbI jbl jbn x26 jaa jbA jdD jjk cyP (img3 jik jiq jiD) jik jig jk0 jeG jhF jje jhF cyI jkH jig cyI jkU jaT jbb jbr jhD jfc jbb cyI jbQ jiq jih x16 jih cyI f15 jiD jii x25 jii cyI f24) H := hP
        have hD : va_D A (wd05_49 a0 jaK jfP ja1 jcp jbc jbV ja3 jbH jaT jbO jeG jjk jbI jbl jbn x26 jaa jbA jdD jjk cyP (img3 jik jiq jiD) jik jig jk0 jeG jhF jje jhF cyI jkH jig cyI jkU jaT jbb jbr jhD jfc jbb cyI jbQ jiq jih x16 jih cyI f15 jiD jii x25 jii cyI f24) := hD
        refine lv_aload_n hx hb (dt_of tkX10_image_k30 12 rfl) rfl (lv_at hl 0 rfl) ?_
        refine va_get (D := (dC, dI)) (ci := 10) (v := .int x26) (C := RX10) (T := TX10) (N := 19) hx hb hts ui_X10_image_X10 hown hK hP 0 rfl rfl 15 (by decide) (hts _ uw_X10_image_f135) (fun _ h9 => h9) rfl (dt_of tkX10_image_k30 13 rfl) ?_
        exact ((W.iret (v := x26) hx hb hr (fun t ht hW => ⟨⟨x26, (jkU, jk0, x26, f15, x16, f24, x25), rfl, hw, by rw [ht]; exact hP, va_K.moved hW.alike hK, hD⟩, hS.F ht⟩) hS.2.2 (dt_of tkX10_image_k30 14 rfl)))
    · have hw := hw.2.2 c2
      rw [show va_rf (img3 jik jiq jiD jkc.toNatClampNeg) = .ref jiD from by rw [c2]; rfl]
      refine lv_aload_n hx hb (dt_of tkX10_image_k0 11 rfl) rfl (lv_at hl 0 rfl) ?_
      refine va_get (D := (dC, dI)) (ci := 10) (v := .ref jeG) (C := RX10) (T := TX10) (N := 19) hx hb hts ui_X10_image_X10 hown hK hP 0 rfl rfl 10 (by decide) (hts _ uw_X10_image_f68) (fun _ h9 => h9) rfl (dt_of tkX10_image_k0 12 rfl) ?_
      obtain ⟨hCc, hPc, hDc, hFc⟩ := va_pick (ws' := (wd05_48 jiD jii jk2 jeG jhF jje jhF cyI jkH jii cyI jkW)) hP hD hS hA [10, 3, 4, 11] (by decide +kernel) rfl
      refine va_callv (va_runV (As := [.ref jeG]) (rest := []) ⟨hx, hb, hml, hown, hts⟩ (ck_X5_copyFrom l dC dI cyB cyI cyJ cyP jiD jeG jhF jii H.size  jje jkH jkW jk2  hw) (cwV 1 hts gX10_image_X5_copyFrom rfl rfl rfl (by decide +kernel) ⟨Nat.le_of_ble_eq_true rfl, Nat.le_of_ble_eq_true rfl⟩) ⟨cPc_blind, va_recv (q := (RX5, TX5, 2)) hK hPc (ci := 5) (q0 := 0) rfl rfl, cPc_pre hPc hK hDc hNw⟩ rfl rfl hl.1 rfl (lv_room (Nat.le_of_ble_eq_true rfl)) (dt_of tkX10_image_k0 13 rfl) ⟨Nat.le_of_ble_eq_true rfl, Nat.le_of_ble_eq_true rfl⟩) hS (fun q _ h => hFc q h) hFc (fun u t H1 locs ht hvm hw hB hz1 hk1 hS => ?_)
      obtain ⟨f27, x28⟩ := u
      obtain ⟨hP1, hK1, hD1⟩ := hB
      rw [ht] at hP1
      obtain ⟨hP, hD⟩ := va_joinN (wr := (wd05_52 a0 jaK jfP ja1 jcp jbc jbV ja3 jbH jaT jbO jeG jjk jbI jbl jbn jkc jaa jbA jdD jjk cyP (img3 jik jiq jiD) jik jig jk0 jig cyI jkU jaT jbb jbr jhD jfc jbb cyI jbQ jiq jih jk1 jih cyI jkV)) (w1 := (wd05_48 jiD jii x28 jeG jhF jje jhF cyI jkH jii cyI f27)) (wn := (wd05_49 a0 jaK jfP ja1 jcp jbc jbV ja3 jbH jaT jbO jeG jjk jbI jbl jbn jkc jaa jbA jdD jjk cyP (img3 jik jiq jiD) jik jig jk0 jeG jhF jje jhF cyI jkH jig cyI jkU jaT jbb jbr jhD jfc jbb cyI jbQ jiq jih jk1 jih cyI jkV jiD jii x28 jii cyI f27)) hP hD [10, 3, 4, 11] [0, 1, 2, 5, 6, 7, 8, 9] [0, 1, 2, 9, 10, 3, 4, 5, 6, 7, 8, 11] hCc rfl (by decide +kernel) (by decide +kernel) (by decide +kernel) rfl hk1 hFc hP1 hD1
      generalize H1 = H at hP hS ⊢
      refine lv_aload_n hx hb (dt_of tkX10_image_k0 14 rfl) rfl (lv_at hl 0 rfl) ?_
      refine va_get (D := (dC, dI)) (ci := 10) (v := .ref jjk) (C := RX10) (T := TX10) (N := 19) hx hb hts ui_X10_image_X10 hown hK hP 0 rfl rfl 11 (by decide) (hts _ uw_X10_image_f72) (fun _ h9 => h9) rfl (dt_of tkX10_image_k0 15 rfl) ?_
      refine lv_aload_n hx hb (dt_of tkX10_image_k30 0 rfl) rfl (lv_at hl 0 rfl) ?_
      refine va_get (D := (dC, dI)) (ci := 10) (v := .int jkc) (C := RX10) (T := TX10) (N := 19) hx hb hts ui_X10_image_X10 hown hK hP 0 rfl rfl 15 (by decide) (hts _ uw_X10_image_f135) (fun _ h9 => h9) rfl (dt_of tkX10_image_k30 1 rfl) ?_
      obtain ⟨hi9, hw⟩ := hw
      refine va_aldq hx hb hK hP 1 3 rfl rfl hi9 (dt_of tkX10_image_k30 2 rfl) ?_
      rcases in3 hi9 with c29 | c29 | c29
      · have hw := hw.1 c29
        rw [show va_rf (img3 jik jiq jiD jkc.toNatClampNeg) = .ref jik from by rw [c29]; rfl]
        refine lv_aload_n hx hb (dt_of tkX10_image_k30 3 rfl) rfl (lv_at hl 0 rfl) ?_
        refine va_get (D := (dC, dI)) (ci := 10) (v := .ref jaT) (C := RX10) (T := TX10) (N := 19) hx hb hts ui_X10_image_X10 hown hK hP 0 rfl rfl 8 (by decide) (hts _ uw_X10_image_f58) (fun _ h9 => h9) rfl (dt_of tkX10_image_k30 4 rfl) ?_
        obtain ⟨hCc, hPc, hDc, hFc⟩ := va_pick (ws' := (wd05_14 jik jig jk0 jaT jbb jbr jhD jfc jbb cyI jbQ jig cyI jkU)) hP hD hS hA [2, 6, 7, 5] (by decide +kernel) rfl
        refine va_callv (va_runV (As := [.ref jaT]) (rest := []) ⟨hx, hb, hml, hown, hts⟩ (ck_X5_push l dC dI cyB cyI cyJ cyP jik jaT jbb jig H.size (jbr) (jhD) (jfc) jbQ jkU jk0  hw) (cwV 1 hts gX10_image_X5_push rfl rfl rfl (by decide +kernel) ⟨Nat.le_of_ble_eq_true rfl, Nat.le_of_ble_eq_true rfl⟩) ⟨cPc_blind, va_recv (q := (RX5, TX5, 2)) hK hPc (ci := 5) (q0 := 0) rfl rfl, cPc_pre hPc hK hDc hNw⟩ rfl rfl hl.1 rfl (lv_room (Nat.le_of_ble_eq_true rfl)) (dt_of tkX10_image_k30 5 rfl) ⟨Nat.le_of_ble_eq_true rfl, Nat.le_of_ble_eq_true rfl⟩) hS (fun q _ h => hFc q h) hFc (fun u t H1 locs ht hvm hw hB hz1 hk1 hS => ?_)
        obtain ⟨f30, x31⟩ := u
        obtain ⟨hP1, hK1, hD1⟩ := hB
        rw [ht] at hP1
        obtain ⟨hP, hD⟩ := va_joinN (wr := (wd05_50 a0 jaK jfP ja1 jcp jbc jbV ja3 jbH jaT jbO jeG jjk jbI jbl jbn jkc jaa jbA jdD jjk cyP (img3 jik jiq jiD) jeG jhF jje jhF cyI jkH jiq jih jk1 jih cyI jkV jiD jii x28 jii cyI f27)) (w1 := (wd05_14 jik jig x31 jaT jbb jbr jhD jfc jbb cyI jbQ jig cyI f30)) (wn := (wd05_49 a0 jaK jfP ja1 jcp jbc jbV ja3 jbH jaT jbO jeG jjk jbI jbl jbn jkc jaa jbA jdD jjk cyP (img3 jik jiq jiD) jik jig x31 jeG jhF jje jhF cyI jkH jig cyI f30 jaT jbb jbr jhD jfc jbb cyI jbQ jiq jih jk1 jih cyI jkV jiD jii x28 jii cyI f27)) hP hD [2, 6, 7, 5] [0, 1, 3, 4, 8, 9, 10, 11] [0, 1, 8, 2, 3, 11, 9, 10, 4, 5, 6, 7] hCc rfl (by decide +kernel) (by decide +kernel) (by decide +kernel) rfl hk1 hFc hP1 hD1
        generalize H1 = H at hP hS ⊢
        refine lv_aload_n hx hb (dt_of tkX10_image_k30 6 rfl) rfl (lv_at hl 0 rfl) ?_
        refine lv_dup hx hb (dt_of tkX10_image_k30 7 rfl) rfl ?_
        refine va_get (D := (dC, dI)) (ci := 10) (v := .int jkc) (C := RX10) (T := TX10) (N := 19) hx hb hts ui_X10_image_X10 hown hK hP 0 rfl rfl 15 (by decide) (hts _ uw_X10_image_f135) (fun _ h9 => h9) rfl (dt_of tkX10_image_k30 8 rfl) ?_
        refine lv_iconst (v := 1) hx hb (dt_of tkX10_image_k30 9 rfl) (by decide) ?_
        refine lv_iadd hx hb (dt_of tkX10_image_k30 10 rfl) ?_
        refine lv_topi (fun x32 ex32 => ?_)
        have hw := hw x32 ex32
        refine va_put (D := (dC, dI)) (ci := 10) (v := .int x32) (ty := .int) (C := RX10) (T := TX10) (N := 19) hx hb hts ui_X10_image_X10 tyX10 tyX10_ok nmX10 hown hK hP hD hS 0 rfl rfl 15 (by decide) (hts _ uw_X10_image_f135) (fun _ h9 => h9) rfl (by decide +kernel) rfl rfl (Nat.le_of_ble_eq_true rfl) (dt_of tkX10_image_k30 11 rfl) (fun H locs hP hD hS => ?_)
        have hP : va_P (dC, dI) vwCl (wd05_49 a0 jaK jfP ja1 jcp jbc jbV ja3 jbH jaT jbO jeG jjk jbI jbl jbn x32 jaa jbA jdD jjk cyP (img3 jik jiq jiD) jik jig x31 jeG jhF jje jhF cyI jkH jig cyI f30 jaT jbb jbr jhD jfc jbb cyI jbQ jiq jih jk1 jih cyI jkV jiD jii x28 jii cyI f27) H := hP
        have hD : va_D A (wd05_49 a0 jaK jfP ja1 jcp jbc jbV ja3 jbH jaT jbO jeG jjk jbI jbl jbn x32 jaa jbA jdD jjk cyP (img3 jik jiq jiD) jik jig x31 jeG jhF jje jhF cyI jkH jig cyI f30 jaT jbb jbr jhD jfc jbb cyI jbQ jiq jih jk1 jih cyI jkV jiD jii x28 jii cyI f27) := hD
        refine lv_aload_n hx hb (dt_of tkX10_image_k30 12 rfl) rfl (lv_at hl 0 rfl) ?_
        refine va_get (D := (dC, dI)) (ci := 10) (v := .int x32) (C := RX10) (T := TX10) (N := 19) hx hb hts ui_X10_image_X10 hown hK hP 0 rfl rfl 15 (by decide) (hts _ uw_X10_image_f135) (fun _ h9 => h9) rfl (dt_of tkX10_image_k30 13 rfl) ?_
        exact ((W.iret (v := x32) hx hb hr (fun t ht hW => ⟨⟨x32, (f30, x31, x32, jkV, jk1, f27, x28), rfl, hw, by rw [ht]; exact hP, va_K.moved hW.alike hK, hD⟩, hS.F ht⟩) hS.2.2 (dt_of tkX10_image_k30 14 rfl)))
      · have hw := hw.2.1 c29
        rw [show va_rf (img3 jik jiq jiD jkc.toNatClampNeg) = .ref jiq from by rw [c29]; rfl]
        refine lv_aload_n hx hb (dt_of tkX10_image_k30 3 rfl) rfl (lv_at hl 0 rfl) ?_
        refine va_get (D := (dC, dI)) (ci := 10) (v := .ref jaT) (C := RX10) (T := TX10) (N := 19) hx hb hts ui_X10_image_X10 hown hK hP 0 rfl rfl 8 (by decide) (hts _ uw_X10_image_f58) (fun _ h9 => h9) rfl (dt_of tkX10_image_k30 4 rfl) ?_
        obtain ⟨hCc, hPc, hDc, hFc⟩ := va_pick (ws' := (wd05_14 jiq jih jk1 jaT jbb jbr jhD jfc jbb cyI jbQ jih cyI jkV)) hP hD hS hA [8, 6, 7, 9] (by decide +kernel) rfl
        refine va_callv (va_runV (As := [.ref jaT]) (rest := []) ⟨hx, hb, hml, hown, hts⟩ (ck_X5_push l dC dI cyB cyI cyJ cyP jiq jaT jbb jih H.size (jbr) (jhD) (jfc) jbQ jkV jk1  hw) (cwV 1 hts gX10_image_X5_push rfl rfl rfl (by decide +kernel) ⟨Nat.le_of_ble_eq_true rfl, Nat.le_of_ble_eq_true rfl⟩) ⟨cPc_blind, va_recv (q := (RX5, TX5, 2)) hK hPc (ci := 5) (q0 := 0) rfl rfl, cPc_pre hPc hK hDc hNw⟩ rfl rfl hl.1 rfl (lv_room (Nat.le_of_ble_eq_true rfl)) (dt_of tkX10_image_k30 5 rfl) ⟨Nat.le_of_ble_eq_true rfl, Nat.le_of_ble_eq_true rfl⟩) hS (fun q _ h => hFc q h) hFc (fun u t H1 locs ht hvm hw hB hz1 hk1 hS => ?_)
        obtain ⟨f33, x34⟩ := u
        obtain ⟨hP1, hK1, hD1⟩ := hB
        rw [ht] at hP1
        obtain ⟨hP, hD⟩ := va_joinN (wr := (wd05_51 a0 jaK jfP ja1 jcp jbc jbV ja3 jbH jaT jbO jeG jjk jbI jbl jbn jkc jaa jbA jdD jjk cyP (img3 jik jiq jiD) jik jig jk0 jeG jhF jje jhF cyI jkH jig cyI jkU jiD jii x28 jii cyI f27)) (w1 := (wd05_14 jiq jih x34 jaT jbb jbr jhD jfc jbb cyI jbQ jih cyI f33)) (wn := (wd05_49 a0 jaK jfP ja1 jcp jbc jbV ja3 jbH jaT jbO jeG jjk jbI jbl jbn jkc jaa jbA jdD jjk cyP (img3 jik jiq jiD) jik jig jk0 jeG jhF jje jhF cyI jkH jig cyI jkU jaT jbb jbr jhD jfc jbb cyI jbQ jiq jih x34 jih cyI f33 jiD jii x28 jii cyI f27)) hP hD [8, 6, 7, 9] [0, 1, 2, 3, 4, 5, 10, 11] [0, 1, 2, 3, 4, 5, 9, 10, 8, 11, 6, 7] hCc rfl (by decide +kernel) (by decide +kernel) (by decide +kernel) rfl hk1 hFc hP1 hD1
        generalize H1 = H at hP hS ⊢
        refine lv_aload_n hx hb (dt_of tkX10_image_k30 6 rfl) rfl (lv_at hl 0 rfl) ?_
        refine lv_dup hx hb (dt_of tkX10_image_k30 7 rfl) rfl ?_
        refine va_get (D := (dC, dI)) (ci := 10) (v := .int jkc) (C := RX10) (T := TX10) (N := 19) hx hb hts ui_X10_image_X10 hown hK hP 0 rfl rfl 15 (by decide) (hts _ uw_X10_image_f135) (fun _ h9 => h9) rfl (dt_of tkX10_image_k30 8 rfl) ?_
        refine lv_iconst (v := 1) hx hb (dt_of tkX10_image_k30 9 rfl) (by decide) ?_
        refine lv_iadd hx hb (dt_of tkX10_image_k30 10 rfl) ?_
        refine lv_topi (fun x35 ex35 => ?_)
        have hw := hw x35 ex35
        refine va_put (D := (dC, dI)) (ci := 10) (v := .int x35) (ty := .int) (C := RX10) (T := TX10) (N := 19) hx hb hts ui_X10_image_X10 tyX10 tyX10_ok nmX10 hown hK hP hD hS 0 rfl rfl 15 (by decide) (hts _ uw_X10_image_f135) (fun _ h9 => h9) rfl (by decide +kernel) rfl rfl (Nat.le_of_ble_eq_true rfl) (dt_of tkX10_image_k30 11 rfl) (fun H locs hP hD hS => ?_)
        have hP : va_P (dC, dI) vwCl (wd05_49 a0 jaK jfP ja1 jcp jbc jbV ja3 jbH jaT jbO jeG jjk jbI jbl jbn x35 jaa jbA jdD jjk cyP (img3 jik jiq jiD) jik jig jk0 jeG jhF jje jhF cyI jkH jig cyI jkU jaT jbb jbr jhD jfc jbb cyI jbQ jiq jih x34 jih cyI f33 jiD jii x28 jii cyI f27) H := hP
        have hD : va_D A (wd05_49 a0 jaK jfP ja1 jcp jbc jbV ja3 jbH jaT jbO jeG jjk jbI jbl jbn x35 jaa jbA jdD jjk cyP (img3 jik jiq jiD) jik jig jk0 jeG jhF jje jhF cyI jkH jig cyI jkU jaT jbb jbr jhD jfc jbb cyI jbQ jiq jih x34 jih cyI f33 jiD jii x28 jii cyI f27) := hD
        refine lv_aload_n hx hb (dt_of tkX10_image_k30 12 rfl) rfl (lv_at hl 0 rfl) ?_
        refine va_get (D := (dC, dI)) (ci := 10) (v := .int x35) (C := RX10) (T := TX10) (N := 19) hx hb hts ui_X10_image_X10 hown hK hP 0 rfl rfl 15 (by decide) (hts _ uw_X10_image_f135) (fun _ h9 => h9) rfl (dt_of tkX10_image_k30 13 rfl) ?_
        exact ((W.iret (v := x35) hx hb hr (fun t ht hW => ⟨⟨x35, (jkU, jk0, x35, f33, x34, f27, x28), rfl, hw, by rw [ht]; exact hP, va_K.moved hW.alike hK, hD⟩, hS.F ht⟩) hS.2.2 (dt_of tkX10_image_k30 14 rfl)))
      · have hw := hw.2.2 c29
        rw [show va_rf (img3 jik jiq jiD jkc.toNatClampNeg) = .ref jiD from by rw [c29]; rfl]
        refine lv_aload_n hx hb (dt_of tkX10_image_k30 3 rfl) rfl (lv_at hl 0 rfl) ?_
        refine va_get (D := (dC, dI)) (ci := 10) (v := .ref jaT) (C := RX10) (T := TX10) (N := 19) hx hb hts ui_X10_image_X10 hown hK hP 0 rfl rfl 8 (by decide) (hts _ uw_X10_image_f58) (fun _ h9 => h9) rfl (dt_of tkX10_image_k30 4 rfl) ?_
        obtain ⟨hCc, hPc, hDc, hFc⟩ := va_pick (ws' := (wd05_14 jiD jii x28 jaT jbb jbr jhD jfc jbb cyI jbQ jii cyI f27)) hP hD hS hA [10, 6, 7, 11] (by decide +kernel) rfl
        refine va_callv (va_runV (As := [.ref jaT]) (rest := []) ⟨hx, hb, hml, hown, hts⟩ (ck_X5_push l dC dI cyB cyI cyJ cyP jiD jaT jbb jii H.size (jbr) (jhD) (jfc) jbQ f27 x28  hw) (cwV 1 hts gX10_image_X5_push rfl rfl rfl (by decide +kernel) ⟨Nat.le_of_ble_eq_true rfl, Nat.le_of_ble_eq_true rfl⟩) ⟨cPc_blind, va_recv (q := (RX5, TX5, 2)) hK hPc (ci := 5) (q0 := 0) rfl rfl, cPc_pre hPc hK hDc hNw⟩ rfl rfl hl.1 rfl (lv_room (Nat.le_of_ble_eq_true rfl)) (dt_of tkX10_image_k30 5 rfl) ⟨Nat.le_of_ble_eq_true rfl, Nat.le_of_ble_eq_true rfl⟩) hS (fun q _ h => hFc q h) hFc (fun u t H1 locs ht hvm hw hB hz1 hk1 hS => ?_)
        obtain ⟨f36, x37⟩ := u
        obtain ⟨hP1, hK1, hD1⟩ := hB
        rw [ht] at hP1
        obtain ⟨hP, hD⟩ := va_joinN (wr := (wd05_51 a0 jaK jfP ja1 jcp jbc jbV ja3 jbH jaT jbO jeG jjk jbI jbl jbn jkc jaa jbA jdD jjk cyP (img3 jik jiq jiD) jik jig jk0 jeG jhF jje jhF cyI jkH jig cyI jkU jiq jih jk1 jih cyI jkV)) (w1 := (wd05_14 jiD jii x37 jaT jbb jbr jhD jfc jbb cyI jbQ jii cyI f36)) (wn := (wd05_49 a0 jaK jfP ja1 jcp jbc jbV ja3 jbH jaT jbO jeG jjk jbI jbl jbn jkc jaa jbA jdD jjk cyP (img3 jik jiq jiD) jik jig jk0 jeG jhF jje jhF cyI jkH jig cyI jkU jaT jbb jbr jhD jfc jbb cyI jbQ jiq jih jk1 jih cyI jkV jiD jii x37 jii cyI f36)) hP hD [10, 6, 7, 11] [0, 1, 2, 3, 4, 5, 8, 9] [0, 1, 2, 3, 4, 5, 9, 10, 6, 7, 8, 11] hCc rfl (by decide +kernel) (by decide +kernel) (by decide +kernel) rfl hk1 hFc hP1 hD1
        generalize H1 = H at hP hS ⊢
        refine lv_aload_n hx hb (dt_of tkX10_image_k30 6 rfl) rfl (lv_at hl 0 rfl) ?_
        refine lv_dup hx hb (dt_of tkX10_image_k30 7 rfl) rfl ?_
        refine va_get (D := (dC, dI)) (ci := 10) (v := .int jkc) (C := RX10) (T := TX10) (N := 19) hx hb hts ui_X10_image_X10 hown hK hP 0 rfl rfl 15 (by decide) (hts _ uw_X10_image_f135) (fun _ h9 => h9) rfl (dt_of tkX10_image_k30 8 rfl) ?_
        refine lv_iconst (v := 1) hx hb (dt_of tkX10_image_k30 9 rfl) (by decide) ?_
        refine lv_iadd hx hb (dt_of tkX10_image_k30 10 rfl) ?_
        refine lv_topi (fun x38 ex38 => ?_)
        have hw := hw x38 ex38
        refine va_put (D := (dC, dI)) (ci := 10) (v := .int x38) (ty := .int) (C := RX10) (T := TX10) (N := 19) hx hb hts ui_X10_image_X10 tyX10 tyX10_ok nmX10 hown hK hP hD hS 0 rfl rfl 15 (by decide) (hts _ uw_X10_image_f135) (fun _ h9 => h9) rfl (by decide +kernel) rfl rfl (Nat.le_of_ble_eq_true rfl) (dt_of tkX10_image_k30 11 rfl) (fun H locs hP hD hS => ?_)
        have hP : va_P (dC, dI) vwCl (wd05_49 a0 jaK jfP ja1 jcp jbc jbV ja3 jbH jaT jbO jeG jjk jbI jbl jbn x38 jaa jbA jdD jjk cyP (img3 jik jiq jiD) jik jig jk0 jeG jhF jje jhF cyI jkH jig cyI jkU jaT jbb jbr jhD jfc jbb cyI jbQ jiq jih jk1 jih cyI jkV jiD jii x37 jii cyI f36) H := hP
        have hD : va_D A (wd05_49 a0 jaK jfP ja1 jcp jbc jbV ja3 jbH jaT jbO jeG jjk jbI jbl jbn x38 jaa jbA jdD jjk cyP (img3 jik jiq jiD) jik jig jk0 jeG jhF jje jhF cyI jkH jig cyI jkU jaT jbb jbr jhD jfc jbb cyI jbQ jiq jih jk1 jih cyI jkV jiD jii x37 jii cyI f36) := hD
        refine lv_aload_n hx hb (dt_of tkX10_image_k30 12 rfl) rfl (lv_at hl 0 rfl) ?_
        refine va_get (D := (dC, dI)) (ci := 10) (v := .int x38) (C := RX10) (T := TX10) (N := 19) hx hb hts ui_X10_image_X10 hown hK hP 0 rfl rfl 15 (by decide) (hts _ uw_X10_image_f135) (fun _ h9 => h9) rfl (dt_of tkX10_image_k30 13 rfl) ?_
        exact ((W.iret (v := x38) hx hb hr (fun t ht hW => ⟨⟨x38, (jkU, jk0, x38, jkV, jk1, f36, x37), rfl, hw, by rw [ht]; exact hP, va_K.moved hW.alike hK, hD⟩, hS.F ht⟩) hS.2.2 (dt_of tkX10_image_k30 14 rfl)))
  · have hw := hw.2 c1
    refine lv_iconst (v := (-1)) hx hb (dt_of tkX10_image_k0 4 rfl) (by decide) ?_
    exact ((W.iret (v := (-1)) hx hb hr (fun t ht hW => ⟨⟨(-1), (jkU, jk0, jkc, jkV, jk1, jkW, jk2), rfl, hw, by rw [ht]; exact hP, va_K.moved hW.alike hK, hD⟩, hS.F ht⟩) hS.2.2 (dt_of tkX10_image_k0 5 rfl)))
theorem ui_X8_init_X8 : ∀ w ∈ u_ws RX8 TX8 7, w ∈ wsX8_init := uiM mbX8_init euX8 (by decide +kernel)
theorem uw_X8_init_acbyte : (.arrayClass .byte : Cond) ∈ wsX8_init := mbX8_init 141 (by decide +kernel)
theorem uw_X8_init_cobj : (.code objectInit ⟨#[0xb1]⟩ 1 none : Cond) ∈ wsX8_init := mbX8_init 12 (by decide +kernel)
theorem uw_X8_init_f11 : (.fieldLink RX8 11 "MarchHares$Tape" "bytes" "[B" : Cond) ∈ wsX8_init := mbX8_init 142 (by decide +kernel)
theorem uw_X8_init_f15 : (.fieldLink RX8 15 "MarchHares$Tape" "faultPlace" "I" : Cond) ∈ wsX8_init := mbX8_init 143 (by decide +kernel)
theorem uw_X8_init_imobj : (.instanceMethod objectInit : Cond) ∈ wsX8_init := mbX8_init 11 (by decide +kernel)
theorem uw_X8_init_m3 : (.methodLink RX8 3 objectInit : Cond) ∈ wsX8_init := mbX8_init 140 (by decide +kernel)
set_option maxHeartbeats 4000000 in
set_option maxRecDepth 100000 in
theorem ck_X8_init (l : Launch) (dC : Nat → ClassId) (dI : Nat → Nat → Nat) (cyB cyI cyJ cyP : ClassId) (a0 sz : Nat)   {Q : Prop} (hw : wq_X8_init  Q) : Met l yX8_init wsX8_init ({ frames := 1, cells := 1, slots := 600, locals := 24 }) (va_Pc [.ref a0] (cPc (dC, dI) (kT cyB cyI cyJ cyP) (wd05_53 a0 0 0 0 0 0 0) sz)) (va_Qv (fun (u : (Nat → Nat)) => Q ) (cB (dC, dI) (kT cyB cyI cyJ cyP) (va_A (wd05_53 a0 0 0 0 0 0 0) sz) (fun u : (Nat → Nat) => ((wd05_54 a0 (u 0) 0 0 0 0 0 (-1) (u 0) cyB (fun _ => 0)) : va_W))) (va_A (wd05_53 a0 0 0 0 0 0 0) sz)) 1 600 (va_A (wd05_53 a0 0 0 0 0 0 0) sz) := by
  refine Met.ofW (cc := cX8_init) (maxL := 1) (ret := none) (by decide) rfl ?_
  intro p e s m args below meth c s₁ B hml hv
  obtain ⟨rfl, hsz, hP, hK, hD0, hNw⟩ := hv
  have hx := B.exec
  have hb := B.bytes
  have hr := B.returns
  have hts := atoms_spec (ws := wsX8_init) B.pre
  have hown : s.vm.findClass RX8 = some m.cls := findClass_of_methodNamed B.named
  have hlocks := B.notSynchronized
  have hin : meth.name = "<init>" := (name_of_methodNamed B.named B.method).1
  subst hsz
  have hD := hD0.self (sz := s.heap.size)
  generalize hAe : va_A (wd05_53 a0 0 0 0 0 0 0) s.heap.size = A at hD ⊢
  have hA : ∀ q : Nat, s.heap.size ≤ q → A q := fun q h => by rw [← hAe]; exact Or.inr h
  have hS : va_S A s.heap s.heap [] := va_S.rf
  have hP : va_P (dC, dI) vwCl (wd05_53 a0 0 0 0 0 0 0) s.heap := hP
  have hl := lv_entry ([.ref a0]) (n := 1) (Nat.le_of_ble_eq_true rfl)
  rw [lg_entry_eq]
  generalize (lg_sl ([.ref a0]) ++ List.replicate (1 - (lg_sl ([.ref a0])).length) Slot.unset).toArray = ls at hl ⊢
  have hl : lv_has ls 1 [(0, .ref a0)] := hl
  clear hAe
  obtain ⟨H, hH⟩ : ∃ H, H = s.heap := ⟨_, rfl⟩
  rw [← hH] at hP ⊢
  have hS : va_S A s.heap H [] := by rw [hH]; exact va_S.rf
  refine lv_aload_n hx hb (dt_of tkX8_init_k0 0 rfl) rfl (lv_at hl 0 rfl) ?_
  refine W.objInit hx hb hown (hts _ uw_X8_init_m3) (hts _ uw_X8_init_imobj) (hts _ uw_X8_init_cobj) rfl (by rw [hml]; exact hl.1) rfl (dt_of tkX8_init_k0 1 rfl) (Nat.le_of_ble_eq_true rfl) (Nat.le_of_ble_eq_true rfl) ?_
  refine W.eq (g2 := F0 m 4 ls []) rfl ?_
  refine lv_aload_n hx hb (dt_of tkX8_init_k0 2 rfl) rfl (lv_at hl 0 rfl) ?_
  refine lv_sipush (v := 600) hx hb (dt_of tkX8_init_k0 3 rfl) (by decide) ?_
  refine va_newa (atype := .byte) (ty := .byte) (N' := 600) (a0 := (600, .inl (fun _ => 0))) hx hb (hts _ uw_X8_init_acbyte) rfl hK hP hD hS hA (fun _ => rfl) (by decide) (by decide) (by decide) (Nat.le_of_ble_eq_true rfl) (Nat.le_of_ble_eq_true rfl) dX8_init_8 (fun jif cA9 H hK9 hP hD hS => ?_)
  obtain rfl := kT_byte hK9
  have hP : va_P (dC, dI) vwCl (wd05_55 a0 0 0 0 0 0 0 jif cyB (fun _ => 0)) H := hP
  have hD : va_D A (wd05_55 a0 0 0 0 0 0 0 jif cyB (fun _ => 0)) := hD
  refine va_putF (D := (dC, dI)) (ci := 8) (v := .ref jif) (ty := .array .byte) (C := RX8) (T := TX8) (N := 7) hx hb hts ui_X8_init_X8 tyX8 tyX8_ok nmX8 hown hK hP hD hS 0 rfl rfl 0 (by decide) (hts _ uw_X8_init_f11) (fun _ h9 => h9) rfl hin rfl (by decide +kernel) rfl rfl (Nat.le_of_ble_eq_true rfl) (dt_of tkX8_init_k10 0 rfl) (fun H locs hP hD hS => ?_)
  have hP : va_P (dC, dI) vwCl (wd05_54 a0 jif 0 0 0 0 0 0 jif cyB (fun _ => 0)) H := hP
  have hD : va_D A (wd05_54 a0 jif 0 0 0 0 0 0 jif cyB (fun _ => 0)) := hD
  refine lv_aload_n hx hb (dt_of tkX8_init_k10 1 rfl) rfl (lv_at hl 0 rfl) ?_
  refine lv_iconst (v := (-1)) hx hb (dt_of tkX8_init_k10 2 rfl) (by decide) ?_
  refine va_put (D := (dC, dI)) (ci := 8) (v := .int (-1)) (ty := .int) (C := RX8) (T := TX8) (N := 7) hx hb hts ui_X8_init_X8 tyX8 tyX8_ok nmX8 hown hK hP hD hS 0 rfl rfl 6 (by decide) (hts _ uw_X8_init_f15) (fun _ h9 => h9) rfl (by decide +kernel) rfl rfl (Nat.le_of_ble_eq_true rfl) (dt_of tkX8_init_k10 3 rfl) (fun H locs hP hD hS => ?_)
  have hP : va_P (dC, dI) vwCl (wd05_54 a0 jif 0 0 0 0 0 (-1) jif cyB (fun _ => 0)) H := hP
  have hD : va_D A (wd05_54 a0 jif 0 0 0 0 0 (-1) jif cyB (fun _ => 0)) := hD
  exact (W.widen (k := 1) (n := 600) (Nat.le_of_ble_eq_true rfl) (Nat.le_of_ble_eq_true rfl) (W.vret hx hb hr (fun t ht hW => ⟨⟨(adr [jif]), rfl, hw, by rw [ht]; exact hP, va_K.moved hW.alike hK, hD⟩, hS.F ht⟩) hS.2.2 (dt_of tkX8_init_k10 4 rfl)))
theorem ui_X2_init_X2 : ∀ w ∈ u_ws RX2 TX2 12, w ∈ wsX2_init := uiM mbX2_init euX2 (by decide +kernel)
theorem uw_X2_init_acint : (.arrayClass .int : Cond) ∈ wsX2_init := mbX2_init 147 (by decide +kernel)
theorem uw_X2_init_cobj : (.code objectInit ⟨#[0xb1]⟩ 1 none : Cond) ∈ wsX2_init := mbX2_init 12 (by decide +kernel)
theorem uw_X2_init_f15 : (.fieldLink RX2 15 "MarchHares$Down" "formY" "[I" : Cond) ∈ wsX2_init := mbX2_init 149 (by decide +kernel)
theorem uw_X2_init_f18 : (.fieldLink RX2 18 "MarchHares$Down" "foxX" "[I" : Cond) ∈ wsX2_init := mbX2_init 150 (by decide +kernel)
theorem uw_X2_init_f21 : (.fieldLink RX2 21 "MarchHares$Down" "foxY" "[I" : Cond) ∈ wsX2_init := mbX2_init 151 (by decide +kernel)
theorem uw_X2_init_f24 : (.fieldLink RX2 24 "MarchHares$Down" "seat" "[I" : Cond) ∈ wsX2_init := mbX2_init 192 (by decide +kernel)
theorem uw_X2_init_f27 : (.fieldLink RX2 27 "MarchHares$Down" "strength" "[I" : Cond) ∈ wsX2_init := mbX2_init 193 (by decide +kernel)
theorem uw_X2_init_f30 : (.fieldLink RX2 30 "MarchHares$Down" "debts" "[I" : Cond) ∈ wsX2_init := mbX2_init 194 (by decide +kernel)
theorem uw_X2_init_f33 : (.fieldLink RX2 33 "MarchHares$Down" "near" "[I" : Cond) ∈ wsX2_init := mbX2_init 195 (by decide +kernel)
theorem uw_X2_init_f9 : (.fieldLink RX2 9 "MarchHares$Down" "formX" "[I" : Cond) ∈ wsX2_init := mbX2_init 148 (by decide +kernel)
theorem uw_X2_init_imobj : (.instanceMethod objectInit : Cond) ∈ wsX2_init := mbX2_init 11 (by decide +kernel)
theorem uw_X2_init_m3 : (.methodLink RX2 3 objectInit : Cond) ∈ wsX2_init := mbX2_init 146 (by decide +kernel)
set_option maxHeartbeats 4000000 in
set_option maxRecDepth 100000 in
theorem ck_X2_init (l : Launch) (dC : Nat → ClassId) (dI : Nat → Nat → Nat) (cyB cyI cyJ cyP : ClassId) (a0 sz : Nat)   {Q : Prop} (hw : wq_X2_init  Q) : Met l yX2_init wsX2_init ({ frames := 1, cells := 8, slots := 80, locals := 24 }) (va_Pc [.ref a0] (cPc (dC, dI) (kT cyB cyI cyJ cyP) (wd05_56 a0 0 0 0 0) sz)) (va_Qv (fun (u : (Nat → Nat)) => Q ) (cB (dC, dI) (kT cyB cyI cyJ cyP) (va_A (wd05_56 a0 0 0 0 0) sz) (fun u : (Nat → Nat) => ((wd05_57 a0 (u 0) (u 1) (u 2) (u 3) (u 4) (u 5) (u 6) (u 7) 0 0 0 0 (u 0) cyI (fun _ => 0) (u 1) cyI (fun _ => 0) (u 2) cyI (fun _ => 0) (u 3) cyI (fun _ => 0) (u 4) cyI (fun _ => 0) (u 5) cyI (fun _ => 0) (u 6) cyI (fun _ => 0) (u 7) cyI (fun _ => 0)) : va_W))) (va_A (wd05_56 a0 0 0 0 0) sz)) 8 80 (va_A (wd05_56 a0 0 0 0 0) sz) := by
  refine Met.ofW (cc := cX2_init) (maxL := 1) (ret := none) (by decide) rfl ?_
  intro p e s m args below meth c s₁ B hml hv
  obtain ⟨rfl, hsz, hP, hK, hD0, hNw⟩ := hv
  have hx := B.exec
  have hb := B.bytes
  have hr := B.returns
  have hts := atoms_spec (ws := wsX2_init) B.pre
  have hown : s.vm.findClass RX2 = some m.cls := findClass_of_methodNamed B.named
  have hlocks := B.notSynchronized
  have hin : meth.name = "<init>" := (name_of_methodNamed B.named B.method).1
  subst hsz
  have hD := hD0.self (sz := s.heap.size)
  generalize hAe : va_A (wd05_56 a0 0 0 0 0) s.heap.size = A at hD ⊢
  have hA : ∀ q : Nat, s.heap.size ≤ q → A q := fun q h => by rw [← hAe]; exact Or.inr h
  have hS : va_S A s.heap s.heap [] := va_S.rf
  have hP : va_P (dC, dI) vwCl (wd05_56 a0 0 0 0 0) s.heap := hP
  have hl := lv_entry ([.ref a0]) (n := 1) (Nat.le_of_ble_eq_true rfl)
  rw [lg_entry_eq]
  generalize (lg_sl ([.ref a0]) ++ List.replicate (1 - (lg_sl ([.ref a0])).length) Slot.unset).toArray = ls at hl ⊢
  have hl : lv_has ls 1 [(0, .ref a0)] := hl
  clear hAe
  obtain ⟨H, hH⟩ : ∃ H, H = s.heap := ⟨_, rfl⟩
  rw [← hH] at hP ⊢
  have hS : va_S A s.heap H [] := by rw [hH]; exact va_S.rf
  refine lv_aload_n hx hb (dt_of tkX2_init_k0 0 rfl) rfl (lv_at hl 0 rfl) ?_
  refine W.objInit hx hb hown (hts _ uw_X2_init_m3) (hts _ uw_X2_init_imobj) (hts _ uw_X2_init_cobj) rfl (by rw [hml]; exact hl.1) rfl (dt_of tkX2_init_k0 1 rfl) (Nat.le_of_ble_eq_true rfl) (Nat.le_of_ble_eq_true rfl) ?_
  refine W.eq (g2 := F0 m 4 ls []) rfl ?_
  refine lv_aload_n hx hb (dt_of tkX2_init_k0 2 rfl) rfl (lv_at hl 0 rfl) ?_
  refine lv_bipush (v := 8) hx hb (dt_of tkX2_init_k0 3 rfl) (by decide) ?_
  refine va_newa (atype := .int) (ty := .int) (N' := 8) (a0 := (8, .inl (fun _ => 0))) hx hb (hts _ uw_X2_init_acint) rfl hK hP hD hS hA (fun _ => rfl) (by decide) (by decide) (by decide) (Nat.le_of_ble_eq_true rfl) (Nat.le_of_ble_eq_true rfl) dX2_init_7 (fun jha cA9 H hK9 hP hD hS => ?_)
  obtain rfl := kT_int hK9
  have hP : va_P (dC, dI) vwCl (wd05_58 a0 0 0 0 0 jha cyI (fun _ => 0)) H := hP
  have hD : va_D A (wd05_58 a0 0 0 0 0 jha cyI (fun _ => 0)) := hD
  refine va_putF (D := (dC, dI)) (ci := 2) (v := .ref jha) (ty := .array .int) (C := RX2) (T := TX2) (N := 12) hx hb hts ui_X2_init_X2 tyX2 tyX2_ok nmX2 hown hK hP hD hS 0 rfl rfl 0 (by decide) (hts _ uw_X2_init_f9) (fun _ h9 => h9) rfl hin rfl (by decide +kernel) rfl rfl (Nat.le_of_ble_eq_true rfl) (dt_of tkX2_init_k9 0 rfl) (fun H locs hP hD hS => ?_)
  have hP : va_P (dC, dI) vwCl (wd05_59 a0 jha 0 0 0 0 jha cyI (fun _ => 0)) H := hP
  have hD : va_D A (wd05_59 a0 jha 0 0 0 0 jha cyI (fun _ => 0)) := hD
  refine lv_aload_n hx hb (dt_of tkX2_init_k9 1 rfl) rfl (lv_at hl 0 rfl) ?_
  refine lv_bipush (v := 8) hx hb (dt_of tkX2_init_k9 2 rfl) (by decide) ?_
  refine va_newa (atype := .int) (ty := .int) (N' := 8) (a0 := (8, .inl (fun _ => 0))) hx hb (hts _ uw_X2_init_acint) rfl hK hP hD hS hA (fun _ => rfl) (by decide) (by decide) (by decide) (Nat.le_of_ble_eq_true rfl) (Nat.le_of_ble_eq_true rfl) dX2_init_15 (fun jhi cA9 H hK9 hP hD hS => ?_)
  obtain rfl := kT_int hK9
  have hP : va_P (dC, dI) vwCl (wd05_60 a0 jha 0 0 0 0 jha cyI (fun _ => 0) jhi cyI (fun _ => 0)) H := hP
  have hD : va_D A (wd05_60 a0 jha 0 0 0 0 jha cyI (fun _ => 0) jhi cyI (fun _ => 0)) := hD
  refine va_putF (D := (dC, dI)) (ci := 2) (v := .ref jhi) (ty := .array .int) (C := RX2) (T := TX2) (N := 12) hx hb hts ui_X2_init_X2 tyX2 tyX2_ok nmX2 hown hK hP hD hS 0 rfl rfl 1 (by decide) (hts _ uw_X2_init_f15) (fun _ h9 => h9) rfl hin rfl (by decide +kernel) rfl rfl (Nat.le_of_ble_eq_true rfl) (dt_of tkX2_init_k17 0 rfl) (fun H locs hP hD hS => ?_)
  have hP : va_P (dC, dI) vwCl (wd05_61 a0 jha jhi 0 0 0 0 jha cyI (fun _ => 0) jhi cyI (fun _ => 0)) H := hP
  have hD : va_D A (wd05_61 a0 jha jhi 0 0 0 0 jha cyI (fun _ => 0) jhi cyI (fun _ => 0)) := hD
  refine lv_aload_n hx hb (dt_of tkX2_init_k17 1 rfl) rfl (lv_at hl 0 rfl) ?_
  refine lv_iconst (v := 4) hx hb (dt_of tkX2_init_k17 2 rfl) (by decide) ?_
  refine va_newa (atype := .int) (ty := .int) (N' := 4) (a0 := (4, .inl (fun _ => 0))) hx hb (hts _ uw_X2_init_acint) rfl hK hP hD hS hA (fun _ => rfl) (by decide) (by decide) (by decide) (Nat.le_of_ble_eq_true rfl) (Nat.le_of_ble_eq_true rfl) dX2_init_22 (fun jjQ cA9 H hK9 hP hD hS => ?_)
  obtain rfl := kT_int hK9
  have hP : va_P (dC, dI) vwCl (wd05_62 a0 jha jhi 0 0 0 0 jha cyI (fun _ => 0) jhi cyI (fun _ => 0) jjQ cyI (fun _ => 0)) H := hP
  have hD : va_D A (wd05_62 a0 jha jhi 0 0 0 0 jha cyI (fun _ => 0) jhi cyI (fun _ => 0) jjQ cyI (fun _ => 0)) := hD
  refine va_putF (D := (dC, dI)) (ci := 2) (v := .ref jjQ) (ty := .array .int) (C := RX2) (T := TX2) (N := 12) hx hb hts ui_X2_init_X2 tyX2 tyX2_ok nmX2 hown hK hP hD hS 0 rfl rfl 2 (by decide) (hts _ uw_X2_init_f18) (fun _ h9 => h9) rfl hin rfl (by decide +kernel) rfl rfl (Nat.le_of_ble_eq_true rfl) (dt_of tkX2_init_k24 0 rfl) (fun H locs hP hD hS => ?_)
  have hP : va_P (dC, dI) vwCl (wd05_63 a0 jha jhi jjQ 0 0 0 0 jha cyI (fun _ => 0) jhi cyI (fun _ => 0) jjQ cyI (fun _ => 0)) H := hP
  have hD : va_D A (wd05_63 a0 jha jhi jjQ 0 0 0 0 jha cyI (fun _ => 0) jhi cyI (fun _ => 0) jjQ cyI (fun _ => 0)) := hD
  refine lv_aload_n hx hb (dt_of tkX2_init_k24 1 rfl) rfl (lv_at hl 0 rfl) ?_
  refine lv_iconst (v := 4) hx hb (dt_of tkX2_init_k24 2 rfl) (by decide) ?_
  refine va_newa (atype := .int) (ty := .int) (N' := 4) (a0 := (4, .inl (fun _ => 0))) hx hb (hts _ uw_X2_init_acint) rfl hK hP hD hS hA (fun _ => rfl) (by decide) (by decide) (by decide) (Nat.le_of_ble_eq_true rfl) (Nat.le_of_ble_eq_true rfl) dX2_init_29 (fun jjU cA9 H hK9 hP hD hS => ?_)
  obtain rfl := kT_int hK9
  have hP : va_P (dC, dI) vwCl (wd05_64 a0 jha jhi jjQ 0 0 0 0 jha cyI (fun _ => 0) jhi cyI (fun _ => 0) jjQ cyI (fun _ => 0) jjU cyI (fun _ => 0)) H := hP
  have hD : va_D A (wd05_64 a0 jha jhi jjQ 0 0 0 0 jha cyI (fun _ => 0) jhi cyI (fun _ => 0) jjQ cyI (fun _ => 0) jjU cyI (fun _ => 0)) := hD
  refine va_putF (D := (dC, dI)) (ci := 2) (v := .ref jjU) (ty := .array .int) (C := RX2) (T := TX2) (N := 12) hx hb hts ui_X2_init_X2 tyX2 tyX2_ok nmX2 hown hK hP hD hS 0 rfl rfl 3 (by decide) (hts _ uw_X2_init_f21) (fun _ h9 => h9) rfl hin rfl (by decide +kernel) rfl rfl (Nat.le_of_ble_eq_true rfl) (dt_of tkX2_init_k31 0 rfl) (fun H locs hP hD hS => ?_)
  have hP : va_P (dC, dI) vwCl (wd05_65 a0 jha jhi jjQ jjU 0 0 0 0 jha cyI (fun _ => 0) jhi cyI (fun _ => 0) jjQ cyI (fun _ => 0) jjU cyI (fun _ => 0)) H := hP
  have hD : va_D A (wd05_65 a0 jha jhi jjQ jjU 0 0 0 0 jha cyI (fun _ => 0) jhi cyI (fun _ => 0) jjQ cyI (fun _ => 0) jjU cyI (fun _ => 0)) := hD
  refine lv_aload_n hx hb (dt_of tkX2_init_k31 1 rfl) rfl (lv_at hl 0 rfl) ?_
  refine lv_bipush (v := 6) hx hb (dt_of tkX2_init_k31 2 rfl) (by decide) ?_
  refine va_newa (atype := .int) (ty := .int) (N' := 6) (a0 := (6, .inl (fun _ => 0))) hx hb (hts _ uw_X2_init_acint) rfl hK hP hD hS hA (fun _ => rfl) (by decide) (by decide) (by decide) (Nat.le_of_ble_eq_true rfl) (Nat.le_of_ble_eq_true rfl) dX2_init_37 (fun jla cA9 H hK9 hP hD hS => ?_)
  obtain rfl := kT_int hK9
  have hP : va_P (dC, dI) vwCl (wd05_66 a0 jha jhi jjQ jjU 0 0 0 0 jha cyI (fun _ => 0) jhi cyI (fun _ => 0) jjQ cyI (fun _ => 0) jjU cyI (fun _ => 0) jla cyI (fun _ => 0)) H := hP
  have hD : va_D A (wd05_66 a0 jha jhi jjQ jjU 0 0 0 0 jha cyI (fun _ => 0) jhi cyI (fun _ => 0) jjQ cyI (fun _ => 0) jjU cyI (fun _ => 0) jla cyI (fun _ => 0)) := hD
  refine va_putF (D := (dC, dI)) (ci := 2) (v := .ref jla) (ty := .array .int) (C := RX2) (T := TX2) (N := 12) hx hb hts ui_X2_init_X2 tyX2 tyX2_ok nmX2 hown hK hP hD hS 0 rfl rfl 4 (by decide) (hts _ uw_X2_init_f24) (fun _ h9 => h9) rfl hin rfl (by decide +kernel) rfl rfl (Nat.le_of_ble_eq_true rfl) (dt_of tkX2_init_k39 0 rfl) (fun H locs hP hD hS => ?_)
  have hP : va_P (dC, dI) vwCl (wd05_67 a0 jha jhi jjQ jjU jla 0 0 0 0 jha cyI (fun _ => 0) jhi cyI (fun _ => 0) jjQ cyI (fun _ => 0) jjU cyI (fun _ => 0) jla cyI (fun _ => 0)) H := hP
  have hD : va_D A (wd05_67 a0 jha jhi jjQ jjU jla 0 0 0 0 jha cyI (fun _ => 0) jhi cyI (fun _ => 0) jjQ cyI (fun _ => 0) jjU cyI (fun _ => 0) jla cyI (fun _ => 0)) := hD
  refine lv_aload_n hx hb (dt_of tkX2_init_k39 1 rfl) rfl (lv_at hl 0 rfl) ?_
  refine lv_bipush (v := 6) hx hb (dt_of tkX2_init_k39 2 rfl) (by decide) ?_
  refine va_newa (atype := .int) (ty := .int) (N' := 6) (a0 := (6, .inl (fun _ => 0))) hx hb (hts _ uw_X2_init_acint) rfl hK hP hD hS hA (fun _ => rfl) (by decide) (by decide) (by decide) (Nat.le_of_ble_eq_true rfl) (Nat.le_of_ble_eq_true rfl) dX2_init_45 (fun jjy cA9 H hK9 hP hD hS => ?_)
  obtain rfl := kT_int hK9
  have hP : va_P (dC, dI) vwCl (wd05_68 a0 jha jhi jjQ jjU jla 0 0 0 0 jha cyI (fun _ => 0) jhi cyI (fun _ => 0) jjQ cyI (fun _ => 0) jjU cyI (fun _ => 0) jla cyI (fun _ => 0) jjy cyI (fun _ => 0)) H := hP
  have hD : va_D A (wd05_68 a0 jha jhi jjQ jjU jla 0 0 0 0 jha cyI (fun _ => 0) jhi cyI (fun _ => 0) jjQ cyI (fun _ => 0) jjU cyI (fun _ => 0) jla cyI (fun _ => 0) jjy cyI (fun _ => 0)) := hD
  refine va_putF (D := (dC, dI)) (ci := 2) (v := .ref jjy) (ty := .array .int) (C := RX2) (T := TX2) (N := 12) hx hb hts ui_X2_init_X2 tyX2 tyX2_ok nmX2 hown hK hP hD hS 0 rfl rfl 5 (by decide) (hts _ uw_X2_init_f27) (fun _ h9 => h9) rfl hin rfl (by decide +kernel) rfl rfl (Nat.le_of_ble_eq_true rfl) (dt_of tkX2_init_k47 0 rfl) (fun H locs hP hD hS => ?_)
  have hP : va_P (dC, dI) vwCl (wd05_69 a0 jha jhi jjQ jjU jla jjy 0 0 0 0 jha cyI (fun _ => 0) jhi cyI (fun _ => 0) jjQ cyI (fun _ => 0) jjU cyI (fun _ => 0) jla cyI (fun _ => 0) jjy cyI (fun _ => 0)) H := hP
  have hD : va_D A (wd05_69 a0 jha jhi jjQ jjU jla jjy 0 0 0 0 jha cyI (fun _ => 0) jhi cyI (fun _ => 0) jjQ cyI (fun _ => 0) jjU cyI (fun _ => 0) jla cyI (fun _ => 0) jjy cyI (fun _ => 0)) := hD
  refine lv_aload_n hx hb (dt_of tkX2_init_k47 1 rfl) rfl (lv_at hl 0 rfl) ?_
  refine lv_bipush (v := 36) hx hb (dt_of tkX2_init_k47 2 rfl) (by decide) ?_
  refine va_newa (atype := .int) (ty := .int) (N' := 36) (a0 := (36, .inl (fun _ => 0))) hx hb (hts _ uw_X2_init_acint) rfl hK hP hD hS hA (fun _ => rfl) (by decide) (by decide) (by decide) (Nat.le_of_ble_eq_true rfl) (Nat.le_of_ble_eq_true rfl) dX2_init_53 (fun jkT cA9 H hK9 hP hD hS => ?_)
  obtain rfl := kT_int hK9
  have hP : va_P (dC, dI) vwCl (wd05_70 a0 jha jhi jjQ jjU jla jjy 0 0 0 0 jha cyI (fun _ => 0) jhi cyI (fun _ => 0) jjQ cyI (fun _ => 0) jjU cyI (fun _ => 0) jla cyI (fun _ => 0) jjy cyI (fun _ => 0) jkT cyI (fun _ => 0)) H := hP
  have hD : va_D A (wd05_70 a0 jha jhi jjQ jjU jla jjy 0 0 0 0 jha cyI (fun _ => 0) jhi cyI (fun _ => 0) jjQ cyI (fun _ => 0) jjU cyI (fun _ => 0) jla cyI (fun _ => 0) jjy cyI (fun _ => 0) jkT cyI (fun _ => 0)) := hD
  refine va_putF (D := (dC, dI)) (ci := 2) (v := .ref jkT) (ty := .array .int) (C := RX2) (T := TX2) (N := 12) hx hb hts ui_X2_init_X2 tyX2 tyX2_ok nmX2 hown hK hP hD hS 0 rfl rfl 6 (by decide) (hts _ uw_X2_init_f30) (fun _ h9 => h9) rfl hin rfl (by decide +kernel) rfl rfl (Nat.le_of_ble_eq_true rfl) (dt_of tkX2_init_k55 0 rfl) (fun H locs hP hD hS => ?_)
  have hP : va_P (dC, dI) vwCl (wd05_71 a0 jha jhi jjQ jjU jla jjy jkT 0 0 0 0 jha cyI (fun _ => 0) jhi cyI (fun _ => 0) jjQ cyI (fun _ => 0) jjU cyI (fun _ => 0) jla cyI (fun _ => 0) jjy cyI (fun _ => 0) jkT cyI (fun _ => 0)) H := hP
  have hD : va_D A (wd05_71 a0 jha jhi jjQ jjU jla jjy jkT 0 0 0 0 jha cyI (fun _ => 0) jhi cyI (fun _ => 0) jjQ cyI (fun _ => 0) jjU cyI (fun _ => 0) jla cyI (fun _ => 0) jjy cyI (fun _ => 0) jkT cyI (fun _ => 0)) := hD
  refine lv_aload_n hx hb (dt_of tkX2_init_k55 1 rfl) rfl (lv_at hl 0 rfl) ?_
  refine lv_bipush (v := 8) hx hb (dt_of tkX2_init_k55 2 rfl) (by decide) ?_
  refine va_newa (atype := .int) (ty := .int) (N' := 8) (a0 := (8, .inl (fun _ => 0))) hx hb (hts _ uw_X2_init_acint) rfl hK hP hD hS hA (fun _ => rfl) (by decide) (by decide) (by decide) (Nat.le_of_ble_eq_true rfl) (Nat.le_of_ble_eq_true rfl) dX2_init_61 (fun jmE cA9 H hK9 hP hD hS => ?_)
  obtain rfl := kT_int hK9
  have hP : va_P (dC, dI) vwCl (wd05_72 a0 jha jhi jjQ jjU jla jjy jkT 0 0 0 0 jha cyI (fun _ => 0) jhi cyI (fun _ => 0) jjQ cyI (fun _ => 0) jjU cyI (fun _ => 0) jla cyI (fun _ => 0) jjy cyI (fun _ => 0) jkT cyI (fun _ => 0) jmE cyI (fun _ => 0)) H := hP
  have hD : va_D A (wd05_72 a0 jha jhi jjQ jjU jla jjy jkT 0 0 0 0 jha cyI (fun _ => 0) jhi cyI (fun _ => 0) jjQ cyI (fun _ => 0) jjU cyI (fun _ => 0) jla cyI (fun _ => 0) jjy cyI (fun _ => 0) jkT cyI (fun _ => 0) jmE cyI (fun _ => 0)) := hD
  refine va_putF (D := (dC, dI)) (ci := 2) (v := .ref jmE) (ty := .array .int) (C := RX2) (T := TX2) (N := 12) hx hb hts ui_X2_init_X2 tyX2 tyX2_ok nmX2 hown hK hP hD hS 0 rfl rfl 7 (by decide) (hts _ uw_X2_init_f33) (fun _ h9 => h9) rfl hin rfl (by decide +kernel) rfl rfl (Nat.le_of_ble_eq_true rfl) (dt_of tkX2_init_k63 0 rfl) (fun H locs hP hD hS => ?_)
  have hP : va_P (dC, dI) vwCl (wd05_57 a0 jha jhi jjQ jjU jla jjy jkT jmE 0 0 0 0 jha cyI (fun _ => 0) jhi cyI (fun _ => 0) jjQ cyI (fun _ => 0) jjU cyI (fun _ => 0) jla cyI (fun _ => 0) jjy cyI (fun _ => 0) jkT cyI (fun _ => 0) jmE cyI (fun _ => 0)) H := hP
  have hD : va_D A (wd05_57 a0 jha jhi jjQ jjU jla jjy jkT jmE 0 0 0 0 jha cyI (fun _ => 0) jhi cyI (fun _ => 0) jjQ cyI (fun _ => 0) jjU cyI (fun _ => 0) jla cyI (fun _ => 0) jjy cyI (fun _ => 0) jkT cyI (fun _ => 0) jmE cyI (fun _ => 0)) := hD
  exact (W.widen (k := 8) (n := 80) (Nat.le_of_ble_eq_true rfl) (Nat.le_of_ble_eq_true rfl) (W.vret hx hb hr (fun t ht hW => ⟨⟨(adr [jha, jhi, jjQ, jjU, jla, jjy, jkT, jmE]), rfl, hw, by rw [ht]; exact hP, va_K.moved hW.alike hK, hD⟩, hS.F ht⟩) hS.2.2 (dt_of tkX2_init_k63 1 rfl)))
theorem ui_X4_init_X4 : ∀ w ∈ u_ws RX4 TX4 5, w ∈ wsX4_init := uiM mbX4_init euX4 (by decide +kernel)
theorem uw_X4_init_acint : (.arrayClass .int : Cond) ∈ wsX4_init := mbX4_init 147 (by decide +kernel)
theorem uw_X4_init_cobj : (.code objectInit ⟨#[0xb1]⟩ 1 none : Cond) ∈ wsX4_init := mbX4_init 12 (by decide +kernel)
theorem uw_X4_init_f15 : (.fieldLink RX4 15 "MarchHares$Law" "values" "[I" : Cond) ∈ wsX4_init := mbX4_init 201 (by decide +kernel)
theorem uw_X4_init_f18 : (.fieldLink RX4 18 "MarchHares$Law" "pile" "[I" : Cond) ∈ wsX4_init := mbX4_init 202 (by decide +kernel)
theorem uw_X4_init_f21 : (.fieldLink RX4 21 "MarchHares$Law" "facts" "[I" : Cond) ∈ wsX4_init := mbX4_init 203 (by decide +kernel)
theorem uw_X4_init_f9 : (.fieldLink RX4 9 "MarchHares$Law" "kinds" "[I" : Cond) ∈ wsX4_init := mbX4_init 200 (by decide +kernel)
theorem uw_X4_init_imobj : (.instanceMethod objectInit : Cond) ∈ wsX4_init := mbX4_init 11 (by decide +kernel)
theorem uw_X4_init_m3 : (.methodLink RX4 3 objectInit : Cond) ∈ wsX4_init := mbX4_init 199 (by decide +kernel)
set_option maxHeartbeats 4000000 in
set_option maxRecDepth 100000 in
theorem ck_X4_init (l : Launch) (dC : Nat → ClassId) (dI : Nat → Nat → Nat) (cyB cyI cyJ cyP : ClassId) (a0 sz : Nat)   {Q : Int32 → (Nat → Int32) → (Nat → Int32) → Prop} (hw : wq_X4_init  Q) : Met l yX4_init wsX4_init ({ frames := 2, cells := 4, slots := 458, locals := 42 }) (va_Pc [.ref a0] (cPc (dC, dI) (kT cyB cyI cyJ cyP) (wd05_73 a0 0) sz)) (va_Qv (fun (u : (Nat → Nat) × (Int32) × (Nat → Int32) × (Nat → Int32)) => Q u.2.1 u.2.2.1 u.2.2.2) (cB (dC, dI) (kT cyB cyI cyJ cyP) (va_A (wd05_73 a0 0) sz) (fun u : (Nat → Nat) × (Int32) × (Nat → Int32) × (Nat → Int32) => ((wd05_37 a0 (u.1 0) (u.1 1) (u.1 2) (u.1 3) u.2.1 (u.1 0) cyI u.2.2.1 (u.1 1) cyI u.2.2.2 (u.1 2) cyI (fun _ => 0) (u.1 3) cyI (fun _ => 0)) : va_W))) (va_A (wd05_73 a0 0) sz)) 4 458 (va_A (wd05_73 a0 0) sz) := by
  refine Met.ofW (cc := cX4_init) (maxL := 1) (ret := none) (by decide) rfl ?_
  intro p e s m args below meth c s₁ B hml hv
  obtain ⟨rfl, hsz, hP, hK, hD0, hNw⟩ := hv
  have hx := B.exec
  have hb := B.bytes
  have hr := B.returns
  have hts := atoms_spec (ws := wsX4_init) B.pre
  have hown : s.vm.findClass RX4 = some m.cls := findClass_of_methodNamed B.named
  have hlocks := B.notSynchronized
  have hin : meth.name = "<init>" := (name_of_methodNamed B.named B.method).1
  subst hsz
  have hD := hD0.self (sz := s.heap.size)
  generalize hAe : va_A (wd05_73 a0 0) s.heap.size = A at hD ⊢
  have hA : ∀ q : Nat, s.heap.size ≤ q → A q := fun q h => by rw [← hAe]; exact Or.inr h
  have hS : va_S A s.heap s.heap [] := va_S.rf
  have hP : va_P (dC, dI) vwCl (wd05_73 a0 0) s.heap := hP
  have hl := lv_entry ([.ref a0]) (n := 1) (Nat.le_of_ble_eq_true rfl)
  rw [lg_entry_eq]
  generalize (lg_sl ([.ref a0]) ++ List.replicate (1 - (lg_sl ([.ref a0])).length) Slot.unset).toArray = ls at hl ⊢
  have hl : lv_has ls 1 [(0, .ref a0)] := hl
  clear hAe
  obtain ⟨H, hH⟩ : ∃ H, H = s.heap := ⟨_, rfl⟩
  rw [← hH] at hP ⊢
  have hS : va_S A s.heap H [] := by rw [hH]; exact va_S.rf
  refine lv_aload_n hx hb (dt_of tkX4_init_k0 0 rfl) rfl (lv_at hl 0 rfl) ?_
  refine W.objInit hx hb hown (hts _ uw_X4_init_m3) (hts _ uw_X4_init_imobj) (hts _ uw_X4_init_cobj) rfl (by rw [hml]; exact hl.1) rfl (dt_of tkX4_init_k0 1 rfl) (Nat.le_of_ble_eq_true rfl) (Nat.le_of_ble_eq_true rfl) ?_
  refine W.eq (g2 := F0 m 4 ls []) rfl ?_
  refine lv_aload_n hx hb (dt_of tkX4_init_k0 2 rfl) rfl (lv_at hl 0 rfl) ?_
  refine lv_sipush (v := 150) hx hb (dt_of tkX4_init_k0 3 rfl) (by decide) ?_
  refine va_newa (atype := .int) (ty := .int) (N' := 150) (a0 := (150, .inl (fun _ => 0))) hx hb (hts _ uw_X4_init_acint) rfl hK hP hD hS hA (fun _ => rfl) (by decide) (by decide) (by decide) (Nat.le_of_ble_eq_true rfl) (Nat.le_of_ble_eq_true rfl) dX4_init_8 (fun jbU cA9 H hK9 hP hD hS => ?_)
  obtain rfl := kT_int hK9
  have hP : va_P (dC, dI) vwCl (wd05_74 a0 0 jbU cyI (fun _ => 0)) H := hP
  have hD : va_D A (wd05_74 a0 0 jbU cyI (fun _ => 0)) := hD
  refine va_putF (D := (dC, dI)) (ci := 4) (v := .ref jbU) (ty := .array .int) (C := RX4) (T := TX4) (N := 5) hx hb hts ui_X4_init_X4 tyX4 tyX4_ok nmX4 hown hK hP hD hS 0 rfl rfl 0 (by decide) (hts _ uw_X4_init_f9) (fun _ h9 => h9) rfl hin rfl (by decide +kernel) rfl rfl (Nat.le_of_ble_eq_true rfl) (dt_of tkX4_init_k10 0 rfl) (fun H locs hP hD hS => ?_)
  have hP : va_P (dC, dI) vwCl (wd05_75 a0 jbU 0 jbU cyI (fun _ => 0)) H := hP
  have hD : va_D A (wd05_75 a0 jbU 0 jbU cyI (fun _ => 0)) := hD
  refine lv_aload_n hx hb (dt_of tkX4_init_k10 1 rfl) rfl (lv_at hl 0 rfl) ?_
  refine lv_sipush (v := 150) hx hb (dt_of tkX4_init_k10 2 rfl) (by decide) ?_
  refine va_newa (atype := .int) (ty := .int) (N' := 150) (a0 := (150, .inl (fun _ => 0))) hx hb (hts _ uw_X4_init_acint) rfl hK hP hD hS hA (fun _ => rfl) (by decide) (by decide) (by decide) (Nat.le_of_ble_eq_true rfl) (Nat.le_of_ble_eq_true rfl) dX4_init_17 (fun jcJ cA9 H hK9 hP hD hS => ?_)
  obtain rfl := kT_int hK9
  have hP : va_P (dC, dI) vwCl (wd05_76 a0 jbU 0 jbU cyI (fun _ => 0) jcJ cyI (fun _ => 0)) H := hP
  have hD : va_D A (wd05_76 a0 jbU 0 jbU cyI (fun _ => 0) jcJ cyI (fun _ => 0)) := hD
  refine va_putF (D := (dC, dI)) (ci := 4) (v := .ref jcJ) (ty := .array .int) (C := RX4) (T := TX4) (N := 5) hx hb hts ui_X4_init_X4 tyX4 tyX4_ok nmX4 hown hK hP hD hS 0 rfl rfl 1 (by decide) (hts _ uw_X4_init_f15) (fun _ h9 => h9) rfl hin rfl (by decide +kernel) rfl rfl (Nat.le_of_ble_eq_true rfl) (dt_of tkX4_init_k19 0 rfl) (fun H locs hP hD hS => ?_)
  have hP : va_P (dC, dI) vwCl (wd05_77 a0 jbU jcJ 0 jbU cyI (fun _ => 0) jcJ cyI (fun _ => 0)) H := hP
  have hD : va_D A (wd05_77 a0 jbU jcJ 0 jbU cyI (fun _ => 0) jcJ cyI (fun _ => 0)) := hD
  refine lv_aload_n hx hb (dt_of tkX4_init_k19 1 rfl) rfl (lv_at hl 0 rfl) ?_
  refine lv_sipush (v := 150) hx hb (dt_of tkX4_init_k19 2 rfl) (by decide) ?_
  refine va_newa (atype := .int) (ty := .int) (N' := 150) (a0 := (150, .inl (fun _ => 0))) hx hb (hts _ uw_X4_init_acint) rfl hK hP hD hS hA (fun _ => rfl) (by decide) (by decide) (by decide) (Nat.le_of_ble_eq_true rfl) (Nat.le_of_ble_eq_true rfl) dX4_init_26 (fun jmH cA9 H hK9 hP hD hS => ?_)
  obtain rfl := kT_int hK9
  have hP : va_P (dC, dI) vwCl (wd05_78 a0 jbU jcJ 0 jbU cyI (fun _ => 0) jcJ cyI (fun _ => 0) jmH cyI (fun _ => 0)) H := hP
  have hD : va_D A (wd05_78 a0 jbU jcJ 0 jbU cyI (fun _ => 0) jcJ cyI (fun _ => 0) jmH cyI (fun _ => 0)) := hD
  refine va_putF (D := (dC, dI)) (ci := 4) (v := .ref jmH) (ty := .array .int) (C := RX4) (T := TX4) (N := 5) hx hb hts ui_X4_init_X4 tyX4 tyX4_ok nmX4 hown hK hP hD hS 0 rfl rfl 2 (by decide) (hts _ uw_X4_init_f18) (fun _ h9 => h9) rfl hin rfl (by decide +kernel) rfl rfl (Nat.le_of_ble_eq_true rfl) (dt_of tkX4_init_k28 0 rfl) (fun H locs hP hD hS => ?_)
  have hP : va_P (dC, dI) vwCl (wd05_79 a0 jbU jcJ jmH 0 jbU cyI (fun _ => 0) jcJ cyI (fun _ => 0) jmH cyI (fun _ => 0)) H := hP
  have hD : va_D A (wd05_79 a0 jbU jcJ jmH 0 jbU cyI (fun _ => 0) jcJ cyI (fun _ => 0) jmH cyI (fun _ => 0)) := hD
  refine lv_aload_n hx hb (dt_of tkX4_init_k28 1 rfl) rfl (lv_at hl 0 rfl) ?_
  refine lv_bipush (v := 8) hx hb (dt_of tkX4_init_k28 2 rfl) (by decide) ?_
  refine va_newa (atype := .int) (ty := .int) (N' := 8) (a0 := (8, .inl (fun _ => 0))) hx hb (hts _ uw_X4_init_acint) rfl hK hP hD hS hA (fun _ => rfl) (by decide) (by decide) (by decide) (Nat.le_of_ble_eq_true rfl) (Nat.le_of_ble_eq_true rfl) dX4_init_34 (fun jbu cA9 H hK9 hP hD hS => ?_)
  obtain rfl := kT_int hK9
  have hP : va_P (dC, dI) vwCl (wd05_80 a0 jbU jcJ jmH 0 jbU cyI (fun _ => 0) jcJ cyI (fun _ => 0) jmH cyI (fun _ => 0) jbu cyI (fun _ => 0)) H := hP
  have hD : va_D A (wd05_80 a0 jbU jcJ jmH 0 jbU cyI (fun _ => 0) jcJ cyI (fun _ => 0) jmH cyI (fun _ => 0) jbu cyI (fun _ => 0)) := hD
  refine va_putF (D := (dC, dI)) (ci := 4) (v := .ref jbu) (ty := .array .int) (C := RX4) (T := TX4) (N := 5) hx hb hts ui_X4_init_X4 tyX4 tyX4_ok nmX4 hown hK hP hD hS 0 rfl rfl 3 (by decide) (hts _ uw_X4_init_f21) (fun _ h9 => h9) rfl hin rfl (by decide +kernel) rfl rfl (Nat.le_of_ble_eq_true rfl) (dt_of tkX4_init_k36 0 rfl) (fun H locs hP hD hS => ?_)
  have hP : va_P (dC, dI) vwCl (wd05_37 a0 jbU jcJ jmH jbu 0 jbU cyI (fun _ => 0) jcJ cyI (fun _ => 0) jmH cyI (fun _ => 0) jbu cyI (fun _ => 0)) H := hP
  have hD : va_D A (wd05_37 a0 jbU jcJ jmH jbu 0 jbU cyI (fun _ => 0) jcJ cyI (fun _ => 0) jmH cyI (fun _ => 0) jbu cyI (fun _ => 0)) := hD
  refine lv_aload_n hx hb (dt_of tkX4_init_k36 1 rfl) rfl (lv_at hl 0 rfl) ?_
  obtain ⟨hCc, hPc, hDc, hFc⟩ := va_pick (ws' := (wd05_81 a0 jbU jcJ jmH jbu 0 jbU cyI (fun _ => 0) jcJ cyI (fun _ => 0))) hP hD hS hA [0, 1, 2] (by decide +kernel) rfl
  refine va_callv (va_runV (As := []) (rest := []) ⟨hx, hb, hml, hown, hts⟩ (ck_X4_setPlain l dC dI cyB cyI cyJ cyP a0 jbU jcJ H.size (.ref jmH) (.ref jbu)  0 (fun _ => 0) (fun _ => 0)  hw) (cwV 0 hts gX4_init_X4_setPlain rfl rfl rfl (by decide +kernel) ⟨Nat.le_of_ble_eq_true rfl, Nat.le_of_ble_eq_true rfl⟩) ⟨cPc_blind, va_recv (q := (RX4, TX4, 5)) hK hPc (ci := 4) (q0 := 0) rfl rfl, cPc_pre hPc hK hDc hNw⟩ rfl rfl hl.1 rfl (lv_room (Nat.le_of_ble_eq_true rfl)) (dt_of tkX4_init_k36 2 rfl) ⟨Nat.le_of_ble_eq_true rfl, Nat.le_of_ble_eq_true rfl⟩) hS (fun q _ h => hFc q h) hFc (fun u t H1 locs ht hvm hw hB hz1 hk1 hS => ?_)
  obtain ⟨x1, f2, f3⟩ := u
  obtain ⟨hP1, hK1, hD1⟩ := hB
  rw [ht] at hP1
  obtain ⟨hP, hD⟩ := va_joinN (wr := [(jmH, .inl (cyI, 150, .inl (fun _ => 0))), (jbu, .inl (cyI, 8, .inl (fun _ => 0)))]) (w1 := (wd05_81 a0 jbU jcJ jmH jbu x1 jbU cyI f2 jcJ cyI f3)) (wn := (wd05_37 a0 jbU jcJ jmH jbu x1 jbU cyI f2 jcJ cyI f3 jmH cyI (fun _ => 0) jbu cyI (fun _ => 0))) hP hD [0, 1, 2] [3, 4] [2, 3, 4, 0, 1] hCc rfl (by decide +kernel) (by decide +kernel) (by decide +kernel) rfl hk1 hFc hP1 hD1
  generalize H1 = H at hP hS ⊢
  exact (W.widen (k := 4) (n := 458) (Nat.le_of_ble_eq_true rfl) (Nat.le_of_ble_eq_true rfl) (W.vret hx hb hr (fun t ht hW => ⟨⟨((adr [jbU, jcJ, jmH, jbu]), x1, f2, f3), rfl, hw, by rw [ht]; exact hP, va_K.moved hW.alike hK, hD⟩, hS.F ht⟩) hS.2.2 (dt_of tkX4_init_k36 3 rfl)))
theorem ui_X9_init_X9 : ∀ w ∈ u_ws RX9 TX9 12, w ∈ wsX9_init := uiM mbX9_init euX9 (by decide +kernel)
theorem uw_X9_init_acint : (.arrayClass .int : Cond) ∈ wsX9_init := mbX9_init 147 (by decide +kernel)
theorem uw_X9_init_cobj : (.code objectInit ⟨#[0xb1]⟩ 1 none : Cond) ∈ wsX9_init := mbX9_init 12 (by decide +kernel)
theorem uw_X9_init_f11 : (.fieldLink RX9 11 "MarchHares$Work" "kinds" "[I" : Cond) ∈ wsX9_init := mbX9_init 266 (by decide +kernel)
theorem uw_X9_init_f15 : (.fieldLink RX9 15 "MarchHares$Work" "first" "[I" : Cond) ∈ wsX9_init := mbX9_init 267 (by decide +kernel)
theorem uw_X9_init_f18 : (.fieldLink RX9 18 "MarchHares$Work" "second" "[I" : Cond) ∈ wsX9_init := mbX9_init 268 (by decide +kernel)
theorem uw_X9_init_f21 : (.fieldLink RX9 21 "MarchHares$Work" "third" "[I" : Cond) ∈ wsX9_init := mbX9_init 269 (by decide +kernel)
theorem uw_X9_init_f24 : (.fieldLink RX9 24 "MarchHares$Work" "heads" "[I" : Cond) ∈ wsX9_init := mbX9_init 270 (by decide +kernel)
theorem uw_X9_init_f27 : (.fieldLink RX9 27 "MarchHares$Work" "rounds" "[I" : Cond) ∈ wsX9_init := mbX9_init 271 (by decide +kernel)
theorem uw_X9_init_imobj : (.instanceMethod objectInit : Cond) ∈ wsX9_init := mbX9_init 11 (by decide +kernel)
theorem uw_X9_init_m3 : (.methodLink RX9 3 objectInit : Cond) ∈ wsX9_init := mbX9_init 265 (by decide +kernel)
set_option maxHeartbeats 4000000 in
set_option maxRecDepth 100000 in
theorem ck_X9_init (l : Launch) (dC : Nat → ClassId) (dI : Nat → Nat → Nat) (cyB cyI cyJ cyP : ClassId) (a0 sz : Nat)   {Q : Prop} (hw : wq_X9_init  Q) : Met l yX9_init wsX9_init ({ frames := 1, cells := 6, slots := 212, locals := 24 }) (va_Pc [.ref a0] (cPc (dC, dI) (kT cyB cyI cyJ cyP) (wd05_82 a0 0 0 0 0 0 0) sz)) (va_Qv (fun (u : (Nat → Nat)) => Q ) (cB (dC, dI) (kT cyB cyI cyJ cyP) (va_A (wd05_82 a0 0 0 0 0 0 0) sz) (fun u : (Nat → Nat) => ((wd05_83 a0 (u 0) (u 1) (u 2) (u 3) (u 4) (u 5) 0 0 0 0 0 0 (u 0) cyI (fun _ => 0) (u 1) cyI (fun _ => 0) (u 2) cyI (fun _ => 0) (u 3) cyI (fun _ => 0) (u 4) cyI (fun _ => 0) (u 5) cyI (fun _ => 0)) : va_W))) (va_A (wd05_82 a0 0 0 0 0 0 0) sz)) 6 212 (va_A (wd05_82 a0 0 0 0 0 0 0) sz) := by
  refine Met.ofW (cc := cX9_init) (maxL := 1) (ret := none) (by decide) rfl ?_
  intro p e s m args below meth c s₁ B hml hv
  obtain ⟨rfl, hsz, hP, hK, hD0, hNw⟩ := hv
  have hx := B.exec
  have hb := B.bytes
  have hr := B.returns
  have hts := atoms_spec (ws := wsX9_init) B.pre
  have hown : s.vm.findClass RX9 = some m.cls := findClass_of_methodNamed B.named
  have hlocks := B.notSynchronized
  have hin : meth.name = "<init>" := (name_of_methodNamed B.named B.method).1
  subst hsz
  have hD := hD0.self (sz := s.heap.size)
  generalize hAe : va_A (wd05_82 a0 0 0 0 0 0 0) s.heap.size = A at hD ⊢
  have hA : ∀ q : Nat, s.heap.size ≤ q → A q := fun q h => by rw [← hAe]; exact Or.inr h
  have hS : va_S A s.heap s.heap [] := va_S.rf
  have hP : va_P (dC, dI) vwCl (wd05_82 a0 0 0 0 0 0 0) s.heap := hP
  have hl := lv_entry ([.ref a0]) (n := 1) (Nat.le_of_ble_eq_true rfl)
  rw [lg_entry_eq]
  generalize (lg_sl ([.ref a0]) ++ List.replicate (1 - (lg_sl ([.ref a0])).length) Slot.unset).toArray = ls at hl ⊢
  have hl : lv_has ls 1 [(0, .ref a0)] := hl
  clear hAe
  obtain ⟨H, hH⟩ : ∃ H, H = s.heap := ⟨_, rfl⟩
  rw [← hH] at hP ⊢
  have hS : va_S A s.heap H [] := by rw [hH]; exact va_S.rf
  refine lv_aload_n hx hb (dt_of tkX9_init_k0 0 rfl) rfl (lv_at hl 0 rfl) ?_
  refine W.objInit hx hb hown (hts _ uw_X9_init_m3) (hts _ uw_X9_init_imobj) (hts _ uw_X9_init_cobj) rfl (by rw [hml]; exact hl.1) rfl (dt_of tkX9_init_k0 1 rfl) (Nat.le_of_ble_eq_true rfl) (Nat.le_of_ble_eq_true rfl) ?_
  refine W.eq (g2 := F0 m 4 ls []) rfl ?_
  refine lv_aload_n hx hb (dt_of tkX9_init_k0 2 rfl) rfl (lv_at hl 0 rfl) ?_
  refine lv_bipush (v := 50) hx hb (dt_of tkX9_init_k0 3 rfl) (by decide) ?_
  refine va_newa (atype := .int) (ty := .int) (N' := 50) (a0 := (50, .inl (fun _ => 0))) hx hb (hts _ uw_X9_init_acint) rfl hK hP hD hS hA (fun _ => rfl) (by decide) (by decide) (by decide) (Nat.le_of_ble_eq_true rfl) (Nat.le_of_ble_eq_true rfl) dX9_init_7 (fun jbU cA9 H hK9 hP hD hS => ?_)
  obtain rfl := kT_int hK9
  have hP : va_P (dC, dI) vwCl (wd05_84 a0 0 0 0 0 0 0 jbU cyI (fun _ => 0)) H := hP
  have hD : va_D A (wd05_84 a0 0 0 0 0 0 0 jbU cyI (fun _ => 0)) := hD
  refine va_putF (D := (dC, dI)) (ci := 9) (v := .ref jbU) (ty := .array .int) (C := RX9) (T := TX9) (N := 12) hx hb hts ui_X9_init_X9 tyX9 tyX9_ok nmX9 hown hK hP hD hS 0 rfl rfl 0 (by decide) (hts _ uw_X9_init_f11) (fun _ h9 => h9) rfl hin rfl (by decide +kernel) rfl rfl (Nat.le_of_ble_eq_true rfl) (dt_of tkX9_init_k9 0 rfl) (fun H locs hP hD hS => ?_)
  have hP : va_P (dC, dI) vwCl (wd05_85 a0 jbU 0 0 0 0 0 0 jbU cyI (fun _ => 0)) H := hP
  have hD : va_D A (wd05_85 a0 jbU 0 0 0 0 0 0 jbU cyI (fun _ => 0)) := hD
  refine lv_aload_n hx hb (dt_of tkX9_init_k9 1 rfl) rfl (lv_at hl 0 rfl) ?_
  refine lv_bipush (v := 50) hx hb (dt_of tkX9_init_k9 2 rfl) (by decide) ?_
  refine va_newa (atype := .int) (ty := .int) (N' := 50) (a0 := (50, .inl (fun _ => 0))) hx hb (hts _ uw_X9_init_acint) rfl hK hP hD hS hA (fun _ => rfl) (by decide) (by decide) (by decide) (Nat.le_of_ble_eq_true rfl) (Nat.le_of_ble_eq_true rfl) dX9_init_15 (fun jgC cA9 H hK9 hP hD hS => ?_)
  obtain rfl := kT_int hK9
  have hP : va_P (dC, dI) vwCl (wd05_86 a0 jbU 0 0 0 0 0 0 jbU cyI (fun _ => 0) jgC cyI (fun _ => 0)) H := hP
  have hD : va_D A (wd05_86 a0 jbU 0 0 0 0 0 0 jbU cyI (fun _ => 0) jgC cyI (fun _ => 0)) := hD
  refine va_putF (D := (dC, dI)) (ci := 9) (v := .ref jgC) (ty := .array .int) (C := RX9) (T := TX9) (N := 12) hx hb hts ui_X9_init_X9 tyX9 tyX9_ok nmX9 hown hK hP hD hS 0 rfl rfl 1 (by decide) (hts _ uw_X9_init_f15) (fun _ h9 => h9) rfl hin rfl (by decide +kernel) rfl rfl (Nat.le_of_ble_eq_true rfl) (dt_of tkX9_init_k17 0 rfl) (fun H locs hP hD hS => ?_)
  have hP : va_P (dC, dI) vwCl (wd05_87 a0 jbU jgC 0 0 0 0 0 0 jbU cyI (fun _ => 0) jgC cyI (fun _ => 0)) H := hP
  have hD : va_D A (wd05_87 a0 jbU jgC 0 0 0 0 0 0 jbU cyI (fun _ => 0) jgC cyI (fun _ => 0)) := hD
  refine lv_aload_n hx hb (dt_of tkX9_init_k17 1 rfl) rfl (lv_at hl 0 rfl) ?_
  refine lv_bipush (v := 50) hx hb (dt_of tkX9_init_k17 2 rfl) (by decide) ?_
  refine va_newa (atype := .int) (ty := .int) (N' := 50) (a0 := (50, .inl (fun _ => 0))) hx hb (hts _ uw_X9_init_acint) rfl hK hP hD hS hA (fun _ => rfl) (by decide) (by decide) (by decide) (Nat.le_of_ble_eq_true rfl) (Nat.le_of_ble_eq_true rfl) dX9_init_23 (fun jgh cA9 H hK9 hP hD hS => ?_)
  obtain rfl := kT_int hK9
  have hP : va_P (dC, dI) vwCl (wd05_88 a0 jbU jgC 0 0 0 0 0 0 jbU cyI (fun _ => 0) jgC cyI (fun _ => 0) jgh cyI (fun _ => 0)) H := hP
  have hD : va_D A (wd05_88 a0 jbU jgC 0 0 0 0 0 0 jbU cyI (fun _ => 0) jgC cyI (fun _ => 0) jgh cyI (fun _ => 0)) := hD
  refine va_putF (D := (dC, dI)) (ci := 9) (v := .ref jgh) (ty := .array .int) (C := RX9) (T := TX9) (N := 12) hx hb hts ui_X9_init_X9 tyX9 tyX9_ok nmX9 hown hK hP hD hS 0 rfl rfl 2 (by decide) (hts _ uw_X9_init_f18) (fun _ h9 => h9) rfl hin rfl (by decide +kernel) rfl rfl (Nat.le_of_ble_eq_true rfl) (dt_of tkX9_init_k25 0 rfl) (fun H locs hP hD hS => ?_)
  have hP : va_P (dC, dI) vwCl (wd05_89 a0 jbU jgC jgh 0 0 0 0 0 0 jbU cyI (fun _ => 0) jgC cyI (fun _ => 0) jgh cyI (fun _ => 0)) H := hP
  have hD : va_D A (wd05_89 a0 jbU jgC jgh 0 0 0 0 0 0 jbU cyI (fun _ => 0) jgC cyI (fun _ => 0) jgh cyI (fun _ => 0)) := hD
  refine lv_aload_n hx hb (dt_of tkX9_init_k25 1 rfl) rfl (lv_at hl 0 rfl) ?_
  refine lv_bipush (v := 50) hx hb (dt_of tkX9_init_k25 2 rfl) (by decide) ?_
  refine va_newa (atype := .int) (ty := .int) (N' := 50) (a0 := (50, .inl (fun _ => 0))) hx hb (hts _ uw_X9_init_acint) rfl hK hP hD hS hA (fun _ => rfl) (by decide) (by decide) (by decide) (Nat.le_of_ble_eq_true rfl) (Nat.le_of_ble_eq_true rfl) dX9_init_31 (fun jho cA9 H hK9 hP hD hS => ?_)
  obtain rfl := kT_int hK9
  have hP : va_P (dC, dI) vwCl (wd05_90 a0 jbU jgC jgh 0 0 0 0 0 0 jbU cyI (fun _ => 0) jgC cyI (fun _ => 0) jgh cyI (fun _ => 0) jho cyI (fun _ => 0)) H := hP
  have hD : va_D A (wd05_90 a0 jbU jgC jgh 0 0 0 0 0 0 jbU cyI (fun _ => 0) jgC cyI (fun _ => 0) jgh cyI (fun _ => 0) jho cyI (fun _ => 0)) := hD
  refine va_putF (D := (dC, dI)) (ci := 9) (v := .ref jho) (ty := .array .int) (C := RX9) (T := TX9) (N := 12) hx hb hts ui_X9_init_X9 tyX9 tyX9_ok nmX9 hown hK hP hD hS 0 rfl rfl 3 (by decide) (hts _ uw_X9_init_f21) (fun _ h9 => h9) rfl hin rfl (by decide +kernel) rfl rfl (Nat.le_of_ble_eq_true rfl) (dt_of tkX9_init_k33 0 rfl) (fun H locs hP hD hS => ?_)
  have hP : va_P (dC, dI) vwCl (wd05_91 a0 jbU jgC jgh jho 0 0 0 0 0 0 jbU cyI (fun _ => 0) jgC cyI (fun _ => 0) jgh cyI (fun _ => 0) jho cyI (fun _ => 0)) H := hP
  have hD : va_D A (wd05_91 a0 jbU jgC jgh jho 0 0 0 0 0 0 jbU cyI (fun _ => 0) jgC cyI (fun _ => 0) jgh cyI (fun _ => 0) jho cyI (fun _ => 0)) := hD
  refine lv_aload_n hx hb (dt_of tkX9_init_k33 1 rfl) rfl (lv_at hl 0 rfl) ?_
  refine lv_bipush (v := 6) hx hb (dt_of tkX9_init_k33 2 rfl) (by decide) ?_
  refine va_newa (atype := .int) (ty := .int) (N' := 6) (a0 := (6, .inl (fun _ => 0))) hx hb (hts _ uw_X9_init_acint) rfl hK hP hD hS hA (fun _ => rfl) (by decide) (by decide) (by decide) (Nat.le_of_ble_eq_true rfl) (Nat.le_of_ble_eq_true rfl) dX9_init_39 (fun jju cA9 H hK9 hP hD hS => ?_)
  obtain rfl := kT_int hK9
  have hP : va_P (dC, dI) vwCl (wd05_92 a0 jbU jgC jgh jho 0 0 0 0 0 0 jbU cyI (fun _ => 0) jgC cyI (fun _ => 0) jgh cyI (fun _ => 0) jho cyI (fun _ => 0) jju cyI (fun _ => 0)) H := hP
  have hD : va_D A (wd05_92 a0 jbU jgC jgh jho 0 0 0 0 0 0 jbU cyI (fun _ => 0) jgC cyI (fun _ => 0) jgh cyI (fun _ => 0) jho cyI (fun _ => 0) jju cyI (fun _ => 0)) := hD
  refine va_putF (D := (dC, dI)) (ci := 9) (v := .ref jju) (ty := .array .int) (C := RX9) (T := TX9) (N := 12) hx hb hts ui_X9_init_X9 tyX9 tyX9_ok nmX9 hown hK hP hD hS 0 rfl rfl 4 (by decide) (hts _ uw_X9_init_f24) (fun _ h9 => h9) rfl hin rfl (by decide +kernel) rfl rfl (Nat.le_of_ble_eq_true rfl) (dt_of tkX9_init_k41 0 rfl) (fun H locs hP hD hS => ?_)
  have hP : va_P (dC, dI) vwCl (wd05_93 a0 jbU jgC jgh jho jju 0 0 0 0 0 0 jbU cyI (fun _ => 0) jgC cyI (fun _ => 0) jgh cyI (fun _ => 0) jho cyI (fun _ => 0) jju cyI (fun _ => 0)) H := hP
  have hD : va_D A (wd05_93 a0 jbU jgC jgh jho jju 0 0 0 0 0 0 jbU cyI (fun _ => 0) jgC cyI (fun _ => 0) jgh cyI (fun _ => 0) jho cyI (fun _ => 0) jju cyI (fun _ => 0)) := hD
  refine lv_aload_n hx hb (dt_of tkX9_init_k41 1 rfl) rfl (lv_at hl 0 rfl) ?_
  refine lv_bipush (v := 6) hx hb (dt_of tkX9_init_k41 2 rfl) (by decide) ?_
  refine va_newa (atype := .int) (ty := .int) (N' := 6) (a0 := (6, .inl (fun _ => 0))) hx hb (hts _ uw_X9_init_acint) rfl hK hP hD hS hA (fun _ => rfl) (by decide) (by decide) (by decide) (Nat.le_of_ble_eq_true rfl) (Nat.le_of_ble_eq_true rfl) dX9_init_47 (fun jlw cA9 H hK9 hP hD hS => ?_)
  obtain rfl := kT_int hK9
  have hP : va_P (dC, dI) vwCl (wd05_94 a0 jbU jgC jgh jho jju 0 0 0 0 0 0 jbU cyI (fun _ => 0) jgC cyI (fun _ => 0) jgh cyI (fun _ => 0) jho cyI (fun _ => 0) jju cyI (fun _ => 0) jlw cyI (fun _ => 0)) H := hP
  have hD : va_D A (wd05_94 a0 jbU jgC jgh jho jju 0 0 0 0 0 0 jbU cyI (fun _ => 0) jgC cyI (fun _ => 0) jgh cyI (fun _ => 0) jho cyI (fun _ => 0) jju cyI (fun _ => 0) jlw cyI (fun _ => 0)) := hD
  refine va_putF (D := (dC, dI)) (ci := 9) (v := .ref jlw) (ty := .array .int) (C := RX9) (T := TX9) (N := 12) hx hb hts ui_X9_init_X9 tyX9 tyX9_ok nmX9 hown hK hP hD hS 0 rfl rfl 5 (by decide) (hts _ uw_X9_init_f27) (fun _ h9 => h9) rfl hin rfl (by decide +kernel) rfl rfl (Nat.le_of_ble_eq_true rfl) (dt_of tkX9_init_k49 0 rfl) (fun H locs hP hD hS => ?_)
  have hP : va_P (dC, dI) vwCl (wd05_83 a0 jbU jgC jgh jho jju jlw 0 0 0 0 0 0 jbU cyI (fun _ => 0) jgC cyI (fun _ => 0) jgh cyI (fun _ => 0) jho cyI (fun _ => 0) jju cyI (fun _ => 0) jlw cyI (fun _ => 0)) H := hP
  have hD : va_D A (wd05_83 a0 jbU jgC jgh jho jju jlw 0 0 0 0 0 0 jbU cyI (fun _ => 0) jgC cyI (fun _ => 0) jgh cyI (fun _ => 0) jho cyI (fun _ => 0) jju cyI (fun _ => 0) jlw cyI (fun _ => 0)) := hD
  exact (W.widen (k := 6) (n := 212) (Nat.le_of_ble_eq_true rfl) (Nat.le_of_ble_eq_true rfl) (W.vret hx hb hr (fun t ht hW => ⟨⟨(adr [jbU, jgC, jgh, jho, jju, jlw]), rfl, hw, by rw [ht]; exact hP, va_K.moved hW.alike hK, hD⟩, hS.F ht⟩) hS.2.2 (dt_of tkX9_init_k49 1 rfl)))
theorem ui_X1_init_X1 : ∀ w ∈ u_ws RX1 TX1 4, w ∈ wsX1_init := uiM mbX1_init euX1 (by decide +kernel)
theorem uw_X1_init_acint : (.arrayClass .int : Cond) ∈ wsX1_init := mbX1_init 147 (by decide +kernel)
theorem uw_X1_init_cobj : (.code objectInit ⟨#[0xb1]⟩ 1 none : Cond) ∈ wsX1_init := mbX1_init 12 (by decide +kernel)
theorem uw_X1_init_f13 : (.fieldLink RX1 13 "MarchHares$Days" "row" "[I" : Cond) ∈ wsX1_init := mbX1_init 276 (by decide +kernel)
theorem uw_X1_init_f17 : (.fieldLink RX1 17 "MarchHares$Days" "owedEach" "[I" : Cond) ∈ wsX1_init := mbX1_init 277 (by decide +kernel)
theorem uw_X1_init_imobj : (.instanceMethod objectInit : Cond) ∈ wsX1_init := mbX1_init 11 (by decide +kernel)
theorem uw_X1_init_m7 : (.methodLink RX1 7 objectInit : Cond) ∈ wsX1_init := mbX1_init 275 (by decide +kernel)
set_option maxHeartbeats 4000000 in
set_option maxRecDepth 100000 in
theorem ck_X1_init (l : Launch) (dC : Nat → ClassId) (dI : Nat → Nat → Nat) (cyB cyI cyJ cyP : ClassId) (a0 a1 a2 jmO jnd jmh sz : Nat) (jov jow jlD jlE jlF jnY jlf jlG : Value) (jnS : Int32) (jnV joi jmW : Nat → Int32) {Q : (Nat → Int32) → Prop} (hw : wq_X1_init jnS jnV joi jmW Q) : Met l yX1_init wsX1_init ({ frames := 2, cells := 2, slots := 70, locals := 63 }) (va_Pc [.ref a0, .ref a1, .ref a2] (cPc (dC, dI) (kT cyB cyI cyJ cyP) (wd05_95 a0 a1 jov jow jlD jlE jnd jmh jmO jlF jnY jnS jlf jlG jmO cyI jnV jnd cyI joi jmh cyI jmW) sz)) (va_Qv (fun (u : (Nat → Nat) × (Nat → Int32)) => Q u.2) (cB (dC, dI) (kT cyB cyI cyJ cyP) (va_A (wd05_95 a0 a1 jov jow jlD jlE jnd jmh jmO jlF jnY jnS jlf jlG jmO cyI jnV jnd cyI joi jmh cyI jmW) sz) (fun u : (Nat → Nat) × (Nat → Int32) => ((wd05_96 a0 (u.1 0) (u.1 1) a1 a2 a1 jov jow jlD jlE jnd jmh jmO jlF jnY jnS jlf jlG jmO cyI jnV jnd cyI joi jmh cyI jmW (u.1 0) cyI u.2 (u.1 1) cyI (fun _ => 0)) : va_W))) (va_A (wd05_95 a0 a1 jov jow jlD jlE jnd jmh jmO jlF jnY jnS jlf jlG jmO cyI jnV jnd cyI joi jmh cyI jmW) sz)) 2 70 (va_A (wd05_95 a0 a1 jov jow jlD jlE jnd jmh jmO jlF jnY jnS jlf jlG jmO cyI jnV jnd cyI joi jmh cyI jmW) sz) := by
  refine Met.ofW (cc := cX1_init) (maxL := 3) (ret := none) (by decide) rfl ?_
  intro p e s m args below meth c s₁ B hml hv
  obtain ⟨rfl, hsz, hP, hK, hD0, hNw⟩ := hv
  have hx := B.exec
  have hb := B.bytes
  have hr := B.returns
  have hts := atoms_spec (ws := wsX1_init) B.pre
  have hown : s.vm.findClass RX1 = some m.cls := findClass_of_methodNamed B.named
  have hlocks := B.notSynchronized
  have hin : meth.name = "<init>" := (name_of_methodNamed B.named B.method).1
  subst hsz
  have hD := hD0.self (sz := s.heap.size)
  generalize hAe : va_A (wd05_95 a0 a1 jov jow jlD jlE jnd jmh jmO jlF jnY jnS jlf jlG jmO cyI jnV jnd cyI joi jmh cyI jmW) s.heap.size = A at hD ⊢
  have hA : ∀ q : Nat, s.heap.size ≤ q → A q := fun q h => by rw [← hAe]; exact Or.inr h
  have hS : va_S A s.heap s.heap [] := va_S.rf
  have hP : va_P (dC, dI) vwCl (wd05_95 a0 a1 jov jow jlD jlE jnd jmh jmO jlF jnY jnS jlf jlG jmO cyI jnV jnd cyI joi jmh cyI jmW) s.heap := hP
  have hl := lv_entry ([.ref a0, .ref a1, .ref a2]) (n := 3) (Nat.le_of_ble_eq_true rfl)
  rw [lg_entry_eq]
  generalize (lg_sl ([.ref a0, .ref a1, .ref a2]) ++ List.replicate (3 - (lg_sl ([.ref a0, .ref a1, .ref a2])).length) Slot.unset).toArray = ls at hl ⊢
  have hl : lv_has ls 3 [(0, .ref a0), (1, .ref a1), (2, .ref a2)] := hl
  clear hAe
  obtain ⟨H, hH⟩ : ∃ H, H = s.heap := ⟨_, rfl⟩
  rw [← hH] at hP ⊢
  have hS : va_S A s.heap H [] := by rw [hH]; exact va_S.rf
  refine lv_aload_n hx hb (dt_of tkX1_init_k0 0 rfl) rfl (lv_at hl 0 rfl) ?_
  refine W.objInit hx hb hown (hts _ uw_X1_init_m7) (hts _ uw_X1_init_imobj) (hts _ uw_X1_init_cobj) rfl (by rw [hml]; exact hl.1) rfl (dt_of tkX1_init_k0 1 rfl) (Nat.le_of_ble_eq_true rfl) (Nat.le_of_ble_eq_true rfl) ?_
  refine W.eq (g2 := F0 m 4 ls []) rfl ?_
  refine lv_aload_n hx hb (dt_of tkX1_init_k0 2 rfl) rfl (lv_at hl 0 rfl) ?_
  refine lv_bipush (v := 64) hx hb (dt_of tkX1_init_k0 3 rfl) (by decide) ?_
  refine va_newa (atype := .int) (ty := .int) (N' := 64) (a0 := (64, .inl (fun _ => 0))) hx hb (hts _ uw_X1_init_acint) rfl hK hP hD hS hA (fun _ => rfl) (by decide) (by decide) (by decide) (Nat.le_of_ble_eq_true rfl) (Nat.le_of_ble_eq_true rfl) dX1_init_7 (fun jch cA9 H hK9 hP hD hS => ?_)
  obtain rfl := kT_int hK9
  have hP : va_P (dC, dI) vwCl (wd05_97 a0 a1 jov jow jlD jlE jnd jmh jmO jlF jnY jnS jlf jlG jmO cyI jnV jnd cyI joi jmh cyI jmW jch cyI (fun _ => 0)) H := hP
  have hD : va_D A (wd05_97 a0 a1 jov jow jlD jlE jnd jmh jmO jlF jnY jnS jlf jlG jmO cyI jnV jnd cyI joi jmh cyI jmW jch cyI (fun _ => 0)) := hD
  refine va_putF (D := (dC, dI)) (ci := 1) (v := .ref jch) (ty := .array .int) (C := RX1) (T := TX1) (N := 4) hx hb hts ui_X1_init_X1 tyX1 tyX1_ok nmX1 hown hK hP hD hS 0 rfl rfl 0 (by decide) (hts _ uw_X1_init_f13) (fun _ h9 => h9) rfl hin rfl (by decide +kernel) rfl rfl (Nat.le_of_ble_eq_true rfl) (dt_of tkX1_init_k9 0 rfl) (fun H locs hP hD hS => ?_)
  have hP : va_P (dC, dI) vwCl (wd05_98 a0 jch a1 jov jow jlD jlE jnd jmh jmO jlF jnY jnS jlf jlG jmO cyI jnV jnd cyI joi jmh cyI jmW jch cyI (fun _ => 0)) H := hP
  have hD : va_D A (wd05_98 a0 jch a1 jov jow jlD jlE jnd jmh jmO jlF jnY jnS jlf jlG jmO cyI jnV jnd cyI joi jmh cyI jmW jch cyI (fun _ => 0)) := hD
  refine lv_aload_n hx hb (dt_of tkX1_init_k9 1 rfl) rfl (lv_at hl 0 rfl) ?_
  refine lv_bipush (v := 6) hx hb (dt_of tkX1_init_k9 2 rfl) (by decide) ?_
  refine va_newa (atype := .int) (ty := .int) (N' := 6) (a0 := (6, .inl (fun _ => 0))) hx hb (hts _ uw_X1_init_acint) rfl hK hP hD hS hA (fun _ => rfl) (by decide) (by decide) (by decide) (Nat.le_of_ble_eq_true rfl) (Nat.le_of_ble_eq_true rfl) dX1_init_15 (fun jlN cA9 H hK9 hP hD hS => ?_)
  obtain rfl := kT_int hK9
  have hP : va_P (dC, dI) vwCl (wd05_99 a0 jch a1 jov jow jlD jlE jnd jmh jmO jlF jnY jnS jlf jlG jmO cyI jnV jnd cyI joi jmh cyI jmW jch cyI (fun _ => 0) jlN cyI (fun _ => 0)) H := hP
  have hD : va_D A (wd05_99 a0 jch a1 jov jow jlD jlE jnd jmh jmO jlF jnY jnS jlf jlG jmO cyI jnV jnd cyI joi jmh cyI jmW jch cyI (fun _ => 0) jlN cyI (fun _ => 0)) := hD
  refine va_putF (D := (dC, dI)) (ci := 1) (v := .ref jlN) (ty := .array .int) (C := RX1) (T := TX1) (N := 4) hx hb hts ui_X1_init_X1 tyX1 tyX1_ok nmX1 hown hK hP hD hS 0 rfl rfl 1 (by decide) (hts _ uw_X1_init_f17) (fun _ h9 => h9) rfl hin rfl (by decide +kernel) rfl rfl (Nat.le_of_ble_eq_true rfl) (dt_of tkX1_init_k17 0 rfl) (fun H locs hP hD hS => ?_)
  have hP : va_P (dC, dI) vwCl (wd05_100 a0 jch jlN a1 jov jow jlD jlE jnd jmh jmO jlF jnY jnS jlf jlG jmO cyI jnV jnd cyI joi jmh cyI jmW jch cyI (fun _ => 0) jlN cyI (fun _ => 0)) H := hP
  have hD : va_D A (wd05_100 a0 jch jlN a1 jov jow jlD jlE jnd jmh jmO jlF jnY jnS jlf jlG jmO cyI jnV jnd cyI joi jmh cyI jmW jch cyI (fun _ => 0) jlN cyI (fun _ => 0)) := hD
  refine lv_aload_n hx hb (dt_of tkX1_init_k17 1 rfl) rfl (lv_at hl 0 rfl) ?_
  refine lv_aload_n hx hb (dt_of tkX1_init_k17 2 rfl) rfl (lv_at hl 1 rfl) ?_
  refine lv_aload_n hx hb (dt_of tkX1_init_k17 3 rfl) rfl (lv_at hl 2 rfl) ?_
  obtain ⟨hCc, hPc, hDc, hFc⟩ := va_pick (ws' := (wd05_101 a0 jch jlN jch cyI (fun _ => 0) a1 jov jow jlD jlE jnd jmh jmO jlF jnY jnS jlf jlG jmO cyI jnV jnd cyI joi jmh cyI jmW)) hP hD hS hA [0, 5, 1, 2, 3, 4] (by decide +kernel) rfl
  refine va_callv (va_runV (As := [.ref a1, .ref a2]) (rest := []) ⟨hx, hb, hml, hown, hts⟩ (ck_X1_begin l dC dI cyB cyI cyJ cyP a0 a1 a2 jch jmO jnd jmh H.size (.ref jlN) (.null) (.null) (jov) (jow) (jlD) (jlE) (jlF) (jnY) (jlf) (jlG) jnS jnV joi jmW (fun _ => 0)  hw) (cwV 2 hts gX1_init_X1_begin rfl rfl rfl (by decide +kernel) ⟨Nat.le_of_ble_eq_true rfl, Nat.le_of_ble_eq_true rfl⟩) ⟨cPc_blind, va_recv (q := (RX1, TX1, 4)) hK hPc (ci := 1) (q0 := 0) rfl rfl, cPc_pre hPc hK hDc hNw⟩ rfl rfl hl.1 rfl (lv_room (Nat.le_of_ble_eq_true rfl)) (dt_of tkX1_init_k17 4 rfl) ⟨Nat.le_of_ble_eq_true rfl, Nat.le_of_ble_eq_true rfl⟩) hS (fun q _ h => hFc q h) hFc (fun u t H1 locs ht hvm hw hB hz1 hk1 hS => ?_)
  obtain ⟨f1, rfl⟩ : ∃ z, z = u := ⟨_, rfl⟩
  obtain ⟨hP1, hK1, hD1⟩ := hB
  rw [ht] at hP1
  obtain ⟨hP, hD⟩ := va_joinN (wr := (wd05_10 jlN cyI (fun _ => 0))) (w1 := [(a0, .inr (1, [.ref jch, .ref jlN, .ref a1, .ref a2])), (jch, .inl (cyI, 64, .inl f1)), (a1, .inr (2, [jov, jow, jlD, jlE, .ref jnd, .ref jmh, .ref jmO, jlF, jnY, .int jnS, jlf, jlG])), (jmO, .inl (cyI, 36, .inl jnV)), (jnd, .inl (cyI, 6, .inl joi)), (jmh, .inl (cyI, 6, .inl jmW))]) (wn := (wd05_96 a0 jch jlN a1 a2 a1 jov jow jlD jlE jnd jmh jmO jlF jnY jnS jlf jlG jmO cyI jnV jnd cyI joi jmh cyI jmW jch cyI f1 jlN cyI (fun _ => 0))) hP hD [0, 5, 1, 2, 3, 4] [6] [1, 3, 4, 5, 6, 2, 0] hCc rfl (by decide +kernel) (by decide +kernel) (by decide +kernel) rfl hk1 hFc hP1 hD1
  generalize H1 = H at hP hS ⊢
  exact (W.widen (k := 2) (n := 70) (Nat.le_of_ble_eq_true rfl) (Nat.le_of_ble_eq_true rfl) (W.vret hx hb hr (fun t ht hW => ⟨⟨((adr [jch, jlN]), f1), rfl, hw, by rw [ht]; exact hP, va_K.moved hW.alike hK, hD⟩, hS.F ht⟩) hS.2.2 (dt_of tkX1_init_k17 5 rfl)))
