/-- worlds by their leaves -/
def wd01_0 (x0 : Nat) (x1 : Value) (x2 : Nat) (x3 x4 x5 x6 x7 x8 : Value) (x9 : Nat) (x10 x11 x12 x13 x14 x15 x16 x17 : Value) (x18 : Int32) (x19 : Value) (x20 : Nat) (x21 x22 x23 x24 x25 x26 x27 x28 x29 : Value) (x30 : Int32) (x31 x32 : Value) (x33 x34 : Nat) (x35 : Value) (x36 : Nat) (x37 : Value) (x38 : Nat) (x39 : ClassId) (x40 : Nat → Int32) : va_W := [(x0, .inr (10, [x1, .ref x2, x3, x4, x5, x6, x7, x8, .ref x9, x10, x11, x12, x13, x14, x15, x16, x17, .int x18, x19])), (x20, .inr (2, [x21, x22, x23, x24, x25, x26, x27, x28, x29, .int x30, x31, x32])), (x33, .inr (1, [.ref x34, x35, .ref x36, x37])), (x38, .inl (x39, 64, .inl x40))]
def wd01_1 (x0 x1 : Nat) (x2 : Value) (x3 : Nat) (x4 : Value) (x5 : Nat) (x6 : ClassId) (x7 : Nat → Int32) : va_W := [(x0, .inr (1, [.ref x1, x2, .ref x3, x4])), (x5, .inl (x6, 64, .inl x7))]
def wd01_2 (x0 : Nat) (x1 : Value) (x2 : Nat) (x3 x4 x5 x6 x7 x8 : Value) (x9 : Nat) (x10 x11 x12 x13 x14 x15 x16 x17 : Value) (x18 : Int32) (x19 : Value) (x20 : Nat) (x21 x22 x23 x24 x25 x26 x27 x28 x29 : Value) (x30 : Int32) (x31 x32 : Value) : va_W := [(x0, .inr (10, [x1, .ref x2, x3, x4, x5, x6, x7, x8, .ref x9, x10, x11, x12, x13, x14, x15, x16, x17, .int x18, x19])), (x20, .inr (2, [x21, x22, x23, x24, x25, x26, x27, x28, x29, .int x30, x31, x32]))]
def wd01_3 (x0 x1 : Nat) (x2 : Value) (x3 : Nat) (x4 : Value) (x5 : Nat) (x6 x7 x8 x9 x10 x11 x12 x13 x14 : Value) (x15 : Int32) (x16 x17 : Value) (x18 : Nat) (x19 : ClassId) (x20 : Nat → Int32) : va_W := [(x0, .inr (1, [.ref x1, x2, .ref x3, x4])), (x5, .inr (2, [x6, x7, x8, x9, x10, x11, x12, x13, x14, .int x15, x16, x17])), (x18, .inl (x19, 64, .inl x20))]
def wd01_4 (x0 : Nat) (x1 : Value) (x2 : Nat) (x3 x4 x5 x6 x7 x8 : Value) (x9 : Nat) (x10 x11 x12 x13 x14 x15 x16 x17 : Value) (x18 : Int32) (x19 : Value) : va_W := [(x0, .inr (10, [x1, .ref x2, x3, x4, x5, x6, x7, x8, .ref x9, x10, x11, x12, x13, x14, x15, x16, x17, .int x18, x19]))]
def wd01_5 (x0 : Nat) (x1 : Value) (x2 : Nat) (x3 x4 x5 x6 x7 x8 : Value) (x9 : Nat) (x10 x11 x12 x13 x14 x15 x16 x17 : Value) (x18 : Int32) (x19 : Value) (x20 : Nat) (x21 x22 x23 x24 x25 x26 x27 x28 x29 : Value) (x30 : Int32) (x31 x32 : Value) (x33 x34 : Nat) (x35 : Value) (x36 : Nat) (x37 : Value) (x38 : Nat) (x39 : ClassId) (x40 : Nat → Int32) (x41 : Nat) (x42 : ClassId) (x43 : Nat) (x44 : Nat → Int64) : va_W := [(x0, .inr (10, [x1, .ref x2, x3, x4, x5, x6, x7, x8, .ref x9, x10, x11, x12, x13, x14, x15, x16, x17, .int x18, x19])), (x20, .inr (2, [x21, x22, x23, x24, x25, x26, x27, x28, x29, .int x30, x31, x32])), (x33, .inr (1, [.ref x34, x35, .ref x36, x37])), (x38, .inl (x39, 64, .inl x40)), (x41, .inl (x42, x43, .inr (.inl x44)))]
def wd01_6 (x0 : Nat) (x1 : Value) (x2 : Nat) (x3 x4 x5 x6 x7 x8 x9 x10 x11 x12 x13 x14 x15 x16 x17 : Value) (x18 : Int32) (x19 : Value) (x20 : Nat) (x21 x22 x23 x24 x25 x26 x27 x28 : Value) (x29 : Int32) (x30 x31 x32 : Value) : va_W := [(x0, .inr (10, [x1, .ref x2, x3, x4, x5, x6, x7, x8, x9, x10, x11, x12, x13, x14, x15, x16, x17, .int x18, x19])), (x20, .inr (2, [x21, x22, x23, x24, x25, x26, x27, x28, .int x29, x30, x31, x32]))]
def wd01_7 (x0 x1 x2 : Nat) (x3 x4 x5 x6 x7 x8 x9 x10 x11 x12 : Value) (x13 : Nat) (x14 : ClassId) (x15 : Nat → Int32) (x16 : Nat) (x17 : ClassId) (x18 : Nat → Int32) : va_W := [(x0, .inr (2, [.ref x1, .ref x2, x3, x4, x5, x6, x7, x8, x9, x10, x11, x12])), (x13, .inl (x14, 8, .inl x15)), (x16, .inl (x17, 8, .inl x18))]
def wd01_8 (x0 : Nat) (x1 x2 x3 x4 x5 x6 x7 x8 x9 : Value) (x10 : Int32) (x11 x12 : Value) : va_W := [(x0, .inr (2, [x1, x2, x3, x4, x5, x6, x7, x8, x9, .int x10, x11, x12]))]
def wd01_9 (x0 : Nat) (x1 x2 x3 : Value) (x4 : Nat) (x5 : Value) (x6 : Nat) (x7 : ClassId) (x8 : Nat → Int32) : va_W := [(x0, .inr (4, [x1, x2, x3, .ref x4, x5])), (x6, .inl (x7, 8, .inl x8))]
def wd01_10 (x0 x1 : Nat) (x2 x3 x4 : Value) (x5 : Nat) (x6 : ClassId) (x7 : Nat → Int32) : va_W := [(x0, .inr (1, [.ref x1, x2, x3, x4])), (x5, .inl (x6, 64, .inl x7))]
def wd01_11 (x0 x1 x2 x3 x4 : Nat) (x5 : Int32) (x6 : Nat) (x7 : ClassId) (x8 : Nat → Int32) (x9 : Nat) (x10 : ClassId) (x11 : Nat → Int32) (x12 : Nat) (x13 : ClassId) (x14 : Nat → Int32) (x15 : Nat) (x16 : ClassId) (x17 : Nat → Int32) : va_W := [(x0, .inr (4, [.ref x1, .ref x2, .ref x3, .ref x4, .int x5])), (x6, .inl (x7, 150, .inl x8)), (x9, .inl (x10, 150, .inl x11)), (x12, .inl (x13, 150, .inl x14)), (x15, .inl (x16, 8, .inl x17))]
def wd01_12 (x0 x1 : Nat) (x2 : Value) (x3 x4 x5 : Nat) (x6 : ClassId) (x7 : Nat → Int32) (x8 : Nat) (x9 x10 x11 x12 x13 x14 x15 x16 x17 : Value) (x18 : Int32) (x19 x20 : Value) (x21 x22 x23 x24 x25 : Nat) (x26 : Int32) (x27 : Nat) (x28 : ClassId) (x29 : Nat → Int32) (x30 : Nat) (x31 : ClassId) (x32 : Nat → Int32) (x33 : Nat) (x34 : ClassId) (x35 : Nat → Int32) (x36 : Nat) (x37 : ClassId) (x38 : Nat → Int32) : va_W := [(x0, .inr (1, [.ref x1, x2, .ref x3, .ref x4])), (x5, .inl (x6, 64, .inl x7)), (x8, .inr (2, [x9, x10, x11, x12, x13, x14, x15, x16, x17, .int x18, x19, x20])), (x21, .inr (4, [.ref x22, .ref x23, .ref x24, .ref x25, .int x26])), (x27, .inl (x28, 8, .inl x29)), (x30, .inl (x31, 150, .inl x32)), (x33, .inl (x34, 150, .inl x35)), (x36, .inl (x37, 150, .inl x38))]
def wd01_13 (x0 x1 : Nat) (x2 : Value) (x3 x4 x5 : Nat) (x6 : ClassId) (x7 : Nat → Int32) : va_W := [(x0, .inr (1, [.ref x1, x2, .ref x3, .ref x4])), (x5, .inl (x6, 64, .inl x7))]
def wd01_14 (x0 : Nat) (x1 x2 x3 x4 x5 x6 x7 x8 x9 : Value) (x10 : Int32) (x11 x12 : Value) (x13 x14 x15 x16 x17 : Nat) (x18 : Int32) (x19 : Nat) (x20 : ClassId) (x21 : Nat → Int32) (x22 : Nat) (x23 : ClassId) (x24 : Nat → Int32) (x25 : Nat) (x26 : ClassId) (x27 : Nat → Int32) (x28 : Nat) (x29 : ClassId) (x30 : Nat → Int32) : va_W := [(x0, .inr (2, [x1, x2, x3, x4, x5, x6, x7, x8, x9, .int x10, x11, x12])), (x13, .inr (4, [.ref x14, .ref x15, .ref x16, .ref x17, .int x18])), (x19, .inl (x20, 8, .inl x21)), (x22, .inl (x23, 150, .inl x24)), (x25, .inl (x26, 150, .inl x27)), (x28, .inl (x29, 150, .inl x30))]
def wd01_15 (x0 x1 : Nat) (x2 : Value) (x3 x4 x5 : Nat) (x6 x7 x8 x9 x10 x11 x12 x13 x14 : Value) (x15 : Int32) (x16 x17 : Value) (x18 : Nat) (x19 : ClassId) (x20 : Nat → Int32) : va_W := [(x0, .inr (1, [.ref x1, x2, .ref x3, .ref x4])), (x5, .inr (2, [x6, x7, x8, x9, x10, x11, x12, x13, x14, .int x15, x16, x17])), (x18, .inl (x19, 64, .inl x20))]
def wd01_16 (x0 x1 x2 x3 x4 : Nat) (x5 : Int32) (x6 : Nat) (x7 : ClassId) (x8 : Nat → Int32) (x9 : Nat) (x10 : ClassId) (x11 : Nat → Int32) (x12 : Nat) (x13 : ClassId) (x14 : Nat → Int32) (x15 : Nat) (x16 : ClassId) (x17 : Nat → Int32) : va_W := [(x0, .inr (4, [.ref x1, .ref x2, .ref x3, .ref x4, .int x5])), (x6, .inl (x7, 8, .inl x8)), (x9, .inl (x10, 150, .inl x11)), (x12, .inl (x13, 150, .inl x14)), (x15, .inl (x16, 150, .inl x17))]
def wd01_17 (x0 x1 x2 x3 x4 : Nat) (x5 : Int32) (x6 : Nat) (x7 : ClassId) (x8 : Nat → Int32) : va_W := [(x0, .inr (4, [.ref x1, .ref x2, .ref x3, .ref x4, .int x5])), (x6, .inl (x7, 8, .inl x8))]
def wd01_18 (x0 x1 : Nat) (x2 : Value) (x3 x4 x5 : Nat) (x6 : ClassId) (x7 : Nat → Int32) (x8 : Nat) (x9 x10 x11 x12 x13 x14 x15 x16 x17 : Value) (x18 : Int32) (x19 x20 : Value) (x21 : Nat) (x22 : ClassId) (x23 : Nat → Int32) (x24 : Nat) (x25 : ClassId) (x26 : Nat → Int32) (x27 : Nat) (x28 : ClassId) (x29 : Nat → Int32) : va_W := [(x0, .inr (1, [.ref x1, x2, .ref x3, .ref x4])), (x5, .inl (x6, 64, .inl x7)), (x8, .inr (2, [x9, x10, x11, x12, x13, x14, x15, x16, x17, .int x18, x19, x20])), (x21, .inl (x22, 150, .inl x23)), (x24, .inl (x25, 150, .inl x26)), (x27, .inl (x28, 150, .inl x29))]
def wd01_19 (x0 x1 : Nat) (x2 : Value) (x3 x4 x5 : Nat) (x6 : ClassId) (x7 : Nat → Int32) (x8 x9 x10 : Nat) (x11 x12 x13 x14 x15 x16 x17 : Value) (x18 : Int32) (x19 x20 : Value) (x21 : Nat) (x22 : ClassId) (x23 : Nat → Int32) (x24 : Nat) (x25 : ClassId) (x26 : Nat → Int32) (x27 x28 x29 x30 x31 : Nat) (x32 : Int32) (x33 : Nat) (x34 : ClassId) (x35 : Nat → Int32) (x36 : Nat) (x37 : ClassId) (x38 : Nat → Int32) (x39 : Nat) (x40 : ClassId) (x41 : Nat → Int32) (x42 : Nat) (x43 : ClassId) (x44 : Nat → Int32) : va_W := [(x0, .inr (1, [.ref x1, x2, .ref x3, .ref x4])), (x5, .inl (x6, 64, .inl x7)), (x8, .inr (2, [.ref x9, .ref x10, x11, x12, x13, x14, x15, x16, x17, .int x18, x19, x20])), (x21, .inl (x22, 8, .inl x23)), (x24, .inl (x25, 8, .inl x26)), (x27, .inr (4, [.ref x28, .ref x29, .ref x30, .ref x31, .int x32])), (x33, .inl (x34, 8, .inl x35)), (x36, .inl (x37, 150, .inl x38)), (x39, .inl (x40, 150, .inl x41)), (x42, .inl (x43, 150, .inl x44))]
def wd01_20 (x0 x1 x2 : Nat) (x3 x4 x5 x6 x7 x8 x9 : Value) (x10 : Int32) (x11 x12 : Value) (x13 : Nat) (x14 : ClassId) (x15 : Nat → Int32) (x16 : Nat) (x17 : ClassId) (x18 : Nat → Int32) (x19 x20 x21 x22 x23 : Nat) (x24 : Int32) (x25 : Nat) (x26 : ClassId) (x27 : Nat → Int32) (x28 : Nat) (x29 : ClassId) (x30 : Nat → Int32) (x31 : Nat) (x32 : ClassId) (x33 : Nat → Int32) (x34 : Nat) (x35 : ClassId) (x36 : Nat → Int32) : va_W := [(x0, .inr (2, [.ref x1, .ref x2, x3, x4, x5, x6, x7, x8, x9, .int x10, x11, x12])), (x13, .inl (x14, 8, .inl x15)), (x16, .inl (x17, 8, .inl x18)), (x19, .inr (4, [.ref x20, .ref x21, .ref x22, .ref x23, .int x24])), (x25, .inl (x26, 8, .inl x27)), (x28, .inl (x29, 150, .inl x30)), (x31, .inl (x32, 150, .inl x33)), (x34, .inl (x35, 150, .inl x36))]
def wd01_21 (x0 x1 x2 : Nat) (x3 x4 x5 x6 x7 x8 x9 : Value) (x10 : Int32) (x11 x12 : Value) (x13 : Nat) (x14 : ClassId) (x15 : Nat → Int32) (x16 : Nat) (x17 : ClassId) (x18 : Nat → Int32) : va_W := [(x0, .inr (2, [.ref x1, .ref x2, x3, x4, x5, x6, x7, x8, x9, .int x10, x11, x12])), (x13, .inl (x14, 8, .inl x15)), (x16, .inl (x17, 8, .inl x18))]
def wd01_22 (x0 x1 : Nat) (x2 : Value) (x3 x4 x5 : Nat) (x6 : ClassId) (x7 : Nat → Int32) (x8 x9 x10 : Nat) (x11 x12 x13 x14 x15 x16 x17 : Value) (x18 : Int32) (x19 x20 : Value) (x21 x22 x23 x24 x25 : Nat) (x26 : Int32) (x27 : Nat) (x28 : ClassId) (x29 : Nat → Int32) (x30 : Nat) (x31 : ClassId) (x32 : Nat → Int32) (x33 : Nat) (x34 : ClassId) (x35 : Nat → Int32) (x36 : Nat) (x37 : ClassId) (x38 : Nat → Int32) : va_W := [(x0, .inr (1, [.ref x1, x2, .ref x3, .ref x4])), (x5, .inl (x6, 64, .inl x7)), (x8, .inr (2, [.ref x9, .ref x10, x11, x12, x13, x14, x15, x16, x17, .int x18, x19, x20])), (x21, .inr (4, [.ref x22, .ref x23, .ref x24, .ref x25, .int x26])), (x27, .inl (x28, 8, .inl x29)), (x30, .inl (x31, 150, .inl x32)), (x33, .inl (x34, 150, .inl x35)), (x36, .inl (x37, 150, .inl x38))]
def wd01_23 (x0 : Nat) (x1 : Value) (x2 : Nat) (x3 x4 x5 x6 x7 x8 : Value) (x9 : Nat) (x10 x11 x12 x13 x14 x15 x16 x17 : Value) (x18 : Int32) (x19 : Value) (x20 x21 x22 : Nat) (x23 x24 x25 x26 x27 x28 : Value) (x29 x30 : Int32) (x31 x32 : Value) (x33 x34 : Nat) (x35 : Value) (x36 x37 x38 : Nat) (x39 : ClassId) (x40 : Nat → Int32) (x41 : Nat) (x42 : ClassId) (x43 : Nat → Int32) (x44 : Nat) (x45 : ClassId) (x46 : Nat → Int32) (x47 x48 x49 x50 x51 : Nat) (x52 : Int32) (x53 : Nat) (x54 : ClassId) (x55 : Nat → Int32) (x56 : Nat) (x57 : ClassId) (x58 : Nat → Int32) (x59 : Nat) (x60 : ClassId) (x61 : Nat → Int32) (x62 : Nat) (x63 : ClassId) (x64 : Nat → Int32) : va_W := [(x0, .inr (10, [x1, .ref x2, x3, x4, x5, x6, x7, x8, .ref x9, x10, x11, x12, x13, x14, x15, x16, x17, .int x18, x19])), (x20, .inr (2, [.ref x21, .ref x22, x23, x24, x25, x26, x27, x28, .int x29, .int x30, x31, x32])), (x33, .inr (1, [.ref x34, x35, .ref x36, .ref x37])), (x38, .inl (x39, 64, .inl x40)), (x41, .inl (x42, 8, .inl x43)), (x44, .inl (x45, 8, .inl x46)), (x47, .inr (4, [.ref x48, .ref x49, .ref x50, .ref x51, .int x52])), (x53, .inl (x54, 8, .inl x55)), (x56, .inl (x57, 150, .inl x58)), (x59, .inl (x60, 150, .inl x61)), (x62, .inl (x63, 150, .inl x64))]
def wd01_24 (x0 : Nat) (x1 : Value) (x2 : Nat) (x3 x4 x5 x6 x7 x8 : Value) (x9 : Nat) (x10 x11 x12 x13 x14 x15 x16 x17 : Value) (x18 : Int32) (x19 : Value) (x20 x21 x22 : Nat) (x23 x24 x25 x26 x27 x28 : Value) (x29 x30 : Int32) (x31 x32 : Value) : va_W := [(x0, .inr (10, [x1, .ref x2, x3, x4, x5, x6, x7, x8, .ref x9, x10, x11, x12, x13, x14, x15, x16, x17, .int x18, x19])), (x20, .inr (2, [.ref x21, .ref x22, x23, x24, x25, x26, x27, x28, .int x29, .int x30, x31, x32]))]
def wd01_25 (x0 x1 : Nat) (x2 : Value) (x3 x4 x5 : Nat) (x6 : ClassId) (x7 : Nat → Int32) (x8 : Nat) (x9 : ClassId) (x10 : Nat → Int32) (x11 : Nat) (x12 : ClassId) (x13 : Nat → Int32) (x14 x15 x16 x17 x18 : Nat) (x19 : Int32) (x20 : Nat) (x21 : ClassId) (x22 : Nat → Int32) (x23 : Nat) (x24 : ClassId) (x25 : Nat → Int32) (x26 : Nat) (x27 : ClassId) (x28 : Nat → Int32) (x29 : Nat) (x30 : ClassId) (x31 : Nat → Int32) : va_W := [(x0, .inr (1, [.ref x1, x2, .ref x3, .ref x4])), (x5, .inl (x6, 64, .inl x7)), (x8, .inl (x9, 8, .inl x10)), (x11, .inl (x12, 8, .inl x13)), (x14, .inr (4, [.ref x15, .ref x16, .ref x17, .ref x18, .int x19])), (x20, .inl (x21, 8, .inl x22)), (x23, .inl (x24, 150, .inl x25)), (x26, .inl (x27, 150, .inl x28)), (x29, .inl (x30, 150, .inl x31))]
def wd01_26 (x0 x1 : Nat) (x2 : Value) (x3 x4 x5 : Nat) (x6 : ClassId) (x7 : Nat → Int32) (x8 x9 x10 : Nat) (x11 x12 x13 x14 x15 x16 : Value) (x17 x18 : Int32) (x19 x20 : Value) (x21 : Nat) (x22 : ClassId) (x23 : Nat → Int32) (x24 : Nat) (x25 : ClassId) (x26 : Nat → Int32) (x27 x28 x29 x30 x31 : Nat) (x32 : Int32) (x33 : Nat) (x34 : ClassId) (x35 : Nat → Int32) (x36 : Nat) (x37 : ClassId) (x38 : Nat → Int32) (x39 : Nat) (x40 : ClassId) (x41 : Nat → Int32) (x42 : Nat) (x43 : ClassId) (x44 : Nat → Int32) : va_W := [(x0, .inr (1, [.ref x1, x2, .ref x3, .ref x4])), (x5, .inl (x6, 64, .inl x7)), (x8, .inr (2, [.ref x9, .ref x10, x11, x12, x13, x14, x15, x16, .int x17, .int x18, x19, x20])), (x21, .inl (x22, 8, .inl x23)), (x24, .inl (x25, 8, .inl x26)), (x27, .inr (4, [.ref x28, .ref x29, .ref x30, .ref x31, .int x32])), (x33, .inl (x34, 8, .inl x35)), (x36, .inl (x37, 150, .inl x38)), (x39, .inl (x40, 150, .inl x41)), (x42, .inl (x43, 150, .inl x44))]
def wd01_27 (x0 : Nat) (x1 : Value) (x2 : Nat) (x3 : Value) (x4 : Nat) (x5 x6 x7 x8 : Value) (x9 : Nat) (x10 x11 x12 x13 x14 x15 x16 x17 : Value) (x18 : Int32) (x19 : Value) (x20 x21 x22 : Nat) (x23 x24 x25 x26 x27 x28 : Value) (x29 x30 : Int32) (x31 x32 : Value) (x33 x34 : Nat) (x35 : Value) (x36 x37 x38 : Nat) (x39 : ClassId) (x40 : Nat → Int32) (x41 : Nat) (x42 : ClassId) (x43 : Nat → Int32) (x44 : Nat) (x45 : ClassId) (x46 : Nat → Int32) (x47 x48 x49 x50 x51 : Nat) (x52 : Int32) (x53 : Nat) (x54 : ClassId) (x55 : Nat → Int32) (x56 : Nat) (x57 : ClassId) (x58 : Nat → Int32) (x59 : Nat) (x60 : ClassId) (x61 : Nat → Int32) (x62 : Nat) (x63 : ClassId) (x64 : Nat → Int32) (x65 : Nat) (x66 : ClassId) (x67 : Nat) (x68 : Nat → Int64) : va_W := [(x0, .inr (10, [x1, .ref x2, x3, .ref x4, x5, x6, x7, x8, .ref x9, x10, x11, x12, x13, x14, x15, x16, x17, .int x18, x19])), (x20, .inr (2, [.ref x21, .ref x22, x23, x24, x25, x26, x27, x28, .int x29, .int x30, x31, x32])), (x33, .inr (1, [.ref x34, x35, .ref x36, .ref x37])), (x38, .inl (x39, 64, .inl x40)), (x41, .inl (x42, 8, .inl x43)), (x44, .inl (x45, 8, .inl x46)), (x47, .inr (4, [.ref x48, .ref x49, .ref x50, .ref x51, .int x52])), (x53, .inl (x54, 8, .inl x55)), (x56, .inl (x57, 150, .inl x58)), (x59, .inl (x60, 150, .inl x61)), (x62, .inl (x63, 150, .inl x64)), (x65, .inl (x66, x67, .inr (.inl x68)))]
def wd01_28 (x0 : Nat) (x1 : Value) (x2 : Nat) (x3 : Value) (x4 : Nat) (x5 x6 x7 x8 : Value) (x9 : Nat) (x10 x11 x12 x13 x14 x15 x16 x17 : Value) (x18 : Int32) (x19 : Value) (x20 x21 x22 : Nat) (x23 x24 x25 x26 x27 x28 : Value) (x29 x30 : Int32) (x31 x32 : Value) (x33 x34 : Nat) (x35 : Value) (x36 x37 x38 : Nat) (x39 : ClassId) (x40 : Nat → Int32) (x41 : Nat) (x42 : ClassId) (x43 : Nat → Int32) (x44 : Nat) (x45 : ClassId) (x46 : Nat → Int32) (x47 x48 x49 x50 x51 : Nat) (x52 : Int32) (x53 : Nat) (x54 : ClassId) (x55 : Nat → Int32) (x56 : Nat) (x57 : ClassId) (x58 : Nat → Int32) (x59 : Nat) (x60 : ClassId) (x61 : Nat → Int32) (x62 : Nat) (x63 : ClassId) (x64 : Nat → Int32) : va_W := [(x0, .inr (10, [x1, .ref x2, x3, .ref x4, x5, x6, x7, x8, .ref x9, x10, x11, x12, x13, x14, x15, x16, x17, .int x18, x19])), (x20, .inr (2, [.ref x21, .ref x22, x23, x24, x25, x26, x27, x28, .int x29, .int x30, x31, x32])), (x33, .inr (1, [.ref x34, x35, .ref x36, .ref x37])), (x38, .inl (x39, 64, .inl x40)), (x41, .inl (x42, 8, .inl x43)), (x44, .inl (x45, 8, .inl x46)), (x47, .inr (4, [.ref x48, .ref x49, .ref x50, .ref x51, .int x52])), (x53, .inl (x54, 8, .inl x55)), (x56, .inl (x57, 150, .inl x58)), (x59, .inl (x60, 150, .inl x61)), (x62, .inl (x63, 150, .inl x64))]
def wd01_29 (x0 : Nat) (x1 : Value) (x2 x3 : Nat) (x4 : Value) (x5 : Nat) (x6 x7 x8 x9 x10 x11 x12 x13 x14 : Value) (x15 : Int32) (x16 x17 : Value) (x18 : Nat) (x19 : ClassId) (x20 : Nat → Int32) : va_W := [(x0, .inr (1, [x1, .ref x2, .ref x3, x4])), (x5, .inr (2, [x6, x7, x8, x9, x10, x11, x12, x13, x14, .int x15, x16, x17])), (x18, .inl (x19, 6, .inl x20))]
def wd01_30 (x0 x1 x2 x3 : Nat) (x4 : Value) (x5 : Nat) (x6 x7 x8 x9 x10 x11 x12 x13 x14 : Value) (x15 : Int32) (x16 x17 : Value) (x18 : Nat) (x19 : ClassId) (x20 : Nat → Int32) (x21 : Nat) (x22 : ClassId) (x23 : Nat → Int32) : va_W := [(x0, .inr (1, [.ref x1, .ref x2, .ref x3, x4])), (x5, .inr (2, [x6, x7, x8, x9, x10, x11, x12, x13, x14, .int x15, x16, x17])), (x18, .inl (x19, 64, .inl x20)), (x21, .inl (x22, 6, .inl x23))]
def wd01_31 (x0 x1 x2 x3 : Nat) (x4 : Value) (x5 : Nat) (x6 x7 x8 x9 x10 x11 x12 x13 x14 : Value) (x15 : Int32) (x16 x17 : Value) (x18 : Nat) (x19 : ClassId) (x20 : Nat → Int32) : va_W := [(x0, .inr (1, [.ref x1, .ref x2, .ref x3, x4])), (x5, .inr (2, [x6, x7, x8, x9, x10, x11, x12, x13, x14, .int x15, x16, x17])), (x18, .inl (x19, 6, .inl x20))]
def wd01_32 (x0 x1 x2 x3 : Nat) (x4 : Value) (x5 : Nat) (x6 x7 x8 x9 x10 x11 x12 x13 x14 : Value) (x15 : Int32) (x16 x17 : Value) (x18 : Nat) (x19 : ClassId) (x20 : Nat → Int32) : va_W := [(x0, .inr (1, [.ref x1, .ref x2, .ref x3, x4])), (x5, .inr (2, [x6, x7, x8, x9, x10, x11, x12, x13, x14, .int x15, x16, x17])), (x18, .inl (x19, 64, .inl x20))]
def wd01_33 (x0 : Nat) (x1 : Value) (x2 : Nat) (x3 x4 x5 x6 x7 x8 : Value) (x9 : Nat) (x10 x11 x12 x13 x14 x15 x16 x17 : Value) (x18 x19 : Int32) (x20 : Nat) (x21 x22 x23 x24 x25 x26 x27 x28 x29 : Value) (x30 : Int32) (x31 x32 : Value) (x33 x34 x35 x36 : Nat) (x37 : Value) (x38 : Nat) (x39 : ClassId) (x40 : Nat → Int32) (x41 : Nat) (x42 : ClassId) (x43 : Nat → Int32) : va_W := [(x0, .inr (10, [x1, .ref x2, x3, x4, x5, x6, x7, x8, .ref x9, x10, x11, x12, x13, x14, x15, x16, x17, .int x18, .int x19])), (x20, .inr (2, [x21, x22, x23, x24, x25, x26, x27, x28, x29, .int x30, x31, x32])), (x33, .inr (1, [.ref x34, .ref x35, .ref x36, x37])), (x38, .inl (x39, 64, .inl x40)), (x41, .inl (x42, 6, .inl x43))]
def wd01_34 (x0 : Nat) (x1 : Value) (x2 : Nat) (x3 x4 x5 x6 x7 x8 : Value) (x9 : Nat) (x10 x11 x12 x13 x14 x15 x16 x17 : Value) (x18 x19 : Int32) (x20 : Nat) (x21 x22 x23 x24 x25 x26 x27 x28 x29 : Value) (x30 : Int32) (x31 x32 : Value) : va_W := [(x0, .inr (10, [x1, .ref x2, x3, x4, x5, x6, x7, x8, .ref x9, x10, x11, x12, x13, x14, x15, x16, x17, .int x18, .int x19])), (x20, .inr (2, [x21, x22, x23, x24, x25, x26, x27, x28, x29, .int x30, x31, x32]))]
def wd01_35 (x0 x1 x2 x3 : Nat) (x4 : Value) (x5 : Nat) (x6 : ClassId) (x7 : Nat → Int32) (x8 : Nat) (x9 : ClassId) (x10 : Nat → Int32) : va_W := [(x0, .inr (1, [.ref x1, .ref x2, .ref x3, x4])), (x5, .inl (x6, 64, .inl x7)), (x8, .inl (x9, 6, .inl x10))]
def wd01_36 (x0 : Nat) (x1 : Value) (x2 : Nat) (x3 x4 x5 x6 x7 x8 : Value) (x9 : Nat) (x10 x11 x12 x13 x14 x15 x16 x17 : Value) (x18 x19 : Int32) : va_W := [(x0, .inr (10, [x1, .ref x2, x3, x4, x5, x6, x7, x8, .ref x9, x10, x11, x12, x13, x14, x15, x16, x17, .int x18, .int x19]))]
def wd01_37 (x0 : Nat) (x1 x2 x3 x4 x5 x6 x7 x8 x9 : Value) (x10 : Int32) (x11 x12 : Value) (x13 x14 x15 x16 : Nat) (x17 : Value) (x18 : Nat) (x19 : ClassId) (x20 : Nat → Int32) (x21 : Nat) (x22 : ClassId) (x23 : Nat → Int32) : va_W := [(x0, .inr (2, [x1, x2, x3, x4, x5, x6, x7, x8, x9, .int x10, x11, x12])), (x13, .inr (1, [.ref x14, .ref x15, .ref x16, x17])), (x18, .inl (x19, 64, .inl x20)), (x21, .inl (x22, 6, .inl x23))]
def wd01_38 (x0 : Nat) (x1 : Value) (x2 : Nat) (x3 x4 x5 x6 x7 x8 : Value) (x9 : Nat) (x10 x11 x12 x13 x14 x15 x16 x17 : Value) (x18 x19 : Int32) (x20 : Nat) (x21 x22 x23 x24 x25 x26 x27 x28 x29 : Value) (x30 : Int32) (x31 x32 : Value) (x33 x34 x35 x36 : Nat) (x37 : Value) (x38 : Nat) (x39 : ClassId) (x40 : Nat → Int32) (x41 : Nat) (x42 : ClassId) (x43 : Nat → Int32) (x44 : Nat) (x45 : ClassId) (x46 : Nat) (x47 : Nat → Int64) : va_W := [(x0, .inr (10, [x1, .ref x2, x3, x4, x5, x6, x7, x8, .ref x9, x10, x11, x12, x13, x14, x15, x16, x17, .int x18, .int x19])), (x20, .inr (2, [x21, x22, x23, x24, x25, x26, x27, x28, x29, .int x30, x31, x32])), (x33, .inr (1, [.ref x34, .ref x35, .ref x36, x37])), (x38, .inl (x39, 64, .inl x40)), (x41, .inl (x42, 6, .inl x43)), (x44, .inl (x45, x46, .inr (.inl x47)))]
def wd01_39 (x0 : Nat) (x1 : Value) (x2 : Nat) (x3 x4 x5 x6 x7 x8 : Value) (x9 : Nat) (x10 x11 x12 x13 x14 x15 x16 x17 : Value) (x18 : Int32) (x19 : Value) (x20 : Nat) (x21 x22 x23 x24 x25 x26 x27 x28 x29 : Value) (x30 : Int32) (x31 x32 : Value) (x33 x34 : Nat) (x35 x36 x37 : Value) (x38 : Nat) (x39 : ClassId) (x40 : Nat → Int32) : va_W := [(x0, .inr (10, [x1, .ref x2, x3, x4, x5, x6, x7, x8, .ref x9, x10, x11, x12, x13, x14, x15, x16, x17, .int x18, x19])), (x20, .inr (2, [x21, x22, x23, x24, x25, x26, x27, x28, x29, .int x30, x31, x32])), (x33, .inr (1, [.ref x34, x35, x36, x37])), (x38, .inl (x39, 64, .inl x40))]
def wd01_40 (x0 : Nat) (x1 : Value) (x2 : Nat) (x3 x4 x5 x6 x7 x8 : Value) (x9 : Nat) (x10 x11 x12 x13 x14 x15 x16 x17 : Value) (x18 : Int32) (x19 : Value) (x20 : Nat) (x21 x22 x23 x24 x25 x26 x27 x28 x29 : Value) (x30 : Int32) (x31 x32 : Value) (x33 x34 : Nat) (x35 x36 x37 : Value) (x38 : Nat) (x39 : ClassId) (x40 : Nat → Int32) (x41 : Nat) (x42 : ClassId) (x43 : Nat) (x44 : Nat → Int64) : va_W := [(x0, .inr (10, [x1, .ref x2, x3, x4, x5, x6, x7, x8, .ref x9, x10, x11, x12, x13, x14, x15, x16, x17, .int x18, x19])), (x20, .inr (2, [x21, x22, x23, x24, x25, x26, x27, x28, x29, .int x30, x31, x32])), (x33, .inr (1, [.ref x34, x35, x36, x37])), (x38, .inl (x39, 64, .inl x40)), (x41, .inl (x42, x43, .inr (.inl x44)))]
def wd01_41 (x0 x1 : Nat) (x2 : Int32) (x3 x4 x5 x6 x7 : Value) (x8 : Nat) (x9 : ClassId) (x10 : Nat → Int32) : va_W := [(x0, .inr (8, [.ref x1, .int x2, x3, x4, x5, x6, x7])), (x8, .inl (x9, 600, .inl x10))]
def wd01_42 (x0 x1 x2 : Nat) (x3 x4 x5 x6 x7 x8 : Value) (x9 : Int32) (x10 x11 x12 : Value) (x13 x14 : Nat) (x15 x16 x17 : Int32) (x18 : Value) (x19 x20 : Int32) (x21 : Nat) (x22 : ClassId) (x23 : Nat → Int32) (x24 : Nat) (x25 : ClassId) (x26 : Nat → Int32) (x27 : Nat) (x28 : ClassId) (x29 : Nat → Int32) : va_W := [(x0, .inr (2, [.ref x1, .ref x2, x3, x4, x5, x6, x7, x8, .int x9, x10, x11, x12])), (x13, .inr (8, [.ref x14, .int x15, .int x16, .int x17, x18, .int x19, .int x20])), (x21, .inl (x22, 600, .inl x23)), (x24, .inl (x25, 8, .inl x26)), (x27, .inl (x28, 8, .inl x29))]
def wd01_43 (x0 x1 : Nat) (x2 x3 x4 : Int32) (x5 : Value) (x6 x7 : Int32) : va_W := [(x0, .inr (8, [.ref x1, .int x2, .int x3, .int x4, x5, .int x6, .int x7]))]
def wd01_44 (x0 x1 : Nat) (x2 x3 x4 : Int32) (x5 : Value) (x6 x7 : Int32) (x8 : Nat) (x9 : ClassId) (x10 : Nat → Int32) : va_W := [(x0, .inr (8, [.ref x1, .int x2, .int x3, .int x4, x5, .int x6, .int x7])), (x8, .inl (x9, 600, .inl x10))]
def wd01_45 (x0 x1 x2 : Nat) (x3 x4 x5 x6 x7 x8 : Value) (x9 : Int32) (x10 x11 x12 : Value) (x13 : Nat) (x14 : ClassId) (x15 : Nat → Int32) (x16 : Nat) (x17 : ClassId) (x18 : Nat → Int32) : va_W := [(x0, .inr (2, [.ref x1, .ref x2, x3, x4, x5, x6, x7, x8, .int x9, x10, x11, x12])), (x13, .inl (x14, 8, .inl x15)), (x16, .inl (x17, 8, .inl x18))]
def wd01_46 (x0 : Nat) (x1 x2 x3 x4 : Value) (x5 x6 : Nat) (x7 x8 : Value) (x9 x10 : Int32) (x11 x12 : Value) (x13 x14 : Nat) (x15 x16 x17 : Int32) (x18 : Value) (x19 x20 : Int32) (x21 : Nat) (x22 : ClassId) (x23 : Nat → Int32) (x24 : Nat) (x25 : ClassId) (x26 : Nat → Int32) (x27 : Nat) (x28 : ClassId) (x29 : Nat → Int32) : va_W := [(x0, .inr (2, [x1, x2, x3, x4, .ref x5, .ref x6, x7, x8, .int x9, .int x10, x11, x12])), (x13, .inr (8, [.ref x14, .int x15, .int x16, .int x17, x18, .int x19, .int x20])), (x21, .inl (x22, 600, .inl x23)), (x24, .inl (x25, 6, .inl x26)), (x27, .inl (x28, 6, .inl x29))]
def wd01_47 (x0 : Nat) (x1 x2 x3 x4 : Value) (x5 x6 : Nat) (x7 x8 : Value) (x9 x10 : Int32) (x11 x12 : Value) (x13 : Nat) (x14 : ClassId) (x15 : Nat → Int32) (x16 : Nat) (x17 : ClassId) (x18 : Nat → Int32) : va_W := [(x0, .inr (2, [x1, x2, x3, x4, .ref x5, .ref x6, x7, x8, .int x9, .int x10, x11, x12])), (x13, .inl (x14, 6, .inl x15)), (x16, .inl (x17, 6, .inl x18))]
def wd01_48 (x0 : Nat) (x1 x2 : Value) (x3 x4 : Nat) (x5 x6 x7 x8 x9 x10 : Value) (x11 : Int32) (x12 : Value) (x13 x14 : Nat) (x15 x16 x17 : Int32) (x18 : Value) (x19 x20 : Int32) (x21 : Nat) (x22 : ClassId) (x23 : Nat → Int32) (x24 : Nat) (x25 : ClassId) (x26 : Nat → Int32) (x27 : Nat) (x28 : ClassId) (x29 : Nat → Int32) : va_W := [(x0, .inr (2, [x1, x2, .ref x3, .ref x4, x5, x6, x7, x8, x9, x10, .int x11, x12])), (x13, .inr (8, [.ref x14, .int x15, .int x16, .int x17, x18, .int x19, .int x20])), (x21, .inl (x22, 600, .inl x23)), (x24, .inl (x25, 4, .inl x26)), (x27, .inl (x28, 4, .inl x29))]
def wd01_49 (x0 : Nat) (x1 x2 : Value) (x3 x4 : Nat) (x5 x6 x7 x8 x9 x10 : Value) (x11 : Int32) (x12 : Value) (x13 : Nat) (x14 : ClassId) (x15 : Nat → Int32) (x16 : Nat) (x17 : ClassId) (x18 : Nat → Int32) : va_W := [(x0, .inr (2, [x1, x2, .ref x3, .ref x4, x5, x6, x7, x8, x9, x10, .int x11, x12])), (x13, .inl (x14, 4, .inl x15)), (x16, .inl (x17, 4, .inl x18))]
def wd01_50 (x0 : Nat) (x1 x2 x3 x4 x5 x6 : Value) (x7 : Nat) (x8 x9 : Value) (x10 : Int32) (x11 x12 : Value) (x13 x14 : Nat) (x15 x16 x17 : Int32) (x18 : Value) (x19 x20 : Int32) (x21 : Nat) (x22 : ClassId) (x23 : Nat → Int32) (x24 : Nat) (x25 : ClassId) (x26 : Nat → Int32) : va_W := [(x0, .inr (2, [x1, x2, x3, x4, x5, x6, .ref x7, x8, x9, .int x10, x11, x12])), (x13, .inr (8, [.ref x14, .int x15, .int x16, .int x17, x18, .int x19, .int x20])), (x21, .inl (x22, 600, .inl x23)), (x24, .inl (x25, 36, .inl x26))]
def wd01_51 (x0 : Nat) (x1 x2 x3 x4 x5 x6 : Value) (x7 : Nat) (x8 x9 : Value) (x10 : Int32) (x11 x12 : Value) (x13 : Nat) (x14 : ClassId) (x15 : Nat → Int32) : va_W := [(x0, .inr (2, [x1, x2, x3, x4, x5, x6, .ref x7, x8, x9, .int x10, x11, x12])), (x13, .inl (x14, 36, .inl x15))]
def wd01_52 (x0 : Nat) (x1 x2 x3 x4 x5 x6 : Value) (x7 : Nat) (x8 x9 : Value) (x10 : Int32) (x11 x12 : Value) (x13 : Nat) (x14 : ClassId) (x15 : Nat → Int32) (x16 : Nat) (x17 : ClassId) (x18 : Nat → Int32) : va_W := [(x0, .inr (2, [x1, x2, x3, x4, x5, x6, .ref x7, x8, x9, .int x10, x11, x12])), (x13, .inl (x14, 600, .inl x15)), (x16, .inl (x17, 36, .inl x18))]
def wd01_53 (x0 x1 x2 x3 x4 : Nat) (x5 x6 x7 x8 x9 x10 : Value) (x11 : Int32) (x12 : Value) (x13 : Nat) (x14 : ClassId) (x15 : Nat → Int32) (x16 : Nat) (x17 : ClassId) (x18 : Nat → Int32) (x19 : Nat) (x20 : ClassId) (x21 : Nat → Int32) (x22 : Nat) (x23 : ClassId) (x24 : Nat → Int32) : va_W := [(x0, .inr (2, [.ref x1, .ref x2, .ref x3, .ref x4, x5, x6, x7, x8, x9, x10, .int x11, x12])), (x13, .inl (x14, 8, .inl x15)), (x16, .inl (x17, 4, .inl x18)), (x19, .inl (x20, 8, .inl x21)), (x22, .inl (x23, 4, .inl x24))]
def wd01_54 (x0 x1 x2 x3 x4 : Nat) (x5 x6 x7 x8 : Value) (x9 : Int32) (x10 : Value) (x11 x12 : Int32) (x13 : Nat) (x14 : ClassId) (x15 : Nat → Int32) (x16 : Nat) (x17 : ClassId) (x18 : Nat → Int32) (x19 : Nat) (x20 : ClassId) (x21 : Nat → Int32) (x22 : Nat) (x23 : ClassId) (x24 : Nat → Int32) : va_W := [(x0, .inr (2, [.ref x1, .ref x2, .ref x3, .ref x4, x5, x6, x7, x8, .int x9, x10, .int x11, .int x12])), (x13, .inl (x14, 8, .inl x15)), (x16, .inl (x17, 4, .inl x18)), (x19, .inl (x20, 8, .inl x21)), (x22, .inl (x23, 4, .inl x24))]
def wd01_55 (x0 x1 x2 : Nat) (x3 x4 : Value) (x5 : Int32) (x6 : Nat) (x7 : ClassId) (x8 : Nat → Int32) (x9 : Nat) (x10 : ClassId) (x11 : Nat → Int32) : va_W := [(x0, .inr (4, [.ref x1, .ref x2, x3, x4, .int x5])), (x6, .inl (x7, 150, .inl x8)), (x9, .inl (x10, 150, .inl x11))]
def wd01_56 (x0 x1 : Nat) (x2 : Value) (x3 x4 x5 : Nat) (x6 : ClassId) (x7 : Nat → Int32) (x8 : Nat) (x9 x10 x11 x12 : Value) (x13 x14 x15 : Nat) (x16 x17 : Value) (x18 : Int32) (x19 x20 : Value) (x21 : Nat) (x22 : ClassId) (x23 : Nat → Int32) (x24 : Nat) (x25 : ClassId) (x26 : Nat → Int32) (x27 : Nat) (x28 : ClassId) (x29 : Nat → Int32) : va_W := [(x0, .inr (1, [.ref x1, x2, .ref x3, .ref x4])), (x5, .inl (x6, 64, .inl x7)), (x8, .inr (2, [x9, x10, x11, x12, .ref x13, .ref x14, .ref x15, x16, x17, .int x18, x19, x20])), (x21, .inl (x22, 36, .inl x23)), (x24, .inl (x25, 6, .inl x26)), (x27, .inl (x28, 6, .inl x29))]
def wd01_57 (x0 x1 : Nat) (x2 x3 x4 : Value) (x5 : Nat) (x6 : ClassId) (x7 : Nat → Int32) (x8 : Nat) (x9 x10 x11 x12 : Value) (x13 x14 x15 : Nat) (x16 x17 : Value) (x18 : Int32) (x19 x20 : Value) (x21 : Nat) (x22 : ClassId) (x23 : Nat → Int32) (x24 : Nat) (x25 : ClassId) (x26 : Nat → Int32) (x27 : Nat) (x28 : ClassId) (x29 : Nat → Int32) : va_W := [(x0, .inr (1, [.ref x1, x2, x3, x4])), (x5, .inl (x6, 64, .inl x7)), (x8, .inr (2, [x9, x10, x11, x12, .ref x13, .ref x14, .ref x15, x16, x17, .int x18, x19, x20])), (x21, .inl (x22, 36, .inl x23)), (x24, .inl (x25, 6, .inl x26)), (x27, .inl (x28, 6, .inl x29))]
def wd01_58 (x0 x1 : Nat) (x2 : Value) (x3 : Nat) (x4 : Value) (x5 : Nat) (x6 : ClassId) (x7 : Nat → Int32) (x8 : Nat) (x9 x10 x11 x12 : Value) (x13 x14 x15 : Nat) (x16 x17 : Value) (x18 : Int32) (x19 x20 : Value) (x21 : Nat) (x22 : ClassId) (x23 : Nat → Int32) (x24 : Nat) (x25 : ClassId) (x26 : Nat → Int32) (x27 : Nat) (x28 : ClassId) (x29 : Nat → Int32) : va_W := [(x0, .inr (1, [.ref x1, x2, .ref x3, x4])), (x5, .inl (x6, 64, .inl x7)), (x8, .inr (2, [x9, x10, x11, x12, .ref x13, .ref x14, .ref x15, x16, x17, .int x18, x19, x20])), (x21, .inl (x22, 36, .inl x23)), (x24, .inl (x25, 6, .inl x26)), (x27, .inl (x28, 6, .inl x29))]
theorem ui_X10_bouts_X10 : ∀ w ∈ u_ws RX10 TX10 19, w ∈ wsX10_bouts := uiM mbX10_bouts euX10 (by decide +kernel)
theorem ui_X10_bouts_X2 : ∀ w ∈ u_ws RX2 TX2 12, w ∈ wsX10_bouts := uiM mbX10_bouts euX2 (by decide +kernel)
theorem uw_X10_bouts_f141 : (.fieldLink RX10 141 "MarchHares$Down" "hares" "I" : Cond) ∈ wsX10_bouts := mbX10_bouts 644 (by decide +kernel)
theorem uw_X10_bouts_f19 : (.fieldLink RX10 19 "MarchHares" "ground" "LMarchHares$Down;" : Cond) ∈ wsX10_bouts := mbX10_bouts 20 (by decide +kernel)
theorem uw_X10_bouts_f58 : (.fieldLink RX10 58 "MarchHares" "now" "LMarchHares$Days;" : Cond) ∈ wsX10_bouts := mbX10_bouts 79 (by decide +kernel)
set_option maxHeartbeats 4000000 in
set_option maxRecDepth 100000 in
theorem kb_X10_bouts_80 {p : Program} {l : Launch} {e : Env} {s : State} {m : MethodId} {args : Array Value} {below : List Frame} {meth : Method} {c : Code} {A : Nat → Prop} (dC : Nat → ClassId) (dI : Nat → Nat → Nat) (cyB cyI cyJ cyP : ClassId) (a0 a0_ground a0_now a0_now_row : Nat) (z0_tape : Value) (z0_spareGround : Value) (z0_rule : Value) (z0_spareRule : Value) (z0_lines : Value) (z0_spareLines : Value) (z0_steps : Value) (z0_trial : Value) (z0_past : Value) (z0_images : Value) (z0_round : Value) (z0_seating : Value) (z0_fitting : Value) (z0_imagesKept : Value) (z0_refusedSteps : Value) (z0_callsIllegal : Value) (z0_ground_formX : Value) (z0_ground_formY : Value) (z0_ground_foxX : Value) (z0_ground_foxY : Value) (z0_ground_seat : Value) (z0_ground_strength : Value) (z0_ground_debts : Value) (z0_ground_near : Value) (z0_ground_forms : Value) (z0_ground_foxes : Value) (z0_ground_safe : Value) (z0_now_owedEach : Value) (z0_now_law : Value) (v0_ground_hares : Int32) (f0_now_row : Nat → Int32) (E : String → Int32 → Prop) (Q : Int32 → Int32 → Prop) (K31 : Int32 → Int32 → Int32 → Int32 → Int32 → Prop) (hK31 : ∀ (H : Heap) (locs : List Loc) (ls : Array Slot) (v0_callsNoSuch : Int32) (l1 : Int32) (l2 : Int32) (l3 : Int32) (l4 : Int32), va_P (dC, dI) vwCl (wd01_0 a0 z0_tape a0_ground z0_spareGround z0_rule z0_spareRule z0_lines z0_spareLines z0_steps a0_now z0_trial z0_past z0_images z0_round z0_seating z0_fitting z0_imagesKept z0_refusedSteps v0_callsNoSuch z0_callsIllegal a0_ground z0_ground_formX z0_ground_formY z0_ground_foxX z0_ground_foxY z0_ground_seat z0_ground_strength z0_ground_debts z0_ground_near z0_ground_forms v0_ground_hares z0_ground_foxes z0_ground_safe a0_now a0_now_row z0_now_owedEach a0_ground z0_now_law a0_now_row cyI f0_now_row) H → va_D A (wd01_0 a0 z0_tape a0_ground z0_spareGround z0_rule z0_spareRule z0_lines z0_spareLines z0_steps a0_now z0_trial z0_past z0_images z0_round z0_seating z0_fitting z0_imagesKept z0_refusedSteps v0_callsNoSuch z0_callsIllegal a0_ground z0_ground_formX z0_ground_formY z0_ground_foxX z0_ground_foxY z0_ground_seat z0_ground_strength z0_ground_debts z0_ground_near z0_ground_forms v0_ground_hares z0_ground_foxes z0_ground_safe a0_now a0_now_row z0_now_owedEach a0_ground z0_now_law a0_now_row cyI f0_now_row) → va_S A s.heap H locs → lv_has ls 5 [(0, .ref a0), (1, .int l1), (2, .int l2), (3, .int l3), (4, .int l4)] → K31 v0_callsNoSuch l1 l2 l3 l4 → W p l e (headSpec wsX10_bouts ({ frames := 7, cells := 1, slots := 6, locals := 212 })).room s m args below meth c H locs 1 6 (vx_MQ below (va_Qi (fun (r : Int32) (u : Int32) => Q r u) (cB (dC, dI) (kT cyB cyI cyJ cyP) A (fun u : Int32 => ((wd01_0 a0 z0_tape a0_ground z0_spareGround z0_rule z0_spareRule z0_lines z0_spareLines z0_steps a0_now z0_trial z0_past z0_images z0_round z0_seating z0_fitting z0_imagesKept z0_refusedSteps u z0_callsIllegal a0_ground z0_ground_formX z0_ground_formY z0_ground_foxX z0_ground_foxY z0_ground_seat z0_ground_strength z0_ground_debts z0_ground_near z0_ground_forms v0_ground_hares z0_ground_foxes z0_ground_safe a0_now a0_now_row z0_now_owedEach a0_ground z0_now_law a0_now_row cyI f0_now_row) : va_W))) A) (vx_X (fun _ => True) (fun (en : String) (u : Int32) (t : State) => E en u ∧ cB (dC, dI) (kT cyB cyI cyJ cyP) A (fun u : Int32 => ((wd01_0 a0 z0_tape a0_ground z0_spareGround z0_rule z0_spareRule z0_lines z0_spareLines z0_steps a0_now z0_trial z0_past z0_images z0_round z0_seating z0_fitting z0_imagesKept z0_refusedSteps u z0_callsIllegal a0_ground z0_ground_formX z0_ground_formY z0_ground_foxX z0_ground_foxY z0_ground_seat z0_ground_strength z0_ground_debts z0_ground_near z0_ground_forms v0_ground_hares z0_ground_foxes z0_ground_safe a0_now a0_now_row z0_now_owedEach a0_ground z0_now_law a0_now_row cyI f0_now_row) : va_W)) u t) A) args s 1 6 A) (F0 m 31 ls [])) (C0 : cfx p s m args meth c cX10_bouts (some .int) wsX10_bouts RX10 5 A (dC, dI) (kT cyB cyI cyJ cyP) ∧ cfX l s c A) : ∀ (H : Heap) (locs : List Loc) (ls : Array Slot) (v0_callsNoSuch : Int32) (l1 : Int32) (l2 : Int32) (l3 : Int32) (l4 : Int32), va_P (dC, dI) vwCl (wd01_0 a0 z0_tape a0_ground z0_spareGround z0_rule z0_spareRule z0_lines z0_spareLines z0_steps a0_now z0_trial z0_past z0_images z0_round z0_seating z0_fitting z0_imagesKept z0_refusedSteps v0_callsNoSuch z0_callsIllegal a0_ground z0_ground_formX z0_ground_formY z0_ground_foxX z0_ground_foxY z0_ground_seat z0_ground_strength z0_ground_debts z0_ground_near z0_ground_forms v0_ground_hares z0_ground_foxes z0_ground_safe a0_now a0_now_row z0_now_owedEach a0_ground z0_now_law a0_now_row cyI f0_now_row) H → va_D A (wd01_0 a0 z0_tape a0_ground z0_spareGround z0_rule z0_spareRule z0_lines z0_spareLines z0_steps a0_now z0_trial z0_past z0_images z0_round z0_seating z0_fitting z0_imagesKept z0_refusedSteps v0_callsNoSuch z0_callsIllegal a0_ground z0_ground_formX z0_ground_formY z0_ground_foxX z0_ground_foxY z0_ground_seat z0_ground_strength z0_ground_debts z0_ground_near z0_ground_forms v0_ground_hares z0_ground_foxes z0_ground_safe a0_now a0_now_row z0_now_owedEach a0_ground z0_now_law a0_now_row cyI f0_now_row) → va_S A s.heap H locs → lv_has ls 5 [(0, .ref a0), (1, .int l1), (2, .int l2), (3, .int l3), (4, .int l4)] → wb_X10_bouts_80 v0_ground_hares f0_now_row E Q K31 v0_callsNoSuch l1 l2 l3 l4 → W p l e (headSpec wsX10_bouts ({ frames := 7, cells := 1, slots := 6, locals := 212 })).room s m args below meth c H locs 1 6 (vx_MQ below (va_Qi (fun (r : Int32) (u : Int32) => Q r u) (cB (dC, dI) (kT cyB cyI cyJ cyP) A (fun u : Int32 => ((wd01_0 a0 z0_tape a0_ground z0_spareGround z0_rule z0_spareRule z0_lines z0_spareLines z0_steps a0_now z0_trial z0_past z0_images z0_round z0_seating z0_fitting z0_imagesKept z0_refusedSteps u z0_callsIllegal a0_ground z0_ground_formX z0_ground_formY z0_ground_foxX z0_ground_foxY z0_ground_seat z0_ground_strength z0_ground_debts z0_ground_near z0_ground_forms v0_ground_hares z0_ground_foxes z0_ground_safe a0_now a0_now_row z0_now_owedEach a0_ground z0_now_law a0_now_row cyI f0_now_row) : va_W))) A) (vx_X (fun _ => True) (fun (en : String) (u : Int32) (t : State) => E en u ∧ cB (dC, dI) (kT cyB cyI cyJ cyP) A (fun u : Int32 => ((wd01_0 a0 z0_tape a0_ground z0_spareGround z0_rule z0_spareRule z0_lines z0_spareLines z0_steps a0_now z0_trial z0_past z0_images z0_round z0_seating z0_fitting z0_imagesKept z0_refusedSteps u z0_callsIllegal a0_ground z0_ground_formX z0_ground_formY z0_ground_foxX z0_ground_foxY z0_ground_seat z0_ground_strength z0_ground_debts z0_ground_near z0_ground_forms v0_ground_hares z0_ground_foxes z0_ground_safe a0_now a0_now_row z0_now_owedEach a0_ground z0_now_law a0_now_row cyI f0_now_row) : va_W)) u t) A) args s 1 6 A) (F0 m 80 ls []) := by
  obtain ⟨⟨hx, hb, hr, hts, hown, hlocks, hml, hA, hK, hNw⟩, hXs⟩ := id C0
  have hY := hXs.2
  intro H locs ls v0_callsNoSuch l1 l2 l3 l4 hP hD hS hl hw
  obtain ⟨x11, ex11⟩ : ∃ y : Int32, y = l4 + 1 := ⟨_, rfl⟩
  have hw := hw x11 ex11
  refine lv_iinc (v := x11) (lv' := [(4, .int x11), (0, .ref a0), (1, .int l1), (2, .int l2), (3, .int l3)]) hx hb (dt_of tkX10_bouts_k60 12 rfl) hl (k := 4) rfl (by rw [ex11]; rfl) (by decide) rfl (fun ls hl => ?_)
  refine lv_goto (tgt := 31) hx hb (dt_of tkX10_bouts_k60 13 rfl) (by decide) ?_
  exact hK31 _ _ _ v0_callsNoSuch l1 l2 l3 x11 hP hD hS (lv_sub hl [1, 2, 3, 4, 0] rfl) hw
set_option maxHeartbeats 4000000 in
set_option maxRecDepth 100000 in
theorem kl_X10_bouts_31 {p : Program} {l : Launch} {e : Env} {s : State} {m : MethodId} {args : Array Value} {below : List Frame} {meth : Method} {c : Code} {A : Nat → Prop} (dC : Nat → ClassId) (dI : Nat → Nat → Nat) (cyB cyI cyJ cyP : ClassId) (a0 a0_ground a0_now a0_now_row : Nat) (z0_tape : Value) (z0_spareGround : Value) (z0_rule : Value) (z0_spareRule : Value) (z0_lines : Value) (z0_spareLines : Value) (z0_steps : Value) (z0_trial : Value) (z0_past : Value) (z0_images : Value) (z0_round : Value) (z0_seating : Value) (z0_fitting : Value) (z0_imagesKept : Value) (z0_refusedSteps : Value) (z0_callsIllegal : Value) (z0_ground_formX : Value) (z0_ground_formY : Value) (z0_ground_foxX : Value) (z0_ground_foxY : Value) (z0_ground_seat : Value) (z0_ground_strength : Value) (z0_ground_debts : Value) (z0_ground_near : Value) (z0_ground_forms : Value) (z0_ground_foxes : Value) (z0_ground_safe : Value) (z0_now_owedEach : Value) (z0_now_law : Value) (v0_ground_hares : Int32) (f0_now_row : Nat → Int32) (E : String → Int32 → Prop) (Q : Int32 → Int32 → Prop)  (C0 : cfx p s m args meth c cX10_bouts (some .int) wsX10_bouts RX10 5 A (dC, dI) (kT cyB cyI cyJ cyP) ∧ cfX l s c A) : ∀ (n : Nat) (H : Heap) (locs : List Loc) (ls : Array Slot) (v0_callsNoSuch : Int32) (l1 : Int32) (l2 : Int32) (l3 : Int32) (l4 : Int32), va_P (dC, dI) vwCl (wd01_0 a0 z0_tape a0_ground z0_spareGround z0_rule z0_spareRule z0_lines z0_spareLines z0_steps a0_now z0_trial z0_past z0_images z0_round z0_seating z0_fitting z0_imagesKept z0_refusedSteps v0_callsNoSuch z0_callsIllegal a0_ground z0_ground_formX z0_ground_formY z0_ground_foxX z0_ground_foxY z0_ground_seat z0_ground_strength z0_ground_debts z0_ground_near z0_ground_forms v0_ground_hares z0_ground_foxes z0_ground_safe a0_now a0_now_row z0_now_owedEach a0_ground z0_now_law a0_now_row cyI f0_now_row) H → va_D A (wd01_0 a0 z0_tape a0_ground z0_spareGround z0_rule z0_spareRule z0_lines z0_spareLines z0_steps a0_now z0_trial z0_past z0_images z0_round z0_seating z0_fitting z0_imagesKept z0_refusedSteps v0_callsNoSuch z0_callsIllegal a0_ground z0_ground_formX z0_ground_formY z0_ground_foxX z0_ground_foxY z0_ground_seat z0_ground_strength z0_ground_debts z0_ground_near z0_ground_forms v0_ground_hares z0_ground_foxes z0_ground_safe a0_now a0_now_row z0_now_owedEach a0_ground z0_now_law a0_now_row cyI f0_now_row) → va_S A s.heap H locs → lv_has ls 5 [(0, .ref a0), (1, .int l1), (2, .int l2), (3, .int l3), (4, .int l4)] → wl_X10_bouts_31 v0_ground_hares f0_now_row E Q  n v0_callsNoSuch l1 l2 l3 l4 → W p l e (headSpec wsX10_bouts ({ frames := 7, cells := 1, slots := 6, locals := 212 })).room s m args below meth c H locs 1 6 (vx_MQ below (va_Qi (fun (r : Int32) (u : Int32) => Q r u) (cB (dC, dI) (kT cyB cyI cyJ cyP) A (fun u : Int32 => ((wd01_0 a0 z0_tape a0_ground z0_spareGround z0_rule z0_spareRule z0_lines z0_spareLines z0_steps a0_now z0_trial z0_past z0_images z0_round z0_seating z0_fitting z0_imagesKept z0_refusedSteps u z0_callsIllegal a0_ground z0_ground_formX z0_ground_formY z0_ground_foxX z0_ground_foxY z0_ground_seat z0_ground_strength z0_ground_debts z0_ground_near z0_ground_forms v0_ground_hares z0_ground_foxes z0_ground_safe a0_now a0_now_row z0_now_owedEach a0_ground z0_now_law a0_now_row cyI f0_now_row) : va_W))) A) (vx_X (fun _ => True) (fun (en : String) (u : Int32) (t : State) => E en u ∧ cB (dC, dI) (kT cyB cyI cyJ cyP) A (fun u : Int32 => ((wd01_0 a0 z0_tape a0_ground z0_spareGround z0_rule z0_spareRule z0_lines z0_spareLines z0_steps a0_now z0_trial z0_past z0_images z0_round z0_seating z0_fitting z0_imagesKept z0_refusedSteps u z0_callsIllegal a0_ground z0_ground_formX z0_ground_formY z0_ground_foxX z0_ground_foxY z0_ground_seat z0_ground_strength z0_ground_debts z0_ground_near z0_ground_forms v0_ground_hares z0_ground_foxes z0_ground_safe a0_now a0_now_row z0_now_owedEach a0_ground z0_now_law a0_now_row cyI f0_now_row) : va_W)) u t) A) args s 1 6 A) (F0 m 31 ls []) := by
  obtain ⟨⟨hx, hb, hr, hts, hown, hlocks, hml, hA, hK, hNw⟩, hXs⟩ := id C0
  have hY := hXs.2
  intro n
  induction n with
  | zero => intro H locs ls v0_callsNoSuch l1 l2 l3 l4 hP hD hS hl hw; exact False.elim hw
  | succ n ih =>
    intro H locs ls v0_callsNoSuch l1 l2 l3 l4 hP hD hS hl hw
    refine lv_iload hx hb (dt_of tkX10_bouts_k28 2 rfl) (lv_at hl 4 rfl) ?_
    refine lv_aload_n hx hb (dt_of tkX10_bouts_k28 3 rfl) rfl (lv_at hl 0 rfl) ?_
    refine va_get (D := (dC, dI)) (ci := 10) (v := .ref a0_ground) (C := RX10) (T := TX10) (N := 19) hx hb hts ui_X10_bouts_X10 hown hK hP 0 rfl rfl 1 (by decide) (hts _ uw_X10_bouts_f19) (fun _ h9 => h9) rfl (dt_of tkX10_bouts_k28 4 rfl) ?_
    refine va_get (D := (dC, dI)) (ci := 2) (v := .int v0_ground_hares) (C := RX2) (T := TX2) (N := 12) hx hb hts ui_X10_bouts_X2 hown hK hP 1 rfl rfl 9 (by decide) (hts _ uw_X10_bouts_f141) (fun _ h9 => h9) rfl (dt_of tkX10_bouts_k28 5 rfl) ?_
    refine lv_icmp_ge (tgt := 86) hx hb (dt_of tkX10_bouts_k28 6 rfl) (by decide) (fun c5 => ?_) (fun c5 => ?_)
    · have hw := hw.1 c5
      refine lv_iload_n hx hb (dt_of tkX10_bouts_k60 14 rfl) rfl (lv_at hl 3 rfl) ?_
      exact vx_ret (W.widen (k := 1) (n := 6) (Nat.le_of_ble_eq_true rfl) (Nat.le_of_ble_eq_true rfl) (W.iret (v := l3) hx hb hr (fun t ht hW => ⟨⟨l3, (v0_callsNoSuch), rfl, hw, by rw [ht]; exact hP, va_K.moved hW.alike hK, hD⟩, hS.F ht⟩) hS.2.2 (dt_of tkX10_bouts_k60 15 rfl)))
    · have hw := hw.2 c5
      refine lv_iload_n hx hb (dt_of tkX10_bouts_k28 7 rfl) rfl (lv_at hl 2 rfl) ?_
      refine lv_iload hx hb (dt_of tkX10_bouts_k28 8 rfl) (lv_at hl 4 rfl) ?_
      obtain ⟨hCc, hPc, hDc, hFc⟩ := va_pick (ws' := []) hP hD hS hA [] (by decide +kernel) rfl
      refine va_calli (va_runS (As := [.int l2, .int l4]) (rest := []) ⟨hx, hb, hml, hown, hts⟩ (ck_X10_holds l dC dI cyB cyI cyJ cyP  H.size    l2 l4 hw) (va_cwS 2 hts gX10_bouts_X10_holds rfl rfl rfl (by decide +kernel) ⟨Nat.le_of_ble_eq_true rfl, Nat.le_of_ble_eq_true rfl⟩) ⟨cPc_blind, cPc_pre hPc hK hDc hNw⟩ rfl rfl hl.1 rfl (lv_room (Nat.le_of_ble_eq_true rfl)) (dt_of tkX10_bouts_k28 9 rfl) ⟨Nat.le_of_ble_eq_true rfl, Nat.le_of_ble_eq_true rfl⟩) hS (fun q _ h => hFc q h) hFc (fun r6 u t H1 locs ht hvm hw hB hz1 hk1 hS => ?_)
      obtain ⟨hP1, hK1, hD1⟩ := hB
      rw [ht] at hP1
      obtain ⟨hP, hD⟩ := va_joinI (wr := (wd01_0 a0 z0_tape a0_ground z0_spareGround z0_rule z0_spareRule z0_lines z0_spareLines z0_steps a0_now z0_trial z0_past z0_images z0_round z0_seating z0_fitting z0_imagesKept z0_refusedSteps v0_callsNoSuch z0_callsIllegal a0_ground z0_ground_formX z0_ground_formY z0_ground_foxX z0_ground_foxY z0_ground_seat z0_ground_strength z0_ground_debts z0_ground_near z0_ground_forms v0_ground_hares z0_ground_foxes z0_ground_safe a0_now a0_now_row z0_now_owedEach a0_ground z0_now_law a0_now_row cyI f0_now_row)) (w1 := []) (wn := (wd01_0 a0 z0_tape a0_ground z0_spareGround z0_rule z0_spareRule z0_lines z0_spareLines z0_steps a0_now z0_trial z0_past z0_images z0_round z0_seating z0_fitting z0_imagesKept z0_refusedSteps v0_callsNoSuch z0_callsIllegal a0_ground z0_ground_formX z0_ground_formY z0_ground_foxX z0_ground_foxY z0_ground_seat z0_ground_strength z0_ground_debts z0_ground_near z0_ground_forms v0_ground_hares z0_ground_foxes z0_ground_safe a0_now a0_now_row z0_now_owedEach a0_ground z0_now_law a0_now_row cyI f0_now_row)) hP hD [] [0, 1, 2, 3] hCc rfl (by decide +kernel) (by decide +kernel) rfl hk1 hFc hP1 hD1
      generalize H1 = H at hP hS ⊢
      refine lv_if_eq (tgt := 80) hx hb (dt_of tkX10_bouts_k28 10 rfl) (by decide) (fun c7 => ?_) (fun c7 => ?_)
      · have hw := hw.1 c7
        exact kb_X10_bouts_80 dC dI cyB cyI cyJ cyP a0 a0_ground a0_now a0_now_row z0_tape z0_spareGround z0_rule z0_spareRule z0_lines z0_spareLines z0_steps z0_trial z0_past z0_images z0_round z0_seating z0_fitting z0_imagesKept z0_refusedSteps z0_callsIllegal z0_ground_formX z0_ground_formY z0_ground_foxX z0_ground_foxY z0_ground_seat z0_ground_strength z0_ground_debts z0_ground_near z0_ground_forms z0_ground_foxes z0_ground_safe z0_now_owedEach z0_now_law v0_ground_hares f0_now_row E Q (wl_X10_bouts_31 v0_ground_hares f0_now_row E Q  n) ih C0 _ _ _ v0_callsNoSuch l1 l2 l3 l4 hP hD hS (lv_sub hl [0, 1, 2, 3, 4] rfl) hw
      · have hw := hw.2 c7
        refine lv_iload_n hx hb (dt_of tkX10_bouts_k28 11 rfl) rfl (lv_at hl 3 rfl) ?_
        refine lv_aload_n hx hb (dt_of tkX10_bouts_k28 12 rfl) rfl (lv_at hl 0 rfl) ?_
        refine va_get (D := (dC, dI)) (ci := 10) (v := .ref a0_now) (C := RX10) (T := TX10) (N := 19) hx hb hts ui_X10_bouts_X10 hown hK hP 0 rfl rfl 8 (by decide) (hts _ uw_X10_bouts_f58) (fun _ h9 => h9) rfl (dt_of tkX10_bouts_k28 13 rfl) ?_
        refine lv_iload_n hx hb (dt_of tkX10_bouts_k28 14 rfl) rfl (lv_at hl 1 rfl) ?_
        refine lv_iload hx hb (dt_of tkX10_bouts_k28 15 rfl) (lv_at hl 4 rfl) ?_
        refine lv_aload_n hx hb (dt_of tkX10_bouts_k60 0 rfl) rfl (lv_at hl 0 rfl) ?_
        refine va_get (D := (dC, dI)) (ci := 10) (v := .ref a0_now) (C := RX10) (T := TX10) (N := 19) hx hb hts ui_X10_bouts_X10 hown hK hP 0 rfl rfl 8 (by decide) (hts _ uw_X10_bouts_f58) (fun _ h9 => h9) rfl (dt_of tkX10_bouts_k60 1 rfl) ?_
        refine lv_iload hx hb (dt_of tkX10_bouts_k60 2 rfl) (lv_at hl 4 rfl) ?_
        obtain ⟨hCc, hPc, hDc, hFc⟩ := va_pick (ws' := (wd01_1 a0_now a0_now_row z0_now_owedEach a0_ground z0_now_law a0_now_row cyI f0_now_row)) hP hD hS hA [2, 3] (by decide +kernel) rfl
        refine va_calli (va_runV (As := [.int l4]) (rest := [.int l4, .int l1, .ref a0_now, .int l3]) ⟨hx, hb, hml, hown, hts⟩ (ck_X1_strong l dC dI cyB cyI cyJ cyP a0_now a0_now_row H.size (z0_now_owedEach) (.ref a0_ground) (z0_now_law) f0_now_row  l4 hw) (cwV 1 hts gX10_bouts_X1_strong rfl rfl rfl (by decide +kernel) ⟨Nat.le_of_ble_eq_true rfl, Nat.le_of_ble_eq_true rfl⟩) ⟨cPc_blind, va_recv (q := (RX1, TX1, 4)) hK hPc (ci := 1) (q0 := 0) rfl rfl, cPc_pre hPc hK hDc hNw⟩ rfl rfl hl.1 rfl (lv_room (Nat.le_of_ble_eq_true rfl)) (dt_of tkX10_bouts_k60 3 rfl) ⟨Nat.le_of_ble_eq_true rfl, Nat.le_of_ble_eq_true rfl⟩) hS (fun q _ h => hFc q h) hFc (fun r8 u t H1 locs ht hvm hw hB hz1 hk1 hS => ?_)
        obtain ⟨hP1, hK1, hD1⟩ := hB
        rw [ht] at hP1
        obtain ⟨hP, hD⟩ := va_joinI (wr := (wd01_2 a0 z0_tape a0_ground z0_spareGround z0_rule z0_spareRule z0_lines z0_spareLines z0_steps a0_now z0_trial z0_past z0_images z0_round z0_seating z0_fitting z0_imagesKept z0_refusedSteps v0_callsNoSuch z0_callsIllegal a0_ground z0_ground_formX z0_ground_formY z0_ground_foxX z0_ground_foxY z0_ground_seat z0_ground_strength z0_ground_debts z0_ground_near z0_ground_forms v0_ground_hares z0_ground_foxes z0_ground_safe)) (w1 := (wd01_1 a0_now a0_now_row z0_now_owedEach a0_ground z0_now_law a0_now_row cyI f0_now_row)) (wn := (wd01_0 a0 z0_tape a0_ground z0_spareGround z0_rule z0_spareRule z0_lines z0_spareLines z0_steps a0_now z0_trial z0_past z0_images z0_round z0_seating z0_fitting z0_imagesKept z0_refusedSteps v0_callsNoSuch z0_callsIllegal a0_ground z0_ground_formX z0_ground_formY z0_ground_foxX z0_ground_foxY z0_ground_seat z0_ground_strength z0_ground_debts z0_ground_near z0_ground_forms v0_ground_hares z0_ground_foxes z0_ground_safe a0_now a0_now_row z0_now_owedEach a0_ground z0_now_law a0_now_row cyI f0_now_row)) hP hD [2, 3] [0, 1] hCc rfl (by decide +kernel) (by decide +kernel) rfl hk1 hFc hP1 hD1
        generalize H1 = H at hP hS ⊢
        refine lv_iload_n hx hb (dt_of tkX10_bouts_k60 4 rfl) rfl (lv_at hl 2 rfl) ?_
        refine lv_iconst (v := 1) hx hb (dt_of tkX10_bouts_k60 5 rfl) (by decide) ?_
        refine lv_iload hx hb (dt_of tkX10_bouts_k60 6 rfl) (lv_at hl 4 rfl) ?_
        refine lv_ishl hx hb (dt_of tkX10_bouts_k60 7 rfl) ?_
        refine lv_ixor hx hb (dt_of tkX10_bouts_k60 8 rfl) ?_
        obtain ⟨hCc, hPc, hDc, hFc⟩ := va_pick (ws' := (wd01_1 a0_now a0_now_row z0_now_owedEach a0_ground z0_now_law a0_now_row cyI f0_now_row)) hP hD hS hA [2, 3] (by decide +kernel) rfl
        refine va_calli (va_runS (As := [.ref a0_now, .int l1, .int l4, .int r8, .int (l2 ^^^ (1 <<< (l4 &&& 31)))]) (rest := [.int l3]) ⟨hx, hb, hml, hown, hts⟩ (ck_X10_ordersWon_r5 l dC dI cyB cyI cyJ cyP a0_now a0_now_row H.size (z0_now_owedEach) (.ref a0_ground) (z0_now_law) f0_now_row  l1 l4 r8 (l2 ^^^ (1 <<< (l4 &&& 31))) hw) (va_cwS 5 hts gX10_bouts_X10_ordersWon rfl rfl rfl (by decide +kernel) ⟨Nat.le_of_ble_eq_true rfl, Nat.le_of_ble_eq_true rfl⟩) ⟨cPc_blind, cPc_pre hPc hK hDc hNw⟩ rfl rfl hl.1 rfl (lv_room (Nat.le_of_ble_eq_true rfl)) (dt_of tkX10_bouts_k60 9 rfl) ⟨Nat.le_of_ble_eq_true rfl, Nat.le_of_ble_eq_true rfl⟩) hS (fun q _ h => hFc q h) hFc (fun r9 u t H1 locs ht hvm hw hB hz1 hk1 hS => ?_)
        obtain ⟨hP1, hK1, hD1⟩ := hB
        rw [ht] at hP1
        obtain ⟨hP, hD⟩ := va_joinI (wr := (wd01_2 a0 z0_tape a0_ground z0_spareGround z0_rule z0_spareRule z0_lines z0_spareLines z0_steps a0_now z0_trial z0_past z0_images z0_round z0_seating z0_fitting z0_imagesKept z0_refusedSteps v0_callsNoSuch z0_callsIllegal a0_ground z0_ground_formX z0_ground_formY z0_ground_foxX z0_ground_foxY z0_ground_seat z0_ground_strength z0_ground_debts z0_ground_near z0_ground_forms v0_ground_hares z0_ground_foxes z0_ground_safe)) (w1 := (wd01_1 a0_now a0_now_row z0_now_owedEach a0_ground z0_now_law a0_now_row cyI f0_now_row)) (wn := (wd01_0 a0 z0_tape a0_ground z0_spareGround z0_rule z0_spareRule z0_lines z0_spareLines z0_steps a0_now z0_trial z0_past z0_images z0_round z0_seating z0_fitting z0_imagesKept z0_refusedSteps v0_callsNoSuch z0_callsIllegal a0_ground z0_ground_formX z0_ground_formY z0_ground_foxX z0_ground_foxY z0_ground_seat z0_ground_strength z0_ground_debts z0_ground_near z0_ground_forms v0_ground_hares z0_ground_foxes z0_ground_safe a0_now a0_now_row z0_now_owedEach a0_ground z0_now_law a0_now_row cyI f0_now_row)) hP hD [2, 3] [0, 1] hCc rfl (by decide +kernel) (by decide +kernel) rfl hk1 hFc hP1 hD1
        generalize H1 = H at hP hS ⊢
        refine lv_iadd hx hb (dt_of tkX10_bouts_k60 10 rfl) ?_
        refine lv_topi (fun x10 ex10 => ?_)
        have hw := hw x10 ex10
        refine lv_istore_n (lv' := [(3, .int x10), (0, .ref a0), (1, .int l1), (2, .int l2), (4, .int l4)]) hx hb (dt_of tkX10_bouts_k60 11 rfl) rfl hl (by decide) rfl (fun ls hl => ?_)
        exact kb_X10_bouts_80 dC dI cyB cyI cyJ cyP a0 a0_ground a0_now a0_now_row z0_tape z0_spareGround z0_rule z0_spareRule z0_lines z0_spareLines z0_steps z0_trial z0_past z0_images z0_round z0_seating z0_fitting z0_imagesKept z0_refusedSteps z0_callsIllegal z0_ground_formX z0_ground_formY z0_ground_foxX z0_ground_foxY z0_ground_seat z0_ground_strength z0_ground_debts z0_ground_near z0_ground_forms z0_ground_foxes z0_ground_safe z0_now_owedEach z0_now_law v0_ground_hares f0_now_row E Q (wl_X10_bouts_31 v0_ground_hares f0_now_row E Q  n) ih C0 _ _ _ v0_callsNoSuch l1 l2 x10 l4 hP hD hS (lv_sub hl [1, 2, 3, 0, 4] rfl) hw
set_option maxHeartbeats 4000000 in
set_option maxRecDepth 100000 in
theorem ck_X10_bouts (l : Launch) (dC : Nat → ClassId) (dI : Nat → Nat → Nat) (cyB cyI cyJ cyP : ClassId) (a0 a0_ground a0_now a0_now_row : Nat) (sz : Nat) (z0_tape : Value) (z0_spareGround : Value) (z0_rule : Value) (z0_spareRule : Value) (z0_lines : Value) (z0_spareLines : Value) (z0_steps : Value) (z0_trial : Value) (z0_past : Value) (z0_images : Value) (z0_round : Value) (z0_seating : Value) (z0_fitting : Value) (z0_imagesKept : Value) (z0_refusedSteps : Value) (z0_callsIllegal : Value) (z0_ground_formX : Value) (z0_ground_formY : Value) (z0_ground_foxX : Value) (z0_ground_foxY : Value) (z0_ground_seat : Value) (z0_ground_strength : Value) (z0_ground_debts : Value) (z0_ground_near : Value) (z0_ground_forms : Value) (z0_ground_foxes : Value) (z0_ground_safe : Value) (z0_now_owedEach : Value) (z0_now_law : Value) (v0_ground_hares : Int32) (f0_now_row : Nat → Int32) (v0_callsNoSuch : Int32) (p1 : Int32) {E : String → Int32 → Prop} {Q : Int32 → Int32 → Prop} (hw : wq_X10_bouts v0_ground_hares f0_now_row v0_callsNoSuch p1 E Q) : vx_Met l yX10_bouts wsX10_bouts ({ frames := 7, cells := 1, slots := 6, locals := 212 }) (va_Pc [.ref a0, .int p1] (cPx l (dC, dI) (kT cyB cyI cyJ cyP) (wd01_0 a0 z0_tape a0_ground z0_spareGround z0_rule z0_spareRule z0_lines z0_spareLines z0_steps a0_now z0_trial z0_past z0_images z0_round z0_seating z0_fitting z0_imagesKept z0_refusedSteps v0_callsNoSuch z0_callsIllegal a0_ground z0_ground_formX z0_ground_formY z0_ground_foxX z0_ground_foxY z0_ground_seat z0_ground_strength z0_ground_debts z0_ground_near z0_ground_forms v0_ground_hares z0_ground_foxes z0_ground_safe a0_now a0_now_row z0_now_owedEach a0_ground z0_now_law a0_now_row cyI f0_now_row) sz)) (va_Qi (fun (r : Int32) (u : Int32) => Q r u) (cB (dC, dI) (kT cyB cyI cyJ cyP) (va_A (wd01_0 a0 z0_tape a0_ground z0_spareGround z0_rule z0_spareRule z0_lines z0_spareLines z0_steps a0_now z0_trial z0_past z0_images z0_round z0_seating z0_fitting z0_imagesKept z0_refusedSteps v0_callsNoSuch z0_callsIllegal a0_ground z0_ground_formX z0_ground_formY z0_ground_foxX z0_ground_foxY z0_ground_seat z0_ground_strength z0_ground_debts z0_ground_near z0_ground_forms v0_ground_hares z0_ground_foxes z0_ground_safe a0_now a0_now_row z0_now_owedEach a0_ground z0_now_law a0_now_row cyI f0_now_row) sz) (fun u : Int32 => ((wd01_0 a0 z0_tape a0_ground z0_spareGround z0_rule z0_spareRule z0_lines z0_spareLines z0_steps a0_now z0_trial z0_past z0_images z0_round z0_seating z0_fitting z0_imagesKept z0_refusedSteps u z0_callsIllegal a0_ground z0_ground_formX z0_ground_formY z0_ground_foxX z0_ground_foxY z0_ground_seat z0_ground_strength z0_ground_debts z0_ground_near z0_ground_forms v0_ground_hares z0_ground_foxes z0_ground_safe a0_now a0_now_row z0_now_owedEach a0_ground z0_now_law a0_now_row cyI f0_now_row) : va_W))) (va_A (wd01_0 a0 z0_tape a0_ground z0_spareGround z0_rule z0_spareRule z0_lines z0_spareLines z0_steps a0_now z0_trial z0_past z0_images z0_round z0_seating z0_fitting z0_imagesKept z0_refusedSteps v0_callsNoSuch z0_callsIllegal a0_ground z0_ground_formX z0_ground_formY z0_ground_foxX z0_ground_foxY z0_ground_seat z0_ground_strength z0_ground_debts z0_ground_near z0_ground_forms v0_ground_hares z0_ground_foxes z0_ground_safe a0_now a0_now_row z0_now_owedEach a0_ground z0_now_law a0_now_row cyI f0_now_row) sz)) (vx_X (fun _ => True) (fun (en : String) (u : Int32) (t : State) => E en u ∧ cB (dC, dI) (kT cyB cyI cyJ cyP) (va_A (wd01_0 a0 z0_tape a0_ground z0_spareGround z0_rule z0_spareRule z0_lines z0_spareLines z0_steps a0_now z0_trial z0_past z0_images z0_round z0_seating z0_fitting z0_imagesKept z0_refusedSteps v0_callsNoSuch z0_callsIllegal a0_ground z0_ground_formX z0_ground_formY z0_ground_foxX z0_ground_foxY z0_ground_seat z0_ground_strength z0_ground_debts z0_ground_near z0_ground_forms v0_ground_hares z0_ground_foxes z0_ground_safe a0_now a0_now_row z0_now_owedEach a0_ground z0_now_law a0_now_row cyI f0_now_row) sz) (fun u : Int32 => ((wd01_0 a0 z0_tape a0_ground z0_spareGround z0_rule z0_spareRule z0_lines z0_spareLines z0_steps a0_now z0_trial z0_past z0_images z0_round z0_seating z0_fitting z0_imagesKept z0_refusedSteps u z0_callsIllegal a0_ground z0_ground_formX z0_ground_formY z0_ground_foxX z0_ground_foxY z0_ground_seat z0_ground_strength z0_ground_debts z0_ground_near z0_ground_forms v0_ground_hares z0_ground_foxes z0_ground_safe a0_now a0_now_row z0_now_owedEach a0_ground z0_now_law a0_now_row cyI f0_now_row) : va_W)) u t) (va_A (wd01_0 a0 z0_tape a0_ground z0_spareGround z0_rule z0_spareRule z0_lines z0_spareLines z0_steps a0_now z0_trial z0_past z0_images z0_round z0_seating z0_fitting z0_imagesKept z0_refusedSteps v0_callsNoSuch z0_callsIllegal a0_ground z0_ground_formX z0_ground_formY z0_ground_foxX z0_ground_foxY z0_ground_seat z0_ground_strength z0_ground_debts z0_ground_near z0_ground_forms v0_ground_hares z0_ground_foxes z0_ground_safe a0_now a0_now_row z0_now_owedEach a0_ground z0_now_law a0_now_row cyI f0_now_row) sz)) 1 6 (va_A (wd01_0 a0 z0_tape a0_ground z0_spareGround z0_rule z0_spareRule z0_lines z0_spareLines z0_steps a0_now z0_trial z0_past z0_images z0_round z0_seating z0_fitting z0_imagesKept z0_refusedSteps v0_callsNoSuch z0_callsIllegal a0_ground z0_ground_formX z0_ground_formY z0_ground_foxX z0_ground_foxY z0_ground_seat z0_ground_strength z0_ground_debts z0_ground_near z0_ground_forms v0_ground_hares z0_ground_foxes z0_ground_safe a0_now a0_now_row z0_now_owedEach a0_ground z0_now_law a0_now_row cyI f0_now_row) sz) := by
  refine vx_ofW (cc := cX10_bouts) (maxL := 5) (ret := (some .int)) (by decide) rfl ?_
  intro p e s m args below meth c s₁ B hml hnt hv
  obtain ⟨rfl, hsz, hP, hK, hD0, hNw, hXl, hXu, hXn, hXt⟩ := hv
  have hx := B.exec
  have hb := B.bytes
  have hr := B.returns
  have hts := atoms_spec (ws := wsX10_bouts) B.pre
  have hown : s.vm.findClass RX10 = some m.cls := findClass_of_methodNamed B.named
  have hlocks := B.notSynchronized
  subst hsz
  have hD := hD0.self (sz := s.heap.size)
  generalize hAe : va_A (wd01_0 a0 z0_tape a0_ground z0_spareGround z0_rule z0_spareRule z0_lines z0_spareLines z0_steps a0_now z0_trial z0_past z0_images z0_round z0_seating z0_fitting z0_imagesKept z0_refusedSteps v0_callsNoSuch z0_callsIllegal a0_ground z0_ground_formX z0_ground_formY z0_ground_foxX z0_ground_foxY z0_ground_seat z0_ground_strength z0_ground_debts z0_ground_near z0_ground_forms v0_ground_hares z0_ground_foxes z0_ground_safe a0_now a0_now_row z0_now_owedEach a0_ground z0_now_law a0_now_row cyI f0_now_row) s.heap.size = A at hD hXu hXn ⊢
  have hA : ∀ q : Nat, s.heap.size ≤ q → A q := fun q h => by rw [← hAe]; exact Or.inr h
  have hS : va_S A s.heap s.heap [] := va_S.rf
  have hP : va_P (dC, dI) vwCl (wd01_0 a0 z0_tape a0_ground z0_spareGround z0_rule z0_spareRule z0_lines z0_spareLines z0_steps a0_now z0_trial z0_past z0_images z0_round z0_seating z0_fitting z0_imagesKept z0_refusedSteps v0_callsNoSuch z0_callsIllegal a0_ground z0_ground_formX z0_ground_formY z0_ground_foxX z0_ground_foxY z0_ground_seat z0_ground_strength z0_ground_debts z0_ground_near z0_ground_forms v0_ground_hares z0_ground_foxes z0_ground_safe a0_now a0_now_row z0_now_owedEach a0_ground z0_now_law a0_now_row cyI f0_now_row) s.heap := hP
  have hl := lv_entry ([.ref a0, .int p1]) (n := 5) (Nat.le_of_ble_eq_true rfl)
  rw [lg_entry_eq]
  generalize (lg_sl ([.ref a0, .int p1]) ++ List.replicate (5 - (lg_sl ([.ref a0, .int p1])).length) Slot.unset).toArray = ls at hl ⊢
  have hl : lv_has ls 5 [(0, .ref a0), (1, .int p1)] := hl
  have hY : cfY l s A := ⟨hXl, hXu, hXn, hXt⟩
  have hXs : cfX l s c A := ⟨hnt, hY⟩
  have C0 : cfx p s m _ meth c cX10_bouts (some .int) wsX10_bouts RX10 5 A (dC, dI) (kT cyB cyI cyJ cyP) ∧ cfX l s c A := ⟨⟨hx, hb, hr, hts, hown, hlocks, hml, hA, hK, hNw⟩, hXs⟩
  clear hAe
  obtain ⟨H, hH⟩ : ∃ H, H = s.heap := ⟨_, rfl⟩
  rw [← hH] at hP ⊢
  have hS : va_S A s.heap H [] := by rw [hH]; exact va_S.rf
  have hS := hS
  refine lv_aload_n hx hb (dt_of tkX10_bouts_k0 0 rfl) rfl (lv_at hl 0 rfl) ?_
  refine lv_iload_n hx hb (dt_of tkX10_bouts_k0 1 rfl) rfl (lv_at hl 1 rfl) ?_
  obtain ⟨hCc, hPc, hDc, hFc⟩ := va_pick (ws' := (wd01_2 a0 z0_tape a0_ground z0_spareGround z0_rule z0_spareRule z0_lines z0_spareLines z0_steps a0_now z0_trial z0_past z0_images z0_round z0_seating z0_fitting z0_imagesKept z0_refusedSteps v0_callsNoSuch z0_callsIllegal a0_ground z0_ground_formX z0_ground_formY z0_ground_foxX z0_ground_foxY z0_ground_seat z0_ground_strength z0_ground_debts z0_ground_near z0_ground_forms v0_ground_hares z0_ground_foxes z0_ground_safe)) hP hD hS hA [0, 1] (by decide +kernel) rfl
  refine vx_callv (vx_runV (As := [.int p1]) (rest := []) ⟨hx, hb, hml, hown, hts⟩ (ck_X10_needHare l dC dI cyB cyI cyJ cyP a0 a0_ground H.size (z0_tape) (z0_spareGround) (z0_rule) (z0_spareRule) (z0_lines) (z0_spareLines) (z0_steps) (.ref a0_now) (z0_trial) (z0_past) (z0_images) (z0_round) (z0_seating) (z0_fitting) (z0_imagesKept) (z0_refusedSteps) (z0_callsIllegal) (z0_ground_formX) (z0_ground_formY) (z0_ground_foxX) (z0_ground_foxY) (z0_ground_seat) (z0_ground_strength) (z0_ground_debts) (z0_ground_near) (z0_ground_forms) (z0_ground_foxes) (z0_ground_safe) v0_ground_hares v0_callsNoSuch p1 hw) (cwV 1 hts gX10_bouts_X10_needHare rfl rfl rfl (by decide +kernel) ⟨Nat.le_of_ble_eq_true rfl, Nat.le_of_ble_eq_true rfl⟩) ⟨cPx_blind, va_recv (q := (RX10, TX10, 19)) hK hPc (ci := 10) (q0 := 0) rfl rfl, cPx_pre hPc hK hDc hNw hY hS hFc⟩ rfl rfl hl.1 rfl (lv_room (Nat.le_of_ble_eq_true rfl)) (dt_of tkX10_bouts_k0 2 rfl) ⟨Nat.le_of_ble_eq_true rfl, Nat.le_of_ble_eq_true rfl⟩) hS (fun q _ h => hFc q h) hFc (fun q _ h => hFc q h) (fun en ce q9 u t H1 locs ht hvm hpx hB hz1 hk1 hS hc9 hv9 hcl9 => ?_) (fun u t H1 locs ht hvm hw hB hz1 hk1 hS => ?_)
  · obtain ⟨x1, rfl⟩ : ∃ z, z = u := ⟨_, rfl⟩
    obtain ⟨hw, hP1, hK1, hD1⟩ := hB
    rw [ht] at hP1
    obtain ⟨hP, hD⟩ := va_joinN (wr := (wd01_1 a0_now a0_now_row z0_now_owedEach a0_ground z0_now_law a0_now_row cyI f0_now_row)) (w1 := (wd01_2 a0 z0_tape a0_ground z0_spareGround z0_rule z0_spareRule z0_lines z0_spareLines z0_steps a0_now z0_trial z0_past z0_images z0_round z0_seating z0_fitting z0_imagesKept z0_refusedSteps x1 z0_callsIllegal a0_ground z0_ground_formX z0_ground_formY z0_ground_foxX z0_ground_foxY z0_ground_seat z0_ground_strength z0_ground_debts z0_ground_near z0_ground_forms v0_ground_hares z0_ground_foxes z0_ground_safe)) (wn := (wd01_0 a0 z0_tape a0_ground z0_spareGround z0_rule z0_spareRule z0_lines z0_spareLines z0_steps a0_now z0_trial z0_past z0_images z0_round z0_seating z0_fitting z0_imagesKept z0_refusedSteps x1 z0_callsIllegal a0_ground z0_ground_formX z0_ground_formY z0_ground_foxX z0_ground_foxY z0_ground_seat z0_ground_strength z0_ground_debts z0_ground_near z0_ground_forms v0_ground_hares z0_ground_foxes z0_ground_safe a0_now a0_now_row z0_now_owedEach a0_ground z0_now_law a0_now_row cyI f0_now_row)) hP hD [0, 1] [2, 3] [2, 3, 0, 1] hCc rfl (by decide +kernel) (by decide +kernel) (by decide +kernel) rfl hk1 hFc hP1 hD1
    generalize H1 = H at hP hS hc9 ⊢
    exact vx_out (fun x hx9 => (hXs.1 x hx9).elim) hlocks hc9 hv9 hcl9 (fun t2 ht2 hal2 => ⟨(x1), trivial, ⟨hw, by rw [ht2]; exact hP, va_K.moved hal2 hK, hD⟩, hS.F ht2⟩) hS.2.2 (Nat.le_of_ble_eq_true rfl) (Nat.le_of_ble_eq_true rfl)
  obtain ⟨x1, rfl⟩ : ∃ z, z = u := ⟨_, rfl⟩
  obtain ⟨hP1, hK1, hD1⟩ := hB
  rw [ht] at hP1
  obtain ⟨hP, hD⟩ := va_joinN (wr := (wd01_1 a0_now a0_now_row z0_now_owedEach a0_ground z0_now_law a0_now_row cyI f0_now_row)) (w1 := (wd01_2 a0 z0_tape a0_ground z0_spareGround z0_rule z0_spareRule z0_lines z0_spareLines z0_steps a0_now z0_trial z0_past z0_images z0_round z0_seating z0_fitting z0_imagesKept z0_refusedSteps x1 z0_callsIllegal a0_ground z0_ground_formX z0_ground_formY z0_ground_foxX z0_ground_foxY z0_ground_seat z0_ground_strength z0_ground_debts z0_ground_near z0_ground_forms v0_ground_hares z0_ground_foxes z0_ground_safe)) (wn := (wd01_0 a0 z0_tape a0_ground z0_spareGround z0_rule z0_spareRule z0_lines z0_spareLines z0_steps a0_now z0_trial z0_past z0_images z0_round z0_seating z0_fitting z0_imagesKept z0_refusedSteps x1 z0_callsIllegal a0_ground z0_ground_formX z0_ground_formY z0_ground_foxX z0_ground_foxY z0_ground_seat z0_ground_strength z0_ground_debts z0_ground_near z0_ground_forms v0_ground_hares z0_ground_foxes z0_ground_safe a0_now a0_now_row z0_now_owedEach a0_ground z0_now_law a0_now_row cyI f0_now_row)) hP hD [0, 1] [2, 3] [2, 3, 0, 1] hCc rfl (by decide +kernel) (by decide +kernel) (by decide +kernel) rfl hk1 hFc hP1 hD1
  generalize H1 = H at hP hS ⊢
  refine lv_aload_n hx hb (dt_of tkX10_bouts_k0 3 rfl) rfl (lv_at hl 0 rfl) ?_
  refine va_get (D := (dC, dI)) (ci := 10) (v := .ref a0_now) (C := RX10) (T := TX10) (N := 19) hx hb hts ui_X10_bouts_X10 hown hK hP 0 rfl rfl 8 (by decide) (hts _ uw_X10_bouts_f58) (fun _ h9 => h9) rfl (dt_of tkX10_bouts_k0 4 rfl) ?_
  refine lv_iload_n hx hb (dt_of tkX10_bouts_k0 5 rfl) rfl (lv_at hl 1 rfl) ?_
  obtain ⟨hCc, hPc, hDc, hFc⟩ := va_pick (ws' := (wd01_1 a0_now a0_now_row z0_now_owedEach a0_ground z0_now_law a0_now_row cyI f0_now_row)) hP hD hS hA [2, 3] (by decide +kernel) rfl
  refine va_calli (va_runV (As := [.int p1]) (rest := []) ⟨hx, hb, hml, hown, hts⟩ (ck_X1_isCaught l dC dI cyB cyI cyJ cyP a0_now a0_now_row H.size (z0_now_owedEach) (.ref a0_ground) (z0_now_law) f0_now_row  p1 hw) (cwV 1 hts gX10_bouts_X1_isCaught rfl rfl rfl (by decide +kernel) ⟨Nat.le_of_ble_eq_true rfl, Nat.le_of_ble_eq_true rfl⟩) ⟨cPc_blind, va_recv (q := (RX1, TX1, 4)) hK hPc (ci := 1) (q0 := 0) rfl rfl, cPc_pre hPc hK hDc hNw⟩ rfl rfl hl.1 rfl (lv_room (Nat.le_of_ble_eq_true rfl)) (dt_of tkX10_bouts_k0 6 rfl) ⟨Nat.le_of_ble_eq_true rfl, Nat.le_of_ble_eq_true rfl⟩) hS (fun q _ h => hFc q h) hFc (fun r2 u t H1 locs ht hvm hw hB hz1 hk1 hS => ?_)
  obtain ⟨hP1, hK1, hD1⟩ := hB
  rw [ht] at hP1
  obtain ⟨hP, hD⟩ := va_joinI (wr := (wd01_2 a0 z0_tape a0_ground z0_spareGround z0_rule z0_spareRule z0_lines z0_spareLines z0_steps a0_now z0_trial z0_past z0_images z0_round z0_seating z0_fitting z0_imagesKept z0_refusedSteps x1 z0_callsIllegal a0_ground z0_ground_formX z0_ground_formY z0_ground_foxX z0_ground_foxY z0_ground_seat z0_ground_strength z0_ground_debts z0_ground_near z0_ground_forms v0_ground_hares z0_ground_foxes z0_ground_safe)) (w1 := (wd01_1 a0_now a0_now_row z0_now_owedEach a0_ground z0_now_law a0_now_row cyI f0_now_row)) (wn := (wd01_0 a0 z0_tape a0_ground z0_spareGround z0_rule z0_spareRule z0_lines z0_spareLines z0_steps a0_now z0_trial z0_past z0_images z0_round z0_seating z0_fitting z0_imagesKept z0_refusedSteps x1 z0_callsIllegal a0_ground z0_ground_formX z0_ground_formY z0_ground_foxX z0_ground_foxY z0_ground_seat z0_ground_strength z0_ground_debts z0_ground_near z0_ground_forms v0_ground_hares z0_ground_foxes z0_ground_safe a0_now a0_now_row z0_now_owedEach a0_ground z0_now_law a0_now_row cyI f0_now_row)) hP hD [2, 3] [0, 1] hCc rfl (by decide +kernel) (by decide +kernel) rfl hk1 hFc hP1 hD1
  generalize H1 = H at hP hS ⊢
  refine lv_if_eq (tgt := 18) hx hb (dt_of tkX10_bouts_k0 7 rfl) (by decide) (fun c3 => ?_) (fun c3 => ?_)
  · have hw := hw.1 c3
    refine lv_aload_n hx hb (dt_of tkX10_bouts_k0 10 rfl) rfl (lv_at hl 0 rfl) ?_
    refine va_get (D := (dC, dI)) (ci := 10) (v := .ref a0_now) (C := RX10) (T := TX10) (N := 19) hx hb hts ui_X10_bouts_X10 hown hK hP 0 rfl rfl 8 (by decide) (hts _ uw_X10_bouts_f58) (fun _ h9 => h9) rfl (dt_of tkX10_bouts_k0 11 rfl) ?_
    obtain ⟨hCc, hPc, hDc, hFc⟩ := va_pick (ws' := (wd01_3 a0_now a0_now_row z0_now_owedEach a0_ground z0_now_law a0_ground z0_ground_formX z0_ground_formY z0_ground_foxX z0_ground_foxY z0_ground_seat z0_ground_strength z0_ground_debts z0_ground_near z0_ground_forms v0_ground_hares z0_ground_foxes z0_ground_safe a0_now_row cyI f0_now_row)) hP hD hS hA [2, 1, 3] (by decide +kernel) rfl
    refine va_calli (va_runV (As := []) (rest := []) ⟨hx, hb, hml, hown, hts⟩ (ck_X1_freeOnes l dC dI cyB cyI cyJ cyP a0_now a0_ground a0_now_row H.size (z0_now_owedEach) (z0_now_law) (z0_ground_formX) (z0_ground_formY) (z0_ground_foxX) (z0_ground_foxY) (z0_ground_seat) (z0_ground_strength) (z0_ground_debts) (z0_ground_near) (z0_ground_forms) (z0_ground_foxes) (z0_ground_safe) v0_ground_hares f0_now_row   hw) (cwV 0 hts gX10_bouts_X1_freeOnes rfl rfl rfl (by decide +kernel) ⟨Nat.le_of_ble_eq_true rfl, Nat.le_of_ble_eq_true rfl⟩) ⟨cPc_blind, va_recv (q := (RX1, TX1, 4)) hK hPc (ci := 1) (q0 := 0) rfl rfl, cPc_pre hPc hK hDc hNw⟩ rfl rfl hl.1 rfl (lv_room (Nat.le_of_ble_eq_true rfl)) (dt_of tkX10_bouts_k0 12 rfl) ⟨Nat.le_of_ble_eq_true rfl, Nat.le_of_ble_eq_true rfl⟩) hS (fun q _ h => hFc q h) hFc (fun r4 u t H1 locs ht hvm hw hB hz1 hk1 hS => ?_)
    obtain ⟨hP1, hK1, hD1⟩ := hB
    rw [ht] at hP1
    obtain ⟨hP, hD⟩ := va_joinN (wr := (wd01_4 a0 z0_tape a0_ground z0_spareGround z0_rule z0_spareRule z0_lines z0_spareLines z0_steps a0_now z0_trial z0_past z0_images z0_round z0_seating z0_fitting z0_imagesKept z0_refusedSteps x1 z0_callsIllegal)) (w1 := (wd01_3 a0_now a0_now_row z0_now_owedEach a0_ground z0_now_law a0_ground z0_ground_formX z0_ground_formY z0_ground_foxX z0_ground_foxY z0_ground_seat z0_ground_strength z0_ground_debts z0_ground_near z0_ground_forms v0_ground_hares z0_ground_foxes z0_ground_safe a0_now_row cyI f0_now_row)) (wn := (wd01_0 a0 z0_tape a0_ground z0_spareGround z0_rule z0_spareRule z0_lines z0_spareLines z0_steps a0_now z0_trial z0_past z0_images z0_round z0_seating z0_fitting z0_imagesKept z0_refusedSteps x1 z0_callsIllegal a0_ground z0_ground_formX z0_ground_formY z0_ground_foxX z0_ground_foxY z0_ground_seat z0_ground_strength z0_ground_debts z0_ground_near z0_ground_forms v0_ground_hares z0_ground_foxes z0_ground_safe a0_now a0_now_row z0_now_owedEach a0_ground z0_now_law a0_now_row cyI f0_now_row)) hP hD [2, 1, 3] [0] [0, 2, 1, 3] hCc rfl (by decide +kernel) (by decide +kernel) (by decide +kernel) rfl hk1 hFc hP1 hD1
    generalize H1 = H at hP hS ⊢
    refine lv_istore_n (lv' := [(2, .int r4), (0, .ref a0), (1, .int p1)]) hx hb (dt_of tkX10_bouts_k0 13 rfl) rfl hl (by decide) rfl (fun ls hl => ?_)
    refine lv_iconst (v := 0) hx hb (dt_of tkX10_bouts_k0 14 rfl) (by decide) ?_
    refine lv_istore_n (lv' := [(3, .int 0), (2, .int r4), (0, .ref a0), (1, .int p1)]) hx hb (dt_of tkX10_bouts_k0 15 rfl) rfl hl (by decide) rfl (fun ls hl => ?_)
    refine lv_iconst (v := 0) hx hb (dt_of tkX10_bouts_k28 0 rfl) (by decide) ?_
    refine lv_istore (lv' := [(4, .int 0), (3, .int 0), (2, .int r4), (0, .ref a0), (1, .int p1)]) hx hb (dt_of tkX10_bouts_k28 1 rfl) hl (by decide) rfl (fun ls hl => ?_)
    obtain ⟨n9, hw⟩ := hw
    exact kl_X10_bouts_31 dC dI cyB cyI cyJ cyP a0 a0_ground a0_now a0_now_row z0_tape z0_spareGround z0_rule z0_spareRule z0_lines z0_spareLines z0_steps z0_trial z0_past z0_images z0_round z0_seating z0_fitting z0_imagesKept z0_refusedSteps z0_callsIllegal z0_ground_formX z0_ground_formY z0_ground_foxX z0_ground_foxY z0_ground_seat z0_ground_strength z0_ground_debts z0_ground_near z0_ground_forms z0_ground_foxes z0_ground_safe z0_now_owedEach z0_now_law v0_ground_hares f0_now_row E Q  C0 n9 _ _ _ x1 p1 r4 0 0 hP hD hS (lv_sub hl [3, 4, 2, 1, 0] rfl) hw
  · have hw := hw.2 c3
    refine lv_iconst (v := 0) hx hb (dt_of tkX10_bouts_k0 8 rfl) (by decide) ?_
    exact vx_ret (W.widen (k := 1) (n := 6) (Nat.le_of_ble_eq_true rfl) (Nat.le_of_ble_eq_true rfl) (W.iret (v := 0) hx hb hr (fun t ht hW => ⟨⟨0, (x1), rfl, hw, by rw [ht]; exact hP, va_K.moved hW.alike hK, hD⟩, hS.F ht⟩) hS.2.2 (dt_of tkX10_bouts_k0 9 rfl)))
theorem uw_L_bouts_ct31 : (.classLink RL 31 "java/util/NoSuchElementException" : Cond) ∈ wsL_bouts := mbL_bouts 2639 (by decide +kernel)
theorem uw_L_bouts_cw : (.codeWith yL_bouts cL_bouts 4 (some .int) [(0, 9, 12, 31)] : Cond) ∈ wsL_bouts := mbL_bouts 3351 (by decide +kernel)
set_option maxHeartbeats 4000000 in
set_option maxRecDepth 100000 in
theorem ck_L_bouts (l : Launch) (dC : Nat → ClassId) (dI : Nat → Nat → Nat) (cyB cyI cyJ cyP : ClassId) (a0 a2 a0_ground a0_now a0_now_row : Nat) (sz : Nat) (z0_tape : Value) (z0_spareGround : Value) (z0_rule : Value) (z0_spareRule : Value) (z0_lines : Value) (z0_spareLines : Value) (z0_steps : Value) (z0_trial : Value) (z0_past : Value) (z0_images : Value) (z0_round : Value) (z0_seating : Value) (z0_fitting : Value) (z0_imagesKept : Value) (z0_refusedSteps : Value) (z0_callsIllegal : Value) (z0_ground_formX : Value) (z0_ground_formY : Value) (z0_ground_foxX : Value) (z0_ground_foxY : Value) (z0_ground_seat : Value) (z0_ground_strength : Value) (z0_ground_debts : Value) (z0_ground_near : Value) (z0_ground_forms : Value) (z0_ground_foxes : Value) (z0_ground_safe : Value) (z0_now_owedEach : Value) (z0_now_law : Value) (n2 : Nat) (v0_ground_hares : Int32) (f0_now_row : Nat → Int32) (v0_callsNoSuch : Int32) (f2 : Nat → Int64) (p1 : Int32) {Q : Int32 → Int32 → (Nat → Int64) → Prop} (hw : wq_L_bouts n2 v0_ground_hares f0_now_row v0_callsNoSuch f2 p1 Q) : Met l yL_bouts wsL_bouts ({ frames := 8, cells := 1, slots := 6, locals := 236 }) (va_Pc [.ref a0, .int p1, .ref a2] (cPx l (dC, dI) (kT cyB cyI cyJ cyP) (wd01_5 a0 z0_tape a0_ground z0_spareGround z0_rule z0_spareRule z0_lines z0_spareLines z0_steps a0_now z0_trial z0_past z0_images z0_round z0_seating z0_fitting z0_imagesKept z0_refusedSteps v0_callsNoSuch z0_callsIllegal a0_ground z0_ground_formX z0_ground_formY z0_ground_foxX z0_ground_foxY z0_ground_seat z0_ground_strength z0_ground_debts z0_ground_near z0_ground_forms v0_ground_hares z0_ground_foxes z0_ground_safe a0_now a0_now_row z0_now_owedEach a0_ground z0_now_law a0_now_row cyI f0_now_row a2 cyJ n2 f2) sz)) (va_Qi (fun (r : Int32) (u : Int32 × (Nat → Int64)) => Q r u.1 u.2) (cB (dC, dI) (kT cyB cyI cyJ cyP) (va_A (wd01_5 a0 z0_tape a0_ground z0_spareGround z0_rule z0_spareRule z0_lines z0_spareLines z0_steps a0_now z0_trial z0_past z0_images z0_round z0_seating z0_fitting z0_imagesKept z0_refusedSteps v0_callsNoSuch z0_callsIllegal a0_ground z0_ground_formX z0_ground_formY z0_ground_foxX z0_ground_foxY z0_ground_seat z0_ground_strength z0_ground_debts z0_ground_near z0_ground_forms v0_ground_hares z0_ground_foxes z0_ground_safe a0_now a0_now_row z0_now_owedEach a0_ground z0_now_law a0_now_row cyI f0_now_row a2 cyJ n2 f2) sz) (fun u : Int32 × (Nat → Int64) => ((wd01_5 a0 z0_tape a0_ground z0_spareGround z0_rule z0_spareRule z0_lines z0_spareLines z0_steps a0_now z0_trial z0_past z0_images z0_round z0_seating z0_fitting z0_imagesKept z0_refusedSteps u.1 z0_callsIllegal a0_ground z0_ground_formX z0_ground_formY z0_ground_foxX z0_ground_foxY z0_ground_seat z0_ground_strength z0_ground_debts z0_ground_near z0_ground_forms v0_ground_hares z0_ground_foxes z0_ground_safe a0_now a0_now_row z0_now_owedEach a0_ground z0_now_law a0_now_row cyI f0_now_row a2 cyJ n2 u.2) : va_W))) (va_A (wd01_5 a0 z0_tape a0_ground z0_spareGround z0_rule z0_spareRule z0_lines z0_spareLines z0_steps a0_now z0_trial z0_past z0_images z0_round z0_seating z0_fitting z0_imagesKept z0_refusedSteps v0_callsNoSuch z0_callsIllegal a0_ground z0_ground_formX z0_ground_formY z0_ground_foxX z0_ground_foxY z0_ground_seat z0_ground_strength z0_ground_debts z0_ground_near z0_ground_forms v0_ground_hares z0_ground_foxes z0_ground_safe a0_now a0_now_row z0_now_owedEach a0_ground z0_now_law a0_now_row cyI f0_now_row a2 cyJ n2 f2) sz)) 1 6 (va_A (wd01_5 a0 z0_tape a0_ground z0_spareGround z0_rule z0_spareRule z0_lines z0_spareLines z0_steps a0_now z0_trial z0_past z0_images z0_round z0_seating z0_fitting z0_imagesKept z0_refusedSteps v0_callsNoSuch z0_callsIllegal a0_ground z0_ground_formX z0_ground_formY z0_ground_foxX z0_ground_foxY z0_ground_seat z0_ground_strength z0_ground_debts z0_ground_near z0_ground_forms v0_ground_hares z0_ground_foxes z0_ground_safe a0_now a0_now_row z0_now_owedEach a0_ground z0_now_law a0_now_row cyI f0_now_row a2 cyJ n2 f2) sz) := by
  refine va_MetW (cc := cL_bouts) (maxL := 4) (ret := (some .int)) (by decide) rfl ?_
  intro p e s m args below meth c s₁ B hml hv
  obtain ⟨rfl, hsz, hP, hK, hD0, hNw, hXl, hXu, hXn, hXt⟩ := hv
  have hx := B.exec
  have hb := B.bytes
  have hr := B.returns
  have hts := atoms_spec (ws := wsL_bouts) B.pre
  have hown : s.vm.findClass RL = some m.cls := findClass_of_methodNamed B.named
  have hlocks := B.notSynchronized
  subst hsz
  have hD := hD0.self (sz := s.heap.size)
  generalize hAe : va_A (wd01_5 a0 z0_tape a0_ground z0_spareGround z0_rule z0_spareRule z0_lines z0_spareLines z0_steps a0_now z0_trial z0_past z0_images z0_round z0_seating z0_fitting z0_imagesKept z0_refusedSteps v0_callsNoSuch z0_callsIllegal a0_ground z0_ground_formX z0_ground_formY z0_ground_foxX z0_ground_foxY z0_ground_seat z0_ground_strength z0_ground_debts z0_ground_near z0_ground_forms v0_ground_hares z0_ground_foxes z0_ground_safe a0_now a0_now_row z0_now_owedEach a0_ground z0_now_law a0_now_row cyI f0_now_row a2 cyJ n2 f2) s.heap.size = A at hD hXu hXn ⊢
  have hA : ∀ q : Nat, s.heap.size ≤ q → A q := fun q h => by rw [← hAe]; exact Or.inr h
  have hS : va_S A s.heap s.heap [] := va_S.rf
  have hP : va_P (dC, dI) vwCl (wd01_5 a0 z0_tape a0_ground z0_spareGround z0_rule z0_spareRule z0_lines z0_spareLines z0_steps a0_now z0_trial z0_past z0_images z0_round z0_seating z0_fitting z0_imagesKept z0_refusedSteps v0_callsNoSuch z0_callsIllegal a0_ground z0_ground_formX z0_ground_formY z0_ground_foxX z0_ground_foxY z0_ground_seat z0_ground_strength z0_ground_debts z0_ground_near z0_ground_forms v0_ground_hares z0_ground_foxes z0_ground_safe a0_now a0_now_row z0_now_owedEach a0_ground z0_now_law a0_now_row cyI f0_now_row a2 cyJ n2 f2) s.heap := hP
  have hl := lv_entry ([.ref a0, .int p1, .ref a2]) (n := 4) (Nat.le_of_ble_eq_true rfl)
  rw [lg_entry_eq]
  generalize (lg_sl ([.ref a0, .int p1, .ref a2]) ++ List.replicate (4 - (lg_sl ([.ref a0, .int p1, .ref a2])).length) Slot.unset).toArray = ls at hl ⊢
  have hl : lv_has ls 4 [(0, .ref a0), (1, .int p1), (2, .ref a2)] := hl
  have hY : cfY l s A := ⟨hXl, hXu, hXn, hXt⟩
  have hTb := vx_table (x := yL_bouts) B (hts _ uw_L_bouts_cw)
  clear hAe
  obtain ⟨H, hH⟩ : ∃ H, H = s.heap := ⟨_, rfl⟩
  rw [← hH] at hP ⊢
  have hS : va_S A s.heap H [] := by rw [hH]; exact va_S.rf
  have hS := hS
  refine lv_aload_n hx hb (dt_of tkL_bouts_k0 0 rfl) rfl (lv_at hl 2 rfl) ?_
  refine lv_iconst (v := 0) hx hb (dt_of tkL_bouts_k0 1 rfl) (by decide) ?_
  refine lv_aload_n hx hb (dt_of tkL_bouts_k0 2 rfl) rfl (lv_at hl 0 rfl) ?_
  refine lv_iload_n hx hb (dt_of tkL_bouts_k0 3 rfl) rfl (lv_at hl 1 rfl) ?_
  obtain ⟨hCc, hPc, hDc, hFc⟩ := va_pick (ws' := (wd01_0 a0 z0_tape a0_ground z0_spareGround z0_rule z0_spareRule z0_lines z0_spareLines z0_steps a0_now z0_trial z0_past z0_images z0_round z0_seating z0_fitting z0_imagesKept z0_refusedSteps v0_callsNoSuch z0_callsIllegal a0_ground z0_ground_formX z0_ground_formY z0_ground_foxX z0_ground_foxY z0_ground_seat z0_ground_strength z0_ground_debts z0_ground_near z0_ground_forms v0_ground_hares z0_ground_foxes z0_ground_safe a0_now a0_now_row z0_now_owedEach a0_ground z0_now_law a0_now_row cyI f0_now_row)) hP hD hS hA [0, 1, 2, 3] (by decide +kernel) rfl
  refine vx_calli (vx_runV (As := [.int p1]) (rest := [.int 0, .ref a2]) ⟨hx, hb, hml, hown, hts⟩ (ck_X10_bouts l dC dI cyB cyI cyJ cyP a0 a0_ground a0_now a0_now_row H.size (z0_tape) (z0_spareGround) (z0_rule) (z0_spareRule) (z0_lines) (z0_spareLines) (z0_steps) (z0_trial) (z0_past) (z0_images) (z0_round) (z0_seating) (z0_fitting) (z0_imagesKept) (z0_refusedSteps) (z0_callsIllegal) (z0_ground_formX) (z0_ground_formY) (z0_ground_foxX) (z0_ground_foxY) (z0_ground_seat) (z0_ground_strength) (z0_ground_debts) (z0_ground_near) (z0_ground_forms) (z0_ground_foxes) (z0_ground_safe) (z0_now_owedEach) (z0_now_law) v0_ground_hares f0_now_row v0_callsNoSuch p1 hw) (cwV 1 hts gL_bouts_X10_bouts rfl rfl rfl (by decide +kernel) ⟨Nat.le_of_ble_eq_true rfl, Nat.le_of_ble_eq_true rfl⟩) ⟨cPx_blind, va_recv (q := (RX10, TX10, 19)) hK hPc (ci := 10) (q0 := 0) rfl rfl, cPx_pre hPc hK hDc hNw hY hS hFc⟩ rfl rfl hl.1 rfl (lv_room (Nat.le_of_ble_eq_true rfl)) (dt_of tkL_bouts_k0 4 rfl) ⟨Nat.le_of_ble_eq_true rfl, Nat.le_of_ble_eq_true rfl⟩) hS (fun q _ h => hFc q h) hFc (fun q _ h => hFc q h) (fun en ce qx9 u t H1 locs ht hvm hpx hB hz1 hk1 hS hc9 hv9 hcl9 => ?_) (fun r2 u t H1 locs ht hvm hw hB hz1 hk1 hS => ?_)
  · obtain ⟨x1, rfl⟩ : ∃ z, z = u := ⟨_, rfl⟩
    obtain ⟨hw, hP1, hK1, hD1⟩ := hB
    rw [ht] at hP1
    obtain ⟨hP, hD⟩ := va_joinN (wr := [(a2, .inl (cyJ, n2, .inr (.inl f2)))]) (w1 := (wd01_0 a0 z0_tape a0_ground z0_spareGround z0_rule z0_spareRule z0_lines z0_spareLines z0_steps a0_now z0_trial z0_past z0_images z0_round z0_seating z0_fitting z0_imagesKept z0_refusedSteps x1 z0_callsIllegal a0_ground z0_ground_formX z0_ground_formY z0_ground_foxX z0_ground_foxY z0_ground_seat z0_ground_strength z0_ground_debts z0_ground_near z0_ground_forms v0_ground_hares z0_ground_foxes z0_ground_safe a0_now a0_now_row z0_now_owedEach a0_ground z0_now_law a0_now_row cyI f0_now_row)) (wn := (wd01_5 a0 z0_tape a0_ground z0_spareGround z0_rule z0_spareRule z0_lines z0_spareLines z0_steps a0_now z0_trial z0_past z0_images z0_round z0_seating z0_fitting z0_imagesKept z0_refusedSteps x1 z0_callsIllegal a0_ground z0_ground_formX z0_ground_formY z0_ground_foxX z0_ground_foxY z0_ground_seat z0_ground_strength z0_ground_debts z0_ground_near z0_ground_forms v0_ground_hares z0_ground_foxes z0_ground_safe a0_now a0_now_row z0_now_owedEach a0_ground z0_now_law a0_now_row cyI f0_now_row a2 cyJ n2 f2)) hP hD [0, 1, 2, 3] [4] [1, 2, 3, 4, 0] hCc rfl (by decide +kernel) (by decide +kernel) (by decide +kernel) rfl hk1 hFc hP1 hD1
    generalize H1 = H at hP hS hc9 ⊢
    obtain ⟨rfl, hw⟩ := hw
    refine vx_catch (own := RL) (name := "java/util/NoSuchElementException") hown [] ⟨0, 9, 12, 31⟩ [] (hTb.trans rfl) (fun z hz => nomatch hz) (by decide) (by decide) (hts _ uw_L_bouts_ct31) (va_Nw.use rfl (hY.2.2.2.1.2 _ (List.mem_of_getElem? (i := 1) rfl))) hc9 hv9 hcl9 ?_
    refine lv_astore_n (lv' := [(3, .ref qx9), (0, .ref a0), (1, .int p1), (2, .ref a2)]) hx hb (dt_of tkL_bouts_k0 8 rfl) rfl hl (by decide) rfl (fun ls hl => ?_)
    refine lv_iconst (v := 1) hx hb (dt_of tkL_bouts_k0 9 rfl) (by decide) ?_
    exact (W.widen (k := 1) (n := 6) (Nat.le_of_ble_eq_true rfl) (Nat.le_of_ble_eq_true rfl) (W.iret (v := 1) hx hb hr (fun t ht hW => ⟨⟨1, (x1, f2), rfl, hw, by rw [ht]; exact hP, va_K.moved hW.alike hK, hD⟩, hS.F ht⟩) hS.2.2 (dt_of tkL_bouts_k0 10 rfl)))
  obtain ⟨x1, rfl⟩ : ∃ z, z = u := ⟨_, rfl⟩
  obtain ⟨hP1, hK1, hD1⟩ := hB
  rw [ht] at hP1
  obtain ⟨hP, hD⟩ := va_join (wr := [(a2, .inl (cyJ, n2, .inr (.inl f2)))]) (w1 := (wd01_0 a0 z0_tape a0_ground z0_spareGround z0_rule z0_spareRule z0_lines z0_spareLines z0_steps a0_now z0_trial z0_past z0_images z0_round z0_seating z0_fitting z0_imagesKept z0_refusedSteps x1 z0_callsIllegal a0_ground z0_ground_formX z0_ground_formY z0_ground_foxX z0_ground_foxY z0_ground_seat z0_ground_strength z0_ground_debts z0_ground_near z0_ground_forms v0_ground_hares z0_ground_foxes z0_ground_safe a0_now a0_now_row z0_now_owedEach a0_ground z0_now_law a0_now_row cyI f0_now_row)) hP hD [0, 1, 2, 3] [4] rfl rfl (by decide) (by decide) hk1 hFc hP1 hD1
  have hP : va_P (dC, dI) vwCl (wd01_5 a0 z0_tape a0_ground z0_spareGround z0_rule z0_spareRule z0_lines z0_spareLines z0_steps a0_now z0_trial z0_past z0_images z0_round z0_seating z0_fitting z0_imagesKept z0_refusedSteps x1 z0_callsIllegal a0_ground z0_ground_formX z0_ground_formY z0_ground_foxX z0_ground_foxY z0_ground_seat z0_ground_strength z0_ground_debts z0_ground_near z0_ground_forms v0_ground_hares z0_ground_foxes z0_ground_safe a0_now a0_now_row z0_now_owedEach a0_ground z0_now_law a0_now_row cyI f0_now_row a2 cyJ n2 f2) H1 := hP.sub [1, 2, 3, 4, 0] rfl
  have hD : va_D A (wd01_5 a0 z0_tape a0_ground z0_spareGround z0_rule z0_spareRule z0_lines z0_spareLines z0_steps a0_now z0_trial z0_past z0_images z0_round z0_seating z0_fitting z0_imagesKept z0_refusedSteps x1 z0_callsIllegal a0_ground z0_ground_formX z0_ground_formY z0_ground_foxX z0_ground_foxY z0_ground_seat z0_ground_strength z0_ground_debts z0_ground_near z0_ground_forms v0_ground_hares z0_ground_foxes z0_ground_safe a0_now a0_now_row z0_now_owedEach a0_ground z0_now_law a0_now_row cyI f0_now_row a2 cyJ n2 f2) := hD.sub [1, 2, 3, 4, 0] (by decide) rfl
  generalize H1 = H at hP hS ⊢
  refine lv_i2l (v := r2.toInt64) hx hb (dt_of tkL_bouts_k0 5 rfl) rfl ?_
  refine lv_topl (fun x3 ex3 => ?_)
  have hw := hw x3 ex3
  obtain ⟨hi9, hw⟩ := hw
  refine va_last hx hb hK hP hD hS 4 2 rfl rfl hi9 (dt_of tkL_bouts_k0 6 rfl) (fun H locs hP hD hS => ?_)
  obtain ⟨f4, ef4⟩ : ∃ y : Nat → Int64, y = vp_updL f2 (0 : Int32).toNatClampNeg x3 := ⟨_, rfl⟩
  have hw := hw f4 ef4
  have hP : va_P (dC, dI) vwCl (wd01_5 a0 z0_tape a0_ground z0_spareGround z0_rule z0_spareRule z0_lines z0_spareLines z0_steps a0_now z0_trial z0_past z0_images z0_round z0_seating z0_fitting z0_imagesKept z0_refusedSteps x1 z0_callsIllegal a0_ground z0_ground_formX z0_ground_formY z0_ground_foxX z0_ground_foxY z0_ground_seat z0_ground_strength z0_ground_debts z0_ground_near z0_ground_forms v0_ground_hares z0_ground_foxes z0_ground_safe a0_now a0_now_row z0_now_owedEach a0_ground z0_now_law a0_now_row cyI f0_now_row a2 cyJ n2 f4) H := by rw [ef4]; exact hP
  have hD : va_D A (wd01_5 a0 z0_tape a0_ground z0_spareGround z0_rule z0_spareRule z0_lines z0_spareLines z0_steps a0_now z0_trial z0_past z0_images z0_round z0_seating z0_fitting z0_imagesKept z0_refusedSteps x1 z0_callsIllegal a0_ground z0_ground_formX z0_ground_formY z0_ground_foxX z0_ground_foxY z0_ground_seat z0_ground_strength z0_ground_debts z0_ground_near z0_ground_forms v0_ground_hares z0_ground_foxes z0_ground_safe a0_now a0_now_row z0_now_owedEach a0_ground z0_now_law a0_now_row cyI f0_now_row a2 cyJ n2 f4) := by rw [ef4]; exact hD
  refine lv_goto (tgt := 15) hx hb (dt_of tkL_bouts_k0 7 rfl) (by decide) ?_
  refine lv_iconst (v := 0) hx hb (dt_of tkL_bouts_k0 11 rfl) (by decide) ?_
  exact (W.widen (k := 1) (n := 6) (Nat.le_of_ble_eq_true rfl) (Nat.le_of_ble_eq_true rfl) (W.iret (v := 0) hx hb hr (fun t ht hW => ⟨⟨0, (x1, f4), rfl, hw, by rw [ht]; exact hP, va_K.moved hW.alike hK, hD⟩, hS.F ht⟩) hS.2.2 (dt_of tkL_bouts_k0 12 rfl)))
theorem ub_X10_needForm_268 : ∀ w ∈ (ux_atS RX10 268 "java/util/NoSuchElementException" 13 ux_rx ["java/lang/RuntimeException", "java/lang/Exception"]).filter (fun w => !goodWord w), w ∈ xB := by decide +kernel
theorem ug_X10_needForm_268 : ∀ w ∈ Cond.classLink RX10 264 "java/util/NoSuchElementException" :: Cond.initialized "java/util/NoSuchElementException" :: ux_atS RX10 268 "java/util/NoSuchElementException" 13 ux_rx ["java/lang/RuntimeException", "java/lang/Exception"], vx_ot w = true := by decide +kernel
theorem uh_X10_needForm_268 : ∀ w ∈ (ux_atS RX10 268 "java/util/NoSuchElementException" 13 ux_rx ["java/lang/RuntimeException", "java/lang/Exception"]).filter goodWord, w ∈ wsX10_needForm := by decide +kernel
theorem ui_X10_needForm_X10 : ∀ w ∈ u_ws RX10 TX10 19, w ∈ wsX10_needForm := uiM mbX10_needForm euX10 (by decide +kernel)
theorem ui_X10_needForm_X2 : ∀ w ∈ u_ws RX2 TX2 12, w ∈ wsX10_needForm := uiM mbX10_needForm euX2 (by decide +kernel)
theorem uw_X10_needForm_cl264 : (.classLink RX10 264 "java/util/NoSuchElementException" : Cond) ∈ wsX10_needForm := mbX10_needForm 2690 (by decide +kernel)
theorem uw_X10_needForm_f149 : (.fieldLink RX10 149 "MarchHares$Down" "forms" "I" : Cond) ∈ wsX10_needForm := mbX10_needForm 1557 (by decide +kernel)
theorem uw_X10_needForm_f19 : (.fieldLink RX10 19 "MarchHares" "ground" "LMarchHares$Down;" : Cond) ∈ wsX10_needForm := mbX10_needForm 20 (by decide +kernel)
theorem uw_X10_needForm_f261 : (.fieldLink RX10 261 "MarchHares" "callsNoSuch" "I" : Cond) ∈ wsX10_needForm := mbX10_needForm 2692 (by decide +kernel)
theorem uw_X10_needForm_ini264 : (.initialized "java/util/NoSuchElementException" : Cond) ∈ wsX10_needForm := mbX10_needForm 2691 (by decide +kernel)
set_option maxHeartbeats 4000000 in
set_option maxRecDepth 100000 in
theorem ck_X10_needForm (l : Launch) (dC : Nat → ClassId) (dI : Nat → Nat → Nat) (cyB cyI cyJ cyP : ClassId) (a0 a0_ground : Nat) (sz : Nat) (z0_tape : Value) (z0_spareGround : Value) (z0_rule : Value) (z0_spareRule : Value) (z0_lines : Value) (z0_spareLines : Value) (z0_steps : Value) (z0_now : Value) (z0_trial : Value) (z0_past : Value) (z0_images : Value) (z0_round : Value) (z0_seating : Value) (z0_fitting : Value) (z0_imagesKept : Value) (z0_refusedSteps : Value) (z0_callsIllegal : Value) (z0_ground_formX : Value) (z0_ground_formY : Value) (z0_ground_foxX : Value) (z0_ground_foxY : Value) (z0_ground_seat : Value) (z0_ground_strength : Value) (z0_ground_debts : Value) (z0_ground_near : Value) (z0_ground_hares : Value) (z0_ground_foxes : Value) (z0_ground_safe : Value) (v0_ground_forms : Int32) (v0_callsNoSuch : Int32) (p1 : Int32) {E : String → Int32 → Prop} {Q : Int32 → Prop} (hw : wq_X10_needForm v0_ground_forms v0_callsNoSuch p1 E Q) : vx_Met l yX10_needForm wsX10_needForm ({ frames := 6, cells := 1, slots := 6, locals := 120 }) (va_Pc [.ref a0, .int p1] (cPx l (dC, dI) (kT cyB cyI cyJ cyP) (wd01_6 a0 z0_tape a0_ground z0_spareGround z0_rule z0_spareRule z0_lines z0_spareLines z0_steps z0_now z0_trial z0_past z0_images z0_round z0_seating z0_fitting z0_imagesKept z0_refusedSteps v0_callsNoSuch z0_callsIllegal a0_ground z0_ground_formX z0_ground_formY z0_ground_foxX z0_ground_foxY z0_ground_seat z0_ground_strength z0_ground_debts z0_ground_near v0_ground_forms z0_ground_hares z0_ground_foxes z0_ground_safe) sz)) (va_Qv (fun (u : Int32) => Q u) (cB (dC, dI) (kT cyB cyI cyJ cyP) (va_A (wd01_6 a0 z0_tape a0_ground z0_spareGround z0_rule z0_spareRule z0_lines z0_spareLines z0_steps z0_now z0_trial z0_past z0_images z0_round z0_seating z0_fitting z0_imagesKept z0_refusedSteps v0_callsNoSuch z0_callsIllegal a0_ground z0_ground_formX z0_ground_formY z0_ground_foxX z0_ground_foxY z0_ground_seat z0_ground_strength z0_ground_debts z0_ground_near v0_ground_forms z0_ground_hares z0_ground_foxes z0_ground_safe) sz) (fun u : Int32 => ((wd01_6 a0 z0_tape a0_ground z0_spareGround z0_rule z0_spareRule z0_lines z0_spareLines z0_steps z0_now z0_trial z0_past z0_images z0_round z0_seating z0_fitting z0_imagesKept z0_refusedSteps u z0_callsIllegal a0_ground z0_ground_formX z0_ground_formY z0_ground_foxX z0_ground_foxY z0_ground_seat z0_ground_strength z0_ground_debts z0_ground_near v0_ground_forms z0_ground_hares z0_ground_foxes z0_ground_safe) : va_W))) (va_A (wd01_6 a0 z0_tape a0_ground z0_spareGround z0_rule z0_spareRule z0_lines z0_spareLines z0_steps z0_now z0_trial z0_past z0_images z0_round z0_seating z0_fitting z0_imagesKept z0_refusedSteps v0_callsNoSuch z0_callsIllegal a0_ground z0_ground_formX z0_ground_formY z0_ground_foxX z0_ground_foxY z0_ground_seat z0_ground_strength z0_ground_debts z0_ground_near v0_ground_forms z0_ground_hares z0_ground_foxes z0_ground_safe) sz)) (vx_X (fun _ => True) (fun (en : String) (u : Int32) (t : State) => E en u ∧ cB (dC, dI) (kT cyB cyI cyJ cyP) (va_A (wd01_6 a0 z0_tape a0_ground z0_spareGround z0_rule z0_spareRule z0_lines z0_spareLines z0_steps z0_now z0_trial z0_past z0_images z0_round z0_seating z0_fitting z0_imagesKept z0_refusedSteps v0_callsNoSuch z0_callsIllegal a0_ground z0_ground_formX z0_ground_formY z0_ground_foxX z0_ground_foxY z0_ground_seat z0_ground_strength z0_ground_debts z0_ground_near v0_ground_forms z0_ground_hares z0_ground_foxes z0_ground_safe) sz) (fun u : Int32 => ((wd01_6 a0 z0_tape a0_ground z0_spareGround z0_rule z0_spareRule z0_lines z0_spareLines z0_steps z0_now z0_trial z0_past z0_images z0_round z0_seating z0_fitting z0_imagesKept z0_refusedSteps u z0_callsIllegal a0_ground z0_ground_formX z0_ground_formY z0_ground_foxX z0_ground_foxY z0_ground_seat z0_ground_strength z0_ground_debts z0_ground_near v0_ground_forms z0_ground_hares z0_ground_foxes z0_ground_safe) : va_W)) u t) (va_A (wd01_6 a0 z0_tape a0_ground z0_spareGround z0_rule z0_spareRule z0_lines z0_spareLines z0_steps z0_now z0_trial z0_past z0_images z0_round z0_seating z0_fitting z0_imagesKept z0_refusedSteps v0_callsNoSuch z0_callsIllegal a0_ground z0_ground_formX z0_ground_formY z0_ground_foxX z0_ground_foxY z0_ground_seat z0_ground_strength z0_ground_debts z0_ground_near v0_ground_forms z0_ground_hares z0_ground_foxes z0_ground_safe) sz)) 1 6 (va_A (wd01_6 a0 z0_tape a0_ground z0_spareGround z0_rule z0_spareRule z0_lines z0_spareLines z0_steps z0_now z0_trial z0_past z0_images z0_round z0_seating z0_fitting z0_imagesKept z0_refusedSteps v0_callsNoSuch z0_callsIllegal a0_ground z0_ground_formX z0_ground_formY z0_ground_foxX z0_ground_foxY z0_ground_seat z0_ground_strength z0_ground_debts z0_ground_near v0_ground_forms z0_ground_hares z0_ground_foxes z0_ground_safe) sz) := by
  refine vx_ofW (cc := cX10_needForm) (maxL := 2) (ret := none) (by decide) rfl ?_
  intro p e s m args below meth c s₁ B hml hnt hv
  obtain ⟨rfl, hsz, hP, hK, hD0, hNw, hXl, hXu, hXn, hXt⟩ := hv
  have hx := B.exec
  have hb := B.bytes
  have hr := B.returns
  have hts := atoms_spec (ws := wsX10_needForm) B.pre
  have hown : s.vm.findClass RX10 = some m.cls := findClass_of_methodNamed B.named
  have hlocks := B.notSynchronized
  subst hsz
  have hD := hD0.self (sz := s.heap.size)
  generalize hAe : va_A (wd01_6 a0 z0_tape a0_ground z0_spareGround z0_rule z0_spareRule z0_lines z0_spareLines z0_steps z0_now z0_trial z0_past z0_images z0_round z0_seating z0_fitting z0_imagesKept z0_refusedSteps v0_callsNoSuch z0_callsIllegal a0_ground z0_ground_formX z0_ground_formY z0_ground_foxX z0_ground_foxY z0_ground_seat z0_ground_strength z0_ground_debts z0_ground_near v0_ground_forms z0_ground_hares z0_ground_foxes z0_ground_safe) s.heap.size = A at hD hXu hXn ⊢
  have hA : ∀ q : Nat, s.heap.size ≤ q → A q := fun q h => by rw [← hAe]; exact Or.inr h
  have hS : va_S A s.heap s.heap [] := va_S.rf
  have hP : va_P (dC, dI) vwCl (wd01_6 a0 z0_tape a0_ground z0_spareGround z0_rule z0_spareRule z0_lines z0_spareLines z0_steps z0_now z0_trial z0_past z0_images z0_round z0_seating z0_fitting z0_imagesKept z0_refusedSteps v0_callsNoSuch z0_callsIllegal a0_ground z0_ground_formX z0_ground_formY z0_ground_foxX z0_ground_foxY z0_ground_seat z0_ground_strength z0_ground_debts z0_ground_near v0_ground_forms z0_ground_hares z0_ground_foxes z0_ground_safe) s.heap := hP
  have hl := lv_entry ([.ref a0, .int p1]) (n := 2) (Nat.le_of_ble_eq_true rfl)
  rw [lg_entry_eq]
  generalize (lg_sl ([.ref a0, .int p1]) ++ List.replicate (2 - (lg_sl ([.ref a0, .int p1])).length) Slot.unset).toArray = ls at hl ⊢
  have hl : lv_has ls 2 [(0, .ref a0), (1, .int p1)] := hl
  have hY : cfY l s A := ⟨hXl, hXu, hXn, hXt⟩
  have hXs : cfX l s c A := ⟨hnt, hY⟩
  have C0 : cfx p s m _ meth c cX10_needForm none wsX10_needForm RX10 2 A (dC, dI) (kT cyB cyI cyJ cyP) ∧ cfX l s c A := ⟨⟨hx, hb, hr, hts, hown, hlocks, hml, hA, hK, hNw⟩, hXs⟩
  clear hAe
  obtain ⟨H, hH⟩ : ∃ H, H = s.heap := ⟨_, rfl⟩
  rw [← hH] at hP ⊢
  have hS : va_S A s.heap H [] := by rw [hH]; exact va_S.rf
  have hS := hS
  refine lv_iload_n hx hb (dt_of tkX10_needForm_k0 0 rfl) rfl (lv_at hl 1 rfl) ?_
  refine lv_iconst (v := 0) hx hb (dt_of tkX10_needForm_k0 1 rfl) (by decide) ?_
  refine lv_aload_n hx hb (dt_of tkX10_needForm_k0 2 rfl) rfl (lv_at hl 0 rfl) ?_
  refine va_get (D := (dC, dI)) (ci := 10) (v := .ref a0_ground) (C := RX10) (T := TX10) (N := 19) hx hb hts ui_X10_needForm_X10 hown hK hP 0 rfl rfl 1 (by decide) (hts _ uw_X10_needForm_f19) (fun _ h9 => h9) rfl (dt_of tkX10_needForm_k0 3 rfl) ?_
  refine va_get (D := (dC, dI)) (ci := 2) (v := .int v0_ground_forms) (C := RX2) (T := TX2) (N := 12) hx hb hts ui_X10_needForm_X2 hown hK hP 1 rfl rfl 8 (by decide) (hts _ uw_X10_needForm_f149) (fun _ h9 => h9) rfl (dt_of tkX10_needForm_k0 4 rfl) ?_
  refine lv_iconst (v := 1) hx hb (dt_of tkX10_needForm_k0 5 rfl) (by decide) ?_
  refine lv_isub hx hb (dt_of tkX10_needForm_k0 6 rfl) ?_
  obtain ⟨hCc, hPc, hDc, hFc⟩ := va_pick (ws' := []) hP hD hS hA [] (by decide +kernel) rfl
  refine va_calli (va_runS (As := [.int p1, .int 0, .int (v0_ground_forms - 1)]) (rest := []) ⟨hx, hb, hml, hown, hts⟩ (ck_X10_within l dC dI cyB cyI cyJ cyP  H.size    p1 0 (v0_ground_forms - 1) hw) (va_cwS 3 hts gX10_needForm_X10_within rfl rfl rfl (by decide +kernel) ⟨Nat.le_of_ble_eq_true rfl, Nat.le_of_ble_eq_true rfl⟩) ⟨cPc_blind, cPc_pre hPc hK hDc hNw⟩ rfl rfl hl.1 rfl (lv_room (Nat.le_of_ble_eq_true rfl)) (dt_of tkX10_needForm_k0 7 rfl) ⟨Nat.le_of_ble_eq_true rfl, Nat.le_of_ble_eq_true rfl⟩) hS (fun q _ h => hFc q h) hFc (fun r1 u t H1 locs ht hvm hw hB hz1 hk1 hS => ?_)
  obtain ⟨hP1, hK1, hD1⟩ := hB
  rw [ht] at hP1
  obtain ⟨hP, hD⟩ := va_joinI (wr := (wd01_6 a0 z0_tape a0_ground z0_spareGround z0_rule z0_spareRule z0_lines z0_spareLines z0_steps z0_now z0_trial z0_past z0_images z0_round z0_seating z0_fitting z0_imagesKept z0_refusedSteps v0_callsNoSuch z0_callsIllegal a0_ground z0_ground_formX z0_ground_formY z0_ground_foxX z0_ground_foxY z0_ground_seat z0_ground_strength z0_ground_debts z0_ground_near v0_ground_forms z0_ground_hares z0_ground_foxes z0_ground_safe)) (w1 := []) (wn := (wd01_6 a0 z0_tape a0_ground z0_spareGround z0_rule z0_spareRule z0_lines z0_spareLines z0_steps z0_now z0_trial z0_past z0_images z0_round z0_seating z0_fitting z0_imagesKept z0_refusedSteps v0_callsNoSuch z0_callsIllegal a0_ground z0_ground_formX z0_ground_formY z0_ground_foxX z0_ground_foxY z0_ground_seat z0_ground_strength z0_ground_debts z0_ground_near v0_ground_forms z0_ground_hares z0_ground_foxes z0_ground_safe)) hP hD [] [0, 1] hCc rfl (by decide +kernel) (by decide +kernel) rfl hk1 hFc hP1 hD1
  generalize H1 = H at hP hS ⊢
  refine lv_if_ne (tgt := 38) hx hb (dt_of tkX10_needForm_k0 8 rfl) (by decide) (fun c2 => ?_) (fun c2 => ?_)
  · have hw := hw.1 c2
    exact vx_ret (W.widen (k := 1) (n := 6) (Nat.le_of_ble_eq_true rfl) (Nat.le_of_ble_eq_true rfl) (W.vret hx hb hr (fun t ht hW => ⟨⟨(v0_callsNoSuch), rfl, hw, by rw [ht]; exact hP, va_K.moved hW.alike hK, hD⟩, hS.F ht⟩) hS.2.2 (dt_of tkX10_needForm_k30 4 rfl)))
  · have hw := hw.2 c2
    refine lv_aload_n hx hb (dt_of tkX10_needForm_k0 9 rfl) rfl (lv_at hl 0 rfl) ?_
    refine lv_dup hx hb (dt_of tkX10_needForm_k0 10 rfl) rfl ?_
    refine va_get (D := (dC, dI)) (ci := 10) (v := .int v0_callsNoSuch) (C := RX10) (T := TX10) (N := 19) hx hb hts ui_X10_needForm_X10 hown hK hP 0 rfl rfl 17 (by decide) (hts _ uw_X10_needForm_f261) (fun _ h9 => h9) rfl (dt_of tkX10_needForm_k0 11 rfl) ?_
    refine lv_iconst (v := 1) hx hb (dt_of tkX10_needForm_k0 12 rfl) (by decide) ?_
    refine lv_iadd hx hb (dt_of tkX10_needForm_k0 13 rfl) ?_
    refine lv_topi (fun x3 ex3 => ?_)
    have hw := hw x3 ex3
    refine va_put (D := (dC, dI)) (ci := 10) (v := .int x3) (ty := .int) (C := RX10) (T := TX10) (N := 19) hx hb hts ui_X10_needForm_X10 tyX10 tyX10_ok nmX10 hown hK hP hD hS 0 rfl rfl 17 (by decide) (hts _ uw_X10_needForm_f261) (fun _ h9 => h9) rfl (by decide +kernel) rfl rfl (Nat.le_of_ble_eq_true rfl) (dt_of tkX10_needForm_k0 14 rfl) (fun H locs hP hD hS => ?_)
    have hP : va_P (dC, dI) vwCl (wd01_6 a0 z0_tape a0_ground z0_spareGround z0_rule z0_spareRule z0_lines z0_spareLines z0_steps z0_now z0_trial z0_past z0_images z0_round z0_seating z0_fitting z0_imagesKept z0_refusedSteps x3 z0_callsIllegal a0_ground z0_ground_formX z0_ground_formY z0_ground_foxX z0_ground_foxY z0_ground_seat z0_ground_strength z0_ground_debts z0_ground_near v0_ground_forms z0_ground_hares z0_ground_foxes z0_ground_safe) H := hP
    have hD : va_D A (wd01_6 a0 z0_tape a0_ground z0_spareGround z0_rule z0_spareRule z0_lines z0_spareLines z0_steps z0_now z0_trial z0_past z0_images z0_round z0_seating z0_fitting z0_imagesKept z0_refusedSteps x3 z0_callsIllegal a0_ground z0_ground_formX z0_ground_formY z0_ground_foxX z0_ground_foxY z0_ground_seat z0_ground_strength z0_ground_debts z0_ground_near v0_ground_forms z0_ground_hares z0_ground_foxes z0_ground_safe) := hD
    obtain ⟨sa9, hsa9⟩ := hY.2.2.2.2.1 _ (List.mem_of_getElem? (i := 0) rfl)
    exact ux_throwSW hx hb hY.1 (own := RX10) (cls := "java/util/NoSuchElementException") (names := ["java/lang/RuntimeException", "java/lang/Exception"]) (ik := 264) (is := 401) (ic := 268) (rx := ux_rx) (by decide +kernel) (by decide +kernel) (by decide +kernel) (by decide +kernel) hown (by decide +kernel) (by decide +kernel) (hts _ uw_X10_needForm_cl264) (hts _ uw_X10_needForm_ini264) hsa9 (vx_hat (fun w hw9 => hts w (uh_X10_needForm_268 w hw9)) ub_X10_needForm_268 (xB_use hY.2.2.2.1)) ug_X10_needForm_268 hY.2.1 hY.2.2.1 hS (by rw [hml]; exact hl.1) (dt_of tkX10_needForm_k0 15 rfl) (dt_of tkX10_needForm_k30 0 rfl) (dt_of tkX10_needForm_k30 1 rfl) (dt_of tkX10_needForm_k30 2 rfl) (dt_of tkX10_needForm_k30 3 rfl) (fun x hx9 => (hXs.1 x hx9).elim) (Nat.le_of_ble_eq_true rfl) (Nat.le_of_ble_eq_true rfl) (Nat.le_of_ble_eq_true rfl) (Nat.le_of_ble_eq_true rfl) hlocks (fun t hal hsz9 hq9 => ⟨(x3), trivial, ⟨hw, hP.kept (fun k q hk9 => hq9 _ ((hP k q hk9).lt)), va_K.moved hal hK, hD⟩, xt_frame hS hsz9 hq9⟩) hS.2.2 (Nat.le_of_ble_eq_true rfl) (Nat.le_of_ble_eq_true rfl)
theorem ui_X2_apart_X2 : ∀ w ∈ u_ws RX2 TX2 12, w ∈ wsX2_apart := uiM mbX2_apart euX2 (by decide +kernel)
theorem uw_X2_apart_f15 : (.fieldLink RX2 15 "MarchHares$Down" "formY" "[I" : Cond) ∈ wsX2_apart := mbX2_apart 149 (by decide +kernel)
theorem uw_X2_apart_f9 : (.fieldLink RX2 9 "MarchHares$Down" "formX" "[I" : Cond) ∈ wsX2_apart := mbX2_apart 148 (by decide +kernel)
theorem uw_X2_apart_inim : (.initialized "java/lang/Math" : Cond) ∈ wsX2_apart := mbX2_apart 651 (by decide +kernel)
theorem uw_X2_apart_m108 : (.methodLink RX2 108 Lib.Math.abs.name : Cond) ∈ wsX2_apart := mbX2_apart 1092 (by decide +kernel)
theorem uw_X2_apart_mcabs : (.code Lib.Math.abs.name Lib.Math.abs.code 1 (some .int) : Cond) ∈ wsX2_apart := mbX2_apart 1094 (by decide +kernel)
theorem uw_X2_apart_msabs : (.static Lib.Math.abs.name : Cond) ∈ wsX2_apart := mbX2_apart 1093 (by decide +kernel)
set_option maxHeartbeats 4000000 in
set_option maxRecDepth 100000 in
theorem ck_X2_apart (l : Launch) (dC : Nat → ClassId) (dI : Nat → Nat → Nat) (cyB cyI cyJ cyP : ClassId) (a0 a0_formX a0_formY : Nat) (sz : Nat) (z0_foxX : Value) (z0_foxY : Value) (z0_seat : Value) (z0_strength : Value) (z0_debts : Value) (z0_near : Value) (z0_forms : Value) (z0_hares : Value) (z0_foxes : Value) (z0_safe : Value) (f0_formX : Nat → Int32) (f0_formY : Nat → Int32)  (p1 : Int32) (p2 : Int32) {Q : Int32 → Prop} (hw : wq_X2_apart f0_formX f0_formY  p1 p2 Q) : Met l yX2_apart wsX2_apart ({ frames := 1, cells := 0, slots := 0, locals := 32 }) (va_Pc [.ref a0, .int p1, .int p2] (cPc (dC, dI) (kT cyB cyI cyJ cyP) (wd01_7 a0 a0_formX a0_formY z0_foxX z0_foxY z0_seat z0_strength z0_debts z0_near z0_forms z0_hares z0_foxes z0_safe a0_formX cyI f0_formX a0_formY cyI f0_formY) sz)) (va_Qi (fun (r : Int32) (_ : Unit) => Q r ) (cB (dC, dI) (kT cyB cyI cyJ cyP) (va_A (wd01_7 a0 a0_formX a0_formY z0_foxX z0_foxY z0_seat z0_strength z0_debts z0_near z0_forms z0_hares z0_foxes z0_safe a0_formX cyI f0_formX a0_formY cyI f0_formY) sz) (fun u : Unit => ((wd01_7 a0 a0_formX a0_formY z0_foxX z0_foxY z0_seat z0_strength z0_debts z0_near z0_forms z0_hares z0_foxes z0_safe a0_formX cyI f0_formX a0_formY cyI f0_formY) : va_W))) (va_A (wd01_7 a0 a0_formX a0_formY z0_foxX z0_foxY z0_seat z0_strength z0_debts z0_near z0_forms z0_hares z0_foxes z0_safe a0_formX cyI f0_formX a0_formY cyI f0_formY) sz)) 0 0 (va_A (wd01_7 a0 a0_formX a0_formY z0_foxX z0_foxY z0_seat z0_strength z0_debts z0_near z0_forms z0_hares z0_foxes z0_safe a0_formX cyI f0_formX a0_formY cyI f0_formY) sz) := by
  refine Met.ofW (cc := cX2_apart) (maxL := 3) (ret := (some .int)) (by decide) rfl ?_
  intro p e s m args below meth c s₁ B hml hv
  obtain ⟨rfl, hsz, hP, hK, hD0, hNw⟩ := hv
  have hx := B.exec
  have hb := B.bytes
  have hr := B.returns
  have hts := atoms_spec (ws := wsX2_apart) B.pre
  have hown : s.vm.findClass RX2 = some m.cls := findClass_of_methodNamed B.named
  have hlocks := B.notSynchronized
  subst hsz
  have hD := hD0.self (sz := s.heap.size)
  generalize hAe : va_A (wd01_7 a0 a0_formX a0_formY z0_foxX z0_foxY z0_seat z0_strength z0_debts z0_near z0_forms z0_hares z0_foxes z0_safe a0_formX cyI f0_formX a0_formY cyI f0_formY) s.heap.size = A at hD ⊢
  have hA : ∀ q : Nat, s.heap.size ≤ q → A q := fun q h => by rw [← hAe]; exact Or.inr h
  have hS : va_S A s.heap s.heap [] := va_S.rf
  have hP : va_P (dC, dI) vwCl (wd01_7 a0 a0_formX a0_formY z0_foxX z0_foxY z0_seat z0_strength z0_debts z0_near z0_forms z0_hares z0_foxes z0_safe a0_formX cyI f0_formX a0_formY cyI f0_formY) s.heap := hP
  have hl := lv_entry ([.ref a0, .int p1, .int p2]) (n := 3) (Nat.le_of_ble_eq_true rfl)
  rw [lg_entry_eq]
  generalize (lg_sl ([.ref a0, .int p1, .int p2]) ++ List.replicate (3 - (lg_sl ([.ref a0, .int p1, .int p2])).length) Slot.unset).toArray = ls at hl ⊢
  have hl : lv_has ls 3 [(0, .ref a0), (1, .int p1), (2, .int p2)] := hl
  have C0 : cfx p s m _ meth c cX2_apart (some .int) wsX2_apart RX2 3 A (dC, dI) (kT cyB cyI cyJ cyP) := ⟨hx, hb, hr, hts, hown, hlocks, hml, hA, hK, hNw⟩
  clear hAe
  obtain ⟨H, hH⟩ : ∃ H, H = s.heap := ⟨_, rfl⟩
  rw [← hH] at hP ⊢
  have hS : va_S A s.heap H [] := by rw [hH]; exact va_S.rf
  have hS := hS
  refine lv_aload_n hx hb (dt_of tkX2_apart_k0 0 rfl) rfl (lv_at hl 0 rfl) ?_
  refine va_get (D := (dC, dI)) (ci := 2) (v := .ref a0_formX) (C := RX2) (T := TX2) (N := 12) hx hb hts ui_X2_apart_X2 hown hK hP 0 rfl rfl 0 (by decide) (hts _ uw_X2_apart_f9) (fun _ h9 => h9) rfl (dt_of tkX2_apart_k0 1 rfl) ?_
  refine lv_iload_n hx hb (dt_of tkX2_apart_k0 2 rfl) rfl (lv_at hl 1 rfl) ?_
  obtain ⟨hi9, hw⟩ := hw
  refine va_iald hx hb hK hP 1 1 rfl rfl hi9 (dt_of tkX2_apart_k0 3 rfl) ?_
  refine lv_topi (fun x1 ex1 => ?_)
  have hw := hw x1 ex1
  refine lv_aload_n hx hb (dt_of tkX2_apart_k0 4 rfl) rfl (lv_at hl 0 rfl) ?_
  refine va_get (D := (dC, dI)) (ci := 2) (v := .ref a0_formX) (C := RX2) (T := TX2) (N := 12) hx hb hts ui_X2_apart_X2 hown hK hP 0 rfl rfl 0 (by decide) (hts _ uw_X2_apart_f9) (fun _ h9 => h9) rfl (dt_of tkX2_apart_k0 5 rfl) ?_
  refine lv_iload_n hx hb (dt_of tkX2_apart_k0 6 rfl) rfl (lv_at hl 2 rfl) ?_
  obtain ⟨hi9, hw⟩ := hw
  refine va_iald hx hb hK hP 1 1 rfl rfl hi9 (dt_of tkX2_apart_k0 7 rfl) ?_
  refine lv_topi (fun x2 ex2 => ?_)
  have hw := hw x2 ex2
  refine lv_isub hx hb (dt_of tkX2_apart_k0 8 rfl) ?_
  refine va_mabs hx hb (by rw [hml]; exact hl.1.symm) hown (hts _ uw_X2_apart_m108) (hts _ uw_X2_apart_msabs) (hts _ uw_X2_apart_inim) (hts _ uw_X2_apart_mcabs) (Nat.le_of_ble_eq_true rfl) (Nat.le_of_ble_eq_true rfl) (Nat.le_of_ble_eq_true rfl) (Nat.le_of_ble_eq_true rfl) (dt_of tkX2_apart_k0 9 rfl) ?_
  refine lv_topi (fun x3 ex3 => ?_)
  have hw := hw x3 ex3
  refine lv_aload_n hx hb (dt_of tkX2_apart_k0 10 rfl) rfl (lv_at hl 0 rfl) ?_
  refine va_get (D := (dC, dI)) (ci := 2) (v := .ref a0_formY) (C := RX2) (T := TX2) (N := 12) hx hb hts ui_X2_apart_X2 hown hK hP 0 rfl rfl 1 (by decide) (hts _ uw_X2_apart_f15) (fun _ h9 => h9) rfl (dt_of tkX2_apart_k0 11 rfl) ?_
  refine lv_iload_n hx hb (dt_of tkX2_apart_k0 12 rfl) rfl (lv_at hl 1 rfl) ?_
  obtain ⟨hi9, hw⟩ := hw
  refine va_iald hx hb hK hP 2 1 rfl rfl hi9 (dt_of tkX2_apart_k0 13 rfl) ?_
  refine lv_topi (fun x4 ex4 => ?_)
  have hw := hw x4 ex4
  refine lv_aload_n hx hb (dt_of tkX2_apart_k0 14 rfl) rfl (lv_at hl 0 rfl) ?_
  refine va_get (D := (dC, dI)) (ci := 2) (v := .ref a0_formY) (C := RX2) (T := TX2) (N := 12) hx hb hts ui_X2_apart_X2 hown hK hP 0 rfl rfl 1 (by decide) (hts _ uw_X2_apart_f15) (fun _ h9 => h9) rfl (dt_of tkX2_apart_k0 15 rfl) ?_
  refine lv_iload_n hx hb (dt_of tkX2_apart_k26 0 rfl) rfl (lv_at hl 2 rfl) ?_
  obtain ⟨hi9, hw⟩ := hw
  refine va_iald hx hb hK hP 2 1 rfl rfl hi9 (dt_of tkX2_apart_k26 1 rfl) ?_
  refine lv_topi (fun x5 ex5 => ?_)
  have hw := hw x5 ex5
  refine lv_isub hx hb (dt_of tkX2_apart_k26 2 rfl) ?_
  refine va_mabs hx hb (by rw [hml]; exact hl.1.symm) hown (hts _ uw_X2_apart_m108) (hts _ uw_X2_apart_msabs) (hts _ uw_X2_apart_inim) (hts _ uw_X2_apart_mcabs) (Nat.le_of_ble_eq_true rfl) (Nat.le_of_ble_eq_true rfl) (Nat.le_of_ble_eq_true rfl) (Nat.le_of_ble_eq_true rfl) (dt_of tkX2_apart_k26 3 rfl) ?_
  refine lv_topi (fun x6 ex6 => ?_)
  have hw := hw x6 ex6
  refine lv_iadd hx hb (dt_of tkX2_apart_k26 4 rfl) ?_
  exact ((W.iret (v := (x3 + x6)) hx hb hr (fun t ht hW => ⟨⟨(x3 + x6), (), rfl, hw, by rw [ht]; exact hP, va_K.moved hW.alike hK, hD⟩, hS.F ht⟩) hS.2.2 (dt_of tkX2_apart_k26 5 rfl)))
theorem ui_X1_seatedIn_X1 : ∀ w ∈ u_ws RX1 TX1 4, w ∈ wsX1_seatedIn := uiM mbX1_seatedIn euX1 (by decide +kernel)
theorem ui_X1_seatedIn_X2 : ∀ w ∈ u_ws RX2 TX2 12, w ∈ wsX1_seatedIn := uiM mbX1_seatedIn euX2 (by decide +kernel)
theorem uw_X1_seatedIn_f24 : (.fieldLink RX1 24 "MarchHares$Days" "down" "LMarchHares$Down;" : Cond) ∈ wsX1_seatedIn := mbX1_seatedIn 322 (by decide +kernel)
theorem uw_X1_seatedIn_f32 : (.fieldLink RX1 32 "MarchHares$Down" "hares" "I" : Cond) ∈ wsX1_seatedIn := mbX1_seatedIn 324 (by decide +kernel)
set_option maxHeartbeats 4000000 in
set_option maxRecDepth 100000 in
theorem kb_X1_seatedIn_38 {p : Program} {l : Launch} {e : Env} {s : State} {m : MethodId} {args : Array Value} {below : List Frame} {meth : Method} {c : Code} {A : Nat → Prop} (dC : Nat → ClassId) (dI : Nat → Nat → Nat) (cyB cyI cyJ cyP : ClassId) (a0 a0_down a0_row : Nat) (z0_owedEach : Value) (z0_law : Value) (z0_down_formX : Value) (z0_down_formY : Value) (z0_down_foxX : Value) (z0_down_foxY : Value) (z0_down_seat : Value) (z0_down_strength : Value) (z0_down_debts : Value) (z0_down_near : Value) (z0_down_forms : Value) (z0_down_foxes : Value) (z0_down_safe : Value) (v0_down_hares : Int32) (f0_row : Nat → Int32) (Q : Int32 → Prop) (K4 : Int32 → Int32 → Int32 → Prop) (hK4 : ∀ (H : Heap) (locs : List Loc) (ls : Array Slot) (l1 : Int32) (l2 : Int32) (l3 : Int32), va_P (dC, dI) vwCl (wd01_3 a0 a0_row z0_owedEach a0_down z0_law a0_down z0_down_formX z0_down_formY z0_down_foxX z0_down_foxY z0_down_seat z0_down_strength z0_down_debts z0_down_near z0_down_forms v0_down_hares z0_down_foxes z0_down_safe a0_row cyI f0_row) H → va_D A (wd01_3 a0 a0_row z0_owedEach a0_down z0_law a0_down z0_down_formX z0_down_formY z0_down_foxX z0_down_foxY z0_down_seat z0_down_strength z0_down_debts z0_down_near z0_down_forms v0_down_hares z0_down_foxes z0_down_safe a0_row cyI f0_row) → va_S A s.heap H locs → lv_has ls 4 [(0, .ref a0), (1, .int l1), (2, .int l2), (3, .int l3)] → K4 l1 l2 l3 → W p l e (headSpec wsX1_seatedIn ({ frames := 1, cells := 0, slots := 0, locals := 21 })).room s m args below meth c H locs 0 0 (MQ below (va_Qi (fun (r : Int32) (_ : Unit) => Q r ) (cB (dC, dI) (kT cyB cyI cyJ cyP) A (fun u : Unit => ((wd01_3 a0 a0_row z0_owedEach a0_down z0_law a0_down z0_down_formX z0_down_formY z0_down_foxX z0_down_foxY z0_down_seat z0_down_strength z0_down_debts z0_down_near z0_down_forms v0_down_hares z0_down_foxes z0_down_safe a0_row cyI f0_row) : va_W))) A) args s 0 0 A) (F0 m 4 ls [])) (C0 : cfx p s m args meth c cX1_seatedIn (some .int) wsX1_seatedIn RX1 4 A (dC, dI) (kT cyB cyI cyJ cyP)) : ∀ (H : Heap) (locs : List Loc) (ls : Array Slot) (l1 : Int32) (l2 : Int32) (l3 : Int32), va_P (dC, dI) vwCl (wd01_3 a0 a0_row z0_owedEach a0_down z0_law a0_down z0_down_formX z0_down_formY z0_down_foxX z0_down_foxY z0_down_seat z0_down_strength z0_down_debts z0_down_near z0_down_forms v0_down_hares z0_down_foxes z0_down_safe a0_row cyI f0_row) H → va_D A (wd01_3 a0 a0_row z0_owedEach a0_down z0_law a0_down z0_down_formX z0_down_formY z0_down_foxX z0_down_foxY z0_down_seat z0_down_strength z0_down_debts z0_down_near z0_down_forms v0_down_hares z0_down_foxes z0_down_safe a0_row cyI f0_row) → va_S A s.heap H locs → lv_has ls 4 [(0, .ref a0), (1, .int l1), (2, .int l2), (3, .int l3)] → wb_X1_seatedIn_38 v0_down_hares f0_row Q K4 l1 l2 l3 → W p l e (headSpec wsX1_seatedIn ({ frames := 1, cells := 0, slots := 0, locals := 21 })).room s m args below meth c H locs 0 0 (MQ below (va_Qi (fun (r : Int32) (_ : Unit) => Q r ) (cB (dC, dI) (kT cyB cyI cyJ cyP) A (fun u : Unit => ((wd01_3 a0 a0_row z0_owedEach a0_down z0_law a0_down z0_down_formX z0_down_formY z0_down_foxX z0_down_foxY z0_down_seat z0_down_strength z0_down_debts z0_down_near z0_down_forms v0_down_hares z0_down_foxes z0_down_safe a0_row cyI f0_row) : va_W))) A) args s 0 0 A) (F0 m 38 ls []) := by
  obtain ⟨hx, hb, hr, hts, hown, hlocks, hml, hA, hK, hNw⟩ := id C0
  intro H locs ls l1 l2 l3 hP hD hS hl hw
  obtain ⟨x7, ex7⟩ : ∃ y : Int32, y = l3 + 1 := ⟨_, rfl⟩
  have hw := hw x7 ex7
  refine lv_iinc (v := x7) (lv' := [(3, .int x7), (0, .ref a0), (1, .int l1), (2, .int l2)]) hx hb (dt_of tkX1_seatedIn_k28 8 rfl) hl (k := 3) rfl (by rw [ex7]; rfl) (by decide) rfl (fun ls hl => ?_)
  refine lv_goto (tgt := 4) hx hb (dt_of tkX1_seatedIn_k28 9 rfl) (by decide) ?_
  exact hK4 _ _ _ l1 l2 x7 hP hD hS (lv_sub hl [1, 2, 3, 0] rfl) hw
set_option maxHeartbeats 4000000 in
set_option maxRecDepth 100000 in
theorem kl_X1_seatedIn_4 {p : Program} {l : Launch} {e : Env} {s : State} {m : MethodId} {args : Array Value} {below : List Frame} {meth : Method} {c : Code} {A : Nat → Prop} (dC : Nat → ClassId) (dI : Nat → Nat → Nat) (cyB cyI cyJ cyP : ClassId) (a0 a0_down a0_row : Nat) (z0_owedEach : Value) (z0_law : Value) (z0_down_formX : Value) (z0_down_formY : Value) (z0_down_foxX : Value) (z0_down_foxY : Value) (z0_down_seat : Value) (z0_down_strength : Value) (z0_down_debts : Value) (z0_down_near : Value) (z0_down_forms : Value) (z0_down_foxes : Value) (z0_down_safe : Value) (v0_down_hares : Int32) (f0_row : Nat → Int32) (Q : Int32 → Prop)  (C0 : cfx p s m args meth c cX1_seatedIn (some .int) wsX1_seatedIn RX1 4 A (dC, dI) (kT cyB cyI cyJ cyP)) : ∀ (n : Nat) (H : Heap) (locs : List Loc) (ls : Array Slot) (l1 : Int32) (l2 : Int32) (l3 : Int32), va_P (dC, dI) vwCl (wd01_3 a0 a0_row z0_owedEach a0_down z0_law a0_down z0_down_formX z0_down_formY z0_down_foxX z0_down_foxY z0_down_seat z0_down_strength z0_down_debts z0_down_near z0_down_forms v0_down_hares z0_down_foxes z0_down_safe a0_row cyI f0_row) H → va_D A (wd01_3 a0 a0_row z0_owedEach a0_down z0_law a0_down z0_down_formX z0_down_formY z0_down_foxX z0_down_foxY z0_down_seat z0_down_strength z0_down_debts z0_down_near z0_down_forms v0_down_hares z0_down_foxes z0_down_safe a0_row cyI f0_row) → va_S A s.heap H locs → lv_has ls 4 [(0, .ref a0), (1, .int l1), (2, .int l2), (3, .int l3)] → wl_X1_seatedIn_4 v0_down_hares f0_row Q  n l1 l2 l3 → W p l e (headSpec wsX1_seatedIn ({ frames := 1, cells := 0, slots := 0, locals := 21 })).room s m args below meth c H locs 0 0 (MQ below (va_Qi (fun (r : Int32) (_ : Unit) => Q r ) (cB (dC, dI) (kT cyB cyI cyJ cyP) A (fun u : Unit => ((wd01_3 a0 a0_row z0_owedEach a0_down z0_law a0_down z0_down_formX z0_down_formY z0_down_foxX z0_down_foxY z0_down_seat z0_down_strength z0_down_debts z0_down_near z0_down_forms v0_down_hares z0_down_foxes z0_down_safe a0_row cyI f0_row) : va_W))) A) args s 0 0 A) (F0 m 4 ls []) := by
  obtain ⟨hx, hb, hr, hts, hown, hlocks, hml, hA, hK, hNw⟩ := id C0
  intro n
  induction n with
  | zero => intro H locs ls l1 l2 l3 hP hD hS hl hw; exact False.elim hw
  | succ n ih =>
    intro H locs ls l1 l2 l3 hP hD hS hl hw
    refine lv_iload_n hx hb (dt_of tkX1_seatedIn_k0 4 rfl) rfl (lv_at hl 3 rfl) ?_
    refine lv_aload_n hx hb (dt_of tkX1_seatedIn_k0 5 rfl) rfl (lv_at hl 0 rfl) ?_
    refine va_get (D := (dC, dI)) (ci := 1) (v := .ref a0_down) (C := RX1) (T := TX1) (N := 4) hx hb hts ui_X1_seatedIn_X1 hown hK hP 0 rfl rfl 2 (by decide) (hts _ uw_X1_seatedIn_f24) (fun _ h9 => h9) rfl (dt_of tkX1_seatedIn_k0 6 rfl) ?_
    refine va_get (D := (dC, dI)) (ci := 2) (v := .int v0_down_hares) (C := RX2) (T := TX2) (N := 12) hx hb hts ui_X1_seatedIn_X2 hown hK hP 1 rfl rfl 9 (by decide) (hts _ uw_X1_seatedIn_f32) (fun _ h9 => h9) rfl (dt_of tkX1_seatedIn_k0 7 rfl) ?_
    refine lv_icmp_ge (tgt := 44) hx hb (dt_of tkX1_seatedIn_k0 8 rfl) (by decide) (fun c1 => ?_) (fun c1 => ?_)
    · have hw := hw.1 c1
      refine lv_iload_n hx hb (dt_of tkX1_seatedIn_k28 10 rfl) rfl (lv_at hl 2 rfl) ?_
      exact ((W.iret (v := l2) hx hb hr (fun t ht hW => ⟨⟨l2, (), rfl, hw, by rw [ht]; exact hP, va_K.moved hW.alike hK, hD⟩, hS.F ht⟩) hS.2.2 (dt_of tkX1_seatedIn_k28 11 rfl)))
    · have hw := hw.2 c1
      refine lv_aload_n hx hb (dt_of tkX1_seatedIn_k0 9 rfl) rfl (lv_at hl 0 rfl) ?_
      refine lv_iload_n hx hb (dt_of tkX1_seatedIn_k0 10 rfl) rfl (lv_at hl 3 rfl) ?_
      obtain ⟨hCc, hPc, hDc, hFc⟩ := va_pick (ws' := (wd01_1 a0 a0_row z0_owedEach a0_down z0_law a0_row cyI f0_row)) hP hD hS hA [0, 2] (by decide +kernel) rfl
      refine va_calli (va_runV (As := [.int l3]) (rest := []) ⟨hx, hb, hml, hown, hts⟩ (ck_X1_isCaught l dC dI cyB cyI cyJ cyP a0 a0_row H.size (z0_owedEach) (.ref a0_down) (z0_law) f0_row  l3 hw) (cwV 1 hts gX1_seatedIn_X1_isCaught rfl rfl rfl (by decide +kernel) ⟨Nat.le_of_ble_eq_true rfl, Nat.le_of_ble_eq_true rfl⟩) ⟨cPc_blind, va_recv (q := (RX1, TX1, 4)) hK hPc (ci := 1) (q0 := 0) rfl rfl, cPc_pre hPc hK hDc hNw⟩ rfl rfl hl.1 rfl (lv_room (Nat.le_of_ble_eq_true rfl)) (dt_of tkX1_seatedIn_k0 11 rfl) ⟨Nat.le_of_ble_eq_true rfl, Nat.le_of_ble_eq_true rfl⟩) hS (fun q _ h => hFc q h) hFc (fun r2 u t H1 locs ht hvm hw hB hz1 hk1 hS => ?_)
      obtain ⟨hP1, hK1, hD1⟩ := hB
      rw [ht] at hP1
      obtain ⟨hP, hD⟩ := va_joinN (wr := (wd01_8 a0_down z0_down_formX z0_down_formY z0_down_foxX z0_down_foxY z0_down_seat z0_down_strength z0_down_debts z0_down_near z0_down_forms v0_down_hares z0_down_foxes z0_down_safe)) (w1 := (wd01_1 a0 a0_row z0_owedEach a0_down z0_law a0_row cyI f0_row)) (wn := (wd01_3 a0 a0_row z0_owedEach a0_down z0_law a0_down z0_down_formX z0_down_formY z0_down_foxX z0_down_foxY z0_down_seat z0_down_strength z0_down_debts z0_down_near z0_down_forms v0_down_hares z0_down_foxes z0_down_safe a0_row cyI f0_row)) hP hD [0, 2] [1] [1, 0, 2] hCc rfl (by decide +kernel) (by decide +kernel) (by decide +kernel) rfl hk1 hFc hP1 hD1
      generalize H1 = H at hP hS ⊢
      refine lv_if_ne (tgt := 38) hx hb (dt_of tkX1_seatedIn_k0 12 rfl) (by decide) (fun c3 => ?_) (fun c3 => ?_)
      · have hw := hw.1 c3
        exact kb_X1_seatedIn_38 dC dI cyB cyI cyJ cyP a0 a0_down a0_row z0_owedEach z0_law z0_down_formX z0_down_formY z0_down_foxX z0_down_foxY z0_down_seat z0_down_strength z0_down_debts z0_down_near z0_down_forms z0_down_foxes z0_down_safe v0_down_hares f0_row Q (wl_X1_seatedIn_4 v0_down_hares f0_row Q  n) ih C0 _ _ _ l1 l2 l3 hP hD hS (lv_sub hl [0, 1, 2, 3] rfl) hw
      · have hw := hw.2 c3
        refine lv_aload_n hx hb (dt_of tkX1_seatedIn_k0 13 rfl) rfl (lv_at hl 0 rfl) ?_
        refine lv_iload_n hx hb (dt_of tkX1_seatedIn_k0 14 rfl) rfl (lv_at hl 3 rfl) ?_
        obtain ⟨hCc, hPc, hDc, hFc⟩ := va_pick (ws' := (wd01_1 a0 a0_row z0_owedEach a0_down z0_law a0_row cyI f0_row)) hP hD hS hA [0, 2] (by decide +kernel) rfl
        refine va_calli (va_runV (As := [.int l3]) (rest := []) ⟨hx, hb, hml, hown, hts⟩ (ck_X1_sits l dC dI cyB cyI cyJ cyP a0 a0_row H.size (z0_owedEach) (.ref a0_down) (z0_law) f0_row  l3 hw) (cwV 1 hts gX1_seatedIn_X1_sits rfl rfl rfl (by decide +kernel) ⟨Nat.le_of_ble_eq_true rfl, Nat.le_of_ble_eq_true rfl⟩) ⟨cPc_blind, va_recv (q := (RX1, TX1, 4)) hK hPc (ci := 1) (q0 := 0) rfl rfl, cPc_pre hPc hK hDc hNw⟩ rfl rfl hl.1 rfl (lv_room (Nat.le_of_ble_eq_true rfl)) (dt_of tkX1_seatedIn_k0 15 rfl) ⟨Nat.le_of_ble_eq_true rfl, Nat.le_of_ble_eq_true rfl⟩) hS (fun q _ h => hFc q h) hFc (fun r4 u t H1 locs ht hvm hw hB hz1 hk1 hS => ?_)
        obtain ⟨hP1, hK1, hD1⟩ := hB
        rw [ht] at hP1
        obtain ⟨hP, hD⟩ := va_joinN (wr := (wd01_8 a0_down z0_down_formX z0_down_formY z0_down_foxX z0_down_foxY z0_down_seat z0_down_strength z0_down_debts z0_down_near z0_down_forms v0_down_hares z0_down_foxes z0_down_safe)) (w1 := (wd01_1 a0 a0_row z0_owedEach a0_down z0_law a0_row cyI f0_row)) (wn := (wd01_3 a0 a0_row z0_owedEach a0_down z0_law a0_down z0_down_formX z0_down_formY z0_down_foxX z0_down_foxY z0_down_seat z0_down_strength z0_down_debts z0_down_near z0_down_forms v0_down_hares z0_down_foxes z0_down_safe a0_row cyI f0_row)) hP hD [0, 2] [1] [1, 0, 2] hCc rfl (by decide +kernel) (by decide +kernel) (by decide +kernel) rfl hk1 hFc hP1 hD1
        generalize H1 = H at hP hS ⊢
        refine lv_iload_n hx hb (dt_of tkX1_seatedIn_k28 0 rfl) rfl (lv_at hl 1 rfl) ?_
        refine lv_icmp_ne (tgt := 38) hx hb (dt_of tkX1_seatedIn_k28 1 rfl) (by decide) (fun c5 => ?_) (fun c5 => ?_)
        · have hw := hw.1 c5
          exact kb_X1_seatedIn_38 dC dI cyB cyI cyJ cyP a0 a0_down a0_row z0_owedEach z0_law z0_down_formX z0_down_formY z0_down_foxX z0_down_foxY z0_down_seat z0_down_strength z0_down_debts z0_down_near z0_down_forms z0_down_foxes z0_down_safe v0_down_hares f0_row Q (wl_X1_seatedIn_4 v0_down_hares f0_row Q  n) ih C0 _ _ _ l1 l2 l3 hP hD hS (lv_sub hl [0, 1, 2, 3] rfl) hw
        · have hw := hw.2 c5
          refine lv_iload_n hx hb (dt_of tkX1_seatedIn_k28 2 rfl) rfl (lv_at hl 2 rfl) ?_
          refine lv_iconst (v := 1) hx hb (dt_of tkX1_seatedIn_k28 3 rfl) (by decide) ?_
          refine lv_iload_n hx hb (dt_of tkX1_seatedIn_k28 4 rfl) rfl (lv_at hl 3 rfl) ?_
          refine lv_ishl hx hb (dt_of tkX1_seatedIn_k28 5 rfl) ?_
          refine lv_ior hx hb (dt_of tkX1_seatedIn_k28 6 rfl) ?_
          refine lv_topi (fun x6 ex6 => ?_)
          have hw := hw x6 ex6
          refine lv_istore_n (lv' := [(2, .int x6), (0, .ref a0), (1, .int l1), (3, .int l3)]) hx hb (dt_of tkX1_seatedIn_k28 7 rfl) rfl hl (by decide) rfl (fun ls hl => ?_)
          exact kb_X1_seatedIn_38 dC dI cyB cyI cyJ cyP a0 a0_down a0_row z0_owedEach z0_law z0_down_formX z0_down_formY z0_down_foxX z0_down_foxY z0_down_seat z0_down_strength z0_down_debts z0_down_near z0_down_forms z0_down_foxes z0_down_safe v0_down_hares f0_row Q (wl_X1_seatedIn_4 v0_down_hares f0_row Q  n) ih C0 _ _ _ l1 x6 l3 hP hD hS (lv_sub hl [1, 2, 0, 3] rfl) hw
set_option maxHeartbeats 4000000 in
set_option maxRecDepth 100000 in
theorem ck_X1_seatedIn (l : Launch) (dC : Nat → ClassId) (dI : Nat → Nat → Nat) (cyB cyI cyJ cyP : ClassId) (a0 a0_down a0_row : Nat) (sz : Nat) (z0_owedEach : Value) (z0_law : Value) (z0_down_formX : Value) (z0_down_formY : Value) (z0_down_foxX : Value) (z0_down_foxY : Value) (z0_down_seat : Value) (z0_down_strength : Value) (z0_down_debts : Value) (z0_down_near : Value) (z0_down_forms : Value) (z0_down_foxes : Value) (z0_down_safe : Value) (v0_down_hares : Int32) (f0_row : Nat → Int32)  (p1 : Int32) {Q : Int32 → Prop} (hw : wq_X1_seatedIn v0_down_hares f0_row  p1 Q) : Met l yX1_seatedIn wsX1_seatedIn ({ frames := 1, cells := 0, slots := 0, locals := 21 }) (va_Pc [.ref a0, .int p1] (cPc (dC, dI) (kT cyB cyI cyJ cyP) (wd01_3 a0 a0_row z0_owedEach a0_down z0_law a0_down z0_down_formX z0_down_formY z0_down_foxX z0_down_foxY z0_down_seat z0_down_strength z0_down_debts z0_down_near z0_down_forms v0_down_hares z0_down_foxes z0_down_safe a0_row cyI f0_row) sz)) (va_Qi (fun (r : Int32) (_ : Unit) => Q r ) (cB (dC, dI) (kT cyB cyI cyJ cyP) (va_A (wd01_3 a0 a0_row z0_owedEach a0_down z0_law a0_down z0_down_formX z0_down_formY z0_down_foxX z0_down_foxY z0_down_seat z0_down_strength z0_down_debts z0_down_near z0_down_forms v0_down_hares z0_down_foxes z0_down_safe a0_row cyI f0_row) sz) (fun u : Unit => ((wd01_3 a0 a0_row z0_owedEach a0_down z0_law a0_down z0_down_formX z0_down_formY z0_down_foxX z0_down_foxY z0_down_seat z0_down_strength z0_down_debts z0_down_near z0_down_forms v0_down_hares z0_down_foxes z0_down_safe a0_row cyI f0_row) : va_W))) (va_A (wd01_3 a0 a0_row z0_owedEach a0_down z0_law a0_down z0_down_formX z0_down_formY z0_down_foxX z0_down_foxY z0_down_seat z0_down_strength z0_down_debts z0_down_near z0_down_forms v0_down_hares z0_down_foxes z0_down_safe a0_row cyI f0_row) sz)) 0 0 (va_A (wd01_3 a0 a0_row z0_owedEach a0_down z0_law a0_down z0_down_formX z0_down_formY z0_down_foxX z0_down_foxY z0_down_seat z0_down_strength z0_down_debts z0_down_near z0_down_forms v0_down_hares z0_down_foxes z0_down_safe a0_row cyI f0_row) sz) := by
  refine Met.ofW (cc := cX1_seatedIn) (maxL := 4) (ret := (some .int)) (by decide) rfl ?_
  intro p e s m args below meth c s₁ B hml hv
  obtain ⟨rfl, hsz, hP, hK, hD0, hNw⟩ := hv
  have hx := B.exec
  have hb := B.bytes
  have hr := B.returns
  have hts := atoms_spec (ws := wsX1_seatedIn) B.pre
  have hown : s.vm.findClass RX1 = some m.cls := findClass_of_methodNamed B.named
  have hlocks := B.notSynchronized
  subst hsz
  have hD := hD0.self (sz := s.heap.size)
  generalize hAe : va_A (wd01_3 a0 a0_row z0_owedEach a0_down z0_law a0_down z0_down_formX z0_down_formY z0_down_foxX z0_down_foxY z0_down_seat z0_down_strength z0_down_debts z0_down_near z0_down_forms v0_down_hares z0_down_foxes z0_down_safe a0_row cyI f0_row) s.heap.size = A at hD ⊢
  have hA : ∀ q : Nat, s.heap.size ≤ q → A q := fun q h => by rw [← hAe]; exact Or.inr h
  have hS : va_S A s.heap s.heap [] := va_S.rf
  have hP : va_P (dC, dI) vwCl (wd01_3 a0 a0_row z0_owedEach a0_down z0_law a0_down z0_down_formX z0_down_formY z0_down_foxX z0_down_foxY z0_down_seat z0_down_strength z0_down_debts z0_down_near z0_down_forms v0_down_hares z0_down_foxes z0_down_safe a0_row cyI f0_row) s.heap := hP
  have hl := lv_entry ([.ref a0, .int p1]) (n := 4) (Nat.le_of_ble_eq_true rfl)
  rw [lg_entry_eq]
  generalize (lg_sl ([.ref a0, .int p1]) ++ List.replicate (4 - (lg_sl ([.ref a0, .int p1])).length) Slot.unset).toArray = ls at hl ⊢
  have hl : lv_has ls 4 [(0, .ref a0), (1, .int p1)] := hl
  have C0 : cfx p s m _ meth c cX1_seatedIn (some .int) wsX1_seatedIn RX1 4 A (dC, dI) (kT cyB cyI cyJ cyP) := ⟨hx, hb, hr, hts, hown, hlocks, hml, hA, hK, hNw⟩
  clear hAe
  obtain ⟨H, hH⟩ : ∃ H, H = s.heap := ⟨_, rfl⟩
  rw [← hH] at hP ⊢
  have hS : va_S A s.heap H [] := by rw [hH]; exact va_S.rf
  have hS := hS
  refine lv_iconst (v := 0) hx hb (dt_of tkX1_seatedIn_k0 0 rfl) (by decide) ?_
  refine lv_istore_n (lv' := [(2, .int 0), (0, .ref a0), (1, .int p1)]) hx hb (dt_of tkX1_seatedIn_k0 1 rfl) rfl hl (by decide) rfl (fun ls hl => ?_)
  refine lv_iconst (v := 0) hx hb (dt_of tkX1_seatedIn_k0 2 rfl) (by decide) ?_
  refine lv_istore_n (lv' := [(3, .int 0), (2, .int 0), (0, .ref a0), (1, .int p1)]) hx hb (dt_of tkX1_seatedIn_k0 3 rfl) rfl hl (by decide) rfl (fun ls hl => ?_)
  obtain ⟨n9, hw⟩ := hw
  exact kl_X1_seatedIn_4 dC dI cyB cyI cyJ cyP a0 a0_down a0_row z0_owedEach z0_law z0_down_formX z0_down_formY z0_down_foxX z0_down_foxY z0_down_seat z0_down_strength z0_down_debts z0_down_near z0_down_forms z0_down_foxes z0_down_safe v0_down_hares f0_row Q  C0 n9 _ _ _ p1 0 0 hP hD hS (lv_sub hl [2, 3, 1, 0] rfl) hw
theorem ui_X1_owed_X1 : ∀ w ∈ u_ws RX1 TX1 4, w ∈ wsX1_owed := uiM mbX1_owed euX1 (by decide +kernel)
theorem ui_X1_owed_X2 : ∀ w ∈ u_ws RX2 TX2 12, w ∈ wsX1_owed := uiM mbX1_owed euX2 (by decide +kernel)
theorem uw_X1_owed_f24 : (.fieldLink RX1 24 "MarchHares$Days" "down" "LMarchHares$Down;" : Cond) ∈ wsX1_owed := mbX1_owed 322 (by decide +kernel)
theorem uw_X1_owed_f32 : (.fieldLink RX1 32 "MarchHares$Down" "hares" "I" : Cond) ∈ wsX1_owed := mbX1_owed 324 (by decide +kernel)
set_option maxHeartbeats 4000000 in
set_option maxRecDepth 100000 in
theorem kl_X1_owed_4 {p : Program} {l : Launch} {e : Env} {s : State} {m : MethodId} {args : Array Value} {below : List Frame} {meth : Method} {c : Code} {A : Nat → Prop} (dC : Nat → ClassId) (dI : Nat → Nat → Nat) (cyB cyI cyJ cyP : ClassId) (a0 a0_down a0_row : Nat) (z0_owedEach : Value) (z0_law : Value) (z0_down_formX : Value) (z0_down_formY : Value) (z0_down_foxX : Value) (z0_down_foxY : Value) (z0_down_seat : Value) (z0_down_strength : Value) (z0_down_debts : Value) (z0_down_near : Value) (z0_down_forms : Value) (z0_down_foxes : Value) (z0_down_safe : Value) (v0_down_hares : Int32) (f0_row : Nat → Int32) (Q : Int32 → Prop)  (C0 : cfx p s m args meth c cX1_owed (some .int) wsX1_owed RX1 4 A (dC, dI) (kT cyB cyI cyJ cyP)) : ∀ (n : Nat) (H : Heap) (locs : List Loc) (ls : Array Slot) (l1 : Int32) (l2 : Int32) (l3 : Int32), va_P (dC, dI) vwCl (wd01_3 a0 a0_row z0_owedEach a0_down z0_law a0_down z0_down_formX z0_down_formY z0_down_foxX z0_down_foxY z0_down_seat z0_down_strength z0_down_debts z0_down_near z0_down_forms v0_down_hares z0_down_foxes z0_down_safe a0_row cyI f0_row) H → va_D A (wd01_3 a0 a0_row z0_owedEach a0_down z0_law a0_down z0_down_formX z0_down_formY z0_down_foxX z0_down_foxY z0_down_seat z0_down_strength z0_down_debts z0_down_near z0_down_forms v0_down_hares z0_down_foxes z0_down_safe a0_row cyI f0_row) → va_S A s.heap H locs → lv_has ls 4 [(0, .ref a0), (1, .int l1), (2, .int l2), (3, .int l3)] → wl_X1_owed_4 v0_down_hares f0_row Q  n l1 l2 l3 → W p l e (headSpec wsX1_owed ({ frames := 1, cells := 0, slots := 0, locals := 22 })).room s m args below meth c H locs 0 0 (MQ below (va_Qi (fun (r : Int32) (_ : Unit) => Q r ) (cB (dC, dI) (kT cyB cyI cyJ cyP) A (fun u : Unit => ((wd01_3 a0 a0_row z0_owedEach a0_down z0_law a0_down z0_down_formX z0_down_formY z0_down_foxX z0_down_foxY z0_down_seat z0_down_strength z0_down_debts z0_down_near z0_down_forms v0_down_hares z0_down_foxes z0_down_safe a0_row cyI f0_row) : va_W))) A) args s 0 0 A) (F0 m 4 ls []) := by
  obtain ⟨hx, hb, hr, hts, hown, hlocks, hml, hA, hK, hNw⟩ := id C0
  intro n
  induction n with
  | zero => intro H locs ls l1 l2 l3 hP hD hS hl hw; exact False.elim hw
  | succ n ih =>
    intro H locs ls l1 l2 l3 hP hD hS hl hw
    refine lv_iload_n hx hb (dt_of tkX1_owed_k0 4 rfl) rfl (lv_at hl 3 rfl) ?_
    refine lv_aload_n hx hb (dt_of tkX1_owed_k0 5 rfl) rfl (lv_at hl 0 rfl) ?_
    refine va_get (D := (dC, dI)) (ci := 1) (v := .ref a0_down) (C := RX1) (T := TX1) (N := 4) hx hb hts ui_X1_owed_X1 hown hK hP 0 rfl rfl 2 (by decide) (hts _ uw_X1_owed_f24) (fun _ h9 => h9) rfl (dt_of tkX1_owed_k0 6 rfl) ?_
    refine va_get (D := (dC, dI)) (ci := 2) (v := .int v0_down_hares) (C := RX2) (T := TX2) (N := 12) hx hb hts ui_X1_owed_X2 hown hK hP 1 rfl rfl 9 (by decide) (hts _ uw_X1_owed_f32) (fun _ h9 => h9) rfl (dt_of tkX1_owed_k0 7 rfl) ?_
    refine lv_icmp_ge (tgt := 30) hx hb (dt_of tkX1_owed_k0 8 rfl) (by decide) (fun c1 => ?_) (fun c1 => ?_)
    · have hw := hw.1 c1
      refine lv_iload_n hx hb (dt_of tkX1_owed_k24 2 rfl) rfl (lv_at hl 2 rfl) ?_
      exact ((W.iret (v := l2) hx hb hr (fun t ht hW => ⟨⟨l2, (), rfl, hw, by rw [ht]; exact hP, va_K.moved hW.alike hK, hD⟩, hS.F ht⟩) hS.2.2 (dt_of tkX1_owed_k24 3 rfl)))
    · have hw := hw.2 c1
      refine lv_iload_n hx hb (dt_of tkX1_owed_k0 9 rfl) rfl (lv_at hl 2 rfl) ?_
      refine lv_aload_n hx hb (dt_of tkX1_owed_k0 10 rfl) rfl (lv_at hl 0 rfl) ?_
      refine lv_iload_n hx hb (dt_of tkX1_owed_k0 11 rfl) rfl (lv_at hl 3 rfl) ?_
      refine lv_iload_n hx hb (dt_of tkX1_owed_k0 12 rfl) rfl (lv_at hl 1 rfl) ?_
      obtain ⟨hCc, hPc, hDc, hFc⟩ := va_pick (ws' := (wd01_1 a0 a0_row z0_owedEach a0_down z0_law a0_row cyI f0_row)) hP hD hS hA [0, 2] (by decide +kernel) rfl
      refine va_calli (va_runV (As := [.int l3, .int l1]) (rest := [.int l2]) ⟨hx, hb, hml, hown, hts⟩ (ck_X1_owesTo l dC dI cyB cyI cyJ cyP a0 a0_row H.size (z0_owedEach) (.ref a0_down) (z0_law) f0_row  l3 l1 hw) (cwV 2 hts gX1_owed_X1_owesTo rfl rfl rfl (by decide +kernel) ⟨Nat.le_of_ble_eq_true rfl, Nat.le_of_ble_eq_true rfl⟩) ⟨cPc_blind, va_recv (q := (RX1, TX1, 4)) hK hPc (ci := 1) (q0 := 0) rfl rfl, cPc_pre hPc hK hDc hNw⟩ rfl rfl hl.1 rfl (lv_room (Nat.le_of_ble_eq_true rfl)) (dt_of tkX1_owed_k0 13 rfl) ⟨Nat.le_of_ble_eq_true rfl, Nat.le_of_ble_eq_true rfl⟩) hS (fun q _ h => hFc q h) hFc (fun r2 u t H1 locs ht hvm hw hB hz1 hk1 hS => ?_)
      obtain ⟨hP1, hK1, hD1⟩ := hB
      rw [ht] at hP1
      obtain ⟨hP, hD⟩ := va_joinN (wr := (wd01_8 a0_down z0_down_formX z0_down_formY z0_down_foxX z0_down_foxY z0_down_seat z0_down_strength z0_down_debts z0_down_near z0_down_forms v0_down_hares z0_down_foxes z0_down_safe)) (w1 := (wd01_1 a0 a0_row z0_owedEach a0_down z0_law a0_row cyI f0_row)) (wn := (wd01_3 a0 a0_row z0_owedEach a0_down z0_law a0_down z0_down_formX z0_down_formY z0_down_foxX z0_down_foxY z0_down_seat z0_down_strength z0_down_debts z0_down_near z0_down_forms v0_down_hares z0_down_foxes z0_down_safe a0_row cyI f0_row)) hP hD [0, 2] [1] [1, 0, 2] hCc rfl (by decide +kernel) (by decide +kernel) (by decide +kernel) rfl hk1 hFc hP1 hD1
      generalize H1 = H at hP hS ⊢
      refine lv_iadd hx hb (dt_of tkX1_owed_k0 14 rfl) ?_
      refine lv_topi (fun x3 ex3 => ?_)
      have hw := hw x3 ex3
      refine lv_istore_n (lv' := [(2, .int x3), (0, .ref a0), (1, .int l1), (3, .int l3)]) hx hb (dt_of tkX1_owed_k0 15 rfl) rfl hl (by decide) rfl (fun ls hl => ?_)
      obtain ⟨x4, ex4⟩ : ∃ y : Int32, y = l3 + 1 := ⟨_, rfl⟩
      have hw := hw x4 ex4
      refine lv_iinc (v := x4) (lv' := [(3, .int x4), (2, .int x3), (0, .ref a0), (1, .int l1)]) hx hb (dt_of tkX1_owed_k24 0 rfl) hl (k := 3) rfl (by rw [ex4]; rfl) (by decide) rfl (fun ls hl => ?_)
      refine lv_goto (tgt := 4) hx hb (dt_of tkX1_owed_k24 1 rfl) (by decide) ?_
      exact ih _ _ _ l1 x3 x4 hP hD hS (lv_sub hl [2, 3, 1, 0] rfl) hw
set_option maxHeartbeats 4000000 in
set_option maxRecDepth 100000 in
theorem ck_X1_owed (l : Launch) (dC : Nat → ClassId) (dI : Nat → Nat → Nat) (cyB cyI cyJ cyP : ClassId) (a0 a0_down a0_row : Nat) (sz : Nat) (z0_owedEach : Value) (z0_law : Value) (z0_down_formX : Value) (z0_down_formY : Value) (z0_down_foxX : Value) (z0_down_foxY : Value) (z0_down_seat : Value) (z0_down_strength : Value) (z0_down_debts : Value) (z0_down_near : Value) (z0_down_forms : Value) (z0_down_foxes : Value) (z0_down_safe : Value) (v0_down_hares : Int32) (f0_row : Nat → Int32)  (p1 : Int32) {Q : Int32 → Prop} (hw : wq_X1_owed v0_down_hares f0_row  p1 Q) : Met l yX1_owed wsX1_owed ({ frames := 1, cells := 0, slots := 0, locals := 22 }) (va_Pc [.ref a0, .int p1] (cPc (dC, dI) (kT cyB cyI cyJ cyP) (wd01_3 a0 a0_row z0_owedEach a0_down z0_law a0_down z0_down_formX z0_down_formY z0_down_foxX z0_down_foxY z0_down_seat z0_down_strength z0_down_debts z0_down_near z0_down_forms v0_down_hares z0_down_foxes z0_down_safe a0_row cyI f0_row) sz)) (va_Qi (fun (r : Int32) (_ : Unit) => Q r ) (cB (dC, dI) (kT cyB cyI cyJ cyP) (va_A (wd01_3 a0 a0_row z0_owedEach a0_down z0_law a0_down z0_down_formX z0_down_formY z0_down_foxX z0_down_foxY z0_down_seat z0_down_strength z0_down_debts z0_down_near z0_down_forms v0_down_hares z0_down_foxes z0_down_safe a0_row cyI f0_row) sz) (fun u : Unit => ((wd01_3 a0 a0_row z0_owedEach a0_down z0_law a0_down z0_down_formX z0_down_formY z0_down_foxX z0_down_foxY z0_down_seat z0_down_strength z0_down_debts z0_down_near z0_down_forms v0_down_hares z0_down_foxes z0_down_safe a0_row cyI f0_row) : va_W))) (va_A (wd01_3 a0 a0_row z0_owedEach a0_down z0_law a0_down z0_down_formX z0_down_formY z0_down_foxX z0_down_foxY z0_down_seat z0_down_strength z0_down_debts z0_down_near z0_down_forms v0_down_hares z0_down_foxes z0_down_safe a0_row cyI f0_row) sz)) 0 0 (va_A (wd01_3 a0 a0_row z0_owedEach a0_down z0_law a0_down z0_down_formX z0_down_formY z0_down_foxX z0_down_foxY z0_down_seat z0_down_strength z0_down_debts z0_down_near z0_down_forms v0_down_hares z0_down_foxes z0_down_safe a0_row cyI f0_row) sz) := by
  refine Met.ofW (cc := cX1_owed) (maxL := 4) (ret := (some .int)) (by decide) rfl ?_
  intro p e s m args below meth c s₁ B hml hv
  obtain ⟨rfl, hsz, hP, hK, hD0, hNw⟩ := hv
  have hx := B.exec
  have hb := B.bytes
  have hr := B.returns
  have hts := atoms_spec (ws := wsX1_owed) B.pre
  have hown : s.vm.findClass RX1 = some m.cls := findClass_of_methodNamed B.named
  have hlocks := B.notSynchronized
  subst hsz
  have hD := hD0.self (sz := s.heap.size)
  generalize hAe : va_A (wd01_3 a0 a0_row z0_owedEach a0_down z0_law a0_down z0_down_formX z0_down_formY z0_down_foxX z0_down_foxY z0_down_seat z0_down_strength z0_down_debts z0_down_near z0_down_forms v0_down_hares z0_down_foxes z0_down_safe a0_row cyI f0_row) s.heap.size = A at hD ⊢
  have hA : ∀ q : Nat, s.heap.size ≤ q → A q := fun q h => by rw [← hAe]; exact Or.inr h
  have hS : va_S A s.heap s.heap [] := va_S.rf
  have hP : va_P (dC, dI) vwCl (wd01_3 a0 a0_row z0_owedEach a0_down z0_law a0_down z0_down_formX z0_down_formY z0_down_foxX z0_down_foxY z0_down_seat z0_down_strength z0_down_debts z0_down_near z0_down_forms v0_down_hares z0_down_foxes z0_down_safe a0_row cyI f0_row) s.heap := hP
  have hl := lv_entry ([.ref a0, .int p1]) (n := 4) (Nat.le_of_ble_eq_true rfl)
  rw [lg_entry_eq]
  generalize (lg_sl ([.ref a0, .int p1]) ++ List.replicate (4 - (lg_sl ([.ref a0, .int p1])).length) Slot.unset).toArray = ls at hl ⊢
  have hl : lv_has ls 4 [(0, .ref a0), (1, .int p1)] := hl
  have C0 : cfx p s m _ meth c cX1_owed (some .int) wsX1_owed RX1 4 A (dC, dI) (kT cyB cyI cyJ cyP) := ⟨hx, hb, hr, hts, hown, hlocks, hml, hA, hK, hNw⟩
  clear hAe
  obtain ⟨H, hH⟩ : ∃ H, H = s.heap := ⟨_, rfl⟩
  rw [← hH] at hP ⊢
  have hS : va_S A s.heap H [] := by rw [hH]; exact va_S.rf
  have hS := hS
  refine lv_iconst (v := 0) hx hb (dt_of tkX1_owed_k0 0 rfl) (by decide) ?_
  refine lv_istore_n (lv' := [(2, .int 0), (0, .ref a0), (1, .int p1)]) hx hb (dt_of tkX1_owed_k0 1 rfl) rfl hl (by decide) rfl (fun ls hl => ?_)
  refine lv_iconst (v := 0) hx hb (dt_of tkX1_owed_k0 2 rfl) (by decide) ?_
  refine lv_istore_n (lv' := [(3, .int 0), (2, .int 0), (0, .ref a0), (1, .int p1)]) hx hb (dt_of tkX1_owed_k0 3 rfl) rfl hl (by decide) rfl (fun ls hl => ?_)
  obtain ⟨n9, hw⟩ := hw
  exact kl_X1_owed_4 dC dI cyB cyI cyJ cyP a0 a0_down a0_row z0_owedEach z0_law z0_down_formX z0_down_formY z0_down_foxX z0_down_foxY z0_down_seat z0_down_strength z0_down_debts z0_down_near z0_down_forms z0_down_foxes z0_down_safe v0_down_hares f0_row Q  C0 n9 _ _ _ p1 0 0 hP hD hS (lv_sub hl [2, 3, 1, 0] rfl) hw
theorem ui_X4_setFacts_X4 : ∀ w ∈ u_ws RX4 TX4 5, w ∈ wsX4_setFacts := uiM mbX4_setFacts euX4 (by decide +kernel)
theorem uw_X4_setFacts_f21 : (.fieldLink RX4 21 "MarchHares$Law" "facts" "[I" : Cond) ∈ wsX4_setFacts := mbX4_setFacts 203 (by decide +kernel)
set_option maxHeartbeats 4000000 in
set_option maxRecDepth 100000 in
theorem ck_X4_setFacts (l : Launch) (dC : Nat → ClassId) (dI : Nat → Nat → Nat) (cyB cyI cyJ cyP : ClassId) (a0 a0_facts : Nat) (sz : Nat) (z0_kinds : Value) (z0_values : Value) (z0_pile : Value) (z0_length : Value)  (f0_facts : Nat → Int32) (p1 : Int32) (p2 : Int32) (p3 : Int32) (p4 : Int32) (p5 : Int32) {Q : (Nat → Int32) → Prop} (hw : wq_X4_setFacts  f0_facts p1 p2 p3 p4 p5 Q) : Met l yX4_setFacts wsX4_setFacts ({ frames := 0, cells := 0, slots := 0, locals := 0 }) (va_Pc [.ref a0, .int p1, .int p2, .int p3, .int p4, .int p5] (cPc (dC, dI) (kT cyB cyI cyJ cyP) (wd01_9 a0 z0_kinds z0_values z0_pile a0_facts z0_length a0_facts cyI f0_facts) sz)) (va_Qv (fun (u : (Nat → Int32)) => Q u) (cB (dC, dI) (kT cyB cyI cyJ cyP) (va_A (wd01_9 a0 z0_kinds z0_values z0_pile a0_facts z0_length a0_facts cyI f0_facts) sz) (fun u : (Nat → Int32) => ((wd01_9 a0 z0_kinds z0_values z0_pile a0_facts z0_length a0_facts cyI u) : va_W))) (va_A (wd01_9 a0 z0_kinds z0_values z0_pile a0_facts z0_length a0_facts cyI f0_facts) sz)) 0 0 (va_A (wd01_9 a0 z0_kinds z0_values z0_pile a0_facts z0_length a0_facts cyI f0_facts) sz) := by
  refine Met.ofW (cc := cX4_setFacts) (maxL := 6) (ret := none) (by decide) rfl ?_
  intro p e s m args below meth c s₁ B hml hv
  obtain ⟨rfl, hsz, hP, hK, hD0, hNw⟩ := hv
  have hx := B.exec
  have hb := B.bytes
  have hr := B.returns
  have hts := atoms_spec (ws := wsX4_setFacts) B.pre
  have hown : s.vm.findClass RX4 = some m.cls := findClass_of_methodNamed B.named
  have hlocks := B.notSynchronized
  subst hsz
  have hD := hD0.self (sz := s.heap.size)
  generalize hAe : va_A (wd01_9 a0 z0_kinds z0_values z0_pile a0_facts z0_length a0_facts cyI f0_facts) s.heap.size = A at hD ⊢
  have hA : ∀ q : Nat, s.heap.size ≤ q → A q := fun q h => by rw [← hAe]; exact Or.inr h
  have hS : va_S A s.heap s.heap [] := va_S.rf
  have hP : va_P (dC, dI) vwCl (wd01_9 a0 z0_kinds z0_values z0_pile a0_facts z0_length a0_facts cyI f0_facts) s.heap := hP
  have hl := lv_entry ([.ref a0, .int p1, .int p2, .int p3, .int p4, .int p5]) (n := 6) (Nat.le_of_ble_eq_true rfl)
  rw [lg_entry_eq]
  generalize (lg_sl ([.ref a0, .int p1, .int p2, .int p3, .int p4, .int p5]) ++ List.replicate (6 - (lg_sl ([.ref a0, .int p1, .int p2, .int p3, .int p4, .int p5])).length) Slot.unset).toArray = ls at hl ⊢
  have hl : lv_has ls 6 [(0, .ref a0), (1, .int p1), (2, .int p2), (3, .int p3), (4, .int p4), (5, .int p5)] := hl
  have C0 : cfx p s m _ meth c cX4_setFacts none wsX4_setFacts RX4 6 A (dC, dI) (kT cyB cyI cyJ cyP) := ⟨hx, hb, hr, hts, hown, hlocks, hml, hA, hK, hNw⟩
  clear hAe
  obtain ⟨H, hH⟩ : ∃ H, H = s.heap := ⟨_, rfl⟩
  rw [← hH] at hP ⊢
  have hS : va_S A s.heap H [] := by rw [hH]; exact va_S.rf
  have hS := hS
  refine lv_aload_n hx hb (dt_of tkX4_setFacts_k0 0 rfl) rfl (lv_at hl 0 rfl) ?_
  refine va_get (D := (dC, dI)) (ci := 4) (v := .ref a0_facts) (C := RX4) (T := TX4) (N := 5) hx hb hts ui_X4_setFacts_X4 hown hK hP 0 rfl rfl 3 (by decide) (hts _ uw_X4_setFacts_f21) (fun _ h9 => h9) rfl (dt_of tkX4_setFacts_k0 1 rfl) ?_
  refine lv_iconst (v := 0) hx hb (dt_of tkX4_setFacts_k0 2 rfl) (by decide) ?_
  refine lv_iload_n hx hb (dt_of tkX4_setFacts_k0 3 rfl) rfl (lv_at hl 1 rfl) ?_
  refine va_iast hx hb hK hP hD hS 1 1 rfl rfl (vin (by decide)) (dt_of tkX4_setFacts_k0 4 rfl) (fun H locs hP hD hS => ?_)
  obtain ⟨f1, ef1⟩ : ∃ y : Nat → Int32, y = upd f0_facts (0 : Int32).toNatClampNeg p1 := ⟨_, rfl⟩
  have hw := hw f1 ef1
  have hP : va_P (dC, dI) vwCl (wd01_9 a0 z0_kinds z0_values z0_pile a0_facts z0_length a0_facts cyI f1) H := by rw [ef1]; exact hP
  have hD : va_D A (wd01_9 a0 z0_kinds z0_values z0_pile a0_facts z0_length a0_facts cyI f1) := by rw [ef1]; exact hD
  refine lv_aload_n hx hb (dt_of tkX4_setFacts_k0 5 rfl) rfl (lv_at hl 0 rfl) ?_
  refine va_get (D := (dC, dI)) (ci := 4) (v := .ref a0_facts) (C := RX4) (T := TX4) (N := 5) hx hb hts ui_X4_setFacts_X4 hown hK hP 0 rfl rfl 3 (by decide) (hts _ uw_X4_setFacts_f21) (fun _ h9 => h9) rfl (dt_of tkX4_setFacts_k0 6 rfl) ?_
  refine lv_iconst (v := 1) hx hb (dt_of tkX4_setFacts_k0 7 rfl) (by decide) ?_
  refine lv_iload_n hx hb (dt_of tkX4_setFacts_k0 8 rfl) rfl (lv_at hl 2 rfl) ?_
  refine va_iast hx hb hK hP hD hS 1 1 rfl rfl (vin (by decide)) (dt_of tkX4_setFacts_k0 9 rfl) (fun H locs hP hD hS => ?_)
  obtain ⟨f2, ef2⟩ : ∃ y : Nat → Int32, y = upd f1 (1 : Int32).toNatClampNeg p2 := ⟨_, rfl⟩
  have hw := hw f2 ef2
  have hP : va_P (dC, dI) vwCl (wd01_9 a0 z0_kinds z0_values z0_pile a0_facts z0_length a0_facts cyI f2) H := by rw [ef2]; exact hP
  have hD : va_D A (wd01_9 a0 z0_kinds z0_values z0_pile a0_facts z0_length a0_facts cyI f2) := by rw [ef2]; exact hD
  refine lv_aload_n hx hb (dt_of tkX4_setFacts_k0 10 rfl) rfl (lv_at hl 0 rfl) ?_
  refine va_get (D := (dC, dI)) (ci := 4) (v := .ref a0_facts) (C := RX4) (T := TX4) (N := 5) hx hb hts ui_X4_setFacts_X4 hown hK hP 0 rfl rfl 3 (by decide) (hts _ uw_X4_setFacts_f21) (fun _ h9 => h9) rfl (dt_of tkX4_setFacts_k0 11 rfl) ?_
  refine lv_iconst (v := 2) hx hb (dt_of tkX4_setFacts_k0 12 rfl) (by decide) ?_
  refine lv_iload_n hx hb (dt_of tkX4_setFacts_k0 13 rfl) rfl (lv_at hl 3 rfl) ?_
  refine va_iast hx hb hK hP hD hS 1 1 rfl rfl (vin (by decide)) (dt_of tkX4_setFacts_k0 14 rfl) (fun H locs hP hD hS => ?_)
  obtain ⟨f3, ef3⟩ : ∃ y : Nat → Int32, y = upd f2 (2 : Int32).toNatClampNeg p3 := ⟨_, rfl⟩
  have hw := hw f3 ef3
  have hP : va_P (dC, dI) vwCl (wd01_9 a0 z0_kinds z0_values z0_pile a0_facts z0_length a0_facts cyI f3) H := by rw [ef3]; exact hP
  have hD : va_D A (wd01_9 a0 z0_kinds z0_values z0_pile a0_facts z0_length a0_facts cyI f3) := by rw [ef3]; exact hD
  refine lv_aload_n hx hb (dt_of tkX4_setFacts_k0 15 rfl) rfl (lv_at hl 0 rfl) ?_
  refine va_get (D := (dC, dI)) (ci := 4) (v := .ref a0_facts) (C := RX4) (T := TX4) (N := 5) hx hb hts ui_X4_setFacts_X4 hown hK hP 0 rfl rfl 3 (by decide) (hts _ uw_X4_setFacts_f21) (fun _ h9 => h9) rfl (dt_of tkX4_setFacts_k22 0 rfl) ?_
  refine lv_iconst (v := 3) hx hb (dt_of tkX4_setFacts_k22 1 rfl) (by decide) ?_
  refine lv_iload hx hb (dt_of tkX4_setFacts_k22 2 rfl) (lv_at hl 4 rfl) ?_
  refine va_iast hx hb hK hP hD hS 1 1 rfl rfl (vin (by decide)) (dt_of tkX4_setFacts_k22 3 rfl) (fun H locs hP hD hS => ?_)
  obtain ⟨f4, ef4⟩ : ∃ y : Nat → Int32, y = upd f3 (3 : Int32).toNatClampNeg p4 := ⟨_, rfl⟩
  have hw := hw f4 ef4
  have hP : va_P (dC, dI) vwCl (wd01_9 a0 z0_kinds z0_values z0_pile a0_facts z0_length a0_facts cyI f4) H := by rw [ef4]; exact hP
  have hD : va_D A (wd01_9 a0 z0_kinds z0_values z0_pile a0_facts z0_length a0_facts cyI f4) := by rw [ef4]; exact hD
  refine lv_aload_n hx hb (dt_of tkX4_setFacts_k22 4 rfl) rfl (lv_at hl 0 rfl) ?_
  refine va_get (D := (dC, dI)) (ci := 4) (v := .ref a0_facts) (C := RX4) (T := TX4) (N := 5) hx hb hts ui_X4_setFacts_X4 hown hK hP 0 rfl rfl 3 (by decide) (hts _ uw_X4_setFacts_f21) (fun _ h9 => h9) rfl (dt_of tkX4_setFacts_k22 5 rfl) ?_
  refine lv_iconst (v := 4) hx hb (dt_of tkX4_setFacts_k22 6 rfl) (by decide) ?_
  refine lv_iload hx hb (dt_of tkX4_setFacts_k22 7 rfl) (lv_at hl 5 rfl) ?_
  refine va_iast hx hb hK hP hD hS 1 1 rfl rfl (vin (by decide)) (dt_of tkX4_setFacts_k22 8 rfl) (fun H locs hP hD hS => ?_)
  obtain ⟨f5, ef5⟩ : ∃ y : Nat → Int32, y = upd f4 (4 : Int32).toNatClampNeg p5 := ⟨_, rfl⟩
  have hw := hw f5 ef5
  have hP : va_P (dC, dI) vwCl (wd01_9 a0 z0_kinds z0_values z0_pile a0_facts z0_length a0_facts cyI f5) H := by rw [ef5]; exact hP
  have hD : va_D A (wd01_9 a0 z0_kinds z0_values z0_pile a0_facts z0_length a0_facts cyI f5) := by rw [ef5]; exact hD
  exact ((W.vret hx hb hr (fun t ht hW => ⟨⟨(f5), rfl, hw, by rw [ht]; exact hP, va_K.moved hW.alike hK, hD⟩, hS.F ht⟩) hS.2.2 (dt_of tkX4_setFacts_k22 9 rfl)))
theorem ui_X1_leaps_X1 : ∀ w ∈ u_ws RX1 TX1 4, w ∈ wsX1_leaps := uiM mbX1_leaps euX1 (by decide +kernel)
theorem uw_X1_leaps_f13 : (.fieldLink RX1 13 "MarchHares$Days" "row" "[I" : Cond) ∈ wsX1_leaps := mbX1_leaps 276 (by decide +kernel)
set_option maxHeartbeats 4000000 in
set_option maxRecDepth 100000 in
theorem ck_X1_leaps (l : Launch) (dC : Nat → ClassId) (dI : Nat → Nat → Nat) (cyB cyI cyJ cyP : ClassId) (a0 a0_row : Nat) (sz : Nat) (z0_owedEach : Value) (z0_down : Value) (z0_law : Value) (f0_row : Nat → Int32)  (p1 : Int32) {Q : Int32 → Prop} (hw : wq_X1_leaps f0_row  p1 Q) : Met l yX1_leaps wsX1_leaps ({ frames := 0, cells := 0, slots := 0, locals := 0 }) (va_Pc [.ref a0, .int p1] (cPc (dC, dI) (kT cyB cyI cyJ cyP) (wd01_10 a0 a0_row z0_owedEach z0_down z0_law a0_row cyI f0_row) sz)) (va_Qi (fun (r : Int32) (_ : Unit) => Q r ) (cB (dC, dI) (kT cyB cyI cyJ cyP) (va_A (wd01_10 a0 a0_row z0_owedEach z0_down z0_law a0_row cyI f0_row) sz) (fun u : Unit => ((wd01_10 a0 a0_row z0_owedEach z0_down z0_law a0_row cyI f0_row) : va_W))) (va_A (wd01_10 a0 a0_row z0_owedEach z0_down z0_law a0_row cyI f0_row) sz)) 0 0 (va_A (wd01_10 a0 a0_row z0_owedEach z0_down z0_law a0_row cyI f0_row) sz) := by
  refine Met.ofW (cc := cX1_leaps) (maxL := 2) (ret := (some .int)) (by decide) rfl ?_
  intro p e s m args below meth c s₁ B hml hv
  obtain ⟨rfl, hsz, hP, hK, hD0, hNw⟩ := hv
  have hx := B.exec
  have hb := B.bytes
  have hr := B.returns
  have hts := atoms_spec (ws := wsX1_leaps) B.pre
  have hown : s.vm.findClass RX1 = some m.cls := findClass_of_methodNamed B.named
  have hlocks := B.notSynchronized
  subst hsz
  have hD := hD0.self (sz := s.heap.size)
  generalize hAe : va_A (wd01_10 a0 a0_row z0_owedEach z0_down z0_law a0_row cyI f0_row) s.heap.size = A at hD ⊢
  have hA : ∀ q : Nat, s.heap.size ≤ q → A q := fun q h => by rw [← hAe]; exact Or.inr h
  have hS : va_S A s.heap s.heap [] := va_S.rf
  have hP : va_P (dC, dI) vwCl (wd01_10 a0 a0_row z0_owedEach z0_down z0_law a0_row cyI f0_row) s.heap := hP
  have hl := lv_entry ([.ref a0, .int p1]) (n := 2) (Nat.le_of_ble_eq_true rfl)
  rw [lg_entry_eq]
  generalize (lg_sl ([.ref a0, .int p1]) ++ List.replicate (2 - (lg_sl ([.ref a0, .int p1])).length) Slot.unset).toArray = ls at hl ⊢
  have hl : lv_has ls 2 [(0, .ref a0), (1, .int p1)] := hl
  have C0 : cfx p s m _ meth c cX1_leaps (some .int) wsX1_leaps RX1 2 A (dC, dI) (kT cyB cyI cyJ cyP) := ⟨hx, hb, hr, hts, hown, hlocks, hml, hA, hK, hNw⟩
  clear hAe
  obtain ⟨H, hH⟩ : ∃ H, H = s.heap := ⟨_, rfl⟩
  rw [← hH] at hP ⊢
  have hS : va_S A s.heap H [] := by rw [hH]; exact va_S.rf
  have hS := hS
  refine lv_aload_n hx hb (dt_of tkX1_leaps_k0 0 rfl) rfl (lv_at hl 0 rfl) ?_
  refine va_get (D := (dC, dI)) (ci := 1) (v := .ref a0_row) (C := RX1) (T := TX1) (N := 4) hx hb hts ui_X1_leaps_X1 hown hK hP 0 rfl rfl 0 (by decide) (hts _ uw_X1_leaps_f13) (fun _ h9 => h9) rfl (dt_of tkX1_leaps_k0 1 rfl) ?_
  refine lv_bipush (v := 22) hx hb (dt_of tkX1_leaps_k0 2 rfl) (by decide) ?_
  refine lv_iload_n hx hb (dt_of tkX1_leaps_k0 3 rfl) rfl (lv_at hl 1 rfl) ?_
  refine lv_iadd hx hb (dt_of tkX1_leaps_k0 4 rfl) ?_
  refine lv_topi (fun x1 ex1 => ?_)
  have hw := hw x1 ex1
  obtain ⟨hi9, hw⟩ := hw
  refine va_iald hx hb hK hP 1 1 rfl rfl hi9 (dt_of tkX1_leaps_k0 5 rfl) ?_
  refine lv_topi (fun x2 ex2 => ?_)
  have hw := hw x2 ex2
  exact ((W.iret (v := x2) hx hb hr (fun t ht hW => ⟨⟨x2, (), rfl, hw, by rw [ht]; exact hP, va_K.moved hW.alike hK, hD⟩, hS.F ht⟩) hS.2.2 (dt_of tkX1_leaps_k0 6 rfl)))
theorem ui_X4_setTimes_X4 : ∀ w ∈ u_ws RX4 TX4 5, w ∈ wsX4_setTimes := uiM mbX4_setTimes euX4 (by decide +kernel)
theorem uw_X4_setTimes_f21 : (.fieldLink RX4 21 "MarchHares$Law" "facts" "[I" : Cond) ∈ wsX4_setTimes := mbX4_setTimes 203 (by decide +kernel)
set_option maxHeartbeats 4000000 in
set_option maxRecDepth 100000 in
theorem ck_X4_setTimes (l : Launch) (dC : Nat → ClassId) (dI : Nat → Nat → Nat) (cyB cyI cyJ cyP : ClassId) (a0 a0_facts : Nat) (sz : Nat) (z0_kinds : Value) (z0_values : Value) (z0_pile : Value) (z0_length : Value)  (f0_facts : Nat → Int32) (p1 : Int32) (p2 : Int32) (p3 : Int32) {Q : (Nat → Int32) → Prop} (hw : wq_X4_setTimes  f0_facts p1 p2 p3 Q) : Met l yX4_setTimes wsX4_setTimes ({ frames := 0, cells := 0, slots := 0, locals := 0 }) (va_Pc [.ref a0, .int p1, .int p2, .int p3] (cPc (dC, dI) (kT cyB cyI cyJ cyP) (wd01_9 a0 z0_kinds z0_values z0_pile a0_facts z0_length a0_facts cyI f0_facts) sz)) (va_Qv (fun (u : (Nat → Int32)) => Q u) (cB (dC, dI) (kT cyB cyI cyJ cyP) (va_A (wd01_9 a0 z0_kinds z0_values z0_pile a0_facts z0_length a0_facts cyI f0_facts) sz) (fun u : (Nat → Int32) => ((wd01_9 a0 z0_kinds z0_values z0_pile a0_facts z0_length a0_facts cyI u) : va_W))) (va_A (wd01_9 a0 z0_kinds z0_values z0_pile a0_facts z0_length a0_facts cyI f0_facts) sz)) 0 0 (va_A (wd01_9 a0 z0_kinds z0_values z0_pile a0_facts z0_length a0_facts cyI f0_facts) sz) := by
  refine Met.ofW (cc := cX4_setTimes) (maxL := 4) (ret := none) (by decide) rfl ?_
  intro p e s m args below meth c s₁ B hml hv
  obtain ⟨rfl, hsz, hP, hK, hD0, hNw⟩ := hv
  have hx := B.exec
  have hb := B.bytes
  have hr := B.returns
  have hts := atoms_spec (ws := wsX4_setTimes) B.pre
  have hown : s.vm.findClass RX4 = some m.cls := findClass_of_methodNamed B.named
  have hlocks := B.notSynchronized
  subst hsz
  have hD := hD0.self (sz := s.heap.size)
  generalize hAe : va_A (wd01_9 a0 z0_kinds z0_values z0_pile a0_facts z0_length a0_facts cyI f0_facts) s.heap.size = A at hD ⊢
  have hA : ∀ q : Nat, s.heap.size ≤ q → A q := fun q h => by rw [← hAe]; exact Or.inr h
  have hS : va_S A s.heap s.heap [] := va_S.rf
  have hP : va_P (dC, dI) vwCl (wd01_9 a0 z0_kinds z0_values z0_pile a0_facts z0_length a0_facts cyI f0_facts) s.heap := hP
  have hl := lv_entry ([.ref a0, .int p1, .int p2, .int p3]) (n := 4) (Nat.le_of_ble_eq_true rfl)
  rw [lg_entry_eq]
  generalize (lg_sl ([.ref a0, .int p1, .int p2, .int p3]) ++ List.replicate (4 - (lg_sl ([.ref a0, .int p1, .int p2, .int p3])).length) Slot.unset).toArray = ls at hl ⊢
  have hl : lv_has ls 4 [(0, .ref a0), (1, .int p1), (2, .int p2), (3, .int p3)] := hl
  have C0 : cfx p s m _ meth c cX4_setTimes none wsX4_setTimes RX4 4 A (dC, dI) (kT cyB cyI cyJ cyP) := ⟨hx, hb, hr, hts, hown, hlocks, hml, hA, hK, hNw⟩
  clear hAe
  obtain ⟨H, hH⟩ : ∃ H, H = s.heap := ⟨_, rfl⟩
  rw [← hH] at hP ⊢
  have hS : va_S A s.heap H [] := by rw [hH]; exact va_S.rf
  have hS := hS
  refine lv_aload_n hx hb (dt_of tkX4_setTimes_k0 0 rfl) rfl (lv_at hl 0 rfl) ?_
  refine va_get (D := (dC, dI)) (ci := 4) (v := .ref a0_facts) (C := RX4) (T := TX4) (N := 5) hx hb hts ui_X4_setTimes_X4 hown hK hP 0 rfl rfl 3 (by decide) (hts _ uw_X4_setTimes_f21) (fun _ h9 => h9) rfl (dt_of tkX4_setTimes_k0 1 rfl) ?_
  refine lv_iconst (v := 5) hx hb (dt_of tkX4_setTimes_k0 2 rfl) (by decide) ?_
  refine lv_iload_n hx hb (dt_of tkX4_setTimes_k0 3 rfl) rfl (lv_at hl 1 rfl) ?_
  refine va_iast hx hb hK hP hD hS 1 1 rfl rfl (vin (by decide)) (dt_of tkX4_setTimes_k0 4 rfl) (fun H locs hP hD hS => ?_)
  obtain ⟨f1, ef1⟩ : ∃ y : Nat → Int32, y = upd f0_facts (5 : Int32).toNatClampNeg p1 := ⟨_, rfl⟩
  have hw := hw f1 ef1
  have hP : va_P (dC, dI) vwCl (wd01_9 a0 z0_kinds z0_values z0_pile a0_facts z0_length a0_facts cyI f1) H := by rw [ef1]; exact hP
  have hD : va_D A (wd01_9 a0 z0_kinds z0_values z0_pile a0_facts z0_length a0_facts cyI f1) := by rw [ef1]; exact hD
  refine lv_aload_n hx hb (dt_of tkX4_setTimes_k0 5 rfl) rfl (lv_at hl 0 rfl) ?_
  refine va_get (D := (dC, dI)) (ci := 4) (v := .ref a0_facts) (C := RX4) (T := TX4) (N := 5) hx hb hts ui_X4_setTimes_X4 hown hK hP 0 rfl rfl 3 (by decide) (hts _ uw_X4_setTimes_f21) (fun _ h9 => h9) rfl (dt_of tkX4_setTimes_k0 6 rfl) ?_
  refine lv_bipush (v := 6) hx hb (dt_of tkX4_setTimes_k0 7 rfl) (by decide) ?_
  refine lv_iload_n hx hb (dt_of tkX4_setTimes_k0 8 rfl) rfl (lv_at hl 2 rfl) ?_
  refine va_iast hx hb hK hP hD hS 1 1 rfl rfl (vin (by decide)) (dt_of tkX4_setTimes_k0 9 rfl) (fun H locs hP hD hS => ?_)
  obtain ⟨f2, ef2⟩ : ∃ y : Nat → Int32, y = upd f1 (6 : Int32).toNatClampNeg p2 := ⟨_, rfl⟩
  have hw := hw f2 ef2
  have hP : va_P (dC, dI) vwCl (wd01_9 a0 z0_kinds z0_values z0_pile a0_facts z0_length a0_facts cyI f2) H := by rw [ef2]; exact hP
  have hD : va_D A (wd01_9 a0 z0_kinds z0_values z0_pile a0_facts z0_length a0_facts cyI f2) := by rw [ef2]; exact hD
  refine lv_aload_n hx hb (dt_of tkX4_setTimes_k0 10 rfl) rfl (lv_at hl 0 rfl) ?_
  refine va_get (D := (dC, dI)) (ci := 4) (v := .ref a0_facts) (C := RX4) (T := TX4) (N := 5) hx hb hts ui_X4_setTimes_X4 hown hK hP 0 rfl rfl 3 (by decide) (hts _ uw_X4_setTimes_f21) (fun _ h9 => h9) rfl (dt_of tkX4_setTimes_k0 11 rfl) ?_
  refine lv_bipush (v := 7) hx hb (dt_of tkX4_setTimes_k0 12 rfl) (by decide) ?_
  refine lv_iload_n hx hb (dt_of tkX4_setTimes_k0 13 rfl) rfl (lv_at hl 3 rfl) ?_
  refine va_iast hx hb hK hP hD hS 1 1 rfl rfl (vin (by decide)) (dt_of tkX4_setTimes_k0 14 rfl) (fun H locs hP hD hS => ?_)
  obtain ⟨f3, ef3⟩ : ∃ y : Nat → Int32, y = upd f2 (7 : Int32).toNatClampNeg p3 := ⟨_, rfl⟩
  have hw := hw f3 ef3
  have hP : va_P (dC, dI) vwCl (wd01_9 a0 z0_kinds z0_values z0_pile a0_facts z0_length a0_facts cyI f3) H := by rw [ef3]; exact hP
  have hD : va_D A (wd01_9 a0 z0_kinds z0_values z0_pile a0_facts z0_length a0_facts cyI f3) := by rw [ef3]; exact hD
  exact ((W.vret hx hb hr (fun t ht hW => ⟨⟨(f3), rfl, hw, by rw [ht]; exact hP, va_K.moved hW.alike hK, hD⟩, hS.F ht⟩) hS.2.2 (dt_of tkX4_setTimes_k0 15 rfl)))
theorem tsw_2_7 {x : Int32} (h : ¬ (x.toInt < 2 ∨ 7 < x.toInt)) : x = 2 ∨ x = 3 ∨ x = 4 ∨ x = 5 ∨ x = 6 ∨ x = 7 := by
  obtain ⟨j, hj, e⟩ := nI_of (x := x) (fun h0 => h (Or.inl (Int.lt_of_lt_of_le (by simpa using (Int32.lt_iff_toInt_lt.mp h0)) (by decide : (0 : Int) ≤ 2))))
  have h2 : (j : Int) ≤ 7 ∧ 2 ≤ (j : Int) := by
    have := nI_toInt hj
    rw [e] at h
    omega
  have h3 : j = 2 ∨ j = 3 ∨ j = 4 ∨ j = 5 ∨ j = 6 ∨ j = 7 := by omega
  rw [e]
  rcases h3 with rfl | rfl | rfl | rfl | rfl | rfl <;> decide
set_option maxHeartbeats 4000000 in
set_option maxRecDepth 100000 in
theorem ck_X4_joined (l : Launch) (dC : Nat → ClassId) (dI : Nat → Nat → Nat) (cyB cyI cyJ cyP : ClassId) (sz : Nat)    (p0 : Int32) (p1 : Int32) (p2 : Int32) {Q : Int32 → Prop} (hw : wq_X4_joined   p0 p1 p2 Q) : Met l yX4_joined wsX4_joined ({ frames := 0, cells := 0, slots := 0, locals := 0 }) (va_Pc [.int p0, .int p1, .int p2] (cPc (dC, dI) (kT cyB cyI cyJ cyP) [] sz)) (va_Qi (fun (r : Int32) (_ : Unit) => Q r ) (cB (dC, dI) (kT cyB cyI cyJ cyP) (va_A [] sz) (fun u : Unit => ([] : va_W))) (va_A [] sz)) 0 0 (va_A [] sz) := by
  refine Met.ofW (cc := cX4_joined) (maxL := 3) (ret := (some .int)) (by decide) rfl ?_
  intro p e s m args below meth c s₁ B hml hv
  obtain ⟨rfl, hsz, hP, hK, hD0, hNw⟩ := hv
  have hx := B.exec
  have hb := B.bytes
  have hr := B.returns
  have hts := atoms_spec (ws := wsX4_joined) B.pre
  have hown : s.vm.findClass RX4 = some m.cls := findClass_of_methodNamed B.named
  have hlocks := B.notSynchronized
  subst hsz
  have hD := hD0.self (sz := s.heap.size)
  generalize hAe : va_A [] s.heap.size = A at hD ⊢
  have hA : ∀ q : Nat, s.heap.size ≤ q → A q := fun q h => by rw [← hAe]; exact Or.inr h
  have hS : va_S A s.heap s.heap [] := va_S.rf
  have hP : va_P (dC, dI) vwCl [] s.heap := hP
  have hl := lv_entry ([.int p0, .int p1, .int p2]) (n := 3) (Nat.le_of_ble_eq_true rfl)
  rw [lg_entry_eq]
  generalize (lg_sl ([.int p0, .int p1, .int p2]) ++ List.replicate (3 - (lg_sl ([.int p0, .int p1, .int p2])).length) Slot.unset).toArray = ls at hl ⊢
  have hl : lv_has ls 3 [(0, .int p0), (1, .int p1), (2, .int p2)] := hl
  have C0 : cfx p s m _ meth c cX4_joined (some .int) wsX4_joined RX4 3 A (dC, dI) (kT cyB cyI cyJ cyP) := ⟨hx, hb, hr, hts, hown, hlocks, hml, hA, hK, hNw⟩
  clear hAe
  obtain ⟨H, hH⟩ : ∃ H, H = s.heap := ⟨_, rfl⟩
  rw [← hH] at hP ⊢
  have hS : va_S A s.heap H [] := by rw [hH]; exact va_S.rf
  have hS := hS
  refine lv_iload_n hx hb (dt_of tkX4_joined_k0 0 rfl) rfl (lv_at hl 0 rfl) ?_
  by_cases c1 : p0.toInt < 2 ∨ 7 < p0.toInt
  · have hw := hw.1 c1
    refine lv_tableOut (tgt := 87) hx hb dX4_joined_1 c1 (by decide) ?_
    refine lv_iload_n hx hb (dt_of tkX4_joined_k72 11 rfl) rfl (lv_at hl 1 rfl) ?_
    refine lv_iload_n hx hb (dt_of tkX4_joined_k72 12 rfl) rfl (lv_at hl 2 rfl) ?_
    refine lv_icmp_le (tgt := 96) hx hb (dt_of tkX4_joined_k72 13 rfl) (by decide) (fun c2 => ?_) (fun c2 => ?_)
    · have hw := hw.1 c2
      refine lv_iload_n hx hb (dt_of tkX4_joined_k96 0 rfl) rfl (lv_at hl 2 rfl) ?_
      exact ((W.iret (v := p2) hx hb hr (fun t ht hW => ⟨⟨p2, (), rfl, hw, by rw [ht]; exact hP, va_K.moved hW.alike hK, hD⟩, hS.F ht⟩) hS.2.2 (dt_of tkX4_joined_k96 1 rfl)))
    · have hw := hw.2 c2
      refine lv_iload_n hx hb (dt_of tkX4_joined_k72 14 rfl) rfl (lv_at hl 1 rfl) ?_
      refine lv_goto (tgt := 97) hx hb (dt_of tkX4_joined_k72 15 rfl) (by decide) ?_
      exact ((W.iret (v := p1) hx hb hr (fun t ht hW => ⟨⟨p1, (), rfl, hw, by rw [ht]; exact hP, va_K.moved hW.alike hK, hD⟩, hS.F ht⟩) hS.2.2 (dt_of tkX4_joined_k96 1 rfl)))
  · have hw := hw.2
    rcases tsw_2_7 c1 with c1 | c1 | c1 | c1 | c1 | c1
    · have hw := hw.1 c1
      refine lv_tableIn (tgt := 40) (off := 39) hx hb dX4_joined_1 (by rw [c1]; decide) (by rw [c1]; decide) (by rw [c1]; decide) (by decide) ?_
      refine lv_iload_n hx hb (dt_of tkX4_joined_k40 0 rfl) rfl (lv_at hl 1 rfl) ?_
      refine lv_iload_n hx hb (dt_of tkX4_joined_k40 1 rfl) rfl (lv_at hl 2 rfl) ?_
      refine lv_iadd hx hb (dt_of tkX4_joined_k40 2 rfl) ?_
      exact ((W.iret (v := (p1 + p2)) hx hb hr (fun t ht hW => ⟨⟨(p1 + p2), (), rfl, hw, by rw [ht]; exact hP, va_K.moved hW.alike hK, hD⟩, hS.F ht⟩) hS.2.2 (dt_of tkX4_joined_k40 3 rfl)))
    · have hw := hw.2.1 c1
      refine lv_tableIn (tgt := 44) (off := 43) hx hb dX4_joined_1 (by rw [c1]; decide) (by rw [c1]; decide) (by rw [c1]; decide) (by decide) ?_
      refine lv_iload_n hx hb (dt_of tkX4_joined_k40 4 rfl) rfl (lv_at hl 1 rfl) ?_
      refine lv_iload_n hx hb (dt_of tkX4_joined_k40 5 rfl) rfl (lv_at hl 2 rfl) ?_
      refine lv_isub hx hb (dt_of tkX4_joined_k40 6 rfl) ?_
      exact ((W.iret (v := (p1 - p2)) hx hb hr (fun t ht hW => ⟨⟨(p1 - p2), (), rfl, hw, by rw [ht]; exact hP, va_K.moved hW.alike hK, hD⟩, hS.F ht⟩) hS.2.2 (dt_of tkX4_joined_k40 7 rfl)))
    · have hw := hw.2.2.1 c1
      refine lv_tableIn (tgt := 48) (off := 47) hx hb dX4_joined_1 (by rw [c1]; decide) (by rw [c1]; decide) (by rw [c1]; decide) (by decide) ?_
      refine lv_iload_n hx hb (dt_of tkX4_joined_k40 8 rfl) rfl (lv_at hl 1 rfl) ?_
      refine lv_iload_n hx hb (dt_of tkX4_joined_k40 9 rfl) rfl (lv_at hl 2 rfl) ?_
      refine lv_imul hx hb (dt_of tkX4_joined_k40 10 rfl) ?_
      exact ((W.iret (v := (p1 * p2)) hx hb hr (fun t ht hW => ⟨⟨(p1 * p2), (), rfl, hw, by rw [ht]; exact hP, va_K.moved hW.alike hK, hD⟩, hS.F ht⟩) hS.2.2 (dt_of tkX4_joined_k40 11 rfl)))
    · have hw := hw.2.2.2.1 c1
      refine lv_tableIn (tgt := 52) (off := 51) hx hb dX4_joined_1 (by rw [c1]; decide) (by rw [c1]; decide) (by rw [c1]; decide) (by decide) ?_
      refine lv_iload_n hx hb (dt_of tkX4_joined_k40 12 rfl) rfl (lv_at hl 2 rfl) ?_
      refine lv_if_ne (tgt := 60) hx hb (dt_of tkX4_joined_k40 13 rfl) (by decide) (fun c3 => ?_) (fun c3 => ?_)
      · have hw := hw.1 c3
        refine lv_iload_n hx hb (dt_of tkX4_joined_k60 0 rfl) rfl (lv_at hl 1 rfl) ?_
        refine lv_iload_n hx hb (dt_of tkX4_joined_k60 1 rfl) rfl (lv_at hl 2 rfl) ?_
        obtain ⟨hz9, hw⟩ := hw
        refine lv_idiv hx hb (dt_of tkX4_joined_k60 2 rfl) hz9 ?_
        refine lv_topi (fun x4 ex4 => ?_)
        have hw := hw x4 ex4
        exact ((W.iret (v := x4) hx hb hr (fun t ht hW => ⟨⟨x4, (), rfl, hw, by rw [ht]; exact hP, va_K.moved hW.alike hK, hD⟩, hS.F ht⟩) hS.2.2 (dt_of tkX4_joined_k60 3 rfl)))
      · have hw := hw.2 c3
        refine lv_iconst (v := 0) hx hb (dt_of tkX4_joined_k40 14 rfl) (by decide) ?_
        refine lv_goto (tgt := 63) hx hb (dt_of tkX4_joined_k40 15 rfl) (by decide) ?_
        exact ((W.iret (v := 0) hx hb hr (fun t ht hW => ⟨⟨0, (), rfl, hw, by rw [ht]; exact hP, va_K.moved hW.alike hK, hD⟩, hS.F ht⟩) hS.2.2 (dt_of tkX4_joined_k60 3 rfl)))
    · have hw := hw.2.2.2.2.1 c1
      refine lv_tableIn (tgt := 64) (off := 63) hx hb dX4_joined_1 (by rw [c1]; decide) (by rw [c1]; decide) (by rw [c1]; decide) (by decide) ?_
      refine lv_iload_n hx hb (dt_of tkX4_joined_k60 4 rfl) rfl (lv_at hl 2 rfl) ?_
      refine lv_if_ne (tgt := 72) hx hb (dt_of tkX4_joined_k60 5 rfl) (by decide) (fun c5 => ?_) (fun c5 => ?_)
      · have hw := hw.1 c5
        refine lv_iload_n hx hb (dt_of tkX4_joined_k72 0 rfl) rfl (lv_at hl 1 rfl) ?_
        refine lv_iload_n hx hb (dt_of tkX4_joined_k72 1 rfl) rfl (lv_at hl 2 rfl) ?_
        obtain ⟨hz9, hw⟩ := hw
        refine lv_irem hx hb (dt_of tkX4_joined_k72 2 rfl) hz9 ?_
        refine lv_topi (fun x6 ex6 => ?_)
        have hw := hw x6 ex6
        exact ((W.iret (v := x6) hx hb hr (fun t ht hW => ⟨⟨x6, (), rfl, hw, by rw [ht]; exact hP, va_K.moved hW.alike hK, hD⟩, hS.F ht⟩) hS.2.2 (dt_of tkX4_joined_k72 3 rfl)))
      · have hw := hw.2 c5
        refine lv_iconst (v := 0) hx hb (dt_of tkX4_joined_k60 6 rfl) (by decide) ?_
        refine lv_goto (tgt := 75) hx hb (dt_of tkX4_joined_k60 7 rfl) (by decide) ?_
        exact ((W.iret (v := 0) hx hb hr (fun t ht hW => ⟨⟨0, (), rfl, hw, by rw [ht]; exact hP, va_K.moved hW.alike hK, hD⟩, hS.F ht⟩) hS.2.2 (dt_of tkX4_joined_k72 3 rfl)))
    · have hw := hw.2.2.2.2.2 c1
      refine lv_tableIn (tgt := 76) (off := 75) hx hb dX4_joined_1 (by rw [c1]; decide) (by rw [c1]; decide) (by rw [c1]; decide) (by decide) ?_
      refine lv_iload_n hx hb (dt_of tkX4_joined_k72 4 rfl) rfl (lv_at hl 1 rfl) ?_
      refine lv_iload_n hx hb (dt_of tkX4_joined_k72 5 rfl) rfl (lv_at hl 2 rfl) ?_
      refine lv_icmp_ge (tgt := 85) hx hb (dt_of tkX4_joined_k72 6 rfl) (by decide) (fun c7 => ?_) (fun c7 => ?_)
      · have hw := hw.1 c7
        refine lv_iload_n hx hb (dt_of tkX4_joined_k72 9 rfl) rfl (lv_at hl 2 rfl) ?_
        exact ((W.iret (v := p2) hx hb hr (fun t ht hW => ⟨⟨p2, (), rfl, hw, by rw [ht]; exact hP, va_K.moved hW.alike hK, hD⟩, hS.F ht⟩) hS.2.2 (dt_of tkX4_joined_k72 10 rfl)))
      · have hw := hw.2 c7
        refine lv_iload_n hx hb (dt_of tkX4_joined_k72 7 rfl) rfl (lv_at hl 1 rfl) ?_
        refine lv_goto (tgt := 86) hx hb (dt_of tkX4_joined_k72 8 rfl) (by decide) ?_
        exact ((W.iret (v := p1) hx hb hr (fun t ht hW => ⟨⟨p1, (), rfl, hw, by rw [ht]; exact hP, va_K.moved hW.alike hK, hD⟩, hS.F ht⟩) hS.2.2 (dt_of tkX4_joined_k72 10 rfl)))
theorem ui_X4_reach_X4 : ∀ w ∈ u_ws RX4 TX4 5, w ∈ wsX4_reach := uiM mbX4_reach euX4 (by decide +kernel)
theorem uw_X4_reach_f15 : (.fieldLink RX4 15 "MarchHares$Law" "values" "[I" : Cond) ∈ wsX4_reach := mbX4_reach 201 (by decide +kernel)
theorem uw_X4_reach_f18 : (.fieldLink RX4 18 "MarchHares$Law" "pile" "[I" : Cond) ∈ wsX4_reach := mbX4_reach 202 (by decide +kernel)
theorem uw_X4_reach_f21 : (.fieldLink RX4 21 "MarchHares$Law" "facts" "[I" : Cond) ∈ wsX4_reach := mbX4_reach 203 (by decide +kernel)
theorem uw_X4_reach_f27 : (.fieldLink RX4 27 "MarchHares$Law" "length" "I" : Cond) ∈ wsX4_reach := mbX4_reach 208 (by decide +kernel)
theorem uw_X4_reach_f9 : (.fieldLink RX4 9 "MarchHares$Law" "kinds" "[I" : Cond) ∈ wsX4_reach := mbX4_reach 200 (by decide +kernel)
theorem uw_X4_reach_inim : (.initialized "java/lang/Math" : Cond) ∈ wsX4_reach := mbX4_reach 651 (by decide +kernel)
theorem uw_X4_reach_m115 : (.methodLink RX4 115 Lib.Math.min.name : Cond) ∈ wsX4_reach := mbX4_reach 1928 (by decide +kernel)
theorem uw_X4_reach_m120 : (.methodLink RX4 120 Lib.Math.max.name : Cond) ∈ wsX4_reach := mbX4_reach 1929 (by decide +kernel)
theorem uw_X4_reach_mcmax : (.code Lib.Math.max.name Lib.Math.max.code 2 (some .int) : Cond) ∈ wsX4_reach := mbX4_reach 1931 (by decide +kernel)
theorem uw_X4_reach_mcmin : (.code Lib.Math.min.name Lib.Math.min.code 2 (some .int) : Cond) ∈ wsX4_reach := mbX4_reach 652 (by decide +kernel)
theorem uw_X4_reach_msmax : (.static Lib.Math.max.name : Cond) ∈ wsX4_reach := mbX4_reach 1930 (by decide +kernel)
theorem uw_X4_reach_msmin : (.static Lib.Math.min.name : Cond) ∈ wsX4_reach := mbX4_reach 650 (by decide +kernel)
set_option maxHeartbeats 4000000 in
set_option maxRecDepth 100000 in
theorem kb_X4_reach_98 {p : Program} {l : Launch} {e : Env} {s : State} {m : MethodId} {args : Array Value} {below : List Frame} {meth : Method} {c : Code} {A : Nat → Prop} (dC : Nat → ClassId) (dI : Nat → Nat → Nat) (cyB cyI cyJ cyP : ClassId) (a0 a0_pile a0_kinds a0_facts a0_values : Nat)  (v0_length : Int32) (f0_kinds : Nat → Int32) (f0_values : Nat → Int32) (f0_facts : Nat → Int32) (Q : Int32 → (Nat → Int32) → Prop) (K4 : (Nat → Int32) → Int32 → Int32 → Prop) (hK4 : ∀ (H : Heap) (locs : List Loc) (ls : Array Slot) (f0_pile : Nat → Int32) (l1 : Int32) (l2 : Int32), va_P (dC, dI) vwCl (wd01_11 a0 a0_kinds a0_values a0_pile a0_facts v0_length a0_pile cyI f0_pile a0_kinds cyI f0_kinds a0_values cyI f0_values a0_facts cyI f0_facts) H → va_D A (wd01_11 a0 a0_kinds a0_values a0_pile a0_facts v0_length a0_pile cyI f0_pile a0_kinds cyI f0_kinds a0_values cyI f0_values a0_facts cyI f0_facts) → va_S A s.heap H locs → lv_has ls 4 [(0, .ref a0), (1, .int l1), (2, .int l2)] → K4 f0_pile l1 l2 → W p l e (headSpec wsX4_reach ({ frames := 1, cells := 0, slots := 0, locals := 32 })).room s m args below meth c H locs 0 0 (MQ below (va_Qi (fun (r : Int32) (u : (Nat → Int32)) => Q r u) (cB (dC, dI) (kT cyB cyI cyJ cyP) A (fun u : (Nat → Int32) => ((wd01_11 a0 a0_kinds a0_values a0_pile a0_facts v0_length a0_pile cyI u a0_kinds cyI f0_kinds a0_values cyI f0_values a0_facts cyI f0_facts) : va_W))) A) args s 0 0 A) (F0 m 4 ls [])) (C0 : cfx p s m args meth c cX4_reach (some .int) wsX4_reach RX4 4 A (dC, dI) (kT cyB cyI cyJ cyP)) : ∀ (H : Heap) (locs : List Loc) (ls : Array Slot) (f0_pile : Nat → Int32) (l1 : Int32) (l2 : Int32), va_P (dC, dI) vwCl (wd01_11 a0 a0_kinds a0_values a0_pile a0_facts v0_length a0_pile cyI f0_pile a0_kinds cyI f0_kinds a0_values cyI f0_values a0_facts cyI f0_facts) H → va_D A (wd01_11 a0 a0_kinds a0_values a0_pile a0_facts v0_length a0_pile cyI f0_pile a0_kinds cyI f0_kinds a0_values cyI f0_values a0_facts cyI f0_facts) → va_S A s.heap H locs → lv_has ls 4 [(0, .ref a0), (1, .int l1), (2, .int l2)] → wb_X4_reach_98 v0_length f0_kinds f0_values f0_facts Q K4 f0_pile l1 l2 → W p l e (headSpec wsX4_reach ({ frames := 1, cells := 0, slots := 0, locals := 32 })).room s m args below meth c H locs 0 0 (MQ below (va_Qi (fun (r : Int32) (u : (Nat → Int32)) => Q r u) (cB (dC, dI) (kT cyB cyI cyJ cyP) A (fun u : (Nat → Int32) => ((wd01_11 a0 a0_kinds a0_values a0_pile a0_facts v0_length a0_pile cyI u a0_kinds cyI f0_kinds a0_values cyI f0_values a0_facts cyI f0_facts) : va_W))) A) args s 0 0 A) (F0 m 98 ls []) := by
  obtain ⟨hx, hb, hr, hts, hown, hlocks, hml, hA, hK, hNw⟩ := id C0
  intro H locs ls f0_pile l1 l2 hP hD hS hl hw
  obtain ⟨x21, ex21⟩ : ∃ y : Int32, y = l2 + 1 := ⟨_, rfl⟩
  have hw := hw x21 ex21
  refine lv_iinc (v := x21) (lv' := [(2, .int x21), (0, .ref a0), (1, .int l1)]) hx hb (dt_of tkX4_reach_k80 12 rfl) hl (k := 2) rfl (by rw [ex21]; rfl) (by decide) rfl (fun ls hl => ?_)
  refine lv_goto (tgt := 4) hx hb (dt_of tkX4_reach_k80 13 rfl) (by decide) ?_
  exact hK4 _ _ _ f0_pile l1 x21 hP hD hS (lv_sub hl [1, 2, 0] rfl) hw
set_option maxHeartbeats 4000000 in
set_option maxRecDepth 100000 in
theorem kb_X4_reach_57 {p : Program} {l : Launch} {e : Env} {s : State} {m : MethodId} {args : Array Value} {below : List Frame} {meth : Method} {c : Code} {A : Nat → Prop} (dC : Nat → ClassId) (dI : Nat → Nat → Nat) (cyB cyI cyJ cyP : ClassId) (a0 a0_pile a0_kinds a0_facts a0_values : Nat)  (v0_length : Int32) (f0_kinds : Nat → Int32) (f0_values : Nat → Int32) (f0_facts : Nat → Int32) (Q : Int32 → (Nat → Int32) → Prop) (K4 : (Nat → Int32) → Int32 → Int32 → Prop) (hK4 : ∀ (H : Heap) (locs : List Loc) (ls : Array Slot) (f0_pile : Nat → Int32) (l1 : Int32) (l2 : Int32), va_P (dC, dI) vwCl (wd01_11 a0 a0_kinds a0_values a0_pile a0_facts v0_length a0_pile cyI f0_pile a0_kinds cyI f0_kinds a0_values cyI f0_values a0_facts cyI f0_facts) H → va_D A (wd01_11 a0 a0_kinds a0_values a0_pile a0_facts v0_length a0_pile cyI f0_pile a0_kinds cyI f0_kinds a0_values cyI f0_values a0_facts cyI f0_facts) → va_S A s.heap H locs → lv_has ls 4 [(0, .ref a0), (1, .int l1), (2, .int l2)] → K4 f0_pile l1 l2 → W p l e (headSpec wsX4_reach ({ frames := 1, cells := 0, slots := 0, locals := 32 })).room s m args below meth c H locs 0 0 (MQ below (va_Qi (fun (r : Int32) (u : (Nat → Int32)) => Q r u) (cB (dC, dI) (kT cyB cyI cyJ cyP) A (fun u : (Nat → Int32) => ((wd01_11 a0 a0_kinds a0_values a0_pile a0_facts v0_length a0_pile cyI u a0_kinds cyI f0_kinds a0_values cyI f0_values a0_facts cyI f0_facts) : va_W))) A) args s 0 0 A) (F0 m 4 ls [])) (C0 : cfx p s m args meth c cX4_reach (some .int) wsX4_reach RX4 4 A (dC, dI) (kT cyB cyI cyJ cyP)) : ∀ (H : Heap) (locs : List Loc) (ls : Array Slot) (f0_pile : Nat → Int32) (l1 : Int32) (l2 : Int32) (s1 : Int32) (s2 : Int32), va_P (dC, dI) vwCl (wd01_11 a0 a0_kinds a0_values a0_pile a0_facts v0_length a0_pile cyI f0_pile a0_kinds cyI f0_kinds a0_values cyI f0_values a0_facts cyI f0_facts) H → va_D A (wd01_11 a0 a0_kinds a0_values a0_pile a0_facts v0_length a0_pile cyI f0_pile a0_kinds cyI f0_kinds a0_values cyI f0_values a0_facts cyI f0_facts) → va_S A s.heap H locs → lv_has ls 4 [(0, .ref a0), (1, .int l1), (2, .int l2)] → wb_X4_reach_57 v0_length f0_kinds f0_values f0_facts Q K4 f0_pile l1 l2 s1 s2 → W p l e (headSpec wsX4_reach ({ frames := 1, cells := 0, slots := 0, locals := 32 })).room s m args below meth c H locs 0 0 (MQ below (va_Qi (fun (r : Int32) (u : (Nat → Int32)) => Q r u) (cB (dC, dI) (kT cyB cyI cyJ cyP) A (fun u : (Nat → Int32) => ((wd01_11 a0 a0_kinds a0_values a0_pile a0_facts v0_length a0_pile cyI u a0_kinds cyI f0_kinds a0_values cyI f0_values a0_facts cyI f0_facts) : va_W))) A) args s 0 0 A) (F0 m 57 ls [.int s2, .int s1, .ref a0_pile]) := by
  obtain ⟨hx, hb, hr, hts, hown, hlocks, hml, hA, hK, hNw⟩ := id C0
  intro H locs ls f0_pile l1 l2 s1 s2 hP hD hS hl hw
  obtain ⟨hi9, hw⟩ := hw
  refine va_iast hx hb hK hP hD hS 1 1 rfl rfl hi9 (dt_of tkX4_reach_k54 3 rfl) (fun H locs hP hD hS => ?_)
  obtain ⟨f22, ef22⟩ : ∃ y : Nat → Int32, y = upd f0_pile s1.toNatClampNeg s2 := ⟨_, rfl⟩
  have hw := hw f22 ef22
  have hP : va_P (dC, dI) vwCl (wd01_11 a0 a0_kinds a0_values a0_pile a0_facts v0_length a0_pile cyI f22 a0_kinds cyI f0_kinds a0_values cyI f0_values a0_facts cyI f0_facts) H := by rw [ef22]; exact hP
  have hD : va_D A (wd01_11 a0 a0_kinds a0_values a0_pile a0_facts v0_length a0_pile cyI f22 a0_kinds cyI f0_kinds a0_values cyI f0_values a0_facts cyI f0_facts) := by rw [ef22]; exact hD
  obtain ⟨x23, ex23⟩ : ∃ y : Int32, y = l1 + 1 := ⟨_, rfl⟩
  have hw := hw x23 ex23
  refine lv_iinc (v := x23) (lv' := [(1, .int x23), (0, .ref a0), (2, .int l2)]) hx hb (dt_of tkX4_reach_k54 4 rfl) hl (k := 1) rfl (by rw [ex23]; rfl) (by decide) rfl (fun ls hl => ?_)
  refine lv_goto (tgt := 98) hx hb (dt_of tkX4_reach_k54 5 rfl) (by decide) ?_
  exact kb_X4_reach_98 dC dI cyB cyI cyJ cyP a0 a0_pile a0_kinds a0_facts a0_values  v0_length f0_kinds f0_values f0_facts Q K4 hK4 C0 _ _ _ f22 x23 l2 hP hD hS (lv_sub hl [1, 0, 2] rfl) hw
set_option maxHeartbeats 4000000 in
set_option maxRecDepth 100000 in
theorem kb_X4_reach_28 {p : Program} {l : Launch} {e : Env} {s : State} {m : MethodId} {args : Array Value} {below : List Frame} {meth : Method} {c : Code} {A : Nat → Prop} (dC : Nat → ClassId) (dI : Nat → Nat → Nat) (cyB cyI cyJ cyP : ClassId) (a0 a0_pile a0_kinds a0_facts a0_values : Nat)  (v0_length : Int32) (f0_kinds : Nat → Int32) (f0_values : Nat → Int32) (f0_facts : Nat → Int32) (Q : Int32 → (Nat → Int32) → Prop) (K4 : (Nat → Int32) → Int32 → Int32 → Prop) (hK4 : ∀ (H : Heap) (locs : List Loc) (ls : Array Slot) (f0_pile : Nat → Int32) (l1 : Int32) (l2 : Int32), va_P (dC, dI) vwCl (wd01_11 a0 a0_kinds a0_values a0_pile a0_facts v0_length a0_pile cyI f0_pile a0_kinds cyI f0_kinds a0_values cyI f0_values a0_facts cyI f0_facts) H → va_D A (wd01_11 a0 a0_kinds a0_values a0_pile a0_facts v0_length a0_pile cyI f0_pile a0_kinds cyI f0_kinds a0_values cyI f0_values a0_facts cyI f0_facts) → va_S A s.heap H locs → lv_has ls 4 [(0, .ref a0), (1, .int l1), (2, .int l2)] → K4 f0_pile l1 l2 → W p l e (headSpec wsX4_reach ({ frames := 1, cells := 0, slots := 0, locals := 32 })).room s m args below meth c H locs 0 0 (MQ below (va_Qi (fun (r : Int32) (u : (Nat → Int32)) => Q r u) (cB (dC, dI) (kT cyB cyI cyJ cyP) A (fun u : (Nat → Int32) => ((wd01_11 a0 a0_kinds a0_values a0_pile a0_facts v0_length a0_pile cyI u a0_kinds cyI f0_kinds a0_values cyI f0_values a0_facts cyI f0_facts) : va_W))) A) args s 0 0 A) (F0 m 4 ls [])) (C0 : cfx p s m args meth c cX4_reach (some .int) wsX4_reach RX4 4 A (dC, dI) (kT cyB cyI cyJ cyP)) : ∀ (H : Heap) (locs : List Loc) (ls : Array Slot) (f0_pile : Nat → Int32) (l1 : Int32) (l2 : Int32) (l3 : Int32), va_P (dC, dI) vwCl (wd01_11 a0 a0_kinds a0_values a0_pile a0_facts v0_length a0_pile cyI f0_pile a0_kinds cyI f0_kinds a0_values cyI f0_values a0_facts cyI f0_facts) H → va_D A (wd01_11 a0 a0_kinds a0_values a0_pile a0_facts v0_length a0_pile cyI f0_pile a0_kinds cyI f0_kinds a0_values cyI f0_values a0_facts cyI f0_facts) → va_S A s.heap H locs → lv_has ls 4 [(0, .ref a0), (1, .int l1), (2, .int l2), (3, .int l3)] → wb_X4_reach_28 v0_length f0_kinds f0_values f0_facts Q K4 f0_pile l1 l2 l3 → W p l e (headSpec wsX4_reach ({ frames := 1, cells := 0, slots := 0, locals := 32 })).room s m args below meth c H locs 0 0 (MQ below (va_Qi (fun (r : Int32) (u : (Nat → Int32)) => Q r u) (cB (dC, dI) (kT cyB cyI cyJ cyP) A (fun u : (Nat → Int32) => ((wd01_11 a0 a0_kinds a0_values a0_pile a0_facts v0_length a0_pile cyI u a0_kinds cyI f0_kinds a0_values cyI f0_values a0_facts cyI f0_facts) : va_W))) A) args s 0 0 A) (F0 m 28 ls []) := by
  obtain ⟨hx, hb, hr, hts, hown, hlocks, hml, hA, hK, hNw⟩ := id C0
  intro H locs ls f0_pile l1 l2 l3 hP hD hS hl hw
  refine lv_aload_n hx hb (dt_of tkX4_reach_k24 2 rfl) rfl (lv_at hl 0 rfl) ?_
  refine va_get (D := (dC, dI)) (ci := 4) (v := .ref a0_pile) (C := RX4) (T := TX4) (N := 5) hx hb hts ui_X4_reach_X4 hown hK hP 0 rfl rfl 2 (by decide) (hts _ uw_X4_reach_f18) (fun _ h9 => h9) rfl (dt_of tkX4_reach_k24 3 rfl) ?_
  refine lv_iload_n hx hb (dt_of tkX4_reach_k24 4 rfl) rfl (lv_at hl 1 rfl) ?_
  refine lv_iload_n hx hb (dt_of tkX4_reach_k24 5 rfl) rfl (lv_at hl 3 rfl) ?_
  refine lv_if_ne (tgt := 46) hx hb (dt_of tkX4_reach_k24 6 rfl) (by decide) (fun c17 => ?_) (fun c17 => ?_)
  · have hw := hw.1 c17
    refine lv_aload_n hx hb (dt_of tkX4_reach_k24 12 rfl) rfl (lv_at hl 0 rfl) ?_
    refine va_get (D := (dC, dI)) (ci := 4) (v := .ref a0_facts) (C := RX4) (T := TX4) (N := 5) hx hb hts ui_X4_reach_X4 hown hK hP 0 rfl rfl 3 (by decide) (hts _ uw_X4_reach_f21) (fun _ h9 => h9) rfl (dt_of tkX4_reach_k24 13 rfl) ?_
    refine lv_aload_n hx hb (dt_of tkX4_reach_k24 14 rfl) rfl (lv_at hl 0 rfl) ?_
    refine va_get (D := (dC, dI)) (ci := 4) (v := .ref a0_values) (C := RX4) (T := TX4) (N := 5) hx hb hts ui_X4_reach_X4 hown hK hP 0 rfl rfl 1 (by decide) (hts _ uw_X4_reach_f15) (fun _ h9 => h9) rfl (dt_of tkX4_reach_k24 15 rfl) ?_
    refine lv_iload_n hx hb (dt_of tkX4_reach_k54 0 rfl) rfl (lv_at hl 2 rfl) ?_
    obtain ⟨hi9, hw⟩ := hw
    refine va_iald hx hb hK hP 3 1 rfl rfl hi9 (dt_of tkX4_reach_k54 1 rfl) ?_
    refine lv_topi (fun x18 ex18 => ?_)
    have hw := hw x18 ex18
    obtain ⟨hi9, hw⟩ := hw
    refine va_iald hx hb hK hP 4 1 rfl rfl hi9 (dt_of tkX4_reach_k54 2 rfl) ?_
    refine lv_topi (fun x19 ex19 => ?_)
    have hw := hw x19 ex19
    exact kb_X4_reach_57 dC dI cyB cyI cyJ cyP a0 a0_pile a0_kinds a0_facts a0_values  v0_length f0_kinds f0_values f0_facts Q K4 hK4 C0 _ _ _ f0_pile l1 l2 l1 x19 hP hD hS (lv_sub hl [0, 1, 2] rfl) hw
  · have hw := hw.2 c17
    refine lv_aload_n hx hb (dt_of tkX4_reach_k24 7 rfl) rfl (lv_at hl 0 rfl) ?_
    refine va_get (D := (dC, dI)) (ci := 4) (v := .ref a0_values) (C := RX4) (T := TX4) (N := 5) hx hb hts ui_X4_reach_X4 hown hK hP 0 rfl rfl 1 (by decide) (hts _ uw_X4_reach_f15) (fun _ h9 => h9) rfl (dt_of tkX4_reach_k24 8 rfl) ?_
    refine lv_iload_n hx hb (dt_of tkX4_reach_k24 9 rfl) rfl (lv_at hl 2 rfl) ?_
    obtain ⟨hi9, hw⟩ := hw
    refine va_iald hx hb hK hP 3 1 rfl rfl hi9 (dt_of tkX4_reach_k24 10 rfl) ?_
    refine lv_topi (fun x20 ex20 => ?_)
    have hw := hw x20 ex20
    refine lv_goto (tgt := 57) hx hb (dt_of tkX4_reach_k24 11 rfl) (by decide) ?_
    exact kb_X4_reach_57 dC dI cyB cyI cyJ cyP a0 a0_pile a0_kinds a0_facts a0_values  v0_length f0_kinds f0_values f0_facts Q K4 hK4 C0 _ _ _ f0_pile l1 l2 l1 x20 hP hD hS (lv_sub hl [0, 1, 2] rfl) hw
set_option maxHeartbeats 4000000 in
set_option maxRecDepth 100000 in
theorem kb_X4_reach_118 {p : Program} {l : Launch} {e : Env} {s : State} {m : MethodId} {args : Array Value} {below : List Frame} {meth : Method} {c : Code} {A : Nat → Prop} (dC : Nat → ClassId) (dI : Nat → Nat → Nat) (cyB cyI cyJ cyP : ClassId) (a0 a0_pile a0_kinds a0_facts a0_values : Nat)  (v0_length : Int32) (f0_kinds : Nat → Int32) (f0_values : Nat → Int32) (f0_facts : Nat → Int32) (Q : Int32 → (Nat → Int32) → Prop)  (C0 : cfx p s m args meth c cX4_reach (some .int) wsX4_reach RX4 4 A (dC, dI) (kT cyB cyI cyJ cyP)) : ∀ (H : Heap) (locs : List Loc) (ls : Array Slot) (f0_pile : Nat → Int32) (s0 : Int32), va_P (dC, dI) vwCl (wd01_11 a0 a0_kinds a0_values a0_pile a0_facts v0_length a0_pile cyI f0_pile a0_kinds cyI f0_kinds a0_values cyI f0_values a0_facts cyI f0_facts) H → va_D A (wd01_11 a0 a0_kinds a0_values a0_pile a0_facts v0_length a0_pile cyI f0_pile a0_kinds cyI f0_kinds a0_values cyI f0_values a0_facts cyI f0_facts) → va_S A s.heap H locs → lv_has ls 4 [] → wb_X4_reach_118 v0_length f0_kinds f0_values f0_facts Q  f0_pile s0 → W p l e (headSpec wsX4_reach ({ frames := 1, cells := 0, slots := 0, locals := 32 })).room s m args below meth c H locs 0 0 (MQ below (va_Qi (fun (r : Int32) (u : (Nat → Int32)) => Q r u) (cB (dC, dI) (kT cyB cyI cyJ cyP) A (fun u : (Nat → Int32) => ((wd01_11 a0 a0_kinds a0_values a0_pile a0_facts v0_length a0_pile cyI u a0_kinds cyI f0_kinds a0_values cyI f0_values a0_facts cyI f0_facts) : va_W))) A) args s 0 0 A) (F0 m 118 ls [.int s0]) := by
  obtain ⟨hx, hb, hr, hts, hown, hlocks, hml, hA, hK, hNw⟩ := id C0
  intro H locs ls f0_pile s0 hP hD hS hl hw
  refine lv_istore_n (lv' := [(2, .int s0)]) hx hb (dt_of tkX4_reach_k108 6 rfl) rfl hl (by decide) rfl (fun ls hl => ?_)
  refine lv_iconst (v := 0) hx hb (dt_of tkX4_reach_k108 7 rfl) (by decide) ?_
  refine lv_bipush (v := 60) hx hb (dt_of tkX4_reach_k108 8 rfl) (by decide) ?_
  refine lv_iload_n hx hb (dt_of tkX4_reach_k108 9 rfl) rfl (lv_at hl 0 rfl) ?_
  refine va_mmin hx hb (by rw [hml]; exact hl.1.symm) hown (hts _ uw_X4_reach_m115) (hts _ uw_X4_reach_msmin) (hts _ uw_X4_reach_inim) (hts _ uw_X4_reach_mcmin) (Nat.le_of_ble_eq_true rfl) (Nat.le_of_ble_eq_true rfl) (Nat.le_of_ble_eq_true rfl) (Nat.le_of_ble_eq_true rfl) (dt_of tkX4_reach_k108 10 rfl) ?_
  refine lv_topi (fun x15 ex15 => ?_)
  have hw := hw x15 ex15
  refine va_mmax hx hb (by rw [hml]; exact hl.1.symm) hown (hts _ uw_X4_reach_m120) (hts _ uw_X4_reach_msmax) (hts _ uw_X4_reach_inim) (hts _ uw_X4_reach_mcmax) (Nat.le_of_ble_eq_true rfl) (Nat.le_of_ble_eq_true rfl) (Nat.le_of_ble_eq_true rfl) (Nat.le_of_ble_eq_true rfl) (dt_of tkX4_reach_k108 11 rfl) ?_
  refine lv_topi (fun x16 ex16 => ?_)
  have hw := hw x16 ex16
  exact ((W.iret (v := x16) hx hb hr (fun t ht hW => ⟨⟨x16, (f0_pile), rfl, hw, by rw [ht]; exact hP, va_K.moved hW.alike hK, hD⟩, hS.F ht⟩) hS.2.2 (dt_of tkX4_reach_k108 12 rfl)))
set_option maxHeartbeats 4000000 in
set_option maxRecDepth 100000 in
theorem kl_X4_reach_4 {p : Program} {l : Launch} {e : Env} {s : State} {m : MethodId} {args : Array Value} {below : List Frame} {meth : Method} {c : Code} {A : Nat → Prop} (dC : Nat → ClassId) (dI : Nat → Nat → Nat) (cyB cyI cyJ cyP : ClassId) (a0 a0_pile a0_kinds a0_facts a0_values : Nat)  (v0_length : Int32) (f0_kinds : Nat → Int32) (f0_values : Nat → Int32) (f0_facts : Nat → Int32) (Q : Int32 → (Nat → Int32) → Prop)  (C0 : cfx p s m args meth c cX4_reach (some .int) wsX4_reach RX4 4 A (dC, dI) (kT cyB cyI cyJ cyP)) : ∀ (n : Nat) (H : Heap) (locs : List Loc) (ls : Array Slot) (f0_pile : Nat → Int32) (l1 : Int32) (l2 : Int32), va_P (dC, dI) vwCl (wd01_11 a0 a0_kinds a0_values a0_pile a0_facts v0_length a0_pile cyI f0_pile a0_kinds cyI f0_kinds a0_values cyI f0_values a0_facts cyI f0_facts) H → va_D A (wd01_11 a0 a0_kinds a0_values a0_pile a0_facts v0_length a0_pile cyI f0_pile a0_kinds cyI f0_kinds a0_values cyI f0_values a0_facts cyI f0_facts) → va_S A s.heap H locs → lv_has ls 4 [(0, .ref a0), (1, .int l1), (2, .int l2)] → wl_X4_reach_4 v0_length f0_kinds f0_values f0_facts Q  n f0_pile l1 l2 → W p l e (headSpec wsX4_reach ({ frames := 1, cells := 0, slots := 0, locals := 32 })).room s m args below meth c H locs 0 0 (MQ below (va_Qi (fun (r : Int32) (u : (Nat → Int32)) => Q r u) (cB (dC, dI) (kT cyB cyI cyJ cyP) A (fun u : (Nat → Int32) => ((wd01_11 a0 a0_kinds a0_values a0_pile a0_facts v0_length a0_pile cyI u a0_kinds cyI f0_kinds a0_values cyI f0_values a0_facts cyI f0_facts) : va_W))) A) args s 0 0 A) (F0 m 4 ls []) := by
  obtain ⟨hx, hb, hr, hts, hown, hlocks, hml, hA, hK, hNw⟩ := id C0
  intro n
  induction n with
  | zero => intro H locs ls f0_pile l1 l2 hP hD hS hl hw; exact False.elim hw
  | succ n ih =>
    intro H locs ls f0_pile l1 l2 hP hD hS hl hw
    refine lv_iload_n hx hb (dt_of tkX4_reach_k0 4 rfl) rfl (lv_at hl 2 rfl) ?_
    refine lv_aload_n hx hb (dt_of tkX4_reach_k0 5 rfl) rfl (lv_at hl 0 rfl) ?_
    refine va_get (D := (dC, dI)) (ci := 4) (v := .int v0_length) (C := RX4) (T := TX4) (N := 5) hx hb hts ui_X4_reach_X4 hown hK hP 0 rfl rfl 4 (by decide) (hts _ uw_X4_reach_f27) (fun _ h9 => h9) rfl (dt_of tkX4_reach_k0 6 rfl) ?_
    refine lv_icmp_ge (tgt := 104) hx hb (dt_of tkX4_reach_k0 7 rfl) (by decide) (fun c1 => ?_) (fun c1 => ?_)
    · have hw := hw.1 c1
      refine lv_iload_n hx hb (dt_of tkX4_reach_k80 14 rfl) rfl (lv_at hl 1 rfl) ?_
      refine lv_if_le (tgt := 117) hx hb (dt_of tkX4_reach_k80 15 rfl) (by decide) (fun c2 => ?_) (fun c2 => ?_)
      · have hw := hw.1 c2
        refine lv_iconst (v := 0) hx hb (dt_of tkX4_reach_k108 5 rfl) (by decide) ?_
        exact kb_X4_reach_118 dC dI cyB cyI cyJ cyP a0 a0_pile a0_kinds a0_facts a0_values  v0_length f0_kinds f0_values f0_facts Q  C0 _ _ _ f0_pile 0 hP hD hS (lv_sub hl [] rfl) hw
      · have hw := hw.2 c2
        refine lv_aload_n hx hb (dt_of tkX4_reach_k108 0 rfl) rfl (lv_at hl 0 rfl) ?_
        refine va_get (D := (dC, dI)) (ci := 4) (v := .ref a0_pile) (C := RX4) (T := TX4) (N := 5) hx hb hts ui_X4_reach_X4 hown hK hP 0 rfl rfl 2 (by decide) (hts _ uw_X4_reach_f18) (fun _ h9 => h9) rfl (dt_of tkX4_reach_k108 1 rfl) ?_
        refine lv_iconst (v := 0) hx hb (dt_of tkX4_reach_k108 2 rfl) (by decide) ?_
        refine va_iald hx hb hK hP 1 1 rfl rfl (vin (by decide)) (dt_of tkX4_reach_k108 3 rfl) ?_
        refine lv_topi (fun x3 ex3 => ?_)
        have hw := hw x3 ex3
        refine lv_goto (tgt := 118) hx hb (dt_of tkX4_reach_k108 4 rfl) (by decide) ?_
        exact kb_X4_reach_118 dC dI cyB cyI cyJ cyP a0 a0_pile a0_kinds a0_facts a0_values  v0_length f0_kinds f0_values f0_facts Q  C0 _ _ _ f0_pile x3 hP hD hS (lv_sub hl [] rfl) hw
    · have hw := hw.2 c1
      refine lv_aload_n hx hb (dt_of tkX4_reach_k0 8 rfl) rfl (lv_at hl 0 rfl) ?_
      refine va_get (D := (dC, dI)) (ci := 4) (v := .ref a0_kinds) (C := RX4) (T := TX4) (N := 5) hx hb hts ui_X4_reach_X4 hown hK hP 0 rfl rfl 0 (by decide) (hts _ uw_X4_reach_f9) (fun _ h9 => h9) rfl (dt_of tkX4_reach_k0 9 rfl) ?_
      refine lv_iload_n hx hb (dt_of tkX4_reach_k0 10 rfl) rfl (lv_at hl 2 rfl) ?_
      obtain ⟨hi9, hw⟩ := hw
      refine va_iald hx hb hK hP 2 1 rfl rfl hi9 (dt_of tkX4_reach_k0 11 rfl) ?_
      refine lv_topi (fun x4 ex4 => ?_)
      have hw := hw x4 ex4
      refine lv_istore_n (lv' := [(3, .int x4), (0, .ref a0), (1, .int l1), (2, .int l2)]) hx hb (dt_of tkX4_reach_k0 12 rfl) rfl hl (by decide) rfl (fun ls hl => ?_)
      refine lv_iload_n hx hb (dt_of tkX4_reach_k0 13 rfl) rfl (lv_at hl 0 rfl) ?_
      refine lv_if_eq (tgt := 28) hx hb (dt_of tkX4_reach_k0 14 rfl) (by decide) (fun c5 => ?_) (fun c5 => ?_)
      · have hw := hw.1 c5
        exact kb_X4_reach_28 dC dI cyB cyI cyJ cyP a0 a0_pile a0_kinds a0_facts a0_values  v0_length f0_kinds f0_values f0_facts Q (wl_X4_reach_4 v0_length f0_kinds f0_values f0_facts Q  n) ih C0 _ _ _ f0_pile l1 l2 x4 hP hD hS (lv_sub hl [1, 2, 3, 0] rfl) hw
      · have hw := hw.2 c5
        refine lv_iload_n hx hb (dt_of tkX4_reach_k0 15 rfl) rfl (lv_at hl 0 rfl) ?_
        refine lv_iconst (v := 1) hx hb (dt_of tkX4_reach_k24 0 rfl) (by decide) ?_
        refine lv_icmp_ne (tgt := 64) hx hb (dt_of tkX4_reach_k24 1 rfl) (by decide) (fun c6 => ?_) (fun c6 => ?_)
        · have hw := hw.1 c6
          refine lv_iload_n hx hb (dt_of tkX4_reach_k54 6 rfl) rfl (lv_at hl 2 rfl) ?_
          refine lv_iconst (v := 2) hx hb (dt_of tkX4_reach_k54 7 rfl) (by decide) ?_
          refine lv_icmp_lt (tgt := 98) hx hb (dt_of tkX4_reach_k54 8 rfl) (by decide) (fun c7 => ?_) (fun c7 => ?_)
          · have hw := hw.1 c7
            exact kb_X4_reach_98 dC dI cyB cyI cyJ cyP a0 a0_pile a0_kinds a0_facts a0_values  v0_length f0_kinds f0_values f0_facts Q (wl_X4_reach_4 v0_length f0_kinds f0_values f0_facts Q  n) ih C0 _ _ _ f0_pile l1 l2 hP hD hS (lv_sub hl [1, 2, 3] rfl) hw
          · have hw := hw.2 c7
            obtain ⟨x8, ex8⟩ : ∃ y : Int32, y = l1 + (-1) := ⟨_, rfl⟩
            have hw := hw x8 ex8
            refine lv_iinc (v := x8) (lv' := [(1, .int x8), (3, .int x4), (0, .ref a0), (2, .int l2)]) hx hb (dt_of tkX4_reach_k54 9 rfl) hl (k := 2) rfl (by rw [ex8]; rfl) (by decide) rfl (fun ls hl => ?_)
            refine lv_aload_n hx hb (dt_of tkX4_reach_k54 10 rfl) rfl (lv_at hl 2 rfl) ?_
            refine va_get (D := (dC, dI)) (ci := 4) (v := .ref a0_pile) (C := RX4) (T := TX4) (N := 5) hx hb hts ui_X4_reach_X4 hown hK hP 0 rfl rfl 2 (by decide) (hts _ uw_X4_reach_f18) (fun _ h9 => h9) rfl (dt_of tkX4_reach_k54 11 rfl) ?_
            refine lv_iload_n hx hb (dt_of tkX4_reach_k54 12 rfl) rfl (lv_at hl 0 rfl) ?_
            refine lv_iconst (v := 1) hx hb (dt_of tkX4_reach_k54 13 rfl) (by decide) ?_
            refine lv_isub hx hb (dt_of tkX4_reach_k54 14 rfl) ?_
            refine lv_topi (fun x9 ex9 => ?_)
            have hw := hw x9 ex9
            refine lv_iload_n hx hb (dt_of tkX4_reach_k54 15 rfl) rfl (lv_at hl 1 rfl) ?_
            refine lv_aload_n hx hb (dt_of tkX4_reach_k80 0 rfl) rfl (lv_at hl 2 rfl) ?_
            refine va_get (D := (dC, dI)) (ci := 4) (v := .ref a0_pile) (C := RX4) (T := TX4) (N := 5) hx hb hts ui_X4_reach_X4 hown hK hP 0 rfl rfl 2 (by decide) (hts _ uw_X4_reach_f18) (fun _ h9 => h9) rfl (dt_of tkX4_reach_k80 1 rfl) ?_
            refine lv_iload_n hx hb (dt_of tkX4_reach_k80 2 rfl) rfl (lv_at hl 0 rfl) ?_
            refine lv_iconst (v := 1) hx hb (dt_of tkX4_reach_k80 3 rfl) (by decide) ?_
            refine lv_isub hx hb (dt_of tkX4_reach_k80 4 rfl) ?_
            refine lv_topi (fun x10 ex10 => ?_)
            have hw := hw x10 ex10
            obtain ⟨hi9, hw⟩ := hw
            refine va_iald hx hb hK hP 1 1 rfl rfl hi9 (dt_of tkX4_reach_k80 5 rfl) ?_
            refine lv_topi (fun x11 ex11 => ?_)
            have hw := hw x11 ex11
            refine lv_aload_n hx hb (dt_of tkX4_reach_k80 6 rfl) rfl (lv_at hl 2 rfl) ?_
            refine va_get (D := (dC, dI)) (ci := 4) (v := .ref a0_pile) (C := RX4) (T := TX4) (N := 5) hx hb hts ui_X4_reach_X4 hown hK hP 0 rfl rfl 2 (by decide) (hts _ uw_X4_reach_f18) (fun _ h9 => h9) rfl (dt_of tkX4_reach_k80 7 rfl) ?_
            refine lv_iload_n hx hb (dt_of tkX4_reach_k80 8 rfl) rfl (lv_at hl 0 rfl) ?_
            obtain ⟨hi9, hw⟩ := hw
            refine va_iald hx hb hK hP 1 1 rfl rfl hi9 (dt_of tkX4_reach_k80 9 rfl) ?_
            refine lv_topi (fun x12 ex12 => ?_)
            have hw := hw x12 ex12
            obtain ⟨hCc, hPc, hDc, hFc⟩ := va_pick (ws' := []) hP hD hS hA [] (by decide +kernel) rfl
            refine va_calli (va_runS (As := [.int x4, .int x11, .int x12]) (rest := [.int x9, .ref a0_pile]) ⟨hx, hb, hml, hown, hts⟩ (ck_X4_joined l dC dI cyB cyI cyJ cyP  H.size    x4 x11 x12 hw) (va_cwS 3 hts gX4_reach_X4_joined rfl rfl rfl (by decide +kernel) ⟨Nat.le_of_ble_eq_true rfl, Nat.le_of_ble_eq_true rfl⟩) ⟨cPc_blind, cPc_pre hPc hK hDc hNw⟩ rfl rfl hl.1 rfl (lv_room (Nat.le_of_ble_eq_true rfl)) (dt_of tkX4_reach_k80 10 rfl) ⟨Nat.le_of_ble_eq_true rfl, Nat.le_of_ble_eq_true rfl⟩) hS (fun q _ h => hFc q h) hFc (fun r13 u t H1 locs ht hvm hw hB hz1 hk1 hS => ?_)
            obtain ⟨hP1, hK1, hD1⟩ := hB
            rw [ht] at hP1
            obtain ⟨hP, hD⟩ := va_joinI (wr := (wd01_11 a0 a0_kinds a0_values a0_pile a0_facts v0_length a0_pile cyI f0_pile a0_kinds cyI f0_kinds a0_values cyI f0_values a0_facts cyI f0_facts)) (w1 := []) (wn := (wd01_11 a0 a0_kinds a0_values a0_pile a0_facts v0_length a0_pile cyI f0_pile a0_kinds cyI f0_kinds a0_values cyI f0_values a0_facts cyI f0_facts)) hP hD [] [0, 1, 2, 3, 4] hCc rfl (by decide +kernel) (by decide +kernel) rfl hk1 hFc hP1 hD1
            generalize H1 = H at hP hS ⊢
            obtain ⟨hi9, hw⟩ := hw
            refine va_iast hx hb hK hP hD hS 1 1 rfl rfl hi9 (dt_of tkX4_reach_k80 11 rfl) (fun H locs hP hD hS => ?_)
            obtain ⟨f14, ef14⟩ : ∃ y : Nat → Int32, y = upd f0_pile x9.toNatClampNeg r13 := ⟨_, rfl⟩
            have hw := hw f14 ef14
            have hP : va_P (dC, dI) vwCl (wd01_11 a0 a0_kinds a0_values a0_pile a0_facts v0_length a0_pile cyI f14 a0_kinds cyI f0_kinds a0_values cyI f0_values a0_facts cyI f0_facts) H := by rw [ef14]; exact hP
            have hD : va_D A (wd01_11 a0 a0_kinds a0_values a0_pile a0_facts v0_length a0_pile cyI f14 a0_kinds cyI f0_kinds a0_values cyI f0_values a0_facts cyI f0_facts) := by rw [ef14]; exact hD
            exact kb_X4_reach_98 dC dI cyB cyI cyJ cyP a0 a0_pile a0_kinds a0_facts a0_values  v0_length f0_kinds f0_values f0_facts Q (wl_X4_reach_4 v0_length f0_kinds f0_values f0_facts Q  n) ih C0 _ _ _ f14 x8 l2 hP hD hS (lv_sub hl [2, 0, 3] rfl) hw
        · have hw := hw.2 c6
          exact kb_X4_reach_28 dC dI cyB cyI cyJ cyP a0 a0_pile a0_kinds a0_facts a0_values  v0_length f0_kinds f0_values f0_facts Q (wl_X4_reach_4 v0_length f0_kinds f0_values f0_facts Q  n) ih C0 _ _ _ f0_pile l1 l2 x4 hP hD hS (lv_sub hl [1, 2, 3, 0] rfl) hw
set_option maxHeartbeats 4000000 in
set_option maxRecDepth 100000 in
theorem ck_X4_reach (l : Launch) (dC : Nat → ClassId) (dI : Nat → Nat → Nat) (cyB cyI cyJ cyP : ClassId) (a0 a0_pile a0_kinds a0_facts a0_values : Nat) (sz : Nat)  (v0_length : Int32) (f0_kinds : Nat → Int32) (f0_values : Nat → Int32) (f0_facts : Nat → Int32) (f0_pile : Nat → Int32)  {Q : Int32 → (Nat → Int32) → Prop} (hw : wq_X4_reach v0_length f0_kinds f0_values f0_facts f0_pile  Q) : Met l yX4_reach wsX4_reach ({ frames := 1, cells := 0, slots := 0, locals := 32 }) (va_Pc [.ref a0] (cPc (dC, dI) (kT cyB cyI cyJ cyP) (wd01_11 a0 a0_kinds a0_values a0_pile a0_facts v0_length a0_pile cyI f0_pile a0_kinds cyI f0_kinds a0_values cyI f0_values a0_facts cyI f0_facts) sz)) (va_Qi (fun (r : Int32) (u : (Nat → Int32)) => Q r u) (cB (dC, dI) (kT cyB cyI cyJ cyP) (va_A (wd01_11 a0 a0_kinds a0_values a0_pile a0_facts v0_length a0_pile cyI f0_pile a0_kinds cyI f0_kinds a0_values cyI f0_values a0_facts cyI f0_facts) sz) (fun u : (Nat → Int32) => ((wd01_11 a0 a0_kinds a0_values a0_pile a0_facts v0_length a0_pile cyI u a0_kinds cyI f0_kinds a0_values cyI f0_values a0_facts cyI f0_facts) : va_W))) (va_A (wd01_11 a0 a0_kinds a0_values a0_pile a0_facts v0_length a0_pile cyI f0_pile a0_kinds cyI f0_kinds a0_values cyI f0_values a0_facts cyI f0_facts) sz)) 0 0 (va_A (wd01_11 a0 a0_kinds a0_values a0_pile a0_facts v0_length a0_pile cyI f0_pile a0_kinds cyI f0_kinds a0_values cyI f0_values a0_facts cyI f0_facts) sz) := by
  refine Met.ofW (cc := cX4_reach) (maxL := 4) (ret := (some .int)) (by decide) rfl ?_
  intro p e s m args below meth c s₁ B hml hv
  obtain ⟨rfl, hsz, hP, hK, hD0, hNw⟩ := hv
  have hx := B.exec
  have hb := B.bytes
  have hr := B.returns
  have hts := atoms_spec (ws := wsX4_reach) B.pre
  have hown : s.vm.findClass RX4 = some m.cls := findClass_of_methodNamed B.named
  have hlocks := B.notSynchronized
  subst hsz
  have hD := hD0.self (sz := s.heap.size)
  generalize hAe : va_A (wd01_11 a0 a0_kinds a0_values a0_pile a0_facts v0_length a0_pile cyI f0_pile a0_kinds cyI f0_kinds a0_values cyI f0_values a0_facts cyI f0_facts) s.heap.size = A at hD ⊢
  have hA : ∀ q : Nat, s.heap.size ≤ q → A q := fun q h => by rw [← hAe]; exact Or.inr h
  have hS : va_S A s.heap s.heap [] := va_S.rf
  have hP : va_P (dC, dI) vwCl (wd01_11 a0 a0_kinds a0_values a0_pile a0_facts v0_length a0_pile cyI f0_pile a0_kinds cyI f0_kinds a0_values cyI f0_values a0_facts cyI f0_facts) s.heap := hP
  have hl := lv_entry ([.ref a0]) (n := 4) (Nat.le_of_ble_eq_true rfl)
  rw [lg_entry_eq]
  generalize (lg_sl ([.ref a0]) ++ List.replicate (4 - (lg_sl ([.ref a0])).length) Slot.unset).toArray = ls at hl ⊢
  have hl : lv_has ls 4 [(0, .ref a0)] := hl
  have C0 : cfx p s m _ meth c cX4_reach (some .int) wsX4_reach RX4 4 A (dC, dI) (kT cyB cyI cyJ cyP) := ⟨hx, hb, hr, hts, hown, hlocks, hml, hA, hK, hNw⟩
  clear hAe
  obtain ⟨H, hH⟩ : ∃ H, H = s.heap := ⟨_, rfl⟩
  rw [← hH] at hP ⊢
  have hS : va_S A s.heap H [] := by rw [hH]; exact va_S.rf
  have hS := hS
  refine lv_iconst (v := 0) hx hb (dt_of tkX4_reach_k0 0 rfl) (by decide) ?_
  refine lv_istore_n (lv' := [(1, .int 0), (0, .ref a0)]) hx hb (dt_of tkX4_reach_k0 1 rfl) rfl hl (by decide) rfl (fun ls hl => ?_)
  refine lv_iconst (v := 0) hx hb (dt_of tkX4_reach_k0 2 rfl) (by decide) ?_
  refine lv_istore_n (lv' := [(2, .int 0), (1, .int 0), (0, .ref a0)]) hx hb (dt_of tkX4_reach_k0 3 rfl) rfl hl (by decide) rfl (fun ls hl => ?_)
  obtain ⟨n9, hw⟩ := hw
  exact kl_X4_reach_4 dC dI cyB cyI cyJ cyP a0 a0_pile a0_kinds a0_facts a0_values  v0_length f0_kinds f0_values f0_facts Q  C0 n9 _ _ _ f0_pile 0 0 hP hD hS (lv_sub hl [2, 1, 0] rfl) hw
theorem ui_X1_reach_X1 : ∀ w ∈ u_ws RX1 TX1 4, w ∈ wsX1_reach := uiM mbX1_reach euX1 (by decide +kernel)
theorem uw_X1_reach_f28 : (.fieldLink RX1 28 "MarchHares$Days" "law" "LMarchHares$Law;" : Cond) ∈ wsX1_reach := mbX1_reach 323 (by decide +kernel)
set_option maxHeartbeats 4000000 in
set_option maxRecDepth 100000 in
theorem ck_X1_reach (l : Launch) (dC : Nat → ClassId) (dI : Nat → Nat → Nat) (cyB cyI cyJ cyP : ClassId) (a0 a0_row a0_down a0_law a0_law_facts a0_law_pile a0_law_kinds a0_law_values : Nat) (sz : Nat) (z0_owedEach : Value) (z0_down_formX : Value) (z0_down_formY : Value) (z0_down_foxX : Value) (z0_down_foxY : Value) (z0_down_seat : Value) (z0_down_strength : Value) (z0_down_debts : Value) (z0_down_near : Value) (z0_down_forms : Value) (z0_down_foxes : Value) (z0_down_safe : Value) (f0_row : Nat → Int32) (v0_down_hares : Int32) (v0_law_length : Int32) (f0_law_kinds : Nat → Int32) (f0_law_values : Nat → Int32) (f0_law_facts : Nat → Int32) (f0_law_pile : Nat → Int32) (p1 : Int32) {Q : Int32 → (Nat → Int32) → (Nat → Int32) → Prop} (hw : wq_X1_reach f0_row v0_down_hares v0_law_length f0_law_kinds f0_law_values f0_law_facts f0_law_pile p1 Q) : Met l yX1_reach wsX1_reach ({ frames := 2, cells := 0, slots := 0, locals := 55 }) (va_Pc [.ref a0, .int p1] (cPc (dC, dI) (kT cyB cyI cyJ cyP) (wd01_12 a0 a0_row z0_owedEach a0_down a0_law a0_row cyI f0_row a0_down z0_down_formX z0_down_formY z0_down_foxX z0_down_foxY z0_down_seat z0_down_strength z0_down_debts z0_down_near z0_down_forms v0_down_hares z0_down_foxes z0_down_safe a0_law a0_law_kinds a0_law_values a0_law_pile a0_law_facts v0_law_length a0_law_facts cyI f0_law_facts a0_law_pile cyI f0_law_pile a0_law_kinds cyI f0_law_kinds a0_law_values cyI f0_law_values) sz)) (va_Qi (fun (r : Int32) (u : (Nat → Int32) × (Nat → Int32)) => Q r u.1 u.2) (cB (dC, dI) (kT cyB cyI cyJ cyP) (va_A (wd01_12 a0 a0_row z0_owedEach a0_down a0_law a0_row cyI f0_row a0_down z0_down_formX z0_down_formY z0_down_foxX z0_down_foxY z0_down_seat z0_down_strength z0_down_debts z0_down_near z0_down_forms v0_down_hares z0_down_foxes z0_down_safe a0_law a0_law_kinds a0_law_values a0_law_pile a0_law_facts v0_law_length a0_law_facts cyI f0_law_facts a0_law_pile cyI f0_law_pile a0_law_kinds cyI f0_law_kinds a0_law_values cyI f0_law_values) sz) (fun u : (Nat → Int32) × (Nat → Int32) => ((wd01_12 a0 a0_row z0_owedEach a0_down a0_law a0_row cyI f0_row a0_down z0_down_formX z0_down_formY z0_down_foxX z0_down_foxY z0_down_seat z0_down_strength z0_down_debts z0_down_near z0_down_forms v0_down_hares z0_down_foxes z0_down_safe a0_law a0_law_kinds a0_law_values a0_law_pile a0_law_facts v0_law_length a0_law_facts cyI u.1 a0_law_pile cyI u.2 a0_law_kinds cyI f0_law_kinds a0_law_values cyI f0_law_values) : va_W))) (va_A (wd01_12 a0 a0_row z0_owedEach a0_down a0_law a0_row cyI f0_row a0_down z0_down_formX z0_down_formY z0_down_foxX z0_down_foxY z0_down_seat z0_down_strength z0_down_debts z0_down_near z0_down_forms v0_down_hares z0_down_foxes z0_down_safe a0_law a0_law_kinds a0_law_values a0_law_pile a0_law_facts v0_law_length a0_law_facts cyI f0_law_facts a0_law_pile cyI f0_law_pile a0_law_kinds cyI f0_law_kinds a0_law_values cyI f0_law_values) sz)) 0 0 (va_A (wd01_12 a0 a0_row z0_owedEach a0_down a0_law a0_row cyI f0_row a0_down z0_down_formX z0_down_formY z0_down_foxX z0_down_foxY z0_down_seat z0_down_strength z0_down_debts z0_down_near z0_down_forms v0_down_hares z0_down_foxes z0_down_safe a0_law a0_law_kinds a0_law_values a0_law_pile a0_law_facts v0_law_length a0_law_facts cyI f0_law_facts a0_law_pile cyI f0_law_pile a0_law_kinds cyI f0_law_kinds a0_law_values cyI f0_law_values) sz) := by
  refine Met.ofW (cc := cX1_reach) (maxL := 3) (ret := (some .int)) (by decide) rfl ?_
  intro p e s m args below meth c s₁ B hml hv
  obtain ⟨rfl, hsz, hP, hK, hD0, hNw⟩ := hv
  have hx := B.exec
  have hb := B.bytes
  have hr := B.returns
  have hts := atoms_spec (ws := wsX1_reach) B.pre
  have hown : s.vm.findClass RX1 = some m.cls := findClass_of_methodNamed B.named
  have hlocks := B.notSynchronized
  subst hsz
  have hD := hD0.self (sz := s.heap.size)
  generalize hAe : va_A (wd01_12 a0 a0_row z0_owedEach a0_down a0_law a0_row cyI f0_row a0_down z0_down_formX z0_down_formY z0_down_foxX z0_down_foxY z0_down_seat z0_down_strength z0_down_debts z0_down_near z0_down_forms v0_down_hares z0_down_foxes z0_down_safe a0_law a0_law_kinds a0_law_values a0_law_pile a0_law_facts v0_law_length a0_law_facts cyI f0_law_facts a0_law_pile cyI f0_law_pile a0_law_kinds cyI f0_law_kinds a0_law_values cyI f0_law_values) s.heap.size = A at hD ⊢
  have hA : ∀ q : Nat, s.heap.size ≤ q → A q := fun q h => by rw [← hAe]; exact Or.inr h
  have hS : va_S A s.heap s.heap [] := va_S.rf
  have hP : va_P (dC, dI) vwCl (wd01_12 a0 a0_row z0_owedEach a0_down a0_law a0_row cyI f0_row a0_down z0_down_formX z0_down_formY z0_down_foxX z0_down_foxY z0_down_seat z0_down_strength z0_down_debts z0_down_near z0_down_forms v0_down_hares z0_down_foxes z0_down_safe a0_law a0_law_kinds a0_law_values a0_law_pile a0_law_facts v0_law_length a0_law_facts cyI f0_law_facts a0_law_pile cyI f0_law_pile a0_law_kinds cyI f0_law_kinds a0_law_values cyI f0_law_values) s.heap := hP
  have hl := lv_entry ([.ref a0, .int p1]) (n := 3) (Nat.le_of_ble_eq_true rfl)
  rw [lg_entry_eq]
  generalize (lg_sl ([.ref a0, .int p1]) ++ List.replicate (3 - (lg_sl ([.ref a0, .int p1])).length) Slot.unset).toArray = ls at hl ⊢
  have hl : lv_has ls 3 [(0, .ref a0), (1, .int p1)] := hl
  have C0 : cfx p s m _ meth c cX1_reach (some .int) wsX1_reach RX1 3 A (dC, dI) (kT cyB cyI cyJ cyP) := ⟨hx, hb, hr, hts, hown, hlocks, hml, hA, hK, hNw⟩
  clear hAe
  obtain ⟨H, hH⟩ : ∃ H, H = s.heap := ⟨_, rfl⟩
  rw [← hH] at hP ⊢
  have hS : va_S A s.heap H [] := by rw [hH]; exact va_S.rf
  have hS := hS
  refine lv_aload_n hx hb (dt_of tkX1_reach_k0 0 rfl) rfl (lv_at hl 0 rfl) ?_
  refine lv_aload_n hx hb (dt_of tkX1_reach_k0 1 rfl) rfl (lv_at hl 0 rfl) ?_
  refine lv_iload_n hx hb (dt_of tkX1_reach_k0 2 rfl) rfl (lv_at hl 1 rfl) ?_
  obtain ⟨hCc, hPc, hDc, hFc⟩ := va_pick (ws' := (wd01_13 a0 a0_row z0_owedEach a0_down a0_law a0_row cyI f0_row)) hP hD hS hA [0, 1] (by decide +kernel) rfl
  refine va_calli (va_runV (As := [.int p1]) (rest := [.ref a0]) ⟨hx, hb, hml, hown, hts⟩ (ck_X1_sits l dC dI cyB cyI cyJ cyP a0 a0_row H.size (z0_owedEach) (.ref a0_down) (.ref a0_law) f0_row  p1 hw) (cwV 1 hts gX1_reach_X1_sits rfl rfl rfl (by decide +kernel) ⟨Nat.le_of_ble_eq_true rfl, Nat.le_of_ble_eq_true rfl⟩) ⟨cPc_blind, va_recv (q := (RX1, TX1, 4)) hK hPc (ci := 1) (q0 := 0) rfl rfl, cPc_pre hPc hK hDc hNw⟩ rfl rfl hl.1 rfl (lv_room (Nat.le_of_ble_eq_true rfl)) (dt_of tkX1_reach_k0 3 rfl) ⟨Nat.le_of_ble_eq_true rfl, Nat.le_of_ble_eq_true rfl⟩) hS (fun q _ h => hFc q h) hFc (fun r1 u t H1 locs ht hvm hw hB hz1 hk1 hS => ?_)
  obtain ⟨hP1, hK1, hD1⟩ := hB
  rw [ht] at hP1
  obtain ⟨hP, hD⟩ := va_joinN (wr := (wd01_14 a0_down z0_down_formX z0_down_formY z0_down_foxX z0_down_foxY z0_down_seat z0_down_strength z0_down_debts z0_down_near z0_down_forms v0_down_hares z0_down_foxes z0_down_safe a0_law a0_law_kinds a0_law_values a0_law_pile a0_law_facts v0_law_length a0_law_facts cyI f0_law_facts a0_law_pile cyI f0_law_pile a0_law_kinds cyI f0_law_kinds a0_law_values cyI f0_law_values)) (w1 := (wd01_13 a0 a0_row z0_owedEach a0_down a0_law a0_row cyI f0_row)) (wn := (wd01_12 a0 a0_row z0_owedEach a0_down a0_law a0_row cyI f0_row a0_down z0_down_formX z0_down_formY z0_down_foxX z0_down_foxY z0_down_seat z0_down_strength z0_down_debts z0_down_near z0_down_forms v0_down_hares z0_down_foxes z0_down_safe a0_law a0_law_kinds a0_law_values a0_law_pile a0_law_facts v0_law_length a0_law_facts cyI f0_law_facts a0_law_pile cyI f0_law_pile a0_law_kinds cyI f0_law_kinds a0_law_values cyI f0_law_values)) hP hD [0, 1] [2, 3, 4, 5, 6, 7] [6, 7, 0, 1, 2, 3, 4, 5] hCc rfl (by decide +kernel) (by decide +kernel) (by decide +kernel) rfl hk1 hFc hP1 hD1
  generalize H1 = H at hP hS ⊢
  obtain ⟨hCc, hPc, hDc, hFc⟩ := va_pick (ws' := (wd01_15 a0 a0_row z0_owedEach a0_down a0_law a0_down z0_down_formX z0_down_formY z0_down_foxX z0_down_foxY z0_down_seat z0_down_strength z0_down_debts z0_down_near z0_down_forms v0_down_hares z0_down_foxes z0_down_safe a0_row cyI f0_row)) hP hD hS hA [0, 2, 1] (by decide +kernel) rfl
  refine va_calli (va_runV (As := [.int r1]) (rest := []) ⟨hx, hb, hml, hown, hts⟩ (ck_X1_seatedIn l dC dI cyB cyI cyJ cyP a0 a0_down a0_row H.size (z0_owedEach) (.ref a0_law) (z0_down_formX) (z0_down_formY) (z0_down_foxX) (z0_down_foxY) (z0_down_seat) (z0_down_strength) (z0_down_debts) (z0_down_near) (z0_down_forms) (z0_down_foxes) (z0_down_safe) v0_down_hares f0_row  r1 hw) (cwV 1 hts gX1_reach_X1_seatedIn rfl rfl rfl (by decide +kernel) ⟨Nat.le_of_ble_eq_true rfl, Nat.le_of_ble_eq_true rfl⟩) ⟨cPc_blind, va_recv (q := (RX1, TX1, 4)) hK hPc (ci := 1) (q0 := 0) rfl rfl, cPc_pre hPc hK hDc hNw⟩ rfl rfl hl.1 rfl (lv_room (Nat.le_of_ble_eq_true rfl)) (dt_of tkX1_reach_k0 4 rfl) ⟨Nat.le_of_ble_eq_true rfl, Nat.le_of_ble_eq_true rfl⟩) hS (fun q _ h => hFc q h) hFc (fun r2 u t H1 locs ht hvm hw hB hz1 hk1 hS => ?_)
  obtain ⟨hP1, hK1, hD1⟩ := hB
  rw [ht] at hP1
  obtain ⟨hP, hD⟩ := va_joinN (wr := (wd01_16 a0_law a0_law_kinds a0_law_values a0_law_pile a0_law_facts v0_law_length a0_law_facts cyI f0_law_facts a0_law_pile cyI f0_law_pile a0_law_kinds cyI f0_law_kinds a0_law_values cyI f0_law_values)) (w1 := (wd01_15 a0 a0_row z0_owedEach a0_down a0_law a0_down z0_down_formX z0_down_formY z0_down_foxX z0_down_foxY z0_down_seat z0_down_strength z0_down_debts z0_down_near z0_down_forms v0_down_hares z0_down_foxes z0_down_safe a0_row cyI f0_row)) (wn := (wd01_12 a0 a0_row z0_owedEach a0_down a0_law a0_row cyI f0_row a0_down z0_down_formX z0_down_formY z0_down_foxX z0_down_foxY z0_down_seat z0_down_strength z0_down_debts z0_down_near z0_down_forms v0_down_hares z0_down_foxes z0_down_safe a0_law a0_law_kinds a0_law_values a0_law_pile a0_law_facts v0_law_length a0_law_facts cyI f0_law_facts a0_law_pile cyI f0_law_pile a0_law_kinds cyI f0_law_kinds a0_law_values cyI f0_law_values)) hP hD [0, 2, 1] [3, 4, 5, 6, 7] [5, 7, 6, 0, 1, 2, 3, 4] hCc rfl (by decide +kernel) (by decide +kernel) (by decide +kernel) rfl hk1 hFc hP1 hD1
  generalize H1 = H at hP hS ⊢
  refine lv_iconst (v := 1) hx hb (dt_of tkX1_reach_k0 5 rfl) (by decide) ?_
  refine lv_iload_n hx hb (dt_of tkX1_reach_k0 6 rfl) rfl (lv_at hl 1 rfl) ?_
  refine lv_ishl hx hb (dt_of tkX1_reach_k0 7 rfl) ?_
  refine lv_iconst (v := (-1)) hx hb (dt_of tkX1_reach_k0 8 rfl) (by decide) ?_
  refine lv_ixor hx hb (dt_of tkX1_reach_k0 9 rfl) ?_
  refine lv_iand hx hb (dt_of tkX1_reach_k0 10 rfl) ?_
  obtain ⟨hCc, hPc, hDc, hFc⟩ := va_pick (ws' := []) hP hD hS hA [] (by decide +kernel) rfl
  refine va_calli (va_runS (As := [.int (r2 &&& ((1 <<< (p1 &&& 31)) ^^^ (-1)))]) (rest := []) ⟨hx, hb, hml, hown, hts⟩ (ck_J6_bitCount_0f7a4 l dC dI cyB cyI cyJ cyP  H.size    (r2 &&& ((1 <<< (p1 &&& 31)) ^^^ (-1))) hw) (va_cwS 1 hts gX1_reach_J6_bitCount_0f7a4 rfl rfl rfl (by decide +kernel) ⟨Nat.le_of_ble_eq_true rfl, Nat.le_of_ble_eq_true rfl⟩) ⟨cPc_blind, cPc_pre hPc hK hDc hNw⟩ rfl rfl hl.1 rfl (lv_room (Nat.le_of_ble_eq_true rfl)) (dt_of tkX1_reach_k0 11 rfl) ⟨Nat.le_of_ble_eq_true rfl, Nat.le_of_ble_eq_true rfl⟩) hS (fun q _ h => hFc q h) hFc (fun r3 u t H1 locs ht hvm hw hB hz1 hk1 hS => ?_)
  obtain ⟨hP1, hK1, hD1⟩ := hB
  rw [ht] at hP1
  obtain ⟨hP, hD⟩ := va_joinI (wr := (wd01_12 a0 a0_row z0_owedEach a0_down a0_law a0_row cyI f0_row a0_down z0_down_formX z0_down_formY z0_down_foxX z0_down_foxY z0_down_seat z0_down_strength z0_down_debts z0_down_near z0_down_forms v0_down_hares z0_down_foxes z0_down_safe a0_law a0_law_kinds a0_law_values a0_law_pile a0_law_facts v0_law_length a0_law_facts cyI f0_law_facts a0_law_pile cyI f0_law_pile a0_law_kinds cyI f0_law_kinds a0_law_values cyI f0_law_values)) (w1 := []) (wn := (wd01_12 a0 a0_row z0_owedEach a0_down a0_law a0_row cyI f0_row a0_down z0_down_formX z0_down_formY z0_down_foxX z0_down_foxY z0_down_seat z0_down_strength z0_down_debts z0_down_near z0_down_forms v0_down_hares z0_down_foxes z0_down_safe a0_law a0_law_kinds a0_law_values a0_law_pile a0_law_facts v0_law_length a0_law_facts cyI f0_law_facts a0_law_pile cyI f0_law_pile a0_law_kinds cyI f0_law_kinds a0_law_values cyI f0_law_values)) hP hD [] [0, 1, 2, 3, 4, 5, 6, 7] hCc rfl (by decide +kernel) (by decide +kernel) rfl hk1 hFc hP1 hD1
  generalize H1 = H at hP hS ⊢
  refine lv_istore_n (lv' := [(2, .int r3), (0, .ref a0), (1, .int p1)]) hx hb (dt_of tkX1_reach_k0 12 rfl) rfl hl (by decide) rfl (fun ls hl => ?_)
  refine lv_aload_n hx hb (dt_of tkX1_reach_k0 13 rfl) rfl (lv_at hl 1 rfl) ?_
  refine va_get (D := (dC, dI)) (ci := 1) (v := .ref a0_law) (C := RX1) (T := TX1) (N := 4) hx hb hts ui_X1_reach_X1 hown hK hP 0 rfl rfl 3 (by decide) (hts _ uw_X1_reach_f28) (fun _ h9 => h9) rfl (dt_of tkX1_reach_k0 14 rfl) ?_
  refine lv_aload_n hx hb (dt_of tkX1_reach_k0 15 rfl) rfl (lv_at hl 1 rfl) ?_
  refine lv_iload_n hx hb (dt_of tkX1_reach_k24 0 rfl) rfl (lv_at hl 2 rfl) ?_
  obtain ⟨hCc, hPc, hDc, hFc⟩ := va_pick (ws' := (wd01_13 a0 a0_row z0_owedEach a0_down a0_law a0_row cyI f0_row)) hP hD hS hA [0, 1] (by decide +kernel) rfl
  refine va_calli (va_runV (As := [.int p1]) (rest := [.ref a0_law]) ⟨hx, hb, hml, hown, hts⟩ (ck_X1_strong l dC dI cyB cyI cyJ cyP a0 a0_row H.size (z0_owedEach) (.ref a0_down) (.ref a0_law) f0_row  p1 hw) (cwV 1 hts gX1_reach_X1_strong rfl rfl rfl (by decide +kernel) ⟨Nat.le_of_ble_eq_true rfl, Nat.le_of_ble_eq_true rfl⟩) ⟨cPc_blind, va_recv (q := (RX1, TX1, 4)) hK hPc (ci := 1) (q0 := 0) rfl rfl, cPc_pre hPc hK hDc hNw⟩ rfl rfl hl.1 rfl (lv_room (Nat.le_of_ble_eq_true rfl)) (dt_of tkX1_reach_k24 1 rfl) ⟨Nat.le_of_ble_eq_true rfl, Nat.le_of_ble_eq_true rfl⟩) hS (fun q _ h => hFc q h) hFc (fun r4 u t H1 locs ht hvm hw hB hz1 hk1 hS => ?_)
  obtain ⟨hP1, hK1, hD1⟩ := hB
  rw [ht] at hP1
  obtain ⟨hP, hD⟩ := va_joinN (wr := (wd01_14 a0_down z0_down_formX z0_down_formY z0_down_foxX z0_down_foxY z0_down_seat z0_down_strength z0_down_debts z0_down_near z0_down_forms v0_down_hares z0_down_foxes z0_down_safe a0_law a0_law_kinds a0_law_values a0_law_pile a0_law_facts v0_law_length a0_law_facts cyI f0_law_facts a0_law_pile cyI f0_law_pile a0_law_kinds cyI f0_law_kinds a0_law_values cyI f0_law_values)) (w1 := (wd01_13 a0 a0_row z0_owedEach a0_down a0_law a0_row cyI f0_row)) (wn := (wd01_12 a0 a0_row z0_owedEach a0_down a0_law a0_row cyI f0_row a0_down z0_down_formX z0_down_formY z0_down_foxX z0_down_foxY z0_down_seat z0_down_strength z0_down_debts z0_down_near z0_down_forms v0_down_hares z0_down_foxes z0_down_safe a0_law a0_law_kinds a0_law_values a0_law_pile a0_law_facts v0_law_length a0_law_facts cyI f0_law_facts a0_law_pile cyI f0_law_pile a0_law_kinds cyI f0_law_kinds a0_law_values cyI f0_law_values)) hP hD [0, 1] [2, 3, 4, 5, 6, 7] [6, 7, 0, 1, 2, 3, 4, 5] hCc rfl (by decide +kernel) (by decide +kernel) (by decide +kernel) rfl hk1 hFc hP1 hD1
  generalize H1 = H at hP hS ⊢
  refine lv_aload_n hx hb (dt_of tkX1_reach_k24 2 rfl) rfl (lv_at hl 1 rfl) ?_
  refine lv_iload_n hx hb (dt_of tkX1_reach_k24 3 rfl) rfl (lv_at hl 2 rfl) ?_
  obtain ⟨hCc, hPc, hDc, hFc⟩ := va_pick (ws' := (wd01_13 a0 a0_row z0_owedEach a0_down a0_law a0_row cyI f0_row)) hP hD hS hA [0, 1] (by decide +kernel) rfl
  refine va_calli (va_runV (As := [.int p1]) (rest := [.int r4, .ref a0_law]) ⟨hx, hb, hml, hown, hts⟩ (ck_X1_still l dC dI cyB cyI cyJ cyP a0 a0_row H.size (z0_owedEach) (.ref a0_down) (.ref a0_law) f0_row  p1 hw) (cwV 1 hts gX1_reach_X1_still rfl rfl rfl (by decide +kernel) ⟨Nat.le_of_ble_eq_true rfl, Nat.le_of_ble_eq_true rfl⟩) ⟨cPc_blind, va_recv (q := (RX1, TX1, 4)) hK hPc (ci := 1) (q0 := 0) rfl rfl, cPc_pre hPc hK hDc hNw⟩ rfl rfl hl.1 rfl (lv_room (Nat.le_of_ble_eq_true rfl)) (dt_of tkX1_reach_k24 4 rfl) ⟨Nat.le_of_ble_eq_true rfl, Nat.le_of_ble_eq_true rfl⟩) hS (fun q _ h => hFc q h) hFc (fun r5 u t H1 locs ht hvm hw hB hz1 hk1 hS => ?_)
  obtain ⟨hP1, hK1, hD1⟩ := hB
  rw [ht] at hP1
  obtain ⟨hP, hD⟩ := va_joinN (wr := (wd01_14 a0_down z0_down_formX z0_down_formY z0_down_foxX z0_down_foxY z0_down_seat z0_down_strength z0_down_debts z0_down_near z0_down_forms v0_down_hares z0_down_foxes z0_down_safe a0_law a0_law_kinds a0_law_values a0_law_pile a0_law_facts v0_law_length a0_law_facts cyI f0_law_facts a0_law_pile cyI f0_law_pile a0_law_kinds cyI f0_law_kinds a0_law_values cyI f0_law_values)) (w1 := (wd01_13 a0 a0_row z0_owedEach a0_down a0_law a0_row cyI f0_row)) (wn := (wd01_12 a0 a0_row z0_owedEach a0_down a0_law a0_row cyI f0_row a0_down z0_down_formX z0_down_formY z0_down_foxX z0_down_foxY z0_down_seat z0_down_strength z0_down_debts z0_down_near z0_down_forms v0_down_hares z0_down_foxes z0_down_safe a0_law a0_law_kinds a0_law_values a0_law_pile a0_law_facts v0_law_length a0_law_facts cyI f0_law_facts a0_law_pile cyI f0_law_pile a0_law_kinds cyI f0_law_kinds a0_law_values cyI f0_law_values)) hP hD [0, 1] [2, 3, 4, 5, 6, 7] [6, 7, 0, 1, 2, 3, 4, 5] hCc rfl (by decide +kernel) (by decide +kernel) (by decide +kernel) rfl hk1 hFc hP1 hD1
  generalize H1 = H at hP hS ⊢
  refine lv_aload_n hx hb (dt_of tkX1_reach_k24 5 rfl) rfl (lv_at hl 1 rfl) ?_
  refine lv_iload_n hx hb (dt_of tkX1_reach_k24 6 rfl) rfl (lv_at hl 2 rfl) ?_
  obtain ⟨hCc, hPc, hDc, hFc⟩ := va_pick (ws' := (wd01_15 a0 a0_row z0_owedEach a0_down a0_law a0_down z0_down_formX z0_down_formY z0_down_foxX z0_down_foxY z0_down_seat z0_down_strength z0_down_debts z0_down_near z0_down_forms v0_down_hares z0_down_foxes z0_down_safe a0_row cyI f0_row)) hP hD hS hA [0, 2, 1] (by decide +kernel) rfl
  refine va_calli (va_runV (As := [.int p1]) (rest := [.int r5, .int r4, .ref a0_law]) ⟨hx, hb, hml, hown, hts⟩ (ck_X1_owes l dC dI cyB cyI cyJ cyP a0 a0_down a0_row H.size (z0_owedEach) (.ref a0_law) (z0_down_formX) (z0_down_formY) (z0_down_foxX) (z0_down_foxY) (z0_down_seat) (z0_down_strength) (z0_down_debts) (z0_down_near) (z0_down_forms) (z0_down_foxes) (z0_down_safe) v0_down_hares f0_row  p1 hw) (cwV 1 hts gX1_reach_X1_owes rfl rfl rfl (by decide +kernel) ⟨Nat.le_of_ble_eq_true rfl, Nat.le_of_ble_eq_true rfl⟩) ⟨cPc_blind, va_recv (q := (RX1, TX1, 4)) hK hPc (ci := 1) (q0 := 0) rfl rfl, cPc_pre hPc hK hDc hNw⟩ rfl rfl hl.1 rfl (lv_room (Nat.le_of_ble_eq_true rfl)) (dt_of tkX1_reach_k24 7 rfl) ⟨Nat.le_of_ble_eq_true rfl, Nat.le_of_ble_eq_true rfl⟩) hS (fun q _ h => hFc q h) hFc (fun r6 u t H1 locs ht hvm hw hB hz1 hk1 hS => ?_)
  obtain ⟨hP1, hK1, hD1⟩ := hB
  rw [ht] at hP1
  obtain ⟨hP, hD⟩ := va_joinN (wr := (wd01_16 a0_law a0_law_kinds a0_law_values a0_law_pile a0_law_facts v0_law_length a0_law_facts cyI f0_law_facts a0_law_pile cyI f0_law_pile a0_law_kinds cyI f0_law_kinds a0_law_values cyI f0_law_values)) (w1 := (wd01_15 a0 a0_row z0_owedEach a0_down a0_law a0_down z0_down_formX z0_down_formY z0_down_foxX z0_down_foxY z0_down_seat z0_down_strength z0_down_debts z0_down_near z0_down_forms v0_down_hares z0_down_foxes z0_down_safe a0_row cyI f0_row)) (wn := (wd01_12 a0 a0_row z0_owedEach a0_down a0_law a0_row cyI f0_row a0_down z0_down_formX z0_down_formY z0_down_foxX z0_down_foxY z0_down_seat z0_down_strength z0_down_debts z0_down_near z0_down_forms v0_down_hares z0_down_foxes z0_down_safe a0_law a0_law_kinds a0_law_values a0_law_pile a0_law_facts v0_law_length a0_law_facts cyI f0_law_facts a0_law_pile cyI f0_law_pile a0_law_kinds cyI f0_law_kinds a0_law_values cyI f0_law_values)) hP hD [0, 2, 1] [3, 4, 5, 6, 7] [5, 7, 6, 0, 1, 2, 3, 4] hCc rfl (by decide +kernel) (by decide +kernel) (by decide +kernel) rfl hk1 hFc hP1 hD1
  generalize H1 = H at hP hS ⊢
  refine lv_aload_n hx hb (dt_of tkX1_reach_k24 8 rfl) rfl (lv_at hl 1 rfl) ?_
  refine lv_iload_n hx hb (dt_of tkX1_reach_k24 9 rfl) rfl (lv_at hl 2 rfl) ?_
  obtain ⟨hCc, hPc, hDc, hFc⟩ := va_pick (ws' := (wd01_15 a0 a0_row z0_owedEach a0_down a0_law a0_down z0_down_formX z0_down_formY z0_down_foxX z0_down_foxY z0_down_seat z0_down_strength z0_down_debts z0_down_near z0_down_forms v0_down_hares z0_down_foxes z0_down_safe a0_row cyI f0_row)) hP hD hS hA [0, 2, 1] (by decide +kernel) rfl
  refine va_calli (va_runV (As := [.int p1]) (rest := [.int r6, .int r5, .int r4, .ref a0_law]) ⟨hx, hb, hml, hown, hts⟩ (ck_X1_owed l dC dI cyB cyI cyJ cyP a0 a0_down a0_row H.size (z0_owedEach) (.ref a0_law) (z0_down_formX) (z0_down_formY) (z0_down_foxX) (z0_down_foxY) (z0_down_seat) (z0_down_strength) (z0_down_debts) (z0_down_near) (z0_down_forms) (z0_down_foxes) (z0_down_safe) v0_down_hares f0_row  p1 hw) (cwV 1 hts gX1_reach_X1_owed rfl rfl rfl (by decide +kernel) ⟨Nat.le_of_ble_eq_true rfl, Nat.le_of_ble_eq_true rfl⟩) ⟨cPc_blind, va_recv (q := (RX1, TX1, 4)) hK hPc (ci := 1) (q0 := 0) rfl rfl, cPc_pre hPc hK hDc hNw⟩ rfl rfl hl.1 rfl (lv_room (Nat.le_of_ble_eq_true rfl)) (dt_of tkX1_reach_k24 10 rfl) ⟨Nat.le_of_ble_eq_true rfl, Nat.le_of_ble_eq_true rfl⟩) hS (fun q _ h => hFc q h) hFc (fun r7 u t H1 locs ht hvm hw hB hz1 hk1 hS => ?_)
  obtain ⟨hP1, hK1, hD1⟩ := hB
  rw [ht] at hP1
  obtain ⟨hP, hD⟩ := va_joinN (wr := (wd01_16 a0_law a0_law_kinds a0_law_values a0_law_pile a0_law_facts v0_law_length a0_law_facts cyI f0_law_facts a0_law_pile cyI f0_law_pile a0_law_kinds cyI f0_law_kinds a0_law_values cyI f0_law_values)) (w1 := (wd01_15 a0 a0_row z0_owedEach a0_down a0_law a0_down z0_down_formX z0_down_formY z0_down_foxX z0_down_foxY z0_down_seat z0_down_strength z0_down_debts z0_down_near z0_down_forms v0_down_hares z0_down_foxes z0_down_safe a0_row cyI f0_row)) (wn := (wd01_12 a0 a0_row z0_owedEach a0_down a0_law a0_row cyI f0_row a0_down z0_down_formX z0_down_formY z0_down_foxX z0_down_foxY z0_down_seat z0_down_strength z0_down_debts z0_down_near z0_down_forms v0_down_hares z0_down_foxes z0_down_safe a0_law a0_law_kinds a0_law_values a0_law_pile a0_law_facts v0_law_length a0_law_facts cyI f0_law_facts a0_law_pile cyI f0_law_pile a0_law_kinds cyI f0_law_kinds a0_law_values cyI f0_law_values)) hP hD [0, 2, 1] [3, 4, 5, 6, 7] [5, 7, 6, 0, 1, 2, 3, 4] hCc rfl (by decide +kernel) (by decide +kernel) (by decide +kernel) rfl hk1 hFc hP1 hD1
  generalize H1 = H at hP hS ⊢
  refine lv_iload_n hx hb (dt_of tkX1_reach_k24 11 rfl) rfl (lv_at hl 0 rfl) ?_
  obtain ⟨hCc, hPc, hDc, hFc⟩ := va_pick (ws' := (wd01_17 a0_law a0_law_kinds a0_law_values a0_law_pile a0_law_facts v0_law_length a0_law_facts cyI f0_law_facts)) hP hD hS hA [3, 4] (by decide +kernel) rfl
  refine va_callv (va_runV (As := [.int r4, .int r5, .int r6, .int r7, .int r3]) (rest := []) ⟨hx, hb, hml, hown, hts⟩ (ck_X4_setFacts l dC dI cyB cyI cyJ cyP a0_law a0_law_facts H.size (.ref a0_law_kinds) (.ref a0_law_values) (.ref a0_law_pile) (.int v0_law_length)  f0_law_facts r4 r5 r6 r7 r3 hw) (cwV 5 hts gX1_reach_X4_setFacts rfl rfl rfl (by decide +kernel) ⟨Nat.le_of_ble_eq_true rfl, Nat.le_of_ble_eq_true rfl⟩) ⟨cPc_blind, va_recv (q := (RX4, TX4, 5)) hK hPc (ci := 4) (q0 := 0) rfl rfl, cPc_pre hPc hK hDc hNw⟩ rfl rfl hl.1 rfl (lv_room (Nat.le_of_ble_eq_true rfl)) (dt_of tkX1_reach_k24 12 rfl) ⟨Nat.le_of_ble_eq_true rfl, Nat.le_of_ble_eq_true rfl⟩) hS (fun q _ h => hFc q h) hFc (fun u t H1 locs ht hvm hw hB hz1 hk1 hS => ?_)
  obtain ⟨f8, rfl⟩ : ∃ z, z = u := ⟨_, rfl⟩
  obtain ⟨hP1, hK1, hD1⟩ := hB
  rw [ht] at hP1
  obtain ⟨hP, hD⟩ := va_joinN (wr := (wd01_18 a0 a0_row z0_owedEach a0_down a0_law a0_row cyI f0_row a0_down z0_down_formX z0_down_formY z0_down_foxX z0_down_foxY z0_down_seat z0_down_strength z0_down_debts z0_down_near z0_down_forms v0_down_hares z0_down_foxes z0_down_safe a0_law_pile cyI f0_law_pile a0_law_kinds cyI f0_law_kinds a0_law_values cyI f0_law_values)) (w1 := (wd01_17 a0_law a0_law_kinds a0_law_values a0_law_pile a0_law_facts v0_law_length a0_law_facts cyI f8)) (wn := (wd01_12 a0 a0_row z0_owedEach a0_down a0_law a0_row cyI f0_row a0_down z0_down_formX z0_down_formY z0_down_foxX z0_down_foxY z0_down_seat z0_down_strength z0_down_debts z0_down_near z0_down_forms v0_down_hares z0_down_foxes z0_down_safe a0_law a0_law_kinds a0_law_values a0_law_pile a0_law_facts v0_law_length a0_law_facts cyI f8 a0_law_pile cyI f0_law_pile a0_law_kinds cyI f0_law_kinds a0_law_values cyI f0_law_values)) hP hD [3, 4] [0, 1, 2, 5, 6, 7] [0, 1, 2, 6, 7, 3, 4, 5] hCc rfl (by decide +kernel) (by decide +kernel) (by decide +kernel) rfl hk1 hFc hP1 hD1
  generalize H1 = H at hP hS ⊢
  refine lv_aload_n hx hb (dt_of tkX1_reach_k24 13 rfl) rfl (lv_at hl 1 rfl) ?_
  refine va_get (D := (dC, dI)) (ci := 1) (v := .ref a0_law) (C := RX1) (T := TX1) (N := 4) hx hb hts ui_X1_reach_X1 hown hK hP 0 rfl rfl 3 (by decide) (hts _ uw_X1_reach_f28) (fun _ h9 => h9) rfl (dt_of tkX1_reach_k24 14 rfl) ?_
  refine lv_aload_n hx hb (dt_of tkX1_reach_k24 15 rfl) rfl (lv_at hl 1 rfl) ?_
  obtain ⟨hCc, hPc, hDc, hFc⟩ := va_pick (ws' := (wd01_13 a0 a0_row z0_owedEach a0_down a0_law a0_row cyI f0_row)) hP hD hS hA [0, 1] (by decide +kernel) rfl
  refine va_calli (va_runV (As := []) (rest := [.ref a0_law]) ⟨hx, hb, hml, hown, hts⟩ (ck_X1_day l dC dI cyB cyI cyJ cyP a0 a0_row H.size (z0_owedEach) (.ref a0_down) (.ref a0_law) f0_row   hw) (cwV 0 hts gX1_reach_X1_day rfl rfl rfl (by decide +kernel) ⟨Nat.le_of_ble_eq_true rfl, Nat.le_of_ble_eq_true rfl⟩) ⟨cPc_blind, va_recv (q := (RX1, TX1, 4)) hK hPc (ci := 1) (q0 := 0) rfl rfl, cPc_pre hPc hK hDc hNw⟩ rfl rfl hl.1 rfl (lv_room (Nat.le_of_ble_eq_true rfl)) (dt_of tkX1_reach_k52 0 rfl) ⟨Nat.le_of_ble_eq_true rfl, Nat.le_of_ble_eq_true rfl⟩) hS (fun q _ h => hFc q h) hFc (fun r9 u t H1 locs ht hvm hw hB hz1 hk1 hS => ?_)
  obtain ⟨hP1, hK1, hD1⟩ := hB
  rw [ht] at hP1
  obtain ⟨hP, hD⟩ := va_joinN (wr := (wd01_14 a0_down z0_down_formX z0_down_formY z0_down_foxX z0_down_foxY z0_down_seat z0_down_strength z0_down_debts z0_down_near z0_down_forms v0_down_hares z0_down_foxes z0_down_safe a0_law a0_law_kinds a0_law_values a0_law_pile a0_law_facts v0_law_length a0_law_facts cyI f8 a0_law_pile cyI f0_law_pile a0_law_kinds cyI f0_law_kinds a0_law_values cyI f0_law_values)) (w1 := (wd01_13 a0 a0_row z0_owedEach a0_down a0_law a0_row cyI f0_row)) (wn := (wd01_12 a0 a0_row z0_owedEach a0_down a0_law a0_row cyI f0_row a0_down z0_down_formX z0_down_formY z0_down_foxX z0_down_foxY z0_down_seat z0_down_strength z0_down_debts z0_down_near z0_down_forms v0_down_hares z0_down_foxes z0_down_safe a0_law a0_law_kinds a0_law_values a0_law_pile a0_law_facts v0_law_length a0_law_facts cyI f8 a0_law_pile cyI f0_law_pile a0_law_kinds cyI f0_law_kinds a0_law_values cyI f0_law_values)) hP hD [0, 1] [2, 3, 4, 5, 6, 7] [6, 7, 0, 1, 2, 3, 4, 5] hCc rfl (by decide +kernel) (by decide +kernel) (by decide +kernel) rfl hk1 hFc hP1 hD1
  generalize H1 = H at hP hS ⊢
  refine lv_iload_n hx hb (dt_of tkX1_reach_k52 1 rfl) rfl (lv_at hl 2 rfl) ?_
  refine lv_aload_n hx hb (dt_of tkX1_reach_k52 2 rfl) rfl (lv_at hl 1 rfl) ?_
  refine lv_iload_n hx hb (dt_of tkX1_reach_k52 3 rfl) rfl (lv_at hl 2 rfl) ?_
  obtain ⟨hCc, hPc, hDc, hFc⟩ := va_pick (ws' := (wd01_13 a0 a0_row z0_owedEach a0_down a0_law a0_row cyI f0_row)) hP hD hS hA [0, 1] (by decide +kernel) rfl
  refine va_calli (va_runV (As := [.int p1]) (rest := [.int p1, .int r9, .ref a0_law]) ⟨hx, hb, hml, hown, hts⟩ (ck_X1_leaps l dC dI cyB cyI cyJ cyP a0 a0_row H.size (z0_owedEach) (.ref a0_down) (.ref a0_law) f0_row  p1 hw) (cwV 1 hts gX1_reach_X1_leaps rfl rfl rfl (by decide +kernel) ⟨Nat.le_of_ble_eq_true rfl, Nat.le_of_ble_eq_true rfl⟩) ⟨cPc_blind, va_recv (q := (RX1, TX1, 4)) hK hPc (ci := 1) (q0 := 0) rfl rfl, cPc_pre hPc hK hDc hNw⟩ rfl rfl hl.1 rfl (lv_room (Nat.le_of_ble_eq_true rfl)) (dt_of tkX1_reach_k52 4 rfl) ⟨Nat.le_of_ble_eq_true rfl, Nat.le_of_ble_eq_true rfl⟩) hS (fun q _ h => hFc q h) hFc (fun r10 u t H1 locs ht hvm hw hB hz1 hk1 hS => ?_)
  obtain ⟨hP1, hK1, hD1⟩ := hB
  rw [ht] at hP1
  obtain ⟨hP, hD⟩ := va_joinN (wr := (wd01_14 a0_down z0_down_formX z0_down_formY z0_down_foxX z0_down_foxY z0_down_seat z0_down_strength z0_down_debts z0_down_near z0_down_forms v0_down_hares z0_down_foxes z0_down_safe a0_law a0_law_kinds a0_law_values a0_law_pile a0_law_facts v0_law_length a0_law_facts cyI f8 a0_law_pile cyI f0_law_pile a0_law_kinds cyI f0_law_kinds a0_law_values cyI f0_law_values)) (w1 := (wd01_13 a0 a0_row z0_owedEach a0_down a0_law a0_row cyI f0_row)) (wn := (wd01_12 a0 a0_row z0_owedEach a0_down a0_law a0_row cyI f0_row a0_down z0_down_formX z0_down_formY z0_down_foxX z0_down_foxY z0_down_seat z0_down_strength z0_down_debts z0_down_near z0_down_forms v0_down_hares z0_down_foxes z0_down_safe a0_law a0_law_kinds a0_law_values a0_law_pile a0_law_facts v0_law_length a0_law_facts cyI f8 a0_law_pile cyI f0_law_pile a0_law_kinds cyI f0_law_kinds a0_law_values cyI f0_law_values)) hP hD [0, 1] [2, 3, 4, 5, 6, 7] [6, 7, 0, 1, 2, 3, 4, 5] hCc rfl (by decide +kernel) (by decide +kernel) (by decide +kernel) rfl hk1 hFc hP1 hD1
  generalize H1 = H at hP hS ⊢
  obtain ⟨hCc, hPc, hDc, hFc⟩ := va_pick (ws' := (wd01_17 a0_law a0_law_kinds a0_law_values a0_law_pile a0_law_facts v0_law_length a0_law_facts cyI f8)) hP hD hS hA [3, 4] (by decide +kernel) rfl
  refine va_callv (va_runV (As := [.int r9, .int p1, .int r10]) (rest := []) ⟨hx, hb, hml, hown, hts⟩ (ck_X4_setTimes l dC dI cyB cyI cyJ cyP a0_law a0_law_facts H.size (.ref a0_law_kinds) (.ref a0_law_values) (.ref a0_law_pile) (.int v0_law_length)  f8 r9 p1 r10 hw) (cwV 3 hts gX1_reach_X4_setTimes rfl rfl rfl (by decide +kernel) ⟨Nat.le_of_ble_eq_true rfl, Nat.le_of_ble_eq_true rfl⟩) ⟨cPc_blind, va_recv (q := (RX4, TX4, 5)) hK hPc (ci := 4) (q0 := 0) rfl rfl, cPc_pre hPc hK hDc hNw⟩ rfl rfl hl.1 rfl (lv_room (Nat.le_of_ble_eq_true rfl)) (dt_of tkX1_reach_k52 5 rfl) ⟨Nat.le_of_ble_eq_true rfl, Nat.le_of_ble_eq_true rfl⟩) hS (fun q _ h => hFc q h) hFc (fun u t H1 locs ht hvm hw hB hz1 hk1 hS => ?_)
  obtain ⟨f11, rfl⟩ : ∃ z, z = u := ⟨_, rfl⟩
  obtain ⟨hP1, hK1, hD1⟩ := hB
  rw [ht] at hP1
  obtain ⟨hP, hD⟩ := va_joinN (wr := (wd01_18 a0 a0_row z0_owedEach a0_down a0_law a0_row cyI f0_row a0_down z0_down_formX z0_down_formY z0_down_foxX z0_down_foxY z0_down_seat z0_down_strength z0_down_debts z0_down_near z0_down_forms v0_down_hares z0_down_foxes z0_down_safe a0_law_pile cyI f0_law_pile a0_law_kinds cyI f0_law_kinds a0_law_values cyI f0_law_values)) (w1 := (wd01_17 a0_law a0_law_kinds a0_law_values a0_law_pile a0_law_facts v0_law_length a0_law_facts cyI f11)) (wn := (wd01_12 a0 a0_row z0_owedEach a0_down a0_law a0_row cyI f0_row a0_down z0_down_formX z0_down_formY z0_down_foxX z0_down_foxY z0_down_seat z0_down_strength z0_down_debts z0_down_near z0_down_forms v0_down_hares z0_down_foxes z0_down_safe a0_law a0_law_kinds a0_law_values a0_law_pile a0_law_facts v0_law_length a0_law_facts cyI f11 a0_law_pile cyI f0_law_pile a0_law_kinds cyI f0_law_kinds a0_law_values cyI f0_law_values)) hP hD [3, 4] [0, 1, 2, 5, 6, 7] [0, 1, 2, 6, 7, 3, 4, 5] hCc rfl (by decide +kernel) (by decide +kernel) (by decide +kernel) rfl hk1 hFc hP1 hD1
  generalize H1 = H at hP hS ⊢
  refine lv_aload_n hx hb (dt_of tkX1_reach_k52 6 rfl) rfl (lv_at hl 1 rfl) ?_
  refine va_get (D := (dC, dI)) (ci := 1) (v := .ref a0_law) (C := RX1) (T := TX1) (N := 4) hx hb hts ui_X1_reach_X1 hown hK hP 0 rfl rfl 3 (by decide) (hts _ uw_X1_reach_f28) (fun _ h9 => h9) rfl (dt_of tkX1_reach_k52 7 rfl) ?_
  obtain ⟨hCc, hPc, hDc, hFc⟩ := va_pick (ws' := (wd01_11 a0_law a0_law_kinds a0_law_values a0_law_pile a0_law_facts v0_law_length a0_law_pile cyI f0_law_pile a0_law_kinds cyI f0_law_kinds a0_law_values cyI f0_law_values a0_law_facts cyI f11)) hP hD hS hA [3, 5, 6, 7, 4] (by decide +kernel) rfl
  refine va_calli (va_runV (As := []) (rest := []) ⟨hx, hb, hml, hown, hts⟩ (ck_X4_reach l dC dI cyB cyI cyJ cyP a0_law a0_law_pile a0_law_kinds a0_law_facts a0_law_values H.size  v0_law_length f0_law_kinds f0_law_values f11 f0_law_pile  hw) (cwV 0 hts gX1_reach_X4_reach rfl rfl rfl (by decide +kernel) ⟨Nat.le_of_ble_eq_true rfl, Nat.le_of_ble_eq_true rfl⟩) ⟨cPc_blind, va_recv (q := (RX4, TX4, 5)) hK hPc (ci := 4) (q0 := 0) rfl rfl, cPc_pre hPc hK hDc hNw⟩ rfl rfl hl.1 rfl (lv_room (Nat.le_of_ble_eq_true rfl)) (dt_of tkX1_reach_k52 8 rfl) ⟨Nat.le_of_ble_eq_true rfl, Nat.le_of_ble_eq_true rfl⟩) hS (fun q _ h => hFc q h) hFc (fun r13 u t H1 locs ht hvm hw hB hz1 hk1 hS => ?_)
  obtain ⟨f12, rfl⟩ : ∃ z, z = u := ⟨_, rfl⟩
  obtain ⟨hP1, hK1, hD1⟩ := hB
  rw [ht] at hP1
  obtain ⟨hP, hD⟩ := va_joinN (wr := [(a0, .inr (1, [.ref a0_row, z0_owedEach, .ref a0_down, .ref a0_law])), (a0_row, .inl (cyI, 64, .inl f0_row)), (a0_down, .inr (2, [z0_down_formX, z0_down_formY, z0_down_foxX, z0_down_foxY, z0_down_seat, z0_down_strength, z0_down_debts, z0_down_near, z0_down_forms, .int v0_down_hares, z0_down_foxes, z0_down_safe]))]) (w1 := (wd01_11 a0_law a0_law_kinds a0_law_values a0_law_pile a0_law_facts v0_law_length a0_law_pile cyI f12 a0_law_kinds cyI f0_law_kinds a0_law_values cyI f0_law_values a0_law_facts cyI f11)) (wn := (wd01_12 a0 a0_row z0_owedEach a0_down a0_law a0_row cyI f0_row a0_down z0_down_formX z0_down_formY z0_down_foxX z0_down_foxY z0_down_seat z0_down_strength z0_down_debts z0_down_near z0_down_forms v0_down_hares z0_down_foxes z0_down_safe a0_law a0_law_kinds a0_law_values a0_law_pile a0_law_facts v0_law_length a0_law_facts cyI f11 a0_law_pile cyI f12 a0_law_kinds cyI f0_law_kinds a0_law_values cyI f0_law_values)) hP hD [3, 5, 6, 7, 4] [0, 1, 2] [0, 1, 2, 3, 7, 4, 5, 6] hCc rfl (by decide +kernel) (by decide +kernel) (by decide +kernel) rfl hk1 hFc hP1 hD1
  generalize H1 = H at hP hS ⊢
  exact ((W.iret (v := r13) hx hb hr (fun t ht hW => ⟨⟨r13, (f11, f12), rfl, hw, by rw [ht]; exact hP, va_K.moved hW.alike hK, hD⟩, hS.F ht⟩) hS.2.2 (dt_of tkX1_reach_k52 9 rfl)))
theorem ui_X1_couldLeap_X1 : ∀ w ∈ u_ws RX1 TX1 4, w ∈ wsX1_couldLeap := uiM mbX1_couldLeap euX1 (by decide +kernel)
theorem uw_X1_couldLeap_f24 : (.fieldLink RX1 24 "MarchHares$Days" "down" "LMarchHares$Down;" : Cond) ∈ wsX1_couldLeap := mbX1_couldLeap 322 (by decide +kernel)
set_option maxHeartbeats 4000000 in
set_option maxRecDepth 100000 in
theorem ck_X1_couldLeap (l : Launch) (dC : Nat → ClassId) (dI : Nat → Nat → Nat) (cyB cyI cyJ cyP : ClassId) (a0 a0_row a0_down a0_down_formX a0_down_formY a0_law a0_law_facts a0_law_pile a0_law_kinds a0_law_values : Nat) (sz : Nat) (z0_owedEach : Value) (z0_down_foxX : Value) (z0_down_foxY : Value) (z0_down_seat : Value) (z0_down_strength : Value) (z0_down_debts : Value) (z0_down_near : Value) (z0_down_forms : Value) (z0_down_foxes : Value) (z0_down_safe : Value) (f0_row : Nat → Int32) (v0_down_hares : Int32) (f0_down_formX : Nat → Int32) (f0_down_formY : Nat → Int32) (v0_law_length : Int32) (f0_law_kinds : Nat → Int32) (f0_law_values : Nat → Int32) (f0_law_facts : Nat → Int32) (f0_law_pile : Nat → Int32) (p1 : Int32) (p2 : Int32) {Q : Int32 → (Nat → Int32) → (Nat → Int32) → Prop} (hw : wq_X1_couldLeap f0_row v0_down_hares f0_down_formX f0_down_formY v0_law_length f0_law_kinds f0_law_values f0_law_facts f0_law_pile p1 p2 Q) : Met l yX1_couldLeap wsX1_couldLeap ({ frames := 3, cells := 0, slots := 0, locals := 77 }) (va_Pc [.ref a0, .int p1, .int p2] (cPc (dC, dI) (kT cyB cyI cyJ cyP) (wd01_19 a0 a0_row z0_owedEach a0_down a0_law a0_row cyI f0_row a0_down a0_down_formX a0_down_formY z0_down_foxX z0_down_foxY z0_down_seat z0_down_strength z0_down_debts z0_down_near z0_down_forms v0_down_hares z0_down_foxes z0_down_safe a0_down_formX cyI f0_down_formX a0_down_formY cyI f0_down_formY a0_law a0_law_kinds a0_law_values a0_law_pile a0_law_facts v0_law_length a0_law_facts cyI f0_law_facts a0_law_pile cyI f0_law_pile a0_law_kinds cyI f0_law_kinds a0_law_values cyI f0_law_values) sz)) (va_Qi (fun (r : Int32) (u : (Nat → Int32) × (Nat → Int32)) => Q r u.1 u.2) (cB (dC, dI) (kT cyB cyI cyJ cyP) (va_A (wd01_19 a0 a0_row z0_owedEach a0_down a0_law a0_row cyI f0_row a0_down a0_down_formX a0_down_formY z0_down_foxX z0_down_foxY z0_down_seat z0_down_strength z0_down_debts z0_down_near z0_down_forms v0_down_hares z0_down_foxes z0_down_safe a0_down_formX cyI f0_down_formX a0_down_formY cyI f0_down_formY a0_law a0_law_kinds a0_law_values a0_law_pile a0_law_facts v0_law_length a0_law_facts cyI f0_law_facts a0_law_pile cyI f0_law_pile a0_law_kinds cyI f0_law_kinds a0_law_values cyI f0_law_values) sz) (fun u : (Nat → Int32) × (Nat → Int32) => ((wd01_19 a0 a0_row z0_owedEach a0_down a0_law a0_row cyI f0_row a0_down a0_down_formX a0_down_formY z0_down_foxX z0_down_foxY z0_down_seat z0_down_strength z0_down_debts z0_down_near z0_down_forms v0_down_hares z0_down_foxes z0_down_safe a0_down_formX cyI f0_down_formX a0_down_formY cyI f0_down_formY a0_law a0_law_kinds a0_law_values a0_law_pile a0_law_facts v0_law_length a0_law_facts cyI u.1 a0_law_pile cyI u.2 a0_law_kinds cyI f0_law_kinds a0_law_values cyI f0_law_values) : va_W))) (va_A (wd01_19 a0 a0_row z0_owedEach a0_down a0_law a0_row cyI f0_row a0_down a0_down_formX a0_down_formY z0_down_foxX z0_down_foxY z0_down_seat z0_down_strength z0_down_debts z0_down_near z0_down_forms v0_down_hares z0_down_foxes z0_down_safe a0_down_formX cyI f0_down_formX a0_down_formY cyI f0_down_formY a0_law a0_law_kinds a0_law_values a0_law_pile a0_law_facts v0_law_length a0_law_facts cyI f0_law_facts a0_law_pile cyI f0_law_pile a0_law_kinds cyI f0_law_kinds a0_law_values cyI f0_law_values) sz)) 0 0 (va_A (wd01_19 a0 a0_row z0_owedEach a0_down a0_law a0_row cyI f0_row a0_down a0_down_formX a0_down_formY z0_down_foxX z0_down_foxY z0_down_seat z0_down_strength z0_down_debts z0_down_near z0_down_forms v0_down_hares z0_down_foxes z0_down_safe a0_down_formX cyI f0_down_formX a0_down_formY cyI f0_down_formY a0_law a0_law_kinds a0_law_values a0_law_pile a0_law_facts v0_law_length a0_law_facts cyI f0_law_facts a0_law_pile cyI f0_law_pile a0_law_kinds cyI f0_law_kinds a0_law_values cyI f0_law_values) sz) := by
  refine Met.ofW (cc := cX1_couldLeap) (maxL := 3) (ret := (some .boolean)) (by decide) rfl ?_
  intro p e s m args below meth c s₁ B hml hv
  obtain ⟨rfl, hsz, hP, hK, hD0, hNw⟩ := hv
  have hx := B.exec
  have hb := B.bytes
  have hr := B.returns
  have hts := atoms_spec (ws := wsX1_couldLeap) B.pre
  have hown : s.vm.findClass RX1 = some m.cls := findClass_of_methodNamed B.named
  have hlocks := B.notSynchronized
  subst hsz
  have hD := hD0.self (sz := s.heap.size)
  generalize hAe : va_A (wd01_19 a0 a0_row z0_owedEach a0_down a0_law a0_row cyI f0_row a0_down a0_down_formX a0_down_formY z0_down_foxX z0_down_foxY z0_down_seat z0_down_strength z0_down_debts z0_down_near z0_down_forms v0_down_hares z0_down_foxes z0_down_safe a0_down_formX cyI f0_down_formX a0_down_formY cyI f0_down_formY a0_law a0_law_kinds a0_law_values a0_law_pile a0_law_facts v0_law_length a0_law_facts cyI f0_law_facts a0_law_pile cyI f0_law_pile a0_law_kinds cyI f0_law_kinds a0_law_values cyI f0_law_values) s.heap.size = A at hD ⊢
  have hA : ∀ q : Nat, s.heap.size ≤ q → A q := fun q h => by rw [← hAe]; exact Or.inr h
  have hS : va_S A s.heap s.heap [] := va_S.rf
  have hP : va_P (dC, dI) vwCl (wd01_19 a0 a0_row z0_owedEach a0_down a0_law a0_row cyI f0_row a0_down a0_down_formX a0_down_formY z0_down_foxX z0_down_foxY z0_down_seat z0_down_strength z0_down_debts z0_down_near z0_down_forms v0_down_hares z0_down_foxes z0_down_safe a0_down_formX cyI f0_down_formX a0_down_formY cyI f0_down_formY a0_law a0_law_kinds a0_law_values a0_law_pile a0_law_facts v0_law_length a0_law_facts cyI f0_law_facts a0_law_pile cyI f0_law_pile a0_law_kinds cyI f0_law_kinds a0_law_values cyI f0_law_values) s.heap := hP
  have hl := lv_entry ([.ref a0, .int p1, .int p2]) (n := 3) (Nat.le_of_ble_eq_true rfl)
  rw [lg_entry_eq]
  generalize (lg_sl ([.ref a0, .int p1, .int p2]) ++ List.replicate (3 - (lg_sl ([.ref a0, .int p1, .int p2])).length) Slot.unset).toArray = ls at hl ⊢
  have hl : lv_has ls 3 [(0, .ref a0), (1, .int p1), (2, .int p2)] := hl
  have C0 : cfx p s m _ meth c cX1_couldLeap (some .boolean) wsX1_couldLeap RX1 3 A (dC, dI) (kT cyB cyI cyJ cyP) := ⟨hx, hb, hr, hts, hown, hlocks, hml, hA, hK, hNw⟩
  clear hAe
  obtain ⟨H, hH⟩ : ∃ H, H = s.heap := ⟨_, rfl⟩
  rw [← hH] at hP ⊢
  have hS : va_S A s.heap H [] := by rw [hH]; exact va_S.rf
  have hS := hS
  refine lv_aload_n hx hb (dt_of tkX1_couldLeap_k0 0 rfl) rfl (lv_at hl 0 rfl) ?_
  refine lv_iload_n hx hb (dt_of tkX1_couldLeap_k0 1 rfl) rfl (lv_at hl 1 rfl) ?_
  obtain ⟨hCc, hPc, hDc, hFc⟩ := va_pick (ws' := (wd01_13 a0 a0_row z0_owedEach a0_down a0_law a0_row cyI f0_row)) hP hD hS hA [0, 1] (by decide +kernel) rfl
  refine va_calli (va_runV (As := [.int p1]) (rest := []) ⟨hx, hb, hml, hown, hts⟩ (ck_X1_isCaught l dC dI cyB cyI cyJ cyP a0 a0_row H.size (z0_owedEach) (.ref a0_down) (.ref a0_law) f0_row  p1 hw) (cwV 1 hts gX1_couldLeap_X1_isCaught rfl rfl rfl (by decide +kernel) ⟨Nat.le_of_ble_eq_true rfl, Nat.le_of_ble_eq_true rfl⟩) ⟨cPc_blind, va_recv (q := (RX1, TX1, 4)) hK hPc (ci := 1) (q0 := 0) rfl rfl, cPc_pre hPc hK hDc hNw⟩ rfl rfl hl.1 rfl (lv_room (Nat.le_of_ble_eq_true rfl)) (dt_of tkX1_couldLeap_k0 2 rfl) ⟨Nat.le_of_ble_eq_true rfl, Nat.le_of_ble_eq_true rfl⟩) hS (fun q _ h => hFc q h) hFc (fun r1 u t H1 locs ht hvm hw hB hz1 hk1 hS => ?_)
  obtain ⟨hP1, hK1, hD1⟩ := hB
  rw [ht] at hP1
  obtain ⟨hP, hD⟩ := va_joinN (wr := (wd01_20 a0_down a0_down_formX a0_down_formY z0_down_foxX z0_down_foxY z0_down_seat z0_down_strength z0_down_debts z0_down_near z0_down_forms v0_down_hares z0_down_foxes z0_down_safe a0_down_formX cyI f0_down_formX a0_down_formY cyI f0_down_formY a0_law a0_law_kinds a0_law_values a0_law_pile a0_law_facts v0_law_length a0_law_facts cyI f0_law_facts a0_law_pile cyI f0_law_pile a0_law_kinds cyI f0_law_kinds a0_law_values cyI f0_law_values)) (w1 := (wd01_13 a0 a0_row z0_owedEach a0_down a0_law a0_row cyI f0_row)) (wn := (wd01_19 a0 a0_row z0_owedEach a0_down a0_law a0_row cyI f0_row a0_down a0_down_formX a0_down_formY z0_down_foxX z0_down_foxY z0_down_seat z0_down_strength z0_down_debts z0_down_near z0_down_forms v0_down_hares z0_down_foxes z0_down_safe a0_down_formX cyI f0_down_formX a0_down_formY cyI f0_down_formY a0_law a0_law_kinds a0_law_values a0_law_pile a0_law_facts v0_law_length a0_law_facts cyI f0_law_facts a0_law_pile cyI f0_law_pile a0_law_kinds cyI f0_law_kinds a0_law_values cyI f0_law_values)) hP hD [0, 1] [2, 3, 4, 5, 6, 7, 8, 9] [8, 9, 0, 1, 2, 3, 4, 5, 6, 7] hCc rfl (by decide +kernel) (by decide +kernel) (by decide +kernel) rfl hk1 hFc hP1 hD1
  generalize H1 = H at hP hS ⊢
  refine lv_if_ne (tgt := 42) hx hb (dt_of tkX1_couldLeap_k0 3 rfl) (by decide) (fun c2 => ?_) (fun c2 => ?_)
  · have hw := hw.1 c2
    refine lv_iconst (v := 0) hx hb (dt_of tkX1_couldLeap_k30 6 rfl) (by decide) ?_
    exact ((W.zret (v := 0) hx hb hr rfl (fun t ht hW => ⟨⟨0, (f0_law_facts, f0_law_pile), rfl, hw, by rw [ht]; exact hP, va_K.moved hW.alike hK, hD⟩, hS.F ht⟩) hS.2.2 (dt_of tkX1_couldLeap_k30 7 rfl)))
  · have hw := hw.2 c2
    refine lv_aload_n hx hb (dt_of tkX1_couldLeap_k0 4 rfl) rfl (lv_at hl 0 rfl) ?_
    refine lv_iload_n hx hb (dt_of tkX1_couldLeap_k0 5 rfl) rfl (lv_at hl 1 rfl) ?_
    obtain ⟨hCc, hPc, hDc, hFc⟩ := va_pick (ws' := (wd01_13 a0 a0_row z0_owedEach a0_down a0_law a0_row cyI f0_row)) hP hD hS hA [0, 1] (by decide +kernel) rfl
    refine va_calli (va_runV (As := [.int p1]) (rest := []) ⟨hx, hb, hml, hown, hts⟩ (ck_X1_sits l dC dI cyB cyI cyJ cyP a0 a0_row H.size (z0_owedEach) (.ref a0_down) (.ref a0_law) f0_row  p1 hw) (cwV 1 hts gX1_couldLeap_X1_sits rfl rfl rfl (by decide +kernel) ⟨Nat.le_of_ble_eq_true rfl, Nat.le_of_ble_eq_true rfl⟩) ⟨cPc_blind, va_recv (q := (RX1, TX1, 4)) hK hPc (ci := 1) (q0 := 0) rfl rfl, cPc_pre hPc hK hDc hNw⟩ rfl rfl hl.1 rfl (lv_room (Nat.le_of_ble_eq_true rfl)) (dt_of tkX1_couldLeap_k0 6 rfl) ⟨Nat.le_of_ble_eq_true rfl, Nat.le_of_ble_eq_true rfl⟩) hS (fun q _ h => hFc q h) hFc (fun r3 u t H1 locs ht hvm hw hB hz1 hk1 hS => ?_)
    obtain ⟨hP1, hK1, hD1⟩ := hB
    rw [ht] at hP1
    obtain ⟨hP, hD⟩ := va_joinN (wr := (wd01_20 a0_down a0_down_formX a0_down_formY z0_down_foxX z0_down_foxY z0_down_seat z0_down_strength z0_down_debts z0_down_near z0_down_forms v0_down_hares z0_down_foxes z0_down_safe a0_down_formX cyI f0_down_formX a0_down_formY cyI f0_down_formY a0_law a0_law_kinds a0_law_values a0_law_pile a0_law_facts v0_law_length a0_law_facts cyI f0_law_facts a0_law_pile cyI f0_law_pile a0_law_kinds cyI f0_law_kinds a0_law_values cyI f0_law_values)) (w1 := (wd01_13 a0 a0_row z0_owedEach a0_down a0_law a0_row cyI f0_row)) (wn := (wd01_19 a0 a0_row z0_owedEach a0_down a0_law a0_row cyI f0_row a0_down a0_down_formX a0_down_formY z0_down_foxX z0_down_foxY z0_down_seat z0_down_strength z0_down_debts z0_down_near z0_down_forms v0_down_hares z0_down_foxes z0_down_safe a0_down_formX cyI f0_down_formX a0_down_formY cyI f0_down_formY a0_law a0_law_kinds a0_law_values a0_law_pile a0_law_facts v0_law_length a0_law_facts cyI f0_law_facts a0_law_pile cyI f0_law_pile a0_law_kinds cyI f0_law_kinds a0_law_values cyI f0_law_values)) hP hD [0, 1] [2, 3, 4, 5, 6, 7, 8, 9] [8, 9, 0, 1, 2, 3, 4, 5, 6, 7] hCc rfl (by decide +kernel) (by decide +kernel) (by decide +kernel) rfl hk1 hFc hP1 hD1
    generalize H1 = H at hP hS ⊢
    refine lv_iload_n hx hb (dt_of tkX1_couldLeap_k0 7 rfl) rfl (lv_at hl 2 rfl) ?_
    refine lv_icmp_eq (tgt := 42) hx hb (dt_of tkX1_couldLeap_k0 8 rfl) (by decide) (fun c4 => ?_) (fun c4 => ?_)
    · have hw := hw.1 c4
      refine lv_iconst (v := 0) hx hb (dt_of tkX1_couldLeap_k30 6 rfl) (by decide) ?_
      exact ((W.zret (v := 0) hx hb hr rfl (fun t ht hW => ⟨⟨0, (f0_law_facts, f0_law_pile), rfl, hw, by rw [ht]; exact hP, va_K.moved hW.alike hK, hD⟩, hS.F ht⟩) hS.2.2 (dt_of tkX1_couldLeap_k30 7 rfl)))
    · have hw := hw.2 c4
      refine lv_aload_n hx hb (dt_of tkX1_couldLeap_k0 9 rfl) rfl (lv_at hl 0 rfl) ?_
      refine va_get (D := (dC, dI)) (ci := 1) (v := .ref a0_down) (C := RX1) (T := TX1) (N := 4) hx hb hts ui_X1_couldLeap_X1 hown hK hP 0 rfl rfl 2 (by decide) (hts _ uw_X1_couldLeap_f24) (fun _ h9 => h9) rfl (dt_of tkX1_couldLeap_k0 10 rfl) ?_
      refine lv_aload_n hx hb (dt_of tkX1_couldLeap_k0 11 rfl) rfl (lv_at hl 0 rfl) ?_
      refine lv_iload_n hx hb (dt_of tkX1_couldLeap_k0 12 rfl) rfl (lv_at hl 1 rfl) ?_
      obtain ⟨hCc, hPc, hDc, hFc⟩ := va_pick (ws' := (wd01_13 a0 a0_row z0_owedEach a0_down a0_law a0_row cyI f0_row)) hP hD hS hA [0, 1] (by decide +kernel) rfl
      refine va_calli (va_runV (As := [.int p1]) (rest := [.ref a0_down]) ⟨hx, hb, hml, hown, hts⟩ (ck_X1_sits l dC dI cyB cyI cyJ cyP a0 a0_row H.size (z0_owedEach) (.ref a0_down) (.ref a0_law) f0_row  p1 hw) (cwV 1 hts gX1_couldLeap_X1_sits rfl rfl rfl (by decide +kernel) ⟨Nat.le_of_ble_eq_true rfl, Nat.le_of_ble_eq_true rfl⟩) ⟨cPc_blind, va_recv (q := (RX1, TX1, 4)) hK hPc (ci := 1) (q0 := 0) rfl rfl, cPc_pre hPc hK hDc hNw⟩ rfl rfl hl.1 rfl (lv_room (Nat.le_of_ble_eq_true rfl)) (dt_of tkX1_couldLeap_k0 13 rfl) ⟨Nat.le_of_ble_eq_true rfl, Nat.le_of_ble_eq_true rfl⟩) hS (fun q _ h => hFc q h) hFc (fun r5 u t H1 locs ht hvm hw hB hz1 hk1 hS => ?_)
      obtain ⟨hP1, hK1, hD1⟩ := hB
      rw [ht] at hP1
      obtain ⟨hP, hD⟩ := va_joinN (wr := (wd01_20 a0_down a0_down_formX a0_down_formY z0_down_foxX z0_down_foxY z0_down_seat z0_down_strength z0_down_debts z0_down_near z0_down_forms v0_down_hares z0_down_foxes z0_down_safe a0_down_formX cyI f0_down_formX a0_down_formY cyI f0_down_formY a0_law a0_law_kinds a0_law_values a0_law_pile a0_law_facts v0_law_length a0_law_facts cyI f0_law_facts a0_law_pile cyI f0_law_pile a0_law_kinds cyI f0_law_kinds a0_law_values cyI f0_law_values)) (w1 := (wd01_13 a0 a0_row z0_owedEach a0_down a0_law a0_row cyI f0_row)) (wn := (wd01_19 a0 a0_row z0_owedEach a0_down a0_law a0_row cyI f0_row a0_down a0_down_formX a0_down_formY z0_down_foxX z0_down_foxY z0_down_seat z0_down_strength z0_down_debts z0_down_near z0_down_forms v0_down_hares z0_down_foxes z0_down_safe a0_down_formX cyI f0_down_formX a0_down_formY cyI f0_down_formY a0_law a0_law_kinds a0_law_values a0_law_pile a0_law_facts v0_law_length a0_law_facts cyI f0_law_facts a0_law_pile cyI f0_law_pile a0_law_kinds cyI f0_law_kinds a0_law_values cyI f0_law_values)) hP hD [0, 1] [2, 3, 4, 5, 6, 7, 8, 9] [8, 9, 0, 1, 2, 3, 4, 5, 6, 7] hCc rfl (by decide +kernel) (by decide +kernel) (by decide +kernel) rfl hk1 hFc hP1 hD1
      generalize H1 = H at hP hS ⊢
      refine lv_iload_n hx hb (dt_of tkX1_couldLeap_k0 14 rfl) rfl (lv_at hl 2 rfl) ?_
      obtain ⟨hCc, hPc, hDc, hFc⟩ := va_pick (ws' := (wd01_21 a0_down a0_down_formX a0_down_formY z0_down_foxX z0_down_foxY z0_down_seat z0_down_strength z0_down_debts z0_down_near z0_down_forms v0_down_hares z0_down_foxes z0_down_safe a0_down_formX cyI f0_down_formX a0_down_formY cyI f0_down_formY)) hP hD hS hA [2, 3, 4] (by decide +kernel) rfl
      refine va_calli (va_runV (As := [.int r5, .int p2]) (rest := []) ⟨hx, hb, hml, hown, hts⟩ (ck_X2_apart l dC dI cyB cyI cyJ cyP a0_down a0_down_formX a0_down_formY H.size (z0_down_foxX) (z0_down_foxY) (z0_down_seat) (z0_down_strength) (z0_down_debts) (z0_down_near) (z0_down_forms) (.int v0_down_hares) (z0_down_foxes) (z0_down_safe) f0_down_formX f0_down_formY  r5 p2 hw) (cwV 2 hts gX1_couldLeap_X2_apart rfl rfl rfl (by decide +kernel) ⟨Nat.le_of_ble_eq_true rfl, Nat.le_of_ble_eq_true rfl⟩) ⟨cPc_blind, va_recv (q := (RX2, TX2, 12)) hK hPc (ci := 2) (q0 := 0) rfl rfl, cPc_pre hPc hK hDc hNw⟩ rfl rfl hl.1 rfl (lv_room (Nat.le_of_ble_eq_true rfl)) (dt_of tkX1_couldLeap_k0 15 rfl) ⟨Nat.le_of_ble_eq_true rfl, Nat.le_of_ble_eq_true rfl⟩) hS (fun q _ h => hFc q h) hFc (fun r6 u t H1 locs ht hvm hw hB hz1 hk1 hS => ?_)
      obtain ⟨hP1, hK1, hD1⟩ := hB
      rw [ht] at hP1
      obtain ⟨hP, hD⟩ := va_joinN (wr := [(a0, .inr (1, [.ref a0_row, z0_owedEach, .ref a0_down, .ref a0_law])), (a0_row, .inl (cyI, 64, .inl f0_row)), (a0_law, .inr (4, [.ref a0_law_kinds, .ref a0_law_values, .ref a0_law_pile, .ref a0_law_facts, .int v0_law_length])), (a0_law_facts, .inl (cyI, 8, .inl f0_law_facts)), (a0_law_pile, .inl (cyI, 150, .inl f0_law_pile)), (a0_law_kinds, .inl (cyI, 150, .inl f0_law_kinds)), (a0_law_values, .inl (cyI, 150, .inl f0_law_values))]) (w1 := (wd01_21 a0_down a0_down_formX a0_down_formY z0_down_foxX z0_down_foxY z0_down_seat z0_down_strength z0_down_debts z0_down_near z0_down_forms v0_down_hares z0_down_foxes z0_down_safe a0_down_formX cyI f0_down_formX a0_down_formY cyI f0_down_formY)) (wn := (wd01_19 a0 a0_row z0_owedEach a0_down a0_law a0_row cyI f0_row a0_down a0_down_formX a0_down_formY z0_down_foxX z0_down_foxY z0_down_seat z0_down_strength z0_down_debts z0_down_near z0_down_forms v0_down_hares z0_down_foxes z0_down_safe a0_down_formX cyI f0_down_formX a0_down_formY cyI f0_down_formY a0_law a0_law_kinds a0_law_values a0_law_pile a0_law_facts v0_law_length a0_law_facts cyI f0_law_facts a0_law_pile cyI f0_law_pile a0_law_kinds cyI f0_law_kinds a0_law_values cyI f0_law_values)) hP hD [2, 3, 4] [0, 1, 5, 6, 7, 8, 9] [0, 1, 7, 8, 9, 2, 3, 4, 5, 6] hCc rfl (by decide +kernel) (by decide +kernel) (by decide +kernel) rfl hk1 hFc hP1 hD1
      generalize H1 = H at hP hS ⊢
      refine lv_aload_n hx hb (dt_of tkX1_couldLeap_k30 0 rfl) rfl (lv_at hl 0 rfl) ?_
      refine lv_iload_n hx hb (dt_of tkX1_couldLeap_k30 1 rfl) rfl (lv_at hl 1 rfl) ?_
      obtain ⟨hCc, hPc, hDc, hFc⟩ := va_pick (ws' := (wd01_22 a0 a0_row z0_owedEach a0_down a0_law a0_row cyI f0_row a0_down a0_down_formX a0_down_formY z0_down_foxX z0_down_foxY z0_down_seat z0_down_strength z0_down_debts z0_down_near z0_down_forms v0_down_hares z0_down_foxes z0_down_safe a0_law a0_law_kinds a0_law_values a0_law_pile a0_law_facts v0_law_length a0_law_facts cyI f0_law_facts a0_law_pile cyI f0_law_pile a0_law_kinds cyI f0_law_kinds a0_law_values cyI f0_law_values)) hP hD hS hA [0, 1, 2, 5, 6, 7, 8, 9] (by decide +kernel) rfl
      refine va_calli (va_runV (As := [.int p1]) (rest := [.int r6]) ⟨hx, hb, hml, hown, hts⟩ (ck_X1_reach l dC dI cyB cyI cyJ cyP a0 a0_row a0_down a0_law a0_law_facts a0_law_pile a0_law_kinds a0_law_values H.size (z0_owedEach) (.ref a0_down_formX) (.ref a0_down_formY) (z0_down_foxX) (z0_down_foxY) (z0_down_seat) (z0_down_strength) (z0_down_debts) (z0_down_near) (z0_down_forms) (z0_down_foxes) (z0_down_safe) f0_row v0_down_hares v0_law_length f0_law_kinds f0_law_values f0_law_facts f0_law_pile p1 hw) (cwV 1 hts gX1_couldLeap_X1_reach rfl rfl rfl (by decide +kernel) ⟨Nat.le_of_ble_eq_true rfl, Nat.le_of_ble_eq_true rfl⟩) ⟨cPc_blind, va_recv (q := (RX1, TX1, 4)) hK hPc (ci := 1) (q0 := 0) rfl rfl, cPc_pre hPc hK hDc hNw⟩ rfl rfl hl.1 rfl (lv_room (Nat.le_of_ble_eq_true rfl)) (dt_of tkX1_couldLeap_k30 2 rfl) ⟨Nat.le_of_ble_eq_true rfl, Nat.le_of_ble_eq_true rfl⟩) hS (fun q _ h => hFc q h) hFc (fun r9 u t H1 locs ht hvm hw hB hz1 hk1 hS => ?_)
      obtain ⟨f7, f8⟩ := u
      obtain ⟨hP1, hK1, hD1⟩ := hB
      rw [ht] at hP1
      obtain ⟨hP, hD⟩ := va_joinN (wr := [(a0_down_formX, .inl (cyI, 8, .inl f0_down_formX)), (a0_down_formY, .inl (cyI, 8, .inl f0_down_formY))]) (w1 := (wd01_22 a0 a0_row z0_owedEach a0_down a0_law a0_row cyI f0_row a0_down a0_down_formX a0_down_formY z0_down_foxX z0_down_foxY z0_down_seat z0_down_strength z0_down_debts z0_down_near z0_down_forms v0_down_hares z0_down_foxes z0_down_safe a0_law a0_law_kinds a0_law_values a0_law_pile a0_law_facts v0_law_length a0_law_facts cyI f7 a0_law_pile cyI f8 a0_law_kinds cyI f0_law_kinds a0_law_values cyI f0_law_values)) (wn := (wd01_19 a0 a0_row z0_owedEach a0_down a0_law a0_row cyI f0_row a0_down a0_down_formX a0_down_formY z0_down_foxX z0_down_foxY z0_down_seat z0_down_strength z0_down_debts z0_down_near z0_down_forms v0_down_hares z0_down_foxes z0_down_safe a0_down_formX cyI f0_down_formX a0_down_formY cyI f0_down_formY a0_law a0_law_kinds a0_law_values a0_law_pile a0_law_facts v0_law_length a0_law_facts cyI f7 a0_law_pile cyI f8 a0_law_kinds cyI f0_law_kinds a0_law_values cyI f0_law_values)) hP hD [0, 1, 2, 5, 6, 7, 8, 9] [3, 4] [2, 3, 4, 0, 1, 5, 6, 7, 8, 9] hCc rfl (by decide +kernel) (by decide +kernel) (by decide +kernel) rfl hk1 hFc hP1 hD1
      generalize H1 = H at hP hS ⊢
      refine lv_icmp_gt (tgt := 42) hx hb (dt_of tkX1_couldLeap_k30 3 rfl) (by decide) (fun c10 => ?_) (fun c10 => ?_)
      · have hw := hw.1 c10
        refine lv_iconst (v := 0) hx hb (dt_of tkX1_couldLeap_k30 6 rfl) (by decide) ?_
        exact ((W.zret (v := 0) hx hb hr rfl (fun t ht hW => ⟨⟨0, (f7, f8), rfl, hw, by rw [ht]; exact hP, va_K.moved hW.alike hK, hD⟩, hS.F ht⟩) hS.2.2 (dt_of tkX1_couldLeap_k30 7 rfl)))
      · have hw := hw.2 c10
        refine lv_iconst (v := 1) hx hb (dt_of tkX1_couldLeap_k30 4 rfl) (by decide) ?_
        refine lv_goto (tgt := 43) hx hb (dt_of tkX1_couldLeap_k30 5 rfl) (by decide) ?_
        exact ((W.zret (v := 1) hx hb hr rfl (fun t ht hW => ⟨⟨1, (f7, f8), rfl, hw, by rw [ht]; exact hP, va_K.moved hW.alike hK, hD⟩, hS.F ht⟩) hS.2.2 (dt_of tkX1_couldLeap_k30 7 rfl)))
theorem ui_X10_can_X10 : ∀ w ∈ u_ws RX10 TX10 19, w ∈ wsX10_can := uiM mbX10_can euX10 (by decide +kernel)
theorem uw_X10_can_f58 : (.fieldLink RX10 58 "MarchHares" "now" "LMarchHares$Days;" : Cond) ∈ wsX10_can := mbX10_can 79 (by decide +kernel)
set_option maxHeartbeats 4000000 in
set_option maxRecDepth 100000 in
theorem ck_X10_can (l : Launch) (dC : Nat → ClassId) (dI : Nat → Nat → Nat) (cyB cyI cyJ cyP : ClassId) (a0 a0_ground a0_now a0_now_row a0_ground_formX a0_ground_formY a0_rule a0_rule_facts a0_rule_pile a0_rule_kinds a0_rule_values : Nat) (sz : Nat) (z0_tape : Value) (z0_spareGround : Value) (z0_rule : Value) (z0_spareRule : Value) (z0_lines : Value) (z0_spareLines : Value) (z0_steps : Value) (z0_trial : Value) (z0_past : Value) (z0_images : Value) (z0_round : Value) (z0_seating : Value) (z0_fitting : Value) (z0_imagesKept : Value) (z0_refusedSteps : Value) (z0_callsIllegal : Value) (z0_ground_foxX : Value) (z0_ground_foxY : Value) (z0_ground_seat : Value) (z0_ground_strength : Value) (z0_ground_debts : Value) (z0_ground_near : Value) (z0_ground_foxes : Value) (z0_ground_safe : Value) (z0_now_owedEach : Value) (v0_ground_forms : Int32) (v0_ground_hares : Int32) (f0_now_row : Nat → Int32) (f0_ground_formX : Nat → Int32) (f0_ground_formY : Nat → Int32) (v0_rule_length : Int32) (f0_rule_kinds : Nat → Int32) (f0_rule_values : Nat → Int32) (v0_callsNoSuch : Int32) (f0_rule_facts : Nat → Int32) (f0_rule_pile : Nat → Int32) (p1 : Int32) (p2 : Int32) {E : String → Int32 → (Nat → Int32) → (Nat → Int32) → Prop} {Q : Int32 → Int32 → (Nat → Int32) → (Nat → Int32) → Prop} (hw : wq_X10_can v0_ground_forms v0_ground_hares f0_now_row f0_ground_formX f0_ground_formY v0_rule_length f0_rule_kinds f0_rule_values v0_callsNoSuch f0_rule_facts f0_rule_pile p1 p2 E Q) : vx_Met l yX10_can wsX10_can ({ frames := 7, cells := 2, slots := 12, locals := 141 }) (va_Pc [.ref a0, .int p1, .int p2] (cPx l (dC, dI) (kT cyB cyI cyJ cyP) (wd01_23 a0 z0_tape a0_ground z0_spareGround z0_rule z0_spareRule z0_lines z0_spareLines z0_steps a0_now z0_trial z0_past z0_images z0_round z0_seating z0_fitting z0_imagesKept z0_refusedSteps v0_callsNoSuch z0_callsIllegal a0_ground a0_ground_formX a0_ground_formY z0_ground_foxX z0_ground_foxY z0_ground_seat z0_ground_strength z0_ground_debts z0_ground_near v0_ground_forms v0_ground_hares z0_ground_foxes z0_ground_safe a0_now a0_now_row z0_now_owedEach a0_ground a0_rule a0_now_row cyI f0_now_row a0_ground_formX cyI f0_ground_formX a0_ground_formY cyI f0_ground_formY a0_rule a0_rule_kinds a0_rule_values a0_rule_pile a0_rule_facts v0_rule_length a0_rule_facts cyI f0_rule_facts a0_rule_pile cyI f0_rule_pile a0_rule_kinds cyI f0_rule_kinds a0_rule_values cyI f0_rule_values) sz)) (va_Qi (fun (r : Int32) (u : Int32 × (Nat → Int32) × (Nat → Int32)) => Q r u.1 u.2.1 u.2.2) (cB (dC, dI) (kT cyB cyI cyJ cyP) (va_A (wd01_23 a0 z0_tape a0_ground z0_spareGround z0_rule z0_spareRule z0_lines z0_spareLines z0_steps a0_now z0_trial z0_past z0_images z0_round z0_seating z0_fitting z0_imagesKept z0_refusedSteps v0_callsNoSuch z0_callsIllegal a0_ground a0_ground_formX a0_ground_formY z0_ground_foxX z0_ground_foxY z0_ground_seat z0_ground_strength z0_ground_debts z0_ground_near v0_ground_forms v0_ground_hares z0_ground_foxes z0_ground_safe a0_now a0_now_row z0_now_owedEach a0_ground a0_rule a0_now_row cyI f0_now_row a0_ground_formX cyI f0_ground_formX a0_ground_formY cyI f0_ground_formY a0_rule a0_rule_kinds a0_rule_values a0_rule_pile a0_rule_facts v0_rule_length a0_rule_facts cyI f0_rule_facts a0_rule_pile cyI f0_rule_pile a0_rule_kinds cyI f0_rule_kinds a0_rule_values cyI f0_rule_values) sz) (fun u : Int32 × (Nat → Int32) × (Nat → Int32) => ((wd01_23 a0 z0_tape a0_ground z0_spareGround z0_rule z0_spareRule z0_lines z0_spareLines z0_steps a0_now z0_trial z0_past z0_images z0_round z0_seating z0_fitting z0_imagesKept z0_refusedSteps u.1 z0_callsIllegal a0_ground a0_ground_formX a0_ground_formY z0_ground_foxX z0_ground_foxY z0_ground_seat z0_ground_strength z0_ground_debts z0_ground_near v0_ground_forms v0_ground_hares z0_ground_foxes z0_ground_safe a0_now a0_now_row z0_now_owedEach a0_ground a0_rule a0_now_row cyI f0_now_row a0_ground_formX cyI f0_ground_formX a0_ground_formY cyI f0_ground_formY a0_rule a0_rule_kinds a0_rule_values a0_rule_pile a0_rule_facts v0_rule_length a0_rule_facts cyI u.2.1 a0_rule_pile cyI u.2.2 a0_rule_kinds cyI f0_rule_kinds a0_rule_values cyI f0_rule_values) : va_W))) (va_A (wd01_23 a0 z0_tape a0_ground z0_spareGround z0_rule z0_spareRule z0_lines z0_spareLines z0_steps a0_now z0_trial z0_past z0_images z0_round z0_seating z0_fitting z0_imagesKept z0_refusedSteps v0_callsNoSuch z0_callsIllegal a0_ground a0_ground_formX a0_ground_formY z0_ground_foxX z0_ground_foxY z0_ground_seat z0_ground_strength z0_ground_debts z0_ground_near v0_ground_forms v0_ground_hares z0_ground_foxes z0_ground_safe a0_now a0_now_row z0_now_owedEach a0_ground a0_rule a0_now_row cyI f0_now_row a0_ground_formX cyI f0_ground_formX a0_ground_formY cyI f0_ground_formY a0_rule a0_rule_kinds a0_rule_values a0_rule_pile a0_rule_facts v0_rule_length a0_rule_facts cyI f0_rule_facts a0_rule_pile cyI f0_rule_pile a0_rule_kinds cyI f0_rule_kinds a0_rule_values cyI f0_rule_values) sz)) (vx_X (fun _ => True) (fun (en : String) (u : Int32 × (Nat → Int32) × (Nat → Int32)) (t : State) => E en u.1 u.2.1 u.2.2 ∧ cB (dC, dI) (kT cyB cyI cyJ cyP) (va_A (wd01_23 a0 z0_tape a0_ground z0_spareGround z0_rule z0_spareRule z0_lines z0_spareLines z0_steps a0_now z0_trial z0_past z0_images z0_round z0_seating z0_fitting z0_imagesKept z0_refusedSteps v0_callsNoSuch z0_callsIllegal a0_ground a0_ground_formX a0_ground_formY z0_ground_foxX z0_ground_foxY z0_ground_seat z0_ground_strength z0_ground_debts z0_ground_near v0_ground_forms v0_ground_hares z0_ground_foxes z0_ground_safe a0_now a0_now_row z0_now_owedEach a0_ground a0_rule a0_now_row cyI f0_now_row a0_ground_formX cyI f0_ground_formX a0_ground_formY cyI f0_ground_formY a0_rule a0_rule_kinds a0_rule_values a0_rule_pile a0_rule_facts v0_rule_length a0_rule_facts cyI f0_rule_facts a0_rule_pile cyI f0_rule_pile a0_rule_kinds cyI f0_rule_kinds a0_rule_values cyI f0_rule_values) sz) (fun u : Int32 × (Nat → Int32) × (Nat → Int32) => ((wd01_23 a0 z0_tape a0_ground z0_spareGround z0_rule z0_spareRule z0_lines z0_spareLines z0_steps a0_now z0_trial z0_past z0_images z0_round z0_seating z0_fitting z0_imagesKept z0_refusedSteps u.1 z0_callsIllegal a0_ground a0_ground_formX a0_ground_formY z0_ground_foxX z0_ground_foxY z0_ground_seat z0_ground_strength z0_ground_debts z0_ground_near v0_ground_forms v0_ground_hares z0_ground_foxes z0_ground_safe a0_now a0_now_row z0_now_owedEach a0_ground a0_rule a0_now_row cyI f0_now_row a0_ground_formX cyI f0_ground_formX a0_ground_formY cyI f0_ground_formY a0_rule a0_rule_kinds a0_rule_values a0_rule_pile a0_rule_facts v0_rule_length a0_rule_facts cyI u.2.1 a0_rule_pile cyI u.2.2 a0_rule_kinds cyI f0_rule_kinds a0_rule_values cyI f0_rule_values) : va_W)) u t) (va_A (wd01_23 a0 z0_tape a0_ground z0_spareGround z0_rule z0_spareRule z0_lines z0_spareLines z0_steps a0_now z0_trial z0_past z0_images z0_round z0_seating z0_fitting z0_imagesKept z0_refusedSteps v0_callsNoSuch z0_callsIllegal a0_ground a0_ground_formX a0_ground_formY z0_ground_foxX z0_ground_foxY z0_ground_seat z0_ground_strength z0_ground_debts z0_ground_near v0_ground_forms v0_ground_hares z0_ground_foxes z0_ground_safe a0_now a0_now_row z0_now_owedEach a0_ground a0_rule a0_now_row cyI f0_now_row a0_ground_formX cyI f0_ground_formX a0_ground_formY cyI f0_ground_formY a0_rule a0_rule_kinds a0_rule_values a0_rule_pile a0_rule_facts v0_rule_length a0_rule_facts cyI f0_rule_facts a0_rule_pile cyI f0_rule_pile a0_rule_kinds cyI f0_rule_kinds a0_rule_values cyI f0_rule_values) sz)) 2 12 (va_A (wd01_23 a0 z0_tape a0_ground z0_spareGround z0_rule z0_spareRule z0_lines z0_spareLines z0_steps a0_now z0_trial z0_past z0_images z0_round z0_seating z0_fitting z0_imagesKept z0_refusedSteps v0_callsNoSuch z0_callsIllegal a0_ground a0_ground_formX a0_ground_formY z0_ground_foxX z0_ground_foxY z0_ground_seat z0_ground_strength z0_ground_debts z0_ground_near v0_ground_forms v0_ground_hares z0_ground_foxes z0_ground_safe a0_now a0_now_row z0_now_owedEach a0_ground a0_rule a0_now_row cyI f0_now_row a0_ground_formX cyI f0_ground_formX a0_ground_formY cyI f0_ground_formY a0_rule a0_rule_kinds a0_rule_values a0_rule_pile a0_rule_facts v0_rule_length a0_rule_facts cyI f0_rule_facts a0_rule_pile cyI f0_rule_pile a0_rule_kinds cyI f0_rule_kinds a0_rule_values cyI f0_rule_values) sz) := by
  refine vx_ofW (cc := cX10_can) (maxL := 3) (ret := (some .boolean)) (by decide) rfl ?_
  intro p e s m args below meth c s₁ B hml hnt hv
  obtain ⟨rfl, hsz, hP, hK, hD0, hNw, hXl, hXu, hXn, hXt⟩ := hv
  have hx := B.exec
  have hb := B.bytes
  have hr := B.returns
  have hts := atoms_spec (ws := wsX10_can) B.pre
  have hown : s.vm.findClass RX10 = some m.cls := findClass_of_methodNamed B.named
  have hlocks := B.notSynchronized
  subst hsz
  have hD := hD0.self (sz := s.heap.size)
  generalize hAe : va_A (wd01_23 a0 z0_tape a0_ground z0_spareGround z0_rule z0_spareRule z0_lines z0_spareLines z0_steps a0_now z0_trial z0_past z0_images z0_round z0_seating z0_fitting z0_imagesKept z0_refusedSteps v0_callsNoSuch z0_callsIllegal a0_ground a0_ground_formX a0_ground_formY z0_ground_foxX z0_ground_foxY z0_ground_seat z0_ground_strength z0_ground_debts z0_ground_near v0_ground_forms v0_ground_hares z0_ground_foxes z0_ground_safe a0_now a0_now_row z0_now_owedEach a0_ground a0_rule a0_now_row cyI f0_now_row a0_ground_formX cyI f0_ground_formX a0_ground_formY cyI f0_ground_formY a0_rule a0_rule_kinds a0_rule_values a0_rule_pile a0_rule_facts v0_rule_length a0_rule_facts cyI f0_rule_facts a0_rule_pile cyI f0_rule_pile a0_rule_kinds cyI f0_rule_kinds a0_rule_values cyI f0_rule_values) s.heap.size = A at hD hXu hXn ⊢
  have hA : ∀ q : Nat, s.heap.size ≤ q → A q := fun q h => by rw [← hAe]; exact Or.inr h
  have hS : va_S A s.heap s.heap [] := va_S.rf
  have hP : va_P (dC, dI) vwCl (wd01_23 a0 z0_tape a0_ground z0_spareGround z0_rule z0_spareRule z0_lines z0_spareLines z0_steps a0_now z0_trial z0_past z0_images z0_round z0_seating z0_fitting z0_imagesKept z0_refusedSteps v0_callsNoSuch z0_callsIllegal a0_ground a0_ground_formX a0_ground_formY z0_ground_foxX z0_ground_foxY z0_ground_seat z0_ground_strength z0_ground_debts z0_ground_near v0_ground_forms v0_ground_hares z0_ground_foxes z0_ground_safe a0_now a0_now_row z0_now_owedEach a0_ground a0_rule a0_now_row cyI f0_now_row a0_ground_formX cyI f0_ground_formX a0_ground_formY cyI f0_ground_formY a0_rule a0_rule_kinds a0_rule_values a0_rule_pile a0_rule_facts v0_rule_length a0_rule_facts cyI f0_rule_facts a0_rule_pile cyI f0_rule_pile a0_rule_kinds cyI f0_rule_kinds a0_rule_values cyI f0_rule_values) s.heap := hP
  have hl := lv_entry ([.ref a0, .int p1, .int p2]) (n := 3) (Nat.le_of_ble_eq_true rfl)
  rw [lg_entry_eq]
  generalize (lg_sl ([.ref a0, .int p1, .int p2]) ++ List.replicate (3 - (lg_sl ([.ref a0, .int p1, .int p2])).length) Slot.unset).toArray = ls at hl ⊢
  have hl : lv_has ls 3 [(0, .ref a0), (1, .int p1), (2, .int p2)] := hl
  have hY : cfY l s A := ⟨hXl, hXu, hXn, hXt⟩
  have hXs : cfX l s c A := ⟨hnt, hY⟩
  have C0 : cfx p s m _ meth c cX10_can (some .boolean) wsX10_can RX10 3 A (dC, dI) (kT cyB cyI cyJ cyP) ∧ cfX l s c A := ⟨⟨hx, hb, hr, hts, hown, hlocks, hml, hA, hK, hNw⟩, hXs⟩
  clear hAe
  obtain ⟨H, hH⟩ : ∃ H, H = s.heap := ⟨_, rfl⟩
  rw [← hH] at hP ⊢
  have hS : va_S A s.heap H [] := by rw [hH]; exact va_S.rf
  have hS := hS
  refine lv_aload_n hx hb (dt_of tkX10_can_k0 0 rfl) rfl (lv_at hl 0 rfl) ?_
  refine lv_iload_n hx hb (dt_of tkX10_can_k0 1 rfl) rfl (lv_at hl 1 rfl) ?_
  obtain ⟨hCc, hPc, hDc, hFc⟩ := va_pick (ws' := (wd01_24 a0 z0_tape a0_ground z0_spareGround z0_rule z0_spareRule z0_lines z0_spareLines z0_steps a0_now z0_trial z0_past z0_images z0_round z0_seating z0_fitting z0_imagesKept z0_refusedSteps v0_callsNoSuch z0_callsIllegal a0_ground a0_ground_formX a0_ground_formY z0_ground_foxX z0_ground_foxY z0_ground_seat z0_ground_strength z0_ground_debts z0_ground_near v0_ground_forms v0_ground_hares z0_ground_foxes z0_ground_safe)) hP hD hS hA [0, 1] (by decide +kernel) rfl
  refine vx_callv (vx_runV (As := [.int p1]) (rest := []) ⟨hx, hb, hml, hown, hts⟩ (ck_X10_needHare l dC dI cyB cyI cyJ cyP a0 a0_ground H.size (z0_tape) (z0_spareGround) (z0_rule) (z0_spareRule) (z0_lines) (z0_spareLines) (z0_steps) (.ref a0_now) (z0_trial) (z0_past) (z0_images) (z0_round) (z0_seating) (z0_fitting) (z0_imagesKept) (z0_refusedSteps) (z0_callsIllegal) (.ref a0_ground_formX) (.ref a0_ground_formY) (z0_ground_foxX) (z0_ground_foxY) (z0_ground_seat) (z0_ground_strength) (z0_ground_debts) (z0_ground_near) (.int v0_ground_forms) (z0_ground_foxes) (z0_ground_safe) v0_ground_hares v0_callsNoSuch p1 hw) (cwV 1 hts gX10_can_X10_needHare rfl rfl rfl (by decide +kernel) ⟨Nat.le_of_ble_eq_true rfl, Nat.le_of_ble_eq_true rfl⟩) ⟨cPx_blind, va_recv (q := (RX10, TX10, 19)) hK hPc (ci := 10) (q0 := 0) rfl rfl, cPx_pre hPc hK hDc hNw hY hS hFc⟩ rfl rfl hl.1 rfl (lv_room (Nat.le_of_ble_eq_true rfl)) (dt_of tkX10_can_k0 2 rfl) ⟨Nat.le_of_ble_eq_true rfl, Nat.le_of_ble_eq_true rfl⟩) hS (fun q _ h => hFc q h) hFc (fun q _ h => hFc q h) (fun en ce q9 u t H1 locs ht hvm hpx hB hz1 hk1 hS hc9 hv9 hcl9 => ?_) (fun u t H1 locs ht hvm hw hB hz1 hk1 hS => ?_)
  · obtain ⟨x1, rfl⟩ : ∃ z, z = u := ⟨_, rfl⟩
    obtain ⟨hw, hP1, hK1, hD1⟩ := hB
    rw [ht] at hP1
    obtain ⟨hP, hD⟩ := va_joinN (wr := (wd01_25 a0_now a0_now_row z0_now_owedEach a0_ground a0_rule a0_now_row cyI f0_now_row a0_ground_formX cyI f0_ground_formX a0_ground_formY cyI f0_ground_formY a0_rule a0_rule_kinds a0_rule_values a0_rule_pile a0_rule_facts v0_rule_length a0_rule_facts cyI f0_rule_facts a0_rule_pile cyI f0_rule_pile a0_rule_kinds cyI f0_rule_kinds a0_rule_values cyI f0_rule_values)) (w1 := (wd01_24 a0 z0_tape a0_ground z0_spareGround z0_rule z0_spareRule z0_lines z0_spareLines z0_steps a0_now z0_trial z0_past z0_images z0_round z0_seating z0_fitting z0_imagesKept z0_refusedSteps x1 z0_callsIllegal a0_ground a0_ground_formX a0_ground_formY z0_ground_foxX z0_ground_foxY z0_ground_seat z0_ground_strength z0_ground_debts z0_ground_near v0_ground_forms v0_ground_hares z0_ground_foxes z0_ground_safe)) (wn := (wd01_23 a0 z0_tape a0_ground z0_spareGround z0_rule z0_spareRule z0_lines z0_spareLines z0_steps a0_now z0_trial z0_past z0_images z0_round z0_seating z0_fitting z0_imagesKept z0_refusedSteps x1 z0_callsIllegal a0_ground a0_ground_formX a0_ground_formY z0_ground_foxX z0_ground_foxY z0_ground_seat z0_ground_strength z0_ground_debts z0_ground_near v0_ground_forms v0_ground_hares z0_ground_foxes z0_ground_safe a0_now a0_now_row z0_now_owedEach a0_ground a0_rule a0_now_row cyI f0_now_row a0_ground_formX cyI f0_ground_formX a0_ground_formY cyI f0_ground_formY a0_rule a0_rule_kinds a0_rule_values a0_rule_pile a0_rule_facts v0_rule_length a0_rule_facts cyI f0_rule_facts a0_rule_pile cyI f0_rule_pile a0_rule_kinds cyI f0_rule_kinds a0_rule_values cyI f0_rule_values)) hP hD [0, 1] [2, 3, 4, 5, 6, 7, 8, 9, 10] [9, 10, 0, 1, 2, 3, 4, 5, 6, 7, 8] hCc rfl (by decide +kernel) (by decide +kernel) (by decide +kernel) rfl hk1 hFc hP1 hD1
    generalize H1 = H at hP hS hc9 ⊢
    exact vx_out (fun x hx9 => (hXs.1 x hx9).elim) hlocks hc9 hv9 hcl9 (fun t2 ht2 hal2 => ⟨(x1, f0_rule_facts, f0_rule_pile), trivial, ⟨hw, by rw [ht2]; exact hP, va_K.moved hal2 hK, hD⟩, hS.F ht2⟩) hS.2.2 (Nat.le_of_ble_eq_true rfl) (Nat.le_of_ble_eq_true rfl)
  obtain ⟨x1, rfl⟩ : ∃ z, z = u := ⟨_, rfl⟩
  obtain ⟨hP1, hK1, hD1⟩ := hB
  rw [ht] at hP1
  obtain ⟨hP, hD⟩ := va_joinN (wr := (wd01_25 a0_now a0_now_row z0_now_owedEach a0_ground a0_rule a0_now_row cyI f0_now_row a0_ground_formX cyI f0_ground_formX a0_ground_formY cyI f0_ground_formY a0_rule a0_rule_kinds a0_rule_values a0_rule_pile a0_rule_facts v0_rule_length a0_rule_facts cyI f0_rule_facts a0_rule_pile cyI f0_rule_pile a0_rule_kinds cyI f0_rule_kinds a0_rule_values cyI f0_rule_values)) (w1 := (wd01_24 a0 z0_tape a0_ground z0_spareGround z0_rule z0_spareRule z0_lines z0_spareLines z0_steps a0_now z0_trial z0_past z0_images z0_round z0_seating z0_fitting z0_imagesKept z0_refusedSteps x1 z0_callsIllegal a0_ground a0_ground_formX a0_ground_formY z0_ground_foxX z0_ground_foxY z0_ground_seat z0_ground_strength z0_ground_debts z0_ground_near v0_ground_forms v0_ground_hares z0_ground_foxes z0_ground_safe)) (wn := (wd01_23 a0 z0_tape a0_ground z0_spareGround z0_rule z0_spareRule z0_lines z0_spareLines z0_steps a0_now z0_trial z0_past z0_images z0_round z0_seating z0_fitting z0_imagesKept z0_refusedSteps x1 z0_callsIllegal a0_ground a0_ground_formX a0_ground_formY z0_ground_foxX z0_ground_foxY z0_ground_seat z0_ground_strength z0_ground_debts z0_ground_near v0_ground_forms v0_ground_hares z0_ground_foxes z0_ground_safe a0_now a0_now_row z0_now_owedEach a0_ground a0_rule a0_now_row cyI f0_now_row a0_ground_formX cyI f0_ground_formX a0_ground_formY cyI f0_ground_formY a0_rule a0_rule_kinds a0_rule_values a0_rule_pile a0_rule_facts v0_rule_length a0_rule_facts cyI f0_rule_facts a0_rule_pile cyI f0_rule_pile a0_rule_kinds cyI f0_rule_kinds a0_rule_values cyI f0_rule_values)) hP hD [0, 1] [2, 3, 4, 5, 6, 7, 8, 9, 10] [9, 10, 0, 1, 2, 3, 4, 5, 6, 7, 8] hCc rfl (by decide +kernel) (by decide +kernel) (by decide +kernel) rfl hk1 hFc hP1 hD1
  generalize H1 = H at hP hS ⊢
  refine lv_aload_n hx hb (dt_of tkX10_can_k0 3 rfl) rfl (lv_at hl 0 rfl) ?_
  refine lv_iload_n hx hb (dt_of tkX10_can_k0 4 rfl) rfl (lv_at hl 2 rfl) ?_
  obtain ⟨hCc, hPc, hDc, hFc⟩ := va_pick (ws' := (wd01_24 a0 z0_tape a0_ground z0_spareGround z0_rule z0_spareRule z0_lines z0_spareLines z0_steps a0_now z0_trial z0_past z0_images z0_round z0_seating z0_fitting z0_imagesKept z0_refusedSteps x1 z0_callsIllegal a0_ground a0_ground_formX a0_ground_formY z0_ground_foxX z0_ground_foxY z0_ground_seat z0_ground_strength z0_ground_debts z0_ground_near v0_ground_forms v0_ground_hares z0_ground_foxes z0_ground_safe)) hP hD hS hA [0, 1] (by decide +kernel) rfl
  refine vx_callv (vx_runV (As := [.int p2]) (rest := []) ⟨hx, hb, hml, hown, hts⟩ (ck_X10_needForm l dC dI cyB cyI cyJ cyP a0 a0_ground H.size (z0_tape) (z0_spareGround) (z0_rule) (z0_spareRule) (z0_lines) (z0_spareLines) (z0_steps) (.ref a0_now) (z0_trial) (z0_past) (z0_images) (z0_round) (z0_seating) (z0_fitting) (z0_imagesKept) (z0_refusedSteps) (z0_callsIllegal) (.ref a0_ground_formX) (.ref a0_ground_formY) (z0_ground_foxX) (z0_ground_foxY) (z0_ground_seat) (z0_ground_strength) (z0_ground_debts) (z0_ground_near) (.int v0_ground_hares) (z0_ground_foxes) (z0_ground_safe) v0_ground_forms x1 p2 hw) (cwV 1 hts gX10_can_X10_needForm rfl rfl rfl (by decide +kernel) ⟨Nat.le_of_ble_eq_true rfl, Nat.le_of_ble_eq_true rfl⟩) ⟨cPx_blind, va_recv (q := (RX10, TX10, 19)) hK hPc (ci := 10) (q0 := 0) rfl rfl, cPx_pre hPc hK hDc hNw hY hS hFc⟩ rfl rfl hl.1 rfl (lv_room (Nat.le_of_ble_eq_true rfl)) (dt_of tkX10_can_k0 5 rfl) ⟨Nat.le_of_ble_eq_true rfl, Nat.le_of_ble_eq_true rfl⟩) hS (fun q _ h => hFc q h) hFc (fun q _ h => hFc q h) (fun en ce q9 u t H1 locs ht hvm hpx hB hz1 hk1 hS hc9 hv9 hcl9 => ?_) (fun u t H1 locs ht hvm hw hB hz1 hk1 hS => ?_)
  · obtain ⟨x2, rfl⟩ : ∃ z, z = u := ⟨_, rfl⟩
    obtain ⟨hw, hP1, hK1, hD1⟩ := hB
    rw [ht] at hP1
    obtain ⟨hP, hD⟩ := va_joinN (wr := (wd01_25 a0_now a0_now_row z0_now_owedEach a0_ground a0_rule a0_now_row cyI f0_now_row a0_ground_formX cyI f0_ground_formX a0_ground_formY cyI f0_ground_formY a0_rule a0_rule_kinds a0_rule_values a0_rule_pile a0_rule_facts v0_rule_length a0_rule_facts cyI f0_rule_facts a0_rule_pile cyI f0_rule_pile a0_rule_kinds cyI f0_rule_kinds a0_rule_values cyI f0_rule_values)) (w1 := (wd01_24 a0 z0_tape a0_ground z0_spareGround z0_rule z0_spareRule z0_lines z0_spareLines z0_steps a0_now z0_trial z0_past z0_images z0_round z0_seating z0_fitting z0_imagesKept z0_refusedSteps x2 z0_callsIllegal a0_ground a0_ground_formX a0_ground_formY z0_ground_foxX z0_ground_foxY z0_ground_seat z0_ground_strength z0_ground_debts z0_ground_near v0_ground_forms v0_ground_hares z0_ground_foxes z0_ground_safe)) (wn := (wd01_23 a0 z0_tape a0_ground z0_spareGround z0_rule z0_spareRule z0_lines z0_spareLines z0_steps a0_now z0_trial z0_past z0_images z0_round z0_seating z0_fitting z0_imagesKept z0_refusedSteps x2 z0_callsIllegal a0_ground a0_ground_formX a0_ground_formY z0_ground_foxX z0_ground_foxY z0_ground_seat z0_ground_strength z0_ground_debts z0_ground_near v0_ground_forms v0_ground_hares z0_ground_foxes z0_ground_safe a0_now a0_now_row z0_now_owedEach a0_ground a0_rule a0_now_row cyI f0_now_row a0_ground_formX cyI f0_ground_formX a0_ground_formY cyI f0_ground_formY a0_rule a0_rule_kinds a0_rule_values a0_rule_pile a0_rule_facts v0_rule_length a0_rule_facts cyI f0_rule_facts a0_rule_pile cyI f0_rule_pile a0_rule_kinds cyI f0_rule_kinds a0_rule_values cyI f0_rule_values)) hP hD [0, 1] [2, 3, 4, 5, 6, 7, 8, 9, 10] [9, 10, 0, 1, 2, 3, 4, 5, 6, 7, 8] hCc rfl (by decide +kernel) (by decide +kernel) (by decide +kernel) rfl hk1 hFc hP1 hD1
    generalize H1 = H at hP hS hc9 ⊢
    exact vx_out (fun x hx9 => (hXs.1 x hx9).elim) hlocks hc9 hv9 hcl9 (fun t2 ht2 hal2 => ⟨(x2, f0_rule_facts, f0_rule_pile), trivial, ⟨hw, by rw [ht2]; exact hP, va_K.moved hal2 hK, hD⟩, hS.F ht2⟩) hS.2.2 (Nat.le_of_ble_eq_true rfl) (Nat.le_of_ble_eq_true rfl)
  obtain ⟨x2, rfl⟩ : ∃ z, z = u := ⟨_, rfl⟩
  obtain ⟨hP1, hK1, hD1⟩ := hB
  rw [ht] at hP1
  obtain ⟨hP, hD⟩ := va_joinN (wr := (wd01_25 a0_now a0_now_row z0_now_owedEach a0_ground a0_rule a0_now_row cyI f0_now_row a0_ground_formX cyI f0_ground_formX a0_ground_formY cyI f0_ground_formY a0_rule a0_rule_kinds a0_rule_values a0_rule_pile a0_rule_facts v0_rule_length a0_rule_facts cyI f0_rule_facts a0_rule_pile cyI f0_rule_pile a0_rule_kinds cyI f0_rule_kinds a0_rule_values cyI f0_rule_values)) (w1 := (wd01_24 a0 z0_tape a0_ground z0_spareGround z0_rule z0_spareRule z0_lines z0_spareLines z0_steps a0_now z0_trial z0_past z0_images z0_round z0_seating z0_fitting z0_imagesKept z0_refusedSteps x2 z0_callsIllegal a0_ground a0_ground_formX a0_ground_formY z0_ground_foxX z0_ground_foxY z0_ground_seat z0_ground_strength z0_ground_debts z0_ground_near v0_ground_forms v0_ground_hares z0_ground_foxes z0_ground_safe)) (wn := (wd01_23 a0 z0_tape a0_ground z0_spareGround z0_rule z0_spareRule z0_lines z0_spareLines z0_steps a0_now z0_trial z0_past z0_images z0_round z0_seating z0_fitting z0_imagesKept z0_refusedSteps x2 z0_callsIllegal a0_ground a0_ground_formX a0_ground_formY z0_ground_foxX z0_ground_foxY z0_ground_seat z0_ground_strength z0_ground_debts z0_ground_near v0_ground_forms v0_ground_hares z0_ground_foxes z0_ground_safe a0_now a0_now_row z0_now_owedEach a0_ground a0_rule a0_now_row cyI f0_now_row a0_ground_formX cyI f0_ground_formX a0_ground_formY cyI f0_ground_formY a0_rule a0_rule_kinds a0_rule_values a0_rule_pile a0_rule_facts v0_rule_length a0_rule_facts cyI f0_rule_facts a0_rule_pile cyI f0_rule_pile a0_rule_kinds cyI f0_rule_kinds a0_rule_values cyI f0_rule_values)) hP hD [0, 1] [2, 3, 4, 5, 6, 7, 8, 9, 10] [9, 10, 0, 1, 2, 3, 4, 5, 6, 7, 8] hCc rfl (by decide +kernel) (by decide +kernel) (by decide +kernel) rfl hk1 hFc hP1 hD1
  generalize H1 = H at hP hS ⊢
  refine lv_aload_n hx hb (dt_of tkX10_can_k0 6 rfl) rfl (lv_at hl 0 rfl) ?_
  refine va_get (D := (dC, dI)) (ci := 10) (v := .ref a0_now) (C := RX10) (T := TX10) (N := 19) hx hb hts ui_X10_can_X10 hown hK hP 0 rfl rfl 8 (by decide) (hts _ uw_X10_can_f58) (fun _ h9 => h9) rfl (dt_of tkX10_can_k0 7 rfl) ?_
  refine lv_iload_n hx hb (dt_of tkX10_can_k0 8 rfl) rfl (lv_at hl 1 rfl) ?_
  refine lv_iload_n hx hb (dt_of tkX10_can_k0 9 rfl) rfl (lv_at hl 2 rfl) ?_
  obtain ⟨hCc, hPc, hDc, hFc⟩ := va_pick (ws' := (wd01_26 a0_now a0_now_row z0_now_owedEach a0_ground a0_rule a0_now_row cyI f0_now_row a0_ground a0_ground_formX a0_ground_formY z0_ground_foxX z0_ground_foxY z0_ground_seat z0_ground_strength z0_ground_debts z0_ground_near v0_ground_forms v0_ground_hares z0_ground_foxes z0_ground_safe a0_ground_formX cyI f0_ground_formX a0_ground_formY cyI f0_ground_formY a0_rule a0_rule_kinds a0_rule_values a0_rule_pile a0_rule_facts v0_rule_length a0_rule_facts cyI f0_rule_facts a0_rule_pile cyI f0_rule_pile a0_rule_kinds cyI f0_rule_kinds a0_rule_values cyI f0_rule_values)) hP hD hS hA [2, 3, 1, 4, 5, 6, 7, 8, 9, 10] (by decide +kernel) rfl
  refine va_calli (va_runV (As := [.int p1, .int p2]) (rest := []) ⟨hx, hb, hml, hown, hts⟩ (ck_X1_couldLeap l dC dI cyB cyI cyJ cyP a0_now a0_now_row a0_ground a0_ground_formX a0_ground_formY a0_rule a0_rule_facts a0_rule_pile a0_rule_kinds a0_rule_values H.size (z0_now_owedEach) (z0_ground_foxX) (z0_ground_foxY) (z0_ground_seat) (z0_ground_strength) (z0_ground_debts) (z0_ground_near) (.int v0_ground_forms) (z0_ground_foxes) (z0_ground_safe) f0_now_row v0_ground_hares f0_ground_formX f0_ground_formY v0_rule_length f0_rule_kinds f0_rule_values f0_rule_facts f0_rule_pile p1 p2 hw) (cwV 2 hts gX10_can_X1_couldLeap rfl rfl rfl (by decide +kernel) ⟨Nat.le_of_ble_eq_true rfl, Nat.le_of_ble_eq_true rfl⟩) ⟨cPc_blind, va_recv (q := (RX1, TX1, 4)) hK hPc (ci := 1) (q0 := 0) rfl rfl, cPc_pre hPc hK hDc hNw⟩ rfl rfl hl.1 rfl (lv_room (Nat.le_of_ble_eq_true rfl)) (dt_of tkX10_can_k0 10 rfl) ⟨Nat.le_of_ble_eq_true rfl, Nat.le_of_ble_eq_true rfl⟩) hS (fun q _ h => hFc q h) hFc (fun r5 u t H1 locs ht hvm hw hB hz1 hk1 hS => ?_)
  obtain ⟨f3, f4⟩ := u
  obtain ⟨hP1, hK1, hD1⟩ := hB
  rw [ht] at hP1
  obtain ⟨hP, hD⟩ := va_joinN (wr := (wd01_4 a0 z0_tape a0_ground z0_spareGround z0_rule z0_spareRule z0_lines z0_spareLines z0_steps a0_now z0_trial z0_past z0_images z0_round z0_seating z0_fitting z0_imagesKept z0_refusedSteps x2 z0_callsIllegal)) (w1 := (wd01_26 a0_now a0_now_row z0_now_owedEach a0_ground a0_rule a0_now_row cyI f0_now_row a0_ground a0_ground_formX a0_ground_formY z0_ground_foxX z0_ground_foxY z0_ground_seat z0_ground_strength z0_ground_debts z0_ground_near v0_ground_forms v0_ground_hares z0_ground_foxes z0_ground_safe a0_ground_formX cyI f0_ground_formX a0_ground_formY cyI f0_ground_formY a0_rule a0_rule_kinds a0_rule_values a0_rule_pile a0_rule_facts v0_rule_length a0_rule_facts cyI f3 a0_rule_pile cyI f4 a0_rule_kinds cyI f0_rule_kinds a0_rule_values cyI f0_rule_values)) (wn := (wd01_23 a0 z0_tape a0_ground z0_spareGround z0_rule z0_spareRule z0_lines z0_spareLines z0_steps a0_now z0_trial z0_past z0_images z0_round z0_seating z0_fitting z0_imagesKept z0_refusedSteps x2 z0_callsIllegal a0_ground a0_ground_formX a0_ground_formY z0_ground_foxX z0_ground_foxY z0_ground_seat z0_ground_strength z0_ground_debts z0_ground_near v0_ground_forms v0_ground_hares z0_ground_foxes z0_ground_safe a0_now a0_now_row z0_now_owedEach a0_ground a0_rule a0_now_row cyI f0_now_row a0_ground_formX cyI f0_ground_formX a0_ground_formY cyI f0_ground_formY a0_rule a0_rule_kinds a0_rule_values a0_rule_pile a0_rule_facts v0_rule_length a0_rule_facts cyI f3 a0_rule_pile cyI f4 a0_rule_kinds cyI f0_rule_kinds a0_rule_values cyI f0_rule_values)) hP hD [2, 3, 1, 4, 5, 6, 7, 8, 9, 10] [0] [0, 3, 1, 2, 4, 5, 6, 7, 8, 9, 10] hCc rfl (by decide +kernel) (by decide +kernel) (by decide +kernel) rfl hk1 hFc hP1 hD1
  generalize H1 = H at hP hS ⊢
  obtain ⟨hn9, hw⟩ := hw
  exact vx_ret (W.widen (k := 2) (n := 12) (Nat.le_of_ble_eq_true rfl) (Nat.le_of_ble_eq_true rfl) (W.zret (v := r5) hx hb hr hn9 (fun t ht hW => ⟨⟨r5, (x2, f3, f4), rfl, hw, by rw [ht]; exact hP, va_K.moved hW.alike hK, hD⟩, hS.F ht⟩) hS.2.2 (dt_of tkX10_can_k0 11 rfl)))
theorem uw_L_can_ct31 : (.classLink RL 31 "java/util/NoSuchElementException" : Cond) ∈ wsL_can := mbL_can 2639 (by decide +kernel)
theorem uw_L_can_cw : (.codeWith yL_can cL_can 5 (some .int) [(0, 17, 20, 31)] : Cond) ∈ wsL_can := mbL_can 2944 (by decide +kernel)
set_option maxHeartbeats 4000000 in
set_option maxRecDepth 100000 in
theorem ck_L_can (l : Launch) (dC : Nat → ClassId) (dI : Nat → Nat → Nat) (cyB cyI cyJ cyP : ClassId) (a0 a3 a0_ground a0_now a0_now_row a0_ground_formX a0_ground_formY a0_rule a0_rule_facts a0_rule_pile a0_rule_kinds a0_rule_values : Nat) (sz : Nat) (z0_tape : Value) (z0_spareGround : Value) (z0_spareRule : Value) (z0_lines : Value) (z0_spareLines : Value) (z0_steps : Value) (z0_trial : Value) (z0_past : Value) (z0_images : Value) (z0_round : Value) (z0_seating : Value) (z0_fitting : Value) (z0_imagesKept : Value) (z0_refusedSteps : Value) (z0_callsIllegal : Value) (z0_ground_foxX : Value) (z0_ground_foxY : Value) (z0_ground_seat : Value) (z0_ground_strength : Value) (z0_ground_debts : Value) (z0_ground_near : Value) (z0_ground_foxes : Value) (z0_ground_safe : Value) (z0_now_owedEach : Value) (n3 : Nat) (v0_ground_forms : Int32) (v0_ground_hares : Int32) (f0_now_row : Nat → Int32) (f0_ground_formX : Nat → Int32) (f0_ground_formY : Nat → Int32) (v0_rule_length : Int32) (f0_rule_kinds : Nat → Int32) (f0_rule_values : Nat → Int32) (v0_callsNoSuch : Int32) (f0_rule_facts : Nat → Int32) (f0_rule_pile : Nat → Int32) (f3 : Nat → Int64) (p1 : Int32) (p2 : Int32) {Q : Int32 → Int32 → (Nat → Int32) → (Nat → Int32) → (Nat → Int64) → Prop} (hw : wq_L_can n3 v0_ground_forms v0_ground_hares f0_now_row f0_ground_formX f0_ground_formY v0_rule_length f0_rule_kinds f0_rule_values v0_callsNoSuch f0_rule_facts f0_rule_pile f3 p1 p2 Q) : Met l yL_can wsL_can ({ frames := 8, cells := 2, slots := 12, locals := 163 }) (va_Pc [.ref a0, .int p1, .int p2, .ref a3] (cPx l (dC, dI) (kT cyB cyI cyJ cyP) (wd01_27 a0 z0_tape a0_ground z0_spareGround a0_rule z0_spareRule z0_lines z0_spareLines z0_steps a0_now z0_trial z0_past z0_images z0_round z0_seating z0_fitting z0_imagesKept z0_refusedSteps v0_callsNoSuch z0_callsIllegal a0_ground a0_ground_formX a0_ground_formY z0_ground_foxX z0_ground_foxY z0_ground_seat z0_ground_strength z0_ground_debts z0_ground_near v0_ground_forms v0_ground_hares z0_ground_foxes z0_ground_safe a0_now a0_now_row z0_now_owedEach a0_ground a0_rule a0_now_row cyI f0_now_row a0_ground_formX cyI f0_ground_formX a0_ground_formY cyI f0_ground_formY a0_rule a0_rule_kinds a0_rule_values a0_rule_pile a0_rule_facts v0_rule_length a0_rule_facts cyI f0_rule_facts a0_rule_pile cyI f0_rule_pile a0_rule_kinds cyI f0_rule_kinds a0_rule_values cyI f0_rule_values a3 cyJ n3 f3) sz)) (va_Qi (fun (r : Int32) (u : Int32 × (Nat → Int32) × (Nat → Int32) × (Nat → Int64)) => Q r u.1 u.2.1 u.2.2.1 u.2.2.2) (cB (dC, dI) (kT cyB cyI cyJ cyP) (va_A (wd01_27 a0 z0_tape a0_ground z0_spareGround a0_rule z0_spareRule z0_lines z0_spareLines z0_steps a0_now z0_trial z0_past z0_images z0_round z0_seating z0_fitting z0_imagesKept z0_refusedSteps v0_callsNoSuch z0_callsIllegal a0_ground a0_ground_formX a0_ground_formY z0_ground_foxX z0_ground_foxY z0_ground_seat z0_ground_strength z0_ground_debts z0_ground_near v0_ground_forms v0_ground_hares z0_ground_foxes z0_ground_safe a0_now a0_now_row z0_now_owedEach a0_ground a0_rule a0_now_row cyI f0_now_row a0_ground_formX cyI f0_ground_formX a0_ground_formY cyI f0_ground_formY a0_rule a0_rule_kinds a0_rule_values a0_rule_pile a0_rule_facts v0_rule_length a0_rule_facts cyI f0_rule_facts a0_rule_pile cyI f0_rule_pile a0_rule_kinds cyI f0_rule_kinds a0_rule_values cyI f0_rule_values a3 cyJ n3 f3) sz) (fun u : Int32 × (Nat → Int32) × (Nat → Int32) × (Nat → Int64) => ((wd01_27 a0 z0_tape a0_ground z0_spareGround a0_rule z0_spareRule z0_lines z0_spareLines z0_steps a0_now z0_trial z0_past z0_images z0_round z0_seating z0_fitting z0_imagesKept z0_refusedSteps u.1 z0_callsIllegal a0_ground a0_ground_formX a0_ground_formY z0_ground_foxX z0_ground_foxY z0_ground_seat z0_ground_strength z0_ground_debts z0_ground_near v0_ground_forms v0_ground_hares z0_ground_foxes z0_ground_safe a0_now a0_now_row z0_now_owedEach a0_ground a0_rule a0_now_row cyI f0_now_row a0_ground_formX cyI f0_ground_formX a0_ground_formY cyI f0_ground_formY a0_rule a0_rule_kinds a0_rule_values a0_rule_pile a0_rule_facts v0_rule_length a0_rule_facts cyI u.2.1 a0_rule_pile cyI u.2.2.1 a0_rule_kinds cyI f0_rule_kinds a0_rule_values cyI f0_rule_values a3 cyJ n3 u.2.2.2) : va_W))) (va_A (wd01_27 a0 z0_tape a0_ground z0_spareGround a0_rule z0_spareRule z0_lines z0_spareLines z0_steps a0_now z0_trial z0_past z0_images z0_round z0_seating z0_fitting z0_imagesKept z0_refusedSteps v0_callsNoSuch z0_callsIllegal a0_ground a0_ground_formX a0_ground_formY z0_ground_foxX z0_ground_foxY z0_ground_seat z0_ground_strength z0_ground_debts z0_ground_near v0_ground_forms v0_ground_hares z0_ground_foxes z0_ground_safe a0_now a0_now_row z0_now_owedEach a0_ground a0_rule a0_now_row cyI f0_now_row a0_ground_formX cyI f0_ground_formX a0_ground_formY cyI f0_ground_formY a0_rule a0_rule_kinds a0_rule_values a0_rule_pile a0_rule_facts v0_rule_length a0_rule_facts cyI f0_rule_facts a0_rule_pile cyI f0_rule_pile a0_rule_kinds cyI f0_rule_kinds a0_rule_values cyI f0_rule_values a3 cyJ n3 f3) sz)) 2 12 (va_A (wd01_27 a0 z0_tape a0_ground z0_spareGround a0_rule z0_spareRule z0_lines z0_spareLines z0_steps a0_now z0_trial z0_past z0_images z0_round z0_seating z0_fitting z0_imagesKept z0_refusedSteps v0_callsNoSuch z0_callsIllegal a0_ground a0_ground_formX a0_ground_formY z0_ground_foxX z0_ground_foxY z0_ground_seat z0_ground_strength z0_ground_debts z0_ground_near v0_ground_forms v0_ground_hares z0_ground_foxes z0_ground_safe a0_now a0_now_row z0_now_owedEach a0_ground a0_rule a0_now_row cyI f0_now_row a0_ground_formX cyI f0_ground_formX a0_ground_formY cyI f0_ground_formY a0_rule a0_rule_kinds a0_rule_values a0_rule_pile a0_rule_facts v0_rule_length a0_rule_facts cyI f0_rule_facts a0_rule_pile cyI f0_rule_pile a0_rule_kinds cyI f0_rule_kinds a0_rule_values cyI f0_rule_values a3 cyJ n3 f3) sz) := by
  refine va_MetW (cc := cL_can) (maxL := 5) (ret := (some .int)) (by decide) rfl ?_
  intro p e s m args below meth c s₁ B hml hv
  obtain ⟨rfl, hsz, hP, hK, hD0, hNw, hXl, hXu, hXn, hXt⟩ := hv
  have hx := B.exec
  have hb := B.bytes
  have hr := B.returns
  have hts := atoms_spec (ws := wsL_can) B.pre
  have hown : s.vm.findClass RL = some m.cls := findClass_of_methodNamed B.named
  have hlocks := B.notSynchronized
  subst hsz
  have hD := hD0.self (sz := s.heap.size)
  generalize hAe : va_A (wd01_27 a0 z0_tape a0_ground z0_spareGround a0_rule z0_spareRule z0_lines z0_spareLines z0_steps a0_now z0_trial z0_past z0_images z0_round z0_seating z0_fitting z0_imagesKept z0_refusedSteps v0_callsNoSuch z0_callsIllegal a0_ground a0_ground_formX a0_ground_formY z0_ground_foxX z0_ground_foxY z0_ground_seat z0_ground_strength z0_ground_debts z0_ground_near v0_ground_forms v0_ground_hares z0_ground_foxes z0_ground_safe a0_now a0_now_row z0_now_owedEach a0_ground a0_rule a0_now_row cyI f0_now_row a0_ground_formX cyI f0_ground_formX a0_ground_formY cyI f0_ground_formY a0_rule a0_rule_kinds a0_rule_values a0_rule_pile a0_rule_facts v0_rule_length a0_rule_facts cyI f0_rule_facts a0_rule_pile cyI f0_rule_pile a0_rule_kinds cyI f0_rule_kinds a0_rule_values cyI f0_rule_values a3 cyJ n3 f3) s.heap.size = A at hD hXu hXn ⊢
  have hA : ∀ q : Nat, s.heap.size ≤ q → A q := fun q h => by rw [← hAe]; exact Or.inr h
  have hS : va_S A s.heap s.heap [] := va_S.rf
  have hP : va_P (dC, dI) vwCl (wd01_27 a0 z0_tape a0_ground z0_spareGround a0_rule z0_spareRule z0_lines z0_spareLines z0_steps a0_now z0_trial z0_past z0_images z0_round z0_seating z0_fitting z0_imagesKept z0_refusedSteps v0_callsNoSuch z0_callsIllegal a0_ground a0_ground_formX a0_ground_formY z0_ground_foxX z0_ground_foxY z0_ground_seat z0_ground_strength z0_ground_debts z0_ground_near v0_ground_forms v0_ground_hares z0_ground_foxes z0_ground_safe a0_now a0_now_row z0_now_owedEach a0_ground a0_rule a0_now_row cyI f0_now_row a0_ground_formX cyI f0_ground_formX a0_ground_formY cyI f0_ground_formY a0_rule a0_rule_kinds a0_rule_values a0_rule_pile a0_rule_facts v0_rule_length a0_rule_facts cyI f0_rule_facts a0_rule_pile cyI f0_rule_pile a0_rule_kinds cyI f0_rule_kinds a0_rule_values cyI f0_rule_values a3 cyJ n3 f3) s.heap := hP
  have hl := lv_entry ([.ref a0, .int p1, .int p2, .ref a3]) (n := 5) (Nat.le_of_ble_eq_true rfl)
  rw [lg_entry_eq]
  generalize (lg_sl ([.ref a0, .int p1, .int p2, .ref a3]) ++ List.replicate (5 - (lg_sl ([.ref a0, .int p1, .int p2, .ref a3])).length) Slot.unset).toArray = ls at hl ⊢
  have hl : lv_has ls 5 [(0, .ref a0), (1, .int p1), (2, .int p2), (3, .ref a3)] := hl
  have hY : cfY l s A := ⟨hXl, hXu, hXn, hXt⟩
  have hTb := vx_table (x := yL_can) B (hts _ uw_L_can_cw)
  clear hAe
  obtain ⟨H, hH⟩ : ∃ H, H = s.heap := ⟨_, rfl⟩
  rw [← hH] at hP ⊢
  have hS : va_S A s.heap H [] := by rw [hH]; exact va_S.rf
  have hS := hS
  refine lv_aload_n hx hb (dt_of tkL_can_k0 0 rfl) rfl (lv_at hl 3 rfl) ?_
  refine lv_iconst (v := 0) hx hb (dt_of tkL_can_k0 1 rfl) (by decide) ?_
  refine lv_aload_n hx hb (dt_of tkL_can_k0 2 rfl) rfl (lv_at hl 0 rfl) ?_
  refine lv_iload_n hx hb (dt_of tkL_can_k0 3 rfl) rfl (lv_at hl 1 rfl) ?_
  refine lv_iload_n hx hb (dt_of tkL_can_k0 4 rfl) rfl (lv_at hl 2 rfl) ?_
  obtain ⟨hCc, hPc, hDc, hFc⟩ := va_pick (ws' := (wd01_28 a0 z0_tape a0_ground z0_spareGround a0_rule z0_spareRule z0_lines z0_spareLines z0_steps a0_now z0_trial z0_past z0_images z0_round z0_seating z0_fitting z0_imagesKept z0_refusedSteps v0_callsNoSuch z0_callsIllegal a0_ground a0_ground_formX a0_ground_formY z0_ground_foxX z0_ground_foxY z0_ground_seat z0_ground_strength z0_ground_debts z0_ground_near v0_ground_forms v0_ground_hares z0_ground_foxes z0_ground_safe a0_now a0_now_row z0_now_owedEach a0_ground a0_rule a0_now_row cyI f0_now_row a0_ground_formX cyI f0_ground_formX a0_ground_formY cyI f0_ground_formY a0_rule a0_rule_kinds a0_rule_values a0_rule_pile a0_rule_facts v0_rule_length a0_rule_facts cyI f0_rule_facts a0_rule_pile cyI f0_rule_pile a0_rule_kinds cyI f0_rule_kinds a0_rule_values cyI f0_rule_values)) hP hD hS hA [0, 1, 2, 3, 4, 5, 6, 7, 8, 9, 10] (by decide +kernel) rfl
  refine vx_calli (vx_runV (As := [.int p1, .int p2]) (rest := [.int 0, .ref a3]) ⟨hx, hb, hml, hown, hts⟩ (ck_X10_can l dC dI cyB cyI cyJ cyP a0 a0_ground a0_now a0_now_row a0_ground_formX a0_ground_formY a0_rule a0_rule_facts a0_rule_pile a0_rule_kinds a0_rule_values H.size (z0_tape) (z0_spareGround) (.ref a0_rule) (z0_spareRule) (z0_lines) (z0_spareLines) (z0_steps) (z0_trial) (z0_past) (z0_images) (z0_round) (z0_seating) (z0_fitting) (z0_imagesKept) (z0_refusedSteps) (z0_callsIllegal) (z0_ground_foxX) (z0_ground_foxY) (z0_ground_seat) (z0_ground_strength) (z0_ground_debts) (z0_ground_near) (z0_ground_foxes) (z0_ground_safe) (z0_now_owedEach) v0_ground_forms v0_ground_hares f0_now_row f0_ground_formX f0_ground_formY v0_rule_length f0_rule_kinds f0_rule_values v0_callsNoSuch f0_rule_facts f0_rule_pile p1 p2 hw) (cwV 2 hts gL_can_X10_can rfl rfl rfl (by decide +kernel) ⟨Nat.le_of_ble_eq_true rfl, Nat.le_of_ble_eq_true rfl⟩) ⟨cPx_blind, va_recv (q := (RX10, TX10, 19)) hK hPc (ci := 10) (q0 := 0) rfl rfl, cPx_pre hPc hK hDc hNw hY hS hFc⟩ rfl rfl hl.1 rfl (lv_room (Nat.le_of_ble_eq_true rfl)) (dt_of tkL_can_k0 5 rfl) ⟨Nat.le_of_ble_eq_true rfl, Nat.le_of_ble_eq_true rfl⟩) hS (fun q _ h => hFc q h) hFc (fun q _ h => hFc q h) (fun en ce qx9 u t H1 locs ht hvm hpx hB hz1 hk1 hS hc9 hv9 hcl9 => ?_) (fun r5 u t H1 locs ht hvm hw hB hz1 hk1 hS => ?_)
  · obtain ⟨x1, f2, f4⟩ := u
    obtain ⟨hw, hP1, hK1, hD1⟩ := hB
    rw [ht] at hP1
    obtain ⟨hP, hD⟩ := va_joinN (wr := [(a3, .inl (cyJ, n3, .inr (.inl f3)))]) (w1 := (wd01_28 a0 z0_tape a0_ground z0_spareGround a0_rule z0_spareRule z0_lines z0_spareLines z0_steps a0_now z0_trial z0_past z0_images z0_round z0_seating z0_fitting z0_imagesKept z0_refusedSteps x1 z0_callsIllegal a0_ground a0_ground_formX a0_ground_formY z0_ground_foxX z0_ground_foxY z0_ground_seat z0_ground_strength z0_ground_debts z0_ground_near v0_ground_forms v0_ground_hares z0_ground_foxes z0_ground_safe a0_now a0_now_row z0_now_owedEach a0_ground a0_rule a0_now_row cyI f0_now_row a0_ground_formX cyI f0_ground_formX a0_ground_formY cyI f0_ground_formY a0_rule a0_rule_kinds a0_rule_values a0_rule_pile a0_rule_facts v0_rule_length a0_rule_facts cyI f2 a0_rule_pile cyI f4 a0_rule_kinds cyI f0_rule_kinds a0_rule_values cyI f0_rule_values)) (wn := (wd01_27 a0 z0_tape a0_ground z0_spareGround a0_rule z0_spareRule z0_lines z0_spareLines z0_steps a0_now z0_trial z0_past z0_images z0_round z0_seating z0_fitting z0_imagesKept z0_refusedSteps x1 z0_callsIllegal a0_ground a0_ground_formX a0_ground_formY z0_ground_foxX z0_ground_foxY z0_ground_seat z0_ground_strength z0_ground_debts z0_ground_near v0_ground_forms v0_ground_hares z0_ground_foxes z0_ground_safe a0_now a0_now_row z0_now_owedEach a0_ground a0_rule a0_now_row cyI f0_now_row a0_ground_formX cyI f0_ground_formX a0_ground_formY cyI f0_ground_formY a0_rule a0_rule_kinds a0_rule_values a0_rule_pile a0_rule_facts v0_rule_length a0_rule_facts cyI f2 a0_rule_pile cyI f4 a0_rule_kinds cyI f0_rule_kinds a0_rule_values cyI f0_rule_values a3 cyJ n3 f3)) hP hD [0, 1, 2, 3, 4, 5, 6, 7, 8, 9, 10] [11] [1, 2, 3, 4, 5, 6, 7, 8, 9, 10, 11, 0] hCc rfl (by decide +kernel) (by decide +kernel) (by decide +kernel) rfl hk1 hFc hP1 hD1
    generalize H1 = H at hP hS hc9 ⊢
    obtain ⟨rfl, hw⟩ := hw
    refine vx_catch (own := RL) (name := "java/util/NoSuchElementException") hown [] ⟨0, 17, 20, 31⟩ [] (hTb.trans rfl) (fun z hz => nomatch hz) (by decide) (by decide) (hts _ uw_L_can_ct31) (va_Nw.use rfl (hY.2.2.2.1.2 _ (List.mem_of_getElem? (i := 1) rfl))) hc9 hv9 hcl9 ?_
    refine lv_astore (lv' := [(4, .ref qx9), (0, .ref a0), (1, .int p1), (2, .int p2), (3, .ref a3)]) hx hb (dt_of tkL_can_k0 12 rfl) hl (by decide) rfl (fun ls hl => ?_)
    refine lv_iconst (v := 1) hx hb (dt_of tkL_can_k0 13 rfl) (by decide) ?_
    exact (W.widen (k := 2) (n := 12) (Nat.le_of_ble_eq_true rfl) (Nat.le_of_ble_eq_true rfl) (W.iret (v := 1) hx hb hr (fun t ht hW => ⟨⟨1, (x1, f2, f4, f3), rfl, hw, by rw [ht]; exact hP, va_K.moved hW.alike hK, hD⟩, hS.F ht⟩) hS.2.2 (dt_of tkL_can_k0 14 rfl)))
  obtain ⟨x1, f2, f4⟩ := u
  obtain ⟨hP1, hK1, hD1⟩ := hB
  rw [ht] at hP1
  obtain ⟨hP, hD⟩ := va_join (wr := [(a3, .inl (cyJ, n3, .inr (.inl f3)))]) (w1 := (wd01_28 a0 z0_tape a0_ground z0_spareGround a0_rule z0_spareRule z0_lines z0_spareLines z0_steps a0_now z0_trial z0_past z0_images z0_round z0_seating z0_fitting z0_imagesKept z0_refusedSteps x1 z0_callsIllegal a0_ground a0_ground_formX a0_ground_formY z0_ground_foxX z0_ground_foxY z0_ground_seat z0_ground_strength z0_ground_debts z0_ground_near v0_ground_forms v0_ground_hares z0_ground_foxes z0_ground_safe a0_now a0_now_row z0_now_owedEach a0_ground a0_rule a0_now_row cyI f0_now_row a0_ground_formX cyI f0_ground_formX a0_ground_formY cyI f0_ground_formY a0_rule a0_rule_kinds a0_rule_values a0_rule_pile a0_rule_facts v0_rule_length a0_rule_facts cyI f2 a0_rule_pile cyI f4 a0_rule_kinds cyI f0_rule_kinds a0_rule_values cyI f0_rule_values)) hP hD [0, 1, 2, 3, 4, 5, 6, 7, 8, 9, 10] [11] rfl rfl (by decide) (by decide) hk1 hFc hP1 hD1
  have hP : va_P (dC, dI) vwCl (wd01_27 a0 z0_tape a0_ground z0_spareGround a0_rule z0_spareRule z0_lines z0_spareLines z0_steps a0_now z0_trial z0_past z0_images z0_round z0_seating z0_fitting z0_imagesKept z0_refusedSteps x1 z0_callsIllegal a0_ground a0_ground_formX a0_ground_formY z0_ground_foxX z0_ground_foxY z0_ground_seat z0_ground_strength z0_ground_debts z0_ground_near v0_ground_forms v0_ground_hares z0_ground_foxes z0_ground_safe a0_now a0_now_row z0_now_owedEach a0_ground a0_rule a0_now_row cyI f0_now_row a0_ground_formX cyI f0_ground_formX a0_ground_formY cyI f0_ground_formY a0_rule a0_rule_kinds a0_rule_values a0_rule_pile a0_rule_facts v0_rule_length a0_rule_facts cyI f2 a0_rule_pile cyI f4 a0_rule_kinds cyI f0_rule_kinds a0_rule_values cyI f0_rule_values a3 cyJ n3 f3) H1 := hP.sub [1, 2, 3, 4, 5, 6, 7, 8, 9, 10, 11, 0] rfl
  have hD : va_D A (wd01_27 a0 z0_tape a0_ground z0_spareGround a0_rule z0_spareRule z0_lines z0_spareLines z0_steps a0_now z0_trial z0_past z0_images z0_round z0_seating z0_fitting z0_imagesKept z0_refusedSteps x1 z0_callsIllegal a0_ground a0_ground_formX a0_ground_formY z0_ground_foxX z0_ground_foxY z0_ground_seat z0_ground_strength z0_ground_debts z0_ground_near v0_ground_forms v0_ground_hares z0_ground_foxes z0_ground_safe a0_now a0_now_row z0_now_owedEach a0_ground a0_rule a0_now_row cyI f0_now_row a0_ground_formX cyI f0_ground_formX a0_ground_formY cyI f0_ground_formY a0_rule a0_rule_kinds a0_rule_values a0_rule_pile a0_rule_facts v0_rule_length a0_rule_facts cyI f2 a0_rule_pile cyI f4 a0_rule_kinds cyI f0_rule_kinds a0_rule_values cyI f0_rule_values a3 cyJ n3 f3) := hD.sub [1, 2, 3, 4, 5, 6, 7, 8, 9, 10, 11, 0] (by decide) rfl
  generalize H1 = H at hP hS ⊢
  refine lv_if_eq (tgt := 15) hx hb (dt_of tkL_can_k0 6 rfl) (by decide) (fun c6 => ?_) (fun c6 => ?_)
  · have hw := hw.1 c6
    refine lv_lconst (v := 0) hx hb (dt_of tkL_can_k0 9 rfl) (by decide) ?_
    obtain ⟨hi9, hw⟩ := hw
    refine va_last hx hb hK hP hD hS 11 2 rfl rfl hi9 (dt_of tkL_can_k0 10 rfl) (fun H locs hP hD hS => ?_)
    obtain ⟨f7, ef7⟩ : ∃ y : Nat → Int64, y = vp_updL f3 (0 : Int32).toNatClampNeg 0 := ⟨_, rfl⟩
    have hw := hw f7 ef7
    have hP : va_P (dC, dI) vwCl (wd01_27 a0 z0_tape a0_ground z0_spareGround a0_rule z0_spareRule z0_lines z0_spareLines z0_steps a0_now z0_trial z0_past z0_images z0_round z0_seating z0_fitting z0_imagesKept z0_refusedSteps x1 z0_callsIllegal a0_ground a0_ground_formX a0_ground_formY z0_ground_foxX z0_ground_foxY z0_ground_seat z0_ground_strength z0_ground_debts z0_ground_near v0_ground_forms v0_ground_hares z0_ground_foxes z0_ground_safe a0_now a0_now_row z0_now_owedEach a0_ground a0_rule a0_now_row cyI f0_now_row a0_ground_formX cyI f0_ground_formX a0_ground_formY cyI f0_ground_formY a0_rule a0_rule_kinds a0_rule_values a0_rule_pile a0_rule_facts v0_rule_length a0_rule_facts cyI f2 a0_rule_pile cyI f4 a0_rule_kinds cyI f0_rule_kinds a0_rule_values cyI f0_rule_values a3 cyJ n3 f7) H := by rw [ef7]; exact hP
    have hD : va_D A (wd01_27 a0 z0_tape a0_ground z0_spareGround a0_rule z0_spareRule z0_lines z0_spareLines z0_steps a0_now z0_trial z0_past z0_images z0_round z0_seating z0_fitting z0_imagesKept z0_refusedSteps x1 z0_callsIllegal a0_ground a0_ground_formX a0_ground_formY z0_ground_foxX z0_ground_foxY z0_ground_seat z0_ground_strength z0_ground_debts z0_ground_near v0_ground_forms v0_ground_hares z0_ground_foxes z0_ground_safe a0_now a0_now_row z0_now_owedEach a0_ground a0_rule a0_now_row cyI f0_now_row a0_ground_formX cyI f0_ground_formX a0_ground_formY cyI f0_ground_formY a0_rule a0_rule_kinds a0_rule_values a0_rule_pile a0_rule_facts v0_rule_length a0_rule_facts cyI f2 a0_rule_pile cyI f4 a0_rule_kinds cyI f0_rule_kinds a0_rule_values cyI f0_rule_values a3 cyJ n3 f7) := by rw [ef7]; exact hD
    refine lv_goto (tgt := 24) hx hb (dt_of tkL_can_k0 11 rfl) (by decide) ?_
    refine lv_iconst (v := 0) hx hb (dt_of tkL_can_k0 15 rfl) (by decide) ?_
    exact (W.widen (k := 2) (n := 12) (Nat.le_of_ble_eq_true rfl) (Nat.le_of_ble_eq_true rfl) (W.iret (v := 0) hx hb hr (fun t ht hW => ⟨⟨0, (x1, f2, f4, f7), rfl, hw, by rw [ht]; exact hP, va_K.moved hW.alike hK, hD⟩, hS.F ht⟩) hS.2.2 (dt_of tkL_can_k25 0 rfl)))
  · have hw := hw.2 c6
    refine lv_lconst (v := 1) hx hb (dt_of tkL_can_k0 7 rfl) (by decide) ?_
    refine lv_goto (tgt := 16) hx hb (dt_of tkL_can_k0 8 rfl) (by decide) ?_
    obtain ⟨hi9, hw⟩ := hw
    refine va_last hx hb hK hP hD hS 11 2 rfl rfl hi9 (dt_of tkL_can_k0 10 rfl) (fun H locs hP hD hS => ?_)
    obtain ⟨f8, ef8⟩ : ∃ y : Nat → Int64, y = vp_updL f3 (0 : Int32).toNatClampNeg 1 := ⟨_, rfl⟩
    have hw := hw f8 ef8
    have hP : va_P (dC, dI) vwCl (wd01_27 a0 z0_tape a0_ground z0_spareGround a0_rule z0_spareRule z0_lines z0_spareLines z0_steps a0_now z0_trial z0_past z0_images z0_round z0_seating z0_fitting z0_imagesKept z0_refusedSteps x1 z0_callsIllegal a0_ground a0_ground_formX a0_ground_formY z0_ground_foxX z0_ground_foxY z0_ground_seat z0_ground_strength z0_ground_debts z0_ground_near v0_ground_forms v0_ground_hares z0_ground_foxes z0_ground_safe a0_now a0_now_row z0_now_owedEach a0_ground a0_rule a0_now_row cyI f0_now_row a0_ground_formX cyI f0_ground_formX a0_ground_formY cyI f0_ground_formY a0_rule a0_rule_kinds a0_rule_values a0_rule_pile a0_rule_facts v0_rule_length a0_rule_facts cyI f2 a0_rule_pile cyI f4 a0_rule_kinds cyI f0_rule_kinds a0_rule_values cyI f0_rule_values a3 cyJ n3 f8) H := by rw [ef8]; exact hP
    have hD : va_D A (wd01_27 a0 z0_tape a0_ground z0_spareGround a0_rule z0_spareRule z0_lines z0_spareLines z0_steps a0_now z0_trial z0_past z0_images z0_round z0_seating z0_fitting z0_imagesKept z0_refusedSteps x1 z0_callsIllegal a0_ground a0_ground_formX a0_ground_formY z0_ground_foxX z0_ground_foxY z0_ground_seat z0_ground_strength z0_ground_debts z0_ground_near v0_ground_forms v0_ground_hares z0_ground_foxes z0_ground_safe a0_now a0_now_row z0_now_owedEach a0_ground a0_rule a0_now_row cyI f0_now_row a0_ground_formX cyI f0_ground_formX a0_ground_formY cyI f0_ground_formY a0_rule a0_rule_kinds a0_rule_values a0_rule_pile a0_rule_facts v0_rule_length a0_rule_facts cyI f2 a0_rule_pile cyI f4 a0_rule_kinds cyI f0_rule_kinds a0_rule_values cyI f0_rule_values a3 cyJ n3 f8) := by rw [ef8]; exact hD
    refine lv_goto (tgt := 24) hx hb (dt_of tkL_can_k0 11 rfl) (by decide) ?_
    refine lv_iconst (v := 0) hx hb (dt_of tkL_can_k0 15 rfl) (by decide) ?_
    exact (W.widen (k := 2) (n := 12) (Nat.le_of_ble_eq_true rfl) (Nat.le_of_ble_eq_true rfl) (W.iret (v := 0) hx hb hr (fun t ht hW => ⟨⟨0, (x1, f2, f4, f8), rfl, hw, by rw [ht]; exact hP, va_K.moved hW.alike hK, hD⟩, hS.F ht⟩) hS.2.2 (dt_of tkL_can_k25 0 rfl)))
theorem ui_X1_givenBy_X1 : ∀ w ∈ u_ws RX1 TX1 4, w ∈ wsX1_givenBy := uiM mbX1_givenBy euX1 (by decide +kernel)
theorem ui_X1_givenBy_X2 : ∀ w ∈ u_ws RX2 TX2 12, w ∈ wsX1_givenBy := uiM mbX1_givenBy euX2 (by decide +kernel)
theorem uw_X1_givenBy_f17 : (.fieldLink RX1 17 "MarchHares$Days" "owedEach" "[I" : Cond) ∈ wsX1_givenBy := mbX1_givenBy 277 (by decide +kernel)
theorem uw_X1_givenBy_f24 : (.fieldLink RX1 24 "MarchHares$Days" "down" "LMarchHares$Down;" : Cond) ∈ wsX1_givenBy := mbX1_givenBy 322 (by decide +kernel)
theorem uw_X1_givenBy_f32 : (.fieldLink RX1 32 "MarchHares$Down" "hares" "I" : Cond) ∈ wsX1_givenBy := mbX1_givenBy 324 (by decide +kernel)
theorem uw_X1_givenBy_inim : (.initialized "java/lang/Math" : Cond) ∈ wsX1_givenBy := mbX1_givenBy 651 (by decide +kernel)
theorem uw_X1_givenBy_m171 : (.methodLink RX1 171 Lib.Math.min.name : Cond) ∈ wsX1_givenBy := mbX1_givenBy 3848 (by decide +kernel)
theorem uw_X1_givenBy_mcmin : (.code Lib.Math.min.name Lib.Math.min.code 2 (some .int) : Cond) ∈ wsX1_givenBy := mbX1_givenBy 652 (by decide +kernel)
theorem uw_X1_givenBy_msmin : (.static Lib.Math.min.name : Cond) ∈ wsX1_givenBy := mbX1_givenBy 650 (by decide +kernel)
set_option maxHeartbeats 4000000 in
set_option maxRecDepth 100000 in
theorem kl_X1_givenBy_4 {p : Program} {l : Launch} {e : Env} {s : State} {m : MethodId} {args : Array Value} {below : List Frame} {meth : Method} {c : Code} {A : Nat → Prop} (dC : Nat → ClassId) (dI : Nat → Nat → Nat) (cyB cyI cyJ cyP : ClassId) (a0 a0_down a0_owedEach : Nat) (z0_row : Value) (z0_law : Value) (z0_down_formX : Value) (z0_down_formY : Value) (z0_down_foxX : Value) (z0_down_foxY : Value) (z0_down_seat : Value) (z0_down_strength : Value) (z0_down_debts : Value) (z0_down_near : Value) (z0_down_forms : Value) (z0_down_foxes : Value) (z0_down_safe : Value) (v0_down_hares : Int32) (f0_owedEach : Nat → Int32) (Q : Int32 → Prop)  (C0 : cfx p s m args meth c cX1_givenBy (some .int) wsX1_givenBy RX1 4 A (dC, dI) (kT cyB cyI cyJ cyP)) : ∀ (n : Nat) (H : Heap) (locs : List Loc) (ls : Array Slot) (l1 : Int32) (l2 : Int32) (l3 : Int32), va_P (dC, dI) vwCl (wd01_29 a0 z0_row a0_owedEach a0_down z0_law a0_down z0_down_formX z0_down_formY z0_down_foxX z0_down_foxY z0_down_seat z0_down_strength z0_down_debts z0_down_near z0_down_forms v0_down_hares z0_down_foxes z0_down_safe a0_owedEach cyI f0_owedEach) H → va_D A (wd01_29 a0 z0_row a0_owedEach a0_down z0_law a0_down z0_down_formX z0_down_formY z0_down_foxX z0_down_foxY z0_down_seat z0_down_strength z0_down_debts z0_down_near z0_down_forms v0_down_hares z0_down_foxes z0_down_safe a0_owedEach cyI f0_owedEach) → va_S A s.heap H locs → lv_has ls 4 [(0, .ref a0), (1, .int l1), (2, .int l2), (3, .int l3)] → wl_X1_givenBy_4 v0_down_hares f0_owedEach Q  n l1 l2 l3 → W p l e (headSpec wsX1_givenBy ({ frames := 1, cells := 0, slots := 0, locals := 32 })).room s m args below meth c H locs 0 0 (MQ below (va_Qi (fun (r : Int32) (_ : Unit) => Q r ) (cB (dC, dI) (kT cyB cyI cyJ cyP) A (fun u : Unit => ((wd01_29 a0 z0_row a0_owedEach a0_down z0_law a0_down z0_down_formX z0_down_formY z0_down_foxX z0_down_foxY z0_down_seat z0_down_strength z0_down_debts z0_down_near z0_down_forms v0_down_hares z0_down_foxes z0_down_safe a0_owedEach cyI f0_owedEach) : va_W))) A) args s 0 0 A) (F0 m 4 ls []) := by
  obtain ⟨hx, hb, hr, hts, hown, hlocks, hml, hA, hK, hNw⟩ := id C0
  intro n
  induction n with
  | zero => intro H locs ls l1 l2 l3 hP hD hS hl hw; exact False.elim hw
  | succ n ih =>
    intro H locs ls l1 l2 l3 hP hD hS hl hw
    refine lv_iload_n hx hb (dt_of tkX1_givenBy_k0 4 rfl) rfl (lv_at hl 3 rfl) ?_
    refine lv_aload_n hx hb (dt_of tkX1_givenBy_k0 5 rfl) rfl (lv_at hl 0 rfl) ?_
    refine va_get (D := (dC, dI)) (ci := 1) (v := .ref a0_down) (C := RX1) (T := TX1) (N := 4) hx hb hts ui_X1_givenBy_X1 hown hK hP 0 rfl rfl 2 (by decide) (hts _ uw_X1_givenBy_f24) (fun _ h9 => h9) rfl (dt_of tkX1_givenBy_k0 6 rfl) ?_
    refine va_get (D := (dC, dI)) (ci := 2) (v := .int v0_down_hares) (C := RX2) (T := TX2) (N := 12) hx hb hts ui_X1_givenBy_X2 hown hK hP 1 rfl rfl 9 (by decide) (hts _ uw_X1_givenBy_f32) (fun _ h9 => h9) rfl (dt_of tkX1_givenBy_k0 7 rfl) ?_
    refine lv_icmp_ge (tgt := 34) hx hb (dt_of tkX1_givenBy_k0 8 rfl) (by decide) (fun c1 => ?_) (fun c1 => ?_)
    · have hw := hw.1 c1
      refine lv_iload_n hx hb (dt_of tkX1_givenBy_k26 4 rfl) rfl (lv_at hl 2 rfl) ?_
      exact ((W.iret (v := l2) hx hb hr (fun t ht hW => ⟨⟨l2, (), rfl, hw, by rw [ht]; exact hP, va_K.moved hW.alike hK, hD⟩, hS.F ht⟩) hS.2.2 (dt_of tkX1_givenBy_k26 5 rfl)))
    · have hw := hw.2 c1
      refine lv_iload_n hx hb (dt_of tkX1_givenBy_k0 9 rfl) rfl (lv_at hl 2 rfl) ?_
      refine lv_iload_n hx hb (dt_of tkX1_givenBy_k0 10 rfl) rfl (lv_at hl 1 rfl) ?_
      refine lv_aload_n hx hb (dt_of tkX1_givenBy_k0 11 rfl) rfl (lv_at hl 0 rfl) ?_
      refine va_get (D := (dC, dI)) (ci := 1) (v := .ref a0_owedEach) (C := RX1) (T := TX1) (N := 4) hx hb hts ui_X1_givenBy_X1 hown hK hP 0 rfl rfl 1 (by decide) (hts _ uw_X1_givenBy_f17) (fun _ h9 => h9) rfl (dt_of tkX1_givenBy_k0 12 rfl) ?_
      refine lv_iload_n hx hb (dt_of tkX1_givenBy_k0 13 rfl) rfl (lv_at hl 3 rfl) ?_
      obtain ⟨hi9, hw⟩ := hw
      refine va_iald hx hb hK hP 2 1 rfl rfl hi9 (dt_of tkX1_givenBy_k0 14 rfl) ?_
      refine lv_topi (fun x2 ex2 => ?_)
      have hw := hw x2 ex2
      refine va_mmin hx hb (by rw [hml]; exact hl.1.symm) hown (hts _ uw_X1_givenBy_m171) (hts _ uw_X1_givenBy_msmin) (hts _ uw_X1_givenBy_inim) (hts _ uw_X1_givenBy_mcmin) (Nat.le_of_ble_eq_true rfl) (Nat.le_of_ble_eq_true rfl) (Nat.le_of_ble_eq_true rfl) (Nat.le_of_ble_eq_true rfl) (dt_of tkX1_givenBy_k0 15 rfl) ?_
      refine lv_topi (fun x3 ex3 => ?_)
      have hw := hw x3 ex3
      refine lv_iadd hx hb (dt_of tkX1_givenBy_k26 0 rfl) ?_
      refine lv_topi (fun x4 ex4 => ?_)
      have hw := hw x4 ex4
      refine lv_istore_n (lv' := [(2, .int x4), (0, .ref a0), (1, .int l1), (3, .int l3)]) hx hb (dt_of tkX1_givenBy_k26 1 rfl) rfl hl (by decide) rfl (fun ls hl => ?_)
      obtain ⟨x5, ex5⟩ : ∃ y : Int32, y = l3 + 1 := ⟨_, rfl⟩
      have hw := hw x5 ex5
      refine lv_iinc (v := x5) (lv' := [(3, .int x5), (2, .int x4), (0, .ref a0), (1, .int l1)]) hx hb (dt_of tkX1_givenBy_k26 2 rfl) hl (k := 3) rfl (by rw [ex5]; rfl) (by decide) rfl (fun ls hl => ?_)
      refine lv_goto (tgt := 4) hx hb (dt_of tkX1_givenBy_k26 3 rfl) (by decide) ?_
      exact ih _ _ _ l1 x4 x5 hP hD hS (lv_sub hl [2, 3, 1, 0] rfl) hw
set_option maxHeartbeats 4000000 in
set_option maxRecDepth 100000 in
theorem ck_X1_givenBy (l : Launch) (dC : Nat → ClassId) (dI : Nat → Nat → Nat) (cyB cyI cyJ cyP : ClassId) (a0 a0_down a0_owedEach : Nat) (sz : Nat) (z0_row : Value) (z0_law : Value) (z0_down_formX : Value) (z0_down_formY : Value) (z0_down_foxX : Value) (z0_down_foxY : Value) (z0_down_seat : Value) (z0_down_strength : Value) (z0_down_debts : Value) (z0_down_near : Value) (z0_down_forms : Value) (z0_down_foxes : Value) (z0_down_safe : Value) (v0_down_hares : Int32) (f0_owedEach : Nat → Int32)  (p1 : Int32) {Q : Int32 → Prop} (hw : wq_X1_givenBy v0_down_hares f0_owedEach  p1 Q) : Met l yX1_givenBy wsX1_givenBy ({ frames := 1, cells := 0, slots := 0, locals := 32 }) (va_Pc [.ref a0, .int p1] (cPc (dC, dI) (kT cyB cyI cyJ cyP) (wd01_29 a0 z0_row a0_owedEach a0_down z0_law a0_down z0_down_formX z0_down_formY z0_down_foxX z0_down_foxY z0_down_seat z0_down_strength z0_down_debts z0_down_near z0_down_forms v0_down_hares z0_down_foxes z0_down_safe a0_owedEach cyI f0_owedEach) sz)) (va_Qi (fun (r : Int32) (_ : Unit) => Q r ) (cB (dC, dI) (kT cyB cyI cyJ cyP) (va_A (wd01_29 a0 z0_row a0_owedEach a0_down z0_law a0_down z0_down_formX z0_down_formY z0_down_foxX z0_down_foxY z0_down_seat z0_down_strength z0_down_debts z0_down_near z0_down_forms v0_down_hares z0_down_foxes z0_down_safe a0_owedEach cyI f0_owedEach) sz) (fun u : Unit => ((wd01_29 a0 z0_row a0_owedEach a0_down z0_law a0_down z0_down_formX z0_down_formY z0_down_foxX z0_down_foxY z0_down_seat z0_down_strength z0_down_debts z0_down_near z0_down_forms v0_down_hares z0_down_foxes z0_down_safe a0_owedEach cyI f0_owedEach) : va_W))) (va_A (wd01_29 a0 z0_row a0_owedEach a0_down z0_law a0_down z0_down_formX z0_down_formY z0_down_foxX z0_down_foxY z0_down_seat z0_down_strength z0_down_debts z0_down_near z0_down_forms v0_down_hares z0_down_foxes z0_down_safe a0_owedEach cyI f0_owedEach) sz)) 0 0 (va_A (wd01_29 a0 z0_row a0_owedEach a0_down z0_law a0_down z0_down_formX z0_down_formY z0_down_foxX z0_down_foxY z0_down_seat z0_down_strength z0_down_debts z0_down_near z0_down_forms v0_down_hares z0_down_foxes z0_down_safe a0_owedEach cyI f0_owedEach) sz) := by
  refine Met.ofW (cc := cX1_givenBy) (maxL := 4) (ret := (some .int)) (by decide) rfl ?_
  intro p e s m args below meth c s₁ B hml hv
  obtain ⟨rfl, hsz, hP, hK, hD0, hNw⟩ := hv
  have hx := B.exec
  have hb := B.bytes
  have hr := B.returns
  have hts := atoms_spec (ws := wsX1_givenBy) B.pre
  have hown : s.vm.findClass RX1 = some m.cls := findClass_of_methodNamed B.named
  have hlocks := B.notSynchronized
  subst hsz
  have hD := hD0.self (sz := s.heap.size)
  generalize hAe : va_A (wd01_29 a0 z0_row a0_owedEach a0_down z0_law a0_down z0_down_formX z0_down_formY z0_down_foxX z0_down_foxY z0_down_seat z0_down_strength z0_down_debts z0_down_near z0_down_forms v0_down_hares z0_down_foxes z0_down_safe a0_owedEach cyI f0_owedEach) s.heap.size = A at hD ⊢
  have hA : ∀ q : Nat, s.heap.size ≤ q → A q := fun q h => by rw [← hAe]; exact Or.inr h
  have hS : va_S A s.heap s.heap [] := va_S.rf
  have hP : va_P (dC, dI) vwCl (wd01_29 a0 z0_row a0_owedEach a0_down z0_law a0_down z0_down_formX z0_down_formY z0_down_foxX z0_down_foxY z0_down_seat z0_down_strength z0_down_debts z0_down_near z0_down_forms v0_down_hares z0_down_foxes z0_down_safe a0_owedEach cyI f0_owedEach) s.heap := hP
  have hl := lv_entry ([.ref a0, .int p1]) (n := 4) (Nat.le_of_ble_eq_true rfl)
  rw [lg_entry_eq]
  generalize (lg_sl ([.ref a0, .int p1]) ++ List.replicate (4 - (lg_sl ([.ref a0, .int p1])).length) Slot.unset).toArray = ls at hl ⊢
  have hl : lv_has ls 4 [(0, .ref a0), (1, .int p1)] := hl
  have C0 : cfx p s m _ meth c cX1_givenBy (some .int) wsX1_givenBy RX1 4 A (dC, dI) (kT cyB cyI cyJ cyP) := ⟨hx, hb, hr, hts, hown, hlocks, hml, hA, hK, hNw⟩
  clear hAe
  obtain ⟨H, hH⟩ : ∃ H, H = s.heap := ⟨_, rfl⟩
  rw [← hH] at hP ⊢
  have hS : va_S A s.heap H [] := by rw [hH]; exact va_S.rf
  have hS := hS
  refine lv_iconst (v := 0) hx hb (dt_of tkX1_givenBy_k0 0 rfl) (by decide) ?_
  refine lv_istore_n (lv' := [(2, .int 0), (0, .ref a0), (1, .int p1)]) hx hb (dt_of tkX1_givenBy_k0 1 rfl) rfl hl (by decide) rfl (fun ls hl => ?_)
  refine lv_iconst (v := 0) hx hb (dt_of tkX1_givenBy_k0 2 rfl) (by decide) ?_
  refine lv_istore_n (lv' := [(3, .int 0), (2, .int 0), (0, .ref a0), (1, .int p1)]) hx hb (dt_of tkX1_givenBy_k0 3 rfl) rfl hl (by decide) rfl (fun ls hl => ?_)
  obtain ⟨n9, hw⟩ := hw
  exact kl_X1_givenBy_4 dC dI cyB cyI cyJ cyP a0 a0_down a0_owedEach z0_row z0_law z0_down_formX z0_down_formY z0_down_foxX z0_down_foxY z0_down_seat z0_down_strength z0_down_debts z0_down_near z0_down_forms z0_down_foxes z0_down_safe v0_down_hares f0_owedEach Q  C0 n9 _ _ _ p1 0 0 hP hD hS (lv_sub hl [2, 3, 1, 0] rfl) hw
theorem ui_X1_cloverFor_X1 : ∀ w ∈ u_ws RX1 TX1 4, w ∈ wsX1_cloverFor := uiM mbX1_cloverFor euX1 (by decide +kernel)
theorem ui_X1_cloverFor_X2 : ∀ w ∈ u_ws RX2 TX2 12, w ∈ wsX1_cloverFor := uiM mbX1_cloverFor euX2 (by decide +kernel)
theorem uw_X1_cloverFor_f17 : (.fieldLink RX1 17 "MarchHares$Days" "owedEach" "[I" : Cond) ∈ wsX1_cloverFor := mbX1_cloverFor 277 (by decide +kernel)
theorem uw_X1_cloverFor_f24 : (.fieldLink RX1 24 "MarchHares$Days" "down" "LMarchHares$Down;" : Cond) ∈ wsX1_cloverFor := mbX1_cloverFor 322 (by decide +kernel)
theorem uw_X1_cloverFor_f32 : (.fieldLink RX1 32 "MarchHares$Down" "hares" "I" : Cond) ∈ wsX1_cloverFor := mbX1_cloverFor 324 (by decide +kernel)
theorem uw_X1_cloverFor_iniRX10 : (.initialized RX10 : Cond) ∈ wsX1_cloverFor := mbX1_cloverFor 2 (by decide +kernel)
theorem uw_X1_cloverFor_inim : (.initialized "java/lang/Math" : Cond) ∈ wsX1_cloverFor := mbX1_cloverFor 651 (by decide +kernel)
theorem uw_X1_cloverFor_m171 : (.methodLink RX1 171 Lib.Math.min.name : Cond) ∈ wsX1_cloverFor := mbX1_cloverFor 3848 (by decide +kernel)
theorem uw_X1_cloverFor_mcmin : (.code Lib.Math.min.name Lib.Math.min.code 2 (some .int) : Cond) ∈ wsX1_cloverFor := mbX1_cloverFor 652 (by decide +kernel)
theorem uw_X1_cloverFor_msmin : (.static Lib.Math.min.name : Cond) ∈ wsX1_cloverFor := mbX1_cloverFor 650 (by decide +kernel)
theorem uw_X1_cloverFor_stX10_holds : (.static yX10_holds : Cond) ∈ wsX1_cloverFor := mbX1_cloverFor 2052 (by decide +kernel)
set_option maxHeartbeats 4000000 in
set_option maxRecDepth 100000 in
theorem kb_X1_cloverFor_40 {p : Program} {l : Launch} {e : Env} {s : State} {m : MethodId} {args : Array Value} {below : List Frame} {meth : Method} {c : Code} {A : Nat → Prop} (dC : Nat → ClassId) (dI : Nat → Nat → Nat) (cyB cyI cyJ cyP : ClassId) (a0 a0_down a0_owedEach a0_row : Nat) (z0_law : Value) (z0_down_formX : Value) (z0_down_formY : Value) (z0_down_foxX : Value) (z0_down_foxY : Value) (z0_down_seat : Value) (z0_down_strength : Value) (z0_down_debts : Value) (z0_down_near : Value) (z0_down_forms : Value) (z0_down_foxes : Value) (z0_down_safe : Value) (v0_down_hares : Int32) (f0_row : Nat → Int32) (Q : Int32 → (Nat → Int32) → Prop) (K3 : (Nat → Int32) → Int32 → Int32 → Int32 → Int32 → Prop) (hK3 : ∀ (H : Heap) (locs : List Loc) (ls : Array Slot) (f0_owedEach : Nat → Int32) (l1 : Int32) (l2 : Int32) (l3 : Int32) (l4 : Int32), va_P (dC, dI) vwCl (wd01_30 a0 a0_row a0_owedEach a0_down z0_law a0_down z0_down_formX z0_down_formY z0_down_foxX z0_down_foxY z0_down_seat z0_down_strength z0_down_debts z0_down_near z0_down_forms v0_down_hares z0_down_foxes z0_down_safe a0_row cyI f0_row a0_owedEach cyI f0_owedEach) H → va_D A (wd01_30 a0 a0_row a0_owedEach a0_down z0_law a0_down z0_down_formX z0_down_formY z0_down_foxX z0_down_foxY z0_down_seat z0_down_strength z0_down_debts z0_down_near z0_down_forms v0_down_hares z0_down_foxes z0_down_safe a0_row cyI f0_row a0_owedEach cyI f0_owedEach) → va_S A s.heap H locs → lv_has ls 5 [(0, .ref a0), (1, .int l1), (2, .int l2), (3, .int l3), (4, .int l4)] → K3 f0_owedEach l1 l2 l3 l4 → W p l e (headSpec wsX1_cloverFor ({ frames := 2, cells := 0, slots := 0, locals := 55 })).room s m args below meth c H locs 0 0 (MQ below (va_Qi (fun (r : Int32) (u : (Nat → Int32)) => Q r u) (cB (dC, dI) (kT cyB cyI cyJ cyP) A (fun u : (Nat → Int32) => ((wd01_30 a0 a0_row a0_owedEach a0_down z0_law a0_down z0_down_formX z0_down_formY z0_down_foxX z0_down_foxY z0_down_seat z0_down_strength z0_down_debts z0_down_near z0_down_forms v0_down_hares z0_down_foxes z0_down_safe a0_row cyI f0_row a0_owedEach cyI u) : va_W))) A) args s 0 0 A) (F0 m 3 ls [])) (C0 : cfx p s m args meth c cX1_cloverFor (some .int) wsX1_cloverFor RX1 5 A (dC, dI) (kT cyB cyI cyJ cyP)) : ∀ (H : Heap) (locs : List Loc) (ls : Array Slot) (f0_owedEach : Nat → Int32) (l1 : Int32) (l2 : Int32) (l3 : Int32) (l4 : Int32) (s1 : Int32) (s2 : Int32), va_P (dC, dI) vwCl (wd01_30 a0 a0_row a0_owedEach a0_down z0_law a0_down z0_down_formX z0_down_formY z0_down_foxX z0_down_foxY z0_down_seat z0_down_strength z0_down_debts z0_down_near z0_down_forms v0_down_hares z0_down_foxes z0_down_safe a0_row cyI f0_row a0_owedEach cyI f0_owedEach) H → va_D A (wd01_30 a0 a0_row a0_owedEach a0_down z0_law a0_down z0_down_formX z0_down_formY z0_down_foxX z0_down_foxY z0_down_seat z0_down_strength z0_down_debts z0_down_near z0_down_forms v0_down_hares z0_down_foxes z0_down_safe a0_row cyI f0_row a0_owedEach cyI f0_owedEach) → va_S A s.heap H locs → lv_has ls 5 [(0, .ref a0), (1, .int l1), (2, .int l2), (3, .int l3), (4, .int l4)] → wb_X1_cloverFor_40 v0_down_hares f0_row Q K3 f0_owedEach l1 l2 l3 l4 s1 s2 → W p l e (headSpec wsX1_cloverFor ({ frames := 2, cells := 0, slots := 0, locals := 55 })).room s m args below meth c H locs 0 0 (MQ below (va_Qi (fun (r : Int32) (u : (Nat → Int32)) => Q r u) (cB (dC, dI) (kT cyB cyI cyJ cyP) A (fun u : (Nat → Int32) => ((wd01_30 a0 a0_row a0_owedEach a0_down z0_law a0_down z0_down_formX z0_down_formY z0_down_foxX z0_down_foxY z0_down_seat z0_down_strength z0_down_debts z0_down_near z0_down_forms v0_down_hares z0_down_foxes z0_down_safe a0_row cyI f0_row a0_owedEach cyI u) : va_W))) A) args s 0 0 A) (F0 m 40 ls [.int s2, .int s1, .ref a0_owedEach]) := by
  obtain ⟨hx, hb, hr, hts, hown, hlocks, hml, hA, hK, hNw⟩ := id C0
  intro H locs ls f0_owedEach l1 l2 l3 l4 s1 s2 hP hD hS hl hw
  obtain ⟨hi9, hw⟩ := hw
  refine va_iast hx hb hK hP hD hS 3 1 rfl rfl hi9 (dt_of tkX1_cloverFor_k33 3 rfl) (fun H locs hP hD hS => ?_)
  obtain ⟨f10, ef10⟩ : ∃ y : Nat → Int32, y = upd f0_owedEach s1.toNatClampNeg s2 := ⟨_, rfl⟩
  have hw := hw f10 ef10
  have hP : va_P (dC, dI) vwCl (wd01_30 a0 a0_row a0_owedEach a0_down z0_law a0_down z0_down_formX z0_down_formY z0_down_foxX z0_down_foxY z0_down_seat z0_down_strength z0_down_debts z0_down_near z0_down_forms v0_down_hares z0_down_foxes z0_down_safe a0_row cyI f0_row a0_owedEach cyI f10) H := by rw [ef10]; exact hP
  have hD : va_D A (wd01_30 a0 a0_row a0_owedEach a0_down z0_law a0_down z0_down_formX z0_down_formY z0_down_foxX z0_down_foxY z0_down_seat z0_down_strength z0_down_debts z0_down_near z0_down_forms v0_down_hares z0_down_foxes z0_down_safe a0_row cyI f0_row a0_owedEach cyI f10) := by rw [ef10]; exact hD
  obtain ⟨x11, ex11⟩ : ∃ y : Int32, y = l4 + 1 := ⟨_, rfl⟩
  have hw := hw x11 ex11
  refine lv_iinc (v := x11) (lv' := [(4, .int x11), (0, .ref a0), (1, .int l1), (2, .int l2), (3, .int l3)]) hx hb (dt_of tkX1_cloverFor_k33 4 rfl) hl (k := 4) rfl (by rw [ex11]; rfl) (by decide) rfl (fun ls hl => ?_)
  refine lv_goto (tgt := 3) hx hb (dt_of tkX1_cloverFor_k33 5 rfl) (by decide) ?_
  exact hK3 _ _ _ f10 l1 l2 l3 x11 hP hD hS (lv_sub hl [1, 2, 3, 4, 0] rfl) hw
set_option maxHeartbeats 4000000 in
set_option maxRecDepth 100000 in
theorem kb_X1_cloverFor_76 {p : Program} {l : Launch} {e : Env} {s : State} {m : MethodId} {args : Array Value} {below : List Frame} {meth : Method} {c : Code} {A : Nat → Prop} (dC : Nat → ClassId) (dI : Nat → Nat → Nat) (cyB cyI cyJ cyP : ClassId) (a0 a0_down a0_owedEach a0_row : Nat) (z0_law : Value) (z0_down_formX : Value) (z0_down_formY : Value) (z0_down_foxX : Value) (z0_down_foxY : Value) (z0_down_seat : Value) (z0_down_strength : Value) (z0_down_debts : Value) (z0_down_near : Value) (z0_down_forms : Value) (z0_down_foxes : Value) (z0_down_safe : Value) (v0_down_hares : Int32) (f0_row : Nat → Int32) (Q : Int32 → (Nat → Int32) → Prop)  (C0 : cfx p s m args meth c cX1_cloverFor (some .int) wsX1_cloverFor RX1 5 A (dC, dI) (kT cyB cyI cyJ cyP)) : ∀ (H : Heap) (locs : List Loc) (ls : Array Slot) (f0_owedEach : Nat → Int32) (l1 : Int32) (l4 : Int32), va_P (dC, dI) vwCl (wd01_30 a0 a0_row a0_owedEach a0_down z0_law a0_down z0_down_formX z0_down_formY z0_down_foxX z0_down_foxY z0_down_seat z0_down_strength z0_down_debts z0_down_near z0_down_forms v0_down_hares z0_down_foxes z0_down_safe a0_row cyI f0_row a0_owedEach cyI f0_owedEach) H → va_D A (wd01_30 a0 a0_row a0_owedEach a0_down z0_law a0_down z0_down_formX z0_down_formY z0_down_foxX z0_down_foxY z0_down_seat z0_down_strength z0_down_debts z0_down_near z0_down_forms v0_down_hares z0_down_foxes z0_down_safe a0_row cyI f0_row a0_owedEach cyI f0_owedEach) → va_S A s.heap H locs → lv_has ls 5 [(0, .ref a0), (1, .int l1), (4, .int l4)] → wb_X1_cloverFor_76 v0_down_hares f0_row Q  f0_owedEach l1 l4 → W p l e (headSpec wsX1_cloverFor ({ frames := 2, cells := 0, slots := 0, locals := 55 })).room s m args below meth c H locs 0 0 (MQ below (va_Qi (fun (r : Int32) (u : (Nat → Int32)) => Q r u) (cB (dC, dI) (kT cyB cyI cyJ cyP) A (fun u : (Nat → Int32) => ((wd01_30 a0 a0_row a0_owedEach a0_down z0_law a0_down z0_down_formX z0_down_formY z0_down_foxX z0_down_foxY z0_down_seat z0_down_strength z0_down_debts z0_down_near z0_down_forms v0_down_hares z0_down_foxes z0_down_safe a0_row cyI f0_row a0_owedEach cyI u) : va_W))) A) args s 0 0 A) (F0 m 76 ls []) := by
  obtain ⟨hx, hb, hr, hts, hown, hlocks, hml, hA, hK, hNw⟩ := id C0
  intro H locs ls f0_owedEach l1 l4 hP hD hS hl hw
  refine lv_iload hx hb (dt_of tkX1_cloverFor_k66 4 rfl) (lv_at hl 2 rfl) ?_
  refine lv_aload_n hx hb (dt_of tkX1_cloverFor_k66 5 rfl) rfl (lv_at hl 0 rfl) ?_
  refine va_get (D := (dC, dI)) (ci := 1) (v := .ref a0_owedEach) (C := RX1) (T := TX1) (N := 4) hx hb hts ui_X1_cloverFor_X1 hown hK hP 0 rfl rfl 1 (by decide) (hts _ uw_X1_cloverFor_f17) (fun _ h9 => h9) rfl (dt_of tkX1_cloverFor_k66 6 rfl) ?_
  refine lv_iload_n hx hb (dt_of tkX1_cloverFor_k66 7 rfl) rfl (lv_at hl 1 rfl) ?_
  obtain ⟨hi9, hw⟩ := hw
  refine va_iald hx hb hK hP 3 1 rfl rfl hi9 (dt_of tkX1_cloverFor_k66 8 rfl) ?_
  refine lv_topi (fun x12 ex12 => ?_)
  have hw := hw x12 ex12
  refine va_mmin hx hb (by rw [hml]; exact hl.1.symm) hown (hts _ uw_X1_cloverFor_m171) (hts _ uw_X1_cloverFor_msmin) (hts _ uw_X1_cloverFor_inim) (hts _ uw_X1_cloverFor_mcmin) (Nat.le_of_ble_eq_true rfl) (Nat.le_of_ble_eq_true rfl) (Nat.le_of_ble_eq_true rfl) (Nat.le_of_ble_eq_true rfl) (dt_of tkX1_cloverFor_k66 9 rfl) ?_
  refine lv_topi (fun x13 ex13 => ?_)
  have hw := hw x13 ex13
  exact ((W.iret (v := x13) hx hb hr (fun t ht hW => ⟨⟨x13, (f0_owedEach), rfl, hw, by rw [ht]; exact hP, va_K.moved hW.alike hK, hD⟩, hS.F ht⟩) hS.2.2 (dt_of tkX1_cloverFor_k66 10 rfl)))
set_option maxHeartbeats 4000000 in
set_option maxRecDepth 100000 in
theorem kl_X1_cloverFor_50 {p : Program} {l : Launch} {e : Env} {s : State} {m : MethodId} {args : Array Value} {below : List Frame} {meth : Method} {c : Code} {A : Nat → Prop} (dC : Nat → ClassId) (dI : Nat → Nat → Nat) (cyB cyI cyJ cyP : ClassId) (a0 a0_down a0_owedEach a0_row : Nat) (z0_law : Value) (z0_down_formX : Value) (z0_down_formY : Value) (z0_down_foxX : Value) (z0_down_foxY : Value) (z0_down_seat : Value) (z0_down_strength : Value) (z0_down_debts : Value) (z0_down_near : Value) (z0_down_forms : Value) (z0_down_foxes : Value) (z0_down_safe : Value) (v0_down_hares : Int32) (f0_row : Nat → Int32) (Q : Int32 → (Nat → Int32) → Prop)  (C0 : cfx p s m args meth c cX1_cloverFor (some .int) wsX1_cloverFor RX1 5 A (dC, dI) (kT cyB cyI cyJ cyP)) : ∀ (n : Nat) (H : Heap) (locs : List Loc) (ls : Array Slot) (f0_owedEach : Nat → Int32) (l1 : Int32) (l3 : Int32) (l4 : Int32), va_P (dC, dI) vwCl (wd01_30 a0 a0_row a0_owedEach a0_down z0_law a0_down z0_down_formX z0_down_formY z0_down_foxX z0_down_foxY z0_down_seat z0_down_strength z0_down_debts z0_down_near z0_down_forms v0_down_hares z0_down_foxes z0_down_safe a0_row cyI f0_row a0_owedEach cyI f0_owedEach) H → va_D A (wd01_30 a0 a0_row a0_owedEach a0_down z0_law a0_down z0_down_formX z0_down_formY z0_down_foxX z0_down_foxY z0_down_seat z0_down_strength z0_down_debts z0_down_near z0_down_forms v0_down_hares z0_down_foxes z0_down_safe a0_row cyI f0_row a0_owedEach cyI f0_owedEach) → va_S A s.heap H locs → lv_has ls 5 [(0, .ref a0), (1, .int l1), (3, .int l3), (4, .int l4)] → wl_X1_cloverFor_50 v0_down_hares f0_row Q  n f0_owedEach l1 l3 l4 → W p l e (headSpec wsX1_cloverFor ({ frames := 2, cells := 0, slots := 0, locals := 55 })).room s m args below meth c H locs 0 0 (MQ below (va_Qi (fun (r : Int32) (u : (Nat → Int32)) => Q r u) (cB (dC, dI) (kT cyB cyI cyJ cyP) A (fun u : (Nat → Int32) => ((wd01_30 a0 a0_row a0_owedEach a0_down z0_law a0_down z0_down_formX z0_down_formY z0_down_foxX z0_down_foxY z0_down_seat z0_down_strength z0_down_debts z0_down_near z0_down_forms v0_down_hares z0_down_foxes z0_down_safe a0_row cyI f0_row a0_owedEach cyI u) : va_W))) A) args s 0 0 A) (F0 m 50 ls []) := by
  obtain ⟨hx, hb, hr, hts, hown, hlocks, hml, hA, hK, hNw⟩ := id C0
  intro n
  induction n with
  | zero => intro H locs ls f0_owedEach l1 l3 l4 hP hD hS hl hw; exact False.elim hw
  | succ n ih =>
    intro H locs ls f0_owedEach l1 l3 l4 hP hD hS hl hw
    refine lv_iload hx hb (dt_of tkX1_cloverFor_k33 8 rfl) (lv_at hl 3 rfl) ?_
    refine lv_sipush (v := 495) hx hb (dt_of tkX1_cloverFor_k33 9 rfl) (by decide) ?_
    refine lv_icmp_ge (tgt := 76) hx hb (dt_of tkX1_cloverFor_k33 10 rfl) (by decide) (fun c5 => ?_) (fun c5 => ?_)
    · have hw := hw.1 c5
      exact kb_X1_cloverFor_76 dC dI cyB cyI cyJ cyP a0 a0_down a0_owedEach a0_row z0_law z0_down_formX z0_down_formY z0_down_foxX z0_down_foxY z0_down_seat z0_down_strength z0_down_debts z0_down_near z0_down_forms z0_down_foxes z0_down_safe v0_down_hares f0_row Q  C0 _ _ _ f0_owedEach l1 l4 hP hD hS (lv_sub hl [0, 1, 3] rfl) hw
    · have hw := hw.2 c5
      refine lv_aload_n hx hb (dt_of tkX1_cloverFor_k33 11 rfl) rfl (lv_at hl 0 rfl) ?_
      refine lv_iload hx hb (dt_of tkX1_cloverFor_k33 12 rfl) (lv_at hl 3 rfl) ?_
      refine lv_iconst (v := 1) hx hb (dt_of tkX1_cloverFor_k33 13 rfl) (by decide) ?_
      refine lv_iadd hx hb (dt_of tkX1_cloverFor_k33 14 rfl) ?_
      refine lv_topi (fun x6 ex6 => ?_)
      have hw := hw x6 ex6
      obtain ⟨hCc, hPc, hDc, hFc⟩ := va_pick (ws' := (wd01_31 a0 a0_row a0_owedEach a0_down z0_law a0_down z0_down_formX z0_down_formY z0_down_foxX z0_down_foxY z0_down_seat z0_down_strength z0_down_debts z0_down_near z0_down_forms v0_down_hares z0_down_foxes z0_down_safe a0_owedEach cyI f0_owedEach)) hP hD hS hA [0, 1, 3] (by decide +kernel) rfl
      refine va_calli (va_runV (As := [.int x6]) (rest := []) ⟨hx, hb, hml, hown, hts⟩ (ck_X1_givenBy l dC dI cyB cyI cyJ cyP a0 a0_down a0_owedEach H.size (.ref a0_row) (z0_law) (z0_down_formX) (z0_down_formY) (z0_down_foxX) (z0_down_foxY) (z0_down_seat) (z0_down_strength) (z0_down_debts) (z0_down_near) (z0_down_forms) (z0_down_foxes) (z0_down_safe) v0_down_hares f0_owedEach  x6 hw) (cwV 1 hts gX1_cloverFor_X1_givenBy rfl rfl rfl (by decide +kernel) ⟨Nat.le_of_ble_eq_true rfl, Nat.le_of_ble_eq_true rfl⟩) ⟨cPc_blind, va_recv (q := (RX1, TX1, 4)) hK hPc (ci := 1) (q0 := 0) rfl rfl, cPc_pre hPc hK hDc hNw⟩ rfl rfl hl.1 rfl (lv_room (Nat.le_of_ble_eq_true rfl)) (dt_of tkX1_cloverFor_k33 15 rfl) ⟨Nat.le_of_ble_eq_true rfl, Nat.le_of_ble_eq_true rfl⟩) hS (fun q _ h => hFc q h) hFc (fun r7 u t H1 locs ht hvm hw hB hz1 hk1 hS => ?_)
      obtain ⟨hP1, hK1, hD1⟩ := hB
      rw [ht] at hP1
      obtain ⟨hP, hD⟩ := va_joinN (wr := [(a0_row, .inl (cyI, 64, .inl f0_row))]) (w1 := (wd01_31 a0 a0_row a0_owedEach a0_down z0_law a0_down z0_down_formX z0_down_formY z0_down_foxX z0_down_foxY z0_down_seat z0_down_strength z0_down_debts z0_down_near z0_down_forms v0_down_hares z0_down_foxes z0_down_safe a0_owedEach cyI f0_owedEach)) (wn := (wd01_30 a0 a0_row a0_owedEach a0_down z0_law a0_down z0_down_formX z0_down_formY z0_down_foxX z0_down_foxY z0_down_seat z0_down_strength z0_down_debts z0_down_near z0_down_forms v0_down_hares z0_down_foxes z0_down_safe a0_row cyI f0_row a0_owedEach cyI f0_owedEach)) hP hD [0, 1, 3] [2] [1, 2, 0, 3] hCc rfl (by decide +kernel) (by decide +kernel) (by decide +kernel) rfl hk1 hFc hP1 hD1
      generalize H1 = H at hP hS ⊢
      refine lv_iload_n hx hb (dt_of tkX1_cloverFor_k66 0 rfl) rfl (lv_at hl 2 rfl) ?_
      refine lv_icmp_gt (tgt := 76) hx hb (dt_of tkX1_cloverFor_k66 1 rfl) (by decide) (fun c8 => ?_) (fun c8 => ?_)
      · have hw := hw.1 c8
        exact kb_X1_cloverFor_76 dC dI cyB cyI cyJ cyP a0 a0_down a0_owedEach a0_row z0_law z0_down_formX z0_down_formY z0_down_foxX z0_down_foxY z0_down_seat z0_down_strength z0_down_debts z0_down_near z0_down_forms z0_down_foxes z0_down_safe v0_down_hares f0_row Q  C0 _ _ _ f0_owedEach l1 l4 hP hD hS (lv_sub hl [0, 1, 3] rfl) hw
      · have hw := hw.2 c8
        obtain ⟨x9, ex9⟩ : ∃ y : Int32, y = l4 + 1 := ⟨_, rfl⟩
        have hw := hw x9 ex9
        refine lv_iinc (v := x9) (lv' := [(4, .int x9), (0, .ref a0), (1, .int l1), (3, .int l3)]) hx hb (dt_of tkX1_cloverFor_k66 2 rfl) hl (k := 3) rfl (by rw [ex9]; rfl) (by decide) rfl (fun ls hl => ?_)
        refine lv_goto (tgt := 50) hx hb (dt_of tkX1_cloverFor_k66 3 rfl) (by decide) ?_
        exact ih _ _ _ f0_owedEach l1 l3 x9 hP hD hS (lv_sub hl [1, 2, 3, 0] rfl) hw
set_option maxHeartbeats 4000000 in
set_option maxRecDepth 100000 in
theorem kl_X1_cloverFor_3 {p : Program} {l : Launch} {e : Env} {s : State} {m : MethodId} {args : Array Value} {below : List Frame} {meth : Method} {c : Code} {A : Nat → Prop} (dC : Nat → ClassId) (dI : Nat → Nat → Nat) (cyB cyI cyJ cyP : ClassId) (a0 a0_down a0_owedEach a0_row : Nat) (z0_law : Value) (z0_down_formX : Value) (z0_down_formY : Value) (z0_down_foxX : Value) (z0_down_foxY : Value) (z0_down_seat : Value) (z0_down_strength : Value) (z0_down_debts : Value) (z0_down_near : Value) (z0_down_forms : Value) (z0_down_foxes : Value) (z0_down_safe : Value) (v0_down_hares : Int32) (f0_row : Nat → Int32) (Q : Int32 → (Nat → Int32) → Prop)  (C0 : cfx p s m args meth c cX1_cloverFor (some .int) wsX1_cloverFor RX1 5 A (dC, dI) (kT cyB cyI cyJ cyP)) : ∀ (n : Nat) (H : Heap) (locs : List Loc) (ls : Array Slot) (f0_owedEach : Nat → Int32) (l1 : Int32) (l2 : Int32) (l3 : Int32) (l4 : Int32), va_P (dC, dI) vwCl (wd01_30 a0 a0_row a0_owedEach a0_down z0_law a0_down z0_down_formX z0_down_formY z0_down_foxX z0_down_foxY z0_down_seat z0_down_strength z0_down_debts z0_down_near z0_down_forms v0_down_hares z0_down_foxes z0_down_safe a0_row cyI f0_row a0_owedEach cyI f0_owedEach) H → va_D A (wd01_30 a0 a0_row a0_owedEach a0_down z0_law a0_down z0_down_formX z0_down_formY z0_down_foxX z0_down_foxY z0_down_seat z0_down_strength z0_down_debts z0_down_near z0_down_forms v0_down_hares z0_down_foxes z0_down_safe a0_row cyI f0_row a0_owedEach cyI f0_owedEach) → va_S A s.heap H locs → lv_has ls 5 [(0, .ref a0), (1, .int l1), (2, .int l2), (3, .int l3), (4, .int l4)] → wl_X1_cloverFor_3 v0_down_hares f0_row Q  n f0_owedEach l1 l2 l3 l4 → W p l e (headSpec wsX1_cloverFor ({ frames := 2, cells := 0, slots := 0, locals := 55 })).room s m args below meth c H locs 0 0 (MQ below (va_Qi (fun (r : Int32) (u : (Nat → Int32)) => Q r u) (cB (dC, dI) (kT cyB cyI cyJ cyP) A (fun u : (Nat → Int32) => ((wd01_30 a0 a0_row a0_owedEach a0_down z0_law a0_down z0_down_formX z0_down_formY z0_down_foxX z0_down_foxY z0_down_seat z0_down_strength z0_down_debts z0_down_near z0_down_forms v0_down_hares z0_down_foxes z0_down_safe a0_row cyI f0_row a0_owedEach cyI u) : va_W))) A) args s 0 0 A) (F0 m 3 ls []) := by
  obtain ⟨hx, hb, hr, hts, hown, hlocks, hml, hA, hK, hNw⟩ := id C0
  intro n
  induction n with
  | zero => intro H locs ls f0_owedEach l1 l2 l3 l4 hP hD hS hl hw; exact False.elim hw
  | succ n ih =>
    intro H locs ls f0_owedEach l1 l2 l3 l4 hP hD hS hl hw
    refine lv_iload hx hb (dt_of tkX1_cloverFor_k0 2 rfl) (lv_at hl 4 rfl) ?_
    refine lv_aload_n hx hb (dt_of tkX1_cloverFor_k0 3 rfl) rfl (lv_at hl 0 rfl) ?_
    refine va_get (D := (dC, dI)) (ci := 1) (v := .ref a0_down) (C := RX1) (T := TX1) (N := 4) hx hb hts ui_X1_cloverFor_X1 hown hK hP 0 rfl rfl 2 (by decide) (hts _ uw_X1_cloverFor_f24) (fun _ h9 => h9) rfl (dt_of tkX1_cloverFor_k0 4 rfl) ?_
    refine va_get (D := (dC, dI)) (ci := 2) (v := .int v0_down_hares) (C := RX2) (T := TX2) (N := 12) hx hb hts ui_X1_cloverFor_X2 hown hK hP 1 rfl rfl 9 (by decide) (hts _ uw_X1_cloverFor_f32) (fun _ h9 => h9) rfl (dt_of tkX1_cloverFor_k0 5 rfl) ?_
    refine lv_icmp_ge (tgt := 47) hx hb (dt_of tkX1_cloverFor_k0 6 rfl) (by decide) (fun c1 => ?_) (fun c1 => ?_)
    · have hw := hw.1 c1
      refine lv_iconst (v := 0) hx hb (dt_of tkX1_cloverFor_k33 6 rfl) (by decide) ?_
      refine lv_istore (lv' := [(4, .int 0), (0, .ref a0), (1, .int l1), (2, .int l2), (3, .int l3)]) hx hb (dt_of tkX1_cloverFor_k33 7 rfl) hl (by decide) rfl (fun ls hl => ?_)
      obtain ⟨n9, hw⟩ := hw
      exact kl_X1_cloverFor_50 dC dI cyB cyI cyJ cyP a0 a0_down a0_owedEach a0_row z0_law z0_down_formX z0_down_formY z0_down_foxX z0_down_foxY z0_down_seat z0_down_strength z0_down_debts z0_down_near z0_down_forms z0_down_foxes z0_down_safe v0_down_hares f0_row Q  C0 n9 _ _ _ f0_owedEach l1 l3 0 hP hD hS (lv_sub hl [1, 2, 4, 0] rfl) hw
    · have hw := hw.2 c1
      refine lv_aload_n hx hb (dt_of tkX1_cloverFor_k0 7 rfl) rfl (lv_at hl 0 rfl) ?_
      refine va_get (D := (dC, dI)) (ci := 1) (v := .ref a0_owedEach) (C := RX1) (T := TX1) (N := 4) hx hb hts ui_X1_cloverFor_X1 hown hK hP 0 rfl rfl 1 (by decide) (hts _ uw_X1_cloverFor_f17) (fun _ h9 => h9) rfl (dt_of tkX1_cloverFor_k0 8 rfl) ?_
      refine lv_iload hx hb (dt_of tkX1_cloverFor_k0 9 rfl) (lv_at hl 4 rfl) ?_
      refine lv_iload_n hx hb (dt_of tkX1_cloverFor_k0 10 rfl) rfl (lv_at hl 2 rfl) ?_
      refine lv_iload hx hb (dt_of tkX1_cloverFor_k0 11 rfl) (lv_at hl 4 rfl) ?_
      obtain ⟨hCc, hPc, hDc, hFc⟩ := va_pick (ws' := []) hP hD hS hA [] (by decide +kernel) rfl
      refine va_calli (va_runSN (As := [.int l2, .int l4]) (rest := [.int l4, .ref a0_owedEach]) ⟨hx, hb, hml, hown, hts⟩ (ck_X10_holds l dC dI cyB cyI cyJ cyP  H.size    l2 l4 hw) ⟨(va_cnB 2 hts gX1_cloverFor_X10_holds_n120 rfl rfl rfl (nw_9 hNw) (hts _ uw_X1_cloverFor_iniRX10) (by decide +kernel) ⟨Nat.le_of_ble_eq_true rfl, Nat.le_of_ble_eq_true rfl⟩), (hts _ uw_X1_cloverFor_stX10_holds), trivial⟩ ⟨cPc_blind, cPc_pre hPc hK hDc hNw⟩ rfl rfl hl.1 rfl (lv_room (Nat.le_of_ble_eq_true rfl)) (dt_of tkX1_cloverFor_k0 12 rfl) ⟨Nat.le_of_ble_eq_true rfl, Nat.le_of_ble_eq_true rfl⟩) hS (fun q _ h => hFc q h) hFc (fun r2 u t H1 locs ht hvm hw hB hz1 hk1 hS => ?_)
      obtain ⟨hP1, hK1, hD1⟩ := hB
      rw [ht] at hP1
      obtain ⟨hP, hD⟩ := va_joinI (wr := (wd01_30 a0 a0_row a0_owedEach a0_down z0_law a0_down z0_down_formX z0_down_formY z0_down_foxX z0_down_foxY z0_down_seat z0_down_strength z0_down_debts z0_down_near z0_down_forms v0_down_hares z0_down_foxes z0_down_safe a0_row cyI f0_row a0_owedEach cyI f0_owedEach)) (w1 := []) (wn := (wd01_30 a0 a0_row a0_owedEach a0_down z0_law a0_down z0_down_formX z0_down_formY z0_down_foxX z0_down_foxY z0_down_seat z0_down_strength z0_down_debts z0_down_near z0_down_forms v0_down_hares z0_down_foxes z0_down_safe a0_row cyI f0_row a0_owedEach cyI f0_owedEach)) hP hD [] [0, 1, 2, 3] hCc rfl (by decide +kernel) (by decide +kernel) rfl hk1 hFc hP1 hD1
      generalize H1 = H at hP hS ⊢
      refine lv_if_eq (tgt := 39) hx hb (dt_of tkX1_cloverFor_k0 13 rfl) (by decide) (fun c3 => ?_) (fun c3 => ?_)
      · have hw := hw.1 c3
        refine lv_iconst (v := 0) hx hb (dt_of tkX1_cloverFor_k33 2 rfl) (by decide) ?_
        exact kb_X1_cloverFor_40 dC dI cyB cyI cyJ cyP a0 a0_down a0_owedEach a0_row z0_law z0_down_formX z0_down_formY z0_down_foxX z0_down_foxY z0_down_seat z0_down_strength z0_down_debts z0_down_near z0_down_forms z0_down_foxes z0_down_safe v0_down_hares f0_row Q (wl_X1_cloverFor_3 v0_down_hares f0_row Q  n) ih C0 _ _ _ f0_owedEach l1 l2 l3 l4 l4 0 hP hD hS (lv_sub hl [0, 1, 2, 3, 4] rfl) hw
      · have hw := hw.2 c3
        refine lv_aload_n hx hb (dt_of tkX1_cloverFor_k0 14 rfl) rfl (lv_at hl 0 rfl) ?_
        refine lv_iload hx hb (dt_of tkX1_cloverFor_k0 15 rfl) (lv_at hl 4 rfl) ?_
        obtain ⟨hCc, hPc, hDc, hFc⟩ := va_pick (ws' := (wd01_32 a0 a0_row a0_owedEach a0_down z0_law a0_down z0_down_formX z0_down_formY z0_down_foxX z0_down_foxY z0_down_seat z0_down_strength z0_down_debts z0_down_near z0_down_forms v0_down_hares z0_down_foxes z0_down_safe a0_row cyI f0_row)) hP hD hS hA [0, 1, 2] (by decide +kernel) rfl
        refine va_calli (va_runV (As := [.int l4]) (rest := [.int l4, .ref a0_owedEach]) ⟨hx, hb, hml, hown, hts⟩ (ck_X1_owed l dC dI cyB cyI cyJ cyP a0 a0_down a0_row H.size (.ref a0_owedEach) (z0_law) (z0_down_formX) (z0_down_formY) (z0_down_foxX) (z0_down_foxY) (z0_down_seat) (z0_down_strength) (z0_down_debts) (z0_down_near) (z0_down_forms) (z0_down_foxes) (z0_down_safe) v0_down_hares f0_row  l4 hw) (cwV 1 hts gX1_cloverFor_X1_owed rfl rfl rfl (by decide +kernel) ⟨Nat.le_of_ble_eq_true rfl, Nat.le_of_ble_eq_true rfl⟩) ⟨cPc_blind, va_recv (q := (RX1, TX1, 4)) hK hPc (ci := 1) (q0 := 0) rfl rfl, cPc_pre hPc hK hDc hNw⟩ rfl rfl hl.1 rfl (lv_room (Nat.le_of_ble_eq_true rfl)) (dt_of tkX1_cloverFor_k33 0 rfl) ⟨Nat.le_of_ble_eq_true rfl, Nat.le_of_ble_eq_true rfl⟩) hS (fun q _ h => hFc q h) hFc (fun r4 u t H1 locs ht hvm hw hB hz1 hk1 hS => ?_)
        obtain ⟨hP1, hK1, hD1⟩ := hB
        rw [ht] at hP1
        obtain ⟨hP, hD⟩ := va_joinN (wr := [(a0_owedEach, .inl (cyI, 6, .inl f0_owedEach))]) (w1 := (wd01_32 a0 a0_row a0_owedEach a0_down z0_law a0_down z0_down_formX z0_down_formY z0_down_foxX z0_down_foxY z0_down_seat z0_down_strength z0_down_debts z0_down_near z0_down_forms v0_down_hares z0_down_foxes z0_down_safe a0_row cyI f0_row)) (wn := (wd01_30 a0 a0_row a0_owedEach a0_down z0_law a0_down z0_down_formX z0_down_formY z0_down_foxX z0_down_foxY z0_down_seat z0_down_strength z0_down_debts z0_down_near z0_down_forms v0_down_hares z0_down_foxes z0_down_safe a0_row cyI f0_row a0_owedEach cyI f0_owedEach)) hP hD [0, 1, 2] [3] [1, 2, 3, 0] hCc rfl (by decide +kernel) (by decide +kernel) (by decide +kernel) rfl hk1 hFc hP1 hD1
        generalize H1 = H at hP hS ⊢
        refine lv_goto (tgt := 40) hx hb (dt_of tkX1_cloverFor_k33 1 rfl) (by decide) ?_
        exact kb_X1_cloverFor_40 dC dI cyB cyI cyJ cyP a0 a0_down a0_owedEach a0_row z0_law z0_down_formX z0_down_formY z0_down_foxX z0_down_foxY z0_down_seat z0_down_strength z0_down_debts z0_down_near z0_down_forms z0_down_foxes z0_down_safe v0_down_hares f0_row Q (wl_X1_cloverFor_3 v0_down_hares f0_row Q  n) ih C0 _ _ _ f0_owedEach l1 l2 l3 l4 l4 r4 hP hD hS (lv_sub hl [0, 1, 2, 3, 4] rfl) hw
set_option maxHeartbeats 4000000 in
set_option maxRecDepth 100000 in
theorem ck_X1_cloverFor (l : Launch) (dC : Nat → ClassId) (dI : Nat → Nat → Nat) (cyB cyI cyJ cyP : ClassId) (a0 a0_down a0_owedEach a0_row : Nat) (sz : Nat) (z0_law : Value) (z0_down_formX : Value) (z0_down_formY : Value) (z0_down_foxX : Value) (z0_down_foxY : Value) (z0_down_seat : Value) (z0_down_strength : Value) (z0_down_debts : Value) (z0_down_near : Value) (z0_down_forms : Value) (z0_down_foxes : Value) (z0_down_safe : Value) (v0_down_hares : Int32) (f0_row : Nat → Int32) (f0_owedEach : Nat → Int32) (p1 : Int32) (p2 : Int32) (p3 : Int32) {Q : Int32 → (Nat → Int32) → Prop} (hw : wq_X1_cloverFor v0_down_hares f0_row f0_owedEach p1 p2 p3 Q) : Met l yX1_cloverFor wsX1_cloverFor ({ frames := 2, cells := 0, slots := 0, locals := 55 }) (va_Pc [.ref a0, .int p1, .int p2, .int p3] (cPc (dC, dI) (kT cyB cyI cyJ cyP) (wd01_30 a0 a0_row a0_owedEach a0_down z0_law a0_down z0_down_formX z0_down_formY z0_down_foxX z0_down_foxY z0_down_seat z0_down_strength z0_down_debts z0_down_near z0_down_forms v0_down_hares z0_down_foxes z0_down_safe a0_row cyI f0_row a0_owedEach cyI f0_owedEach) sz)) (va_Qi (fun (r : Int32) (u : (Nat → Int32)) => Q r u) (cB (dC, dI) (kT cyB cyI cyJ cyP) (va_A (wd01_30 a0 a0_row a0_owedEach a0_down z0_law a0_down z0_down_formX z0_down_formY z0_down_foxX z0_down_foxY z0_down_seat z0_down_strength z0_down_debts z0_down_near z0_down_forms v0_down_hares z0_down_foxes z0_down_safe a0_row cyI f0_row a0_owedEach cyI f0_owedEach) sz) (fun u : (Nat → Int32) => ((wd01_30 a0 a0_row a0_owedEach a0_down z0_law a0_down z0_down_formX z0_down_formY z0_down_foxX z0_down_foxY z0_down_seat z0_down_strength z0_down_debts z0_down_near z0_down_forms v0_down_hares z0_down_foxes z0_down_safe a0_row cyI f0_row a0_owedEach cyI u) : va_W))) (va_A (wd01_30 a0 a0_row a0_owedEach a0_down z0_law a0_down z0_down_formX z0_down_formY z0_down_foxX z0_down_foxY z0_down_seat z0_down_strength z0_down_debts z0_down_near z0_down_forms v0_down_hares z0_down_foxes z0_down_safe a0_row cyI f0_row a0_owedEach cyI f0_owedEach) sz)) 0 0 (va_A (wd01_30 a0 a0_row a0_owedEach a0_down z0_law a0_down z0_down_formX z0_down_formY z0_down_foxX z0_down_foxY z0_down_seat z0_down_strength z0_down_debts z0_down_near z0_down_forms v0_down_hares z0_down_foxes z0_down_safe a0_row cyI f0_row a0_owedEach cyI f0_owedEach) sz) := by
  refine Met.ofW (cc := cX1_cloverFor) (maxL := 5) (ret := (some .int)) (by decide) rfl ?_
  intro p e s m args below meth c s₁ B hml hv
  obtain ⟨rfl, hsz, hP, hK, hD0, hNw⟩ := hv
  have hx := B.exec
  have hb := B.bytes
  have hr := B.returns
  have hts := atoms_spec (ws := wsX1_cloverFor) B.pre
  have hown : s.vm.findClass RX1 = some m.cls := findClass_of_methodNamed B.named
  have hlocks := B.notSynchronized
  subst hsz
  have hD := hD0.self (sz := s.heap.size)
  generalize hAe : va_A (wd01_30 a0 a0_row a0_owedEach a0_down z0_law a0_down z0_down_formX z0_down_formY z0_down_foxX z0_down_foxY z0_down_seat z0_down_strength z0_down_debts z0_down_near z0_down_forms v0_down_hares z0_down_foxes z0_down_safe a0_row cyI f0_row a0_owedEach cyI f0_owedEach) s.heap.size = A at hD ⊢
  have hA : ∀ q : Nat, s.heap.size ≤ q → A q := fun q h => by rw [← hAe]; exact Or.inr h
  have hS : va_S A s.heap s.heap [] := va_S.rf
  have hP : va_P (dC, dI) vwCl (wd01_30 a0 a0_row a0_owedEach a0_down z0_law a0_down z0_down_formX z0_down_formY z0_down_foxX z0_down_foxY z0_down_seat z0_down_strength z0_down_debts z0_down_near z0_down_forms v0_down_hares z0_down_foxes z0_down_safe a0_row cyI f0_row a0_owedEach cyI f0_owedEach) s.heap := hP
  have hl := lv_entry ([.ref a0, .int p1, .int p2, .int p3]) (n := 5) (Nat.le_of_ble_eq_true rfl)
  rw [lg_entry_eq]
  generalize (lg_sl ([.ref a0, .int p1, .int p2, .int p3]) ++ List.replicate (5 - (lg_sl ([.ref a0, .int p1, .int p2, .int p3])).length) Slot.unset).toArray = ls at hl ⊢
  have hl : lv_has ls 5 [(0, .ref a0), (1, .int p1), (2, .int p2), (3, .int p3)] := hl
  have C0 : cfx p s m _ meth c cX1_cloverFor (some .int) wsX1_cloverFor RX1 5 A (dC, dI) (kT cyB cyI cyJ cyP) := ⟨hx, hb, hr, hts, hown, hlocks, hml, hA, hK, hNw⟩
  clear hAe
  obtain ⟨H, hH⟩ : ∃ H, H = s.heap := ⟨_, rfl⟩
  rw [← hH] at hP ⊢
  have hS : va_S A s.heap H [] := by rw [hH]; exact va_S.rf
  have hS := hS
  refine lv_iconst (v := 0) hx hb (dt_of tkX1_cloverFor_k0 0 rfl) (by decide) ?_
  refine lv_istore (lv' := [(4, .int 0), (0, .ref a0), (1, .int p1), (2, .int p2), (3, .int p3)]) hx hb (dt_of tkX1_cloverFor_k0 1 rfl) hl (by decide) rfl (fun ls hl => ?_)
  obtain ⟨n9, hw⟩ := hw
  exact kl_X1_cloverFor_3 dC dI cyB cyI cyJ cyP a0 a0_down a0_owedEach a0_row z0_law z0_down_formX z0_down_formY z0_down_foxX z0_down_foxY z0_down_seat z0_down_strength z0_down_debts z0_down_near z0_down_forms z0_down_foxes z0_down_safe v0_down_hares f0_row Q  C0 n9 _ _ _ f0_owedEach p1 p2 p3 0 hP hD hS (lv_sub hl [1, 2, 3, 4, 0] rfl) hw
theorem ui_X10_clover_X10 : ∀ w ∈ u_ws RX10 TX10 19, w ∈ wsX10_clover := uiM mbX10_clover euX10 (by decide +kernel)
theorem ui_X10_clover_X2 : ∀ w ∈ u_ws RX2 TX2 12, w ∈ wsX10_clover := uiM mbX10_clover euX2 (by decide +kernel)
theorem uw_X10_clover_f141 : (.fieldLink RX10 141 "MarchHares$Down" "hares" "I" : Cond) ∈ wsX10_clover := mbX10_clover 644 (by decide +kernel)
theorem uw_X10_clover_f19 : (.fieldLink RX10 19 "MarchHares" "ground" "LMarchHares$Down;" : Cond) ∈ wsX10_clover := mbX10_clover 20 (by decide +kernel)
theorem uw_X10_clover_f58 : (.fieldLink RX10 58 "MarchHares" "now" "LMarchHares$Days;" : Cond) ∈ wsX10_clover := mbX10_clover 79 (by decide +kernel)
set_option maxHeartbeats 4000000 in
set_option maxRecDepth 100000 in
theorem ck_X10_clover (l : Launch) (dC : Nat → ClassId) (dI : Nat → Nat → Nat) (cyB cyI cyJ cyP : ClassId) (a0 a0_ground a0_now a0_now_row a0_now_owedEach : Nat) (sz : Nat) (z0_tape : Value) (z0_spareGround : Value) (z0_rule : Value) (z0_spareRule : Value) (z0_lines : Value) (z0_spareLines : Value) (z0_steps : Value) (z0_trial : Value) (z0_past : Value) (z0_images : Value) (z0_round : Value) (z0_seating : Value) (z0_fitting : Value) (z0_imagesKept : Value) (z0_refusedSteps : Value) (z0_ground_formX : Value) (z0_ground_formY : Value) (z0_ground_foxX : Value) (z0_ground_foxY : Value) (z0_ground_seat : Value) (z0_ground_strength : Value) (z0_ground_debts : Value) (z0_ground_near : Value) (z0_ground_forms : Value) (z0_ground_foxes : Value) (z0_ground_safe : Value) (z0_now_law : Value) (v0_ground_hares : Int32) (f0_now_row : Nat → Int32) (v0_callsNoSuch : Int32) (v0_callsIllegal : Int32) (f0_now_owedEach : Nat → Int32) (p1 : Int32) (p2 : Int32) (p3 : Int32) {E : String → Int32 → Int32 → (Nat → Int32) → Prop} {Q : Int32 → Int32 → Int32 → (Nat → Int32) → Prop} (hw : wq_X10_clover v0_ground_hares f0_now_row v0_callsNoSuch v0_callsIllegal f0_now_owedEach p1 p2 p3 E Q) : vx_Met l yX10_clover wsX10_clover ({ frames := 8, cells := 3, slots := 18, locals := 164 }) (va_Pc [.ref a0, .int p1, .int p2, .int p3] (cPx l (dC, dI) (kT cyB cyI cyJ cyP) (wd01_33 a0 z0_tape a0_ground z0_spareGround z0_rule z0_spareRule z0_lines z0_spareLines z0_steps a0_now z0_trial z0_past z0_images z0_round z0_seating z0_fitting z0_imagesKept z0_refusedSteps v0_callsNoSuch v0_callsIllegal a0_ground z0_ground_formX z0_ground_formY z0_ground_foxX z0_ground_foxY z0_ground_seat z0_ground_strength z0_ground_debts z0_ground_near z0_ground_forms v0_ground_hares z0_ground_foxes z0_ground_safe a0_now a0_now_row a0_now_owedEach a0_ground z0_now_law a0_now_row cyI f0_now_row a0_now_owedEach cyI f0_now_owedEach) sz)) (va_Qi (fun (r : Int32) (u : Int32 × Int32 × (Nat → Int32)) => Q r u.1 u.2.1 u.2.2) (cB (dC, dI) (kT cyB cyI cyJ cyP) (va_A (wd01_33 a0 z0_tape a0_ground z0_spareGround z0_rule z0_spareRule z0_lines z0_spareLines z0_steps a0_now z0_trial z0_past z0_images z0_round z0_seating z0_fitting z0_imagesKept z0_refusedSteps v0_callsNoSuch v0_callsIllegal a0_ground z0_ground_formX z0_ground_formY z0_ground_foxX z0_ground_foxY z0_ground_seat z0_ground_strength z0_ground_debts z0_ground_near z0_ground_forms v0_ground_hares z0_ground_foxes z0_ground_safe a0_now a0_now_row a0_now_owedEach a0_ground z0_now_law a0_now_row cyI f0_now_row a0_now_owedEach cyI f0_now_owedEach) sz) (fun u : Int32 × Int32 × (Nat → Int32) => ((wd01_33 a0 z0_tape a0_ground z0_spareGround z0_rule z0_spareRule z0_lines z0_spareLines z0_steps a0_now z0_trial z0_past z0_images z0_round z0_seating z0_fitting z0_imagesKept z0_refusedSteps u.1 u.2.1 a0_ground z0_ground_formX z0_ground_formY z0_ground_foxX z0_ground_foxY z0_ground_seat z0_ground_strength z0_ground_debts z0_ground_near z0_ground_forms v0_ground_hares z0_ground_foxes z0_ground_safe a0_now a0_now_row a0_now_owedEach a0_ground z0_now_law a0_now_row cyI f0_now_row a0_now_owedEach cyI u.2.2) : va_W))) (va_A (wd01_33 a0 z0_tape a0_ground z0_spareGround z0_rule z0_spareRule z0_lines z0_spareLines z0_steps a0_now z0_trial z0_past z0_images z0_round z0_seating z0_fitting z0_imagesKept z0_refusedSteps v0_callsNoSuch v0_callsIllegal a0_ground z0_ground_formX z0_ground_formY z0_ground_foxX z0_ground_foxY z0_ground_seat z0_ground_strength z0_ground_debts z0_ground_near z0_ground_forms v0_ground_hares z0_ground_foxes z0_ground_safe a0_now a0_now_row a0_now_owedEach a0_ground z0_now_law a0_now_row cyI f0_now_row a0_now_owedEach cyI f0_now_owedEach) sz)) (vx_X (fun _ => True) (fun (en : String) (u : Int32 × Int32 × (Nat → Int32)) (t : State) => E en u.1 u.2.1 u.2.2 ∧ cB (dC, dI) (kT cyB cyI cyJ cyP) (va_A (wd01_33 a0 z0_tape a0_ground z0_spareGround z0_rule z0_spareRule z0_lines z0_spareLines z0_steps a0_now z0_trial z0_past z0_images z0_round z0_seating z0_fitting z0_imagesKept z0_refusedSteps v0_callsNoSuch v0_callsIllegal a0_ground z0_ground_formX z0_ground_formY z0_ground_foxX z0_ground_foxY z0_ground_seat z0_ground_strength z0_ground_debts z0_ground_near z0_ground_forms v0_ground_hares z0_ground_foxes z0_ground_safe a0_now a0_now_row a0_now_owedEach a0_ground z0_now_law a0_now_row cyI f0_now_row a0_now_owedEach cyI f0_now_owedEach) sz) (fun u : Int32 × Int32 × (Nat → Int32) => ((wd01_33 a0 z0_tape a0_ground z0_spareGround z0_rule z0_spareRule z0_lines z0_spareLines z0_steps a0_now z0_trial z0_past z0_images z0_round z0_seating z0_fitting z0_imagesKept z0_refusedSteps u.1 u.2.1 a0_ground z0_ground_formX z0_ground_formY z0_ground_foxX z0_ground_foxY z0_ground_seat z0_ground_strength z0_ground_debts z0_ground_near z0_ground_forms v0_ground_hares z0_ground_foxes z0_ground_safe a0_now a0_now_row a0_now_owedEach a0_ground z0_now_law a0_now_row cyI f0_now_row a0_now_owedEach cyI u.2.2) : va_W)) u t) (va_A (wd01_33 a0 z0_tape a0_ground z0_spareGround z0_rule z0_spareRule z0_lines z0_spareLines z0_steps a0_now z0_trial z0_past z0_images z0_round z0_seating z0_fitting z0_imagesKept z0_refusedSteps v0_callsNoSuch v0_callsIllegal a0_ground z0_ground_formX z0_ground_formY z0_ground_foxX z0_ground_foxY z0_ground_seat z0_ground_strength z0_ground_debts z0_ground_near z0_ground_forms v0_ground_hares z0_ground_foxes z0_ground_safe a0_now a0_now_row a0_now_owedEach a0_ground z0_now_law a0_now_row cyI f0_now_row a0_now_owedEach cyI f0_now_owedEach) sz)) 3 18 (va_A (wd01_33 a0 z0_tape a0_ground z0_spareGround z0_rule z0_spareRule z0_lines z0_spareLines z0_steps a0_now z0_trial z0_past z0_images z0_round z0_seating z0_fitting z0_imagesKept z0_refusedSteps v0_callsNoSuch v0_callsIllegal a0_ground z0_ground_formX z0_ground_formY z0_ground_foxX z0_ground_foxY z0_ground_seat z0_ground_strength z0_ground_debts z0_ground_near z0_ground_forms v0_ground_hares z0_ground_foxes z0_ground_safe a0_now a0_now_row a0_now_owedEach a0_ground z0_now_law a0_now_row cyI f0_now_row a0_now_owedEach cyI f0_now_owedEach) sz) := by
  refine vx_ofW (cc := cX10_clover) (maxL := 4) (ret := (some .int)) (by decide) rfl ?_
  intro p e s m args below meth c s₁ B hml hnt hv
  obtain ⟨rfl, hsz, hP, hK, hD0, hNw, hXl, hXu, hXn, hXt⟩ := hv
  have hx := B.exec
  have hb := B.bytes
  have hr := B.returns
  have hts := atoms_spec (ws := wsX10_clover) B.pre
  have hown : s.vm.findClass RX10 = some m.cls := findClass_of_methodNamed B.named
  have hlocks := B.notSynchronized
  subst hsz
  have hD := hD0.self (sz := s.heap.size)
  generalize hAe : va_A (wd01_33 a0 z0_tape a0_ground z0_spareGround z0_rule z0_spareRule z0_lines z0_spareLines z0_steps a0_now z0_trial z0_past z0_images z0_round z0_seating z0_fitting z0_imagesKept z0_refusedSteps v0_callsNoSuch v0_callsIllegal a0_ground z0_ground_formX z0_ground_formY z0_ground_foxX z0_ground_foxY z0_ground_seat z0_ground_strength z0_ground_debts z0_ground_near z0_ground_forms v0_ground_hares z0_ground_foxes z0_ground_safe a0_now a0_now_row a0_now_owedEach a0_ground z0_now_law a0_now_row cyI f0_now_row a0_now_owedEach cyI f0_now_owedEach) s.heap.size = A at hD hXu hXn ⊢
  have hA : ∀ q : Nat, s.heap.size ≤ q → A q := fun q h => by rw [← hAe]; exact Or.inr h
  have hS : va_S A s.heap s.heap [] := va_S.rf
  have hP : va_P (dC, dI) vwCl (wd01_33 a0 z0_tape a0_ground z0_spareGround z0_rule z0_spareRule z0_lines z0_spareLines z0_steps a0_now z0_trial z0_past z0_images z0_round z0_seating z0_fitting z0_imagesKept z0_refusedSteps v0_callsNoSuch v0_callsIllegal a0_ground z0_ground_formX z0_ground_formY z0_ground_foxX z0_ground_foxY z0_ground_seat z0_ground_strength z0_ground_debts z0_ground_near z0_ground_forms v0_ground_hares z0_ground_foxes z0_ground_safe a0_now a0_now_row a0_now_owedEach a0_ground z0_now_law a0_now_row cyI f0_now_row a0_now_owedEach cyI f0_now_owedEach) s.heap := hP
  have hl := lv_entry ([.ref a0, .int p1, .int p2, .int p3]) (n := 4) (Nat.le_of_ble_eq_true rfl)
  rw [lg_entry_eq]
  generalize (lg_sl ([.ref a0, .int p1, .int p2, .int p3]) ++ List.replicate (4 - (lg_sl ([.ref a0, .int p1, .int p2, .int p3])).length) Slot.unset).toArray = ls at hl ⊢
  have hl : lv_has ls 4 [(0, .ref a0), (1, .int p1), (2, .int p2), (3, .int p3)] := hl
  have hY : cfY l s A := ⟨hXl, hXu, hXn, hXt⟩
  have hXs : cfX l s c A := ⟨hnt, hY⟩
  have C0 : cfx p s m _ meth c cX10_clover (some .int) wsX10_clover RX10 4 A (dC, dI) (kT cyB cyI cyJ cyP) ∧ cfX l s c A := ⟨⟨hx, hb, hr, hts, hown, hlocks, hml, hA, hK, hNw⟩, hXs⟩
  clear hAe
  obtain ⟨H, hH⟩ : ∃ H, H = s.heap := ⟨_, rfl⟩
  rw [← hH] at hP ⊢
  have hS : va_S A s.heap H [] := by rw [hH]; exact va_S.rf
  have hS := hS
  refine lv_aload_n hx hb (dt_of tkX10_clover_k0 0 rfl) rfl (lv_at hl 0 rfl) ?_
  refine lv_iload_n hx hb (dt_of tkX10_clover_k0 1 rfl) rfl (lv_at hl 1 rfl) ?_
  obtain ⟨hCc, hPc, hDc, hFc⟩ := va_pick (ws' := (wd01_34 a0 z0_tape a0_ground z0_spareGround z0_rule z0_spareRule z0_lines z0_spareLines z0_steps a0_now z0_trial z0_past z0_images z0_round z0_seating z0_fitting z0_imagesKept z0_refusedSteps v0_callsNoSuch v0_callsIllegal a0_ground z0_ground_formX z0_ground_formY z0_ground_foxX z0_ground_foxY z0_ground_seat z0_ground_strength z0_ground_debts z0_ground_near z0_ground_forms v0_ground_hares z0_ground_foxes z0_ground_safe)) hP hD hS hA [0, 1] (by decide +kernel) rfl
  refine vx_callv (vx_runV (As := [.int p1]) (rest := []) ⟨hx, hb, hml, hown, hts⟩ (ck_X10_needHare l dC dI cyB cyI cyJ cyP a0 a0_ground H.size (z0_tape) (z0_spareGround) (z0_rule) (z0_spareRule) (z0_lines) (z0_spareLines) (z0_steps) (.ref a0_now) (z0_trial) (z0_past) (z0_images) (z0_round) (z0_seating) (z0_fitting) (z0_imagesKept) (z0_refusedSteps) (.int v0_callsIllegal) (z0_ground_formX) (z0_ground_formY) (z0_ground_foxX) (z0_ground_foxY) (z0_ground_seat) (z0_ground_strength) (z0_ground_debts) (z0_ground_near) (z0_ground_forms) (z0_ground_foxes) (z0_ground_safe) v0_ground_hares v0_callsNoSuch p1 hw) (cwV 1 hts gX10_clover_X10_needHare rfl rfl rfl (by decide +kernel) ⟨Nat.le_of_ble_eq_true rfl, Nat.le_of_ble_eq_true rfl⟩) ⟨cPx_blind, va_recv (q := (RX10, TX10, 19)) hK hPc (ci := 10) (q0 := 0) rfl rfl, cPx_pre hPc hK hDc hNw hY hS hFc⟩ rfl rfl hl.1 rfl (lv_room (Nat.le_of_ble_eq_true rfl)) (dt_of tkX10_clover_k0 2 rfl) ⟨Nat.le_of_ble_eq_true rfl, Nat.le_of_ble_eq_true rfl⟩) hS (fun q _ h => hFc q h) hFc (fun q _ h => hFc q h) (fun en ce q9 u t H1 locs ht hvm hpx hB hz1 hk1 hS hc9 hv9 hcl9 => ?_) (fun u t H1 locs ht hvm hw hB hz1 hk1 hS => ?_)
  · obtain ⟨x1, rfl⟩ : ∃ z, z = u := ⟨_, rfl⟩
    obtain ⟨hw, hP1, hK1, hD1⟩ := hB
    rw [ht] at hP1
    obtain ⟨hP, hD⟩ := va_joinN (wr := (wd01_35 a0_now a0_now_row a0_now_owedEach a0_ground z0_now_law a0_now_row cyI f0_now_row a0_now_owedEach cyI f0_now_owedEach)) (w1 := (wd01_34 a0 z0_tape a0_ground z0_spareGround z0_rule z0_spareRule z0_lines z0_spareLines z0_steps a0_now z0_trial z0_past z0_images z0_round z0_seating z0_fitting z0_imagesKept z0_refusedSteps x1 v0_callsIllegal a0_ground z0_ground_formX z0_ground_formY z0_ground_foxX z0_ground_foxY z0_ground_seat z0_ground_strength z0_ground_debts z0_ground_near z0_ground_forms v0_ground_hares z0_ground_foxes z0_ground_safe)) (wn := (wd01_33 a0 z0_tape a0_ground z0_spareGround z0_rule z0_spareRule z0_lines z0_spareLines z0_steps a0_now z0_trial z0_past z0_images z0_round z0_seating z0_fitting z0_imagesKept z0_refusedSteps x1 v0_callsIllegal a0_ground z0_ground_formX z0_ground_formY z0_ground_foxX z0_ground_foxY z0_ground_seat z0_ground_strength z0_ground_debts z0_ground_near z0_ground_forms v0_ground_hares z0_ground_foxes z0_ground_safe a0_now a0_now_row a0_now_owedEach a0_ground z0_now_law a0_now_row cyI f0_now_row a0_now_owedEach cyI f0_now_owedEach)) hP hD [0, 1] [2, 3, 4] [3, 4, 0, 1, 2] hCc rfl (by decide +kernel) (by decide +kernel) (by decide +kernel) rfl hk1 hFc hP1 hD1
    generalize H1 = H at hP hS hc9 ⊢
    exact vx_out (fun x hx9 => (hXs.1 x hx9).elim) hlocks hc9 hv9 hcl9 (fun t2 ht2 hal2 => ⟨(x1, v0_callsIllegal, f0_now_owedEach), trivial, ⟨hw, by rw [ht2]; exact hP, va_K.moved hal2 hK, hD⟩, hS.F ht2⟩) hS.2.2 (Nat.le_of_ble_eq_true rfl) (Nat.le_of_ble_eq_true rfl)
  obtain ⟨x1, rfl⟩ : ∃ z, z = u := ⟨_, rfl⟩
  obtain ⟨hP1, hK1, hD1⟩ := hB
  rw [ht] at hP1
  obtain ⟨hP, hD⟩ := va_joinN (wr := (wd01_35 a0_now a0_now_row a0_now_owedEach a0_ground z0_now_law a0_now_row cyI f0_now_row a0_now_owedEach cyI f0_now_owedEach)) (w1 := (wd01_34 a0 z0_tape a0_ground z0_spareGround z0_rule z0_spareRule z0_lines z0_spareLines z0_steps a0_now z0_trial z0_past z0_images z0_round z0_seating z0_fitting z0_imagesKept z0_refusedSteps x1 v0_callsIllegal a0_ground z0_ground_formX z0_ground_formY z0_ground_foxX z0_ground_foxY z0_ground_seat z0_ground_strength z0_ground_debts z0_ground_near z0_ground_forms v0_ground_hares z0_ground_foxes z0_ground_safe)) (wn := (wd01_33 a0 z0_tape a0_ground z0_spareGround z0_rule z0_spareRule z0_lines z0_spareLines z0_steps a0_now z0_trial z0_past z0_images z0_round z0_seating z0_fitting z0_imagesKept z0_refusedSteps x1 v0_callsIllegal a0_ground z0_ground_formX z0_ground_formY z0_ground_foxX z0_ground_foxY z0_ground_seat z0_ground_strength z0_ground_debts z0_ground_near z0_ground_forms v0_ground_hares z0_ground_foxes z0_ground_safe a0_now a0_now_row a0_now_owedEach a0_ground z0_now_law a0_now_row cyI f0_now_row a0_now_owedEach cyI f0_now_owedEach)) hP hD [0, 1] [2, 3, 4] [3, 4, 0, 1, 2] hCc rfl (by decide +kernel) (by decide +kernel) (by decide +kernel) rfl hk1 hFc hP1 hD1
  generalize H1 = H at hP hS ⊢
  refine lv_aload_n hx hb (dt_of tkX10_clover_k0 3 rfl) rfl (lv_at hl 0 rfl) ?_
  refine lv_iload_n hx hb (dt_of tkX10_clover_k0 4 rfl) rfl (lv_at hl 2 rfl) ?_
  refine lv_iconst (v := 0) hx hb (dt_of tkX10_clover_k0 5 rfl) (by decide) ?_
  refine lv_iconst (v := 1) hx hb (dt_of tkX10_clover_k0 6 rfl) (by decide) ?_
  refine lv_aload_n hx hb (dt_of tkX10_clover_k0 7 rfl) rfl (lv_at hl 0 rfl) ?_
  refine va_get (D := (dC, dI)) (ci := 10) (v := .ref a0_ground) (C := RX10) (T := TX10) (N := 19) hx hb hts ui_X10_clover_X10 hown hK hP 0 rfl rfl 1 (by decide) (hts _ uw_X10_clover_f19) (fun _ h9 => h9) rfl (dt_of tkX10_clover_k0 8 rfl) ?_
  refine va_get (D := (dC, dI)) (ci := 2) (v := .int v0_ground_hares) (C := RX2) (T := TX2) (N := 12) hx hb hts ui_X10_clover_X2 hown hK hP 1 rfl rfl 9 (by decide) (hts _ uw_X10_clover_f141) (fun _ h9 => h9) rfl (dt_of tkX10_clover_k0 9 rfl) ?_
  refine lv_ishl hx hb (dt_of tkX10_clover_k0 10 rfl) ?_
  refine lv_iconst (v := 1) hx hb (dt_of tkX10_clover_k0 11 rfl) (by decide) ?_
  refine lv_isub hx hb (dt_of tkX10_clover_k0 12 rfl) ?_
  obtain ⟨hCc, hPc, hDc, hFc⟩ := va_pick (ws' := (wd01_36 a0 z0_tape a0_ground z0_spareGround z0_rule z0_spareRule z0_lines z0_spareLines z0_steps a0_now z0_trial z0_past z0_images z0_round z0_seating z0_fitting z0_imagesKept z0_refusedSteps x1 v0_callsIllegal)) hP hD hS hA [0] (by decide +kernel) rfl
  refine vx_callv (vx_runV (As := [.int p2, .int 0, .int ((1 <<< (v0_ground_hares &&& 31)) - 1)]) (rest := []) ⟨hx, hb, hml, hown, hts⟩ (ck_X10_needWithin l dC dI cyB cyI cyJ cyP a0 H.size (z0_tape) (.ref a0_ground) (z0_spareGround) (z0_rule) (z0_spareRule) (z0_lines) (z0_spareLines) (z0_steps) (.ref a0_now) (z0_trial) (z0_past) (z0_images) (z0_round) (z0_seating) (z0_fitting) (z0_imagesKept) (z0_refusedSteps) (.int x1)  v0_callsIllegal p2 0 ((1 <<< (v0_ground_hares &&& 31)) - 1) hw) (cwV 3 hts gX10_clover_X10_needWithin rfl rfl rfl (by decide +kernel) ⟨Nat.le_of_ble_eq_true rfl, Nat.le_of_ble_eq_true rfl⟩) ⟨cPx_blind, va_recv (q := (RX10, TX10, 19)) hK hPc (ci := 10) (q0 := 0) rfl rfl, cPx_pre hPc hK hDc hNw hY hS hFc⟩ rfl rfl hl.1 rfl (lv_room (Nat.le_of_ble_eq_true rfl)) (dt_of tkX10_clover_k0 13 rfl) ⟨Nat.le_of_ble_eq_true rfl, Nat.le_of_ble_eq_true rfl⟩) hS (fun q _ h => hFc q h) hFc (fun q _ h => hFc q h) (fun en ce q9 u t H1 locs ht hvm hpx hB hz1 hk1 hS hc9 hv9 hcl9 => ?_) (fun u t H1 locs ht hvm hw hB hz1 hk1 hS => ?_)
  · obtain ⟨x2, rfl⟩ : ∃ z, z = u := ⟨_, rfl⟩
    obtain ⟨hw, hP1, hK1, hD1⟩ := hB
    rw [ht] at hP1
    obtain ⟨hP, hD⟩ := va_joinN (wr := (wd01_37 a0_ground z0_ground_formX z0_ground_formY z0_ground_foxX z0_ground_foxY z0_ground_seat z0_ground_strength z0_ground_debts z0_ground_near z0_ground_forms v0_ground_hares z0_ground_foxes z0_ground_safe a0_now a0_now_row a0_now_owedEach a0_ground z0_now_law a0_now_row cyI f0_now_row a0_now_owedEach cyI f0_now_owedEach)) (w1 := (wd01_36 a0 z0_tape a0_ground z0_spareGround z0_rule z0_spareRule z0_lines z0_spareLines z0_steps a0_now z0_trial z0_past z0_images z0_round z0_seating z0_fitting z0_imagesKept z0_refusedSteps x1 x2)) (wn := (wd01_33 a0 z0_tape a0_ground z0_spareGround z0_rule z0_spareRule z0_lines z0_spareLines z0_steps a0_now z0_trial z0_past z0_images z0_round z0_seating z0_fitting z0_imagesKept z0_refusedSteps x1 x2 a0_ground z0_ground_formX z0_ground_formY z0_ground_foxX z0_ground_foxY z0_ground_seat z0_ground_strength z0_ground_debts z0_ground_near z0_ground_forms v0_ground_hares z0_ground_foxes z0_ground_safe a0_now a0_now_row a0_now_owedEach a0_ground z0_now_law a0_now_row cyI f0_now_row a0_now_owedEach cyI f0_now_owedEach)) hP hD [0] [1, 2, 3, 4] [4, 0, 1, 2, 3] hCc rfl (by decide +kernel) (by decide +kernel) (by decide +kernel) rfl hk1 hFc hP1 hD1
    generalize H1 = H at hP hS hc9 ⊢
    exact vx_out (fun x hx9 => (hXs.1 x hx9).elim) hlocks hc9 hv9 hcl9 (fun t2 ht2 hal2 => ⟨(x1, x2, f0_now_owedEach), trivial, ⟨hw, by rw [ht2]; exact hP, va_K.moved hal2 hK, hD⟩, hS.F ht2⟩) hS.2.2 (Nat.le_of_ble_eq_true rfl) (Nat.le_of_ble_eq_true rfl)
  obtain ⟨x2, rfl⟩ : ∃ z, z = u := ⟨_, rfl⟩
  obtain ⟨hP1, hK1, hD1⟩ := hB
  rw [ht] at hP1
  obtain ⟨hP, hD⟩ := va_joinN (wr := (wd01_37 a0_ground z0_ground_formX z0_ground_formY z0_ground_foxX z0_ground_foxY z0_ground_seat z0_ground_strength z0_ground_debts z0_ground_near z0_ground_forms v0_ground_hares z0_ground_foxes z0_ground_safe a0_now a0_now_row a0_now_owedEach a0_ground z0_now_law a0_now_row cyI f0_now_row a0_now_owedEach cyI f0_now_owedEach)) (w1 := (wd01_36 a0 z0_tape a0_ground z0_spareGround z0_rule z0_spareRule z0_lines z0_spareLines z0_steps a0_now z0_trial z0_past z0_images z0_round z0_seating z0_fitting z0_imagesKept z0_refusedSteps x1 x2)) (wn := (wd01_33 a0 z0_tape a0_ground z0_spareGround z0_rule z0_spareRule z0_lines z0_spareLines z0_steps a0_now z0_trial z0_past z0_images z0_round z0_seating z0_fitting z0_imagesKept z0_refusedSteps x1 x2 a0_ground z0_ground_formX z0_ground_formY z0_ground_foxX z0_ground_foxY z0_ground_seat z0_ground_strength z0_ground_debts z0_ground_near z0_ground_forms v0_ground_hares z0_ground_foxes z0_ground_safe a0_now a0_now_row a0_now_owedEach a0_ground z0_now_law a0_now_row cyI f0_now_row a0_now_owedEach cyI f0_now_owedEach)) hP hD [0] [1, 2, 3, 4] [4, 0, 1, 2, 3] hCc rfl (by decide +kernel) (by decide +kernel) (by decide +kernel) rfl hk1 hFc hP1 hD1
  generalize H1 = H at hP hS ⊢
  refine lv_aload_n hx hb (dt_of tkX10_clover_k0 14 rfl) rfl (lv_at hl 0 rfl) ?_
  refine lv_iload_n hx hb (dt_of tkX10_clover_k0 15 rfl) rfl (lv_at hl 3 rfl) ?_
  refine lv_iconst (v := 0) hx hb (dt_of tkX10_clover_k24 0 rfl) (by decide) ?_
  refine lv_sipush (v := 999) hx hb (dt_of tkX10_clover_k24 1 rfl) (by decide) ?_
  obtain ⟨hCc, hPc, hDc, hFc⟩ := va_pick (ws' := (wd01_36 a0 z0_tape a0_ground z0_spareGround z0_rule z0_spareRule z0_lines z0_spareLines z0_steps a0_now z0_trial z0_past z0_images z0_round z0_seating z0_fitting z0_imagesKept z0_refusedSteps x1 x2)) hP hD hS hA [0] (by decide +kernel) rfl
  refine vx_callv (vx_runV (As := [.int p3, .int 0, .int 999]) (rest := []) ⟨hx, hb, hml, hown, hts⟩ (ck_X10_needWithin l dC dI cyB cyI cyJ cyP a0 H.size (z0_tape) (.ref a0_ground) (z0_spareGround) (z0_rule) (z0_spareRule) (z0_lines) (z0_spareLines) (z0_steps) (.ref a0_now) (z0_trial) (z0_past) (z0_images) (z0_round) (z0_seating) (z0_fitting) (z0_imagesKept) (z0_refusedSteps) (.int x1)  x2 p3 0 999 hw) (cwV 3 hts gX10_clover_X10_needWithin rfl rfl rfl (by decide +kernel) ⟨Nat.le_of_ble_eq_true rfl, Nat.le_of_ble_eq_true rfl⟩) ⟨cPx_blind, va_recv (q := (RX10, TX10, 19)) hK hPc (ci := 10) (q0 := 0) rfl rfl, cPx_pre hPc hK hDc hNw hY hS hFc⟩ rfl rfl hl.1 rfl (lv_room (Nat.le_of_ble_eq_true rfl)) (dt_of tkX10_clover_k24 2 rfl) ⟨Nat.le_of_ble_eq_true rfl, Nat.le_of_ble_eq_true rfl⟩) hS (fun q _ h => hFc q h) hFc (fun q _ h => hFc q h) (fun en ce q9 u t H1 locs ht hvm hpx hB hz1 hk1 hS hc9 hv9 hcl9 => ?_) (fun u t H1 locs ht hvm hw hB hz1 hk1 hS => ?_)
  · obtain ⟨x3, rfl⟩ : ∃ z, z = u := ⟨_, rfl⟩
    obtain ⟨hw, hP1, hK1, hD1⟩ := hB
    rw [ht] at hP1
    obtain ⟨hP, hD⟩ := va_joinN (wr := (wd01_37 a0_ground z0_ground_formX z0_ground_formY z0_ground_foxX z0_ground_foxY z0_ground_seat z0_ground_strength z0_ground_debts z0_ground_near z0_ground_forms v0_ground_hares z0_ground_foxes z0_ground_safe a0_now a0_now_row a0_now_owedEach a0_ground z0_now_law a0_now_row cyI f0_now_row a0_now_owedEach cyI f0_now_owedEach)) (w1 := (wd01_36 a0 z0_tape a0_ground z0_spareGround z0_rule z0_spareRule z0_lines z0_spareLines z0_steps a0_now z0_trial z0_past z0_images z0_round z0_seating z0_fitting z0_imagesKept z0_refusedSteps x1 x3)) (wn := (wd01_33 a0 z0_tape a0_ground z0_spareGround z0_rule z0_spareRule z0_lines z0_spareLines z0_steps a0_now z0_trial z0_past z0_images z0_round z0_seating z0_fitting z0_imagesKept z0_refusedSteps x1 x3 a0_ground z0_ground_formX z0_ground_formY z0_ground_foxX z0_ground_foxY z0_ground_seat z0_ground_strength z0_ground_debts z0_ground_near z0_ground_forms v0_ground_hares z0_ground_foxes z0_ground_safe a0_now a0_now_row a0_now_owedEach a0_ground z0_now_law a0_now_row cyI f0_now_row a0_now_owedEach cyI f0_now_owedEach)) hP hD [0] [1, 2, 3, 4] [4, 0, 1, 2, 3] hCc rfl (by decide +kernel) (by decide +kernel) (by decide +kernel) rfl hk1 hFc hP1 hD1
    generalize H1 = H at hP hS hc9 ⊢
    exact vx_out (fun x hx9 => (hXs.1 x hx9).elim) hlocks hc9 hv9 hcl9 (fun t2 ht2 hal2 => ⟨(x1, x3, f0_now_owedEach), trivial, ⟨hw, by rw [ht2]; exact hP, va_K.moved hal2 hK, hD⟩, hS.F ht2⟩) hS.2.2 (Nat.le_of_ble_eq_true rfl) (Nat.le_of_ble_eq_true rfl)
  obtain ⟨x3, rfl⟩ : ∃ z, z = u := ⟨_, rfl⟩
  obtain ⟨hP1, hK1, hD1⟩ := hB
  rw [ht] at hP1
  obtain ⟨hP, hD⟩ := va_joinN (wr := (wd01_37 a0_ground z0_ground_formX z0_ground_formY z0_ground_foxX z0_ground_foxY z0_ground_seat z0_ground_strength z0_ground_debts z0_ground_near z0_ground_forms v0_ground_hares z0_ground_foxes z0_ground_safe a0_now a0_now_row a0_now_owedEach a0_ground z0_now_law a0_now_row cyI f0_now_row a0_now_owedEach cyI f0_now_owedEach)) (w1 := (wd01_36 a0 z0_tape a0_ground z0_spareGround z0_rule z0_spareRule z0_lines z0_spareLines z0_steps a0_now z0_trial z0_past z0_images z0_round z0_seating z0_fitting z0_imagesKept z0_refusedSteps x1 x3)) (wn := (wd01_33 a0 z0_tape a0_ground z0_spareGround z0_rule z0_spareRule z0_lines z0_spareLines z0_steps a0_now z0_trial z0_past z0_images z0_round z0_seating z0_fitting z0_imagesKept z0_refusedSteps x1 x3 a0_ground z0_ground_formX z0_ground_formY z0_ground_foxX z0_ground_foxY z0_ground_seat z0_ground_strength z0_ground_debts z0_ground_near z0_ground_forms v0_ground_hares z0_ground_foxes z0_ground_safe a0_now a0_now_row a0_now_owedEach a0_ground z0_now_law a0_now_row cyI f0_now_row a0_now_owedEach cyI f0_now_owedEach)) hP hD [0] [1, 2, 3, 4] [4, 0, 1, 2, 3] hCc rfl (by decide +kernel) (by decide +kernel) (by decide +kernel) rfl hk1 hFc hP1 hD1
  generalize H1 = H at hP hS ⊢
  refine lv_iload_n hx hb (dt_of tkX10_clover_k24 3 rfl) rfl (lv_at hl 2 rfl) ?_
  refine lv_iload_n hx hb (dt_of tkX10_clover_k24 4 rfl) rfl (lv_at hl 1 rfl) ?_
  obtain ⟨hCc, hPc, hDc, hFc⟩ := va_pick (ws' := []) hP hD hS hA [] (by decide +kernel) rfl
  refine va_calli (va_runS (As := [.int p2, .int p1]) (rest := []) ⟨hx, hb, hml, hown, hts⟩ (ck_X10_holds l dC dI cyB cyI cyJ cyP  H.size    p2 p1 hw) (va_cwS 2 hts gX10_clover_X10_holds rfl rfl rfl (by decide +kernel) ⟨Nat.le_of_ble_eq_true rfl, Nat.le_of_ble_eq_true rfl⟩) ⟨cPc_blind, cPc_pre hPc hK hDc hNw⟩ rfl rfl hl.1 rfl (lv_room (Nat.le_of_ble_eq_true rfl)) (dt_of tkX10_clover_k24 5 rfl) ⟨Nat.le_of_ble_eq_true rfl, Nat.le_of_ble_eq_true rfl⟩) hS (fun q _ h => hFc q h) hFc (fun r4 u t H1 locs ht hvm hw hB hz1 hk1 hS => ?_)
  obtain ⟨hP1, hK1, hD1⟩ := hB
  rw [ht] at hP1
  obtain ⟨hP, hD⟩ := va_joinI (wr := (wd01_33 a0 z0_tape a0_ground z0_spareGround z0_rule z0_spareRule z0_lines z0_spareLines z0_steps a0_now z0_trial z0_past z0_images z0_round z0_seating z0_fitting z0_imagesKept z0_refusedSteps x1 x3 a0_ground z0_ground_formX z0_ground_formY z0_ground_foxX z0_ground_foxY z0_ground_seat z0_ground_strength z0_ground_debts z0_ground_near z0_ground_forms v0_ground_hares z0_ground_foxes z0_ground_safe a0_now a0_now_row a0_now_owedEach a0_ground z0_now_law a0_now_row cyI f0_now_row a0_now_owedEach cyI f0_now_owedEach)) (w1 := []) (wn := (wd01_33 a0 z0_tape a0_ground z0_spareGround z0_rule z0_spareRule z0_lines z0_spareLines z0_steps a0_now z0_trial z0_past z0_images z0_round z0_seating z0_fitting z0_imagesKept z0_refusedSteps x1 x3 a0_ground z0_ground_formX z0_ground_formY z0_ground_foxX z0_ground_foxY z0_ground_seat z0_ground_strength z0_ground_debts z0_ground_near z0_ground_forms v0_ground_hares z0_ground_foxes z0_ground_safe a0_now a0_now_row a0_now_owedEach a0_ground z0_now_law a0_now_row cyI f0_now_row a0_now_owedEach cyI f0_now_owedEach)) hP hD [] [0, 1, 2, 3, 4] hCc rfl (by decide +kernel) (by decide +kernel) rfl hk1 hFc hP1 hD1
  generalize H1 = H at hP hS ⊢
  refine lv_if_eq (tgt := 52) hx hb (dt_of tkX10_clover_k24 6 rfl) (by decide) (fun c5 => ?_) (fun c5 => ?_)
  · have hw := hw.1 c5
    refine lv_iconst (v := 0) hx hb (dt_of tkX10_clover_k24 14 rfl) (by decide) ?_
    exact vx_ret (W.widen (k := 3) (n := 18) (Nat.le_of_ble_eq_true rfl) (Nat.le_of_ble_eq_true rfl) (W.iret (v := 0) hx hb hr (fun t ht hW => ⟨⟨0, (x1, x3, f0_now_owedEach), rfl, hw, by rw [ht]; exact hP, va_K.moved hW.alike hK, hD⟩, hS.F ht⟩) hS.2.2 (dt_of tkX10_clover_k24 15 rfl)))
  · have hw := hw.2 c5
    refine lv_aload_n hx hb (dt_of tkX10_clover_k24 7 rfl) rfl (lv_at hl 0 rfl) ?_
    refine va_get (D := (dC, dI)) (ci := 10) (v := .ref a0_now) (C := RX10) (T := TX10) (N := 19) hx hb hts ui_X10_clover_X10 hown hK hP 0 rfl rfl 8 (by decide) (hts _ uw_X10_clover_f58) (fun _ h9 => h9) rfl (dt_of tkX10_clover_k24 8 rfl) ?_
    refine lv_iload_n hx hb (dt_of tkX10_clover_k24 9 rfl) rfl (lv_at hl 1 rfl) ?_
    refine lv_iload_n hx hb (dt_of tkX10_clover_k24 10 rfl) rfl (lv_at hl 2 rfl) ?_
    refine lv_iload_n hx hb (dt_of tkX10_clover_k24 11 rfl) rfl (lv_at hl 3 rfl) ?_
    obtain ⟨hCc, hPc, hDc, hFc⟩ := va_pick (ws' := (wd01_30 a0_now a0_now_row a0_now_owedEach a0_ground z0_now_law a0_ground z0_ground_formX z0_ground_formY z0_ground_foxX z0_ground_foxY z0_ground_seat z0_ground_strength z0_ground_debts z0_ground_near z0_ground_forms v0_ground_hares z0_ground_foxes z0_ground_safe a0_now_row cyI f0_now_row a0_now_owedEach cyI f0_now_owedEach)) hP hD hS hA [2, 1, 3, 4] (by decide +kernel) rfl
    refine va_calli (va_runV (As := [.int p1, .int p2, .int p3]) (rest := []) ⟨hx, hb, hml, hown, hts⟩ (ck_X1_cloverFor l dC dI cyB cyI cyJ cyP a0_now a0_ground a0_now_owedEach a0_now_row H.size (z0_now_law) (z0_ground_formX) (z0_ground_formY) (z0_ground_foxX) (z0_ground_foxY) (z0_ground_seat) (z0_ground_strength) (z0_ground_debts) (z0_ground_near) (z0_ground_forms) (z0_ground_foxes) (z0_ground_safe) v0_ground_hares f0_now_row f0_now_owedEach p1 p2 p3 hw) (cwV 3 hts gX10_clover_X1_cloverFor rfl rfl rfl (by decide +kernel) ⟨Nat.le_of_ble_eq_true rfl, Nat.le_of_ble_eq_true rfl⟩) ⟨cPc_blind, va_recv (q := (RX1, TX1, 4)) hK hPc (ci := 1) (q0 := 0) rfl rfl, cPc_pre hPc hK hDc hNw⟩ rfl rfl hl.1 rfl (lv_room (Nat.le_of_ble_eq_true rfl)) (dt_of tkX10_clover_k24 12 rfl) ⟨Nat.le_of_ble_eq_true rfl, Nat.le_of_ble_eq_true rfl⟩) hS (fun q _ h => hFc q h) hFc (fun r7 u t H1 locs ht hvm hw hB hz1 hk1 hS => ?_)
    obtain ⟨f6, rfl⟩ : ∃ z, z = u := ⟨_, rfl⟩
    obtain ⟨hP1, hK1, hD1⟩ := hB
    rw [ht] at hP1
    obtain ⟨hP, hD⟩ := va_joinN (wr := (wd01_36 a0 z0_tape a0_ground z0_spareGround z0_rule z0_spareRule z0_lines z0_spareLines z0_steps a0_now z0_trial z0_past z0_images z0_round z0_seating z0_fitting z0_imagesKept z0_refusedSteps x1 x3)) (w1 := (wd01_30 a0_now a0_now_row a0_now_owedEach a0_ground z0_now_law a0_ground z0_ground_formX z0_ground_formY z0_ground_foxX z0_ground_foxY z0_ground_seat z0_ground_strength z0_ground_debts z0_ground_near z0_ground_forms v0_ground_hares z0_ground_foxes z0_ground_safe a0_now_row cyI f0_now_row a0_now_owedEach cyI f6)) (wn := (wd01_33 a0 z0_tape a0_ground z0_spareGround z0_rule z0_spareRule z0_lines z0_spareLines z0_steps a0_now z0_trial z0_past z0_images z0_round z0_seating z0_fitting z0_imagesKept z0_refusedSteps x1 x3 a0_ground z0_ground_formX z0_ground_formY z0_ground_foxX z0_ground_foxY z0_ground_seat z0_ground_strength z0_ground_debts z0_ground_near z0_ground_forms v0_ground_hares z0_ground_foxes z0_ground_safe a0_now a0_now_row a0_now_owedEach a0_ground z0_now_law a0_now_row cyI f0_now_row a0_now_owedEach cyI f6)) hP hD [2, 1, 3, 4] [0] [0, 2, 1, 3, 4] hCc rfl (by decide +kernel) (by decide +kernel) (by decide +kernel) rfl hk1 hFc hP1 hD1
    generalize H1 = H at hP hS ⊢
    refine lv_goto (tgt := 53) hx hb (dt_of tkX10_clover_k24 13 rfl) (by decide) ?_
    exact vx_ret (W.widen (k := 3) (n := 18) (Nat.le_of_ble_eq_true rfl) (Nat.le_of_ble_eq_true rfl) (W.iret (v := r7) hx hb hr (fun t ht hW => ⟨⟨r7, (x1, x3, f6), rfl, hw, by rw [ht]; exact hP, va_K.moved hW.alike hK, hD⟩, hS.F ht⟩) hS.2.2 (dt_of tkX10_clover_k24 15 rfl)))
theorem uw_L_clover_ct13 : (.classLink RL 13 "java/lang/IllegalArgumentException" : Cond) ∈ wsL_clover := mbL_clover 595 (by decide +kernel)
theorem uw_L_clover_ct31 : (.classLink RL 31 "java/util/NoSuchElementException" : Cond) ∈ wsL_clover := mbL_clover 2639 (by decide +kernel)
theorem uw_L_clover_cw : (.codeWith yL_clover cL_clover 6 (some .int) [(0, 12, 15, 31), (0, 12, 19, 13)] : Cond) ∈ wsL_clover := mbL_clover 3799 (by decide +kernel)
set_option maxHeartbeats 4000000 in
set_option maxRecDepth 100000 in
theorem ck_L_clover (l : Launch) (dC : Nat → ClassId) (dI : Nat → Nat → Nat) (cyB cyI cyJ cyP : ClassId) (a0 a4 a0_ground a0_now a0_now_row a0_now_owedEach : Nat) (sz : Nat) (z0_tape : Value) (z0_spareGround : Value) (z0_rule : Value) (z0_spareRule : Value) (z0_lines : Value) (z0_spareLines : Value) (z0_steps : Value) (z0_trial : Value) (z0_past : Value) (z0_images : Value) (z0_round : Value) (z0_seating : Value) (z0_fitting : Value) (z0_imagesKept : Value) (z0_refusedSteps : Value) (z0_ground_formX : Value) (z0_ground_formY : Value) (z0_ground_foxX : Value) (z0_ground_foxY : Value) (z0_ground_seat : Value) (z0_ground_strength : Value) (z0_ground_debts : Value) (z0_ground_near : Value) (z0_ground_forms : Value) (z0_ground_foxes : Value) (z0_ground_safe : Value) (z0_now_law : Value) (n4 : Nat) (v0_ground_hares : Int32) (f0_now_row : Nat → Int32) (v0_callsNoSuch : Int32) (v0_callsIllegal : Int32) (f0_now_owedEach : Nat → Int32) (f4 : Nat → Int64) (p1 : Int32) (p2 : Int32) (p3 : Int32) {Q : Int32 → Int32 → Int32 → (Nat → Int32) → (Nat → Int64) → Prop} (hw : wq_L_clover n4 v0_ground_hares f0_now_row v0_callsNoSuch v0_callsIllegal f0_now_owedEach f4 p1 p2 p3 Q) : Met l yL_clover wsL_clover ({ frames := 9, cells := 3, slots := 18, locals := 187 }) (va_Pc [.ref a0, .int p1, .int p2, .int p3, .ref a4] (cPx l (dC, dI) (kT cyB cyI cyJ cyP) (wd01_38 a0 z0_tape a0_ground z0_spareGround z0_rule z0_spareRule z0_lines z0_spareLines z0_steps a0_now z0_trial z0_past z0_images z0_round z0_seating z0_fitting z0_imagesKept z0_refusedSteps v0_callsNoSuch v0_callsIllegal a0_ground z0_ground_formX z0_ground_formY z0_ground_foxX z0_ground_foxY z0_ground_seat z0_ground_strength z0_ground_debts z0_ground_near z0_ground_forms v0_ground_hares z0_ground_foxes z0_ground_safe a0_now a0_now_row a0_now_owedEach a0_ground z0_now_law a0_now_row cyI f0_now_row a0_now_owedEach cyI f0_now_owedEach a4 cyJ n4 f4) sz)) (va_Qi (fun (r : Int32) (u : Int32 × Int32 × (Nat → Int32) × (Nat → Int64)) => Q r u.1 u.2.1 u.2.2.1 u.2.2.2) (cB (dC, dI) (kT cyB cyI cyJ cyP) (va_A (wd01_38 a0 z0_tape a0_ground z0_spareGround z0_rule z0_spareRule z0_lines z0_spareLines z0_steps a0_now z0_trial z0_past z0_images z0_round z0_seating z0_fitting z0_imagesKept z0_refusedSteps v0_callsNoSuch v0_callsIllegal a0_ground z0_ground_formX z0_ground_formY z0_ground_foxX z0_ground_foxY z0_ground_seat z0_ground_strength z0_ground_debts z0_ground_near z0_ground_forms v0_ground_hares z0_ground_foxes z0_ground_safe a0_now a0_now_row a0_now_owedEach a0_ground z0_now_law a0_now_row cyI f0_now_row a0_now_owedEach cyI f0_now_owedEach a4 cyJ n4 f4) sz) (fun u : Int32 × Int32 × (Nat → Int32) × (Nat → Int64) => ((wd01_38 a0 z0_tape a0_ground z0_spareGround z0_rule z0_spareRule z0_lines z0_spareLines z0_steps a0_now z0_trial z0_past z0_images z0_round z0_seating z0_fitting z0_imagesKept z0_refusedSteps u.1 u.2.1 a0_ground z0_ground_formX z0_ground_formY z0_ground_foxX z0_ground_foxY z0_ground_seat z0_ground_strength z0_ground_debts z0_ground_near z0_ground_forms v0_ground_hares z0_ground_foxes z0_ground_safe a0_now a0_now_row a0_now_owedEach a0_ground z0_now_law a0_now_row cyI f0_now_row a0_now_owedEach cyI u.2.2.1 a4 cyJ n4 u.2.2.2) : va_W))) (va_A (wd01_38 a0 z0_tape a0_ground z0_spareGround z0_rule z0_spareRule z0_lines z0_spareLines z0_steps a0_now z0_trial z0_past z0_images z0_round z0_seating z0_fitting z0_imagesKept z0_refusedSteps v0_callsNoSuch v0_callsIllegal a0_ground z0_ground_formX z0_ground_formY z0_ground_foxX z0_ground_foxY z0_ground_seat z0_ground_strength z0_ground_debts z0_ground_near z0_ground_forms v0_ground_hares z0_ground_foxes z0_ground_safe a0_now a0_now_row a0_now_owedEach a0_ground z0_now_law a0_now_row cyI f0_now_row a0_now_owedEach cyI f0_now_owedEach a4 cyJ n4 f4) sz)) 3 18 (va_A (wd01_38 a0 z0_tape a0_ground z0_spareGround z0_rule z0_spareRule z0_lines z0_spareLines z0_steps a0_now z0_trial z0_past z0_images z0_round z0_seating z0_fitting z0_imagesKept z0_refusedSteps v0_callsNoSuch v0_callsIllegal a0_ground z0_ground_formX z0_ground_formY z0_ground_foxX z0_ground_foxY z0_ground_seat z0_ground_strength z0_ground_debts z0_ground_near z0_ground_forms v0_ground_hares z0_ground_foxes z0_ground_safe a0_now a0_now_row a0_now_owedEach a0_ground z0_now_law a0_now_row cyI f0_now_row a0_now_owedEach cyI f0_now_owedEach a4 cyJ n4 f4) sz) := by
  refine va_MetW (cc := cL_clover) (maxL := 6) (ret := (some .int)) (by decide) rfl ?_
  intro p e s m args below meth c s₁ B hml hv
  obtain ⟨rfl, hsz, hP, hK, hD0, hNw, hXl, hXu, hXn, hXt⟩ := hv
  have hx := B.exec
  have hb := B.bytes
  have hr := B.returns
  have hts := atoms_spec (ws := wsL_clover) B.pre
  have hown : s.vm.findClass RL = some m.cls := findClass_of_methodNamed B.named
  have hlocks := B.notSynchronized
  subst hsz
  have hD := hD0.self (sz := s.heap.size)
  generalize hAe : va_A (wd01_38 a0 z0_tape a0_ground z0_spareGround z0_rule z0_spareRule z0_lines z0_spareLines z0_steps a0_now z0_trial z0_past z0_images z0_round z0_seating z0_fitting z0_imagesKept z0_refusedSteps v0_callsNoSuch v0_callsIllegal a0_ground z0_ground_formX z0_ground_formY z0_ground_foxX z0_ground_foxY z0_ground_seat z0_ground_strength z0_ground_debts z0_ground_near z0_ground_forms v0_ground_hares z0_ground_foxes z0_ground_safe a0_now a0_now_row a0_now_owedEach a0_ground z0_now_law a0_now_row cyI f0_now_row a0_now_owedEach cyI f0_now_owedEach a4 cyJ n4 f4) s.heap.size = A at hD hXu hXn ⊢
  have hA : ∀ q : Nat, s.heap.size ≤ q → A q := fun q h => by rw [← hAe]; exact Or.inr h
  have hS : va_S A s.heap s.heap [] := va_S.rf
  have hP : va_P (dC, dI) vwCl (wd01_38 a0 z0_tape a0_ground z0_spareGround z0_rule z0_spareRule z0_lines z0_spareLines z0_steps a0_now z0_trial z0_past z0_images z0_round z0_seating z0_fitting z0_imagesKept z0_refusedSteps v0_callsNoSuch v0_callsIllegal a0_ground z0_ground_formX z0_ground_formY z0_ground_foxX z0_ground_foxY z0_ground_seat z0_ground_strength z0_ground_debts z0_ground_near z0_ground_forms v0_ground_hares z0_ground_foxes z0_ground_safe a0_now a0_now_row a0_now_owedEach a0_ground z0_now_law a0_now_row cyI f0_now_row a0_now_owedEach cyI f0_now_owedEach a4 cyJ n4 f4) s.heap := hP
  have hl := lv_entry ([.ref a0, .int p1, .int p2, .int p3, .ref a4]) (n := 6) (Nat.le_of_ble_eq_true rfl)
  rw [lg_entry_eq]
  generalize (lg_sl ([.ref a0, .int p1, .int p2, .int p3, .ref a4]) ++ List.replicate (6 - (lg_sl ([.ref a0, .int p1, .int p2, .int p3, .ref a4])).length) Slot.unset).toArray = ls at hl ⊢
  have hl : lv_has ls 6 [(0, .ref a0), (1, .int p1), (2, .int p2), (3, .int p3), (4, .ref a4)] := hl
  have hY : cfY l s A := ⟨hXl, hXu, hXn, hXt⟩
  have hTb := vx_table (x := yL_clover) B (hts _ uw_L_clover_cw)
  clear hAe
  obtain ⟨H, hH⟩ : ∃ H, H = s.heap := ⟨_, rfl⟩
  rw [← hH] at hP ⊢
  have hS : va_S A s.heap H [] := by rw [hH]; exact va_S.rf
  have hS := hS
  refine lv_aload hx hb (dt_of tkL_clover_k0 0 rfl) (lv_at hl 4 rfl) ?_
  refine lv_iconst (v := 0) hx hb (dt_of tkL_clover_k0 1 rfl) (by decide) ?_
  refine lv_aload_n hx hb (dt_of tkL_clover_k0 2 rfl) rfl (lv_at hl 0 rfl) ?_
  refine lv_iload_n hx hb (dt_of tkL_clover_k0 3 rfl) rfl (lv_at hl 1 rfl) ?_
  refine lv_iload_n hx hb (dt_of tkL_clover_k0 4 rfl) rfl (lv_at hl 2 rfl) ?_
  refine lv_iload_n hx hb (dt_of tkL_clover_k0 5 rfl) rfl (lv_at hl 3 rfl) ?_
  obtain ⟨hCc, hPc, hDc, hFc⟩ := va_pick (ws' := (wd01_33 a0 z0_tape a0_ground z0_spareGround z0_rule z0_spareRule z0_lines z0_spareLines z0_steps a0_now z0_trial z0_past z0_images z0_round z0_seating z0_fitting z0_imagesKept z0_refusedSteps v0_callsNoSuch v0_callsIllegal a0_ground z0_ground_formX z0_ground_formY z0_ground_foxX z0_ground_foxY z0_ground_seat z0_ground_strength z0_ground_debts z0_ground_near z0_ground_forms v0_ground_hares z0_ground_foxes z0_ground_safe a0_now a0_now_row a0_now_owedEach a0_ground z0_now_law a0_now_row cyI f0_now_row a0_now_owedEach cyI f0_now_owedEach)) hP hD hS hA [0, 1, 2, 3, 4] (by decide +kernel) rfl
  refine vx_calli (vx_runV (As := [.int p1, .int p2, .int p3]) (rest := [.int 0, .ref a4]) ⟨hx, hb, hml, hown, hts⟩ (ck_X10_clover l dC dI cyB cyI cyJ cyP a0 a0_ground a0_now a0_now_row a0_now_owedEach H.size (z0_tape) (z0_spareGround) (z0_rule) (z0_spareRule) (z0_lines) (z0_spareLines) (z0_steps) (z0_trial) (z0_past) (z0_images) (z0_round) (z0_seating) (z0_fitting) (z0_imagesKept) (z0_refusedSteps) (z0_ground_formX) (z0_ground_formY) (z0_ground_foxX) (z0_ground_foxY) (z0_ground_seat) (z0_ground_strength) (z0_ground_debts) (z0_ground_near) (z0_ground_forms) (z0_ground_foxes) (z0_ground_safe) (z0_now_law) v0_ground_hares f0_now_row v0_callsNoSuch v0_callsIllegal f0_now_owedEach p1 p2 p3 hw) (cwV 3 hts gL_clover_X10_clover rfl rfl rfl (by decide +kernel) ⟨Nat.le_of_ble_eq_true rfl, Nat.le_of_ble_eq_true rfl⟩) ⟨cPx_blind, va_recv (q := (RX10, TX10, 19)) hK hPc (ci := 10) (q0 := 0) rfl rfl, cPx_pre hPc hK hDc hNw hY hS hFc⟩ rfl rfl hl.1 rfl (lv_room (Nat.le_of_ble_eq_true rfl)) (dt_of tkL_clover_k0 6 rfl) ⟨Nat.le_of_ble_eq_true rfl, Nat.le_of_ble_eq_true rfl⟩) hS (fun q _ h => hFc q h) hFc (fun q _ h => hFc q h) (fun en ce qx9 u t H1 locs ht hvm hpx hB hz1 hk1 hS hc9 hv9 hcl9 => ?_) (fun r4 u t H1 locs ht hvm hw hB hz1 hk1 hS => ?_)
  · obtain ⟨x1, x2, f3⟩ := u
    obtain ⟨hw, hP1, hK1, hD1⟩ := hB
    rw [ht] at hP1
    obtain ⟨hP, hD⟩ := va_joinN (wr := [(a4, .inl (cyJ, n4, .inr (.inl f4)))]) (w1 := (wd01_33 a0 z0_tape a0_ground z0_spareGround z0_rule z0_spareRule z0_lines z0_spareLines z0_steps a0_now z0_trial z0_past z0_images z0_round z0_seating z0_fitting z0_imagesKept z0_refusedSteps x1 x2 a0_ground z0_ground_formX z0_ground_formY z0_ground_foxX z0_ground_foxY z0_ground_seat z0_ground_strength z0_ground_debts z0_ground_near z0_ground_forms v0_ground_hares z0_ground_foxes z0_ground_safe a0_now a0_now_row a0_now_owedEach a0_ground z0_now_law a0_now_row cyI f0_now_row a0_now_owedEach cyI f3)) (wn := (wd01_38 a0 z0_tape a0_ground z0_spareGround z0_rule z0_spareRule z0_lines z0_spareLines z0_steps a0_now z0_trial z0_past z0_images z0_round z0_seating z0_fitting z0_imagesKept z0_refusedSteps x1 x2 a0_ground z0_ground_formX z0_ground_formY z0_ground_foxX z0_ground_foxY z0_ground_seat z0_ground_strength z0_ground_debts z0_ground_near z0_ground_forms v0_ground_hares z0_ground_foxes z0_ground_safe a0_now a0_now_row a0_now_owedEach a0_ground z0_now_law a0_now_row cyI f0_now_row a0_now_owedEach cyI f3 a4 cyJ n4 f4)) hP hD [0, 1, 2, 3, 4] [5] [1, 2, 3, 4, 5, 0] hCc rfl (by decide +kernel) (by decide +kernel) (by decide +kernel) rfl hk1 hFc hP1 hD1
    generalize H1 = H at hP hS hc9 ⊢
    rcases hw with ⟨rfl, hw⟩ | ⟨rfl, hw⟩
    · refine vx_catch (own := RL) (name := "java/util/NoSuchElementException") hown [] ⟨0, 12, 15, 31⟩ [⟨0, 12, 19, 13⟩] (hTb.trans rfl) (fun z hz => nomatch hz) (by decide) (by decide) (hts _ uw_L_clover_ct31) (va_Nw.use rfl (hY.2.2.2.1.2 _ (List.mem_of_getElem? (i := 1) rfl))) hc9 hv9 hcl9 ?_
      refine lv_astore (lv' := [(5, .ref qx9), (0, .ref a0), (1, .int p1), (2, .int p2), (3, .int p3), (4, .ref a4)]) hx hb (dt_of tkL_clover_k0 10 rfl) hl (by decide) rfl (fun ls hl => ?_)
      refine lv_iconst (v := 1) hx hb (dt_of tkL_clover_k0 11 rfl) (by decide) ?_
      exact (W.widen (k := 3) (n := 18) (Nat.le_of_ble_eq_true rfl) (Nat.le_of_ble_eq_true rfl) (W.iret (v := 1) hx hb hr (fun t ht hW => ⟨⟨1, (x1, x2, f3, f4), rfl, hw, by rw [ht]; exact hP, va_K.moved hW.alike hK, hD⟩, hS.F ht⟩) hS.2.2 (dt_of tkL_clover_k0 12 rfl)))
    · refine vx_catch (own := RL) (name := "java/lang/IllegalArgumentException") hown [⟨0, 12, 15, 31⟩] ⟨0, 12, 19, 13⟩ [] (hTb.trans rfl) (fun z hz => by rw [List.mem_singleton.mp hz]; exact Or.inr ⟨by decide, _, (hts _ uw_L_clover_ct31), hY.2.2.2.2.2⟩) (by decide) (by decide) (hts _ uw_L_clover_ct13) (va_Nw.use rfl (hY.2.2.2.1.2 _ (List.mem_of_getElem? (i := 0) rfl))) hc9 hv9 hcl9 ?_
      refine lv_astore (lv' := [(5, .ref qx9), (0, .ref a0), (1, .int p1), (2, .int p2), (3, .int p3), (4, .ref a4)]) hx hb (dt_of tkL_clover_k0 13 rfl) hl (by decide) rfl (fun ls hl => ?_)
      refine lv_iconst (v := 2) hx hb (dt_of tkL_clover_k0 14 rfl) (by decide) ?_
      exact (W.widen (k := 3) (n := 18) (Nat.le_of_ble_eq_true rfl) (Nat.le_of_ble_eq_true rfl) (W.iret (v := 2) hx hb hr (fun t ht hW => ⟨⟨2, (x1, x2, f3, f4), rfl, hw, by rw [ht]; exact hP, va_K.moved hW.alike hK, hD⟩, hS.F ht⟩) hS.2.2 (dt_of tkL_clover_k0 15 rfl)))
  obtain ⟨x1, x2, f3⟩ := u
  obtain ⟨hP1, hK1, hD1⟩ := hB
  rw [ht] at hP1
  obtain ⟨hP, hD⟩ := va_join (wr := [(a4, .inl (cyJ, n4, .inr (.inl f4)))]) (w1 := (wd01_33 a0 z0_tape a0_ground z0_spareGround z0_rule z0_spareRule z0_lines z0_spareLines z0_steps a0_now z0_trial z0_past z0_images z0_round z0_seating z0_fitting z0_imagesKept z0_refusedSteps x1 x2 a0_ground z0_ground_formX z0_ground_formY z0_ground_foxX z0_ground_foxY z0_ground_seat z0_ground_strength z0_ground_debts z0_ground_near z0_ground_forms v0_ground_hares z0_ground_foxes z0_ground_safe a0_now a0_now_row a0_now_owedEach a0_ground z0_now_law a0_now_row cyI f0_now_row a0_now_owedEach cyI f3)) hP hD [0, 1, 2, 3, 4] [5] rfl rfl (by decide) (by decide) hk1 hFc hP1 hD1
  have hP : va_P (dC, dI) vwCl (wd01_38 a0 z0_tape a0_ground z0_spareGround z0_rule z0_spareRule z0_lines z0_spareLines z0_steps a0_now z0_trial z0_past z0_images z0_round z0_seating z0_fitting z0_imagesKept z0_refusedSteps x1 x2 a0_ground z0_ground_formX z0_ground_formY z0_ground_foxX z0_ground_foxY z0_ground_seat z0_ground_strength z0_ground_debts z0_ground_near z0_ground_forms v0_ground_hares z0_ground_foxes z0_ground_safe a0_now a0_now_row a0_now_owedEach a0_ground z0_now_law a0_now_row cyI f0_now_row a0_now_owedEach cyI f3 a4 cyJ n4 f4) H1 := hP.sub [1, 2, 3, 4, 5, 0] rfl
  have hD : va_D A (wd01_38 a0 z0_tape a0_ground z0_spareGround z0_rule z0_spareRule z0_lines z0_spareLines z0_steps a0_now z0_trial z0_past z0_images z0_round z0_seating z0_fitting z0_imagesKept z0_refusedSteps x1 x2 a0_ground z0_ground_formX z0_ground_formY z0_ground_foxX z0_ground_foxY z0_ground_seat z0_ground_strength z0_ground_debts z0_ground_near z0_ground_forms v0_ground_hares z0_ground_foxes z0_ground_safe a0_now a0_now_row a0_now_owedEach a0_ground z0_now_law a0_now_row cyI f0_now_row a0_now_owedEach cyI f3 a4 cyJ n4 f4) := hD.sub [1, 2, 3, 4, 5, 0] (by decide) rfl
  generalize H1 = H at hP hS ⊢
  refine lv_i2l (v := r4.toInt64) hx hb (dt_of tkL_clover_k0 7 rfl) rfl ?_
  refine lv_topl (fun x5 ex5 => ?_)
  have hw := hw x5 ex5
  obtain ⟨hi9, hw⟩ := hw
  refine va_last hx hb hK hP hD hS 5 2 rfl rfl hi9 (dt_of tkL_clover_k0 8 rfl) (fun H locs hP hD hS => ?_)
  obtain ⟨f6, ef6⟩ : ∃ y : Nat → Int64, y = vp_updL f4 (0 : Int32).toNatClampNeg x5 := ⟨_, rfl⟩
  have hw := hw f6 ef6
  have hP : va_P (dC, dI) vwCl (wd01_38 a0 z0_tape a0_ground z0_spareGround z0_rule z0_spareRule z0_lines z0_spareLines z0_steps a0_now z0_trial z0_past z0_images z0_round z0_seating z0_fitting z0_imagesKept z0_refusedSteps x1 x2 a0_ground z0_ground_formX z0_ground_formY z0_ground_foxX z0_ground_foxY z0_ground_seat z0_ground_strength z0_ground_debts z0_ground_near z0_ground_forms v0_ground_hares z0_ground_foxes z0_ground_safe a0_now a0_now_row a0_now_owedEach a0_ground z0_now_law a0_now_row cyI f0_now_row a0_now_owedEach cyI f3 a4 cyJ n4 f6) H := by rw [ef6]; exact hP
  have hD : va_D A (wd01_38 a0 z0_tape a0_ground z0_spareGround z0_rule z0_spareRule z0_lines z0_spareLines z0_steps a0_now z0_trial z0_past z0_images z0_round z0_seating z0_fitting z0_imagesKept z0_refusedSteps x1 x2 a0_ground z0_ground_formX z0_ground_formY z0_ground_foxX z0_ground_foxY z0_ground_seat z0_ground_strength z0_ground_debts z0_ground_near z0_ground_forms v0_ground_hares z0_ground_foxes z0_ground_safe a0_now a0_now_row a0_now_owedEach a0_ground z0_now_law a0_now_row cyI f0_now_row a0_now_owedEach cyI f3 a4 cyJ n4 f6) := by rw [ef6]; exact hD
  refine lv_goto (tgt := 23) hx hb (dt_of tkL_clover_k0 9 rfl) (by decide) ?_
  refine lv_iconst (v := 0) hx hb (dt_of tkL_clover_k23 0 rfl) (by decide) ?_
  exact (W.widen (k := 3) (n := 18) (Nat.le_of_ble_eq_true rfl) (Nat.le_of_ble_eq_true rfl) (W.iret (v := 0) hx hb hr (fun t ht hW => ⟨⟨0, (x1, x2, f3, f6), rfl, hw, by rw [ht]; exact hP, va_K.moved hW.alike hK, hD⟩, hS.F ht⟩) hS.2.2 (dt_of tkL_clover_k23 1 rfl)))
theorem ui_X10_debt_X10 : ∀ w ∈ u_ws RX10 TX10 19, w ∈ wsX10_debt := uiM mbX10_debt euX10 (by decide +kernel)
theorem uw_X10_debt_f58 : (.fieldLink RX10 58 "MarchHares" "now" "LMarchHares$Days;" : Cond) ∈ wsX10_debt := mbX10_debt 79 (by decide +kernel)
set_option maxHeartbeats 4000000 in
set_option maxRecDepth 100000 in
theorem ck_X10_debt (l : Launch) (dC : Nat → ClassId) (dI : Nat → Nat → Nat) (cyB cyI cyJ cyP : ClassId) (a0 a0_ground a0_now a0_now_row : Nat) (sz : Nat) (z0_tape : Value) (z0_spareGround : Value) (z0_rule : Value) (z0_spareRule : Value) (z0_lines : Value) (z0_spareLines : Value) (z0_steps : Value) (z0_trial : Value) (z0_past : Value) (z0_images : Value) (z0_round : Value) (z0_seating : Value) (z0_fitting : Value) (z0_imagesKept : Value) (z0_refusedSteps : Value) (z0_callsIllegal : Value) (z0_ground_formX : Value) (z0_ground_formY : Value) (z0_ground_foxX : Value) (z0_ground_foxY : Value) (z0_ground_seat : Value) (z0_ground_strength : Value) (z0_ground_debts : Value) (z0_ground_near : Value) (z0_ground_forms : Value) (z0_ground_foxes : Value) (z0_ground_safe : Value) (z0_now_owedEach : Value) (z0_now_down : Value) (z0_now_law : Value) (v0_ground_hares : Int32) (f0_now_row : Nat → Int32) (v0_callsNoSuch : Int32) (p1 : Int32) (p2 : Int32) {E : String → Int32 → Prop} {Q : Int32 → Int32 → Prop} (hw : wq_X10_debt v0_ground_hares f0_now_row v0_callsNoSuch p1 p2 E Q) : vx_Met l yX10_debt wsX10_debt ({ frames := 7, cells := 2, slots := 12, locals := 141 }) (va_Pc [.ref a0, .int p1, .int p2] (cPx l (dC, dI) (kT cyB cyI cyJ cyP) (wd01_39 a0 z0_tape a0_ground z0_spareGround z0_rule z0_spareRule z0_lines z0_spareLines z0_steps a0_now z0_trial z0_past z0_images z0_round z0_seating z0_fitting z0_imagesKept z0_refusedSteps v0_callsNoSuch z0_callsIllegal a0_ground z0_ground_formX z0_ground_formY z0_ground_foxX z0_ground_foxY z0_ground_seat z0_ground_strength z0_ground_debts z0_ground_near z0_ground_forms v0_ground_hares z0_ground_foxes z0_ground_safe a0_now a0_now_row z0_now_owedEach z0_now_down z0_now_law a0_now_row cyI f0_now_row) sz)) (va_Qi (fun (r : Int32) (u : Int32) => Q r u) (cB (dC, dI) (kT cyB cyI cyJ cyP) (va_A (wd01_39 a0 z0_tape a0_ground z0_spareGround z0_rule z0_spareRule z0_lines z0_spareLines z0_steps a0_now z0_trial z0_past z0_images z0_round z0_seating z0_fitting z0_imagesKept z0_refusedSteps v0_callsNoSuch z0_callsIllegal a0_ground z0_ground_formX z0_ground_formY z0_ground_foxX z0_ground_foxY z0_ground_seat z0_ground_strength z0_ground_debts z0_ground_near z0_ground_forms v0_ground_hares z0_ground_foxes z0_ground_safe a0_now a0_now_row z0_now_owedEach z0_now_down z0_now_law a0_now_row cyI f0_now_row) sz) (fun u : Int32 => ((wd01_39 a0 z0_tape a0_ground z0_spareGround z0_rule z0_spareRule z0_lines z0_spareLines z0_steps a0_now z0_trial z0_past z0_images z0_round z0_seating z0_fitting z0_imagesKept z0_refusedSteps u z0_callsIllegal a0_ground z0_ground_formX z0_ground_formY z0_ground_foxX z0_ground_foxY z0_ground_seat z0_ground_strength z0_ground_debts z0_ground_near z0_ground_forms v0_ground_hares z0_ground_foxes z0_ground_safe a0_now a0_now_row z0_now_owedEach z0_now_down z0_now_law a0_now_row cyI f0_now_row) : va_W))) (va_A (wd01_39 a0 z0_tape a0_ground z0_spareGround z0_rule z0_spareRule z0_lines z0_spareLines z0_steps a0_now z0_trial z0_past z0_images z0_round z0_seating z0_fitting z0_imagesKept z0_refusedSteps v0_callsNoSuch z0_callsIllegal a0_ground z0_ground_formX z0_ground_formY z0_ground_foxX z0_ground_foxY z0_ground_seat z0_ground_strength z0_ground_debts z0_ground_near z0_ground_forms v0_ground_hares z0_ground_foxes z0_ground_safe a0_now a0_now_row z0_now_owedEach z0_now_down z0_now_law a0_now_row cyI f0_now_row) sz)) (vx_X (fun _ => True) (fun (en : String) (u : Int32) (t : State) => E en u ∧ cB (dC, dI) (kT cyB cyI cyJ cyP) (va_A (wd01_39 a0 z0_tape a0_ground z0_spareGround z0_rule z0_spareRule z0_lines z0_spareLines z0_steps a0_now z0_trial z0_past z0_images z0_round z0_seating z0_fitting z0_imagesKept z0_refusedSteps v0_callsNoSuch z0_callsIllegal a0_ground z0_ground_formX z0_ground_formY z0_ground_foxX z0_ground_foxY z0_ground_seat z0_ground_strength z0_ground_debts z0_ground_near z0_ground_forms v0_ground_hares z0_ground_foxes z0_ground_safe a0_now a0_now_row z0_now_owedEach z0_now_down z0_now_law a0_now_row cyI f0_now_row) sz) (fun u : Int32 => ((wd01_39 a0 z0_tape a0_ground z0_spareGround z0_rule z0_spareRule z0_lines z0_spareLines z0_steps a0_now z0_trial z0_past z0_images z0_round z0_seating z0_fitting z0_imagesKept z0_refusedSteps u z0_callsIllegal a0_ground z0_ground_formX z0_ground_formY z0_ground_foxX z0_ground_foxY z0_ground_seat z0_ground_strength z0_ground_debts z0_ground_near z0_ground_forms v0_ground_hares z0_ground_foxes z0_ground_safe a0_now a0_now_row z0_now_owedEach z0_now_down z0_now_law a0_now_row cyI f0_now_row) : va_W)) u t) (va_A (wd01_39 a0 z0_tape a0_ground z0_spareGround z0_rule z0_spareRule z0_lines z0_spareLines z0_steps a0_now z0_trial z0_past z0_images z0_round z0_seating z0_fitting z0_imagesKept z0_refusedSteps v0_callsNoSuch z0_callsIllegal a0_ground z0_ground_formX z0_ground_formY z0_ground_foxX z0_ground_foxY z0_ground_seat z0_ground_strength z0_ground_debts z0_ground_near z0_ground_forms v0_ground_hares z0_ground_foxes z0_ground_safe a0_now a0_now_row z0_now_owedEach z0_now_down z0_now_law a0_now_row cyI f0_now_row) sz)) 2 12 (va_A (wd01_39 a0 z0_tape a0_ground z0_spareGround z0_rule z0_spareRule z0_lines z0_spareLines z0_steps a0_now z0_trial z0_past z0_images z0_round z0_seating z0_fitting z0_imagesKept z0_refusedSteps v0_callsNoSuch z0_callsIllegal a0_ground z0_ground_formX z0_ground_formY z0_ground_foxX z0_ground_foxY z0_ground_seat z0_ground_strength z0_ground_debts z0_ground_near z0_ground_forms v0_ground_hares z0_ground_foxes z0_ground_safe a0_now a0_now_row z0_now_owedEach z0_now_down z0_now_law a0_now_row cyI f0_now_row) sz) := by
  refine vx_ofW (cc := cX10_debt) (maxL := 3) (ret := (some .int)) (by decide) rfl ?_
  intro p e s m args below meth c s₁ B hml hnt hv
  obtain ⟨rfl, hsz, hP, hK, hD0, hNw, hXl, hXu, hXn, hXt⟩ := hv
  have hx := B.exec
  have hb := B.bytes
  have hr := B.returns
  have hts := atoms_spec (ws := wsX10_debt) B.pre
  have hown : s.vm.findClass RX10 = some m.cls := findClass_of_methodNamed B.named
  have hlocks := B.notSynchronized
  subst hsz
  have hD := hD0.self (sz := s.heap.size)
  generalize hAe : va_A (wd01_39 a0 z0_tape a0_ground z0_spareGround z0_rule z0_spareRule z0_lines z0_spareLines z0_steps a0_now z0_trial z0_past z0_images z0_round z0_seating z0_fitting z0_imagesKept z0_refusedSteps v0_callsNoSuch z0_callsIllegal a0_ground z0_ground_formX z0_ground_formY z0_ground_foxX z0_ground_foxY z0_ground_seat z0_ground_strength z0_ground_debts z0_ground_near z0_ground_forms v0_ground_hares z0_ground_foxes z0_ground_safe a0_now a0_now_row z0_now_owedEach z0_now_down z0_now_law a0_now_row cyI f0_now_row) s.heap.size = A at hD hXu hXn ⊢
  have hA : ∀ q : Nat, s.heap.size ≤ q → A q := fun q h => by rw [← hAe]; exact Or.inr h
  have hS : va_S A s.heap s.heap [] := va_S.rf
  have hP : va_P (dC, dI) vwCl (wd01_39 a0 z0_tape a0_ground z0_spareGround z0_rule z0_spareRule z0_lines z0_spareLines z0_steps a0_now z0_trial z0_past z0_images z0_round z0_seating z0_fitting z0_imagesKept z0_refusedSteps v0_callsNoSuch z0_callsIllegal a0_ground z0_ground_formX z0_ground_formY z0_ground_foxX z0_ground_foxY z0_ground_seat z0_ground_strength z0_ground_debts z0_ground_near z0_ground_forms v0_ground_hares z0_ground_foxes z0_ground_safe a0_now a0_now_row z0_now_owedEach z0_now_down z0_now_law a0_now_row cyI f0_now_row) s.heap := hP
  have hl := lv_entry ([.ref a0, .int p1, .int p2]) (n := 3) (Nat.le_of_ble_eq_true rfl)
  rw [lg_entry_eq]
  generalize (lg_sl ([.ref a0, .int p1, .int p2]) ++ List.replicate (3 - (lg_sl ([.ref a0, .int p1, .int p2])).length) Slot.unset).toArray = ls at hl ⊢
  have hl : lv_has ls 3 [(0, .ref a0), (1, .int p1), (2, .int p2)] := hl
  have hY : cfY l s A := ⟨hXl, hXu, hXn, hXt⟩
  have hXs : cfX l s c A := ⟨hnt, hY⟩
  have C0 : cfx p s m _ meth c cX10_debt (some .int) wsX10_debt RX10 3 A (dC, dI) (kT cyB cyI cyJ cyP) ∧ cfX l s c A := ⟨⟨hx, hb, hr, hts, hown, hlocks, hml, hA, hK, hNw⟩, hXs⟩
  clear hAe
  obtain ⟨H, hH⟩ : ∃ H, H = s.heap := ⟨_, rfl⟩
  rw [← hH] at hP ⊢
  have hS : va_S A s.heap H [] := by rw [hH]; exact va_S.rf
  have hS := hS
  refine lv_aload_n hx hb (dt_of tkX10_debt_k0 0 rfl) rfl (lv_at hl 0 rfl) ?_
  refine lv_iload_n hx hb (dt_of tkX10_debt_k0 1 rfl) rfl (lv_at hl 1 rfl) ?_
  obtain ⟨hCc, hPc, hDc, hFc⟩ := va_pick (ws' := (wd01_2 a0 z0_tape a0_ground z0_spareGround z0_rule z0_spareRule z0_lines z0_spareLines z0_steps a0_now z0_trial z0_past z0_images z0_round z0_seating z0_fitting z0_imagesKept z0_refusedSteps v0_callsNoSuch z0_callsIllegal a0_ground z0_ground_formX z0_ground_formY z0_ground_foxX z0_ground_foxY z0_ground_seat z0_ground_strength z0_ground_debts z0_ground_near z0_ground_forms v0_ground_hares z0_ground_foxes z0_ground_safe)) hP hD hS hA [0, 1] (by decide +kernel) rfl
  refine vx_callv (vx_runV (As := [.int p1]) (rest := []) ⟨hx, hb, hml, hown, hts⟩ (ck_X10_needHare l dC dI cyB cyI cyJ cyP a0 a0_ground H.size (z0_tape) (z0_spareGround) (z0_rule) (z0_spareRule) (z0_lines) (z0_spareLines) (z0_steps) (.ref a0_now) (z0_trial) (z0_past) (z0_images) (z0_round) (z0_seating) (z0_fitting) (z0_imagesKept) (z0_refusedSteps) (z0_callsIllegal) (z0_ground_formX) (z0_ground_formY) (z0_ground_foxX) (z0_ground_foxY) (z0_ground_seat) (z0_ground_strength) (z0_ground_debts) (z0_ground_near) (z0_ground_forms) (z0_ground_foxes) (z0_ground_safe) v0_ground_hares v0_callsNoSuch p1 hw) (cwV 1 hts gX10_debt_X10_needHare rfl rfl rfl (by decide +kernel) ⟨Nat.le_of_ble_eq_true rfl, Nat.le_of_ble_eq_true rfl⟩) ⟨cPx_blind, va_recv (q := (RX10, TX10, 19)) hK hPc (ci := 10) (q0 := 0) rfl rfl, cPx_pre hPc hK hDc hNw hY hS hFc⟩ rfl rfl hl.1 rfl (lv_room (Nat.le_of_ble_eq_true rfl)) (dt_of tkX10_debt_k0 2 rfl) ⟨Nat.le_of_ble_eq_true rfl, Nat.le_of_ble_eq_true rfl⟩) hS (fun q _ h => hFc q h) hFc (fun q _ h => hFc q h) (fun en ce q9 u t H1 locs ht hvm hpx hB hz1 hk1 hS hc9 hv9 hcl9 => ?_) (fun u t H1 locs ht hvm hw hB hz1 hk1 hS => ?_)
  · obtain ⟨x1, rfl⟩ : ∃ z, z = u := ⟨_, rfl⟩
    obtain ⟨hw, hP1, hK1, hD1⟩ := hB
    rw [ht] at hP1
    obtain ⟨hP, hD⟩ := va_joinN (wr := (wd01_10 a0_now a0_now_row z0_now_owedEach z0_now_down z0_now_law a0_now_row cyI f0_now_row)) (w1 := (wd01_2 a0 z0_tape a0_ground z0_spareGround z0_rule z0_spareRule z0_lines z0_spareLines z0_steps a0_now z0_trial z0_past z0_images z0_round z0_seating z0_fitting z0_imagesKept z0_refusedSteps x1 z0_callsIllegal a0_ground z0_ground_formX z0_ground_formY z0_ground_foxX z0_ground_foxY z0_ground_seat z0_ground_strength z0_ground_debts z0_ground_near z0_ground_forms v0_ground_hares z0_ground_foxes z0_ground_safe)) (wn := (wd01_39 a0 z0_tape a0_ground z0_spareGround z0_rule z0_spareRule z0_lines z0_spareLines z0_steps a0_now z0_trial z0_past z0_images z0_round z0_seating z0_fitting z0_imagesKept z0_refusedSteps x1 z0_callsIllegal a0_ground z0_ground_formX z0_ground_formY z0_ground_foxX z0_ground_foxY z0_ground_seat z0_ground_strength z0_ground_debts z0_ground_near z0_ground_forms v0_ground_hares z0_ground_foxes z0_ground_safe a0_now a0_now_row z0_now_owedEach z0_now_down z0_now_law a0_now_row cyI f0_now_row)) hP hD [0, 1] [2, 3] [2, 3, 0, 1] hCc rfl (by decide +kernel) (by decide +kernel) (by decide +kernel) rfl hk1 hFc hP1 hD1
    generalize H1 = H at hP hS hc9 ⊢
    exact vx_out (fun x hx9 => (hXs.1 x hx9).elim) hlocks hc9 hv9 hcl9 (fun t2 ht2 hal2 => ⟨(x1), trivial, ⟨hw, by rw [ht2]; exact hP, va_K.moved hal2 hK, hD⟩, hS.F ht2⟩) hS.2.2 (Nat.le_of_ble_eq_true rfl) (Nat.le_of_ble_eq_true rfl)
  obtain ⟨x1, rfl⟩ : ∃ z, z = u := ⟨_, rfl⟩
  obtain ⟨hP1, hK1, hD1⟩ := hB
  rw [ht] at hP1
  obtain ⟨hP, hD⟩ := va_joinN (wr := (wd01_10 a0_now a0_now_row z0_now_owedEach z0_now_down z0_now_law a0_now_row cyI f0_now_row)) (w1 := (wd01_2 a0 z0_tape a0_ground z0_spareGround z0_rule z0_spareRule z0_lines z0_spareLines z0_steps a0_now z0_trial z0_past z0_images z0_round z0_seating z0_fitting z0_imagesKept z0_refusedSteps x1 z0_callsIllegal a0_ground z0_ground_formX z0_ground_formY z0_ground_foxX z0_ground_foxY z0_ground_seat z0_ground_strength z0_ground_debts z0_ground_near z0_ground_forms v0_ground_hares z0_ground_foxes z0_ground_safe)) (wn := (wd01_39 a0 z0_tape a0_ground z0_spareGround z0_rule z0_spareRule z0_lines z0_spareLines z0_steps a0_now z0_trial z0_past z0_images z0_round z0_seating z0_fitting z0_imagesKept z0_refusedSteps x1 z0_callsIllegal a0_ground z0_ground_formX z0_ground_formY z0_ground_foxX z0_ground_foxY z0_ground_seat z0_ground_strength z0_ground_debts z0_ground_near z0_ground_forms v0_ground_hares z0_ground_foxes z0_ground_safe a0_now a0_now_row z0_now_owedEach z0_now_down z0_now_law a0_now_row cyI f0_now_row)) hP hD [0, 1] [2, 3] [2, 3, 0, 1] hCc rfl (by decide +kernel) (by decide +kernel) (by decide +kernel) rfl hk1 hFc hP1 hD1
  generalize H1 = H at hP hS ⊢
  refine lv_aload_n hx hb (dt_of tkX10_debt_k0 3 rfl) rfl (lv_at hl 0 rfl) ?_
  refine lv_iload_n hx hb (dt_of tkX10_debt_k0 4 rfl) rfl (lv_at hl 2 rfl) ?_
  obtain ⟨hCc, hPc, hDc, hFc⟩ := va_pick (ws' := (wd01_2 a0 z0_tape a0_ground z0_spareGround z0_rule z0_spareRule z0_lines z0_spareLines z0_steps a0_now z0_trial z0_past z0_images z0_round z0_seating z0_fitting z0_imagesKept z0_refusedSteps x1 z0_callsIllegal a0_ground z0_ground_formX z0_ground_formY z0_ground_foxX z0_ground_foxY z0_ground_seat z0_ground_strength z0_ground_debts z0_ground_near z0_ground_forms v0_ground_hares z0_ground_foxes z0_ground_safe)) hP hD hS hA [0, 1] (by decide +kernel) rfl
  refine vx_callv (vx_runV (As := [.int p2]) (rest := []) ⟨hx, hb, hml, hown, hts⟩ (ck_X10_needHare l dC dI cyB cyI cyJ cyP a0 a0_ground H.size (z0_tape) (z0_spareGround) (z0_rule) (z0_spareRule) (z0_lines) (z0_spareLines) (z0_steps) (.ref a0_now) (z0_trial) (z0_past) (z0_images) (z0_round) (z0_seating) (z0_fitting) (z0_imagesKept) (z0_refusedSteps) (z0_callsIllegal) (z0_ground_formX) (z0_ground_formY) (z0_ground_foxX) (z0_ground_foxY) (z0_ground_seat) (z0_ground_strength) (z0_ground_debts) (z0_ground_near) (z0_ground_forms) (z0_ground_foxes) (z0_ground_safe) v0_ground_hares x1 p2 hw) (cwV 1 hts gX10_debt_X10_needHare rfl rfl rfl (by decide +kernel) ⟨Nat.le_of_ble_eq_true rfl, Nat.le_of_ble_eq_true rfl⟩) ⟨cPx_blind, va_recv (q := (RX10, TX10, 19)) hK hPc (ci := 10) (q0 := 0) rfl rfl, cPx_pre hPc hK hDc hNw hY hS hFc⟩ rfl rfl hl.1 rfl (lv_room (Nat.le_of_ble_eq_true rfl)) (dt_of tkX10_debt_k0 5 rfl) ⟨Nat.le_of_ble_eq_true rfl, Nat.le_of_ble_eq_true rfl⟩) hS (fun q _ h => hFc q h) hFc (fun q _ h => hFc q h) (fun en ce q9 u t H1 locs ht hvm hpx hB hz1 hk1 hS hc9 hv9 hcl9 => ?_) (fun u t H1 locs ht hvm hw hB hz1 hk1 hS => ?_)
  · obtain ⟨x2, rfl⟩ : ∃ z, z = u := ⟨_, rfl⟩
    obtain ⟨hw, hP1, hK1, hD1⟩ := hB
    rw [ht] at hP1
    obtain ⟨hP, hD⟩ := va_joinN (wr := (wd01_10 a0_now a0_now_row z0_now_owedEach z0_now_down z0_now_law a0_now_row cyI f0_now_row)) (w1 := (wd01_2 a0 z0_tape a0_ground z0_spareGround z0_rule z0_spareRule z0_lines z0_spareLines z0_steps a0_now z0_trial z0_past z0_images z0_round z0_seating z0_fitting z0_imagesKept z0_refusedSteps x2 z0_callsIllegal a0_ground z0_ground_formX z0_ground_formY z0_ground_foxX z0_ground_foxY z0_ground_seat z0_ground_strength z0_ground_debts z0_ground_near z0_ground_forms v0_ground_hares z0_ground_foxes z0_ground_safe)) (wn := (wd01_39 a0 z0_tape a0_ground z0_spareGround z0_rule z0_spareRule z0_lines z0_spareLines z0_steps a0_now z0_trial z0_past z0_images z0_round z0_seating z0_fitting z0_imagesKept z0_refusedSteps x2 z0_callsIllegal a0_ground z0_ground_formX z0_ground_formY z0_ground_foxX z0_ground_foxY z0_ground_seat z0_ground_strength z0_ground_debts z0_ground_near z0_ground_forms v0_ground_hares z0_ground_foxes z0_ground_safe a0_now a0_now_row z0_now_owedEach z0_now_down z0_now_law a0_now_row cyI f0_now_row)) hP hD [0, 1] [2, 3] [2, 3, 0, 1] hCc rfl (by decide +kernel) (by decide +kernel) (by decide +kernel) rfl hk1 hFc hP1 hD1
    generalize H1 = H at hP hS hc9 ⊢
    exact vx_out (fun x hx9 => (hXs.1 x hx9).elim) hlocks hc9 hv9 hcl9 (fun t2 ht2 hal2 => ⟨(x2), trivial, ⟨hw, by rw [ht2]; exact hP, va_K.moved hal2 hK, hD⟩, hS.F ht2⟩) hS.2.2 (Nat.le_of_ble_eq_true rfl) (Nat.le_of_ble_eq_true rfl)
  obtain ⟨x2, rfl⟩ : ∃ z, z = u := ⟨_, rfl⟩
  obtain ⟨hP1, hK1, hD1⟩ := hB
  rw [ht] at hP1
  obtain ⟨hP, hD⟩ := va_joinN (wr := (wd01_10 a0_now a0_now_row z0_now_owedEach z0_now_down z0_now_law a0_now_row cyI f0_now_row)) (w1 := (wd01_2 a0 z0_tape a0_ground z0_spareGround z0_rule z0_spareRule z0_lines z0_spareLines z0_steps a0_now z0_trial z0_past z0_images z0_round z0_seating z0_fitting z0_imagesKept z0_refusedSteps x2 z0_callsIllegal a0_ground z0_ground_formX z0_ground_formY z0_ground_foxX z0_ground_foxY z0_ground_seat z0_ground_strength z0_ground_debts z0_ground_near z0_ground_forms v0_ground_hares z0_ground_foxes z0_ground_safe)) (wn := (wd01_39 a0 z0_tape a0_ground z0_spareGround z0_rule z0_spareRule z0_lines z0_spareLines z0_steps a0_now z0_trial z0_past z0_images z0_round z0_seating z0_fitting z0_imagesKept z0_refusedSteps x2 z0_callsIllegal a0_ground z0_ground_formX z0_ground_formY z0_ground_foxX z0_ground_foxY z0_ground_seat z0_ground_strength z0_ground_debts z0_ground_near z0_ground_forms v0_ground_hares z0_ground_foxes z0_ground_safe a0_now a0_now_row z0_now_owedEach z0_now_down z0_now_law a0_now_row cyI f0_now_row)) hP hD [0, 1] [2, 3] [2, 3, 0, 1] hCc rfl (by decide +kernel) (by decide +kernel) (by decide +kernel) rfl hk1 hFc hP1 hD1
  generalize H1 = H at hP hS ⊢
  refine lv_aload_n hx hb (dt_of tkX10_debt_k0 6 rfl) rfl (lv_at hl 0 rfl) ?_
  refine va_get (D := (dC, dI)) (ci := 10) (v := .ref a0_now) (C := RX10) (T := TX10) (N := 19) hx hb hts ui_X10_debt_X10 hown hK hP 0 rfl rfl 8 (by decide) (hts _ uw_X10_debt_f58) (fun _ h9 => h9) rfl (dt_of tkX10_debt_k0 7 rfl) ?_
  refine lv_iload_n hx hb (dt_of tkX10_debt_k0 8 rfl) rfl (lv_at hl 1 rfl) ?_
  refine lv_iload_n hx hb (dt_of tkX10_debt_k0 9 rfl) rfl (lv_at hl 2 rfl) ?_
  obtain ⟨hCc, hPc, hDc, hFc⟩ := va_pick (ws' := (wd01_10 a0_now a0_now_row z0_now_owedEach z0_now_down z0_now_law a0_now_row cyI f0_now_row)) hP hD hS hA [2, 3] (by decide +kernel) rfl
  refine va_calli (va_runV (As := [.int p1, .int p2]) (rest := []) ⟨hx, hb, hml, hown, hts⟩ (ck_X1_owesTo l dC dI cyB cyI cyJ cyP a0_now a0_now_row H.size (z0_now_owedEach) (z0_now_down) (z0_now_law) f0_now_row  p1 p2 hw) (cwV 2 hts gX10_debt_X1_owesTo rfl rfl rfl (by decide +kernel) ⟨Nat.le_of_ble_eq_true rfl, Nat.le_of_ble_eq_true rfl⟩) ⟨cPc_blind, va_recv (q := (RX1, TX1, 4)) hK hPc (ci := 1) (q0 := 0) rfl rfl, cPc_pre hPc hK hDc hNw⟩ rfl rfl hl.1 rfl (lv_room (Nat.le_of_ble_eq_true rfl)) (dt_of tkX10_debt_k0 10 rfl) ⟨Nat.le_of_ble_eq_true rfl, Nat.le_of_ble_eq_true rfl⟩) hS (fun q _ h => hFc q h) hFc (fun r3 u t H1 locs ht hvm hw hB hz1 hk1 hS => ?_)
  obtain ⟨hP1, hK1, hD1⟩ := hB
  rw [ht] at hP1
  obtain ⟨hP, hD⟩ := va_joinI (wr := (wd01_2 a0 z0_tape a0_ground z0_spareGround z0_rule z0_spareRule z0_lines z0_spareLines z0_steps a0_now z0_trial z0_past z0_images z0_round z0_seating z0_fitting z0_imagesKept z0_refusedSteps x2 z0_callsIllegal a0_ground z0_ground_formX z0_ground_formY z0_ground_foxX z0_ground_foxY z0_ground_seat z0_ground_strength z0_ground_debts z0_ground_near z0_ground_forms v0_ground_hares z0_ground_foxes z0_ground_safe)) (w1 := (wd01_10 a0_now a0_now_row z0_now_owedEach z0_now_down z0_now_law a0_now_row cyI f0_now_row)) (wn := (wd01_39 a0 z0_tape a0_ground z0_spareGround z0_rule z0_spareRule z0_lines z0_spareLines z0_steps a0_now z0_trial z0_past z0_images z0_round z0_seating z0_fitting z0_imagesKept z0_refusedSteps x2 z0_callsIllegal a0_ground z0_ground_formX z0_ground_formY z0_ground_foxX z0_ground_foxY z0_ground_seat z0_ground_strength z0_ground_debts z0_ground_near z0_ground_forms v0_ground_hares z0_ground_foxes z0_ground_safe a0_now a0_now_row z0_now_owedEach z0_now_down z0_now_law a0_now_row cyI f0_now_row)) hP hD [2, 3] [0, 1] hCc rfl (by decide +kernel) (by decide +kernel) rfl hk1 hFc hP1 hD1
  generalize H1 = H at hP hS ⊢
  exact vx_ret (W.widen (k := 2) (n := 12) (Nat.le_of_ble_eq_true rfl) (Nat.le_of_ble_eq_true rfl) (W.iret (v := r3) hx hb hr (fun t ht hW => ⟨⟨r3, (x2), rfl, hw, by rw [ht]; exact hP, va_K.moved hW.alike hK, hD⟩, hS.F ht⟩) hS.2.2 (dt_of tkX10_debt_k0 11 rfl)))
theorem uw_L_debt_ct31 : (.classLink RL 31 "java/util/NoSuchElementException" : Cond) ∈ wsL_debt := mbL_debt 2639 (by decide +kernel)
theorem uw_L_debt_cw : (.codeWith yL_debt cL_debt 5 (some .int) [(0, 10, 13, 31)] : Cond) ∈ wsL_debt := mbL_debt 2826 (by decide +kernel)
set_option maxHeartbeats 4000000 in
set_option maxRecDepth 100000 in
theorem ck_L_debt (l : Launch) (dC : Nat → ClassId) (dI : Nat → Nat → Nat) (cyB cyI cyJ cyP : ClassId) (a0 a3 a0_ground a0_now a0_now_row : Nat) (sz : Nat) (z0_tape : Value) (z0_spareGround : Value) (z0_rule : Value) (z0_spareRule : Value) (z0_lines : Value) (z0_spareLines : Value) (z0_steps : Value) (z0_trial : Value) (z0_past : Value) (z0_images : Value) (z0_round : Value) (z0_seating : Value) (z0_fitting : Value) (z0_imagesKept : Value) (z0_refusedSteps : Value) (z0_callsIllegal : Value) (z0_ground_formX : Value) (z0_ground_formY : Value) (z0_ground_foxX : Value) (z0_ground_foxY : Value) (z0_ground_seat : Value) (z0_ground_strength : Value) (z0_ground_debts : Value) (z0_ground_near : Value) (z0_ground_forms : Value) (z0_ground_foxes : Value) (z0_ground_safe : Value) (z0_now_owedEach : Value) (z0_now_down : Value) (z0_now_law : Value) (n3 : Nat) (v0_ground_hares : Int32) (f0_now_row : Nat → Int32) (v0_callsNoSuch : Int32) (f3 : Nat → Int64) (p1 : Int32) (p2 : Int32) {Q : Int32 → Int32 → (Nat → Int64) → Prop} (hw : wq_L_debt n3 v0_ground_hares f0_now_row v0_callsNoSuch f3 p1 p2 Q) : Met l yL_debt wsL_debt ({ frames := 8, cells := 2, slots := 12, locals := 163 }) (va_Pc [.ref a0, .int p1, .int p2, .ref a3] (cPx l (dC, dI) (kT cyB cyI cyJ cyP) (wd01_40 a0 z0_tape a0_ground z0_spareGround z0_rule z0_spareRule z0_lines z0_spareLines z0_steps a0_now z0_trial z0_past z0_images z0_round z0_seating z0_fitting z0_imagesKept z0_refusedSteps v0_callsNoSuch z0_callsIllegal a0_ground z0_ground_formX z0_ground_formY z0_ground_foxX z0_ground_foxY z0_ground_seat z0_ground_strength z0_ground_debts z0_ground_near z0_ground_forms v0_ground_hares z0_ground_foxes z0_ground_safe a0_now a0_now_row z0_now_owedEach z0_now_down z0_now_law a0_now_row cyI f0_now_row a3 cyJ n3 f3) sz)) (va_Qi (fun (r : Int32) (u : Int32 × (Nat → Int64)) => Q r u.1 u.2) (cB (dC, dI) (kT cyB cyI cyJ cyP) (va_A (wd01_40 a0 z0_tape a0_ground z0_spareGround z0_rule z0_spareRule z0_lines z0_spareLines z0_steps a0_now z0_trial z0_past z0_images z0_round z0_seating z0_fitting z0_imagesKept z0_refusedSteps v0_callsNoSuch z0_callsIllegal a0_ground z0_ground_formX z0_ground_formY z0_ground_foxX z0_ground_foxY z0_ground_seat z0_ground_strength z0_ground_debts z0_ground_near z0_ground_forms v0_ground_hares z0_ground_foxes z0_ground_safe a0_now a0_now_row z0_now_owedEach z0_now_down z0_now_law a0_now_row cyI f0_now_row a3 cyJ n3 f3) sz) (fun u : Int32 × (Nat → Int64) => ((wd01_40 a0 z0_tape a0_ground z0_spareGround z0_rule z0_spareRule z0_lines z0_spareLines z0_steps a0_now z0_trial z0_past z0_images z0_round z0_seating z0_fitting z0_imagesKept z0_refusedSteps u.1 z0_callsIllegal a0_ground z0_ground_formX z0_ground_formY z0_ground_foxX z0_ground_foxY z0_ground_seat z0_ground_strength z0_ground_debts z0_ground_near z0_ground_forms v0_ground_hares z0_ground_foxes z0_ground_safe a0_now a0_now_row z0_now_owedEach z0_now_down z0_now_law a0_now_row cyI f0_now_row a3 cyJ n3 u.2) : va_W))) (va_A (wd01_40 a0 z0_tape a0_ground z0_spareGround z0_rule z0_spareRule z0_lines z0_spareLines z0_steps a0_now z0_trial z0_past z0_images z0_round z0_seating z0_fitting z0_imagesKept z0_refusedSteps v0_callsNoSuch z0_callsIllegal a0_ground z0_ground_formX z0_ground_formY z0_ground_foxX z0_ground_foxY z0_ground_seat z0_ground_strength z0_ground_debts z0_ground_near z0_ground_forms v0_ground_hares z0_ground_foxes z0_ground_safe a0_now a0_now_row z0_now_owedEach z0_now_down z0_now_law a0_now_row cyI f0_now_row a3 cyJ n3 f3) sz)) 2 12 (va_A (wd01_40 a0 z0_tape a0_ground z0_spareGround z0_rule z0_spareRule z0_lines z0_spareLines z0_steps a0_now z0_trial z0_past z0_images z0_round z0_seating z0_fitting z0_imagesKept z0_refusedSteps v0_callsNoSuch z0_callsIllegal a0_ground z0_ground_formX z0_ground_formY z0_ground_foxX z0_ground_foxY z0_ground_seat z0_ground_strength z0_ground_debts z0_ground_near z0_ground_forms v0_ground_hares z0_ground_foxes z0_ground_safe a0_now a0_now_row z0_now_owedEach z0_now_down z0_now_law a0_now_row cyI f0_now_row a3 cyJ n3 f3) sz) := by
  refine va_MetW (cc := cL_debt) (maxL := 5) (ret := (some .int)) (by decide) rfl ?_
  intro p e s m args below meth c s₁ B hml hv
  obtain ⟨rfl, hsz, hP, hK, hD0, hNw, hXl, hXu, hXn, hXt⟩ := hv
  have hx := B.exec
  have hb := B.bytes
  have hr := B.returns
  have hts := atoms_spec (ws := wsL_debt) B.pre
  have hown : s.vm.findClass RL = some m.cls := findClass_of_methodNamed B.named
  have hlocks := B.notSynchronized
  subst hsz
  have hD := hD0.self (sz := s.heap.size)
  generalize hAe : va_A (wd01_40 a0 z0_tape a0_ground z0_spareGround z0_rule z0_spareRule z0_lines z0_spareLines z0_steps a0_now z0_trial z0_past z0_images z0_round z0_seating z0_fitting z0_imagesKept z0_refusedSteps v0_callsNoSuch z0_callsIllegal a0_ground z0_ground_formX z0_ground_formY z0_ground_foxX z0_ground_foxY z0_ground_seat z0_ground_strength z0_ground_debts z0_ground_near z0_ground_forms v0_ground_hares z0_ground_foxes z0_ground_safe a0_now a0_now_row z0_now_owedEach z0_now_down z0_now_law a0_now_row cyI f0_now_row a3 cyJ n3 f3) s.heap.size = A at hD hXu hXn ⊢
  have hA : ∀ q : Nat, s.heap.size ≤ q → A q := fun q h => by rw [← hAe]; exact Or.inr h
  have hS : va_S A s.heap s.heap [] := va_S.rf
  have hP : va_P (dC, dI) vwCl (wd01_40 a0 z0_tape a0_ground z0_spareGround z0_rule z0_spareRule z0_lines z0_spareLines z0_steps a0_now z0_trial z0_past z0_images z0_round z0_seating z0_fitting z0_imagesKept z0_refusedSteps v0_callsNoSuch z0_callsIllegal a0_ground z0_ground_formX z0_ground_formY z0_ground_foxX z0_ground_foxY z0_ground_seat z0_ground_strength z0_ground_debts z0_ground_near z0_ground_forms v0_ground_hares z0_ground_foxes z0_ground_safe a0_now a0_now_row z0_now_owedEach z0_now_down z0_now_law a0_now_row cyI f0_now_row a3 cyJ n3 f3) s.heap := hP
  have hl := lv_entry ([.ref a0, .int p1, .int p2, .ref a3]) (n := 5) (Nat.le_of_ble_eq_true rfl)
  rw [lg_entry_eq]
  generalize (lg_sl ([.ref a0, .int p1, .int p2, .ref a3]) ++ List.replicate (5 - (lg_sl ([.ref a0, .int p1, .int p2, .ref a3])).length) Slot.unset).toArray = ls at hl ⊢
  have hl : lv_has ls 5 [(0, .ref a0), (1, .int p1), (2, .int p2), (3, .ref a3)] := hl
  have hY : cfY l s A := ⟨hXl, hXu, hXn, hXt⟩
  have hTb := vx_table (x := yL_debt) B (hts _ uw_L_debt_cw)
  clear hAe
  obtain ⟨H, hH⟩ : ∃ H, H = s.heap := ⟨_, rfl⟩
  rw [← hH] at hP ⊢
  have hS : va_S A s.heap H [] := by rw [hH]; exact va_S.rf
  have hS := hS
  refine lv_aload_n hx hb (dt_of tkL_debt_k0 0 rfl) rfl (lv_at hl 3 rfl) ?_
  refine lv_iconst (v := 0) hx hb (dt_of tkL_debt_k0 1 rfl) (by decide) ?_
  refine lv_aload_n hx hb (dt_of tkL_debt_k0 2 rfl) rfl (lv_at hl 0 rfl) ?_
  refine lv_iload_n hx hb (dt_of tkL_debt_k0 3 rfl) rfl (lv_at hl 1 rfl) ?_
  refine lv_iload_n hx hb (dt_of tkL_debt_k0 4 rfl) rfl (lv_at hl 2 rfl) ?_
  obtain ⟨hCc, hPc, hDc, hFc⟩ := va_pick (ws' := (wd01_39 a0 z0_tape a0_ground z0_spareGround z0_rule z0_spareRule z0_lines z0_spareLines z0_steps a0_now z0_trial z0_past z0_images z0_round z0_seating z0_fitting z0_imagesKept z0_refusedSteps v0_callsNoSuch z0_callsIllegal a0_ground z0_ground_formX z0_ground_formY z0_ground_foxX z0_ground_foxY z0_ground_seat z0_ground_strength z0_ground_debts z0_ground_near z0_ground_forms v0_ground_hares z0_ground_foxes z0_ground_safe a0_now a0_now_row z0_now_owedEach z0_now_down z0_now_law a0_now_row cyI f0_now_row)) hP hD hS hA [0, 1, 2, 3] (by decide +kernel) rfl
  refine vx_calli (vx_runV (As := [.int p1, .int p2]) (rest := [.int 0, .ref a3]) ⟨hx, hb, hml, hown, hts⟩ (ck_X10_debt l dC dI cyB cyI cyJ cyP a0 a0_ground a0_now a0_now_row H.size (z0_tape) (z0_spareGround) (z0_rule) (z0_spareRule) (z0_lines) (z0_spareLines) (z0_steps) (z0_trial) (z0_past) (z0_images) (z0_round) (z0_seating) (z0_fitting) (z0_imagesKept) (z0_refusedSteps) (z0_callsIllegal) (z0_ground_formX) (z0_ground_formY) (z0_ground_foxX) (z0_ground_foxY) (z0_ground_seat) (z0_ground_strength) (z0_ground_debts) (z0_ground_near) (z0_ground_forms) (z0_ground_foxes) (z0_ground_safe) (z0_now_owedEach) (z0_now_down) (z0_now_law) v0_ground_hares f0_now_row v0_callsNoSuch p1 p2 hw) (cwV 2 hts gL_debt_X10_debt rfl rfl rfl (by decide +kernel) ⟨Nat.le_of_ble_eq_true rfl, Nat.le_of_ble_eq_true rfl⟩) ⟨cPx_blind, va_recv (q := (RX10, TX10, 19)) hK hPc (ci := 10) (q0 := 0) rfl rfl, cPx_pre hPc hK hDc hNw hY hS hFc⟩ rfl rfl hl.1 rfl (lv_room (Nat.le_of_ble_eq_true rfl)) (dt_of tkL_debt_k0 5 rfl) ⟨Nat.le_of_ble_eq_true rfl, Nat.le_of_ble_eq_true rfl⟩) hS (fun q _ h => hFc q h) hFc (fun q _ h => hFc q h) (fun en ce qx9 u t H1 locs ht hvm hpx hB hz1 hk1 hS hc9 hv9 hcl9 => ?_) (fun r2 u t H1 locs ht hvm hw hB hz1 hk1 hS => ?_)
  · obtain ⟨x1, rfl⟩ : ∃ z, z = u := ⟨_, rfl⟩
    obtain ⟨hw, hP1, hK1, hD1⟩ := hB
    rw [ht] at hP1
    obtain ⟨hP, hD⟩ := va_joinN (wr := [(a3, .inl (cyJ, n3, .inr (.inl f3)))]) (w1 := (wd01_39 a0 z0_tape a0_ground z0_spareGround z0_rule z0_spareRule z0_lines z0_spareLines z0_steps a0_now z0_trial z0_past z0_images z0_round z0_seating z0_fitting z0_imagesKept z0_refusedSteps x1 z0_callsIllegal a0_ground z0_ground_formX z0_ground_formY z0_ground_foxX z0_ground_foxY z0_ground_seat z0_ground_strength z0_ground_debts z0_ground_near z0_ground_forms v0_ground_hares z0_ground_foxes z0_ground_safe a0_now a0_now_row z0_now_owedEach z0_now_down z0_now_law a0_now_row cyI f0_now_row)) (wn := (wd01_40 a0 z0_tape a0_ground z0_spareGround z0_rule z0_spareRule z0_lines z0_spareLines z0_steps a0_now z0_trial z0_past z0_images z0_round z0_seating z0_fitting z0_imagesKept z0_refusedSteps x1 z0_callsIllegal a0_ground z0_ground_formX z0_ground_formY z0_ground_foxX z0_ground_foxY z0_ground_seat z0_ground_strength z0_ground_debts z0_ground_near z0_ground_forms v0_ground_hares z0_ground_foxes z0_ground_safe a0_now a0_now_row z0_now_owedEach z0_now_down z0_now_law a0_now_row cyI f0_now_row a3 cyJ n3 f3)) hP hD [0, 1, 2, 3] [4] [1, 2, 3, 4, 0] hCc rfl (by decide +kernel) (by decide +kernel) (by decide +kernel) rfl hk1 hFc hP1 hD1
    generalize H1 = H at hP hS hc9 ⊢
    obtain ⟨rfl, hw⟩ := hw
    refine vx_catch (own := RL) (name := "java/util/NoSuchElementException") hown [] ⟨0, 10, 13, 31⟩ [] (hTb.trans rfl) (fun z hz => nomatch hz) (by decide) (by decide) (hts _ uw_L_debt_ct31) (va_Nw.use rfl (hY.2.2.2.1.2 _ (List.mem_of_getElem? (i := 1) rfl))) hc9 hv9 hcl9 ?_
    refine lv_astore (lv' := [(4, .ref qx9), (0, .ref a0), (1, .int p1), (2, .int p2), (3, .ref a3)]) hx hb (dt_of tkL_debt_k0 9 rfl) hl (by decide) rfl (fun ls hl => ?_)
    refine lv_iconst (v := 1) hx hb (dt_of tkL_debt_k0 10 rfl) (by decide) ?_
    exact (W.widen (k := 2) (n := 12) (Nat.le_of_ble_eq_true rfl) (Nat.le_of_ble_eq_true rfl) (W.iret (v := 1) hx hb hr (fun t ht hW => ⟨⟨1, (x1, f3), rfl, hw, by rw [ht]; exact hP, va_K.moved hW.alike hK, hD⟩, hS.F ht⟩) hS.2.2 (dt_of tkL_debt_k0 11 rfl)))
  obtain ⟨x1, rfl⟩ : ∃ z, z = u := ⟨_, rfl⟩
  obtain ⟨hP1, hK1, hD1⟩ := hB
  rw [ht] at hP1
  obtain ⟨hP, hD⟩ := va_join (wr := [(a3, .inl (cyJ, n3, .inr (.inl f3)))]) (w1 := (wd01_39 a0 z0_tape a0_ground z0_spareGround z0_rule z0_spareRule z0_lines z0_spareLines z0_steps a0_now z0_trial z0_past z0_images z0_round z0_seating z0_fitting z0_imagesKept z0_refusedSteps x1 z0_callsIllegal a0_ground z0_ground_formX z0_ground_formY z0_ground_foxX z0_ground_foxY z0_ground_seat z0_ground_strength z0_ground_debts z0_ground_near z0_ground_forms v0_ground_hares z0_ground_foxes z0_ground_safe a0_now a0_now_row z0_now_owedEach z0_now_down z0_now_law a0_now_row cyI f0_now_row)) hP hD [0, 1, 2, 3] [4] rfl rfl (by decide) (by decide) hk1 hFc hP1 hD1
  have hP : va_P (dC, dI) vwCl (wd01_40 a0 z0_tape a0_ground z0_spareGround z0_rule z0_spareRule z0_lines z0_spareLines z0_steps a0_now z0_trial z0_past z0_images z0_round z0_seating z0_fitting z0_imagesKept z0_refusedSteps x1 z0_callsIllegal a0_ground z0_ground_formX z0_ground_formY z0_ground_foxX z0_ground_foxY z0_ground_seat z0_ground_strength z0_ground_debts z0_ground_near z0_ground_forms v0_ground_hares z0_ground_foxes z0_ground_safe a0_now a0_now_row z0_now_owedEach z0_now_down z0_now_law a0_now_row cyI f0_now_row a3 cyJ n3 f3) H1 := hP.sub [1, 2, 3, 4, 0] rfl
  have hD : va_D A (wd01_40 a0 z0_tape a0_ground z0_spareGround z0_rule z0_spareRule z0_lines z0_spareLines z0_steps a0_now z0_trial z0_past z0_images z0_round z0_seating z0_fitting z0_imagesKept z0_refusedSteps x1 z0_callsIllegal a0_ground z0_ground_formX z0_ground_formY z0_ground_foxX z0_ground_foxY z0_ground_seat z0_ground_strength z0_ground_debts z0_ground_near z0_ground_forms v0_ground_hares z0_ground_foxes z0_ground_safe a0_now a0_now_row z0_now_owedEach z0_now_down z0_now_law a0_now_row cyI f0_now_row a3 cyJ n3 f3) := hD.sub [1, 2, 3, 4, 0] (by decide) rfl
  generalize H1 = H at hP hS ⊢
  refine lv_i2l (v := r2.toInt64) hx hb (dt_of tkL_debt_k0 6 rfl) rfl ?_
  refine lv_topl (fun x3 ex3 => ?_)
  have hw := hw x3 ex3
  obtain ⟨hi9, hw⟩ := hw
  refine va_last hx hb hK hP hD hS 4 2 rfl rfl hi9 (dt_of tkL_debt_k0 7 rfl) (fun H locs hP hD hS => ?_)
  obtain ⟨f4, ef4⟩ : ∃ y : Nat → Int64, y = vp_updL f3 (0 : Int32).toNatClampNeg x3 := ⟨_, rfl⟩
  have hw := hw f4 ef4
  have hP : va_P (dC, dI) vwCl (wd01_40 a0 z0_tape a0_ground z0_spareGround z0_rule z0_spareRule z0_lines z0_spareLines z0_steps a0_now z0_trial z0_past z0_images z0_round z0_seating z0_fitting z0_imagesKept z0_refusedSteps x1 z0_callsIllegal a0_ground z0_ground_formX z0_ground_formY z0_ground_foxX z0_ground_foxY z0_ground_seat z0_ground_strength z0_ground_debts z0_ground_near z0_ground_forms v0_ground_hares z0_ground_foxes z0_ground_safe a0_now a0_now_row z0_now_owedEach z0_now_down z0_now_law a0_now_row cyI f0_now_row a3 cyJ n3 f4) H := by rw [ef4]; exact hP
  have hD : va_D A (wd01_40 a0 z0_tape a0_ground z0_spareGround z0_rule z0_spareRule z0_lines z0_spareLines z0_steps a0_now z0_trial z0_past z0_images z0_round z0_seating z0_fitting z0_imagesKept z0_refusedSteps x1 z0_callsIllegal a0_ground z0_ground_formX z0_ground_formY z0_ground_foxX z0_ground_foxY z0_ground_seat z0_ground_strength z0_ground_debts z0_ground_near z0_ground_forms v0_ground_hares z0_ground_foxes z0_ground_safe a0_now a0_now_row z0_now_owedEach z0_now_down z0_now_law a0_now_row cyI f0_now_row a3 cyJ n3 f4) := by rw [ef4]; exact hD
  refine lv_goto (tgt := 17) hx hb (dt_of tkL_debt_k0 8 rfl) (by decide) ?_
  refine lv_iconst (v := 0) hx hb (dt_of tkL_debt_k0 12 rfl) (by decide) ?_
  exact (W.widen (k := 2) (n := 12) (Nat.le_of_ble_eq_true rfl) (Nat.le_of_ble_eq_true rfl) (W.iret (v := 0) hx hb hr (fun t ht hW => ⟨⟨0, (x1, f4), rfl, hw, by rw [ht]; exact hP, va_K.moved hW.alike hK, hD⟩, hS.F ht⟩) hS.2.2 (dt_of tkL_debt_k0 13 rfl)))
theorem ui_X8_isLetter_X8 : ∀ w ∈ u_ws RX8 TX8 7, w ∈ wsX8_isLetter := uiM mbX8_isLetter euX8 (by decide +kernel)
theorem uw_X8_isLetter_f11 : (.fieldLink RX8 11 "MarchHares$Tape" "bytes" "[B" : Cond) ∈ wsX8_isLetter := mbX8_isLetter 142 (by decide +kernel)
theorem uw_X8_isLetter_f28 : (.fieldLink RX8 28 "MarchHares$Tape" "length" "I" : Cond) ∈ wsX8_isLetter := mbX8_isLetter 712 (by decide +kernel)
set_option maxHeartbeats 4000000 in
set_option maxRecDepth 100000 in
theorem ck_X8_isLetter (l : Launch) (dC : Nat → ClassId) (dI : Nat → Nat → Nat) (cyB cyI cyJ cyP : ClassId) (a0 a0_bytes : Nat) (sz : Nat) (z0_at : Value) (z0_token : Value) (z0_filled : Value) (z0_fault : Value) (z0_faultPlace : Value) (v0_length : Int32) (f0_bytes : Nat → Int32)  (p1 : Int32) {Q : Int32 → Prop} (hw : wq_X8_isLetter v0_length f0_bytes  p1 Q) : Met l yX8_isLetter wsX8_isLetter ({ frames := 0, cells := 0, slots := 0, locals := 0 }) (va_Pc [.ref a0, .int p1] (cPc (dC, dI) (kT cyB cyI cyJ cyP) (wd01_41 a0 a0_bytes v0_length z0_at z0_token z0_filled z0_fault z0_faultPlace a0_bytes cyB f0_bytes) sz)) (va_Qi (fun (r : Int32) (_ : Unit) => Q r ) (cB (dC, dI) (kT cyB cyI cyJ cyP) (va_A (wd01_41 a0 a0_bytes v0_length z0_at z0_token z0_filled z0_fault z0_faultPlace a0_bytes cyB f0_bytes) sz) (fun u : Unit => ((wd01_41 a0 a0_bytes v0_length z0_at z0_token z0_filled z0_fault z0_faultPlace a0_bytes cyB f0_bytes) : va_W))) (va_A (wd01_41 a0 a0_bytes v0_length z0_at z0_token z0_filled z0_fault z0_faultPlace a0_bytes cyB f0_bytes) sz)) 0 0 (va_A (wd01_41 a0 a0_bytes v0_length z0_at z0_token z0_filled z0_fault z0_faultPlace a0_bytes cyB f0_bytes) sz) := by
  refine Met.ofW (cc := cX8_isLetter) (maxL := 2) (ret := (some .boolean)) (by decide) rfl ?_
  intro p e s m args below meth c s₁ B hml hv
  obtain ⟨rfl, hsz, hP, hK, hD0, hNw⟩ := hv
  have hx := B.exec
  have hb := B.bytes
  have hr := B.returns
  have hts := atoms_spec (ws := wsX8_isLetter) B.pre
  have hown : s.vm.findClass RX8 = some m.cls := findClass_of_methodNamed B.named
  have hlocks := B.notSynchronized
  subst hsz
  have hD := hD0.self (sz := s.heap.size)
  generalize hAe : va_A (wd01_41 a0 a0_bytes v0_length z0_at z0_token z0_filled z0_fault z0_faultPlace a0_bytes cyB f0_bytes) s.heap.size = A at hD ⊢
  have hA : ∀ q : Nat, s.heap.size ≤ q → A q := fun q h => by rw [← hAe]; exact Or.inr h
  have hS : va_S A s.heap s.heap [] := va_S.rf
  have hP : va_P (dC, dI) vwCl (wd01_41 a0 a0_bytes v0_length z0_at z0_token z0_filled z0_fault z0_faultPlace a0_bytes cyB f0_bytes) s.heap := hP
  have hl := lv_entry ([.ref a0, .int p1]) (n := 2) (Nat.le_of_ble_eq_true rfl)
  rw [lg_entry_eq]
  generalize (lg_sl ([.ref a0, .int p1]) ++ List.replicate (2 - (lg_sl ([.ref a0, .int p1])).length) Slot.unset).toArray = ls at hl ⊢
  have hl : lv_has ls 2 [(0, .ref a0), (1, .int p1)] := hl
  have C0 : cfx p s m _ meth c cX8_isLetter (some .boolean) wsX8_isLetter RX8 2 A (dC, dI) (kT cyB cyI cyJ cyP) := ⟨hx, hb, hr, hts, hown, hlocks, hml, hA, hK, hNw⟩
  clear hAe
  obtain ⟨H, hH⟩ : ∃ H, H = s.heap := ⟨_, rfl⟩
  rw [← hH] at hP ⊢
  have hS : va_S A s.heap H [] := by rw [hH]; exact va_S.rf
  have hS := hS
  refine lv_iload_n hx hb (dt_of tkX8_isLetter_k0 0 rfl) rfl (lv_at hl 1 rfl) ?_
  refine lv_aload_n hx hb (dt_of tkX8_isLetter_k0 1 rfl) rfl (lv_at hl 0 rfl) ?_
  refine va_get (D := (dC, dI)) (ci := 8) (v := .int v0_length) (C := RX8) (T := TX8) (N := 7) hx hb hts ui_X8_isLetter_X8 hown hK hP 0 rfl rfl 1 (by decide) (hts _ uw_X8_isLetter_f28) (fun _ h9 => h9) rfl (dt_of tkX8_isLetter_k0 2 rfl) ?_
  refine lv_icmp_ge (tgt := 34) hx hb (dt_of tkX8_isLetter_k0 3 rfl) (by decide) (fun c1 => ?_) (fun c1 => ?_)
  · have hw := hw.1 c1
    refine lv_iconst (v := 0) hx hb (dt_of tkX8_isLetter_k30 2 rfl) (by decide) ?_
    exact ((W.zret (v := 0) hx hb hr rfl (fun t ht hW => ⟨⟨0, (), rfl, hw, by rw [ht]; exact hP, va_K.moved hW.alike hK, hD⟩, hS.F ht⟩) hS.2.2 (dt_of tkX8_isLetter_k30 3 rfl)))
  · have hw := hw.2 c1
    refine lv_aload_n hx hb (dt_of tkX8_isLetter_k0 4 rfl) rfl (lv_at hl 0 rfl) ?_
    refine va_get (D := (dC, dI)) (ci := 8) (v := .ref a0_bytes) (C := RX8) (T := TX8) (N := 7) hx hb hts ui_X8_isLetter_X8 hown hK hP 0 rfl rfl 0 (by decide) (hts _ uw_X8_isLetter_f11) (fun _ h9 => h9) rfl (dt_of tkX8_isLetter_k0 5 rfl) ?_
    refine lv_iload_n hx hb (dt_of tkX8_isLetter_k0 6 rfl) rfl (lv_at hl 1 rfl) ?_
    obtain ⟨hi9, hw⟩ := hw
    refine va_bald hx hb hK hP 1 0 rfl rfl hi9 (dt_of tkX8_isLetter_k0 7 rfl) ?_
    refine lv_topi (fun x2 ex2 => ?_)
    have hw := hw x2 ex2
    refine lv_bipush (v := 97) hx hb (dt_of tkX8_isLetter_k0 8 rfl) (by decide) ?_
    refine lv_icmp_lt (tgt := 34) hx hb (dt_of tkX8_isLetter_k0 9 rfl) (by decide) (fun c3 => ?_) (fun c3 => ?_)
    · have hw := hw.1 c3
      refine lv_iconst (v := 0) hx hb (dt_of tkX8_isLetter_k30 2 rfl) (by decide) ?_
      exact ((W.zret (v := 0) hx hb hr rfl (fun t ht hW => ⟨⟨0, (), rfl, hw, by rw [ht]; exact hP, va_K.moved hW.alike hK, hD⟩, hS.F ht⟩) hS.2.2 (dt_of tkX8_isLetter_k30 3 rfl)))
    · have hw := hw.2 c3
      refine lv_aload_n hx hb (dt_of tkX8_isLetter_k0 10 rfl) rfl (lv_at hl 0 rfl) ?_
      refine va_get (D := (dC, dI)) (ci := 8) (v := .ref a0_bytes) (C := RX8) (T := TX8) (N := 7) hx hb hts ui_X8_isLetter_X8 hown hK hP 0 rfl rfl 0 (by decide) (hts _ uw_X8_isLetter_f11) (fun _ h9 => h9) rfl (dt_of tkX8_isLetter_k0 11 rfl) ?_
      refine lv_iload_n hx hb (dt_of tkX8_isLetter_k0 12 rfl) rfl (lv_at hl 1 rfl) ?_
      obtain ⟨hi9, hw⟩ := hw
      refine va_bald hx hb hK hP 1 0 rfl rfl hi9 (dt_of tkX8_isLetter_k0 13 rfl) ?_
      refine lv_topi (fun x4 ex4 => ?_)
      have hw := hw x4 ex4
      refine lv_bipush (v := 122) hx hb (dt_of tkX8_isLetter_k0 14 rfl) (by decide) ?_
      refine lv_icmp_gt (tgt := 34) hx hb (dt_of tkX8_isLetter_k0 15 rfl) (by decide) (fun c5 => ?_) (fun c5 => ?_)
      · have hw := hw.1 c5
        refine lv_iconst (v := 0) hx hb (dt_of tkX8_isLetter_k30 2 rfl) (by decide) ?_
        exact ((W.zret (v := 0) hx hb hr rfl (fun t ht hW => ⟨⟨0, (), rfl, hw, by rw [ht]; exact hP, va_K.moved hW.alike hK, hD⟩, hS.F ht⟩) hS.2.2 (dt_of tkX8_isLetter_k30 3 rfl)))
      · have hw := hw.2 c5
        refine lv_iconst (v := 1) hx hb (dt_of tkX8_isLetter_k30 0 rfl) (by decide) ?_
        refine lv_goto (tgt := 35) hx hb (dt_of tkX8_isLetter_k30 1 rfl) (by decide) ?_
        exact ((W.zret (v := 1) hx hb hr rfl (fun t ht hW => ⟨⟨1, (), rfl, hw, by rw [ht]; exact hP, va_K.moved hW.alike hK, hD⟩, hS.F ht⟩) hS.2.2 (dt_of tkX8_isLetter_k30 3 rfl)))
theorem ui_X2_readForm_X2 : ∀ w ∈ u_ws RX2 TX2 12, w ∈ wsX2_readForm := uiM mbX2_readForm euX2 (by decide +kernel)
theorem uw_X2_readForm_f15 : (.fieldLink RX2 15 "MarchHares$Down" "formY" "[I" : Cond) ∈ wsX2_readForm := mbX2_readForm 149 (by decide +kernel)
theorem uw_X2_readForm_f36 : (.fieldLink RX2 36 "MarchHares$Down" "forms" "I" : Cond) ∈ wsX2_readForm := mbX2_readForm 720 (by decide +kernel)
theorem uw_X2_readForm_f9 : (.fieldLink RX2 9 "MarchHares$Down" "formX" "[I" : Cond) ∈ wsX2_readForm := mbX2_readForm 148 (by decide +kernel)
set_option maxHeartbeats 4000000 in
set_option maxRecDepth 100000 in
theorem kb_X2_readForm_13 {p : Program} {l : Launch} {e : Env} {s : State} {m : MethodId} {args : Array Value} {below : List Frame} {meth : Method} {c : Code} {A : Nat → Prop} (dC : Nat → ClassId) (dI : Nat → Nat → Nat) (cyB cyI cyJ cyP : ClassId) (a0 a1 a0_formX a1_bytes a0_formY : Nat) (z0_foxX : Value) (z0_foxY : Value) (z0_seat : Value) (z0_strength : Value) (z0_debts : Value) (z0_near : Value) (z0_hares : Value) (z0_foxes : Value) (z0_safe : Value) (z1_filled : Value) (v1_length : Int32) (f1_bytes : Nat → Int32) (Q : Int32 → Int32 → Int32 → Int32 → (Nat → Int32) → (Nat → Int32) → Int32 → Prop)  (C0 : cfx p s m args meth c cX2_readForm none wsX2_readForm RX2 3 A (dC, dI) (kT cyB cyI cyJ cyP)) : ∀ (H : Heap) (locs : List Loc) (ls : Array Slot) (v1_at : Int32) (v1_fault : Int32) (v1_faultPlace : Int32) (v1_token : Int32) (f0_formX : Nat → Int32) (f0_formY : Nat → Int32) (v0_forms : Int32), va_P (dC, dI) vwCl (wd01_42 a0 a0_formX a0_formY z0_foxX z0_foxY z0_seat z0_strength z0_debts z0_near v0_forms z0_hares z0_foxes z0_safe a1 a1_bytes v1_length v1_at v1_token z1_filled v1_fault v1_faultPlace a1_bytes cyB f1_bytes a0_formX cyI f0_formX a0_formY cyI f0_formY) H → va_D A (wd01_42 a0 a0_formX a0_formY z0_foxX z0_foxY z0_seat z0_strength z0_debts z0_near v0_forms z0_hares z0_foxes z0_safe a1 a1_bytes v1_length v1_at v1_token z1_filled v1_fault v1_faultPlace a1_bytes cyB f1_bytes a0_formX cyI f0_formX a0_formY cyI f0_formY) → va_S A s.heap H locs → lv_has ls 3 [(1, .ref a1)] → wb_X2_readForm_13 v1_length f1_bytes Q  v1_at v1_fault v1_faultPlace v1_token f0_formX f0_formY v0_forms → W p l e (headSpec wsX2_readForm ({ frames := 3, cells := 0, slots := 0, locals := 63 })).room s m args below meth c H locs 0 0 (MQ below (va_Qv (fun (u : Int32 × Int32 × Int32 × Int32 × (Nat → Int32) × (Nat → Int32) × Int32) => Q u.1 u.2.1 u.2.2.1 u.2.2.2.1 u.2.2.2.2.1 u.2.2.2.2.2.1 u.2.2.2.2.2.2) (cB (dC, dI) (kT cyB cyI cyJ cyP) A (fun u : Int32 × Int32 × Int32 × Int32 × (Nat → Int32) × (Nat → Int32) × Int32 => ((wd01_42 a0 a0_formX a0_formY z0_foxX z0_foxY z0_seat z0_strength z0_debts z0_near u.2.2.2.2.2.2 z0_hares z0_foxes z0_safe a1 a1_bytes v1_length u.1 u.2.2.2.1 z1_filled u.2.1 u.2.2.1 a1_bytes cyB f1_bytes a0_formX cyI u.2.2.2.2.1 a0_formY cyI u.2.2.2.2.2.1) : va_W))) A) args s 0 0 A) (F0 m 13 ls []) := by
  obtain ⟨hx, hb, hr, hts, hown, hlocks, hml, hA, hK, hNw⟩ := id C0
  intro H locs ls v1_at v1_fault v1_faultPlace v1_token f0_formX f0_formY v0_forms hP hD hS hl hw
  refine lv_aload_n hx hb (dt_of tkX2_readForm_k0 6 rfl) rfl (lv_at hl 0 rfl) ?_
  refine lv_iconst (v := 3) hx hb (dt_of tkX2_readForm_k0 7 rfl) (by decide) ?_
  obtain ⟨hCc, hPc, hDc, hFc⟩ := va_pick (ws' := (wd01_43 a1 a1_bytes v1_length v1_at v1_token z1_filled v1_fault v1_faultPlace)) hP hD hS hA [1] (by decide +kernel) rfl
  refine va_callv (va_runV (As := [.int 3]) (rest := []) ⟨hx, hb, hml, hown, hts⟩ (ck_X8_blameToken l dC dI cyB cyI cyJ cyP a1 H.size (.ref a1_bytes) (.int v1_length) (.int v1_at) (z1_filled) v1_token v1_fault v1_faultPlace 3 hw) (cwV 1 hts gX2_readForm_X8_blameToken rfl rfl rfl (by decide +kernel) ⟨Nat.le_of_ble_eq_true rfl, Nat.le_of_ble_eq_true rfl⟩) ⟨cPc_blind, va_recv (q := (RX8, TX8, 7)) hK hPc (ci := 8) (q0 := 0) rfl rfl, cPc_pre hPc hK hDc hNw⟩ rfl rfl hl.1 rfl (lv_room (Nat.le_of_ble_eq_true rfl)) (dt_of tkX2_readForm_k0 8 rfl) ⟨Nat.le_of_ble_eq_true rfl, Nat.le_of_ble_eq_true rfl⟩) hS (fun q _ h => hFc q h) hFc (fun u t H1 locs ht hvm hw hB hz1 hk1 hS => ?_)
  obtain ⟨x20, x21⟩ := u
  obtain ⟨hP1, hK1, hD1⟩ := hB
  rw [ht] at hP1
  obtain ⟨hP, hD⟩ := va_joinN (wr := [(a0, .inr (2, [.ref a0_formX, .ref a0_formY, z0_foxX, z0_foxY, z0_seat, z0_strength, z0_debts, z0_near, .int v0_forms, z0_hares, z0_foxes, z0_safe])), (a1_bytes, .inl (cyB, 600, .inl f1_bytes)), (a0_formX, .inl (cyI, 8, .inl f0_formX)), (a0_formY, .inl (cyI, 8, .inl f0_formY))]) (w1 := (wd01_43 a1 a1_bytes v1_length v1_at v1_token z1_filled x20 x21)) (wn := (wd01_42 a0 a0_formX a0_formY z0_foxX z0_foxY z0_seat z0_strength z0_debts z0_near v0_forms z0_hares z0_foxes z0_safe a1 a1_bytes v1_length v1_at v1_token z1_filled x20 x21 a1_bytes cyB f1_bytes a0_formX cyI f0_formX a0_formY cyI f0_formY)) hP hD [1] [0, 2, 3, 4] [0, 4, 1, 2, 3] hCc rfl (by decide +kernel) (by decide +kernel) (by decide +kernel) rfl hk1 hFc hP1 hD1
  generalize H1 = H at hP hS ⊢
  exact ((W.vret hx hb hr (fun t ht hW => ⟨⟨(v1_at, x20, x21, v1_token, f0_formX, f0_formY, v0_forms), rfl, hw, by rw [ht]; exact hP, va_K.moved hW.alike hK, hD⟩, hS.F ht⟩) hS.2.2 (dt_of tkX2_readForm_k0 9 rfl)))
set_option maxHeartbeats 4000000 in
set_option maxRecDepth 100000 in
theorem ck_X2_readForm (l : Launch) (dC : Nat → ClassId) (dI : Nat → Nat → Nat) (cyB cyI cyJ cyP : ClassId) (a0 a1 a0_formX a1_bytes a0_formY : Nat) (sz : Nat) (z0_foxX : Value) (z0_foxY : Value) (z0_seat : Value) (z0_strength : Value) (z0_debts : Value) (z0_near : Value) (z0_hares : Value) (z0_foxes : Value) (z0_safe : Value) (z1_filled : Value) (v1_length : Int32) (f1_bytes : Nat → Int32) (v1_at : Int32) (v1_fault : Int32) (v1_faultPlace : Int32) (v1_token : Int32) (f0_formX : Nat → Int32) (f0_formY : Nat → Int32) (v0_forms : Int32) (p2 : Int32) {Q : Int32 → Int32 → Int32 → Int32 → (Nat → Int32) → (Nat → Int32) → Int32 → Prop} (hw : wq_X2_readForm v1_length f1_bytes v1_at v1_fault v1_faultPlace v1_token f0_formX f0_formY v0_forms p2 Q) : Met l yX2_readForm wsX2_readForm ({ frames := 3, cells := 0, slots := 0, locals := 63 }) (va_Pc [.ref a0, .ref a1, .int p2] (cPc (dC, dI) (kT cyB cyI cyJ cyP) (wd01_42 a0 a0_formX a0_formY z0_foxX z0_foxY z0_seat z0_strength z0_debts z0_near v0_forms z0_hares z0_foxes z0_safe a1 a1_bytes v1_length v1_at v1_token z1_filled v1_fault v1_faultPlace a1_bytes cyB f1_bytes a0_formX cyI f0_formX a0_formY cyI f0_formY) sz)) (va_Qv (fun (u : Int32 × Int32 × Int32 × Int32 × (Nat → Int32) × (Nat → Int32) × Int32) => Q u.1 u.2.1 u.2.2.1 u.2.2.2.1 u.2.2.2.2.1 u.2.2.2.2.2.1 u.2.2.2.2.2.2) (cB (dC, dI) (kT cyB cyI cyJ cyP) (va_A (wd01_42 a0 a0_formX a0_formY z0_foxX z0_foxY z0_seat z0_strength z0_debts z0_near v0_forms z0_hares z0_foxes z0_safe a1 a1_bytes v1_length v1_at v1_token z1_filled v1_fault v1_faultPlace a1_bytes cyB f1_bytes a0_formX cyI f0_formX a0_formY cyI f0_formY) sz) (fun u : Int32 × Int32 × Int32 × Int32 × (Nat → Int32) × (Nat → Int32) × Int32 => ((wd01_42 a0 a0_formX a0_formY z0_foxX z0_foxY z0_seat z0_strength z0_debts z0_near u.2.2.2.2.2.2 z0_hares z0_foxes z0_safe a1 a1_bytes v1_length u.1 u.2.2.2.1 z1_filled u.2.1 u.2.2.1 a1_bytes cyB f1_bytes a0_formX cyI u.2.2.2.2.1 a0_formY cyI u.2.2.2.2.2.1) : va_W))) (va_A (wd01_42 a0 a0_formX a0_formY z0_foxX z0_foxY z0_seat z0_strength z0_debts z0_near v0_forms z0_hares z0_foxes z0_safe a1 a1_bytes v1_length v1_at v1_token z1_filled v1_fault v1_faultPlace a1_bytes cyB f1_bytes a0_formX cyI f0_formX a0_formY cyI f0_formY) sz)) 0 0 (va_A (wd01_42 a0 a0_formX a0_formY z0_foxX z0_foxY z0_seat z0_strength z0_debts z0_near v0_forms z0_hares z0_foxes z0_safe a1 a1_bytes v1_length v1_at v1_token z1_filled v1_fault v1_faultPlace a1_bytes cyB f1_bytes a0_formX cyI f0_formX a0_formY cyI f0_formY) sz) := by
  refine Met.ofW (cc := cX2_readForm) (maxL := 3) (ret := none) (by decide) rfl ?_
  intro p e s m args below meth c s₁ B hml hv
  obtain ⟨rfl, hsz, hP, hK, hD0, hNw⟩ := hv
  have hx := B.exec
  have hb := B.bytes
  have hr := B.returns
  have hts := atoms_spec (ws := wsX2_readForm) B.pre
  have hown : s.vm.findClass RX2 = some m.cls := findClass_of_methodNamed B.named
  have hlocks := B.notSynchronized
  subst hsz
  have hD := hD0.self (sz := s.heap.size)
  generalize hAe : va_A (wd01_42 a0 a0_formX a0_formY z0_foxX z0_foxY z0_seat z0_strength z0_debts z0_near v0_forms z0_hares z0_foxes z0_safe a1 a1_bytes v1_length v1_at v1_token z1_filled v1_fault v1_faultPlace a1_bytes cyB f1_bytes a0_formX cyI f0_formX a0_formY cyI f0_formY) s.heap.size = A at hD ⊢
  have hA : ∀ q : Nat, s.heap.size ≤ q → A q := fun q h => by rw [← hAe]; exact Or.inr h
  have hS : va_S A s.heap s.heap [] := va_S.rf
  have hP : va_P (dC, dI) vwCl (wd01_42 a0 a0_formX a0_formY z0_foxX z0_foxY z0_seat z0_strength z0_debts z0_near v0_forms z0_hares z0_foxes z0_safe a1 a1_bytes v1_length v1_at v1_token z1_filled v1_fault v1_faultPlace a1_bytes cyB f1_bytes a0_formX cyI f0_formX a0_formY cyI f0_formY) s.heap := hP
  have hl := lv_entry ([.ref a0, .ref a1, .int p2]) (n := 3) (Nat.le_of_ble_eq_true rfl)
  rw [lg_entry_eq]
  generalize (lg_sl ([.ref a0, .ref a1, .int p2]) ++ List.replicate (3 - (lg_sl ([.ref a0, .ref a1, .int p2])).length) Slot.unset).toArray = ls at hl ⊢
  have hl : lv_has ls 3 [(0, .ref a0), (1, .ref a1), (2, .int p2)] := hl
  have C0 : cfx p s m _ meth c cX2_readForm none wsX2_readForm RX2 3 A (dC, dI) (kT cyB cyI cyJ cyP) := ⟨hx, hb, hr, hts, hown, hlocks, hml, hA, hK, hNw⟩
  clear hAe
  obtain ⟨H, hH⟩ : ∃ H, H = s.heap := ⟨_, rfl⟩
  rw [← hH] at hP ⊢
  have hS : va_S A s.heap H [] := by rw [hH]; exact va_S.rf
  have hS := hS
  refine lv_iload_n hx hb (dt_of tkX2_readForm_k0 0 rfl) rfl (lv_at hl 2 rfl) ?_
  refine lv_if_ne (tgt := 13) hx hb (dt_of tkX2_readForm_k0 1 rfl) (by decide) (fun c1 => ?_) (fun c1 => ?_)
  · have hw := hw.1 c1
    exact kb_X2_readForm_13 dC dI cyB cyI cyJ cyP a0 a1 a0_formX a1_bytes a0_formY z0_foxX z0_foxY z0_seat z0_strength z0_debts z0_near z0_hares z0_foxes z0_safe z1_filled v1_length f1_bytes Q  C0 _ _ _ v1_at v1_fault v1_faultPlace v1_token f0_formX f0_formY v0_forms hP hD hS (lv_sub hl [1] rfl) hw
  · have hw := hw.2 c1
    refine lv_aload_n hx hb (dt_of tkX2_readForm_k0 2 rfl) rfl (lv_at hl 0 rfl) ?_
    refine va_get (D := (dC, dI)) (ci := 2) (v := .int v0_forms) (C := RX2) (T := TX2) (N := 12) hx hb hts ui_X2_readForm_X2 hown hK hP 0 rfl rfl 8 (by decide) (hts _ uw_X2_readForm_f36) (fun _ h9 => h9) rfl (dt_of tkX2_readForm_k0 3 rfl) ?_
    refine lv_bipush (v := 8) hx hb (dt_of tkX2_readForm_k0 4 rfl) (by decide) ?_
    refine lv_icmp_lt (tgt := 19) hx hb (dt_of tkX2_readForm_k0 5 rfl) (by decide) (fun c2 => ?_) (fun c2 => ?_)
    · have hw := hw.1 c2
      refine lv_aload_n hx hb (dt_of tkX2_readForm_k0 10 rfl) rfl (lv_at hl 0 rfl) ?_
      refine va_get (D := (dC, dI)) (ci := 2) (v := .ref a0_formX) (C := RX2) (T := TX2) (N := 12) hx hb hts ui_X2_readForm_X2 hown hK hP 0 rfl rfl 0 (by decide) (hts _ uw_X2_readForm_f9) (fun _ h9 => h9) rfl (dt_of tkX2_readForm_k0 11 rfl) ?_
      refine lv_aload_n hx hb (dt_of tkX2_readForm_k0 12 rfl) rfl (lv_at hl 0 rfl) ?_
      refine va_get (D := (dC, dI)) (ci := 2) (v := .int v0_forms) (C := RX2) (T := TX2) (N := 12) hx hb hts ui_X2_readForm_X2 hown hK hP 0 rfl rfl 8 (by decide) (hts _ uw_X2_readForm_f36) (fun _ h9 => h9) rfl (dt_of tkX2_readForm_k0 13 rfl) ?_
      refine lv_aload_n hx hb (dt_of tkX2_readForm_k0 14 rfl) rfl (lv_at hl 1 rfl) ?_
      refine lv_iconst (v := 0) hx hb (dt_of tkX2_readForm_k0 15 rfl) (by decide) ?_
      refine lv_bipush (v := 30) hx hb (dt_of tkX2_readForm_k29 0 rfl) (by decide) ?_
      obtain ⟨hCc, hPc, hDc, hFc⟩ := va_pick (ws' := (wd01_44 a1 a1_bytes v1_length v1_at v1_token z1_filled v1_fault v1_faultPlace a1_bytes cyB f1_bytes)) hP hD hS hA [1, 2] (by decide +kernel) rfl
      refine va_calli (va_runV (As := [.int 0, .int 30]) (rest := [.int v0_forms, .ref a0_formX]) ⟨hx, hb, hml, hown, hts⟩ (ck_X8_number l dC dI cyB cyI cyJ cyP a1 a1_bytes H.size (z1_filled) v1_length f1_bytes v1_at v1_fault v1_faultPlace v1_token 0 30 hw) (cwV 2 hts gX2_readForm_X8_number rfl rfl rfl (by decide +kernel) ⟨Nat.le_of_ble_eq_true rfl, Nat.le_of_ble_eq_true rfl⟩) ⟨cPc_blind, va_recv (q := (RX8, TX8, 7)) hK hPc (ci := 8) (q0 := 0) rfl rfl, cPc_pre hPc hK hDc hNw⟩ rfl rfl hl.1 rfl (lv_room (Nat.le_of_ble_eq_true rfl)) (dt_of tkX2_readForm_k29 1 rfl) ⟨Nat.le_of_ble_eq_true rfl, Nat.le_of_ble_eq_true rfl⟩) hS (fun q _ h => hFc q h) hFc (fun r7 u t H1 locs ht hvm hw hB hz1 hk1 hS => ?_)
      obtain ⟨x3, x4, x5, x6⟩ := u
      obtain ⟨hP1, hK1, hD1⟩ := hB
      rw [ht] at hP1
      obtain ⟨hP, hD⟩ := va_joinN (wr := (wd01_45 a0 a0_formX a0_formY z0_foxX z0_foxY z0_seat z0_strength z0_debts z0_near v0_forms z0_hares z0_foxes z0_safe a0_formX cyI f0_formX a0_formY cyI f0_formY)) (w1 := (wd01_44 a1 a1_bytes v1_length x3 x6 z1_filled x4 x5 a1_bytes cyB f1_bytes)) (wn := (wd01_42 a0 a0_formX a0_formY z0_foxX z0_foxY z0_seat z0_strength z0_debts z0_near v0_forms z0_hares z0_foxes z0_safe a1 a1_bytes v1_length x3 x6 z1_filled x4 x5 a1_bytes cyB f1_bytes a0_formX cyI f0_formX a0_formY cyI f0_formY)) hP hD [1, 2] [0, 3, 4] [0, 3, 4, 1, 2] hCc rfl (by decide +kernel) (by decide +kernel) (by decide +kernel) rfl hk1 hFc hP1 hD1
      generalize H1 = H at hP hS ⊢
      obtain ⟨hi9, hw⟩ := hw
      refine va_iast hx hb hK hP hD hS 3 1 rfl rfl hi9 (dt_of tkX2_readForm_k29 2 rfl) (fun H locs hP hD hS => ?_)
      obtain ⟨f8, ef8⟩ : ∃ y : Nat → Int32, y = upd f0_formX v0_forms.toNatClampNeg r7 := ⟨_, rfl⟩
      have hw := hw f8 ef8
      have hP : va_P (dC, dI) vwCl (wd01_42 a0 a0_formX a0_formY z0_foxX z0_foxY z0_seat z0_strength z0_debts z0_near v0_forms z0_hares z0_foxes z0_safe a1 a1_bytes v1_length x3 x6 z1_filled x4 x5 a1_bytes cyB f1_bytes a0_formX cyI f8 a0_formY cyI f0_formY) H := by rw [ef8]; exact hP
      have hD : va_D A (wd01_42 a0 a0_formX a0_formY z0_foxX z0_foxY z0_seat z0_strength z0_debts z0_near v0_forms z0_hares z0_foxes z0_safe a1 a1_bytes v1_length x3 x6 z1_filled x4 x5 a1_bytes cyB f1_bytes a0_formX cyI f8 a0_formY cyI f0_formY) := by rw [ef8]; exact hD
      refine lv_aload_n hx hb (dt_of tkX2_readForm_k29 3 rfl) rfl (lv_at hl 0 rfl) ?_
      refine va_get (D := (dC, dI)) (ci := 2) (v := .ref a0_formY) (C := RX2) (T := TX2) (N := 12) hx hb hts ui_X2_readForm_X2 hown hK hP 0 rfl rfl 1 (by decide) (hts _ uw_X2_readForm_f15) (fun _ h9 => h9) rfl (dt_of tkX2_readForm_k29 4 rfl) ?_
      refine lv_aload_n hx hb (dt_of tkX2_readForm_k29 5 rfl) rfl (lv_at hl 0 rfl) ?_
      refine va_get (D := (dC, dI)) (ci := 2) (v := .int v0_forms) (C := RX2) (T := TX2) (N := 12) hx hb hts ui_X2_readForm_X2 hown hK hP 0 rfl rfl 8 (by decide) (hts _ uw_X2_readForm_f36) (fun _ h9 => h9) rfl (dt_of tkX2_readForm_k29 6 rfl) ?_
      refine lv_aload_n hx hb (dt_of tkX2_readForm_k29 7 rfl) rfl (lv_at hl 1 rfl) ?_
      refine lv_iconst (v := 0) hx hb (dt_of tkX2_readForm_k29 8 rfl) (by decide) ?_
      refine lv_bipush (v := 30) hx hb (dt_of tkX2_readForm_k29 9 rfl) (by decide) ?_
      obtain ⟨hCc, hPc, hDc, hFc⟩ := va_pick (ws' := (wd01_44 a1 a1_bytes v1_length x3 x6 z1_filled x4 x5 a1_bytes cyB f1_bytes)) hP hD hS hA [1, 2] (by decide +kernel) rfl
      refine va_calli (va_runV (As := [.int 0, .int 30]) (rest := [.int v0_forms, .ref a0_formY]) ⟨hx, hb, hml, hown, hts⟩ (ck_X8_number l dC dI cyB cyI cyJ cyP a1 a1_bytes H.size (z1_filled) v1_length f1_bytes x3 x4 x5 x6 0 30 hw) (cwV 2 hts gX2_readForm_X8_number rfl rfl rfl (by decide +kernel) ⟨Nat.le_of_ble_eq_true rfl, Nat.le_of_ble_eq_true rfl⟩) ⟨cPc_blind, va_recv (q := (RX8, TX8, 7)) hK hPc (ci := 8) (q0 := 0) rfl rfl, cPc_pre hPc hK hDc hNw⟩ rfl rfl hl.1 rfl (lv_room (Nat.le_of_ble_eq_true rfl)) (dt_of tkX2_readForm_k29 10 rfl) ⟨Nat.le_of_ble_eq_true rfl, Nat.le_of_ble_eq_true rfl⟩) hS (fun q _ h => hFc q h) hFc (fun r13 u t H1 locs ht hvm hw hB hz1 hk1 hS => ?_)
      obtain ⟨x9, x10, x11, x12⟩ := u
      obtain ⟨hP1, hK1, hD1⟩ := hB
      rw [ht] at hP1
      obtain ⟨hP, hD⟩ := va_joinN (wr := (wd01_45 a0 a0_formX a0_formY z0_foxX z0_foxY z0_seat z0_strength z0_debts z0_near v0_forms z0_hares z0_foxes z0_safe a0_formX cyI f8 a0_formY cyI f0_formY)) (w1 := (wd01_44 a1 a1_bytes v1_length x9 x12 z1_filled x10 x11 a1_bytes cyB f1_bytes)) (wn := (wd01_42 a0 a0_formX a0_formY z0_foxX z0_foxY z0_seat z0_strength z0_debts z0_near v0_forms z0_hares z0_foxes z0_safe a1 a1_bytes v1_length x9 x12 z1_filled x10 x11 a1_bytes cyB f1_bytes a0_formX cyI f8 a0_formY cyI f0_formY)) hP hD [1, 2] [0, 3, 4] [0, 3, 4, 1, 2] hCc rfl (by decide +kernel) (by decide +kernel) (by decide +kernel) rfl hk1 hFc hP1 hD1
      generalize H1 = H at hP hS ⊢
      obtain ⟨hi9, hw⟩ := hw
      refine va_iast hx hb hK hP hD hS 4 1 rfl rfl hi9 (dt_of tkX2_readForm_k29 11 rfl) (fun H locs hP hD hS => ?_)
      obtain ⟨f14, ef14⟩ : ∃ y : Nat → Int32, y = upd f0_formY v0_forms.toNatClampNeg r13 := ⟨_, rfl⟩
      have hw := hw f14 ef14
      have hP : va_P (dC, dI) vwCl (wd01_42 a0 a0_formX a0_formY z0_foxX z0_foxY z0_seat z0_strength z0_debts z0_near v0_forms z0_hares z0_foxes z0_safe a1 a1_bytes v1_length x9 x12 z1_filled x10 x11 a1_bytes cyB f1_bytes a0_formX cyI f8 a0_formY cyI f14) H := by rw [ef14]; exact hP
      have hD : va_D A (wd01_42 a0 a0_formX a0_formY z0_foxX z0_foxY z0_seat z0_strength z0_debts z0_near v0_forms z0_hares z0_foxes z0_safe a1 a1_bytes v1_length x9 x12 z1_filled x10 x11 a1_bytes cyB f1_bytes a0_formX cyI f8 a0_formY cyI f14) := by rw [ef14]; exact hD
      refine lv_aload_n hx hb (dt_of tkX2_readForm_k29 12 rfl) rfl (lv_at hl 1 rfl) ?_
      refine lv_bipush (v := 59) hx hb (dt_of tkX2_readForm_k29 13 rfl) (by decide) ?_
      obtain ⟨hCc, hPc, hDc, hFc⟩ := va_pick (ws' := (wd01_44 a1 a1_bytes v1_length x9 x12 z1_filled x10 x11 a1_bytes cyB f1_bytes)) hP hD hS hA [1, 2] (by decide +kernel) rfl
      refine va_callv (va_runV (As := [.int 59]) (rest := []) ⟨hx, hb, hml, hown, hts⟩ (ck_X8_needs l dC dI cyB cyI cyJ cyP a1 a1_bytes H.size (z1_filled) v1_length f1_bytes x9 x12 x10 x11 59 hw) (cwV 1 hts gX2_readForm_X8_needs rfl rfl rfl (by decide +kernel) ⟨Nat.le_of_ble_eq_true rfl, Nat.le_of_ble_eq_true rfl⟩) ⟨cPc_blind, va_recv (q := (RX8, TX8, 7)) hK hPc (ci := 8) (q0 := 0) rfl rfl, cPc_pre hPc hK hDc hNw⟩ rfl rfl hl.1 rfl (lv_room (Nat.le_of_ble_eq_true rfl)) (dt_of tkX2_readForm_k29 14 rfl) ⟨Nat.le_of_ble_eq_true rfl, Nat.le_of_ble_eq_true rfl⟩) hS (fun q _ h => hFc q h) hFc (fun u t H1 locs ht hvm hw hB hz1 hk1 hS => ?_)
      obtain ⟨x15, x16, x17, x18⟩ := u
      obtain ⟨hP1, hK1, hD1⟩ := hB
      rw [ht] at hP1
      obtain ⟨hP, hD⟩ := va_joinN (wr := (wd01_45 a0 a0_formX a0_formY z0_foxX z0_foxY z0_seat z0_strength z0_debts z0_near v0_forms z0_hares z0_foxes z0_safe a0_formX cyI f8 a0_formY cyI f14)) (w1 := (wd01_44 a1 a1_bytes v1_length x15 x16 z1_filled x17 x18 a1_bytes cyB f1_bytes)) (wn := (wd01_42 a0 a0_formX a0_formY z0_foxX z0_foxY z0_seat z0_strength z0_debts z0_near v0_forms z0_hares z0_foxes z0_safe a1 a1_bytes v1_length x15 x16 z1_filled x17 x18 a1_bytes cyB f1_bytes a0_formX cyI f8 a0_formY cyI f14)) hP hD [1, 2] [0, 3, 4] [0, 3, 4, 1, 2] hCc rfl (by decide +kernel) (by decide +kernel) (by decide +kernel) rfl hk1 hFc hP1 hD1
      generalize H1 = H at hP hS ⊢
      refine lv_aload_n hx hb (dt_of tkX2_readForm_k29 15 rfl) rfl (lv_at hl 0 rfl) ?_
      refine lv_dup hx hb (dt_of tkX2_readForm_k58 0 rfl) rfl ?_
      refine va_get (D := (dC, dI)) (ci := 2) (v := .int v0_forms) (C := RX2) (T := TX2) (N := 12) hx hb hts ui_X2_readForm_X2 hown hK hP 0 rfl rfl 8 (by decide) (hts _ uw_X2_readForm_f36) (fun _ h9 => h9) rfl (dt_of tkX2_readForm_k58 1 rfl) ?_
      refine lv_iconst (v := 1) hx hb (dt_of tkX2_readForm_k58 2 rfl) (by decide) ?_
      refine lv_iadd hx hb (dt_of tkX2_readForm_k58 3 rfl) ?_
      refine lv_topi (fun x19 ex19 => ?_)
      have hw := hw x19 ex19
      refine va_put (D := (dC, dI)) (ci := 2) (v := .int x19) (ty := .int) (C := RX2) (T := TX2) (N := 12) hx hb hts ui_X2_readForm_X2 tyX2 tyX2_ok nmX2 hown hK hP hD hS 0 rfl rfl 8 (by decide) (hts _ uw_X2_readForm_f36) (fun _ h9 => h9) rfl (by decide +kernel) rfl rfl (Nat.le_of_ble_eq_true rfl) (dt_of tkX2_readForm_k58 4 rfl) (fun H locs hP hD hS => ?_)
      have hP : va_P (dC, dI) vwCl (wd01_42 a0 a0_formX a0_formY z0_foxX z0_foxY z0_seat z0_strength z0_debts z0_near x19 z0_hares z0_foxes z0_safe a1 a1_bytes v1_length x15 x16 z1_filled x17 x18 a1_bytes cyB f1_bytes a0_formX cyI f8 a0_formY cyI f14) H := hP
      have hD : va_D A (wd01_42 a0 a0_formX a0_formY z0_foxX z0_foxY z0_seat z0_strength z0_debts z0_near x19 z0_hares z0_foxes z0_safe a1 a1_bytes v1_length x15 x16 z1_filled x17 x18 a1_bytes cyB f1_bytes a0_formX cyI f8 a0_formY cyI f14) := hD
      exact ((W.vret hx hb hr (fun t ht hW => ⟨⟨(x15, x17, x18, x16, f8, f14, x19), rfl, hw, by rw [ht]; exact hP, va_K.moved hW.alike hK, hD⟩, hS.F ht⟩) hS.2.2 (dt_of tkX2_readForm_k58 5 rfl)))
    · have hw := hw.2 c2
      exact kb_X2_readForm_13 dC dI cyB cyI cyJ cyP a0 a1 a0_formX a1_bytes a0_formY z0_foxX z0_foxY z0_seat z0_strength z0_debts z0_near z0_hares z0_foxes z0_safe z1_filled v1_length f1_bytes Q  C0 _ _ _ v1_at v1_fault v1_faultPlace v1_token f0_formX f0_formY v0_forms hP hD hS (lv_sub hl [1] rfl) hw
theorem ui_X2_readHare_X2 : ∀ w ∈ u_ws RX2 TX2 12, w ∈ wsX2_readHare := uiM mbX2_readHare euX2 (by decide +kernel)
theorem uw_X2_readHare_f24 : (.fieldLink RX2 24 "MarchHares$Down" "seat" "[I" : Cond) ∈ wsX2_readHare := mbX2_readHare 192 (by decide +kernel)
theorem uw_X2_readHare_f27 : (.fieldLink RX2 27 "MarchHares$Down" "strength" "[I" : Cond) ∈ wsX2_readHare := mbX2_readHare 193 (by decide +kernel)
theorem uw_X2_readHare_f36 : (.fieldLink RX2 36 "MarchHares$Down" "forms" "I" : Cond) ∈ wsX2_readHare := mbX2_readHare 720 (by decide +kernel)
theorem uw_X2_readHare_f40 : (.fieldLink RX2 40 "MarchHares$Down" "hares" "I" : Cond) ∈ wsX2_readHare := mbX2_readHare 721 (by decide +kernel)
set_option maxHeartbeats 4000000 in
set_option maxRecDepth 100000 in
theorem kb_X2_readHare_13 {p : Program} {l : Launch} {e : Env} {s : State} {m : MethodId} {args : Array Value} {below : List Frame} {meth : Method} {c : Code} {A : Nat → Prop} (dC : Nat → ClassId) (dI : Nat → Nat → Nat) (cyB cyI cyJ cyP : ClassId) (a0 a1 a0_seat a1_bytes a0_strength : Nat) (z0_formX : Value) (z0_formY : Value) (z0_foxX : Value) (z0_foxY : Value) (z0_debts : Value) (z0_near : Value) (z0_foxes : Value) (z0_safe : Value) (z1_filled : Value) (v0_forms : Int32) (v1_length : Int32) (f1_bytes : Nat → Int32) (Q : Int32 → Int32 → Int32 → Int32 → (Nat → Int32) → (Nat → Int32) → Int32 → Prop)  (C0 : cfx p s m args meth c cX2_readHare none wsX2_readHare RX2 3 A (dC, dI) (kT cyB cyI cyJ cyP)) : ∀ (H : Heap) (locs : List Loc) (ls : Array Slot) (v1_at : Int32) (v1_fault : Int32) (v1_faultPlace : Int32) (v1_token : Int32) (f0_seat : Nat → Int32) (f0_strength : Nat → Int32) (v0_hares : Int32), va_P (dC, dI) vwCl (wd01_46 a0 z0_formX z0_formY z0_foxX z0_foxY a0_seat a0_strength z0_debts z0_near v0_forms v0_hares z0_foxes z0_safe a1 a1_bytes v1_length v1_at v1_token z1_filled v1_fault v1_faultPlace a1_bytes cyB f1_bytes a0_seat cyI f0_seat a0_strength cyI f0_strength) H → va_D A (wd01_46 a0 z0_formX z0_formY z0_foxX z0_foxY a0_seat a0_strength z0_debts z0_near v0_forms v0_hares z0_foxes z0_safe a1 a1_bytes v1_length v1_at v1_token z1_filled v1_fault v1_faultPlace a1_bytes cyB f1_bytes a0_seat cyI f0_seat a0_strength cyI f0_strength) → va_S A s.heap H locs → lv_has ls 3 [(1, .ref a1)] → wb_X2_readHare_13 v0_forms v1_length f1_bytes Q  v1_at v1_fault v1_faultPlace v1_token f0_seat f0_strength v0_hares → W p l e (headSpec wsX2_readHare ({ frames := 3, cells := 0, slots := 0, locals := 63 })).room s m args below meth c H locs 0 0 (MQ below (va_Qv (fun (u : Int32 × Int32 × Int32 × Int32 × (Nat → Int32) × (Nat → Int32) × Int32) => Q u.1 u.2.1 u.2.2.1 u.2.2.2.1 u.2.2.2.2.1 u.2.2.2.2.2.1 u.2.2.2.2.2.2) (cB (dC, dI) (kT cyB cyI cyJ cyP) A (fun u : Int32 × Int32 × Int32 × Int32 × (Nat → Int32) × (Nat → Int32) × Int32 => ((wd01_46 a0 z0_formX z0_formY z0_foxX z0_foxY a0_seat a0_strength z0_debts z0_near v0_forms u.2.2.2.2.2.2 z0_foxes z0_safe a1 a1_bytes v1_length u.1 u.2.2.2.1 z1_filled u.2.1 u.2.2.1 a1_bytes cyB f1_bytes a0_seat cyI u.2.2.2.2.1 a0_strength cyI u.2.2.2.2.2.1) : va_W))) A) args s 0 0 A) (F0 m 13 ls []) := by
  obtain ⟨hx, hb, hr, hts, hown, hlocks, hml, hA, hK, hNw⟩ := id C0
  intro H locs ls v1_at v1_fault v1_faultPlace v1_token f0_seat f0_strength v0_hares hP hD hS hl hw
  refine lv_aload_n hx hb (dt_of tkX2_readHare_k0 6 rfl) rfl (lv_at hl 0 rfl) ?_
  refine lv_iconst (v := 3) hx hb (dt_of tkX2_readHare_k0 7 rfl) (by decide) ?_
  obtain ⟨hCc, hPc, hDc, hFc⟩ := va_pick (ws' := (wd01_43 a1 a1_bytes v1_length v1_at v1_token z1_filled v1_fault v1_faultPlace)) hP hD hS hA [1] (by decide +kernel) rfl
  refine va_callv (va_runV (As := [.int 3]) (rest := []) ⟨hx, hb, hml, hown, hts⟩ (ck_X8_blameToken l dC dI cyB cyI cyJ cyP a1 H.size (.ref a1_bytes) (.int v1_length) (.int v1_at) (z1_filled) v1_token v1_fault v1_faultPlace 3 hw) (cwV 1 hts gX2_readHare_X8_blameToken rfl rfl rfl (by decide +kernel) ⟨Nat.le_of_ble_eq_true rfl, Nat.le_of_ble_eq_true rfl⟩) ⟨cPc_blind, va_recv (q := (RX8, TX8, 7)) hK hPc (ci := 8) (q0 := 0) rfl rfl, cPc_pre hPc hK hDc hNw⟩ rfl rfl hl.1 rfl (lv_room (Nat.le_of_ble_eq_true rfl)) (dt_of tkX2_readHare_k0 8 rfl) ⟨Nat.le_of_ble_eq_true rfl, Nat.le_of_ble_eq_true rfl⟩) hS (fun q _ h => hFc q h) hFc (fun u t H1 locs ht hvm hw hB hz1 hk1 hS => ?_)
  obtain ⟨x20, x21⟩ := u
  obtain ⟨hP1, hK1, hD1⟩ := hB
  rw [ht] at hP1
  obtain ⟨hP, hD⟩ := va_joinN (wr := [(a0, .inr (2, [z0_formX, z0_formY, z0_foxX, z0_foxY, .ref a0_seat, .ref a0_strength, z0_debts, z0_near, .int v0_forms, .int v0_hares, z0_foxes, z0_safe])), (a1_bytes, .inl (cyB, 600, .inl f1_bytes)), (a0_seat, .inl (cyI, 6, .inl f0_seat)), (a0_strength, .inl (cyI, 6, .inl f0_strength))]) (w1 := (wd01_43 a1 a1_bytes v1_length v1_at v1_token z1_filled x20 x21)) (wn := (wd01_46 a0 z0_formX z0_formY z0_foxX z0_foxY a0_seat a0_strength z0_debts z0_near v0_forms v0_hares z0_foxes z0_safe a1 a1_bytes v1_length v1_at v1_token z1_filled x20 x21 a1_bytes cyB f1_bytes a0_seat cyI f0_seat a0_strength cyI f0_strength)) hP hD [1] [0, 2, 3, 4] [0, 4, 1, 2, 3] hCc rfl (by decide +kernel) (by decide +kernel) (by decide +kernel) rfl hk1 hFc hP1 hD1
  generalize H1 = H at hP hS ⊢
  exact ((W.vret hx hb hr (fun t ht hW => ⟨⟨(v1_at, x20, x21, v1_token, f0_seat, f0_strength, v0_hares), rfl, hw, by rw [ht]; exact hP, va_K.moved hW.alike hK, hD⟩, hS.F ht⟩) hS.2.2 (dt_of tkX2_readHare_k0 9 rfl)))
set_option maxHeartbeats 4000000 in
set_option maxRecDepth 100000 in
theorem ck_X2_readHare (l : Launch) (dC : Nat → ClassId) (dI : Nat → Nat → Nat) (cyB cyI cyJ cyP : ClassId) (a0 a1 a0_seat a1_bytes a0_strength : Nat) (sz : Nat) (z0_formX : Value) (z0_formY : Value) (z0_foxX : Value) (z0_foxY : Value) (z0_debts : Value) (z0_near : Value) (z0_foxes : Value) (z0_safe : Value) (z1_filled : Value) (v0_forms : Int32) (v1_length : Int32) (f1_bytes : Nat → Int32) (v1_at : Int32) (v1_fault : Int32) (v1_faultPlace : Int32) (v1_token : Int32) (f0_seat : Nat → Int32) (f0_strength : Nat → Int32) (v0_hares : Int32) (p2 : Int32) {Q : Int32 → Int32 → Int32 → Int32 → (Nat → Int32) → (Nat → Int32) → Int32 → Prop} (hw : wq_X2_readHare v0_forms v1_length f1_bytes v1_at v1_fault v1_faultPlace v1_token f0_seat f0_strength v0_hares p2 Q) : Met l yX2_readHare wsX2_readHare ({ frames := 3, cells := 0, slots := 0, locals := 63 }) (va_Pc [.ref a0, .ref a1, .int p2] (cPc (dC, dI) (kT cyB cyI cyJ cyP) (wd01_46 a0 z0_formX z0_formY z0_foxX z0_foxY a0_seat a0_strength z0_debts z0_near v0_forms v0_hares z0_foxes z0_safe a1 a1_bytes v1_length v1_at v1_token z1_filled v1_fault v1_faultPlace a1_bytes cyB f1_bytes a0_seat cyI f0_seat a0_strength cyI f0_strength) sz)) (va_Qv (fun (u : Int32 × Int32 × Int32 × Int32 × (Nat → Int32) × (Nat → Int32) × Int32) => Q u.1 u.2.1 u.2.2.1 u.2.2.2.1 u.2.2.2.2.1 u.2.2.2.2.2.1 u.2.2.2.2.2.2) (cB (dC, dI) (kT cyB cyI cyJ cyP) (va_A (wd01_46 a0 z0_formX z0_formY z0_foxX z0_foxY a0_seat a0_strength z0_debts z0_near v0_forms v0_hares z0_foxes z0_safe a1 a1_bytes v1_length v1_at v1_token z1_filled v1_fault v1_faultPlace a1_bytes cyB f1_bytes a0_seat cyI f0_seat a0_strength cyI f0_strength) sz) (fun u : Int32 × Int32 × Int32 × Int32 × (Nat → Int32) × (Nat → Int32) × Int32 => ((wd01_46 a0 z0_formX z0_formY z0_foxX z0_foxY a0_seat a0_strength z0_debts z0_near v0_forms u.2.2.2.2.2.2 z0_foxes z0_safe a1 a1_bytes v1_length u.1 u.2.2.2.1 z1_filled u.2.1 u.2.2.1 a1_bytes cyB f1_bytes a0_seat cyI u.2.2.2.2.1 a0_strength cyI u.2.2.2.2.2.1) : va_W))) (va_A (wd01_46 a0 z0_formX z0_formY z0_foxX z0_foxY a0_seat a0_strength z0_debts z0_near v0_forms v0_hares z0_foxes z0_safe a1 a1_bytes v1_length v1_at v1_token z1_filled v1_fault v1_faultPlace a1_bytes cyB f1_bytes a0_seat cyI f0_seat a0_strength cyI f0_strength) sz)) 0 0 (va_A (wd01_46 a0 z0_formX z0_formY z0_foxX z0_foxY a0_seat a0_strength z0_debts z0_near v0_forms v0_hares z0_foxes z0_safe a1 a1_bytes v1_length v1_at v1_token z1_filled v1_fault v1_faultPlace a1_bytes cyB f1_bytes a0_seat cyI f0_seat a0_strength cyI f0_strength) sz) := by
  refine Met.ofW (cc := cX2_readHare) (maxL := 3) (ret := none) (by decide) rfl ?_
  intro p e s m args below meth c s₁ B hml hv
  obtain ⟨rfl, hsz, hP, hK, hD0, hNw⟩ := hv
  have hx := B.exec
  have hb := B.bytes
  have hr := B.returns
  have hts := atoms_spec (ws := wsX2_readHare) B.pre
  have hown : s.vm.findClass RX2 = some m.cls := findClass_of_methodNamed B.named
  have hlocks := B.notSynchronized
  subst hsz
  have hD := hD0.self (sz := s.heap.size)
  generalize hAe : va_A (wd01_46 a0 z0_formX z0_formY z0_foxX z0_foxY a0_seat a0_strength z0_debts z0_near v0_forms v0_hares z0_foxes z0_safe a1 a1_bytes v1_length v1_at v1_token z1_filled v1_fault v1_faultPlace a1_bytes cyB f1_bytes a0_seat cyI f0_seat a0_strength cyI f0_strength) s.heap.size = A at hD ⊢
  have hA : ∀ q : Nat, s.heap.size ≤ q → A q := fun q h => by rw [← hAe]; exact Or.inr h
  have hS : va_S A s.heap s.heap [] := va_S.rf
  have hP : va_P (dC, dI) vwCl (wd01_46 a0 z0_formX z0_formY z0_foxX z0_foxY a0_seat a0_strength z0_debts z0_near v0_forms v0_hares z0_foxes z0_safe a1 a1_bytes v1_length v1_at v1_token z1_filled v1_fault v1_faultPlace a1_bytes cyB f1_bytes a0_seat cyI f0_seat a0_strength cyI f0_strength) s.heap := hP
  have hl := lv_entry ([.ref a0, .ref a1, .int p2]) (n := 3) (Nat.le_of_ble_eq_true rfl)
  rw [lg_entry_eq]
  generalize (lg_sl ([.ref a0, .ref a1, .int p2]) ++ List.replicate (3 - (lg_sl ([.ref a0, .ref a1, .int p2])).length) Slot.unset).toArray = ls at hl ⊢
  have hl : lv_has ls 3 [(0, .ref a0), (1, .ref a1), (2, .int p2)] := hl
  have C0 : cfx p s m _ meth c cX2_readHare none wsX2_readHare RX2 3 A (dC, dI) (kT cyB cyI cyJ cyP) := ⟨hx, hb, hr, hts, hown, hlocks, hml, hA, hK, hNw⟩
  clear hAe
  obtain ⟨H, hH⟩ : ∃ H, H = s.heap := ⟨_, rfl⟩
  rw [← hH] at hP ⊢
  have hS : va_S A s.heap H [] := by rw [hH]; exact va_S.rf
  have hS := hS
  refine lv_iload_n hx hb (dt_of tkX2_readHare_k0 0 rfl) rfl (lv_at hl 2 rfl) ?_
  refine lv_if_ne (tgt := 13) hx hb (dt_of tkX2_readHare_k0 1 rfl) (by decide) (fun c1 => ?_) (fun c1 => ?_)
  · have hw := hw.1 c1
    exact kb_X2_readHare_13 dC dI cyB cyI cyJ cyP a0 a1 a0_seat a1_bytes a0_strength z0_formX z0_formY z0_foxX z0_foxY z0_debts z0_near z0_foxes z0_safe z1_filled v0_forms v1_length f1_bytes Q  C0 _ _ _ v1_at v1_fault v1_faultPlace v1_token f0_seat f0_strength v0_hares hP hD hS (lv_sub hl [1] rfl) hw
  · have hw := hw.2 c1
    refine lv_aload_n hx hb (dt_of tkX2_readHare_k0 2 rfl) rfl (lv_at hl 0 rfl) ?_
    refine va_get (D := (dC, dI)) (ci := 2) (v := .int v0_hares) (C := RX2) (T := TX2) (N := 12) hx hb hts ui_X2_readHare_X2 hown hK hP 0 rfl rfl 9 (by decide) (hts _ uw_X2_readHare_f40) (fun _ h9 => h9) rfl (dt_of tkX2_readHare_k0 3 rfl) ?_
    refine lv_bipush (v := 6) hx hb (dt_of tkX2_readHare_k0 4 rfl) (by decide) ?_
    refine lv_icmp_lt (tgt := 19) hx hb (dt_of tkX2_readHare_k0 5 rfl) (by decide) (fun c2 => ?_) (fun c2 => ?_)
    · have hw := hw.1 c2
      refine lv_aload_n hx hb (dt_of tkX2_readHare_k0 10 rfl) rfl (lv_at hl 0 rfl) ?_
      refine va_get (D := (dC, dI)) (ci := 2) (v := .ref a0_seat) (C := RX2) (T := TX2) (N := 12) hx hb hts ui_X2_readHare_X2 hown hK hP 0 rfl rfl 4 (by decide) (hts _ uw_X2_readHare_f24) (fun _ h9 => h9) rfl (dt_of tkX2_readHare_k0 11 rfl) ?_
      refine lv_aload_n hx hb (dt_of tkX2_readHare_k0 12 rfl) rfl (lv_at hl 0 rfl) ?_
      refine va_get (D := (dC, dI)) (ci := 2) (v := .int v0_hares) (C := RX2) (T := TX2) (N := 12) hx hb hts ui_X2_readHare_X2 hown hK hP 0 rfl rfl 9 (by decide) (hts _ uw_X2_readHare_f40) (fun _ h9 => h9) rfl (dt_of tkX2_readHare_k0 13 rfl) ?_
      refine lv_aload_n hx hb (dt_of tkX2_readHare_k0 14 rfl) rfl (lv_at hl 1 rfl) ?_
      refine lv_iconst (v := 0) hx hb (dt_of tkX2_readHare_k0 15 rfl) (by decide) ?_
      refine lv_aload_n hx hb (dt_of tkX2_readHare_k29 0 rfl) rfl (lv_at hl 0 rfl) ?_
      refine va_get (D := (dC, dI)) (ci := 2) (v := .int v0_forms) (C := RX2) (T := TX2) (N := 12) hx hb hts ui_X2_readHare_X2 hown hK hP 0 rfl rfl 8 (by decide) (hts _ uw_X2_readHare_f36) (fun _ h9 => h9) rfl (dt_of tkX2_readHare_k29 1 rfl) ?_
      refine lv_iconst (v := 1) hx hb (dt_of tkX2_readHare_k29 2 rfl) (by decide) ?_
      refine lv_isub hx hb (dt_of tkX2_readHare_k29 3 rfl) ?_
      obtain ⟨hCc, hPc, hDc, hFc⟩ := va_pick (ws' := (wd01_44 a1 a1_bytes v1_length v1_at v1_token z1_filled v1_fault v1_faultPlace a1_bytes cyB f1_bytes)) hP hD hS hA [1, 2] (by decide +kernel) rfl
      refine va_calli (va_runV (As := [.int 0, .int (v0_forms - 1)]) (rest := [.int v0_hares, .ref a0_seat]) ⟨hx, hb, hml, hown, hts⟩ (ck_X8_number l dC dI cyB cyI cyJ cyP a1 a1_bytes H.size (z1_filled) v1_length f1_bytes v1_at v1_fault v1_faultPlace v1_token 0 (v0_forms - 1) hw) (cwV 2 hts gX2_readHare_X8_number rfl rfl rfl (by decide +kernel) ⟨Nat.le_of_ble_eq_true rfl, Nat.le_of_ble_eq_true rfl⟩) ⟨cPc_blind, va_recv (q := (RX8, TX8, 7)) hK hPc (ci := 8) (q0 := 0) rfl rfl, cPc_pre hPc hK hDc hNw⟩ rfl rfl hl.1 rfl (lv_room (Nat.le_of_ble_eq_true rfl)) (dt_of tkX2_readHare_k29 4 rfl) ⟨Nat.le_of_ble_eq_true rfl, Nat.le_of_ble_eq_true rfl⟩) hS (fun q _ h => hFc q h) hFc (fun r7 u t H1 locs ht hvm hw hB hz1 hk1 hS => ?_)
      obtain ⟨x3, x4, x5, x6⟩ := u
      obtain ⟨hP1, hK1, hD1⟩ := hB
      rw [ht] at hP1
      obtain ⟨hP, hD⟩ := va_joinN (wr := (wd01_47 a0 z0_formX z0_formY z0_foxX z0_foxY a0_seat a0_strength z0_debts z0_near v0_forms v0_hares z0_foxes z0_safe a0_seat cyI f0_seat a0_strength cyI f0_strength)) (w1 := (wd01_44 a1 a1_bytes v1_length x3 x6 z1_filled x4 x5 a1_bytes cyB f1_bytes)) (wn := (wd01_46 a0 z0_formX z0_formY z0_foxX z0_foxY a0_seat a0_strength z0_debts z0_near v0_forms v0_hares z0_foxes z0_safe a1 a1_bytes v1_length x3 x6 z1_filled x4 x5 a1_bytes cyB f1_bytes a0_seat cyI f0_seat a0_strength cyI f0_strength)) hP hD [1, 2] [0, 3, 4] [0, 3, 4, 1, 2] hCc rfl (by decide +kernel) (by decide +kernel) (by decide +kernel) rfl hk1 hFc hP1 hD1
      generalize H1 = H at hP hS ⊢
      obtain ⟨hi9, hw⟩ := hw
      refine va_iast hx hb hK hP hD hS 3 1 rfl rfl hi9 (dt_of tkX2_readHare_k29 5 rfl) (fun H locs hP hD hS => ?_)
      obtain ⟨f8, ef8⟩ : ∃ y : Nat → Int32, y = upd f0_seat v0_hares.toNatClampNeg r7 := ⟨_, rfl⟩
      have hw := hw f8 ef8
      have hP : va_P (dC, dI) vwCl (wd01_46 a0 z0_formX z0_formY z0_foxX z0_foxY a0_seat a0_strength z0_debts z0_near v0_forms v0_hares z0_foxes z0_safe a1 a1_bytes v1_length x3 x6 z1_filled x4 x5 a1_bytes cyB f1_bytes a0_seat cyI f8 a0_strength cyI f0_strength) H := by rw [ef8]; exact hP
      have hD : va_D A (wd01_46 a0 z0_formX z0_formY z0_foxX z0_foxY a0_seat a0_strength z0_debts z0_near v0_forms v0_hares z0_foxes z0_safe a1 a1_bytes v1_length x3 x6 z1_filled x4 x5 a1_bytes cyB f1_bytes a0_seat cyI f8 a0_strength cyI f0_strength) := by rw [ef8]; exact hD
      refine lv_aload_n hx hb (dt_of tkX2_readHare_k29 6 rfl) rfl (lv_at hl 0 rfl) ?_
      refine va_get (D := (dC, dI)) (ci := 2) (v := .ref a0_strength) (C := RX2) (T := TX2) (N := 12) hx hb hts ui_X2_readHare_X2 hown hK hP 0 rfl rfl 5 (by decide) (hts _ uw_X2_readHare_f27) (fun _ h9 => h9) rfl (dt_of tkX2_readHare_k29 7 rfl) ?_
      refine lv_aload_n hx hb (dt_of tkX2_readHare_k29 8 rfl) rfl (lv_at hl 0 rfl) ?_
      refine va_get (D := (dC, dI)) (ci := 2) (v := .int v0_hares) (C := RX2) (T := TX2) (N := 12) hx hb hts ui_X2_readHare_X2 hown hK hP 0 rfl rfl 9 (by decide) (hts _ uw_X2_readHare_f40) (fun _ h9 => h9) rfl (dt_of tkX2_readHare_k29 9 rfl) ?_
      refine lv_aload_n hx hb (dt_of tkX2_readHare_k29 10 rfl) rfl (lv_at hl 1 rfl) ?_
      refine lv_iconst (v := 1) hx hb (dt_of tkX2_readHare_k29 11 rfl) (by decide) ?_
      refine lv_bipush (v := 9) hx hb (dt_of tkX2_readHare_k29 12 rfl) (by decide) ?_
      obtain ⟨hCc, hPc, hDc, hFc⟩ := va_pick (ws' := (wd01_44 a1 a1_bytes v1_length x3 x6 z1_filled x4 x5 a1_bytes cyB f1_bytes)) hP hD hS hA [1, 2] (by decide +kernel) rfl
      refine va_calli (va_runV (As := [.int 1, .int 9]) (rest := [.int v0_hares, .ref a0_strength]) ⟨hx, hb, hml, hown, hts⟩ (ck_X8_number l dC dI cyB cyI cyJ cyP a1 a1_bytes H.size (z1_filled) v1_length f1_bytes x3 x4 x5 x6 1 9 hw) (cwV 2 hts gX2_readHare_X8_number rfl rfl rfl (by decide +kernel) ⟨Nat.le_of_ble_eq_true rfl, Nat.le_of_ble_eq_true rfl⟩) ⟨cPc_blind, va_recv (q := (RX8, TX8, 7)) hK hPc (ci := 8) (q0 := 0) rfl rfl, cPc_pre hPc hK hDc hNw⟩ rfl rfl hl.1 rfl (lv_room (Nat.le_of_ble_eq_true rfl)) (dt_of tkX2_readHare_k29 13 rfl) ⟨Nat.le_of_ble_eq_true rfl, Nat.le_of_ble_eq_true rfl⟩) hS (fun q _ h => hFc q h) hFc (fun r13 u t H1 locs ht hvm hw hB hz1 hk1 hS => ?_)
      obtain ⟨x9, x10, x11, x12⟩ := u
      obtain ⟨hP1, hK1, hD1⟩ := hB
      rw [ht] at hP1
      obtain ⟨hP, hD⟩ := va_joinN (wr := (wd01_47 a0 z0_formX z0_formY z0_foxX z0_foxY a0_seat a0_strength z0_debts z0_near v0_forms v0_hares z0_foxes z0_safe a0_seat cyI f8 a0_strength cyI f0_strength)) (w1 := (wd01_44 a1 a1_bytes v1_length x9 x12 z1_filled x10 x11 a1_bytes cyB f1_bytes)) (wn := (wd01_46 a0 z0_formX z0_formY z0_foxX z0_foxY a0_seat a0_strength z0_debts z0_near v0_forms v0_hares z0_foxes z0_safe a1 a1_bytes v1_length x9 x12 z1_filled x10 x11 a1_bytes cyB f1_bytes a0_seat cyI f8 a0_strength cyI f0_strength)) hP hD [1, 2] [0, 3, 4] [0, 3, 4, 1, 2] hCc rfl (by decide +kernel) (by decide +kernel) (by decide +kernel) rfl hk1 hFc hP1 hD1
      generalize H1 = H at hP hS ⊢
      obtain ⟨hi9, hw⟩ := hw
      refine va_iast hx hb hK hP hD hS 4 1 rfl rfl hi9 (dt_of tkX2_readHare_k29 14 rfl) (fun H locs hP hD hS => ?_)
      obtain ⟨f14, ef14⟩ : ∃ y : Nat → Int32, y = upd f0_strength v0_hares.toNatClampNeg r13 := ⟨_, rfl⟩
      have hw := hw f14 ef14
      have hP : va_P (dC, dI) vwCl (wd01_46 a0 z0_formX z0_formY z0_foxX z0_foxY a0_seat a0_strength z0_debts z0_near v0_forms v0_hares z0_foxes z0_safe a1 a1_bytes v1_length x9 x12 z1_filled x10 x11 a1_bytes cyB f1_bytes a0_seat cyI f8 a0_strength cyI f14) H := by rw [ef14]; exact hP
      have hD : va_D A (wd01_46 a0 z0_formX z0_formY z0_foxX z0_foxY a0_seat a0_strength z0_debts z0_near v0_forms v0_hares z0_foxes z0_safe a1 a1_bytes v1_length x9 x12 z1_filled x10 x11 a1_bytes cyB f1_bytes a0_seat cyI f8 a0_strength cyI f14) := by rw [ef14]; exact hD
      refine lv_aload_n hx hb (dt_of tkX2_readHare_k29 15 rfl) rfl (lv_at hl 1 rfl) ?_
      refine lv_bipush (v := 59) hx hb (dt_of tkX2_readHare_k56 0 rfl) (by decide) ?_
      obtain ⟨hCc, hPc, hDc, hFc⟩ := va_pick (ws' := (wd01_44 a1 a1_bytes v1_length x9 x12 z1_filled x10 x11 a1_bytes cyB f1_bytes)) hP hD hS hA [1, 2] (by decide +kernel) rfl
      refine va_callv (va_runV (As := [.int 59]) (rest := []) ⟨hx, hb, hml, hown, hts⟩ (ck_X8_needs l dC dI cyB cyI cyJ cyP a1 a1_bytes H.size (z1_filled) v1_length f1_bytes x9 x12 x10 x11 59 hw) (cwV 1 hts gX2_readHare_X8_needs rfl rfl rfl (by decide +kernel) ⟨Nat.le_of_ble_eq_true rfl, Nat.le_of_ble_eq_true rfl⟩) ⟨cPc_blind, va_recv (q := (RX8, TX8, 7)) hK hPc (ci := 8) (q0 := 0) rfl rfl, cPc_pre hPc hK hDc hNw⟩ rfl rfl hl.1 rfl (lv_room (Nat.le_of_ble_eq_true rfl)) (dt_of tkX2_readHare_k56 1 rfl) ⟨Nat.le_of_ble_eq_true rfl, Nat.le_of_ble_eq_true rfl⟩) hS (fun q _ h => hFc q h) hFc (fun u t H1 locs ht hvm hw hB hz1 hk1 hS => ?_)
      obtain ⟨x15, x16, x17, x18⟩ := u
      obtain ⟨hP1, hK1, hD1⟩ := hB
      rw [ht] at hP1
      obtain ⟨hP, hD⟩ := va_joinN (wr := (wd01_47 a0 z0_formX z0_formY z0_foxX z0_foxY a0_seat a0_strength z0_debts z0_near v0_forms v0_hares z0_foxes z0_safe a0_seat cyI f8 a0_strength cyI f14)) (w1 := (wd01_44 a1 a1_bytes v1_length x15 x16 z1_filled x17 x18 a1_bytes cyB f1_bytes)) (wn := (wd01_46 a0 z0_formX z0_formY z0_foxX z0_foxY a0_seat a0_strength z0_debts z0_near v0_forms v0_hares z0_foxes z0_safe a1 a1_bytes v1_length x15 x16 z1_filled x17 x18 a1_bytes cyB f1_bytes a0_seat cyI f8 a0_strength cyI f14)) hP hD [1, 2] [0, 3, 4] [0, 3, 4, 1, 2] hCc rfl (by decide +kernel) (by decide +kernel) (by decide +kernel) rfl hk1 hFc hP1 hD1
      generalize H1 = H at hP hS ⊢
      refine lv_aload_n hx hb (dt_of tkX2_readHare_k56 2 rfl) rfl (lv_at hl 0 rfl) ?_
      refine lv_dup hx hb (dt_of tkX2_readHare_k56 3 rfl) rfl ?_
      refine va_get (D := (dC, dI)) (ci := 2) (v := .int v0_hares) (C := RX2) (T := TX2) (N := 12) hx hb hts ui_X2_readHare_X2 hown hK hP 0 rfl rfl 9 (by decide) (hts _ uw_X2_readHare_f40) (fun _ h9 => h9) rfl (dt_of tkX2_readHare_k56 4 rfl) ?_
      refine lv_iconst (v := 1) hx hb (dt_of tkX2_readHare_k56 5 rfl) (by decide) ?_
      refine lv_iadd hx hb (dt_of tkX2_readHare_k56 6 rfl) ?_
      refine lv_topi (fun x19 ex19 => ?_)
      have hw := hw x19 ex19
      refine va_put (D := (dC, dI)) (ci := 2) (v := .int x19) (ty := .int) (C := RX2) (T := TX2) (N := 12) hx hb hts ui_X2_readHare_X2 tyX2 tyX2_ok nmX2 hown hK hP hD hS 0 rfl rfl 9 (by decide) (hts _ uw_X2_readHare_f40) (fun _ h9 => h9) rfl (by decide +kernel) rfl rfl (Nat.le_of_ble_eq_true rfl) (dt_of tkX2_readHare_k56 7 rfl) (fun H locs hP hD hS => ?_)
      have hP : va_P (dC, dI) vwCl (wd01_46 a0 z0_formX z0_formY z0_foxX z0_foxY a0_seat a0_strength z0_debts z0_near v0_forms x19 z0_foxes z0_safe a1 a1_bytes v1_length x15 x16 z1_filled x17 x18 a1_bytes cyB f1_bytes a0_seat cyI f8 a0_strength cyI f14) H := hP
      have hD : va_D A (wd01_46 a0 z0_formX z0_formY z0_foxX z0_foxY a0_seat a0_strength z0_debts z0_near v0_forms x19 z0_foxes z0_safe a1 a1_bytes v1_length x15 x16 z1_filled x17 x18 a1_bytes cyB f1_bytes a0_seat cyI f8 a0_strength cyI f14) := hD
      exact ((W.vret hx hb hr (fun t ht hW => ⟨⟨(x15, x17, x18, x16, f8, f14, x19), rfl, hw, by rw [ht]; exact hP, va_K.moved hW.alike hK, hD⟩, hS.F ht⟩) hS.2.2 (dt_of tkX2_readHare_k56 8 rfl)))
    · have hw := hw.2 c2
      exact kb_X2_readHare_13 dC dI cyB cyI cyJ cyP a0 a1 a0_seat a1_bytes a0_strength z0_formX z0_formY z0_foxX z0_foxY z0_debts z0_near z0_foxes z0_safe z1_filled v0_forms v1_length f1_bytes Q  C0 _ _ _ v1_at v1_fault v1_faultPlace v1_token f0_seat f0_strength v0_hares hP hD hS (lv_sub hl [1] rfl) hw
theorem ui_X2_readFox_X2 : ∀ w ∈ u_ws RX2 TX2 12, w ∈ wsX2_readFox := uiM mbX2_readFox euX2 (by decide +kernel)
theorem uw_X2_readFox_f18 : (.fieldLink RX2 18 "MarchHares$Down" "foxX" "[I" : Cond) ∈ wsX2_readFox := mbX2_readFox 150 (by decide +kernel)
theorem uw_X2_readFox_f21 : (.fieldLink RX2 21 "MarchHares$Down" "foxY" "[I" : Cond) ∈ wsX2_readFox := mbX2_readFox 151 (by decide +kernel)
theorem uw_X2_readFox_f43 : (.fieldLink RX2 43 "MarchHares$Down" "foxes" "I" : Cond) ∈ wsX2_readFox := mbX2_readFox 722 (by decide +kernel)
set_option maxHeartbeats 4000000 in
set_option maxRecDepth 100000 in
theorem kb_X2_readFox_12 {p : Program} {l : Launch} {e : Env} {s : State} {m : MethodId} {args : Array Value} {below : List Frame} {meth : Method} {c : Code} {A : Nat → Prop} (dC : Nat → ClassId) (dI : Nat → Nat → Nat) (cyB cyI cyJ cyP : ClassId) (a0 a1 a0_foxX a1_bytes a0_foxY : Nat) (z0_formX : Value) (z0_formY : Value) (z0_seat : Value) (z0_strength : Value) (z0_debts : Value) (z0_near : Value) (z0_forms : Value) (z0_hares : Value) (z0_safe : Value) (z1_filled : Value) (v1_length : Int32) (f1_bytes : Nat → Int32) (Q : Int32 → Int32 → Int32 → Int32 → (Nat → Int32) → (Nat → Int32) → Int32 → Prop)  (C0 : cfx p s m args meth c cX2_readFox none wsX2_readFox RX2 3 A (dC, dI) (kT cyB cyI cyJ cyP)) : ∀ (H : Heap) (locs : List Loc) (ls : Array Slot) (v1_at : Int32) (v1_fault : Int32) (v1_faultPlace : Int32) (v1_token : Int32) (f0_foxX : Nat → Int32) (f0_foxY : Nat → Int32) (v0_foxes : Int32), va_P (dC, dI) vwCl (wd01_48 a0 z0_formX z0_formY a0_foxX a0_foxY z0_seat z0_strength z0_debts z0_near z0_forms z0_hares v0_foxes z0_safe a1 a1_bytes v1_length v1_at v1_token z1_filled v1_fault v1_faultPlace a1_bytes cyB f1_bytes a0_foxX cyI f0_foxX a0_foxY cyI f0_foxY) H → va_D A (wd01_48 a0 z0_formX z0_formY a0_foxX a0_foxY z0_seat z0_strength z0_debts z0_near z0_forms z0_hares v0_foxes z0_safe a1 a1_bytes v1_length v1_at v1_token z1_filled v1_fault v1_faultPlace a1_bytes cyB f1_bytes a0_foxX cyI f0_foxX a0_foxY cyI f0_foxY) → va_S A s.heap H locs → lv_has ls 3 [(1, .ref a1)] → wb_X2_readFox_12 v1_length f1_bytes Q  v1_at v1_fault v1_faultPlace v1_token f0_foxX f0_foxY v0_foxes → W p l e (headSpec wsX2_readFox ({ frames := 3, cells := 0, slots := 0, locals := 63 })).room s m args below meth c H locs 0 0 (MQ below (va_Qv (fun (u : Int32 × Int32 × Int32 × Int32 × (Nat → Int32) × (Nat → Int32) × Int32) => Q u.1 u.2.1 u.2.2.1 u.2.2.2.1 u.2.2.2.2.1 u.2.2.2.2.2.1 u.2.2.2.2.2.2) (cB (dC, dI) (kT cyB cyI cyJ cyP) A (fun u : Int32 × Int32 × Int32 × Int32 × (Nat → Int32) × (Nat → Int32) × Int32 => ((wd01_48 a0 z0_formX z0_formY a0_foxX a0_foxY z0_seat z0_strength z0_debts z0_near z0_forms z0_hares u.2.2.2.2.2.2 z0_safe a1 a1_bytes v1_length u.1 u.2.2.2.1 z1_filled u.2.1 u.2.2.1 a1_bytes cyB f1_bytes a0_foxX cyI u.2.2.2.2.1 a0_foxY cyI u.2.2.2.2.2.1) : va_W))) A) args s 0 0 A) (F0 m 12 ls []) := by
  obtain ⟨hx, hb, hr, hts, hown, hlocks, hml, hA, hK, hNw⟩ := id C0
  intro H locs ls v1_at v1_fault v1_faultPlace v1_token f0_foxX f0_foxY v0_foxes hP hD hS hl hw
  refine lv_aload_n hx hb (dt_of tkX2_readFox_k0 6 rfl) rfl (lv_at hl 0 rfl) ?_
  refine lv_iconst (v := 3) hx hb (dt_of tkX2_readFox_k0 7 rfl) (by decide) ?_
  obtain ⟨hCc, hPc, hDc, hFc⟩ := va_pick (ws' := (wd01_43 a1 a1_bytes v1_length v1_at v1_token z1_filled v1_fault v1_faultPlace)) hP hD hS hA [1] (by decide +kernel) rfl
  refine va_callv (va_runV (As := [.int 3]) (rest := []) ⟨hx, hb, hml, hown, hts⟩ (ck_X8_blameToken l dC dI cyB cyI cyJ cyP a1 H.size (.ref a1_bytes) (.int v1_length) (.int v1_at) (z1_filled) v1_token v1_fault v1_faultPlace 3 hw) (cwV 1 hts gX2_readFox_X8_blameToken rfl rfl rfl (by decide +kernel) ⟨Nat.le_of_ble_eq_true rfl, Nat.le_of_ble_eq_true rfl⟩) ⟨cPc_blind, va_recv (q := (RX8, TX8, 7)) hK hPc (ci := 8) (q0 := 0) rfl rfl, cPc_pre hPc hK hDc hNw⟩ rfl rfl hl.1 rfl (lv_room (Nat.le_of_ble_eq_true rfl)) (dt_of tkX2_readFox_k0 8 rfl) ⟨Nat.le_of_ble_eq_true rfl, Nat.le_of_ble_eq_true rfl⟩) hS (fun q _ h => hFc q h) hFc (fun u t H1 locs ht hvm hw hB hz1 hk1 hS => ?_)
  obtain ⟨x20, x21⟩ := u
  obtain ⟨hP1, hK1, hD1⟩ := hB
  rw [ht] at hP1
  obtain ⟨hP, hD⟩ := va_joinN (wr := [(a0, .inr (2, [z0_formX, z0_formY, .ref a0_foxX, .ref a0_foxY, z0_seat, z0_strength, z0_debts, z0_near, z0_forms, z0_hares, .int v0_foxes, z0_safe])), (a1_bytes, .inl (cyB, 600, .inl f1_bytes)), (a0_foxX, .inl (cyI, 4, .inl f0_foxX)), (a0_foxY, .inl (cyI, 4, .inl f0_foxY))]) (w1 := (wd01_43 a1 a1_bytes v1_length v1_at v1_token z1_filled x20 x21)) (wn := (wd01_48 a0 z0_formX z0_formY a0_foxX a0_foxY z0_seat z0_strength z0_debts z0_near z0_forms z0_hares v0_foxes z0_safe a1 a1_bytes v1_length v1_at v1_token z1_filled x20 x21 a1_bytes cyB f1_bytes a0_foxX cyI f0_foxX a0_foxY cyI f0_foxY)) hP hD [1] [0, 2, 3, 4] [0, 4, 1, 2, 3] hCc rfl (by decide +kernel) (by decide +kernel) (by decide +kernel) rfl hk1 hFc hP1 hD1
  generalize H1 = H at hP hS ⊢
  exact ((W.vret hx hb hr (fun t ht hW => ⟨⟨(v1_at, x20, x21, v1_token, f0_foxX, f0_foxY, v0_foxes), rfl, hw, by rw [ht]; exact hP, va_K.moved hW.alike hK, hD⟩, hS.F ht⟩) hS.2.2 (dt_of tkX2_readFox_k0 9 rfl)))
set_option maxHeartbeats 4000000 in
set_option maxRecDepth 100000 in
theorem ck_X2_readFox (l : Launch) (dC : Nat → ClassId) (dI : Nat → Nat → Nat) (cyB cyI cyJ cyP : ClassId) (a0 a1 a0_foxX a1_bytes a0_foxY : Nat) (sz : Nat) (z0_formX : Value) (z0_formY : Value) (z0_seat : Value) (z0_strength : Value) (z0_debts : Value) (z0_near : Value) (z0_forms : Value) (z0_hares : Value) (z0_safe : Value) (z1_filled : Value) (v1_length : Int32) (f1_bytes : Nat → Int32) (v1_at : Int32) (v1_fault : Int32) (v1_faultPlace : Int32) (v1_token : Int32) (f0_foxX : Nat → Int32) (f0_foxY : Nat → Int32) (v0_foxes : Int32) (p2 : Int32) {Q : Int32 → Int32 → Int32 → Int32 → (Nat → Int32) → (Nat → Int32) → Int32 → Prop} (hw : wq_X2_readFox v1_length f1_bytes v1_at v1_fault v1_faultPlace v1_token f0_foxX f0_foxY v0_foxes p2 Q) : Met l yX2_readFox wsX2_readFox ({ frames := 3, cells := 0, slots := 0, locals := 63 }) (va_Pc [.ref a0, .ref a1, .int p2] (cPc (dC, dI) (kT cyB cyI cyJ cyP) (wd01_48 a0 z0_formX z0_formY a0_foxX a0_foxY z0_seat z0_strength z0_debts z0_near z0_forms z0_hares v0_foxes z0_safe a1 a1_bytes v1_length v1_at v1_token z1_filled v1_fault v1_faultPlace a1_bytes cyB f1_bytes a0_foxX cyI f0_foxX a0_foxY cyI f0_foxY) sz)) (va_Qv (fun (u : Int32 × Int32 × Int32 × Int32 × (Nat → Int32) × (Nat → Int32) × Int32) => Q u.1 u.2.1 u.2.2.1 u.2.2.2.1 u.2.2.2.2.1 u.2.2.2.2.2.1 u.2.2.2.2.2.2) (cB (dC, dI) (kT cyB cyI cyJ cyP) (va_A (wd01_48 a0 z0_formX z0_formY a0_foxX a0_foxY z0_seat z0_strength z0_debts z0_near z0_forms z0_hares v0_foxes z0_safe a1 a1_bytes v1_length v1_at v1_token z1_filled v1_fault v1_faultPlace a1_bytes cyB f1_bytes a0_foxX cyI f0_foxX a0_foxY cyI f0_foxY) sz) (fun u : Int32 × Int32 × Int32 × Int32 × (Nat → Int32) × (Nat → Int32) × Int32 => ((wd01_48 a0 z0_formX z0_formY a0_foxX a0_foxY z0_seat z0_strength z0_debts z0_near z0_forms z0_hares u.2.2.2.2.2.2 z0_safe a1 a1_bytes v1_length u.1 u.2.2.2.1 z1_filled u.2.1 u.2.2.1 a1_bytes cyB f1_bytes a0_foxX cyI u.2.2.2.2.1 a0_foxY cyI u.2.2.2.2.2.1) : va_W))) (va_A (wd01_48 a0 z0_formX z0_formY a0_foxX a0_foxY z0_seat z0_strength z0_debts z0_near z0_forms z0_hares v0_foxes z0_safe a1 a1_bytes v1_length v1_at v1_token z1_filled v1_fault v1_faultPlace a1_bytes cyB f1_bytes a0_foxX cyI f0_foxX a0_foxY cyI f0_foxY) sz)) 0 0 (va_A (wd01_48 a0 z0_formX z0_formY a0_foxX a0_foxY z0_seat z0_strength z0_debts z0_near z0_forms z0_hares v0_foxes z0_safe a1 a1_bytes v1_length v1_at v1_token z1_filled v1_fault v1_faultPlace a1_bytes cyB f1_bytes a0_foxX cyI f0_foxX a0_foxY cyI f0_foxY) sz) := by
  refine Met.ofW (cc := cX2_readFox) (maxL := 3) (ret := none) (by decide) rfl ?_
  intro p e s m args below meth c s₁ B hml hv
  obtain ⟨rfl, hsz, hP, hK, hD0, hNw⟩ := hv
  have hx := B.exec
  have hb := B.bytes
  have hr := B.returns
  have hts := atoms_spec (ws := wsX2_readFox) B.pre
  have hown : s.vm.findClass RX2 = some m.cls := findClass_of_methodNamed B.named
  have hlocks := B.notSynchronized
  subst hsz
  have hD := hD0.self (sz := s.heap.size)
  generalize hAe : va_A (wd01_48 a0 z0_formX z0_formY a0_foxX a0_foxY z0_seat z0_strength z0_debts z0_near z0_forms z0_hares v0_foxes z0_safe a1 a1_bytes v1_length v1_at v1_token z1_filled v1_fault v1_faultPlace a1_bytes cyB f1_bytes a0_foxX cyI f0_foxX a0_foxY cyI f0_foxY) s.heap.size = A at hD ⊢
  have hA : ∀ q : Nat, s.heap.size ≤ q → A q := fun q h => by rw [← hAe]; exact Or.inr h
  have hS : va_S A s.heap s.heap [] := va_S.rf
  have hP : va_P (dC, dI) vwCl (wd01_48 a0 z0_formX z0_formY a0_foxX a0_foxY z0_seat z0_strength z0_debts z0_near z0_forms z0_hares v0_foxes z0_safe a1 a1_bytes v1_length v1_at v1_token z1_filled v1_fault v1_faultPlace a1_bytes cyB f1_bytes a0_foxX cyI f0_foxX a0_foxY cyI f0_foxY) s.heap := hP
  have hl := lv_entry ([.ref a0, .ref a1, .int p2]) (n := 3) (Nat.le_of_ble_eq_true rfl)
  rw [lg_entry_eq]
  generalize (lg_sl ([.ref a0, .ref a1, .int p2]) ++ List.replicate (3 - (lg_sl ([.ref a0, .ref a1, .int p2])).length) Slot.unset).toArray = ls at hl ⊢
  have hl : lv_has ls 3 [(0, .ref a0), (1, .ref a1), (2, .int p2)] := hl
  have C0 : cfx p s m _ meth c cX2_readFox none wsX2_readFox RX2 3 A (dC, dI) (kT cyB cyI cyJ cyP) := ⟨hx, hb, hr, hts, hown, hlocks, hml, hA, hK, hNw⟩
  clear hAe
  obtain ⟨H, hH⟩ : ∃ H, H = s.heap := ⟨_, rfl⟩
  rw [← hH] at hP ⊢
  have hS : va_S A s.heap H [] := by rw [hH]; exact va_S.rf
  have hS := hS
  refine lv_iload_n hx hb (dt_of tkX2_readFox_k0 0 rfl) rfl (lv_at hl 2 rfl) ?_
  refine lv_if_ne (tgt := 12) hx hb (dt_of tkX2_readFox_k0 1 rfl) (by decide) (fun c1 => ?_) (fun c1 => ?_)
  · have hw := hw.1 c1
    exact kb_X2_readFox_12 dC dI cyB cyI cyJ cyP a0 a1 a0_foxX a1_bytes a0_foxY z0_formX z0_formY z0_seat z0_strength z0_debts z0_near z0_forms z0_hares z0_safe z1_filled v1_length f1_bytes Q  C0 _ _ _ v1_at v1_fault v1_faultPlace v1_token f0_foxX f0_foxY v0_foxes hP hD hS (lv_sub hl [1] rfl) hw
  · have hw := hw.2 c1
    refine lv_aload_n hx hb (dt_of tkX2_readFox_k0 2 rfl) rfl (lv_at hl 0 rfl) ?_
    refine va_get (D := (dC, dI)) (ci := 2) (v := .int v0_foxes) (C := RX2) (T := TX2) (N := 12) hx hb hts ui_X2_readFox_X2 hown hK hP 0 rfl rfl 10 (by decide) (hts _ uw_X2_readFox_f43) (fun _ h9 => h9) rfl (dt_of tkX2_readFox_k0 3 rfl) ?_
    refine lv_iconst (v := 4) hx hb (dt_of tkX2_readFox_k0 4 rfl) (by decide) ?_
    refine lv_icmp_lt (tgt := 18) hx hb (dt_of tkX2_readFox_k0 5 rfl) (by decide) (fun c2 => ?_) (fun c2 => ?_)
    · have hw := hw.1 c2
      refine lv_aload_n hx hb (dt_of tkX2_readFox_k0 10 rfl) rfl (lv_at hl 0 rfl) ?_
      refine va_get (D := (dC, dI)) (ci := 2) (v := .ref a0_foxX) (C := RX2) (T := TX2) (N := 12) hx hb hts ui_X2_readFox_X2 hown hK hP 0 rfl rfl 2 (by decide) (hts _ uw_X2_readFox_f18) (fun _ h9 => h9) rfl (dt_of tkX2_readFox_k0 11 rfl) ?_
      refine lv_aload_n hx hb (dt_of tkX2_readFox_k0 12 rfl) rfl (lv_at hl 0 rfl) ?_
      refine va_get (D := (dC, dI)) (ci := 2) (v := .int v0_foxes) (C := RX2) (T := TX2) (N := 12) hx hb hts ui_X2_readFox_X2 hown hK hP 0 rfl rfl 10 (by decide) (hts _ uw_X2_readFox_f43) (fun _ h9 => h9) rfl (dt_of tkX2_readFox_k0 13 rfl) ?_
      refine lv_aload_n hx hb (dt_of tkX2_readFox_k0 14 rfl) rfl (lv_at hl 1 rfl) ?_
      refine lv_iconst (v := 0) hx hb (dt_of tkX2_readFox_k0 15 rfl) (by decide) ?_
      refine lv_bipush (v := 30) hx hb (dt_of tkX2_readFox_k28 0 rfl) (by decide) ?_
      obtain ⟨hCc, hPc, hDc, hFc⟩ := va_pick (ws' := (wd01_44 a1 a1_bytes v1_length v1_at v1_token z1_filled v1_fault v1_faultPlace a1_bytes cyB f1_bytes)) hP hD hS hA [1, 2] (by decide +kernel) rfl
      refine va_calli (va_runV (As := [.int 0, .int 30]) (rest := [.int v0_foxes, .ref a0_foxX]) ⟨hx, hb, hml, hown, hts⟩ (ck_X8_number l dC dI cyB cyI cyJ cyP a1 a1_bytes H.size (z1_filled) v1_length f1_bytes v1_at v1_fault v1_faultPlace v1_token 0 30 hw) (cwV 2 hts gX2_readFox_X8_number rfl rfl rfl (by decide +kernel) ⟨Nat.le_of_ble_eq_true rfl, Nat.le_of_ble_eq_true rfl⟩) ⟨cPc_blind, va_recv (q := (RX8, TX8, 7)) hK hPc (ci := 8) (q0 := 0) rfl rfl, cPc_pre hPc hK hDc hNw⟩ rfl rfl hl.1 rfl (lv_room (Nat.le_of_ble_eq_true rfl)) (dt_of tkX2_readFox_k28 1 rfl) ⟨Nat.le_of_ble_eq_true rfl, Nat.le_of_ble_eq_true rfl⟩) hS (fun q _ h => hFc q h) hFc (fun r7 u t H1 locs ht hvm hw hB hz1 hk1 hS => ?_)
      obtain ⟨x3, x4, x5, x6⟩ := u
      obtain ⟨hP1, hK1, hD1⟩ := hB
      rw [ht] at hP1
      obtain ⟨hP, hD⟩ := va_joinN (wr := (wd01_49 a0 z0_formX z0_formY a0_foxX a0_foxY z0_seat z0_strength z0_debts z0_near z0_forms z0_hares v0_foxes z0_safe a0_foxX cyI f0_foxX a0_foxY cyI f0_foxY)) (w1 := (wd01_44 a1 a1_bytes v1_length x3 x6 z1_filled x4 x5 a1_bytes cyB f1_bytes)) (wn := (wd01_48 a0 z0_formX z0_formY a0_foxX a0_foxY z0_seat z0_strength z0_debts z0_near z0_forms z0_hares v0_foxes z0_safe a1 a1_bytes v1_length x3 x6 z1_filled x4 x5 a1_bytes cyB f1_bytes a0_foxX cyI f0_foxX a0_foxY cyI f0_foxY)) hP hD [1, 2] [0, 3, 4] [0, 3, 4, 1, 2] hCc rfl (by decide +kernel) (by decide +kernel) (by decide +kernel) rfl hk1 hFc hP1 hD1
      generalize H1 = H at hP hS ⊢
      obtain ⟨hi9, hw⟩ := hw
      refine va_iast hx hb hK hP hD hS 3 1 rfl rfl hi9 (dt_of tkX2_readFox_k28 2 rfl) (fun H locs hP hD hS => ?_)
      obtain ⟨f8, ef8⟩ : ∃ y : Nat → Int32, y = upd f0_foxX v0_foxes.toNatClampNeg r7 := ⟨_, rfl⟩
      have hw := hw f8 ef8
      have hP : va_P (dC, dI) vwCl (wd01_48 a0 z0_formX z0_formY a0_foxX a0_foxY z0_seat z0_strength z0_debts z0_near z0_forms z0_hares v0_foxes z0_safe a1 a1_bytes v1_length x3 x6 z1_filled x4 x5 a1_bytes cyB f1_bytes a0_foxX cyI f8 a0_foxY cyI f0_foxY) H := by rw [ef8]; exact hP
      have hD : va_D A (wd01_48 a0 z0_formX z0_formY a0_foxX a0_foxY z0_seat z0_strength z0_debts z0_near z0_forms z0_hares v0_foxes z0_safe a1 a1_bytes v1_length x3 x6 z1_filled x4 x5 a1_bytes cyB f1_bytes a0_foxX cyI f8 a0_foxY cyI f0_foxY) := by rw [ef8]; exact hD
      refine lv_aload_n hx hb (dt_of tkX2_readFox_k28 3 rfl) rfl (lv_at hl 0 rfl) ?_
      refine va_get (D := (dC, dI)) (ci := 2) (v := .ref a0_foxY) (C := RX2) (T := TX2) (N := 12) hx hb hts ui_X2_readFox_X2 hown hK hP 0 rfl rfl 3 (by decide) (hts _ uw_X2_readFox_f21) (fun _ h9 => h9) rfl (dt_of tkX2_readFox_k28 4 rfl) ?_
      refine lv_aload_n hx hb (dt_of tkX2_readFox_k28 5 rfl) rfl (lv_at hl 0 rfl) ?_
      refine va_get (D := (dC, dI)) (ci := 2) (v := .int v0_foxes) (C := RX2) (T := TX2) (N := 12) hx hb hts ui_X2_readFox_X2 hown hK hP 0 rfl rfl 10 (by decide) (hts _ uw_X2_readFox_f43) (fun _ h9 => h9) rfl (dt_of tkX2_readFox_k28 6 rfl) ?_
      refine lv_aload_n hx hb (dt_of tkX2_readFox_k28 7 rfl) rfl (lv_at hl 1 rfl) ?_
      refine lv_iconst (v := 0) hx hb (dt_of tkX2_readFox_k28 8 rfl) (by decide) ?_
      refine lv_bipush (v := 30) hx hb (dt_of tkX2_readFox_k28 9 rfl) (by decide) ?_
      obtain ⟨hCc, hPc, hDc, hFc⟩ := va_pick (ws' := (wd01_44 a1 a1_bytes v1_length x3 x6 z1_filled x4 x5 a1_bytes cyB f1_bytes)) hP hD hS hA [1, 2] (by decide +kernel) rfl
      refine va_calli (va_runV (As := [.int 0, .int 30]) (rest := [.int v0_foxes, .ref a0_foxY]) ⟨hx, hb, hml, hown, hts⟩ (ck_X8_number l dC dI cyB cyI cyJ cyP a1 a1_bytes H.size (z1_filled) v1_length f1_bytes x3 x4 x5 x6 0 30 hw) (cwV 2 hts gX2_readFox_X8_number rfl rfl rfl (by decide +kernel) ⟨Nat.le_of_ble_eq_true rfl, Nat.le_of_ble_eq_true rfl⟩) ⟨cPc_blind, va_recv (q := (RX8, TX8, 7)) hK hPc (ci := 8) (q0 := 0) rfl rfl, cPc_pre hPc hK hDc hNw⟩ rfl rfl hl.1 rfl (lv_room (Nat.le_of_ble_eq_true rfl)) (dt_of tkX2_readFox_k28 10 rfl) ⟨Nat.le_of_ble_eq_true rfl, Nat.le_of_ble_eq_true rfl⟩) hS (fun q _ h => hFc q h) hFc (fun r13 u t H1 locs ht hvm hw hB hz1 hk1 hS => ?_)
      obtain ⟨x9, x10, x11, x12⟩ := u
      obtain ⟨hP1, hK1, hD1⟩ := hB
      rw [ht] at hP1
      obtain ⟨hP, hD⟩ := va_joinN (wr := (wd01_49 a0 z0_formX z0_formY a0_foxX a0_foxY z0_seat z0_strength z0_debts z0_near z0_forms z0_hares v0_foxes z0_safe a0_foxX cyI f8 a0_foxY cyI f0_foxY)) (w1 := (wd01_44 a1 a1_bytes v1_length x9 x12 z1_filled x10 x11 a1_bytes cyB f1_bytes)) (wn := (wd01_48 a0 z0_formX z0_formY a0_foxX a0_foxY z0_seat z0_strength z0_debts z0_near z0_forms z0_hares v0_foxes z0_safe a1 a1_bytes v1_length x9 x12 z1_filled x10 x11 a1_bytes cyB f1_bytes a0_foxX cyI f8 a0_foxY cyI f0_foxY)) hP hD [1, 2] [0, 3, 4] [0, 3, 4, 1, 2] hCc rfl (by decide +kernel) (by decide +kernel) (by decide +kernel) rfl hk1 hFc hP1 hD1
      generalize H1 = H at hP hS ⊢
      obtain ⟨hi9, hw⟩ := hw
      refine va_iast hx hb hK hP hD hS 4 1 rfl rfl hi9 (dt_of tkX2_readFox_k28 11 rfl) (fun H locs hP hD hS => ?_)
      obtain ⟨f14, ef14⟩ : ∃ y : Nat → Int32, y = upd f0_foxY v0_foxes.toNatClampNeg r13 := ⟨_, rfl⟩
      have hw := hw f14 ef14
      have hP : va_P (dC, dI) vwCl (wd01_48 a0 z0_formX z0_formY a0_foxX a0_foxY z0_seat z0_strength z0_debts z0_near z0_forms z0_hares v0_foxes z0_safe a1 a1_bytes v1_length x9 x12 z1_filled x10 x11 a1_bytes cyB f1_bytes a0_foxX cyI f8 a0_foxY cyI f14) H := by rw [ef14]; exact hP
      have hD : va_D A (wd01_48 a0 z0_formX z0_formY a0_foxX a0_foxY z0_seat z0_strength z0_debts z0_near z0_forms z0_hares v0_foxes z0_safe a1 a1_bytes v1_length x9 x12 z1_filled x10 x11 a1_bytes cyB f1_bytes a0_foxX cyI f8 a0_foxY cyI f14) := by rw [ef14]; exact hD
      refine lv_aload_n hx hb (dt_of tkX2_readFox_k28 12 rfl) rfl (lv_at hl 1 rfl) ?_
      refine lv_bipush (v := 59) hx hb (dt_of tkX2_readFox_k28 13 rfl) (by decide) ?_
      obtain ⟨hCc, hPc, hDc, hFc⟩ := va_pick (ws' := (wd01_44 a1 a1_bytes v1_length x9 x12 z1_filled x10 x11 a1_bytes cyB f1_bytes)) hP hD hS hA [1, 2] (by decide +kernel) rfl
      refine va_callv (va_runV (As := [.int 59]) (rest := []) ⟨hx, hb, hml, hown, hts⟩ (ck_X8_needs l dC dI cyB cyI cyJ cyP a1 a1_bytes H.size (z1_filled) v1_length f1_bytes x9 x12 x10 x11 59 hw) (cwV 1 hts gX2_readFox_X8_needs rfl rfl rfl (by decide +kernel) ⟨Nat.le_of_ble_eq_true rfl, Nat.le_of_ble_eq_true rfl⟩) ⟨cPc_blind, va_recv (q := (RX8, TX8, 7)) hK hPc (ci := 8) (q0 := 0) rfl rfl, cPc_pre hPc hK hDc hNw⟩ rfl rfl hl.1 rfl (lv_room (Nat.le_of_ble_eq_true rfl)) (dt_of tkX2_readFox_k28 14 rfl) ⟨Nat.le_of_ble_eq_true rfl, Nat.le_of_ble_eq_true rfl⟩) hS (fun q _ h => hFc q h) hFc (fun u t H1 locs ht hvm hw hB hz1 hk1 hS => ?_)
      obtain ⟨x15, x16, x17, x18⟩ := u
      obtain ⟨hP1, hK1, hD1⟩ := hB
      rw [ht] at hP1
      obtain ⟨hP, hD⟩ := va_joinN (wr := (wd01_49 a0 z0_formX z0_formY a0_foxX a0_foxY z0_seat z0_strength z0_debts z0_near z0_forms z0_hares v0_foxes z0_safe a0_foxX cyI f8 a0_foxY cyI f14)) (w1 := (wd01_44 a1 a1_bytes v1_length x15 x16 z1_filled x17 x18 a1_bytes cyB f1_bytes)) (wn := (wd01_48 a0 z0_formX z0_formY a0_foxX a0_foxY z0_seat z0_strength z0_debts z0_near z0_forms z0_hares v0_foxes z0_safe a1 a1_bytes v1_length x15 x16 z1_filled x17 x18 a1_bytes cyB f1_bytes a0_foxX cyI f8 a0_foxY cyI f14)) hP hD [1, 2] [0, 3, 4] [0, 3, 4, 1, 2] hCc rfl (by decide +kernel) (by decide +kernel) (by decide +kernel) rfl hk1 hFc hP1 hD1
      generalize H1 = H at hP hS ⊢
      refine lv_aload_n hx hb (dt_of tkX2_readFox_k28 15 rfl) rfl (lv_at hl 0 rfl) ?_
      refine lv_dup hx hb (dt_of tkX2_readFox_k57 0 rfl) rfl ?_
      refine va_get (D := (dC, dI)) (ci := 2) (v := .int v0_foxes) (C := RX2) (T := TX2) (N := 12) hx hb hts ui_X2_readFox_X2 hown hK hP 0 rfl rfl 10 (by decide) (hts _ uw_X2_readFox_f43) (fun _ h9 => h9) rfl (dt_of tkX2_readFox_k57 1 rfl) ?_
      refine lv_iconst (v := 1) hx hb (dt_of tkX2_readFox_k57 2 rfl) (by decide) ?_
      refine lv_iadd hx hb (dt_of tkX2_readFox_k57 3 rfl) ?_
      refine lv_topi (fun x19 ex19 => ?_)
      have hw := hw x19 ex19
      refine va_put (D := (dC, dI)) (ci := 2) (v := .int x19) (ty := .int) (C := RX2) (T := TX2) (N := 12) hx hb hts ui_X2_readFox_X2 tyX2 tyX2_ok nmX2 hown hK hP hD hS 0 rfl rfl 10 (by decide) (hts _ uw_X2_readFox_f43) (fun _ h9 => h9) rfl (by decide +kernel) rfl rfl (Nat.le_of_ble_eq_true rfl) (dt_of tkX2_readFox_k57 4 rfl) (fun H locs hP hD hS => ?_)
      have hP : va_P (dC, dI) vwCl (wd01_48 a0 z0_formX z0_formY a0_foxX a0_foxY z0_seat z0_strength z0_debts z0_near z0_forms z0_hares x19 z0_safe a1 a1_bytes v1_length x15 x16 z1_filled x17 x18 a1_bytes cyB f1_bytes a0_foxX cyI f8 a0_foxY cyI f14) H := hP
      have hD : va_D A (wd01_48 a0 z0_formX z0_formY a0_foxX a0_foxY z0_seat z0_strength z0_debts z0_near z0_forms z0_hares x19 z0_safe a1 a1_bytes v1_length x15 x16 z1_filled x17 x18 a1_bytes cyB f1_bytes a0_foxX cyI f8 a0_foxY cyI f14) := hD
      exact ((W.vret hx hb hr (fun t ht hW => ⟨⟨(x15, x17, x18, x16, f8, f14, x19), rfl, hw, by rw [ht]; exact hP, va_K.moved hW.alike hK, hD⟩, hS.F ht⟩) hS.2.2 (dt_of tkX2_readFox_k57 5 rfl)))
    · have hw := hw.2 c2
      exact kb_X2_readFox_12 dC dI cyB cyI cyJ cyP a0 a1 a0_foxX a1_bytes a0_foxY z0_formX z0_formY z0_seat z0_strength z0_debts z0_near z0_forms z0_hares z0_safe z1_filled v1_length f1_bytes Q  C0 _ _ _ v1_at v1_fault v1_faultPlace v1_token f0_foxX f0_foxY v0_foxes hP hD hS (lv_sub hl [1] rfl) hw
theorem ui_X2_readDebt_X2 : ∀ w ∈ u_ws RX2 TX2 12, w ∈ wsX2_readDebt := uiM mbX2_readDebt euX2 (by decide +kernel)
theorem uw_X2_readDebt_f30 : (.fieldLink RX2 30 "MarchHares$Down" "debts" "[I" : Cond) ∈ wsX2_readDebt := mbX2_readDebt 194 (by decide +kernel)
theorem uw_X2_readDebt_f40 : (.fieldLink RX2 40 "MarchHares$Down" "hares" "I" : Cond) ∈ wsX2_readDebt := mbX2_readDebt 721 (by decide +kernel)
set_option maxHeartbeats 4000000 in
set_option maxRecDepth 100000 in
theorem kb_X2_readDebt_46 {p : Program} {l : Launch} {e : Env} {s : State} {m : MethodId} {args : Array Value} {below : List Frame} {meth : Method} {c : Code} {A : Nat → Prop} (dC : Nat → ClassId) (dI : Nat → Nat → Nat) (cyB cyI cyJ cyP : ClassId) (a0 a1 a1_bytes a0_debts : Nat) (z0_formX : Value) (z0_formY : Value) (z0_foxX : Value) (z0_foxY : Value) (z0_seat : Value) (z0_strength : Value) (z0_near : Value) (z0_forms : Value) (z0_foxes : Value) (z0_safe : Value) (z1_filled : Value) (v0_hares : Int32) (v1_length : Int32) (f1_bytes : Nat → Int32) (Q : Int32 → Int32 → Int32 → Int32 → (Nat → Int32) → Prop)  (C0 : cfx p s m args meth c cX2_readDebt none wsX2_readDebt RX2 6 A (dC, dI) (kT cyB cyI cyJ cyP)) : ∀ (H : Heap) (locs : List Loc) (ls : Array Slot) (v1_at : Int32) (v1_fault : Int32) (v1_faultPlace : Int32) (v1_token : Int32) (f0_debts : Nat → Int32) (l3 : Int32) (l4 : Int32), va_P (dC, dI) vwCl (wd01_50 a0 z0_formX z0_formY z0_foxX z0_foxY z0_seat z0_strength a0_debts z0_near z0_forms v0_hares z0_foxes z0_safe a1 a1_bytes v1_length v1_at v1_token z1_filled v1_fault v1_faultPlace a1_bytes cyB f1_bytes a0_debts cyI f0_debts) H → va_D A (wd01_50 a0 z0_formX z0_formY z0_foxX z0_foxY z0_seat z0_strength a0_debts z0_near z0_forms v0_hares z0_foxes z0_safe a1 a1_bytes v1_length v1_at v1_token z1_filled v1_fault v1_faultPlace a1_bytes cyB f1_bytes a0_debts cyI f0_debts) → va_S A s.heap H locs → lv_has ls 6 [(0, .ref a0), (1, .ref a1), (3, .int l3), (4, .int l4)] → wb_X2_readDebt_46 v0_hares v1_length f1_bytes Q  v1_at v1_fault v1_faultPlace v1_token f0_debts l3 l4 → W p l e (headSpec wsX2_readDebt ({ frames := 3, cells := 0, slots := 0, locals := 63 })).room s m args below meth c H locs 0 0 (MQ below (va_Qv (fun (u : Int32 × Int32 × Int32 × Int32 × (Nat → Int32)) => Q u.1 u.2.1 u.2.2.1 u.2.2.2.1 u.2.2.2.2) (cB (dC, dI) (kT cyB cyI cyJ cyP) A (fun u : Int32 × Int32 × Int32 × Int32 × (Nat → Int32) => ((wd01_50 a0 z0_formX z0_formY z0_foxX z0_foxY z0_seat z0_strength a0_debts z0_near z0_forms v0_hares z0_foxes z0_safe a1 a1_bytes v1_length u.1 u.2.2.2.1 z1_filled u.2.1 u.2.2.1 a1_bytes cyB f1_bytes a0_debts cyI u.2.2.2.2) : va_W))) A) args s 0 0 A) (F0 m 46 ls []) := by
  obtain ⟨hx, hb, hr, hts, hown, hlocks, hml, hA, hK, hNw⟩ := id C0
  intro H locs ls v1_at v1_fault v1_faultPlace v1_token f0_debts l3 l4 hP hD hS hl hw
  refine lv_aload_n hx hb (dt_of tkX2_readDebt_k24 12 rfl) rfl (lv_at hl 1 rfl) ?_
  refine lv_iconst (v := 0) hx hb (dt_of tkX2_readDebt_k24 13 rfl) (by decide) ?_
  refine lv_bipush (v := 99) hx hb (dt_of tkX2_readDebt_k24 14 rfl) (by decide) ?_
  obtain ⟨hCc, hPc, hDc, hFc⟩ := va_pick (ws' := (wd01_44 a1 a1_bytes v1_length v1_at v1_token z1_filled v1_fault v1_faultPlace a1_bytes cyB f1_bytes)) hP hD hS hA [1, 2] (by decide +kernel) rfl
  refine va_calli (va_runV (As := [.int 0, .int 99]) (rest := []) ⟨hx, hb, hml, hown, hts⟩ (ck_X8_number l dC dI cyB cyI cyJ cyP a1 a1_bytes H.size (z1_filled) v1_length f1_bytes v1_at v1_fault v1_faultPlace v1_token 0 99 hw) (cwV 2 hts gX2_readDebt_X8_number rfl rfl rfl (by decide +kernel) ⟨Nat.le_of_ble_eq_true rfl, Nat.le_of_ble_eq_true rfl⟩) ⟨cPc_blind, va_recv (q := (RX8, TX8, 7)) hK hPc (ci := 8) (q0 := 0) rfl rfl, cPc_pre hPc hK hDc hNw⟩ rfl rfl hl.1 rfl (lv_room (Nat.le_of_ble_eq_true rfl)) (dt_of tkX2_readDebt_k24 15 rfl) ⟨Nat.le_of_ble_eq_true rfl, Nat.le_of_ble_eq_true rfl⟩) hS (fun q _ h => hFc q h) hFc (fun r21 u t H1 locs ht hvm hw hB hz1 hk1 hS => ?_)
  obtain ⟨x17, x18, x19, x20⟩ := u
  obtain ⟨hP1, hK1, hD1⟩ := hB
  rw [ht] at hP1
  obtain ⟨hP, hD⟩ := va_joinN (wr := (wd01_51 a0 z0_formX z0_formY z0_foxX z0_foxY z0_seat z0_strength a0_debts z0_near z0_forms v0_hares z0_foxes z0_safe a0_debts cyI f0_debts)) (w1 := (wd01_44 a1 a1_bytes v1_length x17 x20 z1_filled x18 x19 a1_bytes cyB f1_bytes)) (wn := (wd01_50 a0 z0_formX z0_formY z0_foxX z0_foxY z0_seat z0_strength a0_debts z0_near z0_forms v0_hares z0_foxes z0_safe a1 a1_bytes v1_length x17 x20 z1_filled x18 x19 a1_bytes cyB f1_bytes a0_debts cyI f0_debts)) hP hD [1, 2] [0, 3] [0, 2, 3, 1] hCc rfl (by decide +kernel) (by decide +kernel) (by decide +kernel) rfl hk1 hFc hP1 hD1
  generalize H1 = H at hP hS ⊢
  refine lv_istore (lv' := [(5, .int r21), (0, .ref a0), (1, .ref a1), (3, .int l3), (4, .int l4)]) hx hb (dt_of tkX2_readDebt_k53 0 rfl) hl (by decide) rfl (fun ls hl => ?_)
  refine lv_aload_n hx hb (dt_of tkX2_readDebt_k53 1 rfl) rfl (lv_at hl 2 rfl) ?_
  refine lv_bipush (v := 59) hx hb (dt_of tkX2_readDebt_k53 2 rfl) (by decide) ?_
  obtain ⟨hCc, hPc, hDc, hFc⟩ := va_pick (ws' := (wd01_44 a1 a1_bytes v1_length x17 x20 z1_filled x18 x19 a1_bytes cyB f1_bytes)) hP hD hS hA [1, 2] (by decide +kernel) rfl
  refine va_callv (va_runV (As := [.int 59]) (rest := []) ⟨hx, hb, hml, hown, hts⟩ (ck_X8_needs l dC dI cyB cyI cyJ cyP a1 a1_bytes H.size (z1_filled) v1_length f1_bytes x17 x20 x18 x19 59 hw) (cwV 1 hts gX2_readDebt_X8_needs rfl rfl rfl (by decide +kernel) ⟨Nat.le_of_ble_eq_true rfl, Nat.le_of_ble_eq_true rfl⟩) ⟨cPc_blind, va_recv (q := (RX8, TX8, 7)) hK hPc (ci := 8) (q0 := 0) rfl rfl, cPc_pre hPc hK hDc hNw⟩ rfl rfl hl.1 rfl (lv_room (Nat.le_of_ble_eq_true rfl)) (dt_of tkX2_readDebt_k53 3 rfl) ⟨Nat.le_of_ble_eq_true rfl, Nat.le_of_ble_eq_true rfl⟩) hS (fun q _ h => hFc q h) hFc (fun u t H1 locs ht hvm hw hB hz1 hk1 hS => ?_)
  obtain ⟨x22, x23, x24, x25⟩ := u
  obtain ⟨hP1, hK1, hD1⟩ := hB
  rw [ht] at hP1
  obtain ⟨hP, hD⟩ := va_joinN (wr := (wd01_51 a0 z0_formX z0_formY z0_foxX z0_foxY z0_seat z0_strength a0_debts z0_near z0_forms v0_hares z0_foxes z0_safe a0_debts cyI f0_debts)) (w1 := (wd01_44 a1 a1_bytes v1_length x22 x23 z1_filled x24 x25 a1_bytes cyB f1_bytes)) (wn := (wd01_50 a0 z0_formX z0_formY z0_foxX z0_foxY z0_seat z0_strength a0_debts z0_near z0_forms v0_hares z0_foxes z0_safe a1 a1_bytes v1_length x22 x23 z1_filled x24 x25 a1_bytes cyB f1_bytes a0_debts cyI f0_debts)) hP hD [1, 2] [0, 3] [0, 2, 3, 1] hCc rfl (by decide +kernel) (by decide +kernel) (by decide +kernel) rfl hk1 hFc hP1 hD1
  generalize H1 = H at hP hS ⊢
  refine lv_aload_n hx hb (dt_of tkX2_readDebt_k53 4 rfl) rfl (lv_at hl 2 rfl) ?_
  obtain ⟨hCc, hPc, hDc, hFc⟩ := va_pick (ws' := (wd01_43 a1 a1_bytes v1_length x22 x23 z1_filled x24 x25)) hP hD hS hA [1] (by decide +kernel) rfl
  refine va_calli (va_runV (As := []) (rest := []) ⟨hx, hb, hml, hown, hts⟩ (ck_X8_isFaulty l dC dI cyB cyI cyJ cyP a1 H.size (.ref a1_bytes) (.int v1_length) (.int x22) (.int x23) (z1_filled) (.int x25) x24   hw) (cwV 0 hts gX2_readDebt_X8_isFaulty rfl rfl rfl (by decide +kernel) ⟨Nat.le_of_ble_eq_true rfl, Nat.le_of_ble_eq_true rfl⟩) ⟨cPc_blind, va_recv (q := (RX8, TX8, 7)) hK hPc (ci := 8) (q0 := 0) rfl rfl, cPc_pre hPc hK hDc hNw⟩ rfl rfl hl.1 rfl (lv_room (Nat.le_of_ble_eq_true rfl)) (dt_of tkX2_readDebt_k53 5 rfl) ⟨Nat.le_of_ble_eq_true rfl, Nat.le_of_ble_eq_true rfl⟩) hS (fun q _ h => hFc q h) hFc (fun r26 u t H1 locs ht hvm hw hB hz1 hk1 hS => ?_)
  obtain ⟨hP1, hK1, hD1⟩ := hB
  rw [ht] at hP1
  obtain ⟨hP, hD⟩ := va_joinN (wr := (wd01_52 a0 z0_formX z0_formY z0_foxX z0_foxY z0_seat z0_strength a0_debts z0_near z0_forms v0_hares z0_foxes z0_safe a1_bytes cyB f1_bytes a0_debts cyI f0_debts)) (w1 := (wd01_43 a1 a1_bytes v1_length x22 x23 z1_filled x24 x25)) (wn := (wd01_50 a0 z0_formX z0_formY z0_foxX z0_foxY z0_seat z0_strength a0_debts z0_near z0_forms v0_hares z0_foxes z0_safe a1 a1_bytes v1_length x22 x23 z1_filled x24 x25 a1_bytes cyB f1_bytes a0_debts cyI f0_debts)) hP hD [1] [0, 2, 3] [0, 3, 1, 2] hCc rfl (by decide +kernel) (by decide +kernel) (by decide +kernel) rfl hk1 hFc hP1 hD1
  generalize H1 = H at hP hS ⊢
  refine lv_if_ne (tgt := 82) hx hb (dt_of tkX2_readDebt_k53 6 rfl) (by decide) (fun c27 => ?_) (fun c27 => ?_)
  · have hw := hw.1 c27
    exact ((W.vret hx hb hr (fun t ht hW => ⟨⟨(x22, x24, x25, x23, f0_debts), rfl, hw, by rw [ht]; exact hP, va_K.moved hW.alike hK, hD⟩, hS.F ht⟩) hS.2.2 (dt_of tkX2_readDebt_k82 0 rfl)))
  · have hw := hw.2 c27
    refine lv_aload_n hx hb (dt_of tkX2_readDebt_k53 7 rfl) rfl (lv_at hl 1 rfl) ?_
    refine va_get (D := (dC, dI)) (ci := 2) (v := .ref a0_debts) (C := RX2) (T := TX2) (N := 12) hx hb hts ui_X2_readDebt_X2 hown hK hP 0 rfl rfl 6 (by decide) (hts _ uw_X2_readDebt_f30) (fun _ h9 => h9) rfl (dt_of tkX2_readDebt_k53 8 rfl) ?_
    refine lv_iload_n hx hb (dt_of tkX2_readDebt_k53 9 rfl) rfl (lv_at hl 3 rfl) ?_
    refine lv_bipush (v := 6) hx hb (dt_of tkX2_readDebt_k53 10 rfl) (by decide) ?_
    refine lv_imul hx hb (dt_of tkX2_readDebt_k53 11 rfl) ?_
    refine lv_topi (fun x28 ex28 => ?_)
    have hw := hw x28 ex28
    refine lv_iload hx hb (dt_of tkX2_readDebt_k53 12 rfl) (lv_at hl 4 rfl) ?_
    refine lv_iadd hx hb (dt_of tkX2_readDebt_k53 13 rfl) ?_
    refine lv_topi (fun x29 ex29 => ?_)
    have hw := hw x29 ex29
    refine lv_iload hx hb (dt_of tkX2_readDebt_k53 14 rfl) (lv_at hl 0 rfl) ?_
    obtain ⟨hi9, hw⟩ := hw
    refine va_iast hx hb hK hP hD hS 3 1 rfl rfl hi9 (dt_of tkX2_readDebt_k53 15 rfl) (fun H locs hP hD hS => ?_)
    obtain ⟨f30, ef30⟩ : ∃ y : Nat → Int32, y = upd f0_debts x29.toNatClampNeg r21 := ⟨_, rfl⟩
    have hw := hw f30 ef30
    have hP : va_P (dC, dI) vwCl (wd01_50 a0 z0_formX z0_formY z0_foxX z0_foxY z0_seat z0_strength a0_debts z0_near z0_forms v0_hares z0_foxes z0_safe a1 a1_bytes v1_length x22 x23 z1_filled x24 x25 a1_bytes cyB f1_bytes a0_debts cyI f30) H := by rw [ef30]; exact hP
    have hD : va_D A (wd01_50 a0 z0_formX z0_formY z0_foxX z0_foxY z0_seat z0_strength a0_debts z0_near z0_forms v0_hares z0_foxes z0_safe a1 a1_bytes v1_length x22 x23 z1_filled x24 x25 a1_bytes cyB f1_bytes a0_debts cyI f30) := by rw [ef30]; exact hD
    exact ((W.vret hx hb hr (fun t ht hW => ⟨⟨(x22, x24, x25, x23, f30), rfl, hw, by rw [ht]; exact hP, va_K.moved hW.alike hK, hD⟩, hS.F ht⟩) hS.2.2 (dt_of tkX2_readDebt_k82 0 rfl)))
set_option maxHeartbeats 4000000 in
set_option maxRecDepth 100000 in
theorem ck_X2_readDebt (l : Launch) (dC : Nat → ClassId) (dI : Nat → Nat → Nat) (cyB cyI cyJ cyP : ClassId) (a0 a1 a1_bytes a0_debts : Nat) (sz : Nat) (z0_formX : Value) (z0_formY : Value) (z0_foxX : Value) (z0_foxY : Value) (z0_seat : Value) (z0_strength : Value) (z0_near : Value) (z0_forms : Value) (z0_foxes : Value) (z0_safe : Value) (z1_filled : Value) (v0_hares : Int32) (v1_length : Int32) (f1_bytes : Nat → Int32) (v1_at : Int32) (v1_fault : Int32) (v1_faultPlace : Int32) (v1_token : Int32) (f0_debts : Nat → Int32) (p2 : Int32) {Q : Int32 → Int32 → Int32 → Int32 → (Nat → Int32) → Prop} (hw : wq_X2_readDebt v0_hares v1_length f1_bytes v1_at v1_fault v1_faultPlace v1_token f0_debts p2 Q) : Met l yX2_readDebt wsX2_readDebt ({ frames := 3, cells := 0, slots := 0, locals := 63 }) (va_Pc [.ref a0, .ref a1, .int p2] (cPc (dC, dI) (kT cyB cyI cyJ cyP) (wd01_50 a0 z0_formX z0_formY z0_foxX z0_foxY z0_seat z0_strength a0_debts z0_near z0_forms v0_hares z0_foxes z0_safe a1 a1_bytes v1_length v1_at v1_token z1_filled v1_fault v1_faultPlace a1_bytes cyB f1_bytes a0_debts cyI f0_debts) sz)) (va_Qv (fun (u : Int32 × Int32 × Int32 × Int32 × (Nat → Int32)) => Q u.1 u.2.1 u.2.2.1 u.2.2.2.1 u.2.2.2.2) (cB (dC, dI) (kT cyB cyI cyJ cyP) (va_A (wd01_50 a0 z0_formX z0_formY z0_foxX z0_foxY z0_seat z0_strength a0_debts z0_near z0_forms v0_hares z0_foxes z0_safe a1 a1_bytes v1_length v1_at v1_token z1_filled v1_fault v1_faultPlace a1_bytes cyB f1_bytes a0_debts cyI f0_debts) sz) (fun u : Int32 × Int32 × Int32 × Int32 × (Nat → Int32) => ((wd01_50 a0 z0_formX z0_formY z0_foxX z0_foxY z0_seat z0_strength a0_debts z0_near z0_forms v0_hares z0_foxes z0_safe a1 a1_bytes v1_length u.1 u.2.2.2.1 z1_filled u.2.1 u.2.2.1 a1_bytes cyB f1_bytes a0_debts cyI u.2.2.2.2) : va_W))) (va_A (wd01_50 a0 z0_formX z0_formY z0_foxX z0_foxY z0_seat z0_strength a0_debts z0_near z0_forms v0_hares z0_foxes z0_safe a1 a1_bytes v1_length v1_at v1_token z1_filled v1_fault v1_faultPlace a1_bytes cyB f1_bytes a0_debts cyI f0_debts) sz)) 0 0 (va_A (wd01_50 a0 z0_formX z0_formY z0_foxX z0_foxY z0_seat z0_strength a0_debts z0_near z0_forms v0_hares z0_foxes z0_safe a1 a1_bytes v1_length v1_at v1_token z1_filled v1_fault v1_faultPlace a1_bytes cyB f1_bytes a0_debts cyI f0_debts) sz) := by
  refine Met.ofW (cc := cX2_readDebt) (maxL := 6) (ret := none) (by decide) rfl ?_
  intro p e s m args below meth c s₁ B hml hv
  obtain ⟨rfl, hsz, hP, hK, hD0, hNw⟩ := hv
  have hx := B.exec
  have hb := B.bytes
  have hr := B.returns
  have hts := atoms_spec (ws := wsX2_readDebt) B.pre
  have hown : s.vm.findClass RX2 = some m.cls := findClass_of_methodNamed B.named
  have hlocks := B.notSynchronized
  subst hsz
  have hD := hD0.self (sz := s.heap.size)
  generalize hAe : va_A (wd01_50 a0 z0_formX z0_formY z0_foxX z0_foxY z0_seat z0_strength a0_debts z0_near z0_forms v0_hares z0_foxes z0_safe a1 a1_bytes v1_length v1_at v1_token z1_filled v1_fault v1_faultPlace a1_bytes cyB f1_bytes a0_debts cyI f0_debts) s.heap.size = A at hD ⊢
  have hA : ∀ q : Nat, s.heap.size ≤ q → A q := fun q h => by rw [← hAe]; exact Or.inr h
  have hS : va_S A s.heap s.heap [] := va_S.rf
  have hP : va_P (dC, dI) vwCl (wd01_50 a0 z0_formX z0_formY z0_foxX z0_foxY z0_seat z0_strength a0_debts z0_near z0_forms v0_hares z0_foxes z0_safe a1 a1_bytes v1_length v1_at v1_token z1_filled v1_fault v1_faultPlace a1_bytes cyB f1_bytes a0_debts cyI f0_debts) s.heap := hP
  have hl := lv_entry ([.ref a0, .ref a1, .int p2]) (n := 6) (Nat.le_of_ble_eq_true rfl)
  rw [lg_entry_eq]
  generalize (lg_sl ([.ref a0, .ref a1, .int p2]) ++ List.replicate (6 - (lg_sl ([.ref a0, .ref a1, .int p2])).length) Slot.unset).toArray = ls at hl ⊢
  have hl : lv_has ls 6 [(0, .ref a0), (1, .ref a1), (2, .int p2)] := hl
  have C0 : cfx p s m _ meth c cX2_readDebt none wsX2_readDebt RX2 6 A (dC, dI) (kT cyB cyI cyJ cyP) := ⟨hx, hb, hr, hts, hown, hlocks, hml, hA, hK, hNw⟩
  clear hAe
  obtain ⟨H, hH⟩ : ∃ H, H = s.heap := ⟨_, rfl⟩
  rw [← hH] at hP ⊢
  have hS : va_S A s.heap H [] := by rw [hH]; exact va_S.rf
  have hS := hS
  refine lv_iload_n hx hb (dt_of tkX2_readDebt_k0 0 rfl) rfl (lv_at hl 2 rfl) ?_
  refine lv_if_eq (tgt := 10) hx hb (dt_of tkX2_readDebt_k0 1 rfl) (by decide) (fun c1 => ?_) (fun c1 => ?_)
  · have hw := hw.1 c1
    refine lv_aload_n hx hb (dt_of tkX2_readDebt_k0 6 rfl) rfl (lv_at hl 1 rfl) ?_
    refine lv_iconst (v := 0) hx hb (dt_of tkX2_readDebt_k0 7 rfl) (by decide) ?_
    refine lv_aload_n hx hb (dt_of tkX2_readDebt_k0 8 rfl) rfl (lv_at hl 0 rfl) ?_
    refine va_get (D := (dC, dI)) (ci := 2) (v := .int v0_hares) (C := RX2) (T := TX2) (N := 12) hx hb hts ui_X2_readDebt_X2 hown hK hP 0 rfl rfl 9 (by decide) (hts _ uw_X2_readDebt_f40) (fun _ h9 => h9) rfl (dt_of tkX2_readDebt_k0 9 rfl) ?_
    refine lv_iconst (v := 1) hx hb (dt_of tkX2_readDebt_k0 10 rfl) (by decide) ?_
    refine lv_isub hx hb (dt_of tkX2_readDebt_k0 11 rfl) ?_
    obtain ⟨hCc, hPc, hDc, hFc⟩ := va_pick (ws' := (wd01_44 a1 a1_bytes v1_length v1_at v1_token z1_filled v1_fault v1_faultPlace a1_bytes cyB f1_bytes)) hP hD hS hA [1, 2] (by decide +kernel) rfl
    refine va_calli (va_runV (As := [.int 0, .int (v0_hares - 1)]) (rest := []) ⟨hx, hb, hml, hown, hts⟩ (ck_X8_number l dC dI cyB cyI cyJ cyP a1 a1_bytes H.size (z1_filled) v1_length f1_bytes v1_at v1_fault v1_faultPlace v1_token 0 (v0_hares - 1) hw) (cwV 2 hts gX2_readDebt_X8_number rfl rfl rfl (by decide +kernel) ⟨Nat.le_of_ble_eq_true rfl, Nat.le_of_ble_eq_true rfl⟩) ⟨cPc_blind, va_recv (q := (RX8, TX8, 7)) hK hPc (ci := 8) (q0 := 0) rfl rfl, cPc_pre hPc hK hDc hNw⟩ rfl rfl hl.1 rfl (lv_room (Nat.le_of_ble_eq_true rfl)) (dt_of tkX2_readDebt_k0 12 rfl) ⟨Nat.le_of_ble_eq_true rfl, Nat.le_of_ble_eq_true rfl⟩) hS (fun q _ h => hFc q h) hFc (fun r6 u t H1 locs ht hvm hw hB hz1 hk1 hS => ?_)
    obtain ⟨x2, x3, x4, x5⟩ := u
    obtain ⟨hP1, hK1, hD1⟩ := hB
    rw [ht] at hP1
    obtain ⟨hP, hD⟩ := va_joinN (wr := (wd01_51 a0 z0_formX z0_formY z0_foxX z0_foxY z0_seat z0_strength a0_debts z0_near z0_forms v0_hares z0_foxes z0_safe a0_debts cyI f0_debts)) (w1 := (wd01_44 a1 a1_bytes v1_length x2 x5 z1_filled x3 x4 a1_bytes cyB f1_bytes)) (wn := (wd01_50 a0 z0_formX z0_formY z0_foxX z0_foxY z0_seat z0_strength a0_debts z0_near z0_forms v0_hares z0_foxes z0_safe a1 a1_bytes v1_length x2 x5 z1_filled x3 x4 a1_bytes cyB f1_bytes a0_debts cyI f0_debts)) hP hD [1, 2] [0, 3] [0, 2, 3, 1] hCc rfl (by decide +kernel) (by decide +kernel) (by decide +kernel) rfl hk1 hFc hP1 hD1
    generalize H1 = H at hP hS ⊢
    refine lv_istore_n (lv' := [(3, .int r6), (0, .ref a0), (1, .ref a1), (2, .int p2)]) hx hb (dt_of tkX2_readDebt_k0 13 rfl) rfl hl (by decide) rfl (fun ls hl => ?_)
    refine lv_aload_n hx hb (dt_of tkX2_readDebt_k0 14 rfl) rfl (lv_at hl 2 rfl) ?_
    refine lv_iconst (v := 0) hx hb (dt_of tkX2_readDebt_k0 15 rfl) (by decide) ?_
    refine lv_aload_n hx hb (dt_of tkX2_readDebt_k24 0 rfl) rfl (lv_at hl 1 rfl) ?_
    refine va_get (D := (dC, dI)) (ci := 2) (v := .int v0_hares) (C := RX2) (T := TX2) (N := 12) hx hb hts ui_X2_readDebt_X2 hown hK hP 0 rfl rfl 9 (by decide) (hts _ uw_X2_readDebt_f40) (fun _ h9 => h9) rfl (dt_of tkX2_readDebt_k24 1 rfl) ?_
    refine lv_iconst (v := 1) hx hb (dt_of tkX2_readDebt_k24 2 rfl) (by decide) ?_
    refine lv_isub hx hb (dt_of tkX2_readDebt_k24 3 rfl) ?_
    obtain ⟨hCc, hPc, hDc, hFc⟩ := va_pick (ws' := (wd01_44 a1 a1_bytes v1_length x2 x5 z1_filled x3 x4 a1_bytes cyB f1_bytes)) hP hD hS hA [1, 2] (by decide +kernel) rfl
    refine va_calli (va_runV (As := [.int 0, .int (v0_hares - 1)]) (rest := []) ⟨hx, hb, hml, hown, hts⟩ (ck_X8_number l dC dI cyB cyI cyJ cyP a1 a1_bytes H.size (z1_filled) v1_length f1_bytes x2 x3 x4 x5 0 (v0_hares - 1) hw) (cwV 2 hts gX2_readDebt_X8_number rfl rfl rfl (by decide +kernel) ⟨Nat.le_of_ble_eq_true rfl, Nat.le_of_ble_eq_true rfl⟩) ⟨cPc_blind, va_recv (q := (RX8, TX8, 7)) hK hPc (ci := 8) (q0 := 0) rfl rfl, cPc_pre hPc hK hDc hNw⟩ rfl rfl hl.1 rfl (lv_room (Nat.le_of_ble_eq_true rfl)) (dt_of tkX2_readDebt_k24 4 rfl) ⟨Nat.le_of_ble_eq_true rfl, Nat.le_of_ble_eq_true rfl⟩) hS (fun q _ h => hFc q h) hFc (fun r11 u t H1 locs ht hvm hw hB hz1 hk1 hS => ?_)
    obtain ⟨x7, x8, x9, x10⟩ := u
    obtain ⟨hP1, hK1, hD1⟩ := hB
    rw [ht] at hP1
    obtain ⟨hP, hD⟩ := va_joinN (wr := (wd01_51 a0 z0_formX z0_formY z0_foxX z0_foxY z0_seat z0_strength a0_debts z0_near z0_forms v0_hares z0_foxes z0_safe a0_debts cyI f0_debts)) (w1 := (wd01_44 a1 a1_bytes v1_length x7 x10 z1_filled x8 x9 a1_bytes cyB f1_bytes)) (wn := (wd01_50 a0 z0_formX z0_formY z0_foxX z0_foxY z0_seat z0_strength a0_debts z0_near z0_forms v0_hares z0_foxes z0_safe a1 a1_bytes v1_length x7 x10 z1_filled x8 x9 a1_bytes cyB f1_bytes a0_debts cyI f0_debts)) hP hD [1, 2] [0, 3] [0, 2, 3, 1] hCc rfl (by decide +kernel) (by decide +kernel) (by decide +kernel) rfl hk1 hFc hP1 hD1
    generalize H1 = H at hP hS ⊢
    refine lv_istore (lv' := [(4, .int r11), (3, .int r6), (0, .ref a0), (1, .ref a1), (2, .int p2)]) hx hb (dt_of tkX2_readDebt_k24 5 rfl) hl (by decide) rfl (fun ls hl => ?_)
    refine lv_iload_n hx hb (dt_of tkX2_readDebt_k24 6 rfl) rfl (lv_at hl 1 rfl) ?_
    refine lv_iload hx hb (dt_of tkX2_readDebt_k24 7 rfl) (lv_at hl 0 rfl) ?_
    refine lv_icmp_ne (tgt := 46) hx hb (dt_of tkX2_readDebt_k24 8 rfl) (by decide) (fun c12 => ?_) (fun c12 => ?_)
    · have hw := hw.1 c12
      exact kb_X2_readDebt_46 dC dI cyB cyI cyJ cyP a0 a1 a1_bytes a0_debts z0_formX z0_formY z0_foxX z0_foxY z0_seat z0_strength z0_near z0_forms z0_foxes z0_safe z1_filled v0_hares v1_length f1_bytes Q  C0 _ _ _ x7 x8 x9 x10 f0_debts r6 r11 hP hD hS (lv_sub hl [2, 3, 1, 0] rfl) hw
    · have hw := hw.2 c12
      refine lv_aload_n hx hb (dt_of tkX2_readDebt_k24 9 rfl) rfl (lv_at hl 3 rfl) ?_
      refine lv_iconst (v := 2) hx hb (dt_of tkX2_readDebt_k24 10 rfl) (by decide) ?_
      obtain ⟨hCc, hPc, hDc, hFc⟩ := va_pick (ws' := (wd01_43 a1 a1_bytes v1_length x7 x10 z1_filled x8 x9)) hP hD hS hA [1] (by decide +kernel) rfl
      refine va_callv (va_runV (As := [.int 2]) (rest := []) ⟨hx, hb, hml, hown, hts⟩ (ck_X8_blameToken l dC dI cyB cyI cyJ cyP a1 H.size (.ref a1_bytes) (.int v1_length) (.int x7) (z1_filled) x10 x8 x9 2 hw) (cwV 1 hts gX2_readDebt_X8_blameToken rfl rfl rfl (by decide +kernel) ⟨Nat.le_of_ble_eq_true rfl, Nat.le_of_ble_eq_true rfl⟩) ⟨cPc_blind, va_recv (q := (RX8, TX8, 7)) hK hPc (ci := 8) (q0 := 0) rfl rfl, cPc_pre hPc hK hDc hNw⟩ rfl rfl hl.1 rfl (lv_room (Nat.le_of_ble_eq_true rfl)) (dt_of tkX2_readDebt_k24 11 rfl) ⟨Nat.le_of_ble_eq_true rfl, Nat.le_of_ble_eq_true rfl⟩) hS (fun q _ h => hFc q h) hFc (fun u t H1 locs ht hvm hw hB hz1 hk1 hS => ?_)
      obtain ⟨x13, x14⟩ := u
      obtain ⟨hP1, hK1, hD1⟩ := hB
      rw [ht] at hP1
      obtain ⟨hP, hD⟩ := va_joinN (wr := (wd01_52 a0 z0_formX z0_formY z0_foxX z0_foxY z0_seat z0_strength a0_debts z0_near z0_forms v0_hares z0_foxes z0_safe a1_bytes cyB f1_bytes a0_debts cyI f0_debts)) (w1 := (wd01_43 a1 a1_bytes v1_length x7 x10 z1_filled x13 x14)) (wn := (wd01_50 a0 z0_formX z0_formY z0_foxX z0_foxY z0_seat z0_strength a0_debts z0_near z0_forms v0_hares z0_foxes z0_safe a1 a1_bytes v1_length x7 x10 z1_filled x13 x14 a1_bytes cyB f1_bytes a0_debts cyI f0_debts)) hP hD [1] [0, 2, 3] [0, 3, 1, 2] hCc rfl (by decide +kernel) (by decide +kernel) (by decide +kernel) rfl hk1 hFc hP1 hD1
      generalize H1 = H at hP hS ⊢
      exact kb_X2_readDebt_46 dC dI cyB cyI cyJ cyP a0 a1 a1_bytes a0_debts z0_formX z0_formY z0_foxX z0_foxY z0_seat z0_strength z0_near z0_forms z0_foxes z0_safe z1_filled v0_hares v1_length f1_bytes Q  C0 _ _ _ x7 x13 x14 x10 f0_debts r6 r11 hP hD hS (lv_sub hl [2, 3, 1, 0] rfl) hw
  · have hw := hw.2 c1
    refine lv_aload_n hx hb (dt_of tkX2_readDebt_k0 2 rfl) rfl (lv_at hl 1 rfl) ?_
    refine lv_iconst (v := 3) hx hb (dt_of tkX2_readDebt_k0 3 rfl) (by decide) ?_
    obtain ⟨hCc, hPc, hDc, hFc⟩ := va_pick (ws' := (wd01_43 a1 a1_bytes v1_length v1_at v1_token z1_filled v1_fault v1_faultPlace)) hP hD hS hA [1] (by decide +kernel) rfl
    refine va_callv (va_runV (As := [.int 3]) (rest := []) ⟨hx, hb, hml, hown, hts⟩ (ck_X8_blameToken l dC dI cyB cyI cyJ cyP a1 H.size (.ref a1_bytes) (.int v1_length) (.int v1_at) (z1_filled) v1_token v1_fault v1_faultPlace 3 hw) (cwV 1 hts gX2_readDebt_X8_blameToken rfl rfl rfl (by decide +kernel) ⟨Nat.le_of_ble_eq_true rfl, Nat.le_of_ble_eq_true rfl⟩) ⟨cPc_blind, va_recv (q := (RX8, TX8, 7)) hK hPc (ci := 8) (q0 := 0) rfl rfl, cPc_pre hPc hK hDc hNw⟩ rfl rfl hl.1 rfl (lv_room (Nat.le_of_ble_eq_true rfl)) (dt_of tkX2_readDebt_k0 4 rfl) ⟨Nat.le_of_ble_eq_true rfl, Nat.le_of_ble_eq_true rfl⟩) hS (fun q _ h => hFc q h) hFc (fun u t H1 locs ht hvm hw hB hz1 hk1 hS => ?_)
    obtain ⟨x15, x16⟩ := u
    obtain ⟨hP1, hK1, hD1⟩ := hB
    rw [ht] at hP1
    obtain ⟨hP, hD⟩ := va_joinN (wr := (wd01_52 a0 z0_formX z0_formY z0_foxX z0_foxY z0_seat z0_strength a0_debts z0_near z0_forms v0_hares z0_foxes z0_safe a1_bytes cyB f1_bytes a0_debts cyI f0_debts)) (w1 := (wd01_43 a1 a1_bytes v1_length v1_at v1_token z1_filled x15 x16)) (wn := (wd01_50 a0 z0_formX z0_formY z0_foxX z0_foxY z0_seat z0_strength a0_debts z0_near z0_forms v0_hares z0_foxes z0_safe a1 a1_bytes v1_length v1_at v1_token z1_filled x15 x16 a1_bytes cyB f1_bytes a0_debts cyI f0_debts)) hP hD [1] [0, 2, 3] [0, 3, 1, 2] hCc rfl (by decide +kernel) (by decide +kernel) (by decide +kernel) rfl hk1 hFc hP1 hD1
    generalize H1 = H at hP hS ⊢
    exact ((W.vret hx hb hr (fun t ht hW => ⟨⟨(v1_at, x15, x16, v1_token, f0_debts), rfl, hw, by rw [ht]; exact hP, va_K.moved hW.alike hK, hD⟩, hS.F ht⟩) hS.2.2 (dt_of tkX2_readDebt_k0 5 rfl)))
theorem ui_X2_foxIsNear_X2 : ∀ w ∈ u_ws RX2 TX2 12, w ∈ wsX2_foxIsNear := uiM mbX2_foxIsNear euX2 (by decide +kernel)
theorem uw_X2_foxIsNear_f15 : (.fieldLink RX2 15 "MarchHares$Down" "formY" "[I" : Cond) ∈ wsX2_foxIsNear := mbX2_foxIsNear 149 (by decide +kernel)
theorem uw_X2_foxIsNear_f18 : (.fieldLink RX2 18 "MarchHares$Down" "foxX" "[I" : Cond) ∈ wsX2_foxIsNear := mbX2_foxIsNear 150 (by decide +kernel)
theorem uw_X2_foxIsNear_f21 : (.fieldLink RX2 21 "MarchHares$Down" "foxY" "[I" : Cond) ∈ wsX2_foxIsNear := mbX2_foxIsNear 151 (by decide +kernel)
theorem uw_X2_foxIsNear_f43 : (.fieldLink RX2 43 "MarchHares$Down" "foxes" "I" : Cond) ∈ wsX2_foxIsNear := mbX2_foxIsNear 722 (by decide +kernel)
theorem uw_X2_foxIsNear_f9 : (.fieldLink RX2 9 "MarchHares$Down" "formX" "[I" : Cond) ∈ wsX2_foxIsNear := mbX2_foxIsNear 148 (by decide +kernel)
theorem uw_X2_foxIsNear_inim : (.initialized "java/lang/Math" : Cond) ∈ wsX2_foxIsNear := mbX2_foxIsNear 651 (by decide +kernel)
theorem uw_X2_foxIsNear_m108 : (.methodLink RX2 108 Lib.Math.abs.name : Cond) ∈ wsX2_foxIsNear := mbX2_foxIsNear 1092 (by decide +kernel)
theorem uw_X2_foxIsNear_mcabs : (.code Lib.Math.abs.name Lib.Math.abs.code 1 (some .int) : Cond) ∈ wsX2_foxIsNear := mbX2_foxIsNear 1094 (by decide +kernel)
theorem uw_X2_foxIsNear_msabs : (.static Lib.Math.abs.name : Cond) ∈ wsX2_foxIsNear := mbX2_foxIsNear 1093 (by decide +kernel)
set_option maxHeartbeats 4000000 in
set_option maxRecDepth 100000 in
theorem kl_X2_foxIsNear_2 {p : Program} {l : Launch} {e : Env} {s : State} {m : MethodId} {args : Array Value} {below : List Frame} {meth : Method} {c : Code} {A : Nat → Prop} (dC : Nat → ClassId) (dI : Nat → Nat → Nat) (cyB cyI cyJ cyP : ClassId) (a0 a0_formX a0_foxX a0_formY a0_foxY : Nat) (z0_seat : Value) (z0_strength : Value) (z0_debts : Value) (z0_near : Value) (z0_forms : Value) (z0_hares : Value) (z0_safe : Value) (v0_foxes : Int32) (f0_formX : Nat → Int32) (f0_foxX : Nat → Int32) (f0_formY : Nat → Int32) (f0_foxY : Nat → Int32) (Q : Int32 → Prop)  (C0 : cfx p s m args meth c cX2_foxIsNear (some .boolean) wsX2_foxIsNear RX2 3 A (dC, dI) (kT cyB cyI cyJ cyP)) : ∀ (n : Nat) (H : Heap) (locs : List Loc) (ls : Array Slot) (l1 : Int32) (l2 : Int32), va_P (dC, dI) vwCl (wd01_53 a0 a0_formX a0_formY a0_foxX a0_foxY z0_seat z0_strength z0_debts z0_near z0_forms z0_hares v0_foxes z0_safe a0_formX cyI f0_formX a0_foxX cyI f0_foxX a0_formY cyI f0_formY a0_foxY cyI f0_foxY) H → va_D A (wd01_53 a0 a0_formX a0_formY a0_foxX a0_foxY z0_seat z0_strength z0_debts z0_near z0_forms z0_hares v0_foxes z0_safe a0_formX cyI f0_formX a0_foxX cyI f0_foxX a0_formY cyI f0_formY a0_foxY cyI f0_foxY) → va_S A s.heap H locs → lv_has ls 3 [(0, .ref a0), (1, .int l1), (2, .int l2)] → wl_X2_foxIsNear_2 v0_foxes f0_formX f0_foxX f0_formY f0_foxY Q  n l1 l2 → W p l e (headSpec wsX2_foxIsNear ({ frames := 1, cells := 0, slots := 0, locals := 32 })).room s m args below meth c H locs 0 0 (MQ below (va_Qi (fun (r : Int32) (_ : Unit) => Q r ) (cB (dC, dI) (kT cyB cyI cyJ cyP) A (fun u : Unit => ((wd01_53 a0 a0_formX a0_formY a0_foxX a0_foxY z0_seat z0_strength z0_debts z0_near z0_forms z0_hares v0_foxes z0_safe a0_formX cyI f0_formX a0_foxX cyI f0_foxX a0_formY cyI f0_formY a0_foxY cyI f0_foxY) : va_W))) A) args s 0 0 A) (F0 m 2 ls []) := by
  obtain ⟨hx, hb, hr, hts, hown, hlocks, hml, hA, hK, hNw⟩ := id C0
  intro n
  induction n with
  | zero => intro H locs ls l1 l2 hP hD hS hl hw; exact False.elim hw
  | succ n ih =>
    intro H locs ls l1 l2 hP hD hS hl hw
    refine lv_iload_n hx hb (dt_of tkX2_foxIsNear_k0 2 rfl) rfl (lv_at hl 2 rfl) ?_
    refine lv_aload_n hx hb (dt_of tkX2_foxIsNear_k0 3 rfl) rfl (lv_at hl 0 rfl) ?_
    refine va_get (D := (dC, dI)) (ci := 2) (v := .int v0_foxes) (C := RX2) (T := TX2) (N := 12) hx hb hts ui_X2_foxIsNear_X2 hown hK hP 0 rfl rfl 10 (by decide) (hts _ uw_X2_foxIsNear_f43) (fun _ h9 => h9) rfl (dt_of tkX2_foxIsNear_k0 4 rfl) ?_
    refine lv_icmp_ge (tgt := 55) hx hb (dt_of tkX2_foxIsNear_k0 5 rfl) (by decide) (fun c1 => ?_) (fun c1 => ?_)
    · have hw := hw.1 c1
      refine lv_iconst (v := 0) hx hb (dt_of tkX2_foxIsNear_k52 1 rfl) (by decide) ?_
      exact ((W.zret (v := 0) hx hb hr rfl (fun t ht hW => ⟨⟨0, (), rfl, hw, by rw [ht]; exact hP, va_K.moved hW.alike hK, hD⟩, hS.F ht⟩) hS.2.2 (dt_of tkX2_foxIsNear_k52 2 rfl)))
    · have hw := hw.2 c1
      refine lv_aload_n hx hb (dt_of tkX2_foxIsNear_k0 6 rfl) rfl (lv_at hl 0 rfl) ?_
      refine va_get (D := (dC, dI)) (ci := 2) (v := .ref a0_formX) (C := RX2) (T := TX2) (N := 12) hx hb hts ui_X2_foxIsNear_X2 hown hK hP 0 rfl rfl 0 (by decide) (hts _ uw_X2_foxIsNear_f9) (fun _ h9 => h9) rfl (dt_of tkX2_foxIsNear_k0 7 rfl) ?_
      refine lv_iload_n hx hb (dt_of tkX2_foxIsNear_k0 8 rfl) rfl (lv_at hl 1 rfl) ?_
      obtain ⟨hi9, hw⟩ := hw
      refine va_iald hx hb hK hP 1 1 rfl rfl hi9 (dt_of tkX2_foxIsNear_k0 9 rfl) ?_
      refine lv_topi (fun x2 ex2 => ?_)
      have hw := hw x2 ex2
      refine lv_aload_n hx hb (dt_of tkX2_foxIsNear_k0 10 rfl) rfl (lv_at hl 0 rfl) ?_
      refine va_get (D := (dC, dI)) (ci := 2) (v := .ref a0_foxX) (C := RX2) (T := TX2) (N := 12) hx hb hts ui_X2_foxIsNear_X2 hown hK hP 0 rfl rfl 2 (by decide) (hts _ uw_X2_foxIsNear_f18) (fun _ h9 => h9) rfl (dt_of tkX2_foxIsNear_k0 11 rfl) ?_
      refine lv_iload_n hx hb (dt_of tkX2_foxIsNear_k0 12 rfl) rfl (lv_at hl 2 rfl) ?_
      obtain ⟨hi9, hw⟩ := hw
      refine va_iald hx hb hK hP 2 1 rfl rfl hi9 (dt_of tkX2_foxIsNear_k0 13 rfl) ?_
      refine lv_topi (fun x3 ex3 => ?_)
      have hw := hw x3 ex3
      refine lv_isub hx hb (dt_of tkX2_foxIsNear_k0 14 rfl) ?_
      refine va_mabs hx hb (by rw [hml]; exact hl.1.symm) hown (hts _ uw_X2_foxIsNear_m108) (hts _ uw_X2_foxIsNear_msabs) (hts _ uw_X2_foxIsNear_inim) (hts _ uw_X2_foxIsNear_mcabs) (Nat.le_of_ble_eq_true rfl) (Nat.le_of_ble_eq_true rfl) (Nat.le_of_ble_eq_true rfl) (Nat.le_of_ble_eq_true rfl) (dt_of tkX2_foxIsNear_k0 15 rfl) ?_
      refine lv_topi (fun x4 ex4 => ?_)
      have hw := hw x4 ex4
      refine lv_aload_n hx hb (dt_of tkX2_foxIsNear_k26 0 rfl) rfl (lv_at hl 0 rfl) ?_
      refine va_get (D := (dC, dI)) (ci := 2) (v := .ref a0_formY) (C := RX2) (T := TX2) (N := 12) hx hb hts ui_X2_foxIsNear_X2 hown hK hP 0 rfl rfl 1 (by decide) (hts _ uw_X2_foxIsNear_f15) (fun _ h9 => h9) rfl (dt_of tkX2_foxIsNear_k26 1 rfl) ?_
      refine lv_iload_n hx hb (dt_of tkX2_foxIsNear_k26 2 rfl) rfl (lv_at hl 1 rfl) ?_
      obtain ⟨hi9, hw⟩ := hw
      refine va_iald hx hb hK hP 3 1 rfl rfl hi9 (dt_of tkX2_foxIsNear_k26 3 rfl) ?_
      refine lv_topi (fun x5 ex5 => ?_)
      have hw := hw x5 ex5
      refine lv_aload_n hx hb (dt_of tkX2_foxIsNear_k26 4 rfl) rfl (lv_at hl 0 rfl) ?_
      refine va_get (D := (dC, dI)) (ci := 2) (v := .ref a0_foxY) (C := RX2) (T := TX2) (N := 12) hx hb hts ui_X2_foxIsNear_X2 hown hK hP 0 rfl rfl 3 (by decide) (hts _ uw_X2_foxIsNear_f21) (fun _ h9 => h9) rfl (dt_of tkX2_foxIsNear_k26 5 rfl) ?_
      refine lv_iload_n hx hb (dt_of tkX2_foxIsNear_k26 6 rfl) rfl (lv_at hl 2 rfl) ?_
      obtain ⟨hi9, hw⟩ := hw
      refine va_iald hx hb hK hP 4 1 rfl rfl hi9 (dt_of tkX2_foxIsNear_k26 7 rfl) ?_
      refine lv_topi (fun x6 ex6 => ?_)
      have hw := hw x6 ex6
      refine lv_isub hx hb (dt_of tkX2_foxIsNear_k26 8 rfl) ?_
      refine va_mabs hx hb (by rw [hml]; exact hl.1.symm) hown (hts _ uw_X2_foxIsNear_m108) (hts _ uw_X2_foxIsNear_msabs) (hts _ uw_X2_foxIsNear_inim) (hts _ uw_X2_foxIsNear_mcabs) (Nat.le_of_ble_eq_true rfl) (Nat.le_of_ble_eq_true rfl) (Nat.le_of_ble_eq_true rfl) (Nat.le_of_ble_eq_true rfl) (dt_of tkX2_foxIsNear_k26 9 rfl) ?_
      refine lv_topi (fun x7 ex7 => ?_)
      have hw := hw x7 ex7
      refine lv_iadd hx hb (dt_of tkX2_foxIsNear_k26 10 rfl) ?_
      refine lv_iconst (v := 3) hx hb (dt_of tkX2_foxIsNear_k26 11 rfl) (by decide) ?_
      refine lv_icmp_gt (tgt := 49) hx hb (dt_of tkX2_foxIsNear_k26 12 rfl) (by decide) (fun c8 => ?_) (fun c8 => ?_)
      · have hw := hw.1 c8
        obtain ⟨x9, ex9⟩ : ∃ y : Int32, y = l2 + 1 := ⟨_, rfl⟩
        have hw := hw x9 ex9
        refine lv_iinc (v := x9) (lv' := [(2, .int x9), (0, .ref a0), (1, .int l1)]) hx hb (dt_of tkX2_foxIsNear_k26 15 rfl) hl (k := 2) rfl (by rw [ex9]; rfl) (by decide) rfl (fun ls hl => ?_)
        refine lv_goto (tgt := 2) hx hb (dt_of tkX2_foxIsNear_k52 0 rfl) (by decide) ?_
        exact ih _ _ _ l1 x9 hP hD hS (lv_sub hl [1, 2, 0] rfl) hw
      · have hw := hw.2 c8
        refine lv_iconst (v := 1) hx hb (dt_of tkX2_foxIsNear_k26 13 rfl) (by decide) ?_
        exact ((W.zret (v := 1) hx hb hr rfl (fun t ht hW => ⟨⟨1, (), rfl, hw, by rw [ht]; exact hP, va_K.moved hW.alike hK, hD⟩, hS.F ht⟩) hS.2.2 (dt_of tkX2_foxIsNear_k26 14 rfl)))
set_option maxHeartbeats 4000000 in
set_option maxRecDepth 100000 in
theorem ck_X2_foxIsNear (l : Launch) (dC : Nat → ClassId) (dI : Nat → Nat → Nat) (cyB cyI cyJ cyP : ClassId) (a0 a0_formX a0_foxX a0_formY a0_foxY : Nat) (sz : Nat) (z0_seat : Value) (z0_strength : Value) (z0_debts : Value) (z0_near : Value) (z0_forms : Value) (z0_hares : Value) (z0_safe : Value) (v0_foxes : Int32) (f0_formX : Nat → Int32) (f0_foxX : Nat → Int32) (f0_formY : Nat → Int32) (f0_foxY : Nat → Int32)  (p1 : Int32) {Q : Int32 → Prop} (hw : wq_X2_foxIsNear v0_foxes f0_formX f0_foxX f0_formY f0_foxY  p1 Q) : Met l yX2_foxIsNear wsX2_foxIsNear ({ frames := 1, cells := 0, slots := 0, locals := 32 }) (va_Pc [.ref a0, .int p1] (cPc (dC, dI) (kT cyB cyI cyJ cyP) (wd01_53 a0 a0_formX a0_formY a0_foxX a0_foxY z0_seat z0_strength z0_debts z0_near z0_forms z0_hares v0_foxes z0_safe a0_formX cyI f0_formX a0_foxX cyI f0_foxX a0_formY cyI f0_formY a0_foxY cyI f0_foxY) sz)) (va_Qi (fun (r : Int32) (_ : Unit) => Q r ) (cB (dC, dI) (kT cyB cyI cyJ cyP) (va_A (wd01_53 a0 a0_formX a0_formY a0_foxX a0_foxY z0_seat z0_strength z0_debts z0_near z0_forms z0_hares v0_foxes z0_safe a0_formX cyI f0_formX a0_foxX cyI f0_foxX a0_formY cyI f0_formY a0_foxY cyI f0_foxY) sz) (fun u : Unit => ((wd01_53 a0 a0_formX a0_formY a0_foxX a0_foxY z0_seat z0_strength z0_debts z0_near z0_forms z0_hares v0_foxes z0_safe a0_formX cyI f0_formX a0_foxX cyI f0_foxX a0_formY cyI f0_formY a0_foxY cyI f0_foxY) : va_W))) (va_A (wd01_53 a0 a0_formX a0_formY a0_foxX a0_foxY z0_seat z0_strength z0_debts z0_near z0_forms z0_hares v0_foxes z0_safe a0_formX cyI f0_formX a0_foxX cyI f0_foxX a0_formY cyI f0_formY a0_foxY cyI f0_foxY) sz)) 0 0 (va_A (wd01_53 a0 a0_formX a0_formY a0_foxX a0_foxY z0_seat z0_strength z0_debts z0_near z0_forms z0_hares v0_foxes z0_safe a0_formX cyI f0_formX a0_foxX cyI f0_foxX a0_formY cyI f0_formY a0_foxY cyI f0_foxY) sz) := by
  refine Met.ofW (cc := cX2_foxIsNear) (maxL := 3) (ret := (some .boolean)) (by decide) rfl ?_
  intro p e s m args below meth c s₁ B hml hv
  obtain ⟨rfl, hsz, hP, hK, hD0, hNw⟩ := hv
  have hx := B.exec
  have hb := B.bytes
  have hr := B.returns
  have hts := atoms_spec (ws := wsX2_foxIsNear) B.pre
  have hown : s.vm.findClass RX2 = some m.cls := findClass_of_methodNamed B.named
  have hlocks := B.notSynchronized
  subst hsz
  have hD := hD0.self (sz := s.heap.size)
  generalize hAe : va_A (wd01_53 a0 a0_formX a0_formY a0_foxX a0_foxY z0_seat z0_strength z0_debts z0_near z0_forms z0_hares v0_foxes z0_safe a0_formX cyI f0_formX a0_foxX cyI f0_foxX a0_formY cyI f0_formY a0_foxY cyI f0_foxY) s.heap.size = A at hD ⊢
  have hA : ∀ q : Nat, s.heap.size ≤ q → A q := fun q h => by rw [← hAe]; exact Or.inr h
  have hS : va_S A s.heap s.heap [] := va_S.rf
  have hP : va_P (dC, dI) vwCl (wd01_53 a0 a0_formX a0_formY a0_foxX a0_foxY z0_seat z0_strength z0_debts z0_near z0_forms z0_hares v0_foxes z0_safe a0_formX cyI f0_formX a0_foxX cyI f0_foxX a0_formY cyI f0_formY a0_foxY cyI f0_foxY) s.heap := hP
  have hl := lv_entry ([.ref a0, .int p1]) (n := 3) (Nat.le_of_ble_eq_true rfl)
  rw [lg_entry_eq]
  generalize (lg_sl ([.ref a0, .int p1]) ++ List.replicate (3 - (lg_sl ([.ref a0, .int p1])).length) Slot.unset).toArray = ls at hl ⊢
  have hl : lv_has ls 3 [(0, .ref a0), (1, .int p1)] := hl
  have C0 : cfx p s m _ meth c cX2_foxIsNear (some .boolean) wsX2_foxIsNear RX2 3 A (dC, dI) (kT cyB cyI cyJ cyP) := ⟨hx, hb, hr, hts, hown, hlocks, hml, hA, hK, hNw⟩
  clear hAe
  obtain ⟨H, hH⟩ : ∃ H, H = s.heap := ⟨_, rfl⟩
  rw [← hH] at hP ⊢
  have hS : va_S A s.heap H [] := by rw [hH]; exact va_S.rf
  have hS := hS
  refine lv_iconst (v := 0) hx hb (dt_of tkX2_foxIsNear_k0 0 rfl) (by decide) ?_
  refine lv_istore_n (lv' := [(2, .int 0), (0, .ref a0), (1, .int p1)]) hx hb (dt_of tkX2_foxIsNear_k0 1 rfl) rfl hl (by decide) rfl (fun ls hl => ?_)
  obtain ⟨n9, hw⟩ := hw
  exact kl_X2_foxIsNear_2 dC dI cyB cyI cyJ cyP a0 a0_formX a0_foxX a0_formY a0_foxY z0_seat z0_strength z0_debts z0_near z0_forms z0_hares z0_safe v0_foxes f0_formX f0_foxX f0_formY f0_foxY Q  C0 n9 _ _ _ p1 0 hP hD hS (lv_sub hl [1, 2, 0] rfl) hw
theorem ui_X2_findSafe_X2 : ∀ w ∈ u_ws RX2 TX2 12, w ∈ wsX2_findSafe := uiM mbX2_findSafe euX2 (by decide +kernel)
theorem uw_X2_findSafe_f101 : (.fieldLink RX2 101 "MarchHares$Down" "safe" "I" : Cond) ∈ wsX2_findSafe := mbX2_findSafe 1047 (by decide +kernel)
theorem uw_X2_findSafe_f36 : (.fieldLink RX2 36 "MarchHares$Down" "forms" "I" : Cond) ∈ wsX2_findSafe := mbX2_findSafe 720 (by decide +kernel)
set_option maxHeartbeats 4000000 in
set_option maxRecDepth 100000 in
theorem kb_X2_findSafe_35 {p : Program} {l : Launch} {e : Env} {s : State} {m : MethodId} {args : Array Value} {below : List Frame} {meth : Method} {c : Code} {A : Nat → Prop} (dC : Nat → ClassId) (dI : Nat → Nat → Nat) (cyB cyI cyJ cyP : ClassId) (a0 a0_formX a0_foxX a0_formY a0_foxY : Nat) (z0_seat : Value) (z0_strength : Value) (z0_debts : Value) (z0_near : Value) (z0_hares : Value) (v0_forms : Int32) (v0_foxes : Int32) (f0_formX : Nat → Int32) (f0_foxX : Nat → Int32) (f0_formY : Nat → Int32) (f0_foxY : Nat → Int32) (Q : Int32 → Prop) (K7 : Int32 → Int32 → Prop) (hK7 : ∀ (H : Heap) (locs : List Loc) (ls : Array Slot) (v0_safe : Int32) (l1 : Int32), va_P (dC, dI) vwCl (wd01_54 a0 a0_formX a0_formY a0_foxX a0_foxY z0_seat z0_strength z0_debts z0_near v0_forms z0_hares v0_foxes v0_safe a0_formX cyI f0_formX a0_foxX cyI f0_foxX a0_formY cyI f0_formY a0_foxY cyI f0_foxY) H → va_D A (wd01_54 a0 a0_formX a0_formY a0_foxX a0_foxY z0_seat z0_strength z0_debts z0_near v0_forms z0_hares v0_foxes v0_safe a0_formX cyI f0_formX a0_foxX cyI f0_foxX a0_formY cyI f0_formY a0_foxY cyI f0_foxY) → va_S A s.heap H locs → lv_has ls 2 [(0, .ref a0), (1, .int l1)] → K7 v0_safe l1 → W p l e (headSpec wsX2_findSafe ({ frames := 2, cells := 0, slots := 0, locals := 54 })).room s m args below meth c H locs 0 0 (MQ below (va_Qv (fun (u : Int32) => Q u) (cB (dC, dI) (kT cyB cyI cyJ cyP) A (fun u : Int32 => ((wd01_54 a0 a0_formX a0_formY a0_foxX a0_foxY z0_seat z0_strength z0_debts z0_near v0_forms z0_hares v0_foxes u a0_formX cyI f0_formX a0_foxX cyI f0_foxX a0_formY cyI f0_formY a0_foxY cyI f0_foxY) : va_W))) A) args s 0 0 A) (F0 m 7 ls [])) (C0 : cfx p s m args meth c cX2_findSafe none wsX2_findSafe RX2 2 A (dC, dI) (kT cyB cyI cyJ cyP)) : ∀ (H : Heap) (locs : List Loc) (ls : Array Slot) (v0_safe : Int32) (l1 : Int32), va_P (dC, dI) vwCl (wd01_54 a0 a0_formX a0_formY a0_foxX a0_foxY z0_seat z0_strength z0_debts z0_near v0_forms z0_hares v0_foxes v0_safe a0_formX cyI f0_formX a0_foxX cyI f0_foxX a0_formY cyI f0_formY a0_foxY cyI f0_foxY) H → va_D A (wd01_54 a0 a0_formX a0_formY a0_foxX a0_foxY z0_seat z0_strength z0_debts z0_near v0_forms z0_hares v0_foxes v0_safe a0_formX cyI f0_formX a0_foxX cyI f0_foxX a0_formY cyI f0_formY a0_foxY cyI f0_foxY) → va_S A s.heap H locs → lv_has ls 2 [(0, .ref a0), (1, .int l1)] → wb_X2_findSafe_35 v0_forms v0_foxes f0_formX f0_foxX f0_formY f0_foxY Q K7 v0_safe l1 → W p l e (headSpec wsX2_findSafe ({ frames := 2, cells := 0, slots := 0, locals := 54 })).room s m args below meth c H locs 0 0 (MQ below (va_Qv (fun (u : Int32) => Q u) (cB (dC, dI) (kT cyB cyI cyJ cyP) A (fun u : Int32 => ((wd01_54 a0 a0_formX a0_formY a0_foxX a0_foxY z0_seat z0_strength z0_debts z0_near v0_forms z0_hares v0_foxes u a0_formX cyI f0_formX a0_foxX cyI f0_foxX a0_formY cyI f0_formY a0_foxY cyI f0_foxY) : va_W))) A) args s 0 0 A) (F0 m 35 ls []) := by
  obtain ⟨hx, hb, hr, hts, hown, hlocks, hml, hA, hK, hNw⟩ := id C0
  intro H locs ls v0_safe l1 hP hD hS hl hw
  obtain ⟨x5, ex5⟩ : ∃ y : Int32, y = l1 + 1 := ⟨_, rfl⟩
  have hw := hw x5 ex5
  refine lv_iinc (v := x5) (lv' := [(1, .int x5), (0, .ref a0)]) hx hb (dt_of tkX2_findSafe_k28 5 rfl) hl (k := 1) rfl (by rw [ex5]; rfl) (by decide) rfl (fun ls hl => ?_)
  refine lv_goto (tgt := 7) hx hb (dt_of tkX2_findSafe_k28 6 rfl) (by decide) ?_
  exact hK7 _ _ _ v0_safe x5 hP hD hS (lv_sub hl [1, 0] rfl) hw
set_option maxHeartbeats 4000000 in
set_option maxRecDepth 100000 in
theorem kl_X2_findSafe_7 {p : Program} {l : Launch} {e : Env} {s : State} {m : MethodId} {args : Array Value} {below : List Frame} {meth : Method} {c : Code} {A : Nat → Prop} (dC : Nat → ClassId) (dI : Nat → Nat → Nat) (cyB cyI cyJ cyP : ClassId) (a0 a0_formX a0_foxX a0_formY a0_foxY : Nat) (z0_seat : Value) (z0_strength : Value) (z0_debts : Value) (z0_near : Value) (z0_hares : Value) (v0_forms : Int32) (v0_foxes : Int32) (f0_formX : Nat → Int32) (f0_foxX : Nat → Int32) (f0_formY : Nat → Int32) (f0_foxY : Nat → Int32) (Q : Int32 → Prop)  (C0 : cfx p s m args meth c cX2_findSafe none wsX2_findSafe RX2 2 A (dC, dI) (kT cyB cyI cyJ cyP)) : ∀ (n : Nat) (H : Heap) (locs : List Loc) (ls : Array Slot) (v0_safe : Int32) (l1 : Int32), va_P (dC, dI) vwCl (wd01_54 a0 a0_formX a0_formY a0_foxX a0_foxY z0_seat z0_strength z0_debts z0_near v0_forms z0_hares v0_foxes v0_safe a0_formX cyI f0_formX a0_foxX cyI f0_foxX a0_formY cyI f0_formY a0_foxY cyI f0_foxY) H → va_D A (wd01_54 a0 a0_formX a0_formY a0_foxX a0_foxY z0_seat z0_strength z0_debts z0_near v0_forms z0_hares v0_foxes v0_safe a0_formX cyI f0_formX a0_foxX cyI f0_foxX a0_formY cyI f0_formY a0_foxY cyI f0_foxY) → va_S A s.heap H locs → lv_has ls 2 [(0, .ref a0), (1, .int l1)] → wl_X2_findSafe_7 v0_forms v0_foxes f0_formX f0_foxX f0_formY f0_foxY Q  n v0_safe l1 → W p l e (headSpec wsX2_findSafe ({ frames := 2, cells := 0, slots := 0, locals := 54 })).room s m args below meth c H locs 0 0 (MQ below (va_Qv (fun (u : Int32) => Q u) (cB (dC, dI) (kT cyB cyI cyJ cyP) A (fun u : Int32 => ((wd01_54 a0 a0_formX a0_formY a0_foxX a0_foxY z0_seat z0_strength z0_debts z0_near v0_forms z0_hares v0_foxes u a0_formX cyI f0_formX a0_foxX cyI f0_foxX a0_formY cyI f0_formY a0_foxY cyI f0_foxY) : va_W))) A) args s 0 0 A) (F0 m 7 ls []) := by
  obtain ⟨hx, hb, hr, hts, hown, hlocks, hml, hA, hK, hNw⟩ := id C0
  intro n
  induction n with
  | zero => intro H locs ls v0_safe l1 hP hD hS hl hw; exact False.elim hw
  | succ n ih =>
    intro H locs ls v0_safe l1 hP hD hS hl hw
    refine lv_iload_n hx hb (dt_of tkX2_findSafe_k0 5 rfl) rfl (lv_at hl 1 rfl) ?_
    refine lv_aload_n hx hb (dt_of tkX2_findSafe_k0 6 rfl) rfl (lv_at hl 0 rfl) ?_
    refine va_get (D := (dC, dI)) (ci := 2) (v := .int v0_forms) (C := RX2) (T := TX2) (N := 12) hx hb hts ui_X2_findSafe_X2 hown hK hP 0 rfl rfl 8 (by decide) (hts _ uw_X2_findSafe_f36) (fun _ h9 => h9) rfl (dt_of tkX2_findSafe_k0 7 rfl) ?_
    refine lv_icmp_ge (tgt := 41) hx hb (dt_of tkX2_findSafe_k0 8 rfl) (by decide) (fun c1 => ?_) (fun c1 => ?_)
    · have hw := hw.1 c1
      exact ((W.vret hx hb hr (fun t ht hW => ⟨⟨(v0_safe), rfl, hw, by rw [ht]; exact hP, va_K.moved hW.alike hK, hD⟩, hS.F ht⟩) hS.2.2 (dt_of tkX2_findSafe_k28 7 rfl)))
    · have hw := hw.2 c1
      refine lv_aload_n hx hb (dt_of tkX2_findSafe_k0 9 rfl) rfl (lv_at hl 0 rfl) ?_
      refine lv_iload_n hx hb (dt_of tkX2_findSafe_k0 10 rfl) rfl (lv_at hl 1 rfl) ?_
      obtain ⟨hCc, hPc, hDc, hFc⟩ := va_pick (ws' := (wd01_54 a0 a0_formX a0_formY a0_foxX a0_foxY z0_seat z0_strength z0_debts z0_near v0_forms z0_hares v0_foxes v0_safe a0_formX cyI f0_formX a0_foxX cyI f0_foxX a0_formY cyI f0_formY a0_foxY cyI f0_foxY)) hP hD hS hA [0, 1, 2, 3, 4] (by decide +kernel) rfl
      refine va_calli (va_runV (As := [.int l1]) (rest := []) ⟨hx, hb, hml, hown, hts⟩ (ck_X2_foxIsNear l dC dI cyB cyI cyJ cyP a0 a0_formX a0_foxX a0_formY a0_foxY H.size (z0_seat) (z0_strength) (z0_debts) (z0_near) (.int v0_forms) (z0_hares) (.int v0_safe) v0_foxes f0_formX f0_foxX f0_formY f0_foxY  l1 hw) (cwV 1 hts gX2_findSafe_X2_foxIsNear rfl rfl rfl (by decide +kernel) ⟨Nat.le_of_ble_eq_true rfl, Nat.le_of_ble_eq_true rfl⟩) ⟨cPc_blind, va_recv (q := (RX2, TX2, 12)) hK hPc (ci := 2) (q0 := 0) rfl rfl, cPc_pre hPc hK hDc hNw⟩ rfl rfl hl.1 rfl (lv_room (Nat.le_of_ble_eq_true rfl)) (dt_of tkX2_findSafe_k0 11 rfl) ⟨Nat.le_of_ble_eq_true rfl, Nat.le_of_ble_eq_true rfl⟩) hS (fun q _ h => hFc q h) hFc (fun r2 u t H1 locs ht hvm hw hB hz1 hk1 hS => ?_)
      obtain ⟨hP1, hK1, hD1⟩ := hB
      rw [ht] at hP1
      obtain ⟨hP, hD⟩ := va_joinI (wr := []) (w1 := (wd01_54 a0 a0_formX a0_formY a0_foxX a0_foxY z0_seat z0_strength z0_debts z0_near v0_forms z0_hares v0_foxes v0_safe a0_formX cyI f0_formX a0_foxX cyI f0_foxX a0_formY cyI f0_formY a0_foxY cyI f0_foxY)) (wn := (wd01_54 a0 a0_formX a0_formY a0_foxX a0_foxY z0_seat z0_strength z0_debts z0_near v0_forms z0_hares v0_foxes v0_safe a0_formX cyI f0_formX a0_foxX cyI f0_foxX a0_formY cyI f0_formY a0_foxY cyI f0_foxY)) hP hD [0, 1, 2, 3, 4] [] hCc rfl (by decide +kernel) (by decide +kernel) rfl hk1 hFc hP1 hD1
      generalize H1 = H at hP hS ⊢
      refine lv_if_ne (tgt := 35) hx hb (dt_of tkX2_findSafe_k0 12 rfl) (by decide) (fun c3 => ?_) (fun c3 => ?_)
      · have hw := hw.1 c3
        exact kb_X2_findSafe_35 dC dI cyB cyI cyJ cyP a0 a0_formX a0_foxX a0_formY a0_foxY z0_seat z0_strength z0_debts z0_near z0_hares v0_forms v0_foxes f0_formX f0_foxX f0_formY f0_foxY Q (wl_X2_findSafe_7 v0_forms v0_foxes f0_formX f0_foxX f0_formY f0_foxY Q  n) ih C0 _ _ _ v0_safe l1 hP hD hS (lv_sub hl [0, 1] rfl) hw
      · have hw := hw.2 c3
        refine lv_aload_n hx hb (dt_of tkX2_findSafe_k0 13 rfl) rfl (lv_at hl 0 rfl) ?_
        refine lv_dup hx hb (dt_of tkX2_findSafe_k0 14 rfl) rfl ?_
        refine va_get (D := (dC, dI)) (ci := 2) (v := .int v0_safe) (C := RX2) (T := TX2) (N := 12) hx hb hts ui_X2_findSafe_X2 hown hK hP 0 rfl rfl 11 (by decide) (hts _ uw_X2_findSafe_f101) (fun _ h9 => h9) rfl (dt_of tkX2_findSafe_k0 15 rfl) ?_
        refine lv_iconst (v := 1) hx hb (dt_of tkX2_findSafe_k28 0 rfl) (by decide) ?_
        refine lv_iload_n hx hb (dt_of tkX2_findSafe_k28 1 rfl) rfl (lv_at hl 1 rfl) ?_
        refine lv_ishl hx hb (dt_of tkX2_findSafe_k28 2 rfl) ?_
        refine lv_ior hx hb (dt_of tkX2_findSafe_k28 3 rfl) ?_
        refine lv_topi (fun x4 ex4 => ?_)
        have hw := hw x4 ex4
        refine va_put (D := (dC, dI)) (ci := 2) (v := .int x4) (ty := .int) (C := RX2) (T := TX2) (N := 12) hx hb hts ui_X2_findSafe_X2 tyX2 tyX2_ok nmX2 hown hK hP hD hS 0 rfl rfl 11 (by decide) (hts _ uw_X2_findSafe_f101) (fun _ h9 => h9) rfl (by decide +kernel) rfl rfl (Nat.le_of_ble_eq_true rfl) (dt_of tkX2_findSafe_k28 4 rfl) (fun H locs hP hD hS => ?_)
        have hP : va_P (dC, dI) vwCl (wd01_54 a0 a0_formX a0_formY a0_foxX a0_foxY z0_seat z0_strength z0_debts z0_near v0_forms z0_hares v0_foxes x4 a0_formX cyI f0_formX a0_foxX cyI f0_foxX a0_formY cyI f0_formY a0_foxY cyI f0_foxY) H := hP
        have hD : va_D A (wd01_54 a0 a0_formX a0_formY a0_foxX a0_foxY z0_seat z0_strength z0_debts z0_near v0_forms z0_hares v0_foxes x4 a0_formX cyI f0_formX a0_foxX cyI f0_foxX a0_formY cyI f0_formY a0_foxY cyI f0_foxY) := hD
        exact kb_X2_findSafe_35 dC dI cyB cyI cyJ cyP a0 a0_formX a0_foxX a0_formY a0_foxY z0_seat z0_strength z0_debts z0_near z0_hares v0_forms v0_foxes f0_formX f0_foxX f0_formY f0_foxY Q (wl_X2_findSafe_7 v0_forms v0_foxes f0_formX f0_foxX f0_formY f0_foxY Q  n) ih C0 _ _ _ x4 l1 hP hD hS (lv_sub hl [0, 1] rfl) hw
set_option maxHeartbeats 4000000 in
set_option maxRecDepth 100000 in
theorem ck_X2_findSafe (l : Launch) (dC : Nat → ClassId) (dI : Nat → Nat → Nat) (cyB cyI cyJ cyP : ClassId) (a0 a0_formX a0_foxX a0_formY a0_foxY : Nat) (sz : Nat) (z0_seat : Value) (z0_strength : Value) (z0_debts : Value) (z0_near : Value) (z0_hares : Value) (v0_forms : Int32) (v0_foxes : Int32) (f0_formX : Nat → Int32) (f0_foxX : Nat → Int32) (f0_formY : Nat → Int32) (f0_foxY : Nat → Int32) (v0_safe : Int32)  {Q : Int32 → Prop} (hw : wq_X2_findSafe v0_forms v0_foxes f0_formX f0_foxX f0_formY f0_foxY v0_safe  Q) : Met l yX2_findSafe wsX2_findSafe ({ frames := 2, cells := 0, slots := 0, locals := 54 }) (va_Pc [.ref a0] (cPc (dC, dI) (kT cyB cyI cyJ cyP) (wd01_54 a0 a0_formX a0_formY a0_foxX a0_foxY z0_seat z0_strength z0_debts z0_near v0_forms z0_hares v0_foxes v0_safe a0_formX cyI f0_formX a0_foxX cyI f0_foxX a0_formY cyI f0_formY a0_foxY cyI f0_foxY) sz)) (va_Qv (fun (u : Int32) => Q u) (cB (dC, dI) (kT cyB cyI cyJ cyP) (va_A (wd01_54 a0 a0_formX a0_formY a0_foxX a0_foxY z0_seat z0_strength z0_debts z0_near v0_forms z0_hares v0_foxes v0_safe a0_formX cyI f0_formX a0_foxX cyI f0_foxX a0_formY cyI f0_formY a0_foxY cyI f0_foxY) sz) (fun u : Int32 => ((wd01_54 a0 a0_formX a0_formY a0_foxX a0_foxY z0_seat z0_strength z0_debts z0_near v0_forms z0_hares v0_foxes u a0_formX cyI f0_formX a0_foxX cyI f0_foxX a0_formY cyI f0_formY a0_foxY cyI f0_foxY) : va_W))) (va_A (wd01_54 a0 a0_formX a0_formY a0_foxX a0_foxY z0_seat z0_strength z0_debts z0_near v0_forms z0_hares v0_foxes v0_safe a0_formX cyI f0_formX a0_foxX cyI f0_foxX a0_formY cyI f0_formY a0_foxY cyI f0_foxY) sz)) 0 0 (va_A (wd01_54 a0 a0_formX a0_formY a0_foxX a0_foxY z0_seat z0_strength z0_debts z0_near v0_forms z0_hares v0_foxes v0_safe a0_formX cyI f0_formX a0_foxX cyI f0_foxX a0_formY cyI f0_formY a0_foxY cyI f0_foxY) sz) := by
  refine Met.ofW (cc := cX2_findSafe) (maxL := 2) (ret := none) (by decide) rfl ?_
  intro p e s m args below meth c s₁ B hml hv
  obtain ⟨rfl, hsz, hP, hK, hD0, hNw⟩ := hv
  have hx := B.exec
  have hb := B.bytes
  have hr := B.returns
  have hts := atoms_spec (ws := wsX2_findSafe) B.pre
  have hown : s.vm.findClass RX2 = some m.cls := findClass_of_methodNamed B.named
  have hlocks := B.notSynchronized
  subst hsz
  have hD := hD0.self (sz := s.heap.size)
  generalize hAe : va_A (wd01_54 a0 a0_formX a0_formY a0_foxX a0_foxY z0_seat z0_strength z0_debts z0_near v0_forms z0_hares v0_foxes v0_safe a0_formX cyI f0_formX a0_foxX cyI f0_foxX a0_formY cyI f0_formY a0_foxY cyI f0_foxY) s.heap.size = A at hD ⊢
  have hA : ∀ q : Nat, s.heap.size ≤ q → A q := fun q h => by rw [← hAe]; exact Or.inr h
  have hS : va_S A s.heap s.heap [] := va_S.rf
  have hP : va_P (dC, dI) vwCl (wd01_54 a0 a0_formX a0_formY a0_foxX a0_foxY z0_seat z0_strength z0_debts z0_near v0_forms z0_hares v0_foxes v0_safe a0_formX cyI f0_formX a0_foxX cyI f0_foxX a0_formY cyI f0_formY a0_foxY cyI f0_foxY) s.heap := hP
  have hl := lv_entry ([.ref a0]) (n := 2) (Nat.le_of_ble_eq_true rfl)
  rw [lg_entry_eq]
  generalize (lg_sl ([.ref a0]) ++ List.replicate (2 - (lg_sl ([.ref a0])).length) Slot.unset).toArray = ls at hl ⊢
  have hl : lv_has ls 2 [(0, .ref a0)] := hl
  have C0 : cfx p s m _ meth c cX2_findSafe none wsX2_findSafe RX2 2 A (dC, dI) (kT cyB cyI cyJ cyP) := ⟨hx, hb, hr, hts, hown, hlocks, hml, hA, hK, hNw⟩
  clear hAe
  obtain ⟨H, hH⟩ : ∃ H, H = s.heap := ⟨_, rfl⟩
  rw [← hH] at hP ⊢
  have hS : va_S A s.heap H [] := by rw [hH]; exact va_S.rf
  have hS := hS
  refine lv_aload_n hx hb (dt_of tkX2_findSafe_k0 0 rfl) rfl (lv_at hl 0 rfl) ?_
  refine lv_iconst (v := 0) hx hb (dt_of tkX2_findSafe_k0 1 rfl) (by decide) ?_
  refine va_put (D := (dC, dI)) (ci := 2) (v := .int 0) (ty := .int) (C := RX2) (T := TX2) (N := 12) hx hb hts ui_X2_findSafe_X2 tyX2 tyX2_ok nmX2 hown hK hP hD hS 0 rfl rfl 11 (by decide) (hts _ uw_X2_findSafe_f101) (fun _ h9 => h9) rfl (by decide +kernel) rfl rfl (Nat.le_of_ble_eq_true rfl) (dt_of tkX2_findSafe_k0 2 rfl) (fun H locs hP hD hS => ?_)
  have hP : va_P (dC, dI) vwCl (wd01_54 a0 a0_formX a0_formY a0_foxX a0_foxY z0_seat z0_strength z0_debts z0_near v0_forms z0_hares v0_foxes 0 a0_formX cyI f0_formX a0_foxX cyI f0_foxX a0_formY cyI f0_formY a0_foxY cyI f0_foxY) H := hP
  have hD : va_D A (wd01_54 a0 a0_formX a0_formY a0_foxX a0_foxY z0_seat z0_strength z0_debts z0_near v0_forms z0_hares v0_foxes 0 a0_formX cyI f0_formX a0_foxX cyI f0_foxX a0_formY cyI f0_formY a0_foxY cyI f0_foxY) := hD
  refine lv_iconst (v := 0) hx hb (dt_of tkX2_findSafe_k0 3 rfl) (by decide) ?_
  refine lv_istore_n (lv' := [(1, .int 0), (0, .ref a0)]) hx hb (dt_of tkX2_findSafe_k0 4 rfl) rfl hl (by decide) rfl (fun ls hl => ?_)
  obtain ⟨n9, hw⟩ := hw
  exact kl_X2_findSafe_7 dC dI cyB cyI cyJ cyP a0 a0_formX a0_foxX a0_formY a0_foxY z0_seat z0_strength z0_debts z0_near z0_hares v0_forms v0_foxes f0_formX f0_foxX f0_formY f0_foxY Q  C0 n9 _ _ _ 0 0 hP hD hS (lv_sub hl [1, 0] rfl) hw
theorem ui_X4_add_X4 : ∀ w ∈ u_ws RX4 TX4 5, w ∈ wsX4_add := uiM mbX4_add euX4 (by decide +kernel)
theorem uw_X4_add_f15 : (.fieldLink RX4 15 "MarchHares$Law" "values" "[I" : Cond) ∈ wsX4_add := mbX4_add 201 (by decide +kernel)
theorem uw_X4_add_f27 : (.fieldLink RX4 27 "MarchHares$Law" "length" "I" : Cond) ∈ wsX4_add := mbX4_add 208 (by decide +kernel)
theorem uw_X4_add_f9 : (.fieldLink RX4 9 "MarchHares$Law" "kinds" "[I" : Cond) ∈ wsX4_add := mbX4_add 200 (by decide +kernel)
set_option maxHeartbeats 4000000 in
set_option maxRecDepth 100000 in
theorem ck_X4_add (l : Launch) (dC : Nat → ClassId) (dI : Nat → Nat → Nat) (cyB cyI cyJ cyP : ClassId) (a0 a0_kinds a0_values : Nat) (sz : Nat) (z0_pile : Value) (z0_facts : Value)  (f0_kinds : Nat → Int32) (f0_values : Nat → Int32) (v0_length : Int32) (p1 : Int32) (p2 : Int32) {Q : (Nat → Int32) → (Nat → Int32) → Int32 → Prop} (hw : wq_X4_add  f0_kinds f0_values v0_length p1 p2 Q) : Met l yX4_add wsX4_add ({ frames := 0, cells := 0, slots := 0, locals := 0 }) (va_Pc [.ref a0, .int p1, .int p2] (cPc (dC, dI) (kT cyB cyI cyJ cyP) (wd01_55 a0 a0_kinds a0_values z0_pile z0_facts v0_length a0_kinds cyI f0_kinds a0_values cyI f0_values) sz)) (va_Qv (fun (u : (Nat → Int32) × (Nat → Int32) × Int32) => Q u.1 u.2.1 u.2.2) (cB (dC, dI) (kT cyB cyI cyJ cyP) (va_A (wd01_55 a0 a0_kinds a0_values z0_pile z0_facts v0_length a0_kinds cyI f0_kinds a0_values cyI f0_values) sz) (fun u : (Nat → Int32) × (Nat → Int32) × Int32 => ((wd01_55 a0 a0_kinds a0_values z0_pile z0_facts u.2.2 a0_kinds cyI u.1 a0_values cyI u.2.1) : va_W))) (va_A (wd01_55 a0 a0_kinds a0_values z0_pile z0_facts v0_length a0_kinds cyI f0_kinds a0_values cyI f0_values) sz)) 0 0 (va_A (wd01_55 a0 a0_kinds a0_values z0_pile z0_facts v0_length a0_kinds cyI f0_kinds a0_values cyI f0_values) sz) := by
  refine Met.ofW (cc := cX4_add) (maxL := 3) (ret := none) (by decide) rfl ?_
  intro p e s m args below meth c s₁ B hml hv
  obtain ⟨rfl, hsz, hP, hK, hD0, hNw⟩ := hv
  have hx := B.exec
  have hb := B.bytes
  have hr := B.returns
  have hts := atoms_spec (ws := wsX4_add) B.pre
  have hown : s.vm.findClass RX4 = some m.cls := findClass_of_methodNamed B.named
  have hlocks := B.notSynchronized
  subst hsz
  have hD := hD0.self (sz := s.heap.size)
  generalize hAe : va_A (wd01_55 a0 a0_kinds a0_values z0_pile z0_facts v0_length a0_kinds cyI f0_kinds a0_values cyI f0_values) s.heap.size = A at hD ⊢
  have hA : ∀ q : Nat, s.heap.size ≤ q → A q := fun q h => by rw [← hAe]; exact Or.inr h
  have hS : va_S A s.heap s.heap [] := va_S.rf
  have hP : va_P (dC, dI) vwCl (wd01_55 a0 a0_kinds a0_values z0_pile z0_facts v0_length a0_kinds cyI f0_kinds a0_values cyI f0_values) s.heap := hP
  have hl := lv_entry ([.ref a0, .int p1, .int p2]) (n := 3) (Nat.le_of_ble_eq_true rfl)
  rw [lg_entry_eq]
  generalize (lg_sl ([.ref a0, .int p1, .int p2]) ++ List.replicate (3 - (lg_sl ([.ref a0, .int p1, .int p2])).length) Slot.unset).toArray = ls at hl ⊢
  have hl : lv_has ls 3 [(0, .ref a0), (1, .int p1), (2, .int p2)] := hl
  have C0 : cfx p s m _ meth c cX4_add none wsX4_add RX4 3 A (dC, dI) (kT cyB cyI cyJ cyP) := ⟨hx, hb, hr, hts, hown, hlocks, hml, hA, hK, hNw⟩
  clear hAe
  obtain ⟨H, hH⟩ : ∃ H, H = s.heap := ⟨_, rfl⟩
  rw [← hH] at hP ⊢
  have hS : va_S A s.heap H [] := by rw [hH]; exact va_S.rf
  have hS := hS
  refine lv_aload_n hx hb (dt_of tkX4_add_k0 0 rfl) rfl (lv_at hl 0 rfl) ?_
  refine va_get (D := (dC, dI)) (ci := 4) (v := .int v0_length) (C := RX4) (T := TX4) (N := 5) hx hb hts ui_X4_add_X4 hown hK hP 0 rfl rfl 4 (by decide) (hts _ uw_X4_add_f27) (fun _ h9 => h9) rfl (dt_of tkX4_add_k0 1 rfl) ?_
  refine lv_sipush (v := 150) hx hb (dt_of tkX4_add_k0 2 rfl) (by decide) ?_
  refine lv_icmp_ge (tgt := 40) hx hb (dt_of tkX4_add_k0 3 rfl) (by decide) (fun c1 => ?_) (fun c1 => ?_)
  · have hw := hw.1 c1
    exact ((W.vret hx hb hr (fun t ht hW => ⟨⟨(f0_kinds, f0_values, v0_length), rfl, hw, by rw [ht]; exact hP, va_K.moved hW.alike hK, hD⟩, hS.F ht⟩) hS.2.2 (dt_of tkX4_add_k30 6 rfl)))
  · have hw := hw.2 c1
    refine lv_aload_n hx hb (dt_of tkX4_add_k0 4 rfl) rfl (lv_at hl 0 rfl) ?_
    refine va_get (D := (dC, dI)) (ci := 4) (v := .ref a0_kinds) (C := RX4) (T := TX4) (N := 5) hx hb hts ui_X4_add_X4 hown hK hP 0 rfl rfl 0 (by decide) (hts _ uw_X4_add_f9) (fun _ h9 => h9) rfl (dt_of tkX4_add_k0 5 rfl) ?_
    refine lv_aload_n hx hb (dt_of tkX4_add_k0 6 rfl) rfl (lv_at hl 0 rfl) ?_
    refine va_get (D := (dC, dI)) (ci := 4) (v := .int v0_length) (C := RX4) (T := TX4) (N := 5) hx hb hts ui_X4_add_X4 hown hK hP 0 rfl rfl 4 (by decide) (hts _ uw_X4_add_f27) (fun _ h9 => h9) rfl (dt_of tkX4_add_k0 7 rfl) ?_
    refine lv_iload_n hx hb (dt_of tkX4_add_k0 8 rfl) rfl (lv_at hl 1 rfl) ?_
    obtain ⟨hi9, hw⟩ := hw
    refine va_iast hx hb hK hP hD hS 1 1 rfl rfl hi9 (dt_of tkX4_add_k0 9 rfl) (fun H locs hP hD hS => ?_)
    obtain ⟨f2, ef2⟩ : ∃ y : Nat → Int32, y = upd f0_kinds v0_length.toNatClampNeg p1 := ⟨_, rfl⟩
    have hw := hw f2 ef2
    have hP : va_P (dC, dI) vwCl (wd01_55 a0 a0_kinds a0_values z0_pile z0_facts v0_length a0_kinds cyI f2 a0_values cyI f0_values) H := by rw [ef2]; exact hP
    have hD : va_D A (wd01_55 a0 a0_kinds a0_values z0_pile z0_facts v0_length a0_kinds cyI f2 a0_values cyI f0_values) := by rw [ef2]; exact hD
    refine lv_aload_n hx hb (dt_of tkX4_add_k0 10 rfl) rfl (lv_at hl 0 rfl) ?_
    refine va_get (D := (dC, dI)) (ci := 4) (v := .ref a0_values) (C := RX4) (T := TX4) (N := 5) hx hb hts ui_X4_add_X4 hown hK hP 0 rfl rfl 1 (by decide) (hts _ uw_X4_add_f15) (fun _ h9 => h9) rfl (dt_of tkX4_add_k0 11 rfl) ?_
    refine lv_aload_n hx hb (dt_of tkX4_add_k0 12 rfl) rfl (lv_at hl 0 rfl) ?_
    refine va_get (D := (dC, dI)) (ci := 4) (v := .int v0_length) (C := RX4) (T := TX4) (N := 5) hx hb hts ui_X4_add_X4 hown hK hP 0 rfl rfl 4 (by decide) (hts _ uw_X4_add_f27) (fun _ h9 => h9) rfl (dt_of tkX4_add_k0 13 rfl) ?_
    refine lv_iload_n hx hb (dt_of tkX4_add_k0 14 rfl) rfl (lv_at hl 2 rfl) ?_
    obtain ⟨hi9, hw⟩ := hw
    refine va_iast hx hb hK hP hD hS 2 1 rfl rfl hi9 (dt_of tkX4_add_k0 15 rfl) (fun H locs hP hD hS => ?_)
    obtain ⟨f3, ef3⟩ : ∃ y : Nat → Int32, y = upd f0_values v0_length.toNatClampNeg p2 := ⟨_, rfl⟩
    have hw := hw f3 ef3
    have hP : va_P (dC, dI) vwCl (wd01_55 a0 a0_kinds a0_values z0_pile z0_facts v0_length a0_kinds cyI f2 a0_values cyI f3) H := by rw [ef3]; exact hP
    have hD : va_D A (wd01_55 a0 a0_kinds a0_values z0_pile z0_facts v0_length a0_kinds cyI f2 a0_values cyI f3) := by rw [ef3]; exact hD
    refine lv_aload_n hx hb (dt_of tkX4_add_k30 0 rfl) rfl (lv_at hl 0 rfl) ?_
    refine lv_dup hx hb (dt_of tkX4_add_k30 1 rfl) rfl ?_
    refine va_get (D := (dC, dI)) (ci := 4) (v := .int v0_length) (C := RX4) (T := TX4) (N := 5) hx hb hts ui_X4_add_X4 hown hK hP 0 rfl rfl 4 (by decide) (hts _ uw_X4_add_f27) (fun _ h9 => h9) rfl (dt_of tkX4_add_k30 2 rfl) ?_
    refine lv_iconst (v := 1) hx hb (dt_of tkX4_add_k30 3 rfl) (by decide) ?_
    refine lv_iadd hx hb (dt_of tkX4_add_k30 4 rfl) ?_
    refine lv_topi (fun x4 ex4 => ?_)
    have hw := hw x4 ex4
    refine va_put (D := (dC, dI)) (ci := 4) (v := .int x4) (ty := .int) (C := RX4) (T := TX4) (N := 5) hx hb hts ui_X4_add_X4 tyX4 tyX4_ok nmX4 hown hK hP hD hS 0 rfl rfl 4 (by decide) (hts _ uw_X4_add_f27) (fun _ h9 => h9) rfl (by decide +kernel) rfl rfl (Nat.le_of_ble_eq_true rfl) (dt_of tkX4_add_k30 5 rfl) (fun H locs hP hD hS => ?_)
    have hP : va_P (dC, dI) vwCl (wd01_55 a0 a0_kinds a0_values z0_pile z0_facts x4 a0_kinds cyI f2 a0_values cyI f3) H := hP
    have hD : va_D A (wd01_55 a0 a0_kinds a0_values z0_pile z0_facts x4 a0_kinds cyI f2 a0_values cyI f3) := hD
    exact ((W.vret hx hb hr (fun t ht hW => ⟨⟨(f2, f3, x4), rfl, hw, by rw [ht]; exact hP, va_K.moved hW.alike hK, hD⟩, hS.F ht⟩) hS.2.2 (dt_of tkX4_add_k30 6 rfl)))
theorem ui_X4_setPlain_X4 : ∀ w ∈ u_ws RX4 TX4 5, w ∈ wsX4_setPlain := uiM mbX4_setPlain euX4 (by decide +kernel)
theorem uw_X4_setPlain_f27 : (.fieldLink RX4 27 "MarchHares$Law" "length" "I" : Cond) ∈ wsX4_setPlain := mbX4_setPlain 208 (by decide +kernel)
set_option maxHeartbeats 4000000 in
set_option maxRecDepth 100000 in
theorem ck_X4_setPlain (l : Launch) (dC : Nat → ClassId) (dI : Nat → Nat → Nat) (cyB cyI cyJ cyP : ClassId) (a0 a0_kinds a0_values : Nat) (sz : Nat) (z0_pile : Value) (z0_facts : Value)  (v0_length : Int32) (f0_kinds : Nat → Int32) (f0_values : Nat → Int32)  {Q : Int32 → (Nat → Int32) → (Nat → Int32) → Prop} (hw : wq_X4_setPlain  v0_length f0_kinds f0_values  Q) : Met l yX4_setPlain wsX4_setPlain ({ frames := 1, cells := 0, slots := 0, locals := 22 }) (va_Pc [.ref a0] (cPc (dC, dI) (kT cyB cyI cyJ cyP) (wd01_55 a0 a0_kinds a0_values z0_pile z0_facts v0_length a0_kinds cyI f0_kinds a0_values cyI f0_values) sz)) (va_Qv (fun (u : Int32 × (Nat → Int32) × (Nat → Int32)) => Q u.1 u.2.1 u.2.2) (cB (dC, dI) (kT cyB cyI cyJ cyP) (va_A (wd01_55 a0 a0_kinds a0_values z0_pile z0_facts v0_length a0_kinds cyI f0_kinds a0_values cyI f0_values) sz) (fun u : Int32 × (Nat → Int32) × (Nat → Int32) => ((wd01_55 a0 a0_kinds a0_values z0_pile z0_facts u.1 a0_kinds cyI u.2.1 a0_values cyI u.2.2) : va_W))) (va_A (wd01_55 a0 a0_kinds a0_values z0_pile z0_facts v0_length a0_kinds cyI f0_kinds a0_values cyI f0_values) sz)) 0 0 (va_A (wd01_55 a0 a0_kinds a0_values z0_pile z0_facts v0_length a0_kinds cyI f0_kinds a0_values cyI f0_values) sz) := by
  refine Met.ofW (cc := cX4_setPlain) (maxL := 1) (ret := none) (by decide) rfl ?_
  intro p e s m args below meth c s₁ B hml hv
  obtain ⟨rfl, hsz, hP, hK, hD0, hNw⟩ := hv
  have hx := B.exec
  have hb := B.bytes
  have hr := B.returns
  have hts := atoms_spec (ws := wsX4_setPlain) B.pre
  have hown : s.vm.findClass RX4 = some m.cls := findClass_of_methodNamed B.named
  have hlocks := B.notSynchronized
  subst hsz
  have hD := hD0.self (sz := s.heap.size)
  generalize hAe : va_A (wd01_55 a0 a0_kinds a0_values z0_pile z0_facts v0_length a0_kinds cyI f0_kinds a0_values cyI f0_values) s.heap.size = A at hD ⊢
  have hA : ∀ q : Nat, s.heap.size ≤ q → A q := fun q h => by rw [← hAe]; exact Or.inr h
  have hS : va_S A s.heap s.heap [] := va_S.rf
  have hP : va_P (dC, dI) vwCl (wd01_55 a0 a0_kinds a0_values z0_pile z0_facts v0_length a0_kinds cyI f0_kinds a0_values cyI f0_values) s.heap := hP
  have hl := lv_entry ([.ref a0]) (n := 1) (Nat.le_of_ble_eq_true rfl)
  rw [lg_entry_eq]
  generalize (lg_sl ([.ref a0]) ++ List.replicate (1 - (lg_sl ([.ref a0])).length) Slot.unset).toArray = ls at hl ⊢
  have hl : lv_has ls 1 [(0, .ref a0)] := hl
  have C0 : cfx p s m _ meth c cX4_setPlain none wsX4_setPlain RX4 1 A (dC, dI) (kT cyB cyI cyJ cyP) := ⟨hx, hb, hr, hts, hown, hlocks, hml, hA, hK, hNw⟩
  clear hAe
  obtain ⟨H, hH⟩ : ∃ H, H = s.heap := ⟨_, rfl⟩
  rw [← hH] at hP ⊢
  have hS : va_S A s.heap H [] := by rw [hH]; exact va_S.rf
  have hS := hS
  refine lv_aload_n hx hb (dt_of tkX4_setPlain_k0 0 rfl) rfl (lv_at hl 0 rfl) ?_
  refine lv_iconst (v := 0) hx hb (dt_of tkX4_setPlain_k0 1 rfl) (by decide) ?_
  refine va_put (D := (dC, dI)) (ci := 4) (v := .int 0) (ty := .int) (C := RX4) (T := TX4) (N := 5) hx hb hts ui_X4_setPlain_X4 tyX4 tyX4_ok nmX4 hown hK hP hD hS 0 rfl rfl 4 (by decide) (hts _ uw_X4_setPlain_f27) (fun _ h9 => h9) rfl (by decide +kernel) rfl rfl (Nat.le_of_ble_eq_true rfl) (dt_of tkX4_setPlain_k0 2 rfl) (fun H locs hP hD hS => ?_)
  have hP : va_P (dC, dI) vwCl (wd01_55 a0 a0_kinds a0_values z0_pile z0_facts 0 a0_kinds cyI f0_kinds a0_values cyI f0_values) H := hP
  have hD : va_D A (wd01_55 a0 a0_kinds a0_values z0_pile z0_facts 0 a0_kinds cyI f0_kinds a0_values cyI f0_values) := hD
  refine lv_aload_n hx hb (dt_of tkX4_setPlain_k0 3 rfl) rfl (lv_at hl 0 rfl) ?_
  refine lv_iconst (v := 0) hx hb (dt_of tkX4_setPlain_k0 4 rfl) (by decide) ?_
  refine lv_iconst (v := 4) hx hb (dt_of tkX4_setPlain_k0 5 rfl) (by decide) ?_
  obtain ⟨hCc, hPc, hDc, hFc⟩ := va_pick (ws' := (wd01_55 a0 a0_kinds a0_values z0_pile z0_facts 0 a0_kinds cyI f0_kinds a0_values cyI f0_values)) hP hD hS hA [0, 1, 2] (by decide +kernel) rfl
  refine va_callv (va_runV (As := [.int 0, .int 4]) (rest := []) ⟨hx, hb, hml, hown, hts⟩ (ck_X4_add l dC dI cyB cyI cyJ cyP a0 a0_kinds a0_values H.size (z0_pile) (z0_facts)  f0_kinds f0_values 0 0 4 hw) (cwV 2 hts gX4_setPlain_X4_add rfl rfl rfl (by decide +kernel) ⟨Nat.le_of_ble_eq_true rfl, Nat.le_of_ble_eq_true rfl⟩) ⟨cPc_blind, va_recv (q := (RX4, TX4, 5)) hK hPc (ci := 4) (q0 := 0) rfl rfl, cPc_pre hPc hK hDc hNw⟩ rfl rfl hl.1 rfl (lv_room (Nat.le_of_ble_eq_true rfl)) (dt_of tkX4_setPlain_k0 6 rfl) ⟨Nat.le_of_ble_eq_true rfl, Nat.le_of_ble_eq_true rfl⟩) hS (fun q _ h => hFc q h) hFc (fun u t H1 locs ht hvm hw hB hz1 hk1 hS => ?_)
  obtain ⟨f1, f2, x3⟩ := u
  obtain ⟨hP1, hK1, hD1⟩ := hB
  rw [ht] at hP1
  obtain ⟨hP, hD⟩ := va_joinI (wr := []) (w1 := (wd01_55 a0 a0_kinds a0_values z0_pile z0_facts x3 a0_kinds cyI f1 a0_values cyI f2)) (wn := (wd01_55 a0 a0_kinds a0_values z0_pile z0_facts x3 a0_kinds cyI f1 a0_values cyI f2)) hP hD [0, 1, 2] [] hCc rfl (by decide +kernel) (by decide +kernel) rfl hk1 hFc hP1 hD1
  generalize H1 = H at hP hS ⊢
  refine lv_aload_n hx hb (dt_of tkX4_setPlain_k0 7 rfl) rfl (lv_at hl 0 rfl) ?_
  refine lv_iconst (v := 1) hx hb (dt_of tkX4_setPlain_k0 8 rfl) (by decide) ?_
  refine lv_iconst (v := 0) hx hb (dt_of tkX4_setPlain_k0 9 rfl) (by decide) ?_
  obtain ⟨hCc, hPc, hDc, hFc⟩ := va_pick (ws' := (wd01_55 a0 a0_kinds a0_values z0_pile z0_facts x3 a0_kinds cyI f1 a0_values cyI f2)) hP hD hS hA [0, 1, 2] (by decide +kernel) rfl
  refine va_callv (va_runV (As := [.int 1, .int 0]) (rest := []) ⟨hx, hb, hml, hown, hts⟩ (ck_X4_add l dC dI cyB cyI cyJ cyP a0 a0_kinds a0_values H.size (z0_pile) (z0_facts)  f1 f2 x3 1 0 hw) (cwV 2 hts gX4_setPlain_X4_add rfl rfl rfl (by decide +kernel) ⟨Nat.le_of_ble_eq_true rfl, Nat.le_of_ble_eq_true rfl⟩) ⟨cPc_blind, va_recv (q := (RX4, TX4, 5)) hK hPc (ci := 4) (q0 := 0) rfl rfl, cPc_pre hPc hK hDc hNw⟩ rfl rfl hl.1 rfl (lv_room (Nat.le_of_ble_eq_true rfl)) (dt_of tkX4_setPlain_k0 10 rfl) ⟨Nat.le_of_ble_eq_true rfl, Nat.le_of_ble_eq_true rfl⟩) hS (fun q _ h => hFc q h) hFc (fun u t H1 locs ht hvm hw hB hz1 hk1 hS => ?_)
  obtain ⟨f4, f5, x6⟩ := u
  obtain ⟨hP1, hK1, hD1⟩ := hB
  rw [ht] at hP1
  obtain ⟨hP, hD⟩ := va_joinI (wr := []) (w1 := (wd01_55 a0 a0_kinds a0_values z0_pile z0_facts x6 a0_kinds cyI f4 a0_values cyI f5)) (wn := (wd01_55 a0 a0_kinds a0_values z0_pile z0_facts x6 a0_kinds cyI f4 a0_values cyI f5)) hP hD [0, 1, 2] [] hCc rfl (by decide +kernel) (by decide +kernel) rfl hk1 hFc hP1 hD1
  generalize H1 = H at hP hS ⊢
  refine lv_aload_n hx hb (dt_of tkX4_setPlain_k0 11 rfl) rfl (lv_at hl 0 rfl) ?_
  refine lv_iconst (v := 2) hx hb (dt_of tkX4_setPlain_k0 12 rfl) (by decide) ?_
  refine lv_iconst (v := 0) hx hb (dt_of tkX4_setPlain_k0 13 rfl) (by decide) ?_
  obtain ⟨hCc, hPc, hDc, hFc⟩ := va_pick (ws' := (wd01_55 a0 a0_kinds a0_values z0_pile z0_facts x6 a0_kinds cyI f4 a0_values cyI f5)) hP hD hS hA [0, 1, 2] (by decide +kernel) rfl
  refine va_callv (va_runV (As := [.int 2, .int 0]) (rest := []) ⟨hx, hb, hml, hown, hts⟩ (ck_X4_add l dC dI cyB cyI cyJ cyP a0 a0_kinds a0_values H.size (z0_pile) (z0_facts)  f4 f5 x6 2 0 hw) (cwV 2 hts gX4_setPlain_X4_add rfl rfl rfl (by decide +kernel) ⟨Nat.le_of_ble_eq_true rfl, Nat.le_of_ble_eq_true rfl⟩) ⟨cPc_blind, va_recv (q := (RX4, TX4, 5)) hK hPc (ci := 4) (q0 := 0) rfl rfl, cPc_pre hPc hK hDc hNw⟩ rfl rfl hl.1 rfl (lv_room (Nat.le_of_ble_eq_true rfl)) (dt_of tkX4_setPlain_k0 14 rfl) ⟨Nat.le_of_ble_eq_true rfl, Nat.le_of_ble_eq_true rfl⟩) hS (fun q _ h => hFc q h) hFc (fun u t H1 locs ht hvm hw hB hz1 hk1 hS => ?_)
  obtain ⟨f7, f8, x9⟩ := u
  obtain ⟨hP1, hK1, hD1⟩ := hB
  rw [ht] at hP1
  obtain ⟨hP, hD⟩ := va_joinI (wr := []) (w1 := (wd01_55 a0 a0_kinds a0_values z0_pile z0_facts x9 a0_kinds cyI f7 a0_values cyI f8)) (wn := (wd01_55 a0 a0_kinds a0_values z0_pile z0_facts x9 a0_kinds cyI f7 a0_values cyI f8)) hP hD [0, 1, 2] [] hCc rfl (by decide +kernel) (by decide +kernel) rfl hk1 hFc hP1 hD1
  generalize H1 = H at hP hS ⊢
  refine lv_aload_n hx hb (dt_of tkX4_setPlain_k0 15 rfl) rfl (lv_at hl 0 rfl) ?_
  refine lv_iconst (v := 1) hx hb (dt_of tkX4_setPlain_k24 0 rfl) (by decide) ?_
  refine lv_iconst (v := 1) hx hb (dt_of tkX4_setPlain_k24 1 rfl) (by decide) ?_
  obtain ⟨hCc, hPc, hDc, hFc⟩ := va_pick (ws' := (wd01_55 a0 a0_kinds a0_values z0_pile z0_facts x9 a0_kinds cyI f7 a0_values cyI f8)) hP hD hS hA [0, 1, 2] (by decide +kernel) rfl
  refine va_callv (va_runV (As := [.int 1, .int 1]) (rest := []) ⟨hx, hb, hml, hown, hts⟩ (ck_X4_add l dC dI cyB cyI cyJ cyP a0 a0_kinds a0_values H.size (z0_pile) (z0_facts)  f7 f8 x9 1 1 hw) (cwV 2 hts gX4_setPlain_X4_add rfl rfl rfl (by decide +kernel) ⟨Nat.le_of_ble_eq_true rfl, Nat.le_of_ble_eq_true rfl⟩) ⟨cPc_blind, va_recv (q := (RX4, TX4, 5)) hK hPc (ci := 4) (q0 := 0) rfl rfl, cPc_pre hPc hK hDc hNw⟩ rfl rfl hl.1 rfl (lv_room (Nat.le_of_ble_eq_true rfl)) (dt_of tkX4_setPlain_k24 2 rfl) ⟨Nat.le_of_ble_eq_true rfl, Nat.le_of_ble_eq_true rfl⟩) hS (fun q _ h => hFc q h) hFc (fun u t H1 locs ht hvm hw hB hz1 hk1 hS => ?_)
  obtain ⟨f10, f11, x12⟩ := u
  obtain ⟨hP1, hK1, hD1⟩ := hB
  rw [ht] at hP1
  obtain ⟨hP, hD⟩ := va_joinI (wr := []) (w1 := (wd01_55 a0 a0_kinds a0_values z0_pile z0_facts x12 a0_kinds cyI f10 a0_values cyI f11)) (wn := (wd01_55 a0 a0_kinds a0_values z0_pile z0_facts x12 a0_kinds cyI f10 a0_values cyI f11)) hP hD [0, 1, 2] [] hCc rfl (by decide +kernel) (by decide +kernel) rfl hk1 hFc hP1 hD1
  generalize H1 = H at hP hS ⊢
  refine lv_aload_n hx hb (dt_of tkX4_setPlain_k24 3 rfl) rfl (lv_at hl 0 rfl) ?_
  refine lv_iconst (v := 3) hx hb (dt_of tkX4_setPlain_k24 4 rfl) (by decide) ?_
  refine lv_iconst (v := 0) hx hb (dt_of tkX4_setPlain_k24 5 rfl) (by decide) ?_
  obtain ⟨hCc, hPc, hDc, hFc⟩ := va_pick (ws' := (wd01_55 a0 a0_kinds a0_values z0_pile z0_facts x12 a0_kinds cyI f10 a0_values cyI f11)) hP hD hS hA [0, 1, 2] (by decide +kernel) rfl
  refine va_callv (va_runV (As := [.int 3, .int 0]) (rest := []) ⟨hx, hb, hml, hown, hts⟩ (ck_X4_add l dC dI cyB cyI cyJ cyP a0 a0_kinds a0_values H.size (z0_pile) (z0_facts)  f10 f11 x12 3 0 hw) (cwV 2 hts gX4_setPlain_X4_add rfl rfl rfl (by decide +kernel) ⟨Nat.le_of_ble_eq_true rfl, Nat.le_of_ble_eq_true rfl⟩) ⟨cPc_blind, va_recv (q := (RX4, TX4, 5)) hK hPc (ci := 4) (q0 := 0) rfl rfl, cPc_pre hPc hK hDc hNw⟩ rfl rfl hl.1 rfl (lv_room (Nat.le_of_ble_eq_true rfl)) (dt_of tkX4_setPlain_k24 6 rfl) ⟨Nat.le_of_ble_eq_true rfl, Nat.le_of_ble_eq_true rfl⟩) hS (fun q _ h => hFc q h) hFc (fun u t H1 locs ht hvm hw hB hz1 hk1 hS => ?_)
  obtain ⟨f13, f14, x15⟩ := u
  obtain ⟨hP1, hK1, hD1⟩ := hB
  rw [ht] at hP1
  obtain ⟨hP, hD⟩ := va_joinI (wr := []) (w1 := (wd01_55 a0 a0_kinds a0_values z0_pile z0_facts x15 a0_kinds cyI f13 a0_values cyI f14)) (wn := (wd01_55 a0 a0_kinds a0_values z0_pile z0_facts x15 a0_kinds cyI f13 a0_values cyI f14)) hP hD [0, 1, 2] [] hCc rfl (by decide +kernel) (by decide +kernel) rfl hk1 hFc hP1 hD1
  generalize H1 = H at hP hS ⊢
  exact ((W.vret hx hb hr (fun t ht hW => ⟨⟨(x15, f13, f14), rfl, hw, by rw [ht]; exact hP, va_K.moved hW.alike hK, hD⟩, hS.F ht⟩) hS.2.2 (dt_of tkX4_setPlain_k24 7 rfl)))
theorem ui_X1_begin_X1 : ∀ w ∈ u_ws RX1 TX1 4, w ∈ wsX1_begin := uiM mbX1_begin euX1 (by decide +kernel)
theorem ui_X1_begin_X2 : ∀ w ∈ u_ws RX2 TX2 12, w ∈ wsX1_begin := uiM mbX1_begin euX2 (by decide +kernel)
theorem uw_X1_begin_aci : (.initialized "java/lang/System" : Cond) ∈ wsX1_begin := mbX1_begin 331 (by decide +kernel)
theorem uw_X1_begin_acn : (.native arraycopyName : Cond) ∈ wsX1_begin := mbX1_begin 329 (by decide +kernel)
theorem uw_X1_begin_acs : (.static arraycopyName : Cond) ∈ wsX1_begin := mbX1_begin 330 (by decide +kernel)
theorem uw_X1_begin_f13 : (.fieldLink RX1 13 "MarchHares$Days" "row" "[I" : Cond) ∈ wsX1_begin := mbX1_begin 276 (by decide +kernel)
theorem uw_X1_begin_f24 : (.fieldLink RX1 24 "MarchHares$Days" "down" "LMarchHares$Down;" : Cond) ∈ wsX1_begin := mbX1_begin 322 (by decide +kernel)
theorem uw_X1_begin_f28 : (.fieldLink RX1 28 "MarchHares$Days" "law" "LMarchHares$Law;" : Cond) ∈ wsX1_begin := mbX1_begin 323 (by decide +kernel)
theorem uw_X1_begin_f32 : (.fieldLink RX1 32 "MarchHares$Down" "hares" "I" : Cond) ∈ wsX1_begin := mbX1_begin 324 (by decide +kernel)
theorem uw_X1_begin_f36 : (.fieldLink RX1 36 "MarchHares$Down" "seat" "[I" : Cond) ∈ wsX1_begin := mbX1_begin 325 (by decide +kernel)
theorem uw_X1_begin_f39 : (.fieldLink RX1 39 "MarchHares$Down" "strength" "[I" : Cond) ∈ wsX1_begin := mbX1_begin 326 (by decide +kernel)
theorem uw_X1_begin_f42 : (.fieldLink RX1 42 "MarchHares$Down" "debts" "[I" : Cond) ∈ wsX1_begin := mbX1_begin 327 (by decide +kernel)
theorem uw_X1_begin_m45 : (.methodLink RX1 45 arraycopyName : Cond) ∈ wsX1_begin := mbX1_begin 328 (by decide +kernel)
set_option maxHeartbeats 4000000 in
set_option maxRecDepth 100000 in
theorem kl_X1_begin_40 {p : Program} {l : Launch} {e : Env} {s : State} {m : MethodId} {args : Array Value} {below : List Frame} {meth : Method} {c : Code} {A : Nat → Prop} (dC : Nat → ClassId) (dI : Nat → Nat → Nat) (cyB cyI cyJ cyP : ClassId) (a0 a1 a2 a0_row a1_debts a1_seat a1_strength : Nat) (z0_owedEach : Value) (r0_down : Value) (r0_law : Value) (z1_formX : Value) (z1_formY : Value) (z1_foxX : Value) (z1_foxY : Value) (z1_near : Value) (z1_forms : Value) (z1_foxes : Value) (z1_safe : Value) (v1_hares : Int32) (f1_debts : Nat → Int32) (f1_seat : Nat → Int32) (f1_strength : Nat → Int32) (Q : (Nat → Int32) → Prop)  (C0 : cfx p s m args meth c cX1_begin none wsX1_begin RX1 4 A (dC, dI) (kT cyB cyI cyJ cyP)) : ∀ (n : Nat) (H : Heap) (locs : List Loc) (ls : Array Slot) (f0_row : Nat → Int32) (l3 : Int32), va_P (dC, dI) vwCl (wd01_56 a0 a0_row z0_owedEach a1 a2 a0_row cyI f0_row a1 z1_formX z1_formY z1_foxX z1_foxY a1_seat a1_strength a1_debts z1_near z1_forms v1_hares z1_foxes z1_safe a1_debts cyI f1_debts a1_seat cyI f1_seat a1_strength cyI f1_strength) H → va_D A (wd01_56 a0 a0_row z0_owedEach a1 a2 a0_row cyI f0_row a1 z1_formX z1_formY z1_foxX z1_foxY a1_seat a1_strength a1_debts z1_near z1_forms v1_hares z1_foxes z1_safe a1_debts cyI f1_debts a1_seat cyI f1_seat a1_strength cyI f1_strength) → va_S A s.heap H locs → lv_has ls 4 [(0, .ref a0), (1, .ref a1), (3, .int l3)] → wl_X1_begin_40 v1_hares f1_debts f1_seat f1_strength Q  n f0_row l3 → W p l e (headSpec wsX1_begin ({ frames := 1, cells := 0, slots := 0, locals := 40 })).room s m args below meth c H locs 0 0 (MQ below (va_Qv (fun (u : (Nat → Int32)) => Q u) (cB (dC, dI) (kT cyB cyI cyJ cyP) A (fun u : (Nat → Int32) => ((wd01_56 a0 a0_row z0_owedEach a1 a2 a0_row cyI u a1 z1_formX z1_formY z1_foxX z1_foxY a1_seat a1_strength a1_debts z1_near z1_forms v1_hares z1_foxes z1_safe a1_debts cyI f1_debts a1_seat cyI f1_seat a1_strength cyI f1_strength) : va_W))) A) args s 0 0 A) (F0 m 40 ls []) := by
  obtain ⟨hx, hb, hr, hts, hown, hlocks, hml, hA, hK, hNw⟩ := id C0
  intro n
  induction n with
  | zero => intro H locs ls f0_row l3 hP hD hS hl hw; exact False.elim hw
  | succ n ih =>
    intro H locs ls f0_row l3 hP hD hS hl hw
    refine lv_iload_n hx hb (dt_of tkX1_begin_k25 9 rfl) rfl (lv_at hl 2 rfl) ?_
    refine lv_aload_n hx hb (dt_of tkX1_begin_k25 10 rfl) rfl (lv_at hl 1 rfl) ?_
    refine va_get (D := (dC, dI)) (ci := 2) (v := .int v1_hares) (C := RX2) (T := TX2) (N := 12) hx hb hts ui_X1_begin_X2 hown hK hP 2 rfl rfl 9 (by decide) (hts _ uw_X1_begin_f32) (fun _ h9 => h9) rfl (dt_of tkX1_begin_k25 11 rfl) ?_
    refine lv_icmp_ge (tgt := 83) hx hb (dt_of tkX1_begin_k25 12 rfl) (by decide) (fun c5 => ?_) (fun c5 => ?_)
    · have hw := hw.1 c5
      refine lv_aload_n hx hb (dt_of tkX1_begin_k76 3 rfl) rfl (lv_at hl 1 rfl) ?_
      refine va_get (D := (dC, dI)) (ci := 2) (v := .ref a1_debts) (C := RX2) (T := TX2) (N := 12) hx hb hts ui_X1_begin_X2 hown hK hP 2 rfl rfl 6 (by decide) (hts _ uw_X1_begin_f42) (fun _ h9 => h9) rfl (dt_of tkX1_begin_k76 4 rfl) ?_
      refine lv_iconst (v := 0) hx hb (dt_of tkX1_begin_k76 5 rfl) (by decide) ?_
      refine lv_aload_n hx hb (dt_of tkX1_begin_k76 6 rfl) rfl (lv_at hl 0 rfl) ?_
      refine va_get (D := (dC, dI)) (ci := 1) (v := .ref a0_row) (C := RX1) (T := TX1) (N := 4) hx hb hts ui_X1_begin_X1 hown hK hP 0 rfl rfl 0 (by decide) (hts _ uw_X1_begin_f13) (fun _ h9 => h9) rfl (dt_of tkX1_begin_k76 7 rfl) ?_
      refine lv_bipush (v := 28) hx hb (dt_of tkX1_begin_k76 8 rfl) (by decide) ?_
      refine lv_bipush (v := 36) hx hb (dt_of tkX1_begin_k76 9 rfl) (by decide) ?_
      refine va_copyi hx hb (by rw [hml]; exact hl.1.symm) hown (hts _ uw_X1_begin_m45) (hts _ uw_X1_begin_acn) (hts _ uw_X1_begin_acs) (hts _ uw_X1_begin_aci) hK hP hD hS 3 1 1 1 rfl rfl rfl rfl rfl (by decide) (by decide) (by decide) (by decide) (by decide) (fun _ _ => rfl) (Nat.le_of_ble_eq_true rfl) (Nat.le_of_ble_eq_true rfl) (dt_of tkX1_begin_k76 10 rfl) (fun H locs hP hD hS => ?_)
      obtain ⟨f6, ef6⟩ : ∃ y : Nat → Int32, y = va_cpy f1_debts f0_row (0 : Int32).toNatClampNeg (28 : Int32).toNatClampNeg (36 : Int32).toNatClampNeg := ⟨_, rfl⟩
      have hw := hw f6 ef6
      have hP : va_P (dC, dI) vwCl (wd01_56 a0 a0_row z0_owedEach a1 a2 a0_row cyI f6 a1 z1_formX z1_formY z1_foxX z1_foxY a1_seat a1_strength a1_debts z1_near z1_forms v1_hares z1_foxes z1_safe a1_debts cyI f1_debts a1_seat cyI f1_seat a1_strength cyI f1_strength) H := by rw [ef6]; exact hP
      have hD : va_D A (wd01_56 a0 a0_row z0_owedEach a1 a2 a0_row cyI f6 a1 z1_formX z1_formY z1_foxX z1_foxY a1_seat a1_strength a1_debts z1_near z1_forms v1_hares z1_foxes z1_safe a1_debts cyI f1_debts a1_seat cyI f1_seat a1_strength cyI f1_strength) := by rw [ef6]; exact hD
      exact ((W.vret hx hb hr (fun t ht hW => ⟨⟨(f6), rfl, hw, by rw [ht]; exact hP, va_K.moved hW.alike hK, hD⟩, hS.F ht⟩) hS.2.2 (dt_of tkX1_begin_k76 11 rfl)))
    · have hw := hw.2 c5
      refine lv_aload_n hx hb (dt_of tkX1_begin_k25 13 rfl) rfl (lv_at hl 0 rfl) ?_
      refine va_get (D := (dC, dI)) (ci := 1) (v := .ref a0_row) (C := RX1) (T := TX1) (N := 4) hx hb hts ui_X1_begin_X1 hown hK hP 0 rfl rfl 0 (by decide) (hts _ uw_X1_begin_f13) (fun _ h9 => h9) rfl (dt_of tkX1_begin_k25 14 rfl) ?_
      refine lv_iconst (v := 4) hx hb (dt_of tkX1_begin_k25 15 rfl) (by decide) ?_
      refine lv_iload_n hx hb (dt_of tkX1_begin_k53 0 rfl) rfl (lv_at hl 2 rfl) ?_
      refine lv_iadd hx hb (dt_of tkX1_begin_k53 1 rfl) ?_
      refine lv_topi (fun x7 ex7 => ?_)
      have hw := hw x7 ex7
      refine lv_aload_n hx hb (dt_of tkX1_begin_k53 2 rfl) rfl (lv_at hl 1 rfl) ?_
      refine va_get (D := (dC, dI)) (ci := 2) (v := .ref a1_seat) (C := RX2) (T := TX2) (N := 12) hx hb hts ui_X1_begin_X2 hown hK hP 2 rfl rfl 4 (by decide) (hts _ uw_X1_begin_f36) (fun _ h9 => h9) rfl (dt_of tkX1_begin_k53 3 rfl) ?_
      refine lv_iload_n hx hb (dt_of tkX1_begin_k53 4 rfl) rfl (lv_at hl 2 rfl) ?_
      obtain ⟨hi9, hw⟩ := hw
      refine va_iald hx hb hK hP 4 1 rfl rfl hi9 (dt_of tkX1_begin_k53 5 rfl) ?_
      refine lv_topi (fun x8 ex8 => ?_)
      have hw := hw x8 ex8
      obtain ⟨hi9, hw⟩ := hw
      refine va_iast hx hb hK hP hD hS 1 1 rfl rfl hi9 (dt_of tkX1_begin_k53 6 rfl) (fun H locs hP hD hS => ?_)
      obtain ⟨f9, ef9⟩ : ∃ y : Nat → Int32, y = upd f0_row x7.toNatClampNeg x8 := ⟨_, rfl⟩
      have hw := hw f9 ef9
      have hP : va_P (dC, dI) vwCl (wd01_56 a0 a0_row z0_owedEach a1 a2 a0_row cyI f9 a1 z1_formX z1_formY z1_foxX z1_foxY a1_seat a1_strength a1_debts z1_near z1_forms v1_hares z1_foxes z1_safe a1_debts cyI f1_debts a1_seat cyI f1_seat a1_strength cyI f1_strength) H := by rw [ef9]; exact hP
      have hD : va_D A (wd01_56 a0 a0_row z0_owedEach a1 a2 a0_row cyI f9 a1 z1_formX z1_formY z1_foxX z1_foxY a1_seat a1_strength a1_debts z1_near z1_forms v1_hares z1_foxes z1_safe a1_debts cyI f1_debts a1_seat cyI f1_seat a1_strength cyI f1_strength) := by rw [ef9]; exact hD
      refine lv_aload_n hx hb (dt_of tkX1_begin_k53 7 rfl) rfl (lv_at hl 0 rfl) ?_
      refine va_get (D := (dC, dI)) (ci := 1) (v := .ref a0_row) (C := RX1) (T := TX1) (N := 4) hx hb hts ui_X1_begin_X1 hown hK hP 0 rfl rfl 0 (by decide) (hts _ uw_X1_begin_f13) (fun _ h9 => h9) rfl (dt_of tkX1_begin_k53 8 rfl) ?_
      refine lv_bipush (v := 10) hx hb (dt_of tkX1_begin_k53 9 rfl) (by decide) ?_
      refine lv_iload_n hx hb (dt_of tkX1_begin_k53 10 rfl) rfl (lv_at hl 2 rfl) ?_
      refine lv_iadd hx hb (dt_of tkX1_begin_k53 11 rfl) ?_
      refine lv_topi (fun x10 ex10 => ?_)
      have hw := hw x10 ex10
      refine lv_aload_n hx hb (dt_of tkX1_begin_k53 12 rfl) rfl (lv_at hl 1 rfl) ?_
      refine va_get (D := (dC, dI)) (ci := 2) (v := .ref a1_strength) (C := RX2) (T := TX2) (N := 12) hx hb hts ui_X1_begin_X2 hown hK hP 2 rfl rfl 5 (by decide) (hts _ uw_X1_begin_f39) (fun _ h9 => h9) rfl (dt_of tkX1_begin_k53 13 rfl) ?_
      refine lv_iload_n hx hb (dt_of tkX1_begin_k53 14 rfl) rfl (lv_at hl 2 rfl) ?_
      obtain ⟨hi9, hw⟩ := hw
      refine va_iald hx hb hK hP 5 1 rfl rfl hi9 (dt_of tkX1_begin_k53 15 rfl) ?_
      refine lv_topi (fun x11 ex11 => ?_)
      have hw := hw x11 ex11
      obtain ⟨hi9, hw⟩ := hw
      refine va_iast hx hb hK hP hD hS 1 1 rfl rfl hi9 (dt_of tkX1_begin_k76 0 rfl) (fun H locs hP hD hS => ?_)
      obtain ⟨f12, ef12⟩ : ∃ y : Nat → Int32, y = upd f9 x10.toNatClampNeg x11 := ⟨_, rfl⟩
      have hw := hw f12 ef12
      have hP : va_P (dC, dI) vwCl (wd01_56 a0 a0_row z0_owedEach a1 a2 a0_row cyI f12 a1 z1_formX z1_formY z1_foxX z1_foxY a1_seat a1_strength a1_debts z1_near z1_forms v1_hares z1_foxes z1_safe a1_debts cyI f1_debts a1_seat cyI f1_seat a1_strength cyI f1_strength) H := by rw [ef12]; exact hP
      have hD : va_D A (wd01_56 a0 a0_row z0_owedEach a1 a2 a0_row cyI f12 a1 z1_formX z1_formY z1_foxX z1_foxY a1_seat a1_strength a1_debts z1_near z1_forms v1_hares z1_foxes z1_safe a1_debts cyI f1_debts a1_seat cyI f1_seat a1_strength cyI f1_strength) := by rw [ef12]; exact hD
      obtain ⟨x13, ex13⟩ : ∃ y : Int32, y = l3 + 1 := ⟨_, rfl⟩
      have hw := hw x13 ex13
      refine lv_iinc (v := x13) (lv' := [(3, .int x13), (0, .ref a0), (1, .ref a1)]) hx hb (dt_of tkX1_begin_k76 1 rfl) hl (k := 2) rfl (by rw [ex13]; rfl) (by decide) rfl (fun ls hl => ?_)
      refine lv_goto (tgt := 40) hx hb (dt_of tkX1_begin_k76 2 rfl) (by decide) ?_
      exact ih _ _ _ f12 x13 hP hD hS (lv_sub hl [1, 2, 0] rfl) hw
set_option maxHeartbeats 4000000 in
set_option maxRecDepth 100000 in
theorem kl_X1_begin_12 {p : Program} {l : Launch} {e : Env} {s : State} {m : MethodId} {args : Array Value} {below : List Frame} {meth : Method} {c : Code} {A : Nat → Prop} (dC : Nat → ClassId) (dI : Nat → Nat → Nat) (cyB cyI cyJ cyP : ClassId) (a0 a1 a2 a0_row a1_debts a1_seat a1_strength : Nat) (z0_owedEach : Value) (r0_down : Value) (r0_law : Value) (z1_formX : Value) (z1_formY : Value) (z1_foxX : Value) (z1_foxY : Value) (z1_near : Value) (z1_forms : Value) (z1_foxes : Value) (z1_safe : Value) (v1_hares : Int32) (f1_debts : Nat → Int32) (f1_seat : Nat → Int32) (f1_strength : Nat → Int32) (Q : (Nat → Int32) → Prop)  (C0 : cfx p s m args meth c cX1_begin none wsX1_begin RX1 4 A (dC, dI) (kT cyB cyI cyJ cyP)) : ∀ (n : Nat) (H : Heap) (locs : List Loc) (ls : Array Slot) (f0_row : Nat → Int32) (l3 : Int32), va_P (dC, dI) vwCl (wd01_56 a0 a0_row z0_owedEach a1 a2 a0_row cyI f0_row a1 z1_formX z1_formY z1_foxX z1_foxY a1_seat a1_strength a1_debts z1_near z1_forms v1_hares z1_foxes z1_safe a1_debts cyI f1_debts a1_seat cyI f1_seat a1_strength cyI f1_strength) H → va_D A (wd01_56 a0 a0_row z0_owedEach a1 a2 a0_row cyI f0_row a1 z1_formX z1_formY z1_foxX z1_foxY a1_seat a1_strength a1_debts z1_near z1_forms v1_hares z1_foxes z1_safe a1_debts cyI f1_debts a1_seat cyI f1_seat a1_strength cyI f1_strength) → va_S A s.heap H locs → lv_has ls 4 [(0, .ref a0), (1, .ref a1), (3, .int l3)] → wl_X1_begin_12 v1_hares f1_debts f1_seat f1_strength Q  n f0_row l3 → W p l e (headSpec wsX1_begin ({ frames := 1, cells := 0, slots := 0, locals := 40 })).room s m args below meth c H locs 0 0 (MQ below (va_Qv (fun (u : (Nat → Int32)) => Q u) (cB (dC, dI) (kT cyB cyI cyJ cyP) A (fun u : (Nat → Int32) => ((wd01_56 a0 a0_row z0_owedEach a1 a2 a0_row cyI u a1 z1_formX z1_formY z1_foxX z1_foxY a1_seat a1_strength a1_debts z1_near z1_forms v1_hares z1_foxes z1_safe a1_debts cyI f1_debts a1_seat cyI f1_seat a1_strength cyI f1_strength) : va_W))) A) args s 0 0 A) (F0 m 12 ls []) := by
  obtain ⟨hx, hb, hr, hts, hown, hlocks, hml, hA, hK, hNw⟩ := id C0
  intro n
  induction n with
  | zero => intro H locs ls f0_row l3 hP hD hS hl hw; exact False.elim hw
  | succ n ih =>
    intro H locs ls f0_row l3 hP hD hS hl hw
    refine lv_iload_n hx hb (dt_of tkX1_begin_k0 8 rfl) rfl (lv_at hl 2 rfl) ?_
    refine lv_bipush (v := 64) hx hb (dt_of tkX1_begin_k0 9 rfl) (by decide) ?_
    refine lv_icmp_ge (tgt := 31) hx hb (dt_of tkX1_begin_k0 10 rfl) (by decide) (fun c1 => ?_) (fun c1 => ?_)
    · have hw := hw.1 c1
      refine lv_aload_n hx hb (dt_of tkX1_begin_k25 2 rfl) rfl (lv_at hl 0 rfl) ?_
      refine va_get (D := (dC, dI)) (ci := 1) (v := .ref a0_row) (C := RX1) (T := TX1) (N := 4) hx hb hts ui_X1_begin_X1 hown hK hP 0 rfl rfl 0 (by decide) (hts _ uw_X1_begin_f13) (fun _ h9 => h9) rfl (dt_of tkX1_begin_k25 3 rfl) ?_
      refine lv_iconst (v := 0) hx hb (dt_of tkX1_begin_k25 4 rfl) (by decide) ?_
      refine lv_iconst (v := 1) hx hb (dt_of tkX1_begin_k25 5 rfl) (by decide) ?_
      refine va_iast hx hb hK hP hD hS 1 1 rfl rfl (vin (by decide)) (dt_of tkX1_begin_k25 6 rfl) (fun H locs hP hD hS => ?_)
      obtain ⟨f2, ef2⟩ : ∃ y : Nat → Int32, y = upd f0_row (0 : Int32).toNatClampNeg 1 := ⟨_, rfl⟩
      have hw := hw f2 ef2
      have hP : va_P (dC, dI) vwCl (wd01_56 a0 a0_row z0_owedEach a1 a2 a0_row cyI f2 a1 z1_formX z1_formY z1_foxX z1_foxY a1_seat a1_strength a1_debts z1_near z1_forms v1_hares z1_foxes z1_safe a1_debts cyI f1_debts a1_seat cyI f1_seat a1_strength cyI f1_strength) H := by rw [ef2]; exact hP
      have hD : va_D A (wd01_56 a0 a0_row z0_owedEach a1 a2 a0_row cyI f2 a1 z1_formX z1_formY z1_foxX z1_foxY a1_seat a1_strength a1_debts z1_near z1_forms v1_hares z1_foxes z1_safe a1_debts cyI f1_debts a1_seat cyI f1_seat a1_strength cyI f1_strength) := by rw [ef2]; exact hD
      refine lv_iconst (v := 0) hx hb (dt_of tkX1_begin_k25 7 rfl) (by decide) ?_
      refine lv_istore_n (lv' := [(3, .int 0), (0, .ref a0), (1, .ref a1)]) hx hb (dt_of tkX1_begin_k25 8 rfl) rfl hl (by decide) rfl (fun ls hl => ?_)
      obtain ⟨n9, hw⟩ := hw
      exact kl_X1_begin_40 dC dI cyB cyI cyJ cyP a0 a1 a2 a0_row a1_debts a1_seat a1_strength z0_owedEach r0_down r0_law z1_formX z1_formY z1_foxX z1_foxY z1_near z1_forms z1_foxes z1_safe v1_hares f1_debts f1_seat f1_strength Q  C0 n9 _ _ _ f2 0 hP hD hS (lv_sub hl [1, 2, 0] rfl) hw
    · have hw := hw.2 c1
      refine lv_aload_n hx hb (dt_of tkX1_begin_k0 11 rfl) rfl (lv_at hl 0 rfl) ?_
      refine va_get (D := (dC, dI)) (ci := 1) (v := .ref a0_row) (C := RX1) (T := TX1) (N := 4) hx hb hts ui_X1_begin_X1 hown hK hP 0 rfl rfl 0 (by decide) (hts _ uw_X1_begin_f13) (fun _ h9 => h9) rfl (dt_of tkX1_begin_k0 12 rfl) ?_
      refine lv_iload_n hx hb (dt_of tkX1_begin_k0 13 rfl) rfl (lv_at hl 2 rfl) ?_
      refine lv_iconst (v := 0) hx hb (dt_of tkX1_begin_k0 14 rfl) (by decide) ?_
      obtain ⟨hi9, hw⟩ := hw
      refine va_iast hx hb hK hP hD hS 1 1 rfl rfl hi9 (dt_of tkX1_begin_k0 15 rfl) (fun H locs hP hD hS => ?_)
      obtain ⟨f3, ef3⟩ : ∃ y : Nat → Int32, y = upd f0_row l3.toNatClampNeg 0 := ⟨_, rfl⟩
      have hw := hw f3 ef3
      have hP : va_P (dC, dI) vwCl (wd01_56 a0 a0_row z0_owedEach a1 a2 a0_row cyI f3 a1 z1_formX z1_formY z1_foxX z1_foxY a1_seat a1_strength a1_debts z1_near z1_forms v1_hares z1_foxes z1_safe a1_debts cyI f1_debts a1_seat cyI f1_seat a1_strength cyI f1_strength) H := by rw [ef3]; exact hP
      have hD : va_D A (wd01_56 a0 a0_row z0_owedEach a1 a2 a0_row cyI f3 a1 z1_formX z1_formY z1_foxX z1_foxY a1_seat a1_strength a1_debts z1_near z1_forms v1_hares z1_foxes z1_safe a1_debts cyI f1_debts a1_seat cyI f1_seat a1_strength cyI f1_strength) := by rw [ef3]; exact hD
      obtain ⟨x4, ex4⟩ : ∃ y : Int32, y = l3 + 1 := ⟨_, rfl⟩
      have hw := hw x4 ex4
      refine lv_iinc (v := x4) (lv' := [(3, .int x4), (0, .ref a0), (1, .ref a1)]) hx hb (dt_of tkX1_begin_k25 0 rfl) hl (k := 2) rfl (by rw [ex4]; rfl) (by decide) rfl (fun ls hl => ?_)
      refine lv_goto (tgt := 12) hx hb (dt_of tkX1_begin_k25 1 rfl) (by decide) ?_
      exact ih _ _ _ f3 x4 hP hD hS (lv_sub hl [1, 2, 0] rfl) hw
set_option maxHeartbeats 4000000 in
set_option maxRecDepth 100000 in
theorem ck_X1_begin (l : Launch) (dC : Nat → ClassId) (dI : Nat → Nat → Nat) (cyB cyI cyJ cyP : ClassId) (a0 a1 a2 a0_row a1_debts a1_seat a1_strength : Nat) (sz : Nat) (z0_owedEach : Value) (r0_down : Value) (r0_law : Value) (z1_formX : Value) (z1_formY : Value) (z1_foxX : Value) (z1_foxY : Value) (z1_near : Value) (z1_forms : Value) (z1_foxes : Value) (z1_safe : Value) (v1_hares : Int32) (f1_debts : Nat → Int32) (f1_seat : Nat → Int32) (f1_strength : Nat → Int32) (f0_row : Nat → Int32)  {Q : (Nat → Int32) → Prop} (hw : wq_X1_begin v1_hares f1_debts f1_seat f1_strength f0_row  Q) : Met l yX1_begin wsX1_begin ({ frames := 1, cells := 0, slots := 0, locals := 40 }) (va_Pc [.ref a0, .ref a1, .ref a2] (cPc (dC, dI) (kT cyB cyI cyJ cyP) (wd01_57 a0 a0_row z0_owedEach r0_down r0_law a0_row cyI f0_row a1 z1_formX z1_formY z1_foxX z1_foxY a1_seat a1_strength a1_debts z1_near z1_forms v1_hares z1_foxes z1_safe a1_debts cyI f1_debts a1_seat cyI f1_seat a1_strength cyI f1_strength) sz)) (va_Qv (fun (u : (Nat → Int32)) => Q u) (cB (dC, dI) (kT cyB cyI cyJ cyP) (va_A (wd01_57 a0 a0_row z0_owedEach r0_down r0_law a0_row cyI f0_row a1 z1_formX z1_formY z1_foxX z1_foxY a1_seat a1_strength a1_debts z1_near z1_forms v1_hares z1_foxes z1_safe a1_debts cyI f1_debts a1_seat cyI f1_seat a1_strength cyI f1_strength) sz) (fun u : (Nat → Int32) => ((wd01_56 a0 a0_row z0_owedEach a1 a2 a0_row cyI u a1 z1_formX z1_formY z1_foxX z1_foxY a1_seat a1_strength a1_debts z1_near z1_forms v1_hares z1_foxes z1_safe a1_debts cyI f1_debts a1_seat cyI f1_seat a1_strength cyI f1_strength) : va_W))) (va_A (wd01_57 a0 a0_row z0_owedEach r0_down r0_law a0_row cyI f0_row a1 z1_formX z1_formY z1_foxX z1_foxY a1_seat a1_strength a1_debts z1_near z1_forms v1_hares z1_foxes z1_safe a1_debts cyI f1_debts a1_seat cyI f1_seat a1_strength cyI f1_strength) sz)) 0 0 (va_A (wd01_57 a0 a0_row z0_owedEach r0_down r0_law a0_row cyI f0_row a1 z1_formX z1_formY z1_foxX z1_foxY a1_seat a1_strength a1_debts z1_near z1_forms v1_hares z1_foxes z1_safe a1_debts cyI f1_debts a1_seat cyI f1_seat a1_strength cyI f1_strength) sz) := by
  refine Met.ofW (cc := cX1_begin) (maxL := 4) (ret := none) (by decide) rfl ?_
  intro p e s m args below meth c s₁ B hml hv
  obtain ⟨rfl, hsz, hP, hK, hD0, hNw⟩ := hv
  have hx := B.exec
  have hb := B.bytes
  have hr := B.returns
  have hts := atoms_spec (ws := wsX1_begin) B.pre
  have hown : s.vm.findClass RX1 = some m.cls := findClass_of_methodNamed B.named
  have hlocks := B.notSynchronized
  subst hsz
  have hD := hD0.self (sz := s.heap.size)
  generalize hAe : va_A (wd01_57 a0 a0_row z0_owedEach r0_down r0_law a0_row cyI f0_row a1 z1_formX z1_formY z1_foxX z1_foxY a1_seat a1_strength a1_debts z1_near z1_forms v1_hares z1_foxes z1_safe a1_debts cyI f1_debts a1_seat cyI f1_seat a1_strength cyI f1_strength) s.heap.size = A at hD ⊢
  have hA : ∀ q : Nat, s.heap.size ≤ q → A q := fun q h => by rw [← hAe]; exact Or.inr h
  have hS : va_S A s.heap s.heap [] := va_S.rf
  have hP : va_P (dC, dI) vwCl (wd01_57 a0 a0_row z0_owedEach r0_down r0_law a0_row cyI f0_row a1 z1_formX z1_formY z1_foxX z1_foxY a1_seat a1_strength a1_debts z1_near z1_forms v1_hares z1_foxes z1_safe a1_debts cyI f1_debts a1_seat cyI f1_seat a1_strength cyI f1_strength) s.heap := hP
  have hl := lv_entry ([.ref a0, .ref a1, .ref a2]) (n := 4) (Nat.le_of_ble_eq_true rfl)
  rw [lg_entry_eq]
  generalize (lg_sl ([.ref a0, .ref a1, .ref a2]) ++ List.replicate (4 - (lg_sl ([.ref a0, .ref a1, .ref a2])).length) Slot.unset).toArray = ls at hl ⊢
  have hl : lv_has ls 4 [(0, .ref a0), (1, .ref a1), (2, .ref a2)] := hl
  have C0 : cfx p s m _ meth c cX1_begin none wsX1_begin RX1 4 A (dC, dI) (kT cyB cyI cyJ cyP) := ⟨hx, hb, hr, hts, hown, hlocks, hml, hA, hK, hNw⟩
  clear hAe
  obtain ⟨H, hH⟩ : ∃ H, H = s.heap := ⟨_, rfl⟩
  rw [← hH] at hP ⊢
  have hS : va_S A s.heap H [] := by rw [hH]; exact va_S.rf
  have hS := hS
  refine lv_aload_n hx hb (dt_of tkX1_begin_k0 0 rfl) rfl (lv_at hl 0 rfl) ?_
  refine lv_aload_n hx hb (dt_of tkX1_begin_k0 1 rfl) rfl (lv_at hl 1 rfl) ?_
  refine va_put (D := (dC, dI)) (ci := 1) (v := .ref a1) (ty := .object "MarchHares$Down") (C := RX1) (T := TX1) (N := 4) hx hb hts ui_X1_begin_X1 tyX1 tyX1_ok nmX1 hown hK hP hD hS 0 rfl rfl 2 (by decide) (hts _ uw_X1_begin_f24) (fun _ h9 => h9) rfl (by decide +kernel) rfl rfl (Nat.le_of_ble_eq_true rfl) (dt_of tkX1_begin_k0 2 rfl) (fun H locs hP hD hS => ?_)
  have hP : va_P (dC, dI) vwCl (wd01_58 a0 a0_row z0_owedEach a1 r0_law a0_row cyI f0_row a1 z1_formX z1_formY z1_foxX z1_foxY a1_seat a1_strength a1_debts z1_near z1_forms v1_hares z1_foxes z1_safe a1_debts cyI f1_debts a1_seat cyI f1_seat a1_strength cyI f1_strength) H := hP
  have hD : va_D A (wd01_58 a0 a0_row z0_owedEach a1 r0_law a0_row cyI f0_row a1 z1_formX z1_formY z1_foxX z1_foxY a1_seat a1_strength a1_debts z1_near z1_forms v1_hares z1_foxes z1_safe a1_debts cyI f1_debts a1_seat cyI f1_seat a1_strength cyI f1_strength) := hD
  refine lv_aload_n hx hb (dt_of tkX1_begin_k0 3 rfl) rfl (lv_at hl 0 rfl) ?_
  refine lv_aload_n hx hb (dt_of tkX1_begin_k0 4 rfl) rfl (lv_at hl 2 rfl) ?_
  refine va_put (D := (dC, dI)) (ci := 1) (v := .ref a2) (ty := .object "MarchHares$Law") (C := RX1) (T := TX1) (N := 4) hx hb hts ui_X1_begin_X1 tyX1 tyX1_ok nmX1 hown hK hP hD hS 0 rfl rfl 3 (by decide) (hts _ uw_X1_begin_f28) (fun _ h9 => h9) rfl (by decide +kernel) rfl rfl (Nat.le_of_ble_eq_true rfl) (dt_of tkX1_begin_k0 5 rfl) (fun H locs hP hD hS => ?_)
  have hP : va_P (dC, dI) vwCl (wd01_56 a0 a0_row z0_owedEach a1 a2 a0_row cyI f0_row a1 z1_formX z1_formY z1_foxX z1_foxY a1_seat a1_strength a1_debts z1_near z1_forms v1_hares z1_foxes z1_safe a1_debts cyI f1_debts a1_seat cyI f1_seat a1_strength cyI f1_strength) H := hP
  have hD : va_D A (wd01_56 a0 a0_row z0_owedEach a1 a2 a0_row cyI f0_row a1 z1_formX z1_formY z1_foxX z1_foxY a1_seat a1_strength a1_debts z1_near z1_forms v1_hares z1_foxes z1_safe a1_debts cyI f1_debts a1_seat cyI f1_seat a1_strength cyI f1_strength) := hD
  refine lv_iconst (v := 0) hx hb (dt_of tkX1_begin_k0 6 rfl) (by decide) ?_
  refine lv_istore_n (lv' := [(3, .int 0), (0, .ref a0), (1, .ref a1), (2, .ref a2)]) hx hb (dt_of tkX1_begin_k0 7 rfl) rfl hl (by decide) rfl (fun ls hl => ?_)
  obtain ⟨n9, hw⟩ := hw
  exact kl_X1_begin_12 dC dI cyB cyI cyJ cyP a0 a1 a2 a0_row a1_debts a1_seat a1_strength z0_owedEach r0_down r0_law z1_formX z1_formY z1_foxX z1_foxY z1_near z1_forms z1_foxes z1_safe v1_hares f1_debts f1_seat f1_strength Q  C0 n9 _ _ _ f0_row 0 hP hD hS (lv_sub hl [1, 2, 0] rfl) hw
