/-- worlds by their leaves -/
def wd01_0 (x0 : Nat) (x1 : Value) (x2 : Nat) (x3 x4 x5 x6 x7 x8 : Value) (x9 : Nat) (x10 x11 x12 x13 x14 x15 x16 x17 : Value) (x18 : Int32) (x19 : Value) (x20 : Nat) (x21 x22 x23 x24 x25 x26 x27 x28 x29 : Value) (x30 : Int32) (x31 x32 : Value) (x33 x34 : Nat) (x35 : Value) (x36 : Nat) (x37 : Value) (x38 : Nat) (x39 : ClassId) (x40 : Nat → Int32) : va_W := [(x0, .inr (10, [x1, .ref x2, x3, x4, x5, x6, x7, x8, .ref x9, x10, x11, x12, x13, x14, x15, x16, x17, .int x18, x19])), (x20, .inr (2, [x21, x22, x23, x24, x25, x26, x27, x28, x29, .int x30, x31, x32])), (x33, .inr (1, [.ref x34, x35, .ref x36, x37])), (x38, .inl (x39, 64, .inl x40))]
def wd01_1 (x0 x1 : Nat) (x2 : Value) (x3 : Nat) (x4 : Value) (x5 : Nat) (x6 : ClassId) (x7 : Nat → Int32) : va_W := [(x0, .inr (1, [.ref x1, x2, .ref x3, x4])), (x5, .inl (x6, 64, .inl x7))]
def wd01_2 (x0 : Nat) (x1 : Value) (x2 : Nat) (x3 x4 x5 x6 x7 x8 : Value) (x9 : Nat) (x10 x11 x12 x13 x14 x15 x16 x17 : Value) (x18 : Int32) (x19 : Value) (x20 : Nat) (x21 x22 x23 x24 x25 x26 x27 x28 x29 : Value) (x30 : Int32) (x31 x32 : Value) : va_W := [(x0, .inr (10, [x1, .ref x2, x3, x4, x5, x6, x7, x8, .ref x9, x10, x11, x12, x13, x14, x15, x16, x17, .int x18, x19])), (x20, .inr (2, [x21, x22, x23, x24, x25, x26, x27, x28, x29, .int x30, x31, x32]))]
def wd01_3 (x0 x1 : Nat) (x2 : Value) (x3 : Nat) (x4 : Value) (x5 : Nat) (x6 x7 x8 x9 x10 x11 x12 x13 x14 : Value) (x15 : Int32) (x16 x17 : Value) (x18 : Nat) (x19 : ClassId) (x20 : Nat → Int32) : va_W := [(x0, .inr (1, [.ref x1, x2, .ref x3, x4])), (x5, .inr (2, [x6, x7, x8, x9, x10, x11, x12, x13, x14, .int x15, x16, x17])), (x18, .inl (x19, 64, .inl x20))]
def wd01_4 (x0 : Nat) (x1 : Value) (x2 : Nat) (x3 x4 x5 x6 x7 x8 : Value) (x9 : Nat) (x10 x11 x12 x13 x14 x15 x16 x17 : Value) (x18 : Int32) (x19 : Value) : va_W := [(x0, .inr (10, [x1, .ref x2, x3, x4, x5, x6, x7, x8, .ref x9, x10, x11, x12, x13, x14, x15, x16, x17, .int x18, x19]))]
def wd01_5 (x0 : Nat) (x1 : Value) (x2 : Nat) (x3 x4 x5 x6 x7 x8 : Value) (x9 : Nat) (x10 x11 x12 x13 x14 x15 x16 x17 : Value) (x18 : Int32) (x19 : Value) (x20 : Nat) (x21 x22 x23 x24 x25 x26 x27 x28 x29 : Value) (x30 : Int32) (x31 x32 : Value) (x33 x34 : Nat) (x35 : Value) (x36 : Nat) (x37 : Value) (x38 : Nat) (x39 : ClassId) (x40 : Nat → Int32) (x41 : Nat) (x42 : ClassId) (x43 : Nat) (x44 : Nat → Int64) : va_W := [(x0, .inr (10, [x1, .ref x2, x3, x4, x5, x6, x7, x8, .ref x9, x10, x11, x12, x13, x14, x15, x16, x17, .int x18, x19])), (x20, .inr (2, [x21, x22, x23, x24, x25, x26, x27, x28, x29, .int x30, x31, x32])), (x33, .inr (1, [.ref x34, x35, .ref x36, x37])), (x38, .inl (x39, 64, .inl x40)), (x41, .inl (x42, x43, .inr (.inl x44)))]
def wd01_6 (x0 : Nat) (x1 : Value) (x2 : Nat) (x3 x4 x5 x6 x7 x8 x9 x10 x11 x12 x13 x14 x15 x16 x17 : Value) (x18 : Int32) (x19 : Value) (x20 : Nat) (x21 x22 x23 x24 x25 x26 x27 x28 : Value) (x29 : Int32) (x30 x31 x32 : Value) : va_W := [(x0, .inr (10, [x1, .ref x2, x3, x4, x5, x6, x7, x8, x9, x10, x11, x12, x13, x14, x15, x16, x17, .int x18, x19])), (x20, .inr (2, [x21, x22, x23, x24, x25, x26, x27, x28, .int x29, x30, x31, x32]))]
def wd01_7 (x0 x1 x2 : Nat) (x3 x4 x5 x6 x7 x8 x9 x10 x11 x12 : Value) (x13 : Nat) (x14 : ClassId) (x15 : Nat → Int32) (x16 : Nat) (x17 : ClassId) (x18 : Nat → Int32) : va_W := [(x0, .inr (2, [.ref x1, .ref x2, x3, x4, x5, x6, x7, x8, x9, x10, x11, x12])), (x13, .inl (x14, 8, .inl x15)), (x16, .inl (x17, 8, .inl x18))]
def wd01_8 (x0 : Nat) (x1 x2 x3 x4 x5 x6 x7 x8 x9 : Value) (x10 : Int32) (x11 x12 : Value) : va_W := [(x0, .inr (2, [x1, x2, x3, x4, x5, x6, x7, x8, x9, .int x10, x11, x12]))]
def wd01_9 (x0 : Nat) (x1 x2 x3 : Value) (x4 : Nat) (x5 : Value) (x6 : Nat) (x7 : ClassId) (x8 : Nat → Int32) : va_W := [(x0, .inr (4, [x1, x2, x3, .ref x4, x5])), (x6, .inl (x7, 8, .inl x8))]
def wd01_10 (x0 x1 : Nat) (x2 x3 x4 : Value) (x5 : Nat) (x6 : ClassId) (x7 : Nat → Int32) : va_W := [(x0, .inr (1, [.ref x1, x2, x3, x4])), (x5, .inl (x6, 64, .inl x7))]
def wd01_11 (x0 x1 x2 x3 x4 : Nat) (x5 : Int32) (x6 : Nat) (x7 : ClassId) (x8 : Nat → Int32) (x9 : Nat) (x10 : ClassId) (x11 : Nat → Int32) (x12 : Nat) (x13 : ClassId) (x14 : Nat → Int32) (x15 : Nat) (x16 : ClassId) (x17 : Nat → Int32) : va_W := [(x0, .inr (4, [.ref x1, .ref x2, .ref x3, .ref x4, .int x5])), (x6, .inl (x7, 150, .inl x8)), (x9, .inl (x10, 150, .inl x11)), (x12, .inl (x13, 150, .inl x14)), (x15, .inl (x16, 8, .inl x17))]
def wd01_12 (x0 x1 : Nat) (x2 : Value) (x3 x4 x5 : Nat) (x6 : ClassId) (x7 : Nat → Int32) (x8 : Nat) (x9 x10 x11 x12 x13 x14 x15 x16 x17 : Value) (x18 : Int32) (x19 x20 : Value) (x21 x22 x23 x24 x25 : Nat) (x26 : Int32) (x27 : Nat) (x28 : ClassId) (x29 : Nat → Int32) (x30 : Nat) (x31 : ClassId) (x32 : Nat → Int32) (x33 : Nat) (x34 : ClassId) (x35 : Nat → Int32) (x36 : Nat) (x37 : ClassId) (x38 : Nat → Int32) : va_W := [(x0, .inr (1, [.ref x1, x2, .ref x3, .ref x4])), (x5, .inl (x6, 64, .inl x7)), (x8, .inr (2, [x9, x10, x11, x12, x13, x14, x15, x16, x17, .int x18, x19, x20])), (x21, .inr (4, [.ref x22, .ref x23, .ref x24, .ref x25, .int x26])), (x27, .inl (x28, 8, .inl x29)), (x30, .inl (x31, 150, .inl x32)), (x33, .inl (x34, 150, .inl x35)), (x36, .inl (x37, 150, .inl x38))]
def wd01_13 (x0 x1 : Nat) (x2 : Value) (x3 x4 x5 : Nat) (x6 : ClassId) (x7 : Nat → Int32) : va_W := [(x0, .inr (1, [.ref x1, x2, .ref x3, .ref x4])), (x5, .inl (x6, 64, .inl x7))]
def wd01_14 (x0 : Nat) (x1 x2 x3 x4 x5 x6 x7 x8 x9 : Value) (x10 : Int32) (x11 x12 : Value) (x13 x14 x15 x16 x17 : Nat) (x18 : Int32) (x19 : Nat) (x20 : ClassId) (x21 : Nat → Int32) (x22 : Nat) (x23 : ClassId) (x24 : Nat → Int32) (x25 : Nat) (x26 : ClassId) (x27 : Nat → Int32) (x28 : Nat) (x29 : ClassId) (x30 : Nat → Int32) : va_W := [(x0, .inr (2, [x1, x2, x3, x4, x5, x6, x7, x8, x9, .int x10, x11, x12])), (x13, .inr (4, [.ref x14, .ref x15, .ref x16, .ref x17, .int x18])), (x19, .inl (x20, 8, .inl x21)), (x22, .inl (x23, 150, .inl x24)), (x25, .inl (x26, 150, .inl x27)), (x28, .inl (x29, 150, .inl x30))]
def wd01_15 (x0 x1 : Nat) (x2 : Value) (x3 x4 x5 : Nat) (x6 x7 x8 x9 x10 x11 x12 x13 x14 : Value) (x15 : Int32) (x16 x17 : Value) (x18 : Nat) (x19 : ClassId) (x20 : Nat → Int32) : va_W := [(x0, .inr (1, [.ref x1, x2, .ref x3, .ref x4])), (x5, .inr (2, [x6, x7, x8, x9, x10, x11, x12, x13, x14, .int x15, x16, x17])), (x18, .inl (x19, 64, .inl x20))]
def wd01_16 (x0 x1 x2 x3 x4 : Nat) (x5 : Int32) (x6 : Nat) (x7 : ClassId) (x8 : Nat → Int32) (x9 : Nat) (x10 : ClassId) (x11 : Nat → Int32) (x12 : Nat) (x13 : ClassId) (x14 : Nat → Int32) (x15 : Nat) (x16 : ClassId) (x17 : Nat → Int32) : va_W := [(x0, .inr (4, [.ref x1, .ref x2, .ref x3, .ref x4, .int x5])), (x6, .inl (x7, 8, .inl x8)), (x9, .inl (x10, 150, .inl x11)), (x12, .inl (x13, 150, .inl x14)), (x15, .inl (x16, 150, .inl x17))]
def wd01_17 (x0 x1 x2 x3 x4 : Nat) (x5 : Int32) (x6 : Nat) (x7 : ClassId) (x8 : Nat → Int32) : va_W := [(x0, .inr (4, [.ref x1, .ref x2, .ref x3, .ref x4, .int x5])), (x6, .inl (x7, 8, .inl x8))]
def wd01_18 (x0 x1 : Nat) (x2 : Value) (x3 x4 x5 : Nat) (x6 : ClassId) (x7 : Nat → Int32) (x8 : Nat) (x9 x10 x11 x12 x13 x14 x15 x16 x17 : Value) (x18 : Int32) (x19 x20 : Value) (x21 : Nat) (x22 : ClassId) (x23 : Nat → Int32) (x24 : Nat) (x25 : ClassId) (x26 : Nat → Int32) (x27 : Nat) (x28 : ClassId) (x29 : Nat → Int32) : va_W := [(x0, .inr (1, [.ref x1, x2, .ref x3, .ref x4])), (x5, .inl (x6, 64, .inl x7)), (x8, .inr (2, [x9, x10, x11, x12, x13, x14, x15, x16, x17, .int x18, x19, x20])), (x21, .inl (x22, 150, .inl x23)), (x24, .inl (x25, 150, .inl x26)), (x27, .inl (x28, 150, .inl x29))]
def wd01_19 (x0 x1 : Nat) (x2 : Value) (x3 x4 x5 : Nat) (x6 : ClassId) (x7 : Nat → Int32) (x8 x9 x10 : Nat) (x11 x12 x13 x14 x15 x16 x17 : Value) (x18 : Int32) (x19 x20 : Value) (x21 : Nat) (x22 : ClassId) (x23 : Nat → Int32) (x24 : Nat) (x25 : ClassId) (x26 : Nat → Int32) (x27 x28 x29 x30 x31 : Nat) (x32 : Int32) (x33 : Nat) (x34 : ClassId) (x35 : Nat → Int32) (x36 : Nat) (x37 : ClassId) (x38 : Nat → Int32) (x39 : Nat) (x40 : ClassId) (x41 : Nat → Int32) (x42 : Nat) (x43 : ClassId) (x44 : Nat → Int32) : va_W := [(x0, .inr (1, [.ref x1, x2, .ref x3, .ref x4])), (x5, .inl (x6, 64, .inl x7)), (x8, .inr (2, [.ref x9, .ref x10, x11, x12, x13, x14, x15, x16, x17, .int x18, x19, x20])), (x21, .inl (x22, 8, .inl x23)), (x24, .inl (x25, 8, .inl x26)), (x27, .inr (4, [.ref x28, .ref x29, .ref x30, .ref x31, .int x32])), (x33, .inl (x34, 8, .inl x35)), (x36, .inl (x37, 150, .inl x38)), (x39, .inl (x40, 150, .inl x41)), (x42, .inl (x43, 150, .inl x44))]
def wd01_20 (x0 x1 x2 : Nat) (x3 x4 x5 x6 x7 x8 x9 : Value) (x10 : Int32) (x11 x12 : Value) (x13 : Nat) (x14 : ClassId) (x15 : Nat → Int32) (x16 : Nat) (x17 : ClassId) (x18 : Nat → Int32) (x19 x20 x21 x22 x23 : Nat) (x24 : Int32) (x25 : Nat) (x26 : ClassId) (x27 : Nat → Int32) (x28 : Nat) (x29 : ClassId) (x30 : Nat → Int32) (x31 : Nat) (x32 : ClassId) (x33 : Nat → Int32) (x34 : Nat) (x35 : ClassId) (x36 : Nat → Int32) : va_W := [(x0, .inr (2, [.ref x1, .ref x2, x3, x4, x5, x6, x7, x8, x9, .int x10, x11, x12])), (x13, .inl (x14, 8, .inl x15)), (x16, .inl (x17, 8, .inl x18)), (x19, .inr (4, [.ref x20, .ref x21, .ref x22, .ref x23, .int x24])), (x25, .inl (x26, 8, .inl x27)), (x28, .inl (x29, 150, .inl x30)), (x31, .inl (x32, 150, .inl x33)), (x34, .inl (x35, 150, .inl x36))]
def wd01_21 (x0 x1 x2 : Nat) (x3 x4 x5 x6 x7 x8 x9 : Value) (x10 : Int32) (x11 x12 : Value) (x13 : Nat) (x14 : ClassId) (x15 : Nat → Int32) (x16 : Nat) (x17 : ClassId) (x18 : Nat → Int32) : va_W := [(x0, .inr (2, [.ref x1, .ref x2, x3, x4, x5, x6, x7, x8, x9, .int x10, x11, x12])), (x13, .inl (x14, 8, .inl x15)), (x16, .inl (x17, 8, .inl x18))]
def wd01_22 (x0 x1 : Nat) (x2 : Value) (x3 x4 x5 : Nat) (x6 : ClassId) (x7 : Nat → Int32) (x8 x9 x10 : Nat) (x11 x12 x13 x14 x15 x16 x17 : Value) (x18 : Int32) (x19 x20 : Value) (x21 x22 x23 x24 x25 : Nat) (x26 : Int32) (x27 : Nat) (x28 : ClassId) (x29 : Nat → Int32) (x30 : Nat) (x31 : ClassId) (x32 : Nat → Int32) (x33 : Nat) (x34 : ClassId) (x35 : Nat → Int32) (x36 : Nat) (x37 : ClassId) (x38 : Nat → Int32) : va_W := [(x0, .inr (1, [.ref x1, x2, .ref x3, .ref x4])), (x5, .inl (x6, 64, .inl x7)), (x8, .inr (2, [.ref x9, .ref x10, x11, x12, x13, x14, x15, x16, x17, .int x18, x19, x20])), (x21, .inr (4, [.ref x22, .ref x23, .ref x24, .ref x25, .int x26])), (x27, .inl (x28, 8, .inl x29)), (x30, .inl (x31, 150, .inl x32)), (x33, .inl (x34, 150, .inl x35)), (x36, .inl (x37, 150, .inl x38))]
def wd01_23 (x0 : Nat) (x1 : Value) (x2 : Nat) (x3 x4 x5 x6 x7 x8 : Value) (x9 : Nat) (x10 x11 x12 x13 x14 x15 x16 x17 : Value) (x18 : Int32) (x19 : Value) (x20 x21 x22 : Nat) (x23 x24 x25 x26 x27 x28 : Value) (x29 x30 : Int32) (x31 x32 : Value) (x33 x34 : Nat) (x35 : Value) (x36 x37 x38 : Nat) (x39 : ClassId) (x40 : Nat → Int32) (x41 : Nat) (x42 : ClassId) (x43 : Nat → Int32) (x44 : Nat) (x45 : ClassId) (x46 : Nat → Int32) (x47 x48 x49 x50 x51 : Nat) (x52 : Int32) (x53 : Nat) (x54 : ClassId) (x55 : Nat → Int32) (x56 : Nat) (x57 : ClassId) (x58 : Nat → Int32) (x59 : Nat) (x60 : ClassId) (x61 : Nat → Int32) (x62 : Nat) (x63 : ClassId) (x64 : Nat → Int32) : va_W := [(x0, .inr (10, [x1, .ref x2, x3, x4, x5, x6, x7, x8, .ref x9, x10, x11, x12, x13, x14, x15, x16, x17, .int x18, x19])), (x20, .inr (2, [.ref x21, .ref x22, x23, x24, x25, x26, x27, x28, .int x29, .int x30, x31, x32])), (x33, .inr (1, [.ref x34, x35, .ref x36, .ref x37])), (x38, .inl (x39, 64, .inl x40)), (x41, .inl (x42, 8, .inl x43)), (x44, .inl (x45, 8, .inl x46)), (x47, .inr (4, [.ref x48, .ref x49, .ref x50, .ref x51, .int x52])), (x53, .inl (x54, 8, .inl x55)), (x56, .inl (x57, 150, .inl x58)), (x59, .inl (x60, 150, .inl x61)), (x62, .inl (x63, 150, .inl x64))]
def wd01_24 (x0 : Nat) (x1 : Value) (x2 : Nat) (x3 x4 x5 x6 x7 x8 : Value) (x9 : Nat) (x10 x11 x12 x13 x14 x15 x16 x17 : Value) (x18 : Int32) (x19 : Value) (x20 x21 x22 : Nat) (x23 x24 x25 x26 x27 x28 : Value) (x29 x30 : Int32) (x31 x32 : Value) : va_W := [(x0, .inr (10, [x1, .ref x2, x3, x4, x5, x6, x7, x8, .ref x9, x10, x11, x12, x13, x14, x15, x16, x17, .int x18, x19])), (x20, .inr (2, [.ref x21, .ref x22, x23, x24, x25, x26, x27, x28, .int x29, .int x30, x31, x32]))]
def wd01_25 (x0 x1 : Nat) (x2 : Value) (x3 x4 x5 : Nat) (x6 : ClassId) (x7 : Nat → Int32) (x8 : Nat) (x9 : ClassId) (x10 : Nat → Int32) (x11 : Nat) (x12 : ClassId) (x13 : Nat → Int32) (x14 x15 x16 x17 x18 : Nat) (x19 : Int32) (x20 : Nat) (x21 : ClassId) (x22 : Nat → Int32) (x23 : Nat) (x24 : ClassId) (x25 : Nat → Int32) (x26 : Nat) (x27 : ClassId) (x28 : Nat → Int32) (x29 : Nat) (x30 : ClassId) (x31 : Nat → Int32) : va_W := [(x0, .inr (1, [.ref x1, x2, .ref x3, .ref x4])), (x5, .inl (x6, 64, .inl x7)), (x8, .inl (x9, 8, .inl x10)), (x11, .inl (x12, 8, .inl x13)), (x14, .inr (4, [.ref x15, .ref x16, .ref x17, .ref x18, .int x19])), (x20, .inl (x21, 8, .inl x22)), (x23, .inl (x24, 150, .inl x25)), (x26, .inl (x27, 150, .inl x28)), (x29, .inl (x30, 150, .inl x31))]
def wd01_26 (x0 x1 : Nat) (x2 : Value) (x3 x4 x5 : Nat) (x6 : ClassId) (x7 : Nat → Int32) (x8 x9 x10 : Nat) (x11 x12 x13 x14 x15 x16 : Value) (x17 x18 : Int32) (x19 x20 : Value) (x21 : Nat) (x22 : ClassId) (x23 : Nat → Int32) (x24 : Nat) (x25 : ClassId) (x26 : Nat → Int32) (x27 x28 x29 x30 x31 : Nat) (x32 : Int32) (x33 : Nat) (x34 : ClassId) (x35 : Nat → Int32) (x36 : Nat) (x37 : ClassId) (x38 : Nat → Int32) (x39 : Nat) (x40 : ClassId) (x41 : Nat → Int32) (x42 : Nat) (x43 : ClassId) (x44 : Nat → Int32) : va_W := [(x0, .inr (1, [.ref x1, x2, .ref x3, .ref x4])), (x5, .inl (x6, 64, .inl x7)), (x8, .inr (2, [.ref x9, .ref x10, x11, x12, x13, x14, x15, x16, .int x17, .int x18, x19, x20])), (x21, .inl (x22, 8, .inl x23)), (x24, .inl (x25, 8, .inl x26)), (x27, .inr (4, [.ref x28, .ref x29, .ref x30, .ref x31, .int x32])), (x33, .inl (x34, 8, .inl x35)), (x36, .inl (x37, 150, .inl x38)), (x39, .inl (x40, 150, .inl x41)), (x42, .inl (x43, 150, .inl x44))]
def wd01_27 (x0 : Nat) (x1 : Value) (x2 : Nat) (x3 : Value) (x4 : Nat) (x5 x6 x7 x8 : Value) (x9 : Nat) (x10 x11 x12 x13 x14 x15 x16 x17 : Value) (x18 : Int32) (x19 : Value) (x20 x21 x22 : Nat) (x23 x24 x25 x26 x27 x28 : Value) (x29 x30 : Int32) (x31 x32 : Value) (x33 x34 : Nat) (x35 : Value) (x36 x37 x38 : Nat) (x39 : ClassId) (x40 : Nat → Int32) (x41 : Nat) (x42 : ClassId) (x43 : Nat → Int32) (x44 : Nat) (x45 : ClassId) (x46 : Nat → Int32) (x47 x48 x49 x50 x51 : Nat) (x52 : Int32) (x53 : Nat) (x54 : ClassId) (x55 : Nat → Int32) (x56 : Nat) (x57 : ClassId) (x58 : Nat → Int32) (x59 : Nat) (x60 : ClassId) (x61 : Nat → Int32) (x62 : Nat) (x63 : ClassId) (x64 : Nat → Int32) (x65 : Nat) (x66 : ClassId) (x67 : Nat) (x68 : Nat → Int64) : va_W := [(x0, .inr (10, [x1, .ref x2, x3, .ref x4, x5, x6, x7, x8, .ref x9, x10, x11, x12, x13, x14, x15, x16, x17, .int x18, x19])), (x20, .inr (2, [.ref x21, .ref x22, x23, x24, x25, x26, x27, x28, .int x29, .int x30, x31, x32])), (x33, .inr (1, [.ref x34, x35, .ref x36, .ref x37])), (x38, .inl (x39, 64, .inl x40)), (x41, .inl (x42, 8, .inl x43)), (x44, .inl (x45, 8, .inl x46)), (x47, .inr (4, [.ref x48, .ref x49, .ref x50, .ref x51, .int x52])), (x53, .inl (x54, 8, .inl x55)), (x56, .inl (x57, 150, .inl x58)), (x59, .inl (x60, 150, .inl x61)), (x62, .inl (x63, 150, .inl x64)), (x65, .inl (x66, x67, .inr (.inl x68)))]
def wd01_28 (x0 : Nat) (x1 : Value) (x2 : Nat) (x3 : Value) (x4 : Nat) (x5 x6 x7 x8 : Value) (x9 : Nat) (x10 x11 x12 x13 x14 x15 x16 x17 : Value) (x18 : Int32) (x19 : Value) (x20 x21 x22 : Nat) (x23 x24 x25 x26 x27 x28 : Value) (x29 x30 : Int32) (x31 x32 : Value) (x33 x34 : Nat) (x35 : Value) (x36 x37 x38 : Nat) (x39 : ClassId) (x40 : Nat → Int32) (x41 : Nat) (x42 : ClassId) (x43 : Nat → Int32) (x44 : Nat) (x45 : ClassId) (x46 : Nat → Int32) (x47 x48 x49 x50 x51 : Nat) (x52 : Int32) (x53 : Nat) (x54 : ClassId) (x55 : Nat → Int32) (x56 : Nat) (x57 : ClassId) (x58 : Nat → Int32) (x59 : Nat) (x60 : ClassId) (x61 : Nat → Int32) (x62 : Nat) (x63 : ClassId) (x64 : Nat → Int32) : va_W := [(x0, .inr (10, [x1, .ref x2, x3, .ref x4, x5, x6, x7, x8, .ref x9, x10, x11, x12, x13, x14, x15, x16, x17, .int x18, x19])), (x20, .inr (2, [.ref x21, .ref x22, x23, x24, x25, x26, x27, x28, .int x29, .int x30, x31, x32])), (x33, .inr (1, [.ref x34, x35, .ref x36, .ref x37])), (x38, .inl (x39, 64, .inl x40)), (x41, .inl (x42, 8, .inl x43)), (x44, .inl (x45, 8, .inl x46)), (x47, .inr (4, [.ref x48, .ref x49, .ref x50, .ref x51, .int x52])), (x53, .inl (x54, 8, .inl x55)), (x56, .inl (x57, 150, .inl x58)), (x59, .inl (x60, 150, .inl x61)), (x62, .inl (x63, 150, .inl x64))]
def wd01_29 (x0 : Nat) (x1 : Value) (x2 x3 : Nat) (x4 : Value) (x5 : Nat) (x6 x7 x8 x9 x10 x11 x12 x13 x14 : Value) (x15 : Int32) (x16 x17 : Value) (x18 : Nat) (x19 : ClassId) (x20 : Nat → Int32) : va_W := [(x0, .inr (1, [x1, .ref x2, .ref x3, x4])), (x5, .inr (2, [x6, x7, x8, x9, x10, x11, x12, x13, x14, .int x15, x16, x17])), (x18, .inl (x19, 6, .inl x20))]
def wd01_30 (x0 x1 x2 x3 : Nat) (x4 : Value) (x5 : Nat) (x6 x7 x8 x9 x10 x11 x12 x13 x14 : Value) (x15 : Int32) (x16 x17 : Value) (x18 : Nat) (x19 : ClassId) (x20 : Nat → Int32) (x21 : Nat) (x22 : ClassId) (x23 : Nat → Int32) : va_W := [(x0, .inr (1, [.ref x1, .ref x2, .ref x3, x4])), (x5, .inr (2, [x6, x7, x8, x9, x10, x11, x12, x13, x14, .int x15, x16, x17])), (x18, .inl (x19, 64, .inl x20)), (x21, .inl (x22, 6, .inl x23))]
def wd01_31 (x0 x1 x2 x3 : Nat) (x4 : Value) (x5 : Nat) (x6 x7 x8 x9 x10 x11 x12 x13 x14 : Value) (x15 : Int32) (x16 x17 : Value) (x18 : Nat) (x19 : ClassId) (x20 : Nat → Int32) : va_W := [(x0, .inr (1, [.ref x1, .ref x2, .ref x3, x4])), (x5, .inr (2, [x6, x7, x8, x9, x10, x11, x12, x13, x14, .int x15, x16, x17])), (x18, .inl (x19, 6, .inl x20))]
def wd01_32 (x0 x1 x2 x3 : Nat) (x4 : Value) (x5 : Nat) (x6 x7 x8 x9 x10 x11 x12 x13 x14 : Value) (x15 : Int32) (x16 x17 : Value) (x18 : Nat) (x19 : ClassId) (x20 : Nat → Int32) : va_W := [(x0, .inr (1, [.ref x1, .ref x2, .ref x3, x4])), (x5, .inr (2, [x6, x7, x8, x9, x10, x11, x12, x13, x14, .int x15, x16, x17])), (x18, .inl (x19, 64, .inl x20))]
def wd01_33 (x0 : Nat) (x1 : Value) (x2 : Nat) (x3 x4 x5 x6 x7 x8 : Value) (x9 : Nat) (x10 x11 x12 x13 x14 x15 x16 x17 : Value) (x18 x19 : Int32) (x20 : Nat) (x21 x22 x23 x24 x25 x26 x27 x28 x29 : Value) (x30 : Int32) (x31 x32 : Value) (x33 x34 x35 x36 : Nat) (x37 : Value) (x38 : Nat) (x39 : ClassId) (x40 : Nat → Int32) (x41 : Nat) (x42 : ClassId) (x43 : Nat → Int32) : va_W := [(x0, .inr (10, [x1, .ref x2, x3, x4, x5, x6, x7, x8, .ref x9, x10, x11, x12, x13, x14, x15, x16, x17, .int x18, .int x19])), (x20, .inr (2, [x21, x22, x23, x24, x25, x26, x27, x28, x29, .int x30, x31, x32])), (x33, .inr (1, [.ref x34, .ref x35, .ref x36, x37])), (x38, .inl (x39, 64, .inl x40)), (x41, .inl (x42, 6, .inl x43))]
def wd01_34 (x0 : Nat) (x1 : Value) (x2 : Nat) (x3 x4 x5 x6 x7 x8 : Value) (x9 : Nat) (x10 x11 x12 x13 x14 x15 x16 x17 : Value) (x18 x19 : Int32) (x20 : Nat) (x21 x22 x23 x24 x25 x26 x27 x28 x29 : Value) (x30 : Int32) (x31 x32 : Value) : va_W := [(x0, .inr (10, [x1, .ref x2, x3, x4, x5, x6, x7, x8, .ref x9, x10, x11, x12, x13, x14, x15, x16, x17, .int x18, .int x19])), (x20, .inr (2, [x21, x22, x23, x24, x25, x26, x27, x28, x29, .int x30, x31, x32]))]
def wd01_35 (x0 x1 x2 x3 : Nat) (x4 : Value) (x5 : Nat) (x6 : ClassId) (x7 : Nat → Int32) (x8 : Nat) (x9 : ClassId) (x10 : Nat → Int32) : va_W := [(x0, .inr (1, [.ref x1, .ref x2, .ref x3, x4])), (x5, .inl (x6, 64, .inl x7)), (x8, .inl (x9, 6, .inl x10))]
def wd01_36 (x0 : Nat) (x1 : Value) (x2 : Nat) (x3 x4 x5 x6 x7 x8 : Value) (x9 : Nat) (x10 x11 x12 x13 x14 x15 x16 x17 : Value) (x18 x19 : Int32) : va_W := [(x0, .inr (10, [x1, .ref x2, x3, x4, x5, x6, x7, x8, .ref x9, x10, x11, x12, x13, x14, x15, x16, x17, .int x18, .int x19]))]
def wd01_37 (x0 : Nat) (x1 x2 x3 x4 x5 x6 x7 x8 x9 : Value) (x10 : Int32) (x11 x12 : Value) (x13 x14 x15 x16 : Nat) (x17 : Value) (x18 : Nat) (x19 : ClassId) (x20 : Nat → Int32) (x21 : Nat) (x22 : ClassId) (x23 : Nat → Int32) : va_W := [(x0, .inr (2, [x1, x2, x3, x4, x5, x6, x7, x8, x9, .int x10, x11, x12])), (x13, .inr (1, [.ref x14, .ref x15, .ref x16, x17])), (x18, .inl (x19, 64, .inl x20)), (x21, .inl (x22, 6, .inl x23))]
def wd01_38 (x0 : Nat) (x1 : Value) (x2 : Nat) (x3 x4 x5 x6 x7 x8 : Value) (x9 : Nat) (x10 x11 x12 x13 x14 x15 x16 x17 : Value) (x18 x19 : Int32) (x20 : Nat) (x21 x22 x23 x24 x25 x26 x27 x28 x29 : Value) (x30 : Int32) (x31 x32 : Value) (x33 x34 x35 x36 : Nat) (x37 : Value) (x38 : Nat) (x39 : ClassId) (x40 : Nat → Int32) (x41 : Nat) (x42 : ClassId) (x43 : Nat → Int32) (x44 : Nat) (x45 : ClassId) (x46 : Nat) (x47 : Nat → Int64) : va_W := [(x0, .inr (10, [x1, .ref x2, x3, x4, x5, x6, x7, x8, .ref x9, x10, x11, x12, x13, x14, x15, x16, x17, .int x18, .int x19])), (x20, .inr (2, [x21, x22, x23, x24, x25, x26, x27, x28, x29, .int x30, x31, x32])), (x33, .inr (1, [.ref x34, .ref x35, .ref x36, x37])), (x38, .inl (x39, 64, .inl x40)), (x41, .inl (x42, 6, .inl x43)), (x44, .inl (x45, x46, .inr (.inl x47)))]
def wd01_39 (x0 : Nat) (x1 : Value) (x2 : Nat) (x3 x4 x5 x6 x7 x8 : Value) (x9 : Nat) (x10 x11 x12 x13 x14 x15 x16 x17 : Value) (x18 : Int32) (x19 : Value) (x20 : Nat) (x21 x22 x23 x24 x25 x26 x27 x28 x29 : Value) (x30 : Int32) (x31 x32 : Value) (x33 x34 : Nat) (x35 x36 x37 : Value) (x38 : Nat) (x39 : ClassId) (x40 : Nat → Int32) : va_W := [(x0, .inr (10, [x1, .ref x2, x3, x4, x5, x6, x7, x8, .ref x9, x10, x11, x12, x13, x14, x15, x16, x17, .int x18, x19])), (x20, .inr (2, [x21, x22, x23, x24, x25, x26, x27, x28, x29, .int x30, x31, x32])), (x33, .inr (1, [.ref x34, x35, x36, x37])), (x38, .inl (x39, 64, .inl x40))]
def wd01_40 (x0 : Nat) (x1 : Value) (x2 : Nat) (x3 x4 x5 x6 x7 x8 : Value) (x9 : Nat) (x10 x11 x12 x13 x14 x15 x16 x17 : Value) (x18 : Int32) (x19 : Value) (x20 : Nat) (x21 x22 x23 x24 x25 x26 x27 x28 x29 : Value) (x30 : Int32) (x31 x32 : Value) (x33 x34 : Nat) (x35 x36 x37 : Value) (x38 : Nat) (x39 : ClassId) (x40 : Nat → Int32) (x41 : Nat) (x42 : ClassId) (x43 : Nat) (x44 : Nat → Int64) : va_W := [(x0, .inr (10, [x1, .ref x2, x3, x4, x5, x6, x7, x8, .ref x9, x10, x11, x12, x13, x14, x15, x16, x17, .int x18, x19])), (x20, .inr (2, [x21, x22, x23, x24, x25, x26, x27, x28, x29, .int x30, x31, x32])), (x33, .inr (1, [.ref x34, x35, x36, x37])), (x38, .inl (x39, 64, .inl x40)), (x41, .inl (x42, x43, .inr (.inl x44)))]
def wd01_41 (x0 x1 : Nat) (x2 : Int32) (x3 x4 x5 x6 x7 : Value) (x8 : Nat) (x9 : ClassId) (x10 : Nat → Int32) : va_W := [(x0, .inr (8, [.ref x1, .int x2, x3, x4, x5, x6, x7])), (x8, .inl (x9, 600, .inl x10))]
def wd01_42 (x0 x1 x2 : Nat) (x3 x4 x5 x6 x7 x8 : Value) (x9 : Int32) (x10 x11 x12 : Value) (x13 x14 : Nat) (x15 x16 x17 : Int32) (x18 : Value) (x19 x20 : Int32) (x21 : Nat) (x22 : ClassId) (x23 : Nat → Int32) (x24 : Nat) (x25 : ClassId) (x26 : Nat → Int32) (x27 : Nat) (x28 : ClassId) (x29 : Nat → Int32) : va_W := [(x0, .inr (2, [.ref x1, .ref x2, x3, x4, x5, x6, x7, x8, .int x9, x10, x11, x12])), (x13, .inr (8, [.ref x14, .int x15, .int x16, .int x17, x18, .int x19, .int x20])), (x21, .inl (x22, 600, .inl x23)), (x24, .inl (x25, 8, .inl x26)), (x27, .inl (x28, 8, .inl x29))]
def wd01_43 (x0 x1 : Nat) (x2 x3 x4 : Int32) (x5 : Value) (x6 x7 : Int32) : va_W := [(x0, .inr (8, [.ref x1, .int x2, .int x3, .int x4, x5, .int x6, .int x7]))]
def wd01_44 (x0 x1 : Nat) (x2 x3 x4 : Int32) (x5 : Value) (x6 x7 : Int32) (x8 : Nat) (x9 : ClassId) (x10 : Nat → Int32) : va_W := [(x0, .inr (8, [.ref x1, .int x2, .int x3, .int x4, x5, .int x6, .int x7])), (x8, .inl (x9, 600, .inl x10))]
def wd01_45 (x0 x1 x2 : Nat) (x3 x4 x5 x6 x7 x8 : Value) (x9 : Int32) (x10 x11 x12 : Value) (x13 : Nat) (x14 : ClassId) (x15 : Nat → Int32) (x16 : Nat) (x17 : ClassId) (x18 : Nat → Int32) : va_W := [(x0, .inr (2, [.ref x1, .ref x2, x3, x4, x5, x6, x7, x8, .int x9, x10, x11, x12])), (x13, .inl (x14, 8, .inl x15)), (x16, .inl (x17, 8, .inl x18))]
def wd01_46 (x0 : Nat) (x1 x2 x3 x4 : Value) (x5 x6 : Nat) (x7 x8 : Value) (x9 x10 : Int32) (x11 x12 : Value) (x13 x14 : Nat) (x15 x16 x17 : Int32) (x18 : Value) (x19 x20 : Int32) (x21 : Nat) (x22 : ClassId) (x23 : Nat → Int32) (x24 : Nat) (x25 : ClassId) (x26 : Nat → Int32) (x27 : Nat) (x28 : ClassId) (x29 : Nat → Int32) : va_W := [(x0, .inr (2, [x1, x2, x3, x4, .ref x5, .ref x6, x7, x8, .int x9, .int x10, x11, x12])), (x13, .inr (8, [.ref x14, .int x15, .int x16, .int x17, x18, .int x19, .int x20])), (x21, .inl (x22, 600, .inl x23)), (x24, .inl (x25, 6, .inl x26)), (x27, .inl (x28, 6, .inl x29))]
def wd01_47 (x0 : Nat) (x1 x2 x3 x4 : Value) (x5 x6 : Nat) (x7 x8 : Value) (x9 x10 : Int32) (x11 x12 : Value) (x13 : Nat) (x14 : ClassId) (x15 : Nat → Int32) (x16 : Nat) (x17 : ClassId) (x18 : Nat → Int32) : va_W := [(x0, .inr (2, [x1, x2, x3, x4, .ref x5, .ref x6, x7, x8, .int x9, .int x10, x11, x12])), (x13, .inl (x14, 6, .inl x15)), (x16, .inl (x17, 6, .inl x18))]
def wd01_48 (x0 : Nat) (x1 x2 : Value) (x3 x4 : Nat) (x5 x6 x7 x8 x9 x10 : Value) (x11 : Int32) (x12 : Value) (x13 x14 : Nat) (x15 x16 x17 : Int32) (x18 : Value) (x19 x20 : Int32) (x21 : Nat) (x22 : ClassId) (x23 : Nat → Int32) (x24 : Nat) (x25 : ClassId) (x26 : Nat → Int32) (x27 : Nat) (x28 : ClassId) (x29 : Nat → Int32) : va_W := [(x0, .inr (2, [x1, x2, .ref x3, .ref x4, x5, x6, x7, x8, x9, x10, .int x11, x12])), (x13, .inr (8, [.ref x14, .int x15, .int x16, .int x17, x18, .int x19, .int x20])), (x21, .inl (x22, 600, .inl x23)), (x24, .inl (x25, 4, .inl x26)), (x27, .inl (x28, 4, .inl x29))]
def wd01_49 (x0 : Nat) (x1 x2 : Value) (x3 x4 : Nat) (x5 x6 x7 x8 x9 x10 : Value) (x11 : Int32) (x12 : Value) (x13 : Nat) (x14 : ClassId) (x15 : Nat → Int32) (x16 : Nat) (x17 : ClassId) (x18 : Nat → Int32) : va_W := [(x0, .inr (2, [x1, x2, .ref x3, .ref x4, x5, x6, x7, x8, x9, x10, .int x11, x12])), (x13, .inl (x14, 4, .inl x15)), (x16, .inl (x17, 4, .inl x18))]
def wd01_50 (x0 : Nat) (x1 x2 x3 x4 x5 x6 : Value) (x7 : Nat) (x8 x9 : Value) (x10 : Int32) (x11 x12 : Value) (x13 x14 : Nat) (x15 x16 x17 : Int32) (x18 : Value) (x19 x20 : Int32) (x21 : Nat) (x22 : ClassId) (x23 : Nat → Int32) (x24 : Nat) (x25 : ClassId) (x26 : Nat → Int32) : va_W := [(x0, .inr (2, [x1, x2, x3, x4, x5, x6, .ref x7, x8, x9, .int x10, x11, x12])), (x13, .inr (8, [.ref x14, .int x15, .int x16, .int x17, x18, .int x19, .int x20])), (x21, .inl (x22, 600, .inl x23)), (x24, .inl (x25, 36, .inl x26))]
def wd01_51 (x0 : Nat) (x1 x2 x3 x4 x5 x6 : Value) (x7 : Nat) (x8 x9 : Value) (x10 : Int32) (x11 x12 : Value) (x13 : Nat) (x14 : ClassId) (x15 : Nat → Int32) : va_W := [(x0, .inr (2, [x1, x2, x3, x4, x5, x6, .ref x7, x8, x9, .int x10, x11, x12])), (x13, .inl (x14, 36, .inl x15))]
def wd01_52 (x0 : Nat) (x1 x2 x3 x4 x5 x6 : Value) (x7 : Nat) (x8 x9 : Value) (x10 : Int32) (x11 x12 : Value) (x13 : Nat) (x14 : ClassId) (x15 : Nat → Int32) (x16 : Nat) (x17 : ClassId) (x18 : Nat → Int32) : va_W := [(x0, .inr (2, [x1, x2, x3, x4, x5, x6, .ref x7, x8, x9, .int x10, x11, x12])), (x13, .inl (x14, 600, .inl x15)), (x16, .inl (x17, 36, .inl x18))]
def wd01_53 (x0 x1 x2 x3 x4 : Nat) (x5 x6 x7 x8 x9 x10 : Value) (x11 : Int32) (x12 : Value) (x13 : Nat) (x14 : ClassId) (x15 : Nat → Int32) (x16 : Nat) (x17 : ClassId) (x18 : Nat → Int32) (x19 : Nat) (x20 : ClassId) (x21 : Nat → Int32) (x22 : Nat) (x23 : ClassId) (x24 : Nat → Int32) : va_W := [(x0, .inr (2, [.ref x1, .ref x2, .ref x3, .ref x4, x5, x6, x7, x8, x9, x10, .int x11, x12])), (x13, .inl (x14, 8, .inl x15)), (x16, .inl (x17, 4, .inl x18)), (x19, .inl (x20, 8, .inl x21)), (x22, .inl (x23, 4, .inl x24))]
def wd01_54 (x0 x1 x2 x3 x4 : Nat) (x5 x6 x7 x8 : Value) (x9 : Int32) (x10 : Value) (x11 x12 : Int32) (x13 : Nat) (x14 : ClassId) (x15 : Nat → Int32) (x16 : Nat) (x17 : ClassId) (x18 : Nat → Int32) (x19 : Nat) (x20 : ClassId) (x21 : Nat → Int32) (x22 : Nat) (x23 : ClassId) (x24 : Nat → Int32) : va_W := [(x0, .inr (2, [.ref x1, .ref x2, .ref x3, .ref x4, x5, x6, x7, x8, .int x9, x10, .int x11, .int x12])), (x13, .inl (x14, 8, .inl x15)), (x16, .inl (x17, 4, .inl x18)), (x19, .inl (x20, 8, .inl x21)), (x22, .inl (x23, 4, .inl x24))]
def wd01_55 (x0 x1 x2 : Nat) (x3 x4 : Value) (x5 : Int32) (x6 : Nat) (x7 : ClassId) (x8 : Nat → Int32) (x9 : Nat) (x10 : ClassId) (x11 : Nat → Int32) : va_W := [(x0, .inr (4, [.ref x1, .ref x2, x3, x4, .int x5])), (x6, .inl (x7, 150, .inl x8)), (x9, .inl (x10, 150, .inl x11))]
def wd01_56 (x0 x1 : Nat) (x2 : Value) (x3 x4 x5 : Nat) (x6 : ClassId) (x7 : Nat → Int32) (x8 : Nat) (x9 x10 x11 x12 : Value) (x13 x14 x15 : Nat) (x16 x17 : Value) (x18 : Int32) (x19 x20 : Value) (x21 : Nat) (x22 : ClassId) (x23 : Nat → Int32) (x24 : Nat) (x25 : ClassId) (x26 : Nat → Int32) (x27 : Nat) (x28 : ClassId) (x29 : Nat → Int32) : va_W := [(x0, .inr (1, [.ref x1, x2, .ref x3, .ref x4])), (x5, .inl (x6, 64, .inl x7)), (x8, .inr (2, [x9, x10, x11, x12, .ref x13, .ref x14, .ref x15, x16, x17, .int x18, x19, x20])), (x21, .inl (x22, 36, .inl x23)), (x24, .inl (x25, 6, .inl x26)), (x27, .inl (x28, 6, .inl x29))]
def wd01_57 (x0 x1 : Nat) (x2 x3 x4 : Value) (x5 : Nat) (x6 : ClassId) (x7 : Nat → Int32) (x8 : Nat) (x9 x10 x11 x12 : Value) (x13 x14 x15 : Nat) (x16 x17 : Value) (x18 : Int32) (x19 x20 : Value) (x21 : Nat) (x22 : ClassId) (x23 : Nat → Int32) (x24 : Nat) (x25 : ClassId) (x26 : Nat → Int32) (x27 : Nat) (x28 : ClassId) (x29 : Nat → Int32) : va_W := [(x0, .inr (1, [.ref x1, x2, x3, x4])), (x5, .inl (x6, 64, .inl x7)), (x8, .inr (2, [x9, x10, x11, x12, .ref x13, .ref x14, .ref x15, x16, x17, .int x18, x19, x20])), (x21, .inl (x22, 36, .inl x23)), (x24, .inl (x25, 6, .inl x26)), (x27, .inl (x28, 6, .inl x29))]
def wd01_58 (x0 x1 : Nat) (x2 : Value) (x3 : Nat) (x4 : Value) (x5 : Nat) (x6 : ClassId) (x7 : Nat → Int32) (x8 : Nat) (x9 x10 x11 x12 : Value) (x13 x14 x15 : Nat) (x16 x17 : Value) (x18 : Int32) (x19 x20 : Value) (x21 : Nat) (x22 : ClassId) (x23 : Nat → Int32) (x24 : Nat) (x25 : ClassId) (x26 : Nat → Int32) (x27 : Nat) (x28 : ClassId) (x29 : Nat → Int32) : va_W := [(x0, .inr (1, [.ref x1, x2, .ref x3, x4])), (x5, .inl (x6, 64, .inl x7)), (x8, .inr (2, [x9, x10, x11, x12, .ref x13, .ref x14, .ref x15, x16, x17, .int x18, x19, x20])), (x21, .inl (x22, 36, .inl x23)), (x24, .inl (x25, 6, .inl x26)), (x27, .inl (x28, 6, .inl x29))]
theorem ui_X10_bouts_X10 : ∀ w ∈ u_ws RX10 TX10 19, w ∈ wsX10_bouts := uiM mbX10_bouts euX10 (by decide +kernel)
theorem ui_X10_bouts_X2 : ∀ w ∈ u_ws RX2 TX2 12, w ∈ wsX10_bouts := uiM mbX10_bouts euX2 (by decide +kernel)
theorem uw_X10_bouts_f141 : (.fieldLink RX10 141 "MarchHares$Down" "hares" "I" : Cond) ∈ wsX10_bouts := mbX10_bouts 644 (by decide +kernel)
theorem uw_X10_bouts_f19 : (.fieldLink RX10 19 "MarchHares" "ground" "LMarchHares$Down;" : Cond) ∈ wsX10_bouts := mbX10_bouts 20 (by decide +kernel)
theorem uw_X10_bouts_f58 : (.fieldLink RX10 58 "MarchHares" "now" "LMarchHares$Days;" : Cond) ∈ wsX10_bouts := mbX10_bouts 79 (by decide +kernel)
set_option maxHeartbeats 4000000 in
set_option maxRecDepth 100000 in
theorem kb_X10_bouts_80 {p : Program} {l : Launch} {e : Env} {s : State} {m : MethodId} {args : Array Value} {below : List Frame} {meth : Method} {c : Code} {A : Nat → Prop} (dC : Nat → ClassId) (dI : Nat → Nat → Nat) (cyB cyI cyJ cyP : ClassId) (a0 jaR jaT jbb : Nat) (jaK ja1 jcp jbc jbV ja3 jbH jbO jaq jac jbI jbl jbn jba jaa jdD jcB jcC jbo jbp jbk jbj jbe jbq jef jbi jcd jbr jfc : Value) (jbm : Int32) (jbQ : Nat → Int32) (E : String → Int32 → Prop) (Q : Int32 → Int32 → Prop) (K31 : Int32 → Int32 → Int32 → Int32 → Int32 → Prop) (hK31 : ∀ (H : Heap) (locs : List Loc) (ls : Array Slot) (jdu l1 l2 l3 l4 : Int32), va_P (dC, dI) vwCl (wd01_0 a0 jaK jaR ja1 jcp jbc jbV ja3 jbH jaT jbO jaq jac jbI jbl jbn jba jaa jdu jdD jaR jcB jcC jbo jbp jbk jbj jbe jbq jef jbm jbi jcd jaT jbb jbr jaR jfc jbb cyI jbQ) H → va_D A (wd01_0 a0 jaK jaR ja1 jcp jbc jbV ja3 jbH jaT jbO jaq jac jbI jbl jbn jba jaa jdu jdD jaR jcB jcC jbo jbp jbk jbj jbe jbq jef jbm jbi jcd jaT jbb jbr jaR jfc jbb cyI jbQ) → va_S A s.heap H locs → lv_has ls 5 [(0, .ref a0), (1, .int l1), (2, .int l2), (3, .int l3), (4, .int l4)] → K31 jdu l1 l2 l3 l4 → W p l e (headSpec wsX10_bouts ({ frames := 7, cells := 1, slots := 6, locals := 212 })).room s m args below meth c H locs 1 6 (vx_MQ below (va_Qi (fun (r u : Int32) => Q r u) (cB (dC, dI) (kT cyB cyI cyJ cyP) A (fun u : Int32 => ((wd01_0 a0 jaK jaR ja1 jcp jbc jbV ja3 jbH jaT jbO jaq jac jbI jbl jbn jba jaa u jdD jaR jcB jcC jbo jbp jbk jbj jbe jbq jef jbm jbi jcd jaT jbb jbr jaR jfc jbb cyI jbQ) : va_W))) A) (vx_X (fun _ => True) (fun (en : String) (u : Int32) (t : State) => E en u ∧ cB (dC, dI) (kT cyB cyI cyJ cyP) A (fun u : Int32 => ((wd01_0 a0 jaK jaR ja1 jcp jbc jbV ja3 jbH jaT jbO jaq jac jbI jbl jbn jba jaa u jdD jaR jcB jcC jbo jbp jbk jbj jbe jbq jef jbm jbi jcd jaT jbb jbr jaR jfc jbb cyI jbQ) : va_W)) u t) A) args s 1 6 A) (F0 m 31 ls [])) (C0 : cfx p s m args meth c cX10_bouts (some .int) wsX10_bouts RX10 5 A (dC, dI) (kT cyB cyI cyJ cyP) ∧ cfX l s c A) : ∀ (H : Heap) (locs : List Loc) (ls : Array Slot) (jdu l1 l2 l3 l4 : Int32), va_P (dC, dI) vwCl (wd01_0 a0 jaK jaR ja1 jcp jbc jbV ja3 jbH jaT jbO jaq jac jbI jbl jbn jba jaa jdu jdD jaR jcB jcC jbo jbp jbk jbj jbe jbq jef jbm jbi jcd jaT jbb jbr jaR jfc jbb cyI jbQ) H → va_D A (wd01_0 a0 jaK jaR ja1 jcp jbc jbV ja3 jbH jaT jbO jaq jac jbI jbl jbn jba jaa jdu jdD jaR jcB jcC jbo jbp jbk jbj jbe jbq jef jbm jbi jcd jaT jbb jbr jaR jfc jbb cyI jbQ) → va_S A s.heap H locs → lv_has ls 5 [(0, .ref a0), (1, .int l1), (2, .int l2), (3, .int l3), (4, .int l4)] → wb_X10_bouts_80 jbm jbQ E Q K31 jdu l1 l2 l3 l4 → W p l e (headSpec wsX10_bouts ({ frames := 7, cells := 1, slots := 6, locals := 212 })).room s m args below meth c H locs 1 6 (vx_MQ below (va_Qi (fun (r u : Int32) => Q r u) (cB (dC, dI) (kT cyB cyI cyJ cyP) A (fun u : Int32 => ((wd01_0 a0 jaK jaR ja1 jcp jbc jbV ja3 jbH jaT jbO jaq jac jbI jbl jbn jba jaa u jdD jaR jcB jcC jbo jbp jbk jbj jbe jbq jef jbm jbi jcd jaT jbb jbr jaR jfc jbb cyI jbQ) : va_W))) A) (vx_X (fun _ => True) (fun (en : String) (u : Int32) (t : State) => E en u ∧ cB (dC, dI) (kT cyB cyI cyJ cyP) A (fun u : Int32 => ((wd01_0 a0 jaK jaR ja1 jcp jbc jbV ja3 jbH jaT jbO jaq jac jbI jbl jbn jba jaa u jdD jaR jcB jcC jbo jbp jbk jbj jbe jbq jef jbm jbi jcd jaT jbb jbr jaR jfc jbb cyI jbQ) : va_W)) u t) A) args s 1 6 A) (F0 m 80 ls []) := by
  obtain ⟨⟨hx, hb, hr, hts, hown, hlocks, hml, hA, hK, hNw⟩, hXs⟩ := id C0
  have hY := hXs.2
  intro H locs ls jdu l1 l2 l3 l4 hP hD hS hl hw
  obtain ⟨x11, ex11⟩ : ∃ y : Int32, y = l4 + 1 := ⟨_, rfl⟩
  have hw := hw x11 ex11
  refine lv_iinc (v := x11) (lv' := [(4, .int x11), (0, .ref a0), (1, .int l1), (2, .int l2), (3, .int l3)]) hx hb (dt_of tkX10_bouts_k60 12 rfl) hl (k := 4) rfl (by rw [ex11]; rfl) (by decide) rfl (fun ls hl => ?_)
  refine lv_goto (tgt := 31) hx hb (dt_of tkX10_bouts_k60 13 rfl) (by decide) ?_
  exact hK31 _ _ _ jdu l1 l2 l3 x11 hP hD hS (lv_sub hl [1, 2, 3, 4, 0] rfl) hw
set_option maxHeartbeats 4000000 in
set_option maxRecDepth 100000 in
theorem kl_X10_bouts_31 {p : Program} {l : Launch} {e : Env} {s : State} {m : MethodId} {args : Array Value} {below : List Frame} {meth : Method} {c : Code} {A : Nat → Prop} (dC : Nat → ClassId) (dI : Nat → Nat → Nat) (cyB cyI cyJ cyP : ClassId) (a0 jaR jaT jbb : Nat) (jaK ja1 jcp jbc jbV ja3 jbH jbO jaq jac jbI jbl jbn jba jaa jdD jcB jcC jbo jbp jbk jbj jbe jbq jef jbi jcd jbr jfc : Value) (jbm : Int32) (jbQ : Nat → Int32) (E : String → Int32 → Prop) (Q : Int32 → Int32 → Prop)  (C0 : cfx p s m args meth c cX10_bouts (some .int) wsX10_bouts RX10 5 A (dC, dI) (kT cyB cyI cyJ cyP) ∧ cfX l s c A) : ∀ (n : Nat) (H : Heap) (locs : List Loc) (ls : Array Slot) (jdu l1 l2 l3 l4 : Int32), va_P (dC, dI) vwCl (wd01_0 a0 jaK jaR ja1 jcp jbc jbV ja3 jbH jaT jbO jaq jac jbI jbl jbn jba jaa jdu jdD jaR jcB jcC jbo jbp jbk jbj jbe jbq jef jbm jbi jcd jaT jbb jbr jaR jfc jbb cyI jbQ) H → va_D A (wd01_0 a0 jaK jaR ja1 jcp jbc jbV ja3 jbH jaT jbO jaq jac jbI jbl jbn jba jaa jdu jdD jaR jcB jcC jbo jbp jbk jbj jbe jbq jef jbm jbi jcd jaT jbb jbr jaR jfc jbb cyI jbQ) → va_S A s.heap H locs → lv_has ls 5 [(0, .ref a0), (1, .int l1), (2, .int l2), (3, .int l3), (4, .int l4)] → wl_X10_bouts_31 jbm jbQ E Q  n jdu l1 l2 l3 l4 → W p l e (headSpec wsX10_bouts ({ frames := 7, cells := 1, slots := 6, locals := 212 })).room s m args below meth c H locs 1 6 (vx_MQ below (va_Qi (fun (r u : Int32) => Q r u) (cB (dC, dI) (kT cyB cyI cyJ cyP) A (fun u : Int32 => ((wd01_0 a0 jaK jaR ja1 jcp jbc jbV ja3 jbH jaT jbO jaq jac jbI jbl jbn jba jaa u jdD jaR jcB jcC jbo jbp jbk jbj jbe jbq jef jbm jbi jcd jaT jbb jbr jaR jfc jbb cyI jbQ) : va_W))) A) (vx_X (fun _ => True) (fun (en : String) (u : Int32) (t : State) => E en u ∧ cB (dC, dI) (kT cyB cyI cyJ cyP) A (fun u : Int32 => ((wd01_0 a0 jaK jaR ja1 jcp jbc jbV ja3 jbH jaT jbO jaq jac jbI jbl jbn jba jaa u jdD jaR jcB jcC jbo jbp jbk jbj jbe jbq jef jbm jbi jcd jaT jbb jbr jaR jfc jbb cyI jbQ) : va_W)) u t) A) args s 1 6 A) (F0 m 31 ls []) := by
  obtain ⟨⟨hx, hb, hr, hts, hown, hlocks, hml, hA, hK, hNw⟩, hXs⟩ := id C0
  have hY := hXs.2
  intro n
  induction n with
  | zero => intro H locs ls jdu l1 l2 l3 l4 hP hD hS hl hw; exact False.elim hw
  | succ n ih =>
    intro H locs ls jdu l1 l2 l3 l4 hP hD hS hl hw
    refine lv_iload hx hb (dt_of tkX10_bouts_k28 2 rfl) (lv_at hl 4 rfl) ?_
    refine lv_aload_n hx hb (dt_of tkX10_bouts_k28 3 rfl) rfl (lv_at hl 0 rfl) ?_
    refine va_get (D := (dC, dI)) (ci := 10) (v := .ref jaR) (C := RX10) (T := TX10) (N := 19) hx hb hts ui_X10_bouts_X10 hown hK hP 0 rfl rfl 1 (by decide) (hts _ uw_X10_bouts_f19) (fun _ h9 => h9) rfl (dt_of tkX10_bouts_k28 4 rfl) ?_
    refine va_get (D := (dC, dI)) (ci := 2) (v := .int jbm) (C := RX2) (T := TX2) (N := 12) hx hb hts ui_X10_bouts_X2 hown hK hP 1 rfl rfl 9 (by decide) (hts _ uw_X10_bouts_f141) (fun _ h9 => h9) rfl (dt_of tkX10_bouts_k28 5 rfl) ?_
    refine lv_icmp_ge (tgt := 86) hx hb (dt_of tkX10_bouts_k28 6 rfl) (by decide) (fun c5 => ?_) (fun c5 => ?_)
    · have hw := hw.1 c5
      refine lv_iload_n hx hb (dt_of tkX10_bouts_k60 14 rfl) rfl (lv_at hl 3 rfl) ?_
      exact vx_ret (W.widen (k := 1) (n := 6) (Nat.le_of_ble_eq_true rfl) (Nat.le_of_ble_eq_true rfl) (W.iret (v := l3) hx hb hr (fun t ht hW => ⟨⟨l3, (jdu), rfl, hw, by rw [ht]; exact hP, va_K.moved hW.alike hK, hD⟩, hS.F ht⟩) hS.2.2 (dt_of tkX10_bouts_k60 15 rfl)))
    · have hw := hw.2 c5
      refine lv_iload_n hx hb (dt_of tkX10_bouts_k28 7 rfl) rfl (lv_at hl 2 rfl) ?_
      refine lv_iload hx hb (dt_of tkX10_bouts_k28 8 rfl) (lv_at hl 4 rfl) ?_
      obtain ⟨hCc, hPc, hDc, hFc⟩ := va_pick (ws' := []) hP hD hS hA [] (by decide +kernel) rfl
      refine va_calli (va_runS (As := [.int l2, .int l4]) (rest := []) ⟨hx, hb, hml, hown, hts⟩ (ck_X10_holds l dC dI cyB cyI cyJ cyP  H.size    l2 l4 hw) (va_cwS 2 hts gX10_bouts_X10_holds rfl rfl rfl (by decide +kernel) ⟨Nat.le_of_ble_eq_true rfl, Nat.le_of_ble_eq_true rfl⟩) ⟨cPc_blind, cPc_pre hPc hK hDc hNw⟩ rfl rfl hl.1 rfl (lv_room (Nat.le_of_ble_eq_true rfl)) (dt_of tkX10_bouts_k28 9 rfl) ⟨Nat.le_of_ble_eq_true rfl, Nat.le_of_ble_eq_true rfl⟩) hS (fun q _ h => hFc q h) hFc (fun r6 u t H1 locs ht hvm hw hB hz1 hk1 hS => ?_)
      obtain ⟨hP1, hK1, hD1⟩ := hB
      rw [ht] at hP1
      obtain ⟨hP, hD⟩ := va_joinI (wr := (wd01_0 a0 jaK jaR ja1 jcp jbc jbV ja3 jbH jaT jbO jaq jac jbI jbl jbn jba jaa jdu jdD jaR jcB jcC jbo jbp jbk jbj jbe jbq jef jbm jbi jcd jaT jbb jbr jaR jfc jbb cyI jbQ)) (w1 := []) (wn := (wd01_0 a0 jaK jaR ja1 jcp jbc jbV ja3 jbH jaT jbO jaq jac jbI jbl jbn jba jaa jdu jdD jaR jcB jcC jbo jbp jbk jbj jbe jbq jef jbm jbi jcd jaT jbb jbr jaR jfc jbb cyI jbQ)) hP hD [] [0, 1, 2, 3] hCc rfl (by decide +kernel) (by decide +kernel) rfl hk1 hFc hP1 hD1
      generalize H1 = H at hP hS ⊢
      refine lv_if_eq (tgt := 80) hx hb (dt_of tkX10_bouts_k28 10 rfl) (by decide) (fun c7 => ?_) (fun c7 => ?_)
      · have hw := hw.1 c7
        exact kb_X10_bouts_80 dC dI cyB cyI cyJ cyP a0 jaR jaT jbb jaK ja1 jcp jbc jbV ja3 jbH jbO jaq jac jbI jbl jbn jba jaa jdD jcB jcC jbo jbp jbk jbj jbe jbq jef jbi jcd jbr jfc jbm jbQ E Q (wl_X10_bouts_31 jbm jbQ E Q  n) ih C0 _ _ _ jdu l1 l2 l3 l4 hP hD hS (lv_sub hl [0, 1, 2, 3, 4] rfl) hw
      · have hw := hw.2 c7
        refine lv_iload_n hx hb (dt_of tkX10_bouts_k28 11 rfl) rfl (lv_at hl 3 rfl) ?_
        refine lv_aload_n hx hb (dt_of tkX10_bouts_k28 12 rfl) rfl (lv_at hl 0 rfl) ?_
        refine va_get (D := (dC, dI)) (ci := 10) (v := .ref jaT) (C := RX10) (T := TX10) (N := 19) hx hb hts ui_X10_bouts_X10 hown hK hP 0 rfl rfl 8 (by decide) (hts _ uw_X10_bouts_f58) (fun _ h9 => h9) rfl (dt_of tkX10_bouts_k28 13 rfl) ?_
        refine lv_iload_n hx hb (dt_of tkX10_bouts_k28 14 rfl) rfl (lv_at hl 1 rfl) ?_
        refine lv_iload hx hb (dt_of tkX10_bouts_k28 15 rfl) (lv_at hl 4 rfl) ?_
        refine lv_aload_n hx hb (dt_of tkX10_bouts_k60 0 rfl) rfl (lv_at hl 0 rfl) ?_
        refine va_get (D := (dC, dI)) (ci := 10) (v := .ref jaT) (C := RX10) (T := TX10) (N := 19) hx hb hts ui_X10_bouts_X10 hown hK hP 0 rfl rfl 8 (by decide) (hts _ uw_X10_bouts_f58) (fun _ h9 => h9) rfl (dt_of tkX10_bouts_k60 1 rfl) ?_
        refine lv_iload hx hb (dt_of tkX10_bouts_k60 2 rfl) (lv_at hl 4 rfl) ?_
        obtain ⟨hCc, hPc, hDc, hFc⟩ := va_pick (ws' := (wd01_1 jaT jbb jbr jaR jfc jbb cyI jbQ)) hP hD hS hA [2, 3] (by decide +kernel) rfl
        refine va_calli (va_runV (As := [.int l4]) (rest := [.int l4, .int l1, .ref jaT, .int l3]) ⟨hx, hb, hml, hown, hts⟩ (ck_X1_strong l dC dI cyB cyI cyJ cyP jaT jbb H.size (jbr) (.ref jaR) (jfc) jbQ  l4 hw) (cwV 1 hts gX10_bouts_X1_strong rfl rfl rfl (by decide +kernel) ⟨Nat.le_of_ble_eq_true rfl, Nat.le_of_ble_eq_true rfl⟩) ⟨cPc_blind, va_recv (q := (RX1, TX1, 4)) hK hPc (ci := 1) (q0 := 0) rfl rfl, cPc_pre hPc hK hDc hNw⟩ rfl rfl hl.1 rfl (lv_room (Nat.le_of_ble_eq_true rfl)) (dt_of tkX10_bouts_k60 3 rfl) ⟨Nat.le_of_ble_eq_true rfl, Nat.le_of_ble_eq_true rfl⟩) hS (fun q _ h => hFc q h) hFc (fun r8 u t H1 locs ht hvm hw hB hz1 hk1 hS => ?_)
        obtain ⟨hP1, hK1, hD1⟩ := hB
        rw [ht] at hP1
        obtain ⟨hP, hD⟩ := va_joinI (wr := (wd01_2 a0 jaK jaR ja1 jcp jbc jbV ja3 jbH jaT jbO jaq jac jbI jbl jbn jba jaa jdu jdD jaR jcB jcC jbo jbp jbk jbj jbe jbq jef jbm jbi jcd)) (w1 := (wd01_1 jaT jbb jbr jaR jfc jbb cyI jbQ)) (wn := (wd01_0 a0 jaK jaR ja1 jcp jbc jbV ja3 jbH jaT jbO jaq jac jbI jbl jbn jba jaa jdu jdD jaR jcB jcC jbo jbp jbk jbj jbe jbq jef jbm jbi jcd jaT jbb jbr jaR jfc jbb cyI jbQ)) hP hD [2, 3] [0, 1] hCc rfl (by decide +kernel) (by decide +kernel) rfl hk1 hFc hP1 hD1
        generalize H1 = H at hP hS ⊢
        refine lv_iload_n hx hb (dt_of tkX10_bouts_k60 4 rfl) rfl (lv_at hl 2 rfl) ?_
        refine lv_iconst (v := 1) hx hb (dt_of tkX10_bouts_k60 5 rfl) (by decide) ?_
        refine lv_iload hx hb (dt_of tkX10_bouts_k60 6 rfl) (lv_at hl 4 rfl) ?_
        refine lv_ishl hx hb (dt_of tkX10_bouts_k60 7 rfl) ?_
        refine lv_ixor hx hb (dt_of tkX10_bouts_k60 8 rfl) ?_
        obtain ⟨hCc, hPc, hDc, hFc⟩ := va_pick (ws' := (wd01_1 jaT jbb jbr jaR jfc jbb cyI jbQ)) hP hD hS hA [2, 3] (by decide +kernel) rfl
        refine va_calli (va_runS (As := [.ref jaT, .int l1, .int l4, .int r8, .int (l2 ^^^ (1 <<< (l4 &&& 31)))]) (rest := [.int l3]) ⟨hx, hb, hml, hown, hts⟩ (ck_X10_ordersWon_r5 l dC dI cyB cyI cyJ cyP jaT jbb H.size (jbr) (.ref jaR) (jfc) jbQ  l1 l4 r8 (l2 ^^^ (1 <<< (l4 &&& 31))) hw) (va_cwS 5 hts gX10_bouts_X10_ordersWon rfl rfl rfl (by decide +kernel) ⟨Nat.le_of_ble_eq_true rfl, Nat.le_of_ble_eq_true rfl⟩) ⟨cPc_blind, cPc_pre hPc hK hDc hNw⟩ rfl rfl hl.1 rfl (lv_room (Nat.le_of_ble_eq_true rfl)) (dt_of tkX10_bouts_k60 9 rfl) ⟨Nat.le_of_ble_eq_true rfl, Nat.le_of_ble_eq_true rfl⟩) hS (fun q _ h => hFc q h) hFc (fun r9 u t H1 locs ht hvm hw hB hz1 hk1 hS => ?_)
        obtain ⟨hP1, hK1, hD1⟩ := hB
        rw [ht] at hP1
        obtain ⟨hP, hD⟩ := va_joinI (wr := (wd01_2 a0 jaK jaR ja1 jcp jbc jbV ja3 jbH jaT jbO jaq jac jbI jbl jbn jba jaa jdu jdD jaR jcB jcC jbo jbp jbk jbj jbe jbq jef jbm jbi jcd)) (w1 := (wd01_1 jaT jbb jbr jaR jfc jbb cyI jbQ)) (wn := (wd01_0 a0 jaK jaR ja1 jcp jbc jbV ja3 jbH jaT jbO jaq jac jbI jbl jbn jba jaa jdu jdD jaR jcB jcC jbo jbp jbk jbj jbe jbq jef jbm jbi jcd jaT jbb jbr jaR jfc jbb cyI jbQ)) hP hD [2, 3] [0, 1] hCc rfl (by decide +kernel) (by decide +kernel) rfl hk1 hFc hP1 hD1
        generalize H1 = H at hP hS ⊢
        refine lv_iadd hx hb (dt_of tkX10_bouts_k60 10 rfl) ?_
        refine lv_topi (fun x10 ex10 => ?_)
        have hw := hw x10 ex10
        refine lv_istore_n (lv' := [(3, .int x10), (0, .ref a0), (1, .int l1), (2, .int l2), (4, .int l4)]) hx hb (dt_of tkX10_bouts_k60 11 rfl) rfl hl (by decide) rfl (fun ls hl => ?_)
        exact kb_X10_bouts_80 dC dI cyB cyI cyJ cyP a0 jaR jaT jbb jaK ja1 jcp jbc jbV ja3 jbH jbO jaq jac jbI jbl jbn jba jaa jdD jcB jcC jbo jbp jbk jbj jbe jbq jef jbi jcd jbr jfc jbm jbQ E Q (wl_X10_bouts_31 jbm jbQ E Q  n) ih C0 _ _ _ jdu l1 l2 x10 l4 hP hD hS (lv_sub hl [1, 2, 3, 0, 4] rfl) hw
set_option maxHeartbeats 4000000 in
set_option maxRecDepth 100000 in
theorem ck_X10_bouts (l : Launch) (dC : Nat → ClassId) (dI : Nat → Nat → Nat) (cyB cyI cyJ cyP : ClassId) (a0 jaR jaT jbb sz : Nat) (jaK ja1 jcp jbc jbV ja3 jbH jbO jaq jac jbI jbl jbn jba jaa jdD jcB jcC jbo jbp jbk jbj jbe jbq jef jbi jcd jbr jfc : Value) (jbm : Int32) (jbQ : Nat → Int32) (jdu p1 : Int32) {E : String → Int32 → Prop} {Q : Int32 → Int32 → Prop} (hw : wq_X10_bouts jbm jbQ jdu p1 E Q) : vx_Met l yX10_bouts wsX10_bouts ({ frames := 7, cells := 1, slots := 6, locals := 212 }) (va_Pc [.ref a0, .int p1] (cPx l (dC, dI) (kT cyB cyI cyJ cyP) (wd01_0 a0 jaK jaR ja1 jcp jbc jbV ja3 jbH jaT jbO jaq jac jbI jbl jbn jba jaa jdu jdD jaR jcB jcC jbo jbp jbk jbj jbe jbq jef jbm jbi jcd jaT jbb jbr jaR jfc jbb cyI jbQ) sz)) (va_Qi (fun (r u : Int32) => Q r u) (cB (dC, dI) (kT cyB cyI cyJ cyP) (va_A (wd01_0 a0 jaK jaR ja1 jcp jbc jbV ja3 jbH jaT jbO jaq jac jbI jbl jbn jba jaa jdu jdD jaR jcB jcC jbo jbp jbk jbj jbe jbq jef jbm jbi jcd jaT jbb jbr jaR jfc jbb cyI jbQ) sz) (fun u : Int32 => ((wd01_0 a0 jaK jaR ja1 jcp jbc jbV ja3 jbH jaT jbO jaq jac jbI jbl jbn jba jaa u jdD jaR jcB jcC jbo jbp jbk jbj jbe jbq jef jbm jbi jcd jaT jbb jbr jaR jfc jbb cyI jbQ) : va_W))) (va_A (wd01_0 a0 jaK jaR ja1 jcp jbc jbV ja3 jbH jaT jbO jaq jac jbI jbl jbn jba jaa jdu jdD jaR jcB jcC jbo jbp jbk jbj jbe jbq jef jbm jbi jcd jaT jbb jbr jaR jfc jbb cyI jbQ) sz)) (vx_X (fun _ => True) (fun (en : String) (u : Int32) (t : State) => E en u ∧ cB (dC, dI) (kT cyB cyI cyJ cyP) (va_A (wd01_0 a0 jaK jaR ja1 jcp jbc jbV ja3 jbH jaT jbO jaq jac jbI jbl jbn jba jaa jdu jdD jaR jcB jcC jbo jbp jbk jbj jbe jbq jef jbm jbi jcd jaT jbb jbr jaR jfc jbb cyI jbQ) sz) (fun u : Int32 => ((wd01_0 a0 jaK jaR ja1 jcp jbc jbV ja3 jbH jaT jbO jaq jac jbI jbl jbn jba jaa u jdD jaR jcB jcC jbo jbp jbk jbj jbe jbq jef jbm jbi jcd jaT jbb jbr jaR jfc jbb cyI jbQ) : va_W)) u t) (va_A (wd01_0 a0 jaK jaR ja1 jcp jbc jbV ja3 jbH jaT jbO jaq jac jbI jbl jbn jba jaa jdu jdD jaR jcB jcC jbo jbp jbk jbj jbe jbq jef jbm jbi jcd jaT jbb jbr jaR jfc jbb cyI jbQ) sz)) 1 6 (va_A (wd01_0 a0 jaK jaR ja1 jcp jbc jbV ja3 jbH jaT jbO jaq jac jbI jbl jbn jba jaa jdu jdD jaR jcB jcC jbo jbp jbk jbj jbe jbq jef jbm jbi jcd jaT jbb jbr jaR jfc jbb cyI jbQ) sz) := by
  refine vx_ofW (cc := cX10_bouts) (maxL := 5) (ret := (some .int)) (by decide) rfl ?_
  intro p e s m args below meth c s₁ B hml hnt hv
  obtain ⟨rfl, hsz, hP, hK, hD0, hNw, hXl, hXu, hXn, hXt⟩ := hv
  have hx := B.exec
  have hb := B.bytes
  have hr := B.returns
  have hts := atoms_spec (ws := wsX10_bouts) B.pre
  have hown : s.vm.findClass RX10 = some m.cls := findClass_of_methodNamed B.named
  have hlocks := B.notSynchronized
  subst hsz
  have hD := hD0.self (sz := s.heap.size)
  generalize hAe : va_A (wd01_0 a0 jaK jaR ja1 jcp jbc jbV ja3 jbH jaT jbO jaq jac jbI jbl jbn jba jaa jdu jdD jaR jcB jcC jbo jbp jbk jbj jbe jbq jef jbm jbi jcd jaT jbb jbr jaR jfc jbb cyI jbQ) s.heap.size = A at hD hXu hXn ⊢
  have hA : ∀ q : Nat, s.heap.size ≤ q → A q := fun q h => by rw [← hAe]; exact Or.inr h
  have hS : va_S A s.heap s.heap [] := va_S.rf
  have hP : va_P (dC, dI) vwCl (wd01_0 a0 jaK jaR ja1 jcp jbc jbV ja3 jbH jaT jbO jaq jac jbI jbl jbn jba jaa jdu jdD jaR jcB jcC jbo jbp jbk jbj jbe jbq jef jbm jbi jcd jaT jbb jbr jaR jfc jbb cyI jbQ) s.heap := hP
  have hl := lv_entry ([.ref a0, .int p1]) (n := 5) (Nat.le_of_ble_eq_true rfl)
  rw [lg_entry_eq]
  generalize (lg_sl ([.ref a0, .int p1]) ++ List.replicate (5 - (lg_sl ([.ref a0, .int p1])).length) Slot.unset).toArray = ls at hl ⊢
  have hl : lv_has ls 5 [(0, .ref a0), (1, .int p1)] := hl
  have hY : cfY l s A := ⟨hXl, hXu, hXn, hXt⟩
  have hXs : cfX l s c A := ⟨hnt, hY⟩
  have C0 : cfx p s m _ meth c cX10_bouts (some .int) wsX10_bouts RX10 5 A (dC, dI) (kT cyB cyI cyJ cyP) ∧ cfX l s c A := ⟨⟨hx, hb, hr, hts, hown, hlocks, hml, hA, hK, hNw⟩, hXs⟩
  clear hAe
  obtain ⟨H, hH⟩ : ∃ H, H = s.heap := ⟨_, rfl⟩
  rw [← hH] at hP ⊢
  have hS : va_S A s.heap H [] := by rw [hH]; exact va_S.rf
  have hS := hS
  refine lv_aload_n hx hb (dt_of tkX10_bouts_k0 0 rfl) rfl (lv_at hl 0 rfl) ?_
  refine lv_iload_n hx hb (dt_of tkX10_bouts_k0 1 rfl) rfl (lv_at hl 1 rfl) ?_
  obtain ⟨hCc, hPc, hDc, hFc⟩ := va_pick (ws' := (wd01_2 a0 jaK jaR ja1 jcp jbc jbV ja3 jbH jaT jbO jaq jac jbI jbl jbn jba jaa jdu jdD jaR jcB jcC jbo jbp jbk jbj jbe jbq jef jbm jbi jcd)) hP hD hS hA [0, 1] (by decide +kernel) rfl
  refine vx_callv (vx_runV (As := [.int p1]) (rest := []) ⟨hx, hb, hml, hown, hts⟩ (ck_X10_needHare l dC dI cyB cyI cyJ cyP a0 jaR H.size (jaK) (ja1) (jcp) (jbc) (jbV) (ja3) (jbH) (.ref jaT) (jbO) (jaq) (jac) (jbI) (jbl) (jbn) (jba) (jaa) (jdD) (jcB) (jcC) (jbo) (jbp) (jbk) (jbj) (jbe) (jbq) (jef) (jbi) (jcd) jbm jdu p1 hw) (cwV 1 hts gX10_bouts_X10_needHare rfl rfl rfl (by decide +kernel) ⟨Nat.le_of_ble_eq_true rfl, Nat.le_of_ble_eq_true rfl⟩) ⟨cPx_blind, va_recv (q := (RX10, TX10, 19)) hK hPc (ci := 10) (q0 := 0) rfl rfl, cPx_pre hPc hK hDc hNw hY hS hFc⟩ rfl rfl hl.1 rfl (lv_room (Nat.le_of_ble_eq_true rfl)) (dt_of tkX10_bouts_k0 2 rfl) ⟨Nat.le_of_ble_eq_true rfl, Nat.le_of_ble_eq_true rfl⟩) hS (fun q _ h => hFc q h) hFc (fun q _ h => hFc q h) (fun en ce q9 u t H1 locs ht hvm hpx hB hz1 hk1 hS hc9 hv9 hcl9 => ?_) (fun u t H1 locs ht hvm hw hB hz1 hk1 hS => ?_)
  · obtain ⟨x1, rfl⟩ : ∃ z, z = u := ⟨_, rfl⟩
    obtain ⟨hw, hP1, hK1, hD1⟩ := hB
    rw [ht] at hP1
    obtain ⟨hP, hD⟩ := va_joinN (wr := (wd01_1 jaT jbb jbr jaR jfc jbb cyI jbQ)) (w1 := (wd01_2 a0 jaK jaR ja1 jcp jbc jbV ja3 jbH jaT jbO jaq jac jbI jbl jbn jba jaa x1 jdD jaR jcB jcC jbo jbp jbk jbj jbe jbq jef jbm jbi jcd)) (wn := (wd01_0 a0 jaK jaR ja1 jcp jbc jbV ja3 jbH jaT jbO jaq jac jbI jbl jbn jba jaa x1 jdD jaR jcB jcC jbo jbp jbk jbj jbe jbq jef jbm jbi jcd jaT jbb jbr jaR jfc jbb cyI jbQ)) hP hD [0, 1] [2, 3] [2, 3, 0, 1] hCc rfl (by decide +kernel) (by decide +kernel) (by decide +kernel) rfl hk1 hFc hP1 hD1
    generalize H1 = H at hP hS hc9 ⊢
    exact vx_out (fun x hx9 => (hXs.1 x hx9).elim) hlocks hc9 hv9 hcl9 (fun t2 ht2 hal2 => ⟨(x1), trivial, ⟨hw, by rw [ht2]; exact hP, va_K.moved hal2 hK, hD⟩, hS.F ht2⟩) hS.2.2 (Nat.le_of_ble_eq_true rfl) (Nat.le_of_ble_eq_true rfl)
  obtain ⟨x1, rfl⟩ : ∃ z, z = u := ⟨_, rfl⟩
  obtain ⟨hP1, hK1, hD1⟩ := hB
  rw [ht] at hP1
  obtain ⟨hP, hD⟩ := va_joinN (wr := (wd01_1 jaT jbb jbr jaR jfc jbb cyI jbQ)) (w1 := (wd01_2 a0 jaK jaR ja1 jcp jbc jbV ja3 jbH jaT jbO jaq jac jbI jbl jbn jba jaa x1 jdD jaR jcB jcC jbo jbp jbk jbj jbe jbq jef jbm jbi jcd)) (wn := (wd01_0 a0 jaK jaR ja1 jcp jbc jbV ja3 jbH jaT jbO jaq jac jbI jbl jbn jba jaa x1 jdD jaR jcB jcC jbo jbp jbk jbj jbe jbq jef jbm jbi jcd jaT jbb jbr jaR jfc jbb cyI jbQ)) hP hD [0, 1] [2, 3] [2, 3, 0, 1] hCc rfl (by decide +kernel) (by decide +kernel) (by decide +kernel) rfl hk1 hFc hP1 hD1
  generalize H1 = H at hP hS ⊢
  refine lv_aload_n hx hb (dt_of tkX10_bouts_k0 3 rfl) rfl (lv_at hl 0 rfl) ?_
  refine va_get (D := (dC, dI)) (ci := 10) (v := .ref jaT) (C := RX10) (T := TX10) (N := 19) hx hb hts ui_X10_bouts_X10 hown hK hP 0 rfl rfl 8 (by decide) (hts _ uw_X10_bouts_f58) (fun _ h9 => h9) rfl (dt_of tkX10_bouts_k0 4 rfl) ?_
  refine lv_iload_n hx hb (dt_of tkX10_bouts_k0 5 rfl) rfl (lv_at hl 1 rfl) ?_
  obtain ⟨hCc, hPc, hDc, hFc⟩ := va_pick (ws' := (wd01_1 jaT jbb jbr jaR jfc jbb cyI jbQ)) hP hD hS hA [2, 3] (by decide +kernel) rfl
  refine va_calli (va_runV (As := [.int p1]) (rest := []) ⟨hx, hb, hml, hown, hts⟩ (ck_X1_isCaught l dC dI cyB cyI cyJ cyP jaT jbb H.size (jbr) (.ref jaR) (jfc) jbQ  p1 hw) (cwV 1 hts gX10_bouts_X1_isCaught rfl rfl rfl (by decide +kernel) ⟨Nat.le_of_ble_eq_true rfl, Nat.le_of_ble_eq_true rfl⟩) ⟨cPc_blind, va_recv (q := (RX1, TX1, 4)) hK hPc (ci := 1) (q0 := 0) rfl rfl, cPc_pre hPc hK hDc hNw⟩ rfl rfl hl.1 rfl (lv_room (Nat.le_of_ble_eq_true rfl)) (dt_of tkX10_bouts_k0 6 rfl) ⟨Nat.le_of_ble_eq_true rfl, Nat.le_of_ble_eq_true rfl⟩) hS (fun q _ h => hFc q h) hFc (fun r2 u t H1 locs ht hvm hw hB hz1 hk1 hS => ?_)
  obtain ⟨hP1, hK1, hD1⟩ := hB
  rw [ht] at hP1
  obtain ⟨hP, hD⟩ := va_joinI (wr := (wd01_2 a0 jaK jaR ja1 jcp jbc jbV ja3 jbH jaT jbO jaq jac jbI jbl jbn jba jaa x1 jdD jaR jcB jcC jbo jbp jbk jbj jbe jbq jef jbm jbi jcd)) (w1 := (wd01_1 jaT jbb jbr jaR jfc jbb cyI jbQ)) (wn := (wd01_0 a0 jaK jaR ja1 jcp jbc jbV ja3 jbH jaT jbO jaq jac jbI jbl jbn jba jaa x1 jdD jaR jcB jcC jbo jbp jbk jbj jbe jbq jef jbm jbi jcd jaT jbb jbr jaR jfc jbb cyI jbQ)) hP hD [2, 3] [0, 1] hCc rfl (by decide +kernel) (by decide +kernel) rfl hk1 hFc hP1 hD1
  generalize H1 = H at hP hS ⊢
  refine lv_if_eq (tgt := 18) hx hb (dt_of tkX10_bouts_k0 7 rfl) (by decide) (fun c3 => ?_) (fun c3 => ?_)
  · have hw := hw.1 c3
    refine lv_aload_n hx hb (dt_of tkX10_bouts_k0 10 rfl) rfl (lv_at hl 0 rfl) ?_
    refine va_get (D := (dC, dI)) (ci := 10) (v := .ref jaT) (C := RX10) (T := TX10) (N := 19) hx hb hts ui_X10_bouts_X10 hown hK hP 0 rfl rfl 8 (by decide) (hts _ uw_X10_bouts_f58) (fun _ h9 => h9) rfl (dt_of tkX10_bouts_k0 11 rfl) ?_
    obtain ⟨hCc, hPc, hDc, hFc⟩ := va_pick (ws' := (wd01_3 jaT jbb jbr jaR jfc jaR jcB jcC jbo jbp jbk jbj jbe jbq jef jbm jbi jcd jbb cyI jbQ)) hP hD hS hA [2, 1, 3] (by decide +kernel) rfl
    refine va_calli (va_runV (As := []) (rest := []) ⟨hx, hb, hml, hown, hts⟩ (ck_X1_freeOnes l dC dI cyB cyI cyJ cyP jaT jaR jbb H.size (jbr) (jfc) (jcB) (jcC) (jbo) (jbp) (jbk) (jbj) (jbe) (jbq) (jef) (jbi) (jcd) jbm jbQ   hw) (cwV 0 hts gX10_bouts_X1_freeOnes rfl rfl rfl (by decide +kernel) ⟨Nat.le_of_ble_eq_true rfl, Nat.le_of_ble_eq_true rfl⟩) ⟨cPc_blind, va_recv (q := (RX1, TX1, 4)) hK hPc (ci := 1) (q0 := 0) rfl rfl, cPc_pre hPc hK hDc hNw⟩ rfl rfl hl.1 rfl (lv_room (Nat.le_of_ble_eq_true rfl)) (dt_of tkX10_bouts_k0 12 rfl) ⟨Nat.le_of_ble_eq_true rfl, Nat.le_of_ble_eq_true rfl⟩) hS (fun q _ h => hFc q h) hFc (fun r4 u t H1 locs ht hvm hw hB hz1 hk1 hS => ?_)
    obtain ⟨hP1, hK1, hD1⟩ := hB
    rw [ht] at hP1
    obtain ⟨hP, hD⟩ := va_joinN (wr := (wd01_4 a0 jaK jaR ja1 jcp jbc jbV ja3 jbH jaT jbO jaq jac jbI jbl jbn jba jaa x1 jdD)) (w1 := (wd01_3 jaT jbb jbr jaR jfc jaR jcB jcC jbo jbp jbk jbj jbe jbq jef jbm jbi jcd jbb cyI jbQ)) (wn := (wd01_0 a0 jaK jaR ja1 jcp jbc jbV ja3 jbH jaT jbO jaq jac jbI jbl jbn jba jaa x1 jdD jaR jcB jcC jbo jbp jbk jbj jbe jbq jef jbm jbi jcd jaT jbb jbr jaR jfc jbb cyI jbQ)) hP hD [2, 1, 3] [0] [0, 2, 1, 3] hCc rfl (by decide +kernel) (by decide +kernel) (by decide +kernel) rfl hk1 hFc hP1 hD1
    generalize H1 = H at hP hS ⊢
    refine lv_istore_n (lv' := [(2, .int r4), (0, .ref a0), (1, .int p1)]) hx hb (dt_of tkX10_bouts_k0 13 rfl) rfl hl (by decide) rfl (fun ls hl => ?_)
    refine lv_iconst (v := 0) hx hb (dt_of tkX10_bouts_k0 14 rfl) (by decide) ?_
    refine lv_istore_n (lv' := [(3, .int 0), (2, .int r4), (0, .ref a0), (1, .int p1)]) hx hb (dt_of tkX10_bouts_k0 15 rfl) rfl hl (by decide) rfl (fun ls hl => ?_)
    refine lv_iconst (v := 0) hx hb (dt_of tkX10_bouts_k28 0 rfl) (by decide) ?_
    refine lv_istore (lv' := [(4, .int 0), (3, .int 0), (2, .int r4), (0, .ref a0), (1, .int p1)]) hx hb (dt_of tkX10_bouts_k28 1 rfl) hl (by decide) rfl (fun ls hl => ?_)
    obtain ⟨n9, hw⟩ := hw
    exact kl_X10_bouts_31 dC dI cyB cyI cyJ cyP a0 jaR jaT jbb jaK ja1 jcp jbc jbV ja3 jbH jbO jaq jac jbI jbl jbn jba jaa jdD jcB jcC jbo jbp jbk jbj jbe jbq jef jbi jcd jbr jfc jbm jbQ E Q  C0 n9 _ _ _ x1 p1 r4 0 0 hP hD hS (lv_sub hl [3, 4, 2, 1, 0] rfl) hw
  · have hw := hw.2 c3
    refine lv_iconst (v := 0) hx hb (dt_of tkX10_bouts_k0 8 rfl) (by decide) ?_
    exact vx_ret (W.widen (k := 1) (n := 6) (Nat.le_of_ble_eq_true rfl) (Nat.le_of_ble_eq_true rfl) (W.iret (v := 0) hx hb hr (fun t ht hW => ⟨⟨0, (x1), rfl, hw, by rw [ht]; exact hP, va_K.moved hW.alike hK, hD⟩, hS.F ht⟩) hS.2.2 (dt_of tkX10_bouts_k0 9 rfl)))
theorem uw_L_bouts_ct31 : (.classLink RL 31 "java/util/NoSuchElementException" : Cond) ∈ wsL_bouts := mbL_bouts 2639 (by decide +kernel)
theorem uw_L_bouts_cw : (.codeWith yL_bouts cL_bouts 4 (some .int) [(0, 9, 12, 31)] : Cond) ∈ wsL_bouts := mbL_bouts 3351 (by decide +kernel)
set_option maxHeartbeats 4000000 in
set_option maxRecDepth 100000 in
theorem ck_L_bouts (l : Launch) (dC : Nat → ClassId) (dI : Nat → Nat → Nat) (cyB cyI cyJ cyP : ClassId) (a0 a2 jaR jaT jbb sz : Nat) (jaK ja1 jcp jbc jbV ja3 jbH jbO jaq jac jbI jbl jbn jba jaa jdD jcB jcC jbo jbp jbk jbj jbe jbq jef jbi jcd jbr jfc : Value) (n2 : Nat) (jbm : Int32) (jbQ : Nat → Int32) (jdu : Int32) (f2 : Nat → Int64) (p1 : Int32) {Q : Int32 → Int32 → (Nat → Int64) → Prop} (hw : wq_L_bouts n2 jbm jbQ jdu f2 p1 Q) : Met l yL_bouts wsL_bouts ({ frames := 8, cells := 1, slots := 6, locals := 236 }) (va_Pc [.ref a0, .int p1, .ref a2] (cPx l (dC, dI) (kT cyB cyI cyJ cyP) (wd01_5 a0 jaK jaR ja1 jcp jbc jbV ja3 jbH jaT jbO jaq jac jbI jbl jbn jba jaa jdu jdD jaR jcB jcC jbo jbp jbk jbj jbe jbq jef jbm jbi jcd jaT jbb jbr jaR jfc jbb cyI jbQ a2 cyJ n2 f2) sz)) (va_Qi (fun (r : Int32) (u : Int32 × (Nat → Int64)) => Q r u.1 u.2) (cB (dC, dI) (kT cyB cyI cyJ cyP) (va_A (wd01_5 a0 jaK jaR ja1 jcp jbc jbV ja3 jbH jaT jbO jaq jac jbI jbl jbn jba jaa jdu jdD jaR jcB jcC jbo jbp jbk jbj jbe jbq jef jbm jbi jcd jaT jbb jbr jaR jfc jbb cyI jbQ a2 cyJ n2 f2) sz) (fun u : Int32 × (Nat → Int64) => ((wd01_5 a0 jaK jaR ja1 jcp jbc jbV ja3 jbH jaT jbO jaq jac jbI jbl jbn jba jaa u.1 jdD jaR jcB jcC jbo jbp jbk jbj jbe jbq jef jbm jbi jcd jaT jbb jbr jaR jfc jbb cyI jbQ a2 cyJ n2 u.2) : va_W))) (va_A (wd01_5 a0 jaK jaR ja1 jcp jbc jbV ja3 jbH jaT jbO jaq jac jbI jbl jbn jba jaa jdu jdD jaR jcB jcC jbo jbp jbk jbj jbe jbq jef jbm jbi jcd jaT jbb jbr jaR jfc jbb cyI jbQ a2 cyJ n2 f2) sz)) 1 6 (va_A (wd01_5 a0 jaK jaR ja1 jcp jbc jbV ja3 jbH jaT jbO jaq jac jbI jbl jbn jba jaa jdu jdD jaR jcB jcC jbo jbp jbk jbj jbe jbq jef jbm jbi jcd jaT jbb jbr jaR jfc jbb cyI jbQ a2 cyJ n2 f2) sz) := by
  refine va_MetW (cc := cL_bouts) (maxL := 4) (ret := (some .int)) (by decide) rfl ?_
  intro p e s m args below meth c s₁ B hml hv
  obtain ⟨rfl, hsz, hP, hK, hD0, hNw, hXl, hXu, hXn, hXt⟩ := hv
  have hx := B.exec
  have hb := B.bytes
  have hr := B.returns
  have hts := atoms_spec (ws := wsL_bouts) B.pre
  have hown : s.vm.findClass RL = some m.cls := findClass_of_methodNamed B.named
  have hlocks := B.notSynchronized
  subst hsz
  have hD := hD0.self (sz := s.heap.size)
  generalize hAe : va_A (wd01_5 a0 jaK jaR ja1 jcp jbc jbV ja3 jbH jaT jbO jaq jac jbI jbl jbn jba jaa jdu jdD jaR jcB jcC jbo jbp jbk jbj jbe jbq jef jbm jbi jcd jaT jbb jbr jaR jfc jbb cyI jbQ a2 cyJ n2 f2) s.heap.size = A at hD hXu hXn ⊢
  have hA : ∀ q : Nat, s.heap.size ≤ q → A q := fun q h => by rw [← hAe]; exact Or.inr h
  have hS : va_S A s.heap s.heap [] := va_S.rf
  have hP : va_P (dC, dI) vwCl (wd01_5 a0 jaK jaR ja1 jcp jbc jbV ja3 jbH jaT jbO jaq jac jbI jbl jbn jba jaa jdu jdD jaR jcB jcC jbo jbp jbk jbj jbe jbq jef jbm jbi jcd jaT jbb jbr jaR jfc jbb cyI jbQ a2 cyJ n2 f2) s.heap := hP
  have hl := lv_entry ([.ref a0, .int p1, .ref a2]) (n := 4) (Nat.le_of_ble_eq_true rfl)
  rw [lg_entry_eq]
  generalize (lg_sl ([.ref a0, .int p1, .ref a2]) ++ List.replicate (4 - (lg_sl ([.ref a0, .int p1, .ref a2])).length) Slot.unset).toArray = ls at hl ⊢
  have hl : lv_has ls 4 [(0, .ref a0), (1, .int p1), (2, .ref a2)] := hl
  have hY : cfY l s A := ⟨hXl, hXu, hXn, hXt⟩
  have hTb := vx_table (x := yL_bouts) B (hts _ uw_L_bouts_cw)
  clear hAe
  obtain ⟨H, hH⟩ : ∃ H, H = s.heap := ⟨_, rfl⟩
  rw [← hH] at hP ⊢
  have hS : va_S A s.heap H [] := by rw [hH]; exact va_S.rf
  have hS := hS
  refine lv_aload_n hx hb (dt_of tkL_bouts_k0 0 rfl) rfl (lv_at hl 2 rfl) ?_
  refine lv_iconst (v := 0) hx hb (dt_of tkL_bouts_k0 1 rfl) (by decide) ?_
  refine lv_aload_n hx hb (dt_of tkL_bouts_k0 2 rfl) rfl (lv_at hl 0 rfl) ?_
  refine lv_iload_n hx hb (dt_of tkL_bouts_k0 3 rfl) rfl (lv_at hl 1 rfl) ?_
  obtain ⟨hCc, hPc, hDc, hFc⟩ := va_pick (ws' := (wd01_0 a0 jaK jaR ja1 jcp jbc jbV ja3 jbH jaT jbO jaq jac jbI jbl jbn jba jaa jdu jdD jaR jcB jcC jbo jbp jbk jbj jbe jbq jef jbm jbi jcd jaT jbb jbr jaR jfc jbb cyI jbQ)) hP hD hS hA [0, 1, 2, 3] (by decide +kernel) rfl
  refine vx_calli (vx_runV (As := [.int p1]) (rest := [.int 0, .ref a2]) ⟨hx, hb, hml, hown, hts⟩ (ck_X10_bouts l dC dI cyB cyI cyJ cyP a0 jaR jaT jbb H.size (jaK) (ja1) (jcp) (jbc) (jbV) (ja3) (jbH) (jbO) (jaq) (jac) (jbI) (jbl) (jbn) (jba) (jaa) (jdD) (jcB) (jcC) (jbo) (jbp) (jbk) (jbj) (jbe) (jbq) (jef) (jbi) (jcd) (jbr) (jfc) jbm jbQ jdu p1 hw) (cwV 1 hts gL_bouts_X10_bouts rfl rfl rfl (by decide +kernel) ⟨Nat.le_of_ble_eq_true rfl, Nat.le_of_ble_eq_true rfl⟩) ⟨cPx_blind, va_recv (q := (RX10, TX10, 19)) hK hPc (ci := 10) (q0 := 0) rfl rfl, cPx_pre hPc hK hDc hNw hY hS hFc⟩ rfl rfl hl.1 rfl (lv_room (Nat.le_of_ble_eq_true rfl)) (dt_of tkL_bouts_k0 4 rfl) ⟨Nat.le_of_ble_eq_true rfl, Nat.le_of_ble_eq_true rfl⟩) hS (fun q _ h => hFc q h) hFc (fun q _ h => hFc q h) (fun en ce qx9 u t H1 locs ht hvm hpx hB hz1 hk1 hS hc9 hv9 hcl9 => ?_) (fun r2 u t H1 locs ht hvm hw hB hz1 hk1 hS => ?_)
  · obtain ⟨x1, rfl⟩ : ∃ z, z = u := ⟨_, rfl⟩
    obtain ⟨hw, hP1, hK1, hD1⟩ := hB
    rw [ht] at hP1
    obtain ⟨hP, hD⟩ := va_joinN (wr := [(a2, .inl (cyJ, n2, .inr (.inl f2)))]) (w1 := (wd01_0 a0 jaK jaR ja1 jcp jbc jbV ja3 jbH jaT jbO jaq jac jbI jbl jbn jba jaa x1 jdD jaR jcB jcC jbo jbp jbk jbj jbe jbq jef jbm jbi jcd jaT jbb jbr jaR jfc jbb cyI jbQ)) (wn := (wd01_5 a0 jaK jaR ja1 jcp jbc jbV ja3 jbH jaT jbO jaq jac jbI jbl jbn jba jaa x1 jdD jaR jcB jcC jbo jbp jbk jbj jbe jbq jef jbm jbi jcd jaT jbb jbr jaR jfc jbb cyI jbQ a2 cyJ n2 f2)) hP hD [0, 1, 2, 3] [4] [1, 2, 3, 4, 0] hCc rfl (by decide +kernel) (by decide +kernel) (by decide +kernel) rfl hk1 hFc hP1 hD1
    generalize H1 = H at hP hS hc9 ⊢
    obtain ⟨rfl, hw⟩ := hw
    refine vx_catch (own := RL) (name := "java/util/NoSuchElementException") hown [] ⟨0, 9, 12, 31⟩ [] (hTb.trans rfl) (fun z hz => nomatch hz) (by decide) (by decide) (hts _ uw_L_bouts_ct31) (va_Nw.use rfl (hY.2.2.2.1.2 _ (List.mem_of_getElem? (i := 1) rfl))) hc9 hv9 hcl9 ?_
    refine lv_astore_n (lv' := [(3, .ref qx9), (0, .ref a0), (1, .int p1), (2, .ref a2)]) hx hb (dt_of tkL_bouts_k0 8 rfl) rfl hl (by decide) rfl (fun ls hl => ?_)
    refine lv_iconst (v := 1) hx hb (dt_of tkL_bouts_k0 9 rfl) (by decide) ?_
    exact (W.widen (k := 1) (n := 6) (Nat.le_of_ble_eq_true rfl) (Nat.le_of_ble_eq_true rfl) (W.iret (v := 1) hx hb hr (fun t ht hW => ⟨⟨1, (x1, f2), rfl, hw, by rw [ht]; exact hP, va_K.moved hW.alike hK, hD⟩, hS.F ht⟩) hS.2.2 (dt_of tkL_bouts_k0 10 rfl)))
  obtain ⟨x1, rfl⟩ : ∃ z, z = u := ⟨_, rfl⟩
  obtain ⟨hP1, hK1, hD1⟩ := hB
  rw [ht] at hP1
  obtain ⟨hP, hD⟩ := va_join (wr := [(a2, .inl (cyJ, n2, .inr (.inl f2)))]) (w1 := (wd01_0 a0 jaK jaR ja1 jcp jbc jbV ja3 jbH jaT jbO jaq jac jbI jbl jbn jba jaa x1 jdD jaR jcB jcC jbo jbp jbk jbj jbe jbq jef jbm jbi jcd jaT jbb jbr jaR jfc jbb cyI jbQ)) hP hD [0, 1, 2, 3] [4] rfl rfl (by decide) (by decide) hk1 hFc hP1 hD1
  have hP : va_P (dC, dI) vwCl (wd01_5 a0 jaK jaR ja1 jcp jbc jbV ja3 jbH jaT jbO jaq jac jbI jbl jbn jba jaa x1 jdD jaR jcB jcC jbo jbp jbk jbj jbe jbq jef jbm jbi jcd jaT jbb jbr jaR jfc jbb cyI jbQ a2 cyJ n2 f2) H1 := hP.sub [1, 2, 3, 4, 0] rfl
  have hD : va_D A (wd01_5 a0 jaK jaR ja1 jcp jbc jbV ja3 jbH jaT jbO jaq jac jbI jbl jbn jba jaa x1 jdD jaR jcB jcC jbo jbp jbk jbj jbe jbq jef jbm jbi jcd jaT jbb jbr jaR jfc jbb cyI jbQ a2 cyJ n2 f2) := hD.sub [1, 2, 3, 4, 0] (by decide) rfl
  generalize H1 = H at hP hS ⊢
  refine lv_i2l (v := r2.toInt64) hx hb (dt_of tkL_bouts_k0 5 rfl) rfl ?_
  refine lv_topl (fun x3 ex3 => ?_)
  have hw := hw x3 ex3
  obtain ⟨hi9, hw⟩ := hw
  refine va_last hx hb hK hP hD hS 4 2 rfl rfl hi9 (dt_of tkL_bouts_k0 6 rfl) (fun H locs hP hD hS => ?_)
  obtain ⟨f4, ef4⟩ : ∃ y : Nat → Int64, y = vp_updL f2 (0 : Int32).toNatClampNeg x3 := ⟨_, rfl⟩
  have hw := hw f4 ef4
  have hP : va_P (dC, dI) vwCl (wd01_5 a0 jaK jaR ja1 jcp jbc jbV ja3 jbH jaT jbO jaq jac jbI jbl jbn jba jaa x1 jdD jaR jcB jcC jbo jbp jbk jbj jbe jbq jef jbm jbi jcd jaT jbb jbr jaR jfc jbb cyI jbQ a2 cyJ n2 f4) H := by rw [ef4]; exact hP
  have hD : va_D A (wd01_5 a0 jaK jaR ja1 jcp jbc jbV ja3 jbH jaT jbO jaq jac jbI jbl jbn jba jaa x1 jdD jaR jcB jcC jbo jbp jbk jbj jbe jbq jef jbm jbi jcd jaT jbb jbr jaR jfc jbb cyI jbQ a2 cyJ n2 f4) := by rw [ef4]; exact hD
  refine lv_goto (tgt := 15) hx hb (dt_of tkL_bouts_k0 7 rfl) (by decide) ?_
  refine lv_iconst (v := 0) hx hb (dt_of tkL_bouts_k0 11 rfl) (by decide) ?_
  exact (W.widen (k := 1) (n := 6) (Nat.le_of_ble_eq_true rfl) (Nat.le_of_ble_eq_true rfl) (W.iret (v := 0) hx hb hr (fun t ht hW => ⟨⟨0, (x1, f4), rfl, hw, by rw [ht]; exact hP, va_K.moved hW.alike hK, hD⟩, hS.F ht⟩) hS.2.2 (dt_of tkL_bouts_k0 12 rfl)))
theorem ub_X10_needForm_268 : ∀ w ∈ (ux_atS RX10 268 "java/util/NoSuchElementException" 13 ux_rx ["java/lang/RuntimeException", "java/lang/Exception"]).filter (fun w => !goodWord w), w ∈ xB := by decide +kernel
theorem ug_X10_needForm_268 : ∀ w ∈ Cond.classLink RX10 264 "java/util/NoSuchElementException" :: Cond.initialized "java/util/NoSuchElementException" :: ux_atS RX10 268 "java/util/NoSuchElementException" 13 ux_rx ["java/lang/RuntimeException", "java/lang/Exception"], vx_ot w = true := by decide +kernel
theorem uh_X10_needForm_268 : ∀ w ∈ (ux_atS RX10 268 "java/util/NoSuchElementException" 13 ux_rx ["java/lang/RuntimeException", "java/lang/Exception"]).filter goodWord, w ∈ wsX10_needForm := by decide +kernel
theorem ui_X10_needForm_X10 : ∀ w ∈ u_ws RX10 TX10 19, w ∈ wsX10_needForm := uiM mbX10_needForm euX10 (by decide +kernel)
theorem ui_X10_needForm_X2 : ∀ w ∈ u_ws RX2 TX2 12, w ∈ wsX10_needForm := uiM mbX10_needForm euX2 (by decide +kernel)
theorem uw_X10_needForm_cl264 : (.classLink RX10 264 "java/util/NoSuchElementException" : Cond) ∈ wsX10_needForm := mbX10_needForm 2690 (by decide +kernel)
theorem uw_X10_needForm_f149 : (.fieldLink RX10 149 "MarchHares$Down" "forms" "I" : Cond) ∈ wsX10_needForm := mbX10_needForm 1557 (by decide +kernel)
theorem uw_X10_needForm_f19 : (.fieldLink RX10 19 "MarchHares" "ground" "LMarchHares$Down;" : Cond) ∈ wsX10_needForm := mbX10_needForm 20 (by decide +kernel)
theorem uw_X10_needForm_f261 : (.fieldLink RX10 261 "MarchHares" "callsNoSuch" "I" : Cond) ∈ wsX10_needForm := mbX10_needForm 2692 (by decide +kernel)
theorem uw_X10_needForm_ini264 : (.initialized "java/util/NoSuchElementException" : Cond) ∈ wsX10_needForm := mbX10_needForm 2691 (by decide +kernel)
set_option maxHeartbeats 4000000 in
set_option maxRecDepth 100000 in
theorem ck_X10_needForm (l : Launch) (dC : Nat → ClassId) (dI : Nat → Nat → Nat) (cyB cyI cyJ cyP : ClassId) (a0 jaR sz : Nat) (jaK ja1 jcp jbc jbV ja3 jbH ja2 jbO jaq jac jbI jbl jbn jba jaa jdD jcB jcC jbo jbp jbk jbj jbe jbq jgP jbi jcd : Value) (jbE jdu p1 : Int32) {E : String → Int32 → Prop} {Q : Int32 → Prop} (hw : wq_X10_needForm jbE jdu p1 E Q) : vx_Met l yX10_needForm wsX10_needForm ({ frames := 6, cells := 1, slots := 6, locals := 120 }) (va_Pc [.ref a0, .int p1] (cPx l (dC, dI) (kT cyB cyI cyJ cyP) (wd01_6 a0 jaK jaR ja1 jcp jbc jbV ja3 jbH ja2 jbO jaq jac jbI jbl jbn jba jaa jdu jdD jaR jcB jcC jbo jbp jbk jbj jbe jbq jbE jgP jbi jcd) sz)) (va_Qv (fun (u : Int32) => Q u) (cB (dC, dI) (kT cyB cyI cyJ cyP) (va_A (wd01_6 a0 jaK jaR ja1 jcp jbc jbV ja3 jbH ja2 jbO jaq jac jbI jbl jbn jba jaa jdu jdD jaR jcB jcC jbo jbp jbk jbj jbe jbq jbE jgP jbi jcd) sz) (fun u : Int32 => ((wd01_6 a0 jaK jaR ja1 jcp jbc jbV ja3 jbH ja2 jbO jaq jac jbI jbl jbn jba jaa u jdD jaR jcB jcC jbo jbp jbk jbj jbe jbq jbE jgP jbi jcd) : va_W))) (va_A (wd01_6 a0 jaK jaR ja1 jcp jbc jbV ja3 jbH ja2 jbO jaq jac jbI jbl jbn jba jaa jdu jdD jaR jcB jcC jbo jbp jbk jbj jbe jbq jbE jgP jbi jcd) sz)) (vx_X (fun _ => True) (fun (en : String) (u : Int32) (t : State) => E en u ∧ cB (dC, dI) (kT cyB cyI cyJ cyP) (va_A (wd01_6 a0 jaK jaR ja1 jcp jbc jbV ja3 jbH ja2 jbO jaq jac jbI jbl jbn jba jaa jdu jdD jaR jcB jcC jbo jbp jbk jbj jbe jbq jbE jgP jbi jcd) sz) (fun u : Int32 => ((wd01_6 a0 jaK jaR ja1 jcp jbc jbV ja3 jbH ja2 jbO jaq jac jbI jbl jbn jba jaa u jdD jaR jcB jcC jbo jbp jbk jbj jbe jbq jbE jgP jbi jcd) : va_W)) u t) (va_A (wd01_6 a0 jaK jaR ja1 jcp jbc jbV ja3 jbH ja2 jbO jaq jac jbI jbl jbn jba jaa jdu jdD jaR jcB jcC jbo jbp jbk jbj jbe jbq jbE jgP jbi jcd) sz)) 1 6 (va_A (wd01_6 a0 jaK jaR ja1 jcp jbc jbV ja3 jbH ja2 jbO jaq jac jbI jbl jbn jba jaa jdu jdD jaR jcB jcC jbo jbp jbk jbj jbe jbq jbE jgP jbi jcd) sz) := by
  refine vx_ofW (cc := cX10_needForm) (maxL := 2) (ret := none) (by decide) rfl ?_
  intro p e s m args below meth c s₁ B hml hnt hv
  obtain ⟨rfl, hsz, hP, hK, hD0, hNw, hXl, hXu, hXn, hXt⟩ := hv
  have hx := B.exec
  have hb := B.bytes
  have hr := B.returns
  have hts := atoms_spec (ws := wsX10_needForm) B.pre
  have hown : s.vm.findClass RX10 = some m.cls := findClass_of_methodNamed B.named
  have hlocks := B.notSynchronized
  subst hsz
  have hD := hD0.self (sz := s.heap.size)
  generalize hAe : va_A (wd01_6 a0 jaK jaR ja1 jcp jbc jbV ja3 jbH ja2 jbO jaq jac jbI jbl jbn jba jaa jdu jdD jaR jcB jcC jbo jbp jbk jbj jbe jbq jbE jgP jbi jcd) s.heap.size = A at hD hXu hXn ⊢
  have hA : ∀ q : Nat, s.heap.size ≤ q → A q := fun q h => by rw [← hAe]; exact Or.inr h
  have hS : va_S A s.heap s.heap [] := va_S.rf
  have hP : va_P (dC, dI) vwCl (wd01_6 a0 jaK jaR ja1 jcp jbc jbV ja3 jbH ja2 jbO jaq jac jbI jbl jbn jba jaa jdu jdD jaR jcB jcC jbo jbp jbk jbj jbe jbq jbE jgP jbi jcd) s.heap := hP
  have hl := lv_entry ([.ref a0, .int p1]) (n := 2) (Nat.le_of_ble_eq_true rfl)
  rw [lg_entry_eq]
  generalize (lg_sl ([.ref a0, .int p1]) ++ List.replicate (2 - (lg_sl ([.ref a0, .int p1])).length) Slot.unset).toArray = ls at hl ⊢
  have hl : lv_has ls 2 [(0, .ref a0), (1, .int p1)] := hl
  have hY : cfY l s A := ⟨hXl, hXu, hXn, hXt⟩
  have hXs : cfX l s c A := ⟨hnt, hY⟩
  have C0 : cfx p s m _ meth c cX10_needForm none wsX10_needForm RX10 2 A (dC, dI) (kT cyB cyI cyJ cyP) ∧ cfX l s c A := ⟨⟨hx, hb, hr, hts, hown, hlocks, hml, hA, hK, hNw⟩, hXs⟩
  clear hAe
  obtain ⟨H, hH⟩ : ∃ H, H = s.heap := ⟨_, rfl⟩
  rw [← hH] at hP ⊢
  have hS : va_S A s.heap H [] := by rw [hH]; exact va_S.rf
  have hS := hS
  refine lv_iload_n hx hb (dt_of tkX10_needForm_k0 0 rfl) rfl (lv_at hl 1 rfl) ?_
  refine lv_iconst (v := 0) hx hb (dt_of tkX10_needForm_k0 1 rfl) (by decide) ?_
  refine lv_aload_n hx hb (dt_of tkX10_needForm_k0 2 rfl) rfl (lv_at hl 0 rfl) ?_
  refine va_get (D := (dC, dI)) (ci := 10) (v := .ref jaR) (C := RX10) (T := TX10) (N := 19) hx hb hts ui_X10_needForm_X10 hown hK hP 0 rfl rfl 1 (by decide) (hts _ uw_X10_needForm_f19) (fun _ h9 => h9) rfl (dt_of tkX10_needForm_k0 3 rfl) ?_
  refine va_get (D := (dC, dI)) (ci := 2) (v := .int jbE) (C := RX2) (T := TX2) (N := 12) hx hb hts ui_X10_needForm_X2 hown hK hP 1 rfl rfl 8 (by decide) (hts _ uw_X10_needForm_f149) (fun _ h9 => h9) rfl (dt_of tkX10_needForm_k0 4 rfl) ?_
  refine lv_iconst (v := 1) hx hb (dt_of tkX10_needForm_k0 5 rfl) (by decide) ?_
  refine lv_isub hx hb (dt_of tkX10_needForm_k0 6 rfl) ?_
  obtain ⟨hCc, hPc, hDc, hFc⟩ := va_pick (ws' := []) hP hD hS hA [] (by decide +kernel) rfl
  refine va_calli (va_runS (As := [.int p1, .int 0, .int (jbE - 1)]) (rest := []) ⟨hx, hb, hml, hown, hts⟩ (ck_X10_within l dC dI cyB cyI cyJ cyP  H.size    p1 0 (jbE - 1) hw) (va_cwS 3 hts gX10_needForm_X10_within rfl rfl rfl (by decide +kernel) ⟨Nat.le_of_ble_eq_true rfl, Nat.le_of_ble_eq_true rfl⟩) ⟨cPc_blind, cPc_pre hPc hK hDc hNw⟩ rfl rfl hl.1 rfl (lv_room (Nat.le_of_ble_eq_true rfl)) (dt_of tkX10_needForm_k0 7 rfl) ⟨Nat.le_of_ble_eq_true rfl, Nat.le_of_ble_eq_true rfl⟩) hS (fun q _ h => hFc q h) hFc (fun r1 u t H1 locs ht hvm hw hB hz1 hk1 hS => ?_)
  obtain ⟨hP1, hK1, hD1⟩ := hB
  rw [ht] at hP1
  obtain ⟨hP, hD⟩ := va_joinI (wr := (wd01_6 a0 jaK jaR ja1 jcp jbc jbV ja3 jbH ja2 jbO jaq jac jbI jbl jbn jba jaa jdu jdD jaR jcB jcC jbo jbp jbk jbj jbe jbq jbE jgP jbi jcd)) (w1 := []) (wn := (wd01_6 a0 jaK jaR ja1 jcp jbc jbV ja3 jbH ja2 jbO jaq jac jbI jbl jbn jba jaa jdu jdD jaR jcB jcC jbo jbp jbk jbj jbe jbq jbE jgP jbi jcd)) hP hD [] [0, 1] hCc rfl (by decide +kernel) (by decide +kernel) rfl hk1 hFc hP1 hD1
  generalize H1 = H at hP hS ⊢
  refine lv_if_ne (tgt := 38) hx hb (dt_of tkX10_needForm_k0 8 rfl) (by decide) (fun c2 => ?_) (fun c2 => ?_)
  · have hw := hw.1 c2
    exact vx_ret (W.widen (k := 1) (n := 6) (Nat.le_of_ble_eq_true rfl) (Nat.le_of_ble_eq_true rfl) (W.vret hx hb hr (fun t ht hW => ⟨⟨(jdu), rfl, hw, by rw [ht]; exact hP, va_K.moved hW.alike hK, hD⟩, hS.F ht⟩) hS.2.2 (dt_of tkX10_needForm_k30 4 rfl)))
  · have hw := hw.2 c2
    refine lv_aload_n hx hb (dt_of tkX10_needForm_k0 9 rfl) rfl (lv_at hl 0 rfl) ?_
    refine lv_dup hx hb (dt_of tkX10_needForm_k0 10 rfl) rfl ?_
    refine va_get (D := (dC, dI)) (ci := 10) (v := .int jdu) (C := RX10) (T := TX10) (N := 19) hx hb hts ui_X10_needForm_X10 hown hK hP 0 rfl rfl 17 (by decide) (hts _ uw_X10_needForm_f261) (fun _ h9 => h9) rfl (dt_of tkX10_needForm_k0 11 rfl) ?_
    refine lv_iconst (v := 1) hx hb (dt_of tkX10_needForm_k0 12 rfl) (by decide) ?_
    refine lv_iadd hx hb (dt_of tkX10_needForm_k0 13 rfl) ?_
    refine lv_topi (fun x3 ex3 => ?_)
    have hw := hw x3 ex3
    refine va_put (D := (dC, dI)) (ci := 10) (v := .int x3) (ty := .int) (C := RX10) (T := TX10) (N := 19) hx hb hts ui_X10_needForm_X10 tyX10 tyX10_ok nmX10 hown hK hP hD hS 0 rfl rfl 17 (by decide) (hts _ uw_X10_needForm_f261) (fun _ h9 => h9) rfl (by decide +kernel) rfl rfl (Nat.le_of_ble_eq_true rfl) (dt_of tkX10_needForm_k0 14 rfl) (fun H locs hP hD hS => ?_)
    have hP : va_P (dC, dI) vwCl (wd01_6 a0 jaK jaR ja1 jcp jbc jbV ja3 jbH ja2 jbO jaq jac jbI jbl jbn jba jaa x3 jdD jaR jcB jcC jbo jbp jbk jbj jbe jbq jbE jgP jbi jcd) H := hP
    have hD : va_D A (wd01_6 a0 jaK jaR ja1 jcp jbc jbV ja3 jbH ja2 jbO jaq jac jbI jbl jbn jba jaa x3 jdD jaR jcB jcC jbo jbp jbk jbj jbe jbq jbE jgP jbi jcd) := hD
    obtain ⟨sa9, hsa9⟩ := hY.2.2.2.2.1 _ (List.mem_of_getElem? (i := 0) rfl)
    exact ux_throwSW hx hb hY.1 (own := RX10) (cls := "java/util/NoSuchElementException") (names := ["java/lang/RuntimeException", "java/lang/Exception"]) (ik := 264) (is := 401) (ic := 268) (rx := ux_rx) (by decide +kernel) (by decide +kernel) (by decide +kernel) (by decide +kernel) hown (by decide +kernel) (by decide +kernel) (hts _ uw_X10_needForm_cl264) (hts _ uw_X10_needForm_ini264) hsa9 (vx_hat (fun w hw9 => hts w (uh_X10_needForm_268 w hw9)) ub_X10_needForm_268 (xB_use hY.2.2.2.1)) ug_X10_needForm_268 hY.2.1 hY.2.2.1 hS (by rw [hml]; exact hl.1) (dt_of tkX10_needForm_k0 15 rfl) (dt_of tkX10_needForm_k30 0 rfl) (dt_of tkX10_needForm_k30 1 rfl) (dt_of tkX10_needForm_k30 2 rfl) (dt_of tkX10_needForm_k30 3 rfl) (fun x hx9 => (hXs.1 x hx9).elim) (Nat.le_of_ble_eq_true rfl) (Nat.le_of_ble_eq_true rfl) (Nat.le_of_ble_eq_true rfl) (Nat.le_of_ble_eq_true rfl) hlocks (fun t hal hsz9 hq9 => ⟨(x3), trivial, ⟨hw, hP.kept (fun k q hk9 => hq9 _ ((hP k q hk9).lt)), va_K.moved hal hK, hD⟩, xt_frame hS hsz9 hq9⟩) hS.2.2 (Nat.le_of_ble_eq_true rfl) (Nat.le_of_ble_eq_true rfl)
theorem ui_X2_apart_X2 : ∀ w ∈ u_ws RX2 TX2 12, w ∈ wsX2_apart := uiM mbX2_apart euX2 (by decide +kernel)
theorem uw_X2_apart_f15 : (.fieldLink RX2 15 "MarchHares$Down" "formY" "[I" : Cond) ∈ wsX2_apart := mbX2_apart 149 (by decide +kernel)
theorem uw_X2_apart_f9 : (.fieldLink RX2 9 "MarchHares$Down" "formX" "[I" : Cond) ∈ wsX2_apart := mbX2_apart 148 (by decide +kernel)
theorem uw_X2_apart_inim : (.initialized "java/lang/Math" : Cond) ∈ wsX2_apart := mbX2_apart 651 (by decide +kernel)
theorem uw_X2_apart_m108 : (.methodLink RX2 108 Lib.Math.abs.name : Cond) ∈ wsX2_apart := mbX2_apart 1092 (by decide +kernel)
theorem uw_X2_apart_mcabs : (.code Lib.Math.abs.name Lib.Math.abs.code 1 (some .int) : Cond) ∈ wsX2_apart := mbX2_apart 1094 (by decide +kernel)
theorem uw_X2_apart_msabs : (.static Lib.Math.abs.name : Cond) ∈ wsX2_apart := mbX2_apart 1093 (by decide +kernel)
set_option maxHeartbeats 4000000 in
set_option maxRecDepth 100000 in
theorem ck_X2_apart (l : Launch) (dC : Nat → ClassId) (dI : Nat → Nat → Nat) (cyB cyI cyJ cyP : ClassId) (a0 jha jhi sz : Nat) (jlc jld jkJ jiT jj1 jjT ja0 ja4 jaP jkk : Value) (jiR jiP : Nat → Int32)  (p1 p2 : Int32) {Q : Int32 → Prop} (hw : wq_X2_apart jiR jiP  p1 p2 Q) : Met l yX2_apart wsX2_apart ({ frames := 1, cells := 0, slots := 0, locals := 32 }) (va_Pc [.ref a0, .int p1, .int p2] (cPc (dC, dI) (kT cyB cyI cyJ cyP) (wd01_7 a0 jha jhi jlc jld jkJ jiT jj1 jjT ja0 ja4 jaP jkk jha cyI jiR jhi cyI jiP) sz)) (va_Qi (fun (r : Int32) (_ : Unit) => Q r ) (cB (dC, dI) (kT cyB cyI cyJ cyP) (va_A (wd01_7 a0 jha jhi jlc jld jkJ jiT jj1 jjT ja0 ja4 jaP jkk jha cyI jiR jhi cyI jiP) sz) (fun u : Unit => ((wd01_7 a0 jha jhi jlc jld jkJ jiT jj1 jjT ja0 ja4 jaP jkk jha cyI jiR jhi cyI jiP) : va_W))) (va_A (wd01_7 a0 jha jhi jlc jld jkJ jiT jj1 jjT ja0 ja4 jaP jkk jha cyI jiR jhi cyI jiP) sz)) 0 0 (va_A (wd01_7 a0 jha jhi jlc jld jkJ jiT jj1 jjT ja0 ja4 jaP jkk jha cyI jiR jhi cyI jiP) sz) := by
  refine Met.ofW (cc := cX2_apart) (maxL := 3) (ret := (some .int)) (by decide) rfl ?_
  intro p e s m args below meth c s₁ B hml hv
  obtain ⟨rfl, hsz, hP, hK, hD0, hNw⟩ := hv
  have hx := B.exec
  have hb := B.bytes
  have hr := B.returns
  have hts := atoms_spec (ws := wsX2_apart) B.pre
  have hown : s.vm.findClass RX2 = some m.cls := findClass_of_methodNamed B.named
  have hlocks := B.notSynchronized
  subst hsz
  have hD := hD0.self (sz := s.heap.size)
  generalize hAe : va_A (wd01_7 a0 jha jhi jlc jld jkJ jiT jj1 jjT ja0 ja4 jaP jkk jha cyI jiR jhi cyI jiP) s.heap.size = A at hD ⊢
  have hA : ∀ q : Nat, s.heap.size ≤ q → A q := fun q h => by rw [← hAe]; exact Or.inr h
  have hS : va_S A s.heap s.heap [] := va_S.rf
  have hP : va_P (dC, dI) vwCl (wd01_7 a0 jha jhi jlc jld jkJ jiT jj1 jjT ja0 ja4 jaP jkk jha cyI jiR jhi cyI jiP) s.heap := hP
  have hl := lv_entry ([.ref a0, .int p1, .int p2]) (n := 3) (Nat.le_of_ble_eq_true rfl)
  rw [lg_entry_eq]
  generalize (lg_sl ([.ref a0, .int p1, .int p2]) ++ List.replicate (3 - (lg_sl ([.ref a0, .int p1, .int p2])).length) Slot.unset).toArray = ls at hl ⊢
  have hl : lv_has ls 3 [(0, .ref a0), (1, .int p1), (2, .int p2)] := hl
  have C0 : cfx p s m _ meth c cX2_apart (some .int) wsX2_apart RX2 3 A (dC, dI) (kT cyB cyI cyJ cyP) := ⟨hx, hb, hr, hts, hown, hlocks, hml, hA, hK, hNw⟩
  clear hAe
  obtain ⟨H, hH⟩ : ∃ H, H = s.heap := ⟨_, rfl⟩
  rw [← hH] at hP ⊢
  have hS : va_S A s.heap H [] := by rw [hH]; exact va_S.rf
  have hS := hS
  refine lv_aload_n hx hb (dt_of tkX2_apart_k0 0 rfl) rfl (lv_at hl 0 rfl) ?_
  refine va_get (D := (dC, dI)) (ci := 2) (v := .ref jha) (C := RX2) (T := TX2) (N := 12) hx hb hts ui_X2_apart_X2 hown hK hP 0 rfl rfl 0 (by decide) (hts _ uw_X2_apart_f9) (fun _ h9 => h9) rfl (dt_of tkX2_apart_k0 1 rfl) ?_
  refine lv_iload_n hx hb (dt_of tkX2_apart_k0 2 rfl) rfl (lv_at hl 1 rfl) ?_
  obtain ⟨hi9, hw⟩ := hw
  refine va_iald hx hb hK hP 1 1 rfl rfl hi9 (dt_of tkX2_apart_k0 3 rfl) ?_
  refine lv_topi (fun x1 ex1 => ?_)
  have hw := hw x1 ex1
  refine lv_aload_n hx hb (dt_of tkX2_apart_k0 4 rfl) rfl (lv_at hl 0 rfl) ?_
  refine va_get (D := (dC, dI)) (ci := 2) (v := .ref jha) (C := RX2) (T := TX2) (N := 12) hx hb hts ui_X2_apart_X2 hown hK hP 0 rfl rfl 0 (by decide) (hts _ uw_X2_apart_f9) (fun _ h9 => h9) rfl (dt_of tkX2_apart_k0 5 rfl) ?_
  refine lv_iload_n hx hb (dt_of tkX2_apart_k0 6 rfl) rfl (lv_at hl 2 rfl) ?_
  obtain ⟨hi9, hw⟩ := hw
  refine va_iald hx hb hK hP 1 1 rfl rfl hi9 (dt_of tkX2_apart_k0 7 rfl) ?_
  refine lv_topi (fun x2 ex2 => ?_)
  have hw := hw x2 ex2
  refine lv_isub hx hb (dt_of tkX2_apart_k0 8 rfl) ?_
  refine va_mabs hx hb (by rw [hml]; exact hl.1.symm) hown (hts _ uw_X2_apart_m108) (hts _ uw_X2_apart_msabs) (hts _ uw_X2_apart_inim) (hts _ uw_X2_apart_mcabs) (Nat.le_of_ble_eq_true rfl) (Nat.le_of_ble_eq_true rfl) (Nat.le_of_ble_eq_true rfl) (Nat.le_of_ble_eq_true rfl) (dt_of tkX2_apart_k0 9 rfl) ?_
  refine lv_topi (fun x3 ex3 => ?_)
  have hw := hw x3 ex3
  refine lv_aload_n hx hb (dt_of tkX2_apart_k0 10 rfl) rfl (lv_at hl 0 rfl) ?_
  refine va_get (D := (dC, dI)) (ci := 2) (v := .ref jhi) (C := RX2) (T := TX2) (N := 12) hx hb hts ui_X2_apart_X2 hown hK hP 0 rfl rfl 1 (by decide) (hts _ uw_X2_apart_f15) (fun _ h9 => h9) rfl (dt_of tkX2_apart_k0 11 rfl) ?_
  refine lv_iload_n hx hb (dt_of tkX2_apart_k0 12 rfl) rfl (lv_at hl 1 rfl) ?_
  obtain ⟨hi9, hw⟩ := hw
  refine va_iald hx hb hK hP 2 1 rfl rfl hi9 (dt_of tkX2_apart_k0 13 rfl) ?_
  refine lv_topi (fun x4 ex4 => ?_)
  have hw := hw x4 ex4
  refine lv_aload_n hx hb (dt_of tkX2_apart_k0 14 rfl) rfl (lv_at hl 0 rfl) ?_
  refine va_get (D := (dC, dI)) (ci := 2) (v := .ref jhi) (C := RX2) (T := TX2) (N := 12) hx hb hts ui_X2_apart_X2 hown hK hP 0 rfl rfl 1 (by decide) (hts _ uw_X2_apart_f15) (fun _ h9 => h9) rfl (dt_of tkX2_apart_k0 15 rfl) ?_
  refine lv_iload_n hx hb (dt_of tkX2_apart_k26 0 rfl) rfl (lv_at hl 2 rfl) ?_
  obtain ⟨hi9, hw⟩ := hw
  refine va_iald hx hb hK hP 2 1 rfl rfl hi9 (dt_of tkX2_apart_k26 1 rfl) ?_
  refine lv_topi (fun x5 ex5 => ?_)
  have hw := hw x5 ex5
  refine lv_isub hx hb (dt_of tkX2_apart_k26 2 rfl) ?_
  refine va_mabs hx hb (by rw [hml]; exact hl.1.symm) hown (hts _ uw_X2_apart_m108) (hts _ uw_X2_apart_msabs) (hts _ uw_X2_apart_inim) (hts _ uw_X2_apart_mcabs) (Nat.le_of_ble_eq_true rfl) (Nat.le_of_ble_eq_true rfl) (Nat.le_of_ble_eq_true rfl) (Nat.le_of_ble_eq_true rfl) (dt_of tkX2_apart_k26 3 rfl) ?_
  refine lv_topi (fun x6 ex6 => ?_)
  have hw := hw x6 ex6
  refine lv_iadd hx hb (dt_of tkX2_apart_k26 4 rfl) ?_
  exact ((W.iret (v := (x3 + x6)) hx hb hr (fun t ht hW => ⟨⟨(x3 + x6), (), rfl, hw, by rw [ht]; exact hP, va_K.moved hW.alike hK, hD⟩, hS.F ht⟩) hS.2.2 (dt_of tkX2_apart_k26 5 rfl)))
theorem ui_X1_seatedIn_X1 : ∀ w ∈ u_ws RX1 TX1 4, w ∈ wsX1_seatedIn := uiM mbX1_seatedIn euX1 (by decide +kernel)
theorem ui_X1_seatedIn_X2 : ∀ w ∈ u_ws RX2 TX2 12, w ∈ wsX1_seatedIn := uiM mbX1_seatedIn euX2 (by decide +kernel)
theorem uw_X1_seatedIn_f24 : (.fieldLink RX1 24 "MarchHares$Days" "down" "LMarchHares$Down;" : Cond) ∈ wsX1_seatedIn := mbX1_seatedIn 322 (by decide +kernel)
theorem uw_X1_seatedIn_f32 : (.fieldLink RX1 32 "MarchHares$Down" "hares" "I" : Cond) ∈ wsX1_seatedIn := mbX1_seatedIn 324 (by decide +kernel)
set_option maxHeartbeats 4000000 in
set_option maxRecDepth 100000 in
theorem kb_X1_seatedIn_38 {p : Program} {l : Launch} {e : Env} {s : State} {m : MethodId} {args : Array Value} {below : List Frame} {meth : Method} {c : Code} {A : Nat → Prop} (dC : Nat → ClassId) (dI : Nat → Nat → Nat) (cyB cyI cyJ cyP : ClassId) (a0 jfB jch : Nat) (jcD jhx jhp jhq jgi jgj jgk jgz jfR jgl jgO jfS jiB : Value) (jc5 : Int32) (jdE : Nat → Int32) (Q : Int32 → Prop) (K4 : Int32 → Int32 → Int32 → Prop) (hK4 : ∀ (H : Heap) (locs : List Loc) (ls : Array Slot) (l1 l2 l3 : Int32), va_P (dC, dI) vwCl (wd01_3 a0 jch jcD jfB jhx jfB jhp jhq jgi jgj jgk jgz jfR jgl jgO jc5 jfS jiB jch cyI jdE) H → va_D A (wd01_3 a0 jch jcD jfB jhx jfB jhp jhq jgi jgj jgk jgz jfR jgl jgO jc5 jfS jiB jch cyI jdE) → va_S A s.heap H locs → lv_has ls 4 [(0, .ref a0), (1, .int l1), (2, .int l2), (3, .int l3)] → K4 l1 l2 l3 → W p l e (headSpec wsX1_seatedIn ({ frames := 1, cells := 0, slots := 0, locals := 21 })).room s m args below meth c H locs 0 0 (MQ below (va_Qi (fun (r : Int32) (_ : Unit) => Q r ) (cB (dC, dI) (kT cyB cyI cyJ cyP) A (fun u : Unit => ((wd01_3 a0 jch jcD jfB jhx jfB jhp jhq jgi jgj jgk jgz jfR jgl jgO jc5 jfS jiB jch cyI jdE) : va_W))) A) args s 0 0 A) (F0 m 4 ls [])) (C0 : cfx p s m args meth c cX1_seatedIn (some .int) wsX1_seatedIn RX1 4 A (dC, dI) (kT cyB cyI cyJ cyP)) : ∀ (H : Heap) (locs : List Loc) (ls : Array Slot) (l1 l2 l3 : Int32), va_P (dC, dI) vwCl (wd01_3 a0 jch jcD jfB jhx jfB jhp jhq jgi jgj jgk jgz jfR jgl jgO jc5 jfS jiB jch cyI jdE) H → va_D A (wd01_3 a0 jch jcD jfB jhx jfB jhp jhq jgi jgj jgk jgz jfR jgl jgO jc5 jfS jiB jch cyI jdE) → va_S A s.heap H locs → lv_has ls 4 [(0, .ref a0), (1, .int l1), (2, .int l2), (3, .int l3)] → wb_X1_seatedIn_38 jc5 jdE Q K4 l1 l2 l3 → W p l e (headSpec wsX1_seatedIn ({ frames := 1, cells := 0, slots := 0, locals := 21 })).room s m args below meth c H locs 0 0 (MQ below (va_Qi (fun (r : Int32) (_ : Unit) => Q r ) (cB (dC, dI) (kT cyB cyI cyJ cyP) A (fun u : Unit => ((wd01_3 a0 jch jcD jfB jhx jfB jhp jhq jgi jgj jgk jgz jfR jgl jgO jc5 jfS jiB jch cyI jdE) : va_W))) A) args s 0 0 A) (F0 m 38 ls []) := by
  obtain ⟨hx, hb, hr, hts, hown, hlocks, hml, hA, hK, hNw⟩ := id C0
  intro H locs ls l1 l2 l3 hP hD hS hl hw
  obtain ⟨x7, ex7⟩ : ∃ y : Int32, y = l3 + 1 := ⟨_, rfl⟩
  have hw := hw x7 ex7
  refine lv_iinc (v := x7) (lv' := [(3, .int x7), (0, .ref a0), (1, .int l1), (2, .int l2)]) hx hb (dt_of tkX1_seatedIn_k28 8 rfl) hl (k := 3) rfl (by rw [ex7]; rfl) (by decide) rfl (fun ls hl => ?_)
  refine lv_goto (tgt := 4) hx hb (dt_of tkX1_seatedIn_k28 9 rfl) (by decide) ?_
  exact hK4 _ _ _ l1 l2 x7 hP hD hS (lv_sub hl [1, 2, 3, 0] rfl) hw
set_option maxHeartbeats 4000000 in
set_option maxRecDepth 100000 in
theorem kl_X1_seatedIn_4 {p : Program} {l : Launch} {e : Env} {s : State} {m : MethodId} {args : Array Value} {below : List Frame} {meth : Method} {c : Code} {A : Nat → Prop} (dC : Nat → ClassId) (dI : Nat → Nat → Nat) (cyB cyI cyJ cyP : ClassId) (a0 jfB jch : Nat) (jcD jhx jhp jhq jgi jgj jgk jgz jfR jgl jgO jfS jiB : Value) (jc5 : Int32) (jdE : Nat → Int32) (Q : Int32 → Prop)  (C0 : cfx p s m args meth c cX1_seatedIn (some .int) wsX1_seatedIn RX1 4 A (dC, dI) (kT cyB cyI cyJ cyP)) : ∀ (n : Nat) (H : Heap) (locs : List Loc) (ls : Array Slot) (l1 l2 l3 : Int32), va_P (dC, dI) vwCl (wd01_3 a0 jch jcD jfB jhx jfB jhp jhq jgi jgj jgk jgz jfR jgl jgO jc5 jfS jiB jch cyI jdE) H → va_D A (wd01_3 a0 jch jcD jfB jhx jfB jhp jhq jgi jgj jgk jgz jfR jgl jgO jc5 jfS jiB jch cyI jdE) → va_S A s.heap H locs → lv_has ls 4 [(0, .ref a0), (1, .int l1), (2, .int l2), (3, .int l3)] → wl_X1_seatedIn_4 jc5 jdE Q  n l1 l2 l3 → W p l e (headSpec wsX1_seatedIn ({ frames := 1, cells := 0, slots := 0, locals := 21 })).room s m args below meth c H locs 0 0 (MQ below (va_Qi (fun (r : Int32) (_ : Unit) => Q r ) (cB (dC, dI) (kT cyB cyI cyJ cyP) A (fun u : Unit => ((wd01_3 a0 jch jcD jfB jhx jfB jhp jhq jgi jgj jgk jgz jfR jgl jgO jc5 jfS jiB jch cyI jdE) : va_W))) A) args s 0 0 A) (F0 m 4 ls []) := by
  obtain ⟨hx, hb, hr, hts, hown, hlocks, hml, hA, hK, hNw⟩ := id C0
  intro n
  induction n with
  | zero => intro H locs ls l1 l2 l3 hP hD hS hl hw; exact False.elim hw
  | succ n ih =>
    intro H locs ls l1 l2 l3 hP hD hS hl hw
    refine lv_iload_n hx hb (dt_of tkX1_seatedIn_k0 4 rfl) rfl (lv_at hl 3 rfl) ?_
    refine lv_aload_n hx hb (dt_of tkX1_seatedIn_k0 5 rfl) rfl (lv_at hl 0 rfl) ?_
    refine va_get (D := (dC, dI)) (ci := 1) (v := .ref jfB) (C := RX1) (T := TX1) (N := 4) hx hb hts ui_X1_seatedIn_X1 hown hK hP 0 rfl rfl 2 (by decide) (hts _ uw_X1_seatedIn_f24) (fun _ h9 => h9) rfl (dt_of tkX1_seatedIn_k0 6 rfl) ?_
    refine va_get (D := (dC, dI)) (ci := 2) (v := .int jc5) (C := RX2) (T := TX2) (N := 12) hx hb hts ui_X1_seatedIn_X2 hown hK hP 1 rfl rfl 9 (by decide) (hts _ uw_X1_seatedIn_f32) (fun _ h9 => h9) rfl (dt_of tkX1_seatedIn_k0 7 rfl) ?_
    refine lv_icmp_ge (tgt := 44) hx hb (dt_of tkX1_seatedIn_k0 8 rfl) (by decide) (fun c1 => ?_) (fun c1 => ?_)
    · have hw := hw.1 c1
      refine lv_iload_n hx hb (dt_of tkX1_seatedIn_k28 10 rfl) rfl (lv_at hl 2 rfl) ?_
      exact ((W.iret (v := l2) hx hb hr (fun t ht hW => ⟨⟨l2, (), rfl, hw, by rw [ht]; exact hP, va_K.moved hW.alike hK, hD⟩, hS.F ht⟩) hS.2.2 (dt_of tkX1_seatedIn_k28 11 rfl)))
    · have hw := hw.2 c1
      refine lv_aload_n hx hb (dt_of tkX1_seatedIn_k0 9 rfl) rfl (lv_at hl 0 rfl) ?_
      refine lv_iload_n hx hb (dt_of tkX1_seatedIn_k0 10 rfl) rfl (lv_at hl 3 rfl) ?_
      obtain ⟨hCc, hPc, hDc, hFc⟩ := va_pick (ws' := (wd01_1 a0 jch jcD jfB jhx jch cyI jdE)) hP hD hS hA [0, 2] (by decide +kernel) rfl
      refine va_calli (va_runV (As := [.int l3]) (rest := []) ⟨hx, hb, hml, hown, hts⟩ (ck_X1_isCaught l dC dI cyB cyI cyJ cyP a0 jch H.size (jcD) (.ref jfB) (jhx) jdE  l3 hw) (cwV 1 hts gX1_seatedIn_X1_isCaught rfl rfl rfl (by decide +kernel) ⟨Nat.le_of_ble_eq_true rfl, Nat.le_of_ble_eq_true rfl⟩) ⟨cPc_blind, va_recv (q := (RX1, TX1, 4)) hK hPc (ci := 1) (q0 := 0) rfl rfl, cPc_pre hPc hK hDc hNw⟩ rfl rfl hl.1 rfl (lv_room (Nat.le_of_ble_eq_true rfl)) (dt_of tkX1_seatedIn_k0 11 rfl) ⟨Nat.le_of_ble_eq_true rfl, Nat.le_of_ble_eq_true rfl⟩) hS (fun q _ h => hFc q h) hFc (fun r2 u t H1 locs ht hvm hw hB hz1 hk1 hS => ?_)
      obtain ⟨hP1, hK1, hD1⟩ := hB
      rw [ht] at hP1
      obtain ⟨hP, hD⟩ := va_joinN (wr := (wd01_8 jfB jhp jhq jgi jgj jgk jgz jfR jgl jgO jc5 jfS jiB)) (w1 := (wd01_1 a0 jch jcD jfB jhx jch cyI jdE)) (wn := (wd01_3 a0 jch jcD jfB jhx jfB jhp jhq jgi jgj jgk jgz jfR jgl jgO jc5 jfS jiB jch cyI jdE)) hP hD [0, 2] [1] [1, 0, 2] hCc rfl (by decide +kernel) (by decide +kernel) (by decide +kernel) rfl hk1 hFc hP1 hD1
      generalize H1 = H at hP hS ⊢
      refine lv_if_ne (tgt := 38) hx hb (dt_of tkX1_seatedIn_k0 12 rfl) (by decide) (fun c3 => ?_) (fun c3 => ?_)
      · have hw := hw.1 c3
        exact kb_X1_seatedIn_38 dC dI cyB cyI cyJ cyP a0 jfB jch jcD jhx jhp jhq jgi jgj jgk jgz jfR jgl jgO jfS jiB jc5 jdE Q (wl_X1_seatedIn_4 jc5 jdE Q  n) ih C0 _ _ _ l1 l2 l3 hP hD hS (lv_sub hl [0, 1, 2, 3] rfl) hw
      · have hw := hw.2 c3
        refine lv_aload_n hx hb (dt_of tkX1_seatedIn_k0 13 rfl) rfl (lv_at hl 0 rfl) ?_
        refine lv_iload_n hx hb (dt_of tkX1_seatedIn_k0 14 rfl) rfl (lv_at hl 3 rfl) ?_
        obtain ⟨hCc, hPc, hDc, hFc⟩ := va_pick (ws' := (wd01_1 a0 jch jcD jfB jhx jch cyI jdE)) hP hD hS hA [0, 2] (by decide +kernel) rfl
        refine va_calli (va_runV (As := [.int l3]) (rest := []) ⟨hx, hb, hml, hown, hts⟩ (ck_X1_sits l dC dI cyB cyI cyJ cyP a0 jch H.size (jcD) (.ref jfB) (jhx) jdE  l3 hw) (cwV 1 hts gX1_seatedIn_X1_sits rfl rfl rfl (by decide +kernel) ⟨Nat.le_of_ble_eq_true rfl, Nat.le_of_ble_eq_true rfl⟩) ⟨cPc_blind, va_recv (q := (RX1, TX1, 4)) hK hPc (ci := 1) (q0 := 0) rfl rfl, cPc_pre hPc hK hDc hNw⟩ rfl rfl hl.1 rfl (lv_room (Nat.le_of_ble_eq_true rfl)) (dt_of tkX1_seatedIn_k0 15 rfl) ⟨Nat.le_of_ble_eq_true rfl, Nat.le_of_ble_eq_true rfl⟩) hS (fun q _ h => hFc q h) hFc (fun r4 u t H1 locs ht hvm hw hB hz1 hk1 hS => ?_)
        obtain ⟨hP1, hK1, hD1⟩ := hB
        rw [ht] at hP1
        obtain ⟨hP, hD⟩ := va_joinN (wr := (wd01_8 jfB jhp jhq jgi jgj jgk jgz jfR jgl jgO jc5 jfS jiB)) (w1 := (wd01_1 a0 jch jcD jfB jhx jch cyI jdE)) (wn := (wd01_3 a0 jch jcD jfB jhx jfB jhp jhq jgi jgj jgk jgz jfR jgl jgO jc5 jfS jiB jch cyI jdE)) hP hD [0, 2] [1] [1, 0, 2] hCc rfl (by decide +kernel) (by decide +kernel) (by decide +kernel) rfl hk1 hFc hP1 hD1
        generalize H1 = H at hP hS ⊢
        refine lv_iload_n hx hb (dt_of tkX1_seatedIn_k28 0 rfl) rfl (lv_at hl 1 rfl) ?_
        refine lv_icmp_ne (tgt := 38) hx hb (dt_of tkX1_seatedIn_k28 1 rfl) (by decide) (fun c5 => ?_) (fun c5 => ?_)
        · have hw := hw.1 c5
          exact kb_X1_seatedIn_38 dC dI cyB cyI cyJ cyP a0 jfB jch jcD jhx jhp jhq jgi jgj jgk jgz jfR jgl jgO jfS jiB jc5 jdE Q (wl_X1_seatedIn_4 jc5 jdE Q  n) ih C0 _ _ _ l1 l2 l3 hP hD hS (lv_sub hl [0, 1, 2, 3] rfl) hw
        · have hw := hw.2 c5
          refine lv_iload_n hx hb (dt_of tkX1_seatedIn_k28 2 rfl) rfl (lv_at hl 2 rfl) ?_
          refine lv_iconst (v := 1) hx hb (dt_of tkX1_seatedIn_k28 3 rfl) (by decide) ?_
          refine lv_iload_n hx hb (dt_of tkX1_seatedIn_k28 4 rfl) rfl (lv_at hl 3 rfl) ?_
          refine lv_ishl hx hb (dt_of tkX1_seatedIn_k28 5 rfl) ?_
          refine lv_ior hx hb (dt_of tkX1_seatedIn_k28 6 rfl) ?_
          refine lv_topi (fun x6 ex6 => ?_)
          have hw := hw x6 ex6
          refine lv_istore_n (lv' := [(2, .int x6), (0, .ref a0), (1, .int l1), (3, .int l3)]) hx hb (dt_of tkX1_seatedIn_k28 7 rfl) rfl hl (by decide) rfl (fun ls hl => ?_)
          exact kb_X1_seatedIn_38 dC dI cyB cyI cyJ cyP a0 jfB jch jcD jhx jhp jhq jgi jgj jgk jgz jfR jgl jgO jfS jiB jc5 jdE Q (wl_X1_seatedIn_4 jc5 jdE Q  n) ih C0 _ _ _ l1 x6 l3 hP hD hS (lv_sub hl [1, 2, 0, 3] rfl) hw
set_option maxHeartbeats 4000000 in
set_option maxRecDepth 100000 in
theorem ck_X1_seatedIn (l : Launch) (dC : Nat → ClassId) (dI : Nat → Nat → Nat) (cyB cyI cyJ cyP : ClassId) (a0 jfB jch sz : Nat) (jcD jhx jhp jhq jgi jgj jgk jgz jfR jgl jgO jfS jiB : Value) (jc5 : Int32) (jdE : Nat → Int32)  (p1 : Int32) {Q : Int32 → Prop} (hw : wq_X1_seatedIn jc5 jdE  p1 Q) : Met l yX1_seatedIn wsX1_seatedIn ({ frames := 1, cells := 0, slots := 0, locals := 21 }) (va_Pc [.ref a0, .int p1] (cPc (dC, dI) (kT cyB cyI cyJ cyP) (wd01_3 a0 jch jcD jfB jhx jfB jhp jhq jgi jgj jgk jgz jfR jgl jgO jc5 jfS jiB jch cyI jdE) sz)) (va_Qi (fun (r : Int32) (_ : Unit) => Q r ) (cB (dC, dI) (kT cyB cyI cyJ cyP) (va_A (wd01_3 a0 jch jcD jfB jhx jfB jhp jhq jgi jgj jgk jgz jfR jgl jgO jc5 jfS jiB jch cyI jdE) sz) (fun u : Unit => ((wd01_3 a0 jch jcD jfB jhx jfB jhp jhq jgi jgj jgk jgz jfR jgl jgO jc5 jfS jiB jch cyI jdE) : va_W))) (va_A (wd01_3 a0 jch jcD jfB jhx jfB jhp jhq jgi jgj jgk jgz jfR jgl jgO jc5 jfS jiB jch cyI jdE) sz)) 0 0 (va_A (wd01_3 a0 jch jcD jfB jhx jfB jhp jhq jgi jgj jgk jgz jfR jgl jgO jc5 jfS jiB jch cyI jdE) sz) := by
  refine Met.ofW (cc := cX1_seatedIn) (maxL := 4) (ret := (some .int)) (by decide) rfl ?_
  intro p e s m args below meth c s₁ B hml hv
  obtain ⟨rfl, hsz, hP, hK, hD0, hNw⟩ := hv
  have hx := B.exec
  have hb := B.bytes
  have hr := B.returns
  have hts := atoms_spec (ws := wsX1_seatedIn) B.pre
  have hown : s.vm.findClass RX1 = some m.cls := findClass_of_methodNamed B.named
  have hlocks := B.notSynchronized
  subst hsz
  have hD := hD0.self (sz := s.heap.size)
  generalize hAe : va_A (wd01_3 a0 jch jcD jfB jhx jfB jhp jhq jgi jgj jgk jgz jfR jgl jgO jc5 jfS jiB jch cyI jdE) s.heap.size = A at hD ⊢
  have hA : ∀ q : Nat, s.heap.size ≤ q → A q := fun q h => by rw [← hAe]; exact Or.inr h
  have hS : va_S A s.heap s.heap [] := va_S.rf
  have hP : va_P (dC, dI) vwCl (wd01_3 a0 jch jcD jfB jhx jfB jhp jhq jgi jgj jgk jgz jfR jgl jgO jc5 jfS jiB jch cyI jdE) s.heap := hP
  have hl := lv_entry ([.ref a0, .int p1]) (n := 4) (Nat.le_of_ble_eq_true rfl)
  rw [lg_entry_eq]
  generalize (lg_sl ([.ref a0, .int p1]) ++ List.replicate (4 - (lg_sl ([.ref a0, .int p1])).length) Slot.unset).toArray = ls at hl ⊢
  have hl : lv_has ls 4 [(0, .ref a0), (1, .int p1)] := hl
  have C0 : cfx p s m _ meth c cX1_seatedIn (some .int) wsX1_seatedIn RX1 4 A (dC, dI) (kT cyB cyI cyJ cyP) := ⟨hx, hb, hr, hts, hown, hlocks, hml, hA, hK, hNw⟩
  clear hAe
  obtain ⟨H, hH⟩ : ∃ H, H = s.heap := ⟨_, rfl⟩
  rw [← hH] at hP ⊢
  have hS : va_S A s.heap H [] := by rw [hH]; exact va_S.rf
  have hS := hS
  refine lv_iconst (v := 0) hx hb (dt_of tkX1_seatedIn_k0 0 rfl) (by decide) ?_
  refine lv_istore_n (lv' := [(2, .int 0), (0, .ref a0), (1, .int p1)]) hx hb (dt_of tkX1_seatedIn_k0 1 rfl) rfl hl (by decide) rfl (fun ls hl => ?_)
  refine lv_iconst (v := 0) hx hb (dt_of tkX1_seatedIn_k0 2 rfl) (by decide) ?_
  refine lv_istore_n (lv' := [(3, .int 0), (2, .int 0), (0, .ref a0), (1, .int p1)]) hx hb (dt_of tkX1_seatedIn_k0 3 rfl) rfl hl (by decide) rfl (fun ls hl => ?_)
  obtain ⟨n9, hw⟩ := hw
  exact kl_X1_seatedIn_4 dC dI cyB cyI cyJ cyP a0 jfB jch jcD jhx jhp jhq jgi jgj jgk jgz jfR jgl jgO jfS jiB jc5 jdE Q  C0 n9 _ _ _ p1 0 0 hP hD hS (lv_sub hl [2, 3, 1, 0] rfl) hw
theorem ui_X1_owed_X1 : ∀ w ∈ u_ws RX1 TX1 4, w ∈ wsX1_owed := uiM mbX1_owed euX1 (by decide +kernel)
theorem ui_X1_owed_X2 : ∀ w ∈ u_ws RX2 TX2 12, w ∈ wsX1_owed := uiM mbX1_owed euX2 (by decide +kernel)
theorem uw_X1_owed_f24 : (.fieldLink RX1 24 "MarchHares$Days" "down" "LMarchHares$Down;" : Cond) ∈ wsX1_owed := mbX1_owed 322 (by decide +kernel)
theorem uw_X1_owed_f32 : (.fieldLink RX1 32 "MarchHares$Down" "hares" "I" : Cond) ∈ wsX1_owed := mbX1_owed 324 (by decide +kernel)
set_option maxHeartbeats 4000000 in
set_option maxRecDepth 100000 in
theorem kl_X1_owed_4 {p : Program} {l : Launch} {e : Env} {s : State} {m : MethodId} {args : Array Value} {below : List Frame} {meth : Method} {c : Code} {A : Nat → Prop} (dC : Nat → ClassId) (dI : Nat → Nat → Nat) (cyB cyI cyJ cyP : ClassId) (a0 jfB jch : Nat) (jcD jhx jhp jhq jgi jgj jgk jgz jfR jgl jgO jfS jiB : Value) (jc5 : Int32) (jdE : Nat → Int32) (Q : Int32 → Prop)  (C0 : cfx p s m args meth c cX1_owed (some .int) wsX1_owed RX1 4 A (dC, dI) (kT cyB cyI cyJ cyP)) : ∀ (n : Nat) (H : Heap) (locs : List Loc) (ls : Array Slot) (l1 l2 l3 : Int32), va_P (dC, dI) vwCl (wd01_3 a0 jch jcD jfB jhx jfB jhp jhq jgi jgj jgk jgz jfR jgl jgO jc5 jfS jiB jch cyI jdE) H → va_D A (wd01_3 a0 jch jcD jfB jhx jfB jhp jhq jgi jgj jgk jgz jfR jgl jgO jc5 jfS jiB jch cyI jdE) → va_S A s.heap H locs → lv_has ls 4 [(0, .ref a0), (1, .int l1), (2, .int l2), (3, .int l3)] → wl_X1_owed_4 jc5 jdE Q  n l1 l2 l3 → W p l e (headSpec wsX1_owed ({ frames := 1, cells := 0, slots := 0, locals := 22 })).room s m args below meth c H locs 0 0 (MQ below (va_Qi (fun (r : Int32) (_ : Unit) => Q r ) (cB (dC, dI) (kT cyB cyI cyJ cyP) A (fun u : Unit => ((wd01_3 a0 jch jcD jfB jhx jfB jhp jhq jgi jgj jgk jgz jfR jgl jgO jc5 jfS jiB jch cyI jdE) : va_W))) A) args s 0 0 A) (F0 m 4 ls []) := by
  obtain ⟨hx, hb, hr, hts, hown, hlocks, hml, hA, hK, hNw⟩ := id C0
  intro n
  induction n with
  | zero => intro H locs ls l1 l2 l3 hP hD hS hl hw; exact False.elim hw
  | succ n ih =>
    intro H locs ls l1 l2 l3 hP hD hS hl hw
    refine lv_iload_n hx hb (dt_of tkX1_owed_k0 4 rfl) rfl (lv_at hl 3 rfl) ?_
    refine lv_aload_n hx hb (dt_of tkX1_owed_k0 5 rfl) rfl (lv_at hl 0 rfl) ?_
    refine va_get (D := (dC, dI)) (ci := 1) (v := .ref jfB) (C := RX1) (T := TX1) (N := 4) hx hb hts ui_X1_owed_X1 hown hK hP 0 rfl rfl 2 (by decide) (hts _ uw_X1_owed_f24) (fun _ h9 => h9) rfl (dt_of tkX1_owed_k0 6 rfl) ?_
    refine va_get (D := (dC, dI)) (ci := 2) (v := .int jc5) (C := RX2) (T := TX2) (N := 12) hx hb hts ui_X1_owed_X2 hown hK hP 1 rfl rfl 9 (by decide) (hts _ uw_X1_owed_f32) (fun _ h9 => h9) rfl (dt_of tkX1_owed_k0 7 rfl) ?_
    refine lv_icmp_ge (tgt := 30) hx hb (dt_of tkX1_owed_k0 8 rfl) (by decide) (fun c1 => ?_) (fun c1 => ?_)
    · have hw := hw.1 c1
      refine lv_iload_n hx hb (dt_of tkX1_owed_k24 2 rfl) rfl (lv_at hl 2 rfl) ?_
      exact ((W.iret (v := l2) hx hb hr (fun t ht hW => ⟨⟨l2, (), rfl, hw, by rw [ht]; exact hP, va_K.moved hW.alike hK, hD⟩, hS.F ht⟩) hS.2.2 (dt_of tkX1_owed_k24 3 rfl)))
    · have hw := hw.2 c1
      refine lv_iload_n hx hb (dt_of tkX1_owed_k0 9 rfl) rfl (lv_at hl 2 rfl) ?_
      refine lv_aload_n hx hb (dt_of tkX1_owed_k0 10 rfl) rfl (lv_at hl 0 rfl) ?_
      refine lv_iload_n hx hb (dt_of tkX1_owed_k0 11 rfl) rfl (lv_at hl 3 rfl) ?_
      refine lv_iload_n hx hb (dt_of tkX1_owed_k0 12 rfl) rfl (lv_at hl 1 rfl) ?_
      obtain ⟨hCc, hPc, hDc, hFc⟩ := va_pick (ws' := (wd01_1 a0 jch jcD jfB jhx jch cyI jdE)) hP hD hS hA [0, 2] (by decide +kernel) rfl
      refine va_calli (va_runV (As := [.int l3, .int l1]) (rest := [.int l2]) ⟨hx, hb, hml, hown, hts⟩ (ck_X1_owesTo l dC dI cyB cyI cyJ cyP a0 jch H.size (jcD) (.ref jfB) (jhx) jdE  l3 l1 hw) (cwV 2 hts gX1_owed_X1_owesTo rfl rfl rfl (by decide +kernel) ⟨Nat.le_of_ble_eq_true rfl, Nat.le_of_ble_eq_true rfl⟩) ⟨cPc_blind, va_recv (q := (RX1, TX1, 4)) hK hPc (ci := 1) (q0 := 0) rfl rfl, cPc_pre hPc hK hDc hNw⟩ rfl rfl hl.1 rfl (lv_room (Nat.le_of_ble_eq_true rfl)) (dt_of tkX1_owed_k0 13 rfl) ⟨Nat.le_of_ble_eq_true rfl, Nat.le_of_ble_eq_true rfl⟩) hS (fun q _ h => hFc q h) hFc (fun r2 u t H1 locs ht hvm hw hB hz1 hk1 hS => ?_)
      obtain ⟨hP1, hK1, hD1⟩ := hB
      rw [ht] at hP1
      obtain ⟨hP, hD⟩ := va_joinN (wr := (wd01_8 jfB jhp jhq jgi jgj jgk jgz jfR jgl jgO jc5 jfS jiB)) (w1 := (wd01_1 a0 jch jcD jfB jhx jch cyI jdE)) (wn := (wd01_3 a0 jch jcD jfB jhx jfB jhp jhq jgi jgj jgk jgz jfR jgl jgO jc5 jfS jiB jch cyI jdE)) hP hD [0, 2] [1] [1, 0, 2] hCc rfl (by decide +kernel) (by decide +kernel) (by decide +kernel) rfl hk1 hFc hP1 hD1
      generalize H1 = H at hP hS ⊢
      refine lv_iadd hx hb (dt_of tkX1_owed_k0 14 rfl) ?_
      refine lv_topi (fun x3 ex3 => ?_)
      have hw := hw x3 ex3
      refine lv_istore_n (lv' := [(2, .int x3), (0, .ref a0), (1, .int l1), (3, .int l3)]) hx hb (dt_of tkX1_owed_k0 15 rfl) rfl hl (by decide) rfl (fun ls hl => ?_)
      obtain ⟨x4, ex4⟩ : ∃ y : Int32, y = l3 + 1 := ⟨_, rfl⟩
      have hw := hw x4 ex4
      refine lv_iinc (v := x4) (lv' := [(3, .int x4), (2, .int x3), (0, .ref a0), (1, .int l1)]) hx hb (dt_of tkX1_owed_k24 0 rfl) hl (k := 3) rfl (by rw [ex4]; rfl) (by decide) rfl (fun ls hl => ?_)
      refine lv_goto (tgt := 4) hx hb (dt_of tkX1_owed_k24 1 rfl) (by decide) ?_
      exact ih _ _ _ l1 x3 x4 hP hD hS (lv_sub hl [2, 3, 1, 0] rfl) hw
set_option maxHeartbeats 4000000 in
set_option maxRecDepth 100000 in
theorem ck_X1_owed (l : Launch) (dC : Nat → ClassId) (dI : Nat → Nat → Nat) (cyB cyI cyJ cyP : ClassId) (a0 jfB jch sz : Nat) (jcD jhx jhp jhq jgi jgj jgk jgz jfR jgl jgO jfS jiB : Value) (jc5 : Int32) (jdE : Nat → Int32)  (p1 : Int32) {Q : Int32 → Prop} (hw : wq_X1_owed jc5 jdE  p1 Q) : Met l yX1_owed wsX1_owed ({ frames := 1, cells := 0, slots := 0, locals := 22 }) (va_Pc [.ref a0, .int p1] (cPc (dC, dI) (kT cyB cyI cyJ cyP) (wd01_3 a0 jch jcD jfB jhx jfB jhp jhq jgi jgj jgk jgz jfR jgl jgO jc5 jfS jiB jch cyI jdE) sz)) (va_Qi (fun (r : Int32) (_ : Unit) => Q r ) (cB (dC, dI) (kT cyB cyI cyJ cyP) (va_A (wd01_3 a0 jch jcD jfB jhx jfB jhp jhq jgi jgj jgk jgz jfR jgl jgO jc5 jfS jiB jch cyI jdE) sz) (fun u : Unit => ((wd01_3 a0 jch jcD jfB jhx jfB jhp jhq jgi jgj jgk jgz jfR jgl jgO jc5 jfS jiB jch cyI jdE) : va_W))) (va_A (wd01_3 a0 jch jcD jfB jhx jfB jhp jhq jgi jgj jgk jgz jfR jgl jgO jc5 jfS jiB jch cyI jdE) sz)) 0 0 (va_A (wd01_3 a0 jch jcD jfB jhx jfB jhp jhq jgi jgj jgk jgz jfR jgl jgO jc5 jfS jiB jch cyI jdE) sz) := by
  refine Met.ofW (cc := cX1_owed) (maxL := 4) (ret := (some .int)) (by decide) rfl ?_
  intro p e s m args below meth c s₁ B hml hv
  obtain ⟨rfl, hsz, hP, hK, hD0, hNw⟩ := hv
  have hx := B.exec
  have hb := B.bytes
  have hr := B.returns
  have hts := atoms_spec (ws := wsX1_owed) B.pre
  have hown : s.vm.findClass RX1 = some m.cls := findClass_of_methodNamed B.named
  have hlocks := B.notSynchronized
  subst hsz
  have hD := hD0.self (sz := s.heap.size)
  generalize hAe : va_A (wd01_3 a0 jch jcD jfB jhx jfB jhp jhq jgi jgj jgk jgz jfR jgl jgO jc5 jfS jiB jch cyI jdE) s.heap.size = A at hD ⊢
  have hA : ∀ q : Nat, s.heap.size ≤ q → A q := fun q h => by rw [← hAe]; exact Or.inr h
  have hS : va_S A s.heap s.heap [] := va_S.rf
  have hP : va_P (dC, dI) vwCl (wd01_3 a0 jch jcD jfB jhx jfB jhp jhq jgi jgj jgk jgz jfR jgl jgO jc5 jfS jiB jch cyI jdE) s.heap := hP
  have hl := lv_entry ([.ref a0, .int p1]) (n := 4) (Nat.le_of_ble_eq_true rfl)
  rw [lg_entry_eq]
  generalize (lg_sl ([.ref a0, .int p1]) ++ List.replicate (4 - (lg_sl ([.ref a0, .int p1])).length) Slot.unset).toArray = ls at hl ⊢
  have hl : lv_has ls 4 [(0, .ref a0), (1, .int p1)] := hl
  have C0 : cfx p s m _ meth c cX1_owed (some .int) wsX1_owed RX1 4 A (dC, dI) (kT cyB cyI cyJ cyP) := ⟨hx, hb, hr, hts, hown, hlocks, hml, hA, hK, hNw⟩
  clear hAe
  obtain ⟨H, hH⟩ : ∃ H, H = s.heap := ⟨_, rfl⟩
  rw [← hH] at hP ⊢
  have hS : va_S A s.heap H [] := by rw [hH]; exact va_S.rf
  have hS := hS
  refine lv_iconst (v := 0) hx hb (dt_of tkX1_owed_k0 0 rfl) (by decide) ?_
  refine lv_istore_n (lv' := [(2, .int 0), (0, .ref a0), (1, .int p1)]) hx hb (dt_of tkX1_owed_k0 1 rfl) rfl hl (by decide) rfl (fun ls hl => ?_)
  refine lv_iconst (v := 0) hx hb (dt_of tkX1_owed_k0 2 rfl) (by decide) ?_
  refine lv_istore_n (lv' := [(3, .int 0), (2, .int 0), (0, .ref a0), (1, .int p1)]) hx hb (dt_of tkX1_owed_k0 3 rfl) rfl hl (by decide) rfl (fun ls hl => ?_)
  obtain ⟨n9, hw⟩ := hw
  exact kl_X1_owed_4 dC dI cyB cyI cyJ cyP a0 jfB jch jcD jhx jhp jhq jgi jgj jgk jgz jfR jgl jgO jfS jiB jc5 jdE Q  C0 n9 _ _ _ p1 0 0 hP hD hS (lv_sub hl [2, 3, 1, 0] rfl) hw
theorem ui_X4_setFacts_X4 : ∀ w ∈ u_ws RX4 TX4 5, w ∈ wsX4_setFacts := uiM mbX4_setFacts euX4 (by decide +kernel)
theorem uw_X4_setFacts_f21 : (.fieldLink RX4 21 "MarchHares$Law" "facts" "[I" : Cond) ∈ wsX4_setFacts := mbX4_setFacts 203 (by decide +kernel)
set_option maxHeartbeats 4000000 in
set_option maxRecDepth 100000 in
theorem ck_X4_setFacts (l : Launch) (dC : Nat → ClassId) (dI : Nat → Nat → Nat) (cyB cyI cyJ cyP : ClassId) (a0 jbu sz : Nat) (jni jn6 jhV jjf : Value)  (jbZ : Nat → Int32) (p1 p2 p3 p4 p5 : Int32) {Q : (Nat → Int32) → Prop} (hw : wq_X4_setFacts  jbZ p1 p2 p3 p4 p5 Q) : Met l yX4_setFacts wsX4_setFacts ({ frames := 0, cells := 0, slots := 0, locals := 0 }) (va_Pc [.ref a0, .int p1, .int p2, .int p3, .int p4, .int p5] (cPc (dC, dI) (kT cyB cyI cyJ cyP) (wd01_9 a0 jni jn6 jhV jbu jjf jbu cyI jbZ) sz)) (va_Qv (fun (u : (Nat → Int32)) => Q u) (cB (dC, dI) (kT cyB cyI cyJ cyP) (va_A (wd01_9 a0 jni jn6 jhV jbu jjf jbu cyI jbZ) sz) (fun u : (Nat → Int32) => ((wd01_9 a0 jni jn6 jhV jbu jjf jbu cyI u) : va_W))) (va_A (wd01_9 a0 jni jn6 jhV jbu jjf jbu cyI jbZ) sz)) 0 0 (va_A (wd01_9 a0 jni jn6 jhV jbu jjf jbu cyI jbZ) sz) := by
  refine Met.ofW (cc := cX4_setFacts) (maxL := 6) (ret := none) (by decide) rfl ?_
  intro p e s m args below meth c s₁ B hml hv
  obtain ⟨rfl, hsz, hP, hK, hD0, hNw⟩ := hv
  have hx := B.exec
  have hb := B.bytes
  have hr := B.returns
  have hts := atoms_spec (ws := wsX4_setFacts) B.pre
  have hown : s.vm.findClass RX4 = some m.cls := findClass_of_methodNamed B.named
  have hlocks := B.notSynchronized
  subst hsz
  have hD := hD0.self (sz := s.heap.size)
  generalize hAe : va_A (wd01_9 a0 jni jn6 jhV jbu jjf jbu cyI jbZ) s.heap.size = A at hD ⊢
  have hA : ∀ q : Nat, s.heap.size ≤ q → A q := fun q h => by rw [← hAe]; exact Or.inr h
  have hS : va_S A s.heap s.heap [] := va_S.rf
  have hP : va_P (dC, dI) vwCl (wd01_9 a0 jni jn6 jhV jbu jjf jbu cyI jbZ) s.heap := hP
  have hl := lv_entry ([.ref a0, .int p1, .int p2, .int p3, .int p4, .int p5]) (n := 6) (Nat.le_of_ble_eq_true rfl)
  rw [lg_entry_eq]
  generalize (lg_sl ([.ref a0, .int p1, .int p2, .int p3, .int p4, .int p5]) ++ List.replicate (6 - (lg_sl ([.ref a0, .int p1, .int p2, .int p3, .int p4, .int p5])).length) Slot.unset).toArray = ls at hl ⊢
  have hl : lv_has ls 6 [(0, .ref a0), (1, .int p1), (2, .int p2), (3, .int p3), (4, .int p4), (5, .int p5)] := hl
  have C0 : cfx p s m _ meth c cX4_setFacts none wsX4_setFacts RX4 6 A (dC, dI) (kT cyB cyI cyJ cyP) := ⟨hx, hb, hr, hts, hown, hlocks, hml, hA, hK, hNw⟩
  clear hAe
  obtain ⟨H, hH⟩ : ∃ H, H = s.heap := ⟨_, rfl⟩
  rw [← hH] at hP ⊢
  have hS : va_S A s.heap H [] := by rw [hH]; exact va_S.rf
  have hS := hS
  refine lv_aload_n hx hb (dt_of tkX4_setFacts_k0 0 rfl) rfl (lv_at hl 0 rfl) ?_
  refine va_get (D := (dC, dI)) (ci := 4) (v := .ref jbu) (C := RX4) (T := TX4) (N := 5) hx hb hts ui_X4_setFacts_X4 hown hK hP 0 rfl rfl 3 (by decide) (hts _ uw_X4_setFacts_f21) (fun _ h9 => h9) rfl (dt_of tkX4_setFacts_k0 1 rfl) ?_
  refine lv_iconst (v := 0) hx hb (dt_of tkX4_setFacts_k0 2 rfl) (by decide) ?_
  refine lv_iload_n hx hb (dt_of tkX4_setFacts_k0 3 rfl) rfl (lv_at hl 1 rfl) ?_
  refine va_iast hx hb hK hP hD hS 1 1 rfl rfl (vin (by decide)) (dt_of tkX4_setFacts_k0 4 rfl) (fun H locs hP hD hS => ?_)
  obtain ⟨f1, ef1⟩ : ∃ y : Nat → Int32, y = upd jbZ (0 : Int32).toNatClampNeg p1 := ⟨_, rfl⟩
  have hw := hw f1 ef1
  have hP : va_P (dC, dI) vwCl (wd01_9 a0 jni jn6 jhV jbu jjf jbu cyI f1) H := by rw [ef1]; exact hP
  have hD : va_D A (wd01_9 a0 jni jn6 jhV jbu jjf jbu cyI f1) := by rw [ef1]; exact hD
  refine lv_aload_n hx hb (dt_of tkX4_setFacts_k0 5 rfl) rfl (lv_at hl 0 rfl) ?_
  refine va_get (D := (dC, dI)) (ci := 4) (v := .ref jbu) (C := RX4) (T := TX4) (N := 5) hx hb hts ui_X4_setFacts_X4 hown hK hP 0 rfl rfl 3 (by decide) (hts _ uw_X4_setFacts_f21) (fun _ h9 => h9) rfl (dt_of tkX4_setFacts_k0 6 rfl) ?_
  refine lv_iconst (v := 1) hx hb (dt_of tkX4_setFacts_k0 7 rfl) (by decide) ?_
  refine lv_iload_n hx hb (dt_of tkX4_setFacts_k0 8 rfl) rfl (lv_at hl 2 rfl) ?_
  refine va_iast hx hb hK hP hD hS 1 1 rfl rfl (vin (by decide)) (dt_of tkX4_setFacts_k0 9 rfl) (fun H locs hP hD hS => ?_)
  obtain ⟨f2, ef2⟩ : ∃ y : Nat → Int32, y = upd f1 (1 : Int32).toNatClampNeg p2 := ⟨_, rfl⟩
  have hw := hw f2 ef2
  have hP : va_P (dC, dI) vwCl (wd01_9 a0 jni jn6 jhV jbu jjf jbu cyI f2) H := by rw [ef2]; exact hP
  have hD : va_D A (wd01_9 a0 jni jn6 jhV jbu jjf jbu cyI f2) := by rw [ef2]; exact hD
  refine lv_aload_n hx hb (dt_of tkX4_setFacts_k0 10 rfl) rfl (lv_at hl 0 rfl) ?_
  refine va_get (D := (dC, dI)) (ci := 4) (v := .ref jbu) (C := RX4) (T := TX4) (N := 5) hx hb hts ui_X4_setFacts_X4 hown hK hP 0 rfl rfl 3 (by decide) (hts _ uw_X4_setFacts_f21) (fun _ h9 => h9) rfl (dt_of tkX4_setFacts_k0 11 rfl) ?_
  refine lv_iconst (v := 2) hx hb (dt_of tkX4_setFacts_k0 12 rfl) (by decide) ?_
  refine lv_iload_n hx hb (dt_of tkX4_setFacts_k0 13 rfl) rfl (lv_at hl 3 rfl) ?_
  refine va_iast hx hb hK hP hD hS 1 1 rfl rfl (vin (by decide)) (dt_of tkX4_setFacts_k0 14 rfl) (fun H locs hP hD hS => ?_)
  obtain ⟨f3, ef3⟩ : ∃ y : Nat → Int32, y = upd f2 (2 : Int32).toNatClampNeg p3 := ⟨_, rfl⟩
  have hw := hw f3 ef3
  have hP : va_P (dC, dI) vwCl (wd01_9 a0 jni jn6 jhV jbu jjf jbu cyI f3) H := by rw [ef3]; exact hP
  have hD : va_D A (wd01_9 a0 jni jn6 jhV jbu jjf jbu cyI f3) := by rw [ef3]; exact hD
  refine lv_aload_n hx hb (dt_of tkX4_setFacts_k0 15 rfl) rfl (lv_at hl 0 rfl) ?_
  refine va_get (D := (dC, dI)) (ci := 4) (v := .ref jbu) (C := RX4) (T := TX4) (N := 5) hx hb hts ui_X4_setFacts_X4 hown hK hP 0 rfl rfl 3 (by decide) (hts _ uw_X4_setFacts_f21) (fun _ h9 => h9) rfl (dt_of tkX4_setFacts_k22 0 rfl) ?_
  refine lv_iconst (v := 3) hx hb (dt_of tkX4_setFacts_k22 1 rfl) (by decide) ?_
  refine lv_iload hx hb (dt_of tkX4_setFacts_k22 2 rfl) (lv_at hl 4 rfl) ?_
  refine va_iast hx hb hK hP hD hS 1 1 rfl rfl (vin (by decide)) (dt_of tkX4_setFacts_k22 3 rfl) (fun H locs hP hD hS => ?_)
  obtain ⟨f4, ef4⟩ : ∃ y : Nat → Int32, y = upd f3 (3 : Int32).toNatClampNeg p4 := ⟨_, rfl⟩
  have hw := hw f4 ef4
  have hP : va_P (dC, dI) vwCl (wd01_9 a0 jni jn6 jhV jbu jjf jbu cyI f4) H := by rw [ef4]; exact hP
  have hD : va_D A (wd01_9 a0 jni jn6 jhV jbu jjf jbu cyI f4) := by rw [ef4]; exact hD
  refine lv_aload_n hx hb (dt_of tkX4_setFacts_k22 4 rfl) rfl (lv_at hl 0 rfl) ?_
  refine va_get (D := (dC, dI)) (ci := 4) (v := .ref jbu) (C := RX4) (T := TX4) (N := 5) hx hb hts ui_X4_setFacts_X4 hown hK hP 0 rfl rfl 3 (by decide) (hts _ uw_X4_setFacts_f21) (fun _ h9 => h9) rfl (dt_of tkX4_setFacts_k22 5 rfl) ?_
  refine lv_iconst (v := 4) hx hb (dt_of tkX4_setFacts_k22 6 rfl) (by decide) ?_
  refine lv_iload hx hb (dt_of tkX4_setFacts_k22 7 rfl) (lv_at hl 5 rfl) ?_
  refine va_iast hx hb hK hP hD hS 1 1 rfl rfl (vin (by decide)) (dt_of tkX4_setFacts_k22 8 rfl) (fun H locs hP hD hS => ?_)
  obtain ⟨f5, ef5⟩ : ∃ y : Nat → Int32, y = upd f4 (4 : Int32).toNatClampNeg p5 := ⟨_, rfl⟩
  have hw := hw f5 ef5
  have hP : va_P (dC, dI) vwCl (wd01_9 a0 jni jn6 jhV jbu jjf jbu cyI f5) H := by rw [ef5]; exact hP
  have hD : va_D A (wd01_9 a0 jni jn6 jhV jbu jjf jbu cyI f5) := by rw [ef5]; exact hD
  exact ((W.vret hx hb hr (fun t ht hW => ⟨⟨(f5), rfl, hw, by rw [ht]; exact hP, va_K.moved hW.alike hK, hD⟩, hS.F ht⟩) hS.2.2 (dt_of tkX4_setFacts_k22 9 rfl)))
theorem ui_X1_leaps_X1 : ∀ w ∈ u_ws RX1 TX1 4, w ∈ wsX1_leaps := uiM mbX1_leaps euX1 (by decide +kernel)
theorem uw_X1_leaps_f13 : (.fieldLink RX1 13 "MarchHares$Days" "row" "[I" : Cond) ∈ wsX1_leaps := mbX1_leaps 276 (by decide +kernel)
set_option maxHeartbeats 4000000 in
set_option maxRecDepth 100000 in
theorem ck_X1_leaps (l : Launch) (dC : Nat → ClassId) (dI : Nat → Nat → Nat) (cyB cyI cyJ cyP : ClassId) (a0 jch sz : Nat) (jcD ji6 jhx : Value) (jdE : Nat → Int32)  (p1 : Int32) {Q : Int32 → Prop} (hw : wq_X1_leaps jdE  p1 Q) : Met l yX1_leaps wsX1_leaps ({ frames := 0, cells := 0, slots := 0, locals := 0 }) (va_Pc [.ref a0, .int p1] (cPc (dC, dI) (kT cyB cyI cyJ cyP) (wd01_10 a0 jch jcD ji6 jhx jch cyI jdE) sz)) (va_Qi (fun (r : Int32) (_ : Unit) => Q r ) (cB (dC, dI) (kT cyB cyI cyJ cyP) (va_A (wd01_10 a0 jch jcD ji6 jhx jch cyI jdE) sz) (fun u : Unit => ((wd01_10 a0 jch jcD ji6 jhx jch cyI jdE) : va_W))) (va_A (wd01_10 a0 jch jcD ji6 jhx jch cyI jdE) sz)) 0 0 (va_A (wd01_10 a0 jch jcD ji6 jhx jch cyI jdE) sz) := by
  refine Met.ofW (cc := cX1_leaps) (maxL := 2) (ret := (some .int)) (by decide) rfl ?_
  intro p e s m args below meth c s₁ B hml hv
  obtain ⟨rfl, hsz, hP, hK, hD0, hNw⟩ := hv
  have hx := B.exec
  have hb := B.bytes
  have hr := B.returns
  have hts := atoms_spec (ws := wsX1_leaps) B.pre
  have hown : s.vm.findClass RX1 = some m.cls := findClass_of_methodNamed B.named
  have hlocks := B.notSynchronized
  subst hsz
  have hD := hD0.self (sz := s.heap.size)
  generalize hAe : va_A (wd01_10 a0 jch jcD ji6 jhx jch cyI jdE) s.heap.size = A at hD ⊢
  have hA : ∀ q : Nat, s.heap.size ≤ q → A q := fun q h => by rw [← hAe]; exact Or.inr h
  have hS : va_S A s.heap s.heap [] := va_S.rf
  have hP : va_P (dC, dI) vwCl (wd01_10 a0 jch jcD ji6 jhx jch cyI jdE) s.heap := hP
  have hl := lv_entry ([.ref a0, .int p1]) (n := 2) (Nat.le_of_ble_eq_true rfl)
  rw [lg_entry_eq]
  generalize (lg_sl ([.ref a0, .int p1]) ++ List.replicate (2 - (lg_sl ([.ref a0, .int p1])).length) Slot.unset).toArray = ls at hl ⊢
  have hl : lv_has ls 2 [(0, .ref a0), (1, .int p1)] := hl
  have C0 : cfx p s m _ meth c cX1_leaps (some .int) wsX1_leaps RX1 2 A (dC, dI) (kT cyB cyI cyJ cyP) := ⟨hx, hb, hr, hts, hown, hlocks, hml, hA, hK, hNw⟩
  clear hAe
  obtain ⟨H, hH⟩ : ∃ H, H = s.heap := ⟨_, rfl⟩
  rw [← hH] at hP ⊢
  have hS : va_S A s.heap H [] := by rw [hH]; exact va_S.rf
  have hS := hS
  refine lv_aload_n hx hb (dt_of tkX1_leaps_k0 0 rfl) rfl (lv_at hl 0 rfl) ?_
  refine va_get (D := (dC, dI)) (ci := 1) (v := .ref jch) (C := RX1) (T := TX1) (N := 4) hx hb hts ui_X1_leaps_X1 hown hK hP 0 rfl rfl 0 (by decide) (hts _ uw_X1_leaps_f13) (fun _ h9 => h9) rfl (dt_of tkX1_leaps_k0 1 rfl) ?_
  refine lv_bipush (v := 22) hx hb (dt_of tkX1_leaps_k0 2 rfl) (by decide) ?_
  refine lv_iload_n hx hb (dt_of tkX1_leaps_k0 3 rfl) rfl (lv_at hl 1 rfl) ?_
  refine lv_iadd hx hb (dt_of tkX1_leaps_k0 4 rfl) ?_
  refine lv_topi (fun x1 ex1 => ?_)
  have hw := hw x1 ex1
  obtain ⟨hi9, hw⟩ := hw
  refine va_iald hx hb hK hP 1 1 rfl rfl hi9 (dt_of tkX1_leaps_k0 5 rfl) ?_
  refine lv_topi (fun x2 ex2 => ?_)
  have hw := hw x2 ex2
  exact ((W.iret (v := x2) hx hb hr (fun t ht hW => ⟨⟨x2, (), rfl, hw, by rw [ht]; exact hP, va_K.moved hW.alike hK, hD⟩, hS.F ht⟩) hS.2.2 (dt_of tkX1_leaps_k0 6 rfl)))
theorem ui_X4_setTimes_X4 : ∀ w ∈ u_ws RX4 TX4 5, w ∈ wsX4_setTimes := uiM mbX4_setTimes euX4 (by decide +kernel)
theorem uw_X4_setTimes_f21 : (.fieldLink RX4 21 "MarchHares$Law" "facts" "[I" : Cond) ∈ wsX4_setTimes := mbX4_setTimes 203 (by decide +kernel)
set_option maxHeartbeats 4000000 in
set_option maxRecDepth 100000 in
theorem ck_X4_setTimes (l : Launch) (dC : Nat → ClassId) (dI : Nat → Nat → Nat) (cyB cyI cyJ cyP : ClassId) (a0 jbu sz : Nat) (jni jn6 jhV jjf : Value)  (jbZ : Nat → Int32) (p1 p2 p3 : Int32) {Q : (Nat → Int32) → Prop} (hw : wq_X4_setTimes  jbZ p1 p2 p3 Q) : Met l yX4_setTimes wsX4_setTimes ({ frames := 0, cells := 0, slots := 0, locals := 0 }) (va_Pc [.ref a0, .int p1, .int p2, .int p3] (cPc (dC, dI) (kT cyB cyI cyJ cyP) (wd01_9 a0 jni jn6 jhV jbu jjf jbu cyI jbZ) sz)) (va_Qv (fun (u : (Nat → Int32)) => Q u) (cB (dC, dI) (kT cyB cyI cyJ cyP) (va_A (wd01_9 a0 jni jn6 jhV jbu jjf jbu cyI jbZ) sz) (fun u : (Nat → Int32) => ((wd01_9 a0 jni jn6 jhV jbu jjf jbu cyI u) : va_W))) (va_A (wd01_9 a0 jni jn6 jhV jbu jjf jbu cyI jbZ) sz)) 0 0 (va_A (wd01_9 a0 jni jn6 jhV jbu jjf jbu cyI jbZ) sz) := by
  refine Met.ofW (cc := cX4_setTimes) (maxL := 4) (ret := none) (by decide) rfl ?_
  intro p e s m args below meth c s₁ B hml hv
  obtain ⟨rfl, hsz, hP, hK, hD0, hNw⟩ := hv
  have hx := B.exec
  have hb := B.bytes
  have hr := B.returns
  have hts := atoms_spec (ws := wsX4_setTimes) B.pre
  have hown : s.vm.findClass RX4 = some m.cls := findClass_of_methodNamed B.named
  have hlocks := B.notSynchronized
  subst hsz
  have hD := hD0.self (sz := s.heap.size)
  generalize hAe : va_A (wd01_9 a0 jni jn6 jhV jbu jjf jbu cyI jbZ) s.heap.size = A at hD ⊢
  have hA : ∀ q : Nat, s.heap.size ≤ q → A q := fun q h => by rw [← hAe]; exact Or.inr h
  have hS : va_S A s.heap s.heap [] := va_S.rf
  have hP : va_P (dC, dI) vwCl (wd01_9 a0 jni jn6 jhV jbu jjf jbu cyI jbZ) s.heap := hP
  have hl := lv_entry ([.ref a0, .int p1, .int p2, .int p3]) (n := 4) (Nat.le_of_ble_eq_true rfl)
  rw [lg_entry_eq]
  generalize (lg_sl ([.ref a0, .int p1, .int p2, .int p3]) ++ List.replicate (4 - (lg_sl ([.ref a0, .int p1, .int p2, .int p3])).length) Slot.unset).toArray = ls at hl ⊢
  have hl : lv_has ls 4 [(0, .ref a0), (1, .int p1), (2, .int p2), (3, .int p3)] := hl
  have C0 : cfx p s m _ meth c cX4_setTimes none wsX4_setTimes RX4 4 A (dC, dI) (kT cyB cyI cyJ cyP) := ⟨hx, hb, hr, hts, hown, hlocks, hml, hA, hK, hNw⟩
  clear hAe
  obtain ⟨H, hH⟩ : ∃ H, H = s.heap := ⟨_, rfl⟩
  rw [← hH] at hP ⊢
  have hS : va_S A s.heap H [] := by rw [hH]; exact va_S.rf
  have hS := hS
  refine lv_aload_n hx hb (dt_of tkX4_setTimes_k0 0 rfl) rfl (lv_at hl 0 rfl) ?_
  refine va_get (D := (dC, dI)) (ci := 4) (v := .ref jbu) (C := RX4) (T := TX4) (N := 5) hx hb hts ui_X4_setTimes_X4 hown hK hP 0 rfl rfl 3 (by decide) (hts _ uw_X4_setTimes_f21) (fun _ h9 => h9) rfl (dt_of tkX4_setTimes_k0 1 rfl) ?_
  refine lv_iconst (v := 5) hx hb (dt_of tkX4_setTimes_k0 2 rfl) (by decide) ?_
  refine lv_iload_n hx hb (dt_of tkX4_setTimes_k0 3 rfl) rfl (lv_at hl 1 rfl) ?_
  refine va_iast hx hb hK hP hD hS 1 1 rfl rfl (vin (by decide)) (dt_of tkX4_setTimes_k0 4 rfl) (fun H locs hP hD hS => ?_)
  obtain ⟨f1, ef1⟩ : ∃ y : Nat → Int32, y = upd jbZ (5 : Int32).toNatClampNeg p1 := ⟨_, rfl⟩
  have hw := hw f1 ef1
  have hP : va_P (dC, dI) vwCl (wd01_9 a0 jni jn6 jhV jbu jjf jbu cyI f1) H := by rw [ef1]; exact hP
  have hD : va_D A (wd01_9 a0 jni jn6 jhV jbu jjf jbu cyI f1) := by rw [ef1]; exact hD
  refine lv_aload_n hx hb (dt_of tkX4_setTimes_k0 5 rfl) rfl (lv_at hl 0 rfl) ?_
  refine va_get (D := (dC, dI)) (ci := 4) (v := .ref jbu) (C := RX4) (T := TX4) (N := 5) hx hb hts ui_X4_setTimes_X4 hown hK hP 0 rfl rfl 3 (by decide) (hts _ uw_X4_setTimes_f21) (fun _ h9 => h9) rfl (dt_of tkX4_setTimes_k0 6 rfl) ?_
  refine lv_bipush (v := 6) hx hb (dt_of tkX4_setTimes_k0 7 rfl) (by decide) ?_
  refine lv_iload_n hx hb (dt_of tkX4_setTimes_k0 8 rfl) rfl (lv_at hl 2 rfl) ?_
  refine va_iast hx hb hK hP hD hS 1 1 rfl rfl (vin (by decide)) (dt_of tkX4_setTimes_k0 9 rfl) (fun H locs hP hD hS => ?_)
  obtain ⟨f2, ef2⟩ : ∃ y : Nat → Int32, y = upd f1 (6 : Int32).toNatClampNeg p2 := ⟨_, rfl⟩
  have hw := hw f2 ef2
  have hP : va_P (dC, dI) vwCl (wd01_9 a0 jni jn6 jhV jbu jjf jbu cyI f2) H := by rw [ef2]; exact hP
  have hD : va_D A (wd01_9 a0 jni jn6 jhV jbu jjf jbu cyI f2) := by rw [ef2]; exact hD
  refine lv_aload_n hx hb (dt_of tkX4_setTimes_k0 10 rfl) rfl (lv_at hl 0 rfl) ?_
  refine va_get (D := (dC, dI)) (ci := 4) (v := .ref jbu) (C := RX4) (T := TX4) (N := 5) hx hb hts ui_X4_setTimes_X4 hown hK hP 0 rfl rfl 3 (by decide) (hts _ uw_X4_setTimes_f21) (fun _ h9 => h9) rfl (dt_of tkX4_setTimes_k0 11 rfl) ?_
  refine lv_bipush (v := 7) hx hb (dt_of tkX4_setTimes_k0 12 rfl) (by decide) ?_
  refine lv_iload_n hx hb (dt_of tkX4_setTimes_k0 13 rfl) rfl (lv_at hl 3 rfl) ?_
  refine va_iast hx hb hK hP hD hS 1 1 rfl rfl (vin (by decide)) (dt_of tkX4_setTimes_k0 14 rfl) (fun H locs hP hD hS => ?_)
  obtain ⟨f3, ef3⟩ : ∃ y : Nat → Int32, y = upd f2 (7 : Int32).toNatClampNeg p3 := ⟨_, rfl⟩
  have hw := hw f3 ef3
  have hP : va_P (dC, dI) vwCl (wd01_9 a0 jni jn6 jhV jbu jjf jbu cyI f3) H := by rw [ef3]; exact hP
  have hD : va_D A (wd01_9 a0 jni jn6 jhV jbu jjf jbu cyI f3) := by rw [ef3]; exact hD
  exact ((W.vret hx hb hr (fun t ht hW => ⟨⟨(f3), rfl, hw, by rw [ht]; exact hP, va_K.moved hW.alike hK, hD⟩, hS.F ht⟩) hS.2.2 (dt_of tkX4_setTimes_k0 15 rfl)))
theorem tsw_2_7 {x : Int32} (h : ¬ (x.toInt < 2 ∨ 7 < x.toInt)) : x = 2 ∨ x = 3 ∨ x = 4 ∨ x = 5 ∨ x = 6 ∨ x = 7 := by
  obtain ⟨j, hj, e⟩ := nI_of (x := x) (fun h0 => h (Or.inl (Int.lt_of_lt_of_le (by simpa using (Int32.lt_iff_toInt_lt.mp h0)) (by decide : (0 : Int) ≤ 2))))
  have h2 : (j : Int) ≤ 7 ∧ 2 ≤ (j : Int) := by
    have := nI_toInt hj
    rw [e] at h
    omega
  have h3 : j = 2 ∨ j = 3 ∨ j = 4 ∨ j = 5 ∨ j = 6 ∨ j = 7 := by omega
  rw [e]
  rcases h3 with rfl | rfl | rfl | rfl | rfl | rfl <;> decide
set_option maxHeartbeats 4000000 in
set_option maxRecDepth 100000 in
theorem ck_X4_joined (l : Launch) (dC : Nat → ClassId) (dI : Nat → Nat → Nat) (cyB cyI cyJ cyP : ClassId) (sz : Nat)    (p0 p1 p2 : Int32) {Q : Int32 → Prop} (hw : wq_X4_joined   p0 p1 p2 Q) : Met l yX4_joined wsX4_joined ({ frames := 0, cells := 0, slots := 0, locals := 0 }) (va_Pc [.int p0, .int p1, .int p2] (cPc (dC, dI) (kT cyB cyI cyJ cyP) [] sz)) (va_Qi (fun (r : Int32) (_ : Unit) => Q r ) (cB (dC, dI) (kT cyB cyI cyJ cyP) (va_A [] sz) (fun u : Unit => ([] : va_W))) (va_A [] sz)) 0 0 (va_A [] sz) := by
  refine Met.ofW (cc := cX4_joined) (maxL := 3) (ret := (some .int)) (by decide) rfl ?_
  intro p e s m args below meth c s₁ B hml hv
  obtain ⟨rfl, hsz, hP, hK, hD0, hNw⟩ := hv
  have hx := B.exec
  have hb := B.bytes
  have hr := B.returns
  have hts := atoms_spec (ws := wsX4_joined) B.pre
  have hown : s.vm.findClass RX4 = some m.cls := findClass_of_methodNamed B.named
  have hlocks := B.notSynchronized
  subst hsz
  have hD := hD0.self (sz := s.heap.size)
  generalize hAe : va_A [] s.heap.size = A at hD ⊢
  have hA : ∀ q : Nat, s.heap.size ≤ q → A q := fun q h => by rw [← hAe]; exact Or.inr h
  have hS : va_S A s.heap s.heap [] := va_S.rf
  have hP : va_P (dC, dI) vwCl [] s.heap := hP
  have hl := lv_entry ([.int p0, .int p1, .int p2]) (n := 3) (Nat.le_of_ble_eq_true rfl)
  rw [lg_entry_eq]
  generalize (lg_sl ([.int p0, .int p1, .int p2]) ++ List.replicate (3 - (lg_sl ([.int p0, .int p1, .int p2])).length) Slot.unset).toArray = ls at hl ⊢
  have hl : lv_has ls 3 [(0, .int p0), (1, .int p1), (2, .int p2)] := hl
  have C0 : cfx p s m _ meth c cX4_joined (some .int) wsX4_joined RX4 3 A (dC, dI) (kT cyB cyI cyJ cyP) := ⟨hx, hb, hr, hts, hown, hlocks, hml, hA, hK, hNw⟩
  clear hAe
  obtain ⟨H, hH⟩ : ∃ H, H = s.heap := ⟨_, rfl⟩
  rw [← hH] at hP ⊢
  have hS : va_S A s.heap H [] := by rw [hH]; exact va_S.rf
  have hS := hS
  refine lv_iload_n hx hb (dt_of tkX4_joined_k0 0 rfl) rfl (lv_at hl 0 rfl) ?_
  by_cases c1 : p0.toInt < 2 ∨ 7 < p0.toInt
  · have hw := hw.1 c1
    refine lv_tableOut (tgt := 87) hx hb dX4_joined_1 c1 (by decide) ?_
    refine lv_iload_n hx hb (dt_of tkX4_joined_k72 11 rfl) rfl (lv_at hl 1 rfl) ?_
    refine lv_iload_n hx hb (dt_of tkX4_joined_k72 12 rfl) rfl (lv_at hl 2 rfl) ?_
    refine lv_icmp_le (tgt := 96) hx hb (dt_of tkX4_joined_k72 13 rfl) (by decide) (fun c2 => ?_) (fun c2 => ?_)
    · have hw := hw.1 c2
      refine lv_iload_n hx hb (dt_of tkX4_joined_k96 0 rfl) rfl (lv_at hl 2 rfl) ?_
      exact ((W.iret (v := p2) hx hb hr (fun t ht hW => ⟨⟨p2, (), rfl, hw, by rw [ht]; exact hP, va_K.moved hW.alike hK, hD⟩, hS.F ht⟩) hS.2.2 (dt_of tkX4_joined_k96 1 rfl)))
    · have hw := hw.2 c2
      refine lv_iload_n hx hb (dt_of tkX4_joined_k72 14 rfl) rfl (lv_at hl 1 rfl) ?_
      refine lv_goto (tgt := 97) hx hb (dt_of tkX4_joined_k72 15 rfl) (by decide) ?_
      exact ((W.iret (v := p1) hx hb hr (fun t ht hW => ⟨⟨p1, (), rfl, hw, by rw [ht]; exact hP, va_K.moved hW.alike hK, hD⟩, hS.F ht⟩) hS.2.2 (dt_of tkX4_joined_k96 1 rfl)))
  · have hw := hw.2
    rcases tsw_2_7 c1 with c1 | c1 | c1 | c1 | c1 | c1
    · have hw := hw.1 c1
      refine lv_tableIn (tgt := 40) (off := 39) hx hb dX4_joined_1 (by rw [c1]; decide) (by rw [c1]; decide) (by rw [c1]; decide) (by decide) ?_
      refine lv_iload_n hx hb (dt_of tkX4_joined_k40 0 rfl) rfl (lv_at hl 1 rfl) ?_
      refine lv_iload_n hx hb (dt_of tkX4_joined_k40 1 rfl) rfl (lv_at hl 2 rfl) ?_
      refine lv_iadd hx hb (dt_of tkX4_joined_k40 2 rfl) ?_
      exact ((W.iret (v := (p1 + p2)) hx hb hr (fun t ht hW => ⟨⟨(p1 + p2), (), rfl, hw, by rw [ht]; exact hP, va_K.moved hW.alike hK, hD⟩, hS.F ht⟩) hS.2.2 (dt_of tkX4_joined_k40 3 rfl)))
    · have hw := hw.2.1 c1
      refine lv_tableIn (tgt := 44) (off := 43) hx hb dX4_joined_1 (by rw [c1]; decide) (by rw [c1]; decide) (by rw [c1]; decide) (by decide) ?_
      refine lv_iload_n hx hb (dt_of tkX4_joined_k40 4 rfl) rfl (lv_at hl 1 rfl) ?_
      refine lv_iload_n hx hb (dt_of tkX4_joined_k40 5 rfl) rfl (lv_at hl 2 rfl) ?_
      refine lv_isub hx hb (dt_of tkX4_joined_k40 6 rfl) ?_
      exact ((W.iret (v := (p1 - p2)) hx hb hr (fun t ht hW => ⟨⟨(p1 - p2), (), rfl, hw, by rw [ht]; exact hP, va_K.moved hW.alike hK, hD⟩, hS.F ht⟩) hS.2.2 (dt_of tkX4_joined_k40 7 rfl)))
    · have hw := hw.2.2.1 c1
      refine lv_tableIn (tgt := 48) (off := 47) hx hb dX4_joined_1 (by rw [c1]; decide) (by rw [c1]; decide) (by rw [c1]; decide) (by decide) ?_
      refine lv_iload_n hx hb (dt_of tkX4_joined_k40 8 rfl) rfl (lv_at hl 1 rfl) ?_
      refine lv_iload_n hx hb (dt_of tkX4_joined_k40 9 rfl) rfl (lv_at hl 2 rfl) ?_
      refine lv_imul hx hb (dt_of tkX4_joined_k40 10 rfl) ?_
      exact ((W.iret (v := (p1 * p2)) hx hb hr (fun t ht hW => ⟨⟨(p1 * p2), (), rfl, hw, by rw [ht]; exact hP, va_K.moved hW.alike hK, hD⟩, hS.F ht⟩) hS.2.2 (dt_of tkX4_joined_k40 11 rfl)))
    · have hw := hw.2.2.2.1 c1
      refine lv_tableIn (tgt := 52) (off := 51) hx hb dX4_joined_1 (by rw [c1]; decide) (by rw [c1]; decide) (by rw [c1]; decide) (by decide) ?_
      refine lv_iload_n hx hb (dt_of tkX4_joined_k40 12 rfl) rfl (lv_at hl 2 rfl) ?_
      refine lv_if_ne (tgt := 60) hx hb (dt_of tkX4_joined_k40 13 rfl) (by decide) (fun c3 => ?_) (fun c3 => ?_)
      · have hw := hw.1 c3
        refine lv_iload_n hx hb (dt_of tkX4_joined_k60 0 rfl) rfl (lv_at hl 1 rfl) ?_
        refine lv_iload_n hx hb (dt_of tkX4_joined_k60 1 rfl) rfl (lv_at hl 2 rfl) ?_
        obtain ⟨hz9, hw⟩ := hw
        refine lv_idiv hx hb (dt_of tkX4_joined_k60 2 rfl) hz9 ?_
        refine lv_topi (fun x4 ex4 => ?_)
        have hw := hw x4 ex4
        exact ((W.iret (v := x4) hx hb hr (fun t ht hW => ⟨⟨x4, (), rfl, hw, by rw [ht]; exact hP, va_K.moved hW.alike hK, hD⟩, hS.F ht⟩) hS.2.2 (dt_of tkX4_joined_k60 3 rfl)))
      · have hw := hw.2 c3
        refine lv_iconst (v := 0) hx hb (dt_of tkX4_joined_k40 14 rfl) (by decide) ?_
        refine lv_goto (tgt := 63) hx hb (dt_of tkX4_joined_k40 15 rfl) (by decide) ?_
        exact ((W.iret (v := 0) hx hb hr (fun t ht hW => ⟨⟨0, (), rfl, hw, by rw [ht]; exact hP, va_K.moved hW.alike hK, hD⟩, hS.F ht⟩) hS.2.2 (dt_of tkX4_joined_k60 3 rfl)))
    · have hw := hw.2.2.2.2.1 c1
      refine lv_tableIn (tgt := 64) (off := 63) hx hb dX4_joined_1 (by rw [c1]; decide) (by rw [c1]; decide) (by rw [c1]; decide) (by decide) ?_
      refine lv_iload_n hx hb (dt_of tkX4_joined_k60 4 rfl) rfl (lv_at hl 2 rfl) ?_
      refine lv_if_ne (tgt := 72) hx hb (dt_of tkX4_joined_k60 5 rfl) (by decide) (fun c5 => ?_) (fun c5 => ?_)
      · have hw := hw.1 c5
        refine lv_iload_n hx hb (dt_of tkX4_joined_k72 0 rfl) rfl (lv_at hl 1 rfl) ?_
        refine lv_iload_n hx hb (dt_of tkX4_joined_k72 1 rfl) rfl (lv_at hl 2 rfl) ?_
        obtain ⟨hz9, hw⟩ := hw
        refine lv_irem hx hb (dt_of tkX4_joined_k72 2 rfl) hz9 ?_
        refine lv_topi (fun x6 ex6 => ?_)
        have hw := hw x6 ex6
        exact ((W.iret (v := x6) hx hb hr (fun t ht hW => ⟨⟨x6, (), rfl, hw, by rw [ht]; exact hP, va_K.moved hW.alike hK, hD⟩, hS.F ht⟩) hS.2.2 (dt_of tkX4_joined_k72 3 rfl)))
      · have hw := hw.2 c5
        refine lv_iconst (v := 0) hx hb (dt_of tkX4_joined_k60 6 rfl) (by decide) ?_
        refine lv_goto (tgt := 75) hx hb (dt_of tkX4_joined_k60 7 rfl) (by decide) ?_
        exact ((W.iret (v := 0) hx hb hr (fun t ht hW => ⟨⟨0, (), rfl, hw, by rw [ht]; exact hP, va_K.moved hW.alike hK, hD⟩, hS.F ht⟩) hS.2.2 (dt_of tkX4_joined_k72 3 rfl)))
    · have hw := hw.2.2.2.2.2 c1
      refine lv_tableIn (tgt := 76) (off := 75) hx hb dX4_joined_1 (by rw [c1]; decide) (by rw [c1]; decide) (by rw [c1]; decide) (by decide) ?_
      refine lv_iload_n hx hb (dt_of tkX4_joined_k72 4 rfl) rfl (lv_at hl 1 rfl) ?_
      refine lv_iload_n hx hb (dt_of tkX4_joined_k72 5 rfl) rfl (lv_at hl 2 rfl) ?_
      refine lv_icmp_ge (tgt := 85) hx hb (dt_of tkX4_joined_k72 6 rfl) (by decide) (fun c7 => ?_) (fun c7 => ?_)
      · have hw := hw.1 c7
        refine lv_iload_n hx hb (dt_of tkX4_joined_k72 9 rfl) rfl (lv_at hl 2 rfl) ?_
        exact ((W.iret (v := p2) hx hb hr (fun t ht hW => ⟨⟨p2, (), rfl, hw, by rw [ht]; exact hP, va_K.moved hW.alike hK, hD⟩, hS.F ht⟩) hS.2.2 (dt_of tkX4_joined_k72 10 rfl)))
      · have hw := hw.2 c7
        refine lv_iload_n hx hb (dt_of tkX4_joined_k72 7 rfl) rfl (lv_at hl 1 rfl) ?_
        refine lv_goto (tgt := 86) hx hb (dt_of tkX4_joined_k72 8 rfl) (by decide) ?_
        exact ((W.iret (v := p1) hx hb hr (fun t ht hW => ⟨⟨p1, (), rfl, hw, by rw [ht]; exact hP, va_K.moved hW.alike hK, hD⟩, hS.F ht⟩) hS.2.2 (dt_of tkX4_joined_k72 10 rfl)))
theorem ui_X4_reach_X4 : ∀ w ∈ u_ws RX4 TX4 5, w ∈ wsX4_reach := uiM mbX4_reach euX4 (by decide +kernel)
theorem uw_X4_reach_f15 : (.fieldLink RX4 15 "MarchHares$Law" "values" "[I" : Cond) ∈ wsX4_reach := mbX4_reach 201 (by decide +kernel)
theorem uw_X4_reach_f18 : (.fieldLink RX4 18 "MarchHares$Law" "pile" "[I" : Cond) ∈ wsX4_reach := mbX4_reach 202 (by decide +kernel)
theorem uw_X4_reach_f21 : (.fieldLink RX4 21 "MarchHares$Law" "facts" "[I" : Cond) ∈ wsX4_reach := mbX4_reach 203 (by decide +kernel)
theorem uw_X4_reach_f27 : (.fieldLink RX4 27 "MarchHares$Law" "length" "I" : Cond) ∈ wsX4_reach := mbX4_reach 208 (by decide +kernel)
theorem uw_X4_reach_f9 : (.fieldLink RX4 9 "MarchHares$Law" "kinds" "[I" : Cond) ∈ wsX4_reach := mbX4_reach 200 (by decide +kernel)
theorem uw_X4_reach_inim : (.initialized "java/lang/Math" : Cond) ∈ wsX4_reach := mbX4_reach 651 (by decide +kernel)
theorem uw_X4_reach_m115 : (.methodLink RX4 115 Lib.Math.min.name : Cond) ∈ wsX4_reach := mbX4_reach 1928 (by decide +kernel)
theorem uw_X4_reach_m120 : (.methodLink RX4 120 Lib.Math.max.name : Cond) ∈ wsX4_reach := mbX4_reach 1929 (by decide +kernel)
theorem uw_X4_reach_mcmax : (.code Lib.Math.max.name Lib.Math.max.code 2 (some .int) : Cond) ∈ wsX4_reach := mbX4_reach 1931 (by decide +kernel)
theorem uw_X4_reach_mcmin : (.code Lib.Math.min.name Lib.Math.min.code 2 (some .int) : Cond) ∈ wsX4_reach := mbX4_reach 652 (by decide +kernel)
theorem uw_X4_reach_msmax : (.static Lib.Math.max.name : Cond) ∈ wsX4_reach := mbX4_reach 1930 (by decide +kernel)
theorem uw_X4_reach_msmin : (.static Lib.Math.min.name : Cond) ∈ wsX4_reach := mbX4_reach 650 (by decide +kernel)
set_option maxHeartbeats 4000000 in
set_option maxRecDepth 100000 in
theorem kb_X4_reach_98 {p : Program} {l : Launch} {e : Env} {s : State} {m : MethodId} {args : Array Value} {below : List Frame} {meth : Method} {c : Code} {A : Nat → Prop} (dC : Nat → ClassId) (dI : Nat → Nat → Nat) (cyB cyI cyJ cyP : ClassId) (a0 jmH jbU jbu jcJ : Nat)  (jb7 : Int32) (jdC jfV jbZ : Nat → Int32) (Q : Int32 → (Nat → Int32) → Prop) (K4 : (Nat → Int32) → Int32 → Int32 → Prop) (hK4 : ∀ (H : Heap) (locs : List Loc) (ls : Array Slot) (jnu : Nat → Int32) (l1 l2 : Int32), va_P (dC, dI) vwCl (wd01_11 a0 jbU jcJ jmH jbu jb7 jmH cyI jnu jbU cyI jdC jcJ cyI jfV jbu cyI jbZ) H → va_D A (wd01_11 a0 jbU jcJ jmH jbu jb7 jmH cyI jnu jbU cyI jdC jcJ cyI jfV jbu cyI jbZ) → va_S A s.heap H locs → lv_has ls 4 [(0, .ref a0), (1, .int l1), (2, .int l2)] → K4 jnu l1 l2 → W p l e (headSpec wsX4_reach ({ frames := 1, cells := 0, slots := 0, locals := 32 })).room s m args below meth c H locs 0 0 (MQ below (va_Qi (fun (r : Int32) (u : (Nat → Int32)) => Q r u) (cB (dC, dI) (kT cyB cyI cyJ cyP) A (fun u : (Nat → Int32) => ((wd01_11 a0 jbU jcJ jmH jbu jb7 jmH cyI u jbU cyI jdC jcJ cyI jfV jbu cyI jbZ) : va_W))) A) args s 0 0 A) (F0 m 4 ls [])) (C0 : cfx p s m args meth c cX4_reach (some .int) wsX4_reach RX4 4 A (dC, dI) (kT cyB cyI cyJ cyP)) : ∀ (H : Heap) (locs : List Loc) (ls : Array Slot) (jnu : Nat → Int32) (l1 l2 : Int32), va_P (dC, dI) vwCl (wd01_11 a0 jbU jcJ jmH jbu jb7 jmH cyI jnu jbU cyI jdC jcJ cyI jfV jbu cyI jbZ) H → va_D A (wd01_11 a0 jbU jcJ jmH jbu jb7 jmH cyI jnu jbU cyI jdC jcJ cyI jfV jbu cyI jbZ) → va_S A s.heap H locs → lv_has ls 4 [(0, .ref a0), (1, .int l1), (2, .int l2)] → wb_X4_reach_98 jb7 jdC jfV jbZ Q K4 jnu l1 l2 → W p l e (headSpec wsX4_reach ({ frames := 1, cells := 0, slots := 0, locals := 32 })).room s m args below meth c H locs 0 0 (MQ below (va_Qi (fun (r : Int32) (u : (Nat → Int32)) => Q r u) (cB (dC, dI) (kT cyB cyI cyJ cyP) A (fun u : (Nat → Int32) => ((wd01_11 a0 jbU jcJ jmH jbu jb7 jmH cyI u jbU cyI jdC jcJ cyI jfV jbu cyI jbZ) : va_W))) A) args s 0 0 A) (F0 m 98 ls []) := by
  obtain ⟨hx, hb, hr, hts, hown, hlocks, hml, hA, hK, hNw⟩ := id C0
  intro H locs ls jnu l1 l2 hP hD hS hl hw
  obtain ⟨x21, ex21⟩ : ∃ y : Int32, y = l2 + 1 := ⟨_, rfl⟩
  have hw := hw x21 ex21
  refine lv_iinc (v := x21) (lv' := [(2, .int x21), (0, .ref a0), (1, .int l1)]) hx hb (dt_of tkX4_reach_k80 12 rfl) hl (k := 2) rfl (by rw [ex21]; rfl) (by decide) rfl (fun ls hl => ?_)
  refine lv_goto (tgt := 4) hx hb (dt_of tkX4_reach_k80 13 rfl) (by decide) ?_
  exact hK4 _ _ _ jnu l1 x21 hP hD hS (lv_sub hl [1, 2, 0] rfl) hw
set_option maxHeartbeats 4000000 in
set_option maxRecDepth 100000 in
theorem kb_X4_reach_57 {p : Program} {l : Launch} {e : Env} {s : State} {m : MethodId} {args : Array Value} {below : List Frame} {meth : Method} {c : Code} {A : Nat → Prop} (dC : Nat → ClassId) (dI : Nat → Nat → Nat) (cyB cyI cyJ cyP : ClassId) (a0 jmH jbU jbu jcJ : Nat)  (jb7 : Int32) (jdC jfV jbZ : Nat → Int32) (Q : Int32 → (Nat → Int32) → Prop) (K4 : (Nat → Int32) → Int32 → Int32 → Prop) (hK4 : ∀ (H : Heap) (locs : List Loc) (ls : Array Slot) (jnu : Nat → Int32) (l1 l2 : Int32), va_P (dC, dI) vwCl (wd01_11 a0 jbU jcJ jmH jbu jb7 jmH cyI jnu jbU cyI jdC jcJ cyI jfV jbu cyI jbZ) H → va_D A (wd01_11 a0 jbU jcJ jmH jbu jb7 jmH cyI jnu jbU cyI jdC jcJ cyI jfV jbu cyI jbZ) → va_S A s.heap H locs → lv_has ls 4 [(0, .ref a0), (1, .int l1), (2, .int l2)] → K4 jnu l1 l2 → W p l e (headSpec wsX4_reach ({ frames := 1, cells := 0, slots := 0, locals := 32 })).room s m args below meth c H locs 0 0 (MQ below (va_Qi (fun (r : Int32) (u : (Nat → Int32)) => Q r u) (cB (dC, dI) (kT cyB cyI cyJ cyP) A (fun u : (Nat → Int32) => ((wd01_11 a0 jbU jcJ jmH jbu jb7 jmH cyI u jbU cyI jdC jcJ cyI jfV jbu cyI jbZ) : va_W))) A) args s 0 0 A) (F0 m 4 ls [])) (C0 : cfx p s m args meth c cX4_reach (some .int) wsX4_reach RX4 4 A (dC, dI) (kT cyB cyI cyJ cyP)) : ∀ (H : Heap) (locs : List Loc) (ls : Array Slot) (jnu : Nat → Int32) (l1 l2 s1 s2 : Int32), va_P (dC, dI) vwCl (wd01_11 a0 jbU jcJ jmH jbu jb7 jmH cyI jnu jbU cyI jdC jcJ cyI jfV jbu cyI jbZ) H → va_D A (wd01_11 a0 jbU jcJ jmH jbu jb7 jmH cyI jnu jbU cyI jdC jcJ cyI jfV jbu cyI jbZ) → va_S A s.heap H locs → lv_has ls 4 [(0, .ref a0), (1, .int l1), (2, .int l2)] → wb_X4_reach_57 jb7 jdC jfV jbZ Q K4 jnu l1 l2 s1 s2 → W p l e (headSpec wsX4_reach ({ frames := 1, cells := 0, slots := 0, locals := 32 })).room s m args below meth c H locs 0 0 (MQ below (va_Qi (fun (r : Int32) (u : (Nat → Int32)) => Q r u) (cB (dC, dI) (kT cyB cyI cyJ cyP) A (fun u : (Nat → Int32) => ((wd01_11 a0 jbU jcJ jmH jbu jb7 jmH cyI u jbU cyI jdC jcJ cyI jfV jbu cyI jbZ) : va_W))) A) args s 0 0 A) (F0 m 57 ls [.int s2, .int s1, .ref jmH]) := by
  obtain ⟨hx, hb, hr, hts, hown, hlocks, hml, hA, hK, hNw⟩ := id C0
  intro H locs ls jnu l1 l2 s1 s2 hP hD hS hl hw
  obtain ⟨hi9, hw⟩ := hw
  refine va_iast hx hb hK hP hD hS 1 1 rfl rfl hi9 (dt_of tkX4_reach_k54 3 rfl) (fun H locs hP hD hS => ?_)
  obtain ⟨f22, ef22⟩ : ∃ y : Nat → Int32, y = upd jnu s1.toNatClampNeg s2 := ⟨_, rfl⟩
  have hw := hw f22 ef22
  have hP : va_P (dC, dI) vwCl (wd01_11 a0 jbU jcJ jmH jbu jb7 jmH cyI f22 jbU cyI jdC jcJ cyI jfV jbu cyI jbZ) H := by rw [ef22]; exact hP
  have hD : va_D A (wd01_11 a0 jbU jcJ jmH jbu jb7 jmH cyI f22 jbU cyI jdC jcJ cyI jfV jbu cyI jbZ) := by rw [ef22]; exact hD
  obtain ⟨x23, ex23⟩ : ∃ y : Int32, y = l1 + 1 := ⟨_, rfl⟩
  have hw := hw x23 ex23
  refine lv_iinc (v := x23) (lv' := [(1, .int x23), (0, .ref a0), (2, .int l2)]) hx hb (dt_of tkX4_reach_k54 4 rfl) hl (k := 1) rfl (by rw [ex23]; rfl) (by decide) rfl (fun ls hl => ?_)
  refine lv_goto (tgt := 98) hx hb (dt_of tkX4_reach_k54 5 rfl) (by decide) ?_
  exact kb_X4_reach_98 dC dI cyB cyI cyJ cyP a0 jmH jbU jbu jcJ  jb7 jdC jfV jbZ Q K4 hK4 C0 _ _ _ f22 x23 l2 hP hD hS (lv_sub hl [1, 0, 2] rfl) hw
set_option maxHeartbeats 4000000 in
set_option maxRecDepth 100000 in
theorem kb_X4_reach_28 {p : Program} {l : Launch} {e : Env} {s : State} {m : MethodId} {args : Array Value} {below : List Frame} {meth : Method} {c : Code} {A : Nat → Prop} (dC : Nat → ClassId) (dI : Nat → Nat → Nat) (cyB cyI cyJ cyP : ClassId) (a0 jmH jbU jbu jcJ : Nat)  (jb7 : Int32) (jdC jfV jbZ : Nat → Int32) (Q : Int32 → (Nat → Int32) → Prop) (K4 : (Nat → Int32) → Int32 → Int32 → Prop) (hK4 : ∀ (H : Heap) (locs : List Loc) (ls : Array Slot) (jnu : Nat → Int32) (l1 l2 : Int32), va_P (dC, dI) vwCl (wd01_11 a0 jbU jcJ jmH jbu jb7 jmH cyI jnu jbU cyI jdC jcJ cyI jfV jbu cyI jbZ) H → va_D A (wd01_11 a0 jbU jcJ jmH jbu jb7 jmH cyI jnu jbU cyI jdC jcJ cyI jfV jbu cyI jbZ) → va_S A s.heap H locs → lv_has ls 4 [(0, .ref a0), (1, .int l1), (2, .int l2)] → K4 jnu l1 l2 → W p l e (headSpec wsX4_reach ({ frames := 1, cells := 0, slots := 0, locals := 32 })).room s m args below meth c H locs 0 0 (MQ below (va_Qi (fun (r : Int32) (u : (Nat → Int32)) => Q r u) (cB (dC, dI) (kT cyB cyI cyJ cyP) A (fun u : (Nat → Int32) => ((wd01_11 a0 jbU jcJ jmH jbu jb7 jmH cyI u jbU cyI jdC jcJ cyI jfV jbu cyI jbZ) : va_W))) A) args s 0 0 A) (F0 m 4 ls [])) (C0 : cfx p s m args meth c cX4_reach (some .int) wsX4_reach RX4 4 A (dC, dI) (kT cyB cyI cyJ cyP)) : ∀ (H : Heap) (locs : List Loc) (ls : Array Slot) (jnu : Nat → Int32) (l1 l2 l3 : Int32), va_P (dC, dI) vwCl (wd01_11 a0 jbU jcJ jmH jbu jb7 jmH cyI jnu jbU cyI jdC jcJ cyI jfV jbu cyI jbZ) H → va_D A (wd01_11 a0 jbU jcJ jmH jbu jb7 jmH cyI jnu jbU cyI jdC jcJ cyI jfV jbu cyI jbZ) → va_S A s.heap H locs → lv_has ls 4 [(0, .ref a0), (1, .int l1), (2, .int l2), (3, .int l3)] → wb_X4_reach_28 jb7 jdC jfV jbZ Q K4 jnu l1 l2 l3 → W p l e (headSpec wsX4_reach ({ frames := 1, cells := 0, slots := 0, locals := 32 })).room s m args below meth c H locs 0 0 (MQ below (va_Qi (fun (r : Int32) (u : (Nat → Int32)) => Q r u) (cB (dC, dI) (kT cyB cyI cyJ cyP) A (fun u : (Nat → Int32) => ((wd01_11 a0 jbU jcJ jmH jbu jb7 jmH cyI u jbU cyI jdC jcJ cyI jfV jbu cyI jbZ) : va_W))) A) args s 0 0 A) (F0 m 28 ls []) := by
  obtain ⟨hx, hb, hr, hts, hown, hlocks, hml, hA, hK, hNw⟩ := id C0
  intro H locs ls jnu l1 l2 l3 hP hD hS hl hw
  refine lv_aload_n hx hb (dt_of tkX4_reach_k24 2 rfl) rfl (lv_at hl 0 rfl) ?_
  refine va_get (D := (dC, dI)) (ci := 4) (v := .ref jmH) (C := RX4) (T := TX4) (N := 5) hx hb hts ui_X4_reach_X4 hown hK hP 0 rfl rfl 2 (by decide) (hts _ uw_X4_reach_f18) (fun _ h9 => h9) rfl (dt_of tkX4_reach_k24 3 rfl) ?_
  refine lv_iload_n hx hb (dt_of tkX4_reach_k24 4 rfl) rfl (lv_at hl 1 rfl) ?_
  refine lv_iload_n hx hb (dt_of tkX4_reach_k24 5 rfl) rfl (lv_at hl 3 rfl) ?_
  refine lv_if_ne (tgt := 46) hx hb (dt_of tkX4_reach_k24 6 rfl) (by decide) (fun c17 => ?_) (fun c17 => ?_)
  · have hw := hw.1 c17
    refine lv_aload_n hx hb (dt_of tkX4_reach_k24 12 rfl) rfl (lv_at hl 0 rfl) ?_
    refine va_get (D := (dC, dI)) (ci := 4) (v := .ref jbu) (C := RX4) (T := TX4) (N := 5) hx hb hts ui_X4_reach_X4 hown hK hP 0 rfl rfl 3 (by decide) (hts _ uw_X4_reach_f21) (fun _ h9 => h9) rfl (dt_of tkX4_reach_k24 13 rfl) ?_
    refine lv_aload_n hx hb (dt_of tkX4_reach_k24 14 rfl) rfl (lv_at hl 0 rfl) ?_
    refine va_get (D := (dC, dI)) (ci := 4) (v := .ref jcJ) (C := RX4) (T := TX4) (N := 5) hx hb hts ui_X4_reach_X4 hown hK hP 0 rfl rfl 1 (by decide) (hts _ uw_X4_reach_f15) (fun _ h9 => h9) rfl (dt_of tkX4_reach_k24 15 rfl) ?_
    refine lv_iload_n hx hb (dt_of tkX4_reach_k54 0 rfl) rfl (lv_at hl 2 rfl) ?_
    obtain ⟨hi9, hw⟩ := hw
    refine va_iald hx hb hK hP 3 1 rfl rfl hi9 (dt_of tkX4_reach_k54 1 rfl) ?_
    refine lv_topi (fun x18 ex18 => ?_)
    have hw := hw x18 ex18
    obtain ⟨hi9, hw⟩ := hw
    refine va_iald hx hb hK hP 4 1 rfl rfl hi9 (dt_of tkX4_reach_k54 2 rfl) ?_
    refine lv_topi (fun x19 ex19 => ?_)
    have hw := hw x19 ex19
    exact kb_X4_reach_57 dC dI cyB cyI cyJ cyP a0 jmH jbU jbu jcJ  jb7 jdC jfV jbZ Q K4 hK4 C0 _ _ _ jnu l1 l2 l1 x19 hP hD hS (lv_sub hl [0, 1, 2] rfl) hw
  · have hw := hw.2 c17
    refine lv_aload_n hx hb (dt_of tkX4_reach_k24 7 rfl) rfl (lv_at hl 0 rfl) ?_
    refine va_get (D := (dC, dI)) (ci := 4) (v := .ref jcJ) (C := RX4) (T := TX4) (N := 5) hx hb hts ui_X4_reach_X4 hown hK hP 0 rfl rfl 1 (by decide) (hts _ uw_X4_reach_f15) (fun _ h9 => h9) rfl (dt_of tkX4_reach_k24 8 rfl) ?_
    refine lv_iload_n hx hb (dt_of tkX4_reach_k24 9 rfl) rfl (lv_at hl 2 rfl) ?_
    obtain ⟨hi9, hw⟩ := hw
    refine va_iald hx hb hK hP 3 1 rfl rfl hi9 (dt_of tkX4_reach_k24 10 rfl) ?_
    refine lv_topi (fun x20 ex20 => ?_)
    have hw := hw x20 ex20
    refine lv_goto (tgt := 57) hx hb (dt_of tkX4_reach_k24 11 rfl) (by decide) ?_
    exact kb_X4_reach_57 dC dI cyB cyI cyJ cyP a0 jmH jbU jbu jcJ  jb7 jdC jfV jbZ Q K4 hK4 C0 _ _ _ jnu l1 l2 l1 x20 hP hD hS (lv_sub hl [0, 1, 2] rfl) hw
set_option maxHeartbeats 4000000 in
set_option maxRecDepth 100000 in
theorem kb_X4_reach_118 {p : Program} {l : Launch} {e : Env} {s : State} {m : MethodId} {args : Array Value} {below : List Frame} {meth : Method} {c : Code} {A : Nat → Prop} (dC : Nat → ClassId) (dI : Nat → Nat → Nat) (cyB cyI cyJ cyP : ClassId) (a0 jmH jbU jbu jcJ : Nat)  (jb7 : Int32) (jdC jfV jbZ : Nat → Int32) (Q : Int32 → (Nat → Int32) → Prop)  (C0 : cfx p s m args meth c cX4_reach (some .int) wsX4_reach RX4 4 A (dC, dI) (kT cyB cyI cyJ cyP)) : ∀ (H : Heap) (locs : List Loc) (ls : Array Slot) (jnu : Nat → Int32) (s0 : Int32), va_P (dC, dI) vwCl (wd01_11 a0 jbU jcJ jmH jbu jb7 jmH cyI jnu jbU cyI jdC jcJ cyI jfV jbu cyI jbZ) H → va_D A (wd01_11 a0 jbU jcJ jmH jbu jb7 jmH cyI jnu jbU cyI jdC jcJ cyI jfV jbu cyI jbZ) → va_S A s.heap H locs → lv_has ls 4 [] → wb_X4_reach_118 jb7 jdC jfV jbZ Q  jnu s0 → W p l e (headSpec wsX4_reach ({ frames := 1, cells := 0, slots := 0, locals := 32 })).room s m args below meth c H locs 0 0 (MQ below (va_Qi (fun (r : Int32) (u : (Nat → Int32)) => Q r u) (cB (dC, dI) (kT cyB cyI cyJ cyP) A (fun u : (Nat → Int32) => ((wd01_11 a0 jbU jcJ jmH jbu jb7 jmH cyI u jbU cyI jdC jcJ cyI jfV jbu cyI jbZ) : va_W))) A) args s 0 0 A) (F0 m 118 ls [.int s0]) := by
  obtain ⟨hx, hb, hr, hts, hown, hlocks, hml, hA, hK, hNw⟩ := id C0
  intro H locs ls jnu s0 hP hD hS hl hw
  refine lv_istore_n (lv' := [(2, .int s0)]) hx hb (dt_of tkX4_reach_k108 6 rfl) rfl hl (by decide) rfl (fun ls hl => ?_)
  refine lv_iconst (v := 0) hx hb (dt_of tkX4_reach_k108 7 rfl) (by decide) ?_
  refine lv_bipush (v := 60) hx hb (dt_of tkX4_reach_k108 8 rfl) (by decide) ?_
  refine lv_iload_n hx hb (dt_of tkX4_reach_k108 9 rfl) rfl (lv_at hl 0 rfl) ?_
  refine va_mmin hx hb (by rw [hml]; exact hl.1.symm) hown (hts _ uw_X4_reach_m115) (hts _ uw_X4_reach_msmin) (hts _ uw_X4_reach_inim) (hts _ uw_X4_reach_mcmin) (Nat.le_of_ble_eq_true rfl) (Nat.le_of_ble_eq_true rfl) (Nat.le_of_ble_eq_true rfl) (Nat.le_of_ble_eq_true rfl) (dt_of tkX4_reach_k108 10 rfl) ?_
  refine lv_topi (fun x15 ex15 => ?_)
  have hw := hw x15 ex15
  refine va_mmax hx hb (by rw [hml]; exact hl.1.symm) hown (hts _ uw_X4_reach_m120) (hts _ uw_X4_reach_msmax) (hts _ uw_X4_reach_inim) (hts _ uw_X4_reach_mcmax) (Nat.le_of_ble_eq_true rfl) (Nat.le_of_ble_eq_true rfl) (Nat.le_of_ble_eq_true rfl) (Nat.le_of_ble_eq_true rfl) (dt_of tkX4_reach_k108 11 rfl) ?_
  refine lv_topi (fun x16 ex16 => ?_)
  have hw := hw x16 ex16
  exact ((W.iret (v := x16) hx hb hr (fun t ht hW => ⟨⟨x16, (jnu), rfl, hw, by rw [ht]; exact hP, va_K.moved hW.alike hK, hD⟩, hS.F ht⟩) hS.2.2 (dt_of tkX4_reach_k108 12 rfl)))
set_option maxHeartbeats 4000000 in
set_option maxRecDepth 100000 in
theorem kl_X4_reach_4 {p : Program} {l : Launch} {e : Env} {s : State} {m : MethodId} {args : Array Value} {below : List Frame} {meth : Method} {c : Code} {A : Nat → Prop} (dC : Nat → ClassId) (dI : Nat → Nat → Nat) (cyB cyI cyJ cyP : ClassId) (a0 jmH jbU jbu jcJ : Nat)  (jb7 : Int32) (jdC jfV jbZ : Nat → Int32) (Q : Int32 → (Nat → Int32) → Prop)  (C0 : cfx p s m args meth c cX4_reach (some .int) wsX4_reach RX4 4 A (dC, dI) (kT cyB cyI cyJ cyP)) : ∀ (n : Nat) (H : Heap) (locs : List Loc) (ls : Array Slot) (jnu : Nat → Int32) (l1 l2 : Int32), va_P (dC, dI) vwCl (wd01_11 a0 jbU jcJ jmH jbu jb7 jmH cyI jnu jbU cyI jdC jcJ cyI jfV jbu cyI jbZ) H → va_D A (wd01_11 a0 jbU jcJ jmH jbu jb7 jmH cyI jnu jbU cyI jdC jcJ cyI jfV jbu cyI jbZ) → va_S A s.heap H locs → lv_has ls 4 [(0, .ref a0), (1, .int l1), (2, .int l2)] → wl_X4_reach_4 jb7 jdC jfV jbZ Q  n jnu l1 l2 → W p l e (headSpec wsX4_reach ({ frames := 1, cells := 0, slots := 0, locals := 32 })).room s m args below meth c H locs 0 0 (MQ below (va_Qi (fun (r : Int32) (u : (Nat → Int32)) => Q r u) (cB (dC, dI) (kT cyB cyI cyJ cyP) A (fun u : (Nat → Int32) => ((wd01_11 a0 jbU jcJ jmH jbu jb7 jmH cyI u jbU cyI jdC jcJ cyI jfV jbu cyI jbZ) : va_W))) A) args s 0 0 A) (F0 m 4 ls []) := by
  obtain ⟨hx, hb, hr, hts, hown, hlocks, hml, hA, hK, hNw⟩ := id C0
  intro n
  induction n with
  | zero => intro H locs ls jnu l1 l2 hP hD hS hl hw; exact False.elim hw
  | succ n ih =>
    intro H locs ls jnu l1 l2 hP hD hS hl hw
    refine lv_iload_n hx hb (dt_of tkX4_reach_k0 4 rfl) rfl (lv_at hl 2 rfl) ?_
    refine lv_aload_n hx hb (dt_of tkX4_reach_k0 5 rfl) rfl (lv_at hl 0 rfl) ?_
    refine va_get (D := (dC, dI)) (ci := 4) (v := .int jb7) (C := RX4) (T := TX4) (N := 5) hx hb hts ui_X4_reach_X4 hown hK hP 0 rfl rfl 4 (by decide) (hts _ uw_X4_reach_f27) (fun _ h9 => h9) rfl (dt_of tkX4_reach_k0 6 rfl) ?_
    refine lv_icmp_ge (tgt := 104) hx hb (dt_of tkX4_reach_k0 7 rfl) (by decide) (fun c1 => ?_) (fun c1 => ?_)
    · have hw := hw.1 c1
      refine lv_iload_n hx hb (dt_of tkX4_reach_k80 14 rfl) rfl (lv_at hl 1 rfl) ?_
      refine lv_if_le (tgt := 117) hx hb (dt_of tkX4_reach_k80 15 rfl) (by decide) (fun c2 => ?_) (fun c2 => ?_)
      · have hw := hw.1 c2
        refine lv_iconst (v := 0) hx hb (dt_of tkX4_reach_k108 5 rfl) (by decide) ?_
        exact kb_X4_reach_118 dC dI cyB cyI cyJ cyP a0 jmH jbU jbu jcJ  jb7 jdC jfV jbZ Q  C0 _ _ _ jnu 0 hP hD hS (lv_sub hl [] rfl) hw
      · have hw := hw.2 c2
        refine lv_aload_n hx hb (dt_of tkX4_reach_k108 0 rfl) rfl (lv_at hl 0 rfl) ?_
        refine va_get (D := (dC, dI)) (ci := 4) (v := .ref jmH) (C := RX4) (T := TX4) (N := 5) hx hb hts ui_X4_reach_X4 hown hK hP 0 rfl rfl 2 (by decide) (hts _ uw_X4_reach_f18) (fun _ h9 => h9) rfl (dt_of tkX4_reach_k108 1 rfl) ?_
        refine lv_iconst (v := 0) hx hb (dt_of tkX4_reach_k108 2 rfl) (by decide) ?_
        refine va_iald hx hb hK hP 1 1 rfl rfl (vin (by decide)) (dt_of tkX4_reach_k108 3 rfl) ?_
        refine lv_topi (fun x3 ex3 => ?_)
        have hw := hw x3 ex3
        refine lv_goto (tgt := 118) hx hb (dt_of tkX4_reach_k108 4 rfl) (by decide) ?_
        exact kb_X4_reach_118 dC dI cyB cyI cyJ cyP a0 jmH jbU jbu jcJ  jb7 jdC jfV jbZ Q  C0 _ _ _ jnu x3 hP hD hS (lv_sub hl [] rfl) hw
    · have hw := hw.2 c1
      refine lv_aload_n hx hb (dt_of tkX4_reach_k0 8 rfl) rfl (lv_at hl 0 rfl) ?_
      refine va_get (D := (dC, dI)) (ci := 4) (v := .ref jbU) (C := RX4) (T := TX4) (N := 5) hx hb hts ui_X4_reach_X4 hown hK hP 0 rfl rfl 0 (by decide) (hts _ uw_X4_reach_f9) (fun _ h9 => h9) rfl (dt_of tkX4_reach_k0 9 rfl) ?_
      refine lv_iload_n hx hb (dt_of tkX4_reach_k0 10 rfl) rfl (lv_at hl 2 rfl) ?_
      obtain ⟨hi9, hw⟩ := hw
      refine va_iald hx hb hK hP 2 1 rfl rfl hi9 (dt_of tkX4_reach_k0 11 rfl) ?_
      refine lv_topi (fun x4 ex4 => ?_)
      have hw := hw x4 ex4
      refine lv_istore_n (lv' := [(3, .int x4), (0, .ref a0), (1, .int l1), (2, .int l2)]) hx hb (dt_of tkX4_reach_k0 12 rfl) rfl hl (by decide) rfl (fun ls hl => ?_)
      refine lv_iload_n hx hb (dt_of tkX4_reach_k0 13 rfl) rfl (lv_at hl 0 rfl) ?_
      refine lv_if_eq (tgt := 28) hx hb (dt_of tkX4_reach_k0 14 rfl) (by decide) (fun c5 => ?_) (fun c5 => ?_)
      · have hw := hw.1 c5
        exact kb_X4_reach_28 dC dI cyB cyI cyJ cyP a0 jmH jbU jbu jcJ  jb7 jdC jfV jbZ Q (wl_X4_reach_4 jb7 jdC jfV jbZ Q  n) ih C0 _ _ _ jnu l1 l2 x4 hP hD hS (lv_sub hl [1, 2, 3, 0] rfl) hw
      · have hw := hw.2 c5
        refine lv_iload_n hx hb (dt_of tkX4_reach_k0 15 rfl) rfl (lv_at hl 0 rfl) ?_
        refine lv_iconst (v := 1) hx hb (dt_of tkX4_reach_k24 0 rfl) (by decide) ?_
        refine lv_icmp_ne (tgt := 64) hx hb (dt_of tkX4_reach_k24 1 rfl) (by decide) (fun c6 => ?_) (fun c6 => ?_)
        · have hw := hw.1 c6
          refine lv_iload_n hx hb (dt_of tkX4_reach_k54 6 rfl) rfl (lv_at hl 2 rfl) ?_
          refine lv_iconst (v := 2) hx hb (dt_of tkX4_reach_k54 7 rfl) (by decide) ?_
          refine lv_icmp_lt (tgt := 98) hx hb (dt_of tkX4_reach_k54 8 rfl) (by decide) (fun c7 => ?_) (fun c7 => ?_)
          · have hw := hw.1 c7
            exact kb_X4_reach_98 dC dI cyB cyI cyJ cyP a0 jmH jbU jbu jcJ  jb7 jdC jfV jbZ Q (wl_X4_reach_4 jb7 jdC jfV jbZ Q  n) ih C0 _ _ _ jnu l1 l2 hP hD hS (lv_sub hl [1, 2, 3] rfl) hw
          · have hw := hw.2 c7
            obtain ⟨x8, ex8⟩ : ∃ y : Int32, y = l1 + (-1) := ⟨_, rfl⟩
            have hw := hw x8 ex8
            refine lv_iinc (v := x8) (lv' := [(1, .int x8), (3, .int x4), (0, .ref a0), (2, .int l2)]) hx hb (dt_of tkX4_reach_k54 9 rfl) hl (k := 2) rfl (by rw [ex8]; rfl) (by decide) rfl (fun ls hl => ?_)
            refine lv_aload_n hx hb (dt_of tkX4_reach_k54 10 rfl) rfl (lv_at hl 2 rfl) ?_
            refine va_get (D := (dC, dI)) (ci := 4) (v := .ref jmH) (C := RX4) (T := TX4) (N := 5) hx hb hts ui_X4_reach_X4 hown hK hP 0 rfl rfl 2 (by decide) (hts _ uw_X4_reach_f18) (fun _ h9 => h9) rfl (dt_of tkX4_reach_k54 11 rfl) ?_
            refine lv_iload_n hx hb (dt_of tkX4_reach_k54 12 rfl) rfl (lv_at hl 0 rfl) ?_
            refine lv_iconst (v := 1) hx hb (dt_of tkX4_reach_k54 13 rfl) (by decide) ?_
            refine lv_isub hx hb (dt_of tkX4_reach_k54 14 rfl) ?_
            refine lv_topi (fun x9 ex9 => ?_)
            have hw := hw x9 ex9
            refine lv_iload_n hx hb (dt_of tkX4_reach_k54 15 rfl) rfl (lv_at hl 1 rfl) ?_
            refine lv_aload_n hx hb (dt_of tkX4_reach_k80 0 rfl) rfl (lv_at hl 2 rfl) ?_
            refine va_get (D := (dC, dI)) (ci := 4) (v := .ref jmH) (C := RX4) (T := TX4) (N := 5) hx hb hts ui_X4_reach_X4 hown hK hP 0 rfl rfl 2 (by decide) (hts _ uw_X4_reach_f18) (fun _ h9 => h9) rfl (dt_of tkX4_reach_k80 1 rfl) ?_
            refine lv_iload_n hx hb (dt_of tkX4_reach_k80 2 rfl) rfl (lv_at hl 0 rfl) ?_
            refine lv_iconst (v := 1) hx hb (dt_of tkX4_reach_k80 3 rfl) (by decide) ?_
            refine lv_isub hx hb (dt_of tkX4_reach_k80 4 rfl) ?_
            refine lv_topi (fun x10 ex10 => ?_)
            have hw := hw x10 ex10
            obtain ⟨hi9, hw⟩ := hw
            refine va_iald hx hb hK hP 1 1 rfl rfl hi9 (dt_of tkX4_reach_k80 5 rfl) ?_
            refine lv_topi (fun x11 ex11 => ?_)
            have hw := hw x11 ex11
            refine lv_aload_n hx hb (dt_of tkX4_reach_k80 6 rfl) rfl (lv_at hl 2 rfl) ?_
            refine va_get (D := (dC, dI)) (ci := 4) (v := .ref jmH) (C := RX4) (T := TX4) (N := 5) hx hb hts ui_X4_reach_X4 hown hK hP 0 rfl rfl 2 (by decide) (hts _ uw_X4_reach_f18) (fun _ h9 => h9) rfl (dt_of tkX4_reach_k80 7 rfl) ?_
            refine lv_iload_n hx hb (dt_of tkX4_reach_k80 8 rfl) rfl (lv_at hl 0 rfl) ?_
            obtain ⟨hi9, hw⟩ := hw
            refine va_iald hx hb hK hP 1 1 rfl rfl hi9 (dt_of tkX4_reach_k80 9 rfl) ?_
            refine lv_topi (fun x12 ex12 => ?_)
            have hw := hw x12 ex12
            obtain ⟨hCc, hPc, hDc, hFc⟩ := va_pick (ws' := []) hP hD hS hA [] (by decide +kernel) rfl
            refine va_calli (va_runS (As := [.int x4, .int x11, .int x12]) (rest := [.int x9, .ref jmH]) ⟨hx, hb, hml, hown, hts⟩ (ck_X4_joined l dC dI cyB cyI cyJ cyP  H.size    x4 x11 x12 hw) (va_cwS 3 hts gX4_reach_X4_joined rfl rfl rfl (by decide +kernel) ⟨Nat.le_of_ble_eq_true rfl, Nat.le_of_ble_eq_true rfl⟩) ⟨cPc_blind, cPc_pre hPc hK hDc hNw⟩ rfl rfl hl.1 rfl (lv_room (Nat.le_of_ble_eq_true rfl)) (dt_of tkX4_reach_k80 10 rfl) ⟨Nat.le_of_ble_eq_true rfl, Nat.le_of_ble_eq_true rfl⟩) hS (fun q _ h => hFc q h) hFc (fun r13 u t H1 locs ht hvm hw hB hz1 hk1 hS => ?_)
            obtain ⟨hP1, hK1, hD1⟩ := hB
            rw [ht] at hP1
            obtain ⟨hP, hD⟩ := va_joinI (wr := (wd01_11 a0 jbU jcJ jmH jbu jb7 jmH cyI jnu jbU cyI jdC jcJ cyI jfV jbu cyI jbZ)) (w1 := []) (wn := (wd01_11 a0 jbU jcJ jmH jbu jb7 jmH cyI jnu jbU cyI jdC jcJ cyI jfV jbu cyI jbZ)) hP hD [] [0, 1, 2, 3, 4] hCc rfl (by decide +kernel) (by decide +kernel) rfl hk1 hFc hP1 hD1
            generalize H1 = H at hP hS ⊢
            obtain ⟨hi9, hw⟩ := hw
            refine va_iast hx hb hK hP hD hS 1 1 rfl rfl hi9 (dt_of tkX4_reach_k80 11 rfl) (fun H locs hP hD hS => ?_)
            obtain ⟨f14, ef14⟩ : ∃ y : Nat → Int32, y = upd jnu x9.toNatClampNeg r13 := ⟨_, rfl⟩
            have hw := hw f14 ef14
            have hP : va_P (dC, dI) vwCl (wd01_11 a0 jbU jcJ jmH jbu jb7 jmH cyI f14 jbU cyI jdC jcJ cyI jfV jbu cyI jbZ) H := by rw [ef14]; exact hP
            have hD : va_D A (wd01_11 a0 jbU jcJ jmH jbu jb7 jmH cyI f14 jbU cyI jdC jcJ cyI jfV jbu cyI jbZ) := by rw [ef14]; exact hD
            exact kb_X4_reach_98 dC dI cyB cyI cyJ cyP a0 jmH jbU jbu jcJ  jb7 jdC jfV jbZ Q (wl_X4_reach_4 jb7 jdC jfV jbZ Q  n) ih C0 _ _ _ f14 x8 l2 hP hD hS (lv_sub hl [2, 0, 3] rfl) hw
        · have hw := hw.2 c6
          exact kb_X4_reach_28 dC dI cyB cyI cyJ cyP a0 jmH jbU jbu jcJ  jb7 jdC jfV jbZ Q (wl_X4_reach_4 jb7 jdC jfV jbZ Q  n) ih C0 _ _ _ jnu l1 l2 x4 hP hD hS (lv_sub hl [1, 2, 3, 0] rfl) hw
set_option maxHeartbeats 4000000 in
set_option maxRecDepth 100000 in
theorem ck_X4_reach (l : Launch) (dC : Nat → ClassId) (dI : Nat → Nat → Nat) (cyB cyI cyJ cyP : ClassId) (a0 jmH jbU jbu jcJ sz : Nat)  (jb7 : Int32) (jdC jfV jbZ jnu : Nat → Int32)  {Q : Int32 → (Nat → Int32) → Prop} (hw : wq_X4_reach jb7 jdC jfV jbZ jnu  Q) : Met l yX4_reach wsX4_reach ({ frames := 1, cells := 0, slots := 0, locals := 32 }) (va_Pc [.ref a0] (cPc (dC, dI) (kT cyB cyI cyJ cyP) (wd01_11 a0 jbU jcJ jmH jbu jb7 jmH cyI jnu jbU cyI jdC jcJ cyI jfV jbu cyI jbZ) sz)) (va_Qi (fun (r : Int32) (u : (Nat → Int32)) => Q r u) (cB (dC, dI) (kT cyB cyI cyJ cyP) (va_A (wd01_11 a0 jbU jcJ jmH jbu jb7 jmH cyI jnu jbU cyI jdC jcJ cyI jfV jbu cyI jbZ) sz) (fun u : (Nat → Int32) => ((wd01_11 a0 jbU jcJ jmH jbu jb7 jmH cyI u jbU cyI jdC jcJ cyI jfV jbu cyI jbZ) : va_W))) (va_A (wd01_11 a0 jbU jcJ jmH jbu jb7 jmH cyI jnu jbU cyI jdC jcJ cyI jfV jbu cyI jbZ) sz)) 0 0 (va_A (wd01_11 a0 jbU jcJ jmH jbu jb7 jmH cyI jnu jbU cyI jdC jcJ cyI jfV jbu cyI jbZ) sz) := by
  refine Met.ofW (cc := cX4_reach) (maxL := 4) (ret := (some .int)) (by decide) rfl ?_
  intro p e s m args below meth c s₁ B hml hv
  obtain ⟨rfl, hsz, hP, hK, hD0, hNw⟩ := hv
  have hx := B.exec
  have hb := B.bytes
  have hr := B.returns
  have hts := atoms_spec (ws := wsX4_reach) B.pre
  have hown : s.vm.findClass RX4 = some m.cls := findClass_of_methodNamed B.named
  have hlocks := B.notSynchronized
  subst hsz
  have hD := hD0.self (sz := s.heap.size)
  generalize hAe : va_A (wd01_11 a0 jbU jcJ jmH jbu jb7 jmH cyI jnu jbU cyI jdC jcJ cyI jfV jbu cyI jbZ) s.heap.size = A at hD ⊢
  have hA : ∀ q : Nat, s.heap.size ≤ q → A q := fun q h => by rw [← hAe]; exact Or.inr h
  have hS : va_S A s.heap s.heap [] := va_S.rf
  have hP : va_P (dC, dI) vwCl (wd01_11 a0 jbU jcJ jmH jbu jb7 jmH cyI jnu jbU cyI jdC jcJ cyI jfV jbu cyI jbZ) s.heap := hP
  have hl := lv_entry ([.ref a0]) (n := 4) (Nat.le_of_ble_eq_true rfl)
  rw [lg_entry_eq]
  generalize (lg_sl ([.ref a0]) ++ List.replicate (4 - (lg_sl ([.ref a0])).length) Slot.unset).toArray = ls at hl ⊢
  have hl : lv_has ls 4 [(0, .ref a0)] := hl
  have C0 : cfx p s m _ meth c cX4_reach (some .int) wsX4_reach RX4 4 A (dC, dI) (kT cyB cyI cyJ cyP) := ⟨hx, hb, hr, hts, hown, hlocks, hml, hA, hK, hNw⟩
  clear hAe
  obtain ⟨H, hH⟩ : ∃ H, H = s.heap := ⟨_, rfl⟩
  rw [← hH] at hP ⊢
  have hS : va_S A s.heap H [] := by rw [hH]; exact va_S.rf
  have hS := hS
  refine lv_iconst (v := 0) hx hb (dt_of tkX4_reach_k0 0 rfl) (by decide) ?_
  refine lv_istore_n (lv' := [(1, .int 0), (0, .ref a0)]) hx hb (dt_of tkX4_reach_k0 1 rfl) rfl hl (by decide) rfl (fun ls hl => ?_)
  refine lv_iconst (v := 0) hx hb (dt_of tkX4_reach_k0 2 rfl) (by decide) ?_
  refine lv_istore_n (lv' := [(2, .int 0), (1, .int 0), (0, .ref a0)]) hx hb (dt_of tkX4_reach_k0 3 rfl) rfl hl (by decide) rfl (fun ls hl => ?_)
  obtain ⟨n9, hw⟩ := hw
  exact kl_X4_reach_4 dC dI cyB cyI cyJ cyP a0 jmH jbU jbu jcJ  jb7 jdC jfV jbZ Q  C0 n9 _ _ _ jnu 0 0 hP hD hS (lv_sub hl [2, 1, 0] rfl) hw
theorem ui_X1_reach_X1 : ∀ w ∈ u_ws RX1 TX1 4, w ∈ wsX1_reach := uiM mbX1_reach euX1 (by decide +kernel)
theorem uw_X1_reach_f28 : (.fieldLink RX1 28 "MarchHares$Days" "law" "LMarchHares$Law;" : Cond) ∈ wsX1_reach := mbX1_reach 323 (by decide +kernel)
set_option maxHeartbeats 4000000 in
set_option maxRecDepth 100000 in
theorem ck_X1_reach (l : Launch) (dC : Nat → ClassId) (dI : Nat → Nat → Nat) (cyB cyI cyJ cyP : ClassId) (a0 jch jfB jk3 ji0 jjb ji1 jiI sz : Nat) (jcD jhp jhq jgi jgj jgk jgz jfR jgl jgO jfS jiB : Value) (jdE : Nat → Int32) (jc5 jj9 : Int32) (jkK jkj jlg jlp : Nat → Int32) (p1 : Int32) {Q : Int32 → (Nat → Int32) → (Nat → Int32) → Prop} (hw : wq_X1_reach jdE jc5 jj9 jkK jkj jlg jlp p1 Q) : Met l yX1_reach wsX1_reach ({ frames := 2, cells := 0, slots := 0, locals := 55 }) (va_Pc [.ref a0, .int p1] (cPc (dC, dI) (kT cyB cyI cyJ cyP) (wd01_12 a0 jch jcD jfB jk3 jch cyI jdE jfB jhp jhq jgi jgj jgk jgz jfR jgl jgO jc5 jfS jiB jk3 ji1 jiI jjb ji0 jj9 ji0 cyI jlg jjb cyI jlp ji1 cyI jkK jiI cyI jkj) sz)) (va_Qi (fun (r : Int32) (u : (Nat → Int32) × (Nat → Int32)) => Q r u.1 u.2) (cB (dC, dI) (kT cyB cyI cyJ cyP) (va_A (wd01_12 a0 jch jcD jfB jk3 jch cyI jdE jfB jhp jhq jgi jgj jgk jgz jfR jgl jgO jc5 jfS jiB jk3 ji1 jiI jjb ji0 jj9 ji0 cyI jlg jjb cyI jlp ji1 cyI jkK jiI cyI jkj) sz) (fun u : (Nat → Int32) × (Nat → Int32) => ((wd01_12 a0 jch jcD jfB jk3 jch cyI jdE jfB jhp jhq jgi jgj jgk jgz jfR jgl jgO jc5 jfS jiB jk3 ji1 jiI jjb ji0 jj9 ji0 cyI u.1 jjb cyI u.2 ji1 cyI jkK jiI cyI jkj) : va_W))) (va_A (wd01_12 a0 jch jcD jfB jk3 jch cyI jdE jfB jhp jhq jgi jgj jgk jgz jfR jgl jgO jc5 jfS jiB jk3 ji1 jiI jjb ji0 jj9 ji0 cyI jlg jjb cyI jlp ji1 cyI jkK jiI cyI jkj) sz)) 0 0 (va_A (wd01_12 a0 jch jcD jfB jk3 jch cyI jdE jfB jhp jhq jgi jgj jgk jgz jfR jgl jgO jc5 jfS jiB jk3 ji1 jiI jjb ji0 jj9 ji0 cyI jlg jjb cyI jlp ji1 cyI jkK jiI cyI jkj) sz) := by
  refine Met.ofW (cc := cX1_reach) (maxL := 3) (ret := (some .int)) (by decide) rfl ?_
  intro p e s m args below meth c s₁ B hml hv
  obtain ⟨rfl, hsz, hP, hK, hD0, hNw⟩ := hv
  have hx := B.exec
  have hb := B.bytes
  have hr := B.returns
  have hts := atoms_spec (ws := wsX1_reach) B.pre
  have hown : s.vm.findClass RX1 = some m.cls := findClass_of_methodNamed B.named
  have hlocks := B.notSynchronized
  subst hsz
  have hD := hD0.self (sz := s.heap.size)
  generalize hAe : va_A (wd01_12 a0 jch jcD jfB jk3 jch cyI jdE jfB jhp jhq jgi jgj jgk jgz jfR jgl jgO jc5 jfS jiB jk3 ji1 jiI jjb ji0 jj9 ji0 cyI jlg jjb cyI jlp ji1 cyI jkK jiI cyI jkj) s.heap.size = A at hD ⊢
  have hA : ∀ q : Nat, s.heap.size ≤ q → A q := fun q h => by rw [← hAe]; exact Or.inr h
  have hS : va_S A s.heap s.heap [] := va_S.rf
  have hP : va_P (dC, dI) vwCl (wd01_12 a0 jch jcD jfB jk3 jch cyI jdE jfB jhp jhq jgi jgj jgk jgz jfR jgl jgO jc5 jfS jiB jk3 ji1 jiI jjb ji0 jj9 ji0 cyI jlg jjb cyI jlp ji1 cyI jkK jiI cyI jkj) s.heap := hP
  have hl := lv_entry ([.ref a0, .int p1]) (n := 3) (Nat.le_of_ble_eq_true rfl)
  rw [lg_entry_eq]
  generalize (lg_sl ([.ref a0, .int p1]) ++ List.replicate (3 - (lg_sl ([.ref a0, .int p1])).length) Slot.unset).toArray = ls at hl ⊢
  have hl : lv_has ls 3 [(0, .ref a0), (1, .int p1)] := hl
  have C0 : cfx p s m _ meth c cX1_reach (some .int) wsX1_reach RX1 3 A (dC, dI) (kT cyB cyI cyJ cyP) := ⟨hx, hb, hr, hts, hown, hlocks, hml, hA, hK, hNw⟩
  clear hAe
  obtain ⟨H, hH⟩ : ∃ H, H = s.heap := ⟨_, rfl⟩
  rw [← hH] at hP ⊢
  have hS : va_S A s.heap H [] := by rw [hH]; exact va_S.rf
  have hS := hS
  refine lv_aload_n hx hb (dt_of tkX1_reach_k0 0 rfl) rfl (lv_at hl 0 rfl) ?_
  refine lv_aload_n hx hb (dt_of tkX1_reach_k0 1 rfl) rfl (lv_at hl 0 rfl) ?_
  refine lv_iload_n hx hb (dt_of tkX1_reach_k0 2 rfl) rfl (lv_at hl 1 rfl) ?_
  obtain ⟨hCc, hPc, hDc, hFc⟩ := va_pick (ws' := (wd01_13 a0 jch jcD jfB jk3 jch cyI jdE)) hP hD hS hA [0, 1] (by decide +kernel) rfl
  refine va_calli (va_runV (As := [.int p1]) (rest := [.ref a0]) ⟨hx, hb, hml, hown, hts⟩ (ck_X1_sits l dC dI cyB cyI cyJ cyP a0 jch H.size (jcD) (.ref jfB) (.ref jk3) jdE  p1 hw) (cwV 1 hts gX1_reach_X1_sits rfl rfl rfl (by decide +kernel) ⟨Nat.le_of_ble_eq_true rfl, Nat.le_of_ble_eq_true rfl⟩) ⟨cPc_blind, va_recv (q := (RX1, TX1, 4)) hK hPc (ci := 1) (q0 := 0) rfl rfl, cPc_pre hPc hK hDc hNw⟩ rfl rfl hl.1 rfl (lv_room (Nat.le_of_ble_eq_true rfl)) (dt_of tkX1_reach_k0 3 rfl) ⟨Nat.le_of_ble_eq_true rfl, Nat.le_of_ble_eq_true rfl⟩) hS (fun q _ h => hFc q h) hFc (fun r1 u t H1 locs ht hvm hw hB hz1 hk1 hS => ?_)
  obtain ⟨hP1, hK1, hD1⟩ := hB
  rw [ht] at hP1
  obtain ⟨hP, hD⟩ := va_joinN (wr := (wd01_14 jfB jhp jhq jgi jgj jgk jgz jfR jgl jgO jc5 jfS jiB jk3 ji1 jiI jjb ji0 jj9 ji0 cyI jlg jjb cyI jlp ji1 cyI jkK jiI cyI jkj)) (w1 := (wd01_13 a0 jch jcD jfB jk3 jch cyI jdE)) (wn := (wd01_12 a0 jch jcD jfB jk3 jch cyI jdE jfB jhp jhq jgi jgj jgk jgz jfR jgl jgO jc5 jfS jiB jk3 ji1 jiI jjb ji0 jj9 ji0 cyI jlg jjb cyI jlp ji1 cyI jkK jiI cyI jkj)) hP hD [0, 1] [2, 3, 4, 5, 6, 7] [6, 7, 0, 1, 2, 3, 4, 5] hCc rfl (by decide +kernel) (by decide +kernel) (by decide +kernel) rfl hk1 hFc hP1 hD1
  generalize H1 = H at hP hS ⊢
  obtain ⟨hCc, hPc, hDc, hFc⟩ := va_pick (ws' := (wd01_15 a0 jch jcD jfB jk3 jfB jhp jhq jgi jgj jgk jgz jfR jgl jgO jc5 jfS jiB jch cyI jdE)) hP hD hS hA [0, 2, 1] (by decide +kernel) rfl
  refine va_calli (va_runV (As := [.int r1]) (rest := []) ⟨hx, hb, hml, hown, hts⟩ (ck_X1_seatedIn l dC dI cyB cyI cyJ cyP a0 jfB jch H.size (jcD) (.ref jk3) (jhp) (jhq) (jgi) (jgj) (jgk) (jgz) (jfR) (jgl) (jgO) (jfS) (jiB) jc5 jdE  r1 hw) (cwV 1 hts gX1_reach_X1_seatedIn rfl rfl rfl (by decide +kernel) ⟨Nat.le_of_ble_eq_true rfl, Nat.le_of_ble_eq_true rfl⟩) ⟨cPc_blind, va_recv (q := (RX1, TX1, 4)) hK hPc (ci := 1) (q0 := 0) rfl rfl, cPc_pre hPc hK hDc hNw⟩ rfl rfl hl.1 rfl (lv_room (Nat.le_of_ble_eq_true rfl)) (dt_of tkX1_reach_k0 4 rfl) ⟨Nat.le_of_ble_eq_true rfl, Nat.le_of_ble_eq_true rfl⟩) hS (fun q _ h => hFc q h) hFc (fun r2 u t H1 locs ht hvm hw hB hz1 hk1 hS => ?_)
  obtain ⟨hP1, hK1, hD1⟩ := hB
  rw [ht] at hP1
  obtain ⟨hP, hD⟩ := va_joinN (wr := (wd01_16 jk3 ji1 jiI jjb ji0 jj9 ji0 cyI jlg jjb cyI jlp ji1 cyI jkK jiI cyI jkj)) (w1 := (wd01_15 a0 jch jcD jfB jk3 jfB jhp jhq jgi jgj jgk jgz jfR jgl jgO jc5 jfS jiB jch cyI jdE)) (wn := (wd01_12 a0 jch jcD jfB jk3 jch cyI jdE jfB jhp jhq jgi jgj jgk jgz jfR jgl jgO jc5 jfS jiB jk3 ji1 jiI jjb ji0 jj9 ji0 cyI jlg jjb cyI jlp ji1 cyI jkK jiI cyI jkj)) hP hD [0, 2, 1] [3, 4, 5, 6, 7] [5, 7, 6, 0, 1, 2, 3, 4] hCc rfl (by decide +kernel) (by decide +kernel) (by decide +kernel) rfl hk1 hFc hP1 hD1
  generalize H1 = H at hP hS ⊢
  refine lv_iconst (v := 1) hx hb (dt_of tkX1_reach_k0 5 rfl) (by decide) ?_
  refine lv_iload_n hx hb (dt_of tkX1_reach_k0 6 rfl) rfl (lv_at hl 1 rfl) ?_
  refine lv_ishl hx hb (dt_of tkX1_reach_k0 7 rfl) ?_
  refine lv_iconst (v := (-1)) hx hb (dt_of tkX1_reach_k0 8 rfl) (by decide) ?_
  refine lv_ixor hx hb (dt_of tkX1_reach_k0 9 rfl) ?_
  refine lv_iand hx hb (dt_of tkX1_reach_k0 10 rfl) ?_
  obtain ⟨hCc, hPc, hDc, hFc⟩ := va_pick (ws' := []) hP hD hS hA [] (by decide +kernel) rfl
  refine va_calli (va_runS (As := [.int (r2 &&& ((1 <<< (p1 &&& 31)) ^^^ (-1)))]) (rest := []) ⟨hx, hb, hml, hown, hts⟩ (ck_J6_bitCount_0f7a4 l dC dI cyB cyI cyJ cyP  H.size    (r2 &&& ((1 <<< (p1 &&& 31)) ^^^ (-1))) hw) (va_cwS 1 hts gX1_reach_J6_bitCount_0f7a4 rfl rfl rfl (by decide +kernel) ⟨Nat.le_of_ble_eq_true rfl, Nat.le_of_ble_eq_true rfl⟩) ⟨cPc_blind, cPc_pre hPc hK hDc hNw⟩ rfl rfl hl.1 rfl (lv_room (Nat.le_of_ble_eq_true rfl)) (dt_of tkX1_reach_k0 11 rfl) ⟨Nat.le_of_ble_eq_true rfl, Nat.le_of_ble_eq_true rfl⟩) hS (fun q _ h => hFc q h) hFc (fun r3 u t H1 locs ht hvm hw hB hz1 hk1 hS => ?_)
  obtain ⟨hP1, hK1, hD1⟩ := hB
  rw [ht] at hP1
  obtain ⟨hP, hD⟩ := va_joinI (wr := (wd01_12 a0 jch jcD jfB jk3 jch cyI jdE jfB jhp jhq jgi jgj jgk jgz jfR jgl jgO jc5 jfS jiB jk3 ji1 jiI jjb ji0 jj9 ji0 cyI jlg jjb cyI jlp ji1 cyI jkK jiI cyI jkj)) (w1 := []) (wn := (wd01_12 a0 jch jcD jfB jk3 jch cyI jdE jfB jhp jhq jgi jgj jgk jgz jfR jgl jgO jc5 jfS jiB jk3 ji1 jiI jjb ji0 jj9 ji0 cyI jlg jjb cyI jlp ji1 cyI jkK jiI cyI jkj)) hP hD [] [0, 1, 2, 3, 4, 5, 6, 7] hCc rfl (by decide +kernel) (by decide +kernel) rfl hk1 hFc hP1 hD1
  generalize H1 = H at hP hS ⊢
  refine lv_istore_n (lv' := [(2, .int r3), (0, .ref a0), (1, .int p1)]) hx hb (dt_of tkX1_reach_k0 12 rfl) rfl hl (by decide) rfl (fun ls hl => ?_)
  refine lv_aload_n hx hb (dt_of tkX1_reach_k0 13 rfl) rfl (lv_at hl 1 rfl) ?_
  refine va_get (D := (dC, dI)) (ci := 1) (v := .ref jk3) (C := RX1) (T := TX1) (N := 4) hx hb hts ui_X1_reach_X1 hown hK hP 0 rfl rfl 3 (by decide) (hts _ uw_X1_reach_f28) (fun _ h9 => h9) rfl (dt_of tkX1_reach_k0 14 rfl) ?_
  refine lv_aload_n hx hb (dt_of tkX1_reach_k0 15 rfl) rfl (lv_at hl 1 rfl) ?_
  refine lv_iload_n hx hb (dt_of tkX1_reach_k24 0 rfl) rfl (lv_at hl 2 rfl) ?_
  obtain ⟨hCc, hPc, hDc, hFc⟩ := va_pick (ws' := (wd01_13 a0 jch jcD jfB jk3 jch cyI jdE)) hP hD hS hA [0, 1] (by decide +kernel) rfl
  refine va_calli (va_runV (As := [.int p1]) (rest := [.ref jk3]) ⟨hx, hb, hml, hown, hts⟩ (ck_X1_strong l dC dI cyB cyI cyJ cyP a0 jch H.size (jcD) (.ref jfB) (.ref jk3) jdE  p1 hw) (cwV 1 hts gX1_reach_X1_strong rfl rfl rfl (by decide +kernel) ⟨Nat.le_of_ble_eq_true rfl, Nat.le_of_ble_eq_true rfl⟩) ⟨cPc_blind, va_recv (q := (RX1, TX1, 4)) hK hPc (ci := 1) (q0 := 0) rfl rfl, cPc_pre hPc hK hDc hNw⟩ rfl rfl hl.1 rfl (lv_room (Nat.le_of_ble_eq_true rfl)) (dt_of tkX1_reach_k24 1 rfl) ⟨Nat.le_of_ble_eq_true rfl, Nat.le_of_ble_eq_true rfl⟩) hS (fun q _ h => hFc q h) hFc (fun r4 u t H1 locs ht hvm hw hB hz1 hk1 hS => ?_)
  obtain ⟨hP1, hK1, hD1⟩ := hB
  rw [ht] at hP1
  obtain ⟨hP, hD⟩ := va_joinN (wr := (wd01_14 jfB jhp jhq jgi jgj jgk jgz jfR jgl jgO jc5 jfS jiB jk3 ji1 jiI jjb ji0 jj9 ji0 cyI jlg jjb cyI jlp ji1 cyI jkK jiI cyI jkj)) (w1 := (wd01_13 a0 jch jcD jfB jk3 jch cyI jdE)) (wn := (wd01_12 a0 jch jcD jfB jk3 jch cyI jdE jfB jhp jhq jgi jgj jgk jgz jfR jgl jgO jc5 jfS jiB jk3 ji1 jiI jjb ji0 jj9 ji0 cyI jlg jjb cyI jlp ji1 cyI jkK jiI cyI jkj)) hP hD [0, 1] [2, 3, 4, 5, 6, 7] [6, 7, 0, 1, 2, 3, 4, 5] hCc rfl (by decide +kernel) (by decide +kernel) (by decide +kernel) rfl hk1 hFc hP1 hD1
  generalize H1 = H at hP hS ⊢
  refine lv_aload_n hx hb (dt_of tkX1_reach_k24 2 rfl) rfl (lv_at hl 1 rfl) ?_
  refine lv_iload_n hx hb (dt_of tkX1_reach_k24 3 rfl) rfl (lv_at hl 2 rfl) ?_
  obtain ⟨hCc, hPc, hDc, hFc⟩ := va_pick (ws' := (wd01_13 a0 jch jcD jfB jk3 jch cyI jdE)) hP hD hS hA [0, 1] (by decide +kernel) rfl
  refine va_calli (va_runV (As := [.int p1]) (rest := [.int r4, .ref jk3]) ⟨hx, hb, hml, hown, hts⟩ (ck_X1_still l dC dI cyB cyI cyJ cyP a0 jch H.size (jcD) (.ref jfB) (.ref jk3) jdE  p1 hw) (cwV 1 hts gX1_reach_X1_still rfl rfl rfl (by decide +kernel) ⟨Nat.le_of_ble_eq_true rfl, Nat.le_of_ble_eq_true rfl⟩) ⟨cPc_blind, va_recv (q := (RX1, TX1, 4)) hK hPc (ci := 1) (q0 := 0) rfl rfl, cPc_pre hPc hK hDc hNw⟩ rfl rfl hl.1 rfl (lv_room (Nat.le_of_ble_eq_true rfl)) (dt_of tkX1_reach_k24 4 rfl) ⟨Nat.le_of_ble_eq_true rfl, Nat.le_of_ble_eq_true rfl⟩) hS (fun q _ h => hFc q h) hFc (fun r5 u t H1 locs ht hvm hw hB hz1 hk1 hS => ?_)
  obtain ⟨hP1, hK1, hD1⟩ := hB
  rw [ht] at hP1
  obtain ⟨hP, hD⟩ := va_joinN (wr := (wd01_14 jfB jhp jhq jgi jgj jgk jgz jfR jgl jgO jc5 jfS jiB jk3 ji1 jiI jjb ji0 jj9 ji0 cyI jlg jjb cyI jlp ji1 cyI jkK jiI cyI jkj)) (w1 := (wd01_13 a0 jch jcD jfB jk3 jch cyI jdE)) (wn := (wd01_12 a0 jch jcD jfB jk3 jch cyI jdE jfB jhp jhq jgi jgj jgk jgz jfR jgl jgO jc5 jfS jiB jk3 ji1 jiI jjb ji0 jj9 ji0 cyI jlg jjb cyI jlp ji1 cyI jkK jiI cyI jkj)) hP hD [0, 1] [2, 3, 4, 5, 6, 7] [6, 7, 0, 1, 2, 3, 4, 5] hCc rfl (by decide +kernel) (by decide +kernel) (by decide +kernel) rfl hk1 hFc hP1 hD1
  generalize H1 = H at hP hS ⊢
  refine lv_aload_n hx hb (dt_of tkX1_reach_k24 5 rfl) rfl (lv_at hl 1 rfl) ?_
  refine lv_iload_n hx hb (dt_of tkX1_reach_k24 6 rfl) rfl (lv_at hl 2 rfl) ?_
  obtain ⟨hCc, hPc, hDc, hFc⟩ := va_pick (ws' := (wd01_15 a0 jch jcD jfB jk3 jfB jhp jhq jgi jgj jgk jgz jfR jgl jgO jc5 jfS jiB jch cyI jdE)) hP hD hS hA [0, 2, 1] (by decide +kernel) rfl
  refine va_calli (va_runV (As := [.int p1]) (rest := [.int r5, .int r4, .ref jk3]) ⟨hx, hb, hml, hown, hts⟩ (ck_X1_owes l dC dI cyB cyI cyJ cyP a0 jfB jch H.size (jcD) (.ref jk3) (jhp) (jhq) (jgi) (jgj) (jgk) (jgz) (jfR) (jgl) (jgO) (jfS) (jiB) jc5 jdE  p1 hw) (cwV 1 hts gX1_reach_X1_owes rfl rfl rfl (by decide +kernel) ⟨Nat.le_of_ble_eq_true rfl, Nat.le_of_ble_eq_true rfl⟩) ⟨cPc_blind, va_recv (q := (RX1, TX1, 4)) hK hPc (ci := 1) (q0 := 0) rfl rfl, cPc_pre hPc hK hDc hNw⟩ rfl rfl hl.1 rfl (lv_room (Nat.le_of_ble_eq_true rfl)) (dt_of tkX1_reach_k24 7 rfl) ⟨Nat.le_of_ble_eq_true rfl, Nat.le_of_ble_eq_true rfl⟩) hS (fun q _ h => hFc q h) hFc (fun r6 u t H1 locs ht hvm hw hB hz1 hk1 hS => ?_)
  obtain ⟨hP1, hK1, hD1⟩ := hB
  rw [ht] at hP1
  obtain ⟨hP, hD⟩ := va_joinN (wr := (wd01_16 jk3 ji1 jiI jjb ji0 jj9 ji0 cyI jlg jjb cyI jlp ji1 cyI jkK jiI cyI jkj)) (w1 := (wd01_15 a0 jch jcD jfB jk3 jfB jhp jhq jgi jgj jgk jgz jfR jgl jgO jc5 jfS jiB jch cyI jdE)) (wn := (wd01_12 a0 jch jcD jfB jk3 jch cyI jdE jfB jhp jhq jgi jgj jgk jgz jfR jgl jgO jc5 jfS jiB jk3 ji1 jiI jjb ji0 jj9 ji0 cyI jlg jjb cyI jlp ji1 cyI jkK jiI cyI jkj)) hP hD [0, 2, 1] [3, 4, 5, 6, 7] [5, 7, 6, 0, 1, 2, 3, 4] hCc rfl (by decide +kernel) (by decide +kernel) (by decide +kernel) rfl hk1 hFc hP1 hD1
  generalize H1 = H at hP hS ⊢
  refine lv_aload_n hx hb (dt_of tkX1_reach_k24 8 rfl) rfl (lv_at hl 1 rfl) ?_
  refine lv_iload_n hx hb (dt_of tkX1_reach_k24 9 rfl) rfl (lv_at hl 2 rfl) ?_
  obtain ⟨hCc, hPc, hDc, hFc⟩ := va_pick (ws' := (wd01_15 a0 jch jcD jfB jk3 jfB jhp jhq jgi jgj jgk jgz jfR jgl jgO jc5 jfS jiB jch cyI jdE)) hP hD hS hA [0, 2, 1] (by decide +kernel) rfl
  refine va_calli (va_runV (As := [.int p1]) (rest := [.int r6, .int r5, .int r4, .ref jk3]) ⟨hx, hb, hml, hown, hts⟩ (ck_X1_owed l dC dI cyB cyI cyJ cyP a0 jfB jch H.size (jcD) (.ref jk3) (jhp) (jhq) (jgi) (jgj) (jgk) (jgz) (jfR) (jgl) (jgO) (jfS) (jiB) jc5 jdE  p1 hw) (cwV 1 hts gX1_reach_X1_owed rfl rfl rfl (by decide +kernel) ⟨Nat.le_of_ble_eq_true rfl, Nat.le_of_ble_eq_true rfl⟩) ⟨cPc_blind, va_recv (q := (RX1, TX1, 4)) hK hPc (ci := 1) (q0 := 0) rfl rfl, cPc_pre hPc hK hDc hNw⟩ rfl rfl hl.1 rfl (lv_room (Nat.le_of_ble_eq_true rfl)) (dt_of tkX1_reach_k24 10 rfl) ⟨Nat.le_of_ble_eq_true rfl, Nat.le_of_ble_eq_true rfl⟩) hS (fun q _ h => hFc q h) hFc (fun r7 u t H1 locs ht hvm hw hB hz1 hk1 hS => ?_)
  obtain ⟨hP1, hK1, hD1⟩ := hB
  rw [ht] at hP1
  obtain ⟨hP, hD⟩ := va_joinN (wr := (wd01_16 jk3 ji1 jiI jjb ji0 jj9 ji0 cyI jlg jjb cyI jlp ji1 cyI jkK jiI cyI jkj)) (w1 := (wd01_15 a0 jch jcD jfB jk3 jfB jhp jhq jgi jgj jgk jgz jfR jgl jgO jc5 jfS jiB jch cyI jdE)) (wn := (wd01_12 a0 jch jcD jfB jk3 jch cyI jdE jfB jhp jhq jgi jgj jgk jgz jfR jgl jgO jc5 jfS jiB jk3 ji1 jiI jjb ji0 jj9 ji0 cyI jlg jjb cyI jlp ji1 cyI jkK jiI cyI jkj)) hP hD [0, 2, 1] [3, 4, 5, 6, 7] [5, 7, 6, 0, 1, 2, 3, 4] hCc rfl (by decide +kernel) (by decide +kernel) (by decide +kernel) rfl hk1 hFc hP1 hD1
  generalize H1 = H at hP hS ⊢
  refine lv_iload_n hx hb (dt_of tkX1_reach_k24 11 rfl) rfl (lv_at hl 0 rfl) ?_
  obtain ⟨hCc, hPc, hDc, hFc⟩ := va_pick (ws' := (wd01_17 jk3 ji1 jiI jjb ji0 jj9 ji0 cyI jlg)) hP hD hS hA [3, 4] (by decide +kernel) rfl
  refine va_callv (va_runV (As := [.int r4, .int r5, .int r6, .int r7, .int r3]) (rest := []) ⟨hx, hb, hml, hown, hts⟩ (ck_X4_setFacts l dC dI cyB cyI cyJ cyP jk3 ji0 H.size (.ref ji1) (.ref jiI) (.ref jjb) (.int jj9)  jlg r4 r5 r6 r7 r3 hw) (cwV 5 hts gX1_reach_X4_setFacts rfl rfl rfl (by decide +kernel) ⟨Nat.le_of_ble_eq_true rfl, Nat.le_of_ble_eq_true rfl⟩) ⟨cPc_blind, va_recv (q := (RX4, TX4, 5)) hK hPc (ci := 4) (q0 := 0) rfl rfl, cPc_pre hPc hK hDc hNw⟩ rfl rfl hl.1 rfl (lv_room (Nat.le_of_ble_eq_true rfl)) (dt_of tkX1_reach_k24 12 rfl) ⟨Nat.le_of_ble_eq_true rfl, Nat.le_of_ble_eq_true rfl⟩) hS (fun q _ h => hFc q h) hFc (fun u t H1 locs ht hvm hw hB hz1 hk1 hS => ?_)
  obtain ⟨f8, rfl⟩ : ∃ z, z = u := ⟨_, rfl⟩
  obtain ⟨hP1, hK1, hD1⟩ := hB
  rw [ht] at hP1
  obtain ⟨hP, hD⟩ := va_joinN (wr := (wd01_18 a0 jch jcD jfB jk3 jch cyI jdE jfB jhp jhq jgi jgj jgk jgz jfR jgl jgO jc5 jfS jiB jjb cyI jlp ji1 cyI jkK jiI cyI jkj)) (w1 := (wd01_17 jk3 ji1 jiI jjb ji0 jj9 ji0 cyI f8)) (wn := (wd01_12 a0 jch jcD jfB jk3 jch cyI jdE jfB jhp jhq jgi jgj jgk jgz jfR jgl jgO jc5 jfS jiB jk3 ji1 jiI jjb ji0 jj9 ji0 cyI f8 jjb cyI jlp ji1 cyI jkK jiI cyI jkj)) hP hD [3, 4] [0, 1, 2, 5, 6, 7] [0, 1, 2, 6, 7, 3, 4, 5] hCc rfl (by decide +kernel) (by decide +kernel) (by decide +kernel) rfl hk1 hFc hP1 hD1
  generalize H1 = H at hP hS ⊢
  refine lv_aload_n hx hb (dt_of tkX1_reach_k24 13 rfl) rfl (lv_at hl 1 rfl) ?_
  refine va_get (D := (dC, dI)) (ci := 1) (v := .ref jk3) (C := RX1) (T := TX1) (N := 4) hx hb hts ui_X1_reach_X1 hown hK hP 0 rfl rfl 3 (by decide) (hts _ uw_X1_reach_f28) (fun _ h9 => h9) rfl (dt_of tkX1_reach_k24 14 rfl) ?_
  refine lv_aload_n hx hb (dt_of tkX1_reach_k24 15 rfl) rfl (lv_at hl 1 rfl) ?_
  obtain ⟨hCc, hPc, hDc, hFc⟩ := va_pick (ws' := (wd01_13 a0 jch jcD jfB jk3 jch cyI jdE)) hP hD hS hA [0, 1] (by decide +kernel) rfl
  refine va_calli (va_runV (As := []) (rest := [.ref jk3]) ⟨hx, hb, hml, hown, hts⟩ (ck_X1_day l dC dI cyB cyI cyJ cyP a0 jch H.size (jcD) (.ref jfB) (.ref jk3) jdE   hw) (cwV 0 hts gX1_reach_X1_day rfl rfl rfl (by decide +kernel) ⟨Nat.le_of_ble_eq_true rfl, Nat.le_of_ble_eq_true rfl⟩) ⟨cPc_blind, va_recv (q := (RX1, TX1, 4)) hK hPc (ci := 1) (q0 := 0) rfl rfl, cPc_pre hPc hK hDc hNw⟩ rfl rfl hl.1 rfl (lv_room (Nat.le_of_ble_eq_true rfl)) (dt_of tkX1_reach_k52 0 rfl) ⟨Nat.le_of_ble_eq_true rfl, Nat.le_of_ble_eq_true rfl⟩) hS (fun q _ h => hFc q h) hFc (fun r9 u t H1 locs ht hvm hw hB hz1 hk1 hS => ?_)
  obtain ⟨hP1, hK1, hD1⟩ := hB
  rw [ht] at hP1
  obtain ⟨hP, hD⟩ := va_joinN (wr := (wd01_14 jfB jhp jhq jgi jgj jgk jgz jfR jgl jgO jc5 jfS jiB jk3 ji1 jiI jjb ji0 jj9 ji0 cyI f8 jjb cyI jlp ji1 cyI jkK jiI cyI jkj)) (w1 := (wd01_13 a0 jch jcD jfB jk3 jch cyI jdE)) (wn := (wd01_12 a0 jch jcD jfB jk3 jch cyI jdE jfB jhp jhq jgi jgj jgk jgz jfR jgl jgO jc5 jfS jiB jk3 ji1 jiI jjb ji0 jj9 ji0 cyI f8 jjb cyI jlp ji1 cyI jkK jiI cyI jkj)) hP hD [0, 1] [2, 3, 4, 5, 6, 7] [6, 7, 0, 1, 2, 3, 4, 5] hCc rfl (by decide +kernel) (by decide +kernel) (by decide +kernel) rfl hk1 hFc hP1 hD1
  generalize H1 = H at hP hS ⊢
  refine lv_iload_n hx hb (dt_of tkX1_reach_k52 1 rfl) rfl (lv_at hl 2 rfl) ?_
  refine lv_aload_n hx hb (dt_of tkX1_reach_k52 2 rfl) rfl (lv_at hl 1 rfl) ?_
  refine lv_iload_n hx hb (dt_of tkX1_reach_k52 3 rfl) rfl (lv_at hl 2 rfl) ?_
  obtain ⟨hCc, hPc, hDc, hFc⟩ := va_pick (ws' := (wd01_13 a0 jch jcD jfB jk3 jch cyI jdE)) hP hD hS hA [0, 1] (by decide +kernel) rfl
  refine va_calli (va_runV (As := [.int p1]) (rest := [.int p1, .int r9, .ref jk3]) ⟨hx, hb, hml, hown, hts⟩ (ck_X1_leaps l dC dI cyB cyI cyJ cyP a0 jch H.size (jcD) (.ref jfB) (.ref jk3) jdE  p1 hw) (cwV 1 hts gX1_reach_X1_leaps rfl rfl rfl (by decide +kernel) ⟨Nat.le_of_ble_eq_true rfl, Nat.le_of_ble_eq_true rfl⟩) ⟨cPc_blind, va_recv (q := (RX1, TX1, 4)) hK hPc (ci := 1) (q0 := 0) rfl rfl, cPc_pre hPc hK hDc hNw⟩ rfl rfl hl.1 rfl (lv_room (Nat.le_of_ble_eq_true rfl)) (dt_of tkX1_reach_k52 4 rfl) ⟨Nat.le_of_ble_eq_true rfl, Nat.le_of_ble_eq_true rfl⟩) hS (fun q _ h => hFc q h) hFc (fun r10 u t H1 locs ht hvm hw hB hz1 hk1 hS => ?_)
  obtain ⟨hP1, hK1, hD1⟩ := hB
  rw [ht] at hP1
  obtain ⟨hP, hD⟩ := va_joinN (wr := (wd01_14 jfB jhp jhq jgi jgj jgk jgz jfR jgl jgO jc5 jfS jiB jk3 ji1 jiI jjb ji0 jj9 ji0 cyI f8 jjb cyI jlp ji1 cyI jkK jiI cyI jkj)) (w1 := (wd01_13 a0 jch jcD jfB jk3 jch cyI jdE)) (wn := (wd01_12 a0 jch jcD jfB jk3 jch cyI jdE jfB jhp jhq jgi jgj jgk jgz jfR jgl jgO jc5 jfS jiB jk3 ji1 jiI jjb ji0 jj9 ji0 cyI f8 jjb cyI jlp ji1 cyI jkK jiI cyI jkj)) hP hD [0, 1] [2, 3, 4, 5, 6, 7] [6, 7, 0, 1, 2, 3, 4, 5] hCc rfl (by decide +kernel) (by decide +kernel) (by decide +kernel) rfl hk1 hFc hP1 hD1
  generalize H1 = H at hP hS ⊢
  obtain ⟨hCc, hPc, hDc, hFc⟩ := va_pick (ws' := (wd01_17 jk3 ji1 jiI jjb ji0 jj9 ji0 cyI f8)) hP hD hS hA [3, 4] (by decide +kernel) rfl
  refine va_callv (va_runV (As := [.int r9, .int p1, .int r10]) (rest := []) ⟨hx, hb, hml, hown, hts⟩ (ck_X4_setTimes l dC dI cyB cyI cyJ cyP jk3 ji0 H.size (.ref ji1) (.ref jiI) (.ref jjb) (.int jj9)  f8 r9 p1 r10 hw) (cwV 3 hts gX1_reach_X4_setTimes rfl rfl rfl (by decide +kernel) ⟨Nat.le_of_ble_eq_true rfl, Nat.le_of_ble_eq_true rfl⟩) ⟨cPc_blind, va_recv (q := (RX4, TX4, 5)) hK hPc (ci := 4) (q0 := 0) rfl rfl, cPc_pre hPc hK hDc hNw⟩ rfl rfl hl.1 rfl (lv_room (Nat.le_of_ble_eq_true rfl)) (dt_of tkX1_reach_k52 5 rfl) ⟨Nat.le_of_ble_eq_true rfl, Nat.le_of_ble_eq_true rfl⟩) hS (fun q _ h => hFc q h) hFc (fun u t H1 locs ht hvm hw hB hz1 hk1 hS => ?_)
  obtain ⟨f11, rfl⟩ : ∃ z, z = u := ⟨_, rfl⟩
  obtain ⟨hP1, hK1, hD1⟩ := hB
  rw [ht] at hP1
  obtain ⟨hP, hD⟩ := va_joinN (wr := (wd01_18 a0 jch jcD jfB jk3 jch cyI jdE jfB jhp jhq jgi jgj jgk jgz jfR jgl jgO jc5 jfS jiB jjb cyI jlp ji1 cyI jkK jiI cyI jkj)) (w1 := (wd01_17 jk3 ji1 jiI jjb ji0 jj9 ji0 cyI f11)) (wn := (wd01_12 a0 jch jcD jfB jk3 jch cyI jdE jfB jhp jhq jgi jgj jgk jgz jfR jgl jgO jc5 jfS jiB jk3 ji1 jiI jjb ji0 jj9 ji0 cyI f11 jjb cyI jlp ji1 cyI jkK jiI cyI jkj)) hP hD [3, 4] [0, 1, 2, 5, 6, 7] [0, 1, 2, 6, 7, 3, 4, 5] hCc rfl (by decide +kernel) (by decide +kernel) (by decide +kernel) rfl hk1 hFc hP1 hD1
  generalize H1 = H at hP hS ⊢
  refine lv_aload_n hx hb (dt_of tkX1_reach_k52 6 rfl) rfl (lv_at hl 1 rfl) ?_
  refine va_get (D := (dC, dI)) (ci := 1) (v := .ref jk3) (C := RX1) (T := TX1) (N := 4) hx hb hts ui_X1_reach_X1 hown hK hP 0 rfl rfl 3 (by decide) (hts _ uw_X1_reach_f28) (fun _ h9 => h9) rfl (dt_of tkX1_reach_k52 7 rfl) ?_
  obtain ⟨hCc, hPc, hDc, hFc⟩ := va_pick (ws' := (wd01_11 jk3 ji1 jiI jjb ji0 jj9 jjb cyI jlp ji1 cyI jkK jiI cyI jkj ji0 cyI f11)) hP hD hS hA [3, 5, 6, 7, 4] (by decide +kernel) rfl
  refine va_calli (va_runV (As := []) (rest := []) ⟨hx, hb, hml, hown, hts⟩ (ck_X4_reach l dC dI cyB cyI cyJ cyP jk3 jjb ji1 ji0 jiI H.size  jj9 jkK jkj f11 jlp  hw) (cwV 0 hts gX1_reach_X4_reach rfl rfl rfl (by decide +kernel) ⟨Nat.le_of_ble_eq_true rfl, Nat.le_of_ble_eq_true rfl⟩) ⟨cPc_blind, va_recv (q := (RX4, TX4, 5)) hK hPc (ci := 4) (q0 := 0) rfl rfl, cPc_pre hPc hK hDc hNw⟩ rfl rfl hl.1 rfl (lv_room (Nat.le_of_ble_eq_true rfl)) (dt_of tkX1_reach_k52 8 rfl) ⟨Nat.le_of_ble_eq_true rfl, Nat.le_of_ble_eq_true rfl⟩) hS (fun q _ h => hFc q h) hFc (fun r13 u t H1 locs ht hvm hw hB hz1 hk1 hS => ?_)
  obtain ⟨f12, rfl⟩ : ∃ z, z = u := ⟨_, rfl⟩
  obtain ⟨hP1, hK1, hD1⟩ := hB
  rw [ht] at hP1
  obtain ⟨hP, hD⟩ := va_joinN (wr := [(a0, .inr (1, [.ref jch, jcD, .ref jfB, .ref jk3])), (jch, .inl (cyI, 64, .inl jdE)), (jfB, .inr (2, [jhp, jhq, jgi, jgj, jgk, jgz, jfR, jgl, jgO, .int jc5, jfS, jiB]))]) (w1 := (wd01_11 jk3 ji1 jiI jjb ji0 jj9 jjb cyI f12 ji1 cyI jkK jiI cyI jkj ji0 cyI f11)) (wn := (wd01_12 a0 jch jcD jfB jk3 jch cyI jdE jfB jhp jhq jgi jgj jgk jgz jfR jgl jgO jc5 jfS jiB jk3 ji1 jiI jjb ji0 jj9 ji0 cyI f11 jjb cyI f12 ji1 cyI jkK jiI cyI jkj)) hP hD [3, 5, 6, 7, 4] [0, 1, 2] [0, 1, 2, 3, 7, 4, 5, 6] hCc rfl (by decide +kernel) (by decide +kernel) (by decide +kernel) rfl hk1 hFc hP1 hD1
  generalize H1 = H at hP hS ⊢
  exact ((W.iret (v := r13) hx hb hr (fun t ht hW => ⟨⟨r13, (f11, f12), rfl, hw, by rw [ht]; exact hP, va_K.moved hW.alike hK, hD⟩, hS.F ht⟩) hS.2.2 (dt_of tkX1_reach_k52 9 rfl)))
theorem ui_X1_couldLeap_X1 : ∀ w ∈ u_ws RX1 TX1 4, w ∈ wsX1_couldLeap := uiM mbX1_couldLeap euX1 (by decide +kernel)
theorem uw_X1_couldLeap_f24 : (.fieldLink RX1 24 "MarchHares$Days" "down" "LMarchHares$Down;" : Cond) ∈ wsX1_couldLeap := mbX1_couldLeap 322 (by decide +kernel)
set_option maxHeartbeats 4000000 in
set_option maxRecDepth 100000 in
theorem ck_X1_couldLeap (l : Launch) (dC : Nat → ClassId) (dI : Nat → Nat → Nat) (cyB cyI cyJ cyP : ClassId) (a0 jch jfB jjJ jjK jk3 ji0 jjb ji1 jiI sz : Nat) (jcD jgi jgj jgk jgz jfR jgl jgO jfS jiB : Value) (jdE : Nat → Int32) (jc5 : Int32) (jlh jli : Nat → Int32) (jj9 : Int32) (jkK jkj jlg jlp : Nat → Int32) (p1 p2 : Int32) {Q : Int32 → (Nat → Int32) → (Nat → Int32) → Prop} (hw : wq_X1_couldLeap jdE jc5 jlh jli jj9 jkK jkj jlg jlp p1 p2 Q) : Met l yX1_couldLeap wsX1_couldLeap ({ frames := 3, cells := 0, slots := 0, locals := 77 }) (va_Pc [.ref a0, .int p1, .int p2] (cPc (dC, dI) (kT cyB cyI cyJ cyP) (wd01_19 a0 jch jcD jfB jk3 jch cyI jdE jfB jjJ jjK jgi jgj jgk jgz jfR jgl jgO jc5 jfS jiB jjJ cyI jlh jjK cyI jli jk3 ji1 jiI jjb ji0 jj9 ji0 cyI jlg jjb cyI jlp ji1 cyI jkK jiI cyI jkj) sz)) (va_Qi (fun (r : Int32) (u : (Nat → Int32) × (Nat → Int32)) => Q r u.1 u.2) (cB (dC, dI) (kT cyB cyI cyJ cyP) (va_A (wd01_19 a0 jch jcD jfB jk3 jch cyI jdE jfB jjJ jjK jgi jgj jgk jgz jfR jgl jgO jc5 jfS jiB jjJ cyI jlh jjK cyI jli jk3 ji1 jiI jjb ji0 jj9 ji0 cyI jlg jjb cyI jlp ji1 cyI jkK jiI cyI jkj) sz) (fun u : (Nat → Int32) × (Nat → Int32) => ((wd01_19 a0 jch jcD jfB jk3 jch cyI jdE jfB jjJ jjK jgi jgj jgk jgz jfR jgl jgO jc5 jfS jiB jjJ cyI jlh jjK cyI jli jk3 ji1 jiI jjb ji0 jj9 ji0 cyI u.1 jjb cyI u.2 ji1 cyI jkK jiI cyI jkj) : va_W))) (va_A (wd01_19 a0 jch jcD jfB jk3 jch cyI jdE jfB jjJ jjK jgi jgj jgk jgz jfR jgl jgO jc5 jfS jiB jjJ cyI jlh jjK cyI jli jk3 ji1 jiI jjb ji0 jj9 ji0 cyI jlg jjb cyI jlp ji1 cyI jkK jiI cyI jkj) sz)) 0 0 (va_A (wd01_19 a0 jch jcD jfB jk3 jch cyI jdE jfB jjJ jjK jgi jgj jgk jgz jfR jgl jgO jc5 jfS jiB jjJ cyI jlh jjK cyI jli jk3 ji1 jiI jjb ji0 jj9 ji0 cyI jlg jjb cyI jlp ji1 cyI jkK jiI cyI jkj) sz) := by
  refine Met.ofW (cc := cX1_couldLeap) (maxL := 3) (ret := (some .boolean)) (by decide) rfl ?_
  intro p e s m args below meth c s₁ B hml hv
  obtain ⟨rfl, hsz, hP, hK, hD0, hNw⟩ := hv
  have hx := B.exec
  have hb := B.bytes
  have hr := B.returns
  have hts := atoms_spec (ws := wsX1_couldLeap) B.pre
  have hown : s.vm.findClass RX1 = some m.cls := findClass_of_methodNamed B.named
  have hlocks := B.notSynchronized
  subst hsz
  have hD := hD0.self (sz := s.heap.size)
  generalize hAe : va_A (wd01_19 a0 jch jcD jfB jk3 jch cyI jdE jfB jjJ jjK jgi jgj jgk jgz jfR jgl jgO jc5 jfS jiB jjJ cyI jlh jjK cyI jli jk3 ji1 jiI jjb ji0 jj9 ji0 cyI jlg jjb cyI jlp ji1 cyI jkK jiI cyI jkj) s.heap.size = A at hD ⊢
  have hA : ∀ q : Nat, s.heap.size ≤ q → A q := fun q h => by rw [← hAe]; exact Or.inr h
  have hS : va_S A s.heap s.heap [] := va_S.rf
  have hP : va_P (dC, dI) vwCl (wd01_19 a0 jch jcD jfB jk3 jch cyI jdE jfB jjJ jjK jgi jgj jgk jgz jfR jgl jgO jc5 jfS jiB jjJ cyI jlh jjK cyI jli jk3 ji1 jiI jjb ji0 jj9 ji0 cyI jlg jjb cyI jlp ji1 cyI jkK jiI cyI jkj) s.heap := hP
  have hl := lv_entry ([.ref a0, .int p1, .int p2]) (n := 3) (Nat.le_of_ble_eq_true rfl)
  rw [lg_entry_eq]
  generalize (lg_sl ([.ref a0, .int p1, .int p2]) ++ List.replicate (3 - (lg_sl ([.ref a0, .int p1, .int p2])).length) Slot.unset).toArray = ls at hl ⊢
  have hl : lv_has ls 3 [(0, .ref a0), (1, .int p1), (2, .int p2)] := hl
  have C0 : cfx p s m _ meth c cX1_couldLeap (some .boolean) wsX1_couldLeap RX1 3 A (dC, dI) (kT cyB cyI cyJ cyP) := ⟨hx, hb, hr, hts, hown, hlocks, hml, hA, hK, hNw⟩
  clear hAe
  obtain ⟨H, hH⟩ : ∃ H, H = s.heap := ⟨_, rfl⟩
  rw [← hH] at hP ⊢
  have hS : va_S A s.heap H [] := by rw [hH]; exact va_S.rf
  have hS := hS
  refine lv_aload_n hx hb (dt_of tkX1_couldLeap_k0 0 rfl) rfl (lv_at hl 0 rfl) ?_
  refine lv_iload_n hx hb (dt_of tkX1_couldLeap_k0 1 rfl) rfl (lv_at hl 1 rfl) ?_
  obtain ⟨hCc, hPc, hDc, hFc⟩ := va_pick (ws' := (wd01_13 a0 jch jcD jfB jk3 jch cyI jdE)) hP hD hS hA [0, 1] (by decide +kernel) rfl
  refine va_calli (va_runV (As := [.int p1]) (rest := []) ⟨hx, hb, hml, hown, hts⟩ (ck_X1_isCaught l dC dI cyB cyI cyJ cyP a0 jch H.size (jcD) (.ref jfB) (.ref jk3) jdE  p1 hw) (cwV 1 hts gX1_couldLeap_X1_isCaught rfl rfl rfl (by decide +kernel) ⟨Nat.le_of_ble_eq_true rfl, Nat.le_of_ble_eq_true rfl⟩) ⟨cPc_blind, va_recv (q := (RX1, TX1, 4)) hK hPc (ci := 1) (q0 := 0) rfl rfl, cPc_pre hPc hK hDc hNw⟩ rfl rfl hl.1 rfl (lv_room (Nat.le_of_ble_eq_true rfl)) (dt_of tkX1_couldLeap_k0 2 rfl) ⟨Nat.le_of_ble_eq_true rfl, Nat.le_of_ble_eq_true rfl⟩) hS (fun q _ h => hFc q h) hFc (fun r1 u t H1 locs ht hvm hw hB hz1 hk1 hS => ?_)
  obtain ⟨hP1, hK1, hD1⟩ := hB
  rw [ht] at hP1
  obtain ⟨hP, hD⟩ := va_joinN (wr := (wd01_20 jfB jjJ jjK jgi jgj jgk jgz jfR jgl jgO jc5 jfS jiB jjJ cyI jlh jjK cyI jli jk3 ji1 jiI jjb ji0 jj9 ji0 cyI jlg jjb cyI jlp ji1 cyI jkK jiI cyI jkj)) (w1 := (wd01_13 a0 jch jcD jfB jk3 jch cyI jdE)) (wn := (wd01_19 a0 jch jcD jfB jk3 jch cyI jdE jfB jjJ jjK jgi jgj jgk jgz jfR jgl jgO jc5 jfS jiB jjJ cyI jlh jjK cyI jli jk3 ji1 jiI jjb ji0 jj9 ji0 cyI jlg jjb cyI jlp ji1 cyI jkK jiI cyI jkj)) hP hD [0, 1] [2, 3, 4, 5, 6, 7, 8, 9] [8, 9, 0, 1, 2, 3, 4, 5, 6, 7] hCc rfl (by decide +kernel) (by decide +kernel) (by decide +kernel) rfl hk1 hFc hP1 hD1
  generalize H1 = H at hP hS ⊢
  refine lv_if_ne (tgt := 42) hx hb (dt_of tkX1_couldLeap_k0 3 rfl) (by decide) (fun c2 => ?_) (fun c2 => ?_)
  · have hw := hw.1 c2
    refine lv_iconst (v := 0) hx hb (dt_of tkX1_couldLeap_k30 6 rfl) (by decide) ?_
    exact ((W.zret (v := 0) hx hb hr rfl (fun t ht hW => ⟨⟨0, (jlg, jlp), rfl, hw, by rw [ht]; exact hP, va_K.moved hW.alike hK, hD⟩, hS.F ht⟩) hS.2.2 (dt_of tkX1_couldLeap_k30 7 rfl)))
  · have hw := hw.2 c2
    refine lv_aload_n hx hb (dt_of tkX1_couldLeap_k0 4 rfl) rfl (lv_at hl 0 rfl) ?_
    refine lv_iload_n hx hb (dt_of tkX1_couldLeap_k0 5 rfl) rfl (lv_at hl 1 rfl) ?_
    obtain ⟨hCc, hPc, hDc, hFc⟩ := va_pick (ws' := (wd01_13 a0 jch jcD jfB jk3 jch cyI jdE)) hP hD hS hA [0, 1] (by decide +kernel) rfl
    refine va_calli (va_runV (As := [.int p1]) (rest := []) ⟨hx, hb, hml, hown, hts⟩ (ck_X1_sits l dC dI cyB cyI cyJ cyP a0 jch H.size (jcD) (.ref jfB) (.ref jk3) jdE  p1 hw) (cwV 1 hts gX1_couldLeap_X1_sits rfl rfl rfl (by decide +kernel) ⟨Nat.le_of_ble_eq_true rfl, Nat.le_of_ble_eq_true rfl⟩) ⟨cPc_blind, va_recv (q := (RX1, TX1, 4)) hK hPc (ci := 1) (q0 := 0) rfl rfl, cPc_pre hPc hK hDc hNw⟩ rfl rfl hl.1 rfl (lv_room (Nat.le_of_ble_eq_true rfl)) (dt_of tkX1_couldLeap_k0 6 rfl) ⟨Nat.le_of_ble_eq_true rfl, Nat.le_of_ble_eq_true rfl⟩) hS (fun q _ h => hFc q h) hFc (fun r3 u t H1 locs ht hvm hw hB hz1 hk1 hS => ?_)
    obtain ⟨hP1, hK1, hD1⟩ := hB
    rw [ht] at hP1
    obtain ⟨hP, hD⟩ := va_joinN (wr := (wd01_20 jfB jjJ jjK jgi jgj jgk jgz jfR jgl jgO jc5 jfS jiB jjJ cyI jlh jjK cyI jli jk3 ji1 jiI jjb ji0 jj9 ji0 cyI jlg jjb cyI jlp ji1 cyI jkK jiI cyI jkj)) (w1 := (wd01_13 a0 jch jcD jfB jk3 jch cyI jdE)) (wn := (wd01_19 a0 jch jcD jfB jk3 jch cyI jdE jfB jjJ jjK jgi jgj jgk jgz jfR jgl jgO jc5 jfS jiB jjJ cyI jlh jjK cyI jli jk3 ji1 jiI jjb ji0 jj9 ji0 cyI jlg jjb cyI jlp ji1 cyI jkK jiI cyI jkj)) hP hD [0, 1] [2, 3, 4, 5, 6, 7, 8, 9] [8, 9, 0, 1, 2, 3, 4, 5, 6, 7] hCc rfl (by decide +kernel) (by decide +kernel) (by decide +kernel) rfl hk1 hFc hP1 hD1
    generalize H1 = H at hP hS ⊢
    refine lv_iload_n hx hb (dt_of tkX1_couldLeap_k0 7 rfl) rfl (lv_at hl 2 rfl) ?_
    refine lv_icmp_eq (tgt := 42) hx hb (dt_of tkX1_couldLeap_k0 8 rfl) (by decide) (fun c4 => ?_) (fun c4 => ?_)
    · have hw := hw.1 c4
      refine lv_iconst (v := 0) hx hb (dt_of tkX1_couldLeap_k30 6 rfl) (by decide) ?_
      exact ((W.zret (v := 0) hx hb hr rfl (fun t ht hW => ⟨⟨0, (jlg, jlp), rfl, hw, by rw [ht]; exact hP, va_K.moved hW.alike hK, hD⟩, hS.F ht⟩) hS.2.2 (dt_of tkX1_couldLeap_k30 7 rfl)))
    · have hw := hw.2 c4
      refine lv_aload_n hx hb (dt_of tkX1_couldLeap_k0 9 rfl) rfl (lv_at hl 0 rfl) ?_
      refine va_get (D := (dC, dI)) (ci := 1) (v := .ref jfB) (C := RX1) (T := TX1) (N := 4) hx hb hts ui_X1_couldLeap_X1 hown hK hP 0 rfl rfl 2 (by decide) (hts _ uw_X1_couldLeap_f24) (fun _ h9 => h9) rfl (dt_of tkX1_couldLeap_k0 10 rfl) ?_
      refine lv_aload_n hx hb (dt_of tkX1_couldLeap_k0 11 rfl) rfl (lv_at hl 0 rfl) ?_
      refine lv_iload_n hx hb (dt_of tkX1_couldLeap_k0 12 rfl) rfl (lv_at hl 1 rfl) ?_
      obtain ⟨hCc, hPc, hDc, hFc⟩ := va_pick (ws' := (wd01_13 a0 jch jcD jfB jk3 jch cyI jdE)) hP hD hS hA [0, 1] (by decide +kernel) rfl
      refine va_calli (va_runV (As := [.int p1]) (rest := [.ref jfB]) ⟨hx, hb, hml, hown, hts⟩ (ck_X1_sits l dC dI cyB cyI cyJ cyP a0 jch H.size (jcD) (.ref jfB) (.ref jk3) jdE  p1 hw) (cwV 1 hts gX1_couldLeap_X1_sits rfl rfl rfl (by decide +kernel) ⟨Nat.le_of_ble_eq_true rfl, Nat.le_of_ble_eq_true rfl⟩) ⟨cPc_blind, va_recv (q := (RX1, TX1, 4)) hK hPc (ci := 1) (q0 := 0) rfl rfl, cPc_pre hPc hK hDc hNw⟩ rfl rfl hl.1 rfl (lv_room (Nat.le_of_ble_eq_true rfl)) (dt_of tkX1_couldLeap_k0 13 rfl) ⟨Nat.le_of_ble_eq_true rfl, Nat.le_of_ble_eq_true rfl⟩) hS (fun q _ h => hFc q h) hFc (fun r5 u t H1 locs ht hvm hw hB hz1 hk1 hS => ?_)
      obtain ⟨hP1, hK1, hD1⟩ := hB
      rw [ht] at hP1
      obtain ⟨hP, hD⟩ := va_joinN (wr := (wd01_20 jfB jjJ jjK jgi jgj jgk jgz jfR jgl jgO jc5 jfS jiB jjJ cyI jlh jjK cyI jli jk3 ji1 jiI jjb ji0 jj9 ji0 cyI jlg jjb cyI jlp ji1 cyI jkK jiI cyI jkj)) (w1 := (wd01_13 a0 jch jcD jfB jk3 jch cyI jdE)) (wn := (wd01_19 a0 jch jcD jfB jk3 jch cyI jdE jfB jjJ jjK jgi jgj jgk jgz jfR jgl jgO jc5 jfS jiB jjJ cyI jlh jjK cyI jli jk3 ji1 jiI jjb ji0 jj9 ji0 cyI jlg jjb cyI jlp ji1 cyI jkK jiI cyI jkj)) hP hD [0, 1] [2, 3, 4, 5, 6, 7, 8, 9] [8, 9, 0, 1, 2, 3, 4, 5, 6, 7] hCc rfl (by decide +kernel) (by decide +kernel) (by decide +kernel) rfl hk1 hFc hP1 hD1
      generalize H1 = H at hP hS ⊢
      refine lv_iload_n hx hb (dt_of tkX1_couldLeap_k0 14 rfl) rfl (lv_at hl 2 rfl) ?_
      obtain ⟨hCc, hPc, hDc, hFc⟩ := va_pick (ws' := (wd01_21 jfB jjJ jjK jgi jgj jgk jgz jfR jgl jgO jc5 jfS jiB jjJ cyI jlh jjK cyI jli)) hP hD hS hA [2, 3, 4] (by decide +kernel) rfl
      refine va_calli (va_runV (As := [.int r5, .int p2]) (rest := []) ⟨hx, hb, hml, hown, hts⟩ (ck_X2_apart l dC dI cyB cyI cyJ cyP jfB jjJ jjK H.size (jgi) (jgj) (jgk) (jgz) (jfR) (jgl) (jgO) (.int jc5) (jfS) (jiB) jlh jli  r5 p2 hw) (cwV 2 hts gX1_couldLeap_X2_apart rfl rfl rfl (by decide +kernel) ⟨Nat.le_of_ble_eq_true rfl, Nat.le_of_ble_eq_true rfl⟩) ⟨cPc_blind, va_recv (q := (RX2, TX2, 12)) hK hPc (ci := 2) (q0 := 0) rfl rfl, cPc_pre hPc hK hDc hNw⟩ rfl rfl hl.1 rfl (lv_room (Nat.le_of_ble_eq_true rfl)) (dt_of tkX1_couldLeap_k0 15 rfl) ⟨Nat.le_of_ble_eq_true rfl, Nat.le_of_ble_eq_true rfl⟩) hS (fun q _ h => hFc q h) hFc (fun r6 u t H1 locs ht hvm hw hB hz1 hk1 hS => ?_)
      obtain ⟨hP1, hK1, hD1⟩ := hB
      rw [ht] at hP1
      obtain ⟨hP, hD⟩ := va_joinN (wr := [(a0, .inr (1, [.ref jch, jcD, .ref jfB, .ref jk3])), (jch, .inl (cyI, 64, .inl jdE)), (jk3, .inr (4, [.ref ji1, .ref jiI, .ref jjb, .ref ji0, .int jj9])), (ji0, .inl (cyI, 8, .inl jlg)), (jjb, .inl (cyI, 150, .inl jlp)), (ji1, .inl (cyI, 150, .inl jkK)), (jiI, .inl (cyI, 150, .inl jkj))]) (w1 := (wd01_21 jfB jjJ jjK jgi jgj jgk jgz jfR jgl jgO jc5 jfS jiB jjJ cyI jlh jjK cyI jli)) (wn := (wd01_19 a0 jch jcD jfB jk3 jch cyI jdE jfB jjJ jjK jgi jgj jgk jgz jfR jgl jgO jc5 jfS jiB jjJ cyI jlh jjK cyI jli jk3 ji1 jiI jjb ji0 jj9 ji0 cyI jlg jjb cyI jlp ji1 cyI jkK jiI cyI jkj)) hP hD [2, 3, 4] [0, 1, 5, 6, 7, 8, 9] [0, 1, 7, 8, 9, 2, 3, 4, 5, 6] hCc rfl (by decide +kernel) (by decide +kernel) (by decide +kernel) rfl hk1 hFc hP1 hD1
      generalize H1 = H at hP hS ⊢
      refine lv_aload_n hx hb (dt_of tkX1_couldLeap_k30 0 rfl) rfl (lv_at hl 0 rfl) ?_
      refine lv_iload_n hx hb (dt_of tkX1_couldLeap_k30 1 rfl) rfl (lv_at hl 1 rfl) ?_
      obtain ⟨hCc, hPc, hDc, hFc⟩ := va_pick (ws' := (wd01_22 a0 jch jcD jfB jk3 jch cyI jdE jfB jjJ jjK jgi jgj jgk jgz jfR jgl jgO jc5 jfS jiB jk3 ji1 jiI jjb ji0 jj9 ji0 cyI jlg jjb cyI jlp ji1 cyI jkK jiI cyI jkj)) hP hD hS hA [0, 1, 2, 5, 6, 7, 8, 9] (by decide +kernel) rfl
      refine va_calli (va_runV (As := [.int p1]) (rest := [.int r6]) ⟨hx, hb, hml, hown, hts⟩ (ck_X1_reach l dC dI cyB cyI cyJ cyP a0 jch jfB jk3 ji0 jjb ji1 jiI H.size (jcD) (.ref jjJ) (.ref jjK) (jgi) (jgj) (jgk) (jgz) (jfR) (jgl) (jgO) (jfS) (jiB) jdE jc5 jj9 jkK jkj jlg jlp p1 hw) (cwV 1 hts gX1_couldLeap_X1_reach rfl rfl rfl (by decide +kernel) ⟨Nat.le_of_ble_eq_true rfl, Nat.le_of_ble_eq_true rfl⟩) ⟨cPc_blind, va_recv (q := (RX1, TX1, 4)) hK hPc (ci := 1) (q0 := 0) rfl rfl, cPc_pre hPc hK hDc hNw⟩ rfl rfl hl.1 rfl (lv_room (Nat.le_of_ble_eq_true rfl)) (dt_of tkX1_couldLeap_k30 2 rfl) ⟨Nat.le_of_ble_eq_true rfl, Nat.le_of_ble_eq_true rfl⟩) hS (fun q _ h => hFc q h) hFc (fun r9 u t H1 locs ht hvm hw hB hz1 hk1 hS => ?_)
      obtain ⟨f7, f8⟩ := u
      obtain ⟨hP1, hK1, hD1⟩ := hB
      rw [ht] at hP1
      obtain ⟨hP, hD⟩ := va_joinN (wr := [(jjJ, .inl (cyI, 8, .inl jlh)), (jjK, .inl (cyI, 8, .inl jli))]) (w1 := (wd01_22 a0 jch jcD jfB jk3 jch cyI jdE jfB jjJ jjK jgi jgj jgk jgz jfR jgl jgO jc5 jfS jiB jk3 ji1 jiI jjb ji0 jj9 ji0 cyI f7 jjb cyI f8 ji1 cyI jkK jiI cyI jkj)) (wn := (wd01_19 a0 jch jcD jfB jk3 jch cyI jdE jfB jjJ jjK jgi jgj jgk jgz jfR jgl jgO jc5 jfS jiB jjJ cyI jlh jjK cyI jli jk3 ji1 jiI jjb ji0 jj9 ji0 cyI f7 jjb cyI f8 ji1 cyI jkK jiI cyI jkj)) hP hD [0, 1, 2, 5, 6, 7, 8, 9] [3, 4] [2, 3, 4, 0, 1, 5, 6, 7, 8, 9] hCc rfl (by decide +kernel) (by decide +kernel) (by decide +kernel) rfl hk1 hFc hP1 hD1
      generalize H1 = H at hP hS ⊢
      refine lv_icmp_gt (tgt := 42) hx hb (dt_of tkX1_couldLeap_k30 3 rfl) (by decide) (fun c10 => ?_) (fun c10 => ?_)
      · have hw := hw.1 c10
        refine lv_iconst (v := 0) hx hb (dt_of tkX1_couldLeap_k30 6 rfl) (by decide) ?_
        exact ((W.zret (v := 0) hx hb hr rfl (fun t ht hW => ⟨⟨0, (f7, f8), rfl, hw, by rw [ht]; exact hP, va_K.moved hW.alike hK, hD⟩, hS.F ht⟩) hS.2.2 (dt_of tkX1_couldLeap_k30 7 rfl)))
      · have hw := hw.2 c10
        refine lv_iconst (v := 1) hx hb (dt_of tkX1_couldLeap_k30 4 rfl) (by decide) ?_
        refine lv_goto (tgt := 43) hx hb (dt_of tkX1_couldLeap_k30 5 rfl) (by decide) ?_
        exact ((W.zret (v := 1) hx hb hr rfl (fun t ht hW => ⟨⟨1, (f7, f8), rfl, hw, by rw [ht]; exact hP, va_K.moved hW.alike hK, hD⟩, hS.F ht⟩) hS.2.2 (dt_of tkX1_couldLeap_k30 7 rfl)))
theorem ui_X10_can_X10 : ∀ w ∈ u_ws RX10 TX10 19, w ∈ wsX10_can := uiM mbX10_can euX10 (by decide +kernel)
theorem uw_X10_can_f58 : (.fieldLink RX10 58 "MarchHares" "now" "LMarchHares$Days;" : Cond) ∈ wsX10_can := mbX10_can 79 (by decide +kernel)
set_option maxHeartbeats 4000000 in
set_option maxRecDepth 100000 in
theorem ck_X10_can (l : Launch) (dC : Nat → ClassId) (dI : Nat → Nat → Nat) (cyB cyI cyJ cyP : ClassId) (a0 jaR jaT jbb jbs jbt jb6 jcc jck jbW jbL sz : Nat) (jaK ja1 jcp jbc jbV ja3 jbH jbO jaq jac jbI jbl jbn jba jaa jdD jbo jbp jbk jbj jbe jbq jbi jcd jbr : Value) (jbE jbm : Int32) (jbQ jci jcj : Nat → Int32) (jdh : Int32) (jdN jdi : Nat → Int32) (jdu : Int32) (jfl jfK : Nat → Int32) (p1 p2 : Int32) {E : String → Int32 → (Nat → Int32) → (Nat → Int32) → Prop} {Q : Int32 → Int32 → (Nat → Int32) → (Nat → Int32) → Prop} (hw : wq_X10_can jbE jbm jbQ jci jcj jdh jdN jdi jdu jfl jfK p1 p2 E Q) : vx_Met l yX10_can wsX10_can ({ frames := 7, cells := 2, slots := 12, locals := 141 }) (va_Pc [.ref a0, .int p1, .int p2] (cPx l (dC, dI) (kT cyB cyI cyJ cyP) (wd01_23 a0 jaK jaR ja1 jcp jbc jbV ja3 jbH jaT jbO jaq jac jbI jbl jbn jba jaa jdu jdD jaR jbs jbt jbo jbp jbk jbj jbe jbq jbE jbm jbi jcd jaT jbb jbr jaR jb6 jbb cyI jbQ jbs cyI jci jbt cyI jcj jb6 jbW jbL jck jcc jdh jcc cyI jfl jck cyI jfK jbW cyI jdN jbL cyI jdi) sz)) (va_Qi (fun (r : Int32) (u : Int32 × (Nat → Int32) × (Nat → Int32)) => Q r u.1 u.2.1 u.2.2) (cB (dC, dI) (kT cyB cyI cyJ cyP) (va_A (wd01_23 a0 jaK jaR ja1 jcp jbc jbV ja3 jbH jaT jbO jaq jac jbI jbl jbn jba jaa jdu jdD jaR jbs jbt jbo jbp jbk jbj jbe jbq jbE jbm jbi jcd jaT jbb jbr jaR jb6 jbb cyI jbQ jbs cyI jci jbt cyI jcj jb6 jbW jbL jck jcc jdh jcc cyI jfl jck cyI jfK jbW cyI jdN jbL cyI jdi) sz) (fun u : Int32 × (Nat → Int32) × (Nat → Int32) => ((wd01_23 a0 jaK jaR ja1 jcp jbc jbV ja3 jbH jaT jbO jaq jac jbI jbl jbn jba jaa u.1 jdD jaR jbs jbt jbo jbp jbk jbj jbe jbq jbE jbm jbi jcd jaT jbb jbr jaR jb6 jbb cyI jbQ jbs cyI jci jbt cyI jcj jb6 jbW jbL jck jcc jdh jcc cyI u.2.1 jck cyI u.2.2 jbW cyI jdN jbL cyI jdi) : va_W))) (va_A (wd01_23 a0 jaK jaR ja1 jcp jbc jbV ja3 jbH jaT jbO jaq jac jbI jbl jbn jba jaa jdu jdD jaR jbs jbt jbo jbp jbk jbj jbe jbq jbE jbm jbi jcd jaT jbb jbr jaR jb6 jbb cyI jbQ jbs cyI jci jbt cyI jcj jb6 jbW jbL jck jcc jdh jcc cyI jfl jck cyI jfK jbW cyI jdN jbL cyI jdi) sz)) (vx_X (fun _ => True) (fun (en : String) (u : Int32 × (Nat → Int32) × (Nat → Int32)) (t : State) => E en u.1 u.2.1 u.2.2 ∧ cB (dC, dI) (kT cyB cyI cyJ cyP) (va_A (wd01_23 a0 jaK jaR ja1 jcp jbc jbV ja3 jbH jaT jbO jaq jac jbI jbl jbn jba jaa jdu jdD jaR jbs jbt jbo jbp jbk jbj jbe jbq jbE jbm jbi jcd jaT jbb jbr jaR jb6 jbb cyI jbQ jbs cyI jci jbt cyI jcj jb6 jbW jbL jck jcc jdh jcc cyI jfl jck cyI jfK jbW cyI jdN jbL cyI jdi) sz) (fun u : Int32 × (Nat → Int32) × (Nat → Int32) => ((wd01_23 a0 jaK jaR ja1 jcp jbc jbV ja3 jbH jaT jbO jaq jac jbI jbl jbn jba jaa u.1 jdD jaR jbs jbt jbo jbp jbk jbj jbe jbq jbE jbm jbi jcd jaT jbb jbr jaR jb6 jbb cyI jbQ jbs cyI jci jbt cyI jcj jb6 jbW jbL jck jcc jdh jcc cyI u.2.1 jck cyI u.2.2 jbW cyI jdN jbL cyI jdi) : va_W)) u t) (va_A (wd01_23 a0 jaK jaR ja1 jcp jbc jbV ja3 jbH jaT jbO jaq jac jbI jbl jbn jba jaa jdu jdD jaR jbs jbt jbo jbp jbk jbj jbe jbq jbE jbm jbi jcd jaT jbb jbr jaR jb6 jbb cyI jbQ jbs cyI jci jbt cyI jcj jb6 jbW jbL jck jcc jdh jcc cyI jfl jck cyI jfK jbW cyI jdN jbL cyI jdi) sz)) 2 12 (va_A (wd01_23 a0 jaK jaR ja1 jcp jbc jbV ja3 jbH jaT jbO jaq jac jbI jbl jbn jba jaa jdu jdD jaR jbs jbt jbo jbp jbk jbj jbe jbq jbE jbm jbi jcd jaT jbb jbr jaR jb6 jbb cyI jbQ jbs cyI jci jbt cyI jcj jb6 jbW jbL jck jcc jdh jcc cyI jfl jck cyI jfK jbW cyI jdN jbL cyI jdi) sz) := by
  refine vx_ofW (cc := cX10_can) (maxL := 3) (ret := (some .boolean)) (by decide) rfl ?_
  intro p e s m args below meth c s₁ B hml hnt hv
  obtain ⟨rfl, hsz, hP, hK, hD0, hNw, hXl, hXu, hXn, hXt⟩ := hv
  have hx := B.exec
  have hb := B.bytes
  have hr := B.returns
  have hts := atoms_spec (ws := wsX10_can) B.pre
  have hown : s.vm.findClass RX10 = some m.cls := findClass_of_methodNamed B.named
  have hlocks := B.notSynchronized
  subst hsz
  have hD := hD0.self (sz := s.heap.size)
  generalize hAe : va_A (wd01_23 a0 jaK jaR ja1 jcp jbc jbV ja3 jbH jaT jbO jaq jac jbI jbl jbn jba jaa jdu jdD jaR jbs jbt jbo jbp jbk jbj jbe jbq jbE jbm jbi jcd jaT jbb jbr jaR jb6 jbb cyI jbQ jbs cyI jci jbt cyI jcj jb6 jbW jbL jck jcc jdh jcc cyI jfl jck cyI jfK jbW cyI jdN jbL cyI jdi) s.heap.size = A at hD hXu hXn ⊢
  have hA : ∀ q : Nat, s.heap.size ≤ q → A q := fun q h => by rw [← hAe]; exact Or.inr h
  have hS : va_S A s.heap s.heap [] := va_S.rf
  have hP : va_P (dC, dI) vwCl (wd01_23 a0 jaK jaR ja1 jcp jbc jbV ja3 jbH jaT jbO jaq jac jbI jbl jbn jba jaa jdu jdD jaR jbs jbt jbo jbp jbk jbj jbe jbq jbE jbm jbi jcd jaT jbb jbr jaR jb6 jbb cyI jbQ jbs cyI jci jbt cyI jcj jb6 jbW jbL jck jcc jdh jcc cyI jfl jck cyI jfK jbW cyI jdN jbL cyI jdi) s.heap := hP
  have hl := lv_entry ([.ref a0, .int p1, .int p2]) (n := 3) (Nat.le_of_ble_eq_true rfl)
  rw [lg_entry_eq]
  generalize (lg_sl ([.ref a0, .int p1, .int p2]) ++ List.replicate (3 - (lg_sl ([.ref a0, .int p1, .int p2])).length) Slot.unset).toArray = ls at hl ⊢
  have hl : lv_has ls 3 [(0, .ref a0), (1, .int p1), (2, .int p2)] := hl
  have hY : cfY l s A := ⟨hXl, hXu, hXn, hXt⟩
  have hXs : cfX l s c A := ⟨hnt, hY⟩
  have C0 : cfx p s m _ meth c cX10_can (some .boolean) wsX10_can RX10 3 A (dC, dI) (kT cyB cyI cyJ cyP) ∧ cfX l s c A := ⟨⟨hx, hb, hr, hts, hown, hlocks, hml, hA, hK, hNw⟩, hXs⟩
  clear hAe
  obtain ⟨H, hH⟩ : ∃ H, H = s.heap := ⟨_, rfl⟩
  rw [← hH] at hP ⊢
  have hS : va_S A s.heap H [] := by rw [hH]; exact va_S.rf
  have hS := hS
  refine lv_aload_n hx hb (dt_of tkX10_can_k0 0 rfl) rfl (lv_at hl 0 rfl) ?_
  refine lv_iload_n hx hb (dt_of tkX10_can_k0 1 rfl) rfl (lv_at hl 1 rfl) ?_
  obtain ⟨hCc, hPc, hDc, hFc⟩ := va_pick (ws' := (wd01_24 a0 jaK jaR ja1 jcp jbc jbV ja3 jbH jaT jbO jaq jac jbI jbl jbn jba jaa jdu jdD jaR jbs jbt jbo jbp jbk jbj jbe jbq jbE jbm jbi jcd)) hP hD hS hA [0, 1] (by decide +kernel) rfl
  refine vx_callv (vx_runV (As := [.int p1]) (rest := []) ⟨hx, hb, hml, hown, hts⟩ (ck_X10_needHare l dC dI cyB cyI cyJ cyP a0 jaR H.size (jaK) (ja1) (jcp) (jbc) (jbV) (ja3) (jbH) (.ref jaT) (jbO) (jaq) (jac) (jbI) (jbl) (jbn) (jba) (jaa) (jdD) (.ref jbs) (.ref jbt) (jbo) (jbp) (jbk) (jbj) (jbe) (jbq) (.int jbE) (jbi) (jcd) jbm jdu p1 hw) (cwV 1 hts gX10_can_X10_needHare rfl rfl rfl (by decide +kernel) ⟨Nat.le_of_ble_eq_true rfl, Nat.le_of_ble_eq_true rfl⟩) ⟨cPx_blind, va_recv (q := (RX10, TX10, 19)) hK hPc (ci := 10) (q0 := 0) rfl rfl, cPx_pre hPc hK hDc hNw hY hS hFc⟩ rfl rfl hl.1 rfl (lv_room (Nat.le_of_ble_eq_true rfl)) (dt_of tkX10_can_k0 2 rfl) ⟨Nat.le_of_ble_eq_true rfl, Nat.le_of_ble_eq_true rfl⟩) hS (fun q _ h => hFc q h) hFc (fun q _ h => hFc q h) (fun en ce q9 u t H1 locs ht hvm hpx hB hz1 hk1 hS hc9 hv9 hcl9 => ?_) (fun u t H1 locs ht hvm hw hB hz1 hk1 hS => ?_)
  · obtain ⟨x1, rfl⟩ : ∃ z, z = u := ⟨_, rfl⟩
    obtain ⟨hw, hP1, hK1, hD1⟩ := hB
    rw [ht] at hP1
    obtain ⟨hP, hD⟩ := va_joinN (wr := (wd01_25 jaT jbb jbr jaR jb6 jbb cyI jbQ jbs cyI jci jbt cyI jcj jb6 jbW jbL jck jcc jdh jcc cyI jfl jck cyI jfK jbW cyI jdN jbL cyI jdi)) (w1 := (wd01_24 a0 jaK jaR ja1 jcp jbc jbV ja3 jbH jaT jbO jaq jac jbI jbl jbn jba jaa x1 jdD jaR jbs jbt jbo jbp jbk jbj jbe jbq jbE jbm jbi jcd)) (wn := (wd01_23 a0 jaK jaR ja1 jcp jbc jbV ja3 jbH jaT jbO jaq jac jbI jbl jbn jba jaa x1 jdD jaR jbs jbt jbo jbp jbk jbj jbe jbq jbE jbm jbi jcd jaT jbb jbr jaR jb6 jbb cyI jbQ jbs cyI jci jbt cyI jcj jb6 jbW jbL jck jcc jdh jcc cyI jfl jck cyI jfK jbW cyI jdN jbL cyI jdi)) hP hD [0, 1] [2, 3, 4, 5, 6, 7, 8, 9, 10] [9, 10, 0, 1, 2, 3, 4, 5, 6, 7, 8] hCc rfl (by decide +kernel) (by decide +kernel) (by decide +kernel) rfl hk1 hFc hP1 hD1
    generalize H1 = H at hP hS hc9 ⊢
    exact vx_out (fun x hx9 => (hXs.1 x hx9).elim) hlocks hc9 hv9 hcl9 (fun t2 ht2 hal2 => ⟨(x1, jfl, jfK), trivial, ⟨hw, by rw [ht2]; exact hP, va_K.moved hal2 hK, hD⟩, hS.F ht2⟩) hS.2.2 (Nat.le_of_ble_eq_true rfl) (Nat.le_of_ble_eq_true rfl)
  obtain ⟨x1, rfl⟩ : ∃ z, z = u := ⟨_, rfl⟩
  obtain ⟨hP1, hK1, hD1⟩ := hB
  rw [ht] at hP1
  obtain ⟨hP, hD⟩ := va_joinN (wr := (wd01_25 jaT jbb jbr jaR jb6 jbb cyI jbQ jbs cyI jci jbt cyI jcj jb6 jbW jbL jck jcc jdh jcc cyI jfl jck cyI jfK jbW cyI jdN jbL cyI jdi)) (w1 := (wd01_24 a0 jaK jaR ja1 jcp jbc jbV ja3 jbH jaT jbO jaq jac jbI jbl jbn jba jaa x1 jdD jaR jbs jbt jbo jbp jbk jbj jbe jbq jbE jbm jbi jcd)) (wn := (wd01_23 a0 jaK jaR ja1 jcp jbc jbV ja3 jbH jaT jbO jaq jac jbI jbl jbn jba jaa x1 jdD jaR jbs jbt jbo jbp jbk jbj jbe jbq jbE jbm jbi jcd jaT jbb jbr jaR jb6 jbb cyI jbQ jbs cyI jci jbt cyI jcj jb6 jbW jbL jck jcc jdh jcc cyI jfl jck cyI jfK jbW cyI jdN jbL cyI jdi)) hP hD [0, 1] [2, 3, 4, 5, 6, 7, 8, 9, 10] [9, 10, 0, 1, 2, 3, 4, 5, 6, 7, 8] hCc rfl (by decide +kernel) (by decide +kernel) (by decide +kernel) rfl hk1 hFc hP1 hD1
  generalize H1 = H at hP hS ⊢
  refine lv_aload_n hx hb (dt_of tkX10_can_k0 3 rfl) rfl (lv_at hl 0 rfl) ?_
  refine lv_iload_n hx hb (dt_of tkX10_can_k0 4 rfl) rfl (lv_at hl 2 rfl) ?_
  obtain ⟨hCc, hPc, hDc, hFc⟩ := va_pick (ws' := (wd01_24 a0 jaK jaR ja1 jcp jbc jbV ja3 jbH jaT jbO jaq jac jbI jbl jbn jba jaa x1 jdD jaR jbs jbt jbo jbp jbk jbj jbe jbq jbE jbm jbi jcd)) hP hD hS hA [0, 1] (by decide +kernel) rfl
  refine vx_callv (vx_runV (As := [.int p2]) (rest := []) ⟨hx, hb, hml, hown, hts⟩ (ck_X10_needForm l dC dI cyB cyI cyJ cyP a0 jaR H.size (jaK) (ja1) (jcp) (jbc) (jbV) (ja3) (jbH) (.ref jaT) (jbO) (jaq) (jac) (jbI) (jbl) (jbn) (jba) (jaa) (jdD) (.ref jbs) (.ref jbt) (jbo) (jbp) (jbk) (jbj) (jbe) (jbq) (.int jbm) (jbi) (jcd) jbE x1 p2 hw) (cwV 1 hts gX10_can_X10_needForm rfl rfl rfl (by decide +kernel) ⟨Nat.le_of_ble_eq_true rfl, Nat.le_of_ble_eq_true rfl⟩) ⟨cPx_blind, va_recv (q := (RX10, TX10, 19)) hK hPc (ci := 10) (q0 := 0) rfl rfl, cPx_pre hPc hK hDc hNw hY hS hFc⟩ rfl rfl hl.1 rfl (lv_room (Nat.le_of_ble_eq_true rfl)) (dt_of tkX10_can_k0 5 rfl) ⟨Nat.le_of_ble_eq_true rfl, Nat.le_of_ble_eq_true rfl⟩) hS (fun q _ h => hFc q h) hFc (fun q _ h => hFc q h) (fun en ce q9 u t H1 locs ht hvm hpx hB hz1 hk1 hS hc9 hv9 hcl9 => ?_) (fun u t H1 locs ht hvm hw hB hz1 hk1 hS => ?_)
  · obtain ⟨x2, rfl⟩ : ∃ z, z = u := ⟨_, rfl⟩
    obtain ⟨hw, hP1, hK1, hD1⟩ := hB
    rw [ht] at hP1
    obtain ⟨hP, hD⟩ := va_joinN (wr := (wd01_25 jaT jbb jbr jaR jb6 jbb cyI jbQ jbs cyI jci jbt cyI jcj jb6 jbW jbL jck jcc jdh jcc cyI jfl jck cyI jfK jbW cyI jdN jbL cyI jdi)) (w1 := (wd01_24 a0 jaK jaR ja1 jcp jbc jbV ja3 jbH jaT jbO jaq jac jbI jbl jbn jba jaa x2 jdD jaR jbs jbt jbo jbp jbk jbj jbe jbq jbE jbm jbi jcd)) (wn := (wd01_23 a0 jaK jaR ja1 jcp jbc jbV ja3 jbH jaT jbO jaq jac jbI jbl jbn jba jaa x2 jdD jaR jbs jbt jbo jbp jbk jbj jbe jbq jbE jbm jbi jcd jaT jbb jbr jaR jb6 jbb cyI jbQ jbs cyI jci jbt cyI jcj jb6 jbW jbL jck jcc jdh jcc cyI jfl jck cyI jfK jbW cyI jdN jbL cyI jdi)) hP hD [0, 1] [2, 3, 4, 5, 6, 7, 8, 9, 10] [9, 10, 0, 1, 2, 3, 4, 5, 6, 7, 8] hCc rfl (by decide +kernel) (by decide +kernel) (by decide +kernel) rfl hk1 hFc hP1 hD1
    generalize H1 = H at hP hS hc9 ⊢
    exact vx_out (fun x hx9 => (hXs.1 x hx9).elim) hlocks hc9 hv9 hcl9 (fun t2 ht2 hal2 => ⟨(x2, jfl, jfK), trivial, ⟨hw, by rw [ht2]; exact hP, va_K.moved hal2 hK, hD⟩, hS.F ht2⟩) hS.2.2 (Nat.le_of_ble_eq_true rfl) (Nat.le_of_ble_eq_true rfl)
  obtain ⟨x2, rfl⟩ : ∃ z, z = u := ⟨_, rfl⟩
  obtain ⟨hP1, hK1, hD1⟩ := hB
  rw [ht] at hP1
  obtain ⟨hP, hD⟩ := va_joinN (wr := (wd01_25 jaT jbb jbr jaR jb6 jbb cyI jbQ jbs cyI jci jbt cyI jcj jb6 jbW jbL jck jcc jdh jcc cyI jfl jck cyI jfK jbW cyI jdN jbL cyI jdi)) (w1 := (wd01_24 a0 jaK jaR ja1 jcp jbc jbV ja3 jbH jaT jbO jaq jac jbI jbl jbn jba jaa x2 jdD jaR jbs jbt jbo jbp jbk jbj jbe jbq jbE jbm jbi jcd)) (wn := (wd01_23 a0 jaK jaR ja1 jcp jbc jbV ja3 jbH jaT jbO jaq jac jbI jbl jbn jba jaa x2 jdD jaR jbs jbt jbo jbp jbk jbj jbe jbq jbE jbm jbi jcd jaT jbb jbr jaR jb6 jbb cyI jbQ jbs cyI jci jbt cyI jcj jb6 jbW jbL jck jcc jdh jcc cyI jfl jck cyI jfK jbW cyI jdN jbL cyI jdi)) hP hD [0, 1] [2, 3, 4, 5, 6, 7, 8, 9, 10] [9, 10, 0, 1, 2, 3, 4, 5, 6, 7, 8] hCc rfl (by decide +kernel) (by decide +kernel) (by decide +kernel) rfl hk1 hFc hP1 hD1
  generalize H1 = H at hP hS ⊢
  refine lv_aload_n hx hb (dt_of tkX10_can_k0 6 rfl) rfl (lv_at hl 0 rfl) ?_
  refine va_get (D := (dC, dI)) (ci := 10) (v := .ref jaT) (C := RX10) (T := TX10) (N := 19) hx hb hts ui_X10_can_X10 hown hK hP 0 rfl rfl 8 (by decide) (hts _ uw_X10_can_f58) (fun _ h9 => h9) rfl (dt_of tkX10_can_k0 7 rfl) ?_
  refine lv_iload_n hx hb (dt_of tkX10_can_k0 8 rfl) rfl (lv_at hl 1 rfl) ?_
  refine lv_iload_n hx hb (dt_of tkX10_can_k0 9 rfl) rfl (lv_at hl 2 rfl) ?_
  obtain ⟨hCc, hPc, hDc, hFc⟩ := va_pick (ws' := (wd01_26 jaT jbb jbr jaR jb6 jbb cyI jbQ jaR jbs jbt jbo jbp jbk jbj jbe jbq jbE jbm jbi jcd jbs cyI jci jbt cyI jcj jb6 jbW jbL jck jcc jdh jcc cyI jfl jck cyI jfK jbW cyI jdN jbL cyI jdi)) hP hD hS hA [2, 3, 1, 4, 5, 6, 7, 8, 9, 10] (by decide +kernel) rfl
  refine va_calli (va_runV (As := [.int p1, .int p2]) (rest := []) ⟨hx, hb, hml, hown, hts⟩ (ck_X1_couldLeap l dC dI cyB cyI cyJ cyP jaT jbb jaR jbs jbt jb6 jcc jck jbW jbL H.size (jbr) (jbo) (jbp) (jbk) (jbj) (jbe) (jbq) (.int jbE) (jbi) (jcd) jbQ jbm jci jcj jdh jdN jdi jfl jfK p1 p2 hw) (cwV 2 hts gX10_can_X1_couldLeap rfl rfl rfl (by decide +kernel) ⟨Nat.le_of_ble_eq_true rfl, Nat.le_of_ble_eq_true rfl⟩) ⟨cPc_blind, va_recv (q := (RX1, TX1, 4)) hK hPc (ci := 1) (q0 := 0) rfl rfl, cPc_pre hPc hK hDc hNw⟩ rfl rfl hl.1 rfl (lv_room (Nat.le_of_ble_eq_true rfl)) (dt_of tkX10_can_k0 10 rfl) ⟨Nat.le_of_ble_eq_true rfl, Nat.le_of_ble_eq_true rfl⟩) hS (fun q _ h => hFc q h) hFc (fun r5 u t H1 locs ht hvm hw hB hz1 hk1 hS => ?_)
  obtain ⟨f3, f4⟩ := u
  obtain ⟨hP1, hK1, hD1⟩ := hB
  rw [ht] at hP1
  obtain ⟨hP, hD⟩ := va_joinN (wr := (wd01_4 a0 jaK jaR ja1 jcp jbc jbV ja3 jbH jaT jbO jaq jac jbI jbl jbn jba jaa x2 jdD)) (w1 := (wd01_26 jaT jbb jbr jaR jb6 jbb cyI jbQ jaR jbs jbt jbo jbp jbk jbj jbe jbq jbE jbm jbi jcd jbs cyI jci jbt cyI jcj jb6 jbW jbL jck jcc jdh jcc cyI f3 jck cyI f4 jbW cyI jdN jbL cyI jdi)) (wn := (wd01_23 a0 jaK jaR ja1 jcp jbc jbV ja3 jbH jaT jbO jaq jac jbI jbl jbn jba jaa x2 jdD jaR jbs jbt jbo jbp jbk jbj jbe jbq jbE jbm jbi jcd jaT jbb jbr jaR jb6 jbb cyI jbQ jbs cyI jci jbt cyI jcj jb6 jbW jbL jck jcc jdh jcc cyI f3 jck cyI f4 jbW cyI jdN jbL cyI jdi)) hP hD [2, 3, 1, 4, 5, 6, 7, 8, 9, 10] [0] [0, 3, 1, 2, 4, 5, 6, 7, 8, 9, 10] hCc rfl (by decide +kernel) (by decide +kernel) (by decide +kernel) rfl hk1 hFc hP1 hD1
  generalize H1 = H at hP hS ⊢
  obtain ⟨hn9, hw⟩ := hw
  exact vx_ret (W.widen (k := 2) (n := 12) (Nat.le_of_ble_eq_true rfl) (Nat.le_of_ble_eq_true rfl) (W.zret (v := r5) hx hb hr hn9 (fun t ht hW => ⟨⟨r5, (x2, f3, f4), rfl, hw, by rw [ht]; exact hP, va_K.moved hW.alike hK, hD⟩, hS.F ht⟩) hS.2.2 (dt_of tkX10_can_k0 11 rfl)))
theorem uw_L_can_ct31 : (.classLink RL 31 "java/util/NoSuchElementException" : Cond) ∈ wsL_can := mbL_can 2639 (by decide +kernel)
theorem uw_L_can_cw : (.codeWith yL_can cL_can 5 (some .int) [(0, 17, 20, 31)] : Cond) ∈ wsL_can := mbL_can 2944 (by decide +kernel)
set_option maxHeartbeats 4000000 in
set_option maxRecDepth 100000 in
theorem ck_L_can (l : Launch) (dC : Nat → ClassId) (dI : Nat → Nat → Nat) (cyB cyI cyJ cyP : ClassId) (a0 a3 jaR jaT jbb jbs jbt jb6 jcc jck jbW jbL sz : Nat) (jaK ja1 jbc jbV ja3 jbH jbO jaq jac jbI jbl jbn jba jaa jdD jbo jbp jbk jbj jbe jbq jbi jcd jbr : Value) (n3 : Nat) (jbE jbm : Int32) (jbQ jci jcj : Nat → Int32) (jdh : Int32) (jdN jdi : Nat → Int32) (jdu : Int32) (jfl jfK : Nat → Int32) (f3 : Nat → Int64) (p1 p2 : Int32) {Q : Int32 → Int32 → (Nat → Int32) → (Nat → Int32) → (Nat → Int64) → Prop} (hw : wq_L_can n3 jbE jbm jbQ jci jcj jdh jdN jdi jdu jfl jfK f3 p1 p2 Q) : Met l yL_can wsL_can ({ frames := 8, cells := 2, slots := 12, locals := 163 }) (va_Pc [.ref a0, .int p1, .int p2, .ref a3] (cPx l (dC, dI) (kT cyB cyI cyJ cyP) (wd01_27 a0 jaK jaR ja1 jb6 jbc jbV ja3 jbH jaT jbO jaq jac jbI jbl jbn jba jaa jdu jdD jaR jbs jbt jbo jbp jbk jbj jbe jbq jbE jbm jbi jcd jaT jbb jbr jaR jb6 jbb cyI jbQ jbs cyI jci jbt cyI jcj jb6 jbW jbL jck jcc jdh jcc cyI jfl jck cyI jfK jbW cyI jdN jbL cyI jdi a3 cyJ n3 f3) sz)) (va_Qi (fun (r : Int32) (u : Int32 × (Nat → Int32) × (Nat → Int32) × (Nat → Int64)) => Q r u.1 u.2.1 u.2.2.1 u.2.2.2) (cB (dC, dI) (kT cyB cyI cyJ cyP) (va_A (wd01_27 a0 jaK jaR ja1 jb6 jbc jbV ja3 jbH jaT jbO jaq jac jbI jbl jbn jba jaa jdu jdD jaR jbs jbt jbo jbp jbk jbj jbe jbq jbE jbm jbi jcd jaT jbb jbr jaR jb6 jbb cyI jbQ jbs cyI jci jbt cyI jcj jb6 jbW jbL jck jcc jdh jcc cyI jfl jck cyI jfK jbW cyI jdN jbL cyI jdi a3 cyJ n3 f3) sz) (fun u : Int32 × (Nat → Int32) × (Nat → Int32) × (Nat → Int64) => ((wd01_27 a0 jaK jaR ja1 jb6 jbc jbV ja3 jbH jaT jbO jaq jac jbI jbl jbn jba jaa u.1 jdD jaR jbs jbt jbo jbp jbk jbj jbe jbq jbE jbm jbi jcd jaT jbb jbr jaR jb6 jbb cyI jbQ jbs cyI jci jbt cyI jcj jb6 jbW jbL jck jcc jdh jcc cyI u.2.1 jck cyI u.2.2.1 jbW cyI jdN jbL cyI jdi a3 cyJ n3 u.2.2.2) : va_W))) (va_A (wd01_27 a0 jaK jaR ja1 jb6 jbc jbV ja3 jbH jaT jbO jaq jac jbI jbl jbn jba jaa jdu jdD jaR jbs jbt jbo jbp jbk jbj jbe jbq jbE jbm jbi jcd jaT jbb jbr jaR jb6 jbb cyI jbQ jbs cyI jci jbt cyI jcj jb6 jbW jbL jck jcc jdh jcc cyI jfl jck cyI jfK jbW cyI jdN jbL cyI jdi a3 cyJ n3 f3) sz)) 2 12 (va_A (wd01_27 a0 jaK jaR ja1 jb6 jbc jbV ja3 jbH jaT jbO jaq jac jbI jbl jbn jba jaa jdu jdD jaR jbs jbt jbo jbp jbk jbj jbe jbq jbE jbm jbi jcd jaT jbb jbr jaR jb6 jbb cyI jbQ jbs cyI jci jbt cyI jcj jb6 jbW jbL jck jcc jdh jcc cyI jfl jck cyI jfK jbW cyI jdN jbL cyI jdi a3 cyJ n3 f3) sz) := by
  refine va_MetW (cc := cL_can) (maxL := 5) (ret := (some .int)) (by decide) rfl ?_
  intro p e s m args below meth c s₁ B hml hv
  obtain ⟨rfl, hsz, hP, hK, hD0, hNw, hXl, hXu, hXn, hXt⟩ := hv
  have hx := B.exec
  have hb := B.bytes
  have hr := B.returns
  have hts := atoms_spec (ws := wsL_can) B.pre
  have hown : s.vm.findClass RL = some m.cls := findClass_of_methodNamed B.named
  have hlocks := B.notSynchronized
  subst hsz
  have hD := hD0.self (sz := s.heap.size)
  generalize hAe : va_A (wd01_27 a0 jaK jaR ja1 jb6 jbc jbV ja3 jbH jaT jbO jaq jac jbI jbl jbn jba jaa jdu jdD jaR jbs jbt jbo jbp jbk jbj jbe jbq jbE jbm jbi jcd jaT jbb jbr jaR jb6 jbb cyI jbQ jbs cyI jci jbt cyI jcj jb6 jbW jbL jck jcc jdh jcc cyI jfl jck cyI jfK jbW cyI jdN jbL cyI jdi a3 cyJ n3 f3) s.heap.size = A at hD hXu hXn ⊢
  have hA : ∀ q : Nat, s.heap.size ≤ q → A q := fun q h => by rw [← hAe]; exact Or.inr h
  have hS : va_S A s.heap s.heap [] := va_S.rf
  have hP : va_P (dC, dI) vwCl (wd01_27 a0 jaK jaR ja1 jb6 jbc jbV ja3 jbH jaT jbO jaq jac jbI jbl jbn jba jaa jdu jdD jaR jbs jbt jbo jbp jbk jbj jbe jbq jbE jbm jbi jcd jaT jbb jbr jaR jb6 jbb cyI jbQ jbs cyI jci jbt cyI jcj jb6 jbW jbL jck jcc jdh jcc cyI jfl jck cyI jfK jbW cyI jdN jbL cyI jdi a3 cyJ n3 f3) s.heap := hP
  have hl := lv_entry ([.ref a0, .int p1, .int p2, .ref a3]) (n := 5) (Nat.le_of_ble_eq_true rfl)
  rw [lg_entry_eq]
  generalize (lg_sl ([.ref a0, .int p1, .int p2, .ref a3]) ++ List.replicate (5 - (lg_sl ([.ref a0, .int p1, .int p2, .ref a3])).length) Slot.unset).toArray = ls at hl ⊢
  have hl : lv_has ls 5 [(0, .ref a0), (1, .int p1), (2, .int p2), (3, .ref a3)] := hl
  have hY : cfY l s A := ⟨hXl, hXu, hXn, hXt⟩
  have hTb := vx_table (x := yL_can) B (hts _ uw_L_can_cw)
  clear hAe
  obtain ⟨H, hH⟩ : ∃ H, H = s.heap := ⟨_, rfl⟩
  rw [← hH] at hP ⊢
  have hS : va_S A s.heap H [] := by rw [hH]; exact va_S.rf
  have hS := hS
  refine lv_aload_n hx hb (dt_of tkL_can_k0 0 rfl) rfl (lv_at hl 3 rfl) ?_
  refine lv_iconst (v := 0) hx hb (dt_of tkL_can_k0 1 rfl) (by decide) ?_
  refine lv_aload_n hx hb (dt_of tkL_can_k0 2 rfl) rfl (lv_at hl 0 rfl) ?_
  refine lv_iload_n hx hb (dt_of tkL_can_k0 3 rfl) rfl (lv_at hl 1 rfl) ?_
  refine lv_iload_n hx hb (dt_of tkL_can_k0 4 rfl) rfl (lv_at hl 2 rfl) ?_
  obtain ⟨hCc, hPc, hDc, hFc⟩ := va_pick (ws' := (wd01_28 a0 jaK jaR ja1 jb6 jbc jbV ja3 jbH jaT jbO jaq jac jbI jbl jbn jba jaa jdu jdD jaR jbs jbt jbo jbp jbk jbj jbe jbq jbE jbm jbi jcd jaT jbb jbr jaR jb6 jbb cyI jbQ jbs cyI jci jbt cyI jcj jb6 jbW jbL jck jcc jdh jcc cyI jfl jck cyI jfK jbW cyI jdN jbL cyI jdi)) hP hD hS hA [0, 1, 2, 3, 4, 5, 6, 7, 8, 9, 10] (by decide +kernel) rfl
  refine vx_calli (vx_runV (As := [.int p1, .int p2]) (rest := [.int 0, .ref a3]) ⟨hx, hb, hml, hown, hts⟩ (ck_X10_can l dC dI cyB cyI cyJ cyP a0 jaR jaT jbb jbs jbt jb6 jcc jck jbW jbL H.size (jaK) (ja1) (.ref jb6) (jbc) (jbV) (ja3) (jbH) (jbO) (jaq) (jac) (jbI) (jbl) (jbn) (jba) (jaa) (jdD) (jbo) (jbp) (jbk) (jbj) (jbe) (jbq) (jbi) (jcd) (jbr) jbE jbm jbQ jci jcj jdh jdN jdi jdu jfl jfK p1 p2 hw) (cwV 2 hts gL_can_X10_can rfl rfl rfl (by decide +kernel) ⟨Nat.le_of_ble_eq_true rfl, Nat.le_of_ble_eq_true rfl⟩) ⟨cPx_blind, va_recv (q := (RX10, TX10, 19)) hK hPc (ci := 10) (q0 := 0) rfl rfl, cPx_pre hPc hK hDc hNw hY hS hFc⟩ rfl rfl hl.1 rfl (lv_room (Nat.le_of_ble_eq_true rfl)) (dt_of tkL_can_k0 5 rfl) ⟨Nat.le_of_ble_eq_true rfl, Nat.le_of_ble_eq_true rfl⟩) hS (fun q _ h => hFc q h) hFc (fun q _ h => hFc q h) (fun en ce qx9 u t H1 locs ht hvm hpx hB hz1 hk1 hS hc9 hv9 hcl9 => ?_) (fun r5 u t H1 locs ht hvm hw hB hz1 hk1 hS => ?_)
  · obtain ⟨x1, f2, f4⟩ := u
    obtain ⟨hw, hP1, hK1, hD1⟩ := hB
    rw [ht] at hP1
    obtain ⟨hP, hD⟩ := va_joinN (wr := [(a3, .inl (cyJ, n3, .inr (.inl f3)))]) (w1 := (wd01_28 a0 jaK jaR ja1 jb6 jbc jbV ja3 jbH jaT jbO jaq jac jbI jbl jbn jba jaa x1 jdD jaR jbs jbt jbo jbp jbk jbj jbe jbq jbE jbm jbi jcd jaT jbb jbr jaR jb6 jbb cyI jbQ jbs cyI jci jbt cyI jcj jb6 jbW jbL jck jcc jdh jcc cyI f2 jck cyI f4 jbW cyI jdN jbL cyI jdi)) (wn := (wd01_27 a0 jaK jaR ja1 jb6 jbc jbV ja3 jbH jaT jbO jaq jac jbI jbl jbn jba jaa x1 jdD jaR jbs jbt jbo jbp jbk jbj jbe jbq jbE jbm jbi jcd jaT jbb jbr jaR jb6 jbb cyI jbQ jbs cyI jci jbt cyI jcj jb6 jbW jbL jck jcc jdh jcc cyI f2 jck cyI f4 jbW cyI jdN jbL cyI jdi a3 cyJ n3 f3)) hP hD [0, 1, 2, 3, 4, 5, 6, 7, 8, 9, 10] [11] [1, 2, 3, 4, 5, 6, 7, 8, 9, 10, 11, 0] hCc rfl (by decide +kernel) (by decide +kernel) (by decide +kernel) rfl hk1 hFc hP1 hD1
    generalize H1 = H at hP hS hc9 ⊢
    obtain ⟨rfl, hw⟩ := hw
    refine vx_catch (own := RL) (name := "java/util/NoSuchElementException") hown [] ⟨0, 17, 20, 31⟩ [] (hTb.trans rfl) (fun z hz => nomatch hz) (by decide) (by decide) (hts _ uw_L_can_ct31) (va_Nw.use rfl (hY.2.2.2.1.2 _ (List.mem_of_getElem? (i := 1) rfl))) hc9 hv9 hcl9 ?_
    refine lv_astore (lv' := [(4, .ref qx9), (0, .ref a0), (1, .int p1), (2, .int p2), (3, .ref a3)]) hx hb (dt_of tkL_can_k0 12 rfl) hl (by decide) rfl (fun ls hl => ?_)
    refine lv_iconst (v := 1) hx hb (dt_of tkL_can_k0 13 rfl) (by decide) ?_
    exact (W.widen (k := 2) (n := 12) (Nat.le_of_ble_eq_true rfl) (Nat.le_of_ble_eq_true rfl) (W.iret (v := 1) hx hb hr (fun t ht hW => ⟨⟨1, (x1, f2, f4, f3), rfl, hw, by rw [ht]; exact hP, va_K.moved hW.alike hK, hD⟩, hS.F ht⟩) hS.2.2 (dt_of tkL_can_k0 14 rfl)))
  obtain ⟨x1, f2, f4⟩ := u
  obtain ⟨hP1, hK1, hD1⟩ := hB
  rw [ht] at hP1
  obtain ⟨hP, hD⟩ := va_join (wr := [(a3, .inl (cyJ, n3, .inr (.inl f3)))]) (w1 := (wd01_28 a0 jaK jaR ja1 jb6 jbc jbV ja3 jbH jaT jbO jaq jac jbI jbl jbn jba jaa x1 jdD jaR jbs jbt jbo jbp jbk jbj jbe jbq jbE jbm jbi jcd jaT jbb jbr jaR jb6 jbb cyI jbQ jbs cyI jci jbt cyI jcj jb6 jbW jbL jck jcc jdh jcc cyI f2 jck cyI f4 jbW cyI jdN jbL cyI jdi)) hP hD [0, 1, 2, 3, 4, 5, 6, 7, 8, 9, 10] [11] rfl rfl (by decide) (by decide) hk1 hFc hP1 hD1
  have hP : va_P (dC, dI) vwCl (wd01_27 a0 jaK jaR ja1 jb6 jbc jbV ja3 jbH jaT jbO jaq jac jbI jbl jbn jba jaa x1 jdD jaR jbs jbt jbo jbp jbk jbj jbe jbq jbE jbm jbi jcd jaT jbb jbr jaR jb6 jbb cyI jbQ jbs cyI jci jbt cyI jcj jb6 jbW jbL jck jcc jdh jcc cyI f2 jck cyI f4 jbW cyI jdN jbL cyI jdi a3 cyJ n3 f3) H1 := hP.sub [1, 2, 3, 4, 5, 6, 7, 8, 9, 10, 11, 0] rfl
  have hD : va_D A (wd01_27 a0 jaK jaR ja1 jb6 jbc jbV ja3 jbH jaT jbO jaq jac jbI jbl jbn jba jaa x1 jdD jaR jbs jbt jbo jbp jbk jbj jbe jbq jbE jbm jbi jcd jaT jbb jbr jaR jb6 jbb cyI jbQ jbs cyI jci jbt cyI jcj jb6 jbW jbL jck jcc jdh jcc cyI f2 jck cyI f4 jbW cyI jdN jbL cyI jdi a3 cyJ n3 f3) := hD.sub [1, 2, 3, 4, 5, 6, 7, 8, 9, 10, 11, 0] (by decide) rfl
  generalize H1 = H at hP hS ⊢
  refine lv_if_eq (tgt := 15) hx hb (dt_of tkL_can_k0 6 rfl) (by decide) (fun c6 => ?_) (fun c6 => ?_)
  · have hw := hw.1 c6
    refine lv_lconst (v := 0) hx hb (dt_of tkL_can_k0 9 rfl) (by decide) ?_
    obtain ⟨hi9, hw⟩ := hw
    refine va_last hx hb hK hP hD hS 11 2 rfl rfl hi9 (dt_of tkL_can_k0 10 rfl) (fun H locs hP hD hS => ?_)
    obtain ⟨f7, ef7⟩ : ∃ y : Nat → Int64, y = vp_updL f3 (0 : Int32).toNatClampNeg 0 := ⟨_, rfl⟩
    have hw := hw f7 ef7
    have hP : va_P (dC, dI) vwCl (wd01_27 a0 jaK jaR ja1 jb6 jbc jbV ja3 jbH jaT jbO jaq jac jbI jbl jbn jba jaa x1 jdD jaR jbs jbt jbo jbp jbk jbj jbe jbq jbE jbm jbi jcd jaT jbb jbr jaR jb6 jbb cyI jbQ jbs cyI jci jbt cyI jcj jb6 jbW jbL jck jcc jdh jcc cyI f2 jck cyI f4 jbW cyI jdN jbL cyI jdi a3 cyJ n3 f7) H := by rw [ef7]; exact hP
    have hD : va_D A (wd01_27 a0 jaK jaR ja1 jb6 jbc jbV ja3 jbH jaT jbO jaq jac jbI jbl jbn jba jaa x1 jdD jaR jbs jbt jbo jbp jbk jbj jbe jbq jbE jbm jbi jcd jaT jbb jbr jaR jb6 jbb cyI jbQ jbs cyI jci jbt cyI jcj jb6 jbW jbL jck jcc jdh jcc cyI f2 jck cyI f4 jbW cyI jdN jbL cyI jdi a3 cyJ n3 f7) := by rw [ef7]; exact hD
    refine lv_goto (tgt := 24) hx hb (dt_of tkL_can_k0 11 rfl) (by decide) ?_
    refine lv_iconst (v := 0) hx hb (dt_of tkL_can_k0 15 rfl) (by decide) ?_
    exact (W.widen (k := 2) (n := 12) (Nat.le_of_ble_eq_true rfl) (Nat.le_of_ble_eq_true rfl) (W.iret (v := 0) hx hb hr (fun t ht hW => ⟨⟨0, (x1, f2, f4, f7), rfl, hw, by rw [ht]; exact hP, va_K.moved hW.alike hK, hD⟩, hS.F ht⟩) hS.2.2 (dt_of tkL_can_k25 0 rfl)))
  · have hw := hw.2 c6
    refine lv_lconst (v := 1) hx hb (dt_of tkL_can_k0 7 rfl) (by decide) ?_
    refine lv_goto (tgt := 16) hx hb (dt_of tkL_can_k0 8 rfl) (by decide) ?_
    obtain ⟨hi9, hw⟩ := hw
    refine va_last hx hb hK hP hD hS 11 2 rfl rfl hi9 (dt_of tkL_can_k0 10 rfl) (fun H locs hP hD hS => ?_)
    obtain ⟨f8, ef8⟩ : ∃ y : Nat → Int64, y = vp_updL f3 (0 : Int32).toNatClampNeg 1 := ⟨_, rfl⟩
    have hw := hw f8 ef8
    have hP : va_P (dC, dI) vwCl (wd01_27 a0 jaK jaR ja1 jb6 jbc jbV ja3 jbH jaT jbO jaq jac jbI jbl jbn jba jaa x1 jdD jaR jbs jbt jbo jbp jbk jbj jbe jbq jbE jbm jbi jcd jaT jbb jbr jaR jb6 jbb cyI jbQ jbs cyI jci jbt cyI jcj jb6 jbW jbL jck jcc jdh jcc cyI f2 jck cyI f4 jbW cyI jdN jbL cyI jdi a3 cyJ n3 f8) H := by rw [ef8]; exact hP
    have hD : va_D A (wd01_27 a0 jaK jaR ja1 jb6 jbc jbV ja3 jbH jaT jbO jaq jac jbI jbl jbn jba jaa x1 jdD jaR jbs jbt jbo jbp jbk jbj jbe jbq jbE jbm jbi jcd jaT jbb jbr jaR jb6 jbb cyI jbQ jbs cyI jci jbt cyI jcj jb6 jbW jbL jck jcc jdh jcc cyI f2 jck cyI f4 jbW cyI jdN jbL cyI jdi a3 cyJ n3 f8) := by rw [ef8]; exact hD
    refine lv_goto (tgt := 24) hx hb (dt_of tkL_can_k0 11 rfl) (by decide) ?_
    refine lv_iconst (v := 0) hx hb (dt_of tkL_can_k0 15 rfl) (by decide) ?_
    exact (W.widen (k := 2) (n := 12) (Nat.le_of_ble_eq_true rfl) (Nat.le_of_ble_eq_true rfl) (W.iret (v := 0) hx hb hr (fun t ht hW => ⟨⟨0, (x1, f2, f4, f8), rfl, hw, by rw [ht]; exact hP, va_K.moved hW.alike hK, hD⟩, hS.F ht⟩) hS.2.2 (dt_of tkL_can_k25 0 rfl)))
theorem ui_X1_givenBy_X1 : ∀ w ∈ u_ws RX1 TX1 4, w ∈ wsX1_givenBy := uiM mbX1_givenBy euX1 (by decide +kernel)
theorem ui_X1_givenBy_X2 : ∀ w ∈ u_ws RX2 TX2 12, w ∈ wsX1_givenBy := uiM mbX1_givenBy euX2 (by decide +kernel)
theorem uw_X1_givenBy_f17 : (.fieldLink RX1 17 "MarchHares$Days" "owedEach" "[I" : Cond) ∈ wsX1_givenBy := mbX1_givenBy 277 (by decide +kernel)
theorem uw_X1_givenBy_f24 : (.fieldLink RX1 24 "MarchHares$Days" "down" "LMarchHares$Down;" : Cond) ∈ wsX1_givenBy := mbX1_givenBy 322 (by decide +kernel)
theorem uw_X1_givenBy_f32 : (.fieldLink RX1 32 "MarchHares$Down" "hares" "I" : Cond) ∈ wsX1_givenBy := mbX1_givenBy 324 (by decide +kernel)
theorem uw_X1_givenBy_inim : (.initialized "java/lang/Math" : Cond) ∈ wsX1_givenBy := mbX1_givenBy 651 (by decide +kernel)
theorem uw_X1_givenBy_m171 : (.methodLink RX1 171 Lib.Math.min.name : Cond) ∈ wsX1_givenBy := mbX1_givenBy 3848 (by decide +kernel)
theorem uw_X1_givenBy_mcmin : (.code Lib.Math.min.name Lib.Math.min.code 2 (some .int) : Cond) ∈ wsX1_givenBy := mbX1_givenBy 652 (by decide +kernel)
theorem uw_X1_givenBy_msmin : (.static Lib.Math.min.name : Cond) ∈ wsX1_givenBy := mbX1_givenBy 650 (by decide +kernel)
set_option maxHeartbeats 4000000 in
set_option maxRecDepth 100000 in
theorem kl_X1_givenBy_4 {p : Program} {l : Launch} {e : Env} {s : State} {m : MethodId} {args : Array Value} {below : List Frame} {meth : Method} {c : Code} {A : Nat → Prop} (dC : Nat → ClassId) (dI : Nat → Nat → Nat) (cyB cyI cyJ cyP : ClassId) (a0 jfB jlN : Nat) (jmX jhx jhp jhq jgi jgj jgk jgz jfR jgl jgO jfS jiB : Value) (jc5 : Int32) (jmp : Nat → Int32) (Q : Int32 → Prop)  (C0 : cfx p s m args meth c cX1_givenBy (some .int) wsX1_givenBy RX1 4 A (dC, dI) (kT cyB cyI cyJ cyP)) : ∀ (n : Nat) (H : Heap) (locs : List Loc) (ls : Array Slot) (l1 l2 l3 : Int32), va_P (dC, dI) vwCl (wd01_29 a0 jmX jlN jfB jhx jfB jhp jhq jgi jgj jgk jgz jfR jgl jgO jc5 jfS jiB jlN cyI jmp) H → va_D A (wd01_29 a0 jmX jlN jfB jhx jfB jhp jhq jgi jgj jgk jgz jfR jgl jgO jc5 jfS jiB jlN cyI jmp) → va_S A s.heap H locs → lv_has ls 4 [(0, .ref a0), (1, .int l1), (2, .int l2), (3, .int l3)] → wl_X1_givenBy_4 jc5 jmp Q  n l1 l2 l3 → W p l e (headSpec wsX1_givenBy ({ frames := 1, cells := 0, slots := 0, locals := 32 })).room s m args below meth c H locs 0 0 (MQ below (va_Qi (fun (r : Int32) (_ : Unit) => Q r ) (cB (dC, dI) (kT cyB cyI cyJ cyP) A (fun u : Unit => ((wd01_29 a0 jmX jlN jfB jhx jfB jhp jhq jgi jgj jgk jgz jfR jgl jgO jc5 jfS jiB jlN cyI jmp) : va_W))) A) args s 0 0 A) (F0 m 4 ls []) := by
  obtain ⟨hx, hb, hr, hts, hown, hlocks, hml, hA, hK, hNw⟩ := id C0
  intro n
  induction n with
  | zero => intro H locs ls l1 l2 l3 hP hD hS hl hw; exact False.elim hw
  | succ n ih =>
    intro H locs ls l1 l2 l3 hP hD hS hl hw
    refine lv_iload_n hx hb (dt_of tkX1_givenBy_k0 4 rfl) rfl (lv_at hl 3 rfl) ?_
    refine lv_aload_n hx hb (dt_of tkX1_givenBy_k0 5 rfl) rfl (lv_at hl 0 rfl) ?_
    refine va_get (D := (dC, dI)) (ci := 1) (v := .ref jfB) (C := RX1) (T := TX1) (N := 4) hx hb hts ui_X1_givenBy_X1 hown hK hP 0 rfl rfl 2 (by decide) (hts _ uw_X1_givenBy_f24) (fun _ h9 => h9) rfl (dt_of tkX1_givenBy_k0 6 rfl) ?_
    refine va_get (D := (dC, dI)) (ci := 2) (v := .int jc5) (C := RX2) (T := TX2) (N := 12) hx hb hts ui_X1_givenBy_X2 hown hK hP 1 rfl rfl 9 (by decide) (hts _ uw_X1_givenBy_f32) (fun _ h9 => h9) rfl (dt_of tkX1_givenBy_k0 7 rfl) ?_
    refine lv_icmp_ge (tgt := 34) hx hb (dt_of tkX1_givenBy_k0 8 rfl) (by decide) (fun c1 => ?_) (fun c1 => ?_)
    · have hw := hw.1 c1
      refine lv_iload_n hx hb (dt_of tkX1_givenBy_k26 4 rfl) rfl (lv_at hl 2 rfl) ?_
      exact ((W.iret (v := l2) hx hb hr (fun t ht hW => ⟨⟨l2, (), rfl, hw, by rw [ht]; exact hP, va_K.moved hW.alike hK, hD⟩, hS.F ht⟩) hS.2.2 (dt_of tkX1_givenBy_k26 5 rfl)))
    · have hw := hw.2 c1
      refine lv_iload_n hx hb (dt_of tkX1_givenBy_k0 9 rfl) rfl (lv_at hl 2 rfl) ?_
      refine lv_iload_n hx hb (dt_of tkX1_givenBy_k0 10 rfl) rfl (lv_at hl 1 rfl) ?_
      refine lv_aload_n hx hb (dt_of tkX1_givenBy_k0 11 rfl) rfl (lv_at hl 0 rfl) ?_
      refine va_get (D := (dC, dI)) (ci := 1) (v := .ref jlN) (C := RX1) (T := TX1) (N := 4) hx hb hts ui_X1_givenBy_X1 hown hK hP 0 rfl rfl 1 (by decide) (hts _ uw_X1_givenBy_f17) (fun _ h9 => h9) rfl (dt_of tkX1_givenBy_k0 12 rfl) ?_
      refine lv_iload_n hx hb (dt_of tkX1_givenBy_k0 13 rfl) rfl (lv_at hl 3 rfl) ?_
      obtain ⟨hi9, hw⟩ := hw
      refine va_iald hx hb hK hP 2 1 rfl rfl hi9 (dt_of tkX1_givenBy_k0 14 rfl) ?_
      refine lv_topi (fun x2 ex2 => ?_)
      have hw := hw x2 ex2
      refine va_mmin hx hb (by rw [hml]; exact hl.1.symm) hown (hts _ uw_X1_givenBy_m171) (hts _ uw_X1_givenBy_msmin) (hts _ uw_X1_givenBy_inim) (hts _ uw_X1_givenBy_mcmin) (Nat.le_of_ble_eq_true rfl) (Nat.le_of_ble_eq_true rfl) (Nat.le_of_ble_eq_true rfl) (Nat.le_of_ble_eq_true rfl) (dt_of tkX1_givenBy_k0 15 rfl) ?_
      refine lv_topi (fun x3 ex3 => ?_)
      have hw := hw x3 ex3
      refine lv_iadd hx hb (dt_of tkX1_givenBy_k26 0 rfl) ?_
      refine lv_topi (fun x4 ex4 => ?_)
      have hw := hw x4 ex4
      refine lv_istore_n (lv' := [(2, .int x4), (0, .ref a0), (1, .int l1), (3, .int l3)]) hx hb (dt_of tkX1_givenBy_k26 1 rfl) rfl hl (by decide) rfl (fun ls hl => ?_)
      obtain ⟨x5, ex5⟩ : ∃ y : Int32, y = l3 + 1 := ⟨_, rfl⟩
      have hw := hw x5 ex5
      refine lv_iinc (v := x5) (lv' := [(3, .int x5), (2, .int x4), (0, .ref a0), (1, .int l1)]) hx hb (dt_of tkX1_givenBy_k26 2 rfl) hl (k := 3) rfl (by rw [ex5]; rfl) (by decide) rfl (fun ls hl => ?_)
      refine lv_goto (tgt := 4) hx hb (dt_of tkX1_givenBy_k26 3 rfl) (by decide) ?_
      exact ih _ _ _ l1 x4 x5 hP hD hS (lv_sub hl [2, 3, 1, 0] rfl) hw
set_option maxHeartbeats 4000000 in
set_option maxRecDepth 100000 in
theorem ck_X1_givenBy (l : Launch) (dC : Nat → ClassId) (dI : Nat → Nat → Nat) (cyB cyI cyJ cyP : ClassId) (a0 jfB jlN sz : Nat) (jmX jhx jhp jhq jgi jgj jgk jgz jfR jgl jgO jfS jiB : Value) (jc5 : Int32) (jmp : Nat → Int32)  (p1 : Int32) {Q : Int32 → Prop} (hw : wq_X1_givenBy jc5 jmp  p1 Q) : Met l yX1_givenBy wsX1_givenBy ({ frames := 1, cells := 0, slots := 0, locals := 32 }) (va_Pc [.ref a0, .int p1] (cPc (dC, dI) (kT cyB cyI cyJ cyP) (wd01_29 a0 jmX jlN jfB jhx jfB jhp jhq jgi jgj jgk jgz jfR jgl jgO jc5 jfS jiB jlN cyI jmp) sz)) (va_Qi (fun (r : Int32) (_ : Unit) => Q r ) (cB (dC, dI) (kT cyB cyI cyJ cyP) (va_A (wd01_29 a0 jmX jlN jfB jhx jfB jhp jhq jgi jgj jgk jgz jfR jgl jgO jc5 jfS jiB jlN cyI jmp) sz) (fun u : Unit => ((wd01_29 a0 jmX jlN jfB jhx jfB jhp jhq jgi jgj jgk jgz jfR jgl jgO jc5 jfS jiB jlN cyI jmp) : va_W))) (va_A (wd01_29 a0 jmX jlN jfB jhx jfB jhp jhq jgi jgj jgk jgz jfR jgl jgO jc5 jfS jiB jlN cyI jmp) sz)) 0 0 (va_A (wd01_29 a0 jmX jlN jfB jhx jfB jhp jhq jgi jgj jgk jgz jfR jgl jgO jc5 jfS jiB jlN cyI jmp) sz) := by
  refine Met.ofW (cc := cX1_givenBy) (maxL := 4) (ret := (some .int)) (by decide) rfl ?_
  intro p e s m args below meth c s₁ B hml hv
  obtain ⟨rfl, hsz, hP, hK, hD0, hNw⟩ := hv
  have hx := B.exec
  have hb := B.bytes
  have hr := B.returns
  have hts := atoms_spec (ws := wsX1_givenBy) B.pre
  have hown : s.vm.findClass RX1 = some m.cls := findClass_of_methodNamed B.named
  have hlocks := B.notSynchronized
  subst hsz
  have hD := hD0.self (sz := s.heap.size)
  generalize hAe : va_A (wd01_29 a0 jmX jlN jfB jhx jfB jhp jhq jgi jgj jgk jgz jfR jgl jgO jc5 jfS jiB jlN cyI jmp) s.heap.size = A at hD ⊢
  have hA : ∀ q : Nat, s.heap.size ≤ q → A q := fun q h => by rw [← hAe]; exact Or.inr h
  have hS : va_S A s.heap s.heap [] := va_S.rf
  have hP : va_P (dC, dI) vwCl (wd01_29 a0 jmX jlN jfB jhx jfB jhp jhq jgi jgj jgk jgz jfR jgl jgO jc5 jfS jiB jlN cyI jmp) s.heap := hP
  have hl := lv_entry ([.ref a0, .int p1]) (n := 4) (Nat.le_of_ble_eq_true rfl)
  rw [lg_entry_eq]
  generalize (lg_sl ([.ref a0, .int p1]) ++ List.replicate (4 - (lg_sl ([.ref a0, .int p1])).length) Slot.unset).toArray = ls at hl ⊢
  have hl : lv_has ls 4 [(0, .ref a0), (1, .int p1)] := hl
  have C0 : cfx p s m _ meth c cX1_givenBy (some .int) wsX1_givenBy RX1 4 A (dC, dI) (kT cyB cyI cyJ cyP) := ⟨hx, hb, hr, hts, hown, hlocks, hml, hA, hK, hNw⟩
  clear hAe
  obtain ⟨H, hH⟩ : ∃ H, H = s.heap := ⟨_, rfl⟩
  rw [← hH] at hP ⊢
  have hS : va_S A s.heap H [] := by rw [hH]; exact va_S.rf
  have hS := hS
  refine lv_iconst (v := 0) hx hb (dt_of tkX1_givenBy_k0 0 rfl) (by decide) ?_
  refine lv_istore_n (lv' := [(2, .int 0), (0, .ref a0), (1, .int p1)]) hx hb (dt_of tkX1_givenBy_k0 1 rfl) rfl hl (by decide) rfl (fun ls hl => ?_)
  refine lv_iconst (v := 0) hx hb (dt_of tkX1_givenBy_k0 2 rfl) (by decide) ?_
  refine lv_istore_n (lv' := [(3, .int 0), (2, .int 0), (0, .ref a0), (1, .int p1)]) hx hb (dt_of tkX1_givenBy_k0 3 rfl) rfl hl (by decide) rfl (fun ls hl => ?_)
  obtain ⟨n9, hw⟩ := hw
  exact kl_X1_givenBy_4 dC dI cyB cyI cyJ cyP a0 jfB jlN jmX jhx jhp jhq jgi jgj jgk jgz jfR jgl jgO jfS jiB jc5 jmp Q  C0 n9 _ _ _ p1 0 0 hP hD hS (lv_sub hl [2, 3, 1, 0] rfl) hw
theorem ui_X1_cloverFor_X1 : ∀ w ∈ u_ws RX1 TX1 4, w ∈ wsX1_cloverFor := uiM mbX1_cloverFor euX1 (by decide +kernel)
theorem ui_X1_cloverFor_X2 : ∀ w ∈ u_ws RX2 TX2 12, w ∈ wsX1_cloverFor := uiM mbX1_cloverFor euX2 (by decide +kernel)
theorem uw_X1_cloverFor_f17 : (.fieldLink RX1 17 "MarchHares$Days" "owedEach" "[I" : Cond) ∈ wsX1_cloverFor := mbX1_cloverFor 277 (by decide +kernel)
theorem uw_X1_cloverFor_f24 : (.fieldLink RX1 24 "MarchHares$Days" "down" "LMarchHares$Down;" : Cond) ∈ wsX1_cloverFor := mbX1_cloverFor 322 (by decide +kernel)
theorem uw_X1_cloverFor_f32 : (.fieldLink RX1 32 "MarchHares$Down" "hares" "I" : Cond) ∈ wsX1_cloverFor := mbX1_cloverFor 324 (by decide +kernel)
theorem uw_X1_cloverFor_iniRX10 : (.initialized RX10 : Cond) ∈ wsX1_cloverFor := mbX1_cloverFor 2 (by decide +kernel)
theorem uw_X1_cloverFor_inim : (.initialized "java/lang/Math" : Cond) ∈ wsX1_cloverFor := mbX1_cloverFor 651 (by decide +kernel)
theorem uw_X1_cloverFor_m171 : (.methodLink RX1 171 Lib.Math.min.name : Cond) ∈ wsX1_cloverFor := mbX1_cloverFor 3848 (by decide +kernel)
theorem uw_X1_cloverFor_mcmin : (.code Lib.Math.min.name Lib.Math.min.code 2 (some .int) : Cond) ∈ wsX1_cloverFor := mbX1_cloverFor 652 (by decide +kernel)
theorem uw_X1_cloverFor_msmin : (.static Lib.Math.min.name : Cond) ∈ wsX1_cloverFor := mbX1_cloverFor 650 (by decide +kernel)
theorem uw_X1_cloverFor_stX10_holds : (.static yX10_holds : Cond) ∈ wsX1_cloverFor := mbX1_cloverFor 2052 (by decide +kernel)
set_option maxHeartbeats 4000000 in
set_option maxRecDepth 100000 in
theorem kb_X1_cloverFor_40 {p : Program} {l : Launch} {e : Env} {s : State} {m : MethodId} {args : Array Value} {below : List Frame} {meth : Method} {c : Code} {A : Nat → Prop} (dC : Nat → ClassId) (dI : Nat → Nat → Nat) (cyB cyI cyJ cyP : ClassId) (a0 jfB jlN jch : Nat) (jhx jhp jhq jgi jgj jgk jgz jfR jgl jgO jfS jiB : Value) (jc5 : Int32) (jdE : Nat → Int32) (Q : Int32 → (Nat → Int32) → Prop) (K3 : (Nat → Int32) → Int32 → Int32 → Int32 → Int32 → Prop) (hK3 : ∀ (H : Heap) (locs : List Loc) (ls : Array Slot) (jmp : Nat → Int32) (l1 l2 l3 l4 : Int32), va_P (dC, dI) vwCl (wd01_30 a0 jch jlN jfB jhx jfB jhp jhq jgi jgj jgk jgz jfR jgl jgO jc5 jfS jiB jch cyI jdE jlN cyI jmp) H → va_D A (wd01_30 a0 jch jlN jfB jhx jfB jhp jhq jgi jgj jgk jgz jfR jgl jgO jc5 jfS jiB jch cyI jdE jlN cyI jmp) → va_S A s.heap H locs → lv_has ls 5 [(0, .ref a0), (1, .int l1), (2, .int l2), (3, .int l3), (4, .int l4)] → K3 jmp l1 l2 l3 l4 → W p l e (headSpec wsX1_cloverFor ({ frames := 2, cells := 0, slots := 0, locals := 55 })).room s m args below meth c H locs 0 0 (MQ below (va_Qi (fun (r : Int32) (u : (Nat → Int32)) => Q r u) (cB (dC, dI) (kT cyB cyI cyJ cyP) A (fun u : (Nat → Int32) => ((wd01_30 a0 jch jlN jfB jhx jfB jhp jhq jgi jgj jgk jgz jfR jgl jgO jc5 jfS jiB jch cyI jdE jlN cyI u) : va_W))) A) args s 0 0 A) (F0 m 3 ls [])) (C0 : cfx p s m args meth c cX1_cloverFor (some .int) wsX1_cloverFor RX1 5 A (dC, dI) (kT cyB cyI cyJ cyP)) : ∀ (H : Heap) (locs : List Loc) (ls : Array Slot) (jmp : Nat → Int32) (l1 l2 l3 l4 s1 s2 : Int32), va_P (dC, dI) vwCl (wd01_30 a0 jch jlN jfB jhx jfB jhp jhq jgi jgj jgk jgz jfR jgl jgO jc5 jfS jiB jch cyI jdE jlN cyI jmp) H → va_D A (wd01_30 a0 jch jlN jfB jhx jfB jhp jhq jgi jgj jgk jgz jfR jgl jgO jc5 jfS jiB jch cyI jdE jlN cyI jmp) → va_S A s.heap H locs → lv_has ls 5 [(0, .ref a0), (1, .int l1), (2, .int l2), (3, .int l3), (4, .int l4)] → wb_X1_cloverFor_40 jc5 jdE Q K3 jmp l1 l2 l3 l4 s1 s2 → W p l e (headSpec wsX1_cloverFor ({ frames := 2, cells := 0, slots := 0, locals := 55 })).room s m args below meth c H locs 0 0 (MQ below (va_Qi (fun (r : Int32) (u : (Nat → Int32)) => Q r u) (cB (dC, dI) (kT cyB cyI cyJ cyP) A (fun u : (Nat → Int32) => ((wd01_30 a0 jch jlN jfB jhx jfB jhp jhq jgi jgj jgk jgz jfR jgl jgO jc5 jfS jiB jch cyI jdE jlN cyI u) : va_W))) A) args s 0 0 A) (F0 m 40 ls [.int s2, .int s1, .ref jlN]) := by
  obtain ⟨hx, hb, hr, hts, hown, hlocks, hml, hA, hK, hNw⟩ := id C0
  intro H locs ls jmp l1 l2 l3 l4 s1 s2 hP hD hS hl hw
  obtain ⟨hi9, hw⟩ := hw
  refine va_iast hx hb hK hP hD hS 3 1 rfl rfl hi9 (dt_of tkX1_cloverFor_k33 3 rfl) (fun H locs hP hD hS => ?_)
  obtain ⟨f10, ef10⟩ : ∃ y : Nat → Int32, y = upd jmp s1.toNatClampNeg s2 := ⟨_, rfl⟩
  have hw := hw f10 ef10
  have hP : va_P (dC, dI) vwCl (wd01_30 a0 jch jlN jfB jhx jfB jhp jhq jgi jgj jgk jgz jfR jgl jgO jc5 jfS jiB jch cyI jdE jlN cyI f10) H := by rw [ef10]; exact hP
  have hD : va_D A (wd01_30 a0 jch jlN jfB jhx jfB jhp jhq jgi jgj jgk jgz jfR jgl jgO jc5 jfS jiB jch cyI jdE jlN cyI f10) := by rw [ef10]; exact hD
  obtain ⟨x11, ex11⟩ : ∃ y : Int32, y = l4 + 1 := ⟨_, rfl⟩
  have hw := hw x11 ex11
  refine lv_iinc (v := x11) (lv' := [(4, .int x11), (0, .ref a0), (1, .int l1), (2, .int l2), (3, .int l3)]) hx hb (dt_of tkX1_cloverFor_k33 4 rfl) hl (k := 4) rfl (by rw [ex11]; rfl) (by decide) rfl (fun ls hl => ?_)
  refine lv_goto (tgt := 3) hx hb (dt_of tkX1_cloverFor_k33 5 rfl) (by decide) ?_
  exact hK3 _ _ _ f10 l1 l2 l3 x11 hP hD hS (lv_sub hl [1, 2, 3, 4, 0] rfl) hw
set_option maxHeartbeats 4000000 in
set_option maxRecDepth 100000 in
theorem kb_X1_cloverFor_76 {p : Program} {l : Launch} {e : Env} {s : State} {m : MethodId} {args : Array Value} {below : List Frame} {meth : Method} {c : Code} {A : Nat → Prop} (dC : Nat → ClassId) (dI : Nat → Nat → Nat) (cyB cyI cyJ cyP : ClassId) (a0 jfB jlN jch : Nat) (jhx jhp jhq jgi jgj jgk jgz jfR jgl jgO jfS jiB : Value) (jc5 : Int32) (jdE : Nat → Int32) (Q : Int32 → (Nat → Int32) → Prop)  (C0 : cfx p s m args meth c cX1_cloverFor (some .int) wsX1_cloverFor RX1 5 A (dC, dI) (kT cyB cyI cyJ cyP)) : ∀ (H : Heap) (locs : List Loc) (ls : Array Slot) (jmp : Nat → Int32) (l1 l4 : Int32), va_P (dC, dI) vwCl (wd01_30 a0 jch jlN jfB jhx jfB jhp jhq jgi jgj jgk jgz jfR jgl jgO jc5 jfS jiB jch cyI jdE jlN cyI jmp) H → va_D A (wd01_30 a0 jch jlN jfB jhx jfB jhp jhq jgi jgj jgk jgz jfR jgl jgO jc5 jfS jiB jch cyI jdE jlN cyI jmp) → va_S A s.heap H locs → lv_has ls 5 [(0, .ref a0), (1, .int l1), (4, .int l4)] → wb_X1_cloverFor_76 jc5 jdE Q  jmp l1 l4 → W p l e (headSpec wsX1_cloverFor ({ frames := 2, cells := 0, slots := 0, locals := 55 })).room s m args below meth c H locs 0 0 (MQ below (va_Qi (fun (r : Int32) (u : (Nat → Int32)) => Q r u) (cB (dC, dI) (kT cyB cyI cyJ cyP) A (fun u : (Nat → Int32) => ((wd01_30 a0 jch jlN jfB jhx jfB jhp jhq jgi jgj jgk jgz jfR jgl jgO jc5 jfS jiB jch cyI jdE jlN cyI u) : va_W))) A) args s 0 0 A) (F0 m 76 ls []) := by
  obtain ⟨hx, hb, hr, hts, hown, hlocks, hml, hA, hK, hNw⟩ := id C0
  intro H locs ls jmp l1 l4 hP hD hS hl hw
  refine lv_iload hx hb (dt_of tkX1_cloverFor_k66 4 rfl) (lv_at hl 2 rfl) ?_
  refine lv_aload_n hx hb (dt_of tkX1_cloverFor_k66 5 rfl) rfl (lv_at hl 0 rfl) ?_
  refine va_get (D := (dC, dI)) (ci := 1) (v := .ref jlN) (C := RX1) (T := TX1) (N := 4) hx hb hts ui_X1_cloverFor_X1 hown hK hP 0 rfl rfl 1 (by decide) (hts _ uw_X1_cloverFor_f17) (fun _ h9 => h9) rfl (dt_of tkX1_cloverFor_k66 6 rfl) ?_
  refine lv_iload_n hx hb (dt_of tkX1_cloverFor_k66 7 rfl) rfl (lv_at hl 1 rfl) ?_
  obtain ⟨hi9, hw⟩ := hw
  refine va_iald hx hb hK hP 3 1 rfl rfl hi9 (dt_of tkX1_cloverFor_k66 8 rfl) ?_
  refine lv_topi (fun x12 ex12 => ?_)
  have hw := hw x12 ex12
  refine va_mmin hx hb (by rw [hml]; exact hl.1.symm) hown (hts _ uw_X1_cloverFor_m171) (hts _ uw_X1_cloverFor_msmin) (hts _ uw_X1_cloverFor_inim) (hts _ uw_X1_cloverFor_mcmin) (Nat.le_of_ble_eq_true rfl) (Nat.le_of_ble_eq_true rfl) (Nat.le_of_ble_eq_true rfl) (Nat.le_of_ble_eq_true rfl) (dt_of tkX1_cloverFor_k66 9 rfl) ?_
  refine lv_topi (fun x13 ex13 => ?_)
  have hw := hw x13 ex13
  exact ((W.iret (v := x13) hx hb hr (fun t ht hW => ⟨⟨x13, (jmp), rfl, hw, by rw [ht]; exact hP, va_K.moved hW.alike hK, hD⟩, hS.F ht⟩) hS.2.2 (dt_of tkX1_cloverFor_k66 10 rfl)))
set_option maxHeartbeats 4000000 in
set_option maxRecDepth 100000 in
theorem kl_X1_cloverFor_50 {p : Program} {l : Launch} {e : Env} {s : State} {m : MethodId} {args : Array Value} {below : List Frame} {meth : Method} {c : Code} {A : Nat → Prop} (dC : Nat → ClassId) (dI : Nat → Nat → Nat) (cyB cyI cyJ cyP : ClassId) (a0 jfB jlN jch : Nat) (jhx jhp jhq jgi jgj jgk jgz jfR jgl jgO jfS jiB : Value) (jc5 : Int32) (jdE : Nat → Int32) (Q : Int32 → (Nat → Int32) → Prop)  (C0 : cfx p s m args meth c cX1_cloverFor (some .int) wsX1_cloverFor RX1 5 A (dC, dI) (kT cyB cyI cyJ cyP)) : ∀ (n : Nat) (H : Heap) (locs : List Loc) (ls : Array Slot) (jmp : Nat → Int32) (l1 l3 l4 : Int32), va_P (dC, dI) vwCl (wd01_30 a0 jch jlN jfB jhx jfB jhp jhq jgi jgj jgk jgz jfR jgl jgO jc5 jfS jiB jch cyI jdE jlN cyI jmp) H → va_D A (wd01_30 a0 jch jlN jfB jhx jfB jhp jhq jgi jgj jgk jgz jfR jgl jgO jc5 jfS jiB jch cyI jdE jlN cyI jmp) → va_S A s.heap H locs → lv_has ls 5 [(0, .ref a0), (1, .int l1), (3, .int l3), (4, .int l4)] → wl_X1_cloverFor_50 jc5 jdE Q  n jmp l1 l3 l4 → W p l e (headSpec wsX1_cloverFor ({ frames := 2, cells := 0, slots := 0, locals := 55 })).room s m args below meth c H locs 0 0 (MQ below (va_Qi (fun (r : Int32) (u : (Nat → Int32)) => Q r u) (cB (dC, dI) (kT cyB cyI cyJ cyP) A (fun u : (Nat → Int32) => ((wd01_30 a0 jch jlN jfB jhx jfB jhp jhq jgi jgj jgk jgz jfR jgl jgO jc5 jfS jiB jch cyI jdE jlN cyI u) : va_W))) A) args s 0 0 A) (F0 m 50 ls []) := by
  obtain ⟨hx, hb, hr, hts, hown, hlocks, hml, hA, hK, hNw⟩ := id C0
  intro n
  induction n with
  | zero => intro H locs ls jmp l1 l3 l4 hP hD hS hl hw; exact False.elim hw
  | succ n ih =>
    intro H locs ls jmp l1 l3 l4 hP hD hS hl hw
    refine lv_iload hx hb (dt_of tkX1_cloverFor_k33 8 rfl) (lv_at hl 3 rfl) ?_
    refine lv_sipush (v := 495) hx hb (dt_of tkX1_cloverFor_k33 9 rfl) (by decide) ?_
    refine lv_icmp_ge (tgt := 76) hx hb (dt_of tkX1_cloverFor_k33 10 rfl) (by decide) (fun c5 => ?_) (fun c5 => ?_)
    · have hw := hw.1 c5
      exact kb_X1_cloverFor_76 dC dI cyB cyI cyJ cyP a0 jfB jlN jch jhx jhp jhq jgi jgj jgk jgz jfR jgl jgO jfS jiB jc5 jdE Q  C0 _ _ _ jmp l1 l4 hP hD hS (lv_sub hl [0, 1, 3] rfl) hw
    · have hw := hw.2 c5
      refine lv_aload_n hx hb (dt_of tkX1_cloverFor_k33 11 rfl) rfl (lv_at hl 0 rfl) ?_
      refine lv_iload hx hb (dt_of tkX1_cloverFor_k33 12 rfl) (lv_at hl 3 rfl) ?_
      refine lv_iconst (v := 1) hx hb (dt_of tkX1_cloverFor_k33 13 rfl) (by decide) ?_
      refine lv_iadd hx hb (dt_of tkX1_cloverFor_k33 14 rfl) ?_
      refine lv_topi (fun x6 ex6 => ?_)
      have hw := hw x6 ex6
      obtain ⟨hCc, hPc, hDc, hFc⟩ := va_pick (ws' := (wd01_31 a0 jch jlN jfB jhx jfB jhp jhq jgi jgj jgk jgz jfR jgl jgO jc5 jfS jiB jlN cyI jmp)) hP hD hS hA [0, 1, 3] (by decide +kernel) rfl
      refine va_calli (va_runV (As := [.int x6]) (rest := []) ⟨hx, hb, hml, hown, hts⟩ (ck_X1_givenBy l dC dI cyB cyI cyJ cyP a0 jfB jlN H.size (.ref jch) (jhx) (jhp) (jhq) (jgi) (jgj) (jgk) (jgz) (jfR) (jgl) (jgO) (jfS) (jiB) jc5 jmp  x6 hw) (cwV 1 hts gX1_cloverFor_X1_givenBy rfl rfl rfl (by decide +kernel) ⟨Nat.le_of_ble_eq_true rfl, Nat.le_of_ble_eq_true rfl⟩) ⟨cPc_blind, va_recv (q := (RX1, TX1, 4)) hK hPc (ci := 1) (q0 := 0) rfl rfl, cPc_pre hPc hK hDc hNw⟩ rfl rfl hl.1 rfl (lv_room (Nat.le_of_ble_eq_true rfl)) (dt_of tkX1_cloverFor_k33 15 rfl) ⟨Nat.le_of_ble_eq_true rfl, Nat.le_of_ble_eq_true rfl⟩) hS (fun q _ h => hFc q h) hFc (fun r7 u t H1 locs ht hvm hw hB hz1 hk1 hS => ?_)
      obtain ⟨hP1, hK1, hD1⟩ := hB
      rw [ht] at hP1
      obtain ⟨hP, hD⟩ := va_joinN (wr := [(jch, .inl (cyI, 64, .inl jdE))]) (w1 := (wd01_31 a0 jch jlN jfB jhx jfB jhp jhq jgi jgj jgk jgz jfR jgl jgO jc5 jfS jiB jlN cyI jmp)) (wn := (wd01_30 a0 jch jlN jfB jhx jfB jhp jhq jgi jgj jgk jgz jfR jgl jgO jc5 jfS jiB jch cyI jdE jlN cyI jmp)) hP hD [0, 1, 3] [2] [1, 2, 0, 3] hCc rfl (by decide +kernel) (by decide +kernel) (by decide +kernel) rfl hk1 hFc hP1 hD1
      generalize H1 = H at hP hS ⊢
      refine lv_iload_n hx hb (dt_of tkX1_cloverFor_k66 0 rfl) rfl (lv_at hl 2 rfl) ?_
      refine lv_icmp_gt (tgt := 76) hx hb (dt_of tkX1_cloverFor_k66 1 rfl) (by decide) (fun c8 => ?_) (fun c8 => ?_)
      · have hw := hw.1 c8
        exact kb_X1_cloverFor_76 dC dI cyB cyI cyJ cyP a0 jfB jlN jch jhx jhp jhq jgi jgj jgk jgz jfR jgl jgO jfS jiB jc5 jdE Q  C0 _ _ _ jmp l1 l4 hP hD hS (lv_sub hl [0, 1, 3] rfl) hw
      · have hw := hw.2 c8
        obtain ⟨x9, ex9⟩ : ∃ y : Int32, y = l4 + 1 := ⟨_, rfl⟩
        have hw := hw x9 ex9
        refine lv_iinc (v := x9) (lv' := [(4, .int x9), (0, .ref a0), (1, .int l1), (3, .int l3)]) hx hb (dt_of tkX1_cloverFor_k66 2 rfl) hl (k := 3) rfl (by rw [ex9]; rfl) (by decide) rfl (fun ls hl => ?_)
        refine lv_goto (tgt := 50) hx hb (dt_of tkX1_cloverFor_k66 3 rfl) (by decide) ?_
        exact ih _ _ _ jmp l1 l3 x9 hP hD hS (lv_sub hl [1, 2, 3, 0] rfl) hw
set_option maxHeartbeats 4000000 in
set_option maxRecDepth 100000 in
theorem kl_X1_cloverFor_3 {p : Program} {l : Launch} {e : Env} {s : State} {m : MethodId} {args : Array Value} {below : List Frame} {meth : Method} {c : Code} {A : Nat → Prop} (dC : Nat → ClassId) (dI : Nat → Nat → Nat) (cyB cyI cyJ cyP : ClassId) (a0 jfB jlN jch : Nat) (jhx jhp jhq jgi jgj jgk jgz jfR jgl jgO jfS jiB : Value) (jc5 : Int32) (jdE : Nat → Int32) (Q : Int32 → (Nat → Int32) → Prop)  (C0 : cfx p s m args meth c cX1_cloverFor (some .int) wsX1_cloverFor RX1 5 A (dC, dI) (kT cyB cyI cyJ cyP)) : ∀ (n : Nat) (H : Heap) (locs : List Loc) (ls : Array Slot) (jmp : Nat → Int32) (l1 l2 l3 l4 : Int32), va_P (dC, dI) vwCl (wd01_30 a0 jch jlN jfB jhx jfB jhp jhq jgi jgj jgk jgz jfR jgl jgO jc5 jfS jiB jch cyI jdE jlN cyI jmp) H → va_D A (wd01_30 a0 jch jlN jfB jhx jfB jhp jhq jgi jgj jgk jgz jfR jgl jgO jc5 jfS jiB jch cyI jdE jlN cyI jmp) → va_S A s.heap H locs → lv_has ls 5 [(0, .ref a0), (1, .int l1), (2, .int l2), (3, .int l3), (4, .int l4)] → wl_X1_cloverFor_3 jc5 jdE Q  n jmp l1 l2 l3 l4 → W p l e (headSpec wsX1_cloverFor ({ frames := 2, cells := 0, slots := 0, locals := 55 })).room s m args below meth c H locs 0 0 (MQ below (va_Qi (fun (r : Int32) (u : (Nat → Int32)) => Q r u) (cB (dC, dI) (kT cyB cyI cyJ cyP) A (fun u : (Nat → Int32) => ((wd01_30 a0 jch jlN jfB jhx jfB jhp jhq jgi jgj jgk jgz jfR jgl jgO jc5 jfS jiB jch cyI jdE jlN cyI u) : va_W))) A) args s 0 0 A) (F0 m 3 ls []) := by
  obtain ⟨hx, hb, hr, hts, hown, hlocks, hml, hA, hK, hNw⟩ := id C0
  intro n
  induction n with
  | zero => intro H locs ls jmp l1 l2 l3 l4 hP hD hS hl hw; exact False.elim hw
  | succ n ih =>
    intro H locs ls jmp l1 l2 l3 l4 hP hD hS hl hw
    refine lv_iload hx hb (dt_of tkX1_cloverFor_k0 2 rfl) (lv_at hl 4 rfl) ?_
    refine lv_aload_n hx hb (dt_of tkX1_cloverFor_k0 3 rfl) rfl (lv_at hl 0 rfl) ?_
    refine va_get (D := (dC, dI)) (ci := 1) (v := .ref jfB) (C := RX1) (T := TX1) (N := 4) hx hb hts ui_X1_cloverFor_X1 hown hK hP 0 rfl rfl 2 (by decide) (hts _ uw_X1_cloverFor_f24) (fun _ h9 => h9) rfl (dt_of tkX1_cloverFor_k0 4 rfl) ?_
    refine va_get (D := (dC, dI)) (ci := 2) (v := .int jc5) (C := RX2) (T := TX2) (N := 12) hx hb hts ui_X1_cloverFor_X2 hown hK hP 1 rfl rfl 9 (by decide) (hts _ uw_X1_cloverFor_f32) (fun _ h9 => h9) rfl (dt_of tkX1_cloverFor_k0 5 rfl) ?_
    refine lv_icmp_ge (tgt := 47) hx hb (dt_of tkX1_cloverFor_k0 6 rfl) (by decide) (fun c1 => ?_) (fun c1 => ?_)
    · have hw := hw.1 c1
      refine lv_iconst (v := 0) hx hb (dt_of tkX1_cloverFor_k33 6 rfl) (by decide) ?_
      refine lv_istore (lv' := [(4, .int 0), (0, .ref a0), (1, .int l1), (2, .int l2), (3, .int l3)]) hx hb (dt_of tkX1_cloverFor_k33 7 rfl) hl (by decide) rfl (fun ls hl => ?_)
      obtain ⟨n9, hw⟩ := hw
      exact kl_X1_cloverFor_50 dC dI cyB cyI cyJ cyP a0 jfB jlN jch jhx jhp jhq jgi jgj jgk jgz jfR jgl jgO jfS jiB jc5 jdE Q  C0 n9 _ _ _ jmp l1 l3 0 hP hD hS (lv_sub hl [1, 2, 4, 0] rfl) hw
    · have hw := hw.2 c1
      refine lv_aload_n hx hb (dt_of tkX1_cloverFor_k0 7 rfl) rfl (lv_at hl 0 rfl) ?_
      refine va_get (D := (dC, dI)) (ci := 1) (v := .ref jlN) (C := RX1) (T := TX1) (N := 4) hx hb hts ui_X1_cloverFor_X1 hown hK hP 0 rfl rfl 1 (by decide) (hts _ uw_X1_cloverFor_f17) (fun _ h9 => h9) rfl (dt_of tkX1_cloverFor_k0 8 rfl) ?_
      refine lv_iload hx hb (dt_of tkX1_cloverFor_k0 9 rfl) (lv_at hl 4 rfl) ?_
      refine lv_iload_n hx hb (dt_of tkX1_cloverFor_k0 10 rfl) rfl (lv_at hl 2 rfl) ?_
      refine lv_iload hx hb (dt_of tkX1_cloverFor_k0 11 rfl) (lv_at hl 4 rfl) ?_
      obtain ⟨hCc, hPc, hDc, hFc⟩ := va_pick (ws' := []) hP hD hS hA [] (by decide +kernel) rfl
      refine va_calli (va_runSN (As := [.int l2, .int l4]) (rest := [.int l4, .ref jlN]) ⟨hx, hb, hml, hown, hts⟩ (ck_X10_holds l dC dI cyB cyI cyJ cyP  H.size    l2 l4 hw) ⟨(va_cnB 2 hts gX1_cloverFor_X10_holds_n120 rfl rfl rfl (nw_9 hNw) (hts _ uw_X1_cloverFor_iniRX10) (by decide +kernel) ⟨Nat.le_of_ble_eq_true rfl, Nat.le_of_ble_eq_true rfl⟩), (hts _ uw_X1_cloverFor_stX10_holds), trivial⟩ ⟨cPc_blind, cPc_pre hPc hK hDc hNw⟩ rfl rfl hl.1 rfl (lv_room (Nat.le_of_ble_eq_true rfl)) (dt_of tkX1_cloverFor_k0 12 rfl) ⟨Nat.le_of_ble_eq_true rfl, Nat.le_of_ble_eq_true rfl⟩) hS (fun q _ h => hFc q h) hFc (fun r2 u t H1 locs ht hvm hw hB hz1 hk1 hS => ?_)
      obtain ⟨hP1, hK1, hD1⟩ := hB
      rw [ht] at hP1
      obtain ⟨hP, hD⟩ := va_joinI (wr := (wd01_30 a0 jch jlN jfB jhx jfB jhp jhq jgi jgj jgk jgz jfR jgl jgO jc5 jfS jiB jch cyI jdE jlN cyI jmp)) (w1 := []) (wn := (wd01_30 a0 jch jlN jfB jhx jfB jhp jhq jgi jgj jgk jgz jfR jgl jgO jc5 jfS jiB jch cyI jdE jlN cyI jmp)) hP hD [] [0, 1, 2, 3] hCc rfl (by decide +kernel) (by decide +kernel) rfl hk1 hFc hP1 hD1
      generalize H1 = H at hP hS ⊢
      refine lv_if_eq (tgt := 39) hx hb (dt_of tkX1_cloverFor_k0 13 rfl) (by decide) (fun c3 => ?_) (fun c3 => ?_)
      · have hw := hw.1 c3
        refine lv_iconst (v := 0) hx hb (dt_of tkX1_cloverFor_k33 2 rfl) (by decide) ?_
        exact kb_X1_cloverFor_40 dC dI cyB cyI cyJ cyP a0 jfB jlN jch jhx jhp jhq jgi jgj jgk jgz jfR jgl jgO jfS jiB jc5 jdE Q (wl_X1_cloverFor_3 jc5 jdE Q  n) ih C0 _ _ _ jmp l1 l2 l3 l4 l4 0 hP hD hS (lv_sub hl [0, 1, 2, 3, 4] rfl) hw
      · have hw := hw.2 c3
        refine lv_aload_n hx hb (dt_of tkX1_cloverFor_k0 14 rfl) rfl (lv_at hl 0 rfl) ?_
        refine lv_iload hx hb (dt_of tkX1_cloverFor_k0 15 rfl) (lv_at hl 4 rfl) ?_
        obtain ⟨hCc, hPc, hDc, hFc⟩ := va_pick (ws' := (wd01_32 a0 jch jlN jfB jhx jfB jhp jhq jgi jgj jgk jgz jfR jgl jgO jc5 jfS jiB jch cyI jdE)) hP hD hS hA [0, 1, 2] (by decide +kernel) rfl
        refine va_calli (va_runV (As := [.int l4]) (rest := [.int l4, .ref jlN]) ⟨hx, hb, hml, hown, hts⟩ (ck_X1_owed l dC dI cyB cyI cyJ cyP a0 jfB jch H.size (.ref jlN) (jhx) (jhp) (jhq) (jgi) (jgj) (jgk) (jgz) (jfR) (jgl) (jgO) (jfS) (jiB) jc5 jdE  l4 hw) (cwV 1 hts gX1_cloverFor_X1_owed rfl rfl rfl (by decide +kernel) ⟨Nat.le_of_ble_eq_true rfl, Nat.le_of_ble_eq_true rfl⟩) ⟨cPc_blind, va_recv (q := (RX1, TX1, 4)) hK hPc (ci := 1) (q0 := 0) rfl rfl, cPc_pre hPc hK hDc hNw⟩ rfl rfl hl.1 rfl (lv_room (Nat.le_of_ble_eq_true rfl)) (dt_of tkX1_cloverFor_k33 0 rfl) ⟨Nat.le_of_ble_eq_true rfl, Nat.le_of_ble_eq_true rfl⟩) hS (fun q _ h => hFc q h) hFc (fun r4 u t H1 locs ht hvm hw hB hz1 hk1 hS => ?_)
        obtain ⟨hP1, hK1, hD1⟩ := hB
        rw [ht] at hP1
        obtain ⟨hP, hD⟩ := va_joinN (wr := [(jlN, .inl (cyI, 6, .inl jmp))]) (w1 := (wd01_32 a0 jch jlN jfB jhx jfB jhp jhq jgi jgj jgk jgz jfR jgl jgO jc5 jfS jiB jch cyI jdE)) (wn := (wd01_30 a0 jch jlN jfB jhx jfB jhp jhq jgi jgj jgk jgz jfR jgl jgO jc5 jfS jiB jch cyI jdE jlN cyI jmp)) hP hD [0, 1, 2] [3] [1, 2, 3, 0] hCc rfl (by decide +kernel) (by decide +kernel) (by decide +kernel) rfl hk1 hFc hP1 hD1
        generalize H1 = H at hP hS ⊢
        refine lv_goto (tgt := 40) hx hb (dt_of tkX1_cloverFor_k33 1 rfl) (by decide) ?_
        exact kb_X1_cloverFor_40 dC dI cyB cyI cyJ cyP a0 jfB jlN jch jhx jhp jhq jgi jgj jgk jgz jfR jgl jgO jfS jiB jc5 jdE Q (wl_X1_cloverFor_3 jc5 jdE Q  n) ih C0 _ _ _ jmp l1 l2 l3 l4 l4 r4 hP hD hS (lv_sub hl [0, 1, 2, 3, 4] rfl) hw
set_option maxHeartbeats 4000000 in
set_option maxRecDepth 100000 in
theorem ck_X1_cloverFor (l : Launch) (dC : Nat → ClassId) (dI : Nat → Nat → Nat) (cyB cyI cyJ cyP : ClassId) (a0 jfB jlN jch sz : Nat) (jhx jhp jhq jgi jgj jgk jgz jfR jgl jgO jfS jiB : Value) (jc5 : Int32) (jdE jmp : Nat → Int32) (p1 p2 p3 : Int32) {Q : Int32 → (Nat → Int32) → Prop} (hw : wq_X1_cloverFor jc5 jdE jmp p1 p2 p3 Q) : Met l yX1_cloverFor wsX1_cloverFor ({ frames := 2, cells := 0, slots := 0, locals := 55 }) (va_Pc [.ref a0, .int p1, .int p2, .int p3] (cPc (dC, dI) (kT cyB cyI cyJ cyP) (wd01_30 a0 jch jlN jfB jhx jfB jhp jhq jgi jgj jgk jgz jfR jgl jgO jc5 jfS jiB jch cyI jdE jlN cyI jmp) sz)) (va_Qi (fun (r : Int32) (u : (Nat → Int32)) => Q r u) (cB (dC, dI) (kT cyB cyI cyJ cyP) (va_A (wd01_30 a0 jch jlN jfB jhx jfB jhp jhq jgi jgj jgk jgz jfR jgl jgO jc5 jfS jiB jch cyI jdE jlN cyI jmp) sz) (fun u : (Nat → Int32) => ((wd01_30 a0 jch jlN jfB jhx jfB jhp jhq jgi jgj jgk jgz jfR jgl jgO jc5 jfS jiB jch cyI jdE jlN cyI u) : va_W))) (va_A (wd01_30 a0 jch jlN jfB jhx jfB jhp jhq jgi jgj jgk jgz jfR jgl jgO jc5 jfS jiB jch cyI jdE jlN cyI jmp) sz)) 0 0 (va_A (wd01_30 a0 jch jlN jfB jhx jfB jhp jhq jgi jgj jgk jgz jfR jgl jgO jc5 jfS jiB jch cyI jdE jlN cyI jmp) sz) := by
  refine Met.ofW (cc := cX1_cloverFor) (maxL := 5) (ret := (some .int)) (by decide) rfl ?_
  intro p e s m args below meth c s₁ B hml hv
  obtain ⟨rfl, hsz, hP, hK, hD0, hNw⟩ := hv
  have hx := B.exec
  have hb := B.bytes
  have hr := B.returns
  have hts := atoms_spec (ws := wsX1_cloverFor) B.pre
  have hown : s.vm.findClass RX1 = some m.cls := findClass_of_methodNamed B.named
  have hlocks := B.notSynchronized
  subst hsz
  have hD := hD0.self (sz := s.heap.size)
  generalize hAe : va_A (wd01_30 a0 jch jlN jfB jhx jfB jhp jhq jgi jgj jgk jgz jfR jgl jgO jc5 jfS jiB jch cyI jdE jlN cyI jmp) s.heap.size = A at hD ⊢
  have hA : ∀ q : Nat, s.heap.size ≤ q → A q := fun q h => by rw [← hAe]; exact Or.inr h
  have hS : va_S A s.heap s.heap [] := va_S.rf
  have hP : va_P (dC, dI) vwCl (wd01_30 a0 jch jlN jfB jhx jfB jhp jhq jgi jgj jgk jgz jfR jgl jgO jc5 jfS jiB jch cyI jdE jlN cyI jmp) s.heap := hP
  have hl := lv_entry ([.ref a0, .int p1, .int p2, .int p3]) (n := 5) (Nat.le_of_ble_eq_true rfl)
  rw [lg_entry_eq]
  generalize (lg_sl ([.ref a0, .int p1, .int p2, .int p3]) ++ List.replicate (5 - (lg_sl ([.ref a0, .int p1, .int p2, .int p3])).length) Slot.unset).toArray = ls at hl ⊢
  have hl : lv_has ls 5 [(0, .ref a0), (1, .int p1), (2, .int p2), (3, .int p3)] := hl
  have C0 : cfx p s m _ meth c cX1_cloverFor (some .int) wsX1_cloverFor RX1 5 A (dC, dI) (kT cyB cyI cyJ cyP) := ⟨hx, hb, hr, hts, hown, hlocks, hml, hA, hK, hNw⟩
  clear hAe
  obtain ⟨H, hH⟩ : ∃ H, H = s.heap := ⟨_, rfl⟩
  rw [← hH] at hP ⊢
  have hS : va_S A s.heap H [] := by rw [hH]; exact va_S.rf
  have hS := hS
  refine lv_iconst (v := 0) hx hb (dt_of tkX1_cloverFor_k0 0 rfl) (by decide) ?_
  refine lv_istore (lv' := [(4, .int 0), (0, .ref a0), (1, .int p1), (2, .int p2), (3, .int p3)]) hx hb (dt_of tkX1_cloverFor_k0 1 rfl) hl (by decide) rfl (fun ls hl => ?_)
  obtain ⟨n9, hw⟩ := hw
  exact kl_X1_cloverFor_3 dC dI cyB cyI cyJ cyP a0 jfB jlN jch jhx jhp jhq jgi jgj jgk jgz jfR jgl jgO jfS jiB jc5 jdE Q  C0 n9 _ _ _ jmp p1 p2 p3 0 hP hD hS (lv_sub hl [1, 2, 3, 4, 0] rfl) hw
theorem ui_X10_clover_X10 : ∀ w ∈ u_ws RX10 TX10 19, w ∈ wsX10_clover := uiM mbX10_clover euX10 (by decide +kernel)
theorem ui_X10_clover_X2 : ∀ w ∈ u_ws RX2 TX2 12, w ∈ wsX10_clover := uiM mbX10_clover euX2 (by decide +kernel)
theorem uw_X10_clover_f141 : (.fieldLink RX10 141 "MarchHares$Down" "hares" "I" : Cond) ∈ wsX10_clover := mbX10_clover 644 (by decide +kernel)
theorem uw_X10_clover_f19 : (.fieldLink RX10 19 "MarchHares" "ground" "LMarchHares$Down;" : Cond) ∈ wsX10_clover := mbX10_clover 20 (by decide +kernel)
theorem uw_X10_clover_f58 : (.fieldLink RX10 58 "MarchHares" "now" "LMarchHares$Days;" : Cond) ∈ wsX10_clover := mbX10_clover 79 (by decide +kernel)
set_option maxHeartbeats 4000000 in
set_option maxRecDepth 100000 in
theorem ck_X10_clover (l : Launch) (dC : Nat → ClassId) (dI : Nat → Nat → Nat) (cyB cyI cyJ cyP : ClassId) (a0 jaR jaT jbb jlO sz : Nat) (jaK ja1 jcp jbc jbV ja3 jbH jbO jaq jac jbI jbl jbn jba jaa jcB jcC jbo jbp jbk jbj jbe jbq jef jbi jcd jfc : Value) (jbm : Int32) (jbQ : Nat → Int32) (jdu jbz : Int32) (jmY : Nat → Int32) (p1 p2 p3 : Int32) {E : String → Int32 → Int32 → (Nat → Int32) → Prop} {Q : Int32 → Int32 → Int32 → (Nat → Int32) → Prop} (hw : wq_X10_clover jbm jbQ jdu jbz jmY p1 p2 p3 E Q) : vx_Met l yX10_clover wsX10_clover ({ frames := 8, cells := 3, slots := 18, locals := 164 }) (va_Pc [.ref a0, .int p1, .int p2, .int p3] (cPx l (dC, dI) (kT cyB cyI cyJ cyP) (wd01_33 a0 jaK jaR ja1 jcp jbc jbV ja3 jbH jaT jbO jaq jac jbI jbl jbn jba jaa jdu jbz jaR jcB jcC jbo jbp jbk jbj jbe jbq jef jbm jbi jcd jaT jbb jlO jaR jfc jbb cyI jbQ jlO cyI jmY) sz)) (va_Qi (fun (r : Int32) (u : Int32 × Int32 × (Nat → Int32)) => Q r u.1 u.2.1 u.2.2) (cB (dC, dI) (kT cyB cyI cyJ cyP) (va_A (wd01_33 a0 jaK jaR ja1 jcp jbc jbV ja3 jbH jaT jbO jaq jac jbI jbl jbn jba jaa jdu jbz jaR jcB jcC jbo jbp jbk jbj jbe jbq jef jbm jbi jcd jaT jbb jlO jaR jfc jbb cyI jbQ jlO cyI jmY) sz) (fun u : Int32 × Int32 × (Nat → Int32) => ((wd01_33 a0 jaK jaR ja1 jcp jbc jbV ja3 jbH jaT jbO jaq jac jbI jbl jbn jba jaa u.1 u.2.1 jaR jcB jcC jbo jbp jbk jbj jbe jbq jef jbm jbi jcd jaT jbb jlO jaR jfc jbb cyI jbQ jlO cyI u.2.2) : va_W))) (va_A (wd01_33 a0 jaK jaR ja1 jcp jbc jbV ja3 jbH jaT jbO jaq jac jbI jbl jbn jba jaa jdu jbz jaR jcB jcC jbo jbp jbk jbj jbe jbq jef jbm jbi jcd jaT jbb jlO jaR jfc jbb cyI jbQ jlO cyI jmY) sz)) (vx_X (fun _ => True) (fun (en : String) (u : Int32 × Int32 × (Nat → Int32)) (t : State) => E en u.1 u.2.1 u.2.2 ∧ cB (dC, dI) (kT cyB cyI cyJ cyP) (va_A (wd01_33 a0 jaK jaR ja1 jcp jbc jbV ja3 jbH jaT jbO jaq jac jbI jbl jbn jba jaa jdu jbz jaR jcB jcC jbo jbp jbk jbj jbe jbq jef jbm jbi jcd jaT jbb jlO jaR jfc jbb cyI jbQ jlO cyI jmY) sz) (fun u : Int32 × Int32 × (Nat → Int32) => ((wd01_33 a0 jaK jaR ja1 jcp jbc jbV ja3 jbH jaT jbO jaq jac jbI jbl jbn jba jaa u.1 u.2.1 jaR jcB jcC jbo jbp jbk jbj jbe jbq jef jbm jbi jcd jaT jbb jlO jaR jfc jbb cyI jbQ jlO cyI u.2.2) : va_W)) u t) (va_A (wd01_33 a0 jaK jaR ja1 jcp jbc jbV ja3 jbH jaT jbO jaq jac jbI jbl jbn jba jaa jdu jbz jaR jcB jcC jbo jbp jbk jbj jbe jbq jef jbm jbi jcd jaT jbb jlO jaR jfc jbb cyI jbQ jlO cyI jmY) sz)) 3 18 (va_A (wd01_33 a0 jaK jaR ja1 jcp jbc jbV ja3 jbH jaT jbO jaq jac jbI jbl jbn jba jaa jdu jbz jaR jcB jcC jbo jbp jbk jbj jbe jbq jef jbm jbi jcd jaT jbb jlO jaR jfc jbb cyI jbQ jlO cyI jmY) sz) := by
  refine vx_ofW (cc := cX10_clover) (maxL := 4) (ret := (some .int)) (by decide) rfl ?_
  intro p e s m args below meth c s₁ B hml hnt hv
  obtain ⟨rfl, hsz, hP, hK, hD0, hNw, hXl, hXu, hXn, hXt⟩ := hv
  have hx := B.exec
  have hb := B.bytes
  have hr := B.returns
  have hts := atoms_spec (ws := wsX10_clover) B.pre
  have hown : s.vm.findClass RX10 = some m.cls := findClass_of_methodNamed B.named
  have hlocks := B.notSynchronized
  subst hsz
  have hD := hD0.self (sz := s.heap.size)
  generalize hAe : va_A (wd01_33 a0 jaK jaR ja1 jcp jbc jbV ja3 jbH jaT jbO jaq jac jbI jbl jbn jba jaa jdu jbz jaR jcB jcC jbo jbp jbk jbj jbe jbq jef jbm jbi jcd jaT jbb jlO jaR jfc jbb cyI jbQ jlO cyI jmY) s.heap.size = A at hD hXu hXn ⊢
  have hA : ∀ q : Nat, s.heap.size ≤ q → A q := fun q h => by rw [← hAe]; exact Or.inr h
  have hS : va_S A s.heap s.heap [] := va_S.rf
  have hP : va_P (dC, dI) vwCl (wd01_33 a0 jaK jaR ja1 jcp jbc jbV ja3 jbH jaT jbO jaq jac jbI jbl jbn jba jaa jdu jbz jaR jcB jcC jbo jbp jbk jbj jbe jbq jef jbm jbi jcd jaT jbb jlO jaR jfc jbb cyI jbQ jlO cyI jmY) s.heap := hP
  have hl := lv_entry ([.ref a0, .int p1, .int p2, .int p3]) (n := 4) (Nat.le_of_ble_eq_true rfl)
  rw [lg_entry_eq]
  generalize (lg_sl ([.ref a0, .int p1, .int p2, .int p3]) ++ List.replicate (4 - (lg_sl ([.ref a0, .int p1, .int p2, .int p3])).length) Slot.unset).toArray = ls at hl ⊢
  have hl : lv_has ls 4 [(0, .ref a0), (1, .int p1), (2, .int p2), (3, .int p3)] := hl
  have hY : cfY l s A := ⟨hXl, hXu, hXn, hXt⟩
  have hXs : cfX l s c A := ⟨hnt, hY⟩
  have C0 : cfx p s m _ meth c cX10_clover (some .int) wsX10_clover RX10 4 A (dC, dI) (kT cyB cyI cyJ cyP) ∧ cfX l s c A := ⟨⟨hx, hb, hr, hts, hown, hlocks, hml, hA, hK, hNw⟩, hXs⟩
  clear hAe
  obtain ⟨H, hH⟩ : ∃ H, H = s.heap := ⟨_, rfl⟩
  rw [← hH] at hP ⊢
  have hS : va_S A s.heap H [] := by rw [hH]; exact va_S.rf
  have hS := hS
  refine lv_aload_n hx hb (dt_of tkX10_clover_k0 0 rfl) rfl (lv_at hl 0 rfl) ?_
  refine lv_iload_n hx hb (dt_of tkX10_clover_k0 1 rfl) rfl (lv_at hl 1 rfl) ?_
  obtain ⟨hCc, hPc, hDc, hFc⟩ := va_pick (ws' := (wd01_34 a0 jaK jaR ja1 jcp jbc jbV ja3 jbH jaT jbO jaq jac jbI jbl jbn jba jaa jdu jbz jaR jcB jcC jbo jbp jbk jbj jbe jbq jef jbm jbi jcd)) hP hD hS hA [0, 1] (by decide +kernel) rfl
  refine vx_callv (vx_runV (As := [.int p1]) (rest := []) ⟨hx, hb, hml, hown, hts⟩ (ck_X10_needHare l dC dI cyB cyI cyJ cyP a0 jaR H.size (jaK) (ja1) (jcp) (jbc) (jbV) (ja3) (jbH) (.ref jaT) (jbO) (jaq) (jac) (jbI) (jbl) (jbn) (jba) (jaa) (.int jbz) (jcB) (jcC) (jbo) (jbp) (jbk) (jbj) (jbe) (jbq) (jef) (jbi) (jcd) jbm jdu p1 hw) (cwV 1 hts gX10_clover_X10_needHare rfl rfl rfl (by decide +kernel) ⟨Nat.le_of_ble_eq_true rfl, Nat.le_of_ble_eq_true rfl⟩) ⟨cPx_blind, va_recv (q := (RX10, TX10, 19)) hK hPc (ci := 10) (q0 := 0) rfl rfl, cPx_pre hPc hK hDc hNw hY hS hFc⟩ rfl rfl hl.1 rfl (lv_room (Nat.le_of_ble_eq_true rfl)) (dt_of tkX10_clover_k0 2 rfl) ⟨Nat.le_of_ble_eq_true rfl, Nat.le_of_ble_eq_true rfl⟩) hS (fun q _ h => hFc q h) hFc (fun q _ h => hFc q h) (fun en ce q9 u t H1 locs ht hvm hpx hB hz1 hk1 hS hc9 hv9 hcl9 => ?_) (fun u t H1 locs ht hvm hw hB hz1 hk1 hS => ?_)
  · obtain ⟨x1, rfl⟩ : ∃ z, z = u := ⟨_, rfl⟩
    obtain ⟨hw, hP1, hK1, hD1⟩ := hB
    rw [ht] at hP1
    obtain ⟨hP, hD⟩ := va_joinN (wr := (wd01_35 jaT jbb jlO jaR jfc jbb cyI jbQ jlO cyI jmY)) (w1 := (wd01_34 a0 jaK jaR ja1 jcp jbc jbV ja3 jbH jaT jbO jaq jac jbI jbl jbn jba jaa x1 jbz jaR jcB jcC jbo jbp jbk jbj jbe jbq jef jbm jbi jcd)) (wn := (wd01_33 a0 jaK jaR ja1 jcp jbc jbV ja3 jbH jaT jbO jaq jac jbI jbl jbn jba jaa x1 jbz jaR jcB jcC jbo jbp jbk jbj jbe jbq jef jbm jbi jcd jaT jbb jlO jaR jfc jbb cyI jbQ jlO cyI jmY)) hP hD [0, 1] [2, 3, 4] [3, 4, 0, 1, 2] hCc rfl (by decide +kernel) (by decide +kernel) (by decide +kernel) rfl hk1 hFc hP1 hD1
    generalize H1 = H at hP hS hc9 ⊢
    exact vx_out (fun x hx9 => (hXs.1 x hx9).elim) hlocks hc9 hv9 hcl9 (fun t2 ht2 hal2 => ⟨(x1, jbz, jmY), trivial, ⟨hw, by rw [ht2]; exact hP, va_K.moved hal2 hK, hD⟩, hS.F ht2⟩) hS.2.2 (Nat.le_of_ble_eq_true rfl) (Nat.le_of_ble_eq_true rfl)
  obtain ⟨x1, rfl⟩ : ∃ z, z = u := ⟨_, rfl⟩
  obtain ⟨hP1, hK1, hD1⟩ := hB
  rw [ht] at hP1
  obtain ⟨hP, hD⟩ := va_joinN (wr := (wd01_35 jaT jbb jlO jaR jfc jbb cyI jbQ jlO cyI jmY)) (w1 := (wd01_34 a0 jaK jaR ja1 jcp jbc jbV ja3 jbH jaT jbO jaq jac jbI jbl jbn jba jaa x1 jbz jaR jcB jcC jbo jbp jbk jbj jbe jbq jef jbm jbi jcd)) (wn := (wd01_33 a0 jaK jaR ja1 jcp jbc jbV ja3 jbH jaT jbO jaq jac jbI jbl jbn jba jaa x1 jbz jaR jcB jcC jbo jbp jbk jbj jbe jbq jef jbm jbi jcd jaT jbb jlO jaR jfc jbb cyI jbQ jlO cyI jmY)) hP hD [0, 1] [2, 3, 4] [3, 4, 0, 1, 2] hCc rfl (by decide +kernel) (by decide +kernel) (by decide +kernel) rfl hk1 hFc hP1 hD1
  generalize H1 = H at hP hS ⊢
  refine lv_aload_n hx hb (dt_of tkX10_clover_k0 3 rfl) rfl (lv_at hl 0 rfl) ?_
  refine lv_iload_n hx hb (dt_of tkX10_clover_k0 4 rfl) rfl (lv_at hl 2 rfl) ?_
  refine lv_iconst (v := 0) hx hb (dt_of tkX10_clover_k0 5 rfl) (by decide) ?_
  refine lv_iconst (v := 1) hx hb (dt_of tkX10_clover_k0 6 rfl) (by decide) ?_
  refine lv_aload_n hx hb (dt_of tkX10_clover_k0 7 rfl) rfl (lv_at hl 0 rfl) ?_
  refine va_get (D := (dC, dI)) (ci := 10) (v := .ref jaR) (C := RX10) (T := TX10) (N := 19) hx hb hts ui_X10_clover_X10 hown hK hP 0 rfl rfl 1 (by decide) (hts _ uw_X10_clover_f19) (fun _ h9 => h9) rfl (dt_of tkX10_clover_k0 8 rfl) ?_
  refine va_get (D := (dC, dI)) (ci := 2) (v := .int jbm) (C := RX2) (T := TX2) (N := 12) hx hb hts ui_X10_clover_X2 hown hK hP 1 rfl rfl 9 (by decide) (hts _ uw_X10_clover_f141) (fun _ h9 => h9) rfl (dt_of tkX10_clover_k0 9 rfl) ?_
  refine lv_ishl hx hb (dt_of tkX10_clover_k0 10 rfl) ?_
  refine lv_iconst (v := 1) hx hb (dt_of tkX10_clover_k0 11 rfl) (by decide) ?_
  refine lv_isub hx hb (dt_of tkX10_clover_k0 12 rfl) ?_
  obtain ⟨hCc, hPc, hDc, hFc⟩ := va_pick (ws' := (wd01_36 a0 jaK jaR ja1 jcp jbc jbV ja3 jbH jaT jbO jaq jac jbI jbl jbn jba jaa x1 jbz)) hP hD hS hA [0] (by decide +kernel) rfl
  refine vx_callv (vx_runV (As := [.int p2, .int 0, .int ((1 <<< (jbm &&& 31)) - 1)]) (rest := []) ⟨hx, hb, hml, hown, hts⟩ (ck_X10_needWithin l dC dI cyB cyI cyJ cyP a0 H.size (jaK) (.ref jaR) (ja1) (jcp) (jbc) (jbV) (ja3) (jbH) (.ref jaT) (jbO) (jaq) (jac) (jbI) (jbl) (jbn) (jba) (jaa) (.int x1)  jbz p2 0 ((1 <<< (jbm &&& 31)) - 1) hw) (cwV 3 hts gX10_clover_X10_needWithin rfl rfl rfl (by decide +kernel) ⟨Nat.le_of_ble_eq_true rfl, Nat.le_of_ble_eq_true rfl⟩) ⟨cPx_blind, va_recv (q := (RX10, TX10, 19)) hK hPc (ci := 10) (q0 := 0) rfl rfl, cPx_pre hPc hK hDc hNw hY hS hFc⟩ rfl rfl hl.1 rfl (lv_room (Nat.le_of_ble_eq_true rfl)) (dt_of tkX10_clover_k0 13 rfl) ⟨Nat.le_of_ble_eq_true rfl, Nat.le_of_ble_eq_true rfl⟩) hS (fun q _ h => hFc q h) hFc (fun q _ h => hFc q h) (fun en ce q9 u t H1 locs ht hvm hpx hB hz1 hk1 hS hc9 hv9 hcl9 => ?_) (fun u t H1 locs ht hvm hw hB hz1 hk1 hS => ?_)
  · obtain ⟨x2, rfl⟩ : ∃ z, z = u := ⟨_, rfl⟩
    obtain ⟨hw, hP1, hK1, hD1⟩ := hB
    rw [ht] at hP1
    obtain ⟨hP, hD⟩ := va_joinN (wr := (wd01_37 jaR jcB jcC jbo jbp jbk jbj jbe jbq jef jbm jbi jcd jaT jbb jlO jaR jfc jbb cyI jbQ jlO cyI jmY)) (w1 := (wd01_36 a0 jaK jaR ja1 jcp jbc jbV ja3 jbH jaT jbO jaq jac jbI jbl jbn jba jaa x1 x2)) (wn := (wd01_33 a0 jaK jaR ja1 jcp jbc jbV ja3 jbH jaT jbO jaq jac jbI jbl jbn jba jaa x1 x2 jaR jcB jcC jbo jbp jbk jbj jbe jbq jef jbm jbi jcd jaT jbb jlO jaR jfc jbb cyI jbQ jlO cyI jmY)) hP hD [0] [1, 2, 3, 4] [4, 0, 1, 2, 3] hCc rfl (by decide +kernel) (by decide +kernel) (by decide +kernel) rfl hk1 hFc hP1 hD1
    generalize H1 = H at hP hS hc9 ⊢
    exact vx_out (fun x hx9 => (hXs.1 x hx9).elim) hlocks hc9 hv9 hcl9 (fun t2 ht2 hal2 => ⟨(x1, x2, jmY), trivial, ⟨hw, by rw [ht2]; exact hP, va_K.moved hal2 hK, hD⟩, hS.F ht2⟩) hS.2.2 (Nat.le_of_ble_eq_true rfl) (Nat.le_of_ble_eq_true rfl)
  obtain ⟨x2, rfl⟩ : ∃ z, z = u := ⟨_, rfl⟩
  obtain ⟨hP1, hK1, hD1⟩ := hB
  rw [ht] at hP1
  obtain ⟨hP, hD⟩ := va_joinN (wr := (wd01_37 jaR jcB jcC jbo jbp jbk jbj jbe jbq jef jbm jbi jcd jaT jbb jlO jaR jfc jbb cyI jbQ jlO cyI jmY)) (w1 := (wd01_36 a0 jaK jaR ja1 jcp jbc jbV ja3 jbH jaT jbO jaq jac jbI jbl jbn jba jaa x1 x2)) (wn := (wd01_33 a0 jaK jaR ja1 jcp jbc jbV ja3 jbH jaT jbO jaq jac jbI jbl jbn jba jaa x1 x2 jaR jcB jcC jbo jbp jbk jbj jbe jbq jef jbm jbi jcd jaT jbb jlO jaR jfc jbb cyI jbQ jlO cyI jmY)) hP hD [0] [1, 2, 3, 4] [4, 0, 1, 2, 3] hCc rfl (by decide +kernel) (by decide +kernel) (by decide +kernel) rfl hk1 hFc hP1 hD1
  generalize H1 = H at hP hS ⊢
  refine lv_aload_n hx hb (dt_of tkX10_clover_k0 14 rfl) rfl (lv_at hl 0 rfl) ?_
  refine lv_iload_n hx hb (dt_of tkX10_clover_k0 15 rfl) rfl (lv_at hl 3 rfl) ?_
  refine lv_iconst (v := 0) hx hb (dt_of tkX10_clover_k24 0 rfl) (by decide) ?_
  refine lv_sipush (v := 999) hx hb (dt_of tkX10_clover_k24 1 rfl) (by decide) ?_
  obtain ⟨hCc, hPc, hDc, hFc⟩ := va_pick (ws' := (wd01_36 a0 jaK jaR ja1 jcp jbc jbV ja3 jbH jaT jbO jaq jac jbI jbl jbn jba jaa x1 x2)) hP hD hS hA [0] (by decide +kernel) rfl
  refine vx_callv (vx_runV (As := [.int p3, .int 0, .int 999]) (rest := []) ⟨hx, hb, hml, hown, hts⟩ (ck_X10_needWithin l dC dI cyB cyI cyJ cyP a0 H.size (jaK) (.ref jaR) (ja1) (jcp) (jbc) (jbV) (ja3) (jbH) (.ref jaT) (jbO) (jaq) (jac) (jbI) (jbl) (jbn) (jba) (jaa) (.int x1)  x2 p3 0 999 hw) (cwV 3 hts gX10_clover_X10_needWithin rfl rfl rfl (by decide +kernel) ⟨Nat.le_of_ble_eq_true rfl, Nat.le_of_ble_eq_true rfl⟩) ⟨cPx_blind, va_recv (q := (RX10, TX10, 19)) hK hPc (ci := 10) (q0 := 0) rfl rfl, cPx_pre hPc hK hDc hNw hY hS hFc⟩ rfl rfl hl.1 rfl (lv_room (Nat.le_of_ble_eq_true rfl)) (dt_of tkX10_clover_k24 2 rfl) ⟨Nat.le_of_ble_eq_true rfl, Nat.le_of_ble_eq_true rfl⟩) hS (fun q _ h => hFc q h) hFc (fun q _ h => hFc q h) (fun en ce q9 u t H1 locs ht hvm hpx hB hz1 hk1 hS hc9 hv9 hcl9 => ?_) (fun u t H1 locs ht hvm hw hB hz1 hk1 hS => ?_)
  · obtain ⟨x3, rfl⟩ : ∃ z, z = u := ⟨_, rfl⟩
    obtain ⟨hw, hP1, hK1, hD1⟩ := hB
    rw [ht] at hP1
    obtain ⟨hP, hD⟩ := va_joinN (wr := (wd01_37 jaR jcB jcC jbo jbp jbk jbj jbe jbq jef jbm jbi jcd jaT jbb jlO jaR jfc jbb cyI jbQ jlO cyI jmY)) (w1 := (wd01_36 a0 jaK jaR ja1 jcp jbc jbV ja3 jbH jaT jbO jaq jac jbI jbl jbn jba jaa x1 x3)) (wn := (wd01_33 a0 jaK jaR ja1 jcp jbc jbV ja3 jbH jaT jbO jaq jac jbI jbl jbn jba jaa x1 x3 jaR jcB jcC jbo jbp jbk jbj jbe jbq jef jbm jbi jcd jaT jbb jlO jaR jfc jbb cyI jbQ jlO cyI jmY)) hP hD [0] [1, 2, 3, 4] [4, 0, 1, 2, 3] hCc rfl (by decide +kernel) (by decide +kernel) (by decide +kernel) rfl hk1 hFc hP1 hD1
    generalize H1 = H at hP hS hc9 ⊢
    exact vx_out (fun x hx9 => (hXs.1 x hx9).elim) hlocks hc9 hv9 hcl9 (fun t2 ht2 hal2 => ⟨(x1, x3, jmY), trivial, ⟨hw, by rw [ht2]; exact hP, va_K.moved hal2 hK, hD⟩, hS.F ht2⟩) hS.2.2 (Nat.le_of_ble_eq_true rfl) (Nat.le_of_ble_eq_true rfl)
  obtain ⟨x3, rfl⟩ : ∃ z, z = u := ⟨_, rfl⟩
  obtain ⟨hP1, hK1, hD1⟩ := hB
  rw [ht] at hP1
  obtain ⟨hP, hD⟩ := va_joinN (wr := (wd01_37 jaR jcB jcC jbo jbp jbk jbj jbe jbq jef jbm jbi jcd jaT jbb jlO jaR jfc jbb cyI jbQ jlO cyI jmY)) (w1 := (wd01_36 a0 jaK jaR ja1 jcp jbc jbV ja3 jbH jaT jbO jaq jac jbI jbl jbn jba jaa x1 x3)) (wn := (wd01_33 a0 jaK jaR ja1 jcp jbc jbV ja3 jbH jaT jbO jaq jac jbI jbl jbn jba jaa x1 x3 jaR jcB jcC jbo jbp jbk jbj jbe jbq jef jbm jbi jcd jaT jbb jlO jaR jfc jbb cyI jbQ jlO cyI jmY)) hP hD [0] [1, 2, 3, 4] [4, 0, 1, 2, 3] hCc rfl (by decide +kernel) (by decide +kernel) (by decide +kernel) rfl hk1 hFc hP1 hD1
  generalize H1 = H at hP hS ⊢
  refine lv_iload_n hx hb (dt_of tkX10_clover_k24 3 rfl) rfl (lv_at hl 2 rfl) ?_
  refine lv_iload_n hx hb (dt_of tkX10_clover_k24 4 rfl) rfl (lv_at hl 1 rfl) ?_
  obtain ⟨hCc, hPc, hDc, hFc⟩ := va_pick (ws' := []) hP hD hS hA [] (by decide +kernel) rfl
  refine va_calli (va_runS (As := [.int p2, .int p1]) (rest := []) ⟨hx, hb, hml, hown, hts⟩ (ck_X10_holds l dC dI cyB cyI cyJ cyP  H.size    p2 p1 hw) (va_cwS 2 hts gX10_clover_X10_holds rfl rfl rfl (by decide +kernel) ⟨Nat.le_of_ble_eq_true rfl, Nat.le_of_ble_eq_true rfl⟩) ⟨cPc_blind, cPc_pre hPc hK hDc hNw⟩ rfl rfl hl.1 rfl (lv_room (Nat.le_of_ble_eq_true rfl)) (dt_of tkX10_clover_k24 5 rfl) ⟨Nat.le_of_ble_eq_true rfl, Nat.le_of_ble_eq_true rfl⟩) hS (fun q _ h => hFc q h) hFc (fun r4 u t H1 locs ht hvm hw hB hz1 hk1 hS => ?_)
  obtain ⟨hP1, hK1, hD1⟩ := hB
  rw [ht] at hP1
  obtain ⟨hP, hD⟩ := va_joinI (wr := (wd01_33 a0 jaK jaR ja1 jcp jbc jbV ja3 jbH jaT jbO jaq jac jbI jbl jbn jba jaa x1 x3 jaR jcB jcC jbo jbp jbk jbj jbe jbq jef jbm jbi jcd jaT jbb jlO jaR jfc jbb cyI jbQ jlO cyI jmY)) (w1 := []) (wn := (wd01_33 a0 jaK jaR ja1 jcp jbc jbV ja3 jbH jaT jbO jaq jac jbI jbl jbn jba jaa x1 x3 jaR jcB jcC jbo jbp jbk jbj jbe jbq jef jbm jbi jcd jaT jbb jlO jaR jfc jbb cyI jbQ jlO cyI jmY)) hP hD [] [0, 1, 2, 3, 4] hCc rfl (by decide +kernel) (by decide +kernel) rfl hk1 hFc hP1 hD1
  generalize H1 = H at hP hS ⊢
  refine lv_if_eq (tgt := 52) hx hb (dt_of tkX10_clover_k24 6 rfl) (by decide) (fun c5 => ?_) (fun c5 => ?_)
  · have hw := hw.1 c5
    refine lv_iconst (v := 0) hx hb (dt_of tkX10_clover_k24 14 rfl) (by decide) ?_
    exact vx_ret (W.widen (k := 3) (n := 18) (Nat.le_of_ble_eq_true rfl) (Nat.le_of_ble_eq_true rfl) (W.iret (v := 0) hx hb hr (fun t ht hW => ⟨⟨0, (x1, x3, jmY), rfl, hw, by rw [ht]; exact hP, va_K.moved hW.alike hK, hD⟩, hS.F ht⟩) hS.2.2 (dt_of tkX10_clover_k24 15 rfl)))
  · have hw := hw.2 c5
    refine lv_aload_n hx hb (dt_of tkX10_clover_k24 7 rfl) rfl (lv_at hl 0 rfl) ?_
    refine va_get (D := (dC, dI)) (ci := 10) (v := .ref jaT) (C := RX10) (T := TX10) (N := 19) hx hb hts ui_X10_clover_X10 hown hK hP 0 rfl rfl 8 (by decide) (hts _ uw_X10_clover_f58) (fun _ h9 => h9) rfl (dt_of tkX10_clover_k24 8 rfl) ?_
    refine lv_iload_n hx hb (dt_of tkX10_clover_k24 9 rfl) rfl (lv_at hl 1 rfl) ?_
    refine lv_iload_n hx hb (dt_of tkX10_clover_k24 10 rfl) rfl (lv_at hl 2 rfl) ?_
    refine lv_iload_n hx hb (dt_of tkX10_clover_k24 11 rfl) rfl (lv_at hl 3 rfl) ?_
    obtain ⟨hCc, hPc, hDc, hFc⟩ := va_pick (ws' := (wd01_30 jaT jbb jlO jaR jfc jaR jcB jcC jbo jbp jbk jbj jbe jbq jef jbm jbi jcd jbb cyI jbQ jlO cyI jmY)) hP hD hS hA [2, 1, 3, 4] (by decide +kernel) rfl
    refine va_calli (va_runV (As := [.int p1, .int p2, .int p3]) (rest := []) ⟨hx, hb, hml, hown, hts⟩ (ck_X1_cloverFor l dC dI cyB cyI cyJ cyP jaT jaR jlO jbb H.size (jfc) (jcB) (jcC) (jbo) (jbp) (jbk) (jbj) (jbe) (jbq) (jef) (jbi) (jcd) jbm jbQ jmY p1 p2 p3 hw) (cwV 3 hts gX10_clover_X1_cloverFor rfl rfl rfl (by decide +kernel) ⟨Nat.le_of_ble_eq_true rfl, Nat.le_of_ble_eq_true rfl⟩) ⟨cPc_blind, va_recv (q := (RX1, TX1, 4)) hK hPc (ci := 1) (q0 := 0) rfl rfl, cPc_pre hPc hK hDc hNw⟩ rfl rfl hl.1 rfl (lv_room (Nat.le_of_ble_eq_true rfl)) (dt_of tkX10_clover_k24 12 rfl) ⟨Nat.le_of_ble_eq_true rfl, Nat.le_of_ble_eq_true rfl⟩) hS (fun q _ h => hFc q h) hFc (fun r7 u t H1 locs ht hvm hw hB hz1 hk1 hS => ?_)
    obtain ⟨f6, rfl⟩ : ∃ z, z = u := ⟨_, rfl⟩
    obtain ⟨hP1, hK1, hD1⟩ := hB
    rw [ht] at hP1
    obtain ⟨hP, hD⟩ := va_joinN (wr := (wd01_36 a0 jaK jaR ja1 jcp jbc jbV ja3 jbH jaT jbO jaq jac jbI jbl jbn jba jaa x1 x3)) (w1 := (wd01_30 jaT jbb jlO jaR jfc jaR jcB jcC jbo jbp jbk jbj jbe jbq jef jbm jbi jcd jbb cyI jbQ jlO cyI f6)) (wn := (wd01_33 a0 jaK jaR ja1 jcp jbc jbV ja3 jbH jaT jbO jaq jac jbI jbl jbn jba jaa x1 x3 jaR jcB jcC jbo jbp jbk jbj jbe jbq jef jbm jbi jcd jaT jbb jlO jaR jfc jbb cyI jbQ jlO cyI f6)) hP hD [2, 1, 3, 4] [0] [0, 2, 1, 3, 4] hCc rfl (by decide +kernel) (by decide +kernel) (by decide +kernel) rfl hk1 hFc hP1 hD1
    generalize H1 = H at hP hS ⊢
    refine lv_goto (tgt := 53) hx hb (dt_of tkX10_clover_k24 13 rfl) (by decide) ?_
    exact vx_ret (W.widen (k := 3) (n := 18) (Nat.le_of_ble_eq_true rfl) (Nat.le_of_ble_eq_true rfl) (W.iret (v := r7) hx hb hr (fun t ht hW => ⟨⟨r7, (x1, x3, f6), rfl, hw, by rw [ht]; exact hP, va_K.moved hW.alike hK, hD⟩, hS.F ht⟩) hS.2.2 (dt_of tkX10_clover_k24 15 rfl)))
theorem uw_L_clover_ct13 : (.classLink RL 13 "java/lang/IllegalArgumentException" : Cond) ∈ wsL_clover := mbL_clover 595 (by decide +kernel)
theorem uw_L_clover_ct31 : (.classLink RL 31 "java/util/NoSuchElementException" : Cond) ∈ wsL_clover := mbL_clover 2639 (by decide +kernel)
theorem uw_L_clover_cw : (.codeWith yL_clover cL_clover 6 (some .int) [(0, 12, 15, 31), (0, 12, 19, 13)] : Cond) ∈ wsL_clover := mbL_clover 3799 (by decide +kernel)
set_option maxHeartbeats 4000000 in
set_option maxRecDepth 100000 in
theorem ck_L_clover (l : Launch) (dC : Nat → ClassId) (dI : Nat → Nat → Nat) (cyB cyI cyJ cyP : ClassId) (a0 a4 jaR jaT jbb jlO sz : Nat) (jaK ja1 jcp jbc jbV ja3 jbH jbO jaq jac jbI jbl jbn jba jaa jcB jcC jbo jbp jbk jbj jbe jbq jef jbi jcd jfc : Value) (n4 : Nat) (jbm : Int32) (jbQ : Nat → Int32) (jdu jbz : Int32) (jmY : Nat → Int32) (f4 : Nat → Int64) (p1 p2 p3 : Int32) {Q : Int32 → Int32 → Int32 → (Nat → Int32) → (Nat → Int64) → Prop} (hw : wq_L_clover n4 jbm jbQ jdu jbz jmY f4 p1 p2 p3 Q) : Met l yL_clover wsL_clover ({ frames := 9, cells := 3, slots := 18, locals := 187 }) (va_Pc [.ref a0, .int p1, .int p2, .int p3, .ref a4] (cPx l (dC, dI) (kT cyB cyI cyJ cyP) (wd01_38 a0 jaK jaR ja1 jcp jbc jbV ja3 jbH jaT jbO jaq jac jbI jbl jbn jba jaa jdu jbz jaR jcB jcC jbo jbp jbk jbj jbe jbq jef jbm jbi jcd jaT jbb jlO jaR jfc jbb cyI jbQ jlO cyI jmY a4 cyJ n4 f4) sz)) (va_Qi (fun (r : Int32) (u : Int32 × Int32 × (Nat → Int32) × (Nat → Int64)) => Q r u.1 u.2.1 u.2.2.1 u.2.2.2) (cB (dC, dI) (kT cyB cyI cyJ cyP) (va_A (wd01_38 a0 jaK jaR ja1 jcp jbc jbV ja3 jbH jaT jbO jaq jac jbI jbl jbn jba jaa jdu jbz jaR jcB jcC jbo jbp jbk jbj jbe jbq jef jbm jbi jcd jaT jbb jlO jaR jfc jbb cyI jbQ jlO cyI jmY a4 cyJ n4 f4) sz) (fun u : Int32 × Int32 × (Nat → Int32) × (Nat → Int64) => ((wd01_38 a0 jaK jaR ja1 jcp jbc jbV ja3 jbH jaT jbO jaq jac jbI jbl jbn jba jaa u.1 u.2.1 jaR jcB jcC jbo jbp jbk jbj jbe jbq jef jbm jbi jcd jaT jbb jlO jaR jfc jbb cyI jbQ jlO cyI u.2.2.1 a4 cyJ n4 u.2.2.2) : va_W))) (va_A (wd01_38 a0 jaK jaR ja1 jcp jbc jbV ja3 jbH jaT jbO jaq jac jbI jbl jbn jba jaa jdu jbz jaR jcB jcC jbo jbp jbk jbj jbe jbq jef jbm jbi jcd jaT jbb jlO jaR jfc jbb cyI jbQ jlO cyI jmY a4 cyJ n4 f4) sz)) 3 18 (va_A (wd01_38 a0 jaK jaR ja1 jcp jbc jbV ja3 jbH jaT jbO jaq jac jbI jbl jbn jba jaa jdu jbz jaR jcB jcC jbo jbp jbk jbj jbe jbq jef jbm jbi jcd jaT jbb jlO jaR jfc jbb cyI jbQ jlO cyI jmY a4 cyJ n4 f4) sz) := by
  refine va_MetW (cc := cL_clover) (maxL := 6) (ret := (some .int)) (by decide) rfl ?_
  intro p e s m args below meth c s₁ B hml hv
  obtain ⟨rfl, hsz, hP, hK, hD0, hNw, hXl, hXu, hXn, hXt⟩ := hv
  have hx := B.exec
  have hb := B.bytes
  have hr := B.returns
  have hts := atoms_spec (ws := wsL_clover) B.pre
  have hown : s.vm.findClass RL = some m.cls := findClass_of_methodNamed B.named
  have hlocks := B.notSynchronized
  subst hsz
  have hD := hD0.self (sz := s.heap.size)
  generalize hAe : va_A (wd01_38 a0 jaK jaR ja1 jcp jbc jbV ja3 jbH jaT jbO jaq jac jbI jbl jbn jba jaa jdu jbz jaR jcB jcC jbo jbp jbk jbj jbe jbq jef jbm jbi jcd jaT jbb jlO jaR jfc jbb cyI jbQ jlO cyI jmY a4 cyJ n4 f4) s.heap.size = A at hD hXu hXn ⊢
  have hA : ∀ q : Nat, s.heap.size ≤ q → A q := fun q h => by rw [← hAe]; exact Or.inr h
  have hS : va_S A s.heap s.heap [] := va_S.rf
  have hP : va_P (dC, dI) vwCl (wd01_38 a0 jaK jaR ja1 jcp jbc jbV ja3 jbH jaT jbO jaq jac jbI jbl jbn jba jaa jdu jbz jaR jcB jcC jbo jbp jbk jbj jbe jbq jef jbm jbi jcd jaT jbb jlO jaR jfc jbb cyI jbQ jlO cyI jmY a4 cyJ n4 f4) s.heap := hP
  have hl := lv_entry ([.ref a0, .int p1, .int p2, .int p3, .ref a4]) (n := 6) (Nat.le_of_ble_eq_true rfl)
  rw [lg_entry_eq]
  generalize (lg_sl ([.ref a0, .int p1, .int p2, .int p3, .ref a4]) ++ List.replicate (6 - (lg_sl ([.ref a0, .int p1, .int p2, .int p3, .ref a4])).length) Slot.unset).toArray = ls at hl ⊢
  have hl : lv_has ls 6 [(0, .ref a0), (1, .int p1), (2, .int p2), (3, .int p3), (4, .ref a4)] := hl
  have hY : cfY l s A := ⟨hXl, hXu, hXn, hXt⟩
  have hTb := vx_table (x := yL_clover) B (hts _ uw_L_clover_cw)
  clear hAe
  obtain ⟨H, hH⟩ : ∃ H, H = s.heap := ⟨_, rfl⟩
  rw [← hH] at hP ⊢
  have hS : va_S A s.heap H [] := by rw [hH]; exact va_S.rf
  have hS := hS
  refine lv_aload hx hb (dt_of tkL_clover_k0 0 rfl) (lv_at hl 4 rfl) ?_
  refine lv_iconst (v := 0) hx hb (dt_of tkL_clover_k0 1 rfl) (by decide) ?_
  refine lv_aload_n hx hb (dt_of tkL_clover_k0 2 rfl) rfl (lv_at hl 0 rfl) ?_
  refine lv_iload_n hx hb (dt_of tkL_clover_k0 3 rfl) rfl (lv_at hl 1 rfl) ?_
  refine lv_iload_n hx hb (dt_of tkL_clover_k0 4 rfl) rfl (lv_at hl 2 rfl) ?_
  refine lv_iload_n hx hb (dt_of tkL_clover_k0 5 rfl) rfl (lv_at hl 3 rfl) ?_
  obtain ⟨hCc, hPc, hDc, hFc⟩ := va_pick (ws' := (wd01_33 a0 jaK jaR ja1 jcp jbc jbV ja3 jbH jaT jbO jaq jac jbI jbl jbn jba jaa jdu jbz jaR jcB jcC jbo jbp jbk jbj jbe jbq jef jbm jbi jcd jaT jbb jlO jaR jfc jbb cyI jbQ jlO cyI jmY)) hP hD hS hA [0, 1, 2, 3, 4] (by decide +kernel) rfl
  refine vx_calli (vx_runV (As := [.int p1, .int p2, .int p3]) (rest := [.int 0, .ref a4]) ⟨hx, hb, hml, hown, hts⟩ (ck_X10_clover l dC dI cyB cyI cyJ cyP a0 jaR jaT jbb jlO H.size (jaK) (ja1) (jcp) (jbc) (jbV) (ja3) (jbH) (jbO) (jaq) (jac) (jbI) (jbl) (jbn) (jba) (jaa) (jcB) (jcC) (jbo) (jbp) (jbk) (jbj) (jbe) (jbq) (jef) (jbi) (jcd) (jfc) jbm jbQ jdu jbz jmY p1 p2 p3 hw) (cwV 3 hts gL_clover_X10_clover rfl rfl rfl (by decide +kernel) ⟨Nat.le_of_ble_eq_true rfl, Nat.le_of_ble_eq_true rfl⟩) ⟨cPx_blind, va_recv (q := (RX10, TX10, 19)) hK hPc (ci := 10) (q0 := 0) rfl rfl, cPx_pre hPc hK hDc hNw hY hS hFc⟩ rfl rfl hl.1 rfl (lv_room (Nat.le_of_ble_eq_true rfl)) (dt_of tkL_clover_k0 6 rfl) ⟨Nat.le_of_ble_eq_true rfl, Nat.le_of_ble_eq_true rfl⟩) hS (fun q _ h => hFc q h) hFc (fun q _ h => hFc q h) (fun en ce qx9 u t H1 locs ht hvm hpx hB hz1 hk1 hS hc9 hv9 hcl9 => ?_) (fun r4 u t H1 locs ht hvm hw hB hz1 hk1 hS => ?_)
  · obtain ⟨x1, x2, f3⟩ := u
    obtain ⟨hw, hP1, hK1, hD1⟩ := hB
    rw [ht] at hP1
    obtain ⟨hP, hD⟩ := va_joinN (wr := [(a4, .inl (cyJ, n4, .inr (.inl f4)))]) (w1 := (wd01_33 a0 jaK jaR ja1 jcp jbc jbV ja3 jbH jaT jbO jaq jac jbI jbl jbn jba jaa x1 x2 jaR jcB jcC jbo jbp jbk jbj jbe jbq jef jbm jbi jcd jaT jbb jlO jaR jfc jbb cyI jbQ jlO cyI f3)) (wn := (wd01_38 a0 jaK jaR ja1 jcp jbc jbV ja3 jbH jaT jbO jaq jac jbI jbl jbn jba jaa x1 x2 jaR jcB jcC jbo jbp jbk jbj jbe jbq jef jbm jbi jcd jaT jbb jlO jaR jfc jbb cyI jbQ jlO cyI f3 a4 cyJ n4 f4)) hP hD [0, 1, 2, 3, 4] [5] [1, 2, 3, 4, 5, 0] hCc rfl (by decide +kernel) (by decide +kernel) (by decide +kernel) rfl hk1 hFc hP1 hD1
    generalize H1 = H at hP hS hc9 ⊢
    rcases hw with ⟨rfl, hw⟩ | ⟨rfl, hw⟩
    · refine vx_catch (own := RL) (name := "java/util/NoSuchElementException") hown [] ⟨0, 12, 15, 31⟩ [⟨0, 12, 19, 13⟩] (hTb.trans rfl) (fun z hz => nomatch hz) (by decide) (by decide) (hts _ uw_L_clover_ct31) (va_Nw.use rfl (hY.2.2.2.1.2 _ (List.mem_of_getElem? (i := 1) rfl))) hc9 hv9 hcl9 ?_
      refine lv_astore (lv' := [(5, .ref qx9), (0, .ref a0), (1, .int p1), (2, .int p2), (3, .int p3), (4, .ref a4)]) hx hb (dt_of tkL_clover_k0 10 rfl) hl (by decide) rfl (fun ls hl => ?_)
      refine lv_iconst (v := 1) hx hb (dt_of tkL_clover_k0 11 rfl) (by decide) ?_
      exact (W.widen (k := 3) (n := 18) (Nat.le_of_ble_eq_true rfl) (Nat.le_of_ble_eq_true rfl) (W.iret (v := 1) hx hb hr (fun t ht hW => ⟨⟨1, (x1, x2, f3, f4), rfl, hw, by rw [ht]; exact hP, va_K.moved hW.alike hK, hD⟩, hS.F ht⟩) hS.2.2 (dt_of tkL_clover_k0 12 rfl)))
    · refine vx_catch (own := RL) (name := "java/lang/IllegalArgumentException") hown [⟨0, 12, 15, 31⟩] ⟨0, 12, 19, 13⟩ [] (hTb.trans rfl) (fun z hz => by rw [List.mem_singleton.mp hz]; exact Or.inr ⟨by decide, _, (hts _ uw_L_clover_ct31), hY.2.2.2.2.2⟩) (by decide) (by decide) (hts _ uw_L_clover_ct13) (va_Nw.use rfl (hY.2.2.2.1.2 _ (List.mem_of_getElem? (i := 0) rfl))) hc9 hv9 hcl9 ?_
      refine lv_astore (lv' := [(5, .ref qx9), (0, .ref a0), (1, .int p1), (2, .int p2), (3, .int p3), (4, .ref a4)]) hx hb (dt_of tkL_clover_k0 13 rfl) hl (by decide) rfl (fun ls hl => ?_)
      refine lv_iconst (v := 2) hx hb (dt_of tkL_clover_k0 14 rfl) (by decide) ?_
      exact (W.widen (k := 3) (n := 18) (Nat.le_of_ble_eq_true rfl) (Nat.le_of_ble_eq_true rfl) (W.iret (v := 2) hx hb hr (fun t ht hW => ⟨⟨2, (x1, x2, f3, f4), rfl, hw, by rw [ht]; exact hP, va_K.moved hW.alike hK, hD⟩, hS.F ht⟩) hS.2.2 (dt_of tkL_clover_k0 15 rfl)))
  obtain ⟨x1, x2, f3⟩ := u
  obtain ⟨hP1, hK1, hD1⟩ := hB
  rw [ht] at hP1
  obtain ⟨hP, hD⟩ := va_join (wr := [(a4, .inl (cyJ, n4, .inr (.inl f4)))]) (w1 := (wd01_33 a0 jaK jaR ja1 jcp jbc jbV ja3 jbH jaT jbO jaq jac jbI jbl jbn jba jaa x1 x2 jaR jcB jcC jbo jbp jbk jbj jbe jbq jef jbm jbi jcd jaT jbb jlO jaR jfc jbb cyI jbQ jlO cyI f3)) hP hD [0, 1, 2, 3, 4] [5] rfl rfl (by decide) (by decide) hk1 hFc hP1 hD1
  have hP : va_P (dC, dI) vwCl (wd01_38 a0 jaK jaR ja1 jcp jbc jbV ja3 jbH jaT jbO jaq jac jbI jbl jbn jba jaa x1 x2 jaR jcB jcC jbo jbp jbk jbj jbe jbq jef jbm jbi jcd jaT jbb jlO jaR jfc jbb cyI jbQ jlO cyI f3 a4 cyJ n4 f4) H1 := hP.sub [1, 2, 3, 4, 5, 0] rfl
  have hD : va_D A (wd01_38 a0 jaK jaR ja1 jcp jbc jbV ja3 jbH jaT jbO jaq jac jbI jbl jbn jba jaa x1 x2 jaR jcB jcC jbo jbp jbk jbj jbe jbq jef jbm jbi jcd jaT jbb jlO jaR jfc jbb cyI jbQ jlO cyI f3 a4 cyJ n4 f4) := hD.sub [1, 2, 3, 4, 5, 0] (by decide) rfl
  generalize H1 = H at hP hS ⊢
  refine lv_i2l (v := r4.toInt64) hx hb (dt_of tkL_clover_k0 7 rfl) rfl ?_
  refine lv_topl (fun x5 ex5 => ?_)
  have hw := hw x5 ex5
  obtain ⟨hi9, hw⟩ := hw
  refine va_last hx hb hK hP hD hS 5 2 rfl rfl hi9 (dt_of tkL_clover_k0 8 rfl) (fun H locs hP hD hS => ?_)
  obtain ⟨f6, ef6⟩ : ∃ y : Nat → Int64, y = vp_updL f4 (0 : Int32).toNatClampNeg x5 := ⟨_, rfl⟩
  have hw := hw f6 ef6
  have hP : va_P (dC, dI) vwCl (wd01_38 a0 jaK jaR ja1 jcp jbc jbV ja3 jbH jaT jbO jaq jac jbI jbl jbn jba jaa x1 x2 jaR jcB jcC jbo jbp jbk jbj jbe jbq jef jbm jbi jcd jaT jbb jlO jaR jfc jbb cyI jbQ jlO cyI f3 a4 cyJ n4 f6) H := by rw [ef6]; exact hP
  have hD : va_D A (wd01_38 a0 jaK jaR ja1 jcp jbc jbV ja3 jbH jaT jbO jaq jac jbI jbl jbn jba jaa x1 x2 jaR jcB jcC jbo jbp jbk jbj jbe jbq jef jbm jbi jcd jaT jbb jlO jaR jfc jbb cyI jbQ jlO cyI f3 a4 cyJ n4 f6) := by rw [ef6]; exact hD
  refine lv_goto (tgt := 23) hx hb (dt_of tkL_clover_k0 9 rfl) (by decide) ?_
  refine lv_iconst (v := 0) hx hb (dt_of tkL_clover_k23 0 rfl) (by decide) ?_
  exact (W.widen (k := 3) (n := 18) (Nat.le_of_ble_eq_true rfl) (Nat.le_of_ble_eq_true rfl) (W.iret (v := 0) hx hb hr (fun t ht hW => ⟨⟨0, (x1, x2, f3, f6), rfl, hw, by rw [ht]; exact hP, va_K.moved hW.alike hK, hD⟩, hS.F ht⟩) hS.2.2 (dt_of tkL_clover_k23 1 rfl)))
theorem ui_X10_debt_X10 : ∀ w ∈ u_ws RX10 TX10 19, w ∈ wsX10_debt := uiM mbX10_debt euX10 (by decide +kernel)
theorem uw_X10_debt_f58 : (.fieldLink RX10 58 "MarchHares" "now" "LMarchHares$Days;" : Cond) ∈ wsX10_debt := mbX10_debt 79 (by decide +kernel)
set_option maxHeartbeats 4000000 in
set_option maxRecDepth 100000 in
theorem ck_X10_debt (l : Launch) (dC : Nat → ClassId) (dI : Nat → Nat → Nat) (cyB cyI cyJ cyP : ClassId) (a0 jaR jaT jbb sz : Nat) (jaK ja1 jcp jbc jbV ja3 jbH jbO jaq jac jbI jbl jbn jba jaa jdD jcB jcC jbo jbp jbk jbj jbe jbq jef jbi jcd jbr jhD jfc : Value) (jbm : Int32) (jbQ : Nat → Int32) (jdu p1 p2 : Int32) {E : String → Int32 → Prop} {Q : Int32 → Int32 → Prop} (hw : wq_X10_debt jbm jbQ jdu p1 p2 E Q) : vx_Met l yX10_debt wsX10_debt ({ frames := 7, cells := 2, slots := 12, locals := 141 }) (va_Pc [.ref a0, .int p1, .int p2] (cPx l (dC, dI) (kT cyB cyI cyJ cyP) (wd01_39 a0 jaK jaR ja1 jcp jbc jbV ja3 jbH jaT jbO jaq jac jbI jbl jbn jba jaa jdu jdD jaR jcB jcC jbo jbp jbk jbj jbe jbq jef jbm jbi jcd jaT jbb jbr jhD jfc jbb cyI jbQ) sz)) (va_Qi (fun (r u : Int32) => Q r u) (cB (dC, dI) (kT cyB cyI cyJ cyP) (va_A (wd01_39 a0 jaK jaR ja1 jcp jbc jbV ja3 jbH jaT jbO jaq jac jbI jbl jbn jba jaa jdu jdD jaR jcB jcC jbo jbp jbk jbj jbe jbq jef jbm jbi jcd jaT jbb jbr jhD jfc jbb cyI jbQ) sz) (fun u : Int32 => ((wd01_39 a0 jaK jaR ja1 jcp jbc jbV ja3 jbH jaT jbO jaq jac jbI jbl jbn jba jaa u jdD jaR jcB jcC jbo jbp jbk jbj jbe jbq jef jbm jbi jcd jaT jbb jbr jhD jfc jbb cyI jbQ) : va_W))) (va_A (wd01_39 a0 jaK jaR ja1 jcp jbc jbV ja3 jbH jaT jbO jaq jac jbI jbl jbn jba jaa jdu jdD jaR jcB jcC jbo jbp jbk jbj jbe jbq jef jbm jbi jcd jaT jbb jbr jhD jfc jbb cyI jbQ) sz)) (vx_X (fun _ => True) (fun (en : String) (u : Int32) (t : State) => E en u ∧ cB (dC, dI) (kT cyB cyI cyJ cyP) (va_A (wd01_39 a0 jaK jaR ja1 jcp jbc jbV ja3 jbH jaT jbO jaq jac jbI jbl jbn jba jaa jdu jdD jaR jcB jcC jbo jbp jbk jbj jbe jbq jef jbm jbi jcd jaT jbb jbr jhD jfc jbb cyI jbQ) sz) (fun u : Int32 => ((wd01_39 a0 jaK jaR ja1 jcp jbc jbV ja3 jbH jaT jbO jaq jac jbI jbl jbn jba jaa u jdD jaR jcB jcC jbo jbp jbk jbj jbe jbq jef jbm jbi jcd jaT jbb jbr jhD jfc jbb cyI jbQ) : va_W)) u t) (va_A (wd01_39 a0 jaK jaR ja1 jcp jbc jbV ja3 jbH jaT jbO jaq jac jbI jbl jbn jba jaa jdu jdD jaR jcB jcC jbo jbp jbk jbj jbe jbq jef jbm jbi jcd jaT jbb jbr jhD jfc jbb cyI jbQ) sz)) 2 12 (va_A (wd01_39 a0 jaK jaR ja1 jcp jbc jbV ja3 jbH jaT jbO jaq jac jbI jbl jbn jba jaa jdu jdD jaR jcB jcC jbo jbp jbk jbj jbe jbq jef jbm jbi jcd jaT jbb jbr jhD jfc jbb cyI jbQ) sz) := by
  refine vx_ofW (cc := cX10_debt) (maxL := 3) (ret := (some .int)) (by decide) rfl ?_
  intro p e s m args below meth c s₁ B hml hnt hv
  obtain ⟨rfl, hsz, hP, hK, hD0, hNw, hXl, hXu, hXn, hXt⟩ := hv
  have hx := B.exec
  have hb := B.bytes
  have hr := B.returns
  have hts := atoms_spec (ws := wsX10_debt) B.pre
  have hown : s.vm.findClass RX10 = some m.cls := findClass_of_methodNamed B.named
  have hlocks := B.notSynchronized
  subst hsz
  have hD := hD0.self (sz := s.heap.size)
  generalize hAe : va_A (wd01_39 a0 jaK jaR ja1 jcp jbc jbV ja3 jbH jaT jbO jaq jac jbI jbl jbn jba jaa jdu jdD jaR jcB jcC jbo jbp jbk jbj jbe jbq jef jbm jbi jcd jaT jbb jbr jhD jfc jbb cyI jbQ) s.heap.size = A at hD hXu hXn ⊢
  have hA : ∀ q : Nat, s.heap.size ≤ q → A q := fun q h => by rw [← hAe]; exact Or.inr h
  have hS : va_S A s.heap s.heap [] := va_S.rf
  have hP : va_P (dC, dI) vwCl (wd01_39 a0 jaK jaR ja1 jcp jbc jbV ja3 jbH jaT jbO jaq jac jbI jbl jbn jba jaa jdu jdD jaR jcB jcC jbo jbp jbk jbj jbe jbq jef jbm jbi jcd jaT jbb jbr jhD jfc jbb cyI jbQ) s.heap := hP
  have hl := lv_entry ([.ref a0, .int p1, .int p2]) (n := 3) (Nat.le_of_ble_eq_true rfl)
  rw [lg_entry_eq]
  generalize (lg_sl ([.ref a0, .int p1, .int p2]) ++ List.replicate (3 - (lg_sl ([.ref a0, .int p1, .int p2])).length) Slot.unset).toArray = ls at hl ⊢
  have hl : lv_has ls 3 [(0, .ref a0), (1, .int p1), (2, .int p2)] := hl
  have hY : cfY l s A := ⟨hXl, hXu, hXn, hXt⟩
  have hXs : cfX l s c A := ⟨hnt, hY⟩
  have C0 : cfx p s m _ meth c cX10_debt (some .int) wsX10_debt RX10 3 A (dC, dI) (kT cyB cyI cyJ cyP) ∧ cfX l s c A := ⟨⟨hx, hb, hr, hts, hown, hlocks, hml, hA, hK, hNw⟩, hXs⟩
  clear hAe
  obtain ⟨H, hH⟩ : ∃ H, H = s.heap := ⟨_, rfl⟩
  rw [← hH] at hP ⊢
  have hS : va_S A s.heap H [] := by rw [hH]; exact va_S.rf
  have hS := hS
  refine lv_aload_n hx hb (dt_of tkX10_debt_k0 0 rfl) rfl (lv_at hl 0 rfl) ?_
  refine lv_iload_n hx hb (dt_of tkX10_debt_k0 1 rfl) rfl (lv_at hl 1 rfl) ?_
  obtain ⟨hCc, hPc, hDc, hFc⟩ := va_pick (ws' := (wd01_2 a0 jaK jaR ja1 jcp jbc jbV ja3 jbH jaT jbO jaq jac jbI jbl jbn jba jaa jdu jdD jaR jcB jcC jbo jbp jbk jbj jbe jbq jef jbm jbi jcd)) hP hD hS hA [0, 1] (by decide +kernel) rfl
  refine vx_callv (vx_runV (As := [.int p1]) (rest := []) ⟨hx, hb, hml, hown, hts⟩ (ck_X10_needHare l dC dI cyB cyI cyJ cyP a0 jaR H.size (jaK) (ja1) (jcp) (jbc) (jbV) (ja3) (jbH) (.ref jaT) (jbO) (jaq) (jac) (jbI) (jbl) (jbn) (jba) (jaa) (jdD) (jcB) (jcC) (jbo) (jbp) (jbk) (jbj) (jbe) (jbq) (jef) (jbi) (jcd) jbm jdu p1 hw) (cwV 1 hts gX10_debt_X10_needHare rfl rfl rfl (by decide +kernel) ⟨Nat.le_of_ble_eq_true rfl, Nat.le_of_ble_eq_true rfl⟩) ⟨cPx_blind, va_recv (q := (RX10, TX10, 19)) hK hPc (ci := 10) (q0 := 0) rfl rfl, cPx_pre hPc hK hDc hNw hY hS hFc⟩ rfl rfl hl.1 rfl (lv_room (Nat.le_of_ble_eq_true rfl)) (dt_of tkX10_debt_k0 2 rfl) ⟨Nat.le_of_ble_eq_true rfl, Nat.le_of_ble_eq_true rfl⟩) hS (fun q _ h => hFc q h) hFc (fun q _ h => hFc q h) (fun en ce q9 u t H1 locs ht hvm hpx hB hz1 hk1 hS hc9 hv9 hcl9 => ?_) (fun u t H1 locs ht hvm hw hB hz1 hk1 hS => ?_)
  · obtain ⟨x1, rfl⟩ : ∃ z, z = u := ⟨_, rfl⟩
    obtain ⟨hw, hP1, hK1, hD1⟩ := hB
    rw [ht] at hP1
    obtain ⟨hP, hD⟩ := va_joinN (wr := (wd01_10 jaT jbb jbr jhD jfc jbb cyI jbQ)) (w1 := (wd01_2 a0 jaK jaR ja1 jcp jbc jbV ja3 jbH jaT jbO jaq jac jbI jbl jbn jba jaa x1 jdD jaR jcB jcC jbo jbp jbk jbj jbe jbq jef jbm jbi jcd)) (wn := (wd01_39 a0 jaK jaR ja1 jcp jbc jbV ja3 jbH jaT jbO jaq jac jbI jbl jbn jba jaa x1 jdD jaR jcB jcC jbo jbp jbk jbj jbe jbq jef jbm jbi jcd jaT jbb jbr jhD jfc jbb cyI jbQ)) hP hD [0, 1] [2, 3] [2, 3, 0, 1] hCc rfl (by decide +kernel) (by decide +kernel) (by decide +kernel) rfl hk1 hFc hP1 hD1
    generalize H1 = H at hP hS hc9 ⊢
    exact vx_out (fun x hx9 => (hXs.1 x hx9).elim) hlocks hc9 hv9 hcl9 (fun t2 ht2 hal2 => ⟨(x1), trivial, ⟨hw, by rw [ht2]; exact hP, va_K.moved hal2 hK, hD⟩, hS.F ht2⟩) hS.2.2 (Nat.le_of_ble_eq_true rfl) (Nat.le_of_ble_eq_true rfl)
  obtain ⟨x1, rfl⟩ : ∃ z, z = u := ⟨_, rfl⟩
  obtain ⟨hP1, hK1, hD1⟩ := hB
  rw [ht] at hP1
  obtain ⟨hP, hD⟩ := va_joinN (wr := (wd01_10 jaT jbb jbr jhD jfc jbb cyI jbQ)) (w1 := (wd01_2 a0 jaK jaR ja1 jcp jbc jbV ja3 jbH jaT jbO jaq jac jbI jbl jbn jba jaa x1 jdD jaR jcB jcC jbo jbp jbk jbj jbe jbq jef jbm jbi jcd)) (wn := (wd01_39 a0 jaK jaR ja1 jcp jbc jbV ja3 jbH jaT jbO jaq jac jbI jbl jbn jba jaa x1 jdD jaR jcB jcC jbo jbp jbk jbj jbe jbq jef jbm jbi jcd jaT jbb jbr jhD jfc jbb cyI jbQ)) hP hD [0, 1] [2, 3] [2, 3, 0, 1] hCc rfl (by decide +kernel) (by decide +kernel) (by decide +kernel) rfl hk1 hFc hP1 hD1
  generalize H1 = H at hP hS ⊢
  refine lv_aload_n hx hb (dt_of tkX10_debt_k0 3 rfl) rfl (lv_at hl 0 rfl) ?_
  refine lv_iload_n hx hb (dt_of tkX10_debt_k0 4 rfl) rfl (lv_at hl 2 rfl) ?_
  obtain ⟨hCc, hPc, hDc, hFc⟩ := va_pick (ws' := (wd01_2 a0 jaK jaR ja1 jcp jbc jbV ja3 jbH jaT jbO jaq jac jbI jbl jbn jba jaa x1 jdD jaR jcB jcC jbo jbp jbk jbj jbe jbq jef jbm jbi jcd)) hP hD hS hA [0, 1] (by decide +kernel) rfl
  refine vx_callv (vx_runV (As := [.int p2]) (rest := []) ⟨hx, hb, hml, hown, hts⟩ (ck_X10_needHare l dC dI cyB cyI cyJ cyP a0 jaR H.size (jaK) (ja1) (jcp) (jbc) (jbV) (ja3) (jbH) (.ref jaT) (jbO) (jaq) (jac) (jbI) (jbl) (jbn) (jba) (jaa) (jdD) (jcB) (jcC) (jbo) (jbp) (jbk) (jbj) (jbe) (jbq) (jef) (jbi) (jcd) jbm x1 p2 hw) (cwV 1 hts gX10_debt_X10_needHare rfl rfl rfl (by decide +kernel) ⟨Nat.le_of_ble_eq_true rfl, Nat.le_of_ble_eq_true rfl⟩) ⟨cPx_blind, va_recv (q := (RX10, TX10, 19)) hK hPc (ci := 10) (q0 := 0) rfl rfl, cPx_pre hPc hK hDc hNw hY hS hFc⟩ rfl rfl hl.1 rfl (lv_room (Nat.le_of_ble_eq_true rfl)) (dt_of tkX10_debt_k0 5 rfl) ⟨Nat.le_of_ble_eq_true rfl, Nat.le_of_ble_eq_true rfl⟩) hS (fun q _ h => hFc q h) hFc (fun q _ h => hFc q h) (fun en ce q9 u t H1 locs ht hvm hpx hB hz1 hk1 hS hc9 hv9 hcl9 => ?_) (fun u t H1 locs ht hvm hw hB hz1 hk1 hS => ?_)
  · obtain ⟨x2, rfl⟩ : ∃ z, z = u := ⟨_, rfl⟩
    obtain ⟨hw, hP1, hK1, hD1⟩ := hB
    rw [ht] at hP1
    obtain ⟨hP, hD⟩ := va_joinN (wr := (wd01_10 jaT jbb jbr jhD jfc jbb cyI jbQ)) (w1 := (wd01_2 a0 jaK jaR ja1 jcp jbc jbV ja3 jbH jaT jbO jaq jac jbI jbl jbn jba jaa x2 jdD jaR jcB jcC jbo jbp jbk jbj jbe jbq jef jbm jbi jcd)) (wn := (wd01_39 a0 jaK jaR ja1 jcp jbc jbV ja3 jbH jaT jbO jaq jac jbI jbl jbn jba jaa x2 jdD jaR jcB jcC jbo jbp jbk jbj jbe jbq jef jbm jbi jcd jaT jbb jbr jhD jfc jbb cyI jbQ)) hP hD [0, 1] [2, 3] [2, 3, 0, 1] hCc rfl (by decide +kernel) (by decide +kernel) (by decide +kernel) rfl hk1 hFc hP1 hD1
    generalize H1 = H at hP hS hc9 ⊢
    exact vx_out (fun x hx9 => (hXs.1 x hx9).elim) hlocks hc9 hv9 hcl9 (fun t2 ht2 hal2 => ⟨(x2), trivial, ⟨hw, by rw [ht2]; exact hP, va_K.moved hal2 hK, hD⟩, hS.F ht2⟩) hS.2.2 (Nat.le_of_ble_eq_true rfl) (Nat.le_of_ble_eq_true rfl)
  obtain ⟨x2, rfl⟩ : ∃ z, z = u := ⟨_, rfl⟩
  obtain ⟨hP1, hK1, hD1⟩ := hB
  rw [ht] at hP1
  obtain ⟨hP, hD⟩ := va_joinN (wr := (wd01_10 jaT jbb jbr jhD jfc jbb cyI jbQ)) (w1 := (wd01_2 a0 jaK jaR ja1 jcp jbc jbV ja3 jbH jaT jbO jaq jac jbI jbl jbn jba jaa x2 jdD jaR jcB jcC jbo jbp jbk jbj jbe jbq jef jbm jbi jcd)) (wn := (wd01_39 a0 jaK jaR ja1 jcp jbc jbV ja3 jbH jaT jbO jaq jac jbI jbl jbn jba jaa x2 jdD jaR jcB jcC jbo jbp jbk jbj jbe jbq jef jbm jbi jcd jaT jbb jbr jhD jfc jbb cyI jbQ)) hP hD [0, 1] [2, 3] [2, 3, 0, 1] hCc rfl (by decide +kernel) (by decide +kernel) (by decide +kernel) rfl hk1 hFc hP1 hD1
  generalize H1 = H at hP hS ⊢
  refine lv_aload_n hx hb (dt_of tkX10_debt_k0 6 rfl) rfl (lv_at hl 0 rfl) ?_
  refine va_get (D := (dC, dI)) (ci := 10) (v := .ref jaT) (C := RX10) (T := TX10) (N := 19) hx hb hts ui_X10_debt_X10 hown hK hP 0 rfl rfl 8 (by decide) (hts _ uw_X10_debt_f58) (fun _ h9 => h9) rfl (dt_of tkX10_debt_k0 7 rfl) ?_
  refine lv_iload_n hx hb (dt_of tkX10_debt_k0 8 rfl) rfl (lv_at hl 1 rfl) ?_
  refine lv_iload_n hx hb (dt_of tkX10_debt_k0 9 rfl) rfl (lv_at hl 2 rfl) ?_
  obtain ⟨hCc, hPc, hDc, hFc⟩ := va_pick (ws' := (wd01_10 jaT jbb jbr jhD jfc jbb cyI jbQ)) hP hD hS hA [2, 3] (by decide +kernel) rfl
  refine va_calli (va_runV (As := [.int p1, .int p2]) (rest := []) ⟨hx, hb, hml, hown, hts⟩ (ck_X1_owesTo l dC dI cyB cyI cyJ cyP jaT jbb H.size (jbr) (jhD) (jfc) jbQ  p1 p2 hw) (cwV 2 hts gX10_debt_X1_owesTo rfl rfl rfl (by decide +kernel) ⟨Nat.le_of_ble_eq_true rfl, Nat.le_of_ble_eq_true rfl⟩) ⟨cPc_blind, va_recv (q := (RX1, TX1, 4)) hK hPc (ci := 1) (q0 := 0) rfl rfl, cPc_pre hPc hK hDc hNw⟩ rfl rfl hl.1 rfl (lv_room (Nat.le_of_ble_eq_true rfl)) (dt_of tkX10_debt_k0 10 rfl) ⟨Nat.le_of_ble_eq_true rfl, Nat.le_of_ble_eq_true rfl⟩) hS (fun q _ h => hFc q h) hFc (fun r3 u t H1 locs ht hvm hw hB hz1 hk1 hS => ?_)
  obtain ⟨hP1, hK1, hD1⟩ := hB
  rw [ht] at hP1
  obtain ⟨hP, hD⟩ := va_joinI (wr := (wd01_2 a0 jaK jaR ja1 jcp jbc jbV ja3 jbH jaT jbO jaq jac jbI jbl jbn jba jaa x2 jdD jaR jcB jcC jbo jbp jbk jbj jbe jbq jef jbm jbi jcd)) (w1 := (wd01_10 jaT jbb jbr jhD jfc jbb cyI jbQ)) (wn := (wd01_39 a0 jaK jaR ja1 jcp jbc jbV ja3 jbH jaT jbO jaq jac jbI jbl jbn jba jaa x2 jdD jaR jcB jcC jbo jbp jbk jbj jbe jbq jef jbm jbi jcd jaT jbb jbr jhD jfc jbb cyI jbQ)) hP hD [2, 3] [0, 1] hCc rfl (by decide +kernel) (by decide +kernel) rfl hk1 hFc hP1 hD1
  generalize H1 = H at hP hS ⊢
  exact vx_ret (W.widen (k := 2) (n := 12) (Nat.le_of_ble_eq_true rfl) (Nat.le_of_ble_eq_true rfl) (W.iret (v := r3) hx hb hr (fun t ht hW => ⟨⟨r3, (x2), rfl, hw, by rw [ht]; exact hP, va_K.moved hW.alike hK, hD⟩, hS.F ht⟩) hS.2.2 (dt_of tkX10_debt_k0 11 rfl)))
theorem uw_L_debt_ct31 : (.classLink RL 31 "java/util/NoSuchElementException" : Cond) ∈ wsL_debt := mbL_debt 2639 (by decide +kernel)
theorem uw_L_debt_cw : (.codeWith yL_debt cL_debt 5 (some .int) [(0, 10, 13, 31)] : Cond) ∈ wsL_debt := mbL_debt 2826 (by decide +kernel)
set_option maxHeartbeats 4000000 in
set_option maxRecDepth 100000 in
theorem ck_L_debt (l : Launch) (dC : Nat → ClassId) (dI : Nat → Nat → Nat) (cyB cyI cyJ cyP : ClassId) (a0 a3 jaR jaT jbb sz : Nat) (jaK ja1 jcp jbc jbV ja3 jbH jbO jaq jac jbI jbl jbn jba jaa jdD jcB jcC jbo jbp jbk jbj jbe jbq jef jbi jcd jbr jhD jfc : Value) (n3 : Nat) (jbm : Int32) (jbQ : Nat → Int32) (jdu : Int32) (f3 : Nat → Int64) (p1 p2 : Int32) {Q : Int32 → Int32 → (Nat → Int64) → Prop} (hw : wq_L_debt n3 jbm jbQ jdu f3 p1 p2 Q) : Met l yL_debt wsL_debt ({ frames := 8, cells := 2, slots := 12, locals := 163 }) (va_Pc [.ref a0, .int p1, .int p2, .ref a3] (cPx l (dC, dI) (kT cyB cyI cyJ cyP) (wd01_40 a0 jaK jaR ja1 jcp jbc jbV ja3 jbH jaT jbO jaq jac jbI jbl jbn jba jaa jdu jdD jaR jcB jcC jbo jbp jbk jbj jbe jbq jef jbm jbi jcd jaT jbb jbr jhD jfc jbb cyI jbQ a3 cyJ n3 f3) sz)) (va_Qi (fun (r : Int32) (u : Int32 × (Nat → Int64)) => Q r u.1 u.2) (cB (dC, dI) (kT cyB cyI cyJ cyP) (va_A (wd01_40 a0 jaK jaR ja1 jcp jbc jbV ja3 jbH jaT jbO jaq jac jbI jbl jbn jba jaa jdu jdD jaR jcB jcC jbo jbp jbk jbj jbe jbq jef jbm jbi jcd jaT jbb jbr jhD jfc jbb cyI jbQ a3 cyJ n3 f3) sz) (fun u : Int32 × (Nat → Int64) => ((wd01_40 a0 jaK jaR ja1 jcp jbc jbV ja3 jbH jaT jbO jaq jac jbI jbl jbn jba jaa u.1 jdD jaR jcB jcC jbo jbp jbk jbj jbe jbq jef jbm jbi jcd jaT jbb jbr jhD jfc jbb cyI jbQ a3 cyJ n3 u.2) : va_W))) (va_A (wd01_40 a0 jaK jaR ja1 jcp jbc jbV ja3 jbH jaT jbO jaq jac jbI jbl jbn jba jaa jdu jdD jaR jcB jcC jbo jbp jbk jbj jbe jbq jef jbm jbi jcd jaT jbb jbr jhD jfc jbb cyI jbQ a3 cyJ n3 f3) sz)) 2 12 (va_A (wd01_40 a0 jaK jaR ja1 jcp jbc jbV ja3 jbH jaT jbO jaq jac jbI jbl jbn jba jaa jdu jdD jaR jcB jcC jbo jbp jbk jbj jbe jbq jef jbm jbi jcd jaT jbb jbr jhD jfc jbb cyI jbQ a3 cyJ n3 f3) sz) := by
  refine va_MetW (cc := cL_debt) (maxL := 5) (ret := (some .int)) (by decide) rfl ?_
  intro p e s m args below meth c s₁ B hml hv
  obtain ⟨rfl, hsz, hP, hK, hD0, hNw, hXl, hXu, hXn, hXt⟩ := hv
  have hx := B.exec
  have hb := B.bytes
  have hr := B.returns
  have hts := atoms_spec (ws := wsL_debt) B.pre
  have hown : s.vm.findClass RL = some m.cls := findClass_of_methodNamed B.named
  have hlocks := B.notSynchronized
  subst hsz
  have hD := hD0.self (sz := s.heap.size)
  generalize hAe : va_A (wd01_40 a0 jaK jaR ja1 jcp jbc jbV ja3 jbH jaT jbO jaq jac jbI jbl jbn jba jaa jdu jdD jaR jcB jcC jbo jbp jbk jbj jbe jbq jef jbm jbi jcd jaT jbb jbr jhD jfc jbb cyI jbQ a3 cyJ n3 f3) s.heap.size = A at hD hXu hXn ⊢
  have hA : ∀ q : Nat, s.heap.size ≤ q → A q := fun q h => by rw [← hAe]; exact Or.inr h
  have hS : va_S A s.heap s.heap [] := va_S.rf
  have hP : va_P (dC, dI) vwCl (wd01_40 a0 jaK jaR ja1 jcp jbc jbV ja3 jbH jaT jbO jaq jac jbI jbl jbn jba jaa jdu jdD jaR jcB jcC jbo jbp jbk jbj jbe jbq jef jbm jbi jcd jaT jbb jbr jhD jfc jbb cyI jbQ a3 cyJ n3 f3) s.heap := hP
  have hl := lv_entry ([.ref a0, .int p1, .int p2, .ref a3]) (n := 5) (Nat.le_of_ble_eq_true rfl)
  rw [lg_entry_eq]
  generalize (lg_sl ([.ref a0, .int p1, .int p2, .ref a3]) ++ List.replicate (5 - (lg_sl ([.ref a0, .int p1, .int p2, .ref a3])).length) Slot.unset).toArray = ls at hl ⊢
  have hl : lv_has ls 5 [(0, .ref a0), (1, .int p1), (2, .int p2), (3, .ref a3)] := hl
  have hY : cfY l s A := ⟨hXl, hXu, hXn, hXt⟩
  have hTb := vx_table (x := yL_debt) B (hts _ uw_L_debt_cw)
  clear hAe
  obtain ⟨H, hH⟩ : ∃ H, H = s.heap := ⟨_, rfl⟩
  rw [← hH] at hP ⊢
  have hS : va_S A s.heap H [] := by rw [hH]; exact va_S.rf
  have hS := hS
  refine lv_aload_n hx hb (dt_of tkL_debt_k0 0 rfl) rfl (lv_at hl 3 rfl) ?_
  refine lv_iconst (v := 0) hx hb (dt_of tkL_debt_k0 1 rfl) (by decide) ?_
  refine lv_aload_n hx hb (dt_of tkL_debt_k0 2 rfl) rfl (lv_at hl 0 rfl) ?_
  refine lv_iload_n hx hb (dt_of tkL_debt_k0 3 rfl) rfl (lv_at hl 1 rfl) ?_
  refine lv_iload_n hx hb (dt_of tkL_debt_k0 4 rfl) rfl (lv_at hl 2 rfl) ?_
  obtain ⟨hCc, hPc, hDc, hFc⟩ := va_pick (ws' := (wd01_39 a0 jaK jaR ja1 jcp jbc jbV ja3 jbH jaT jbO jaq jac jbI jbl jbn jba jaa jdu jdD jaR jcB jcC jbo jbp jbk jbj jbe jbq jef jbm jbi jcd jaT jbb jbr jhD jfc jbb cyI jbQ)) hP hD hS hA [0, 1, 2, 3] (by decide +kernel) rfl
  refine vx_calli (vx_runV (As := [.int p1, .int p2]) (rest := [.int 0, .ref a3]) ⟨hx, hb, hml, hown, hts⟩ (ck_X10_debt l dC dI cyB cyI cyJ cyP a0 jaR jaT jbb H.size (jaK) (ja1) (jcp) (jbc) (jbV) (ja3) (jbH) (jbO) (jaq) (jac) (jbI) (jbl) (jbn) (jba) (jaa) (jdD) (jcB) (jcC) (jbo) (jbp) (jbk) (jbj) (jbe) (jbq) (jef) (jbi) (jcd) (jbr) (jhD) (jfc) jbm jbQ jdu p1 p2 hw) (cwV 2 hts gL_debt_X10_debt rfl rfl rfl (by decide +kernel) ⟨Nat.le_of_ble_eq_true rfl, Nat.le_of_ble_eq_true rfl⟩) ⟨cPx_blind, va_recv (q := (RX10, TX10, 19)) hK hPc (ci := 10) (q0 := 0) rfl rfl, cPx_pre hPc hK hDc hNw hY hS hFc⟩ rfl rfl hl.1 rfl (lv_room (Nat.le_of_ble_eq_true rfl)) (dt_of tkL_debt_k0 5 rfl) ⟨Nat.le_of_ble_eq_true rfl, Nat.le_of_ble_eq_true rfl⟩) hS (fun q _ h => hFc q h) hFc (fun q _ h => hFc q h) (fun en ce qx9 u t H1 locs ht hvm hpx hB hz1 hk1 hS hc9 hv9 hcl9 => ?_) (fun r2 u t H1 locs ht hvm hw hB hz1 hk1 hS => ?_)
  · obtain ⟨x1, rfl⟩ : ∃ z, z = u := ⟨_, rfl⟩
    obtain ⟨hw, hP1, hK1, hD1⟩ := hB
    rw [ht] at hP1
    obtain ⟨hP, hD⟩ := va_joinN (wr := [(a3, .inl (cyJ, n3, .inr (.inl f3)))]) (w1 := (wd01_39 a0 jaK jaR ja1 jcp jbc jbV ja3 jbH jaT jbO jaq jac jbI jbl jbn jba jaa x1 jdD jaR jcB jcC jbo jbp jbk jbj jbe jbq jef jbm jbi jcd jaT jbb jbr jhD jfc jbb cyI jbQ)) (wn := (wd01_40 a0 jaK jaR ja1 jcp jbc jbV ja3 jbH jaT jbO jaq jac jbI jbl jbn jba jaa x1 jdD jaR jcB jcC jbo jbp jbk jbj jbe jbq jef jbm jbi jcd jaT jbb jbr jhD jfc jbb cyI jbQ a3 cyJ n3 f3)) hP hD [0, 1, 2, 3] [4] [1, 2, 3, 4, 0] hCc rfl (by decide +kernel) (by decide +kernel) (by decide +kernel) rfl hk1 hFc hP1 hD1
    generalize H1 = H at hP hS hc9 ⊢
    obtain ⟨rfl, hw⟩ := hw
    refine vx_catch (own := RL) (name := "java/util/NoSuchElementException") hown [] ⟨0, 10, 13, 31⟩ [] (hTb.trans rfl) (fun z hz => nomatch hz) (by decide) (by decide) (hts _ uw_L_debt_ct31) (va_Nw.use rfl (hY.2.2.2.1.2 _ (List.mem_of_getElem? (i := 1) rfl))) hc9 hv9 hcl9 ?_
    refine lv_astore (lv' := [(4, .ref qx9), (0, .ref a0), (1, .int p1), (2, .int p2), (3, .ref a3)]) hx hb (dt_of tkL_debt_k0 9 rfl) hl (by decide) rfl (fun ls hl => ?_)
    refine lv_iconst (v := 1) hx hb (dt_of tkL_debt_k0 10 rfl) (by decide) ?_
    exact (W.widen (k := 2) (n := 12) (Nat.le_of_ble_eq_true rfl) (Nat.le_of_ble_eq_true rfl) (W.iret (v := 1) hx hb hr (fun t ht hW => ⟨⟨1, (x1, f3), rfl, hw, by rw [ht]; exact hP, va_K.moved hW.alike hK, hD⟩, hS.F ht⟩) hS.2.2 (dt_of tkL_debt_k0 11 rfl)))
  obtain ⟨x1, rfl⟩ : ∃ z, z = u := ⟨_, rfl⟩
  obtain ⟨hP1, hK1, hD1⟩ := hB
  rw [ht] at hP1
  obtain ⟨hP, hD⟩ := va_join (wr := [(a3, .inl (cyJ, n3, .inr (.inl f3)))]) (w1 := (wd01_39 a0 jaK jaR ja1 jcp jbc jbV ja3 jbH jaT jbO jaq jac jbI jbl jbn jba jaa x1 jdD jaR jcB jcC jbo jbp jbk jbj jbe jbq jef jbm jbi jcd jaT jbb jbr jhD jfc jbb cyI jbQ)) hP hD [0, 1, 2, 3] [4] rfl rfl (by decide) (by decide) hk1 hFc hP1 hD1
  have hP : va_P (dC, dI) vwCl (wd01_40 a0 jaK jaR ja1 jcp jbc jbV ja3 jbH jaT jbO jaq jac jbI jbl jbn jba jaa x1 jdD jaR jcB jcC jbo jbp jbk jbj jbe jbq jef jbm jbi jcd jaT jbb jbr jhD jfc jbb cyI jbQ a3 cyJ n3 f3) H1 := hP.sub [1, 2, 3, 4, 0] rfl
  have hD : va_D A (wd01_40 a0 jaK jaR ja1 jcp jbc jbV ja3 jbH jaT jbO jaq jac jbI jbl jbn jba jaa x1 jdD jaR jcB jcC jbo jbp jbk jbj jbe jbq jef jbm jbi jcd jaT jbb jbr jhD jfc jbb cyI jbQ a3 cyJ n3 f3) := hD.sub [1, 2, 3, 4, 0] (by decide) rfl
  generalize H1 = H at hP hS ⊢
  refine lv_i2l (v := r2.toInt64) hx hb (dt_of tkL_debt_k0 6 rfl) rfl ?_
  refine lv_topl (fun x3 ex3 => ?_)
  have hw := hw x3 ex3
  obtain ⟨hi9, hw⟩ := hw
  refine va_last hx hb hK hP hD hS 4 2 rfl rfl hi9 (dt_of tkL_debt_k0 7 rfl) (fun H locs hP hD hS => ?_)
  obtain ⟨f4, ef4⟩ : ∃ y : Nat → Int64, y = vp_updL f3 (0 : Int32).toNatClampNeg x3 := ⟨_, rfl⟩
  have hw := hw f4 ef4
  have hP : va_P (dC, dI) vwCl (wd01_40 a0 jaK jaR ja1 jcp jbc jbV ja3 jbH jaT jbO jaq jac jbI jbl jbn jba jaa x1 jdD jaR jcB jcC jbo jbp jbk jbj jbe jbq jef jbm jbi jcd jaT jbb jbr jhD jfc jbb cyI jbQ a3 cyJ n3 f4) H := by rw [ef4]; exact hP
  have hD : va_D A (wd01_40 a0 jaK jaR ja1 jcp jbc jbV ja3 jbH jaT jbO jaq jac jbI jbl jbn jba jaa x1 jdD jaR jcB jcC jbo jbp jbk jbj jbe jbq jef jbm jbi jcd jaT jbb jbr jhD jfc jbb cyI jbQ a3 cyJ n3 f4) := by rw [ef4]; exact hD
  refine lv_goto (tgt := 17) hx hb (dt_of tkL_debt_k0 8 rfl) (by decide) ?_
  refine lv_iconst (v := 0) hx hb (dt_of tkL_debt_k0 12 rfl) (by decide) ?_
  exact (W.widen (k := 2) (n := 12) (Nat.le_of_ble_eq_true rfl) (Nat.le_of_ble_eq_true rfl) (W.iret (v := 0) hx hb hr (fun t ht hW => ⟨⟨0, (x1, f4), rfl, hw, by rw [ht]; exact hP, va_K.moved hW.alike hK, hD⟩, hS.F ht⟩) hS.2.2 (dt_of tkL_debt_k0 13 rfl)))
theorem ui_X8_isLetter_X8 : ∀ w ∈ u_ws RX8 TX8 7, w ∈ wsX8_isLetter := uiM mbX8_isLetter euX8 (by decide +kernel)
theorem uw_X8_isLetter_f11 : (.fieldLink RX8 11 "MarchHares$Tape" "bytes" "[B" : Cond) ∈ wsX8_isLetter := mbX8_isLetter 142 (by decide +kernel)
theorem uw_X8_isLetter_f28 : (.fieldLink RX8 28 "MarchHares$Tape" "length" "I" : Cond) ∈ wsX8_isLetter := mbX8_isLetter 712 (by decide +kernel)
set_option maxHeartbeats 4000000 in
set_option maxRecDepth 100000 in
theorem ck_X8_isLetter (l : Launch) (dC : Nat → ClassId) (dI : Nat → Nat → Nat) (cyB cyI cyJ cyP : ClassId) (a0 jif sz : Nat) (jby jl9 jjY jmS jkr : Value) (jb7 : Int32) (jjA : Nat → Int32)  (p1 : Int32) {Q : Int32 → Prop} (hw : wq_X8_isLetter jb7 jjA  p1 Q) : Met l yX8_isLetter wsX8_isLetter ({ frames := 0, cells := 0, slots := 0, locals := 0 }) (va_Pc [.ref a0, .int p1] (cPc (dC, dI) (kT cyB cyI cyJ cyP) (wd01_41 a0 jif jb7 jby jl9 jjY jmS jkr jif cyB jjA) sz)) (va_Qi (fun (r : Int32) (_ : Unit) => Q r ) (cB (dC, dI) (kT cyB cyI cyJ cyP) (va_A (wd01_41 a0 jif jb7 jby jl9 jjY jmS jkr jif cyB jjA) sz) (fun u : Unit => ((wd01_41 a0 jif jb7 jby jl9 jjY jmS jkr jif cyB jjA) : va_W))) (va_A (wd01_41 a0 jif jb7 jby jl9 jjY jmS jkr jif cyB jjA) sz)) 0 0 (va_A (wd01_41 a0 jif jb7 jby jl9 jjY jmS jkr jif cyB jjA) sz) := by
  refine Met.ofW (cc := cX8_isLetter) (maxL := 2) (ret := (some .boolean)) (by decide) rfl ?_
  intro p e s m args below meth c s₁ B hml hv
  obtain ⟨rfl, hsz, hP, hK, hD0, hNw⟩ := hv
  have hx := B.exec
  have hb := B.bytes
  have hr := B.returns
  have hts := atoms_spec (ws := wsX8_isLetter) B.pre
  have hown : s.vm.findClass RX8 = some m.cls := findClass_of_methodNamed B.named
  have hlocks := B.notSynchronized
  subst hsz
  have hD := hD0.self (sz := s.heap.size)
  generalize hAe : va_A (wd01_41 a0 jif jb7 jby jl9 jjY jmS jkr jif cyB jjA) s.heap.size = A at hD ⊢
  have hA : ∀ q : Nat, s.heap.size ≤ q → A q := fun q h => by rw [← hAe]; exact Or.inr h
  have hS : va_S A s.heap s.heap [] := va_S.rf
  have hP : va_P (dC, dI) vwCl (wd01_41 a0 jif jb7 jby jl9 jjY jmS jkr jif cyB jjA) s.heap := hP
  have hl := lv_entry ([.ref a0, .int p1]) (n := 2) (Nat.le_of_ble_eq_true rfl)
  rw [lg_entry_eq]
  generalize (lg_sl ([.ref a0, .int p1]) ++ List.replicate (2 - (lg_sl ([.ref a0, .int p1])).length) Slot.unset).toArray = ls at hl ⊢
  have hl : lv_has ls 2 [(0, .ref a0), (1, .int p1)] := hl
  have C0 : cfx p s m _ meth c cX8_isLetter (some .boolean) wsX8_isLetter RX8 2 A (dC, dI) (kT cyB cyI cyJ cyP) := ⟨hx, hb, hr, hts, hown, hlocks, hml, hA, hK, hNw⟩
  clear hAe
  obtain ⟨H, hH⟩ : ∃ H, H = s.heap := ⟨_, rfl⟩
  rw [← hH] at hP ⊢
  have hS : va_S A s.heap H [] := by rw [hH]; exact va_S.rf
  have hS := hS
  refine lv_iload_n hx hb (dt_of tkX8_isLetter_k0 0 rfl) rfl (lv_at hl 1 rfl) ?_
  refine lv_aload_n hx hb (dt_of tkX8_isLetter_k0 1 rfl) rfl (lv_at hl 0 rfl) ?_
  refine va_get (D := (dC, dI)) (ci := 8) (v := .int jb7) (C := RX8) (T := TX8) (N := 7) hx hb hts ui_X8_isLetter_X8 hown hK hP 0 rfl rfl 1 (by decide) (hts _ uw_X8_isLetter_f28) (fun _ h9 => h9) rfl (dt_of tkX8_isLetter_k0 2 rfl) ?_
  refine lv_icmp_ge (tgt := 34) hx hb (dt_of tkX8_isLetter_k0 3 rfl) (by decide) (fun c1 => ?_) (fun c1 => ?_)
  · have hw := hw.1 c1
    refine lv_iconst (v := 0) hx hb (dt_of tkX8_isLetter_k30 2 rfl) (by decide) ?_
    exact ((W.zret (v := 0) hx hb hr rfl (fun t ht hW => ⟨⟨0, (), rfl, hw, by rw [ht]; exact hP, va_K.moved hW.alike hK, hD⟩, hS.F ht⟩) hS.2.2 (dt_of tkX8_isLetter_k30 3 rfl)))
  · have hw := hw.2 c1
    refine lv_aload_n hx hb (dt_of tkX8_isLetter_k0 4 rfl) rfl (lv_at hl 0 rfl) ?_
    refine va_get (D := (dC, dI)) (ci := 8) (v := .ref jif) (C := RX8) (T := TX8) (N := 7) hx hb hts ui_X8_isLetter_X8 hown hK hP 0 rfl rfl 0 (by decide) (hts _ uw_X8_isLetter_f11) (fun _ h9 => h9) rfl (dt_of tkX8_isLetter_k0 5 rfl) ?_
    refine lv_iload_n hx hb (dt_of tkX8_isLetter_k0 6 rfl) rfl (lv_at hl 1 rfl) ?_
    obtain ⟨hi9, hw⟩ := hw
    refine va_bald hx hb hK hP 1 0 rfl rfl hi9 (dt_of tkX8_isLetter_k0 7 rfl) ?_
    refine lv_topi (fun x2 ex2 => ?_)
    have hw := hw x2 ex2
    refine lv_bipush (v := 97) hx hb (dt_of tkX8_isLetter_k0 8 rfl) (by decide) ?_
    refine lv_icmp_lt (tgt := 34) hx hb (dt_of tkX8_isLetter_k0 9 rfl) (by decide) (fun c3 => ?_) (fun c3 => ?_)
    · have hw := hw.1 c3
      refine lv_iconst (v := 0) hx hb (dt_of tkX8_isLetter_k30 2 rfl) (by decide) ?_
      exact ((W.zret (v := 0) hx hb hr rfl (fun t ht hW => ⟨⟨0, (), rfl, hw, by rw [ht]; exact hP, va_K.moved hW.alike hK, hD⟩, hS.F ht⟩) hS.2.2 (dt_of tkX8_isLetter_k30 3 rfl)))
    · have hw := hw.2 c3
      refine lv_aload_n hx hb (dt_of tkX8_isLetter_k0 10 rfl) rfl (lv_at hl 0 rfl) ?_
      refine va_get (D := (dC, dI)) (ci := 8) (v := .ref jif) (C := RX8) (T := TX8) (N := 7) hx hb hts ui_X8_isLetter_X8 hown hK hP 0 rfl rfl 0 (by decide) (hts _ uw_X8_isLetter_f11) (fun _ h9 => h9) rfl (dt_of tkX8_isLetter_k0 11 rfl) ?_
      refine lv_iload_n hx hb (dt_of tkX8_isLetter_k0 12 rfl) rfl (lv_at hl 1 rfl) ?_
      obtain ⟨hi9, hw⟩ := hw
      refine va_bald hx hb hK hP 1 0 rfl rfl hi9 (dt_of tkX8_isLetter_k0 13 rfl) ?_
      refine lv_topi (fun x4 ex4 => ?_)
      have hw := hw x4 ex4
      refine lv_bipush (v := 122) hx hb (dt_of tkX8_isLetter_k0 14 rfl) (by decide) ?_
      refine lv_icmp_gt (tgt := 34) hx hb (dt_of tkX8_isLetter_k0 15 rfl) (by decide) (fun c5 => ?_) (fun c5 => ?_)
      · have hw := hw.1 c5
        refine lv_iconst (v := 0) hx hb (dt_of tkX8_isLetter_k30 2 rfl) (by decide) ?_
        exact ((W.zret (v := 0) hx hb hr rfl (fun t ht hW => ⟨⟨0, (), rfl, hw, by rw [ht]; exact hP, va_K.moved hW.alike hK, hD⟩, hS.F ht⟩) hS.2.2 (dt_of tkX8_isLetter_k30 3 rfl)))
      · have hw := hw.2 c5
        refine lv_iconst (v := 1) hx hb (dt_of tkX8_isLetter_k30 0 rfl) (by decide) ?_
        refine lv_goto (tgt := 35) hx hb (dt_of tkX8_isLetter_k30 1 rfl) (by decide) ?_
        exact ((W.zret (v := 1) hx hb hr rfl (fun t ht hW => ⟨⟨1, (), rfl, hw, by rw [ht]; exact hP, va_K.moved hW.alike hK, hD⟩, hS.F ht⟩) hS.2.2 (dt_of tkX8_isLetter_k30 3 rfl)))
theorem ui_X2_readForm_X2 : ∀ w ∈ u_ws RX2 TX2 12, w ∈ wsX2_readForm := uiM mbX2_readForm euX2 (by decide +kernel)
theorem uw_X2_readForm_f15 : (.fieldLink RX2 15 "MarchHares$Down" "formY" "[I" : Cond) ∈ wsX2_readForm := mbX2_readForm 149 (by decide +kernel)
theorem uw_X2_readForm_f36 : (.fieldLink RX2 36 "MarchHares$Down" "forms" "I" : Cond) ∈ wsX2_readForm := mbX2_readForm 720 (by decide +kernel)
theorem uw_X2_readForm_f9 : (.fieldLink RX2 9 "MarchHares$Down" "formX" "[I" : Cond) ∈ wsX2_readForm := mbX2_readForm 148 (by decide +kernel)
set_option maxHeartbeats 4000000 in
set_option maxRecDepth 100000 in
theorem kb_X2_readForm_13 {p : Program} {l : Launch} {e : Env} {s : State} {m : MethodId} {args : Array Value} {below : List Frame} {meth : Method} {c : Code} {A : Nat → Prop} (dC : Nat → ClassId) (dI : Nat → Nat → Nat) (cyB cyI cyJ cyP : ClassId) (a0 a1 jha jbF jhi : Nat) (jlc jld jkJ jiT jj1 jjT ja4 jaP jkk jcI : Value) (jb3 : Int32) (jcq : Nat → Int32) (Q : Int32 → Int32 → Int32 → Int32 → (Nat → Int32) → (Nat → Int32) → Int32 → Prop)  (C0 : cfx p s m args meth c cX2_readForm none wsX2_readForm RX2 3 A (dC, dI) (kT cyB cyI cyJ cyP)) : ∀ (H : Heap) (locs : List Loc) (ls : Array Slot) (jhS jcU jbM jeF : Int32) (jiR jiP : Nat → Int32) (jaN : Int32), va_P (dC, dI) vwCl (wd01_42 a0 jha jhi jlc jld jkJ jiT jj1 jjT jaN ja4 jaP jkk a1 jbF jb3 jhS jeF jcI jcU jbM jbF cyB jcq jha cyI jiR jhi cyI jiP) H → va_D A (wd01_42 a0 jha jhi jlc jld jkJ jiT jj1 jjT jaN ja4 jaP jkk a1 jbF jb3 jhS jeF jcI jcU jbM jbF cyB jcq jha cyI jiR jhi cyI jiP) → va_S A s.heap H locs → lv_has ls 3 [(1, .ref a1)] → wb_X2_readForm_13 jb3 jcq Q  jhS jcU jbM jeF jiR jiP jaN → W p l e (headSpec wsX2_readForm ({ frames := 3, cells := 0, slots := 0, locals := 63 })).room s m args below meth c H locs 0 0 (MQ below (va_Qv (fun (u : Int32 × Int32 × Int32 × Int32 × (Nat → Int32) × (Nat → Int32) × Int32) => Q u.1 u.2.1 u.2.2.1 u.2.2.2.1 u.2.2.2.2.1 u.2.2.2.2.2.1 u.2.2.2.2.2.2) (cB (dC, dI) (kT cyB cyI cyJ cyP) A (fun u : Int32 × Int32 × Int32 × Int32 × (Nat → Int32) × (Nat → Int32) × Int32 => ((wd01_42 a0 jha jhi jlc jld jkJ jiT jj1 jjT u.2.2.2.2.2.2 ja4 jaP jkk a1 jbF jb3 u.1 u.2.2.2.1 jcI u.2.1 u.2.2.1 jbF cyB jcq jha cyI u.2.2.2.2.1 jhi cyI u.2.2.2.2.2.1) : va_W))) A) args s 0 0 A) (F0 m 13 ls []) := by
  obtain ⟨hx, hb, hr, hts, hown, hlocks, hml, hA, hK, hNw⟩ := id C0
  intro H locs ls jhS jcU jbM jeF jiR jiP jaN hP hD hS hl hw
  refine lv_aload_n hx hb (dt_of tkX2_readForm_k0 6 rfl) rfl (lv_at hl 0 rfl) ?_
  refine lv_iconst (v := 3) hx hb (dt_of tkX2_readForm_k0 7 rfl) (by decide) ?_
  obtain ⟨hCc, hPc, hDc, hFc⟩ := va_pick (ws' := (wd01_43 a1 jbF jb3 jhS jeF jcI jcU jbM)) hP hD hS hA [1] (by decide +kernel) rfl
  refine va_callv (va_runV (As := [.int 3]) (rest := []) ⟨hx, hb, hml, hown, hts⟩ (ck_X8_blameToken l dC dI cyB cyI cyJ cyP a1 H.size (.ref jbF) (.int jb3) (.int jhS) (jcI) jeF jcU jbM 3 hw) (cwV 1 hts gX2_readForm_X8_blameToken rfl rfl rfl (by decide +kernel) ⟨Nat.le_of_ble_eq_true rfl, Nat.le_of_ble_eq_true rfl⟩) ⟨cPc_blind, va_recv (q := (RX8, TX8, 7)) hK hPc (ci := 8) (q0 := 0) rfl rfl, cPc_pre hPc hK hDc hNw⟩ rfl rfl hl.1 rfl (lv_room (Nat.le_of_ble_eq_true rfl)) (dt_of tkX2_readForm_k0 8 rfl) ⟨Nat.le_of_ble_eq_true rfl, Nat.le_of_ble_eq_true rfl⟩) hS (fun q _ h => hFc q h) hFc (fun u t H1 locs ht hvm hw hB hz1 hk1 hS => ?_)
  obtain ⟨x20, x21⟩ := u
  obtain ⟨hP1, hK1, hD1⟩ := hB
  rw [ht] at hP1
  obtain ⟨hP, hD⟩ := va_joinN (wr := [(a0, .inr (2, [.ref jha, .ref jhi, jlc, jld, jkJ, jiT, jj1, jjT, .int jaN, ja4, jaP, jkk])), (jbF, .inl (cyB, 600, .inl jcq)), (jha, .inl (cyI, 8, .inl jiR)), (jhi, .inl (cyI, 8, .inl jiP))]) (w1 := (wd01_43 a1 jbF jb3 jhS jeF jcI x20 x21)) (wn := (wd01_42 a0 jha jhi jlc jld jkJ jiT jj1 jjT jaN ja4 jaP jkk a1 jbF jb3 jhS jeF jcI x20 x21 jbF cyB jcq jha cyI jiR jhi cyI jiP)) hP hD [1] [0, 2, 3, 4] [0, 4, 1, 2, 3] hCc rfl (by decide +kernel) (by decide +kernel) (by decide +kernel) rfl hk1 hFc hP1 hD1
  generalize H1 = H at hP hS ⊢
  exact ((W.vret hx hb hr (fun t ht hW => ⟨⟨(jhS, x20, x21, jeF, jiR, jiP, jaN), rfl, hw, by rw [ht]; exact hP, va_K.moved hW.alike hK, hD⟩, hS.F ht⟩) hS.2.2 (dt_of tkX2_readForm_k0 9 rfl)))
set_option maxHeartbeats 4000000 in
set_option maxRecDepth 100000 in
theorem ck_X2_readForm (l : Launch) (dC : Nat → ClassId) (dI : Nat → Nat → Nat) (cyB cyI cyJ cyP : ClassId) (a0 a1 jha jbF jhi sz : Nat) (jlc jld jkJ jiT jj1 jjT ja4 jaP jkk jcI : Value) (jb3 : Int32) (jcq : Nat → Int32) (jhS jcU jbM jeF : Int32) (jiR jiP : Nat → Int32) (jaN p2 : Int32) {Q : Int32 → Int32 → Int32 → Int32 → (Nat → Int32) → (Nat → Int32) → Int32 → Prop} (hw : wq_X2_readForm jb3 jcq jhS jcU jbM jeF jiR jiP jaN p2 Q) : Met l yX2_readForm wsX2_readForm ({ frames := 3, cells := 0, slots := 0, locals := 63 }) (va_Pc [.ref a0, .ref a1, .int p2] (cPc (dC, dI) (kT cyB cyI cyJ cyP) (wd01_42 a0 jha jhi jlc jld jkJ jiT jj1 jjT jaN ja4 jaP jkk a1 jbF jb3 jhS jeF jcI jcU jbM jbF cyB jcq jha cyI jiR jhi cyI jiP) sz)) (va_Qv (fun (u : Int32 × Int32 × Int32 × Int32 × (Nat → Int32) × (Nat → Int32) × Int32) => Q u.1 u.2.1 u.2.2.1 u.2.2.2.1 u.2.2.2.2.1 u.2.2.2.2.2.1 u.2.2.2.2.2.2) (cB (dC, dI) (kT cyB cyI cyJ cyP) (va_A (wd01_42 a0 jha jhi jlc jld jkJ jiT jj1 jjT jaN ja4 jaP jkk a1 jbF jb3 jhS jeF jcI jcU jbM jbF cyB jcq jha cyI jiR jhi cyI jiP) sz) (fun u : Int32 × Int32 × Int32 × Int32 × (Nat → Int32) × (Nat → Int32) × Int32 => ((wd01_42 a0 jha jhi jlc jld jkJ jiT jj1 jjT u.2.2.2.2.2.2 ja4 jaP jkk a1 jbF jb3 u.1 u.2.2.2.1 jcI u.2.1 u.2.2.1 jbF cyB jcq jha cyI u.2.2.2.2.1 jhi cyI u.2.2.2.2.2.1) : va_W))) (va_A (wd01_42 a0 jha jhi jlc jld jkJ jiT jj1 jjT jaN ja4 jaP jkk a1 jbF jb3 jhS jeF jcI jcU jbM jbF cyB jcq jha cyI jiR jhi cyI jiP) sz)) 0 0 (va_A (wd01_42 a0 jha jhi jlc jld jkJ jiT jj1 jjT jaN ja4 jaP jkk a1 jbF jb3 jhS jeF jcI jcU jbM jbF cyB jcq jha cyI jiR jhi cyI jiP) sz) := by
  refine Met.ofW (cc := cX2_readForm) (maxL := 3) (ret := none) (by decide) rfl ?_
  intro p e s m args below meth c s₁ B hml hv
  obtain ⟨rfl, hsz, hP, hK, hD0, hNw⟩ := hv
  have hx := B.exec
  have hb := B.bytes
  have hr := B.returns
  have hts := atoms_spec (ws := wsX2_readForm) B.pre
  have hown : s.vm.findClass RX2 = some m.cls := findClass_of_methodNamed B.named
  have hlocks := B.notSynchronized
  subst hsz
  have hD := hD0.self (sz := s.heap.size)
  generalize hAe : va_A (wd01_42 a0 jha jhi jlc jld jkJ jiT jj1 jjT jaN ja4 jaP jkk a1 jbF jb3 jhS jeF jcI jcU jbM jbF cyB jcq jha cyI jiR jhi cyI jiP) s.heap.size = A at hD ⊢
  have hA : ∀ q : Nat, s.heap.size ≤ q → A q := fun q h => by rw [← hAe]; exact Or.inr h
  have hS : va_S A s.heap s.heap [] := va_S.rf
  have hP : va_P (dC, dI) vwCl (wd01_42 a0 jha jhi jlc jld jkJ jiT jj1 jjT jaN ja4 jaP jkk a1 jbF jb3 jhS jeF jcI jcU jbM jbF cyB jcq jha cyI jiR jhi cyI jiP) s.heap := hP
  have hl := lv_entry ([.ref a0, .ref a1, .int p2]) (n := 3) (Nat.le_of_ble_eq_true rfl)
  rw [lg_entry_eq]
  generalize (lg_sl ([.ref a0, .ref a1, .int p2]) ++ List.replicate (3 - (lg_sl ([.ref a0, .ref a1, .int p2])).length) Slot.unset).toArray = ls at hl ⊢
  have hl : lv_has ls 3 [(0, .ref a0), (1, .ref a1), (2, .int p2)] := hl
  have C0 : cfx p s m _ meth c cX2_readForm none wsX2_readForm RX2 3 A (dC, dI) (kT cyB cyI cyJ cyP) := ⟨hx, hb, hr, hts, hown, hlocks, hml, hA, hK, hNw⟩
  clear hAe
  obtain ⟨H, hH⟩ : ∃ H, H = s.heap := ⟨_, rfl⟩
  rw [← hH] at hP ⊢
  have hS : va_S A s.heap H [] := by rw [hH]; exact va_S.rf
  have hS := hS
  refine lv_iload_n hx hb (dt_of tkX2_readForm_k0 0 rfl) rfl (lv_at hl 2 rfl) ?_
  refine lv_if_ne (tgt := 13) hx hb (dt_of tkX2_readForm_k0 1 rfl) (by decide) (fun c1 => ?_) (fun c1 => ?_)
  · have hw := hw.1 c1
    exact kb_X2_readForm_13 dC dI cyB cyI cyJ cyP a0 a1 jha jbF jhi jlc jld jkJ jiT jj1 jjT ja4 jaP jkk jcI jb3 jcq Q  C0 _ _ _ jhS jcU jbM jeF jiR jiP jaN hP hD hS (lv_sub hl [1] rfl) hw
  · have hw := hw.2 c1
    refine lv_aload_n hx hb (dt_of tkX2_readForm_k0 2 rfl) rfl (lv_at hl 0 rfl) ?_
    refine va_get (D := (dC, dI)) (ci := 2) (v := .int jaN) (C := RX2) (T := TX2) (N := 12) hx hb hts ui_X2_readForm_X2 hown hK hP 0 rfl rfl 8 (by decide) (hts _ uw_X2_readForm_f36) (fun _ h9 => h9) rfl (dt_of tkX2_readForm_k0 3 rfl) ?_
    refine lv_bipush (v := 8) hx hb (dt_of tkX2_readForm_k0 4 rfl) (by decide) ?_
    refine lv_icmp_lt (tgt := 19) hx hb (dt_of tkX2_readForm_k0 5 rfl) (by decide) (fun c2 => ?_) (fun c2 => ?_)
    · have hw := hw.1 c2
      refine lv_aload_n hx hb (dt_of tkX2_readForm_k0 10 rfl) rfl (lv_at hl 0 rfl) ?_
      refine va_get (D := (dC, dI)) (ci := 2) (v := .ref jha) (C := RX2) (T := TX2) (N := 12) hx hb hts ui_X2_readForm_X2 hown hK hP 0 rfl rfl 0 (by decide) (hts _ uw_X2_readForm_f9) (fun _ h9 => h9) rfl (dt_of tkX2_readForm_k0 11 rfl) ?_
      refine lv_aload_n hx hb (dt_of tkX2_readForm_k0 12 rfl) rfl (lv_at hl 0 rfl) ?_
      refine va_get (D := (dC, dI)) (ci := 2) (v := .int jaN) (C := RX2) (T := TX2) (N := 12) hx hb hts ui_X2_readForm_X2 hown hK hP 0 rfl rfl 8 (by decide) (hts _ uw_X2_readForm_f36) (fun _ h9 => h9) rfl (dt_of tkX2_readForm_k0 13 rfl) ?_
      refine lv_aload_n hx hb (dt_of tkX2_readForm_k0 14 rfl) rfl (lv_at hl 1 rfl) ?_
      refine lv_iconst (v := 0) hx hb (dt_of tkX2_readForm_k0 15 rfl) (by decide) ?_
      refine lv_bipush (v := 30) hx hb (dt_of tkX2_readForm_k29 0 rfl) (by decide) ?_
      obtain ⟨hCc, hPc, hDc, hFc⟩ := va_pick (ws' := (wd01_44 a1 jbF jb3 jhS jeF jcI jcU jbM jbF cyB jcq)) hP hD hS hA [1, 2] (by decide +kernel) rfl
      refine va_calli (va_runV (As := [.int 0, .int 30]) (rest := [.int jaN, .ref jha]) ⟨hx, hb, hml, hown, hts⟩ (ck_X8_number l dC dI cyB cyI cyJ cyP a1 jbF H.size (jcI) jb3 jcq jhS jcU jbM jeF 0 30 hw) (cwV 2 hts gX2_readForm_X8_number rfl rfl rfl (by decide +kernel) ⟨Nat.le_of_ble_eq_true rfl, Nat.le_of_ble_eq_true rfl⟩) ⟨cPc_blind, va_recv (q := (RX8, TX8, 7)) hK hPc (ci := 8) (q0 := 0) rfl rfl, cPc_pre hPc hK hDc hNw⟩ rfl rfl hl.1 rfl (lv_room (Nat.le_of_ble_eq_true rfl)) (dt_of tkX2_readForm_k29 1 rfl) ⟨Nat.le_of_ble_eq_true rfl, Nat.le_of_ble_eq_true rfl⟩) hS (fun q _ h => hFc q h) hFc (fun r7 u t H1 locs ht hvm hw hB hz1 hk1 hS => ?_)
      obtain ⟨x3, x4, x5, x6⟩ := u
      obtain ⟨hP1, hK1, hD1⟩ := hB
      rw [ht] at hP1
      obtain ⟨hP, hD⟩ := va_joinN (wr := (wd01_45 a0 jha jhi jlc jld jkJ jiT jj1 jjT jaN ja4 jaP jkk jha cyI jiR jhi cyI jiP)) (w1 := (wd01_44 a1 jbF jb3 x3 x6 jcI x4 x5 jbF cyB jcq)) (wn := (wd01_42 a0 jha jhi jlc jld jkJ jiT jj1 jjT jaN ja4 jaP jkk a1 jbF jb3 x3 x6 jcI x4 x5 jbF cyB jcq jha cyI jiR jhi cyI jiP)) hP hD [1, 2] [0, 3, 4] [0, 3, 4, 1, 2] hCc rfl (by decide +kernel) (by decide +kernel) (by decide +kernel) rfl hk1 hFc hP1 hD1
      generalize H1 = H at hP hS ⊢
      obtain ⟨hi9, hw⟩ := hw
      refine va_iast hx hb hK hP hD hS 3 1 rfl rfl hi9 (dt_of tkX2_readForm_k29 2 rfl) (fun H locs hP hD hS => ?_)
      obtain ⟨f8, ef8⟩ : ∃ y : Nat → Int32, y = upd jiR jaN.toNatClampNeg r7 := ⟨_, rfl⟩
      have hw := hw f8 ef8
      have hP : va_P (dC, dI) vwCl (wd01_42 a0 jha jhi jlc jld jkJ jiT jj1 jjT jaN ja4 jaP jkk a1 jbF jb3 x3 x6 jcI x4 x5 jbF cyB jcq jha cyI f8 jhi cyI jiP) H := by rw [ef8]; exact hP
      have hD : va_D A (wd01_42 a0 jha jhi jlc jld jkJ jiT jj1 jjT jaN ja4 jaP jkk a1 jbF jb3 x3 x6 jcI x4 x5 jbF cyB jcq jha cyI f8 jhi cyI jiP) := by rw [ef8]; exact hD
      refine lv_aload_n hx hb (dt_of tkX2_readForm_k29 3 rfl) rfl (lv_at hl 0 rfl) ?_
      refine va_get (D := (dC, dI)) (ci := 2) (v := .ref jhi) (C := RX2) (T := TX2) (N := 12) hx hb hts ui_X2_readForm_X2 hown hK hP 0 rfl rfl 1 (by decide) (hts _ uw_X2_readForm_f15) (fun _ h9 => h9) rfl (dt_of tkX2_readForm_k29 4 rfl) ?_
      refine lv_aload_n hx hb (dt_of tkX2_readForm_k29 5 rfl) rfl (lv_at hl 0 rfl) ?_
      refine va_get (D := (dC, dI)) (ci := 2) (v := .int jaN) (C := RX2) (T := TX2) (N := 12) hx hb hts ui_X2_readForm_X2 hown hK hP 0 rfl rfl 8 (by decide) (hts _ uw_X2_readForm_f36) (fun _ h9 => h9) rfl (dt_of tkX2_readForm_k29 6 rfl) ?_
      refine lv_aload_n hx hb (dt_of tkX2_readForm_k29 7 rfl) rfl (lv_at hl 1 rfl) ?_
      refine lv_iconst (v := 0) hx hb (dt_of tkX2_readForm_k29 8 rfl) (by decide) ?_
      refine lv_bipush (v := 30) hx hb (dt_of tkX2_readForm_k29 9 rfl) (by decide) ?_
      obtain ⟨hCc, hPc, hDc, hFc⟩ := va_pick (ws' := (wd01_44 a1 jbF jb3 x3 x6 jcI x4 x5 jbF cyB jcq)) hP hD hS hA [1, 2] (by decide +kernel) rfl
      refine va_calli (va_runV (As := [.int 0, .int 30]) (rest := [.int jaN, .ref jhi]) ⟨hx, hb, hml, hown, hts⟩ (ck_X8_number l dC dI cyB cyI cyJ cyP a1 jbF H.size (jcI) jb3 jcq x3 x4 x5 x6 0 30 hw) (cwV 2 hts gX2_readForm_X8_number rfl rfl rfl (by decide +kernel) ⟨Nat.le_of_ble_eq_true rfl, Nat.le_of_ble_eq_true rfl⟩) ⟨cPc_blind, va_recv (q := (RX8, TX8, 7)) hK hPc (ci := 8) (q0 := 0) rfl rfl, cPc_pre hPc hK hDc hNw⟩ rfl rfl hl.1 rfl (lv_room (Nat.le_of_ble_eq_true rfl)) (dt_of tkX2_readForm_k29 10 rfl) ⟨Nat.le_of_ble_eq_true rfl, Nat.le_of_ble_eq_true rfl⟩) hS (fun q _ h => hFc q h) hFc (fun r13 u t H1 locs ht hvm hw hB hz1 hk1 hS => ?_)
      obtain ⟨x9, x10, x11, x12⟩ := u
      obtain ⟨hP1, hK1, hD1⟩ := hB
      rw [ht] at hP1
      obtain ⟨hP, hD⟩ := va_joinN (wr := (wd01_45 a0 jha jhi jlc jld jkJ jiT jj1 jjT jaN ja4 jaP jkk jha cyI f8 jhi cyI jiP)) (w1 := (wd01_44 a1 jbF jb3 x9 x12 jcI x10 x11 jbF cyB jcq)) (wn := (wd01_42 a0 jha jhi jlc jld jkJ jiT jj1 jjT jaN ja4 jaP jkk a1 jbF jb3 x9 x12 jcI x10 x11 jbF cyB jcq jha cyI f8 jhi cyI jiP)) hP hD [1, 2] [0, 3, 4] [0, 3, 4, 1, 2] hCc rfl (by decide +kernel) (by decide +kernel) (by decide +kernel) rfl hk1 hFc hP1 hD1
      generalize H1 = H at hP hS ⊢
      obtain ⟨hi9, hw⟩ := hw
      refine va_iast hx hb hK hP hD hS 4 1 rfl rfl hi9 (dt_of tkX2_readForm_k29 11 rfl) (fun H locs hP hD hS => ?_)
      obtain ⟨f14, ef14⟩ : ∃ y : Nat → Int32, y = upd jiP jaN.toNatClampNeg r13 := ⟨_, rfl⟩
      have hw := hw f14 ef14
      have hP : va_P (dC, dI) vwCl (wd01_42 a0 jha jhi jlc jld jkJ jiT jj1 jjT jaN ja4 jaP jkk a1 jbF jb3 x9 x12 jcI x10 x11 jbF cyB jcq jha cyI f8 jhi cyI f14) H := by rw [ef14]; exact hP
      have hD : va_D A (wd01_42 a0 jha jhi jlc jld jkJ jiT jj1 jjT jaN ja4 jaP jkk a1 jbF jb3 x9 x12 jcI x10 x11 jbF cyB jcq jha cyI f8 jhi cyI f14) := by rw [ef14]; exact hD
      refine lv_aload_n hx hb (dt_of tkX2_readForm_k29 12 rfl) rfl (lv_at hl 1 rfl) ?_
      refine lv_bipush (v := 59) hx hb (dt_of tkX2_readForm_k29 13 rfl) (by decide) ?_
      obtain ⟨hCc, hPc, hDc, hFc⟩ := va_pick (ws' := (wd01_44 a1 jbF jb3 x9 x12 jcI x10 x11 jbF cyB jcq)) hP hD hS hA [1, 2] (by decide +kernel) rfl
      refine va_callv (va_runV (As := [.int 59]) (rest := []) ⟨hx, hb, hml, hown, hts⟩ (ck_X8_needs l dC dI cyB cyI cyJ cyP a1 jbF H.size (jcI) jb3 jcq x9 x12 x10 x11 59 hw) (cwV 1 hts gX2_readForm_X8_needs rfl rfl rfl (by decide +kernel) ⟨Nat.le_of_ble_eq_true rfl, Nat.le_of_ble_eq_true rfl⟩) ⟨cPc_blind, va_recv (q := (RX8, TX8, 7)) hK hPc (ci := 8) (q0 := 0) rfl rfl, cPc_pre hPc hK hDc hNw⟩ rfl rfl hl.1 rfl (lv_room (Nat.le_of_ble_eq_true rfl)) (dt_of tkX2_readForm_k29 14 rfl) ⟨Nat.le_of_ble_eq_true rfl, Nat.le_of_ble_eq_true rfl⟩) hS (fun q _ h => hFc q h) hFc (fun u t H1 locs ht hvm hw hB hz1 hk1 hS => ?_)
      obtain ⟨x15, x16, x17, x18⟩ := u
      obtain ⟨hP1, hK1, hD1⟩ := hB
      rw [ht] at hP1
      obtain ⟨hP, hD⟩ := va_joinN (wr := (wd01_45 a0 jha jhi jlc jld jkJ jiT jj1 jjT jaN ja4 jaP jkk jha cyI f8 jhi cyI f14)) (w1 := (wd01_44 a1 jbF jb3 x15 x16 jcI x17 x18 jbF cyB jcq)) (wn := (wd01_42 a0 jha jhi jlc jld jkJ jiT jj1 jjT jaN ja4 jaP jkk a1 jbF jb3 x15 x16 jcI x17 x18 jbF cyB jcq jha cyI f8 jhi cyI f14)) hP hD [1, 2] [0, 3, 4] [0, 3, 4, 1, 2] hCc rfl (by decide +kernel) (by decide +kernel) (by decide +kernel) rfl hk1 hFc hP1 hD1
      generalize H1 = H at hP hS ⊢
      refine lv_aload_n hx hb (dt_of tkX2_readForm_k29 15 rfl) rfl (lv_at hl 0 rfl) ?_
      refine lv_dup hx hb (dt_of tkX2_readForm_k58 0 rfl) rfl ?_
      refine va_get (D := (dC, dI)) (ci := 2) (v := .int jaN) (C := RX2) (T := TX2) (N := 12) hx hb hts ui_X2_readForm_X2 hown hK hP 0 rfl rfl 8 (by decide) (hts _ uw_X2_readForm_f36) (fun _ h9 => h9) rfl (dt_of tkX2_readForm_k58 1 rfl) ?_
      refine lv_iconst (v := 1) hx hb (dt_of tkX2_readForm_k58 2 rfl) (by decide) ?_
      refine lv_iadd hx hb (dt_of tkX2_readForm_k58 3 rfl) ?_
      refine lv_topi (fun x19 ex19 => ?_)
      have hw := hw x19 ex19
      refine va_put (D := (dC, dI)) (ci := 2) (v := .int x19) (ty := .int) (C := RX2) (T := TX2) (N := 12) hx hb hts ui_X2_readForm_X2 tyX2 tyX2_ok nmX2 hown hK hP hD hS 0 rfl rfl 8 (by decide) (hts _ uw_X2_readForm_f36) (fun _ h9 => h9) rfl (by decide +kernel) rfl rfl (Nat.le_of_ble_eq_true rfl) (dt_of tkX2_readForm_k58 4 rfl) (fun H locs hP hD hS => ?_)
      have hP : va_P (dC, dI) vwCl (wd01_42 a0 jha jhi jlc jld jkJ jiT jj1 jjT x19 ja4 jaP jkk a1 jbF jb3 x15 x16 jcI x17 x18 jbF cyB jcq jha cyI f8 jhi cyI f14) H := hP
      have hD : va_D A (wd01_42 a0 jha jhi jlc jld jkJ jiT jj1 jjT x19 ja4 jaP jkk a1 jbF jb3 x15 x16 jcI x17 x18 jbF cyB jcq jha cyI f8 jhi cyI f14) := hD
      exact ((W.vret hx hb hr (fun t ht hW => ⟨⟨(x15, x17, x18, x16, f8, f14, x19), rfl, hw, by rw [ht]; exact hP, va_K.moved hW.alike hK, hD⟩, hS.F ht⟩) hS.2.2 (dt_of tkX2_readForm_k58 5 rfl)))
    · have hw := hw.2 c2
      exact kb_X2_readForm_13 dC dI cyB cyI cyJ cyP a0 a1 jha jbF jhi jlc jld jkJ jiT jj1 jjT ja4 jaP jkk jcI jb3 jcq Q  C0 _ _ _ jhS jcU jbM jeF jiR jiP jaN hP hD hS (lv_sub hl [1] rfl) hw
theorem ui_X2_readHare_X2 : ∀ w ∈ u_ws RX2 TX2 12, w ∈ wsX2_readHare := uiM mbX2_readHare euX2 (by decide +kernel)
theorem uw_X2_readHare_f24 : (.fieldLink RX2 24 "MarchHares$Down" "seat" "[I" : Cond) ∈ wsX2_readHare := mbX2_readHare 192 (by decide +kernel)
theorem uw_X2_readHare_f27 : (.fieldLink RX2 27 "MarchHares$Down" "strength" "[I" : Cond) ∈ wsX2_readHare := mbX2_readHare 193 (by decide +kernel)
theorem uw_X2_readHare_f36 : (.fieldLink RX2 36 "MarchHares$Down" "forms" "I" : Cond) ∈ wsX2_readHare := mbX2_readHare 720 (by decide +kernel)
theorem uw_X2_readHare_f40 : (.fieldLink RX2 40 "MarchHares$Down" "hares" "I" : Cond) ∈ wsX2_readHare := mbX2_readHare 721 (by decide +kernel)
set_option maxHeartbeats 4000000 in
set_option maxRecDepth 100000 in
theorem kb_X2_readHare_13 {p : Program} {l : Launch} {e : Env} {s : State} {m : MethodId} {args : Array Value} {below : List Frame} {meth : Method} {c : Code} {A : Nat → Prop} (dC : Nat → ClassId) (dI : Nat → Nat → Nat) (cyB cyI cyJ cyP : ClassId) (a0 a1 jla jbF jjy : Nat) (jmz jmA jlc jld jj1 jjT jaP jkk jcI : Value) (jaN jb3 : Int32) (jcq : Nat → Int32) (Q : Int32 → Int32 → Int32 → Int32 → (Nat → Int32) → (Nat → Int32) → Int32 → Prop)  (C0 : cfx p s m args meth c cX2_readHare none wsX2_readHare RX2 3 A (dC, dI) (kT cyB cyI cyJ cyP)) : ∀ (H : Heap) (locs : List Loc) (ls : Array Slot) (jhS jcU jbM jeF : Int32) (jms jlq : Nat → Int32) (jaC : Int32), va_P (dC, dI) vwCl (wd01_46 a0 jmz jmA jlc jld jla jjy jj1 jjT jaN jaC jaP jkk a1 jbF jb3 jhS jeF jcI jcU jbM jbF cyB jcq jla cyI jms jjy cyI jlq) H → va_D A (wd01_46 a0 jmz jmA jlc jld jla jjy jj1 jjT jaN jaC jaP jkk a1 jbF jb3 jhS jeF jcI jcU jbM jbF cyB jcq jla cyI jms jjy cyI jlq) → va_S A s.heap H locs → lv_has ls 3 [(1, .ref a1)] → wb_X2_readHare_13 jaN jb3 jcq Q  jhS jcU jbM jeF jms jlq jaC → W p l e (headSpec wsX2_readHare ({ frames := 3, cells := 0, slots := 0, locals := 63 })).room s m args below meth c H locs 0 0 (MQ below (va_Qv (fun (u : Int32 × Int32 × Int32 × Int32 × (Nat → Int32) × (Nat → Int32) × Int32) => Q u.1 u.2.1 u.2.2.1 u.2.2.2.1 u.2.2.2.2.1 u.2.2.2.2.2.1 u.2.2.2.2.2.2) (cB (dC, dI) (kT cyB cyI cyJ cyP) A (fun u : Int32 × Int32 × Int32 × Int32 × (Nat → Int32) × (Nat → Int32) × Int32 => ((wd01_46 a0 jmz jmA jlc jld jla jjy jj1 jjT jaN u.2.2.2.2.2.2 jaP jkk a1 jbF jb3 u.1 u.2.2.2.1 jcI u.2.1 u.2.2.1 jbF cyB jcq jla cyI u.2.2.2.2.1 jjy cyI u.2.2.2.2.2.1) : va_W))) A) args s 0 0 A) (F0 m 13 ls []) := by
  obtain ⟨hx, hb, hr, hts, hown, hlocks, hml, hA, hK, hNw⟩ := id C0
  intro H locs ls jhS jcU jbM jeF jms jlq jaC hP hD hS hl hw
  refine lv_aload_n hx hb (dt_of tkX2_readHare_k0 6 rfl) rfl (lv_at hl 0 rfl) ?_
  refine lv_iconst (v := 3) hx hb (dt_of tkX2_readHare_k0 7 rfl) (by decide) ?_
  obtain ⟨hCc, hPc, hDc, hFc⟩ := va_pick (ws' := (wd01_43 a1 jbF jb3 jhS jeF jcI jcU jbM)) hP hD hS hA [1] (by decide +kernel) rfl
  refine va_callv (va_runV (As := [.int 3]) (rest := []) ⟨hx, hb, hml, hown, hts⟩ (ck_X8_blameToken l dC dI cyB cyI cyJ cyP a1 H.size (.ref jbF) (.int jb3) (.int jhS) (jcI) jeF jcU jbM 3 hw) (cwV 1 hts gX2_readHare_X8_blameToken rfl rfl rfl (by decide +kernel) ⟨Nat.le_of_ble_eq_true rfl, Nat.le_of_ble_eq_true rfl⟩) ⟨cPc_blind, va_recv (q := (RX8, TX8, 7)) hK hPc (ci := 8) (q0 := 0) rfl rfl, cPc_pre hPc hK hDc hNw⟩ rfl rfl hl.1 rfl (lv_room (Nat.le_of_ble_eq_true rfl)) (dt_of tkX2_readHare_k0 8 rfl) ⟨Nat.le_of_ble_eq_true rfl, Nat.le_of_ble_eq_true rfl⟩) hS (fun q _ h => hFc q h) hFc (fun u t H1 locs ht hvm hw hB hz1 hk1 hS => ?_)
  obtain ⟨x20, x21⟩ := u
  obtain ⟨hP1, hK1, hD1⟩ := hB
  rw [ht] at hP1
  obtain ⟨hP, hD⟩ := va_joinN (wr := [(a0, .inr (2, [jmz, jmA, jlc, jld, .ref jla, .ref jjy, jj1, jjT, .int jaN, .int jaC, jaP, jkk])), (jbF, .inl (cyB, 600, .inl jcq)), (jla, .inl (cyI, 6, .inl jms)), (jjy, .inl (cyI, 6, .inl jlq))]) (w1 := (wd01_43 a1 jbF jb3 jhS jeF jcI x20 x21)) (wn := (wd01_46 a0 jmz jmA jlc jld jla jjy jj1 jjT jaN jaC jaP jkk a1 jbF jb3 jhS jeF jcI x20 x21 jbF cyB jcq jla cyI jms jjy cyI jlq)) hP hD [1] [0, 2, 3, 4] [0, 4, 1, 2, 3] hCc rfl (by decide +kernel) (by decide +kernel) (by decide +kernel) rfl hk1 hFc hP1 hD1
  generalize H1 = H at hP hS ⊢
  exact ((W.vret hx hb hr (fun t ht hW => ⟨⟨(jhS, x20, x21, jeF, jms, jlq, jaC), rfl, hw, by rw [ht]; exact hP, va_K.moved hW.alike hK, hD⟩, hS.F ht⟩) hS.2.2 (dt_of tkX2_readHare_k0 9 rfl)))
set_option maxHeartbeats 4000000 in
set_option maxRecDepth 100000 in
theorem ck_X2_readHare (l : Launch) (dC : Nat → ClassId) (dI : Nat → Nat → Nat) (cyB cyI cyJ cyP : ClassId) (a0 a1 jla jbF jjy sz : Nat) (jmz jmA jlc jld jj1 jjT jaP jkk jcI : Value) (jaN jb3 : Int32) (jcq : Nat → Int32) (jhS jcU jbM jeF : Int32) (jms jlq : Nat → Int32) (jaC p2 : Int32) {Q : Int32 → Int32 → Int32 → Int32 → (Nat → Int32) → (Nat → Int32) → Int32 → Prop} (hw : wq_X2_readHare jaN jb3 jcq jhS jcU jbM jeF jms jlq jaC p2 Q) : Met l yX2_readHare wsX2_readHare ({ frames := 3, cells := 0, slots := 0, locals := 63 }) (va_Pc [.ref a0, .ref a1, .int p2] (cPc (dC, dI) (kT cyB cyI cyJ cyP) (wd01_46 a0 jmz jmA jlc jld jla jjy jj1 jjT jaN jaC jaP jkk a1 jbF jb3 jhS jeF jcI jcU jbM jbF cyB jcq jla cyI jms jjy cyI jlq) sz)) (va_Qv (fun (u : Int32 × Int32 × Int32 × Int32 × (Nat → Int32) × (Nat → Int32) × Int32) => Q u.1 u.2.1 u.2.2.1 u.2.2.2.1 u.2.2.2.2.1 u.2.2.2.2.2.1 u.2.2.2.2.2.2) (cB (dC, dI) (kT cyB cyI cyJ cyP) (va_A (wd01_46 a0 jmz jmA jlc jld jla jjy jj1 jjT jaN jaC jaP jkk a1 jbF jb3 jhS jeF jcI jcU jbM jbF cyB jcq jla cyI jms jjy cyI jlq) sz) (fun u : Int32 × Int32 × Int32 × Int32 × (Nat → Int32) × (Nat → Int32) × Int32 => ((wd01_46 a0 jmz jmA jlc jld jla jjy jj1 jjT jaN u.2.2.2.2.2.2 jaP jkk a1 jbF jb3 u.1 u.2.2.2.1 jcI u.2.1 u.2.2.1 jbF cyB jcq jla cyI u.2.2.2.2.1 jjy cyI u.2.2.2.2.2.1) : va_W))) (va_A (wd01_46 a0 jmz jmA jlc jld jla jjy jj1 jjT jaN jaC jaP jkk a1 jbF jb3 jhS jeF jcI jcU jbM jbF cyB jcq jla cyI jms jjy cyI jlq) sz)) 0 0 (va_A (wd01_46 a0 jmz jmA jlc jld jla jjy jj1 jjT jaN jaC jaP jkk a1 jbF jb3 jhS jeF jcI jcU jbM jbF cyB jcq jla cyI jms jjy cyI jlq) sz) := by
  refine Met.ofW (cc := cX2_readHare) (maxL := 3) (ret := none) (by decide) rfl ?_
  intro p e s m args below meth c s₁ B hml hv
  obtain ⟨rfl, hsz, hP, hK, hD0, hNw⟩ := hv
  have hx := B.exec
  have hb := B.bytes
  have hr := B.returns
  have hts := atoms_spec (ws := wsX2_readHare) B.pre
  have hown : s.vm.findClass RX2 = some m.cls := findClass_of_methodNamed B.named
  have hlocks := B.notSynchronized
  subst hsz
  have hD := hD0.self (sz := s.heap.size)
  generalize hAe : va_A (wd01_46 a0 jmz jmA jlc jld jla jjy jj1 jjT jaN jaC jaP jkk a1 jbF jb3 jhS jeF jcI jcU jbM jbF cyB jcq jla cyI jms jjy cyI jlq) s.heap.size = A at hD ⊢
  have hA : ∀ q : Nat, s.heap.size ≤ q → A q := fun q h => by rw [← hAe]; exact Or.inr h
  have hS : va_S A s.heap s.heap [] := va_S.rf
  have hP : va_P (dC, dI) vwCl (wd01_46 a0 jmz jmA jlc jld jla jjy jj1 jjT jaN jaC jaP jkk a1 jbF jb3 jhS jeF jcI jcU jbM jbF cyB jcq jla cyI jms jjy cyI jlq) s.heap := hP
  have hl := lv_entry ([.ref a0, .ref a1, .int p2]) (n := 3) (Nat.le_of_ble_eq_true rfl)
  rw [lg_entry_eq]
  generalize (lg_sl ([.ref a0, .ref a1, .int p2]) ++ List.replicate (3 - (lg_sl ([.ref a0, .ref a1, .int p2])).length) Slot.unset).toArray = ls at hl ⊢
  have hl : lv_has ls 3 [(0, .ref a0), (1, .ref a1), (2, .int p2)] := hl
  have C0 : cfx p s m _ meth c cX2_readHare none wsX2_readHare RX2 3 A (dC, dI) (kT cyB cyI cyJ cyP) := ⟨hx, hb, hr, hts, hown, hlocks, hml, hA, hK, hNw⟩
  clear hAe
  obtain ⟨H, hH⟩ : ∃ H, H = s.heap := ⟨_, rfl⟩
  rw [← hH] at hP ⊢
  have hS : va_S A s.heap H [] := by rw [hH]; exact va_S.rf
  have hS := hS
  refine lv_iload_n hx hb (dt_of tkX2_readHare_k0 0 rfl) rfl (lv_at hl 2 rfl) ?_
  refine lv_if_ne (tgt := 13) hx hb (dt_of tkX2_readHare_k0 1 rfl) (by decide) (fun c1 => ?_) (fun c1 => ?_)
  · have hw := hw.1 c1
    exact kb_X2_readHare_13 dC dI cyB cyI cyJ cyP a0 a1 jla jbF jjy jmz jmA jlc jld jj1 jjT jaP jkk jcI jaN jb3 jcq Q  C0 _ _ _ jhS jcU jbM jeF jms jlq jaC hP hD hS (lv_sub hl [1] rfl) hw
  · have hw := hw.2 c1
    refine lv_aload_n hx hb (dt_of tkX2_readHare_k0 2 rfl) rfl (lv_at hl 0 rfl) ?_
    refine va_get (D := (dC, dI)) (ci := 2) (v := .int jaC) (C := RX2) (T := TX2) (N := 12) hx hb hts ui_X2_readHare_X2 hown hK hP 0 rfl rfl 9 (by decide) (hts _ uw_X2_readHare_f40) (fun _ h9 => h9) rfl (dt_of tkX2_readHare_k0 3 rfl) ?_
    refine lv_bipush (v := 6) hx hb (dt_of tkX2_readHare_k0 4 rfl) (by decide) ?_
    refine lv_icmp_lt (tgt := 19) hx hb (dt_of tkX2_readHare_k0 5 rfl) (by decide) (fun c2 => ?_) (fun c2 => ?_)
    · have hw := hw.1 c2
      refine lv_aload_n hx hb (dt_of tkX2_readHare_k0 10 rfl) rfl (lv_at hl 0 rfl) ?_
      refine va_get (D := (dC, dI)) (ci := 2) (v := .ref jla) (C := RX2) (T := TX2) (N := 12) hx hb hts ui_X2_readHare_X2 hown hK hP 0 rfl rfl 4 (by decide) (hts _ uw_X2_readHare_f24) (fun _ h9 => h9) rfl (dt_of tkX2_readHare_k0 11 rfl) ?_
      refine lv_aload_n hx hb (dt_of tkX2_readHare_k0 12 rfl) rfl (lv_at hl 0 rfl) ?_
      refine va_get (D := (dC, dI)) (ci := 2) (v := .int jaC) (C := RX2) (T := TX2) (N := 12) hx hb hts ui_X2_readHare_X2 hown hK hP 0 rfl rfl 9 (by decide) (hts _ uw_X2_readHare_f40) (fun _ h9 => h9) rfl (dt_of tkX2_readHare_k0 13 rfl) ?_
      refine lv_aload_n hx hb (dt_of tkX2_readHare_k0 14 rfl) rfl (lv_at hl 1 rfl) ?_
      refine lv_iconst (v := 0) hx hb (dt_of tkX2_readHare_k0 15 rfl) (by decide) ?_
      refine lv_aload_n hx hb (dt_of tkX2_readHare_k29 0 rfl) rfl (lv_at hl 0 rfl) ?_
      refine va_get (D := (dC, dI)) (ci := 2) (v := .int jaN) (C := RX2) (T := TX2) (N := 12) hx hb hts ui_X2_readHare_X2 hown hK hP 0 rfl rfl 8 (by decide) (hts _ uw_X2_readHare_f36) (fun _ h9 => h9) rfl (dt_of tkX2_readHare_k29 1 rfl) ?_
      refine lv_iconst (v := 1) hx hb (dt_of tkX2_readHare_k29 2 rfl) (by decide) ?_
      refine lv_isub hx hb (dt_of tkX2_readHare_k29 3 rfl) ?_
      obtain ⟨hCc, hPc, hDc, hFc⟩ := va_pick (ws' := (wd01_44 a1 jbF jb3 jhS jeF jcI jcU jbM jbF cyB jcq)) hP hD hS hA [1, 2] (by decide +kernel) rfl
      refine va_calli (va_runV (As := [.int 0, .int (jaN - 1)]) (rest := [.int jaC, .ref jla]) ⟨hx, hb, hml, hown, hts⟩ (ck_X8_number l dC dI cyB cyI cyJ cyP a1 jbF H.size (jcI) jb3 jcq jhS jcU jbM jeF 0 (jaN - 1) hw) (cwV 2 hts gX2_readHare_X8_number rfl rfl rfl (by decide +kernel) ⟨Nat.le_of_ble_eq_true rfl, Nat.le_of_ble_eq_true rfl⟩) ⟨cPc_blind, va_recv (q := (RX8, TX8, 7)) hK hPc (ci := 8) (q0 := 0) rfl rfl, cPc_pre hPc hK hDc hNw⟩ rfl rfl hl.1 rfl (lv_room (Nat.le_of_ble_eq_true rfl)) (dt_of tkX2_readHare_k29 4 rfl) ⟨Nat.le_of_ble_eq_true rfl, Nat.le_of_ble_eq_true rfl⟩) hS (fun q _ h => hFc q h) hFc (fun r7 u t H1 locs ht hvm hw hB hz1 hk1 hS => ?_)
      obtain ⟨x3, x4, x5, x6⟩ := u
      obtain ⟨hP1, hK1, hD1⟩ := hB
      rw [ht] at hP1
      obtain ⟨hP, hD⟩ := va_joinN (wr := (wd01_47 a0 jmz jmA jlc jld jla jjy jj1 jjT jaN jaC jaP jkk jla cyI jms jjy cyI jlq)) (w1 := (wd01_44 a1 jbF jb3 x3 x6 jcI x4 x5 jbF cyB jcq)) (wn := (wd01_46 a0 jmz jmA jlc jld jla jjy jj1 jjT jaN jaC jaP jkk a1 jbF jb3 x3 x6 jcI x4 x5 jbF cyB jcq jla cyI jms jjy cyI jlq)) hP hD [1, 2] [0, 3, 4] [0, 3, 4, 1, 2] hCc rfl (by decide +kernel) (by decide +kernel) (by decide +kernel) rfl hk1 hFc hP1 hD1
      generalize H1 = H at hP hS ⊢
      obtain ⟨hi9, hw⟩ := hw
      refine va_iast hx hb hK hP hD hS 3 1 rfl rfl hi9 (dt_of tkX2_readHare_k29 5 rfl) (fun H locs hP hD hS => ?_)
      obtain ⟨f8, ef8⟩ : ∃ y : Nat → Int32, y = upd jms jaC.toNatClampNeg r7 := ⟨_, rfl⟩
      have hw := hw f8 ef8
      have hP : va_P (dC, dI) vwCl (wd01_46 a0 jmz jmA jlc jld jla jjy jj1 jjT jaN jaC jaP jkk a1 jbF jb3 x3 x6 jcI x4 x5 jbF cyB jcq jla cyI f8 jjy cyI jlq) H := by rw [ef8]; exact hP
      have hD : va_D A (wd01_46 a0 jmz jmA jlc jld jla jjy jj1 jjT jaN jaC jaP jkk a1 jbF jb3 x3 x6 jcI x4 x5 jbF cyB jcq jla cyI f8 jjy cyI jlq) := by rw [ef8]; exact hD
      refine lv_aload_n hx hb (dt_of tkX2_readHare_k29 6 rfl) rfl (lv_at hl 0 rfl) ?_
      refine va_get (D := (dC, dI)) (ci := 2) (v := .ref jjy) (C := RX2) (T := TX2) (N := 12) hx hb hts ui_X2_readHare_X2 hown hK hP 0 rfl rfl 5 (by decide) (hts _ uw_X2_readHare_f27) (fun _ h9 => h9) rfl (dt_of tkX2_readHare_k29 7 rfl) ?_
      refine lv_aload_n hx hb (dt_of tkX2_readHare_k29 8 rfl) rfl (lv_at hl 0 rfl) ?_
      refine va_get (D := (dC, dI)) (ci := 2) (v := .int jaC) (C := RX2) (T := TX2) (N := 12) hx hb hts ui_X2_readHare_X2 hown hK hP 0 rfl rfl 9 (by decide) (hts _ uw_X2_readHare_f40) (fun _ h9 => h9) rfl (dt_of tkX2_readHare_k29 9 rfl) ?_
      refine lv_aload_n hx hb (dt_of tkX2_readHare_k29 10 rfl) rfl (lv_at hl 1 rfl) ?_
      refine lv_iconst (v := 1) hx hb (dt_of tkX2_readHare_k29 11 rfl) (by decide) ?_
      refine lv_bipush (v := 9) hx hb (dt_of tkX2_readHare_k29 12 rfl) (by decide) ?_
      obtain ⟨hCc, hPc, hDc, hFc⟩ := va_pick (ws' := (wd01_44 a1 jbF jb3 x3 x6 jcI x4 x5 jbF cyB jcq)) hP hD hS hA [1, 2] (by decide +kernel) rfl
      refine va_calli (va_runV (As := [.int 1, .int 9]) (rest := [.int jaC, .ref jjy]) ⟨hx, hb, hml, hown, hts⟩ (ck_X8_number l dC dI cyB cyI cyJ cyP a1 jbF H.size (jcI) jb3 jcq x3 x4 x5 x6 1 9 hw) (cwV 2 hts gX2_readHare_X8_number rfl rfl rfl (by decide +kernel) ⟨Nat.le_of_ble_eq_true rfl, Nat.le_of_ble_eq_true rfl⟩) ⟨cPc_blind, va_recv (q := (RX8, TX8, 7)) hK hPc (ci := 8) (q0 := 0) rfl rfl, cPc_pre hPc hK hDc hNw⟩ rfl rfl hl.1 rfl (lv_room (Nat.le_of_ble_eq_true rfl)) (dt_of tkX2_readHare_k29 13 rfl) ⟨Nat.le_of_ble_eq_true rfl, Nat.le_of_ble_eq_true rfl⟩) hS (fun q _ h => hFc q h) hFc (fun r13 u t H1 locs ht hvm hw hB hz1 hk1 hS => ?_)
      obtain ⟨x9, x10, x11, x12⟩ := u
      obtain ⟨hP1, hK1, hD1⟩ := hB
      rw [ht] at hP1
      obtain ⟨hP, hD⟩ := va_joinN (wr := (wd01_47 a0 jmz jmA jlc jld jla jjy jj1 jjT jaN jaC jaP jkk jla cyI f8 jjy cyI jlq)) (w1 := (wd01_44 a1 jbF jb3 x9 x12 jcI x10 x11 jbF cyB jcq)) (wn := (wd01_46 a0 jmz jmA jlc jld jla jjy jj1 jjT jaN jaC jaP jkk a1 jbF jb3 x9 x12 jcI x10 x11 jbF cyB jcq jla cyI f8 jjy cyI jlq)) hP hD [1, 2] [0, 3, 4] [0, 3, 4, 1, 2] hCc rfl (by decide +kernel) (by decide +kernel) (by decide +kernel) rfl hk1 hFc hP1 hD1
      generalize H1 = H at hP hS ⊢
      obtain ⟨hi9, hw⟩ := hw
      refine va_iast hx hb hK hP hD hS 4 1 rfl rfl hi9 (dt_of tkX2_readHare_k29 14 rfl) (fun H locs hP hD hS => ?_)
      obtain ⟨f14, ef14⟩ : ∃ y : Nat → Int32, y = upd jlq jaC.toNatClampNeg r13 := ⟨_, rfl⟩
      have hw := hw f14 ef14
      have hP : va_P (dC, dI) vwCl (wd01_46 a0 jmz jmA jlc jld jla jjy jj1 jjT jaN jaC jaP jkk a1 jbF jb3 x9 x12 jcI x10 x11 jbF cyB jcq jla cyI f8 jjy cyI f14) H := by rw [ef14]; exact hP
      have hD : va_D A (wd01_46 a0 jmz jmA jlc jld jla jjy jj1 jjT jaN jaC jaP jkk a1 jbF jb3 x9 x12 jcI x10 x11 jbF cyB jcq jla cyI f8 jjy cyI f14) := by rw [ef14]; exact hD
      refine lv_aload_n hx hb (dt_of tkX2_readHare_k29 15 rfl) rfl (lv_at hl 1 rfl) ?_
      refine lv_bipush (v := 59) hx hb (dt_of tkX2_readHare_k56 0 rfl) (by decide) ?_
      obtain ⟨hCc, hPc, hDc, hFc⟩ := va_pick (ws' := (wd01_44 a1 jbF jb3 x9 x12 jcI x10 x11 jbF cyB jcq)) hP hD hS hA [1, 2] (by decide +kernel) rfl
      refine va_callv (va_runV (As := [.int 59]) (rest := []) ⟨hx, hb, hml, hown, hts⟩ (ck_X8_needs l dC dI cyB cyI cyJ cyP a1 jbF H.size (jcI) jb3 jcq x9 x12 x10 x11 59 hw) (cwV 1 hts gX2_readHare_X8_needs rfl rfl rfl (by decide +kernel) ⟨Nat.le_of_ble_eq_true rfl, Nat.le_of_ble_eq_true rfl⟩) ⟨cPc_blind, va_recv (q := (RX8, TX8, 7)) hK hPc (ci := 8) (q0 := 0) rfl rfl, cPc_pre hPc hK hDc hNw⟩ rfl rfl hl.1 rfl (lv_room (Nat.le_of_ble_eq_true rfl)) (dt_of tkX2_readHare_k56 1 rfl) ⟨Nat.le_of_ble_eq_true rfl, Nat.le_of_ble_eq_true rfl⟩) hS (fun q _ h => hFc q h) hFc (fun u t H1 locs ht hvm hw hB hz1 hk1 hS => ?_)
      obtain ⟨x15, x16, x17, x18⟩ := u
      obtain ⟨hP1, hK1, hD1⟩ := hB
      rw [ht] at hP1
      obtain ⟨hP, hD⟩ := va_joinN (wr := (wd01_47 a0 jmz jmA jlc jld jla jjy jj1 jjT jaN jaC jaP jkk jla cyI f8 jjy cyI f14)) (w1 := (wd01_44 a1 jbF jb3 x15 x16 jcI x17 x18 jbF cyB jcq)) (wn := (wd01_46 a0 jmz jmA jlc jld jla jjy jj1 jjT jaN jaC jaP jkk a1 jbF jb3 x15 x16 jcI x17 x18 jbF cyB jcq jla cyI f8 jjy cyI f14)) hP hD [1, 2] [0, 3, 4] [0, 3, 4, 1, 2] hCc rfl (by decide +kernel) (by decide +kernel) (by decide +kernel) rfl hk1 hFc hP1 hD1
      generalize H1 = H at hP hS ⊢
      refine lv_aload_n hx hb (dt_of tkX2_readHare_k56 2 rfl) rfl (lv_at hl 0 rfl) ?_
      refine lv_dup hx hb (dt_of tkX2_readHare_k56 3 rfl) rfl ?_
      refine va_get (D := (dC, dI)) (ci := 2) (v := .int jaC) (C := RX2) (T := TX2) (N := 12) hx hb hts ui_X2_readHare_X2 hown hK hP 0 rfl rfl 9 (by decide) (hts _ uw_X2_readHare_f40) (fun _ h9 => h9) rfl (dt_of tkX2_readHare_k56 4 rfl) ?_
      refine lv_iconst (v := 1) hx hb (dt_of tkX2_readHare_k56 5 rfl) (by decide) ?_
      refine lv_iadd hx hb (dt_of tkX2_readHare_k56 6 rfl) ?_
      refine lv_topi (fun x19 ex19 => ?_)
      have hw := hw x19 ex19
      refine va_put (D := (dC, dI)) (ci := 2) (v := .int x19) (ty := .int) (C := RX2) (T := TX2) (N := 12) hx hb hts ui_X2_readHare_X2 tyX2 tyX2_ok nmX2 hown hK hP hD hS 0 rfl rfl 9 (by decide) (hts _ uw_X2_readHare_f40) (fun _ h9 => h9) rfl (by decide +kernel) rfl rfl (Nat.le_of_ble_eq_true rfl) (dt_of tkX2_readHare_k56 7 rfl) (fun H locs hP hD hS => ?_)
      have hP : va_P (dC, dI) vwCl (wd01_46 a0 jmz jmA jlc jld jla jjy jj1 jjT jaN x19 jaP jkk a1 jbF jb3 x15 x16 jcI x17 x18 jbF cyB jcq jla cyI f8 jjy cyI f14) H := hP
      have hD : va_D A (wd01_46 a0 jmz jmA jlc jld jla jjy jj1 jjT jaN x19 jaP jkk a1 jbF jb3 x15 x16 jcI x17 x18 jbF cyB jcq jla cyI f8 jjy cyI f14) := hD
      exact ((W.vret hx hb hr (fun t ht hW => ⟨⟨(x15, x17, x18, x16, f8, f14, x19), rfl, hw, by rw [ht]; exact hP, va_K.moved hW.alike hK, hD⟩, hS.F ht⟩) hS.2.2 (dt_of tkX2_readHare_k56 8 rfl)))
    · have hw := hw.2 c2
      exact kb_X2_readHare_13 dC dI cyB cyI cyJ cyP a0 a1 jla jbF jjy jmz jmA jlc jld jj1 jjT jaP jkk jcI jaN jb3 jcq Q  C0 _ _ _ jhS jcU jbM jeF jms jlq jaC hP hD hS (lv_sub hl [1] rfl) hw
theorem ui_X2_readFox_X2 : ∀ w ∈ u_ws RX2 TX2 12, w ∈ wsX2_readFox := uiM mbX2_readFox euX2 (by decide +kernel)
theorem uw_X2_readFox_f18 : (.fieldLink RX2 18 "MarchHares$Down" "foxX" "[I" : Cond) ∈ wsX2_readFox := mbX2_readFox 150 (by decide +kernel)
theorem uw_X2_readFox_f21 : (.fieldLink RX2 21 "MarchHares$Down" "foxY" "[I" : Cond) ∈ wsX2_readFox := mbX2_readFox 151 (by decide +kernel)
theorem uw_X2_readFox_f43 : (.fieldLink RX2 43 "MarchHares$Down" "foxes" "I" : Cond) ∈ wsX2_readFox := mbX2_readFox 722 (by decide +kernel)
set_option maxHeartbeats 4000000 in
set_option maxRecDepth 100000 in
theorem kb_X2_readFox_12 {p : Program} {l : Launch} {e : Env} {s : State} {m : MethodId} {args : Array Value} {below : List Frame} {meth : Method} {c : Code} {A : Nat → Prop} (dC : Nat → ClassId) (dI : Nat → Nat → Nat) (cyB cyI cyJ cyP : ClassId) (a0 a1 jjQ jbF jjU : Nat) (jmz jmA jkJ jiT jj1 jjT ja0 ja4 jkk jcI : Value) (jb3 : Int32) (jcq : Nat → Int32) (Q : Int32 → Int32 → Int32 → Int32 → (Nat → Int32) → (Nat → Int32) → Int32 → Prop)  (C0 : cfx p s m args meth c cX2_readFox none wsX2_readFox RX2 3 A (dC, dI) (kT cyB cyI cyJ cyP)) : ∀ (H : Heap) (locs : List Loc) (ls : Array Slot) (jhS jcU jbM jeF : Int32) (jlB jlx : Nat → Int32) (jbw : Int32), va_P (dC, dI) vwCl (wd01_48 a0 jmz jmA jjQ jjU jkJ jiT jj1 jjT ja0 ja4 jbw jkk a1 jbF jb3 jhS jeF jcI jcU jbM jbF cyB jcq jjQ cyI jlB jjU cyI jlx) H → va_D A (wd01_48 a0 jmz jmA jjQ jjU jkJ jiT jj1 jjT ja0 ja4 jbw jkk a1 jbF jb3 jhS jeF jcI jcU jbM jbF cyB jcq jjQ cyI jlB jjU cyI jlx) → va_S A s.heap H locs → lv_has ls 3 [(1, .ref a1)] → wb_X2_readFox_12 jb3 jcq Q  jhS jcU jbM jeF jlB jlx jbw → W p l e (headSpec wsX2_readFox ({ frames := 3, cells := 0, slots := 0, locals := 63 })).room s m args below meth c H locs 0 0 (MQ below (va_Qv (fun (u : Int32 × Int32 × Int32 × Int32 × (Nat → Int32) × (Nat → Int32) × Int32) => Q u.1 u.2.1 u.2.2.1 u.2.2.2.1 u.2.2.2.2.1 u.2.2.2.2.2.1 u.2.2.2.2.2.2) (cB (dC, dI) (kT cyB cyI cyJ cyP) A (fun u : Int32 × Int32 × Int32 × Int32 × (Nat → Int32) × (Nat → Int32) × Int32 => ((wd01_48 a0 jmz jmA jjQ jjU jkJ jiT jj1 jjT ja0 ja4 u.2.2.2.2.2.2 jkk a1 jbF jb3 u.1 u.2.2.2.1 jcI u.2.1 u.2.2.1 jbF cyB jcq jjQ cyI u.2.2.2.2.1 jjU cyI u.2.2.2.2.2.1) : va_W))) A) args s 0 0 A) (F0 m 12 ls []) := by
  obtain ⟨hx, hb, hr, hts, hown, hlocks, hml, hA, hK, hNw⟩ := id C0
  intro H locs ls jhS jcU jbM jeF jlB jlx jbw hP hD hS hl hw
  refine lv_aload_n hx hb (dt_of tkX2_readFox_k0 6 rfl) rfl (lv_at hl 0 rfl) ?_
  refine lv_iconst (v := 3) hx hb (dt_of tkX2_readFox_k0 7 rfl) (by decide) ?_
  obtain ⟨hCc, hPc, hDc, hFc⟩ := va_pick (ws' := (wd01_43 a1 jbF jb3 jhS jeF jcI jcU jbM)) hP hD hS hA [1] (by decide +kernel) rfl
  refine va_callv (va_runV (As := [.int 3]) (rest := []) ⟨hx, hb, hml, hown, hts⟩ (ck_X8_blameToken l dC dI cyB cyI cyJ cyP a1 H.size (.ref jbF) (.int jb3) (.int jhS) (jcI) jeF jcU jbM 3 hw) (cwV 1 hts gX2_readFox_X8_blameToken rfl rfl rfl (by decide +kernel) ⟨Nat.le_of_ble_eq_true rfl, Nat.le_of_ble_eq_true rfl⟩) ⟨cPc_blind, va_recv (q := (RX8, TX8, 7)) hK hPc (ci := 8) (q0 := 0) rfl rfl, cPc_pre hPc hK hDc hNw⟩ rfl rfl hl.1 rfl (lv_room (Nat.le_of_ble_eq_true rfl)) (dt_of tkX2_readFox_k0 8 rfl) ⟨Nat.le_of_ble_eq_true rfl, Nat.le_of_ble_eq_true rfl⟩) hS (fun q _ h => hFc q h) hFc (fun u t H1 locs ht hvm hw hB hz1 hk1 hS => ?_)
  obtain ⟨x20, x21⟩ := u
  obtain ⟨hP1, hK1, hD1⟩ := hB
  rw [ht] at hP1
  obtain ⟨hP, hD⟩ := va_joinN (wr := [(a0, .inr (2, [jmz, jmA, .ref jjQ, .ref jjU, jkJ, jiT, jj1, jjT, ja0, ja4, .int jbw, jkk])), (jbF, .inl (cyB, 600, .inl jcq)), (jjQ, .inl (cyI, 4, .inl jlB)), (jjU, .inl (cyI, 4, .inl jlx))]) (w1 := (wd01_43 a1 jbF jb3 jhS jeF jcI x20 x21)) (wn := (wd01_48 a0 jmz jmA jjQ jjU jkJ jiT jj1 jjT ja0 ja4 jbw jkk a1 jbF jb3 jhS jeF jcI x20 x21 jbF cyB jcq jjQ cyI jlB jjU cyI jlx)) hP hD [1] [0, 2, 3, 4] [0, 4, 1, 2, 3] hCc rfl (by decide +kernel) (by decide +kernel) (by decide +kernel) rfl hk1 hFc hP1 hD1
  generalize H1 = H at hP hS ⊢
  exact ((W.vret hx hb hr (fun t ht hW => ⟨⟨(jhS, x20, x21, jeF, jlB, jlx, jbw), rfl, hw, by rw [ht]; exact hP, va_K.moved hW.alike hK, hD⟩, hS.F ht⟩) hS.2.2 (dt_of tkX2_readFox_k0 9 rfl)))
set_option maxHeartbeats 4000000 in
set_option maxRecDepth 100000 in
theorem ck_X2_readFox (l : Launch) (dC : Nat → ClassId) (dI : Nat → Nat → Nat) (cyB cyI cyJ cyP : ClassId) (a0 a1 jjQ jbF jjU sz : Nat) (jmz jmA jkJ jiT jj1 jjT ja0 ja4 jkk jcI : Value) (jb3 : Int32) (jcq : Nat → Int32) (jhS jcU jbM jeF : Int32) (jlB jlx : Nat → Int32) (jbw p2 : Int32) {Q : Int32 → Int32 → Int32 → Int32 → (Nat → Int32) → (Nat → Int32) → Int32 → Prop} (hw : wq_X2_readFox jb3 jcq jhS jcU jbM jeF jlB jlx jbw p2 Q) : Met l yX2_readFox wsX2_readFox ({ frames := 3, cells := 0, slots := 0, locals := 63 }) (va_Pc [.ref a0, .ref a1, .int p2] (cPc (dC, dI) (kT cyB cyI cyJ cyP) (wd01_48 a0 jmz jmA jjQ jjU jkJ jiT jj1 jjT ja0 ja4 jbw jkk a1 jbF jb3 jhS jeF jcI jcU jbM jbF cyB jcq jjQ cyI jlB jjU cyI jlx) sz)) (va_Qv (fun (u : Int32 × Int32 × Int32 × Int32 × (Nat → Int32) × (Nat → Int32) × Int32) => Q u.1 u.2.1 u.2.2.1 u.2.2.2.1 u.2.2.2.2.1 u.2.2.2.2.2.1 u.2.2.2.2.2.2) (cB (dC, dI) (kT cyB cyI cyJ cyP) (va_A (wd01_48 a0 jmz jmA jjQ jjU jkJ jiT jj1 jjT ja0 ja4 jbw jkk a1 jbF jb3 jhS jeF jcI jcU jbM jbF cyB jcq jjQ cyI jlB jjU cyI jlx) sz) (fun u : Int32 × Int32 × Int32 × Int32 × (Nat → Int32) × (Nat → Int32) × Int32 => ((wd01_48 a0 jmz jmA jjQ jjU jkJ jiT jj1 jjT ja0 ja4 u.2.2.2.2.2.2 jkk a1 jbF jb3 u.1 u.2.2.2.1 jcI u.2.1 u.2.2.1 jbF cyB jcq jjQ cyI u.2.2.2.2.1 jjU cyI u.2.2.2.2.2.1) : va_W))) (va_A (wd01_48 a0 jmz jmA jjQ jjU jkJ jiT jj1 jjT ja0 ja4 jbw jkk a1 jbF jb3 jhS jeF jcI jcU jbM jbF cyB jcq jjQ cyI jlB jjU cyI jlx) sz)) 0 0 (va_A (wd01_48 a0 jmz jmA jjQ jjU jkJ jiT jj1 jjT ja0 ja4 jbw jkk a1 jbF jb3 jhS jeF jcI jcU jbM jbF cyB jcq jjQ cyI jlB jjU cyI jlx) sz) := by
  refine Met.ofW (cc := cX2_readFox) (maxL := 3) (ret := none) (by decide) rfl ?_
  intro p e s m args below meth c s₁ B hml hv
  obtain ⟨rfl, hsz, hP, hK, hD0, hNw⟩ := hv
  have hx := B.exec
  have hb := B.bytes
  have hr := B.returns
  have hts := atoms_spec (ws := wsX2_readFox) B.pre
  have hown : s.vm.findClass RX2 = some m.cls := findClass_of_methodNamed B.named
  have hlocks := B.notSynchronized
  subst hsz
  have hD := hD0.self (sz := s.heap.size)
  generalize hAe : va_A (wd01_48 a0 jmz jmA jjQ jjU jkJ jiT jj1 jjT ja0 ja4 jbw jkk a1 jbF jb3 jhS jeF jcI jcU jbM jbF cyB jcq jjQ cyI jlB jjU cyI jlx) s.heap.size = A at hD ⊢
  have hA : ∀ q : Nat, s.heap.size ≤ q → A q := fun q h => by rw [← hAe]; exact Or.inr h
  have hS : va_S A s.heap s.heap [] := va_S.rf
  have hP : va_P (dC, dI) vwCl (wd01_48 a0 jmz jmA jjQ jjU jkJ jiT jj1 jjT ja0 ja4 jbw jkk a1 jbF jb3 jhS jeF jcI jcU jbM jbF cyB jcq jjQ cyI jlB jjU cyI jlx) s.heap := hP
  have hl := lv_entry ([.ref a0, .ref a1, .int p2]) (n := 3) (Nat.le_of_ble_eq_true rfl)
  rw [lg_entry_eq]
  generalize (lg_sl ([.ref a0, .ref a1, .int p2]) ++ List.replicate (3 - (lg_sl ([.ref a0, .ref a1, .int p2])).length) Slot.unset).toArray = ls at hl ⊢
  have hl : lv_has ls 3 [(0, .ref a0), (1, .ref a1), (2, .int p2)] := hl
  have C0 : cfx p s m _ meth c cX2_readFox none wsX2_readFox RX2 3 A (dC, dI) (kT cyB cyI cyJ cyP) := ⟨hx, hb, hr, hts, hown, hlocks, hml, hA, hK, hNw⟩
  clear hAe
  obtain ⟨H, hH⟩ : ∃ H, H = s.heap := ⟨_, rfl⟩
  rw [← hH] at hP ⊢
  have hS : va_S A s.heap H [] := by rw [hH]; exact va_S.rf
  have hS := hS
  refine lv_iload_n hx hb (dt_of tkX2_readFox_k0 0 rfl) rfl (lv_at hl 2 rfl) ?_
  refine lv_if_ne (tgt := 12) hx hb (dt_of tkX2_readFox_k0 1 rfl) (by decide) (fun c1 => ?_) (fun c1 => ?_)
  · have hw := hw.1 c1
    exact kb_X2_readFox_12 dC dI cyB cyI cyJ cyP a0 a1 jjQ jbF jjU jmz jmA jkJ jiT jj1 jjT ja0 ja4 jkk jcI jb3 jcq Q  C0 _ _ _ jhS jcU jbM jeF jlB jlx jbw hP hD hS (lv_sub hl [1] rfl) hw
  · have hw := hw.2 c1
    refine lv_aload_n hx hb (dt_of tkX2_readFox_k0 2 rfl) rfl (lv_at hl 0 rfl) ?_
    refine va_get (D := (dC, dI)) (ci := 2) (v := .int jbw) (C := RX2) (T := TX2) (N := 12) hx hb hts ui_X2_readFox_X2 hown hK hP 0 rfl rfl 10 (by decide) (hts _ uw_X2_readFox_f43) (fun _ h9 => h9) rfl (dt_of tkX2_readFox_k0 3 rfl) ?_
    refine lv_iconst (v := 4) hx hb (dt_of tkX2_readFox_k0 4 rfl) (by decide) ?_
    refine lv_icmp_lt (tgt := 18) hx hb (dt_of tkX2_readFox_k0 5 rfl) (by decide) (fun c2 => ?_) (fun c2 => ?_)
    · have hw := hw.1 c2
      refine lv_aload_n hx hb (dt_of tkX2_readFox_k0 10 rfl) rfl (lv_at hl 0 rfl) ?_
      refine va_get (D := (dC, dI)) (ci := 2) (v := .ref jjQ) (C := RX2) (T := TX2) (N := 12) hx hb hts ui_X2_readFox_X2 hown hK hP 0 rfl rfl 2 (by decide) (hts _ uw_X2_readFox_f18) (fun _ h9 => h9) rfl (dt_of tkX2_readFox_k0 11 rfl) ?_
      refine lv_aload_n hx hb (dt_of tkX2_readFox_k0 12 rfl) rfl (lv_at hl 0 rfl) ?_
      refine va_get (D := (dC, dI)) (ci := 2) (v := .int jbw) (C := RX2) (T := TX2) (N := 12) hx hb hts ui_X2_readFox_X2 hown hK hP 0 rfl rfl 10 (by decide) (hts _ uw_X2_readFox_f43) (fun _ h9 => h9) rfl (dt_of tkX2_readFox_k0 13 rfl) ?_
      refine lv_aload_n hx hb (dt_of tkX2_readFox_k0 14 rfl) rfl (lv_at hl 1 rfl) ?_
      refine lv_iconst (v := 0) hx hb (dt_of tkX2_readFox_k0 15 rfl) (by decide) ?_
      refine lv_bipush (v := 30) hx hb (dt_of tkX2_readFox_k28 0 rfl) (by decide) ?_
      obtain ⟨hCc, hPc, hDc, hFc⟩ := va_pick (ws' := (wd01_44 a1 jbF jb3 jhS jeF jcI jcU jbM jbF cyB jcq)) hP hD hS hA [1, 2] (by decide +kernel) rfl
      refine va_calli (va_runV (As := [.int 0, .int 30]) (rest := [.int jbw, .ref jjQ]) ⟨hx, hb, hml, hown, hts⟩ (ck_X8_number l dC dI cyB cyI cyJ cyP a1 jbF H.size (jcI) jb3 jcq jhS jcU jbM jeF 0 30 hw) (cwV 2 hts gX2_readFox_X8_number rfl rfl rfl (by decide +kernel) ⟨Nat.le_of_ble_eq_true rfl, Nat.le_of_ble_eq_true rfl⟩) ⟨cPc_blind, va_recv (q := (RX8, TX8, 7)) hK hPc (ci := 8) (q0 := 0) rfl rfl, cPc_pre hPc hK hDc hNw⟩ rfl rfl hl.1 rfl (lv_room (Nat.le_of_ble_eq_true rfl)) (dt_of tkX2_readFox_k28 1 rfl) ⟨Nat.le_of_ble_eq_true rfl, Nat.le_of_ble_eq_true rfl⟩) hS (fun q _ h => hFc q h) hFc (fun r7 u t H1 locs ht hvm hw hB hz1 hk1 hS => ?_)
      obtain ⟨x3, x4, x5, x6⟩ := u
      obtain ⟨hP1, hK1, hD1⟩ := hB
      rw [ht] at hP1
      obtain ⟨hP, hD⟩ := va_joinN (wr := (wd01_49 a0 jmz jmA jjQ jjU jkJ jiT jj1 jjT ja0 ja4 jbw jkk jjQ cyI jlB jjU cyI jlx)) (w1 := (wd01_44 a1 jbF jb3 x3 x6 jcI x4 x5 jbF cyB jcq)) (wn := (wd01_48 a0 jmz jmA jjQ jjU jkJ jiT jj1 jjT ja0 ja4 jbw jkk a1 jbF jb3 x3 x6 jcI x4 x5 jbF cyB jcq jjQ cyI jlB jjU cyI jlx)) hP hD [1, 2] [0, 3, 4] [0, 3, 4, 1, 2] hCc rfl (by decide +kernel) (by decide +kernel) (by decide +kernel) rfl hk1 hFc hP1 hD1
      generalize H1 = H at hP hS ⊢
      obtain ⟨hi9, hw⟩ := hw
      refine va_iast hx hb hK hP hD hS 3 1 rfl rfl hi9 (dt_of tkX2_readFox_k28 2 rfl) (fun H locs hP hD hS => ?_)
      obtain ⟨f8, ef8⟩ : ∃ y : Nat → Int32, y = upd jlB jbw.toNatClampNeg r7 := ⟨_, rfl⟩
      have hw := hw f8 ef8
      have hP : va_P (dC, dI) vwCl (wd01_48 a0 jmz jmA jjQ jjU jkJ jiT jj1 jjT ja0 ja4 jbw jkk a1 jbF jb3 x3 x6 jcI x4 x5 jbF cyB jcq jjQ cyI f8 jjU cyI jlx) H := by rw [ef8]; exact hP
      have hD : va_D A (wd01_48 a0 jmz jmA jjQ jjU jkJ jiT jj1 jjT ja0 ja4 jbw jkk a1 jbF jb3 x3 x6 jcI x4 x5 jbF cyB jcq jjQ cyI f8 jjU cyI jlx) := by rw [ef8]; exact hD
      refine lv_aload_n hx hb (dt_of tkX2_readFox_k28 3 rfl) rfl (lv_at hl 0 rfl) ?_
      refine va_get (D := (dC, dI)) (ci := 2) (v := .ref jjU) (C := RX2) (T := TX2) (N := 12) hx hb hts ui_X2_readFox_X2 hown hK hP 0 rfl rfl 3 (by decide) (hts _ uw_X2_readFox_f21) (fun _ h9 => h9) rfl (dt_of tkX2_readFox_k28 4 rfl) ?_
      refine lv_aload_n hx hb (dt_of tkX2_readFox_k28 5 rfl) rfl (lv_at hl 0 rfl) ?_
      refine va_get (D := (dC, dI)) (ci := 2) (v := .int jbw) (C := RX2) (T := TX2) (N := 12) hx hb hts ui_X2_readFox_X2 hown hK hP 0 rfl rfl 10 (by decide) (hts _ uw_X2_readFox_f43) (fun _ h9 => h9) rfl (dt_of tkX2_readFox_k28 6 rfl) ?_
      refine lv_aload_n hx hb (dt_of tkX2_readFox_k28 7 rfl) rfl (lv_at hl 1 rfl) ?_
      refine lv_iconst (v := 0) hx hb (dt_of tkX2_readFox_k28 8 rfl) (by decide) ?_
      refine lv_bipush (v := 30) hx hb (dt_of tkX2_readFox_k28 9 rfl) (by decide) ?_
      obtain ⟨hCc, hPc, hDc, hFc⟩ := va_pick (ws' := (wd01_44 a1 jbF jb3 x3 x6 jcI x4 x5 jbF cyB jcq)) hP hD hS hA [1, 2] (by decide +kernel) rfl
      refine va_calli (va_runV (As := [.int 0, .int 30]) (rest := [.int jbw, .ref jjU]) ⟨hx, hb, hml, hown, hts⟩ (ck_X8_number l dC dI cyB cyI cyJ cyP a1 jbF H.size (jcI) jb3 jcq x3 x4 x5 x6 0 30 hw) (cwV 2 hts gX2_readFox_X8_number rfl rfl rfl (by decide +kernel) ⟨Nat.le_of_ble_eq_true rfl, Nat.le_of_ble_eq_true rfl⟩) ⟨cPc_blind, va_recv (q := (RX8, TX8, 7)) hK hPc (ci := 8) (q0 := 0) rfl rfl, cPc_pre hPc hK hDc hNw⟩ rfl rfl hl.1 rfl (lv_room (Nat.le_of_ble_eq_true rfl)) (dt_of tkX2_readFox_k28 10 rfl) ⟨Nat.le_of_ble_eq_true rfl, Nat.le_of_ble_eq_true rfl⟩) hS (fun q _ h => hFc q h) hFc (fun r13 u t H1 locs ht hvm hw hB hz1 hk1 hS => ?_)
      obtain ⟨x9, x10, x11, x12⟩ := u
      obtain ⟨hP1, hK1, hD1⟩ := hB
      rw [ht] at hP1
      obtain ⟨hP, hD⟩ := va_joinN (wr := (wd01_49 a0 jmz jmA jjQ jjU jkJ jiT jj1 jjT ja0 ja4 jbw jkk jjQ cyI f8 jjU cyI jlx)) (w1 := (wd01_44 a1 jbF jb3 x9 x12 jcI x10 x11 jbF cyB jcq)) (wn := (wd01_48 a0 jmz jmA jjQ jjU jkJ jiT jj1 jjT ja0 ja4 jbw jkk a1 jbF jb3 x9 x12 jcI x10 x11 jbF cyB jcq jjQ cyI f8 jjU cyI jlx)) hP hD [1, 2] [0, 3, 4] [0, 3, 4, 1, 2] hCc rfl (by decide +kernel) (by decide +kernel) (by decide +kernel) rfl hk1 hFc hP1 hD1
      generalize H1 = H at hP hS ⊢
      obtain ⟨hi9, hw⟩ := hw
      refine va_iast hx hb hK hP hD hS 4 1 rfl rfl hi9 (dt_of tkX2_readFox_k28 11 rfl) (fun H locs hP hD hS => ?_)
      obtain ⟨f14, ef14⟩ : ∃ y : Nat → Int32, y = upd jlx jbw.toNatClampNeg r13 := ⟨_, rfl⟩
      have hw := hw f14 ef14
      have hP : va_P (dC, dI) vwCl (wd01_48 a0 jmz jmA jjQ jjU jkJ jiT jj1 jjT ja0 ja4 jbw jkk a1 jbF jb3 x9 x12 jcI x10 x11 jbF cyB jcq jjQ cyI f8 jjU cyI f14) H := by rw [ef14]; exact hP
      have hD : va_D A (wd01_48 a0 jmz jmA jjQ jjU jkJ jiT jj1 jjT ja0 ja4 jbw jkk a1 jbF jb3 x9 x12 jcI x10 x11 jbF cyB jcq jjQ cyI f8 jjU cyI f14) := by rw [ef14]; exact hD
      refine lv_aload_n hx hb (dt_of tkX2_readFox_k28 12 rfl) rfl (lv_at hl 1 rfl) ?_
      refine lv_bipush (v := 59) hx hb (dt_of tkX2_readFox_k28 13 rfl) (by decide) ?_
      obtain ⟨hCc, hPc, hDc, hFc⟩ := va_pick (ws' := (wd01_44 a1 jbF jb3 x9 x12 jcI x10 x11 jbF cyB jcq)) hP hD hS hA [1, 2] (by decide +kernel) rfl
      refine va_callv (va_runV (As := [.int 59]) (rest := []) ⟨hx, hb, hml, hown, hts⟩ (ck_X8_needs l dC dI cyB cyI cyJ cyP a1 jbF H.size (jcI) jb3 jcq x9 x12 x10 x11 59 hw) (cwV 1 hts gX2_readFox_X8_needs rfl rfl rfl (by decide +kernel) ⟨Nat.le_of_ble_eq_true rfl, Nat.le_of_ble_eq_true rfl⟩) ⟨cPc_blind, va_recv (q := (RX8, TX8, 7)) hK hPc (ci := 8) (q0 := 0) rfl rfl, cPc_pre hPc hK hDc hNw⟩ rfl rfl hl.1 rfl (lv_room (Nat.le_of_ble_eq_true rfl)) (dt_of tkX2_readFox_k28 14 rfl) ⟨Nat.le_of_ble_eq_true rfl, Nat.le_of_ble_eq_true rfl⟩) hS (fun q _ h => hFc q h) hFc (fun u t H1 locs ht hvm hw hB hz1 hk1 hS => ?_)
      obtain ⟨x15, x16, x17, x18⟩ := u
      obtain ⟨hP1, hK1, hD1⟩ := hB
      rw [ht] at hP1
      obtain ⟨hP, hD⟩ := va_joinN (wr := (wd01_49 a0 jmz jmA jjQ jjU jkJ jiT jj1 jjT ja0 ja4 jbw jkk jjQ cyI f8 jjU cyI f14)) (w1 := (wd01_44 a1 jbF jb3 x15 x16 jcI x17 x18 jbF cyB jcq)) (wn := (wd01_48 a0 jmz jmA jjQ jjU jkJ jiT jj1 jjT ja0 ja4 jbw jkk a1 jbF jb3 x15 x16 jcI x17 x18 jbF cyB jcq jjQ cyI f8 jjU cyI f14)) hP hD [1, 2] [0, 3, 4] [0, 3, 4, 1, 2] hCc rfl (by decide +kernel) (by decide +kernel) (by decide +kernel) rfl hk1 hFc hP1 hD1
      generalize H1 = H at hP hS ⊢
      refine lv_aload_n hx hb (dt_of tkX2_readFox_k28 15 rfl) rfl (lv_at hl 0 rfl) ?_
      refine lv_dup hx hb (dt_of tkX2_readFox_k57 0 rfl) rfl ?_
      refine va_get (D := (dC, dI)) (ci := 2) (v := .int jbw) (C := RX2) (T := TX2) (N := 12) hx hb hts ui_X2_readFox_X2 hown hK hP 0 rfl rfl 10 (by decide) (hts _ uw_X2_readFox_f43) (fun _ h9 => h9) rfl (dt_of tkX2_readFox_k57 1 rfl) ?_
      refine lv_iconst (v := 1) hx hb (dt_of tkX2_readFox_k57 2 rfl) (by decide) ?_
      refine lv_iadd hx hb (dt_of tkX2_readFox_k57 3 rfl) ?_
      refine lv_topi (fun x19 ex19 => ?_)
      have hw := hw x19 ex19
      refine va_put (D := (dC, dI)) (ci := 2) (v := .int x19) (ty := .int) (C := RX2) (T := TX2) (N := 12) hx hb hts ui_X2_readFox_X2 tyX2 tyX2_ok nmX2 hown hK hP hD hS 0 rfl rfl 10 (by decide) (hts _ uw_X2_readFox_f43) (fun _ h9 => h9) rfl (by decide +kernel) rfl rfl (Nat.le_of_ble_eq_true rfl) (dt_of tkX2_readFox_k57 4 rfl) (fun H locs hP hD hS => ?_)
      have hP : va_P (dC, dI) vwCl (wd01_48 a0 jmz jmA jjQ jjU jkJ jiT jj1 jjT ja0 ja4 x19 jkk a1 jbF jb3 x15 x16 jcI x17 x18 jbF cyB jcq jjQ cyI f8 jjU cyI f14) H := hP
      have hD : va_D A (wd01_48 a0 jmz jmA jjQ jjU jkJ jiT jj1 jjT ja0 ja4 x19 jkk a1 jbF jb3 x15 x16 jcI x17 x18 jbF cyB jcq jjQ cyI f8 jjU cyI f14) := hD
      exact ((W.vret hx hb hr (fun t ht hW => ⟨⟨(x15, x17, x18, x16, f8, f14, x19), rfl, hw, by rw [ht]; exact hP, va_K.moved hW.alike hK, hD⟩, hS.F ht⟩) hS.2.2 (dt_of tkX2_readFox_k57 5 rfl)))
    · have hw := hw.2 c2
      exact kb_X2_readFox_12 dC dI cyB cyI cyJ cyP a0 a1 jjQ jbF jjU jmz jmA jkJ jiT jj1 jjT ja0 ja4 jkk jcI jb3 jcq Q  C0 _ _ _ jhS jcU jbM jeF jlB jlx jbw hP hD hS (lv_sub hl [1] rfl) hw
theorem ui_X2_readDebt_X2 : ∀ w ∈ u_ws RX2 TX2 12, w ∈ wsX2_readDebt := uiM mbX2_readDebt euX2 (by decide +kernel)
theorem uw_X2_readDebt_f30 : (.fieldLink RX2 30 "MarchHares$Down" "debts" "[I" : Cond) ∈ wsX2_readDebt := mbX2_readDebt 194 (by decide +kernel)
theorem uw_X2_readDebt_f40 : (.fieldLink RX2 40 "MarchHares$Down" "hares" "I" : Cond) ∈ wsX2_readDebt := mbX2_readDebt 721 (by decide +kernel)
set_option maxHeartbeats 4000000 in
set_option maxRecDepth 100000 in
theorem kb_X2_readDebt_46 {p : Program} {l : Launch} {e : Env} {s : State} {m : MethodId} {args : Array Value} {below : List Frame} {meth : Method} {c : Code} {A : Nat → Prop} (dC : Nat → ClassId) (dI : Nat → Nat → Nat) (cyB cyI cyJ cyP : ClassId) (a0 a1 jbF jkT : Nat) (jmz jmA jlc jld jkJ jiT jjT ja0 jaP jkk jcI : Value) (jaC jb3 : Int32) (jcq : Nat → Int32) (Q : Int32 → Int32 → Int32 → Int32 → (Nat → Int32) → Prop)  (C0 : cfx p s m args meth c cX2_readDebt none wsX2_readDebt RX2 6 A (dC, dI) (kT cyB cyI cyJ cyP)) : ∀ (H : Heap) (locs : List Loc) (ls : Array Slot) (jhS jcU jbM jeF : Int32) (jl3 : Nat → Int32) (l3 l4 : Int32), va_P (dC, dI) vwCl (wd01_50 a0 jmz jmA jlc jld jkJ jiT jkT jjT ja0 jaC jaP jkk a1 jbF jb3 jhS jeF jcI jcU jbM jbF cyB jcq jkT cyI jl3) H → va_D A (wd01_50 a0 jmz jmA jlc jld jkJ jiT jkT jjT ja0 jaC jaP jkk a1 jbF jb3 jhS jeF jcI jcU jbM jbF cyB jcq jkT cyI jl3) → va_S A s.heap H locs → lv_has ls 6 [(0, .ref a0), (1, .ref a1), (3, .int l3), (4, .int l4)] → wb_X2_readDebt_46 jaC jb3 jcq Q  jhS jcU jbM jeF jl3 l3 l4 → W p l e (headSpec wsX2_readDebt ({ frames := 3, cells := 0, slots := 0, locals := 63 })).room s m args below meth c H locs 0 0 (MQ below (va_Qv (fun (u : Int32 × Int32 × Int32 × Int32 × (Nat → Int32)) => Q u.1 u.2.1 u.2.2.1 u.2.2.2.1 u.2.2.2.2) (cB (dC, dI) (kT cyB cyI cyJ cyP) A (fun u : Int32 × Int32 × Int32 × Int32 × (Nat → Int32) => ((wd01_50 a0 jmz jmA jlc jld jkJ jiT jkT jjT ja0 jaC jaP jkk a1 jbF jb3 u.1 u.2.2.2.1 jcI u.2.1 u.2.2.1 jbF cyB jcq jkT cyI u.2.2.2.2) : va_W))) A) args s 0 0 A) (F0 m 46 ls []) := by
  obtain ⟨hx, hb, hr, hts, hown, hlocks, hml, hA, hK, hNw⟩ := id C0
  intro H locs ls jhS jcU jbM jeF jl3 l3 l4 hP hD hS hl hw
  refine lv_aload_n hx hb (dt_of tkX2_readDebt_k24 12 rfl) rfl (lv_at hl 1 rfl) ?_
  refine lv_iconst (v := 0) hx hb (dt_of tkX2_readDebt_k24 13 rfl) (by decide) ?_
  refine lv_bipush (v := 99) hx hb (dt_of tkX2_readDebt_k24 14 rfl) (by decide) ?_
  obtain ⟨hCc, hPc, hDc, hFc⟩ := va_pick (ws' := (wd01_44 a1 jbF jb3 jhS jeF jcI jcU jbM jbF cyB jcq)) hP hD hS hA [1, 2] (by decide +kernel) rfl
  refine va_calli (va_runV (As := [.int 0, .int 99]) (rest := []) ⟨hx, hb, hml, hown, hts⟩ (ck_X8_number l dC dI cyB cyI cyJ cyP a1 jbF H.size (jcI) jb3 jcq jhS jcU jbM jeF 0 99 hw) (cwV 2 hts gX2_readDebt_X8_number rfl rfl rfl (by decide +kernel) ⟨Nat.le_of_ble_eq_true rfl, Nat.le_of_ble_eq_true rfl⟩) ⟨cPc_blind, va_recv (q := (RX8, TX8, 7)) hK hPc (ci := 8) (q0 := 0) rfl rfl, cPc_pre hPc hK hDc hNw⟩ rfl rfl hl.1 rfl (lv_room (Nat.le_of_ble_eq_true rfl)) (dt_of tkX2_readDebt_k24 15 rfl) ⟨Nat.le_of_ble_eq_true rfl, Nat.le_of_ble_eq_true rfl⟩) hS (fun q _ h => hFc q h) hFc (fun r21 u t H1 locs ht hvm hw hB hz1 hk1 hS => ?_)
  obtain ⟨x17, x18, x19, x20⟩ := u
  obtain ⟨hP1, hK1, hD1⟩ := hB
  rw [ht] at hP1
  obtain ⟨hP, hD⟩ := va_joinN (wr := (wd01_51 a0 jmz jmA jlc jld jkJ jiT jkT jjT ja0 jaC jaP jkk jkT cyI jl3)) (w1 := (wd01_44 a1 jbF jb3 x17 x20 jcI x18 x19 jbF cyB jcq)) (wn := (wd01_50 a0 jmz jmA jlc jld jkJ jiT jkT jjT ja0 jaC jaP jkk a1 jbF jb3 x17 x20 jcI x18 x19 jbF cyB jcq jkT cyI jl3)) hP hD [1, 2] [0, 3] [0, 2, 3, 1] hCc rfl (by decide +kernel) (by decide +kernel) (by decide +kernel) rfl hk1 hFc hP1 hD1
  generalize H1 = H at hP hS ⊢
  refine lv_istore (lv' := [(5, .int r21), (0, .ref a0), (1, .ref a1), (3, .int l3), (4, .int l4)]) hx hb (dt_of tkX2_readDebt_k53 0 rfl) hl (by decide) rfl (fun ls hl => ?_)
  refine lv_aload_n hx hb (dt_of tkX2_readDebt_k53 1 rfl) rfl (lv_at hl 2 rfl) ?_
  refine lv_bipush (v := 59) hx hb (dt_of tkX2_readDebt_k53 2 rfl) (by decide) ?_
  obtain ⟨hCc, hPc, hDc, hFc⟩ := va_pick (ws' := (wd01_44 a1 jbF jb3 x17 x20 jcI x18 x19 jbF cyB jcq)) hP hD hS hA [1, 2] (by decide +kernel) rfl
  refine va_callv (va_runV (As := [.int 59]) (rest := []) ⟨hx, hb, hml, hown, hts⟩ (ck_X8_needs l dC dI cyB cyI cyJ cyP a1 jbF H.size (jcI) jb3 jcq x17 x20 x18 x19 59 hw) (cwV 1 hts gX2_readDebt_X8_needs rfl rfl rfl (by decide +kernel) ⟨Nat.le_of_ble_eq_true rfl, Nat.le_of_ble_eq_true rfl⟩) ⟨cPc_blind, va_recv (q := (RX8, TX8, 7)) hK hPc (ci := 8) (q0 := 0) rfl rfl, cPc_pre hPc hK hDc hNw⟩ rfl rfl hl.1 rfl (lv_room (Nat.le_of_ble_eq_true rfl)) (dt_of tkX2_readDebt_k53 3 rfl) ⟨Nat.le_of_ble_eq_true rfl, Nat.le_of_ble_eq_true rfl⟩) hS (fun q _ h => hFc q h) hFc (fun u t H1 locs ht hvm hw hB hz1 hk1 hS => ?_)
  obtain ⟨x22, x23, x24, x25⟩ := u
  obtain ⟨hP1, hK1, hD1⟩ := hB
  rw [ht] at hP1
  obtain ⟨hP, hD⟩ := va_joinN (wr := (wd01_51 a0 jmz jmA jlc jld jkJ jiT jkT jjT ja0 jaC jaP jkk jkT cyI jl3)) (w1 := (wd01_44 a1 jbF jb3 x22 x23 jcI x24 x25 jbF cyB jcq)) (wn := (wd01_50 a0 jmz jmA jlc jld jkJ jiT jkT jjT ja0 jaC jaP jkk a1 jbF jb3 x22 x23 jcI x24 x25 jbF cyB jcq jkT cyI jl3)) hP hD [1, 2] [0, 3] [0, 2, 3, 1] hCc rfl (by decide +kernel) (by decide +kernel) (by decide +kernel) rfl hk1 hFc hP1 hD1
  generalize H1 = H at hP hS ⊢
  refine lv_aload_n hx hb (dt_of tkX2_readDebt_k53 4 rfl) rfl (lv_at hl 2 rfl) ?_
  obtain ⟨hCc, hPc, hDc, hFc⟩ := va_pick (ws' := (wd01_43 a1 jbF jb3 x22 x23 jcI x24 x25)) hP hD hS hA [1] (by decide +kernel) rfl
  refine va_calli (va_runV (As := []) (rest := []) ⟨hx, hb, hml, hown, hts⟩ (ck_X8_isFaulty l dC dI cyB cyI cyJ cyP a1 H.size (.ref jbF) (.int jb3) (.int x22) (.int x23) (jcI) (.int x25) x24   hw) (cwV 0 hts gX2_readDebt_X8_isFaulty rfl rfl rfl (by decide +kernel) ⟨Nat.le_of_ble_eq_true rfl, Nat.le_of_ble_eq_true rfl⟩) ⟨cPc_blind, va_recv (q := (RX8, TX8, 7)) hK hPc (ci := 8) (q0 := 0) rfl rfl, cPc_pre hPc hK hDc hNw⟩ rfl rfl hl.1 rfl (lv_room (Nat.le_of_ble_eq_true rfl)) (dt_of tkX2_readDebt_k53 5 rfl) ⟨Nat.le_of_ble_eq_true rfl, Nat.le_of_ble_eq_true rfl⟩) hS (fun q _ h => hFc q h) hFc (fun r26 u t H1 locs ht hvm hw hB hz1 hk1 hS => ?_)
  obtain ⟨hP1, hK1, hD1⟩ := hB
  rw [ht] at hP1
  obtain ⟨hP, hD⟩ := va_joinN (wr := (wd01_52 a0 jmz jmA jlc jld jkJ jiT jkT jjT ja0 jaC jaP jkk jbF cyB jcq jkT cyI jl3)) (w1 := (wd01_43 a1 jbF jb3 x22 x23 jcI x24 x25)) (wn := (wd01_50 a0 jmz jmA jlc jld jkJ jiT jkT jjT ja0 jaC jaP jkk a1 jbF jb3 x22 x23 jcI x24 x25 jbF cyB jcq jkT cyI jl3)) hP hD [1] [0, 2, 3] [0, 3, 1, 2] hCc rfl (by decide +kernel) (by decide +kernel) (by decide +kernel) rfl hk1 hFc hP1 hD1
  generalize H1 = H at hP hS ⊢
  refine lv_if_ne (tgt := 82) hx hb (dt_of tkX2_readDebt_k53 6 rfl) (by decide) (fun c27 => ?_) (fun c27 => ?_)
  · have hw := hw.1 c27
    exact ((W.vret hx hb hr (fun t ht hW => ⟨⟨(x22, x24, x25, x23, jl3), rfl, hw, by rw [ht]; exact hP, va_K.moved hW.alike hK, hD⟩, hS.F ht⟩) hS.2.2 (dt_of tkX2_readDebt_k82 0 rfl)))
  · have hw := hw.2 c27
    refine lv_aload_n hx hb (dt_of tkX2_readDebt_k53 7 rfl) rfl (lv_at hl 1 rfl) ?_
    refine va_get (D := (dC, dI)) (ci := 2) (v := .ref jkT) (C := RX2) (T := TX2) (N := 12) hx hb hts ui_X2_readDebt_X2 hown hK hP 0 rfl rfl 6 (by decide) (hts _ uw_X2_readDebt_f30) (fun _ h9 => h9) rfl (dt_of tkX2_readDebt_k53 8 rfl) ?_
    refine lv_iload_n hx hb (dt_of tkX2_readDebt_k53 9 rfl) rfl (lv_at hl 3 rfl) ?_
    refine lv_bipush (v := 6) hx hb (dt_of tkX2_readDebt_k53 10 rfl) (by decide) ?_
    refine lv_imul hx hb (dt_of tkX2_readDebt_k53 11 rfl) ?_
    refine lv_topi (fun x28 ex28 => ?_)
    have hw := hw x28 ex28
    refine lv_iload hx hb (dt_of tkX2_readDebt_k53 12 rfl) (lv_at hl 4 rfl) ?_
    refine lv_iadd hx hb (dt_of tkX2_readDebt_k53 13 rfl) ?_
    refine lv_topi (fun x29 ex29 => ?_)
    have hw := hw x29 ex29
    refine lv_iload hx hb (dt_of tkX2_readDebt_k53 14 rfl) (lv_at hl 0 rfl) ?_
    obtain ⟨hi9, hw⟩ := hw
    refine va_iast hx hb hK hP hD hS 3 1 rfl rfl hi9 (dt_of tkX2_readDebt_k53 15 rfl) (fun H locs hP hD hS => ?_)
    obtain ⟨f30, ef30⟩ : ∃ y : Nat → Int32, y = upd jl3 x29.toNatClampNeg r21 := ⟨_, rfl⟩
    have hw := hw f30 ef30
    have hP : va_P (dC, dI) vwCl (wd01_50 a0 jmz jmA jlc jld jkJ jiT jkT jjT ja0 jaC jaP jkk a1 jbF jb3 x22 x23 jcI x24 x25 jbF cyB jcq jkT cyI f30) H := by rw [ef30]; exact hP
    have hD : va_D A (wd01_50 a0 jmz jmA jlc jld jkJ jiT jkT jjT ja0 jaC jaP jkk a1 jbF jb3 x22 x23 jcI x24 x25 jbF cyB jcq jkT cyI f30) := by rw [ef30]; exact hD
    exact ((W.vret hx hb hr (fun t ht hW => ⟨⟨(x22, x24, x25, x23, f30), rfl, hw, by rw [ht]; exact hP, va_K.moved hW.alike hK, hD⟩, hS.F ht⟩) hS.2.2 (dt_of tkX2_readDebt_k82 0 rfl)))
set_option maxHeartbeats 4000000 in
set_option maxRecDepth 100000 in
theorem ck_X2_readDebt (l : Launch) (dC : Nat → ClassId) (dI : Nat → Nat → Nat) (cyB cyI cyJ cyP : ClassId) (a0 a1 jbF jkT sz : Nat) (jmz jmA jlc jld jkJ jiT jjT ja0 jaP jkk jcI : Value) (jaC jb3 : Int32) (jcq : Nat → Int32) (jhS jcU jbM jeF : Int32) (jl3 : Nat → Int32) (p2 : Int32) {Q : Int32 → Int32 → Int32 → Int32 → (Nat → Int32) → Prop} (hw : wq_X2_readDebt jaC jb3 jcq jhS jcU jbM jeF jl3 p2 Q) : Met l yX2_readDebt wsX2_readDebt ({ frames := 3, cells := 0, slots := 0, locals := 63 }) (va_Pc [.ref a0, .ref a1, .int p2] (cPc (dC, dI) (kT cyB cyI cyJ cyP) (wd01_50 a0 jmz jmA jlc jld jkJ jiT jkT jjT ja0 jaC jaP jkk a1 jbF jb3 jhS jeF jcI jcU jbM jbF cyB jcq jkT cyI jl3) sz)) (va_Qv (fun (u : Int32 × Int32 × Int32 × Int32 × (Nat → Int32)) => Q u.1 u.2.1 u.2.2.1 u.2.2.2.1 u.2.2.2.2) (cB (dC, dI) (kT cyB cyI cyJ cyP) (va_A (wd01_50 a0 jmz jmA jlc jld jkJ jiT jkT jjT ja0 jaC jaP jkk a1 jbF jb3 jhS jeF jcI jcU jbM jbF cyB jcq jkT cyI jl3) sz) (fun u : Int32 × Int32 × Int32 × Int32 × (Nat → Int32) => ((wd01_50 a0 jmz jmA jlc jld jkJ jiT jkT jjT ja0 jaC jaP jkk a1 jbF jb3 u.1 u.2.2.2.1 jcI u.2.1 u.2.2.1 jbF cyB jcq jkT cyI u.2.2.2.2) : va_W))) (va_A (wd01_50 a0 jmz jmA jlc jld jkJ jiT jkT jjT ja0 jaC jaP jkk a1 jbF jb3 jhS jeF jcI jcU jbM jbF cyB jcq jkT cyI jl3) sz)) 0 0 (va_A (wd01_50 a0 jmz jmA jlc jld jkJ jiT jkT jjT ja0 jaC jaP jkk a1 jbF jb3 jhS jeF jcI jcU jbM jbF cyB jcq jkT cyI jl3) sz) := by
  refine Met.ofW (cc := cX2_readDebt) (maxL := 6) (ret := none) (by decide) rfl ?_
  intro p e s m args below meth c s₁ B hml hv
  obtain ⟨rfl, hsz, hP, hK, hD0, hNw⟩ := hv
  have hx := B.exec
  have hb := B.bytes
  have hr := B.returns
  have hts := atoms_spec (ws := wsX2_readDebt) B.pre
  have hown : s.vm.findClass RX2 = some m.cls := findClass_of_methodNamed B.named
  have hlocks := B.notSynchronized
  subst hsz
  have hD := hD0.self (sz := s.heap.size)
  generalize hAe : va_A (wd01_50 a0 jmz jmA jlc jld jkJ jiT jkT jjT ja0 jaC jaP jkk a1 jbF jb3 jhS jeF jcI jcU jbM jbF cyB jcq jkT cyI jl3) s.heap.size = A at hD ⊢
  have hA : ∀ q : Nat, s.heap.size ≤ q → A q := fun q h => by rw [← hAe]; exact Or.inr h
  have hS : va_S A s.heap s.heap [] := va_S.rf
  have hP : va_P (dC, dI) vwCl (wd01_50 a0 jmz jmA jlc jld jkJ jiT jkT jjT ja0 jaC jaP jkk a1 jbF jb3 jhS jeF jcI jcU jbM jbF cyB jcq jkT cyI jl3) s.heap := hP
  have hl := lv_entry ([.ref a0, .ref a1, .int p2]) (n := 6) (Nat.le_of_ble_eq_true rfl)
  rw [lg_entry_eq]
  generalize (lg_sl ([.ref a0, .ref a1, .int p2]) ++ List.replicate (6 - (lg_sl ([.ref a0, .ref a1, .int p2])).length) Slot.unset).toArray = ls at hl ⊢
  have hl : lv_has ls 6 [(0, .ref a0), (1, .ref a1), (2, .int p2)] := hl
  have C0 : cfx p s m _ meth c cX2_readDebt none wsX2_readDebt RX2 6 A (dC, dI) (kT cyB cyI cyJ cyP) := ⟨hx, hb, hr, hts, hown, hlocks, hml, hA, hK, hNw⟩
  clear hAe
  obtain ⟨H, hH⟩ : ∃ H, H = s.heap := ⟨_, rfl⟩
  rw [← hH] at hP ⊢
  have hS : va_S A s.heap H [] := by rw [hH]; exact va_S.rf
  have hS := hS
  refine lv_iload_n hx hb (dt_of tkX2_readDebt_k0 0 rfl) rfl (lv_at hl 2 rfl) ?_
  refine lv_if_eq (tgt := 10) hx hb (dt_of tkX2_readDebt_k0 1 rfl) (by decide) (fun c1 => ?_) (fun c1 => ?_)
  · have hw := hw.1 c1
    refine lv_aload_n hx hb (dt_of tkX2_readDebt_k0 6 rfl) rfl (lv_at hl 1 rfl) ?_
    refine lv_iconst (v := 0) hx hb (dt_of tkX2_readDebt_k0 7 rfl) (by decide) ?_
    refine lv_aload_n hx hb (dt_of tkX2_readDebt_k0 8 rfl) rfl (lv_at hl 0 rfl) ?_
    refine va_get (D := (dC, dI)) (ci := 2) (v := .int jaC) (C := RX2) (T := TX2) (N := 12) hx hb hts ui_X2_readDebt_X2 hown hK hP 0 rfl rfl 9 (by decide) (hts _ uw_X2_readDebt_f40) (fun _ h9 => h9) rfl (dt_of tkX2_readDebt_k0 9 rfl) ?_
    refine lv_iconst (v := 1) hx hb (dt_of tkX2_readDebt_k0 10 rfl) (by decide) ?_
    refine lv_isub hx hb (dt_of tkX2_readDebt_k0 11 rfl) ?_
    obtain ⟨hCc, hPc, hDc, hFc⟩ := va_pick (ws' := (wd01_44 a1 jbF jb3 jhS jeF jcI jcU jbM jbF cyB jcq)) hP hD hS hA [1, 2] (by decide +kernel) rfl
    refine va_calli (va_runV (As := [.int 0, .int (jaC - 1)]) (rest := []) ⟨hx, hb, hml, hown, hts⟩ (ck_X8_number l dC dI cyB cyI cyJ cyP a1 jbF H.size (jcI) jb3 jcq jhS jcU jbM jeF 0 (jaC - 1) hw) (cwV 2 hts gX2_readDebt_X8_number rfl rfl rfl (by decide +kernel) ⟨Nat.le_of_ble_eq_true rfl, Nat.le_of_ble_eq_true rfl⟩) ⟨cPc_blind, va_recv (q := (RX8, TX8, 7)) hK hPc (ci := 8) (q0 := 0) rfl rfl, cPc_pre hPc hK hDc hNw⟩ rfl rfl hl.1 rfl (lv_room (Nat.le_of_ble_eq_true rfl)) (dt_of tkX2_readDebt_k0 12 rfl) ⟨Nat.le_of_ble_eq_true rfl, Nat.le_of_ble_eq_true rfl⟩) hS (fun q _ h => hFc q h) hFc (fun r6 u t H1 locs ht hvm hw hB hz1 hk1 hS => ?_)
    obtain ⟨x2, x3, x4, x5⟩ := u
    obtain ⟨hP1, hK1, hD1⟩ := hB
    rw [ht] at hP1
    obtain ⟨hP, hD⟩ := va_joinN (wr := (wd01_51 a0 jmz jmA jlc jld jkJ jiT jkT jjT ja0 jaC jaP jkk jkT cyI jl3)) (w1 := (wd01_44 a1 jbF jb3 x2 x5 jcI x3 x4 jbF cyB jcq)) (wn := (wd01_50 a0 jmz jmA jlc jld jkJ jiT jkT jjT ja0 jaC jaP jkk a1 jbF jb3 x2 x5 jcI x3 x4 jbF cyB jcq jkT cyI jl3)) hP hD [1, 2] [0, 3] [0, 2, 3, 1] hCc rfl (by decide +kernel) (by decide +kernel) (by decide +kernel) rfl hk1 hFc hP1 hD1
    generalize H1 = H at hP hS ⊢
    refine lv_istore_n (lv' := [(3, .int r6), (0, .ref a0), (1, .ref a1), (2, .int p2)]) hx hb (dt_of tkX2_readDebt_k0 13 rfl) rfl hl (by decide) rfl (fun ls hl => ?_)
    refine lv_aload_n hx hb (dt_of tkX2_readDebt_k0 14 rfl) rfl (lv_at hl 2 rfl) ?_
    refine lv_iconst (v := 0) hx hb (dt_of tkX2_readDebt_k0 15 rfl) (by decide) ?_
    refine lv_aload_n hx hb (dt_of tkX2_readDebt_k24 0 rfl) rfl (lv_at hl 1 rfl) ?_
    refine va_get (D := (dC, dI)) (ci := 2) (v := .int jaC) (C := RX2) (T := TX2) (N := 12) hx hb hts ui_X2_readDebt_X2 hown hK hP 0 rfl rfl 9 (by decide) (hts _ uw_X2_readDebt_f40) (fun _ h9 => h9) rfl (dt_of tkX2_readDebt_k24 1 rfl) ?_
    refine lv_iconst (v := 1) hx hb (dt_of tkX2_readDebt_k24 2 rfl) (by decide) ?_
    refine lv_isub hx hb (dt_of tkX2_readDebt_k24 3 rfl) ?_
    obtain ⟨hCc, hPc, hDc, hFc⟩ := va_pick (ws' := (wd01_44 a1 jbF jb3 x2 x5 jcI x3 x4 jbF cyB jcq)) hP hD hS hA [1, 2] (by decide +kernel) rfl
    refine va_calli (va_runV (As := [.int 0, .int (jaC - 1)]) (rest := []) ⟨hx, hb, hml, hown, hts⟩ (ck_X8_number l dC dI cyB cyI cyJ cyP a1 jbF H.size (jcI) jb3 jcq x2 x3 x4 x5 0 (jaC - 1) hw) (cwV 2 hts gX2_readDebt_X8_number rfl rfl rfl (by decide +kernel) ⟨Nat.le_of_ble_eq_true rfl, Nat.le_of_ble_eq_true rfl⟩) ⟨cPc_blind, va_recv (q := (RX8, TX8, 7)) hK hPc (ci := 8) (q0 := 0) rfl rfl, cPc_pre hPc hK hDc hNw⟩ rfl rfl hl.1 rfl (lv_room (Nat.le_of_ble_eq_true rfl)) (dt_of tkX2_readDebt_k24 4 rfl) ⟨Nat.le_of_ble_eq_true rfl, Nat.le_of_ble_eq_true rfl⟩) hS (fun q _ h => hFc q h) hFc (fun r11 u t H1 locs ht hvm hw hB hz1 hk1 hS => ?_)
    obtain ⟨x7, x8, x9, x10⟩ := u
    obtain ⟨hP1, hK1, hD1⟩ := hB
    rw [ht] at hP1
    obtain ⟨hP, hD⟩ := va_joinN (wr := (wd01_51 a0 jmz jmA jlc jld jkJ jiT jkT jjT ja0 jaC jaP jkk jkT cyI jl3)) (w1 := (wd01_44 a1 jbF jb3 x7 x10 jcI x8 x9 jbF cyB jcq)) (wn := (wd01_50 a0 jmz jmA jlc jld jkJ jiT jkT jjT ja0 jaC jaP jkk a1 jbF jb3 x7 x10 jcI x8 x9 jbF cyB jcq jkT cyI jl3)) hP hD [1, 2] [0, 3] [0, 2, 3, 1] hCc rfl (by decide +kernel) (by decide +kernel) (by decide +kernel) rfl hk1 hFc hP1 hD1
    generalize H1 = H at hP hS ⊢
    refine lv_istore (lv' := [(4, .int r11), (3, .int r6), (0, .ref a0), (1, .ref a1), (2, .int p2)]) hx hb (dt_of tkX2_readDebt_k24 5 rfl) hl (by decide) rfl (fun ls hl => ?_)
    refine lv_iload_n hx hb (dt_of tkX2_readDebt_k24 6 rfl) rfl (lv_at hl 1 rfl) ?_
    refine lv_iload hx hb (dt_of tkX2_readDebt_k24 7 rfl) (lv_at hl 0 rfl) ?_
    refine lv_icmp_ne (tgt := 46) hx hb (dt_of tkX2_readDebt_k24 8 rfl) (by decide) (fun c12 => ?_) (fun c12 => ?_)
    · have hw := hw.1 c12
      exact kb_X2_readDebt_46 dC dI cyB cyI cyJ cyP a0 a1 jbF jkT jmz jmA jlc jld jkJ jiT jjT ja0 jaP jkk jcI jaC jb3 jcq Q  C0 _ _ _ x7 x8 x9 x10 jl3 r6 r11 hP hD hS (lv_sub hl [2, 3, 1, 0] rfl) hw
    · have hw := hw.2 c12
      refine lv_aload_n hx hb (dt_of tkX2_readDebt_k24 9 rfl) rfl (lv_at hl 3 rfl) ?_
      refine lv_iconst (v := 2) hx hb (dt_of tkX2_readDebt_k24 10 rfl) (by decide) ?_
      obtain ⟨hCc, hPc, hDc, hFc⟩ := va_pick (ws' := (wd01_43 a1 jbF jb3 x7 x10 jcI x8 x9)) hP hD hS hA [1] (by decide +kernel) rfl
      refine va_callv (va_runV (As := [.int 2]) (rest := []) ⟨hx, hb, hml, hown, hts⟩ (ck_X8_blameToken l dC dI cyB cyI cyJ cyP a1 H.size (.ref jbF) (.int jb3) (.int x7) (jcI) x10 x8 x9 2 hw) (cwV 1 hts gX2_readDebt_X8_blameToken rfl rfl rfl (by decide +kernel) ⟨Nat.le_of_ble_eq_true rfl, Nat.le_of_ble_eq_true rfl⟩) ⟨cPc_blind, va_recv (q := (RX8, TX8, 7)) hK hPc (ci := 8) (q0 := 0) rfl rfl, cPc_pre hPc hK hDc hNw⟩ rfl rfl hl.1 rfl (lv_room (Nat.le_of_ble_eq_true rfl)) (dt_of tkX2_readDebt_k24 11 rfl) ⟨Nat.le_of_ble_eq_true rfl, Nat.le_of_ble_eq_true rfl⟩) hS (fun q _ h => hFc q h) hFc (fun u t H1 locs ht hvm hw hB hz1 hk1 hS => ?_)
      obtain ⟨x13, x14⟩ := u
      obtain ⟨hP1, hK1, hD1⟩ := hB
      rw [ht] at hP1
      obtain ⟨hP, hD⟩ := va_joinN (wr := (wd01_52 a0 jmz jmA jlc jld jkJ jiT jkT jjT ja0 jaC jaP jkk jbF cyB jcq jkT cyI jl3)) (w1 := (wd01_43 a1 jbF jb3 x7 x10 jcI x13 x14)) (wn := (wd01_50 a0 jmz jmA jlc jld jkJ jiT jkT jjT ja0 jaC jaP jkk a1 jbF jb3 x7 x10 jcI x13 x14 jbF cyB jcq jkT cyI jl3)) hP hD [1] [0, 2, 3] [0, 3, 1, 2] hCc rfl (by decide +kernel) (by decide +kernel) (by decide +kernel) rfl hk1 hFc hP1 hD1
      generalize H1 = H at hP hS ⊢
      exact kb_X2_readDebt_46 dC dI cyB cyI cyJ cyP a0 a1 jbF jkT jmz jmA jlc jld jkJ jiT jjT ja0 jaP jkk jcI jaC jb3 jcq Q  C0 _ _ _ x7 x13 x14 x10 jl3 r6 r11 hP hD hS (lv_sub hl [2, 3, 1, 0] rfl) hw
  · have hw := hw.2 c1
    refine lv_aload_n hx hb (dt_of tkX2_readDebt_k0 2 rfl) rfl (lv_at hl 1 rfl) ?_
    refine lv_iconst (v := 3) hx hb (dt_of tkX2_readDebt_k0 3 rfl) (by decide) ?_
    obtain ⟨hCc, hPc, hDc, hFc⟩ := va_pick (ws' := (wd01_43 a1 jbF jb3 jhS jeF jcI jcU jbM)) hP hD hS hA [1] (by decide +kernel) rfl
    refine va_callv (va_runV (As := [.int 3]) (rest := []) ⟨hx, hb, hml, hown, hts⟩ (ck_X8_blameToken l dC dI cyB cyI cyJ cyP a1 H.size (.ref jbF) (.int jb3) (.int jhS) (jcI) jeF jcU jbM 3 hw) (cwV 1 hts gX2_readDebt_X8_blameToken rfl rfl rfl (by decide +kernel) ⟨Nat.le_of_ble_eq_true rfl, Nat.le_of_ble_eq_true rfl⟩) ⟨cPc_blind, va_recv (q := (RX8, TX8, 7)) hK hPc (ci := 8) (q0 := 0) rfl rfl, cPc_pre hPc hK hDc hNw⟩ rfl rfl hl.1 rfl (lv_room (Nat.le_of_ble_eq_true rfl)) (dt_of tkX2_readDebt_k0 4 rfl) ⟨Nat.le_of_ble_eq_true rfl, Nat.le_of_ble_eq_true rfl⟩) hS (fun q _ h => hFc q h) hFc (fun u t H1 locs ht hvm hw hB hz1 hk1 hS => ?_)
    obtain ⟨x15, x16⟩ := u
    obtain ⟨hP1, hK1, hD1⟩ := hB
    rw [ht] at hP1
    obtain ⟨hP, hD⟩ := va_joinN (wr := (wd01_52 a0 jmz jmA jlc jld jkJ jiT jkT jjT ja0 jaC jaP jkk jbF cyB jcq jkT cyI jl3)) (w1 := (wd01_43 a1 jbF jb3 jhS jeF jcI x15 x16)) (wn := (wd01_50 a0 jmz jmA jlc jld jkJ jiT jkT jjT ja0 jaC jaP jkk a1 jbF jb3 jhS jeF jcI x15 x16 jbF cyB jcq jkT cyI jl3)) hP hD [1] [0, 2, 3] [0, 3, 1, 2] hCc rfl (by decide +kernel) (by decide +kernel) (by decide +kernel) rfl hk1 hFc hP1 hD1
    generalize H1 = H at hP hS ⊢
    exact ((W.vret hx hb hr (fun t ht hW => ⟨⟨(jhS, x15, x16, jeF, jl3), rfl, hw, by rw [ht]; exact hP, va_K.moved hW.alike hK, hD⟩, hS.F ht⟩) hS.2.2 (dt_of tkX2_readDebt_k0 5 rfl)))
theorem ui_X2_foxIsNear_X2 : ∀ w ∈ u_ws RX2 TX2 12, w ∈ wsX2_foxIsNear := uiM mbX2_foxIsNear euX2 (by decide +kernel)
theorem uw_X2_foxIsNear_f15 : (.fieldLink RX2 15 "MarchHares$Down" "formY" "[I" : Cond) ∈ wsX2_foxIsNear := mbX2_foxIsNear 149 (by decide +kernel)
theorem uw_X2_foxIsNear_f18 : (.fieldLink RX2 18 "MarchHares$Down" "foxX" "[I" : Cond) ∈ wsX2_foxIsNear := mbX2_foxIsNear 150 (by decide +kernel)
theorem uw_X2_foxIsNear_f21 : (.fieldLink RX2 21 "MarchHares$Down" "foxY" "[I" : Cond) ∈ wsX2_foxIsNear := mbX2_foxIsNear 151 (by decide +kernel)
theorem uw_X2_foxIsNear_f43 : (.fieldLink RX2 43 "MarchHares$Down" "foxes" "I" : Cond) ∈ wsX2_foxIsNear := mbX2_foxIsNear 722 (by decide +kernel)
theorem uw_X2_foxIsNear_f9 : (.fieldLink RX2 9 "MarchHares$Down" "formX" "[I" : Cond) ∈ wsX2_foxIsNear := mbX2_foxIsNear 148 (by decide +kernel)
theorem uw_X2_foxIsNear_inim : (.initialized "java/lang/Math" : Cond) ∈ wsX2_foxIsNear := mbX2_foxIsNear 651 (by decide +kernel)
theorem uw_X2_foxIsNear_m108 : (.methodLink RX2 108 Lib.Math.abs.name : Cond) ∈ wsX2_foxIsNear := mbX2_foxIsNear 1092 (by decide +kernel)
theorem uw_X2_foxIsNear_mcabs : (.code Lib.Math.abs.name Lib.Math.abs.code 1 (some .int) : Cond) ∈ wsX2_foxIsNear := mbX2_foxIsNear 1094 (by decide +kernel)
theorem uw_X2_foxIsNear_msabs : (.static Lib.Math.abs.name : Cond) ∈ wsX2_foxIsNear := mbX2_foxIsNear 1093 (by decide +kernel)
set_option maxHeartbeats 4000000 in
set_option maxRecDepth 100000 in
theorem kl_X2_foxIsNear_2 {p : Program} {l : Launch} {e : Env} {s : State} {m : MethodId} {args : Array Value} {below : List Frame} {meth : Method} {c : Code} {A : Nat → Prop} (dC : Nat → ClassId) (dI : Nat → Nat → Nat) (cyB cyI cyJ cyP : ClassId) (a0 jha jjQ jhi jjU : Nat) (jkJ jiT jj1 jjT ja0 ja4 jkk : Value) (jbw : Int32) (jiR jlB jiP jlx : Nat → Int32) (Q : Int32 → Prop)  (C0 : cfx p s m args meth c cX2_foxIsNear (some .boolean) wsX2_foxIsNear RX2 3 A (dC, dI) (kT cyB cyI cyJ cyP)) : ∀ (n : Nat) (H : Heap) (locs : List Loc) (ls : Array Slot) (l1 l2 : Int32), va_P (dC, dI) vwCl (wd01_53 a0 jha jhi jjQ jjU jkJ jiT jj1 jjT ja0 ja4 jbw jkk jha cyI jiR jjQ cyI jlB jhi cyI jiP jjU cyI jlx) H → va_D A (wd01_53 a0 jha jhi jjQ jjU jkJ jiT jj1 jjT ja0 ja4 jbw jkk jha cyI jiR jjQ cyI jlB jhi cyI jiP jjU cyI jlx) → va_S A s.heap H locs → lv_has ls 3 [(0, .ref a0), (1, .int l1), (2, .int l2)] → wl_X2_foxIsNear_2 jbw jiR jlB jiP jlx Q  n l1 l2 → W p l e (headSpec wsX2_foxIsNear ({ frames := 1, cells := 0, slots := 0, locals := 32 })).room s m args below meth c H locs 0 0 (MQ below (va_Qi (fun (r : Int32) (_ : Unit) => Q r ) (cB (dC, dI) (kT cyB cyI cyJ cyP) A (fun u : Unit => ((wd01_53 a0 jha jhi jjQ jjU jkJ jiT jj1 jjT ja0 ja4 jbw jkk jha cyI jiR jjQ cyI jlB jhi cyI jiP jjU cyI jlx) : va_W))) A) args s 0 0 A) (F0 m 2 ls []) := by
  obtain ⟨hx, hb, hr, hts, hown, hlocks, hml, hA, hK, hNw⟩ := id C0
  intro n
  induction n with
  | zero => intro H locs ls l1 l2 hP hD hS hl hw; exact False.elim hw
  | succ n ih =>
    intro H locs ls l1 l2 hP hD hS hl hw
    refine lv_iload_n hx hb (dt_of tkX2_foxIsNear_k0 2 rfl) rfl (lv_at hl 2 rfl) ?_
    refine lv_aload_n hx hb (dt_of tkX2_foxIsNear_k0 3 rfl) rfl (lv_at hl 0 rfl) ?_
    refine va_get (D := (dC, dI)) (ci := 2) (v := .int jbw) (C := RX2) (T := TX2) (N := 12) hx hb hts ui_X2_foxIsNear_X2 hown hK hP 0 rfl rfl 10 (by decide) (hts _ uw_X2_foxIsNear_f43) (fun _ h9 => h9) rfl (dt_of tkX2_foxIsNear_k0 4 rfl) ?_
    refine lv_icmp_ge (tgt := 55) hx hb (dt_of tkX2_foxIsNear_k0 5 rfl) (by decide) (fun c1 => ?_) (fun c1 => ?_)
    · have hw := hw.1 c1
      refine lv_iconst (v := 0) hx hb (dt_of tkX2_foxIsNear_k52 1 rfl) (by decide) ?_
      exact ((W.zret (v := 0) hx hb hr rfl (fun t ht hW => ⟨⟨0, (), rfl, hw, by rw [ht]; exact hP, va_K.moved hW.alike hK, hD⟩, hS.F ht⟩) hS.2.2 (dt_of tkX2_foxIsNear_k52 2 rfl)))
    · have hw := hw.2 c1
      refine lv_aload_n hx hb (dt_of tkX2_foxIsNear_k0 6 rfl) rfl (lv_at hl 0 rfl) ?_
      refine va_get (D := (dC, dI)) (ci := 2) (v := .ref jha) (C := RX2) (T := TX2) (N := 12) hx hb hts ui_X2_foxIsNear_X2 hown hK hP 0 rfl rfl 0 (by decide) (hts _ uw_X2_foxIsNear_f9) (fun _ h9 => h9) rfl (dt_of tkX2_foxIsNear_k0 7 rfl) ?_
      refine lv_iload_n hx hb (dt_of tkX2_foxIsNear_k0 8 rfl) rfl (lv_at hl 1 rfl) ?_
      obtain ⟨hi9, hw⟩ := hw
      refine va_iald hx hb hK hP 1 1 rfl rfl hi9 (dt_of tkX2_foxIsNear_k0 9 rfl) ?_
      refine lv_topi (fun x2 ex2 => ?_)
      have hw := hw x2 ex2
      refine lv_aload_n hx hb (dt_of tkX2_foxIsNear_k0 10 rfl) rfl (lv_at hl 0 rfl) ?_
      refine va_get (D := (dC, dI)) (ci := 2) (v := .ref jjQ) (C := RX2) (T := TX2) (N := 12) hx hb hts ui_X2_foxIsNear_X2 hown hK hP 0 rfl rfl 2 (by decide) (hts _ uw_X2_foxIsNear_f18) (fun _ h9 => h9) rfl (dt_of tkX2_foxIsNear_k0 11 rfl) ?_
      refine lv_iload_n hx hb (dt_of tkX2_foxIsNear_k0 12 rfl) rfl (lv_at hl 2 rfl) ?_
      obtain ⟨hi9, hw⟩ := hw
      refine va_iald hx hb hK hP 2 1 rfl rfl hi9 (dt_of tkX2_foxIsNear_k0 13 rfl) ?_
      refine lv_topi (fun x3 ex3 => ?_)
      have hw := hw x3 ex3
      refine lv_isub hx hb (dt_of tkX2_foxIsNear_k0 14 rfl) ?_
      refine va_mabs hx hb (by rw [hml]; exact hl.1.symm) hown (hts _ uw_X2_foxIsNear_m108) (hts _ uw_X2_foxIsNear_msabs) (hts _ uw_X2_foxIsNear_inim) (hts _ uw_X2_foxIsNear_mcabs) (Nat.le_of_ble_eq_true rfl) (Nat.le_of_ble_eq_true rfl) (Nat.le_of_ble_eq_true rfl) (Nat.le_of_ble_eq_true rfl) (dt_of tkX2_foxIsNear_k0 15 rfl) ?_
      refine lv_topi (fun x4 ex4 => ?_)
      have hw := hw x4 ex4
      refine lv_aload_n hx hb (dt_of tkX2_foxIsNear_k26 0 rfl) rfl (lv_at hl 0 rfl) ?_
      refine va_get (D := (dC, dI)) (ci := 2) (v := .ref jhi) (C := RX2) (T := TX2) (N := 12) hx hb hts ui_X2_foxIsNear_X2 hown hK hP 0 rfl rfl 1 (by decide) (hts _ uw_X2_foxIsNear_f15) (fun _ h9 => h9) rfl (dt_of tkX2_foxIsNear_k26 1 rfl) ?_
      refine lv_iload_n hx hb (dt_of tkX2_foxIsNear_k26 2 rfl) rfl (lv_at hl 1 rfl) ?_
      obtain ⟨hi9, hw⟩ := hw
      refine va_iald hx hb hK hP 3 1 rfl rfl hi9 (dt_of tkX2_foxIsNear_k26 3 rfl) ?_
      refine lv_topi (fun x5 ex5 => ?_)
      have hw := hw x5 ex5
      refine lv_aload_n hx hb (dt_of tkX2_foxIsNear_k26 4 rfl) rfl (lv_at hl 0 rfl) ?_
      refine va_get (D := (dC, dI)) (ci := 2) (v := .ref jjU) (C := RX2) (T := TX2) (N := 12) hx hb hts ui_X2_foxIsNear_X2 hown hK hP 0 rfl rfl 3 (by decide) (hts _ uw_X2_foxIsNear_f21) (fun _ h9 => h9) rfl (dt_of tkX2_foxIsNear_k26 5 rfl) ?_
      refine lv_iload_n hx hb (dt_of tkX2_foxIsNear_k26 6 rfl) rfl (lv_at hl 2 rfl) ?_
      obtain ⟨hi9, hw⟩ := hw
      refine va_iald hx hb hK hP 4 1 rfl rfl hi9 (dt_of tkX2_foxIsNear_k26 7 rfl) ?_
      refine lv_topi (fun x6 ex6 => ?_)
      have hw := hw x6 ex6
      refine lv_isub hx hb (dt_of tkX2_foxIsNear_k26 8 rfl) ?_
      refine va_mabs hx hb (by rw [hml]; exact hl.1.symm) hown (hts _ uw_X2_foxIsNear_m108) (hts _ uw_X2_foxIsNear_msabs) (hts _ uw_X2_foxIsNear_inim) (hts _ uw_X2_foxIsNear_mcabs) (Nat.le_of_ble_eq_true rfl) (Nat.le_of_ble_eq_true rfl) (Nat.le_of_ble_eq_true rfl) (Nat.le_of_ble_eq_true rfl) (dt_of tkX2_foxIsNear_k26 9 rfl) ?_
      refine lv_topi (fun x7 ex7 => ?_)
      have hw := hw x7 ex7
      refine lv_iadd hx hb (dt_of tkX2_foxIsNear_k26 10 rfl) ?_
      refine lv_iconst (v := 3) hx hb (dt_of tkX2_foxIsNear_k26 11 rfl) (by decide) ?_
      refine lv_icmp_gt (tgt := 49) hx hb (dt_of tkX2_foxIsNear_k26 12 rfl) (by decide) (fun c8 => ?_) (fun c8 => ?_)
      · have hw := hw.1 c8
        obtain ⟨x9, ex9⟩ : ∃ y : Int32, y = l2 + 1 := ⟨_, rfl⟩
        have hw := hw x9 ex9
        refine lv_iinc (v := x9) (lv' := [(2, .int x9), (0, .ref a0), (1, .int l1)]) hx hb (dt_of tkX2_foxIsNear_k26 15 rfl) hl (k := 2) rfl (by rw [ex9]; rfl) (by decide) rfl (fun ls hl => ?_)
        refine lv_goto (tgt := 2) hx hb (dt_of tkX2_foxIsNear_k52 0 rfl) (by decide) ?_
        exact ih _ _ _ l1 x9 hP hD hS (lv_sub hl [1, 2, 0] rfl) hw
      · have hw := hw.2 c8
        refine lv_iconst (v := 1) hx hb (dt_of tkX2_foxIsNear_k26 13 rfl) (by decide) ?_
        exact ((W.zret (v := 1) hx hb hr rfl (fun t ht hW => ⟨⟨1, (), rfl, hw, by rw [ht]; exact hP, va_K.moved hW.alike hK, hD⟩, hS.F ht⟩) hS.2.2 (dt_of tkX2_foxIsNear_k26 14 rfl)))
set_option maxHeartbeats 4000000 in
set_option maxRecDepth 100000 in
theorem ck_X2_foxIsNear (l : Launch) (dC : Nat → ClassId) (dI : Nat → Nat → Nat) (cyB cyI cyJ cyP : ClassId) (a0 jha jjQ jhi jjU sz : Nat) (jkJ jiT jj1 jjT ja0 ja4 jkk : Value) (jbw : Int32) (jiR jlB jiP jlx : Nat → Int32)  (p1 : Int32) {Q : Int32 → Prop} (hw : wq_X2_foxIsNear jbw jiR jlB jiP jlx  p1 Q) : Met l yX2_foxIsNear wsX2_foxIsNear ({ frames := 1, cells := 0, slots := 0, locals := 32 }) (va_Pc [.ref a0, .int p1] (cPc (dC, dI) (kT cyB cyI cyJ cyP) (wd01_53 a0 jha jhi jjQ jjU jkJ jiT jj1 jjT ja0 ja4 jbw jkk jha cyI jiR jjQ cyI jlB jhi cyI jiP jjU cyI jlx) sz)) (va_Qi (fun (r : Int32) (_ : Unit) => Q r ) (cB (dC, dI) (kT cyB cyI cyJ cyP) (va_A (wd01_53 a0 jha jhi jjQ jjU jkJ jiT jj1 jjT ja0 ja4 jbw jkk jha cyI jiR jjQ cyI jlB jhi cyI jiP jjU cyI jlx) sz) (fun u : Unit => ((wd01_53 a0 jha jhi jjQ jjU jkJ jiT jj1 jjT ja0 ja4 jbw jkk jha cyI jiR jjQ cyI jlB jhi cyI jiP jjU cyI jlx) : va_W))) (va_A (wd01_53 a0 jha jhi jjQ jjU jkJ jiT jj1 jjT ja0 ja4 jbw jkk jha cyI jiR jjQ cyI jlB jhi cyI jiP jjU cyI jlx) sz)) 0 0 (va_A (wd01_53 a0 jha jhi jjQ jjU jkJ jiT jj1 jjT ja0 ja4 jbw jkk jha cyI jiR jjQ cyI jlB jhi cyI jiP jjU cyI jlx) sz) := by
  refine Met.ofW (cc := cX2_foxIsNear) (maxL := 3) (ret := (some .boolean)) (by decide) rfl ?_
  intro p e s m args below meth c s₁ B hml hv
  obtain ⟨rfl, hsz, hP, hK, hD0, hNw⟩ := hv
  have hx := B.exec
  have hb := B.bytes
  have hr := B.returns
  have hts := atoms_spec (ws := wsX2_foxIsNear) B.pre
  have hown : s.vm.findClass RX2 = some m.cls := findClass_of_methodNamed B.named
  have hlocks := B.notSynchronized
  subst hsz
  have hD := hD0.self (sz := s.heap.size)
  generalize hAe : va_A (wd01_53 a0 jha jhi jjQ jjU jkJ jiT jj1 jjT ja0 ja4 jbw jkk jha cyI jiR jjQ cyI jlB jhi cyI jiP jjU cyI jlx) s.heap.size = A at hD ⊢
  have hA : ∀ q : Nat, s.heap.size ≤ q → A q := fun q h => by rw [← hAe]; exact Or.inr h
  have hS : va_S A s.heap s.heap [] := va_S.rf
  have hP : va_P (dC, dI) vwCl (wd01_53 a0 jha jhi jjQ jjU jkJ jiT jj1 jjT ja0 ja4 jbw jkk jha cyI jiR jjQ cyI jlB jhi cyI jiP jjU cyI jlx) s.heap := hP
  have hl := lv_entry ([.ref a0, .int p1]) (n := 3) (Nat.le_of_ble_eq_true rfl)
  rw [lg_entry_eq]
  generalize (lg_sl ([.ref a0, .int p1]) ++ List.replicate (3 - (lg_sl ([.ref a0, .int p1])).length) Slot.unset).toArray = ls at hl ⊢
  have hl : lv_has ls 3 [(0, .ref a0), (1, .int p1)] := hl
  have C0 : cfx p s m _ meth c cX2_foxIsNear (some .boolean) wsX2_foxIsNear RX2 3 A (dC, dI) (kT cyB cyI cyJ cyP) := ⟨hx, hb, hr, hts, hown, hlocks, hml, hA, hK, hNw⟩
  clear hAe
  obtain ⟨H, hH⟩ : ∃ H, H = s.heap := ⟨_, rfl⟩
  rw [← hH] at hP ⊢
  have hS : va_S A s.heap H [] := by rw [hH]; exact va_S.rf
  have hS := hS
  refine lv_iconst (v := 0) hx hb (dt_of tkX2_foxIsNear_k0 0 rfl) (by decide) ?_
  refine lv_istore_n (lv' := [(2, .int 0), (0, .ref a0), (1, .int p1)]) hx hb (dt_of tkX2_foxIsNear_k0 1 rfl) rfl hl (by decide) rfl (fun ls hl => ?_)
  obtain ⟨n9, hw⟩ := hw
  exact kl_X2_foxIsNear_2 dC dI cyB cyI cyJ cyP a0 jha jjQ jhi jjU jkJ jiT jj1 jjT ja0 ja4 jkk jbw jiR jlB jiP jlx Q  C0 n9 _ _ _ p1 0 hP hD hS (lv_sub hl [1, 2, 0] rfl) hw
theorem ui_X2_findSafe_X2 : ∀ w ∈ u_ws RX2 TX2 12, w ∈ wsX2_findSafe := uiM mbX2_findSafe euX2 (by decide +kernel)
theorem uw_X2_findSafe_f101 : (.fieldLink RX2 101 "MarchHares$Down" "safe" "I" : Cond) ∈ wsX2_findSafe := mbX2_findSafe 1047 (by decide +kernel)
theorem uw_X2_findSafe_f36 : (.fieldLink RX2 36 "MarchHares$Down" "forms" "I" : Cond) ∈ wsX2_findSafe := mbX2_findSafe 720 (by decide +kernel)
set_option maxHeartbeats 4000000 in
set_option maxRecDepth 100000 in
theorem kb_X2_findSafe_35 {p : Program} {l : Launch} {e : Env} {s : State} {m : MethodId} {args : Array Value} {below : List Frame} {meth : Method} {c : Code} {A : Nat → Prop} (dC : Nat → ClassId) (dI : Nat → Nat → Nat) (cyB cyI cyJ cyP : ClassId) (a0 jha jjQ jhi jjU : Nat) (jkJ jiT jj1 jjT ja4 : Value) (jaN jbw : Int32) (jiR jlB jiP jlx : Nat → Int32) (Q : Int32 → Prop) (K7 : Int32 → Int32 → Prop) (hK7 : ∀ (H : Heap) (locs : List Loc) (ls : Array Slot) (jmw l1 : Int32), va_P (dC, dI) vwCl (wd01_54 a0 jha jhi jjQ jjU jkJ jiT jj1 jjT jaN ja4 jbw jmw jha cyI jiR jjQ cyI jlB jhi cyI jiP jjU cyI jlx) H → va_D A (wd01_54 a0 jha jhi jjQ jjU jkJ jiT jj1 jjT jaN ja4 jbw jmw jha cyI jiR jjQ cyI jlB jhi cyI jiP jjU cyI jlx) → va_S A s.heap H locs → lv_has ls 2 [(0, .ref a0), (1, .int l1)] → K7 jmw l1 → W p l e (headSpec wsX2_findSafe ({ frames := 2, cells := 0, slots := 0, locals := 54 })).room s m args below meth c H locs 0 0 (MQ below (va_Qv (fun (u : Int32) => Q u) (cB (dC, dI) (kT cyB cyI cyJ cyP) A (fun u : Int32 => ((wd01_54 a0 jha jhi jjQ jjU jkJ jiT jj1 jjT jaN ja4 jbw u jha cyI jiR jjQ cyI jlB jhi cyI jiP jjU cyI jlx) : va_W))) A) args s 0 0 A) (F0 m 7 ls [])) (C0 : cfx p s m args meth c cX2_findSafe none wsX2_findSafe RX2 2 A (dC, dI) (kT cyB cyI cyJ cyP)) : ∀ (H : Heap) (locs : List Loc) (ls : Array Slot) (jmw l1 : Int32), va_P (dC, dI) vwCl (wd01_54 a0 jha jhi jjQ jjU jkJ jiT jj1 jjT jaN ja4 jbw jmw jha cyI jiR jjQ cyI jlB jhi cyI jiP jjU cyI jlx) H → va_D A (wd01_54 a0 jha jhi jjQ jjU jkJ jiT jj1 jjT jaN ja4 jbw jmw jha cyI jiR jjQ cyI jlB jhi cyI jiP jjU cyI jlx) → va_S A s.heap H locs → lv_has ls 2 [(0, .ref a0), (1, .int l1)] → wb_X2_findSafe_35 jaN jbw jiR jlB jiP jlx Q K7 jmw l1 → W p l e (headSpec wsX2_findSafe ({ frames := 2, cells := 0, slots := 0, locals := 54 })).room s m args below meth c H locs 0 0 (MQ below (va_Qv (fun (u : Int32) => Q u) (cB (dC, dI) (kT cyB cyI cyJ cyP) A (fun u : Int32 => ((wd01_54 a0 jha jhi jjQ jjU jkJ jiT jj1 jjT jaN ja4 jbw u jha cyI jiR jjQ cyI jlB jhi cyI jiP jjU cyI jlx) : va_W))) A) args s 0 0 A) (F0 m 35 ls []) := by
  obtain ⟨hx, hb, hr, hts, hown, hlocks, hml, hA, hK, hNw⟩ := id C0
  intro H locs ls jmw l1 hP hD hS hl hw
  obtain ⟨x5, ex5⟩ : ∃ y : Int32, y = l1 + 1 := ⟨_, rfl⟩
  have hw := hw x5 ex5
  refine lv_iinc (v := x5) (lv' := [(1, .int x5), (0, .ref a0)]) hx hb (dt_of tkX2_findSafe_k28 5 rfl) hl (k := 1) rfl (by rw [ex5]; rfl) (by decide) rfl (fun ls hl => ?_)
  refine lv_goto (tgt := 7) hx hb (dt_of tkX2_findSafe_k28 6 rfl) (by decide) ?_
  exact hK7 _ _ _ jmw x5 hP hD hS (lv_sub hl [1, 0] rfl) hw
set_option maxHeartbeats 4000000 in
set_option maxRecDepth 100000 in
theorem kl_X2_findSafe_7 {p : Program} {l : Launch} {e : Env} {s : State} {m : MethodId} {args : Array Value} {below : List Frame} {meth : Method} {c : Code} {A : Nat → Prop} (dC : Nat → ClassId) (dI : Nat → Nat → Nat) (cyB cyI cyJ cyP : ClassId) (a0 jha jjQ jhi jjU : Nat) (jkJ jiT jj1 jjT ja4 : Value) (jaN jbw : Int32) (jiR jlB jiP jlx : Nat → Int32) (Q : Int32 → Prop)  (C0 : cfx p s m args meth c cX2_findSafe none wsX2_findSafe RX2 2 A (dC, dI) (kT cyB cyI cyJ cyP)) : ∀ (n : Nat) (H : Heap) (locs : List Loc) (ls : Array Slot) (jmw l1 : Int32), va_P (dC, dI) vwCl (wd01_54 a0 jha jhi jjQ jjU jkJ jiT jj1 jjT jaN ja4 jbw jmw jha cyI jiR jjQ cyI jlB jhi cyI jiP jjU cyI jlx) H → va_D A (wd01_54 a0 jha jhi jjQ jjU jkJ jiT jj1 jjT jaN ja4 jbw jmw jha cyI jiR jjQ cyI jlB jhi cyI jiP jjU cyI jlx) → va_S A s.heap H locs → lv_has ls 2 [(0, .ref a0), (1, .int l1)] → wl_X2_findSafe_7 jaN jbw jiR jlB jiP jlx Q  n jmw l1 → W p l e (headSpec wsX2_findSafe ({ frames := 2, cells := 0, slots := 0, locals := 54 })).room s m args below meth c H locs 0 0 (MQ below (va_Qv (fun (u : Int32) => Q u) (cB (dC, dI) (kT cyB cyI cyJ cyP) A (fun u : Int32 => ((wd01_54 a0 jha jhi jjQ jjU jkJ jiT jj1 jjT jaN ja4 jbw u jha cyI jiR jjQ cyI jlB jhi cyI jiP jjU cyI jlx) : va_W))) A) args s 0 0 A) (F0 m 7 ls []) := by
  obtain ⟨hx, hb, hr, hts, hown, hlocks, hml, hA, hK, hNw⟩ := id C0
  intro n
  induction n with
  | zero => intro H locs ls jmw l1 hP hD hS hl hw; exact False.elim hw
  | succ n ih =>
    intro H locs ls jmw l1 hP hD hS hl hw
    refine lv_iload_n hx hb (dt_of tkX2_findSafe_k0 5 rfl) rfl (lv_at hl 1 rfl) ?_
    refine lv_aload_n hx hb (dt_of tkX2_findSafe_k0 6 rfl) rfl (lv_at hl 0 rfl) ?_
    refine va_get (D := (dC, dI)) (ci := 2) (v := .int jaN) (C := RX2) (T := TX2) (N := 12) hx hb hts ui_X2_findSafe_X2 hown hK hP 0 rfl rfl 8 (by decide) (hts _ uw_X2_findSafe_f36) (fun _ h9 => h9) rfl (dt_of tkX2_findSafe_k0 7 rfl) ?_
    refine lv_icmp_ge (tgt := 41) hx hb (dt_of tkX2_findSafe_k0 8 rfl) (by decide) (fun c1 => ?_) (fun c1 => ?_)
    · have hw := hw.1 c1
      exact ((W.vret hx hb hr (fun t ht hW => ⟨⟨(jmw), rfl, hw, by rw [ht]; exact hP, va_K.moved hW.alike hK, hD⟩, hS.F ht⟩) hS.2.2 (dt_of tkX2_findSafe_k28 7 rfl)))
    · have hw := hw.2 c1
      refine lv_aload_n hx hb (dt_of tkX2_findSafe_k0 9 rfl) rfl (lv_at hl 0 rfl) ?_
      refine lv_iload_n hx hb (dt_of tkX2_findSafe_k0 10 rfl) rfl (lv_at hl 1 rfl) ?_
      obtain ⟨hCc, hPc, hDc, hFc⟩ := va_pick (ws' := (wd01_54 a0 jha jhi jjQ jjU jkJ jiT jj1 jjT jaN ja4 jbw jmw jha cyI jiR jjQ cyI jlB jhi cyI jiP jjU cyI jlx)) hP hD hS hA [0, 1, 2, 3, 4] (by decide +kernel) rfl
      refine va_calli (va_runV (As := [.int l1]) (rest := []) ⟨hx, hb, hml, hown, hts⟩ (ck_X2_foxIsNear l dC dI cyB cyI cyJ cyP a0 jha jjQ jhi jjU H.size (jkJ) (jiT) (jj1) (jjT) (.int jaN) (ja4) (.int jmw) jbw jiR jlB jiP jlx  l1 hw) (cwV 1 hts gX2_findSafe_X2_foxIsNear rfl rfl rfl (by decide +kernel) ⟨Nat.le_of_ble_eq_true rfl, Nat.le_of_ble_eq_true rfl⟩) ⟨cPc_blind, va_recv (q := (RX2, TX2, 12)) hK hPc (ci := 2) (q0 := 0) rfl rfl, cPc_pre hPc hK hDc hNw⟩ rfl rfl hl.1 rfl (lv_room (Nat.le_of_ble_eq_true rfl)) (dt_of tkX2_findSafe_k0 11 rfl) ⟨Nat.le_of_ble_eq_true rfl, Nat.le_of_ble_eq_true rfl⟩) hS (fun q _ h => hFc q h) hFc (fun r2 u t H1 locs ht hvm hw hB hz1 hk1 hS => ?_)
      obtain ⟨hP1, hK1, hD1⟩ := hB
      rw [ht] at hP1
      obtain ⟨hP, hD⟩ := va_joinI (wr := []) (w1 := (wd01_54 a0 jha jhi jjQ jjU jkJ jiT jj1 jjT jaN ja4 jbw jmw jha cyI jiR jjQ cyI jlB jhi cyI jiP jjU cyI jlx)) (wn := (wd01_54 a0 jha jhi jjQ jjU jkJ jiT jj1 jjT jaN ja4 jbw jmw jha cyI jiR jjQ cyI jlB jhi cyI jiP jjU cyI jlx)) hP hD [0, 1, 2, 3, 4] [] hCc rfl (by decide +kernel) (by decide +kernel) rfl hk1 hFc hP1 hD1
      generalize H1 = H at hP hS ⊢
      refine lv_if_ne (tgt := 35) hx hb (dt_of tkX2_findSafe_k0 12 rfl) (by decide) (fun c3 => ?_) (fun c3 => ?_)
      · have hw := hw.1 c3
        exact kb_X2_findSafe_35 dC dI cyB cyI cyJ cyP a0 jha jjQ jhi jjU jkJ jiT jj1 jjT ja4 jaN jbw jiR jlB jiP jlx Q (wl_X2_findSafe_7 jaN jbw jiR jlB jiP jlx Q  n) ih C0 _ _ _ jmw l1 hP hD hS (lv_sub hl [0, 1] rfl) hw
      · have hw := hw.2 c3
        refine lv_aload_n hx hb (dt_of tkX2_findSafe_k0 13 rfl) rfl (lv_at hl 0 rfl) ?_
        refine lv_dup hx hb (dt_of tkX2_findSafe_k0 14 rfl) rfl ?_
        refine va_get (D := (dC, dI)) (ci := 2) (v := .int jmw) (C := RX2) (T := TX2) (N := 12) hx hb hts ui_X2_findSafe_X2 hown hK hP 0 rfl rfl 11 (by decide) (hts _ uw_X2_findSafe_f101) (fun _ h9 => h9) rfl (dt_of tkX2_findSafe_k0 15 rfl) ?_
        refine lv_iconst (v := 1) hx hb (dt_of tkX2_findSafe_k28 0 rfl) (by decide) ?_
        refine lv_iload_n hx hb (dt_of tkX2_findSafe_k28 1 rfl) rfl (lv_at hl 1 rfl) ?_
        refine lv_ishl hx hb (dt_of tkX2_findSafe_k28 2 rfl) ?_
        refine lv_ior hx hb (dt_of tkX2_findSafe_k28 3 rfl) ?_
        refine lv_topi (fun x4 ex4 => ?_)
        have hw := hw x4 ex4
        refine va_put (D := (dC, dI)) (ci := 2) (v := .int x4) (ty := .int) (C := RX2) (T := TX2) (N := 12) hx hb hts ui_X2_findSafe_X2 tyX2 tyX2_ok nmX2 hown hK hP hD hS 0 rfl rfl 11 (by decide) (hts _ uw_X2_findSafe_f101) (fun _ h9 => h9) rfl (by decide +kernel) rfl rfl (Nat.le_of_ble_eq_true rfl) (dt_of tkX2_findSafe_k28 4 rfl) (fun H locs hP hD hS => ?_)
        have hP : va_P (dC, dI) vwCl (wd01_54 a0 jha jhi jjQ jjU jkJ jiT jj1 jjT jaN ja4 jbw x4 jha cyI jiR jjQ cyI jlB jhi cyI jiP jjU cyI jlx) H := hP
        have hD : va_D A (wd01_54 a0 jha jhi jjQ jjU jkJ jiT jj1 jjT jaN ja4 jbw x4 jha cyI jiR jjQ cyI jlB jhi cyI jiP jjU cyI jlx) := hD
        exact kb_X2_findSafe_35 dC dI cyB cyI cyJ cyP a0 jha jjQ jhi jjU jkJ jiT jj1 jjT ja4 jaN jbw jiR jlB jiP jlx Q (wl_X2_findSafe_7 jaN jbw jiR jlB jiP jlx Q  n) ih C0 _ _ _ x4 l1 hP hD hS (lv_sub hl [0, 1] rfl) hw
set_option maxHeartbeats 4000000 in
set_option maxRecDepth 100000 in
theorem ck_X2_findSafe (l : Launch) (dC : Nat → ClassId) (dI : Nat → Nat → Nat) (cyB cyI cyJ cyP : ClassId) (a0 jha jjQ jhi jjU sz : Nat) (jkJ jiT jj1 jjT ja4 : Value) (jaN jbw : Int32) (jiR jlB jiP jlx : Nat → Int32) (jmw : Int32)  {Q : Int32 → Prop} (hw : wq_X2_findSafe jaN jbw jiR jlB jiP jlx jmw  Q) : Met l yX2_findSafe wsX2_findSafe ({ frames := 2, cells := 0, slots := 0, locals := 54 }) (va_Pc [.ref a0] (cPc (dC, dI) (kT cyB cyI cyJ cyP) (wd01_54 a0 jha jhi jjQ jjU jkJ jiT jj1 jjT jaN ja4 jbw jmw jha cyI jiR jjQ cyI jlB jhi cyI jiP jjU cyI jlx) sz)) (va_Qv (fun (u : Int32) => Q u) (cB (dC, dI) (kT cyB cyI cyJ cyP) (va_A (wd01_54 a0 jha jhi jjQ jjU jkJ jiT jj1 jjT jaN ja4 jbw jmw jha cyI jiR jjQ cyI jlB jhi cyI jiP jjU cyI jlx) sz) (fun u : Int32 => ((wd01_54 a0 jha jhi jjQ jjU jkJ jiT jj1 jjT jaN ja4 jbw u jha cyI jiR jjQ cyI jlB jhi cyI jiP jjU cyI jlx) : va_W))) (va_A (wd01_54 a0 jha jhi jjQ jjU jkJ jiT jj1 jjT jaN ja4 jbw jmw jha cyI jiR jjQ cyI jlB jhi cyI jiP jjU cyI jlx) sz)) 0 0 (va_A (wd01_54 a0 jha jhi jjQ jjU jkJ jiT jj1 jjT jaN ja4 jbw jmw jha cyI jiR jjQ cyI jlB jhi cyI jiP jjU cyI jlx) sz) := by
  refine Met.ofW (cc := cX2_findSafe) (maxL := 2) (ret := none) (by decide) rfl ?_
  intro p e s m args below meth c s₁ B hml hv
  obtain ⟨rfl, hsz, hP, hK, hD0, hNw⟩ := hv
  have hx := B.exec
  have hb := B.bytes
  have hr := B.returns
  have hts := atoms_spec (ws := wsX2_findSafe) B.pre
  have hown : s.vm.findClass RX2 = some m.cls := findClass_of_methodNamed B.named
  have hlocks := B.notSynchronized
  subst hsz
  have hD := hD0.self (sz := s.heap.size)
  generalize hAe : va_A (wd01_54 a0 jha jhi jjQ jjU jkJ jiT jj1 jjT jaN ja4 jbw jmw jha cyI jiR jjQ cyI jlB jhi cyI jiP jjU cyI jlx) s.heap.size = A at hD ⊢
  have hA : ∀ q : Nat, s.heap.size ≤ q → A q := fun q h => by rw [← hAe]; exact Or.inr h
  have hS : va_S A s.heap s.heap [] := va_S.rf
  have hP : va_P (dC, dI) vwCl (wd01_54 a0 jha jhi jjQ jjU jkJ jiT jj1 jjT jaN ja4 jbw jmw jha cyI jiR jjQ cyI jlB jhi cyI jiP jjU cyI jlx) s.heap := hP
  have hl := lv_entry ([.ref a0]) (n := 2) (Nat.le_of_ble_eq_true rfl)
  rw [lg_entry_eq]
  generalize (lg_sl ([.ref a0]) ++ List.replicate (2 - (lg_sl ([.ref a0])).length) Slot.unset).toArray = ls at hl ⊢
  have hl : lv_has ls 2 [(0, .ref a0)] := hl
  have C0 : cfx p s m _ meth c cX2_findSafe none wsX2_findSafe RX2 2 A (dC, dI) (kT cyB cyI cyJ cyP) := ⟨hx, hb, hr, hts, hown, hlocks, hml, hA, hK, hNw⟩
  clear hAe
  obtain ⟨H, hH⟩ : ∃ H, H = s.heap := ⟨_, rfl⟩
  rw [← hH] at hP ⊢
  have hS : va_S A s.heap H [] := by rw [hH]; exact va_S.rf
  have hS := hS
  refine lv_aload_n hx hb (dt_of tkX2_findSafe_k0 0 rfl) rfl (lv_at hl 0 rfl) ?_
  refine lv_iconst (v := 0) hx hb (dt_of tkX2_findSafe_k0 1 rfl) (by decide) ?_
  refine va_put (D := (dC, dI)) (ci := 2) (v := .int 0) (ty := .int) (C := RX2) (T := TX2) (N := 12) hx hb hts ui_X2_findSafe_X2 tyX2 tyX2_ok nmX2 hown hK hP hD hS 0 rfl rfl 11 (by decide) (hts _ uw_X2_findSafe_f101) (fun _ h9 => h9) rfl (by decide +kernel) rfl rfl (Nat.le_of_ble_eq_true rfl) (dt_of tkX2_findSafe_k0 2 rfl) (fun H locs hP hD hS => ?_)
  have hP : va_P (dC, dI) vwCl (wd01_54 a0 jha jhi jjQ jjU jkJ jiT jj1 jjT jaN ja4 jbw 0 jha cyI jiR jjQ cyI jlB jhi cyI jiP jjU cyI jlx) H := hP
  have hD : va_D A (wd01_54 a0 jha jhi jjQ jjU jkJ jiT jj1 jjT jaN ja4 jbw 0 jha cyI jiR jjQ cyI jlB jhi cyI jiP jjU cyI jlx) := hD
  refine lv_iconst (v := 0) hx hb (dt_of tkX2_findSafe_k0 3 rfl) (by decide) ?_
  refine lv_istore_n (lv' := [(1, .int 0), (0, .ref a0)]) hx hb (dt_of tkX2_findSafe_k0 4 rfl) rfl hl (by decide) rfl (fun ls hl => ?_)
  obtain ⟨n9, hw⟩ := hw
  exact kl_X2_findSafe_7 dC dI cyB cyI cyJ cyP a0 jha jjQ jhi jjU jkJ jiT jj1 jjT ja4 jaN jbw jiR jlB jiP jlx Q  C0 n9 _ _ _ 0 0 hP hD hS (lv_sub hl [1, 0] rfl) hw
theorem ui_X4_add_X4 : ∀ w ∈ u_ws RX4 TX4 5, w ∈ wsX4_add := uiM mbX4_add euX4 (by decide +kernel)
theorem uw_X4_add_f15 : (.fieldLink RX4 15 "MarchHares$Law" "values" "[I" : Cond) ∈ wsX4_add := mbX4_add 201 (by decide +kernel)
theorem uw_X4_add_f27 : (.fieldLink RX4 27 "MarchHares$Law" "length" "I" : Cond) ∈ wsX4_add := mbX4_add 208 (by decide +kernel)
theorem uw_X4_add_f9 : (.fieldLink RX4 9 "MarchHares$Law" "kinds" "[I" : Cond) ∈ wsX4_add := mbX4_add 200 (by decide +kernel)
set_option maxHeartbeats 4000000 in
set_option maxRecDepth 100000 in
theorem ck_X4_add (l : Launch) (dC : Nat → ClassId) (dI : Nat → Nat → Nat) (cyB cyI cyJ cyP : ClassId) (a0 jbU jcJ sz : Nat) (jhV jaE : Value)  (jdC jfV : Nat → Int32) (jb7 p1 p2 : Int32) {Q : (Nat → Int32) → (Nat → Int32) → Int32 → Prop} (hw : wq_X4_add  jdC jfV jb7 p1 p2 Q) : Met l yX4_add wsX4_add ({ frames := 0, cells := 0, slots := 0, locals := 0 }) (va_Pc [.ref a0, .int p1, .int p2] (cPc (dC, dI) (kT cyB cyI cyJ cyP) (wd01_55 a0 jbU jcJ jhV jaE jb7 jbU cyI jdC jcJ cyI jfV) sz)) (va_Qv (fun (u : (Nat → Int32) × (Nat → Int32) × Int32) => Q u.1 u.2.1 u.2.2) (cB (dC, dI) (kT cyB cyI cyJ cyP) (va_A (wd01_55 a0 jbU jcJ jhV jaE jb7 jbU cyI jdC jcJ cyI jfV) sz) (fun u : (Nat → Int32) × (Nat → Int32) × Int32 => ((wd01_55 a0 jbU jcJ jhV jaE u.2.2 jbU cyI u.1 jcJ cyI u.2.1) : va_W))) (va_A (wd01_55 a0 jbU jcJ jhV jaE jb7 jbU cyI jdC jcJ cyI jfV) sz)) 0 0 (va_A (wd01_55 a0 jbU jcJ jhV jaE jb7 jbU cyI jdC jcJ cyI jfV) sz) := by
  refine Met.ofW (cc := cX4_add) (maxL := 3) (ret := none) (by decide) rfl ?_
  intro p e s m args below meth c s₁ B hml hv
  obtain ⟨rfl, hsz, hP, hK, hD0, hNw⟩ := hv
  have hx := B.exec
  have hb := B.bytes
  have hr := B.returns
  have hts := atoms_spec (ws := wsX4_add) B.pre
  have hown : s.vm.findClass RX4 = some m.cls := findClass_of_methodNamed B.named
  have hlocks := B.notSynchronized
  subst hsz
  have hD := hD0.self (sz := s.heap.size)
  generalize hAe : va_A (wd01_55 a0 jbU jcJ jhV jaE jb7 jbU cyI jdC jcJ cyI jfV) s.heap.size = A at hD ⊢
  have hA : ∀ q : Nat, s.heap.size ≤ q → A q := fun q h => by rw [← hAe]; exact Or.inr h
  have hS : va_S A s.heap s.heap [] := va_S.rf
  have hP : va_P (dC, dI) vwCl (wd01_55 a0 jbU jcJ jhV jaE jb7 jbU cyI jdC jcJ cyI jfV) s.heap := hP
  have hl := lv_entry ([.ref a0, .int p1, .int p2]) (n := 3) (Nat.le_of_ble_eq_true rfl)
  rw [lg_entry_eq]
  generalize (lg_sl ([.ref a0, .int p1, .int p2]) ++ List.replicate (3 - (lg_sl ([.ref a0, .int p1, .int p2])).length) Slot.unset).toArray = ls at hl ⊢
  have hl : lv_has ls 3 [(0, .ref a0), (1, .int p1), (2, .int p2)] := hl
  have C0 : cfx p s m _ meth c cX4_add none wsX4_add RX4 3 A (dC, dI) (kT cyB cyI cyJ cyP) := ⟨hx, hb, hr, hts, hown, hlocks, hml, hA, hK, hNw⟩
  clear hAe
  obtain ⟨H, hH⟩ : ∃ H, H = s.heap := ⟨_, rfl⟩
  rw [← hH] at hP ⊢
  have hS : va_S A s.heap H [] := by rw [hH]; exact va_S.rf
  have hS := hS
  refine lv_aload_n hx hb (dt_of tkX4_add_k0 0 rfl) rfl (lv_at hl 0 rfl) ?_
  refine va_get (D := (dC, dI)) (ci := 4) (v := .int jb7) (C := RX4) (T := TX4) (N := 5) hx hb hts ui_X4_add_X4 hown hK hP 0 rfl rfl 4 (by decide) (hts _ uw_X4_add_f27) (fun _ h9 => h9) rfl (dt_of tkX4_add_k0 1 rfl) ?_
  refine lv_sipush (v := 150) hx hb (dt_of tkX4_add_k0 2 rfl) (by decide) ?_
  refine lv_icmp_ge (tgt := 40) hx hb (dt_of tkX4_add_k0 3 rfl) (by decide) (fun c1 => ?_) (fun c1 => ?_)
  · have hw := hw.1 c1
    exact ((W.vret hx hb hr (fun t ht hW => ⟨⟨(jdC, jfV, jb7), rfl, hw, by rw [ht]; exact hP, va_K.moved hW.alike hK, hD⟩, hS.F ht⟩) hS.2.2 (dt_of tkX4_add_k30 6 rfl)))
  · have hw := hw.2 c1
    refine lv_aload_n hx hb (dt_of tkX4_add_k0 4 rfl) rfl (lv_at hl 0 rfl) ?_
    refine va_get (D := (dC, dI)) (ci := 4) (v := .ref jbU) (C := RX4) (T := TX4) (N := 5) hx hb hts ui_X4_add_X4 hown hK hP 0 rfl rfl 0 (by decide) (hts _ uw_X4_add_f9) (fun _ h9 => h9) rfl (dt_of tkX4_add_k0 5 rfl) ?_
    refine lv_aload_n hx hb (dt_of tkX4_add_k0 6 rfl) rfl (lv_at hl 0 rfl) ?_
    refine va_get (D := (dC, dI)) (ci := 4) (v := .int jb7) (C := RX4) (T := TX4) (N := 5) hx hb hts ui_X4_add_X4 hown hK hP 0 rfl rfl 4 (by decide) (hts _ uw_X4_add_f27) (fun _ h9 => h9) rfl (dt_of tkX4_add_k0 7 rfl) ?_
    refine lv_iload_n hx hb (dt_of tkX4_add_k0 8 rfl) rfl (lv_at hl 1 rfl) ?_
    obtain ⟨hi9, hw⟩ := hw
    refine va_iast hx hb hK hP hD hS 1 1 rfl rfl hi9 (dt_of tkX4_add_k0 9 rfl) (fun H locs hP hD hS => ?_)
    obtain ⟨f2, ef2⟩ : ∃ y : Nat → Int32, y = upd jdC jb7.toNatClampNeg p1 := ⟨_, rfl⟩
    have hw := hw f2 ef2
    have hP : va_P (dC, dI) vwCl (wd01_55 a0 jbU jcJ jhV jaE jb7 jbU cyI f2 jcJ cyI jfV) H := by rw [ef2]; exact hP
    have hD : va_D A (wd01_55 a0 jbU jcJ jhV jaE jb7 jbU cyI f2 jcJ cyI jfV) := by rw [ef2]; exact hD
    refine lv_aload_n hx hb (dt_of tkX4_add_k0 10 rfl) rfl (lv_at hl 0 rfl) ?_
    refine va_get (D := (dC, dI)) (ci := 4) (v := .ref jcJ) (C := RX4) (T := TX4) (N := 5) hx hb hts ui_X4_add_X4 hown hK hP 0 rfl rfl 1 (by decide) (hts _ uw_X4_add_f15) (fun _ h9 => h9) rfl (dt_of tkX4_add_k0 11 rfl) ?_
    refine lv_aload_n hx hb (dt_of tkX4_add_k0 12 rfl) rfl (lv_at hl 0 rfl) ?_
    refine va_get (D := (dC, dI)) (ci := 4) (v := .int jb7) (C := RX4) (T := TX4) (N := 5) hx hb hts ui_X4_add_X4 hown hK hP 0 rfl rfl 4 (by decide) (hts _ uw_X4_add_f27) (fun _ h9 => h9) rfl (dt_of tkX4_add_k0 13 rfl) ?_
    refine lv_iload_n hx hb (dt_of tkX4_add_k0 14 rfl) rfl (lv_at hl 2 rfl) ?_
    obtain ⟨hi9, hw⟩ := hw
    refine va_iast hx hb hK hP hD hS 2 1 rfl rfl hi9 (dt_of tkX4_add_k0 15 rfl) (fun H locs hP hD hS => ?_)
    obtain ⟨f3, ef3⟩ : ∃ y : Nat → Int32, y = upd jfV jb7.toNatClampNeg p2 := ⟨_, rfl⟩
    have hw := hw f3 ef3
    have hP : va_P (dC, dI) vwCl (wd01_55 a0 jbU jcJ jhV jaE jb7 jbU cyI f2 jcJ cyI f3) H := by rw [ef3]; exact hP
    have hD : va_D A (wd01_55 a0 jbU jcJ jhV jaE jb7 jbU cyI f2 jcJ cyI f3) := by rw [ef3]; exact hD
    refine lv_aload_n hx hb (dt_of tkX4_add_k30 0 rfl) rfl (lv_at hl 0 rfl) ?_
    refine lv_dup hx hb (dt_of tkX4_add_k30 1 rfl) rfl ?_
    refine va_get (D := (dC, dI)) (ci := 4) (v := .int jb7) (C := RX4) (T := TX4) (N := 5) hx hb hts ui_X4_add_X4 hown hK hP 0 rfl rfl 4 (by decide) (hts _ uw_X4_add_f27) (fun _ h9 => h9) rfl (dt_of tkX4_add_k30 2 rfl) ?_
    refine lv_iconst (v := 1) hx hb (dt_of tkX4_add_k30 3 rfl) (by decide) ?_
    refine lv_iadd hx hb (dt_of tkX4_add_k30 4 rfl) ?_
    refine lv_topi (fun x4 ex4 => ?_)
    have hw := hw x4 ex4
    refine va_put (D := (dC, dI)) (ci := 4) (v := .int x4) (ty := .int) (C := RX4) (T := TX4) (N := 5) hx hb hts ui_X4_add_X4 tyX4 tyX4_ok nmX4 hown hK hP hD hS 0 rfl rfl 4 (by decide) (hts _ uw_X4_add_f27) (fun _ h9 => h9) rfl (by decide +kernel) rfl rfl (Nat.le_of_ble_eq_true rfl) (dt_of tkX4_add_k30 5 rfl) (fun H locs hP hD hS => ?_)
    have hP : va_P (dC, dI) vwCl (wd01_55 a0 jbU jcJ jhV jaE x4 jbU cyI f2 jcJ cyI f3) H := hP
    have hD : va_D A (wd01_55 a0 jbU jcJ jhV jaE x4 jbU cyI f2 jcJ cyI f3) := hD
    exact ((W.vret hx hb hr (fun t ht hW => ⟨⟨(f2, f3, x4), rfl, hw, by rw [ht]; exact hP, va_K.moved hW.alike hK, hD⟩, hS.F ht⟩) hS.2.2 (dt_of tkX4_add_k30 6 rfl)))
theorem ui_X4_setPlain_X4 : ∀ w ∈ u_ws RX4 TX4 5, w ∈ wsX4_setPlain := uiM mbX4_setPlain euX4 (by decide +kernel)
theorem uw_X4_setPlain_f27 : (.fieldLink RX4 27 "MarchHares$Law" "length" "I" : Cond) ∈ wsX4_setPlain := mbX4_setPlain 208 (by decide +kernel)
set_option maxHeartbeats 4000000 in
set_option maxRecDepth 100000 in
theorem ck_X4_setPlain (l : Launch) (dC : Nat → ClassId) (dI : Nat → Nat → Nat) (cyB cyI cyJ cyP : ClassId) (a0 jbU jcJ sz : Nat) (jhV jaE : Value)  (jb7 : Int32) (jdC jfV : Nat → Int32)  {Q : Int32 → (Nat → Int32) → (Nat → Int32) → Prop} (hw : wq_X4_setPlain  jb7 jdC jfV  Q) : Met l yX4_setPlain wsX4_setPlain ({ frames := 1, cells := 0, slots := 0, locals := 22 }) (va_Pc [.ref a0] (cPc (dC, dI) (kT cyB cyI cyJ cyP) (wd01_55 a0 jbU jcJ jhV jaE jb7 jbU cyI jdC jcJ cyI jfV) sz)) (va_Qv (fun (u : Int32 × (Nat → Int32) × (Nat → Int32)) => Q u.1 u.2.1 u.2.2) (cB (dC, dI) (kT cyB cyI cyJ cyP) (va_A (wd01_55 a0 jbU jcJ jhV jaE jb7 jbU cyI jdC jcJ cyI jfV) sz) (fun u : Int32 × (Nat → Int32) × (Nat → Int32) => ((wd01_55 a0 jbU jcJ jhV jaE u.1 jbU cyI u.2.1 jcJ cyI u.2.2) : va_W))) (va_A (wd01_55 a0 jbU jcJ jhV jaE jb7 jbU cyI jdC jcJ cyI jfV) sz)) 0 0 (va_A (wd01_55 a0 jbU jcJ jhV jaE jb7 jbU cyI jdC jcJ cyI jfV) sz) := by
  refine Met.ofW (cc := cX4_setPlain) (maxL := 1) (ret := none) (by decide) rfl ?_
  intro p e s m args below meth c s₁ B hml hv
  obtain ⟨rfl, hsz, hP, hK, hD0, hNw⟩ := hv
  have hx := B.exec
  have hb := B.bytes
  have hr := B.returns
  have hts := atoms_spec (ws := wsX4_setPlain) B.pre
  have hown : s.vm.findClass RX4 = some m.cls := findClass_of_methodNamed B.named
  have hlocks := B.notSynchronized
  subst hsz
  have hD := hD0.self (sz := s.heap.size)
  generalize hAe : va_A (wd01_55 a0 jbU jcJ jhV jaE jb7 jbU cyI jdC jcJ cyI jfV) s.heap.size = A at hD ⊢
  have hA : ∀ q : Nat, s.heap.size ≤ q → A q := fun q h => by rw [← hAe]; exact Or.inr h
  have hS : va_S A s.heap s.heap [] := va_S.rf
  have hP : va_P (dC, dI) vwCl (wd01_55 a0 jbU jcJ jhV jaE jb7 jbU cyI jdC jcJ cyI jfV) s.heap := hP
  have hl := lv_entry ([.ref a0]) (n := 1) (Nat.le_of_ble_eq_true rfl)
  rw [lg_entry_eq]
  generalize (lg_sl ([.ref a0]) ++ List.replicate (1 - (lg_sl ([.ref a0])).length) Slot.unset).toArray = ls at hl ⊢
  have hl : lv_has ls 1 [(0, .ref a0)] := hl
  have C0 : cfx p s m _ meth c cX4_setPlain none wsX4_setPlain RX4 1 A (dC, dI) (kT cyB cyI cyJ cyP) := ⟨hx, hb, hr, hts, hown, hlocks, hml, hA, hK, hNw⟩
  clear hAe
  obtain ⟨H, hH⟩ : ∃ H, H = s.heap := ⟨_, rfl⟩
  rw [← hH] at hP ⊢
  have hS : va_S A s.heap H [] := by rw [hH]; exact va_S.rf
  have hS := hS
  refine lv_aload_n hx hb (dt_of tkX4_setPlain_k0 0 rfl) rfl (lv_at hl 0 rfl) ?_
  refine lv_iconst (v := 0) hx hb (dt_of tkX4_setPlain_k0 1 rfl) (by decide) ?_
  refine va_put (D := (dC, dI)) (ci := 4) (v := .int 0) (ty := .int) (C := RX4) (T := TX4) (N := 5) hx hb hts ui_X4_setPlain_X4 tyX4 tyX4_ok nmX4 hown hK hP hD hS 0 rfl rfl 4 (by decide) (hts _ uw_X4_setPlain_f27) (fun _ h9 => h9) rfl (by decide +kernel) rfl rfl (Nat.le_of_ble_eq_true rfl) (dt_of tkX4_setPlain_k0 2 rfl) (fun H locs hP hD hS => ?_)
  have hP : va_P (dC, dI) vwCl (wd01_55 a0 jbU jcJ jhV jaE 0 jbU cyI jdC jcJ cyI jfV) H := hP
  have hD : va_D A (wd01_55 a0 jbU jcJ jhV jaE 0 jbU cyI jdC jcJ cyI jfV) := hD
  refine lv_aload_n hx hb (dt_of tkX4_setPlain_k0 3 rfl) rfl (lv_at hl 0 rfl) ?_
  refine lv_iconst (v := 0) hx hb (dt_of tkX4_setPlain_k0 4 rfl) (by decide) ?_
  refine lv_iconst (v := 4) hx hb (dt_of tkX4_setPlain_k0 5 rfl) (by decide) ?_
  obtain ⟨hCc, hPc, hDc, hFc⟩ := va_pick (ws' := (wd01_55 a0 jbU jcJ jhV jaE 0 jbU cyI jdC jcJ cyI jfV)) hP hD hS hA [0, 1, 2] (by decide +kernel) rfl
  refine va_callv (va_runV (As := [.int 0, .int 4]) (rest := []) ⟨hx, hb, hml, hown, hts⟩ (ck_X4_add l dC dI cyB cyI cyJ cyP a0 jbU jcJ H.size (jhV) (jaE)  jdC jfV 0 0 4 hw) (cwV 2 hts gX4_setPlain_X4_add rfl rfl rfl (by decide +kernel) ⟨Nat.le_of_ble_eq_true rfl, Nat.le_of_ble_eq_true rfl⟩) ⟨cPc_blind, va_recv (q := (RX4, TX4, 5)) hK hPc (ci := 4) (q0 := 0) rfl rfl, cPc_pre hPc hK hDc hNw⟩ rfl rfl hl.1 rfl (lv_room (Nat.le_of_ble_eq_true rfl)) (dt_of tkX4_setPlain_k0 6 rfl) ⟨Nat.le_of_ble_eq_true rfl, Nat.le_of_ble_eq_true rfl⟩) hS (fun q _ h => hFc q h) hFc (fun u t H1 locs ht hvm hw hB hz1 hk1 hS => ?_)
  obtain ⟨f1, f2, x3⟩ := u
  obtain ⟨hP1, hK1, hD1⟩ := hB
  rw [ht] at hP1
  obtain ⟨hP, hD⟩ := va_joinI (wr := []) (w1 := (wd01_55 a0 jbU jcJ jhV jaE x3 jbU cyI f1 jcJ cyI f2)) (wn := (wd01_55 a0 jbU jcJ jhV jaE x3 jbU cyI f1 jcJ cyI f2)) hP hD [0, 1, 2] [] hCc rfl (by decide +kernel) (by decide +kernel) rfl hk1 hFc hP1 hD1
  generalize H1 = H at hP hS ⊢
  refine lv_aload_n hx hb (dt_of tkX4_setPlain_k0 7 rfl) rfl (lv_at hl 0 rfl) ?_
  refine lv_iconst (v := 1) hx hb (dt_of tkX4_setPlain_k0 8 rfl) (by decide) ?_
  refine lv_iconst (v := 0) hx hb (dt_of tkX4_setPlain_k0 9 rfl) (by decide) ?_
  obtain ⟨hCc, hPc, hDc, hFc⟩ := va_pick (ws' := (wd01_55 a0 jbU jcJ jhV jaE x3 jbU cyI f1 jcJ cyI f2)) hP hD hS hA [0, 1, 2] (by decide +kernel) rfl
  refine va_callv (va_runV (As := [.int 1, .int 0]) (rest := []) ⟨hx, hb, hml, hown, hts⟩ (ck_X4_add l dC dI cyB cyI cyJ cyP a0 jbU jcJ H.size (jhV) (jaE)  f1 f2 x3 1 0 hw) (cwV 2 hts gX4_setPlain_X4_add rfl rfl rfl (by decide +kernel) ⟨Nat.le_of_ble_eq_true rfl, Nat.le_of_ble_eq_true rfl⟩) ⟨cPc_blind, va_recv (q := (RX4, TX4, 5)) hK hPc (ci := 4) (q0 := 0) rfl rfl, cPc_pre hPc hK hDc hNw⟩ rfl rfl hl.1 rfl (lv_room (Nat.le_of_ble_eq_true rfl)) (dt_of tkX4_setPlain_k0 10 rfl) ⟨Nat.le_of_ble_eq_true rfl, Nat.le_of_ble_eq_true rfl⟩) hS (fun q _ h => hFc q h) hFc (fun u t H1 locs ht hvm hw hB hz1 hk1 hS => ?_)
  obtain ⟨f4, f5, x6⟩ := u
  obtain ⟨hP1, hK1, hD1⟩ := hB
  rw [ht] at hP1
  obtain ⟨hP, hD⟩ := va_joinI (wr := []) (w1 := (wd01_55 a0 jbU jcJ jhV jaE x6 jbU cyI f4 jcJ cyI f5)) (wn := (wd01_55 a0 jbU jcJ jhV jaE x6 jbU cyI f4 jcJ cyI f5)) hP hD [0, 1, 2] [] hCc rfl (by decide +kernel) (by decide +kernel) rfl hk1 hFc hP1 hD1
  generalize H1 = H at hP hS ⊢
  refine lv_aload_n hx hb (dt_of tkX4_setPlain_k0 11 rfl) rfl (lv_at hl 0 rfl) ?_
  refine lv_iconst (v := 2) hx hb (dt_of tkX4_setPlain_k0 12 rfl) (by decide) ?_
  refine lv_iconst (v := 0) hx hb (dt_of tkX4_setPlain_k0 13 rfl) (by decide) ?_
  obtain ⟨hCc, hPc, hDc, hFc⟩ := va_pick (ws' := (wd01_55 a0 jbU jcJ jhV jaE x6 jbU cyI f4 jcJ cyI f5)) hP hD hS hA [0, 1, 2] (by decide +kernel) rfl
  refine va_callv (va_runV (As := [.int 2, .int 0]) (rest := []) ⟨hx, hb, hml, hown, hts⟩ (ck_X4_add l dC dI cyB cyI cyJ cyP a0 jbU jcJ H.size (jhV) (jaE)  f4 f5 x6 2 0 hw) (cwV 2 hts gX4_setPlain_X4_add rfl rfl rfl (by decide +kernel) ⟨Nat.le_of_ble_eq_true rfl, Nat.le_of_ble_eq_true rfl⟩) ⟨cPc_blind, va_recv (q := (RX4, TX4, 5)) hK hPc (ci := 4) (q0 := 0) rfl rfl, cPc_pre hPc hK hDc hNw⟩ rfl rfl hl.1 rfl (lv_room (Nat.le_of_ble_eq_true rfl)) (dt_of tkX4_setPlain_k0 14 rfl) ⟨Nat.le_of_ble_eq_true rfl, Nat.le_of_ble_eq_true rfl⟩) hS (fun q _ h => hFc q h) hFc (fun u t H1 locs ht hvm hw hB hz1 hk1 hS => ?_)
  obtain ⟨f7, f8, x9⟩ := u
  obtain ⟨hP1, hK1, hD1⟩ := hB
  rw [ht] at hP1
  obtain ⟨hP, hD⟩ := va_joinI (wr := []) (w1 := (wd01_55 a0 jbU jcJ jhV jaE x9 jbU cyI f7 jcJ cyI f8)) (wn := (wd01_55 a0 jbU jcJ jhV jaE x9 jbU cyI f7 jcJ cyI f8)) hP hD [0, 1, 2] [] hCc rfl (by decide +kernel) (by decide +kernel) rfl hk1 hFc hP1 hD1
  generalize H1 = H at hP hS ⊢
  refine lv_aload_n hx hb (dt_of tkX4_setPlain_k0 15 rfl) rfl (lv_at hl 0 rfl) ?_
  refine lv_iconst (v := 1) hx hb (dt_of tkX4_setPlain_k24 0 rfl) (by decide) ?_
  refine lv_iconst (v := 1) hx hb (dt_of tkX4_setPlain_k24 1 rfl) (by decide) ?_
  obtain ⟨hCc, hPc, hDc, hFc⟩ := va_pick (ws' := (wd01_55 a0 jbU jcJ jhV jaE x9 jbU cyI f7 jcJ cyI f8)) hP hD hS hA [0, 1, 2] (by decide +kernel) rfl
  refine va_callv (va_runV (As := [.int 1, .int 1]) (rest := []) ⟨hx, hb, hml, hown, hts⟩ (ck_X4_add l dC dI cyB cyI cyJ cyP a0 jbU jcJ H.size (jhV) (jaE)  f7 f8 x9 1 1 hw) (cwV 2 hts gX4_setPlain_X4_add rfl rfl rfl (by decide +kernel) ⟨Nat.le_of_ble_eq_true rfl, Nat.le_of_ble_eq_true rfl⟩) ⟨cPc_blind, va_recv (q := (RX4, TX4, 5)) hK hPc (ci := 4) (q0 := 0) rfl rfl, cPc_pre hPc hK hDc hNw⟩ rfl rfl hl.1 rfl (lv_room (Nat.le_of_ble_eq_true rfl)) (dt_of tkX4_setPlain_k24 2 rfl) ⟨Nat.le_of_ble_eq_true rfl, Nat.le_of_ble_eq_true rfl⟩) hS (fun q _ h => hFc q h) hFc (fun u t H1 locs ht hvm hw hB hz1 hk1 hS => ?_)
  obtain ⟨f10, f11, x12⟩ := u
  obtain ⟨hP1, hK1, hD1⟩ := hB
  rw [ht] at hP1
  obtain ⟨hP, hD⟩ := va_joinI (wr := []) (w1 := (wd01_55 a0 jbU jcJ jhV jaE x12 jbU cyI f10 jcJ cyI f11)) (wn := (wd01_55 a0 jbU jcJ jhV jaE x12 jbU cyI f10 jcJ cyI f11)) hP hD [0, 1, 2] [] hCc rfl (by decide +kernel) (by decide +kernel) rfl hk1 hFc hP1 hD1
  generalize H1 = H at hP hS ⊢
  refine lv_aload_n hx hb (dt_of tkX4_setPlain_k24 3 rfl) rfl (lv_at hl 0 rfl) ?_
  refine lv_iconst (v := 3) hx hb (dt_of tkX4_setPlain_k24 4 rfl) (by decide) ?_
  refine lv_iconst (v := 0) hx hb (dt_of tkX4_setPlain_k24 5 rfl) (by decide) ?_
  obtain ⟨hCc, hPc, hDc, hFc⟩ := va_pick (ws' := (wd01_55 a0 jbU jcJ jhV jaE x12 jbU cyI f10 jcJ cyI f11)) hP hD hS hA [0, 1, 2] (by decide +kernel) rfl
  refine va_callv (va_runV (As := [.int 3, .int 0]) (rest := []) ⟨hx, hb, hml, hown, hts⟩ (ck_X4_add l dC dI cyB cyI cyJ cyP a0 jbU jcJ H.size (jhV) (jaE)  f10 f11 x12 3 0 hw) (cwV 2 hts gX4_setPlain_X4_add rfl rfl rfl (by decide +kernel) ⟨Nat.le_of_ble_eq_true rfl, Nat.le_of_ble_eq_true rfl⟩) ⟨cPc_blind, va_recv (q := (RX4, TX4, 5)) hK hPc (ci := 4) (q0 := 0) rfl rfl, cPc_pre hPc hK hDc hNw⟩ rfl rfl hl.1 rfl (lv_room (Nat.le_of_ble_eq_true rfl)) (dt_of tkX4_setPlain_k24 6 rfl) ⟨Nat.le_of_ble_eq_true rfl, Nat.le_of_ble_eq_true rfl⟩) hS (fun q _ h => hFc q h) hFc (fun u t H1 locs ht hvm hw hB hz1 hk1 hS => ?_)
  obtain ⟨f13, f14, x15⟩ := u
  obtain ⟨hP1, hK1, hD1⟩ := hB
  rw [ht] at hP1
  obtain ⟨hP, hD⟩ := va_joinI (wr := []) (w1 := (wd01_55 a0 jbU jcJ jhV jaE x15 jbU cyI f13 jcJ cyI f14)) (wn := (wd01_55 a0 jbU jcJ jhV jaE x15 jbU cyI f13 jcJ cyI f14)) hP hD [0, 1, 2] [] hCc rfl (by decide +kernel) (by decide +kernel) rfl hk1 hFc hP1 hD1
  generalize H1 = H at hP hS ⊢
  exact ((W.vret hx hb hr (fun t ht hW => ⟨⟨(x15, f13, f14), rfl, hw, by rw [ht]; exact hP, va_K.moved hW.alike hK, hD⟩, hS.F ht⟩) hS.2.2 (dt_of tkX4_setPlain_k24 7 rfl)))
theorem ui_X1_begin_X1 : ∀ w ∈ u_ws RX1 TX1 4, w ∈ wsX1_begin := uiM mbX1_begin euX1 (by decide +kernel)
theorem ui_X1_begin_X2 : ∀ w ∈ u_ws RX2 TX2 12, w ∈ wsX1_begin := uiM mbX1_begin euX2 (by decide +kernel)
theorem uw_X1_begin_aci : (.initialized "java/lang/System" : Cond) ∈ wsX1_begin := mbX1_begin 331 (by decide +kernel)
theorem uw_X1_begin_acn : (.native arraycopyName : Cond) ∈ wsX1_begin := mbX1_begin 329 (by decide +kernel)
theorem uw_X1_begin_acs : (.static arraycopyName : Cond) ∈ wsX1_begin := mbX1_begin 330 (by decide +kernel)
theorem uw_X1_begin_f13 : (.fieldLink RX1 13 "MarchHares$Days" "row" "[I" : Cond) ∈ wsX1_begin := mbX1_begin 276 (by decide +kernel)
theorem uw_X1_begin_f24 : (.fieldLink RX1 24 "MarchHares$Days" "down" "LMarchHares$Down;" : Cond) ∈ wsX1_begin := mbX1_begin 322 (by decide +kernel)
theorem uw_X1_begin_f28 : (.fieldLink RX1 28 "MarchHares$Days" "law" "LMarchHares$Law;" : Cond) ∈ wsX1_begin := mbX1_begin 323 (by decide +kernel)
theorem uw_X1_begin_f32 : (.fieldLink RX1 32 "MarchHares$Down" "hares" "I" : Cond) ∈ wsX1_begin := mbX1_begin 324 (by decide +kernel)
theorem uw_X1_begin_f36 : (.fieldLink RX1 36 "MarchHares$Down" "seat" "[I" : Cond) ∈ wsX1_begin := mbX1_begin 325 (by decide +kernel)
theorem uw_X1_begin_f39 : (.fieldLink RX1 39 "MarchHares$Down" "strength" "[I" : Cond) ∈ wsX1_begin := mbX1_begin 326 (by decide +kernel)
theorem uw_X1_begin_f42 : (.fieldLink RX1 42 "MarchHares$Down" "debts" "[I" : Cond) ∈ wsX1_begin := mbX1_begin 327 (by decide +kernel)
theorem uw_X1_begin_m45 : (.methodLink RX1 45 arraycopyName : Cond) ∈ wsX1_begin := mbX1_begin 328 (by decide +kernel)
set_option maxHeartbeats 4000000 in
set_option maxRecDepth 100000 in
theorem kl_X1_begin_40 {p : Program} {l : Launch} {e : Env} {s : State} {m : MethodId} {args : Array Value} {below : List Frame} {meth : Method} {c : Code} {A : Nat → Prop} (dC : Nat → ClassId) (dI : Nat → Nat → Nat) (cyB cyI cyJ cyP : ClassId) (a0 a1 a2 jch jmO jnd jmh : Nat) (jcD jpf jo9 jov jow jlD jlE jlF jnY jlf jlG : Value) (jnS : Int32) (jnV joi jmW : Nat → Int32) (Q : (Nat → Int32) → Prop)  (C0 : cfx p s m args meth c cX1_begin none wsX1_begin RX1 4 A (dC, dI) (kT cyB cyI cyJ cyP)) : ∀ (n : Nat) (H : Heap) (locs : List Loc) (ls : Array Slot) (jdE : Nat → Int32) (l3 : Int32), va_P (dC, dI) vwCl (wd01_56 a0 jch jcD a1 a2 jch cyI jdE a1 jov jow jlD jlE jnd jmh jmO jlF jnY jnS jlf jlG jmO cyI jnV jnd cyI joi jmh cyI jmW) H → va_D A (wd01_56 a0 jch jcD a1 a2 jch cyI jdE a1 jov jow jlD jlE jnd jmh jmO jlF jnY jnS jlf jlG jmO cyI jnV jnd cyI joi jmh cyI jmW) → va_S A s.heap H locs → lv_has ls 4 [(0, .ref a0), (1, .ref a1), (3, .int l3)] → wl_X1_begin_40 jnS jnV joi jmW Q  n jdE l3 → W p l e (headSpec wsX1_begin ({ frames := 1, cells := 0, slots := 0, locals := 40 })).room s m args below meth c H locs 0 0 (MQ below (va_Qv (fun (u : (Nat → Int32)) => Q u) (cB (dC, dI) (kT cyB cyI cyJ cyP) A (fun u : (Nat → Int32) => ((wd01_56 a0 jch jcD a1 a2 jch cyI u a1 jov jow jlD jlE jnd jmh jmO jlF jnY jnS jlf jlG jmO cyI jnV jnd cyI joi jmh cyI jmW) : va_W))) A) args s 0 0 A) (F0 m 40 ls []) := by
  obtain ⟨hx, hb, hr, hts, hown, hlocks, hml, hA, hK, hNw⟩ := id C0
  intro n
  induction n with
  | zero => intro H locs ls jdE l3 hP hD hS hl hw; exact False.elim hw
  | succ n ih =>
    intro H locs ls jdE l3 hP hD hS hl hw
    refine lv_iload_n hx hb (dt_of tkX1_begin_k25 9 rfl) rfl (lv_at hl 2 rfl) ?_
    refine lv_aload_n hx hb (dt_of tkX1_begin_k25 10 rfl) rfl (lv_at hl 1 rfl) ?_
    refine va_get (D := (dC, dI)) (ci := 2) (v := .int jnS) (C := RX2) (T := TX2) (N := 12) hx hb hts ui_X1_begin_X2 hown hK hP 2 rfl rfl 9 (by decide) (hts _ uw_X1_begin_f32) (fun _ h9 => h9) rfl (dt_of tkX1_begin_k25 11 rfl) ?_
    refine lv_icmp_ge (tgt := 83) hx hb (dt_of tkX1_begin_k25 12 rfl) (by decide) (fun c5 => ?_) (fun c5 => ?_)
    · have hw := hw.1 c5
      refine lv_aload_n hx hb (dt_of tkX1_begin_k76 3 rfl) rfl (lv_at hl 1 rfl) ?_
      refine va_get (D := (dC, dI)) (ci := 2) (v := .ref jmO) (C := RX2) (T := TX2) (N := 12) hx hb hts ui_X1_begin_X2 hown hK hP 2 rfl rfl 6 (by decide) (hts _ uw_X1_begin_f42) (fun _ h9 => h9) rfl (dt_of tkX1_begin_k76 4 rfl) ?_
      refine lv_iconst (v := 0) hx hb (dt_of tkX1_begin_k76 5 rfl) (by decide) ?_
      refine lv_aload_n hx hb (dt_of tkX1_begin_k76 6 rfl) rfl (lv_at hl 0 rfl) ?_
      refine va_get (D := (dC, dI)) (ci := 1) (v := .ref jch) (C := RX1) (T := TX1) (N := 4) hx hb hts ui_X1_begin_X1 hown hK hP 0 rfl rfl 0 (by decide) (hts _ uw_X1_begin_f13) (fun _ h9 => h9) rfl (dt_of tkX1_begin_k76 7 rfl) ?_
      refine lv_bipush (v := 28) hx hb (dt_of tkX1_begin_k76 8 rfl) (by decide) ?_
      refine lv_bipush (v := 36) hx hb (dt_of tkX1_begin_k76 9 rfl) (by decide) ?_
      refine va_copyi hx hb (by rw [hml]; exact hl.1.symm) hown (hts _ uw_X1_begin_m45) (hts _ uw_X1_begin_acn) (hts _ uw_X1_begin_acs) (hts _ uw_X1_begin_aci) hK hP hD hS 3 1 1 1 rfl rfl rfl rfl rfl (by decide) (by decide) (by decide) (by decide) (by decide) (fun _ _ => rfl) (Nat.le_of_ble_eq_true rfl) (Nat.le_of_ble_eq_true rfl) (dt_of tkX1_begin_k76 10 rfl) (fun H locs hP hD hS => ?_)
      obtain ⟨f6, ef6⟩ : ∃ y : Nat → Int32, y = va_cpy jnV jdE (0 : Int32).toNatClampNeg (28 : Int32).toNatClampNeg (36 : Int32).toNatClampNeg := ⟨_, rfl⟩
      have hw := hw f6 ef6
      have hP : va_P (dC, dI) vwCl (wd01_56 a0 jch jcD a1 a2 jch cyI f6 a1 jov jow jlD jlE jnd jmh jmO jlF jnY jnS jlf jlG jmO cyI jnV jnd cyI joi jmh cyI jmW) H := by rw [ef6]; exact hP
      have hD : va_D A (wd01_56 a0 jch jcD a1 a2 jch cyI f6 a1 jov jow jlD jlE jnd jmh jmO jlF jnY jnS jlf jlG jmO cyI jnV jnd cyI joi jmh cyI jmW) := by rw [ef6]; exact hD
      exact ((W.vret hx hb hr (fun t ht hW => ⟨⟨(f6), rfl, hw, by rw [ht]; exact hP, va_K.moved hW.alike hK, hD⟩, hS.F ht⟩) hS.2.2 (dt_of tkX1_begin_k76 11 rfl)))
    · have hw := hw.2 c5
      refine lv_aload_n hx hb (dt_of tkX1_begin_k25 13 rfl) rfl (lv_at hl 0 rfl) ?_
      refine va_get (D := (dC, dI)) (ci := 1) (v := .ref jch) (C := RX1) (T := TX1) (N := 4) hx hb hts ui_X1_begin_X1 hown hK hP 0 rfl rfl 0 (by decide) (hts _ uw_X1_begin_f13) (fun _ h9 => h9) rfl (dt_of tkX1_begin_k25 14 rfl) ?_
      refine lv_iconst (v := 4) hx hb (dt_of tkX1_begin_k25 15 rfl) (by decide) ?_
      refine lv_iload_n hx hb (dt_of tkX1_begin_k53 0 rfl) rfl (lv_at hl 2 rfl) ?_
      refine lv_iadd hx hb (dt_of tkX1_begin_k53 1 rfl) ?_
      refine lv_topi (fun x7 ex7 => ?_)
      have hw := hw x7 ex7
      refine lv_aload_n hx hb (dt_of tkX1_begin_k53 2 rfl) rfl (lv_at hl 1 rfl) ?_
      refine va_get (D := (dC, dI)) (ci := 2) (v := .ref jnd) (C := RX2) (T := TX2) (N := 12) hx hb hts ui_X1_begin_X2 hown hK hP 2 rfl rfl 4 (by decide) (hts _ uw_X1_begin_f36) (fun _ h9 => h9) rfl (dt_of tkX1_begin_k53 3 rfl) ?_
      refine lv_iload_n hx hb (dt_of tkX1_begin_k53 4 rfl) rfl (lv_at hl 2 rfl) ?_
      obtain ⟨hi9, hw⟩ := hw
      refine va_iald hx hb hK hP 4 1 rfl rfl hi9 (dt_of tkX1_begin_k53 5 rfl) ?_
      refine lv_topi (fun x8 ex8 => ?_)
      have hw := hw x8 ex8
      obtain ⟨hi9, hw⟩ := hw
      refine va_iast hx hb hK hP hD hS 1 1 rfl rfl hi9 (dt_of tkX1_begin_k53 6 rfl) (fun H locs hP hD hS => ?_)
      obtain ⟨f9, ef9⟩ : ∃ y : Nat → Int32, y = upd jdE x7.toNatClampNeg x8 := ⟨_, rfl⟩
      have hw := hw f9 ef9
      have hP : va_P (dC, dI) vwCl (wd01_56 a0 jch jcD a1 a2 jch cyI f9 a1 jov jow jlD jlE jnd jmh jmO jlF jnY jnS jlf jlG jmO cyI jnV jnd cyI joi jmh cyI jmW) H := by rw [ef9]; exact hP
      have hD : va_D A (wd01_56 a0 jch jcD a1 a2 jch cyI f9 a1 jov jow jlD jlE jnd jmh jmO jlF jnY jnS jlf jlG jmO cyI jnV jnd cyI joi jmh cyI jmW) := by rw [ef9]; exact hD
      refine lv_aload_n hx hb (dt_of tkX1_begin_k53 7 rfl) rfl (lv_at hl 0 rfl) ?_
      refine va_get (D := (dC, dI)) (ci := 1) (v := .ref jch) (C := RX1) (T := TX1) (N := 4) hx hb hts ui_X1_begin_X1 hown hK hP 0 rfl rfl 0 (by decide) (hts _ uw_X1_begin_f13) (fun _ h9 => h9) rfl (dt_of tkX1_begin_k53 8 rfl) ?_
      refine lv_bipush (v := 10) hx hb (dt_of tkX1_begin_k53 9 rfl) (by decide) ?_
      refine lv_iload_n hx hb (dt_of tkX1_begin_k53 10 rfl) rfl (lv_at hl 2 rfl) ?_
      refine lv_iadd hx hb (dt_of tkX1_begin_k53 11 rfl) ?_
      refine lv_topi (fun x10 ex10 => ?_)
      have hw := hw x10 ex10
      refine lv_aload_n hx hb (dt_of tkX1_begin_k53 12 rfl) rfl (lv_at hl 1 rfl) ?_
      refine va_get (D := (dC, dI)) (ci := 2) (v := .ref jmh) (C := RX2) (T := TX2) (N := 12) hx hb hts ui_X1_begin_X2 hown hK hP 2 rfl rfl 5 (by decide) (hts _ uw_X1_begin_f39) (fun _ h9 => h9) rfl (dt_of tkX1_begin_k53 13 rfl) ?_
      refine lv_iload_n hx hb (dt_of tkX1_begin_k53 14 rfl) rfl (lv_at hl 2 rfl) ?_
      obtain ⟨hi9, hw⟩ := hw
      refine va_iald hx hb hK hP 5 1 rfl rfl hi9 (dt_of tkX1_begin_k53 15 rfl) ?_
      refine lv_topi (fun x11 ex11 => ?_)
      have hw := hw x11 ex11
      obtain ⟨hi9, hw⟩ := hw
      refine va_iast hx hb hK hP hD hS 1 1 rfl rfl hi9 (dt_of tkX1_begin_k76 0 rfl) (fun H locs hP hD hS => ?_)
      obtain ⟨f12, ef12⟩ : ∃ y : Nat → Int32, y = upd f9 x10.toNatClampNeg x11 := ⟨_, rfl⟩
      have hw := hw f12 ef12
      have hP : va_P (dC, dI) vwCl (wd01_56 a0 jch jcD a1 a2 jch cyI f12 a1 jov jow jlD jlE jnd jmh jmO jlF jnY jnS jlf jlG jmO cyI jnV jnd cyI joi jmh cyI jmW) H := by rw [ef12]; exact hP
      have hD : va_D A (wd01_56 a0 jch jcD a1 a2 jch cyI f12 a1 jov jow jlD jlE jnd jmh jmO jlF jnY jnS jlf jlG jmO cyI jnV jnd cyI joi jmh cyI jmW) := by rw [ef12]; exact hD
      obtain ⟨x13, ex13⟩ : ∃ y : Int32, y = l3 + 1 := ⟨_, rfl⟩
      have hw := hw x13 ex13
      refine lv_iinc (v := x13) (lv' := [(3, .int x13), (0, .ref a0), (1, .ref a1)]) hx hb (dt_of tkX1_begin_k76 1 rfl) hl (k := 2) rfl (by rw [ex13]; rfl) (by decide) rfl (fun ls hl => ?_)
      refine lv_goto (tgt := 40) hx hb (dt_of tkX1_begin_k76 2 rfl) (by decide) ?_
      exact ih _ _ _ f12 x13 hP hD hS (lv_sub hl [1, 2, 0] rfl) hw
set_option maxHeartbeats 4000000 in
set_option maxRecDepth 100000 in
theorem kl_X1_begin_12 {p : Program} {l : Launch} {e : Env} {s : State} {m : MethodId} {args : Array Value} {below : List Frame} {meth : Method} {c : Code} {A : Nat → Prop} (dC : Nat → ClassId) (dI : Nat → Nat → Nat) (cyB cyI cyJ cyP : ClassId) (a0 a1 a2 jch jmO jnd jmh : Nat) (jcD jpf jo9 jov jow jlD jlE jlF jnY jlf jlG : Value) (jnS : Int32) (jnV joi jmW : Nat → Int32) (Q : (Nat → Int32) → Prop)  (C0 : cfx p s m args meth c cX1_begin none wsX1_begin RX1 4 A (dC, dI) (kT cyB cyI cyJ cyP)) : ∀ (n : Nat) (H : Heap) (locs : List Loc) (ls : Array Slot) (jdE : Nat → Int32) (l3 : Int32), va_P (dC, dI) vwCl (wd01_56 a0 jch jcD a1 a2 jch cyI jdE a1 jov jow jlD jlE jnd jmh jmO jlF jnY jnS jlf jlG jmO cyI jnV jnd cyI joi jmh cyI jmW) H → va_D A (wd01_56 a0 jch jcD a1 a2 jch cyI jdE a1 jov jow jlD jlE jnd jmh jmO jlF jnY jnS jlf jlG jmO cyI jnV jnd cyI joi jmh cyI jmW) → va_S A s.heap H locs → lv_has ls 4 [(0, .ref a0), (1, .ref a1), (3, .int l3)] → wl_X1_begin_12 jnS jnV joi jmW Q  n jdE l3 → W p l e (headSpec wsX1_begin ({ frames := 1, cells := 0, slots := 0, locals := 40 })).room s m args below meth c H locs 0 0 (MQ below (va_Qv (fun (u : (Nat → Int32)) => Q u) (cB (dC, dI) (kT cyB cyI cyJ cyP) A (fun u : (Nat → Int32) => ((wd01_56 a0 jch jcD a1 a2 jch cyI u a1 jov jow jlD jlE jnd jmh jmO jlF jnY jnS jlf jlG jmO cyI jnV jnd cyI joi jmh cyI jmW) : va_W))) A) args s 0 0 A) (F0 m 12 ls []) := by
  obtain ⟨hx, hb, hr, hts, hown, hlocks, hml, hA, hK, hNw⟩ := id C0
  intro n
  induction n with
  | zero => intro H locs ls jdE l3 hP hD hS hl hw; exact False.elim hw
  | succ n ih =>
    intro H locs ls jdE l3 hP hD hS hl hw
    refine lv_iload_n hx hb (dt_of tkX1_begin_k0 8 rfl) rfl (lv_at hl 2 rfl) ?_
    refine lv_bipush (v := 64) hx hb (dt_of tkX1_begin_k0 9 rfl) (by decide) ?_
    refine lv_icmp_ge (tgt := 31) hx hb (dt_of tkX1_begin_k0 10 rfl) (by decide) (fun c1 => ?_) (fun c1 => ?_)
    · have hw := hw.1 c1
      refine lv_aload_n hx hb (dt_of tkX1_begin_k25 2 rfl) rfl (lv_at hl 0 rfl) ?_
      refine va_get (D := (dC, dI)) (ci := 1) (v := .ref jch) (C := RX1) (T := TX1) (N := 4) hx hb hts ui_X1_begin_X1 hown hK hP 0 rfl rfl 0 (by decide) (hts _ uw_X1_begin_f13) (fun _ h9 => h9) rfl (dt_of tkX1_begin_k25 3 rfl) ?_
      refine lv_iconst (v := 0) hx hb (dt_of tkX1_begin_k25 4 rfl) (by decide) ?_
      refine lv_iconst (v := 1) hx hb (dt_of tkX1_begin_k25 5 rfl) (by decide) ?_
      refine va_iast hx hb hK hP hD hS 1 1 rfl rfl (vin (by decide)) (dt_of tkX1_begin_k25 6 rfl) (fun H locs hP hD hS => ?_)
      obtain ⟨f2, ef2⟩ : ∃ y : Nat → Int32, y = upd jdE (0 : Int32).toNatClampNeg 1 := ⟨_, rfl⟩
      have hw := hw f2 ef2
      have hP : va_P (dC, dI) vwCl (wd01_56 a0 jch jcD a1 a2 jch cyI f2 a1 jov jow jlD jlE jnd jmh jmO jlF jnY jnS jlf jlG jmO cyI jnV jnd cyI joi jmh cyI jmW) H := by rw [ef2]; exact hP
      have hD : va_D A (wd01_56 a0 jch jcD a1 a2 jch cyI f2 a1 jov jow jlD jlE jnd jmh jmO jlF jnY jnS jlf jlG jmO cyI jnV jnd cyI joi jmh cyI jmW) := by rw [ef2]; exact hD
      refine lv_iconst (v := 0) hx hb (dt_of tkX1_begin_k25 7 rfl) (by decide) ?_
      refine lv_istore_n (lv' := [(3, .int 0), (0, .ref a0), (1, .ref a1)]) hx hb (dt_of tkX1_begin_k25 8 rfl) rfl hl (by decide) rfl (fun ls hl => ?_)
      obtain ⟨n9, hw⟩ := hw
      exact kl_X1_begin_40 dC dI cyB cyI cyJ cyP a0 a1 a2 jch jmO jnd jmh jcD jpf jo9 jov jow jlD jlE jlF jnY jlf jlG jnS jnV joi jmW Q  C0 n9 _ _ _ f2 0 hP hD hS (lv_sub hl [1, 2, 0] rfl) hw
    · have hw := hw.2 c1
      refine lv_aload_n hx hb (dt_of tkX1_begin_k0 11 rfl) rfl (lv_at hl 0 rfl) ?_
      refine va_get (D := (dC, dI)) (ci := 1) (v := .ref jch) (C := RX1) (T := TX1) (N := 4) hx hb hts ui_X1_begin_X1 hown hK hP 0 rfl rfl 0 (by decide) (hts _ uw_X1_begin_f13) (fun _ h9 => h9) rfl (dt_of tkX1_begin_k0 12 rfl) ?_
      refine lv_iload_n hx hb (dt_of tkX1_begin_k0 13 rfl) rfl (lv_at hl 2 rfl) ?_
      refine lv_iconst (v := 0) hx hb (dt_of tkX1_begin_k0 14 rfl) (by decide) ?_
      obtain ⟨hi9, hw⟩ := hw
      refine va_iast hx hb hK hP hD hS 1 1 rfl rfl hi9 (dt_of tkX1_begin_k0 15 rfl) (fun H locs hP hD hS => ?_)
      obtain ⟨f3, ef3⟩ : ∃ y : Nat → Int32, y = upd jdE l3.toNatClampNeg 0 := ⟨_, rfl⟩
      have hw := hw f3 ef3
      have hP : va_P (dC, dI) vwCl (wd01_56 a0 jch jcD a1 a2 jch cyI f3 a1 jov jow jlD jlE jnd jmh jmO jlF jnY jnS jlf jlG jmO cyI jnV jnd cyI joi jmh cyI jmW) H := by rw [ef3]; exact hP
      have hD : va_D A (wd01_56 a0 jch jcD a1 a2 jch cyI f3 a1 jov jow jlD jlE jnd jmh jmO jlF jnY jnS jlf jlG jmO cyI jnV jnd cyI joi jmh cyI jmW) := by rw [ef3]; exact hD
      obtain ⟨x4, ex4⟩ : ∃ y : Int32, y = l3 + 1 := ⟨_, rfl⟩
      have hw := hw x4 ex4
      refine lv_iinc (v := x4) (lv' := [(3, .int x4), (0, .ref a0), (1, .ref a1)]) hx hb (dt_of tkX1_begin_k25 0 rfl) hl (k := 2) rfl (by rw [ex4]; rfl) (by decide) rfl (fun ls hl => ?_)
      refine lv_goto (tgt := 12) hx hb (dt_of tkX1_begin_k25 1 rfl) (by decide) ?_
      exact ih _ _ _ f3 x4 hP hD hS (lv_sub hl [1, 2, 0] rfl) hw
set_option maxHeartbeats 4000000 in
set_option maxRecDepth 100000 in
theorem ck_X1_begin (l : Launch) (dC : Nat → ClassId) (dI : Nat → Nat → Nat) (cyB cyI cyJ cyP : ClassId) (a0 a1 a2 jch jmO jnd jmh sz : Nat) (jcD jpf jo9 jov jow jlD jlE jlF jnY jlf jlG : Value) (jnS : Int32) (jnV joi jmW jdE : Nat → Int32)  {Q : (Nat → Int32) → Prop} (hw : wq_X1_begin jnS jnV joi jmW jdE  Q) : Met l yX1_begin wsX1_begin ({ frames := 1, cells := 0, slots := 0, locals := 40 }) (va_Pc [.ref a0, .ref a1, .ref a2] (cPc (dC, dI) (kT cyB cyI cyJ cyP) (wd01_57 a0 jch jcD jpf jo9 jch cyI jdE a1 jov jow jlD jlE jnd jmh jmO jlF jnY jnS jlf jlG jmO cyI jnV jnd cyI joi jmh cyI jmW) sz)) (va_Qv (fun (u : (Nat → Int32)) => Q u) (cB (dC, dI) (kT cyB cyI cyJ cyP) (va_A (wd01_57 a0 jch jcD jpf jo9 jch cyI jdE a1 jov jow jlD jlE jnd jmh jmO jlF jnY jnS jlf jlG jmO cyI jnV jnd cyI joi jmh cyI jmW) sz) (fun u : (Nat → Int32) => ((wd01_56 a0 jch jcD a1 a2 jch cyI u a1 jov jow jlD jlE jnd jmh jmO jlF jnY jnS jlf jlG jmO cyI jnV jnd cyI joi jmh cyI jmW) : va_W))) (va_A (wd01_57 a0 jch jcD jpf jo9 jch cyI jdE a1 jov jow jlD jlE jnd jmh jmO jlF jnY jnS jlf jlG jmO cyI jnV jnd cyI joi jmh cyI jmW) sz)) 0 0 (va_A (wd01_57 a0 jch jcD jpf jo9 jch cyI jdE a1 jov jow jlD jlE jnd jmh jmO jlF jnY jnS jlf jlG jmO cyI jnV jnd cyI joi jmh cyI jmW) sz) := by
  refine Met.ofW (cc := cX1_begin) (maxL := 4) (ret := none) (by decide) rfl ?_
  intro p e s m args below meth c s₁ B hml hv
  obtain ⟨rfl, hsz, hP, hK, hD0, hNw⟩ := hv
  have hx := B.exec
  have hb := B.bytes
  have hr := B.returns
  have hts := atoms_spec (ws := wsX1_begin) B.pre
  have hown : s.vm.findClass RX1 = some m.cls := findClass_of_methodNamed B.named
  have hlocks := B.notSynchronized
  subst hsz
  have hD := hD0.self (sz := s.heap.size)
  generalize hAe : va_A (wd01_57 a0 jch jcD jpf jo9 jch cyI jdE a1 jov jow jlD jlE jnd jmh jmO jlF jnY jnS jlf jlG jmO cyI jnV jnd cyI joi jmh cyI jmW) s.heap.size = A at hD ⊢
  have hA : ∀ q : Nat, s.heap.size ≤ q → A q := fun q h => by rw [← hAe]; exact Or.inr h
  have hS : va_S A s.heap s.heap [] := va_S.rf
  have hP : va_P (dC, dI) vwCl (wd01_57 a0 jch jcD jpf jo9 jch cyI jdE a1 jov jow jlD jlE jnd jmh jmO jlF jnY jnS jlf jlG jmO cyI jnV jnd cyI joi jmh cyI jmW) s.heap := hP
  have hl := lv_entry ([.ref a0, .ref a1, .ref a2]) (n := 4) (Nat.le_of_ble_eq_true rfl)
  rw [lg_entry_eq]
  generalize (lg_sl ([.ref a0, .ref a1, .ref a2]) ++ List.replicate (4 - (lg_sl ([.ref a0, .ref a1, .ref a2])).length) Slot.unset).toArray = ls at hl ⊢
  have hl : lv_has ls 4 [(0, .ref a0), (1, .ref a1), (2, .ref a2)] := hl
  have C0 : cfx p s m _ meth c cX1_begin none wsX1_begin RX1 4 A (dC, dI) (kT cyB cyI cyJ cyP) := ⟨hx, hb, hr, hts, hown, hlocks, hml, hA, hK, hNw⟩
  clear hAe
  obtain ⟨H, hH⟩ : ∃ H, H = s.heap := ⟨_, rfl⟩
  rw [← hH] at hP ⊢
  have hS : va_S A s.heap H [] := by rw [hH]; exact va_S.rf
  have hS := hS
  refine lv_aload_n hx hb (dt_of tkX1_begin_k0 0 rfl) rfl (lv_at hl 0 rfl) ?_
  refine lv_aload_n hx hb (dt_of tkX1_begin_k0 1 rfl) rfl (lv_at hl 1 rfl) ?_
  refine va_put (D := (dC, dI)) (ci := 1) (v := .ref a1) (ty := .object "MarchHares$Down") (C := RX1) (T := TX1) (N := 4) hx hb hts ui_X1_begin_X1 tyX1 tyX1_ok nmX1 hown hK hP hD hS 0 rfl rfl 2 (by decide) (hts _ uw_X1_begin_f24) (fun _ h9 => h9) rfl (by decide +kernel) rfl rfl (Nat.le_of_ble_eq_true rfl) (dt_of tkX1_begin_k0 2 rfl) (fun H locs hP hD hS => ?_)
  have hP : va_P (dC, dI) vwCl (wd01_58 a0 jch jcD a1 jo9 jch cyI jdE a1 jov jow jlD jlE jnd jmh jmO jlF jnY jnS jlf jlG jmO cyI jnV jnd cyI joi jmh cyI jmW) H := hP
  have hD : va_D A (wd01_58 a0 jch jcD a1 jo9 jch cyI jdE a1 jov jow jlD jlE jnd jmh jmO jlF jnY jnS jlf jlG jmO cyI jnV jnd cyI joi jmh cyI jmW) := hD
  refine lv_aload_n hx hb (dt_of tkX1_begin_k0 3 rfl) rfl (lv_at hl 0 rfl) ?_
  refine lv_aload_n hx hb (dt_of tkX1_begin_k0 4 rfl) rfl (lv_at hl 2 rfl) ?_
  refine va_put (D := (dC, dI)) (ci := 1) (v := .ref a2) (ty := .object "MarchHares$Law") (C := RX1) (T := TX1) (N := 4) hx hb hts ui_X1_begin_X1 tyX1 tyX1_ok nmX1 hown hK hP hD hS 0 rfl rfl 3 (by decide) (hts _ uw_X1_begin_f28) (fun _ h9 => h9) rfl (by decide +kernel) rfl rfl (Nat.le_of_ble_eq_true rfl) (dt_of tkX1_begin_k0 5 rfl) (fun H locs hP hD hS => ?_)
  have hP : va_P (dC, dI) vwCl (wd01_56 a0 jch jcD a1 a2 jch cyI jdE a1 jov jow jlD jlE jnd jmh jmO jlF jnY jnS jlf jlG jmO cyI jnV jnd cyI joi jmh cyI jmW) H := hP
  have hD : va_D A (wd01_56 a0 jch jcD a1 a2 jch cyI jdE a1 jov jow jlD jlE jnd jmh jmO jlF jnY jnS jlf jlG jmO cyI jnV jnd cyI joi jmh cyI jmW) := hD
  refine lv_iconst (v := 0) hx hb (dt_of tkX1_begin_k0 6 rfl) (by decide) ?_
  refine lv_istore_n (lv' := [(3, .int 0), (0, .ref a0), (1, .ref a1), (2, .ref a2)]) hx hb (dt_of tkX1_begin_k0 7 rfl) rfl hl (by decide) rfl (fun ls hl => ?_)
  obtain ⟨n9, hw⟩ := hw
  exact kl_X1_begin_12 dC dI cyB cyI cyJ cyP a0 a1 a2 jch jmO jnd jmh jcD jpf jo9 jov jow jlD jlE jlF jnY jlf jlG jnS jnV joi jmW Q  C0 n9 _ _ _ jdE 0 hP hD hS (lv_sub hl [1, 2, 0] rfl) hw
