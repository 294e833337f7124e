/-- worlds by their leaves -/
def wd02_0 (x0 : Nat) (x1 : Value) (x2 : Nat) (x3 x4 x5 x6 x7 x8 x9 x10 x11 x12 x13 x14 x15 x16 x17 : Value) (x18 : Int32) (x19 : Value) (x20 x21 x22 : Nat) (x23 x24 x25 x26 x27 x28 : Value) (x29 : Int32) (x30 x31 x32 : Value) (x33 : Nat) (x34 : ClassId) (x35 : Nat → Int32) (x36 : Nat) (x37 : ClassId) (x38 : Nat → Int32) : va_W := [(x0, .inr (10, [x1, .ref x2, x3, x4, x5, x6, x7, x8, x9, x10, x11, x12, x13, x14, x15, x16, x17, .int x18, x19])), (x20, .inr (2, [.ref x21, .ref x22, x23, x24, x25, x26, x27, x28, .int x29, x30, x31, x32])), (x33, .inl (x34, 8, .inl x35)), (x36, .inl (x37, 8, .inl x38))]
def wd02_1 (x0 : Nat) (x1 : Value) (x2 : Nat) (x3 x4 x5 x6 x7 x8 x9 x10 x11 x12 x13 x14 x15 x16 x17 : Value) (x18 : Int32) (x19 : Value) (x20 x21 x22 : Nat) (x23 x24 x25 x26 x27 x28 : Value) (x29 : Int32) (x30 x31 x32 : Value) : va_W := [(x0, .inr (10, [x1, .ref x2, x3, x4, x5, x6, x7, x8, x9, x10, x11, x12, x13, x14, x15, x16, x17, .int x18, x19])), (x20, .inr (2, [.ref x21, .ref x22, x23, x24, x25, x26, x27, x28, .int x29, x30, x31, x32]))]
def wd02_2 (x0 : Nat) (x1 : ClassId) (x2 : Nat → Int32) (x3 : Nat) (x4 : ClassId) (x5 : Nat → Int32) : va_W := [(x0, .inl (x1, 8, .inl x2)), (x3, .inl (x4, 8, .inl x5))]
def wd02_3 (x0 x1 x2 : Nat) (x3 x4 x5 x6 x7 x8 : Value) (x9 : Int32) (x10 x11 x12 : Value) (x13 : Nat) (x14 : ClassId) (x15 : Nat → Int32) (x16 : Nat) (x17 : ClassId) (x18 : Nat → Int32) : va_W := [(x0, .inr (2, [.ref x1, .ref x2, x3, x4, x5, x6, x7, x8, .int x9, x10, x11, x12])), (x13, .inl (x14, 8, .inl x15)), (x16, .inl (x17, 8, .inl x18))]
def wd02_4 (x0 : Nat) (x1 : Value) (x2 : Nat) (x3 x4 x5 x6 x7 x8 x9 x10 x11 x12 x13 x14 x15 x16 x17 : Value) (x18 : Int32) (x19 : Value) (x20 x21 x22 : Nat) (x23 x24 x25 x26 x27 x28 : Value) (x29 : Int32) (x30 x31 x32 : Value) (x33 : Nat) (x34 : ClassId) (x35 : Nat → Int32) (x36 : Nat) (x37 : ClassId) (x38 : Nat → Int32) (x39 : Nat) (x40 : ClassId) (x41 : Nat) (x42 : Nat → Int64) : va_W := [(x0, .inr (10, [x1, .ref x2, x3, x4, x5, x6, x7, x8, x9, x10, x11, x12, x13, x14, x15, x16, x17, .int x18, x19])), (x20, .inr (2, [.ref x21, .ref x22, x23, x24, x25, x26, x27, x28, .int x29, x30, x31, x32])), (x33, .inl (x34, 8, .inl x35)), (x36, .inl (x37, 8, .inl x38)), (x39, .inl (x40, x41, .inr (.inl x42)))]
def wd02_5 (x0 : Nat) (x1 x2 x3 x4 x5 x6 x7 x8 x9 x10 x11 x12 x13 x14 x15 x16 x17 x18 : Value) (x19 : Int32) : va_W := [(x0, .inr (10, [x1, x2, x3, x4, x5, x6, x7, x8, x9, x10, x11, x12, x13, x14, x15, x16, x17, x18, .int x19]))]
def wd02_6 (x0 : Nat) (x1 x2 x3 x4 x5 x6 x7 x8 x9 x10 x11 x12 x13 x14 x15 x16 x17 x18 : Value) (x19 : Int32) (x20 : Nat) (x21 : ClassId) (x22 : Nat) (x23 : Nat → Int64) : va_W := [(x0, .inr (10, [x1, x2, x3, x4, x5, x6, x7, x8, x9, x10, x11, x12, x13, x14, x15, x16, x17, x18, .int x19])), (x20, .inl (x21, x22, .inr (.inl x23)))]
def wd02_7 (x0 x1 x2 : Nat) (x3 x4 x5 x6 x7 x8 x9 x10 x11 : Value) (x12 : Nat) (x13 : ClassId) (x14 : Nat → Int32) (x15 : Nat) (x16 : ClassId) (x17 : Nat → Int32) : va_W := [(x0, .inr (3, [.ref x1, .ref x2, x3, x4, x5, x6, x7, x8, x9, x10, x11])), (x12, .inl (x13, 8, .inl x14)), (x15, .inl (x16, 6, .inl x17))]
def wd02_8 (x0 x1 : Nat) (x2 : Value) (x3 : Nat) (x4 : ClassId) (x5 : Nat → Int32) : va_W := [(x0, .inr (0, [.ref x1, x2])), (x3, .inl (x4, 8, .inl x5))]
def wd02_9 (x0 x1 x2 : Nat) (x3 x4 x5 : Value) (x6 : Int32) (x7 : Nat) (x8 x9 x10 x11 : Value) (x12 : Nat) (x13 : ClassId) (x14 : Nat → Int32) (x15 : Nat) (x16 : ClassId) (x17 : Nat → Int32) (x18 x19 : Nat) (x20 : Value) (x21 : Nat) (x22 : ClassId) (x23 : Nat → Int32) : va_W := [(x0, .inr (3, [.ref x1, .ref x2, x3, x4, x5, .int x6, .ref x7, x8, x9, x10, x11])), (x12, .inl (x13, 8, .inl x14)), (x15, .inl (x16, 6, .inl x17)), (x18, .inr (0, [.ref x19, x20])), (x21, .inl (x22, 8, .inl x23))]
def wd02_10 (x0 x1 x2 : Nat) (x3 x4 x5 : Value) (x6 : Int32) (x7 : Nat) (x8 x9 x10 x11 : Value) (x12 : Nat) (x13 : ClassId) (x14 : Nat → Int32) (x15 : Nat) (x16 : ClassId) (x17 : Nat → Int32) : va_W := [(x0, .inr (3, [.ref x1, .ref x2, x3, x4, x5, .int x6, .ref x7, x8, x9, x10, x11])), (x12, .inl (x13, 8, .inl x14)), (x15, .inl (x16, 6, .inl x17))]
def wd02_11 (x0 x1 x2 : Nat) (x3 x4 x5 : Value) (x6 : Int32) (x7 : Nat) (x8 x9 : Int32) (x10 x11 : Value) (x12 : Nat) (x13 : ClassId) (x14 : Nat → Int32) (x15 : Nat) (x16 : ClassId) (x17 : Nat → Int32) (x18 x19 : Nat) (x20 : Value) (x21 : Nat) (x22 : ClassId) (x23 : Nat → Int32) : va_W := [(x0, .inr (3, [.ref x1, .ref x2, x3, x4, x5, .int x6, .ref x7, .int x8, .int x9, x10, x11])), (x12, .inl (x13, 8, .inl x14)), (x15, .inl (x16, 6, .inl x17)), (x18, .inr (0, [.ref x19, x20])), (x21, .inl (x22, 8, .inl x23))]
def wd02_12 (x0 x1 x2 x3 : Nat) (x4 : Value) (x5 x6 : Int32) (x7 : Nat) (x8 x9 : Int32) (x10 x11 : Value) (x12 x13 : Nat) (x14 : Value) (x15 : Nat) (x16 : Value) (x17 : Nat) (x18 x19 x20 x21 x22 x23 x24 x25 : Value) (x26 x27 : Int32) (x28 x29 : Value) (x30 : Nat) (x31 : ClassId) (x32 : Nat → Int32) (x33 : Nat) (x34 : ClassId) (x35 : Nat → Int32) (x36 : Nat) (x37 : ClassId) (x38 : Nat → Int32) (x39 x40 : Nat) (x41 : Value) (x42 : Nat) (x43 : ClassId) (x44 : Nat → Int32) (x45 : Nat) (x46 : ClassId) (x47 : Nat → Int32) : va_W := [(x0, .inr (3, [.ref x1, .ref x2, .ref x3, x4, .int x5, .int x6, .ref x7, .int x8, .int x9, x10, x11])), (x12, .inr (1, [.ref x13, x14, .ref x15, x16])), (x17, .inr (2, [x18, x19, x20, x21, x22, x23, x24, x25, .int x26, .int x27, x28, x29])), (x30, .inl (x31, 64, .inl x32)), (x33, .inl (x34, 8, .inl x35)), (x36, .inl (x37, 6, .inl x38)), (x39, .inr (0, [.ref x40, x41])), (x42, .inl (x43, 8, .inl x44)), (x45, .inl (x46, 6, .inl x47))]
def wd02_13 (x0 x1 : Nat) (x2 : Value) (x3 : Nat) (x4 : Value) (x5 : Nat) (x6 : ClassId) (x7 : Nat → Int32) : va_W := [(x0, .inr (1, [.ref x1, x2, .ref x3, x4])), (x5, .inl (x6, 64, .inl x7))]
def wd02_14 (x0 x1 x2 x3 : Nat) (x4 : Value) (x5 x6 : Int32) (x7 : Nat) (x8 x9 : Int32) (x10 x11 : Value) (x12 : Nat) (x13 x14 x15 x16 x17 x18 x19 x20 : Value) (x21 x22 : Int32) (x23 x24 : Value) (x25 : Nat) (x26 : ClassId) (x27 : Nat → Int32) (x28 : Nat) (x29 : ClassId) (x30 : Nat → Int32) (x31 x32 : Nat) (x33 : Value) (x34 : Nat) (x35 : ClassId) (x36 : Nat → Int32) (x37 : Nat) (x38 : ClassId) (x39 : Nat → Int32) : va_W := [(x0, .inr (3, [.ref x1, .ref x2, .ref x3, x4, .int x5, .int x6, .ref x7, .int x8, .int x9, x10, x11])), (x12, .inr (2, [x13, x14, x15, x16, x17, x18, x19, x20, .int x21, .int x22, x23, x24])), (x25, .inl (x26, 8, .inl x27)), (x28, .inl (x29, 6, .inl x30)), (x31, .inr (0, [.ref x32, x33])), (x34, .inl (x35, 8, .inl x36)), (x37, .inl (x38, 6, .inl x39))]
def wd02_15 (x0 x1 x2 x3 : Nat) (x4 : Value) (x5 x6 : Int32) (x7 : Nat) (x8 x9 : Int32) (x10 x11 : Value) (x12 : Nat) (x13 : ClassId) (x14 : Nat → Int32) (x15 : Nat) (x16 : ClassId) (x17 : Nat → Int32) (x18 x19 : Nat) (x20 : Value) (x21 : Nat) (x22 : ClassId) (x23 : Nat → Int32) : va_W := [(x0, .inr (3, [.ref x1, .ref x2, .ref x3, x4, .int x5, .int x6, .ref x7, .int x8, .int x9, x10, x11])), (x12, .inl (x13, 8, .inl x14)), (x15, .inl (x16, 6, .inl x17)), (x18, .inr (0, [.ref x19, x20])), (x21, .inl (x22, 8, .inl x23))]
def wd02_16 (x0 x1 : Nat) (x2 : Value) (x3 : Nat) (x4 : Value) (x5 : Nat) (x6 x7 x8 x9 x10 x11 x12 x13 : Value) (x14 x15 : Int32) (x16 x17 : Value) (x18 : Nat) (x19 : ClassId) (x20 : Nat → Int32) : va_W := [(x0, .inr (1, [.ref x1, x2, .ref x3, x4])), (x5, .inr (2, [x6, x7, x8, x9, x10, x11, x12, x13, .int x14, .int x15, x16, x17])), (x18, .inl (x19, 64, .inl x20))]
def wd02_17 (x0 x1 x2 x3 : Nat) (x4 : Value) (x5 x6 : Int32) (x7 : Value) (x8 x9 : Int32) (x10 x11 : Value) (x12 x13 : Nat) (x14 : Value) (x15 : Nat) (x16 : Value) (x17 : Nat) (x18 x19 x20 x21 x22 x23 x24 x25 : Value) (x26 x27 : Int32) (x28 x29 : Value) (x30 : Nat) (x31 : ClassId) (x32 : Nat → Int32) (x33 : Nat) (x34 : ClassId) (x35 : Nat → Int32) (x36 : Nat) (x37 : ClassId) (x38 : Nat → Int32) (x39 x40 : Nat) (x41 : Value) (x42 : Nat) (x43 : ClassId) (x44 : Nat → Int32) (x45 : Nat) (x46 : ClassId) (x47 : Nat → Int32) : va_W := [(x0, .inr (3, [.ref x1, .ref x2, .ref x3, x4, .int x5, .int x6, x7, .int x8, .int x9, x10, x11])), (x12, .inr (1, [.ref x13, x14, .ref x15, x16])), (x17, .inr (2, [x18, x19, x20, x21, x22, x23, x24, x25, .int x26, .int x27, x28, x29])), (x30, .inl (x31, 64, .inl x32)), (x33, .inl (x34, 8, .inl x35)), (x36, .inl (x37, 6, .inl x38)), (x39, .inr (0, [.ref x40, x41])), (x42, .inl (x43, 8, .inl x44)), (x45, .inl (x46, 6, .inl x47))]
def wd02_18 (x0 : Nat) (x1 x2 x3 x4 x5 : Value) (x6 : Nat) (x7 x8 : Value) (x9 : Nat) (x10 x11 x12 x13 x14 : Value) (x15 : Nat) (x16 x17 x18 : Value) (x19 : Int32) (x20 x21 x22 x23 : Nat) (x24 : Value) (x25 x26 : Int32) (x27 : Value) (x28 x29 : Int32) (x30 x31 : Value) (x32 x33 : Nat) (x34 : Value) (x35 : Nat) (x36 : Value) (x37 : Nat) (x38 x39 x40 x41 x42 x43 x44 x45 : Value) (x46 x47 : Int32) (x48 x49 : Value) (x50 : Nat) (x51 : ClassId) (x52 : Nat → Int32) (x53 : Nat) (x54 : ClassId) (x55 : Nat → Int32) (x56 : Nat) (x57 : ClassId) (x58 : Nat → Int32) (x59 x60 : Nat) (x61 : Value) (x62 : Nat) (x63 : ClassId) (x64 : Nat → Int32) (x65 : Nat) (x66 : ClassId) (x67 : Nat → Int32) : va_W := [(x0, .inr (10, [x1, x2, x3, x4, x5, .ref x6, x7, x8, .ref x9, x10, x11, x12, x13, x14, .ref x15, x16, x17, x18, .int x19])), (x20, .inr (3, [.ref x21, .ref x22, .ref x23, x24, .int x25, .int x26, x27, .int x28, .int x29, x30, x31])), (x32, .inr (1, [.ref x33, x34, .ref x35, x36])), (x37, .inr (2, [x38, x39, x40, x41, x42, x43, x44, x45, .int x46, .int x47, x48, x49])), (x50, .inl (x51, 64, .inl x52)), (x53, .inl (x54, 8, .inl x55)), (x56, .inl (x57, 6, .inl x58)), (x59, .inr (0, [.ref x60, x61])), (x62, .inl (x63, 8, .inl x64)), (x65, .inl (x66, 6, .inl x67))]
def wd02_19 (x0 : Nat) (x1 x2 x3 x4 x5 : Value) (x6 : Nat) (x7 x8 : Value) (x9 : Nat) (x10 x11 x12 x13 x14 : Value) (x15 : Nat) (x16 x17 x18 : Value) (x19 : Int32) : va_W := [(x0, .inr (10, [x1, x2, x3, x4, x5, .ref x6, x7, x8, .ref x9, x10, x11, x12, x13, x14, .ref x15, x16, x17, x18, .int x19]))]
def wd02_20 (x0 : Nat) (x1 x2 x3 x4 x5 : Value) (x6 : Nat) (x7 x8 : Value) (x9 : Nat) (x10 x11 x12 x13 x14 : Value) (x15 : Nat) (x16 x17 x18 : Value) (x19 : Int32) (x20 x21 x22 x23 : Nat) (x24 : Value) (x25 x26 : Int32) (x27 : Nat) (x28 x29 : Int32) (x30 x31 : Value) (x32 x33 : Nat) (x34 : Value) (x35 : Nat) (x36 : Value) (x37 : Nat) (x38 x39 x40 x41 x42 x43 x44 x45 : Value) (x46 x47 : Int32) (x48 x49 : Value) (x50 : Nat) (x51 : ClassId) (x52 : Nat → Int32) (x53 : Nat) (x54 : ClassId) (x55 : Nat → Int32) (x56 : Nat) (x57 : ClassId) (x58 : Nat → Int32) (x59 x60 : Nat) (x61 : Value) (x62 : Nat) (x63 : ClassId) (x64 : Nat → Int32) (x65 : Nat) (x66 : ClassId) (x67 : Nat → Int32) : va_W := [(x0, .inr (10, [x1, x2, x3, x4, x5, .ref x6, x7, x8, .ref x9, x10, x11, x12, x13, x14, .ref x15, x16, x17, x18, .int x19])), (x20, .inr (3, [.ref x21, .ref x22, .ref x23, x24, .int x25, .int x26, .ref x27, .int x28, .int x29, x30, x31])), (x32, .inr (1, [.ref x33, x34, .ref x35, x36])), (x37, .inr (2, [x38, x39, x40, x41, x42, x43, x44, x45, .int x46, .int x47, x48, x49])), (x50, .inl (x51, 64, .inl x52)), (x53, .inl (x54, 8, .inl x55)), (x56, .inl (x57, 6, .inl x58)), (x59, .inr (0, [.ref x60, x61])), (x62, .inl (x63, 8, .inl x64)), (x65, .inl (x66, 6, .inl x67))]
def wd02_21 (x0 : Nat) (x1 : Value) (x2 : Nat) (x3 x4 x5 : Value) (x6 : Nat) (x7 x8 : Value) (x9 : Nat) (x10 x11 x12 x13 x14 : Value) (x15 : Nat) (x16 x17 x18 : Value) (x19 : Int32) (x20 x21 x22 x23 : Nat) (x24 : Value) (x25 x26 : Int32) (x27 : Value) (x28 x29 : Int32) (x30 x31 : Value) (x32 x33 : Nat) (x34 : Value) (x35 : Nat) (x36 : Value) (x37 : Nat) (x38 x39 x40 x41 x42 x43 x44 x45 : Value) (x46 x47 : Int32) (x48 x49 : Value) (x50 : Nat) (x51 : ClassId) (x52 : Nat → Int32) (x53 : Nat) (x54 : ClassId) (x55 : Nat → Int32) (x56 : Nat) (x57 : ClassId) (x58 : Nat → Int32) (x59 x60 : Nat) (x61 : Value) (x62 : Nat) (x63 : ClassId) (x64 : Nat → Int32) (x65 : Nat) (x66 : ClassId) (x67 : Nat → Int32) (x68 : Nat) (x69 : ClassId) (x70 : Nat) (x71 : Nat → Int64) : va_W := [(x0, .inr (10, [x1, .ref x2, x3, x4, x5, .ref x6, x7, x8, .ref x9, x10, x11, x12, x13, x14, .ref x15, x16, x17, x18, .int x19])), (x20, .inr (3, [.ref x21, .ref x22, .ref x23, x24, .int x25, .int x26, x27, .int x28, .int x29, x30, x31])), (x32, .inr (1, [.ref x33, x34, .ref x35, x36])), (x37, .inr (2, [x38, x39, x40, x41, x42, x43, x44, x45, .int x46, .int x47, x48, x49])), (x50, .inl (x51, 64, .inl x52)), (x53, .inl (x54, 8, .inl x55)), (x56, .inl (x57, 6, .inl x58)), (x59, .inr (0, [.ref x60, x61])), (x62, .inl (x63, 8, .inl x64)), (x65, .inl (x66, 6, .inl x67)), (x68, .inl (x69, x70, .inr (.inl x71)))]
def wd02_22 (x0 : Nat) (x1 : Value) (x2 : Nat) (x3 x4 x5 : Value) (x6 : Nat) (x7 x8 : Value) (x9 : Nat) (x10 x11 x12 x13 x14 : Value) (x15 : Nat) (x16 x17 x18 : Value) (x19 : Int32) (x20 x21 x22 x23 : Nat) (x24 : Value) (x25 x26 : Int32) (x27 : Value) (x28 x29 : Int32) (x30 x31 : Value) (x32 x33 : Nat) (x34 : Value) (x35 : Nat) (x36 : Value) (x37 : Nat) (x38 x39 x40 x41 x42 x43 x44 x45 : Value) (x46 x47 : Int32) (x48 x49 : Value) (x50 : Nat) (x51 : ClassId) (x52 : Nat → Int32) (x53 : Nat) (x54 : ClassId) (x55 : Nat → Int32) (x56 : Nat) (x57 : ClassId) (x58 : Nat → Int32) (x59 x60 : Nat) (x61 : Value) (x62 : Nat) (x63 : ClassId) (x64 : Nat → Int32) (x65 : Nat) (x66 : ClassId) (x67 : Nat → Int32) : va_W := [(x0, .inr (10, [x1, .ref x2, x3, x4, x5, .ref x6, x7, x8, .ref x9, x10, x11, x12, x13, x14, .ref x15, x16, x17, x18, .int x19])), (x20, .inr (3, [.ref x21, .ref x22, .ref x23, x24, .int x25, .int x26, x27, .int x28, .int x29, x30, x31])), (x32, .inr (1, [.ref x33, x34, .ref x35, x36])), (x37, .inr (2, [x38, x39, x40, x41, x42, x43, x44, x45, .int x46, .int x47, x48, x49])), (x50, .inl (x51, 64, .inl x52)), (x53, .inl (x54, 8, .inl x55)), (x56, .inl (x57, 6, .inl x58)), (x59, .inr (0, [.ref x60, x61])), (x62, .inl (x63, 8, .inl x64)), (x65, .inl (x66, 6, .inl x67))]
def wd02_23 (x0 : Nat) (x1 : Value) (x2 : Nat) (x3 x4 x5 x6 x7 x8 : Value) (x9 : Nat) (x10 x11 x12 x13 x14 x15 x16 x17 : Value) (x18 x19 : Int32) (x20 x21 x22 : Nat) (x23 x24 x25 x26 x27 x28 : Value) (x29 x30 : Int32) (x31 : Value) (x32 : Int32) (x33 x34 : Nat) (x35 : Value) (x36 : Nat) (x37 : Value) (x38 : Nat) (x39 : ClassId) (x40 : Nat → Int32) (x41 : Nat) (x42 : ClassId) (x43 : Nat → Int32) (x44 : Nat) (x45 : ClassId) (x46 : Nat → Int32) : va_W := [(x0, .inr (10, [x1, .ref x2, x3, x4, x5, x6, x7, x8, .ref x9, x10, x11, x12, x13, x14, x15, x16, x17, .int x18, .int x19])), (x20, .inr (2, [.ref x21, .ref x22, x23, x24, x25, x26, x27, x28, .int x29, .int x30, x31, .int x32])), (x33, .inr (1, [.ref x34, x35, .ref x36, x37])), (x38, .inl (x39, 64, .inl x40)), (x41, .inl (x42, 8, .inl x43)), (x44, .inl (x45, 8, .inl x46))]
def wd02_24 (x0 : Nat) (x1 : Value) (x2 : Nat) (x3 x4 x5 x6 x7 x8 : Value) (x9 : Nat) (x10 x11 x12 x13 x14 x15 x16 x17 : Value) (x18 x19 : Int32) (x20 x21 x22 : Nat) (x23 x24 x25 x26 x27 x28 : Value) (x29 x30 : Int32) (x31 : Value) (x32 : Int32) : va_W := [(x0, .inr (10, [x1, .ref x2, x3, x4, x5, x6, x7, x8, .ref x9, x10, x11, x12, x13, x14, x15, x16, x17, .int x18, .int x19])), (x20, .inr (2, [.ref x21, .ref x22, x23, x24, x25, x26, x27, x28, .int x29, .int x30, x31, .int x32]))]
def wd02_25 (x0 x1 : Nat) (x2 : Value) (x3 : Nat) (x4 : Value) (x5 : Nat) (x6 : ClassId) (x7 : Nat → Int32) (x8 : Nat) (x9 : ClassId) (x10 : Nat → Int32) (x11 : Nat) (x12 : ClassId) (x13 : Nat → Int32) : va_W := [(x0, .inr (1, [.ref x1, x2, .ref x3, x4])), (x5, .inl (x6, 64, .inl x7)), (x8, .inl (x9, 8, .inl x10)), (x11, .inl (x12, 8, .inl x13))]
def wd02_26 (x0 : Nat) (x1 : Value) (x2 : Nat) (x3 x4 x5 x6 x7 x8 : Value) (x9 : Nat) (x10 x11 x12 x13 x14 x15 x16 x17 : Value) (x18 x19 : Int32) : va_W := [(x0, .inr (10, [x1, .ref x2, x3, x4, x5, x6, x7, x8, .ref x9, x10, x11, x12, x13, x14, x15, x16, x17, .int x18, .int x19]))]
def wd02_27 (x0 x1 x2 : Nat) (x3 x4 x5 x6 x7 x8 : Value) (x9 x10 : Int32) (x11 : Value) (x12 : Int32) (x13 x14 : Nat) (x15 : Value) (x16 : Nat) (x17 : Value) (x18 : Nat) (x19 : ClassId) (x20 : Nat → Int32) (x21 : Nat) (x22 : ClassId) (x23 : Nat → Int32) (x24 : Nat) (x25 : ClassId) (x26 : Nat → Int32) : va_W := [(x0, .inr (2, [.ref x1, .ref x2, x3, x4, x5, x6, x7, x8, .int x9, .int x10, x11, .int x12])), (x13, .inr (1, [.ref x14, x15, .ref x16, x17])), (x18, .inl (x19, 64, .inl x20)), (x21, .inl (x22, 8, .inl x23)), (x24, .inl (x25, 8, .inl x26))]
def wd02_28 (x0 x1 : Nat) (x2 : Value) (x3 : Nat) (x4 : Value) (x5 x6 x7 : Nat) (x8 x9 x10 x11 x12 x13 : Value) (x14 x15 : Int32) (x16 : Value) (x17 : Int32) (x18 : Nat) (x19 : ClassId) (x20 : Nat → Int32) : va_W := [(x0, .inr (1, [.ref x1, x2, .ref x3, x4])), (x5, .inr (2, [.ref x6, .ref x7, x8, x9, x10, x11, x12, x13, .int x14, .int x15, x16, .int x17])), (x18, .inl (x19, 64, .inl x20))]
def wd02_29 (x0 x1 x2 : Nat) (x3 x4 x5 x6 x7 x8 : Value) (x9 x10 : Int32) (x11 : Value) (x12 : Int32) : va_W := [(x0, .inr (2, [.ref x1, .ref x2, x3, x4, x5, x6, x7, x8, .int x9, .int x10, x11, .int x12]))]
def wd02_30 (x0 : Nat) (x1 : Value) (x2 : Nat) (x3 x4 x5 x6 x7 x8 : Value) (x9 : Nat) (x10 x11 x12 x13 x14 x15 x16 x17 : Value) (x18 x19 : Int32) (x20 x21 x22 : Nat) (x23 x24 x25 x26 x27 x28 : Value) (x29 x30 : Int32) (x31 : Value) (x32 : Int32) (x33 x34 : Nat) (x35 : Value) (x36 : Nat) (x37 : Value) (x38 : Nat) (x39 : ClassId) (x40 : Nat → Int32) (x41 : Nat) (x42 : ClassId) (x43 : Nat → Int32) (x44 : Nat) (x45 : ClassId) (x46 : Nat → Int32) (x47 : Nat) (x48 : ClassId) (x49 : Nat) (x50 : Nat → Int64) : va_W := [(x0, .inr (10, [x1, .ref x2, x3, x4, x5, x6, x7, x8, .ref x9, x10, x11, x12, x13, x14, x15, x16, x17, .int x18, .int x19])), (x20, .inr (2, [.ref x21, .ref x22, x23, x24, x25, x26, x27, x28, .int x29, .int x30, x31, .int x32])), (x33, .inr (1, [.ref x34, x35, .ref x36, x37])), (x38, .inl (x39, 64, .inl x40)), (x41, .inl (x42, 8, .inl x43)), (x44, .inl (x45, 8, .inl x46)), (x47, .inl (x48, x49, .inr (.inl x50)))]
def wd02_31 (x0 : Nat) (x1 : Value) (x2 : Nat) (x3 x4 x5 x6 x7 x8 x9 x10 x11 x12 x13 x14 x15 x16 x17 : Value) (x18 x19 : Int32) (x20 : Nat) (x21 x22 : Value) (x23 x24 : Nat) (x25 x26 x27 x28 x29 x30 : Value) (x31 : Int32) (x32 : Value) (x33 : Nat) (x34 : ClassId) (x35 : Nat → Int32) (x36 : Nat) (x37 : ClassId) (x38 : Nat → Int32) : va_W := [(x0, .inr (10, [x1, .ref x2, x3, x4, x5, x6, x7, x8, x9, x10, x11, x12, x13, x14, x15, x16, x17, .int x18, .int x19])), (x20, .inr (2, [x21, x22, .ref x23, .ref x24, x25, x26, x27, x28, x29, x30, .int x31, x32])), (x33, .inl (x34, 4, .inl x35)), (x36, .inl (x37, 4, .inl x38))]
def wd02_32 (x0 : Nat) (x1 : Value) (x2 : Nat) (x3 x4 x5 x6 x7 x8 x9 x10 x11 x12 x13 x14 x15 x16 x17 : Value) (x18 x19 : Int32) : va_W := [(x0, .inr (10, [x1, .ref x2, x3, x4, x5, x6, x7, x8, x9, x10, x11, x12, x13, x14, x15, x16, x17, .int x18, .int x19]))]
def wd02_33 (x0 : Nat) (x1 x2 : Value) (x3 x4 : Nat) (x5 x6 x7 x8 x9 x10 : Value) (x11 : Int32) (x12 : Value) (x13 : Nat) (x14 : ClassId) (x15 : Nat → Int32) (x16 : Nat) (x17 : ClassId) (x18 : Nat → Int32) : va_W := [(x0, .inr (2, [x1, x2, .ref x3, .ref x4, x5, x6, x7, x8, x9, x10, .int x11, x12])), (x13, .inl (x14, 4, .inl x15)), (x16, .inl (x17, 4, .inl x18))]
def wd02_34 (x0 : Nat) (x1 : Value) (x2 : Nat) (x3 x4 x5 x6 x7 x8 x9 x10 x11 x12 x13 x14 x15 x16 x17 : Value) (x18 x19 : Int32) (x20 : Nat) (x21 x22 : Value) (x23 x24 : Nat) (x25 x26 x27 x28 x29 x30 : Value) (x31 : Int32) (x32 : Value) (x33 : Nat) (x34 : ClassId) (x35 : Nat → Int32) (x36 : Nat) (x37 : ClassId) (x38 : Nat → Int32) (x39 : Nat) (x40 : ClassId) (x41 : Nat) (x42 : Nat → Int64) : va_W := [(x0, .inr (10, [x1, .ref x2, x3, x4, x5, x6, x7, x8, x9, x10, x11, x12, x13, x14, x15, x16, x17, .int x18, .int x19])), (x20, .inr (2, [x21, x22, .ref x23, .ref x24, x25, x26, x27, x28, x29, x30, .int x31, x32])), (x33, .inl (x34, 4, .inl x35)), (x36, .inl (x37, 4, .inl x38)), (x39, .inl (x40, x41, .inr (.inl x42)))]
def wd02_35 (x0 : Nat) (x1 : Value) (x2 : Nat) (x3 x4 x5 x6 x7 x8 : Value) (x9 : Nat) (x10 x11 x12 x13 x14 x15 x16 x17 : Value) (x18 x19 : Int32) (x20 : Nat) (x21 x22 x23 x24 x25 : Value) (x26 : Nat) (x27 x28 x29 : Value) (x30 : Int32) (x31 x32 : Value) (x33 x34 : Nat) (x35 : Value) (x36 x37 x38 : Nat) (x39 : ClassId) (x40 : Nat → Int32) (x41 x42 x43 x44 x45 : Nat) (x46 : Int32) (x47 : Nat) (x48 : ClassId) (x49 : Nat → Int32) (x50 : Nat) (x51 : ClassId) (x52 : Nat → Int32) (x53 : Nat) (x54 : ClassId) (x55 : Nat → Int32) (x56 : Nat) (x57 : ClassId) (x58 : Nat → Int32) (x59 : Nat) (x60 : ClassId) (x61 : Nat → Int32) : va_W := [(x0, .inr (10, [x1, .ref x2, x3, x4, x5, x6, x7, x8, .ref x9, x10, x11, x12, x13, x14, x15, x16, x17, .int x18, .int x19])), (x20, .inr (2, [x21, x22, x23, x24, x25, .ref x26, x27, x28, x29, .int x30, x31, x32])), (x33, .inr (1, [.ref x34, x35, .ref x36, .ref x37])), (x38, .inl (x39, 64, .inl x40)), (x41, .inr (4, [.ref x42, .ref x43, .ref x44, .ref x45, .int x46])), (x47, .inl (x48, 8, .inl x49)), (x50, .inl (x51, 150, .inl x52)), (x53, .inl (x54, 150, .inl x55)), (x56, .inl (x57, 150, .inl x58)), (x59, .inl (x60, 6, .inl x61))]
def wd02_36 (x0 : Nat) (x1 : Value) (x2 : Nat) (x3 x4 x5 x6 x7 x8 : Value) (x9 : Nat) (x10 x11 x12 x13 x14 x15 x16 x17 : Value) (x18 x19 : Int32) (x20 : Nat) (x21 x22 x23 x24 x25 : Value) (x26 : Nat) (x27 x28 x29 : Value) (x30 : Int32) (x31 x32 : Value) : va_W := [(x0, .inr (10, [x1, .ref x2, x3, x4, x5, x6, x7, x8, .ref x9, x10, x11, x12, x13, x14, x15, x16, x17, .int x18, .int x19])), (x20, .inr (2, [x21, x22, x23, x24, x25, .ref x26, x27, x28, x29, .int x30, x31, x32]))]
def wd02_37 (x0 x1 : Nat) (x2 : Value) (x3 x4 x5 : Nat) (x6 : ClassId) (x7 : Nat → Int32) (x8 x9 x10 x11 x12 : Nat) (x13 : Int32) (x14 : Nat) (x15 : ClassId) (x16 : Nat → Int32) (x17 : Nat) (x18 : ClassId) (x19 : Nat → Int32) (x20 : Nat) (x21 : ClassId) (x22 : Nat → Int32) (x23 : Nat) (x24 : ClassId) (x25 : Nat → Int32) (x26 : Nat) (x27 : ClassId) (x28 : Nat → Int32) : va_W := [(x0, .inr (1, [.ref x1, x2, .ref x3, .ref x4])), (x5, .inl (x6, 64, .inl x7)), (x8, .inr (4, [.ref x9, .ref x10, .ref x11, .ref x12, .int x13])), (x14, .inl (x15, 8, .inl x16)), (x17, .inl (x18, 150, .inl x19)), (x20, .inl (x21, 150, .inl x22)), (x23, .inl (x24, 150, .inl x25)), (x26, .inl (x27, 6, .inl x28))]
def wd02_38 (x0 : Nat) (x1 x2 x3 x4 x5 : Value) (x6 : Nat) (x7 x8 x9 : Value) (x10 : Int32) (x11 x12 : Value) (x13 x14 : Nat) (x15 : Value) (x16 x17 x18 : Nat) (x19 : ClassId) (x20 : Nat → Int32) (x21 x22 x23 x24 x25 : Nat) (x26 : Int32) (x27 : Nat) (x28 : ClassId) (x29 : Nat → Int32) (x30 : Nat) (x31 : ClassId) (x32 : Nat → Int32) (x33 : Nat) (x34 : ClassId) (x35 : Nat → Int32) (x36 : Nat) (x37 : ClassId) (x38 : Nat → Int32) (x39 : Nat) (x40 : ClassId) (x41 : Nat → Int32) : va_W := [(x0, .inr (2, [x1, x2, x3, x4, x5, .ref x6, x7, x8, x9, .int x10, x11, x12])), (x13, .inr (1, [.ref x14, x15, .ref x16, .ref x17])), (x18, .inl (x19, 64, .inl x20)), (x21, .inr (4, [.ref x22, .ref x23, .ref x24, .ref x25, .int x26])), (x27, .inl (x28, 8, .inl x29)), (x30, .inl (x31, 150, .inl x32)), (x33, .inl (x34, 150, .inl x35)), (x36, .inl (x37, 150, .inl x38)), (x39, .inl (x40, 6, .inl x41))]
def wd02_39 (x0 x1 : Nat) (x2 : Value) (x3 x4 x5 : Nat) (x6 : ClassId) (x7 : Nat → Int32) : va_W := [(x0, .inr (1, [.ref x1, x2, .ref x3, .ref x4])), (x5, .inl (x6, 64, .inl x7))]
def wd02_40 (x0 : Nat) (x1 : Value) (x2 : Nat) (x3 x4 x5 x6 x7 x8 : Value) (x9 : Nat) (x10 x11 x12 x13 x14 x15 x16 x17 : Value) (x18 x19 : Int32) (x20 : Nat) (x21 x22 x23 x24 x25 : Value) (x26 : Nat) (x27 x28 x29 : Value) (x30 : Int32) (x31 x32 : Value) (x33 x34 x35 x36 x37 : Nat) (x38 : Int32) (x39 : Nat) (x40 : ClassId) (x41 : Nat → Int32) (x42 : Nat) (x43 : ClassId) (x44 : Nat → Int32) (x45 : Nat) (x46 : ClassId) (x47 : Nat → Int32) (x48 : Nat) (x49 : ClassId) (x50 : Nat → Int32) (x51 : Nat) (x52 : ClassId) (x53 : Nat → Int32) : va_W := [(x0, .inr (10, [x1, .ref x2, x3, x4, x5, x6, x7, x8, .ref x9, x10, x11, x12, x13, x14, x15, x16, x17, .int x18, .int x19])), (x20, .inr (2, [x21, x22, x23, x24, x25, .ref x26, x27, x28, x29, .int x30, x31, x32])), (x33, .inr (4, [.ref x34, .ref x35, .ref x36, .ref x37, .int x38])), (x39, .inl (x40, 8, .inl x41)), (x42, .inl (x43, 150, .inl x44)), (x45, .inl (x46, 150, .inl x47)), (x48, .inl (x49, 150, .inl x50)), (x51, .inl (x52, 6, .inl x53))]
def wd02_41 (x0 x1 : Nat) (x2 : Value) (x3 x4 x5 : Nat) (x6 : ClassId) (x7 : Nat → Int32) (x8 : Nat) (x9 x10 x11 x12 x13 : Value) (x14 : Nat) (x15 x16 x17 : Value) (x18 : Int32) (x19 x20 : Value) (x21 x22 x23 x24 x25 : Nat) (x26 : Int32) (x27 : Nat) (x28 : ClassId) (x29 : Nat → Int32) (x30 : Nat) (x31 : ClassId) (x32 : Nat → Int32) (x33 : Nat) (x34 : ClassId) (x35 : Nat → Int32) (x36 : Nat) (x37 : ClassId) (x38 : Nat → Int32) : va_W := [(x0, .inr (1, [.ref x1, x2, .ref x3, .ref x4])), (x5, .inl (x6, 64, .inl x7)), (x8, .inr (2, [x9, x10, x11, x12, x13, .ref x14, x15, x16, x17, .int x18, x19, x20])), (x21, .inr (4, [.ref x22, .ref x23, .ref x24, .ref x25, .int x26])), (x27, .inl (x28, 8, .inl x29)), (x30, .inl (x31, 150, .inl x32)), (x33, .inl (x34, 150, .inl x35)), (x36, .inl (x37, 150, .inl x38))]
def wd02_42 (x0 x1 : Nat) (x2 : Value) (x3 x4 x5 : Nat) (x6 x7 x8 x9 x10 : Value) (x11 : Nat) (x12 x13 x14 : Value) (x15 : Int32) (x16 x17 : Value) (x18 : Nat) (x19 : ClassId) (x20 : Nat → Int32) : va_W := [(x0, .inr (1, [.ref x1, x2, .ref x3, .ref x4])), (x5, .inr (2, [x6, x7, x8, x9, x10, .ref x11, x12, x13, x14, .int x15, x16, x17])), (x18, .inl (x19, 64, .inl x20))]
def wd02_43 (x0 : Nat) (x1 : Value) (x2 : Nat) (x3 x4 x5 x6 x7 x8 : Value) (x9 : Nat) (x10 x11 x12 x13 x14 x15 x16 x17 : Value) (x18 x19 : Int32) (x20 x21 x22 x23 x24 : Nat) (x25 : Int32) (x26 : Nat) (x27 : ClassId) (x28 : Nat → Int32) (x29 : Nat) (x30 : ClassId) (x31 : Nat → Int32) (x32 : Nat) (x33 : ClassId) (x34 : Nat → Int32) (x35 : Nat) (x36 : ClassId) (x37 : Nat → Int32) (x38 : Nat) (x39 : ClassId) (x40 : Nat → Int32) : va_W := [(x0, .inr (10, [x1, .ref x2, x3, x4, x5, x6, x7, x8, .ref x9, x10, x11, x12, x13, x14, x15, x16, x17, .int x18, .int x19])), (x20, .inr (4, [.ref x21, .ref x22, .ref x23, .ref x24, .int x25])), (x26, .inl (x27, 8, .inl x28)), (x29, .inl (x30, 150, .inl x31)), (x32, .inl (x33, 150, .inl x34)), (x35, .inl (x36, 150, .inl x37)), (x38, .inl (x39, 6, .inl x40))]
def wd02_44 (x0 : Nat) (x1 : Value) (x2 : Nat) (x3 : Value) (x4 : Nat) (x5 x6 x7 x8 : Value) (x9 : Nat) (x10 x11 x12 x13 x14 x15 x16 x17 : Value) (x18 x19 : Int32) (x20 : Nat) (x21 x22 x23 x24 x25 : Value) (x26 : Nat) (x27 x28 x29 : Value) (x30 : Int32) (x31 x32 : Value) (x33 x34 : Nat) (x35 : Value) (x36 x37 x38 : Nat) (x39 : ClassId) (x40 : Nat → Int32) (x41 x42 x43 x44 x45 : Nat) (x46 : Int32) (x47 : Nat) (x48 : ClassId) (x49 : Nat → Int32) (x50 : Nat) (x51 : ClassId) (x52 : Nat → Int32) (x53 : Nat) (x54 : ClassId) (x55 : Nat → Int32) (x56 : Nat) (x57 : ClassId) (x58 : Nat → Int32) (x59 : Nat) (x60 : ClassId) (x61 : Nat → Int32) (x62 : Nat) (x63 : ClassId) (x64 : Nat) (x65 : Nat → Int64) : va_W := [(x0, .inr (10, [x1, .ref x2, x3, .ref x4, x5, x6, x7, x8, .ref x9, x10, x11, x12, x13, x14, x15, x16, x17, .int x18, .int x19])), (x20, .inr (2, [x21, x22, x23, x24, x25, .ref x26, x27, x28, x29, .int x30, x31, x32])), (x33, .inr (1, [.ref x34, x35, .ref x36, .ref x37])), (x38, .inl (x39, 64, .inl x40)), (x41, .inr (4, [.ref x42, .ref x43, .ref x44, .ref x45, .int x46])), (x47, .inl (x48, 8, .inl x49)), (x50, .inl (x51, 150, .inl x52)), (x53, .inl (x54, 150, .inl x55)), (x56, .inl (x57, 150, .inl x58)), (x59, .inl (x60, 6, .inl x61)), (x62, .inl (x63, x64, .inr (.inl x65)))]
def wd02_45 (x0 : Nat) (x1 : Value) (x2 : Nat) (x3 : Value) (x4 : Nat) (x5 x6 x7 x8 : Value) (x9 : Nat) (x10 x11 x12 x13 x14 x15 x16 x17 : Value) (x18 x19 : Int32) (x20 : Nat) (x21 x22 x23 x24 x25 : Value) (x26 : Nat) (x27 x28 x29 : Value) (x30 : Int32) (x31 x32 : Value) (x33 x34 : Nat) (x35 : Value) (x36 x37 x38 : Nat) (x39 : ClassId) (x40 : Nat → Int32) (x41 x42 x43 x44 x45 : Nat) (x46 : Int32) (x47 : Nat) (x48 : ClassId) (x49 : Nat → Int32) (x50 : Nat) (x51 : ClassId) (x52 : Nat → Int32) (x53 : Nat) (x54 : ClassId) (x55 : Nat → Int32) (x56 : Nat) (x57 : ClassId) (x58 : Nat → Int32) (x59 : Nat) (x60 : ClassId) (x61 : Nat → Int32) : va_W := [(x0, .inr (10, [x1, .ref x2, x3, .ref x4, x5, x6, x7, x8, .ref x9, x10, x11, x12, x13, x14, x15, x16, x17, .int x18, .int x19])), (x20, .inr (2, [x21, x22, x23, x24, x25, .ref x26, x27, x28, x29, .int x30, x31, x32])), (x33, .inr (1, [.ref x34, x35, .ref x36, .ref x37])), (x38, .inl (x39, 64, .inl x40)), (x41, .inr (4, [.ref x42, .ref x43, .ref x44, .ref x45, .int x46])), (x47, .inl (x48, 8, .inl x49)), (x50, .inl (x51, 150, .inl x52)), (x53, .inl (x54, 150, .inl x55)), (x56, .inl (x57, 150, .inl x58)), (x59, .inl (x60, 6, .inl x61))]
def wd02_46 (x0 : Nat) (x1 : Value) (x2 : Nat) (x3 x4 x5 x6 x7 x8 : Value) (x9 : Nat) (x10 x11 x12 x13 x14 x15 x16 x17 : Value) (x18 : Int32) (x19 : Value) (x20 x21 x22 : Nat) (x23 x24 x25 x26 x27 x28 : Value) (x29 x30 : Int32) (x31 x32 : Value) (x33 x34 : Nat) (x35 : Value) (x36 x37 x38 : Nat) (x39 : ClassId) (x40 : Nat → Int32) (x41 x42 x43 x44 x45 : Nat) (x46 : Int32) (x47 : Nat) (x48 : ClassId) (x49 : Nat → Int32) (x50 : Nat) (x51 : ClassId) (x52 : Nat → Int32) (x53 : Nat) (x54 : ClassId) (x55 : Nat → Int32) (x56 : Nat) (x57 : ClassId) (x58 : Nat → Int32) (x59 : Nat) (x60 : ClassId) (x61 : Nat → Int32) (x62 : Nat) (x63 : ClassId) (x64 : Nat → Int32) : va_W := [(x0, .inr (10, [x1, .ref x2, x3, x4, x5, x6, x7, x8, .ref x9, x10, x11, x12, x13, x14, x15, x16, x17, .int x18, x19])), (x20, .inr (2, [.ref x21, .ref x22, x23, x24, x25, x26, x27, x28, .int x29, .int x30, x31, x32])), (x33, .inr (1, [.ref x34, x35, .ref x36, .ref x37])), (x38, .inl (x39, 64, .inl x40)), (x41, .inr (4, [.ref x42, .ref x43, .ref x44, .ref x45, .int x46])), (x47, .inl (x48, 8, .inl x49)), (x50, .inl (x51, 150, .inl x52)), (x53, .inl (x54, 150, .inl x55)), (x56, .inl (x57, 150, .inl x58)), (x59, .inl (x60, 8, .inl x61)), (x62, .inl (x63, 8, .inl x64))]
def wd02_47 (x0 : Nat) (x1 : Value) (x2 : Nat) (x3 x4 x5 x6 x7 x8 : Value) (x9 : Nat) (x10 x11 x12 x13 x14 x15 x16 x17 : Value) (x18 : Int32) (x19 : Value) (x20 x21 x22 : Nat) (x23 x24 x25 x26 x27 x28 : Value) (x29 x30 : Int32) (x31 x32 : Value) : va_W := [(x0, .inr (10, [x1, .ref x2, x3, x4, x5, x6, x7, x8, .ref x9, x10, x11, x12, x13, x14, x15, x16, x17, .int x18, x19])), (x20, .inr (2, [.ref x21, .ref x22, x23, x24, x25, x26, x27, x28, .int x29, .int x30, x31, x32]))]
def wd02_48 (x0 x1 : Nat) (x2 : Value) (x3 x4 x5 : Nat) (x6 : ClassId) (x7 : Nat → Int32) (x8 x9 x10 x11 x12 : Nat) (x13 : Int32) (x14 : Nat) (x15 : ClassId) (x16 : Nat → Int32) (x17 : Nat) (x18 : ClassId) (x19 : Nat → Int32) (x20 : Nat) (x21 : ClassId) (x22 : Nat → Int32) (x23 : Nat) (x24 : ClassId) (x25 : Nat → Int32) (x26 : Nat) (x27 : ClassId) (x28 : Nat → Int32) (x29 : Nat) (x30 : ClassId) (x31 : Nat → Int32) : va_W := [(x0, .inr (1, [.ref x1, x2, .ref x3, .ref x4])), (x5, .inl (x6, 64, .inl x7)), (x8, .inr (4, [.ref x9, .ref x10, .ref x11, .ref x12, .int x13])), (x14, .inl (x15, 8, .inl x16)), (x17, .inl (x18, 150, .inl x19)), (x20, .inl (x21, 150, .inl x22)), (x23, .inl (x24, 150, .inl x25)), (x26, .inl (x27, 8, .inl x28)), (x29, .inl (x30, 8, .inl x31))]
def wd02_49 (x0 : Nat) (x1 : Value) (x2 : Nat) (x3 x4 x5 x6 x7 x8 : Value) (x9 : Nat) (x10 x11 x12 x13 x14 x15 x16 x17 : Value) (x18 : Int32) (x19 : Value) (x20 x21 x22 : Nat) (x23 x24 x25 x26 x27 x28 : Value) (x29 x30 : Int32) (x31 x32 : Value) (x33 x34 x35 x36 x37 : Nat) (x38 : Int32) (x39 : Nat) (x40 : ClassId) (x41 : Nat → Int32) (x42 : Nat) (x43 : ClassId) (x44 : Nat → Int32) (x45 : Nat) (x46 : ClassId) (x47 : Nat → Int32) (x48 : Nat) (x49 : ClassId) (x50 : Nat → Int32) (x51 : Nat) (x52 : ClassId) (x53 : Nat → Int32) (x54 : Nat) (x55 : ClassId) (x56 : Nat → Int32) : va_W := [(x0, .inr (10, [x1, .ref x2, x3, x4, x5, x6, x7, x8, .ref x9, x10, x11, x12, x13, x14, x15, x16, x17, .int x18, x19])), (x20, .inr (2, [.ref x21, .ref x22, x23, x24, x25, x26, x27, x28, .int x29, .int x30, x31, x32])), (x33, .inr (4, [.ref x34, .ref x35, .ref x36, .ref x37, .int x38])), (x39, .inl (x40, 8, .inl x41)), (x42, .inl (x43, 150, .inl x44)), (x45, .inl (x46, 150, .inl x47)), (x48, .inl (x49, 150, .inl x50)), (x51, .inl (x52, 8, .inl x53)), (x54, .inl (x55, 8, .inl x56))]
def wd02_50 (x0 x1 : Nat) (x2 : Value) (x3 x4 x5 : Nat) (x6 : ClassId) (x7 : Nat → Int32) (x8 x9 x10 : Nat) (x11 x12 x13 x14 x15 x16 : Value) (x17 x18 : Int32) (x19 x20 : Value) (x21 x22 x23 x24 x25 : Nat) (x26 : Int32) (x27 : Nat) (x28 : ClassId) (x29 : Nat → Int32) (x30 : Nat) (x31 : ClassId) (x32 : Nat → Int32) (x33 : Nat) (x34 : ClassId) (x35 : Nat → Int32) (x36 : Nat) (x37 : ClassId) (x38 : Nat → Int32) : va_W := [(x0, .inr (1, [.ref x1, x2, .ref x3, .ref x4])), (x5, .inl (x6, 64, .inl x7)), (x8, .inr (2, [.ref x9, .ref x10, x11, x12, x13, x14, x15, x16, .int x17, .int x18, x19, x20])), (x21, .inr (4, [.ref x22, .ref x23, .ref x24, .ref x25, .int x26])), (x27, .inl (x28, 8, .inl x29)), (x30, .inl (x31, 150, .inl x32)), (x33, .inl (x34, 150, .inl x35)), (x36, .inl (x37, 150, .inl x38))]
def wd02_51 (x0 x1 x2 : Nat) (x3 x4 x5 x6 x7 x8 : Value) (x9 x10 : Int32) (x11 x12 : Value) (x13 : Nat) (x14 : ClassId) (x15 : Nat → Int32) (x16 : Nat) (x17 : ClassId) (x18 : Nat → Int32) : va_W := [(x0, .inr (2, [.ref x1, .ref x2, x3, x4, x5, x6, x7, x8, .int x9, .int x10, x11, x12])), (x13, .inl (x14, 8, .inl x15)), (x16, .inl (x17, 8, .inl x18))]
def wd02_52 (x0 : Nat) (x1 : Value) (x2 : Nat) (x3 : Value) (x4 : Nat) (x5 x6 x7 x8 : Value) (x9 : Nat) (x10 x11 x12 x13 x14 x15 x16 x17 : Value) (x18 : Int32) (x19 : Value) (x20 x21 x22 : Nat) (x23 x24 x25 x26 x27 x28 : Value) (x29 x30 : Int32) (x31 x32 : Value) (x33 x34 : Nat) (x35 : Value) (x36 x37 x38 : Nat) (x39 : ClassId) (x40 : Nat → Int32) (x41 x42 x43 x44 x45 : Nat) (x46 : Int32) (x47 : Nat) (x48 : ClassId) (x49 : Nat → Int32) (x50 : Nat) (x51 : ClassId) (x52 : Nat → Int32) (x53 : Nat) (x54 : ClassId) (x55 : Nat → Int32) (x56 : Nat) (x57 : ClassId) (x58 : Nat → Int32) (x59 : Nat) (x60 : ClassId) (x61 : Nat → Int32) (x62 : Nat) (x63 : ClassId) (x64 : Nat → Int32) (x65 : Nat) (x66 : ClassId) (x67 : Nat) (x68 : Nat → Int64) : va_W := [(x0, .inr (10, [x1, .ref x2, x3, .ref x4, x5, x6, x7, x8, .ref x9, x10, x11, x12, x13, x14, x15, x16, x17, .int x18, x19])), (x20, .inr (2, [.ref x21, .ref x22, x23, x24, x25, x26, x27, x28, .int x29, .int x30, x31, x32])), (x33, .inr (1, [.ref x34, x35, .ref x36, .ref x37])), (x38, .inl (x39, 64, .inl x40)), (x41, .inr (4, [.ref x42, .ref x43, .ref x44, .ref x45, .int x46])), (x47, .inl (x48, 8, .inl x49)), (x50, .inl (x51, 150, .inl x52)), (x53, .inl (x54, 150, .inl x55)), (x56, .inl (x57, 150, .inl x58)), (x59, .inl (x60, 8, .inl x61)), (x62, .inl (x63, 8, .inl x64)), (x65, .inl (x66, x67, .inr (.inl x68)))]
def wd02_53 (x0 : Nat) (x1 : Value) (x2 : Nat) (x3 : Value) (x4 : Nat) (x5 x6 x7 x8 : Value) (x9 : Nat) (x10 x11 x12 x13 x14 x15 x16 x17 : Value) (x18 : Int32) (x19 : Value) (x20 x21 x22 : Nat) (x23 x24 x25 x26 x27 x28 : Value) (x29 x30 : Int32) (x31 x32 : Value) (x33 x34 : Nat) (x35 : Value) (x36 x37 x38 : Nat) (x39 : ClassId) (x40 : Nat → Int32) (x41 x42 x43 x44 x45 : Nat) (x46 : Int32) (x47 : Nat) (x48 : ClassId) (x49 : Nat → Int32) (x50 : Nat) (x51 : ClassId) (x52 : Nat → Int32) (x53 : Nat) (x54 : ClassId) (x55 : Nat → Int32) (x56 : Nat) (x57 : ClassId) (x58 : Nat → Int32) (x59 : Nat) (x60 : ClassId) (x61 : Nat → Int32) (x62 : Nat) (x63 : ClassId) (x64 : Nat → Int32) : va_W := [(x0, .inr (10, [x1, .ref x2, x3, .ref x4, x5, x6, x7, x8, .ref x9, x10, x11, x12, x13, x14, x15, x16, x17, .int x18, x19])), (x20, .inr (2, [.ref x21, .ref x22, x23, x24, x25, x26, x27, x28, .int x29, .int x30, x31, x32])), (x33, .inr (1, [.ref x34, x35, .ref x36, .ref x37])), (x38, .inl (x39, 64, .inl x40)), (x41, .inr (4, [.ref x42, .ref x43, .ref x44, .ref x45, .int x46])), (x47, .inl (x48, 8, .inl x49)), (x50, .inl (x51, 150, .inl x52)), (x53, .inl (x54, 150, .inl x55)), (x56, .inl (x57, 150, .inl x58)), (x59, .inl (x60, 8, .inl x61)), (x62, .inl (x63, 8, .inl x64))]
def wd02_54 (x0 x1 : Nat) (x2 x3 : Int32) (x4 x5 x6 x7 : Value) (x8 : Nat) (x9 : ClassId) (x10 : Nat → Int32) : va_W := [(x0, .inr (8, [.ref x1, .int x2, .int x3, x4, x5, x6, x7])), (x8, .inl (x9, 600, .inl x10))]
def wd02_55 (x0 x1 : Nat) (x2 x3 : Int32) (x4 x5 : Value) (x6 x7 : Int32) (x8 : Nat) (x9 : ClassId) (x10 : Nat → Int32) : va_W := [(x0, .inr (8, [.ref x1, .int x2, .int x3, x4, x5, .int x6, .int x7])), (x8, .inl (x9, 600, .inl x10))]
def wd02_56 (x0 : Nat) (x1 x2 x3 x4 : Value) : va_W := [(x0, .inr (1, [x1, x2, x3, x4]))]
def wd02_57 (x0 : Nat) (x1 x2 x3 : Value) (x4 : Nat) : va_W := [(x0, .inr (1, [x1, x2, x3, .ref x4]))]
def wd02_58 (x0 : Nat) (x1 x2 x3 : Value) (x4 : Nat) (x5 x6 x7 x8 x9 x10 x11 : Value) (x12 : Nat) (x13 : ClassId) (x14 : Nat → Int32) : va_W := [(x0, .inr (3, [x1, x2, x3, .ref x4, x5, x6, x7, x8, x9, x10, x11])), (x12, .inl (x13, 7, .inl x14))]
def wd02_59 (x0 x1 x2 x3 x4 : Nat) (x5 x6 : Int32) (x7 x8 x9 x10 x11 : Value) (x12 : Nat) (x13 : ClassId) (x14 : Nat → Int32) (x15 : Nat) (x16 : ClassId) (x17 : Nat → Int32) (x18 : Nat) (x19 : ClassId) (x20 : Nat → Int32) (x21 : Nat) (x22 : ClassId) (x23 : Nat → Int32) : va_W := [(x0, .inr (3, [.ref x1, .ref x2, .ref x3, .ref x4, .int x5, .int x6, x7, x8, x9, x10, x11])), (x12, .inl (x13, 7, .inl x14)), (x15, .inl (x16, 6, .inl x17)), (x18, .inl (x19, 8, .inl x20)), (x21, .inl (x22, 6, .inl x23))]
def wd02_60 (x0 x1 x2 x3 x4 : Nat) (x5 x6 : Int32) (x7 x8 x9 x10 x11 : Value) (x12 : Nat) (x13 : ClassId) (x14 : Nat → Int32) (x15 : Nat) (x16 : ClassId) (x17 : Nat → Int32) : va_W := [(x0, .inr (3, [.ref x1, .ref x2, .ref x3, .ref x4, .int x5, .int x6, x7, x8, x9, x10, x11])), (x12, .inl (x13, 8, .inl x14)), (x15, .inl (x16, 6, .inl x17))]
def wd02_61 (x0 x1 x2 x3 x4 : Nat) (x5 x6 : Int32) (x7 x8 x9 x10 x11 : Value) (x12 : Nat) (x13 : ClassId) (x14 : Nat → Int32) : va_W := [(x0, .inr (3, [.ref x1, .ref x2, .ref x3, .ref x4, .int x5, .int x6, x7, x8, x9, x10, x11])), (x12, .inl (x13, 7, .inl x14))]
theorem ui_X10_far_X10 : ∀ w ∈ u_ws RX10 TX10 19, w ∈ wsX10_far := uiM mbX10_far euX10 (by decide +kernel)
theorem uw_X10_far_f19 : (.fieldLink RX10 19 "MarchHares" "ground" "LMarchHares$Down;" : Cond) ∈ wsX10_far := mbX10_far 20 (by decide +kernel)
set_option maxHeartbeats 4000000 in
set_option maxRecDepth 100000 in
theorem ck_X10_far (l : Launch) (dC : Nat → ClassId) (dI : Nat → Nat → Nat) (cyB cyI cyJ cyP : ClassId) (a0 jaR jbs jbt sz : Nat) (jaK ja1 jcp jbc jbV ja3 jbH ja2 jbO jaq jac jbI jbl jbn jba jaa jdD jbo jbp jbk jbj jbe jbq jgP jbi jcd : Value) (jbE : Int32) (jci jcj : Nat → Int32) (jdu p1 p2 : Int32) {E : String → Int32 → Prop} {Q : Int32 → Int32 → Prop} (hw : wq_X10_far jbE jci jcj jdu p1 p2 E Q) : vx_Met l yX10_far wsX10_far ({ frames := 7, cells := 2, slots := 12, locals := 141 }) (va_Pc [.ref a0, .int p1, .int p2] (cPx l (dC, dI) (kT cyB cyI cyJ cyP) (wd02_0 a0 jaK jaR ja1 jcp jbc jbV ja3 jbH ja2 jbO jaq jac jbI jbl jbn jba jaa jdu jdD jaR jbs jbt jbo jbp jbk jbj jbe jbq jbE jgP jbi jcd jbs cyI jci jbt cyI jcj) sz)) (va_Qi (fun (r u : Int32) => Q r u) (cB (dC, dI) (kT cyB cyI cyJ cyP) (va_A (wd02_0 a0 jaK jaR ja1 jcp jbc jbV ja3 jbH ja2 jbO jaq jac jbI jbl jbn jba jaa jdu jdD jaR jbs jbt jbo jbp jbk jbj jbe jbq jbE jgP jbi jcd jbs cyI jci jbt cyI jcj) sz) (fun u : Int32 => ((wd02_0 a0 jaK jaR ja1 jcp jbc jbV ja3 jbH ja2 jbO jaq jac jbI jbl jbn jba jaa u jdD jaR jbs jbt jbo jbp jbk jbj jbe jbq jbE jgP jbi jcd jbs cyI jci jbt cyI jcj) : va_W))) (va_A (wd02_0 a0 jaK jaR ja1 jcp jbc jbV ja3 jbH ja2 jbO jaq jac jbI jbl jbn jba jaa jdu jdD jaR jbs jbt jbo jbp jbk jbj jbe jbq jbE jgP jbi jcd jbs cyI jci jbt cyI jcj) sz)) (vx_X (fun _ => True) (fun (en : String) (u : Int32) (t : State) => E en u ∧ cB (dC, dI) (kT cyB cyI cyJ cyP) (va_A (wd02_0 a0 jaK jaR ja1 jcp jbc jbV ja3 jbH ja2 jbO jaq jac jbI jbl jbn jba jaa jdu jdD jaR jbs jbt jbo jbp jbk jbj jbe jbq jbE jgP jbi jcd jbs cyI jci jbt cyI jcj) sz) (fun u : Int32 => ((wd02_0 a0 jaK jaR ja1 jcp jbc jbV ja3 jbH ja2 jbO jaq jac jbI jbl jbn jba jaa u jdD jaR jbs jbt jbo jbp jbk jbj jbe jbq jbE jgP jbi jcd jbs cyI jci jbt cyI jcj) : va_W)) u t) (va_A (wd02_0 a0 jaK jaR ja1 jcp jbc jbV ja3 jbH ja2 jbO jaq jac jbI jbl jbn jba jaa jdu jdD jaR jbs jbt jbo jbp jbk jbj jbe jbq jbE jgP jbi jcd jbs cyI jci jbt cyI jcj) sz)) 2 12 (va_A (wd02_0 a0 jaK jaR ja1 jcp jbc jbV ja3 jbH ja2 jbO jaq jac jbI jbl jbn jba jaa jdu jdD jaR jbs jbt jbo jbp jbk jbj jbe jbq jbE jgP jbi jcd jbs cyI jci jbt cyI jcj) sz) := by
  refine vx_ofW (cc := cX10_far) (maxL := 3) (ret := (some .int)) (by decide) rfl ?_
  intro p e s m args below meth c s₁ B hml hnt hv
  obtain ⟨rfl, hsz, hP, hK, hD0, hNw, hXl, hXu, hXn, hXt⟩ := hv
  have hx := B.exec
  have hb := B.bytes
  have hr := B.returns
  have hts := atoms_spec (ws := wsX10_far) B.pre
  have hown : s.vm.findClass RX10 = some m.cls := findClass_of_methodNamed B.named
  have hlocks := B.notSynchronized
  subst hsz
  have hD := hD0.self (sz := s.heap.size)
  generalize hAe : va_A (wd02_0 a0 jaK jaR ja1 jcp jbc jbV ja3 jbH ja2 jbO jaq jac jbI jbl jbn jba jaa jdu jdD jaR jbs jbt jbo jbp jbk jbj jbe jbq jbE jgP jbi jcd jbs cyI jci jbt cyI jcj) s.heap.size = A at hD hXu hXn ⊢
  have hA : ∀ q : Nat, s.heap.size ≤ q → A q := fun q h => by rw [← hAe]; exact Or.inr h
  have hS : va_S A s.heap s.heap [] := va_S.rf
  have hP : va_P (dC, dI) vwCl (wd02_0 a0 jaK jaR ja1 jcp jbc jbV ja3 jbH ja2 jbO jaq jac jbI jbl jbn jba jaa jdu jdD jaR jbs jbt jbo jbp jbk jbj jbe jbq jbE jgP jbi jcd jbs cyI jci jbt cyI jcj) s.heap := hP
  have hl := lv_entry ([.ref a0, .int p1, .int p2]) (n := 3) (Nat.le_of_ble_eq_true rfl)
  rw [lg_entry_eq]
  generalize (lg_sl ([.ref a0, .int p1, .int p2]) ++ List.replicate (3 - (lg_sl ([.ref a0, .int p1, .int p2])).length) Slot.unset).toArray = ls at hl ⊢
  have hl : lv_has ls 3 [(0, .ref a0), (1, .int p1), (2, .int p2)] := hl
  have hY : cfY l s A := ⟨hXl, hXu, hXn, hXt⟩
  have hXs : cfX l s c A := ⟨hnt, hY⟩
  have C0 : cfx p s m _ meth c cX10_far (some .int) wsX10_far RX10 3 A (dC, dI) (kT cyB cyI cyJ cyP) ∧ cfX l s c A := ⟨⟨hx, hb, hr, hts, hown, hlocks, hml, hA, hK, hNw⟩, hXs⟩
  clear hAe
  obtain ⟨H, hH⟩ : ∃ H, H = s.heap := ⟨_, rfl⟩
  rw [← hH] at hP ⊢
  have hS : va_S A s.heap H [] := by rw [hH]; exact va_S.rf
  have hS := hS
  refine lv_aload_n hx hb (dt_of tkX10_far_k0 0 rfl) rfl (lv_at hl 0 rfl) ?_
  refine lv_iload_n hx hb (dt_of tkX10_far_k0 1 rfl) rfl (lv_at hl 1 rfl) ?_
  obtain ⟨hCc, hPc, hDc, hFc⟩ := va_pick (ws' := (wd02_1 a0 jaK jaR ja1 jcp jbc jbV ja3 jbH ja2 jbO jaq jac jbI jbl jbn jba jaa jdu jdD jaR jbs jbt jbo jbp jbk jbj jbe jbq jbE jgP jbi jcd)) hP hD hS hA [0, 1] (by decide +kernel) rfl
  refine vx_callv (vx_runV (As := [.int p1]) (rest := []) ⟨hx, hb, hml, hown, hts⟩ (ck_X10_needForm l dC dI cyB cyI cyJ cyP a0 jaR H.size (jaK) (ja1) (jcp) (jbc) (jbV) (ja3) (jbH) (ja2) (jbO) (jaq) (jac) (jbI) (jbl) (jbn) (jba) (jaa) (jdD) (.ref jbs) (.ref jbt) (jbo) (jbp) (jbk) (jbj) (jbe) (jbq) (jgP) (jbi) (jcd) jbE jdu p1 hw) (cwV 1 hts gX10_far_X10_needForm rfl rfl rfl (by decide +kernel) ⟨Nat.le_of_ble_eq_true rfl, Nat.le_of_ble_eq_true rfl⟩) ⟨cPx_blind, va_recv (q := (RX10, TX10, 19)) hK hPc (ci := 10) (q0 := 0) rfl rfl, cPx_pre hPc hK hDc hNw hY hS hFc⟩ rfl rfl hl.1 rfl (lv_room (Nat.le_of_ble_eq_true rfl)) (dt_of tkX10_far_k0 2 rfl) ⟨Nat.le_of_ble_eq_true rfl, Nat.le_of_ble_eq_true rfl⟩) hS (fun q _ h => hFc q h) hFc (fun q _ h => hFc q h) (fun en ce q9 u t H1 locs ht hvm hpx hB hz1 hk1 hS hc9 hv9 hcl9 => ?_) (fun u t H1 locs ht hvm hw hB hz1 hk1 hS => ?_)
  · obtain ⟨x1, rfl⟩ : ∃ z, z = u := ⟨_, rfl⟩
    obtain ⟨hw, hP1, hK1, hD1⟩ := hB
    rw [ht] at hP1
    obtain ⟨hP, hD⟩ := va_joinN (wr := (wd02_2 jbs cyI jci jbt cyI jcj)) (w1 := (wd02_1 a0 jaK jaR ja1 jcp jbc jbV ja3 jbH ja2 jbO jaq jac jbI jbl jbn jba jaa x1 jdD jaR jbs jbt jbo jbp jbk jbj jbe jbq jbE jgP jbi jcd)) (wn := (wd02_0 a0 jaK jaR ja1 jcp jbc jbV ja3 jbH ja2 jbO jaq jac jbI jbl jbn jba jaa x1 jdD jaR jbs jbt jbo jbp jbk jbj jbe jbq jbE jgP jbi jcd jbs cyI jci jbt cyI jcj)) hP hD [0, 1] [2, 3] [2, 3, 0, 1] hCc rfl (by decide +kernel) (by decide +kernel) (by decide +kernel) rfl hk1 hFc hP1 hD1
    generalize H1 = H at hP hS hc9 ⊢
    exact vx_out (fun x hx9 => (hXs.1 x hx9).elim) hlocks hc9 hv9 hcl9 (fun t2 ht2 hal2 => ⟨(x1), trivial, ⟨hw, by rw [ht2]; exact hP, va_K.moved hal2 hK, hD⟩, hS.F ht2⟩) hS.2.2 (Nat.le_of_ble_eq_true rfl) (Nat.le_of_ble_eq_true rfl)
  obtain ⟨x1, rfl⟩ : ∃ z, z = u := ⟨_, rfl⟩
  obtain ⟨hP1, hK1, hD1⟩ := hB
  rw [ht] at hP1
  obtain ⟨hP, hD⟩ := va_joinN (wr := (wd02_2 jbs cyI jci jbt cyI jcj)) (w1 := (wd02_1 a0 jaK jaR ja1 jcp jbc jbV ja3 jbH ja2 jbO jaq jac jbI jbl jbn jba jaa x1 jdD jaR jbs jbt jbo jbp jbk jbj jbe jbq jbE jgP jbi jcd)) (wn := (wd02_0 a0 jaK jaR ja1 jcp jbc jbV ja3 jbH ja2 jbO jaq jac jbI jbl jbn jba jaa x1 jdD jaR jbs jbt jbo jbp jbk jbj jbe jbq jbE jgP jbi jcd jbs cyI jci jbt cyI jcj)) hP hD [0, 1] [2, 3] [2, 3, 0, 1] hCc rfl (by decide +kernel) (by decide +kernel) (by decide +kernel) rfl hk1 hFc hP1 hD1
  generalize H1 = H at hP hS ⊢
  refine lv_aload_n hx hb (dt_of tkX10_far_k0 3 rfl) rfl (lv_at hl 0 rfl) ?_
  refine lv_iload_n hx hb (dt_of tkX10_far_k0 4 rfl) rfl (lv_at hl 2 rfl) ?_
  obtain ⟨hCc, hPc, hDc, hFc⟩ := va_pick (ws' := (wd02_1 a0 jaK jaR ja1 jcp jbc jbV ja3 jbH ja2 jbO jaq jac jbI jbl jbn jba jaa x1 jdD jaR jbs jbt jbo jbp jbk jbj jbe jbq jbE jgP jbi jcd)) hP hD hS hA [0, 1] (by decide +kernel) rfl
  refine vx_callv (vx_runV (As := [.int p2]) (rest := []) ⟨hx, hb, hml, hown, hts⟩ (ck_X10_needForm l dC dI cyB cyI cyJ cyP a0 jaR H.size (jaK) (ja1) (jcp) (jbc) (jbV) (ja3) (jbH) (ja2) (jbO) (jaq) (jac) (jbI) (jbl) (jbn) (jba) (jaa) (jdD) (.ref jbs) (.ref jbt) (jbo) (jbp) (jbk) (jbj) (jbe) (jbq) (jgP) (jbi) (jcd) jbE x1 p2 hw) (cwV 1 hts gX10_far_X10_needForm rfl rfl rfl (by decide +kernel) ⟨Nat.le_of_ble_eq_true rfl, Nat.le_of_ble_eq_true rfl⟩) ⟨cPx_blind, va_recv (q := (RX10, TX10, 19)) hK hPc (ci := 10) (q0 := 0) rfl rfl, cPx_pre hPc hK hDc hNw hY hS hFc⟩ rfl rfl hl.1 rfl (lv_room (Nat.le_of_ble_eq_true rfl)) (dt_of tkX10_far_k0 5 rfl) ⟨Nat.le_of_ble_eq_true rfl, Nat.le_of_ble_eq_true rfl⟩) hS (fun q _ h => hFc q h) hFc (fun q _ h => hFc q h) (fun en ce q9 u t H1 locs ht hvm hpx hB hz1 hk1 hS hc9 hv9 hcl9 => ?_) (fun u t H1 locs ht hvm hw hB hz1 hk1 hS => ?_)
  · obtain ⟨x2, rfl⟩ : ∃ z, z = u := ⟨_, rfl⟩
    obtain ⟨hw, hP1, hK1, hD1⟩ := hB
    rw [ht] at hP1
    obtain ⟨hP, hD⟩ := va_joinN (wr := (wd02_2 jbs cyI jci jbt cyI jcj)) (w1 := (wd02_1 a0 jaK jaR ja1 jcp jbc jbV ja3 jbH ja2 jbO jaq jac jbI jbl jbn jba jaa x2 jdD jaR jbs jbt jbo jbp jbk jbj jbe jbq jbE jgP jbi jcd)) (wn := (wd02_0 a0 jaK jaR ja1 jcp jbc jbV ja3 jbH ja2 jbO jaq jac jbI jbl jbn jba jaa x2 jdD jaR jbs jbt jbo jbp jbk jbj jbe jbq jbE jgP jbi jcd jbs cyI jci jbt cyI jcj)) hP hD [0, 1] [2, 3] [2, 3, 0, 1] hCc rfl (by decide +kernel) (by decide +kernel) (by decide +kernel) rfl hk1 hFc hP1 hD1
    generalize H1 = H at hP hS hc9 ⊢
    exact vx_out (fun x hx9 => (hXs.1 x hx9).elim) hlocks hc9 hv9 hcl9 (fun t2 ht2 hal2 => ⟨(x2), trivial, ⟨hw, by rw [ht2]; exact hP, va_K.moved hal2 hK, hD⟩, hS.F ht2⟩) hS.2.2 (Nat.le_of_ble_eq_true rfl) (Nat.le_of_ble_eq_true rfl)
  obtain ⟨x2, rfl⟩ : ∃ z, z = u := ⟨_, rfl⟩
  obtain ⟨hP1, hK1, hD1⟩ := hB
  rw [ht] at hP1
  obtain ⟨hP, hD⟩ := va_joinN (wr := (wd02_2 jbs cyI jci jbt cyI jcj)) (w1 := (wd02_1 a0 jaK jaR ja1 jcp jbc jbV ja3 jbH ja2 jbO jaq jac jbI jbl jbn jba jaa x2 jdD jaR jbs jbt jbo jbp jbk jbj jbe jbq jbE jgP jbi jcd)) (wn := (wd02_0 a0 jaK jaR ja1 jcp jbc jbV ja3 jbH ja2 jbO jaq jac jbI jbl jbn jba jaa x2 jdD jaR jbs jbt jbo jbp jbk jbj jbe jbq jbE jgP jbi jcd jbs cyI jci jbt cyI jcj)) hP hD [0, 1] [2, 3] [2, 3, 0, 1] hCc rfl (by decide +kernel) (by decide +kernel) (by decide +kernel) rfl hk1 hFc hP1 hD1
  generalize H1 = H at hP hS ⊢
  refine lv_aload_n hx hb (dt_of tkX10_far_k0 6 rfl) rfl (lv_at hl 0 rfl) ?_
  refine va_get (D := (dC, dI)) (ci := 10) (v := .ref jaR) (C := RX10) (T := TX10) (N := 19) hx hb hts ui_X10_far_X10 hown hK hP 0 rfl rfl 1 (by decide) (hts _ uw_X10_far_f19) (fun _ h9 => h9) rfl (dt_of tkX10_far_k0 7 rfl) ?_
  refine lv_iload_n hx hb (dt_of tkX10_far_k0 8 rfl) rfl (lv_at hl 1 rfl) ?_
  refine lv_iload_n hx hb (dt_of tkX10_far_k0 9 rfl) rfl (lv_at hl 2 rfl) ?_
  obtain ⟨hCc, hPc, hDc, hFc⟩ := va_pick (ws' := (wd02_3 jaR jbs jbt jbo jbp jbk jbj jbe jbq jbE jgP jbi jcd jbs cyI jci jbt cyI jcj)) hP hD hS hA [1, 2, 3] (by decide +kernel) rfl
  refine va_calli (va_runV (As := [.int p1, .int p2]) (rest := []) ⟨hx, hb, hml, hown, hts⟩ (ck_X2_apart l dC dI cyB cyI cyJ cyP jaR jbs jbt H.size (jbo) (jbp) (jbk) (jbj) (jbe) (jbq) (.int jbE) (jgP) (jbi) (jcd) jci jcj  p1 p2 hw) (cwV 2 hts gX10_far_X2_apart rfl rfl rfl (by decide +kernel) ⟨Nat.le_of_ble_eq_true rfl, Nat.le_of_ble_eq_true rfl⟩) ⟨cPc_blind, va_recv (q := (RX2, TX2, 12)) hK hPc (ci := 2) (q0 := 0) rfl rfl, cPc_pre hPc hK hDc hNw⟩ rfl rfl hl.1 rfl (lv_room (Nat.le_of_ble_eq_true rfl)) (dt_of tkX10_far_k0 10 rfl) ⟨Nat.le_of_ble_eq_true rfl, Nat.le_of_ble_eq_true rfl⟩) hS (fun q _ h => hFc q h) hFc (fun r3 u t H1 locs ht hvm hw hB hz1 hk1 hS => ?_)
  obtain ⟨hP1, hK1, hD1⟩ := hB
  rw [ht] at hP1
  obtain ⟨hP, hD⟩ := va_joinI (wr := [(a0, .inr (10, [jaK, .ref jaR, ja1, jcp, jbc, jbV, ja3, jbH, ja2, jbO, jaq, jac, jbI, jbl, jbn, jba, jaa, .int x2, jdD]))]) (w1 := (wd02_3 jaR jbs jbt jbo jbp jbk jbj jbe jbq jbE jgP jbi jcd jbs cyI jci jbt cyI jcj)) (wn := (wd02_0 a0 jaK jaR ja1 jcp jbc jbV ja3 jbH ja2 jbO jaq jac jbI jbl jbn jba jaa x2 jdD jaR jbs jbt jbo jbp jbk jbj jbe jbq jbE jgP jbi jcd jbs cyI jci jbt cyI jcj)) hP hD [1, 2, 3] [0] hCc rfl (by decide +kernel) (by decide +kernel) rfl hk1 hFc hP1 hD1
  generalize H1 = H at hP hS ⊢
  exact vx_ret (W.widen (k := 2) (n := 12) (Nat.le_of_ble_eq_true rfl) (Nat.le_of_ble_eq_true rfl) (W.iret (v := r3) hx hb hr (fun t ht hW => ⟨⟨r3, (x2), rfl, hw, by rw [ht]; exact hP, va_K.moved hW.alike hK, hD⟩, hS.F ht⟩) hS.2.2 (dt_of tkX10_far_k0 11 rfl)))
theorem uw_L_far_ct31 : (.classLink RL 31 "java/util/NoSuchElementException" : Cond) ∈ wsL_far := mbL_far 2639 (by decide +kernel)
theorem uw_L_far_cw : (.codeWith yL_far cL_far 5 (some .int) [(0, 10, 13, 31)] : Cond) ∈ wsL_far := mbL_far 2838 (by decide +kernel)
set_option maxHeartbeats 4000000 in
set_option maxRecDepth 100000 in
theorem ck_L_far (l : Launch) (dC : Nat → ClassId) (dI : Nat → Nat → Nat) (cyB cyI cyJ cyP : ClassId) (a0 a3 jaR jbs jbt sz : Nat) (jaK ja1 jcp jbc jbV ja3 jbH ja2 jbO jaq jac jbI jbl jbn jba jaa jdD jbo jbp jbk jbj jbe jbq jgP jbi jcd : Value) (n3 : Nat) (jbE : Int32) (jci jcj : Nat → Int32) (jdu : Int32) (f3 : Nat → Int64) (p1 p2 : Int32) {Q : Int32 → Int32 → (Nat → Int64) → Prop} (hw : wq_L_far n3 jbE jci jcj jdu f3 p1 p2 Q) : Met l yL_far wsL_far ({ frames := 8, cells := 2, slots := 12, locals := 163 }) (va_Pc [.ref a0, .int p1, .int p2, .ref a3] (cPx l (dC, dI) (kT cyB cyI cyJ cyP) (wd02_4 a0 jaK jaR ja1 jcp jbc jbV ja3 jbH ja2 jbO jaq jac jbI jbl jbn jba jaa jdu jdD jaR jbs jbt jbo jbp jbk jbj jbe jbq jbE jgP jbi jcd jbs cyI jci jbt cyI jcj a3 cyJ n3 f3) sz)) (va_Qi (fun (r : Int32) (u : Int32 × (Nat → Int64)) => Q r u.1 u.2) (cB (dC, dI) (kT cyB cyI cyJ cyP) (va_A (wd02_4 a0 jaK jaR ja1 jcp jbc jbV ja3 jbH ja2 jbO jaq jac jbI jbl jbn jba jaa jdu jdD jaR jbs jbt jbo jbp jbk jbj jbe jbq jbE jgP jbi jcd jbs cyI jci jbt cyI jcj a3 cyJ n3 f3) sz) (fun u : Int32 × (Nat → Int64) => ((wd02_4 a0 jaK jaR ja1 jcp jbc jbV ja3 jbH ja2 jbO jaq jac jbI jbl jbn jba jaa u.1 jdD jaR jbs jbt jbo jbp jbk jbj jbe jbq jbE jgP jbi jcd jbs cyI jci jbt cyI jcj a3 cyJ n3 u.2) : va_W))) (va_A (wd02_4 a0 jaK jaR ja1 jcp jbc jbV ja3 jbH ja2 jbO jaq jac jbI jbl jbn jba jaa jdu jdD jaR jbs jbt jbo jbp jbk jbj jbe jbq jbE jgP jbi jcd jbs cyI jci jbt cyI jcj a3 cyJ n3 f3) sz)) 2 12 (va_A (wd02_4 a0 jaK jaR ja1 jcp jbc jbV ja3 jbH ja2 jbO jaq jac jbI jbl jbn jba jaa jdu jdD jaR jbs jbt jbo jbp jbk jbj jbe jbq jbE jgP jbi jcd jbs cyI jci jbt cyI jcj a3 cyJ n3 f3) sz) := by
  refine va_MetW (cc := cL_far) (maxL := 5) (ret := (some .int)) (by decide) rfl ?_
  intro p e s m args below meth c s₁ B hml hv
  obtain ⟨rfl, hsz, hP, hK, hD0, hNw, hXl, hXu, hXn, hXt⟩ := hv
  have hx := B.exec
  have hb := B.bytes
  have hr := B.returns
  have hts := atoms_spec (ws := wsL_far) B.pre
  have hown : s.vm.findClass RL = some m.cls := findClass_of_methodNamed B.named
  have hlocks := B.notSynchronized
  subst hsz
  have hD := hD0.self (sz := s.heap.size)
  generalize hAe : va_A (wd02_4 a0 jaK jaR ja1 jcp jbc jbV ja3 jbH ja2 jbO jaq jac jbI jbl jbn jba jaa jdu jdD jaR jbs jbt jbo jbp jbk jbj jbe jbq jbE jgP jbi jcd jbs cyI jci jbt cyI jcj a3 cyJ n3 f3) s.heap.size = A at hD hXu hXn ⊢
  have hA : ∀ q : Nat, s.heap.size ≤ q → A q := fun q h => by rw [← hAe]; exact Or.inr h
  have hS : va_S A s.heap s.heap [] := va_S.rf
  have hP : va_P (dC, dI) vwCl (wd02_4 a0 jaK jaR ja1 jcp jbc jbV ja3 jbH ja2 jbO jaq jac jbI jbl jbn jba jaa jdu jdD jaR jbs jbt jbo jbp jbk jbj jbe jbq jbE jgP jbi jcd jbs cyI jci jbt cyI jcj a3 cyJ n3 f3) s.heap := hP
  have hl := lv_entry ([.ref a0, .int p1, .int p2, .ref a3]) (n := 5) (Nat.le_of_ble_eq_true rfl)
  rw [lg_entry_eq]
  generalize (lg_sl ([.ref a0, .int p1, .int p2, .ref a3]) ++ List.replicate (5 - (lg_sl ([.ref a0, .int p1, .int p2, .ref a3])).length) Slot.unset).toArray = ls at hl ⊢
  have hl : lv_has ls 5 [(0, .ref a0), (1, .int p1), (2, .int p2), (3, .ref a3)] := hl
  have hY : cfY l s A := ⟨hXl, hXu, hXn, hXt⟩
  have hTb := vx_table (x := yL_far) B (hts _ uw_L_far_cw)
  clear hAe
  obtain ⟨H, hH⟩ : ∃ H, H = s.heap := ⟨_, rfl⟩
  rw [← hH] at hP ⊢
  have hS : va_S A s.heap H [] := by rw [hH]; exact va_S.rf
  have hS := hS
  refine lv_aload_n hx hb (dt_of tkL_far_k0 0 rfl) rfl (lv_at hl 3 rfl) ?_
  refine lv_iconst (v := 0) hx hb (dt_of tkL_far_k0 1 rfl) (by decide) ?_
  refine lv_aload_n hx hb (dt_of tkL_far_k0 2 rfl) rfl (lv_at hl 0 rfl) ?_
  refine lv_iload_n hx hb (dt_of tkL_far_k0 3 rfl) rfl (lv_at hl 1 rfl) ?_
  refine lv_iload_n hx hb (dt_of tkL_far_k0 4 rfl) rfl (lv_at hl 2 rfl) ?_
  obtain ⟨hCc, hPc, hDc, hFc⟩ := va_pick (ws' := (wd02_0 a0 jaK jaR ja1 jcp jbc jbV ja3 jbH ja2 jbO jaq jac jbI jbl jbn jba jaa jdu jdD jaR jbs jbt jbo jbp jbk jbj jbe jbq jbE jgP jbi jcd jbs cyI jci jbt cyI jcj)) hP hD hS hA [0, 1, 2, 3] (by decide +kernel) rfl
  refine vx_calli (vx_runV (As := [.int p1, .int p2]) (rest := [.int 0, .ref a3]) ⟨hx, hb, hml, hown, hts⟩ (ck_X10_far l dC dI cyB cyI cyJ cyP a0 jaR jbs jbt H.size (jaK) (ja1) (jcp) (jbc) (jbV) (ja3) (jbH) (ja2) (jbO) (jaq) (jac) (jbI) (jbl) (jbn) (jba) (jaa) (jdD) (jbo) (jbp) (jbk) (jbj) (jbe) (jbq) (jgP) (jbi) (jcd) jbE jci jcj jdu p1 p2 hw) (cwV 2 hts gL_far_X10_far rfl rfl rfl (by decide +kernel) ⟨Nat.le_of_ble_eq_true rfl, Nat.le_of_ble_eq_true rfl⟩) ⟨cPx_blind, va_recv (q := (RX10, TX10, 19)) hK hPc (ci := 10) (q0 := 0) rfl rfl, cPx_pre hPc hK hDc hNw hY hS hFc⟩ rfl rfl hl.1 rfl (lv_room (Nat.le_of_ble_eq_true rfl)) (dt_of tkL_far_k0 5 rfl) ⟨Nat.le_of_ble_eq_true rfl, Nat.le_of_ble_eq_true rfl⟩) hS (fun q _ h => hFc q h) hFc (fun q _ h => hFc q h) (fun en ce qx9 u t H1 locs ht hvm hpx hB hz1 hk1 hS hc9 hv9 hcl9 => ?_) (fun r2 u t H1 locs ht hvm hw hB hz1 hk1 hS => ?_)
  · obtain ⟨x1, rfl⟩ : ∃ z, z = u := ⟨_, rfl⟩
    obtain ⟨hw, hP1, hK1, hD1⟩ := hB
    rw [ht] at hP1
    obtain ⟨hP, hD⟩ := va_joinN (wr := [(a3, .inl (cyJ, n3, .inr (.inl f3)))]) (w1 := (wd02_0 a0 jaK jaR ja1 jcp jbc jbV ja3 jbH ja2 jbO jaq jac jbI jbl jbn jba jaa x1 jdD jaR jbs jbt jbo jbp jbk jbj jbe jbq jbE jgP jbi jcd jbs cyI jci jbt cyI jcj)) (wn := (wd02_4 a0 jaK jaR ja1 jcp jbc jbV ja3 jbH ja2 jbO jaq jac jbI jbl jbn jba jaa x1 jdD jaR jbs jbt jbo jbp jbk jbj jbe jbq jbE jgP jbi jcd jbs cyI jci jbt cyI jcj a3 cyJ n3 f3)) hP hD [0, 1, 2, 3] [4] [1, 2, 3, 4, 0] hCc rfl (by decide +kernel) (by decide +kernel) (by decide +kernel) rfl hk1 hFc hP1 hD1
    generalize H1 = H at hP hS hc9 ⊢
    obtain ⟨rfl, hw⟩ := hw
    refine vx_catch (own := RL) (name := "java/util/NoSuchElementException") hown [] ⟨0, 10, 13, 31⟩ [] (hTb.trans rfl) (fun z hz => nomatch hz) (by decide) (by decide) (hts _ uw_L_far_ct31) (va_Nw.use rfl (hY.2.2.2.1.2 _ (List.mem_of_getElem? (i := 1) rfl))) hc9 hv9 hcl9 ?_
    refine lv_astore (lv' := [(4, .ref qx9), (0, .ref a0), (1, .int p1), (2, .int p2), (3, .ref a3)]) hx hb (dt_of tkL_far_k0 9 rfl) hl (by decide) rfl (fun ls hl => ?_)
    refine lv_iconst (v := 1) hx hb (dt_of tkL_far_k0 10 rfl) (by decide) ?_
    exact (W.widen (k := 2) (n := 12) (Nat.le_of_ble_eq_true rfl) (Nat.le_of_ble_eq_true rfl) (W.iret (v := 1) hx hb hr (fun t ht hW => ⟨⟨1, (x1, f3), rfl, hw, by rw [ht]; exact hP, va_K.moved hW.alike hK, hD⟩, hS.F ht⟩) hS.2.2 (dt_of tkL_far_k0 11 rfl)))
  obtain ⟨x1, rfl⟩ : ∃ z, z = u := ⟨_, rfl⟩
  obtain ⟨hP1, hK1, hD1⟩ := hB
  rw [ht] at hP1
  obtain ⟨hP, hD⟩ := va_join (wr := [(a3, .inl (cyJ, n3, .inr (.inl f3)))]) (w1 := (wd02_0 a0 jaK jaR ja1 jcp jbc jbV ja3 jbH ja2 jbO jaq jac jbI jbl jbn jba jaa x1 jdD jaR jbs jbt jbo jbp jbk jbj jbe jbq jbE jgP jbi jcd jbs cyI jci jbt cyI jcj)) hP hD [0, 1, 2, 3] [4] rfl rfl (by decide) (by decide) hk1 hFc hP1 hD1
  have hP : va_P (dC, dI) vwCl (wd02_4 a0 jaK jaR ja1 jcp jbc jbV ja3 jbH ja2 jbO jaq jac jbI jbl jbn jba jaa x1 jdD jaR jbs jbt jbo jbp jbk jbj jbe jbq jbE jgP jbi jcd jbs cyI jci jbt cyI jcj a3 cyJ n3 f3) H1 := hP.sub [1, 2, 3, 4, 0] rfl
  have hD : va_D A (wd02_4 a0 jaK jaR ja1 jcp jbc jbV ja3 jbH ja2 jbO jaq jac jbI jbl jbn jba jaa x1 jdD jaR jbs jbt jbo jbp jbk jbj jbe jbq jbE jgP jbi jcd jbs cyI jci jbt cyI jcj a3 cyJ n3 f3) := hD.sub [1, 2, 3, 4, 0] (by decide) rfl
  generalize H1 = H at hP hS ⊢
  refine lv_i2l (v := r2.toInt64) hx hb (dt_of tkL_far_k0 6 rfl) rfl ?_
  refine lv_topl (fun x3 ex3 => ?_)
  have hw := hw x3 ex3
  obtain ⟨hi9, hw⟩ := hw
  refine va_last hx hb hK hP hD hS 4 2 rfl rfl hi9 (dt_of tkL_far_k0 7 rfl) (fun H locs hP hD hS => ?_)
  obtain ⟨f4, ef4⟩ : ∃ y : Nat → Int64, y = vp_updL f3 (0 : Int32).toNatClampNeg x3 := ⟨_, rfl⟩
  have hw := hw f4 ef4
  have hP : va_P (dC, dI) vwCl (wd02_4 a0 jaK jaR ja1 jcp jbc jbV ja3 jbH ja2 jbO jaq jac jbI jbl jbn jba jaa x1 jdD jaR jbs jbt jbo jbp jbk jbj jbe jbq jbE jgP jbi jcd jbs cyI jci jbt cyI jcj a3 cyJ n3 f4) H := by rw [ef4]; exact hP
  have hD : va_D A (wd02_4 a0 jaK jaR ja1 jcp jbc jbV ja3 jbH ja2 jbO jaq jac jbI jbl jbn jba jaa x1 jdD jaR jbs jbt jbo jbp jbk jbj jbe jbq jbE jgP jbi jcd jbs cyI jci jbt cyI jcj a3 cyJ n3 f4) := by rw [ef4]; exact hD
  refine lv_goto (tgt := 17) hx hb (dt_of tkL_far_k0 8 rfl) (by decide) ?_
  refine lv_iconst (v := 0) hx hb (dt_of tkL_far_k0 12 rfl) (by decide) ?_
  exact (W.widen (k := 2) (n := 12) (Nat.le_of_ble_eq_true rfl) (Nat.le_of_ble_eq_true rfl) (W.iret (v := 0) hx hb hr (fun t ht hW => ⟨⟨0, (x1, f4), rfl, hw, by rw [ht]; exact hP, va_K.moved hW.alike hK, hD⟩, hS.F ht⟩) hS.2.2 (dt_of tkL_far_k0 13 rfl)))
set_option maxHeartbeats 4000000 in
set_option maxRecDepth 100000 in
theorem kl_X10_choices_5 {p : Program} {l : Launch} {e : Env} {s : State} {m : MethodId} {args : Array Value} {below : List Frame} {meth : Method} {c : Code} {A : Nat → Prop} (dC : Nat → ClassId) (dI : Nat → Nat → Nat) (cyB cyI cyJ cyP : ClassId)   (Q : Int64 → Prop)  (C0 : cfx p s m args meth c cX10_choices (some .long) wsX10_choices RX10 5 A (dC, dI) (kT cyB cyI cyJ cyP)) : ∀ (n : Nat) (H : Heap) (locs : List Loc) (ls : Array Slot) (l0 l1 : Int32) (l2 : Int64) (l4 : Int32), va_P (dC, dI) vwCl [] H → va_D A [] → va_S A s.heap H locs → lv_has ls 5 [(0, .int l0), (1, .int l1), (2, .long l2), (4, .int l4)] → wl_X10_choices_5  Q  n l0 l1 l2 l4 → W p l e (headSpec wsX10_choices ({ frames := 0, cells := 0, slots := 0, locals := 0 })).room s m args below meth c H locs 0 0 (MQ below (va_Ql (fun (r : Int64) (_ : Unit) => Q r ) (cB (dC, dI) (kT cyB cyI cyJ cyP) A (fun u : Unit => ([] : va_W))) A) args s 0 0 A) (F0 m 5 ls []) := by
  obtain ⟨hx, hb, hr, hts, hown, hlocks, hml, hA, hK, hNw⟩ := id C0
  intro n
  induction n with
  | zero => intro H locs ls l0 l1 l2 l4 hP hD hS hl hw; exact False.elim hw
  | succ n ih =>
    intro H locs ls l0 l1 l2 l4 hP hD hS hl hw
    refine lv_iload hx hb (dt_of tkX10_choices_k0 4 rfl) (lv_at hl 3 rfl) ?_
    refine lv_iload_n hx hb (dt_of tkX10_choices_k0 5 rfl) rfl (lv_at hl 1 rfl) ?_
    refine lv_icmp_gt (tgt := 31) hx hb (dt_of tkX10_choices_k0 6 rfl) (by decide) (fun c1 => ?_) (fun c1 => ?_)
    · have hw := hw.1 c1
      refine lv_lload_n hx hb (dt_of tkX10_choices_k22 5 rfl) rfl (lv_at hl 2 rfl) ?_
      exact ((W.lret (v := l2) hx hb hr (fun t ht hW => ⟨⟨l2, (), rfl, hw, by rw [ht]; exact hP, va_K.moved hW.alike hK, hD⟩, hS.F ht⟩) hS.2.2 (dt_of tkX10_choices_k22 6 rfl)))
    · have hw := hw.2 c1
      refine lv_lload_n hx hb (dt_of tkX10_choices_k0 7 rfl) rfl (lv_at hl 2 rfl) ?_
      refine lv_iload_n hx hb (dt_of tkX10_choices_k0 8 rfl) rfl (lv_at hl 0 rfl) ?_
      refine lv_iload hx hb (dt_of tkX10_choices_k0 9 rfl) (lv_at hl 3 rfl) ?_
      refine lv_isub hx hb (dt_of tkX10_choices_k0 10 rfl) ?_
      refine lv_iconst (v := 1) hx hb (dt_of tkX10_choices_k0 11 rfl) (by decide) ?_
      refine lv_iadd hx hb (dt_of tkX10_choices_k0 12 rfl) ?_
      refine lv_i2l (v := ((l0 - l4) + 1).toInt64) hx hb (dt_of tkX10_choices_k0 13 rfl) rfl ?_
      refine lv_lmul hx hb (dt_of tkX10_choices_k0 14 rfl) ?_
      refine lv_iload hx hb (dt_of tkX10_choices_k0 15 rfl) (lv_at hl 3 rfl) ?_
      refine lv_i2l (v := l4.toInt64) hx hb (dt_of tkX10_choices_k22 0 rfl) rfl ?_
      obtain ⟨hz9, hw⟩ := hw
      refine lv_ldiv hx hb (dt_of tkX10_choices_k22 1 rfl) hz9 ?_
      refine lv_topl (fun x2 ex2 => ?_)
      have hw := hw x2 ex2
      refine lv_lstore_n (lv' := [(2, .long x2), (0, .int l0), (1, .int l1), (4, .int l4)]) hx hb (dt_of tkX10_choices_k22 2 rfl) rfl hl (by decide) rfl (fun ls hl => ?_)
      obtain ⟨x3, ex3⟩ : ∃ y : Int32, y = l4 + 1 := ⟨_, rfl⟩
      have hw := hw x3 ex3
      refine lv_iinc (v := x3) (lv' := [(4, .int x3), (2, .long x2), (0, .int l0), (1, .int l1)]) hx hb (dt_of tkX10_choices_k22 3 rfl) hl (k := 3) rfl (by rw [ex3]; rfl) (by decide) rfl (fun ls hl => ?_)
      refine lv_goto (tgt := 5) hx hb (dt_of tkX10_choices_k22 4 rfl) (by decide) ?_
      exact ih _ _ _ l0 l1 x2 x3 hP hD hS (lv_sub hl [2, 3, 1, 0] rfl) hw
set_option maxHeartbeats 4000000 in
set_option maxRecDepth 100000 in
theorem ck_X10_choices (l : Launch) (dC : Nat → ClassId) (dI : Nat → Nat → Nat) (cyB cyI cyJ cyP : ClassId) (sz : Nat)    (p0 p1 : Int32) {Q : Int64 → Prop} (hw : wq_X10_choices   p0 p1 Q) : Met l yX10_choices wsX10_choices ({ frames := 0, cells := 0, slots := 0, locals := 0 }) (va_Pc [.int p0, .int p1] (cPc (dC, dI) (kT cyB cyI cyJ cyP) [] sz)) (va_Ql (fun (r : Int64) (_ : Unit) => Q r ) (cB (dC, dI) (kT cyB cyI cyJ cyP) (va_A [] sz) (fun u : Unit => ([] : va_W))) (va_A [] sz)) 0 0 (va_A [] sz) := by
  refine Met.ofW (cc := cX10_choices) (maxL := 5) (ret := (some .long)) (by decide) rfl ?_
  intro p e s m args below meth c s₁ B hml hv
  obtain ⟨rfl, hsz, hP, hK, hD0, hNw⟩ := hv
  have hx := B.exec
  have hb := B.bytes
  have hr := B.returns
  have hts := atoms_spec (ws := wsX10_choices) B.pre
  have hown : s.vm.findClass RX10 = some m.cls := findClass_of_methodNamed B.named
  have hlocks := B.notSynchronized
  subst hsz
  have hD := hD0.self (sz := s.heap.size)
  generalize hAe : va_A [] s.heap.size = A at hD ⊢
  have hA : ∀ q : Nat, s.heap.size ≤ q → A q := fun q h => by rw [← hAe]; exact Or.inr h
  have hS : va_S A s.heap s.heap [] := va_S.rf
  have hP : va_P (dC, dI) vwCl [] s.heap := hP
  have hl := lv_entry ([.int p0, .int p1]) (n := 5) (Nat.le_of_ble_eq_true rfl)
  rw [lg_entry_eq]
  generalize (lg_sl ([.int p0, .int p1]) ++ List.replicate (5 - (lg_sl ([.int p0, .int p1])).length) Slot.unset).toArray = ls at hl ⊢
  have hl : lv_has ls 5 [(0, .int p0), (1, .int p1)] := hl
  have C0 : cfx p s m _ meth c cX10_choices (some .long) wsX10_choices RX10 5 A (dC, dI) (kT cyB cyI cyJ cyP) := ⟨hx, hb, hr, hts, hown, hlocks, hml, hA, hK, hNw⟩
  clear hAe
  obtain ⟨H, hH⟩ : ∃ H, H = s.heap := ⟨_, rfl⟩
  rw [← hH] at hP ⊢
  have hS : va_S A s.heap H [] := by rw [hH]; exact va_S.rf
  have hS := hS
  refine lv_lconst (v := 1) hx hb (dt_of tkX10_choices_k0 0 rfl) (by decide) ?_
  refine lv_lstore_n (lv' := [(2, .long 1), (0, .int p0), (1, .int p1)]) hx hb (dt_of tkX10_choices_k0 1 rfl) rfl hl (by decide) rfl (fun ls hl => ?_)
  refine lv_iconst (v := 1) hx hb (dt_of tkX10_choices_k0 2 rfl) (by decide) ?_
  refine lv_istore (lv' := [(4, .int 1), (2, .long 1), (0, .int p0), (1, .int p1)]) hx hb (dt_of tkX10_choices_k0 3 rfl) hl (by decide) rfl (fun ls hl => ?_)
  obtain ⟨n9, hw⟩ := hw
  exact kl_X10_choices_5 dC dI cyB cyI cyJ cyP    Q  C0 n9 _ _ _ p0 p1 1 1 hP hD hS (lv_sub hl [2, 3, 1, 0] rfl) hw
set_option maxHeartbeats 4000000 in
set_option maxRecDepth 100000 in
theorem kl_X10_power_5 {p : Program} {l : Launch} {e : Env} {s : State} {m : MethodId} {args : Array Value} {below : List Frame} {meth : Method} {c : Code} {A : Nat → Prop} (dC : Nat → ClassId) (dI : Nat → Nat → Nat) (cyB cyI cyJ cyP : ClassId)   (Q : Int64 → Prop)  (C0 : cfx p s m args meth c cX10_power (some .long) wsX10_power RX10 5 A (dC, dI) (kT cyB cyI cyJ cyP)) : ∀ (n : Nat) (H : Heap) (locs : List Loc) (ls : Array Slot) (l0 l1 : Int32) (l2 : Int64) (l4 : Int32), va_P (dC, dI) vwCl [] H → va_D A [] → va_S A s.heap H locs → lv_has ls 5 [(0, .int l0), (1, .int l1), (2, .long l2), (4, .int l4)] → wl_X10_power_5  Q  n l0 l1 l2 l4 → W p l e (headSpec wsX10_power ({ frames := 0, cells := 0, slots := 0, locals := 0 })).room s m args below meth c H locs 0 0 (MQ below (va_Ql (fun (r : Int64) (_ : Unit) => Q r ) (cB (dC, dI) (kT cyB cyI cyJ cyP) A (fun u : Unit => ([] : va_W))) A) args s 0 0 A) (F0 m 5 ls []) := by
  obtain ⟨hx, hb, hr, hts, hown, hlocks, hml, hA, hK, hNw⟩ := id C0
  intro n
  induction n with
  | zero => intro H locs ls l0 l1 l2 l4 hP hD hS hl hw; exact False.elim hw
  | succ n ih =>
    intro H locs ls l0 l1 l2 l4 hP hD hS hl hw
    refine lv_iload hx hb (dt_of tkX10_power_k0 4 rfl) (lv_at hl 3 rfl) ?_
    refine lv_iload_n hx hb (dt_of tkX10_power_k0 5 rfl) rfl (lv_at hl 1 rfl) ?_
    refine lv_icmp_ge (tgt := 22) hx hb (dt_of tkX10_power_k0 6 rfl) (by decide) (fun c1 => ?_) (fun c1 => ?_)
    · have hw := hw.1 c1
      refine lv_lload_n hx hb (dt_of tkX10_power_k0 14 rfl) rfl (lv_at hl 2 rfl) ?_
      exact ((W.lret (v := l2) hx hb hr (fun t ht hW => ⟨⟨l2, (), rfl, hw, by rw [ht]; exact hP, va_K.moved hW.alike hK, hD⟩, hS.F ht⟩) hS.2.2 (dt_of tkX10_power_k0 15 rfl)))
    · have hw := hw.2 c1
      refine lv_lload_n hx hb (dt_of tkX10_power_k0 7 rfl) rfl (lv_at hl 2 rfl) ?_
      refine lv_iload_n hx hb (dt_of tkX10_power_k0 8 rfl) rfl (lv_at hl 0 rfl) ?_
      refine lv_i2l (v := l0.toInt64) hx hb (dt_of tkX10_power_k0 9 rfl) rfl ?_
      refine lv_lmul hx hb (dt_of tkX10_power_k0 10 rfl) ?_
      refine lv_topl (fun x2 ex2 => ?_)
      have hw := hw x2 ex2
      refine lv_lstore_n (lv' := [(2, .long x2), (0, .int l0), (1, .int l1), (4, .int l4)]) hx hb (dt_of tkX10_power_k0 11 rfl) rfl hl (by decide) rfl (fun ls hl => ?_)
      obtain ⟨x3, ex3⟩ : ∃ y : Int32, y = l4 + 1 := ⟨_, rfl⟩
      have hw := hw x3 ex3
      refine lv_iinc (v := x3) (lv' := [(4, .int x3), (2, .long x2), (0, .int l0), (1, .int l1)]) hx hb (dt_of tkX10_power_k0 12 rfl) hl (k := 3) rfl (by rw [ex3]; rfl) (by decide) rfl (fun ls hl => ?_)
      refine lv_goto (tgt := 5) hx hb (dt_of tkX10_power_k0 13 rfl) (by decide) ?_
      exact ih _ _ _ l0 l1 x2 x3 hP hD hS (lv_sub hl [2, 3, 1, 0] rfl) hw
set_option maxHeartbeats 4000000 in
set_option maxRecDepth 100000 in
theorem ck_X10_power (l : Launch) (dC : Nat → ClassId) (dI : Nat → Nat → Nat) (cyB cyI cyJ cyP : ClassId) (sz : Nat)    (p0 p1 : Int32) {Q : Int64 → Prop} (hw : wq_X10_power   p0 p1 Q) : Met l yX10_power wsX10_power ({ frames := 0, cells := 0, slots := 0, locals := 0 }) (va_Pc [.int p0, .int p1] (cPc (dC, dI) (kT cyB cyI cyJ cyP) [] sz)) (va_Ql (fun (r : Int64) (_ : Unit) => Q r ) (cB (dC, dI) (kT cyB cyI cyJ cyP) (va_A [] sz) (fun u : Unit => ([] : va_W))) (va_A [] sz)) 0 0 (va_A [] sz) := by
  refine Met.ofW (cc := cX10_power) (maxL := 5) (ret := (some .long)) (by decide) rfl ?_
  intro p e s m args below meth c s₁ B hml hv
  obtain ⟨rfl, hsz, hP, hK, hD0, hNw⟩ := hv
  have hx := B.exec
  have hb := B.bytes
  have hr := B.returns
  have hts := atoms_spec (ws := wsX10_power) B.pre
  have hown : s.vm.findClass RX10 = some m.cls := findClass_of_methodNamed B.named
  have hlocks := B.notSynchronized
  subst hsz
  have hD := hD0.self (sz := s.heap.size)
  generalize hAe : va_A [] s.heap.size = A at hD ⊢
  have hA : ∀ q : Nat, s.heap.size ≤ q → A q := fun q h => by rw [← hAe]; exact Or.inr h
  have hS : va_S A s.heap s.heap [] := va_S.rf
  have hP : va_P (dC, dI) vwCl [] s.heap := hP
  have hl := lv_entry ([.int p0, .int p1]) (n := 5) (Nat.le_of_ble_eq_true rfl)
  rw [lg_entry_eq]
  generalize (lg_sl ([.int p0, .int p1]) ++ List.replicate (5 - (lg_sl ([.int p0, .int p1])).length) Slot.unset).toArray = ls at hl ⊢
  have hl : lv_has ls 5 [(0, .int p0), (1, .int p1)] := hl
  have C0 : cfx p s m _ meth c cX10_power (some .long) wsX10_power RX10 5 A (dC, dI) (kT cyB cyI cyJ cyP) := ⟨hx, hb, hr, hts, hown, hlocks, hml, hA, hK, hNw⟩
  clear hAe
  obtain ⟨H, hH⟩ : ∃ H, H = s.heap := ⟨_, rfl⟩
  rw [← hH] at hP ⊢
  have hS : va_S A s.heap H [] := by rw [hH]; exact va_S.rf
  have hS := hS
  refine lv_lconst (v := 1) hx hb (dt_of tkX10_power_k0 0 rfl) (by decide) ?_
  refine lv_lstore_n (lv' := [(2, .long 1), (0, .int p0), (1, .int p1)]) hx hb (dt_of tkX10_power_k0 1 rfl) rfl hl (by decide) rfl (fun ls hl => ?_)
  refine lv_iconst (v := 0) hx hb (dt_of tkX10_power_k0 2 rfl) (by decide) ?_
  refine lv_istore (lv' := [(4, .int 0), (2, .long 1), (0, .int p0), (1, .int p1)]) hx hb (dt_of tkX10_power_k0 3 rfl) hl (by decide) rfl (fun ls hl => ?_)
  obtain ⟨n9, hw⟩ := hw
  exact kl_X10_power_5 dC dI cyB cyI cyJ cyP    Q  C0 n9 _ _ _ p0 p1 1 0 hP hD hS (lv_sub hl [2, 3, 1, 0] rfl) hw
set_option maxHeartbeats 4000000 in
set_option maxRecDepth 100000 in
theorem kb_X10_few_139 {p : Program} {l : Launch} {e : Env} {s : State} {m : MethodId} {args : Array Value} {below : List Frame} {meth : Method} {c : Code} {A : Nat → Prop} (dC : Nat → ClassId) (dI : Nat → Nat → Nat) (cyB cyI cyJ cyP : ClassId) (a0 : Nat) (jaK jfP ja1 jcp jbc jbV ja3 jbH ja2 jbO jaq jac jbI jbl jbn jba jaa jbA : Value)  (E : String → Int32 → Prop) (Q : Int64 → Int32 → Prop)  (C0 : cfx p s m args meth c cX10_few (some .long) wsX10_few RX10 10 A (dC, dI) (kT cyB cyI cyJ cyP) ∧ cfX l s c A) : ∀ (H : Heap) (locs : List Loc) (ls : Array Slot) (jbz l4 : Int32) (l5 : Int64) (l7 : Int64), va_P (dC, dI) vwCl (wd02_5 a0 jaK jfP ja1 jcp jbc jbV ja3 jbH ja2 jbO jaq jac jbI jbl jbn jba jaa jbA jbz) H → va_D A (wd02_5 a0 jaK jfP ja1 jcp jbc jbV ja3 jbH ja2 jbO jaq jac jbI jbl jbn jba jaa jbA jbz) → va_S A s.heap H locs → lv_has ls 10 [(4, .int l4), (5, .long l5), (7, .long l7)] → wb_X10_few_139  E Q  jbz l4 l5 l7 → W p l e (headSpec wsX10_few ({ frames := 8, cells := 4, slots := 24, locals := 164 })).room s m args below meth c H locs 4 24 (vx_MQ below (va_Ql (fun (r : Int64) (u : Int32) => Q r u) (cB (dC, dI) (kT cyB cyI cyJ cyP) A (fun u : Int32 => ((wd02_5 a0 jaK jfP ja1 jcp jbc jbV ja3 jbH ja2 jbO jaq jac jbI jbl jbn jba jaa jbA u) : va_W))) A) (vx_X (fun _ => True) (fun (en : String) (u : Int32) (t : State) => E en u ∧ cB (dC, dI) (kT cyB cyI cyJ cyP) A (fun u : Int32 => ((wd02_5 a0 jaK jfP ja1 jcp jbc jbV ja3 jbH ja2 jbO jaq jac jbI jbl jbn jba jaa jbA u) : va_W)) u t) A) args s 4 24 A) (F0 m 139 ls []) := by
  obtain ⟨⟨hx, hb, hr, hts, hown, hlocks, hml, hA, hK, hNw⟩, hXs⟩ := id C0
  have hY := hXs.2
  intro H locs ls jbz l4 l5 l7 hP hD hS hl hw
  refine lv_iload hx hb (dt_of tkX10_few_k131 3 rfl) (lv_at hl 0 rfl) ?_
  refine lv_if_ne (tgt := 149) hx hb (dt_of tkX10_few_k131 4 rfl) (by decide) (fun c19 => ?_) (fun c19 => ?_)
  · have hw := hw.1 c19
    refine lv_lload hx hb (dt_of tkX10_few_k131 7 rfl) (lv_at hl 2 rfl) ?_
    exact vx_ret (W.widen (k := 4) (n := 24) (Nat.le_of_ble_eq_true rfl) (Nat.le_of_ble_eq_true rfl) (W.lret (v := l7) hx hb hr (fun t ht hW => ⟨⟨l7, (jbz), rfl, hw, by rw [ht]; exact hP, va_K.moved hW.alike hK, hD⟩, hS.F ht⟩) hS.2.2 (dt_of tkX10_few_k131 8 rfl)))
  · have hw := hw.2 c19
    refine lv_lload hx hb (dt_of tkX10_few_k131 5 rfl) (lv_at hl 1 rfl) ?_
    refine lv_goto (tgt := 151) hx hb (dt_of tkX10_few_k131 6 rfl) (by decide) ?_
    exact vx_ret (W.widen (k := 4) (n := 24) (Nat.le_of_ble_eq_true rfl) (Nat.le_of_ble_eq_true rfl) (W.lret (v := l5) hx hb hr (fun t ht hW => ⟨⟨l5, (jbz), rfl, hw, by rw [ht]; exact hP, va_K.moved hW.alike hK, hD⟩, hS.F ht⟩) hS.2.2 (dt_of tkX10_few_k131 8 rfl)))
set_option maxHeartbeats 4000000 in
set_option maxRecDepth 100000 in
theorem kl_X10_few_96 {p : Program} {l : Launch} {e : Env} {s : State} {m : MethodId} {args : Array Value} {below : List Frame} {meth : Method} {c : Code} {A : Nat → Prop} (dC : Nat → ClassId) (dI : Nat → Nat → Nat) (cyB cyI cyJ cyP : ClassId) (a0 : Nat) (jaK jfP ja1 jcp jbc jbV ja3 jbH ja2 jbO jaq jac jbI jbl jbn jba jaa jbA : Value)  (E : String → Int32 → Prop) (Q : Int64 → Int32 → Prop)  (C0 : cfx p s m args meth c cX10_few (some .long) wsX10_few RX10 10 A (dC, dI) (kT cyB cyI cyJ cyP) ∧ cfX l s c A) : ∀ (n : Nat) (H : Heap) (locs : List Loc) (ls : Array Slot) (jbz l4 : Int32) (l5 : Int64) (l7 : Int64) (l9 : Int32), va_P (dC, dI) vwCl (wd02_5 a0 jaK jfP ja1 jcp jbc jbV ja3 jbH ja2 jbO jaq jac jbI jbl jbn jba jaa jbA jbz) H → va_D A (wd02_5 a0 jaK jfP ja1 jcp jbc jbV ja3 jbH ja2 jbO jaq jac jbI jbl jbn jba jaa jbA jbz) → va_S A s.heap H locs → lv_has ls 10 [(4, .int l4), (5, .long l5), (7, .long l7), (9, .int l9)] → wl_X10_few_96  E Q  n jbz l4 l5 l7 l9 → W p l e (headSpec wsX10_few ({ frames := 8, cells := 4, slots := 24, locals := 164 })).room s m args below meth c H locs 4 24 (vx_MQ below (va_Ql (fun (r : Int64) (u : Int32) => Q r u) (cB (dC, dI) (kT cyB cyI cyJ cyP) A (fun u : Int32 => ((wd02_5 a0 jaK jfP ja1 jcp jbc jbV ja3 jbH ja2 jbO jaq jac jbI jbl jbn jba jaa jbA u) : va_W))) A) (vx_X (fun _ => True) (fun (en : String) (u : Int32) (t : State) => E en u ∧ cB (dC, dI) (kT cyB cyI cyJ cyP) A (fun u : Int32 => ((wd02_5 a0 jaK jfP ja1 jcp jbc jbV ja3 jbH ja2 jbO jaq jac jbI jbl jbn jba jaa jbA u) : va_W)) u t) A) args s 4 24 A) (F0 m 96 ls []) := by
  obtain ⟨⟨hx, hb, hr, hts, hown, hlocks, hml, hA, hK, hNw⟩, hXs⟩ := id C0
  have hY := hXs.2
  intro n
  induction n with
  | zero => intro H locs ls jbz l4 l5 l7 l9 hP hD hS hl hw; exact False.elim hw
  | succ n ih =>
    intro H locs ls jbz l4 l5 l7 l9 hP hD hS hl hw
    refine lv_iload hx hb (dt_of tkX10_few_k80 10 rfl) (lv_at hl 3 rfl) ?_
    refine lv_bipush (v := 48) hx hb (dt_of tkX10_few_k80 11 rfl) (by decide) ?_
    refine lv_icmp_ge (tgt := 139) hx hb (dt_of tkX10_few_k80 12 rfl) (by decide) (fun c13 => ?_) (fun c13 => ?_)
    · have hw := hw.1 c13
      exact kb_X10_few_139 dC dI cyB cyI cyJ cyP a0 jaK jfP ja1 jcp jbc jbV ja3 jbH ja2 jbO jaq jac jbI jbl jbn jba jaa jbA  E Q  C0 _ _ _ jbz l4 l5 l7 hP hD hS (lv_sub hl [0, 1, 2] rfl) hw
    · have hw := hw.2 c13
      refine lv_lload hx hb (dt_of tkX10_few_k80 13 rfl) (lv_at hl 1 rfl) ?_
      refine lv_lconst (v := 1) hx hb (dt_of tkX10_few_k80 14 rfl) (by decide) ?_
      refine lv_land hx hb (dt_of tkX10_few_k80 15 rfl) ?_
      refine lv_lconst (v := 0) hx hb (dt_of tkX10_few_k107 0 rfl) (by decide) ?_
      refine W.lcmp hx hb (dt_of tkX10_few_k107 1 rfl) ?_
      refine lv_if_ne (tgt := 139) hx hb (dt_of tkX10_few_k107 2 rfl) (by decide) (fun c14 => ?_) (fun c14 => ?_)
      · have hw := hw.1 c14
        exact kb_X10_few_139 dC dI cyB cyI cyJ cyP a0 jaK jfP ja1 jcp jbc jbV ja3 jbH ja2 jbO jaq jac jbI jbl jbn jba jaa jbA  E Q  C0 _ _ _ jbz l4 l5 l7 hP hD hS (lv_sub hl [0, 1, 2] rfl) hw
      · have hw := hw.2 c14
        refine lv_lload hx hb (dt_of tkX10_few_k107 3 rfl) (lv_at hl 2 rfl) ?_
        refine lv_lconst (v := 1) hx hb (dt_of tkX10_few_k107 4 rfl) (by decide) ?_
        refine lv_land hx hb (dt_of tkX10_few_k107 5 rfl) ?_
        refine lv_lconst (v := 0) hx hb (dt_of tkX10_few_k107 6 rfl) (by decide) ?_
        refine W.lcmp hx hb (dt_of tkX10_few_k107 7 rfl) ?_
        refine lv_if_ne (tgt := 139) hx hb (dt_of tkX10_few_k107 8 rfl) (by decide) (fun c15 => ?_) (fun c15 => ?_)
        · have hw := hw.1 c15
          exact kb_X10_few_139 dC dI cyB cyI cyJ cyP a0 jaK jfP ja1 jcp jbc jbV ja3 jbH ja2 jbO jaq jac jbI jbl jbn jba jaa jbA  E Q  C0 _ _ _ jbz l4 l5 l7 hP hD hS (lv_sub hl [0, 1, 2] rfl) hw
        · have hw := hw.2 c15
          refine lv_lload hx hb (dt_of tkX10_few_k107 9 rfl) (lv_at hl 1 rfl) ?_
          refine lv_iconst (v := 1) hx hb (dt_of tkX10_few_k107 10 rfl) (by decide) ?_
          refine lv_lshr (v := l5 >>> ((1 : Int32).toInt64 &&& 63)) hx hb (dt_of tkX10_few_k107 11 rfl) rfl ?_
          refine lv_topl (fun x16 ex16 => ?_)
          have hw := hw x16 ex16
          refine lv_lstore (lv' := [(5, .long x16), (4, .int l4), (7, .long l7), (9, .int l9)]) hx hb (dt_of tkX10_few_k107 12 rfl) hl (by decide) rfl (fun ls hl => ?_)
          refine lv_lload hx hb (dt_of tkX10_few_k107 13 rfl) (lv_at hl 2 rfl) ?_
          refine lv_iconst (v := 1) hx hb (dt_of tkX10_few_k107 14 rfl) (by decide) ?_
          refine lv_lshr (v := l7 >>> ((1 : Int32).toInt64 &&& 63)) hx hb (dt_of tkX10_few_k107 15 rfl) rfl ?_
          refine lv_topl (fun x17 ex17 => ?_)
          have hw := hw x17 ex17
          refine lv_lstore (lv' := [(7, .long x17), (5, .long x16), (4, .int l4), (9, .int l9)]) hx hb (dt_of tkX10_few_k131 0 rfl) hl (by decide) rfl (fun ls hl => ?_)
          obtain ⟨x18, ex18⟩ : ∃ y : Int32, y = l9 + 1 := ⟨_, rfl⟩
          have hw := hw x18 ex18
          refine lv_iinc (v := x18) (lv' := [(9, .int x18), (7, .long x17), (5, .long x16), (4, .int l4)]) hx hb (dt_of tkX10_few_k131 1 rfl) hl (k := 3) rfl (by rw [ex18]; rfl) (by decide) rfl (fun ls hl => ?_)
          refine lv_goto (tgt := 96) hx hb (dt_of tkX10_few_k131 2 rfl) (by decide) ?_
          exact ih _ _ _ jbz l4 x16 x17 x18 hP hD hS (lv_sub hl [3, 2, 1, 0] rfl) hw
set_option maxHeartbeats 4000000 in
set_option maxRecDepth 100000 in
theorem kb_X10_few_86 {p : Program} {l : Launch} {e : Env} {s : State} {m : MethodId} {args : Array Value} {below : List Frame} {meth : Method} {c : Code} {A : Nat → Prop} (dC : Nat → ClassId) (dI : Nat → Nat → Nat) (cyB cyI cyJ cyP : ClassId) (a0 : Nat) (jaK jfP ja1 jcp jbc jbV ja3 jbH ja2 jbO jaq jac jbI jbl jbn jba jaa jbA : Value)  (E : String → Int32 → Prop) (Q : Int64 → Int32 → Prop)  (C0 : cfx p s m args meth c cX10_few (some .long) wsX10_few RX10 10 A (dC, dI) (kT cyB cyI cyJ cyP) ∧ cfX l s c A) : ∀ (H : Heap) (locs : List Loc) (ls : Array Slot) (jbz l1 l4 : Int32) (l5 : Int64), va_P (dC, dI) vwCl (wd02_5 a0 jaK jfP ja1 jcp jbc jbV ja3 jbH ja2 jbO jaq jac jbI jbl jbn jba jaa jbA jbz) H → va_D A (wd02_5 a0 jaK jfP ja1 jcp jbc jbV ja3 jbH ja2 jbO jaq jac jbI jbl jbn jba jaa jbA jbz) → va_S A s.heap H locs → lv_has ls 10 [(1, .int l1), (4, .int l4), (5, .long l5)] → wb_X10_few_86  E Q  jbz l1 l4 l5 → W p l e (headSpec wsX10_few ({ frames := 8, cells := 4, slots := 24, locals := 164 })).room s m args below meth c H locs 4 24 (vx_MQ below (va_Ql (fun (r : Int64) (u : Int32) => Q r u) (cB (dC, dI) (kT cyB cyI cyJ cyP) A (fun u : Int32 => ((wd02_5 a0 jaK jfP ja1 jcp jbc jbV ja3 jbH ja2 jbO jaq jac jbI jbl jbn jba jaa jbA u) : va_W))) A) (vx_X (fun _ => True) (fun (en : String) (u : Int32) (t : State) => E en u ∧ cB (dC, dI) (kT cyB cyI cyJ cyP) A (fun u : Int32 => ((wd02_5 a0 jaK jfP ja1 jcp jbc jbV ja3 jbH ja2 jbO jaq jac jbI jbl jbn jba jaa jbA u) : va_W)) u t) A) args s 4 24 A) (F0 m 86 ls []) := by
  obtain ⟨⟨hx, hb, hr, hts, hown, hlocks, hml, hA, hK, hNw⟩, hXs⟩ := id C0
  have hY := hXs.2
  intro H locs ls jbz l1 l4 l5 hP hD hS hl hw
  refine lv_lconst (v := 1) hx hb (dt_of tkX10_few_k80 2 rfl) (by decide) ?_
  refine lv_iconst (v := 4) hx hb (dt_of tkX10_few_k80 3 rfl) (by decide) ?_
  refine lv_iload_n hx hb (dt_of tkX10_few_k80 4 rfl) rfl (lv_at hl 0 rfl) ?_
  refine lv_imul hx hb (dt_of tkX10_few_k80 5 rfl) ?_
  refine lv_lshl (v := (1 : Int64) <<< ((4 * l1).toInt64 &&& 63)) hx hb (dt_of tkX10_few_k80 6 rfl) rfl ?_
  refine lv_topl (fun x12 ex12 => ?_)
  have hw := hw x12 ex12
  refine lv_lstore (lv' := [(7, .long x12), (1, .int l1), (4, .int l4), (5, .long l5)]) hx hb (dt_of tkX10_few_k80 7 rfl) hl (by decide) rfl (fun ls hl => ?_)
  refine lv_iconst (v := 0) hx hb (dt_of tkX10_few_k80 8 rfl) (by decide) ?_
  refine lv_istore (lv' := [(9, .int 0), (7, .long x12), (1, .int l1), (4, .int l4), (5, .long l5)]) hx hb (dt_of tkX10_few_k80 9 rfl) hl (by decide) rfl (fun ls hl => ?_)
  obtain ⟨n9, hw⟩ := hw
  exact kl_X10_few_96 dC dI cyB cyI cyJ cyP a0 jaK jfP ja1 jcp jbc jbV ja3 jbH ja2 jbO jaq jac jbI jbl jbn jba jaa jbA  E Q  C0 n9 _ _ _ jbz l4 l5 x12 0 hP hD hS (lv_sub hl [3, 4, 1, 0] rfl) hw
set_option maxHeartbeats 4000000 in
set_option maxRecDepth 100000 in
theorem kl_X10_few_38 {p : Program} {l : Launch} {e : Env} {s : State} {m : MethodId} {args : Array Value} {below : List Frame} {meth : Method} {c : Code} {A : Nat → Prop} (dC : Nat → ClassId) (dI : Nat → Nat → Nat) (cyB cyI cyJ cyP : ClassId) (a0 : Nat) (jaK jfP ja1 jcp jbc jbV ja3 jbH ja2 jbO jaq jac jbI jbl jbn jba jaa jbA : Value)  (E : String → Int32 → Prop) (Q : Int64 → Int32 → Prop)  (C0 : cfx p s m args meth c cX10_few (some .long) wsX10_few RX10 10 A (dC, dI) (kT cyB cyI cyJ cyP) ∧ cfX l s c A) : ∀ (n : Nat) (H : Heap) (locs : List Loc) (ls : Array Slot) (jbz l1 l2 l3 l4 : Int32) (l5 : Int64) (l7 : Int32), va_P (dC, dI) vwCl (wd02_5 a0 jaK jfP ja1 jcp jbc jbV ja3 jbH ja2 jbO jaq jac jbI jbl jbn jba jaa jbA jbz) H → va_D A (wd02_5 a0 jaK jfP ja1 jcp jbc jbV ja3 jbH ja2 jbO jaq jac jbI jbl jbn jba jaa jbA jbz) → va_S A s.heap H locs → lv_has ls 10 [(1, .int l1), (2, .int l2), (3, .int l3), (4, .int l4), (5, .long l5), (7, .int l7)] → wl_X10_few_38  E Q  n jbz l1 l2 l3 l4 l5 l7 → W p l e (headSpec wsX10_few ({ frames := 8, cells := 4, slots := 24, locals := 164 })).room s m args below meth c H locs 4 24 (vx_MQ below (va_Ql (fun (r : Int64) (u : Int32) => Q r u) (cB (dC, dI) (kT cyB cyI cyJ cyP) A (fun u : Int32 => ((wd02_5 a0 jaK jfP ja1 jcp jbc jbV ja3 jbH ja2 jbO jaq jac jbI jbl jbn jba jaa jbA u) : va_W))) A) (vx_X (fun _ => True) (fun (en : String) (u : Int32) (t : State) => E en u ∧ cB (dC, dI) (kT cyB cyI cyJ cyP) A (fun u : Int32 => ((wd02_5 a0 jaK jfP ja1 jcp jbc jbV ja3 jbH ja2 jbO jaq jac jbI jbl jbn jba jaa jbA u) : va_W)) u t) A) args s 4 24 A) (F0 m 38 ls []) := by
  obtain ⟨⟨hx, hb, hr, hts, hown, hlocks, hml, hA, hK, hNw⟩, hXs⟩ := id C0
  have hY := hXs.2
  intro n
  induction n with
  | zero => intro H locs ls jbz l1 l2 l3 l4 l5 l7 hP hD hS hl hw; exact False.elim hw
  | succ n ih =>
    intro H locs ls jbz l1 l2 l3 l4 l5 l7 hP hD hS hl hw
    refine lv_iload hx hb (dt_of tkX10_few_k25 8 rfl) (lv_at hl 5 rfl) ?_
    refine lv_iload_n hx hb (dt_of tkX10_few_k25 9 rfl) rfl (lv_at hl 1 rfl) ?_
    refine lv_icmp_gt (tgt := 86) hx hb (dt_of tkX10_few_k25 10 rfl) (by decide) (fun c5 => ?_) (fun c5 => ?_)
    · have hw := hw.1 c5
      exact kb_X10_few_86 dC dI cyB cyI cyJ cyP a0 jaK jfP ja1 jcp jbc jbV ja3 jbH ja2 jbO jaq jac jbI jbl jbn jba jaa jbA  E Q  C0 _ _ _ jbz l1 l4 l5 hP hD hS (lv_sub hl [0, 3, 4] rfl) hw
    · have hw := hw.2 c5
      refine lv_iload hx hb (dt_of tkX10_few_k25 11 rfl) (lv_at hl 5 rfl) ?_
      refine lv_iload_n hx hb (dt_of tkX10_few_k25 12 rfl) rfl (lv_at hl 0 rfl) ?_
      refine lv_icmp_gt (tgt := 86) hx hb (dt_of tkX10_few_k25 13 rfl) (by decide) (fun c6 => ?_) (fun c6 => ?_)
      · have hw := hw.1 c6
        exact kb_X10_few_86 dC dI cyB cyI cyJ cyP a0 jaK jfP ja1 jcp jbc jbV ja3 jbH ja2 jbO jaq jac jbI jbl jbn jba jaa jbA  E Q  C0 _ _ _ jbz l1 l4 l5 hP hD hS (lv_sub hl [0, 3, 4] rfl) hw
      · have hw := hw.2 c6
        refine lv_lload hx hb (dt_of tkX10_few_k25 14 rfl) (lv_at hl 4 rfl) ?_
        refine lv_iload_n hx hb (dt_of tkX10_few_k25 15 rfl) rfl (lv_at hl 0 rfl) ?_
        refine lv_iload hx hb (dt_of tkX10_few_k53 0 rfl) (lv_at hl 5 rfl) ?_
        obtain ⟨hCc, hPc, hDc, hFc⟩ := va_pick (ws' := []) hP hD hS hA [] (by decide +kernel) rfl
        refine va_calll (va_runS (As := [.int l1, .int l7]) (rest := [.long l5]) ⟨hx, hb, hml, hown, hts⟩ (ck_X10_choices l dC dI cyB cyI cyJ cyP  H.size    l1 l7 hw) (va_cwS 2 hts gX10_few_X10_choices rfl rfl rfl (by decide +kernel) ⟨Nat.le_of_ble_eq_true rfl, Nat.le_of_ble_eq_true rfl⟩) ⟨cPc_blind, cPc_pre hPc hK hDc hNw⟩ rfl rfl hl.1 rfl (lv_room (Nat.le_of_ble_eq_true rfl)) (dt_of tkX10_few_k53 1 rfl) ⟨Nat.le_of_ble_eq_true rfl, Nat.le_of_ble_eq_true rfl⟩) hS (fun q _ h => hFc q h) hFc (fun r7 u t H1 locs ht hvm hw hB hz1 hk1 hS => ?_)
        obtain ⟨hP1, hK1, hD1⟩ := hB
        rw [ht] at hP1
        obtain ⟨hP, hD⟩ := va_joinI (wr := (wd02_5 a0 jaK jfP ja1 jcp jbc jbV ja3 jbH ja2 jbO jaq jac jbI jbl jbn jba jaa jbA jbz)) (w1 := []) (wn := (wd02_5 a0 jaK jfP ja1 jcp jbc jbV ja3 jbH ja2 jbO jaq jac jbI jbl jbn jba jaa jbA jbz)) hP hD [] [0] hCc rfl (by decide +kernel) (by decide +kernel) rfl hk1 hFc hP1 hD1
        generalize H1 = H at hP hS ⊢
        refine lv_iload_n hx hb (dt_of tkX10_few_k53 2 rfl) rfl (lv_at hl 2 rfl) ?_
        refine lv_iload hx hb (dt_of tkX10_few_k53 3 rfl) (lv_at hl 5 rfl) ?_
        obtain ⟨hCc, hPc, hDc, hFc⟩ := va_pick (ws' := []) hP hD hS hA [] (by decide +kernel) rfl
        refine va_calll (va_runS (As := [.int l3, .int l7]) (rest := [.long r7, .long l5]) ⟨hx, hb, hml, hown, hts⟩ (ck_X10_power l dC dI cyB cyI cyJ cyP  H.size    l3 l7 hw) (va_cwS 2 hts gX10_few_X10_power rfl rfl rfl (by decide +kernel) ⟨Nat.le_of_ble_eq_true rfl, Nat.le_of_ble_eq_true rfl⟩) ⟨cPc_blind, cPc_pre hPc hK hDc hNw⟩ rfl rfl hl.1 rfl (lv_room (Nat.le_of_ble_eq_true rfl)) (dt_of tkX10_few_k53 4 rfl) ⟨Nat.le_of_ble_eq_true rfl, Nat.le_of_ble_eq_true rfl⟩) hS (fun q _ h => hFc q h) hFc (fun r8 u t H1 locs ht hvm hw hB hz1 hk1 hS => ?_)
        obtain ⟨hP1, hK1, hD1⟩ := hB
        rw [ht] at hP1
        obtain ⟨hP, hD⟩ := va_joinI (wr := (wd02_5 a0 jaK jfP ja1 jcp jbc jbV ja3 jbH ja2 jbO jaq jac jbI jbl jbn jba jaa jbA jbz)) (w1 := []) (wn := (wd02_5 a0 jaK jfP ja1 jcp jbc jbV ja3 jbH ja2 jbO jaq jac jbI jbl jbn jba jaa jbA jbz)) hP hD [] [0] hCc rfl (by decide +kernel) (by decide +kernel) rfl hk1 hFc hP1 hD1
        generalize H1 = H at hP hS ⊢
        refine lv_lmul hx hb (dt_of tkX10_few_k53 5 rfl) ?_
        refine lv_bipush (v := 16) hx hb (dt_of tkX10_few_k53 6 rfl) (by decide) ?_
        refine lv_iload_n hx hb (dt_of tkX10_few_k53 7 rfl) rfl (lv_at hl 2 rfl) ?_
        refine lv_isub hx hb (dt_of tkX10_few_k53 8 rfl) ?_
        refine lv_iload_n hx hb (dt_of tkX10_few_k53 9 rfl) rfl (lv_at hl 0 rfl) ?_
        refine lv_iload hx hb (dt_of tkX10_few_k53 10 rfl) (lv_at hl 5 rfl) ?_
        refine lv_isub hx hb (dt_of tkX10_few_k53 11 rfl) ?_
        obtain ⟨hCc, hPc, hDc, hFc⟩ := va_pick (ws' := []) hP hD hS hA [] (by decide +kernel) rfl
        refine va_calll (va_runS (As := [.int (16 - l3), .int (l1 - l7)]) (rest := [.long (r7 * r8), .long l5]) ⟨hx, hb, hml, hown, hts⟩ (ck_X10_power l dC dI cyB cyI cyJ cyP  H.size    (16 - l3) (l1 - l7) hw) (va_cwS 2 hts gX10_few_X10_power rfl rfl rfl (by decide +kernel) ⟨Nat.le_of_ble_eq_true rfl, Nat.le_of_ble_eq_true rfl⟩) ⟨cPc_blind, cPc_pre hPc hK hDc hNw⟩ rfl rfl hl.1 rfl (lv_room (Nat.le_of_ble_eq_true rfl)) (dt_of tkX10_few_k53 12 rfl) ⟨Nat.le_of_ble_eq_true rfl, Nat.le_of_ble_eq_true rfl⟩) hS (fun q _ h => hFc q h) hFc (fun r9 u t H1 locs ht hvm hw hB hz1 hk1 hS => ?_)
        obtain ⟨hP1, hK1, hD1⟩ := hB
        rw [ht] at hP1
        obtain ⟨hP, hD⟩ := va_joinI (wr := (wd02_5 a0 jaK jfP ja1 jcp jbc jbV ja3 jbH ja2 jbO jaq jac jbI jbl jbn jba jaa jbA jbz)) (w1 := []) (wn := (wd02_5 a0 jaK jfP ja1 jcp jbc jbV ja3 jbH ja2 jbO jaq jac jbI jbl jbn jba jaa jbA jbz)) hP hD [] [0] hCc rfl (by decide +kernel) (by decide +kernel) rfl hk1 hFc hP1 hD1
        generalize H1 = H at hP hS ⊢
        refine lv_lmul hx hb (dt_of tkX10_few_k53 13 rfl) ?_
        refine lv_ladd hx hb (dt_of tkX10_few_k53 14 rfl) ?_
        refine lv_topl (fun x10 ex10 => ?_)
        have hw := hw x10 ex10
        refine lv_lstore (lv' := [(5, .long x10), (1, .int l1), (2, .int l2), (3, .int l3), (4, .int l4), (7, .int l7)]) hx hb (dt_of tkX10_few_k53 15 rfl) hl (by decide) rfl (fun ls hl => ?_)
        obtain ⟨x11, ex11⟩ : ∃ y : Int32, y = l7 + 1 := ⟨_, rfl⟩
        have hw := hw x11 ex11
        refine lv_iinc (v := x11) (lv' := [(7, .int x11), (5, .long x10), (1, .int l1), (2, .int l2), (3, .int l3), (4, .int l4)]) hx hb (dt_of tkX10_few_k80 0 rfl) hl (k := 5) rfl (by rw [ex11]; rfl) (by decide) rfl (fun ls hl => ?_)
        refine lv_goto (tgt := 38) hx hb (dt_of tkX10_few_k80 1 rfl) (by decide) ?_
        exact ih _ _ _ jbz l1 l2 l3 l4 x10 x11 hP hD hS (lv_sub hl [2, 3, 4, 5, 1, 0] rfl) hw
set_option maxHeartbeats 4000000 in
set_option maxRecDepth 100000 in
theorem ck_X10_few (l : Launch) (dC : Nat → ClassId) (dI : Nat → Nat → Nat) (cyB cyI cyJ cyP : ClassId) (a0 sz : Nat) (jaK jfP ja1 jcp jbc jbV ja3 jbH ja2 jbO jaq jac jbI jbl jbn jba jaa jbA : Value)  (jbz p1 p2 p3 p4 : Int32) {E : String → Int32 → Prop} {Q : Int64 → Int32 → Prop} (hw : wq_X10_few  jbz p1 p2 p3 p4 E Q) : vx_Met l yX10_few wsX10_few ({ frames := 8, cells := 4, slots := 24, locals := 164 }) (va_Pc [.ref a0, .int p1, .int p2, .int p3, .int p4] (cPx l (dC, dI) (kT cyB cyI cyJ cyP) (wd02_5 a0 jaK jfP ja1 jcp jbc jbV ja3 jbH ja2 jbO jaq jac jbI jbl jbn jba jaa jbA jbz) sz)) (va_Ql (fun (r : Int64) (u : Int32) => Q r u) (cB (dC, dI) (kT cyB cyI cyJ cyP) (va_A (wd02_5 a0 jaK jfP ja1 jcp jbc jbV ja3 jbH ja2 jbO jaq jac jbI jbl jbn jba jaa jbA jbz) sz) (fun u : Int32 => ((wd02_5 a0 jaK jfP ja1 jcp jbc jbV ja3 jbH ja2 jbO jaq jac jbI jbl jbn jba jaa jbA u) : va_W))) (va_A (wd02_5 a0 jaK jfP ja1 jcp jbc jbV ja3 jbH ja2 jbO jaq jac jbI jbl jbn jba jaa jbA jbz) sz)) (vx_X (fun _ => True) (fun (en : String) (u : Int32) (t : State) => E en u ∧ cB (dC, dI) (kT cyB cyI cyJ cyP) (va_A (wd02_5 a0 jaK jfP ja1 jcp jbc jbV ja3 jbH ja2 jbO jaq jac jbI jbl jbn jba jaa jbA jbz) sz) (fun u : Int32 => ((wd02_5 a0 jaK jfP ja1 jcp jbc jbV ja3 jbH ja2 jbO jaq jac jbI jbl jbn jba jaa jbA u) : va_W)) u t) (va_A (wd02_5 a0 jaK jfP ja1 jcp jbc jbV ja3 jbH ja2 jbO jaq jac jbI jbl jbn jba jaa jbA jbz) sz)) 4 24 (va_A (wd02_5 a0 jaK jfP ja1 jcp jbc jbV ja3 jbH ja2 jbO jaq jac jbI jbl jbn jba jaa jbA jbz) sz) := by
  refine vx_ofW (cc := cX10_few) (maxL := 10) (ret := (some .long)) (by decide) rfl ?_
  intro p e s m args below meth c s₁ B hml hnt hv
  obtain ⟨rfl, hsz, hP, hK, hD0, hNw, hXl, hXu, hXn, hXt⟩ := hv
  have hx := B.exec
  have hb := B.bytes
  have hr := B.returns
  have hts := atoms_spec (ws := wsX10_few) B.pre
  have hown : s.vm.findClass RX10 = some m.cls := findClass_of_methodNamed B.named
  have hlocks := B.notSynchronized
  subst hsz
  have hD := hD0.self (sz := s.heap.size)
  generalize hAe : va_A (wd02_5 a0 jaK jfP ja1 jcp jbc jbV ja3 jbH ja2 jbO jaq jac jbI jbl jbn jba jaa jbA jbz) s.heap.size = A at hD hXu hXn ⊢
  have hA : ∀ q : Nat, s.heap.size ≤ q → A q := fun q h => by rw [← hAe]; exact Or.inr h
  have hS : va_S A s.heap s.heap [] := va_S.rf
  have hP : va_P (dC, dI) vwCl (wd02_5 a0 jaK jfP ja1 jcp jbc jbV ja3 jbH ja2 jbO jaq jac jbI jbl jbn jba jaa jbA jbz) s.heap := hP
  have hl := lv_entry ([.ref a0, .int p1, .int p2, .int p3, .int p4]) (n := 10) (Nat.le_of_ble_eq_true rfl)
  rw [lg_entry_eq]
  generalize (lg_sl ([.ref a0, .int p1, .int p2, .int p3, .int p4]) ++ List.replicate (10 - (lg_sl ([.ref a0, .int p1, .int p2, .int p3, .int p4])).length) Slot.unset).toArray = ls at hl ⊢
  have hl : lv_has ls 10 [(0, .ref a0), (1, .int p1), (2, .int p2), (3, .int p3), (4, .int p4)] := hl
  have hY : cfY l s A := ⟨hXl, hXu, hXn, hXt⟩
  have hXs : cfX l s c A := ⟨hnt, hY⟩
  have C0 : cfx p s m _ meth c cX10_few (some .long) wsX10_few RX10 10 A (dC, dI) (kT cyB cyI cyJ cyP) ∧ cfX l s c A := ⟨⟨hx, hb, hr, hts, hown, hlocks, hml, hA, hK, hNw⟩, hXs⟩
  clear hAe
  obtain ⟨H, hH⟩ : ∃ H, H = s.heap := ⟨_, rfl⟩
  rw [← hH] at hP ⊢
  have hS : va_S A s.heap H [] := by rw [hH]; exact va_S.rf
  have hS := hS
  refine lv_aload_n hx hb (dt_of tkX10_few_k0 0 rfl) rfl (lv_at hl 0 rfl) ?_
  refine lv_iload_n hx hb (dt_of tkX10_few_k0 1 rfl) rfl (lv_at hl 1 rfl) ?_
  refine lv_iconst (v := 0) hx hb (dt_of tkX10_few_k0 2 rfl) (by decide) ?_
  refine lv_bipush (v := 12) hx hb (dt_of tkX10_few_k0 3 rfl) (by decide) ?_
  obtain ⟨hCc, hPc, hDc, hFc⟩ := va_pick (ws' := (wd02_5 a0 jaK jfP ja1 jcp jbc jbV ja3 jbH ja2 jbO jaq jac jbI jbl jbn jba jaa jbA jbz)) hP hD hS hA [0] (by decide +kernel) rfl
  refine vx_callv (vx_runV (As := [.int p1, .int 0, .int 12]) (rest := []) ⟨hx, hb, hml, hown, hts⟩ (ck_X10_needWithin l dC dI cyB cyI cyJ cyP a0 H.size (jaK) (jfP) (ja1) (jcp) (jbc) (jbV) (ja3) (jbH) (ja2) (jbO) (jaq) (jac) (jbI) (jbl) (jbn) (jba) (jaa) (jbA)  jbz p1 0 12 hw) (cwV 3 hts gX10_few_X10_needWithin rfl rfl rfl (by decide +kernel) ⟨Nat.le_of_ble_eq_true rfl, Nat.le_of_ble_eq_true rfl⟩) ⟨cPx_blind, va_recv (q := (RX10, TX10, 19)) hK hPc (ci := 10) (q0 := 0) rfl rfl, cPx_pre hPc hK hDc hNw hY hS hFc⟩ rfl rfl hl.1 rfl (lv_room (Nat.le_of_ble_eq_true rfl)) (dt_of tkX10_few_k0 4 rfl) ⟨Nat.le_of_ble_eq_true rfl, Nat.le_of_ble_eq_true rfl⟩) hS (fun q _ h => hFc q h) hFc (fun q _ h => hFc q h) (fun en ce q9 u t H1 locs ht hvm hpx hB hz1 hk1 hS hc9 hv9 hcl9 => ?_) (fun u t H1 locs ht hvm hw hB hz1 hk1 hS => ?_)
  · obtain ⟨x1, rfl⟩ : ∃ z, z = u := ⟨_, rfl⟩
    obtain ⟨hw, hP1, hK1, hD1⟩ := hB
    rw [ht] at hP1
    obtain ⟨hP, hD⟩ := va_joinI (wr := []) (w1 := (wd02_5 a0 jaK jfP ja1 jcp jbc jbV ja3 jbH ja2 jbO jaq jac jbI jbl jbn jba jaa jbA x1)) (wn := (wd02_5 a0 jaK jfP ja1 jcp jbc jbV ja3 jbH ja2 jbO jaq jac jbI jbl jbn jba jaa jbA x1)) hP hD [0] [] hCc rfl (by decide +kernel) (by decide +kernel) rfl hk1 hFc hP1 hD1
    generalize H1 = H at hP hS hc9 ⊢
    exact vx_out (fun x hx9 => (hXs.1 x hx9).elim) hlocks hc9 hv9 hcl9 (fun t2 ht2 hal2 => ⟨(x1), trivial, ⟨hw, by rw [ht2]; exact hP, va_K.moved hal2 hK, hD⟩, hS.F ht2⟩) hS.2.2 (Nat.le_of_ble_eq_true rfl) (Nat.le_of_ble_eq_true rfl)
  obtain ⟨x1, rfl⟩ : ∃ z, z = u := ⟨_, rfl⟩
  obtain ⟨hP1, hK1, hD1⟩ := hB
  rw [ht] at hP1
  obtain ⟨hP, hD⟩ := va_joinI (wr := []) (w1 := (wd02_5 a0 jaK jfP ja1 jcp jbc jbV ja3 jbH ja2 jbO jaq jac jbI jbl jbn jba jaa jbA x1)) (wn := (wd02_5 a0 jaK jfP ja1 jcp jbc jbV ja3 jbH ja2 jbO jaq jac jbI jbl jbn jba jaa jbA x1)) hP hD [0] [] hCc rfl (by decide +kernel) (by decide +kernel) rfl hk1 hFc hP1 hD1
  generalize H1 = H at hP hS ⊢
  refine lv_aload_n hx hb (dt_of tkX10_few_k0 5 rfl) rfl (lv_at hl 0 rfl) ?_
  refine lv_iload_n hx hb (dt_of tkX10_few_k0 6 rfl) rfl (lv_at hl 2 rfl) ?_
  refine lv_iconst (v := 0) hx hb (dt_of tkX10_few_k0 7 rfl) (by decide) ?_
  refine lv_bipush (v := 12) hx hb (dt_of tkX10_few_k0 8 rfl) (by decide) ?_
  obtain ⟨hCc, hPc, hDc, hFc⟩ := va_pick (ws' := (wd02_5 a0 jaK jfP ja1 jcp jbc jbV ja3 jbH ja2 jbO jaq jac jbI jbl jbn jba jaa jbA x1)) hP hD hS hA [0] (by decide +kernel) rfl
  refine vx_callv (vx_runV (As := [.int p2, .int 0, .int 12]) (rest := []) ⟨hx, hb, hml, hown, hts⟩ (ck_X10_needWithin l dC dI cyB cyI cyJ cyP a0 H.size (jaK) (jfP) (ja1) (jcp) (jbc) (jbV) (ja3) (jbH) (ja2) (jbO) (jaq) (jac) (jbI) (jbl) (jbn) (jba) (jaa) (jbA)  x1 p2 0 12 hw) (cwV 3 hts gX10_few_X10_needWithin rfl rfl rfl (by decide +kernel) ⟨Nat.le_of_ble_eq_true rfl, Nat.le_of_ble_eq_true rfl⟩) ⟨cPx_blind, va_recv (q := (RX10, TX10, 19)) hK hPc (ci := 10) (q0 := 0) rfl rfl, cPx_pre hPc hK hDc hNw hY hS hFc⟩ rfl rfl hl.1 rfl (lv_room (Nat.le_of_ble_eq_true rfl)) (dt_of tkX10_few_k0 9 rfl) ⟨Nat.le_of_ble_eq_true rfl, Nat.le_of_ble_eq_true rfl⟩) hS (fun q _ h => hFc q h) hFc (fun q _ h => hFc q h) (fun en ce q9 u t H1 locs ht hvm hpx hB hz1 hk1 hS hc9 hv9 hcl9 => ?_) (fun u t H1 locs ht hvm hw hB hz1 hk1 hS => ?_)
  · obtain ⟨x2, rfl⟩ : ∃ z, z = u := ⟨_, rfl⟩
    obtain ⟨hw, hP1, hK1, hD1⟩ := hB
    rw [ht] at hP1
    obtain ⟨hP, hD⟩ := va_joinI (wr := []) (w1 := (wd02_5 a0 jaK jfP ja1 jcp jbc jbV ja3 jbH ja2 jbO jaq jac jbI jbl jbn jba jaa jbA x2)) (wn := (wd02_5 a0 jaK jfP ja1 jcp jbc jbV ja3 jbH ja2 jbO jaq jac jbI jbl jbn jba jaa jbA x2)) hP hD [0] [] hCc rfl (by decide +kernel) (by decide +kernel) rfl hk1 hFc hP1 hD1
    generalize H1 = H at hP hS hc9 ⊢
    exact vx_out (fun x hx9 => (hXs.1 x hx9).elim) hlocks hc9 hv9 hcl9 (fun t2 ht2 hal2 => ⟨(x2), trivial, ⟨hw, by rw [ht2]; exact hP, va_K.moved hal2 hK, hD⟩, hS.F ht2⟩) hS.2.2 (Nat.le_of_ble_eq_true rfl) (Nat.le_of_ble_eq_true rfl)
  obtain ⟨x2, rfl⟩ : ∃ z, z = u := ⟨_, rfl⟩
  obtain ⟨hP1, hK1, hD1⟩ := hB
  rw [ht] at hP1
  obtain ⟨hP, hD⟩ := va_joinI (wr := []) (w1 := (wd02_5 a0 jaK jfP ja1 jcp jbc jbV ja3 jbH ja2 jbO jaq jac jbI jbl jbn jba jaa jbA x2)) (wn := (wd02_5 a0 jaK jfP ja1 jcp jbc jbV ja3 jbH ja2 jbO jaq jac jbI jbl jbn jba jaa jbA x2)) hP hD [0] [] hCc rfl (by decide +kernel) (by decide +kernel) rfl hk1 hFc hP1 hD1
  generalize H1 = H at hP hS ⊢
  refine lv_aload_n hx hb (dt_of tkX10_few_k0 10 rfl) rfl (lv_at hl 0 rfl) ?_
  refine lv_iload_n hx hb (dt_of tkX10_few_k0 11 rfl) rfl (lv_at hl 3 rfl) ?_
  refine lv_iconst (v := 0) hx hb (dt_of tkX10_few_k0 12 rfl) (by decide) ?_
  refine lv_bipush (v := 16) hx hb (dt_of tkX10_few_k0 13 rfl) (by decide) ?_
  obtain ⟨hCc, hPc, hDc, hFc⟩ := va_pick (ws' := (wd02_5 a0 jaK jfP ja1 jcp jbc jbV ja3 jbH ja2 jbO jaq jac jbI jbl jbn jba jaa jbA x2)) hP hD hS hA [0] (by decide +kernel) rfl
  refine vx_callv (vx_runV (As := [.int p3, .int 0, .int 16]) (rest := []) ⟨hx, hb, hml, hown, hts⟩ (ck_X10_needWithin l dC dI cyB cyI cyJ cyP a0 H.size (jaK) (jfP) (ja1) (jcp) (jbc) (jbV) (ja3) (jbH) (ja2) (jbO) (jaq) (jac) (jbI) (jbl) (jbn) (jba) (jaa) (jbA)  x2 p3 0 16 hw) (cwV 3 hts gX10_few_X10_needWithin rfl rfl rfl (by decide +kernel) ⟨Nat.le_of_ble_eq_true rfl, Nat.le_of_ble_eq_true rfl⟩) ⟨cPx_blind, va_recv (q := (RX10, TX10, 19)) hK hPc (ci := 10) (q0 := 0) rfl rfl, cPx_pre hPc hK hDc hNw hY hS hFc⟩ rfl rfl hl.1 rfl (lv_room (Nat.le_of_ble_eq_true rfl)) (dt_of tkX10_few_k0 14 rfl) ⟨Nat.le_of_ble_eq_true rfl, Nat.le_of_ble_eq_true rfl⟩) hS (fun q _ h => hFc q h) hFc (fun q _ h => hFc q h) (fun en ce q9 u t H1 locs ht hvm hpx hB hz1 hk1 hS hc9 hv9 hcl9 => ?_) (fun u t H1 locs ht hvm hw hB hz1 hk1 hS => ?_)
  · obtain ⟨x3, rfl⟩ : ∃ z, z = u := ⟨_, rfl⟩
    obtain ⟨hw, hP1, hK1, hD1⟩ := hB
    rw [ht] at hP1
    obtain ⟨hP, hD⟩ := va_joinI (wr := []) (w1 := (wd02_5 a0 jaK jfP ja1 jcp jbc jbV ja3 jbH ja2 jbO jaq jac jbI jbl jbn jba jaa jbA x3)) (wn := (wd02_5 a0 jaK jfP ja1 jcp jbc jbV ja3 jbH ja2 jbO jaq jac jbI jbl jbn jba jaa jbA x3)) hP hD [0] [] hCc rfl (by decide +kernel) (by decide +kernel) rfl hk1 hFc hP1 hD1
    generalize H1 = H at hP hS hc9 ⊢
    exact vx_out (fun x hx9 => (hXs.1 x hx9).elim) hlocks hc9 hv9 hcl9 (fun t2 ht2 hal2 => ⟨(x3), trivial, ⟨hw, by rw [ht2]; exact hP, va_K.moved hal2 hK, hD⟩, hS.F ht2⟩) hS.2.2 (Nat.le_of_ble_eq_true rfl) (Nat.le_of_ble_eq_true rfl)
  obtain ⟨x3, rfl⟩ : ∃ z, z = u := ⟨_, rfl⟩
  obtain ⟨hP1, hK1, hD1⟩ := hB
  rw [ht] at hP1
  obtain ⟨hP, hD⟩ := va_joinI (wr := []) (w1 := (wd02_5 a0 jaK jfP ja1 jcp jbc jbV ja3 jbH ja2 jbO jaq jac jbI jbl jbn jba jaa jbA x3)) (wn := (wd02_5 a0 jaK jfP ja1 jcp jbc jbV ja3 jbH ja2 jbO jaq jac jbI jbl jbn jba jaa jbA x3)) hP hD [0] [] hCc rfl (by decide +kernel) (by decide +kernel) rfl hk1 hFc hP1 hD1
  generalize H1 = H at hP hS ⊢
  refine lv_aload_n hx hb (dt_of tkX10_few_k0 15 rfl) rfl (lv_at hl 0 rfl) ?_
  refine lv_iload hx hb (dt_of tkX10_few_k25 0 rfl) (lv_at hl 4 rfl) ?_
  refine lv_iconst (v := 0) hx hb (dt_of tkX10_few_k25 1 rfl) (by decide) ?_
  refine lv_iconst (v := 1) hx hb (dt_of tkX10_few_k25 2 rfl) (by decide) ?_
  obtain ⟨hCc, hPc, hDc, hFc⟩ := va_pick (ws' := (wd02_5 a0 jaK jfP ja1 jcp jbc jbV ja3 jbH ja2 jbO jaq jac jbI jbl jbn jba jaa jbA x3)) hP hD hS hA [0] (by decide +kernel) rfl
  refine vx_callv (vx_runV (As := [.int p4, .int 0, .int 1]) (rest := []) ⟨hx, hb, hml, hown, hts⟩ (ck_X10_needWithin l dC dI cyB cyI cyJ cyP a0 H.size (jaK) (jfP) (ja1) (jcp) (jbc) (jbV) (ja3) (jbH) (ja2) (jbO) (jaq) (jac) (jbI) (jbl) (jbn) (jba) (jaa) (jbA)  x3 p4 0 1 hw) (cwV 3 hts gX10_few_X10_needWithin rfl rfl rfl (by decide +kernel) ⟨Nat.le_of_ble_eq_true rfl, Nat.le_of_ble_eq_true rfl⟩) ⟨cPx_blind, va_recv (q := (RX10, TX10, 19)) hK hPc (ci := 10) (q0 := 0) rfl rfl, cPx_pre hPc hK hDc hNw hY hS hFc⟩ rfl rfl hl.1 rfl (lv_room (Nat.le_of_ble_eq_true rfl)) (dt_of tkX10_few_k25 3 rfl) ⟨Nat.le_of_ble_eq_true rfl, Nat.le_of_ble_eq_true rfl⟩) hS (fun q _ h => hFc q h) hFc (fun q _ h => hFc q h) (fun en ce q9 u t H1 locs ht hvm hpx hB hz1 hk1 hS hc9 hv9 hcl9 => ?_) (fun u t H1 locs ht hvm hw hB hz1 hk1 hS => ?_)
  · obtain ⟨x4, rfl⟩ : ∃ z, z = u := ⟨_, rfl⟩
    obtain ⟨hw, hP1, hK1, hD1⟩ := hB
    rw [ht] at hP1
    obtain ⟨hP, hD⟩ := va_joinI (wr := []) (w1 := (wd02_5 a0 jaK jfP ja1 jcp jbc jbV ja3 jbH ja2 jbO jaq jac jbI jbl jbn jba jaa jbA x4)) (wn := (wd02_5 a0 jaK jfP ja1 jcp jbc jbV ja3 jbH ja2 jbO jaq jac jbI jbl jbn jba jaa jbA x4)) hP hD [0] [] hCc rfl (by decide +kernel) (by decide +kernel) rfl hk1 hFc hP1 hD1
    generalize H1 = H at hP hS hc9 ⊢
    exact vx_out (fun x hx9 => (hXs.1 x hx9).elim) hlocks hc9 hv9 hcl9 (fun t2 ht2 hal2 => ⟨(x4), trivial, ⟨hw, by rw [ht2]; exact hP, va_K.moved hal2 hK, hD⟩, hS.F ht2⟩) hS.2.2 (Nat.le_of_ble_eq_true rfl) (Nat.le_of_ble_eq_true rfl)
  obtain ⟨x4, rfl⟩ : ∃ z, z = u := ⟨_, rfl⟩
  obtain ⟨hP1, hK1, hD1⟩ := hB
  rw [ht] at hP1
  obtain ⟨hP, hD⟩ := va_joinI (wr := []) (w1 := (wd02_5 a0 jaK jfP ja1 jcp jbc jbV ja3 jbH ja2 jbO jaq jac jbI jbl jbn jba jaa jbA x4)) (wn := (wd02_5 a0 jaK jfP ja1 jcp jbc jbV ja3 jbH ja2 jbO jaq jac jbI jbl jbn jba jaa jbA x4)) hP hD [0] [] hCc rfl (by decide +kernel) (by decide +kernel) rfl hk1 hFc hP1 hD1
  generalize H1 = H at hP hS ⊢
  refine lv_lconst (v := 0) hx hb (dt_of tkX10_few_k25 4 rfl) (by decide) ?_
  refine lv_lstore (lv' := [(5, .long 0), (0, .ref a0), (1, .int p1), (2, .int p2), (3, .int p3), (4, .int p4)]) hx hb (dt_of tkX10_few_k25 5 rfl) hl (by decide) rfl (fun ls hl => ?_)
  refine lv_iconst (v := 0) hx hb (dt_of tkX10_few_k25 6 rfl) (by decide) ?_
  refine lv_istore (lv' := [(7, .int 0), (5, .long 0), (0, .ref a0), (1, .int p1), (2, .int p2), (3, .int p3), (4, .int p4)]) hx hb (dt_of tkX10_few_k25 7 rfl) hl (by decide) rfl (fun ls hl => ?_)
  obtain ⟨n9, hw⟩ := hw
  exact kl_X10_few_38 dC dI cyB cyI cyJ cyP a0 jaK jfP ja1 jcp jbc jbV ja3 jbH ja2 jbO jaq jac jbI jbl jbn jba jaa jbA  E Q  C0 n9 _ _ _ x4 p1 p2 p3 p4 0 0 hP hD hS (lv_sub hl [3, 4, 5, 6, 1, 0] rfl) hw
theorem uw_L_few_ct13 : (.classLink RL 13 "java/lang/IllegalArgumentException" : Cond) ∈ wsL_few := mbL_few 595 (by decide +kernel)
theorem uw_L_few_cw : (.codeWith yL_few cL_few 7 (some .int) [(0, 13, 16, 13)] : Cond) ∈ wsL_few := mbL_few 3721 (by decide +kernel)
set_option maxHeartbeats 4000000 in
set_option maxRecDepth 100000 in
theorem ck_L_few (l : Launch) (dC : Nat → ClassId) (dI : Nat → Nat → Nat) (cyB cyI cyJ cyP : ClassId) (a0 a5 sz : Nat) (jaK jfP ja1 jcp jbc jbV ja3 jbH ja2 jbO jaq jac jbI jbl jbn jba jaa jbA : Value) (n5 : Nat) (jbz : Int32) (f5 : Nat → Int64) (p1 p2 p3 p4 : Int32) {Q : Int32 → Int32 → (Nat → Int64) → Prop} (hw : wq_L_few n5 jbz f5 p1 p2 p3 p4 Q) : Met l yL_few wsL_few ({ frames := 9, cells := 4, slots := 24, locals := 193 }) (va_Pc [.ref a0, .int p1, .int p2, .int p3, .int p4, .ref a5] (cPx l (dC, dI) (kT cyB cyI cyJ cyP) (wd02_6 a0 jaK jfP ja1 jcp jbc jbV ja3 jbH ja2 jbO jaq jac jbI jbl jbn jba jaa jbA jbz a5 cyJ n5 f5) sz)) (va_Qi (fun (r : Int32) (u : Int32 × (Nat → Int64)) => Q r u.1 u.2) (cB (dC, dI) (kT cyB cyI cyJ cyP) (va_A (wd02_6 a0 jaK jfP ja1 jcp jbc jbV ja3 jbH ja2 jbO jaq jac jbI jbl jbn jba jaa jbA jbz a5 cyJ n5 f5) sz) (fun u : Int32 × (Nat → Int64) => ((wd02_6 a0 jaK jfP ja1 jcp jbc jbV ja3 jbH ja2 jbO jaq jac jbI jbl jbn jba jaa jbA u.1 a5 cyJ n5 u.2) : va_W))) (va_A (wd02_6 a0 jaK jfP ja1 jcp jbc jbV ja3 jbH ja2 jbO jaq jac jbI jbl jbn jba jaa jbA jbz a5 cyJ n5 f5) sz)) 4 24 (va_A (wd02_6 a0 jaK jfP ja1 jcp jbc jbV ja3 jbH ja2 jbO jaq jac jbI jbl jbn jba jaa jbA jbz a5 cyJ n5 f5) sz) := by
  refine va_MetW (cc := cL_few) (maxL := 7) (ret := (some .int)) (by decide) rfl ?_
  intro p e s m args below meth c s₁ B hml hv
  obtain ⟨rfl, hsz, hP, hK, hD0, hNw, hXl, hXu, hXn, hXt⟩ := hv
  have hx := B.exec
  have hb := B.bytes
  have hr := B.returns
  have hts := atoms_spec (ws := wsL_few) B.pre
  have hown : s.vm.findClass RL = some m.cls := findClass_of_methodNamed B.named
  have hlocks := B.notSynchronized
  subst hsz
  have hD := hD0.self (sz := s.heap.size)
  generalize hAe : va_A (wd02_6 a0 jaK jfP ja1 jcp jbc jbV ja3 jbH ja2 jbO jaq jac jbI jbl jbn jba jaa jbA jbz a5 cyJ n5 f5) s.heap.size = A at hD hXu hXn ⊢
  have hA : ∀ q : Nat, s.heap.size ≤ q → A q := fun q h => by rw [← hAe]; exact Or.inr h
  have hS : va_S A s.heap s.heap [] := va_S.rf
  have hP : va_P (dC, dI) vwCl (wd02_6 a0 jaK jfP ja1 jcp jbc jbV ja3 jbH ja2 jbO jaq jac jbI jbl jbn jba jaa jbA jbz a5 cyJ n5 f5) s.heap := hP
  have hl := lv_entry ([.ref a0, .int p1, .int p2, .int p3, .int p4, .ref a5]) (n := 7) (Nat.le_of_ble_eq_true rfl)
  rw [lg_entry_eq]
  generalize (lg_sl ([.ref a0, .int p1, .int p2, .int p3, .int p4, .ref a5]) ++ List.replicate (7 - (lg_sl ([.ref a0, .int p1, .int p2, .int p3, .int p4, .ref a5])).length) Slot.unset).toArray = ls at hl ⊢
  have hl : lv_has ls 7 [(0, .ref a0), (1, .int p1), (2, .int p2), (3, .int p3), (4, .int p4), (5, .ref a5)] := hl
  have hY : cfY l s A := ⟨hXl, hXu, hXn, hXt⟩
  have hTb := vx_table (x := yL_few) B (hts _ uw_L_few_cw)
  clear hAe
  obtain ⟨H, hH⟩ : ∃ H, H = s.heap := ⟨_, rfl⟩
  rw [← hH] at hP ⊢
  have hS : va_S A s.heap H [] := by rw [hH]; exact va_S.rf
  have hS := hS
  refine lv_aload hx hb (dt_of tkL_few_k0 0 rfl) (lv_at hl 5 rfl) ?_
  refine lv_iconst (v := 0) hx hb (dt_of tkL_few_k0 1 rfl) (by decide) ?_
  refine lv_aload_n hx hb (dt_of tkL_few_k0 2 rfl) rfl (lv_at hl 0 rfl) ?_
  refine lv_iload_n hx hb (dt_of tkL_few_k0 3 rfl) rfl (lv_at hl 1 rfl) ?_
  refine lv_iload_n hx hb (dt_of tkL_few_k0 4 rfl) rfl (lv_at hl 2 rfl) ?_
  refine lv_iload_n hx hb (dt_of tkL_few_k0 5 rfl) rfl (lv_at hl 3 rfl) ?_
  refine lv_iload hx hb (dt_of tkL_few_k0 6 rfl) (lv_at hl 4 rfl) ?_
  obtain ⟨hCc, hPc, hDc, hFc⟩ := va_pick (ws' := (wd02_5 a0 jaK jfP ja1 jcp jbc jbV ja3 jbH ja2 jbO jaq jac jbI jbl jbn jba jaa jbA jbz)) hP hD hS hA [0] (by decide +kernel) rfl
  refine vx_calll (vx_runV (As := [.int p1, .int p2, .int p3, .int p4]) (rest := [.int 0, .ref a5]) ⟨hx, hb, hml, hown, hts⟩ (ck_X10_few l dC dI cyB cyI cyJ cyP a0 H.size (jaK) (jfP) (ja1) (jcp) (jbc) (jbV) (ja3) (jbH) (ja2) (jbO) (jaq) (jac) (jbI) (jbl) (jbn) (jba) (jaa) (jbA)  jbz p1 p2 p3 p4 hw) (cwV 4 hts gL_few_X10_few rfl rfl rfl (by decide +kernel) ⟨Nat.le_of_ble_eq_true rfl, Nat.le_of_ble_eq_true rfl⟩) ⟨cPx_blind, va_recv (q := (RX10, TX10, 19)) hK hPc (ci := 10) (q0 := 0) rfl rfl, cPx_pre hPc hK hDc hNw hY hS hFc⟩ rfl rfl hl.1 rfl (lv_room (Nat.le_of_ble_eq_true rfl)) (dt_of tkL_few_k0 7 rfl) ⟨Nat.le_of_ble_eq_true rfl, Nat.le_of_ble_eq_true rfl⟩) hS (fun q _ h => hFc q h) hFc (fun q _ h => hFc q h) (fun en ce qx9 u t H1 locs ht hvm hpx hB hz1 hk1 hS hc9 hv9 hcl9 => ?_) (fun r2 u t H1 locs ht hvm hw hB hz1 hk1 hS => ?_)
  · obtain ⟨x1, rfl⟩ : ∃ z, z = u := ⟨_, rfl⟩
    obtain ⟨hw, hP1, hK1, hD1⟩ := hB
    rw [ht] at hP1
    obtain ⟨hP, hD⟩ := va_joinN (wr := [(a5, .inl (cyJ, n5, .inr (.inl f5)))]) (w1 := (wd02_5 a0 jaK jfP ja1 jcp jbc jbV ja3 jbH ja2 jbO jaq jac jbI jbl jbn jba jaa jbA x1)) (wn := (wd02_6 a0 jaK jfP ja1 jcp jbc jbV ja3 jbH ja2 jbO jaq jac jbI jbl jbn jba jaa jbA x1 a5 cyJ n5 f5)) hP hD [0] [1] [1, 0] hCc rfl (by decide +kernel) (by decide +kernel) (by decide +kernel) rfl hk1 hFc hP1 hD1
    generalize H1 = H at hP hS hc9 ⊢
    obtain ⟨rfl, hw⟩ := hw
    refine vx_catch (own := RL) (name := "java/lang/IllegalArgumentException") hown [] ⟨0, 13, 16, 13⟩ [] (hTb.trans rfl) (fun z hz => nomatch hz) (by decide) (by decide) (hts _ uw_L_few_ct13) (va_Nw.use rfl (hY.2.2.2.1.2 _ (List.mem_of_getElem? (i := 0) rfl))) hc9 hv9 hcl9 ?_
    refine lv_astore (lv' := [(6, .ref qx9), (0, .ref a0), (1, .int p1), (2, .int p2), (3, .int p3), (4, .int p4), (5, .ref a5)]) hx hb (dt_of tkL_few_k0 10 rfl) hl (by decide) rfl (fun ls hl => ?_)
    refine lv_iconst (v := 1) hx hb (dt_of tkL_few_k0 11 rfl) (by decide) ?_
    exact (W.widen (k := 4) (n := 24) (Nat.le_of_ble_eq_true rfl) (Nat.le_of_ble_eq_true rfl) (W.iret (v := 1) hx hb hr (fun t ht hW => ⟨⟨1, (x1, f5), rfl, hw, by rw [ht]; exact hP, va_K.moved hW.alike hK, hD⟩, hS.F ht⟩) hS.2.2 (dt_of tkL_few_k0 12 rfl)))
  obtain ⟨x1, rfl⟩ : ∃ z, z = u := ⟨_, rfl⟩
  obtain ⟨hP1, hK1, hD1⟩ := hB
  rw [ht] at hP1
  obtain ⟨hP, hD⟩ := va_join (wr := [(a5, .inl (cyJ, n5, .inr (.inl f5)))]) (w1 := (wd02_5 a0 jaK jfP ja1 jcp jbc jbV ja3 jbH ja2 jbO jaq jac jbI jbl jbn jba jaa jbA x1)) hP hD [0] [1] rfl rfl (by decide) (by decide) hk1 hFc hP1 hD1
  have hP : va_P (dC, dI) vwCl (wd02_6 a0 jaK jfP ja1 jcp jbc jbV ja3 jbH ja2 jbO jaq jac jbI jbl jbn jba jaa jbA x1 a5 cyJ n5 f5) H1 := hP.sub [1, 0] rfl
  have hD : va_D A (wd02_6 a0 jaK jfP ja1 jcp jbc jbV ja3 jbH ja2 jbO jaq jac jbI jbl jbn jba jaa jbA x1 a5 cyJ n5 f5) := hD.sub [1, 0] (by decide) rfl
  generalize H1 = H at hP hS ⊢
  obtain ⟨hi9, hw⟩ := hw
  refine va_last hx hb hK hP hD hS 1 2 rfl rfl hi9 (dt_of tkL_few_k0 8 rfl) (fun H locs hP hD hS => ?_)
  obtain ⟨f3, ef3⟩ : ∃ y : Nat → Int64, y = vp_updL f5 (0 : Int32).toNatClampNeg r2 := ⟨_, rfl⟩
  have hw := hw f3 ef3
  have hP : va_P (dC, dI) vwCl (wd02_6 a0 jaK jfP ja1 jcp jbc jbV ja3 jbH ja2 jbO jaq jac jbI jbl jbn jba jaa jbA x1 a5 cyJ n5 f3) H := by rw [ef3]; exact hP
  have hD : va_D A (wd02_6 a0 jaK jfP ja1 jcp jbc jbV ja3 jbH ja2 jbO jaq jac jbI jbl jbn jba jaa jbA x1 a5 cyJ n5 f3) := by rw [ef3]; exact hD
  refine lv_goto (tgt := 20) hx hb (dt_of tkL_few_k0 9 rfl) (by decide) ?_
  refine lv_iconst (v := 0) hx hb (dt_of tkL_few_k0 13 rfl) (by decide) ?_
  exact (W.widen (k := 4) (n := 24) (Nat.le_of_ble_eq_true rfl) (Nat.le_of_ble_eq_true rfl) (W.iret (v := 0) hx hb hr (fun t ht hW => ⟨⟨0, (x1, f3), rfl, hw, by rw [ht]; exact hP, va_K.moved hW.alike hK, hD⟩, hS.F ht⟩) hS.2.2 (dt_of tkL_few_k0 14 rfl)))
theorem ui_X3_seatedThen_X3 : ∀ w ∈ u_ws RX3 TX3 11, w ∈ wsX3_seatedThen := uiM mbX3_seatedThen euX3 (by decide +kernel)
theorem uw_X3_seatedThen_f15 : (.fieldLink RX3 15 "MarchHares$Fitting" "sits" "[I" : Cond) ∈ wsX3_seatedThen := mbX3_seatedThen 391 (by decide +kernel)
theorem uw_X3_seatedThen_f9 : (.fieldLink RX3 9 "MarchHares$Fitting" "seated" "[I" : Cond) ∈ wsX3_seatedThen := mbX3_seatedThen 390 (by decide +kernel)
set_option maxHeartbeats 4000000 in
set_option maxRecDepth 100000 in
theorem kb_X3_seatedThen_21 {p : Program} {l : Launch} {e : Env} {s : State} {m : MethodId} {args : Array Value} {below : List Frame} {meth : Method} {c : Code} {A : Nat → Prop} (dC : Nat → ClassId) (dI : Nat → Nat → Nat) (cyB cyI cyJ cyP : ClassId) (a0 jhX ji2 : Nat) (jlU jmo ja4 ja0 jaO jmb jmc jkn jjZ : Value) (jiL jjH : Nat → Int32) (Q : Int32 → Prop)  (C0 : cfx p s m args meth c cX3_seatedThen (some .int) wsX3_seatedThen RX3 4 A (dC, dI) (kT cyB cyI cyJ cyP)) : ∀ (H : Heap) (locs : List Loc) (ls : Array Slot) (l1 l3 s0 s1 : Int32), va_P (dC, dI) vwCl (wd02_7 a0 jhX ji2 jlU jmo ja4 ja0 jaO jmb jmc jkn jjZ jhX cyI jiL ji2 cyI jjH) H → va_D A (wd02_7 a0 jhX ji2 jlU jmo ja4 ja0 jaO jmb jmc jkn jjZ jhX cyI jiL ji2 cyI jjH) → va_S A s.heap H locs → lv_has ls 4 [(1, .int l1), (3, .int l3)] → wb_X3_seatedThen_21 jiL jjH Q  l1 l3 s0 s1 → W p l e (headSpec wsX3_seatedThen ({ frames := 0, cells := 0, slots := 0, locals := 0 })).room s m args below meth c H locs 0 0 (MQ below (va_Qi (fun (r : Int32) (_ : Unit) => Q r ) (cB (dC, dI) (kT cyB cyI cyJ cyP) A (fun u : Unit => ((wd02_7 a0 jhX ji2 jlU jmo ja4 ja0 jaO jmb jmc jkn jjZ jhX cyI jiL ji2 cyI jjH) : va_W))) A) args s 0 0 A) (F0 m 21 ls [.int s1, .int s0]) := by
  obtain ⟨hx, hb, hr, hts, hown, hlocks, hml, hA, hK, hNw⟩ := id C0
  intro H locs ls l1 l3 s0 s1 hP hD hS hl hw
  refine lv_isub hx hb (dt_of tkX3_seatedThen_k0 13 rfl) ?_
  refine lv_iload_n hx hb (dt_of tkX3_seatedThen_k0 14 rfl) rfl (lv_at hl 1 rfl) ?_
  refine lv_iload_n hx hb (dt_of tkX3_seatedThen_k0 15 rfl) rfl (lv_at hl 0 rfl) ?_
  refine lv_icmp_ne (tgt := 31) hx hb (dt_of tkX3_seatedThen_k24 0 rfl) (by decide) (fun c4 => ?_) (fun c4 => ?_)
  · have hw := hw.1 c4
    refine lv_iconst (v := 0) hx hb (dt_of tkX3_seatedThen_k24 3 rfl) (by decide) ?_
    refine lv_iadd hx hb (dt_of tkX3_seatedThen_k24 4 rfl) ?_
    exact ((W.iret (v := ((s0 - s1) + 0)) hx hb hr (fun t ht hW => ⟨⟨((s0 - s1) + 0), (), rfl, hw, by rw [ht]; exact hP, va_K.moved hW.alike hK, hD⟩, hS.F ht⟩) hS.2.2 (dt_of tkX3_seatedThen_k24 5 rfl)))
  · have hw := hw.2 c4
    refine lv_iconst (v := 1) hx hb (dt_of tkX3_seatedThen_k24 1 rfl) (by decide) ?_
    refine lv_goto (tgt := 32) hx hb (dt_of tkX3_seatedThen_k24 2 rfl) (by decide) ?_
    refine lv_iadd hx hb (dt_of tkX3_seatedThen_k24 4 rfl) ?_
    exact ((W.iret (v := ((s0 - s1) + 1)) hx hb hr (fun t ht hW => ⟨⟨((s0 - s1) + 1), (), rfl, hw, by rw [ht]; exact hP, va_K.moved hW.alike hK, hD⟩, hS.F ht⟩) hS.2.2 (dt_of tkX3_seatedThen_k24 5 rfl)))
set_option maxHeartbeats 4000000 in
set_option maxRecDepth 100000 in
theorem ck_X3_seatedThen (l : Launch) (dC : Nat → ClassId) (dI : Nat → Nat → Nat) (cyB cyI cyJ cyP : ClassId) (a0 jhX ji2 sz : Nat) (jlU jmo ja4 ja0 jaO jmb jmc jkn jjZ : Value) (jiL jjH : Nat → Int32)  (p1 p2 p3 : Int32) {Q : Int32 → Prop} (hw : wq_X3_seatedThen jiL jjH  p1 p2 p3 Q) : Met l yX3_seatedThen wsX3_seatedThen ({ frames := 0, cells := 0, slots := 0, locals := 0 }) (va_Pc [.ref a0, .int p1, .int p2, .int p3] (cPc (dC, dI) (kT cyB cyI cyJ cyP) (wd02_7 a0 jhX ji2 jlU jmo ja4 ja0 jaO jmb jmc jkn jjZ jhX cyI jiL ji2 cyI jjH) sz)) (va_Qi (fun (r : Int32) (_ : Unit) => Q r ) (cB (dC, dI) (kT cyB cyI cyJ cyP) (va_A (wd02_7 a0 jhX ji2 jlU jmo ja4 ja0 jaO jmb jmc jkn jjZ jhX cyI jiL ji2 cyI jjH) sz) (fun u : Unit => ((wd02_7 a0 jhX ji2 jlU jmo ja4 ja0 jaO jmb jmc jkn jjZ jhX cyI jiL ji2 cyI jjH) : va_W))) (va_A (wd02_7 a0 jhX ji2 jlU jmo ja4 ja0 jaO jmb jmc jkn jjZ jhX cyI jiL ji2 cyI jjH) sz)) 0 0 (va_A (wd02_7 a0 jhX ji2 jlU jmo ja4 ja0 jaO jmb jmc jkn jjZ jhX cyI jiL ji2 cyI jjH) sz) := by
  refine Met.ofW (cc := cX3_seatedThen) (maxL := 4) (ret := (some .int)) (by decide) rfl ?_
  intro p e s m args below meth c s₁ B hml hv
  obtain ⟨rfl, hsz, hP, hK, hD0, hNw⟩ := hv
  have hx := B.exec
  have hb := B.bytes
  have hr := B.returns
  have hts := atoms_spec (ws := wsX3_seatedThen) B.pre
  have hown : s.vm.findClass RX3 = some m.cls := findClass_of_methodNamed B.named
  have hlocks := B.notSynchronized
  subst hsz
  have hD := hD0.self (sz := s.heap.size)
  generalize hAe : va_A (wd02_7 a0 jhX ji2 jlU jmo ja4 ja0 jaO jmb jmc jkn jjZ jhX cyI jiL ji2 cyI jjH) s.heap.size = A at hD ⊢
  have hA : ∀ q : Nat, s.heap.size ≤ q → A q := fun q h => by rw [← hAe]; exact Or.inr h
  have hS : va_S A s.heap s.heap [] := va_S.rf
  have hP : va_P (dC, dI) vwCl (wd02_7 a0 jhX ji2 jlU jmo ja4 ja0 jaO jmb jmc jkn jjZ jhX cyI jiL ji2 cyI jjH) s.heap := hP
  have hl := lv_entry ([.ref a0, .int p1, .int p2, .int p3]) (n := 4) (Nat.le_of_ble_eq_true rfl)
  rw [lg_entry_eq]
  generalize (lg_sl ([.ref a0, .int p1, .int p2, .int p3]) ++ List.replicate (4 - (lg_sl ([.ref a0, .int p1, .int p2, .int p3])).length) Slot.unset).toArray = ls at hl ⊢
  have hl : lv_has ls 4 [(0, .ref a0), (1, .int p1), (2, .int p2), (3, .int p3)] := hl
  have C0 : cfx p s m _ meth c cX3_seatedThen (some .int) wsX3_seatedThen RX3 4 A (dC, dI) (kT cyB cyI cyJ cyP) := ⟨hx, hb, hr, hts, hown, hlocks, hml, hA, hK, hNw⟩
  clear hAe
  obtain ⟨H, hH⟩ : ∃ H, H = s.heap := ⟨_, rfl⟩
  rw [← hH] at hP ⊢
  have hS : va_S A s.heap H [] := by rw [hH]; exact va_S.rf
  have hS := hS
  refine lv_aload_n hx hb (dt_of tkX3_seatedThen_k0 0 rfl) rfl (lv_at hl 0 rfl) ?_
  refine va_get (D := (dC, dI)) (ci := 3) (v := .ref jhX) (C := RX3) (T := TX3) (N := 11) hx hb hts ui_X3_seatedThen_X3 hown hK hP 0 rfl rfl 0 (by decide) (hts _ uw_X3_seatedThen_f9) (fun _ h9 => h9) rfl (dt_of tkX3_seatedThen_k0 1 rfl) ?_
  refine lv_iload_n hx hb (dt_of tkX3_seatedThen_k0 2 rfl) rfl (lv_at hl 1 rfl) ?_
  obtain ⟨hi9, hw⟩ := hw
  refine va_iald hx hb hK hP 1 1 rfl rfl hi9 (dt_of tkX3_seatedThen_k0 3 rfl) ?_
  refine lv_topi (fun x1 ex1 => ?_)
  have hw := hw x1 ex1
  refine lv_aload_n hx hb (dt_of tkX3_seatedThen_k0 4 rfl) rfl (lv_at hl 0 rfl) ?_
  refine va_get (D := (dC, dI)) (ci := 3) (v := .ref ji2) (C := RX3) (T := TX3) (N := 11) hx hb hts ui_X3_seatedThen_X3 hown hK hP 0 rfl rfl 1 (by decide) (hts _ uw_X3_seatedThen_f15) (fun _ h9 => h9) rfl (dt_of tkX3_seatedThen_k0 5 rfl) ?_
  refine lv_iload_n hx hb (dt_of tkX3_seatedThen_k0 6 rfl) rfl (lv_at hl 2 rfl) ?_
  obtain ⟨hi9, hw⟩ := hw
  refine va_iald hx hb hK hP 2 1 rfl rfl hi9 (dt_of tkX3_seatedThen_k0 7 rfl) ?_
  refine lv_topi (fun x2 ex2 => ?_)
  have hw := hw x2 ex2
  refine lv_iload_n hx hb (dt_of tkX3_seatedThen_k0 8 rfl) rfl (lv_at hl 1 rfl) ?_
  refine lv_icmp_ne (tgt := 20) hx hb (dt_of tkX3_seatedThen_k0 9 rfl) (by decide) (fun c3 => ?_) (fun c3 => ?_)
  · have hw := hw.1 c3
    refine lv_iconst (v := 0) hx hb (dt_of tkX3_seatedThen_k0 12 rfl) (by decide) ?_
    exact kb_X3_seatedThen_21 dC dI cyB cyI cyJ cyP a0 jhX ji2 jlU jmo ja4 ja0 jaO jmb jmc jkn jjZ jiL jjH Q  C0 _ _ _ p1 p3 x1 0 hP hD hS (lv_sub hl [1, 3] rfl) hw
  · have hw := hw.2 c3
    refine lv_iconst (v := 1) hx hb (dt_of tkX3_seatedThen_k0 10 rfl) (by decide) ?_
    refine lv_goto (tgt := 21) hx hb (dt_of tkX3_seatedThen_k0 11 rfl) (by decide) ?_
    exact kb_X3_seatedThen_21 dC dI cyB cyI cyJ cyP a0 jhX ji2 jlU jmo ja4 ja0 jaO jmb jmc jkn jjZ jiL jjH Q  C0 _ _ _ p1 p3 x1 1 hP hD hS (lv_sub hl [1, 3] rfl) hw
theorem ui_X0_agrees_X0 : ∀ w ∈ u_ws RX0 TX0 2, w ∈ wsX0_agrees := uiM mbX0_agrees euX0 (by decide +kernel)
theorem uw_X0_agrees_f9 : (.fieldLink RX0 9 "MarchHares$Book" "seen" "[I" : Cond) ∈ wsX0_agrees := mbX0_agrees 257 (by decide +kernel)
set_option maxHeartbeats 4000000 in
set_option maxRecDepth 100000 in
theorem kb_X0_agrees_20 {p : Program} {l : Launch} {e : Env} {s : State} {m : MethodId} {args : Array Value} {below : List Frame} {meth : Method} {c : Code} {A : Nat → Prop} (dC : Nat → ClassId) (dI : Nat → Nat → Nat) (cyB cyI cyJ cyP : ClassId) (a0 jjj : Nat) (jmb : Value) (jkG : Nat → Int32) (Q : Int32 → Prop)  (C0 : cfx p s m args meth c cX0_agrees (some .boolean) wsX0_agrees RX0 3 A (dC, dI) (kT cyB cyI cyJ cyP)) : ∀ (H : Heap) (locs : List Loc) (ls : Array Slot) , va_P (dC, dI) vwCl (wd02_8 a0 jjj jmb jjj cyI jkG) H → va_D A (wd02_8 a0 jjj jmb jjj cyI jkG) → va_S A s.heap H locs → lv_has ls 3 [] → wb_X0_agrees_20 jkG Q   → W p l e (headSpec wsX0_agrees ({ frames := 0, cells := 0, slots := 0, locals := 0 })).room s m args below meth c H locs 0 0 (MQ below (va_Qi (fun (r : Int32) (_ : Unit) => Q r ) (cB (dC, dI) (kT cyB cyI cyJ cyP) A (fun u : Unit => ((wd02_8 a0 jjj jmb jjj cyI jkG) : va_W))) A) args s 0 0 A) (F0 m 20 ls []) := by
  obtain ⟨hx, hb, hr, hts, hown, hlocks, hml, hA, hK, hNw⟩ := id C0
  intro H locs ls  hP hD hS hl hw
  refine lv_iconst (v := 1) hx hb (dt_of tkX0_agrees_k0 12 rfl) (by decide) ?_
  refine lv_goto (tgt := 25) hx hb (dt_of tkX0_agrees_k0 13 rfl) (by decide) ?_
  exact ((W.zret (v := 1) hx hb hr rfl (fun t ht hW => ⟨⟨1, (), rfl, hw, by rw [ht]; exact hP, va_K.moved hW.alike hK, hD⟩, hS.F ht⟩) hS.2.2 (dt_of tkX0_agrees_k0 15 rfl)))
set_option maxHeartbeats 4000000 in
set_option maxRecDepth 100000 in
theorem ck_X0_agrees (l : Launch) (dC : Nat → ClassId) (dI : Nat → Nat → Nat) (cyB cyI cyJ cyP : ClassId) (a0 jjj sz : Nat) (jmb : Value) (jkG : Nat → Int32)  (p1 p2 : Int32) {Q : Int32 → Prop} (hw : wq_X0_agrees jkG  p1 p2 Q) : Met l yX0_agrees wsX0_agrees ({ frames := 0, cells := 0, slots := 0, locals := 0 }) (va_Pc [.ref a0, .int p1, .int p2] (cPc (dC, dI) (kT cyB cyI cyJ cyP) (wd02_8 a0 jjj jmb jjj cyI jkG) sz)) (va_Qi (fun (r : Int32) (_ : Unit) => Q r ) (cB (dC, dI) (kT cyB cyI cyJ cyP) (va_A (wd02_8 a0 jjj jmb jjj cyI jkG) sz) (fun u : Unit => ((wd02_8 a0 jjj jmb jjj cyI jkG) : va_W))) (va_A (wd02_8 a0 jjj jmb jjj cyI jkG) sz)) 0 0 (va_A (wd02_8 a0 jjj jmb jjj cyI jkG) sz) := by
  refine Met.ofW (cc := cX0_agrees) (maxL := 3) (ret := (some .boolean)) (by decide) rfl ?_
  intro p e s m args below meth c s₁ B hml hv
  obtain ⟨rfl, hsz, hP, hK, hD0, hNw⟩ := hv
  have hx := B.exec
  have hb := B.bytes
  have hr := B.returns
  have hts := atoms_spec (ws := wsX0_agrees) B.pre
  have hown : s.vm.findClass RX0 = some m.cls := findClass_of_methodNamed B.named
  have hlocks := B.notSynchronized
  subst hsz
  have hD := hD0.self (sz := s.heap.size)
  generalize hAe : va_A (wd02_8 a0 jjj jmb jjj cyI jkG) s.heap.size = A at hD ⊢
  have hA : ∀ q : Nat, s.heap.size ≤ q → A q := fun q h => by rw [← hAe]; exact Or.inr h
  have hS : va_S A s.heap s.heap [] := va_S.rf
  have hP : va_P (dC, dI) vwCl (wd02_8 a0 jjj jmb jjj cyI jkG) s.heap := hP
  have hl := lv_entry ([.ref a0, .int p1, .int p2]) (n := 3) (Nat.le_of_ble_eq_true rfl)
  rw [lg_entry_eq]
  generalize (lg_sl ([.ref a0, .int p1, .int p2]) ++ List.replicate (3 - (lg_sl ([.ref a0, .int p1, .int p2])).length) Slot.unset).toArray = ls at hl ⊢
  have hl : lv_has ls 3 [(0, .ref a0), (1, .int p1), (2, .int p2)] := hl
  have C0 : cfx p s m _ meth c cX0_agrees (some .boolean) wsX0_agrees RX0 3 A (dC, dI) (kT cyB cyI cyJ cyP) := ⟨hx, hb, hr, hts, hown, hlocks, hml, hA, hK, hNw⟩
  clear hAe
  obtain ⟨H, hH⟩ : ∃ H, H = s.heap := ⟨_, rfl⟩
  rw [← hH] at hP ⊢
  have hS : va_S A s.heap H [] := by rw [hH]; exact va_S.rf
  have hS := hS
  refine lv_aload_n hx hb (dt_of tkX0_agrees_k0 0 rfl) rfl (lv_at hl 0 rfl) ?_
  refine va_get (D := (dC, dI)) (ci := 0) (v := .ref jjj) (C := RX0) (T := TX0) (N := 2) hx hb hts ui_X0_agrees_X0 hown hK hP 0 rfl rfl 0 (by decide) (hts _ uw_X0_agrees_f9) (fun _ h9 => h9) rfl (dt_of tkX0_agrees_k0 1 rfl) ?_
  refine lv_iload_n hx hb (dt_of tkX0_agrees_k0 2 rfl) rfl (lv_at hl 1 rfl) ?_
  obtain ⟨hi9, hw⟩ := hw
  refine va_iald hx hb hK hP 1 1 rfl rfl hi9 (dt_of tkX0_agrees_k0 3 rfl) ?_
  refine lv_topi (fun x1 ex1 => ?_)
  have hw := hw x1 ex1
  refine lv_iconst (v := (-1)) hx hb (dt_of tkX0_agrees_k0 4 rfl) (by decide) ?_
  refine lv_icmp_eq (tgt := 20) hx hb (dt_of tkX0_agrees_k0 5 rfl) (by decide) (fun c2 => ?_) (fun c2 => ?_)
  · have hw := hw.1 c2
    exact kb_X0_agrees_20 dC dI cyB cyI cyJ cyP a0 jjj jmb jkG Q  C0 _ _ _  hP hD hS (lv_sub hl [] rfl) hw
  · have hw := hw.2 c2
    refine lv_aload_n hx hb (dt_of tkX0_agrees_k0 6 rfl) rfl (lv_at hl 0 rfl) ?_
    refine va_get (D := (dC, dI)) (ci := 0) (v := .ref jjj) (C := RX0) (T := TX0) (N := 2) hx hb hts ui_X0_agrees_X0 hown hK hP 0 rfl rfl 0 (by decide) (hts _ uw_X0_agrees_f9) (fun _ h9 => h9) rfl (dt_of tkX0_agrees_k0 7 rfl) ?_
    refine lv_iload_n hx hb (dt_of tkX0_agrees_k0 8 rfl) rfl (lv_at hl 1 rfl) ?_
    obtain ⟨hi9, hw⟩ := hw
    refine va_iald hx hb hK hP 1 1 rfl rfl hi9 (dt_of tkX0_agrees_k0 9 rfl) ?_
    refine lv_topi (fun x3 ex3 => ?_)
    have hw := hw x3 ex3
    refine lv_iload_n hx hb (dt_of tkX0_agrees_k0 10 rfl) rfl (lv_at hl 2 rfl) ?_
    refine lv_icmp_ne (tgt := 24) hx hb (dt_of tkX0_agrees_k0 11 rfl) (by decide) (fun c4 => ?_) (fun c4 => ?_)
    · have hw := hw.1 c4
      refine lv_iconst (v := 0) hx hb (dt_of tkX0_agrees_k0 14 rfl) (by decide) ?_
      exact ((W.zret (v := 0) hx hb hr rfl (fun t ht hW => ⟨⟨0, (), rfl, hw, by rw [ht]; exact hP, va_K.moved hW.alike hK, hD⟩, hS.F ht⟩) hS.2.2 (dt_of tkX0_agrees_k0 15 rfl)))
    · have hw := hw.2 c4
      exact kb_X0_agrees_20 dC dI cyB cyI cyJ cyP a0 jjj jmb jkG Q  C0 _ _ _  hP hD hS (lv_sub hl [] rfl) hw
theorem ui_X3_allRight_X3 : ∀ w ∈ u_ws RX3 TX3 11, w ∈ wsX3_allRight := uiM mbX3_allRight euX3 (by decide +kernel)
theorem uw_X3_allRight_f40 : (.fieldLink RX3 40 "MarchHares$Fitting" "forms" "I" : Cond) ∈ wsX3_allRight := mbX3_allRight 3470 (by decide +kernel)
theorem uw_X3_allRight_f41 : (.fieldLink RX3 41 "MarchHares$Fitting" "book" "LMarchHares$Book;" : Cond) ∈ wsX3_allRight := mbX3_allRight 3471 (by decide +kernel)
set_option maxHeartbeats 4000000 in
set_option maxRecDepth 100000 in
theorem kl_X3_allRight_2 {p : Program} {l : Launch} {e : Env} {s : State} {m : MethodId} {args : Array Value} {below : List Frame} {meth : Method} {c : Code} {A : Nat → Prop} (dC : Nat → ClassId) (dI : Nat → Nat → Nat) (cyB cyI cyJ cyP : ClassId) (a0 jdj jhX ji2 jj4 : Nat) (jlU jmo ja4 jmb jmc jkn jjZ jlV : Value) (jaN : Int32) (jiL jjH jkE : Nat → Int32) (Q : Int32 → Prop)  (C0 : cfx p s m args meth c cX3_allRight (some .boolean) wsX3_allRight RX3 4 A (dC, dI) (kT cyB cyI cyJ cyP)) : ∀ (n : Nat) (H : Heap) (locs : List Loc) (ls : Array Slot) (l1 l2 l3 : Int32), va_P (dC, dI) vwCl (wd02_9 a0 jhX ji2 jlU jmo ja4 jaN jdj jmb jmc jkn jjZ jhX cyI jiL ji2 cyI jjH jdj jj4 jlV jj4 cyI jkE) H → va_D A (wd02_9 a0 jhX ji2 jlU jmo ja4 jaN jdj jmb jmc jkn jjZ jhX cyI jiL ji2 cyI jjH jdj jj4 jlV jj4 cyI jkE) → va_S A s.heap H locs → lv_has ls 4 [(0, .ref a0), (1, .int l1), (2, .int l2), (3, .int l3)] → wl_X3_allRight_2 jaN jiL jjH jkE Q  n l1 l2 l3 → W p l e (headSpec wsX3_allRight ({ frames := 1, cells := 0, slots := 0, locals := 23 })).room s m args below meth c H locs 0 0 (MQ below (va_Qi (fun (r : Int32) (_ : Unit) => Q r ) (cB (dC, dI) (kT cyB cyI cyJ cyP) A (fun u : Unit => ((wd02_9 a0 jhX ji2 jlU jmo ja4 jaN jdj jmb jmc jkn jjZ jhX cyI jiL ji2 cyI jjH jdj jj4 jlV jj4 cyI jkE) : va_W))) A) args s 0 0 A) (F0 m 2 ls []) := by
  obtain ⟨hx, hb, hr, hts, hown, hlocks, hml, hA, hK, hNw⟩ := id C0
  intro n
  induction n with
  | zero => intro H locs ls l1 l2 l3 hP hD hS hl hw; exact False.elim hw
  | succ n ih =>
    intro H locs ls l1 l2 l3 hP hD hS hl hw
    refine lv_iload_n hx hb (dt_of tkX3_allRight_k0 2 rfl) rfl (lv_at hl 3 rfl) ?_
    refine lv_aload_n hx hb (dt_of tkX3_allRight_k0 3 rfl) rfl (lv_at hl 0 rfl) ?_
    refine va_get (D := (dC, dI)) (ci := 3) (v := .int jaN) (C := RX3) (T := TX3) (N := 11) hx hb hts ui_X3_allRight_X3 hown hK hP 0 rfl rfl 5 (by decide) (hts _ uw_X3_allRight_f40) (fun _ h9 => h9) rfl (dt_of tkX3_allRight_k0 4 rfl) ?_
    refine lv_icmp_ge (tgt := 43) hx hb (dt_of tkX3_allRight_k0 5 rfl) (by decide) (fun c1 => ?_) (fun c1 => ?_)
    · have hw := hw.1 c1
      refine lv_iconst (v := 1) hx hb (dt_of tkX3_allRight_k26 7 rfl) (by decide) ?_
      exact ((W.zret (v := 1) hx hb hr rfl (fun t ht hW => ⟨⟨1, (), rfl, hw, by rw [ht]; exact hP, va_K.moved hW.alike hK, hD⟩, hS.F ht⟩) hS.2.2 (dt_of tkX3_allRight_k26 8 rfl)))
    · have hw := hw.2 c1
      refine lv_aload_n hx hb (dt_of tkX3_allRight_k0 6 rfl) rfl (lv_at hl 0 rfl) ?_
      refine va_get (D := (dC, dI)) (ci := 3) (v := .ref jdj) (C := RX3) (T := TX3) (N := 11) hx hb hts ui_X3_allRight_X3 hown hK hP 0 rfl rfl 6 (by decide) (hts _ uw_X3_allRight_f41) (fun _ h9 => h9) rfl (dt_of tkX3_allRight_k0 7 rfl) ?_
      refine lv_ifnull hx hb (dt_of tkX3_allRight_k0 8 rfl) ?_
      refine lv_aload_n hx hb (dt_of tkX3_allRight_k0 9 rfl) rfl (lv_at hl 0 rfl) ?_
      refine va_get (D := (dC, dI)) (ci := 3) (v := .ref jdj) (C := RX3) (T := TX3) (N := 11) hx hb hts ui_X3_allRight_X3 hown hK hP 0 rfl rfl 6 (by decide) (hts _ uw_X3_allRight_f41) (fun _ h9 => h9) rfl (dt_of tkX3_allRight_k0 10 rfl) ?_
      refine lv_iload_n hx hb (dt_of tkX3_allRight_k0 11 rfl) rfl (lv_at hl 3 rfl) ?_
      refine lv_aload_n hx hb (dt_of tkX3_allRight_k0 12 rfl) rfl (lv_at hl 0 rfl) ?_
      refine lv_iload_n hx hb (dt_of tkX3_allRight_k0 13 rfl) rfl (lv_at hl 3 rfl) ?_
      refine lv_iload_n hx hb (dt_of tkX3_allRight_k0 14 rfl) rfl (lv_at hl 1 rfl) ?_
      refine lv_iload_n hx hb (dt_of tkX3_allRight_k0 15 rfl) rfl (lv_at hl 2 rfl) ?_
      obtain ⟨hCc, hPc, hDc, hFc⟩ := va_pick (ws' := (wd02_10 a0 jhX ji2 jlU jmo ja4 jaN jdj jmb jmc jkn jjZ jhX cyI jiL ji2 cyI jjH)) hP hD hS hA [0, 1, 2] (by decide +kernel) rfl
      refine va_calli (va_runV (As := [.int l3, .int l1, .int l2]) (rest := [.int l3, .ref jdj]) ⟨hx, hb, hml, hown, hts⟩ (ck_X3_seatedThen l dC dI cyB cyI cyJ cyP a0 jhX ji2 H.size (jlU) (jmo) (ja4) (.int jaN) (.ref jdj) (jmb) (jmc) (jkn) (jjZ) jiL jjH  l3 l1 l2 hw) (cwV 3 hts gX3_allRight_X3_seatedThen rfl rfl rfl (by decide +kernel) ⟨Nat.le_of_ble_eq_true rfl, Nat.le_of_ble_eq_true rfl⟩) ⟨cPc_blind, va_recv (q := (RX3, TX3, 11)) hK hPc (ci := 3) (q0 := 0) rfl rfl, cPc_pre hPc hK hDc hNw⟩ rfl rfl hl.1 rfl (lv_room (Nat.le_of_ble_eq_true rfl)) (dt_of tkX3_allRight_k26 0 rfl) ⟨Nat.le_of_ble_eq_true rfl, Nat.le_of_ble_eq_true rfl⟩) hS (fun q _ h => hFc q h) hFc (fun r2 u t H1 locs ht hvm hw hB hz1 hk1 hS => ?_)
      obtain ⟨hP1, hK1, hD1⟩ := hB
      rw [ht] at hP1
      obtain ⟨hP, hD⟩ := va_joinN (wr := (wd02_8 jdj jj4 jlV jj4 cyI jkE)) (w1 := (wd02_10 a0 jhX ji2 jlU jmo ja4 jaN jdj jmb jmc jkn jjZ jhX cyI jiL ji2 cyI jjH)) (wn := (wd02_9 a0 jhX ji2 jlU jmo ja4 jaN jdj jmb jmc jkn jjZ jhX cyI jiL ji2 cyI jjH jdj jj4 jlV jj4 cyI jkE)) hP hD [0, 1, 2] [3, 4] [2, 3, 4, 0, 1] hCc rfl (by decide +kernel) (by decide +kernel) (by decide +kernel) rfl hk1 hFc hP1 hD1
      generalize H1 = H at hP hS ⊢
      obtain ⟨hCc, hPc, hDc, hFc⟩ := va_pick (ws' := (wd02_8 jdj jj4 jlV jj4 cyI jkE)) hP hD hS hA [3, 4] (by decide +kernel) rfl
      refine va_calli (va_runV (As := [.int l3, .int r2]) (rest := []) ⟨hx, hb, hml, hown, hts⟩ (ck_X0_agrees l dC dI cyB cyI cyJ cyP jdj jj4 H.size (jlV) jkE  l3 r2 hw) (cwV 2 hts gX3_allRight_X0_agrees rfl rfl rfl (by decide +kernel) ⟨Nat.le_of_ble_eq_true rfl, Nat.le_of_ble_eq_true rfl⟩) ⟨cPc_blind, va_recv (q := (RX0, TX0, 2)) hK hPc (ci := 0) (q0 := 0) rfl rfl, cPc_pre hPc hK hDc hNw⟩ rfl rfl hl.1 rfl (lv_room (Nat.le_of_ble_eq_true rfl)) (dt_of tkX3_allRight_k26 1 rfl) ⟨Nat.le_of_ble_eq_true rfl, Nat.le_of_ble_eq_true rfl⟩) hS (fun q _ h => hFc q h) hFc (fun r3 u t H1 locs ht hvm hw hB hz1 hk1 hS => ?_)
      obtain ⟨hP1, hK1, hD1⟩ := hB
      rw [ht] at hP1
      obtain ⟨hP, hD⟩ := va_joinI (wr := (wd02_10 a0 jhX ji2 jlU jmo ja4 jaN jdj jmb jmc jkn jjZ jhX cyI jiL ji2 cyI jjH)) (w1 := (wd02_8 jdj jj4 jlV jj4 cyI jkE)) (wn := (wd02_9 a0 jhX ji2 jlU jmo ja4 jaN jdj jmb jmc jkn jjZ jhX cyI jiL ji2 cyI jjH jdj jj4 jlV jj4 cyI jkE)) hP hD [3, 4] [0, 1, 2] hCc rfl (by decide +kernel) (by decide +kernel) rfl hk1 hFc hP1 hD1
      generalize H1 = H at hP hS ⊢
      refine lv_if_ne (tgt := 37) hx hb (dt_of tkX3_allRight_k26 2 rfl) (by decide) (fun c4 => ?_) (fun c4 => ?_)
      · have hw := hw.1 c4
        obtain ⟨x5, ex5⟩ : ∃ y : Int32, y = l3 + 1 := ⟨_, rfl⟩
        have hw := hw x5 ex5
        refine lv_iinc (v := x5) (lv' := [(3, .int x5), (0, .ref a0), (1, .int l1), (2, .int l2)]) hx hb (dt_of tkX3_allRight_k26 5 rfl) hl (k := 3) rfl (by rw [ex5]; rfl) (by decide) rfl (fun ls hl => ?_)
        refine lv_goto (tgt := 2) hx hb (dt_of tkX3_allRight_k26 6 rfl) (by decide) ?_
        exact ih _ _ _ l1 l2 x5 hP hD hS (lv_sub hl [1, 2, 3, 0] rfl) hw
      · have hw := hw.2 c4
        refine lv_iconst (v := 0) hx hb (dt_of tkX3_allRight_k26 3 rfl) (by decide) ?_
        exact ((W.zret (v := 0) hx hb hr rfl (fun t ht hW => ⟨⟨0, (), rfl, hw, by rw [ht]; exact hP, va_K.moved hW.alike hK, hD⟩, hS.F ht⟩) hS.2.2 (dt_of tkX3_allRight_k26 4 rfl)))
set_option maxHeartbeats 4000000 in
set_option maxRecDepth 100000 in
theorem ck_X3_allRight (l : Launch) (dC : Nat → ClassId) (dI : Nat → Nat → Nat) (cyB cyI cyJ cyP : ClassId) (a0 jdj jhX ji2 jj4 sz : Nat) (jlU jmo ja4 jmb jmc jkn jjZ jlV : Value) (jaN : Int32) (jiL jjH jkE : Nat → Int32)  (p1 p2 : Int32) {Q : Int32 → Prop} (hw : wq_X3_allRight jaN jiL jjH jkE  p1 p2 Q) : Met l yX3_allRight wsX3_allRight ({ frames := 1, cells := 0, slots := 0, locals := 23 }) (va_Pc [.ref a0, .int p1, .int p2] (cPc (dC, dI) (kT cyB cyI cyJ cyP) (wd02_9 a0 jhX ji2 jlU jmo ja4 jaN jdj jmb jmc jkn jjZ jhX cyI jiL ji2 cyI jjH jdj jj4 jlV jj4 cyI jkE) sz)) (va_Qi (fun (r : Int32) (_ : Unit) => Q r ) (cB (dC, dI) (kT cyB cyI cyJ cyP) (va_A (wd02_9 a0 jhX ji2 jlU jmo ja4 jaN jdj jmb jmc jkn jjZ jhX cyI jiL ji2 cyI jjH jdj jj4 jlV jj4 cyI jkE) sz) (fun u : Unit => ((wd02_9 a0 jhX ji2 jlU jmo ja4 jaN jdj jmb jmc jkn jjZ jhX cyI jiL ji2 cyI jjH jdj jj4 jlV jj4 cyI jkE) : va_W))) (va_A (wd02_9 a0 jhX ji2 jlU jmo ja4 jaN jdj jmb jmc jkn jjZ jhX cyI jiL ji2 cyI jjH jdj jj4 jlV jj4 cyI jkE) sz)) 0 0 (va_A (wd02_9 a0 jhX ji2 jlU jmo ja4 jaN jdj jmb jmc jkn jjZ jhX cyI jiL ji2 cyI jjH jdj jj4 jlV jj4 cyI jkE) sz) := by
  refine Met.ofW (cc := cX3_allRight) (maxL := 4) (ret := (some .boolean)) (by decide) rfl ?_
  intro p e s m args below meth c s₁ B hml hv
  obtain ⟨rfl, hsz, hP, hK, hD0, hNw⟩ := hv
  have hx := B.exec
  have hb := B.bytes
  have hr := B.returns
  have hts := atoms_spec (ws := wsX3_allRight) B.pre
  have hown : s.vm.findClass RX3 = some m.cls := findClass_of_methodNamed B.named
  have hlocks := B.notSynchronized
  subst hsz
  have hD := hD0.self (sz := s.heap.size)
  generalize hAe : va_A (wd02_9 a0 jhX ji2 jlU jmo ja4 jaN jdj jmb jmc jkn jjZ jhX cyI jiL ji2 cyI jjH jdj jj4 jlV jj4 cyI jkE) s.heap.size = A at hD ⊢
  have hA : ∀ q : Nat, s.heap.size ≤ q → A q := fun q h => by rw [← hAe]; exact Or.inr h
  have hS : va_S A s.heap s.heap [] := va_S.rf
  have hP : va_P (dC, dI) vwCl (wd02_9 a0 jhX ji2 jlU jmo ja4 jaN jdj jmb jmc jkn jjZ jhX cyI jiL ji2 cyI jjH jdj jj4 jlV jj4 cyI jkE) s.heap := hP
  have hl := lv_entry ([.ref a0, .int p1, .int p2]) (n := 4) (Nat.le_of_ble_eq_true rfl)
  rw [lg_entry_eq]
  generalize (lg_sl ([.ref a0, .int p1, .int p2]) ++ List.replicate (4 - (lg_sl ([.ref a0, .int p1, .int p2])).length) Slot.unset).toArray = ls at hl ⊢
  have hl : lv_has ls 4 [(0, .ref a0), (1, .int p1), (2, .int p2)] := hl
  have C0 : cfx p s m _ meth c cX3_allRight (some .boolean) wsX3_allRight RX3 4 A (dC, dI) (kT cyB cyI cyJ cyP) := ⟨hx, hb, hr, hts, hown, hlocks, hml, hA, hK, hNw⟩
  clear hAe
  obtain ⟨H, hH⟩ : ∃ H, H = s.heap := ⟨_, rfl⟩
  rw [← hH] at hP ⊢
  have hS : va_S A s.heap H [] := by rw [hH]; exact va_S.rf
  have hS := hS
  refine lv_iconst (v := 0) hx hb (dt_of tkX3_allRight_k0 0 rfl) (by decide) ?_
  refine lv_istore_n (lv' := [(3, .int 0), (0, .ref a0), (1, .int p1), (2, .int p2)]) hx hb (dt_of tkX3_allRight_k0 1 rfl) rfl hl (by decide) rfl (fun ls hl => ?_)
  obtain ⟨n9, hw⟩ := hw
  exact kl_X3_allRight_2 dC dI cyB cyI cyJ cyP a0 jdj jhX ji2 jj4 jlU jmo ja4 jmb jmc jkn jjZ jlV jaN jiL jjH jkE Q  C0 n9 _ _ _ p1 p2 0 hP hD hS (lv_sub hl [1, 2, 3, 0] rfl) hw
theorem ui_X3_formsFor_X3 : ∀ w ∈ u_ws RX3 TX3 11, w ∈ wsX3_formsFor := uiM mbX3_formsFor euX3 (by decide +kernel)
theorem uw_X3_formsFor_f40 : (.fieldLink RX3 40 "MarchHares$Fitting" "forms" "I" : Cond) ∈ wsX3_formsFor := mbX3_formsFor 3470 (by decide +kernel)
theorem uw_X3_formsFor_f45 : (.fieldLink RX3 45 "MarchHares$Fitting" "many" "I" : Cond) ∈ wsX3_formsFor := mbX3_formsFor 3472 (by decide +kernel)
theorem uw_X3_formsFor_f48 : (.fieldLink RX3 48 "MarchHares$Fitting" "first" "I" : Cond) ∈ wsX3_formsFor := mbX3_formsFor 3473 (by decide +kernel)
set_option maxHeartbeats 4000000 in
set_option maxRecDepth 100000 in
theorem kb_X3_formsFor_61 {p : Program} {l : Launch} {e : Env} {s : State} {m : MethodId} {args : Array Value} {below : List Frame} {meth : Method} {c : Code} {A : Nat → Prop} (dC : Nat → ClassId) (dI : Nat → Nat → Nat) (cyB cyI cyJ cyP : ClassId) (a0 jhX ji2 jdj jj4 : Nat) (jlU jmo ja4 jkn jjZ jlV : Value) (jaN : Int32) (jiL jjH jkE : Nat → Int32) (Q : Int32 → Int32 → Int32 → Prop) (K4 : Int32 → Int32 → Int32 → Int32 → Int32 → Prop) (hK4 : ∀ (H : Heap) (locs : List Loc) (ls : Array Slot) (jl7 jkY l1 l2 l3 : Int32), va_P (dC, dI) vwCl (wd02_11 a0 jhX ji2 jlU jmo ja4 jaN jdj jkY jl7 jkn jjZ jhX cyI jiL ji2 cyI jjH jdj jj4 jlV jj4 cyI jkE) H → va_D A (wd02_11 a0 jhX ji2 jlU jmo ja4 jaN jdj jkY jl7 jkn jjZ jhX cyI jiL ji2 cyI jjH jdj jj4 jlV jj4 cyI jkE) → va_S A s.heap H locs → lv_has ls 4 [(0, .ref a0), (1, .int l1), (2, .int l2), (3, .int l3)] → K4 jl7 jkY l1 l2 l3 → W p l e (headSpec wsX3_formsFor ({ frames := 2, cells := 0, slots := 0, locals := 46 })).room s m args below meth c H locs 0 0 (MQ below (va_Qi (fun (r : Int32) (u : Int32 × Int32) => Q r u.1 u.2) (cB (dC, dI) (kT cyB cyI cyJ cyP) A (fun u : Int32 × Int32 => ((wd02_11 a0 jhX ji2 jlU jmo ja4 jaN jdj u.2 u.1 jkn jjZ jhX cyI jiL ji2 cyI jjH jdj jj4 jlV jj4 cyI jkE) : va_W))) A) args s 0 0 A) (F0 m 4 ls [])) (C0 : cfx p s m args meth c cX3_formsFor (some .int) wsX3_formsFor RX3 4 A (dC, dI) (kT cyB cyI cyJ cyP)) : ∀ (H : Heap) (locs : List Loc) (ls : Array Slot) (jl7 jkY l1 l2 l3 : Int32), va_P (dC, dI) vwCl (wd02_11 a0 jhX ji2 jlU jmo ja4 jaN jdj jkY jl7 jkn jjZ jhX cyI jiL ji2 cyI jjH jdj jj4 jlV jj4 cyI jkE) H → va_D A (wd02_11 a0 jhX ji2 jlU jmo ja4 jaN jdj jkY jl7 jkn jjZ jhX cyI jiL ji2 cyI jjH jdj jj4 jlV jj4 cyI jkE) → va_S A s.heap H locs → lv_has ls 4 [(0, .ref a0), (1, .int l1), (2, .int l2), (3, .int l3)] → wb_X3_formsFor_61 jaN jiL jjH jkE Q K4 jl7 jkY l1 l2 l3 → W p l e (headSpec wsX3_formsFor ({ frames := 2, cells := 0, slots := 0, locals := 46 })).room s m args below meth c H locs 0 0 (MQ below (va_Qi (fun (r : Int32) (u : Int32 × Int32) => Q r u.1 u.2) (cB (dC, dI) (kT cyB cyI cyJ cyP) A (fun u : Int32 × Int32 => ((wd02_11 a0 jhX ji2 jlU jmo ja4 jaN jdj u.2 u.1 jkn jjZ jhX cyI jiL ji2 cyI jjH jdj jj4 jlV jj4 cyI jkE) : va_W))) A) args s 0 0 A) (F0 m 61 ls []) := by
  obtain ⟨hx, hb, hr, hts, hown, hlocks, hml, hA, hK, hNw⟩ := id C0
  intro H locs ls jl7 jkY l1 l2 l3 hP hD hS hl hw
  obtain ⟨x8, ex8⟩ : ∃ y : Int32, y = l3 + 1 := ⟨_, rfl⟩
  have hw := hw x8 ex8
  refine lv_iinc (v := x8) (lv' := [(3, .int x8), (0, .ref a0), (1, .int l1), (2, .int l2)]) hx hb (dt_of tkX3_formsFor_k51 6 rfl) hl (k := 3) rfl (by rw [ex8]; rfl) (by decide) rfl (fun ls hl => ?_)
  refine lv_goto (tgt := 4) hx hb (dt_of tkX3_formsFor_k51 7 rfl) (by decide) ?_
  exact hK4 _ _ _ jl7 jkY l1 l2 x8 hP hD hS (lv_sub hl [1, 2, 3, 0] rfl) hw
set_option maxHeartbeats 4000000 in
set_option maxRecDepth 100000 in
theorem kb_X3_formsFor_48 {p : Program} {l : Launch} {e : Env} {s : State} {m : MethodId} {args : Array Value} {below : List Frame} {meth : Method} {c : Code} {A : Nat → Prop} (dC : Nat → ClassId) (dI : Nat → Nat → Nat) (cyB cyI cyJ cyP : ClassId) (a0 jhX ji2 jdj jj4 : Nat) (jlU jmo ja4 jkn jjZ jlV : Value) (jaN : Int32) (jiL jjH jkE : Nat → Int32) (Q : Int32 → Int32 → Int32 → Prop) (K4 : Int32 → Int32 → Int32 → Int32 → Int32 → Prop) (hK4 : ∀ (H : Heap) (locs : List Loc) (ls : Array Slot) (jl7 jkY l1 l2 l3 : Int32), va_P (dC, dI) vwCl (wd02_11 a0 jhX ji2 jlU jmo ja4 jaN jdj jkY jl7 jkn jjZ jhX cyI jiL ji2 cyI jjH jdj jj4 jlV jj4 cyI jkE) H → va_D A (wd02_11 a0 jhX ji2 jlU jmo ja4 jaN jdj jkY jl7 jkn jjZ jhX cyI jiL ji2 cyI jjH jdj jj4 jlV jj4 cyI jkE) → va_S A s.heap H locs → lv_has ls 4 [(0, .ref a0), (1, .int l1), (2, .int l2), (3, .int l3)] → K4 jl7 jkY l1 l2 l3 → W p l e (headSpec wsX3_formsFor ({ frames := 2, cells := 0, slots := 0, locals := 46 })).room s m args below meth c H locs 0 0 (MQ below (va_Qi (fun (r : Int32) (u : Int32 × Int32) => Q r u.1 u.2) (cB (dC, dI) (kT cyB cyI cyJ cyP) A (fun u : Int32 × Int32 => ((wd02_11 a0 jhX ji2 jlU jmo ja4 jaN jdj u.2 u.1 jkn jjZ jhX cyI jiL ji2 cyI jjH jdj jj4 jlV jj4 cyI jkE) : va_W))) A) args s 0 0 A) (F0 m 4 ls [])) (C0 : cfx p s m args meth c cX3_formsFor (some .int) wsX3_formsFor RX3 4 A (dC, dI) (kT cyB cyI cyJ cyP)) : ∀ (H : Heap) (locs : List Loc) (ls : Array Slot) (jl7 jkY l1 l2 l3 s1 : Int32), va_P (dC, dI) vwCl (wd02_11 a0 jhX ji2 jlU jmo ja4 jaN jdj jkY jl7 jkn jjZ jhX cyI jiL ji2 cyI jjH jdj jj4 jlV jj4 cyI jkE) H → va_D A (wd02_11 a0 jhX ji2 jlU jmo ja4 jaN jdj jkY jl7 jkn jjZ jhX cyI jiL ji2 cyI jjH jdj jj4 jlV jj4 cyI jkE) → va_S A s.heap H locs → lv_has ls 4 [(0, .ref a0), (1, .int l1), (2, .int l2), (3, .int l3)] → wb_X3_formsFor_48 jaN jiL jjH jkE Q K4 jl7 jkY l1 l2 l3 s1 → W p l e (headSpec wsX3_formsFor ({ frames := 2, cells := 0, slots := 0, locals := 46 })).room s m args below meth c H locs 0 0 (MQ below (va_Qi (fun (r : Int32) (u : Int32 × Int32) => Q r u.1 u.2) (cB (dC, dI) (kT cyB cyI cyJ cyP) A (fun u : Int32 × Int32 => ((wd02_11 a0 jhX ji2 jlU jmo ja4 jaN jdj u.2 u.1 jkn jjZ jhX cyI jiL ji2 cyI jjH jdj jj4 jlV jj4 cyI jkE) : va_W))) A) args s 0 0 A) (F0 m 48 ls [.int s1, .ref a0]) := by
  obtain ⟨hx, hb, hr, hts, hown, hlocks, hml, hA, hK, hNw⟩ := id C0
  intro H locs ls jl7 jkY l1 l2 l3 s1 hP hD hS hl hw
  refine va_put (D := (dC, dI)) (ci := 3) (v := .int s1) (ty := .int) (C := RX3) (T := TX3) (N := 11) hx hb hts ui_X3_formsFor_X3 tyX3 tyX3_ok nmX3 hown hK hP hD hS 0 rfl rfl 8 (by decide) (hts _ uw_X3_formsFor_f48) (fun _ h9 => h9) rfl (by decide +kernel) rfl rfl (Nat.le_of_ble_eq_true rfl) (dt_of tkX3_formsFor_k24 15 rfl) (fun H locs hP hD hS => ?_)
  have hP : va_P (dC, dI) vwCl (wd02_11 a0 jhX ji2 jlU jmo ja4 jaN jdj jkY s1 jkn jjZ jhX cyI jiL ji2 cyI jjH jdj jj4 jlV jj4 cyI jkE) H := hP
  have hD : va_D A (wd02_11 a0 jhX ji2 jlU jmo ja4 jaN jdj jkY s1 jkn jjZ jhX cyI jiL ji2 cyI jjH jdj jj4 jlV jj4 cyI jkE) := hD
  refine lv_aload_n hx hb (dt_of tkX3_formsFor_k51 0 rfl) rfl (lv_at hl 0 rfl) ?_
  refine lv_dup hx hb (dt_of tkX3_formsFor_k51 1 rfl) rfl ?_
  refine va_get (D := (dC, dI)) (ci := 3) (v := .int jkY) (C := RX3) (T := TX3) (N := 11) hx hb hts ui_X3_formsFor_X3 hown hK hP 0 rfl rfl 7 (by decide) (hts _ uw_X3_formsFor_f45) (fun _ h9 => h9) rfl (dt_of tkX3_formsFor_k51 2 rfl) ?_
  refine lv_iconst (v := 1) hx hb (dt_of tkX3_formsFor_k51 3 rfl) (by decide) ?_
  refine lv_iadd hx hb (dt_of tkX3_formsFor_k51 4 rfl) ?_
  refine lv_topi (fun x9 ex9 => ?_)
  have hw := hw x9 ex9
  refine va_put (D := (dC, dI)) (ci := 3) (v := .int x9) (ty := .int) (C := RX3) (T := TX3) (N := 11) hx hb hts ui_X3_formsFor_X3 tyX3 tyX3_ok nmX3 hown hK hP hD hS 0 rfl rfl 7 (by decide) (hts _ uw_X3_formsFor_f45) (fun _ h9 => h9) rfl (by decide +kernel) rfl rfl (Nat.le_of_ble_eq_true rfl) (dt_of tkX3_formsFor_k51 5 rfl) (fun H locs hP hD hS => ?_)
  have hP : va_P (dC, dI) vwCl (wd02_11 a0 jhX ji2 jlU jmo ja4 jaN jdj x9 s1 jkn jjZ jhX cyI jiL ji2 cyI jjH jdj jj4 jlV jj4 cyI jkE) H := hP
  have hD : va_D A (wd02_11 a0 jhX ji2 jlU jmo ja4 jaN jdj x9 s1 jkn jjZ jhX cyI jiL ji2 cyI jjH jdj jj4 jlV jj4 cyI jkE) := hD
  exact kb_X3_formsFor_61 dC dI cyB cyI cyJ cyP a0 jhX ji2 jdj jj4 jlU jmo ja4 jkn jjZ jlV jaN jiL jjH jkE Q K4 hK4 C0 _ _ _ s1 x9 l1 l2 l3 hP hD hS (lv_sub hl [0, 1, 2, 3] rfl) hw
set_option maxHeartbeats 4000000 in
set_option maxRecDepth 100000 in
theorem kl_X3_formsFor_4 {p : Program} {l : Launch} {e : Env} {s : State} {m : MethodId} {args : Array Value} {below : List Frame} {meth : Method} {c : Code} {A : Nat → Prop} (dC : Nat → ClassId) (dI : Nat → Nat → Nat) (cyB cyI cyJ cyP : ClassId) (a0 jhX ji2 jdj jj4 : Nat) (jlU jmo ja4 jkn jjZ jlV : Value) (jaN : Int32) (jiL jjH jkE : Nat → Int32) (Q : Int32 → Int32 → Int32 → Prop)  (C0 : cfx p s m args meth c cX3_formsFor (some .int) wsX3_formsFor RX3 4 A (dC, dI) (kT cyB cyI cyJ cyP)) : ∀ (n : Nat) (H : Heap) (locs : List Loc) (ls : Array Slot) (jl7 jkY l1 l2 l3 : Int32), va_P (dC, dI) vwCl (wd02_11 a0 jhX ji2 jlU jmo ja4 jaN jdj jkY jl7 jkn jjZ jhX cyI jiL ji2 cyI jjH jdj jj4 jlV jj4 cyI jkE) H → va_D A (wd02_11 a0 jhX ji2 jlU jmo ja4 jaN jdj jkY jl7 jkn jjZ jhX cyI jiL ji2 cyI jjH jdj jj4 jlV jj4 cyI jkE) → va_S A s.heap H locs → lv_has ls 4 [(0, .ref a0), (1, .int l1), (2, .int l2), (3, .int l3)] → wl_X3_formsFor_4 jaN jiL jjH jkE Q  n jl7 jkY l1 l2 l3 → W p l e (headSpec wsX3_formsFor ({ frames := 2, cells := 0, slots := 0, locals := 46 })).room s m args below meth c H locs 0 0 (MQ below (va_Qi (fun (r : Int32) (u : Int32 × Int32) => Q r u.1 u.2) (cB (dC, dI) (kT cyB cyI cyJ cyP) A (fun u : Int32 × Int32 => ((wd02_11 a0 jhX ji2 jlU jmo ja4 jaN jdj u.2 u.1 jkn jjZ jhX cyI jiL ji2 cyI jjH jdj jj4 jlV jj4 cyI jkE) : va_W))) A) args s 0 0 A) (F0 m 4 ls []) := by
  obtain ⟨hx, hb, hr, hts, hown, hlocks, hml, hA, hK, hNw⟩ := id C0
  intro n
  induction n with
  | zero => intro H locs ls jl7 jkY l1 l2 l3 hP hD hS hl hw; exact False.elim hw
  | succ n ih =>
    intro H locs ls jl7 jkY l1 l2 l3 hP hD hS hl hw
    refine lv_iload_n hx hb (dt_of tkX3_formsFor_k0 4 rfl) rfl (lv_at hl 3 rfl) ?_
    refine lv_aload_n hx hb (dt_of tkX3_formsFor_k0 5 rfl) rfl (lv_at hl 0 rfl) ?_
    refine va_get (D := (dC, dI)) (ci := 3) (v := .int jaN) (C := RX3) (T := TX3) (N := 11) hx hb hts ui_X3_formsFor_X3 hown hK hP 0 rfl rfl 5 (by decide) (hts _ uw_X3_formsFor_f40) (fun _ h9 => h9) rfl (dt_of tkX3_formsFor_k0 6 rfl) ?_
    refine lv_icmp_ge (tgt := 67) hx hb (dt_of tkX3_formsFor_k0 7 rfl) (by decide) (fun c1 => ?_) (fun c1 => ?_)
    · have hw := hw.1 c1
      refine lv_iload_n hx hb (dt_of tkX3_formsFor_k51 8 rfl) rfl (lv_at hl 2 rfl) ?_
      exact ((W.iret (v := l2) hx hb hr (fun t ht hW => ⟨⟨l2, (jl7, jkY), rfl, hw, by rw [ht]; exact hP, va_K.moved hW.alike hK, hD⟩, hS.F ht⟩) hS.2.2 (dt_of tkX3_formsFor_k51 9 rfl)))
    · have hw := hw.2 c1
      refine lv_aload_n hx hb (dt_of tkX3_formsFor_k0 8 rfl) rfl (lv_at hl 0 rfl) ?_
      refine lv_iload_n hx hb (dt_of tkX3_formsFor_k0 9 rfl) rfl (lv_at hl 1 rfl) ?_
      refine lv_iload_n hx hb (dt_of tkX3_formsFor_k0 10 rfl) rfl (lv_at hl 3 rfl) ?_
      obtain ⟨hCc, hPc, hDc, hFc⟩ := va_pick (ws' := (wd02_11 a0 jhX ji2 jlU jmo ja4 jaN jdj jkY jl7 jkn jjZ jhX cyI jiL ji2 cyI jjH jdj jj4 jlV jj4 cyI jkE)) hP hD hS hA [0, 1, 2, 3, 4] (by decide +kernel) rfl
      refine va_calli (va_runV (As := [.int l1, .int l3]) (rest := []) ⟨hx, hb, hml, hown, hts⟩ (ck_X3_allRight l dC dI cyB cyI cyJ cyP a0 jdj jhX ji2 jj4 H.size (jlU) (jmo) (ja4) (.int jkY) (.int jl7) (jkn) (jjZ) (jlV) jaN jiL jjH jkE  l1 l3 hw) (cwV 2 hts gX3_formsFor_X3_allRight rfl rfl rfl (by decide +kernel) ⟨Nat.le_of_ble_eq_true rfl, Nat.le_of_ble_eq_true rfl⟩) ⟨cPc_blind, va_recv (q := (RX3, TX3, 11)) hK hPc (ci := 3) (q0 := 0) rfl rfl, cPc_pre hPc hK hDc hNw⟩ rfl rfl hl.1 rfl (lv_room (Nat.le_of_ble_eq_true rfl)) (dt_of tkX3_formsFor_k0 11 rfl) ⟨Nat.le_of_ble_eq_true rfl, Nat.le_of_ble_eq_true rfl⟩) hS (fun q _ h => hFc q h) hFc (fun r2 u t H1 locs ht hvm hw hB hz1 hk1 hS => ?_)
      obtain ⟨hP1, hK1, hD1⟩ := hB
      rw [ht] at hP1
      obtain ⟨hP, hD⟩ := va_joinI (wr := []) (w1 := (wd02_11 a0 jhX ji2 jlU jmo ja4 jaN jdj jkY jl7 jkn jjZ jhX cyI jiL ji2 cyI jjH jdj jj4 jlV jj4 cyI jkE)) (wn := (wd02_11 a0 jhX ji2 jlU jmo ja4 jaN jdj jkY jl7 jkn jjZ jhX cyI jiL ji2 cyI jjH jdj jj4 jlV jj4 cyI jkE)) hP hD [0, 1, 2, 3, 4] [] hCc rfl (by decide +kernel) (by decide +kernel) rfl hk1 hFc hP1 hD1
      generalize H1 = H at hP hS ⊢
      refine lv_if_eq (tgt := 61) hx hb (dt_of tkX3_formsFor_k0 12 rfl) (by decide) (fun c3 => ?_) (fun c3 => ?_)
      · have hw := hw.1 c3
        exact kb_X3_formsFor_61 dC dI cyB cyI cyJ cyP a0 jhX ji2 jdj jj4 jlU jmo ja4 jkn jjZ jlV jaN jiL jjH jkE Q (wl_X3_formsFor_4 jaN jiL jjH jkE Q  n) ih C0 _ _ _ jl7 jkY l1 l2 l3 hP hD hS (lv_sub hl [0, 1, 2, 3] rfl) hw
      · have hw := hw.2 c3
        refine lv_iload_n hx hb (dt_of tkX3_formsFor_k0 13 rfl) rfl (lv_at hl 2 rfl) ?_
        refine lv_iconst (v := 1) hx hb (dt_of tkX3_formsFor_k0 14 rfl) (by decide) ?_
        refine lv_iload_n hx hb (dt_of tkX3_formsFor_k0 15 rfl) rfl (lv_at hl 3 rfl) ?_
        refine lv_ishl hx hb (dt_of tkX3_formsFor_k24 0 rfl) ?_
        refine lv_ior hx hb (dt_of tkX3_formsFor_k24 1 rfl) ?_
        refine lv_topi (fun x4 ex4 => ?_)
        have hw := hw x4 ex4
        refine lv_istore_n (lv' := [(2, .int x4), (0, .ref a0), (1, .int l1), (3, .int l3)]) hx hb (dt_of tkX3_formsFor_k24 2 rfl) rfl hl (by decide) rfl (fun ls hl => ?_)
        refine lv_aload_n hx hb (dt_of tkX3_formsFor_k24 3 rfl) rfl (lv_at hl 1 rfl) ?_
        refine lv_aload_n hx hb (dt_of tkX3_formsFor_k24 4 rfl) rfl (lv_at hl 1 rfl) ?_
        refine va_get (D := (dC, dI)) (ci := 3) (v := .int jkY) (C := RX3) (T := TX3) (N := 11) hx hb hts ui_X3_formsFor_X3 hown hK hP 0 rfl rfl 7 (by decide) (hts _ uw_X3_formsFor_f45) (fun _ h9 => h9) rfl (dt_of tkX3_formsFor_k24 5 rfl) ?_
        refine lv_if_ne (tgt := 44) hx hb (dt_of tkX3_formsFor_k24 6 rfl) (by decide) (fun c5 => ?_) (fun c5 => ?_)
        · have hw := hw.1 c5
          refine lv_aload_n hx hb (dt_of tkX3_formsFor_k24 13 rfl) rfl (lv_at hl 1 rfl) ?_
          refine va_get (D := (dC, dI)) (ci := 3) (v := .int jl7) (C := RX3) (T := TX3) (N := 11) hx hb hts ui_X3_formsFor_X3 hown hK hP 0 rfl rfl 8 (by decide) (hts _ uw_X3_formsFor_f48) (fun _ h9 => h9) rfl (dt_of tkX3_formsFor_k24 14 rfl) ?_
          exact kb_X3_formsFor_48 dC dI cyB cyI cyJ cyP a0 jhX ji2 jdj jj4 jlU jmo ja4 jkn jjZ jlV jaN jiL jjH jkE Q (wl_X3_formsFor_4 jaN jiL jjH jkE Q  n) ih C0 _ _ _ jl7 jkY l1 x4 l3 jl7 hP hD hS (lv_sub hl [1, 2, 0, 3] rfl) hw
        · have hw := hw.2 c5
          refine lv_bipush (v := 10) hx hb (dt_of tkX3_formsFor_k24 7 rfl) (by decide) ?_
          refine lv_iload_n hx hb (dt_of tkX3_formsFor_k24 8 rfl) rfl (lv_at hl 2 rfl) ?_
          refine lv_imul hx hb (dt_of tkX3_formsFor_k24 9 rfl) ?_
          refine lv_topi (fun x6 ex6 => ?_)
          have hw := hw x6 ex6
          refine lv_iload_n hx hb (dt_of tkX3_formsFor_k24 10 rfl) rfl (lv_at hl 3 rfl) ?_
          refine lv_iadd hx hb (dt_of tkX3_formsFor_k24 11 rfl) ?_
          refine lv_topi (fun x7 ex7 => ?_)
          have hw := hw x7 ex7
          refine lv_goto (tgt := 48) hx hb (dt_of tkX3_formsFor_k24 12 rfl) (by decide) ?_
          exact kb_X3_formsFor_48 dC dI cyB cyI cyJ cyP a0 jhX ji2 jdj jj4 jlU jmo ja4 jkn jjZ jlV jaN jiL jjH jkE Q (wl_X3_formsFor_4 jaN jiL jjH jkE Q  n) ih C0 _ _ _ jl7 jkY l1 x4 l3 x7 hP hD hS (lv_sub hl [1, 2, 0, 3] rfl) hw
set_option maxHeartbeats 4000000 in
set_option maxRecDepth 100000 in
theorem ck_X3_formsFor (l : Launch) (dC : Nat → ClassId) (dI : Nat → Nat → Nat) (cyB cyI cyJ cyP : ClassId) (a0 jhX ji2 jdj jj4 sz : Nat) (jlU jmo ja4 jkn jjZ jlV : Value) (jaN : Int32) (jiL jjH jkE : Nat → Int32) (jl7 jkY p1 : Int32) {Q : Int32 → Int32 → Int32 → Prop} (hw : wq_X3_formsFor jaN jiL jjH jkE jl7 jkY p1 Q) : Met l yX3_formsFor wsX3_formsFor ({ frames := 2, cells := 0, slots := 0, locals := 46 }) (va_Pc [.ref a0, .int p1] (cPc (dC, dI) (kT cyB cyI cyJ cyP) (wd02_11 a0 jhX ji2 jlU jmo ja4 jaN jdj jkY jl7 jkn jjZ jhX cyI jiL ji2 cyI jjH jdj jj4 jlV jj4 cyI jkE) sz)) (va_Qi (fun (r : Int32) (u : Int32 × Int32) => Q r u.1 u.2) (cB (dC, dI) (kT cyB cyI cyJ cyP) (va_A (wd02_11 a0 jhX ji2 jlU jmo ja4 jaN jdj jkY jl7 jkn jjZ jhX cyI jiL ji2 cyI jjH jdj jj4 jlV jj4 cyI jkE) sz) (fun u : Int32 × Int32 => ((wd02_11 a0 jhX ji2 jlU jmo ja4 jaN jdj u.2 u.1 jkn jjZ jhX cyI jiL ji2 cyI jjH jdj jj4 jlV jj4 cyI jkE) : va_W))) (va_A (wd02_11 a0 jhX ji2 jlU jmo ja4 jaN jdj jkY jl7 jkn jjZ jhX cyI jiL ji2 cyI jjH jdj jj4 jlV jj4 cyI jkE) sz)) 0 0 (va_A (wd02_11 a0 jhX ji2 jlU jmo ja4 jaN jdj jkY jl7 jkn jjZ jhX cyI jiL ji2 cyI jjH jdj jj4 jlV jj4 cyI jkE) sz) := by
  refine Met.ofW (cc := cX3_formsFor) (maxL := 4) (ret := (some .int)) (by decide) rfl ?_
  intro p e s m args below meth c s₁ B hml hv
  obtain ⟨rfl, hsz, hP, hK, hD0, hNw⟩ := hv
  have hx := B.exec
  have hb := B.bytes
  have hr := B.returns
  have hts := atoms_spec (ws := wsX3_formsFor) B.pre
  have hown : s.vm.findClass RX3 = some m.cls := findClass_of_methodNamed B.named
  have hlocks := B.notSynchronized
  subst hsz
  have hD := hD0.self (sz := s.heap.size)
  generalize hAe : va_A (wd02_11 a0 jhX ji2 jlU jmo ja4 jaN jdj jkY jl7 jkn jjZ jhX cyI jiL ji2 cyI jjH jdj jj4 jlV jj4 cyI jkE) s.heap.size = A at hD ⊢
  have hA : ∀ q : Nat, s.heap.size ≤ q → A q := fun q h => by rw [← hAe]; exact Or.inr h
  have hS : va_S A s.heap s.heap [] := va_S.rf
  have hP : va_P (dC, dI) vwCl (wd02_11 a0 jhX ji2 jlU jmo ja4 jaN jdj jkY jl7 jkn jjZ jhX cyI jiL ji2 cyI jjH jdj jj4 jlV jj4 cyI jkE) s.heap := hP
  have hl := lv_entry ([.ref a0, .int p1]) (n := 4) (Nat.le_of_ble_eq_true rfl)
  rw [lg_entry_eq]
  generalize (lg_sl ([.ref a0, .int p1]) ++ List.replicate (4 - (lg_sl ([.ref a0, .int p1])).length) Slot.unset).toArray = ls at hl ⊢
  have hl : lv_has ls 4 [(0, .ref a0), (1, .int p1)] := hl
  have C0 : cfx p s m _ meth c cX3_formsFor (some .int) wsX3_formsFor RX3 4 A (dC, dI) (kT cyB cyI cyJ cyP) := ⟨hx, hb, hr, hts, hown, hlocks, hml, hA, hK, hNw⟩
  clear hAe
  obtain ⟨H, hH⟩ : ∃ H, H = s.heap := ⟨_, rfl⟩
  rw [← hH] at hP ⊢
  have hS : va_S A s.heap H [] := by rw [hH]; exact va_S.rf
  have hS := hS
  refine lv_iconst (v := 0) hx hb (dt_of tkX3_formsFor_k0 0 rfl) (by decide) ?_
  refine lv_istore_n (lv' := [(2, .int 0), (0, .ref a0), (1, .int p1)]) hx hb (dt_of tkX3_formsFor_k0 1 rfl) rfl hl (by decide) rfl (fun ls hl => ?_)
  refine lv_iconst (v := 0) hx hb (dt_of tkX3_formsFor_k0 2 rfl) (by decide) ?_
  refine lv_istore_n (lv' := [(3, .int 0), (2, .int 0), (0, .ref a0), (1, .int p1)]) hx hb (dt_of tkX3_formsFor_k0 3 rfl) rfl hl (by decide) rfl (fun ls hl => ?_)
  obtain ⟨n9, hw⟩ := hw
  exact kl_X3_formsFor_4 dC dI cyB cyI cyJ cyP a0 jhX ji2 jdj jj4 jlU jmo ja4 jkn jjZ jlV jaN jiL jjH jkE Q  C0 n9 _ _ _ jl7 jkY p1 0 0 hP hD hS (lv_sub hl [2, 3, 1, 0] rfl) hw
theorem ui_X3_settle_X1 : ∀ w ∈ u_ws RX1 TX1 4, w ∈ wsX3_settle := uiM mbX3_settle euX1 (by decide +kernel)
theorem ui_X3_settle_X2 : ∀ w ∈ u_ws RX2 TX2 12, w ∈ wsX3_settle := uiM mbX3_settle euX2 (by decide +kernel)
theorem ui_X3_settle_X3 : ∀ w ∈ u_ws RX3 TX3 11, w ∈ wsX3_settle := uiM mbX3_settle euX3 (by decide +kernel)
theorem uw_X3_settle_f15 : (.fieldLink RX3 15 "MarchHares$Fitting" "sits" "[I" : Cond) ∈ wsX3_settle := mbX3_settle 391 (by decide +kernel)
theorem uw_X3_settle_f18 : (.fieldLink RX3 18 "MarchHares$Fitting" "fittingForms" "[I" : Cond) ∈ wsX3_settle := mbX3_settle 392 (by decide +kernel)
theorem uw_X3_settle_f24 : (.fieldLink RX3 24 "MarchHares$Days" "down" "LMarchHares$Down;" : Cond) ∈ wsX3_settle := mbX3_settle 3466 (by decide +kernel)
theorem uw_X3_settle_f30 : (.fieldLink RX3 30 "MarchHares$Down" "hares" "I" : Cond) ∈ wsX3_settle := mbX3_settle 3467 (by decide +kernel)
theorem uw_X3_settle_f36 : (.fieldLink RX3 36 "MarchHares$Fitting" "hares" "I" : Cond) ∈ wsX3_settle := mbX3_settle 3468 (by decide +kernel)
theorem uw_X3_settle_f37 : (.fieldLink RX3 37 "MarchHares$Down" "forms" "I" : Cond) ∈ wsX3_settle := mbX3_settle 3469 (by decide +kernel)
theorem uw_X3_settle_f40 : (.fieldLink RX3 40 "MarchHares$Fitting" "forms" "I" : Cond) ∈ wsX3_settle := mbX3_settle 3470 (by decide +kernel)
theorem uw_X3_settle_f41 : (.fieldLink RX3 41 "MarchHares$Fitting" "book" "LMarchHares$Book;" : Cond) ∈ wsX3_settle := mbX3_settle 3471 (by decide +kernel)
theorem uw_X3_settle_f45 : (.fieldLink RX3 45 "MarchHares$Fitting" "many" "I" : Cond) ∈ wsX3_settle := mbX3_settle 3472 (by decide +kernel)
theorem uw_X3_settle_f48 : (.fieldLink RX3 48 "MarchHares$Fitting" "first" "I" : Cond) ∈ wsX3_settle := mbX3_settle 3473 (by decide +kernel)
theorem uw_X3_settle_f9 : (.fieldLink RX3 9 "MarchHares$Fitting" "seated" "[I" : Cond) ∈ wsX3_settle := mbX3_settle 390 (by decide +kernel)
set_option maxHeartbeats 4000000 in
set_option maxRecDepth 100000 in
theorem kb_X3_settle_110 {p : Program} {l : Launch} {e : Env} {s : State} {m : MethodId} {args : Array Value} {below : List Frame} {meth : Method} {c : Code} {A : Nat → Prop} (dC : Nat → ClassId) (dI : Nat → Nat → Nat) (cyB cyI cyJ cyP : ClassId) (a0 a1 a2 jjN jhX jjO ji2 jhn jm6 : Nat) (jmo jpg jkn jjZ jjP jn2 jm3 jm4 jky jkz jkA jkX jkd jkB jke jnl joz : Value) (jjm jh5 : Int32) (jkO jnQ : Nat → Int32) (Q : Int32 → Int32 → Int32 → Int32 → (Nat → Int32) → (Nat → Int32) → (Nat → Int32) → Prop) (K69 : Int32 → Int32 → Int32 → Int32 → (Nat → Int32) → (Nat → Int32) → (Nat → Int32) → Int32 → Prop) (hK69 : ∀ (H : Heap) (locs : List Loc) (ls : Array Slot) (jaC jaN jkY jl7 : Int32) (jiL jjH jim : Nat → Int32) (l3 : Int32), va_P (dC, dI) vwCl (wd02_12 a0 jhX ji2 jhn jmo jaC jaN a2 jkY jl7 jkn jjZ a1 jjO jjP jjN jn2 jjN jm3 jm4 jky jkz jkA jkX jkd jkB jjm jh5 jke jnl jjO cyI jkO jhX cyI jiL ji2 cyI jjH a2 jm6 joz jm6 cyI jnQ jhn cyI jim) H → va_D A (wd02_12 a0 jhX ji2 jhn jmo jaC jaN a2 jkY jl7 jkn jjZ a1 jjO jjP jjN jn2 jjN jm3 jm4 jky jkz jkA jkX jkd jkB jjm jh5 jke jnl jjO cyI jkO jhX cyI jiL ji2 cyI jjH a2 jm6 joz jm6 cyI jnQ jhn cyI jim) → va_S A s.heap H locs → lv_has ls 4 [(0, .ref a0), (1, .ref a1), (3, .int l3)] → K69 jaC jaN jkY jl7 jiL jjH jim l3 → W p l e (headSpec wsX3_settle ({ frames := 3, cells := 0, slots := 0, locals := 69 })).room s m args below meth c H locs 0 0 (MQ below (va_Qv (fun (u : Int32 × Int32 × Int32 × Int32 × (Nat → Int32) × (Nat → Int32) × (Nat → Int32)) => Q u.1 u.2.1 u.2.2.1 u.2.2.2.1 u.2.2.2.2.1 u.2.2.2.2.2.1 u.2.2.2.2.2.2) (cB (dC, dI) (kT cyB cyI cyJ cyP) A (fun u : Int32 × Int32 × Int32 × Int32 × (Nat → Int32) × (Nat → Int32) × (Nat → Int32) => ((wd02_12 a0 jhX ji2 jhn jmo u.1 u.2.1 a2 u.2.2.1 u.2.2.2.1 jkn jjZ a1 jjO jjP jjN jn2 jjN jm3 jm4 jky jkz jkA jkX jkd jkB jjm jh5 jke jnl jjO cyI jkO jhX cyI u.2.2.2.2.1 ji2 cyI u.2.2.2.2.2.1 a2 jm6 joz jm6 cyI jnQ jhn cyI u.2.2.2.2.2.2) : va_W))) A) args s 0 0 A) (F0 m 69 ls [])) (C0 : cfx p s m args meth c cX3_settle none wsX3_settle RX3 4 A (dC, dI) (kT cyB cyI cyJ cyP)) : ∀ (H : Heap) (locs : List Loc) (ls : Array Slot) (jaC jaN jkY jl7 : Int32) (jiL jjH jim : Nat → Int32) (l3 s1 s2 : Int32), va_P (dC, dI) vwCl (wd02_12 a0 jhX ji2 jhn jmo jaC jaN a2 jkY jl7 jkn jjZ a1 jjO jjP jjN jn2 jjN jm3 jm4 jky jkz jkA jkX jkd jkB jjm jh5 jke jnl jjO cyI jkO jhX cyI jiL ji2 cyI jjH a2 jm6 joz jm6 cyI jnQ jhn cyI jim) H → va_D A (wd02_12 a0 jhX ji2 jhn jmo jaC jaN a2 jkY jl7 jkn jjZ a1 jjO jjP jjN jn2 jjN jm3 jm4 jky jkz jkA jkX jkd jkB jjm jh5 jke jnl jjO cyI jkO jhX cyI jiL ji2 cyI jjH a2 jm6 joz jm6 cyI jnQ jhn cyI jim) → va_S A s.heap H locs → lv_has ls 4 [(0, .ref a0), (1, .ref a1), (3, .int l3)] → wb_X3_settle_110 jjm jh5 jkO jnQ Q K69 jaC jaN jkY jl7 jiL jjH jim l3 s1 s2 → W p l e (headSpec wsX3_settle ({ frames := 3, cells := 0, slots := 0, locals := 69 })).room s m args below meth c H locs 0 0 (MQ below (va_Qv (fun (u : Int32 × Int32 × Int32 × Int32 × (Nat → Int32) × (Nat → Int32) × (Nat → Int32)) => Q u.1 u.2.1 u.2.2.1 u.2.2.2.1 u.2.2.2.2.1 u.2.2.2.2.2.1 u.2.2.2.2.2.2) (cB (dC, dI) (kT cyB cyI cyJ cyP) A (fun u : Int32 × Int32 × Int32 × Int32 × (Nat → Int32) × (Nat → Int32) × (Nat → Int32) => ((wd02_12 a0 jhX ji2 jhn jmo u.1 u.2.1 a2 u.2.2.1 u.2.2.2.1 jkn jjZ a1 jjO jjP jjN jn2 jjN jm3 jm4 jky jkz jkA jkX jkd jkB jjm jh5 jke jnl jjO cyI jkO jhX cyI u.2.2.2.2.1 ji2 cyI u.2.2.2.2.2.1 a2 jm6 joz jm6 cyI jnQ jhn cyI u.2.2.2.2.2.2) : va_W))) A) args s 0 0 A) (F0 m 110 ls [.int s2, .int s1, .ref jhn]) := by
  obtain ⟨hx, hb, hr, hts, hown, hlocks, hml, hA, hK, hNw⟩ := id C0
  intro H locs ls jaC jaN jkY jl7 jiL jjH jim l3 s1 s2 hP hD hS hl hw
  obtain ⟨hi9, hw⟩ := hw
  refine va_iast hx hb hK hP hD hS 8 1 rfl rfl hi9 (dt_of tkX3_settle_k88 12 rfl) (fun H locs hP hD hS => ?_)
  obtain ⟨f14, ef14⟩ : ∃ y : Nat → Int32, y = upd jim s1.toNatClampNeg s2 := ⟨_, rfl⟩
  have hw := hw f14 ef14
  have hP : va_P (dC, dI) vwCl (wd02_12 a0 jhX ji2 jhn jmo jaC jaN a2 jkY jl7 jkn jjZ a1 jjO jjP jjN jn2 jjN jm3 jm4 jky jkz jkA jkX jkd jkB jjm jh5 jke jnl jjO cyI jkO jhX cyI jiL ji2 cyI jjH a2 jm6 joz jm6 cyI jnQ jhn cyI f14) H := by rw [ef14]; exact hP
  have hD : va_D A (wd02_12 a0 jhX ji2 jhn jmo jaC jaN a2 jkY jl7 jkn jjZ a1 jjO jjP jjN jn2 jjN jm3 jm4 jky jkz jkA jkX jkd jkB jjm jh5 jke jnl jjO cyI jkO jhX cyI jiL ji2 cyI jjH a2 jm6 joz jm6 cyI jnQ jhn cyI f14) := by rw [ef14]; exact hD
  obtain ⟨x15, ex15⟩ : ∃ y : Int32, y = l3 + 1 := ⟨_, rfl⟩
  have hw := hw x15 ex15
  refine lv_iinc (v := x15) (lv' := [(3, .int x15), (0, .ref a0), (1, .ref a1)]) hx hb (dt_of tkX3_settle_k88 13 rfl) hl (k := 2) rfl (by rw [ex15]; rfl) (by decide) rfl (fun ls hl => ?_)
  refine lv_goto (tgt := 69) hx hb (dt_of tkX3_settle_k88 14 rfl) (by decide) ?_
  exact hK69 _ _ _ jaC jaN jkY jl7 jiL jjH f14 x15 hP hD hS (lv_sub hl [1, 2, 0] rfl) hw
set_option maxHeartbeats 4000000 in
set_option maxRecDepth 100000 in
theorem kl_X3_settle_69 {p : Program} {l : Launch} {e : Env} {s : State} {m : MethodId} {args : Array Value} {below : List Frame} {meth : Method} {c : Code} {A : Nat → Prop} (dC : Nat → ClassId) (dI : Nat → Nat → Nat) (cyB cyI cyJ cyP : ClassId) (a0 a1 a2 jjN jhX jjO ji2 jhn jm6 : Nat) (jmo jpg jkn jjZ jjP jn2 jm3 jm4 jky jkz jkA jkX jkd jkB jke jnl joz : Value) (jjm jh5 : Int32) (jkO jnQ : Nat → Int32) (Q : Int32 → Int32 → Int32 → Int32 → (Nat → Int32) → (Nat → Int32) → (Nat → Int32) → Prop)  (C0 : cfx p s m args meth c cX3_settle none wsX3_settle RX3 4 A (dC, dI) (kT cyB cyI cyJ cyP)) : ∀ (n : Nat) (H : Heap) (locs : List Loc) (ls : Array Slot) (jaC jaN jkY jl7 : Int32) (jiL jjH jim : Nat → Int32) (l3 : Int32), va_P (dC, dI) vwCl (wd02_12 a0 jhX ji2 jhn jmo jaC jaN a2 jkY jl7 jkn jjZ a1 jjO jjP jjN jn2 jjN jm3 jm4 jky jkz jkA jkX jkd jkB jjm jh5 jke jnl jjO cyI jkO jhX cyI jiL ji2 cyI jjH a2 jm6 joz jm6 cyI jnQ jhn cyI jim) H → va_D A (wd02_12 a0 jhX ji2 jhn jmo jaC jaN a2 jkY jl7 jkn jjZ a1 jjO jjP jjN jn2 jjN jm3 jm4 jky jkz jkA jkX jkd jkB jjm jh5 jke jnl jjO cyI jkO jhX cyI jiL ji2 cyI jjH a2 jm6 joz jm6 cyI jnQ jhn cyI jim) → va_S A s.heap H locs → lv_has ls 4 [(0, .ref a0), (1, .ref a1), (3, .int l3)] → wl_X3_settle_69 jjm jh5 jkO jnQ Q  n jaC jaN jkY jl7 jiL jjH jim l3 → W p l e (headSpec wsX3_settle ({ frames := 3, cells := 0, slots := 0, locals := 69 })).room s m args below meth c H locs 0 0 (MQ below (va_Qv (fun (u : Int32 × Int32 × Int32 × Int32 × (Nat → Int32) × (Nat → Int32) × (Nat → Int32)) => Q u.1 u.2.1 u.2.2.1 u.2.2.2.1 u.2.2.2.2.1 u.2.2.2.2.2.1 u.2.2.2.2.2.2) (cB (dC, dI) (kT cyB cyI cyJ cyP) A (fun u : Int32 × Int32 × Int32 × Int32 × (Nat → Int32) × (Nat → Int32) × (Nat → Int32) => ((wd02_12 a0 jhX ji2 jhn jmo u.1 u.2.1 a2 u.2.2.1 u.2.2.2.1 jkn jjZ a1 jjO jjP jjN jn2 jjN jm3 jm4 jky jkz jkA jkX jkd jkB jjm jh5 jke jnl jjO cyI jkO jhX cyI u.2.2.2.2.1 ji2 cyI u.2.2.2.2.2.1 a2 jm6 joz jm6 cyI jnQ jhn cyI u.2.2.2.2.2.2) : va_W))) A) args s 0 0 A) (F0 m 69 ls []) := by
  obtain ⟨hx, hb, hr, hts, hown, hlocks, hml, hA, hK, hNw⟩ := id C0
  intro n
  induction n with
  | zero => intro H locs ls jaC jaN jkY jl7 jiL jjH jim l3 hP hD hS hl hw; exact False.elim hw
  | succ n ih =>
    intro H locs ls jaC jaN jkY jl7 jiL jjH jim l3 hP hD hS hl hw
    refine lv_iload_n hx hb (dt_of tkX3_settle_k60 5 rfl) rfl (lv_at hl 2 rfl) ?_
    refine lv_aload_n hx hb (dt_of tkX3_settle_k60 6 rfl) rfl (lv_at hl 0 rfl) ?_
    refine va_get (D := (dC, dI)) (ci := 3) (v := .int jaC) (C := RX3) (T := TX3) (N := 11) hx hb hts ui_X3_settle_X3 hown hK hP 0 rfl rfl 4 (by decide) (hts _ uw_X3_settle_f36) (fun _ h9 => h9) rfl (dt_of tkX3_settle_k60 7 rfl) ?_
    refine lv_icmp_ge (tgt := 117) hx hb (dt_of tkX3_settle_k60 8 rfl) (by decide) (fun c6 => ?_) (fun c6 => ?_)
    · have hw := hw.1 c6
      exact ((W.vret hx hb hr (fun t ht hW => ⟨⟨(jaC, jaN, jkY, jl7, jiL, jjH, jim), rfl, hw, by rw [ht]; exact hP, va_K.moved hW.alike hK, hD⟩, hS.F ht⟩) hS.2.2 (dt_of tkX3_settle_k88 15 rfl)))
    · have hw := hw.2 c6
      refine lv_aload_n hx hb (dt_of tkX3_settle_k60 9 rfl) rfl (lv_at hl 0 rfl) ?_
      refine va_get (D := (dC, dI)) (ci := 3) (v := .ref ji2) (C := RX3) (T := TX3) (N := 11) hx hb hts ui_X3_settle_X3 hown hK hP 0 rfl rfl 1 (by decide) (hts _ uw_X3_settle_f15) (fun _ h9 => h9) rfl (dt_of tkX3_settle_k60 10 rfl) ?_
      refine lv_iload_n hx hb (dt_of tkX3_settle_k60 11 rfl) rfl (lv_at hl 2 rfl) ?_
      refine lv_aload_n hx hb (dt_of tkX3_settle_k60 12 rfl) rfl (lv_at hl 1 rfl) ?_
      refine lv_iload_n hx hb (dt_of tkX3_settle_k60 13 rfl) rfl (lv_at hl 2 rfl) ?_
      obtain ⟨hCc, hPc, hDc, hFc⟩ := va_pick (ws' := (wd02_13 a1 jjO jjP jjN jn2 jjO cyI jkO)) hP hD hS hA [1, 3] (by decide +kernel) rfl
      refine va_calli (va_runV (As := [.int l3]) (rest := [.int l3, .ref ji2]) ⟨hx, hb, hml, hown, hts⟩ (ck_X1_sits l dC dI cyB cyI cyJ cyP a1 jjO H.size (jjP) (.ref jjN) (jn2) jkO  l3 hw) (cwV 1 hts gX3_settle_X1_sits rfl rfl rfl (by decide +kernel) ⟨Nat.le_of_ble_eq_true rfl, Nat.le_of_ble_eq_true rfl⟩) ⟨cPc_blind, va_recv (q := (RX1, TX1, 4)) hK hPc (ci := 1) (q0 := 0) rfl rfl, cPc_pre hPc hK hDc hNw⟩ rfl rfl hl.1 rfl (lv_room (Nat.le_of_ble_eq_true rfl)) (dt_of tkX3_settle_k60 14 rfl) ⟨Nat.le_of_ble_eq_true rfl, Nat.le_of_ble_eq_true rfl⟩) hS (fun q _ h => hFc q h) hFc (fun r7 u t H1 locs ht hvm hw hB hz1 hk1 hS => ?_)
      obtain ⟨hP1, hK1, hD1⟩ := hB
      rw [ht] at hP1
      obtain ⟨hP, hD⟩ := va_joinN (wr := (wd02_14 a0 jhX ji2 jhn jmo jaC jaN a2 jkY jl7 jkn jjZ jjN jm3 jm4 jky jkz jkA jkX jkd jkB jjm jh5 jke jnl jhX cyI jiL ji2 cyI jjH a2 jm6 joz jm6 cyI jnQ jhn cyI jim)) (w1 := (wd02_13 a1 jjO jjP jjN jn2 jjO cyI jkO)) (wn := (wd02_12 a0 jhX ji2 jhn jmo jaC jaN a2 jkY jl7 jkn jjZ a1 jjO jjP jjN jn2 jjN jm3 jm4 jky jkz jkA jkX jkd jkB jjm jh5 jke jnl jjO cyI jkO jhX cyI jiL ji2 cyI jjH a2 jm6 joz jm6 cyI jnQ jhn cyI jim)) hP hD [1, 3] [0, 2, 4, 5, 6, 7, 8] [0, 7, 1, 8, 2, 3, 4, 5, 6] hCc rfl (by decide +kernel) (by decide +kernel) (by decide +kernel) rfl hk1 hFc hP1 hD1
      generalize H1 = H at hP hS ⊢
      obtain ⟨hi9, hw⟩ := hw
      refine va_iast hx hb hK hP hD hS 5 1 rfl rfl hi9 (dt_of tkX3_settle_k60 15 rfl) (fun H locs hP hD hS => ?_)
      obtain ⟨f8, ef8⟩ : ∃ y : Nat → Int32, y = upd jjH l3.toNatClampNeg r7 := ⟨_, rfl⟩
      have hw := hw f8 ef8
      have hP : va_P (dC, dI) vwCl (wd02_12 a0 jhX ji2 jhn jmo jaC jaN a2 jkY jl7 jkn jjZ a1 jjO jjP jjN jn2 jjN jm3 jm4 jky jkz jkA jkX jkd jkB jjm jh5 jke jnl jjO cyI jkO jhX cyI jiL ji2 cyI f8 a2 jm6 joz jm6 cyI jnQ jhn cyI jim) H := by rw [ef8]; exact hP
      have hD : va_D A (wd02_12 a0 jhX ji2 jhn jmo jaC jaN a2 jkY jl7 jkn jjZ a1 jjO jjP jjN jn2 jjN jm3 jm4 jky jkz jkA jkX jkd jkB jjm jh5 jke jnl jjO cyI jkO jhX cyI jiL ji2 cyI f8 a2 jm6 joz jm6 cyI jnQ jhn cyI jim) := by rw [ef8]; exact hD
      refine lv_aload_n hx hb (dt_of tkX3_settle_k88 0 rfl) rfl (lv_at hl 0 rfl) ?_
      refine va_get (D := (dC, dI)) (ci := 3) (v := .ref jhn) (C := RX3) (T := TX3) (N := 11) hx hb hts ui_X3_settle_X3 hown hK hP 0 rfl rfl 2 (by decide) (hts _ uw_X3_settle_f18) (fun _ h9 => h9) rfl (dt_of tkX3_settle_k88 1 rfl) ?_
      refine lv_iload_n hx hb (dt_of tkX3_settle_k88 2 rfl) rfl (lv_at hl 2 rfl) ?_
      refine lv_aload_n hx hb (dt_of tkX3_settle_k88 3 rfl) rfl (lv_at hl 1 rfl) ?_
      refine lv_iload_n hx hb (dt_of tkX3_settle_k88 4 rfl) rfl (lv_at hl 2 rfl) ?_
      obtain ⟨hCc, hPc, hDc, hFc⟩ := va_pick (ws' := (wd02_13 a1 jjO jjP jjN jn2 jjO cyI jkO)) hP hD hS hA [1, 3] (by decide +kernel) rfl
      refine va_calli (va_runV (As := [.int l3]) (rest := [.int l3, .ref jhn]) ⟨hx, hb, hml, hown, hts⟩ (ck_X1_isCaught l dC dI cyB cyI cyJ cyP a1 jjO H.size (jjP) (.ref jjN) (jn2) jkO  l3 hw) (cwV 1 hts gX3_settle_X1_isCaught rfl rfl rfl (by decide +kernel) ⟨Nat.le_of_ble_eq_true rfl, Nat.le_of_ble_eq_true rfl⟩) ⟨cPc_blind, va_recv (q := (RX1, TX1, 4)) hK hPc (ci := 1) (q0 := 0) rfl rfl, cPc_pre hPc hK hDc hNw⟩ rfl rfl hl.1 rfl (lv_room (Nat.le_of_ble_eq_true rfl)) (dt_of tkX3_settle_k88 5 rfl) ⟨Nat.le_of_ble_eq_true rfl, Nat.le_of_ble_eq_true rfl⟩) hS (fun q _ h => hFc q h) hFc (fun r9 u t H1 locs ht hvm hw hB hz1 hk1 hS => ?_)
      obtain ⟨hP1, hK1, hD1⟩ := hB
      rw [ht] at hP1
      obtain ⟨hP, hD⟩ := va_joinN (wr := (wd02_14 a0 jhX ji2 jhn jmo jaC jaN a2 jkY jl7 jkn jjZ jjN jm3 jm4 jky jkz jkA jkX jkd jkB jjm jh5 jke jnl jhX cyI jiL ji2 cyI f8 a2 jm6 joz jm6 cyI jnQ jhn cyI jim)) (w1 := (wd02_13 a1 jjO jjP jjN jn2 jjO cyI jkO)) (wn := (wd02_12 a0 jhX ji2 jhn jmo jaC jaN a2 jkY jl7 jkn jjZ a1 jjO jjP jjN jn2 jjN jm3 jm4 jky jkz jkA jkX jkd jkB jjm jh5 jke jnl jjO cyI jkO jhX cyI jiL ji2 cyI f8 a2 jm6 joz jm6 cyI jnQ jhn cyI jim)) hP hD [1, 3] [0, 2, 4, 5, 6, 7, 8] [0, 7, 1, 8, 2, 3, 4, 5, 6] hCc rfl (by decide +kernel) (by decide +kernel) (by decide +kernel) rfl hk1 hFc hP1 hD1
      generalize H1 = H at hP hS ⊢
      refine lv_if_eq (tgt := 105) hx hb (dt_of tkX3_settle_k88 6 rfl) (by decide) (fun c10 => ?_) (fun c10 => ?_)
      · have hw := hw.1 c10
        refine lv_aload_n hx hb (dt_of tkX3_settle_k88 9 rfl) rfl (lv_at hl 0 rfl) ?_
        refine lv_iload_n hx hb (dt_of tkX3_settle_k88 10 rfl) rfl (lv_at hl 2 rfl) ?_
        obtain ⟨hCc, hPc, hDc, hFc⟩ := va_pick (ws' := (wd02_15 a0 jhX ji2 jhn jmo jaC jaN a2 jkY jl7 jkn jjZ jhX cyI jiL ji2 cyI f8 a2 jm6 joz jm6 cyI jnQ)) hP hD hS hA [0, 4, 5, 6, 7] (by decide +kernel) rfl
        refine va_calli (va_runV (As := [.int l3]) (rest := [.int l3, .ref jhn]) ⟨hx, hb, hml, hown, hts⟩ (ck_X3_formsFor l dC dI cyB cyI cyJ cyP a0 jhX ji2 a2 jm6 H.size (.ref jhn) (jmo) (.int jaC) (jkn) (jjZ) (joz) jaN jiL f8 jnQ jl7 jkY l3 hw) (cwV 1 hts gX3_settle_X3_formsFor rfl rfl rfl (by decide +kernel) ⟨Nat.le_of_ble_eq_true rfl, Nat.le_of_ble_eq_true rfl⟩) ⟨cPc_blind, va_recv (q := (RX3, TX3, 11)) hK hPc (ci := 3) (q0 := 0) rfl rfl, cPc_pre hPc hK hDc hNw⟩ rfl rfl hl.1 rfl (lv_room (Nat.le_of_ble_eq_true rfl)) (dt_of tkX3_settle_k88 11 rfl) ⟨Nat.le_of_ble_eq_true rfl, Nat.le_of_ble_eq_true rfl⟩) hS (fun q _ h => hFc q h) hFc (fun r13 u t H1 locs ht hvm hw hB hz1 hk1 hS => ?_)
        obtain ⟨x11, x12⟩ := u
        obtain ⟨hP1, hK1, hD1⟩ := hB
        rw [ht] at hP1
        obtain ⟨hP, hD⟩ := va_joinN (wr := [(a1, .inr (1, [.ref jjO, jjP, .ref jjN, jn2])), (jjN, .inr (2, [jm3, jm4, jky, jkz, jkA, jkX, jkd, jkB, .int jjm, .int jh5, jke, jnl])), (jjO, .inl (cyI, 64, .inl jkO)), (jhn, .inl (cyI, 6, .inl jim))]) (w1 := (wd02_15 a0 jhX ji2 jhn jmo jaC jaN a2 x12 x11 jkn jjZ jhX cyI jiL ji2 cyI f8 a2 jm6 joz jm6 cyI jnQ)) (wn := (wd02_12 a0 jhX ji2 jhn jmo jaC jaN a2 x12 x11 jkn jjZ a1 jjO jjP jjN jn2 jjN jm3 jm4 jky jkz jkA jkX jkd jkB jjm jh5 jke jnl jjO cyI jkO jhX cyI jiL ji2 cyI f8 a2 jm6 joz jm6 cyI jnQ jhn cyI jim)) hP hD [0, 4, 5, 6, 7] [1, 2, 3, 8] [4, 0, 1, 2, 5, 6, 7, 8, 3] hCc rfl (by decide +kernel) (by decide +kernel) (by decide +kernel) rfl hk1 hFc hP1 hD1
        generalize H1 = H at hP hS ⊢
        exact kb_X3_settle_110 dC dI cyB cyI cyJ cyP a0 a1 a2 jjN jhX jjO ji2 jhn jm6 jmo jpg jkn jjZ jjP jn2 jm3 jm4 jky jkz jkA jkX jkd jkB jke jnl joz jjm jh5 jkO jnQ Q (wl_X3_settle_69 jjm jh5 jkO jnQ Q  n) ih C0 _ _ _ jaC jaN x12 x11 jiL f8 jim l3 l3 r13 hP hD hS (lv_sub hl [0, 1, 2] rfl) hw
      · have hw := hw.2 c10
        refine lv_iconst (v := 0) hx hb (dt_of tkX3_settle_k88 7 rfl) (by decide) ?_
        refine lv_goto (tgt := 110) hx hb (dt_of tkX3_settle_k88 8 rfl) (by decide) ?_
        exact kb_X3_settle_110 dC dI cyB cyI cyJ cyP a0 a1 a2 jjN jhX jjO ji2 jhn jm6 jmo jpg jkn jjZ jjP jn2 jm3 jm4 jky jkz jkA jkX jkd jkB jke jnl joz jjm jh5 jkO jnQ Q (wl_X3_settle_69 jjm jh5 jkO jnQ Q  n) ih C0 _ _ _ jaC jaN jkY jl7 jiL f8 jim l3 l3 0 hP hD hS (lv_sub hl [0, 1, 2] rfl) hw
set_option maxHeartbeats 4000000 in
set_option maxRecDepth 100000 in
theorem kl_X3_settle_39 {p : Program} {l : Launch} {e : Env} {s : State} {m : MethodId} {args : Array Value} {below : List Frame} {meth : Method} {c : Code} {A : Nat → Prop} (dC : Nat → ClassId) (dI : Nat → Nat → Nat) (cyB cyI cyJ cyP : ClassId) (a0 a1 a2 jjN jhX jjO ji2 jhn jm6 : Nat) (jmo jpg jkn jjZ jjP jn2 jm3 jm4 jky jkz jkA jkX jkd jkB jke jnl joz : Value) (jjm jh5 : Int32) (jkO jnQ : Nat → Int32) (Q : Int32 → Int32 → Int32 → Int32 → (Nat → Int32) → (Nat → Int32) → (Nat → Int32) → Prop)  (C0 : cfx p s m args meth c cX3_settle none wsX3_settle RX3 4 A (dC, dI) (kT cyB cyI cyJ cyP)) : ∀ (n : Nat) (H : Heap) (locs : List Loc) (ls : Array Slot) (jaC jaN jkY jl7 : Int32) (jiL jjH jim : Nat → Int32) (l3 : Int32), va_P (dC, dI) vwCl (wd02_12 a0 jhX ji2 jhn jmo jaC jaN a2 jkY jl7 jkn jjZ a1 jjO jjP jjN jn2 jjN jm3 jm4 jky jkz jkA jkX jkd jkB jjm jh5 jke jnl jjO cyI jkO jhX cyI jiL ji2 cyI jjH a2 jm6 joz jm6 cyI jnQ jhn cyI jim) H → va_D A (wd02_12 a0 jhX ji2 jhn jmo jaC jaN a2 jkY jl7 jkn jjZ a1 jjO jjP jjN jn2 jjN jm3 jm4 jky jkz jkA jkX jkd jkB jjm jh5 jke jnl jjO cyI jkO jhX cyI jiL ji2 cyI jjH a2 jm6 joz jm6 cyI jnQ jhn cyI jim) → va_S A s.heap H locs → lv_has ls 4 [(0, .ref a0), (1, .ref a1), (3, .int l3)] → wl_X3_settle_39 jjm jh5 jkO jnQ Q  n jaC jaN jkY jl7 jiL jjH jim l3 → W p l e (headSpec wsX3_settle ({ frames := 3, cells := 0, slots := 0, locals := 69 })).room s m args below meth c H locs 0 0 (MQ below (va_Qv (fun (u : Int32 × Int32 × Int32 × Int32 × (Nat → Int32) × (Nat → Int32) × (Nat → Int32)) => Q u.1 u.2.1 u.2.2.1 u.2.2.2.1 u.2.2.2.2.1 u.2.2.2.2.2.1 u.2.2.2.2.2.2) (cB (dC, dI) (kT cyB cyI cyJ cyP) A (fun u : Int32 × Int32 × Int32 × Int32 × (Nat → Int32) × (Nat → Int32) × (Nat → Int32) => ((wd02_12 a0 jhX ji2 jhn jmo u.1 u.2.1 a2 u.2.2.1 u.2.2.2.1 jkn jjZ a1 jjO jjP jjN jn2 jjN jm3 jm4 jky jkz jkA jkX jkd jkB jjm jh5 jke jnl jjO cyI jkO jhX cyI u.2.2.2.2.1 ji2 cyI u.2.2.2.2.2.1 a2 jm6 joz jm6 cyI jnQ jhn cyI u.2.2.2.2.2.2) : va_W))) A) args s 0 0 A) (F0 m 39 ls []) := by
  obtain ⟨hx, hb, hr, hts, hown, hlocks, hml, hA, hK, hNw⟩ := id C0
  intro n
  induction n with
  | zero => intro H locs ls jaC jaN jkY jl7 jiL jjH jim l3 hP hD hS hl hw; exact False.elim hw
  | succ n ih =>
    intro H locs ls jaC jaN jkY jl7 jiL jjH jim l3 hP hD hS hl hw
    refine lv_iload_n hx hb (dt_of tkX3_settle_k32 5 rfl) rfl (lv_at hl 2 rfl) ?_
    refine lv_aload_n hx hb (dt_of tkX3_settle_k32 6 rfl) rfl (lv_at hl 0 rfl) ?_
    refine va_get (D := (dC, dI)) (ci := 3) (v := .int jaN) (C := RX3) (T := TX3) (N := 11) hx hb hts ui_X3_settle_X3 hown hK hP 0 rfl rfl 5 (by decide) (hts _ uw_X3_settle_f40) (fun _ h9 => h9) rfl (dt_of tkX3_settle_k32 7 rfl) ?_
    refine lv_icmp_ge (tgt := 67) hx hb (dt_of tkX3_settle_k32 8 rfl) (by decide) (fun c1 => ?_) (fun c1 => ?_)
    · have hw := hw.1 c1
      refine lv_iconst (v := 0) hx hb (dt_of tkX3_settle_k60 3 rfl) (by decide) ?_
      refine lv_istore_n (lv' := [(3, .int 0), (0, .ref a0), (1, .ref a1)]) hx hb (dt_of tkX3_settle_k60 4 rfl) rfl hl (by decide) rfl (fun ls hl => ?_)
      obtain ⟨n9, hw⟩ := hw
      exact kl_X3_settle_69 dC dI cyB cyI cyJ cyP a0 a1 a2 jjN jhX jjO ji2 jhn jm6 jmo jpg jkn jjZ jjP jn2 jm3 jm4 jky jkz jkA jkX jkd jkB jke jnl joz jjm jh5 jkO jnQ Q  C0 n9 _ _ _ jaC jaN jkY jl7 jiL jjH jim 0 hP hD hS (lv_sub hl [1, 2, 0] rfl) hw
    · have hw := hw.2 c1
      refine lv_aload_n hx hb (dt_of tkX3_settle_k32 9 rfl) rfl (lv_at hl 0 rfl) ?_
      refine va_get (D := (dC, dI)) (ci := 3) (v := .ref jhX) (C := RX3) (T := TX3) (N := 11) hx hb hts ui_X3_settle_X3 hown hK hP 0 rfl rfl 0 (by decide) (hts _ uw_X3_settle_f9) (fun _ h9 => h9) rfl (dt_of tkX3_settle_k32 10 rfl) ?_
      refine lv_iload_n hx hb (dt_of tkX3_settle_k32 11 rfl) rfl (lv_at hl 2 rfl) ?_
      refine lv_aload_n hx hb (dt_of tkX3_settle_k32 12 rfl) rfl (lv_at hl 1 rfl) ?_
      refine lv_iload_n hx hb (dt_of tkX3_settle_k32 13 rfl) rfl (lv_at hl 2 rfl) ?_
      obtain ⟨hCc, hPc, hDc, hFc⟩ := va_pick (ws' := (wd02_16 a1 jjO jjP jjN jn2 jjN jm3 jm4 jky jkz jkA jkX jkd jkB jjm jh5 jke jnl jjO cyI jkO)) hP hD hS hA [1, 2, 3] (by decide +kernel) rfl
      refine va_calli (va_runV (As := [.int l3]) (rest := [.int l3, .ref jhX]) ⟨hx, hb, hml, hown, hts⟩ (ck_X1_seatedIn l dC dI cyB cyI cyJ cyP a1 jjN jjO H.size (jjP) (jn2) (jm3) (jm4) (jky) (jkz) (jkA) (jkX) (jkd) (jkB) (.int jjm) (jke) (jnl) jh5 jkO  l3 hw) (cwV 1 hts gX3_settle_X1_seatedIn rfl rfl rfl (by decide +kernel) ⟨Nat.le_of_ble_eq_true rfl, Nat.le_of_ble_eq_true rfl⟩) ⟨cPc_blind, va_recv (q := (RX1, TX1, 4)) hK hPc (ci := 1) (q0 := 0) rfl rfl, cPc_pre hPc hK hDc hNw⟩ rfl rfl hl.1 rfl (lv_room (Nat.le_of_ble_eq_true rfl)) (dt_of tkX3_settle_k32 14 rfl) ⟨Nat.le_of_ble_eq_true rfl, Nat.le_of_ble_eq_true rfl⟩) hS (fun q _ h => hFc q h) hFc (fun r2 u t H1 locs ht hvm hw hB hz1 hk1 hS => ?_)
      obtain ⟨hP1, hK1, hD1⟩ := hB
      rw [ht] at hP1
      obtain ⟨hP, hD⟩ := va_joinN (wr := [(a0, .inr (3, [.ref jhX, .ref ji2, .ref jhn, jmo, .int jaC, .int jaN, .ref a2, .int jkY, .int jl7, jkn, jjZ])), (jhX, .inl (cyI, 8, .inl jiL)), (ji2, .inl (cyI, 6, .inl jjH)), (a2, .inr (0, [.ref jm6, joz])), (jm6, .inl (cyI, 8, .inl jnQ)), (jhn, .inl (cyI, 6, .inl jim))]) (w1 := (wd02_16 a1 jjO jjP jjN jn2 jjN jm3 jm4 jky jkz jkA jkX jkd jkB jjm jh5 jke jnl jjO cyI jkO)) (wn := (wd02_12 a0 jhX ji2 jhn jmo jaC jaN a2 jkY jl7 jkn jjZ a1 jjO jjP jjN jn2 jjN jm3 jm4 jky jkz jkA jkX jkd jkB jjm jh5 jke jnl jjO cyI jkO jhX cyI jiL ji2 cyI jjH a2 jm6 joz jm6 cyI jnQ jhn cyI jim)) hP hD [1, 2, 3] [0, 4, 5, 6, 7, 8] [0, 6, 7, 8, 1, 2, 3, 4, 5] hCc rfl (by decide +kernel) (by decide +kernel) (by decide +kernel) rfl hk1 hFc hP1 hD1
      generalize H1 = H at hP hS ⊢
      obtain ⟨hCc, hPc, hDc, hFc⟩ := va_pick (ws' := []) hP hD hS hA [] (by decide +kernel) rfl
      refine va_calli (va_runS (As := [.int r2]) (rest := [.int l3, .ref jhX]) ⟨hx, hb, hml, hown, hts⟩ (ck_J6_bitCount_0f7a4 l dC dI cyB cyI cyJ cyP  H.size    r2 hw) (va_cwS 1 hts gX3_settle_J6_bitCount_0f7a4 rfl rfl rfl (by decide +kernel) ⟨Nat.le_of_ble_eq_true rfl, Nat.le_of_ble_eq_true rfl⟩) ⟨cPc_blind, cPc_pre hPc hK hDc hNw⟩ rfl rfl hl.1 rfl (lv_room (Nat.le_of_ble_eq_true rfl)) (dt_of tkX3_settle_k32 15 rfl) ⟨Nat.le_of_ble_eq_true rfl, Nat.le_of_ble_eq_true rfl⟩) hS (fun q _ h => hFc q h) hFc (fun r3 u t H1 locs ht hvm hw hB hz1 hk1 hS => ?_)
      obtain ⟨hP1, hK1, hD1⟩ := hB
      rw [ht] at hP1
      obtain ⟨hP, hD⟩ := va_joinI (wr := (wd02_12 a0 jhX ji2 jhn jmo jaC jaN a2 jkY jl7 jkn jjZ a1 jjO jjP jjN jn2 jjN jm3 jm4 jky jkz jkA jkX jkd jkB jjm jh5 jke jnl jjO cyI jkO jhX cyI jiL ji2 cyI jjH a2 jm6 joz jm6 cyI jnQ jhn cyI jim)) (w1 := []) (wn := (wd02_12 a0 jhX ji2 jhn jmo jaC jaN a2 jkY jl7 jkn jjZ a1 jjO jjP jjN jn2 jjN jm3 jm4 jky jkz jkA jkX jkd jkB jjm jh5 jke jnl jjO cyI jkO jhX cyI jiL ji2 cyI jjH a2 jm6 joz jm6 cyI jnQ jhn cyI jim)) hP hD [] [0, 1, 2, 3, 4, 5, 6, 7, 8] hCc rfl (by decide +kernel) (by decide +kernel) rfl hk1 hFc hP1 hD1
      generalize H1 = H at hP hS ⊢
      obtain ⟨hi9, hw⟩ := hw
      refine va_iast hx hb hK hP hD hS 4 1 rfl rfl hi9 (dt_of tkX3_settle_k60 0 rfl) (fun H locs hP hD hS => ?_)
      obtain ⟨f4, ef4⟩ : ∃ y : Nat → Int32, y = upd jiL l3.toNatClampNeg r3 := ⟨_, rfl⟩
      have hw := hw f4 ef4
      have hP : va_P (dC, dI) vwCl (wd02_12 a0 jhX ji2 jhn jmo jaC jaN a2 jkY jl7 jkn jjZ a1 jjO jjP jjN jn2 jjN jm3 jm4 jky jkz jkA jkX jkd jkB jjm jh5 jke jnl jjO cyI jkO jhX cyI f4 ji2 cyI jjH a2 jm6 joz jm6 cyI jnQ jhn cyI jim) H := by rw [ef4]; exact hP
      have hD : va_D A (wd02_12 a0 jhX ji2 jhn jmo jaC jaN a2 jkY jl7 jkn jjZ a1 jjO jjP jjN jn2 jjN jm3 jm4 jky jkz jkA jkX jkd jkB jjm jh5 jke jnl jjO cyI jkO jhX cyI f4 ji2 cyI jjH a2 jm6 joz jm6 cyI jnQ jhn cyI jim) := by rw [ef4]; exact hD
      obtain ⟨x5, ex5⟩ : ∃ y : Int32, y = l3 + 1 := ⟨_, rfl⟩
      have hw := hw x5 ex5
      refine lv_iinc (v := x5) (lv' := [(3, .int x5), (0, .ref a0), (1, .ref a1)]) hx hb (dt_of tkX3_settle_k60 1 rfl) hl (k := 2) rfl (by rw [ex5]; rfl) (by decide) rfl (fun ls hl => ?_)
      refine lv_goto (tgt := 39) hx hb (dt_of tkX3_settle_k60 2 rfl) (by decide) ?_
      exact ih _ _ _ jaC jaN jkY jl7 f4 jjH jim x5 hP hD hS (lv_sub hl [1, 2, 0] rfl) hw
set_option maxHeartbeats 4000000 in
set_option maxRecDepth 100000 in
theorem ck_X3_settle (l : Launch) (dC : Nat → ClassId) (dI : Nat → Nat → Nat) (cyB cyI cyJ cyP : ClassId) (a0 a1 a2 jjN jhX jjO ji2 jhn jm6 sz : Nat) (jmo jpg jkn jjZ jjP jn2 jm3 jm4 jky jkz jkA jkX jkd jkB jke jnl joz : Value) (jjm jh5 : Int32) (jkO jnQ : Nat → Int32) (jaC jaN jkY jl7 : Int32) (jiL jjH jim : Nat → Int32)  {Q : Int32 → Int32 → Int32 → Int32 → (Nat → Int32) → (Nat → Int32) → (Nat → Int32) → Prop} (hw : wq_X3_settle jjm jh5 jkO jnQ jaC jaN jkY jl7 jiL jjH jim  Q) : Met l yX3_settle wsX3_settle ({ frames := 3, cells := 0, slots := 0, locals := 69 }) (va_Pc [.ref a0, .ref a1, .ref a2] (cPc (dC, dI) (kT cyB cyI cyJ cyP) (wd02_17 a0 jhX ji2 jhn jmo jaC jaN jpg jkY jl7 jkn jjZ a1 jjO jjP jjN jn2 jjN jm3 jm4 jky jkz jkA jkX jkd jkB jjm jh5 jke jnl jjO cyI jkO jhX cyI jiL ji2 cyI jjH a2 jm6 joz jm6 cyI jnQ jhn cyI jim) sz)) (va_Qv (fun (u : Int32 × Int32 × Int32 × Int32 × (Nat → Int32) × (Nat → Int32) × (Nat → Int32)) => Q u.1 u.2.1 u.2.2.1 u.2.2.2.1 u.2.2.2.2.1 u.2.2.2.2.2.1 u.2.2.2.2.2.2) (cB (dC, dI) (kT cyB cyI cyJ cyP) (va_A (wd02_17 a0 jhX ji2 jhn jmo jaC jaN jpg jkY jl7 jkn jjZ a1 jjO jjP jjN jn2 jjN jm3 jm4 jky jkz jkA jkX jkd jkB jjm jh5 jke jnl jjO cyI jkO jhX cyI jiL ji2 cyI jjH a2 jm6 joz jm6 cyI jnQ jhn cyI jim) sz) (fun u : Int32 × Int32 × Int32 × Int32 × (Nat → Int32) × (Nat → Int32) × (Nat → Int32) => ((wd02_12 a0 jhX ji2 jhn jmo u.1 u.2.1 a2 u.2.2.1 u.2.2.2.1 jkn jjZ a1 jjO jjP jjN jn2 jjN jm3 jm4 jky jkz jkA jkX jkd jkB jjm jh5 jke jnl jjO cyI jkO jhX cyI u.2.2.2.2.1 ji2 cyI u.2.2.2.2.2.1 a2 jm6 joz jm6 cyI jnQ jhn cyI u.2.2.2.2.2.2) : va_W))) (va_A (wd02_17 a0 jhX ji2 jhn jmo jaC jaN jpg jkY jl7 jkn jjZ a1 jjO jjP jjN jn2 jjN jm3 jm4 jky jkz jkA jkX jkd jkB jjm jh5 jke jnl jjO cyI jkO jhX cyI jiL ji2 cyI jjH a2 jm6 joz jm6 cyI jnQ jhn cyI jim) sz)) 0 0 (va_A (wd02_17 a0 jhX ji2 jhn jmo jaC jaN jpg jkY jl7 jkn jjZ a1 jjO jjP jjN jn2 jjN jm3 jm4 jky jkz jkA jkX jkd jkB jjm jh5 jke jnl jjO cyI jkO jhX cyI jiL ji2 cyI jjH a2 jm6 joz jm6 cyI jnQ jhn cyI jim) sz) := by
  refine Met.ofW (cc := cX3_settle) (maxL := 4) (ret := none) (by decide) rfl ?_
  intro p e s m args below meth c s₁ B hml hv
  obtain ⟨rfl, hsz, hP, hK, hD0, hNw⟩ := hv
  have hx := B.exec
  have hb := B.bytes
  have hr := B.returns
  have hts := atoms_spec (ws := wsX3_settle) B.pre
  have hown : s.vm.findClass RX3 = some m.cls := findClass_of_methodNamed B.named
  have hlocks := B.notSynchronized
  subst hsz
  have hD := hD0.self (sz := s.heap.size)
  generalize hAe : va_A (wd02_17 a0 jhX ji2 jhn jmo jaC jaN jpg jkY jl7 jkn jjZ a1 jjO jjP jjN jn2 jjN jm3 jm4 jky jkz jkA jkX jkd jkB jjm jh5 jke jnl jjO cyI jkO jhX cyI jiL ji2 cyI jjH a2 jm6 joz jm6 cyI jnQ jhn cyI jim) s.heap.size = A at hD ⊢
  have hA : ∀ q : Nat, s.heap.size ≤ q → A q := fun q h => by rw [← hAe]; exact Or.inr h
  have hS : va_S A s.heap s.heap [] := va_S.rf
  have hP : va_P (dC, dI) vwCl (wd02_17 a0 jhX ji2 jhn jmo jaC jaN jpg jkY jl7 jkn jjZ a1 jjO jjP jjN jn2 jjN jm3 jm4 jky jkz jkA jkX jkd jkB jjm jh5 jke jnl jjO cyI jkO jhX cyI jiL ji2 cyI jjH a2 jm6 joz jm6 cyI jnQ jhn cyI jim) s.heap := hP
  have hl := lv_entry ([.ref a0, .ref a1, .ref a2]) (n := 4) (Nat.le_of_ble_eq_true rfl)
  rw [lg_entry_eq]
  generalize (lg_sl ([.ref a0, .ref a1, .ref a2]) ++ List.replicate (4 - (lg_sl ([.ref a0, .ref a1, .ref a2])).length) Slot.unset).toArray = ls at hl ⊢
  have hl : lv_has ls 4 [(0, .ref a0), (1, .ref a1), (2, .ref a2)] := hl
  have C0 : cfx p s m _ meth c cX3_settle none wsX3_settle RX3 4 A (dC, dI) (kT cyB cyI cyJ cyP) := ⟨hx, hb, hr, hts, hown, hlocks, hml, hA, hK, hNw⟩
  clear hAe
  obtain ⟨H, hH⟩ : ∃ H, H = s.heap := ⟨_, rfl⟩
  rw [← hH] at hP ⊢
  have hS : va_S A s.heap H [] := by rw [hH]; exact va_S.rf
  have hS := hS
  refine lv_aload_n hx hb (dt_of tkX3_settle_k0 0 rfl) rfl (lv_at hl 0 rfl) ?_
  refine lv_aload_n hx hb (dt_of tkX3_settle_k0 1 rfl) rfl (lv_at hl 1 rfl) ?_
  refine va_get (D := (dC, dI)) (ci := 1) (v := .ref jjN) (C := RX1) (T := TX1) (N := 4) hx hb hts ui_X3_settle_X1 hown hK hP 1 rfl rfl 2 (by decide) (hts _ uw_X3_settle_f24) (fun _ h9 => h9) rfl (dt_of tkX3_settle_k0 2 rfl) ?_
  refine va_get (D := (dC, dI)) (ci := 2) (v := .int jh5) (C := RX2) (T := TX2) (N := 12) hx hb hts ui_X3_settle_X2 hown hK hP 2 rfl rfl 9 (by decide) (hts _ uw_X3_settle_f30) (fun _ h9 => h9) rfl (dt_of tkX3_settle_k0 3 rfl) ?_
  refine va_put (D := (dC, dI)) (ci := 3) (v := .int jh5) (ty := .int) (C := RX3) (T := TX3) (N := 11) hx hb hts ui_X3_settle_X3 tyX3 tyX3_ok nmX3 hown hK hP hD hS 0 rfl rfl 4 (by decide) (hts _ uw_X3_settle_f36) (fun _ h9 => h9) rfl (by decide +kernel) rfl rfl (Nat.le_of_ble_eq_true rfl) (dt_of tkX3_settle_k0 4 rfl) (fun H locs hP hD hS => ?_)
  have hP : va_P (dC, dI) vwCl (wd02_17 a0 jhX ji2 jhn jmo jh5 jaN jpg jkY jl7 jkn jjZ a1 jjO jjP jjN jn2 jjN jm3 jm4 jky jkz jkA jkX jkd jkB jjm jh5 jke jnl jjO cyI jkO jhX cyI jiL ji2 cyI jjH a2 jm6 joz jm6 cyI jnQ jhn cyI jim) H := hP
  have hD : va_D A (wd02_17 a0 jhX ji2 jhn jmo jh5 jaN jpg jkY jl7 jkn jjZ a1 jjO jjP jjN jn2 jjN jm3 jm4 jky jkz jkA jkX jkd jkB jjm jh5 jke jnl jjO cyI jkO jhX cyI jiL ji2 cyI jjH a2 jm6 joz jm6 cyI jnQ jhn cyI jim) := hD
  refine lv_aload_n hx hb (dt_of tkX3_settle_k0 5 rfl) rfl (lv_at hl 0 rfl) ?_
  refine lv_aload_n hx hb (dt_of tkX3_settle_k0 6 rfl) rfl (lv_at hl 1 rfl) ?_
  refine va_get (D := (dC, dI)) (ci := 1) (v := .ref jjN) (C := RX1) (T := TX1) (N := 4) hx hb hts ui_X3_settle_X1 hown hK hP 1 rfl rfl 2 (by decide) (hts _ uw_X3_settle_f24) (fun _ h9 => h9) rfl (dt_of tkX3_settle_k0 7 rfl) ?_
  refine va_get (D := (dC, dI)) (ci := 2) (v := .int jjm) (C := RX2) (T := TX2) (N := 12) hx hb hts ui_X3_settle_X2 hown hK hP 2 rfl rfl 8 (by decide) (hts _ uw_X3_settle_f37) (fun _ h9 => h9) rfl (dt_of tkX3_settle_k0 8 rfl) ?_
  refine va_put (D := (dC, dI)) (ci := 3) (v := .int jjm) (ty := .int) (C := RX3) (T := TX3) (N := 11) hx hb hts ui_X3_settle_X3 tyX3 tyX3_ok nmX3 hown hK hP hD hS 0 rfl rfl 5 (by decide) (hts _ uw_X3_settle_f40) (fun _ h9 => h9) rfl (by decide +kernel) rfl rfl (Nat.le_of_ble_eq_true rfl) (dt_of tkX3_settle_k0 9 rfl) (fun H locs hP hD hS => ?_)
  have hP : va_P (dC, dI) vwCl (wd02_17 a0 jhX ji2 jhn jmo jh5 jjm jpg jkY jl7 jkn jjZ a1 jjO jjP jjN jn2 jjN jm3 jm4 jky jkz jkA jkX jkd jkB jjm jh5 jke jnl jjO cyI jkO jhX cyI jiL ji2 cyI jjH a2 jm6 joz jm6 cyI jnQ jhn cyI jim) H := hP
  have hD : va_D A (wd02_17 a0 jhX ji2 jhn jmo jh5 jjm jpg jkY jl7 jkn jjZ a1 jjO jjP jjN jn2 jjN jm3 jm4 jky jkz jkA jkX jkd jkB jjm jh5 jke jnl jjO cyI jkO jhX cyI jiL ji2 cyI jjH a2 jm6 joz jm6 cyI jnQ jhn cyI jim) := hD
  refine lv_aload_n hx hb (dt_of tkX3_settle_k0 10 rfl) rfl (lv_at hl 0 rfl) ?_
  refine lv_aload_n hx hb (dt_of tkX3_settle_k0 11 rfl) rfl (lv_at hl 2 rfl) ?_
  refine va_put (D := (dC, dI)) (ci := 3) (v := .ref a2) (ty := .object "MarchHares$Book") (C := RX3) (T := TX3) (N := 11) hx hb hts ui_X3_settle_X3 tyX3 tyX3_ok nmX3 hown hK hP hD hS 0 rfl rfl 6 (by decide) (hts _ uw_X3_settle_f41) (fun _ h9 => h9) rfl (by decide +kernel) rfl rfl (Nat.le_of_ble_eq_true rfl) (dt_of tkX3_settle_k0 12 rfl) (fun H locs hP hD hS => ?_)
  have hP : va_P (dC, dI) vwCl (wd02_12 a0 jhX ji2 jhn jmo jh5 jjm a2 jkY jl7 jkn jjZ a1 jjO jjP jjN jn2 jjN jm3 jm4 jky jkz jkA jkX jkd jkB jjm jh5 jke jnl jjO cyI jkO jhX cyI jiL ji2 cyI jjH a2 jm6 joz jm6 cyI jnQ jhn cyI jim) H := hP
  have hD : va_D A (wd02_12 a0 jhX ji2 jhn jmo jh5 jjm a2 jkY jl7 jkn jjZ a1 jjO jjP jjN jn2 jjN jm3 jm4 jky jkz jkA jkX jkd jkB jjm jh5 jke jnl jjO cyI jkO jhX cyI jiL ji2 cyI jjH a2 jm6 joz jm6 cyI jnQ jhn cyI jim) := hD
  refine lv_aload_n hx hb (dt_of tkX3_settle_k0 13 rfl) rfl (lv_at hl 0 rfl) ?_
  refine lv_iconst (v := 0) hx hb (dt_of tkX3_settle_k0 14 rfl) (by decide) ?_
  refine va_put (D := (dC, dI)) (ci := 3) (v := .int 0) (ty := .int) (C := RX3) (T := TX3) (N := 11) hx hb hts ui_X3_settle_X3 tyX3 tyX3_ok nmX3 hown hK hP hD hS 0 rfl rfl 7 (by decide) (hts _ uw_X3_settle_f45) (fun _ h9 => h9) rfl (by decide +kernel) rfl rfl (Nat.le_of_ble_eq_true rfl) (dt_of tkX3_settle_k0 15 rfl) (fun H locs hP hD hS => ?_)
  have hP : va_P (dC, dI) vwCl (wd02_12 a0 jhX ji2 jhn jmo jh5 jjm a2 0 jl7 jkn jjZ a1 jjO jjP jjN jn2 jjN jm3 jm4 jky jkz jkA jkX jkd jkB jjm jh5 jke jnl jjO cyI jkO jhX cyI jiL ji2 cyI jjH a2 jm6 joz jm6 cyI jnQ jhn cyI jim) H := hP
  have hD : va_D A (wd02_12 a0 jhX ji2 jhn jmo jh5 jjm a2 0 jl7 jkn jjZ a1 jjO jjP jjN jn2 jjN jm3 jm4 jky jkz jkA jkX jkd jkB jjm jh5 jke jnl jjO cyI jkO jhX cyI jiL ji2 cyI jjH a2 jm6 joz jm6 cyI jnQ jhn cyI jim) := hD
  refine lv_aload_n hx hb (dt_of tkX3_settle_k32 0 rfl) rfl (lv_at hl 0 rfl) ?_
  refine lv_iconst (v := (-1)) hx hb (dt_of tkX3_settle_k32 1 rfl) (by decide) ?_
  refine va_put (D := (dC, dI)) (ci := 3) (v := .int (-1)) (ty := .int) (C := RX3) (T := TX3) (N := 11) hx hb hts ui_X3_settle_X3 tyX3 tyX3_ok nmX3 hown hK hP hD hS 0 rfl rfl 8 (by decide) (hts _ uw_X3_settle_f48) (fun _ h9 => h9) rfl (by decide +kernel) rfl rfl (Nat.le_of_ble_eq_true rfl) (dt_of tkX3_settle_k32 2 rfl) (fun H locs hP hD hS => ?_)
  have hP : va_P (dC, dI) vwCl (wd02_12 a0 jhX ji2 jhn jmo jh5 jjm a2 0 (-1) jkn jjZ a1 jjO jjP jjN jn2 jjN jm3 jm4 jky jkz jkA jkX jkd jkB jjm jh5 jke jnl jjO cyI jkO jhX cyI jiL ji2 cyI jjH a2 jm6 joz jm6 cyI jnQ jhn cyI jim) H := hP
  have hD : va_D A (wd02_12 a0 jhX ji2 jhn jmo jh5 jjm a2 0 (-1) jkn jjZ a1 jjO jjP jjN jn2 jjN jm3 jm4 jky jkz jkA jkX jkd jkB jjm jh5 jke jnl jjO cyI jkO jhX cyI jiL ji2 cyI jjH a2 jm6 joz jm6 cyI jnQ jhn cyI jim) := hD
  refine lv_iconst (v := 0) hx hb (dt_of tkX3_settle_k32 3 rfl) (by decide) ?_
  refine lv_istore_n (lv' := [(3, .int 0), (0, .ref a0), (1, .ref a1), (2, .ref a2)]) hx hb (dt_of tkX3_settle_k32 4 rfl) rfl hl (by decide) rfl (fun ls hl => ?_)
  obtain ⟨n9, hw⟩ := hw
  exact kl_X3_settle_39 dC dI cyB cyI cyJ cyP a0 a1 a2 jjN jhX jjO ji2 jhn jm6 jmo jpg jkn jjZ jjP jn2 jm3 jm4 jky jkz jkA jkX jkd jkB jke jnl joz jjm jh5 jkO jnQ Q  C0 n9 _ _ _ jh5 jjm 0 (-1) jiL jjH jim 0 hP hD hS (lv_sub hl [1, 2, 0] rfl) hw
theorem ui_X10_fits_X10 : ∀ w ∈ u_ws RX10 TX10 19, w ∈ wsX10_fits := uiM mbX10_fits euX10 (by decide +kernel)
theorem ui_X10_fits_X3 : ∀ w ∈ u_ws RX3 TX3 11, w ∈ wsX10_fits := uiM mbX10_fits euX3 (by decide +kernel)
theorem uw_X10_fits_f342 : (.fieldLink RX10 342 "MarchHares$Fitting" "many" "I" : Cond) ∈ wsX10_fits := mbX10_fits 3460 (by decide +kernel)
theorem uw_X10_fits_f343 : (.fieldLink RX10 343 "MarchHares$Fitting" "first" "I" : Cond) ∈ wsX10_fits := mbX10_fits 3461 (by decide +kernel)
theorem uw_X10_fits_f39 : (.fieldLink RX10 39 "MarchHares" "lines" "LMarchHares$Book;" : Cond) ∈ wsX10_fits := mbX10_fits 70 (by decide +kernel)
theorem uw_X10_fits_f58 : (.fieldLink RX10 58 "MarchHares" "now" "LMarchHares$Days;" : Cond) ∈ wsX10_fits := mbX10_fits 79 (by decide +kernel)
theorem uw_X10_fits_f93 : (.fieldLink RX10 93 "MarchHares" "fitting" "LMarchHares$Fitting;" : Cond) ∈ wsX10_fits := mbX10_fits 137 (by decide +kernel)
set_option maxHeartbeats 4000000 in
set_option maxRecDepth 100000 in
theorem ck_X10_fits (l : Launch) (dC : Nat → ClassId) (dI : Nat → Nat → Nat) (cyB cyI cyJ cyP : ClassId) (a0 jle jaT jg2 jaR jbb jjI jkf jiM jiE sz : Nat) (jaK jfP ja1 jcp jbc ja3 jbH jbO jaq jac jbI jbl jba jaa jbA jnK jnf jm0 jbr jfc jcB jcC jbo jbp jbk jbj jbe jbq jbi jcd jmr : Value) (jbE jbm : Int32) (jbQ jk5 : Nat → Int32) (jbz jml jmm jmx jmn : Int32) (jmg jmy jlz : Nat → Int32) (jmC : Value) (p1 : Int32) {E : String → Int32 → Int32 → Int32 → Int32 → Int32 → (Nat → Int32) → (Nat → Int32) → (Nat → Int32) → Value → Prop} {Q : Int32 → Int32 → Int32 → Int32 → Int32 → Int32 → (Nat → Int32) → (Nat → Int32) → (Nat → Int32) → Value → Prop} (hw : wq_X10_fits jg2 jbE jbm jbQ jk5 jbz jml jmm jmx jmn jmg jmy jlz jmC p1 E Q) : vx_Met l yX10_fits wsX10_fits ({ frames := 8, cells := 1, slots := 6, locals := 164 }) (va_Pc [.ref a0, .int p1] (cPx l (dC, dI) (kT cyB cyI cyJ cyP) (wd02_18 a0 jaK jfP ja1 jcp jbc jg2 ja3 jbH jaT jbO jaq jac jbI jbl jle jba jaa jbA jbz jle jjI jkf jiE jnK jml jmm jmC jmx jmn jnf jm0 jaT jbb jbr jaR jfc jaR jcB jcC jbo jbp jbk jbj jbe jbq jbE jbm jbi jcd jbb cyI jbQ jjI cyI jmg jkf cyI jmy jg2 jiM jmr jiM cyI jk5 jiE cyI jlz) sz)) (va_Qi (fun (r : Int32) (u : Int32 × Int32 × Int32 × Int32 × Int32 × (Nat → Int32) × (Nat → Int32) × (Nat → Int32) × Value) => Q r u.1 u.2.1 u.2.2.1 u.2.2.2.1 u.2.2.2.2.1 u.2.2.2.2.2.1 u.2.2.2.2.2.2.1 u.2.2.2.2.2.2.2.1 u.2.2.2.2.2.2.2.2) (cB (dC, dI) (kT cyB cyI cyJ cyP) (va_A (wd02_18 a0 jaK jfP ja1 jcp jbc jg2 ja3 jbH jaT jbO jaq jac jbI jbl jle jba jaa jbA jbz jle jjI jkf jiE jnK jml jmm jmC jmx jmn jnf jm0 jaT jbb jbr jaR jfc jaR jcB jcC jbo jbp jbk jbj jbe jbq jbE jbm jbi jcd jbb cyI jbQ jjI cyI jmg jkf cyI jmy jg2 jiM jmr jiM cyI jk5 jiE cyI jlz) sz) (fun u : Int32 × Int32 × Int32 × Int32 × Int32 × (Nat → Int32) × (Nat → Int32) × (Nat → Int32) × Value => ((wd02_18 a0 jaK jfP ja1 jcp jbc jg2 ja3 jbH jaT jbO jaq jac jbI jbl jle jba jaa jbA u.1 jle jjI jkf jiE jnK u.2.1 u.2.2.1 u.2.2.2.2.2.2.2.2 u.2.2.2.1 u.2.2.2.2.1 jnf jm0 jaT jbb jbr jaR jfc jaR jcB jcC jbo jbp jbk jbj jbe jbq jbE jbm jbi jcd jbb cyI jbQ jjI cyI u.2.2.2.2.2.1 jkf cyI u.2.2.2.2.2.2.1 jg2 jiM jmr jiM cyI jk5 jiE cyI u.2.2.2.2.2.2.2.1) : va_W))) (va_A (wd02_18 a0 jaK jfP ja1 jcp jbc jg2 ja3 jbH jaT jbO jaq jac jbI jbl jle jba jaa jbA jbz jle jjI jkf jiE jnK jml jmm jmC jmx jmn jnf jm0 jaT jbb jbr jaR jfc jaR jcB jcC jbo jbp jbk jbj jbe jbq jbE jbm jbi jcd jbb cyI jbQ jjI cyI jmg jkf cyI jmy jg2 jiM jmr jiM cyI jk5 jiE cyI jlz) sz)) (vx_X (fun _ => True) (fun (en : String) (u : Int32 × Int32 × Int32 × Int32 × Int32 × (Nat → Int32) × (Nat → Int32) × (Nat → Int32) × Value) (t : State) => E en u.1 u.2.1 u.2.2.1 u.2.2.2.1 u.2.2.2.2.1 u.2.2.2.2.2.1 u.2.2.2.2.2.2.1 u.2.2.2.2.2.2.2.1 u.2.2.2.2.2.2.2.2 ∧ cB (dC, dI) (kT cyB cyI cyJ cyP) (va_A (wd02_18 a0 jaK jfP ja1 jcp jbc jg2 ja3 jbH jaT jbO jaq jac jbI jbl jle jba jaa jbA jbz jle jjI jkf jiE jnK jml jmm jmC jmx jmn jnf jm0 jaT jbb jbr jaR jfc jaR jcB jcC jbo jbp jbk jbj jbe jbq jbE jbm jbi jcd jbb cyI jbQ jjI cyI jmg jkf cyI jmy jg2 jiM jmr jiM cyI jk5 jiE cyI jlz) sz) (fun u : Int32 × Int32 × Int32 × Int32 × Int32 × (Nat → Int32) × (Nat → Int32) × (Nat → Int32) × Value => ((wd02_18 a0 jaK jfP ja1 jcp jbc jg2 ja3 jbH jaT jbO jaq jac jbI jbl jle jba jaa jbA u.1 jle jjI jkf jiE jnK u.2.1 u.2.2.1 u.2.2.2.2.2.2.2.2 u.2.2.2.1 u.2.2.2.2.1 jnf jm0 jaT jbb jbr jaR jfc jaR jcB jcC jbo jbp jbk jbj jbe jbq jbE jbm jbi jcd jbb cyI jbQ jjI cyI u.2.2.2.2.2.1 jkf cyI u.2.2.2.2.2.2.1 jg2 jiM jmr jiM cyI jk5 jiE cyI u.2.2.2.2.2.2.2.1) : va_W)) u t) (va_A (wd02_18 a0 jaK jfP ja1 jcp jbc jg2 ja3 jbH jaT jbO jaq jac jbI jbl jle jba jaa jbA jbz jle jjI jkf jiE jnK jml jmm jmC jmx jmn jnf jm0 jaT jbb jbr jaR jfc jaR jcB jcC jbo jbp jbk jbj jbe jbq jbE jbm jbi jcd jbb cyI jbQ jjI cyI jmg jkf cyI jmy jg2 jiM jmr jiM cyI jk5 jiE cyI jlz) sz)) 1 6 (va_A (wd02_18 a0 jaK jfP ja1 jcp jbc jg2 ja3 jbH jaT jbO jaq jac jbI jbl jle jba jaa jbA jbz jle jjI jkf jiE jnK jml jmm jmC jmx jmn jnf jm0 jaT jbb jbr jaR jfc jaR jcB jcC jbo jbp jbk jbj jbe jbq jbE jbm jbi jcd jbb cyI jbQ jjI cyI jmg jkf cyI jmy jg2 jiM jmr jiM cyI jk5 jiE cyI jlz) sz) := by
  refine vx_ofW (cc := cX10_fits) (maxL := 2) (ret := (some .int)) (by decide) rfl ?_
  intro p e s m args below meth c s₁ B hml hnt hv
  obtain ⟨rfl, hsz, hP, hK, hD0, hNw, hXl, hXu, hXn, hXt⟩ := hv
  have hx := B.exec
  have hb := B.bytes
  have hr := B.returns
  have hts := atoms_spec (ws := wsX10_fits) B.pre
  have hown : s.vm.findClass RX10 = some m.cls := findClass_of_methodNamed B.named
  have hlocks := B.notSynchronized
  subst hsz
  have hD := hD0.self (sz := s.heap.size)
  generalize hAe : va_A (wd02_18 a0 jaK jfP ja1 jcp jbc jg2 ja3 jbH jaT jbO jaq jac jbI jbl jle jba jaa jbA jbz jle jjI jkf jiE jnK jml jmm jmC jmx jmn jnf jm0 jaT jbb jbr jaR jfc jaR jcB jcC jbo jbp jbk jbj jbe jbq jbE jbm jbi jcd jbb cyI jbQ jjI cyI jmg jkf cyI jmy jg2 jiM jmr jiM cyI jk5 jiE cyI jlz) s.heap.size = A at hD hXu hXn ⊢
  have hA : ∀ q : Nat, s.heap.size ≤ q → A q := fun q h => by rw [← hAe]; exact Or.inr h
  have hS : va_S A s.heap s.heap [] := va_S.rf
  have hP : va_P (dC, dI) vwCl (wd02_18 a0 jaK jfP ja1 jcp jbc jg2 ja3 jbH jaT jbO jaq jac jbI jbl jle jba jaa jbA jbz jle jjI jkf jiE jnK jml jmm jmC jmx jmn jnf jm0 jaT jbb jbr jaR jfc jaR jcB jcC jbo jbp jbk jbj jbe jbq jbE jbm jbi jcd jbb cyI jbQ jjI cyI jmg jkf cyI jmy jg2 jiM jmr jiM cyI jk5 jiE cyI jlz) s.heap := hP
  have hl := lv_entry ([.ref a0, .int p1]) (n := 2) (Nat.le_of_ble_eq_true rfl)
  rw [lg_entry_eq]
  generalize (lg_sl ([.ref a0, .int p1]) ++ List.replicate (2 - (lg_sl ([.ref a0, .int p1])).length) Slot.unset).toArray = ls at hl ⊢
  have hl : lv_has ls 2 [(0, .ref a0), (1, .int p1)] := hl
  have hY : cfY l s A := ⟨hXl, hXu, hXn, hXt⟩
  have hXs : cfX l s c A := ⟨hnt, hY⟩
  have C0 : cfx p s m _ meth c cX10_fits (some .int) wsX10_fits RX10 2 A (dC, dI) (kT cyB cyI cyJ cyP) ∧ cfX l s c A := ⟨⟨hx, hb, hr, hts, hown, hlocks, hml, hA, hK, hNw⟩, hXs⟩
  clear hAe
  obtain ⟨H, hH⟩ : ∃ H, H = s.heap := ⟨_, rfl⟩
  rw [← hH] at hP ⊢
  have hS : va_S A s.heap H [] := by rw [hH]; exact va_S.rf
  have hS := hS
  refine lv_aload_n hx hb (dt_of tkX10_fits_k0 0 rfl) rfl (lv_at hl 0 rfl) ?_
  refine lv_iload_n hx hb (dt_of tkX10_fits_k0 1 rfl) rfl (lv_at hl 1 rfl) ?_
  refine lv_iconst (v := 0) hx hb (dt_of tkX10_fits_k0 2 rfl) (by decide) ?_
  refine lv_iconst (v := 1) hx hb (dt_of tkX10_fits_k0 3 rfl) (by decide) ?_
  obtain ⟨hCc, hPc, hDc, hFc⟩ := va_pick (ws' := (wd02_19 a0 jaK jfP ja1 jcp jbc jg2 ja3 jbH jaT jbO jaq jac jbI jbl jle jba jaa jbA jbz)) hP hD hS hA [0] (by decide +kernel) rfl
  refine vx_callv (vx_runV (As := [.int p1, .int 0, .int 1]) (rest := []) ⟨hx, hb, hml, hown, hts⟩ (ck_X10_needWithin l dC dI cyB cyI cyJ cyP a0 H.size (jaK) (jfP) (ja1) (jcp) (jbc) (.ref jg2) (ja3) (jbH) (.ref jaT) (jbO) (jaq) (jac) (jbI) (jbl) (.ref jle) (jba) (jaa) (jbA)  jbz p1 0 1 hw) (cwV 3 hts gX10_fits_X10_needWithin rfl rfl rfl (by decide +kernel) ⟨Nat.le_of_ble_eq_true rfl, Nat.le_of_ble_eq_true rfl⟩) ⟨cPx_blind, va_recv (q := (RX10, TX10, 19)) hK hPc (ci := 10) (q0 := 0) rfl rfl, cPx_pre hPc hK hDc hNw hY hS hFc⟩ rfl rfl hl.1 rfl (lv_room (Nat.le_of_ble_eq_true rfl)) (dt_of tkX10_fits_k0 4 rfl) ⟨Nat.le_of_ble_eq_true rfl, Nat.le_of_ble_eq_true rfl⟩) hS (fun q _ h => hFc q h) hFc (fun q _ h => hFc q h) (fun en ce q9 u t H1 locs ht hvm hpx hB hz1 hk1 hS hc9 hv9 hcl9 => ?_) (fun u t H1 locs ht hvm hw hB hz1 hk1 hS => ?_)
  · obtain ⟨x1, rfl⟩ : ∃ z, z = u := ⟨_, rfl⟩
    obtain ⟨hw, hP1, hK1, hD1⟩ := hB
    rw [ht] at hP1
    obtain ⟨hP, hD⟩ := va_joinN (wr := (wd02_17 jle jjI jkf jiE jnK jml jmm jmC jmx jmn jnf jm0 jaT jbb jbr jaR jfc jaR jcB jcC jbo jbp jbk jbj jbe jbq jbE jbm jbi jcd jbb cyI jbQ jjI cyI jmg jkf cyI jmy jg2 jiM jmr jiM cyI jk5 jiE cyI jlz)) (w1 := (wd02_19 a0 jaK jfP ja1 jcp jbc jg2 ja3 jbH jaT jbO jaq jac jbI jbl jle jba jaa jbA x1)) (wn := (wd02_18 a0 jaK jfP ja1 jcp jbc jg2 ja3 jbH jaT jbO jaq jac jbI jbl jle jba jaa jbA x1 jle jjI jkf jiE jnK jml jmm jmC jmx jmn jnf jm0 jaT jbb jbr jaR jfc jaR jcB jcC jbo jbp jbk jbj jbe jbq jbE jbm jbi jcd jbb cyI jbQ jjI cyI jmg jkf cyI jmy jg2 jiM jmr jiM cyI jk5 jiE cyI jlz)) hP hD [0] [1, 2, 3, 4, 5, 6, 7, 8, 9] [9, 0, 1, 2, 3, 4, 5, 6, 7, 8] hCc rfl (by decide +kernel) (by decide +kernel) (by decide +kernel) rfl hk1 hFc hP1 hD1
    generalize H1 = H at hP hS hc9 ⊢
    exact vx_out (fun x hx9 => (hXs.1 x hx9).elim) hlocks hc9 hv9 hcl9 (fun t2 ht2 hal2 => ⟨(x1, jml, jmm, jmx, jmn, jmg, jmy, jlz, jmC), trivial, ⟨hw, by rw [ht2]; exact hP, va_K.moved hal2 hK, hD⟩, hS.F ht2⟩) hS.2.2 (Nat.le_of_ble_eq_true rfl) (Nat.le_of_ble_eq_true rfl)
  obtain ⟨x1, rfl⟩ : ∃ z, z = u := ⟨_, rfl⟩
  obtain ⟨hP1, hK1, hD1⟩ := hB
  rw [ht] at hP1
  obtain ⟨hP, hD⟩ := va_joinN (wr := (wd02_17 jle jjI jkf jiE jnK jml jmm jmC jmx jmn jnf jm0 jaT jbb jbr jaR jfc jaR jcB jcC jbo jbp jbk jbj jbe jbq jbE jbm jbi jcd jbb cyI jbQ jjI cyI jmg jkf cyI jmy jg2 jiM jmr jiM cyI jk5 jiE cyI jlz)) (w1 := (wd02_19 a0 jaK jfP ja1 jcp jbc jg2 ja3 jbH jaT jbO jaq jac jbI jbl jle jba jaa jbA x1)) (wn := (wd02_18 a0 jaK jfP ja1 jcp jbc jg2 ja3 jbH jaT jbO jaq jac jbI jbl jle jba jaa jbA x1 jle jjI jkf jiE jnK jml jmm jmC jmx jmn jnf jm0 jaT jbb jbr jaR jfc jaR jcB jcC jbo jbp jbk jbj jbe jbq jbE jbm jbi jcd jbb cyI jbQ jjI cyI jmg jkf cyI jmy jg2 jiM jmr jiM cyI jk5 jiE cyI jlz)) hP hD [0] [1, 2, 3, 4, 5, 6, 7, 8, 9] [9, 0, 1, 2, 3, 4, 5, 6, 7, 8] hCc rfl (by decide +kernel) (by decide +kernel) (by decide +kernel) rfl hk1 hFc hP1 hD1
  generalize H1 = H at hP hS ⊢
  refine lv_aload_n hx hb (dt_of tkX10_fits_k0 5 rfl) rfl (lv_at hl 0 rfl) ?_
  refine va_get (D := (dC, dI)) (ci := 10) (v := .ref jle) (C := RX10) (T := TX10) (N := 19) hx hb hts ui_X10_fits_X10 hown hK hP 0 rfl rfl 14 (by decide) (hts _ uw_X10_fits_f93) (fun _ h9 => h9) rfl (dt_of tkX10_fits_k0 6 rfl) ?_
  refine lv_aload_n hx hb (dt_of tkX10_fits_k0 7 rfl) rfl (lv_at hl 0 rfl) ?_
  refine va_get (D := (dC, dI)) (ci := 10) (v := .ref jaT) (C := RX10) (T := TX10) (N := 19) hx hb hts ui_X10_fits_X10 hown hK hP 0 rfl rfl 8 (by decide) (hts _ uw_X10_fits_f58) (fun _ h9 => h9) rfl (dt_of tkX10_fits_k0 8 rfl) ?_
  refine lv_aload_n hx hb (dt_of tkX10_fits_k0 9 rfl) rfl (lv_at hl 0 rfl) ?_
  refine va_get (D := (dC, dI)) (ci := 10) (v := .ref jg2) (C := RX10) (T := TX10) (N := 19) hx hb hts ui_X10_fits_X10 hown hK hP 0 rfl rfl 5 (by decide) (hts _ uw_X10_fits_f39) (fun _ h9 => h9) rfl (dt_of tkX10_fits_k0 10 rfl) ?_
  obtain ⟨hCc, hPc, hDc, hFc⟩ := va_pick (ws' := (wd02_17 jle jjI jkf jiE jnK jml jmm jmC jmx jmn jnf jm0 jaT jbb jbr jaR jfc jaR jcB jcC jbo jbp jbk jbj jbe jbq jbE jbm jbi jcd jbb cyI jbQ jjI cyI jmg jkf cyI jmy jg2 jiM jmr jiM cyI jk5 jiE cyI jlz)) hP hD hS hA [1, 2, 3, 4, 5, 6, 7, 8, 9] (by decide +kernel) rfl
  refine va_callv (va_runV (As := [.ref jaT, .ref jg2]) (rest := []) ⟨hx, hb, hml, hown, hts⟩ (ck_X3_settle l dC dI cyB cyI cyJ cyP jle jaT jg2 jaR jjI jbb jkf jiE jiM H.size (jnK) (jmC) (jnf) (jm0) (jbr) (jfc) (jcB) (jcC) (jbo) (jbp) (jbk) (jbj) (jbe) (jbq) (jbi) (jcd) (jmr) jbE jbm jbQ jk5 jml jmm jmx jmn jmg jmy jlz  hw) (cwV 2 hts gX10_fits_X3_settle rfl rfl rfl (by decide +kernel) ⟨Nat.le_of_ble_eq_true rfl, Nat.le_of_ble_eq_true rfl⟩) ⟨cPc_blind, va_recv (q := (RX3, TX3, 11)) hK hPc (ci := 3) (q0 := 0) rfl rfl, cPc_pre hPc hK hDc hNw⟩ rfl rfl hl.1 rfl (lv_room (Nat.le_of_ble_eq_true rfl)) (dt_of tkX10_fits_k0 11 rfl) ⟨Nat.le_of_ble_eq_true rfl, Nat.le_of_ble_eq_true rfl⟩) hS (fun q _ h => hFc q h) hFc (fun u t H1 locs ht hvm hw hB hz1 hk1 hS => ?_)
  obtain ⟨x2, x3, x4, x5, f6, f7, f8⟩ := u
  obtain ⟨hP1, hK1, hD1⟩ := hB
  rw [ht] at hP1
  obtain ⟨hP, hD⟩ := va_joinI (wr := (wd02_19 a0 jaK jfP ja1 jcp jbc jg2 ja3 jbH jaT jbO jaq jac jbI jbl jle jba jaa jbA x1)) (w1 := (wd02_12 jle jjI jkf jiE jnK x2 x3 jg2 x4 x5 jnf jm0 jaT jbb jbr jaR jfc jaR jcB jcC jbo jbp jbk jbj jbe jbq jbE jbm jbi jcd jbb cyI jbQ jjI cyI f6 jkf cyI f7 jg2 jiM jmr jiM cyI jk5 jiE cyI f8)) (wn := (wd02_20 a0 jaK jfP ja1 jcp jbc jg2 ja3 jbH jaT jbO jaq jac jbI jbl jle jba jaa jbA x1 jle jjI jkf jiE jnK x2 x3 jg2 x4 x5 jnf jm0 jaT jbb jbr jaR jfc jaR jcB jcC jbo jbp jbk jbj jbe jbq jbE jbm jbi jcd jbb cyI jbQ jjI cyI f6 jkf cyI f7 jg2 jiM jmr jiM cyI jk5 jiE cyI f8)) hP hD [1, 2, 3, 4, 5, 6, 7, 8, 9] [0] hCc rfl (by decide +kernel) (by decide +kernel) rfl hk1 hFc hP1 hD1
  generalize H1 = H at hP hS ⊢
  refine lv_iload_n hx hb (dt_of tkX10_fits_k0 12 rfl) rfl (lv_at hl 1 rfl) ?_
  refine lv_if_ne (tgt := 36) hx hb (dt_of tkX10_fits_k0 13 rfl) (by decide) (fun c9 => ?_) (fun c9 => ?_)
  · have hw := hw.1 c9
    refine lv_aload_n hx hb (dt_of tkX10_fits_k30 2 rfl) rfl (lv_at hl 0 rfl) ?_
    refine va_get (D := (dC, dI)) (ci := 10) (v := .ref jle) (C := RX10) (T := TX10) (N := 19) hx hb hts ui_X10_fits_X10 hown hK hP 0 rfl rfl 14 (by decide) (hts _ uw_X10_fits_f93) (fun _ h9 => h9) rfl (dt_of tkX10_fits_k30 3 rfl) ?_
    refine va_get (D := (dC, dI)) (ci := 3) (v := .int x5) (C := RX3) (T := TX3) (N := 11) hx hb hts ui_X10_fits_X3 hown hK hP 1 rfl rfl 8 (by decide) (hts _ uw_X10_fits_f343) (fun _ h9 => h9) rfl (dt_of tkX10_fits_k30 4 rfl) ?_
    exact vx_ret (W.widen (k := 1) (n := 6) (Nat.le_of_ble_eq_true rfl) (Nat.le_of_ble_eq_true rfl) (W.iret (v := x5) hx hb hr (fun t ht hW => ⟨⟨x5, (x1, x2, x3, x4, x5, f6, f7, f8, (.ref jg2)), rfl, hw, by rw [ht]; exact hP, va_K.moved hW.alike hK, hD⟩, hS.F ht⟩) hS.2.2 (dt_of tkX10_fits_k30 5 rfl)))
  · have hw := hw.2 c9
    refine lv_aload_n hx hb (dt_of tkX10_fits_k0 14 rfl) rfl (lv_at hl 0 rfl) ?_
    refine va_get (D := (dC, dI)) (ci := 10) (v := .ref jle) (C := RX10) (T := TX10) (N := 19) hx hb hts ui_X10_fits_X10 hown hK hP 0 rfl rfl 14 (by decide) (hts _ uw_X10_fits_f93) (fun _ h9 => h9) rfl (dt_of tkX10_fits_k0 15 rfl) ?_
    refine va_get (D := (dC, dI)) (ci := 3) (v := .int x4) (C := RX3) (T := TX3) (N := 11) hx hb hts ui_X10_fits_X3 hown hK hP 1 rfl rfl 7 (by decide) (hts _ uw_X10_fits_f342) (fun _ h9 => h9) rfl (dt_of tkX10_fits_k30 0 rfl) ?_
    refine lv_goto (tgt := 43) hx hb (dt_of tkX10_fits_k30 1 rfl) (by decide) ?_
    exact vx_ret (W.widen (k := 1) (n := 6) (Nat.le_of_ble_eq_true rfl) (Nat.le_of_ble_eq_true rfl) (W.iret (v := x4) hx hb hr (fun t ht hW => ⟨⟨x4, (x1, x2, x3, x4, x5, f6, f7, f8, (.ref jg2)), rfl, hw, by rw [ht]; exact hP, va_K.moved hW.alike hK, hD⟩, hS.F ht⟩) hS.2.2 (dt_of tkX10_fits_k30 5 rfl)))
theorem uw_L_fits_ct13 : (.classLink RL 13 "java/lang/IllegalArgumentException" : Cond) ∈ wsL_fits := mbL_fits 595 (by decide +kernel)
theorem uw_L_fits_cw : (.codeWith yL_fits cL_fits 4 (some .int) [(0, 9, 12, 13)] : Cond) ∈ wsL_fits := mbL_fits 3415 (by decide +kernel)
set_option maxHeartbeats 4000000 in
set_option maxRecDepth 100000 in
theorem ck_L_fits (l : Launch) (dC : Nat → ClassId) (dI : Nat → Nat → Nat) (cyB cyI cyJ cyP : ClassId) (a0 a2 jle jaT jaR jbb jjI jkf jg2 jiM jiE sz : Nat) (jaK ja1 jcp jbc ja3 jbH jbO jaq jac jbI jbl jba jaa jbA jnK jnf jm0 jbr jfc jcB jcC jbo jbp jbk jbj jbe jbq jbi jcd jmr : Value) (n2 : Nat) (jbE jbm : Int32) (jbQ jk5 : Nat → Int32) (jbz jml jmm jmx jmn : Int32) (jmg jmy jlz : Nat → Int32) (jmC : Value) (f2 : Nat → Int64) (p1 : Int32) {Q : Int32 → Int32 → Int32 → Int32 → Int32 → Int32 → (Nat → Int32) → (Nat → Int32) → (Nat → Int32) → Value → (Nat → Int64) → Prop} (hw : wq_L_fits jg2 n2 jbE jbm jbQ jk5 jbz jml jmm jmx jmn jmg jmy jlz jmC f2 p1 Q) : Met l yL_fits wsL_fits ({ frames := 9, cells := 1, slots := 6, locals := 185 }) (va_Pc [.ref a0, .int p1, .ref a2] (cPx l (dC, dI) (kT cyB cyI cyJ cyP) (wd02_21 a0 jaK jaR ja1 jcp jbc jg2 ja3 jbH jaT jbO jaq jac jbI jbl jle jba jaa jbA jbz jle jjI jkf jiE jnK jml jmm jmC jmx jmn jnf jm0 jaT jbb jbr jaR jfc jaR jcB jcC jbo jbp jbk jbj jbe jbq jbE jbm jbi jcd jbb cyI jbQ jjI cyI jmg jkf cyI jmy jg2 jiM jmr jiM cyI jk5 jiE cyI jlz a2 cyJ n2 f2) sz)) (va_Qi (fun (r : Int32) (u : Int32 × Int32 × Int32 × Int32 × Int32 × (Nat → Int32) × (Nat → Int32) × (Nat → Int32) × Value × (Nat → Int64)) => Q r u.1 u.2.1 u.2.2.1 u.2.2.2.1 u.2.2.2.2.1 u.2.2.2.2.2.1 u.2.2.2.2.2.2.1 u.2.2.2.2.2.2.2.1 u.2.2.2.2.2.2.2.2.1 u.2.2.2.2.2.2.2.2.2) (cB (dC, dI) (kT cyB cyI cyJ cyP) (va_A (wd02_21 a0 jaK jaR ja1 jcp jbc jg2 ja3 jbH jaT jbO jaq jac jbI jbl jle jba jaa jbA jbz jle jjI jkf jiE jnK jml jmm jmC jmx jmn jnf jm0 jaT jbb jbr jaR jfc jaR jcB jcC jbo jbp jbk jbj jbe jbq jbE jbm jbi jcd jbb cyI jbQ jjI cyI jmg jkf cyI jmy jg2 jiM jmr jiM cyI jk5 jiE cyI jlz a2 cyJ n2 f2) sz) (fun u : Int32 × Int32 × Int32 × Int32 × Int32 × (Nat → Int32) × (Nat → Int32) × (Nat → Int32) × Value × (Nat → Int64) => ((wd02_21 a0 jaK jaR ja1 jcp jbc jg2 ja3 jbH jaT jbO jaq jac jbI jbl jle jba jaa jbA u.1 jle jjI jkf jiE jnK u.2.1 u.2.2.1 u.2.2.2.2.2.2.2.2.1 u.2.2.2.1 u.2.2.2.2.1 jnf jm0 jaT jbb jbr jaR jfc jaR jcB jcC jbo jbp jbk jbj jbe jbq jbE jbm jbi jcd jbb cyI jbQ jjI cyI u.2.2.2.2.2.1 jkf cyI u.2.2.2.2.2.2.1 jg2 jiM jmr jiM cyI jk5 jiE cyI u.2.2.2.2.2.2.2.1 a2 cyJ n2 u.2.2.2.2.2.2.2.2.2) : va_W))) (va_A (wd02_21 a0 jaK jaR ja1 jcp jbc jg2 ja3 jbH jaT jbO jaq jac jbI jbl jle jba jaa jbA jbz jle jjI jkf jiE jnK jml jmm jmC jmx jmn jnf jm0 jaT jbb jbr jaR jfc jaR jcB jcC jbo jbp jbk jbj jbe jbq jbE jbm jbi jcd jbb cyI jbQ jjI cyI jmg jkf cyI jmy jg2 jiM jmr jiM cyI jk5 jiE cyI jlz a2 cyJ n2 f2) sz)) 1 6 (va_A (wd02_21 a0 jaK jaR ja1 jcp jbc jg2 ja3 jbH jaT jbO jaq jac jbI jbl jle jba jaa jbA jbz jle jjI jkf jiE jnK jml jmm jmC jmx jmn jnf jm0 jaT jbb jbr jaR jfc jaR jcB jcC jbo jbp jbk jbj jbe jbq jbE jbm jbi jcd jbb cyI jbQ jjI cyI jmg jkf cyI jmy jg2 jiM jmr jiM cyI jk5 jiE cyI jlz a2 cyJ n2 f2) sz) := by
  refine va_MetW (cc := cL_fits) (maxL := 4) (ret := (some .int)) (by decide) rfl ?_
  intro p e s m args below meth c s₁ B hml hv
  obtain ⟨rfl, hsz, hP, hK, hD0, hNw, hXl, hXu, hXn, hXt⟩ := hv
  have hx := B.exec
  have hb := B.bytes
  have hr := B.returns
  have hts := atoms_spec (ws := wsL_fits) B.pre
  have hown : s.vm.findClass RL = some m.cls := findClass_of_methodNamed B.named
  have hlocks := B.notSynchronized
  subst hsz
  have hD := hD0.self (sz := s.heap.size)
  generalize hAe : va_A (wd02_21 a0 jaK jaR ja1 jcp jbc jg2 ja3 jbH jaT jbO jaq jac jbI jbl jle jba jaa jbA jbz jle jjI jkf jiE jnK jml jmm jmC jmx jmn jnf jm0 jaT jbb jbr jaR jfc jaR jcB jcC jbo jbp jbk jbj jbe jbq jbE jbm jbi jcd jbb cyI jbQ jjI cyI jmg jkf cyI jmy jg2 jiM jmr jiM cyI jk5 jiE cyI jlz a2 cyJ n2 f2) s.heap.size = A at hD hXu hXn ⊢
  have hA : ∀ q : Nat, s.heap.size ≤ q → A q := fun q h => by rw [← hAe]; exact Or.inr h
  have hS : va_S A s.heap s.heap [] := va_S.rf
  have hP : va_P (dC, dI) vwCl (wd02_21 a0 jaK jaR ja1 jcp jbc jg2 ja3 jbH jaT jbO jaq jac jbI jbl jle jba jaa jbA jbz jle jjI jkf jiE jnK jml jmm jmC jmx jmn jnf jm0 jaT jbb jbr jaR jfc jaR jcB jcC jbo jbp jbk jbj jbe jbq jbE jbm jbi jcd jbb cyI jbQ jjI cyI jmg jkf cyI jmy jg2 jiM jmr jiM cyI jk5 jiE cyI jlz a2 cyJ n2 f2) s.heap := hP
  have hl := lv_entry ([.ref a0, .int p1, .ref a2]) (n := 4) (Nat.le_of_ble_eq_true rfl)
  rw [lg_entry_eq]
  generalize (lg_sl ([.ref a0, .int p1, .ref a2]) ++ List.replicate (4 - (lg_sl ([.ref a0, .int p1, .ref a2])).length) Slot.unset).toArray = ls at hl ⊢
  have hl : lv_has ls 4 [(0, .ref a0), (1, .int p1), (2, .ref a2)] := hl
  have hY : cfY l s A := ⟨hXl, hXu, hXn, hXt⟩
  have hTb := vx_table (x := yL_fits) B (hts _ uw_L_fits_cw)
  clear hAe
  obtain ⟨H, hH⟩ : ∃ H, H = s.heap := ⟨_, rfl⟩
  rw [← hH] at hP ⊢
  have hS : va_S A s.heap H [] := by rw [hH]; exact va_S.rf
  have hS := hS
  refine lv_aload_n hx hb (dt_of tkL_fits_k0 0 rfl) rfl (lv_at hl 2 rfl) ?_
  refine lv_iconst (v := 0) hx hb (dt_of tkL_fits_k0 1 rfl) (by decide) ?_
  refine lv_aload_n hx hb (dt_of tkL_fits_k0 2 rfl) rfl (lv_at hl 0 rfl) ?_
  refine lv_iload_n hx hb (dt_of tkL_fits_k0 3 rfl) rfl (lv_at hl 1 rfl) ?_
  obtain ⟨hCc, hPc, hDc, hFc⟩ := va_pick (ws' := (wd02_22 a0 jaK jaR ja1 jcp jbc jg2 ja3 jbH jaT jbO jaq jac jbI jbl jle jba jaa jbA jbz jle jjI jkf jiE jnK jml jmm jmC jmx jmn jnf jm0 jaT jbb jbr jaR jfc jaR jcB jcC jbo jbp jbk jbj jbe jbq jbE jbm jbi jcd jbb cyI jbQ jjI cyI jmg jkf cyI jmy jg2 jiM jmr jiM cyI jk5 jiE cyI jlz)) hP hD hS hA [0, 1, 2, 3, 4, 5, 6, 7, 8, 9] (by decide +kernel) rfl
  refine vx_calli (vx_runV (As := [.int p1]) (rest := [.int 0, .ref a2]) ⟨hx, hb, hml, hown, hts⟩ (ck_X10_fits l dC dI cyB cyI cyJ cyP a0 jle jaT jg2 jaR jbb jjI jkf jiM jiE H.size (jaK) (.ref jaR) (ja1) (jcp) (jbc) (ja3) (jbH) (jbO) (jaq) (jac) (jbI) (jbl) (jba) (jaa) (jbA) (jnK) (jnf) (jm0) (jbr) (jfc) (jcB) (jcC) (jbo) (jbp) (jbk) (jbj) (jbe) (jbq) (jbi) (jcd) (jmr) jbE jbm jbQ jk5 jbz jml jmm jmx jmn jmg jmy jlz jmC p1 hw) (cwV 1 hts gL_fits_X10_fits rfl rfl rfl (by decide +kernel) ⟨Nat.le_of_ble_eq_true rfl, Nat.le_of_ble_eq_true rfl⟩) ⟨cPx_blind, va_recv (q := (RX10, TX10, 19)) hK hPc (ci := 10) (q0 := 0) rfl rfl, cPx_pre hPc hK hDc hNw hY hS hFc⟩ rfl rfl hl.1 rfl (lv_room (Nat.le_of_ble_eq_true rfl)) (dt_of tkL_fits_k0 4 rfl) ⟨Nat.le_of_ble_eq_true rfl, Nat.le_of_ble_eq_true rfl⟩) hS (fun q _ h => hFc q h) hFc (fun q _ h => hFc q h) (fun en ce qx9 u t H1 locs ht hvm hpx hB hz1 hk1 hS hc9 hv9 hcl9 => ?_) (fun r10 u t H1 locs ht hvm hw hB hz1 hk1 hS => ?_)
  · obtain ⟨x1, x2, x3, x4, x5, f6, f7, f8, q9⟩ := u
    obtain ⟨hw, hP1, hK1, hD1⟩ := hB
    rw [ht] at hP1
    obtain ⟨hP, hD⟩ := va_joinN (wr := [(a2, .inl (cyJ, n2, .inr (.inl f2)))]) (w1 := (wd02_22 a0 jaK jaR ja1 jcp jbc jg2 ja3 jbH jaT jbO jaq jac jbI jbl jle jba jaa jbA x1 jle jjI jkf jiE jnK x2 x3 q9 x4 x5 jnf jm0 jaT jbb jbr jaR jfc jaR jcB jcC jbo jbp jbk jbj jbe jbq jbE jbm jbi jcd jbb cyI jbQ jjI cyI f6 jkf cyI f7 jg2 jiM jmr jiM cyI jk5 jiE cyI f8)) (wn := (wd02_21 a0 jaK jaR ja1 jcp jbc jg2 ja3 jbH jaT jbO jaq jac jbI jbl jle jba jaa jbA x1 jle jjI jkf jiE jnK x2 x3 q9 x4 x5 jnf jm0 jaT jbb jbr jaR jfc jaR jcB jcC jbo jbp jbk jbj jbe jbq jbE jbm jbi jcd jbb cyI jbQ jjI cyI f6 jkf cyI f7 jg2 jiM jmr jiM cyI jk5 jiE cyI f8 a2 cyJ n2 f2)) hP hD [0, 1, 2, 3, 4, 5, 6, 7, 8, 9] [10] [1, 2, 3, 4, 5, 6, 7, 8, 9, 10, 0] hCc rfl (by decide +kernel) (by decide +kernel) (by decide +kernel) rfl hk1 hFc hP1 hD1
    generalize H1 = H at hP hS hc9 ⊢
    obtain ⟨rfl, hw⟩ := hw
    refine vx_catch (own := RL) (name := "java/lang/IllegalArgumentException") hown [] ⟨0, 9, 12, 13⟩ [] (hTb.trans rfl) (fun z hz => nomatch hz) (by decide) (by decide) (hts _ uw_L_fits_ct13) (va_Nw.use rfl (hY.2.2.2.1.2 _ (List.mem_of_getElem? (i := 0) rfl))) hc9 hv9 hcl9 ?_
    refine lv_astore_n (lv' := [(3, .ref qx9), (0, .ref a0), (1, .int p1), (2, .ref a2)]) hx hb (dt_of tkL_fits_k0 8 rfl) rfl hl (by decide) rfl (fun ls hl => ?_)
    refine lv_iconst (v := 1) hx hb (dt_of tkL_fits_k0 9 rfl) (by decide) ?_
    exact (W.widen (k := 1) (n := 6) (Nat.le_of_ble_eq_true rfl) (Nat.le_of_ble_eq_true rfl) (W.iret (v := 1) hx hb hr (fun t ht hW => ⟨⟨1, (x1, x2, x3, x4, x5, f6, f7, f8, q9, f2), rfl, hw, by rw [ht]; exact hP, va_K.moved hW.alike hK, hD⟩, hS.F ht⟩) hS.2.2 (dt_of tkL_fits_k0 10 rfl)))
  obtain ⟨x1, x2, x3, x4, x5, f6, f7, f8, q9⟩ := u
  obtain ⟨hP1, hK1, hD1⟩ := hB
  rw [ht] at hP1
  obtain ⟨hP, hD⟩ := va_join (wr := [(a2, .inl (cyJ, n2, .inr (.inl f2)))]) (w1 := (wd02_22 a0 jaK jaR ja1 jcp jbc jg2 ja3 jbH jaT jbO jaq jac jbI jbl jle jba jaa jbA x1 jle jjI jkf jiE jnK x2 x3 q9 x4 x5 jnf jm0 jaT jbb jbr jaR jfc jaR jcB jcC jbo jbp jbk jbj jbe jbq jbE jbm jbi jcd jbb cyI jbQ jjI cyI f6 jkf cyI f7 jg2 jiM jmr jiM cyI jk5 jiE cyI f8)) hP hD [0, 1, 2, 3, 4, 5, 6, 7, 8, 9] [10] rfl rfl (by decide) (by decide) hk1 hFc hP1 hD1
  have hP : va_P (dC, dI) vwCl (wd02_21 a0 jaK jaR ja1 jcp jbc jg2 ja3 jbH jaT jbO jaq jac jbI jbl jle jba jaa jbA x1 jle jjI jkf jiE jnK x2 x3 q9 x4 x5 jnf jm0 jaT jbb jbr jaR jfc jaR jcB jcC jbo jbp jbk jbj jbe jbq jbE jbm jbi jcd jbb cyI jbQ jjI cyI f6 jkf cyI f7 jg2 jiM jmr jiM cyI jk5 jiE cyI f8 a2 cyJ n2 f2) H1 := hP.sub [1, 2, 3, 4, 5, 6, 7, 8, 9, 10, 0] rfl
  have hD : va_D A (wd02_21 a0 jaK jaR ja1 jcp jbc jg2 ja3 jbH jaT jbO jaq jac jbI jbl jle jba jaa jbA x1 jle jjI jkf jiE jnK x2 x3 q9 x4 x5 jnf jm0 jaT jbb jbr jaR jfc jaR jcB jcC jbo jbp jbk jbj jbe jbq jbE jbm jbi jcd jbb cyI jbQ jjI cyI f6 jkf cyI f7 jg2 jiM jmr jiM cyI jk5 jiE cyI f8 a2 cyJ n2 f2) := hD.sub [1, 2, 3, 4, 5, 6, 7, 8, 9, 10, 0] (by decide) rfl
  generalize H1 = H at hP hS ⊢
  refine lv_i2l (v := r10.toInt64) hx hb (dt_of tkL_fits_k0 5 rfl) rfl ?_
  refine lv_topl (fun x11 ex11 => ?_)
  have hw := hw x11 ex11
  obtain ⟨hi9, hw⟩ := hw
  refine va_last hx hb hK hP hD hS 10 2 rfl rfl hi9 (dt_of tkL_fits_k0 6 rfl) (fun H locs hP hD hS => ?_)
  obtain ⟨f12, ef12⟩ : ∃ y : Nat → Int64, y = vp_updL f2 (0 : Int32).toNatClampNeg x11 := ⟨_, rfl⟩
  have hw := hw f12 ef12
  have hP : va_P (dC, dI) vwCl (wd02_21 a0 jaK jaR ja1 jcp jbc jg2 ja3 jbH jaT jbO jaq jac jbI jbl jle jba jaa jbA x1 jle jjI jkf jiE jnK x2 x3 q9 x4 x5 jnf jm0 jaT jbb jbr jaR jfc jaR jcB jcC jbo jbp jbk jbj jbe jbq jbE jbm jbi jcd jbb cyI jbQ jjI cyI f6 jkf cyI f7 jg2 jiM jmr jiM cyI jk5 jiE cyI f8 a2 cyJ n2 f12) H := by rw [ef12]; exact hP
  have hD : va_D A (wd02_21 a0 jaK jaR ja1 jcp jbc jg2 ja3 jbH jaT jbO jaq jac jbI jbl jle jba jaa jbA x1 jle jjI jkf jiE jnK x2 x3 q9 x4 x5 jnf jm0 jaT jbb jbr jaR jfc jaR jcB jcC jbo jbp jbk jbj jbe jbq jbE jbm jbi jcd jbb cyI jbQ jjI cyI f6 jkf cyI f7 jg2 jiM jmr jiM cyI jk5 jiE cyI f8 a2 cyJ n2 f12) := by rw [ef12]; exact hD
  refine lv_goto (tgt := 15) hx hb (dt_of tkL_fits_k0 7 rfl) (by decide) ?_
  refine lv_iconst (v := 0) hx hb (dt_of tkL_fits_k0 11 rfl) (by decide) ?_
  exact (W.widen (k := 1) (n := 6) (Nat.le_of_ble_eq_true rfl) (Nat.le_of_ble_eq_true rfl) (W.iret (v := 0) hx hb hr (fun t ht hW => ⟨⟨0, (x1, x2, x3, x4, x5, f6, f7, f8, q9, f12), rfl, hw, by rw [ht]; exact hP, va_K.moved hW.alike hK, hD⟩, hS.F ht⟩) hS.2.2 (dt_of tkL_fits_k0 12 rfl)))
theorem ui_X10_form_X10 : ∀ w ∈ u_ws RX10 TX10 19, w ∈ wsX10_form := uiM mbX10_form euX10 (by decide +kernel)
theorem ui_X10_form_X2 : ∀ w ∈ u_ws RX2 TX2 12, w ∈ wsX10_form := uiM mbX10_form euX2 (by decide +kernel)
theorem uw_X10_form_f19 : (.fieldLink RX10 19 "MarchHares" "ground" "LMarchHares$Down;" : Cond) ∈ wsX10_form := mbX10_form 20 (by decide +kernel)
theorem uw_X10_form_f212 : (.fieldLink RX10 212 "MarchHares$Down" "formX" "[I" : Cond) ∈ wsX10_form := mbX10_form 2644 (by decide +kernel)
theorem uw_X10_form_f216 : (.fieldLink RX10 216 "MarchHares$Down" "formY" "[I" : Cond) ∈ wsX10_form := mbX10_form 2645 (by decide +kernel)
theorem uw_X10_form_f58 : (.fieldLink RX10 58 "MarchHares" "now" "LMarchHares$Days;" : Cond) ∈ wsX10_form := mbX10_form 79 (by decide +kernel)
set_option maxHeartbeats 4000000 in
set_option maxRecDepth 100000 in
theorem ck_X10_form (l : Launch) (dC : Nat → ClassId) (dI : Nat → Nat → Nat) (cyB cyI cyJ cyP : ClassId) (a0 jaR jaT jbb jbs jbt sz : Nat) (jaK ja1 jcp jbc jbV ja3 jbH jbO jaq jac jbI jbl jbn jba jaa jbo jbp jbk jbj jbe jbq jbi jbr jfc : Value) (jbE jbm jdB : Int32) (jbQ jci jcj : Nat → Int32) (jdu jbz p1 p2 : Int32) {E : String → Int32 → Int32 → Prop} {Q : Int32 → Int32 → Int32 → Prop} (hw : wq_X10_form jbE jbm jdB jbQ jci jcj jdu jbz p1 p2 E Q) : vx_Met l yX10_form wsX10_form ({ frames := 8, cells := 2, slots := 12, locals := 164 }) (va_Pc [.ref a0, .int p1, .int p2] (cPx l (dC, dI) (kT cyB cyI cyJ cyP) (wd02_23 a0 jaK jaR ja1 jcp jbc jbV ja3 jbH jaT jbO jaq jac jbI jbl jbn jba jaa jdu jbz jaR jbs jbt jbo jbp jbk jbj jbe jbq jbE jbm jbi jdB jaT jbb jbr jaR jfc jbb cyI jbQ jbs cyI jci jbt cyI jcj) sz)) (va_Qi (fun (r : Int32) (u : Int32 × Int32) => Q r u.1 u.2) (cB (dC, dI) (kT cyB cyI cyJ cyP) (va_A (wd02_23 a0 jaK jaR ja1 jcp jbc jbV ja3 jbH jaT jbO jaq jac jbI jbl jbn jba jaa jdu jbz jaR jbs jbt jbo jbp jbk jbj jbe jbq jbE jbm jbi jdB jaT jbb jbr jaR jfc jbb cyI jbQ jbs cyI jci jbt cyI jcj) sz) (fun u : Int32 × Int32 => ((wd02_23 a0 jaK jaR ja1 jcp jbc jbV ja3 jbH jaT jbO jaq jac jbI jbl jbn jba jaa u.1 u.2 jaR jbs jbt jbo jbp jbk jbj jbe jbq jbE jbm jbi jdB jaT jbb jbr jaR jfc jbb cyI jbQ jbs cyI jci jbt cyI jcj) : va_W))) (va_A (wd02_23 a0 jaK jaR ja1 jcp jbc jbV ja3 jbH jaT jbO jaq jac jbI jbl jbn jba jaa jdu jbz jaR jbs jbt jbo jbp jbk jbj jbe jbq jbE jbm jbi jdB jaT jbb jbr jaR jfc jbb cyI jbQ jbs cyI jci jbt cyI jcj) sz)) (vx_X (fun _ => True) (fun (en : String) (u : Int32 × Int32) (t : State) => E en u.1 u.2 ∧ cB (dC, dI) (kT cyB cyI cyJ cyP) (va_A (wd02_23 a0 jaK jaR ja1 jcp jbc jbV ja3 jbH jaT jbO jaq jac jbI jbl jbn jba jaa jdu jbz jaR jbs jbt jbo jbp jbk jbj jbe jbq jbE jbm jbi jdB jaT jbb jbr jaR jfc jbb cyI jbQ jbs cyI jci jbt cyI jcj) sz) (fun u : Int32 × Int32 => ((wd02_23 a0 jaK jaR ja1 jcp jbc jbV ja3 jbH jaT jbO jaq jac jbI jbl jbn jba jaa u.1 u.2 jaR jbs jbt jbo jbp jbk jbj jbe jbq jbE jbm jbi jdB jaT jbb jbr jaR jfc jbb cyI jbQ jbs cyI jci jbt cyI jcj) : va_W)) u t) (va_A (wd02_23 a0 jaK jaR ja1 jcp jbc jbV ja3 jbH jaT jbO jaq jac jbI jbl jbn jba jaa jdu jbz jaR jbs jbt jbo jbp jbk jbj jbe jbq jbE jbm jbi jdB jaT jbb jbr jaR jfc jbb cyI jbQ jbs cyI jci jbt cyI jcj) sz)) 2 12 (va_A (wd02_23 a0 jaK jaR ja1 jcp jbc jbV ja3 jbH jaT jbO jaq jac jbI jbl jbn jba jaa jdu jbz jaR jbs jbt jbo jbp jbk jbj jbe jbq jbE jbm jbi jdB jaT jbb jbr jaR jfc jbb cyI jbQ jbs cyI jci jbt cyI jcj) sz) := by
  refine vx_ofW (cc := cX10_form) (maxL := 3) (ret := (some .int)) (by decide) rfl ?_
  intro p e s m args below meth c s₁ B hml hnt hv
  obtain ⟨rfl, hsz, hP, hK, hD0, hNw, hXl, hXu, hXn, hXt⟩ := hv
  have hx := B.exec
  have hb := B.bytes
  have hr := B.returns
  have hts := atoms_spec (ws := wsX10_form) B.pre
  have hown : s.vm.findClass RX10 = some m.cls := findClass_of_methodNamed B.named
  have hlocks := B.notSynchronized
  subst hsz
  have hD := hD0.self (sz := s.heap.size)
  generalize hAe : va_A (wd02_23 a0 jaK jaR ja1 jcp jbc jbV ja3 jbH jaT jbO jaq jac jbI jbl jbn jba jaa jdu jbz jaR jbs jbt jbo jbp jbk jbj jbe jbq jbE jbm jbi jdB jaT jbb jbr jaR jfc jbb cyI jbQ jbs cyI jci jbt cyI jcj) s.heap.size = A at hD hXu hXn ⊢
  have hA : ∀ q : Nat, s.heap.size ≤ q → A q := fun q h => by rw [← hAe]; exact Or.inr h
  have hS : va_S A s.heap s.heap [] := va_S.rf
  have hP : va_P (dC, dI) vwCl (wd02_23 a0 jaK jaR ja1 jcp jbc jbV ja3 jbH jaT jbO jaq jac jbI jbl jbn jba jaa jdu jbz jaR jbs jbt jbo jbp jbk jbj jbe jbq jbE jbm jbi jdB jaT jbb jbr jaR jfc jbb cyI jbQ jbs cyI jci jbt cyI jcj) s.heap := hP
  have hl := lv_entry ([.ref a0, .int p1, .int p2]) (n := 3) (Nat.le_of_ble_eq_true rfl)
  rw [lg_entry_eq]
  generalize (lg_sl ([.ref a0, .int p1, .int p2]) ++ List.replicate (3 - (lg_sl ([.ref a0, .int p1, .int p2])).length) Slot.unset).toArray = ls at hl ⊢
  have hl : lv_has ls 3 [(0, .ref a0), (1, .int p1), (2, .int p2)] := hl
  have hY : cfY l s A := ⟨hXl, hXu, hXn, hXt⟩
  have hXs : cfX l s c A := ⟨hnt, hY⟩
  have C0 : cfx p s m _ meth c cX10_form (some .int) wsX10_form RX10 3 A (dC, dI) (kT cyB cyI cyJ cyP) ∧ cfX l s c A := ⟨⟨hx, hb, hr, hts, hown, hlocks, hml, hA, hK, hNw⟩, hXs⟩
  clear hAe
  obtain ⟨H, hH⟩ : ∃ H, H = s.heap := ⟨_, rfl⟩
  rw [← hH] at hP ⊢
  have hS : va_S A s.heap H [] := by rw [hH]; exact va_S.rf
  have hS := hS
  refine lv_aload_n hx hb (dt_of tkX10_form_k0 0 rfl) rfl (lv_at hl 0 rfl) ?_
  refine lv_iload_n hx hb (dt_of tkX10_form_k0 1 rfl) rfl (lv_at hl 1 rfl) ?_
  obtain ⟨hCc, hPc, hDc, hFc⟩ := va_pick (ws' := (wd02_24 a0 jaK jaR ja1 jcp jbc jbV ja3 jbH jaT jbO jaq jac jbI jbl jbn jba jaa jdu jbz jaR jbs jbt jbo jbp jbk jbj jbe jbq jbE jbm jbi jdB)) hP hD hS hA [0, 1] (by decide +kernel) rfl
  refine vx_callv (vx_runV (As := [.int p1]) (rest := []) ⟨hx, hb, hml, hown, hts⟩ (ck_X10_needForm l dC dI cyB cyI cyJ cyP a0 jaR H.size (jaK) (ja1) (jcp) (jbc) (jbV) (ja3) (jbH) (.ref jaT) (jbO) (jaq) (jac) (jbI) (jbl) (jbn) (jba) (jaa) (.int jbz) (.ref jbs) (.ref jbt) (jbo) (jbp) (jbk) (jbj) (jbe) (jbq) (.int jbm) (jbi) (.int jdB) jbE jdu p1 hw) (cwV 1 hts gX10_form_X10_needForm rfl rfl rfl (by decide +kernel) ⟨Nat.le_of_ble_eq_true rfl, Nat.le_of_ble_eq_true rfl⟩) ⟨cPx_blind, va_recv (q := (RX10, TX10, 19)) hK hPc (ci := 10) (q0 := 0) rfl rfl, cPx_pre hPc hK hDc hNw hY hS hFc⟩ rfl rfl hl.1 rfl (lv_room (Nat.le_of_ble_eq_true rfl)) (dt_of tkX10_form_k0 2 rfl) ⟨Nat.le_of_ble_eq_true rfl, Nat.le_of_ble_eq_true rfl⟩) hS (fun q _ h => hFc q h) hFc (fun q _ h => hFc q h) (fun en ce q9 u t H1 locs ht hvm hpx hB hz1 hk1 hS hc9 hv9 hcl9 => ?_) (fun u t H1 locs ht hvm hw hB hz1 hk1 hS => ?_)
  · obtain ⟨x1, rfl⟩ : ∃ z, z = u := ⟨_, rfl⟩
    obtain ⟨hw, hP1, hK1, hD1⟩ := hB
    rw [ht] at hP1
    obtain ⟨hP, hD⟩ := va_joinN (wr := (wd02_25 jaT jbb jbr jaR jfc jbb cyI jbQ jbs cyI jci jbt cyI jcj)) (w1 := (wd02_24 a0 jaK jaR ja1 jcp jbc jbV ja3 jbH jaT jbO jaq jac jbI jbl jbn jba jaa x1 jbz jaR jbs jbt jbo jbp jbk jbj jbe jbq jbE jbm jbi jdB)) (wn := (wd02_23 a0 jaK jaR ja1 jcp jbc jbV ja3 jbH jaT jbO jaq jac jbI jbl jbn jba jaa x1 jbz jaR jbs jbt jbo jbp jbk jbj jbe jbq jbE jbm jbi jdB jaT jbb jbr jaR jfc jbb cyI jbQ jbs cyI jci jbt cyI jcj)) hP hD [0, 1] [2, 3, 4, 5] [4, 5, 0, 1, 2, 3] hCc rfl (by decide +kernel) (by decide +kernel) (by decide +kernel) rfl hk1 hFc hP1 hD1
    generalize H1 = H at hP hS hc9 ⊢
    exact vx_out (fun x hx9 => (hXs.1 x hx9).elim) hlocks hc9 hv9 hcl9 (fun t2 ht2 hal2 => ⟨(x1, jbz), trivial, ⟨hw, by rw [ht2]; exact hP, va_K.moved hal2 hK, hD⟩, hS.F ht2⟩) hS.2.2 (Nat.le_of_ble_eq_true rfl) (Nat.le_of_ble_eq_true rfl)
  obtain ⟨x1, rfl⟩ : ∃ z, z = u := ⟨_, rfl⟩
  obtain ⟨hP1, hK1, hD1⟩ := hB
  rw [ht] at hP1
  obtain ⟨hP, hD⟩ := va_joinN (wr := (wd02_25 jaT jbb jbr jaR jfc jbb cyI jbQ jbs cyI jci jbt cyI jcj)) (w1 := (wd02_24 a0 jaK jaR ja1 jcp jbc jbV ja3 jbH jaT jbO jaq jac jbI jbl jbn jba jaa x1 jbz jaR jbs jbt jbo jbp jbk jbj jbe jbq jbE jbm jbi jdB)) (wn := (wd02_23 a0 jaK jaR ja1 jcp jbc jbV ja3 jbH jaT jbO jaq jac jbI jbl jbn jba jaa x1 jbz jaR jbs jbt jbo jbp jbk jbj jbe jbq jbE jbm jbi jdB jaT jbb jbr jaR jfc jbb cyI jbQ jbs cyI jci jbt cyI jcj)) hP hD [0, 1] [2, 3, 4, 5] [4, 5, 0, 1, 2, 3] hCc rfl (by decide +kernel) (by decide +kernel) (by decide +kernel) rfl hk1 hFc hP1 hD1
  generalize H1 = H at hP hS ⊢
  refine lv_aload_n hx hb (dt_of tkX10_form_k0 3 rfl) rfl (lv_at hl 0 rfl) ?_
  refine lv_iload_n hx hb (dt_of tkX10_form_k0 4 rfl) rfl (lv_at hl 2 rfl) ?_
  refine lv_iconst (v := 0) hx hb (dt_of tkX10_form_k0 5 rfl) (by decide) ?_
  refine lv_iconst (v := 3) hx hb (dt_of tkX10_form_k0 6 rfl) (by decide) ?_
  obtain ⟨hCc, hPc, hDc, hFc⟩ := va_pick (ws' := (wd02_26 a0 jaK jaR ja1 jcp jbc jbV ja3 jbH jaT jbO jaq jac jbI jbl jbn jba jaa x1 jbz)) hP hD hS hA [0] (by decide +kernel) rfl
  refine vx_callv (vx_runV (As := [.int p2, .int 0, .int 3]) (rest := []) ⟨hx, hb, hml, hown, hts⟩ (ck_X10_needWithin l dC dI cyB cyI cyJ cyP a0 H.size (jaK) (.ref jaR) (ja1) (jcp) (jbc) (jbV) (ja3) (jbH) (.ref jaT) (jbO) (jaq) (jac) (jbI) (jbl) (jbn) (jba) (jaa) (.int x1)  jbz p2 0 3 hw) (cwV 3 hts gX10_form_X10_needWithin rfl rfl rfl (by decide +kernel) ⟨Nat.le_of_ble_eq_true rfl, Nat.le_of_ble_eq_true rfl⟩) ⟨cPx_blind, va_recv (q := (RX10, TX10, 19)) hK hPc (ci := 10) (q0 := 0) rfl rfl, cPx_pre hPc hK hDc hNw hY hS hFc⟩ rfl rfl hl.1 rfl (lv_room (Nat.le_of_ble_eq_true rfl)) (dt_of tkX10_form_k0 7 rfl) ⟨Nat.le_of_ble_eq_true rfl, Nat.le_of_ble_eq_true rfl⟩) hS (fun q _ h => hFc q h) hFc (fun q _ h => hFc q h) (fun en ce q9 u t H1 locs ht hvm hpx hB hz1 hk1 hS hc9 hv9 hcl9 => ?_) (fun u t H1 locs ht hvm hw hB hz1 hk1 hS => ?_)
  · obtain ⟨x2, rfl⟩ : ∃ z, z = u := ⟨_, rfl⟩
    obtain ⟨hw, hP1, hK1, hD1⟩ := hB
    rw [ht] at hP1
    obtain ⟨hP, hD⟩ := va_joinN (wr := (wd02_27 jaR jbs jbt jbo jbp jbk jbj jbe jbq jbE jbm jbi jdB jaT jbb jbr jaR jfc jbb cyI jbQ jbs cyI jci jbt cyI jcj)) (w1 := (wd02_26 a0 jaK jaR ja1 jcp jbc jbV ja3 jbH jaT jbO jaq jac jbI jbl jbn jba jaa x1 x2)) (wn := (wd02_23 a0 jaK jaR ja1 jcp jbc jbV ja3 jbH jaT jbO jaq jac jbI jbl jbn jba jaa x1 x2 jaR jbs jbt jbo jbp jbk jbj jbe jbq jbE jbm jbi jdB jaT jbb jbr jaR jfc jbb cyI jbQ jbs cyI jci jbt cyI jcj)) hP hD [0] [1, 2, 3, 4, 5] [5, 0, 1, 2, 3, 4] hCc rfl (by decide +kernel) (by decide +kernel) (by decide +kernel) rfl hk1 hFc hP1 hD1
    generalize H1 = H at hP hS hc9 ⊢
    exact vx_out (fun x hx9 => (hXs.1 x hx9).elim) hlocks hc9 hv9 hcl9 (fun t2 ht2 hal2 => ⟨(x1, x2), trivial, ⟨hw, by rw [ht2]; exact hP, va_K.moved hal2 hK, hD⟩, hS.F ht2⟩) hS.2.2 (Nat.le_of_ble_eq_true rfl) (Nat.le_of_ble_eq_true rfl)
  obtain ⟨x2, rfl⟩ : ∃ z, z = u := ⟨_, rfl⟩
  obtain ⟨hP1, hK1, hD1⟩ := hB
  rw [ht] at hP1
  obtain ⟨hP, hD⟩ := va_joinN (wr := (wd02_27 jaR jbs jbt jbo jbp jbk jbj jbe jbq jbE jbm jbi jdB jaT jbb jbr jaR jfc jbb cyI jbQ jbs cyI jci jbt cyI jcj)) (w1 := (wd02_26 a0 jaK jaR ja1 jcp jbc jbV ja3 jbH jaT jbO jaq jac jbI jbl jbn jba jaa x1 x2)) (wn := (wd02_23 a0 jaK jaR ja1 jcp jbc jbV ja3 jbH jaT jbO jaq jac jbI jbl jbn jba jaa x1 x2 jaR jbs jbt jbo jbp jbk jbj jbe jbq jbE jbm jbi jdB jaT jbb jbr jaR jfc jbb cyI jbQ jbs cyI jci jbt cyI jcj)) hP hD [0] [1, 2, 3, 4, 5] [5, 0, 1, 2, 3, 4] hCc rfl (by decide +kernel) (by decide +kernel) (by decide +kernel) rfl hk1 hFc hP1 hD1
  generalize H1 = H at hP hS ⊢
  refine lv_iload_n hx hb (dt_of tkX10_form_k0 8 rfl) rfl (lv_at hl 2 rfl) ?_
  by_cases c3 : p2.toInt < 0 ∨ 2 < p2.toInt
  · have hw := hw.1 c3
    refine lv_tableOut (tgt := 77) hx hb dX10_form_13 c3 (by decide) ?_
    refine lv_aload_n hx hb (dt_of tkX10_form_k68 5 rfl) rfl (lv_at hl 0 rfl) ?_
    refine va_get (D := (dC, dI)) (ci := 10) (v := .ref jaT) (C := RX10) (T := TX10) (N := 19) hx hb hts ui_X10_form_X10 hown hK hP 0 rfl rfl 8 (by decide) (hts _ uw_X10_form_f58) (fun _ h9 => h9) rfl (dt_of tkX10_form_k68 6 rfl) ?_
    refine lv_iload_n hx hb (dt_of tkX10_form_k68 7 rfl) rfl (lv_at hl 1 rfl) ?_
    obtain ⟨hCc, hPc, hDc, hFc⟩ := va_pick (ws' := (wd02_28 jaT jbb jbr jaR jfc jaR jbs jbt jbo jbp jbk jbj jbe jbq jbE jbm jbi jdB jbb cyI jbQ)) hP hD hS hA [2, 1, 3] (by decide +kernel) rfl
    refine va_calli (va_runV (As := [.int p1]) (rest := []) ⟨hx, hb, hml, hown, hts⟩ (ck_X1_seatedIn l dC dI cyB cyI cyJ cyP jaT jaR jbb H.size (jbr) (jfc) (.ref jbs) (.ref jbt) (jbo) (jbp) (jbk) (jbj) (jbe) (jbq) (.int jbE) (jbi) (.int jdB) jbm jbQ  p1 hw) (cwV 1 hts gX10_form_X1_seatedIn rfl rfl rfl (by decide +kernel) ⟨Nat.le_of_ble_eq_true rfl, Nat.le_of_ble_eq_true rfl⟩) ⟨cPc_blind, va_recv (q := (RX1, TX1, 4)) hK hPc (ci := 1) (q0 := 0) rfl rfl, cPc_pre hPc hK hDc hNw⟩ rfl rfl hl.1 rfl (lv_room (Nat.le_of_ble_eq_true rfl)) (dt_of tkX10_form_k68 8 rfl) ⟨Nat.le_of_ble_eq_true rfl, Nat.le_of_ble_eq_true rfl⟩) hS (fun q _ h => hFc q h) hFc (fun r4 u t H1 locs ht hvm hw hB hz1 hk1 hS => ?_)
    obtain ⟨hP1, hK1, hD1⟩ := hB
    rw [ht] at hP1
    obtain ⟨hP, hD⟩ := va_joinN (wr := [(a0, .inr (10, [jaK, .ref jaR, ja1, jcp, jbc, jbV, ja3, jbH, .ref jaT, jbO, jaq, jac, jbI, jbl, jbn, jba, jaa, .int x1, .int x2])), (jbs, .inl (cyI, 8, .inl jci)), (jbt, .inl (cyI, 8, .inl jcj))]) (w1 := (wd02_28 jaT jbb jbr jaR jfc jaR jbs jbt jbo jbp jbk jbj jbe jbq jbE jbm jbi jdB jbb cyI jbQ)) (wn := (wd02_23 a0 jaK jaR ja1 jcp jbc jbV ja3 jbH jaT jbO jaq jac jbI jbl jbn jba jaa x1 x2 jaR jbs jbt jbo jbp jbk jbj jbe jbq jbE jbm jbi jdB jaT jbb jbr jaR jfc jbb cyI jbQ jbs cyI jci jbt cyI jcj)) hP hD [2, 1, 3] [0, 4, 5] [0, 4, 3, 5, 1, 2] hCc rfl (by decide +kernel) (by decide +kernel) (by decide +kernel) rfl hk1 hFc hP1 hD1
    generalize H1 = H at hP hS ⊢
    exact vx_ret (W.widen (k := 2) (n := 12) (Nat.le_of_ble_eq_true rfl) (Nat.le_of_ble_eq_true rfl) (W.iret (v := r4) hx hb hr (fun t ht hW => ⟨⟨r4, (x1, x2), rfl, hw, by rw [ht]; exact hP, va_K.moved hW.alike hK, hD⟩, hS.F ht⟩) hS.2.2 (dt_of tkX10_form_k68 9 rfl)))
  · have hw := hw.2
    rcases tsw_0_2 c3 with c3 | c3 | c3
    · have hw := hw.1 c3
      refine lv_tableIn (tgt := 40) (off := 27) hx hb dX10_form_13 (by rw [c3]; decide) (by rw [c3]; decide) (by rw [c3]; decide) (by decide) ?_
      refine lv_aload_n hx hb (dt_of tkX10_form_k40 0 rfl) rfl (lv_at hl 0 rfl) ?_
      refine va_get (D := (dC, dI)) (ci := 10) (v := .ref jaR) (C := RX10) (T := TX10) (N := 19) hx hb hts ui_X10_form_X10 hown hK hP 0 rfl rfl 1 (by decide) (hts _ uw_X10_form_f19) (fun _ h9 => h9) rfl (dt_of tkX10_form_k40 1 rfl) ?_
      refine va_get (D := (dC, dI)) (ci := 2) (v := .ref jbs) (C := RX2) (T := TX2) (N := 12) hx hb hts ui_X10_form_X2 hown hK hP 1 rfl rfl 0 (by decide) (hts _ uw_X10_form_f212) (fun _ h9 => h9) rfl (dt_of tkX10_form_k40 2 rfl) ?_
      refine lv_iload_n hx hb (dt_of tkX10_form_k40 3 rfl) rfl (lv_at hl 1 rfl) ?_
      obtain ⟨hi9, hw⟩ := hw
      refine va_iald hx hb hK hP 4 1 rfl rfl hi9 (dt_of tkX10_form_k40 4 rfl) ?_
      refine lv_topi (fun x5 ex5 => ?_)
      have hw := hw x5 ex5
      exact vx_ret (W.widen (k := 2) (n := 12) (Nat.le_of_ble_eq_true rfl) (Nat.le_of_ble_eq_true rfl) (W.iret (v := x5) hx hb hr (fun t ht hW => ⟨⟨x5, (x1, x2), rfl, hw, by rw [ht]; exact hP, va_K.moved hW.alike hK, hD⟩, hS.F ht⟩) hS.2.2 (dt_of tkX10_form_k40 5 rfl)))
    · have hw := hw.2.1 c3
      refine lv_tableIn (tgt := 50) (off := 37) hx hb dX10_form_13 (by rw [c3]; decide) (by rw [c3]; decide) (by rw [c3]; decide) (by decide) ?_
      refine lv_aload_n hx hb (dt_of tkX10_form_k40 6 rfl) rfl (lv_at hl 0 rfl) ?_
      refine va_get (D := (dC, dI)) (ci := 10) (v := .ref jaR) (C := RX10) (T := TX10) (N := 19) hx hb hts ui_X10_form_X10 hown hK hP 0 rfl rfl 1 (by decide) (hts _ uw_X10_form_f19) (fun _ h9 => h9) rfl (dt_of tkX10_form_k40 7 rfl) ?_
      refine va_get (D := (dC, dI)) (ci := 2) (v := .ref jbt) (C := RX2) (T := TX2) (N := 12) hx hb hts ui_X10_form_X2 hown hK hP 1 rfl rfl 1 (by decide) (hts _ uw_X10_form_f216) (fun _ h9 => h9) rfl (dt_of tkX10_form_k40 8 rfl) ?_
      refine lv_iload_n hx hb (dt_of tkX10_form_k40 9 rfl) rfl (lv_at hl 1 rfl) ?_
      obtain ⟨hi9, hw⟩ := hw
      refine va_iald hx hb hK hP 5 1 rfl rfl hi9 (dt_of tkX10_form_k40 10 rfl) ?_
      refine lv_topi (fun x6 ex6 => ?_)
      have hw := hw x6 ex6
      exact vx_ret (W.widen (k := 2) (n := 12) (Nat.le_of_ble_eq_true rfl) (Nat.le_of_ble_eq_true rfl) (W.iret (v := x6) hx hb hr (fun t ht hW => ⟨⟨x6, (x1, x2), rfl, hw, by rw [ht]; exact hP, va_K.moved hW.alike hK, hD⟩, hS.F ht⟩) hS.2.2 (dt_of tkX10_form_k40 11 rfl)))
    · have hw := hw.2.2 c3
      refine lv_tableIn (tgt := 60) (off := 47) hx hb dX10_form_13 (by rw [c3]; decide) (by rw [c3]; decide) (by rw [c3]; decide) (by decide) ?_
      refine lv_aload_n hx hb (dt_of tkX10_form_k40 12 rfl) rfl (lv_at hl 0 rfl) ?_
      refine va_get (D := (dC, dI)) (ci := 10) (v := .ref jaR) (C := RX10) (T := TX10) (N := 19) hx hb hts ui_X10_form_X10 hown hK hP 0 rfl rfl 1 (by decide) (hts _ uw_X10_form_f19) (fun _ h9 => h9) rfl (dt_of tkX10_form_k40 13 rfl) ?_
      refine lv_iload_n hx hb (dt_of tkX10_form_k40 14 rfl) rfl (lv_at hl 1 rfl) ?_
      obtain ⟨hCc, hPc, hDc, hFc⟩ := va_pick (ws' := (wd02_29 jaR jbs jbt jbo jbp jbk jbj jbe jbq jbE jbm jbi jdB)) hP hD hS hA [1] (by decide +kernel) rfl
      refine va_calli (va_runV (As := [.int p1]) (rest := []) ⟨hx, hb, hml, hown, hts⟩ (ck_X2_isSafe l dC dI cyB cyI cyJ cyP jaR H.size (.ref jbs) (.ref jbt) (jbo) (jbp) (jbk) (jbj) (jbe) (jbq) (.int jbE) (.int jbm) (jbi) jdB  p1 hw) (cwV 1 hts gX10_form_X2_isSafe rfl rfl rfl (by decide +kernel) ⟨Nat.le_of_ble_eq_true rfl, Nat.le_of_ble_eq_true rfl⟩) ⟨cPc_blind, va_recv (q := (RX2, TX2, 12)) hK hPc (ci := 2) (q0 := 0) rfl rfl, cPc_pre hPc hK hDc hNw⟩ rfl rfl hl.1 rfl (lv_room (Nat.le_of_ble_eq_true rfl)) (dt_of tkX10_form_k40 15 rfl) ⟨Nat.le_of_ble_eq_true rfl, Nat.le_of_ble_eq_true rfl⟩) hS (fun q _ h => hFc q h) hFc (fun r7 u t H1 locs ht hvm hw hB hz1 hk1 hS => ?_)
      obtain ⟨hP1, hK1, hD1⟩ := hB
      rw [ht] at hP1
      obtain ⟨hP, hD⟩ := va_joinN (wr := [(a0, .inr (10, [jaK, .ref jaR, ja1, jcp, jbc, jbV, ja3, jbH, .ref jaT, jbO, jaq, jac, jbI, jbl, jbn, jba, jaa, .int x1, .int x2])), (jaT, .inr (1, [.ref jbb, jbr, .ref jaR, jfc])), (jbb, .inl (cyI, 64, .inl jbQ)), (jbs, .inl (cyI, 8, .inl jci)), (jbt, .inl (cyI, 8, .inl jcj))]) (w1 := (wd02_29 jaR jbs jbt jbo jbp jbk jbj jbe jbq jbE jbm jbi jdB)) (wn := (wd02_23 a0 jaK jaR ja1 jcp jbc jbV ja3 jbH jaT jbO jaq jac jbI jbl jbn jba jaa x1 x2 jaR jbs jbt jbo jbp jbk jbj jbe jbq jbE jbm jbi jdB jaT jbb jbr jaR jfc jbb cyI jbQ jbs cyI jci jbt cyI jcj)) hP hD [1] [0, 2, 3, 4, 5] [0, 5, 1, 2, 3, 4] hCc rfl (by decide +kernel) (by decide +kernel) (by decide +kernel) rfl hk1 hFc hP1 hD1
      generalize H1 = H at hP hS ⊢
      refine lv_if_eq (tgt := 75) hx hb (dt_of tkX10_form_k68 0 rfl) (by decide) (fun c8 => ?_) (fun c8 => ?_)
      · have hw := hw.1 c8
        refine lv_iconst (v := 0) hx hb (dt_of tkX10_form_k68 3 rfl) (by decide) ?_
        exact vx_ret (W.widen (k := 2) (n := 12) (Nat.le_of_ble_eq_true rfl) (Nat.le_of_ble_eq_true rfl) (W.iret (v := 0) hx hb hr (fun t ht hW => ⟨⟨0, (x1, x2), rfl, hw, by rw [ht]; exact hP, va_K.moved hW.alike hK, hD⟩, hS.F ht⟩) hS.2.2 (dt_of tkX10_form_k68 4 rfl)))
      · have hw := hw.2 c8
        refine lv_iconst (v := 1) hx hb (dt_of tkX10_form_k68 1 rfl) (by decide) ?_
        refine lv_goto (tgt := 76) hx hb (dt_of tkX10_form_k68 2 rfl) (by decide) ?_
        exact vx_ret (W.widen (k := 2) (n := 12) (Nat.le_of_ble_eq_true rfl) (Nat.le_of_ble_eq_true rfl) (W.iret (v := 1) hx hb hr (fun t ht hW => ⟨⟨1, (x1, x2), rfl, hw, by rw [ht]; exact hP, va_K.moved hW.alike hK, hD⟩, hS.F ht⟩) hS.2.2 (dt_of tkX10_form_k68 4 rfl)))
theorem uw_L_form_ct13 : (.classLink RL 13 "java/lang/IllegalArgumentException" : Cond) ∈ wsL_form := mbL_form 595 (by decide +kernel)
theorem uw_L_form_ct31 : (.classLink RL 31 "java/util/NoSuchElementException" : Cond) ∈ wsL_form := mbL_form 2639 (by decide +kernel)
theorem uw_L_form_cw : (.codeWith yL_form cL_form 5 (some .int) [(0, 10, 13, 31), (0, 10, 17, 13)] : Cond) ∈ wsL_form := mbL_form 2638 (by decide +kernel)
set_option maxHeartbeats 4000000 in
set_option maxRecDepth 100000 in
theorem ck_L_form (l : Launch) (dC : Nat → ClassId) (dI : Nat → Nat → Nat) (cyB cyI cyJ cyP : ClassId) (a0 a3 jaR jaT jbb jbs jbt sz : Nat) (jaK ja1 jcp jbc jbV ja3 jbH jbO jaq jac jbI jbl jbn jba jaa jbo jbp jbk jbj jbe jbq jbi jbr jfc : Value) (n3 : Nat) (jbE jbm jdB : Int32) (jbQ jci jcj : Nat → Int32) (jdu jbz : Int32) (f3 : Nat → Int64) (p1 p2 : Int32) {Q : Int32 → Int32 → Int32 → (Nat → Int64) → Prop} (hw : wq_L_form n3 jbE jbm jdB jbQ jci jcj jdu jbz f3 p1 p2 Q) : Met l yL_form wsL_form ({ frames := 9, cells := 2, slots := 12, locals := 186 }) (va_Pc [.ref a0, .int p1, .int p2, .ref a3] (cPx l (dC, dI) (kT cyB cyI cyJ cyP) (wd02_30 a0 jaK jaR ja1 jcp jbc jbV ja3 jbH jaT jbO jaq jac jbI jbl jbn jba jaa jdu jbz jaR jbs jbt jbo jbp jbk jbj jbe jbq jbE jbm jbi jdB jaT jbb jbr jaR jfc jbb cyI jbQ jbs cyI jci jbt cyI jcj a3 cyJ n3 f3) sz)) (va_Qi (fun (r : Int32) (u : Int32 × Int32 × (Nat → Int64)) => Q r u.1 u.2.1 u.2.2) (cB (dC, dI) (kT cyB cyI cyJ cyP) (va_A (wd02_30 a0 jaK jaR ja1 jcp jbc jbV ja3 jbH jaT jbO jaq jac jbI jbl jbn jba jaa jdu jbz jaR jbs jbt jbo jbp jbk jbj jbe jbq jbE jbm jbi jdB jaT jbb jbr jaR jfc jbb cyI jbQ jbs cyI jci jbt cyI jcj a3 cyJ n3 f3) sz) (fun u : Int32 × Int32 × (Nat → Int64) => ((wd02_30 a0 jaK jaR ja1 jcp jbc jbV ja3 jbH jaT jbO jaq jac jbI jbl jbn jba jaa u.1 u.2.1 jaR jbs jbt jbo jbp jbk jbj jbe jbq jbE jbm jbi jdB jaT jbb jbr jaR jfc jbb cyI jbQ jbs cyI jci jbt cyI jcj a3 cyJ n3 u.2.2) : va_W))) (va_A (wd02_30 a0 jaK jaR ja1 jcp jbc jbV ja3 jbH jaT jbO jaq jac jbI jbl jbn jba jaa jdu jbz jaR jbs jbt jbo jbp jbk jbj jbe jbq jbE jbm jbi jdB jaT jbb jbr jaR jfc jbb cyI jbQ jbs cyI jci jbt cyI jcj a3 cyJ n3 f3) sz)) 2 12 (va_A (wd02_30 a0 jaK jaR ja1 jcp jbc jbV ja3 jbH jaT jbO jaq jac jbI jbl jbn jba jaa jdu jbz jaR jbs jbt jbo jbp jbk jbj jbe jbq jbE jbm jbi jdB jaT jbb jbr jaR jfc jbb cyI jbQ jbs cyI jci jbt cyI jcj a3 cyJ n3 f3) sz) := by
  refine va_MetW (cc := cL_form) (maxL := 5) (ret := (some .int)) (by decide) rfl ?_
  intro p e s m args below meth c s₁ B hml hv
  obtain ⟨rfl, hsz, hP, hK, hD0, hNw, hXl, hXu, hXn, hXt⟩ := hv
  have hx := B.exec
  have hb := B.bytes
  have hr := B.returns
  have hts := atoms_spec (ws := wsL_form) B.pre
  have hown : s.vm.findClass RL = some m.cls := findClass_of_methodNamed B.named
  have hlocks := B.notSynchronized
  subst hsz
  have hD := hD0.self (sz := s.heap.size)
  generalize hAe : va_A (wd02_30 a0 jaK jaR ja1 jcp jbc jbV ja3 jbH jaT jbO jaq jac jbI jbl jbn jba jaa jdu jbz jaR jbs jbt jbo jbp jbk jbj jbe jbq jbE jbm jbi jdB jaT jbb jbr jaR jfc jbb cyI jbQ jbs cyI jci jbt cyI jcj a3 cyJ n3 f3) s.heap.size = A at hD hXu hXn ⊢
  have hA : ∀ q : Nat, s.heap.size ≤ q → A q := fun q h => by rw [← hAe]; exact Or.inr h
  have hS : va_S A s.heap s.heap [] := va_S.rf
  have hP : va_P (dC, dI) vwCl (wd02_30 a0 jaK jaR ja1 jcp jbc jbV ja3 jbH jaT jbO jaq jac jbI jbl jbn jba jaa jdu jbz jaR jbs jbt jbo jbp jbk jbj jbe jbq jbE jbm jbi jdB jaT jbb jbr jaR jfc jbb cyI jbQ jbs cyI jci jbt cyI jcj a3 cyJ n3 f3) s.heap := hP
  have hl := lv_entry ([.ref a0, .int p1, .int p2, .ref a3]) (n := 5) (Nat.le_of_ble_eq_true rfl)
  rw [lg_entry_eq]
  generalize (lg_sl ([.ref a0, .int p1, .int p2, .ref a3]) ++ List.replicate (5 - (lg_sl ([.ref a0, .int p1, .int p2, .ref a3])).length) Slot.unset).toArray = ls at hl ⊢
  have hl : lv_has ls 5 [(0, .ref a0), (1, .int p1), (2, .int p2), (3, .ref a3)] := hl
  have hY : cfY l s A := ⟨hXl, hXu, hXn, hXt⟩
  have hTb := vx_table (x := yL_form) B (hts _ uw_L_form_cw)
  clear hAe
  obtain ⟨H, hH⟩ : ∃ H, H = s.heap := ⟨_, rfl⟩
  rw [← hH] at hP ⊢
  have hS : va_S A s.heap H [] := by rw [hH]; exact va_S.rf
  have hS := hS
  refine lv_aload_n hx hb (dt_of tkL_form_k0 0 rfl) rfl (lv_at hl 3 rfl) ?_
  refine lv_iconst (v := 0) hx hb (dt_of tkL_form_k0 1 rfl) (by decide) ?_
  refine lv_aload_n hx hb (dt_of tkL_form_k0 2 rfl) rfl (lv_at hl 0 rfl) ?_
  refine lv_iload_n hx hb (dt_of tkL_form_k0 3 rfl) rfl (lv_at hl 1 rfl) ?_
  refine lv_iload_n hx hb (dt_of tkL_form_k0 4 rfl) rfl (lv_at hl 2 rfl) ?_
  obtain ⟨hCc, hPc, hDc, hFc⟩ := va_pick (ws' := (wd02_23 a0 jaK jaR ja1 jcp jbc jbV ja3 jbH jaT jbO jaq jac jbI jbl jbn jba jaa jdu jbz jaR jbs jbt jbo jbp jbk jbj jbe jbq jbE jbm jbi jdB jaT jbb jbr jaR jfc jbb cyI jbQ jbs cyI jci jbt cyI jcj)) hP hD hS hA [0, 1, 2, 3, 4, 5] (by decide +kernel) rfl
  refine vx_calli (vx_runV (As := [.int p1, .int p2]) (rest := [.int 0, .ref a3]) ⟨hx, hb, hml, hown, hts⟩ (ck_X10_form l dC dI cyB cyI cyJ cyP a0 jaR jaT jbb jbs jbt H.size (jaK) (ja1) (jcp) (jbc) (jbV) (ja3) (jbH) (jbO) (jaq) (jac) (jbI) (jbl) (jbn) (jba) (jaa) (jbo) (jbp) (jbk) (jbj) (jbe) (jbq) (jbi) (jbr) (jfc) jbE jbm jdB jbQ jci jcj jdu jbz p1 p2 hw) (cwV 2 hts gL_form_X10_form rfl rfl rfl (by decide +kernel) ⟨Nat.le_of_ble_eq_true rfl, Nat.le_of_ble_eq_true rfl⟩) ⟨cPx_blind, va_recv (q := (RX10, TX10, 19)) hK hPc (ci := 10) (q0 := 0) rfl rfl, cPx_pre hPc hK hDc hNw hY hS hFc⟩ rfl rfl hl.1 rfl (lv_room (Nat.le_of_ble_eq_true rfl)) (dt_of tkL_form_k0 5 rfl) ⟨Nat.le_of_ble_eq_true rfl, Nat.le_of_ble_eq_true rfl⟩) hS (fun q _ h => hFc q h) hFc (fun q _ h => hFc q h) (fun en ce qx9 u t H1 locs ht hvm hpx hB hz1 hk1 hS hc9 hv9 hcl9 => ?_) (fun r3 u t H1 locs ht hvm hw hB hz1 hk1 hS => ?_)
  · obtain ⟨x1, x2⟩ := u
    obtain ⟨hw, hP1, hK1, hD1⟩ := hB
    rw [ht] at hP1
    obtain ⟨hP, hD⟩ := va_joinN (wr := [(a3, .inl (cyJ, n3, .inr (.inl f3)))]) (w1 := (wd02_23 a0 jaK jaR ja1 jcp jbc jbV ja3 jbH jaT jbO jaq jac jbI jbl jbn jba jaa x1 x2 jaR jbs jbt jbo jbp jbk jbj jbe jbq jbE jbm jbi jdB jaT jbb jbr jaR jfc jbb cyI jbQ jbs cyI jci jbt cyI jcj)) (wn := (wd02_30 a0 jaK jaR ja1 jcp jbc jbV ja3 jbH jaT jbO jaq jac jbI jbl jbn jba jaa x1 x2 jaR jbs jbt jbo jbp jbk jbj jbe jbq jbE jbm jbi jdB jaT jbb jbr jaR jfc jbb cyI jbQ jbs cyI jci jbt cyI jcj a3 cyJ n3 f3)) hP hD [0, 1, 2, 3, 4, 5] [6] [1, 2, 3, 4, 5, 6, 0] hCc rfl (by decide +kernel) (by decide +kernel) (by decide +kernel) rfl hk1 hFc hP1 hD1
    generalize H1 = H at hP hS hc9 ⊢
    rcases hw with ⟨rfl, hw⟩ | ⟨rfl, hw⟩
    · refine vx_catch (own := RL) (name := "java/util/NoSuchElementException") hown [] ⟨0, 10, 13, 31⟩ [⟨0, 10, 17, 13⟩] (hTb.trans rfl) (fun z hz => nomatch hz) (by decide) (by decide) (hts _ uw_L_form_ct31) (va_Nw.use rfl (hY.2.2.2.1.2 _ (List.mem_of_getElem? (i := 1) rfl))) hc9 hv9 hcl9 ?_
      refine lv_astore (lv' := [(4, .ref qx9), (0, .ref a0), (1, .int p1), (2, .int p2), (3, .ref a3)]) hx hb (dt_of tkL_form_k0 9 rfl) hl (by decide) rfl (fun ls hl => ?_)
      refine lv_iconst (v := 1) hx hb (dt_of tkL_form_k0 10 rfl) (by decide) ?_
      exact (W.widen (k := 2) (n := 12) (Nat.le_of_ble_eq_true rfl) (Nat.le_of_ble_eq_true rfl) (W.iret (v := 1) hx hb hr (fun t ht hW => ⟨⟨1, (x1, x2, f3), rfl, hw, by rw [ht]; exact hP, va_K.moved hW.alike hK, hD⟩, hS.F ht⟩) hS.2.2 (dt_of tkL_form_k0 11 rfl)))
    · refine vx_catch (own := RL) (name := "java/lang/IllegalArgumentException") hown [⟨0, 10, 13, 31⟩] ⟨0, 10, 17, 13⟩ [] (hTb.trans rfl) (fun z hz => by rw [List.mem_singleton.mp hz]; exact Or.inr ⟨by decide, _, (hts _ uw_L_form_ct31), hY.2.2.2.2.2⟩) (by decide) (by decide) (hts _ uw_L_form_ct13) (va_Nw.use rfl (hY.2.2.2.1.2 _ (List.mem_of_getElem? (i := 0) rfl))) hc9 hv9 hcl9 ?_
      refine lv_astore (lv' := [(4, .ref qx9), (0, .ref a0), (1, .int p1), (2, .int p2), (3, .ref a3)]) hx hb (dt_of tkL_form_k0 12 rfl) hl (by decide) rfl (fun ls hl => ?_)
      refine lv_iconst (v := 2) hx hb (dt_of tkL_form_k0 13 rfl) (by decide) ?_
      exact (W.widen (k := 2) (n := 12) (Nat.le_of_ble_eq_true rfl) (Nat.le_of_ble_eq_true rfl) (W.iret (v := 2) hx hb hr (fun t ht hW => ⟨⟨2, (x1, x2, f3), rfl, hw, by rw [ht]; exact hP, va_K.moved hW.alike hK, hD⟩, hS.F ht⟩) hS.2.2 (dt_of tkL_form_k0 14 rfl)))
  obtain ⟨x1, x2⟩ := u
  obtain ⟨hP1, hK1, hD1⟩ := hB
  rw [ht] at hP1
  obtain ⟨hP, hD⟩ := va_join (wr := [(a3, .inl (cyJ, n3, .inr (.inl f3)))]) (w1 := (wd02_23 a0 jaK jaR ja1 jcp jbc jbV ja3 jbH jaT jbO jaq jac jbI jbl jbn jba jaa x1 x2 jaR jbs jbt jbo jbp jbk jbj jbe jbq jbE jbm jbi jdB jaT jbb jbr jaR jfc jbb cyI jbQ jbs cyI jci jbt cyI jcj)) hP hD [0, 1, 2, 3, 4, 5] [6] rfl rfl (by decide) (by decide) hk1 hFc hP1 hD1
  have hP : va_P (dC, dI) vwCl (wd02_30 a0 jaK jaR ja1 jcp jbc jbV ja3 jbH jaT jbO jaq jac jbI jbl jbn jba jaa x1 x2 jaR jbs jbt jbo jbp jbk jbj jbe jbq jbE jbm jbi jdB jaT jbb jbr jaR jfc jbb cyI jbQ jbs cyI jci jbt cyI jcj a3 cyJ n3 f3) H1 := hP.sub [1, 2, 3, 4, 5, 6, 0] rfl
  have hD : va_D A (wd02_30 a0 jaK jaR ja1 jcp jbc jbV ja3 jbH jaT jbO jaq jac jbI jbl jbn jba jaa x1 x2 jaR jbs jbt jbo jbp jbk jbj jbe jbq jbE jbm jbi jdB jaT jbb jbr jaR jfc jbb cyI jbQ jbs cyI jci jbt cyI jcj a3 cyJ n3 f3) := hD.sub [1, 2, 3, 4, 5, 6, 0] (by decide) rfl
  generalize H1 = H at hP hS ⊢
  refine lv_i2l (v := r3.toInt64) hx hb (dt_of tkL_form_k0 6 rfl) rfl ?_
  refine lv_topl (fun x4 ex4 => ?_)
  have hw := hw x4 ex4
  obtain ⟨hi9, hw⟩ := hw
  refine va_last hx hb hK hP hD hS 6 2 rfl rfl hi9 (dt_of tkL_form_k0 7 rfl) (fun H locs hP hD hS => ?_)
  obtain ⟨f5, ef5⟩ : ∃ y : Nat → Int64, y = vp_updL f3 (0 : Int32).toNatClampNeg x4 := ⟨_, rfl⟩
  have hw := hw f5 ef5
  have hP : va_P (dC, dI) vwCl (wd02_30 a0 jaK jaR ja1 jcp jbc jbV ja3 jbH jaT jbO jaq jac jbI jbl jbn jba jaa x1 x2 jaR jbs jbt jbo jbp jbk jbj jbe jbq jbE jbm jbi jdB jaT jbb jbr jaR jfc jbb cyI jbQ jbs cyI jci jbt cyI jcj a3 cyJ n3 f5) H := by rw [ef5]; exact hP
  have hD : va_D A (wd02_30 a0 jaK jaR ja1 jcp jbc jbV ja3 jbH jaT jbO jaq jac jbI jbl jbn jba jaa x1 x2 jaR jbs jbt jbo jbp jbk jbj jbe jbq jbE jbm jbi jdB jaT jbb jbr jaR jfc jbb cyI jbQ jbs cyI jci jbt cyI jcj a3 cyJ n3 f5) := by rw [ef5]; exact hD
  refine lv_goto (tgt := 21) hx hb (dt_of tkL_form_k0 8 rfl) (by decide) ?_
  refine lv_iconst (v := 0) hx hb (dt_of tkL_form_k0 15 rfl) (by decide) ?_
  exact (W.widen (k := 2) (n := 12) (Nat.le_of_ble_eq_true rfl) (Nat.le_of_ble_eq_true rfl) (W.iret (v := 0) hx hb hr (fun t ht hW => ⟨⟨0, (x1, x2, f5), rfl, hw, by rw [ht]; exact hP, va_K.moved hW.alike hK, hD⟩, hS.F ht⟩) hS.2.2 (dt_of tkL_form_k22 0 rfl)))
theorem ub_X10_fox_268 : ∀ w ∈ (ux_atS RX10 268 "java/util/NoSuchElementException" 13 ux_rx ["java/lang/RuntimeException", "java/lang/Exception"]).filter (fun w => !goodWord w), w ∈ xB := by decide +kernel
theorem ug_X10_fox_268 : ∀ w ∈ Cond.classLink RX10 264 "java/util/NoSuchElementException" :: Cond.initialized "java/util/NoSuchElementException" :: ux_atS RX10 268 "java/util/NoSuchElementException" 13 ux_rx ["java/lang/RuntimeException", "java/lang/Exception"], vx_ot w = true := by decide +kernel
theorem uh_X10_fox_268 : ∀ w ∈ (ux_atS RX10 268 "java/util/NoSuchElementException" 13 ux_rx ["java/lang/RuntimeException", "java/lang/Exception"]).filter goodWord, w ∈ wsX10_fox := by decide +kernel
theorem ui_X10_fox_X10 : ∀ w ∈ u_ws RX10 TX10 19, w ∈ wsX10_fox := uiM mbX10_fox euX10 (by decide +kernel)
theorem ui_X10_fox_X2 : ∀ w ∈ u_ws RX2 TX2 12, w ∈ wsX10_fox := uiM mbX10_fox euX2 (by decide +kernel)
theorem uw_X10_fox_cl264 : (.classLink RX10 264 "java/util/NoSuchElementException" : Cond) ∈ wsX10_fox := mbX10_fox 2690 (by decide +kernel)
theorem uw_X10_fox_f184 : (.fieldLink RX10 184 "MarchHares$Down" "foxes" "I" : Cond) ∈ wsX10_fox := mbX10_fox 2516 (by decide +kernel)
theorem uw_X10_fox_f19 : (.fieldLink RX10 19 "MarchHares" "ground" "LMarchHares$Down;" : Cond) ∈ wsX10_fox := mbX10_fox 20 (by decide +kernel)
theorem uw_X10_fox_f261 : (.fieldLink RX10 261 "MarchHares" "callsNoSuch" "I" : Cond) ∈ wsX10_fox := mbX10_fox 2692 (by decide +kernel)
theorem uw_X10_fox_f271 : (.fieldLink RX10 271 "MarchHares$Down" "foxX" "[I" : Cond) ∈ wsX10_fox := mbX10_fox 2818 (by decide +kernel)
theorem uw_X10_fox_f274 : (.fieldLink RX10 274 "MarchHares$Down" "foxY" "[I" : Cond) ∈ wsX10_fox := mbX10_fox 2819 (by decide +kernel)
theorem uw_X10_fox_ini264 : (.initialized "java/util/NoSuchElementException" : Cond) ∈ wsX10_fox := mbX10_fox 2691 (by decide +kernel)
set_option maxHeartbeats 4000000 in
set_option maxRecDepth 100000 in
theorem ck_X10_fox (l : Launch) (dC : Nat → ClassId) (dI : Nat → Nat → Nat) (cyB cyI cyJ cyP : ClassId) (a0 jaR jmt jmu sz : Nat) (jaK ja1 jcp jbc jbV ja3 jbH ja2 jbO jaq jac jbI jbl jbn jba jaa jcB jcC jbk jbj jbe jbq jef jgP jcd : Value) (jls : Int32) (jnF jnG : Nat → Int32) (jbz jdu p1 p2 : Int32) {E : String → Int32 → Int32 → Prop} {Q : Int32 → Int32 → Int32 → Prop} (hw : wq_X10_fox jls jnF jnG jbz jdu p1 p2 E Q) : vx_Met l yX10_fox wsX10_fox ({ frames := 8, cells := 1, slots := 6, locals := 164 }) (va_Pc [.ref a0, .int p1, .int p2] (cPx l (dC, dI) (kT cyB cyI cyJ cyP) (wd02_31 a0 jaK jaR ja1 jcp jbc jbV ja3 jbH ja2 jbO jaq jac jbI jbl jbn jba jaa jdu jbz jaR jcB jcC jmu jmt jbk jbj jbe jbq jef jgP jls jcd jmt cyI jnF jmu cyI jnG) sz)) (va_Qi (fun (r : Int32) (u : Int32 × Int32) => Q r u.1 u.2) (cB (dC, dI) (kT cyB cyI cyJ cyP) (va_A (wd02_31 a0 jaK jaR ja1 jcp jbc jbV ja3 jbH ja2 jbO jaq jac jbI jbl jbn jba jaa jdu jbz jaR jcB jcC jmu jmt jbk jbj jbe jbq jef jgP jls jcd jmt cyI jnF jmu cyI jnG) sz) (fun u : Int32 × Int32 => ((wd02_31 a0 jaK jaR ja1 jcp jbc jbV ja3 jbH ja2 jbO jaq jac jbI jbl jbn jba jaa u.2 u.1 jaR jcB jcC jmu jmt jbk jbj jbe jbq jef jgP jls jcd jmt cyI jnF jmu cyI jnG) : va_W))) (va_A (wd02_31 a0 jaK jaR ja1 jcp jbc jbV ja3 jbH ja2 jbO jaq jac jbI jbl jbn jba jaa jdu jbz jaR jcB jcC jmu jmt jbk jbj jbe jbq jef jgP jls jcd jmt cyI jnF jmu cyI jnG) sz)) (vx_X (fun _ => True) (fun (en : String) (u : Int32 × Int32) (t : State) => E en u.1 u.2 ∧ cB (dC, dI) (kT cyB cyI cyJ cyP) (va_A (wd02_31 a0 jaK jaR ja1 jcp jbc jbV ja3 jbH ja2 jbO jaq jac jbI jbl jbn jba jaa jdu jbz jaR jcB jcC jmu jmt jbk jbj jbe jbq jef jgP jls jcd jmt cyI jnF jmu cyI jnG) sz) (fun u : Int32 × Int32 => ((wd02_31 a0 jaK jaR ja1 jcp jbc jbV ja3 jbH ja2 jbO jaq jac jbI jbl jbn jba jaa u.2 u.1 jaR jcB jcC jmu jmt jbk jbj jbe jbq jef jgP jls jcd jmt cyI jnF jmu cyI jnG) : va_W)) u t) (va_A (wd02_31 a0 jaK jaR ja1 jcp jbc jbV ja3 jbH ja2 jbO jaq jac jbI jbl jbn jba jaa jdu jbz jaR jcB jcC jmu jmt jbk jbj jbe jbq jef jgP jls jcd jmt cyI jnF jmu cyI jnG) sz)) 1 6 (va_A (wd02_31 a0 jaK jaR ja1 jcp jbc jbV ja3 jbH ja2 jbO jaq jac jbI jbl jbn jba jaa jdu jbz jaR jcB jcC jmu jmt jbk jbj jbe jbq jef jgP jls jcd jmt cyI jnF jmu cyI jnG) sz) := by
  refine vx_ofW (cc := cX10_fox) (maxL := 3) (ret := (some .int)) (by decide) rfl ?_
  intro p e s m args below meth c s₁ B hml hnt hv
  obtain ⟨rfl, hsz, hP, hK, hD0, hNw, hXl, hXu, hXn, hXt⟩ := hv
  have hx := B.exec
  have hb := B.bytes
  have hr := B.returns
  have hts := atoms_spec (ws := wsX10_fox) B.pre
  have hown : s.vm.findClass RX10 = some m.cls := findClass_of_methodNamed B.named
  have hlocks := B.notSynchronized
  subst hsz
  have hD := hD0.self (sz := s.heap.size)
  generalize hAe : va_A (wd02_31 a0 jaK jaR ja1 jcp jbc jbV ja3 jbH ja2 jbO jaq jac jbI jbl jbn jba jaa jdu jbz jaR jcB jcC jmu jmt jbk jbj jbe jbq jef jgP jls jcd jmt cyI jnF jmu cyI jnG) s.heap.size = A at hD hXu hXn ⊢
  have hA : ∀ q : Nat, s.heap.size ≤ q → A q := fun q h => by rw [← hAe]; exact Or.inr h
  have hS : va_S A s.heap s.heap [] := va_S.rf
  have hP : va_P (dC, dI) vwCl (wd02_31 a0 jaK jaR ja1 jcp jbc jbV ja3 jbH ja2 jbO jaq jac jbI jbl jbn jba jaa jdu jbz jaR jcB jcC jmu jmt jbk jbj jbe jbq jef jgP jls jcd jmt cyI jnF jmu cyI jnG) s.heap := hP
  have hl := lv_entry ([.ref a0, .int p1, .int p2]) (n := 3) (Nat.le_of_ble_eq_true rfl)
  rw [lg_entry_eq]
  generalize (lg_sl ([.ref a0, .int p1, .int p2]) ++ List.replicate (3 - (lg_sl ([.ref a0, .int p1, .int p2])).length) Slot.unset).toArray = ls at hl ⊢
  have hl : lv_has ls 3 [(0, .ref a0), (1, .int p1), (2, .int p2)] := hl
  have hY : cfY l s A := ⟨hXl, hXu, hXn, hXt⟩
  have hXs : cfX l s c A := ⟨hnt, hY⟩
  have C0 : cfx p s m _ meth c cX10_fox (some .int) wsX10_fox RX10 3 A (dC, dI) (kT cyB cyI cyJ cyP) ∧ cfX l s c A := ⟨⟨hx, hb, hr, hts, hown, hlocks, hml, hA, hK, hNw⟩, hXs⟩
  clear hAe
  obtain ⟨H, hH⟩ : ∃ H, H = s.heap := ⟨_, rfl⟩
  rw [← hH] at hP ⊢
  have hS : va_S A s.heap H [] := by rw [hH]; exact va_S.rf
  have hS := hS
  refine lv_iload_n hx hb (dt_of tkX10_fox_k0 0 rfl) rfl (lv_at hl 1 rfl) ?_
  refine lv_iconst (v := 0) hx hb (dt_of tkX10_fox_k0 1 rfl) (by decide) ?_
  refine lv_aload_n hx hb (dt_of tkX10_fox_k0 2 rfl) rfl (lv_at hl 0 rfl) ?_
  refine va_get (D := (dC, dI)) (ci := 10) (v := .ref jaR) (C := RX10) (T := TX10) (N := 19) hx hb hts ui_X10_fox_X10 hown hK hP 0 rfl rfl 1 (by decide) (hts _ uw_X10_fox_f19) (fun _ h9 => h9) rfl (dt_of tkX10_fox_k0 3 rfl) ?_
  refine va_get (D := (dC, dI)) (ci := 2) (v := .int jls) (C := RX2) (T := TX2) (N := 12) hx hb hts ui_X10_fox_X2 hown hK hP 1 rfl rfl 10 (by decide) (hts _ uw_X10_fox_f184) (fun _ h9 => h9) rfl (dt_of tkX10_fox_k0 4 rfl) ?_
  refine lv_iconst (v := 1) hx hb (dt_of tkX10_fox_k0 5 rfl) (by decide) ?_
  refine lv_isub hx hb (dt_of tkX10_fox_k0 6 rfl) ?_
  obtain ⟨hCc, hPc, hDc, hFc⟩ := va_pick (ws' := []) hP hD hS hA [] (by decide +kernel) rfl
  refine va_calli (va_runS (As := [.int p1, .int 0, .int (jls - 1)]) (rest := []) ⟨hx, hb, hml, hown, hts⟩ (ck_X10_within l dC dI cyB cyI cyJ cyP  H.size    p1 0 (jls - 1) hw) (va_cwS 3 hts gX10_fox_X10_within rfl rfl rfl (by decide +kernel) ⟨Nat.le_of_ble_eq_true rfl, Nat.le_of_ble_eq_true rfl⟩) ⟨cPc_blind, cPc_pre hPc hK hDc hNw⟩ rfl rfl hl.1 rfl (lv_room (Nat.le_of_ble_eq_true rfl)) (dt_of tkX10_fox_k0 7 rfl) ⟨Nat.le_of_ble_eq_true rfl, Nat.le_of_ble_eq_true rfl⟩) hS (fun q _ h => hFc q h) hFc (fun r1 u t H1 locs ht hvm hw hB hz1 hk1 hS => ?_)
  obtain ⟨hP1, hK1, hD1⟩ := hB
  rw [ht] at hP1
  obtain ⟨hP, hD⟩ := va_joinI (wr := (wd02_31 a0 jaK jaR ja1 jcp jbc jbV ja3 jbH ja2 jbO jaq jac jbI jbl jbn jba jaa jdu jbz jaR jcB jcC jmu jmt jbk jbj jbe jbq jef jgP jls jcd jmt cyI jnF jmu cyI jnG)) (w1 := []) (wn := (wd02_31 a0 jaK jaR ja1 jcp jbc jbV ja3 jbH ja2 jbO jaq jac jbI jbl jbn jba jaa jdu jbz jaR jcB jcC jmu jmt jbk jbj jbe jbq jef jgP jls jcd jmt cyI jnF jmu cyI jnG)) hP hD [] [0, 1, 2, 3] hCc rfl (by decide +kernel) (by decide +kernel) rfl hk1 hFc hP1 hD1
  generalize H1 = H at hP hS ⊢
  refine lv_if_ne (tgt := 38) hx hb (dt_of tkX10_fox_k0 8 rfl) (by decide) (fun c2 => ?_) (fun c2 => ?_)
  · have hw := hw.1 c2
    refine lv_aload_n hx hb (dt_of tkX10_fox_k30 4 rfl) rfl (lv_at hl 0 rfl) ?_
    refine lv_iload_n hx hb (dt_of tkX10_fox_k30 5 rfl) rfl (lv_at hl 2 rfl) ?_
    refine lv_iconst (v := 0) hx hb (dt_of tkX10_fox_k30 6 rfl) (by decide) ?_
    refine lv_iconst (v := 1) hx hb (dt_of tkX10_fox_k30 7 rfl) (by decide) ?_
    obtain ⟨hCc, hPc, hDc, hFc⟩ := va_pick (ws' := (wd02_32 a0 jaK jaR ja1 jcp jbc jbV ja3 jbH ja2 jbO jaq jac jbI jbl jbn jba jaa jdu jbz)) hP hD hS hA [0] (by decide +kernel) rfl
    refine vx_callv (vx_runV (As := [.int p2, .int 0, .int 1]) (rest := []) ⟨hx, hb, hml, hown, hts⟩ (ck_X10_needWithin l dC dI cyB cyI cyJ cyP a0 H.size (jaK) (.ref jaR) (ja1) (jcp) (jbc) (jbV) (ja3) (jbH) (ja2) (jbO) (jaq) (jac) (jbI) (jbl) (jbn) (jba) (jaa) (.int jdu)  jbz p2 0 1 hw) (cwV 3 hts gX10_fox_X10_needWithin rfl rfl rfl (by decide +kernel) ⟨Nat.le_of_ble_eq_true rfl, Nat.le_of_ble_eq_true rfl⟩) ⟨cPx_blind, va_recv (q := (RX10, TX10, 19)) hK hPc (ci := 10) (q0 := 0) rfl rfl, cPx_pre hPc hK hDc hNw hY hS hFc⟩ rfl rfl hl.1 rfl (lv_room (Nat.le_of_ble_eq_true rfl)) (dt_of tkX10_fox_k30 8 rfl) ⟨Nat.le_of_ble_eq_true rfl, Nat.le_of_ble_eq_true rfl⟩) hS (fun q _ h => hFc q h) hFc (fun q _ h => hFc q h) (fun en ce q9 u t H1 locs ht hvm hpx hB hz1 hk1 hS hc9 hv9 hcl9 => ?_) (fun u t H1 locs ht hvm hw hB hz1 hk1 hS => ?_)
    · obtain ⟨x3, rfl⟩ : ∃ z, z = u := ⟨_, rfl⟩
      obtain ⟨hw, hP1, hK1, hD1⟩ := hB
      rw [ht] at hP1
      obtain ⟨hP, hD⟩ := va_joinN (wr := (wd02_33 jaR jcB jcC jmu jmt jbk jbj jbe jbq jef jgP jls jcd jmt cyI jnF jmu cyI jnG)) (w1 := (wd02_32 a0 jaK jaR ja1 jcp jbc jbV ja3 jbH ja2 jbO jaq jac jbI jbl jbn jba jaa jdu x3)) (wn := (wd02_31 a0 jaK jaR ja1 jcp jbc jbV ja3 jbH ja2 jbO jaq jac jbI jbl jbn jba jaa jdu x3 jaR jcB jcC jmu jmt jbk jbj jbe jbq jef jgP jls jcd jmt cyI jnF jmu cyI jnG)) hP hD [0] [1, 2, 3] [3, 0, 1, 2] hCc rfl (by decide +kernel) (by decide +kernel) (by decide +kernel) rfl hk1 hFc hP1 hD1
      generalize H1 = H at hP hS hc9 ⊢
      exact vx_out (fun x hx9 => (hXs.1 x hx9).elim) hlocks hc9 hv9 hcl9 (fun t2 ht2 hal2 => ⟨(x3, jdu), trivial, ⟨hw, by rw [ht2]; exact hP, va_K.moved hal2 hK, hD⟩, hS.F ht2⟩) hS.2.2 (Nat.le_of_ble_eq_true rfl) (Nat.le_of_ble_eq_true rfl)
    obtain ⟨x3, rfl⟩ : ∃ z, z = u := ⟨_, rfl⟩
    obtain ⟨hP1, hK1, hD1⟩ := hB
    rw [ht] at hP1
    obtain ⟨hP, hD⟩ := va_joinN (wr := (wd02_33 jaR jcB jcC jmu jmt jbk jbj jbe jbq jef jgP jls jcd jmt cyI jnF jmu cyI jnG)) (w1 := (wd02_32 a0 jaK jaR ja1 jcp jbc jbV ja3 jbH ja2 jbO jaq jac jbI jbl jbn jba jaa jdu x3)) (wn := (wd02_31 a0 jaK jaR ja1 jcp jbc jbV ja3 jbH ja2 jbO jaq jac jbI jbl jbn jba jaa jdu x3 jaR jcB jcC jmu jmt jbk jbj jbe jbq jef jgP jls jcd jmt cyI jnF jmu cyI jnG)) hP hD [0] [1, 2, 3] [3, 0, 1, 2] hCc rfl (by decide +kernel) (by decide +kernel) (by decide +kernel) rfl hk1 hFc hP1 hD1
    generalize H1 = H at hP hS ⊢
    refine lv_iload_n hx hb (dt_of tkX10_fox_k30 9 rfl) rfl (lv_at hl 2 rfl) ?_
    refine lv_if_ne (tgt := 61) hx hb (dt_of tkX10_fox_k30 10 rfl) (by decide) (fun c4 => ?_) (fun c4 => ?_)
    · have hw := hw.1 c4
      refine lv_aload_n hx hb (dt_of tkX10_fox_k58 1 rfl) rfl (lv_at hl 0 rfl) ?_
      refine va_get (D := (dC, dI)) (ci := 10) (v := .ref jaR) (C := RX10) (T := TX10) (N := 19) hx hb hts ui_X10_fox_X10 hown hK hP 0 rfl rfl 1 (by decide) (hts _ uw_X10_fox_f19) (fun _ h9 => h9) rfl (dt_of tkX10_fox_k58 2 rfl) ?_
      refine va_get (D := (dC, dI)) (ci := 2) (v := .ref jmt) (C := RX2) (T := TX2) (N := 12) hx hb hts ui_X10_fox_X2 hown hK hP 1 rfl rfl 3 (by decide) (hts _ uw_X10_fox_f274) (fun _ h9 => h9) rfl (dt_of tkX10_fox_k58 3 rfl) ?_
      refine lv_iload_n hx hb (dt_of tkX10_fox_k58 4 rfl) rfl (lv_at hl 1 rfl) ?_
      obtain ⟨hi9, hw⟩ := hw
      refine va_iald hx hb hK hP 2 1 rfl rfl hi9 (dt_of tkX10_fox_k58 5 rfl) ?_
      refine lv_topi (fun x5 ex5 => ?_)
      have hw := hw x5 ex5
      exact vx_ret (W.widen (k := 1) (n := 6) (Nat.le_of_ble_eq_true rfl) (Nat.le_of_ble_eq_true rfl) (W.iret (v := x5) hx hb hr (fun t ht hW => ⟨⟨x5, (x3, jdu), rfl, hw, by rw [ht]; exact hP, va_K.moved hW.alike hK, hD⟩, hS.F ht⟩) hS.2.2 (dt_of tkX10_fox_k58 6 rfl)))
    · have hw := hw.2 c4
      refine lv_aload_n hx hb (dt_of tkX10_fox_k30 11 rfl) rfl (lv_at hl 0 rfl) ?_
      refine va_get (D := (dC, dI)) (ci := 10) (v := .ref jaR) (C := RX10) (T := TX10) (N := 19) hx hb hts ui_X10_fox_X10 hown hK hP 0 rfl rfl 1 (by decide) (hts _ uw_X10_fox_f19) (fun _ h9 => h9) rfl (dt_of tkX10_fox_k30 12 rfl) ?_
      refine va_get (D := (dC, dI)) (ci := 2) (v := .ref jmu) (C := RX2) (T := TX2) (N := 12) hx hb hts ui_X10_fox_X2 hown hK hP 1 rfl rfl 2 (by decide) (hts _ uw_X10_fox_f271) (fun _ h9 => h9) rfl (dt_of tkX10_fox_k30 13 rfl) ?_
      refine lv_iload_n hx hb (dt_of tkX10_fox_k30 14 rfl) rfl (lv_at hl 1 rfl) ?_
      obtain ⟨hi9, hw⟩ := hw
      refine va_iald hx hb hK hP 3 1 rfl rfl hi9 (dt_of tkX10_fox_k30 15 rfl) ?_
      refine lv_topi (fun x6 ex6 => ?_)
      have hw := hw x6 ex6
      refine lv_goto (tgt := 70) hx hb (dt_of tkX10_fox_k58 0 rfl) (by decide) ?_
      exact vx_ret (W.widen (k := 1) (n := 6) (Nat.le_of_ble_eq_true rfl) (Nat.le_of_ble_eq_true rfl) (W.iret (v := x6) hx hb hr (fun t ht hW => ⟨⟨x6, (x3, jdu), rfl, hw, by rw [ht]; exact hP, va_K.moved hW.alike hK, hD⟩, hS.F ht⟩) hS.2.2 (dt_of tkX10_fox_k58 6 rfl)))
  · have hw := hw.2 c2
    refine lv_aload_n hx hb (dt_of tkX10_fox_k0 9 rfl) rfl (lv_at hl 0 rfl) ?_
    refine lv_dup hx hb (dt_of tkX10_fox_k0 10 rfl) rfl ?_
    refine va_get (D := (dC, dI)) (ci := 10) (v := .int jdu) (C := RX10) (T := TX10) (N := 19) hx hb hts ui_X10_fox_X10 hown hK hP 0 rfl rfl 17 (by decide) (hts _ uw_X10_fox_f261) (fun _ h9 => h9) rfl (dt_of tkX10_fox_k0 11 rfl) ?_
    refine lv_iconst (v := 1) hx hb (dt_of tkX10_fox_k0 12 rfl) (by decide) ?_
    refine lv_iadd hx hb (dt_of tkX10_fox_k0 13 rfl) ?_
    refine lv_topi (fun x7 ex7 => ?_)
    have hw := hw x7 ex7
    refine va_put (D := (dC, dI)) (ci := 10) (v := .int x7) (ty := .int) (C := RX10) (T := TX10) (N := 19) hx hb hts ui_X10_fox_X10 tyX10 tyX10_ok nmX10 hown hK hP hD hS 0 rfl rfl 17 (by decide) (hts _ uw_X10_fox_f261) (fun _ h9 => h9) rfl (by decide +kernel) rfl rfl (Nat.le_of_ble_eq_true rfl) (dt_of tkX10_fox_k0 14 rfl) (fun H locs hP hD hS => ?_)
    have hP : va_P (dC, dI) vwCl (wd02_31 a0 jaK jaR ja1 jcp jbc jbV ja3 jbH ja2 jbO jaq jac jbI jbl jbn jba jaa x7 jbz jaR jcB jcC jmu jmt jbk jbj jbe jbq jef jgP jls jcd jmt cyI jnF jmu cyI jnG) H := hP
    have hD : va_D A (wd02_31 a0 jaK jaR ja1 jcp jbc jbV ja3 jbH ja2 jbO jaq jac jbI jbl jbn jba jaa x7 jbz jaR jcB jcC jmu jmt jbk jbj jbe jbq jef jgP jls jcd jmt cyI jnF jmu cyI jnG) := hD
    obtain ⟨sa9, hsa9⟩ := hY.2.2.2.2.1 _ (List.mem_of_getElem? (i := 2) rfl)
    exact ux_throwSW hx hb hY.1 (own := RX10) (cls := "java/util/NoSuchElementException") (names := ["java/lang/RuntimeException", "java/lang/Exception"]) (ik := 264) (is := 266) (ic := 268) (rx := ux_rx) (by decide +kernel) (by decide +kernel) (by decide +kernel) (by decide +kernel) hown (by decide +kernel) (by decide +kernel) (hts _ uw_X10_fox_cl264) (hts _ uw_X10_fox_ini264) hsa9 (vx_hat (fun w hw9 => hts w (uh_X10_fox_268 w hw9)) ub_X10_fox_268 (xB_use hY.2.2.2.1)) ug_X10_fox_268 hY.2.1 hY.2.2.1 hS (by rw [hml]; exact hl.1) (dt_of tkX10_fox_k0 15 rfl) (dt_of tkX10_fox_k30 0 rfl) (dt_of tkX10_fox_k30 1 rfl) (dt_of tkX10_fox_k30 2 rfl) (dt_of tkX10_fox_k30 3 rfl) (fun x hx9 => (hXs.1 x hx9).elim) (Nat.le_of_ble_eq_true rfl) (Nat.le_of_ble_eq_true rfl) (Nat.le_of_ble_eq_true rfl) (Nat.le_of_ble_eq_true rfl) hlocks (fun t hal hsz9 hq9 => ⟨(jbz, x7), trivial, ⟨hw, hP.kept (fun k q hk9 => hq9 _ ((hP k q hk9).lt)), va_K.moved hal hK, hD⟩, xt_frame hS hsz9 hq9⟩) hS.2.2 (Nat.le_of_ble_eq_true rfl) (Nat.le_of_ble_eq_true rfl)
theorem uw_L_fox_ct13 : (.classLink RL 13 "java/lang/IllegalArgumentException" : Cond) ∈ wsL_fox := mbL_fox 595 (by decide +kernel)
theorem uw_L_fox_ct31 : (.classLink RL 31 "java/util/NoSuchElementException" : Cond) ∈ wsL_fox := mbL_fox 2639 (by decide +kernel)
theorem uw_L_fox_cw : (.codeWith yL_fox cL_fox 5 (some .int) [(0, 10, 13, 31), (0, 10, 17, 13)] : Cond) ∈ wsL_fox := mbL_fox 2773 (by decide +kernel)
set_option maxHeartbeats 4000000 in
set_option maxRecDepth 100000 in
theorem ck_L_fox (l : Launch) (dC : Nat → ClassId) (dI : Nat → Nat → Nat) (cyB cyI cyJ cyP : ClassId) (a0 a3 jaR jmt jmu sz : Nat) (jaK ja1 jcp jbc jbV ja3 jbH ja2 jbO jaq jac jbI jbl jbn jba jaa jcB jcC jbk jbj jbe jbq jef jgP jcd : Value) (n3 : Nat) (jls : Int32) (jnF jnG : Nat → Int32) (jbz jdu : Int32) (f3 : Nat → Int64) (p1 p2 : Int32) {Q : Int32 → Int32 → Int32 → (Nat → Int64) → Prop} (hw : wq_L_fox n3 jls jnF jnG jbz jdu f3 p1 p2 Q) : Met l yL_fox wsL_fox ({ frames := 9, cells := 1, slots := 6, locals := 186 }) (va_Pc [.ref a0, .int p1, .int p2, .ref a3] (cPx l (dC, dI) (kT cyB cyI cyJ cyP) (wd02_34 a0 jaK jaR ja1 jcp jbc jbV ja3 jbH ja2 jbO jaq jac jbI jbl jbn jba jaa jdu jbz jaR jcB jcC jmu jmt jbk jbj jbe jbq jef jgP jls jcd jmt cyI jnF jmu cyI jnG a3 cyJ n3 f3) sz)) (va_Qi (fun (r : Int32) (u : Int32 × Int32 × (Nat → Int64)) => Q r u.1 u.2.1 u.2.2) (cB (dC, dI) (kT cyB cyI cyJ cyP) (va_A (wd02_34 a0 jaK jaR ja1 jcp jbc jbV ja3 jbH ja2 jbO jaq jac jbI jbl jbn jba jaa jdu jbz jaR jcB jcC jmu jmt jbk jbj jbe jbq jef jgP jls jcd jmt cyI jnF jmu cyI jnG a3 cyJ n3 f3) sz) (fun u : Int32 × Int32 × (Nat → Int64) => ((wd02_34 a0 jaK jaR ja1 jcp jbc jbV ja3 jbH ja2 jbO jaq jac jbI jbl jbn jba jaa u.2.1 u.1 jaR jcB jcC jmu jmt jbk jbj jbe jbq jef jgP jls jcd jmt cyI jnF jmu cyI jnG a3 cyJ n3 u.2.2) : va_W))) (va_A (wd02_34 a0 jaK jaR ja1 jcp jbc jbV ja3 jbH ja2 jbO jaq jac jbI jbl jbn jba jaa jdu jbz jaR jcB jcC jmu jmt jbk jbj jbe jbq jef jgP jls jcd jmt cyI jnF jmu cyI jnG a3 cyJ n3 f3) sz)) 1 6 (va_A (wd02_34 a0 jaK jaR ja1 jcp jbc jbV ja3 jbH ja2 jbO jaq jac jbI jbl jbn jba jaa jdu jbz jaR jcB jcC jmu jmt jbk jbj jbe jbq jef jgP jls jcd jmt cyI jnF jmu cyI jnG a3 cyJ n3 f3) sz) := by
  refine va_MetW (cc := cL_fox) (maxL := 5) (ret := (some .int)) (by decide) rfl ?_
  intro p e s m args below meth c s₁ B hml hv
  obtain ⟨rfl, hsz, hP, hK, hD0, hNw, hXl, hXu, hXn, hXt⟩ := hv
  have hx := B.exec
  have hb := B.bytes
  have hr := B.returns
  have hts := atoms_spec (ws := wsL_fox) B.pre
  have hown : s.vm.findClass RL = some m.cls := findClass_of_methodNamed B.named
  have hlocks := B.notSynchronized
  subst hsz
  have hD := hD0.self (sz := s.heap.size)
  generalize hAe : va_A (wd02_34 a0 jaK jaR ja1 jcp jbc jbV ja3 jbH ja2 jbO jaq jac jbI jbl jbn jba jaa jdu jbz jaR jcB jcC jmu jmt jbk jbj jbe jbq jef jgP jls jcd jmt cyI jnF jmu cyI jnG a3 cyJ n3 f3) s.heap.size = A at hD hXu hXn ⊢
  have hA : ∀ q : Nat, s.heap.size ≤ q → A q := fun q h => by rw [← hAe]; exact Or.inr h
  have hS : va_S A s.heap s.heap [] := va_S.rf
  have hP : va_P (dC, dI) vwCl (wd02_34 a0 jaK jaR ja1 jcp jbc jbV ja3 jbH ja2 jbO jaq jac jbI jbl jbn jba jaa jdu jbz jaR jcB jcC jmu jmt jbk jbj jbe jbq jef jgP jls jcd jmt cyI jnF jmu cyI jnG a3 cyJ n3 f3) s.heap := hP
  have hl := lv_entry ([.ref a0, .int p1, .int p2, .ref a3]) (n := 5) (Nat.le_of_ble_eq_true rfl)
  rw [lg_entry_eq]
  generalize (lg_sl ([.ref a0, .int p1, .int p2, .ref a3]) ++ List.replicate (5 - (lg_sl ([.ref a0, .int p1, .int p2, .ref a3])).length) Slot.unset).toArray = ls at hl ⊢
  have hl : lv_has ls 5 [(0, .ref a0), (1, .int p1), (2, .int p2), (3, .ref a3)] := hl
  have hY : cfY l s A := ⟨hXl, hXu, hXn, hXt⟩
  have hTb := vx_table (x := yL_fox) B (hts _ uw_L_fox_cw)
  clear hAe
  obtain ⟨H, hH⟩ : ∃ H, H = s.heap := ⟨_, rfl⟩
  rw [← hH] at hP ⊢
  have hS : va_S A s.heap H [] := by rw [hH]; exact va_S.rf
  have hS := hS
  refine lv_aload_n hx hb (dt_of tkL_fox_k0 0 rfl) rfl (lv_at hl 3 rfl) ?_
  refine lv_iconst (v := 0) hx hb (dt_of tkL_fox_k0 1 rfl) (by decide) ?_
  refine lv_aload_n hx hb (dt_of tkL_fox_k0 2 rfl) rfl (lv_at hl 0 rfl) ?_
  refine lv_iload_n hx hb (dt_of tkL_fox_k0 3 rfl) rfl (lv_at hl 1 rfl) ?_
  refine lv_iload_n hx hb (dt_of tkL_fox_k0 4 rfl) rfl (lv_at hl 2 rfl) ?_
  obtain ⟨hCc, hPc, hDc, hFc⟩ := va_pick (ws' := (wd02_31 a0 jaK jaR ja1 jcp jbc jbV ja3 jbH ja2 jbO jaq jac jbI jbl jbn jba jaa jdu jbz jaR jcB jcC jmu jmt jbk jbj jbe jbq jef jgP jls jcd jmt cyI jnF jmu cyI jnG)) hP hD hS hA [0, 1, 2, 3] (by decide +kernel) rfl
  refine vx_calli (vx_runV (As := [.int p1, .int p2]) (rest := [.int 0, .ref a3]) ⟨hx, hb, hml, hown, hts⟩ (ck_X10_fox l dC dI cyB cyI cyJ cyP a0 jaR jmt jmu H.size (jaK) (ja1) (jcp) (jbc) (jbV) (ja3) (jbH) (ja2) (jbO) (jaq) (jac) (jbI) (jbl) (jbn) (jba) (jaa) (jcB) (jcC) (jbk) (jbj) (jbe) (jbq) (jef) (jgP) (jcd) jls jnF jnG jbz jdu p1 p2 hw) (cwV 2 hts gL_fox_X10_fox rfl rfl rfl (by decide +kernel) ⟨Nat.le_of_ble_eq_true rfl, Nat.le_of_ble_eq_true rfl⟩) ⟨cPx_blind, va_recv (q := (RX10, TX10, 19)) hK hPc (ci := 10) (q0 := 0) rfl rfl, cPx_pre hPc hK hDc hNw hY hS hFc⟩ rfl rfl hl.1 rfl (lv_room (Nat.le_of_ble_eq_true rfl)) (dt_of tkL_fox_k0 5 rfl) ⟨Nat.le_of_ble_eq_true rfl, Nat.le_of_ble_eq_true rfl⟩) hS (fun q _ h => hFc q h) hFc (fun q _ h => hFc q h) (fun en ce qx9 u t H1 locs ht hvm hpx hB hz1 hk1 hS hc9 hv9 hcl9 => ?_) (fun r3 u t H1 locs ht hvm hw hB hz1 hk1 hS => ?_)
  · obtain ⟨x1, x2⟩ := u
    obtain ⟨hw, hP1, hK1, hD1⟩ := hB
    rw [ht] at hP1
    obtain ⟨hP, hD⟩ := va_joinN (wr := [(a3, .inl (cyJ, n3, .inr (.inl f3)))]) (w1 := (wd02_31 a0 jaK jaR ja1 jcp jbc jbV ja3 jbH ja2 jbO jaq jac jbI jbl jbn jba jaa x2 x1 jaR jcB jcC jmu jmt jbk jbj jbe jbq jef jgP jls jcd jmt cyI jnF jmu cyI jnG)) (wn := (wd02_34 a0 jaK jaR ja1 jcp jbc jbV ja3 jbH ja2 jbO jaq jac jbI jbl jbn jba jaa x2 x1 jaR jcB jcC jmu jmt jbk jbj jbe jbq jef jgP jls jcd jmt cyI jnF jmu cyI jnG a3 cyJ n3 f3)) hP hD [0, 1, 2, 3] [4] [1, 2, 3, 4, 0] hCc rfl (by decide +kernel) (by decide +kernel) (by decide +kernel) rfl hk1 hFc hP1 hD1
    generalize H1 = H at hP hS hc9 ⊢
    rcases hw with ⟨rfl, hw⟩ | ⟨rfl, hw⟩
    · refine vx_catch (own := RL) (name := "java/util/NoSuchElementException") hown [] ⟨0, 10, 13, 31⟩ [⟨0, 10, 17, 13⟩] (hTb.trans rfl) (fun z hz => nomatch hz) (by decide) (by decide) (hts _ uw_L_fox_ct31) (va_Nw.use rfl (hY.2.2.2.1.2 _ (List.mem_of_getElem? (i := 1) rfl))) hc9 hv9 hcl9 ?_
      refine lv_astore (lv' := [(4, .ref qx9), (0, .ref a0), (1, .int p1), (2, .int p2), (3, .ref a3)]) hx hb (dt_of tkL_fox_k0 9 rfl) hl (by decide) rfl (fun ls hl => ?_)
      refine lv_iconst (v := 1) hx hb (dt_of tkL_fox_k0 10 rfl) (by decide) ?_
      exact (W.widen (k := 1) (n := 6) (Nat.le_of_ble_eq_true rfl) (Nat.le_of_ble_eq_true rfl) (W.iret (v := 1) hx hb hr (fun t ht hW => ⟨⟨1, (x1, x2, f3), rfl, hw, by rw [ht]; exact hP, va_K.moved hW.alike hK, hD⟩, hS.F ht⟩) hS.2.2 (dt_of tkL_fox_k0 11 rfl)))
    · refine vx_catch (own := RL) (name := "java/lang/IllegalArgumentException") hown [⟨0, 10, 13, 31⟩] ⟨0, 10, 17, 13⟩ [] (hTb.trans rfl) (fun z hz => by rw [List.mem_singleton.mp hz]; exact Or.inr ⟨by decide, _, (hts _ uw_L_fox_ct31), hY.2.2.2.2.2⟩) (by decide) (by decide) (hts _ uw_L_fox_ct13) (va_Nw.use rfl (hY.2.2.2.1.2 _ (List.mem_of_getElem? (i := 0) rfl))) hc9 hv9 hcl9 ?_
      refine lv_astore (lv' := [(4, .ref qx9), (0, .ref a0), (1, .int p1), (2, .int p2), (3, .ref a3)]) hx hb (dt_of tkL_fox_k0 12 rfl) hl (by decide) rfl (fun ls hl => ?_)
      refine lv_iconst (v := 2) hx hb (dt_of tkL_fox_k0 13 rfl) (by decide) ?_
      exact (W.widen (k := 1) (n := 6) (Nat.le_of_ble_eq_true rfl) (Nat.le_of_ble_eq_true rfl) (W.iret (v := 2) hx hb hr (fun t ht hW => ⟨⟨2, (x1, x2, f3), rfl, hw, by rw [ht]; exact hP, va_K.moved hW.alike hK, hD⟩, hS.F ht⟩) hS.2.2 (dt_of tkL_fox_k0 14 rfl)))
  obtain ⟨x1, x2⟩ := u
  obtain ⟨hP1, hK1, hD1⟩ := hB
  rw [ht] at hP1
  obtain ⟨hP, hD⟩ := va_join (wr := [(a3, .inl (cyJ, n3, .inr (.inl f3)))]) (w1 := (wd02_31 a0 jaK jaR ja1 jcp jbc jbV ja3 jbH ja2 jbO jaq jac jbI jbl jbn jba jaa x2 x1 jaR jcB jcC jmu jmt jbk jbj jbe jbq jef jgP jls jcd jmt cyI jnF jmu cyI jnG)) hP hD [0, 1, 2, 3] [4] rfl rfl (by decide) (by decide) hk1 hFc hP1 hD1
  have hP : va_P (dC, dI) vwCl (wd02_34 a0 jaK jaR ja1 jcp jbc jbV ja3 jbH ja2 jbO jaq jac jbI jbl jbn jba jaa x2 x1 jaR jcB jcC jmu jmt jbk jbj jbe jbq jef jgP jls jcd jmt cyI jnF jmu cyI jnG a3 cyJ n3 f3) H1 := hP.sub [1, 2, 3, 4, 0] rfl
  have hD : va_D A (wd02_34 a0 jaK jaR ja1 jcp jbc jbV ja3 jbH ja2 jbO jaq jac jbI jbl jbn jba jaa x2 x1 jaR jcB jcC jmu jmt jbk jbj jbe jbq jef jgP jls jcd jmt cyI jnF jmu cyI jnG a3 cyJ n3 f3) := hD.sub [1, 2, 3, 4, 0] (by decide) rfl
  generalize H1 = H at hP hS ⊢
  refine lv_i2l (v := r3.toInt64) hx hb (dt_of tkL_fox_k0 6 rfl) rfl ?_
  refine lv_topl (fun x4 ex4 => ?_)
  have hw := hw x4 ex4
  obtain ⟨hi9, hw⟩ := hw
  refine va_last hx hb hK hP hD hS 4 2 rfl rfl hi9 (dt_of tkL_fox_k0 7 rfl) (fun H locs hP hD hS => ?_)
  obtain ⟨f5, ef5⟩ : ∃ y : Nat → Int64, y = vp_updL f3 (0 : Int32).toNatClampNeg x4 := ⟨_, rfl⟩
  have hw := hw f5 ef5
  have hP : va_P (dC, dI) vwCl (wd02_34 a0 jaK jaR ja1 jcp jbc jbV ja3 jbH ja2 jbO jaq jac jbI jbl jbn jba jaa x2 x1 jaR jcB jcC jmu jmt jbk jbj jbe jbq jef jgP jls jcd jmt cyI jnF jmu cyI jnG a3 cyJ n3 f5) H := by rw [ef5]; exact hP
  have hD : va_D A (wd02_34 a0 jaK jaR ja1 jcp jbc jbV ja3 jbH ja2 jbO jaq jac jbI jbl jbn jba jaa x2 x1 jaR jcB jcC jmu jmt jbk jbj jbe jbq jef jgP jls jcd jmt cyI jnF jmu cyI jnG a3 cyJ n3 f5) := by rw [ef5]; exact hD
  refine lv_goto (tgt := 21) hx hb (dt_of tkL_fox_k0 8 rfl) (by decide) ?_
  refine lv_iconst (v := 0) hx hb (dt_of tkL_fox_k0 15 rfl) (by decide) ?_
  exact (W.widen (k := 1) (n := 6) (Nat.le_of_ble_eq_true rfl) (Nat.le_of_ble_eq_true rfl) (W.iret (v := 0) hx hb hr (fun t ht hW => ⟨⟨0, (x1, x2, f5), rfl, hw, by rw [ht]; exact hP, va_K.moved hW.alike hK, hD⟩, hS.F ht⟩) hS.2.2 (dt_of tkL_fox_k22 0 rfl)))
theorem tsw_0_6 {x : Int32} (h : ¬ (x.toInt < 0 ∨ 6 < x.toInt)) : x = 0 ∨ x = 1 ∨ x = 2 ∨ x = 3 ∨ x = 4 ∨ x = 5 ∨ x = 6 := by
  obtain ⟨j, hj, e⟩ := nI_of (x := x) (fun h0 => h (Or.inl (Int.lt_of_lt_of_le (by simpa using (Int32.lt_iff_toInt_lt.mp h0)) (by decide : (0 : Int) ≤ 0))))
  have h2 : (j : Int) ≤ 6 ∧ 0 ≤ (j : Int) := by
    have := nI_toInt hj
    rw [e] at h
    omega
  have h3 : j = 0 ∨ j = 1 ∨ j = 2 ∨ j = 3 ∨ j = 4 ∨ j = 5 ∨ j = 6 := by omega
  rw [e]
  rcases h3 with rfl | rfl | rfl | rfl | rfl | rfl | rfl <;> decide
theorem ui_X10_hare_X10 : ∀ w ∈ u_ws RX10 TX10 19, w ∈ wsX10_hare := uiM mbX10_hare euX10 (by decide +kernel)
theorem ui_X10_hare_X2 : ∀ w ∈ u_ws RX2 TX2 12, w ∈ wsX10_hare := uiM mbX10_hare euX2 (by decide +kernel)
theorem uw_X10_hare_f19 : (.fieldLink RX10 19 "MarchHares" "ground" "LMarchHares$Down;" : Cond) ∈ wsX10_hare := mbX10_hare 20 (by decide +kernel)
theorem uw_X10_hare_f239 : (.fieldLink RX10 239 "MarchHares$Down" "strength" "[I" : Cond) ∈ wsX10_hare := mbX10_hare 2710 (by decide +kernel)
theorem uw_X10_hare_f58 : (.fieldLink RX10 58 "MarchHares" "now" "LMarchHares$Days;" : Cond) ∈ wsX10_hare := mbX10_hare 79 (by decide +kernel)
set_option maxHeartbeats 4000000 in
set_option maxRecDepth 100000 in
theorem ck_X10_hare (l : Launch) (dC : Nat → ClassId) (dI : Nat → Nat → Nat) (cyB cyI cyJ cyP : ClassId) (a0 jaR jaT jbb jb6 jcc jck jbW jbL jcF sz : Nat) (jaK ja1 jcp jbc jbV ja3 jbH jbO jaq jac jbI jbl jbn jba jaa jcB jcC jbo jbp jbk jbe jbq jef jbi jcd jbr : Value) (jbm : Int32) (jbQ : Nat → Int32) (jdh : Int32) (jdN jdi jfQ : Nat → Int32) (jdu jbz : Int32) (jfl jfK : Nat → Int32) (p1 p2 : Int32) {E : String → Int32 → Int32 → (Nat → Int32) → (Nat → Int32) → Prop} {Q : Int32 → Int32 → Int32 → (Nat → Int32) → (Nat → Int32) → Prop} (hw : wq_X10_hare jbm jbQ jdh jdN jdi jfQ jdu jbz jfl jfK p1 p2 E Q) : vx_Met l yX10_hare wsX10_hare ({ frames := 8, cells := 2, slots := 12, locals := 164 }) (va_Pc [.ref a0, .int p1, .int p2] (cPx l (dC, dI) (kT cyB cyI cyJ cyP) (wd02_35 a0 jaK jaR ja1 jcp jbc jbV ja3 jbH jaT jbO jaq jac jbI jbl jbn jba jaa jdu jbz jaR jcB jcC jbo jbp jbk jcF jbe jbq jef jbm jbi jcd jaT jbb jbr jaR jb6 jbb cyI jbQ jb6 jbW jbL jck jcc jdh jcc cyI jfl jck cyI jfK jbW cyI jdN jbL cyI jdi jcF cyI jfQ) sz)) (va_Qi (fun (r : Int32) (u : Int32 × Int32 × (Nat → Int32) × (Nat → Int32)) => Q r u.1 u.2.1 u.2.2.1 u.2.2.2) (cB (dC, dI) (kT cyB cyI cyJ cyP) (va_A (wd02_35 a0 jaK jaR ja1 jcp jbc jbV ja3 jbH jaT jbO jaq jac jbI jbl jbn jba jaa jdu jbz jaR jcB jcC jbo jbp jbk jcF jbe jbq jef jbm jbi jcd jaT jbb jbr jaR jb6 jbb cyI jbQ jb6 jbW jbL jck jcc jdh jcc cyI jfl jck cyI jfK jbW cyI jdN jbL cyI jdi jcF cyI jfQ) sz) (fun u : Int32 × Int32 × (Nat → Int32) × (Nat → Int32) => ((wd02_35 a0 jaK jaR ja1 jcp jbc jbV ja3 jbH jaT jbO jaq jac jbI jbl jbn jba jaa u.1 u.2.1 jaR jcB jcC jbo jbp jbk jcF jbe jbq jef jbm jbi jcd jaT jbb jbr jaR jb6 jbb cyI jbQ jb6 jbW jbL jck jcc jdh jcc cyI u.2.2.1 jck cyI u.2.2.2 jbW cyI jdN jbL cyI jdi jcF cyI jfQ) : va_W))) (va_A (wd02_35 a0 jaK jaR ja1 jcp jbc jbV ja3 jbH jaT jbO jaq jac jbI jbl jbn jba jaa jdu jbz jaR jcB jcC jbo jbp jbk jcF jbe jbq jef jbm jbi jcd jaT jbb jbr jaR jb6 jbb cyI jbQ jb6 jbW jbL jck jcc jdh jcc cyI jfl jck cyI jfK jbW cyI jdN jbL cyI jdi jcF cyI jfQ) sz)) (vx_X (fun _ => True) (fun (en : String) (u : Int32 × Int32 × (Nat → Int32) × (Nat → Int32)) (t : State) => E en u.1 u.2.1 u.2.2.1 u.2.2.2 ∧ cB (dC, dI) (kT cyB cyI cyJ cyP) (va_A (wd02_35 a0 jaK jaR ja1 jcp jbc jbV ja3 jbH jaT jbO jaq jac jbI jbl jbn jba jaa jdu jbz jaR jcB jcC jbo jbp jbk jcF jbe jbq jef jbm jbi jcd jaT jbb jbr jaR jb6 jbb cyI jbQ jb6 jbW jbL jck jcc jdh jcc cyI jfl jck cyI jfK jbW cyI jdN jbL cyI jdi jcF cyI jfQ) sz) (fun u : Int32 × Int32 × (Nat → Int32) × (Nat → Int32) => ((wd02_35 a0 jaK jaR ja1 jcp jbc jbV ja3 jbH jaT jbO jaq jac jbI jbl jbn jba jaa u.1 u.2.1 jaR jcB jcC jbo jbp jbk jcF jbe jbq jef jbm jbi jcd jaT jbb jbr jaR jb6 jbb cyI jbQ jb6 jbW jbL jck jcc jdh jcc cyI u.2.2.1 jck cyI u.2.2.2 jbW cyI jdN jbL cyI jdi jcF cyI jfQ) : va_W)) u t) (va_A (wd02_35 a0 jaK jaR ja1 jcp jbc jbV ja3 jbH jaT jbO jaq jac jbI jbl jbn jba jaa jdu jbz jaR jcB jcC jbo jbp jbk jcF jbe jbq jef jbm jbi jcd jaT jbb jbr jaR jb6 jbb cyI jbQ jb6 jbW jbL jck jcc jdh jcc cyI jfl jck cyI jfK jbW cyI jdN jbL cyI jdi jcF cyI jfQ) sz)) 2 12 (va_A (wd02_35 a0 jaK jaR ja1 jcp jbc jbV ja3 jbH jaT jbO jaq jac jbI jbl jbn jba jaa jdu jbz jaR jcB jcC jbo jbp jbk jcF jbe jbq jef jbm jbi jcd jaT jbb jbr jaR jb6 jbb cyI jbQ jb6 jbW jbL jck jcc jdh jcc cyI jfl jck cyI jfK jbW cyI jdN jbL cyI jdi jcF cyI jfQ) sz) := by
  refine vx_ofW (cc := cX10_hare) (maxL := 3) (ret := (some .int)) (by decide) rfl ?_
  intro p e s m args below meth c s₁ B hml hnt hv
  obtain ⟨rfl, hsz, hP, hK, hD0, hNw, hXl, hXu, hXn, hXt⟩ := hv
  have hx := B.exec
  have hb := B.bytes
  have hr := B.returns
  have hts := atoms_spec (ws := wsX10_hare) B.pre
  have hown : s.vm.findClass RX10 = some m.cls := findClass_of_methodNamed B.named
  have hlocks := B.notSynchronized
  subst hsz
  have hD := hD0.self (sz := s.heap.size)
  generalize hAe : va_A (wd02_35 a0 jaK jaR ja1 jcp jbc jbV ja3 jbH jaT jbO jaq jac jbI jbl jbn jba jaa jdu jbz jaR jcB jcC jbo jbp jbk jcF jbe jbq jef jbm jbi jcd jaT jbb jbr jaR jb6 jbb cyI jbQ jb6 jbW jbL jck jcc jdh jcc cyI jfl jck cyI jfK jbW cyI jdN jbL cyI jdi jcF cyI jfQ) s.heap.size = A at hD hXu hXn ⊢
  have hA : ∀ q : Nat, s.heap.size ≤ q → A q := fun q h => by rw [← hAe]; exact Or.inr h
  have hS : va_S A s.heap s.heap [] := va_S.rf
  have hP : va_P (dC, dI) vwCl (wd02_35 a0 jaK jaR ja1 jcp jbc jbV ja3 jbH jaT jbO jaq jac jbI jbl jbn jba jaa jdu jbz jaR jcB jcC jbo jbp jbk jcF jbe jbq jef jbm jbi jcd jaT jbb jbr jaR jb6 jbb cyI jbQ jb6 jbW jbL jck jcc jdh jcc cyI jfl jck cyI jfK jbW cyI jdN jbL cyI jdi jcF cyI jfQ) s.heap := hP
  have hl := lv_entry ([.ref a0, .int p1, .int p2]) (n := 3) (Nat.le_of_ble_eq_true rfl)
  rw [lg_entry_eq]
  generalize (lg_sl ([.ref a0, .int p1, .int p2]) ++ List.replicate (3 - (lg_sl ([.ref a0, .int p1, .int p2])).length) Slot.unset).toArray = ls at hl ⊢
  have hl : lv_has ls 3 [(0, .ref a0), (1, .int p1), (2, .int p2)] := hl
  have hY : cfY l s A := ⟨hXl, hXu, hXn, hXt⟩
  have hXs : cfX l s c A := ⟨hnt, hY⟩
  have C0 : cfx p s m _ meth c cX10_hare (some .int) wsX10_hare RX10 3 A (dC, dI) (kT cyB cyI cyJ cyP) ∧ cfX l s c A := ⟨⟨hx, hb, hr, hts, hown, hlocks, hml, hA, hK, hNw⟩, hXs⟩
  clear hAe
  obtain ⟨H, hH⟩ : ∃ H, H = s.heap := ⟨_, rfl⟩
  rw [← hH] at hP ⊢
  have hS : va_S A s.heap H [] := by rw [hH]; exact va_S.rf
  have hS := hS
  refine lv_aload_n hx hb (dt_of tkX10_hare_k0 0 rfl) rfl (lv_at hl 0 rfl) ?_
  refine lv_iload_n hx hb (dt_of tkX10_hare_k0 1 rfl) rfl (lv_at hl 1 rfl) ?_
  obtain ⟨hCc, hPc, hDc, hFc⟩ := va_pick (ws' := (wd02_36 a0 jaK jaR ja1 jcp jbc jbV ja3 jbH jaT jbO jaq jac jbI jbl jbn jba jaa jdu jbz jaR jcB jcC jbo jbp jbk jcF jbe jbq jef jbm jbi jcd)) hP hD hS hA [0, 1] (by decide +kernel) rfl
  refine vx_callv (vx_runV (As := [.int p1]) (rest := []) ⟨hx, hb, hml, hown, hts⟩ (ck_X10_needHare l dC dI cyB cyI cyJ cyP a0 jaR H.size (jaK) (ja1) (jcp) (jbc) (jbV) (ja3) (jbH) (.ref jaT) (jbO) (jaq) (jac) (jbI) (jbl) (jbn) (jba) (jaa) (.int jbz) (jcB) (jcC) (jbo) (jbp) (jbk) (.ref jcF) (jbe) (jbq) (jef) (jbi) (jcd) jbm jdu p1 hw) (cwV 1 hts gX10_hare_X10_needHare rfl rfl rfl (by decide +kernel) ⟨Nat.le_of_ble_eq_true rfl, Nat.le_of_ble_eq_true rfl⟩) ⟨cPx_blind, va_recv (q := (RX10, TX10, 19)) hK hPc (ci := 10) (q0 := 0) rfl rfl, cPx_pre hPc hK hDc hNw hY hS hFc⟩ rfl rfl hl.1 rfl (lv_room (Nat.le_of_ble_eq_true rfl)) (dt_of tkX10_hare_k0 2 rfl) ⟨Nat.le_of_ble_eq_true rfl, Nat.le_of_ble_eq_true rfl⟩) hS (fun q _ h => hFc q h) hFc (fun q _ h => hFc q h) (fun en ce q9 u t H1 locs ht hvm hpx hB hz1 hk1 hS hc9 hv9 hcl9 => ?_) (fun u t H1 locs ht hvm hw hB hz1 hk1 hS => ?_)
  · obtain ⟨x1, rfl⟩ : ∃ z, z = u := ⟨_, rfl⟩
    obtain ⟨hw, hP1, hK1, hD1⟩ := hB
    rw [ht] at hP1
    obtain ⟨hP, hD⟩ := va_joinN (wr := (wd02_37 jaT jbb jbr jaR jb6 jbb cyI jbQ jb6 jbW jbL jck jcc jdh jcc cyI jfl jck cyI jfK jbW cyI jdN jbL cyI jdi jcF cyI jfQ)) (w1 := (wd02_36 a0 jaK jaR ja1 jcp jbc jbV ja3 jbH jaT jbO jaq jac jbI jbl jbn jba jaa x1 jbz jaR jcB jcC jbo jbp jbk jcF jbe jbq jef jbm jbi jcd)) (wn := (wd02_35 a0 jaK jaR ja1 jcp jbc jbV ja3 jbH jaT jbO jaq jac jbI jbl jbn jba jaa x1 jbz jaR jcB jcC jbo jbp jbk jcF jbe jbq jef jbm jbi jcd jaT jbb jbr jaR jb6 jbb cyI jbQ jb6 jbW jbL jck jcc jdh jcc cyI jfl jck cyI jfK jbW cyI jdN jbL cyI jdi jcF cyI jfQ)) hP hD [0, 1] [2, 3, 4, 5, 6, 7, 8, 9] [8, 9, 0, 1, 2, 3, 4, 5, 6, 7] hCc rfl (by decide +kernel) (by decide +kernel) (by decide +kernel) rfl hk1 hFc hP1 hD1
    generalize H1 = H at hP hS hc9 ⊢
    exact vx_out (fun x hx9 => (hXs.1 x hx9).elim) hlocks hc9 hv9 hcl9 (fun t2 ht2 hal2 => ⟨(x1, jbz, jfl, jfK), trivial, ⟨hw, by rw [ht2]; exact hP, va_K.moved hal2 hK, hD⟩, hS.F ht2⟩) hS.2.2 (Nat.le_of_ble_eq_true rfl) (Nat.le_of_ble_eq_true rfl)
  obtain ⟨x1, rfl⟩ : ∃ z, z = u := ⟨_, rfl⟩
  obtain ⟨hP1, hK1, hD1⟩ := hB
  rw [ht] at hP1
  obtain ⟨hP, hD⟩ := va_joinN (wr := (wd02_37 jaT jbb jbr jaR jb6 jbb cyI jbQ jb6 jbW jbL jck jcc jdh jcc cyI jfl jck cyI jfK jbW cyI jdN jbL cyI jdi jcF cyI jfQ)) (w1 := (wd02_36 a0 jaK jaR ja1 jcp jbc jbV ja3 jbH jaT jbO jaq jac jbI jbl jbn jba jaa x1 jbz jaR jcB jcC jbo jbp jbk jcF jbe jbq jef jbm jbi jcd)) (wn := (wd02_35 a0 jaK jaR ja1 jcp jbc jbV ja3 jbH jaT jbO jaq jac jbI jbl jbn jba jaa x1 jbz jaR jcB jcC jbo jbp jbk jcF jbe jbq jef jbm jbi jcd jaT jbb jbr jaR jb6 jbb cyI jbQ jb6 jbW jbL jck jcc jdh jcc cyI jfl jck cyI jfK jbW cyI jdN jbL cyI jdi jcF cyI jfQ)) hP hD [0, 1] [2, 3, 4, 5, 6, 7, 8, 9] [8, 9, 0, 1, 2, 3, 4, 5, 6, 7] hCc rfl (by decide +kernel) (by decide +kernel) (by decide +kernel) rfl hk1 hFc hP1 hD1
  generalize H1 = H at hP hS ⊢
  refine lv_aload_n hx hb (dt_of tkX10_hare_k0 3 rfl) rfl (lv_at hl 0 rfl) ?_
  refine lv_iload_n hx hb (dt_of tkX10_hare_k0 4 rfl) rfl (lv_at hl 2 rfl) ?_
  refine lv_iconst (v := 0) hx hb (dt_of tkX10_hare_k0 5 rfl) (by decide) ?_
  refine lv_bipush (v := 7) hx hb (dt_of tkX10_hare_k0 6 rfl) (by decide) ?_
  obtain ⟨hCc, hPc, hDc, hFc⟩ := va_pick (ws' := (wd02_26 a0 jaK jaR ja1 jcp jbc jbV ja3 jbH jaT jbO jaq jac jbI jbl jbn jba jaa x1 jbz)) hP hD hS hA [0] (by decide +kernel) rfl
  refine vx_callv (vx_runV (As := [.int p2, .int 0, .int 7]) (rest := []) ⟨hx, hb, hml, hown, hts⟩ (ck_X10_needWithin l dC dI cyB cyI cyJ cyP a0 H.size (jaK) (.ref jaR) (ja1) (jcp) (jbc) (jbV) (ja3) (jbH) (.ref jaT) (jbO) (jaq) (jac) (jbI) (jbl) (jbn) (jba) (jaa) (.int x1)  jbz p2 0 7 hw) (cwV 3 hts gX10_hare_X10_needWithin rfl rfl rfl (by decide +kernel) ⟨Nat.le_of_ble_eq_true rfl, Nat.le_of_ble_eq_true rfl⟩) ⟨cPx_blind, va_recv (q := (RX10, TX10, 19)) hK hPc (ci := 10) (q0 := 0) rfl rfl, cPx_pre hPc hK hDc hNw hY hS hFc⟩ rfl rfl hl.1 rfl (lv_room (Nat.le_of_ble_eq_true rfl)) (dt_of tkX10_hare_k0 7 rfl) ⟨Nat.le_of_ble_eq_true rfl, Nat.le_of_ble_eq_true rfl⟩) hS (fun q _ h => hFc q h) hFc (fun q _ h => hFc q h) (fun en ce q9 u t H1 locs ht hvm hpx hB hz1 hk1 hS hc9 hv9 hcl9 => ?_) (fun u t H1 locs ht hvm hw hB hz1 hk1 hS => ?_)
  · obtain ⟨x2, rfl⟩ : ∃ z, z = u := ⟨_, rfl⟩
    obtain ⟨hw, hP1, hK1, hD1⟩ := hB
    rw [ht] at hP1
    obtain ⟨hP, hD⟩ := va_joinN (wr := (wd02_38 jaR jcB jcC jbo jbp jbk jcF jbe jbq jef jbm jbi jcd jaT jbb jbr jaR jb6 jbb cyI jbQ jb6 jbW jbL jck jcc jdh jcc cyI jfl jck cyI jfK jbW cyI jdN jbL cyI jdi jcF cyI jfQ)) (w1 := (wd02_26 a0 jaK jaR ja1 jcp jbc jbV ja3 jbH jaT jbO jaq jac jbI jbl jbn jba jaa x1 x2)) (wn := (wd02_35 a0 jaK jaR ja1 jcp jbc jbV ja3 jbH jaT jbO jaq jac jbI jbl jbn jba jaa x1 x2 jaR jcB jcC jbo jbp jbk jcF jbe jbq jef jbm jbi jcd jaT jbb jbr jaR jb6 jbb cyI jbQ jb6 jbW jbL jck jcc jdh jcc cyI jfl jck cyI jfK jbW cyI jdN jbL cyI jdi jcF cyI jfQ)) hP hD [0] [1, 2, 3, 4, 5, 6, 7, 8, 9] [9, 0, 1, 2, 3, 4, 5, 6, 7, 8] hCc rfl (by decide +kernel) (by decide +kernel) (by decide +kernel) rfl hk1 hFc hP1 hD1
    generalize H1 = H at hP hS hc9 ⊢
    exact vx_out (fun x hx9 => (hXs.1 x hx9).elim) hlocks hc9 hv9 hcl9 (fun t2 ht2 hal2 => ⟨(x1, x2, jfl, jfK), trivial, ⟨hw, by rw [ht2]; exact hP, va_K.moved hal2 hK, hD⟩, hS.F ht2⟩) hS.2.2 (Nat.le_of_ble_eq_true rfl) (Nat.le_of_ble_eq_true rfl)
  obtain ⟨x2, rfl⟩ : ∃ z, z = u := ⟨_, rfl⟩
  obtain ⟨hP1, hK1, hD1⟩ := hB
  rw [ht] at hP1
  obtain ⟨hP, hD⟩ := va_joinN (wr := (wd02_38 jaR jcB jcC jbo jbp jbk jcF jbe jbq jef jbm jbi jcd jaT jbb jbr jaR jb6 jbb cyI jbQ jb6 jbW jbL jck jcc jdh jcc cyI jfl jck cyI jfK jbW cyI jdN jbL cyI jdi jcF cyI jfQ)) (w1 := (wd02_26 a0 jaK jaR ja1 jcp jbc jbV ja3 jbH jaT jbO jaq jac jbI jbl jbn jba jaa x1 x2)) (wn := (wd02_35 a0 jaK jaR ja1 jcp jbc jbV ja3 jbH jaT jbO jaq jac jbI jbl jbn jba jaa x1 x2 jaR jcB jcC jbo jbp jbk jcF jbe jbq jef jbm jbi jcd jaT jbb jbr jaR jb6 jbb cyI jbQ jb6 jbW jbL jck jcc jdh jcc cyI jfl jck cyI jfK jbW cyI jdN jbL cyI jdi jcF cyI jfQ)) hP hD [0] [1, 2, 3, 4, 5, 6, 7, 8, 9] [9, 0, 1, 2, 3, 4, 5, 6, 7, 8] hCc rfl (by decide +kernel) (by decide +kernel) (by decide +kernel) rfl hk1 hFc hP1 hD1
  generalize H1 = H at hP hS ⊢
  refine lv_iload_n hx hb (dt_of tkX10_hare_k0 8 rfl) rfl (lv_at hl 2 rfl) ?_
  by_cases c3 : p2.toInt < 0 ∨ 6 < p2.toInt
  · have hw := hw.1 c3
    refine lv_tableOut (tgt := 135) hx hb dX10_hare_14 c3 (by decide) ?_
    refine lv_aload_n hx hb (dt_of tkX10_hare_k116 11 rfl) rfl (lv_at hl 0 rfl) ?_
    refine va_get (D := (dC, dI)) (ci := 10) (v := .ref jaT) (C := RX10) (T := TX10) (N := 19) hx hb hts ui_X10_hare_X10 hown hK hP 0 rfl rfl 8 (by decide) (hts _ uw_X10_hare_f58) (fun _ h9 => h9) rfl (dt_of tkX10_hare_k116 12 rfl) ?_
    refine lv_iload_n hx hb (dt_of tkX10_hare_k116 13 rfl) rfl (lv_at hl 1 rfl) ?_
    obtain ⟨hCc, hPc, hDc, hFc⟩ := va_pick (ws' := (wd02_39 jaT jbb jbr jaR jb6 jbb cyI jbQ)) hP hD hS hA [2, 3] (by decide +kernel) rfl
    refine va_calli (va_runV (As := [.int p1]) (rest := []) ⟨hx, hb, hml, hown, hts⟩ (ck_X1_isCaught l dC dI cyB cyI cyJ cyP jaT jbb H.size (jbr) (.ref jaR) (.ref jb6) jbQ  p1 hw) (cwV 1 hts gX10_hare_X1_isCaught rfl rfl rfl (by decide +kernel) ⟨Nat.le_of_ble_eq_true rfl, Nat.le_of_ble_eq_true rfl⟩) ⟨cPc_blind, va_recv (q := (RX1, TX1, 4)) hK hPc (ci := 1) (q0 := 0) rfl rfl, cPc_pre hPc hK hDc hNw⟩ rfl rfl hl.1 rfl (lv_room (Nat.le_of_ble_eq_true rfl)) (dt_of tkX10_hare_k116 14 rfl) ⟨Nat.le_of_ble_eq_true rfl, Nat.le_of_ble_eq_true rfl⟩) hS (fun q _ h => hFc q h) hFc (fun r4 u t H1 locs ht hvm hw hB hz1 hk1 hS => ?_)
    obtain ⟨hP1, hK1, hD1⟩ := hB
    rw [ht] at hP1
    obtain ⟨hP, hD⟩ := va_joinN (wr := (wd02_40 a0 jaK jaR ja1 jcp jbc jbV ja3 jbH jaT jbO jaq jac jbI jbl jbn jba jaa x1 x2 jaR jcB jcC jbo jbp jbk jcF jbe jbq jef jbm jbi jcd jb6 jbW jbL jck jcc jdh jcc cyI jfl jck cyI jfK jbW cyI jdN jbL cyI jdi jcF cyI jfQ)) (w1 := (wd02_39 jaT jbb jbr jaR jb6 jbb cyI jbQ)) (wn := (wd02_35 a0 jaK jaR ja1 jcp jbc jbV ja3 jbH jaT jbO jaq jac jbI jbl jbn jba jaa x1 x2 jaR jcB jcC jbo jbp jbk jcF jbe jbq jef jbm jbi jcd jaT jbb jbr jaR jb6 jbb cyI jbQ jb6 jbW jbL jck jcc jdh jcc cyI jfl jck cyI jfK jbW cyI jdN jbL cyI jdi jcF cyI jfQ)) hP hD [2, 3] [0, 1, 4, 5, 6, 7, 8, 9] [0, 1, 8, 9, 2, 3, 4, 5, 6, 7] hCc rfl (by decide +kernel) (by decide +kernel) (by decide +kernel) rfl hk1 hFc hP1 hD1
    generalize H1 = H at hP hS ⊢
    refine lv_if_eq (tgt := 150) hx hb (dt_of tkX10_hare_k116 15 rfl) (by decide) (fun c5 => ?_) (fun c5 => ?_)
    · have hw := hw.1 c5
      refine lv_aload_n hx hb (dt_of tkX10_hare_k146 2 rfl) rfl (lv_at hl 0 rfl) ?_
      refine va_get (D := (dC, dI)) (ci := 10) (v := .ref jaT) (C := RX10) (T := TX10) (N := 19) hx hb hts ui_X10_hare_X10 hown hK hP 0 rfl rfl 8 (by decide) (hts _ uw_X10_hare_f58) (fun _ h9 => h9) rfl (dt_of tkX10_hare_k146 3 rfl) ?_
      refine lv_iload_n hx hb (dt_of tkX10_hare_k146 4 rfl) rfl (lv_at hl 1 rfl) ?_
      obtain ⟨hCc, hPc, hDc, hFc⟩ := va_pick (ws' := (wd02_41 jaT jbb jbr jaR jb6 jbb cyI jbQ jaR jcB jcC jbo jbp jbk jcF jbe jbq jef jbm jbi jcd jb6 jbW jbL jck jcc jdh jcc cyI jfl jck cyI jfK jbW cyI jdN jbL cyI jdi)) hP hD hS hA [2, 3, 1, 4, 5, 6, 7, 8] (by decide +kernel) rfl
      refine va_calli (va_runV (As := [.int p1]) (rest := []) ⟨hx, hb, hml, hown, hts⟩ (ck_X1_reach l dC dI cyB cyI cyJ cyP jaT jbb jaR jb6 jcc jck jbW jbL H.size (jbr) (jcB) (jcC) (jbo) (jbp) (jbk) (.ref jcF) (jbe) (jbq) (jef) (jbi) (jcd) jbQ jbm jdh jdN jdi jfl jfK p1 hw) (cwV 1 hts gX10_hare_X1_reach rfl rfl rfl (by decide +kernel) ⟨Nat.le_of_ble_eq_true rfl, Nat.le_of_ble_eq_true rfl⟩) ⟨cPc_blind, va_recv (q := (RX1, TX1, 4)) hK hPc (ci := 1) (q0 := 0) rfl rfl, cPc_pre hPc hK hDc hNw⟩ rfl rfl hl.1 rfl (lv_room (Nat.le_of_ble_eq_true rfl)) (dt_of tkX10_hare_k146 5 rfl) ⟨Nat.le_of_ble_eq_true rfl, Nat.le_of_ble_eq_true rfl⟩) hS (fun q _ h => hFc q h) hFc (fun r8 u t H1 locs ht hvm hw hB hz1 hk1 hS => ?_)
      obtain ⟨f6, f7⟩ := u
      obtain ⟨hP1, hK1, hD1⟩ := hB
      rw [ht] at hP1
      obtain ⟨hP, hD⟩ := va_joinN (wr := [(a0, .inr (10, [jaK, .ref jaR, ja1, jcp, jbc, jbV, ja3, jbH, .ref jaT, jbO, jaq, jac, jbI, jbl, jbn, jba, jaa, .int x1, .int x2])), (jcF, .inl (cyI, 6, .inl jfQ))]) (w1 := (wd02_41 jaT jbb jbr jaR jb6 jbb cyI jbQ jaR jcB jcC jbo jbp jbk jcF jbe jbq jef jbm jbi jcd jb6 jbW jbL jck jcc jdh jcc cyI f6 jck cyI f7 jbW cyI jdN jbL cyI jdi)) (wn := (wd02_35 a0 jaK jaR ja1 jcp jbc jbV ja3 jbH jaT jbO jaq jac jbI jbl jbn jba jaa x1 x2 jaR jcB jcC jbo jbp jbk jcF jbe jbq jef jbm jbi jcd jaT jbb jbr jaR jb6 jbb cyI jbQ jb6 jbW jbL jck jcc jdh jcc cyI f6 jck cyI f7 jbW cyI jdN jbL cyI jdi jcF cyI jfQ)) hP hD [2, 3, 1, 4, 5, 6, 7, 8] [0, 9] [0, 4, 2, 3, 5, 6, 7, 8, 9, 1] hCc rfl (by decide +kernel) (by decide +kernel) (by decide +kernel) rfl hk1 hFc hP1 hD1
      generalize H1 = H at hP hS ⊢
      exact vx_ret (W.widen (k := 2) (n := 12) (Nat.le_of_ble_eq_true rfl) (Nat.le_of_ble_eq_true rfl) (W.iret (v := r8) hx hb hr (fun t ht hW => ⟨⟨r8, (x1, x2, f6, f7), rfl, hw, by rw [ht]; exact hP, va_K.moved hW.alike hK, hD⟩, hS.F ht⟩) hS.2.2 (dt_of tkX10_hare_k146 6 rfl)))
    · have hw := hw.2 c5
      refine lv_iconst (v := 0) hx hb (dt_of tkX10_hare_k146 0 rfl) (by decide) ?_
      refine lv_goto (tgt := 158) hx hb (dt_of tkX10_hare_k146 1 rfl) (by decide) ?_
      exact vx_ret (W.widen (k := 2) (n := 12) (Nat.le_of_ble_eq_true rfl) (Nat.le_of_ble_eq_true rfl) (W.iret (v := 0) hx hb hr (fun t ht hW => ⟨⟨0, (x1, x2, jfl, jfK), rfl, hw, by rw [ht]; exact hP, va_K.moved hW.alike hK, hD⟩, hS.F ht⟩) hS.2.2 (dt_of tkX10_hare_k146 6 rfl)))
  · have hw := hw.2
    rcases tsw_0_6 c3 with c3 | c3 | c3 | c3 | c3 | c3 | c3
    · have hw := hw.1 c3
      refine lv_tableIn (tgt := 56) (off := 42) hx hb dX10_hare_14 (by rw [c3]; decide) (by rw [c3]; decide) (by rw [c3]; decide) (by decide) ?_
      refine lv_aload_n hx hb (dt_of tkX10_hare_k56 0 rfl) rfl (lv_at hl 0 rfl) ?_
      refine va_get (D := (dC, dI)) (ci := 10) (v := .ref jaT) (C := RX10) (T := TX10) (N := 19) hx hb hts ui_X10_hare_X10 hown hK hP 0 rfl rfl 8 (by decide) (hts _ uw_X10_hare_f58) (fun _ h9 => h9) rfl (dt_of tkX10_hare_k56 1 rfl) ?_
      refine lv_iload_n hx hb (dt_of tkX10_hare_k56 2 rfl) rfl (lv_at hl 1 rfl) ?_
      obtain ⟨hCc, hPc, hDc, hFc⟩ := va_pick (ws' := (wd02_39 jaT jbb jbr jaR jb6 jbb cyI jbQ)) hP hD hS hA [2, 3] (by decide +kernel) rfl
      refine va_calli (va_runV (As := [.int p1]) (rest := []) ⟨hx, hb, hml, hown, hts⟩ (ck_X1_isCaught l dC dI cyB cyI cyJ cyP jaT jbb H.size (jbr) (.ref jaR) (.ref jb6) jbQ  p1 hw) (cwV 1 hts gX10_hare_X1_isCaught rfl rfl rfl (by decide +kernel) ⟨Nat.le_of_ble_eq_true rfl, Nat.le_of_ble_eq_true rfl⟩) ⟨cPc_blind, va_recv (q := (RX1, TX1, 4)) hK hPc (ci := 1) (q0 := 0) rfl rfl, cPc_pre hPc hK hDc hNw⟩ rfl rfl hl.1 rfl (lv_room (Nat.le_of_ble_eq_true rfl)) (dt_of tkX10_hare_k56 3 rfl) ⟨Nat.le_of_ble_eq_true rfl, Nat.le_of_ble_eq_true rfl⟩) hS (fun q _ h => hFc q h) hFc (fun r9 u t H1 locs ht hvm hw hB hz1 hk1 hS => ?_)
      obtain ⟨hP1, hK1, hD1⟩ := hB
      rw [ht] at hP1
      obtain ⟨hP, hD⟩ := va_joinN (wr := (wd02_40 a0 jaK jaR ja1 jcp jbc jbV ja3 jbH jaT jbO jaq jac jbI jbl jbn jba jaa x1 x2 jaR jcB jcC jbo jbp jbk jcF jbe jbq jef jbm jbi jcd jb6 jbW jbL jck jcc jdh jcc cyI jfl jck cyI jfK jbW cyI jdN jbL cyI jdi jcF cyI jfQ)) (w1 := (wd02_39 jaT jbb jbr jaR jb6 jbb cyI jbQ)) (wn := (wd02_35 a0 jaK jaR ja1 jcp jbc jbV ja3 jbH jaT jbO jaq jac jbI jbl jbn jba jaa x1 x2 jaR jcB jcC jbo jbp jbk jcF jbe jbq jef jbm jbi jcd jaT jbb jbr jaR jb6 jbb cyI jbQ jb6 jbW jbL jck jcc jdh jcc cyI jfl jck cyI jfK jbW cyI jdN jbL cyI jdi jcF cyI jfQ)) hP hD [2, 3] [0, 1, 4, 5, 6, 7, 8, 9] [0, 1, 8, 9, 2, 3, 4, 5, 6, 7] hCc rfl (by decide +kernel) (by decide +kernel) (by decide +kernel) rfl hk1 hFc hP1 hD1
      generalize H1 = H at hP hS ⊢
      refine lv_if_eq (tgt := 71) hx hb (dt_of tkX10_hare_k56 4 rfl) (by decide) (fun c10 => ?_) (fun c10 => ?_)
      · have hw := hw.1 c10
        refine lv_aload_n hx hb (dt_of tkX10_hare_k56 7 rfl) rfl (lv_at hl 0 rfl) ?_
        refine va_get (D := (dC, dI)) (ci := 10) (v := .ref jaT) (C := RX10) (T := TX10) (N := 19) hx hb hts ui_X10_hare_X10 hown hK hP 0 rfl rfl 8 (by decide) (hts _ uw_X10_hare_f58) (fun _ h9 => h9) rfl (dt_of tkX10_hare_k56 8 rfl) ?_
        refine lv_iload_n hx hb (dt_of tkX10_hare_k56 9 rfl) rfl (lv_at hl 1 rfl) ?_
        obtain ⟨hCc, hPc, hDc, hFc⟩ := va_pick (ws' := (wd02_39 jaT jbb jbr jaR jb6 jbb cyI jbQ)) hP hD hS hA [2, 3] (by decide +kernel) rfl
        refine va_calli (va_runV (As := [.int p1]) (rest := []) ⟨hx, hb, hml, hown, hts⟩ (ck_X1_sits l dC dI cyB cyI cyJ cyP jaT jbb H.size (jbr) (.ref jaR) (.ref jb6) jbQ  p1 hw) (cwV 1 hts gX10_hare_X1_sits rfl rfl rfl (by decide +kernel) ⟨Nat.le_of_ble_eq_true rfl, Nat.le_of_ble_eq_true rfl⟩) ⟨cPc_blind, va_recv (q := (RX1, TX1, 4)) hK hPc (ci := 1) (q0 := 0) rfl rfl, cPc_pre hPc hK hDc hNw⟩ rfl rfl hl.1 rfl (lv_room (Nat.le_of_ble_eq_true rfl)) (dt_of tkX10_hare_k56 10 rfl) ⟨Nat.le_of_ble_eq_true rfl, Nat.le_of_ble_eq_true rfl⟩) hS (fun q _ h => hFc q h) hFc (fun r11 u t H1 locs ht hvm hw hB hz1 hk1 hS => ?_)
        obtain ⟨hP1, hK1, hD1⟩ := hB
        rw [ht] at hP1
        obtain ⟨hP, hD⟩ := va_joinN (wr := (wd02_40 a0 jaK jaR ja1 jcp jbc jbV ja3 jbH jaT jbO jaq jac jbI jbl jbn jba jaa x1 x2 jaR jcB jcC jbo jbp jbk jcF jbe jbq jef jbm jbi jcd jb6 jbW jbL jck jcc jdh jcc cyI jfl jck cyI jfK jbW cyI jdN jbL cyI jdi jcF cyI jfQ)) (w1 := (wd02_39 jaT jbb jbr jaR jb6 jbb cyI jbQ)) (wn := (wd02_35 a0 jaK jaR ja1 jcp jbc jbV ja3 jbH jaT jbO jaq jac jbI jbl jbn jba jaa x1 x2 jaR jcB jcC jbo jbp jbk jcF jbe jbq jef jbm jbi jcd jaT jbb jbr jaR jb6 jbb cyI jbQ jb6 jbW jbL jck jcc jdh jcc cyI jfl jck cyI jfK jbW cyI jdN jbL cyI jdi jcF cyI jfQ)) hP hD [2, 3] [0, 1, 4, 5, 6, 7, 8, 9] [0, 1, 8, 9, 2, 3, 4, 5, 6, 7] hCc rfl (by decide +kernel) (by decide +kernel) (by decide +kernel) rfl hk1 hFc hP1 hD1
        generalize H1 = H at hP hS ⊢
        exact vx_ret (W.widen (k := 2) (n := 12) (Nat.le_of_ble_eq_true rfl) (Nat.le_of_ble_eq_true rfl) (W.iret (v := r11) hx hb hr (fun t ht hW => ⟨⟨r11, (x1, x2, jfl, jfK), rfl, hw, by rw [ht]; exact hP, va_K.moved hW.alike hK, hD⟩, hS.F ht⟩) hS.2.2 (dt_of tkX10_hare_k56 11 rfl)))
      · have hw := hw.2 c10
        refine lv_iconst (v := (-1)) hx hb (dt_of tkX10_hare_k56 5 rfl) (by decide) ?_
        refine lv_goto (tgt := 79) hx hb (dt_of tkX10_hare_k56 6 rfl) (by decide) ?_
        exact vx_ret (W.widen (k := 2) (n := 12) (Nat.le_of_ble_eq_true rfl) (Nat.le_of_ble_eq_true rfl) (W.iret (v := (-1)) hx hb hr (fun t ht hW => ⟨⟨(-1), (x1, x2, jfl, jfK), rfl, hw, by rw [ht]; exact hP, va_K.moved hW.alike hK, hD⟩, hS.F ht⟩) hS.2.2 (dt_of tkX10_hare_k56 11 rfl)))
    · have hw := hw.2.1 c3
      refine lv_tableIn (tgt := 80) (off := 66) hx hb dX10_hare_14 (by rw [c3]; decide) (by rw [c3]; decide) (by rw [c3]; decide) (by decide) ?_
      refine lv_aload_n hx hb (dt_of tkX10_hare_k56 12 rfl) rfl (lv_at hl 0 rfl) ?_
      refine va_get (D := (dC, dI)) (ci := 10) (v := .ref jaT) (C := RX10) (T := TX10) (N := 19) hx hb hts ui_X10_hare_X10 hown hK hP 0 rfl rfl 8 (by decide) (hts _ uw_X10_hare_f58) (fun _ h9 => h9) rfl (dt_of tkX10_hare_k56 13 rfl) ?_
      refine lv_iload_n hx hb (dt_of tkX10_hare_k56 14 rfl) rfl (lv_at hl 1 rfl) ?_
      obtain ⟨hCc, hPc, hDc, hFc⟩ := va_pick (ws' := (wd02_39 jaT jbb jbr jaR jb6 jbb cyI jbQ)) hP hD hS hA [2, 3] (by decide +kernel) rfl
      refine va_calli (va_runV (As := [.int p1]) (rest := []) ⟨hx, hb, hml, hown, hts⟩ (ck_X1_strong l dC dI cyB cyI cyJ cyP jaT jbb H.size (jbr) (.ref jaR) (.ref jb6) jbQ  p1 hw) (cwV 1 hts gX10_hare_X1_strong rfl rfl rfl (by decide +kernel) ⟨Nat.le_of_ble_eq_true rfl, Nat.le_of_ble_eq_true rfl⟩) ⟨cPc_blind, va_recv (q := (RX1, TX1, 4)) hK hPc (ci := 1) (q0 := 0) rfl rfl, cPc_pre hPc hK hDc hNw⟩ rfl rfl hl.1 rfl (lv_room (Nat.le_of_ble_eq_true rfl)) (dt_of tkX10_hare_k56 15 rfl) ⟨Nat.le_of_ble_eq_true rfl, Nat.le_of_ble_eq_true rfl⟩) hS (fun q _ h => hFc q h) hFc (fun r12 u t H1 locs ht hvm hw hB hz1 hk1 hS => ?_)
      obtain ⟨hP1, hK1, hD1⟩ := hB
      rw [ht] at hP1
      obtain ⟨hP, hD⟩ := va_joinN (wr := (wd02_40 a0 jaK jaR ja1 jcp jbc jbV ja3 jbH jaT jbO jaq jac jbI jbl jbn jba jaa x1 x2 jaR jcB jcC jbo jbp jbk jcF jbe jbq jef jbm jbi jcd jb6 jbW jbL jck jcc jdh jcc cyI jfl jck cyI jfK jbW cyI jdN jbL cyI jdi jcF cyI jfQ)) (w1 := (wd02_39 jaT jbb jbr jaR jb6 jbb cyI jbQ)) (wn := (wd02_35 a0 jaK jaR ja1 jcp jbc jbV ja3 jbH jaT jbO jaq jac jbI jbl jbn jba jaa x1 x2 jaR jcB jcC jbo jbp jbk jcF jbe jbq jef jbm jbi jcd jaT jbb jbr jaR jb6 jbb cyI jbQ jb6 jbW jbL jck jcc jdh jcc cyI jfl jck cyI jfK jbW cyI jdN jbL cyI jdi jcF cyI jfQ)) hP hD [2, 3] [0, 1, 4, 5, 6, 7, 8, 9] [0, 1, 8, 9, 2, 3, 4, 5, 6, 7] hCc rfl (by decide +kernel) (by decide +kernel) (by decide +kernel) rfl hk1 hFc hP1 hD1
      generalize H1 = H at hP hS ⊢
      exact vx_ret (W.widen (k := 2) (n := 12) (Nat.le_of_ble_eq_true rfl) (Nat.le_of_ble_eq_true rfl) (W.iret (v := r12) hx hb hr (fun t ht hW => ⟨⟨r12, (x1, x2, jfl, jfK), rfl, hw, by rw [ht]; exact hP, va_K.moved hW.alike hK, hD⟩, hS.F ht⟩) hS.2.2 (dt_of tkX10_hare_k88 0 rfl)))
    · have hw := hw.2.2.1 c3
      refine lv_tableIn (tgt := 89) (off := 75) hx hb dX10_hare_14 (by rw [c3]; decide) (by rw [c3]; decide) (by rw [c3]; decide) (by decide) ?_
      refine lv_aload_n hx hb (dt_of tkX10_hare_k88 1 rfl) rfl (lv_at hl 0 rfl) ?_
      refine va_get (D := (dC, dI)) (ci := 10) (v := .ref jaR) (C := RX10) (T := TX10) (N := 19) hx hb hts ui_X10_hare_X10 hown hK hP 0 rfl rfl 1 (by decide) (hts _ uw_X10_hare_f19) (fun _ h9 => h9) rfl (dt_of tkX10_hare_k88 2 rfl) ?_
      refine va_get (D := (dC, dI)) (ci := 2) (v := .ref jcF) (C := RX2) (T := TX2) (N := 12) hx hb hts ui_X10_hare_X2 hown hK hP 1 rfl rfl 5 (by decide) (hts _ uw_X10_hare_f239) (fun _ h9 => h9) rfl (dt_of tkX10_hare_k88 3 rfl) ?_
      refine lv_iload_n hx hb (dt_of tkX10_hare_k88 4 rfl) rfl (lv_at hl 1 rfl) ?_
      obtain ⟨hi9, hw⟩ := hw
      refine va_iald hx hb hK hP 9 1 rfl rfl hi9 (dt_of tkX10_hare_k88 5 rfl) ?_
      refine lv_topi (fun x13 ex13 => ?_)
      have hw := hw x13 ex13
      exact vx_ret (W.widen (k := 2) (n := 12) (Nat.le_of_ble_eq_true rfl) (Nat.le_of_ble_eq_true rfl) (W.iret (v := x13) hx hb hr (fun t ht hW => ⟨⟨x13, (x1, x2, jfl, jfK), rfl, hw, by rw [ht]; exact hP, va_K.moved hW.alike hK, hD⟩, hS.F ht⟩) hS.2.2 (dt_of tkX10_hare_k88 6 rfl)))
    · have hw := hw.2.2.2.1 c3
      refine lv_tableIn (tgt := 99) (off := 85) hx hb dX10_hare_14 (by rw [c3]; decide) (by rw [c3]; decide) (by rw [c3]; decide) (by decide) ?_
      refine lv_aload_n hx hb (dt_of tkX10_hare_k88 7 rfl) rfl (lv_at hl 0 rfl) ?_
      refine va_get (D := (dC, dI)) (ci := 10) (v := .ref jaT) (C := RX10) (T := TX10) (N := 19) hx hb hts ui_X10_hare_X10 hown hK hP 0 rfl rfl 8 (by decide) (hts _ uw_X10_hare_f58) (fun _ h9 => h9) rfl (dt_of tkX10_hare_k88 8 rfl) ?_
      refine lv_iload_n hx hb (dt_of tkX10_hare_k88 9 rfl) rfl (lv_at hl 1 rfl) ?_
      obtain ⟨hCc, hPc, hDc, hFc⟩ := va_pick (ws' := (wd02_39 jaT jbb jbr jaR jb6 jbb cyI jbQ)) hP hD hS hA [2, 3] (by decide +kernel) rfl
      refine va_calli (va_runV (As := [.int p1]) (rest := []) ⟨hx, hb, hml, hown, hts⟩ (ck_X1_still l dC dI cyB cyI cyJ cyP jaT jbb H.size (jbr) (.ref jaR) (.ref jb6) jbQ  p1 hw) (cwV 1 hts gX10_hare_X1_still rfl rfl rfl (by decide +kernel) ⟨Nat.le_of_ble_eq_true rfl, Nat.le_of_ble_eq_true rfl⟩) ⟨cPc_blind, va_recv (q := (RX1, TX1, 4)) hK hPc (ci := 1) (q0 := 0) rfl rfl, cPc_pre hPc hK hDc hNw⟩ rfl rfl hl.1 rfl (lv_room (Nat.le_of_ble_eq_true rfl)) (dt_of tkX10_hare_k88 10 rfl) ⟨Nat.le_of_ble_eq_true rfl, Nat.le_of_ble_eq_true rfl⟩) hS (fun q _ h => hFc q h) hFc (fun r14 u t H1 locs ht hvm hw hB hz1 hk1 hS => ?_)
      obtain ⟨hP1, hK1, hD1⟩ := hB
      rw [ht] at hP1
      obtain ⟨hP, hD⟩ := va_joinN (wr := (wd02_40 a0 jaK jaR ja1 jcp jbc jbV ja3 jbH jaT jbO jaq jac jbI jbl jbn jba jaa x1 x2 jaR jcB jcC jbo jbp jbk jcF jbe jbq jef jbm jbi jcd jb6 jbW jbL jck jcc jdh jcc cyI jfl jck cyI jfK jbW cyI jdN jbL cyI jdi jcF cyI jfQ)) (w1 := (wd02_39 jaT jbb jbr jaR jb6 jbb cyI jbQ)) (wn := (wd02_35 a0 jaK jaR ja1 jcp jbc jbV ja3 jbH jaT jbO jaq jac jbI jbl jbn jba jaa x1 x2 jaR jcB jcC jbo jbp jbk jcF jbe jbq jef jbm jbi jcd jaT jbb jbr jaR jb6 jbb cyI jbQ jb6 jbW jbL jck jcc jdh jcc cyI jfl jck cyI jfK jbW cyI jdN jbL cyI jdi jcF cyI jfQ)) hP hD [2, 3] [0, 1, 4, 5, 6, 7, 8, 9] [0, 1, 8, 9, 2, 3, 4, 5, 6, 7] hCc rfl (by decide +kernel) (by decide +kernel) (by decide +kernel) rfl hk1 hFc hP1 hD1
      generalize H1 = H at hP hS ⊢
      exact vx_ret (W.widen (k := 2) (n := 12) (Nat.le_of_ble_eq_true rfl) (Nat.le_of_ble_eq_true rfl) (W.iret (v := r14) hx hb hr (fun t ht hW => ⟨⟨r14, (x1, x2, jfl, jfK), rfl, hw, by rw [ht]; exact hP, va_K.moved hW.alike hK, hD⟩, hS.F ht⟩) hS.2.2 (dt_of tkX10_hare_k88 11 rfl)))
    · have hw := hw.2.2.2.2.1 c3
      refine lv_tableIn (tgt := 108) (off := 94) hx hb dX10_hare_14 (by rw [c3]; decide) (by rw [c3]; decide) (by rw [c3]; decide) (by decide) ?_
      refine lv_aload_n hx hb (dt_of tkX10_hare_k88 12 rfl) rfl (lv_at hl 0 rfl) ?_
      refine va_get (D := (dC, dI)) (ci := 10) (v := .ref jaT) (C := RX10) (T := TX10) (N := 19) hx hb hts ui_X10_hare_X10 hown hK hP 0 rfl rfl 8 (by decide) (hts _ uw_X10_hare_f58) (fun _ h9 => h9) rfl (dt_of tkX10_hare_k88 13 rfl) ?_
      refine lv_iload_n hx hb (dt_of tkX10_hare_k88 14 rfl) rfl (lv_at hl 1 rfl) ?_
      obtain ⟨hCc, hPc, hDc, hFc⟩ := va_pick (ws' := (wd02_39 jaT jbb jbr jaR jb6 jbb cyI jbQ)) hP hD hS hA [2, 3] (by decide +kernel) rfl
      refine va_calli (va_runV (As := [.int p1]) (rest := []) ⟨hx, hb, hml, hown, hts⟩ (ck_X1_leaps l dC dI cyB cyI cyJ cyP jaT jbb H.size (jbr) (.ref jaR) (.ref jb6) jbQ  p1 hw) (cwV 1 hts gX10_hare_X1_leaps rfl rfl rfl (by decide +kernel) ⟨Nat.le_of_ble_eq_true rfl, Nat.le_of_ble_eq_true rfl⟩) ⟨cPc_blind, va_recv (q := (RX1, TX1, 4)) hK hPc (ci := 1) (q0 := 0) rfl rfl, cPc_pre hPc hK hDc hNw⟩ rfl rfl hl.1 rfl (lv_room (Nat.le_of_ble_eq_true rfl)) (dt_of tkX10_hare_k88 15 rfl) ⟨Nat.le_of_ble_eq_true rfl, Nat.le_of_ble_eq_true rfl⟩) hS (fun q _ h => hFc q h) hFc (fun r15 u t H1 locs ht hvm hw hB hz1 hk1 hS => ?_)
      obtain ⟨hP1, hK1, hD1⟩ := hB
      rw [ht] at hP1
      obtain ⟨hP, hD⟩ := va_joinN (wr := (wd02_40 a0 jaK jaR ja1 jcp jbc jbV ja3 jbH jaT jbO jaq jac jbI jbl jbn jba jaa x1 x2 jaR jcB jcC jbo jbp jbk jcF jbe jbq jef jbm jbi jcd jb6 jbW jbL jck jcc jdh jcc cyI jfl jck cyI jfK jbW cyI jdN jbL cyI jdi jcF cyI jfQ)) (w1 := (wd02_39 jaT jbb jbr jaR jb6 jbb cyI jbQ)) (wn := (wd02_35 a0 jaK jaR ja1 jcp jbc jbV ja3 jbH jaT jbO jaq jac jbI jbl jbn jba jaa x1 x2 jaR jcB jcC jbo jbp jbk jcF jbe jbq jef jbm jbi jcd jaT jbb jbr jaR jb6 jbb cyI jbQ jb6 jbW jbL jck jcc jdh jcc cyI jfl jck cyI jfK jbW cyI jdN jbL cyI jdi jcF cyI jfQ)) hP hD [2, 3] [0, 1, 4, 5, 6, 7, 8, 9] [0, 1, 8, 9, 2, 3, 4, 5, 6, 7] hCc rfl (by decide +kernel) (by decide +kernel) (by decide +kernel) rfl hk1 hFc hP1 hD1
      generalize H1 = H at hP hS ⊢
      exact vx_ret (W.widen (k := 2) (n := 12) (Nat.le_of_ble_eq_true rfl) (Nat.le_of_ble_eq_true rfl) (W.iret (v := r15) hx hb hr (fun t ht hW => ⟨⟨r15, (x1, x2, jfl, jfK), rfl, hw, by rw [ht]; exact hP, va_K.moved hW.alike hK, hD⟩, hS.F ht⟩) hS.2.2 (dt_of tkX10_hare_k116 0 rfl)))
    · have hw := hw.2.2.2.2.2.1 c3
      refine lv_tableIn (tgt := 117) (off := 103) hx hb dX10_hare_14 (by rw [c3]; decide) (by rw [c3]; decide) (by rw [c3]; decide) (by decide) ?_
      refine lv_aload_n hx hb (dt_of tkX10_hare_k116 1 rfl) rfl (lv_at hl 0 rfl) ?_
      refine va_get (D := (dC, dI)) (ci := 10) (v := .ref jaT) (C := RX10) (T := TX10) (N := 19) hx hb hts ui_X10_hare_X10 hown hK hP 0 rfl rfl 8 (by decide) (hts _ uw_X10_hare_f58) (fun _ h9 => h9) rfl (dt_of tkX10_hare_k116 2 rfl) ?_
      refine lv_iload_n hx hb (dt_of tkX10_hare_k116 3 rfl) rfl (lv_at hl 1 rfl) ?_
      obtain ⟨hCc, hPc, hDc, hFc⟩ := va_pick (ws' := (wd02_42 jaT jbb jbr jaR jb6 jaR jcB jcC jbo jbp jbk jcF jbe jbq jef jbm jbi jcd jbb cyI jbQ)) hP hD hS hA [2, 1, 3] (by decide +kernel) rfl
      refine va_calli (va_runV (As := [.int p1]) (rest := []) ⟨hx, hb, hml, hown, hts⟩ (ck_X1_owes l dC dI cyB cyI cyJ cyP jaT jaR jbb H.size (jbr) (.ref jb6) (jcB) (jcC) (jbo) (jbp) (jbk) (.ref jcF) (jbe) (jbq) (jef) (jbi) (jcd) jbm jbQ  p1 hw) (cwV 1 hts gX10_hare_X1_owes rfl rfl rfl (by decide +kernel) ⟨Nat.le_of_ble_eq_true rfl, Nat.le_of_ble_eq_true rfl⟩) ⟨cPc_blind, va_recv (q := (RX1, TX1, 4)) hK hPc (ci := 1) (q0 := 0) rfl rfl, cPc_pre hPc hK hDc hNw⟩ rfl rfl hl.1 rfl (lv_room (Nat.le_of_ble_eq_true rfl)) (dt_of tkX10_hare_k116 4 rfl) ⟨Nat.le_of_ble_eq_true rfl, Nat.le_of_ble_eq_true rfl⟩) hS (fun q _ h => hFc q h) hFc (fun r16 u t H1 locs ht hvm hw hB hz1 hk1 hS => ?_)
      obtain ⟨hP1, hK1, hD1⟩ := hB
      rw [ht] at hP1
      obtain ⟨hP, hD⟩ := va_joinN (wr := (wd02_43 a0 jaK jaR ja1 jcp jbc jbV ja3 jbH jaT jbO jaq jac jbI jbl jbn jba jaa x1 x2 jb6 jbW jbL jck jcc jdh jcc cyI jfl jck cyI jfK jbW cyI jdN jbL cyI jdi jcF cyI jfQ)) (w1 := (wd02_42 jaT jbb jbr jaR jb6 jaR jcB jcC jbo jbp jbk jcF jbe jbq jef jbm jbi jcd jbb cyI jbQ)) (wn := (wd02_35 a0 jaK jaR ja1 jcp jbc jbV ja3 jbH jaT jbO jaq jac jbI jbl jbn jba jaa x1 x2 jaR jcB jcC jbo jbp jbk jcF jbe jbq jef jbm jbi jcd jaT jbb jbr jaR jb6 jbb cyI jbQ jb6 jbW jbL jck jcc jdh jcc cyI jfl jck cyI jfK jbW cyI jdN jbL cyI jdi jcF cyI jfQ)) hP hD [2, 1, 3] [0, 4, 5, 6, 7, 8, 9] [0, 8, 7, 9, 1, 2, 3, 4, 5, 6] hCc rfl (by decide +kernel) (by decide +kernel) (by decide +kernel) rfl hk1 hFc hP1 hD1
      generalize H1 = H at hP hS ⊢
      exact vx_ret (W.widen (k := 2) (n := 12) (Nat.le_of_ble_eq_true rfl) (Nat.le_of_ble_eq_true rfl) (W.iret (v := r16) hx hb hr (fun t ht hW => ⟨⟨r16, (x1, x2, jfl, jfK), rfl, hw, by rw [ht]; exact hP, va_K.moved hW.alike hK, hD⟩, hS.F ht⟩) hS.2.2 (dt_of tkX10_hare_k116 5 rfl)))
    · have hw := hw.2.2.2.2.2.2 c3
      refine lv_tableIn (tgt := 126) (off := 112) hx hb dX10_hare_14 (by rw [c3]; decide) (by rw [c3]; decide) (by rw [c3]; decide) (by decide) ?_
      refine lv_aload_n hx hb (dt_of tkX10_hare_k116 6 rfl) rfl (lv_at hl 0 rfl) ?_
      refine va_get (D := (dC, dI)) (ci := 10) (v := .ref jaT) (C := RX10) (T := TX10) (N := 19) hx hb hts ui_X10_hare_X10 hown hK hP 0 rfl rfl 8 (by decide) (hts _ uw_X10_hare_f58) (fun _ h9 => h9) rfl (dt_of tkX10_hare_k116 7 rfl) ?_
      refine lv_iload_n hx hb (dt_of tkX10_hare_k116 8 rfl) rfl (lv_at hl 1 rfl) ?_
      obtain ⟨hCc, hPc, hDc, hFc⟩ := va_pick (ws' := (wd02_42 jaT jbb jbr jaR jb6 jaR jcB jcC jbo jbp jbk jcF jbe jbq jef jbm jbi jcd jbb cyI jbQ)) hP hD hS hA [2, 1, 3] (by decide +kernel) rfl
      refine va_calli (va_runV (As := [.int p1]) (rest := []) ⟨hx, hb, hml, hown, hts⟩ (ck_X1_owed l dC dI cyB cyI cyJ cyP jaT jaR jbb H.size (jbr) (.ref jb6) (jcB) (jcC) (jbo) (jbp) (jbk) (.ref jcF) (jbe) (jbq) (jef) (jbi) (jcd) jbm jbQ  p1 hw) (cwV 1 hts gX10_hare_X1_owed rfl rfl rfl (by decide +kernel) ⟨Nat.le_of_ble_eq_true rfl, Nat.le_of_ble_eq_true rfl⟩) ⟨cPc_blind, va_recv (q := (RX1, TX1, 4)) hK hPc (ci := 1) (q0 := 0) rfl rfl, cPc_pre hPc hK hDc hNw⟩ rfl rfl hl.1 rfl (lv_room (Nat.le_of_ble_eq_true rfl)) (dt_of tkX10_hare_k116 9 rfl) ⟨Nat.le_of_ble_eq_true rfl, Nat.le_of_ble_eq_true rfl⟩) hS (fun q _ h => hFc q h) hFc (fun r17 u t H1 locs ht hvm hw hB hz1 hk1 hS => ?_)
      obtain ⟨hP1, hK1, hD1⟩ := hB
      rw [ht] at hP1
      obtain ⟨hP, hD⟩ := va_joinN (wr := (wd02_43 a0 jaK jaR ja1 jcp jbc jbV ja3 jbH jaT jbO jaq jac jbI jbl jbn jba jaa x1 x2 jb6 jbW jbL jck jcc jdh jcc cyI jfl jck cyI jfK jbW cyI jdN jbL cyI jdi jcF cyI jfQ)) (w1 := (wd02_42 jaT jbb jbr jaR jb6 jaR jcB jcC jbo jbp jbk jcF jbe jbq jef jbm jbi jcd jbb cyI jbQ)) (wn := (wd02_35 a0 jaK jaR ja1 jcp jbc jbV ja3 jbH jaT jbO jaq jac jbI jbl jbn jba jaa x1 x2 jaR jcB jcC jbo jbp jbk jcF jbe jbq jef jbm jbi jcd jaT jbb jbr jaR jb6 jbb cyI jbQ jb6 jbW jbL jck jcc jdh jcc cyI jfl jck cyI jfK jbW cyI jdN jbL cyI jdi jcF cyI jfQ)) hP hD [2, 1, 3] [0, 4, 5, 6, 7, 8, 9] [0, 8, 7, 9, 1, 2, 3, 4, 5, 6] hCc rfl (by decide +kernel) (by decide +kernel) (by decide +kernel) rfl hk1 hFc hP1 hD1
      generalize H1 = H at hP hS ⊢
      exact vx_ret (W.widen (k := 2) (n := 12) (Nat.le_of_ble_eq_true rfl) (Nat.le_of_ble_eq_true rfl) (W.iret (v := r17) hx hb hr (fun t ht hW => ⟨⟨r17, (x1, x2, jfl, jfK), rfl, hw, by rw [ht]; exact hP, va_K.moved hW.alike hK, hD⟩, hS.F ht⟩) hS.2.2 (dt_of tkX10_hare_k116 10 rfl)))
theorem uw_L_hare_ct13 : (.classLink RL 13 "java/lang/IllegalArgumentException" : Cond) ∈ wsL_hare := mbL_hare 595 (by decide +kernel)
theorem uw_L_hare_ct31 : (.classLink RL 31 "java/util/NoSuchElementException" : Cond) ∈ wsL_hare := mbL_hare 2639 (by decide +kernel)
theorem uw_L_hare_cw : (.codeWith yL_hare cL_hare 5 (some .int) [(0, 10, 13, 31), (0, 10, 17, 13)] : Cond) ∈ wsL_hare := mbL_hare 2705 (by decide +kernel)
set_option maxHeartbeats 4000000 in
set_option maxRecDepth 100000 in
theorem ck_L_hare (l : Launch) (dC : Nat → ClassId) (dI : Nat → Nat → Nat) (cyB cyI cyJ cyP : ClassId) (a0 a3 jaR jaT jbb jb6 jcc jck jbW jbL jcF sz : Nat) (jaK ja1 jbc jbV ja3 jbH jbO jaq jac jbI jbl jbn jba jaa jcB jcC jbo jbp jbk jbe jbq jef jbi jcd jbr : Value) (n3 : Nat) (jbm : Int32) (jbQ : Nat → Int32) (jdh : Int32) (jdN jdi jfQ : Nat → Int32) (jdu jbz : Int32) (jfl jfK : Nat → Int32) (f3 : Nat → Int64) (p1 p2 : Int32) {Q : Int32 → Int32 → Int32 → (Nat → Int32) → (Nat → Int32) → (Nat → Int64) → Prop} (hw : wq_L_hare n3 jbm jbQ jdh jdN jdi jfQ jdu jbz jfl jfK f3 p1 p2 Q) : Met l yL_hare wsL_hare ({ frames := 9, cells := 2, slots := 12, locals := 186 }) (va_Pc [.ref a0, .int p1, .int p2, .ref a3] (cPx l (dC, dI) (kT cyB cyI cyJ cyP) (wd02_44 a0 jaK jaR ja1 jb6 jbc jbV ja3 jbH jaT jbO jaq jac jbI jbl jbn jba jaa jdu jbz jaR jcB jcC jbo jbp jbk jcF jbe jbq jef jbm jbi jcd jaT jbb jbr jaR jb6 jbb cyI jbQ jb6 jbW jbL jck jcc jdh jcc cyI jfl jck cyI jfK jbW cyI jdN jbL cyI jdi jcF cyI jfQ a3 cyJ n3 f3) sz)) (va_Qi (fun (r : Int32) (u : Int32 × Int32 × (Nat → Int32) × (Nat → Int32) × (Nat → Int64)) => Q r u.1 u.2.1 u.2.2.1 u.2.2.2.1 u.2.2.2.2) (cB (dC, dI) (kT cyB cyI cyJ cyP) (va_A (wd02_44 a0 jaK jaR ja1 jb6 jbc jbV ja3 jbH jaT jbO jaq jac jbI jbl jbn jba jaa jdu jbz jaR jcB jcC jbo jbp jbk jcF jbe jbq jef jbm jbi jcd jaT jbb jbr jaR jb6 jbb cyI jbQ jb6 jbW jbL jck jcc jdh jcc cyI jfl jck cyI jfK jbW cyI jdN jbL cyI jdi jcF cyI jfQ a3 cyJ n3 f3) sz) (fun u : Int32 × Int32 × (Nat → Int32) × (Nat → Int32) × (Nat → Int64) => ((wd02_44 a0 jaK jaR ja1 jb6 jbc jbV ja3 jbH jaT jbO jaq jac jbI jbl jbn jba jaa u.1 u.2.1 jaR jcB jcC jbo jbp jbk jcF jbe jbq jef jbm jbi jcd jaT jbb jbr jaR jb6 jbb cyI jbQ jb6 jbW jbL jck jcc jdh jcc cyI u.2.2.1 jck cyI u.2.2.2.1 jbW cyI jdN jbL cyI jdi jcF cyI jfQ a3 cyJ n3 u.2.2.2.2) : va_W))) (va_A (wd02_44 a0 jaK jaR ja1 jb6 jbc jbV ja3 jbH jaT jbO jaq jac jbI jbl jbn jba jaa jdu jbz jaR jcB jcC jbo jbp jbk jcF jbe jbq jef jbm jbi jcd jaT jbb jbr jaR jb6 jbb cyI jbQ jb6 jbW jbL jck jcc jdh jcc cyI jfl jck cyI jfK jbW cyI jdN jbL cyI jdi jcF cyI jfQ a3 cyJ n3 f3) sz)) 2 12 (va_A (wd02_44 a0 jaK jaR ja1 jb6 jbc jbV ja3 jbH jaT jbO jaq jac jbI jbl jbn jba jaa jdu jbz jaR jcB jcC jbo jbp jbk jcF jbe jbq jef jbm jbi jcd jaT jbb jbr jaR jb6 jbb cyI jbQ jb6 jbW jbL jck jcc jdh jcc cyI jfl jck cyI jfK jbW cyI jdN jbL cyI jdi jcF cyI jfQ a3 cyJ n3 f3) sz) := by
  refine va_MetW (cc := cL_hare) (maxL := 5) (ret := (some .int)) (by decide) rfl ?_
  intro p e s m args below meth c s₁ B hml hv
  obtain ⟨rfl, hsz, hP, hK, hD0, hNw, hXl, hXu, hXn, hXt⟩ := hv
  have hx := B.exec
  have hb := B.bytes
  have hr := B.returns
  have hts := atoms_spec (ws := wsL_hare) B.pre
  have hown : s.vm.findClass RL = some m.cls := findClass_of_methodNamed B.named
  have hlocks := B.notSynchronized
  subst hsz
  have hD := hD0.self (sz := s.heap.size)
  generalize hAe : va_A (wd02_44 a0 jaK jaR ja1 jb6 jbc jbV ja3 jbH jaT jbO jaq jac jbI jbl jbn jba jaa jdu jbz jaR jcB jcC jbo jbp jbk jcF jbe jbq jef jbm jbi jcd jaT jbb jbr jaR jb6 jbb cyI jbQ jb6 jbW jbL jck jcc jdh jcc cyI jfl jck cyI jfK jbW cyI jdN jbL cyI jdi jcF cyI jfQ a3 cyJ n3 f3) s.heap.size = A at hD hXu hXn ⊢
  have hA : ∀ q : Nat, s.heap.size ≤ q → A q := fun q h => by rw [← hAe]; exact Or.inr h
  have hS : va_S A s.heap s.heap [] := va_S.rf
  have hP : va_P (dC, dI) vwCl (wd02_44 a0 jaK jaR ja1 jb6 jbc jbV ja3 jbH jaT jbO jaq jac jbI jbl jbn jba jaa jdu jbz jaR jcB jcC jbo jbp jbk jcF jbe jbq jef jbm jbi jcd jaT jbb jbr jaR jb6 jbb cyI jbQ jb6 jbW jbL jck jcc jdh jcc cyI jfl jck cyI jfK jbW cyI jdN jbL cyI jdi jcF cyI jfQ a3 cyJ n3 f3) s.heap := hP
  have hl := lv_entry ([.ref a0, .int p1, .int p2, .ref a3]) (n := 5) (Nat.le_of_ble_eq_true rfl)
  rw [lg_entry_eq]
  generalize (lg_sl ([.ref a0, .int p1, .int p2, .ref a3]) ++ List.replicate (5 - (lg_sl ([.ref a0, .int p1, .int p2, .ref a3])).length) Slot.unset).toArray = ls at hl ⊢
  have hl : lv_has ls 5 [(0, .ref a0), (1, .int p1), (2, .int p2), (3, .ref a3)] := hl
  have hY : cfY l s A := ⟨hXl, hXu, hXn, hXt⟩
  have hTb := vx_table (x := yL_hare) B (hts _ uw_L_hare_cw)
  clear hAe
  obtain ⟨H, hH⟩ : ∃ H, H = s.heap := ⟨_, rfl⟩
  rw [← hH] at hP ⊢
  have hS : va_S A s.heap H [] := by rw [hH]; exact va_S.rf
  have hS := hS
  refine lv_aload_n hx hb (dt_of tkL_hare_k0 0 rfl) rfl (lv_at hl 3 rfl) ?_
  refine lv_iconst (v := 0) hx hb (dt_of tkL_hare_k0 1 rfl) (by decide) ?_
  refine lv_aload_n hx hb (dt_of tkL_hare_k0 2 rfl) rfl (lv_at hl 0 rfl) ?_
  refine lv_iload_n hx hb (dt_of tkL_hare_k0 3 rfl) rfl (lv_at hl 1 rfl) ?_
  refine lv_iload_n hx hb (dt_of tkL_hare_k0 4 rfl) rfl (lv_at hl 2 rfl) ?_
  obtain ⟨hCc, hPc, hDc, hFc⟩ := va_pick (ws' := (wd02_45 a0 jaK jaR ja1 jb6 jbc jbV ja3 jbH jaT jbO jaq jac jbI jbl jbn jba jaa jdu jbz jaR jcB jcC jbo jbp jbk jcF jbe jbq jef jbm jbi jcd jaT jbb jbr jaR jb6 jbb cyI jbQ jb6 jbW jbL jck jcc jdh jcc cyI jfl jck cyI jfK jbW cyI jdN jbL cyI jdi jcF cyI jfQ)) hP hD hS hA [0, 1, 2, 3, 4, 5, 6, 7, 8, 9] (by decide +kernel) rfl
  refine vx_calli (vx_runV (As := [.int p1, .int p2]) (rest := [.int 0, .ref a3]) ⟨hx, hb, hml, hown, hts⟩ (ck_X10_hare l dC dI cyB cyI cyJ cyP a0 jaR jaT jbb jb6 jcc jck jbW jbL jcF H.size (jaK) (ja1) (.ref jb6) (jbc) (jbV) (ja3) (jbH) (jbO) (jaq) (jac) (jbI) (jbl) (jbn) (jba) (jaa) (jcB) (jcC) (jbo) (jbp) (jbk) (jbe) (jbq) (jef) (jbi) (jcd) (jbr) jbm jbQ jdh jdN jdi jfQ jdu jbz jfl jfK p1 p2 hw) (cwV 2 hts gL_hare_X10_hare rfl rfl rfl (by decide +kernel) ⟨Nat.le_of_ble_eq_true rfl, Nat.le_of_ble_eq_true rfl⟩) ⟨cPx_blind, va_recv (q := (RX10, TX10, 19)) hK hPc (ci := 10) (q0 := 0) rfl rfl, cPx_pre hPc hK hDc hNw hY hS hFc⟩ rfl rfl hl.1 rfl (lv_room (Nat.le_of_ble_eq_true rfl)) (dt_of tkL_hare_k0 5 rfl) ⟨Nat.le_of_ble_eq_true rfl, Nat.le_of_ble_eq_true rfl⟩) hS (fun q _ h => hFc q h) hFc (fun q _ h => hFc q h) (fun en ce qx9 u t H1 locs ht hvm hpx hB hz1 hk1 hS hc9 hv9 hcl9 => ?_) (fun r6 u t H1 locs ht hvm hw hB hz1 hk1 hS => ?_)
  · obtain ⟨x1, x2, f4, f5⟩ := u
    obtain ⟨hw, hP1, hK1, hD1⟩ := hB
    rw [ht] at hP1
    obtain ⟨hP, hD⟩ := va_joinN (wr := [(a3, .inl (cyJ, n3, .inr (.inl f3)))]) (w1 := (wd02_45 a0 jaK jaR ja1 jb6 jbc jbV ja3 jbH jaT jbO jaq jac jbI jbl jbn jba jaa x1 x2 jaR jcB jcC jbo jbp jbk jcF jbe jbq jef jbm jbi jcd jaT jbb jbr jaR jb6 jbb cyI jbQ jb6 jbW jbL jck jcc jdh jcc cyI f4 jck cyI f5 jbW cyI jdN jbL cyI jdi jcF cyI jfQ)) (wn := (wd02_44 a0 jaK jaR ja1 jb6 jbc jbV ja3 jbH jaT jbO jaq jac jbI jbl jbn jba jaa x1 x2 jaR jcB jcC jbo jbp jbk jcF jbe jbq jef jbm jbi jcd jaT jbb jbr jaR jb6 jbb cyI jbQ jb6 jbW jbL jck jcc jdh jcc cyI f4 jck cyI f5 jbW cyI jdN jbL cyI jdi jcF cyI jfQ a3 cyJ n3 f3)) hP hD [0, 1, 2, 3, 4, 5, 6, 7, 8, 9] [10] [1, 2, 3, 4, 5, 6, 7, 8, 9, 10, 0] hCc rfl (by decide +kernel) (by decide +kernel) (by decide +kernel) rfl hk1 hFc hP1 hD1
    generalize H1 = H at hP hS hc9 ⊢
    rcases hw with ⟨rfl, hw⟩ | ⟨rfl, hw⟩
    · refine vx_catch (own := RL) (name := "java/util/NoSuchElementException") hown [] ⟨0, 10, 13, 31⟩ [⟨0, 10, 17, 13⟩] (hTb.trans rfl) (fun z hz => nomatch hz) (by decide) (by decide) (hts _ uw_L_hare_ct31) (va_Nw.use rfl (hY.2.2.2.1.2 _ (List.mem_of_getElem? (i := 1) rfl))) hc9 hv9 hcl9 ?_
      refine lv_astore (lv' := [(4, .ref qx9), (0, .ref a0), (1, .int p1), (2, .int p2), (3, .ref a3)]) hx hb (dt_of tkL_hare_k0 9 rfl) hl (by decide) rfl (fun ls hl => ?_)
      refine lv_iconst (v := 1) hx hb (dt_of tkL_hare_k0 10 rfl) (by decide) ?_
      exact (W.widen (k := 2) (n := 12) (Nat.le_of_ble_eq_true rfl) (Nat.le_of_ble_eq_true rfl) (W.iret (v := 1) hx hb hr (fun t ht hW => ⟨⟨1, (x1, x2, f4, f5, f3), rfl, hw, by rw [ht]; exact hP, va_K.moved hW.alike hK, hD⟩, hS.F ht⟩) hS.2.2 (dt_of tkL_hare_k0 11 rfl)))
    · refine vx_catch (own := RL) (name := "java/lang/IllegalArgumentException") hown [⟨0, 10, 13, 31⟩] ⟨0, 10, 17, 13⟩ [] (hTb.trans rfl) (fun z hz => by rw [List.mem_singleton.mp hz]; exact Or.inr ⟨by decide, _, (hts _ uw_L_hare_ct31), hY.2.2.2.2.2⟩) (by decide) (by decide) (hts _ uw_L_hare_ct13) (va_Nw.use rfl (hY.2.2.2.1.2 _ (List.mem_of_getElem? (i := 0) rfl))) hc9 hv9 hcl9 ?_
      refine lv_astore (lv' := [(4, .ref qx9), (0, .ref a0), (1, .int p1), (2, .int p2), (3, .ref a3)]) hx hb (dt_of tkL_hare_k0 12 rfl) hl (by decide) rfl (fun ls hl => ?_)
      refine lv_iconst (v := 2) hx hb (dt_of tkL_hare_k0 13 rfl) (by decide) ?_
      exact (W.widen (k := 2) (n := 12) (Nat.le_of_ble_eq_true rfl) (Nat.le_of_ble_eq_true rfl) (W.iret (v := 2) hx hb hr (fun t ht hW => ⟨⟨2, (x1, x2, f4, f5, f3), rfl, hw, by rw [ht]; exact hP, va_K.moved hW.alike hK, hD⟩, hS.F ht⟩) hS.2.2 (dt_of tkL_hare_k0 14 rfl)))
  obtain ⟨x1, x2, f4, f5⟩ := u
  obtain ⟨hP1, hK1, hD1⟩ := hB
  rw [ht] at hP1
  obtain ⟨hP, hD⟩ := va_join (wr := [(a3, .inl (cyJ, n3, .inr (.inl f3)))]) (w1 := (wd02_45 a0 jaK jaR ja1 jb6 jbc jbV ja3 jbH jaT jbO jaq jac jbI jbl jbn jba jaa x1 x2 jaR jcB jcC jbo jbp jbk jcF jbe jbq jef jbm jbi jcd jaT jbb jbr jaR jb6 jbb cyI jbQ jb6 jbW jbL jck jcc jdh jcc cyI f4 jck cyI f5 jbW cyI jdN jbL cyI jdi jcF cyI jfQ)) hP hD [0, 1, 2, 3, 4, 5, 6, 7, 8, 9] [10] rfl rfl (by decide) (by decide) hk1 hFc hP1 hD1
  have hP : va_P (dC, dI) vwCl (wd02_44 a0 jaK jaR ja1 jb6 jbc jbV ja3 jbH jaT jbO jaq jac jbI jbl jbn jba jaa x1 x2 jaR jcB jcC jbo jbp jbk jcF jbe jbq jef jbm jbi jcd jaT jbb jbr jaR jb6 jbb cyI jbQ jb6 jbW jbL jck jcc jdh jcc cyI f4 jck cyI f5 jbW cyI jdN jbL cyI jdi jcF cyI jfQ a3 cyJ n3 f3) H1 := hP.sub [1, 2, 3, 4, 5, 6, 7, 8, 9, 10, 0] rfl
  have hD : va_D A (wd02_44 a0 jaK jaR ja1 jb6 jbc jbV ja3 jbH jaT jbO jaq jac jbI jbl jbn jba jaa x1 x2 jaR jcB jcC jbo jbp jbk jcF jbe jbq jef jbm jbi jcd jaT jbb jbr jaR jb6 jbb cyI jbQ jb6 jbW jbL jck jcc jdh jcc cyI f4 jck cyI f5 jbW cyI jdN jbL cyI jdi jcF cyI jfQ a3 cyJ n3 f3) := hD.sub [1, 2, 3, 4, 5, 6, 7, 8, 9, 10, 0] (by decide) rfl
  generalize H1 = H at hP hS ⊢
  refine lv_i2l (v := r6.toInt64) hx hb (dt_of tkL_hare_k0 6 rfl) rfl ?_
  refine lv_topl (fun x7 ex7 => ?_)
  have hw := hw x7 ex7
  obtain ⟨hi9, hw⟩ := hw
  refine va_last hx hb hK hP hD hS 10 2 rfl rfl hi9 (dt_of tkL_hare_k0 7 rfl) (fun H locs hP hD hS => ?_)
  obtain ⟨f8, ef8⟩ : ∃ y : Nat → Int64, y = vp_updL f3 (0 : Int32).toNatClampNeg x7 := ⟨_, rfl⟩
  have hw := hw f8 ef8
  have hP : va_P (dC, dI) vwCl (wd02_44 a0 jaK jaR ja1 jb6 jbc jbV ja3 jbH jaT jbO jaq jac jbI jbl jbn jba jaa x1 x2 jaR jcB jcC jbo jbp jbk jcF jbe jbq jef jbm jbi jcd jaT jbb jbr jaR jb6 jbb cyI jbQ jb6 jbW jbL jck jcc jdh jcc cyI f4 jck cyI f5 jbW cyI jdN jbL cyI jdi jcF cyI jfQ a3 cyJ n3 f8) H := by rw [ef8]; exact hP
  have hD : va_D A (wd02_44 a0 jaK jaR ja1 jb6 jbc jbV ja3 jbH jaT jbO jaq jac jbI jbl jbn jba jaa x1 x2 jaR jcB jcC jbo jbp jbk jcF jbe jbq jef jbm jbi jcd jaT jbb jbr jaR jb6 jbb cyI jbQ jb6 jbW jbL jck jcc jdh jcc cyI f4 jck cyI f5 jbW cyI jdN jbL cyI jdi jcF cyI jfQ a3 cyJ n3 f8) := by rw [ef8]; exact hD
  refine lv_goto (tgt := 21) hx hb (dt_of tkL_hare_k0 8 rfl) (by decide) ?_
  refine lv_iconst (v := 0) hx hb (dt_of tkL_hare_k0 15 rfl) (by decide) ?_
  exact (W.widen (k := 2) (n := 12) (Nat.le_of_ble_eq_true rfl) (Nat.le_of_ble_eq_true rfl) (W.iret (v := 0) hx hb hr (fun t ht hW => ⟨⟨0, (x1, x2, f4, f5, f8), rfl, hw, by rw [ht]; exact hP, va_K.moved hW.alike hK, hD⟩, hS.F ht⟩) hS.2.2 (dt_of tkL_hare_k22 0 rfl)))
theorem ui_X2_formsWithin_X2 : ∀ w ∈ u_ws RX2 TX2 12, w ∈ wsX2_formsWithin := uiM mbX2_formsWithin euX2 (by decide +kernel)
theorem uw_X2_formsWithin_f36 : (.fieldLink RX2 36 "MarchHares$Down" "forms" "I" : Cond) ∈ wsX2_formsWithin := mbX2_formsWithin 720 (by decide +kernel)
set_option maxHeartbeats 4000000 in
set_option maxRecDepth 100000 in
theorem kb_X2_formsWithin_32 {p : Program} {l : Launch} {e : Env} {s : State} {m : MethodId} {args : Array Value} {below : List Frame} {meth : Method} {c : Code} {A : Nat → Prop} (dC : Nat → ClassId) (dI : Nat → Nat → Nat) (cyB cyI cyJ cyP : ClassId) (a0 jha jhi : Nat) (jlc jld jkJ jiT jj1 jjT ja4 jaP jkk : Value) (jaN : Int32) (jiR jiP : Nat → Int32) (Q : Int32 → Prop) (K5 : Int32 → Int32 → Int32 → Int32 → Prop) (hK5 : ∀ (H : Heap) (locs : List Loc) (ls : Array Slot) (l1 l2 l3 l4 : Int32), va_P (dC, dI) vwCl (wd02_3 a0 jha jhi jlc jld jkJ jiT jj1 jjT jaN ja4 jaP jkk jha cyI jiR jhi cyI jiP) H → va_D A (wd02_3 a0 jha jhi jlc jld jkJ jiT jj1 jjT jaN ja4 jaP jkk jha cyI jiR jhi cyI jiP) → va_S A s.heap H locs → lv_has ls 5 [(0, .ref a0), (1, .int l1), (2, .int l2), (3, .int l3), (4, .int l4)] → K5 l1 l2 l3 l4 → W p l e (headSpec wsX2_formsWithin ({ frames := 2, cells := 0, slots := 0, locals := 54 })).room s m args below meth c H locs 0 0 (MQ below (va_Qi (fun (r : Int32) (_ : Unit) => Q r ) (cB (dC, dI) (kT cyB cyI cyJ cyP) A (fun u : Unit => ((wd02_3 a0 jha jhi jlc jld jkJ jiT jj1 jjT jaN ja4 jaP jkk jha cyI jiR jhi cyI jiP) : va_W))) A) args s 0 0 A) (F0 m 5 ls [])) (C0 : cfx p s m args meth c cX2_formsWithin (some .int) wsX2_formsWithin RX2 5 A (dC, dI) (kT cyB cyI cyJ cyP)) : ∀ (H : Heap) (locs : List Loc) (ls : Array Slot) (l1 l2 l3 l4 : Int32), va_P (dC, dI) vwCl (wd02_3 a0 jha jhi jlc jld jkJ jiT jj1 jjT jaN ja4 jaP jkk jha cyI jiR jhi cyI jiP) H → va_D A (wd02_3 a0 jha jhi jlc jld jkJ jiT jj1 jjT jaN ja4 jaP jkk jha cyI jiR jhi cyI jiP) → va_S A s.heap H locs → lv_has ls 5 [(0, .ref a0), (1, .int l1), (2, .int l2), (3, .int l3), (4, .int l4)] → wb_X2_formsWithin_32 jaN jiR jiP Q K5 l1 l2 l3 l4 → W p l e (headSpec wsX2_formsWithin ({ frames := 2, cells := 0, slots := 0, locals := 54 })).room s m args below meth c H locs 0 0 (MQ below (va_Qi (fun (r : Int32) (_ : Unit) => Q r ) (cB (dC, dI) (kT cyB cyI cyJ cyP) A (fun u : Unit => ((wd02_3 a0 jha jhi jlc jld jkJ jiT jj1 jjT jaN ja4 jaP jkk jha cyI jiR jhi cyI jiP) : va_W))) A) args s 0 0 A) (F0 m 32 ls []) := by
  obtain ⟨hx, hb, hr, hts, hown, hlocks, hml, hA, hK, hNw⟩ := id C0
  intro H locs ls l1 l2 l3 l4 hP hD hS hl hw
  obtain ⟨x5, ex5⟩ : ∃ y : Int32, y = l4 + 1 := ⟨_, rfl⟩
  have hw := hw x5 ex5
  refine lv_iinc (v := x5) (lv' := [(4, .int x5), (0, .ref a0), (1, .int l1), (2, .int l2), (3, .int l3)]) hx hb (dt_of tkX2_formsWithin_k27 4 rfl) hl (k := 4) rfl (by rw [ex5]; rfl) (by decide) rfl (fun ls hl => ?_)
  refine lv_goto (tgt := 5) hx hb (dt_of tkX2_formsWithin_k27 5 rfl) (by decide) ?_
  exact hK5 _ _ _ l1 l2 l3 x5 hP hD hS (lv_sub hl [1, 2, 3, 4, 0] rfl) hw
set_option maxHeartbeats 4000000 in
set_option maxRecDepth 100000 in
theorem kl_X2_formsWithin_5 {p : Program} {l : Launch} {e : Env} {s : State} {m : MethodId} {args : Array Value} {below : List Frame} {meth : Method} {c : Code} {A : Nat → Prop} (dC : Nat → ClassId) (dI : Nat → Nat → Nat) (cyB cyI cyJ cyP : ClassId) (a0 jha jhi : Nat) (jlc jld jkJ jiT jj1 jjT ja4 jaP jkk : Value) (jaN : Int32) (jiR jiP : Nat → Int32) (Q : Int32 → Prop)  (C0 : cfx p s m args meth c cX2_formsWithin (some .int) wsX2_formsWithin RX2 5 A (dC, dI) (kT cyB cyI cyJ cyP)) : ∀ (n : Nat) (H : Heap) (locs : List Loc) (ls : Array Slot) (l1 l2 l3 l4 : Int32), va_P (dC, dI) vwCl (wd02_3 a0 jha jhi jlc jld jkJ jiT jj1 jjT jaN ja4 jaP jkk jha cyI jiR jhi cyI jiP) H → va_D A (wd02_3 a0 jha jhi jlc jld jkJ jiT jj1 jjT jaN ja4 jaP jkk jha cyI jiR jhi cyI jiP) → va_S A s.heap H locs → lv_has ls 5 [(0, .ref a0), (1, .int l1), (2, .int l2), (3, .int l3), (4, .int l4)] → wl_X2_formsWithin_5 jaN jiR jiP Q  n l1 l2 l3 l4 → W p l e (headSpec wsX2_formsWithin ({ frames := 2, cells := 0, slots := 0, locals := 54 })).room s m args below meth c H locs 0 0 (MQ below (va_Qi (fun (r : Int32) (_ : Unit) => Q r ) (cB (dC, dI) (kT cyB cyI cyJ cyP) A (fun u : Unit => ((wd02_3 a0 jha jhi jlc jld jkJ jiT jj1 jjT jaN ja4 jaP jkk jha cyI jiR jhi cyI jiP) : va_W))) A) args s 0 0 A) (F0 m 5 ls []) := by
  obtain ⟨hx, hb, hr, hts, hown, hlocks, hml, hA, hK, hNw⟩ := id C0
  intro n
  induction n with
  | zero => intro H locs ls l1 l2 l3 l4 hP hD hS hl hw; exact False.elim hw
  | succ n ih =>
    intro H locs ls l1 l2 l3 l4 hP hD hS hl hw
    refine lv_iload hx hb (dt_of tkX2_formsWithin_k0 4 rfl) (lv_at hl 4 rfl) ?_
    refine lv_aload_n hx hb (dt_of tkX2_formsWithin_k0 5 rfl) rfl (lv_at hl 0 rfl) ?_
    refine va_get (D := (dC, dI)) (ci := 2) (v := .int jaN) (C := RX2) (T := TX2) (N := 12) hx hb hts ui_X2_formsWithin_X2 hown hK hP 0 rfl rfl 8 (by decide) (hts _ uw_X2_formsWithin_f36) (fun _ h9 => h9) rfl (dt_of tkX2_formsWithin_k0 6 rfl) ?_
    refine lv_icmp_ge (tgt := 38) hx hb (dt_of tkX2_formsWithin_k0 7 rfl) (by decide) (fun c1 => ?_) (fun c1 => ?_)
    · have hw := hw.1 c1
      refine lv_iload_n hx hb (dt_of tkX2_formsWithin_k27 6 rfl) rfl (lv_at hl 3 rfl) ?_
      exact ((W.iret (v := l3) hx hb hr (fun t ht hW => ⟨⟨l3, (), rfl, hw, by rw [ht]; exact hP, va_K.moved hW.alike hK, hD⟩, hS.F ht⟩) hS.2.2 (dt_of tkX2_formsWithin_k27 7 rfl)))
    · have hw := hw.2 c1
      refine lv_aload_n hx hb (dt_of tkX2_formsWithin_k0 8 rfl) rfl (lv_at hl 0 rfl) ?_
      refine lv_iload_n hx hb (dt_of tkX2_formsWithin_k0 9 rfl) rfl (lv_at hl 1 rfl) ?_
      refine lv_iload hx hb (dt_of tkX2_formsWithin_k0 10 rfl) (lv_at hl 4 rfl) ?_
      obtain ⟨hCc, hPc, hDc, hFc⟩ := va_pick (ws' := (wd02_3 a0 jha jhi jlc jld jkJ jiT jj1 jjT jaN ja4 jaP jkk jha cyI jiR jhi cyI jiP)) hP hD hS hA [0, 1, 2] (by decide +kernel) rfl
      refine va_calli (va_runV (As := [.int l1, .int l4]) (rest := []) ⟨hx, hb, hml, hown, hts⟩ (ck_X2_apart l dC dI cyB cyI cyJ cyP a0 jha jhi H.size (jlc) (jld) (jkJ) (jiT) (jj1) (jjT) (.int jaN) (ja4) (jaP) (jkk) jiR jiP  l1 l4 hw) (cwV 2 hts gX2_formsWithin_X2_apart rfl rfl rfl (by decide +kernel) ⟨Nat.le_of_ble_eq_true rfl, Nat.le_of_ble_eq_true rfl⟩) ⟨cPc_blind, va_recv (q := (RX2, TX2, 12)) hK hPc (ci := 2) (q0 := 0) rfl rfl, cPc_pre hPc hK hDc hNw⟩ rfl rfl hl.1 rfl (lv_room (Nat.le_of_ble_eq_true rfl)) (dt_of tkX2_formsWithin_k0 11 rfl) ⟨Nat.le_of_ble_eq_true rfl, Nat.le_of_ble_eq_true rfl⟩) hS (fun q _ h => hFc q h) hFc (fun r2 u t H1 locs ht hvm hw hB hz1 hk1 hS => ?_)
      obtain ⟨hP1, hK1, hD1⟩ := hB
      rw [ht] at hP1
      obtain ⟨hP, hD⟩ := va_joinI (wr := []) (w1 := (wd02_3 a0 jha jhi jlc jld jkJ jiT jj1 jjT jaN ja4 jaP jkk jha cyI jiR jhi cyI jiP)) (wn := (wd02_3 a0 jha jhi jlc jld jkJ jiT jj1 jjT jaN ja4 jaP jkk jha cyI jiR jhi cyI jiP)) hP hD [0, 1, 2] [] hCc rfl (by decide +kernel) (by decide +kernel) rfl hk1 hFc hP1 hD1
      generalize H1 = H at hP hS ⊢
      refine lv_iload_n hx hb (dt_of tkX2_formsWithin_k0 12 rfl) rfl (lv_at hl 2 rfl) ?_
      refine lv_icmp_gt (tgt := 32) hx hb (dt_of tkX2_formsWithin_k0 13 rfl) (by decide) (fun c3 => ?_) (fun c3 => ?_)
      · have hw := hw.1 c3
        exact kb_X2_formsWithin_32 dC dI cyB cyI cyJ cyP a0 jha jhi jlc jld jkJ jiT jj1 jjT ja4 jaP jkk jaN jiR jiP Q (wl_X2_formsWithin_5 jaN jiR jiP Q  n) ih C0 _ _ _ l1 l2 l3 l4 hP hD hS (lv_sub hl [0, 1, 2, 3, 4] rfl) hw
      · have hw := hw.2 c3
        refine lv_iload_n hx hb (dt_of tkX2_formsWithin_k0 14 rfl) rfl (lv_at hl 3 rfl) ?_
        refine lv_iconst (v := 1) hx hb (dt_of tkX2_formsWithin_k0 15 rfl) (by decide) ?_
        refine lv_iload hx hb (dt_of tkX2_formsWithin_k27 0 rfl) (lv_at hl 4 rfl) ?_
        refine lv_ishl hx hb (dt_of tkX2_formsWithin_k27 1 rfl) ?_
        refine lv_ior hx hb (dt_of tkX2_formsWithin_k27 2 rfl) ?_
        refine lv_topi (fun x4 ex4 => ?_)
        have hw := hw x4 ex4
        refine lv_istore_n (lv' := [(3, .int x4), (0, .ref a0), (1, .int l1), (2, .int l2), (4, .int l4)]) hx hb (dt_of tkX2_formsWithin_k27 3 rfl) rfl hl (by decide) rfl (fun ls hl => ?_)
        exact kb_X2_formsWithin_32 dC dI cyB cyI cyJ cyP a0 jha jhi jlc jld jkJ jiT jj1 jjT ja4 jaP jkk jaN jiR jiP Q (wl_X2_formsWithin_5 jaN jiR jiP Q  n) ih C0 _ _ _ l1 l2 x4 l4 hP hD hS (lv_sub hl [1, 2, 3, 0, 4] rfl) hw
set_option maxHeartbeats 4000000 in
set_option maxRecDepth 100000 in
theorem ck_X2_formsWithin (l : Launch) (dC : Nat → ClassId) (dI : Nat → Nat → Nat) (cyB cyI cyJ cyP : ClassId) (a0 jha jhi sz : Nat) (jlc jld jkJ jiT jj1 jjT ja4 jaP jkk : Value) (jaN : Int32) (jiR jiP : Nat → Int32)  (p1 p2 : Int32) {Q : Int32 → Prop} (hw : wq_X2_formsWithin jaN jiR jiP  p1 p2 Q) : Met l yX2_formsWithin wsX2_formsWithin ({ frames := 2, cells := 0, slots := 0, locals := 54 }) (va_Pc [.ref a0, .int p1, .int p2] (cPc (dC, dI) (kT cyB cyI cyJ cyP) (wd02_3 a0 jha jhi jlc jld jkJ jiT jj1 jjT jaN ja4 jaP jkk jha cyI jiR jhi cyI jiP) sz)) (va_Qi (fun (r : Int32) (_ : Unit) => Q r ) (cB (dC, dI) (kT cyB cyI cyJ cyP) (va_A (wd02_3 a0 jha jhi jlc jld jkJ jiT jj1 jjT jaN ja4 jaP jkk jha cyI jiR jhi cyI jiP) sz) (fun u : Unit => ((wd02_3 a0 jha jhi jlc jld jkJ jiT jj1 jjT jaN ja4 jaP jkk jha cyI jiR jhi cyI jiP) : va_W))) (va_A (wd02_3 a0 jha jhi jlc jld jkJ jiT jj1 jjT jaN ja4 jaP jkk jha cyI jiR jhi cyI jiP) sz)) 0 0 (va_A (wd02_3 a0 jha jhi jlc jld jkJ jiT jj1 jjT jaN ja4 jaP jkk jha cyI jiR jhi cyI jiP) sz) := by
  refine Met.ofW (cc := cX2_formsWithin) (maxL := 5) (ret := (some .int)) (by decide) rfl ?_
  intro p e s m args below meth c s₁ B hml hv
  obtain ⟨rfl, hsz, hP, hK, hD0, hNw⟩ := hv
  have hx := B.exec
  have hb := B.bytes
  have hr := B.returns
  have hts := atoms_spec (ws := wsX2_formsWithin) B.pre
  have hown : s.vm.findClass RX2 = some m.cls := findClass_of_methodNamed B.named
  have hlocks := B.notSynchronized
  subst hsz
  have hD := hD0.self (sz := s.heap.size)
  generalize hAe : va_A (wd02_3 a0 jha jhi jlc jld jkJ jiT jj1 jjT jaN ja4 jaP jkk jha cyI jiR jhi cyI jiP) s.heap.size = A at hD ⊢
  have hA : ∀ q : Nat, s.heap.size ≤ q → A q := fun q h => by rw [← hAe]; exact Or.inr h
  have hS : va_S A s.heap s.heap [] := va_S.rf
  have hP : va_P (dC, dI) vwCl (wd02_3 a0 jha jhi jlc jld jkJ jiT jj1 jjT jaN ja4 jaP jkk jha cyI jiR jhi cyI jiP) s.heap := hP
  have hl := lv_entry ([.ref a0, .int p1, .int p2]) (n := 5) (Nat.le_of_ble_eq_true rfl)
  rw [lg_entry_eq]
  generalize (lg_sl ([.ref a0, .int p1, .int p2]) ++ List.replicate (5 - (lg_sl ([.ref a0, .int p1, .int p2])).length) Slot.unset).toArray = ls at hl ⊢
  have hl : lv_has ls 5 [(0, .ref a0), (1, .int p1), (2, .int p2)] := hl
  have C0 : cfx p s m _ meth c cX2_formsWithin (some .int) wsX2_formsWithin RX2 5 A (dC, dI) (kT cyB cyI cyJ cyP) := ⟨hx, hb, hr, hts, hown, hlocks, hml, hA, hK, hNw⟩
  clear hAe
  obtain ⟨H, hH⟩ : ∃ H, H = s.heap := ⟨_, rfl⟩
  rw [← hH] at hP ⊢
  have hS : va_S A s.heap H [] := by rw [hH]; exact va_S.rf
  have hS := hS
  refine lv_iconst (v := 0) hx hb (dt_of tkX2_formsWithin_k0 0 rfl) (by decide) ?_
  refine lv_istore_n (lv' := [(3, .int 0), (0, .ref a0), (1, .int p1), (2, .int p2)]) hx hb (dt_of tkX2_formsWithin_k0 1 rfl) rfl hl (by decide) rfl (fun ls hl => ?_)
  refine lv_iconst (v := 0) hx hb (dt_of tkX2_formsWithin_k0 2 rfl) (by decide) ?_
  refine lv_istore (lv' := [(4, .int 0), (3, .int 0), (0, .ref a0), (1, .int p1), (2, .int p2)]) hx hb (dt_of tkX2_formsWithin_k0 3 rfl) hl (by decide) rfl (fun ls hl => ?_)
  obtain ⟨n9, hw⟩ := hw
  exact kl_X2_formsWithin_5 dC dI cyB cyI cyJ cyP a0 jha jhi jlc jld jkJ jiT jj1 jjT ja4 jaP jkk jaN jiR jiP Q  C0 n9 _ _ _ p1 p2 0 0 hP hD hS (lv_sub hl [2, 3, 4, 1, 0] rfl) hw
theorem ui_X2_hopsBetween_X2 : ∀ w ∈ u_ws RX2 TX2 12, w ∈ wsX2_hopsBetween := uiM mbX2_hopsBetween euX2 (by decide +kernel)
theorem uw_X2_hopsBetween_f36 : (.fieldLink RX2 36 "MarchHares$Down" "forms" "I" : Cond) ∈ wsX2_hopsBetween := mbX2_hopsBetween 720 (by decide +kernel)
theorem uw_X2_hopsBetween_iniRX10 : (.initialized RX10 : Cond) ∈ wsX2_hopsBetween := mbX2_hopsBetween 2 (by decide +kernel)
theorem uw_X2_hopsBetween_stX10_holds : (.static yX10_holds : Cond) ∈ wsX2_hopsBetween := mbX2_hopsBetween 2052 (by decide +kernel)
set_option maxHeartbeats 4000000 in
set_option maxRecDepth 100000 in
theorem kb_X2_hopsBetween_65 {p : Program} {l : Launch} {e : Env} {s : State} {m : MethodId} {args : Array Value} {below : List Frame} {meth : Method} {c : Code} {A : Nat → Prop} (dC : Nat → ClassId) (dI : Nat → Nat → Nat) (cyB cyI cyJ cyP : ClassId) (a0 jha jhi : Nat) (jlc jld jkJ jiT jj1 jjT ja4 jaP jkk : Value) (jaN : Int32) (jiR jiP : Nat → Int32) (Q : Int32 → Prop) (K8 : Int32 → Int32 → Int32 → Int32 → Prop) (K34 : Int32 → Int32 → Int32 → Int32 → Int32 → Int32 → Prop) (hK8 : ∀ (H : Heap) (locs : List Loc) (ls : Array Slot) (l2 l3 l4 l5 : Int32), va_P (dC, dI) vwCl (wd02_3 a0 jha jhi jlc jld jkJ jiT jj1 jjT jaN ja4 jaP jkk jha cyI jiR jhi cyI jiP) H → va_D A (wd02_3 a0 jha jhi jlc jld jkJ jiT jj1 jjT jaN ja4 jaP jkk jha cyI jiR jhi cyI jiP) → va_S A s.heap H locs → lv_has ls 8 [(0, .ref a0), (2, .int l2), (3, .int l3), (4, .int l4), (5, .int l5)] → K8 l2 l3 l4 l5 → W p l e (headSpec wsX2_hopsBetween ({ frames := 3, cells := 0, slots := 0, locals := 78 })).room s m args below meth c H locs 0 0 (MQ below (va_Qi (fun (r : Int32) (_ : Unit) => Q r ) (cB (dC, dI) (kT cyB cyI cyJ cyP) A (fun u : Unit => ((wd02_3 a0 jha jhi jlc jld jkJ jiT jj1 jjT jaN ja4 jaP jkk jha cyI jiR jhi cyI jiP) : va_W))) A) args s 0 0 A) (F0 m 8 ls [])) (hK34 : ∀ (H : Heap) (locs : List Loc) (ls : Array Slot) (l2 l3 l4 l5 l6 l7 : Int32), va_P (dC, dI) vwCl (wd02_3 a0 jha jhi jlc jld jkJ jiT jj1 jjT jaN ja4 jaP jkk jha cyI jiR jhi cyI jiP) H → va_D A (wd02_3 a0 jha jhi jlc jld jkJ jiT jj1 jjT jaN ja4 jaP jkk jha cyI jiR jhi cyI jiP) → va_S A s.heap H locs → lv_has ls 8 [(0, .ref a0), (2, .int l2), (3, .int l3), (4, .int l4), (5, .int l5), (6, .int l6), (7, .int l7)] → K34 l2 l3 l4 l5 l6 l7 → W p l e (headSpec wsX2_hopsBetween ({ frames := 3, cells := 0, slots := 0, locals := 78 })).room s m args below meth c H locs 0 0 (MQ below (va_Qi (fun (r : Int32) (_ : Unit) => Q r ) (cB (dC, dI) (kT cyB cyI cyJ cyP) A (fun u : Unit => ((wd02_3 a0 jha jhi jlc jld jkJ jiT jj1 jjT jaN ja4 jaP jkk jha cyI jiR jhi cyI jiP) : va_W))) A) args s 0 0 A) (F0 m 34 ls [])) (C0 : cfx p s m args meth c cX2_hopsBetween (some .int) wsX2_hopsBetween RX2 8 A (dC, dI) (kT cyB cyI cyJ cyP)) : ∀ (H : Heap) (locs : List Loc) (ls : Array Slot) (l2 l3 l4 l5 l6 l7 : Int32), va_P (dC, dI) vwCl (wd02_3 a0 jha jhi jlc jld jkJ jiT jj1 jjT jaN ja4 jaP jkk jha cyI jiR jhi cyI jiP) H → va_D A (wd02_3 a0 jha jhi jlc jld jkJ jiT jj1 jjT jaN ja4 jaP jkk jha cyI jiR jhi cyI jiP) → va_S A s.heap H locs → lv_has ls 8 [(0, .ref a0), (2, .int l2), (3, .int l3), (4, .int l4), (5, .int l5), (6, .int l6), (7, .int l7)] → wb_X2_hopsBetween_65 jaN jiR jiP Q K8 K34 l2 l3 l4 l5 l6 l7 → W p l e (headSpec wsX2_hopsBetween ({ frames := 3, cells := 0, slots := 0, locals := 78 })).room s m args below meth c H locs 0 0 (MQ below (va_Qi (fun (r : Int32) (_ : Unit) => Q r ) (cB (dC, dI) (kT cyB cyI cyJ cyP) A (fun u : Unit => ((wd02_3 a0 jha jhi jlc jld jkJ jiT jj1 jjT jaN ja4 jaP jkk jha cyI jiR jhi cyI jiP) : va_W))) A) args s 0 0 A) (F0 m 65 ls []) := by
  obtain ⟨hx, hb, hr, hts, hown, hlocks, hml, hA, hK, hNw⟩ := id C0
  intro H locs ls l2 l3 l4 l5 l6 l7 hP hD hS hl hw
  obtain ⟨x11, ex11⟩ : ∃ y : Int32, y = l7 + 1 := ⟨_, rfl⟩
  have hw := hw x11 ex11
  refine lv_iinc (v := x11) (lv' := [(7, .int x11), (0, .ref a0), (2, .int l2), (3, .int l3), (4, .int l4), (5, .int l5), (6, .int l6)]) hx hb (dt_of tkX2_hopsBetween_k62 2 rfl) hl (k := 6) rfl (by rw [ex11]; rfl) (by decide) rfl (fun ls hl => ?_)
  refine lv_goto (tgt := 34) hx hb (dt_of tkX2_hopsBetween_k62 3 rfl) (by decide) ?_
  exact hK34 _ _ _ l2 l3 l4 l5 l6 x11 hP hD hS (lv_sub hl [1, 2, 3, 4, 5, 6, 0] rfl) hw
set_option maxHeartbeats 4000000 in
set_option maxRecDepth 100000 in
theorem kl_X2_hopsBetween_34 {p : Program} {l : Launch} {e : Env} {s : State} {m : MethodId} {args : Array Value} {below : List Frame} {meth : Method} {c : Code} {A : Nat → Prop} (dC : Nat → ClassId) (dI : Nat → Nat → Nat) (cyB cyI cyJ cyP : ClassId) (a0 jha jhi : Nat) (jlc jld jkJ jiT jj1 jjT ja4 jaP jkk : Value) (jaN : Int32) (jiR jiP : Nat → Int32) (Q : Int32 → Prop) (K8 : Int32 → Int32 → Int32 → Int32 → Prop) (hK8 : ∀ (H : Heap) (locs : List Loc) (ls : Array Slot) (l2 l3 l4 l5 : Int32), va_P (dC, dI) vwCl (wd02_3 a0 jha jhi jlc jld jkJ jiT jj1 jjT jaN ja4 jaP jkk jha cyI jiR jhi cyI jiP) H → va_D A (wd02_3 a0 jha jhi jlc jld jkJ jiT jj1 jjT jaN ja4 jaP jkk jha cyI jiR jhi cyI jiP) → va_S A s.heap H locs → lv_has ls 8 [(0, .ref a0), (2, .int l2), (3, .int l3), (4, .int l4), (5, .int l5)] → K8 l2 l3 l4 l5 → W p l e (headSpec wsX2_hopsBetween ({ frames := 3, cells := 0, slots := 0, locals := 78 })).room s m args below meth c H locs 0 0 (MQ below (va_Qi (fun (r : Int32) (_ : Unit) => Q r ) (cB (dC, dI) (kT cyB cyI cyJ cyP) A (fun u : Unit => ((wd02_3 a0 jha jhi jlc jld jkJ jiT jj1 jjT jaN ja4 jaP jkk jha cyI jiR jhi cyI jiP) : va_W))) A) args s 0 0 A) (F0 m 8 ls [])) (C0 : cfx p s m args meth c cX2_hopsBetween (some .int) wsX2_hopsBetween RX2 8 A (dC, dI) (kT cyB cyI cyJ cyP)) : ∀ (n : Nat) (H : Heap) (locs : List Loc) (ls : Array Slot) (l2 l3 l4 l5 l6 l7 : Int32), va_P (dC, dI) vwCl (wd02_3 a0 jha jhi jlc jld jkJ jiT jj1 jjT jaN ja4 jaP jkk jha cyI jiR jhi cyI jiP) H → va_D A (wd02_3 a0 jha jhi jlc jld jkJ jiT jj1 jjT jaN ja4 jaP jkk jha cyI jiR jhi cyI jiP) → va_S A s.heap H locs → lv_has ls 8 [(0, .ref a0), (2, .int l2), (3, .int l3), (4, .int l4), (5, .int l5), (6, .int l6), (7, .int l7)] → wl_X2_hopsBetween_34 jaN jiR jiP Q K8 n l2 l3 l4 l5 l6 l7 → W p l e (headSpec wsX2_hopsBetween ({ frames := 3, cells := 0, slots := 0, locals := 78 })).room s m args below meth c H locs 0 0 (MQ below (va_Qi (fun (r : Int32) (_ : Unit) => Q r ) (cB (dC, dI) (kT cyB cyI cyJ cyP) A (fun u : Unit => ((wd02_3 a0 jha jhi jlc jld jkJ jiT jj1 jjT jaN ja4 jaP jkk jha cyI jiR jhi cyI jiP) : va_W))) A) args s 0 0 A) (F0 m 34 ls []) := by
  obtain ⟨hx, hb, hr, hts, hown, hlocks, hml, hA, hK, hNw⟩ := id C0
  intro n
  induction n with
  | zero => intro H locs ls l2 l3 l4 l5 l6 l7 hP hD hS hl hw; exact False.elim hw
  | succ n ih =>
    intro H locs ls l2 l3 l4 l5 l6 l7 hP hD hS hl hw
    refine lv_iload hx hb (dt_of tkX2_hopsBetween_k29 3 rfl) (lv_at hl 6 rfl) ?_
    refine lv_aload_n hx hb (dt_of tkX2_hopsBetween_k29 4 rfl) rfl (lv_at hl 0 rfl) ?_
    refine va_get (D := (dC, dI)) (ci := 2) (v := .int jaN) (C := RX2) (T := TX2) (N := 12) hx hb hts ui_X2_hopsBetween_X2 hown hK hP 0 rfl rfl 8 (by decide) (hts _ uw_X2_hopsBetween_f36) (fun _ h9 => h9) rfl (dt_of tkX2_hopsBetween_k29 5 rfl) ?_
    refine lv_icmp_ge (tgt := 71) hx hb (dt_of tkX2_hopsBetween_k29 6 rfl) (by decide) (fun c5 => ?_) (fun c5 => ?_)
    · have hw := hw.1 c5
      refine lv_iload hx hb (dt_of tkX2_hopsBetween_k62 4 rfl) (lv_at hl 5 rfl) ?_
      refine lv_istore (lv' := [(4, .int l6), (0, .ref a0), (2, .int l2), (3, .int l3), (5, .int l5), (6, .int l6), (7, .int l7)]) hx hb (dt_of tkX2_hopsBetween_k62 5 rfl) hl (by decide) rfl (fun ls hl => ?_)
      obtain ⟨x6, ex6⟩ : ∃ y : Int32, y = l5 + 1 := ⟨_, rfl⟩
      have hw := hw x6 ex6
      refine lv_iinc (v := x6) (lv' := [(5, .int x6), (4, .int l6), (0, .ref a0), (2, .int l2), (3, .int l3), (6, .int l6), (7, .int l7)]) hx hb (dt_of tkX2_hopsBetween_k62 6 rfl) hl (k := 4) rfl (by rw [ex6]; rfl) (by decide) rfl (fun ls hl => ?_)
      refine lv_goto (tgt := 8) hx hb (dt_of tkX2_hopsBetween_k62 7 rfl) (by decide) ?_
      exact hK8 _ _ _ l2 l3 l6 x6 hP hD hS (lv_sub hl [2, 3, 4, 1, 0] rfl) hw
    · have hw := hw.2 c5
      refine lv_iload hx hb (dt_of tkX2_hopsBetween_k29 7 rfl) (lv_at hl 3 rfl) ?_
      refine lv_iload hx hb (dt_of tkX2_hopsBetween_k29 8 rfl) (lv_at hl 6 rfl) ?_
      obtain ⟨hCc, hPc, hDc, hFc⟩ := va_pick (ws' := []) hP hD hS hA [] (by decide +kernel) rfl
      refine va_calli (va_runSN (As := [.int l4, .int l7]) (rest := []) ⟨hx, hb, hml, hown, hts⟩ (ck_X10_holds l dC dI cyB cyI cyJ cyP  H.size    l4 l7 hw) ⟨(va_cnB 2 hts gX2_hopsBetween_X10_holds_n114 rfl rfl rfl (nw_10 hNw) (hts _ uw_X2_hopsBetween_iniRX10) (by decide +kernel) ⟨Nat.le_of_ble_eq_true rfl, Nat.le_of_ble_eq_true rfl⟩), (hts _ uw_X2_hopsBetween_stX10_holds), trivial⟩ ⟨cPc_blind, cPc_pre hPc hK hDc hNw⟩ rfl rfl hl.1 rfl (lv_room (Nat.le_of_ble_eq_true rfl)) (dt_of tkX2_hopsBetween_k29 9 rfl) ⟨Nat.le_of_ble_eq_true rfl, Nat.le_of_ble_eq_true rfl⟩) hS (fun q _ h => hFc q h) hFc (fun r7 u t H1 locs ht hvm hw hB hz1 hk1 hS => ?_)
      obtain ⟨hP1, hK1, hD1⟩ := hB
      rw [ht] at hP1
      obtain ⟨hP, hD⟩ := va_joinI (wr := (wd02_3 a0 jha jhi jlc jld jkJ jiT jj1 jjT jaN ja4 jaP jkk jha cyI jiR jhi cyI jiP)) (w1 := []) (wn := (wd02_3 a0 jha jhi jlc jld jkJ jiT jj1 jjT jaN ja4 jaP jkk jha cyI jiR jhi cyI jiP)) hP hD [] [0, 1, 2] hCc rfl (by decide +kernel) (by decide +kernel) rfl hk1 hFc hP1 hD1
      generalize H1 = H at hP hS ⊢
      refine lv_if_eq (tgt := 65) hx hb (dt_of tkX2_hopsBetween_k29 10 rfl) (by decide) (fun c8 => ?_) (fun c8 => ?_)
      · have hw := hw.1 c8
        exact kb_X2_hopsBetween_65 dC dI cyB cyI cyJ cyP a0 jha jhi jlc jld jkJ jiT jj1 jjT ja4 jaP jkk jaN jiR jiP Q K8 (wl_X2_hopsBetween_34 jaN jiR jiP Q K8 n) hK8 ih C0 _ _ _ l2 l3 l4 l5 l6 l7 hP hD hS (lv_sub hl [0, 1, 2, 3, 4, 5, 6] rfl) hw
      · have hw := hw.2 c8
        refine lv_iload hx hb (dt_of tkX2_hopsBetween_k29 11 rfl) (lv_at hl 5 rfl) ?_
        refine lv_aload_n hx hb (dt_of tkX2_hopsBetween_k29 12 rfl) rfl (lv_at hl 0 rfl) ?_
        refine lv_iload hx hb (dt_of tkX2_hopsBetween_k29 13 rfl) (lv_at hl 6 rfl) ?_
        refine lv_iload_n hx hb (dt_of tkX2_hopsBetween_k29 14 rfl) rfl (lv_at hl 2 rfl) ?_
        obtain ⟨hCc, hPc, hDc, hFc⟩ := va_pick (ws' := (wd02_3 a0 jha jhi jlc jld jkJ jiT jj1 jjT jaN ja4 jaP jkk jha cyI jiR jhi cyI jiP)) hP hD hS hA [0, 1, 2] (by decide +kernel) rfl
        refine va_calli (va_runV (As := [.int l7, .int l3]) (rest := [.int l6]) ⟨hx, hb, hml, hown, hts⟩ (ck_X2_formsWithin l dC dI cyB cyI cyJ cyP a0 jha jhi H.size (jlc) (jld) (jkJ) (jiT) (jj1) (jjT) (ja4) (jaP) (jkk) jaN jiR jiP  l7 l3 hw) (cwV 2 hts gX2_hopsBetween_X2_formsWithin rfl rfl rfl (by decide +kernel) ⟨Nat.le_of_ble_eq_true rfl, Nat.le_of_ble_eq_true rfl⟩) ⟨cPc_blind, va_recv (q := (RX2, TX2, 12)) hK hPc (ci := 2) (q0 := 0) rfl rfl, cPc_pre hPc hK hDc hNw⟩ rfl rfl hl.1 rfl (lv_room (Nat.le_of_ble_eq_true rfl)) (dt_of tkX2_hopsBetween_k29 15 rfl) ⟨Nat.le_of_ble_eq_true rfl, Nat.le_of_ble_eq_true rfl⟩) hS (fun q _ h => hFc q h) hFc (fun r9 u t H1 locs ht hvm hw hB hz1 hk1 hS => ?_)
        obtain ⟨hP1, hK1, hD1⟩ := hB
        rw [ht] at hP1
        obtain ⟨hP, hD⟩ := va_joinI (wr := []) (w1 := (wd02_3 a0 jha jhi jlc jld jkJ jiT jj1 jjT jaN ja4 jaP jkk jha cyI jiR jhi cyI jiP)) (wn := (wd02_3 a0 jha jhi jlc jld jkJ jiT jj1 jjT jaN ja4 jaP jkk jha cyI jiR jhi cyI jiP)) hP hD [0, 1, 2] [] hCc rfl (by decide +kernel) (by decide +kernel) rfl hk1 hFc hP1 hD1
        generalize H1 = H at hP hS ⊢
        refine lv_ior hx hb (dt_of tkX2_hopsBetween_k62 0 rfl) ?_
        refine lv_topi (fun x10 ex10 => ?_)
        have hw := hw x10 ex10
        refine lv_istore (lv' := [(6, .int x10), (0, .ref a0), (2, .int l2), (3, .int l3), (4, .int l4), (5, .int l5), (7, .int l7)]) hx hb (dt_of tkX2_hopsBetween_k62 1 rfl) hl (by decide) rfl (fun ls hl => ?_)
        exact kb_X2_hopsBetween_65 dC dI cyB cyI cyJ cyP a0 jha jhi jlc jld jkJ jiT jj1 jjT ja4 jaP jkk jaN jiR jiP Q K8 (wl_X2_hopsBetween_34 jaN jiR jiP Q K8 n) hK8 ih C0 _ _ _ l2 l3 l4 l5 x10 l7 hP hD hS (lv_sub hl [1, 2, 3, 4, 5, 0, 6] rfl) hw
set_option maxHeartbeats 4000000 in
set_option maxRecDepth 100000 in
theorem kl_X2_hopsBetween_8 {p : Program} {l : Launch} {e : Env} {s : State} {m : MethodId} {args : Array Value} {below : List Frame} {meth : Method} {c : Code} {A : Nat → Prop} (dC : Nat → ClassId) (dI : Nat → Nat → Nat) (cyB cyI cyJ cyP : ClassId) (a0 jha jhi : Nat) (jlc jld jkJ jiT jj1 jjT ja4 jaP jkk : Value) (jaN : Int32) (jiR jiP : Nat → Int32) (Q : Int32 → Prop)  (C0 : cfx p s m args meth c cX2_hopsBetween (some .int) wsX2_hopsBetween RX2 8 A (dC, dI) (kT cyB cyI cyJ cyP)) : ∀ (n : Nat) (H : Heap) (locs : List Loc) (ls : Array Slot) (l2 l3 l4 l5 : Int32), va_P (dC, dI) vwCl (wd02_3 a0 jha jhi jlc jld jkJ jiT jj1 jjT jaN ja4 jaP jkk jha cyI jiR jhi cyI jiP) H → va_D A (wd02_3 a0 jha jhi jlc jld jkJ jiT jj1 jjT jaN ja4 jaP jkk jha cyI jiR jhi cyI jiP) → va_S A s.heap H locs → lv_has ls 8 [(0, .ref a0), (2, .int l2), (3, .int l3), (4, .int l4), (5, .int l5)] → wl_X2_hopsBetween_8 jaN jiR jiP Q  n l2 l3 l4 l5 → W p l e (headSpec wsX2_hopsBetween ({ frames := 3, cells := 0, slots := 0, locals := 78 })).room s m args below meth c H locs 0 0 (MQ below (va_Qi (fun (r : Int32) (_ : Unit) => Q r ) (cB (dC, dI) (kT cyB cyI cyJ cyP) A (fun u : Unit => ((wd02_3 a0 jha jhi jlc jld jkJ jiT jj1 jjT jaN ja4 jaP jkk jha cyI jiR jhi cyI jiP) : va_W))) A) args s 0 0 A) (F0 m 8 ls []) := by
  obtain ⟨hx, hb, hr, hts, hown, hlocks, hml, hA, hK, hNw⟩ := id C0
  intro n
  induction n with
  | zero => intro H locs ls l2 l3 l4 l5 hP hD hS hl hw; exact False.elim hw
  | succ n ih =>
    intro H locs ls l2 l3 l4 l5 hP hD hS hl hw
    refine lv_iload hx hb (dt_of tkX2_hopsBetween_k0 6 rfl) (lv_at hl 4 rfl) ?_
    refine lv_bipush (v := 8) hx hb (dt_of tkX2_hopsBetween_k0 7 rfl) (by decide) ?_
    refine lv_icmp_ge (tgt := 81) hx hb (dt_of tkX2_hopsBetween_k0 8 rfl) (by decide) (fun c2 => ?_) (fun c2 => ?_)
    · have hw := hw.1 c2
      refine lv_iconst (v := (-1)) hx hb (dt_of tkX2_hopsBetween_k62 8 rfl) (by decide) ?_
      exact ((W.iret (v := (-1)) hx hb hr (fun t ht hW => ⟨⟨(-1), (), rfl, hw, by rw [ht]; exact hP, va_K.moved hW.alike hK, hD⟩, hS.F ht⟩) hS.2.2 (dt_of tkX2_hopsBetween_k62 9 rfl)))
    · have hw := hw.2 c2
      refine lv_iload hx hb (dt_of tkX2_hopsBetween_k0 9 rfl) (lv_at hl 3 rfl) ?_
      refine lv_iload_n hx hb (dt_of tkX2_hopsBetween_k0 10 rfl) rfl (lv_at hl 1 rfl) ?_
      obtain ⟨hCc, hPc, hDc, hFc⟩ := va_pick (ws' := []) hP hD hS hA [] (by decide +kernel) rfl
      refine va_calli (va_runSN (As := [.int l4, .int l2]) (rest := []) ⟨hx, hb, hml, hown, hts⟩ (ck_X10_holds l dC dI cyB cyI cyJ cyP  H.size    l4 l2 hw) ⟨(va_cnB 2 hts gX2_hopsBetween_X10_holds_n114 rfl rfl rfl (nw_10 hNw) (hts _ uw_X2_hopsBetween_iniRX10) (by decide +kernel) ⟨Nat.le_of_ble_eq_true rfl, Nat.le_of_ble_eq_true rfl⟩), (hts _ uw_X2_hopsBetween_stX10_holds), trivial⟩ ⟨cPc_blind, cPc_pre hPc hK hDc hNw⟩ rfl rfl hl.1 rfl (lv_room (Nat.le_of_ble_eq_true rfl)) (dt_of tkX2_hopsBetween_k0 11 rfl) ⟨Nat.le_of_ble_eq_true rfl, Nat.le_of_ble_eq_true rfl⟩) hS (fun q _ h => hFc q h) hFc (fun r3 u t H1 locs ht hvm hw hB hz1 hk1 hS => ?_)
      obtain ⟨hP1, hK1, hD1⟩ := hB
      rw [ht] at hP1
      obtain ⟨hP, hD⟩ := va_joinI (wr := (wd02_3 a0 jha jhi jlc jld jkJ jiT jj1 jjT jaN ja4 jaP jkk jha cyI jiR jhi cyI jiP)) (w1 := []) (wn := (wd02_3 a0 jha jhi jlc jld jkJ jiT jj1 jjT jaN ja4 jaP jkk jha cyI jiR jhi cyI jiP)) hP hD [] [0, 1, 2] hCc rfl (by decide +kernel) (by decide +kernel) rfl hk1 hFc hP1 hD1
      generalize H1 = H at hP hS ⊢
      refine lv_if_eq (tgt := 27) hx hb (dt_of tkX2_hopsBetween_k0 12 rfl) (by decide) (fun c4 => ?_) (fun c4 => ?_)
      · have hw := hw.1 c4
        refine lv_iload hx hb (dt_of tkX2_hopsBetween_k0 15 rfl) (lv_at hl 3 rfl) ?_
        refine lv_istore (lv' := [(6, .int l4), (0, .ref a0), (2, .int l2), (3, .int l3), (4, .int l4), (5, .int l5)]) hx hb (dt_of tkX2_hopsBetween_k29 0 rfl) hl (by decide) rfl (fun ls hl => ?_)
        refine lv_iconst (v := 0) hx hb (dt_of tkX2_hopsBetween_k29 1 rfl) (by decide) ?_
        refine lv_istore (lv' := [(7, .int 0), (6, .int l4), (0, .ref a0), (2, .int l2), (3, .int l3), (4, .int l4), (5, .int l5)]) hx hb (dt_of tkX2_hopsBetween_k29 2 rfl) hl (by decide) rfl (fun ls hl => ?_)
        obtain ⟨n9, hw⟩ := hw
        exact kl_X2_hopsBetween_34 dC dI cyB cyI cyJ cyP a0 jha jhi jlc jld jkJ jiT jj1 jjT ja4 jaP jkk jaN jiR jiP Q (wl_X2_hopsBetween_8 jaN jiR jiP Q  n) ih C0 n9 _ _ _ l2 l3 l4 l5 l4 0 hP hD hS (lv_sub hl [2, 3, 4, 5, 6, 1, 0] rfl) hw
      · have hw := hw.2 c4
        refine lv_iload hx hb (dt_of tkX2_hopsBetween_k0 13 rfl) (lv_at hl 4 rfl) ?_
        exact ((W.iret (v := l5) hx hb hr (fun t ht hW => ⟨⟨l5, (), rfl, hw, by rw [ht]; exact hP, va_K.moved hW.alike hK, hD⟩, hS.F ht⟩) hS.2.2 (dt_of tkX2_hopsBetween_k0 14 rfl)))
set_option maxHeartbeats 4000000 in
set_option maxRecDepth 100000 in
theorem ck_X2_hopsBetween (l : Launch) (dC : Nat → ClassId) (dI : Nat → Nat → Nat) (cyB cyI cyJ cyP : ClassId) (a0 jha jhi sz : Nat) (jlc jld jkJ jiT jj1 jjT ja4 jaP jkk : Value) (jaN : Int32) (jiR jiP : Nat → Int32)  (p1 p2 p3 : Int32) {Q : Int32 → Prop} (hw : wq_X2_hopsBetween jaN jiR jiP  p1 p2 p3 Q) : Met l yX2_hopsBetween wsX2_hopsBetween ({ frames := 3, cells := 0, slots := 0, locals := 78 }) (va_Pc [.ref a0, .int p1, .int p2, .int p3] (cPc (dC, dI) (kT cyB cyI cyJ cyP) (wd02_3 a0 jha jhi jlc jld jkJ jiT jj1 jjT jaN ja4 jaP jkk jha cyI jiR jhi cyI jiP) sz)) (va_Qi (fun (r : Int32) (_ : Unit) => Q r ) (cB (dC, dI) (kT cyB cyI cyJ cyP) (va_A (wd02_3 a0 jha jhi jlc jld jkJ jiT jj1 jjT jaN ja4 jaP jkk jha cyI jiR jhi cyI jiP) sz) (fun u : Unit => ((wd02_3 a0 jha jhi jlc jld jkJ jiT jj1 jjT jaN ja4 jaP jkk jha cyI jiR jhi cyI jiP) : va_W))) (va_A (wd02_3 a0 jha jhi jlc jld jkJ jiT jj1 jjT jaN ja4 jaP jkk jha cyI jiR jhi cyI jiP) sz)) 0 0 (va_A (wd02_3 a0 jha jhi jlc jld jkJ jiT jj1 jjT jaN ja4 jaP jkk jha cyI jiR jhi cyI jiP) sz) := by
  refine Met.ofW (cc := cX2_hopsBetween) (maxL := 8) (ret := (some .int)) (by decide) rfl ?_
  intro p e s m args below meth c s₁ B hml hv
  obtain ⟨rfl, hsz, hP, hK, hD0, hNw⟩ := hv
  have hx := B.exec
  have hb := B.bytes
  have hr := B.returns
  have hts := atoms_spec (ws := wsX2_hopsBetween) B.pre
  have hown : s.vm.findClass RX2 = some m.cls := findClass_of_methodNamed B.named
  have hlocks := B.notSynchronized
  subst hsz
  have hD := hD0.self (sz := s.heap.size)
  generalize hAe : va_A (wd02_3 a0 jha jhi jlc jld jkJ jiT jj1 jjT jaN ja4 jaP jkk jha cyI jiR jhi cyI jiP) s.heap.size = A at hD ⊢
  have hA : ∀ q : Nat, s.heap.size ≤ q → A q := fun q h => by rw [← hAe]; exact Or.inr h
  have hS : va_S A s.heap s.heap [] := va_S.rf
  have hP : va_P (dC, dI) vwCl (wd02_3 a0 jha jhi jlc jld jkJ jiT jj1 jjT jaN ja4 jaP jkk jha cyI jiR jhi cyI jiP) s.heap := hP
  have hl := lv_entry ([.ref a0, .int p1, .int p2, .int p3]) (n := 8) (Nat.le_of_ble_eq_true rfl)
  rw [lg_entry_eq]
  generalize (lg_sl ([.ref a0, .int p1, .int p2, .int p3]) ++ List.replicate (8 - (lg_sl ([.ref a0, .int p1, .int p2, .int p3])).length) Slot.unset).toArray = ls at hl ⊢
  have hl : lv_has ls 8 [(0, .ref a0), (1, .int p1), (2, .int p2), (3, .int p3)] := hl
  have C0 : cfx p s m _ meth c cX2_hopsBetween (some .int) wsX2_hopsBetween RX2 8 A (dC, dI) (kT cyB cyI cyJ cyP) := ⟨hx, hb, hr, hts, hown, hlocks, hml, hA, hK, hNw⟩
  clear hAe
  obtain ⟨H, hH⟩ : ∃ H, H = s.heap := ⟨_, rfl⟩
  rw [← hH] at hP ⊢
  have hS : va_S A s.heap H [] := by rw [hH]; exact va_S.rf
  have hS := hS
  refine lv_iconst (v := 1) hx hb (dt_of tkX2_hopsBetween_k0 0 rfl) (by decide) ?_
  refine lv_iload_n hx hb (dt_of tkX2_hopsBetween_k0 1 rfl) rfl (lv_at hl 1 rfl) ?_
  refine lv_ishl hx hb (dt_of tkX2_hopsBetween_k0 2 rfl) ?_
  refine lv_topi (fun x1 ex1 => ?_)
  have hw := hw x1 ex1
  refine lv_istore (lv' := [(4, .int x1), (0, .ref a0), (1, .int p1), (2, .int p2), (3, .int p3)]) hx hb (dt_of tkX2_hopsBetween_k0 3 rfl) hl (by decide) rfl (fun ls hl => ?_)
  refine lv_iconst (v := 0) hx hb (dt_of tkX2_hopsBetween_k0 4 rfl) (by decide) ?_
  refine lv_istore (lv' := [(5, .int 0), (4, .int x1), (0, .ref a0), (1, .int p1), (2, .int p2), (3, .int p3)]) hx hb (dt_of tkX2_hopsBetween_k0 5 rfl) hl (by decide) rfl (fun ls hl => ?_)
  obtain ⟨n9, hw⟩ := hw
  exact kl_X2_hopsBetween_8 dC dI cyB cyI cyJ cyP a0 jha jhi jlc jld jkJ jiT jj1 jjT ja4 jaP jkk jaN jiR jiP Q  C0 n9 _ _ _ p2 p3 x1 0 hP hD hS (lv_sub hl [2, 4, 5, 1, 0] rfl) hw
theorem ui_X10_hops_X10 : ∀ w ∈ u_ws RX10 TX10 19, w ∈ wsX10_hops := uiM mbX10_hops euX10 (by decide +kernel)
theorem uw_X10_hops_f19 : (.fieldLink RX10 19 "MarchHares" "ground" "LMarchHares$Down;" : Cond) ∈ wsX10_hops := mbX10_hops 20 (by decide +kernel)
theorem uw_X10_hops_f58 : (.fieldLink RX10 58 "MarchHares" "now" "LMarchHares$Days;" : Cond) ∈ wsX10_hops := mbX10_hops 79 (by decide +kernel)
set_option maxHeartbeats 4000000 in
set_option maxRecDepth 100000 in
theorem ck_X10_hops (l : Launch) (dC : Nat → ClassId) (dI : Nat → Nat → Nat) (cyB cyI cyJ cyP : ClassId) (a0 jaR jaT jbb jb6 jcc jck jbW jbL jbs jbt sz : Nat) (jaK ja1 jcp jbc jbV ja3 jbH jbO jaq jac jbI jbl jbn jba jaa jdD jbo jbp jbk jbj jbe jbq jbi jcd jbr : Value) (jbE jbm : Int32) (jbQ : Nat → Int32) (jdh : Int32) (jdN jdi jci jcj : Nat → Int32) (jdu : Int32) (jfl jfK : Nat → Int32) (p1 p2 : Int32) {E : String → Int32 → (Nat → Int32) → (Nat → Int32) → Prop} {Q : Int32 → Int32 → (Nat → Int32) → (Nat → Int32) → Prop} (hw : wq_X10_hops jbE jbm jbQ jdh jdN jdi jci jcj jdu jfl jfK p1 p2 E Q) : vx_Met l yX10_hops wsX10_hops ({ frames := 7, cells := 2, slots := 12, locals := 141 }) (va_Pc [.ref a0, .int p1, .int p2] (cPx l (dC, dI) (kT cyB cyI cyJ cyP) (wd02_46 a0 jaK jaR ja1 jcp jbc jbV ja3 jbH jaT jbO jaq jac jbI jbl jbn jba jaa jdu jdD jaR jbs jbt jbo jbp jbk jbj jbe jbq jbE jbm jbi jcd jaT jbb jbr jaR jb6 jbb cyI jbQ jb6 jbW jbL jck jcc jdh jcc cyI jfl jck cyI jfK jbW cyI jdN jbL cyI jdi jbs cyI jci jbt cyI jcj) sz)) (va_Qi (fun (r : Int32) (u : Int32 × (Nat → Int32) × (Nat → Int32)) => Q r u.1 u.2.1 u.2.2) (cB (dC, dI) (kT cyB cyI cyJ cyP) (va_A (wd02_46 a0 jaK jaR ja1 jcp jbc jbV ja3 jbH jaT jbO jaq jac jbI jbl jbn jba jaa jdu jdD jaR jbs jbt jbo jbp jbk jbj jbe jbq jbE jbm jbi jcd jaT jbb jbr jaR jb6 jbb cyI jbQ jb6 jbW jbL jck jcc jdh jcc cyI jfl jck cyI jfK jbW cyI jdN jbL cyI jdi jbs cyI jci jbt cyI jcj) sz) (fun u : Int32 × (Nat → Int32) × (Nat → Int32) => ((wd02_46 a0 jaK jaR ja1 jcp jbc jbV ja3 jbH jaT jbO jaq jac jbI jbl jbn jba jaa u.1 jdD jaR jbs jbt jbo jbp jbk jbj jbe jbq jbE jbm jbi jcd jaT jbb jbr jaR jb6 jbb cyI jbQ jb6 jbW jbL jck jcc jdh jcc cyI u.2.1 jck cyI u.2.2 jbW cyI jdN jbL cyI jdi jbs cyI jci jbt cyI jcj) : va_W))) (va_A (wd02_46 a0 jaK jaR ja1 jcp jbc jbV ja3 jbH jaT jbO jaq jac jbI jbl jbn jba jaa jdu jdD jaR jbs jbt jbo jbp jbk jbj jbe jbq jbE jbm jbi jcd jaT jbb jbr jaR jb6 jbb cyI jbQ jb6 jbW jbL jck jcc jdh jcc cyI jfl jck cyI jfK jbW cyI jdN jbL cyI jdi jbs cyI jci jbt cyI jcj) sz)) (vx_X (fun _ => True) (fun (en : String) (u : Int32 × (Nat → Int32) × (Nat → Int32)) (t : State) => E en u.1 u.2.1 u.2.2 ∧ cB (dC, dI) (kT cyB cyI cyJ cyP) (va_A (wd02_46 a0 jaK jaR ja1 jcp jbc jbV ja3 jbH jaT jbO jaq jac jbI jbl jbn jba jaa jdu jdD jaR jbs jbt jbo jbp jbk jbj jbe jbq jbE jbm jbi jcd jaT jbb jbr jaR jb6 jbb cyI jbQ jb6 jbW jbL jck jcc jdh jcc cyI jfl jck cyI jfK jbW cyI jdN jbL cyI jdi jbs cyI jci jbt cyI jcj) sz) (fun u : Int32 × (Nat → Int32) × (Nat → Int32) => ((wd02_46 a0 jaK jaR ja1 jcp jbc jbV ja3 jbH jaT jbO jaq jac jbI jbl jbn jba jaa u.1 jdD jaR jbs jbt jbo jbp jbk jbj jbe jbq jbE jbm jbi jcd jaT jbb jbr jaR jb6 jbb cyI jbQ jb6 jbW jbL jck jcc jdh jcc cyI u.2.1 jck cyI u.2.2 jbW cyI jdN jbL cyI jdi jbs cyI jci jbt cyI jcj) : va_W)) u t) (va_A (wd02_46 a0 jaK jaR ja1 jcp jbc jbV ja3 jbH jaT jbO jaq jac jbI jbl jbn jba jaa jdu jdD jaR jbs jbt jbo jbp jbk jbj jbe jbq jbE jbm jbi jcd jaT jbb jbr jaR jb6 jbb cyI jbQ jb6 jbW jbL jck jcc jdh jcc cyI jfl jck cyI jfK jbW cyI jdN jbL cyI jdi jbs cyI jci jbt cyI jcj) sz)) 2 12 (va_A (wd02_46 a0 jaK jaR ja1 jcp jbc jbV ja3 jbH jaT jbO jaq jac jbI jbl jbn jba jaa jdu jdD jaR jbs jbt jbo jbp jbk jbj jbe jbq jbE jbm jbi jcd jaT jbb jbr jaR jb6 jbb cyI jbQ jb6 jbW jbL jck jcc jdh jcc cyI jfl jck cyI jfK jbW cyI jdN jbL cyI jdi jbs cyI jci jbt cyI jcj) sz) := by
  refine vx_ofW (cc := cX10_hops) (maxL := 3) (ret := (some .int)) (by decide) rfl ?_
  intro p e s m args below meth c s₁ B hml hnt hv
  obtain ⟨rfl, hsz, hP, hK, hD0, hNw, hXl, hXu, hXn, hXt⟩ := hv
  have hx := B.exec
  have hb := B.bytes
  have hr := B.returns
  have hts := atoms_spec (ws := wsX10_hops) B.pre
  have hown : s.vm.findClass RX10 = some m.cls := findClass_of_methodNamed B.named
  have hlocks := B.notSynchronized
  subst hsz
  have hD := hD0.self (sz := s.heap.size)
  generalize hAe : va_A (wd02_46 a0 jaK jaR ja1 jcp jbc jbV ja3 jbH jaT jbO jaq jac jbI jbl jbn jba jaa jdu jdD jaR jbs jbt jbo jbp jbk jbj jbe jbq jbE jbm jbi jcd jaT jbb jbr jaR jb6 jbb cyI jbQ jb6 jbW jbL jck jcc jdh jcc cyI jfl jck cyI jfK jbW cyI jdN jbL cyI jdi jbs cyI jci jbt cyI jcj) s.heap.size = A at hD hXu hXn ⊢
  have hA : ∀ q : Nat, s.heap.size ≤ q → A q := fun q h => by rw [← hAe]; exact Or.inr h
  have hS : va_S A s.heap s.heap [] := va_S.rf
  have hP : va_P (dC, dI) vwCl (wd02_46 a0 jaK jaR ja1 jcp jbc jbV ja3 jbH jaT jbO jaq jac jbI jbl jbn jba jaa jdu jdD jaR jbs jbt jbo jbp jbk jbj jbe jbq jbE jbm jbi jcd jaT jbb jbr jaR jb6 jbb cyI jbQ jb6 jbW jbL jck jcc jdh jcc cyI jfl jck cyI jfK jbW cyI jdN jbL cyI jdi jbs cyI jci jbt cyI jcj) s.heap := hP
  have hl := lv_entry ([.ref a0, .int p1, .int p2]) (n := 3) (Nat.le_of_ble_eq_true rfl)
  rw [lg_entry_eq]
  generalize (lg_sl ([.ref a0, .int p1, .int p2]) ++ List.replicate (3 - (lg_sl ([.ref a0, .int p1, .int p2])).length) Slot.unset).toArray = ls at hl ⊢
  have hl : lv_has ls 3 [(0, .ref a0), (1, .int p1), (2, .int p2)] := hl
  have hY : cfY l s A := ⟨hXl, hXu, hXn, hXt⟩
  have hXs : cfX l s c A := ⟨hnt, hY⟩
  have C0 : cfx p s m _ meth c cX10_hops (some .int) wsX10_hops RX10 3 A (dC, dI) (kT cyB cyI cyJ cyP) ∧ cfX l s c A := ⟨⟨hx, hb, hr, hts, hown, hlocks, hml, hA, hK, hNw⟩, hXs⟩
  clear hAe
  obtain ⟨H, hH⟩ : ∃ H, H = s.heap := ⟨_, rfl⟩
  rw [← hH] at hP ⊢
  have hS : va_S A s.heap H [] := by rw [hH]; exact va_S.rf
  have hS := hS
  refine lv_aload_n hx hb (dt_of tkX10_hops_k0 0 rfl) rfl (lv_at hl 0 rfl) ?_
  refine lv_iload_n hx hb (dt_of tkX10_hops_k0 1 rfl) rfl (lv_at hl 1 rfl) ?_
  obtain ⟨hCc, hPc, hDc, hFc⟩ := va_pick (ws' := (wd02_47 a0 jaK jaR ja1 jcp jbc jbV ja3 jbH jaT jbO jaq jac jbI jbl jbn jba jaa jdu jdD jaR jbs jbt jbo jbp jbk jbj jbe jbq jbE jbm jbi jcd)) hP hD hS hA [0, 1] (by decide +kernel) rfl
  refine vx_callv (vx_runV (As := [.int p1]) (rest := []) ⟨hx, hb, hml, hown, hts⟩ (ck_X10_needHare l dC dI cyB cyI cyJ cyP a0 jaR H.size (jaK) (ja1) (jcp) (jbc) (jbV) (ja3) (jbH) (.ref jaT) (jbO) (jaq) (jac) (jbI) (jbl) (jbn) (jba) (jaa) (jdD) (.ref jbs) (.ref jbt) (jbo) (jbp) (jbk) (jbj) (jbe) (jbq) (.int jbE) (jbi) (jcd) jbm jdu p1 hw) (cwV 1 hts gX10_hops_X10_needHare rfl rfl rfl (by decide +kernel) ⟨Nat.le_of_ble_eq_true rfl, Nat.le_of_ble_eq_true rfl⟩) ⟨cPx_blind, va_recv (q := (RX10, TX10, 19)) hK hPc (ci := 10) (q0 := 0) rfl rfl, cPx_pre hPc hK hDc hNw hY hS hFc⟩ rfl rfl hl.1 rfl (lv_room (Nat.le_of_ble_eq_true rfl)) (dt_of tkX10_hops_k0 2 rfl) ⟨Nat.le_of_ble_eq_true rfl, Nat.le_of_ble_eq_true rfl⟩) hS (fun q _ h => hFc q h) hFc (fun q _ h => hFc q h) (fun en ce q9 u t H1 locs ht hvm hpx hB hz1 hk1 hS hc9 hv9 hcl9 => ?_) (fun u t H1 locs ht hvm hw hB hz1 hk1 hS => ?_)
  · obtain ⟨x1, rfl⟩ : ∃ z, z = u := ⟨_, rfl⟩
    obtain ⟨hw, hP1, hK1, hD1⟩ := hB
    rw [ht] at hP1
    obtain ⟨hP, hD⟩ := va_joinN (wr := (wd02_48 jaT jbb jbr jaR jb6 jbb cyI jbQ jb6 jbW jbL jck jcc jdh jcc cyI jfl jck cyI jfK jbW cyI jdN jbL cyI jdi jbs cyI jci jbt cyI jcj)) (w1 := (wd02_47 a0 jaK jaR ja1 jcp jbc jbV ja3 jbH jaT jbO jaq jac jbI jbl jbn jba jaa x1 jdD jaR jbs jbt jbo jbp jbk jbj jbe jbq jbE jbm jbi jcd)) (wn := (wd02_46 a0 jaK jaR ja1 jcp jbc jbV ja3 jbH jaT jbO jaq jac jbI jbl jbn jba jaa x1 jdD jaR jbs jbt jbo jbp jbk jbj jbe jbq jbE jbm jbi jcd jaT jbb jbr jaR jb6 jbb cyI jbQ jb6 jbW jbL jck jcc jdh jcc cyI jfl jck cyI jfK jbW cyI jdN jbL cyI jdi jbs cyI jci jbt cyI jcj)) hP hD [0, 1] [2, 3, 4, 5, 6, 7, 8, 9, 10] [9, 10, 0, 1, 2, 3, 4, 5, 6, 7, 8] hCc rfl (by decide +kernel) (by decide +kernel) (by decide +kernel) rfl hk1 hFc hP1 hD1
    generalize H1 = H at hP hS hc9 ⊢
    exact vx_out (fun x hx9 => (hXs.1 x hx9).elim) hlocks hc9 hv9 hcl9 (fun t2 ht2 hal2 => ⟨(x1, jfl, jfK), trivial, ⟨hw, by rw [ht2]; exact hP, va_K.moved hal2 hK, hD⟩, hS.F ht2⟩) hS.2.2 (Nat.le_of_ble_eq_true rfl) (Nat.le_of_ble_eq_true rfl)
  obtain ⟨x1, rfl⟩ : ∃ z, z = u := ⟨_, rfl⟩
  obtain ⟨hP1, hK1, hD1⟩ := hB
  rw [ht] at hP1
  obtain ⟨hP, hD⟩ := va_joinN (wr := (wd02_48 jaT jbb jbr jaR jb6 jbb cyI jbQ jb6 jbW jbL jck jcc jdh jcc cyI jfl jck cyI jfK jbW cyI jdN jbL cyI jdi jbs cyI jci jbt cyI jcj)) (w1 := (wd02_47 a0 jaK jaR ja1 jcp jbc jbV ja3 jbH jaT jbO jaq jac jbI jbl jbn jba jaa x1 jdD jaR jbs jbt jbo jbp jbk jbj jbe jbq jbE jbm jbi jcd)) (wn := (wd02_46 a0 jaK jaR ja1 jcp jbc jbV ja3 jbH jaT jbO jaq jac jbI jbl jbn jba jaa x1 jdD jaR jbs jbt jbo jbp jbk jbj jbe jbq jbE jbm jbi jcd jaT jbb jbr jaR jb6 jbb cyI jbQ jb6 jbW jbL jck jcc jdh jcc cyI jfl jck cyI jfK jbW cyI jdN jbL cyI jdi jbs cyI jci jbt cyI jcj)) hP hD [0, 1] [2, 3, 4, 5, 6, 7, 8, 9, 10] [9, 10, 0, 1, 2, 3, 4, 5, 6, 7, 8] hCc rfl (by decide +kernel) (by decide +kernel) (by decide +kernel) rfl hk1 hFc hP1 hD1
  generalize H1 = H at hP hS ⊢
  refine lv_aload_n hx hb (dt_of tkX10_hops_k0 3 rfl) rfl (lv_at hl 0 rfl) ?_
  refine lv_iload_n hx hb (dt_of tkX10_hops_k0 4 rfl) rfl (lv_at hl 2 rfl) ?_
  obtain ⟨hCc, hPc, hDc, hFc⟩ := va_pick (ws' := (wd02_47 a0 jaK jaR ja1 jcp jbc jbV ja3 jbH jaT jbO jaq jac jbI jbl jbn jba jaa x1 jdD jaR jbs jbt jbo jbp jbk jbj jbe jbq jbE jbm jbi jcd)) hP hD hS hA [0, 1] (by decide +kernel) rfl
  refine vx_callv (vx_runV (As := [.int p2]) (rest := []) ⟨hx, hb, hml, hown, hts⟩ (ck_X10_needForm l dC dI cyB cyI cyJ cyP a0 jaR H.size (jaK) (ja1) (jcp) (jbc) (jbV) (ja3) (jbH) (.ref jaT) (jbO) (jaq) (jac) (jbI) (jbl) (jbn) (jba) (jaa) (jdD) (.ref jbs) (.ref jbt) (jbo) (jbp) (jbk) (jbj) (jbe) (jbq) (.int jbm) (jbi) (jcd) jbE x1 p2 hw) (cwV 1 hts gX10_hops_X10_needForm rfl rfl rfl (by decide +kernel) ⟨Nat.le_of_ble_eq_true rfl, Nat.le_of_ble_eq_true rfl⟩) ⟨cPx_blind, va_recv (q := (RX10, TX10, 19)) hK hPc (ci := 10) (q0 := 0) rfl rfl, cPx_pre hPc hK hDc hNw hY hS hFc⟩ rfl rfl hl.1 rfl (lv_room (Nat.le_of_ble_eq_true rfl)) (dt_of tkX10_hops_k0 5 rfl) ⟨Nat.le_of_ble_eq_true rfl, Nat.le_of_ble_eq_true rfl⟩) hS (fun q _ h => hFc q h) hFc (fun q _ h => hFc q h) (fun en ce q9 u t H1 locs ht hvm hpx hB hz1 hk1 hS hc9 hv9 hcl9 => ?_) (fun u t H1 locs ht hvm hw hB hz1 hk1 hS => ?_)
  · obtain ⟨x2, rfl⟩ : ∃ z, z = u := ⟨_, rfl⟩
    obtain ⟨hw, hP1, hK1, hD1⟩ := hB
    rw [ht] at hP1
    obtain ⟨hP, hD⟩ := va_joinN (wr := (wd02_48 jaT jbb jbr jaR jb6 jbb cyI jbQ jb6 jbW jbL jck jcc jdh jcc cyI jfl jck cyI jfK jbW cyI jdN jbL cyI jdi jbs cyI jci jbt cyI jcj)) (w1 := (wd02_47 a0 jaK jaR ja1 jcp jbc jbV ja3 jbH jaT jbO jaq jac jbI jbl jbn jba jaa x2 jdD jaR jbs jbt jbo jbp jbk jbj jbe jbq jbE jbm jbi jcd)) (wn := (wd02_46 a0 jaK jaR ja1 jcp jbc jbV ja3 jbH jaT jbO jaq jac jbI jbl jbn jba jaa x2 jdD jaR jbs jbt jbo jbp jbk jbj jbe jbq jbE jbm jbi jcd jaT jbb jbr jaR jb6 jbb cyI jbQ jb6 jbW jbL jck jcc jdh jcc cyI jfl jck cyI jfK jbW cyI jdN jbL cyI jdi jbs cyI jci jbt cyI jcj)) hP hD [0, 1] [2, 3, 4, 5, 6, 7, 8, 9, 10] [9, 10, 0, 1, 2, 3, 4, 5, 6, 7, 8] hCc rfl (by decide +kernel) (by decide +kernel) (by decide +kernel) rfl hk1 hFc hP1 hD1
    generalize H1 = H at hP hS hc9 ⊢
    exact vx_out (fun x hx9 => (hXs.1 x hx9).elim) hlocks hc9 hv9 hcl9 (fun t2 ht2 hal2 => ⟨(x2, jfl, jfK), trivial, ⟨hw, by rw [ht2]; exact hP, va_K.moved hal2 hK, hD⟩, hS.F ht2⟩) hS.2.2 (Nat.le_of_ble_eq_true rfl) (Nat.le_of_ble_eq_true rfl)
  obtain ⟨x2, rfl⟩ : ∃ z, z = u := ⟨_, rfl⟩
  obtain ⟨hP1, hK1, hD1⟩ := hB
  rw [ht] at hP1
  obtain ⟨hP, hD⟩ := va_joinN (wr := (wd02_48 jaT jbb jbr jaR jb6 jbb cyI jbQ jb6 jbW jbL jck jcc jdh jcc cyI jfl jck cyI jfK jbW cyI jdN jbL cyI jdi jbs cyI jci jbt cyI jcj)) (w1 := (wd02_47 a0 jaK jaR ja1 jcp jbc jbV ja3 jbH jaT jbO jaq jac jbI jbl jbn jba jaa x2 jdD jaR jbs jbt jbo jbp jbk jbj jbe jbq jbE jbm jbi jcd)) (wn := (wd02_46 a0 jaK jaR ja1 jcp jbc jbV ja3 jbH jaT jbO jaq jac jbI jbl jbn jba jaa x2 jdD jaR jbs jbt jbo jbp jbk jbj jbe jbq jbE jbm jbi jcd jaT jbb jbr jaR jb6 jbb cyI jbQ jb6 jbW jbL jck jcc jdh jcc cyI jfl jck cyI jfK jbW cyI jdN jbL cyI jdi jbs cyI jci jbt cyI jcj)) hP hD [0, 1] [2, 3, 4, 5, 6, 7, 8, 9, 10] [9, 10, 0, 1, 2, 3, 4, 5, 6, 7, 8] hCc rfl (by decide +kernel) (by decide +kernel) (by decide +kernel) rfl hk1 hFc hP1 hD1
  generalize H1 = H at hP hS ⊢
  refine lv_aload_n hx hb (dt_of tkX10_hops_k0 6 rfl) rfl (lv_at hl 0 rfl) ?_
  refine va_get (D := (dC, dI)) (ci := 10) (v := .ref jaT) (C := RX10) (T := TX10) (N := 19) hx hb hts ui_X10_hops_X10 hown hK hP 0 rfl rfl 8 (by decide) (hts _ uw_X10_hops_f58) (fun _ h9 => h9) rfl (dt_of tkX10_hops_k0 7 rfl) ?_
  refine lv_iload_n hx hb (dt_of tkX10_hops_k0 8 rfl) rfl (lv_at hl 1 rfl) ?_
  obtain ⟨hCc, hPc, hDc, hFc⟩ := va_pick (ws' := (wd02_39 jaT jbb jbr jaR jb6 jbb cyI jbQ)) hP hD hS hA [2, 3] (by decide +kernel) rfl
  refine va_calli (va_runV (As := [.int p1]) (rest := []) ⟨hx, hb, hml, hown, hts⟩ (ck_X1_isCaught l dC dI cyB cyI cyJ cyP jaT jbb H.size (jbr) (.ref jaR) (.ref jb6) jbQ  p1 hw) (cwV 1 hts gX10_hops_X1_isCaught rfl rfl rfl (by decide +kernel) ⟨Nat.le_of_ble_eq_true rfl, Nat.le_of_ble_eq_true rfl⟩) ⟨cPc_blind, va_recv (q := (RX1, TX1, 4)) hK hPc (ci := 1) (q0 := 0) rfl rfl, cPc_pre hPc hK hDc hNw⟩ rfl rfl hl.1 rfl (lv_room (Nat.le_of_ble_eq_true rfl)) (dt_of tkX10_hops_k0 9 rfl) ⟨Nat.le_of_ble_eq_true rfl, Nat.le_of_ble_eq_true rfl⟩) hS (fun q _ h => hFc q h) hFc (fun r3 u t H1 locs ht hvm hw hB hz1 hk1 hS => ?_)
  obtain ⟨hP1, hK1, hD1⟩ := hB
  rw [ht] at hP1
  obtain ⟨hP, hD⟩ := va_joinN (wr := (wd02_49 a0 jaK jaR ja1 jcp jbc jbV ja3 jbH jaT jbO jaq jac jbI jbl jbn jba jaa x2 jdD jaR jbs jbt jbo jbp jbk jbj jbe jbq jbE jbm jbi jcd jb6 jbW jbL jck jcc jdh jcc cyI jfl jck cyI jfK jbW cyI jdN jbL cyI jdi jbs cyI jci jbt cyI jcj)) (w1 := (wd02_39 jaT jbb jbr jaR jb6 jbb cyI jbQ)) (wn := (wd02_46 a0 jaK jaR ja1 jcp jbc jbV ja3 jbH jaT jbO jaq jac jbI jbl jbn jba jaa x2 jdD jaR jbs jbt jbo jbp jbk jbj jbe jbq jbE jbm jbi jcd jaT jbb jbr jaR jb6 jbb cyI jbQ jb6 jbW jbL jck jcc jdh jcc cyI jfl jck cyI jfK jbW cyI jdN jbL cyI jdi jbs cyI jci jbt cyI jcj)) hP hD [2, 3] [0, 1, 4, 5, 6, 7, 8, 9, 10] [0, 1, 9, 10, 2, 3, 4, 5, 6, 7, 8] hCc rfl (by decide +kernel) (by decide +kernel) (by decide +kernel) rfl hk1 hFc hP1 hD1
  generalize H1 = H at hP hS ⊢
  refine lv_if_eq (tgt := 23) hx hb (dt_of tkX10_hops_k0 10 rfl) (by decide) (fun c4 => ?_) (fun c4 => ?_)
  · have hw := hw.1 c4
    refine lv_aload_n hx hb (dt_of tkX10_hops_k0 13 rfl) rfl (lv_at hl 0 rfl) ?_
    refine va_get (D := (dC, dI)) (ci := 10) (v := .ref jaR) (C := RX10) (T := TX10) (N := 19) hx hb hts ui_X10_hops_X10 hown hK hP 0 rfl rfl 1 (by decide) (hts _ uw_X10_hops_f19) (fun _ h9 => h9) rfl (dt_of tkX10_hops_k0 14 rfl) ?_
    refine lv_aload_n hx hb (dt_of tkX10_hops_k0 15 rfl) rfl (lv_at hl 0 rfl) ?_
    refine va_get (D := (dC, dI)) (ci := 10) (v := .ref jaT) (C := RX10) (T := TX10) (N := 19) hx hb hts ui_X10_hops_X10 hown hK hP 0 rfl rfl 8 (by decide) (hts _ uw_X10_hops_f58) (fun _ h9 => h9) rfl (dt_of tkX10_hops_k28 0 rfl) ?_
    refine lv_iload_n hx hb (dt_of tkX10_hops_k28 1 rfl) rfl (lv_at hl 1 rfl) ?_
    obtain ⟨hCc, hPc, hDc, hFc⟩ := va_pick (ws' := (wd02_39 jaT jbb jbr jaR jb6 jbb cyI jbQ)) hP hD hS hA [2, 3] (by decide +kernel) rfl
    refine va_calli (va_runV (As := [.int p1]) (rest := [.ref jaR]) ⟨hx, hb, hml, hown, hts⟩ (ck_X1_sits l dC dI cyB cyI cyJ cyP jaT jbb H.size (jbr) (.ref jaR) (.ref jb6) jbQ  p1 hw) (cwV 1 hts gX10_hops_X1_sits rfl rfl rfl (by decide +kernel) ⟨Nat.le_of_ble_eq_true rfl, Nat.le_of_ble_eq_true rfl⟩) ⟨cPc_blind, va_recv (q := (RX1, TX1, 4)) hK hPc (ci := 1) (q0 := 0) rfl rfl, cPc_pre hPc hK hDc hNw⟩ rfl rfl hl.1 rfl (lv_room (Nat.le_of_ble_eq_true rfl)) (dt_of tkX10_hops_k28 2 rfl) ⟨Nat.le_of_ble_eq_true rfl, Nat.le_of_ble_eq_true rfl⟩) hS (fun q _ h => hFc q h) hFc (fun r5 u t H1 locs ht hvm hw hB hz1 hk1 hS => ?_)
    obtain ⟨hP1, hK1, hD1⟩ := hB
    rw [ht] at hP1
    obtain ⟨hP, hD⟩ := va_joinN (wr := (wd02_49 a0 jaK jaR ja1 jcp jbc jbV ja3 jbH jaT jbO jaq jac jbI jbl jbn jba jaa x2 jdD jaR jbs jbt jbo jbp jbk jbj jbe jbq jbE jbm jbi jcd jb6 jbW jbL jck jcc jdh jcc cyI jfl jck cyI jfK jbW cyI jdN jbL cyI jdi jbs cyI jci jbt cyI jcj)) (w1 := (wd02_39 jaT jbb jbr jaR jb6 jbb cyI jbQ)) (wn := (wd02_46 a0 jaK jaR ja1 jcp jbc jbV ja3 jbH jaT jbO jaq jac jbI jbl jbn jba jaa x2 jdD jaR jbs jbt jbo jbp jbk jbj jbe jbq jbE jbm jbi jcd jaT jbb jbr jaR jb6 jbb cyI jbQ jb6 jbW jbL jck jcc jdh jcc cyI jfl jck cyI jfK jbW cyI jdN jbL cyI jdi jbs cyI jci jbt cyI jcj)) hP hD [2, 3] [0, 1, 4, 5, 6, 7, 8, 9, 10] [0, 1, 9, 10, 2, 3, 4, 5, 6, 7, 8] hCc rfl (by decide +kernel) (by decide +kernel) (by decide +kernel) rfl hk1 hFc hP1 hD1
    generalize H1 = H at hP hS ⊢
    refine lv_iload_n hx hb (dt_of tkX10_hops_k28 3 rfl) rfl (lv_at hl 2 rfl) ?_
    refine lv_aload_n hx hb (dt_of tkX10_hops_k28 4 rfl) rfl (lv_at hl 0 rfl) ?_
    refine va_get (D := (dC, dI)) (ci := 10) (v := .ref jaT) (C := RX10) (T := TX10) (N := 19) hx hb hts ui_X10_hops_X10 hown hK hP 0 rfl rfl 8 (by decide) (hts _ uw_X10_hops_f58) (fun _ h9 => h9) rfl (dt_of tkX10_hops_k28 5 rfl) ?_
    refine lv_iload_n hx hb (dt_of tkX10_hops_k28 6 rfl) rfl (lv_at hl 1 rfl) ?_
    obtain ⟨hCc, hPc, hDc, hFc⟩ := va_pick (ws' := (wd02_50 jaT jbb jbr jaR jb6 jbb cyI jbQ jaR jbs jbt jbo jbp jbk jbj jbe jbq jbE jbm jbi jcd jb6 jbW jbL jck jcc jdh jcc cyI jfl jck cyI jfK jbW cyI jdN jbL cyI jdi)) hP hD hS hA [2, 3, 1, 4, 5, 6, 7, 8] (by decide +kernel) rfl
    refine va_calli (va_runV (As := [.int p1]) (rest := [.int p2, .int r5, .ref jaR]) ⟨hx, hb, hml, hown, hts⟩ (ck_X1_reach l dC dI cyB cyI cyJ cyP jaT jbb jaR jb6 jcc jck jbW jbL H.size (jbr) (.ref jbs) (.ref jbt) (jbo) (jbp) (jbk) (jbj) (jbe) (jbq) (.int jbE) (jbi) (jcd) jbQ jbm jdh jdN jdi jfl jfK p1 hw) (cwV 1 hts gX10_hops_X1_reach rfl rfl rfl (by decide +kernel) ⟨Nat.le_of_ble_eq_true rfl, Nat.le_of_ble_eq_true rfl⟩) ⟨cPc_blind, va_recv (q := (RX1, TX1, 4)) hK hPc (ci := 1) (q0 := 0) rfl rfl, cPc_pre hPc hK hDc hNw⟩ rfl rfl hl.1 rfl (lv_room (Nat.le_of_ble_eq_true rfl)) (dt_of tkX10_hops_k28 7 rfl) ⟨Nat.le_of_ble_eq_true rfl, Nat.le_of_ble_eq_true rfl⟩) hS (fun q _ h => hFc q h) hFc (fun r8 u t H1 locs ht hvm hw hB hz1 hk1 hS => ?_)
    obtain ⟨f6, f7⟩ := u
    obtain ⟨hP1, hK1, hD1⟩ := hB
    rw [ht] at hP1
    obtain ⟨hP, hD⟩ := va_joinN (wr := [(a0, .inr (10, [jaK, .ref jaR, ja1, jcp, jbc, jbV, ja3, jbH, .ref jaT, jbO, jaq, jac, jbI, jbl, jbn, jba, jaa, .int x2, jdD])), (jbs, .inl (cyI, 8, .inl jci)), (jbt, .inl (cyI, 8, .inl jcj))]) (w1 := (wd02_50 jaT jbb jbr jaR jb6 jbb cyI jbQ jaR jbs jbt jbo jbp jbk jbj jbe jbq jbE jbm jbi jcd jb6 jbW jbL jck jcc jdh jcc cyI f6 jck cyI f7 jbW cyI jdN jbL cyI jdi)) (wn := (wd02_46 a0 jaK jaR ja1 jcp jbc jbV ja3 jbH jaT jbO jaq jac jbI jbl jbn jba jaa x2 jdD jaR jbs jbt jbo jbp jbk jbj jbe jbq jbE jbm jbi jcd jaT jbb jbr jaR jb6 jbb cyI jbQ jb6 jbW jbL jck jcc jdh jcc cyI f6 jck cyI f7 jbW cyI jdN jbL cyI jdi jbs cyI jci jbt cyI jcj)) hP hD [2, 3, 1, 4, 5, 6, 7, 8] [0, 9, 10] [0, 5, 3, 4, 6, 7, 8, 9, 10, 1, 2] hCc rfl (by decide +kernel) (by decide +kernel) (by decide +kernel) rfl hk1 hFc hP1 hD1
    generalize H1 = H at hP hS ⊢
    obtain ⟨hCc, hPc, hDc, hFc⟩ := va_pick (ws' := (wd02_51 jaR jbs jbt jbo jbp jbk jbj jbe jbq jbE jbm jbi jcd jbs cyI jci jbt cyI jcj)) hP hD hS hA [1, 9, 10] (by decide +kernel) rfl
    refine va_calli (va_runV (As := [.int r5, .int p2, .int r8]) (rest := []) ⟨hx, hb, hml, hown, hts⟩ (ck_X2_hopsBetween l dC dI cyB cyI cyJ cyP jaR jbs jbt H.size (jbo) (jbp) (jbk) (jbj) (jbe) (jbq) (.int jbm) (jbi) (jcd) jbE jci jcj  r5 p2 r8 hw) (cwV 3 hts gX10_hops_X2_hopsBetween rfl rfl rfl (by decide +kernel) ⟨Nat.le_of_ble_eq_true rfl, Nat.le_of_ble_eq_true rfl⟩) ⟨cPc_blind, va_recv (q := (RX2, TX2, 12)) hK hPc (ci := 2) (q0 := 0) rfl rfl, cPc_pre hPc hK hDc hNw⟩ rfl rfl hl.1 rfl (lv_room (Nat.le_of_ble_eq_true rfl)) (dt_of tkX10_hops_k28 8 rfl) ⟨Nat.le_of_ble_eq_true rfl, Nat.le_of_ble_eq_true rfl⟩) hS (fun q _ h => hFc q h) hFc (fun r9 u t H1 locs ht hvm hw hB hz1 hk1 hS => ?_)
    obtain ⟨hP1, hK1, hD1⟩ := hB
    rw [ht] at hP1
    obtain ⟨hP, hD⟩ := va_joinN (wr := [(a0, .inr (10, [jaK, .ref jaR, ja1, jcp, jbc, jbV, ja3, jbH, .ref jaT, jbO, jaq, jac, jbI, jbl, jbn, jba, jaa, .int x2, jdD])), (jaT, .inr (1, [.ref jbb, jbr, .ref jaR, .ref jb6])), (jbb, .inl (cyI, 64, .inl jbQ)), (jb6, .inr (4, [.ref jbW, .ref jbL, .ref jck, .ref jcc, .int jdh])), (jcc, .inl (cyI, 8, .inl f6)), (jck, .inl (cyI, 150, .inl f7)), (jbW, .inl (cyI, 150, .inl jdN)), (jbL, .inl (cyI, 150, .inl jdi))]) (w1 := (wd02_51 jaR jbs jbt jbo jbp jbk jbj jbe jbq jbE jbm jbi jcd jbs cyI jci jbt cyI jcj)) (wn := (wd02_46 a0 jaK jaR ja1 jcp jbc jbV ja3 jbH jaT jbO jaq jac jbI jbl jbn jba jaa x2 jdD jaR jbs jbt jbo jbp jbk jbj jbe jbq jbE jbm jbi jcd jaT jbb jbr jaR jb6 jbb cyI jbQ jb6 jbW jbL jck jcc jdh jcc cyI f6 jck cyI f7 jbW cyI jdN jbL cyI jdi jbs cyI jci jbt cyI jcj)) hP hD [1, 9, 10] [0, 2, 3, 4, 5, 6, 7, 8] [0, 8, 1, 2, 3, 4, 5, 6, 7, 9, 10] hCc rfl (by decide +kernel) (by decide +kernel) (by decide +kernel) rfl hk1 hFc hP1 hD1
    generalize H1 = H at hP hS ⊢
    exact vx_ret (W.widen (k := 2) (n := 12) (Nat.le_of_ble_eq_true rfl) (Nat.le_of_ble_eq_true rfl) (W.iret (v := r9) hx hb hr (fun t ht hW => ⟨⟨r9, (x2, f6, f7), rfl, hw, by rw [ht]; exact hP, va_K.moved hW.alike hK, hD⟩, hS.F ht⟩) hS.2.2 (dt_of tkX10_hops_k28 9 rfl)))
  · have hw := hw.2 c4
    refine lv_iconst (v := (-1)) hx hb (dt_of tkX10_hops_k0 11 rfl) (by decide) ?_
    exact vx_ret (W.widen (k := 2) (n := 12) (Nat.le_of_ble_eq_true rfl) (Nat.le_of_ble_eq_true rfl) (W.iret (v := (-1)) hx hb hr (fun t ht hW => ⟨⟨(-1), (x2, jfl, jfK), rfl, hw, by rw [ht]; exact hP, va_K.moved hW.alike hK, hD⟩, hS.F ht⟩) hS.2.2 (dt_of tkX10_hops_k0 12 rfl)))
theorem uw_L_hops_ct31 : (.classLink RL 31 "java/util/NoSuchElementException" : Cond) ∈ wsL_hops := mbL_hops 2639 (by decide +kernel)
theorem uw_L_hops_cw : (.codeWith yL_hops cL_hops 5 (some .int) [(0, 10, 13, 31)] : Cond) ∈ wsL_hops := mbL_hops 3012 (by decide +kernel)
set_option maxHeartbeats 4000000 in
set_option maxRecDepth 100000 in
theorem ck_L_hops (l : Launch) (dC : Nat → ClassId) (dI : Nat → Nat → Nat) (cyB cyI cyJ cyP : ClassId) (a0 a3 jaR jaT jbb jb6 jcc jck jbW jbL jbs jbt sz : Nat) (jaK ja1 jbc jbV ja3 jbH jbO jaq jac jbI jbl jbn jba jaa jdD jbo jbp jbk jbj jbe jbq jbi jcd jbr : Value) (n3 : Nat) (jbE jbm : Int32) (jbQ : Nat → Int32) (jdh : Int32) (jdN jdi jci jcj : Nat → Int32) (jdu : Int32) (jfl jfK : Nat → Int32) (f3 : Nat → Int64) (p1 p2 : Int32) {Q : Int32 → Int32 → (Nat → Int32) → (Nat → Int32) → (Nat → Int64) → Prop} (hw : wq_L_hops n3 jbE jbm jbQ jdh jdN jdi jci jcj jdu jfl jfK f3 p1 p2 Q) : Met l yL_hops wsL_hops ({ frames := 8, cells := 2, slots := 12, locals := 163 }) (va_Pc [.ref a0, .int p1, .int p2, .ref a3] (cPx l (dC, dI) (kT cyB cyI cyJ cyP) (wd02_52 a0 jaK jaR ja1 jb6 jbc jbV ja3 jbH jaT jbO jaq jac jbI jbl jbn jba jaa jdu jdD jaR jbs jbt jbo jbp jbk jbj jbe jbq jbE jbm jbi jcd jaT jbb jbr jaR jb6 jbb cyI jbQ jb6 jbW jbL jck jcc jdh jcc cyI jfl jck cyI jfK jbW cyI jdN jbL cyI jdi jbs cyI jci jbt cyI jcj a3 cyJ n3 f3) sz)) (va_Qi (fun (r : Int32) (u : Int32 × (Nat → Int32) × (Nat → Int32) × (Nat → Int64)) => Q r u.1 u.2.1 u.2.2.1 u.2.2.2) (cB (dC, dI) (kT cyB cyI cyJ cyP) (va_A (wd02_52 a0 jaK jaR ja1 jb6 jbc jbV ja3 jbH jaT jbO jaq jac jbI jbl jbn jba jaa jdu jdD jaR jbs jbt jbo jbp jbk jbj jbe jbq jbE jbm jbi jcd jaT jbb jbr jaR jb6 jbb cyI jbQ jb6 jbW jbL jck jcc jdh jcc cyI jfl jck cyI jfK jbW cyI jdN jbL cyI jdi jbs cyI jci jbt cyI jcj a3 cyJ n3 f3) sz) (fun u : Int32 × (Nat → Int32) × (Nat → Int32) × (Nat → Int64) => ((wd02_52 a0 jaK jaR ja1 jb6 jbc jbV ja3 jbH jaT jbO jaq jac jbI jbl jbn jba jaa u.1 jdD jaR jbs jbt jbo jbp jbk jbj jbe jbq jbE jbm jbi jcd jaT jbb jbr jaR jb6 jbb cyI jbQ jb6 jbW jbL jck jcc jdh jcc cyI u.2.1 jck cyI u.2.2.1 jbW cyI jdN jbL cyI jdi jbs cyI jci jbt cyI jcj a3 cyJ n3 u.2.2.2) : va_W))) (va_A (wd02_52 a0 jaK jaR ja1 jb6 jbc jbV ja3 jbH jaT jbO jaq jac jbI jbl jbn jba jaa jdu jdD jaR jbs jbt jbo jbp jbk jbj jbe jbq jbE jbm jbi jcd jaT jbb jbr jaR jb6 jbb cyI jbQ jb6 jbW jbL jck jcc jdh jcc cyI jfl jck cyI jfK jbW cyI jdN jbL cyI jdi jbs cyI jci jbt cyI jcj a3 cyJ n3 f3) sz)) 2 12 (va_A (wd02_52 a0 jaK jaR ja1 jb6 jbc jbV ja3 jbH jaT jbO jaq jac jbI jbl jbn jba jaa jdu jdD jaR jbs jbt jbo jbp jbk jbj jbe jbq jbE jbm jbi jcd jaT jbb jbr jaR jb6 jbb cyI jbQ jb6 jbW jbL jck jcc jdh jcc cyI jfl jck cyI jfK jbW cyI jdN jbL cyI jdi jbs cyI jci jbt cyI jcj a3 cyJ n3 f3) sz) := by
  refine va_MetW (cc := cL_hops) (maxL := 5) (ret := (some .int)) (by decide) rfl ?_
  intro p e s m args below meth c s₁ B hml hv
  obtain ⟨rfl, hsz, hP, hK, hD0, hNw, hXl, hXu, hXn, hXt⟩ := hv
  have hx := B.exec
  have hb := B.bytes
  have hr := B.returns
  have hts := atoms_spec (ws := wsL_hops) B.pre
  have hown : s.vm.findClass RL = some m.cls := findClass_of_methodNamed B.named
  have hlocks := B.notSynchronized
  subst hsz
  have hD := hD0.self (sz := s.heap.size)
  generalize hAe : va_A (wd02_52 a0 jaK jaR ja1 jb6 jbc jbV ja3 jbH jaT jbO jaq jac jbI jbl jbn jba jaa jdu jdD jaR jbs jbt jbo jbp jbk jbj jbe jbq jbE jbm jbi jcd jaT jbb jbr jaR jb6 jbb cyI jbQ jb6 jbW jbL jck jcc jdh jcc cyI jfl jck cyI jfK jbW cyI jdN jbL cyI jdi jbs cyI jci jbt cyI jcj a3 cyJ n3 f3) s.heap.size = A at hD hXu hXn ⊢
  have hA : ∀ q : Nat, s.heap.size ≤ q → A q := fun q h => by rw [← hAe]; exact Or.inr h
  have hS : va_S A s.heap s.heap [] := va_S.rf
  have hP : va_P (dC, dI) vwCl (wd02_52 a0 jaK jaR ja1 jb6 jbc jbV ja3 jbH jaT jbO jaq jac jbI jbl jbn jba jaa jdu jdD jaR jbs jbt jbo jbp jbk jbj jbe jbq jbE jbm jbi jcd jaT jbb jbr jaR jb6 jbb cyI jbQ jb6 jbW jbL jck jcc jdh jcc cyI jfl jck cyI jfK jbW cyI jdN jbL cyI jdi jbs cyI jci jbt cyI jcj a3 cyJ n3 f3) s.heap := hP
  have hl := lv_entry ([.ref a0, .int p1, .int p2, .ref a3]) (n := 5) (Nat.le_of_ble_eq_true rfl)
  rw [lg_entry_eq]
  generalize (lg_sl ([.ref a0, .int p1, .int p2, .ref a3]) ++ List.replicate (5 - (lg_sl ([.ref a0, .int p1, .int p2, .ref a3])).length) Slot.unset).toArray = ls at hl ⊢
  have hl : lv_has ls 5 [(0, .ref a0), (1, .int p1), (2, .int p2), (3, .ref a3)] := hl
  have hY : cfY l s A := ⟨hXl, hXu, hXn, hXt⟩
  have hTb := vx_table (x := yL_hops) B (hts _ uw_L_hops_cw)
  clear hAe
  obtain ⟨H, hH⟩ : ∃ H, H = s.heap := ⟨_, rfl⟩
  rw [← hH] at hP ⊢
  have hS : va_S A s.heap H [] := by rw [hH]; exact va_S.rf
  have hS := hS
  refine lv_aload_n hx hb (dt_of tkL_hops_k0 0 rfl) rfl (lv_at hl 3 rfl) ?_
  refine lv_iconst (v := 0) hx hb (dt_of tkL_hops_k0 1 rfl) (by decide) ?_
  refine lv_aload_n hx hb (dt_of tkL_hops_k0 2 rfl) rfl (lv_at hl 0 rfl) ?_
  refine lv_iload_n hx hb (dt_of tkL_hops_k0 3 rfl) rfl (lv_at hl 1 rfl) ?_
  refine lv_iload_n hx hb (dt_of tkL_hops_k0 4 rfl) rfl (lv_at hl 2 rfl) ?_
  obtain ⟨hCc, hPc, hDc, hFc⟩ := va_pick (ws' := (wd02_53 a0 jaK jaR ja1 jb6 jbc jbV ja3 jbH jaT jbO jaq jac jbI jbl jbn jba jaa jdu jdD jaR jbs jbt jbo jbp jbk jbj jbe jbq jbE jbm jbi jcd jaT jbb jbr jaR jb6 jbb cyI jbQ jb6 jbW jbL jck jcc jdh jcc cyI jfl jck cyI jfK jbW cyI jdN jbL cyI jdi jbs cyI jci jbt cyI jcj)) hP hD hS hA [0, 1, 2, 3, 4, 5, 6, 7, 8, 9, 10] (by decide +kernel) rfl
  refine vx_calli (vx_runV (As := [.int p1, .int p2]) (rest := [.int 0, .ref a3]) ⟨hx, hb, hml, hown, hts⟩ (ck_X10_hops l dC dI cyB cyI cyJ cyP a0 jaR jaT jbb jb6 jcc jck jbW jbL jbs jbt H.size (jaK) (ja1) (.ref jb6) (jbc) (jbV) (ja3) (jbH) (jbO) (jaq) (jac) (jbI) (jbl) (jbn) (jba) (jaa) (jdD) (jbo) (jbp) (jbk) (jbj) (jbe) (jbq) (jbi) (jcd) (jbr) jbE jbm jbQ jdh jdN jdi jci jcj jdu jfl jfK p1 p2 hw) (cwV 2 hts gL_hops_X10_hops rfl rfl rfl (by decide +kernel) ⟨Nat.le_of_ble_eq_true rfl, Nat.le_of_ble_eq_true rfl⟩) ⟨cPx_blind, va_recv (q := (RX10, TX10, 19)) hK hPc (ci := 10) (q0 := 0) rfl rfl, cPx_pre hPc hK hDc hNw hY hS hFc⟩ rfl rfl hl.1 rfl (lv_room (Nat.le_of_ble_eq_true rfl)) (dt_of tkL_hops_k0 5 rfl) ⟨Nat.le_of_ble_eq_true rfl, Nat.le_of_ble_eq_true rfl⟩) hS (fun q _ h => hFc q h) hFc (fun q _ h => hFc q h) (fun en ce qx9 u t H1 locs ht hvm hpx hB hz1 hk1 hS hc9 hv9 hcl9 => ?_) (fun r5 u t H1 locs ht hvm hw hB hz1 hk1 hS => ?_)
  · obtain ⟨x1, f2, f4⟩ := u
    obtain ⟨hw, hP1, hK1, hD1⟩ := hB
    rw [ht] at hP1
    obtain ⟨hP, hD⟩ := va_joinN (wr := [(a3, .inl (cyJ, n3, .inr (.inl f3)))]) (w1 := (wd02_53 a0 jaK jaR ja1 jb6 jbc jbV ja3 jbH jaT jbO jaq jac jbI jbl jbn jba jaa x1 jdD jaR jbs jbt jbo jbp jbk jbj jbe jbq jbE jbm jbi jcd jaT jbb jbr jaR jb6 jbb cyI jbQ jb6 jbW jbL jck jcc jdh jcc cyI f2 jck cyI f4 jbW cyI jdN jbL cyI jdi jbs cyI jci jbt cyI jcj)) (wn := (wd02_52 a0 jaK jaR ja1 jb6 jbc jbV ja3 jbH jaT jbO jaq jac jbI jbl jbn jba jaa x1 jdD jaR jbs jbt jbo jbp jbk jbj jbe jbq jbE jbm jbi jcd jaT jbb jbr jaR jb6 jbb cyI jbQ jb6 jbW jbL jck jcc jdh jcc cyI f2 jck cyI f4 jbW cyI jdN jbL cyI jdi jbs cyI jci jbt cyI jcj a3 cyJ n3 f3)) hP hD [0, 1, 2, 3, 4, 5, 6, 7, 8, 9, 10] [11] [1, 2, 3, 4, 5, 6, 7, 8, 9, 10, 11, 0] hCc rfl (by decide +kernel) (by decide +kernel) (by decide +kernel) rfl hk1 hFc hP1 hD1
    generalize H1 = H at hP hS hc9 ⊢
    obtain ⟨rfl, hw⟩ := hw
    refine vx_catch (own := RL) (name := "java/util/NoSuchElementException") hown [] ⟨0, 10, 13, 31⟩ [] (hTb.trans rfl) (fun z hz => nomatch hz) (by decide) (by decide) (hts _ uw_L_hops_ct31) (va_Nw.use rfl (hY.2.2.2.1.2 _ (List.mem_of_getElem? (i := 1) rfl))) hc9 hv9 hcl9 ?_
    refine lv_astore (lv' := [(4, .ref qx9), (0, .ref a0), (1, .int p1), (2, .int p2), (3, .ref a3)]) hx hb (dt_of tkL_hops_k0 9 rfl) hl (by decide) rfl (fun ls hl => ?_)
    refine lv_iconst (v := 1) hx hb (dt_of tkL_hops_k0 10 rfl) (by decide) ?_
    exact (W.widen (k := 2) (n := 12) (Nat.le_of_ble_eq_true rfl) (Nat.le_of_ble_eq_true rfl) (W.iret (v := 1) hx hb hr (fun t ht hW => ⟨⟨1, (x1, f2, f4, f3), rfl, hw, by rw [ht]; exact hP, va_K.moved hW.alike hK, hD⟩, hS.F ht⟩) hS.2.2 (dt_of tkL_hops_k0 11 rfl)))
  obtain ⟨x1, f2, f4⟩ := u
  obtain ⟨hP1, hK1, hD1⟩ := hB
  rw [ht] at hP1
  obtain ⟨hP, hD⟩ := va_join (wr := [(a3, .inl (cyJ, n3, .inr (.inl f3)))]) (w1 := (wd02_53 a0 jaK jaR ja1 jb6 jbc jbV ja3 jbH jaT jbO jaq jac jbI jbl jbn jba jaa x1 jdD jaR jbs jbt jbo jbp jbk jbj jbe jbq jbE jbm jbi jcd jaT jbb jbr jaR jb6 jbb cyI jbQ jb6 jbW jbL jck jcc jdh jcc cyI f2 jck cyI f4 jbW cyI jdN jbL cyI jdi jbs cyI jci jbt cyI jcj)) hP hD [0, 1, 2, 3, 4, 5, 6, 7, 8, 9, 10] [11] rfl rfl (by decide) (by decide) hk1 hFc hP1 hD1
  have hP : va_P (dC, dI) vwCl (wd02_52 a0 jaK jaR ja1 jb6 jbc jbV ja3 jbH jaT jbO jaq jac jbI jbl jbn jba jaa x1 jdD jaR jbs jbt jbo jbp jbk jbj jbe jbq jbE jbm jbi jcd jaT jbb jbr jaR jb6 jbb cyI jbQ jb6 jbW jbL jck jcc jdh jcc cyI f2 jck cyI f4 jbW cyI jdN jbL cyI jdi jbs cyI jci jbt cyI jcj a3 cyJ n3 f3) H1 := hP.sub [1, 2, 3, 4, 5, 6, 7, 8, 9, 10, 11, 0] rfl
  have hD : va_D A (wd02_52 a0 jaK jaR ja1 jb6 jbc jbV ja3 jbH jaT jbO jaq jac jbI jbl jbn jba jaa x1 jdD jaR jbs jbt jbo jbp jbk jbj jbe jbq jbE jbm jbi jcd jaT jbb jbr jaR jb6 jbb cyI jbQ jb6 jbW jbL jck jcc jdh jcc cyI f2 jck cyI f4 jbW cyI jdN jbL cyI jdi jbs cyI jci jbt cyI jcj a3 cyJ n3 f3) := hD.sub [1, 2, 3, 4, 5, 6, 7, 8, 9, 10, 11, 0] (by decide) rfl
  generalize H1 = H at hP hS ⊢
  refine lv_i2l (v := r5.toInt64) hx hb (dt_of tkL_hops_k0 6 rfl) rfl ?_
  refine lv_topl (fun x6 ex6 => ?_)
  have hw := hw x6 ex6
  obtain ⟨hi9, hw⟩ := hw
  refine va_last hx hb hK hP hD hS 11 2 rfl rfl hi9 (dt_of tkL_hops_k0 7 rfl) (fun H locs hP hD hS => ?_)
  obtain ⟨f7, ef7⟩ : ∃ y : Nat → Int64, y = vp_updL f3 (0 : Int32).toNatClampNeg x6 := ⟨_, rfl⟩
  have hw := hw f7 ef7
  have hP : va_P (dC, dI) vwCl (wd02_52 a0 jaK jaR ja1 jb6 jbc jbV ja3 jbH jaT jbO jaq jac jbI jbl jbn jba jaa x1 jdD jaR jbs jbt jbo jbp jbk jbj jbe jbq jbE jbm jbi jcd jaT jbb jbr jaR jb6 jbb cyI jbQ jb6 jbW jbL jck jcc jdh jcc cyI f2 jck cyI f4 jbW cyI jdN jbL cyI jdi jbs cyI jci jbt cyI jcj a3 cyJ n3 f7) H := by rw [ef7]; exact hP
  have hD : va_D A (wd02_52 a0 jaK jaR ja1 jb6 jbc jbV ja3 jbH jaT jbO jaq jac jbI jbl jbn jba jaa x1 jdD jaR jbs jbt jbo jbp jbk jbj jbe jbq jbE jbm jbi jcd jaT jbb jbr jaR jb6 jbb cyI jbQ jb6 jbW jbL jck jcc jdh jcc cyI f2 jck cyI f4 jbW cyI jdN jbL cyI jdi jbs cyI jci jbt cyI jcj a3 cyJ n3 f7) := by rw [ef7]; exact hD
  refine lv_goto (tgt := 17) hx hb (dt_of tkL_hops_k0 8 rfl) (by decide) ?_
  refine lv_iconst (v := 0) hx hb (dt_of tkL_hops_k0 12 rfl) (by decide) ?_
  exact (W.widen (k := 2) (n := 12) (Nat.le_of_ble_eq_true rfl) (Nat.le_of_ble_eq_true rfl) (W.iret (v := 0) hx hb hr (fun t ht hW => ⟨⟨0, (x1, f2, f4, f7), rfl, hw, by rw [ht]; exact hP, va_K.moved hW.alike hK, hD⟩, hS.F ht⟩) hS.2.2 (dt_of tkL_hops_k0 13 rfl)))
theorem ui_X8_seesDigit_X8 : ∀ w ∈ u_ws RX8 TX8 7, w ∈ wsX8_seesDigit := uiM mbX8_seesDigit euX8 (by decide +kernel)
theorem uw_X8_seesDigit_f31 : (.fieldLink RX8 31 "MarchHares$Tape" "at" "I" : Cond) ∈ wsX8_seesDigit := mbX8_seesDigit 713 (by decide +kernel)
set_option maxHeartbeats 4000000 in
set_option maxRecDepth 100000 in
theorem ck_X8_seesDigit (l : Launch) (dC : Nat → ClassId) (dI : Nat → Nat → Nat) (cyB cyI cyJ cyP : ClassId) (a0 jif sz : Nat) (jl9 jjY jmS jkr : Value) (jb7 : Int32) (jjA : Nat → Int32) (jcP : Int32)  {Q : Int32 → Int32 → Prop} (hw : wq_X8_seesDigit jb7 jjA jcP  Q) : Met l yX8_seesDigit wsX8_seesDigit ({ frames := 1, cells := 0, slots := 0, locals := 21 }) (va_Pc [.ref a0] (cPc (dC, dI) (kT cyB cyI cyJ cyP) (wd02_54 a0 jif jb7 jcP jl9 jjY jmS jkr jif cyB jjA) sz)) (va_Qi (fun (r u : Int32) => Q r u) (cB (dC, dI) (kT cyB cyI cyJ cyP) (va_A (wd02_54 a0 jif jb7 jcP jl9 jjY jmS jkr jif cyB jjA) sz) (fun u : Int32 => ((wd02_54 a0 jif jb7 u jl9 jjY jmS jkr jif cyB jjA) : va_W))) (va_A (wd02_54 a0 jif jb7 jcP jl9 jjY jmS jkr jif cyB jjA) sz)) 0 0 (va_A (wd02_54 a0 jif jb7 jcP jl9 jjY jmS jkr jif cyB jjA) sz) := by
  refine Met.ofW (cc := cX8_seesDigit) (maxL := 1) (ret := (some .boolean)) (by decide) rfl ?_
  intro p e s m args below meth c s₁ B hml hv
  obtain ⟨rfl, hsz, hP, hK, hD0, hNw⟩ := hv
  have hx := B.exec
  have hb := B.bytes
  have hr := B.returns
  have hts := atoms_spec (ws := wsX8_seesDigit) B.pre
  have hown : s.vm.findClass RX8 = some m.cls := findClass_of_methodNamed B.named
  have hlocks := B.notSynchronized
  subst hsz
  have hD := hD0.self (sz := s.heap.size)
  generalize hAe : va_A (wd02_54 a0 jif jb7 jcP jl9 jjY jmS jkr jif cyB jjA) s.heap.size = A at hD ⊢
  have hA : ∀ q : Nat, s.heap.size ≤ q → A q := fun q h => by rw [← hAe]; exact Or.inr h
  have hS : va_S A s.heap s.heap [] := va_S.rf
  have hP : va_P (dC, dI) vwCl (wd02_54 a0 jif jb7 jcP jl9 jjY jmS jkr jif cyB jjA) s.heap := hP
  have hl := lv_entry ([.ref a0]) (n := 1) (Nat.le_of_ble_eq_true rfl)
  rw [lg_entry_eq]
  generalize (lg_sl ([.ref a0]) ++ List.replicate (1 - (lg_sl ([.ref a0])).length) Slot.unset).toArray = ls at hl ⊢
  have hl : lv_has ls 1 [(0, .ref a0)] := hl
  have C0 : cfx p s m _ meth c cX8_seesDigit (some .boolean) wsX8_seesDigit RX8 1 A (dC, dI) (kT cyB cyI cyJ cyP) := ⟨hx, hb, hr, hts, hown, hlocks, hml, hA, hK, hNw⟩
  clear hAe
  obtain ⟨H, hH⟩ : ∃ H, H = s.heap := ⟨_, rfl⟩
  rw [← hH] at hP ⊢
  have hS : va_S A s.heap H [] := by rw [hH]; exact va_S.rf
  have hS := hS
  refine lv_aload_n hx hb (dt_of tkX8_seesDigit_k0 0 rfl) rfl (lv_at hl 0 rfl) ?_
  obtain ⟨hCc, hPc, hDc, hFc⟩ := va_pick (ws' := (wd02_54 a0 jif jb7 jcP jl9 jjY jmS jkr jif cyB jjA)) hP hD hS hA [0, 1] (by decide +kernel) rfl
  refine va_callv (va_runV (As := []) (rest := []) ⟨hx, hb, hml, hown, hts⟩ (ck_X8_skipBlanks l dC dI cyB cyI cyJ cyP a0 jif H.size (jl9) (jjY) (jmS) (jkr) jb7 jjA jcP  hw) (cwV 0 hts gX8_seesDigit_X8_skipBlanks rfl rfl rfl (by decide +kernel) ⟨Nat.le_of_ble_eq_true rfl, Nat.le_of_ble_eq_true rfl⟩) ⟨cPc_blind, va_recv (q := (RX8, TX8, 7)) hK hPc (ci := 8) (q0 := 0) rfl rfl, cPc_pre hPc hK hDc hNw⟩ rfl rfl hl.1 rfl (lv_room (Nat.le_of_ble_eq_true rfl)) (dt_of tkX8_seesDigit_k0 1 rfl) ⟨Nat.le_of_ble_eq_true rfl, Nat.le_of_ble_eq_true rfl⟩) hS (fun q _ h => hFc q h) hFc (fun u t H1 locs ht hvm hw hB hz1 hk1 hS => ?_)
  obtain ⟨x1, rfl⟩ : ∃ z, z = u := ⟨_, rfl⟩
  obtain ⟨hP1, hK1, hD1⟩ := hB
  rw [ht] at hP1
  obtain ⟨hP, hD⟩ := va_joinI (wr := []) (w1 := (wd02_54 a0 jif jb7 x1 jl9 jjY jmS jkr jif cyB jjA)) (wn := (wd02_54 a0 jif jb7 x1 jl9 jjY jmS jkr jif cyB jjA)) hP hD [0, 1] [] hCc rfl (by decide +kernel) (by decide +kernel) rfl hk1 hFc hP1 hD1
  generalize H1 = H at hP hS ⊢
  refine lv_aload_n hx hb (dt_of tkX8_seesDigit_k0 2 rfl) rfl (lv_at hl 0 rfl) ?_
  refine lv_aload_n hx hb (dt_of tkX8_seesDigit_k0 3 rfl) rfl (lv_at hl 0 rfl) ?_
  refine va_get (D := (dC, dI)) (ci := 8) (v := .int x1) (C := RX8) (T := TX8) (N := 7) hx hb hts ui_X8_seesDigit_X8 hown hK hP 0 rfl rfl 2 (by decide) (hts _ uw_X8_seesDigit_f31) (fun _ h9 => h9) rfl (dt_of tkX8_seesDigit_k0 4 rfl) ?_
  obtain ⟨hCc, hPc, hDc, hFc⟩ := va_pick (ws' := (wd02_54 a0 jif jb7 x1 jl9 jjY jmS jkr jif cyB jjA)) hP hD hS hA [0, 1] (by decide +kernel) rfl
  refine va_calli (va_runV (As := [.int x1]) (rest := []) ⟨hx, hb, hml, hown, hts⟩ (ck_X8_digitAt l dC dI cyB cyI cyJ cyP a0 jif H.size (.int x1) (jl9) (jjY) (jmS) (jkr) jb7 jjA  x1 hw) (cwV 1 hts gX8_seesDigit_X8_digitAt rfl rfl rfl (by decide +kernel) ⟨Nat.le_of_ble_eq_true rfl, Nat.le_of_ble_eq_true rfl⟩) ⟨cPc_blind, va_recv (q := (RX8, TX8, 7)) hK hPc (ci := 8) (q0 := 0) rfl rfl, cPc_pre hPc hK hDc hNw⟩ rfl rfl hl.1 rfl (lv_room (Nat.le_of_ble_eq_true rfl)) (dt_of tkX8_seesDigit_k0 5 rfl) ⟨Nat.le_of_ble_eq_true rfl, Nat.le_of_ble_eq_true rfl⟩) hS (fun q _ h => hFc q h) hFc (fun r2 u t H1 locs ht hvm hw hB hz1 hk1 hS => ?_)
  obtain ⟨hP1, hK1, hD1⟩ := hB
  rw [ht] at hP1
  obtain ⟨hP, hD⟩ := va_joinI (wr := []) (w1 := (wd02_54 a0 jif jb7 x1 jl9 jjY jmS jkr jif cyB jjA)) (wn := (wd02_54 a0 jif jb7 x1 jl9 jjY jmS jkr jif cyB jjA)) hP hD [0, 1] [] hCc rfl (by decide +kernel) (by decide +kernel) rfl hk1 hFc hP1 hD1
  generalize H1 = H at hP hS ⊢
  refine lv_if_lt (tgt := 19) hx hb (dt_of tkX8_seesDigit_k0 6 rfl) (by decide) (fun c3 => ?_) (fun c3 => ?_)
  · have hw := hw.1 c3
    refine lv_iconst (v := 0) hx hb (dt_of tkX8_seesDigit_k0 9 rfl) (by decide) ?_
    exact ((W.zret (v := 0) hx hb hr rfl (fun t ht hW => ⟨⟨0, (x1), rfl, hw, by rw [ht]; exact hP, va_K.moved hW.alike hK, hD⟩, hS.F ht⟩) hS.2.2 (dt_of tkX8_seesDigit_k0 10 rfl)))
  · have hw := hw.2 c3
    refine lv_iconst (v := 1) hx hb (dt_of tkX8_seesDigit_k0 7 rfl) (by decide) ?_
    refine lv_goto (tgt := 20) hx hb (dt_of tkX8_seesDigit_k0 8 rfl) (by decide) ?_
    exact ((W.zret (v := 1) hx hb hr rfl (fun t ht hW => ⟨⟨1, (x1), rfl, hw, by rw [ht]; exact hP, va_K.moved hW.alike hK, hD⟩, hS.F ht⟩) hS.2.2 (dt_of tkX8_seesDigit_k0 10 rfl)))
set_option maxHeartbeats 4000000 in
set_option maxRecDepth 100000 in
theorem ck_X8_needsEnd (l : Launch) (dC : Nat → ClassId) (dI : Nat → Nat → Nat) (cyB cyI cyJ cyP : ClassId) (a0 jif sz : Nat) (jl9 jjY : Value) (jb7 : Int32) (jjA : Nat → Int32) (jcP jkC jj3 : Int32)  {Q : Int32 → Int32 → Int32 → Prop} (hw : wq_X8_needsEnd jb7 jjA jcP jkC jj3  Q) : Met l yX8_needsEnd wsX8_needsEnd ({ frames := 2, cells := 0, slots := 0, locals := 42 }) (va_Pc [.ref a0] (cPc (dC, dI) (kT cyB cyI cyJ cyP) (wd02_55 a0 jif jb7 jcP jl9 jjY jkC jj3 jif cyB jjA) sz)) (va_Qv (fun (u : Int32 × Int32 × Int32) => Q u.1 u.2.1 u.2.2) (cB (dC, dI) (kT cyB cyI cyJ cyP) (va_A (wd02_55 a0 jif jb7 jcP jl9 jjY jkC jj3 jif cyB jjA) sz) (fun u : Int32 × Int32 × Int32 => ((wd02_55 a0 jif jb7 u.1 jl9 jjY u.2.1 u.2.2 jif cyB jjA) : va_W))) (va_A (wd02_55 a0 jif jb7 jcP jl9 jjY jkC jj3 jif cyB jjA) sz)) 0 0 (va_A (wd02_55 a0 jif jb7 jcP jl9 jjY jkC jj3 jif cyB jjA) sz) := by
  refine Met.ofW (cc := cX8_needsEnd) (maxL := 1) (ret := none) (by decide) rfl ?_
  intro p e s m args below meth c s₁ B hml hv
  obtain ⟨rfl, hsz, hP, hK, hD0, hNw⟩ := hv
  have hx := B.exec
  have hb := B.bytes
  have hr := B.returns
  have hts := atoms_spec (ws := wsX8_needsEnd) B.pre
  have hown : s.vm.findClass RX8 = some m.cls := findClass_of_methodNamed B.named
  have hlocks := B.notSynchronized
  subst hsz
  have hD := hD0.self (sz := s.heap.size)
  generalize hAe : va_A (wd02_55 a0 jif jb7 jcP jl9 jjY jkC jj3 jif cyB jjA) s.heap.size = A at hD ⊢
  have hA : ∀ q : Nat, s.heap.size ≤ q → A q := fun q h => by rw [← hAe]; exact Or.inr h
  have hS : va_S A s.heap s.heap [] := va_S.rf
  have hP : va_P (dC, dI) vwCl (wd02_55 a0 jif jb7 jcP jl9 jjY jkC jj3 jif cyB jjA) s.heap := hP
  have hl := lv_entry ([.ref a0]) (n := 1) (Nat.le_of_ble_eq_true rfl)
  rw [lg_entry_eq]
  generalize (lg_sl ([.ref a0]) ++ List.replicate (1 - (lg_sl ([.ref a0])).length) Slot.unset).toArray = ls at hl ⊢
  have hl : lv_has ls 1 [(0, .ref a0)] := hl
  have C0 : cfx p s m _ meth c cX8_needsEnd none wsX8_needsEnd RX8 1 A (dC, dI) (kT cyB cyI cyJ cyP) := ⟨hx, hb, hr, hts, hown, hlocks, hml, hA, hK, hNw⟩
  clear hAe
  obtain ⟨H, hH⟩ : ∃ H, H = s.heap := ⟨_, rfl⟩
  rw [← hH] at hP ⊢
  have hS : va_S A s.heap H [] := by rw [hH]; exact va_S.rf
  have hS := hS
  refine lv_aload_n hx hb (dt_of tkX8_needsEnd_k0 0 rfl) rfl (lv_at hl 0 rfl) ?_
  obtain ⟨hCc, hPc, hDc, hFc⟩ := va_pick (ws' := (wd02_55 a0 jif jb7 jcP jl9 jjY jkC jj3 jif cyB jjA)) hP hD hS hA [0, 1] (by decide +kernel) rfl
  refine va_calli (va_runV (As := []) (rest := []) ⟨hx, hb, hml, hown, hts⟩ (ck_X8_isEnded l dC dI cyB cyI cyJ cyP a0 jif H.size (jl9) (jjY) (.int jkC) (.int jj3) jb7 jjA jcP  hw) (cwV 0 hts gX8_needsEnd_X8_isEnded rfl rfl rfl (by decide +kernel) ⟨Nat.le_of_ble_eq_true rfl, Nat.le_of_ble_eq_true rfl⟩) ⟨cPc_blind, va_recv (q := (RX8, TX8, 7)) hK hPc (ci := 8) (q0 := 0) rfl rfl, cPc_pre hPc hK hDc hNw⟩ rfl rfl hl.1 rfl (lv_room (Nat.le_of_ble_eq_true rfl)) (dt_of tkX8_needsEnd_k0 1 rfl) ⟨Nat.le_of_ble_eq_true rfl, Nat.le_of_ble_eq_true rfl⟩) hS (fun q _ h => hFc q h) hFc (fun r2 u t H1 locs ht hvm hw hB hz1 hk1 hS => ?_)
  obtain ⟨x1, rfl⟩ : ∃ z, z = u := ⟨_, rfl⟩
  obtain ⟨hP1, hK1, hD1⟩ := hB
  rw [ht] at hP1
  obtain ⟨hP, hD⟩ := va_joinI (wr := []) (w1 := (wd02_55 a0 jif jb7 x1 jl9 jjY jkC jj3 jif cyB jjA)) (wn := (wd02_55 a0 jif jb7 x1 jl9 jjY jkC jj3 jif cyB jjA)) hP hD [0, 1] [] hCc rfl (by decide +kernel) (by decide +kernel) rfl hk1 hFc hP1 hD1
  generalize H1 = H at hP hS ⊢
  refine lv_if_ne (tgt := 11) hx hb (dt_of tkX8_needsEnd_k0 2 rfl) (by decide) (fun c3 => ?_) (fun c3 => ?_)
  · have hw := hw.1 c3
    exact ((W.vret hx hb hr (fun t ht hW => ⟨⟨(x1, jkC, jj3), rfl, hw, by rw [ht]; exact hP, va_K.moved hW.alike hK, hD⟩, hS.F ht⟩) hS.2.2 (dt_of tkX8_needsEnd_k0 5 rfl)))
  · have hw := hw.2 c3
    refine lv_aload_n hx hb (dt_of tkX8_needsEnd_k0 3 rfl) rfl (lv_at hl 0 rfl) ?_
    obtain ⟨hCc, hPc, hDc, hFc⟩ := va_pick (ws' := (wd02_55 a0 jif jb7 x1 jl9 jjY jkC jj3 jif cyB jjA)) hP hD hS hA [0, 1] (by decide +kernel) rfl
    refine va_callv (va_runV (As := []) (rest := []) ⟨hx, hb, hml, hown, hts⟩ (ck_X8_blameSign l dC dI cyB cyI cyJ cyP a0 jif H.size (jl9) (jjY) jb7 jjA x1 jkC jj3  hw) (cwV 0 hts gX8_needsEnd_X8_blameSign rfl rfl rfl (by decide +kernel) ⟨Nat.le_of_ble_eq_true rfl, Nat.le_of_ble_eq_true rfl⟩) ⟨cPc_blind, va_recv (q := (RX8, TX8, 7)) hK hPc (ci := 8) (q0 := 0) rfl rfl, cPc_pre hPc hK hDc hNw⟩ rfl rfl hl.1 rfl (lv_room (Nat.le_of_ble_eq_true rfl)) (dt_of tkX8_needsEnd_k0 4 rfl) ⟨Nat.le_of_ble_eq_true rfl, Nat.le_of_ble_eq_true rfl⟩) hS (fun q _ h => hFc q h) hFc (fun u t H1 locs ht hvm hw hB hz1 hk1 hS => ?_)
    obtain ⟨x4, x5, x6⟩ := u
    obtain ⟨hP1, hK1, hD1⟩ := hB
    rw [ht] at hP1
    obtain ⟨hP, hD⟩ := va_joinI (wr := []) (w1 := (wd02_55 a0 jif jb7 x4 jl9 jjY x5 x6 jif cyB jjA)) (wn := (wd02_55 a0 jif jb7 x4 jl9 jjY x5 x6 jif cyB jjA)) hP hD [0, 1] [] hCc rfl (by decide +kernel) (by decide +kernel) rfl hk1 hFc hP1 hD1
    generalize H1 = H at hP hS ⊢
    exact ((W.vret hx hb hr (fun t ht hW => ⟨⟨(x4, x5, x6), rfl, hw, by rw [ht]; exact hP, va_K.moved hW.alike hK, hD⟩, hS.F ht⟩) hS.2.2 (dt_of tkX8_needsEnd_k0 5 rfl)))
theorem ui_X1_obey_X1 : ∀ w ∈ u_ws RX1 TX1 4, w ∈ wsX1_obey := uiM mbX1_obey euX1 (by decide +kernel)
theorem uw_X1_obey_f28 : (.fieldLink RX1 28 "MarchHares$Days" "law" "LMarchHares$Law;" : Cond) ∈ wsX1_obey := mbX1_obey 323 (by decide +kernel)
set_option maxHeartbeats 4000000 in
set_option maxRecDepth 100000 in
theorem ck_X1_obey (l : Launch) (dC : Nat → ClassId) (dI : Nat → Nat → Nat) (cyB cyI cyJ cyP : ClassId) (a0 a1 sz : Nat) (jmX jcD ji6 jo9 : Value)    {Q : Prop} (hw : wq_X1_obey    Q) : Met l yX1_obey wsX1_obey ({ frames := 0, cells := 0, slots := 0, locals := 0 }) (va_Pc [.ref a0, .ref a1] (cPc (dC, dI) (kT cyB cyI cyJ cyP) (wd02_56 a0 jmX jcD ji6 jo9) sz)) (va_Qv (fun (_ : Unit) => Q ) (cB (dC, dI) (kT cyB cyI cyJ cyP) (va_A (wd02_56 a0 jmX jcD ji6 jo9) sz) (fun u : Unit => ((wd02_57 a0 jmX jcD ji6 a1) : va_W))) (va_A (wd02_56 a0 jmX jcD ji6 jo9) sz)) 0 0 (va_A (wd02_56 a0 jmX jcD ji6 jo9) sz) := by
  refine Met.ofW (cc := cX1_obey) (maxL := 2) (ret := none) (by decide) rfl ?_
  intro p e s m args below meth c s₁ B hml hv
  obtain ⟨rfl, hsz, hP, hK, hD0, hNw⟩ := hv
  have hx := B.exec
  have hb := B.bytes
  have hr := B.returns
  have hts := atoms_spec (ws := wsX1_obey) B.pre
  have hown : s.vm.findClass RX1 = some m.cls := findClass_of_methodNamed B.named
  have hlocks := B.notSynchronized
  subst hsz
  have hD := hD0.self (sz := s.heap.size)
  generalize hAe : va_A (wd02_56 a0 jmX jcD ji6 jo9) s.heap.size = A at hD ⊢
  have hA : ∀ q : Nat, s.heap.size ≤ q → A q := fun q h => by rw [← hAe]; exact Or.inr h
  have hS : va_S A s.heap s.heap [] := va_S.rf
  have hP : va_P (dC, dI) vwCl (wd02_56 a0 jmX jcD ji6 jo9) s.heap := hP
  have hl := lv_entry ([.ref a0, .ref a1]) (n := 2) (Nat.le_of_ble_eq_true rfl)
  rw [lg_entry_eq]
  generalize (lg_sl ([.ref a0, .ref a1]) ++ List.replicate (2 - (lg_sl ([.ref a0, .ref a1])).length) Slot.unset).toArray = ls at hl ⊢
  have hl : lv_has ls 2 [(0, .ref a0), (1, .ref a1)] := hl
  have C0 : cfx p s m _ meth c cX1_obey none wsX1_obey RX1 2 A (dC, dI) (kT cyB cyI cyJ cyP) := ⟨hx, hb, hr, hts, hown, hlocks, hml, hA, hK, hNw⟩
  clear hAe
  obtain ⟨H, hH⟩ : ∃ H, H = s.heap := ⟨_, rfl⟩
  rw [← hH] at hP ⊢
  have hS : va_S A s.heap H [] := by rw [hH]; exact va_S.rf
  have hS := hS
  refine lv_aload_n hx hb (dt_of tkX1_obey_k0 0 rfl) rfl (lv_at hl 0 rfl) ?_
  refine lv_aload_n hx hb (dt_of tkX1_obey_k0 1 rfl) rfl (lv_at hl 1 rfl) ?_
  refine va_put (D := (dC, dI)) (ci := 1) (v := .ref a1) (ty := .object "MarchHares$Law") (C := RX1) (T := TX1) (N := 4) hx hb hts ui_X1_obey_X1 tyX1 tyX1_ok nmX1 hown hK hP hD hS 0 rfl rfl 3 (by decide) (hts _ uw_X1_obey_f28) (fun _ h9 => h9) rfl (by decide +kernel) rfl rfl (Nat.le_of_ble_eq_true rfl) (dt_of tkX1_obey_k0 2 rfl) (fun H locs hP hD hS => ?_)
  have hP : va_P (dC, dI) vwCl (wd02_57 a0 jmX jcD ji6 a1) H := hP
  have hD : va_D A (wd02_57 a0 jmX jcD ji6 a1) := hD
  exact ((W.vret hx hb hr (fun t ht hW => ⟨⟨(), rfl, hw, by rw [ht]; exact hP, va_K.moved hW.alike hK, hD⟩, hS.F ht⟩) hS.2.2 (dt_of tkX1_obey_k0 3 rfl)))
theorem ui_X3_tallied_X3 : ∀ w ∈ u_ws RX3 TX3 11, w ∈ wsX3_tallied := uiM mbX3_tallied euX3 (by decide +kernel)
theorem uw_X3_tallied_f21 : (.fieldLink RX3 21 "MarchHares$Fitting" "tally" "[I" : Cond) ∈ wsX3_tallied := mbX3_tallied 393 (by decide +kernel)
theorem uw_X3_tallied_iniRX10 : (.initialized RX10 : Cond) ∈ wsX3_tallied := mbX3_tallied 2 (by decide +kernel)
theorem uw_X3_tallied_stX10_within : (.static yX10_within : Cond) ∈ wsX3_tallied := mbX3_tallied 658 (by decide +kernel)
set_option maxHeartbeats 4000000 in
set_option maxRecDepth 100000 in
theorem ck_X3_tallied (l : Launch) (dC : Nat → ClassId) (dI : Nat → Nat → Nat) (cyB cyI cyJ cyP : ClassId) (a0 jlj sz : Nat) (jmf jpq jlU ja4 ja0 jaO jmb jmc jkn jjZ : Value)  (jly : Nat → Int32) (p1 : Int32) {Q : Int32 → (Nat → Int32) → Prop} (hw : wq_X3_tallied  jly p1 Q) : Met l yX3_tallied wsX3_tallied ({ frames := 1, cells := 0, slots := 0, locals := 22 }) (va_Pc [.ref a0, .int p1] (cPc (dC, dI) (kT cyB cyI cyJ cyP) (wd02_58 a0 jmf jpq jlU jlj ja4 ja0 jaO jmb jmc jkn jjZ jlj cyI jly) sz)) (va_Qi (fun (r : Int32) (u : (Nat → Int32)) => Q r u) (cB (dC, dI) (kT cyB cyI cyJ cyP) (va_A (wd02_58 a0 jmf jpq jlU jlj ja4 ja0 jaO jmb jmc jkn jjZ jlj cyI jly) sz) (fun u : (Nat → Int32) => ((wd02_58 a0 jmf jpq jlU jlj ja4 ja0 jaO jmb jmc jkn jjZ jlj cyI u) : va_W))) (va_A (wd02_58 a0 jmf jpq jlU jlj ja4 ja0 jaO jmb jmc jkn jjZ jlj cyI jly) sz)) 0 0 (va_A (wd02_58 a0 jmf jpq jlU jlj ja4 ja0 jaO jmb jmc jkn jjZ jlj cyI jly) sz) := by
  refine Met.ofW (cc := cX3_tallied) (maxL := 2) (ret := (some .int)) (by decide) rfl ?_
  intro p e s m args below meth c s₁ B hml hv
  obtain ⟨rfl, hsz, hP, hK, hD0, hNw⟩ := hv
  have hx := B.exec
  have hb := B.bytes
  have hr := B.returns
  have hts := atoms_spec (ws := wsX3_tallied) B.pre
  have hown : s.vm.findClass RX3 = some m.cls := findClass_of_methodNamed B.named
  have hlocks := B.notSynchronized
  subst hsz
  have hD := hD0.self (sz := s.heap.size)
  generalize hAe : va_A (wd02_58 a0 jmf jpq jlU jlj ja4 ja0 jaO jmb jmc jkn jjZ jlj cyI jly) s.heap.size = A at hD ⊢
  have hA : ∀ q : Nat, s.heap.size ≤ q → A q := fun q h => by rw [← hAe]; exact Or.inr h
  have hS : va_S A s.heap s.heap [] := va_S.rf
  have hP : va_P (dC, dI) vwCl (wd02_58 a0 jmf jpq jlU jlj ja4 ja0 jaO jmb jmc jkn jjZ jlj cyI jly) s.heap := hP
  have hl := lv_entry ([.ref a0, .int p1]) (n := 2) (Nat.le_of_ble_eq_true rfl)
  rw [lg_entry_eq]
  generalize (lg_sl ([.ref a0, .int p1]) ++ List.replicate (2 - (lg_sl ([.ref a0, .int p1])).length) Slot.unset).toArray = ls at hl ⊢
  have hl : lv_has ls 2 [(0, .ref a0), (1, .int p1)] := hl
  have C0 : cfx p s m _ meth c cX3_tallied (some .int) wsX3_tallied RX3 2 A (dC, dI) (kT cyB cyI cyJ cyP) := ⟨hx, hb, hr, hts, hown, hlocks, hml, hA, hK, hNw⟩
  clear hAe
  obtain ⟨H, hH⟩ : ∃ H, H = s.heap := ⟨_, rfl⟩
  rw [← hH] at hP ⊢
  have hS : va_S A s.heap H [] := by rw [hH]; exact va_S.rf
  have hS := hS
  refine lv_iload_n hx hb (dt_of tkX3_tallied_k0 0 rfl) rfl (lv_at hl 1 rfl) ?_
  refine lv_iconst (v := 0) hx hb (dt_of tkX3_tallied_k0 1 rfl) (by decide) ?_
  refine lv_bipush (v := 6) hx hb (dt_of tkX3_tallied_k0 2 rfl) (by decide) ?_
  obtain ⟨hCc, hPc, hDc, hFc⟩ := va_pick (ws' := []) hP hD hS hA [] (by decide +kernel) rfl
  refine va_calli (va_runSN (As := [.int p1, .int 0, .int 6]) (rest := []) ⟨hx, hb, hml, hown, hts⟩ (ck_X10_within l dC dI cyB cyI cyJ cyP  H.size    p1 0 6 hw) ⟨(va_cnB 3 hts gX3_tallied_X10_within_n106 rfl rfl rfl (nw_11 hNw) (hts _ uw_X3_tallied_iniRX10) (by decide +kernel) ⟨Nat.le_of_ble_eq_true rfl, Nat.le_of_ble_eq_true rfl⟩), (hts _ uw_X3_tallied_stX10_within), trivial⟩ ⟨cPc_blind, cPc_pre hPc hK hDc hNw⟩ rfl rfl hl.1 rfl (lv_room (Nat.le_of_ble_eq_true rfl)) (dt_of tkX3_tallied_k0 3 rfl) ⟨Nat.le_of_ble_eq_true rfl, Nat.le_of_ble_eq_true rfl⟩) hS (fun q _ h => hFc q h) hFc (fun r1 u t H1 locs ht hvm hw hB hz1 hk1 hS => ?_)
  obtain ⟨hP1, hK1, hD1⟩ := hB
  rw [ht] at hP1
  obtain ⟨hP, hD⟩ := va_joinI (wr := (wd02_58 a0 jmf jpq jlU jlj ja4 ja0 jaO jmb jmc jkn jjZ jlj cyI jly)) (w1 := []) (wn := (wd02_58 a0 jmf jpq jlU jlj ja4 ja0 jaO jmb jmc jkn jjZ jlj cyI jly)) hP hD [] [0, 1] hCc rfl (by decide +kernel) (by decide +kernel) rfl hk1 hFc hP1 hD1
  generalize H1 = H at hP hS ⊢
  refine lv_if_ne (tgt := 12) hx hb (dt_of tkX3_tallied_k0 4 rfl) (by decide) (fun c2 => ?_) (fun c2 => ?_)
  · have hw := hw.1 c2
    refine lv_aload_n hx hb (dt_of tkX3_tallied_k0 7 rfl) rfl (lv_at hl 0 rfl) ?_
    refine va_get (D := (dC, dI)) (ci := 3) (v := .ref jlj) (C := RX3) (T := TX3) (N := 11) hx hb hts ui_X3_tallied_X3 hown hK hP 0 rfl rfl 3 (by decide) (hts _ uw_X3_tallied_f21) (fun _ h9 => h9) rfl (dt_of tkX3_tallied_k0 8 rfl) ?_
    refine lv_iload_n hx hb (dt_of tkX3_tallied_k0 9 rfl) rfl (lv_at hl 1 rfl) ?_
    refine lv_dup2_11 hx hb (dt_of tkX3_tallied_k0 10 rfl) rfl rfl ?_
    obtain ⟨hi9, hw⟩ := hw
    refine va_iald hx hb hK hP 1 1 rfl rfl hi9 (dt_of tkX3_tallied_k0 11 rfl) ?_
    refine lv_topi (fun x3 ex3 => ?_)
    have hw := hw x3 ex3
    refine lv_iconst (v := 1) hx hb (dt_of tkX3_tallied_k0 12 rfl) (by decide) ?_
    refine lv_iadd hx hb (dt_of tkX3_tallied_k0 13 rfl) ?_
    refine lv_topi (fun x4 ex4 => ?_)
    have hw := hw x4 ex4
    obtain ⟨hi9, hw⟩ := hw
    refine va_iast hx hb hK hP hD hS 1 1 rfl rfl hi9 (dt_of tkX3_tallied_k0 14 rfl) (fun H locs hP hD hS => ?_)
    obtain ⟨f5, ef5⟩ : ∃ y : Nat → Int32, y = upd jly p1.toNatClampNeg x4 := ⟨_, rfl⟩
    have hw := hw f5 ef5
    have hP : va_P (dC, dI) vwCl (wd02_58 a0 jmf jpq jlU jlj ja4 ja0 jaO jmb jmc jkn jjZ jlj cyI f5) H := by rw [ef5]; exact hP
    have hD : va_D A (wd02_58 a0 jmf jpq jlU jlj ja4 ja0 jaO jmb jmc jkn jjZ jlj cyI f5) := by rw [ef5]; exact hD
    refine lv_aload_n hx hb (dt_of tkX3_tallied_k0 15 rfl) rfl (lv_at hl 0 rfl) ?_
    refine va_get (D := (dC, dI)) (ci := 3) (v := .ref jlj) (C := RX3) (T := TX3) (N := 11) hx hb hts ui_X3_tallied_X3 hown hK hP 0 rfl rfl 3 (by decide) (hts _ uw_X3_tallied_f21) (fun _ h9 => h9) rfl (dt_of tkX3_tallied_k23 0 rfl) ?_
    refine lv_iload_n hx hb (dt_of tkX3_tallied_k23 1 rfl) rfl (lv_at hl 1 rfl) ?_
    obtain ⟨hi9, hw⟩ := hw
    refine va_iald hx hb hK hP 1 1 rfl rfl hi9 (dt_of tkX3_tallied_k23 2 rfl) ?_
    refine lv_topi (fun x6 ex6 => ?_)
    have hw := hw x6 ex6
    exact ((W.iret (v := x6) hx hb hr (fun t ht hW => ⟨⟨x6, (f5), rfl, hw, by rw [ht]; exact hP, va_K.moved hW.alike hK, hD⟩, hS.F ht⟩) hS.2.2 (dt_of tkX3_tallied_k23 3 rfl)))
  · have hw := hw.2 c2
    refine lv_iconst (v := 0) hx hb (dt_of tkX3_tallied_k0 5 rfl) (by decide) ?_
    exact ((W.iret (v := 0) hx hb hr (fun t ht hW => ⟨⟨0, (jly), rfl, hw, by rw [ht]; exact hP, va_K.moved hW.alike hK, hD⟩, hS.F ht⟩) hS.2.2 (dt_of tkX3_tallied_k0 6 rfl)))
theorem ui_X3_worstAt_X3 : ∀ w ∈ u_ws RX3 TX3 11, w ∈ wsX3_worstAt := uiM mbX3_worstAt euX3 (by decide +kernel)
theorem uw_X3_worstAt_f18 : (.fieldLink RX3 18 "MarchHares$Fitting" "fittingForms" "[I" : Cond) ∈ wsX3_worstAt := mbX3_worstAt 392 (by decide +kernel)
theorem uw_X3_worstAt_f21 : (.fieldLink RX3 21 "MarchHares$Fitting" "tally" "[I" : Cond) ∈ wsX3_worstAt := mbX3_worstAt 393 (by decide +kernel)
theorem uw_X3_worstAt_f36 : (.fieldLink RX3 36 "MarchHares$Fitting" "hares" "I" : Cond) ∈ wsX3_worstAt := mbX3_worstAt 3468 (by decide +kernel)
theorem uw_X3_worstAt_f40 : (.fieldLink RX3 40 "MarchHares$Fitting" "forms" "I" : Cond) ∈ wsX3_worstAt := mbX3_worstAt 3470 (by decide +kernel)
theorem uw_X3_worstAt_iniRX10 : (.initialized RX10 : Cond) ∈ wsX3_worstAt := mbX3_worstAt 2 (by decide +kernel)
theorem uw_X3_worstAt_inim : (.initialized "java/lang/Math" : Cond) ∈ wsX3_worstAt := mbX3_worstAt 651 (by decide +kernel)
theorem uw_X3_worstAt_m100 : (.methodLink RX3 100 Lib.Math.max.name : Cond) ∈ wsX3_worstAt := mbX3_worstAt 3606 (by decide +kernel)
theorem uw_X3_worstAt_mcmax : (.code Lib.Math.max.name Lib.Math.max.code 2 (some .int) : Cond) ∈ wsX3_worstAt := mbX3_worstAt 1931 (by decide +kernel)
theorem uw_X3_worstAt_msmax : (.static Lib.Math.max.name : Cond) ∈ wsX3_worstAt := mbX3_worstAt 1930 (by decide +kernel)
theorem uw_X3_worstAt_stX10_holds : (.static yX10_holds : Cond) ∈ wsX3_worstAt := mbX3_worstAt 2052 (by decide +kernel)
set_option maxHeartbeats 4000000 in
set_option maxRecDepth 100000 in
theorem kb_X3_worstAt_76 {p : Program} {l : Launch} {e : Env} {s : State} {m : MethodId} {args : Array Value} {below : List Frame} {meth : Method} {c : Code} {A : Nat → Prop} (dC : Nat → ClassId) (dI : Nat → Nat → Nat) (cyB cyI cyJ cyP : ClassId) (a0 jlj jhn jhX ji2 : Nat) (jaO jmb jmc jkn jjZ : Value) (jaC jaN : Int32) (jim jiL jjH : Nat → Int32) (Q : Int32 → (Nat → Int32) → Prop) (K25 : (Nat → Int32) → Int32 → Int32 → Int32 → Prop) (K36 : (Nat → Int32) → Int32 → Int32 → Int32 → Int32 → Prop) (hK25 : ∀ (H : Heap) (locs : List Loc) (ls : Array Slot) (jly : Nat → Int32) (l1 l2 l3 : Int32), va_P (dC, dI) vwCl (wd02_59 a0 jhX ji2 jhn jlj jaC jaN jaO jmb jmc jkn jjZ jlj cyI jly jhn cyI jim jhX cyI jiL ji2 cyI jjH) H → va_D A (wd02_59 a0 jhX ji2 jhn jlj jaC jaN jaO jmb jmc jkn jjZ jlj cyI jly jhn cyI jim jhX cyI jiL ji2 cyI jjH) → va_S A s.heap H locs → lv_has ls 5 [(0, .ref a0), (1, .int l1), (2, .int l2), (3, .int l3)] → K25 jly l1 l2 l3 → W p l e (headSpec wsX3_worstAt ({ frames := 2, cells := 0, slots := 0, locals := 43 })).room s m args below meth c H locs 0 0 (MQ below (va_Qi (fun (r : Int32) (u : (Nat → Int32)) => Q r u) (cB (dC, dI) (kT cyB cyI cyJ cyP) A (fun u : (Nat → Int32) => ((wd02_59 a0 jhX ji2 jhn jlj jaC jaN jaO jmb jmc jkn jjZ jlj cyI u jhn cyI jim jhX cyI jiL ji2 cyI jjH) : va_W))) A) args s 0 0 A) (F0 m 25 ls [])) (hK36 : ∀ (H : Heap) (locs : List Loc) (ls : Array Slot) (jly : Nat → Int32) (l1 l2 l3 l4 : Int32), va_P (dC, dI) vwCl (wd02_59 a0 jhX ji2 jhn jlj jaC jaN jaO jmb jmc jkn jjZ jlj cyI jly jhn cyI jim jhX cyI jiL ji2 cyI jjH) H → va_D A (wd02_59 a0 jhX ji2 jhn jlj jaC jaN jaO jmb jmc jkn jjZ jlj cyI jly jhn cyI jim jhX cyI jiL ji2 cyI jjH) → va_S A s.heap H locs → lv_has ls 5 [(0, .ref a0), (1, .int l1), (2, .int l2), (3, .int l3), (4, .int l4)] → K36 jly l1 l2 l3 l4 → W p l e (headSpec wsX3_worstAt ({ frames := 2, cells := 0, slots := 0, locals := 43 })).room s m args below meth c H locs 0 0 (MQ below (va_Qi (fun (r : Int32) (u : (Nat → Int32)) => Q r u) (cB (dC, dI) (kT cyB cyI cyJ cyP) A (fun u : (Nat → Int32) => ((wd02_59 a0 jhX ji2 jhn jlj jaC jaN jaO jmb jmc jkn jjZ jlj cyI u jhn cyI jim jhX cyI jiL ji2 cyI jjH) : va_W))) A) args s 0 0 A) (F0 m 36 ls [])) (C0 : cfx p s m args meth c cX3_worstAt (some .int) wsX3_worstAt RX3 5 A (dC, dI) (kT cyB cyI cyJ cyP)) : ∀ (H : Heap) (locs : List Loc) (ls : Array Slot) (jly : Nat → Int32) (l1 l2 l3 l4 : Int32), va_P (dC, dI) vwCl (wd02_59 a0 jhX ji2 jhn jlj jaC jaN jaO jmb jmc jkn jjZ jlj cyI jly jhn cyI jim jhX cyI jiL ji2 cyI jjH) H → va_D A (wd02_59 a0 jhX ji2 jhn jlj jaC jaN jaO jmb jmc jkn jjZ jlj cyI jly jhn cyI jim jhX cyI jiL ji2 cyI jjH) → va_S A s.heap H locs → lv_has ls 5 [(0, .ref a0), (1, .int l1), (2, .int l2), (3, .int l3), (4, .int l4)] → wb_X3_worstAt_76 jaC jaN jim jiL jjH Q K25 K36 jly l1 l2 l3 l4 → W p l e (headSpec wsX3_worstAt ({ frames := 2, cells := 0, slots := 0, locals := 43 })).room s m args below meth c H locs 0 0 (MQ below (va_Qi (fun (r : Int32) (u : (Nat → Int32)) => Q r u) (cB (dC, dI) (kT cyB cyI cyJ cyP) A (fun u : (Nat → Int32) => ((wd02_59 a0 jhX ji2 jhn jlj jaC jaN jaO jmb jmc jkn jjZ jlj cyI u jhn cyI jim jhX cyI jiL ji2 cyI jjH) : va_W))) A) args s 0 0 A) (F0 m 76 ls []) := by
  obtain ⟨hx, hb, hr, hts, hown, hlocks, hml, hA, hK, hNw⟩ := id C0
  intro H locs ls jly l1 l2 l3 l4 hP hD hS hl hw
  obtain ⟨x14, ex14⟩ : ∃ y : Int32, y = l4 + 1 := ⟨_, rfl⟩
  have hw := hw x14 ex14
  refine lv_iinc (v := x14) (lv' := [(4, .int x14), (0, .ref a0), (1, .int l1), (2, .int l2), (3, .int l3)]) hx hb (dt_of tkX3_worstAt_k56 11 rfl) hl (k := 4) rfl (by rw [ex14]; rfl) (by decide) rfl (fun ls hl => ?_)
  refine lv_goto (tgt := 36) hx hb (dt_of tkX3_worstAt_k56 12 rfl) (by decide) ?_
  exact hK36 _ _ _ jly l1 l2 l3 x14 hP hD hS (lv_sub hl [1, 2, 3, 4, 0] rfl) hw
set_option maxHeartbeats 4000000 in
set_option maxRecDepth 100000 in
theorem kl_X3_worstAt_36 {p : Program} {l : Launch} {e : Env} {s : State} {m : MethodId} {args : Array Value} {below : List Frame} {meth : Method} {c : Code} {A : Nat → Prop} (dC : Nat → ClassId) (dI : Nat → Nat → Nat) (cyB cyI cyJ cyP : ClassId) (a0 jlj jhn jhX ji2 : Nat) (jaO jmb jmc jkn jjZ : Value) (jaC jaN : Int32) (jim jiL jjH : Nat → Int32) (Q : Int32 → (Nat → Int32) → Prop) (K25 : (Nat → Int32) → Int32 → Int32 → Int32 → Prop) (hK25 : ∀ (H : Heap) (locs : List Loc) (ls : Array Slot) (jly : Nat → Int32) (l1 l2 l3 : Int32), va_P (dC, dI) vwCl (wd02_59 a0 jhX ji2 jhn jlj jaC jaN jaO jmb jmc jkn jjZ jlj cyI jly jhn cyI jim jhX cyI jiL ji2 cyI jjH) H → va_D A (wd02_59 a0 jhX ji2 jhn jlj jaC jaN jaO jmb jmc jkn jjZ jlj cyI jly jhn cyI jim jhX cyI jiL ji2 cyI jjH) → va_S A s.heap H locs → lv_has ls 5 [(0, .ref a0), (1, .int l1), (2, .int l2), (3, .int l3)] → K25 jly l1 l2 l3 → W p l e (headSpec wsX3_worstAt ({ frames := 2, cells := 0, slots := 0, locals := 43 })).room s m args below meth c H locs 0 0 (MQ below (va_Qi (fun (r : Int32) (u : (Nat → Int32)) => Q r u) (cB (dC, dI) (kT cyB cyI cyJ cyP) A (fun u : (Nat → Int32) => ((wd02_59 a0 jhX ji2 jhn jlj jaC jaN jaO jmb jmc jkn jjZ jlj cyI u jhn cyI jim jhX cyI jiL ji2 cyI jjH) : va_W))) A) args s 0 0 A) (F0 m 25 ls [])) (C0 : cfx p s m args meth c cX3_worstAt (some .int) wsX3_worstAt RX3 5 A (dC, dI) (kT cyB cyI cyJ cyP)) : ∀ (n : Nat) (H : Heap) (locs : List Loc) (ls : Array Slot) (jly : Nat → Int32) (l1 l2 l3 l4 : Int32), va_P (dC, dI) vwCl (wd02_59 a0 jhX ji2 jhn jlj jaC jaN jaO jmb jmc jkn jjZ jlj cyI jly jhn cyI jim jhX cyI jiL ji2 cyI jjH) H → va_D A (wd02_59 a0 jhX ji2 jhn jlj jaC jaN jaO jmb jmc jkn jjZ jlj cyI jly jhn cyI jim jhX cyI jiL ji2 cyI jjH) → va_S A s.heap H locs → lv_has ls 5 [(0, .ref a0), (1, .int l1), (2, .int l2), (3, .int l3), (4, .int l4)] → wl_X3_worstAt_36 jaC jaN jim jiL jjH Q K25 n jly l1 l2 l3 l4 → W p l e (headSpec wsX3_worstAt ({ frames := 2, cells := 0, slots := 0, locals := 43 })).room s m args below meth c H locs 0 0 (MQ below (va_Qi (fun (r : Int32) (u : (Nat → Int32)) => Q r u) (cB (dC, dI) (kT cyB cyI cyJ cyP) A (fun u : (Nat → Int32) => ((wd02_59 a0 jhX ji2 jhn jlj jaC jaN jaO jmb jmc jkn jjZ jlj cyI u jhn cyI jim jhX cyI jiL ji2 cyI jjH) : va_W))) A) args s 0 0 A) (F0 m 36 ls []) := by
  obtain ⟨hx, hb, hr, hts, hown, hlocks, hml, hA, hK, hNw⟩ := id C0
  intro n
  induction n with
  | zero => intro H locs ls jly l1 l2 l3 l4 hP hD hS hl hw; exact False.elim hw
  | succ n ih =>
    intro H locs ls jly l1 l2 l3 l4 hP hD hS hl hw
    refine lv_iload hx hb (dt_of tkX3_worstAt_k25 6 rfl) (lv_at hl 4 rfl) ?_
    refine lv_aload_n hx hb (dt_of tkX3_worstAt_k25 7 rfl) rfl (lv_at hl 0 rfl) ?_
    refine va_get (D := (dC, dI)) (ci := 3) (v := .int jaN) (C := RX3) (T := TX3) (N := 11) hx hb hts ui_X3_worstAt_X3 hown hK hP 0 rfl rfl 5 (by decide) (hts _ uw_X3_worstAt_f40) (fun _ h9 => h9) rfl (dt_of tkX3_worstAt_k25 8 rfl) ?_
    refine lv_icmp_ge (tgt := 82) hx hb (dt_of tkX3_worstAt_k25 9 rfl) (by decide) (fun c5 => ?_) (fun c5 => ?_)
    · have hw := hw.1 c5
      obtain ⟨x6, ex6⟩ : ∃ y : Int32, y = l3 + 1 := ⟨_, rfl⟩
      have hw := hw x6 ex6
      refine lv_iinc (v := x6) (lv' := [(3, .int x6), (0, .ref a0), (1, .int l1), (2, .int l2), (4, .int l4)]) hx hb (dt_of tkX3_worstAt_k56 13 rfl) hl (k := 3) rfl (by rw [ex6]; rfl) (by decide) rfl (fun ls hl => ?_)
      refine lv_goto (tgt := 25) hx hb (dt_of tkX3_worstAt_k56 14 rfl) (by decide) ?_
      exact hK25 _ _ _ jly l1 l2 x6 hP hD hS (lv_sub hl [1, 2, 3, 0] rfl) hw
    · have hw := hw.2 c5
      refine lv_aload_n hx hb (dt_of tkX3_worstAt_k25 10 rfl) rfl (lv_at hl 0 rfl) ?_
      refine va_get (D := (dC, dI)) (ci := 3) (v := .ref jhn) (C := RX3) (T := TX3) (N := 11) hx hb hts ui_X3_worstAt_X3 hown hK hP 0 rfl rfl 2 (by decide) (hts _ uw_X3_worstAt_f18) (fun _ h9 => h9) rfl (dt_of tkX3_worstAt_k25 11 rfl) ?_
      refine lv_iload_n hx hb (dt_of tkX3_worstAt_k25 12 rfl) rfl (lv_at hl 3 rfl) ?_
      obtain ⟨hi9, hw⟩ := hw
      refine va_iald hx hb hK hP 2 1 rfl rfl hi9 (dt_of tkX3_worstAt_k25 13 rfl) ?_
      refine lv_topi (fun x7 ex7 => ?_)
      have hw := hw x7 ex7
      refine lv_iload hx hb (dt_of tkX3_worstAt_k25 14 rfl) (lv_at hl 4 rfl) ?_
      obtain ⟨hCc, hPc, hDc, hFc⟩ := va_pick (ws' := []) hP hD hS hA [] (by decide +kernel) rfl
      refine va_calli (va_runSN (As := [.int x7, .int l4]) (rest := []) ⟨hx, hb, hml, hown, hts⟩ (ck_X10_holds l dC dI cyB cyI cyJ cyP  H.size    x7 l4 hw) ⟨(va_cnB 2 hts gX3_worstAt_X10_holds_n94 rfl rfl rfl (nw_12 hNw) (hts _ uw_X3_worstAt_iniRX10) (by decide +kernel) ⟨Nat.le_of_ble_eq_true rfl, Nat.le_of_ble_eq_true rfl⟩), (hts _ uw_X3_worstAt_stX10_holds), trivial⟩ ⟨cPc_blind, cPc_pre hPc hK hDc hNw⟩ rfl rfl hl.1 rfl (lv_room (Nat.le_of_ble_eq_true rfl)) (dt_of tkX3_worstAt_k25 15 rfl) ⟨Nat.le_of_ble_eq_true rfl, Nat.le_of_ble_eq_true rfl⟩) hS (fun q _ h => hFc q h) hFc (fun r8 u t H1 locs ht hvm hw hB hz1 hk1 hS => ?_)
      obtain ⟨hP1, hK1, hD1⟩ := hB
      rw [ht] at hP1
      obtain ⟨hP, hD⟩ := va_joinI (wr := (wd02_59 a0 jhX ji2 jhn jlj jaC jaN jaO jmb jmc jkn jjZ jlj cyI jly jhn cyI jim jhX cyI jiL ji2 cyI jjH)) (w1 := []) (wn := (wd02_59 a0 jhX ji2 jhn jlj jaC jaN jaO jmb jmc jkn jjZ jlj cyI jly jhn cyI jim jhX cyI jiL ji2 cyI jjH)) hP hD [] [0, 1, 2, 3, 4] hCc rfl (by decide +kernel) (by decide +kernel) rfl hk1 hFc hP1 hD1
      generalize H1 = H at hP hS ⊢
      refine lv_if_eq (tgt := 76) hx hb (dt_of tkX3_worstAt_k56 0 rfl) (by decide) (fun c9 => ?_) (fun c9 => ?_)
      · have hw := hw.1 c9
        exact kb_X3_worstAt_76 dC dI cyB cyI cyJ cyP a0 jlj jhn jhX ji2 jaO jmb jmc jkn jjZ jaC jaN jim jiL jjH Q K25 (wl_X3_worstAt_36 jaC jaN jim jiL jjH Q K25 n) hK25 ih C0 _ _ _ jly l1 l2 l3 l4 hP hD hS (lv_sub hl [0, 1, 2, 3, 4] rfl) hw
      · have hw := hw.2 c9
        refine lv_iload_n hx hb (dt_of tkX3_worstAt_k56 1 rfl) rfl (lv_at hl 2 rfl) ?_
        refine lv_aload_n hx hb (dt_of tkX3_worstAt_k56 2 rfl) rfl (lv_at hl 0 rfl) ?_
        refine lv_aload_n hx hb (dt_of tkX3_worstAt_k56 3 rfl) rfl (lv_at hl 0 rfl) ?_
        refine lv_iload_n hx hb (dt_of tkX3_worstAt_k56 4 rfl) rfl (lv_at hl 1 rfl) ?_
        refine lv_iload_n hx hb (dt_of tkX3_worstAt_k56 5 rfl) rfl (lv_at hl 3 rfl) ?_
        refine lv_iload hx hb (dt_of tkX3_worstAt_k56 6 rfl) (lv_at hl 4 rfl) ?_
        obtain ⟨hCc, hPc, hDc, hFc⟩ := va_pick (ws' := (wd02_60 a0 jhX ji2 jhn jlj jaC jaN jaO jmb jmc jkn jjZ jhX cyI jiL ji2 cyI jjH)) hP hD hS hA [0, 3, 4] (by decide +kernel) rfl
        refine va_calli (va_runV (As := [.int l1, .int l3, .int l4]) (rest := [.ref a0, .int l2]) ⟨hx, hb, hml, hown, hts⟩ (ck_X3_seatedThen l dC dI cyB cyI cyJ cyP a0 jhX ji2 H.size (.ref jhn) (.ref jlj) (.int jaC) (.int jaN) (jaO) (jmb) (jmc) (jkn) (jjZ) jiL jjH  l1 l3 l4 hw) (cwV 3 hts gX3_worstAt_X3_seatedThen rfl rfl rfl (by decide +kernel) ⟨Nat.le_of_ble_eq_true rfl, Nat.le_of_ble_eq_true rfl⟩) ⟨cPc_blind, va_recv (q := (RX3, TX3, 11)) hK hPc (ci := 3) (q0 := 0) rfl rfl, cPc_pre hPc hK hDc hNw⟩ rfl rfl hl.1 rfl (lv_room (Nat.le_of_ble_eq_true rfl)) (dt_of tkX3_worstAt_k56 7 rfl) ⟨Nat.le_of_ble_eq_true rfl, Nat.le_of_ble_eq_true rfl⟩) hS (fun q _ h => hFc q h) hFc (fun r10 u t H1 locs ht hvm hw hB hz1 hk1 hS => ?_)
        obtain ⟨hP1, hK1, hD1⟩ := hB
        rw [ht] at hP1
        obtain ⟨hP, hD⟩ := va_joinN (wr := [(jlj, .inl (cyI, 7, .inl jly)), (jhn, .inl (cyI, 6, .inl jim))]) (w1 := (wd02_60 a0 jhX ji2 jhn jlj jaC jaN jaO jmb jmc jkn jjZ jhX cyI jiL ji2 cyI jjH)) (wn := (wd02_59 a0 jhX ji2 jhn jlj jaC jaN jaO jmb jmc jkn jjZ jlj cyI jly jhn cyI jim jhX cyI jiL ji2 cyI jjH)) hP hD [0, 3, 4] [1, 2] [2, 0, 1, 3, 4] hCc rfl (by decide +kernel) (by decide +kernel) (by decide +kernel) rfl hk1 hFc hP1 hD1
        generalize H1 = H at hP hS ⊢
        obtain ⟨hCc, hPc, hDc, hFc⟩ := va_pick (ws' := (wd02_61 a0 jhX ji2 jhn jlj jaC jaN jaO jmb jmc jkn jjZ jlj cyI jly)) hP hD hS hA [0, 1] (by decide +kernel) rfl
        refine va_calli (va_runV (As := [.int r10]) (rest := [.int l2]) ⟨hx, hb, hml, hown, hts⟩ (ck_X3_tallied l dC dI cyB cyI cyJ cyP a0 jlj H.size (.ref jhX) (.ref ji2) (.ref jhn) (.int jaC) (.int jaN) (jaO) (jmb) (jmc) (jkn) (jjZ)  jly r10 hw) (cwV 1 hts gX3_worstAt_X3_tallied rfl rfl rfl (by decide +kernel) ⟨Nat.le_of_ble_eq_true rfl, Nat.le_of_ble_eq_true rfl⟩) ⟨cPc_blind, va_recv (q := (RX3, TX3, 11)) hK hPc (ci := 3) (q0 := 0) rfl rfl, cPc_pre hPc hK hDc hNw⟩ rfl rfl hl.1 rfl (lv_room (Nat.le_of_ble_eq_true rfl)) (dt_of tkX3_worstAt_k56 8 rfl) ⟨Nat.le_of_ble_eq_true rfl, Nat.le_of_ble_eq_true rfl⟩) hS (fun q _ h => hFc q h) hFc (fun r12 u t H1 locs ht hvm hw hB hz1 hk1 hS => ?_)
        obtain ⟨f11, rfl⟩ : ∃ z, z = u := ⟨_, rfl⟩
        obtain ⟨hP1, hK1, hD1⟩ := hB
        rw [ht] at hP1
        obtain ⟨hP, hD⟩ := va_joinN (wr := [(jhn, .inl (cyI, 6, .inl jim)), (jhX, .inl (cyI, 8, .inl jiL)), (ji2, .inl (cyI, 6, .inl jjH))]) (w1 := (wd02_61 a0 jhX ji2 jhn jlj jaC jaN jaO jmb jmc jkn jjZ jlj cyI f11)) (wn := (wd02_59 a0 jhX ji2 jhn jlj jaC jaN jaO jmb jmc jkn jjZ jlj cyI f11 jhn cyI jim jhX cyI jiL ji2 cyI jjH)) hP hD [0, 1] [2, 3, 4] [3, 4, 0, 1, 2] hCc rfl (by decide +kernel) (by decide +kernel) (by decide +kernel) rfl hk1 hFc hP1 hD1
        generalize H1 = H at hP hS ⊢
        refine va_mmax hx hb (by rw [hml]; exact hl.1.symm) hown (hts _ uw_X3_worstAt_m100) (hts _ uw_X3_worstAt_msmax) (hts _ uw_X3_worstAt_inim) (hts _ uw_X3_worstAt_mcmax) (Nat.le_of_ble_eq_true rfl) (Nat.le_of_ble_eq_true rfl) (Nat.le_of_ble_eq_true rfl) (Nat.le_of_ble_eq_true rfl) (dt_of tkX3_worstAt_k56 9 rfl) ?_
        refine lv_topi (fun x13 ex13 => ?_)
        have hw := hw x13 ex13
        refine lv_istore_n (lv' := [(2, .int x13), (0, .ref a0), (1, .int l1), (3, .int l3), (4, .int l4)]) hx hb (dt_of tkX3_worstAt_k56 10 rfl) rfl hl (by decide) rfl (fun ls hl => ?_)
        exact kb_X3_worstAt_76 dC dI cyB cyI cyJ cyP a0 jlj jhn jhX ji2 jaO jmb jmc jkn jjZ jaC jaN jim jiL jjH Q K25 (wl_X3_worstAt_36 jaC jaN jim jiL jjH Q K25 n) hK25 ih C0 _ _ _ f11 l1 x13 l3 l4 hP hD hS (lv_sub hl [1, 2, 0, 3, 4] rfl) hw
set_option maxHeartbeats 4000000 in
set_option maxRecDepth 100000 in
theorem kl_X3_worstAt_25 {p : Program} {l : Launch} {e : Env} {s : State} {m : MethodId} {args : Array Value} {below : List Frame} {meth : Method} {c : Code} {A : Nat → Prop} (dC : Nat → ClassId) (dI : Nat → Nat → Nat) (cyB cyI cyJ cyP : ClassId) (a0 jlj jhn jhX ji2 : Nat) (jaO jmb jmc jkn jjZ : Value) (jaC jaN : Int32) (jim jiL jjH : Nat → Int32) (Q : Int32 → (Nat → Int32) → Prop)  (C0 : cfx p s m args meth c cX3_worstAt (some .int) wsX3_worstAt RX3 5 A (dC, dI) (kT cyB cyI cyJ cyP)) : ∀ (n : Nat) (H : Heap) (locs : List Loc) (ls : Array Slot) (jly : Nat → Int32) (l1 l2 l3 : Int32), va_P (dC, dI) vwCl (wd02_59 a0 jhX ji2 jhn jlj jaC jaN jaO jmb jmc jkn jjZ jlj cyI jly jhn cyI jim jhX cyI jiL ji2 cyI jjH) H → va_D A (wd02_59 a0 jhX ji2 jhn jlj jaC jaN jaO jmb jmc jkn jjZ jlj cyI jly jhn cyI jim jhX cyI jiL ji2 cyI jjH) → va_S A s.heap H locs → lv_has ls 5 [(0, .ref a0), (1, .int l1), (2, .int l2), (3, .int l3)] → wl_X3_worstAt_25 jaC jaN jim jiL jjH Q  n jly l1 l2 l3 → W p l e (headSpec wsX3_worstAt ({ frames := 2, cells := 0, slots := 0, locals := 43 })).room s m args below meth c H locs 0 0 (MQ below (va_Qi (fun (r : Int32) (u : (Nat → Int32)) => Q r u) (cB (dC, dI) (kT cyB cyI cyJ cyP) A (fun u : (Nat → Int32) => ((wd02_59 a0 jhX ji2 jhn jlj jaC jaN jaO jmb jmc jkn jjZ jlj cyI u jhn cyI jim jhX cyI jiL ji2 cyI jjH) : va_W))) A) args s 0 0 A) (F0 m 25 ls []) := by
  obtain ⟨hx, hb, hr, hts, hown, hlocks, hml, hA, hK, hNw⟩ := id C0
  intro n
  induction n with
  | zero => intro H locs ls jly l1 l2 l3 hP hD hS hl hw; exact False.elim hw
  | succ n ih =>
    intro H locs ls jly l1 l2 l3 hP hD hS hl hw
    refine lv_iload_n hx hb (dt_of tkX3_worstAt_k25 0 rfl) rfl (lv_at hl 3 rfl) ?_
    refine lv_aload_n hx hb (dt_of tkX3_worstAt_k25 1 rfl) rfl (lv_at hl 0 rfl) ?_
    refine va_get (D := (dC, dI)) (ci := 3) (v := .int jaC) (C := RX3) (T := TX3) (N := 11) hx hb hts ui_X3_worstAt_X3 hown hK hP 0 rfl rfl 4 (by decide) (hts _ uw_X3_worstAt_f36) (fun _ h9 => h9) rfl (dt_of tkX3_worstAt_k25 2 rfl) ?_
    refine lv_icmp_ge (tgt := 88) hx hb (dt_of tkX3_worstAt_k25 3 rfl) (by decide) (fun c4 => ?_) (fun c4 => ?_)
    · have hw := hw.1 c4
      refine lv_iload_n hx hb (dt_of tkX3_worstAt_k56 15 rfl) rfl (lv_at hl 2 rfl) ?_
      exact ((W.iret (v := l2) hx hb hr (fun t ht hW => ⟨⟨l2, (jly), rfl, hw, by rw [ht]; exact hP, va_K.moved hW.alike hK, hD⟩, hS.F ht⟩) hS.2.2 (dt_of tkX3_worstAt_k89 0 rfl)))
    · have hw := hw.2 c4
      refine lv_iconst (v := 0) hx hb (dt_of tkX3_worstAt_k25 4 rfl) (by decide) ?_
      refine lv_istore (lv' := [(4, .int 0), (0, .ref a0), (1, .int l1), (2, .int l2), (3, .int l3)]) hx hb (dt_of tkX3_worstAt_k25 5 rfl) hl (by decide) rfl (fun ls hl => ?_)
      obtain ⟨n9, hw⟩ := hw
      exact kl_X3_worstAt_36 dC dI cyB cyI cyJ cyP a0 jlj jhn jhX ji2 jaO jmb jmc jkn jjZ jaC jaN jim jiL jjH Q (wl_X3_worstAt_25 jaC jaN jim jiL jjH Q  n) ih C0 n9 _ _ _ jly l1 l2 l3 0 hP hD hS (lv_sub hl [1, 2, 3, 4, 0] rfl) hw
set_option maxHeartbeats 4000000 in
set_option maxRecDepth 100000 in
theorem kl_X3_worstAt_2 {p : Program} {l : Launch} {e : Env} {s : State} {m : MethodId} {args : Array Value} {below : List Frame} {meth : Method} {c : Code} {A : Nat → Prop} (dC : Nat → ClassId) (dI : Nat → Nat → Nat) (cyB cyI cyJ cyP : ClassId) (a0 jlj jhn jhX ji2 : Nat) (jaO jmb jmc jkn jjZ : Value) (jaC jaN : Int32) (jim jiL jjH : Nat → Int32) (Q : Int32 → (Nat → Int32) → Prop)  (C0 : cfx p s m args meth c cX3_worstAt (some .int) wsX3_worstAt RX3 5 A (dC, dI) (kT cyB cyI cyJ cyP)) : ∀ (n : Nat) (H : Heap) (locs : List Loc) (ls : Array Slot) (jly : Nat → Int32) (l1 l2 : Int32), va_P (dC, dI) vwCl (wd02_59 a0 jhX ji2 jhn jlj jaC jaN jaO jmb jmc jkn jjZ jlj cyI jly jhn cyI jim jhX cyI jiL ji2 cyI jjH) H → va_D A (wd02_59 a0 jhX ji2 jhn jlj jaC jaN jaO jmb jmc jkn jjZ jlj cyI jly jhn cyI jim jhX cyI jiL ji2 cyI jjH) → va_S A s.heap H locs → lv_has ls 5 [(0, .ref a0), (1, .int l1), (2, .int l2)] → wl_X3_worstAt_2 jaC jaN jim jiL jjH Q  n jly l1 l2 → W p l e (headSpec wsX3_worstAt ({ frames := 2, cells := 0, slots := 0, locals := 43 })).room s m args below meth c H locs 0 0 (MQ below (va_Qi (fun (r : Int32) (u : (Nat → Int32)) => Q r u) (cB (dC, dI) (kT cyB cyI cyJ cyP) A (fun u : (Nat → Int32) => ((wd02_59 a0 jhX ji2 jhn jlj jaC jaN jaO jmb jmc jkn jjZ jlj cyI u jhn cyI jim jhX cyI jiL ji2 cyI jjH) : va_W))) A) args s 0 0 A) (F0 m 2 ls []) := by
  obtain ⟨hx, hb, hr, hts, hown, hlocks, hml, hA, hK, hNw⟩ := id C0
  intro n
  induction n with
  | zero => intro H locs ls jly l1 l2 hP hD hS hl hw; exact False.elim hw
  | succ n ih =>
    intro H locs ls jly l1 l2 hP hD hS hl hw
    refine lv_iload_n hx hb (dt_of tkX3_worstAt_k0 2 rfl) rfl (lv_at hl 2 rfl) ?_
    refine lv_bipush (v := 6) hx hb (dt_of tkX3_worstAt_k0 3 rfl) (by decide) ?_
    refine lv_icmp_gt (tgt := 21) hx hb (dt_of tkX3_worstAt_k0 4 rfl) (by decide) (fun c1 => ?_) (fun c1 => ?_)
    · have hw := hw.1 c1
      refine lv_iconst (v := 0) hx hb (dt_of tkX3_worstAt_k0 12 rfl) (by decide) ?_
      refine lv_istore_n (lv' := [(2, .int 0), (0, .ref a0), (1, .int l1)]) hx hb (dt_of tkX3_worstAt_k0 13 rfl) rfl hl (by decide) rfl (fun ls hl => ?_)
      refine lv_iconst (v := 0) hx hb (dt_of tkX3_worstAt_k0 14 rfl) (by decide) ?_
      refine lv_istore_n (lv' := [(3, .int 0), (2, .int 0), (0, .ref a0), (1, .int l1)]) hx hb (dt_of tkX3_worstAt_k0 15 rfl) rfl hl (by decide) rfl (fun ls hl => ?_)
      obtain ⟨n9, hw⟩ := hw
      exact kl_X3_worstAt_25 dC dI cyB cyI cyJ cyP a0 jlj jhn jhX ji2 jaO jmb jmc jkn jjZ jaC jaN jim jiL jjH Q  C0 n9 _ _ _ jly l1 0 0 hP hD hS (lv_sub hl [2, 3, 1, 0] rfl) hw
    · have hw := hw.2 c1
      refine lv_aload_n hx hb (dt_of tkX3_worstAt_k0 5 rfl) rfl (lv_at hl 0 rfl) ?_
      refine va_get (D := (dC, dI)) (ci := 3) (v := .ref jlj) (C := RX3) (T := TX3) (N := 11) hx hb hts ui_X3_worstAt_X3 hown hK hP 0 rfl rfl 3 (by decide) (hts _ uw_X3_worstAt_f21) (fun _ h9 => h9) rfl (dt_of tkX3_worstAt_k0 6 rfl) ?_
      refine lv_iload_n hx hb (dt_of tkX3_worstAt_k0 7 rfl) rfl (lv_at hl 2 rfl) ?_
      refine lv_iconst (v := 0) hx hb (dt_of tkX3_worstAt_k0 8 rfl) (by decide) ?_
      obtain ⟨hi9, hw⟩ := hw
      refine va_iast hx hb hK hP hD hS 1 1 rfl rfl hi9 (dt_of tkX3_worstAt_k0 9 rfl) (fun H locs hP hD hS => ?_)
      obtain ⟨f2, ef2⟩ : ∃ y : Nat → Int32, y = upd jly l2.toNatClampNeg 0 := ⟨_, rfl⟩
      have hw := hw f2 ef2
      have hP : va_P (dC, dI) vwCl (wd02_59 a0 jhX ji2 jhn jlj jaC jaN jaO jmb jmc jkn jjZ jlj cyI f2 jhn cyI jim jhX cyI jiL ji2 cyI jjH) H := by rw [ef2]; exact hP
      have hD : va_D A (wd02_59 a0 jhX ji2 jhn jlj jaC jaN jaO jmb jmc jkn jjZ jlj cyI f2 jhn cyI jim jhX cyI jiL ji2 cyI jjH) := by rw [ef2]; exact hD
      obtain ⟨x3, ex3⟩ : ∃ y : Int32, y = l2 + 1 := ⟨_, rfl⟩
      have hw := hw x3 ex3
      refine lv_iinc (v := x3) (lv' := [(2, .int x3), (0, .ref a0), (1, .int l1)]) hx hb (dt_of tkX3_worstAt_k0 10 rfl) hl (k := 2) rfl (by rw [ex3]; rfl) (by decide) rfl (fun ls hl => ?_)
      refine lv_goto (tgt := 2) hx hb (dt_of tkX3_worstAt_k0 11 rfl) (by decide) ?_
      exact ih _ _ _ f2 l1 x3 hP hD hS (lv_sub hl [1, 2, 0] rfl) hw
set_option maxHeartbeats 4000000 in
set_option maxRecDepth 100000 in
theorem ck_X3_worstAt (l : Launch) (dC : Nat → ClassId) (dI : Nat → Nat → Nat) (cyB cyI cyJ cyP : ClassId) (a0 jlj jhn jhX ji2 sz : Nat) (jaO jmb jmc jkn jjZ : Value) (jaC jaN : Int32) (jim jiL jjH jly : Nat → Int32) (p1 : Int32) {Q : Int32 → (Nat → Int32) → Prop} (hw : wq_X3_worstAt jaC jaN jim jiL jjH jly p1 Q) : Met l yX3_worstAt wsX3_worstAt ({ frames := 2, cells := 0, slots := 0, locals := 43 }) (va_Pc [.ref a0, .int p1] (cPc (dC, dI) (kT cyB cyI cyJ cyP) (wd02_59 a0 jhX ji2 jhn jlj jaC jaN jaO jmb jmc jkn jjZ jlj cyI jly jhn cyI jim jhX cyI jiL ji2 cyI jjH) sz)) (va_Qi (fun (r : Int32) (u : (Nat → Int32)) => Q r u) (cB (dC, dI) (kT cyB cyI cyJ cyP) (va_A (wd02_59 a0 jhX ji2 jhn jlj jaC jaN jaO jmb jmc jkn jjZ jlj cyI jly jhn cyI jim jhX cyI jiL ji2 cyI jjH) sz) (fun u : (Nat → Int32) => ((wd02_59 a0 jhX ji2 jhn jlj jaC jaN jaO jmb jmc jkn jjZ jlj cyI u jhn cyI jim jhX cyI jiL ji2 cyI jjH) : va_W))) (va_A (wd02_59 a0 jhX ji2 jhn jlj jaC jaN jaO jmb jmc jkn jjZ jlj cyI jly jhn cyI jim jhX cyI jiL ji2 cyI jjH) sz)) 0 0 (va_A (wd02_59 a0 jhX ji2 jhn jlj jaC jaN jaO jmb jmc jkn jjZ jlj cyI jly jhn cyI jim jhX cyI jiL ji2 cyI jjH) sz) := by
  refine Met.ofW (cc := cX3_worstAt) (maxL := 5) (ret := (some .int)) (by decide) rfl ?_
  intro p e s m args below meth c s₁ B hml hv
  obtain ⟨rfl, hsz, hP, hK, hD0, hNw⟩ := hv
  have hx := B.exec
  have hb := B.bytes
  have hr := B.returns
  have hts := atoms_spec (ws := wsX3_worstAt) B.pre
  have hown : s.vm.findClass RX3 = some m.cls := findClass_of_methodNamed B.named
  have hlocks := B.notSynchronized
  subst hsz
  have hD := hD0.self (sz := s.heap.size)
  generalize hAe : va_A (wd02_59 a0 jhX ji2 jhn jlj jaC jaN jaO jmb jmc jkn jjZ jlj cyI jly jhn cyI jim jhX cyI jiL ji2 cyI jjH) s.heap.size = A at hD ⊢
  have hA : ∀ q : Nat, s.heap.size ≤ q → A q := fun q h => by rw [← hAe]; exact Or.inr h
  have hS : va_S A s.heap s.heap [] := va_S.rf
  have hP : va_P (dC, dI) vwCl (wd02_59 a0 jhX ji2 jhn jlj jaC jaN jaO jmb jmc jkn jjZ jlj cyI jly jhn cyI jim jhX cyI jiL ji2 cyI jjH) s.heap := hP
  have hl := lv_entry ([.ref a0, .int p1]) (n := 5) (Nat.le_of_ble_eq_true rfl)
  rw [lg_entry_eq]
  generalize (lg_sl ([.ref a0, .int p1]) ++ List.replicate (5 - (lg_sl ([.ref a0, .int p1])).length) Slot.unset).toArray = ls at hl ⊢
  have hl : lv_has ls 5 [(0, .ref a0), (1, .int p1)] := hl
  have C0 : cfx p s m _ meth c cX3_worstAt (some .int) wsX3_worstAt RX3 5 A (dC, dI) (kT cyB cyI cyJ cyP) := ⟨hx, hb, hr, hts, hown, hlocks, hml, hA, hK, hNw⟩
  clear hAe
  obtain ⟨H, hH⟩ : ∃ H, H = s.heap := ⟨_, rfl⟩
  rw [← hH] at hP ⊢
  have hS : va_S A s.heap H [] := by rw [hH]; exact va_S.rf
  have hS := hS
  refine lv_iconst (v := 0) hx hb (dt_of tkX3_worstAt_k0 0 rfl) (by decide) ?_
  refine lv_istore_n (lv' := [(2, .int 0), (0, .ref a0), (1, .int p1)]) hx hb (dt_of tkX3_worstAt_k0 1 rfl) rfl hl (by decide) rfl (fun ls hl => ?_)
  obtain ⟨n9, hw⟩ := hw
  exact kl_X3_worstAt_2 dC dI cyB cyI cyJ cyP a0 jlj jhn jhX ji2 jaO jmb jmc jkn jjZ jaC jaN jim jiL jjH Q  C0 n9 _ _ _ jly p1 0 hP hD hS (lv_sub hl [1, 2, 0] rfl) hw
