/-- worlds by their leaves -/
def wd08_0 (x0 : Nat) (x1 x2 x3 x4 x5 x6 x7 x8 x9 x10 x11 x12 x13 x14 x15 x16 x17 x18 x19 x20 x21 : Value) (x22 : Int32) (x23 x24 x25 x26 x27 x28 x29 x30 x31 x32 x33 x34 x35 x36 x37 x38 x39 : Value) (x40 : Nat) (x41 x42 x43 x44 x45 x46 x47 x48 x49 x50 x51 x52 x53 x54 x55 : Value) (x56 : Nat) (x57 : ClassId) (x58 : Nat → Int32) : va_W := [(x0, .inr (11, [x1, x2, x3, x4, x5, x6, x7, x8, x9, x10, x11, x12, x13, x14, x15, x16, x17, x18, x19, x20, x21, .int x22, x23, x24, x25, x26, x27, x28, x29, x30, x31, x32, x33, x34, x35, x36, x37, x38, x39, .ref x40, x41, x42, x43, x44, x45, x46, x47, x48, x49, x50, x51, x52, x53, x54, x55])), (x56, .inl (x57, 68, .inl x58))]
def wd08_1 (x0 : Nat) (x1 : Int32) (x2 : Nat) (x3 x4 x5 x6 x7 x8 x9 x10 x11 x12 x13 x14 x15 x16 x17 x18 x19 x20 x21 : Value) (x22 : Int32) (x23 x24 x25 x26 x27 x28 x29 x30 x31 x32 x33 x34 x35 x36 x37 x38 x39 : Value) (x40 x41 : Nat) (x42 x43 x44 x45 x46 x47 x48 x49 x50 x51 x52 x53 x54 x55 : Value) (x56 : Nat) (x57 : ClassId) (x58 : Nat → Int32) (x59 : Nat) (x60 : ClassId) (x61 : Nat → Int32) (x62 : Nat) (x63 : ClassId) (x64 : Nat → Int32) : va_W := [(x0, .inr (11, [.int x1, .ref x2, x3, x4, x5, x6, x7, x8, x9, x10, x11, x12, x13, x14, x15, x16, x17, x18, x19, x20, x21, .int x22, x23, x24, x25, x26, x27, x28, x29, x30, x31, x32, x33, x34, x35, x36, x37, x38, x39, .ref x40, .ref x41, x42, x43, x44, x45, x46, x47, x48, x49, x50, x51, x52, x53, x54, x55])), (x56, .inl (x57, 2, .inl x58)), (x59, .inl (x60, 68, .inl x61)), (x62, .inl (x63, 68, .inl x64))]
def wd08_2 (x0 : Nat) (x1 : Int32) (x2 : Nat) (x3 x4 x5 x6 x7 x8 x9 x10 x11 x12 x13 x14 x15 x16 x17 x18 x19 x20 x21 : Value) (x22 : Int32) (x23 x24 x25 x26 x27 x28 x29 x30 x31 x32 x33 x34 x35 x36 x37 x38 x39 : Value) (x40 x41 : Nat) (x42 x43 x44 x45 x46 x47 x48 x49 x50 x51 x52 x53 x54 x55 : Value) (x56 : Nat) (x57 : ClassId) (x58 : Nat → Int32) : va_W := [(x0, .inr (11, [.int x1, .ref x2, x3, x4, x5, x6, x7, x8, x9, x10, x11, x12, x13, x14, x15, x16, x17, x18, x19, x20, x21, .int x22, x23, x24, x25, x26, x27, x28, x29, x30, x31, x32, x33, x34, x35, x36, x37, x38, x39, .ref x40, .ref x41, x42, x43, x44, x45, x46, x47, x48, x49, x50, x51, x52, x53, x54, x55])), (x56, .inl (x57, 68, .inl x58))]
def wd08_3 (x0 : Nat) (x1 : ClassId) (x2 : Nat → Int32) (x3 : Nat) (x4 : ClassId) (x5 : Nat → Int32) : va_W := [(x0, .inl (x1, 2, .inl x2)), (x3, .inl (x4, 68, .inl x5))]
def wd08_4 (x0 : Nat) (x1 : Int32) (x2 : Nat) (x3 x4 x5 x6 x7 x8 x9 x10 x11 x12 x13 x14 x15 x16 x17 x18 x19 x20 x21 : Value) (x22 : Int32) (x23 x24 x25 x26 x27 x28 x29 x30 x31 x32 x33 x34 x35 x36 x37 x38 x39 : Value) (x40 x41 : Nat) (x42 x43 x44 x45 x46 x47 x48 x49 x50 x51 x52 x53 x54 x55 : Value) (x56 : Nat) (x57 : ClassId) (x58 : Nat → Int32) : va_W := [(x0, .inr (11, [.int x1, .ref x2, x3, x4, x5, x6, x7, x8, x9, x10, x11, x12, x13, x14, x15, x16, x17, x18, x19, x20, x21, .int x22, x23, x24, x25, x26, x27, x28, x29, x30, x31, x32, x33, x34, x35, x36, x37, x38, x39, .ref x40, .ref x41, x42, x43, x44, x45, x46, x47, x48, x49, x50, x51, x52, x53, x54, x55])), (x56, .inl (x57, 2, .inl x58))]
def wd08_5 (x0 : Nat) (x1 : Int32) (x2 : Nat) (x3 x4 x5 x6 x7 x8 x9 x10 x11 x12 x13 x14 x15 x16 x17 x18 x19 x20 x21 : Value) (x22 : Int32) (x23 x24 x25 x26 x27 x28 x29 x30 x31 x32 x33 x34 x35 x36 x37 x38 x39 : Value) (x40 x41 : Nat) (x42 x43 x44 x45 x46 x47 x48 x49 x50 x51 x52 x53 x54 x55 : Value) (x56 : Nat) (x57 : ClassId) (x58 : Nat → Int32) (x59 : Nat) (x60 : ClassId) (x61 : Nat → Int32) : va_W := [(x0, .inr (11, [.int x1, .ref x2, x3, x4, x5, x6, x7, x8, x9, x10, x11, x12, x13, x14, x15, x16, x17, x18, x19, x20, x21, .int x22, x23, x24, x25, x26, x27, x28, x29, x30, x31, x32, x33, x34, x35, x36, x37, x38, x39, .ref x40, .ref x41, x42, x43, x44, x45, x46, x47, x48, x49, x50, x51, x52, x53, x54, x55])), (x56, .inl (x57, 68, .inl x58)), (x59, .inl (x60, 68, .inl x61))]
def wd08_6 (x0 : Nat) (x1 x2 x3 x4 x5 x6 x7 x8 x9 x10 x11 x12 x13 x14 x15 x16 x17 x18 x19 x20 x21 x22 x23 x24 x25 x26 x27 x28 x29 x30 x31 x32 x33 x34 x35 x36 x37 x38 x39 x40 : Value) (x41 : Nat) (x42 x43 x44 x45 x46 x47 x48 x49 x50 x51 x52 x53 x54 x55 : Value) (x56 : Nat) (x57 : ClassId) (x58 : Nat → Int32) : va_W := [(x0, .inr (11, [x1, x2, x3, x4, x5, x6, x7, x8, x9, x10, x11, x12, x13, x14, x15, x16, x17, x18, x19, x20, x21, x22, x23, x24, x25, x26, x27, x28, x29, x30, x31, x32, x33, x34, x35, x36, x37, x38, x39, x40, .ref x41, x42, x43, x44, x45, x46, x47, x48, x49, x50, x51, x52, x53, x54, x55])), (x56, .inl (x57, 68, .inl x58))]
def wd08_7 (x0 : Nat) (x1 : Int32) (x2 : Nat) (x3 x4 x5 x6 x7 x8 x9 x10 x11 x12 x13 x14 x15 x16 x17 x18 x19 x20 : Value) (x21 : Int32) (x22 x23 x24 x25 x26 x27 x28 x29 x30 x31 x32 x33 x34 x35 x36 x37 x38 x39 x40 x41 x42 x43 x44 x45 x46 x47 x48 x49 x50 x51 x52 x53 x54 x55 : Value) (x56 : Nat) (x57 : ClassId) (x58 : Nat → Int32) : va_W := [(x0, .inr (11, [.int x1, .ref x2, x3, x4, x5, x6, x7, x8, x9, x10, x11, x12, x13, x14, x15, x16, x17, x18, x19, x20, .int x21, x22, x23, x24, x25, x26, x27, x28, x29, x30, x31, x32, x33, x34, x35, x36, x37, x38, x39, x40, x41, x42, x43, x44, x45, x46, x47, x48, x49, x50, x51, x52, x53, x54, x55])), (x56, .inl (x57, 2, .inl x58))]
def wd08_8 (x0 : Nat) (x1 x2 x3 x4 x5 x6 x7 x8 x9 x10 x11 x12 x13 x14 : Value) (x15 : Nat) (x16 x17 x18 x19 x20 x21 x22 x23 x24 x25 x26 x27 x28 x29 x30 x31 x32 x33 x34 x35 x36 x37 x38 x39 x40 x41 x42 x43 x44 x45 x46 x47 x48 x49 x50 x51 x52 x53 x54 x55 : Value) (x56 : Nat) (x57 : ClassId) (x58 : Nat → Int32) : va_W := [(x0, .inr (11, [x1, x2, x3, x4, x5, x6, x7, x8, x9, x10, x11, x12, x13, x14, .ref x15, x16, x17, x18, x19, x20, x21, x22, x23, x24, x25, x26, x27, x28, x29, x30, x31, x32, x33, x34, x35, x36, x37, x38, x39, x40, x41, x42, x43, x44, x45, x46, x47, x48, x49, x50, x51, x52, x53, x54, x55])), (x56, .inl (x57, 16, .inl x58))]
def wd08_9 (x0 : Nat) (x1 x2 x3 x4 x5 x6 x7 x8 x9 x10 x11 x12 x13 x14 x15 x16 x17 x18 x19 x20 x21 : Value) (x22 : Int32) (x23 x24 x25 x26 x27 x28 x29 x30 x31 x32 x33 x34 x35 x36 x37 x38 x39 x40 : Value) (x41 : Nat) (x42 x43 x44 x45 x46 x47 x48 x49 x50 x51 x52 x53 x54 x55 : Value) (x56 : Nat) (x57 : ClassId) (x58 : Nat → Int32) : va_W := [(x0, .inr (11, [x1, x2, x3, x4, x5, x6, x7, x8, x9, x10, x11, x12, x13, x14, x15, x16, x17, x18, x19, x20, x21, .int x22, x23, x24, x25, x26, x27, x28, x29, x30, x31, x32, x33, x34, x35, x36, x37, x38, x39, x40, .ref x41, x42, x43, x44, x45, x46, x47, x48, x49, x50, x51, x52, x53, x54, x55])), (x56, .inl (x57, 68, .inl x58))]
def wd08_10 (x0 : Nat) (x1 x2 x3 x4 x5 x6 x7 x8 x9 x10 x11 x12 x13 x14 x15 x16 x17 x18 x19 x20 x21 x22 x23 x24 x25 : Value) (x26 x27 x28 : Nat) (x29 : Value) (x30 : Int32) (x31 : Nat) (x32 x33 x34 x35 x36 x37 x38 x39 x40 x41 x42 x43 x44 x45 x46 x47 x48 x49 x50 x51 x52 x53 x54 x55 : Value) (x56 : Nat) (x57 : ClassId) (x58 : Nat → Int32) (x59 : Nat) (x60 : ClassId) (x61 : Nat → Int32) (x62 : Nat) (x63 : ClassId) (x64 : Nat → Int32) (x65 : Nat) (x66 : ClassId) (x67 : Nat → Int32) : va_W := [(x0, .inr (11, [x1, x2, x3, x4, x5, x6, x7, x8, x9, x10, x11, x12, x13, x14, x15, x16, x17, x18, x19, x20, x21, x22, x23, x24, x25, .ref x26, .ref x27, .ref x28, x29, .int x30, .ref x31, x32, x33, x34, x35, x36, x37, x38, x39, x40, x41, x42, x43, x44, x45, x46, x47, x48, x49, x50, x51, x52, x53, x54, x55])), (x56, .inl (x57, 150, .inl x58)), (x59, .inl (x60, 150, .inl x61)), (x62, .inl (x63, 150, .inl x64)), (x65, .inl (x66, 8, .inl x67))]
def wd08_11 (x0 : Nat) (x1 x2 x3 x4 x5 x6 x7 x8 x9 x10 x11 x12 x13 x14 x15 x16 x17 x18 x19 x20 x21 x22 x23 x24 x25 : Value) (x26 x27 x28 : Nat) (x29 : Value) (x30 : Int32) (x31 : Nat) (x32 x33 x34 x35 x36 x37 x38 x39 x40 x41 x42 x43 x44 x45 x46 x47 x48 x49 x50 x51 x52 x53 x54 x55 : Value) (x56 : Nat) (x57 : ClassId) (x58 : Nat → Int32) (x59 : Nat) (x60 : ClassId) (x61 : Nat → Int32) (x62 : Nat) (x63 : ClassId) (x64 : Nat → Int32) (x65 : Nat) (x66 : ClassId) (x67 : Nat → Int32) : va_W := [(x0, .inr (11, [x1, x2, x3, x4, x5, x6, x7, x8, x9, x10, x11, x12, x13, x14, x15, x16, x17, x18, x19, x20, x21, x22, x23, x24, x25, .ref x26, .ref x27, .ref x28, x29, .int x30, .ref x31, x32, x33, x34, x35, x36, x37, x38, x39, x40, x41, x42, x43, x44, x45, x46, x47, x48, x49, x50, x51, x52, x53, x54, x55])), (x56, .inl (x57, 8, .inl x58)), (x59, .inl (x60, 150, .inl x61)), (x62, .inl (x63, 150, .inl x64)), (x65, .inl (x66, 150, .inl x67))]
def wd08_12 (x0 : Nat) (x1 x2 x3 x4 x5 x6 x7 x8 x9 x10 x11 x12 x13 x14 x15 x16 x17 x18 x19 x20 x21 : Value) (x22 : Int32) (x23 x24 x25 : Value) (x26 x27 x28 : Nat) (x29 : Value) (x30 : Int32) (x31 : Nat) (x32 x33 x34 x35 x36 x37 x38 x39 x40 : Value) (x41 : Nat) (x42 x43 x44 x45 x46 x47 x48 x49 x50 x51 x52 x53 x54 x55 : Value) (x56 : Nat) (x57 : ClassId) (x58 : Nat → Int32) (x59 : Nat) (x60 : ClassId) (x61 : Nat → Int32) (x62 : Nat) (x63 : ClassId) (x64 : Nat → Int32) (x65 : Nat) (x66 : ClassId) (x67 : Nat → Int32) (x68 : Nat) (x69 : ClassId) (x70 : Nat → Int32) : va_W := [(x0, .inr (11, [x1, x2, x3, x4, x5, x6, x7, x8, x9, x10, x11, x12, x13, x14, x15, x16, x17, x18, x19, x20, x21, .int x22, x23, x24, x25, .ref x26, .ref x27, .ref x28, x29, .int x30, .ref x31, x32, x33, x34, x35, x36, x37, x38, x39, x40, .ref x41, x42, x43, x44, x45, x46, x47, x48, x49, x50, x51, x52, x53, x54, x55])), (x56, .inl (x57, 68, .inl x58)), (x59, .inl (x60, 8, .inl x61)), (x62, .inl (x63, 150, .inl x64)), (x65, .inl (x66, 150, .inl x67)), (x68, .inl (x69, 150, .inl x70))]
def wd08_13 (x0 : Nat) (x1 x2 x3 x4 x5 x6 x7 x8 x9 x10 x11 x12 x13 x14 x15 x16 x17 x18 x19 x20 x21 : Value) (x22 : Int32) (x23 x24 x25 : Value) (x26 x27 x28 : Nat) (x29 : Value) (x30 : Int32) (x31 : Nat) (x32 x33 x34 x35 x36 x37 x38 x39 x40 : Value) (x41 : Nat) (x42 x43 x44 x45 x46 x47 x48 x49 x50 x51 x52 x53 x54 x55 : Value) (x56 : Nat) (x57 : ClassId) (x58 : Nat → Int32) : va_W := [(x0, .inr (11, [x1, x2, x3, x4, x5, x6, x7, x8, x9, x10, x11, x12, x13, x14, x15, x16, x17, x18, x19, x20, x21, .int x22, x23, x24, x25, .ref x26, .ref x27, .ref x28, x29, .int x30, .ref x31, x32, x33, x34, x35, x36, x37, x38, x39, x40, .ref x41, x42, x43, x44, x45, x46, x47, x48, x49, x50, x51, x52, x53, x54, x55])), (x56, .inl (x57, 68, .inl x58))]
def wd08_14 (x0 : Nat) (x1 : ClassId) (x2 : Nat → Int32) (x3 : Nat) (x4 : ClassId) (x5 : Nat → Int32) (x6 : Nat) (x7 : ClassId) (x8 : Nat → Int32) (x9 : Nat) (x10 : ClassId) (x11 : Nat → Int32) : va_W := [(x0, .inl (x1, 8, .inl x2)), (x3, .inl (x4, 150, .inl x5)), (x6, .inl (x7, 150, .inl x8)), (x9, .inl (x10, 150, .inl x11))]
def wd08_15 (x0 : Nat) (x1 x2 x3 x4 x5 x6 x7 x8 x9 x10 x11 x12 x13 x14 x15 x16 x17 x18 x19 x20 x21 : Value) (x22 : Int32) (x23 x24 x25 : Value) (x26 x27 x28 : Nat) (x29 : Value) (x30 : Int32) (x31 : Nat) (x32 x33 x34 x35 x36 x37 x38 x39 x40 : Value) (x41 : Nat) (x42 x43 x44 x45 x46 x47 x48 x49 x50 x51 x52 x53 x54 x55 : Value) (x56 : Nat) (x57 : ClassId) (x58 : Nat → Int32) (x59 : Nat) (x60 : ClassId) (x61 : Nat → Int32) (x62 : Nat) (x63 : ClassId) (x64 : Nat → Int32) (x65 : Nat) (x66 : ClassId) (x67 : Nat → Int32) : va_W := [(x0, .inr (11, [x1, x2, x3, x4, x5, x6, x7, x8, x9, x10, x11, x12, x13, x14, x15, x16, x17, x18, x19, x20, x21, .int x22, x23, x24, x25, .ref x26, .ref x27, .ref x28, x29, .int x30, .ref x31, x32, x33, x34, x35, x36, x37, x38, x39, x40, .ref x41, x42, x43, x44, x45, x46, x47, x48, x49, x50, x51, x52, x53, x54, x55])), (x56, .inl (x57, 8, .inl x58)), (x59, .inl (x60, 150, .inl x61)), (x62, .inl (x63, 150, .inl x64)), (x65, .inl (x66, 150, .inl x67))]
def wd08_16 (x0 : Nat) (x1 x2 x3 x4 x5 x6 x7 x8 x9 x10 x11 x12 x13 x14 : Value) (x15 : Nat) (x16 x17 x18 x19 x20 x21 : Value) (x22 : Int32) (x23 x24 x25 : Value) (x26 x27 x28 : Nat) (x29 : Value) (x30 : Int32) (x31 : Nat) (x32 x33 x34 x35 x36 x37 x38 x39 x40 : Value) (x41 : Nat) (x42 x43 x44 x45 x46 x47 x48 x49 x50 x51 x52 x53 x54 x55 : Value) (x56 : Nat) (x57 : ClassId) (x58 : Nat → Int32) (x59 : Nat) (x60 : ClassId) (x61 : Nat → Int32) (x62 : Nat) (x63 : ClassId) (x64 : Nat → Int32) (x65 : Nat) (x66 : ClassId) (x67 : Nat → Int32) (x68 : Nat) (x69 : ClassId) (x70 : Nat → Int32) (x71 : Nat) (x72 : ClassId) (x73 : Nat → Int32) : va_W := [(x0, .inr (11, [x1, x2, x3, x4, x5, x6, x7, x8, x9, x10, x11, x12, x13, x14, .ref x15, x16, x17, x18, x19, x20, x21, .int x22, x23, x24, x25, .ref x26, .ref x27, .ref x28, x29, .int x30, .ref x31, x32, x33, x34, x35, x36, x37, x38, x39, x40, .ref x41, x42, x43, x44, x45, x46, x47, x48, x49, x50, x51, x52, x53, x54, x55])), (x56, .inl (x57, 68, .inl x58)), (x59, .inl (x60, 16, .inl x61)), (x62, .inl (x63, 8, .inl x64)), (x65, .inl (x66, 150, .inl x67)), (x68, .inl (x69, 150, .inl x70)), (x71, .inl (x72, 150, .inl x73))]
def wd08_17 (x0 : Nat) (x1 x2 x3 x4 x5 x6 x7 x8 x9 x10 x11 x12 x13 x14 : Value) (x15 : Nat) (x16 x17 x18 x19 x20 x21 : Value) (x22 : Int32) (x23 x24 x25 : Value) (x26 x27 x28 : Nat) (x29 : Value) (x30 : Int32) (x31 : Nat) (x32 x33 x34 x35 x36 x37 x38 x39 x40 : Value) (x41 : Nat) (x42 x43 x44 x45 x46 x47 x48 x49 x50 x51 x52 x53 x54 x55 : Value) (x56 : Nat) (x57 : ClassId) (x58 : Nat → Int32) : va_W := [(x0, .inr (11, [x1, x2, x3, x4, x5, x6, x7, x8, x9, x10, x11, x12, x13, x14, .ref x15, x16, x17, x18, x19, x20, x21, .int x22, x23, x24, x25, .ref x26, .ref x27, .ref x28, x29, .int x30, .ref x31, x32, x33, x34, x35, x36, x37, x38, x39, x40, .ref x41, x42, x43, x44, x45, x46, x47, x48, x49, x50, x51, x52, x53, x54, x55])), (x56, .inl (x57, 68, .inl x58))]
def wd08_18 (x0 : Nat) (x1 x2 x3 x4 x5 x6 x7 x8 x9 x10 x11 x12 x13 x14 : Value) (x15 : Nat) (x16 x17 x18 x19 x20 x21 : Value) (x22 : Int32) (x23 x24 x25 : Value) (x26 x27 x28 : Nat) (x29 : Value) (x30 : Int32) (x31 : Nat) (x32 x33 x34 x35 x36 x37 x38 x39 x40 : Value) (x41 : Nat) (x42 x43 x44 x45 x46 x47 x48 x49 x50 x51 x52 x53 x54 x55 : Value) (x56 : Nat) (x57 : ClassId) (x58 : Nat → Int32) : va_W := [(x0, .inr (11, [x1, x2, x3, x4, x5, x6, x7, x8, x9, x10, x11, x12, x13, x14, .ref x15, x16, x17, x18, x19, x20, x21, .int x22, x23, x24, x25, .ref x26, .ref x27, .ref x28, x29, .int x30, .ref x31, x32, x33, x34, x35, x36, x37, x38, x39, x40, .ref x41, x42, x43, x44, x45, x46, x47, x48, x49, x50, x51, x52, x53, x54, x55])), (x56, .inl (x57, 16, .inl x58))]
def wd08_19 (x0 : Nat) (x1 x2 x3 x4 x5 x6 x7 x8 x9 x10 x11 x12 x13 x14 : Value) (x15 : Nat) (x16 x17 x18 x19 x20 x21 : Value) (x22 : Int32) (x23 x24 x25 : Value) (x26 x27 x28 : Nat) (x29 : Value) (x30 : Int32) (x31 : Nat) (x32 x33 x34 x35 x36 x37 x38 x39 x40 : Value) (x41 : Nat) (x42 x43 x44 x45 x46 x47 x48 x49 x50 x51 x52 x53 x54 x55 : Value) (x56 : Nat) (x57 : ClassId) (x58 : Nat → Int32) (x59 : Nat) (x60 : ClassId) (x61 : Nat → Int32) (x62 : Nat) (x63 : ClassId) (x64 : Nat → Int32) (x65 : Nat) (x66 : ClassId) (x67 : Nat → Int32) (x68 : Nat) (x69 : ClassId) (x70 : Nat → Int32) : va_W := [(x0, .inr (11, [x1, x2, x3, x4, x5, x6, x7, x8, x9, x10, x11, x12, x13, x14, .ref x15, x16, x17, x18, x19, x20, x21, .int x22, x23, x24, x25, .ref x26, .ref x27, .ref x28, x29, .int x30, .ref x31, x32, x33, x34, x35, x36, x37, x38, x39, x40, .ref x41, x42, x43, x44, x45, x46, x47, x48, x49, x50, x51, x52, x53, x54, x55])), (x56, .inl (x57, 68, .inl x58)), (x59, .inl (x60, 8, .inl x61)), (x62, .inl (x63, 150, .inl x64)), (x65, .inl (x66, 150, .inl x67)), (x68, .inl (x69, 150, .inl x70))]
def wd08_20 (x0 : Nat) (x1 : Int32) (x2 : Nat) (x3 x4 x5 x6 x7 x8 x9 x10 x11 x12 x13 x14 : Value) (x15 : Nat) (x16 x17 x18 x19 x20 : Value) (x21 x22 : Int32) (x23 x24 x25 : Value) (x26 x27 x28 : Nat) (x29 : Value) (x30 : Int32) (x31 : Nat) (x32 x33 x34 x35 x36 x37 x38 x39 : Value) (x40 x41 : Nat) (x42 x43 x44 x45 x46 x47 x48 x49 x50 x51 x52 x53 x54 x55 : Value) (x56 : Nat) (x57 : ClassId) (x58 : Nat → Int32) (x59 : Nat) (x60 : ClassId) (x61 : Nat → Int32) (x62 : Nat) (x63 : ClassId) (x64 : Nat → Int32) (x65 : Nat) (x66 : ClassId) (x67 : Nat → Int32) (x68 : Nat) (x69 : ClassId) (x70 : Nat → Int32) (x71 : Nat) (x72 : ClassId) (x73 : Nat → Int32) (x74 : Nat) (x75 : ClassId) (x76 : Nat → Int32) (x77 : Nat) (x78 : ClassId) (x79 : Nat → Int32) : va_W := [(x0, .inr (11, [.int x1, .ref x2, x3, x4, x5, x6, x7, x8, x9, x10, x11, x12, x13, x14, .ref x15, x16, x17, x18, x19, x20, .int x21, .int x22, x23, x24, x25, .ref x26, .ref x27, .ref x28, x29, .int x30, .ref x31, x32, x33, x34, x35, x36, x37, x38, x39, .ref x40, .ref x41, x42, x43, x44, x45, x46, x47, x48, x49, x50, x51, x52, x53, x54, x55])), (x56, .inl (x57, 2, .inl x58)), (x59, .inl (x60, 68, .inl x61)), (x62, .inl (x63, 68, .inl x64)), (x65, .inl (x66, 16, .inl x67)), (x68, .inl (x69, 8, .inl x70)), (x71, .inl (x72, 150, .inl x73)), (x74, .inl (x75, 150, .inl x76)), (x77, .inl (x78, 150, .inl x79))]
def wd08_21 (x0 : Nat) (x1 : Int32) (x2 : Nat) (x3 x4 x5 x6 x7 x8 x9 x10 x11 x12 x13 x14 : Value) (x15 : Nat) (x16 x17 x18 x19 x20 : Value) (x21 x22 : Int32) (x23 x24 x25 : Value) (x26 x27 x28 : Nat) (x29 : Value) (x30 : Int32) (x31 : Nat) (x32 x33 x34 x35 x36 x37 x38 x39 : Value) (x40 x41 : Nat) (x42 x43 x44 x45 x46 x47 x48 x49 x50 x51 x52 x53 x54 x55 : Value) (x56 : Nat) (x57 : ClassId) (x58 : Nat → Int32) : va_W := [(x0, .inr (11, [.int x1, .ref x2, x3, x4, x5, x6, x7, x8, x9, x10, x11, x12, x13, x14, .ref x15, x16, x17, x18, x19, x20, .int x21, .int x22, x23, x24, x25, .ref x26, .ref x27, .ref x28, x29, .int x30, .ref x31, x32, x33, x34, x35, x36, x37, x38, x39, .ref x40, .ref x41, x42, x43, x44, x45, x46, x47, x48, x49, x50, x51, x52, x53, x54, x55])), (x56, .inl (x57, 2, .inl x58))]
def wd08_22 (x0 : Nat) (x1 : ClassId) (x2 : Nat → Int32) (x3 : Nat) (x4 : ClassId) (x5 : Nat → Int32) (x6 : Nat) (x7 : ClassId) (x8 : Nat → Int32) (x9 : Nat) (x10 : ClassId) (x11 : Nat → Int32) (x12 : Nat) (x13 : ClassId) (x14 : Nat → Int32) (x15 : Nat) (x16 : ClassId) (x17 : Nat → Int32) (x18 : Nat) (x19 : ClassId) (x20 : Nat → Int32) : va_W := [(x0, .inl (x1, 68, .inl x2)), (x3, .inl (x4, 68, .inl x5)), (x6, .inl (x7, 16, .inl x8)), (x9, .inl (x10, 8, .inl x11)), (x12, .inl (x13, 150, .inl x14)), (x15, .inl (x16, 150, .inl x17)), (x18, .inl (x19, 150, .inl x20))]
def wd08_23 (x0 : Nat) (x1 : Int32) (x2 : Nat) (x3 x4 x5 x6 x7 x8 x9 x10 x11 x12 x13 x14 : Value) (x15 : Nat) (x16 x17 x18 x19 x20 : Value) (x21 x22 : Int32) (x23 x24 x25 : Value) (x26 x27 x28 : Nat) (x29 : Value) (x30 : Int32) (x31 : Nat) (x32 x33 x34 x35 x36 x37 x38 x39 : Value) (x40 x41 : Nat) (x42 x43 x44 x45 x46 x47 x48 x49 x50 x51 x52 x53 x54 x55 : Value) (x56 : Nat) (x57 : ClassId) (x58 : Nat → Int32) (x59 : Nat) (x60 : ClassId) (x61 : Nat → Int32) : va_W := [(x0, .inr (11, [.int x1, .ref x2, x3, x4, x5, x6, x7, x8, x9, x10, x11, x12, x13, x14, .ref x15, x16, x17, x18, x19, x20, .int x21, .int x22, x23, x24, x25, .ref x26, .ref x27, .ref x28, x29, .int x30, .ref x31, x32, x33, x34, x35, x36, x37, x38, x39, .ref x40, .ref x41, x42, x43, x44, x45, x46, x47, x48, x49, x50, x51, x52, x53, x54, x55])), (x56, .inl (x57, 68, .inl x58)), (x59, .inl (x60, 68, .inl x61))]
def wd08_24 (x0 : Nat) (x1 : Int32) (x2 : Nat) (x3 x4 x5 x6 x7 x8 x9 x10 x11 x12 x13 x14 : Value) (x15 : Nat) (x16 x17 x18 x19 x20 : Value) (x21 x22 : Int32) (x23 x24 x25 : Value) (x26 x27 x28 : Nat) (x29 : Value) (x30 : Int32) (x31 : Nat) (x32 x33 x34 x35 x36 x37 x38 x39 : Value) (x40 x41 : Nat) (x42 x43 x44 x45 x46 x47 x48 x49 x50 x51 x52 x53 x54 x55 : Value) (x56 : Nat) (x57 : ClassId) (x58 : Nat → Int32) (x59 : Nat) (x60 : ClassId) (x61 : Nat → Int32) (x62 : Nat) (x63 : ClassId) (x64 : Nat → Int32) (x65 : Nat) (x66 : ClassId) (x67 : Nat → Int32) (x68 : Nat) (x69 : ClassId) (x70 : Nat → Int32) (x71 : Nat) (x72 : ClassId) (x73 : Nat → Int32) : va_W := [(x0, .inr (11, [.int x1, .ref x2, x3, x4, x5, x6, x7, x8, x9, x10, x11, x12, x13, x14, .ref x15, x16, x17, x18, x19, x20, .int x21, .int x22, x23, x24, x25, .ref x26, .ref x27, .ref x28, x29, .int x30, .ref x31, x32, x33, x34, x35, x36, x37, x38, x39, .ref x40, .ref x41, x42, x43, x44, x45, x46, x47, x48, x49, x50, x51, x52, x53, x54, x55])), (x56, .inl (x57, 68, .inl x58)), (x59, .inl (x60, 16, .inl x61)), (x62, .inl (x63, 8, .inl x64)), (x65, .inl (x66, 150, .inl x67)), (x68, .inl (x69, 150, .inl x70)), (x71, .inl (x72, 150, .inl x73))]
def wd08_25 (x0 : Nat) (x1 x2 x3 x4 x5 x6 x7 x8 x9 x10 x11 x12 x13 : Value) (x14 : Nat) (x15 x16 x17 : Value) (x18 x19 x20 : Int32) (x21 x22 x23 x24 x25 x26 x27 x28 x29 x30 x31 x32 x33 x34 x35 x36 x37 x38 x39 x40 x41 x42 x43 x44 x45 x46 x47 x48 x49 x50 x51 x52 x53 x54 x55 : Value) (x56 : Nat) (x57 : ClassId) (x58 : Nat → Int32) : va_W := [(x0, .inr (11, [x1, x2, x3, x4, x5, x6, x7, x8, x9, x10, x11, x12, x13, .ref x14, x15, x16, x17, .int x18, .int x19, .int x20, x21, x22, x23, x24, x25, x26, x27, x28, x29, x30, x31, x32, x33, x34, x35, x36, x37, x38, x39, x40, x41, x42, x43, x44, x45, x46, x47, x48, x49, x50, x51, x52, x53, x54, x55])), (x56, .inl (x57, 36, .inl x58))]
theorem ui_X11_lastsIn_r2_X11 : ∀ w ∈ u_ws RX11 TX11 55, w ∈ wsX11_lastsIn := uiM mbX11_lastsIn euX11 (by decide +kernel)
theorem uw_X11_lastsIn_r2_f169 : (.fieldLink RX11 169 "MarchHaresModel" "hares" "I" : Cond) ∈ wsX11_lastsIn := mbX11_lastsIn 520 (by decide +kernel)
theorem uw_X11_lastsIn_r2_f68 : (.fieldLink RX11 68 "MarchHaresModel" "now" "[I" : Cond) ∈ wsX11_lastsIn := mbX11_lastsIn 456 (by decide +kernel)
set_option maxHeartbeats 4000000 in
set_option maxRecDepth 100000 in
theorem kb_X11_lastsIn_g_128 (RS : Int32 → (Nat → Int32) → Int32 → Int32 → Int32 → Int32 → (Int32 → Prop) → Prop) (fr lo : Nat) (hRw : ∀ (l : Launch) (dC : Nat → ClassId) (dI : Nat → Nat → Nat) (cyB cyI cyJ cyP : ClassId) (a0 jaT sz : Nat) (jaX jaF jaD ja7 jby jbf jaM jaY jap jaK jal jam jax jao ja6 jaV ja8 jae jag jaf ja0 jaP jaw jaI jaZ jaH jaS jan jaU jaE jar jaL jah jaB jaa jaz jaG jab z0_s jaq jai jaO jaA jat jau jav jaj jas jaJ jak jad jay jac : Value) (jaC : Int32) (jb0 : Nat → Int32) (p1 p2 p3 p4 : Int32) {Q : Int32 → Prop} (hw : RS jaC jb0  p1 p2 p3 p4 Q), Met l yX11_lastsIn wsX11_lastsIn ({ frames := fr, cells := 0, slots := 0, locals := lo }) (va_Pc [.ref a0, .int p1, .int p2, .int p3, .int p4] (cPc (dC, dI) (kT cyB cyI cyJ cyP) (wd08_0 a0 jaX jaF jaD ja7 jby jbf jaM jaY jap jaK jal jam jax jao ja6 jaV ja8 jae jag jaf ja0 jaC jaP jaw jaI jaZ jaH jaS jan jaU jaE jar jaL jah jaB jaa jaz jaG jab jaT z0_s jaq jai jaO jaA jat jau jav jaj jas jaJ jak jad jay jac jaT cyI jb0) sz)) (va_Qi (fun (r : Int32) (_ : Unit) => Q r ) (cB (dC, dI) (kT cyB cyI cyJ cyP) (va_A (wd08_0 a0 jaX jaF jaD ja7 jby jbf jaM jaY jap jaK jal jam jax jao ja6 jaV ja8 jae jag jaf ja0 jaC jaP jaw jaI jaZ jaH jaS jan jaU jaE jar jaL jah jaB jaa jaz jaG jab jaT z0_s jaq jai jaO jaA jat jau jav jaj jas jaJ jak jad jay jac jaT cyI jb0) sz) (fun u : Unit => ((wd08_0 a0 jaX jaF jaD ja7 jby jbf jaM jaY jap jaK jal jam jax jao ja6 jaV ja8 jae jag jaf ja0 jaC jaP jaw jaI jaZ jaH jaS jan jaU jaE jar jaL jah jaB jaa jaz jaG jab jaT z0_s jaq jai jaO jaA jat jau jav jaj jas jaJ jak jad jay jac jaT cyI jb0) : va_W))) (va_A (wd08_0 a0 jaX jaF jaD ja7 jby jbf jaM jaY jap jaK jal jam jax jao ja6 jaV ja8 jae jag jaf ja0 jaC jaP jaw jaI jaZ jaH jaS jan jaU jaE jar jaL jah jaB jaa jaz jaG jab jaT z0_s jaq jai jaO jaA jat jau jav jaj jas jaJ jak jad jay jac jaT cyI jb0) sz)) 0 0 (va_A (wd08_0 a0 jaX jaF jaD ja7 jby jbf jaM jaY jap jaK jal jam jax jao ja6 jaV ja8 jae jag jaf ja0 jaC jaP jaw jaI jaZ jaH jaS jan jaU jaE jar jaL jah jaB jaa jaz jaG jab jaT z0_s jaq jai jaO jaA jat jau jav jaj jas jaJ jak jad jay jac jaT cyI jb0) sz)) {p : Program} {l : Launch} {e : Env} {s : State} {m : MethodId} {args : Array Value} {below : List Frame} {meth : Method} {c : Code} {A : Nat → Prop} (dC : Nat → ClassId) (dI : Nat → Nat → Nat) (cyB cyI cyJ cyP : ClassId) (a0 jaT : Nat) (jaX jaF jaD ja7 jby jbf jaM jaY jap jaK jal jam jax jao ja6 jaV ja8 jae jag jaf ja0 jaP jaw jaI jaZ jaH jaS jan jaU jaE jar jaL jah jaB jaa jaz jaG jab z0_s jaq jai jaO jaA jat jau jav jaj jas jaJ jak jad jay jac : Value) (jaC : Int32) (jb0 : Nat → Int32) (Q : Int32 → Prop) (K22 : Int32 → Int32 → Int32 → Int32 → Int32 → Int32 → Prop) (hK22 : ∀ (H : Heap) (locs : List Loc) (ls : Array Slot) (l1 l2 l3 l4 l5 l6 : Int32), va_P (dC, dI) vwCl (wd08_0 a0 jaX jaF jaD ja7 jby jbf jaM jaY jap jaK jal jam jax jao ja6 jaV ja8 jae jag jaf ja0 jaC jaP jaw jaI jaZ jaH jaS jan jaU jaE jar jaL jah jaB jaa jaz jaG jab jaT z0_s jaq jai jaO jaA jat jau jav jaj jas jaJ jak jad jay jac jaT cyI jb0) H → va_D A (wd08_0 a0 jaX jaF jaD ja7 jby jbf jaM jaY jap jaK jal jam jax jao ja6 jaV ja8 jae jag jaf ja0 jaC jaP jaw jaI jaZ jaH jaS jan jaU jaE jar jaL jah jaB jaa jaz jaG jab jaT z0_s jaq jai jaO jaA jat jau jav jaj jas jaJ jak jad jay jac jaT cyI jb0) → va_S A s.heap H locs → lv_has ls 9 [(0, .ref a0), (1, .int l1), (2, .int l2), (3, .int l3), (4, .int l4), (5, .int l5), (6, .int l6)] → K22 l1 l2 l3 l4 l5 l6 → W p l e (headSpec wsX11_lastsIn ({ frames := fr + 1, cells := 0, slots := 0, locals := lo + 28 })).room s m args below meth c H locs 0 0 (MQ below (va_Qi (fun (r : Int32) (_ : Unit) => Q r ) (cB (dC, dI) (kT cyB cyI cyJ cyP) A (fun u : Unit => ((wd08_0 a0 jaX jaF jaD ja7 jby jbf jaM jaY jap jaK jal jam jax jao ja6 jaV ja8 jae jag jaf ja0 jaC jaP jaw jaI jaZ jaH jaS jan jaU jaE jar jaL jah jaB jaa jaz jaG jab jaT z0_s jaq jai jaO jaA jat jau jav jaj jas jaJ jak jad jay jac jaT cyI jb0) : va_W))) A) args s 0 0 A) (F0 m 22 ls [])) (C0 : cfx p s m args meth c cX11_lastsIn (some .int) wsX11_lastsIn RX11 9 A (dC, dI) (kT cyB cyI cyJ cyP)) : ∀ (H : Heap) (locs : List Loc) (ls : Array Slot) (l1 l2 l3 l4 l5 l6 : Int32), va_P (dC, dI) vwCl (wd08_0 a0 jaX jaF jaD ja7 jby jbf jaM jaY jap jaK jal jam jax jao ja6 jaV ja8 jae jag jaf ja0 jaC jaP jaw jaI jaZ jaH jaS jan jaU jaE jar jaL jah jaB jaa jaz jaG jab jaT z0_s jaq jai jaO jaA jat jau jav jaj jas jaJ jak jad jay jac jaT cyI jb0) H → va_D A (wd08_0 a0 jaX jaF jaD ja7 jby jbf jaM jaY jap jaK jal jam jax jao ja6 jaV ja8 jae jag jaf ja0 jaC jaP jaw jaI jaZ jaH jaS jan jaU jaE jar jaL jah jaB jaa jaz jaG jab jaT z0_s jaq jai jaO jaA jat jau jav jaj jas jaJ jak jad jay jac jaT cyI jb0) → va_S A s.heap H locs → lv_has ls 9 [(0, .ref a0), (1, .int l1), (2, .int l2), (3, .int l3), (4, .int l4), (5, .int l5), (6, .int l6)] → wb_X11_lastsIn_g_128 RS jaC jb0 Q K22 l1 l2 l3 l4 l5 l6 → W p l e (headSpec wsX11_lastsIn ({ frames := fr + 1, cells := 0, slots := 0, locals := lo + 28 })).room s m args below meth c H locs 0 0 (MQ below (va_Qi (fun (r : Int32) (_ : Unit) => Q r ) (cB (dC, dI) (kT cyB cyI cyJ cyP) A (fun u : Unit => ((wd08_0 a0 jaX jaF jaD ja7 jby jbf jaM jaY jap jaK jal jam jax jao ja6 jaV ja8 jae jag jaf ja0 jaC jaP jaw jaI jaZ jaH jaS jan jaU jaE jar jaL jah jaB jaa jaz jaG jab jaT z0_s jaq jai jaO jaA jat jau jav jaj jas jaJ jak jad jay jac jaT cyI jb0) : va_W))) A) args s 0 0 A) (F0 m 128 ls []) := by
  obtain ⟨hx, hb, hr, hts, hown, hlocks, hml, hA, hK, hNw⟩ := id C0
  intro H locs ls l1 l2 l3 l4 l5 l6 hP hD hS hl hw
  obtain ⟨x11, ex11⟩ : ∃ y : Int32, y = l6 + 1 := ⟨_, rfl⟩
  have hw := hw x11 ex11
  refine lv_iinc (v := x11) (lv' := [(6, .int x11), (0, .ref a0), (1, .int l1), (2, .int l2), (3, .int l3), (4, .int l4), (5, .int l5)]) hx hb (dt_of tkX11_lastsIn_k111 8 rfl) hl (k := 6) rfl (by rw [ex11]; rfl) (by decide) rfl (fun ls hl => ?_)
  refine lv_goto (tgt := 22) hx hb (dt_of tkX11_lastsIn_k111 9 rfl) (by decide) ?_
  exact hK22 _ _ _ l1 l2 l3 l4 l5 x11 hP hD hS (lv_sub hl [1, 2, 3, 4, 5, 6, 0] rfl) hw
set_option maxHeartbeats 4000000 in
set_option maxRecDepth 100000 in
theorem kb_X11_lastsIn_g_120 (RS : Int32 → (Nat → Int32) → Int32 → Int32 → Int32 → Int32 → (Int32 → Prop) → Prop) (fr lo : Nat) (hRw : ∀ (l : Launch) (dC : Nat → ClassId) (dI : Nat → Nat → Nat) (cyB cyI cyJ cyP : ClassId) (a0 jaT sz : Nat) (jaX jaF jaD ja7 jby jbf jaM jaY jap jaK jal jam jax jao ja6 jaV ja8 jae jag jaf ja0 jaP jaw jaI jaZ jaH jaS jan jaU jaE jar jaL jah jaB jaa jaz jaG jab z0_s jaq jai jaO jaA jat jau jav jaj jas jaJ jak jad jay jac : Value) (jaC : Int32) (jb0 : Nat → Int32) (p1 p2 p3 p4 : Int32) {Q : Int32 → Prop} (hw : RS jaC jb0  p1 p2 p3 p4 Q), Met l yX11_lastsIn wsX11_lastsIn ({ frames := fr, cells := 0, slots := 0, locals := lo }) (va_Pc [.ref a0, .int p1, .int p2, .int p3, .int p4] (cPc (dC, dI) (kT cyB cyI cyJ cyP) (wd08_0 a0 jaX jaF jaD ja7 jby jbf jaM jaY jap jaK jal jam jax jao ja6 jaV ja8 jae jag jaf ja0 jaC jaP jaw jaI jaZ jaH jaS jan jaU jaE jar jaL jah jaB jaa jaz jaG jab jaT z0_s jaq jai jaO jaA jat jau jav jaj jas jaJ jak jad jay jac jaT cyI jb0) sz)) (va_Qi (fun (r : Int32) (_ : Unit) => Q r ) (cB (dC, dI) (kT cyB cyI cyJ cyP) (va_A (wd08_0 a0 jaX jaF jaD ja7 jby jbf jaM jaY jap jaK jal jam jax jao ja6 jaV ja8 jae jag jaf ja0 jaC jaP jaw jaI jaZ jaH jaS jan jaU jaE jar jaL jah jaB jaa jaz jaG jab jaT z0_s jaq jai jaO jaA jat jau jav jaj jas jaJ jak jad jay jac jaT cyI jb0) sz) (fun u : Unit => ((wd08_0 a0 jaX jaF jaD ja7 jby jbf jaM jaY jap jaK jal jam jax jao ja6 jaV ja8 jae jag jaf ja0 jaC jaP jaw jaI jaZ jaH jaS jan jaU jaE jar jaL jah jaB jaa jaz jaG jab jaT z0_s jaq jai jaO jaA jat jau jav jaj jas jaJ jak jad jay jac jaT cyI jb0) : va_W))) (va_A (wd08_0 a0 jaX jaF jaD ja7 jby jbf jaM jaY jap jaK jal jam jax jao ja6 jaV ja8 jae jag jaf ja0 jaC jaP jaw jaI jaZ jaH jaS jan jaU jaE jar jaL jah jaB jaa jaz jaG jab jaT z0_s jaq jai jaO jaA jat jau jav jaj jas jaJ jak jad jay jac jaT cyI jb0) sz)) 0 0 (va_A (wd08_0 a0 jaX jaF jaD ja7 jby jbf jaM jaY jap jaK jal jam jax jao ja6 jaV ja8 jae jag jaf ja0 jaC jaP jaw jaI jaZ jaH jaS jan jaU jaE jar jaL jah jaB jaa jaz jaG jab jaT z0_s jaq jai jaO jaA jat jau jav jaj jas jaJ jak jad jay jac jaT cyI jb0) sz)) {p : Program} {l : Launch} {e : Env} {s : State} {m : MethodId} {args : Array Value} {below : List Frame} {meth : Method} {c : Code} {A : Nat → Prop} (dC : Nat → ClassId) (dI : Nat → Nat → Nat) (cyB cyI cyJ cyP : ClassId) (a0 jaT : Nat) (jaX jaF jaD ja7 jby jbf jaM jaY jap jaK jal jam jax jao ja6 jaV ja8 jae jag jaf ja0 jaP jaw jaI jaZ jaH jaS jan jaU jaE jar jaL jah jaB jaa jaz jaG jab z0_s jaq jai jaO jaA jat jau jav jaj jas jaJ jak jad jay jac : Value) (jaC : Int32) (jb0 : Nat → Int32) (Q : Int32 → Prop) (K22 : Int32 → Int32 → Int32 → Int32 → Int32 → Int32 → Prop) (hK22 : ∀ (H : Heap) (locs : List Loc) (ls : Array Slot) (l1 l2 l3 l4 l5 l6 : Int32), va_P (dC, dI) vwCl (wd08_0 a0 jaX jaF jaD ja7 jby jbf jaM jaY jap jaK jal jam jax jao ja6 jaV ja8 jae jag jaf ja0 jaC jaP jaw jaI jaZ jaH jaS jan jaU jaE jar jaL jah jaB jaa jaz jaG jab jaT z0_s jaq jai jaO jaA jat jau jav jaj jas jaJ jak jad jay jac jaT cyI jb0) H → va_D A (wd08_0 a0 jaX jaF jaD ja7 jby jbf jaM jaY jap jaK jal jam jax jao ja6 jaV ja8 jae jag jaf ja0 jaC jaP jaw jaI jaZ jaH jaS jan jaU jaE jar jaL jah jaB jaa jaz jaG jab jaT z0_s jaq jai jaO jaA jat jau jav jaj jas jaJ jak jad jay jac jaT cyI jb0) → va_S A s.heap H locs → lv_has ls 9 [(0, .ref a0), (1, .int l1), (2, .int l2), (3, .int l3), (4, .int l4), (5, .int l5), (6, .int l6)] → K22 l1 l2 l3 l4 l5 l6 → W p l e (headSpec wsX11_lastsIn ({ frames := fr + 1, cells := 0, slots := 0, locals := lo + 28 })).room s m args below meth c H locs 0 0 (MQ below (va_Qi (fun (r : Int32) (_ : Unit) => Q r ) (cB (dC, dI) (kT cyB cyI cyJ cyP) A (fun u : Unit => ((wd08_0 a0 jaX jaF jaD ja7 jby jbf jaM jaY jap jaK jal jam jax jao ja6 jaV ja8 jae jag jaf ja0 jaC jaP jaw jaI jaZ jaH jaS jan jaU jaE jar jaL jah jaB jaa jaz jaG jab jaT z0_s jaq jai jaO jaA jat jau jav jaj jas jaJ jak jad jay jac jaT cyI jb0) : va_W))) A) args s 0 0 A) (F0 m 22 ls [])) (C0 : cfx p s m args meth c cX11_lastsIn (some .int) wsX11_lastsIn RX11 9 A (dC, dI) (kT cyB cyI cyJ cyP)) : ∀ (H : Heap) (locs : List Loc) (ls : Array Slot) (l1 l2 l3 l4 l6 s0 s2 s3 s4 : Int32), va_P (dC, dI) vwCl (wd08_0 a0 jaX jaF jaD ja7 jby jbf jaM jaY jap jaK jal jam jax jao ja6 jaV ja8 jae jag jaf ja0 jaC jaP jaw jaI jaZ jaH jaS jan jaU jaE jar jaL jah jaB jaa jaz jaG jab jaT z0_s jaq jai jaO jaA jat jau jav jaj jas jaJ jak jad jay jac jaT cyI jb0) H → va_D A (wd08_0 a0 jaX jaF jaD ja7 jby jbf jaM jaY jap jaK jal jam jax jao ja6 jaV ja8 jae jag jaf ja0 jaC jaP jaw jaI jaZ jaH jaS jan jaU jaE jar jaL jah jaB jaa jaz jaG jab jaT z0_s jaq jai jaO jaA jat jau jav jaj jas jaJ jak jad jay jac jaT cyI jb0) → va_S A s.heap H locs → lv_has ls 9 [(0, .ref a0), (1, .int l1), (2, .int l2), (3, .int l3), (4, .int l4), (6, .int l6)] → wb_X11_lastsIn_g_120 RS jaC jb0 Q K22 l1 l2 l3 l4 l6 s0 s2 s3 s4 → W p l e (headSpec wsX11_lastsIn ({ frames := fr + 1, cells := 0, slots := 0, locals := lo + 28 })).room s m args below meth c H locs 0 0 (MQ below (va_Qi (fun (r : Int32) (_ : Unit) => Q r ) (cB (dC, dI) (kT cyB cyI cyJ cyP) A (fun u : Unit => ((wd08_0 a0 jaX jaF jaD ja7 jby jbf jaM jaY jap jaK jal jam jax jao ja6 jaV ja8 jae jag jaf ja0 jaC jaP jaw jaI jaZ jaH jaS jan jaU jaE jar jaL jah jaB jaa jaz jaG jab jaT z0_s jaq jai jaO jaA jat jau jav jaj jas jaJ jak jad jay jac jaT cyI jb0) : va_W))) A) args s 0 0 A) (F0 m 120 ls [.int s4, .int s3, .int s2, .ref a0, .int s0]) := by
  obtain ⟨hx, hb, hr, hts, hown, hlocks, hml, hA, hK, hNw⟩ := id C0
  intro H locs ls l1 l2 l3 l4 l6 s0 s2 s3 s4 hP hD hS hl hw
  refine lv_iload hx hb (dt_of tkX11_lastsIn_k111 4 rfl) (lv_at hl 4 rfl) ?_
  obtain ⟨hCc, hPc, hDc, hFc⟩ := va_pick (ws' := (wd08_0 a0 jaX jaF jaD ja7 jby jbf jaM jaY jap jaK jal jam jax jao ja6 jaV ja8 jae jag jaf ja0 jaC jaP jaw jaI jaZ jaH jaS jan jaU jaE jar jaL jah jaB jaa jaz jaG jab jaT z0_s jaq jai jaO jaA jat jau jav jaj jas jaJ jak jad jay jac jaT cyI jb0)) hP hD hS hA [0, 1] (by decide +kernel) rfl
  refine va_calli (va_runV (As := [.int s2, .int s3, .int s4, .int l4]) (rest := [.int s0]) ⟨hx, hb, hml, hown, hts⟩ (hRw l dC dI cyB cyI cyJ cyP a0 jaT H.size (jaX) (jaF) (jaD) (ja7) (jby) (jbf) (jaM) (jaY) (jap) (jaK) (jal) (jam) (jax) (jao) (ja6) (jaV) (ja8) (jae) (jag) (jaf) (ja0) (jaP) (jaw) (jaI) (jaZ) (jaH) (jaS) (jan) (jaU) (jaE) (jar) (jaL) (jah) (jaB) (jaa) (jaz) (jaG) (jab) (z0_s) (jaq) (jai) (jaO) (jaA) (jat) (jau) (jav) (jaj) (jas) (jaJ) (jak) (jad) (jay) (jac) jaC jb0  s2 s3 s4 l4 hw) (cwV 4 hts gX11_lastsIn_X11_lastsIn rfl rfl rfl (by decide +kernel) ⟨(by first | exact Nat.le_of_ble_eq_true rfl | (simp only [headSpec]; omega) | omega), (by first | exact Nat.le_of_ble_eq_true rfl | (simp only [headSpec]; omega) | omega)⟩) ⟨cPc_blind, va_recv (q := (RX11, TX11, 55)) hK hPc (ci := 11) (q0 := 0) rfl rfl, cPc_pre hPc hK hDc hNw⟩ rfl rfl hl.1 rfl (lv_room (Nat.le_of_ble_eq_true rfl)) (dt_of tkX11_lastsIn_k111 5 rfl) ⟨(by first | exact Nat.le_of_ble_eq_true rfl | (simp only [headSpec]; omega) | omega), (by first | exact Nat.le_of_ble_eq_true rfl | (simp only [headSpec]; omega) | omega)⟩) hS (fun q _ h => hFc q h) hFc (fun r16 u t H1 locs ht hvm hw hB hz1 hk1 hS => ?_)
  obtain ⟨hP1, hK1, hD1⟩ := hB
  rw [ht] at hP1
  obtain ⟨hP, hD⟩ := va_joinI (wr := []) (w1 := (wd08_0 a0 jaX jaF jaD ja7 jby jbf jaM jaY jap jaK jal jam jax jao ja6 jaV ja8 jae jag jaf ja0 jaC jaP jaw jaI jaZ jaH jaS jan jaU jaE jar jaL jah jaB jaa jaz jaG jab jaT z0_s jaq jai jaO jaA jat jau jav jaj jas jaJ jak jad jay jac jaT cyI jb0)) (wn := (wd08_0 a0 jaX jaF jaD ja7 jby jbf jaM jaY jap jaK jal jam jax jao ja6 jaV ja8 jae jag jaf ja0 jaC jaP jaw jaI jaZ jaH jaS jan jaU jaE jar jaL jah jaB jaa jaz jaG jab jaT z0_s jaq jai jaO jaA jat jau jav jaj jas jaJ jak jad jay jac jaT cyI jb0)) hP hD [0, 1] [] hCc rfl (by decide +kernel) (by decide +kernel) rfl hk1 hFc hP1 hD1
  generalize H1 = H at hP hS ⊢
  refine lv_iadd hx hb (dt_of tkX11_lastsIn_k111 6 rfl) ?_
  refine lv_topi (fun x17 ex17 => ?_)
  have hw := hw x17 ex17
  refine lv_istore (lv' := [(5, .int x17), (0, .ref a0), (1, .int l1), (2, .int l2), (3, .int l3), (4, .int l4), (6, .int l6)]) hx hb (dt_of tkX11_lastsIn_k111 7 rfl) hl (by decide) rfl (fun ls hl => ?_)
  exact kb_X11_lastsIn_g_128 RS fr lo hRw dC dI cyB cyI cyJ cyP a0 jaT jaX jaF jaD ja7 jby jbf jaM jaY jap jaK jal jam jax jao ja6 jaV ja8 jae jag jaf ja0 jaP jaw jaI jaZ jaH jaS jan jaU jaE jar jaL jah jaB jaa jaz jaG jab z0_s jaq jai jaO jaA jat jau jav jaj jas jaJ jak jad jay jac jaC jb0 Q K22 hK22 C0 _ _ _ l1 l2 l3 l4 x17 l6 hP hD hS (lv_sub hl [1, 2, 3, 4, 5, 0, 6] rfl) hw
set_option maxHeartbeats 4000000 in
set_option maxRecDepth 100000 in
theorem kb_X11_lastsIn_g_109 (RS : Int32 → (Nat → Int32) → Int32 → Int32 → Int32 → Int32 → (Int32 → Prop) → Prop) (fr lo : Nat) (hRw : ∀ (l : Launch) (dC : Nat → ClassId) (dI : Nat → Nat → Nat) (cyB cyI cyJ cyP : ClassId) (a0 jaT sz : Nat) (jaX jaF jaD ja7 jby jbf jaM jaY jap jaK jal jam jax jao ja6 jaV ja8 jae jag jaf ja0 jaP jaw jaI jaZ jaH jaS jan jaU jaE jar jaL jah jaB jaa jaz jaG jab z0_s jaq jai jaO jaA jat jau jav jaj jas jaJ jak jad jay jac : Value) (jaC : Int32) (jb0 : Nat → Int32) (p1 p2 p3 p4 : Int32) {Q : Int32 → Prop} (hw : RS jaC jb0  p1 p2 p3 p4 Q), Met l yX11_lastsIn wsX11_lastsIn ({ frames := fr, cells := 0, slots := 0, locals := lo }) (va_Pc [.ref a0, .int p1, .int p2, .int p3, .int p4] (cPc (dC, dI) (kT cyB cyI cyJ cyP) (wd08_0 a0 jaX jaF jaD ja7 jby jbf jaM jaY jap jaK jal jam jax jao ja6 jaV ja8 jae jag jaf ja0 jaC jaP jaw jaI jaZ jaH jaS jan jaU jaE jar jaL jah jaB jaa jaz jaG jab jaT z0_s jaq jai jaO jaA jat jau jav jaj jas jaJ jak jad jay jac jaT cyI jb0) sz)) (va_Qi (fun (r : Int32) (_ : Unit) => Q r ) (cB (dC, dI) (kT cyB cyI cyJ cyP) (va_A (wd08_0 a0 jaX jaF jaD ja7 jby jbf jaM jaY jap jaK jal jam jax jao ja6 jaV ja8 jae jag jaf ja0 jaC jaP jaw jaI jaZ jaH jaS jan jaU jaE jar jaL jah jaB jaa jaz jaG jab jaT z0_s jaq jai jaO jaA jat jau jav jaj jas jaJ jak jad jay jac jaT cyI jb0) sz) (fun u : Unit => ((wd08_0 a0 jaX jaF jaD ja7 jby jbf jaM jaY jap jaK jal jam jax jao ja6 jaV ja8 jae jag jaf ja0 jaC jaP jaw jaI jaZ jaH jaS jan jaU jaE jar jaL jah jaB jaa jaz jaG jab jaT z0_s jaq jai jaO jaA jat jau jav jaj jas jaJ jak jad jay jac jaT cyI jb0) : va_W))) (va_A (wd08_0 a0 jaX jaF jaD ja7 jby jbf jaM jaY jap jaK jal jam jax jao ja6 jaV ja8 jae jag jaf ja0 jaC jaP jaw jaI jaZ jaH jaS jan jaU jaE jar jaL jah jaB jaa jaz jaG jab jaT z0_s jaq jai jaO jaA jat jau jav jaj jas jaJ jak jad jay jac jaT cyI jb0) sz)) 0 0 (va_A (wd08_0 a0 jaX jaF jaD ja7 jby jbf jaM jaY jap jaK jal jam jax jao ja6 jaV ja8 jae jag jaf ja0 jaC jaP jaw jaI jaZ jaH jaS jan jaU jaE jar jaL jah jaB jaa jaz jaG jab jaT z0_s jaq jai jaO jaA jat jau jav jaj jas jaJ jak jad jay jac jaT cyI jb0) sz)) {p : Program} {l : Launch} {e : Env} {s : State} {m : MethodId} {args : Array Value} {below : List Frame} {meth : Method} {c : Code} {A : Nat → Prop} (dC : Nat → ClassId) (dI : Nat → Nat → Nat) (cyB cyI cyJ cyP : ClassId) (a0 jaT : Nat) (jaX jaF jaD ja7 jby jbf jaM jaY jap jaK jal jam jax jao ja6 jaV ja8 jae jag jaf ja0 jaP jaw jaI jaZ jaH jaS jan jaU jaE jar jaL jah jaB jaa jaz jaG jab z0_s jaq jai jaO jaA jat jau jav jaj jas jaJ jak jad jay jac : Value) (jaC : Int32) (jb0 : Nat → Int32) (Q : Int32 → Prop) (K22 : Int32 → Int32 → Int32 → Int32 → Int32 → Int32 → Prop) (hK22 : ∀ (H : Heap) (locs : List Loc) (ls : Array Slot) (l1 l2 l3 l4 l5 l6 : Int32), va_P (dC, dI) vwCl (wd08_0 a0 jaX jaF jaD ja7 jby jbf jaM jaY jap jaK jal jam jax jao ja6 jaV ja8 jae jag jaf ja0 jaC jaP jaw jaI jaZ jaH jaS jan jaU jaE jar jaL jah jaB jaa jaz jaG jab jaT z0_s jaq jai jaO jaA jat jau jav jaj jas jaJ jak jad jay jac jaT cyI jb0) H → va_D A (wd08_0 a0 jaX jaF jaD ja7 jby jbf jaM jaY jap jaK jal jam jax jao ja6 jaV ja8 jae jag jaf ja0 jaC jaP jaw jaI jaZ jaH jaS jan jaU jaE jar jaL jah jaB jaa jaz jaG jab jaT z0_s jaq jai jaO jaA jat jau jav jaj jas jaJ jak jad jay jac jaT cyI jb0) → va_S A s.heap H locs → lv_has ls 9 [(0, .ref a0), (1, .int l1), (2, .int l2), (3, .int l3), (4, .int l4), (5, .int l5), (6, .int l6)] → K22 l1 l2 l3 l4 l5 l6 → W p l e (headSpec wsX11_lastsIn ({ frames := fr + 1, cells := 0, slots := 0, locals := lo + 28 })).room s m args below meth c H locs 0 0 (MQ below (va_Qi (fun (r : Int32) (_ : Unit) => Q r ) (cB (dC, dI) (kT cyB cyI cyJ cyP) A (fun u : Unit => ((wd08_0 a0 jaX jaF jaD ja7 jby jbf jaM jaY jap jaK jal jam jax jao ja6 jaV ja8 jae jag jaf ja0 jaC jaP jaw jaI jaZ jaH jaS jan jaU jaE jar jaL jah jaB jaa jaz jaG jab jaT z0_s jaq jai jaO jaA jat jau jav jaj jas jaJ jak jad jay jac jaT cyI jb0) : va_W))) A) args s 0 0 A) (F0 m 22 ls [])) (C0 : cfx p s m args meth c cX11_lastsIn (some .int) wsX11_lastsIn RX11 9 A (dC, dI) (kT cyB cyI cyJ cyP)) : ∀ (H : Heap) (locs : List Loc) (ls : Array Slot) (l1 l2 l3 l4 l6 l8 s0 s2 s3 : Int32), va_P (dC, dI) vwCl (wd08_0 a0 jaX jaF jaD ja7 jby jbf jaM jaY jap jaK jal jam jax jao ja6 jaV ja8 jae jag jaf ja0 jaC jaP jaw jaI jaZ jaH jaS jan jaU jaE jar jaL jah jaB jaa jaz jaG jab jaT z0_s jaq jai jaO jaA jat jau jav jaj jas jaJ jak jad jay jac jaT cyI jb0) H → va_D A (wd08_0 a0 jaX jaF jaD ja7 jby jbf jaM jaY jap jaK jal jam jax jao ja6 jaV ja8 jae jag jaf ja0 jaC jaP jaw jaI jaZ jaH jaS jan jaU jaE jar jaL jah jaB jaa jaz jaG jab jaT z0_s jaq jai jaO jaA jat jau jav jaj jas jaJ jak jad jay jac jaT cyI jb0) → va_S A s.heap H locs → lv_has ls 9 [(0, .ref a0), (1, .int l1), (2, .int l2), (3, .int l3), (4, .int l4), (6, .int l6), (8, .int l8)] → wb_X11_lastsIn_g_109 RS jaC jb0 Q K22 l1 l2 l3 l4 l6 l8 s0 s2 s3 → W p l e (headSpec wsX11_lastsIn ({ frames := fr + 1, cells := 0, slots := 0, locals := lo + 28 })).room s m args below meth c H locs 0 0 (MQ below (va_Qi (fun (r : Int32) (_ : Unit) => Q r ) (cB (dC, dI) (kT cyB cyI cyJ cyP) A (fun u : Unit => ((wd08_0 a0 jaX jaF jaD ja7 jby jbf jaM jaY jap jaK jal jam jax jao ja6 jaV ja8 jae jag jaf ja0 jaC jaP jaw jaI jaZ jaH jaS jan jaU jaE jar jaL jah jaB jaa jaz jaG jab jaT z0_s jaq jai jaO jaA jat jau jav jaj jas jaJ jak jad jay jac jaT cyI jb0) : va_W))) A) args s 0 0 A) (F0 m 109 ls [.int s3, .int s2, .ref a0, .int s0]) := by
  obtain ⟨hx, hb, hr, hts, hown, hlocks, hml, hA, hK, hNw⟩ := id C0
  intro H locs ls l1 l2 l3 l4 l6 l8 s0 s2 s3 hP hD hS hl hw
  refine lv_iload hx hb (dt_of tkX11_lastsIn_k85 15 rfl) (lv_at hl 6 rfl) ?_
  refine lv_if_ge (tgt := 118) hx hb (dt_of tkX11_lastsIn_k111 0 rfl) (by decide) (fun c15 => ?_) (fun c15 => ?_)
  · have hw := hw.1 c15
    refine lv_iload hx hb (dt_of tkX11_lastsIn_k111 3 rfl) (lv_at hl 6 rfl) ?_
    exact kb_X11_lastsIn_g_120 RS fr lo hRw dC dI cyB cyI cyJ cyP a0 jaT jaX jaF jaD ja7 jby jbf jaM jaY jap jaK jal jam jax jao ja6 jaV ja8 jae jag jaf ja0 jaP jaw jaI jaZ jaH jaS jan jaU jaE jar jaL jah jaB jaa jaz jaG jab z0_s jaq jai jaO jaA jat jau jav jaj jas jaJ jak jad jay jac jaC jb0 Q K22 hK22 C0 _ _ _ l1 l2 l3 l4 l6 s0 s2 s3 l8 hP hD hS (lv_sub hl [0, 1, 2, 3, 4, 5] rfl) hw
  · have hw := hw.2 c15
    refine lv_iconst (v := 0) hx hb (dt_of tkX11_lastsIn_k111 1 rfl) (by decide) ?_
    refine lv_goto (tgt := 120) hx hb (dt_of tkX11_lastsIn_k111 2 rfl) (by decide) ?_
    exact kb_X11_lastsIn_g_120 RS fr lo hRw dC dI cyB cyI cyJ cyP a0 jaT jaX jaF jaD ja7 jby jbf jaM jaY jap jaK jal jam jax jao ja6 jaV ja8 jae jag jaf ja0 jaP jaw jaI jaZ jaH jaS jan jaU jaE jar jaL jah jaB jaa jaz jaG jab z0_s jaq jai jaO jaA jat jau jav jaj jas jaJ jak jad jay jac jaC jb0 Q K22 hK22 C0 _ _ _ l1 l2 l3 l4 l6 s0 s2 s3 0 hP hD hS (lv_sub hl [0, 1, 2, 3, 4, 5] rfl) hw
set_option maxHeartbeats 4000000 in
set_option maxRecDepth 100000 in
theorem kb_X11_lastsIn_g_83 (RS : Int32 → (Nat → Int32) → Int32 → Int32 → Int32 → Int32 → (Int32 → Prop) → Prop) (fr lo : Nat) (hRw : ∀ (l : Launch) (dC : Nat → ClassId) (dI : Nat → Nat → Nat) (cyB cyI cyJ cyP : ClassId) (a0 jaT sz : Nat) (jaX jaF jaD ja7 jby jbf jaM jaY jap jaK jal jam jax jao ja6 jaV ja8 jae jag jaf ja0 jaP jaw jaI jaZ jaH jaS jan jaU jaE jar jaL jah jaB jaa jaz jaG jab z0_s jaq jai jaO jaA jat jau jav jaj jas jaJ jak jad jay jac : Value) (jaC : Int32) (jb0 : Nat → Int32) (p1 p2 p3 p4 : Int32) {Q : Int32 → Prop} (hw : RS jaC jb0  p1 p2 p3 p4 Q), Met l yX11_lastsIn wsX11_lastsIn ({ frames := fr, cells := 0, slots := 0, locals := lo }) (va_Pc [.ref a0, .int p1, .int p2, .int p3, .int p4] (cPc (dC, dI) (kT cyB cyI cyJ cyP) (wd08_0 a0 jaX jaF jaD ja7 jby jbf jaM jaY jap jaK jal jam jax jao ja6 jaV ja8 jae jag jaf ja0 jaC jaP jaw jaI jaZ jaH jaS jan jaU jaE jar jaL jah jaB jaa jaz jaG jab jaT z0_s jaq jai jaO jaA jat jau jav jaj jas jaJ jak jad jay jac jaT cyI jb0) sz)) (va_Qi (fun (r : Int32) (_ : Unit) => Q r ) (cB (dC, dI) (kT cyB cyI cyJ cyP) (va_A (wd08_0 a0 jaX jaF jaD ja7 jby jbf jaM jaY jap jaK jal jam jax jao ja6 jaV ja8 jae jag jaf ja0 jaC jaP jaw jaI jaZ jaH jaS jan jaU jaE jar jaL jah jaB jaa jaz jaG jab jaT z0_s jaq jai jaO jaA jat jau jav jaj jas jaJ jak jad jay jac jaT cyI jb0) sz) (fun u : Unit => ((wd08_0 a0 jaX jaF jaD ja7 jby jbf jaM jaY jap jaK jal jam jax jao ja6 jaV ja8 jae jag jaf ja0 jaC jaP jaw jaI jaZ jaH jaS jan jaU jaE jar jaL jah jaB jaa jaz jaG jab jaT z0_s jaq jai jaO jaA jat jau jav jaj jas jaJ jak jad jay jac jaT cyI jb0) : va_W))) (va_A (wd08_0 a0 jaX jaF jaD ja7 jby jbf jaM jaY jap jaK jal jam jax jao ja6 jaV ja8 jae jag jaf ja0 jaC jaP jaw jaI jaZ jaH jaS jan jaU jaE jar jaL jah jaB jaa jaz jaG jab jaT z0_s jaq jai jaO jaA jat jau jav jaj jas jaJ jak jad jay jac jaT cyI jb0) sz)) 0 0 (va_A (wd08_0 a0 jaX jaF jaD ja7 jby jbf jaM jaY jap jaK jal jam jax jao ja6 jaV ja8 jae jag jaf ja0 jaC jaP jaw jaI jaZ jaH jaS jan jaU jaE jar jaL jah jaB jaa jaz jaG jab jaT z0_s jaq jai jaO jaA jat jau jav jaj jas jaJ jak jad jay jac jaT cyI jb0) sz)) {p : Program} {l : Launch} {e : Env} {s : State} {m : MethodId} {args : Array Value} {below : List Frame} {meth : Method} {c : Code} {A : Nat → Prop} (dC : Nat → ClassId) (dI : Nat → Nat → Nat) (cyB cyI cyJ cyP : ClassId) (a0 jaT : Nat) (jaX jaF jaD ja7 jby jbf jaM jaY jap jaK jal jam jax jao ja6 jaV ja8 jae jag jaf ja0 jaP jaw jaI jaZ jaH jaS jan jaU jaE jar jaL jah jaB jaa jaz jaG jab z0_s jaq jai jaO jaA jat jau jav jaj jas jaJ jak jad jay jac : Value) (jaC : Int32) (jb0 : Nat → Int32) (Q : Int32 → Prop) (K22 : Int32 → Int32 → Int32 → Int32 → Int32 → Int32 → Prop) (hK22 : ∀ (H : Heap) (locs : List Loc) (ls : Array Slot) (l1 l2 l3 l4 l5 l6 : Int32), va_P (dC, dI) vwCl (wd08_0 a0 jaX jaF jaD ja7 jby jbf jaM jaY jap jaK jal jam jax jao ja6 jaV ja8 jae jag jaf ja0 jaC jaP jaw jaI jaZ jaH jaS jan jaU jaE jar jaL jah jaB jaa jaz jaG jab jaT z0_s jaq jai jaO jaA jat jau jav jaj jas jaJ jak jad jay jac jaT cyI jb0) H → va_D A (wd08_0 a0 jaX jaF jaD ja7 jby jbf jaM jaY jap jaK jal jam jax jao ja6 jaV ja8 jae jag jaf ja0 jaC jaP jaw jaI jaZ jaH jaS jan jaU jaE jar jaL jah jaB jaa jaz jaG jab jaT z0_s jaq jai jaO jaA jat jau jav jaj jas jaJ jak jad jay jac jaT cyI jb0) → va_S A s.heap H locs → lv_has ls 9 [(0, .ref a0), (1, .int l1), (2, .int l2), (3, .int l3), (4, .int l4), (5, .int l5), (6, .int l6)] → K22 l1 l2 l3 l4 l5 l6 → W p l e (headSpec wsX11_lastsIn ({ frames := fr + 1, cells := 0, slots := 0, locals := lo + 28 })).room s m args below meth c H locs 0 0 (MQ below (va_Qi (fun (r : Int32) (_ : Unit) => Q r ) (cB (dC, dI) (kT cyB cyI cyJ cyP) A (fun u : Unit => ((wd08_0 a0 jaX jaF jaD ja7 jby jbf jaM jaY jap jaK jal jam jax jao ja6 jaV ja8 jae jag jaf ja0 jaC jaP jaw jaI jaZ jaH jaS jan jaU jaE jar jaL jah jaB jaa jaz jaG jab jaT z0_s jaq jai jaO jaA jat jau jav jaj jas jaJ jak jad jay jac jaT cyI jb0) : va_W))) A) args s 0 0 A) (F0 m 22 ls [])) (C0 : cfx p s m args meth c cX11_lastsIn (some .int) wsX11_lastsIn RX11 9 A (dC, dI) (kT cyB cyI cyJ cyP)) : ∀ (H : Heap) (locs : List Loc) (ls : Array Slot) (l1 l2 l3 l4 l5 l6 l7 s0 : Int32), va_P (dC, dI) vwCl (wd08_0 a0 jaX jaF jaD ja7 jby jbf jaM jaY jap jaK jal jam jax jao ja6 jaV ja8 jae jag jaf ja0 jaC jaP jaw jaI jaZ jaH jaS jan jaU jaE jar jaL jah jaB jaa jaz jaG jab jaT z0_s jaq jai jaO jaA jat jau jav jaj jas jaJ jak jad jay jac jaT cyI jb0) H → va_D A (wd08_0 a0 jaX jaF jaD ja7 jby jbf jaM jaY jap jaK jal jam jax jao ja6 jaV ja8 jae jag jaf ja0 jaC jaP jaw jaI jaZ jaH jaS jan jaU jaE jar jaL jah jaB jaa jaz jaG jab jaT z0_s jaq jai jaO jaA jat jau jav jaj jas jaJ jak jad jay jac jaT cyI jb0) → va_S A s.heap H locs → lv_has ls 9 [(0, .ref a0), (1, .int l1), (2, .int l2), (3, .int l3), (4, .int l4), (5, .int l5), (6, .int l6), (7, .int l7)] → wb_X11_lastsIn_g_83 RS jaC jb0 Q K22 l1 l2 l3 l4 l5 l6 l7 s0 → W p l e (headSpec wsX11_lastsIn ({ frames := fr + 1, cells := 0, slots := 0, locals := lo + 28 })).room s m args below meth c H locs 0 0 (MQ below (va_Qi (fun (r : Int32) (_ : Unit) => Q r ) (cB (dC, dI) (kT cyB cyI cyJ cyP) A (fun u : Unit => ((wd08_0 a0 jaX jaF jaD ja7 jby jbf jaM jaY jap jaK jal jam jax jao ja6 jaV ja8 jae jag jaf ja0 jaC jaP jaw jaI jaZ jaH jaS jan jaU jaE jar jaL jah jaB jaa jaz jaG jab jaT z0_s jaq jai jaO jaA jat jau jav jaj jas jaJ jak jad jay jac jaT cyI jb0) : va_W))) A) args s 0 0 A) (F0 m 83 ls [.int s0]) := by
  obtain ⟨hx, hb, hr, hts, hown, hlocks, hml, hA, hK, hNw⟩ := id C0
  intro H locs ls l1 l2 l3 l4 l5 l6 l7 s0 hP hD hS hl hw
  refine lv_iconst (v := 1) hx hb (dt_of tkX11_lastsIn_k57 14 rfl) (by decide) ?_
  refine lv_isub hx hb (dt_of tkX11_lastsIn_k57 15 rfl) ?_
  refine lv_topi (fun x12 ex12 => ?_)
  have hw := hw x12 ex12
  refine lv_istore (lv' := [(8, .int x12), (0, .ref a0), (1, .int l1), (2, .int l2), (3, .int l3), (4, .int l4), (5, .int l5), (6, .int l6), (7, .int l7)]) hx hb (dt_of tkX11_lastsIn_k85 0 rfl) hl (by decide) rfl (fun ls hl => ?_)
  refine lv_iload hx hb (dt_of tkX11_lastsIn_k85 1 rfl) (lv_at hl 6 rfl) ?_
  refine lv_aload_n hx hb (dt_of tkX11_lastsIn_k85 2 rfl) rfl (lv_at hl 1 rfl) ?_
  refine lv_iload_n hx hb (dt_of tkX11_lastsIn_k85 3 rfl) rfl (lv_at hl 2 rfl) ?_
  refine lv_iconst (v := 1) hx hb (dt_of tkX11_lastsIn_k85 4 rfl) (by decide) ?_
  refine lv_iload hx hb (dt_of tkX11_lastsIn_k85 5 rfl) (lv_at hl 7 rfl) ?_
  refine lv_ishl hx hb (dt_of tkX11_lastsIn_k85 6 rfl) ?_
  refine lv_iconst (v := (-1)) hx hb (dt_of tkX11_lastsIn_k85 7 rfl) (by decide) ?_
  refine lv_ixor hx hb (dt_of tkX11_lastsIn_k85 8 rfl) ?_
  refine lv_iand hx hb (dt_of tkX11_lastsIn_k85 9 rfl) ?_
  refine lv_topi (fun x13 ex13 => ?_)
  have hw := hw x13 ex13
  refine lv_iload hx hb (dt_of tkX11_lastsIn_k85 10 rfl) (lv_at hl 8 rfl) ?_
  refine lv_if_eq (tgt := 107) hx hb (dt_of tkX11_lastsIn_k85 11 rfl) (by decide) (fun c14 => ?_) (fun c14 => ?_)
  · have hw := hw.1 c14
    refine lv_iload hx hb (dt_of tkX11_lastsIn_k85 14 rfl) (lv_at hl 7 rfl) ?_
    exact kb_X11_lastsIn_g_109 RS fr lo hRw dC dI cyB cyI cyJ cyP a0 jaT jaX jaF jaD ja7 jby jbf jaM jaY jap jaK jal jam jax jao ja6 jaV ja8 jae jag jaf ja0 jaP jaw jaI jaZ jaH jaS jan jaU jaE jar jaL jah jaB jaa jaz jaG jab z0_s jaq jai jaO jaA jat jau jav jaj jas jaJ jak jad jay jac jaC jb0 Q K22 hK22 C0 _ _ _ l1 l2 l3 l4 l6 x12 l5 x13 l6 hP hD hS (lv_sub hl [1, 2, 3, 4, 5, 7, 0] rfl) hw
  · have hw := hw.2 c14
    refine lv_iload_n hx hb (dt_of tkX11_lastsIn_k85 12 rfl) rfl (lv_at hl 3 rfl) ?_
    refine lv_goto (tgt := 109) hx hb (dt_of tkX11_lastsIn_k85 13 rfl) (by decide) ?_
    exact kb_X11_lastsIn_g_109 RS fr lo hRw dC dI cyB cyI cyJ cyP a0 jaT jaX jaF jaD ja7 jby jbf jaM jaY jap jaK jal jam jax jao ja6 jaV ja8 jae jag jaf ja0 jaP jaw jaI jaZ jaH jaS jan jaU jaE jar jaL jah jaB jaa jaz jaG jab z0_s jaq jai jaO jaA jat jau jav jaj jas jaJ jak jad jay jac jaC jb0 Q K22 hK22 C0 _ _ _ l1 l2 l3 l4 l6 x12 l5 x13 l2 hP hD hS (lv_sub hl [1, 2, 3, 4, 5, 7, 0] rfl) hw
set_option maxHeartbeats 4000000 in
set_option maxRecDepth 100000 in
theorem kb_X11_lastsIn_g_62 (RS : Int32 → (Nat → Int32) → Int32 → Int32 → Int32 → Int32 → (Int32 → Prop) → Prop) (fr lo : Nat) (hRw : ∀ (l : Launch) (dC : Nat → ClassId) (dI : Nat → Nat → Nat) (cyB cyI cyJ cyP : ClassId) (a0 jaT sz : Nat) (jaX jaF jaD ja7 jby jbf jaM jaY jap jaK jal jam jax jao ja6 jaV ja8 jae jag jaf ja0 jaP jaw jaI jaZ jaH jaS jan jaU jaE jar jaL jah jaB jaa jaz jaG jab z0_s jaq jai jaO jaA jat jau jav jaj jas jaJ jak jad jay jac : Value) (jaC : Int32) (jb0 : Nat → Int32) (p1 p2 p3 p4 : Int32) {Q : Int32 → Prop} (hw : RS jaC jb0  p1 p2 p3 p4 Q), Met l yX11_lastsIn wsX11_lastsIn ({ frames := fr, cells := 0, slots := 0, locals := lo }) (va_Pc [.ref a0, .int p1, .int p2, .int p3, .int p4] (cPc (dC, dI) (kT cyB cyI cyJ cyP) (wd08_0 a0 jaX jaF jaD ja7 jby jbf jaM jaY jap jaK jal jam jax jao ja6 jaV ja8 jae jag jaf ja0 jaC jaP jaw jaI jaZ jaH jaS jan jaU jaE jar jaL jah jaB jaa jaz jaG jab jaT z0_s jaq jai jaO jaA jat jau jav jaj jas jaJ jak jad jay jac jaT cyI jb0) sz)) (va_Qi (fun (r : Int32) (_ : Unit) => Q r ) (cB (dC, dI) (kT cyB cyI cyJ cyP) (va_A (wd08_0 a0 jaX jaF jaD ja7 jby jbf jaM jaY jap jaK jal jam jax jao ja6 jaV ja8 jae jag jaf ja0 jaC jaP jaw jaI jaZ jaH jaS jan jaU jaE jar jaL jah jaB jaa jaz jaG jab jaT z0_s jaq jai jaO jaA jat jau jav jaj jas jaJ jak jad jay jac jaT cyI jb0) sz) (fun u : Unit => ((wd08_0 a0 jaX jaF jaD ja7 jby jbf jaM jaY jap jaK jal jam jax jao ja6 jaV ja8 jae jag jaf ja0 jaC jaP jaw jaI jaZ jaH jaS jan jaU jaE jar jaL jah jaB jaa jaz jaG jab jaT z0_s jaq jai jaO jaA jat jau jav jaj jas jaJ jak jad jay jac jaT cyI jb0) : va_W))) (va_A (wd08_0 a0 jaX jaF jaD ja7 jby jbf jaM jaY jap jaK jal jam jax jao ja6 jaV ja8 jae jag jaf ja0 jaC jaP jaw jaI jaZ jaH jaS jan jaU jaE jar jaL jah jaB jaa jaz jaG jab jaT z0_s jaq jai jaO jaA jat jau jav jaj jas jaJ jak jad jay jac jaT cyI jb0) sz)) 0 0 (va_A (wd08_0 a0 jaX jaF jaD ja7 jby jbf jaM jaY jap jaK jal jam jax jao ja6 jaV ja8 jae jag jaf ja0 jaC jaP jaw jaI jaZ jaH jaS jan jaU jaE jar jaL jah jaB jaa jaz jaG jab jaT z0_s jaq jai jaO jaA jat jau jav jaj jas jaJ jak jad jay jac jaT cyI jb0) sz)) {p : Program} {l : Launch} {e : Env} {s : State} {m : MethodId} {args : Array Value} {below : List Frame} {meth : Method} {c : Code} {A : Nat → Prop} (dC : Nat → ClassId) (dI : Nat → Nat → Nat) (cyB cyI cyJ cyP : ClassId) (a0 jaT : Nat) (jaX jaF jaD ja7 jby jbf jaM jaY jap jaK jal jam jax jao ja6 jaV ja8 jae jag jaf ja0 jaP jaw jaI jaZ jaH jaS jan jaU jaE jar jaL jah jaB jaa jaz jaG jab z0_s jaq jai jaO jaA jat jau jav jaj jas jaJ jak jad jay jac : Value) (jaC : Int32) (jb0 : Nat → Int32) (Q : Int32 → Prop) (K22 : Int32 → Int32 → Int32 → Int32 → Int32 → Int32 → Prop) (hK22 : ∀ (H : Heap) (locs : List Loc) (ls : Array Slot) (l1 l2 l3 l4 l5 l6 : Int32), va_P (dC, dI) vwCl (wd08_0 a0 jaX jaF jaD ja7 jby jbf jaM jaY jap jaK jal jam jax jao ja6 jaV ja8 jae jag jaf ja0 jaC jaP jaw jaI jaZ jaH jaS jan jaU jaE jar jaL jah jaB jaa jaz jaG jab jaT z0_s jaq jai jaO jaA jat jau jav jaj jas jaJ jak jad jay jac jaT cyI jb0) H → va_D A (wd08_0 a0 jaX jaF jaD ja7 jby jbf jaM jaY jap jaK jal jam jax jao ja6 jaV ja8 jae jag jaf ja0 jaC jaP jaw jaI jaZ jaH jaS jan jaU jaE jar jaL jah jaB jaa jaz jaG jab jaT z0_s jaq jai jaO jaA jat jau jav jaj jas jaJ jak jad jay jac jaT cyI jb0) → va_S A s.heap H locs → lv_has ls 9 [(0, .ref a0), (1, .int l1), (2, .int l2), (3, .int l3), (4, .int l4), (5, .int l5), (6, .int l6)] → K22 l1 l2 l3 l4 l5 l6 → W p l e (headSpec wsX11_lastsIn ({ frames := fr + 1, cells := 0, slots := 0, locals := lo + 28 })).room s m args below meth c H locs 0 0 (MQ below (va_Qi (fun (r : Int32) (_ : Unit) => Q r ) (cB (dC, dI) (kT cyB cyI cyJ cyP) A (fun u : Unit => ((wd08_0 a0 jaX jaF jaD ja7 jby jbf jaM jaY jap jaK jal jam jax jao ja6 jaV ja8 jae jag jaf ja0 jaC jaP jaw jaI jaZ jaH jaS jan jaU jaE jar jaL jah jaB jaa jaz jaG jab jaT z0_s jaq jai jaO jaA jat jau jav jaj jas jaJ jak jad jay jac jaT cyI jb0) : va_W))) A) args s 0 0 A) (F0 m 22 ls [])) (C0 : cfx p s m args meth c cX11_lastsIn (some .int) wsX11_lastsIn RX11 9 A (dC, dI) (kT cyB cyI cyJ cyP)) : ∀ (H : Heap) (locs : List Loc) (ls : Array Slot) (l1 l2 l3 l4 l5 l6 s0 : Int32), va_P (dC, dI) vwCl (wd08_0 a0 jaX jaF jaD ja7 jby jbf jaM jaY jap jaK jal jam jax jao ja6 jaV ja8 jae jag jaf ja0 jaC jaP jaw jaI jaZ jaH jaS jan jaU jaE jar jaL jah jaB jaa jaz jaG jab jaT z0_s jaq jai jaO jaA jat jau jav jaj jas jaJ jak jad jay jac jaT cyI jb0) H → va_D A (wd08_0 a0 jaX jaF jaD ja7 jby jbf jaM jaY jap jaK jal jam jax jao ja6 jaV ja8 jae jag jaf ja0 jaC jaP jaw jaI jaZ jaH jaS jan jaU jaE jar jaL jah jaB jaa jaz jaG jab jaT z0_s jaq jai jaO jaA jat jau jav jaj jas jaJ jak jad jay jac jaT cyI jb0) → va_S A s.heap H locs → lv_has ls 9 [(0, .ref a0), (1, .int l1), (2, .int l2), (3, .int l3), (4, .int l4), (5, .int l5), (6, .int l6)] → wb_X11_lastsIn_g_62 RS jaC jb0 Q K22 l1 l2 l3 l4 l5 l6 s0 → W p l e (headSpec wsX11_lastsIn ({ frames := fr + 1, cells := 0, slots := 0, locals := lo + 28 })).room s m args below meth c H locs 0 0 (MQ below (va_Qi (fun (r : Int32) (_ : Unit) => Q r ) (cB (dC, dI) (kT cyB cyI cyJ cyP) A (fun u : Unit => ((wd08_0 a0 jaX jaF jaD ja7 jby jbf jaM jaY jap jaK jal jam jax jao ja6 jaV ja8 jae jag jaf ja0 jaC jaP jaw jaI jaZ jaH jaS jan jaU jaE jar jaL jah jaB jaa jaz jaG jab jaT z0_s jaq jai jaO jaA jat jau jav jaj jas jaJ jak jad jay jac jaT cyI jb0) : va_W))) A) args s 0 0 A) (F0 m 62 ls [.int s0]) := by
  obtain ⟨hx, hb, hr, hts, hown, hlocks, hml, hA, hK, hNw⟩ := id C0
  intro H locs ls l1 l2 l3 l4 l5 l6 s0 hP hD hS hl hw
  refine lv_istore (lv' := [(7, .int s0), (0, .ref a0), (1, .int l1), (2, .int l2), (3, .int l3), (4, .int l4), (5, .int l5), (6, .int l6)]) hx hb (dt_of tkX11_lastsIn_k57 3 rfl) hl (by decide) rfl (fun ls hl => ?_)
  refine lv_iload hx hb (dt_of tkX11_lastsIn_k57 4 rfl) (lv_at hl 0 rfl) ?_
  refine lv_if_eq (tgt := 73) hx hb (dt_of tkX11_lastsIn_k57 5 rfl) (by decide) (fun c8 => ?_) (fun c8 => ?_)
  · have hw := hw.1 c8
    refine lv_aload_n hx hb (dt_of tkX11_lastsIn_k57 8 rfl) rfl (lv_at hl 1 rfl) ?_
    refine va_get (D := (dC, dI)) (ci := 11) (v := .ref jaT) (C := RX11) (T := TX11) (N := 55) hx hb hts ui_X11_lastsIn_r2_X11 hown hK hP 0 rfl rfl 39 (by decide) (hts _ uw_X11_lastsIn_r2_f68) (fun _ h9 => h9) rfl (dt_of tkX11_lastsIn_k57 9 rfl) ?_
    refine lv_bipush (v := 6) hx hb (dt_of tkX11_lastsIn_k57 10 rfl) (by decide) ?_
    refine lv_iload hx hb (dt_of tkX11_lastsIn_k57 11 rfl) (lv_at hl 7 rfl) ?_
    refine lv_iadd hx hb (dt_of tkX11_lastsIn_k57 12 rfl) ?_
    refine lv_topi (fun x9 ex9 => ?_)
    have hw := hw x9 ex9
    obtain ⟨hi9, hw⟩ := hw
    refine va_iald hx hb hK hP 1 1 rfl rfl hi9 (dt_of tkX11_lastsIn_k57 13 rfl) ?_
    refine lv_topi (fun x10 ex10 => ?_)
    have hw := hw x10 ex10
    exact kb_X11_lastsIn_g_83 RS fr lo hRw dC dI cyB cyI cyJ cyP a0 jaT jaX jaF jaD ja7 jby jbf jaM jaY jap jaK jal jam jax jao ja6 jaV ja8 jae jag jaf ja0 jaP jaw jaI jaZ jaH jaS jan jaU jaE jar jaL jah jaB jaa jaz jaG jab z0_s jaq jai jaO jaA jat jau jav jaj jas jaJ jak jad jay jac jaC jb0 Q K22 hK22 C0 _ _ _ l1 l2 l3 l4 l5 l6 s0 x10 hP hD hS (lv_sub hl [1, 2, 3, 4, 5, 6, 7, 0] rfl) hw
  · have hw := hw.2 c8
    refine lv_iload_n hx hb (dt_of tkX11_lastsIn_k57 6 rfl) rfl (lv_at hl 4 rfl) ?_
    refine lv_goto (tgt := 83) hx hb (dt_of tkX11_lastsIn_k57 7 rfl) (by decide) ?_
    exact kb_X11_lastsIn_g_83 RS fr lo hRw dC dI cyB cyI cyJ cyP a0 jaT jaX jaF jaD ja7 jby jbf jaM jaY jap jaK jal jam jax jao ja6 jaV ja8 jae jag jaf ja0 jaP jaw jaI jaZ jaH jaS jan jaU jaE jar jaL jah jaB jaa jaz jaG jab z0_s jaq jai jaO jaA jat jau jav jaj jas jaJ jak jad jay jac jaC jb0 Q K22 hK22 C0 _ _ _ l1 l2 l3 l4 l5 l6 s0 l3 hP hD hS (lv_sub hl [1, 2, 3, 4, 5, 6, 7, 0] rfl) hw
set_option maxHeartbeats 4000000 in
set_option maxRecDepth 100000 in
theorem kl_X11_lastsIn_g_22 (RS : Int32 → (Nat → Int32) → Int32 → Int32 → Int32 → Int32 → (Int32 → Prop) → Prop) (fr lo : Nat) (hRw : ∀ (l : Launch) (dC : Nat → ClassId) (dI : Nat → Nat → Nat) (cyB cyI cyJ cyP : ClassId) (a0 jaT sz : Nat) (jaX jaF jaD ja7 jby jbf jaM jaY jap jaK jal jam jax jao ja6 jaV ja8 jae jag jaf ja0 jaP jaw jaI jaZ jaH jaS jan jaU jaE jar jaL jah jaB jaa jaz jaG jab z0_s jaq jai jaO jaA jat jau jav jaj jas jaJ jak jad jay jac : Value) (jaC : Int32) (jb0 : Nat → Int32) (p1 p2 p3 p4 : Int32) {Q : Int32 → Prop} (hw : RS jaC jb0  p1 p2 p3 p4 Q), Met l yX11_lastsIn wsX11_lastsIn ({ frames := fr, cells := 0, slots := 0, locals := lo }) (va_Pc [.ref a0, .int p1, .int p2, .int p3, .int p4] (cPc (dC, dI) (kT cyB cyI cyJ cyP) (wd08_0 a0 jaX jaF jaD ja7 jby jbf jaM jaY jap jaK jal jam jax jao ja6 jaV ja8 jae jag jaf ja0 jaC jaP jaw jaI jaZ jaH jaS jan jaU jaE jar jaL jah jaB jaa jaz jaG jab jaT z0_s jaq jai jaO jaA jat jau jav jaj jas jaJ jak jad jay jac jaT cyI jb0) sz)) (va_Qi (fun (r : Int32) (_ : Unit) => Q r ) (cB (dC, dI) (kT cyB cyI cyJ cyP) (va_A (wd08_0 a0 jaX jaF jaD ja7 jby jbf jaM jaY jap jaK jal jam jax jao ja6 jaV ja8 jae jag jaf ja0 jaC jaP jaw jaI jaZ jaH jaS jan jaU jaE jar jaL jah jaB jaa jaz jaG jab jaT z0_s jaq jai jaO jaA jat jau jav jaj jas jaJ jak jad jay jac jaT cyI jb0) sz) (fun u : Unit => ((wd08_0 a0 jaX jaF jaD ja7 jby jbf jaM jaY jap jaK jal jam jax jao ja6 jaV ja8 jae jag jaf ja0 jaC jaP jaw jaI jaZ jaH jaS jan jaU jaE jar jaL jah jaB jaa jaz jaG jab jaT z0_s jaq jai jaO jaA jat jau jav jaj jas jaJ jak jad jay jac jaT cyI jb0) : va_W))) (va_A (wd08_0 a0 jaX jaF jaD ja7 jby jbf jaM jaY jap jaK jal jam jax jao ja6 jaV ja8 jae jag jaf ja0 jaC jaP jaw jaI jaZ jaH jaS jan jaU jaE jar jaL jah jaB jaa jaz jaG jab jaT z0_s jaq jai jaO jaA jat jau jav jaj jas jaJ jak jad jay jac jaT cyI jb0) sz)) 0 0 (va_A (wd08_0 a0 jaX jaF jaD ja7 jby jbf jaM jaY jap jaK jal jam jax jao ja6 jaV ja8 jae jag jaf ja0 jaC jaP jaw jaI jaZ jaH jaS jan jaU jaE jar jaL jah jaB jaa jaz jaG jab jaT z0_s jaq jai jaO jaA jat jau jav jaj jas jaJ jak jad jay jac jaT cyI jb0) sz)) {p : Program} {l : Launch} {e : Env} {s : State} {m : MethodId} {args : Array Value} {below : List Frame} {meth : Method} {c : Code} {A : Nat → Prop} (dC : Nat → ClassId) (dI : Nat → Nat → Nat) (cyB cyI cyJ cyP : ClassId) (a0 jaT : Nat) (jaX jaF jaD ja7 jby jbf jaM jaY jap jaK jal jam jax jao ja6 jaV ja8 jae jag jaf ja0 jaP jaw jaI jaZ jaH jaS jan jaU jaE jar jaL jah jaB jaa jaz jaG jab z0_s jaq jai jaO jaA jat jau jav jaj jas jaJ jak jad jay jac : Value) (jaC : Int32) (jb0 : Nat → Int32) (Q : Int32 → Prop)  (C0 : cfx p s m args meth c cX11_lastsIn (some .int) wsX11_lastsIn RX11 9 A (dC, dI) (kT cyB cyI cyJ cyP)) : ∀ (n : Nat) (H : Heap) (locs : List Loc) (ls : Array Slot) (l1 l2 l3 l4 l5 l6 : Int32), va_P (dC, dI) vwCl (wd08_0 a0 jaX jaF jaD ja7 jby jbf jaM jaY jap jaK jal jam jax jao ja6 jaV ja8 jae jag jaf ja0 jaC jaP jaw jaI jaZ jaH jaS jan jaU jaE jar jaL jah jaB jaa jaz jaG jab jaT z0_s jaq jai jaO jaA jat jau jav jaj jas jaJ jak jad jay jac jaT cyI jb0) H → va_D A (wd08_0 a0 jaX jaF jaD ja7 jby jbf jaM jaY jap jaK jal jam jax jao ja6 jaV ja8 jae jag jaf ja0 jaC jaP jaw jaI jaZ jaH jaS jan jaU jaE jar jaL jah jaB jaa jaz jaG jab jaT z0_s jaq jai jaO jaA jat jau jav jaj jas jaJ jak jad jay jac jaT cyI jb0) → va_S A s.heap H locs → lv_has ls 9 [(0, .ref a0), (1, .int l1), (2, .int l2), (3, .int l3), (4, .int l4), (5, .int l5), (6, .int l6)] → wl_X11_lastsIn_g_22 RS jaC jb0 Q  n l1 l2 l3 l4 l5 l6 → W p l e (headSpec wsX11_lastsIn ({ frames := fr + 1, cells := 0, slots := 0, locals := lo + 28 })).room s m args below meth c H locs 0 0 (MQ below (va_Qi (fun (r : Int32) (_ : Unit) => Q r ) (cB (dC, dI) (kT cyB cyI cyJ cyP) A (fun u : Unit => ((wd08_0 a0 jaX jaF jaD ja7 jby jbf jaM jaY jap jaK jal jam jax jao ja6 jaV ja8 jae jag jaf ja0 jaC jaP jaw jaI jaZ jaH jaS jan jaU jaE jar jaL jah jaB jaa jaz jaG jab jaT z0_s jaq jai jaO jaA jat jau jav jaj jas jaJ jak jad jay jac jaT cyI jb0) : va_W))) A) args s 0 0 A) (F0 m 22 ls []) := by
  obtain ⟨hx, hb, hr, hts, hown, hlocks, hml, hA, hK, hNw⟩ := id C0
  intro n
  induction n with
  | zero => intro H locs ls l1 l2 l3 l4 l5 l6 hP hD hS hl hw; exact False.elim hw
  | succ n ih =>
    intro H locs ls l1 l2 l3 l4 l5 l6 hP hD hS hl hw
    refine lv_iload hx hb (dt_of tkX11_lastsIn_k0 13 rfl) (lv_at hl 6 rfl) ?_
    refine lv_aload_n hx hb (dt_of tkX11_lastsIn_k0 14 rfl) rfl (lv_at hl 0 rfl) ?_
    refine va_get (D := (dC, dI)) (ci := 11) (v := .int jaC) (C := RX11) (T := TX11) (N := 55) hx hb hts ui_X11_lastsIn_r2_X11 hown hK hP 0 rfl rfl 21 (by decide) (hts _ uw_X11_lastsIn_r2_f169) (fun _ h9 => h9) rfl (dt_of tkX11_lastsIn_k0 15 rfl) ?_
    refine lv_icmp_ge (tgt := 134) hx hb (dt_of tkX11_lastsIn_k28 0 rfl) (by decide) (fun c3 => ?_) (fun c3 => ?_)
    · have hw := hw.1 c3
      refine lv_iload hx hb (dt_of tkX11_lastsIn_k111 10 rfl) (lv_at hl 5 rfl) ?_
      exact ((W.iret (v := l5) hx hb hr (fun t ht hW => ⟨⟨l5, (), rfl, hw, by rw [ht]; exact hP, va_K.moved hW.alike hK, hD⟩, hS.F ht⟩) hS.2.2 (dt_of tkX11_lastsIn_k111 11 rfl)))
    · have hw := hw.2 c3
      refine lv_iload_n hx hb (dt_of tkX11_lastsIn_k28 1 rfl) rfl (lv_at hl 1 rfl) ?_
      refine lv_iload hx hb (dt_of tkX11_lastsIn_k28 2 rfl) (lv_at hl 6 rfl) ?_
      refine lv_ishr hx hb (dt_of tkX11_lastsIn_k28 3 rfl) ?_
      refine lv_iconst (v := 1) hx hb (dt_of tkX11_lastsIn_k28 4 rfl) (by decide) ?_
      refine lv_iand hx hb (dt_of tkX11_lastsIn_k28 5 rfl) ?_
      refine lv_if_ne (tgt := 43) hx hb (dt_of tkX11_lastsIn_k28 6 rfl) (by decide) (fun c4 => ?_) (fun c4 => ?_)
      · have hw := hw.1 c4
        refine lv_iload_n hx hb (dt_of tkX11_lastsIn_k28 8 rfl) rfl (lv_at hl 3 rfl) ?_
        refine lv_aload_n hx hb (dt_of tkX11_lastsIn_k28 9 rfl) rfl (lv_at hl 0 rfl) ?_
        refine va_get (D := (dC, dI)) (ci := 11) (v := .ref jaT) (C := RX11) (T := TX11) (N := 55) hx hb hts ui_X11_lastsIn_r2_X11 hown hK hP 0 rfl rfl 39 (by decide) (hts _ uw_X11_lastsIn_r2_f68) (fun _ h9 => h9) rfl (dt_of tkX11_lastsIn_k28 10 rfl) ?_
        refine lv_bipush (v := 6) hx hb (dt_of tkX11_lastsIn_k28 11 rfl) (by decide) ?_
        refine lv_iload hx hb (dt_of tkX11_lastsIn_k28 12 rfl) (lv_at hl 6 rfl) ?_
        refine lv_iadd hx hb (dt_of tkX11_lastsIn_k28 13 rfl) ?_
        refine lv_topi (fun x5 ex5 => ?_)
        have hw := hw x5 ex5
        obtain ⟨hi9, hw⟩ := hw
        refine va_iald hx hb hK hP 1 1 rfl rfl hi9 (dt_of tkX11_lastsIn_k28 14 rfl) ?_
        refine lv_topi (fun x6 ex6 => ?_)
        have hw := hw x6 ex6
        refine lv_icmp_lt (tgt := 61) hx hb (dt_of tkX11_lastsIn_k28 15 rfl) (by decide) (fun c7 => ?_) (fun c7 => ?_)
        · have hw := hw.1 c7
          refine lv_iconst (v := 0) hx hb (dt_of tkX11_lastsIn_k57 2 rfl) (by decide) ?_
          exact kb_X11_lastsIn_g_62 RS fr lo hRw dC dI cyB cyI cyJ cyP a0 jaT jaX jaF jaD ja7 jby jbf jaM jaY jap jaK jal jam jax jao ja6 jaV ja8 jae jag jaf ja0 jaP jaw jaI jaZ jaH jaS jan jaU jaE jar jaL jah jaB jaa jaz jaG jab z0_s jaq jai jaO jaA jat jau jav jaj jas jaJ jak jad jay jac jaC jb0 Q (wl_X11_lastsIn_g_22 RS jaC jb0 Q  n) ih C0 _ _ _ l1 l2 l3 l4 l5 l6 0 hP hD hS (lv_sub hl [0, 1, 2, 3, 4, 5, 6] rfl) hw
        · have hw := hw.2 c7
          refine lv_iconst (v := 1) hx hb (dt_of tkX11_lastsIn_k57 0 rfl) (by decide) ?_
          refine lv_goto (tgt := 62) hx hb (dt_of tkX11_lastsIn_k57 1 rfl) (by decide) ?_
          exact kb_X11_lastsIn_g_62 RS fr lo hRw dC dI cyB cyI cyJ cyP a0 jaT jaX jaF jaD ja7 jby jbf jaM jaY jap jaK jal jam jax jao ja6 jaV ja8 jae jag jaf ja0 jaP jaw jaI jaZ jaH jaS jan jaU jaE jar jaL jah jaB jaa jaz jaG jab z0_s jaq jai jaO jaA jat jau jav jaj jas jaJ jak jad jay jac jaC jb0 Q (wl_X11_lastsIn_g_22 RS jaC jb0 Q  n) ih C0 _ _ _ l1 l2 l3 l4 l5 l6 1 hP hD hS (lv_sub hl [0, 1, 2, 3, 4, 5, 6] rfl) hw
      · have hw := hw.2 c4
        refine lv_goto (tgt := 128) hx hb (dt_of tkX11_lastsIn_k28 7 rfl) (by decide) ?_
        exact kb_X11_lastsIn_g_128 RS fr lo hRw dC dI cyB cyI cyJ cyP a0 jaT jaX jaF jaD ja7 jby jbf jaM jaY jap jaK jal jam jax jao ja6 jaV ja8 jae jag jaf ja0 jaP jaw jaI jaZ jaH jaS jan jaU jaE jar jaL jah jaB jaa jaz jaG jab z0_s jaq jai jaO jaA jat jau jav jaj jas jaJ jak jad jay jac jaC jb0 Q (wl_X11_lastsIn_g_22 RS jaC jb0 Q  n) ih C0 _ _ _ l1 l2 l3 l4 l5 l6 hP hD hS (lv_sub hl [0, 1, 2, 3, 4, 5, 6] rfl) hw
set_option maxHeartbeats 4000000 in
set_option maxRecDepth 100000 in
theorem ck_X11_lastsIn_g (RS : Int32 → (Nat → Int32) → Int32 → Int32 → Int32 → Int32 → (Int32 → Prop) → Prop) (fr lo : Nat) (hRw : ∀ (l : Launch) (dC : Nat → ClassId) (dI : Nat → Nat → Nat) (cyB cyI cyJ cyP : ClassId) (a0 jaT sz : Nat) (jaX jaF jaD ja7 jby jbf jaM jaY jap jaK jal jam jax jao ja6 jaV ja8 jae jag jaf ja0 jaP jaw jaI jaZ jaH jaS jan jaU jaE jar jaL jah jaB jaa jaz jaG jab z0_s jaq jai jaO jaA jat jau jav jaj jas jaJ jak jad jay jac : Value) (jaC : Int32) (jb0 : Nat → Int32) (p1 p2 p3 p4 : Int32) {Q : Int32 → Prop} (hw : RS jaC jb0  p1 p2 p3 p4 Q), Met l yX11_lastsIn wsX11_lastsIn ({ frames := fr, cells := 0, slots := 0, locals := lo }) (va_Pc [.ref a0, .int p1, .int p2, .int p3, .int p4] (cPc (dC, dI) (kT cyB cyI cyJ cyP) (wd08_0 a0 jaX jaF jaD ja7 jby jbf jaM jaY jap jaK jal jam jax jao ja6 jaV ja8 jae jag jaf ja0 jaC jaP jaw jaI jaZ jaH jaS jan jaU jaE jar jaL jah jaB jaa jaz jaG jab jaT z0_s jaq jai jaO jaA jat jau jav jaj jas jaJ jak jad jay jac jaT cyI jb0) sz)) (va_Qi (fun (r : Int32) (_ : Unit) => Q r ) (cB (dC, dI) (kT cyB cyI cyJ cyP) (va_A (wd08_0 a0 jaX jaF jaD ja7 jby jbf jaM jaY jap jaK jal jam jax jao ja6 jaV ja8 jae jag jaf ja0 jaC jaP jaw jaI jaZ jaH jaS jan jaU jaE jar jaL jah jaB jaa jaz jaG jab jaT z0_s jaq jai jaO jaA jat jau jav jaj jas jaJ jak jad jay jac jaT cyI jb0) sz) (fun u : Unit => ((wd08_0 a0 jaX jaF jaD ja7 jby jbf jaM jaY jap jaK jal jam jax jao ja6 jaV ja8 jae jag jaf ja0 jaC jaP jaw jaI jaZ jaH jaS jan jaU jaE jar jaL jah jaB jaa jaz jaG jab jaT z0_s jaq jai jaO jaA jat jau jav jaj jas jaJ jak jad jay jac jaT cyI jb0) : va_W))) (va_A (wd08_0 a0 jaX jaF jaD ja7 jby jbf jaM jaY jap jaK jal jam jax jao ja6 jaV ja8 jae jag jaf ja0 jaC jaP jaw jaI jaZ jaH jaS jan jaU jaE jar jaL jah jaB jaa jaz jaG jab jaT z0_s jaq jai jaO jaA jat jau jav jaj jas jaJ jak jad jay jac jaT cyI jb0) sz)) 0 0 (va_A (wd08_0 a0 jaX jaF jaD ja7 jby jbf jaM jaY jap jaK jal jam jax jao ja6 jaV ja8 jae jag jaf ja0 jaC jaP jaw jaI jaZ jaH jaS jan jaU jaE jar jaL jah jaB jaa jaz jaG jab jaT z0_s jaq jai jaO jaA jat jau jav jaj jas jaJ jak jad jay jac jaT cyI jb0) sz)) (l : Launch) (dC : Nat → ClassId) (dI : Nat → Nat → Nat) (cyB cyI cyJ cyP : ClassId) (a0 jaT sz : Nat) (jaX jaF jaD ja7 jby jbf jaM jaY jap jaK jal jam jax jao ja6 jaV ja8 jae jag jaf ja0 jaP jaw jaI jaZ jaH jaS jan jaU jaE jar jaL jah jaB jaa jaz jaG jab z0_s jaq jai jaO jaA jat jau jav jaj jas jaJ jak jad jay jac : Value) (jaC : Int32) (jb0 : Nat → Int32)  (p1 p2 p3 p4 : Int32) {Q : Int32 → Prop} (hw : wq_X11_lastsIn_g RS jaC jb0  p1 p2 p3 p4 Q) : Met l yX11_lastsIn wsX11_lastsIn ({ frames := fr + 1, cells := 0, slots := 0, locals := lo + 28 }) (va_Pc [.ref a0, .int p1, .int p2, .int p3, .int p4] (cPc (dC, dI) (kT cyB cyI cyJ cyP) (wd08_0 a0 jaX jaF jaD ja7 jby jbf jaM jaY jap jaK jal jam jax jao ja6 jaV ja8 jae jag jaf ja0 jaC jaP jaw jaI jaZ jaH jaS jan jaU jaE jar jaL jah jaB jaa jaz jaG jab jaT z0_s jaq jai jaO jaA jat jau jav jaj jas jaJ jak jad jay jac jaT cyI jb0) sz)) (va_Qi (fun (r : Int32) (_ : Unit) => Q r ) (cB (dC, dI) (kT cyB cyI cyJ cyP) (va_A (wd08_0 a0 jaX jaF jaD ja7 jby jbf jaM jaY jap jaK jal jam jax jao ja6 jaV ja8 jae jag jaf ja0 jaC jaP jaw jaI jaZ jaH jaS jan jaU jaE jar jaL jah jaB jaa jaz jaG jab jaT z0_s jaq jai jaO jaA jat jau jav jaj jas jaJ jak jad jay jac jaT cyI jb0) sz) (fun u : Unit => ((wd08_0 a0 jaX jaF jaD ja7 jby jbf jaM jaY jap jaK jal jam jax jao ja6 jaV ja8 jae jag jaf ja0 jaC jaP jaw jaI jaZ jaH jaS jan jaU jaE jar jaL jah jaB jaa jaz jaG jab jaT z0_s jaq jai jaO jaA jat jau jav jaj jas jaJ jak jad jay jac jaT cyI jb0) : va_W))) (va_A (wd08_0 a0 jaX jaF jaD ja7 jby jbf jaM jaY jap jaK jal jam jax jao ja6 jaV ja8 jae jag jaf ja0 jaC jaP jaw jaI jaZ jaH jaS jan jaU jaE jar jaL jah jaB jaa jaz jaG jab jaT z0_s jaq jai jaO jaA jat jau jav jaj jas jaJ jak jad jay jac jaT cyI jb0) sz)) 0 0 (va_A (wd08_0 a0 jaX jaF jaD ja7 jby jbf jaM jaY jap jaK jal jam jax jao ja6 jaV ja8 jae jag jaf ja0 jaC jaP jaw jaI jaZ jaH jaS jan jaU jaE jar jaL jah jaB jaa jaz jaG jab jaT z0_s jaq jai jaO jaA jat jau jav jaj jas jaJ jak jad jay jac jaT cyI jb0) sz) := by
  refine Met.ofW (cc := cX11_lastsIn) (maxL := 9) (ret := (some .int)) (by decide) rfl ?_
  intro p e s m args below meth c s₁ B hml hv
  obtain ⟨rfl, hsz, hP, hK, hD0, hNw⟩ := hv
  have hx := B.exec
  have hb := B.bytes
  have hr := B.returns
  have hts := atoms_spec (ws := wsX11_lastsIn) B.pre
  have hown : s.vm.findClass RX11 = some m.cls := findClass_of_methodNamed B.named
  have hlocks := B.notSynchronized
  subst hsz
  have hD := hD0.self (sz := s.heap.size)
  generalize hAe : va_A (wd08_0 a0 jaX jaF jaD ja7 jby jbf jaM jaY jap jaK jal jam jax jao ja6 jaV ja8 jae jag jaf ja0 jaC jaP jaw jaI jaZ jaH jaS jan jaU jaE jar jaL jah jaB jaa jaz jaG jab jaT z0_s jaq jai jaO jaA jat jau jav jaj jas jaJ jak jad jay jac jaT cyI jb0) s.heap.size = A at hD ⊢
  have hA : ∀ q : Nat, s.heap.size ≤ q → A q := fun q h => by rw [← hAe]; exact Or.inr h
  have hS : va_S A s.heap s.heap [] := va_S.rf
  have hP : va_P (dC, dI) vwCl (wd08_0 a0 jaX jaF jaD ja7 jby jbf jaM jaY jap jaK jal jam jax jao ja6 jaV ja8 jae jag jaf ja0 jaC jaP jaw jaI jaZ jaH jaS jan jaU jaE jar jaL jah jaB jaa jaz jaG jab jaT z0_s jaq jai jaO jaA jat jau jav jaj jas jaJ jak jad jay jac jaT cyI jb0) s.heap := hP
  have hl := lv_entry ([.ref a0, .int p1, .int p2, .int p3, .int p4]) (n := 9) ((by first | exact Nat.le_of_ble_eq_true rfl | (simp only [headSpec]; omega) | omega))
  rw [lg_entry_eq]
  generalize (lg_sl ([.ref a0, .int p1, .int p2, .int p3, .int p4]) ++ List.replicate (9 - (lg_sl ([.ref a0, .int p1, .int p2, .int p3, .int p4])).length) Slot.unset).toArray = ls at hl ⊢
  have hl : lv_has ls 9 [(0, .ref a0), (1, .int p1), (2, .int p2), (3, .int p3), (4, .int p4)] := hl
  have C0 : cfx p s m _ meth c cX11_lastsIn (some .int) wsX11_lastsIn RX11 9 A (dC, dI) (kT cyB cyI cyJ cyP) := ⟨hx, hb, hr, hts, hown, hlocks, hml, hA, hK, hNw⟩
  clear hAe
  obtain ⟨H, hH⟩ : ∃ H, H = s.heap := ⟨_, rfl⟩
  rw [← hH] at hP ⊢
  have hS : va_S A s.heap H [] := by rw [hH]; exact va_S.rf
  have hS := hS
  refine lv_iload_n hx hb (dt_of tkX11_lastsIn_k0 0 rfl) rfl (lv_at hl 1 rfl) ?_
  refine lv_if_ne (tgt := 16) hx hb (dt_of tkX11_lastsIn_k0 1 rfl) (by decide) (fun c1 => ?_) (fun c1 => ?_)
  · have hw := hw.1 c1
    refine lv_iconst (v := 0) hx hb (dt_of tkX11_lastsIn_k0 9 rfl) (by decide) ?_
    refine lv_istore (lv' := [(5, .int 0), (0, .ref a0), (1, .int p1), (2, .int p2), (3, .int p3), (4, .int p4)]) hx hb (dt_of tkX11_lastsIn_k0 10 rfl) hl (by decide) rfl (fun ls hl => ?_)
    refine lv_iconst (v := 0) hx hb (dt_of tkX11_lastsIn_k0 11 rfl) (by decide) ?_
    refine lv_istore (lv' := [(6, .int 0), (5, .int 0), (0, .ref a0), (1, .int p1), (2, .int p2), (3, .int p3), (4, .int p4)]) hx hb (dt_of tkX11_lastsIn_k0 12 rfl) hl (by decide) rfl (fun ls hl => ?_)
    obtain ⟨n9, hw⟩ := hw
    exact kl_X11_lastsIn_g_22 RS fr lo hRw dC dI cyB cyI cyJ cyP a0 jaT jaX jaF jaD ja7 jby jbf jaM jaY jap jaK jal jam jax jao ja6 jaV ja8 jae jag jaf ja0 jaP jaw jaI jaZ jaH jaS jan jaU jaE jar jaL jah jaB jaa jaz jaG jab z0_s jaq jai jaO jaA jat jau jav jaj jas jaJ jak jad jay jac jaC jb0 Q  C0 n9 _ _ _ p1 p2 p3 p4 0 0 hP hD hS (lv_sub hl [2, 3, 4, 5, 6, 1, 0] rfl) hw
  · have hw := hw.2 c1
    refine lv_iload_n hx hb (dt_of tkX11_lastsIn_k0 2 rfl) rfl (lv_at hl 2 rfl) ?_
    refine lv_iload hx hb (dt_of tkX11_lastsIn_k0 3 rfl) (lv_at hl 4 rfl) ?_
    refine lv_icmp_ne (tgt := 14) hx hb (dt_of tkX11_lastsIn_k0 4 rfl) (by decide) (fun c2 => ?_) (fun c2 => ?_)
    · have hw := hw.1 c2
      refine lv_iconst (v := 0) hx hb (dt_of tkX11_lastsIn_k0 7 rfl) (by decide) ?_
      exact ((W.iret (v := 0) hx hb hr (fun t ht hW => ⟨⟨0, (), rfl, hw, by rw [ht]; exact hP, va_K.moved hW.alike hK, hD⟩, hS.F ht⟩) hS.2.2 (dt_of tkX11_lastsIn_k0 8 rfl)))
    · have hw := hw.2 c2
      refine lv_iconst (v := 1) hx hb (dt_of tkX11_lastsIn_k0 5 rfl) (by decide) ?_
      refine lv_goto (tgt := 15) hx hb (dt_of tkX11_lastsIn_k0 6 rfl) (by decide) ?_
      exact ((W.iret (v := 1) hx hb hr (fun t ht hW => ⟨⟨1, (), rfl, hw, by rw [ht]; exact hP, va_K.moved hW.alike hK, hD⟩, hS.F ht⟩) hS.2.2 (dt_of tkX11_lastsIn_k0 8 rfl)))
theorem ck_X11_lastsIn_r1 (l : Launch) (dC : Nat → ClassId) (dI : Nat → Nat → Nat) (cyB cyI cyJ cyP : ClassId) (a0 jaT sz : Nat) (jaX jaF jaD ja7 jby jbf jaM jaY jap jaK jal jam jax jao ja6 jaV ja8 jae jag jaf ja0 jaP jaw jaI jaZ jaH jaS jan jaU jaE jar jaL jah jaB jaa jaz jaG jab z0_s jaq jai jaO jaA jat jau jav jaj jas jaJ jak jad jay jac : Value) (jaC : Int32) (jb0 : Nat → Int32) (p1 p2 p3 p4 : Int32) {Q : Int32 → Prop} (hw : wq_X11_lastsIn_r1 jaC jb0  p1 p2 p3 p4 Q) : Met l yX11_lastsIn wsX11_lastsIn ({ frames := 1, cells := 0, slots := 0, locals := 28 }) (va_Pc [.ref a0, .int p1, .int p2, .int p3, .int p4] (cPc (dC, dI) (kT cyB cyI cyJ cyP) (wd08_0 a0 jaX jaF jaD ja7 jby jbf jaM jaY jap jaK jal jam jax jao ja6 jaV ja8 jae jag jaf ja0 jaC jaP jaw jaI jaZ jaH jaS jan jaU jaE jar jaL jah jaB jaa jaz jaG jab jaT z0_s jaq jai jaO jaA jat jau jav jaj jas jaJ jak jad jay jac jaT cyI jb0) sz)) (va_Qi (fun (r : Int32) (_ : Unit) => Q r ) (cB (dC, dI) (kT cyB cyI cyJ cyP) (va_A (wd08_0 a0 jaX jaF jaD ja7 jby jbf jaM jaY jap jaK jal jam jax jao ja6 jaV ja8 jae jag jaf ja0 jaC jaP jaw jaI jaZ jaH jaS jan jaU jaE jar jaL jah jaB jaa jaz jaG jab jaT z0_s jaq jai jaO jaA jat jau jav jaj jas jaJ jak jad jay jac jaT cyI jb0) sz) (fun u : Unit => ((wd08_0 a0 jaX jaF jaD ja7 jby jbf jaM jaY jap jaK jal jam jax jao ja6 jaV ja8 jae jag jaf ja0 jaC jaP jaw jaI jaZ jaH jaS jan jaU jaE jar jaL jah jaB jaa jaz jaG jab jaT z0_s jaq jai jaO jaA jat jau jav jaj jas jaJ jak jad jay jac jaT cyI jb0) : va_W))) (va_A (wd08_0 a0 jaX jaF jaD ja7 jby jbf jaM jaY jap jaK jal jam jax jao ja6 jaV ja8 jae jag jaf ja0 jaC jaP jaw jaI jaZ jaH jaS jan jaU jaE jar jaL jah jaB jaa jaz jaG jab jaT z0_s jaq jai jaO jaA jat jau jav jaj jas jaJ jak jad jay jac jaT cyI jb0) sz)) 0 0 (va_A (wd08_0 a0 jaX jaF jaD ja7 jby jbf jaM jaY jap jaK jal jam jax jao ja6 jaV ja8 jae jag jaf ja0 jaC jaP jaw jaI jaZ jaH jaS jan jaU jaE jar jaL jah jaB jaa jaz jaG jab jaT z0_s jaq jai jaO jaA jat jau jav jaj jas jaJ jak jad jay jac jaT cyI jb0) sz) :=
  ck_X11_lastsIn_g wq_X11_lastsIn_r0 0 0 ck_X11_lastsIn_r0 l dC dI cyB cyI cyJ cyP a0 jaT sz jaX jaF jaD ja7 jby jbf jaM jaY jap jaK jal jam jax jao ja6 jaV ja8 jae jag jaf ja0 jaP jaw jaI jaZ jaH jaS jan jaU jaE jar jaL jah jaB jaa jaz jaG jab z0_s jaq jai jaO jaA jat jau jav jaj jas jaJ jak jad jay jac jaC jb0 p1 p2 p3 p4 hw
theorem ck_X11_lastsIn_r2 (l : Launch) (dC : Nat → ClassId) (dI : Nat → Nat → Nat) (cyB cyI cyJ cyP : ClassId) (a0 jaT sz : Nat) (jaX jaF jaD ja7 jby jbf jaM jaY jap jaK jal jam jax jao ja6 jaV ja8 jae jag jaf ja0 jaP jaw jaI jaZ jaH jaS jan jaU jaE jar jaL jah jaB jaa jaz jaG jab z0_s jaq jai jaO jaA jat jau jav jaj jas jaJ jak jad jay jac : Value) (jaC : Int32) (jb0 : Nat → Int32) (p1 p2 p3 p4 : Int32) {Q : Int32 → Prop} (hw : wq_X11_lastsIn_r2 jaC jb0  p1 p2 p3 p4 Q) : Met l yX11_lastsIn wsX11_lastsIn ({ frames := 2, cells := 0, slots := 0, locals := 56 }) (va_Pc [.ref a0, .int p1, .int p2, .int p3, .int p4] (cPc (dC, dI) (kT cyB cyI cyJ cyP) (wd08_0 a0 jaX jaF jaD ja7 jby jbf jaM jaY jap jaK jal jam jax jao ja6 jaV ja8 jae jag jaf ja0 jaC jaP jaw jaI jaZ jaH jaS jan jaU jaE jar jaL jah jaB jaa jaz jaG jab jaT z0_s jaq jai jaO jaA jat jau jav jaj jas jaJ jak jad jay jac jaT cyI jb0) sz)) (va_Qi (fun (r : Int32) (_ : Unit) => Q r ) (cB (dC, dI) (kT cyB cyI cyJ cyP) (va_A (wd08_0 a0 jaX jaF jaD ja7 jby jbf jaM jaY jap jaK jal jam jax jao ja6 jaV ja8 jae jag jaf ja0 jaC jaP jaw jaI jaZ jaH jaS jan jaU jaE jar jaL jah jaB jaa jaz jaG jab jaT z0_s jaq jai jaO jaA jat jau jav jaj jas jaJ jak jad jay jac jaT cyI jb0) sz) (fun u : Unit => ((wd08_0 a0 jaX jaF jaD ja7 jby jbf jaM jaY jap jaK jal jam jax jao ja6 jaV ja8 jae jag jaf ja0 jaC jaP jaw jaI jaZ jaH jaS jan jaU jaE jar jaL jah jaB jaa jaz jaG jab jaT z0_s jaq jai jaO jaA jat jau jav jaj jas jaJ jak jad jay jac jaT cyI jb0) : va_W))) (va_A (wd08_0 a0 jaX jaF jaD ja7 jby jbf jaM jaY jap jaK jal jam jax jao ja6 jaV ja8 jae jag jaf ja0 jaC jaP jaw jaI jaZ jaH jaS jan jaU jaE jar jaL jah jaB jaa jaz jaG jab jaT z0_s jaq jai jaO jaA jat jau jav jaj jas jaJ jak jad jay jac jaT cyI jb0) sz)) 0 0 (va_A (wd08_0 a0 jaX jaF jaD ja7 jby jbf jaM jaY jap jaK jal jam jax jao ja6 jaV ja8 jae jag jaf ja0 jaC jaP jaw jaI jaZ jaH jaS jan jaU jaE jar jaL jah jaB jaa jaz jaG jab jaT z0_s jaq jai jaO jaA jat jau jav jaj jas jaJ jak jad jay jac jaT cyI jb0) sz) :=
  ck_X11_lastsIn_g wq_X11_lastsIn_r1 1 28 ck_X11_lastsIn_r1 l dC dI cyB cyI cyJ cyP a0 jaT sz jaX jaF jaD ja7 jby jbf jaM jaY jap jaK jal jam jax jao ja6 jaV ja8 jae jag jaf ja0 jaP jaw jaI jaZ jaH jaS jan jaU jaE jar jaL jah jaB jaa jaz jaG jab z0_s jaq jai jaO jaA jat jau jav jaj jas jaJ jak jad jay jac jaC jb0 p1 p2 p3 p4 hw
theorem ck_X11_lastsIn_r3 (l : Launch) (dC : Nat → ClassId) (dI : Nat → Nat → Nat) (cyB cyI cyJ cyP : ClassId) (a0 jaT sz : Nat) (jaX jaF jaD ja7 jby jbf jaM jaY jap jaK jal jam jax jao ja6 jaV ja8 jae jag jaf ja0 jaP jaw jaI jaZ jaH jaS jan jaU jaE jar jaL jah jaB jaa jaz jaG jab z0_s jaq jai jaO jaA jat jau jav jaj jas jaJ jak jad jay jac : Value) (jaC : Int32) (jb0 : Nat → Int32) (p1 p2 p3 p4 : Int32) {Q : Int32 → Prop} (hw : wq_X11_lastsIn_r3 jaC jb0  p1 p2 p3 p4 Q) : Met l yX11_lastsIn wsX11_lastsIn ({ frames := 3, cells := 0, slots := 0, locals := 84 }) (va_Pc [.ref a0, .int p1, .int p2, .int p3, .int p4] (cPc (dC, dI) (kT cyB cyI cyJ cyP) (wd08_0 a0 jaX jaF jaD ja7 jby jbf jaM jaY jap jaK jal jam jax jao ja6 jaV ja8 jae jag jaf ja0 jaC jaP jaw jaI jaZ jaH jaS jan jaU jaE jar jaL jah jaB jaa jaz jaG jab jaT z0_s jaq jai jaO jaA jat jau jav jaj jas jaJ jak jad jay jac jaT cyI jb0) sz)) (va_Qi (fun (r : Int32) (_ : Unit) => Q r ) (cB (dC, dI) (kT cyB cyI cyJ cyP) (va_A (wd08_0 a0 jaX jaF jaD ja7 jby jbf jaM jaY jap jaK jal jam jax jao ja6 jaV ja8 jae jag jaf ja0 jaC jaP jaw jaI jaZ jaH jaS jan jaU jaE jar jaL jah jaB jaa jaz jaG jab jaT z0_s jaq jai jaO jaA jat jau jav jaj jas jaJ jak jad jay jac jaT cyI jb0) sz) (fun u : Unit => ((wd08_0 a0 jaX jaF jaD ja7 jby jbf jaM jaY jap jaK jal jam jax jao ja6 jaV ja8 jae jag jaf ja0 jaC jaP jaw jaI jaZ jaH jaS jan jaU jaE jar jaL jah jaB jaa jaz jaG jab jaT z0_s jaq jai jaO jaA jat jau jav jaj jas jaJ jak jad jay jac jaT cyI jb0) : va_W))) (va_A (wd08_0 a0 jaX jaF jaD ja7 jby jbf jaM jaY jap jaK jal jam jax jao ja6 jaV ja8 jae jag jaf ja0 jaC jaP jaw jaI jaZ jaH jaS jan jaU jaE jar jaL jah jaB jaa jaz jaG jab jaT z0_s jaq jai jaO jaA jat jau jav jaj jas jaJ jak jad jay jac jaT cyI jb0) sz)) 0 0 (va_A (wd08_0 a0 jaX jaF jaD ja7 jby jbf jaM jaY jap jaK jal jam jax jao ja6 jaV ja8 jae jag jaf ja0 jaC jaP jaw jaI jaZ jaH jaS jan jaU jaE jar jaL jah jaB jaa jaz jaG jab jaT z0_s jaq jai jaO jaA jat jau jav jaj jas jaJ jak jad jay jac jaT cyI jb0) sz) :=
  ck_X11_lastsIn_g wq_X11_lastsIn_r2 2 56 ck_X11_lastsIn_r2 l dC dI cyB cyI cyJ cyP a0 jaT sz jaX jaF jaD ja7 jby jbf jaM jaY jap jaK jal jam jax jao ja6 jaV ja8 jae jag jaf ja0 jaP jaw jaI jaZ jaH jaS jan jaU jaE jar jaL jah jaB jaa jaz jaG jab z0_s jaq jai jaO jaA jat jau jav jaj jas jaJ jak jad jay jac jaC jb0 p1 p2 p3 p4 hw
theorem ck_X11_lastsIn_r4 (l : Launch) (dC : Nat → ClassId) (dI : Nat → Nat → Nat) (cyB cyI cyJ cyP : ClassId) (a0 jaT sz : Nat) (jaX jaF jaD ja7 jby jbf jaM jaY jap jaK jal jam jax jao ja6 jaV ja8 jae jag jaf ja0 jaP jaw jaI jaZ jaH jaS jan jaU jaE jar jaL jah jaB jaa jaz jaG jab z0_s jaq jai jaO jaA jat jau jav jaj jas jaJ jak jad jay jac : Value) (jaC : Int32) (jb0 : Nat → Int32) (p1 p2 p3 p4 : Int32) {Q : Int32 → Prop} (hw : wq_X11_lastsIn_r4 jaC jb0  p1 p2 p3 p4 Q) : Met l yX11_lastsIn wsX11_lastsIn ({ frames := 4, cells := 0, slots := 0, locals := 112 }) (va_Pc [.ref a0, .int p1, .int p2, .int p3, .int p4] (cPc (dC, dI) (kT cyB cyI cyJ cyP) (wd08_0 a0 jaX jaF jaD ja7 jby jbf jaM jaY jap jaK jal jam jax jao ja6 jaV ja8 jae jag jaf ja0 jaC jaP jaw jaI jaZ jaH jaS jan jaU jaE jar jaL jah jaB jaa jaz jaG jab jaT z0_s jaq jai jaO jaA jat jau jav jaj jas jaJ jak jad jay jac jaT cyI jb0) sz)) (va_Qi (fun (r : Int32) (_ : Unit) => Q r ) (cB (dC, dI) (kT cyB cyI cyJ cyP) (va_A (wd08_0 a0 jaX jaF jaD ja7 jby jbf jaM jaY jap jaK jal jam jax jao ja6 jaV ja8 jae jag jaf ja0 jaC jaP jaw jaI jaZ jaH jaS jan jaU jaE jar jaL jah jaB jaa jaz jaG jab jaT z0_s jaq jai jaO jaA jat jau jav jaj jas jaJ jak jad jay jac jaT cyI jb0) sz) (fun u : Unit => ((wd08_0 a0 jaX jaF jaD ja7 jby jbf jaM jaY jap jaK jal jam jax jao ja6 jaV ja8 jae jag jaf ja0 jaC jaP jaw jaI jaZ jaH jaS jan jaU jaE jar jaL jah jaB jaa jaz jaG jab jaT z0_s jaq jai jaO jaA jat jau jav jaj jas jaJ jak jad jay jac jaT cyI jb0) : va_W))) (va_A (wd08_0 a0 jaX jaF jaD ja7 jby jbf jaM jaY jap jaK jal jam jax jao ja6 jaV ja8 jae jag jaf ja0 jaC jaP jaw jaI jaZ jaH jaS jan jaU jaE jar jaL jah jaB jaa jaz jaG jab jaT z0_s jaq jai jaO jaA jat jau jav jaj jas jaJ jak jad jay jac jaT cyI jb0) sz)) 0 0 (va_A (wd08_0 a0 jaX jaF jaD ja7 jby jbf jaM jaY jap jaK jal jam jax jao ja6 jaV ja8 jae jag jaf ja0 jaC jaP jaw jaI jaZ jaH jaS jan jaU jaE jar jaL jah jaB jaa jaz jaG jab jaT z0_s jaq jai jaO jaA jat jau jav jaj jas jaJ jak jad jay jac jaT cyI jb0) sz) :=
  ck_X11_lastsIn_g wq_X11_lastsIn_r3 3 84 ck_X11_lastsIn_r3 l dC dI cyB cyI cyJ cyP a0 jaT sz jaX jaF jaD ja7 jby jbf jaM jaY jap jaK jal jam jax jao ja6 jaV ja8 jae jag jaf ja0 jaP jaw jaI jaZ jaH jaS jan jaU jaE jar jaL jah jaB jaa jaz jaG jab z0_s jaq jai jaO jaA jat jau jav jaj jas jaJ jak jad jay jac jaC jb0 p1 p2 p3 p4 hw
theorem ck_X11_lastsIn_r5 (l : Launch) (dC : Nat → ClassId) (dI : Nat → Nat → Nat) (cyB cyI cyJ cyP : ClassId) (a0 jaT sz : Nat) (jaX jaF jaD ja7 jby jbf jaM jaY jap jaK jal jam jax jao ja6 jaV ja8 jae jag jaf ja0 jaP jaw jaI jaZ jaH jaS jan jaU jaE jar jaL jah jaB jaa jaz jaG jab z0_s jaq jai jaO jaA jat jau jav jaj jas jaJ jak jad jay jac : Value) (jaC : Int32) (jb0 : Nat → Int32) (p1 p2 p3 p4 : Int32) {Q : Int32 → Prop} (hw : wq_X11_lastsIn_r5 jaC jb0  p1 p2 p3 p4 Q) : Met l yX11_lastsIn wsX11_lastsIn ({ frames := 5, cells := 0, slots := 0, locals := 140 }) (va_Pc [.ref a0, .int p1, .int p2, .int p3, .int p4] (cPc (dC, dI) (kT cyB cyI cyJ cyP) (wd08_0 a0 jaX jaF jaD ja7 jby jbf jaM jaY jap jaK jal jam jax jao ja6 jaV ja8 jae jag jaf ja0 jaC jaP jaw jaI jaZ jaH jaS jan jaU jaE jar jaL jah jaB jaa jaz jaG jab jaT z0_s jaq jai jaO jaA jat jau jav jaj jas jaJ jak jad jay jac jaT cyI jb0) sz)) (va_Qi (fun (r : Int32) (_ : Unit) => Q r ) (cB (dC, dI) (kT cyB cyI cyJ cyP) (va_A (wd08_0 a0 jaX jaF jaD ja7 jby jbf jaM jaY jap jaK jal jam jax jao ja6 jaV ja8 jae jag jaf ja0 jaC jaP jaw jaI jaZ jaH jaS jan jaU jaE jar jaL jah jaB jaa jaz jaG jab jaT z0_s jaq jai jaO jaA jat jau jav jaj jas jaJ jak jad jay jac jaT cyI jb0) sz) (fun u : Unit => ((wd08_0 a0 jaX jaF jaD ja7 jby jbf jaM jaY jap jaK jal jam jax jao ja6 jaV ja8 jae jag jaf ja0 jaC jaP jaw jaI jaZ jaH jaS jan jaU jaE jar jaL jah jaB jaa jaz jaG jab jaT z0_s jaq jai jaO jaA jat jau jav jaj jas jaJ jak jad jay jac jaT cyI jb0) : va_W))) (va_A (wd08_0 a0 jaX jaF jaD ja7 jby jbf jaM jaY jap jaK jal jam jax jao ja6 jaV ja8 jae jag jaf ja0 jaC jaP jaw jaI jaZ jaH jaS jan jaU jaE jar jaL jah jaB jaa jaz jaG jab jaT z0_s jaq jai jaO jaA jat jau jav jaj jas jaJ jak jad jay jac jaT cyI jb0) sz)) 0 0 (va_A (wd08_0 a0 jaX jaF jaD ja7 jby jbf jaM jaY jap jaK jal jam jax jao ja6 jaV ja8 jae jag jaf ja0 jaC jaP jaw jaI jaZ jaH jaS jan jaU jaE jar jaL jah jaB jaa jaz jaG jab jaT z0_s jaq jai jaO jaA jat jau jav jaj jas jaJ jak jad jay jac jaT cyI jb0) sz) :=
  ck_X11_lastsIn_g wq_X11_lastsIn_r4 4 112 ck_X11_lastsIn_r4 l dC dI cyB cyI cyJ cyP a0 jaT sz jaX jaF jaD ja7 jby jbf jaM jaY jap jaK jal jam jax jao ja6 jaV ja8 jae jag jaf ja0 jaP jaw jaI jaZ jaH jaS jan jaU jaE jar jaL jah jaB jaa jaz jaG jab z0_s jaq jai jaO jaA jat jau jav jaj jas jaJ jak jad jay jac jaC jb0 p1 p2 p3 p4 hw
theorem ui_X11_bouts_X11 : ∀ w ∈ u_ws RX11 TX11 55, w ∈ wsX11_bouts := uiM mbX11_bouts euX11 (by decide +kernel)
theorem uw_X11_bouts_f169 : (.fieldLink RX11 169 "MarchHaresModel" "hares" "I" : Cond) ∈ wsX11_bouts := mbX11_bouts 520 (by decide +kernel)
theorem uw_X11_bouts_f3 : (.fieldLink RX11 3 "MarchHaresModel" "thrown" "I" : Cond) ∈ wsX11_bouts := mbX11_bouts 589 (by decide +kernel)
theorem uw_X11_bouts_f68 : (.fieldLink RX11 68 "MarchHaresModel" "now" "[I" : Cond) ∈ wsX11_bouts := mbX11_bouts 456 (by decide +kernel)
set_option maxHeartbeats 4000000 in
set_option maxRecDepth 100000 in
theorem kb_X11_bouts_88 {p : Program} {l : Launch} {e : Env} {s : State} {m : MethodId} {args : Array Value} {below : List Frame} {meth : Method} {c : Code} {A : Nat → Prop} (dC : Nat → ClassId) (dI : Nat → Nat → Nat) (cyB cyI cyJ cyP : ClassId) (a0 jaQ jaT a0_s : Nat) (jaD ja7 jby jbf jaM jaY jap jaK jal jam jax jao ja6 jaV ja8 jae jag jaf ja0 jaP jaw jaI jaZ jaH jaS jan jaU jaE jar jaL jah jaB jaa jaz jaG jab jaq jai jaO jaA jat jau jav jaj jas jaJ jak jad jay jac : Value) (jaC : Int32) (jb0 : Nat → Int32) (Q : Int32 → Int32 → (Nat → Int32) → (Nat → Int32) → Prop) (K41 : Int32 → (Nat → Int32) → (Nat → Int32) → Int32 → Int32 → Int32 → Int32 → Prop) (hK41 : ∀ (H : Heap) (locs : List Loc) (ls : Array Slot) (jbd : Int32) (ja9 f0_s : Nat → Int32) (l1 l2 l3 l4 : Int32), va_P (dC, dI) vwCl (wd08_1 a0 jbd jaQ jaD ja7 jby jbf jaM jaY jap jaK jal jam jax jao ja6 jaV ja8 jae jag jaf ja0 jaC jaP jaw jaI jaZ jaH jaS jan jaU jaE jar jaL jah jaB jaa jaz jaG jab jaT a0_s jaq jai jaO jaA jat jau jav jaj jas jaJ jak jad jay jac jaQ cyI ja9 jaT cyI jb0 a0_s cyI f0_s) H → va_D A (wd08_1 a0 jbd jaQ jaD ja7 jby jbf jaM jaY jap jaK jal jam jax jao ja6 jaV ja8 jae jag jaf ja0 jaC jaP jaw jaI jaZ jaH jaS jan jaU jaE jar jaL jah jaB jaa jaz jaG jab jaT a0_s jaq jai jaO jaA jat jau jav jaj jas jaJ jak jad jay jac jaQ cyI ja9 jaT cyI jb0 a0_s cyI f0_s) → va_S A s.heap H locs → lv_has ls 5 [(0, .ref a0), (1, .int l1), (2, .int l2), (3, .int l3), (4, .int l4)] → K41 jbd ja9 f0_s l1 l2 l3 l4 → W p l e (headSpec wsX11_bouts ({ frames := 6, cells := 0, slots := 0, locals := 168 })).room s m args below meth c H locs 0 0 (MQ below (va_Qi (fun (r : Int32) (u : Int32 × (Nat → Int32) × (Nat → Int32)) => Q r u.1 u.2.1 u.2.2) (cB (dC, dI) (kT cyB cyI cyJ cyP) A (fun u : Int32 × (Nat → Int32) × (Nat → Int32) => ((wd08_1 a0 u.1 jaQ jaD ja7 jby jbf jaM jaY jap jaK jal jam jax jao ja6 jaV ja8 jae jag jaf ja0 jaC jaP jaw jaI jaZ jaH jaS jan jaU jaE jar jaL jah jaB jaa jaz jaG jab jaT a0_s jaq jai jaO jaA jat jau jav jaj jas jaJ jak jad jay jac jaQ cyI u.2.1 jaT cyI jb0 a0_s cyI u.2.2) : va_W))) A) args s 0 0 A) (F0 m 41 ls [])) (C0 : cfx p s m args meth c cX11_bouts (some .int) wsX11_bouts RX11 5 A (dC, dI) (kT cyB cyI cyJ cyP)) : ∀ (H : Heap) (locs : List Loc) (ls : Array Slot) (jbd : Int32) (ja9 f0_s : Nat → Int32) (l1 l2 l3 l4 : Int32), va_P (dC, dI) vwCl (wd08_1 a0 jbd jaQ jaD ja7 jby jbf jaM jaY jap jaK jal jam jax jao ja6 jaV ja8 jae jag jaf ja0 jaC jaP jaw jaI jaZ jaH jaS jan jaU jaE jar jaL jah jaB jaa jaz jaG jab jaT a0_s jaq jai jaO jaA jat jau jav jaj jas jaJ jak jad jay jac jaQ cyI ja9 jaT cyI jb0 a0_s cyI f0_s) H → va_D A (wd08_1 a0 jbd jaQ jaD ja7 jby jbf jaM jaY jap jaK jal jam jax jao ja6 jaV ja8 jae jag jaf ja0 jaC jaP jaw jaI jaZ jaH jaS jan jaU jaE jar jaL jah jaB jaa jaz jaG jab jaT a0_s jaq jai jaO jaA jat jau jav jaj jas jaJ jak jad jay jac jaQ cyI ja9 jaT cyI jb0 a0_s cyI f0_s) → va_S A s.heap H locs → lv_has ls 5 [(0, .ref a0), (1, .int l1), (2, .int l2), (3, .int l3), (4, .int l4)] → wb_X11_bouts_88 jaC jb0 Q K41 jbd ja9 f0_s l1 l2 l3 l4 → W p l e (headSpec wsX11_bouts ({ frames := 6, cells := 0, slots := 0, locals := 168 })).room s m args below meth c H locs 0 0 (MQ below (va_Qi (fun (r : Int32) (u : Int32 × (Nat → Int32) × (Nat → Int32)) => Q r u.1 u.2.1 u.2.2) (cB (dC, dI) (kT cyB cyI cyJ cyP) A (fun u : Int32 × (Nat → Int32) × (Nat → Int32) => ((wd08_1 a0 u.1 jaQ jaD ja7 jby jbf jaM jaY jap jaK jal jam jax jao ja6 jaV ja8 jae jag jaf ja0 jaC jaP jaw jaI jaZ jaH jaS jan jaU jaE jar jaL jah jaB jaa jaz jaG jab jaT a0_s jaq jai jaO jaA jat jau jav jaj jas jaJ jak jad jay jac jaQ cyI u.2.1 jaT cyI jb0 a0_s cyI u.2.2) : va_W))) A) args s 0 0 A) (F0 m 88 ls []) := by
  obtain ⟨hx, hb, hr, hts, hown, hlocks, hml, hA, hK, hNw⟩ := id C0
  intro H locs ls jbd ja9 f0_s l1 l2 l3 l4 hP hD hS hl hw
  obtain ⟨x15, ex15⟩ : ∃ y : Int32, y = l4 + 1 := ⟨_, rfl⟩
  have hw := hw x15 ex15
  refine lv_iinc (v := x15) (lv' := [(4, .int x15), (0, .ref a0), (1, .int l1), (2, .int l2), (3, .int l3)]) hx hb (dt_of tkX11_bouts_k70 11 rfl) hl (k := 4) rfl (by rw [ex15]; rfl) (by decide) rfl (fun ls hl => ?_)
  refine lv_goto (tgt := 41) hx hb (dt_of tkX11_bouts_k70 12 rfl) (by decide) ?_
  exact hK41 _ _ _ jbd ja9 f0_s l1 l2 l3 x15 hP hD hS (lv_sub hl [1, 2, 3, 4, 0] rfl) hw
set_option maxHeartbeats 4000000 in
set_option maxRecDepth 100000 in
theorem kl_X11_bouts_41 {p : Program} {l : Launch} {e : Env} {s : State} {m : MethodId} {args : Array Value} {below : List Frame} {meth : Method} {c : Code} {A : Nat → Prop} (dC : Nat → ClassId) (dI : Nat → Nat → Nat) (cyB cyI cyJ cyP : ClassId) (a0 jaQ jaT a0_s : Nat) (jaD ja7 jby jbf jaM jaY jap jaK jal jam jax jao ja6 jaV ja8 jae jag jaf ja0 jaP jaw jaI jaZ jaH jaS jan jaU jaE jar jaL jah jaB jaa jaz jaG jab jaq jai jaO jaA jat jau jav jaj jas jaJ jak jad jay jac : Value) (jaC : Int32) (jb0 : Nat → Int32) (Q : Int32 → Int32 → (Nat → Int32) → (Nat → Int32) → Prop)  (C0 : cfx p s m args meth c cX11_bouts (some .int) wsX11_bouts RX11 5 A (dC, dI) (kT cyB cyI cyJ cyP)) : ∀ (n : Nat) (H : Heap) (locs : List Loc) (ls : Array Slot) (jbd : Int32) (ja9 f0_s : Nat → Int32) (l1 l2 l3 l4 : Int32), va_P (dC, dI) vwCl (wd08_1 a0 jbd jaQ jaD ja7 jby jbf jaM jaY jap jaK jal jam jax jao ja6 jaV ja8 jae jag jaf ja0 jaC jaP jaw jaI jaZ jaH jaS jan jaU jaE jar jaL jah jaB jaa jaz jaG jab jaT a0_s jaq jai jaO jaA jat jau jav jaj jas jaJ jak jad jay jac jaQ cyI ja9 jaT cyI jb0 a0_s cyI f0_s) H → va_D A (wd08_1 a0 jbd jaQ jaD ja7 jby jbf jaM jaY jap jaK jal jam jax jao ja6 jaV ja8 jae jag jaf ja0 jaC jaP jaw jaI jaZ jaH jaS jan jaU jaE jar jaL jah jaB jaa jaz jaG jab jaT a0_s jaq jai jaO jaA jat jau jav jaj jas jaJ jak jad jay jac jaQ cyI ja9 jaT cyI jb0 a0_s cyI f0_s) → va_S A s.heap H locs → lv_has ls 5 [(0, .ref a0), (1, .int l1), (2, .int l2), (3, .int l3), (4, .int l4)] → wl_X11_bouts_41 jaC jb0 Q  n jbd ja9 f0_s l1 l2 l3 l4 → W p l e (headSpec wsX11_bouts ({ frames := 6, cells := 0, slots := 0, locals := 168 })).room s m args below meth c H locs 0 0 (MQ below (va_Qi (fun (r : Int32) (u : Int32 × (Nat → Int32) × (Nat → Int32)) => Q r u.1 u.2.1 u.2.2) (cB (dC, dI) (kT cyB cyI cyJ cyP) A (fun u : Int32 × (Nat → Int32) × (Nat → Int32) => ((wd08_1 a0 u.1 jaQ jaD ja7 jby jbf jaM jaY jap jaK jal jam jax jao ja6 jaV ja8 jae jag jaf ja0 jaC jaP jaw jaI jaZ jaH jaS jan jaU jaE jar jaL jah jaB jaa jaz jaG jab jaT a0_s jaq jai jaO jaA jat jau jav jaj jas jaJ jak jad jay jac jaQ cyI u.2.1 jaT cyI jb0 a0_s cyI u.2.2) : va_W))) A) args s 0 0 A) (F0 m 41 ls []) := by
  obtain ⟨hx, hb, hr, hts, hown, hlocks, hml, hA, hK, hNw⟩ := id C0
  intro n
  induction n with
  | zero => intro H locs ls jbd ja9 f0_s l1 l2 l3 l4 hP hD hS hl hw; exact False.elim hw
  | succ n ih =>
    intro H locs ls jbd ja9 f0_s l1 l2 l3 l4 hP hD hS hl hw
    refine lv_iload hx hb (dt_of tkX11_bouts_k26 12 rfl) (lv_at hl 4 rfl) ?_
    refine lv_aload_n hx hb (dt_of tkX11_bouts_k26 13 rfl) rfl (lv_at hl 0 rfl) ?_
    refine va_get (D := (dC, dI)) (ci := 11) (v := .int jaC) (C := RX11) (T := TX11) (N := 55) hx hb hts ui_X11_bouts_X11 hown hK hP 0 rfl rfl 21 (by decide) (hts _ uw_X11_bouts_f169) (fun _ h9 => h9) rfl (dt_of tkX11_bouts_k26 14 rfl) ?_
    refine lv_icmp_ge (tgt := 94) hx hb (dt_of tkX11_bouts_k26 15 rfl) (by decide) (fun c8 => ?_) (fun c8 => ?_)
    · have hw := hw.1 c8
      refine lv_iload_n hx hb (dt_of tkX11_bouts_k70 13 rfl) rfl (lv_at hl 3 rfl) ?_
      exact ((W.iret (v := l3) hx hb hr (fun t ht hW => ⟨⟨l3, (jbd, ja9, f0_s), rfl, hw, by rw [ht]; exact hP, va_K.moved hW.alike hK, hD⟩, hS.F ht⟩) hS.2.2 (dt_of tkX11_bouts_k70 14 rfl)))
    · have hw := hw.2 c8
      refine lv_iload_n hx hb (dt_of tkX11_bouts_k50 0 rfl) rfl (lv_at hl 2 rfl) ?_
      refine lv_iload hx hb (dt_of tkX11_bouts_k50 1 rfl) (lv_at hl 4 rfl) ?_
      refine lv_ishr hx hb (dt_of tkX11_bouts_k50 2 rfl) ?_
      refine lv_iconst (v := 1) hx hb (dt_of tkX11_bouts_k50 3 rfl) (by decide) ?_
      refine lv_iand hx hb (dt_of tkX11_bouts_k50 4 rfl) ?_
      refine lv_iconst (v := 1) hx hb (dt_of tkX11_bouts_k50 5 rfl) (by decide) ?_
      refine lv_icmp_ne (tgt := 88) hx hb (dt_of tkX11_bouts_k50 6 rfl) (by decide) (fun c9 => ?_) (fun c9 => ?_)
      · have hw := hw.1 c9
        exact kb_X11_bouts_88 dC dI cyB cyI cyJ cyP a0 jaQ jaT a0_s jaD ja7 jby jbf jaM jaY jap jaK jal jam jax jao ja6 jaV ja8 jae jag jaf ja0 jaP jaw jaI jaZ jaH jaS jan jaU jaE jar jaL jah jaB jaa jaz jaG jab jaq jai jaO jaA jat jau jav jaj jas jaJ jak jad jay jac jaC jb0 Q (wl_X11_bouts_41 jaC jb0 Q  n) ih C0 _ _ _ jbd ja9 f0_s l1 l2 l3 l4 hP hD hS (lv_sub hl [0, 1, 2, 3, 4] rfl) hw
      · have hw := hw.2 c9
        refine lv_iload_n hx hb (dt_of tkX11_bouts_k50 7 rfl) rfl (lv_at hl 3 rfl) ?_
        refine lv_aload_n hx hb (dt_of tkX11_bouts_k50 8 rfl) rfl (lv_at hl 0 rfl) ?_
        refine lv_iload_n hx hb (dt_of tkX11_bouts_k50 9 rfl) rfl (lv_at hl 2 rfl) ?_
        refine lv_iconst (v := 1) hx hb (dt_of tkX11_bouts_k50 10 rfl) (by decide) ?_
        refine lv_iload hx hb (dt_of tkX11_bouts_k50 11 rfl) (lv_at hl 4 rfl) ?_
        refine lv_ishl hx hb (dt_of tkX11_bouts_k50 12 rfl) ?_
        refine lv_iconst (v := (-1)) hx hb (dt_of tkX11_bouts_k50 13 rfl) (by decide) ?_
        refine lv_ixor hx hb (dt_of tkX11_bouts_k50 14 rfl) ?_
        refine lv_iand hx hb (dt_of tkX11_bouts_k50 15 rfl) ?_
        refine lv_topi (fun x10 ex10 => ?_)
        have hw := hw x10 ex10
        refine lv_iload hx hb (dt_of tkX11_bouts_k70 0 rfl) (lv_at hl 4 rfl) ?_
        refine lv_aload_n hx hb (dt_of tkX11_bouts_k70 1 rfl) rfl (lv_at hl 0 rfl) ?_
        refine va_get (D := (dC, dI)) (ci := 11) (v := .ref jaT) (C := RX11) (T := TX11) (N := 55) hx hb hts ui_X11_bouts_X11 hown hK hP 0 rfl rfl 39 (by decide) (hts _ uw_X11_bouts_f68) (fun _ h9 => h9) rfl (dt_of tkX11_bouts_k70 2 rfl) ?_
        refine lv_bipush (v := 6) hx hb (dt_of tkX11_bouts_k70 3 rfl) (by decide) ?_
        refine lv_iload hx hb (dt_of tkX11_bouts_k70 4 rfl) (lv_at hl 4 rfl) ?_
        refine lv_iadd hx hb (dt_of tkX11_bouts_k70 5 rfl) ?_
        refine lv_topi (fun x11 ex11 => ?_)
        have hw := hw x11 ex11
        obtain ⟨hi9, hw⟩ := hw
        refine va_iald hx hb hK hP 2 1 rfl rfl hi9 (dt_of tkX11_bouts_k70 6 rfl) ?_
        refine lv_topi (fun x12 ex12 => ?_)
        have hw := hw x12 ex12
        refine lv_iload_n hx hb (dt_of tkX11_bouts_k70 7 rfl) rfl (lv_at hl 1 rfl) ?_
        obtain ⟨hCc, hPc, hDc, hFc⟩ := va_pick (ws' := (wd08_2 a0 jbd jaQ jaD ja7 jby jbf jaM jaY jap jaK jal jam jax jao ja6 jaV ja8 jae jag jaf ja0 jaC jaP jaw jaI jaZ jaH jaS jan jaU jaE jar jaL jah jaB jaa jaz jaG jab jaT a0_s jaq jai jaO jaA jat jau jav jaj jas jaJ jak jad jay jac jaT cyI jb0)) hP hD hS hA [0, 2] (by decide +kernel) rfl
        refine va_calli (va_runV (As := [.int x10, .int l4, .int x12, .int l1]) (rest := [.int l3]) ⟨hx, hb, hml, hown, hts⟩ (ck_X11_lastsIn_r5 l dC dI cyB cyI cyJ cyP a0 jaT H.size (.int jbd) (.ref jaQ) (jaD) (ja7) (jby) (jbf) (jaM) (jaY) (jap) (jaK) (jal) (jam) (jax) (jao) (ja6) (jaV) (ja8) (jae) (jag) (jaf) (ja0) (jaP) (jaw) (jaI) (jaZ) (jaH) (jaS) (jan) (jaU) (jaE) (jar) (jaL) (jah) (jaB) (jaa) (jaz) (jaG) (jab) (.ref a0_s) (jaq) (jai) (jaO) (jaA) (jat) (jau) (jav) (jaj) (jas) (jaJ) (jak) (jad) (jay) (jac) jaC jb0  x10 l4 x12 l1 hw) (cwV 4 hts gX11_bouts_X11_lastsIn rfl rfl rfl (by decide +kernel) ⟨Nat.le_of_ble_eq_true rfl, Nat.le_of_ble_eq_true rfl⟩) ⟨cPc_blind, va_recv (q := (RX11, TX11, 55)) hK hPc (ci := 11) (q0 := 0) rfl rfl, cPc_pre hPc hK hDc hNw⟩ rfl rfl hl.1 rfl (lv_room (Nat.le_of_ble_eq_true rfl)) (dt_of tkX11_bouts_k70 8 rfl) ⟨Nat.le_of_ble_eq_true rfl, Nat.le_of_ble_eq_true rfl⟩) hS (fun q _ h => hFc q h) hFc (fun r13 u t H1 locs ht hvm hw hB hz1 hk1 hS => ?_)
        obtain ⟨hP1, hK1, hD1⟩ := hB
        rw [ht] at hP1
        obtain ⟨hP, hD⟩ := va_joinN (wr := (wd08_3 jaQ cyI ja9 a0_s cyI f0_s)) (w1 := (wd08_2 a0 jbd jaQ jaD ja7 jby jbf jaM jaY jap jaK jal jam jax jao ja6 jaV ja8 jae jag jaf ja0 jaC jaP jaw jaI jaZ jaH jaS jan jaU jaE jar jaL jah jaB jaa jaz jaG jab jaT a0_s jaq jai jaO jaA jat jau jav jaj jas jaJ jak jad jay jac jaT cyI jb0)) (wn := (wd08_1 a0 jbd jaQ jaD ja7 jby jbf jaM jaY jap jaK jal jam jax jao ja6 jaV ja8 jae jag jaf ja0 jaC jaP jaw jaI jaZ jaH jaS jan jaU jaE jar jaL jah jaB jaa jaz jaG jab jaT a0_s jaq jai jaO jaA jat jau jav jaj jas jaJ jak jad jay jac jaQ cyI ja9 jaT cyI jb0 a0_s cyI f0_s)) hP hD [0, 2] [1, 3] [2, 0, 3, 1] hCc rfl (by decide +kernel) (by decide +kernel) (by decide +kernel) rfl hk1 hFc hP1 hD1
        generalize H1 = H at hP hS ⊢
        refine lv_iadd hx hb (dt_of tkX11_bouts_k70 9 rfl) ?_
        refine lv_topi (fun x14 ex14 => ?_)
        have hw := hw x14 ex14
        refine lv_istore_n (lv' := [(3, .int x14), (0, .ref a0), (1, .int l1), (2, .int l2), (4, .int l4)]) hx hb (dt_of tkX11_bouts_k70 10 rfl) rfl hl (by decide) rfl (fun ls hl => ?_)
        exact kb_X11_bouts_88 dC dI cyB cyI cyJ cyP a0 jaQ jaT a0_s jaD ja7 jby jbf jaM jaY jap jaK jal jam jax jao ja6 jaV ja8 jae jag jaf ja0 jaP jaw jaI jaZ jaH jaS jan jaU jaE jar jaL jah jaB jaa jaz jaG jab jaq jai jaO jaA jat jau jav jaj jas jaJ jak jad jay jac jaC jb0 Q (wl_X11_bouts_41 jaC jb0 Q  n) ih C0 _ _ _ jbd ja9 f0_s l1 l2 x14 l4 hP hD hS (lv_sub hl [1, 2, 3, 0, 4] rfl) hw
set_option maxHeartbeats 4000000 in
set_option maxRecDepth 100000 in
theorem ck_X11_bouts (l : Launch) (dC : Nat → ClassId) (dI : Nat → Nat → Nat) (cyB cyI cyJ cyP : ClassId) (a0 jaQ jaT a0_s sz : Nat) (jaD ja7 jby jbf jaM jaY jap jaK jal jam jax jao ja6 jaV ja8 jae jag jaf ja0 jaP jaw jaI jaZ jaH jaS jan jaU jaE jar jaL jah jaB jaa jaz jaG jab jaq jai jaO jaA jat jau jav jaj jas jaJ jak jad jay jac : Value) (jaC : Int32) (jb0 : Nat → Int32) (jbd : Int32) (ja9 f0_s : Nat → Int32) (p1 : Int32) {Q : Int32 → Int32 → (Nat → Int32) → (Nat → Int32) → Prop} (hw : wq_X11_bouts jaC jb0 jbd ja9 f0_s p1 Q) : Met l yX11_bouts wsX11_bouts ({ frames := 6, cells := 0, slots := 0, locals := 168 }) (va_Pc [.ref a0, .int p1] (cPc (dC, dI) (kT cyB cyI cyJ cyP) (wd08_1 a0 jbd jaQ jaD ja7 jby jbf jaM jaY jap jaK jal jam jax jao ja6 jaV ja8 jae jag jaf ja0 jaC jaP jaw jaI jaZ jaH jaS jan jaU jaE jar jaL jah jaB jaa jaz jaG jab jaT a0_s jaq jai jaO jaA jat jau jav jaj jas jaJ jak jad jay jac jaQ cyI ja9 jaT cyI jb0 a0_s cyI f0_s) sz)) (va_Qi (fun (r : Int32) (u : Int32 × (Nat → Int32) × (Nat → Int32)) => Q r u.1 u.2.1 u.2.2) (cB (dC, dI) (kT cyB cyI cyJ cyP) (va_A (wd08_1 a0 jbd jaQ jaD ja7 jby jbf jaM jaY jap jaK jal jam jax jao ja6 jaV ja8 jae jag jaf ja0 jaC jaP jaw jaI jaZ jaH jaS jan jaU jaE jar jaL jah jaB jaa jaz jaG jab jaT a0_s jaq jai jaO jaA jat jau jav jaj jas jaJ jak jad jay jac jaQ cyI ja9 jaT cyI jb0 a0_s cyI f0_s) sz) (fun u : Int32 × (Nat → Int32) × (Nat → Int32) => ((wd08_1 a0 u.1 jaQ jaD ja7 jby jbf jaM jaY jap jaK jal jam jax jao ja6 jaV ja8 jae jag jaf ja0 jaC jaP jaw jaI jaZ jaH jaS jan jaU jaE jar jaL jah jaB jaa jaz jaG jab jaT a0_s jaq jai jaO jaA jat jau jav jaj jas jaJ jak jad jay jac jaQ cyI u.2.1 jaT cyI jb0 a0_s cyI u.2.2) : va_W))) (va_A (wd08_1 a0 jbd jaQ jaD ja7 jby jbf jaM jaY jap jaK jal jam jax jao ja6 jaV ja8 jae jag jaf ja0 jaC jaP jaw jaI jaZ jaH jaS jan jaU jaE jar jaL jah jaB jaa jaz jaG jab jaT a0_s jaq jai jaO jaA jat jau jav jaj jas jaJ jak jad jay jac jaQ cyI ja9 jaT cyI jb0 a0_s cyI f0_s) sz)) 0 0 (va_A (wd08_1 a0 jbd jaQ jaD ja7 jby jbf jaM jaY jap jaK jal jam jax jao ja6 jaV ja8 jae jag jaf ja0 jaC jaP jaw jaI jaZ jaH jaS jan jaU jaE jar jaL jah jaB jaa jaz jaG jab jaT a0_s jaq jai jaO jaA jat jau jav jaj jas jaJ jak jad jay jac jaQ cyI ja9 jaT cyI jb0 a0_s cyI f0_s) sz) := by
  refine Met.ofW (cc := cX11_bouts) (maxL := 5) (ret := (some .int)) (by decide) rfl ?_
  intro p e s m args below meth c s₁ B hml hv
  obtain ⟨rfl, hsz, hP, hK, hD0, hNw⟩ := hv
  have hx := B.exec
  have hb := B.bytes
  have hr := B.returns
  have hts := atoms_spec (ws := wsX11_bouts) B.pre
  have hown : s.vm.findClass RX11 = some m.cls := findClass_of_methodNamed B.named
  have hlocks := B.notSynchronized
  subst hsz
  have hD := hD0.self (sz := s.heap.size)
  generalize hAe : va_A (wd08_1 a0 jbd jaQ jaD ja7 jby jbf jaM jaY jap jaK jal jam jax jao ja6 jaV ja8 jae jag jaf ja0 jaC jaP jaw jaI jaZ jaH jaS jan jaU jaE jar jaL jah jaB jaa jaz jaG jab jaT a0_s jaq jai jaO jaA jat jau jav jaj jas jaJ jak jad jay jac jaQ cyI ja9 jaT cyI jb0 a0_s cyI f0_s) s.heap.size = A at hD ⊢
  have hA : ∀ q : Nat, s.heap.size ≤ q → A q := fun q h => by rw [← hAe]; exact Or.inr h
  have hS : va_S A s.heap s.heap [] := va_S.rf
  have hP : va_P (dC, dI) vwCl (wd08_1 a0 jbd jaQ jaD ja7 jby jbf jaM jaY jap jaK jal jam jax jao ja6 jaV ja8 jae jag jaf ja0 jaC jaP jaw jaI jaZ jaH jaS jan jaU jaE jar jaL jah jaB jaa jaz jaG jab jaT a0_s jaq jai jaO jaA jat jau jav jaj jas jaJ jak jad jay jac jaQ cyI ja9 jaT cyI jb0 a0_s cyI f0_s) s.heap := hP
  have hl := lv_entry ([.ref a0, .int p1]) (n := 5) (Nat.le_of_ble_eq_true rfl)
  rw [lg_entry_eq]
  generalize (lg_sl ([.ref a0, .int p1]) ++ List.replicate (5 - (lg_sl ([.ref a0, .int p1])).length) Slot.unset).toArray = ls at hl ⊢
  have hl : lv_has ls 5 [(0, .ref a0), (1, .int p1)] := hl
  have C0 : cfx p s m _ meth c cX11_bouts (some .int) wsX11_bouts RX11 5 A (dC, dI) (kT cyB cyI cyJ cyP) := ⟨hx, hb, hr, hts, hown, hlocks, hml, hA, hK, hNw⟩
  clear hAe
  obtain ⟨H, hH⟩ : ∃ H, H = s.heap := ⟨_, rfl⟩
  rw [← hH] at hP ⊢
  have hS : va_S A s.heap H [] := by rw [hH]; exact va_S.rf
  have hS := hS
  refine lv_aload_n hx hb (dt_of tkX11_bouts_k0 0 rfl) rfl (lv_at hl 0 rfl) ?_
  refine lv_iconst (v := 0) hx hb (dt_of tkX11_bouts_k0 1 rfl) (by decide) ?_
  refine va_put (D := (dC, dI)) (ci := 11) (v := .int 0) (ty := .int) (C := RX11) (T := TX11) (N := 55) hx hb hts ui_X11_bouts_X11 tyX11 tyX11_ok nmX11 hown hK hP hD hS 0 rfl rfl 0 (by decide) (hts _ uw_X11_bouts_f3) (fun _ h9 => h9) rfl (by decide +kernel) rfl rfl (Nat.le_of_ble_eq_true rfl) (dt_of tkX11_bouts_k0 2 rfl) (fun H locs hP hD hS => ?_)
  have hP : va_P (dC, dI) vwCl (wd08_1 a0 0 jaQ jaD ja7 jby jbf jaM jaY jap jaK jal jam jax jao ja6 jaV ja8 jae jag jaf ja0 jaC jaP jaw jaI jaZ jaH jaS jan jaU jaE jar jaL jah jaB jaa jaz jaG jab jaT a0_s jaq jai jaO jaA jat jau jav jaj jas jaJ jak jad jay jac jaQ cyI ja9 jaT cyI jb0 a0_s cyI f0_s) H := hP
  have hD : va_D A (wd08_1 a0 0 jaQ jaD ja7 jby jbf jaM jaY jap jaK jal jam jax jao ja6 jaV ja8 jae jag jaf ja0 jaC jaP jaw jaI jaZ jaH jaS jan jaU jaE jar jaL jah jaB jaa jaz jaG jab jaT a0_s jaq jai jaO jaA jat jau jav jaj jas jaJ jak jad jay jac jaQ cyI ja9 jaT cyI jb0 a0_s cyI f0_s) := hD
  refine lv_aload_n hx hb (dt_of tkX11_bouts_k0 3 rfl) rfl (lv_at hl 0 rfl) ?_
  refine lv_iload_n hx hb (dt_of tkX11_bouts_k0 4 rfl) rfl (lv_at hl 1 rfl) ?_
  refine lv_iconst (v := 1) hx hb (dt_of tkX11_bouts_k0 5 rfl) (by decide) ?_
  obtain ⟨hCc, hPc, hDc, hFc⟩ := va_pick (ws' := (wd08_4 a0 0 jaQ jaD ja7 jby jbf jaM jaY jap jaK jal jam jax jao ja6 jaV ja8 jae jag jaf ja0 jaC jaP jaw jaI jaZ jaH jaS jan jaU jaE jar jaL jah jaB jaa jaz jaG jab jaT a0_s jaq jai jaO jaA jat jau jav jaj jas jaJ jak jad jay jac jaQ cyI ja9)) hP hD hS hA [0, 1] (by decide +kernel) rfl
  refine va_calli (va_runV (As := [.int p1, .int 1]) (rest := []) ⟨hx, hb, hml, hown, hts⟩ (ck_X11_isHare l dC dI cyB cyI cyJ cyP a0 jaQ H.size (jaD) (ja7) (jby) (jbf) (jaM) (jaY) (jap) (jaK) (jal) (jam) (jax) (jao) (ja6) (jaV) (ja8) (jae) (jag) (jaf) (ja0) (jaP) (jaw) (jaI) (jaZ) (jaH) (jaS) (jan) (jaU) (jaE) (jar) (jaL) (jah) (jaB) (jaa) (jaz) (jaG) (jab) (.ref jaT) (.ref a0_s) (jaq) (jai) (jaO) (jaA) (jat) (jau) (jav) (jaj) (jas) (jaJ) (jak) (jad) (jay) (jac) jaC 0 ja9 p1 1 hw) (cwV 2 hts gX11_bouts_X11_isHare rfl rfl rfl (by decide +kernel) ⟨Nat.le_of_ble_eq_true rfl, Nat.le_of_ble_eq_true rfl⟩) ⟨cPc_blind, va_recv (q := (RX11, TX11, 55)) hK hPc (ci := 11) (q0 := 0) rfl rfl, cPc_pre hPc hK hDc hNw⟩ rfl rfl hl.1 rfl (lv_room (Nat.le_of_ble_eq_true rfl)) (dt_of tkX11_bouts_k0 6 rfl) ⟨Nat.le_of_ble_eq_true rfl, Nat.le_of_ble_eq_true rfl⟩) hS (fun q _ h => hFc q h) hFc (fun r3 u t H1 locs ht hvm hw hB hz1 hk1 hS => ?_)
  obtain ⟨x1, f2⟩ := u
  obtain ⟨hP1, hK1, hD1⟩ := hB
  rw [ht] at hP1
  obtain ⟨hP, hD⟩ := va_joinN (wr := [(jaT, .inl (cyI, 68, .inl jb0)), (a0_s, .inl (cyI, 68, .inl f0_s))]) (w1 := (wd08_4 a0 x1 jaQ jaD ja7 jby jbf jaM jaY jap jaK jal jam jax jao ja6 jaV ja8 jae jag jaf ja0 jaC jaP jaw jaI jaZ jaH jaS jan jaU jaE jar jaL jah jaB jaa jaz jaG jab jaT a0_s jaq jai jaO jaA jat jau jav jaj jas jaJ jak jad jay jac jaQ cyI f2)) (wn := (wd08_1 a0 x1 jaQ jaD ja7 jby jbf jaM jaY jap jaK jal jam jax jao ja6 jaV ja8 jae jag jaf ja0 jaC jaP jaw jaI jaZ jaH jaS jan jaU jaE jar jaL jah jaB jaa jaz jaG jab jaT a0_s jaq jai jaO jaA jat jau jav jaj jas jaJ jak jad jay jac jaQ cyI f2 jaT cyI jb0 a0_s cyI f0_s)) hP hD [0, 1] [2, 3] [2, 3, 0, 1] hCc rfl (by decide +kernel) (by decide +kernel) (by decide +kernel) rfl hk1 hFc hP1 hD1
  generalize H1 = H at hP hS ⊢
  refine lv_if_ne (tgt := 16) hx hb (dt_of tkX11_bouts_k0 7 rfl) (by decide) (fun c4 => ?_) (fun c4 => ?_)
  · have hw := hw.1 c4
    refine lv_aload_n hx hb (dt_of tkX11_bouts_k0 10 rfl) rfl (lv_at hl 0 rfl) ?_
    obtain ⟨hCc, hPc, hDc, hFc⟩ := va_pick (ws' := (wd08_5 a0 x1 jaQ jaD ja7 jby jbf jaM jaY jap jaK jal jam jax jao ja6 jaV ja8 jae jag jaf ja0 jaC jaP jaw jaI jaZ jaH jaS jan jaU jaE jar jaL jah jaB jaa jaz jaG jab jaT a0_s jaq jai jaO jaA jat jau jav jaj jas jaJ jak jad jay jac jaT cyI jb0 a0_s cyI f0_s)) hP hD hS hA [0, 2, 3] (by decide +kernel) rfl
    refine va_callv (va_runV (As := []) (rest := []) ⟨hx, hb, hml, hown, hts⟩ (ck_X11_take l dC dI cyB cyI cyJ cyP a0 jaT a0_s H.size (.int x1) (.ref jaQ) (jaD) (ja7) (jby) (jbf) (jaM) (jaY) (jap) (jaK) (jal) (jam) (jax) (jao) (ja6) (jaV) (ja8) (jae) (jag) (jaf) (ja0) (.int jaC) (jaP) (jaw) (jaI) (jaZ) (jaH) (jaS) (jan) (jaU) (jaE) (jar) (jaL) (jah) (jaB) (jaa) (jaz) (jaG) (jab) (jaq) (jai) (jaO) (jaA) (jat) (jau) (jav) (jaj) (jas) (jaJ) (jak) (jad) (jay) (jac) jb0 f0_s  hw) (cwV 0 hts gX11_bouts_X11_take rfl rfl rfl (by decide +kernel) ⟨Nat.le_of_ble_eq_true rfl, Nat.le_of_ble_eq_true rfl⟩) ⟨cPc_blind, va_recv (q := (RX11, TX11, 55)) hK hPc (ci := 11) (q0 := 0) rfl rfl, cPc_pre hPc hK hDc hNw⟩ rfl rfl hl.1 rfl (lv_room (Nat.le_of_ble_eq_true rfl)) (dt_of tkX11_bouts_k0 11 rfl) ⟨Nat.le_of_ble_eq_true rfl, Nat.le_of_ble_eq_true rfl⟩) hS (fun q _ h => hFc q h) hFc (fun u t H1 locs ht hvm hw hB hz1 hk1 hS => ?_)
    obtain ⟨f5, rfl⟩ : ∃ z, z = u := ⟨_, rfl⟩
    obtain ⟨hP1, hK1, hD1⟩ := hB
    rw [ht] at hP1
    obtain ⟨hP, hD⟩ := va_joinN (wr := [(jaQ, .inl (cyI, 2, .inl f2))]) (w1 := (wd08_5 a0 x1 jaQ jaD ja7 jby jbf jaM jaY jap jaK jal jam jax jao ja6 jaV ja8 jae jag jaf ja0 jaC jaP jaw jaI jaZ jaH jaS jan jaU jaE jar jaL jah jaB jaa jaz jaG jab jaT a0_s jaq jai jaO jaA jat jau jav jaj jas jaJ jak jad jay jac jaT cyI jb0 a0_s cyI f5)) (wn := (wd08_1 a0 x1 jaQ jaD ja7 jby jbf jaM jaY jap jaK jal jam jax jao ja6 jaV ja8 jae jag jaf ja0 jaC jaP jaw jaI jaZ jaH jaS jan jaU jaE jar jaL jah jaB jaa jaz jaG jab jaT a0_s jaq jai jaO jaA jat jau jav jaj jas jaJ jak jad jay jac jaQ cyI f2 jaT cyI jb0 a0_s cyI f5)) hP hD [0, 2, 3] [1] [1, 0, 2, 3] hCc rfl (by decide +kernel) (by decide +kernel) (by decide +kernel) rfl hk1 hFc hP1 hD1
    generalize H1 = H at hP hS ⊢
    refine lv_iconst (v := 1) hx hb (dt_of tkX11_bouts_k0 12 rfl) (by decide) ?_
    refine lv_aload_n hx hb (dt_of tkX11_bouts_k0 13 rfl) rfl (lv_at hl 0 rfl) ?_
    refine va_get (D := (dC, dI)) (ci := 11) (v := .int jaC) (C := RX11) (T := TX11) (N := 55) hx hb hts ui_X11_bouts_X11 hown hK hP 0 rfl rfl 21 (by decide) (hts _ uw_X11_bouts_f169) (fun _ h9 => h9) rfl (dt_of tkX11_bouts_k0 14 rfl) ?_
    refine lv_ishl hx hb (dt_of tkX11_bouts_k0 15 rfl) ?_
    refine lv_iconst (v := 1) hx hb (dt_of tkX11_bouts_k26 0 rfl) (by decide) ?_
    refine lv_isub hx hb (dt_of tkX11_bouts_k26 1 rfl) ?_
    refine lv_aload_n hx hb (dt_of tkX11_bouts_k26 2 rfl) rfl (lv_at hl 0 rfl) ?_
    obtain ⟨hCc, hPc, hDc, hFc⟩ := va_pick (ws' := (wd08_2 a0 x1 jaQ jaD ja7 jby jbf jaM jaY jap jaK jal jam jax jao ja6 jaV ja8 jae jag jaf ja0 jaC jaP jaw jaI jaZ jaH jaS jan jaU jaE jar jaL jah jaB jaa jaz jaG jab jaT a0_s jaq jai jaO jaA jat jau jav jaj jas jaJ jak jad jay jac a0_s cyI f5)) hP hD hS hA [0, 3] (by decide +kernel) rfl
    refine va_calli (va_runV (As := []) (rest := [.int ((1 <<< (jaC &&& 31)) - 1)]) ⟨hx, hb, hml, hown, hts⟩ (ck_X11_caughtNow l dC dI cyB cyI cyJ cyP a0 a0_s H.size (.int x1) (.ref jaQ) (jaD) (ja7) (jby) (jbf) (jaM) (jaY) (jap) (jaK) (jal) (jam) (jax) (jao) (ja6) (jaV) (ja8) (jae) (jag) (jaf) (ja0) (jaP) (jaw) (jaI) (jaZ) (jaH) (jaS) (jan) (jaU) (jaE) (jar) (jaL) (jah) (jaB) (jaa) (jaz) (jaG) (jab) (.ref jaT) (jaq) (jai) (jaO) (jaA) (jat) (jau) (jav) (jaj) (jas) (jaJ) (jak) (jad) (jay) (jac) jaC f5   hw) (cwV 0 hts gX11_bouts_X11_caughtNow rfl rfl rfl (by decide +kernel) ⟨Nat.le_of_ble_eq_true rfl, Nat.le_of_ble_eq_true rfl⟩) ⟨cPc_blind, va_recv (q := (RX11, TX11, 55)) hK hPc (ci := 11) (q0 := 0) rfl rfl, cPc_pre hPc hK hDc hNw⟩ rfl rfl hl.1 rfl (lv_room (Nat.le_of_ble_eq_true rfl)) (dt_of tkX11_bouts_k26 3 rfl) ⟨Nat.le_of_ble_eq_true rfl, Nat.le_of_ble_eq_true rfl⟩) hS (fun q _ h => hFc q h) hFc (fun r6 u t H1 locs ht hvm hw hB hz1 hk1 hS => ?_)
    obtain ⟨hP1, hK1, hD1⟩ := hB
    rw [ht] at hP1
    obtain ⟨hP, hD⟩ := va_joinN (wr := (wd08_3 jaQ cyI f2 jaT cyI jb0)) (w1 := (wd08_2 a0 x1 jaQ jaD ja7 jby jbf jaM jaY jap jaK jal jam jax jao ja6 jaV ja8 jae jag jaf ja0 jaC jaP jaw jaI jaZ jaH jaS jan jaU jaE jar jaL jah jaB jaa jaz jaG jab jaT a0_s jaq jai jaO jaA jat jau jav jaj jas jaJ jak jad jay jac a0_s cyI f5)) (wn := (wd08_1 a0 x1 jaQ jaD ja7 jby jbf jaM jaY jap jaK jal jam jax jao ja6 jaV ja8 jae jag jaf ja0 jaC jaP jaw jaI jaZ jaH jaS jan jaU jaE jar jaL jah jaB jaa jaz jaG jab jaT a0_s jaq jai jaO jaA jat jau jav jaj jas jaJ jak jad jay jac jaQ cyI f2 jaT cyI jb0 a0_s cyI f5)) hP hD [0, 3] [1, 2] [2, 0, 1, 3] hCc rfl (by decide +kernel) (by decide +kernel) (by decide +kernel) rfl hk1 hFc hP1 hD1
    generalize H1 = H at hP hS ⊢
    refine lv_iconst (v := (-1)) hx hb (dt_of tkX11_bouts_k26 4 rfl) (by decide) ?_
    refine lv_ixor hx hb (dt_of tkX11_bouts_k26 5 rfl) ?_
    refine lv_iand hx hb (dt_of tkX11_bouts_k26 6 rfl) ?_
    refine lv_topi (fun x7 ex7 => ?_)
    have hw := hw x7 ex7
    refine lv_istore_n (lv' := [(2, .int x7), (0, .ref a0), (1, .int p1)]) hx hb (dt_of tkX11_bouts_k26 7 rfl) rfl hl (by decide) rfl (fun ls hl => ?_)
    refine lv_iconst (v := 0) hx hb (dt_of tkX11_bouts_k26 8 rfl) (by decide) ?_
    refine lv_istore_n (lv' := [(3, .int 0), (2, .int x7), (0, .ref a0), (1, .int p1)]) hx hb (dt_of tkX11_bouts_k26 9 rfl) rfl hl (by decide) rfl (fun ls hl => ?_)
    refine lv_iconst (v := 0) hx hb (dt_of tkX11_bouts_k26 10 rfl) (by decide) ?_
    refine lv_istore (lv' := [(4, .int 0), (3, .int 0), (2, .int x7), (0, .ref a0), (1, .int p1)]) hx hb (dt_of tkX11_bouts_k26 11 rfl) hl (by decide) rfl (fun ls hl => ?_)
    obtain ⟨n9, hw⟩ := hw
    exact kl_X11_bouts_41 dC dI cyB cyI cyJ cyP a0 jaQ jaT a0_s jaD ja7 jby jbf jaM jaY jap jaK jal jam jax jao ja6 jaV ja8 jae jag jaf ja0 jaP jaw jaI jaZ jaH jaS jan jaU jaE jar jaL jah jaB jaa jaz jaG jab jaq jai jaO jaA jat jau jav jaj jas jaJ jak jad jay jac jaC jb0 Q  C0 n9 _ _ _ x1 f2 f5 p1 x7 0 0 hP hD hS (lv_sub hl [3, 4, 2, 1, 0] rfl) hw
  · have hw := hw.2 c4
    refine lv_iconst (v := 0) hx hb (dt_of tkX11_bouts_k0 8 rfl) (by decide) ?_
    exact ((W.iret (v := 0) hx hb hr (fun t ht hW => ⟨⟨0, (x1, f2, f0_s), rfl, hw, by rw [ht]; exact hP, va_K.moved hW.alike hK, hD⟩, hS.F ht⟩) hS.2.2 (dt_of tkX11_bouts_k0 9 rfl)))
theorem ui_X11_boxes_X11 : ∀ w ∈ u_ws RX11 TX11 55, w ∈ wsX11_boxes := uiM mbX11_boxes euX11 (by decide +kernel)
theorem uw_X11_boxes_f71 : (.fieldLink RX11 71 "MarchHaresModel" "s" "[I" : Cond) ∈ wsX11_boxes := mbX11_boxes 457 (by decide +kernel)
set_option maxHeartbeats 4000000 in
set_option maxRecDepth 100000 in
theorem kb_X11_boxes_88 {p : Program} {l : Launch} {e : Env} {s : State} {m : MethodId} {args : Array Value} {below : List Frame} {meth : Method} {c : Code} {A : Nat → Prop} (dC : Nat → ClassId) (dI : Nat → Nat → Nat) (cyB cyI cyJ cyP : ClassId) (a0 a0_s : Nat) (jaX jaF jaD ja7 jby jbf jaM jaY jap jaK jal jam jax jao ja6 jaV ja8 jae jag jaf ja0 ja4 jaP jaw jaI jaZ jaH jaS jan jaU jaE jar jaL jah jaB jaa jaz jaG jab ja2 jaq jai jaO jaA jat jau jav jaj jas jaJ jak jad jay jac : Value)  (Q : Int32 → (Nat → Int32) → Prop)  (C0 : cfx p s m args meth c cX11_boxes (some .boolean) wsX11_boxes RX11 4 A (dC, dI) (kT cyB cyI cyJ cyP)) : ∀ (H : Heap) (locs : List Loc) (ls : Array Slot) (f0_s : Nat → Int32) (l1 l2 s1 s2 s3 : Int32), va_P (dC, dI) vwCl (wd08_6 a0 jaX jaF jaD ja7 jby jbf jaM jaY jap jaK jal jam jax jao ja6 jaV ja8 jae jag jaf ja0 ja4 jaP jaw jaI jaZ jaH jaS jan jaU jaE jar jaL jah jaB jaa jaz jaG jab ja2 a0_s jaq jai jaO jaA jat jau jav jaj jas jaJ jak jad jay jac a0_s cyI f0_s) H → va_D A (wd08_6 a0 jaX jaF jaD ja7 jby jbf jaM jaY jap jaK jal jam jax jao ja6 jaV ja8 jae jag jaf ja0 ja4 jaP jaw jaI jaZ jaH jaS jan jaU jaE jar jaL jah jaB jaa jaz jaG jab ja2 a0_s jaq jai jaO jaA jat jau jav jaj jas jaJ jak jad jay jac a0_s cyI f0_s) → va_S A s.heap H locs → lv_has ls 4 [(0, .ref a0), (1, .int l1), (2, .int l2)] → wb_X11_boxes_88  Q  f0_s l1 l2 s1 s2 s3 → W p l e (headSpec wsX11_boxes ({ frames := 1, cells := 0, slots := 0, locals := 21 })).room s m args below meth c H locs 0 0 (MQ below (va_Qi (fun (r : Int32) (u : (Nat → Int32)) => Q r u) (cB (dC, dI) (kT cyB cyI cyJ cyP) A (fun u : (Nat → Int32) => ((wd08_6 a0 jaX jaF jaD ja7 jby jbf jaM jaY jap jaK jal jam jax jao ja6 jaV ja8 jae jag jaf ja0 ja4 jaP jaw jaI jaZ jaH jaS jan jaU jaE jar jaL jah jaB jaa jaz jaG jab ja2 a0_s jaq jai jaO jaA jat jau jav jaj jas jaJ jak jad jay jac a0_s cyI u) : va_W))) A) args s 0 0 A) (F0 m 88 ls [.int s3, .int s2, .int s1, .ref a0_s]) := by
  obtain ⟨hx, hb, hr, hts, hown, hlocks, hml, hA, hK, hNw⟩ := id C0
  intro H locs ls f0_s l1 l2 s1 s2 s3 hP hD hS hl hw
  refine lv_isub hx hb (dt_of tkX11_boxes_k75 8 rfl) ?_
  refine lv_topi (fun x19 ex19 => ?_)
  have hw := hw x19 ex19
  obtain ⟨hi9, hw⟩ := hw
  refine va_iast hx hb hK hP hD hS 1 1 rfl rfl hi9 (dt_of tkX11_boxes_k75 9 rfl) (fun H locs hP hD hS => ?_)
  obtain ⟨f20, ef20⟩ : ∃ y : Nat → Int32, y = upd f0_s s1.toNatClampNeg x19 := ⟨_, rfl⟩
  have hw := hw f20 ef20
  have hP : va_P (dC, dI) vwCl (wd08_6 a0 jaX jaF jaD ja7 jby jbf jaM jaY jap jaK jal jam jax jao ja6 jaV ja8 jae jag jaf ja0 ja4 jaP jaw jaI jaZ jaH jaS jan jaU jaE jar jaL jah jaB jaa jaz jaG jab ja2 a0_s jaq jai jaO jaA jat jau jav jaj jas jaJ jak jad jay jac a0_s cyI f20) H := by rw [ef20]; exact hP
  have hD : va_D A (wd08_6 a0 jaX jaF jaD ja7 jby jbf jaM jaY jap jaK jal jam jax jao ja6 jaV ja8 jae jag jaf ja0 ja4 jaP jaw jaI jaZ jaH jaS jan jaU jaE jar jaL jah jaB jaa jaz jaG jab ja2 a0_s jaq jai jaO jaA jat jau jav jaj jas jaJ jak jad jay jac a0_s cyI f20) := by rw [ef20]; exact hD
  refine lv_aload_n hx hb (dt_of tkX11_boxes_k75 10 rfl) rfl (lv_at hl 0 rfl) ?_
  refine va_get (D := (dC, dI)) (ci := 11) (v := .ref a0_s) (C := RX11) (T := TX11) (N := 55) hx hb hts ui_X11_boxes_X11 hown hK hP 0 rfl rfl 40 (by decide) (hts _ uw_X11_boxes_f71) (fun _ h9 => h9) rfl (dt_of tkX11_boxes_k75 11 rfl) ?_
  refine lv_bipush (v := 12) hx hb (dt_of tkX11_boxes_k75 12 rfl) (by decide) ?_
  refine lv_iload_n hx hb (dt_of tkX11_boxes_k75 13 rfl) rfl (lv_at hl 1 rfl) ?_
  refine lv_iadd hx hb (dt_of tkX11_boxes_k75 14 rfl) ?_
  refine lv_topi (fun x21 ex21 => ?_)
  have hw := hw x21 ex21
  refine lv_iconst (v := 0) hx hb (dt_of tkX11_boxes_k75 15 rfl) (by decide) ?_
  obtain ⟨hi9, hw⟩ := hw
  refine va_iast hx hb hK hP hD hS 1 1 rfl rfl hi9 (dt_of tkX11_boxes_k99 0 rfl) (fun H locs hP hD hS => ?_)
  obtain ⟨f22, ef22⟩ : ∃ y : Nat → Int32, y = upd f20 x21.toNatClampNeg 0 := ⟨_, rfl⟩
  have hw := hw f22 ef22
  have hP : va_P (dC, dI) vwCl (wd08_6 a0 jaX jaF jaD ja7 jby jbf jaM jaY jap jaK jal jam jax jao ja6 jaV ja8 jae jag jaf ja0 ja4 jaP jaw jaI jaZ jaH jaS jan jaU jaE jar jaL jah jaB jaa jaz jaG jab ja2 a0_s jaq jai jaO jaA jat jau jav jaj jas jaJ jak jad jay jac a0_s cyI f22) H := by rw [ef22]; exact hP
  have hD : va_D A (wd08_6 a0 jaX jaF jaD ja7 jby jbf jaM jaY jap jaK jal jam jax jao ja6 jaV ja8 jae jag jaf ja0 ja4 jaP jaw jaI jaZ jaH jaS jan jaU jaE jar jaL jah jaB jaa jaz jaG jab ja2 a0_s jaq jai jaO jaA jat jau jav jaj jas jaJ jak jad jay jac a0_s cyI f22) := by rw [ef22]; exact hD
  refine lv_aload_n hx hb (dt_of tkX11_boxes_k99 1 rfl) rfl (lv_at hl 0 rfl) ?_
  refine va_get (D := (dC, dI)) (ci := 11) (v := .ref a0_s) (C := RX11) (T := TX11) (N := 55) hx hb hts ui_X11_boxes_X11 hown hK hP 0 rfl rfl 40 (by decide) (hts _ uw_X11_boxes_f71) (fun _ h9 => h9) rfl (dt_of tkX11_boxes_k99 2 rfl) ?_
  refine lv_bipush (v := 12) hx hb (dt_of tkX11_boxes_k99 3 rfl) (by decide) ?_
  refine lv_iload_n hx hb (dt_of tkX11_boxes_k99 4 rfl) rfl (lv_at hl 2 rfl) ?_
  refine lv_iadd hx hb (dt_of tkX11_boxes_k99 5 rfl) ?_
  refine lv_topi (fun x23 ex23 => ?_)
  have hw := hw x23 ex23
  refine lv_iconst (v := 0) hx hb (dt_of tkX11_boxes_k99 6 rfl) (by decide) ?_
  obtain ⟨hi9, hw⟩ := hw
  refine va_iast hx hb hK hP hD hS 1 1 rfl rfl hi9 (dt_of tkX11_boxes_k99 7 rfl) (fun H locs hP hD hS => ?_)
  obtain ⟨f24, ef24⟩ : ∃ y : Nat → Int32, y = upd f22 x23.toNatClampNeg 0 := ⟨_, rfl⟩
  have hw := hw f24 ef24
  have hP : va_P (dC, dI) vwCl (wd08_6 a0 jaX jaF jaD ja7 jby jbf jaM jaY jap jaK jal jam jax jao ja6 jaV ja8 jae jag jaf ja0 ja4 jaP jaw jaI jaZ jaH jaS jan jaU jaE jar jaL jah jaB jaa jaz jaG jab ja2 a0_s jaq jai jaO jaA jat jau jav jaj jas jaJ jak jad jay jac a0_s cyI f24) H := by rw [ef24]; exact hP
  have hD : va_D A (wd08_6 a0 jaX jaF jaD ja7 jby jbf jaM jaY jap jaK jal jam jax jao ja6 jaV ja8 jae jag jaf ja0 ja4 jaP jaw jaI jaZ jaH jaS jan jaU jaE jar jaL jah jaB jaa jaz jaG jab ja2 a0_s jaq jai jaO jaA jat jau jav jaj jas jaJ jak jad jay jac a0_s cyI f24) := by rw [ef24]; exact hD
  refine lv_aload_n hx hb (dt_of tkX11_boxes_k99 8 rfl) rfl (lv_at hl 0 rfl) ?_
  refine va_get (D := (dC, dI)) (ci := 11) (v := .ref a0_s) (C := RX11) (T := TX11) (N := 55) hx hb hts ui_X11_boxes_X11 hown hK hP 0 rfl rfl 40 (by decide) (hts _ uw_X11_boxes_f71) (fun _ h9 => h9) rfl (dt_of tkX11_boxes_k99 9 rfl) ?_
  refine lv_bipush (v := 24) hx hb (dt_of tkX11_boxes_k99 10 rfl) (by decide) ?_
  refine lv_iload_n hx hb (dt_of tkX11_boxes_k99 11 rfl) rfl (lv_at hl 1 rfl) ?_
  refine lv_iadd hx hb (dt_of tkX11_boxes_k99 12 rfl) ?_
  refine lv_topi (fun x25 ex25 => ?_)
  have hw := hw x25 ex25
  refine lv_iconst (v := 1) hx hb (dt_of tkX11_boxes_k99 13 rfl) (by decide) ?_
  obtain ⟨hi9, hw⟩ := hw
  refine va_iast hx hb hK hP hD hS 1 1 rfl rfl hi9 (dt_of tkX11_boxes_k99 14 rfl) (fun H locs hP hD hS => ?_)
  obtain ⟨f26, ef26⟩ : ∃ y : Nat → Int32, y = upd f24 x25.toNatClampNeg 1 := ⟨_, rfl⟩
  have hw := hw f26 ef26
  have hP : va_P (dC, dI) vwCl (wd08_6 a0 jaX jaF jaD ja7 jby jbf jaM jaY jap jaK jal jam jax jao ja6 jaV ja8 jae jag jaf ja0 ja4 jaP jaw jaI jaZ jaH jaS jan jaU jaE jar jaL jah jaB jaa jaz jaG jab ja2 a0_s jaq jai jaO jaA jat jau jav jaj jas jaJ jak jad jay jac a0_s cyI f26) H := by rw [ef26]; exact hP
  have hD : va_D A (wd08_6 a0 jaX jaF jaD ja7 jby jbf jaM jaY jap jaK jal jam jax jao ja6 jaV ja8 jae jag jaf ja0 ja4 jaP jaw jaI jaZ jaH jaS jan jaU jaE jar jaL jah jaB jaa jaz jaG jab ja2 a0_s jaq jai jaO jaA jat jau jav jaj jas jaJ jak jad jay jac a0_s cyI f26) := by rw [ef26]; exact hD
  refine lv_aload_n hx hb (dt_of tkX11_boxes_k99 15 rfl) rfl (lv_at hl 0 rfl) ?_
  refine va_get (D := (dC, dI)) (ci := 11) (v := .ref a0_s) (C := RX11) (T := TX11) (N := 55) hx hb hts ui_X11_boxes_X11 hown hK hP 0 rfl rfl 40 (by decide) (hts _ uw_X11_boxes_f71) (fun _ h9 => h9) rfl (dt_of tkX11_boxes_k121 0 rfl) ?_
  refine lv_bipush (v := 24) hx hb (dt_of tkX11_boxes_k121 1 rfl) (by decide) ?_
  refine lv_iload_n hx hb (dt_of tkX11_boxes_k121 2 rfl) rfl (lv_at hl 2 rfl) ?_
  refine lv_iadd hx hb (dt_of tkX11_boxes_k121 3 rfl) ?_
  refine lv_topi (fun x27 ex27 => ?_)
  have hw := hw x27 ex27
  refine lv_iconst (v := 1) hx hb (dt_of tkX11_boxes_k121 4 rfl) (by decide) ?_
  obtain ⟨hi9, hw⟩ := hw
  refine va_iast hx hb hK hP hD hS 1 1 rfl rfl hi9 (dt_of tkX11_boxes_k121 5 rfl) (fun H locs hP hD hS => ?_)
  obtain ⟨f28, ef28⟩ : ∃ y : Nat → Int32, y = upd f26 x27.toNatClampNeg 1 := ⟨_, rfl⟩
  have hw := hw f28 ef28
  have hP : va_P (dC, dI) vwCl (wd08_6 a0 jaX jaF jaD ja7 jby jbf jaM jaY jap jaK jal jam jax jao ja6 jaV ja8 jae jag jaf ja0 ja4 jaP jaw jaI jaZ jaH jaS jan jaU jaE jar jaL jah jaB jaa jaz jaG jab ja2 a0_s jaq jai jaO jaA jat jau jav jaj jas jaJ jak jad jay jac a0_s cyI f28) H := by rw [ef28]; exact hP
  have hD : va_D A (wd08_6 a0 jaX jaF jaD ja7 jby jbf jaM jaY jap jaK jal jam jax jao ja6 jaV ja8 jae jag jaf ja0 ja4 jaP jaw jaI jaZ jaH jaS jan jaU jaE jar jaL jah jaB jaa jaz jaG jab ja2 a0_s jaq jai jaO jaA jat jau jav jaj jas jaJ jak jad jay jac a0_s cyI f28) := by rw [ef28]; exact hD
  refine lv_iconst (v := 1) hx hb (dt_of tkX11_boxes_k121 6 rfl) (by decide) ?_
  exact ((W.zret (v := 1) hx hb hr rfl (fun t ht hW => ⟨⟨1, (f28), rfl, hw, by rw [ht]; exact hP, va_K.moved hW.alike hK, hD⟩, hS.F ht⟩) hS.2.2 (dt_of tkX11_boxes_k121 7 rfl)))
set_option maxHeartbeats 4000000 in
set_option maxRecDepth 100000 in
theorem kb_X11_boxes_60 {p : Program} {l : Launch} {e : Env} {s : State} {m : MethodId} {args : Array Value} {below : List Frame} {meth : Method} {c : Code} {A : Nat → Prop} (dC : Nat → ClassId) (dI : Nat → Nat → Nat) (cyB cyI cyJ cyP : ClassId) (a0 a0_s : Nat) (jaX jaF jaD ja7 jby jbf jaM jaY jap jaK jal jam jax jao ja6 jaV ja8 jae jag jaf ja0 ja4 jaP jaw jaI jaZ jaH jaS jan jaU jaE jar jaL jah jaB jaa jaz jaG jab ja2 jaq jai jaO jaA jat jau jav jaj jas jaJ jak jad jay jac : Value)  (Q : Int32 → (Nat → Int32) → Prop)  (C0 : cfx p s m args meth c cX11_boxes (some .boolean) wsX11_boxes RX11 4 A (dC, dI) (kT cyB cyI cyJ cyP)) : ∀ (H : Heap) (locs : List Loc) (ls : Array Slot) (f0_s : Nat → Int32) (l1 l2 s0 : Int32), va_P (dC, dI) vwCl (wd08_6 a0 jaX jaF jaD ja7 jby jbf jaM jaY jap jaK jal jam jax jao ja6 jaV ja8 jae jag jaf ja0 ja4 jaP jaw jaI jaZ jaH jaS jan jaU jaE jar jaL jah jaB jaa jaz jaG jab ja2 a0_s jaq jai jaO jaA jat jau jav jaj jas jaJ jak jad jay jac a0_s cyI f0_s) H → va_D A (wd08_6 a0 jaX jaF jaD ja7 jby jbf jaM jaY jap jaK jal jam jax jao ja6 jaV ja8 jae jag jaf ja0 ja4 jaP jaw jaI jaZ jaH jaS jan jaU jaE jar jaL jah jaB jaa jaz jaG jab ja2 a0_s jaq jai jaO jaA jat jau jav jaj jas jaJ jak jad jay jac a0_s cyI f0_s) → va_S A s.heap H locs → lv_has ls 4 [(0, .ref a0), (1, .int l1), (2, .int l2)] → wb_X11_boxes_60  Q  f0_s l1 l2 s0 → W p l e (headSpec wsX11_boxes ({ frames := 1, cells := 0, slots := 0, locals := 21 })).room s m args below meth c H locs 0 0 (MQ below (va_Qi (fun (r : Int32) (u : (Nat → Int32)) => Q r u) (cB (dC, dI) (kT cyB cyI cyJ cyP) A (fun u : (Nat → Int32) => ((wd08_6 a0 jaX jaF jaD ja7 jby jbf jaM jaY jap jaK jal jam jax jao ja6 jaV ja8 jae jag jaf ja0 ja4 jaP jaw jaI jaZ jaH jaS jan jaU jaE jar jaL jah jaB jaa jaz jaG jab ja2 a0_s jaq jai jaO jaA jat jau jav jaj jas jaJ jak jad jay jac a0_s cyI u) : va_W))) A) args s 0 0 A) (F0 m 60 ls [.int s0]) := by
  obtain ⟨hx, hb, hr, hts, hown, hlocks, hml, hA, hK, hNw⟩ := id C0
  intro H locs ls f0_s l1 l2 s0 hP hD hS hl hw
  refine lv_istore_n (lv' := [(3, .int s0), (0, .ref a0), (1, .int l1), (2, .int l2)]) hx hb (dt_of tkX11_boxes_k50 6 rfl) rfl hl (by decide) rfl (fun ls hl => ?_)
  refine lv_aload_n hx hb (dt_of tkX11_boxes_k50 7 rfl) rfl (lv_at hl 1 rfl) ?_
  refine va_get (D := (dC, dI)) (ci := 11) (v := .ref a0_s) (C := RX11) (T := TX11) (N := 55) hx hb hts ui_X11_boxes_X11 hown hK hP 0 rfl rfl 40 (by decide) (hts _ uw_X11_boxes_f71) (fun _ h9 => h9) rfl (dt_of tkX11_boxes_k50 8 rfl) ?_
  refine lv_bipush (v := 6) hx hb (dt_of tkX11_boxes_k50 9 rfl) (by decide) ?_
  refine lv_iload_n hx hb (dt_of tkX11_boxes_k50 10 rfl) rfl (lv_at hl 0 rfl) ?_
  refine lv_iadd hx hb (dt_of tkX11_boxes_k50 11 rfl) ?_
  refine lv_topi (fun x14 ex14 => ?_)
  have hw := hw x14 ex14
  refine lv_dup2_11 hx hb (dt_of tkX11_boxes_k50 12 rfl) rfl rfl ?_
  obtain ⟨hi9, hw⟩ := hw
  refine va_iald hx hb hK hP 1 1 rfl rfl hi9 (dt_of tkX11_boxes_k50 13 rfl) ?_
  refine lv_topi (fun x15 ex15 => ?_)
  have hw := hw x15 ex15
  refine lv_aload_n hx hb (dt_of tkX11_boxes_k50 14 rfl) rfl (lv_at hl 1 rfl) ?_
  refine va_get (D := (dC, dI)) (ci := 11) (v := .ref a0_s) (C := RX11) (T := TX11) (N := 55) hx hb hts ui_X11_boxes_X11 hown hK hP 0 rfl rfl 40 (by decide) (hts _ uw_X11_boxes_f71) (fun _ h9 => h9) rfl (dt_of tkX11_boxes_k50 15 rfl) ?_
  refine lv_bipush (v := 6) hx hb (dt_of tkX11_boxes_k75 0 rfl) (by decide) ?_
  refine lv_iload_n hx hb (dt_of tkX11_boxes_k75 1 rfl) rfl (lv_at hl 0 rfl) ?_
  refine lv_iadd hx hb (dt_of tkX11_boxes_k75 2 rfl) ?_
  refine lv_topi (fun x16 ex16 => ?_)
  have hw := hw x16 ex16
  obtain ⟨hi9, hw⟩ := hw
  refine va_iald hx hb hK hP 1 1 rfl rfl hi9 (dt_of tkX11_boxes_k75 3 rfl) ?_
  refine lv_topi (fun x17 ex17 => ?_)
  have hw := hw x17 ex17
  refine lv_if_le (tgt := 87) hx hb (dt_of tkX11_boxes_k75 4 rfl) (by decide) (fun c18 => ?_) (fun c18 => ?_)
  · have hw := hw.1 c18
    refine lv_iconst (v := 0) hx hb (dt_of tkX11_boxes_k75 7 rfl) (by decide) ?_
    exact kb_X11_boxes_88 dC dI cyB cyI cyJ cyP a0 a0_s jaX jaF jaD ja7 jby jbf jaM jaY jap jaK jal jam jax jao ja6 jaV ja8 jae jag jaf ja0 ja4 jaP jaw jaI jaZ jaH jaS jan jaU jaE jar jaL jah jaB jaa jaz jaG jab ja2 jaq jai jaO jaA jat jau jav jaj jas jaJ jak jad jay jac  Q  C0 _ _ _ f0_s l1 l2 x14 x15 0 hP hD hS (lv_sub hl [1, 2, 3] rfl) hw
  · have hw := hw.2 c18
    refine lv_iconst (v := 1) hx hb (dt_of tkX11_boxes_k75 5 rfl) (by decide) ?_
    refine lv_goto (tgt := 88) hx hb (dt_of tkX11_boxes_k75 6 rfl) (by decide) ?_
    exact kb_X11_boxes_88 dC dI cyB cyI cyJ cyP a0 a0_s jaX jaF jaD ja7 jby jbf jaM jaY jap jaK jal jam jax jao ja6 jaV ja8 jae jag jaf ja0 ja4 jaP jaw jaI jaZ jaH jaS jan jaU jaE jar jaL jah jaB jaa jaz jaG jab ja2 jaq jai jaO jaA jat jau jav jaj jas jaJ jak jad jay jac  Q  C0 _ _ _ f0_s l1 l2 x14 x15 1 hP hD hS (lv_sub hl [1, 2, 3] rfl) hw
set_option maxHeartbeats 4000000 in
set_option maxRecDepth 100000 in
theorem ck_X11_boxes (l : Launch) (dC : Nat → ClassId) (dI : Nat → Nat → Nat) (cyB cyI cyJ cyP : ClassId) (a0 a0_s sz : Nat) (jaX jaF jaD ja7 jby jbf jaM jaY jap jaK jal jam jax jao ja6 jaV ja8 jae jag jaf ja0 ja4 jaP jaw jaI jaZ jaH jaS jan jaU jaE jar jaL jah jaB jaa jaz jaG jab ja2 jaq jai jaO jaA jat jau jav jaj jas jaJ jak jad jay jac : Value)  (f0_s : Nat → Int32) (p1 p2 : Int32) {Q : Int32 → (Nat → Int32) → Prop} (hw : wq_X11_boxes  f0_s p1 p2 Q) : Met l yX11_boxes wsX11_boxes ({ frames := 1, cells := 0, slots := 0, locals := 21 }) (va_Pc [.ref a0, .int p1, .int p2] (cPc (dC, dI) (kT cyB cyI cyJ cyP) (wd08_6 a0 jaX jaF jaD ja7 jby jbf jaM jaY jap jaK jal jam jax jao ja6 jaV ja8 jae jag jaf ja0 ja4 jaP jaw jaI jaZ jaH jaS jan jaU jaE jar jaL jah jaB jaa jaz jaG jab ja2 a0_s jaq jai jaO jaA jat jau jav jaj jas jaJ jak jad jay jac a0_s cyI f0_s) sz)) (va_Qi (fun (r : Int32) (u : (Nat → Int32)) => Q r u) (cB (dC, dI) (kT cyB cyI cyJ cyP) (va_A (wd08_6 a0 jaX jaF jaD ja7 jby jbf jaM jaY jap jaK jal jam jax jao ja6 jaV ja8 jae jag jaf ja0 ja4 jaP jaw jaI jaZ jaH jaS jan jaU jaE jar jaL jah jaB jaa jaz jaG jab ja2 a0_s jaq jai jaO jaA jat jau jav jaj jas jaJ jak jad jay jac a0_s cyI f0_s) sz) (fun u : (Nat → Int32) => ((wd08_6 a0 jaX jaF jaD ja7 jby jbf jaM jaY jap jaK jal jam jax jao ja6 jaV ja8 jae jag jaf ja0 ja4 jaP jaw jaI jaZ jaH jaS jan jaU jaE jar jaL jah jaB jaa jaz jaG jab ja2 a0_s jaq jai jaO jaA jat jau jav jaj jas jaJ jak jad jay jac a0_s cyI u) : va_W))) (va_A (wd08_6 a0 jaX jaF jaD ja7 jby jbf jaM jaY jap jaK jal jam jax jao ja6 jaV ja8 jae jag jaf ja0 ja4 jaP jaw jaI jaZ jaH jaS jan jaU jaE jar jaL jah jaB jaa jaz jaG jab ja2 a0_s jaq jai jaO jaA jat jau jav jaj jas jaJ jak jad jay jac a0_s cyI f0_s) sz)) 0 0 (va_A (wd08_6 a0 jaX jaF jaD ja7 jby jbf jaM jaY jap jaK jal jam jax jao ja6 jaV ja8 jae jag jaf ja0 ja4 jaP jaw jaI jaZ jaH jaS jan jaU jaE jar jaL jah jaB jaa jaz jaG jab ja2 a0_s jaq jai jaO jaA jat jau jav jaj jas jaJ jak jad jay jac a0_s cyI f0_s) sz) := by
  refine Met.ofW (cc := cX11_boxes) (maxL := 4) (ret := (some .boolean)) (by decide) rfl ?_
  intro p e s m args below meth c s₁ B hml hv
  obtain ⟨rfl, hsz, hP, hK, hD0, hNw⟩ := hv
  have hx := B.exec
  have hb := B.bytes
  have hr := B.returns
  have hts := atoms_spec (ws := wsX11_boxes) B.pre
  have hown : s.vm.findClass RX11 = some m.cls := findClass_of_methodNamed B.named
  have hlocks := B.notSynchronized
  subst hsz
  have hD := hD0.self (sz := s.heap.size)
  generalize hAe : va_A (wd08_6 a0 jaX jaF jaD ja7 jby jbf jaM jaY jap jaK jal jam jax jao ja6 jaV ja8 jae jag jaf ja0 ja4 jaP jaw jaI jaZ jaH jaS jan jaU jaE jar jaL jah jaB jaa jaz jaG jab ja2 a0_s jaq jai jaO jaA jat jau jav jaj jas jaJ jak jad jay jac a0_s cyI f0_s) s.heap.size = A at hD ⊢
  have hA : ∀ q : Nat, s.heap.size ≤ q → A q := fun q h => by rw [← hAe]; exact Or.inr h
  have hS : va_S A s.heap s.heap [] := va_S.rf
  have hP : va_P (dC, dI) vwCl (wd08_6 a0 jaX jaF jaD ja7 jby jbf jaM jaY jap jaK jal jam jax jao ja6 jaV ja8 jae jag jaf ja0 ja4 jaP jaw jaI jaZ jaH jaS jan jaU jaE jar jaL jah jaB jaa jaz jaG jab ja2 a0_s jaq jai jaO jaA jat jau jav jaj jas jaJ jak jad jay jac a0_s cyI f0_s) s.heap := hP
  have hl := lv_entry ([.ref a0, .int p1, .int p2]) (n := 4) (Nat.le_of_ble_eq_true rfl)
  rw [lg_entry_eq]
  generalize (lg_sl ([.ref a0, .int p1, .int p2]) ++ List.replicate (4 - (lg_sl ([.ref a0, .int p1, .int p2])).length) Slot.unset).toArray = ls at hl ⊢
  have hl : lv_has ls 4 [(0, .ref a0), (1, .int p1), (2, .int p2)] := hl
  have C0 : cfx p s m _ meth c cX11_boxes (some .boolean) wsX11_boxes RX11 4 A (dC, dI) (kT cyB cyI cyJ cyP) := ⟨hx, hb, hr, hts, hown, hlocks, hml, hA, hK, hNw⟩
  clear hAe
  obtain ⟨H, hH⟩ : ∃ H, H = s.heap := ⟨_, rfl⟩
  rw [← hH] at hP ⊢
  have hS : va_S A s.heap H [] := by rw [hH]; exact va_S.rf
  have hS := hS
  refine lv_iload_n hx hb (dt_of tkX11_boxes_k0 0 rfl) rfl (lv_at hl 1 rfl) ?_
  refine lv_iload_n hx hb (dt_of tkX11_boxes_k0 1 rfl) rfl (lv_at hl 2 rfl) ?_
  refine lv_icmp_eq (tgt := 32) hx hb (dt_of tkX11_boxes_k0 2 rfl) (by decide) (fun c1 => ?_) (fun c1 => ?_)
  · have hw := hw.1 c1
    refine lv_iconst (v := 0) hx hb (dt_of tkX11_boxes_k26 4 rfl) (by decide) ?_
    exact ((W.zret (v := 0) hx hb hr rfl (fun t ht hW => ⟨⟨0, (f0_s), rfl, hw, by rw [ht]; exact hP, va_K.moved hW.alike hK, hD⟩, hS.F ht⟩) hS.2.2 (dt_of tkX11_boxes_k26 5 rfl)))
  · have hw := hw.2 c1
    refine lv_aload_n hx hb (dt_of tkX11_boxes_k0 3 rfl) rfl (lv_at hl 0 rfl) ?_
    refine lv_iload_n hx hb (dt_of tkX11_boxes_k0 4 rfl) rfl (lv_at hl 1 rfl) ?_
    obtain ⟨hCc, hPc, hDc, hFc⟩ := va_pick (ws' := (wd08_6 a0 jaX jaF jaD ja7 jby jbf jaM jaY jap jaK jal jam jax jao ja6 jaV ja8 jae jag jaf ja0 ja4 jaP jaw jaI jaZ jaH jaS jan jaU jaE jar jaL jah jaB jaa jaz jaG jab ja2 a0_s jaq jai jaO jaA jat jau jav jaj jas jaJ jak jad jay jac a0_s cyI f0_s)) hP hD hS hA [0, 1] (by decide +kernel) rfl
    refine va_calli (va_runV (As := [.int p1]) (rest := []) ⟨hx, hb, hml, hown, hts⟩ (ck_X11_isCaught l dC dI cyB cyI cyJ cyP a0 a0_s H.size (jaX) (jaF) (jaD) (ja7) (jby) (jbf) (jaM) (jaY) (jap) (jaK) (jal) (jam) (jax) (jao) (ja6) (jaV) (ja8) (jae) (jag) (jaf) (ja0) (ja4) (jaP) (jaw) (jaI) (jaZ) (jaH) (jaS) (jan) (jaU) (jaE) (jar) (jaL) (jah) (jaB) (jaa) (jaz) (jaG) (jab) (ja2) (jaq) (jai) (jaO) (jaA) (jat) (jau) (jav) (jaj) (jas) (jaJ) (jak) (jad) (jay) (jac) f0_s  p1 hw) (cwV 1 hts gX11_boxes_X11_isCaught rfl rfl rfl (by decide +kernel) ⟨Nat.le_of_ble_eq_true rfl, Nat.le_of_ble_eq_true rfl⟩) ⟨cPc_blind, va_recv (q := (RX11, TX11, 55)) hK hPc (ci := 11) (q0 := 0) rfl rfl, cPc_pre hPc hK hDc hNw⟩ rfl rfl hl.1 rfl (lv_room (Nat.le_of_ble_eq_true rfl)) (dt_of tkX11_boxes_k0 5 rfl) ⟨Nat.le_of_ble_eq_true rfl, Nat.le_of_ble_eq_true rfl⟩) hS (fun q _ h => hFc q h) hFc (fun r2 u t H1 locs ht hvm hw hB hz1 hk1 hS => ?_)
    obtain ⟨hP1, hK1, hD1⟩ := hB
    rw [ht] at hP1
    obtain ⟨hP, hD⟩ := va_joinI (wr := []) (w1 := (wd08_6 a0 jaX jaF jaD ja7 jby jbf jaM jaY jap jaK jal jam jax jao ja6 jaV ja8 jae jag jaf ja0 ja4 jaP jaw jaI jaZ jaH jaS jan jaU jaE jar jaL jah jaB jaa jaz jaG jab ja2 a0_s jaq jai jaO jaA jat jau jav jaj jas jaJ jak jad jay jac a0_s cyI f0_s)) (wn := (wd08_6 a0 jaX jaF jaD ja7 jby jbf jaM jaY jap jaK jal jam jax jao ja6 jaV ja8 jae jag jaf ja0 ja4 jaP jaw jaI jaZ jaH jaS jan jaU jaE jar jaL jah jaB jaa jaz jaG jab ja2 a0_s jaq jai jaO jaA jat jau jav jaj jas jaJ jak jad jay jac a0_s cyI f0_s)) hP hD [0, 1] [] hCc rfl (by decide +kernel) (by decide +kernel) rfl hk1 hFc hP1 hD1
    generalize H1 = H at hP hS ⊢
    refine lv_if_ne (tgt := 32) hx hb (dt_of tkX11_boxes_k0 6 rfl) (by decide) (fun c3 => ?_) (fun c3 => ?_)
    · have hw := hw.1 c3
      refine lv_iconst (v := 0) hx hb (dt_of tkX11_boxes_k26 4 rfl) (by decide) ?_
      exact ((W.zret (v := 0) hx hb hr rfl (fun t ht hW => ⟨⟨0, (f0_s), rfl, hw, by rw [ht]; exact hP, va_K.moved hW.alike hK, hD⟩, hS.F ht⟩) hS.2.2 (dt_of tkX11_boxes_k26 5 rfl)))
    · have hw := hw.2 c3
      refine lv_aload_n hx hb (dt_of tkX11_boxes_k0 7 rfl) rfl (lv_at hl 0 rfl) ?_
      refine va_get (D := (dC, dI)) (ci := 11) (v := .ref a0_s) (C := RX11) (T := TX11) (N := 55) hx hb hts ui_X11_boxes_X11 hown hK hP 0 rfl rfl 40 (by decide) (hts _ uw_X11_boxes_f71) (fun _ h9 => h9) rfl (dt_of tkX11_boxes_k0 8 rfl) ?_
      refine lv_iconst (v := 0) hx hb (dt_of tkX11_boxes_k0 9 rfl) (by decide) ?_
      refine lv_iload_n hx hb (dt_of tkX11_boxes_k0 10 rfl) rfl (lv_at hl 1 rfl) ?_
      refine lv_iadd hx hb (dt_of tkX11_boxes_k0 11 rfl) ?_
      refine lv_topi (fun x4 ex4 => ?_)
      have hw := hw x4 ex4
      obtain ⟨hi9, hw⟩ := hw
      refine va_iald hx hb hK hP 1 1 rfl rfl hi9 (dt_of tkX11_boxes_k0 12 rfl) ?_
      refine lv_topi (fun x5 ex5 => ?_)
      have hw := hw x5 ex5
      refine lv_aload_n hx hb (dt_of tkX11_boxes_k0 13 rfl) rfl (lv_at hl 0 rfl) ?_
      refine va_get (D := (dC, dI)) (ci := 11) (v := .ref a0_s) (C := RX11) (T := TX11) (N := 55) hx hb hts ui_X11_boxes_X11 hown hK hP 0 rfl rfl 40 (by decide) (hts _ uw_X11_boxes_f71) (fun _ h9 => h9) rfl (dt_of tkX11_boxes_k0 14 rfl) ?_
      refine lv_iconst (v := 0) hx hb (dt_of tkX11_boxes_k0 15 rfl) (by decide) ?_
      refine lv_iload_n hx hb (dt_of tkX11_boxes_k26 0 rfl) rfl (lv_at hl 2 rfl) ?_
      refine lv_iadd hx hb (dt_of tkX11_boxes_k26 1 rfl) ?_
      refine lv_topi (fun x6 ex6 => ?_)
      have hw := hw x6 ex6
      obtain ⟨hi9, hw⟩ := hw
      refine va_iald hx hb hK hP 1 1 rfl rfl hi9 (dt_of tkX11_boxes_k26 2 rfl) ?_
      refine lv_topi (fun x7 ex7 => ?_)
      have hw := hw x7 ex7
      refine lv_icmp_eq (tgt := 34) hx hb (dt_of tkX11_boxes_k26 3 rfl) (by decide) (fun c8 => ?_) (fun c8 => ?_)
      · have hw := hw.1 c8
        refine lv_aload_n hx hb (dt_of tkX11_boxes_k26 6 rfl) rfl (lv_at hl 0 rfl) ?_
        refine va_get (D := (dC, dI)) (ci := 11) (v := .ref a0_s) (C := RX11) (T := TX11) (N := 55) hx hb hts ui_X11_boxes_X11 hown hK hP 0 rfl rfl 40 (by decide) (hts _ uw_X11_boxes_f71) (fun _ h9 => h9) rfl (dt_of tkX11_boxes_k26 7 rfl) ?_
        refine lv_bipush (v := 6) hx hb (dt_of tkX11_boxes_k26 8 rfl) (by decide) ?_
        refine lv_iload_n hx hb (dt_of tkX11_boxes_k26 9 rfl) rfl (lv_at hl 2 rfl) ?_
        refine lv_iadd hx hb (dt_of tkX11_boxes_k26 10 rfl) ?_
        refine lv_topi (fun x9 ex9 => ?_)
        have hw := hw x9 ex9
        obtain ⟨hi9, hw⟩ := hw
        refine va_iald hx hb hK hP 1 1 rfl rfl hi9 (dt_of tkX11_boxes_k26 11 rfl) ?_
        refine lv_topi (fun x10 ex10 => ?_)
        have hw := hw x10 ex10
        refine lv_aload_n hx hb (dt_of tkX11_boxes_k26 12 rfl) rfl (lv_at hl 0 rfl) ?_
        refine va_get (D := (dC, dI)) (ci := 11) (v := .ref a0_s) (C := RX11) (T := TX11) (N := 55) hx hb hts ui_X11_boxes_X11 hown hK hP 0 rfl rfl 40 (by decide) (hts _ uw_X11_boxes_f71) (fun _ h9 => h9) rfl (dt_of tkX11_boxes_k26 13 rfl) ?_
        refine lv_bipush (v := 6) hx hb (dt_of tkX11_boxes_k26 14 rfl) (by decide) ?_
        refine lv_iload_n hx hb (dt_of tkX11_boxes_k26 15 rfl) rfl (lv_at hl 1 rfl) ?_
        refine lv_iadd hx hb (dt_of tkX11_boxes_k50 0 rfl) ?_
        refine lv_topi (fun x11 ex11 => ?_)
        have hw := hw x11 ex11
        obtain ⟨hi9, hw⟩ := hw
        refine va_iald hx hb hK hP 1 1 rfl rfl hi9 (dt_of tkX11_boxes_k50 1 rfl) ?_
        refine lv_topi (fun x12 ex12 => ?_)
        have hw := hw x12 ex12
        refine lv_icmp_le (tgt := 59) hx hb (dt_of tkX11_boxes_k50 2 rfl) (by decide) (fun c13 => ?_) (fun c13 => ?_)
        · have hw := hw.1 c13
          refine lv_iload_n hx hb (dt_of tkX11_boxes_k50 5 rfl) rfl (lv_at hl 2 rfl) ?_
          exact kb_X11_boxes_60 dC dI cyB cyI cyJ cyP a0 a0_s jaX jaF jaD ja7 jby jbf jaM jaY jap jaK jal jam jax jao ja6 jaV ja8 jae jag jaf ja0 ja4 jaP jaw jaI jaZ jaH jaS jan jaU jaE jar jaL jah jaB jaa jaz jaG jab ja2 jaq jai jaO jaA jat jau jav jaj jas jaJ jak jad jay jac  Q  C0 _ _ _ f0_s p1 p2 p2 hP hD hS (lv_sub hl [0, 1, 2] rfl) hw
        · have hw := hw.2 c13
          refine lv_iload_n hx hb (dt_of tkX11_boxes_k50 3 rfl) rfl (lv_at hl 1 rfl) ?_
          refine lv_goto (tgt := 60) hx hb (dt_of tkX11_boxes_k50 4 rfl) (by decide) ?_
          exact kb_X11_boxes_60 dC dI cyB cyI cyJ cyP a0 a0_s jaX jaF jaD ja7 jby jbf jaM jaY jap jaK jal jam jax jao ja6 jaV ja8 jae jag jaf ja0 ja4 jaP jaw jaI jaZ jaH jaS jan jaU jaE jar jaL jah jaB jaa jaz jaG jab ja2 jaq jai jaO jaA jat jau jav jaj jas jaJ jak jad jay jac  Q  C0 _ _ _ f0_s p1 p2 p1 hP hD hS (lv_sub hl [0, 1, 2] rfl) hw
      · have hw := hw.2 c8
        refine lv_iconst (v := 0) hx hb (dt_of tkX11_boxes_k26 4 rfl) (by decide) ?_
        exact ((W.zret (v := 0) hx hb hr rfl (fun t ht hW => ⟨⟨0, (f0_s), rfl, hw, by rw [ht]; exact hP, va_K.moved hW.alike hK, hD⟩, hS.F ht⟩) hS.2.2 (dt_of tkX11_boxes_k26 5 rfl)))
theorem ui_X11_isForm_X11 : ∀ w ∈ u_ws RX11 TX11 55, w ∈ wsX11_isForm := uiM mbX11_isForm euX11 (by decide +kernel)
theorem uw_X11_isForm_f166 : (.fieldLink RX11 166 "MarchHaresModel" "forms" "I" : Cond) ∈ wsX11_isForm := mbX11_isForm 519 (by decide +kernel)
set_option maxHeartbeats 4000000 in
set_option maxRecDepth 100000 in
theorem ck_X11_isForm (l : Launch) (dC : Nat → ClassId) (dI : Nat → Nat → Nat) (cyB cyI cyJ cyP : ClassId) (a0 jaQ sz : Nat) (jaD ja7 jby jbf jaM jaY jap jaK jal jam jax jao ja6 jaV ja8 jae jag jaf ja4 jaP jaw jaI jaZ jaH jaS jan jaU jaE jar jaL jah jaB jaa jaz jaG jab ja2 z0_s jaq jai jaO jaA jat jau jav jaj jas jaJ jak jad jay jac : Value) (jaN jbd : Int32) (ja9 : Nat → Int32) (p1 p2 : Int32) {Q : Int32 → Int32 → (Nat → Int32) → Prop} (hw : wq_X11_isForm jaN jbd ja9 p1 p2 Q) : Met l yX11_isForm wsX11_isForm ({ frames := 1, cells := 0, slots := 0, locals := 23 }) (va_Pc [.ref a0, .int p1, .int p2] (cPc (dC, dI) (kT cyB cyI cyJ cyP) (wd08_7 a0 jbd jaQ jaD ja7 jby jbf jaM jaY jap jaK jal jam jax jao ja6 jaV ja8 jae jag jaf jaN ja4 jaP jaw jaI jaZ jaH jaS jan jaU jaE jar jaL jah jaB jaa jaz jaG jab ja2 z0_s jaq jai jaO jaA jat jau jav jaj jas jaJ jak jad jay jac jaQ cyI ja9) sz)) (va_Qi (fun (r : Int32) (u : Int32 × (Nat → Int32)) => Q r u.1 u.2) (cB (dC, dI) (kT cyB cyI cyJ cyP) (va_A (wd08_7 a0 jbd jaQ jaD ja7 jby jbf jaM jaY jap jaK jal jam jax jao ja6 jaV ja8 jae jag jaf jaN ja4 jaP jaw jaI jaZ jaH jaS jan jaU jaE jar jaL jah jaB jaa jaz jaG jab ja2 z0_s jaq jai jaO jaA jat jau jav jaj jas jaJ jak jad jay jac jaQ cyI ja9) sz) (fun u : Int32 × (Nat → Int32) => ((wd08_7 a0 u.1 jaQ jaD ja7 jby jbf jaM jaY jap jaK jal jam jax jao ja6 jaV ja8 jae jag jaf jaN ja4 jaP jaw jaI jaZ jaH jaS jan jaU jaE jar jaL jah jaB jaa jaz jaG jab ja2 z0_s jaq jai jaO jaA jat jau jav jaj jas jaJ jak jad jay jac jaQ cyI u.2) : va_W))) (va_A (wd08_7 a0 jbd jaQ jaD ja7 jby jbf jaM jaY jap jaK jal jam jax jao ja6 jaV ja8 jae jag jaf jaN ja4 jaP jaw jaI jaZ jaH jaS jan jaU jaE jar jaL jah jaB jaa jaz jaG jab ja2 z0_s jaq jai jaO jaA jat jau jav jaj jas jaJ jak jad jay jac jaQ cyI ja9) sz)) 0 0 (va_A (wd08_7 a0 jbd jaQ jaD ja7 jby jbf jaM jaY jap jaK jal jam jax jao ja6 jaV ja8 jae jag jaf jaN ja4 jaP jaw jaI jaZ jaH jaS jan jaU jaE jar jaL jah jaB jaa jaz jaG jab ja2 z0_s jaq jai jaO jaA jat jau jav jaj jas jaJ jak jad jay jac jaQ cyI ja9) sz) := by
  refine Met.ofW (cc := cX11_isForm) (maxL := 3) (ret := (some .boolean)) (by decide) rfl ?_
  intro p e s m args below meth c s₁ B hml hv
  obtain ⟨rfl, hsz, hP, hK, hD0, hNw⟩ := hv
  have hx := B.exec
  have hb := B.bytes
  have hr := B.returns
  have hts := atoms_spec (ws := wsX11_isForm) B.pre
  have hown : s.vm.findClass RX11 = some m.cls := findClass_of_methodNamed B.named
  have hlocks := B.notSynchronized
  subst hsz
  have hD := hD0.self (sz := s.heap.size)
  generalize hAe : va_A (wd08_7 a0 jbd jaQ jaD ja7 jby jbf jaM jaY jap jaK jal jam jax jao ja6 jaV ja8 jae jag jaf jaN ja4 jaP jaw jaI jaZ jaH jaS jan jaU jaE jar jaL jah jaB jaa jaz jaG jab ja2 z0_s jaq jai jaO jaA jat jau jav jaj jas jaJ jak jad jay jac jaQ cyI ja9) s.heap.size = A at hD ⊢
  have hA : ∀ q : Nat, s.heap.size ≤ q → A q := fun q h => by rw [← hAe]; exact Or.inr h
  have hS : va_S A s.heap s.heap [] := va_S.rf
  have hP : va_P (dC, dI) vwCl (wd08_7 a0 jbd jaQ jaD ja7 jby jbf jaM jaY jap jaK jal jam jax jao ja6 jaV ja8 jae jag jaf jaN ja4 jaP jaw jaI jaZ jaH jaS jan jaU jaE jar jaL jah jaB jaa jaz jaG jab ja2 z0_s jaq jai jaO jaA jat jau jav jaj jas jaJ jak jad jay jac jaQ cyI ja9) s.heap := hP
  have hl := lv_entry ([.ref a0, .int p1, .int p2]) (n := 3) (Nat.le_of_ble_eq_true rfl)
  rw [lg_entry_eq]
  generalize (lg_sl ([.ref a0, .int p1, .int p2]) ++ List.replicate (3 - (lg_sl ([.ref a0, .int p1, .int p2])).length) Slot.unset).toArray = ls at hl ⊢
  have hl : lv_has ls 3 [(0, .ref a0), (1, .int p1), (2, .int p2)] := hl
  have C0 : cfx p s m _ meth c cX11_isForm (some .boolean) wsX11_isForm RX11 3 A (dC, dI) (kT cyB cyI cyJ cyP) := ⟨hx, hb, hr, hts, hown, hlocks, hml, hA, hK, hNw⟩
  clear hAe
  obtain ⟨H, hH⟩ : ∃ H, H = s.heap := ⟨_, rfl⟩
  rw [← hH] at hP ⊢
  have hS : va_S A s.heap H [] := by rw [hH]; exact va_S.rf
  have hS := hS
  refine lv_aload_n hx hb (dt_of tkX11_isForm_k0 0 rfl) rfl (lv_at hl 0 rfl) ?_
  refine lv_iload_n hx hb (dt_of tkX11_isForm_k0 1 rfl) rfl (lv_at hl 1 rfl) ?_
  refine lv_iconst (v := 0) hx hb (dt_of tkX11_isForm_k0 2 rfl) (by decide) ?_
  refine lv_aload_n hx hb (dt_of tkX11_isForm_k0 3 rfl) rfl (lv_at hl 0 rfl) ?_
  refine va_get (D := (dC, dI)) (ci := 11) (v := .int jaN) (C := RX11) (T := TX11) (N := 55) hx hb hts ui_X11_isForm_X11 hown hK hP 0 rfl rfl 20 (by decide) (hts _ uw_X11_isForm_f166) (fun _ h9 => h9) rfl (dt_of tkX11_isForm_k0 4 rfl) ?_
  refine lv_iconst (v := 1) hx hb (dt_of tkX11_isForm_k0 5 rfl) (by decide) ?_
  refine lv_isub hx hb (dt_of tkX11_isForm_k0 6 rfl) ?_
  obtain ⟨hCc, hPc, hDc, hFc⟩ := va_pick (ws' := []) hP hD hS hA [] (by decide +kernel) rfl
  refine va_calli (va_runS (As := [.int p1, .int 0, .int (jaN - 1)]) (rest := [.ref a0]) ⟨hx, hb, hml, hown, hts⟩ (ck_X11_within l dC dI cyB cyI cyJ cyP  H.size    p1 0 (jaN - 1) hw) (va_cwS 3 hts gX11_isForm_X11_within rfl rfl rfl (by decide +kernel) ⟨Nat.le_of_ble_eq_true rfl, Nat.le_of_ble_eq_true rfl⟩) ⟨cPc_blind, cPc_pre hPc hK hDc hNw⟩ rfl rfl hl.1 rfl (lv_room (Nat.le_of_ble_eq_true rfl)) (dt_of tkX11_isForm_k0 7 rfl) ⟨Nat.le_of_ble_eq_true rfl, Nat.le_of_ble_eq_true rfl⟩) hS (fun q _ h => hFc q h) hFc (fun r1 u t H1 locs ht hvm hw hB hz1 hk1 hS => ?_)
  obtain ⟨hP1, hK1, hD1⟩ := hB
  rw [ht] at hP1
  obtain ⟨hP, hD⟩ := va_joinI (wr := (wd08_7 a0 jbd jaQ jaD ja7 jby jbf jaM jaY jap jaK jal jam jax jao ja6 jaV ja8 jae jag jaf jaN ja4 jaP jaw jaI jaZ jaH jaS jan jaU jaE jar jaL jah jaB jaa jaz jaG jab ja2 z0_s jaq jai jaO jaA jat jau jav jaj jas jaJ jak jad jay jac jaQ cyI ja9)) (w1 := []) (wn := (wd08_7 a0 jbd jaQ jaD ja7 jby jbf jaM jaY jap jaK jal jam jax jao ja6 jaV ja8 jae jag jaf jaN ja4 jaP jaw jaI jaZ jaH jaS jan jaU jaE jar jaL jah jaB jaa jaz jaG jab ja2 z0_s jaq jai jaO jaA jat jau jav jaj jas jaJ jak jad jay jac jaQ cyI ja9)) hP hD [] [0, 1] hCc rfl (by decide +kernel) (by decide +kernel) rfl hk1 hFc hP1 hD1
  generalize H1 = H at hP hS ⊢
  refine lv_iload_n hx hb (dt_of tkX11_isForm_k0 8 rfl) rfl (lv_at hl 2 rfl) ?_
  refine lv_iconst (v := 0) hx hb (dt_of tkX11_isForm_k0 9 rfl) (by decide) ?_
  obtain ⟨hCc, hPc, hDc, hFc⟩ := va_pick (ws' := (wd08_7 a0 jbd jaQ jaD ja7 jby jbf jaM jaY jap jaK jal jam jax jao ja6 jaV ja8 jae jag jaf jaN ja4 jaP jaw jaI jaZ jaH jaS jan jaU jaE jar jaL jah jaB jaa jaz jaG jab ja2 z0_s jaq jai jaO jaA jat jau jav jaj jas jaJ jak jad jay jac jaQ cyI ja9)) hP hD hS hA [0, 1] (by decide +kernel) rfl
  refine va_calli (va_runV (As := [.int r1, .int p2, .int 0]) (rest := []) ⟨hx, hb, hml, hown, hts⟩ (ck_X11_may l dC dI cyB cyI cyJ cyP a0 jaQ H.size (jaD) (ja7) (jby) (jbf) (jaM) (jaY) (jap) (jaK) (jal) (jam) (jax) (jao) (ja6) (jaV) (ja8) (jae) (jag) (jaf) (.int jaN) (ja4) (jaP) (jaw) (jaI) (jaZ) (jaH) (jaS) (jan) (jaU) (jaE) (jar) (jaL) (jah) (jaB) (jaa) (jaz) (jaG) (jab) (ja2) (z0_s) (jaq) (jai) (jaO) (jaA) (jat) (jau) (jav) (jaj) (jas) (jaJ) (jak) (jad) (jay) (jac)  jbd ja9 r1 p2 0 hw) (cwV 3 hts gX11_isForm_X11_may rfl rfl rfl (by decide +kernel) ⟨Nat.le_of_ble_eq_true rfl, Nat.le_of_ble_eq_true rfl⟩) ⟨cPc_blind, va_recv (q := (RX11, TX11, 55)) hK hPc (ci := 11) (q0 := 0) rfl rfl, cPc_pre hPc hK hDc hNw⟩ rfl rfl hl.1 rfl (lv_room (Nat.le_of_ble_eq_true rfl)) (dt_of tkX11_isForm_k0 10 rfl) ⟨Nat.le_of_ble_eq_true rfl, Nat.le_of_ble_eq_true rfl⟩) hS (fun q _ h => hFc q h) hFc (fun r4 u t H1 locs ht hvm hw hB hz1 hk1 hS => ?_)
  obtain ⟨x2, f3⟩ := u
  obtain ⟨hP1, hK1, hD1⟩ := hB
  rw [ht] at hP1
  obtain ⟨hP, hD⟩ := va_joinI (wr := []) (w1 := (wd08_7 a0 x2 jaQ jaD ja7 jby jbf jaM jaY jap jaK jal jam jax jao ja6 jaV ja8 jae jag jaf jaN ja4 jaP jaw jaI jaZ jaH jaS jan jaU jaE jar jaL jah jaB jaa jaz jaG jab ja2 z0_s jaq jai jaO jaA jat jau jav jaj jas jaJ jak jad jay jac jaQ cyI f3)) (wn := (wd08_7 a0 x2 jaQ jaD ja7 jby jbf jaM jaY jap jaK jal jam jax jao ja6 jaV ja8 jae jag jaf jaN ja4 jaP jaw jaI jaZ jaH jaS jan jaU jaE jar jaL jah jaB jaa jaz jaG jab ja2 z0_s jaq jai jaO jaA jat jau jav jaj jas jaJ jak jad jay jac jaQ cyI f3)) hP hD [0, 1] [] hCc rfl (by decide +kernel) (by decide +kernel) rfl hk1 hFc hP1 hD1
  generalize H1 = H at hP hS ⊢
  obtain ⟨hn9, hw⟩ := hw
  exact ((W.zret (v := r4) hx hb hr hn9 (fun t ht hW => ⟨⟨r4, (x2, f3), rfl, hw, by rw [ht]; exact hP, va_K.moved hW.alike hK, hD⟩, hS.F ht⟩) hS.2.2 (dt_of tkX11_isForm_k0 11 rfl)))
theorem ui_X11_farOf_X11 : ∀ w ∈ u_ws RX11 TX11 55, w ∈ wsX11_farOf := uiM mbX11_farOf euX11 (by decide +kernel)
theorem uw_X11_farOf_f35 : (.fieldLink RX11 35 "MarchHaresModel" "form" "[I" : Cond) ∈ wsX11_farOf := mbX11_farOf 405 (by decide +kernel)
set_option maxHeartbeats 4000000 in
set_option maxRecDepth 100000 in
theorem ck_X11_farOf (l : Launch) (dC : Nat → ClassId) (dI : Nat → Nat → Nat) (cyB cyI cyJ cyP : ClassId) (a0 ja5 sz : Nat) (jaX jaF jaD ja7 jby jbf jaM jaY jap jaK jal jam jax jao jaV ja8 jae jag jaf ja0 ja4 jaP jaw jaI jaZ jaH jaS jan jaU jaE jar jaL jah jaB jaa jaz jaG jab ja2 z0_s jaq jai jaO jaA jat jau jav jaj jas jaJ jak jad jay jac : Value) (jbv : Nat → Int32)  (p1 p2 : Int32) {Q : Int32 → Prop} (hw : wq_X11_farOf jbv  p1 p2 Q) : Met l yX11_farOf wsX11_farOf ({ frames := 1, cells := 0, slots := 0, locals := 20 }) (va_Pc [.ref a0, .int p1, .int p2] (cPc (dC, dI) (kT cyB cyI cyJ cyP) (wd08_8 a0 jaX jaF jaD ja7 jby jbf jaM jaY jap jaK jal jam jax jao ja5 jaV ja8 jae jag jaf ja0 ja4 jaP jaw jaI jaZ jaH jaS jan jaU jaE jar jaL jah jaB jaa jaz jaG jab ja2 z0_s jaq jai jaO jaA jat jau jav jaj jas jaJ jak jad jay jac ja5 cyI jbv) sz)) (va_Qi (fun (r : Int32) (_ : Unit) => Q r ) (cB (dC, dI) (kT cyB cyI cyJ cyP) (va_A (wd08_8 a0 jaX jaF jaD ja7 jby jbf jaM jaY jap jaK jal jam jax jao ja5 jaV ja8 jae jag jaf ja0 ja4 jaP jaw jaI jaZ jaH jaS jan jaU jaE jar jaL jah jaB jaa jaz jaG jab ja2 z0_s jaq jai jaO jaA jat jau jav jaj jas jaJ jak jad jay jac ja5 cyI jbv) sz) (fun u : Unit => ((wd08_8 a0 jaX jaF jaD ja7 jby jbf jaM jaY jap jaK jal jam jax jao ja5 jaV ja8 jae jag jaf ja0 ja4 jaP jaw jaI jaZ jaH jaS jan jaU jaE jar jaL jah jaB jaa jaz jaG jab ja2 z0_s jaq jai jaO jaA jat jau jav jaj jas jaJ jak jad jay jac ja5 cyI jbv) : va_W))) (va_A (wd08_8 a0 jaX jaF jaD ja7 jby jbf jaM jaY jap jaK jal jam jax jao ja5 jaV ja8 jae jag jaf ja0 ja4 jaP jaw jaI jaZ jaH jaS jan jaU jaE jar jaL jah jaB jaa jaz jaG jab ja2 z0_s jaq jai jaO jaA jat jau jav jaj jas jaJ jak jad jay jac ja5 cyI jbv) sz)) 0 0 (va_A (wd08_8 a0 jaX jaF jaD ja7 jby jbf jaM jaY jap jaK jal jam jax jao ja5 jaV ja8 jae jag jaf ja0 ja4 jaP jaw jaI jaZ jaH jaS jan jaU jaE jar jaL jah jaB jaa jaz jaG jab ja2 z0_s jaq jai jaO jaA jat jau jav jaj jas jaJ jak jad jay jac ja5 cyI jbv) sz) := by
  refine Met.ofW (cc := cX11_farOf) (maxL := 3) (ret := (some .int)) (by decide) rfl ?_
  intro p e s m args below meth c s₁ B hml hv
  obtain ⟨rfl, hsz, hP, hK, hD0, hNw⟩ := hv
  have hx := B.exec
  have hb := B.bytes
  have hr := B.returns
  have hts := atoms_spec (ws := wsX11_farOf) B.pre
  have hown : s.vm.findClass RX11 = some m.cls := findClass_of_methodNamed B.named
  have hlocks := B.notSynchronized
  subst hsz
  have hD := hD0.self (sz := s.heap.size)
  generalize hAe : va_A (wd08_8 a0 jaX jaF jaD ja7 jby jbf jaM jaY jap jaK jal jam jax jao ja5 jaV ja8 jae jag jaf ja0 ja4 jaP jaw jaI jaZ jaH jaS jan jaU jaE jar jaL jah jaB jaa jaz jaG jab ja2 z0_s jaq jai jaO jaA jat jau jav jaj jas jaJ jak jad jay jac ja5 cyI jbv) s.heap.size = A at hD ⊢
  have hA : ∀ q : Nat, s.heap.size ≤ q → A q := fun q h => by rw [← hAe]; exact Or.inr h
  have hS : va_S A s.heap s.heap [] := va_S.rf
  have hP : va_P (dC, dI) vwCl (wd08_8 a0 jaX jaF jaD ja7 jby jbf jaM jaY jap jaK jal jam jax jao ja5 jaV ja8 jae jag jaf ja0 ja4 jaP jaw jaI jaZ jaH jaS jan jaU jaE jar jaL jah jaB jaa jaz jaG jab ja2 z0_s jaq jai jaO jaA jat jau jav jaj jas jaJ jak jad jay jac ja5 cyI jbv) s.heap := hP
  have hl := lv_entry ([.ref a0, .int p1, .int p2]) (n := 3) (Nat.le_of_ble_eq_true rfl)
  rw [lg_entry_eq]
  generalize (lg_sl ([.ref a0, .int p1, .int p2]) ++ List.replicate (3 - (lg_sl ([.ref a0, .int p1, .int p2])).length) Slot.unset).toArray = ls at hl ⊢
  have hl : lv_has ls 3 [(0, .ref a0), (1, .int p1), (2, .int p2)] := hl
  have C0 : cfx p s m _ meth c cX11_farOf (some .int) wsX11_farOf RX11 3 A (dC, dI) (kT cyB cyI cyJ cyP) := ⟨hx, hb, hr, hts, hown, hlocks, hml, hA, hK, hNw⟩
  clear hAe
  obtain ⟨H, hH⟩ : ∃ H, H = s.heap := ⟨_, rfl⟩
  rw [← hH] at hP ⊢
  have hS : va_S A s.heap H [] := by rw [hH]; exact va_S.rf
  have hS := hS
  refine lv_aload_n hx hb (dt_of tkX11_farOf_k0 0 rfl) rfl (lv_at hl 0 rfl) ?_
  refine va_get (D := (dC, dI)) (ci := 11) (v := .ref ja5) (C := RX11) (T := TX11) (N := 55) hx hb hts ui_X11_farOf_X11 hown hK hP 0 rfl rfl 14 (by decide) (hts _ uw_X11_farOf_f35) (fun _ h9 => h9) rfl (dt_of tkX11_farOf_k0 1 rfl) ?_
  refine lv_iconst (v := 2) hx hb (dt_of tkX11_farOf_k0 2 rfl) (by decide) ?_
  refine lv_iload_n hx hb (dt_of tkX11_farOf_k0 3 rfl) rfl (lv_at hl 1 rfl) ?_
  refine lv_imul hx hb (dt_of tkX11_farOf_k0 4 rfl) ?_
  refine lv_topi (fun x1 ex1 => ?_)
  have hw := hw x1 ex1
  obtain ⟨hi9, hw⟩ := hw
  refine va_iald hx hb hK hP 1 1 rfl rfl hi9 (dt_of tkX11_farOf_k0 5 rfl) ?_
  refine lv_topi (fun x2 ex2 => ?_)
  have hw := hw x2 ex2
  refine lv_aload_n hx hb (dt_of tkX11_farOf_k0 6 rfl) rfl (lv_at hl 0 rfl) ?_
  refine va_get (D := (dC, dI)) (ci := 11) (v := .ref ja5) (C := RX11) (T := TX11) (N := 55) hx hb hts ui_X11_farOf_X11 hown hK hP 0 rfl rfl 14 (by decide) (hts _ uw_X11_farOf_f35) (fun _ h9 => h9) rfl (dt_of tkX11_farOf_k0 7 rfl) ?_
  refine lv_iconst (v := 2) hx hb (dt_of tkX11_farOf_k0 8 rfl) (by decide) ?_
  refine lv_iload_n hx hb (dt_of tkX11_farOf_k0 9 rfl) rfl (lv_at hl 2 rfl) ?_
  refine lv_imul hx hb (dt_of tkX11_farOf_k0 10 rfl) ?_
  refine lv_topi (fun x3 ex3 => ?_)
  have hw := hw x3 ex3
  obtain ⟨hi9, hw⟩ := hw
  refine va_iald hx hb hK hP 1 1 rfl rfl hi9 (dt_of tkX11_farOf_k0 11 rfl) ?_
  refine lv_topi (fun x4 ex4 => ?_)
  have hw := hw x4 ex4
  refine lv_isub hx hb (dt_of tkX11_farOf_k0 12 rfl) ?_
  obtain ⟨hCc, hPc, hDc, hFc⟩ := va_pick (ws' := []) hP hD hS hA [] (by decide +kernel) rfl
  refine va_calli (va_runS (As := [.int (x2 - x4)]) (rest := []) ⟨hx, hb, hml, hown, hts⟩ (ck_X11_size l dC dI cyB cyI cyJ cyP  H.size    (x2 - x4) hw) (va_cwS 1 hts gX11_farOf_X11_size rfl rfl rfl (by decide +kernel) ⟨Nat.le_of_ble_eq_true rfl, Nat.le_of_ble_eq_true rfl⟩) ⟨cPc_blind, cPc_pre hPc hK hDc hNw⟩ rfl rfl hl.1 rfl (lv_room (Nat.le_of_ble_eq_true rfl)) (dt_of tkX11_farOf_k0 13 rfl) ⟨Nat.le_of_ble_eq_true rfl, Nat.le_of_ble_eq_true rfl⟩) hS (fun q _ h => hFc q h) hFc (fun r5 u t H1 locs ht hvm hw hB hz1 hk1 hS => ?_)
  obtain ⟨hP1, hK1, hD1⟩ := hB
  rw [ht] at hP1
  obtain ⟨hP, hD⟩ := va_joinI (wr := (wd08_8 a0 jaX jaF jaD ja7 jby jbf jaM jaY jap jaK jal jam jax jao ja5 jaV ja8 jae jag jaf ja0 ja4 jaP jaw jaI jaZ jaH jaS jan jaU jaE jar jaL jah jaB jaa jaz jaG jab ja2 z0_s jaq jai jaO jaA jat jau jav jaj jas jaJ jak jad jay jac ja5 cyI jbv)) (w1 := []) (wn := (wd08_8 a0 jaX jaF jaD ja7 jby jbf jaM jaY jap jaK jal jam jax jao ja5 jaV ja8 jae jag jaf ja0 ja4 jaP jaw jaI jaZ jaH jaS jan jaU jaE jar jaL jah jaB jaa jaz jaG jab ja2 z0_s jaq jai jaO jaA jat jau jav jaj jas jaJ jak jad jay jac ja5 cyI jbv)) hP hD [] [0, 1] hCc rfl (by decide +kernel) (by decide +kernel) rfl hk1 hFc hP1 hD1
  generalize H1 = H at hP hS ⊢
  refine lv_aload_n hx hb (dt_of tkX11_farOf_k0 14 rfl) rfl (lv_at hl 0 rfl) ?_
  refine va_get (D := (dC, dI)) (ci := 11) (v := .ref ja5) (C := RX11) (T := TX11) (N := 55) hx hb hts ui_X11_farOf_X11 hown hK hP 0 rfl rfl 14 (by decide) (hts _ uw_X11_farOf_f35) (fun _ h9 => h9) rfl (dt_of tkX11_farOf_k0 15 rfl) ?_
  refine lv_iconst (v := 2) hx hb (dt_of tkX11_farOf_k24 0 rfl) (by decide) ?_
  refine lv_iload_n hx hb (dt_of tkX11_farOf_k24 1 rfl) rfl (lv_at hl 1 rfl) ?_
  refine lv_imul hx hb (dt_of tkX11_farOf_k24 2 rfl) ?_
  refine lv_topi (fun x6 ex6 => ?_)
  have hw := hw x6 ex6
  refine lv_iconst (v := 1) hx hb (dt_of tkX11_farOf_k24 3 rfl) (by decide) ?_
  refine lv_iadd hx hb (dt_of tkX11_farOf_k24 4 rfl) ?_
  refine lv_topi (fun x7 ex7 => ?_)
  have hw := hw x7 ex7
  obtain ⟨hi9, hw⟩ := hw
  refine va_iald hx hb hK hP 1 1 rfl rfl hi9 (dt_of tkX11_farOf_k24 5 rfl) ?_
  refine lv_topi (fun x8 ex8 => ?_)
  have hw := hw x8 ex8
  refine lv_aload_n hx hb (dt_of tkX11_farOf_k24 6 rfl) rfl (lv_at hl 0 rfl) ?_
  refine va_get (D := (dC, dI)) (ci := 11) (v := .ref ja5) (C := RX11) (T := TX11) (N := 55) hx hb hts ui_X11_farOf_X11 hown hK hP 0 rfl rfl 14 (by decide) (hts _ uw_X11_farOf_f35) (fun _ h9 => h9) rfl (dt_of tkX11_farOf_k24 7 rfl) ?_
  refine lv_iconst (v := 2) hx hb (dt_of tkX11_farOf_k24 8 rfl) (by decide) ?_
  refine lv_iload_n hx hb (dt_of tkX11_farOf_k24 9 rfl) rfl (lv_at hl 2 rfl) ?_
  refine lv_imul hx hb (dt_of tkX11_farOf_k24 10 rfl) ?_
  refine lv_topi (fun x9 ex9 => ?_)
  have hw := hw x9 ex9
  refine lv_iconst (v := 1) hx hb (dt_of tkX11_farOf_k24 11 rfl) (by decide) ?_
  refine lv_iadd hx hb (dt_of tkX11_farOf_k24 12 rfl) ?_
  refine lv_topi (fun x10 ex10 => ?_)
  have hw := hw x10 ex10
  obtain ⟨hi9, hw⟩ := hw
  refine va_iald hx hb hK hP 1 1 rfl rfl hi9 (dt_of tkX11_farOf_k24 13 rfl) ?_
  refine lv_topi (fun x11 ex11 => ?_)
  have hw := hw x11 ex11
  refine lv_isub hx hb (dt_of tkX11_farOf_k24 14 rfl) ?_
  obtain ⟨hCc, hPc, hDc, hFc⟩ := va_pick (ws' := []) hP hD hS hA [] (by decide +kernel) rfl
  refine va_calli (va_runS (As := [.int (x8 - x11)]) (rest := [.int r5]) ⟨hx, hb, hml, hown, hts⟩ (ck_X11_size l dC dI cyB cyI cyJ cyP  H.size    (x8 - x11) hw) (va_cwS 1 hts gX11_farOf_X11_size rfl rfl rfl (by decide +kernel) ⟨Nat.le_of_ble_eq_true rfl, Nat.le_of_ble_eq_true rfl⟩) ⟨cPc_blind, cPc_pre hPc hK hDc hNw⟩ rfl rfl hl.1 rfl (lv_room (Nat.le_of_ble_eq_true rfl)) (dt_of tkX11_farOf_k24 15 rfl) ⟨Nat.le_of_ble_eq_true rfl, Nat.le_of_ble_eq_true rfl⟩) hS (fun q _ h => hFc q h) hFc (fun r12 u t H1 locs ht hvm hw hB hz1 hk1 hS => ?_)
  obtain ⟨hP1, hK1, hD1⟩ := hB
  rw [ht] at hP1
  obtain ⟨hP, hD⟩ := va_joinI (wr := (wd08_8 a0 jaX jaF jaD ja7 jby jbf jaM jaY jap jaK jal jam jax jao ja5 jaV ja8 jae jag jaf ja0 ja4 jaP jaw jaI jaZ jaH jaS jan jaU jaE jar jaL jah jaB jaa jaz jaG jab ja2 z0_s jaq jai jaO jaA jat jau jav jaj jas jaJ jak jad jay jac ja5 cyI jbv)) (w1 := []) (wn := (wd08_8 a0 jaX jaF jaD ja7 jby jbf jaM jaY jap jaK jal jam jax jao ja5 jaV ja8 jae jag jaf ja0 ja4 jaP jaw jaI jaZ jaH jaS jan jaU jaE jar jaL jah jaB jaa jaz jaG jab ja2 z0_s jaq jai jaO jaA jat jau jav jaj jas jaJ jak jad jay jac ja5 cyI jbv)) hP hD [] [0, 1] hCc rfl (by decide +kernel) (by decide +kernel) rfl hk1 hFc hP1 hD1
  generalize H1 = H at hP hS ⊢
  refine lv_iadd hx hb (dt_of tkX11_farOf_k44 0 rfl) ?_
  exact ((W.iret (v := (r5 + r12)) hx hb hr (fun t ht hW => ⟨⟨(r5 + r12), (), rfl, hw, by rw [ht]; exact hP, va_K.moved hW.alike hK, hD⟩, hS.F ht⟩) hS.2.2 (dt_of tkX11_farOf_k44 1 rfl)))
theorem ui_X11_owes_X11 : ∀ w ∈ u_ws RX11 TX11 55, w ∈ wsX11_owes := uiM mbX11_owes euX11 (by decide +kernel)
theorem uw_X11_owes_f169 : (.fieldLink RX11 169 "MarchHaresModel" "hares" "I" : Cond) ∈ wsX11_owes := mbX11_owes 520 (by decide +kernel)
theorem uw_X11_owes_f71 : (.fieldLink RX11 71 "MarchHaresModel" "s" "[I" : Cond) ∈ wsX11_owes := mbX11_owes 457 (by decide +kernel)
set_option maxHeartbeats 4000000 in
set_option maxRecDepth 100000 in
theorem kl_X11_owes_4 {p : Program} {l : Launch} {e : Env} {s : State} {m : MethodId} {args : Array Value} {below : List Frame} {meth : Method} {c : Code} {A : Nat → Prop} (dC : Nat → ClassId) (dI : Nat → Nat → Nat) (cyB cyI cyJ cyP : ClassId) (a0 a0_s : Nat) (jaX jaF jaD ja7 jby jbf jaM jaY jap jaK jal jam jax jao ja6 jaV ja8 jae jag jaf ja0 jaP jaw jaI jaZ jaH jaS jan jaU jaE jar jaL jah jaB jaa jaz jaG jab ja2 jaq jai jaO jaA jat jau jav jaj jas jaJ jak jad jay jac : Value) (jaC : Int32) (f0_s : Nat → Int32) (Q : Int32 → Prop)  (C0 : cfx p s m args meth c cX11_owes (some .int) wsX11_owes RX11 4 A (dC, dI) (kT cyB cyI cyJ cyP)) : ∀ (n : Nat) (H : Heap) (locs : List Loc) (ls : Array Slot) (l1 l2 l3 : Int32), va_P (dC, dI) vwCl (wd08_9 a0 jaX jaF jaD ja7 jby jbf jaM jaY jap jaK jal jam jax jao ja6 jaV ja8 jae jag jaf ja0 jaC jaP jaw jaI jaZ jaH jaS jan jaU jaE jar jaL jah jaB jaa jaz jaG jab ja2 a0_s jaq jai jaO jaA jat jau jav jaj jas jaJ jak jad jay jac a0_s cyI f0_s) H → va_D A (wd08_9 a0 jaX jaF jaD ja7 jby jbf jaM jaY jap jaK jal jam jax jao ja6 jaV ja8 jae jag jaf ja0 jaC jaP jaw jaI jaZ jaH jaS jan jaU jaE jar jaL jah jaB jaa jaz jaG jab ja2 a0_s jaq jai jaO jaA jat jau jav jaj jas jaJ jak jad jay jac a0_s cyI f0_s) → va_S A s.heap H locs → lv_has ls 4 [(0, .ref a0), (1, .int l1), (2, .int l2), (3, .int l3)] → wl_X11_owes_4 jaC f0_s Q  n l1 l2 l3 → W p l e (headSpec wsX11_owes ({ frames := 0, cells := 0, slots := 0, locals := 0 })).room s m args below meth c H locs 0 0 (MQ below (va_Qi (fun (r : Int32) (_ : Unit) => Q r ) (cB (dC, dI) (kT cyB cyI cyJ cyP) A (fun u : Unit => ((wd08_9 a0 jaX jaF jaD ja7 jby jbf jaM jaY jap jaK jal jam jax jao ja6 jaV ja8 jae jag jaf ja0 jaC jaP jaw jaI jaZ jaH jaS jan jaU jaE jar jaL jah jaB jaa jaz jaG jab ja2 a0_s jaq jai jaO jaA jat jau jav jaj jas jaJ jak jad jay jac a0_s cyI f0_s) : va_W))) A) args s 0 0 A) (F0 m 4 ls []) := by
  obtain ⟨hx, hb, hr, hts, hown, hlocks, hml, hA, hK, hNw⟩ := id C0
  intro n
  induction n with
  | zero => intro H locs ls l1 l2 l3 hP hD hS hl hw; exact False.elim hw
  | succ n ih =>
    intro H locs ls l1 l2 l3 hP hD hS hl hw
    refine lv_iload_n hx hb (dt_of tkX11_owes_k0 4 rfl) rfl (lv_at hl 3 rfl) ?_
    refine lv_aload_n hx hb (dt_of tkX11_owes_k0 5 rfl) rfl (lv_at hl 0 rfl) ?_
    refine va_get (D := (dC, dI)) (ci := 11) (v := .int jaC) (C := RX11) (T := TX11) (N := 55) hx hb hts ui_X11_owes_X11 hown hK hP 0 rfl rfl 21 (by decide) (hts _ uw_X11_owes_f169) (fun _ h9 => h9) rfl (dt_of tkX11_owes_k0 6 rfl) ?_
    refine lv_icmp_ge (tgt := 35) hx hb (dt_of tkX11_owes_k0 7 rfl) (by decide) (fun c1 => ?_) (fun c1 => ?_)
    · have hw := hw.1 c1
      refine lv_iload_n hx hb (dt_of tkX11_owes_k24 7 rfl) rfl (lv_at hl 2 rfl) ?_
      exact ((W.iret (v := l2) hx hb hr (fun t ht hW => ⟨⟨l2, (), rfl, hw, by rw [ht]; exact hP, va_K.moved hW.alike hK, hD⟩, hS.F ht⟩) hS.2.2 (dt_of tkX11_owes_k24 8 rfl)))
    · have hw := hw.2 c1
      refine lv_iload_n hx hb (dt_of tkX11_owes_k0 8 rfl) rfl (lv_at hl 2 rfl) ?_
      refine lv_aload_n hx hb (dt_of tkX11_owes_k0 9 rfl) rfl (lv_at hl 0 rfl) ?_
      refine va_get (D := (dC, dI)) (ci := 11) (v := .ref a0_s) (C := RX11) (T := TX11) (N := 55) hx hb hts ui_X11_owes_X11 hown hK hP 0 rfl rfl 40 (by decide) (hts _ uw_X11_owes_f71) (fun _ h9 => h9) rfl (dt_of tkX11_owes_k0 10 rfl) ?_
      refine lv_bipush (v := 30) hx hb (dt_of tkX11_owes_k0 11 rfl) (by decide) ?_
      refine lv_bipush (v := 6) hx hb (dt_of tkX11_owes_k0 12 rfl) (by decide) ?_
      refine lv_iload_n hx hb (dt_of tkX11_owes_k0 13 rfl) rfl (lv_at hl 1 rfl) ?_
      refine lv_imul hx hb (dt_of tkX11_owes_k0 14 rfl) ?_
      refine lv_iadd hx hb (dt_of tkX11_owes_k0 15 rfl) ?_
      refine lv_topi (fun x2 ex2 => ?_)
      have hw := hw x2 ex2
      refine lv_iload_n hx hb (dt_of tkX11_owes_k24 0 rfl) rfl (lv_at hl 3 rfl) ?_
      refine lv_iadd hx hb (dt_of tkX11_owes_k24 1 rfl) ?_
      refine lv_topi (fun x3 ex3 => ?_)
      have hw := hw x3 ex3
      obtain ⟨hi9, hw⟩ := hw
      refine va_iald hx hb hK hP 1 1 rfl rfl hi9 (dt_of tkX11_owes_k24 2 rfl) ?_
      refine lv_topi (fun x4 ex4 => ?_)
      have hw := hw x4 ex4
      refine lv_iadd hx hb (dt_of tkX11_owes_k24 3 rfl) ?_
      refine lv_topi (fun x5 ex5 => ?_)
      have hw := hw x5 ex5
      refine lv_istore_n (lv' := [(2, .int x5), (0, .ref a0), (1, .int l1), (3, .int l3)]) hx hb (dt_of tkX11_owes_k24 4 rfl) rfl hl (by decide) rfl (fun ls hl => ?_)
      obtain ⟨x6, ex6⟩ : ∃ y : Int32, y = l3 + 1 := ⟨_, rfl⟩
      have hw := hw x6 ex6
      refine lv_iinc (v := x6) (lv' := [(3, .int x6), (2, .int x5), (0, .ref a0), (1, .int l1)]) hx hb (dt_of tkX11_owes_k24 5 rfl) hl (k := 3) rfl (by rw [ex6]; rfl) (by decide) rfl (fun ls hl => ?_)
      refine lv_goto (tgt := 4) hx hb (dt_of tkX11_owes_k24 6 rfl) (by decide) ?_
      exact ih _ _ _ l1 x5 x6 hP hD hS (lv_sub hl [2, 3, 1, 0] rfl) hw
set_option maxHeartbeats 4000000 in
set_option maxRecDepth 100000 in
theorem ck_X11_owes (l : Launch) (dC : Nat → ClassId) (dI : Nat → Nat → Nat) (cyB cyI cyJ cyP : ClassId) (a0 a0_s sz : Nat) (jaX jaF jaD ja7 jby jbf jaM jaY jap jaK jal jam jax jao ja6 jaV ja8 jae jag jaf ja0 jaP jaw jaI jaZ jaH jaS jan jaU jaE jar jaL jah jaB jaa jaz jaG jab ja2 jaq jai jaO jaA jat jau jav jaj jas jaJ jak jad jay jac : Value) (jaC : Int32) (f0_s : Nat → Int32)  (p1 : Int32) {Q : Int32 → Prop} (hw : wq_X11_owes jaC f0_s  p1 Q) : Met l yX11_owes wsX11_owes ({ frames := 0, cells := 0, slots := 0, locals := 0 }) (va_Pc [.ref a0, .int p1] (cPc (dC, dI) (kT cyB cyI cyJ cyP) (wd08_9 a0 jaX jaF jaD ja7 jby jbf jaM jaY jap jaK jal jam jax jao ja6 jaV ja8 jae jag jaf ja0 jaC jaP jaw jaI jaZ jaH jaS jan jaU jaE jar jaL jah jaB jaa jaz jaG jab ja2 a0_s jaq jai jaO jaA jat jau jav jaj jas jaJ jak jad jay jac a0_s cyI f0_s) sz)) (va_Qi (fun (r : Int32) (_ : Unit) => Q r ) (cB (dC, dI) (kT cyB cyI cyJ cyP) (va_A (wd08_9 a0 jaX jaF jaD ja7 jby jbf jaM jaY jap jaK jal jam jax jao ja6 jaV ja8 jae jag jaf ja0 jaC jaP jaw jaI jaZ jaH jaS jan jaU jaE jar jaL jah jaB jaa jaz jaG jab ja2 a0_s jaq jai jaO jaA jat jau jav jaj jas jaJ jak jad jay jac a0_s cyI f0_s) sz) (fun u : Unit => ((wd08_9 a0 jaX jaF jaD ja7 jby jbf jaM jaY jap jaK jal jam jax jao ja6 jaV ja8 jae jag jaf ja0 jaC jaP jaw jaI jaZ jaH jaS jan jaU jaE jar jaL jah jaB jaa jaz jaG jab ja2 a0_s jaq jai jaO jaA jat jau jav jaj jas jaJ jak jad jay jac a0_s cyI f0_s) : va_W))) (va_A (wd08_9 a0 jaX jaF jaD ja7 jby jbf jaM jaY jap jaK jal jam jax jao ja6 jaV ja8 jae jag jaf ja0 jaC jaP jaw jaI jaZ jaH jaS jan jaU jaE jar jaL jah jaB jaa jaz jaG jab ja2 a0_s jaq jai jaO jaA jat jau jav jaj jas jaJ jak jad jay jac a0_s cyI f0_s) sz)) 0 0 (va_A (wd08_9 a0 jaX jaF jaD ja7 jby jbf jaM jaY jap jaK jal jam jax jao ja6 jaV ja8 jae jag jaf ja0 jaC jaP jaw jaI jaZ jaH jaS jan jaU jaE jar jaL jah jaB jaa jaz jaG jab ja2 a0_s jaq jai jaO jaA jat jau jav jaj jas jaJ jak jad jay jac a0_s cyI f0_s) sz) := by
  refine Met.ofW (cc := cX11_owes) (maxL := 4) (ret := (some .int)) (by decide) rfl ?_
  intro p e s m args below meth c s₁ B hml hv
  obtain ⟨rfl, hsz, hP, hK, hD0, hNw⟩ := hv
  have hx := B.exec
  have hb := B.bytes
  have hr := B.returns
  have hts := atoms_spec (ws := wsX11_owes) B.pre
  have hown : s.vm.findClass RX11 = some m.cls := findClass_of_methodNamed B.named
  have hlocks := B.notSynchronized
  subst hsz
  have hD := hD0.self (sz := s.heap.size)
  generalize hAe : va_A (wd08_9 a0 jaX jaF jaD ja7 jby jbf jaM jaY jap jaK jal jam jax jao ja6 jaV ja8 jae jag jaf ja0 jaC jaP jaw jaI jaZ jaH jaS jan jaU jaE jar jaL jah jaB jaa jaz jaG jab ja2 a0_s jaq jai jaO jaA jat jau jav jaj jas jaJ jak jad jay jac a0_s cyI f0_s) s.heap.size = A at hD ⊢
  have hA : ∀ q : Nat, s.heap.size ≤ q → A q := fun q h => by rw [← hAe]; exact Or.inr h
  have hS : va_S A s.heap s.heap [] := va_S.rf
  have hP : va_P (dC, dI) vwCl (wd08_9 a0 jaX jaF jaD ja7 jby jbf jaM jaY jap jaK jal jam jax jao ja6 jaV ja8 jae jag jaf ja0 jaC jaP jaw jaI jaZ jaH jaS jan jaU jaE jar jaL jah jaB jaa jaz jaG jab ja2 a0_s jaq jai jaO jaA jat jau jav jaj jas jaJ jak jad jay jac a0_s cyI f0_s) s.heap := hP
  have hl := lv_entry ([.ref a0, .int p1]) (n := 4) (Nat.le_of_ble_eq_true rfl)
  rw [lg_entry_eq]
  generalize (lg_sl ([.ref a0, .int p1]) ++ List.replicate (4 - (lg_sl ([.ref a0, .int p1])).length) Slot.unset).toArray = ls at hl ⊢
  have hl : lv_has ls 4 [(0, .ref a0), (1, .int p1)] := hl
  have C0 : cfx p s m _ meth c cX11_owes (some .int) wsX11_owes RX11 4 A (dC, dI) (kT cyB cyI cyJ cyP) := ⟨hx, hb, hr, hts, hown, hlocks, hml, hA, hK, hNw⟩
  clear hAe
  obtain ⟨H, hH⟩ : ∃ H, H = s.heap := ⟨_, rfl⟩
  rw [← hH] at hP ⊢
  have hS : va_S A s.heap H [] := by rw [hH]; exact va_S.rf
  have hS := hS
  refine lv_iconst (v := 0) hx hb (dt_of tkX11_owes_k0 0 rfl) (by decide) ?_
  refine lv_istore_n (lv' := [(2, .int 0), (0, .ref a0), (1, .int p1)]) hx hb (dt_of tkX11_owes_k0 1 rfl) rfl hl (by decide) rfl (fun ls hl => ?_)
  refine lv_iconst (v := 0) hx hb (dt_of tkX11_owes_k0 2 rfl) (by decide) ?_
  refine lv_istore_n (lv' := [(3, .int 0), (2, .int 0), (0, .ref a0), (1, .int p1)]) hx hb (dt_of tkX11_owes_k0 3 rfl) rfl hl (by decide) rfl (fun ls hl => ?_)
  obtain ⟨n9, hw⟩ := hw
  exact kl_X11_owes_4 dC dI cyB cyI cyJ cyP a0 a0_s jaX jaF jaD ja7 jby jbf jaM jaY jap jaK jal jam jax jao ja6 jaV ja8 jae jag jaf ja0 jaP jaw jaI jaZ jaH jaS jan jaU jaE jar jaL jah jaB jaa jaz jaG jab ja2 jaq jai jaO jaA jat jau jav jaj jas jaJ jak jad jay jac jaC f0_s Q  C0 n9 _ _ _ p1 0 0 hP hD hS (lv_sub hl [2, 3, 1, 0] rfl) hw
theorem ui_X11_isOwed_X11 : ∀ w ∈ u_ws RX11 TX11 55, w ∈ wsX11_isOwed := uiM mbX11_isOwed euX11 (by decide +kernel)
theorem uw_X11_isOwed_f169 : (.fieldLink RX11 169 "MarchHaresModel" "hares" "I" : Cond) ∈ wsX11_isOwed := mbX11_isOwed 520 (by decide +kernel)
theorem uw_X11_isOwed_f71 : (.fieldLink RX11 71 "MarchHaresModel" "s" "[I" : Cond) ∈ wsX11_isOwed := mbX11_isOwed 457 (by decide +kernel)
set_option maxHeartbeats 4000000 in
set_option maxRecDepth 100000 in
theorem kl_X11_isOwed_4 {p : Program} {l : Launch} {e : Env} {s : State} {m : MethodId} {args : Array Value} {below : List Frame} {meth : Method} {c : Code} {A : Nat → Prop} (dC : Nat → ClassId) (dI : Nat → Nat → Nat) (cyB cyI cyJ cyP : ClassId) (a0 a0_s : Nat) (jaX jaF jaD ja7 jby jbf jaM jaY jap jaK jal jam jax jao ja6 jaV ja8 jae jag jaf ja0 jaP jaw jaI jaZ jaH jaS jan jaU jaE jar jaL jah jaB jaa jaz jaG jab ja2 jaq jai jaO jaA jat jau jav jaj jas jaJ jak jad jay jac : Value) (jaC : Int32) (f0_s : Nat → Int32) (Q : Int32 → Prop)  (C0 : cfx p s m args meth c cX11_isOwed (some .int) wsX11_isOwed RX11 4 A (dC, dI) (kT cyB cyI cyJ cyP)) : ∀ (n : Nat) (H : Heap) (locs : List Loc) (ls : Array Slot) (l1 l2 l3 : Int32), va_P (dC, dI) vwCl (wd08_9 a0 jaX jaF jaD ja7 jby jbf jaM jaY jap jaK jal jam jax jao ja6 jaV ja8 jae jag jaf ja0 jaC jaP jaw jaI jaZ jaH jaS jan jaU jaE jar jaL jah jaB jaa jaz jaG jab ja2 a0_s jaq jai jaO jaA jat jau jav jaj jas jaJ jak jad jay jac a0_s cyI f0_s) H → va_D A (wd08_9 a0 jaX jaF jaD ja7 jby jbf jaM jaY jap jaK jal jam jax jao ja6 jaV ja8 jae jag jaf ja0 jaC jaP jaw jaI jaZ jaH jaS jan jaU jaE jar jaL jah jaB jaa jaz jaG jab ja2 a0_s jaq jai jaO jaA jat jau jav jaj jas jaJ jak jad jay jac a0_s cyI f0_s) → va_S A s.heap H locs → lv_has ls 4 [(0, .ref a0), (1, .int l1), (2, .int l2), (3, .int l3)] → wl_X11_isOwed_4 jaC f0_s Q  n l1 l2 l3 → W p l e (headSpec wsX11_isOwed ({ frames := 0, cells := 0, slots := 0, locals := 0 })).room s m args below meth c H locs 0 0 (MQ below (va_Qi (fun (r : Int32) (_ : Unit) => Q r ) (cB (dC, dI) (kT cyB cyI cyJ cyP) A (fun u : Unit => ((wd08_9 a0 jaX jaF jaD ja7 jby jbf jaM jaY jap jaK jal jam jax jao ja6 jaV ja8 jae jag jaf ja0 jaC jaP jaw jaI jaZ jaH jaS jan jaU jaE jar jaL jah jaB jaa jaz jaG jab ja2 a0_s jaq jai jaO jaA jat jau jav jaj jas jaJ jak jad jay jac a0_s cyI f0_s) : va_W))) A) args s 0 0 A) (F0 m 4 ls []) := by
  obtain ⟨hx, hb, hr, hts, hown, hlocks, hml, hA, hK, hNw⟩ := id C0
  intro n
  induction n with
  | zero => intro H locs ls l1 l2 l3 hP hD hS hl hw; exact False.elim hw
  | succ n ih =>
    intro H locs ls l1 l2 l3 hP hD hS hl hw
    refine lv_iload_n hx hb (dt_of tkX11_isOwed_k0 4 rfl) rfl (lv_at hl 3 rfl) ?_
    refine lv_aload_n hx hb (dt_of tkX11_isOwed_k0 5 rfl) rfl (lv_at hl 0 rfl) ?_
    refine va_get (D := (dC, dI)) (ci := 11) (v := .int jaC) (C := RX11) (T := TX11) (N := 55) hx hb hts ui_X11_isOwed_X11 hown hK hP 0 rfl rfl 21 (by decide) (hts _ uw_X11_isOwed_f169) (fun _ h9 => h9) rfl (dt_of tkX11_isOwed_k0 6 rfl) ?_
    refine lv_icmp_ge (tgt := 35) hx hb (dt_of tkX11_isOwed_k0 7 rfl) (by decide) (fun c1 => ?_) (fun c1 => ?_)
    · have hw := hw.1 c1
      refine lv_iload_n hx hb (dt_of tkX11_isOwed_k24 7 rfl) rfl (lv_at hl 2 rfl) ?_
      exact ((W.iret (v := l2) hx hb hr (fun t ht hW => ⟨⟨l2, (), rfl, hw, by rw [ht]; exact hP, va_K.moved hW.alike hK, hD⟩, hS.F ht⟩) hS.2.2 (dt_of tkX11_isOwed_k24 8 rfl)))
    · have hw := hw.2 c1
      refine lv_iload_n hx hb (dt_of tkX11_isOwed_k0 8 rfl) rfl (lv_at hl 2 rfl) ?_
      refine lv_aload_n hx hb (dt_of tkX11_isOwed_k0 9 rfl) rfl (lv_at hl 0 rfl) ?_
      refine va_get (D := (dC, dI)) (ci := 11) (v := .ref a0_s) (C := RX11) (T := TX11) (N := 55) hx hb hts ui_X11_isOwed_X11 hown hK hP 0 rfl rfl 40 (by decide) (hts _ uw_X11_isOwed_f71) (fun _ h9 => h9) rfl (dt_of tkX11_isOwed_k0 10 rfl) ?_
      refine lv_bipush (v := 30) hx hb (dt_of tkX11_isOwed_k0 11 rfl) (by decide) ?_
      refine lv_bipush (v := 6) hx hb (dt_of tkX11_isOwed_k0 12 rfl) (by decide) ?_
      refine lv_iload_n hx hb (dt_of tkX11_isOwed_k0 13 rfl) rfl (lv_at hl 3 rfl) ?_
      refine lv_imul hx hb (dt_of tkX11_isOwed_k0 14 rfl) ?_
      refine lv_iadd hx hb (dt_of tkX11_isOwed_k0 15 rfl) ?_
      refine lv_topi (fun x2 ex2 => ?_)
      have hw := hw x2 ex2
      refine lv_iload_n hx hb (dt_of tkX11_isOwed_k24 0 rfl) rfl (lv_at hl 1 rfl) ?_
      refine lv_iadd hx hb (dt_of tkX11_isOwed_k24 1 rfl) ?_
      refine lv_topi (fun x3 ex3 => ?_)
      have hw := hw x3 ex3
      obtain ⟨hi9, hw⟩ := hw
      refine va_iald hx hb hK hP 1 1 rfl rfl hi9 (dt_of tkX11_isOwed_k24 2 rfl) ?_
      refine lv_topi (fun x4 ex4 => ?_)
      have hw := hw x4 ex4
      refine lv_iadd hx hb (dt_of tkX11_isOwed_k24 3 rfl) ?_
      refine lv_topi (fun x5 ex5 => ?_)
      have hw := hw x5 ex5
      refine lv_istore_n (lv' := [(2, .int x5), (0, .ref a0), (1, .int l1), (3, .int l3)]) hx hb (dt_of tkX11_isOwed_k24 4 rfl) rfl hl (by decide) rfl (fun ls hl => ?_)
      obtain ⟨x6, ex6⟩ : ∃ y : Int32, y = l3 + 1 := ⟨_, rfl⟩
      have hw := hw x6 ex6
      refine lv_iinc (v := x6) (lv' := [(3, .int x6), (2, .int x5), (0, .ref a0), (1, .int l1)]) hx hb (dt_of tkX11_isOwed_k24 5 rfl) hl (k := 3) rfl (by rw [ex6]; rfl) (by decide) rfl (fun ls hl => ?_)
      refine lv_goto (tgt := 4) hx hb (dt_of tkX11_isOwed_k24 6 rfl) (by decide) ?_
      exact ih _ _ _ l1 x5 x6 hP hD hS (lv_sub hl [2, 3, 1, 0] rfl) hw
set_option maxHeartbeats 4000000 in
set_option maxRecDepth 100000 in
theorem ck_X11_isOwed (l : Launch) (dC : Nat → ClassId) (dI : Nat → Nat → Nat) (cyB cyI cyJ cyP : ClassId) (a0 a0_s sz : Nat) (jaX jaF jaD ja7 jby jbf jaM jaY jap jaK jal jam jax jao ja6 jaV ja8 jae jag jaf ja0 jaP jaw jaI jaZ jaH jaS jan jaU jaE jar jaL jah jaB jaa jaz jaG jab ja2 jaq jai jaO jaA jat jau jav jaj jas jaJ jak jad jay jac : Value) (jaC : Int32) (f0_s : Nat → Int32)  (p1 : Int32) {Q : Int32 → Prop} (hw : wq_X11_isOwed jaC f0_s  p1 Q) : Met l yX11_isOwed wsX11_isOwed ({ frames := 0, cells := 0, slots := 0, locals := 0 }) (va_Pc [.ref a0, .int p1] (cPc (dC, dI) (kT cyB cyI cyJ cyP) (wd08_9 a0 jaX jaF jaD ja7 jby jbf jaM jaY jap jaK jal jam jax jao ja6 jaV ja8 jae jag jaf ja0 jaC jaP jaw jaI jaZ jaH jaS jan jaU jaE jar jaL jah jaB jaa jaz jaG jab ja2 a0_s jaq jai jaO jaA jat jau jav jaj jas jaJ jak jad jay jac a0_s cyI f0_s) sz)) (va_Qi (fun (r : Int32) (_ : Unit) => Q r ) (cB (dC, dI) (kT cyB cyI cyJ cyP) (va_A (wd08_9 a0 jaX jaF jaD ja7 jby jbf jaM jaY jap jaK jal jam jax jao ja6 jaV ja8 jae jag jaf ja0 jaC jaP jaw jaI jaZ jaH jaS jan jaU jaE jar jaL jah jaB jaa jaz jaG jab ja2 a0_s jaq jai jaO jaA jat jau jav jaj jas jaJ jak jad jay jac a0_s cyI f0_s) sz) (fun u : Unit => ((wd08_9 a0 jaX jaF jaD ja7 jby jbf jaM jaY jap jaK jal jam jax jao ja6 jaV ja8 jae jag jaf ja0 jaC jaP jaw jaI jaZ jaH jaS jan jaU jaE jar jaL jah jaB jaa jaz jaG jab ja2 a0_s jaq jai jaO jaA jat jau jav jaj jas jaJ jak jad jay jac a0_s cyI f0_s) : va_W))) (va_A (wd08_9 a0 jaX jaF jaD ja7 jby jbf jaM jaY jap jaK jal jam jax jao ja6 jaV ja8 jae jag jaf ja0 jaC jaP jaw jaI jaZ jaH jaS jan jaU jaE jar jaL jah jaB jaa jaz jaG jab ja2 a0_s jaq jai jaO jaA jat jau jav jaj jas jaJ jak jad jay jac a0_s cyI f0_s) sz)) 0 0 (va_A (wd08_9 a0 jaX jaF jaD ja7 jby jbf jaM jaY jap jaK jal jam jax jao ja6 jaV ja8 jae jag jaf ja0 jaC jaP jaw jaI jaZ jaH jaS jan jaU jaE jar jaL jah jaB jaa jaz jaG jab ja2 a0_s jaq jai jaO jaA jat jau jav jaj jas jaJ jak jad jay jac a0_s cyI f0_s) sz) := by
  refine Met.ofW (cc := cX11_isOwed) (maxL := 4) (ret := (some .int)) (by decide) rfl ?_
  intro p e s m args below meth c s₁ B hml hv
  obtain ⟨rfl, hsz, hP, hK, hD0, hNw⟩ := hv
  have hx := B.exec
  have hb := B.bytes
  have hr := B.returns
  have hts := atoms_spec (ws := wsX11_isOwed) B.pre
  have hown : s.vm.findClass RX11 = some m.cls := findClass_of_methodNamed B.named
  have hlocks := B.notSynchronized
  subst hsz
  have hD := hD0.self (sz := s.heap.size)
  generalize hAe : va_A (wd08_9 a0 jaX jaF jaD ja7 jby jbf jaM jaY jap jaK jal jam jax jao ja6 jaV ja8 jae jag jaf ja0 jaC jaP jaw jaI jaZ jaH jaS jan jaU jaE jar jaL jah jaB jaa jaz jaG jab ja2 a0_s jaq jai jaO jaA jat jau jav jaj jas jaJ jak jad jay jac a0_s cyI f0_s) s.heap.size = A at hD ⊢
  have hA : ∀ q : Nat, s.heap.size ≤ q → A q := fun q h => by rw [← hAe]; exact Or.inr h
  have hS : va_S A s.heap s.heap [] := va_S.rf
  have hP : va_P (dC, dI) vwCl (wd08_9 a0 jaX jaF jaD ja7 jby jbf jaM jaY jap jaK jal jam jax jao ja6 jaV ja8 jae jag jaf ja0 jaC jaP jaw jaI jaZ jaH jaS jan jaU jaE jar jaL jah jaB jaa jaz jaG jab ja2 a0_s jaq jai jaO jaA jat jau jav jaj jas jaJ jak jad jay jac a0_s cyI f0_s) s.heap := hP
  have hl := lv_entry ([.ref a0, .int p1]) (n := 4) (Nat.le_of_ble_eq_true rfl)
  rw [lg_entry_eq]
  generalize (lg_sl ([.ref a0, .int p1]) ++ List.replicate (4 - (lg_sl ([.ref a0, .int p1])).length) Slot.unset).toArray = ls at hl ⊢
  have hl : lv_has ls 4 [(0, .ref a0), (1, .int p1)] := hl
  have C0 : cfx p s m _ meth c cX11_isOwed (some .int) wsX11_isOwed RX11 4 A (dC, dI) (kT cyB cyI cyJ cyP) := ⟨hx, hb, hr, hts, hown, hlocks, hml, hA, hK, hNw⟩
  clear hAe
  obtain ⟨H, hH⟩ : ∃ H, H = s.heap := ⟨_, rfl⟩
  rw [← hH] at hP ⊢
  have hS : va_S A s.heap H [] := by rw [hH]; exact va_S.rf
  have hS := hS
  refine lv_iconst (v := 0) hx hb (dt_of tkX11_isOwed_k0 0 rfl) (by decide) ?_
  refine lv_istore_n (lv' := [(2, .int 0), (0, .ref a0), (1, .int p1)]) hx hb (dt_of tkX11_isOwed_k0 1 rfl) rfl hl (by decide) rfl (fun ls hl => ?_)
  refine lv_iconst (v := 0) hx hb (dt_of tkX11_isOwed_k0 2 rfl) (by decide) ?_
  refine lv_istore_n (lv' := [(3, .int 0), (2, .int 0), (0, .ref a0), (1, .int p1)]) hx hb (dt_of tkX11_isOwed_k0 3 rfl) rfl hl (by decide) rfl (fun ls hl => ?_)
  obtain ⟨n9, hw⟩ := hw
  exact kl_X11_isOwed_4 dC dI cyB cyI cyJ cyP a0 a0_s jaX jaF jaD ja7 jby jbf jaM jaY jap jaK jal jam jax jao ja6 jaV ja8 jae jag jaf ja0 jaP jaw jaI jaZ jaH jaS jan jaU jaE jar jaL jah jaB jaa jaz jaG jab ja2 jaq jai jaO jaA jat jau jav jaj jas jaJ jak jad jay jac jaC f0_s Q  C0 n9 _ _ _ p1 0 0 hP hD hS (lv_sub hl [2, 3, 1, 0] rfl) hw
theorem ui_X11_sitIn_X11 : ∀ w ∈ u_ws RX11 TX11 55, w ∈ wsX11_sitIn := uiM mbX11_sitIn euX11 (by decide +kernel)
theorem uw_X11_sitIn_f169 : (.fieldLink RX11 169 "MarchHaresModel" "hares" "I" : Cond) ∈ wsX11_sitIn := mbX11_sitIn 520 (by decide +kernel)
theorem uw_X11_sitIn_f71 : (.fieldLink RX11 71 "MarchHaresModel" "s" "[I" : Cond) ∈ wsX11_sitIn := mbX11_sitIn 457 (by decide +kernel)
set_option maxHeartbeats 4000000 in
set_option maxRecDepth 100000 in
theorem kb_X11_sitIn_32 {p : Program} {l : Launch} {e : Env} {s : State} {m : MethodId} {args : Array Value} {below : List Frame} {meth : Method} {c : Code} {A : Nat → Prop} (dC : Nat → ClassId) (dI : Nat → Nat → Nat) (cyB cyI cyJ cyP : ClassId) (a0 a0_s : Nat) (jaX jaF jaD ja7 jby jbf jaM jaY jap jaK jal jam jax jao ja6 jaV ja8 jae jag jaf ja0 jaP jaw jaI jaZ jaH jaS jan jaU jaE jar jaL jah jaB jaa jaz jaG jab ja2 jaq jai jaO jaA jat jau jav jaj jas jaJ jak jad jay jac : Value) (jaC : Int32) (f0_s : Nat → Int32) (Q : Int32 → Prop) (K4 : Int32 → Int32 → Int32 → Prop) (hK4 : ∀ (H : Heap) (locs : List Loc) (ls : Array Slot) (l1 l2 l3 : Int32), va_P (dC, dI) vwCl (wd08_9 a0 jaX jaF jaD ja7 jby jbf jaM jaY jap jaK jal jam jax jao ja6 jaV ja8 jae jag jaf ja0 jaC jaP jaw jaI jaZ jaH jaS jan jaU jaE jar jaL jah jaB jaa jaz jaG jab ja2 a0_s jaq jai jaO jaA jat jau jav jaj jas jaJ jak jad jay jac a0_s cyI f0_s) H → va_D A (wd08_9 a0 jaX jaF jaD ja7 jby jbf jaM jaY jap jaK jal jam jax jao ja6 jaV ja8 jae jag jaf ja0 jaC jaP jaw jaI jaZ jaH jaS jan jaU jaE jar jaL jah jaB jaa jaz jaG jab ja2 a0_s jaq jai jaO jaA jat jau jav jaj jas jaJ jak jad jay jac a0_s cyI f0_s) → va_S A s.heap H locs → lv_has ls 4 [(0, .ref a0), (1, .int l1), (2, .int l2), (3, .int l3)] → K4 l1 l2 l3 → W p l e (headSpec wsX11_sitIn ({ frames := 0, cells := 0, slots := 0, locals := 0 })).room s m args below meth c H locs 0 0 (MQ below (va_Qi (fun (r : Int32) (_ : Unit) => Q r ) (cB (dC, dI) (kT cyB cyI cyJ cyP) A (fun u : Unit => ((wd08_9 a0 jaX jaF jaD ja7 jby jbf jaM jaY jap jaK jal jam jax jao ja6 jaV ja8 jae jag jaf ja0 jaC jaP jaw jaI jaZ jaH jaS jan jaU jaE jar jaL jah jaB jaa jaz jaG jab ja2 a0_s jaq jai jaO jaA jat jau jav jaj jas jaJ jak jad jay jac a0_s cyI f0_s) : va_W))) A) args s 0 0 A) (F0 m 4 ls [])) (C0 : cfx p s m args meth c cX11_sitIn (some .int) wsX11_sitIn RX11 4 A (dC, dI) (kT cyB cyI cyJ cyP)) : ∀ (H : Heap) (locs : List Loc) (ls : Array Slot) (l1 l3 s0 s1 : Int32), va_P (dC, dI) vwCl (wd08_9 a0 jaX jaF jaD ja7 jby jbf jaM jaY jap jaK jal jam jax jao ja6 jaV ja8 jae jag jaf ja0 jaC jaP jaw jaI jaZ jaH jaS jan jaU jaE jar jaL jah jaB jaa jaz jaG jab ja2 a0_s jaq jai jaO jaA jat jau jav jaj jas jaJ jak jad jay jac a0_s cyI f0_s) H → va_D A (wd08_9 a0 jaX jaF jaD ja7 jby jbf jaM jaY jap jaK jal jam jax jao ja6 jaV ja8 jae jag jaf ja0 jaC jaP jaw jaI jaZ jaH jaS jan jaU jaE jar jaL jah jaB jaa jaz jaG jab ja2 a0_s jaq jai jaO jaA jat jau jav jaj jas jaJ jak jad jay jac a0_s cyI f0_s) → va_S A s.heap H locs → lv_has ls 4 [(0, .ref a0), (1, .int l1), (3, .int l3)] → wb_X11_sitIn_32 jaC f0_s Q K4 l1 l3 s0 s1 → W p l e (headSpec wsX11_sitIn ({ frames := 0, cells := 0, slots := 0, locals := 0 })).room s m args below meth c H locs 0 0 (MQ below (va_Qi (fun (r : Int32) (_ : Unit) => Q r ) (cB (dC, dI) (kT cyB cyI cyJ cyP) A (fun u : Unit => ((wd08_9 a0 jaX jaF jaD ja7 jby jbf jaM jaY jap jaK jal jam jax jao ja6 jaV ja8 jae jag jaf ja0 jaC jaP jaw jaI jaZ jaH jaS jan jaU jaE jar jaL jah jaB jaa jaz jaG jab ja2 a0_s jaq jai jaO jaA jat jau jav jaj jas jaJ jak jad jay jac a0_s cyI f0_s) : va_W))) A) args s 0 0 A) (F0 m 32 ls [.int s1, .int s0]) := by
  obtain ⟨hx, hb, hr, hts, hown, hlocks, hml, hA, hK, hNw⟩ := id C0
  intro H locs ls l1 l3 s0 s1 hP hD hS hl hw
  refine lv_ior hx hb (dt_of tkX11_sitIn_k22 6 rfl) ?_
  refine lv_topi (fun x5 ex5 => ?_)
  have hw := hw x5 ex5
  refine lv_istore_n (lv' := [(2, .int x5), (0, .ref a0), (1, .int l1), (3, .int l3)]) hx hb (dt_of tkX11_sitIn_k22 7 rfl) rfl hl (by decide) rfl (fun ls hl => ?_)
  obtain ⟨x6, ex6⟩ : ∃ y : Int32, y = l3 + 1 := ⟨_, rfl⟩
  have hw := hw x6 ex6
  refine lv_iinc (v := x6) (lv' := [(3, .int x6), (2, .int x5), (0, .ref a0), (1, .int l1)]) hx hb (dt_of tkX11_sitIn_k22 8 rfl) hl (k := 3) rfl (by rw [ex6]; rfl) (by decide) rfl (fun ls hl => ?_)
  refine lv_goto (tgt := 4) hx hb (dt_of tkX11_sitIn_k22 9 rfl) (by decide) ?_
  exact hK4 _ _ _ l1 x5 x6 hP hD hS (lv_sub hl [2, 3, 1, 0] rfl) hw
set_option maxHeartbeats 4000000 in
set_option maxRecDepth 100000 in
theorem kl_X11_sitIn_4 {p : Program} {l : Launch} {e : Env} {s : State} {m : MethodId} {args : Array Value} {below : List Frame} {meth : Method} {c : Code} {A : Nat → Prop} (dC : Nat → ClassId) (dI : Nat → Nat → Nat) (cyB cyI cyJ cyP : ClassId) (a0 a0_s : Nat) (jaX jaF jaD ja7 jby jbf jaM jaY jap jaK jal jam jax jao ja6 jaV ja8 jae jag jaf ja0 jaP jaw jaI jaZ jaH jaS jan jaU jaE jar jaL jah jaB jaa jaz jaG jab ja2 jaq jai jaO jaA jat jau jav jaj jas jaJ jak jad jay jac : Value) (jaC : Int32) (f0_s : Nat → Int32) (Q : Int32 → Prop)  (C0 : cfx p s m args meth c cX11_sitIn (some .int) wsX11_sitIn RX11 4 A (dC, dI) (kT cyB cyI cyJ cyP)) : ∀ (n : Nat) (H : Heap) (locs : List Loc) (ls : Array Slot) (l1 l2 l3 : Int32), va_P (dC, dI) vwCl (wd08_9 a0 jaX jaF jaD ja7 jby jbf jaM jaY jap jaK jal jam jax jao ja6 jaV ja8 jae jag jaf ja0 jaC jaP jaw jaI jaZ jaH jaS jan jaU jaE jar jaL jah jaB jaa jaz jaG jab ja2 a0_s jaq jai jaO jaA jat jau jav jaj jas jaJ jak jad jay jac a0_s cyI f0_s) H → va_D A (wd08_9 a0 jaX jaF jaD ja7 jby jbf jaM jaY jap jaK jal jam jax jao ja6 jaV ja8 jae jag jaf ja0 jaC jaP jaw jaI jaZ jaH jaS jan jaU jaE jar jaL jah jaB jaa jaz jaG jab ja2 a0_s jaq jai jaO jaA jat jau jav jaj jas jaJ jak jad jay jac a0_s cyI f0_s) → va_S A s.heap H locs → lv_has ls 4 [(0, .ref a0), (1, .int l1), (2, .int l2), (3, .int l3)] → wl_X11_sitIn_4 jaC f0_s Q  n l1 l2 l3 → W p l e (headSpec wsX11_sitIn ({ frames := 0, cells := 0, slots := 0, locals := 0 })).room s m args below meth c H locs 0 0 (MQ below (va_Qi (fun (r : Int32) (_ : Unit) => Q r ) (cB (dC, dI) (kT cyB cyI cyJ cyP) A (fun u : Unit => ((wd08_9 a0 jaX jaF jaD ja7 jby jbf jaM jaY jap jaK jal jam jax jao ja6 jaV ja8 jae jag jaf ja0 jaC jaP jaw jaI jaZ jaH jaS jan jaU jaE jar jaL jah jaB jaa jaz jaG jab ja2 a0_s jaq jai jaO jaA jat jau jav jaj jas jaJ jak jad jay jac a0_s cyI f0_s) : va_W))) A) args s 0 0 A) (F0 m 4 ls []) := by
  obtain ⟨hx, hb, hr, hts, hown, hlocks, hml, hA, hK, hNw⟩ := id C0
  intro n
  induction n with
  | zero => intro H locs ls l1 l2 l3 hP hD hS hl hw; exact False.elim hw
  | succ n ih =>
    intro H locs ls l1 l2 l3 hP hD hS hl hw
    refine lv_iload_n hx hb (dt_of tkX11_sitIn_k0 4 rfl) rfl (lv_at hl 3 rfl) ?_
    refine lv_aload_n hx hb (dt_of tkX11_sitIn_k0 5 rfl) rfl (lv_at hl 0 rfl) ?_
    refine va_get (D := (dC, dI)) (ci := 11) (v := .int jaC) (C := RX11) (T := TX11) (N := 55) hx hb hts ui_X11_sitIn_X11 hown hK hP 0 rfl rfl 21 (by decide) (hts _ uw_X11_sitIn_f169) (fun _ h9 => h9) rfl (dt_of tkX11_sitIn_k0 6 rfl) ?_
    refine lv_icmp_ge (tgt := 40) hx hb (dt_of tkX11_sitIn_k0 7 rfl) (by decide) (fun c1 => ?_) (fun c1 => ?_)
    · have hw := hw.1 c1
      refine lv_iload_n hx hb (dt_of tkX11_sitIn_k22 10 rfl) rfl (lv_at hl 2 rfl) ?_
      exact ((W.iret (v := l2) hx hb hr (fun t ht hW => ⟨⟨l2, (), rfl, hw, by rw [ht]; exact hP, va_K.moved hW.alike hK, hD⟩, hS.F ht⟩) hS.2.2 (dt_of tkX11_sitIn_k22 11 rfl)))
    · have hw := hw.2 c1
      refine lv_iload_n hx hb (dt_of tkX11_sitIn_k0 8 rfl) rfl (lv_at hl 2 rfl) ?_
      refine lv_aload_n hx hb (dt_of tkX11_sitIn_k0 9 rfl) rfl (lv_at hl 0 rfl) ?_
      refine va_get (D := (dC, dI)) (ci := 11) (v := .ref a0_s) (C := RX11) (T := TX11) (N := 55) hx hb hts ui_X11_sitIn_X11 hown hK hP 0 rfl rfl 40 (by decide) (hts _ uw_X11_sitIn_f71) (fun _ h9 => h9) rfl (dt_of tkX11_sitIn_k0 10 rfl) ?_
      refine lv_iconst (v := 0) hx hb (dt_of tkX11_sitIn_k0 11 rfl) (by decide) ?_
      refine lv_iload_n hx hb (dt_of tkX11_sitIn_k0 12 rfl) rfl (lv_at hl 3 rfl) ?_
      refine lv_iadd hx hb (dt_of tkX11_sitIn_k0 13 rfl) ?_
      refine lv_topi (fun x2 ex2 => ?_)
      have hw := hw x2 ex2
      obtain ⟨hi9, hw⟩ := hw
      refine va_iald hx hb hK hP 1 1 rfl rfl hi9 (dt_of tkX11_sitIn_k0 14 rfl) ?_
      refine lv_topi (fun x3 ex3 => ?_)
      have hw := hw x3 ex3
      refine lv_iload_n hx hb (dt_of tkX11_sitIn_k0 15 rfl) rfl (lv_at hl 1 rfl) ?_
      refine lv_icmp_ne (tgt := 31) hx hb (dt_of tkX11_sitIn_k22 0 rfl) (by decide) (fun c4 => ?_) (fun c4 => ?_)
      · have hw := hw.1 c4
        refine lv_iconst (v := 0) hx hb (dt_of tkX11_sitIn_k22 5 rfl) (by decide) ?_
        exact kb_X11_sitIn_32 dC dI cyB cyI cyJ cyP a0 a0_s jaX jaF jaD ja7 jby jbf jaM jaY jap jaK jal jam jax jao ja6 jaV ja8 jae jag jaf ja0 jaP jaw jaI jaZ jaH jaS jan jaU jaE jar jaL jah jaB jaa jaz jaG jab ja2 jaq jai jaO jaA jat jau jav jaj jas jaJ jak jad jay jac jaC f0_s Q (wl_X11_sitIn_4 jaC f0_s Q  n) ih C0 _ _ _ l1 l3 l2 0 hP hD hS (lv_sub hl [0, 1, 3] rfl) hw
      · have hw := hw.2 c4
        refine lv_iconst (v := 1) hx hb (dt_of tkX11_sitIn_k22 1 rfl) (by decide) ?_
        refine lv_iload_n hx hb (dt_of tkX11_sitIn_k22 2 rfl) rfl (lv_at hl 3 rfl) ?_
        refine lv_ishl hx hb (dt_of tkX11_sitIn_k22 3 rfl) ?_
        refine lv_goto (tgt := 32) hx hb (dt_of tkX11_sitIn_k22 4 rfl) (by decide) ?_
        exact kb_X11_sitIn_32 dC dI cyB cyI cyJ cyP a0 a0_s jaX jaF jaD ja7 jby jbf jaM jaY jap jaK jal jam jax jao ja6 jaV ja8 jae jag jaf ja0 jaP jaw jaI jaZ jaH jaS jan jaU jaE jar jaL jah jaB jaa jaz jaG jab ja2 jaq jai jaO jaA jat jau jav jaj jas jaJ jak jad jay jac jaC f0_s Q (wl_X11_sitIn_4 jaC f0_s Q  n) ih C0 _ _ _ l1 l3 l2 (1 <<< (l3 &&& 31)) hP hD hS (lv_sub hl [0, 1, 3] rfl) hw
set_option maxHeartbeats 4000000 in
set_option maxRecDepth 100000 in
theorem ck_X11_sitIn (l : Launch) (dC : Nat → ClassId) (dI : Nat → Nat → Nat) (cyB cyI cyJ cyP : ClassId) (a0 a0_s sz : Nat) (jaX jaF jaD ja7 jby jbf jaM jaY jap jaK jal jam jax jao ja6 jaV ja8 jae jag jaf ja0 jaP jaw jaI jaZ jaH jaS jan jaU jaE jar jaL jah jaB jaa jaz jaG jab ja2 jaq jai jaO jaA jat jau jav jaj jas jaJ jak jad jay jac : Value) (jaC : Int32) (f0_s : Nat → Int32)  (p1 : Int32) {Q : Int32 → Prop} (hw : wq_X11_sitIn jaC f0_s  p1 Q) : Met l yX11_sitIn wsX11_sitIn ({ frames := 0, cells := 0, slots := 0, locals := 0 }) (va_Pc [.ref a0, .int p1] (cPc (dC, dI) (kT cyB cyI cyJ cyP) (wd08_9 a0 jaX jaF jaD ja7 jby jbf jaM jaY jap jaK jal jam jax jao ja6 jaV ja8 jae jag jaf ja0 jaC jaP jaw jaI jaZ jaH jaS jan jaU jaE jar jaL jah jaB jaa jaz jaG jab ja2 a0_s jaq jai jaO jaA jat jau jav jaj jas jaJ jak jad jay jac a0_s cyI f0_s) sz)) (va_Qi (fun (r : Int32) (_ : Unit) => Q r ) (cB (dC, dI) (kT cyB cyI cyJ cyP) (va_A (wd08_9 a0 jaX jaF jaD ja7 jby jbf jaM jaY jap jaK jal jam jax jao ja6 jaV ja8 jae jag jaf ja0 jaC jaP jaw jaI jaZ jaH jaS jan jaU jaE jar jaL jah jaB jaa jaz jaG jab ja2 a0_s jaq jai jaO jaA jat jau jav jaj jas jaJ jak jad jay jac a0_s cyI f0_s) sz) (fun u : Unit => ((wd08_9 a0 jaX jaF jaD ja7 jby jbf jaM jaY jap jaK jal jam jax jao ja6 jaV ja8 jae jag jaf ja0 jaC jaP jaw jaI jaZ jaH jaS jan jaU jaE jar jaL jah jaB jaa jaz jaG jab ja2 a0_s jaq jai jaO jaA jat jau jav jaj jas jaJ jak jad jay jac a0_s cyI f0_s) : va_W))) (va_A (wd08_9 a0 jaX jaF jaD ja7 jby jbf jaM jaY jap jaK jal jam jax jao ja6 jaV ja8 jae jag jaf ja0 jaC jaP jaw jaI jaZ jaH jaS jan jaU jaE jar jaL jah jaB jaa jaz jaG jab ja2 a0_s jaq jai jaO jaA jat jau jav jaj jas jaJ jak jad jay jac a0_s cyI f0_s) sz)) 0 0 (va_A (wd08_9 a0 jaX jaF jaD ja7 jby jbf jaM jaY jap jaK jal jam jax jao ja6 jaV ja8 jae jag jaf ja0 jaC jaP jaw jaI jaZ jaH jaS jan jaU jaE jar jaL jah jaB jaa jaz jaG jab ja2 a0_s jaq jai jaO jaA jat jau jav jaj jas jaJ jak jad jay jac a0_s cyI f0_s) sz) := by
  refine Met.ofW (cc := cX11_sitIn) (maxL := 4) (ret := (some .int)) (by decide) rfl ?_
  intro p e s m args below meth c s₁ B hml hv
  obtain ⟨rfl, hsz, hP, hK, hD0, hNw⟩ := hv
  have hx := B.exec
  have hb := B.bytes
  have hr := B.returns
  have hts := atoms_spec (ws := wsX11_sitIn) B.pre
  have hown : s.vm.findClass RX11 = some m.cls := findClass_of_methodNamed B.named
  have hlocks := B.notSynchronized
  subst hsz
  have hD := hD0.self (sz := s.heap.size)
  generalize hAe : va_A (wd08_9 a0 jaX jaF jaD ja7 jby jbf jaM jaY jap jaK jal jam jax jao ja6 jaV ja8 jae jag jaf ja0 jaC jaP jaw jaI jaZ jaH jaS jan jaU jaE jar jaL jah jaB jaa jaz jaG jab ja2 a0_s jaq jai jaO jaA jat jau jav jaj jas jaJ jak jad jay jac a0_s cyI f0_s) s.heap.size = A at hD ⊢
  have hA : ∀ q : Nat, s.heap.size ≤ q → A q := fun q h => by rw [← hAe]; exact Or.inr h
  have hS : va_S A s.heap s.heap [] := va_S.rf
  have hP : va_P (dC, dI) vwCl (wd08_9 a0 jaX jaF jaD ja7 jby jbf jaM jaY jap jaK jal jam jax jao ja6 jaV ja8 jae jag jaf ja0 jaC jaP jaw jaI jaZ jaH jaS jan jaU jaE jar jaL jah jaB jaa jaz jaG jab ja2 a0_s jaq jai jaO jaA jat jau jav jaj jas jaJ jak jad jay jac a0_s cyI f0_s) s.heap := hP
  have hl := lv_entry ([.ref a0, .int p1]) (n := 4) (Nat.le_of_ble_eq_true rfl)
  rw [lg_entry_eq]
  generalize (lg_sl ([.ref a0, .int p1]) ++ List.replicate (4 - (lg_sl ([.ref a0, .int p1])).length) Slot.unset).toArray = ls at hl ⊢
  have hl : lv_has ls 4 [(0, .ref a0), (1, .int p1)] := hl
  have C0 : cfx p s m _ meth c cX11_sitIn (some .int) wsX11_sitIn RX11 4 A (dC, dI) (kT cyB cyI cyJ cyP) := ⟨hx, hb, hr, hts, hown, hlocks, hml, hA, hK, hNw⟩
  clear hAe
  obtain ⟨H, hH⟩ : ∃ H, H = s.heap := ⟨_, rfl⟩
  rw [← hH] at hP ⊢
  have hS : va_S A s.heap H [] := by rw [hH]; exact va_S.rf
  have hS := hS
  refine lv_iconst (v := 0) hx hb (dt_of tkX11_sitIn_k0 0 rfl) (by decide) ?_
  refine lv_istore_n (lv' := [(2, .int 0), (0, .ref a0), (1, .int p1)]) hx hb (dt_of tkX11_sitIn_k0 1 rfl) rfl hl (by decide) rfl (fun ls hl => ?_)
  refine lv_iconst (v := 0) hx hb (dt_of tkX11_sitIn_k0 2 rfl) (by decide) ?_
  refine lv_istore_n (lv' := [(3, .int 0), (2, .int 0), (0, .ref a0), (1, .int p1)]) hx hb (dt_of tkX11_sitIn_k0 3 rfl) rfl hl (by decide) rfl (fun ls hl => ?_)
  obtain ⟨n9, hw⟩ := hw
  exact kl_X11_sitIn_4 dC dI cyB cyI cyJ cyP a0 a0_s jaX jaF jaD ja7 jby jbf jaM jaY jap jaK jal jam jax jao ja6 jaV ja8 jae jag jaf ja0 jaP jaw jaI jaZ jaH jaS jan jaU jaE jar jaL jah jaB jaa jaz jaG jab ja2 jaq jai jaO jaA jat jau jav jaj jas jaJ jak jad jay jac jaC f0_s Q  C0 n9 _ _ _ p1 0 0 hP hD hS (lv_sub hl [2, 3, 1, 0] rfl) hw
set_option maxHeartbeats 4000000 in
set_option maxRecDepth 100000 in
theorem kl_X11_ones_4 {p : Program} {l : Launch} {e : Env} {s : State} {m : MethodId} {args : Array Value} {below : List Frame} {meth : Method} {c : Code} {A : Nat → Prop} (dC : Nat → ClassId) (dI : Nat → Nat → Nat) (cyB cyI cyJ cyP : ClassId)   (Q : Int32 → Prop)  (C0 : cfx p s m args meth c cX11_ones (some .int) wsX11_ones RX11 3 A (dC, dI) (kT cyB cyI cyJ cyP)) : ∀ (n : Nat) (H : Heap) (locs : List Loc) (ls : Array Slot) (l0 l1 l2 : Int32), va_P (dC, dI) vwCl [] H → va_D A [] → va_S A s.heap H locs → lv_has ls 3 [(0, .int l0), (1, .int l1), (2, .int l2)] → wl_X11_ones_4  Q  n l0 l1 l2 → W p l e (headSpec wsX11_ones ({ frames := 0, cells := 0, slots := 0, locals := 0 })).room s m args below meth c H locs 0 0 (MQ below (va_Qi (fun (r : Int32) (_ : Unit) => Q r ) (cB (dC, dI) (kT cyB cyI cyJ cyP) A (fun u : Unit => ([] : va_W))) A) args s 0 0 A) (F0 m 4 ls []) := by
  obtain ⟨hx, hb, hr, hts, hown, hlocks, hml, hA, hK, hNw⟩ := id C0
  intro n
  induction n with
  | zero => intro H locs ls l0 l1 l2 hP hD hS hl hw; exact False.elim hw
  | succ n ih =>
    intro H locs ls l0 l1 l2 hP hD hS hl hw
    refine lv_iload_n hx hb (dt_of tkX11_ones_k0 4 rfl) rfl (lv_at hl 2 rfl) ?_
    refine lv_bipush (v := 8) hx hb (dt_of tkX11_ones_k0 5 rfl) (by decide) ?_
    refine lv_icmp_ge (tgt := 24) hx hb (dt_of tkX11_ones_k0 6 rfl) (by decide) (fun c1 => ?_) (fun c1 => ?_)
    · have hw := hw.1 c1
      refine lv_iload_n hx hb (dt_of tkX11_ones_k21 1 rfl) rfl (lv_at hl 1 rfl) ?_
      exact ((W.iret (v := l1) hx hb hr (fun t ht hW => ⟨⟨l1, (), rfl, hw, by rw [ht]; exact hP, va_K.moved hW.alike hK, hD⟩, hS.F ht⟩) hS.2.2 (dt_of tkX11_ones_k21 2 rfl)))
    · have hw := hw.2 c1
      refine lv_iload_n hx hb (dt_of tkX11_ones_k0 7 rfl) rfl (lv_at hl 1 rfl) ?_
      refine lv_iload_n hx hb (dt_of tkX11_ones_k0 8 rfl) rfl (lv_at hl 0 rfl) ?_
      refine lv_iload_n hx hb (dt_of tkX11_ones_k0 9 rfl) rfl (lv_at hl 2 rfl) ?_
      refine lv_ishr hx hb (dt_of tkX11_ones_k0 10 rfl) ?_
      refine lv_iconst (v := 1) hx hb (dt_of tkX11_ones_k0 11 rfl) (by decide) ?_
      refine lv_iand hx hb (dt_of tkX11_ones_k0 12 rfl) ?_
      refine lv_iadd hx hb (dt_of tkX11_ones_k0 13 rfl) ?_
      refine lv_topi (fun x2 ex2 => ?_)
      have hw := hw x2 ex2
      refine lv_istore_n (lv' := [(1, .int x2), (0, .int l0), (2, .int l2)]) hx hb (dt_of tkX11_ones_k0 14 rfl) rfl hl (by decide) rfl (fun ls hl => ?_)
      obtain ⟨x3, ex3⟩ : ∃ y : Int32, y = l2 + 1 := ⟨_, rfl⟩
      have hw := hw x3 ex3
      refine lv_iinc (v := x3) (lv' := [(2, .int x3), (1, .int x2), (0, .int l0)]) hx hb (dt_of tkX11_ones_k0 15 rfl) hl (k := 2) rfl (by rw [ex3]; rfl) (by decide) rfl (fun ls hl => ?_)
      refine lv_goto (tgt := 4) hx hb (dt_of tkX11_ones_k21 0 rfl) (by decide) ?_
      exact ih _ _ _ l0 x2 x3 hP hD hS (lv_sub hl [2, 1, 0] rfl) hw
set_option maxHeartbeats 4000000 in
set_option maxRecDepth 100000 in
theorem ck_X11_ones (l : Launch) (dC : Nat → ClassId) (dI : Nat → Nat → Nat) (cyB cyI cyJ cyP : ClassId) (sz : Nat)    (p0 : Int32) {Q : Int32 → Prop} (hw : wq_X11_ones   p0 Q) : Met l yX11_ones wsX11_ones ({ frames := 0, cells := 0, slots := 0, locals := 0 }) (va_Pc [.int p0] (cPc (dC, dI) (kT cyB cyI cyJ cyP) [] sz)) (va_Qi (fun (r : Int32) (_ : Unit) => Q r ) (cB (dC, dI) (kT cyB cyI cyJ cyP) (va_A [] sz) (fun u : Unit => ([] : va_W))) (va_A [] sz)) 0 0 (va_A [] sz) := by
  refine Met.ofW (cc := cX11_ones) (maxL := 3) (ret := (some .int)) (by decide) rfl ?_
  intro p e s m args below meth c s₁ B hml hv
  obtain ⟨rfl, hsz, hP, hK, hD0, hNw⟩ := hv
  have hx := B.exec
  have hb := B.bytes
  have hr := B.returns
  have hts := atoms_spec (ws := wsX11_ones) B.pre
  have hown : s.vm.findClass RX11 = some m.cls := findClass_of_methodNamed B.named
  have hlocks := B.notSynchronized
  subst hsz
  have hD := hD0.self (sz := s.heap.size)
  generalize hAe : va_A [] s.heap.size = A at hD ⊢
  have hA : ∀ q : Nat, s.heap.size ≤ q → A q := fun q h => by rw [← hAe]; exact Or.inr h
  have hS : va_S A s.heap s.heap [] := va_S.rf
  have hP : va_P (dC, dI) vwCl [] s.heap := hP
  have hl := lv_entry ([.int p0]) (n := 3) (Nat.le_of_ble_eq_true rfl)
  rw [lg_entry_eq]
  generalize (lg_sl ([.int p0]) ++ List.replicate (3 - (lg_sl ([.int p0])).length) Slot.unset).toArray = ls at hl ⊢
  have hl : lv_has ls 3 [(0, .int p0)] := hl
  have C0 : cfx p s m _ meth c cX11_ones (some .int) wsX11_ones RX11 3 A (dC, dI) (kT cyB cyI cyJ cyP) := ⟨hx, hb, hr, hts, hown, hlocks, hml, hA, hK, hNw⟩
  clear hAe
  obtain ⟨H, hH⟩ : ∃ H, H = s.heap := ⟨_, rfl⟩
  rw [← hH] at hP ⊢
  have hS : va_S A s.heap H [] := by rw [hH]; exact va_S.rf
  have hS := hS
  refine lv_iconst (v := 0) hx hb (dt_of tkX11_ones_k0 0 rfl) (by decide) ?_
  refine lv_istore_n (lv' := [(1, .int 0), (0, .int p0)]) hx hb (dt_of tkX11_ones_k0 1 rfl) rfl hl (by decide) rfl (fun ls hl => ?_)
  refine lv_iconst (v := 0) hx hb (dt_of tkX11_ones_k0 2 rfl) (by decide) ?_
  refine lv_istore_n (lv' := [(2, .int 0), (1, .int 0), (0, .int p0)]) hx hb (dt_of tkX11_ones_k0 3 rfl) rfl hl (by decide) rfl (fun ls hl => ?_)
  obtain ⟨n9, hw⟩ := hw
  exact kl_X11_ones_4 dC dI cyB cyI cyJ cyP    Q  C0 n9 _ _ _ p0 0 0 hP hD hS (lv_sub hl [2, 1, 0] rfl) hw
theorem ui_X11_valueNow_X11 : ∀ w ∈ u_ws RX11 TX11 55, w ∈ wsX11_valueNow := uiM mbX11_valueNow euX11 (by decide +kernel)
theorem uw_X11_valueNow_f179 : (.fieldLink RX11 179 "MarchHaresModel" "codes" "I" : Cond) ∈ wsX11_valueNow := mbX11_valueNow 522 (by decide +kernel)
theorem uw_X11_valueNow_f50 : (.fieldLink RX11 50 "MarchHaresModel" "code" "[I" : Cond) ∈ wsX11_valueNow := mbX11_valueNow 450 (by decide +kernel)
theorem uw_X11_valueNow_f53 : (.fieldLink RX11 53 "MarchHaresModel" "ofCode" "[I" : Cond) ∈ wsX11_valueNow := mbX11_valueNow 451 (by decide +kernel)
theorem uw_X11_valueNow_f56 : (.fieldLink RX11 56 "MarchHaresModel" "stack" "[I" : Cond) ∈ wsX11_valueNow := mbX11_valueNow 452 (by decide +kernel)
theorem uw_X11_valueNow_f59 : (.fieldLink RX11 59 "MarchHaresModel" "facts" "[I" : Cond) ∈ wsX11_valueNow := mbX11_valueNow 453 (by decide +kernel)
set_option maxHeartbeats 4000000 in
set_option maxRecDepth 100000 in
theorem kb_X11_valueNow_89 {p : Program} {l : Launch} {e : Env} {s : State} {m : MethodId} {args : Array Value} {below : List Frame} {meth : Method} {c : Code} {A : Nat → Prop} (dC : Nat → ClassId) (dI : Nat → Nat → Nat) (cyB cyI cyJ cyP : ClassId) (a0 jbB jbG jbu jbg : Nat) (jaX jaF jaD ja7 jby jbf jaM jaY jap jaK jal jam jax jao ja6 jaV ja8 jae jag jaf ja0 ja4 jaP jaw jaI jan jar jaL jah jaB jaa jaz jaG jab ja2 z0_s jaq jai jaO jaA jat jau jav jaj jas jaJ jak jad jay jac : Value) (jbD : Int32) (jcu jbR jbZ : Nat → Int32) (Q : Int32 → (Nat → Int32) → Prop) (K4 : (Nat → Int32) → Int32 → Int32 → Prop) (hK4 : ∀ (H : Heap) (locs : List Loc) (ls : Array Slot) (jca : Nat → Int32) (l1 l2 : Int32), va_P (dC, dI) vwCl (wd08_10 a0 jaX jaF jaD ja7 jby jbf jaM jaY jap jaK jal jam jax jao ja6 jaV ja8 jae jag jaf ja0 ja4 jaP jaw jaI jbG jbg jbB jan jbD jbu jar jaL jah jaB jaa jaz jaG jab ja2 z0_s jaq jai jaO jaA jat jau jav jaj jas jaJ jak jad jay jac jbB cyI jca jbG cyI jcu jbg cyI jbR jbu cyI jbZ) H → va_D A (wd08_10 a0 jaX jaF jaD ja7 jby jbf jaM jaY jap jaK jal jam jax jao ja6 jaV ja8 jae jag jaf ja0 ja4 jaP jaw jaI jbG jbg jbB jan jbD jbu jar jaL jah jaB jaa jaz jaG jab ja2 z0_s jaq jai jaO jaA jat jau jav jaj jas jaJ jak jad jay jac jbB cyI jca jbG cyI jcu jbg cyI jbR jbu cyI jbZ) → va_S A s.heap H locs → lv_has ls 4 [(0, .ref a0), (1, .int l1), (2, .int l2)] → K4 jca l1 l2 → W p l e (headSpec wsX11_valueNow ({ frames := 1, cells := 0, slots := 0, locals := 22 })).room s m args below meth c H locs 0 0 (MQ below (va_Qi (fun (r : Int32) (u : (Nat → Int32)) => Q r u) (cB (dC, dI) (kT cyB cyI cyJ cyP) A (fun u : (Nat → Int32) => ((wd08_10 a0 jaX jaF jaD ja7 jby jbf jaM jaY jap jaK jal jam jax jao ja6 jaV ja8 jae jag jaf ja0 ja4 jaP jaw jaI jbG jbg jbB jan jbD jbu jar jaL jah jaB jaa jaz jaG jab ja2 z0_s jaq jai jaO jaA jat jau jav jaj jas jaJ jak jad jay jac jbB cyI u jbG cyI jcu jbg cyI jbR jbu cyI jbZ) : va_W))) A) args s 0 0 A) (F0 m 4 ls [])) (C0 : cfx p s m args meth c cX11_valueNow (some .int) wsX11_valueNow RX11 4 A (dC, dI) (kT cyB cyI cyJ cyP)) : ∀ (H : Heap) (locs : List Loc) (ls : Array Slot) (jca : Nat → Int32) (l1 l2 : Int32), va_P (dC, dI) vwCl (wd08_10 a0 jaX jaF jaD ja7 jby jbf jaM jaY jap jaK jal jam jax jao ja6 jaV ja8 jae jag jaf ja0 ja4 jaP jaw jaI jbG jbg jbB jan jbD jbu jar jaL jah jaB jaa jaz jaG jab ja2 z0_s jaq jai jaO jaA jat jau jav jaj jas jaJ jak jad jay jac jbB cyI jca jbG cyI jcu jbg cyI jbR jbu cyI jbZ) H → va_D A (wd08_10 a0 jaX jaF jaD ja7 jby jbf jaM jaY jap jaK jal jam jax jao ja6 jaV ja8 jae jag jaf ja0 ja4 jaP jaw jaI jbG jbg jbB jan jbD jbu jar jaL jah jaB jaa jaz jaG jab ja2 z0_s jaq jai jaO jaA jat jau jav jaj jas jaJ jak jad jay jac jbB cyI jca jbG cyI jcu jbg cyI jbR jbu cyI jbZ) → va_S A s.heap H locs → lv_has ls 4 [(0, .ref a0), (1, .int l1), (2, .int l2)] → wb_X11_valueNow_89 jbD jcu jbR jbZ Q K4 jca l1 l2 → W p l e (headSpec wsX11_valueNow ({ frames := 1, cells := 0, slots := 0, locals := 22 })).room s m args below meth c H locs 0 0 (MQ below (va_Qi (fun (r : Int32) (u : (Nat → Int32)) => Q r u) (cB (dC, dI) (kT cyB cyI cyJ cyP) A (fun u : (Nat → Int32) => ((wd08_10 a0 jaX jaF jaD ja7 jby jbf jaM jaY jap jaK jal jam jax jao ja6 jaV ja8 jae jag jaf ja0 ja4 jaP jaw jaI jbG jbg jbB jan jbD jbu jar jaL jah jaB jaa jaz jaG jab ja2 z0_s jaq jai jaO jaA jat jau jav jaj jas jaJ jak jad jay jac jbB cyI u jbG cyI jcu jbg cyI jbR jbu cyI jbZ) : va_W))) A) args s 0 0 A) (F0 m 89 ls []) := by
  obtain ⟨hx, hb, hr, hts, hown, hlocks, hml, hA, hK, hNw⟩ := id C0
  intro H locs ls jca l1 l2 hP hD hS hl hw
  obtain ⟨x16, ex16⟩ : ∃ y : Int32, y = l2 + 1 := ⟨_, rfl⟩
  have hw := hw x16 ex16
  refine lv_iinc (v := x16) (lv' := [(2, .int x16), (0, .ref a0), (1, .int l1)]) hx hb (dt_of tkX11_valueNow_k78 7 rfl) hl (k := 2) rfl (by rw [ex16]; rfl) (by decide) rfl (fun ls hl => ?_)
  refine lv_goto (tgt := 4) hx hb (dt_of tkX11_valueNow_k78 8 rfl) (by decide) ?_
  exact hK4 _ _ _ jca l1 x16 hP hD hS (lv_sub hl [1, 2, 0] rfl) hw
set_option maxHeartbeats 4000000 in
set_option maxRecDepth 100000 in
theorem kb_X11_valueNow_53 {p : Program} {l : Launch} {e : Env} {s : State} {m : MethodId} {args : Array Value} {below : List Frame} {meth : Method} {c : Code} {A : Nat → Prop} (dC : Nat → ClassId) (dI : Nat → Nat → Nat) (cyB cyI cyJ cyP : ClassId) (a0 jbB jbG jbu jbg : Nat) (jaX jaF jaD ja7 jby jbf jaM jaY jap jaK jal jam jax jao ja6 jaV ja8 jae jag jaf ja0 ja4 jaP jaw jaI jan jar jaL jah jaB jaa jaz jaG jab ja2 z0_s jaq jai jaO jaA jat jau jav jaj jas jaJ jak jad jay jac : Value) (jbD : Int32) (jcu jbR jbZ : Nat → Int32) (Q : Int32 → (Nat → Int32) → Prop) (K4 : (Nat → Int32) → Int32 → Int32 → Prop) (hK4 : ∀ (H : Heap) (locs : List Loc) (ls : Array Slot) (jca : Nat → Int32) (l1 l2 : Int32), va_P (dC, dI) vwCl (wd08_10 a0 jaX jaF jaD ja7 jby jbf jaM jaY jap jaK jal jam jax jao ja6 jaV ja8 jae jag jaf ja0 ja4 jaP jaw jaI jbG jbg jbB jan jbD jbu jar jaL jah jaB jaa jaz jaG jab ja2 z0_s jaq jai jaO jaA jat jau jav jaj jas jaJ jak jad jay jac jbB cyI jca jbG cyI jcu jbg cyI jbR jbu cyI jbZ) H → va_D A (wd08_10 a0 jaX jaF jaD ja7 jby jbf jaM jaY jap jaK jal jam jax jao ja6 jaV ja8 jae jag jaf ja0 ja4 jaP jaw jaI jbG jbg jbB jan jbD jbu jar jaL jah jaB jaa jaz jaG jab ja2 z0_s jaq jai jaO jaA jat jau jav jaj jas jaJ jak jad jay jac jbB cyI jca jbG cyI jcu jbg cyI jbR jbu cyI jbZ) → va_S A s.heap H locs → lv_has ls 4 [(0, .ref a0), (1, .int l1), (2, .int l2)] → K4 jca l1 l2 → W p l e (headSpec wsX11_valueNow ({ frames := 1, cells := 0, slots := 0, locals := 22 })).room s m args below meth c H locs 0 0 (MQ below (va_Qi (fun (r : Int32) (u : (Nat → Int32)) => Q r u) (cB (dC, dI) (kT cyB cyI cyJ cyP) A (fun u : (Nat → Int32) => ((wd08_10 a0 jaX jaF jaD ja7 jby jbf jaM jaY jap jaK jal jam jax jao ja6 jaV ja8 jae jag jaf ja0 ja4 jaP jaw jaI jbG jbg jbB jan jbD jbu jar jaL jah jaB jaa jaz jaG jab ja2 z0_s jaq jai jaO jaA jat jau jav jaj jas jaJ jak jad jay jac jbB cyI u jbG cyI jcu jbg cyI jbR jbu cyI jbZ) : va_W))) A) args s 0 0 A) (F0 m 4 ls [])) (C0 : cfx p s m args meth c cX11_valueNow (some .int) wsX11_valueNow RX11 4 A (dC, dI) (kT cyB cyI cyJ cyP)) : ∀ (H : Heap) (locs : List Loc) (ls : Array Slot) (jca : Nat → Int32) (l1 l2 s1 s2 : Int32), va_P (dC, dI) vwCl (wd08_10 a0 jaX jaF jaD ja7 jby jbf jaM jaY jap jaK jal jam jax jao ja6 jaV ja8 jae jag jaf ja0 ja4 jaP jaw jaI jbG jbg jbB jan jbD jbu jar jaL jah jaB jaa jaz jaG jab ja2 z0_s jaq jai jaO jaA jat jau jav jaj jas jaJ jak jad jay jac jbB cyI jca jbG cyI jcu jbg cyI jbR jbu cyI jbZ) H → va_D A (wd08_10 a0 jaX jaF jaD ja7 jby jbf jaM jaY jap jaK jal jam jax jao ja6 jaV ja8 jae jag jaf ja0 ja4 jaP jaw jaI jbG jbg jbB jan jbD jbu jar jaL jah jaB jaa jaz jaG jab ja2 z0_s jaq jai jaO jaA jat jau jav jaj jas jaJ jak jad jay jac jbB cyI jca jbG cyI jcu jbg cyI jbR jbu cyI jbZ) → va_S A s.heap H locs → lv_has ls 4 [(0, .ref a0), (1, .int l1), (2, .int l2)] → wb_X11_valueNow_53 jbD jcu jbR jbZ Q K4 jca l1 l2 s1 s2 → W p l e (headSpec wsX11_valueNow ({ frames := 1, cells := 0, slots := 0, locals := 22 })).room s m args below meth c H locs 0 0 (MQ below (va_Qi (fun (r : Int32) (u : (Nat → Int32)) => Q r u) (cB (dC, dI) (kT cyB cyI cyJ cyP) A (fun u : (Nat → Int32) => ((wd08_10 a0 jaX jaF jaD ja7 jby jbf jaM jaY jap jaK jal jam jax jao ja6 jaV ja8 jae jag jaf ja0 ja4 jaP jaw jaI jbG jbg jbB jan jbD jbu jar jaL jah jaB jaa jaz jaG jab ja2 z0_s jaq jai jaO jaA jat jau jav jaj jas jaJ jak jad jay jac jbB cyI u jbG cyI jcu jbg cyI jbR jbu cyI jbZ) : va_W))) A) args s 0 0 A) (F0 m 53 ls [.int s2, .int s1, .ref jbB]) := by
  obtain ⟨hx, hb, hr, hts, hown, hlocks, hml, hA, hK, hNw⟩ := id C0
  intro H locs ls jca l1 l2 s1 s2 hP hD hS hl hw
  obtain ⟨hi9, hw⟩ := hw
  refine va_iast hx hb hK hP hD hS 1 1 rfl rfl hi9 (dt_of tkX11_valueNow_k52 1 rfl) (fun H locs hP hD hS => ?_)
  obtain ⟨f17, ef17⟩ : ∃ y : Nat → Int32, y = upd jca s1.toNatClampNeg s2 := ⟨_, rfl⟩
  have hw := hw f17 ef17
  have hP : va_P (dC, dI) vwCl (wd08_10 a0 jaX jaF jaD ja7 jby jbf jaM jaY jap jaK jal jam jax jao ja6 jaV ja8 jae jag jaf ja0 ja4 jaP jaw jaI jbG jbg jbB jan jbD jbu jar jaL jah jaB jaa jaz jaG jab ja2 z0_s jaq jai jaO jaA jat jau jav jaj jas jaJ jak jad jay jac jbB cyI f17 jbG cyI jcu jbg cyI jbR jbu cyI jbZ) H := by rw [ef17]; exact hP
  have hD : va_D A (wd08_10 a0 jaX jaF jaD ja7 jby jbf jaM jaY jap jaK jal jam jax jao ja6 jaV ja8 jae jag jaf ja0 ja4 jaP jaw jaI jbG jbg jbB jan jbD jbu jar jaL jah jaB jaa jaz jaG jab ja2 z0_s jaq jai jaO jaA jat jau jav jaj jas jaJ jak jad jay jac jbB cyI f17 jbG cyI jcu jbg cyI jbR jbu cyI jbZ) := by rw [ef17]; exact hD
  obtain ⟨x18, ex18⟩ : ∃ y : Int32, y = l1 + 1 := ⟨_, rfl⟩
  have hw := hw x18 ex18
  refine lv_iinc (v := x18) (lv' := [(1, .int x18), (0, .ref a0), (2, .int l2)]) hx hb (dt_of tkX11_valueNow_k52 2 rfl) hl (k := 1) rfl (by rw [ex18]; rfl) (by decide) rfl (fun ls hl => ?_)
  refine lv_goto (tgt := 89) hx hb (dt_of tkX11_valueNow_k52 3 rfl) (by decide) ?_
  exact kb_X11_valueNow_89 dC dI cyB cyI cyJ cyP a0 jbB jbG jbu jbg jaX jaF jaD ja7 jby jbf jaM jaY jap jaK jal jam jax jao ja6 jaV ja8 jae jag jaf ja0 ja4 jaP jaw jaI jan jar jaL jah jaB jaa jaz jaG jab ja2 z0_s jaq jai jaO jaA jat jau jav jaj jas jaJ jak jad jay jac jbD jcu jbR jbZ Q K4 hK4 C0 _ _ _ f17 x18 l2 hP hD hS (lv_sub hl [1, 0, 2] rfl) hw
set_option maxHeartbeats 4000000 in
set_option maxRecDepth 100000 in
theorem kl_X11_valueNow_4 {p : Program} {l : Launch} {e : Env} {s : State} {m : MethodId} {args : Array Value} {below : List Frame} {meth : Method} {c : Code} {A : Nat → Prop} (dC : Nat → ClassId) (dI : Nat → Nat → Nat) (cyB cyI cyJ cyP : ClassId) (a0 jbB jbG jbu jbg : Nat) (jaX jaF jaD ja7 jby jbf jaM jaY jap jaK jal jam jax jao ja6 jaV ja8 jae jag jaf ja0 ja4 jaP jaw jaI jan jar jaL jah jaB jaa jaz jaG jab ja2 z0_s jaq jai jaO jaA jat jau jav jaj jas jaJ jak jad jay jac : Value) (jbD : Int32) (jcu jbR jbZ : Nat → Int32) (Q : Int32 → (Nat → Int32) → Prop)  (C0 : cfx p s m args meth c cX11_valueNow (some .int) wsX11_valueNow RX11 4 A (dC, dI) (kT cyB cyI cyJ cyP)) : ∀ (n : Nat) (H : Heap) (locs : List Loc) (ls : Array Slot) (jca : Nat → Int32) (l1 l2 : Int32), va_P (dC, dI) vwCl (wd08_10 a0 jaX jaF jaD ja7 jby jbf jaM jaY jap jaK jal jam jax jao ja6 jaV ja8 jae jag jaf ja0 ja4 jaP jaw jaI jbG jbg jbB jan jbD jbu jar jaL jah jaB jaa jaz jaG jab ja2 z0_s jaq jai jaO jaA jat jau jav jaj jas jaJ jak jad jay jac jbB cyI jca jbG cyI jcu jbg cyI jbR jbu cyI jbZ) H → va_D A (wd08_10 a0 jaX jaF jaD ja7 jby jbf jaM jaY jap jaK jal jam jax jao ja6 jaV ja8 jae jag jaf ja0 ja4 jaP jaw jaI jbG jbg jbB jan jbD jbu jar jaL jah jaB jaa jaz jaG jab ja2 z0_s jaq jai jaO jaA jat jau jav jaj jas jaJ jak jad jay jac jbB cyI jca jbG cyI jcu jbg cyI jbR jbu cyI jbZ) → va_S A s.heap H locs → lv_has ls 4 [(0, .ref a0), (1, .int l1), (2, .int l2)] → wl_X11_valueNow_4 jbD jcu jbR jbZ Q  n jca l1 l2 → W p l e (headSpec wsX11_valueNow ({ frames := 1, cells := 0, slots := 0, locals := 22 })).room s m args below meth c H locs 0 0 (MQ below (va_Qi (fun (r : Int32) (u : (Nat → Int32)) => Q r u) (cB (dC, dI) (kT cyB cyI cyJ cyP) A (fun u : (Nat → Int32) => ((wd08_10 a0 jaX jaF jaD ja7 jby jbf jaM jaY jap jaK jal jam jax jao ja6 jaV ja8 jae jag jaf ja0 ja4 jaP jaw jaI jbG jbg jbB jan jbD jbu jar jaL jah jaB jaa jaz jaG jab ja2 z0_s jaq jai jaO jaA jat jau jav jaj jas jaJ jak jad jay jac jbB cyI u jbG cyI jcu jbg cyI jbR jbu cyI jbZ) : va_W))) A) args s 0 0 A) (F0 m 4 ls []) := by
  obtain ⟨hx, hb, hr, hts, hown, hlocks, hml, hA, hK, hNw⟩ := id C0
  intro n
  induction n with
  | zero => intro H locs ls jca l1 l2 hP hD hS hl hw; exact False.elim hw
  | succ n ih =>
    intro H locs ls jca l1 l2 hP hD hS hl hw
    refine lv_iload_n hx hb (dt_of tkX11_valueNow_k0 4 rfl) rfl (lv_at hl 2 rfl) ?_
    refine lv_aload_n hx hb (dt_of tkX11_valueNow_k0 5 rfl) rfl (lv_at hl 0 rfl) ?_
    refine va_get (D := (dC, dI)) (ci := 11) (v := .int jbD) (C := RX11) (T := TX11) (N := 55) hx hb hts ui_X11_valueNow_X11 hown hK hP 0 rfl rfl 29 (by decide) (hts _ uw_X11_valueNow_f179) (fun _ h9 => h9) rfl (dt_of tkX11_valueNow_k0 6 rfl) ?_
    refine lv_icmp_ge (tgt := 95) hx hb (dt_of tkX11_valueNow_k0 7 rfl) (by decide) (fun c1 => ?_) (fun c1 => ?_)
    · have hw := hw.1 c1
      refine lv_aload_n hx hb (dt_of tkX11_valueNow_k78 9 rfl) rfl (lv_at hl 0 rfl) ?_
      refine va_get (D := (dC, dI)) (ci := 11) (v := .ref jbB) (C := RX11) (T := TX11) (N := 55) hx hb hts ui_X11_valueNow_X11 hown hK hP 0 rfl rfl 27 (by decide) (hts _ uw_X11_valueNow_f56) (fun _ h9 => h9) rfl (dt_of tkX11_valueNow_k78 10 rfl) ?_
      refine lv_iconst (v := 0) hx hb (dt_of tkX11_valueNow_k78 11 rfl) (by decide) ?_
      refine va_iald hx hb hK hP 1 1 rfl rfl (vin (by decide)) (dt_of tkX11_valueNow_k78 12 rfl) ?_
      refine lv_topi (fun x2 ex2 => ?_)
      have hw := hw x2 ex2
      exact ((W.iret (v := x2) hx hb hr (fun t ht hW => ⟨⟨x2, (jca), rfl, hw, by rw [ht]; exact hP, va_K.moved hW.alike hK, hD⟩, hS.F ht⟩) hS.2.2 (dt_of tkX11_valueNow_k78 13 rfl)))
    · have hw := hw.2 c1
      refine lv_aload_n hx hb (dt_of tkX11_valueNow_k0 8 rfl) rfl (lv_at hl 0 rfl) ?_
      refine va_get (D := (dC, dI)) (ci := 11) (v := .ref jbG) (C := RX11) (T := TX11) (N := 55) hx hb hts ui_X11_valueNow_X11 hown hK hP 0 rfl rfl 25 (by decide) (hts _ uw_X11_valueNow_f50) (fun _ h9 => h9) rfl (dt_of tkX11_valueNow_k0 9 rfl) ?_
      refine lv_iload_n hx hb (dt_of tkX11_valueNow_k0 10 rfl) rfl (lv_at hl 2 rfl) ?_
      obtain ⟨hi9, hw⟩ := hw
      refine va_iald hx hb hK hP 2 1 rfl rfl hi9 (dt_of tkX11_valueNow_k0 11 rfl) ?_
      refine lv_topi (fun x3 ex3 => ?_)
      have hw := hw x3 ex3
      refine lv_istore_n (lv' := [(3, .int x3), (0, .ref a0), (1, .int l1), (2, .int l2)]) hx hb (dt_of tkX11_valueNow_k0 12 rfl) rfl hl (by decide) rfl (fun ls hl => ?_)
      refine lv_iload_n hx hb (dt_of tkX11_valueNow_k0 13 rfl) rfl (lv_at hl 0 rfl) ?_
      refine lv_iconst (v := 1) hx hb (dt_of tkX11_valueNow_k0 14 rfl) (by decide) ?_
      refine lv_icmp_gt (tgt := 60) hx hb (dt_of tkX11_valueNow_k0 15 rfl) (by decide) (fun c4 => ?_) (fun c4 => ?_)
      · have hw := hw.1 c4
        obtain ⟨x5, ex5⟩ : ∃ y : Int32, y = l1 + (-1) := ⟨_, rfl⟩
        have hw := hw x5 ex5
        refine lv_iinc (v := x5) (lv' := [(1, .int x5), (3, .int x3), (0, .ref a0), (2, .int l2)]) hx hb (dt_of tkX11_valueNow_k52 4 rfl) hl (k := 2) rfl (by rw [ex5]; rfl) (by decide) rfl (fun ls hl => ?_)
        refine lv_aload_n hx hb (dt_of tkX11_valueNow_k52 5 rfl) rfl (lv_at hl 2 rfl) ?_
        refine va_get (D := (dC, dI)) (ci := 11) (v := .ref jbB) (C := RX11) (T := TX11) (N := 55) hx hb hts ui_X11_valueNow_X11 hown hK hP 0 rfl rfl 27 (by decide) (hts _ uw_X11_valueNow_f56) (fun _ h9 => h9) rfl (dt_of tkX11_valueNow_k52 6 rfl) ?_
        refine lv_iload_n hx hb (dt_of tkX11_valueNow_k52 7 rfl) rfl (lv_at hl 0 rfl) ?_
        refine lv_iconst (v := 1) hx hb (dt_of tkX11_valueNow_k52 8 rfl) (by decide) ?_
        refine lv_isub hx hb (dt_of tkX11_valueNow_k52 9 rfl) ?_
        refine lv_topi (fun x6 ex6 => ?_)
        have hw := hw x6 ex6
        refine lv_iload_n hx hb (dt_of tkX11_valueNow_k52 10 rfl) rfl (lv_at hl 1 rfl) ?_
        refine lv_aload_n hx hb (dt_of tkX11_valueNow_k52 11 rfl) rfl (lv_at hl 2 rfl) ?_
        refine va_get (D := (dC, dI)) (ci := 11) (v := .ref jbB) (C := RX11) (T := TX11) (N := 55) hx hb hts ui_X11_valueNow_X11 hown hK hP 0 rfl rfl 27 (by decide) (hts _ uw_X11_valueNow_f56) (fun _ h9 => h9) rfl (dt_of tkX11_valueNow_k52 12 rfl) ?_
        refine lv_iload_n hx hb (dt_of tkX11_valueNow_k52 13 rfl) rfl (lv_at hl 0 rfl) ?_
        refine lv_iconst (v := 1) hx hb (dt_of tkX11_valueNow_k52 14 rfl) (by decide) ?_
        refine lv_isub hx hb (dt_of tkX11_valueNow_k52 15 rfl) ?_
        refine lv_topi (fun x7 ex7 => ?_)
        have hw := hw x7 ex7
        obtain ⟨hi9, hw⟩ := hw
        refine va_iald hx hb hK hP 1 1 rfl rfl hi9 (dt_of tkX11_valueNow_k78 0 rfl) ?_
        refine lv_topi (fun x8 ex8 => ?_)
        have hw := hw x8 ex8
        refine lv_aload_n hx hb (dt_of tkX11_valueNow_k78 1 rfl) rfl (lv_at hl 2 rfl) ?_
        refine va_get (D := (dC, dI)) (ci := 11) (v := .ref jbB) (C := RX11) (T := TX11) (N := 55) hx hb hts ui_X11_valueNow_X11 hown hK hP 0 rfl rfl 27 (by decide) (hts _ uw_X11_valueNow_f56) (fun _ h9 => h9) rfl (dt_of tkX11_valueNow_k78 2 rfl) ?_
        refine lv_iload_n hx hb (dt_of tkX11_valueNow_k78 3 rfl) rfl (lv_at hl 0 rfl) ?_
        obtain ⟨hi9, hw⟩ := hw
        refine va_iald hx hb hK hP 1 1 rfl rfl hi9 (dt_of tkX11_valueNow_k78 4 rfl) ?_
        refine lv_topi (fun x9 ex9 => ?_)
        have hw := hw x9 ex9
        obtain ⟨hCc, hPc, hDc, hFc⟩ := va_pick (ws' := []) hP hD hS hA [] (by decide +kernel) rfl
        refine va_calli (va_runS (As := [.int x3, .int x8, .int x9]) (rest := [.int x6, .ref jbB]) ⟨hx, hb, hml, hown, hts⟩ (ck_X11_both l dC dI cyB cyI cyJ cyP  H.size    x3 x8 x9 hw) (va_cwS 3 hts gX11_valueNow_X11_both rfl rfl rfl (by decide +kernel) ⟨Nat.le_of_ble_eq_true rfl, Nat.le_of_ble_eq_true rfl⟩) ⟨cPc_blind, cPc_pre hPc hK hDc hNw⟩ rfl rfl hl.1 rfl (lv_room (Nat.le_of_ble_eq_true rfl)) (dt_of tkX11_valueNow_k78 5 rfl) ⟨Nat.le_of_ble_eq_true rfl, Nat.le_of_ble_eq_true rfl⟩) hS (fun q _ h => hFc q h) hFc (fun r10 u t H1 locs ht hvm hw hB hz1 hk1 hS => ?_)
        obtain ⟨hP1, hK1, hD1⟩ := hB
        rw [ht] at hP1
        obtain ⟨hP, hD⟩ := va_joinI (wr := (wd08_10 a0 jaX jaF jaD ja7 jby jbf jaM jaY jap jaK jal jam jax jao ja6 jaV ja8 jae jag jaf ja0 ja4 jaP jaw jaI jbG jbg jbB jan jbD jbu jar jaL jah jaB jaa jaz jaG jab ja2 z0_s jaq jai jaO jaA jat jau jav jaj jas jaJ jak jad jay jac jbB cyI jca jbG cyI jcu jbg cyI jbR jbu cyI jbZ)) (w1 := []) (wn := (wd08_10 a0 jaX jaF jaD ja7 jby jbf jaM jaY jap jaK jal jam jax jao ja6 jaV ja8 jae jag jaf ja0 ja4 jaP jaw jaI jbG jbg jbB jan jbD jbu jar jaL jah jaB jaa jaz jaG jab ja2 z0_s jaq jai jaO jaA jat jau jav jaj jas jaJ jak jad jay jac jbB cyI jca jbG cyI jcu jbg cyI jbR jbu cyI jbZ)) hP hD [] [0, 1, 2, 3, 4] hCc rfl (by decide +kernel) (by decide +kernel) rfl hk1 hFc hP1 hD1
        generalize H1 = H at hP hS ⊢
        obtain ⟨hi9, hw⟩ := hw
        refine va_iast hx hb hK hP hD hS 1 1 rfl rfl hi9 (dt_of tkX11_valueNow_k78 6 rfl) (fun H locs hP hD hS => ?_)
        obtain ⟨f11, ef11⟩ : ∃ y : Nat → Int32, y = upd jca x6.toNatClampNeg r10 := ⟨_, rfl⟩
        have hw := hw f11 ef11
        have hP : va_P (dC, dI) vwCl (wd08_10 a0 jaX jaF jaD ja7 jby jbf jaM jaY jap jaK jal jam jax jao ja6 jaV ja8 jae jag jaf ja0 ja4 jaP jaw jaI jbG jbg jbB jan jbD jbu jar jaL jah jaB jaa jaz jaG jab ja2 z0_s jaq jai jaO jaA jat jau jav jaj jas jaJ jak jad jay jac jbB cyI f11 jbG cyI jcu jbg cyI jbR jbu cyI jbZ) H := by rw [ef11]; exact hP
        have hD : va_D A (wd08_10 a0 jaX jaF jaD ja7 jby jbf jaM jaY jap jaK jal jam jax jao ja6 jaV ja8 jae jag jaf ja0 ja4 jaP jaw jaI jbG jbg jbB jan jbD jbu jar jaL jah jaB jaa jaz jaG jab ja2 z0_s jaq jai jaO jaA jat jau jav jaj jas jaJ jak jad jay jac jbB cyI f11 jbG cyI jcu jbg cyI jbR jbu cyI jbZ) := by rw [ef11]; exact hD
        exact kb_X11_valueNow_89 dC dI cyB cyI cyJ cyP a0 jbB jbG jbu jbg jaX jaF jaD ja7 jby jbf jaM jaY jap jaK jal jam jax jao ja6 jaV ja8 jae jag jaf ja0 ja4 jaP jaw jaI jan jar jaL jah jaB jaa jaz jaG jab ja2 z0_s jaq jai jaO jaA jat jau jav jaj jas jaJ jak jad jay jac jbD jcu jbR jbZ Q (wl_X11_valueNow_4 jbD jcu jbR jbZ Q  n) ih C0 _ _ _ f11 x5 l2 hP hD hS (lv_sub hl [2, 0, 3] rfl) hw
      · have hw := hw.2 c4
        refine lv_aload_n hx hb (dt_of tkX11_valueNow_k24 0 rfl) rfl (lv_at hl 1 rfl) ?_
        refine va_get (D := (dC, dI)) (ci := 11) (v := .ref jbB) (C := RX11) (T := TX11) (N := 55) hx hb hts ui_X11_valueNow_X11 hown hK hP 0 rfl rfl 27 (by decide) (hts _ uw_X11_valueNow_f56) (fun _ h9 => h9) rfl (dt_of tkX11_valueNow_k24 1 rfl) ?_
        refine lv_iload_n hx hb (dt_of tkX11_valueNow_k24 2 rfl) rfl (lv_at hl 2 rfl) ?_
        refine lv_iload_n hx hb (dt_of tkX11_valueNow_k24 3 rfl) rfl (lv_at hl 0 rfl) ?_
        refine lv_if_ne (tgt := 42) hx hb (dt_of tkX11_valueNow_k24 4 rfl) (by decide) (fun c12 => ?_) (fun c12 => ?_)
        · have hw := hw.1 c12
          refine lv_aload_n hx hb (dt_of tkX11_valueNow_k24 10 rfl) rfl (lv_at hl 1 rfl) ?_
          refine va_get (D := (dC, dI)) (ci := 11) (v := .ref jbu) (C := RX11) (T := TX11) (N := 55) hx hb hts ui_X11_valueNow_X11 hown hK hP 0 rfl rfl 30 (by decide) (hts _ uw_X11_valueNow_f59) (fun _ h9 => h9) rfl (dt_of tkX11_valueNow_k24 11 rfl) ?_
          refine lv_aload_n hx hb (dt_of tkX11_valueNow_k24 12 rfl) rfl (lv_at hl 1 rfl) ?_
          refine va_get (D := (dC, dI)) (ci := 11) (v := .ref jbg) (C := RX11) (T := TX11) (N := 55) hx hb hts ui_X11_valueNow_X11 hown hK hP 0 rfl rfl 26 (by decide) (hts _ uw_X11_valueNow_f53) (fun _ h9 => h9) rfl (dt_of tkX11_valueNow_k24 13 rfl) ?_
          refine lv_iload_n hx hb (dt_of tkX11_valueNow_k24 14 rfl) rfl (lv_at hl 3 rfl) ?_
          obtain ⟨hi9, hw⟩ := hw
          refine va_iald hx hb hK hP 3 1 rfl rfl hi9 (dt_of tkX11_valueNow_k24 15 rfl) ?_
          refine lv_topi (fun x13 ex13 => ?_)
          have hw := hw x13 ex13
          obtain ⟨hi9, hw⟩ := hw
          refine va_iald hx hb hK hP 4 1 rfl rfl hi9 (dt_of tkX11_valueNow_k52 0 rfl) ?_
          refine lv_topi (fun x14 ex14 => ?_)
          have hw := hw x14 ex14
          exact kb_X11_valueNow_53 dC dI cyB cyI cyJ cyP a0 jbB jbG jbu jbg jaX jaF jaD ja7 jby jbf jaM jaY jap jaK jal jam jax jao ja6 jaV ja8 jae jag jaf ja0 ja4 jaP jaw jaI jan jar jaL jah jaB jaa jaz jaG jab ja2 z0_s jaq jai jaO jaA jat jau jav jaj jas jaJ jak jad jay jac jbD jcu jbR jbZ Q (wl_X11_valueNow_4 jbD jcu jbR jbZ Q  n) ih C0 _ _ _ jca l1 l2 l1 x14 hP hD hS (lv_sub hl [1, 2, 3] rfl) hw
        · have hw := hw.2 c12
          refine lv_aload_n hx hb (dt_of tkX11_valueNow_k24 5 rfl) rfl (lv_at hl 1 rfl) ?_
          refine va_get (D := (dC, dI)) (ci := 11) (v := .ref jbg) (C := RX11) (T := TX11) (N := 55) hx hb hts ui_X11_valueNow_X11 hown hK hP 0 rfl rfl 26 (by decide) (hts _ uw_X11_valueNow_f53) (fun _ h9 => h9) rfl (dt_of tkX11_valueNow_k24 6 rfl) ?_
          refine lv_iload_n hx hb (dt_of tkX11_valueNow_k24 7 rfl) rfl (lv_at hl 3 rfl) ?_
          obtain ⟨hi9, hw⟩ := hw
          refine va_iald hx hb hK hP 3 1 rfl rfl hi9 (dt_of tkX11_valueNow_k24 8 rfl) ?_
          refine lv_topi (fun x15 ex15 => ?_)
          have hw := hw x15 ex15
          refine lv_goto (tgt := 53) hx hb (dt_of tkX11_valueNow_k24 9 rfl) (by decide) ?_
          exact kb_X11_valueNow_53 dC dI cyB cyI cyJ cyP a0 jbB jbG jbu jbg jaX jaF jaD ja7 jby jbf jaM jaY jap jaK jal jam jax jao ja6 jaV ja8 jae jag jaf ja0 ja4 jaP jaw jaI jan jar jaL jah jaB jaa jaz jaG jab ja2 z0_s jaq jai jaO jaA jat jau jav jaj jas jaJ jak jad jay jac jbD jcu jbR jbZ Q (wl_X11_valueNow_4 jbD jcu jbR jbZ Q  n) ih C0 _ _ _ jca l1 l2 l1 x15 hP hD hS (lv_sub hl [1, 2, 3] rfl) hw
set_option maxHeartbeats 4000000 in
set_option maxRecDepth 100000 in
theorem ck_X11_valueNow (l : Launch) (dC : Nat → ClassId) (dI : Nat → Nat → Nat) (cyB cyI cyJ cyP : ClassId) (a0 jbB jbG jbu jbg sz : Nat) (jaX jaF jaD ja7 jby jbf jaM jaY jap jaK jal jam jax jao ja6 jaV ja8 jae jag jaf ja0 ja4 jaP jaw jaI jan jar jaL jah jaB jaa jaz jaG jab ja2 z0_s jaq jai jaO jaA jat jau jav jaj jas jaJ jak jad jay jac : Value) (jbD : Int32) (jcu jbR jbZ jca : Nat → Int32)  {Q : Int32 → (Nat → Int32) → Prop} (hw : wq_X11_valueNow jbD jcu jbR jbZ jca  Q) : Met l yX11_valueNow wsX11_valueNow ({ frames := 1, cells := 0, slots := 0, locals := 22 }) (va_Pc [.ref a0] (cPc (dC, dI) (kT cyB cyI cyJ cyP) (wd08_10 a0 jaX jaF jaD ja7 jby jbf jaM jaY jap jaK jal jam jax jao ja6 jaV ja8 jae jag jaf ja0 ja4 jaP jaw jaI jbG jbg jbB jan jbD jbu jar jaL jah jaB jaa jaz jaG jab ja2 z0_s jaq jai jaO jaA jat jau jav jaj jas jaJ jak jad jay jac jbB cyI jca jbG cyI jcu jbg cyI jbR jbu cyI jbZ) sz)) (va_Qi (fun (r : Int32) (u : (Nat → Int32)) => Q r u) (cB (dC, dI) (kT cyB cyI cyJ cyP) (va_A (wd08_10 a0 jaX jaF jaD ja7 jby jbf jaM jaY jap jaK jal jam jax jao ja6 jaV ja8 jae jag jaf ja0 ja4 jaP jaw jaI jbG jbg jbB jan jbD jbu jar jaL jah jaB jaa jaz jaG jab ja2 z0_s jaq jai jaO jaA jat jau jav jaj jas jaJ jak jad jay jac jbB cyI jca jbG cyI jcu jbg cyI jbR jbu cyI jbZ) sz) (fun u : (Nat → Int32) => ((wd08_10 a0 jaX jaF jaD ja7 jby jbf jaM jaY jap jaK jal jam jax jao ja6 jaV ja8 jae jag jaf ja0 ja4 jaP jaw jaI jbG jbg jbB jan jbD jbu jar jaL jah jaB jaa jaz jaG jab ja2 z0_s jaq jai jaO jaA jat jau jav jaj jas jaJ jak jad jay jac jbB cyI u jbG cyI jcu jbg cyI jbR jbu cyI jbZ) : va_W))) (va_A (wd08_10 a0 jaX jaF jaD ja7 jby jbf jaM jaY jap jaK jal jam jax jao ja6 jaV ja8 jae jag jaf ja0 ja4 jaP jaw jaI jbG jbg jbB jan jbD jbu jar jaL jah jaB jaa jaz jaG jab ja2 z0_s jaq jai jaO jaA jat jau jav jaj jas jaJ jak jad jay jac jbB cyI jca jbG cyI jcu jbg cyI jbR jbu cyI jbZ) sz)) 0 0 (va_A (wd08_10 a0 jaX jaF jaD ja7 jby jbf jaM jaY jap jaK jal jam jax jao ja6 jaV ja8 jae jag jaf ja0 ja4 jaP jaw jaI jbG jbg jbB jan jbD jbu jar jaL jah jaB jaa jaz jaG jab ja2 z0_s jaq jai jaO jaA jat jau jav jaj jas jaJ jak jad jay jac jbB cyI jca jbG cyI jcu jbg cyI jbR jbu cyI jbZ) sz) := by
  refine Met.ofW (cc := cX11_valueNow) (maxL := 4) (ret := (some .int)) (by decide) rfl ?_
  intro p e s m args below meth c s₁ B hml hv
  obtain ⟨rfl, hsz, hP, hK, hD0, hNw⟩ := hv
  have hx := B.exec
  have hb := B.bytes
  have hr := B.returns
  have hts := atoms_spec (ws := wsX11_valueNow) B.pre
  have hown : s.vm.findClass RX11 = some m.cls := findClass_of_methodNamed B.named
  have hlocks := B.notSynchronized
  subst hsz
  have hD := hD0.self (sz := s.heap.size)
  generalize hAe : va_A (wd08_10 a0 jaX jaF jaD ja7 jby jbf jaM jaY jap jaK jal jam jax jao ja6 jaV ja8 jae jag jaf ja0 ja4 jaP jaw jaI jbG jbg jbB jan jbD jbu jar jaL jah jaB jaa jaz jaG jab ja2 z0_s jaq jai jaO jaA jat jau jav jaj jas jaJ jak jad jay jac jbB cyI jca jbG cyI jcu jbg cyI jbR jbu cyI jbZ) s.heap.size = A at hD ⊢
  have hA : ∀ q : Nat, s.heap.size ≤ q → A q := fun q h => by rw [← hAe]; exact Or.inr h
  have hS : va_S A s.heap s.heap [] := va_S.rf
  have hP : va_P (dC, dI) vwCl (wd08_10 a0 jaX jaF jaD ja7 jby jbf jaM jaY jap jaK jal jam jax jao ja6 jaV ja8 jae jag jaf ja0 ja4 jaP jaw jaI jbG jbg jbB jan jbD jbu jar jaL jah jaB jaa jaz jaG jab ja2 z0_s jaq jai jaO jaA jat jau jav jaj jas jaJ jak jad jay jac jbB cyI jca jbG cyI jcu jbg cyI jbR jbu cyI jbZ) s.heap := hP
  have hl := lv_entry ([.ref a0]) (n := 4) (Nat.le_of_ble_eq_true rfl)
  rw [lg_entry_eq]
  generalize (lg_sl ([.ref a0]) ++ List.replicate (4 - (lg_sl ([.ref a0])).length) Slot.unset).toArray = ls at hl ⊢
  have hl : lv_has ls 4 [(0, .ref a0)] := hl
  have C0 : cfx p s m _ meth c cX11_valueNow (some .int) wsX11_valueNow RX11 4 A (dC, dI) (kT cyB cyI cyJ cyP) := ⟨hx, hb, hr, hts, hown, hlocks, hml, hA, hK, hNw⟩
  clear hAe
  obtain ⟨H, hH⟩ : ∃ H, H = s.heap := ⟨_, rfl⟩
  rw [← hH] at hP ⊢
  have hS : va_S A s.heap H [] := by rw [hH]; exact va_S.rf
  have hS := hS
  refine lv_iconst (v := 0) hx hb (dt_of tkX11_valueNow_k0 0 rfl) (by decide) ?_
  refine lv_istore_n (lv' := [(1, .int 0), (0, .ref a0)]) hx hb (dt_of tkX11_valueNow_k0 1 rfl) rfl hl (by decide) rfl (fun ls hl => ?_)
  refine lv_iconst (v := 0) hx hb (dt_of tkX11_valueNow_k0 2 rfl) (by decide) ?_
  refine lv_istore_n (lv' := [(2, .int 0), (1, .int 0), (0, .ref a0)]) hx hb (dt_of tkX11_valueNow_k0 3 rfl) rfl hl (by decide) rfl (fun ls hl => ?_)
  obtain ⟨n9, hw⟩ := hw
  exact kl_X11_valueNow_4 dC dI cyB cyI cyJ cyP a0 jbB jbG jbu jbg jaX jaF jaD ja7 jby jbf jaM jaY jap jaK jal jam jax jao ja6 jaV ja8 jae jag jaf ja0 ja4 jaP jaw jaI jan jar jaL jah jaB jaa jaz jaG jab ja2 z0_s jaq jai jaO jaA jat jau jav jaj jas jaJ jak jad jay jac jbD jcu jbR jbZ Q  C0 n9 _ _ _ jca 0 0 hP hD hS (lv_sub hl [2, 1, 0] rfl) hw
theorem ui_X11_leapNow_X11 : ∀ w ∈ u_ws RX11 TX11 55, w ∈ wsX11_leapNow := uiM mbX11_leapNow euX11 (by decide +kernel)
theorem uw_X11_leapNow_f179 : (.fieldLink RX11 179 "MarchHaresModel" "codes" "I" : Cond) ∈ wsX11_leapNow := mbX11_leapNow 522 (by decide +kernel)
theorem uw_X11_leapNow_f59 : (.fieldLink RX11 59 "MarchHaresModel" "facts" "[I" : Cond) ∈ wsX11_leapNow := mbX11_leapNow 453 (by decide +kernel)
set_option maxHeartbeats 4000000 in
set_option maxRecDepth 100000 in
theorem kb_X11_leapNow_29 {p : Program} {l : Launch} {e : Env} {s : State} {m : MethodId} {args : Array Value} {below : List Frame} {meth : Method} {c : Code} {A : Nat → Prop} (dC : Nat → ClassId) (dI : Nat → Nat → Nat) (cyB cyI cyJ cyP : ClassId) (a0 jbB jbG jbg jbu : Nat) (jaX jaF jaD ja7 jby jbf jaM jaY jap jaK jal jam jax jao ja6 jaV ja8 jae jag jaf ja0 ja4 jaP jaw jaI jan jar jaL jah jaB jaa jaz jaG jab ja2 z0_s jaq jai jaO jaA jat jau jav jaj jas jaJ jak jad jay jac : Value) (jbD : Int32) (jcu jbR jbZ : Nat → Int32) (Q : Int32 → (Nat → Int32) → Prop)  (C0 : cfx p s m args meth c cX11_leapNow (some .int) wsX11_leapNow RX11 2 A (dC, dI) (kT cyB cyI cyJ cyP)) : ∀ (H : Heap) (locs : List Loc) (ls : Array Slot) (jca : Nat → Int32) (s0 : Int32), va_P (dC, dI) vwCl (wd08_10 a0 jaX jaF jaD ja7 jby jbf jaM jaY jap jaK jal jam jax jao ja6 jaV ja8 jae jag jaf ja0 ja4 jaP jaw jaI jbG jbg jbB jan jbD jbu jar jaL jah jaB jaa jaz jaG jab ja2 z0_s jaq jai jaO jaA jat jau jav jaj jas jaJ jak jad jay jac jbB cyI jca jbG cyI jcu jbg cyI jbR jbu cyI jbZ) H → va_D A (wd08_10 a0 jaX jaF jaD ja7 jby jbf jaM jaY jap jaK jal jam jax jao ja6 jaV ja8 jae jag jaf ja0 ja4 jaP jaw jaI jbG jbg jbB jan jbD jbu jar jaL jah jaB jaa jaz jaG jab ja2 z0_s jaq jai jaO jaA jat jau jav jaj jas jaJ jak jad jay jac jbB cyI jca jbG cyI jcu jbg cyI jbR jbu cyI jbZ) → va_S A s.heap H locs → lv_has ls 2 [] → wb_X11_leapNow_29 jbD jcu jbR jbZ Q  jca s0 → W p l e (headSpec wsX11_leapNow ({ frames := 2, cells := 0, slots := 0, locals := 45 })).room s m args below meth c H locs 0 0 (MQ below (va_Qi (fun (r : Int32) (u : (Nat → Int32)) => Q r u) (cB (dC, dI) (kT cyB cyI cyJ cyP) A (fun u : (Nat → Int32) => ((wd08_10 a0 jaX jaF jaD ja7 jby jbf jaM jaY jap jaK jal jam jax jao ja6 jaV ja8 jae jag jaf ja0 ja4 jaP jaw jaI jbG jbg jbB jan jbD jbu jar jaL jah jaB jaa jaz jaG jab ja2 z0_s jaq jai jaO jaA jat jau jav jaj jas jaJ jak jad jay jac jbB cyI u jbG cyI jcu jbg cyI jbR jbu cyI jbZ) : va_W))) A) args s 0 0 A) (F0 m 29 ls [.int s0]) := by
  obtain ⟨hx, hb, hr, hts, hown, hlocks, hml, hA, hK, hNw⟩ := id C0
  intro H locs ls jca s0 hP hD hS hl hw
  refine lv_istore_n (lv' := [(1, .int s0)]) hx hb (dt_of tkX11_leapNow_k26 1 rfl) rfl hl (by decide) rfl (fun ls hl => ?_)
  refine lv_iload_n hx hb (dt_of tkX11_leapNow_k26 2 rfl) rfl (lv_at hl 0 rfl) ?_
  refine lv_if_ge (tgt := 38) hx hb (dt_of tkX11_leapNow_k26 3 rfl) (by decide) (fun c6 => ?_) (fun c6 => ?_)
  · have hw := hw.1 c6
    refine lv_iload_n hx hb (dt_of tkX11_leapNow_k26 6 rfl) rfl (lv_at hl 0 rfl) ?_
    refine lv_bipush (v := 60) hx hb (dt_of tkX11_leapNow_k26 7 rfl) (by decide) ?_
    refine lv_icmp_le (tgt := 49) hx hb (dt_of tkX11_leapNow_k26 8 rfl) (by decide) (fun c7 => ?_) (fun c7 => ?_)
    · have hw := hw.1 c7
      refine lv_iload_n hx hb (dt_of tkX11_leapNow_k26 11 rfl) rfl (lv_at hl 0 rfl) ?_
      exact ((W.iret (v := s0) hx hb hr (fun t ht hW => ⟨⟨s0, (jca), rfl, hw, by rw [ht]; exact hP, va_K.moved hW.alike hK, hD⟩, hS.F ht⟩) hS.2.2 (dt_of tkX11_leapNow_k26 12 rfl)))
    · have hw := hw.2 c7
      refine lv_bipush (v := 60) hx hb (dt_of tkX11_leapNow_k26 9 rfl) (by decide) ?_
      refine lv_goto (tgt := 50) hx hb (dt_of tkX11_leapNow_k26 10 rfl) (by decide) ?_
      exact ((W.iret (v := 60) hx hb hr (fun t ht hW => ⟨⟨60, (jca), rfl, hw, by rw [ht]; exact hP, va_K.moved hW.alike hK, hD⟩, hS.F ht⟩) hS.2.2 (dt_of tkX11_leapNow_k26 12 rfl)))
  · have hw := hw.2 c6
    refine lv_iconst (v := 0) hx hb (dt_of tkX11_leapNow_k26 4 rfl) (by decide) ?_
    refine lv_goto (tgt := 50) hx hb (dt_of tkX11_leapNow_k26 5 rfl) (by decide) ?_
    exact ((W.iret (v := 0) hx hb hr (fun t ht hW => ⟨⟨0, (jca), rfl, hw, by rw [ht]; exact hP, va_K.moved hW.alike hK, hD⟩, hS.F ht⟩) hS.2.2 (dt_of tkX11_leapNow_k26 12 rfl)))
set_option maxHeartbeats 4000000 in
set_option maxRecDepth 100000 in
theorem ck_X11_leapNow (l : Launch) (dC : Nat → ClassId) (dI : Nat → Nat → Nat) (cyB cyI cyJ cyP : ClassId) (a0 jbB jbG jbg jbu sz : Nat) (jaX jaF jaD ja7 jby jbf jaM jaY jap jaK jal jam jax jao ja6 jaV ja8 jae jag jaf ja0 ja4 jaP jaw jaI jan jar jaL jah jaB jaa jaz jaG jab ja2 z0_s jaq jai jaO jaA jat jau jav jaj jas jaJ jak jad jay jac : Value) (jbD : Int32) (jcu jbR jbZ jca : Nat → Int32)  {Q : Int32 → (Nat → Int32) → Prop} (hw : wq_X11_leapNow jbD jcu jbR jbZ jca  Q) : Met l yX11_leapNow wsX11_leapNow ({ frames := 2, cells := 0, slots := 0, locals := 45 }) (va_Pc [.ref a0] (cPc (dC, dI) (kT cyB cyI cyJ cyP) (wd08_10 a0 jaX jaF jaD ja7 jby jbf jaM jaY jap jaK jal jam jax jao ja6 jaV ja8 jae jag jaf ja0 ja4 jaP jaw jaI jbG jbg jbB jan jbD jbu jar jaL jah jaB jaa jaz jaG jab ja2 z0_s jaq jai jaO jaA jat jau jav jaj jas jaJ jak jad jay jac jbB cyI jca jbG cyI jcu jbg cyI jbR jbu cyI jbZ) sz)) (va_Qi (fun (r : Int32) (u : (Nat → Int32)) => Q r u) (cB (dC, dI) (kT cyB cyI cyJ cyP) (va_A (wd08_10 a0 jaX jaF jaD ja7 jby jbf jaM jaY jap jaK jal jam jax jao ja6 jaV ja8 jae jag jaf ja0 ja4 jaP jaw jaI jbG jbg jbB jan jbD jbu jar jaL jah jaB jaa jaz jaG jab ja2 z0_s jaq jai jaO jaA jat jau jav jaj jas jaJ jak jad jay jac jbB cyI jca jbG cyI jcu jbg cyI jbR jbu cyI jbZ) sz) (fun u : (Nat → Int32) => ((wd08_10 a0 jaX jaF jaD ja7 jby jbf jaM jaY jap jaK jal jam jax jao ja6 jaV ja8 jae jag jaf ja0 ja4 jaP jaw jaI jbG jbg jbB jan jbD jbu jar jaL jah jaB jaa jaz jaG jab ja2 z0_s jaq jai jaO jaA jat jau jav jaj jas jaJ jak jad jay jac jbB cyI u jbG cyI jcu jbg cyI jbR jbu cyI jbZ) : va_W))) (va_A (wd08_10 a0 jaX jaF jaD ja7 jby jbf jaM jaY jap jaK jal jam jax jao ja6 jaV ja8 jae jag jaf ja0 ja4 jaP jaw jaI jbG jbg jbB jan jbD jbu jar jaL jah jaB jaa jaz jaG jab ja2 z0_s jaq jai jaO jaA jat jau jav jaj jas jaJ jak jad jay jac jbB cyI jca jbG cyI jcu jbg cyI jbR jbu cyI jbZ) sz)) 0 0 (va_A (wd08_10 a0 jaX jaF jaD ja7 jby jbf jaM jaY jap jaK jal jam jax jao ja6 jaV ja8 jae jag jaf ja0 ja4 jaP jaw jaI jbG jbg jbB jan jbD jbu jar jaL jah jaB jaa jaz jaG jab ja2 z0_s jaq jai jaO jaA jat jau jav jaj jas jaJ jak jad jay jac jbB cyI jca jbG cyI jcu jbg cyI jbR jbu cyI jbZ) sz) := by
  refine Met.ofW (cc := cX11_leapNow) (maxL := 2) (ret := (some .int)) (by decide) rfl ?_
  intro p e s m args below meth c s₁ B hml hv
  obtain ⟨rfl, hsz, hP, hK, hD0, hNw⟩ := hv
  have hx := B.exec
  have hb := B.bytes
  have hr := B.returns
  have hts := atoms_spec (ws := wsX11_leapNow) B.pre
  have hown : s.vm.findClass RX11 = some m.cls := findClass_of_methodNamed B.named
  have hlocks := B.notSynchronized
  subst hsz
  have hD := hD0.self (sz := s.heap.size)
  generalize hAe : va_A (wd08_10 a0 jaX jaF jaD ja7 jby jbf jaM jaY jap jaK jal jam jax jao ja6 jaV ja8 jae jag jaf ja0 ja4 jaP jaw jaI jbG jbg jbB jan jbD jbu jar jaL jah jaB jaa jaz jaG jab ja2 z0_s jaq jai jaO jaA jat jau jav jaj jas jaJ jak jad jay jac jbB cyI jca jbG cyI jcu jbg cyI jbR jbu cyI jbZ) s.heap.size = A at hD ⊢
  have hA : ∀ q : Nat, s.heap.size ≤ q → A q := fun q h => by rw [← hAe]; exact Or.inr h
  have hS : va_S A s.heap s.heap [] := va_S.rf
  have hP : va_P (dC, dI) vwCl (wd08_10 a0 jaX jaF jaD ja7 jby jbf jaM jaY jap jaK jal jam jax jao ja6 jaV ja8 jae jag jaf ja0 ja4 jaP jaw jaI jbG jbg jbB jan jbD jbu jar jaL jah jaB jaa jaz jaG jab ja2 z0_s jaq jai jaO jaA jat jau jav jaj jas jaJ jak jad jay jac jbB cyI jca jbG cyI jcu jbg cyI jbR jbu cyI jbZ) s.heap := hP
  have hl := lv_entry ([.ref a0]) (n := 2) (Nat.le_of_ble_eq_true rfl)
  rw [lg_entry_eq]
  generalize (lg_sl ([.ref a0]) ++ List.replicate (2 - (lg_sl ([.ref a0])).length) Slot.unset).toArray = ls at hl ⊢
  have hl : lv_has ls 2 [(0, .ref a0)] := hl
  have C0 : cfx p s m _ meth c cX11_leapNow (some .int) wsX11_leapNow RX11 2 A (dC, dI) (kT cyB cyI cyJ cyP) := ⟨hx, hb, hr, hts, hown, hlocks, hml, hA, hK, hNw⟩
  clear hAe
  obtain ⟨H, hH⟩ : ∃ H, H = s.heap := ⟨_, rfl⟩
  rw [← hH] at hP ⊢
  have hS : va_S A s.heap H [] := by rw [hH]; exact va_S.rf
  have hS := hS
  refine lv_aload_n hx hb (dt_of tkX11_leapNow_k0 0 rfl) rfl (lv_at hl 0 rfl) ?_
  refine va_get (D := (dC, dI)) (ci := 11) (v := .int jbD) (C := RX11) (T := TX11) (N := 55) hx hb hts ui_X11_leapNow_X11 hown hK hP 0 rfl rfl 29 (by decide) (hts _ uw_X11_leapNow_f179) (fun _ h9 => h9) rfl (dt_of tkX11_leapNow_k0 1 rfl) ?_
  refine lv_if_ne (tgt := 25) hx hb (dt_of tkX11_leapNow_k0 2 rfl) (by decide) (fun c1 => ?_) (fun c1 => ?_)
  · have hw := hw.1 c1
    refine lv_aload_n hx hb (dt_of tkX11_leapNow_k0 15 rfl) rfl (lv_at hl 0 rfl) ?_
    obtain ⟨hCc, hPc, hDc, hFc⟩ := va_pick (ws' := (wd08_10 a0 jaX jaF jaD ja7 jby jbf jaM jaY jap jaK jal jam jax jao ja6 jaV ja8 jae jag jaf ja0 ja4 jaP jaw jaI jbG jbg jbB jan jbD jbu jar jaL jah jaB jaa jaz jaG jab ja2 z0_s jaq jai jaO jaA jat jau jav jaj jas jaJ jak jad jay jac jbB cyI jca jbG cyI jcu jbg cyI jbR jbu cyI jbZ)) hP hD hS hA [0, 1, 2, 3, 4] (by decide +kernel) rfl
    refine va_calli (va_runV (As := []) (rest := []) ⟨hx, hb, hml, hown, hts⟩ (ck_X11_valueNow l dC dI cyB cyI cyJ cyP a0 jbB jbG jbu jbg H.size (jaX) (jaF) (jaD) (ja7) (jby) (jbf) (jaM) (jaY) (jap) (jaK) (jal) (jam) (jax) (jao) (ja6) (jaV) (ja8) (jae) (jag) (jaf) (ja0) (ja4) (jaP) (jaw) (jaI) (jan) (jar) (jaL) (jah) (jaB) (jaa) (jaz) (jaG) (jab) (ja2) (z0_s) (jaq) (jai) (jaO) (jaA) (jat) (jau) (jav) (jaj) (jas) (jaJ) (jak) (jad) (jay) (jac) jbD jcu jbR jbZ jca  hw) (cwV 0 hts gX11_leapNow_X11_valueNow rfl rfl rfl (by decide +kernel) ⟨Nat.le_of_ble_eq_true rfl, Nat.le_of_ble_eq_true rfl⟩) ⟨cPc_blind, va_recv (q := (RX11, TX11, 55)) hK hPc (ci := 11) (q0 := 0) rfl rfl, cPc_pre hPc hK hDc hNw⟩ rfl rfl hl.1 rfl (lv_room (Nat.le_of_ble_eq_true rfl)) (dt_of tkX11_leapNow_k26 0 rfl) ⟨Nat.le_of_ble_eq_true rfl, Nat.le_of_ble_eq_true rfl⟩) hS (fun q _ h => hFc q h) hFc (fun r3 u t H1 locs ht hvm hw hB hz1 hk1 hS => ?_)
    obtain ⟨f2, rfl⟩ : ∃ z, z = u := ⟨_, rfl⟩
    obtain ⟨hP1, hK1, hD1⟩ := hB
    rw [ht] at hP1
    obtain ⟨hP, hD⟩ := va_joinI (wr := []) (w1 := (wd08_10 a0 jaX jaF jaD ja7 jby jbf jaM jaY jap jaK jal jam jax jao ja6 jaV ja8 jae jag jaf ja0 ja4 jaP jaw jaI jbG jbg jbB jan jbD jbu jar jaL jah jaB jaa jaz jaG jab ja2 z0_s jaq jai jaO jaA jat jau jav jaj jas jaJ jak jad jay jac jbB cyI f2 jbG cyI jcu jbg cyI jbR jbu cyI jbZ)) (wn := (wd08_10 a0 jaX jaF jaD ja7 jby jbf jaM jaY jap jaK jal jam jax jao ja6 jaV ja8 jae jag jaf ja0 ja4 jaP jaw jaI jbG jbg jbB jan jbD jbu jar jaL jah jaB jaa jaz jaG jab ja2 z0_s jaq jai jaO jaA jat jau jav jaj jas jaJ jak jad jay jac jbB cyI f2 jbG cyI jcu jbg cyI jbR jbu cyI jbZ)) hP hD [0, 1, 2, 3, 4] [] hCc rfl (by decide +kernel) (by decide +kernel) rfl hk1 hFc hP1 hD1
    generalize H1 = H at hP hS ⊢
    exact kb_X11_leapNow_29 dC dI cyB cyI cyJ cyP a0 jbB jbG jbg jbu jaX jaF jaD ja7 jby jbf jaM jaY jap jaK jal jam jax jao ja6 jaV ja8 jae jag jaf ja0 ja4 jaP jaw jaI jan jar jaL jah jaB jaa jaz jaG jab ja2 z0_s jaq jai jaO jaA jat jau jav jaj jas jaJ jak jad jay jac jbD jcu jbR jbZ Q  C0 _ _ _ f2 r3 hP hD hS (lv_sub hl [] rfl) hw
  · have hw := hw.2 c1
    refine lv_iconst (v := 4) hx hb (dt_of tkX11_leapNow_k0 3 rfl) (by decide) ?_
    refine lv_aload_n hx hb (dt_of tkX11_leapNow_k0 4 rfl) rfl (lv_at hl 0 rfl) ?_
    refine va_get (D := (dC, dI)) (ci := 11) (v := .ref jbu) (C := RX11) (T := TX11) (N := 55) hx hb hts ui_X11_leapNow_X11 hown hK hP 0 rfl rfl 30 (by decide) (hts _ uw_X11_leapNow_f59) (fun _ h9 => h9) rfl (dt_of tkX11_leapNow_k0 5 rfl) ?_
    refine lv_iconst (v := 0) hx hb (dt_of tkX11_leapNow_k0 6 rfl) (by decide) ?_
    refine va_iald hx hb hK hP 4 1 rfl rfl (vin (by decide)) (dt_of tkX11_leapNow_k0 7 rfl) ?_
    refine lv_topi (fun x4 ex4 => ?_)
    have hw := hw x4 ex4
    refine lv_iadd hx hb (dt_of tkX11_leapNow_k0 8 rfl) ?_
    refine lv_aload_n hx hb (dt_of tkX11_leapNow_k0 9 rfl) rfl (lv_at hl 0 rfl) ?_
    refine va_get (D := (dC, dI)) (ci := 11) (v := .ref jbu) (C := RX11) (T := TX11) (N := 55) hx hb hts ui_X11_leapNow_X11 hown hK hP 0 rfl rfl 30 (by decide) (hts _ uw_X11_leapNow_f59) (fun _ h9 => h9) rfl (dt_of tkX11_leapNow_k0 10 rfl) ?_
    refine lv_iconst (v := 1) hx hb (dt_of tkX11_leapNow_k0 11 rfl) (by decide) ?_
    refine va_iald hx hb hK hP 4 1 rfl rfl (vin (by decide)) (dt_of tkX11_leapNow_k0 12 rfl) ?_
    refine lv_topi (fun x5 ex5 => ?_)
    have hw := hw x5 ex5
    refine lv_isub hx hb (dt_of tkX11_leapNow_k0 13 rfl) ?_
    refine lv_goto (tgt := 29) hx hb (dt_of tkX11_leapNow_k0 14 rfl) (by decide) ?_
    exact kb_X11_leapNow_29 dC dI cyB cyI cyJ cyP a0 jbB jbG jbg jbu jaX jaF jaD ja7 jby jbf jaM jaY jap jaK jal jam jax jao ja6 jaV ja8 jae jag jaf ja0 ja4 jaP jaw jaI jan jar jaL jah jaB jaa jaz jaG jab ja2 z0_s jaq jai jaO jaA jat jau jav jaj jas jaJ jak jad jay jac jbD jcu jbR jbZ Q  C0 _ _ _ jca ((4 + x4) - x5) hP hD hS (lv_sub hl [] rfl) hw
theorem ui_X11_leapOf_X11 : ∀ w ∈ u_ws RX11 TX11 55, w ∈ wsX11_leapOf := uiM mbX11_leapOf euX11 (by decide +kernel)
theorem uw_X11_leapOf_f59 : (.fieldLink RX11 59 "MarchHaresModel" "facts" "[I" : Cond) ∈ wsX11_leapOf := mbX11_leapOf 453 (by decide +kernel)
set_option maxHeartbeats 4000000 in
set_option maxRecDepth 100000 in
theorem ck_X11_leapOf (l : Launch) (dC : Nat → ClassId) (dI : Nat → Nat → Nat) (cyB cyI cyJ cyP : ClassId) (a0 jbu jbB jbG jbg sz : Nat) (jaX jaF jaD ja7 jby jbf jaM jaY jap jaK jal jam jax jao ja6 jaV ja8 jae jag jaf ja0 ja4 jaP jaw jaI jan jar jaL jah jaB jaa jaz jaG jab ja2 z0_s jaq jai jaO jaA jat jau jav jaj jas jaJ jak jad jay jac : Value) (jbD : Int32) (jcu jbR jbZ jca : Nat → Int32) (p1 p2 p3 p4 p5 p6 p7 p8 : Int32) {Q : Int32 → (Nat → Int32) → (Nat → Int32) → Prop} (hw : wq_X11_leapOf jbD jcu jbR jbZ jca p1 p2 p3 p4 p5 p6 p7 p8 Q) : Met l yX11_leapOf wsX11_leapOf ({ frames := 3, cells := 0, slots := 0, locals := 66 }) (va_Pc [.ref a0, .int p1, .int p2, .int p3, .int p4, .int p5, .int p6, .int p7, .int p8] (cPc (dC, dI) (kT cyB cyI cyJ cyP) (wd08_11 a0 jaX jaF jaD ja7 jby jbf jaM jaY jap jaK jal jam jax jao ja6 jaV ja8 jae jag jaf ja0 ja4 jaP jaw jaI jbG jbg jbB jan jbD jbu jar jaL jah jaB jaa jaz jaG jab ja2 z0_s jaq jai jaO jaA jat jau jav jaj jas jaJ jak jad jay jac jbu cyI jbZ jbB cyI jca jbG cyI jcu jbg cyI jbR) sz)) (va_Qi (fun (r : Int32) (u : (Nat → Int32) × (Nat → Int32)) => Q r u.1 u.2) (cB (dC, dI) (kT cyB cyI cyJ cyP) (va_A (wd08_11 a0 jaX jaF jaD ja7 jby jbf jaM jaY jap jaK jal jam jax jao ja6 jaV ja8 jae jag jaf ja0 ja4 jaP jaw jaI jbG jbg jbB jan jbD jbu jar jaL jah jaB jaa jaz jaG jab ja2 z0_s jaq jai jaO jaA jat jau jav jaj jas jaJ jak jad jay jac jbu cyI jbZ jbB cyI jca jbG cyI jcu jbg cyI jbR) sz) (fun u : (Nat → Int32) × (Nat → Int32) => ((wd08_11 a0 jaX jaF jaD ja7 jby jbf jaM jaY jap jaK jal jam jax jao ja6 jaV ja8 jae jag jaf ja0 ja4 jaP jaw jaI jbG jbg jbB jan jbD jbu jar jaL jah jaB jaa jaz jaG jab ja2 z0_s jaq jai jaO jaA jat jau jav jaj jas jaJ jak jad jay jac jbu cyI u.1 jbB cyI u.2 jbG cyI jcu jbg cyI jbR) : va_W))) (va_A (wd08_11 a0 jaX jaF jaD ja7 jby jbf jaM jaY jap jaK jal jam jax jao ja6 jaV ja8 jae jag jaf ja0 ja4 jaP jaw jaI jbG jbg jbB jan jbD jbu jar jaL jah jaB jaa jaz jaG jab ja2 z0_s jaq jai jaO jaA jat jau jav jaj jas jaJ jak jad jay jac jbu cyI jbZ jbB cyI jca jbG cyI jcu jbg cyI jbR) sz)) 0 0 (va_A (wd08_11 a0 jaX jaF jaD ja7 jby jbf jaM jaY jap jaK jal jam jax jao ja6 jaV ja8 jae jag jaf ja0 ja4 jaP jaw jaI jbG jbg jbB jan jbD jbu jar jaL jah jaB jaa jaz jaG jab ja2 z0_s jaq jai jaO jaA jat jau jav jaj jas jaJ jak jad jay jac jbu cyI jbZ jbB cyI jca jbG cyI jcu jbg cyI jbR) sz) := by
  refine Met.ofW (cc := cX11_leapOf) (maxL := 9) (ret := (some .int)) (by decide) rfl ?_
  intro p e s m args below meth c s₁ B hml hv
  obtain ⟨rfl, hsz, hP, hK, hD0, hNw⟩ := hv
  have hx := B.exec
  have hb := B.bytes
  have hr := B.returns
  have hts := atoms_spec (ws := wsX11_leapOf) B.pre
  have hown : s.vm.findClass RX11 = some m.cls := findClass_of_methodNamed B.named
  have hlocks := B.notSynchronized
  subst hsz
  have hD := hD0.self (sz := s.heap.size)
  generalize hAe : va_A (wd08_11 a0 jaX jaF jaD ja7 jby jbf jaM jaY jap jaK jal jam jax jao ja6 jaV ja8 jae jag jaf ja0 ja4 jaP jaw jaI jbG jbg jbB jan jbD jbu jar jaL jah jaB jaa jaz jaG jab ja2 z0_s jaq jai jaO jaA jat jau jav jaj jas jaJ jak jad jay jac jbu cyI jbZ jbB cyI jca jbG cyI jcu jbg cyI jbR) s.heap.size = A at hD ⊢
  have hA : ∀ q : Nat, s.heap.size ≤ q → A q := fun q h => by rw [← hAe]; exact Or.inr h
  have hS : va_S A s.heap s.heap [] := va_S.rf
  have hP : va_P (dC, dI) vwCl (wd08_11 a0 jaX jaF jaD ja7 jby jbf jaM jaY jap jaK jal jam jax jao ja6 jaV ja8 jae jag jaf ja0 ja4 jaP jaw jaI jbG jbg jbB jan jbD jbu jar jaL jah jaB jaa jaz jaG jab ja2 z0_s jaq jai jaO jaA jat jau jav jaj jas jaJ jak jad jay jac jbu cyI jbZ jbB cyI jca jbG cyI jcu jbg cyI jbR) s.heap := hP
  have hl := lv_entry ([.ref a0, .int p1, .int p2, .int p3, .int p4, .int p5, .int p6, .int p7, .int p8]) (n := 9) (Nat.le_of_ble_eq_true rfl)
  rw [lg_entry_eq]
  generalize (lg_sl ([.ref a0, .int p1, .int p2, .int p3, .int p4, .int p5, .int p6, .int p7, .int p8]) ++ List.replicate (9 - (lg_sl ([.ref a0, .int p1, .int p2, .int p3, .int p4, .int p5, .int p6, .int p7, .int p8])).length) Slot.unset).toArray = ls at hl ⊢
  have hl : lv_has ls 9 [(0, .ref a0), (1, .int p1), (2, .int p2), (3, .int p3), (4, .int p4), (5, .int p5), (6, .int p6), (7, .int p7), (8, .int p8)] := hl
  have C0 : cfx p s m _ meth c cX11_leapOf (some .int) wsX11_leapOf RX11 9 A (dC, dI) (kT cyB cyI cyJ cyP) := ⟨hx, hb, hr, hts, hown, hlocks, hml, hA, hK, hNw⟩
  clear hAe
  obtain ⟨H, hH⟩ : ∃ H, H = s.heap := ⟨_, rfl⟩
  rw [← hH] at hP ⊢
  have hS : va_S A s.heap H [] := by rw [hH]; exact va_S.rf
  have hS := hS
  refine lv_aload_n hx hb (dt_of tkX11_leapOf_k0 0 rfl) rfl (lv_at hl 0 rfl) ?_
  refine va_get (D := (dC, dI)) (ci := 11) (v := .ref jbu) (C := RX11) (T := TX11) (N := 55) hx hb hts ui_X11_leapOf_X11 hown hK hP 0 rfl rfl 30 (by decide) (hts _ uw_X11_leapOf_f59) (fun _ h9 => h9) rfl (dt_of tkX11_leapOf_k0 1 rfl) ?_
  refine lv_iconst (v := 0) hx hb (dt_of tkX11_leapOf_k0 2 rfl) (by decide) ?_
  refine lv_iload_n hx hb (dt_of tkX11_leapOf_k0 3 rfl) rfl (lv_at hl 1 rfl) ?_
  refine va_iast hx hb hK hP hD hS 1 1 rfl rfl (vin (by decide)) (dt_of tkX11_leapOf_k0 4 rfl) (fun H locs hP hD hS => ?_)
  obtain ⟨f1, ef1⟩ : ∃ y : Nat → Int32, y = upd jbZ (0 : Int32).toNatClampNeg p1 := ⟨_, rfl⟩
  have hw := hw f1 ef1
  have hP : va_P (dC, dI) vwCl (wd08_11 a0 jaX jaF jaD ja7 jby jbf jaM jaY jap jaK jal jam jax jao ja6 jaV ja8 jae jag jaf ja0 ja4 jaP jaw jaI jbG jbg jbB jan jbD jbu jar jaL jah jaB jaa jaz jaG jab ja2 z0_s jaq jai jaO jaA jat jau jav jaj jas jaJ jak jad jay jac jbu cyI f1 jbB cyI jca jbG cyI jcu jbg cyI jbR) H := by rw [ef1]; exact hP
  have hD : va_D A (wd08_11 a0 jaX jaF jaD ja7 jby jbf jaM jaY jap jaK jal jam jax jao ja6 jaV ja8 jae jag jaf ja0 ja4 jaP jaw jaI jbG jbg jbB jan jbD jbu jar jaL jah jaB jaa jaz jaG jab ja2 z0_s jaq jai jaO jaA jat jau jav jaj jas jaJ jak jad jay jac jbu cyI f1 jbB cyI jca jbG cyI jcu jbg cyI jbR) := by rw [ef1]; exact hD
  refine lv_aload_n hx hb (dt_of tkX11_leapOf_k0 5 rfl) rfl (lv_at hl 0 rfl) ?_
  refine va_get (D := (dC, dI)) (ci := 11) (v := .ref jbu) (C := RX11) (T := TX11) (N := 55) hx hb hts ui_X11_leapOf_X11 hown hK hP 0 rfl rfl 30 (by decide) (hts _ uw_X11_leapOf_f59) (fun _ h9 => h9) rfl (dt_of tkX11_leapOf_k0 6 rfl) ?_
  refine lv_iconst (v := 1) hx hb (dt_of tkX11_leapOf_k0 7 rfl) (by decide) ?_
  refine lv_iload_n hx hb (dt_of tkX11_leapOf_k0 8 rfl) rfl (lv_at hl 2 rfl) ?_
  refine va_iast hx hb hK hP hD hS 1 1 rfl rfl (vin (by decide)) (dt_of tkX11_leapOf_k0 9 rfl) (fun H locs hP hD hS => ?_)
  obtain ⟨f2, ef2⟩ : ∃ y : Nat → Int32, y = upd f1 (1 : Int32).toNatClampNeg p2 := ⟨_, rfl⟩
  have hw := hw f2 ef2
  have hP : va_P (dC, dI) vwCl (wd08_11 a0 jaX jaF jaD ja7 jby jbf jaM jaY jap jaK jal jam jax jao ja6 jaV ja8 jae jag jaf ja0 ja4 jaP jaw jaI jbG jbg jbB jan jbD jbu jar jaL jah jaB jaa jaz jaG jab ja2 z0_s jaq jai jaO jaA jat jau jav jaj jas jaJ jak jad jay jac jbu cyI f2 jbB cyI jca jbG cyI jcu jbg cyI jbR) H := by rw [ef2]; exact hP
  have hD : va_D A (wd08_11 a0 jaX jaF jaD ja7 jby jbf jaM jaY jap jaK jal jam jax jao ja6 jaV ja8 jae jag jaf ja0 ja4 jaP jaw jaI jbG jbg jbB jan jbD jbu jar jaL jah jaB jaa jaz jaG jab ja2 z0_s jaq jai jaO jaA jat jau jav jaj jas jaJ jak jad jay jac jbu cyI f2 jbB cyI jca jbG cyI jcu jbg cyI jbR) := by rw [ef2]; exact hD
  refine lv_aload_n hx hb (dt_of tkX11_leapOf_k0 10 rfl) rfl (lv_at hl 0 rfl) ?_
  refine va_get (D := (dC, dI)) (ci := 11) (v := .ref jbu) (C := RX11) (T := TX11) (N := 55) hx hb hts ui_X11_leapOf_X11 hown hK hP 0 rfl rfl 30 (by decide) (hts _ uw_X11_leapOf_f59) (fun _ h9 => h9) rfl (dt_of tkX11_leapOf_k0 11 rfl) ?_
  refine lv_iconst (v := 2) hx hb (dt_of tkX11_leapOf_k0 12 rfl) (by decide) ?_
  refine lv_iload_n hx hb (dt_of tkX11_leapOf_k0 13 rfl) rfl (lv_at hl 3 rfl) ?_
  refine va_iast hx hb hK hP hD hS 1 1 rfl rfl (vin (by decide)) (dt_of tkX11_leapOf_k0 14 rfl) (fun H locs hP hD hS => ?_)
  obtain ⟨f3, ef3⟩ : ∃ y : Nat → Int32, y = upd f2 (2 : Int32).toNatClampNeg p3 := ⟨_, rfl⟩
  have hw := hw f3 ef3
  have hP : va_P (dC, dI) vwCl (wd08_11 a0 jaX jaF jaD ja7 jby jbf jaM jaY jap jaK jal jam jax jao ja6 jaV ja8 jae jag jaf ja0 ja4 jaP jaw jaI jbG jbg jbB jan jbD jbu jar jaL jah jaB jaa jaz jaG jab ja2 z0_s jaq jai jaO jaA jat jau jav jaj jas jaJ jak jad jay jac jbu cyI f3 jbB cyI jca jbG cyI jcu jbg cyI jbR) H := by rw [ef3]; exact hP
  have hD : va_D A (wd08_11 a0 jaX jaF jaD ja7 jby jbf jaM jaY jap jaK jal jam jax jao ja6 jaV ja8 jae jag jaf ja0 ja4 jaP jaw jaI jbG jbg jbB jan jbD jbu jar jaL jah jaB jaa jaz jaG jab ja2 z0_s jaq jai jaO jaA jat jau jav jaj jas jaJ jak jad jay jac jbu cyI f3 jbB cyI jca jbG cyI jcu jbg cyI jbR) := by rw [ef3]; exact hD
  refine lv_aload_n hx hb (dt_of tkX11_leapOf_k0 15 rfl) rfl (lv_at hl 0 rfl) ?_
  refine va_get (D := (dC, dI)) (ci := 11) (v := .ref jbu) (C := RX11) (T := TX11) (N := 55) hx hb hts ui_X11_leapOf_X11 hown hK hP 0 rfl rfl 30 (by decide) (hts _ uw_X11_leapOf_f59) (fun _ h9 => h9) rfl (dt_of tkX11_leapOf_k22 0 rfl) ?_
  refine lv_iconst (v := 3) hx hb (dt_of tkX11_leapOf_k22 1 rfl) (by decide) ?_
  refine lv_iload hx hb (dt_of tkX11_leapOf_k22 2 rfl) (lv_at hl 4 rfl) ?_
  refine va_iast hx hb hK hP hD hS 1 1 rfl rfl (vin (by decide)) (dt_of tkX11_leapOf_k22 3 rfl) (fun H locs hP hD hS => ?_)
  obtain ⟨f4, ef4⟩ : ∃ y : Nat → Int32, y = upd f3 (3 : Int32).toNatClampNeg p4 := ⟨_, rfl⟩
  have hw := hw f4 ef4
  have hP : va_P (dC, dI) vwCl (wd08_11 a0 jaX jaF jaD ja7 jby jbf jaM jaY jap jaK jal jam jax jao ja6 jaV ja8 jae jag jaf ja0 ja4 jaP jaw jaI jbG jbg jbB jan jbD jbu jar jaL jah jaB jaa jaz jaG jab ja2 z0_s jaq jai jaO jaA jat jau jav jaj jas jaJ jak jad jay jac jbu cyI f4 jbB cyI jca jbG cyI jcu jbg cyI jbR) H := by rw [ef4]; exact hP
  have hD : va_D A (wd08_11 a0 jaX jaF jaD ja7 jby jbf jaM jaY jap jaK jal jam jax jao ja6 jaV ja8 jae jag jaf ja0 ja4 jaP jaw jaI jbG jbg jbB jan jbD jbu jar jaL jah jaB jaa jaz jaG jab ja2 z0_s jaq jai jaO jaA jat jau jav jaj jas jaJ jak jad jay jac jbu cyI f4 jbB cyI jca jbG cyI jcu jbg cyI jbR) := by rw [ef4]; exact hD
  refine lv_aload_n hx hb (dt_of tkX11_leapOf_k22 4 rfl) rfl (lv_at hl 0 rfl) ?_
  refine va_get (D := (dC, dI)) (ci := 11) (v := .ref jbu) (C := RX11) (T := TX11) (N := 55) hx hb hts ui_X11_leapOf_X11 hown hK hP 0 rfl rfl 30 (by decide) (hts _ uw_X11_leapOf_f59) (fun _ h9 => h9) rfl (dt_of tkX11_leapOf_k22 5 rfl) ?_
  refine lv_iconst (v := 4) hx hb (dt_of tkX11_leapOf_k22 6 rfl) (by decide) ?_
  refine lv_iload hx hb (dt_of tkX11_leapOf_k22 7 rfl) (lv_at hl 5 rfl) ?_
  refine va_iast hx hb hK hP hD hS 1 1 rfl rfl (vin (by decide)) (dt_of tkX11_leapOf_k22 8 rfl) (fun H locs hP hD hS => ?_)
  obtain ⟨f5, ef5⟩ : ∃ y : Nat → Int32, y = upd f4 (4 : Int32).toNatClampNeg p5 := ⟨_, rfl⟩
  have hw := hw f5 ef5
  have hP : va_P (dC, dI) vwCl (wd08_11 a0 jaX jaF jaD ja7 jby jbf jaM jaY jap jaK jal jam jax jao ja6 jaV ja8 jae jag jaf ja0 ja4 jaP jaw jaI jbG jbg jbB jan jbD jbu jar jaL jah jaB jaa jaz jaG jab ja2 z0_s jaq jai jaO jaA jat jau jav jaj jas jaJ jak jad jay jac jbu cyI f5 jbB cyI jca jbG cyI jcu jbg cyI jbR) H := by rw [ef5]; exact hP
  have hD : va_D A (wd08_11 a0 jaX jaF jaD ja7 jby jbf jaM jaY jap jaK jal jam jax jao ja6 jaV ja8 jae jag jaf ja0 ja4 jaP jaw jaI jbG jbg jbB jan jbD jbu jar jaL jah jaB jaa jaz jaG jab ja2 z0_s jaq jai jaO jaA jat jau jav jaj jas jaJ jak jad jay jac jbu cyI f5 jbB cyI jca jbG cyI jcu jbg cyI jbR) := by rw [ef5]; exact hD
  refine lv_aload_n hx hb (dt_of tkX11_leapOf_k22 9 rfl) rfl (lv_at hl 0 rfl) ?_
  refine va_get (D := (dC, dI)) (ci := 11) (v := .ref jbu) (C := RX11) (T := TX11) (N := 55) hx hb hts ui_X11_leapOf_X11 hown hK hP 0 rfl rfl 30 (by decide) (hts _ uw_X11_leapOf_f59) (fun _ h9 => h9) rfl (dt_of tkX11_leapOf_k22 10 rfl) ?_
  refine lv_iconst (v := 5) hx hb (dt_of tkX11_leapOf_k22 11 rfl) (by decide) ?_
  refine lv_iload hx hb (dt_of tkX11_leapOf_k22 12 rfl) (lv_at hl 6 rfl) ?_
  refine va_iast hx hb hK hP hD hS 1 1 rfl rfl (vin (by decide)) (dt_of tkX11_leapOf_k22 13 rfl) (fun H locs hP hD hS => ?_)
  obtain ⟨f6, ef6⟩ : ∃ y : Nat → Int32, y = upd f5 (5 : Int32).toNatClampNeg p6 := ⟨_, rfl⟩
  have hw := hw f6 ef6
  have hP : va_P (dC, dI) vwCl (wd08_11 a0 jaX jaF jaD ja7 jby jbf jaM jaY jap jaK jal jam jax jao ja6 jaV ja8 jae jag jaf ja0 ja4 jaP jaw jaI jbG jbg jbB jan jbD jbu jar jaL jah jaB jaa jaz jaG jab ja2 z0_s jaq jai jaO jaA jat jau jav jaj jas jaJ jak jad jay jac jbu cyI f6 jbB cyI jca jbG cyI jcu jbg cyI jbR) H := by rw [ef6]; exact hP
  have hD : va_D A (wd08_11 a0 jaX jaF jaD ja7 jby jbf jaM jaY jap jaK jal jam jax jao ja6 jaV ja8 jae jag jaf ja0 ja4 jaP jaw jaI jbG jbg jbB jan jbD jbu jar jaL jah jaB jaa jaz jaG jab ja2 z0_s jaq jai jaO jaA jat jau jav jaj jas jaJ jak jad jay jac jbu cyI f6 jbB cyI jca jbG cyI jcu jbg cyI jbR) := by rw [ef6]; exact hD
  refine lv_aload_n hx hb (dt_of tkX11_leapOf_k22 14 rfl) rfl (lv_at hl 0 rfl) ?_
  refine va_get (D := (dC, dI)) (ci := 11) (v := .ref jbu) (C := RX11) (T := TX11) (N := 55) hx hb hts ui_X11_leapOf_X11 hown hK hP 0 rfl rfl 30 (by decide) (hts _ uw_X11_leapOf_f59) (fun _ h9 => h9) rfl (dt_of tkX11_leapOf_k22 15 rfl) ?_
  refine lv_bipush (v := 6) hx hb (dt_of tkX11_leapOf_k49 0 rfl) (by decide) ?_
  refine lv_iload hx hb (dt_of tkX11_leapOf_k49 1 rfl) (lv_at hl 7 rfl) ?_
  refine va_iast hx hb hK hP hD hS 1 1 rfl rfl (vin (by decide)) (dt_of tkX11_leapOf_k49 2 rfl) (fun H locs hP hD hS => ?_)
  obtain ⟨f7, ef7⟩ : ∃ y : Nat → Int32, y = upd f6 (6 : Int32).toNatClampNeg p7 := ⟨_, rfl⟩
  have hw := hw f7 ef7
  have hP : va_P (dC, dI) vwCl (wd08_11 a0 jaX jaF jaD ja7 jby jbf jaM jaY jap jaK jal jam jax jao ja6 jaV ja8 jae jag jaf ja0 ja4 jaP jaw jaI jbG jbg jbB jan jbD jbu jar jaL jah jaB jaa jaz jaG jab ja2 z0_s jaq jai jaO jaA jat jau jav jaj jas jaJ jak jad jay jac jbu cyI f7 jbB cyI jca jbG cyI jcu jbg cyI jbR) H := by rw [ef7]; exact hP
  have hD : va_D A (wd08_11 a0 jaX jaF jaD ja7 jby jbf jaM jaY jap jaK jal jam jax jao ja6 jaV ja8 jae jag jaf ja0 ja4 jaP jaw jaI jbG jbg jbB jan jbD jbu jar jaL jah jaB jaa jaz jaG jab ja2 z0_s jaq jai jaO jaA jat jau jav jaj jas jaJ jak jad jay jac jbu cyI f7 jbB cyI jca jbG cyI jcu jbg cyI jbR) := by rw [ef7]; exact hD
  refine lv_aload_n hx hb (dt_of tkX11_leapOf_k49 3 rfl) rfl (lv_at hl 0 rfl) ?_
  refine va_get (D := (dC, dI)) (ci := 11) (v := .ref jbu) (C := RX11) (T := TX11) (N := 55) hx hb hts ui_X11_leapOf_X11 hown hK hP 0 rfl rfl 30 (by decide) (hts _ uw_X11_leapOf_f59) (fun _ h9 => h9) rfl (dt_of tkX11_leapOf_k49 4 rfl) ?_
  refine lv_bipush (v := 7) hx hb (dt_of tkX11_leapOf_k49 5 rfl) (by decide) ?_
  refine lv_iload hx hb (dt_of tkX11_leapOf_k49 6 rfl) (lv_at hl 8 rfl) ?_
  refine va_iast hx hb hK hP hD hS 1 1 rfl rfl (vin (by decide)) (dt_of tkX11_leapOf_k49 7 rfl) (fun H locs hP hD hS => ?_)
  obtain ⟨f8, ef8⟩ : ∃ y : Nat → Int32, y = upd f7 (7 : Int32).toNatClampNeg p8 := ⟨_, rfl⟩
  have hw := hw f8 ef8
  have hP : va_P (dC, dI) vwCl (wd08_11 a0 jaX jaF jaD ja7 jby jbf jaM jaY jap jaK jal jam jax jao ja6 jaV ja8 jae jag jaf ja0 ja4 jaP jaw jaI jbG jbg jbB jan jbD jbu jar jaL jah jaB jaa jaz jaG jab ja2 z0_s jaq jai jaO jaA jat jau jav jaj jas jaJ jak jad jay jac jbu cyI f8 jbB cyI jca jbG cyI jcu jbg cyI jbR) H := by rw [ef8]; exact hP
  have hD : va_D A (wd08_11 a0 jaX jaF jaD ja7 jby jbf jaM jaY jap jaK jal jam jax jao ja6 jaV ja8 jae jag jaf ja0 ja4 jaP jaw jaI jbG jbg jbB jan jbD jbu jar jaL jah jaB jaa jaz jaG jab ja2 z0_s jaq jai jaO jaA jat jau jav jaj jas jaJ jak jad jay jac jbu cyI f8 jbB cyI jca jbG cyI jcu jbg cyI jbR) := by rw [ef8]; exact hD
  refine lv_aload_n hx hb (dt_of tkX11_leapOf_k49 8 rfl) rfl (lv_at hl 0 rfl) ?_
  obtain ⟨hCc, hPc, hDc, hFc⟩ := va_pick (ws' := (wd08_10 a0 jaX jaF jaD ja7 jby jbf jaM jaY jap jaK jal jam jax jao ja6 jaV ja8 jae jag jaf ja0 ja4 jaP jaw jaI jbG jbg jbB jan jbD jbu jar jaL jah jaB jaa jaz jaG jab ja2 z0_s jaq jai jaO jaA jat jau jav jaj jas jaJ jak jad jay jac jbB cyI jca jbG cyI jcu jbg cyI jbR jbu cyI f8)) hP hD hS hA [0, 2, 3, 4, 1] (by decide +kernel) rfl
  refine va_calli (va_runV (As := []) (rest := []) ⟨hx, hb, hml, hown, hts⟩ (ck_X11_leapNow l dC dI cyB cyI cyJ cyP a0 jbB jbG jbg jbu H.size (jaX) (jaF) (jaD) (ja7) (jby) (jbf) (jaM) (jaY) (jap) (jaK) (jal) (jam) (jax) (jao) (ja6) (jaV) (ja8) (jae) (jag) (jaf) (ja0) (ja4) (jaP) (jaw) (jaI) (jan) (jar) (jaL) (jah) (jaB) (jaa) (jaz) (jaG) (jab) (ja2) (z0_s) (jaq) (jai) (jaO) (jaA) (jat) (jau) (jav) (jaj) (jas) (jaJ) (jak) (jad) (jay) (jac) jbD jcu jbR f8 jca  hw) (cwV 0 hts gX11_leapOf_X11_leapNow rfl rfl rfl (by decide +kernel) ⟨Nat.le_of_ble_eq_true rfl, Nat.le_of_ble_eq_true rfl⟩) ⟨cPc_blind, va_recv (q := (RX11, TX11, 55)) hK hPc (ci := 11) (q0 := 0) rfl rfl, cPc_pre hPc hK hDc hNw⟩ rfl rfl hl.1 rfl (lv_room (Nat.le_of_ble_eq_true rfl)) (dt_of tkX11_leapOf_k49 9 rfl) ⟨Nat.le_of_ble_eq_true rfl, Nat.le_of_ble_eq_true rfl⟩) hS (fun q _ h => hFc q h) hFc (fun r10 u t H1 locs ht hvm hw hB hz1 hk1 hS => ?_)
  obtain ⟨f9, rfl⟩ : ∃ z, z = u := ⟨_, rfl⟩
  obtain ⟨hP1, hK1, hD1⟩ := hB
  rw [ht] at hP1
  obtain ⟨hP, hD⟩ := va_joinN (wr := []) (w1 := (wd08_10 a0 jaX jaF jaD ja7 jby jbf jaM jaY jap jaK jal jam jax jao ja6 jaV ja8 jae jag jaf ja0 ja4 jaP jaw jaI jbG jbg jbB jan jbD jbu jar jaL jah jaB jaa jaz jaG jab ja2 z0_s jaq jai jaO jaA jat jau jav jaj jas jaJ jak jad jay jac jbB cyI f9 jbG cyI jcu jbg cyI jbR jbu cyI f8)) (wn := (wd08_11 a0 jaX jaF jaD ja7 jby jbf jaM jaY jap jaK jal jam jax jao ja6 jaV ja8 jae jag jaf ja0 ja4 jaP jaw jaI jbG jbg jbB jan jbD jbu jar jaL jah jaB jaa jaz jaG jab ja2 z0_s jaq jai jaO jaA jat jau jav jaj jas jaJ jak jad jay jac jbu cyI f8 jbB cyI f9 jbG cyI jcu jbg cyI jbR)) hP hD [0, 2, 3, 4, 1] [] [0, 4, 1, 2, 3] hCc rfl (by decide +kernel) (by decide +kernel) (by decide +kernel) rfl hk1 hFc hP1 hD1
  generalize H1 = H at hP hS ⊢
  exact ((W.iret (v := r10) hx hb hr (fun t ht hW => ⟨⟨r10, (f8, f9), rfl, hw, by rw [ht]; exact hP, va_K.moved hW.alike hK, hD⟩, hS.F ht⟩) hS.2.2 (dt_of tkX11_leapOf_k49 10 rfl)))
theorem ui_X11_leapBy_X11 : ∀ w ∈ u_ws RX11 TX11 55, w ∈ wsX11_leapBy := uiM mbX11_leapBy euX11 (by decide +kernel)
theorem uw_X11_leapBy_f71 : (.fieldLink RX11 71 "MarchHaresModel" "s" "[I" : Cond) ∈ wsX11_leapBy := mbX11_leapBy 457 (by decide +kernel)
set_option maxHeartbeats 4000000 in
set_option maxRecDepth 100000 in
theorem ck_X11_leapBy (l : Launch) (dC : Nat → ClassId) (dI : Nat → Nat → Nat) (cyB cyI cyJ cyP : ClassId) (a0 a0_s jbu jbB jbG jbg sz : Nat) (jaX jaF jaD ja7 jby jbf jaM jaY jap jaK jal jam jax jao ja6 jaV ja8 jae jag jaf ja0 jaP jaw jaI jan jar jaL jah jaB jaa jaz jaG jab ja2 jaq jai jaO jaA jat jau jav jaj jas jaJ jak jad jay jac : Value) (jaC jbD : Int32) (f0_s jcu jbR jbZ jca : Nat → Int32) (p1 : Int32) {Q : Int32 → (Nat → Int32) → (Nat → Int32) → Prop} (hw : wq_X11_leapBy jaC jbD f0_s jcu jbR jbZ jca p1 Q) : Met l yX11_leapBy wsX11_leapBy ({ frames := 4, cells := 0, slots := 0, locals := 94 }) (va_Pc [.ref a0, .int p1] (cPc (dC, dI) (kT cyB cyI cyJ cyP) (wd08_12 a0 jaX jaF jaD ja7 jby jbf jaM jaY jap jaK jal jam jax jao ja6 jaV ja8 jae jag jaf ja0 jaC jaP jaw jaI jbG jbg jbB jan jbD jbu jar jaL jah jaB jaa jaz jaG jab ja2 a0_s jaq jai jaO jaA jat jau jav jaj jas jaJ jak jad jay jac a0_s cyI f0_s jbu cyI jbZ jbB cyI jca jbG cyI jcu jbg cyI jbR) sz)) (va_Qi (fun (r : Int32) (u : (Nat → Int32) × (Nat → Int32)) => Q r u.1 u.2) (cB (dC, dI) (kT cyB cyI cyJ cyP) (va_A (wd08_12 a0 jaX jaF jaD ja7 jby jbf jaM jaY jap jaK jal jam jax jao ja6 jaV ja8 jae jag jaf ja0 jaC jaP jaw jaI jbG jbg jbB jan jbD jbu jar jaL jah jaB jaa jaz jaG jab ja2 a0_s jaq jai jaO jaA jat jau jav jaj jas jaJ jak jad jay jac a0_s cyI f0_s jbu cyI jbZ jbB cyI jca jbG cyI jcu jbg cyI jbR) sz) (fun u : (Nat → Int32) × (Nat → Int32) => ((wd08_12 a0 jaX jaF jaD ja7 jby jbf jaM jaY jap jaK jal jam jax jao ja6 jaV ja8 jae jag jaf ja0 jaC jaP jaw jaI jbG jbg jbB jan jbD jbu jar jaL jah jaB jaa jaz jaG jab ja2 a0_s jaq jai jaO jaA jat jau jav jaj jas jaJ jak jad jay jac a0_s cyI f0_s jbu cyI u.1 jbB cyI u.2 jbG cyI jcu jbg cyI jbR) : va_W))) (va_A (wd08_12 a0 jaX jaF jaD ja7 jby jbf jaM jaY jap jaK jal jam jax jao ja6 jaV ja8 jae jag jaf ja0 jaC jaP jaw jaI jbG jbg jbB jan jbD jbu jar jaL jah jaB jaa jaz jaG jab ja2 a0_s jaq jai jaO jaA jat jau jav jaj jas jaJ jak jad jay jac a0_s cyI f0_s jbu cyI jbZ jbB cyI jca jbG cyI jcu jbg cyI jbR) sz)) 0 0 (va_A (wd08_12 a0 jaX jaF jaD ja7 jby jbf jaM jaY jap jaK jal jam jax jao ja6 jaV ja8 jae jag jaf ja0 jaC jaP jaw jaI jbG jbg jbB jan jbD jbu jar jaL jah jaB jaa jaz jaG jab ja2 a0_s jaq jai jaO jaA jat jau jav jaj jas jaJ jak jad jay jac a0_s cyI f0_s jbu cyI jbZ jbB cyI jca jbG cyI jcu jbg cyI jbR) sz) := by
  refine Met.ofW (cc := cX11_leapBy) (maxL := 2) (ret := (some .int)) (by decide) rfl ?_
  intro p e s m args below meth c s₁ B hml hv
  obtain ⟨rfl, hsz, hP, hK, hD0, hNw⟩ := hv
  have hx := B.exec
  have hb := B.bytes
  have hr := B.returns
  have hts := atoms_spec (ws := wsX11_leapBy) B.pre
  have hown : s.vm.findClass RX11 = some m.cls := findClass_of_methodNamed B.named
  have hlocks := B.notSynchronized
  subst hsz
  have hD := hD0.self (sz := s.heap.size)
  generalize hAe : va_A (wd08_12 a0 jaX jaF jaD ja7 jby jbf jaM jaY jap jaK jal jam jax jao ja6 jaV ja8 jae jag jaf ja0 jaC jaP jaw jaI jbG jbg jbB jan jbD jbu jar jaL jah jaB jaa jaz jaG jab ja2 a0_s jaq jai jaO jaA jat jau jav jaj jas jaJ jak jad jay jac a0_s cyI f0_s jbu cyI jbZ jbB cyI jca jbG cyI jcu jbg cyI jbR) s.heap.size = A at hD ⊢
  have hA : ∀ q : Nat, s.heap.size ≤ q → A q := fun q h => by rw [← hAe]; exact Or.inr h
  have hS : va_S A s.heap s.heap [] := va_S.rf
  have hP : va_P (dC, dI) vwCl (wd08_12 a0 jaX jaF jaD ja7 jby jbf jaM jaY jap jaK jal jam jax jao ja6 jaV ja8 jae jag jaf ja0 jaC jaP jaw jaI jbG jbg jbB jan jbD jbu jar jaL jah jaB jaa jaz jaG jab ja2 a0_s jaq jai jaO jaA jat jau jav jaj jas jaJ jak jad jay jac a0_s cyI f0_s jbu cyI jbZ jbB cyI jca jbG cyI jcu jbg cyI jbR) s.heap := hP
  have hl := lv_entry ([.ref a0, .int p1]) (n := 2) (Nat.le_of_ble_eq_true rfl)
  rw [lg_entry_eq]
  generalize (lg_sl ([.ref a0, .int p1]) ++ List.replicate (2 - (lg_sl ([.ref a0, .int p1])).length) Slot.unset).toArray = ls at hl ⊢
  have hl : lv_has ls 2 [(0, .ref a0), (1, .int p1)] := hl
  have C0 : cfx p s m _ meth c cX11_leapBy (some .int) wsX11_leapBy RX11 2 A (dC, dI) (kT cyB cyI cyJ cyP) := ⟨hx, hb, hr, hts, hown, hlocks, hml, hA, hK, hNw⟩
  clear hAe
  obtain ⟨H, hH⟩ : ∃ H, H = s.heap := ⟨_, rfl⟩
  rw [← hH] at hP ⊢
  have hS : va_S A s.heap H [] := by rw [hH]; exact va_S.rf
  have hS := hS
  refine lv_aload_n hx hb (dt_of tkX11_leapBy_k0 0 rfl) rfl (lv_at hl 0 rfl) ?_
  refine lv_iload_n hx hb (dt_of tkX11_leapBy_k0 1 rfl) rfl (lv_at hl 1 rfl) ?_
  obtain ⟨hCc, hPc, hDc, hFc⟩ := va_pick (ws' := (wd08_13 a0 jaX jaF jaD ja7 jby jbf jaM jaY jap jaK jal jam jax jao ja6 jaV ja8 jae jag jaf ja0 jaC jaP jaw jaI jbG jbg jbB jan jbD jbu jar jaL jah jaB jaa jaz jaG jab ja2 a0_s jaq jai jaO jaA jat jau jav jaj jas jaJ jak jad jay jac a0_s cyI f0_s)) hP hD hS hA [0, 1] (by decide +kernel) rfl
  refine va_calli (va_runV (As := [.int p1]) (rest := []) ⟨hx, hb, hml, hown, hts⟩ (ck_X11_isCaught l dC dI cyB cyI cyJ cyP a0 a0_s H.size (jaX) (jaF) (jaD) (ja7) (jby) (jbf) (jaM) (jaY) (jap) (jaK) (jal) (jam) (jax) (jao) (ja6) (jaV) (ja8) (jae) (jag) (jaf) (ja0) (.int jaC) (jaP) (jaw) (jaI) (.ref jbG) (.ref jbg) (.ref jbB) (jan) (.int jbD) (.ref jbu) (jar) (jaL) (jah) (jaB) (jaa) (jaz) (jaG) (jab) (ja2) (jaq) (jai) (jaO) (jaA) (jat) (jau) (jav) (jaj) (jas) (jaJ) (jak) (jad) (jay) (jac) f0_s  p1 hw) (cwV 1 hts gX11_leapBy_X11_isCaught rfl rfl rfl (by decide +kernel) ⟨Nat.le_of_ble_eq_true rfl, Nat.le_of_ble_eq_true rfl⟩) ⟨cPc_blind, va_recv (q := (RX11, TX11, 55)) hK hPc (ci := 11) (q0 := 0) rfl rfl, cPc_pre hPc hK hDc hNw⟩ rfl rfl hl.1 rfl (lv_room (Nat.le_of_ble_eq_true rfl)) (dt_of tkX11_leapBy_k0 2 rfl) ⟨Nat.le_of_ble_eq_true rfl, Nat.le_of_ble_eq_true rfl⟩) hS (fun q _ h => hFc q h) hFc (fun r1 u t H1 locs ht hvm hw hB hz1 hk1 hS => ?_)
  obtain ⟨hP1, hK1, hD1⟩ := hB
  rw [ht] at hP1
  obtain ⟨hP, hD⟩ := va_joinN (wr := (wd08_14 jbu cyI jbZ jbB cyI jca jbG cyI jcu jbg cyI jbR)) (w1 := (wd08_13 a0 jaX jaF jaD ja7 jby jbf jaM jaY jap jaK jal jam jax jao ja6 jaV ja8 jae jag jaf ja0 jaC jaP jaw jaI jbG jbg jbB jan jbD jbu jar jaL jah jaB jaa jaz jaG jab ja2 a0_s jaq jai jaO jaA jat jau jav jaj jas jaJ jak jad jay jac a0_s cyI f0_s)) (wn := (wd08_12 a0 jaX jaF jaD ja7 jby jbf jaM jaY jap jaK jal jam jax jao ja6 jaV ja8 jae jag jaf ja0 jaC jaP jaw jaI jbG jbg jbB jan jbD jbu jar jaL jah jaB jaa jaz jaG jab ja2 a0_s jaq jai jaO jaA jat jau jav jaj jas jaJ jak jad jay jac a0_s cyI f0_s jbu cyI jbZ jbB cyI jca jbG cyI jcu jbg cyI jbR)) hP hD [0, 1] [2, 3, 4, 5] [4, 5, 0, 1, 2, 3] hCc rfl (by decide +kernel) (by decide +kernel) (by decide +kernel) rfl hk1 hFc hP1 hD1
  generalize H1 = H at hP hS ⊢
  refine lv_if_eq (tgt := 12) hx hb (dt_of tkX11_leapBy_k0 3 rfl) (by decide) (fun c2 => ?_) (fun c2 => ?_)
  · have hw := hw.1 c2
    refine lv_aload_n hx hb (dt_of tkX11_leapBy_k0 6 rfl) rfl (lv_at hl 0 rfl) ?_
    refine lv_aload_n hx hb (dt_of tkX11_leapBy_k0 7 rfl) rfl (lv_at hl 0 rfl) ?_
    refine va_get (D := (dC, dI)) (ci := 11) (v := .ref a0_s) (C := RX11) (T := TX11) (N := 55) hx hb hts ui_X11_leapBy_X11 hown hK hP 0 rfl rfl 40 (by decide) (hts _ uw_X11_leapBy_f71) (fun _ h9 => h9) rfl (dt_of tkX11_leapBy_k0 8 rfl) ?_
    refine lv_bipush (v := 6) hx hb (dt_of tkX11_leapBy_k0 9 rfl) (by decide) ?_
    refine lv_iload_n hx hb (dt_of tkX11_leapBy_k0 10 rfl) rfl (lv_at hl 1 rfl) ?_
    refine lv_iadd hx hb (dt_of tkX11_leapBy_k0 11 rfl) ?_
    refine lv_topi (fun x3 ex3 => ?_)
    have hw := hw x3 ex3
    obtain ⟨hi9, hw⟩ := hw
    refine va_iald hx hb hK hP 1 1 rfl rfl hi9 (dt_of tkX11_leapBy_k0 12 rfl) ?_
    refine lv_topi (fun x4 ex4 => ?_)
    have hw := hw x4 ex4
    refine lv_aload_n hx hb (dt_of tkX11_leapBy_k0 13 rfl) rfl (lv_at hl 0 rfl) ?_
    refine va_get (D := (dC, dI)) (ci := 11) (v := .ref a0_s) (C := RX11) (T := TX11) (N := 55) hx hb hts ui_X11_leapBy_X11 hown hK hP 0 rfl rfl 40 (by decide) (hts _ uw_X11_leapBy_f71) (fun _ h9 => h9) rfl (dt_of tkX11_leapBy_k0 14 rfl) ?_
    refine lv_bipush (v := 12) hx hb (dt_of tkX11_leapBy_k0 15 rfl) (by decide) ?_
    refine lv_iload_n hx hb (dt_of tkX11_leapBy_k28 0 rfl) rfl (lv_at hl 1 rfl) ?_
    refine lv_iadd hx hb (dt_of tkX11_leapBy_k28 1 rfl) ?_
    refine lv_topi (fun x5 ex5 => ?_)
    have hw := hw x5 ex5
    obtain ⟨hi9, hw⟩ := hw
    refine va_iald hx hb hK hP 1 1 rfl rfl hi9 (dt_of tkX11_leapBy_k28 2 rfl) ?_
    refine lv_topi (fun x6 ex6 => ?_)
    have hw := hw x6 ex6
    refine lv_aload_n hx hb (dt_of tkX11_leapBy_k28 3 rfl) rfl (lv_at hl 0 rfl) ?_
    refine lv_iload_n hx hb (dt_of tkX11_leapBy_k28 4 rfl) rfl (lv_at hl 1 rfl) ?_
    obtain ⟨hCc, hPc, hDc, hFc⟩ := va_pick (ws' := (wd08_13 a0 jaX jaF jaD ja7 jby jbf jaM jaY jap jaK jal jam jax jao ja6 jaV ja8 jae jag jaf ja0 jaC jaP jaw jaI jbG jbg jbB jan jbD jbu jar jaL jah jaB jaa jaz jaG jab ja2 a0_s jaq jai jaO jaA jat jau jav jaj jas jaJ jak jad jay jac a0_s cyI f0_s)) hP hD hS hA [0, 1] (by decide +kernel) rfl
    refine va_calli (va_runV (As := [.int p1]) (rest := [.int x6, .int x4, .ref a0]) ⟨hx, hb, hml, hown, hts⟩ (ck_X11_owes l dC dI cyB cyI cyJ cyP a0 a0_s H.size (jaX) (jaF) (jaD) (ja7) (jby) (jbf) (jaM) (jaY) (jap) (jaK) (jal) (jam) (jax) (jao) (ja6) (jaV) (ja8) (jae) (jag) (jaf) (ja0) (jaP) (jaw) (jaI) (.ref jbG) (.ref jbg) (.ref jbB) (jan) (.int jbD) (.ref jbu) (jar) (jaL) (jah) (jaB) (jaa) (jaz) (jaG) (jab) (ja2) (jaq) (jai) (jaO) (jaA) (jat) (jau) (jav) (jaj) (jas) (jaJ) (jak) (jad) (jay) (jac) jaC f0_s  p1 hw) (cwV 1 hts gX11_leapBy_X11_owes rfl rfl rfl (by decide +kernel) ⟨Nat.le_of_ble_eq_true rfl, Nat.le_of_ble_eq_true rfl⟩) ⟨cPc_blind, va_recv (q := (RX11, TX11, 55)) hK hPc (ci := 11) (q0 := 0) rfl rfl, cPc_pre hPc hK hDc hNw⟩ rfl rfl hl.1 rfl (lv_room (Nat.le_of_ble_eq_true rfl)) (dt_of tkX11_leapBy_k28 5 rfl) ⟨Nat.le_of_ble_eq_true rfl, Nat.le_of_ble_eq_true rfl⟩) hS (fun q _ h => hFc q h) hFc (fun r7 u t H1 locs ht hvm hw hB hz1 hk1 hS => ?_)
    obtain ⟨hP1, hK1, hD1⟩ := hB
    rw [ht] at hP1
    obtain ⟨hP, hD⟩ := va_joinN (wr := (wd08_14 jbu cyI jbZ jbB cyI jca jbG cyI jcu jbg cyI jbR)) (w1 := (wd08_13 a0 jaX jaF jaD ja7 jby jbf jaM jaY jap jaK jal jam jax jao ja6 jaV ja8 jae jag jaf ja0 jaC jaP jaw jaI jbG jbg jbB jan jbD jbu jar jaL jah jaB jaa jaz jaG jab ja2 a0_s jaq jai jaO jaA jat jau jav jaj jas jaJ jak jad jay jac a0_s cyI f0_s)) (wn := (wd08_12 a0 jaX jaF jaD ja7 jby jbf jaM jaY jap jaK jal jam jax jao ja6 jaV ja8 jae jag jaf ja0 jaC jaP jaw jaI jbG jbg jbB jan jbD jbu jar jaL jah jaB jaa jaz jaG jab ja2 a0_s jaq jai jaO jaA jat jau jav jaj jas jaJ jak jad jay jac a0_s cyI f0_s jbu cyI jbZ jbB cyI jca jbG cyI jcu jbg cyI jbR)) hP hD [0, 1] [2, 3, 4, 5] [4, 5, 0, 1, 2, 3] hCc rfl (by decide +kernel) (by decide +kernel) (by decide +kernel) rfl hk1 hFc hP1 hD1
    generalize H1 = H at hP hS ⊢
    refine lv_aload_n hx hb (dt_of tkX11_leapBy_k28 6 rfl) rfl (lv_at hl 0 rfl) ?_
    refine lv_iload_n hx hb (dt_of tkX11_leapBy_k28 7 rfl) rfl (lv_at hl 1 rfl) ?_
    obtain ⟨hCc, hPc, hDc, hFc⟩ := va_pick (ws' := (wd08_13 a0 jaX jaF jaD ja7 jby jbf jaM jaY jap jaK jal jam jax jao ja6 jaV ja8 jae jag jaf ja0 jaC jaP jaw jaI jbG jbg jbB jan jbD jbu jar jaL jah jaB jaa jaz jaG jab ja2 a0_s jaq jai jaO jaA jat jau jav jaj jas jaJ jak jad jay jac a0_s cyI f0_s)) hP hD hS hA [0, 1] (by decide +kernel) rfl
    refine va_calli (va_runV (As := [.int p1]) (rest := [.int r7, .int x6, .int x4, .ref a0]) ⟨hx, hb, hml, hown, hts⟩ (ck_X11_isOwed l dC dI cyB cyI cyJ cyP a0 a0_s H.size (jaX) (jaF) (jaD) (ja7) (jby) (jbf) (jaM) (jaY) (jap) (jaK) (jal) (jam) (jax) (jao) (ja6) (jaV) (ja8) (jae) (jag) (jaf) (ja0) (jaP) (jaw) (jaI) (.ref jbG) (.ref jbg) (.ref jbB) (jan) (.int jbD) (.ref jbu) (jar) (jaL) (jah) (jaB) (jaa) (jaz) (jaG) (jab) (ja2) (jaq) (jai) (jaO) (jaA) (jat) (jau) (jav) (jaj) (jas) (jaJ) (jak) (jad) (jay) (jac) jaC f0_s  p1 hw) (cwV 1 hts gX11_leapBy_X11_isOwed rfl rfl rfl (by decide +kernel) ⟨Nat.le_of_ble_eq_true rfl, Nat.le_of_ble_eq_true rfl⟩) ⟨cPc_blind, va_recv (q := (RX11, TX11, 55)) hK hPc (ci := 11) (q0 := 0) rfl rfl, cPc_pre hPc hK hDc hNw⟩ rfl rfl hl.1 rfl (lv_room (Nat.le_of_ble_eq_true rfl)) (dt_of tkX11_leapBy_k28 8 rfl) ⟨Nat.le_of_ble_eq_true rfl, Nat.le_of_ble_eq_true rfl⟩) hS (fun q _ h => hFc q h) hFc (fun r8 u t H1 locs ht hvm hw hB hz1 hk1 hS => ?_)
    obtain ⟨hP1, hK1, hD1⟩ := hB
    rw [ht] at hP1
    obtain ⟨hP, hD⟩ := va_joinN (wr := (wd08_14 jbu cyI jbZ jbB cyI jca jbG cyI jcu jbg cyI jbR)) (w1 := (wd08_13 a0 jaX jaF jaD ja7 jby jbf jaM jaY jap jaK jal jam jax jao ja6 jaV ja8 jae jag jaf ja0 jaC jaP jaw jaI jbG jbg jbB jan jbD jbu jar jaL jah jaB jaa jaz jaG jab ja2 a0_s jaq jai jaO jaA jat jau jav jaj jas jaJ jak jad jay jac a0_s cyI f0_s)) (wn := (wd08_12 a0 jaX jaF jaD ja7 jby jbf jaM jaY jap jaK jal jam jax jao ja6 jaV ja8 jae jag jaf ja0 jaC jaP jaw jaI jbG jbg jbB jan jbD jbu jar jaL jah jaB jaa jaz jaG jab ja2 a0_s jaq jai jaO jaA jat jau jav jaj jas jaJ jak jad jay jac a0_s cyI f0_s jbu cyI jbZ jbB cyI jca jbG cyI jcu jbg cyI jbR)) hP hD [0, 1] [2, 3, 4, 5] [4, 5, 0, 1, 2, 3] hCc rfl (by decide +kernel) (by decide +kernel) (by decide +kernel) rfl hk1 hFc hP1 hD1
    generalize H1 = H at hP hS ⊢
    refine lv_aload_n hx hb (dt_of tkX11_leapBy_k28 9 rfl) rfl (lv_at hl 0 rfl) ?_
    refine lv_aload_n hx hb (dt_of tkX11_leapBy_k28 10 rfl) rfl (lv_at hl 0 rfl) ?_
    refine va_get (D := (dC, dI)) (ci := 11) (v := .ref a0_s) (C := RX11) (T := TX11) (N := 55) hx hb hts ui_X11_leapBy_X11 hown hK hP 0 rfl rfl 40 (by decide) (hts _ uw_X11_leapBy_f71) (fun _ h9 => h9) rfl (dt_of tkX11_leapBy_k28 11 rfl) ?_
    refine lv_iconst (v := 0) hx hb (dt_of tkX11_leapBy_k28 12 rfl) (by decide) ?_
    refine lv_iload_n hx hb (dt_of tkX11_leapBy_k28 13 rfl) rfl (lv_at hl 1 rfl) ?_
    refine lv_iadd hx hb (dt_of tkX11_leapBy_k28 14 rfl) ?_
    refine lv_topi (fun x9 ex9 => ?_)
    have hw := hw x9 ex9
    obtain ⟨hi9, hw⟩ := hw
    refine va_iald hx hb hK hP 1 1 rfl rfl hi9 (dt_of tkX11_leapBy_k28 15 rfl) ?_
    refine lv_topi (fun x10 ex10 => ?_)
    have hw := hw x10 ex10
    obtain ⟨hCc, hPc, hDc, hFc⟩ := va_pick (ws' := (wd08_13 a0 jaX jaF jaD ja7 jby jbf jaM jaY jap jaK jal jam jax jao ja6 jaV ja8 jae jag jaf ja0 jaC jaP jaw jaI jbG jbg jbB jan jbD jbu jar jaL jah jaB jaa jaz jaG jab ja2 a0_s jaq jai jaO jaA jat jau jav jaj jas jaJ jak jad jay jac a0_s cyI f0_s)) hP hD hS hA [0, 1] (by decide +kernel) rfl
    refine va_calli (va_runV (As := [.int x10]) (rest := [.int r8, .int r7, .int x6, .int x4, .ref a0]) ⟨hx, hb, hml, hown, hts⟩ (ck_X11_sitIn l dC dI cyB cyI cyJ cyP a0 a0_s H.size (jaX) (jaF) (jaD) (ja7) (jby) (jbf) (jaM) (jaY) (jap) (jaK) (jal) (jam) (jax) (jao) (ja6) (jaV) (ja8) (jae) (jag) (jaf) (ja0) (jaP) (jaw) (jaI) (.ref jbG) (.ref jbg) (.ref jbB) (jan) (.int jbD) (.ref jbu) (jar) (jaL) (jah) (jaB) (jaa) (jaz) (jaG) (jab) (ja2) (jaq) (jai) (jaO) (jaA) (jat) (jau) (jav) (jaj) (jas) (jaJ) (jak) (jad) (jay) (jac) jaC f0_s  x10 hw) (cwV 1 hts gX11_leapBy_X11_sitIn rfl rfl rfl (by decide +kernel) ⟨Nat.le_of_ble_eq_true rfl, Nat.le_of_ble_eq_true rfl⟩) ⟨cPc_blind, va_recv (q := (RX11, TX11, 55)) hK hPc (ci := 11) (q0 := 0) rfl rfl, cPc_pre hPc hK hDc hNw⟩ rfl rfl hl.1 rfl (lv_room (Nat.le_of_ble_eq_true rfl)) (dt_of tkX11_leapBy_k50 0 rfl) ⟨Nat.le_of_ble_eq_true rfl, Nat.le_of_ble_eq_true rfl⟩) hS (fun q _ h => hFc q h) hFc (fun r11 u t H1 locs ht hvm hw hB hz1 hk1 hS => ?_)
    obtain ⟨hP1, hK1, hD1⟩ := hB
    rw [ht] at hP1
    obtain ⟨hP, hD⟩ := va_joinN (wr := (wd08_14 jbu cyI jbZ jbB cyI jca jbG cyI jcu jbg cyI jbR)) (w1 := (wd08_13 a0 jaX jaF jaD ja7 jby jbf jaM jaY jap jaK jal jam jax jao ja6 jaV ja8 jae jag jaf ja0 jaC jaP jaw jaI jbG jbg jbB jan jbD jbu jar jaL jah jaB jaa jaz jaG jab ja2 a0_s jaq jai jaO jaA jat jau jav jaj jas jaJ jak jad jay jac a0_s cyI f0_s)) (wn := (wd08_12 a0 jaX jaF jaD ja7 jby jbf jaM jaY jap jaK jal jam jax jao ja6 jaV ja8 jae jag jaf ja0 jaC jaP jaw jaI jbG jbg jbB jan jbD jbu jar jaL jah jaB jaa jaz jaG jab ja2 a0_s jaq jai jaO jaA jat jau jav jaj jas jaJ jak jad jay jac a0_s cyI f0_s jbu cyI jbZ jbB cyI jca jbG cyI jcu jbg cyI jbR)) hP hD [0, 1] [2, 3, 4, 5] [4, 5, 0, 1, 2, 3] hCc rfl (by decide +kernel) (by decide +kernel) (by decide +kernel) rfl hk1 hFc hP1 hD1
    generalize H1 = H at hP hS ⊢
    obtain ⟨hCc, hPc, hDc, hFc⟩ := va_pick (ws' := []) hP hD hS hA [] (by decide +kernel) rfl
    refine va_calli (va_runS (As := [.int r11]) (rest := [.int r8, .int r7, .int x6, .int x4, .ref a0]) ⟨hx, hb, hml, hown, hts⟩ (ck_X11_ones l dC dI cyB cyI cyJ cyP  H.size    r11 hw) (va_cwS 1 hts gX11_leapBy_X11_ones rfl rfl rfl (by decide +kernel) ⟨Nat.le_of_ble_eq_true rfl, Nat.le_of_ble_eq_true rfl⟩) ⟨cPc_blind, cPc_pre hPc hK hDc hNw⟩ rfl rfl hl.1 rfl (lv_room (Nat.le_of_ble_eq_true rfl)) (dt_of tkX11_leapBy_k50 1 rfl) ⟨Nat.le_of_ble_eq_true rfl, Nat.le_of_ble_eq_true rfl⟩) hS (fun q _ h => hFc q h) hFc (fun r12 u t H1 locs ht hvm hw hB hz1 hk1 hS => ?_)
    obtain ⟨hP1, hK1, hD1⟩ := hB
    rw [ht] at hP1
    obtain ⟨hP, hD⟩ := va_joinI (wr := (wd08_12 a0 jaX jaF jaD ja7 jby jbf jaM jaY jap jaK jal jam jax jao ja6 jaV ja8 jae jag jaf ja0 jaC jaP jaw jaI jbG jbg jbB jan jbD jbu jar jaL jah jaB jaa jaz jaG jab ja2 a0_s jaq jai jaO jaA jat jau jav jaj jas jaJ jak jad jay jac a0_s cyI f0_s jbu cyI jbZ jbB cyI jca jbG cyI jcu jbg cyI jbR)) (w1 := []) (wn := (wd08_12 a0 jaX jaF jaD ja7 jby jbf jaM jaY jap jaK jal jam jax jao ja6 jaV ja8 jae jag jaf ja0 jaC jaP jaw jaI jbG jbg jbB jan jbD jbu jar jaL jah jaB jaa jaz jaG jab ja2 a0_s jaq jai jaO jaA jat jau jav jaj jas jaJ jak jad jay jac a0_s cyI f0_s jbu cyI jbZ jbB cyI jca jbG cyI jcu jbg cyI jbR)) hP hD [] [0, 1, 2, 3, 4, 5] hCc rfl (by decide +kernel) (by decide +kernel) rfl hk1 hFc hP1 hD1
    generalize H1 = H at hP hS ⊢
    refine lv_iconst (v := 1) hx hb (dt_of tkX11_leapBy_k50 2 rfl) (by decide) ?_
    refine lv_isub hx hb (dt_of tkX11_leapBy_k50 3 rfl) ?_
    refine lv_aload_n hx hb (dt_of tkX11_leapBy_k50 4 rfl) rfl (lv_at hl 0 rfl) ?_
    refine va_get (D := (dC, dI)) (ci := 11) (v := .ref a0_s) (C := RX11) (T := TX11) (N := 55) hx hb hts ui_X11_leapBy_X11 hown hK hP 0 rfl rfl 40 (by decide) (hts _ uw_X11_leapBy_f71) (fun _ h9 => h9) rfl (dt_of tkX11_leapBy_k50 5 rfl) ?_
    refine lv_bipush (v := 66) hx hb (dt_of tkX11_leapBy_k50 6 rfl) (by decide) ?_
    refine va_iald hx hb hK hP 1 1 rfl rfl (vin (by decide)) (dt_of tkX11_leapBy_k50 7 rfl) ?_
    refine lv_topi (fun x13 ex13 => ?_)
    have hw := hw x13 ex13
    refine lv_iload_n hx hb (dt_of tkX11_leapBy_k50 8 rfl) rfl (lv_at hl 1 rfl) ?_
    refine lv_aload_n hx hb (dt_of tkX11_leapBy_k50 9 rfl) rfl (lv_at hl 0 rfl) ?_
    refine va_get (D := (dC, dI)) (ci := 11) (v := .ref a0_s) (C := RX11) (T := TX11) (N := 55) hx hb hts ui_X11_leapBy_X11 hown hK hP 0 rfl rfl 40 (by decide) (hts _ uw_X11_leapBy_f71) (fun _ h9 => h9) rfl (dt_of tkX11_leapBy_k50 10 rfl) ?_
    refine lv_bipush (v := 18) hx hb (dt_of tkX11_leapBy_k50 11 rfl) (by decide) ?_
    refine lv_iload_n hx hb (dt_of tkX11_leapBy_k50 12 rfl) rfl (lv_at hl 1 rfl) ?_
    refine lv_iadd hx hb (dt_of tkX11_leapBy_k50 13 rfl) ?_
    refine lv_topi (fun x14 ex14 => ?_)
    have hw := hw x14 ex14
    obtain ⟨hi9, hw⟩ := hw
    refine va_iald hx hb hK hP 1 1 rfl rfl hi9 (dt_of tkX11_leapBy_k50 14 rfl) ?_
    refine lv_topi (fun x15 ex15 => ?_)
    have hw := hw x15 ex15
    obtain ⟨hCc, hPc, hDc, hFc⟩ := va_pick (ws' := (wd08_15 a0 jaX jaF jaD ja7 jby jbf jaM jaY jap jaK jal jam jax jao ja6 jaV ja8 jae jag jaf ja0 jaC jaP jaw jaI jbG jbg jbB jan jbD jbu jar jaL jah jaB jaa jaz jaG jab ja2 a0_s jaq jai jaO jaA jat jau jav jaj jas jaJ jak jad jay jac jbu cyI jbZ jbB cyI jca jbG cyI jcu jbg cyI jbR)) hP hD hS hA [0, 2, 3, 4, 5] (by decide +kernel) rfl
    refine va_calli (va_runV (As := [.int x4, .int x6, .int r7, .int r8, .int (r12 - 1), .int x13, .int p1, .int x15]) (rest := []) ⟨hx, hb, hml, hown, hts⟩ (ck_X11_leapOf l dC dI cyB cyI cyJ cyP a0 jbu jbB jbG jbg H.size (jaX) (jaF) (jaD) (ja7) (jby) (jbf) (jaM) (jaY) (jap) (jaK) (jal) (jam) (jax) (jao) (ja6) (jaV) (ja8) (jae) (jag) (jaf) (ja0) (.int jaC) (jaP) (jaw) (jaI) (jan) (jar) (jaL) (jah) (jaB) (jaa) (jaz) (jaG) (jab) (ja2) (.ref a0_s) (jaq) (jai) (jaO) (jaA) (jat) (jau) (jav) (jaj) (jas) (jaJ) (jak) (jad) (jay) (jac) jbD jcu jbR jbZ jca x4 x6 r7 r8 (r12 - 1) x13 p1 x15 hw) (cwV 8 hts gX11_leapBy_X11_leapOf rfl rfl rfl (by decide +kernel) ⟨Nat.le_of_ble_eq_true rfl, Nat.le_of_ble_eq_true rfl⟩) ⟨cPc_blind, va_recv (q := (RX11, TX11, 55)) hK hPc (ci := 11) (q0 := 0) rfl rfl, cPc_pre hPc hK hDc hNw⟩ rfl rfl hl.1 rfl (lv_room (Nat.le_of_ble_eq_true rfl)) (dt_of tkX11_leapBy_k50 15 rfl) ⟨Nat.le_of_ble_eq_true rfl, Nat.le_of_ble_eq_true rfl⟩) hS (fun q _ h => hFc q h) hFc (fun r18 u t H1 locs ht hvm hw hB hz1 hk1 hS => ?_)
    obtain ⟨f16, f17⟩ := u
    obtain ⟨hP1, hK1, hD1⟩ := hB
    rw [ht] at hP1
    obtain ⟨hP, hD⟩ := va_joinN (wr := [(a0_s, .inl (cyI, 68, .inl f0_s))]) (w1 := (wd08_15 a0 jaX jaF jaD ja7 jby jbf jaM jaY jap jaK jal jam jax jao ja6 jaV ja8 jae jag jaf ja0 jaC jaP jaw jaI jbG jbg jbB jan jbD jbu jar jaL jah jaB jaa jaz jaG jab ja2 a0_s jaq jai jaO jaA jat jau jav jaj jas jaJ jak jad jay jac jbu cyI f16 jbB cyI f17 jbG cyI jcu jbg cyI jbR)) (wn := (wd08_12 a0 jaX jaF jaD ja7 jby jbf jaM jaY jap jaK jal jam jax jao ja6 jaV ja8 jae jag jaf ja0 jaC jaP jaw jaI jbG jbg jbB jan jbD jbu jar jaL jah jaB jaa jaz jaG jab ja2 a0_s jaq jai jaO jaA jat jau jav jaj jas jaJ jak jad jay jac a0_s cyI f0_s jbu cyI f16 jbB cyI f17 jbG cyI jcu jbg cyI jbR)) hP hD [0, 2, 3, 4, 5] [1] [1, 0, 2, 3, 4, 5] hCc rfl (by decide +kernel) (by decide +kernel) (by decide +kernel) rfl hk1 hFc hP1 hD1
    generalize H1 = H at hP hS ⊢
    exact ((W.iret (v := r18) hx hb hr (fun t ht hW => ⟨⟨r18, (f16, f17), rfl, hw, by rw [ht]; exact hP, va_K.moved hW.alike hK, hD⟩, hS.F ht⟩) hS.2.2 (dt_of tkX11_leapBy_k78 0 rfl)))
  · have hw := hw.2 c2
    refine lv_iconst (v := 0) hx hb (dt_of tkX11_leapBy_k0 4 rfl) (by decide) ?_
    refine lv_goto (tgt := 78) hx hb (dt_of tkX11_leapBy_k0 5 rfl) (by decide) ?_
    exact ((W.iret (v := 0) hx hb hr (fun t ht hW => ⟨⟨0, (jbZ, jca), rfl, hw, by rw [ht]; exact hP, va_K.moved hW.alike hK, hD⟩, hS.F ht⟩) hS.2.2 (dt_of tkX11_leapBy_k78 0 rfl)))
theorem ui_X11_canLeap_X11 : ∀ w ∈ u_ws RX11 TX11 55, w ∈ wsX11_canLeap := uiM mbX11_canLeap euX11 (by decide +kernel)
theorem uw_X11_canLeap_f71 : (.fieldLink RX11 71 "MarchHaresModel" "s" "[I" : Cond) ∈ wsX11_canLeap := mbX11_canLeap 457 (by decide +kernel)
set_option maxHeartbeats 4000000 in
set_option maxRecDepth 100000 in
theorem ck_X11_canLeap (l : Launch) (dC : Nat → ClassId) (dI : Nat → Nat → Nat) (cyB cyI cyJ cyP : ClassId) (a0 a0_s ja5 jbu jbB jbG jbg sz : Nat) (jaX jaF jaD ja7 jby jbf jaM jaY jap jaK jal jam jax jao jaV ja8 jae jag jaf ja0 jaP jaw jaI jan jar jaL jah jaB jaa jaz jaG jab ja2 jaq jai jaO jaA jat jau jav jaj jas jaJ jak jad jay jac : Value) (jaC jbD : Int32) (f0_s jbv jcu jbR jbZ jca : Nat → Int32) (p1 p2 : Int32) {Q : Int32 → (Nat → Int32) → (Nat → Int32) → Prop} (hw : wq_X11_canLeap jaC jbD f0_s jbv jcu jbR jbZ jca p1 p2 Q) : Met l yX11_canLeap wsX11_canLeap ({ frames := 5, cells := 0, slots := 0, locals := 115 }) (va_Pc [.ref a0, .int p1, .int p2] (cPc (dC, dI) (kT cyB cyI cyJ cyP) (wd08_16 a0 jaX jaF jaD ja7 jby jbf jaM jaY jap jaK jal jam jax jao ja5 jaV ja8 jae jag jaf ja0 jaC jaP jaw jaI jbG jbg jbB jan jbD jbu jar jaL jah jaB jaa jaz jaG jab ja2 a0_s jaq jai jaO jaA jat jau jav jaj jas jaJ jak jad jay jac a0_s cyI f0_s ja5 cyI jbv jbu cyI jbZ jbB cyI jca jbG cyI jcu jbg cyI jbR) sz)) (va_Qi (fun (r : Int32) (u : (Nat → Int32) × (Nat → Int32)) => Q r u.1 u.2) (cB (dC, dI) (kT cyB cyI cyJ cyP) (va_A (wd08_16 a0 jaX jaF jaD ja7 jby jbf jaM jaY jap jaK jal jam jax jao ja5 jaV ja8 jae jag jaf ja0 jaC jaP jaw jaI jbG jbg jbB jan jbD jbu jar jaL jah jaB jaa jaz jaG jab ja2 a0_s jaq jai jaO jaA jat jau jav jaj jas jaJ jak jad jay jac a0_s cyI f0_s ja5 cyI jbv jbu cyI jbZ jbB cyI jca jbG cyI jcu jbg cyI jbR) sz) (fun u : (Nat → Int32) × (Nat → Int32) => ((wd08_16 a0 jaX jaF jaD ja7 jby jbf jaM jaY jap jaK jal jam jax jao ja5 jaV ja8 jae jag jaf ja0 jaC jaP jaw jaI jbG jbg jbB jan jbD jbu jar jaL jah jaB jaa jaz jaG jab ja2 a0_s jaq jai jaO jaA jat jau jav jaj jas jaJ jak jad jay jac a0_s cyI f0_s ja5 cyI jbv jbu cyI u.1 jbB cyI u.2 jbG cyI jcu jbg cyI jbR) : va_W))) (va_A (wd08_16 a0 jaX jaF jaD ja7 jby jbf jaM jaY jap jaK jal jam jax jao ja5 jaV ja8 jae jag jaf ja0 jaC jaP jaw jaI jbG jbg jbB jan jbD jbu jar jaL jah jaB jaa jaz jaG jab ja2 a0_s jaq jai jaO jaA jat jau jav jaj jas jaJ jak jad jay jac a0_s cyI f0_s ja5 cyI jbv jbu cyI jbZ jbB cyI jca jbG cyI jcu jbg cyI jbR) sz)) 0 0 (va_A (wd08_16 a0 jaX jaF jaD ja7 jby jbf jaM jaY jap jaK jal jam jax jao ja5 jaV ja8 jae jag jaf ja0 jaC jaP jaw jaI jbG jbg jbB jan jbD jbu jar jaL jah jaB jaa jaz jaG jab ja2 a0_s jaq jai jaO jaA jat jau jav jaj jas jaJ jak jad jay jac a0_s cyI f0_s ja5 cyI jbv jbu cyI jbZ jbB cyI jca jbG cyI jcu jbg cyI jbR) sz) := by
  refine Met.ofW (cc := cX11_canLeap) (maxL := 3) (ret := (some .boolean)) (by decide) rfl ?_
  intro p e s m args below meth c s₁ B hml hv
  obtain ⟨rfl, hsz, hP, hK, hD0, hNw⟩ := hv
  have hx := B.exec
  have hb := B.bytes
  have hr := B.returns
  have hts := atoms_spec (ws := wsX11_canLeap) B.pre
  have hown : s.vm.findClass RX11 = some m.cls := findClass_of_methodNamed B.named
  have hlocks := B.notSynchronized
  subst hsz
  have hD := hD0.self (sz := s.heap.size)
  generalize hAe : va_A (wd08_16 a0 jaX jaF jaD ja7 jby jbf jaM jaY jap jaK jal jam jax jao ja5 jaV ja8 jae jag jaf ja0 jaC jaP jaw jaI jbG jbg jbB jan jbD jbu jar jaL jah jaB jaa jaz jaG jab ja2 a0_s jaq jai jaO jaA jat jau jav jaj jas jaJ jak jad jay jac a0_s cyI f0_s ja5 cyI jbv jbu cyI jbZ jbB cyI jca jbG cyI jcu jbg cyI jbR) s.heap.size = A at hD ⊢
  have hA : ∀ q : Nat, s.heap.size ≤ q → A q := fun q h => by rw [← hAe]; exact Or.inr h
  have hS : va_S A s.heap s.heap [] := va_S.rf
  have hP : va_P (dC, dI) vwCl (wd08_16 a0 jaX jaF jaD ja7 jby jbf jaM jaY jap jaK jal jam jax jao ja5 jaV ja8 jae jag jaf ja0 jaC jaP jaw jaI jbG jbg jbB jan jbD jbu jar jaL jah jaB jaa jaz jaG jab ja2 a0_s jaq jai jaO jaA jat jau jav jaj jas jaJ jak jad jay jac a0_s cyI f0_s ja5 cyI jbv jbu cyI jbZ jbB cyI jca jbG cyI jcu jbg cyI jbR) s.heap := hP
  have hl := lv_entry ([.ref a0, .int p1, .int p2]) (n := 3) (Nat.le_of_ble_eq_true rfl)
  rw [lg_entry_eq]
  generalize (lg_sl ([.ref a0, .int p1, .int p2]) ++ List.replicate (3 - (lg_sl ([.ref a0, .int p1, .int p2])).length) Slot.unset).toArray = ls at hl ⊢
  have hl : lv_has ls 3 [(0, .ref a0), (1, .int p1), (2, .int p2)] := hl
  have C0 : cfx p s m _ meth c cX11_canLeap (some .boolean) wsX11_canLeap RX11 3 A (dC, dI) (kT cyB cyI cyJ cyP) := ⟨hx, hb, hr, hts, hown, hlocks, hml, hA, hK, hNw⟩
  clear hAe
  obtain ⟨H, hH⟩ : ∃ H, H = s.heap := ⟨_, rfl⟩
  rw [← hH] at hP ⊢
  have hS : va_S A s.heap H [] := by rw [hH]; exact va_S.rf
  have hS := hS
  refine lv_aload_n hx hb (dt_of tkX11_canLeap_k0 0 rfl) rfl (lv_at hl 0 rfl) ?_
  refine lv_iload_n hx hb (dt_of tkX11_canLeap_k0 1 rfl) rfl (lv_at hl 1 rfl) ?_
  obtain ⟨hCc, hPc, hDc, hFc⟩ := va_pick (ws' := (wd08_17 a0 jaX jaF jaD ja7 jby jbf jaM jaY jap jaK jal jam jax jao ja5 jaV ja8 jae jag jaf ja0 jaC jaP jaw jaI jbG jbg jbB jan jbD jbu jar jaL jah jaB jaa jaz jaG jab ja2 a0_s jaq jai jaO jaA jat jau jav jaj jas jaJ jak jad jay jac a0_s cyI f0_s)) hP hD hS hA [0, 1] (by decide +kernel) rfl
  refine va_calli (va_runV (As := [.int p1]) (rest := []) ⟨hx, hb, hml, hown, hts⟩ (ck_X11_isCaught l dC dI cyB cyI cyJ cyP a0 a0_s H.size (jaX) (jaF) (jaD) (ja7) (jby) (jbf) (jaM) (jaY) (jap) (jaK) (jal) (jam) (jax) (jao) (.ref ja5) (jaV) (ja8) (jae) (jag) (jaf) (ja0) (.int jaC) (jaP) (jaw) (jaI) (.ref jbG) (.ref jbg) (.ref jbB) (jan) (.int jbD) (.ref jbu) (jar) (jaL) (jah) (jaB) (jaa) (jaz) (jaG) (jab) (ja2) (jaq) (jai) (jaO) (jaA) (jat) (jau) (jav) (jaj) (jas) (jaJ) (jak) (jad) (jay) (jac) f0_s  p1 hw) (cwV 1 hts gX11_canLeap_X11_isCaught rfl rfl rfl (by decide +kernel) ⟨Nat.le_of_ble_eq_true rfl, Nat.le_of_ble_eq_true rfl⟩) ⟨cPc_blind, va_recv (q := (RX11, TX11, 55)) hK hPc (ci := 11) (q0 := 0) rfl rfl, cPc_pre hPc hK hDc hNw⟩ rfl rfl hl.1 rfl (lv_room (Nat.le_of_ble_eq_true rfl)) (dt_of tkX11_canLeap_k0 2 rfl) ⟨Nat.le_of_ble_eq_true rfl, Nat.le_of_ble_eq_true rfl⟩) hS (fun q _ h => hFc q h) hFc (fun r1 u t H1 locs ht hvm hw hB hz1 hk1 hS => ?_)
  obtain ⟨hP1, hK1, hD1⟩ := hB
  rw [ht] at hP1
  obtain ⟨hP, hD⟩ := va_joinN (wr := [(ja5, .inl (cyI, 16, .inl jbv)), (jbu, .inl (cyI, 8, .inl jbZ)), (jbB, .inl (cyI, 150, .inl jca)), (jbG, .inl (cyI, 150, .inl jcu)), (jbg, .inl (cyI, 150, .inl jbR))]) (w1 := (wd08_17 a0 jaX jaF jaD ja7 jby jbf jaM jaY jap jaK jal jam jax jao ja5 jaV ja8 jae jag jaf ja0 jaC jaP jaw jaI jbG jbg jbB jan jbD jbu jar jaL jah jaB jaa jaz jaG jab ja2 a0_s jaq jai jaO jaA jat jau jav jaj jas jaJ jak jad jay jac a0_s cyI f0_s)) (wn := (wd08_16 a0 jaX jaF jaD ja7 jby jbf jaM jaY jap jaK jal jam jax jao ja5 jaV ja8 jae jag jaf ja0 jaC jaP jaw jaI jbG jbg jbB jan jbD jbu jar jaL jah jaB jaa jaz jaG jab ja2 a0_s jaq jai jaO jaA jat jau jav jaj jas jaJ jak jad jay jac a0_s cyI f0_s ja5 cyI jbv jbu cyI jbZ jbB cyI jca jbG cyI jcu jbg cyI jbR)) hP hD [0, 1] [2, 3, 4, 5, 6] [5, 6, 0, 1, 2, 3, 4] hCc rfl (by decide +kernel) (by decide +kernel) (by decide +kernel) rfl hk1 hFc hP1 hD1
  generalize H1 = H at hP hS ⊢
  refine lv_if_ne (tgt := 45) hx hb (dt_of tkX11_canLeap_k0 3 rfl) (by decide) (fun c2 => ?_) (fun c2 => ?_)
  · have hw := hw.1 c2
    refine lv_iconst (v := 0) hx hb (dt_of tkX11_canLeap_k26 11 rfl) (by decide) ?_
    exact ((W.zret (v := 0) hx hb hr rfl (fun t ht hW => ⟨⟨0, (jbZ, jca), rfl, hw, by rw [ht]; exact hP, va_K.moved hW.alike hK, hD⟩, hS.F ht⟩) hS.2.2 (dt_of tkX11_canLeap_k26 12 rfl)))
  · have hw := hw.2 c2
    refine lv_aload_n hx hb (dt_of tkX11_canLeap_k0 4 rfl) rfl (lv_at hl 0 rfl) ?_
    refine va_get (D := (dC, dI)) (ci := 11) (v := .ref a0_s) (C := RX11) (T := TX11) (N := 55) hx hb hts ui_X11_canLeap_X11 hown hK hP 0 rfl rfl 40 (by decide) (hts _ uw_X11_canLeap_f71) (fun _ h9 => h9) rfl (dt_of tkX11_canLeap_k0 5 rfl) ?_
    refine lv_iconst (v := 0) hx hb (dt_of tkX11_canLeap_k0 6 rfl) (by decide) ?_
    refine lv_iload_n hx hb (dt_of tkX11_canLeap_k0 7 rfl) rfl (lv_at hl 1 rfl) ?_
    refine lv_iadd hx hb (dt_of tkX11_canLeap_k0 8 rfl) ?_
    refine lv_topi (fun x3 ex3 => ?_)
    have hw := hw x3 ex3
    obtain ⟨hi9, hw⟩ := hw
    refine va_iald hx hb hK hP 1 1 rfl rfl hi9 (dt_of tkX11_canLeap_k0 9 rfl) ?_
    refine lv_topi (fun x4 ex4 => ?_)
    have hw := hw x4 ex4
    refine lv_iload_n hx hb (dt_of tkX11_canLeap_k0 10 rfl) rfl (lv_at hl 2 rfl) ?_
    refine lv_icmp_eq (tgt := 45) hx hb (dt_of tkX11_canLeap_k0 11 rfl) (by decide) (fun c5 => ?_) (fun c5 => ?_)
    · have hw := hw.1 c5
      refine lv_iconst (v := 0) hx hb (dt_of tkX11_canLeap_k26 11 rfl) (by decide) ?_
      exact ((W.zret (v := 0) hx hb hr rfl (fun t ht hW => ⟨⟨0, (jbZ, jca), rfl, hw, by rw [ht]; exact hP, va_K.moved hW.alike hK, hD⟩, hS.F ht⟩) hS.2.2 (dt_of tkX11_canLeap_k26 12 rfl)))
    · have hw := hw.2 c5
      refine lv_aload_n hx hb (dt_of tkX11_canLeap_k0 12 rfl) rfl (lv_at hl 0 rfl) ?_
      refine lv_aload_n hx hb (dt_of tkX11_canLeap_k0 13 rfl) rfl (lv_at hl 0 rfl) ?_
      refine va_get (D := (dC, dI)) (ci := 11) (v := .ref a0_s) (C := RX11) (T := TX11) (N := 55) hx hb hts ui_X11_canLeap_X11 hown hK hP 0 rfl rfl 40 (by decide) (hts _ uw_X11_canLeap_f71) (fun _ h9 => h9) rfl (dt_of tkX11_canLeap_k0 14 rfl) ?_
      refine lv_iconst (v := 0) hx hb (dt_of tkX11_canLeap_k0 15 rfl) (by decide) ?_
      refine lv_iload_n hx hb (dt_of tkX11_canLeap_k26 0 rfl) rfl (lv_at hl 1 rfl) ?_
      refine lv_iadd hx hb (dt_of tkX11_canLeap_k26 1 rfl) ?_
      refine lv_topi (fun x6 ex6 => ?_)
      have hw := hw x6 ex6
      obtain ⟨hi9, hw⟩ := hw
      refine va_iald hx hb hK hP 1 1 rfl rfl hi9 (dt_of tkX11_canLeap_k26 2 rfl) ?_
      refine lv_topi (fun x7 ex7 => ?_)
      have hw := hw x7 ex7
      refine lv_iload_n hx hb (dt_of tkX11_canLeap_k26 3 rfl) rfl (lv_at hl 2 rfl) ?_
      obtain ⟨hCc, hPc, hDc, hFc⟩ := va_pick (ws' := (wd08_18 a0 jaX jaF jaD ja7 jby jbf jaM jaY jap jaK jal jam jax jao ja5 jaV ja8 jae jag jaf ja0 jaC jaP jaw jaI jbG jbg jbB jan jbD jbu jar jaL jah jaB jaa jaz jaG jab ja2 a0_s jaq jai jaO jaA jat jau jav jaj jas jaJ jak jad jay jac ja5 cyI jbv)) hP hD hS hA [0, 2] (by decide +kernel) rfl
      refine va_calli (va_runV (As := [.int x7, .int p2]) (rest := []) ⟨hx, hb, hml, hown, hts⟩ (ck_X11_farOf l dC dI cyB cyI cyJ cyP a0 ja5 H.size (jaX) (jaF) (jaD) (ja7) (jby) (jbf) (jaM) (jaY) (jap) (jaK) (jal) (jam) (jax) (jao) (jaV) (ja8) (jae) (jag) (jaf) (ja0) (.int jaC) (jaP) (jaw) (jaI) (.ref jbG) (.ref jbg) (.ref jbB) (jan) (.int jbD) (.ref jbu) (jar) (jaL) (jah) (jaB) (jaa) (jaz) (jaG) (jab) (ja2) (.ref a0_s) (jaq) (jai) (jaO) (jaA) (jat) (jau) (jav) (jaj) (jas) (jaJ) (jak) (jad) (jay) (jac) jbv  x7 p2 hw) (cwV 2 hts gX11_canLeap_X11_farOf rfl rfl rfl (by decide +kernel) ⟨Nat.le_of_ble_eq_true rfl, Nat.le_of_ble_eq_true rfl⟩) ⟨cPc_blind, va_recv (q := (RX11, TX11, 55)) hK hPc (ci := 11) (q0 := 0) rfl rfl, cPc_pre hPc hK hDc hNw⟩ rfl rfl hl.1 rfl (lv_room (Nat.le_of_ble_eq_true rfl)) (dt_of tkX11_canLeap_k26 4 rfl) ⟨Nat.le_of_ble_eq_true rfl, Nat.le_of_ble_eq_true rfl⟩) hS (fun q _ h => hFc q h) hFc (fun r8 u t H1 locs ht hvm hw hB hz1 hk1 hS => ?_)
      obtain ⟨hP1, hK1, hD1⟩ := hB
      rw [ht] at hP1
      obtain ⟨hP, hD⟩ := va_joinN (wr := [(a0_s, .inl (cyI, 68, .inl f0_s)), (jbu, .inl (cyI, 8, .inl jbZ)), (jbB, .inl (cyI, 150, .inl jca)), (jbG, .inl (cyI, 150, .inl jcu)), (jbg, .inl (cyI, 150, .inl jbR))]) (w1 := (wd08_18 a0 jaX jaF jaD ja7 jby jbf jaM jaY jap jaK jal jam jax jao ja5 jaV ja8 jae jag jaf ja0 jaC jaP jaw jaI jbG jbg jbB jan jbD jbu jar jaL jah jaB jaa jaz jaG jab ja2 a0_s jaq jai jaO jaA jat jau jav jaj jas jaJ jak jad jay jac ja5 cyI jbv)) (wn := (wd08_16 a0 jaX jaF jaD ja7 jby jbf jaM jaY jap jaK jal jam jax jao ja5 jaV ja8 jae jag jaf ja0 jaC jaP jaw jaI jbG jbg jbB jan jbD jbu jar jaL jah jaB jaa jaz jaG jab ja2 a0_s jaq jai jaO jaA jat jau jav jaj jas jaJ jak jad jay jac a0_s cyI f0_s ja5 cyI jbv jbu cyI jbZ jbB cyI jca jbG cyI jcu jbg cyI jbR)) hP hD [0, 2] [1, 3, 4, 5, 6] [5, 0, 6, 1, 2, 3, 4] hCc rfl (by decide +kernel) (by decide +kernel) (by decide +kernel) rfl hk1 hFc hP1 hD1
      generalize H1 = H at hP hS ⊢
      refine lv_aload_n hx hb (dt_of tkX11_canLeap_k26 5 rfl) rfl (lv_at hl 0 rfl) ?_
      refine lv_iload_n hx hb (dt_of tkX11_canLeap_k26 6 rfl) rfl (lv_at hl 1 rfl) ?_
      obtain ⟨hCc, hPc, hDc, hFc⟩ := va_pick (ws' := (wd08_19 a0 jaX jaF jaD ja7 jby jbf jaM jaY jap jaK jal jam jax jao ja5 jaV ja8 jae jag jaf ja0 jaC jaP jaw jaI jbG jbg jbB jan jbD jbu jar jaL jah jaB jaa jaz jaG jab ja2 a0_s jaq jai jaO jaA jat jau jav jaj jas jaJ jak jad jay jac a0_s cyI f0_s jbu cyI jbZ jbB cyI jca jbG cyI jcu jbg cyI jbR)) hP hD hS hA [0, 1, 3, 4, 5, 6] (by decide +kernel) rfl
      refine va_calli (va_runV (As := [.int p1]) (rest := [.int r8]) ⟨hx, hb, hml, hown, hts⟩ (ck_X11_leapBy l dC dI cyB cyI cyJ cyP a0 a0_s jbu jbB jbG jbg H.size (jaX) (jaF) (jaD) (ja7) (jby) (jbf) (jaM) (jaY) (jap) (jaK) (jal) (jam) (jax) (jao) (.ref ja5) (jaV) (ja8) (jae) (jag) (jaf) (ja0) (jaP) (jaw) (jaI) (jan) (jar) (jaL) (jah) (jaB) (jaa) (jaz) (jaG) (jab) (ja2) (jaq) (jai) (jaO) (jaA) (jat) (jau) (jav) (jaj) (jas) (jaJ) (jak) (jad) (jay) (jac) jaC jbD f0_s jcu jbR jbZ jca p1 hw) (cwV 1 hts gX11_canLeap_X11_leapBy rfl rfl rfl (by decide +kernel) ⟨Nat.le_of_ble_eq_true rfl, Nat.le_of_ble_eq_true rfl⟩) ⟨cPc_blind, va_recv (q := (RX11, TX11, 55)) hK hPc (ci := 11) (q0 := 0) rfl rfl, cPc_pre hPc hK hDc hNw⟩ rfl rfl hl.1 rfl (lv_room (Nat.le_of_ble_eq_true rfl)) (dt_of tkX11_canLeap_k26 7 rfl) ⟨Nat.le_of_ble_eq_true rfl, Nat.le_of_ble_eq_true rfl⟩) hS (fun q _ h => hFc q h) hFc (fun r11 u t H1 locs ht hvm hw hB hz1 hk1 hS => ?_)
      obtain ⟨f9, f10⟩ := u
      obtain ⟨hP1, hK1, hD1⟩ := hB
      rw [ht] at hP1
      obtain ⟨hP, hD⟩ := va_joinN (wr := [(ja5, .inl (cyI, 16, .inl jbv))]) (w1 := (wd08_19 a0 jaX jaF jaD ja7 jby jbf jaM jaY jap jaK jal jam jax jao ja5 jaV ja8 jae jag jaf ja0 jaC jaP jaw jaI jbG jbg jbB jan jbD jbu jar jaL jah jaB jaa jaz jaG jab ja2 a0_s jaq jai jaO jaA jat jau jav jaj jas jaJ jak jad jay jac a0_s cyI f0_s jbu cyI f9 jbB cyI f10 jbG cyI jcu jbg cyI jbR)) (wn := (wd08_16 a0 jaX jaF jaD ja7 jby jbf jaM jaY jap jaK jal jam jax jao ja5 jaV ja8 jae jag jaf ja0 jaC jaP jaw jaI jbG jbg jbB jan jbD jbu jar jaL jah jaB jaa jaz jaG jab ja2 a0_s jaq jai jaO jaA jat jau jav jaj jas jaJ jak jad jay jac a0_s cyI f0_s ja5 cyI jbv jbu cyI f9 jbB cyI f10 jbG cyI jcu jbg cyI jbR)) hP hD [0, 1, 3, 4, 5, 6] [2] [1, 2, 0, 3, 4, 5, 6] hCc rfl (by decide +kernel) (by decide +kernel) (by decide +kernel) rfl hk1 hFc hP1 hD1
      generalize H1 = H at hP hS ⊢
      refine lv_icmp_gt (tgt := 45) hx hb (dt_of tkX11_canLeap_k26 8 rfl) (by decide) (fun c12 => ?_) (fun c12 => ?_)
      · have hw := hw.1 c12
        refine lv_iconst (v := 0) hx hb (dt_of tkX11_canLeap_k26 11 rfl) (by decide) ?_
        exact ((W.zret (v := 0) hx hb hr rfl (fun t ht hW => ⟨⟨0, (f9, f10), rfl, hw, by rw [ht]; exact hP, va_K.moved hW.alike hK, hD⟩, hS.F ht⟩) hS.2.2 (dt_of tkX11_canLeap_k26 12 rfl)))
      · have hw := hw.2 c12
        refine lv_iconst (v := 1) hx hb (dt_of tkX11_canLeap_k26 9 rfl) (by decide) ?_
        refine lv_goto (tgt := 46) hx hb (dt_of tkX11_canLeap_k26 10 rfl) (by decide) ?_
        exact ((W.zret (v := 1) hx hb hr rfl (fun t ht hW => ⟨⟨1, (f9, f10), rfl, hw, by rw [ht]; exact hP, va_K.moved hW.alike hK, hD⟩, hS.F ht⟩) hS.2.2 (dt_of tkX11_canLeap_k26 12 rfl)))
theorem ui_X11_can_X11 : ∀ w ∈ u_ws RX11 TX11 55, w ∈ wsX11_can := uiM mbX11_can euX11 (by decide +kernel)
theorem uw_X11_can_f3 : (.fieldLink RX11 3 "MarchHaresModel" "thrown" "I" : Cond) ∈ wsX11_can := mbX11_can 589 (by decide +kernel)
set_option maxHeartbeats 4000000 in
set_option maxRecDepth 100000 in
theorem ck_X11_can (l : Launch) (dC : Nat → ClassId) (dI : Nat → Nat → Nat) (cyB cyI cyJ cyP : ClassId) (a0 jaQ jaT a0_s ja5 jbu jbB jbG jbg sz : Nat) (jaD ja7 jby jbf jaM jaY jap jaK jal jam jax jao jaV ja8 jae jag jaf jaP jaw jaI jan jar jaL jah jaB jaa jaz jaG jab jaq jai jaO jaA jat jau jav jaj jas jaJ jak jad jay jac : Value) (jaN jaC jbD : Int32) (jb0 jbv jcu jbR : Nat → Int32) (jbd : Int32) (ja9 f0_s jbZ jca : Nat → Int32) (p1 p2 : Int32) {Q : Int32 → Int32 → (Nat → Int32) → (Nat → Int32) → (Nat → Int32) → (Nat → Int32) → Prop} (hw : wq_X11_can jaN jaC jbD jb0 jbv jcu jbR jbd ja9 f0_s jbZ jca p1 p2 Q) : Met l yX11_can wsX11_can ({ frames := 6, cells := 0, slots := 0, locals := 137 }) (va_Pc [.ref a0, .int p1, .int p2] (cPc (dC, dI) (kT cyB cyI cyJ cyP) (wd08_20 a0 jbd jaQ jaD ja7 jby jbf jaM jaY jap jaK jal jam jax jao ja5 jaV ja8 jae jag jaf jaN jaC jaP jaw jaI jbG jbg jbB jan jbD jbu jar jaL jah jaB jaa jaz jaG jab jaT a0_s jaq jai jaO jaA jat jau jav jaj jas jaJ jak jad jay jac jaQ cyI ja9 jaT cyI jb0 a0_s cyI f0_s ja5 cyI jbv jbu cyI jbZ jbB cyI jca jbG cyI jcu jbg cyI jbR) sz)) (va_Qi (fun (r : Int32) (u : Int32 × (Nat → Int32) × (Nat → Int32) × (Nat → Int32) × (Nat → Int32)) => Q r u.1 u.2.1 u.2.2.1 u.2.2.2.1 u.2.2.2.2) (cB (dC, dI) (kT cyB cyI cyJ cyP) (va_A (wd08_20 a0 jbd jaQ jaD ja7 jby jbf jaM jaY jap jaK jal jam jax jao ja5 jaV ja8 jae jag jaf jaN jaC jaP jaw jaI jbG jbg jbB jan jbD jbu jar jaL jah jaB jaa jaz jaG jab jaT a0_s jaq jai jaO jaA jat jau jav jaj jas jaJ jak jad jay jac jaQ cyI ja9 jaT cyI jb0 a0_s cyI f0_s ja5 cyI jbv jbu cyI jbZ jbB cyI jca jbG cyI jcu jbg cyI jbR) sz) (fun u : Int32 × (Nat → Int32) × (Nat → Int32) × (Nat → Int32) × (Nat → Int32) => ((wd08_20 a0 u.1 jaQ jaD ja7 jby jbf jaM jaY jap jaK jal jam jax jao ja5 jaV ja8 jae jag jaf jaN jaC jaP jaw jaI jbG jbg jbB jan jbD jbu jar jaL jah jaB jaa jaz jaG jab jaT a0_s jaq jai jaO jaA jat jau jav jaj jas jaJ jak jad jay jac jaQ cyI u.2.1 jaT cyI jb0 a0_s cyI u.2.2.1 ja5 cyI jbv jbu cyI u.2.2.2.1 jbB cyI u.2.2.2.2 jbG cyI jcu jbg cyI jbR) : va_W))) (va_A (wd08_20 a0 jbd jaQ jaD ja7 jby jbf jaM jaY jap jaK jal jam jax jao ja5 jaV ja8 jae jag jaf jaN jaC jaP jaw jaI jbG jbg jbB jan jbD jbu jar jaL jah jaB jaa jaz jaG jab jaT a0_s jaq jai jaO jaA jat jau jav jaj jas jaJ jak jad jay jac jaQ cyI ja9 jaT cyI jb0 a0_s cyI f0_s ja5 cyI jbv jbu cyI jbZ jbB cyI jca jbG cyI jcu jbg cyI jbR) sz)) 0 0 (va_A (wd08_20 a0 jbd jaQ jaD ja7 jby jbf jaM jaY jap jaK jal jam jax jao ja5 jaV ja8 jae jag jaf jaN jaC jaP jaw jaI jbG jbg jbB jan jbD jbu jar jaL jah jaB jaa jaz jaG jab jaT a0_s jaq jai jaO jaA jat jau jav jaj jas jaJ jak jad jay jac jaQ cyI ja9 jaT cyI jb0 a0_s cyI f0_s ja5 cyI jbv jbu cyI jbZ jbB cyI jca jbG cyI jcu jbg cyI jbR) sz) := by
  refine Met.ofW (cc := cX11_can) (maxL := 3) (ret := (some .boolean)) (by decide) rfl ?_
  intro p e s m args below meth c s₁ B hml hv
  obtain ⟨rfl, hsz, hP, hK, hD0, hNw⟩ := hv
  have hx := B.exec
  have hb := B.bytes
  have hr := B.returns
  have hts := atoms_spec (ws := wsX11_can) B.pre
  have hown : s.vm.findClass RX11 = some m.cls := findClass_of_methodNamed B.named
  have hlocks := B.notSynchronized
  subst hsz
  have hD := hD0.self (sz := s.heap.size)
  generalize hAe : va_A (wd08_20 a0 jbd jaQ jaD ja7 jby jbf jaM jaY jap jaK jal jam jax jao ja5 jaV ja8 jae jag jaf jaN jaC jaP jaw jaI jbG jbg jbB jan jbD jbu jar jaL jah jaB jaa jaz jaG jab jaT a0_s jaq jai jaO jaA jat jau jav jaj jas jaJ jak jad jay jac jaQ cyI ja9 jaT cyI jb0 a0_s cyI f0_s ja5 cyI jbv jbu cyI jbZ jbB cyI jca jbG cyI jcu jbg cyI jbR) s.heap.size = A at hD ⊢
  have hA : ∀ q : Nat, s.heap.size ≤ q → A q := fun q h => by rw [← hAe]; exact Or.inr h
  have hS : va_S A s.heap s.heap [] := va_S.rf
  have hP : va_P (dC, dI) vwCl (wd08_20 a0 jbd jaQ jaD ja7 jby jbf jaM jaY jap jaK jal jam jax jao ja5 jaV ja8 jae jag jaf jaN jaC jaP jaw jaI jbG jbg jbB jan jbD jbu jar jaL jah jaB jaa jaz jaG jab jaT a0_s jaq jai jaO jaA jat jau jav jaj jas jaJ jak jad jay jac jaQ cyI ja9 jaT cyI jb0 a0_s cyI f0_s ja5 cyI jbv jbu cyI jbZ jbB cyI jca jbG cyI jcu jbg cyI jbR) s.heap := hP
  have hl := lv_entry ([.ref a0, .int p1, .int p2]) (n := 3) (Nat.le_of_ble_eq_true rfl)
  rw [lg_entry_eq]
  generalize (lg_sl ([.ref a0, .int p1, .int p2]) ++ List.replicate (3 - (lg_sl ([.ref a0, .int p1, .int p2])).length) Slot.unset).toArray = ls at hl ⊢
  have hl : lv_has ls 3 [(0, .ref a0), (1, .int p1), (2, .int p2)] := hl
  have C0 : cfx p s m _ meth c cX11_can (some .boolean) wsX11_can RX11 3 A (dC, dI) (kT cyB cyI cyJ cyP) := ⟨hx, hb, hr, hts, hown, hlocks, hml, hA, hK, hNw⟩
  clear hAe
  obtain ⟨H, hH⟩ : ∃ H, H = s.heap := ⟨_, rfl⟩
  rw [← hH] at hP ⊢
  have hS : va_S A s.heap H [] := by rw [hH]; exact va_S.rf
  have hS := hS
  refine lv_aload_n hx hb (dt_of tkX11_can_k0 0 rfl) rfl (lv_at hl 0 rfl) ?_
  refine lv_iconst (v := 0) hx hb (dt_of tkX11_can_k0 1 rfl) (by decide) ?_
  refine va_put (D := (dC, dI)) (ci := 11) (v := .int 0) (ty := .int) (C := RX11) (T := TX11) (N := 55) hx hb hts ui_X11_can_X11 tyX11 tyX11_ok nmX11 hown hK hP hD hS 0 rfl rfl 0 (by decide) (hts _ uw_X11_can_f3) (fun _ h9 => h9) rfl (by decide +kernel) rfl rfl (Nat.le_of_ble_eq_true rfl) (dt_of tkX11_can_k0 2 rfl) (fun H locs hP hD hS => ?_)
  have hP : va_P (dC, dI) vwCl (wd08_20 a0 0 jaQ jaD ja7 jby jbf jaM jaY jap jaK jal jam jax jao ja5 jaV ja8 jae jag jaf jaN jaC jaP jaw jaI jbG jbg jbB jan jbD jbu jar jaL jah jaB jaa jaz jaG jab jaT a0_s jaq jai jaO jaA jat jau jav jaj jas jaJ jak jad jay jac jaQ cyI ja9 jaT cyI jb0 a0_s cyI f0_s ja5 cyI jbv jbu cyI jbZ jbB cyI jca jbG cyI jcu jbg cyI jbR) H := hP
  have hD : va_D A (wd08_20 a0 0 jaQ jaD ja7 jby jbf jaM jaY jap jaK jal jam jax jao ja5 jaV ja8 jae jag jaf jaN jaC jaP jaw jaI jbG jbg jbB jan jbD jbu jar jaL jah jaB jaa jaz jaG jab jaT a0_s jaq jai jaO jaA jat jau jav jaj jas jaJ jak jad jay jac jaQ cyI ja9 jaT cyI jb0 a0_s cyI f0_s ja5 cyI jbv jbu cyI jbZ jbB cyI jca jbG cyI jcu jbg cyI jbR) := hD
  refine lv_aload_n hx hb (dt_of tkX11_can_k0 3 rfl) rfl (lv_at hl 0 rfl) ?_
  refine lv_iload_n hx hb (dt_of tkX11_can_k0 4 rfl) rfl (lv_at hl 1 rfl) ?_
  refine lv_iconst (v := 1) hx hb (dt_of tkX11_can_k0 5 rfl) (by decide) ?_
  obtain ⟨hCc, hPc, hDc, hFc⟩ := va_pick (ws' := (wd08_21 a0 0 jaQ jaD ja7 jby jbf jaM jaY jap jaK jal jam jax jao ja5 jaV ja8 jae jag jaf jaN jaC jaP jaw jaI jbG jbg jbB jan jbD jbu jar jaL jah jaB jaa jaz jaG jab jaT a0_s jaq jai jaO jaA jat jau jav jaj jas jaJ jak jad jay jac jaQ cyI ja9)) hP hD hS hA [0, 1] (by decide +kernel) rfl
  refine va_calli (va_runV (As := [.int p1, .int 1]) (rest := []) ⟨hx, hb, hml, hown, hts⟩ (ck_X11_isHare l dC dI cyB cyI cyJ cyP a0 jaQ H.size (jaD) (ja7) (jby) (jbf) (jaM) (jaY) (jap) (jaK) (jal) (jam) (jax) (jao) (.ref ja5) (jaV) (ja8) (jae) (jag) (jaf) (.int jaN) (jaP) (jaw) (jaI) (.ref jbG) (.ref jbg) (.ref jbB) (jan) (.int jbD) (.ref jbu) (jar) (jaL) (jah) (jaB) (jaa) (jaz) (jaG) (jab) (.ref jaT) (.ref a0_s) (jaq) (jai) (jaO) (jaA) (jat) (jau) (jav) (jaj) (jas) (jaJ) (jak) (jad) (jay) (jac) jaC 0 ja9 p1 1 hw) (cwV 2 hts gX11_can_X11_isHare rfl rfl rfl (by decide +kernel) ⟨Nat.le_of_ble_eq_true rfl, Nat.le_of_ble_eq_true rfl⟩) ⟨cPc_blind, va_recv (q := (RX11, TX11, 55)) hK hPc (ci := 11) (q0 := 0) rfl rfl, cPc_pre hPc hK hDc hNw⟩ rfl rfl hl.1 rfl (lv_room (Nat.le_of_ble_eq_true rfl)) (dt_of tkX11_can_k0 6 rfl) ⟨Nat.le_of_ble_eq_true rfl, Nat.le_of_ble_eq_true rfl⟩) hS (fun q _ h => hFc q h) hFc (fun r3 u t H1 locs ht hvm hw hB hz1 hk1 hS => ?_)
  obtain ⟨x1, f2⟩ := u
  obtain ⟨hP1, hK1, hD1⟩ := hB
  rw [ht] at hP1
  obtain ⟨hP, hD⟩ := va_joinN (wr := (wd08_22 jaT cyI jb0 a0_s cyI f0_s ja5 cyI jbv jbu cyI jbZ jbB cyI jca jbG cyI jcu jbg cyI jbR)) (w1 := (wd08_21 a0 x1 jaQ jaD ja7 jby jbf jaM jaY jap jaK jal jam jax jao ja5 jaV ja8 jae jag jaf jaN jaC jaP jaw jaI jbG jbg jbB jan jbD jbu jar jaL jah jaB jaa jaz jaG jab jaT a0_s jaq jai jaO jaA jat jau jav jaj jas jaJ jak jad jay jac jaQ cyI f2)) (wn := (wd08_20 a0 x1 jaQ jaD ja7 jby jbf jaM jaY jap jaK jal jam jax jao ja5 jaV ja8 jae jag jaf jaN jaC jaP jaw jaI jbG jbg jbB jan jbD jbu jar jaL jah jaB jaa jaz jaG jab jaT a0_s jaq jai jaO jaA jat jau jav jaj jas jaJ jak jad jay jac jaQ cyI f2 jaT cyI jb0 a0_s cyI f0_s ja5 cyI jbv jbu cyI jbZ jbB cyI jca jbG cyI jcu jbg cyI jbR)) hP hD [0, 1] [2, 3, 4, 5, 6, 7, 8] [7, 8, 0, 1, 2, 3, 4, 5, 6] hCc rfl (by decide +kernel) (by decide +kernel) (by decide +kernel) rfl hk1 hFc hP1 hD1
  generalize H1 = H at hP hS ⊢
  refine lv_if_eq (tgt := 23) hx hb (dt_of tkX11_can_k0 7 rfl) (by decide) (fun c4 => ?_) (fun c4 => ?_)
  · have hw := hw.1 c4
    refine lv_iconst (v := 0) hx hb (dt_of tkX11_can_k0 13 rfl) (by decide) ?_
    exact ((W.zret (v := 0) hx hb hr rfl (fun t ht hW => ⟨⟨0, (x1, f2, f0_s, jbZ, jca), rfl, hw, by rw [ht]; exact hP, va_K.moved hW.alike hK, hD⟩, hS.F ht⟩) hS.2.2 (dt_of tkX11_can_k0 14 rfl)))
  · have hw := hw.2 c4
    refine lv_aload_n hx hb (dt_of tkX11_can_k0 8 rfl) rfl (lv_at hl 0 rfl) ?_
    refine lv_iload_n hx hb (dt_of tkX11_can_k0 9 rfl) rfl (lv_at hl 2 rfl) ?_
    refine lv_iconst (v := 1) hx hb (dt_of tkX11_can_k0 10 rfl) (by decide) ?_
    obtain ⟨hCc, hPc, hDc, hFc⟩ := va_pick (ws' := (wd08_21 a0 x1 jaQ jaD ja7 jby jbf jaM jaY jap jaK jal jam jax jao ja5 jaV ja8 jae jag jaf jaN jaC jaP jaw jaI jbG jbg jbB jan jbD jbu jar jaL jah jaB jaa jaz jaG jab jaT a0_s jaq jai jaO jaA jat jau jav jaj jas jaJ jak jad jay jac jaQ cyI f2)) hP hD hS hA [0, 1] (by decide +kernel) rfl
    refine va_calli (va_runV (As := [.int p2, .int 1]) (rest := []) ⟨hx, hb, hml, hown, hts⟩ (ck_X11_isForm l dC dI cyB cyI cyJ cyP a0 jaQ H.size (jaD) (ja7) (jby) (jbf) (jaM) (jaY) (jap) (jaK) (jal) (jam) (jax) (jao) (.ref ja5) (jaV) (ja8) (jae) (jag) (jaf) (.int jaC) (jaP) (jaw) (jaI) (.ref jbG) (.ref jbg) (.ref jbB) (jan) (.int jbD) (.ref jbu) (jar) (jaL) (jah) (jaB) (jaa) (jaz) (jaG) (jab) (.ref jaT) (.ref a0_s) (jaq) (jai) (jaO) (jaA) (jat) (jau) (jav) (jaj) (jas) (jaJ) (jak) (jad) (jay) (jac) jaN x1 f2 p2 1 hw) (cwV 2 hts gX11_can_X11_isForm rfl rfl rfl (by decide +kernel) ⟨Nat.le_of_ble_eq_true rfl, Nat.le_of_ble_eq_true rfl⟩) ⟨cPc_blind, va_recv (q := (RX11, TX11, 55)) hK hPc (ci := 11) (q0 := 0) rfl rfl, cPc_pre hPc hK hDc hNw⟩ rfl rfl hl.1 rfl (lv_room (Nat.le_of_ble_eq_true rfl)) (dt_of tkX11_can_k0 11 rfl) ⟨Nat.le_of_ble_eq_true rfl, Nat.le_of_ble_eq_true rfl⟩) hS (fun q _ h => hFc q h) hFc (fun r7 u t H1 locs ht hvm hw hB hz1 hk1 hS => ?_)
    obtain ⟨x5, f6⟩ := u
    obtain ⟨hP1, hK1, hD1⟩ := hB
    rw [ht] at hP1
    obtain ⟨hP, hD⟩ := va_joinN (wr := (wd08_22 jaT cyI jb0 a0_s cyI f0_s ja5 cyI jbv jbu cyI jbZ jbB cyI jca jbG cyI jcu jbg cyI jbR)) (w1 := (wd08_21 a0 x5 jaQ jaD ja7 jby jbf jaM jaY jap jaK jal jam jax jao ja5 jaV ja8 jae jag jaf jaN jaC jaP jaw jaI jbG jbg jbB jan jbD jbu jar jaL jah jaB jaa jaz jaG jab jaT a0_s jaq jai jaO jaA jat jau jav jaj jas jaJ jak jad jay jac jaQ cyI f6)) (wn := (wd08_20 a0 x5 jaQ jaD ja7 jby jbf jaM jaY jap jaK jal jam jax jao ja5 jaV ja8 jae jag jaf jaN jaC jaP jaw jaI jbG jbg jbB jan jbD jbu jar jaL jah jaB jaa jaz jaG jab jaT a0_s jaq jai jaO jaA jat jau jav jaj jas jaJ jak jad jay jac jaQ cyI f6 jaT cyI jb0 a0_s cyI f0_s ja5 cyI jbv jbu cyI jbZ jbB cyI jca jbG cyI jcu jbg cyI jbR)) hP hD [0, 1] [2, 3, 4, 5, 6, 7, 8] [7, 8, 0, 1, 2, 3, 4, 5, 6] hCc rfl (by decide +kernel) (by decide +kernel) (by decide +kernel) rfl hk1 hFc hP1 hD1
    generalize H1 = H at hP hS ⊢
    refine lv_if_ne (tgt := 25) hx hb (dt_of tkX11_can_k0 12 rfl) (by decide) (fun c8 => ?_) (fun c8 => ?_)
    · have hw := hw.1 c8
      refine lv_aload_n hx hb (dt_of tkX11_can_k0 15 rfl) rfl (lv_at hl 0 rfl) ?_
      obtain ⟨hCc, hPc, hDc, hFc⟩ := va_pick (ws' := (wd08_23 a0 x5 jaQ jaD ja7 jby jbf jaM jaY jap jaK jal jam jax jao ja5 jaV ja8 jae jag jaf jaN jaC jaP jaw jaI jbG jbg jbB jan jbD jbu jar jaL jah jaB jaa jaz jaG jab jaT a0_s jaq jai jaO jaA jat jau jav jaj jas jaJ jak jad jay jac jaT cyI jb0 a0_s cyI f0_s)) hP hD hS hA [0, 2, 3] (by decide +kernel) rfl
      refine va_callv (va_runV (As := []) (rest := []) ⟨hx, hb, hml, hown, hts⟩ (ck_X11_take l dC dI cyB cyI cyJ cyP a0 jaT a0_s H.size (.int x5) (.ref jaQ) (jaD) (ja7) (jby) (jbf) (jaM) (jaY) (jap) (jaK) (jal) (jam) (jax) (jao) (.ref ja5) (jaV) (ja8) (jae) (jag) (jaf) (.int jaN) (.int jaC) (jaP) (jaw) (jaI) (.ref jbG) (.ref jbg) (.ref jbB) (jan) (.int jbD) (.ref jbu) (jar) (jaL) (jah) (jaB) (jaa) (jaz) (jaG) (jab) (jaq) (jai) (jaO) (jaA) (jat) (jau) (jav) (jaj) (jas) (jaJ) (jak) (jad) (jay) (jac) jb0 f0_s  hw) (cwV 0 hts gX11_can_X11_take rfl rfl rfl (by decide +kernel) ⟨Nat.le_of_ble_eq_true rfl, Nat.le_of_ble_eq_true rfl⟩) ⟨cPc_blind, va_recv (q := (RX11, TX11, 55)) hK hPc (ci := 11) (q0 := 0) rfl rfl, cPc_pre hPc hK hDc hNw⟩ rfl rfl hl.1 rfl (lv_room (Nat.le_of_ble_eq_true rfl)) (dt_of tkX11_can_k26 0 rfl) ⟨Nat.le_of_ble_eq_true rfl, Nat.le_of_ble_eq_true rfl⟩) hS (fun q _ h => hFc q h) hFc (fun u t H1 locs ht hvm hw hB hz1 hk1 hS => ?_)
      obtain ⟨f9, rfl⟩ : ∃ z, z = u := ⟨_, rfl⟩
      obtain ⟨hP1, hK1, hD1⟩ := hB
      rw [ht] at hP1
      obtain ⟨hP, hD⟩ := va_joinN (wr := [(jaQ, .inl (cyI, 2, .inl f6)), (ja5, .inl (cyI, 16, .inl jbv)), (jbu, .inl (cyI, 8, .inl jbZ)), (jbB, .inl (cyI, 150, .inl jca)), (jbG, .inl (cyI, 150, .inl jcu)), (jbg, .inl (cyI, 150, .inl jbR))]) (w1 := (wd08_23 a0 x5 jaQ jaD ja7 jby jbf jaM jaY jap jaK jal jam jax jao ja5 jaV ja8 jae jag jaf jaN jaC jaP jaw jaI jbG jbg jbB jan jbD jbu jar jaL jah jaB jaa jaz jaG jab jaT a0_s jaq jai jaO jaA jat jau jav jaj jas jaJ jak jad jay jac jaT cyI jb0 a0_s cyI f9)) (wn := (wd08_20 a0 x5 jaQ jaD ja7 jby jbf jaM jaY jap jaK jal jam jax jao ja5 jaV ja8 jae jag jaf jaN jaC jaP jaw jaI jbG jbg jbB jan jbD jbu jar jaL jah jaB jaa jaz jaG jab jaT a0_s jaq jai jaO jaA jat jau jav jaj jas jaJ jak jad jay jac jaQ cyI f6 jaT cyI jb0 a0_s cyI f9 ja5 cyI jbv jbu cyI jbZ jbB cyI jca jbG cyI jcu jbg cyI jbR)) hP hD [0, 2, 3] [1, 4, 5, 6, 7, 8] [6, 0, 7, 8, 1, 2, 3, 4, 5] hCc rfl (by decide +kernel) (by decide +kernel) (by decide +kernel) rfl hk1 hFc hP1 hD1
      generalize H1 = H at hP hS ⊢
      refine lv_aload_n hx hb (dt_of tkX11_can_k26 1 rfl) rfl (lv_at hl 0 rfl) ?_
      refine lv_iload_n hx hb (dt_of tkX11_can_k26 2 rfl) rfl (lv_at hl 1 rfl) ?_
      refine lv_iload_n hx hb (dt_of tkX11_can_k26 3 rfl) rfl (lv_at hl 2 rfl) ?_
      obtain ⟨hCc, hPc, hDc, hFc⟩ := va_pick (ws' := (wd08_24 a0 x5 jaQ jaD ja7 jby jbf jaM jaY jap jaK jal jam jax jao ja5 jaV ja8 jae jag jaf jaN jaC jaP jaw jaI jbG jbg jbB jan jbD jbu jar jaL jah jaB jaa jaz jaG jab jaT a0_s jaq jai jaO jaA jat jau jav jaj jas jaJ jak jad jay jac a0_s cyI f9 ja5 cyI jbv jbu cyI jbZ jbB cyI jca jbG cyI jcu jbg cyI jbR)) hP hD hS hA [0, 3, 4, 5, 6, 7, 8] (by decide +kernel) rfl
      refine va_calli (va_runV (As := [.int p1, .int p2]) (rest := []) ⟨hx, hb, hml, hown, hts⟩ (ck_X11_canLeap l dC dI cyB cyI cyJ cyP a0 a0_s ja5 jbu jbB jbG jbg H.size (.int x5) (.ref jaQ) (jaD) (ja7) (jby) (jbf) (jaM) (jaY) (jap) (jaK) (jal) (jam) (jax) (jao) (jaV) (ja8) (jae) (jag) (jaf) (.int jaN) (jaP) (jaw) (jaI) (jan) (jar) (jaL) (jah) (jaB) (jaa) (jaz) (jaG) (jab) (.ref jaT) (jaq) (jai) (jaO) (jaA) (jat) (jau) (jav) (jaj) (jas) (jaJ) (jak) (jad) (jay) (jac) jaC jbD f9 jbv jcu jbR jbZ jca p1 p2 hw) (cwV 2 hts gX11_can_X11_canLeap rfl rfl rfl (by decide +kernel) ⟨Nat.le_of_ble_eq_true rfl, Nat.le_of_ble_eq_true rfl⟩) ⟨cPc_blind, va_recv (q := (RX11, TX11, 55)) hK hPc (ci := 11) (q0 := 0) rfl rfl, cPc_pre hPc hK hDc hNw⟩ rfl rfl hl.1 rfl (lv_room (Nat.le_of_ble_eq_true rfl)) (dt_of tkX11_can_k26 4 rfl) ⟨Nat.le_of_ble_eq_true rfl, Nat.le_of_ble_eq_true rfl⟩) hS (fun q _ h => hFc q h) hFc (fun r12 u t H1 locs ht hvm hw hB hz1 hk1 hS => ?_)
      obtain ⟨f10, f11⟩ := u
      obtain ⟨hP1, hK1, hD1⟩ := hB
      rw [ht] at hP1
      obtain ⟨hP, hD⟩ := va_joinN (wr := (wd08_3 jaQ cyI f6 jaT cyI jb0)) (w1 := (wd08_24 a0 x5 jaQ jaD ja7 jby jbf jaM jaY jap jaK jal jam jax jao ja5 jaV ja8 jae jag jaf jaN jaC jaP jaw jaI jbG jbg jbB jan jbD jbu jar jaL jah jaB jaa jaz jaG jab jaT a0_s jaq jai jaO jaA jat jau jav jaj jas jaJ jak jad jay jac a0_s cyI f9 ja5 cyI jbv jbu cyI f10 jbB cyI f11 jbG cyI jcu jbg cyI jbR)) (wn := (wd08_20 a0 x5 jaQ jaD ja7 jby jbf jaM jaY jap jaK jal jam jax jao ja5 jaV ja8 jae jag jaf jaN jaC jaP jaw jaI jbG jbg jbB jan jbD jbu jar jaL jah jaB jaa jaz jaG jab jaT a0_s jaq jai jaO jaA jat jau jav jaj jas jaJ jak jad jay jac jaQ cyI f6 jaT cyI jb0 a0_s cyI f9 ja5 cyI jbv jbu cyI f10 jbB cyI f11 jbG cyI jcu jbg cyI jbR)) hP hD [0, 3, 4, 5, 6, 7, 8] [1, 2] [2, 0, 1, 3, 4, 5, 6, 7, 8] hCc rfl (by decide +kernel) (by decide +kernel) (by decide +kernel) rfl hk1 hFc hP1 hD1
      generalize H1 = H at hP hS ⊢
      obtain ⟨hn9, hw⟩ := hw
      exact ((W.zret (v := r12) hx hb hr hn9 (fun t ht hW => ⟨⟨r12, (x5, f6, f9, f10, f11), rfl, hw, by rw [ht]; exact hP, va_K.moved hW.alike hK, hD⟩, hS.F ht⟩) hS.2.2 (dt_of tkX11_can_k26 5 rfl)))
    · have hw := hw.2 c8
      refine lv_iconst (v := 0) hx hb (dt_of tkX11_can_k0 13 rfl) (by decide) ?_
      exact ((W.zret (v := 0) hx hb hr rfl (fun t ht hW => ⟨⟨0, (x5, f6, f0_s, jbZ, jca), rfl, hw, by rw [ht]; exact hP, va_K.moved hW.alike hK, hD⟩, hS.F ht⟩) hS.2.2 (dt_of tkX11_can_k0 14 rfl)))
theorem ui_X11_clears_X11 : ∀ w ∈ u_ws RX11 TX11 55, w ∈ wsX11_clears := uiM mbX11_clears euX11 (by decide +kernel)
theorem uw_X11_clears_f157 : (.fieldLink RX11 157 "MarchHaresModel" "newForms" "I" : Cond) ∈ wsX11_clears := mbX11_clears 512 (by decide +kernel)
theorem uw_X11_clears_f160 : (.fieldLink RX11 160 "MarchHaresModel" "newHares" "I" : Cond) ∈ wsX11_clears := mbX11_clears 513 (by decide +kernel)
theorem uw_X11_clears_f163 : (.fieldLink RX11 163 "MarchHaresModel" "newFoxes" "I" : Cond) ∈ wsX11_clears := mbX11_clears 514 (by decide +kernel)
theorem uw_X11_clears_f32 : (.fieldLink RX11 32 "MarchHaresModel" "newDebt" "[I" : Cond) ∈ wsX11_clears := mbX11_clears 404 (by decide +kernel)
set_option maxHeartbeats 4000000 in
set_option maxRecDepth 100000 in
theorem kl_X11_clears_17 {p : Program} {l : Launch} {e : Env} {s : State} {m : MethodId} {args : Array Value} {below : List Frame} {meth : Method} {c : Code} {A : Nat → Prop} (dC : Nat → ClassId) (dI : Nat → Nat → Nat) (cyB cyI cyJ cyP : ClassId) (a0 jdO : Nat) (jaX jaF jaD ja7 jby jbf jaM jaY jap jaK jal jam jax ja6 jaV ja8 ja0 ja4 jaP jaw jaI jaZ jaH jaS jan jaU jaE jar jaL jah jaB jaa jaz jaG jab ja2 z0_s jaq jai jaO jaA jat jau jav jaj jas jaJ jak jad jay jac : Value)  (Q : Int32 → Int32 → Int32 → (Nat → Int32) → Prop)  (C0 : cfx p s m args meth c cX11_clears none wsX11_clears RX11 2 A (dC, dI) (kT cyB cyI cyJ cyP)) : ∀ (n : Nat) (H : Heap) (locs : List Loc) (ls : Array Slot) (jg3 jge jg8 : Int32) (jil : Nat → Int32) (l1 : Int32), va_P (dC, dI) vwCl (wd08_25 a0 jaX jaF jaD ja7 jby jbf jaM jaY jap jaK jal jam jax jdO ja6 jaV ja8 jg3 jge jg8 ja0 ja4 jaP jaw jaI jaZ jaH jaS jan jaU jaE jar jaL jah jaB jaa jaz jaG jab ja2 z0_s jaq jai jaO jaA jat jau jav jaj jas jaJ jak jad jay jac jdO cyI jil) H → va_D A (wd08_25 a0 jaX jaF jaD ja7 jby jbf jaM jaY jap jaK jal jam jax jdO ja6 jaV ja8 jg3 jge jg8 ja0 ja4 jaP jaw jaI jaZ jaH jaS jan jaU jaE jar jaL jah jaB jaa jaz jaG jab ja2 z0_s jaq jai jaO jaA jat jau jav jaj jas jaJ jak jad jay jac jdO cyI jil) → va_S A s.heap H locs → lv_has ls 2 [(0, .ref a0), (1, .int l1)] → wl_X11_clears_17  Q  n jg3 jge jg8 jil l1 → W p l e (headSpec wsX11_clears ({ frames := 0, cells := 0, slots := 0, locals := 0 })).room s m args below meth c H locs 0 0 (MQ below (va_Qv (fun (u : Int32 × Int32 × Int32 × (Nat → Int32)) => Q u.1 u.2.1 u.2.2.1 u.2.2.2) (cB (dC, dI) (kT cyB cyI cyJ cyP) A (fun u : Int32 × Int32 × Int32 × (Nat → Int32) => ((wd08_25 a0 jaX jaF jaD ja7 jby jbf jaM jaY jap jaK jal jam jax jdO ja6 jaV ja8 u.1 u.2.1 u.2.2.1 ja0 ja4 jaP jaw jaI jaZ jaH jaS jan jaU jaE jar jaL jah jaB jaa jaz jaG jab ja2 z0_s jaq jai jaO jaA jat jau jav jaj jas jaJ jak jad jay jac jdO cyI u.2.2.2) : va_W))) A) args s 0 0 A) (F0 m 17 ls []) := by
  obtain ⟨hx, hb, hr, hts, hown, hlocks, hml, hA, hK, hNw⟩ := id C0
  intro n
  induction n with
  | zero => intro H locs ls jg3 jge jg8 jil l1 hP hD hS hl hw; exact False.elim hw
  | succ n ih =>
    intro H locs ls jg3 jge jg8 jil l1 hP hD hS hl hw
    refine lv_iload_n hx hb (dt_of tkX11_clears_k0 11 rfl) rfl (lv_at hl 1 rfl) ?_
    refine lv_bipush (v := 36) hx hb (dt_of tkX11_clears_k0 12 rfl) (by decide) ?_
    refine lv_icmp_ge (tgt := 36) hx hb (dt_of tkX11_clears_k0 13 rfl) (by decide) (fun c1 => ?_) (fun c1 => ?_)
    · have hw := hw.1 c1
      exact ((W.vret hx hb hr (fun t ht hW => ⟨⟨(jg3, jge, jg8, jil), rfl, hw, by rw [ht]; exact hP, va_K.moved hW.alike hK, hD⟩, hS.F ht⟩) hS.2.2 (dt_of tkX11_clears_k27 5 rfl)))
    · have hw := hw.2 c1
      refine lv_aload_n hx hb (dt_of tkX11_clears_k0 14 rfl) rfl (lv_at hl 0 rfl) ?_
      refine va_get (D := (dC, dI)) (ci := 11) (v := .ref jdO) (C := RX11) (T := TX11) (N := 55) hx hb hts ui_X11_clears_X11 hown hK hP 0 rfl rfl 13 (by decide) (hts _ uw_X11_clears_f32) (fun _ h9 => h9) rfl (dt_of tkX11_clears_k0 15 rfl) ?_
      refine lv_iload_n hx hb (dt_of tkX11_clears_k27 0 rfl) rfl (lv_at hl 1 rfl) ?_
      refine lv_iconst (v := 0) hx hb (dt_of tkX11_clears_k27 1 rfl) (by decide) ?_
      obtain ⟨hi9, hw⟩ := hw
      refine va_iast hx hb hK hP hD hS 1 1 rfl rfl hi9 (dt_of tkX11_clears_k27 2 rfl) (fun H locs hP hD hS => ?_)
      obtain ⟨f2, ef2⟩ : ∃ y : Nat → Int32, y = upd jil l1.toNatClampNeg 0 := ⟨_, rfl⟩
      have hw := hw f2 ef2
      have hP : va_P (dC, dI) vwCl (wd08_25 a0 jaX jaF jaD ja7 jby jbf jaM jaY jap jaK jal jam jax jdO ja6 jaV ja8 jg3 jge jg8 ja0 ja4 jaP jaw jaI jaZ jaH jaS jan jaU jaE jar jaL jah jaB jaa jaz jaG jab ja2 z0_s jaq jai jaO jaA jat jau jav jaj jas jaJ jak jad jay jac jdO cyI f2) H := by rw [ef2]; exact hP
      have hD : va_D A (wd08_25 a0 jaX jaF jaD ja7 jby jbf jaM jaY jap jaK jal jam jax jdO ja6 jaV ja8 jg3 jge jg8 ja0 ja4 jaP jaw jaI jaZ jaH jaS jan jaU jaE jar jaL jah jaB jaa jaz jaG jab ja2 z0_s jaq jai jaO jaA jat jau jav jaj jas jaJ jak jad jay jac jdO cyI f2) := by rw [ef2]; exact hD
      obtain ⟨x3, ex3⟩ : ∃ y : Int32, y = l1 + 1 := ⟨_, rfl⟩
      have hw := hw x3 ex3
      refine lv_iinc (v := x3) (lv' := [(1, .int x3), (0, .ref a0)]) hx hb (dt_of tkX11_clears_k27 3 rfl) hl (k := 1) rfl (by rw [ex3]; rfl) (by decide) rfl (fun ls hl => ?_)
      refine lv_goto (tgt := 17) hx hb (dt_of tkX11_clears_k27 4 rfl) (by decide) ?_
      exact ih _ _ _ jg3 jge jg8 f2 x3 hP hD hS (lv_sub hl [1, 0] rfl) hw
set_option maxHeartbeats 4000000 in
set_option maxRecDepth 100000 in
theorem ck_X11_clears (l : Launch) (dC : Nat → ClassId) (dI : Nat → Nat → Nat) (cyB cyI cyJ cyP : ClassId) (a0 jdO sz : Nat) (jaX jaF jaD ja7 jby jbf jaM jaY jap jaK jal jam jax ja6 jaV ja8 ja0 ja4 jaP jaw jaI jaZ jaH jaS jan jaU jaE jar jaL jah jaB jaa jaz jaG jab ja2 z0_s jaq jai jaO jaA jat jau jav jaj jas jaJ jak jad jay jac : Value)  (jg3 jge jg8 : Int32) (jil : Nat → Int32)  {Q : Int32 → Int32 → Int32 → (Nat → Int32) → Prop} (hw : wq_X11_clears  jg3 jge jg8 jil  Q) : Met l yX11_clears wsX11_clears ({ frames := 0, cells := 0, slots := 0, locals := 0 }) (va_Pc [.ref a0] (cPc (dC, dI) (kT cyB cyI cyJ cyP) (wd08_25 a0 jaX jaF jaD ja7 jby jbf jaM jaY jap jaK jal jam jax jdO ja6 jaV ja8 jg3 jge jg8 ja0 ja4 jaP jaw jaI jaZ jaH jaS jan jaU jaE jar jaL jah jaB jaa jaz jaG jab ja2 z0_s jaq jai jaO jaA jat jau jav jaj jas jaJ jak jad jay jac jdO cyI jil) sz)) (va_Qv (fun (u : Int32 × Int32 × Int32 × (Nat → Int32)) => Q u.1 u.2.1 u.2.2.1 u.2.2.2) (cB (dC, dI) (kT cyB cyI cyJ cyP) (va_A (wd08_25 a0 jaX jaF jaD ja7 jby jbf jaM jaY jap jaK jal jam jax jdO ja6 jaV ja8 jg3 jge jg8 ja0 ja4 jaP jaw jaI jaZ jaH jaS jan jaU jaE jar jaL jah jaB jaa jaz jaG jab ja2 z0_s jaq jai jaO jaA jat jau jav jaj jas jaJ jak jad jay jac jdO cyI jil) sz) (fun u : Int32 × Int32 × Int32 × (Nat → Int32) => ((wd08_25 a0 jaX jaF jaD ja7 jby jbf jaM jaY jap jaK jal jam jax jdO ja6 jaV ja8 u.1 u.2.1 u.2.2.1 ja0 ja4 jaP jaw jaI jaZ jaH jaS jan jaU jaE jar jaL jah jaB jaa jaz jaG jab ja2 z0_s jaq jai jaO jaA jat jau jav jaj jas jaJ jak jad jay jac jdO cyI u.2.2.2) : va_W))) (va_A (wd08_25 a0 jaX jaF jaD ja7 jby jbf jaM jaY jap jaK jal jam jax jdO ja6 jaV ja8 jg3 jge jg8 ja0 ja4 jaP jaw jaI jaZ jaH jaS jan jaU jaE jar jaL jah jaB jaa jaz jaG jab ja2 z0_s jaq jai jaO jaA jat jau jav jaj jas jaJ jak jad jay jac jdO cyI jil) sz)) 0 0 (va_A (wd08_25 a0 jaX jaF jaD ja7 jby jbf jaM jaY jap jaK jal jam jax jdO ja6 jaV ja8 jg3 jge jg8 ja0 ja4 jaP jaw jaI jaZ jaH jaS jan jaU jaE jar jaL jah jaB jaa jaz jaG jab ja2 z0_s jaq jai jaO jaA jat jau jav jaj jas jaJ jak jad jay jac jdO cyI jil) sz) := by
  refine Met.ofW (cc := cX11_clears) (maxL := 2) (ret := none) (by decide) rfl ?_
  intro p e s m args below meth c s₁ B hml hv
  obtain ⟨rfl, hsz, hP, hK, hD0, hNw⟩ := hv
  have hx := B.exec
  have hb := B.bytes
  have hr := B.returns
  have hts := atoms_spec (ws := wsX11_clears) B.pre
  have hown : s.vm.findClass RX11 = some m.cls := findClass_of_methodNamed B.named
  have hlocks := B.notSynchronized
  subst hsz
  have hD := hD0.self (sz := s.heap.size)
  generalize hAe : va_A (wd08_25 a0 jaX jaF jaD ja7 jby jbf jaM jaY jap jaK jal jam jax jdO ja6 jaV ja8 jg3 jge jg8 ja0 ja4 jaP jaw jaI jaZ jaH jaS jan jaU jaE jar jaL jah jaB jaa jaz jaG jab ja2 z0_s jaq jai jaO jaA jat jau jav jaj jas jaJ jak jad jay jac jdO cyI jil) s.heap.size = A at hD ⊢
  have hA : ∀ q : Nat, s.heap.size ≤ q → A q := fun q h => by rw [← hAe]; exact Or.inr h
  have hS : va_S A s.heap s.heap [] := va_S.rf
  have hP : va_P (dC, dI) vwCl (wd08_25 a0 jaX jaF jaD ja7 jby jbf jaM jaY jap jaK jal jam jax jdO ja6 jaV ja8 jg3 jge jg8 ja0 ja4 jaP jaw jaI jaZ jaH jaS jan jaU jaE jar jaL jah jaB jaa jaz jaG jab ja2 z0_s jaq jai jaO jaA jat jau jav jaj jas jaJ jak jad jay jac jdO cyI jil) s.heap := hP
  have hl := lv_entry ([.ref a0]) (n := 2) (Nat.le_of_ble_eq_true rfl)
  rw [lg_entry_eq]
  generalize (lg_sl ([.ref a0]) ++ List.replicate (2 - (lg_sl ([.ref a0])).length) Slot.unset).toArray = ls at hl ⊢
  have hl : lv_has ls 2 [(0, .ref a0)] := hl
  have C0 : cfx p s m _ meth c cX11_clears none wsX11_clears RX11 2 A (dC, dI) (kT cyB cyI cyJ cyP) := ⟨hx, hb, hr, hts, hown, hlocks, hml, hA, hK, hNw⟩
  clear hAe
  obtain ⟨H, hH⟩ : ∃ H, H = s.heap := ⟨_, rfl⟩
  rw [← hH] at hP ⊢
  have hS : va_S A s.heap H [] := by rw [hH]; exact va_S.rf
  have hS := hS
  refine lv_aload_n hx hb (dt_of tkX11_clears_k0 0 rfl) rfl (lv_at hl 0 rfl) ?_
  refine lv_iconst (v := 0) hx hb (dt_of tkX11_clears_k0 1 rfl) (by decide) ?_
  refine va_put (D := (dC, dI)) (ci := 11) (v := .int 0) (ty := .int) (C := RX11) (T := TX11) (N := 55) hx hb hts ui_X11_clears_X11 tyX11 tyX11_ok nmX11 hown hK hP hD hS 0 rfl rfl 17 (by decide) (hts _ uw_X11_clears_f157) (fun _ h9 => h9) rfl (by decide +kernel) rfl rfl (Nat.le_of_ble_eq_true rfl) (dt_of tkX11_clears_k0 2 rfl) (fun H locs hP hD hS => ?_)
  have hP : va_P (dC, dI) vwCl (wd08_25 a0 jaX jaF jaD ja7 jby jbf jaM jaY jap jaK jal jam jax jdO ja6 jaV ja8 0 jge jg8 ja0 ja4 jaP jaw jaI jaZ jaH jaS jan jaU jaE jar jaL jah jaB jaa jaz jaG jab ja2 z0_s jaq jai jaO jaA jat jau jav jaj jas jaJ jak jad jay jac jdO cyI jil) H := hP
  have hD : va_D A (wd08_25 a0 jaX jaF jaD ja7 jby jbf jaM jaY jap jaK jal jam jax jdO ja6 jaV ja8 0 jge jg8 ja0 ja4 jaP jaw jaI jaZ jaH jaS jan jaU jaE jar jaL jah jaB jaa jaz jaG jab ja2 z0_s jaq jai jaO jaA jat jau jav jaj jas jaJ jak jad jay jac jdO cyI jil) := hD
  refine lv_aload_n hx hb (dt_of tkX11_clears_k0 3 rfl) rfl (lv_at hl 0 rfl) ?_
  refine lv_iconst (v := 0) hx hb (dt_of tkX11_clears_k0 4 rfl) (by decide) ?_
  refine va_put (D := (dC, dI)) (ci := 11) (v := .int 0) (ty := .int) (C := RX11) (T := TX11) (N := 55) hx hb hts ui_X11_clears_X11 tyX11 tyX11_ok nmX11 hown hK hP hD hS 0 rfl rfl 18 (by decide) (hts _ uw_X11_clears_f160) (fun _ h9 => h9) rfl (by decide +kernel) rfl rfl (Nat.le_of_ble_eq_true rfl) (dt_of tkX11_clears_k0 5 rfl) (fun H locs hP hD hS => ?_)
  have hP : va_P (dC, dI) vwCl (wd08_25 a0 jaX jaF jaD ja7 jby jbf jaM jaY jap jaK jal jam jax jdO ja6 jaV ja8 0 0 jg8 ja0 ja4 jaP jaw jaI jaZ jaH jaS jan jaU jaE jar jaL jah jaB jaa jaz jaG jab ja2 z0_s jaq jai jaO jaA jat jau jav jaj jas jaJ jak jad jay jac jdO cyI jil) H := hP
  have hD : va_D A (wd08_25 a0 jaX jaF jaD ja7 jby jbf jaM jaY jap jaK jal jam jax jdO ja6 jaV ja8 0 0 jg8 ja0 ja4 jaP jaw jaI jaZ jaH jaS jan jaU jaE jar jaL jah jaB jaa jaz jaG jab ja2 z0_s jaq jai jaO jaA jat jau jav jaj jas jaJ jak jad jay jac jdO cyI jil) := hD
  refine lv_aload_n hx hb (dt_of tkX11_clears_k0 6 rfl) rfl (lv_at hl 0 rfl) ?_
  refine lv_iconst (v := 0) hx hb (dt_of tkX11_clears_k0 7 rfl) (by decide) ?_
  refine va_put (D := (dC, dI)) (ci := 11) (v := .int 0) (ty := .int) (C := RX11) (T := TX11) (N := 55) hx hb hts ui_X11_clears_X11 tyX11 tyX11_ok nmX11 hown hK hP hD hS 0 rfl rfl 19 (by decide) (hts _ uw_X11_clears_f163) (fun _ h9 => h9) rfl (by decide +kernel) rfl rfl (Nat.le_of_ble_eq_true rfl) (dt_of tkX11_clears_k0 8 rfl) (fun H locs hP hD hS => ?_)
  have hP : va_P (dC, dI) vwCl (wd08_25 a0 jaX jaF jaD ja7 jby jbf jaM jaY jap jaK jal jam jax jdO ja6 jaV ja8 0 0 0 ja0 ja4 jaP jaw jaI jaZ jaH jaS jan jaU jaE jar jaL jah jaB jaa jaz jaG jab ja2 z0_s jaq jai jaO jaA jat jau jav jaj jas jaJ jak jad jay jac jdO cyI jil) H := hP
  have hD : va_D A (wd08_25 a0 jaX jaF jaD ja7 jby jbf jaM jaY jap jaK jal jam jax jdO ja6 jaV ja8 0 0 0 ja0 ja4 jaP jaw jaI jaZ jaH jaS jan jaU jaE jar jaL jah jaB jaa jaz jaG jab ja2 z0_s jaq jai jaO jaA jat jau jav jaj jas jaJ jak jad jay jac jdO cyI jil) := hD
  refine lv_iconst (v := 0) hx hb (dt_of tkX11_clears_k0 9 rfl) (by decide) ?_
  refine lv_istore_n (lv' := [(1, .int 0), (0, .ref a0)]) hx hb (dt_of tkX11_clears_k0 10 rfl) rfl hl (by decide) rfl (fun ls hl => ?_)
  obtain ⟨n9, hw⟩ := hw
  exact kl_X11_clears_17 dC dI cyB cyI cyJ cyP a0 jdO jaX jaF jaD ja7 jby jbf jaM jaY jap jaK jal jam jax ja6 jaV ja8 ja0 ja4 jaP jaw jaI jaZ jaH jaS jan jaU jaE jar jaL jah jaB jaa jaz jaG jab ja2 z0_s jaq jai jaO jaA jat jau jav jaj jas jaJ jak jad jay jac  Q  C0 n9 _ _ _ 0 0 0 jil 0 hP hD hS (lv_sub hl [1, 0] rfl) hw
