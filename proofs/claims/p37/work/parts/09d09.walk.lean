/-- worlds by their leaves -/
def wd09_0 (x0 : Nat) (x1 x2 x3 x4 x5 x6 x7 x8 x9 x10 x11 x12 x13 x14 x15 x16 x17 x18 x19 x20 x21 : Value) (x22 : Int32) (x23 x24 x25 x26 x27 x28 x29 x30 x31 x32 x33 x34 x35 x36 x37 x38 x39 x40 : Value) (x41 : Nat) (x42 x43 x44 x45 x46 x47 x48 x49 x50 x51 x52 x53 x54 x55 : Value) (x56 : Nat) (x57 : ClassId) (x58 : Nat → Int32) : va_W := [(x0, .inr (11, [x1, x2, x3, x4, x5, x6, x7, x8, x9, x10, x11, x12, x13, x14, x15, x16, x17, x18, x19, x20, x21, .int x22, x23, x24, x25, x26, x27, x28, x29, x30, x31, x32, x33, x34, x35, x36, x37, x38, x39, x40, .ref x41, x42, x43, x44, x45, x46, x47, x48, x49, x50, x51, x52, x53, x54, x55])), (x56, .inl (x57, 68, .inl x58))]
def wd09_1 (x0 : Nat) (x1 : Int32) (x2 : Nat) (x3 x4 x5 x6 x7 x8 x9 x10 x11 x12 x13 x14 x15 x16 x17 x18 x19 x20 x21 : Value) (x22 : Int32) (x23 x24 x25 x26 x27 x28 x29 x30 x31 x32 x33 x34 x35 x36 x37 x38 x39 : Value) (x40 x41 : Nat) (x42 x43 x44 x45 x46 x47 x48 x49 x50 x51 x52 x53 x54 x55 : Value) (x56 : Nat) (x57 : ClassId) (x58 : Nat → Int32) (x59 : Nat) (x60 : ClassId) (x61 : Nat → Int32) (x62 : Nat) (x63 : ClassId) (x64 : Nat → Int32) : va_W := [(x0, .inr (11, [.int x1, .ref x2, x3, x4, x5, x6, x7, x8, x9, x10, x11, x12, x13, x14, x15, x16, x17, x18, x19, x20, x21, .int x22, x23, x24, x25, x26, x27, x28, x29, x30, x31, x32, x33, x34, x35, x36, x37, x38, x39, .ref x40, .ref x41, x42, x43, x44, x45, x46, x47, x48, x49, x50, x51, x52, x53, x54, x55])), (x56, .inl (x57, 2, .inl x58)), (x59, .inl (x60, 68, .inl x61)), (x62, .inl (x63, 68, .inl x64))]
def wd09_2 (x0 : Nat) (x1 : Int32) (x2 : Nat) (x3 x4 x5 x6 x7 x8 x9 x10 x11 x12 x13 x14 x15 x16 x17 x18 x19 x20 x21 : Value) (x22 : Int32) (x23 x24 x25 x26 x27 x28 x29 x30 x31 x32 x33 x34 x35 x36 x37 x38 x39 : Value) (x40 x41 : Nat) (x42 x43 x44 x45 x46 x47 x48 x49 x50 x51 x52 x53 x54 x55 : Value) (x56 : Nat) (x57 : ClassId) (x58 : Nat → Int32) : va_W := [(x0, .inr (11, [.int x1, .ref x2, x3, x4, x5, x6, x7, x8, x9, x10, x11, x12, x13, x14, x15, x16, x17, x18, x19, x20, x21, .int x22, x23, x24, x25, x26, x27, x28, x29, x30, x31, x32, x33, x34, x35, x36, x37, x38, x39, .ref x40, .ref x41, x42, x43, x44, x45, x46, x47, x48, x49, x50, x51, x52, x53, x54, x55])), (x56, .inl (x57, 68, .inl x58))]
def wd09_3 (x0 : Nat) (x1 : ClassId) (x2 : Nat → Int32) (x3 : Nat) (x4 : ClassId) (x5 : Nat → Int32) : va_W := [(x0, .inl (x1, 2, .inl x2)), (x3, .inl (x4, 68, .inl x5))]
def wd09_4 (x0 : Nat) (x1 : Int32) (x2 : Nat) (x3 x4 x5 x6 x7 x8 x9 x10 x11 x12 x13 x14 x15 x16 x17 x18 x19 x20 x21 : Value) (x22 : Int32) (x23 x24 x25 x26 x27 x28 x29 x30 x31 x32 x33 x34 x35 x36 x37 x38 x39 : Value) (x40 x41 : Nat) (x42 x43 x44 x45 x46 x47 x48 x49 x50 x51 x52 x53 x54 x55 : Value) (x56 : Nat) (x57 : ClassId) (x58 : Nat → Int32) : va_W := [(x0, .inr (11, [.int x1, .ref x2, x3, x4, x5, x6, x7, x8, x9, x10, x11, x12, x13, x14, x15, x16, x17, x18, x19, x20, x21, .int x22, x23, x24, x25, x26, x27, x28, x29, x30, x31, x32, x33, x34, x35, x36, x37, x38, x39, .ref x40, .ref x41, x42, x43, x44, x45, x46, x47, x48, x49, x50, x51, x52, x53, x54, x55])), (x56, .inl (x57, 2, .inl x58))]
def wd09_5 (x0 : Nat) (x1 : ClassId) (x2 : Nat → Int32) (x3 : Nat) (x4 : ClassId) (x5 : Nat → Int32) : va_W := [(x0, .inl (x1, 68, .inl x2)), (x3, .inl (x4, 68, .inl x5))]
def wd09_6 (x0 : Nat) (x1 : Int32) (x2 : Nat) (x3 x4 x5 x6 x7 x8 x9 x10 x11 x12 x13 x14 x15 x16 x17 x18 x19 x20 x21 : Value) (x22 : Int32) (x23 x24 x25 x26 x27 x28 x29 x30 x31 x32 x33 x34 x35 x36 x37 x38 x39 : Value) (x40 x41 : Nat) (x42 x43 x44 x45 x46 x47 x48 x49 x50 x51 x52 x53 x54 x55 : Value) (x56 : Nat) (x57 : ClassId) (x58 : Nat → Int32) (x59 : Nat) (x60 : ClassId) (x61 : Nat → Int32) : va_W := [(x0, .inr (11, [.int x1, .ref x2, x3, x4, x5, x6, x7, x8, x9, x10, x11, x12, x13, x14, x15, x16, x17, x18, x19, x20, x21, .int x22, x23, x24, x25, x26, x27, x28, x29, x30, x31, x32, x33, x34, x35, x36, x37, x38, x39, .ref x40, .ref x41, x42, x43, x44, x45, x46, x47, x48, x49, x50, x51, x52, x53, x54, x55])), (x56, .inl (x57, 68, .inl x58)), (x59, .inl (x60, 68, .inl x61))]
def wd09_7 (x0 : Nat) (x1 : Int32) (x2 : Value) (x3 : Int32) (x4 x5 x6 x7 x8 x9 x10 x11 x12 x13 x14 x15 x16 x17 x18 x19 x20 x21 x22 x23 x24 x25 x26 x27 x28 x29 x30 x31 x32 x33 x34 : Value) (x35 : Int32) (x36 x37 x38 x39 x40 x41 x42 x43 x44 x45 x46 x47 x48 x49 x50 x51 x52 x53 x54 : Value) (x55 : Int32) : va_W := [(x0, .inr (11, [.int x1, x2, .int x3, x4, x5, x6, x7, x8, x9, x10, x11, x12, x13, x14, x15, x16, x17, x18, x19, x20, x21, x22, x23, x24, x25, x26, x27, x28, x29, x30, x31, x32, x33, x34, .int x35, x36, x37, x38, x39, x40, x41, x42, x43, x44, x45, x46, x47, x48, x49, x50, x51, x52, x53, x54, .int x55]))]
def wd09_8 (x0 : Nat) (x1 : Int32) (x2 : Nat) (x3 x4 x5 x6 x7 x8 x9 x10 x11 x12 x13 x14 x15 x16 x17 x18 x19 x20 x21 : Value) (x22 : Int32) (x23 x24 x25 x26 x27 x28 x29 x30 x31 x32 x33 x34 x35 x36 x37 x38 x39 : Value) (x40 : Nat) (x41 x42 x43 x44 x45 x46 x47 x48 x49 x50 x51 x52 x53 x54 x55 : Value) (x56 : Nat) (x57 : ClassId) (x58 : Nat → Int32) (x59 : Nat) (x60 : ClassId) (x61 : Nat → Int32) : va_W := [(x0, .inr (11, [.int x1, .ref x2, x3, x4, x5, x6, x7, x8, x9, x10, x11, x12, x13, x14, x15, x16, x17, x18, x19, x20, x21, .int x22, x23, x24, x25, x26, x27, x28, x29, x30, x31, x32, x33, x34, x35, x36, x37, x38, x39, .ref x40, x41, x42, x43, x44, x45, x46, x47, x48, x49, x50, x51, x52, x53, x54, x55])), (x56, .inl (x57, 2, .inl x58)), (x59, .inl (x60, 68, .inl x61))]
def wd09_9 (x0 : Nat) (x1 : Int32) (x2 : Nat) (x3 x4 x5 x6 x7 x8 x9 x10 x11 x12 x13 x14 x15 x16 x17 x18 x19 x20 x21 : Value) (x22 : Int32) (x23 x24 x25 x26 x27 x28 x29 x30 x31 x32 x33 x34 x35 x36 x37 x38 x39 : Value) (x40 : Nat) (x41 x42 x43 x44 x45 x46 x47 x48 x49 x50 x51 x52 x53 x54 x55 : Value) (x56 : Nat) (x57 : ClassId) (x58 : Nat → Int32) : va_W := [(x0, .inr (11, [.int x1, .ref x2, x3, x4, x5, x6, x7, x8, x9, x10, x11, x12, x13, x14, x15, x16, x17, x18, x19, x20, x21, .int x22, x23, x24, x25, x26, x27, x28, x29, x30, x31, x32, x33, x34, x35, x36, x37, x38, x39, .ref x40, x41, x42, x43, x44, x45, x46, x47, x48, x49, x50, x51, x52, x53, x54, x55])), (x56, .inl (x57, 2, .inl x58))]
def wd09_10 (x0 : Nat) (x1 x2 x3 : Value) (x4 x5 : Int32) (x6 x7 x8 x9 : Value) (x10 : Nat) (x11 x12 x13 x14 x15 x16 x17 x18 x19 x20 x21 x22 x23 x24 x25 x26 x27 x28 x29 x30 x31 x32 x33 x34 x35 x36 x37 x38 x39 x40 x41 x42 x43 x44 x45 x46 x47 x48 x49 x50 x51 x52 x53 x54 x55 : Value) (x56 : Nat) (x57 : ClassId) (x58 : Nat → Int32) : va_W := [(x0, .inr (11, [x1, x2, x3, .int x4, .int x5, x6, x7, x8, x9, .ref x10, x11, x12, x13, x14, x15, x16, x17, x18, x19, x20, x21, x22, x23, x24, x25, x26, x27, x28, x29, x30, x31, x32, x33, x34, x35, x36, x37, x38, x39, x40, x41, x42, x43, x44, x45, x46, x47, x48, x49, x50, x51, x52, x53, x54, x55])), (x56, .inl (x57, 600, .inl x58))]
def wd09_11 (x0 : Nat) (x1 x2 x3 : Value) (x4 x5 x6 x7 : Int32) (x8 x9 : Value) (x10 : Nat) (x11 x12 x13 x14 x15 x16 x17 x18 : Value) (x19 : Int32) (x20 x21 x22 x23 x24 x25 x26 x27 x28 x29 x30 x31 x32 x33 x34 x35 x36 x37 x38 x39 x40 x41 x42 x43 x44 x45 x46 x47 x48 x49 x50 x51 x52 x53 x54 x55 : Value) (x56 : Nat) (x57 : ClassId) (x58 : Nat → Int32) : va_W := [(x0, .inr (11, [x1, x2, x3, .int x4, .int x5, .int x6, .int x7, x8, x9, .ref x10, x11, x12, x13, x14, x15, x16, x17, x18, .int x19, x20, x21, x22, x23, x24, x25, x26, x27, x28, x29, x30, x31, x32, x33, x34, x35, x36, x37, x38, x39, x40, x41, x42, x43, x44, x45, x46, x47, x48, x49, x50, x51, x52, x53, x54, x55])), (x56, .inl (x57, 600, .inl x58))]
def wd09_12 (x0 : Nat) (x1 x2 x3 : Value) (x4 x5 x6 x7 : Int32) (x8 x9 : Value) (x10 : Nat) (x11 x12 x13 : Value) (x14 : Nat) (x15 x16 x17 x18 : Value) (x19 : Int32) (x20 x21 x22 x23 x24 x25 x26 x27 x28 x29 x30 x31 x32 x33 x34 x35 x36 x37 x38 x39 x40 x41 x42 x43 x44 x45 x46 x47 x48 x49 x50 x51 x52 x53 x54 x55 : Value) (x56 : Nat) (x57 : ClassId) (x58 : Nat → Int32) (x59 : Nat) (x60 : ClassId) (x61 : Nat → Int32) : va_W := [(x0, .inr (11, [x1, x2, x3, .int x4, .int x5, .int x6, .int x7, x8, x9, .ref x10, x11, x12, x13, .ref x14, x15, x16, x17, x18, .int x19, x20, x21, x22, x23, x24, x25, x26, x27, x28, x29, x30, x31, x32, x33, x34, x35, x36, x37, x38, x39, x40, x41, x42, x43, x44, x45, x46, x47, x48, x49, x50, x51, x52, x53, x54, x55])), (x56, .inl (x57, 600, .inl x58)), (x59, .inl (x60, 36, .inl x61))]
def wd09_13 (x0 : Nat) (x1 x2 x3 : Value) (x4 x5 x6 x7 : Int32) (x8 x9 : Value) (x10 : Nat) (x11 x12 x13 : Value) (x14 : Nat) (x15 x16 x17 x18 : Value) (x19 : Int32) (x20 x21 x22 x23 x24 x25 x26 x27 x28 x29 x30 x31 x32 x33 x34 x35 x36 x37 x38 x39 x40 x41 x42 x43 x44 x45 x46 x47 x48 x49 x50 x51 x52 x53 x54 x55 : Value) (x56 : Nat) (x57 : ClassId) (x58 : Nat → Int32) : va_W := [(x0, .inr (11, [x1, x2, x3, .int x4, .int x5, .int x6, .int x7, x8, x9, .ref x10, x11, x12, x13, .ref x14, x15, x16, x17, x18, .int x19, x20, x21, x22, x23, x24, x25, x26, x27, x28, x29, x30, x31, x32, x33, x34, x35, x36, x37, x38, x39, x40, x41, x42, x43, x44, x45, x46, x47, x48, x49, x50, x51, x52, x53, x54, x55])), (x56, .inl (x57, 600, .inl x58))]
def wd09_14 (x0 : Nat) (x1 : ClassId) (x2 : Nat → Int32) : va_W := [(x0, .inl (x1, 36, .inl x2))]
def wd09_15 (x0 : Nat) (x1 x2 x3 : Value) (x4 x5 x6 x7 : Int32) (x8 x9 : Value) (x10 : Nat) (x11 x12 x13 : Value) (x14 : Nat) (x15 x16 x17 x18 : Value) (x19 : Int32) (x20 x21 x22 x23 x24 x25 x26 x27 x28 x29 x30 x31 x32 x33 x34 x35 x36 x37 x38 x39 x40 x41 x42 x43 x44 x45 x46 x47 x48 x49 x50 x51 x52 x53 x54 x55 : Value) : va_W := [(x0, .inr (11, [x1, x2, x3, .int x4, .int x5, .int x6, .int x7, x8, x9, .ref x10, x11, x12, x13, .ref x14, x15, x16, x17, x18, .int x19, x20, x21, x22, x23, x24, x25, x26, x27, x28, x29, x30, x31, x32, x33, x34, x35, x36, x37, x38, x39, x40, x41, x42, x43, x44, x45, x46, x47, x48, x49, x50, x51, x52, x53, x54, x55]))]
def wd09_16 (x0 : Nat) (x1 : ClassId) (x2 : Nat → Int32) (x3 : Nat) (x4 : ClassId) (x5 : Nat → Int32) : va_W := [(x0, .inl (x1, 600, .inl x2)), (x3, .inl (x4, 36, .inl x5))]
def wd09_17 (x0 : Nat) (x1 x2 x3 x4 x5 x6 x7 x8 x9 x10 : Value) (x11 x12 x13 x14 x15 x16 x17 : Nat) (x18 x19 x20 x21 x22 x23 : Int32) (x24 x25 x26 x27 x28 x29 : Value) (x30 : Int32) (x31 x32 x33 x34 : Value) (x35 x36 : Int32) (x37 x38 x39 : Value) (x40 : Nat) (x41 x42 x43 : Value) (x44 : Nat) (x45 : Int32) (x46 x47 x48 x49 x50 x51 x52 x53 x54 : Value) (x55 : Int32) (x56 : Nat) (x57 : ClassId) (x58 : Nat → Int32) (x59 : Nat) (x60 : ClassId) (x61 : Nat → Int32) (x62 : Nat) (x63 : ClassId) (x64 : Nat → Int32) (x65 : Nat) (x66 : ClassId) (x67 : Nat → Int32) (x68 : Nat) (x69 : ClassId) (x70 : Nat → Int32) (x71 : Nat) (x72 : ClassId) (x73 : Nat → Int32) (x74 : Nat) (x75 : ClassId) (x76 : Nat → Int32) (x77 : Nat) (x78 : ClassId) (x79 : Nat → Int32) (x80 : Nat) (x81 : ClassId) (x82 : Nat → Int32) : va_W := [(x0, .inr (11, [x1, x2, x3, x4, x5, x6, x7, x8, x9, x10, .ref x11, .ref x12, .ref x13, .ref x14, .ref x15, .ref x16, .ref x17, .int x18, .int x19, .int x20, .int x21, .int x22, .int x23, x24, x25, x26, x27, x28, x29, .int x30, x31, x32, x33, x34, .int x35, .int x36, x37, x38, x39, .ref x40, x41, x42, x43, .ref x44, .int x45, x46, x47, x48, x49, x50, x51, x52, x53, x54, .int x55])), (x56, .inl (x57, 16, .inl x58)), (x59, .inl (x60, 16, .inl x61)), (x62, .inl (x63, 12, .inl x64)), (x65, .inl (x66, 12, .inl x67)), (x68, .inl (x69, 8, .inl x70)), (x71, .inl (x72, 8, .inl x73)), (x74, .inl (x75, 8, .inl x76)), (x77, .inl (x78, 68, .inl x79)), (x80, .inl (x81, 36, .inl x82))]
def wd09_18 (x0 : Nat) (x1 x2 x3 x4 x5 x6 x7 x8 x9 x10 : Value) (x11 x12 x13 x14 x15 x16 x17 : Nat) (x18 x19 x20 x21 x22 x23 : Int32) (x24 x25 x26 x27 x28 x29 : Value) (x30 : Int32) (x31 x32 x33 x34 : Value) (x35 x36 : Int32) (x37 x38 x39 : Value) (x40 : Nat) (x41 x42 x43 : Value) (x44 : Nat) (x45 : Int32) (x46 x47 x48 x49 x50 x51 x52 x53 x54 : Value) (x55 : Int32) (x56 : Nat) (x57 : ClassId) (x58 : Nat → Int32) (x59 : Nat) (x60 : ClassId) (x61 : Nat → Int32) : va_W := [(x0, .inr (11, [x1, x2, x3, x4, x5, x6, x7, x8, x9, x10, .ref x11, .ref x12, .ref x13, .ref x14, .ref x15, .ref x16, .ref x17, .int x18, .int x19, .int x20, .int x21, .int x22, .int x23, x24, x25, x26, x27, x28, x29, .int x30, x31, x32, x33, x34, .int x35, .int x36, x37, x38, x39, .ref x40, x41, x42, x43, .ref x44, .int x45, x46, x47, x48, x49, x50, x51, x52, x53, x54, .int x55])), (x56, .inl (x57, 16, .inl x58)), (x59, .inl (x60, 16, .inl x61))]
def wd09_19 (x0 : Nat) (x1 x2 x3 x4 x5 x6 x7 x8 x9 x10 : Value) (x11 x12 x13 x14 x15 x16 x17 : Nat) (x18 x19 x20 x21 x22 x23 : Int32) (x24 x25 x26 x27 x28 x29 : Value) (x30 : Int32) (x31 x32 x33 x34 : Value) (x35 x36 : Int32) (x37 x38 x39 : Value) (x40 : Nat) (x41 x42 x43 : Value) (x44 : Nat) (x45 : Int32) (x46 x47 x48 x49 x50 x51 x52 x53 x54 : Value) (x55 : Int32) (x56 : Nat) (x57 : ClassId) (x58 : Nat → Int32) (x59 : Nat) (x60 : ClassId) (x61 : Nat → Int32) : va_W := [(x0, .inr (11, [x1, x2, x3, x4, x5, x6, x7, x8, x9, x10, .ref x11, .ref x12, .ref x13, .ref x14, .ref x15, .ref x16, .ref x17, .int x18, .int x19, .int x20, .int x21, .int x22, .int x23, x24, x25, x26, x27, x28, x29, .int x30, x31, x32, x33, x34, .int x35, .int x36, x37, x38, x39, .ref x40, x41, x42, x43, .ref x44, .int x45, x46, x47, x48, x49, x50, x51, x52, x53, x54, .int x55])), (x56, .inl (x57, 12, .inl x58)), (x59, .inl (x60, 12, .inl x61))]
def wd09_20 (x0 : Nat) (x1 x2 x3 x4 x5 x6 x7 x8 x9 x10 : Value) (x11 x12 x13 x14 x15 x16 x17 : Nat) (x18 x19 x20 x21 x22 x23 : Int32) (x24 x25 x26 x27 x28 x29 : Value) (x30 : Int32) (x31 x32 x33 x34 : Value) (x35 x36 : Int32) (x37 x38 x39 : Value) (x40 : Nat) (x41 x42 x43 : Value) (x44 : Nat) (x45 : Int32) (x46 x47 x48 x49 x50 x51 x52 x53 x54 : Value) (x55 : Int32) (x56 : Nat) (x57 : ClassId) (x58 : Nat → Int32) (x59 : Nat) (x60 : ClassId) (x61 : Nat → Int32) : va_W := [(x0, .inr (11, [x1, x2, x3, x4, x5, x6, x7, x8, x9, x10, .ref x11, .ref x12, .ref x13, .ref x14, .ref x15, .ref x16, .ref x17, .int x18, .int x19, .int x20, .int x21, .int x22, .int x23, x24, x25, x26, x27, x28, x29, .int x30, x31, x32, x33, x34, .int x35, .int x36, x37, x38, x39, .ref x40, x41, x42, x43, .ref x44, .int x45, x46, x47, x48, x49, x50, x51, x52, x53, x54, .int x55])), (x56, .inl (x57, 8, .inl x58)), (x59, .inl (x60, 8, .inl x61))]
def wd09_21 (x0 : Nat) (x1 x2 x3 x4 x5 x6 x7 x8 x9 x10 x11 x12 x13 x14 x15 x16 x17 x18 x19 x20 x21 x22 x23 x24 x25 x26 x27 x28 x29 x30 x31 x32 x33 x34 x35 x36 x37 x38 x39 x40 x41 x42 x43 x44 x45 x46 x47 x48 x49 x50 x51 : Value) (x52 : Int32) (x53 x54 x55 : Value) : va_W := [(x0, .inr (11, [x1, x2, x3, x4, x5, x6, x7, x8, x9, x10, x11, x12, x13, x14, x15, x16, x17, x18, x19, x20, x21, x22, x23, x24, x25, x26, x27, x28, x29, x30, x31, x32, x33, x34, x35, x36, x37, x38, x39, x40, x41, x42, x43, x44, x45, x46, x47, x48, x49, x50, x51, .int x52, x53, x54, x55]))]
def wd09_22 (x0 : Nat) (x1 x2 x3 x4 x5 : Value) (x6 : Int32) (x7 x8 x9 x10 x11 x12 x13 x14 x15 x16 x17 x18 x19 x20 x21 x22 x23 : Value) (x24 x25 : Nat) (x26 x27 x28 : Value) (x29 : Int32) (x30 x31 x32 x33 x34 x35 x36 x37 x38 x39 x40 x41 x42 x43 x44 x45 x46 x47 x48 x49 x50 x51 x52 x53 x54 x55 : Value) (x56 : Nat) (x57 : ClassId) (x58 : Nat → Int32) (x59 : Nat) (x60 : ClassId) (x61 : Nat → Int32) : va_W := [(x0, .inr (11, [x1, x2, x3, x4, x5, .int x6, x7, x8, x9, x10, x11, x12, x13, x14, x15, x16, x17, x18, x19, x20, x21, x22, x23, .ref x24, .ref x25, x26, x27, x28, .int x29, x30, x31, x32, x33, x34, x35, x36, x37, x38, x39, x40, x41, x42, x43, x44, x45, x46, x47, x48, x49, x50, x51, x52, x53, x54, x55])), (x56, .inl (x57, 150, .inl x58)), (x59, .inl (x60, 150, .inl x61))]
def wd09_23 (x0 : Nat) (x1 x2 x3 x4 x5 : Value) (x6 : Int32) (x7 x8 x9 x10 x11 x12 x13 x14 x15 x16 x17 x18 x19 x20 x21 x22 x23 : Value) (x24 x25 : Nat) (x26 x27 x28 : Value) (x29 : Int32) (x30 x31 x32 x33 x34 x35 x36 x37 x38 x39 x40 x41 x42 x43 x44 x45 x46 x47 x48 x49 x50 x51 x52 x53 x54 x55 : Value) : va_W := [(x0, .inr (11, [x1, x2, x3, x4, x5, .int x6, x7, x8, x9, x10, x11, x12, x13, x14, x15, x16, x17, x18, x19, x20, x21, x22, x23, .ref x24, .ref x25, x26, x27, x28, .int x29, x30, x31, x32, x33, x34, x35, x36, x37, x38, x39, x40, x41, x42, x43, x44, x45, x46, x47, x48, x49, x50, x51, x52, x53, x54, x55]))]
def wd09_24 (x0 : Nat) (x1 : Int32) (x2 : Nat) (x3 x4 x5 x6 x7 x8 x9 x10 x11 x12 x13 x14 : Value) (x15 : Nat) (x16 x17 x18 x19 x20 : Value) (x21 : Int32) (x22 x23 x24 x25 x26 x27 x28 x29 x30 x31 x32 x33 x34 x35 x36 x37 x38 x39 x40 x41 x42 x43 x44 x45 x46 x47 x48 x49 x50 x51 x52 x53 x54 x55 : Value) (x56 : Nat) (x57 : ClassId) (x58 : Nat → Int32) (x59 : Nat) (x60 : ClassId) (x61 : Nat → Int32) : va_W := [(x0, .inr (11, [.int x1, .ref x2, x3, x4, x5, x6, x7, x8, x9, x10, x11, x12, x13, x14, .ref x15, x16, x17, x18, x19, x20, .int x21, x22, x23, x24, x25, x26, x27, x28, x29, x30, x31, x32, x33, x34, x35, x36, x37, x38, x39, x40, x41, x42, x43, x44, x45, x46, x47, x48, x49, x50, x51, x52, x53, x54, x55])), (x56, .inl (x57, 2, .inl x58)), (x59, .inl (x60, 16, .inl x61))]
def wd09_25 (x0 : Nat) (x1 : Int32) (x2 : Nat) (x3 x4 x5 x6 x7 x8 x9 x10 x11 x12 x13 x14 : Value) (x15 : Nat) (x16 x17 x18 x19 x20 : Value) (x21 : Int32) (x22 x23 x24 x25 x26 x27 x28 x29 x30 x31 x32 x33 x34 x35 x36 x37 x38 x39 x40 x41 x42 x43 x44 x45 x46 x47 x48 x49 x50 x51 x52 x53 x54 x55 : Value) (x56 : Nat) (x57 : ClassId) (x58 : Nat → Int32) : va_W := [(x0, .inr (11, [.int x1, .ref x2, x3, x4, x5, x6, x7, x8, x9, x10, x11, x12, x13, x14, .ref x15, x16, x17, x18, x19, x20, .int x21, x22, x23, x24, x25, x26, x27, x28, x29, x30, x31, x32, x33, x34, x35, x36, x37, x38, x39, x40, x41, x42, x43, x44, x45, x46, x47, x48, x49, x50, x51, x52, x53, x54, x55])), (x56, .inl (x57, 2, .inl x58))]
def wd09_26 (x0 : Nat) (x1 : ClassId) (x2 : Nat → Int32) : va_W := [(x0, .inl (x1, 16, .inl x2))]
def wd09_27 (x0 : Nat) (x1 : Int32) (x2 : Nat) (x3 x4 x5 x6 x7 x8 x9 x10 x11 x12 x13 x14 : Value) (x15 : Nat) (x16 x17 x18 x19 x20 : Value) (x21 : Int32) (x22 x23 x24 x25 x26 x27 x28 x29 x30 x31 x32 x33 x34 x35 x36 x37 x38 x39 x40 x41 x42 x43 x44 x45 x46 x47 x48 x49 x50 x51 x52 x53 x54 x55 : Value) (x56 : Nat) (x57 : ClassId) (x58 : Nat → Int32) : va_W := [(x0, .inr (11, [.int x1, .ref x2, x3, x4, x5, x6, x7, x8, x9, x10, x11, x12, x13, x14, .ref x15, x16, x17, x18, x19, x20, .int x21, x22, x23, x24, x25, x26, x27, x28, x29, x30, x31, x32, x33, x34, x35, x36, x37, x38, x39, x40, x41, x42, x43, x44, x45, x46, x47, x48, x49, x50, x51, x52, x53, x54, x55])), (x56, .inl (x57, 16, .inl x58))]
def wd09_28 (x0 : Nat) (x1 : Int32) (x2 x3 x4 x5 x6 x7 x8 : Value) (x9 : Int32) (x10 x11 x12 x13 x14 x15 x16 x17 x18 x19 x20 x21 x22 x23 x24 x25 x26 x27 x28 x29 x30 x31 x32 x33 x34 x35 x36 x37 x38 x39 x40 x41 x42 x43 x44 x45 x46 x47 x48 x49 x50 x51 x52 x53 x54 x55 : Value) : va_W := [(x0, .inr (11, [.int x1, x2, x3, x4, x5, x6, x7, x8, .int x9, x10, x11, x12, x13, x14, x15, x16, x17, x18, x19, x20, x21, x22, x23, x24, x25, x26, x27, x28, x29, x30, x31, x32, x33, x34, x35, x36, x37, x38, x39, x40, x41, x42, x43, x44, x45, x46, x47, x48, x49, x50, x51, x52, x53, x54, x55]))]
def wd09_29 (x0 : Nat) (x1 : Int32) (x2 : Value) (x3 : Int32) (x4 x5 x6 x7 x8 x9 : Value) (x10 : Nat) (x11 x12 x13 x14 x15 x16 x17 x18 x19 x20 x21 x22 x23 x24 x25 x26 x27 x28 x29 x30 x31 x32 x33 x34 x35 x36 x37 x38 x39 x40 x41 x42 x43 x44 x45 x46 x47 x48 x49 x50 x51 x52 x53 x54 x55 : Value) (x56 : Nat) (x57 : ClassId) (x58 : Nat → Int32) : va_W := [(x0, .inr (11, [.int x1, x2, .int x3, x4, x5, x6, x7, x8, x9, .ref x10, x11, x12, x13, x14, x15, x16, x17, x18, x19, x20, x21, x22, x23, x24, x25, x26, x27, x28, x29, x30, x31, x32, x33, x34, x35, x36, x37, x38, x39, x40, x41, x42, x43, x44, x45, x46, x47, x48, x49, x50, x51, x52, x53, x54, x55])), (x56, .inl (x57, 600, .inl x58))]
def wd09_30 (x0 : Nat) (x1 : Int32) (x2 : Nat) (x3 x4 x5 x6 x7 x8 x9 x10 x11 x12 x13 x14 x15 x16 x17 x18 x19 x20 x21 x22 x23 x24 x25 x26 x27 x28 x29 x30 x31 x32 x33 x34 x35 x36 x37 x38 x39 x40 x41 x42 x43 x44 x45 x46 x47 x48 x49 x50 : Value) (x51 : Nat) (x52 x53 x54 x55 : Value) (x56 : Nat) (x57 : ClassId) (x58 : Nat → Int32) (x59 : Nat) (x60 : ClassId) (x61 : Nat → Int64) : va_W := [(x0, .inr (11, [.int x1, .ref x2, x3, x4, x5, x6, x7, x8, x9, x10, x11, x12, x13, x14, x15, x16, x17, x18, x19, x20, x21, x22, x23, x24, x25, x26, x27, x28, x29, x30, x31, x32, x33, x34, x35, x36, x37, x38, x39, x40, x41, x42, x43, x44, x45, x46, x47, x48, x49, x50, .ref x51, x52, x53, x54, x55])), (x56, .inl (x57, 2, .inl x58)), (x59, .inl (x60, 14, .inr (.inl x61)))]
def wd09_31 (x0 : Nat) (x1 : Int32) (x2 : Nat) (x3 x4 x5 x6 x7 x8 x9 x10 x11 x12 x13 x14 x15 x16 x17 x18 x19 x20 x21 x22 x23 x24 x25 x26 x27 x28 x29 x30 x31 x32 x33 x34 x35 x36 x37 x38 x39 x40 x41 x42 x43 x44 x45 x46 x47 x48 x49 x50 : Value) (x51 : Nat) (x52 x53 x54 x55 : Value) (x56 : Nat) (x57 : ClassId) (x58 : Nat → Int32) : va_W := [(x0, .inr (11, [.int x1, .ref x2, x3, x4, x5, x6, x7, x8, x9, x10, x11, x12, x13, x14, x15, x16, x17, x18, x19, x20, x21, x22, x23, x24, x25, x26, x27, x28, x29, x30, x31, x32, x33, x34, x35, x36, x37, x38, x39, x40, x41, x42, x43, x44, x45, x46, x47, x48, x49, x50, .ref x51, x52, x53, x54, x55])), (x56, .inl (x57, 2, .inl x58))]
def wd09_32 (x0 : Nat) (x1 x2 x3 x4 x5 x6 x7 x8 x9 x10 x11 x12 x13 x14 : Value) (x15 : Nat) (x16 x17 x18 x19 x20 : Value) (x21 x22 : Int32) (x23 x24 x25 : Value) (x26 x27 x28 : Nat) (x29 : Value) (x30 : Int32) (x31 : Nat) (x32 x33 x34 x35 x36 x37 x38 x39 x40 : Value) (x41 : Nat) (x42 x43 x44 x45 x46 x47 x48 x49 x50 x51 x52 x53 x54 x55 : Value) (x56 : Nat) (x57 : ClassId) (x58 : Nat → Int32) (x59 : Nat) (x60 : ClassId) (x61 : Nat → Int32) (x62 : Nat) (x63 : ClassId) (x64 : Nat → Int32) (x65 : Nat) (x66 : ClassId) (x67 : Nat → Int32) (x68 : Nat) (x69 : ClassId) (x70 : Nat → Int32) (x71 : Nat) (x72 : ClassId) (x73 : Nat → Int32) : va_W := [(x0, .inr (11, [x1, x2, x3, x4, x5, x6, x7, x8, x9, x10, x11, x12, x13, x14, .ref x15, x16, x17, x18, x19, x20, .int x21, .int x22, x23, x24, x25, .ref x26, .ref x27, .ref x28, x29, .int x30, .ref x31, x32, x33, x34, x35, x36, x37, x38, x39, x40, .ref x41, x42, x43, x44, x45, x46, x47, x48, x49, x50, x51, x52, x53, x54, x55])), (x56, .inl (x57, 68, .inl x58)), (x59, .inl (x60, 16, .inl x61)), (x62, .inl (x63, 8, .inl x64)), (x65, .inl (x66, 150, .inl x67)), (x68, .inl (x69, 150, .inl x70)), (x71, .inl (x72, 150, .inl x73))]
def wd09_33 (x0 : Nat) (x1 x2 x3 x4 x5 x6 x7 x8 x9 x10 x11 x12 x13 x14 : Value) (x15 : Nat) (x16 : Value) (x17 : Nat) (x18 x19 x20 : Value) (x21 : Int32) (x22 : Value) (x23 : Int32) (x24 x25 x26 x27 x28 x29 x30 x31 x32 x33 x34 x35 x36 x37 x38 x39 x40 x41 x42 x43 x44 x45 x46 x47 x48 x49 x50 x51 x52 x53 x54 x55 : Value) (x56 : Nat) (x57 : ClassId) (x58 : Nat → Int32) (x59 : Nat) (x60 : ClassId) (x61 : Nat → Int32) : va_W := [(x0, .inr (11, [x1, x2, x3, x4, x5, x6, x7, x8, x9, x10, x11, x12, x13, x14, .ref x15, x16, .ref x17, x18, x19, x20, .int x21, x22, .int x23, x24, x25, x26, x27, x28, x29, x30, x31, x32, x33, x34, x35, x36, x37, x38, x39, x40, x41, x42, x43, x44, x45, x46, x47, x48, x49, x50, x51, x52, x53, x54, x55])), (x56, .inl (x57, 16, .inl x58)), (x59, .inl (x60, 8, .inl x61))]
def wd09_34 (x0 : Nat) (x1 x2 x3 x4 x5 x6 x7 x8 x9 x10 x11 x12 x13 x14 : Value) (x15 : Nat) (x16 : Value) (x17 : Nat) (x18 x19 x20 : Value) (x21 x22 x23 : Int32) (x24 x25 : Value) (x26 x27 x28 : Nat) (x29 : Value) (x30 : Int32) (x31 : Nat) (x32 x33 x34 x35 x36 x37 x38 x39 : Value) (x40 x41 : Nat) (x42 x43 x44 x45 : Value) (x46 x47 x48 : Nat) (x49 x50 x51 x52 x53 x54 x55 : Value) (x56 : Nat) (x57 : ClassId) (x58 : Nat → Int32) (x59 : Nat) (x60 : ClassId) (x61 : Nat → Int32) (x62 : Nat) (x63 : ClassId) (x64 : Nat → Int32) (x65 : Nat) (x66 : ClassId) (x67 : Nat → Int32) (x68 : Nat) (x69 : ClassId) (x70 : Nat → Int32) (x71 : Nat) (x72 : ClassId) (x73 : Nat → Int32) (x74 : Nat) (x75 : ClassId) (x76 : Nat → Int32) (x77 : Nat) (x78 : ClassId) (x79 : Nat → Int32) (x80 : Nat) (x81 : ClassId) (x82 : Nat → Int32) (x83 : Nat) (x84 : ClassId) (x85 : Nat → Int32) (x86 : Nat) (x87 : ClassId) (x88 : Nat → Int32) : va_W := [(x0, .inr (11, [x1, x2, x3, x4, x5, x6, x7, x8, x9, x10, x11, x12, x13, x14, .ref x15, x16, .ref x17, x18, x19, x20, .int x21, .int x22, .int x23, x24, x25, .ref x26, .ref x27, .ref x28, x29, .int x30, .ref x31, x32, x33, x34, x35, x36, x37, x38, x39, .ref x40, .ref x41, x42, x43, x44, x45, .ref x46, .ref x47, .ref x48, x49, x50, x51, x52, x53, x54, x55])), (x56, .inl (x57, 68, .inl x58)), (x59, .inl (x60, 68, .inl x61)), (x62, .inl (x63, 16, .inl x64)), (x65, .inl (x66, 8, .inl x67)), (x68, .inl (x69, 150, .inl x70)), (x71, .inl (x72, 150, .inl x73)), (x74, .inl (x75, 150, .inl x76)), (x77, .inl (x78, 8, .inl x79)), (x80, .inl (x81, 1792, .inl x82)), (x83, .inl (x84, 6, .inl x85)), (x86, .inl (x87, 6, .inl x88))]
def wd09_35 (x0 : Nat) (x1 x2 x3 x4 x5 x6 x7 x8 x9 x10 x11 x12 x13 x14 : Value) (x15 : Nat) (x16 : Value) (x17 : Nat) (x18 x19 x20 : Value) (x21 x22 x23 : Int32) (x24 x25 : Value) (x26 x27 x28 : Nat) (x29 : Value) (x30 : Int32) (x31 : Nat) (x32 x33 x34 x35 x36 x37 x38 x39 : Value) (x40 x41 : Nat) (x42 x43 x44 x45 : Value) (x46 x47 x48 : Nat) (x49 x50 x51 x52 x53 x54 x55 : Value) (x56 : Nat) (x57 : ClassId) (x58 : Nat → Int32) : va_W := [(x0, .inr (11, [x1, x2, x3, x4, x5, x6, x7, x8, x9, x10, x11, x12, x13, x14, .ref x15, x16, .ref x17, x18, x19, x20, .int x21, .int x22, .int x23, x24, x25, .ref x26, .ref x27, .ref x28, x29, .int x30, .ref x31, x32, x33, x34, x35, x36, x37, x38, x39, .ref x40, .ref x41, x42, x43, x44, x45, .ref x46, .ref x47, .ref x48, x49, x50, x51, x52, x53, x54, x55])), (x56, .inl (x57, 68, .inl x58))]
def wd09_36 (x0 : Nat) (x1 x2 x3 x4 x5 x6 x7 x8 x9 x10 x11 x12 x13 x14 : Value) (x15 : Nat) (x16 : Value) (x17 : Nat) (x18 x19 x20 : Value) (x21 x22 x23 : Int32) (x24 x25 : Value) (x26 x27 x28 : Nat) (x29 : Value) (x30 : Int32) (x31 : Nat) (x32 x33 x34 x35 x36 x37 x38 x39 : Value) (x40 x41 : Nat) (x42 x43 x44 x45 : Value) (x46 x47 x48 : Nat) (x49 x50 x51 x52 x53 x54 x55 : Value) (x56 : Nat) (x57 : ClassId) (x58 : Nat → Int32) (x59 : Nat) (x60 : ClassId) (x61 : Nat → Int32) (x62 : Nat) (x63 : ClassId) (x64 : Nat → Int32) (x65 : Nat) (x66 : ClassId) (x67 : Nat → Int32) (x68 : Nat) (x69 : ClassId) (x70 : Nat → Int32) (x71 : Nat) (x72 : ClassId) (x73 : Nat → Int32) : va_W := [(x0, .inr (11, [x1, x2, x3, x4, x5, x6, x7, x8, x9, x10, x11, x12, x13, x14, .ref x15, x16, .ref x17, x18, x19, x20, .int x21, .int x22, .int x23, x24, x25, .ref x26, .ref x27, .ref x28, x29, .int x30, .ref x31, x32, x33, x34, x35, x36, x37, x38, x39, .ref x40, .ref x41, x42, x43, x44, x45, .ref x46, .ref x47, .ref x48, x49, x50, x51, x52, x53, x54, x55])), (x56, .inl (x57, 68, .inl x58)), (x59, .inl (x60, 16, .inl x61)), (x62, .inl (x63, 8, .inl x64)), (x65, .inl (x66, 150, .inl x67)), (x68, .inl (x69, 150, .inl x70)), (x71, .inl (x72, 150, .inl x73))]
def wd09_37 (x0 : Nat) (x1 x2 x3 x4 x5 x6 x7 x8 x9 x10 x11 x12 x13 x14 : Value) (x15 : Nat) (x16 : Value) (x17 : Nat) (x18 x19 x20 : Value) (x21 x22 x23 : Int32) (x24 x25 : Value) (x26 x27 x28 : Nat) (x29 : Value) (x30 : Int32) (x31 : Nat) (x32 x33 x34 x35 x36 x37 x38 x39 : Value) (x40 x41 : Nat) (x42 x43 x44 x45 : Value) (x46 x47 x48 : Nat) (x49 x50 x51 x52 x53 x54 x55 : Value) (x56 : Nat) (x57 : ClassId) (x58 : Nat → Int32) (x59 : Nat) (x60 : ClassId) (x61 : Nat → Int32) : va_W := [(x0, .inr (11, [x1, x2, x3, x4, x5, x6, x7, x8, x9, x10, x11, x12, x13, x14, .ref x15, x16, .ref x17, x18, x19, x20, .int x21, .int x22, .int x23, x24, x25, .ref x26, .ref x27, .ref x28, x29, .int x30, .ref x31, x32, x33, x34, x35, x36, x37, x38, x39, .ref x40, .ref x41, x42, x43, x44, x45, .ref x46, .ref x47, .ref x48, x49, x50, x51, x52, x53, x54, x55])), (x56, .inl (x57, 16, .inl x58)), (x59, .inl (x60, 8, .inl x61))]
def wd09_38 (x0 : Nat) (x1 x2 x3 x4 x5 x6 x7 x8 x9 x10 x11 x12 x13 x14 : Value) (x15 : Nat) (x16 : Value) (x17 : Nat) (x18 x19 x20 : Value) (x21 x22 x23 : Int32) (x24 x25 : Value) (x26 x27 x28 : Nat) (x29 : Value) (x30 : Int32) (x31 : Nat) (x32 x33 x34 x35 x36 x37 x38 x39 : Value) (x40 x41 : Nat) (x42 x43 x44 x45 : Value) (x46 x47 x48 : Nat) (x49 x50 x51 x52 x53 x54 x55 : Value) (x56 : Nat) (x57 : ClassId) (x58 : Nat → Int32) (x59 : Nat) (x60 : ClassId) (x61 : Nat → Int32) : va_W := [(x0, .inr (11, [x1, x2, x3, x4, x5, x6, x7, x8, x9, x10, x11, x12, x13, x14, .ref x15, x16, .ref x17, x18, x19, x20, .int x21, .int x22, .int x23, x24, x25, .ref x26, .ref x27, .ref x28, x29, .int x30, .ref x31, x32, x33, x34, x35, x36, x37, x38, x39, .ref x40, .ref x41, x42, x43, x44, x45, .ref x46, .ref x47, .ref x48, x49, x50, x51, x52, x53, x54, x55])), (x56, .inl (x57, 68, .inl x58)), (x59, .inl (x60, 68, .inl x61))]
theorem ui_X11_cloverBy_X11 : ∀ w ∈ u_ws RX11 TX11 55, w ∈ wsX11_cloverBy := uiM mbX11_cloverBy euX11 (by decide +kernel)
theorem uw_X11_cloverBy_f169 : (.fieldLink RX11 169 "MarchHaresModel" "hares" "I" : Cond) ∈ wsX11_cloverBy := mbX11_cloverBy 520 (by decide +kernel)
set_option maxHeartbeats 4000000 in
set_option maxRecDepth 100000 in
theorem kb_X11_cloverBy_41 {p : Program} {l : Launch} {e : Env} {s : State} {m : MethodId} {args : Array Value} {below : List Frame} {meth : Method} {c : Code} {A : Nat → Prop} (dC : Nat → ClassId) (dI : Nat → Nat → Nat) (cyB cyI cyJ cyP : ClassId) (a0 a0_s : Nat) (jaX jaF jaD ja7 jby jbf jaM jaY jap jaK jal jam jax jao ja6 jaV ja8 jae jag jaf ja0 jaP jaw jaI jaZ jaH jaS jan jaU jaE jar jaL jah jaB jaa jaz jaG jab ja2 jaq jai jaO jaA jat jau jav jaj jas jaJ jak jad jay jac : Value) (jaC : Int32) (f0_s : Nat → Int32) (Q : Int32 → Prop) (K5 : Int32 → Int32 → Int32 → Int32 → Prop) (hK5 : ∀ (H : Heap) (locs : List Loc) (ls : Array Slot) (l1 l2 l3 l4 : Int32), va_P (dC, dI) vwCl (wd09_0 a0 jaX jaF jaD ja7 jby jbf jaM jaY jap jaK jal jam jax jao ja6 jaV ja8 jae jag jaf ja0 jaC jaP jaw jaI jaZ jaH jaS jan jaU jaE jar jaL jah jaB jaa jaz jaG jab ja2 a0_s jaq jai jaO jaA jat jau jav jaj jas jaJ jak jad jay jac a0_s cyI f0_s) H → va_D A (wd09_0 a0 jaX jaF jaD ja7 jby jbf jaM jaY jap jaK jal jam jax jao ja6 jaV ja8 jae jag jaf ja0 jaC jaP jaw jaI jaZ jaH jaS jan jaU jaE jar jaL jah jaB jaa jaz jaG jab ja2 a0_s jaq jai jaO jaA jat jau jav jaj jas jaJ jak jad jay jac a0_s cyI f0_s) → va_S A s.heap H locs → lv_has ls 5 [(0, .ref a0), (1, .int l1), (2, .int l2), (3, .int l3), (4, .int l4)] → K5 l1 l2 l3 l4 → W p l e (headSpec wsX11_cloverBy ({ frames := 1, cells := 0, slots := 0, locals := 23 })).room s m args below meth c H locs 0 0 (MQ below (va_Qi (fun (r : Int32) (_ : Unit) => Q r ) (cB (dC, dI) (kT cyB cyI cyJ cyP) A (fun u : Unit => ((wd09_0 a0 jaX jaF jaD ja7 jby jbf jaM jaY jap jaK jal jam jax jao ja6 jaV ja8 jae jag jaf ja0 jaC jaP jaw jaI jaZ jaH jaS jan jaU jaE jar jaL jah jaB jaa jaz jaG jab ja2 a0_s jaq jai jaO jaA jat jau jav jaj jas jaJ jak jad jay jac a0_s cyI f0_s) : va_W))) A) args s 0 0 A) (F0 m 5 ls [])) (C0 : cfx p s m args meth c cX11_cloverBy (some .int) wsX11_cloverBy RX11 5 A (dC, dI) (kT cyB cyI cyJ cyP)) : ∀ (H : Heap) (locs : List Loc) (ls : Array Slot) (l1 l2 l4 s0 s1 s2 : Int32), va_P (dC, dI) vwCl (wd09_0 a0 jaX jaF jaD ja7 jby jbf jaM jaY jap jaK jal jam jax jao ja6 jaV ja8 jae jag jaf ja0 jaC jaP jaw jaI jaZ jaH jaS jan jaU jaE jar jaL jah jaB jaa jaz jaG jab ja2 a0_s jaq jai jaO jaA jat jau jav jaj jas jaJ jak jad jay jac a0_s cyI f0_s) H → va_D A (wd09_0 a0 jaX jaF jaD ja7 jby jbf jaM jaY jap jaK jal jam jax jao ja6 jaV ja8 jae jag jaf ja0 jaC jaP jaw jaI jaZ jaH jaS jan jaU jaE jar jaL jah jaB jaa jaz jaG jab ja2 a0_s jaq jai jaO jaA jat jau jav jaj jas jaJ jak jad jay jac a0_s cyI f0_s) → va_S A s.heap H locs → lv_has ls 5 [(0, .ref a0), (1, .int l1), (2, .int l2), (4, .int l4)] → wb_X11_cloverBy_41 jaC f0_s Q K5 l1 l2 l4 s0 s1 s2 → W p l e (headSpec wsX11_cloverBy ({ frames := 1, cells := 0, slots := 0, locals := 23 })).room s m args below meth c H locs 0 0 (MQ below (va_Qi (fun (r : Int32) (_ : Unit) => Q r ) (cB (dC, dI) (kT cyB cyI cyJ cyP) A (fun u : Unit => ((wd09_0 a0 jaX jaF jaD ja7 jby jbf jaM jaY jap jaK jal jam jax jao ja6 jaV ja8 jae jag jaf ja0 jaC jaP jaw jaI jaZ jaH jaS jan jaU jaE jar jaL jah jaB jaa jaz jaG jab ja2 a0_s jaq jai jaO jaA jat jau jav jaj jas jaJ jak jad jay jac a0_s cyI f0_s) : va_W))) A) args s 0 0 A) (F0 m 41 ls [.int s2, .int s1, .int s0]) := by
  obtain ⟨hx, hb, hr, hts, hown, hlocks, hml, hA, hK, hNw⟩ := id C0
  intro H locs ls l1 l2 l4 s0 s1 s2 hP hD hS hl hw
  refine lv_imul hx hb (dt_of tkX11_cloverBy_k24 8 rfl) ?_
  refine lv_iadd hx hb (dt_of tkX11_cloverBy_k24 9 rfl) ?_
  refine lv_topi (fun x5 ex5 => ?_)
  have hw := hw x5 ex5
  refine lv_istore_n (lv' := [(3, .int x5), (0, .ref a0), (1, .int l1), (2, .int l2), (4, .int l4)]) hx hb (dt_of tkX11_cloverBy_k24 10 rfl) rfl hl (by decide) rfl (fun ls hl => ?_)
  obtain ⟨x6, ex6⟩ : ∃ y : Int32, y = l4 + 1 := ⟨_, rfl⟩
  have hw := hw x6 ex6
  refine lv_iinc (v := x6) (lv' := [(4, .int x6), (3, .int x5), (0, .ref a0), (1, .int l1), (2, .int l2)]) hx hb (dt_of tkX11_cloverBy_k24 11 rfl) hl (k := 4) rfl (by rw [ex6]; rfl) (by decide) rfl (fun ls hl => ?_)
  refine lv_goto (tgt := 5) hx hb (dt_of tkX11_cloverBy_k24 12 rfl) (by decide) ?_
  exact hK5 _ _ _ l1 l2 x5 x6 hP hD hS (lv_sub hl [2, 3, 4, 1, 0] rfl) hw
set_option maxHeartbeats 4000000 in
set_option maxRecDepth 100000 in
theorem kl_X11_cloverBy_5 {p : Program} {l : Launch} {e : Env} {s : State} {m : MethodId} {args : Array Value} {below : List Frame} {meth : Method} {c : Code} {A : Nat → Prop} (dC : Nat → ClassId) (dI : Nat → Nat → Nat) (cyB cyI cyJ cyP : ClassId) (a0 a0_s : Nat) (jaX jaF jaD ja7 jby jbf jaM jaY jap jaK jal jam jax jao ja6 jaV ja8 jae jag jaf ja0 jaP jaw jaI jaZ jaH jaS jan jaU jaE jar jaL jah jaB jaa jaz jaG jab ja2 jaq jai jaO jaA jat jau jav jaj jas jaJ jak jad jay jac : Value) (jaC : Int32) (f0_s : Nat → Int32) (Q : Int32 → Prop)  (C0 : cfx p s m args meth c cX11_cloverBy (some .int) wsX11_cloverBy RX11 5 A (dC, dI) (kT cyB cyI cyJ cyP)) : ∀ (n : Nat) (H : Heap) (locs : List Loc) (ls : Array Slot) (l1 l2 l3 l4 : Int32), va_P (dC, dI) vwCl (wd09_0 a0 jaX jaF jaD ja7 jby jbf jaM jaY jap jaK jal jam jax jao ja6 jaV ja8 jae jag jaf ja0 jaC jaP jaw jaI jaZ jaH jaS jan jaU jaE jar jaL jah jaB jaa jaz jaG jab ja2 a0_s jaq jai jaO jaA jat jau jav jaj jas jaJ jak jad jay jac a0_s cyI f0_s) H → va_D A (wd09_0 a0 jaX jaF jaD ja7 jby jbf jaM jaY jap jaK jal jam jax jao ja6 jaV ja8 jae jag jaf ja0 jaC jaP jaw jaI jaZ jaH jaS jan jaU jaE jar jaL jah jaB jaa jaz jaG jab ja2 a0_s jaq jai jaO jaA jat jau jav jaj jas jaJ jak jad jay jac a0_s cyI f0_s) → va_S A s.heap H locs → lv_has ls 5 [(0, .ref a0), (1, .int l1), (2, .int l2), (3, .int l3), (4, .int l4)] → wl_X11_cloverBy_5 jaC f0_s Q  n l1 l2 l3 l4 → W p l e (headSpec wsX11_cloverBy ({ frames := 1, cells := 0, slots := 0, locals := 23 })).room s m args below meth c H locs 0 0 (MQ below (va_Qi (fun (r : Int32) (_ : Unit) => Q r ) (cB (dC, dI) (kT cyB cyI cyJ cyP) A (fun u : Unit => ((wd09_0 a0 jaX jaF jaD ja7 jby jbf jaM jaY jap jaK jal jam jax jao ja6 jaV ja8 jae jag jaf ja0 jaC jaP jaw jaI jaZ jaH jaS jan jaU jaE jar jaL jah jaB jaa jaz jaG jab ja2 a0_s jaq jai jaO jaA jat jau jav jaj jas jaJ jak jad jay jac a0_s cyI f0_s) : va_W))) A) args s 0 0 A) (F0 m 5 ls []) := by
  obtain ⟨hx, hb, hr, hts, hown, hlocks, hml, hA, hK, hNw⟩ := id C0
  intro n
  induction n with
  | zero => intro H locs ls l1 l2 l3 l4 hP hD hS hl hw; exact False.elim hw
  | succ n ih =>
    intro H locs ls l1 l2 l3 l4 hP hD hS hl hw
    refine lv_iload hx hb (dt_of tkX11_cloverBy_k0 4 rfl) (lv_at hl 4 rfl) ?_
    refine lv_aload_n hx hb (dt_of tkX11_cloverBy_k0 5 rfl) rfl (lv_at hl 0 rfl) ?_
    refine va_get (D := (dC, dI)) (ci := 11) (v := .int jaC) (C := RX11) (T := TX11) (N := 55) hx hb hts ui_X11_cloverBy_X11 hown hK hP 0 rfl rfl 21 (by decide) (hts _ uw_X11_cloverBy_f169) (fun _ h9 => h9) rfl (dt_of tkX11_cloverBy_k0 6 rfl) ?_
    refine lv_icmp_ge (tgt := 50) hx hb (dt_of tkX11_cloverBy_k0 7 rfl) (by decide) (fun c1 => ?_) (fun c1 => ?_)
    · have hw := hw.1 c1
      refine lv_iload_n hx hb (dt_of tkX11_cloverBy_k24 13 rfl) rfl (lv_at hl 3 rfl) ?_
      exact ((W.iret (v := l3) hx hb hr (fun t ht hW => ⟨⟨l3, (), rfl, hw, by rw [ht]; exact hP, va_K.moved hW.alike hK, hD⟩, hS.F ht⟩) hS.2.2 (dt_of tkX11_cloverBy_k24 14 rfl)))
    · have hw := hw.2 c1
      refine lv_iload_n hx hb (dt_of tkX11_cloverBy_k0 8 rfl) rfl (lv_at hl 3 rfl) ?_
      refine lv_iload_n hx hb (dt_of tkX11_cloverBy_k0 9 rfl) rfl (lv_at hl 1 rfl) ?_
      refine lv_iload hx hb (dt_of tkX11_cloverBy_k0 10 rfl) (lv_at hl 4 rfl) ?_
      refine lv_ishr hx hb (dt_of tkX11_cloverBy_k0 11 rfl) ?_
      refine lv_iconst (v := 1) hx hb (dt_of tkX11_cloverBy_k0 12 rfl) (by decide) ?_
      refine lv_iand hx hb (dt_of tkX11_cloverBy_k0 13 rfl) ?_
      refine lv_aload_n hx hb (dt_of tkX11_cloverBy_k0 14 rfl) rfl (lv_at hl 0 rfl) ?_
      refine lv_iload hx hb (dt_of tkX11_cloverBy_k0 15 rfl) (lv_at hl 4 rfl) ?_
      obtain ⟨hCc, hPc, hDc, hFc⟩ := va_pick (ws' := (wd09_0 a0 jaX jaF jaD ja7 jby jbf jaM jaY jap jaK jal jam jax jao ja6 jaV ja8 jae jag jaf ja0 jaC jaP jaw jaI jaZ jaH jaS jan jaU jaE jar jaL jah jaB jaa jaz jaG jab ja2 a0_s jaq jai jaO jaA jat jau jav jaj jas jaJ jak jad jay jac a0_s cyI f0_s)) hP hD hS hA [0, 1] (by decide +kernel) rfl
      refine va_calli (va_runV (As := [.int l4]) (rest := [.int ((l1 >>> (l4 &&& 31)) &&& 1), .int l3]) ⟨hx, hb, hml, hown, hts⟩ (ck_X11_isOwed l dC dI cyB cyI cyJ cyP a0 a0_s H.size (jaX) (jaF) (jaD) (ja7) (jby) (jbf) (jaM) (jaY) (jap) (jaK) (jal) (jam) (jax) (jao) (ja6) (jaV) (ja8) (jae) (jag) (jaf) (ja0) (jaP) (jaw) (jaI) (jaZ) (jaH) (jaS) (jan) (jaU) (jaE) (jar) (jaL) (jah) (jaB) (jaa) (jaz) (jaG) (jab) (ja2) (jaq) (jai) (jaO) (jaA) (jat) (jau) (jav) (jaj) (jas) (jaJ) (jak) (jad) (jay) (jac) jaC f0_s  l4 hw) (cwV 1 hts gX11_cloverBy_X11_isOwed rfl rfl rfl (by decide +kernel) ⟨Nat.le_of_ble_eq_true rfl, Nat.le_of_ble_eq_true rfl⟩) ⟨cPc_blind, va_recv (q := (RX11, TX11, 55)) hK hPc (ci := 11) (q0 := 0) rfl rfl, cPc_pre hPc hK hDc hNw⟩ rfl rfl hl.1 rfl (lv_room (Nat.le_of_ble_eq_true rfl)) (dt_of tkX11_cloverBy_k24 0 rfl) ⟨Nat.le_of_ble_eq_true rfl, Nat.le_of_ble_eq_true rfl⟩) hS (fun q _ h => hFc q h) hFc (fun r2 u t H1 locs ht hvm hw hB hz1 hk1 hS => ?_)
      obtain ⟨hP1, hK1, hD1⟩ := hB
      rw [ht] at hP1
      obtain ⟨hP, hD⟩ := va_joinI (wr := []) (w1 := (wd09_0 a0 jaX jaF jaD ja7 jby jbf jaM jaY jap jaK jal jam jax jao ja6 jaV ja8 jae jag jaf ja0 jaC jaP jaw jaI jaZ jaH jaS jan jaU jaE jar jaL jah jaB jaa jaz jaG jab ja2 a0_s jaq jai jaO jaA jat jau jav jaj jas jaJ jak jad jay jac a0_s cyI f0_s)) (wn := (wd09_0 a0 jaX jaF jaD ja7 jby jbf jaM jaY jap jaK jal jam jax jao ja6 jaV ja8 jae jag jaf ja0 jaC jaP jaw jaI jaZ jaH jaS jan jaU jaE jar jaL jah jaB jaa jaz jaG jab ja2 a0_s jaq jai jaO jaA jat jau jav jaj jas jaJ jak jad jay jac a0_s cyI f0_s)) hP hD [0, 1] [] hCc rfl (by decide +kernel) (by decide +kernel) rfl hk1 hFc hP1 hD1
      generalize H1 = H at hP hS ⊢
      refine lv_iload_n hx hb (dt_of tkX11_cloverBy_k24 1 rfl) rfl (lv_at hl 2 rfl) ?_
      refine lv_icmp_ge (tgt := 40) hx hb (dt_of tkX11_cloverBy_k24 2 rfl) (by decide) (fun c3 => ?_) (fun c3 => ?_)
      · have hw := hw.1 c3
        refine lv_iload_n hx hb (dt_of tkX11_cloverBy_k24 7 rfl) rfl (lv_at hl 2 rfl) ?_
        exact kb_X11_cloverBy_41 dC dI cyB cyI cyJ cyP a0 a0_s jaX jaF jaD ja7 jby jbf jaM jaY jap jaK jal jam jax jao ja6 jaV ja8 jae jag jaf ja0 jaP jaw jaI jaZ jaH jaS jan jaU jaE jar jaL jah jaB jaa jaz jaG jab ja2 jaq jai jaO jaA jat jau jav jaj jas jaJ jak jad jay jac jaC f0_s Q (wl_X11_cloverBy_5 jaC f0_s Q  n) ih C0 _ _ _ l1 l2 l4 l3 ((l1 >>> (l4 &&& 31)) &&& 1) l2 hP hD hS (lv_sub hl [0, 1, 2, 4] rfl) hw
      · have hw := hw.2 c3
        refine lv_aload_n hx hb (dt_of tkX11_cloverBy_k24 3 rfl) rfl (lv_at hl 0 rfl) ?_
        refine lv_iload hx hb (dt_of tkX11_cloverBy_k24 4 rfl) (lv_at hl 4 rfl) ?_
        obtain ⟨hCc, hPc, hDc, hFc⟩ := va_pick (ws' := (wd09_0 a0 jaX jaF jaD ja7 jby jbf jaM jaY jap jaK jal jam jax jao ja6 jaV ja8 jae jag jaf ja0 jaC jaP jaw jaI jaZ jaH jaS jan jaU jaE jar jaL jah jaB jaa jaz jaG jab ja2 a0_s jaq jai jaO jaA jat jau jav jaj jas jaJ jak jad jay jac a0_s cyI f0_s)) hP hD hS hA [0, 1] (by decide +kernel) rfl
        refine va_calli (va_runV (As := [.int l4]) (rest := [.int ((l1 >>> (l4 &&& 31)) &&& 1), .int l3]) ⟨hx, hb, hml, hown, hts⟩ (ck_X11_isOwed l dC dI cyB cyI cyJ cyP a0 a0_s H.size (jaX) (jaF) (jaD) (ja7) (jby) (jbf) (jaM) (jaY) (jap) (jaK) (jal) (jam) (jax) (jao) (ja6) (jaV) (ja8) (jae) (jag) (jaf) (ja0) (jaP) (jaw) (jaI) (jaZ) (jaH) (jaS) (jan) (jaU) (jaE) (jar) (jaL) (jah) (jaB) (jaa) (jaz) (jaG) (jab) (ja2) (jaq) (jai) (jaO) (jaA) (jat) (jau) (jav) (jaj) (jas) (jaJ) (jak) (jad) (jay) (jac) jaC f0_s  l4 hw) (cwV 1 hts gX11_cloverBy_X11_isOwed rfl rfl rfl (by decide +kernel) ⟨Nat.le_of_ble_eq_true rfl, Nat.le_of_ble_eq_true rfl⟩) ⟨cPc_blind, va_recv (q := (RX11, TX11, 55)) hK hPc (ci := 11) (q0 := 0) rfl rfl, cPc_pre hPc hK hDc hNw⟩ rfl rfl hl.1 rfl (lv_room (Nat.le_of_ble_eq_true rfl)) (dt_of tkX11_cloverBy_k24 5 rfl) ⟨Nat.le_of_ble_eq_true rfl, Nat.le_of_ble_eq_true rfl⟩) hS (fun q _ h => hFc q h) hFc (fun r4 u t H1 locs ht hvm hw hB hz1 hk1 hS => ?_)
        obtain ⟨hP1, hK1, hD1⟩ := hB
        rw [ht] at hP1
        obtain ⟨hP, hD⟩ := va_joinI (wr := []) (w1 := (wd09_0 a0 jaX jaF jaD ja7 jby jbf jaM jaY jap jaK jal jam jax jao ja6 jaV ja8 jae jag jaf ja0 jaC jaP jaw jaI jaZ jaH jaS jan jaU jaE jar jaL jah jaB jaa jaz jaG jab ja2 a0_s jaq jai jaO jaA jat jau jav jaj jas jaJ jak jad jay jac a0_s cyI f0_s)) (wn := (wd09_0 a0 jaX jaF jaD ja7 jby jbf jaM jaY jap jaK jal jam jax jao ja6 jaV ja8 jae jag jaf ja0 jaC jaP jaw jaI jaZ jaH jaS jan jaU jaE jar jaL jah jaB jaa jaz jaG jab ja2 a0_s jaq jai jaO jaA jat jau jav jaj jas jaJ jak jad jay jac a0_s cyI f0_s)) hP hD [0, 1] [] hCc rfl (by decide +kernel) (by decide +kernel) rfl hk1 hFc hP1 hD1
        generalize H1 = H at hP hS ⊢
        refine lv_goto (tgt := 41) hx hb (dt_of tkX11_cloverBy_k24 6 rfl) (by decide) ?_
        exact kb_X11_cloverBy_41 dC dI cyB cyI cyJ cyP a0 a0_s jaX jaF jaD ja7 jby jbf jaM jaY jap jaK jal jam jax jao ja6 jaV ja8 jae jag jaf ja0 jaP jaw jaI jaZ jaH jaS jan jaU jaE jar jaL jah jaB jaa jaz jaG jab ja2 jaq jai jaO jaA jat jau jav jaj jas jaJ jak jad jay jac jaC f0_s Q (wl_X11_cloverBy_5 jaC f0_s Q  n) ih C0 _ _ _ l1 l2 l4 l3 ((l1 >>> (l4 &&& 31)) &&& 1) r4 hP hD hS (lv_sub hl [0, 1, 2, 4] rfl) hw
set_option maxHeartbeats 4000000 in
set_option maxRecDepth 100000 in
theorem ck_X11_cloverBy (l : Launch) (dC : Nat → ClassId) (dI : Nat → Nat → Nat) (cyB cyI cyJ cyP : ClassId) (a0 a0_s sz : Nat) (jaX jaF jaD ja7 jby jbf jaM jaY jap jaK jal jam jax jao ja6 jaV ja8 jae jag jaf ja0 jaP jaw jaI jaZ jaH jaS jan jaU jaE jar jaL jah jaB jaa jaz jaG jab ja2 jaq jai jaO jaA jat jau jav jaj jas jaJ jak jad jay jac : Value) (jaC : Int32) (f0_s : Nat → Int32)  (p1 p2 : Int32) {Q : Int32 → Prop} (hw : wq_X11_cloverBy jaC f0_s  p1 p2 Q) : Met l yX11_cloverBy wsX11_cloverBy ({ frames := 1, cells := 0, slots := 0, locals := 23 }) (va_Pc [.ref a0, .int p1, .int p2] (cPc (dC, dI) (kT cyB cyI cyJ cyP) (wd09_0 a0 jaX jaF jaD ja7 jby jbf jaM jaY jap jaK jal jam jax jao ja6 jaV ja8 jae jag jaf ja0 jaC jaP jaw jaI jaZ jaH jaS jan jaU jaE jar jaL jah jaB jaa jaz jaG jab ja2 a0_s jaq jai jaO jaA jat jau jav jaj jas jaJ jak jad jay jac a0_s cyI f0_s) sz)) (va_Qi (fun (r : Int32) (_ : Unit) => Q r ) (cB (dC, dI) (kT cyB cyI cyJ cyP) (va_A (wd09_0 a0 jaX jaF jaD ja7 jby jbf jaM jaY jap jaK jal jam jax jao ja6 jaV ja8 jae jag jaf ja0 jaC jaP jaw jaI jaZ jaH jaS jan jaU jaE jar jaL jah jaB jaa jaz jaG jab ja2 a0_s jaq jai jaO jaA jat jau jav jaj jas jaJ jak jad jay jac a0_s cyI f0_s) sz) (fun u : Unit => ((wd09_0 a0 jaX jaF jaD ja7 jby jbf jaM jaY jap jaK jal jam jax jao ja6 jaV ja8 jae jag jaf ja0 jaC jaP jaw jaI jaZ jaH jaS jan jaU jaE jar jaL jah jaB jaa jaz jaG jab ja2 a0_s jaq jai jaO jaA jat jau jav jaj jas jaJ jak jad jay jac a0_s cyI f0_s) : va_W))) (va_A (wd09_0 a0 jaX jaF jaD ja7 jby jbf jaM jaY jap jaK jal jam jax jao ja6 jaV ja8 jae jag jaf ja0 jaC jaP jaw jaI jaZ jaH jaS jan jaU jaE jar jaL jah jaB jaa jaz jaG jab ja2 a0_s jaq jai jaO jaA jat jau jav jaj jas jaJ jak jad jay jac a0_s cyI f0_s) sz)) 0 0 (va_A (wd09_0 a0 jaX jaF jaD ja7 jby jbf jaM jaY jap jaK jal jam jax jao ja6 jaV ja8 jae jag jaf ja0 jaC jaP jaw jaI jaZ jaH jaS jan jaU jaE jar jaL jah jaB jaa jaz jaG jab ja2 a0_s jaq jai jaO jaA jat jau jav jaj jas jaJ jak jad jay jac a0_s cyI f0_s) sz) := by
  refine Met.ofW (cc := cX11_cloverBy) (maxL := 5) (ret := (some .int)) (by decide) rfl ?_
  intro p e s m args below meth c s₁ B hml hv
  obtain ⟨rfl, hsz, hP, hK, hD0, hNw⟩ := hv
  have hx := B.exec
  have hb := B.bytes
  have hr := B.returns
  have hts := atoms_spec (ws := wsX11_cloverBy) B.pre
  have hown : s.vm.findClass RX11 = some m.cls := findClass_of_methodNamed B.named
  have hlocks := B.notSynchronized
  subst hsz
  have hD := hD0.self (sz := s.heap.size)
  generalize hAe : va_A (wd09_0 a0 jaX jaF jaD ja7 jby jbf jaM jaY jap jaK jal jam jax jao ja6 jaV ja8 jae jag jaf ja0 jaC jaP jaw jaI jaZ jaH jaS jan jaU jaE jar jaL jah jaB jaa jaz jaG jab ja2 a0_s jaq jai jaO jaA jat jau jav jaj jas jaJ jak jad jay jac a0_s cyI f0_s) s.heap.size = A at hD ⊢
  have hA : ∀ q : Nat, s.heap.size ≤ q → A q := fun q h => by rw [← hAe]; exact Or.inr h
  have hS : va_S A s.heap s.heap [] := va_S.rf
  have hP : va_P (dC, dI) vwCl (wd09_0 a0 jaX jaF jaD ja7 jby jbf jaM jaY jap jaK jal jam jax jao ja6 jaV ja8 jae jag jaf ja0 jaC jaP jaw jaI jaZ jaH jaS jan jaU jaE jar jaL jah jaB jaa jaz jaG jab ja2 a0_s jaq jai jaO jaA jat jau jav jaj jas jaJ jak jad jay jac a0_s cyI f0_s) s.heap := hP
  have hl := lv_entry ([.ref a0, .int p1, .int p2]) (n := 5) (Nat.le_of_ble_eq_true rfl)
  rw [lg_entry_eq]
  generalize (lg_sl ([.ref a0, .int p1, .int p2]) ++ List.replicate (5 - (lg_sl ([.ref a0, .int p1, .int p2])).length) Slot.unset).toArray = ls at hl ⊢
  have hl : lv_has ls 5 [(0, .ref a0), (1, .int p1), (2, .int p2)] := hl
  have C0 : cfx p s m _ meth c cX11_cloverBy (some .int) wsX11_cloverBy RX11 5 A (dC, dI) (kT cyB cyI cyJ cyP) := ⟨hx, hb, hr, hts, hown, hlocks, hml, hA, hK, hNw⟩
  clear hAe
  obtain ⟨H, hH⟩ : ∃ H, H = s.heap := ⟨_, rfl⟩
  rw [← hH] at hP ⊢
  have hS : va_S A s.heap H [] := by rw [hH]; exact va_S.rf
  have hS := hS
  refine lv_iconst (v := 0) hx hb (dt_of tkX11_cloverBy_k0 0 rfl) (by decide) ?_
  refine lv_istore_n (lv' := [(3, .int 0), (0, .ref a0), (1, .int p1), (2, .int p2)]) hx hb (dt_of tkX11_cloverBy_k0 1 rfl) rfl hl (by decide) rfl (fun ls hl => ?_)
  refine lv_iconst (v := 0) hx hb (dt_of tkX11_cloverBy_k0 2 rfl) (by decide) ?_
  refine lv_istore (lv' := [(4, .int 0), (3, .int 0), (0, .ref a0), (1, .int p1), (2, .int p2)]) hx hb (dt_of tkX11_cloverBy_k0 3 rfl) hl (by decide) rfl (fun ls hl => ?_)
  obtain ⟨n9, hw⟩ := hw
  exact kl_X11_cloverBy_5 dC dI cyB cyI cyJ cyP a0 a0_s jaX jaF jaD ja7 jby jbf jaM jaY jap jaK jal jam jax jao ja6 jaV ja8 jae jag jaf ja0 jaP jaw jaI jaZ jaH jaS jan jaU jaE jar jaL jah jaB jaa jaz jaG jab ja2 jaq jai jaO jaA jat jau jav jaj jas jaJ jak jad jay jac jaC f0_s Q  C0 n9 _ _ _ p1 p2 0 0 hP hD hS (lv_sub hl [2, 3, 4, 1, 0] rfl) hw
theorem ui_X11_clover_X11 : ∀ w ∈ u_ws RX11 TX11 55, w ∈ wsX11_clover := uiM mbX11_clover euX11 (by decide +kernel)
theorem uw_X11_clover_f169 : (.fieldLink RX11 169 "MarchHaresModel" "hares" "I" : Cond) ∈ wsX11_clover := mbX11_clover 520 (by decide +kernel)
theorem uw_X11_clover_f3 : (.fieldLink RX11 3 "MarchHaresModel" "thrown" "I" : Cond) ∈ wsX11_clover := mbX11_clover 589 (by decide +kernel)
set_option maxHeartbeats 4000000 in
set_option maxRecDepth 100000 in
theorem kl_X11_clover_64 {p : Program} {l : Launch} {e : Env} {s : State} {m : MethodId} {args : Array Value} {below : List Frame} {meth : Method} {c : Code} {A : Nat → Prop} (dC : Nat → ClassId) (dI : Nat → Nat → Nat) (cyB cyI cyJ cyP : ClassId) (a0 jaQ jaT a0_s : Nat) (jaD ja7 jby jbf jaM jaY jap jaK jal jam jax jao ja6 jaV ja8 jae jag jaf ja0 jaP jaw jaI jaZ jaH jaS jan jaU jaE jar jaL jah jaB jaa jaz jaG jab jaq jai jaO jaA jat jau jav jaj jas jaJ jak jad jay jac : Value) (jaC : Int32) (jb0 : Nat → Int32) (Q : Int32 → Int32 → (Nat → Int32) → (Nat → Int32) → Prop)  (C0 : cfx p s m args meth c cX11_clover (some .int) wsX11_clover RX11 5 A (dC, dI) (kT cyB cyI cyJ cyP)) : ∀ (n : Nat) (H : Heap) (locs : List Loc) (ls : Array Slot) (jbd : Int32) (ja9 f0_s : Nat → Int32) (l1 l2 l3 l4 : Int32), va_P (dC, dI) vwCl (wd09_1 a0 jbd jaQ jaD ja7 jby jbf jaM jaY jap jaK jal jam jax jao ja6 jaV ja8 jae jag jaf ja0 jaC jaP jaw jaI jaZ jaH jaS jan jaU jaE jar jaL jah jaB jaa jaz jaG jab jaT a0_s jaq jai jaO jaA jat jau jav jaj jas jaJ jak jad jay jac jaQ cyI ja9 jaT cyI jb0 a0_s cyI f0_s) H → va_D A (wd09_1 a0 jbd jaQ jaD ja7 jby jbf jaM jaY jap jaK jal jam jax jao ja6 jaV ja8 jae jag jaf ja0 jaC jaP jaw jaI jaZ jaH jaS jan jaU jaE jar jaL jah jaB jaa jaz jaG jab jaT a0_s jaq jai jaO jaA jat jau jav jaj jas jaJ jak jad jay jac jaQ cyI ja9 jaT cyI jb0 a0_s cyI f0_s) → va_S A s.heap H locs → lv_has ls 5 [(0, .ref a0), (1, .int l1), (2, .int l2), (3, .int l3), (4, .int l4)] → wl_X11_clover_64 jaC jb0 Q  n jbd ja9 f0_s l1 l2 l3 l4 → W p l e (headSpec wsX11_clover ({ frames := 2, cells := 0, slots := 0, locals := 47 })).room s m args below meth c H locs 0 0 (MQ below (va_Qi (fun (r : Int32) (u : Int32 × (Nat → Int32) × (Nat → Int32)) => Q r u.1 u.2.1 u.2.2) (cB (dC, dI) (kT cyB cyI cyJ cyP) A (fun u : Int32 × (Nat → Int32) × (Nat → Int32) => ((wd09_1 a0 u.1 jaQ jaD ja7 jby jbf jaM jaY jap jaK jal jam jax jao ja6 jaV ja8 jae jag jaf ja0 jaC jaP jaw jaI jaZ jaH jaS jan jaU jaE jar jaL jah jaB jaa jaz jaG jab jaT a0_s jaq jai jaO jaA jat jau jav jaj jas jaJ jak jad jay jac jaQ cyI u.2.1 jaT cyI jb0 a0_s cyI u.2.2) : va_W))) A) args s 0 0 A) (F0 m 64 ls []) := by
  obtain ⟨hx, hb, hr, hts, hown, hlocks, hml, hA, hK, hNw⟩ := id C0
  intro n
  induction n with
  | zero => intro H locs ls jbd ja9 f0_s l1 l2 l3 l4 hP hD hS hl hw; exact False.elim hw
  | succ n ih =>
    intro H locs ls jbd ja9 f0_s l1 l2 l3 l4 hP hD hS hl hw
    have hw : wq_X11_cloverBy jaC f0_s  l2 l4 (fun r14 => ((r14 ≤ l3 → ((¬ ((l2 >>> (l1 &&& 31)) &&& 1) = 0 → wq_X11_isOwed jaC f0_s  l1 (fun r17 => ((l4 ≤ r17 → (Q l4 jbd ja9 f0_s)) ∧ (¬ l4 ≤ r17 → wq_X11_isOwed jaC f0_s  l1 (fun r19 => (Q r19 jbd ja9 f0_s)))))) ∧ (((l2 >>> (l1 &&& 31)) &&& 1) = 0 → (Q 0 jbd ja9 f0_s)))) ∧ (¬ r14 ≤ l3 → ∀ x20 : Int32, x20 = l4 + (-1) → (wl_X11_clover_64 jaC jb0 Q  n jbd ja9 f0_s l1 l2 l3 x20)))) := hw
    refine lv_aload_n hx hb (dt_of tkX11_clover_k56 3 rfl) rfl (lv_at hl 0 rfl) ?_
    refine lv_iload_n hx hb (dt_of tkX11_clover_k56 4 rfl) rfl (lv_at hl 2 rfl) ?_
    refine lv_iload hx hb (dt_of tkX11_clover_k56 5 rfl) (lv_at hl 4 rfl) ?_
    obtain ⟨hCc, hPc, hDc, hFc⟩ := va_pick (ws' := (wd09_2 a0 jbd jaQ jaD ja7 jby jbf jaM jaY jap jaK jal jam jax jao ja6 jaV ja8 jae jag jaf ja0 jaC jaP jaw jaI jaZ jaH jaS jan jaU jaE jar jaL jah jaB jaa jaz jaG jab jaT a0_s jaq jai jaO jaA jat jau jav jaj jas jaJ jak jad jay jac a0_s cyI f0_s)) hP hD hS hA [0, 3] (by decide +kernel) rfl
    refine va_calli (va_runV (As := [.int l2, .int l4]) (rest := []) ⟨hx, hb, hml, hown, hts⟩ (ck_X11_cloverBy l dC dI cyB cyI cyJ cyP a0 a0_s H.size (.int jbd) (.ref jaQ) (jaD) (ja7) (jby) (jbf) (jaM) (jaY) (jap) (jaK) (jal) (jam) (jax) (jao) (ja6) (jaV) (ja8) (jae) (jag) (jaf) (ja0) (jaP) (jaw) (jaI) (jaZ) (jaH) (jaS) (jan) (jaU) (jaE) (jar) (jaL) (jah) (jaB) (jaa) (jaz) (jaG) (jab) (.ref jaT) (jaq) (jai) (jaO) (jaA) (jat) (jau) (jav) (jaj) (jas) (jaJ) (jak) (jad) (jay) (jac) jaC f0_s  l2 l4 hw) (cwV 2 hts gX11_clover_X11_cloverBy rfl rfl rfl (by decide +kernel) ⟨Nat.le_of_ble_eq_true rfl, Nat.le_of_ble_eq_true rfl⟩) ⟨cPc_blind, va_recv (q := (RX11, TX11, 55)) hK hPc (ci := 11) (q0 := 0) rfl rfl, cPc_pre hPc hK hDc hNw⟩ rfl rfl hl.1 rfl (lv_room (Nat.le_of_ble_eq_true rfl)) (dt_of tkX11_clover_k56 6 rfl) ⟨Nat.le_of_ble_eq_true rfl, Nat.le_of_ble_eq_true rfl⟩) hS (fun q _ h => hFc q h) hFc (fun r14 u t H1 locs ht hvm hw hB hz1 hk1 hS => ?_)
    obtain ⟨hP1, hK1, hD1⟩ := hB
    rw [ht] at hP1
    obtain ⟨hP, hD⟩ := va_joinN (wr := (wd09_3 jaQ cyI ja9 jaT cyI jb0)) (w1 := (wd09_2 a0 jbd jaQ jaD ja7 jby jbf jaM jaY jap jaK jal jam jax jao ja6 jaV ja8 jae jag jaf ja0 jaC jaP jaw jaI jaZ jaH jaS jan jaU jaE jar jaL jah jaB jaa jaz jaG jab jaT a0_s jaq jai jaO jaA jat jau jav jaj jas jaJ jak jad jay jac a0_s cyI f0_s)) (wn := (wd09_1 a0 jbd jaQ jaD ja7 jby jbf jaM jaY jap jaK jal jam jax jao ja6 jaV ja8 jae jag jaf ja0 jaC jaP jaw jaI jaZ jaH jaS jan jaU jaE jar jaL jah jaB jaa jaz jaG jab jaT a0_s jaq jai jaO jaA jat jau jav jaj jas jaJ jak jad jay jac jaQ cyI ja9 jaT cyI jb0 a0_s cyI f0_s)) hP hD [0, 3] [1, 2] [2, 0, 1, 3] hCc rfl (by decide +kernel) (by decide +kernel) (by decide +kernel) rfl hk1 hFc hP1 hD1
    generalize H1 = H at hP hS ⊢
    refine lv_iload_n hx hb (dt_of tkX11_clover_k56 7 rfl) rfl (lv_at hl 3 rfl) ?_
    refine lv_icmp_le (tgt := 81) hx hb (dt_of tkX11_clover_k56 8 rfl) (by decide) (fun c15 => ?_) (fun c15 => ?_)
    · have hw := hw.1 c15
      refine lv_iload_n hx hb (dt_of tkX11_clover_k56 11 rfl) rfl (lv_at hl 2 rfl) ?_
      refine lv_iload_n hx hb (dt_of tkX11_clover_k56 12 rfl) rfl (lv_at hl 1 rfl) ?_
      refine lv_ishr hx hb (dt_of tkX11_clover_k56 13 rfl) ?_
      refine lv_iconst (v := 1) hx hb (dt_of tkX11_clover_k56 14 rfl) (by decide) ?_
      refine lv_iand hx hb (dt_of tkX11_clover_k56 15 rfl) ?_
      refine lv_if_ne (tgt := 91) hx hb (dt_of tkX11_clover_k86 0 rfl) (by decide) (fun c16 => ?_) (fun c16 => ?_)
      · have hw := hw.1 c16
        refine lv_aload_n hx hb (dt_of tkX11_clover_k86 3 rfl) rfl (lv_at hl 0 rfl) ?_
        refine lv_iload_n hx hb (dt_of tkX11_clover_k86 4 rfl) rfl (lv_at hl 1 rfl) ?_
        obtain ⟨hCc, hPc, hDc, hFc⟩ := va_pick (ws' := (wd09_2 a0 jbd jaQ jaD ja7 jby jbf jaM jaY jap jaK jal jam jax jao ja6 jaV ja8 jae jag jaf ja0 jaC jaP jaw jaI jaZ jaH jaS jan jaU jaE jar jaL jah jaB jaa jaz jaG jab jaT a0_s jaq jai jaO jaA jat jau jav jaj jas jaJ jak jad jay jac a0_s cyI f0_s)) hP hD hS hA [0, 3] (by decide +kernel) rfl
        refine va_calli (va_runV (As := [.int l1]) (rest := []) ⟨hx, hb, hml, hown, hts⟩ (ck_X11_isOwed l dC dI cyB cyI cyJ cyP a0 a0_s H.size (.int jbd) (.ref jaQ) (jaD) (ja7) (jby) (jbf) (jaM) (jaY) (jap) (jaK) (jal) (jam) (jax) (jao) (ja6) (jaV) (ja8) (jae) (jag) (jaf) (ja0) (jaP) (jaw) (jaI) (jaZ) (jaH) (jaS) (jan) (jaU) (jaE) (jar) (jaL) (jah) (jaB) (jaa) (jaz) (jaG) (jab) (.ref jaT) (jaq) (jai) (jaO) (jaA) (jat) (jau) (jav) (jaj) (jas) (jaJ) (jak) (jad) (jay) (jac) jaC f0_s  l1 hw) (cwV 1 hts gX11_clover_X11_isOwed rfl rfl rfl (by decide +kernel) ⟨Nat.le_of_ble_eq_true rfl, Nat.le_of_ble_eq_true rfl⟩) ⟨cPc_blind, va_recv (q := (RX11, TX11, 55)) hK hPc (ci := 11) (q0 := 0) rfl rfl, cPc_pre hPc hK hDc hNw⟩ rfl rfl hl.1 rfl (lv_room (Nat.le_of_ble_eq_true rfl)) (dt_of tkX11_clover_k86 5 rfl) ⟨Nat.le_of_ble_eq_true rfl, Nat.le_of_ble_eq_true rfl⟩) hS (fun q _ h => hFc q h) hFc (fun r17 u t H1 locs ht hvm hw hB hz1 hk1 hS => ?_)
        obtain ⟨hP1, hK1, hD1⟩ := hB
        rw [ht] at hP1
        obtain ⟨hP, hD⟩ := va_joinN (wr := (wd09_3 jaQ cyI ja9 jaT cyI jb0)) (w1 := (wd09_2 a0 jbd jaQ jaD ja7 jby jbf jaM jaY jap jaK jal jam jax jao ja6 jaV ja8 jae jag jaf ja0 jaC jaP jaw jaI jaZ jaH jaS jan jaU jaE jar jaL jah jaB jaa jaz jaG jab jaT a0_s jaq jai jaO jaA jat jau jav jaj jas jaJ jak jad jay jac a0_s cyI f0_s)) (wn := (wd09_1 a0 jbd jaQ jaD ja7 jby jbf jaM jaY jap jaK jal jam jax jao ja6 jaV ja8 jae jag jaf ja0 jaC jaP jaw jaI jaZ jaH jaS jan jaU jaE jar jaL jah jaB jaa jaz jaG jab jaT a0_s jaq jai jaO jaA jat jau jav jaj jas jaJ jak jad jay jac jaQ cyI ja9 jaT cyI jb0 a0_s cyI f0_s)) hP hD [0, 3] [1, 2] [2, 0, 1, 3] hCc rfl (by decide +kernel) (by decide +kernel) (by decide +kernel) rfl hk1 hFc hP1 hD1
        generalize H1 = H at hP hS ⊢
        refine lv_iload hx hb (dt_of tkX11_clover_k86 6 rfl) (lv_at hl 4 rfl) ?_
        refine lv_icmp_ge (tgt := 109) hx hb (dt_of tkX11_clover_k86 7 rfl) (by decide) (fun c18 => ?_) (fun c18 => ?_)
        · have hw := hw.1 c18
          refine lv_iload hx hb (dt_of tkX11_clover_k86 12 rfl) (lv_at hl 4 rfl) ?_
          exact ((W.iret (v := l4) hx hb hr (fun t ht hW => ⟨⟨l4, (jbd, ja9, f0_s), rfl, hw, by rw [ht]; exact hP, va_K.moved hW.alike hK, hD⟩, hS.F ht⟩) hS.2.2 (dt_of tkX11_clover_k86 13 rfl)))
        · have hw := hw.2 c18
          refine lv_aload_n hx hb (dt_of tkX11_clover_k86 8 rfl) rfl (lv_at hl 0 rfl) ?_
          refine lv_iload_n hx hb (dt_of tkX11_clover_k86 9 rfl) rfl (lv_at hl 1 rfl) ?_
          obtain ⟨hCc, hPc, hDc, hFc⟩ := va_pick (ws' := (wd09_2 a0 jbd jaQ jaD ja7 jby jbf jaM jaY jap jaK jal jam jax jao ja6 jaV ja8 jae jag jaf ja0 jaC jaP jaw jaI jaZ jaH jaS jan jaU jaE jar jaL jah jaB jaa jaz jaG jab jaT a0_s jaq jai jaO jaA jat jau jav jaj jas jaJ jak jad jay jac a0_s cyI f0_s)) hP hD hS hA [0, 3] (by decide +kernel) rfl
          refine va_calli (va_runV (As := [.int l1]) (rest := []) ⟨hx, hb, hml, hown, hts⟩ (ck_X11_isOwed l dC dI cyB cyI cyJ cyP a0 a0_s H.size (.int jbd) (.ref jaQ) (jaD) (ja7) (jby) (jbf) (jaM) (jaY) (jap) (jaK) (jal) (jam) (jax) (jao) (ja6) (jaV) (ja8) (jae) (jag) (jaf) (ja0) (jaP) (jaw) (jaI) (jaZ) (jaH) (jaS) (jan) (jaU) (jaE) (jar) (jaL) (jah) (jaB) (jaa) (jaz) (jaG) (jab) (.ref jaT) (jaq) (jai) (jaO) (jaA) (jat) (jau) (jav) (jaj) (jas) (jaJ) (jak) (jad) (jay) (jac) jaC f0_s  l1 hw) (cwV 1 hts gX11_clover_X11_isOwed rfl rfl rfl (by decide +kernel) ⟨Nat.le_of_ble_eq_true rfl, Nat.le_of_ble_eq_true rfl⟩) ⟨cPc_blind, va_recv (q := (RX11, TX11, 55)) hK hPc (ci := 11) (q0 := 0) rfl rfl, cPc_pre hPc hK hDc hNw⟩ rfl rfl hl.1 rfl (lv_room (Nat.le_of_ble_eq_true rfl)) (dt_of tkX11_clover_k86 10 rfl) ⟨Nat.le_of_ble_eq_true rfl, Nat.le_of_ble_eq_true rfl⟩) hS (fun q _ h => hFc q h) hFc (fun r19 u t H1 locs ht hvm hw hB hz1 hk1 hS => ?_)
          obtain ⟨hP1, hK1, hD1⟩ := hB
          rw [ht] at hP1
          obtain ⟨hP, hD⟩ := va_joinN (wr := (wd09_3 jaQ cyI ja9 jaT cyI jb0)) (w1 := (wd09_2 a0 jbd jaQ jaD ja7 jby jbf jaM jaY jap jaK jal jam jax jao ja6 jaV ja8 jae jag jaf ja0 jaC jaP jaw jaI jaZ jaH jaS jan jaU jaE jar jaL jah jaB jaa jaz jaG jab jaT a0_s jaq jai jaO jaA jat jau jav jaj jas jaJ jak jad jay jac a0_s cyI f0_s)) (wn := (wd09_1 a0 jbd jaQ jaD ja7 jby jbf jaM jaY jap jaK jal jam jax jao ja6 jaV ja8 jae jag jaf ja0 jaC jaP jaw jaI jaZ jaH jaS jan jaU jaE jar jaL jah jaB jaa jaz jaG jab jaT a0_s jaq jai jaO jaA jat jau jav jaj jas jaJ jak jad jay jac jaQ cyI ja9 jaT cyI jb0 a0_s cyI f0_s)) hP hD [0, 3] [1, 2] [2, 0, 1, 3] hCc rfl (by decide +kernel) (by decide +kernel) (by decide +kernel) rfl hk1 hFc hP1 hD1
          generalize H1 = H at hP hS ⊢
          refine lv_goto (tgt := 111) hx hb (dt_of tkX11_clover_k86 11 rfl) (by decide) ?_
          exact ((W.iret (v := r19) hx hb hr (fun t ht hW => ⟨⟨r19, (jbd, ja9, f0_s), rfl, hw, by rw [ht]; exact hP, va_K.moved hW.alike hK, hD⟩, hS.F ht⟩) hS.2.2 (dt_of tkX11_clover_k86 13 rfl)))
      · have hw := hw.2 c16
        refine lv_iconst (v := 0) hx hb (dt_of tkX11_clover_k86 1 rfl) (by decide) ?_
        exact ((W.iret (v := 0) hx hb hr (fun t ht hW => ⟨⟨0, (jbd, ja9, f0_s), rfl, hw, by rw [ht]; exact hP, va_K.moved hW.alike hK, hD⟩, hS.F ht⟩) hS.2.2 (dt_of tkX11_clover_k86 2 rfl)))
    · have hw := hw.2 c15
      obtain ⟨x20, ex20⟩ : ∃ y : Int32, y = l4 + (-1) := ⟨_, rfl⟩
      have hw := hw x20 ex20
      refine lv_iinc (v := x20) (lv' := [(4, .int x20), (0, .ref a0), (1, .int l1), (2, .int l2), (3, .int l3)]) hx hb (dt_of tkX11_clover_k56 9 rfl) hl (k := 4) rfl (by rw [ex20]; rfl) (by decide) rfl (fun ls hl => ?_)
      refine lv_goto (tgt := 64) hx hb (dt_of tkX11_clover_k56 10 rfl) (by decide) ?_
      exact ih _ _ _ jbd ja9 f0_s l1 l2 l3 x20 hP hD hS (lv_sub hl [1, 2, 3, 4, 0] rfl) hw
set_option maxHeartbeats 4000000 in
set_option maxRecDepth 100000 in
theorem kb_X11_clover_45 {p : Program} {l : Launch} {e : Env} {s : State} {m : MethodId} {args : Array Value} {below : List Frame} {meth : Method} {c : Code} {A : Nat → Prop} (dC : Nat → ClassId) (dI : Nat → Nat → Nat) (cyB cyI cyJ cyP : ClassId) (a0 jaQ jaT a0_s : Nat) (jaD ja7 jby jbf jaM jaY jap jaK jal jam jax jao ja6 jaV ja8 jae jag jaf ja0 jaP jaw jaI jaZ jaH jaS jan jaU jaE jar jaL jah jaB jaa jaz jaG jab jaq jai jaO jaA jat jau jav jaj jas jaJ jak jad jay jac : Value) (jaC : Int32) (jb0 : Nat → Int32) (Q : Int32 → Int32 → (Nat → Int32) → (Nat → Int32) → Prop)  (C0 : cfx p s m args meth c cX11_clover (some .int) wsX11_clover RX11 5 A (dC, dI) (kT cyB cyI cyJ cyP)) : ∀ (H : Heap) (locs : List Loc) (ls : Array Slot) (jbd : Int32) (ja9 f0_s : Nat → Int32) (l1 l2 l3 s1 : Int32), va_P (dC, dI) vwCl (wd09_1 a0 jbd jaQ jaD ja7 jby jbf jaM jaY jap jaK jal jam jax jao ja6 jaV ja8 jae jag jaf ja0 jaC jaP jaw jaI jaZ jaH jaS jan jaU jaE jar jaL jah jaB jaa jaz jaG jab jaT a0_s jaq jai jaO jaA jat jau jav jaj jas jaJ jak jad jay jac jaQ cyI ja9 jaT cyI jb0 a0_s cyI f0_s) H → va_D A (wd09_1 a0 jbd jaQ jaD ja7 jby jbf jaM jaY jap jaK jal jam jax jao ja6 jaV ja8 jae jag jaf ja0 jaC jaP jaw jaI jaZ jaH jaS jan jaU jaE jar jaL jah jaB jaa jaz jaG jab jaT a0_s jaq jai jaO jaA jat jau jav jaj jas jaJ jak jad jay jac jaQ cyI ja9 jaT cyI jb0 a0_s cyI f0_s) → va_S A s.heap H locs → lv_has ls 5 [(0, .ref a0), (1, .int l1), (2, .int l2), (3, .int l3)] → wb_X11_clover_45 jaC jb0 Q  jbd ja9 f0_s l1 l2 l3 s1 → W p l e (headSpec wsX11_clover ({ frames := 2, cells := 0, slots := 0, locals := 47 })).room s m args below meth c H locs 0 0 (MQ below (va_Qi (fun (r : Int32) (u : Int32 × (Nat → Int32) × (Nat → Int32)) => Q r u.1 u.2.1 u.2.2) (cB (dC, dI) (kT cyB cyI cyJ cyP) A (fun u : Int32 × (Nat → Int32) × (Nat → Int32) => ((wd09_1 a0 u.1 jaQ jaD ja7 jby jbf jaM jaY jap jaK jal jam jax jao ja6 jaV ja8 jae jag jaf ja0 jaC jaP jaw jaI jaZ jaH jaS jan jaU jaE jar jaL jah jaB jaa jaz jaG jab jaT a0_s jaq jai jaO jaA jat jau jav jaj jas jaJ jak jad jay jac jaQ cyI u.2.1 jaT cyI jb0 a0_s cyI u.2.2) : va_W))) A) args s 0 0 A) (F0 m 45 ls [.int s1, .ref a0]) := by
  obtain ⟨hx, hb, hr, hts, hown, hlocks, hml, hA, hK, hNw⟩ := id C0
  intro H locs ls jbd ja9 f0_s l1 l2 l3 s1 hP hD hS hl hw
  refine lv_iconst (v := 2) hx hb (dt_of tkX11_clover_k26 9 rfl) (by decide) ?_
  refine lv_iconst (v := 1) hx hb (dt_of tkX11_clover_k26 10 rfl) (by decide) ?_
  obtain ⟨hCc, hPc, hDc, hFc⟩ := va_pick (ws' := (wd09_4 a0 jbd jaQ jaD ja7 jby jbf jaM jaY jap jaK jal jam jax jao ja6 jaV ja8 jae jag jaf ja0 jaC jaP jaw jaI jaZ jaH jaS jan jaU jaE jar jaL jah jaB jaa jaz jaG jab jaT a0_s jaq jai jaO jaA jat jau jav jaj jas jaJ jak jad jay jac jaQ cyI ja9)) hP hD hS hA [0, 1] (by decide +kernel) rfl
  refine va_calli (va_runV (As := [.int s1, .int 2, .int 1]) (rest := []) ⟨hx, hb, hml, hown, hts⟩ (ck_X11_may l dC dI cyB cyI cyJ cyP a0 jaQ H.size (jaD) (ja7) (jby) (jbf) (jaM) (jaY) (jap) (jaK) (jal) (jam) (jax) (jao) (ja6) (jaV) (ja8) (jae) (jag) (jaf) (ja0) (.int jaC) (jaP) (jaw) (jaI) (jaZ) (jaH) (jaS) (jan) (jaU) (jaE) (jar) (jaL) (jah) (jaB) (jaa) (jaz) (jaG) (jab) (.ref jaT) (.ref a0_s) (jaq) (jai) (jaO) (jaA) (jat) (jau) (jav) (jaj) (jas) (jaJ) (jak) (jad) (jay) (jac)  jbd ja9 s1 2 1 hw) (cwV 3 hts gX11_clover_X11_may rfl rfl rfl (by decide +kernel) ⟨Nat.le_of_ble_eq_true rfl, Nat.le_of_ble_eq_true rfl⟩) ⟨cPc_blind, va_recv (q := (RX11, TX11, 55)) hK hPc (ci := 11) (q0 := 0) rfl rfl, cPc_pre hPc hK hDc hNw⟩ rfl rfl hl.1 rfl (lv_room (Nat.le_of_ble_eq_true rfl)) (dt_of tkX11_clover_k26 11 rfl) ⟨Nat.le_of_ble_eq_true rfl, Nat.le_of_ble_eq_true rfl⟩) hS (fun q _ h => hFc q h) hFc (fun r11 u t H1 locs ht hvm hw hB hz1 hk1 hS => ?_)
  obtain ⟨x9, f10⟩ := u
  obtain ⟨hP1, hK1, hD1⟩ := hB
  rw [ht] at hP1
  obtain ⟨hP, hD⟩ := va_joinN (wr := (wd09_5 jaT cyI jb0 a0_s cyI f0_s)) (w1 := (wd09_4 a0 x9 jaQ jaD ja7 jby jbf jaM jaY jap jaK jal jam jax jao ja6 jaV ja8 jae jag jaf ja0 jaC jaP jaw jaI jaZ jaH jaS jan jaU jaE jar jaL jah jaB jaa jaz jaG jab jaT a0_s jaq jai jaO jaA jat jau jav jaj jas jaJ jak jad jay jac jaQ cyI f10)) (wn := (wd09_1 a0 x9 jaQ jaD ja7 jby jbf jaM jaY jap jaK jal jam jax jao ja6 jaV ja8 jae jag jaf ja0 jaC jaP jaw jaI jaZ jaH jaS jan jaU jaE jar jaL jah jaB jaa jaz jaG jab jaT a0_s jaq jai jaO jaA jat jau jav jaj jas jaJ jak jad jay jac jaQ cyI f10 jaT cyI jb0 a0_s cyI f0_s)) hP hD [0, 1] [2, 3] [2, 3, 0, 1] hCc rfl (by decide +kernel) (by decide +kernel) (by decide +kernel) rfl hk1 hFc hP1 hD1
  generalize H1 = H at hP hS ⊢
  refine lv_if_ne (tgt := 55) hx hb (dt_of tkX11_clover_k26 12 rfl) (by decide) (fun c12 => ?_) (fun c12 => ?_)
  · have hw := hw.1 c12
    refine lv_aload_n hx hb (dt_of tkX11_clover_k26 15 rfl) rfl (lv_at hl 0 rfl) ?_
    obtain ⟨hCc, hPc, hDc, hFc⟩ := va_pick (ws' := (wd09_6 a0 x9 jaQ jaD ja7 jby jbf jaM jaY jap jaK jal jam jax jao ja6 jaV ja8 jae jag jaf ja0 jaC jaP jaw jaI jaZ jaH jaS jan jaU jaE jar jaL jah jaB jaa jaz jaG jab jaT a0_s jaq jai jaO jaA jat jau jav jaj jas jaJ jak jad jay jac jaT cyI jb0 a0_s cyI f0_s)) hP hD hS hA [0, 2, 3] (by decide +kernel) rfl
    refine va_callv (va_runV (As := []) (rest := []) ⟨hx, hb, hml, hown, hts⟩ (ck_X11_take l dC dI cyB cyI cyJ cyP a0 jaT a0_s H.size (.int x9) (.ref jaQ) (jaD) (ja7) (jby) (jbf) (jaM) (jaY) (jap) (jaK) (jal) (jam) (jax) (jao) (ja6) (jaV) (ja8) (jae) (jag) (jaf) (ja0) (.int jaC) (jaP) (jaw) (jaI) (jaZ) (jaH) (jaS) (jan) (jaU) (jaE) (jar) (jaL) (jah) (jaB) (jaa) (jaz) (jaG) (jab) (jaq) (jai) (jaO) (jaA) (jat) (jau) (jav) (jaj) (jas) (jaJ) (jak) (jad) (jay) (jac) jb0 f0_s  hw) (cwV 0 hts gX11_clover_X11_take rfl rfl rfl (by decide +kernel) ⟨Nat.le_of_ble_eq_true rfl, Nat.le_of_ble_eq_true rfl⟩) ⟨cPc_blind, va_recv (q := (RX11, TX11, 55)) hK hPc (ci := 11) (q0 := 0) rfl rfl, cPc_pre hPc hK hDc hNw⟩ rfl rfl hl.1 rfl (lv_room (Nat.le_of_ble_eq_true rfl)) (dt_of tkX11_clover_k56 0 rfl) ⟨Nat.le_of_ble_eq_true rfl, Nat.le_of_ble_eq_true rfl⟩) hS (fun q _ h => hFc q h) hFc (fun u t H1 locs ht hvm hw hB hz1 hk1 hS => ?_)
    obtain ⟨f13, rfl⟩ : ∃ z, z = u := ⟨_, rfl⟩
    obtain ⟨hP1, hK1, hD1⟩ := hB
    rw [ht] at hP1
    obtain ⟨hP, hD⟩ := va_joinN (wr := [(jaQ, .inl (cyI, 2, .inl f10))]) (w1 := (wd09_6 a0 x9 jaQ jaD ja7 jby jbf jaM jaY jap jaK jal jam jax jao ja6 jaV ja8 jae jag jaf ja0 jaC jaP jaw jaI jaZ jaH jaS jan jaU jaE jar jaL jah jaB jaa jaz jaG jab jaT a0_s jaq jai jaO jaA jat jau jav jaj jas jaJ jak jad jay jac jaT cyI jb0 a0_s cyI f13)) (wn := (wd09_1 a0 x9 jaQ jaD ja7 jby jbf jaM jaY jap jaK jal jam jax jao ja6 jaV ja8 jae jag jaf ja0 jaC jaP jaw jaI jaZ jaH jaS jan jaU jaE jar jaL jah jaB jaa jaz jaG jab jaT a0_s jaq jai jaO jaA jat jau jav jaj jas jaJ jak jad jay jac jaQ cyI f10 jaT cyI jb0 a0_s cyI f13)) hP hD [0, 2, 3] [1] [1, 0, 2, 3] hCc rfl (by decide +kernel) (by decide +kernel) (by decide +kernel) rfl hk1 hFc hP1 hD1
    generalize H1 = H at hP hS ⊢
    refine lv_sipush (v := 495) hx hb (dt_of tkX11_clover_k56 1 rfl) (by decide) ?_
    refine lv_istore (lv' := [(4, .int 495), (0, .ref a0), (1, .int l1), (2, .int l2), (3, .int l3)]) hx hb (dt_of tkX11_clover_k56 2 rfl) hl (by decide) rfl (fun ls hl => ?_)
    obtain ⟨n9, hw⟩ := hw
    exact kl_X11_clover_64 dC dI cyB cyI cyJ cyP a0 jaQ jaT a0_s jaD ja7 jby jbf jaM jaY jap jaK jal jam jax jao ja6 jaV ja8 jae jag jaf ja0 jaP jaw jaI jaZ jaH jaS jan jaU jaE jar jaL jah jaB jaa jaz jaG jab jaq jai jaO jaA jat jau jav jaj jas jaJ jak jad jay jac jaC jb0 Q  C0 n9 _ _ _ x9 f10 f13 l1 l2 l3 495 hP hD hS (lv_sub hl [1, 2, 3, 4, 0] rfl) hw
  · have hw := hw.2 c12
    refine lv_iconst (v := 0) hx hb (dt_of tkX11_clover_k26 13 rfl) (by decide) ?_
    exact ((W.iret (v := 0) hx hb hr (fun t ht hW => ⟨⟨0, (x9, f10, f0_s), rfl, hw, by rw [ht]; exact hP, va_K.moved hW.alike hK, hD⟩, hS.F ht⟩) hS.2.2 (dt_of tkX11_clover_k26 14 rfl)))
set_option maxHeartbeats 4000000 in
set_option maxRecDepth 100000 in
theorem kb_X11_clover_44 {p : Program} {l : Launch} {e : Env} {s : State} {m : MethodId} {args : Array Value} {below : List Frame} {meth : Method} {c : Code} {A : Nat → Prop} (dC : Nat → ClassId) (dI : Nat → Nat → Nat) (cyB cyI cyJ cyP : ClassId) (a0 jaQ jaT a0_s : Nat) (jaD ja7 jby jbf jaM jaY jap jaK jal jam jax jao ja6 jaV ja8 jae jag jaf ja0 jaP jaw jaI jaZ jaH jaS jan jaU jaE jar jaL jah jaB jaa jaz jaG jab jaq jai jaO jaA jat jau jav jaj jas jaJ jak jad jay jac : Value) (jaC : Int32) (jb0 : Nat → Int32) (Q : Int32 → Int32 → (Nat → Int32) → (Nat → Int32) → Prop)  (C0 : cfx p s m args meth c cX11_clover (some .int) wsX11_clover RX11 5 A (dC, dI) (kT cyB cyI cyJ cyP)) : ∀ (H : Heap) (locs : List Loc) (ls : Array Slot) (jbd : Int32) (ja9 f0_s : Nat → Int32) (l1 l2 l3 : Int32), va_P (dC, dI) vwCl (wd09_1 a0 jbd jaQ jaD ja7 jby jbf jaM jaY jap jaK jal jam jax jao ja6 jaV ja8 jae jag jaf ja0 jaC jaP jaw jaI jaZ jaH jaS jan jaU jaE jar jaL jah jaB jaa jaz jaG jab jaT a0_s jaq jai jaO jaA jat jau jav jaj jas jaJ jak jad jay jac jaQ cyI ja9 jaT cyI jb0 a0_s cyI f0_s) H → va_D A (wd09_1 a0 jbd jaQ jaD ja7 jby jbf jaM jaY jap jaK jal jam jax jao ja6 jaV ja8 jae jag jaf ja0 jaC jaP jaw jaI jaZ jaH jaS jan jaU jaE jar jaL jah jaB jaa jaz jaG jab jaT a0_s jaq jai jaO jaA jat jau jav jaj jas jaJ jak jad jay jac jaQ cyI ja9 jaT cyI jb0 a0_s cyI f0_s) → va_S A s.heap H locs → lv_has ls 5 [(0, .ref a0), (1, .int l1), (2, .int l2), (3, .int l3)] → wb_X11_clover_44 jaC jb0 Q  jbd ja9 f0_s l1 l2 l3 → W p l e (headSpec wsX11_clover ({ frames := 2, cells := 0, slots := 0, locals := 47 })).room s m args below meth c H locs 0 0 (MQ below (va_Qi (fun (r : Int32) (u : Int32 × (Nat → Int32) × (Nat → Int32)) => Q r u.1 u.2.1 u.2.2) (cB (dC, dI) (kT cyB cyI cyJ cyP) A (fun u : Int32 × (Nat → Int32) × (Nat → Int32) => ((wd09_1 a0 u.1 jaQ jaD ja7 jby jbf jaM jaY jap jaK jal jam jax jao ja6 jaV ja8 jae jag jaf ja0 jaC jaP jaw jaI jaZ jaH jaS jan jaU jaE jar jaL jah jaB jaa jaz jaG jab jaT a0_s jaq jai jaO jaA jat jau jav jaj jas jaJ jak jad jay jac jaQ cyI u.2.1 jaT cyI jb0 a0_s cyI u.2.2) : va_W))) A) args s 0 0 A) (F0 m 44 ls [.ref a0]) := by
  obtain ⟨hx, hb, hr, hts, hown, hlocks, hml, hA, hK, hNw⟩ := id C0
  intro H locs ls jbd ja9 f0_s l1 l2 l3 hP hD hS hl hw
  refine lv_iconst (v := 0) hx hb (dt_of tkX11_clover_k26 8 rfl) (by decide) ?_
  exact kb_X11_clover_45 dC dI cyB cyI cyJ cyP a0 jaQ jaT a0_s jaD ja7 jby jbf jaM jaY jap jaK jal jam jax jao ja6 jaV ja8 jae jag jaf ja0 jaP jaw jaI jaZ jaH jaS jan jaU jaE jar jaL jah jaB jaa jaz jaG jab jaq jai jaO jaA jat jau jav jaj jas jaJ jak jad jay jac jaC jb0 Q  C0 _ _ _ jbd ja9 f0_s l1 l2 l3 0 hP hD hS (lv_sub hl [0, 1, 2, 3] rfl) hw
set_option maxHeartbeats 4000000 in
set_option maxRecDepth 100000 in
theorem ck_X11_clover (l : Launch) (dC : Nat → ClassId) (dI : Nat → Nat → Nat) (cyB cyI cyJ cyP : ClassId) (a0 jaQ jaT a0_s sz : Nat) (jaD ja7 jby jbf jaM jaY jap jaK jal jam jax jao ja6 jaV ja8 jae jag jaf ja0 jaP jaw jaI jaZ jaH jaS jan jaU jaE jar jaL jah jaB jaa jaz jaG jab jaq jai jaO jaA jat jau jav jaj jas jaJ jak jad jay jac : Value) (jaC : Int32) (jb0 : Nat → Int32) (jbd : Int32) (ja9 f0_s : Nat → Int32) (p1 p2 p3 : Int32) {Q : Int32 → Int32 → (Nat → Int32) → (Nat → Int32) → Prop} (hw : wq_X11_clover jaC jb0 jbd ja9 f0_s p1 p2 p3 Q) : Met l yX11_clover wsX11_clover ({ frames := 2, cells := 0, slots := 0, locals := 47 }) (va_Pc [.ref a0, .int p1, .int p2, .int p3] (cPc (dC, dI) (kT cyB cyI cyJ cyP) (wd09_1 a0 jbd jaQ jaD ja7 jby jbf jaM jaY jap jaK jal jam jax jao ja6 jaV ja8 jae jag jaf ja0 jaC jaP jaw jaI jaZ jaH jaS jan jaU jaE jar jaL jah jaB jaa jaz jaG jab jaT a0_s jaq jai jaO jaA jat jau jav jaj jas jaJ jak jad jay jac jaQ cyI ja9 jaT cyI jb0 a0_s cyI f0_s) sz)) (va_Qi (fun (r : Int32) (u : Int32 × (Nat → Int32) × (Nat → Int32)) => Q r u.1 u.2.1 u.2.2) (cB (dC, dI) (kT cyB cyI cyJ cyP) (va_A (wd09_1 a0 jbd jaQ jaD ja7 jby jbf jaM jaY jap jaK jal jam jax jao ja6 jaV ja8 jae jag jaf ja0 jaC jaP jaw jaI jaZ jaH jaS jan jaU jaE jar jaL jah jaB jaa jaz jaG jab jaT a0_s jaq jai jaO jaA jat jau jav jaj jas jaJ jak jad jay jac jaQ cyI ja9 jaT cyI jb0 a0_s cyI f0_s) sz) (fun u : Int32 × (Nat → Int32) × (Nat → Int32) => ((wd09_1 a0 u.1 jaQ jaD ja7 jby jbf jaM jaY jap jaK jal jam jax jao ja6 jaV ja8 jae jag jaf ja0 jaC jaP jaw jaI jaZ jaH jaS jan jaU jaE jar jaL jah jaB jaa jaz jaG jab jaT a0_s jaq jai jaO jaA jat jau jav jaj jas jaJ jak jad jay jac jaQ cyI u.2.1 jaT cyI jb0 a0_s cyI u.2.2) : va_W))) (va_A (wd09_1 a0 jbd jaQ jaD ja7 jby jbf jaM jaY jap jaK jal jam jax jao ja6 jaV ja8 jae jag jaf ja0 jaC jaP jaw jaI jaZ jaH jaS jan jaU jaE jar jaL jah jaB jaa jaz jaG jab jaT a0_s jaq jai jaO jaA jat jau jav jaj jas jaJ jak jad jay jac jaQ cyI ja9 jaT cyI jb0 a0_s cyI f0_s) sz)) 0 0 (va_A (wd09_1 a0 jbd jaQ jaD ja7 jby jbf jaM jaY jap jaK jal jam jax jao ja6 jaV ja8 jae jag jaf ja0 jaC jaP jaw jaI jaZ jaH jaS jan jaU jaE jar jaL jah jaB jaa jaz jaG jab jaT a0_s jaq jai jaO jaA jat jau jav jaj jas jaJ jak jad jay jac jaQ cyI ja9 jaT cyI jb0 a0_s cyI f0_s) sz) := by
  refine Met.ofW (cc := cX11_clover) (maxL := 5) (ret := (some .int)) (by decide) rfl ?_
  intro p e s m args below meth c s₁ B hml hv
  obtain ⟨rfl, hsz, hP, hK, hD0, hNw⟩ := hv
  have hx := B.exec
  have hb := B.bytes
  have hr := B.returns
  have hts := atoms_spec (ws := wsX11_clover) B.pre
  have hown : s.vm.findClass RX11 = some m.cls := findClass_of_methodNamed B.named
  have hlocks := B.notSynchronized
  subst hsz
  have hD := hD0.self (sz := s.heap.size)
  generalize hAe : va_A (wd09_1 a0 jbd jaQ jaD ja7 jby jbf jaM jaY jap jaK jal jam jax jao ja6 jaV ja8 jae jag jaf ja0 jaC jaP jaw jaI jaZ jaH jaS jan jaU jaE jar jaL jah jaB jaa jaz jaG jab jaT a0_s jaq jai jaO jaA jat jau jav jaj jas jaJ jak jad jay jac jaQ cyI ja9 jaT cyI jb0 a0_s cyI f0_s) s.heap.size = A at hD ⊢
  have hA : ∀ q : Nat, s.heap.size ≤ q → A q := fun q h => by rw [← hAe]; exact Or.inr h
  have hS : va_S A s.heap s.heap [] := va_S.rf
  have hP : va_P (dC, dI) vwCl (wd09_1 a0 jbd jaQ jaD ja7 jby jbf jaM jaY jap jaK jal jam jax jao ja6 jaV ja8 jae jag jaf ja0 jaC jaP jaw jaI jaZ jaH jaS jan jaU jaE jar jaL jah jaB jaa jaz jaG jab jaT a0_s jaq jai jaO jaA jat jau jav jaj jas jaJ jak jad jay jac jaQ cyI ja9 jaT cyI jb0 a0_s cyI f0_s) s.heap := hP
  have hl := lv_entry ([.ref a0, .int p1, .int p2, .int p3]) (n := 5) (Nat.le_of_ble_eq_true rfl)
  rw [lg_entry_eq]
  generalize (lg_sl ([.ref a0, .int p1, .int p2, .int p3]) ++ List.replicate (5 - (lg_sl ([.ref a0, .int p1, .int p2, .int p3])).length) Slot.unset).toArray = ls at hl ⊢
  have hl : lv_has ls 5 [(0, .ref a0), (1, .int p1), (2, .int p2), (3, .int p3)] := hl
  have C0 : cfx p s m _ meth c cX11_clover (some .int) wsX11_clover RX11 5 A (dC, dI) (kT cyB cyI cyJ cyP) := ⟨hx, hb, hr, hts, hown, hlocks, hml, hA, hK, hNw⟩
  clear hAe
  obtain ⟨H, hH⟩ : ∃ H, H = s.heap := ⟨_, rfl⟩
  rw [← hH] at hP ⊢
  have hS : va_S A s.heap H [] := by rw [hH]; exact va_S.rf
  have hS := hS
  refine lv_aload_n hx hb (dt_of tkX11_clover_k0 0 rfl) rfl (lv_at hl 0 rfl) ?_
  refine lv_iconst (v := 0) hx hb (dt_of tkX11_clover_k0 1 rfl) (by decide) ?_
  refine va_put (D := (dC, dI)) (ci := 11) (v := .int 0) (ty := .int) (C := RX11) (T := TX11) (N := 55) hx hb hts ui_X11_clover_X11 tyX11 tyX11_ok nmX11 hown hK hP hD hS 0 rfl rfl 0 (by decide) (hts _ uw_X11_clover_f3) (fun _ h9 => h9) rfl (by decide +kernel) rfl rfl (Nat.le_of_ble_eq_true rfl) (dt_of tkX11_clover_k0 2 rfl) (fun H locs hP hD hS => ?_)
  have hP : va_P (dC, dI) vwCl (wd09_1 a0 0 jaQ jaD ja7 jby jbf jaM jaY jap jaK jal jam jax jao ja6 jaV ja8 jae jag jaf ja0 jaC jaP jaw jaI jaZ jaH jaS jan jaU jaE jar jaL jah jaB jaa jaz jaG jab jaT a0_s jaq jai jaO jaA jat jau jav jaj jas jaJ jak jad jay jac jaQ cyI ja9 jaT cyI jb0 a0_s cyI f0_s) H := hP
  have hD : va_D A (wd09_1 a0 0 jaQ jaD ja7 jby jbf jaM jaY jap jaK jal jam jax jao ja6 jaV ja8 jae jag jaf ja0 jaC jaP jaw jaI jaZ jaH jaS jan jaU jaE jar jaL jah jaB jaa jaz jaG jab jaT a0_s jaq jai jaO jaA jat jau jav jaj jas jaJ jak jad jay jac jaQ cyI ja9 jaT cyI jb0 a0_s cyI f0_s) := hD
  refine lv_aload_n hx hb (dt_of tkX11_clover_k0 3 rfl) rfl (lv_at hl 0 rfl) ?_
  refine lv_iload_n hx hb (dt_of tkX11_clover_k0 4 rfl) rfl (lv_at hl 1 rfl) ?_
  refine lv_iconst (v := 1) hx hb (dt_of tkX11_clover_k0 5 rfl) (by decide) ?_
  obtain ⟨hCc, hPc, hDc, hFc⟩ := va_pick (ws' := (wd09_4 a0 0 jaQ jaD ja7 jby jbf jaM jaY jap jaK jal jam jax jao ja6 jaV ja8 jae jag jaf ja0 jaC jaP jaw jaI jaZ jaH jaS jan jaU jaE jar jaL jah jaB jaa jaz jaG jab jaT a0_s jaq jai jaO jaA jat jau jav jaj jas jaJ jak jad jay jac jaQ cyI ja9)) hP hD hS hA [0, 1] (by decide +kernel) rfl
  refine va_calli (va_runV (As := [.int p1, .int 1]) (rest := []) ⟨hx, hb, hml, hown, hts⟩ (ck_X11_isHare l dC dI cyB cyI cyJ cyP a0 jaQ H.size (jaD) (ja7) (jby) (jbf) (jaM) (jaY) (jap) (jaK) (jal) (jam) (jax) (jao) (ja6) (jaV) (ja8) (jae) (jag) (jaf) (ja0) (jaP) (jaw) (jaI) (jaZ) (jaH) (jaS) (jan) (jaU) (jaE) (jar) (jaL) (jah) (jaB) (jaa) (jaz) (jaG) (jab) (.ref jaT) (.ref a0_s) (jaq) (jai) (jaO) (jaA) (jat) (jau) (jav) (jaj) (jas) (jaJ) (jak) (jad) (jay) (jac) jaC 0 ja9 p1 1 hw) (cwV 2 hts gX11_clover_X11_isHare rfl rfl rfl (by decide +kernel) ⟨Nat.le_of_ble_eq_true rfl, Nat.le_of_ble_eq_true rfl⟩) ⟨cPc_blind, va_recv (q := (RX11, TX11, 55)) hK hPc (ci := 11) (q0 := 0) rfl rfl, cPc_pre hPc hK hDc hNw⟩ rfl rfl hl.1 rfl (lv_room (Nat.le_of_ble_eq_true rfl)) (dt_of tkX11_clover_k0 6 rfl) ⟨Nat.le_of_ble_eq_true rfl, Nat.le_of_ble_eq_true rfl⟩) hS (fun q _ h => hFc q h) hFc (fun r3 u t H1 locs ht hvm hw hB hz1 hk1 hS => ?_)
  obtain ⟨x1, f2⟩ := u
  obtain ⟨hP1, hK1, hD1⟩ := hB
  rw [ht] at hP1
  obtain ⟨hP, hD⟩ := va_joinN (wr := (wd09_5 jaT cyI jb0 a0_s cyI f0_s)) (w1 := (wd09_4 a0 x1 jaQ jaD ja7 jby jbf jaM jaY jap jaK jal jam jax jao ja6 jaV ja8 jae jag jaf ja0 jaC jaP jaw jaI jaZ jaH jaS jan jaU jaE jar jaL jah jaB jaa jaz jaG jab jaT a0_s jaq jai jaO jaA jat jau jav jaj jas jaJ jak jad jay jac jaQ cyI f2)) (wn := (wd09_1 a0 x1 jaQ jaD ja7 jby jbf jaM jaY jap jaK jal jam jax jao ja6 jaV ja8 jae jag jaf ja0 jaC jaP jaw jaI jaZ jaH jaS jan jaU jaE jar jaL jah jaB jaa jaz jaG jab jaT a0_s jaq jai jaO jaA jat jau jav jaj jas jaJ jak jad jay jac jaQ cyI f2 jaT cyI jb0 a0_s cyI f0_s)) hP hD [0, 1] [2, 3] [2, 3, 0, 1] hCc rfl (by decide +kernel) (by decide +kernel) (by decide +kernel) rfl hk1 hFc hP1 hD1
  generalize H1 = H at hP hS ⊢
  refine lv_if_eq (tgt := 53) hx hb (dt_of tkX11_clover_k0 7 rfl) (by decide) (fun c4 => ?_) (fun c4 => ?_)
  · have hw := hw.1 c4
    refine lv_iconst (v := 0) hx hb (dt_of tkX11_clover_k26 13 rfl) (by decide) ?_
    exact ((W.iret (v := 0) hx hb hr (fun t ht hW => ⟨⟨0, (x1, f2, f0_s), rfl, hw, by rw [ht]; exact hP, va_K.moved hW.alike hK, hD⟩, hS.F ht⟩) hS.2.2 (dt_of tkX11_clover_k26 14 rfl)))
  · have hw := hw.2 c4
    refine lv_aload_n hx hb (dt_of tkX11_clover_k0 8 rfl) rfl (lv_at hl 0 rfl) ?_
    refine lv_iload_n hx hb (dt_of tkX11_clover_k0 9 rfl) rfl (lv_at hl 2 rfl) ?_
    refine lv_if_lt (tgt := 44) hx hb (dt_of tkX11_clover_k0 10 rfl) (by decide) (fun c5 => ?_) (fun c5 => ?_)
    · have hw := hw.1 c5
      exact kb_X11_clover_44 dC dI cyB cyI cyJ cyP a0 jaQ jaT a0_s jaD ja7 jby jbf jaM jaY jap jaK jal jam jax jao ja6 jaV ja8 jae jag jaf ja0 jaP jaw jaI jaZ jaH jaS jan jaU jaE jar jaL jah jaB jaa jaz jaG jab jaq jai jaO jaA jat jau jav jaj jas jaJ jak jad jay jac jaC jb0 Q  C0 _ _ _ x1 f2 f0_s p1 p2 p3 hP hD hS (lv_sub hl [0, 1, 2, 3] rfl) hw
    · have hw := hw.2 c5
      refine lv_iload_n hx hb (dt_of tkX11_clover_k0 11 rfl) rfl (lv_at hl 2 rfl) ?_
      refine lv_iconst (v := 1) hx hb (dt_of tkX11_clover_k0 12 rfl) (by decide) ?_
      refine lv_aload_n hx hb (dt_of tkX11_clover_k0 13 rfl) rfl (lv_at hl 0 rfl) ?_
      refine va_get (D := (dC, dI)) (ci := 11) (v := .int jaC) (C := RX11) (T := TX11) (N := 55) hx hb hts ui_X11_clover_X11 hown hK hP 0 rfl rfl 21 (by decide) (hts _ uw_X11_clover_f169) (fun _ h9 => h9) rfl (dt_of tkX11_clover_k0 14 rfl) ?_
      refine lv_ishl hx hb (dt_of tkX11_clover_k0 15 rfl) ?_
      refine lv_icmp_ge (tgt := 44) hx hb (dt_of tkX11_clover_k26 0 rfl) (by decide) (fun c6 => ?_) (fun c6 => ?_)
      · have hw := hw.1 c6
        exact kb_X11_clover_44 dC dI cyB cyI cyJ cyP a0 jaQ jaT a0_s jaD ja7 jby jbf jaM jaY jap jaK jal jam jax jao ja6 jaV ja8 jae jag jaf ja0 jaP jaw jaI jaZ jaH jaS jan jaU jaE jar jaL jah jaB jaa jaz jaG jab jaq jai jaO jaA jat jau jav jaj jas jaJ jak jad jay jac jaC jb0 Q  C0 _ _ _ x1 f2 f0_s p1 p2 p3 hP hD hS (lv_sub hl [0, 1, 2, 3] rfl) hw
      · have hw := hw.2 c6
        refine lv_iload_n hx hb (dt_of tkX11_clover_k26 1 rfl) rfl (lv_at hl 3 rfl) ?_
        refine lv_iconst (v := 0) hx hb (dt_of tkX11_clover_k26 2 rfl) (by decide) ?_
        refine lv_sipush (v := 999) hx hb (dt_of tkX11_clover_k26 3 rfl) (by decide) ?_
        obtain ⟨hCc, hPc, hDc, hFc⟩ := va_pick (ws' := []) hP hD hS hA [] (by decide +kernel) rfl
        refine va_calli (va_runS (As := [.int p3, .int 0, .int 999]) (rest := [.ref a0]) ⟨hx, hb, hml, hown, hts⟩ (ck_X11_within l dC dI cyB cyI cyJ cyP  H.size    p3 0 999 hw) (va_cwS 3 hts gX11_clover_X11_within rfl rfl rfl (by decide +kernel) ⟨Nat.le_of_ble_eq_true rfl, Nat.le_of_ble_eq_true rfl⟩) ⟨cPc_blind, cPc_pre hPc hK hDc hNw⟩ rfl rfl hl.1 rfl (lv_room (Nat.le_of_ble_eq_true rfl)) (dt_of tkX11_clover_k26 4 rfl) ⟨Nat.le_of_ble_eq_true rfl, Nat.le_of_ble_eq_true rfl⟩) hS (fun q _ h => hFc q h) hFc (fun r7 u t H1 locs ht hvm hw hB hz1 hk1 hS => ?_)
        obtain ⟨hP1, hK1, hD1⟩ := hB
        rw [ht] at hP1
        obtain ⟨hP, hD⟩ := va_joinI (wr := (wd09_1 a0 x1 jaQ jaD ja7 jby jbf jaM jaY jap jaK jal jam jax jao ja6 jaV ja8 jae jag jaf ja0 jaC jaP jaw jaI jaZ jaH jaS jan jaU jaE jar jaL jah jaB jaa jaz jaG jab jaT a0_s jaq jai jaO jaA jat jau jav jaj jas jaJ jak jad jay jac jaQ cyI f2 jaT cyI jb0 a0_s cyI f0_s)) (w1 := []) (wn := (wd09_1 a0 x1 jaQ jaD ja7 jby jbf jaM jaY jap jaK jal jam jax jao ja6 jaV ja8 jae jag jaf ja0 jaC jaP jaw jaI jaZ jaH jaS jan jaU jaE jar jaL jah jaB jaa jaz jaG jab jaT a0_s jaq jai jaO jaA jat jau jav jaj jas jaJ jak jad jay jac jaQ cyI f2 jaT cyI jb0 a0_s cyI f0_s)) hP hD [] [0, 1, 2, 3] hCc rfl (by decide +kernel) (by decide +kernel) rfl hk1 hFc hP1 hD1
        generalize H1 = H at hP hS ⊢
        refine lv_if_eq (tgt := 44) hx hb (dt_of tkX11_clover_k26 5 rfl) (by decide) (fun c8 => ?_) (fun c8 => ?_)
        · have hw := hw.1 c8
          exact kb_X11_clover_44 dC dI cyB cyI cyJ cyP a0 jaQ jaT a0_s jaD ja7 jby jbf jaM jaY jap jaK jal jam jax jao ja6 jaV ja8 jae jag jaf ja0 jaP jaw jaI jaZ jaH jaS jan jaU jaE jar jaL jah jaB jaa jaz jaG jab jaq jai jaO jaA jat jau jav jaj jas jaJ jak jad jay jac jaC jb0 Q  C0 _ _ _ x1 f2 f0_s p1 p2 p3 hP hD hS (lv_sub hl [0, 1, 2, 3] rfl) hw
        · have hw := hw.2 c8
          refine lv_iconst (v := 1) hx hb (dt_of tkX11_clover_k26 6 rfl) (by decide) ?_
          refine lv_goto (tgt := 45) hx hb (dt_of tkX11_clover_k26 7 rfl) (by decide) ?_
          exact kb_X11_clover_45 dC dI cyB cyI cyJ cyP a0 jaQ jaT a0_s jaD ja7 jby jbf jaM jaY jap jaK jal jam jax jao ja6 jaV ja8 jae jag jaf ja0 jaP jaw jaI jaZ jaH jaS jan jaU jaE jar jaL jah jaB jaa jaz jaG jab jaq jai jaO jaA jat jau jav jaj jas jaJ jak jad jay jac jaC jb0 Q  C0 _ _ _ x1 f2 f0_s p1 p2 p3 1 hP hD hS (lv_sub hl [0, 1, 2, 3] rfl) hw
theorem ui_X11_count_X11 : ∀ w ∈ u_ws RX11 TX11 55, w ∈ wsX11_count := uiM mbX11_count euX11 (by decide +kernel)
theorem uw_X11_count_f111 : (.fieldLink RX11 111 "MarchHaresModel" "taped" "I" : Cond) ∈ wsX11_count := mbX11_count 590 (by decide +kernel)
theorem uw_X11_count_f185 : (.fieldLink RX11 185 "MarchHaresModel" "works" "I" : Cond) ∈ wsX11_count := mbX11_count 524 (by decide +kernel)
theorem uw_X11_count_f188 : (.fieldLink RX11 188 "MarchHaresModel" "images" "I" : Cond) ∈ wsX11_count := mbX11_count 525 (by decide +kernel)
theorem uw_X11_count_f3 : (.fieldLink RX11 3 "MarchHaresModel" "thrown" "I" : Cond) ∈ wsX11_count := mbX11_count 589 (by decide +kernel)
set_option maxHeartbeats 4000000 in
set_option maxRecDepth 100000 in
theorem ck_X11_count (l : Launch) (dC : Nat → ClassId) (dI : Nat → Nat → Nat) (cyB cyI cyJ cyP : ClassId) (a0 sz : Nat) (jaF ja7 jby jbf jaM jaY jap jaK jal jam jax jao ja6 jaV ja8 jae jag jaf ja0 ja4 jaP jaw jaI jaZ jaH jaS jan jaU jaE jar jaL jah jaa jaz jaG jab ja2 z0_s jaq jai jaO jaA jat jau jav jaj jas jaJ jak jad jay : Value) (jgt jhQ ji3 jbd p1 : Int32) {Q : Int32 → Int32 → Prop} (hw : wq_X11_count jgt jhQ ji3 jbd p1 Q) : Met l yX11_count wsX11_count ({ frames := 0, cells := 0, slots := 0, locals := 0 }) (va_Pc [.ref a0, .int p1] (cPc (dC, dI) (kT cyB cyI cyJ cyP) (wd09_7 a0 jbd jaF jgt ja7 jby jbf jaM jaY jap jaK jal jam jax jao ja6 jaV ja8 jae jag jaf ja0 ja4 jaP jaw jaI jaZ jaH jaS jan jaU jaE jar jaL jah jhQ jaa jaz jaG jab ja2 z0_s jaq jai jaO jaA jat jau jav jaj jas jaJ jak jad jay ji3) sz)) (va_Qi (fun (r u : Int32) => Q r u) (cB (dC, dI) (kT cyB cyI cyJ cyP) (va_A (wd09_7 a0 jbd jaF jgt ja7 jby jbf jaM jaY jap jaK jal jam jax jao ja6 jaV ja8 jae jag jaf ja0 ja4 jaP jaw jaI jaZ jaH jaS jan jaU jaE jar jaL jah jhQ jaa jaz jaG jab ja2 z0_s jaq jai jaO jaA jat jau jav jaj jas jaJ jak jad jay ji3) sz) (fun u : Int32 => ((wd09_7 a0 u jaF jgt ja7 jby jbf jaM jaY jap jaK jal jam jax jao ja6 jaV ja8 jae jag jaf ja0 ja4 jaP jaw jaI jaZ jaH jaS jan jaU jaE jar jaL jah jhQ jaa jaz jaG jab ja2 z0_s jaq jai jaO jaA jat jau jav jaj jas jaJ jak jad jay ji3) : va_W))) (va_A (wd09_7 a0 jbd jaF jgt ja7 jby jbf jaM jaY jap jaK jal jam jax jao ja6 jaV ja8 jae jag jaf ja0 ja4 jaP jaw jaI jaZ jaH jaS jan jaU jaE jar jaL jah jhQ jaa jaz jaG jab ja2 z0_s jaq jai jaO jaA jat jau jav jaj jas jaJ jak jad jay ji3) sz)) 0 0 (va_A (wd09_7 a0 jbd jaF jgt ja7 jby jbf jaM jaY jap jaK jal jam jax jao ja6 jaV ja8 jae jag jaf ja0 ja4 jaP jaw jaI jaZ jaH jaS jan jaU jaE jar jaL jah jhQ jaa jaz jaG jab ja2 z0_s jaq jai jaO jaA jat jau jav jaj jas jaJ jak jad jay ji3) sz) := by
  refine Met.ofW (cc := cX11_count) (maxL := 2) (ret := (some .int)) (by decide) rfl ?_
  intro p e s m args below meth c s₁ B hml hv
  obtain ⟨rfl, hsz, hP, hK, hD0, hNw⟩ := hv
  have hx := B.exec
  have hb := B.bytes
  have hr := B.returns
  have hts := atoms_spec (ws := wsX11_count) B.pre
  have hown : s.vm.findClass RX11 = some m.cls := findClass_of_methodNamed B.named
  have hlocks := B.notSynchronized
  subst hsz
  have hD := hD0.self (sz := s.heap.size)
  generalize hAe : va_A (wd09_7 a0 jbd jaF jgt ja7 jby jbf jaM jaY jap jaK jal jam jax jao ja6 jaV ja8 jae jag jaf ja0 ja4 jaP jaw jaI jaZ jaH jaS jan jaU jaE jar jaL jah jhQ jaa jaz jaG jab ja2 z0_s jaq jai jaO jaA jat jau jav jaj jas jaJ jak jad jay ji3) s.heap.size = A at hD ⊢
  have hA : ∀ q : Nat, s.heap.size ≤ q → A q := fun q h => by rw [← hAe]; exact Or.inr h
  have hS : va_S A s.heap s.heap [] := va_S.rf
  have hP : va_P (dC, dI) vwCl (wd09_7 a0 jbd jaF jgt ja7 jby jbf jaM jaY jap jaK jal jam jax jao ja6 jaV ja8 jae jag jaf ja0 ja4 jaP jaw jaI jaZ jaH jaS jan jaU jaE jar jaL jah jhQ jaa jaz jaG jab ja2 z0_s jaq jai jaO jaA jat jau jav jaj jas jaJ jak jad jay ji3) s.heap := hP
  have hl := lv_entry ([.ref a0, .int p1]) (n := 2) (Nat.le_of_ble_eq_true rfl)
  rw [lg_entry_eq]
  generalize (lg_sl ([.ref a0, .int p1]) ++ List.replicate (2 - (lg_sl ([.ref a0, .int p1])).length) Slot.unset).toArray = ls at hl ⊢
  have hl : lv_has ls 2 [(0, .ref a0), (1, .int p1)] := hl
  have C0 : cfx p s m _ meth c cX11_count (some .int) wsX11_count RX11 2 A (dC, dI) (kT cyB cyI cyJ cyP) := ⟨hx, hb, hr, hts, hown, hlocks, hml, hA, hK, hNw⟩
  clear hAe
  obtain ⟨H, hH⟩ : ∃ H, H = s.heap := ⟨_, rfl⟩
  rw [← hH] at hP ⊢
  have hS : va_S A s.heap H [] := by rw [hH]; exact va_S.rf
  have hS := hS
  refine lv_aload_n hx hb (dt_of tkX11_count_k0 0 rfl) rfl (lv_at hl 0 rfl) ?_
  refine lv_iconst (v := 0) hx hb (dt_of tkX11_count_k0 1 rfl) (by decide) ?_
  refine va_put (D := (dC, dI)) (ci := 11) (v := .int 0) (ty := .int) (C := RX11) (T := TX11) (N := 55) hx hb hts ui_X11_count_X11 tyX11 tyX11_ok nmX11 hown hK hP hD hS 0 rfl rfl 0 (by decide) (hts _ uw_X11_count_f3) (fun _ h9 => h9) rfl (by decide +kernel) rfl rfl (Nat.le_of_ble_eq_true rfl) (dt_of tkX11_count_k0 2 rfl) (fun H locs hP hD hS => ?_)
  have hP : va_P (dC, dI) vwCl (wd09_7 a0 0 jaF jgt ja7 jby jbf jaM jaY jap jaK jal jam jax jao ja6 jaV ja8 jae jag jaf ja0 ja4 jaP jaw jaI jaZ jaH jaS jan jaU jaE jar jaL jah jhQ jaa jaz jaG jab ja2 z0_s jaq jai jaO jaA jat jau jav jaj jas jaJ jak jad jay ji3) H := hP
  have hD : va_D A (wd09_7 a0 0 jaF jgt ja7 jby jbf jaM jaY jap jaK jal jam jax jao ja6 jaV ja8 jae jag jaf ja0 ja4 jaP jaw jaI jaZ jaH jaS jan jaU jaE jar jaL jah jhQ jaa jaz jaG jab ja2 z0_s jaq jai jaO jaA jat jau jav jaj jas jaJ jak jad jay ji3) := hD
  refine lv_iload_n hx hb (dt_of tkX11_count_k0 3 rfl) rfl (lv_at hl 1 rfl) ?_
  refine lv_if_ne (tgt := 16) hx hb (dt_of tkX11_count_k0 4 rfl) (by decide) (fun c1 => ?_) (fun c1 => ?_)
  · have hw := hw.1 c1
    refine lv_iload_n hx hb (dt_of tkX11_count_k0 8 rfl) rfl (lv_at hl 1 rfl) ?_
    refine lv_iconst (v := 1) hx hb (dt_of tkX11_count_k0 9 rfl) (by decide) ?_
    refine lv_icmp_ne (tgt := 28) hx hb (dt_of tkX11_count_k0 10 rfl) (by decide) (fun c2 => ?_) (fun c2 => ?_)
    · have hw := hw.1 c2
      refine lv_iload_n hx hb (dt_of tkX11_count_k0 14 rfl) rfl (lv_at hl 1 rfl) ?_
      refine lv_iconst (v := 2) hx hb (dt_of tkX11_count_k0 15 rfl) (by decide) ?_
      refine lv_icmp_ne (tgt := 40) hx hb (dt_of tkX11_count_k30 0 rfl) (by decide) (fun c3 => ?_) (fun c3 => ?_)
      · have hw := hw.1 c3
        refine lv_iconst (v := (-1)) hx hb (dt_of tkX11_count_k30 4 rfl) (by decide) ?_
        exact ((W.iret (v := (-1)) hx hb hr (fun t ht hW => ⟨⟨(-1), (0), rfl, hw, by rw [ht]; exact hP, va_K.moved hW.alike hK, hD⟩, hS.F ht⟩) hS.2.2 (dt_of tkX11_count_k30 5 rfl)))
      · have hw := hw.2 c3
        refine lv_aload_n hx hb (dt_of tkX11_count_k30 1 rfl) rfl (lv_at hl 0 rfl) ?_
        refine va_get (D := (dC, dI)) (ci := 11) (v := .int jhQ) (C := RX11) (T := TX11) (N := 55) hx hb hts ui_X11_count_X11 hown hK hP 0 rfl rfl 34 (by decide) (hts _ uw_X11_count_f185) (fun _ h9 => h9) rfl (dt_of tkX11_count_k30 2 rfl) ?_
        refine lv_goto (tgt := 41) hx hb (dt_of tkX11_count_k30 3 rfl) (by decide) ?_
        exact ((W.iret (v := jhQ) hx hb hr (fun t ht hW => ⟨⟨jhQ, (0), rfl, hw, by rw [ht]; exact hP, va_K.moved hW.alike hK, hD⟩, hS.F ht⟩) hS.2.2 (dt_of tkX11_count_k30 5 rfl)))
    · have hw := hw.2 c2
      refine lv_aload_n hx hb (dt_of tkX11_count_k0 11 rfl) rfl (lv_at hl 0 rfl) ?_
      refine va_get (D := (dC, dI)) (ci := 11) (v := .int jgt) (C := RX11) (T := TX11) (N := 55) hx hb hts ui_X11_count_X11 hown hK hP 0 rfl rfl 2 (by decide) (hts _ uw_X11_count_f111) (fun _ h9 => h9) rfl (dt_of tkX11_count_k0 12 rfl) ?_
      refine lv_goto (tgt := 41) hx hb (dt_of tkX11_count_k0 13 rfl) (by decide) ?_
      exact ((W.iret (v := jgt) hx hb hr (fun t ht hW => ⟨⟨jgt, (0), rfl, hw, by rw [ht]; exact hP, va_K.moved hW.alike hK, hD⟩, hS.F ht⟩) hS.2.2 (dt_of tkX11_count_k30 5 rfl)))
  · have hw := hw.2 c1
    refine lv_aload_n hx hb (dt_of tkX11_count_k0 5 rfl) rfl (lv_at hl 0 rfl) ?_
    refine va_get (D := (dC, dI)) (ci := 11) (v := .int ji3) (C := RX11) (T := TX11) (N := 55) hx hb hts ui_X11_count_X11 hown hK hP 0 rfl rfl 54 (by decide) (hts _ uw_X11_count_f188) (fun _ h9 => h9) rfl (dt_of tkX11_count_k0 6 rfl) ?_
    refine lv_goto (tgt := 41) hx hb (dt_of tkX11_count_k0 7 rfl) (by decide) ?_
    exact ((W.iret (v := ji3) hx hb hr (fun t ht hW => ⟨⟨ji3, (0), rfl, hw, by rw [ht]; exact hP, va_K.moved hW.alike hK, hD⟩, hS.F ht⟩) hS.2.2 (dt_of tkX11_count_k30 5 rfl)))
theorem ui_X11_debt_X11 : ∀ w ∈ u_ws RX11 TX11 55, w ∈ wsX11_debt := uiM mbX11_debt euX11 (by decide +kernel)
theorem uw_X11_debt_f3 : (.fieldLink RX11 3 "MarchHaresModel" "thrown" "I" : Cond) ∈ wsX11_debt := mbX11_debt 589 (by decide +kernel)
theorem uw_X11_debt_f68 : (.fieldLink RX11 68 "MarchHaresModel" "now" "[I" : Cond) ∈ wsX11_debt := mbX11_debt 456 (by decide +kernel)
set_option maxHeartbeats 4000000 in
set_option maxRecDepth 100000 in
theorem ck_X11_debt (l : Launch) (dC : Nat → ClassId) (dI : Nat → Nat → Nat) (cyB cyI cyJ cyP : ClassId) (a0 jaQ jaT sz : Nat) (jaD ja7 jby jbf jaM jaY jap jaK jal jam jax jao ja6 jaV ja8 jae jag jaf ja0 jaP jaw jaI jaZ jaH jaS jan jaU jaE jar jaL jah jaB jaa jaz jaG jab z0_s jaq jai jaO jaA jat jau jav jaj jas jaJ jak jad jay jac : Value) (jaC : Int32) (jb0 : Nat → Int32) (jbd : Int32) (ja9 : Nat → Int32) (p1 p2 : Int32) {Q : Int32 → Int32 → (Nat → Int32) → Prop} (hw : wq_X11_debt jaC jb0 jbd ja9 p1 p2 Q) : Met l yX11_debt wsX11_debt ({ frames := 2, cells := 0, slots := 0, locals := 45 }) (va_Pc [.ref a0, .int p1, .int p2] (cPc (dC, dI) (kT cyB cyI cyJ cyP) (wd09_8 a0 jbd jaQ jaD ja7 jby jbf jaM jaY jap jaK jal jam jax jao ja6 jaV ja8 jae jag jaf ja0 jaC jaP jaw jaI jaZ jaH jaS jan jaU jaE jar jaL jah jaB jaa jaz jaG jab jaT z0_s jaq jai jaO jaA jat jau jav jaj jas jaJ jak jad jay jac jaQ cyI ja9 jaT cyI jb0) sz)) (va_Qi (fun (r : Int32) (u : Int32 × (Nat → Int32)) => Q r u.1 u.2) (cB (dC, dI) (kT cyB cyI cyJ cyP) (va_A (wd09_8 a0 jbd jaQ jaD ja7 jby jbf jaM jaY jap jaK jal jam jax jao ja6 jaV ja8 jae jag jaf ja0 jaC jaP jaw jaI jaZ jaH jaS jan jaU jaE jar jaL jah jaB jaa jaz jaG jab jaT z0_s jaq jai jaO jaA jat jau jav jaj jas jaJ jak jad jay jac jaQ cyI ja9 jaT cyI jb0) sz) (fun u : Int32 × (Nat → Int32) => ((wd09_8 a0 u.1 jaQ jaD ja7 jby jbf jaM jaY jap jaK jal jam jax jao ja6 jaV ja8 jae jag jaf ja0 jaC jaP jaw jaI jaZ jaH jaS jan jaU jaE jar jaL jah jaB jaa jaz jaG jab jaT z0_s jaq jai jaO jaA jat jau jav jaj jas jaJ jak jad jay jac jaQ cyI u.2 jaT cyI jb0) : va_W))) (va_A (wd09_8 a0 jbd jaQ jaD ja7 jby jbf jaM jaY jap jaK jal jam jax jao ja6 jaV ja8 jae jag jaf ja0 jaC jaP jaw jaI jaZ jaH jaS jan jaU jaE jar jaL jah jaB jaa jaz jaG jab jaT z0_s jaq jai jaO jaA jat jau jav jaj jas jaJ jak jad jay jac jaQ cyI ja9 jaT cyI jb0) sz)) 0 0 (va_A (wd09_8 a0 jbd jaQ jaD ja7 jby jbf jaM jaY jap jaK jal jam jax jao ja6 jaV ja8 jae jag jaf ja0 jaC jaP jaw jaI jaZ jaH jaS jan jaU jaE jar jaL jah jaB jaa jaz jaG jab jaT z0_s jaq jai jaO jaA jat jau jav jaj jas jaJ jak jad jay jac jaQ cyI ja9 jaT cyI jb0) sz) := by
  refine Met.ofW (cc := cX11_debt) (maxL := 3) (ret := (some .int)) (by decide) rfl ?_
  intro p e s m args below meth c s₁ B hml hv
  obtain ⟨rfl, hsz, hP, hK, hD0, hNw⟩ := hv
  have hx := B.exec
  have hb := B.bytes
  have hr := B.returns
  have hts := atoms_spec (ws := wsX11_debt) B.pre
  have hown : s.vm.findClass RX11 = some m.cls := findClass_of_methodNamed B.named
  have hlocks := B.notSynchronized
  subst hsz
  have hD := hD0.self (sz := s.heap.size)
  generalize hAe : va_A (wd09_8 a0 jbd jaQ jaD ja7 jby jbf jaM jaY jap jaK jal jam jax jao ja6 jaV ja8 jae jag jaf ja0 jaC jaP jaw jaI jaZ jaH jaS jan jaU jaE jar jaL jah jaB jaa jaz jaG jab jaT z0_s jaq jai jaO jaA jat jau jav jaj jas jaJ jak jad jay jac jaQ cyI ja9 jaT cyI jb0) s.heap.size = A at hD ⊢
  have hA : ∀ q : Nat, s.heap.size ≤ q → A q := fun q h => by rw [← hAe]; exact Or.inr h
  have hS : va_S A s.heap s.heap [] := va_S.rf
  have hP : va_P (dC, dI) vwCl (wd09_8 a0 jbd jaQ jaD ja7 jby jbf jaM jaY jap jaK jal jam jax jao ja6 jaV ja8 jae jag jaf ja0 jaC jaP jaw jaI jaZ jaH jaS jan jaU jaE jar jaL jah jaB jaa jaz jaG jab jaT z0_s jaq jai jaO jaA jat jau jav jaj jas jaJ jak jad jay jac jaQ cyI ja9 jaT cyI jb0) s.heap := hP
  have hl := lv_entry ([.ref a0, .int p1, .int p2]) (n := 3) (Nat.le_of_ble_eq_true rfl)
  rw [lg_entry_eq]
  generalize (lg_sl ([.ref a0, .int p1, .int p2]) ++ List.replicate (3 - (lg_sl ([.ref a0, .int p1, .int p2])).length) Slot.unset).toArray = ls at hl ⊢
  have hl : lv_has ls 3 [(0, .ref a0), (1, .int p1), (2, .int p2)] := hl
  have C0 : cfx p s m _ meth c cX11_debt (some .int) wsX11_debt RX11 3 A (dC, dI) (kT cyB cyI cyJ cyP) := ⟨hx, hb, hr, hts, hown, hlocks, hml, hA, hK, hNw⟩
  clear hAe
  obtain ⟨H, hH⟩ : ∃ H, H = s.heap := ⟨_, rfl⟩
  rw [← hH] at hP ⊢
  have hS : va_S A s.heap H [] := by rw [hH]; exact va_S.rf
  have hS := hS
  refine lv_aload_n hx hb (dt_of tkX11_debt_k0 0 rfl) rfl (lv_at hl 0 rfl) ?_
  refine lv_iconst (v := 0) hx hb (dt_of tkX11_debt_k0 1 rfl) (by decide) ?_
  refine va_put (D := (dC, dI)) (ci := 11) (v := .int 0) (ty := .int) (C := RX11) (T := TX11) (N := 55) hx hb hts ui_X11_debt_X11 tyX11 tyX11_ok nmX11 hown hK hP hD hS 0 rfl rfl 0 (by decide) (hts _ uw_X11_debt_f3) (fun _ h9 => h9) rfl (by decide +kernel) rfl rfl (Nat.le_of_ble_eq_true rfl) (dt_of tkX11_debt_k0 2 rfl) (fun H locs hP hD hS => ?_)
  have hP : va_P (dC, dI) vwCl (wd09_8 a0 0 jaQ jaD ja7 jby jbf jaM jaY jap jaK jal jam jax jao ja6 jaV ja8 jae jag jaf ja0 jaC jaP jaw jaI jaZ jaH jaS jan jaU jaE jar jaL jah jaB jaa jaz jaG jab jaT z0_s jaq jai jaO jaA jat jau jav jaj jas jaJ jak jad jay jac jaQ cyI ja9 jaT cyI jb0) H := hP
  have hD : va_D A (wd09_8 a0 0 jaQ jaD ja7 jby jbf jaM jaY jap jaK jal jam jax jao ja6 jaV ja8 jae jag jaf ja0 jaC jaP jaw jaI jaZ jaH jaS jan jaU jaE jar jaL jah jaB jaa jaz jaG jab jaT z0_s jaq jai jaO jaA jat jau jav jaj jas jaJ jak jad jay jac jaQ cyI ja9 jaT cyI jb0) := hD
  refine lv_aload_n hx hb (dt_of tkX11_debt_k0 3 rfl) rfl (lv_at hl 0 rfl) ?_
  refine lv_iload_n hx hb (dt_of tkX11_debt_k0 4 rfl) rfl (lv_at hl 1 rfl) ?_
  refine lv_iconst (v := 1) hx hb (dt_of tkX11_debt_k0 5 rfl) (by decide) ?_
  obtain ⟨hCc, hPc, hDc, hFc⟩ := va_pick (ws' := (wd09_9 a0 0 jaQ jaD ja7 jby jbf jaM jaY jap jaK jal jam jax jao ja6 jaV ja8 jae jag jaf ja0 jaC jaP jaw jaI jaZ jaH jaS jan jaU jaE jar jaL jah jaB jaa jaz jaG jab jaT z0_s jaq jai jaO jaA jat jau jav jaj jas jaJ jak jad jay jac jaQ cyI ja9)) hP hD hS hA [0, 1] (by decide +kernel) rfl
  refine va_calli (va_runV (As := [.int p1, .int 1]) (rest := []) ⟨hx, hb, hml, hown, hts⟩ (ck_X11_isHare l dC dI cyB cyI cyJ cyP a0 jaQ H.size (jaD) (ja7) (jby) (jbf) (jaM) (jaY) (jap) (jaK) (jal) (jam) (jax) (jao) (ja6) (jaV) (ja8) (jae) (jag) (jaf) (ja0) (jaP) (jaw) (jaI) (jaZ) (jaH) (jaS) (jan) (jaU) (jaE) (jar) (jaL) (jah) (jaB) (jaa) (jaz) (jaG) (jab) (.ref jaT) (z0_s) (jaq) (jai) (jaO) (jaA) (jat) (jau) (jav) (jaj) (jas) (jaJ) (jak) (jad) (jay) (jac) jaC 0 ja9 p1 1 hw) (cwV 2 hts gX11_debt_X11_isHare rfl rfl rfl (by decide +kernel) ⟨Nat.le_of_ble_eq_true rfl, Nat.le_of_ble_eq_true rfl⟩) ⟨cPc_blind, va_recv (q := (RX11, TX11, 55)) hK hPc (ci := 11) (q0 := 0) rfl rfl, cPc_pre hPc hK hDc hNw⟩ rfl rfl hl.1 rfl (lv_room (Nat.le_of_ble_eq_true rfl)) (dt_of tkX11_debt_k0 6 rfl) ⟨Nat.le_of_ble_eq_true rfl, Nat.le_of_ble_eq_true rfl⟩) hS (fun q _ h => hFc q h) hFc (fun r3 u t H1 locs ht hvm hw hB hz1 hk1 hS => ?_)
  obtain ⟨x1, f2⟩ := u
  obtain ⟨hP1, hK1, hD1⟩ := hB
  rw [ht] at hP1
  obtain ⟨hP, hD⟩ := va_joinN (wr := [(jaT, .inl (cyI, 68, .inl jb0))]) (w1 := (wd09_9 a0 x1 jaQ jaD ja7 jby jbf jaM jaY jap jaK jal jam jax jao ja6 jaV ja8 jae jag jaf ja0 jaC jaP jaw jaI jaZ jaH jaS jan jaU jaE jar jaL jah jaB jaa jaz jaG jab jaT z0_s jaq jai jaO jaA jat jau jav jaj jas jaJ jak jad jay jac jaQ cyI f2)) (wn := (wd09_8 a0 x1 jaQ jaD ja7 jby jbf jaM jaY jap jaK jal jam jax jao ja6 jaV ja8 jae jag jaf ja0 jaC jaP jaw jaI jaZ jaH jaS jan jaU jaE jar jaL jah jaB jaa jaz jaG jab jaT z0_s jaq jai jaO jaA jat jau jav jaj jas jaJ jak jad jay jac jaQ cyI f2 jaT cyI jb0)) hP hD [0, 1] [2] [1, 2, 0] hCc rfl (by decide +kernel) (by decide +kernel) (by decide +kernel) rfl hk1 hFc hP1 hD1
  generalize H1 = H at hP hS ⊢
  refine lv_if_eq (tgt := 40) hx hb (dt_of tkX11_debt_k0 7 rfl) (by decide) (fun c4 => ?_) (fun c4 => ?_)
  · have hw := hw.1 c4
    refine lv_iconst (v := 0) hx hb (dt_of tkX11_debt_k29 8 rfl) (by decide) ?_
    exact ((W.iret (v := 0) hx hb hr (fun t ht hW => ⟨⟨0, (x1, f2), rfl, hw, by rw [ht]; exact hP, va_K.moved hW.alike hK, hD⟩, hS.F ht⟩) hS.2.2 (dt_of tkX11_debt_k29 9 rfl)))
  · have hw := hw.2 c4
    refine lv_aload_n hx hb (dt_of tkX11_debt_k0 8 rfl) rfl (lv_at hl 0 rfl) ?_
    refine lv_iload_n hx hb (dt_of tkX11_debt_k0 9 rfl) rfl (lv_at hl 2 rfl) ?_
    refine lv_iconst (v := 1) hx hb (dt_of tkX11_debt_k0 10 rfl) (by decide) ?_
    obtain ⟨hCc, hPc, hDc, hFc⟩ := va_pick (ws' := (wd09_9 a0 x1 jaQ jaD ja7 jby jbf jaM jaY jap jaK jal jam jax jao ja6 jaV ja8 jae jag jaf ja0 jaC jaP jaw jaI jaZ jaH jaS jan jaU jaE jar jaL jah jaB jaa jaz jaG jab jaT z0_s jaq jai jaO jaA jat jau jav jaj jas jaJ jak jad jay jac jaQ cyI f2)) hP hD hS hA [0, 1] (by decide +kernel) rfl
    refine va_calli (va_runV (As := [.int p2, .int 1]) (rest := []) ⟨hx, hb, hml, hown, hts⟩ (ck_X11_isHare l dC dI cyB cyI cyJ cyP a0 jaQ H.size (jaD) (ja7) (jby) (jbf) (jaM) (jaY) (jap) (jaK) (jal) (jam) (jax) (jao) (ja6) (jaV) (ja8) (jae) (jag) (jaf) (ja0) (jaP) (jaw) (jaI) (jaZ) (jaH) (jaS) (jan) (jaU) (jaE) (jar) (jaL) (jah) (jaB) (jaa) (jaz) (jaG) (jab) (.ref jaT) (z0_s) (jaq) (jai) (jaO) (jaA) (jat) (jau) (jav) (jaj) (jas) (jaJ) (jak) (jad) (jay) (jac) jaC x1 f2 p2 1 hw) (cwV 2 hts gX11_debt_X11_isHare rfl rfl rfl (by decide +kernel) ⟨Nat.le_of_ble_eq_true rfl, Nat.le_of_ble_eq_true rfl⟩) ⟨cPc_blind, va_recv (q := (RX11, TX11, 55)) hK hPc (ci := 11) (q0 := 0) rfl rfl, cPc_pre hPc hK hDc hNw⟩ rfl rfl hl.1 rfl (lv_room (Nat.le_of_ble_eq_true rfl)) (dt_of tkX11_debt_k0 11 rfl) ⟨Nat.le_of_ble_eq_true rfl, Nat.le_of_ble_eq_true rfl⟩) hS (fun q _ h => hFc q h) hFc (fun r7 u t H1 locs ht hvm hw hB hz1 hk1 hS => ?_)
    obtain ⟨x5, f6⟩ := u
    obtain ⟨hP1, hK1, hD1⟩ := hB
    rw [ht] at hP1
    obtain ⟨hP, hD⟩ := va_joinN (wr := [(jaT, .inl (cyI, 68, .inl jb0))]) (w1 := (wd09_9 a0 x5 jaQ jaD ja7 jby jbf jaM jaY jap jaK jal jam jax jao ja6 jaV ja8 jae jag jaf ja0 jaC jaP jaw jaI jaZ jaH jaS jan jaU jaE jar jaL jah jaB jaa jaz jaG jab jaT z0_s jaq jai jaO jaA jat jau jav jaj jas jaJ jak jad jay jac jaQ cyI f6)) (wn := (wd09_8 a0 x5 jaQ jaD ja7 jby jbf jaM jaY jap jaK jal jam jax jao ja6 jaV ja8 jae jag jaf ja0 jaC jaP jaw jaI jaZ jaH jaS jan jaU jaE jar jaL jah jaB jaa jaz jaG jab jaT z0_s jaq jai jaO jaA jat jau jav jaj jas jaJ jak jad jay jac jaQ cyI f6 jaT cyI jb0)) hP hD [0, 1] [2] [1, 2, 0] hCc rfl (by decide +kernel) (by decide +kernel) (by decide +kernel) rfl hk1 hFc hP1 hD1
    generalize H1 = H at hP hS ⊢
    refine lv_if_eq (tgt := 40) hx hb (dt_of tkX11_debt_k0 12 rfl) (by decide) (fun c8 => ?_) (fun c8 => ?_)
    · have hw := hw.1 c8
      refine lv_iconst (v := 0) hx hb (dt_of tkX11_debt_k29 8 rfl) (by decide) ?_
      exact ((W.iret (v := 0) hx hb hr (fun t ht hW => ⟨⟨0, (x5, f6), rfl, hw, by rw [ht]; exact hP, va_K.moved hW.alike hK, hD⟩, hS.F ht⟩) hS.2.2 (dt_of tkX11_debt_k29 9 rfl)))
    · have hw := hw.2 c8
      refine lv_aload_n hx hb (dt_of tkX11_debt_k0 13 rfl) rfl (lv_at hl 0 rfl) ?_
      refine va_get (D := (dC, dI)) (ci := 11) (v := .ref jaT) (C := RX11) (T := TX11) (N := 55) hx hb hts ui_X11_debt_X11 hown hK hP 0 rfl rfl 39 (by decide) (hts _ uw_X11_debt_f68) (fun _ h9 => h9) rfl (dt_of tkX11_debt_k0 14 rfl) ?_
      refine lv_bipush (v := 30) hx hb (dt_of tkX11_debt_k0 15 rfl) (by decide) ?_
      refine lv_bipush (v := 6) hx hb (dt_of tkX11_debt_k29 0 rfl) (by decide) ?_
      refine lv_iload_n hx hb (dt_of tkX11_debt_k29 1 rfl) rfl (lv_at hl 1 rfl) ?_
      refine lv_imul hx hb (dt_of tkX11_debt_k29 2 rfl) ?_
      refine lv_iadd hx hb (dt_of tkX11_debt_k29 3 rfl) ?_
      refine lv_topi (fun x9 ex9 => ?_)
      have hw := hw x9 ex9
      refine lv_iload_n hx hb (dt_of tkX11_debt_k29 4 rfl) rfl (lv_at hl 2 rfl) ?_
      refine lv_iadd hx hb (dt_of tkX11_debt_k29 5 rfl) ?_
      refine lv_topi (fun x10 ex10 => ?_)
      have hw := hw x10 ex10
      obtain ⟨hi9, hw⟩ := hw
      refine va_iald hx hb hK hP 2 1 rfl rfl hi9 (dt_of tkX11_debt_k29 6 rfl) ?_
      refine lv_topi (fun x11 ex11 => ?_)
      have hw := hw x11 ex11
      refine lv_goto (tgt := 41) hx hb (dt_of tkX11_debt_k29 7 rfl) (by decide) ?_
      exact ((W.iret (v := x11) hx hb hr (fun t ht hW => ⟨⟨x11, (x5, f6), rfl, hw, by rw [ht]; exact hP, va_K.moved hW.alike hK, hD⟩, hS.F ht⟩) hS.2.2 (dt_of tkX11_debt_k29 9 rfl)))
set_option maxHeartbeats 4000000 in
set_option maxRecDepth 100000 in
theorem ck_X11_isSmall (l : Launch) (dC : Nat → ClassId) (dI : Nat → Nat → Nat) (cyB cyI cyJ cyP : ClassId) (sz : Nat)    (p0 : Int32) {Q : Int32 → Prop} (hw : wq_X11_isSmall   p0 Q) : Met l yX11_isSmall wsX11_isSmall ({ frames := 0, cells := 0, slots := 0, locals := 0 }) (va_Pc [.int p0] (cPc (dC, dI) (kT cyB cyI cyJ cyP) [] sz)) (va_Qi (fun (r : Int32) (_ : Unit) => Q r ) (cB (dC, dI) (kT cyB cyI cyJ cyP) (va_A [] sz) (fun u : Unit => ([] : va_W))) (va_A [] sz)) 0 0 (va_A [] sz) := by
  refine Met.ofW (cc := cX11_isSmall) (maxL := 1) (ret := (some .boolean)) (by decide) rfl ?_
  intro p e s m args below meth c s₁ B hml hv
  obtain ⟨rfl, hsz, hP, hK, hD0, hNw⟩ := hv
  have hx := B.exec
  have hb := B.bytes
  have hr := B.returns
  have hts := atoms_spec (ws := wsX11_isSmall) B.pre
  have hown : s.vm.findClass RX11 = some m.cls := findClass_of_methodNamed B.named
  have hlocks := B.notSynchronized
  subst hsz
  have hD := hD0.self (sz := s.heap.size)
  generalize hAe : va_A [] s.heap.size = A at hD ⊢
  have hA : ∀ q : Nat, s.heap.size ≤ q → A q := fun q h => by rw [← hAe]; exact Or.inr h
  have hS : va_S A s.heap s.heap [] := va_S.rf
  have hP : va_P (dC, dI) vwCl [] s.heap := hP
  have hl := lv_entry ([.int p0]) (n := 1) (Nat.le_of_ble_eq_true rfl)
  rw [lg_entry_eq]
  generalize (lg_sl ([.int p0]) ++ List.replicate (1 - (lg_sl ([.int p0])).length) Slot.unset).toArray = ls at hl ⊢
  have hl : lv_has ls 1 [(0, .int p0)] := hl
  have C0 : cfx p s m _ meth c cX11_isSmall (some .boolean) wsX11_isSmall RX11 1 A (dC, dI) (kT cyB cyI cyJ cyP) := ⟨hx, hb, hr, hts, hown, hlocks, hml, hA, hK, hNw⟩
  clear hAe
  obtain ⟨H, hH⟩ : ∃ H, H = s.heap := ⟨_, rfl⟩
  rw [← hH] at hP ⊢
  have hS : va_S A s.heap H [] := by rw [hH]; exact va_S.rf
  have hS := hS
  refine lv_iload_n hx hb (dt_of tkX11_isSmall_k0 0 rfl) rfl (lv_at hl 0 rfl) ?_
  refine lv_bipush (v := 97) hx hb (dt_of tkX11_isSmall_k0 1 rfl) (by decide) ?_
  refine lv_icmp_lt (tgt := 16) hx hb (dt_of tkX11_isSmall_k0 2 rfl) (by decide) (fun c1 => ?_) (fun c1 => ?_)
  · have hw := hw.1 c1
    refine lv_iconst (v := 0) hx hb (dt_of tkX11_isSmall_k0 8 rfl) (by decide) ?_
    exact ((W.zret (v := 0) hx hb hr rfl (fun t ht hW => ⟨⟨0, (), rfl, hw, by rw [ht]; exact hP, va_K.moved hW.alike hK, hD⟩, hS.F ht⟩) hS.2.2 (dt_of tkX11_isSmall_k0 9 rfl)))
  · have hw := hw.2 c1
    refine lv_iload_n hx hb (dt_of tkX11_isSmall_k0 3 rfl) rfl (lv_at hl 0 rfl) ?_
    refine lv_bipush (v := 122) hx hb (dt_of tkX11_isSmall_k0 4 rfl) (by decide) ?_
    refine lv_icmp_gt (tgt := 16) hx hb (dt_of tkX11_isSmall_k0 5 rfl) (by decide) (fun c2 => ?_) (fun c2 => ?_)
    · have hw := hw.1 c2
      refine lv_iconst (v := 0) hx hb (dt_of tkX11_isSmall_k0 8 rfl) (by decide) ?_
      exact ((W.zret (v := 0) hx hb hr rfl (fun t ht hW => ⟨⟨0, (), rfl, hw, by rw [ht]; exact hP, va_K.moved hW.alike hK, hD⟩, hS.F ht⟩) hS.2.2 (dt_of tkX11_isSmall_k0 9 rfl)))
    · have hw := hw.2 c2
      refine lv_iconst (v := 1) hx hb (dt_of tkX11_isSmall_k0 6 rfl) (by decide) ?_
      refine lv_goto (tgt := 17) hx hb (dt_of tkX11_isSmall_k0 7 rfl) (by decide) ?_
      exact ((W.zret (v := 1) hx hb hr rfl (fun t ht hW => ⟨⟨1, (), rfl, hw, by rw [ht]; exact hP, va_K.moved hW.alike hK, hD⟩, hS.F ht⟩) hS.2.2 (dt_of tkX11_isSmall_k0 9 rfl)))
theorem ui_X11_word_X11 : ∀ w ∈ u_ws RX11 TX11 55, w ∈ wsX11_word := uiM mbX11_word euX11 (by decide +kernel)
theorem uw_X11_word_f120 : (.fieldLink RX11 120 "MarchHaresModel" "at" "I" : Cond) ∈ wsX11_word := mbX11_word 1103 (by decide +kernel)
theorem uw_X11_word_f123 : (.fieldLink RX11 123 "MarchHaresModel" "size" "I" : Cond) ∈ wsX11_word := mbX11_word 1153 (by decide +kernel)
theorem uw_X11_word_f20 : (.fieldLink RX11 20 "MarchHaresModel" "tape" "[I" : Cond) ∈ wsX11_word := mbX11_word 400 (by decide +kernel)
set_option maxHeartbeats 4000000 in
set_option maxRecDepth 100000 in
theorem kb_X11_word_57 {p : Program} {l : Launch} {e : Env} {s : State} {m : MethodId} {args : Array Value} {below : List Frame} {meth : Method} {c : Code} {A : Nat → Prop} (dC : Nat → ClassId) (dI : Nat → Nat → Nat) (cyB cyI cyJ cyP : ClassId) (a0 jaW : Nat) (jaX jaF jaD jbf jaM jaY jap jal jam jax jao ja6 jaV ja8 jae jag jaf ja0 ja4 jaP jaw jaI jaZ jaH jaS jan jaU jaE jar jaL jah jaB jaa jaz jaG jab ja2 z0_s jaq jai jaO jaA jat jau jav jaj jas jaJ jak jad jay jac : Value) (jbx : Int32) (jbC : Nat → Int32) (Q : Int32 → Int32 → Prop) (K14 : Int32 → Int32 → Int32 → Int32 → Prop) (hK14 : ∀ (H : Heap) (locs : List Loc) (ls : Array Slot) (jcP l1 l2 l3 : Int32), va_P (dC, dI) vwCl (wd09_10 a0 jaX jaF jaD jbx jcP jbf jaM jaY jap jaW jal jam jax jao ja6 jaV ja8 jae jag jaf ja0 ja4 jaP jaw jaI jaZ jaH jaS jan jaU jaE jar jaL jah jaB jaa jaz jaG jab ja2 z0_s jaq jai jaO jaA jat jau jav jaj jas jaJ jak jad jay jac jaW cyI jbC) H → va_D A (wd09_10 a0 jaX jaF jaD jbx jcP jbf jaM jaY jap jaW jal jam jax jao ja6 jaV ja8 jae jag jaf ja0 ja4 jaP jaw jaI jaZ jaH jaS jan jaU jaE jar jaL jah jaB jaa jaz jaG jab ja2 z0_s jaq jai jaO jaA jat jau jav jaj jas jaJ jak jad jay jac jaW cyI jbC) → va_S A s.heap H locs → lv_has ls 4 [(0, .ref a0), (1, .int l1), (2, .int l2), (3, .int l3)] → K14 jcP l1 l2 l3 → W p l e (headSpec wsX11_word ({ frames := 1, cells := 0, slots := 0, locals := 20 })).room s m args below meth c H locs 0 0 (MQ below (va_Qi (fun (r u : Int32) => Q r u) (cB (dC, dI) (kT cyB cyI cyJ cyP) A (fun u : Int32 => ((wd09_10 a0 jaX jaF jaD jbx u jbf jaM jaY jap jaW jal jam jax jao ja6 jaV ja8 jae jag jaf ja0 ja4 jaP jaw jaI jaZ jaH jaS jan jaU jaE jar jaL jah jaB jaa jaz jaG jab ja2 z0_s jaq jai jaO jaA jat jau jav jaj jas jaJ jak jad jay jac jaW cyI jbC) : va_W))) A) args s 0 0 A) (F0 m 14 ls [])) (C0 : cfx p s m args meth c cX11_word (some .int) wsX11_word RX11 4 A (dC, dI) (kT cyB cyI cyJ cyP)) : ∀ (H : Heap) (locs : List Loc) (ls : Array Slot) (jcP l2 l3 s0 : Int32), va_P (dC, dI) vwCl (wd09_10 a0 jaX jaF jaD jbx jcP jbf jaM jaY jap jaW jal jam jax jao ja6 jaV ja8 jae jag jaf ja0 ja4 jaP jaw jaI jaZ jaH jaS jan jaU jaE jar jaL jah jaB jaa jaz jaG jab ja2 z0_s jaq jai jaO jaA jat jau jav jaj jas jaJ jak jad jay jac jaW cyI jbC) H → va_D A (wd09_10 a0 jaX jaF jaD jbx jcP jbf jaM jaY jap jaW jal jam jax jao ja6 jaV ja8 jae jag jaf ja0 ja4 jaP jaw jaI jaZ jaH jaS jan jaU jaE jar jaL jah jaB jaa jaz jaG jab ja2 z0_s jaq jai jaO jaA jat jau jav jaj jas jaJ jak jad jay jac jaW cyI jbC) → va_S A s.heap H locs → lv_has ls 4 [(0, .ref a0), (2, .int l2), (3, .int l3)] → wb_X11_word_57 jbx jbC Q K14 jcP l2 l3 s0 → W p l e (headSpec wsX11_word ({ frames := 1, cells := 0, slots := 0, locals := 20 })).room s m args below meth c H locs 0 0 (MQ below (va_Qi (fun (r u : Int32) => Q r u) (cB (dC, dI) (kT cyB cyI cyJ cyP) A (fun u : Int32 => ((wd09_10 a0 jaX jaF jaD jbx u jbf jaM jaY jap jaW jal jam jax jao ja6 jaV ja8 jae jag jaf ja0 ja4 jaP jaw jaI jaZ jaH jaS jan jaU jaE jar jaL jah jaB jaa jaz jaG jab ja2 z0_s jaq jai jaO jaA jat jau jav jaj jas jaJ jak jad jay jac jaW cyI jbC) : va_W))) A) args s 0 0 A) (F0 m 57 ls [.int s0]) := by
  obtain ⟨hx, hb, hr, hts, hown, hlocks, hml, hA, hK, hNw⟩ := id C0
  intro H locs ls jcP l2 l3 s0 hP hD hS hl hw
  refine lv_istore_n (lv' := [(1, .int s0), (0, .ref a0), (2, .int l2), (3, .int l3)]) hx hb (dt_of tkX11_word_k52 3 rfl) rfl hl (by decide) rfl (fun ls hl => ?_)
  obtain ⟨x10, ex10⟩ : ∃ y : Int32, y = l2 + 1 := ⟨_, rfl⟩
  have hw := hw x10 ex10
  refine lv_iinc (v := x10) (lv' := [(2, .int x10), (1, .int s0), (0, .ref a0), (3, .int l3)]) hx hb (dt_of tkX11_word_k52 4 rfl) hl (k := 2) rfl (by rw [ex10]; rfl) (by decide) rfl (fun ls hl => ?_)
  obtain ⟨x11, ex11⟩ : ∃ y : Int32, y = l3 + 1 := ⟨_, rfl⟩
  have hw := hw x11 ex11
  refine lv_iinc (v := x11) (lv' := [(3, .int x11), (2, .int x10), (1, .int s0), (0, .ref a0)]) hx hb (dt_of tkX11_word_k52 5 rfl) hl (k := 3) rfl (by rw [ex11]; rfl) (by decide) rfl (fun ls hl => ?_)
  refine lv_goto (tgt := 14) hx hb (dt_of tkX11_word_k52 6 rfl) (by decide) ?_
  exact hK14 _ _ _ jcP s0 x10 x11 hP hD hS (lv_sub hl [3, 2, 1, 0] rfl) hw
set_option maxHeartbeats 4000000 in
set_option maxRecDepth 100000 in
theorem kb_X11_word_67 {p : Program} {l : Launch} {e : Env} {s : State} {m : MethodId} {args : Array Value} {below : List Frame} {meth : Method} {c : Code} {A : Nat → Prop} (dC : Nat → ClassId) (dI : Nat → Nat → Nat) (cyB cyI cyJ cyP : ClassId) (a0 jaW : Nat) (jaX jaF jaD jbf jaM jaY jap jal jam jax jao ja6 jaV ja8 jae jag jaf ja0 ja4 jaP jaw jaI jaZ jaH jaS jan jaU jaE jar jaL jah jaB jaa jaz jaG jab ja2 z0_s jaq jai jaO jaA jat jau jav jaj jas jaJ jak jad jay jac : Value) (jbx : Int32) (jbC : Nat → Int32) (Q : Int32 → Int32 → Prop)  (C0 : cfx p s m args meth c cX11_word (some .int) wsX11_word RX11 4 A (dC, dI) (kT cyB cyI cyJ cyP)) : ∀ (H : Heap) (locs : List Loc) (ls : Array Slot) (jcP l1 l2 : Int32), va_P (dC, dI) vwCl (wd09_10 a0 jaX jaF jaD jbx jcP jbf jaM jaY jap jaW jal jam jax jao ja6 jaV ja8 jae jag jaf ja0 ja4 jaP jaw jaI jaZ jaH jaS jan jaU jaE jar jaL jah jaB jaa jaz jaG jab ja2 z0_s jaq jai jaO jaA jat jau jav jaj jas jaJ jak jad jay jac jaW cyI jbC) H → va_D A (wd09_10 a0 jaX jaF jaD jbx jcP jbf jaM jaY jap jaW jal jam jax jao ja6 jaV ja8 jae jag jaf ja0 ja4 jaP jaw jaI jaZ jaH jaS jan jaU jaE jar jaL jah jaB jaa jaz jaG jab ja2 z0_s jaq jai jaO jaA jat jau jav jaj jas jaJ jak jad jay jac jaW cyI jbC) → va_S A s.heap H locs → lv_has ls 4 [(1, .int l1), (2, .int l2)] → wb_X11_word_67 jbx jbC Q  jcP l1 l2 → W p l e (headSpec wsX11_word ({ frames := 1, cells := 0, slots := 0, locals := 20 })).room s m args below meth c H locs 0 0 (MQ below (va_Qi (fun (r u : Int32) => Q r u) (cB (dC, dI) (kT cyB cyI cyJ cyP) A (fun u : Int32 => ((wd09_10 a0 jaX jaF jaD jbx u jbf jaM jaY jap jaW jal jam jax jao ja6 jaV ja8 jae jag jaf ja0 ja4 jaP jaw jaI jaZ jaH jaS jan jaU jaE jar jaL jah jaB jaa jaz jaG jab ja2 z0_s jaq jai jaO jaA jat jau jav jaj jas jaJ jak jad jay jac jaW cyI jbC) : va_W))) A) args s 0 0 A) (F0 m 67 ls []) := by
  obtain ⟨hx, hb, hr, hts, hown, hlocks, hml, hA, hK, hNw⟩ := id C0
  intro H locs ls jcP l1 l2 hP hD hS hl hw
  refine lv_iload_n hx hb (dt_of tkX11_word_k52 7 rfl) rfl (lv_at hl 1 rfl) ?_
  refine lv_bipush (v := 6) hx hb (dt_of tkX11_word_k52 8 rfl) (by decide) ?_
  refine lv_icmp_le (tgt := 77) hx hb (dt_of tkX11_word_k52 9 rfl) (by decide) (fun c9 => ?_) (fun c9 => ?_)
  · have hw := hw.1 c9
    refine lv_iload_n hx hb (dt_of tkX11_word_k52 12 rfl) rfl (lv_at hl 0 rfl) ?_
    exact ((W.iret (v := l1) hx hb hr (fun t ht hW => ⟨⟨l1, (jcP), rfl, hw, by rw [ht]; exact hP, va_K.moved hW.alike hK, hD⟩, hS.F ht⟩) hS.2.2 (dt_of tkX11_word_k52 13 rfl)))
  · have hw := hw.2 c9
    refine lv_iconst (v := 0) hx hb (dt_of tkX11_word_k52 10 rfl) (by decide) ?_
    refine lv_goto (tgt := 78) hx hb (dt_of tkX11_word_k52 11 rfl) (by decide) ?_
    exact ((W.iret (v := 0) hx hb hr (fun t ht hW => ⟨⟨0, (jcP), rfl, hw, by rw [ht]; exact hP, va_K.moved hW.alike hK, hD⟩, hS.F ht⟩) hS.2.2 (dt_of tkX11_word_k52 13 rfl)))
set_option maxHeartbeats 4000000 in
set_option maxRecDepth 100000 in
theorem kl_X11_word_14 {p : Program} {l : Launch} {e : Env} {s : State} {m : MethodId} {args : Array Value} {below : List Frame} {meth : Method} {c : Code} {A : Nat → Prop} (dC : Nat → ClassId) (dI : Nat → Nat → Nat) (cyB cyI cyJ cyP : ClassId) (a0 jaW : Nat) (jaX jaF jaD jbf jaM jaY jap jal jam jax jao ja6 jaV ja8 jae jag jaf ja0 ja4 jaP jaw jaI jaZ jaH jaS jan jaU jaE jar jaL jah jaB jaa jaz jaG jab ja2 z0_s jaq jai jaO jaA jat jau jav jaj jas jaJ jak jad jay jac : Value) (jbx : Int32) (jbC : Nat → Int32) (Q : Int32 → Int32 → Prop)  (C0 : cfx p s m args meth c cX11_word (some .int) wsX11_word RX11 4 A (dC, dI) (kT cyB cyI cyJ cyP)) : ∀ (n : Nat) (H : Heap) (locs : List Loc) (ls : Array Slot) (jcP l1 l2 l3 : Int32), va_P (dC, dI) vwCl (wd09_10 a0 jaX jaF jaD jbx jcP jbf jaM jaY jap jaW jal jam jax jao ja6 jaV ja8 jae jag jaf ja0 ja4 jaP jaw jaI jaZ jaH jaS jan jaU jaE jar jaL jah jaB jaa jaz jaG jab ja2 z0_s jaq jai jaO jaA jat jau jav jaj jas jaJ jak jad jay jac jaW cyI jbC) H → va_D A (wd09_10 a0 jaX jaF jaD jbx jcP jbf jaM jaY jap jaW jal jam jax jao ja6 jaV ja8 jae jag jaf ja0 ja4 jaP jaw jaI jaZ jaH jaS jan jaU jaE jar jaL jah jaB jaa jaz jaG jab ja2 z0_s jaq jai jaO jaA jat jau jav jaj jas jaJ jak jad jay jac jaW cyI jbC) → va_S A s.heap H locs → lv_has ls 4 [(0, .ref a0), (1, .int l1), (2, .int l2), (3, .int l3)] → wl_X11_word_14 jbx jbC Q  n jcP l1 l2 l3 → W p l e (headSpec wsX11_word ({ frames := 1, cells := 0, slots := 0, locals := 20 })).room s m args below meth c H locs 0 0 (MQ below (va_Qi (fun (r u : Int32) => Q r u) (cB (dC, dI) (kT cyB cyI cyJ cyP) A (fun u : Int32 => ((wd09_10 a0 jaX jaF jaD jbx u jbf jaM jaY jap jaW jal jam jax jao ja6 jaV ja8 jae jag jaf ja0 ja4 jaP jaw jaI jaZ jaH jaS jan jaU jaE jar jaL jah jaB jaa jaz jaG jab ja2 z0_s jaq jai jaO jaA jat jau jav jaj jas jaJ jak jad jay jac jaW cyI jbC) : va_W))) A) args s 0 0 A) (F0 m 14 ls []) := by
  obtain ⟨hx, hb, hr, hts, hown, hlocks, hml, hA, hK, hNw⟩ := id C0
  intro n
  induction n with
  | zero => intro H locs ls jcP l1 l2 l3 hP hD hS hl hw; exact False.elim hw
  | succ n ih =>
    intro H locs ls jcP l1 l2 l3 hP hD hS hl hw
    refine lv_iload_n hx hb (dt_of tkX11_word_k0 10 rfl) rfl (lv_at hl 3 rfl) ?_
    refine lv_aload_n hx hb (dt_of tkX11_word_k0 11 rfl) rfl (lv_at hl 0 rfl) ?_
    refine va_get (D := (dC, dI)) (ci := 11) (v := .int jbx) (C := RX11) (T := TX11) (N := 55) hx hb hts ui_X11_word_X11 hown hK hP 0 rfl rfl 3 (by decide) (hts _ uw_X11_word_f123) (fun _ h9 => h9) rfl (dt_of tkX11_word_k0 12 rfl) ?_
    refine lv_icmp_ge (tgt := 67) hx hb (dt_of tkX11_word_k0 13 rfl) (by decide) (fun c3 => ?_) (fun c3 => ?_)
    · have hw := hw.1 c3
      exact kb_X11_word_67 dC dI cyB cyI cyJ cyP a0 jaW jaX jaF jaD jbf jaM jaY jap jal jam jax jao ja6 jaV ja8 jae jag jaf ja0 ja4 jaP jaw jaI jaZ jaH jaS jan jaU jaE jar jaL jah jaB jaa jaz jaG jab ja2 z0_s jaq jai jaO jaA jat jau jav jaj jas jaJ jak jad jay jac jbx jbC Q  C0 _ _ _ jcP l1 l2 hP hD hS (lv_sub hl [1, 2] rfl) hw
    · have hw := hw.2 c3
      refine lv_aload_n hx hb (dt_of tkX11_word_k0 14 rfl) rfl (lv_at hl 0 rfl) ?_
      refine va_get (D := (dC, dI)) (ci := 11) (v := .ref jaW) (C := RX11) (T := TX11) (N := 55) hx hb hts ui_X11_word_X11 hown hK hP 0 rfl rfl 9 (by decide) (hts _ uw_X11_word_f20) (fun _ h9 => h9) rfl (dt_of tkX11_word_k0 15 rfl) ?_
      refine lv_iload_n hx hb (dt_of tkX11_word_k26 0 rfl) rfl (lv_at hl 3 rfl) ?_
      obtain ⟨hi9, hw⟩ := hw
      refine va_iald hx hb hK hP 1 1 rfl rfl hi9 (dt_of tkX11_word_k26 1 rfl) ?_
      refine lv_topi (fun x4 ex4 => ?_)
      have hw := hw x4 ex4
      obtain ⟨hCc, hPc, hDc, hFc⟩ := va_pick (ws' := []) hP hD hS hA [] (by decide +kernel) rfl
      refine va_calli (va_runS (As := [.int x4]) (rest := []) ⟨hx, hb, hml, hown, hts⟩ (ck_X11_isSmall l dC dI cyB cyI cyJ cyP  H.size    x4 hw) (va_cwS 1 hts gX11_word_X11_isSmall rfl rfl rfl (by decide +kernel) ⟨Nat.le_of_ble_eq_true rfl, Nat.le_of_ble_eq_true rfl⟩) ⟨cPc_blind, cPc_pre hPc hK hDc hNw⟩ rfl rfl hl.1 rfl (lv_room (Nat.le_of_ble_eq_true rfl)) (dt_of tkX11_word_k26 2 rfl) ⟨Nat.le_of_ble_eq_true rfl, Nat.le_of_ble_eq_true rfl⟩) hS (fun q _ h => hFc q h) hFc (fun r5 u t H1 locs ht hvm hw hB hz1 hk1 hS => ?_)
      obtain ⟨hP1, hK1, hD1⟩ := hB
      rw [ht] at hP1
      obtain ⟨hP, hD⟩ := va_joinI (wr := (wd09_10 a0 jaX jaF jaD jbx jcP jbf jaM jaY jap jaW jal jam jax jao ja6 jaV ja8 jae jag jaf ja0 ja4 jaP jaw jaI jaZ jaH jaS jan jaU jaE jar jaL jah jaB jaa jaz jaG jab ja2 z0_s jaq jai jaO jaA jat jau jav jaj jas jaJ jak jad jay jac jaW cyI jbC)) (w1 := []) (wn := (wd09_10 a0 jaX jaF jaD jbx jcP jbf jaM jaY jap jaW jal jam jax jao ja6 jaV ja8 jae jag jaf ja0 ja4 jaP jaw jaI jaZ jaH jaS jan jaU jaE jar jaL jah jaB jaa jaz jaG jab ja2 z0_s jaq jai jaO jaA jat jau jav jaj jas jaJ jak jad jay jac jaW cyI jbC)) hP hD [] [0, 1] hCc rfl (by decide +kernel) (by decide +kernel) rfl hk1 hFc hP1 hD1
      generalize H1 = H at hP hS ⊢
      refine lv_if_eq (tgt := 67) hx hb (dt_of tkX11_word_k26 3 rfl) (by decide) (fun c6 => ?_) (fun c6 => ?_)
      · have hw := hw.1 c6
        exact kb_X11_word_67 dC dI cyB cyI cyJ cyP a0 jaW jaX jaF jaD jbf jaM jaY jap jal jam jax jao ja6 jaV ja8 jae jag jaf ja0 ja4 jaP jaw jaI jaZ jaH jaS jan jaU jaE jar jaL jah jaB jaa jaz jaG jab ja2 z0_s jaq jai jaO jaA jat jau jav jaj jas jaJ jak jad jay jac jbx jbC Q  C0 _ _ _ jcP l1 l2 hP hD hS (lv_sub hl [1, 2] rfl) hw
      · have hw := hw.2 c6
        refine lv_iload_n hx hb (dt_of tkX11_word_k26 4 rfl) rfl (lv_at hl 2 rfl) ?_
        refine lv_bipush (v := 6) hx hb (dt_of tkX11_word_k26 5 rfl) (by decide) ?_
        refine lv_icmp_ge (tgt := 56) hx hb (dt_of tkX11_word_k26 6 rfl) (by decide) (fun c7 => ?_) (fun c7 => ?_)
        · have hw := hw.1 c7
          refine lv_iconst (v := 0) hx hb (dt_of tkX11_word_k52 2 rfl) (by decide) ?_
          exact kb_X11_word_57 dC dI cyB cyI cyJ cyP a0 jaW jaX jaF jaD jbf jaM jaY jap jal jam jax jao ja6 jaV ja8 jae jag jaf ja0 ja4 jaP jaw jaI jaZ jaH jaS jan jaU jaE jar jaL jah jaB jaa jaz jaG jab ja2 z0_s jaq jai jaO jaA jat jau jav jaj jas jaJ jak jad jay jac jbx jbC Q (wl_X11_word_14 jbx jbC Q  n) ih C0 _ _ _ jcP l2 l3 0 hP hD hS (lv_sub hl [0, 2, 3] rfl) hw
        · have hw := hw.2 c7
          refine lv_iload_n hx hb (dt_of tkX11_word_k26 7 rfl) rfl (lv_at hl 1 rfl) ?_
          refine lv_iconst (v := 5) hx hb (dt_of tkX11_word_k26 8 rfl) (by decide) ?_
          refine lv_ishl hx hb (dt_of tkX11_word_k26 9 rfl) ?_
          refine lv_aload_n hx hb (dt_of tkX11_word_k26 10 rfl) rfl (lv_at hl 0 rfl) ?_
          refine va_get (D := (dC, dI)) (ci := 11) (v := .ref jaW) (C := RX11) (T := TX11) (N := 55) hx hb hts ui_X11_word_X11 hown hK hP 0 rfl rfl 9 (by decide) (hts _ uw_X11_word_f20) (fun _ h9 => h9) rfl (dt_of tkX11_word_k26 11 rfl) ?_
          refine lv_iload_n hx hb (dt_of tkX11_word_k26 12 rfl) rfl (lv_at hl 3 rfl) ?_
          obtain ⟨hi9, hw⟩ := hw
          refine va_iald hx hb hK hP 1 1 rfl rfl hi9 (dt_of tkX11_word_k26 13 rfl) ?_
          refine lv_topi (fun x8 ex8 => ?_)
          have hw := hw x8 ex8
          refine lv_bipush (v := 96) hx hb (dt_of tkX11_word_k26 14 rfl) (by decide) ?_
          refine lv_isub hx hb (dt_of tkX11_word_k26 15 rfl) ?_
          refine lv_ior hx hb (dt_of tkX11_word_k52 0 rfl) ?_
          refine lv_goto (tgt := 57) hx hb (dt_of tkX11_word_k52 1 rfl) (by decide) ?_
          exact kb_X11_word_57 dC dI cyB cyI cyJ cyP a0 jaW jaX jaF jaD jbf jaM jaY jap jal jam jax jao ja6 jaV ja8 jae jag jaf ja0 ja4 jaP jaw jaI jaZ jaH jaS jan jaU jaE jar jaL jah jaB jaa jaz jaG jab ja2 z0_s jaq jai jaO jaA jat jau jav jaj jas jaJ jak jad jay jac jbx jbC Q (wl_X11_word_14 jbx jbC Q  n) ih C0 _ _ _ jcP l2 l3 ((l1 <<< (5 &&& 31)) ||| (x8 - 96)) hP hD hS (lv_sub hl [0, 2, 3] rfl) hw
set_option maxHeartbeats 4000000 in
set_option maxRecDepth 100000 in
theorem ck_X11_word (l : Launch) (dC : Nat → ClassId) (dI : Nat → Nat → Nat) (cyB cyI cyJ cyP : ClassId) (a0 jaW sz : Nat) (jaX jaF jaD jbf jaM jaY jap jal jam jax jao ja6 jaV ja8 jae jag jaf ja0 ja4 jaP jaw jaI jaZ jaH jaS jan jaU jaE jar jaL jah jaB jaa jaz jaG jab ja2 z0_s jaq jai jaO jaA jat jau jav jaj jas jaJ jak jad jay jac : Value) (jbx : Int32) (jbC : Nat → Int32) (jcP : Int32)  {Q : Int32 → Int32 → Prop} (hw : wq_X11_word jbx jbC jcP  Q) : Met l yX11_word wsX11_word ({ frames := 1, cells := 0, slots := 0, locals := 20 }) (va_Pc [.ref a0] (cPc (dC, dI) (kT cyB cyI cyJ cyP) (wd09_10 a0 jaX jaF jaD jbx jcP jbf jaM jaY jap jaW jal jam jax jao ja6 jaV ja8 jae jag jaf ja0 ja4 jaP jaw jaI jaZ jaH jaS jan jaU jaE jar jaL jah jaB jaa jaz jaG jab ja2 z0_s jaq jai jaO jaA jat jau jav jaj jas jaJ jak jad jay jac jaW cyI jbC) sz)) (va_Qi (fun (r u : Int32) => Q r u) (cB (dC, dI) (kT cyB cyI cyJ cyP) (va_A (wd09_10 a0 jaX jaF jaD jbx jcP jbf jaM jaY jap jaW jal jam jax jao ja6 jaV ja8 jae jag jaf ja0 ja4 jaP jaw jaI jaZ jaH jaS jan jaU jaE jar jaL jah jaB jaa jaz jaG jab ja2 z0_s jaq jai jaO jaA jat jau jav jaj jas jaJ jak jad jay jac jaW cyI jbC) sz) (fun u : Int32 => ((wd09_10 a0 jaX jaF jaD jbx u jbf jaM jaY jap jaW jal jam jax jao ja6 jaV ja8 jae jag jaf ja0 ja4 jaP jaw jaI jaZ jaH jaS jan jaU jaE jar jaL jah jaB jaa jaz jaG jab ja2 z0_s jaq jai jaO jaA jat jau jav jaj jas jaJ jak jad jay jac jaW cyI jbC) : va_W))) (va_A (wd09_10 a0 jaX jaF jaD jbx jcP jbf jaM jaY jap jaW jal jam jax jao ja6 jaV ja8 jae jag jaf ja0 ja4 jaP jaw jaI jaZ jaH jaS jan jaU jaE jar jaL jah jaB jaa jaz jaG jab ja2 z0_s jaq jai jaO jaA jat jau jav jaj jas jaJ jak jad jay jac jaW cyI jbC) sz)) 0 0 (va_A (wd09_10 a0 jaX jaF jaD jbx jcP jbf jaM jaY jap jaW jal jam jax jao ja6 jaV ja8 jae jag jaf ja0 ja4 jaP jaw jaI jaZ jaH jaS jan jaU jaE jar jaL jah jaB jaa jaz jaG jab ja2 z0_s jaq jai jaO jaA jat jau jav jaj jas jaJ jak jad jay jac jaW cyI jbC) sz) := by
  refine Met.ofW (cc := cX11_word) (maxL := 4) (ret := (some .int)) (by decide) rfl ?_
  intro p e s m args below meth c s₁ B hml hv
  obtain ⟨rfl, hsz, hP, hK, hD0, hNw⟩ := hv
  have hx := B.exec
  have hb := B.bytes
  have hr := B.returns
  have hts := atoms_spec (ws := wsX11_word) B.pre
  have hown : s.vm.findClass RX11 = some m.cls := findClass_of_methodNamed B.named
  have hlocks := B.notSynchronized
  subst hsz
  have hD := hD0.self (sz := s.heap.size)
  generalize hAe : va_A (wd09_10 a0 jaX jaF jaD jbx jcP jbf jaM jaY jap jaW jal jam jax jao ja6 jaV ja8 jae jag jaf ja0 ja4 jaP jaw jaI jaZ jaH jaS jan jaU jaE jar jaL jah jaB jaa jaz jaG jab ja2 z0_s jaq jai jaO jaA jat jau jav jaj jas jaJ jak jad jay jac jaW cyI jbC) s.heap.size = A at hD ⊢
  have hA : ∀ q : Nat, s.heap.size ≤ q → A q := fun q h => by rw [← hAe]; exact Or.inr h
  have hS : va_S A s.heap s.heap [] := va_S.rf
  have hP : va_P (dC, dI) vwCl (wd09_10 a0 jaX jaF jaD jbx jcP jbf jaM jaY jap jaW jal jam jax jao ja6 jaV ja8 jae jag jaf ja0 ja4 jaP jaw jaI jaZ jaH jaS jan jaU jaE jar jaL jah jaB jaa jaz jaG jab ja2 z0_s jaq jai jaO jaA jat jau jav jaj jas jaJ jak jad jay jac jaW cyI jbC) s.heap := hP
  have hl := lv_entry ([.ref a0]) (n := 4) (Nat.le_of_ble_eq_true rfl)
  rw [lg_entry_eq]
  generalize (lg_sl ([.ref a0]) ++ List.replicate (4 - (lg_sl ([.ref a0])).length) Slot.unset).toArray = ls at hl ⊢
  have hl : lv_has ls 4 [(0, .ref a0)] := hl
  have C0 : cfx p s m _ meth c cX11_word (some .int) wsX11_word RX11 4 A (dC, dI) (kT cyB cyI cyJ cyP) := ⟨hx, hb, hr, hts, hown, hlocks, hml, hA, hK, hNw⟩
  clear hAe
  obtain ⟨H, hH⟩ : ∃ H, H = s.heap := ⟨_, rfl⟩
  rw [← hH] at hP ⊢
  have hS : va_S A s.heap H [] := by rw [hH]; exact va_S.rf
  have hS := hS
  refine lv_aload_n hx hb (dt_of tkX11_word_k0 0 rfl) rfl (lv_at hl 0 rfl) ?_
  obtain ⟨hCc, hPc, hDc, hFc⟩ := va_pick (ws' := (wd09_10 a0 jaX jaF jaD jbx jcP jbf jaM jaY jap jaW jal jam jax jao ja6 jaV ja8 jae jag jaf ja0 ja4 jaP jaw jaI jaZ jaH jaS jan jaU jaE jar jaL jah jaB jaa jaz jaG jab ja2 z0_s jaq jai jaO jaA jat jau jav jaj jas jaJ jak jad jay jac jaW cyI jbC)) hP hD hS hA [0, 1] (by decide +kernel) rfl
  refine va_calli (va_runV (As := []) (rest := []) ⟨hx, hb, hml, hown, hts⟩ (ck_X11_here l dC dI cyB cyI cyJ cyP a0 jaW H.size (jaX) (jaF) (jaD) (jbf) (jaM) (jaY) (jap) (jal) (jam) (jax) (jao) (ja6) (jaV) (ja8) (jae) (jag) (jaf) (ja0) (ja4) (jaP) (jaw) (jaI) (jaZ) (jaH) (jaS) (jan) (jaU) (jaE) (jar) (jaL) (jah) (jaB) (jaa) (jaz) (jaG) (jab) (ja2) (z0_s) (jaq) (jai) (jaO) (jaA) (jat) (jau) (jav) (jaj) (jas) (jaJ) (jak) (jad) (jay) (jac) jbx jbC jcP  hw) (cwV 0 hts gX11_word_X11_here rfl rfl rfl (by decide +kernel) ⟨Nat.le_of_ble_eq_true rfl, Nat.le_of_ble_eq_true rfl⟩) ⟨cPc_blind, va_recv (q := (RX11, TX11, 55)) hK hPc (ci := 11) (q0 := 0) rfl rfl, cPc_pre hPc hK hDc hNw⟩ rfl rfl hl.1 rfl (lv_room (Nat.le_of_ble_eq_true rfl)) (dt_of tkX11_word_k0 1 rfl) ⟨Nat.le_of_ble_eq_true rfl, Nat.le_of_ble_eq_true rfl⟩) hS (fun q _ h => hFc q h) hFc (fun r2 u t H1 locs ht hvm hw hB hz1 hk1 hS => ?_)
  obtain ⟨x1, rfl⟩ : ∃ z, z = u := ⟨_, rfl⟩
  obtain ⟨hP1, hK1, hD1⟩ := hB
  rw [ht] at hP1
  obtain ⟨hP, hD⟩ := va_joinI (wr := []) (w1 := (wd09_10 a0 jaX jaF jaD jbx x1 jbf jaM jaY jap jaW jal jam jax jao ja6 jaV ja8 jae jag jaf ja0 ja4 jaP jaw jaI jaZ jaH jaS jan jaU jaE jar jaL jah jaB jaa jaz jaG jab ja2 z0_s jaq jai jaO jaA jat jau jav jaj jas jaJ jak jad jay jac jaW cyI jbC)) (wn := (wd09_10 a0 jaX jaF jaD jbx x1 jbf jaM jaY jap jaW jal jam jax jao ja6 jaV ja8 jae jag jaf ja0 ja4 jaP jaw jaI jaZ jaH jaS jan jaU jaE jar jaL jah jaB jaa jaz jaG jab ja2 z0_s jaq jai jaO jaA jat jau jav jaj jas jaJ jak jad jay jac jaW cyI jbC)) hP hD [0, 1] [] hCc rfl (by decide +kernel) (by decide +kernel) rfl hk1 hFc hP1 hD1
  generalize H1 = H at hP hS ⊢
  refine lv_pop hx hb (dt_of tkX11_word_k0 2 rfl) rfl ?_
  refine lv_iconst (v := 0) hx hb (dt_of tkX11_word_k0 3 rfl) (by decide) ?_
  refine lv_istore_n (lv' := [(1, .int 0), (0, .ref a0)]) hx hb (dt_of tkX11_word_k0 4 rfl) rfl hl (by decide) rfl (fun ls hl => ?_)
  refine lv_iconst (v := 0) hx hb (dt_of tkX11_word_k0 5 rfl) (by decide) ?_
  refine lv_istore_n (lv' := [(2, .int 0), (1, .int 0), (0, .ref a0)]) hx hb (dt_of tkX11_word_k0 6 rfl) rfl hl (by decide) rfl (fun ls hl => ?_)
  refine lv_aload_n hx hb (dt_of tkX11_word_k0 7 rfl) rfl (lv_at hl 2 rfl) ?_
  refine va_get (D := (dC, dI)) (ci := 11) (v := .int x1) (C := RX11) (T := TX11) (N := 55) hx hb hts ui_X11_word_X11 hown hK hP 0 rfl rfl 4 (by decide) (hts _ uw_X11_word_f120) (fun _ h9 => h9) rfl (dt_of tkX11_word_k0 8 rfl) ?_
  refine lv_istore_n (lv' := [(3, .int x1), (2, .int 0), (1, .int 0), (0, .ref a0)]) hx hb (dt_of tkX11_word_k0 9 rfl) rfl hl (by decide) rfl (fun ls hl => ?_)
  obtain ⟨n9, hw⟩ := hw
  exact kl_X11_word_14 dC dI cyB cyI cyJ cyP a0 jaW jaX jaF jaD jbf jaM jaY jap jal jam jax jao ja6 jaV ja8 jae jag jaf ja0 ja4 jaP jaw jaI jaZ jaH jaS jan jaU jaE jar jaL jah jaB jaa jaz jaG jab ja2 z0_s jaq jai jaO jaA jat jau jav jaj jas jaJ jak jad jay jac jbx jbC Q  C0 n9 _ _ _ x1 0 0 x1 hP hD hS (lv_sub hl [3, 2, 1, 0] rfl) hw
theorem ui_X11_pass_X11 : ∀ w ∈ u_ws RX11 TX11 55, w ∈ wsX11_pass := uiM mbX11_pass euX11 (by decide +kernel)
theorem uw_X11_pass_f120 : (.fieldLink RX11 120 "MarchHaresModel" "at" "I" : Cond) ∈ wsX11_pass := mbX11_pass 1103 (by decide +kernel)
theorem uw_X11_pass_f123 : (.fieldLink RX11 123 "MarchHaresModel" "size" "I" : Cond) ∈ wsX11_pass := mbX11_pass 1153 (by decide +kernel)
theorem uw_X11_pass_f20 : (.fieldLink RX11 20 "MarchHaresModel" "tape" "[I" : Cond) ∈ wsX11_pass := mbX11_pass 400 (by decide +kernel)
set_option maxHeartbeats 4000000 in
set_option maxRecDepth 100000 in
theorem kl_X11_pass_0 {p : Program} {l : Launch} {e : Env} {s : State} {m : MethodId} {args : Array Value} {below : List Frame} {meth : Method} {c : Code} {A : Nat → Prop} (dC : Nat → ClassId) (dI : Nat → Nat → Nat) (cyB cyI cyJ cyP : ClassId) (a0 jaW : Nat) (jaX jaF jaD jbf jaM jaY jap jal jam jax jao ja6 jaV ja8 jae jag jaf ja0 ja4 jaP jaw jaI jaZ jaH jaS jan jaU jaE jar jaL jah jaB jaa jaz jaG jab ja2 z0_s jaq jai jaO jaA jat jau jav jaj jas jaJ jak jad jay jac : Value) (jbx : Int32) (jbC : Nat → Int32) (Q : Int32 → Prop)  (C0 : cfx p s m args meth c cX11_pass none wsX11_pass RX11 1 A (dC, dI) (kT cyB cyI cyJ cyP)) : ∀ (n : Nat) (H : Heap) (locs : List Loc) (ls : Array Slot) (jcP : Int32), va_P (dC, dI) vwCl (wd09_10 a0 jaX jaF jaD jbx jcP jbf jaM jaY jap jaW jal jam jax jao ja6 jaV ja8 jae jag jaf ja0 ja4 jaP jaw jaI jaZ jaH jaS jan jaU jaE jar jaL jah jaB jaa jaz jaG jab ja2 z0_s jaq jai jaO jaA jat jau jav jaj jas jaJ jak jad jay jac jaW cyI jbC) H → va_D A (wd09_10 a0 jaX jaF jaD jbx jcP jbf jaM jaY jap jaW jal jam jax jao ja6 jaV ja8 jae jag jaf ja0 ja4 jaP jaw jaI jaZ jaH jaS jan jaU jaE jar jaL jah jaB jaa jaz jaG jab ja2 z0_s jaq jai jaO jaA jat jau jav jaj jas jaJ jak jad jay jac jaW cyI jbC) → va_S A s.heap H locs → lv_has ls 1 [(0, .ref a0)] → wl_X11_pass_0 jbx jbC Q  n jcP → W p l e (headSpec wsX11_pass ({ frames := 1, cells := 0, slots := 0, locals := 20 })).room s m args below meth c H locs 0 0 (MQ below (va_Qv (fun (u : Int32) => Q u) (cB (dC, dI) (kT cyB cyI cyJ cyP) A (fun u : Int32 => ((wd09_10 a0 jaX jaF jaD jbx u jbf jaM jaY jap jaW jal jam jax jao ja6 jaV ja8 jae jag jaf ja0 ja4 jaP jaw jaI jaZ jaH jaS jan jaU jaE jar jaL jah jaB jaa jaz jaG jab ja2 z0_s jaq jai jaO jaA jat jau jav jaj jas jaJ jak jad jay jac jaW cyI jbC) : va_W))) A) args s 0 0 A) (F0 m 0 ls []) := by
  obtain ⟨hx, hb, hr, hts, hown, hlocks, hml, hA, hK, hNw⟩ := id C0
  intro n
  induction n with
  | zero => intro H locs ls jcP hP hD hS hl hw; exact False.elim hw
  | succ n ih =>
    intro H locs ls jcP hP hD hS hl hw
    refine lv_aload_n hx hb (dt_of tkX11_pass_k0 0 rfl) rfl (lv_at hl 0 rfl) ?_
    refine va_get (D := (dC, dI)) (ci := 11) (v := .int jcP) (C := RX11) (T := TX11) (N := 55) hx hb hts ui_X11_pass_X11 hown hK hP 0 rfl rfl 4 (by decide) (hts _ uw_X11_pass_f120) (fun _ h9 => h9) rfl (dt_of tkX11_pass_k0 1 rfl) ?_
    refine lv_aload_n hx hb (dt_of tkX11_pass_k0 2 rfl) rfl (lv_at hl 0 rfl) ?_
    refine va_get (D := (dC, dI)) (ci := 11) (v := .int jbx) (C := RX11) (T := TX11) (N := 55) hx hb hts ui_X11_pass_X11 hown hK hP 0 rfl rfl 3 (by decide) (hts _ uw_X11_pass_f123) (fun _ h9 => h9) rfl (dt_of tkX11_pass_k0 3 rfl) ?_
    refine lv_icmp_ge (tgt := 39) hx hb (dt_of tkX11_pass_k0 4 rfl) (by decide) (fun c1 => ?_) (fun c1 => ?_)
    · have hw := hw.1 c1
      exact ((W.vret hx hb hr (fun t ht hW => ⟨⟨(jcP), rfl, hw, by rw [ht]; exact hP, va_K.moved hW.alike hK, hD⟩, hS.F ht⟩) hS.2.2 (dt_of tkX11_pass_k32 3 rfl)))
    · have hw := hw.2 c1
      refine lv_aload_n hx hb (dt_of tkX11_pass_k0 5 rfl) rfl (lv_at hl 0 rfl) ?_
      refine va_get (D := (dC, dI)) (ci := 11) (v := .ref jaW) (C := RX11) (T := TX11) (N := 55) hx hb hts ui_X11_pass_X11 hown hK hP 0 rfl rfl 9 (by decide) (hts _ uw_X11_pass_f20) (fun _ h9 => h9) rfl (dt_of tkX11_pass_k0 6 rfl) ?_
      refine lv_aload_n hx hb (dt_of tkX11_pass_k0 7 rfl) rfl (lv_at hl 0 rfl) ?_
      refine va_get (D := (dC, dI)) (ci := 11) (v := .int jcP) (C := RX11) (T := TX11) (N := 55) hx hb hts ui_X11_pass_X11 hown hK hP 0 rfl rfl 4 (by decide) (hts _ uw_X11_pass_f120) (fun _ h9 => h9) rfl (dt_of tkX11_pass_k0 8 rfl) ?_
      obtain ⟨hi9, hw⟩ := hw
      refine va_iald hx hb hK hP 1 1 rfl rfl hi9 (dt_of tkX11_pass_k0 9 rfl) ?_
      refine lv_topi (fun x2 ex2 => ?_)
      have hw := hw x2 ex2
      obtain ⟨hCc, hPc, hDc, hFc⟩ := va_pick (ws' := []) hP hD hS hA [] (by decide +kernel) rfl
      refine va_calli (va_runS (As := [.int x2]) (rest := []) ⟨hx, hb, hml, hown, hts⟩ (ck_X11_isSmall l dC dI cyB cyI cyJ cyP  H.size    x2 hw) (va_cwS 1 hts gX11_pass_X11_isSmall rfl rfl rfl (by decide +kernel) ⟨Nat.le_of_ble_eq_true rfl, Nat.le_of_ble_eq_true rfl⟩) ⟨cPc_blind, cPc_pre hPc hK hDc hNw⟩ rfl rfl hl.1 rfl (lv_room (Nat.le_of_ble_eq_true rfl)) (dt_of tkX11_pass_k0 10 rfl) ⟨Nat.le_of_ble_eq_true rfl, Nat.le_of_ble_eq_true rfl⟩) hS (fun q _ h => hFc q h) hFc (fun r3 u t H1 locs ht hvm hw hB hz1 hk1 hS => ?_)
      obtain ⟨hP1, hK1, hD1⟩ := hB
      rw [ht] at hP1
      obtain ⟨hP, hD⟩ := va_joinI (wr := (wd09_10 a0 jaX jaF jaD jbx jcP jbf jaM jaY jap jaW jal jam jax jao ja6 jaV ja8 jae jag jaf ja0 ja4 jaP jaw jaI jaZ jaH jaS jan jaU jaE jar jaL jah jaB jaa jaz jaG jab ja2 z0_s jaq jai jaO jaA jat jau jav jaj jas jaJ jak jad jay jac jaW cyI jbC)) (w1 := []) (wn := (wd09_10 a0 jaX jaF jaD jbx jcP jbf jaM jaY jap jaW jal jam jax jao ja6 jaV ja8 jae jag jaf ja0 ja4 jaP jaw jaI jaZ jaH jaS jan jaU jaE jar jaL jah jaB jaa jaz jaG jab ja2 z0_s jaq jai jaO jaA jat jau jav jaj jas jaJ jak jad jay jac jaW cyI jbC)) hP hD [] [0, 1] hCc rfl (by decide +kernel) (by decide +kernel) rfl hk1 hFc hP1 hD1
      generalize H1 = H at hP hS ⊢
      refine lv_if_eq (tgt := 39) hx hb (dt_of tkX11_pass_k0 11 rfl) (by decide) (fun c4 => ?_) (fun c4 => ?_)
      · have hw := hw.1 c4
        exact ((W.vret hx hb hr (fun t ht hW => ⟨⟨(jcP), rfl, hw, by rw [ht]; exact hP, va_K.moved hW.alike hK, hD⟩, hS.F ht⟩) hS.2.2 (dt_of tkX11_pass_k32 3 rfl)))
      · have hw := hw.2 c4
        refine lv_aload_n hx hb (dt_of tkX11_pass_k0 12 rfl) rfl (lv_at hl 0 rfl) ?_
        refine lv_dup hx hb (dt_of tkX11_pass_k0 13 rfl) rfl ?_
        refine va_get (D := (dC, dI)) (ci := 11) (v := .int jcP) (C := RX11) (T := TX11) (N := 55) hx hb hts ui_X11_pass_X11 hown hK hP 0 rfl rfl 4 (by decide) (hts _ uw_X11_pass_f120) (fun _ h9 => h9) rfl (dt_of tkX11_pass_k0 14 rfl) ?_
        refine lv_iconst (v := 1) hx hb (dt_of tkX11_pass_k0 15 rfl) (by decide) ?_
        refine lv_iadd hx hb (dt_of tkX11_pass_k32 0 rfl) ?_
        refine lv_topi (fun x5 ex5 => ?_)
        have hw := hw x5 ex5
        refine va_put (D := (dC, dI)) (ci := 11) (v := .int x5) (ty := .int) (C := RX11) (T := TX11) (N := 55) hx hb hts ui_X11_pass_X11 tyX11 tyX11_ok nmX11 hown hK hP hD hS 0 rfl rfl 4 (by decide) (hts _ uw_X11_pass_f120) (fun _ h9 => h9) rfl (by decide +kernel) rfl rfl (Nat.le_of_ble_eq_true rfl) (dt_of tkX11_pass_k32 1 rfl) (fun H locs hP hD hS => ?_)
        have hP : va_P (dC, dI) vwCl (wd09_10 a0 jaX jaF jaD jbx x5 jbf jaM jaY jap jaW jal jam jax jao ja6 jaV ja8 jae jag jaf ja0 ja4 jaP jaw jaI jaZ jaH jaS jan jaU jaE jar jaL jah jaB jaa jaz jaG jab ja2 z0_s jaq jai jaO jaA jat jau jav jaj jas jaJ jak jad jay jac jaW cyI jbC) H := hP
        have hD : va_D A (wd09_10 a0 jaX jaF jaD jbx x5 jbf jaM jaY jap jaW jal jam jax jao ja6 jaV ja8 jae jag jaf ja0 ja4 jaP jaw jaI jaZ jaH jaS jan jaU jaE jar jaL jah jaB jaa jaz jaG jab ja2 z0_s jaq jai jaO jaA jat jau jav jaj jas jaJ jak jad jay jac jaW cyI jbC) := hD
        refine lv_goto (tgt := 0) hx hb (dt_of tkX11_pass_k32 2 rfl) (by decide) ?_
        exact ih _ _ _ x5 hP hD hS (lv_sub hl [0] rfl) hw
set_option maxHeartbeats 4000000 in
set_option maxRecDepth 100000 in
theorem ck_X11_pass (l : Launch) (dC : Nat → ClassId) (dI : Nat → Nat → Nat) (cyB cyI cyJ cyP : ClassId) (a0 jaW sz : Nat) (jaX jaF jaD jbf jaM jaY jap jal jam jax jao ja6 jaV ja8 jae jag jaf ja0 ja4 jaP jaw jaI jaZ jaH jaS jan jaU jaE jar jaL jah jaB jaa jaz jaG jab ja2 z0_s jaq jai jaO jaA jat jau jav jaj jas jaJ jak jad jay jac : Value) (jbx : Int32) (jbC : Nat → Int32) (jcP : Int32)  {Q : Int32 → Prop} (hw : wq_X11_pass jbx jbC jcP  Q) : Met l yX11_pass wsX11_pass ({ frames := 1, cells := 0, slots := 0, locals := 20 }) (va_Pc [.ref a0] (cPc (dC, dI) (kT cyB cyI cyJ cyP) (wd09_10 a0 jaX jaF jaD jbx jcP jbf jaM jaY jap jaW jal jam jax jao ja6 jaV ja8 jae jag jaf ja0 ja4 jaP jaw jaI jaZ jaH jaS jan jaU jaE jar jaL jah jaB jaa jaz jaG jab ja2 z0_s jaq jai jaO jaA jat jau jav jaj jas jaJ jak jad jay jac jaW cyI jbC) sz)) (va_Qv (fun (u : Int32) => Q u) (cB (dC, dI) (kT cyB cyI cyJ cyP) (va_A (wd09_10 a0 jaX jaF jaD jbx jcP jbf jaM jaY jap jaW jal jam jax jao ja6 jaV ja8 jae jag jaf ja0 ja4 jaP jaw jaI jaZ jaH jaS jan jaU jaE jar jaL jah jaB jaa jaz jaG jab ja2 z0_s jaq jai jaO jaA jat jau jav jaj jas jaJ jak jad jay jac jaW cyI jbC) sz) (fun u : Int32 => ((wd09_10 a0 jaX jaF jaD jbx u jbf jaM jaY jap jaW jal jam jax jao ja6 jaV ja8 jae jag jaf ja0 ja4 jaP jaw jaI jaZ jaH jaS jan jaU jaE jar jaL jah jaB jaa jaz jaG jab ja2 z0_s jaq jai jaO jaA jat jau jav jaj jas jaJ jak jad jay jac jaW cyI jbC) : va_W))) (va_A (wd09_10 a0 jaX jaF jaD jbx jcP jbf jaM jaY jap jaW jal jam jax jao ja6 jaV ja8 jae jag jaf ja0 ja4 jaP jaw jaI jaZ jaH jaS jan jaU jaE jar jaL jah jaB jaa jaz jaG jab ja2 z0_s jaq jai jaO jaA jat jau jav jaj jas jaJ jak jad jay jac jaW cyI jbC) sz)) 0 0 (va_A (wd09_10 a0 jaX jaF jaD jbx jcP jbf jaM jaY jap jaW jal jam jax jao ja6 jaV ja8 jae jag jaf ja0 ja4 jaP jaw jaI jaZ jaH jaS jan jaU jaE jar jaL jah jaB jaa jaz jaG jab ja2 z0_s jaq jai jaO jaA jat jau jav jaj jas jaJ jak jad jay jac jaW cyI jbC) sz) := by
  refine Met.ofW (cc := cX11_pass) (maxL := 1) (ret := none) (by decide) rfl ?_
  intro p e s m args below meth c s₁ B hml hv
  obtain ⟨rfl, hsz, hP, hK, hD0, hNw⟩ := hv
  have hx := B.exec
  have hb := B.bytes
  have hr := B.returns
  have hts := atoms_spec (ws := wsX11_pass) B.pre
  have hown : s.vm.findClass RX11 = some m.cls := findClass_of_methodNamed B.named
  have hlocks := B.notSynchronized
  subst hsz
  have hD := hD0.self (sz := s.heap.size)
  generalize hAe : va_A (wd09_10 a0 jaX jaF jaD jbx jcP jbf jaM jaY jap jaW jal jam jax jao ja6 jaV ja8 jae jag jaf ja0 ja4 jaP jaw jaI jaZ jaH jaS jan jaU jaE jar jaL jah jaB jaa jaz jaG jab ja2 z0_s jaq jai jaO jaA jat jau jav jaj jas jaJ jak jad jay jac jaW cyI jbC) s.heap.size = A at hD ⊢
  have hA : ∀ q : Nat, s.heap.size ≤ q → A q := fun q h => by rw [← hAe]; exact Or.inr h
  have hS : va_S A s.heap s.heap [] := va_S.rf
  have hP : va_P (dC, dI) vwCl (wd09_10 a0 jaX jaF jaD jbx jcP jbf jaM jaY jap jaW jal jam jax jao ja6 jaV ja8 jae jag jaf ja0 ja4 jaP jaw jaI jaZ jaH jaS jan jaU jaE jar jaL jah jaB jaa jaz jaG jab ja2 z0_s jaq jai jaO jaA jat jau jav jaj jas jaJ jak jad jay jac jaW cyI jbC) s.heap := hP
  have hl := lv_entry ([.ref a0]) (n := 1) (Nat.le_of_ble_eq_true rfl)
  rw [lg_entry_eq]
  generalize (lg_sl ([.ref a0]) ++ List.replicate (1 - (lg_sl ([.ref a0])).length) Slot.unset).toArray = ls at hl ⊢
  have hl : lv_has ls 1 [(0, .ref a0)] := hl
  have C0 : cfx p s m _ meth c cX11_pass none wsX11_pass RX11 1 A (dC, dI) (kT cyB cyI cyJ cyP) := ⟨hx, hb, hr, hts, hown, hlocks, hml, hA, hK, hNw⟩
  clear hAe
  obtain ⟨H, hH⟩ : ∃ H, H = s.heap := ⟨_, rfl⟩
  rw [← hH] at hP ⊢
  have hS : va_S A s.heap H [] := by rw [hH]; exact va_S.rf
  have hS := hS
  obtain ⟨n9, hw⟩ := hw
  exact kl_X11_pass_0 dC dI cyB cyI cyJ cyP a0 jaW jaX jaF jaD jbf jaM jaY jap jal jam jax jao ja6 jaV ja8 jae jag jaf ja0 ja4 jaP jaw jaI jaZ jaH jaS jan jaU jaE jar jaL jah jaB jaa jaz jaG jab ja2 z0_s jaq jai jaO jaA jat jau jav jaj jas jaJ jak jad jay jac jbx jbC Q  C0 n9 _ _ _ jcP hP hD hS (lv_sub hl [0] rfl) hw
theorem ui_X11_readHare_X11 : ∀ w ∈ u_ws RX11 TX11 55, w ∈ wsX11_readHare := uiM mbX11_readHare euX11 (by decide +kernel)
theorem uw_X11_readHare_f160 : (.fieldLink RX11 160 "MarchHaresModel" "newHares" "I" : Cond) ∈ wsX11_readHare := mbX11_readHare 513 (by decide +kernel)
set_option maxHeartbeats 4000000 in
set_option maxRecDepth 100000 in
theorem ck_X11_readHare (l : Launch) (dC : Nat → ClassId) (dI : Nat → Nat → Nat) (cyB cyI cyJ cyP : ClassId) (a0 jaW sz : Nat) (jaX jaF jaD jaY jap jal jam jax jao ja6 jaV ja8 jae jaf ja0 ja4 jaP jaw jaI jaZ jaH jaS jan jaU jaE jar jaL jah jaB jaa jaz jaG jab ja2 z0_s jaq jai jaO jaA jat jau jav jaj jas jaJ jak jad jay jac : Value) (jbx jge : Int32) (jbC : Nat → Int32) (jcP jb8 jbh : Int32)  {Q : Int32 → Int32 → Int32 → Int32 → Prop} (hw : wq_X11_readHare jbx jge jbC jcP jb8 jbh  Q) : Met l yX11_readHare wsX11_readHare ({ frames := 2, cells := 0, slots := 0, locals := 47 }) (va_Pc [.ref a0] (cPc (dC, dI) (kT cyB cyI cyJ cyP) (wd09_11 a0 jaX jaF jaD jbx jcP jb8 jbh jaY jap jaW jal jam jax jao ja6 jaV ja8 jae jge jaf ja0 ja4 jaP jaw jaI jaZ jaH jaS jan jaU jaE jar jaL jah jaB jaa jaz jaG jab ja2 z0_s jaq jai jaO jaA jat jau jav jaj jas jaJ jak jad jay jac jaW cyI jbC) sz)) (va_Qi (fun (r : Int32) (u : Int32 × Int32 × Int32) => Q r u.1 u.2.1 u.2.2) (cB (dC, dI) (kT cyB cyI cyJ cyP) (va_A (wd09_11 a0 jaX jaF jaD jbx jcP jb8 jbh jaY jap jaW jal jam jax jao ja6 jaV ja8 jae jge jaf ja0 ja4 jaP jaw jaI jaZ jaH jaS jan jaU jaE jar jaL jah jaB jaa jaz jaG jab ja2 z0_s jaq jai jaO jaA jat jau jav jaj jas jaJ jak jad jay jac jaW cyI jbC) sz) (fun u : Int32 × Int32 × Int32 => ((wd09_11 a0 jaX jaF jaD jbx u.1 u.2.1 u.2.2 jaY jap jaW jal jam jax jao ja6 jaV ja8 jae jge jaf ja0 ja4 jaP jaw jaI jaZ jaH jaS jan jaU jaE jar jaL jah jaB jaa jaz jaG jab ja2 z0_s jaq jai jaO jaA jat jau jav jaj jas jaJ jak jad jay jac jaW cyI jbC) : va_W))) (va_A (wd09_11 a0 jaX jaF jaD jbx jcP jb8 jbh jaY jap jaW jal jam jax jao ja6 jaV ja8 jae jge jaf ja0 ja4 jaP jaw jaI jaZ jaH jaS jan jaU jaE jar jaL jah jaB jaa jaz jaG jab ja2 z0_s jaq jai jaO jaA jat jau jav jaj jas jaJ jak jad jay jac jaW cyI jbC) sz)) 0 0 (va_A (wd09_11 a0 jaX jaF jaD jbx jcP jb8 jbh jaY jap jaW jal jam jax jao ja6 jaV ja8 jae jge jaf ja0 ja4 jaP jaw jaI jaZ jaH jaS jan jaU jaE jar jaL jah jaB jaa jaz jaG jab ja2 z0_s jaq jai jaO jaA jat jau jav jaj jas jaJ jak jad jay jac jaW cyI jbC) sz) := by
  refine Met.ofW (cc := cX11_readHare) (maxL := 1) (ret := (some .int)) (by decide) rfl ?_
  intro p e s m args below meth c s₁ B hml hv
  obtain ⟨rfl, hsz, hP, hK, hD0, hNw⟩ := hv
  have hx := B.exec
  have hb := B.bytes
  have hr := B.returns
  have hts := atoms_spec (ws := wsX11_readHare) B.pre
  have hown : s.vm.findClass RX11 = some m.cls := findClass_of_methodNamed B.named
  have hlocks := B.notSynchronized
  subst hsz
  have hD := hD0.self (sz := s.heap.size)
  generalize hAe : va_A (wd09_11 a0 jaX jaF jaD jbx jcP jb8 jbh jaY jap jaW jal jam jax jao ja6 jaV ja8 jae jge jaf ja0 ja4 jaP jaw jaI jaZ jaH jaS jan jaU jaE jar jaL jah jaB jaa jaz jaG jab ja2 z0_s jaq jai jaO jaA jat jau jav jaj jas jaJ jak jad jay jac jaW cyI jbC) s.heap.size = A at hD ⊢
  have hA : ∀ q : Nat, s.heap.size ≤ q → A q := fun q h => by rw [← hAe]; exact Or.inr h
  have hS : va_S A s.heap s.heap [] := va_S.rf
  have hP : va_P (dC, dI) vwCl (wd09_11 a0 jaX jaF jaD jbx jcP jb8 jbh jaY jap jaW jal jam jax jao ja6 jaV ja8 jae jge jaf ja0 ja4 jaP jaw jaI jaZ jaH jaS jan jaU jaE jar jaL jah jaB jaa jaz jaG jab ja2 z0_s jaq jai jaO jaA jat jau jav jaj jas jaJ jak jad jay jac jaW cyI jbC) s.heap := hP
  have hl := lv_entry ([.ref a0]) (n := 1) (Nat.le_of_ble_eq_true rfl)
  rw [lg_entry_eq]
  generalize (lg_sl ([.ref a0]) ++ List.replicate (1 - (lg_sl ([.ref a0])).length) Slot.unset).toArray = ls at hl ⊢
  have hl : lv_has ls 1 [(0, .ref a0)] := hl
  have C0 : cfx p s m _ meth c cX11_readHare (some .int) wsX11_readHare RX11 1 A (dC, dI) (kT cyB cyI cyJ cyP) := ⟨hx, hb, hr, hts, hown, hlocks, hml, hA, hK, hNw⟩
  clear hAe
  obtain ⟨H, hH⟩ : ∃ H, H = s.heap := ⟨_, rfl⟩
  rw [← hH] at hP ⊢
  have hS : va_S A s.heap H [] := by rw [hH]; exact va_S.rf
  have hS := hS
  refine lv_aload_n hx hb (dt_of tkX11_readHare_k0 0 rfl) rfl (lv_at hl 0 rfl) ?_
  refine lv_iconst (v := 0) hx hb (dt_of tkX11_readHare_k0 1 rfl) (by decide) ?_
  refine lv_aload_n hx hb (dt_of tkX11_readHare_k0 2 rfl) rfl (lv_at hl 0 rfl) ?_
  refine va_get (D := (dC, dI)) (ci := 11) (v := .int jge) (C := RX11) (T := TX11) (N := 55) hx hb hts ui_X11_readHare_X11 hown hK hP 0 rfl rfl 18 (by decide) (hts _ uw_X11_readHare_f160) (fun _ h9 => h9) rfl (dt_of tkX11_readHare_k0 3 rfl) ?_
  refine lv_iconst (v := 1) hx hb (dt_of tkX11_readHare_k0 4 rfl) (by decide) ?_
  refine lv_isub hx hb (dt_of tkX11_readHare_k0 5 rfl) ?_
  obtain ⟨hCc, hPc, hDc, hFc⟩ := va_pick (ws' := (wd09_11 a0 jaX jaF jaD jbx jcP jb8 jbh jaY jap jaW jal jam jax jao ja6 jaV ja8 jae jge jaf ja0 ja4 jaP jaw jaI jaZ jaH jaS jan jaU jaE jar jaL jah jaB jaa jaz jaG jab ja2 z0_s jaq jai jaO jaA jat jau jav jaj jas jaJ jak jad jay jac jaW cyI jbC)) hP hD hS hA [0, 1] (by decide +kernel) rfl
  refine va_calli (va_runV (As := [.int 0, .int (jge - 1)]) (rest := []) ⟨hx, hb, hml, hown, hts⟩ (ck_X11_readNumber l dC dI cyB cyI cyJ cyP a0 jaW H.size (jaX) (jaF) (jaD) (jaY) (jap) (jal) (jam) (jax) (jao) (ja6) (jaV) (ja8) (jae) (.int jge) (jaf) (ja0) (ja4) (jaP) (jaw) (jaI) (jaZ) (jaH) (jaS) (jan) (jaU) (jaE) (jar) (jaL) (jah) (jaB) (jaa) (jaz) (jaG) (jab) (ja2) (z0_s) (jaq) (jai) (jaO) (jaA) (jat) (jau) (jav) (jaj) (jas) (jaJ) (jak) (jad) (jay) (jac) jbx jbC jcP jb8 jbh 0 (jge - 1) hw) (cwV 2 hts gX11_readHare_X11_readNumber rfl rfl rfl (by decide +kernel) ⟨Nat.le_of_ble_eq_true rfl, Nat.le_of_ble_eq_true rfl⟩) ⟨cPc_blind, va_recv (q := (RX11, TX11, 55)) hK hPc (ci := 11) (q0 := 0) rfl rfl, cPc_pre hPc hK hDc hNw⟩ rfl rfl hl.1 rfl (lv_room (Nat.le_of_ble_eq_true rfl)) (dt_of tkX11_readHare_k0 6 rfl) ⟨Nat.le_of_ble_eq_true rfl, Nat.le_of_ble_eq_true rfl⟩) hS (fun q _ h => hFc q h) hFc (fun r4 u t H1 locs ht hvm hw hB hz1 hk1 hS => ?_)
  obtain ⟨x1, x2, x3⟩ := u
  obtain ⟨hP1, hK1, hD1⟩ := hB
  rw [ht] at hP1
  obtain ⟨hP, hD⟩ := va_joinI (wr := []) (w1 := (wd09_11 a0 jaX jaF jaD jbx x1 x2 x3 jaY jap jaW jal jam jax jao ja6 jaV ja8 jae jge jaf ja0 ja4 jaP jaw jaI jaZ jaH jaS jan jaU jaE jar jaL jah jaB jaa jaz jaG jab ja2 z0_s jaq jai jaO jaA jat jau jav jaj jas jaJ jak jad jay jac jaW cyI jbC)) (wn := (wd09_11 a0 jaX jaF jaD jbx x1 x2 x3 jaY jap jaW jal jam jax jao ja6 jaV ja8 jae jge jaf ja0 ja4 jaP jaw jaI jaZ jaH jaS jan jaU jaE jar jaL jah jaB jaa jaz jaG jab ja2 z0_s jaq jai jaO jaA jat jau jav jaj jas jaJ jak jad jay jac jaW cyI jbC)) hP hD [0, 1] [] hCc rfl (by decide +kernel) (by decide +kernel) rfl hk1 hFc hP1 hD1
  generalize H1 = H at hP hS ⊢
  exact ((W.iret (v := r4) hx hb hr (fun t ht hW => ⟨⟨r4, (x1, x2, x3), rfl, hw, by rw [ht]; exact hP, va_K.moved hW.alike hK, hD⟩, hS.F ht⟩) hS.2.2 (dt_of tkX11_readHare_k0 7 rfl)))
theorem ui_X11_readDebt_X11 : ∀ w ∈ u_ws RX11 TX11 55, w ∈ wsX11_readDebt := uiM mbX11_readDebt euX11 (by decide +kernel)
theorem uw_X11_readDebt_f120 : (.fieldLink RX11 120 "MarchHaresModel" "at" "I" : Cond) ∈ wsX11_readDebt := mbX11_readDebt 1103 (by decide +kernel)
theorem uw_X11_readDebt_f32 : (.fieldLink RX11 32 "MarchHaresModel" "newDebt" "[I" : Cond) ∈ wsX11_readDebt := mbX11_readDebt 404 (by decide +kernel)
set_option maxHeartbeats 4000000 in
set_option maxRecDepth 100000 in
theorem kb_X11_readDebt_38 {p : Program} {l : Launch} {e : Env} {s : State} {m : MethodId} {args : Array Value} {below : List Frame} {meth : Method} {c : Code} {A : Nat → Prop} (dC : Nat → ClassId) (dI : Nat → Nat → Nat) (cyB cyI cyJ cyP : ClassId) (a0 jaW jdO : Nat) (jaX jaF jaD jaY jap jal jam jax ja6 jaV ja8 jae jaf ja0 ja4 jaP jaw jaI jaZ jaH jaS jan jaU jaE jar jaL jah jaB jaa jaz jaG jab ja2 z0_s jaq jai jaO jaA jat jau jav jaj jas jaJ jak jad jay jac : Value) (jbx jge : Int32) (jbC : Nat → Int32) (Q : Int32 → Int32 → Int32 → (Nat → Int32) → Prop)  (C0 : cfx p s m args meth c cX11_readDebt none wsX11_readDebt RX11 5 A (dC, dI) (kT cyB cyI cyJ cyP)) : ∀ (H : Heap) (locs : List Loc) (ls : Array Slot) (jcP jb8 jbh : Int32) (jil : Nat → Int32) (l1 l3 : Int32), va_P (dC, dI) vwCl (wd09_12 a0 jaX jaF jaD jbx jcP jb8 jbh jaY jap jaW jal jam jax jdO ja6 jaV ja8 jae jge jaf ja0 ja4 jaP jaw jaI jaZ jaH jaS jan jaU jaE jar jaL jah jaB jaa jaz jaG jab ja2 z0_s jaq jai jaO jaA jat jau jav jaj jas jaJ jak jad jay jac jaW cyI jbC jdO cyI jil) H → va_D A (wd09_12 a0 jaX jaF jaD jbx jcP jb8 jbh jaY jap jaW jal jam jax jdO ja6 jaV ja8 jae jge jaf ja0 ja4 jaP jaw jaI jaZ jaH jaS jan jaU jaE jar jaL jah jaB jaa jaz jaG jab ja2 z0_s jaq jai jaO jaA jat jau jav jaj jas jaJ jak jad jay jac jaW cyI jbC jdO cyI jil) → va_S A s.heap H locs → lv_has ls 5 [(0, .ref a0), (1, .int l1), (3, .int l3)] → wb_X11_readDebt_38 jbx jge jbC Q  jcP jb8 jbh jil l1 l3 → W p l e (headSpec wsX11_readDebt ({ frames := 3, cells := 0, slots := 0, locals := 67 })).room s m args below meth c H locs 0 0 (MQ below (va_Qv (fun (u : Int32 × Int32 × Int32 × (Nat → Int32)) => Q u.1 u.2.1 u.2.2.1 u.2.2.2) (cB (dC, dI) (kT cyB cyI cyJ cyP) A (fun u : Int32 × Int32 × Int32 × (Nat → Int32) => ((wd09_12 a0 jaX jaF jaD jbx u.1 u.2.1 u.2.2.1 jaY jap jaW jal jam jax jdO ja6 jaV ja8 jae jge jaf ja0 ja4 jaP jaw jaI jaZ jaH jaS jan jaU jaE jar jaL jah jaB jaa jaz jaG jab ja2 z0_s jaq jai jaO jaA jat jau jav jaj jas jaJ jak jad jay jac jaW cyI jbC jdO cyI u.2.2.2) : va_W))) A) args s 0 0 A) (F0 m 38 ls []) := by
  obtain ⟨hx, hb, hr, hts, hown, hlocks, hml, hA, hK, hNw⟩ := id C0
  intro H locs ls jcP jb8 jbh jil l1 l3 hP hD hS hl hw
  refine lv_aload_n hx hb (dt_of tkX11_readDebt_k28 6 rfl) rfl (lv_at hl 0 rfl) ?_
  refine lv_iconst (v := 0) hx hb (dt_of tkX11_readDebt_k28 7 rfl) (by decide) ?_
  refine lv_bipush (v := 99) hx hb (dt_of tkX11_readDebt_k28 8 rfl) (by decide) ?_
  obtain ⟨hCc, hPc, hDc, hFc⟩ := va_pick (ws' := (wd09_13 a0 jaX jaF jaD jbx jcP jb8 jbh jaY jap jaW jal jam jax jdO ja6 jaV ja8 jae jge jaf ja0 ja4 jaP jaw jaI jaZ jaH jaS jan jaU jaE jar jaL jah jaB jaa jaz jaG jab ja2 z0_s jaq jai jaO jaA jat jau jav jaj jas jaJ jak jad jay jac jaW cyI jbC)) hP hD hS hA [0, 1] (by decide +kernel) rfl
  refine va_calli (va_runV (As := [.int 0, .int 99]) (rest := []) ⟨hx, hb, hml, hown, hts⟩ (ck_X11_readNumber l dC dI cyB cyI cyJ cyP a0 jaW H.size (jaX) (jaF) (jaD) (jaY) (jap) (jal) (jam) (jax) (.ref jdO) (ja6) (jaV) (ja8) (jae) (.int jge) (jaf) (ja0) (ja4) (jaP) (jaw) (jaI) (jaZ) (jaH) (jaS) (jan) (jaU) (jaE) (jar) (jaL) (jah) (jaB) (jaa) (jaz) (jaG) (jab) (ja2) (z0_s) (jaq) (jai) (jaO) (jaA) (jat) (jau) (jav) (jaj) (jas) (jaJ) (jak) (jad) (jay) (jac) jbx jbC jcP jb8 jbh 0 99 hw) (cwV 2 hts gX11_readDebt_X11_readNumber rfl rfl rfl (by decide +kernel) ⟨Nat.le_of_ble_eq_true rfl, Nat.le_of_ble_eq_true rfl⟩) ⟨cPc_blind, va_recv (q := (RX11, TX11, 55)) hK hPc (ci := 11) (q0 := 0) rfl rfl, cPc_pre hPc hK hDc hNw⟩ rfl rfl hl.1 rfl (lv_room (Nat.le_of_ble_eq_true rfl)) (dt_of tkX11_readDebt_k28 9 rfl) ⟨Nat.le_of_ble_eq_true rfl, Nat.le_of_ble_eq_true rfl⟩) hS (fun q _ h => hFc q h) hFc (fun r19 u t H1 locs ht hvm hw hB hz1 hk1 hS => ?_)
  obtain ⟨x16, x17, x18⟩ := u
  obtain ⟨hP1, hK1, hD1⟩ := hB
  rw [ht] at hP1
  obtain ⟨hP, hD⟩ := va_joinN (wr := (wd09_14 jdO cyI jil)) (w1 := (wd09_13 a0 jaX jaF jaD jbx x16 x17 x18 jaY jap jaW jal jam jax jdO ja6 jaV ja8 jae jge jaf ja0 ja4 jaP jaw jaI jaZ jaH jaS jan jaU jaE jar jaL jah jaB jaa jaz jaG jab ja2 z0_s jaq jai jaO jaA jat jau jav jaj jas jaJ jak jad jay jac jaW cyI jbC)) (wn := (wd09_12 a0 jaX jaF jaD jbx x16 x17 x18 jaY jap jaW jal jam jax jdO ja6 jaV ja8 jae jge jaf ja0 ja4 jaP jaw jaI jaZ jaH jaS jan jaU jaE jar jaL jah jaB jaa jaz jaG jab ja2 z0_s jaq jai jaO jaA jat jau jav jaj jas jaJ jak jad jay jac jaW cyI jbC jdO cyI jil)) hP hD [0, 1] [2] [1, 2, 0] hCc rfl (by decide +kernel) (by decide +kernel) (by decide +kernel) rfl hk1 hFc hP1 hD1
  generalize H1 = H at hP hS ⊢
  refine lv_istore (lv' := [(4, .int r19), (0, .ref a0), (1, .int l1), (3, .int l3)]) hx hb (dt_of tkX11_readDebt_k28 10 rfl) hl (by decide) rfl (fun ls hl => ?_)
  refine lv_aload_n hx hb (dt_of tkX11_readDebt_k28 11 rfl) rfl (lv_at hl 1 rfl) ?_
  obtain ⟨hCc, hPc, hDc, hFc⟩ := va_pick (ws' := (wd09_15 a0 jaX jaF jaD jbx x16 x17 x18 jaY jap jaW jal jam jax jdO ja6 jaV ja8 jae jge jaf ja0 ja4 jaP jaw jaI jaZ jaH jaS jan jaU jaE jar jaL jah jaB jaa jaz jaG jab ja2 z0_s jaq jai jaO jaA jat jau jav jaj jas jaJ jak jad jay jac)) hP hD hS hA [0] (by decide +kernel) rfl
  refine va_calli (va_runV (As := []) (rest := []) ⟨hx, hb, hml, hown, hts⟩ (ck_X11_fine l dC dI cyB cyI cyJ cyP a0 H.size (jaX) (jaF) (jaD) (.int jbx) (.int x16) (.int x18) (jaY) (jap) (.ref jaW) (jal) (jam) (jax) (.ref jdO) (ja6) (jaV) (ja8) (jae) (.int jge) (jaf) (ja0) (ja4) (jaP) (jaw) (jaI) (jaZ) (jaH) (jaS) (jan) (jaU) (jaE) (jar) (jaL) (jah) (jaB) (jaa) (jaz) (jaG) (jab) (ja2) (z0_s) (jaq) (jai) (jaO) (jaA) (jat) (jau) (jav) (jaj) (jas) (jaJ) (jak) (jad) (jay) (jac) x17   hw) (cwV 0 hts gX11_readDebt_X11_fine rfl rfl rfl (by decide +kernel) ⟨Nat.le_of_ble_eq_true rfl, Nat.le_of_ble_eq_true rfl⟩) ⟨cPc_blind, va_recv (q := (RX11, TX11, 55)) hK hPc (ci := 11) (q0 := 0) rfl rfl, cPc_pre hPc hK hDc hNw⟩ rfl rfl hl.1 rfl (lv_room (Nat.le_of_ble_eq_true rfl)) (dt_of tkX11_readDebt_k28 12 rfl) ⟨Nat.le_of_ble_eq_true rfl, Nat.le_of_ble_eq_true rfl⟩) hS (fun q _ h => hFc q h) hFc (fun r20 u t H1 locs ht hvm hw hB hz1 hk1 hS => ?_)
  obtain ⟨hP1, hK1, hD1⟩ := hB
  rw [ht] at hP1
  obtain ⟨hP, hD⟩ := va_joinN (wr := (wd09_16 jaW cyI jbC jdO cyI jil)) (w1 := (wd09_15 a0 jaX jaF jaD jbx x16 x17 x18 jaY jap jaW jal jam jax jdO ja6 jaV ja8 jae jge jaf ja0 ja4 jaP jaw jaI jaZ jaH jaS jan jaU jaE jar jaL jah jaB jaa jaz jaG jab ja2 z0_s jaq jai jaO jaA jat jau jav jaj jas jaJ jak jad jay jac)) (wn := (wd09_12 a0 jaX jaF jaD jbx x16 x17 x18 jaY jap jaW jal jam jax jdO ja6 jaV ja8 jae jge jaf ja0 ja4 jaP jaw jaI jaZ jaH jaS jan jaU jaE jar jaL jah jaB jaa jaz jaG jab ja2 z0_s jaq jai jaO jaA jat jau jav jaj jas jaJ jak jad jay jac jaW cyI jbC jdO cyI jil)) hP hD [0] [1, 2] [2, 0, 1] hCc rfl (by decide +kernel) (by decide +kernel) (by decide +kernel) rfl hk1 hFc hP1 hD1
  generalize H1 = H at hP hS ⊢
  refine lv_if_eq (tgt := 67) hx hb (dt_of tkX11_readDebt_k28 13 rfl) (by decide) (fun c21 => ?_) (fun c21 => ?_)
  · have hw := hw.1 c21
    exact ((W.vret hx hb hr (fun t ht hW => ⟨⟨(x16, x17, x18, jil), rfl, hw, by rw [ht]; exact hP, va_K.moved hW.alike hK, hD⟩, hS.F ht⟩) hS.2.2 (dt_of tkX11_readDebt_k58 7 rfl)))
  · have hw := hw.2 c21
    refine lv_aload_n hx hb (dt_of tkX11_readDebt_k28 14 rfl) rfl (lv_at hl 1 rfl) ?_
    refine va_get (D := (dC, dI)) (ci := 11) (v := .ref jdO) (C := RX11) (T := TX11) (N := 55) hx hb hts ui_X11_readDebt_X11 hown hK hP 0 rfl rfl 13 (by decide) (hts _ uw_X11_readDebt_f32) (fun _ h9 => h9) rfl (dt_of tkX11_readDebt_k28 15 rfl) ?_
    refine lv_bipush (v := 6) hx hb (dt_of tkX11_readDebt_k58 0 rfl) (by decide) ?_
    refine lv_iload_n hx hb (dt_of tkX11_readDebt_k58 1 rfl) rfl (lv_at hl 2 rfl) ?_
    refine lv_imul hx hb (dt_of tkX11_readDebt_k58 2 rfl) ?_
    refine lv_topi (fun x22 ex22 => ?_)
    have hw := hw x22 ex22
    refine lv_iload_n hx hb (dt_of tkX11_readDebt_k58 3 rfl) rfl (lv_at hl 3 rfl) ?_
    refine lv_iadd hx hb (dt_of tkX11_readDebt_k58 4 rfl) ?_
    refine lv_topi (fun x23 ex23 => ?_)
    have hw := hw x23 ex23
    refine lv_iload hx hb (dt_of tkX11_readDebt_k58 5 rfl) (lv_at hl 0 rfl) ?_
    obtain ⟨hi9, hw⟩ := hw
    refine va_iast hx hb hK hP hD hS 2 1 rfl rfl hi9 (dt_of tkX11_readDebt_k58 6 rfl) (fun H locs hP hD hS => ?_)
    obtain ⟨f24, ef24⟩ : ∃ y : Nat → Int32, y = upd jil x23.toNatClampNeg r19 := ⟨_, rfl⟩
    have hw := hw f24 ef24
    have hP : va_P (dC, dI) vwCl (wd09_12 a0 jaX jaF jaD jbx x16 x17 x18 jaY jap jaW jal jam jax jdO ja6 jaV ja8 jae jge jaf ja0 ja4 jaP jaw jaI jaZ jaH jaS jan jaU jaE jar jaL jah jaB jaa jaz jaG jab ja2 z0_s jaq jai jaO jaA jat jau jav jaj jas jaJ jak jad jay jac jaW cyI jbC jdO cyI f24) H := by rw [ef24]; exact hP
    have hD : va_D A (wd09_12 a0 jaX jaF jaD jbx x16 x17 x18 jaY jap jaW jal jam jax jdO ja6 jaV ja8 jae jge jaf ja0 ja4 jaP jaw jaI jaZ jaH jaS jan jaU jaE jar jaL jah jaB jaa jaz jaG jab ja2 z0_s jaq jai jaO jaA jat jau jav jaj jas jaJ jak jad jay jac jaW cyI jbC jdO cyI f24) := by rw [ef24]; exact hD
    exact ((W.vret hx hb hr (fun t ht hW => ⟨⟨(x16, x17, x18, f24), rfl, hw, by rw [ht]; exact hP, va_K.moved hW.alike hK, hD⟩, hS.F ht⟩) hS.2.2 (dt_of tkX11_readDebt_k58 7 rfl)))
set_option maxHeartbeats 4000000 in
set_option maxRecDepth 100000 in
theorem ck_X11_readDebt (l : Launch) (dC : Nat → ClassId) (dI : Nat → Nat → Nat) (cyB cyI cyJ cyP : ClassId) (a0 jaW jdO sz : Nat) (jaX jaF jaD jaY jap jal jam jax ja6 jaV ja8 jae jaf ja0 ja4 jaP jaw jaI jaZ jaH jaS jan jaU jaE jar jaL jah jaB jaa jaz jaG jab ja2 z0_s jaq jai jaO jaA jat jau jav jaj jas jaJ jak jad jay jac : Value) (jbx jge : Int32) (jbC : Nat → Int32) (jcP jb8 jbh : Int32) (jil : Nat → Int32)  {Q : Int32 → Int32 → Int32 → (Nat → Int32) → Prop} (hw : wq_X11_readDebt jbx jge jbC jcP jb8 jbh jil  Q) : Met l yX11_readDebt wsX11_readDebt ({ frames := 3, cells := 0, slots := 0, locals := 67 }) (va_Pc [.ref a0] (cPc (dC, dI) (kT cyB cyI cyJ cyP) (wd09_12 a0 jaX jaF jaD jbx jcP jb8 jbh jaY jap jaW jal jam jax jdO ja6 jaV ja8 jae jge jaf ja0 ja4 jaP jaw jaI jaZ jaH jaS jan jaU jaE jar jaL jah jaB jaa jaz jaG jab ja2 z0_s jaq jai jaO jaA jat jau jav jaj jas jaJ jak jad jay jac jaW cyI jbC jdO cyI jil) sz)) (va_Qv (fun (u : Int32 × Int32 × Int32 × (Nat → Int32)) => Q u.1 u.2.1 u.2.2.1 u.2.2.2) (cB (dC, dI) (kT cyB cyI cyJ cyP) (va_A (wd09_12 a0 jaX jaF jaD jbx jcP jb8 jbh jaY jap jaW jal jam jax jdO ja6 jaV ja8 jae jge jaf ja0 ja4 jaP jaw jaI jaZ jaH jaS jan jaU jaE jar jaL jah jaB jaa jaz jaG jab ja2 z0_s jaq jai jaO jaA jat jau jav jaj jas jaJ jak jad jay jac jaW cyI jbC jdO cyI jil) sz) (fun u : Int32 × Int32 × Int32 × (Nat → Int32) => ((wd09_12 a0 jaX jaF jaD jbx u.1 u.2.1 u.2.2.1 jaY jap jaW jal jam jax jdO ja6 jaV ja8 jae jge jaf ja0 ja4 jaP jaw jaI jaZ jaH jaS jan jaU jaE jar jaL jah jaB jaa jaz jaG jab ja2 z0_s jaq jai jaO jaA jat jau jav jaj jas jaJ jak jad jay jac jaW cyI jbC jdO cyI u.2.2.2) : va_W))) (va_A (wd09_12 a0 jaX jaF jaD jbx jcP jb8 jbh jaY jap jaW jal jam jax jdO ja6 jaV ja8 jae jge jaf ja0 ja4 jaP jaw jaI jaZ jaH jaS jan jaU jaE jar jaL jah jaB jaa jaz jaG jab ja2 z0_s jaq jai jaO jaA jat jau jav jaj jas jaJ jak jad jay jac jaW cyI jbC jdO cyI jil) sz)) 0 0 (va_A (wd09_12 a0 jaX jaF jaD jbx jcP jb8 jbh jaY jap jaW jal jam jax jdO ja6 jaV ja8 jae jge jaf ja0 ja4 jaP jaw jaI jaZ jaH jaS jan jaU jaE jar jaL jah jaB jaa jaz jaG jab ja2 z0_s jaq jai jaO jaA jat jau jav jaj jas jaJ jak jad jay jac jaW cyI jbC jdO cyI jil) sz) := by
  refine Met.ofW (cc := cX11_readDebt) (maxL := 5) (ret := none) (by decide) rfl ?_
  intro p e s m args below meth c s₁ B hml hv
  obtain ⟨rfl, hsz, hP, hK, hD0, hNw⟩ := hv
  have hx := B.exec
  have hb := B.bytes
  have hr := B.returns
  have hts := atoms_spec (ws := wsX11_readDebt) B.pre
  have hown : s.vm.findClass RX11 = some m.cls := findClass_of_methodNamed B.named
  have hlocks := B.notSynchronized
  subst hsz
  have hD := hD0.self (sz := s.heap.size)
  generalize hAe : va_A (wd09_12 a0 jaX jaF jaD jbx jcP jb8 jbh jaY jap jaW jal jam jax jdO ja6 jaV ja8 jae jge jaf ja0 ja4 jaP jaw jaI jaZ jaH jaS jan jaU jaE jar jaL jah jaB jaa jaz jaG jab ja2 z0_s jaq jai jaO jaA jat jau jav jaj jas jaJ jak jad jay jac jaW cyI jbC jdO cyI jil) s.heap.size = A at hD ⊢
  have hA : ∀ q : Nat, s.heap.size ≤ q → A q := fun q h => by rw [← hAe]; exact Or.inr h
  have hS : va_S A s.heap s.heap [] := va_S.rf
  have hP : va_P (dC, dI) vwCl (wd09_12 a0 jaX jaF jaD jbx jcP jb8 jbh jaY jap jaW jal jam jax jdO ja6 jaV ja8 jae jge jaf ja0 ja4 jaP jaw jaI jaZ jaH jaS jan jaU jaE jar jaL jah jaB jaa jaz jaG jab ja2 z0_s jaq jai jaO jaA jat jau jav jaj jas jaJ jak jad jay jac jaW cyI jbC jdO cyI jil) s.heap := hP
  have hl := lv_entry ([.ref a0]) (n := 5) (Nat.le_of_ble_eq_true rfl)
  rw [lg_entry_eq]
  generalize (lg_sl ([.ref a0]) ++ List.replicate (5 - (lg_sl ([.ref a0])).length) Slot.unset).toArray = ls at hl ⊢
  have hl : lv_has ls 5 [(0, .ref a0)] := hl
  have C0 : cfx p s m _ meth c cX11_readDebt none wsX11_readDebt RX11 5 A (dC, dI) (kT cyB cyI cyJ cyP) := ⟨hx, hb, hr, hts, hown, hlocks, hml, hA, hK, hNw⟩
  clear hAe
  obtain ⟨H, hH⟩ : ∃ H, H = s.heap := ⟨_, rfl⟩
  rw [← hH] at hP ⊢
  have hS : va_S A s.heap H [] := by rw [hH]; exact va_S.rf
  have hS := hS
  refine lv_aload_n hx hb (dt_of tkX11_readDebt_k0 0 rfl) rfl (lv_at hl 0 rfl) ?_
  obtain ⟨hCc, hPc, hDc, hFc⟩ := va_pick (ws' := (wd09_13 a0 jaX jaF jaD jbx jcP jb8 jbh jaY jap jaW jal jam jax jdO ja6 jaV ja8 jae jge jaf ja0 ja4 jaP jaw jaI jaZ jaH jaS jan jaU jaE jar jaL jah jaB jaa jaz jaG jab ja2 z0_s jaq jai jaO jaA jat jau jav jaj jas jaJ jak jad jay jac jaW cyI jbC)) hP hD hS hA [0, 1] (by decide +kernel) rfl
  refine va_calli (va_runV (As := []) (rest := []) ⟨hx, hb, hml, hown, hts⟩ (ck_X11_readHare l dC dI cyB cyI cyJ cyP a0 jaW H.size (jaX) (jaF) (jaD) (jaY) (jap) (jal) (jam) (jax) (.ref jdO) (ja6) (jaV) (ja8) (jae) (jaf) (ja0) (ja4) (jaP) (jaw) (jaI) (jaZ) (jaH) (jaS) (jan) (jaU) (jaE) (jar) (jaL) (jah) (jaB) (jaa) (jaz) (jaG) (jab) (ja2) (z0_s) (jaq) (jai) (jaO) (jaA) (jat) (jau) (jav) (jaj) (jas) (jaJ) (jak) (jad) (jay) (jac) jbx jge jbC jcP jb8 jbh  hw) (cwV 0 hts gX11_readDebt_X11_readHare rfl rfl rfl (by decide +kernel) ⟨Nat.le_of_ble_eq_true rfl, Nat.le_of_ble_eq_true rfl⟩) ⟨cPc_blind, va_recv (q := (RX11, TX11, 55)) hK hPc (ci := 11) (q0 := 0) rfl rfl, cPc_pre hPc hK hDc hNw⟩ rfl rfl hl.1 rfl (lv_room (Nat.le_of_ble_eq_true rfl)) (dt_of tkX11_readDebt_k0 1 rfl) ⟨Nat.le_of_ble_eq_true rfl, Nat.le_of_ble_eq_true rfl⟩) hS (fun q _ h => hFc q h) hFc (fun r4 u t H1 locs ht hvm hw hB hz1 hk1 hS => ?_)
  obtain ⟨x1, x2, x3⟩ := u
  obtain ⟨hP1, hK1, hD1⟩ := hB
  rw [ht] at hP1
  obtain ⟨hP, hD⟩ := va_joinN (wr := (wd09_14 jdO cyI jil)) (w1 := (wd09_13 a0 jaX jaF jaD jbx x1 x2 x3 jaY jap jaW jal jam jax jdO ja6 jaV ja8 jae jge jaf ja0 ja4 jaP jaw jaI jaZ jaH jaS jan jaU jaE jar jaL jah jaB jaa jaz jaG jab ja2 z0_s jaq jai jaO jaA jat jau jav jaj jas jaJ jak jad jay jac jaW cyI jbC)) (wn := (wd09_12 a0 jaX jaF jaD jbx x1 x2 x3 jaY jap jaW jal jam jax jdO ja6 jaV ja8 jae jge jaf ja0 ja4 jaP jaw jaI jaZ jaH jaS jan jaU jaE jar jaL jah jaB jaa jaz jaG jab ja2 z0_s jaq jai jaO jaA jat jau jav jaj jas jaJ jak jad jay jac jaW cyI jbC jdO cyI jil)) hP hD [0, 1] [2] [1, 2, 0] hCc rfl (by decide +kernel) (by decide +kernel) (by decide +kernel) rfl hk1 hFc hP1 hD1
  generalize H1 = H at hP hS ⊢
  refine lv_istore_n (lv' := [(1, .int r4), (0, .ref a0)]) hx hb (dt_of tkX11_readDebt_k0 2 rfl) rfl hl (by decide) rfl (fun ls hl => ?_)
  refine lv_aload_n hx hb (dt_of tkX11_readDebt_k0 3 rfl) rfl (lv_at hl 1 rfl) ?_
  obtain ⟨hCc, hPc, hDc, hFc⟩ := va_pick (ws' := (wd09_13 a0 jaX jaF jaD jbx x1 x2 x3 jaY jap jaW jal jam jax jdO ja6 jaV ja8 jae jge jaf ja0 ja4 jaP jaw jaI jaZ jaH jaS jan jaU jaE jar jaL jah jaB jaa jaz jaG jab ja2 z0_s jaq jai jaO jaA jat jau jav jaj jas jaJ jak jad jay jac jaW cyI jbC)) hP hD hS hA [0, 1] (by decide +kernel) rfl
  refine va_calli (va_runV (As := []) (rest := []) ⟨hx, hb, hml, hown, hts⟩ (ck_X11_here l dC dI cyB cyI cyJ cyP a0 jaW H.size (jaX) (jaF) (jaD) (.int x2) (.int x3) (jaY) (jap) (jal) (jam) (jax) (.ref jdO) (ja6) (jaV) (ja8) (jae) (.int jge) (jaf) (ja0) (ja4) (jaP) (jaw) (jaI) (jaZ) (jaH) (jaS) (jan) (jaU) (jaE) (jar) (jaL) (jah) (jaB) (jaa) (jaz) (jaG) (jab) (ja2) (z0_s) (jaq) (jai) (jaO) (jaA) (jat) (jau) (jav) (jaj) (jas) (jaJ) (jak) (jad) (jay) (jac) jbx jbC x1  hw) (cwV 0 hts gX11_readDebt_X11_here rfl rfl rfl (by decide +kernel) ⟨Nat.le_of_ble_eq_true rfl, Nat.le_of_ble_eq_true rfl⟩) ⟨cPc_blind, va_recv (q := (RX11, TX11, 55)) hK hPc (ci := 11) (q0 := 0) rfl rfl, cPc_pre hPc hK hDc hNw⟩ rfl rfl hl.1 rfl (lv_room (Nat.le_of_ble_eq_true rfl)) (dt_of tkX11_readDebt_k0 4 rfl) ⟨Nat.le_of_ble_eq_true rfl, Nat.le_of_ble_eq_true rfl⟩) hS (fun q _ h => hFc q h) hFc (fun r6 u t H1 locs ht hvm hw hB hz1 hk1 hS => ?_)
  obtain ⟨x5, rfl⟩ : ∃ z, z = u := ⟨_, rfl⟩
  obtain ⟨hP1, hK1, hD1⟩ := hB
  rw [ht] at hP1
  obtain ⟨hP, hD⟩ := va_joinN (wr := (wd09_14 jdO cyI jil)) (w1 := (wd09_13 a0 jaX jaF jaD jbx x5 x2 x3 jaY jap jaW jal jam jax jdO ja6 jaV ja8 jae jge jaf ja0 ja4 jaP jaw jaI jaZ jaH jaS jan jaU jaE jar jaL jah jaB jaa jaz jaG jab ja2 z0_s jaq jai jaO jaA jat jau jav jaj jas jaJ jak jad jay jac jaW cyI jbC)) (wn := (wd09_12 a0 jaX jaF jaD jbx x5 x2 x3 jaY jap jaW jal jam jax jdO ja6 jaV ja8 jae jge jaf ja0 ja4 jaP jaw jaI jaZ jaH jaS jan jaU jaE jar jaL jah jaB jaa jaz jaG jab ja2 z0_s jaq jai jaO jaA jat jau jav jaj jas jaJ jak jad jay jac jaW cyI jbC jdO cyI jil)) hP hD [0, 1] [2] [1, 2, 0] hCc rfl (by decide +kernel) (by decide +kernel) (by decide +kernel) rfl hk1 hFc hP1 hD1
  generalize H1 = H at hP hS ⊢
  refine lv_pop hx hb (dt_of tkX11_readDebt_k0 5 rfl) rfl ?_
  refine lv_aload_n hx hb (dt_of tkX11_readDebt_k0 6 rfl) rfl (lv_at hl 1 rfl) ?_
  refine va_get (D := (dC, dI)) (ci := 11) (v := .int x5) (C := RX11) (T := TX11) (N := 55) hx hb hts ui_X11_readDebt_X11 hown hK hP 0 rfl rfl 4 (by decide) (hts _ uw_X11_readDebt_f120) (fun _ h9 => h9) rfl (dt_of tkX11_readDebt_k0 7 rfl) ?_
  refine lv_istore_n (lv' := [(2, .int x5), (1, .int r4), (0, .ref a0)]) hx hb (dt_of tkX11_readDebt_k0 8 rfl) rfl hl (by decide) rfl (fun ls hl => ?_)
  refine lv_aload_n hx hb (dt_of tkX11_readDebt_k0 9 rfl) rfl (lv_at hl 2 rfl) ?_
  obtain ⟨hCc, hPc, hDc, hFc⟩ := va_pick (ws' := (wd09_13 a0 jaX jaF jaD jbx x5 x2 x3 jaY jap jaW jal jam jax jdO ja6 jaV ja8 jae jge jaf ja0 ja4 jaP jaw jaI jaZ jaH jaS jan jaU jaE jar jaL jah jaB jaa jaz jaG jab ja2 z0_s jaq jai jaO jaA jat jau jav jaj jas jaJ jak jad jay jac jaW cyI jbC)) hP hD hS hA [0, 1] (by decide +kernel) rfl
  refine va_calli (va_runV (As := []) (rest := []) ⟨hx, hb, hml, hown, hts⟩ (ck_X11_readHare l dC dI cyB cyI cyJ cyP a0 jaW H.size (jaX) (jaF) (jaD) (jaY) (jap) (jal) (jam) (jax) (.ref jdO) (ja6) (jaV) (ja8) (jae) (jaf) (ja0) (ja4) (jaP) (jaw) (jaI) (jaZ) (jaH) (jaS) (jan) (jaU) (jaE) (jar) (jaL) (jah) (jaB) (jaa) (jaz) (jaG) (jab) (ja2) (z0_s) (jaq) (jai) (jaO) (jaA) (jat) (jau) (jav) (jaj) (jas) (jaJ) (jak) (jad) (jay) (jac) jbx jge jbC x5 x2 x3  hw) (cwV 0 hts gX11_readDebt_X11_readHare rfl rfl rfl (by decide +kernel) ⟨Nat.le_of_ble_eq_true rfl, Nat.le_of_ble_eq_true rfl⟩) ⟨cPc_blind, va_recv (q := (RX11, TX11, 55)) hK hPc (ci := 11) (q0 := 0) rfl rfl, cPc_pre hPc hK hDc hNw⟩ rfl rfl hl.1 rfl (lv_room (Nat.le_of_ble_eq_true rfl)) (dt_of tkX11_readDebt_k0 10 rfl) ⟨Nat.le_of_ble_eq_true rfl, Nat.le_of_ble_eq_true rfl⟩) hS (fun q _ h => hFc q h) hFc (fun r10 u t H1 locs ht hvm hw hB hz1 hk1 hS => ?_)
  obtain ⟨x7, x8, x9⟩ := u
  obtain ⟨hP1, hK1, hD1⟩ := hB
  rw [ht] at hP1
  obtain ⟨hP, hD⟩ := va_joinN (wr := (wd09_14 jdO cyI jil)) (w1 := (wd09_13 a0 jaX jaF jaD jbx x7 x8 x9 jaY jap jaW jal jam jax jdO ja6 jaV ja8 jae jge jaf ja0 ja4 jaP jaw jaI jaZ jaH jaS jan jaU jaE jar jaL jah jaB jaa jaz jaG jab ja2 z0_s jaq jai jaO jaA jat jau jav jaj jas jaJ jak jad jay jac jaW cyI jbC)) (wn := (wd09_12 a0 jaX jaF jaD jbx x7 x8 x9 jaY jap jaW jal jam jax jdO ja6 jaV ja8 jae jge jaf ja0 ja4 jaP jaw jaI jaZ jaH jaS jan jaU jaE jar jaL jah jaB jaa jaz jaG jab ja2 z0_s jaq jai jaO jaA jat jau jav jaj jas jaJ jak jad jay jac jaW cyI jbC jdO cyI jil)) hP hD [0, 1] [2] [1, 2, 0] hCc rfl (by decide +kernel) (by decide +kernel) (by decide +kernel) rfl hk1 hFc hP1 hD1
  generalize H1 = H at hP hS ⊢
  refine lv_istore_n (lv' := [(3, .int r10), (2, .int x5), (1, .int r4), (0, .ref a0)]) hx hb (dt_of tkX11_readDebt_k0 11 rfl) rfl hl (by decide) rfl (fun ls hl => ?_)
  refine lv_aload_n hx hb (dt_of tkX11_readDebt_k0 12 rfl) rfl (lv_at hl 3 rfl) ?_
  obtain ⟨hCc, hPc, hDc, hFc⟩ := va_pick (ws' := (wd09_15 a0 jaX jaF jaD jbx x7 x8 x9 jaY jap jaW jal jam jax jdO ja6 jaV ja8 jae jge jaf ja0 ja4 jaP jaw jaI jaZ jaH jaS jan jaU jaE jar jaL jah jaB jaa jaz jaG jab ja2 z0_s jaq jai jaO jaA jat jau jav jaj jas jaJ jak jad jay jac)) hP hD hS hA [0] (by decide +kernel) rfl
  refine va_calli (va_runV (As := []) (rest := []) ⟨hx, hb, hml, hown, hts⟩ (ck_X11_fine l dC dI cyB cyI cyJ cyP a0 H.size (jaX) (jaF) (jaD) (.int jbx) (.int x7) (.int x9) (jaY) (jap) (.ref jaW) (jal) (jam) (jax) (.ref jdO) (ja6) (jaV) (ja8) (jae) (.int jge) (jaf) (ja0) (ja4) (jaP) (jaw) (jaI) (jaZ) (jaH) (jaS) (jan) (jaU) (jaE) (jar) (jaL) (jah) (jaB) (jaa) (jaz) (jaG) (jab) (ja2) (z0_s) (jaq) (jai) (jaO) (jaA) (jat) (jau) (jav) (jaj) (jas) (jaJ) (jak) (jad) (jay) (jac) x8   hw) (cwV 0 hts gX11_readDebt_X11_fine rfl rfl rfl (by decide +kernel) ⟨Nat.le_of_ble_eq_true rfl, Nat.le_of_ble_eq_true rfl⟩) ⟨cPc_blind, va_recv (q := (RX11, TX11, 55)) hK hPc (ci := 11) (q0 := 0) rfl rfl, cPc_pre hPc hK hDc hNw⟩ rfl rfl hl.1 rfl (lv_room (Nat.le_of_ble_eq_true rfl)) (dt_of tkX11_readDebt_k0 13 rfl) ⟨Nat.le_of_ble_eq_true rfl, Nat.le_of_ble_eq_true rfl⟩) hS (fun q _ h => hFc q h) hFc (fun r11 u t H1 locs ht hvm hw hB hz1 hk1 hS => ?_)
  obtain ⟨hP1, hK1, hD1⟩ := hB
  rw [ht] at hP1
  obtain ⟨hP, hD⟩ := va_joinN (wr := (wd09_16 jaW cyI jbC jdO cyI jil)) (w1 := (wd09_15 a0 jaX jaF jaD jbx x7 x8 x9 jaY jap jaW jal jam jax jdO ja6 jaV ja8 jae jge jaf ja0 ja4 jaP jaw jaI jaZ jaH jaS jan jaU jaE jar jaL jah jaB jaa jaz jaG jab ja2 z0_s jaq jai jaO jaA jat jau jav jaj jas jaJ jak jad jay jac)) (wn := (wd09_12 a0 jaX jaF jaD jbx x7 x8 x9 jaY jap jaW jal jam jax jdO ja6 jaV ja8 jae jge jaf ja0 ja4 jaP jaw jaI jaZ jaH jaS jan jaU jaE jar jaL jah jaB jaa jaz jaG jab ja2 z0_s jaq jai jaO jaA jat jau jav jaj jas jaJ jak jad jay jac jaW cyI jbC jdO cyI jil)) hP hD [0] [1, 2] [2, 0, 1] hCc rfl (by decide +kernel) (by decide +kernel) (by decide +kernel) rfl hk1 hFc hP1 hD1
  generalize H1 = H at hP hS ⊢
  refine lv_if_eq (tgt := 38) hx hb (dt_of tkX11_readDebt_k0 14 rfl) (by decide) (fun c12 => ?_) (fun c12 => ?_)
  · have hw := hw.1 c12
    exact kb_X11_readDebt_38 dC dI cyB cyI cyJ cyP a0 jaW jdO jaX jaF jaD jaY jap jal jam jax ja6 jaV ja8 jae jaf ja0 ja4 jaP jaw jaI jaZ jaH jaS jan jaU jaE jar jaL jah jaB jaa jaz jaG jab ja2 z0_s jaq jai jaO jaA jat jau jav jaj jas jaJ jak jad jay jac jbx jge jbC Q  C0 _ _ _ x7 x8 x9 jil r4 r10 hP hD hS (lv_sub hl [3, 2, 0] rfl) hw
  · have hw := hw.2 c12
    refine lv_iload_n hx hb (dt_of tkX11_readDebt_k0 15 rfl) rfl (lv_at hl 2 rfl) ?_
    refine lv_iload_n hx hb (dt_of tkX11_readDebt_k28 0 rfl) rfl (lv_at hl 0 rfl) ?_
    refine lv_icmp_ne (tgt := 38) hx hb (dt_of tkX11_readDebt_k28 1 rfl) (by decide) (fun c13 => ?_) (fun c13 => ?_)
    · have hw := hw.1 c13
      exact kb_X11_readDebt_38 dC dI cyB cyI cyJ cyP a0 jaW jdO jaX jaF jaD jaY jap jal jam jax ja6 jaV ja8 jae jaf ja0 ja4 jaP jaw jaI jaZ jaH jaS jan jaU jaE jar jaL jah jaB jaa jaz jaG jab ja2 z0_s jaq jai jaO jaA jat jau jav jaj jas jaJ jak jad jay jac jbx jge jbC Q  C0 _ _ _ x7 x8 x9 jil r4 r10 hP hD hS (lv_sub hl [3, 2, 0] rfl) hw
    · have hw := hw.2 c13
      refine lv_aload_n hx hb (dt_of tkX11_readDebt_k28 2 rfl) rfl (lv_at hl 3 rfl) ?_
      refine lv_iconst (v := 2) hx hb (dt_of tkX11_readDebt_k28 3 rfl) (by decide) ?_
      refine lv_iload_n hx hb (dt_of tkX11_readDebt_k28 4 rfl) rfl (lv_at hl 1 rfl) ?_
      obtain ⟨hCc, hPc, hDc, hFc⟩ := va_pick (ws' := (wd09_15 a0 jaX jaF jaD jbx x7 x8 x9 jaY jap jaW jal jam jax jdO ja6 jaV ja8 jae jge jaf ja0 ja4 jaP jaw jaI jaZ jaH jaS jan jaU jaE jar jaL jah jaB jaa jaz jaG jab ja2 z0_s jaq jai jaO jaA jat jau jav jaj jas jaJ jak jad jay jac)) hP hD hS hA [0] (by decide +kernel) rfl
      refine va_callv (va_runV (As := [.int 2, .int x5]) (rest := []) ⟨hx, hb, hml, hown, hts⟩ (ck_X11_wrong l dC dI cyB cyI cyJ cyP a0 H.size (jaX) (jaF) (jaD) (.int jbx) (.int x7) (jaY) (jap) (.ref jaW) (jal) (jam) (jax) (.ref jdO) (ja6) (jaV) (ja8) (jae) (.int jge) (jaf) (ja0) (ja4) (jaP) (jaw) (jaI) (jaZ) (jaH) (jaS) (jan) (jaU) (jaE) (jar) (jaL) (jah) (jaB) (jaa) (jaz) (jaG) (jab) (ja2) (z0_s) (jaq) (jai) (jaO) (jaA) (jat) (jau) (jav) (jaj) (jas) (jaJ) (jak) (jad) (jay) (jac)  x8 x9 2 x5 hw) (cwV 2 hts gX11_readDebt_X11_wrong rfl rfl rfl (by decide +kernel) ⟨Nat.le_of_ble_eq_true rfl, Nat.le_of_ble_eq_true rfl⟩) ⟨cPc_blind, va_recv (q := (RX11, TX11, 55)) hK hPc (ci := 11) (q0 := 0) rfl rfl, cPc_pre hPc hK hDc hNw⟩ rfl rfl hl.1 rfl (lv_room (Nat.le_of_ble_eq_true rfl)) (dt_of tkX11_readDebt_k28 5 rfl) ⟨Nat.le_of_ble_eq_true rfl, Nat.le_of_ble_eq_true rfl⟩) hS (fun q _ h => hFc q h) hFc (fun u t H1 locs ht hvm hw hB hz1 hk1 hS => ?_)
      obtain ⟨x14, x15⟩ := u
      obtain ⟨hP1, hK1, hD1⟩ := hB
      rw [ht] at hP1
      obtain ⟨hP, hD⟩ := va_joinN (wr := (wd09_16 jaW cyI jbC jdO cyI jil)) (w1 := (wd09_15 a0 jaX jaF jaD jbx x7 x14 x15 jaY jap jaW jal jam jax jdO ja6 jaV ja8 jae jge jaf ja0 ja4 jaP jaw jaI jaZ jaH jaS jan jaU jaE jar jaL jah jaB jaa jaz jaG jab ja2 z0_s jaq jai jaO jaA jat jau jav jaj jas jaJ jak jad jay jac)) (wn := (wd09_12 a0 jaX jaF jaD jbx x7 x14 x15 jaY jap jaW jal jam jax jdO ja6 jaV ja8 jae jge jaf ja0 ja4 jaP jaw jaI jaZ jaH jaS jan jaU jaE jar jaL jah jaB jaa jaz jaG jab ja2 z0_s jaq jai jaO jaA jat jau jav jaj jas jaJ jak jad jay jac jaW cyI jbC jdO cyI jil)) hP hD [0] [1, 2] [2, 0, 1] hCc rfl (by decide +kernel) (by decide +kernel) (by decide +kernel) rfl hk1 hFc hP1 hD1
      generalize H1 = H at hP hS ⊢
      exact kb_X11_readDebt_38 dC dI cyB cyI cyJ cyP a0 jaW jdO jaX jaF jaD jaY jap jal jam jax ja6 jaV ja8 jae jaf ja0 ja4 jaP jaw jaI jaZ jaH jaS jan jaU jaE jar jaL jah jaB jaa jaz jaG jab ja2 z0_s jaq jai jaO jaA jat jau jav jaj jas jaJ jak jad jay jac jbx jge jbC Q  C0 _ _ _ x7 x14 x15 jil r4 r10 hP hD hS (lv_sub hl [3, 2, 0] rfl) hw
theorem ui_X11_sets_X11 : ∀ w ∈ u_ws RX11 TX11 55, w ∈ wsX11_sets := uiM mbX11_sets euX11 (by decide +kernel)
theorem uw_X11_sets_f157 : (.fieldLink RX11 157 "MarchHaresModel" "newForms" "I" : Cond) ∈ wsX11_sets := mbX11_sets 512 (by decide +kernel)
theorem uw_X11_sets_f160 : (.fieldLink RX11 160 "MarchHaresModel" "newHares" "I" : Cond) ∈ wsX11_sets := mbX11_sets 513 (by decide +kernel)
theorem uw_X11_sets_f163 : (.fieldLink RX11 163 "MarchHaresModel" "newFoxes" "I" : Cond) ∈ wsX11_sets := mbX11_sets 514 (by decide +kernel)
theorem uw_X11_sets_f166 : (.fieldLink RX11 166 "MarchHaresModel" "forms" "I" : Cond) ∈ wsX11_sets := mbX11_sets 519 (by decide +kernel)
theorem uw_X11_sets_f169 : (.fieldLink RX11 169 "MarchHaresModel" "hares" "I" : Cond) ∈ wsX11_sets := mbX11_sets 520 (by decide +kernel)
theorem uw_X11_sets_f172 : (.fieldLink RX11 172 "MarchHaresModel" "foxes" "I" : Cond) ∈ wsX11_sets := mbX11_sets 521 (by decide +kernel)
theorem uw_X11_sets_f179 : (.fieldLink RX11 179 "MarchHaresModel" "codes" "I" : Cond) ∈ wsX11_sets := mbX11_sets 522 (by decide +kernel)
theorem uw_X11_sets_f182 : (.fieldLink RX11 182 "MarchHaresModel" "books" "I" : Cond) ∈ wsX11_sets := mbX11_sets 523 (by decide +kernel)
theorem uw_X11_sets_f185 : (.fieldLink RX11 185 "MarchHaresModel" "works" "I" : Cond) ∈ wsX11_sets := mbX11_sets 524 (by decide +kernel)
theorem uw_X11_sets_f188 : (.fieldLink RX11 188 "MarchHaresModel" "images" "I" : Cond) ∈ wsX11_sets := mbX11_sets 525 (by decide +kernel)
theorem uw_X11_sets_f191 : (.fieldLink RX11 191 "MarchHaresModel" "refusedSteps" "I" : Cond) ∈ wsX11_sets := mbX11_sets 526 (by decide +kernel)
theorem uw_X11_sets_f23 : (.fieldLink RX11 23 "MarchHaresModel" "newForm" "[I" : Cond) ∈ wsX11_sets := mbX11_sets 401 (by decide +kernel)
theorem uw_X11_sets_f26 : (.fieldLink RX11 26 "MarchHaresModel" "newHare" "[I" : Cond) ∈ wsX11_sets := mbX11_sets 402 (by decide +kernel)
theorem uw_X11_sets_f29 : (.fieldLink RX11 29 "MarchHaresModel" "newFox" "[I" : Cond) ∈ wsX11_sets := mbX11_sets 403 (by decide +kernel)
theorem uw_X11_sets_f32 : (.fieldLink RX11 32 "MarchHaresModel" "newDebt" "[I" : Cond) ∈ wsX11_sets := mbX11_sets 404 (by decide +kernel)
theorem uw_X11_sets_f35 : (.fieldLink RX11 35 "MarchHaresModel" "form" "[I" : Cond) ∈ wsX11_sets := mbX11_sets 405 (by decide +kernel)
theorem uw_X11_sets_f38 : (.fieldLink RX11 38 "MarchHaresModel" "hare" "[I" : Cond) ∈ wsX11_sets := mbX11_sets 406 (by decide +kernel)
theorem uw_X11_sets_f41 : (.fieldLink RX11 41 "MarchHaresModel" "fox" "[I" : Cond) ∈ wsX11_sets := mbX11_sets 407 (by decide +kernel)
theorem uw_X11_sets_f68 : (.fieldLink RX11 68 "MarchHaresModel" "now" "[I" : Cond) ∈ wsX11_sets := mbX11_sets 456 (by decide +kernel)
theorem uw_X11_sets_f80 : (.fieldLink RX11 80 "MarchHaresModel" "book" "[I" : Cond) ∈ wsX11_sets := mbX11_sets 460 (by decide +kernel)
set_option maxHeartbeats 4000000 in
set_option maxRecDepth 100000 in
theorem kl_X11_sets_186 {p : Program} {l : Launch} {e : Env} {s : State} {m : MethodId} {args : Array Value} {below : List Frame} {meth : Method} {c : Code} {A : Nat → Prop} (dC : Nat → ClassId) (dI : Nat → Nat → Nat) (cyB cyI cyJ cyP : ClassId) (a0 jeR ja5 je2 jb9 jfM jbJ jdj jaT jdO : Nat) (jaX jaF jaD ja7 jby jbf jaM jaY jap jaK jaw jaI jaZ jaH jaS jan jaE jar jaL jah jaz jaG jab z0_s jaq jai jat jau jav jaj jas jaJ jak jad jay : Value) (jg3 jge jg8 : Int32) (ji8 ji9 jjB jil : Nat → Int32) (Q : Int32 → Int32 → Int32 → (Nat → Int32) → (Nat → Int32) → (Nat → Int32) → Int32 → Int32 → Int32 → Int32 → Int32 → (Nat → Int32) → (Nat → Int32) → Prop)  (C0 : cfx p s m args meth c cX11_sets none wsX11_sets RX11 2 A (dC, dI) (kT cyB cyI cyJ cyP)) : ∀ (n : Nat) (H : Heap) (locs : List Loc) (ls : Array Slot) (jaN jaC jbw : Int32) (jbv jdH jcx : Nat → Int32) (jbD jh9 jhQ ji3 jcn : Int32) (jgu jb0 : Nat → Int32) (l1 : Int32), va_P (dC, dI) vwCl (wd09_17 a0 jaX jaF jaD ja7 jby jbf jaM jaY jap jaK jeR je2 jfM jdO ja5 jb9 jbJ jg3 jge jg8 jaN jaC jbw jaw jaI jaZ jaH jaS jan jbD jaE jar jaL jah jhQ jcn jaz jaG jab jaT z0_s jaq jai jdj jh9 jat jau jav jaj jas jaJ jak jad jay ji3 jeR cyI ji8 ja5 cyI jbv je2 cyI ji9 jb9 cyI jdH jfM cyI jjB jbJ cyI jcx jdj cyI jgu jaT cyI jb0 jdO cyI jil) H → va_D A (wd09_17 a0 jaX jaF jaD ja7 jby jbf jaM jaY jap jaK jeR je2 jfM jdO ja5 jb9 jbJ jg3 jge jg8 jaN jaC jbw jaw jaI jaZ jaH jaS jan jbD jaE jar jaL jah jhQ jcn jaz jaG jab jaT z0_s jaq jai jdj jh9 jat jau jav jaj jas jaJ jak jad jay ji3 jeR cyI ji8 ja5 cyI jbv je2 cyI ji9 jb9 cyI jdH jfM cyI jjB jbJ cyI jcx jdj cyI jgu jaT cyI jb0 jdO cyI jil) → va_S A s.heap H locs → lv_has ls 2 [(0, .ref a0), (1, .int l1)] → wl_X11_sets_186 jg3 jge jg8 ji8 ji9 jjB jil Q  n jaN jaC jbw jbv jdH jcx jbD jh9 jhQ ji3 jcn jgu jb0 l1 → W p l e (headSpec wsX11_sets ({ frames := 1, cells := 0, slots := 0, locals := 24 })).room s m args below meth c H locs 0 0 (MQ below (va_Qv (fun (u : Int32 × Int32 × Int32 × (Nat → Int32) × (Nat → Int32) × (Nat → Int32) × Int32 × Int32 × Int32 × Int32 × Int32 × (Nat → Int32) × (Nat → Int32)) => Q u.1 u.2.1 u.2.2.1 u.2.2.2.1 u.2.2.2.2.1 u.2.2.2.2.2.1 u.2.2.2.2.2.2.1 u.2.2.2.2.2.2.2.1 u.2.2.2.2.2.2.2.2.1 u.2.2.2.2.2.2.2.2.2.1 u.2.2.2.2.2.2.2.2.2.2.1 u.2.2.2.2.2.2.2.2.2.2.2.1 u.2.2.2.2.2.2.2.2.2.2.2.2) (cB (dC, dI) (kT cyB cyI cyJ cyP) A (fun u : Int32 × Int32 × Int32 × (Nat → Int32) × (Nat → Int32) × (Nat → Int32) × Int32 × Int32 × Int32 × Int32 × Int32 × (Nat → Int32) × (Nat → Int32) => ((wd09_17 a0 jaX jaF jaD ja7 jby jbf jaM jaY jap jaK jeR je2 jfM jdO ja5 jb9 jbJ jg3 jge jg8 u.1 u.2.1 u.2.2.1 jaw jaI jaZ jaH jaS jan u.2.2.2.2.2.2.1 jaE jar jaL jah u.2.2.2.2.2.2.2.2.1 u.2.2.2.2.2.2.2.2.2.2.1 jaz jaG jab jaT z0_s jaq jai jdj u.2.2.2.2.2.2.2.1 jat jau jav jaj jas jaJ jak jad jay u.2.2.2.2.2.2.2.2.2.1 jeR cyI ji8 ja5 cyI u.2.2.2.1 je2 cyI ji9 jb9 cyI u.2.2.2.2.1 jfM cyI jjB jbJ cyI u.2.2.2.2.2.1 jdj cyI u.2.2.2.2.2.2.2.2.2.2.2.1 jaT cyI u.2.2.2.2.2.2.2.2.2.2.2.2 jdO cyI jil) : va_W))) A) args s 0 0 A) (F0 m 186 ls []) := by
  obtain ⟨hx, hb, hr, hts, hown, hlocks, hml, hA, hK, hNw⟩ := id C0
  intro n
  induction n with
  | zero => intro H locs ls jaN jaC jbw jbv jdH jcx jbD jh9 jhQ ji3 jcn jgu jb0 l1 hP hD hS hl hw; exact False.elim hw
  | succ n ih =>
    intro H locs ls jaN jaC jbw jbv jdH jcx jbD jh9 jhQ ji3 jcn jgu jb0 l1 hP hD hS hl hw
    refine lv_iload_n hx hb (dt_of tkX11_sets_k168 12 rfl) rfl (lv_at hl 1 rfl) ?_
    refine lv_bipush (v := 36) hx hb (dt_of tkX11_sets_k168 13 rfl) (by decide) ?_
    refine lv_icmp_ge (tgt := 213) hx hb (dt_of tkX11_sets_k168 14 rfl) (by decide) (fun c21 => ?_) (fun c21 => ?_)
    · have hw := hw.1 c21
      refine lv_aload_n hx hb (dt_of tkX11_sets_k193 11 rfl) rfl (lv_at hl 0 rfl) ?_
      refine va_get (D := (dC, dI)) (ci := 11) (v := .ref jaT) (C := RX11) (T := TX11) (N := 55) hx hb hts ui_X11_sets_X11 hown hK hP 0 rfl rfl 39 (by decide) (hts _ uw_X11_sets_f68) (fun _ h9 => h9) rfl (dt_of tkX11_sets_k193 12 rfl) ?_
      refine lv_bipush (v := 66) hx hb (dt_of tkX11_sets_k193 13 rfl) (by decide) ?_
      refine lv_iconst (v := 1) hx hb (dt_of tkX11_sets_k193 14 rfl) (by decide) ?_
      refine va_iast hx hb hK hP hD hS 8 1 rfl rfl (vin (by decide)) (dt_of tkX11_sets_k193 15 rfl) (fun H locs hP hD hS => ?_)
      obtain ⟨f22, ef22⟩ : ∃ y : Nat → Int32, y = upd jb0 (66 : Int32).toNatClampNeg 1 := ⟨_, rfl⟩
      have hw := hw f22 ef22
      have hP : va_P (dC, dI) vwCl (wd09_17 a0 jaX jaF jaD ja7 jby jbf jaM jaY jap jaK jeR je2 jfM jdO ja5 jb9 jbJ jg3 jge jg8 jaN jaC jbw jaw jaI jaZ jaH jaS jan jbD jaE jar jaL jah jhQ jcn jaz jaG jab jaT z0_s jaq jai jdj jh9 jat jau jav jaj jas jaJ jak jad jay ji3 jeR cyI ji8 ja5 cyI jbv je2 cyI ji9 jb9 cyI jdH jfM cyI jjB jbJ cyI jcx jdj cyI jgu jaT cyI f22 jdO cyI jil) H := by rw [ef22]; exact hP
      have hD : va_D A (wd09_17 a0 jaX jaF jaD ja7 jby jbf jaM jaY jap jaK jeR je2 jfM jdO ja5 jb9 jbJ jg3 jge jg8 jaN jaC jbw jaw jaI jaZ jaH jaS jan jbD jaE jar jaL jah jhQ jcn jaz jaG jab jaT z0_s jaq jai jdj jh9 jat jau jav jaj jas jaJ jak jad jay ji3 jeR cyI ji8 ja5 cyI jbv je2 cyI ji9 jb9 cyI jdH jfM cyI jjB jbJ cyI jcx jdj cyI jgu jaT cyI f22 jdO cyI jil) := by rw [ef22]; exact hD
      exact ((W.vret hx hb hr (fun t ht hW => ⟨⟨(jaN, jaC, jbw, jbv, jdH, jcx, jbD, jh9, jhQ, ji3, jcn, jgu, f22), rfl, hw, by rw [ht]; exact hP, va_K.moved hW.alike hK, hD⟩, hS.F ht⟩) hS.2.2 (dt_of tkX11_sets_k221 0 rfl)))
    · have hw := hw.2 c21
      refine lv_aload_n hx hb (dt_of tkX11_sets_k168 15 rfl) rfl (lv_at hl 0 rfl) ?_
      refine va_get (D := (dC, dI)) (ci := 11) (v := .ref jaT) (C := RX11) (T := TX11) (N := 55) hx hb hts ui_X11_sets_X11 hown hK hP 0 rfl rfl 39 (by decide) (hts _ uw_X11_sets_f68) (fun _ h9 => h9) rfl (dt_of tkX11_sets_k193 0 rfl) ?_
      refine lv_bipush (v := 30) hx hb (dt_of tkX11_sets_k193 1 rfl) (by decide) ?_
      refine lv_iload_n hx hb (dt_of tkX11_sets_k193 2 rfl) rfl (lv_at hl 1 rfl) ?_
      refine lv_iadd hx hb (dt_of tkX11_sets_k193 3 rfl) ?_
      refine lv_topi (fun x23 ex23 => ?_)
      have hw := hw x23 ex23
      refine lv_aload_n hx hb (dt_of tkX11_sets_k193 4 rfl) rfl (lv_at hl 0 rfl) ?_
      refine va_get (D := (dC, dI)) (ci := 11) (v := .ref jdO) (C := RX11) (T := TX11) (N := 55) hx hb hts ui_X11_sets_X11 hown hK hP 0 rfl rfl 13 (by decide) (hts _ uw_X11_sets_f32) (fun _ h9 => h9) rfl (dt_of tkX11_sets_k193 5 rfl) ?_
      refine lv_iload_n hx hb (dt_of tkX11_sets_k193 6 rfl) rfl (lv_at hl 1 rfl) ?_
      obtain ⟨hi9, hw⟩ := hw
      refine va_iald hx hb hK hP 9 1 rfl rfl hi9 (dt_of tkX11_sets_k193 7 rfl) ?_
      refine lv_topi (fun x24 ex24 => ?_)
      have hw := hw x24 ex24
      obtain ⟨hi9, hw⟩ := hw
      refine va_iast hx hb hK hP hD hS 8 1 rfl rfl hi9 (dt_of tkX11_sets_k193 8 rfl) (fun H locs hP hD hS => ?_)
      obtain ⟨f25, ef25⟩ : ∃ y : Nat → Int32, y = upd jb0 x23.toNatClampNeg x24 := ⟨_, rfl⟩
      have hw := hw f25 ef25
      have hP : va_P (dC, dI) vwCl (wd09_17 a0 jaX jaF jaD ja7 jby jbf jaM jaY jap jaK jeR je2 jfM jdO ja5 jb9 jbJ jg3 jge jg8 jaN jaC jbw jaw jaI jaZ jaH jaS jan jbD jaE jar jaL jah jhQ jcn jaz jaG jab jaT z0_s jaq jai jdj jh9 jat jau jav jaj jas jaJ jak jad jay ji3 jeR cyI ji8 ja5 cyI jbv je2 cyI ji9 jb9 cyI jdH jfM cyI jjB jbJ cyI jcx jdj cyI jgu jaT cyI f25 jdO cyI jil) H := by rw [ef25]; exact hP
      have hD : va_D A (wd09_17 a0 jaX jaF jaD ja7 jby jbf jaM jaY jap jaK jeR je2 jfM jdO ja5 jb9 jbJ jg3 jge jg8 jaN jaC jbw jaw jaI jaZ jaH jaS jan jbD jaE jar jaL jah jhQ jcn jaz jaG jab jaT z0_s jaq jai jdj jh9 jat jau jav jaj jas jaJ jak jad jay ji3 jeR cyI ji8 ja5 cyI jbv je2 cyI ji9 jb9 cyI jdH jfM cyI jjB jbJ cyI jcx jdj cyI jgu jaT cyI f25 jdO cyI jil) := by rw [ef25]; exact hD
      obtain ⟨x26, ex26⟩ : ∃ y : Int32, y = l1 + 1 := ⟨_, rfl⟩
      have hw := hw x26 ex26
      refine lv_iinc (v := x26) (lv' := [(1, .int x26), (0, .ref a0)]) hx hb (dt_of tkX11_sets_k193 9 rfl) hl (k := 1) rfl (by rw [ex26]; rfl) (by decide) rfl (fun ls hl => ?_)
      refine lv_goto (tgt := 186) hx hb (dt_of tkX11_sets_k193 10 rfl) (by decide) ?_
      exact ih _ _ _ jaN jaC jbw jbv jdH jcx jbD jh9 jhQ ji3 jcn jgu f25 x26 hP hD hS (lv_sub hl [1, 0] rfl) hw
set_option maxHeartbeats 4000000 in
set_option maxRecDepth 100000 in
theorem kl_X11_sets_135 {p : Program} {l : Launch} {e : Env} {s : State} {m : MethodId} {args : Array Value} {below : List Frame} {meth : Method} {c : Code} {A : Nat → Prop} (dC : Nat → ClassId) (dI : Nat → Nat → Nat) (cyB cyI cyJ cyP : ClassId) (a0 jeR ja5 je2 jb9 jfM jbJ jdj jaT jdO : Nat) (jaX jaF jaD ja7 jby jbf jaM jaY jap jaK jaw jaI jaZ jaH jaS jan jaE jar jaL jah jaz jaG jab z0_s jaq jai jat jau jav jaj jas jaJ jak jad jay : Value) (jg3 jge jg8 : Int32) (ji8 ji9 jjB jil : Nat → Int32) (Q : Int32 → Int32 → Int32 → (Nat → Int32) → (Nat → Int32) → (Nat → Int32) → Int32 → Int32 → Int32 → Int32 → Int32 → (Nat → Int32) → (Nat → Int32) → Prop)  (C0 : cfx p s m args meth c cX11_sets none wsX11_sets RX11 2 A (dC, dI) (kT cyB cyI cyJ cyP)) : ∀ (n : Nat) (H : Heap) (locs : List Loc) (ls : Array Slot) (jaN jaC jbw : Int32) (jbv jdH jcx : Nat → Int32) (jbD jh9 jhQ ji3 jcn : Int32) (jgu jb0 : Nat → Int32) (l1 : Int32), va_P (dC, dI) vwCl (wd09_17 a0 jaX jaF jaD ja7 jby jbf jaM jaY jap jaK jeR je2 jfM jdO ja5 jb9 jbJ jg3 jge jg8 jaN jaC jbw jaw jaI jaZ jaH jaS jan jbD jaE jar jaL jah jhQ jcn jaz jaG jab jaT z0_s jaq jai jdj jh9 jat jau jav jaj jas jaJ jak jad jay ji3 jeR cyI ji8 ja5 cyI jbv je2 cyI ji9 jb9 cyI jdH jfM cyI jjB jbJ cyI jcx jdj cyI jgu jaT cyI jb0 jdO cyI jil) H → va_D A (wd09_17 a0 jaX jaF jaD ja7 jby jbf jaM jaY jap jaK jeR je2 jfM jdO ja5 jb9 jbJ jg3 jge jg8 jaN jaC jbw jaw jaI jaZ jaH jaS jan jbD jaE jar jaL jah jhQ jcn jaz jaG jab jaT z0_s jaq jai jdj jh9 jat jau jav jaj jas jaJ jak jad jay ji3 jeR cyI ji8 ja5 cyI jbv je2 cyI ji9 jb9 cyI jdH jfM cyI jjB jbJ cyI jcx jdj cyI jgu jaT cyI jb0 jdO cyI jil) → va_S A s.heap H locs → lv_has ls 2 [(0, .ref a0), (1, .int l1)] → wl_X11_sets_135 jg3 jge jg8 ji8 ji9 jjB jil Q  n jaN jaC jbw jbv jdH jcx jbD jh9 jhQ ji3 jcn jgu jb0 l1 → W p l e (headSpec wsX11_sets ({ frames := 1, cells := 0, slots := 0, locals := 24 })).room s m args below meth c H locs 0 0 (MQ below (va_Qv (fun (u : Int32 × Int32 × Int32 × (Nat → Int32) × (Nat → Int32) × (Nat → Int32) × Int32 × Int32 × Int32 × Int32 × Int32 × (Nat → Int32) × (Nat → Int32)) => Q u.1 u.2.1 u.2.2.1 u.2.2.2.1 u.2.2.2.2.1 u.2.2.2.2.2.1 u.2.2.2.2.2.2.1 u.2.2.2.2.2.2.2.1 u.2.2.2.2.2.2.2.2.1 u.2.2.2.2.2.2.2.2.2.1 u.2.2.2.2.2.2.2.2.2.2.1 u.2.2.2.2.2.2.2.2.2.2.2.1 u.2.2.2.2.2.2.2.2.2.2.2.2) (cB (dC, dI) (kT cyB cyI cyJ cyP) A (fun u : Int32 × Int32 × Int32 × (Nat → Int32) × (Nat → Int32) × (Nat → Int32) × Int32 × Int32 × Int32 × Int32 × Int32 × (Nat → Int32) × (Nat → Int32) => ((wd09_17 a0 jaX jaF jaD ja7 jby jbf jaM jaY jap jaK jeR je2 jfM jdO ja5 jb9 jbJ jg3 jge jg8 u.1 u.2.1 u.2.2.1 jaw jaI jaZ jaH jaS jan u.2.2.2.2.2.2.1 jaE jar jaL jah u.2.2.2.2.2.2.2.2.1 u.2.2.2.2.2.2.2.2.2.2.1 jaz jaG jab jaT z0_s jaq jai jdj u.2.2.2.2.2.2.2.1 jat jau jav jaj jas jaJ jak jad jay u.2.2.2.2.2.2.2.2.2.1 jeR cyI ji8 ja5 cyI u.2.2.2.1 je2 cyI ji9 jb9 cyI u.2.2.2.2.1 jfM cyI jjB jbJ cyI u.2.2.2.2.2.1 jdj cyI u.2.2.2.2.2.2.2.2.2.2.2.1 jaT cyI u.2.2.2.2.2.2.2.2.2.2.2.2 jdO cyI jil) : va_W))) A) args s 0 0 A) (F0 m 135 ls []) := by
  obtain ⟨hx, hb, hr, hts, hown, hlocks, hml, hA, hK, hNw⟩ := id C0
  intro n
  induction n with
  | zero => intro H locs ls jaN jaC jbw jbv jdH jcx jbD jh9 jhQ ji3 jcn jgu jb0 l1 hP hD hS hl hw; exact False.elim hw
  | succ n ih =>
    intro H locs ls jaN jaC jbw jbv jdH jcx jbD jh9 jhQ ji3 jcn jgu jb0 l1 hP hD hS hl hw
    refine lv_iload_n hx hb (dt_of tkX11_sets_k117 10 rfl) rfl (lv_at hl 1 rfl) ?_
    refine lv_aload_n hx hb (dt_of tkX11_sets_k117 11 rfl) rfl (lv_at hl 0 rfl) ?_
    refine va_get (D := (dC, dI)) (ci := 11) (v := .int jaC) (C := RX11) (T := TX11) (N := 55) hx hb hts ui_X11_sets_X11 hown hK hP 0 rfl rfl 21 (by decide) (hts _ uw_X11_sets_f169) (fun _ h9 => h9) rfl (dt_of tkX11_sets_k117 12 rfl) ?_
    refine lv_icmp_ge (tgt := 184) hx hb (dt_of tkX11_sets_k117 13 rfl) (by decide) (fun c10 => ?_) (fun c10 => ?_)
    · have hw := hw.1 c10
      refine lv_iconst (v := 0) hx hb (dt_of tkX11_sets_k168 10 rfl) (by decide) ?_
      refine lv_istore_n (lv' := [(1, .int 0), (0, .ref a0)]) hx hb (dt_of tkX11_sets_k168 11 rfl) rfl hl (by decide) rfl (fun ls hl => ?_)
      obtain ⟨n9, hw⟩ := hw
      exact kl_X11_sets_186 dC dI cyB cyI cyJ cyP a0 jeR ja5 je2 jb9 jfM jbJ jdj jaT jdO jaX jaF jaD ja7 jby jbf jaM jaY jap jaK jaw jaI jaZ jaH jaS jan jaE jar jaL jah jaz jaG jab z0_s jaq jai jat jau jav jaj jas jaJ jak jad jay jg3 jge jg8 ji8 ji9 jjB jil Q  C0 n9 _ _ _ jaN jaC jbw jbv jdH jcx jbD jh9 jhQ ji3 jcn jgu jb0 0 hP hD hS (lv_sub hl [1, 0] rfl) hw
    · have hw := hw.2 c10
      refine lv_aload_n hx hb (dt_of tkX11_sets_k117 14 rfl) rfl (lv_at hl 0 rfl) ?_
      refine va_get (D := (dC, dI)) (ci := 11) (v := .ref jaT) (C := RX11) (T := TX11) (N := 55) hx hb hts ui_X11_sets_X11 hown hK hP 0 rfl rfl 39 (by decide) (hts _ uw_X11_sets_f68) (fun _ h9 => h9) rfl (dt_of tkX11_sets_k117 15 rfl) ?_
      refine lv_iconst (v := 0) hx hb (dt_of tkX11_sets_k147 0 rfl) (by decide) ?_
      refine lv_iload_n hx hb (dt_of tkX11_sets_k147 1 rfl) rfl (lv_at hl 1 rfl) ?_
      refine lv_iadd hx hb (dt_of tkX11_sets_k147 2 rfl) ?_
      refine lv_topi (fun x11 ex11 => ?_)
      have hw := hw x11 ex11
      refine lv_aload_n hx hb (dt_of tkX11_sets_k147 3 rfl) rfl (lv_at hl 0 rfl) ?_
      refine va_get (D := (dC, dI)) (ci := 11) (v := .ref jb9) (C := RX11) (T := TX11) (N := 55) hx hb hts ui_X11_sets_X11 hown hK hP 0 rfl rfl 15 (by decide) (hts _ uw_X11_sets_f38) (fun _ h9 => h9) rfl (dt_of tkX11_sets_k147 4 rfl) ?_
      refine lv_iconst (v := 2) hx hb (dt_of tkX11_sets_k147 5 rfl) (by decide) ?_
      refine lv_iload_n hx hb (dt_of tkX11_sets_k147 6 rfl) rfl (lv_at hl 1 rfl) ?_
      refine lv_imul hx hb (dt_of tkX11_sets_k147 7 rfl) ?_
      refine lv_topi (fun x12 ex12 => ?_)
      have hw := hw x12 ex12
      obtain ⟨hi9, hw⟩ := hw
      refine va_iald hx hb hK hP 4 1 rfl rfl hi9 (dt_of tkX11_sets_k147 8 rfl) ?_
      refine lv_topi (fun x13 ex13 => ?_)
      have hw := hw x13 ex13
      obtain ⟨hi9, hw⟩ := hw
      refine va_iast hx hb hK hP hD hS 8 1 rfl rfl hi9 (dt_of tkX11_sets_k147 9 rfl) (fun H locs hP hD hS => ?_)
      obtain ⟨f14, ef14⟩ : ∃ y : Nat → Int32, y = upd jb0 x11.toNatClampNeg x13 := ⟨_, rfl⟩
      have hw := hw f14 ef14
      have hP : va_P (dC, dI) vwCl (wd09_17 a0 jaX jaF jaD ja7 jby jbf jaM jaY jap jaK jeR je2 jfM jdO ja5 jb9 jbJ jg3 jge jg8 jaN jaC jbw jaw jaI jaZ jaH jaS jan jbD jaE jar jaL jah jhQ jcn jaz jaG jab jaT z0_s jaq jai jdj jh9 jat jau jav jaj jas jaJ jak jad jay ji3 jeR cyI ji8 ja5 cyI jbv je2 cyI ji9 jb9 cyI jdH jfM cyI jjB jbJ cyI jcx jdj cyI jgu jaT cyI f14 jdO cyI jil) H := by rw [ef14]; exact hP
      have hD : va_D A (wd09_17 a0 jaX jaF jaD ja7 jby jbf jaM jaY jap jaK jeR je2 jfM jdO ja5 jb9 jbJ jg3 jge jg8 jaN jaC jbw jaw jaI jaZ jaH jaS jan jbD jaE jar jaL jah jhQ jcn jaz jaG jab jaT z0_s jaq jai jdj jh9 jat jau jav jaj jas jaJ jak jad jay ji3 jeR cyI ji8 ja5 cyI jbv je2 cyI ji9 jb9 cyI jdH jfM cyI jjB jbJ cyI jcx jdj cyI jgu jaT cyI f14 jdO cyI jil) := by rw [ef14]; exact hD
      refine lv_aload_n hx hb (dt_of tkX11_sets_k147 10 rfl) rfl (lv_at hl 0 rfl) ?_
      refine va_get (D := (dC, dI)) (ci := 11) (v := .ref jaT) (C := RX11) (T := TX11) (N := 55) hx hb hts ui_X11_sets_X11 hown hK hP 0 rfl rfl 39 (by decide) (hts _ uw_X11_sets_f68) (fun _ h9 => h9) rfl (dt_of tkX11_sets_k147 11 rfl) ?_
      refine lv_bipush (v := 6) hx hb (dt_of tkX11_sets_k147 12 rfl) (by decide) ?_
      refine lv_iload_n hx hb (dt_of tkX11_sets_k147 13 rfl) rfl (lv_at hl 1 rfl) ?_
      refine lv_iadd hx hb (dt_of tkX11_sets_k147 14 rfl) ?_
      refine lv_topi (fun x15 ex15 => ?_)
      have hw := hw x15 ex15
      refine lv_aload_n hx hb (dt_of tkX11_sets_k147 15 rfl) rfl (lv_at hl 0 rfl) ?_
      refine va_get (D := (dC, dI)) (ci := 11) (v := .ref jb9) (C := RX11) (T := TX11) (N := 55) hx hb hts ui_X11_sets_X11 hown hK hP 0 rfl rfl 15 (by decide) (hts _ uw_X11_sets_f38) (fun _ h9 => h9) rfl (dt_of tkX11_sets_k168 0 rfl) ?_
      refine lv_iconst (v := 2) hx hb (dt_of tkX11_sets_k168 1 rfl) (by decide) ?_
      refine lv_iload_n hx hb (dt_of tkX11_sets_k168 2 rfl) rfl (lv_at hl 1 rfl) ?_
      refine lv_imul hx hb (dt_of tkX11_sets_k168 3 rfl) ?_
      refine lv_topi (fun x16 ex16 => ?_)
      have hw := hw x16 ex16
      refine lv_iconst (v := 1) hx hb (dt_of tkX11_sets_k168 4 rfl) (by decide) ?_
      refine lv_iadd hx hb (dt_of tkX11_sets_k168 5 rfl) ?_
      refine lv_topi (fun x17 ex17 => ?_)
      have hw := hw x17 ex17
      obtain ⟨hi9, hw⟩ := hw
      refine va_iald hx hb hK hP 4 1 rfl rfl hi9 (dt_of tkX11_sets_k168 6 rfl) ?_
      refine lv_topi (fun x18 ex18 => ?_)
      have hw := hw x18 ex18
      obtain ⟨hi9, hw⟩ := hw
      refine va_iast hx hb hK hP hD hS 8 1 rfl rfl hi9 (dt_of tkX11_sets_k168 7 rfl) (fun H locs hP hD hS => ?_)
      obtain ⟨f19, ef19⟩ : ∃ y : Nat → Int32, y = upd f14 x15.toNatClampNeg x18 := ⟨_, rfl⟩
      have hw := hw f19 ef19
      have hP : va_P (dC, dI) vwCl (wd09_17 a0 jaX jaF jaD ja7 jby jbf jaM jaY jap jaK jeR je2 jfM jdO ja5 jb9 jbJ jg3 jge jg8 jaN jaC jbw jaw jaI jaZ jaH jaS jan jbD jaE jar jaL jah jhQ jcn jaz jaG jab jaT z0_s jaq jai jdj jh9 jat jau jav jaj jas jaJ jak jad jay ji3 jeR cyI ji8 ja5 cyI jbv je2 cyI ji9 jb9 cyI jdH jfM cyI jjB jbJ cyI jcx jdj cyI jgu jaT cyI f19 jdO cyI jil) H := by rw [ef19]; exact hP
      have hD : va_D A (wd09_17 a0 jaX jaF jaD ja7 jby jbf jaM jaY jap jaK jeR je2 jfM jdO ja5 jb9 jbJ jg3 jge jg8 jaN jaC jbw jaw jaI jaZ jaH jaS jan jbD jaE jar jaL jah jhQ jcn jaz jaG jab jaT z0_s jaq jai jdj jh9 jat jau jav jaj jas jaJ jak jad jay ji3 jeR cyI ji8 ja5 cyI jbv je2 cyI ji9 jb9 cyI jdH jfM cyI jjB jbJ cyI jcx jdj cyI jgu jaT cyI f19 jdO cyI jil) := by rw [ef19]; exact hD
      obtain ⟨x20, ex20⟩ : ∃ y : Int32, y = l1 + 1 := ⟨_, rfl⟩
      have hw := hw x20 ex20
      refine lv_iinc (v := x20) (lv' := [(1, .int x20), (0, .ref a0)]) hx hb (dt_of tkX11_sets_k168 8 rfl) hl (k := 1) rfl (by rw [ex20]; rfl) (by decide) rfl (fun ls hl => ?_)
      refine lv_goto (tgt := 135) hx hb (dt_of tkX11_sets_k168 9 rfl) (by decide) ?_
      exact ih _ _ _ jaN jaC jbw jbv jdH jcx jbD jh9 jhQ ji3 jcn jgu f19 x20 hP hD hS (lv_sub hl [1, 0] rfl) hw
set_option maxHeartbeats 4000000 in
set_option maxRecDepth 100000 in
theorem kl_X11_sets_114 {p : Program} {l : Launch} {e : Env} {s : State} {m : MethodId} {args : Array Value} {below : List Frame} {meth : Method} {c : Code} {A : Nat → Prop} (dC : Nat → ClassId) (dI : Nat → Nat → Nat) (cyB cyI cyJ cyP : ClassId) (a0 jeR ja5 je2 jb9 jfM jbJ jdj jaT jdO : Nat) (jaX jaF jaD ja7 jby jbf jaM jaY jap jaK jaw jaI jaZ jaH jaS jan jaE jar jaL jah jaz jaG jab z0_s jaq jai jat jau jav jaj jas jaJ jak jad jay : Value) (jg3 jge jg8 : Int32) (ji8 ji9 jjB jil : Nat → Int32) (Q : Int32 → Int32 → Int32 → (Nat → Int32) → (Nat → Int32) → (Nat → Int32) → Int32 → Int32 → Int32 → Int32 → Int32 → (Nat → Int32) → (Nat → Int32) → Prop)  (C0 : cfx p s m args meth c cX11_sets none wsX11_sets RX11 2 A (dC, dI) (kT cyB cyI cyJ cyP)) : ∀ (n : Nat) (H : Heap) (locs : List Loc) (ls : Array Slot) (jaN jaC jbw : Int32) (jbv jdH jcx : Nat → Int32) (jbD jh9 jhQ ji3 jcn : Int32) (jgu jb0 : Nat → Int32) (l1 : Int32), va_P (dC, dI) vwCl (wd09_17 a0 jaX jaF jaD ja7 jby jbf jaM jaY jap jaK jeR je2 jfM jdO ja5 jb9 jbJ jg3 jge jg8 jaN jaC jbw jaw jaI jaZ jaH jaS jan jbD jaE jar jaL jah jhQ jcn jaz jaG jab jaT z0_s jaq jai jdj jh9 jat jau jav jaj jas jaJ jak jad jay ji3 jeR cyI ji8 ja5 cyI jbv je2 cyI ji9 jb9 cyI jdH jfM cyI jjB jbJ cyI jcx jdj cyI jgu jaT cyI jb0 jdO cyI jil) H → va_D A (wd09_17 a0 jaX jaF jaD ja7 jby jbf jaM jaY jap jaK jeR je2 jfM jdO ja5 jb9 jbJ jg3 jge jg8 jaN jaC jbw jaw jaI jaZ jaH jaS jan jbD jaE jar jaL jah jhQ jcn jaz jaG jab jaT z0_s jaq jai jdj jh9 jat jau jav jaj jas jaJ jak jad jay ji3 jeR cyI ji8 ja5 cyI jbv je2 cyI ji9 jb9 cyI jdH jfM cyI jjB jbJ cyI jcx jdj cyI jgu jaT cyI jb0 jdO cyI jil) → va_S A s.heap H locs → lv_has ls 2 [(0, .ref a0), (1, .int l1)] → wl_X11_sets_114 jg3 jge jg8 ji8 ji9 jjB jil Q  n jaN jaC jbw jbv jdH jcx jbD jh9 jhQ ji3 jcn jgu jb0 l1 → W p l e (headSpec wsX11_sets ({ frames := 1, cells := 0, slots := 0, locals := 24 })).room s m args below meth c H locs 0 0 (MQ below (va_Qv (fun (u : Int32 × Int32 × Int32 × (Nat → Int32) × (Nat → Int32) × (Nat → Int32) × Int32 × Int32 × Int32 × Int32 × Int32 × (Nat → Int32) × (Nat → Int32)) => Q u.1 u.2.1 u.2.2.1 u.2.2.2.1 u.2.2.2.2.1 u.2.2.2.2.2.1 u.2.2.2.2.2.2.1 u.2.2.2.2.2.2.2.1 u.2.2.2.2.2.2.2.2.1 u.2.2.2.2.2.2.2.2.2.1 u.2.2.2.2.2.2.2.2.2.2.1 u.2.2.2.2.2.2.2.2.2.2.2.1 u.2.2.2.2.2.2.2.2.2.2.2.2) (cB (dC, dI) (kT cyB cyI cyJ cyP) A (fun u : Int32 × Int32 × Int32 × (Nat → Int32) × (Nat → Int32) × (Nat → Int32) × Int32 × Int32 × Int32 × Int32 × Int32 × (Nat → Int32) × (Nat → Int32) => ((wd09_17 a0 jaX jaF jaD ja7 jby jbf jaM jaY jap jaK jeR je2 jfM jdO ja5 jb9 jbJ jg3 jge jg8 u.1 u.2.1 u.2.2.1 jaw jaI jaZ jaH jaS jan u.2.2.2.2.2.2.1 jaE jar jaL jah u.2.2.2.2.2.2.2.2.1 u.2.2.2.2.2.2.2.2.2.2.1 jaz jaG jab jaT z0_s jaq jai jdj u.2.2.2.2.2.2.2.1 jat jau jav jaj jas jaJ jak jad jay u.2.2.2.2.2.2.2.2.2.1 jeR cyI ji8 ja5 cyI u.2.2.2.1 je2 cyI ji9 jb9 cyI u.2.2.2.2.1 jfM cyI jjB jbJ cyI u.2.2.2.2.2.1 jdj cyI u.2.2.2.2.2.2.2.2.2.2.2.1 jaT cyI u.2.2.2.2.2.2.2.2.2.2.2.2 jdO cyI jil) : va_W))) A) args s 0 0 A) (F0 m 114 ls []) := by
  obtain ⟨hx, hb, hr, hts, hown, hlocks, hml, hA, hK, hNw⟩ := id C0
  intro n
  induction n with
  | zero => intro H locs ls jaN jaC jbw jbv jdH jcx jbD jh9 jhQ ji3 jcn jgu jb0 l1 hP hD hS hl hw; exact False.elim hw
  | succ n ih =>
    intro H locs ls jaN jaC jbw jbv jdH jcx jbD jh9 jhQ ji3 jcn jgu jb0 l1 hP hD hS hl hw
    refine lv_iload_n hx hb (dt_of tkX11_sets_k91 14 rfl) rfl (lv_at hl 1 rfl) ?_
    refine lv_bipush (v := 68) hx hb (dt_of tkX11_sets_k91 15 rfl) (by decide) ?_
    refine lv_icmp_ge (tgt := 133) hx hb (dt_of tkX11_sets_k117 0 rfl) (by decide) (fun c7 => ?_) (fun c7 => ?_)
    · have hw := hw.1 c7
      refine lv_iconst (v := 0) hx hb (dt_of tkX11_sets_k117 8 rfl) (by decide) ?_
      refine lv_istore_n (lv' := [(1, .int 0), (0, .ref a0)]) hx hb (dt_of tkX11_sets_k117 9 rfl) rfl hl (by decide) rfl (fun ls hl => ?_)
      obtain ⟨n9, hw⟩ := hw
      exact kl_X11_sets_135 dC dI cyB cyI cyJ cyP a0 jeR ja5 je2 jb9 jfM jbJ jdj jaT jdO jaX jaF jaD ja7 jby jbf jaM jaY jap jaK jaw jaI jaZ jaH jaS jan jaE jar jaL jah jaz jaG jab z0_s jaq jai jat jau jav jaj jas jaJ jak jad jay jg3 jge jg8 ji8 ji9 jjB jil Q  C0 n9 _ _ _ jaN jaC jbw jbv jdH jcx jbD jh9 jhQ ji3 jcn jgu jb0 0 hP hD hS (lv_sub hl [1, 0] rfl) hw
    · have hw := hw.2 c7
      refine lv_aload_n hx hb (dt_of tkX11_sets_k117 1 rfl) rfl (lv_at hl 0 rfl) ?_
      refine va_get (D := (dC, dI)) (ci := 11) (v := .ref jaT) (C := RX11) (T := TX11) (N := 55) hx hb hts ui_X11_sets_X11 hown hK hP 0 rfl rfl 39 (by decide) (hts _ uw_X11_sets_f68) (fun _ h9 => h9) rfl (dt_of tkX11_sets_k117 2 rfl) ?_
      refine lv_iload_n hx hb (dt_of tkX11_sets_k117 3 rfl) rfl (lv_at hl 1 rfl) ?_
      refine lv_iconst (v := 0) hx hb (dt_of tkX11_sets_k117 4 rfl) (by decide) ?_
      obtain ⟨hi9, hw⟩ := hw
      refine va_iast hx hb hK hP hD hS 8 1 rfl rfl hi9 (dt_of tkX11_sets_k117 5 rfl) (fun H locs hP hD hS => ?_)
      obtain ⟨f8, ef8⟩ : ∃ y : Nat → Int32, y = upd jb0 l1.toNatClampNeg 0 := ⟨_, rfl⟩
      have hw := hw f8 ef8
      have hP : va_P (dC, dI) vwCl (wd09_17 a0 jaX jaF jaD ja7 jby jbf jaM jaY jap jaK jeR je2 jfM jdO ja5 jb9 jbJ jg3 jge jg8 jaN jaC jbw jaw jaI jaZ jaH jaS jan jbD jaE jar jaL jah jhQ jcn jaz jaG jab jaT z0_s jaq jai jdj jh9 jat jau jav jaj jas jaJ jak jad jay ji3 jeR cyI ji8 ja5 cyI jbv je2 cyI ji9 jb9 cyI jdH jfM cyI jjB jbJ cyI jcx jdj cyI jgu jaT cyI f8 jdO cyI jil) H := by rw [ef8]; exact hP
      have hD : va_D A (wd09_17 a0 jaX jaF jaD ja7 jby jbf jaM jaY jap jaK jeR je2 jfM jdO ja5 jb9 jbJ jg3 jge jg8 jaN jaC jbw jaw jaI jaZ jaH jaS jan jbD jaE jar jaL jah jhQ jcn jaz jaG jab jaT z0_s jaq jai jdj jh9 jat jau jav jaj jas jaJ jak jad jay ji3 jeR cyI ji8 ja5 cyI jbv je2 cyI ji9 jb9 cyI jdH jfM cyI jjB jbJ cyI jcx jdj cyI jgu jaT cyI f8 jdO cyI jil) := by rw [ef8]; exact hD
      obtain ⟨x9, ex9⟩ : ∃ y : Int32, y = l1 + 1 := ⟨_, rfl⟩
      have hw := hw x9 ex9
      refine lv_iinc (v := x9) (lv' := [(1, .int x9), (0, .ref a0)]) hx hb (dt_of tkX11_sets_k117 6 rfl) hl (k := 1) rfl (by rw [ex9]; rfl) (by decide) rfl (fun ls hl => ?_)
      refine lv_goto (tgt := 114) hx hb (dt_of tkX11_sets_k117 7 rfl) (by decide) ?_
      exact ih _ _ _ jaN jaC jbw jbv jdH jcx jbD jh9 jhQ ji3 jcn jgu f8 x9 hP hD hS (lv_sub hl [1, 0] rfl) hw
set_option maxHeartbeats 4000000 in
set_option maxRecDepth 100000 in
theorem kl_X11_sets_93 {p : Program} {l : Launch} {e : Env} {s : State} {m : MethodId} {args : Array Value} {below : List Frame} {meth : Method} {c : Code} {A : Nat → Prop} (dC : Nat → ClassId) (dI : Nat → Nat → Nat) (cyB cyI cyJ cyP : ClassId) (a0 jeR ja5 je2 jb9 jfM jbJ jdj jaT jdO : Nat) (jaX jaF jaD ja7 jby jbf jaM jaY jap jaK jaw jaI jaZ jaH jaS jan jaE jar jaL jah jaz jaG jab z0_s jaq jai jat jau jav jaj jas jaJ jak jad jay : Value) (jg3 jge jg8 : Int32) (ji8 ji9 jjB jil : Nat → Int32) (Q : Int32 → Int32 → Int32 → (Nat → Int32) → (Nat → Int32) → (Nat → Int32) → Int32 → Int32 → Int32 → Int32 → Int32 → (Nat → Int32) → (Nat → Int32) → Prop)  (C0 : cfx p s m args meth c cX11_sets none wsX11_sets RX11 2 A (dC, dI) (kT cyB cyI cyJ cyP)) : ∀ (n : Nat) (H : Heap) (locs : List Loc) (ls : Array Slot) (jaN jaC jbw : Int32) (jbv jdH jcx : Nat → Int32) (jbD jh9 jhQ ji3 jcn : Int32) (jgu jb0 : Nat → Int32) (l1 : Int32), va_P (dC, dI) vwCl (wd09_17 a0 jaX jaF jaD ja7 jby jbf jaM jaY jap jaK jeR je2 jfM jdO ja5 jb9 jbJ jg3 jge jg8 jaN jaC jbw jaw jaI jaZ jaH jaS jan jbD jaE jar jaL jah jhQ jcn jaz jaG jab jaT z0_s jaq jai jdj jh9 jat jau jav jaj jas jaJ jak jad jay ji3 jeR cyI ji8 ja5 cyI jbv je2 cyI ji9 jb9 cyI jdH jfM cyI jjB jbJ cyI jcx jdj cyI jgu jaT cyI jb0 jdO cyI jil) H → va_D A (wd09_17 a0 jaX jaF jaD ja7 jby jbf jaM jaY jap jaK jeR je2 jfM jdO ja5 jb9 jbJ jg3 jge jg8 jaN jaC jbw jaw jaI jaZ jaH jaS jan jbD jaE jar jaL jah jhQ jcn jaz jaG jab jaT z0_s jaq jai jdj jh9 jat jau jav jaj jas jaJ jak jad jay ji3 jeR cyI ji8 ja5 cyI jbv je2 cyI ji9 jb9 cyI jdH jfM cyI jjB jbJ cyI jcx jdj cyI jgu jaT cyI jb0 jdO cyI jil) → va_S A s.heap H locs → lv_has ls 2 [(0, .ref a0), (1, .int l1)] → wl_X11_sets_93 jg3 jge jg8 ji8 ji9 jjB jil Q  n jaN jaC jbw jbv jdH jcx jbD jh9 jhQ ji3 jcn jgu jb0 l1 → W p l e (headSpec wsX11_sets ({ frames := 1, cells := 0, slots := 0, locals := 24 })).room s m args below meth c H locs 0 0 (MQ below (va_Qv (fun (u : Int32 × Int32 × Int32 × (Nat → Int32) × (Nat → Int32) × (Nat → Int32) × Int32 × Int32 × Int32 × Int32 × Int32 × (Nat → Int32) × (Nat → Int32)) => Q u.1 u.2.1 u.2.2.1 u.2.2.2.1 u.2.2.2.2.1 u.2.2.2.2.2.1 u.2.2.2.2.2.2.1 u.2.2.2.2.2.2.2.1 u.2.2.2.2.2.2.2.2.1 u.2.2.2.2.2.2.2.2.2.1 u.2.2.2.2.2.2.2.2.2.2.1 u.2.2.2.2.2.2.2.2.2.2.2.1 u.2.2.2.2.2.2.2.2.2.2.2.2) (cB (dC, dI) (kT cyB cyI cyJ cyP) A (fun u : Int32 × Int32 × Int32 × (Nat → Int32) × (Nat → Int32) × (Nat → Int32) × Int32 × Int32 × Int32 × Int32 × Int32 × (Nat → Int32) × (Nat → Int32) => ((wd09_17 a0 jaX jaF jaD ja7 jby jbf jaM jaY jap jaK jeR je2 jfM jdO ja5 jb9 jbJ jg3 jge jg8 u.1 u.2.1 u.2.2.1 jaw jaI jaZ jaH jaS jan u.2.2.2.2.2.2.1 jaE jar jaL jah u.2.2.2.2.2.2.2.2.1 u.2.2.2.2.2.2.2.2.2.2.1 jaz jaG jab jaT z0_s jaq jai jdj u.2.2.2.2.2.2.2.1 jat jau jav jaj jas jaJ jak jad jay u.2.2.2.2.2.2.2.2.2.1 jeR cyI ji8 ja5 cyI u.2.2.2.1 je2 cyI ji9 jb9 cyI u.2.2.2.2.1 jfM cyI jjB jbJ cyI u.2.2.2.2.2.1 jdj cyI u.2.2.2.2.2.2.2.2.2.2.2.1 jaT cyI u.2.2.2.2.2.2.2.2.2.2.2.2 jdO cyI jil) : va_W))) A) args s 0 0 A) (F0 m 93 ls []) := by
  obtain ⟨hx, hb, hr, hts, hown, hlocks, hml, hA, hK, hNw⟩ := id C0
  intro n
  induction n with
  | zero => intro H locs ls jaN jaC jbw jbv jdH jcx jbD jh9 jhQ ji3 jcn jgu jb0 l1 hP hD hS hl hw; exact False.elim hw
  | succ n ih =>
    intro H locs ls jaN jaC jbw jbv jdH jcx jbD jh9 jhQ ji3 jcn jgu jb0 l1 hP hD hS hl hw
    refine lv_iload_n hx hb (dt_of tkX11_sets_k91 2 rfl) rfl (lv_at hl 1 rfl) ?_
    refine lv_bipush (v := 8) hx hb (dt_of tkX11_sets_k91 3 rfl) (by decide) ?_
    refine lv_icmp_ge (tgt := 112) hx hb (dt_of tkX11_sets_k91 4 rfl) (by decide) (fun c4 => ?_) (fun c4 => ?_)
    · have hw := hw.1 c4
      refine lv_iconst (v := 0) hx hb (dt_of tkX11_sets_k91 12 rfl) (by decide) ?_
      refine lv_istore_n (lv' := [(1, .int 0), (0, .ref a0)]) hx hb (dt_of tkX11_sets_k91 13 rfl) rfl hl (by decide) rfl (fun ls hl => ?_)
      obtain ⟨n9, hw⟩ := hw
      exact kl_X11_sets_114 dC dI cyB cyI cyJ cyP a0 jeR ja5 je2 jb9 jfM jbJ jdj jaT jdO jaX jaF jaD ja7 jby jbf jaM jaY jap jaK jaw jaI jaZ jaH jaS jan jaE jar jaL jah jaz jaG jab z0_s jaq jai jat jau jav jaj jas jaJ jak jad jay jg3 jge jg8 ji8 ji9 jjB jil Q  C0 n9 _ _ _ jaN jaC jbw jbv jdH jcx jbD jh9 jhQ ji3 jcn jgu jb0 0 hP hD hS (lv_sub hl [1, 0] rfl) hw
    · have hw := hw.2 c4
      refine lv_aload_n hx hb (dt_of tkX11_sets_k91 5 rfl) rfl (lv_at hl 0 rfl) ?_
      refine va_get (D := (dC, dI)) (ci := 11) (v := .ref jdj) (C := RX11) (T := TX11) (N := 55) hx hb hts ui_X11_sets_X11 hown hK hP 0 rfl rfl 43 (by decide) (hts _ uw_X11_sets_f80) (fun _ h9 => h9) rfl (dt_of tkX11_sets_k91 6 rfl) ?_
      refine lv_iload_n hx hb (dt_of tkX11_sets_k91 7 rfl) rfl (lv_at hl 1 rfl) ?_
      refine lv_iconst (v := (-1)) hx hb (dt_of tkX11_sets_k91 8 rfl) (by decide) ?_
      obtain ⟨hi9, hw⟩ := hw
      refine va_iast hx hb hK hP hD hS 7 1 rfl rfl hi9 (dt_of tkX11_sets_k91 9 rfl) (fun H locs hP hD hS => ?_)
      obtain ⟨f5, ef5⟩ : ∃ y : Nat → Int32, y = upd jgu l1.toNatClampNeg (-1) := ⟨_, rfl⟩
      have hw := hw f5 ef5
      have hP : va_P (dC, dI) vwCl (wd09_17 a0 jaX jaF jaD ja7 jby jbf jaM jaY jap jaK jeR je2 jfM jdO ja5 jb9 jbJ jg3 jge jg8 jaN jaC jbw jaw jaI jaZ jaH jaS jan jbD jaE jar jaL jah jhQ jcn jaz jaG jab jaT z0_s jaq jai jdj jh9 jat jau jav jaj jas jaJ jak jad jay ji3 jeR cyI ji8 ja5 cyI jbv je2 cyI ji9 jb9 cyI jdH jfM cyI jjB jbJ cyI jcx jdj cyI f5 jaT cyI jb0 jdO cyI jil) H := by rw [ef5]; exact hP
      have hD : va_D A (wd09_17 a0 jaX jaF jaD ja7 jby jbf jaM jaY jap jaK jeR je2 jfM jdO ja5 jb9 jbJ jg3 jge jg8 jaN jaC jbw jaw jaI jaZ jaH jaS jan jbD jaE jar jaL jah jhQ jcn jaz jaG jab jaT z0_s jaq jai jdj jh9 jat jau jav jaj jas jaJ jak jad jay ji3 jeR cyI ji8 ja5 cyI jbv je2 cyI ji9 jb9 cyI jdH jfM cyI jjB jbJ cyI jcx jdj cyI f5 jaT cyI jb0 jdO cyI jil) := by rw [ef5]; exact hD
      obtain ⟨x6, ex6⟩ : ∃ y : Int32, y = l1 + 1 := ⟨_, rfl⟩
      have hw := hw x6 ex6
      refine lv_iinc (v := x6) (lv' := [(1, .int x6), (0, .ref a0)]) hx hb (dt_of tkX11_sets_k91 10 rfl) hl (k := 1) rfl (by rw [ex6]; rfl) (by decide) rfl (fun ls hl => ?_)
      refine lv_goto (tgt := 93) hx hb (dt_of tkX11_sets_k91 11 rfl) (by decide) ?_
      exact ih _ _ _ jaN jaC jbw jbv jdH jcx jbD jh9 jhQ ji3 jcn f5 jb0 x6 hP hD hS (lv_sub hl [1, 0] rfl) hw
set_option maxHeartbeats 4000000 in
set_option maxRecDepth 100000 in
theorem ck_X11_sets (l : Launch) (dC : Nat → ClassId) (dI : Nat → Nat → Nat) (cyB cyI cyJ cyP : ClassId) (a0 jeR ja5 je2 jb9 jfM jbJ jdj jaT jdO sz : Nat) (jaX jaF jaD ja7 jby jbf jaM jaY jap jaK jaw jaI jaZ jaH jaS jan jaE jar jaL jah jaz jaG jab z0_s jaq jai jat jau jav jaj jas jaJ jak jad jay : Value) (jg3 jge jg8 : Int32) (ji8 ji9 jjB jil : Nat → Int32) (jaN jaC jbw : Int32) (jbv jdH jcx : Nat → Int32) (jbD jh9 jhQ ji3 jcn : Int32) (jgu jb0 : Nat → Int32)  {Q : Int32 → Int32 → Int32 → (Nat → Int32) → (Nat → Int32) → (Nat → Int32) → Int32 → Int32 → Int32 → Int32 → Int32 → (Nat → Int32) → (Nat → Int32) → Prop} (hw : wq_X11_sets jg3 jge jg8 ji8 ji9 jjB jil jaN jaC jbw jbv jdH jcx jbD jh9 jhQ ji3 jcn jgu jb0  Q) : Met l yX11_sets wsX11_sets ({ frames := 1, cells := 0, slots := 0, locals := 24 }) (va_Pc [.ref a0] (cPc (dC, dI) (kT cyB cyI cyJ cyP) (wd09_17 a0 jaX jaF jaD ja7 jby jbf jaM jaY jap jaK jeR je2 jfM jdO ja5 jb9 jbJ jg3 jge jg8 jaN jaC jbw jaw jaI jaZ jaH jaS jan jbD jaE jar jaL jah jhQ jcn jaz jaG jab jaT z0_s jaq jai jdj jh9 jat jau jav jaj jas jaJ jak jad jay ji3 jeR cyI ji8 ja5 cyI jbv je2 cyI ji9 jb9 cyI jdH jfM cyI jjB jbJ cyI jcx jdj cyI jgu jaT cyI jb0 jdO cyI jil) sz)) (va_Qv (fun (u : Int32 × Int32 × Int32 × (Nat → Int32) × (Nat → Int32) × (Nat → Int32) × Int32 × Int32 × Int32 × Int32 × Int32 × (Nat → Int32) × (Nat → Int32)) => Q u.1 u.2.1 u.2.2.1 u.2.2.2.1 u.2.2.2.2.1 u.2.2.2.2.2.1 u.2.2.2.2.2.2.1 u.2.2.2.2.2.2.2.1 u.2.2.2.2.2.2.2.2.1 u.2.2.2.2.2.2.2.2.2.1 u.2.2.2.2.2.2.2.2.2.2.1 u.2.2.2.2.2.2.2.2.2.2.2.1 u.2.2.2.2.2.2.2.2.2.2.2.2) (cB (dC, dI) (kT cyB cyI cyJ cyP) (va_A (wd09_17 a0 jaX jaF jaD ja7 jby jbf jaM jaY jap jaK jeR je2 jfM jdO ja5 jb9 jbJ jg3 jge jg8 jaN jaC jbw jaw jaI jaZ jaH jaS jan jbD jaE jar jaL jah jhQ jcn jaz jaG jab jaT z0_s jaq jai jdj jh9 jat jau jav jaj jas jaJ jak jad jay ji3 jeR cyI ji8 ja5 cyI jbv je2 cyI ji9 jb9 cyI jdH jfM cyI jjB jbJ cyI jcx jdj cyI jgu jaT cyI jb0 jdO cyI jil) sz) (fun u : Int32 × Int32 × Int32 × (Nat → Int32) × (Nat → Int32) × (Nat → Int32) × Int32 × Int32 × Int32 × Int32 × Int32 × (Nat → Int32) × (Nat → Int32) => ((wd09_17 a0 jaX jaF jaD ja7 jby jbf jaM jaY jap jaK jeR je2 jfM jdO ja5 jb9 jbJ jg3 jge jg8 u.1 u.2.1 u.2.2.1 jaw jaI jaZ jaH jaS jan u.2.2.2.2.2.2.1 jaE jar jaL jah u.2.2.2.2.2.2.2.2.1 u.2.2.2.2.2.2.2.2.2.2.1 jaz jaG jab jaT z0_s jaq jai jdj u.2.2.2.2.2.2.2.1 jat jau jav jaj jas jaJ jak jad jay u.2.2.2.2.2.2.2.2.2.1 jeR cyI ji8 ja5 cyI u.2.2.2.1 je2 cyI ji9 jb9 cyI u.2.2.2.2.1 jfM cyI jjB jbJ cyI u.2.2.2.2.2.1 jdj cyI u.2.2.2.2.2.2.2.2.2.2.2.1 jaT cyI u.2.2.2.2.2.2.2.2.2.2.2.2 jdO cyI jil) : va_W))) (va_A (wd09_17 a0 jaX jaF jaD ja7 jby jbf jaM jaY jap jaK jeR je2 jfM jdO ja5 jb9 jbJ jg3 jge jg8 jaN jaC jbw jaw jaI jaZ jaH jaS jan jbD jaE jar jaL jah jhQ jcn jaz jaG jab jaT z0_s jaq jai jdj jh9 jat jau jav jaj jas jaJ jak jad jay ji3 jeR cyI ji8 ja5 cyI jbv je2 cyI ji9 jb9 cyI jdH jfM cyI jjB jbJ cyI jcx jdj cyI jgu jaT cyI jb0 jdO cyI jil) sz)) 0 0 (va_A (wd09_17 a0 jaX jaF jaD ja7 jby jbf jaM jaY jap jaK jeR je2 jfM jdO ja5 jb9 jbJ jg3 jge jg8 jaN jaC jbw jaw jaI jaZ jaH jaS jan jbD jaE jar jaL jah jhQ jcn jaz jaG jab jaT z0_s jaq jai jdj jh9 jat jau jav jaj jas jaJ jak jad jay ji3 jeR cyI ji8 ja5 cyI jbv je2 cyI ji9 jb9 cyI jdH jfM cyI jjB jbJ cyI jcx jdj cyI jgu jaT cyI jb0 jdO cyI jil) sz) := by
  refine Met.ofW (cc := cX11_sets) (maxL := 2) (ret := none) (by decide) rfl ?_
  intro p e s m args below meth c s₁ B hml hv
  obtain ⟨rfl, hsz, hP, hK, hD0, hNw⟩ := hv
  have hx := B.exec
  have hb := B.bytes
  have hr := B.returns
  have hts := atoms_spec (ws := wsX11_sets) B.pre
  have hown : s.vm.findClass RX11 = some m.cls := findClass_of_methodNamed B.named
  have hlocks := B.notSynchronized
  subst hsz
  have hD := hD0.self (sz := s.heap.size)
  generalize hAe : va_A (wd09_17 a0 jaX jaF jaD ja7 jby jbf jaM jaY jap jaK jeR je2 jfM jdO ja5 jb9 jbJ jg3 jge jg8 jaN jaC jbw jaw jaI jaZ jaH jaS jan jbD jaE jar jaL jah jhQ jcn jaz jaG jab jaT z0_s jaq jai jdj jh9 jat jau jav jaj jas jaJ jak jad jay ji3 jeR cyI ji8 ja5 cyI jbv je2 cyI ji9 jb9 cyI jdH jfM cyI jjB jbJ cyI jcx jdj cyI jgu jaT cyI jb0 jdO cyI jil) s.heap.size = A at hD ⊢
  have hA : ∀ q : Nat, s.heap.size ≤ q → A q := fun q h => by rw [← hAe]; exact Or.inr h
  have hS : va_S A s.heap s.heap [] := va_S.rf
  have hP : va_P (dC, dI) vwCl (wd09_17 a0 jaX jaF jaD ja7 jby jbf jaM jaY jap jaK jeR je2 jfM jdO ja5 jb9 jbJ jg3 jge jg8 jaN jaC jbw jaw jaI jaZ jaH jaS jan jbD jaE jar jaL jah jhQ jcn jaz jaG jab jaT z0_s jaq jai jdj jh9 jat jau jav jaj jas jaJ jak jad jay ji3 jeR cyI ji8 ja5 cyI jbv je2 cyI ji9 jb9 cyI jdH jfM cyI jjB jbJ cyI jcx jdj cyI jgu jaT cyI jb0 jdO cyI jil) s.heap := hP
  have hl := lv_entry ([.ref a0]) (n := 2) (Nat.le_of_ble_eq_true rfl)
  rw [lg_entry_eq]
  generalize (lg_sl ([.ref a0]) ++ List.replicate (2 - (lg_sl ([.ref a0])).length) Slot.unset).toArray = ls at hl ⊢
  have hl : lv_has ls 2 [(0, .ref a0)] := hl
  have C0 : cfx p s m _ meth c cX11_sets none wsX11_sets RX11 2 A (dC, dI) (kT cyB cyI cyJ cyP) := ⟨hx, hb, hr, hts, hown, hlocks, hml, hA, hK, hNw⟩
  clear hAe
  obtain ⟨H, hH⟩ : ∃ H, H = s.heap := ⟨_, rfl⟩
  rw [← hH] at hP ⊢
  have hS : va_S A s.heap H [] := by rw [hH]; exact va_S.rf
  have hS := hS
  refine lv_aload_n hx hb (dt_of tkX11_sets_k0 0 rfl) rfl (lv_at hl 0 rfl) ?_
  refine lv_aload_n hx hb (dt_of tkX11_sets_k0 1 rfl) rfl (lv_at hl 0 rfl) ?_
  refine va_get (D := (dC, dI)) (ci := 11) (v := .int jg3) (C := RX11) (T := TX11) (N := 55) hx hb hts ui_X11_sets_X11 hown hK hP 0 rfl rfl 17 (by decide) (hts _ uw_X11_sets_f157) (fun _ h9 => h9) rfl (dt_of tkX11_sets_k0 2 rfl) ?_
  refine va_put (D := (dC, dI)) (ci := 11) (v := .int jg3) (ty := .int) (C := RX11) (T := TX11) (N := 55) hx hb hts ui_X11_sets_X11 tyX11 tyX11_ok nmX11 hown hK hP hD hS 0 rfl rfl 20 (by decide) (hts _ uw_X11_sets_f166) (fun _ h9 => h9) rfl (by decide +kernel) rfl rfl (Nat.le_of_ble_eq_true rfl) (dt_of tkX11_sets_k0 3 rfl) (fun H locs hP hD hS => ?_)
  have hP : va_P (dC, dI) vwCl (wd09_17 a0 jaX jaF jaD ja7 jby jbf jaM jaY jap jaK jeR je2 jfM jdO ja5 jb9 jbJ jg3 jge jg8 jg3 jaC jbw jaw jaI jaZ jaH jaS jan jbD jaE jar jaL jah jhQ jcn jaz jaG jab jaT z0_s jaq jai jdj jh9 jat jau jav jaj jas jaJ jak jad jay ji3 jeR cyI ji8 ja5 cyI jbv je2 cyI ji9 jb9 cyI jdH jfM cyI jjB jbJ cyI jcx jdj cyI jgu jaT cyI jb0 jdO cyI jil) H := hP
  have hD : va_D A (wd09_17 a0 jaX jaF jaD ja7 jby jbf jaM jaY jap jaK jeR je2 jfM jdO ja5 jb9 jbJ jg3 jge jg8 jg3 jaC jbw jaw jaI jaZ jaH jaS jan jbD jaE jar jaL jah jhQ jcn jaz jaG jab jaT z0_s jaq jai jdj jh9 jat jau jav jaj jas jaJ jak jad jay ji3 jeR cyI ji8 ja5 cyI jbv je2 cyI ji9 jb9 cyI jdH jfM cyI jjB jbJ cyI jcx jdj cyI jgu jaT cyI jb0 jdO cyI jil) := hD
  refine lv_aload_n hx hb (dt_of tkX11_sets_k0 4 rfl) rfl (lv_at hl 0 rfl) ?_
  refine lv_aload_n hx hb (dt_of tkX11_sets_k0 5 rfl) rfl (lv_at hl 0 rfl) ?_
  refine va_get (D := (dC, dI)) (ci := 11) (v := .int jge) (C := RX11) (T := TX11) (N := 55) hx hb hts ui_X11_sets_X11 hown hK hP 0 rfl rfl 18 (by decide) (hts _ uw_X11_sets_f160) (fun _ h9 => h9) rfl (dt_of tkX11_sets_k0 6 rfl) ?_
  refine va_put (D := (dC, dI)) (ci := 11) (v := .int jge) (ty := .int) (C := RX11) (T := TX11) (N := 55) hx hb hts ui_X11_sets_X11 tyX11 tyX11_ok nmX11 hown hK hP hD hS 0 rfl rfl 21 (by decide) (hts _ uw_X11_sets_f169) (fun _ h9 => h9) rfl (by decide +kernel) rfl rfl (Nat.le_of_ble_eq_true rfl) (dt_of tkX11_sets_k0 7 rfl) (fun H locs hP hD hS => ?_)
  have hP : va_P (dC, dI) vwCl (wd09_17 a0 jaX jaF jaD ja7 jby jbf jaM jaY jap jaK jeR je2 jfM jdO ja5 jb9 jbJ jg3 jge jg8 jg3 jge jbw jaw jaI jaZ jaH jaS jan jbD jaE jar jaL jah jhQ jcn jaz jaG jab jaT z0_s jaq jai jdj jh9 jat jau jav jaj jas jaJ jak jad jay ji3 jeR cyI ji8 ja5 cyI jbv je2 cyI ji9 jb9 cyI jdH jfM cyI jjB jbJ cyI jcx jdj cyI jgu jaT cyI jb0 jdO cyI jil) H := hP
  have hD : va_D A (wd09_17 a0 jaX jaF jaD ja7 jby jbf jaM jaY jap jaK jeR je2 jfM jdO ja5 jb9 jbJ jg3 jge jg8 jg3 jge jbw jaw jaI jaZ jaH jaS jan jbD jaE jar jaL jah jhQ jcn jaz jaG jab jaT z0_s jaq jai jdj jh9 jat jau jav jaj jas jaJ jak jad jay ji3 jeR cyI ji8 ja5 cyI jbv je2 cyI ji9 jb9 cyI jdH jfM cyI jjB jbJ cyI jcx jdj cyI jgu jaT cyI jb0 jdO cyI jil) := hD
  refine lv_aload_n hx hb (dt_of tkX11_sets_k0 8 rfl) rfl (lv_at hl 0 rfl) ?_
  refine lv_aload_n hx hb (dt_of tkX11_sets_k0 9 rfl) rfl (lv_at hl 0 rfl) ?_
  refine va_get (D := (dC, dI)) (ci := 11) (v := .int jg8) (C := RX11) (T := TX11) (N := 55) hx hb hts ui_X11_sets_X11 hown hK hP 0 rfl rfl 19 (by decide) (hts _ uw_X11_sets_f163) (fun _ h9 => h9) rfl (dt_of tkX11_sets_k0 10 rfl) ?_
  refine va_put (D := (dC, dI)) (ci := 11) (v := .int jg8) (ty := .int) (C := RX11) (T := TX11) (N := 55) hx hb hts ui_X11_sets_X11 tyX11 tyX11_ok nmX11 hown hK hP hD hS 0 rfl rfl 22 (by decide) (hts _ uw_X11_sets_f172) (fun _ h9 => h9) rfl (by decide +kernel) rfl rfl (Nat.le_of_ble_eq_true rfl) (dt_of tkX11_sets_k0 11 rfl) (fun H locs hP hD hS => ?_)
  have hP : va_P (dC, dI) vwCl (wd09_17 a0 jaX jaF jaD ja7 jby jbf jaM jaY jap jaK jeR je2 jfM jdO ja5 jb9 jbJ jg3 jge jg8 jg3 jge jg8 jaw jaI jaZ jaH jaS jan jbD jaE jar jaL jah jhQ jcn jaz jaG jab jaT z0_s jaq jai jdj jh9 jat jau jav jaj jas jaJ jak jad jay ji3 jeR cyI ji8 ja5 cyI jbv je2 cyI ji9 jb9 cyI jdH jfM cyI jjB jbJ cyI jcx jdj cyI jgu jaT cyI jb0 jdO cyI jil) H := hP
  have hD : va_D A (wd09_17 a0 jaX jaF jaD ja7 jby jbf jaM jaY jap jaK jeR je2 jfM jdO ja5 jb9 jbJ jg3 jge jg8 jg3 jge jg8 jaw jaI jaZ jaH jaS jan jbD jaE jar jaL jah jhQ jcn jaz jaG jab jaT z0_s jaq jai jdj jh9 jat jau jav jaj jas jaJ jak jad jay ji3 jeR cyI ji8 ja5 cyI jbv je2 cyI ji9 jb9 cyI jdH jfM cyI jjB jbJ cyI jcx jdj cyI jgu jaT cyI jb0 jdO cyI jil) := hD
  refine lv_aload_n hx hb (dt_of tkX11_sets_k0 12 rfl) rfl (lv_at hl 0 rfl) ?_
  refine lv_aload_n hx hb (dt_of tkX11_sets_k0 13 rfl) rfl (lv_at hl 0 rfl) ?_
  refine va_get (D := (dC, dI)) (ci := 11) (v := .ref jeR) (C := RX11) (T := TX11) (N := 55) hx hb hts ui_X11_sets_X11 hown hK hP 0 rfl rfl 10 (by decide) (hts _ uw_X11_sets_f23) (fun _ h9 => h9) rfl (dt_of tkX11_sets_k0 14 rfl) ?_
  refine lv_aload_n hx hb (dt_of tkX11_sets_k0 15 rfl) rfl (lv_at hl 0 rfl) ?_
  refine va_get (D := (dC, dI)) (ci := 11) (v := .ref ja5) (C := RX11) (T := TX11) (N := 55) hx hb hts ui_X11_sets_X11 hown hK hP 0 rfl rfl 14 (by decide) (hts _ uw_X11_sets_f35) (fun _ h9 => h9) rfl (dt_of tkX11_sets_k30 0 rfl) ?_
  refine lv_bipush (v := 16) hx hb (dt_of tkX11_sets_k30 1 rfl) (by decide) ?_
  obtain ⟨hCc, hPc, hDc, hFc⟩ := va_pick (ws' := (wd09_18 a0 jaX jaF jaD ja7 jby jbf jaM jaY jap jaK jeR je2 jfM jdO ja5 jb9 jbJ jg3 jge jg8 jg3 jge jg8 jaw jaI jaZ jaH jaS jan jbD jaE jar jaL jah jhQ jcn jaz jaG jab jaT z0_s jaq jai jdj jh9 jat jau jav jaj jas jaJ jak jad jay ji3 jeR cyI ji8 ja5 cyI jbv)) hP hD hS hA [0, 1, 2] (by decide +kernel) rfl
  refine va_callv (va_runV (As := [.ref jeR, .ref ja5, .int 16]) (rest := []) ⟨hx, hb, hml, hown, hts⟩ (ck_X11_copies l dC dI cyB cyI cyJ cyP a0 jeR ja5 H.size (jaX) (jaF) (jaD) (ja7) (jby) (jbf) (jaM) (jaY) (jap) (jaK) (.ref jeR) (.ref je2) (.ref jfM) (.ref jdO) (.ref ja5) (.ref jb9) (.ref jbJ) (.int jg3) (.int jge) (.int jg8) (.int jg3) (.int jge) (.int jg8) (jaw) (jaI) (jaZ) (jaH) (jaS) (jan) (.int jbD) (jaE) (jar) (jaL) (jah) (.int jhQ) (.int jcn) (jaz) (jaG) (jab) (.ref jaT) (z0_s) (jaq) (jai) (.ref jdj) (.int jh9) (jat) (jau) (jav) (jaj) (jas) (jaJ) (jak) (jad) (jay) (.int ji3) 16 16 ji8 jbv 16 hw) (cwV 3 hts gX11_sets_X11_copies rfl rfl rfl (by decide +kernel) ⟨Nat.le_of_ble_eq_true rfl, Nat.le_of_ble_eq_true rfl⟩) ⟨cPc_blind, va_recv (q := (RX11, TX11, 55)) hK hPc (ci := 11) (q0 := 0) rfl rfl, cPc_pre hPc hK hDc hNw⟩ rfl rfl hl.1 rfl (lv_room (Nat.le_of_ble_eq_true rfl)) (dt_of tkX11_sets_k30 2 rfl) ⟨Nat.le_of_ble_eq_true rfl, Nat.le_of_ble_eq_true rfl⟩) hS (fun q _ h => hFc q h) hFc (fun u t H1 locs ht hvm hw hB hz1 hk1 hS => ?_)
  obtain ⟨f1, rfl⟩ : ∃ z, z = u := ⟨_, rfl⟩
  obtain ⟨hP1, hK1, hD1⟩ := hB
  rw [ht] at hP1
  obtain ⟨hP, hD⟩ := va_joinN (wr := [(je2, .inl (cyI, 12, .inl ji9)), (jb9, .inl (cyI, 12, .inl jdH)), (jfM, .inl (cyI, 8, .inl jjB)), (jbJ, .inl (cyI, 8, .inl jcx)), (jdj, .inl (cyI, 8, .inl jgu)), (jaT, .inl (cyI, 68, .inl jb0)), (jdO, .inl (cyI, 36, .inl jil))]) (w1 := (wd09_18 a0 jaX jaF jaD ja7 jby jbf jaM jaY jap jaK jeR je2 jfM jdO ja5 jb9 jbJ jg3 jge jg8 jg3 jge jg8 jaw jaI jaZ jaH jaS jan jbD jaE jar jaL jah jhQ jcn jaz jaG jab jaT z0_s jaq jai jdj jh9 jat jau jav jaj jas jaJ jak jad jay ji3 jeR cyI ji8 ja5 cyI f1)) (wn := (wd09_17 a0 jaX jaF jaD ja7 jby jbf jaM jaY jap jaK jeR je2 jfM jdO ja5 jb9 jbJ jg3 jge jg8 jg3 jge jg8 jaw jaI jaZ jaH jaS jan jbD jaE jar jaL jah jhQ jcn jaz jaG jab jaT z0_s jaq jai jdj jh9 jat jau jav jaj jas jaJ jak jad jay ji3 jeR cyI ji8 ja5 cyI f1 je2 cyI ji9 jb9 cyI jdH jfM cyI jjB jbJ cyI jcx jdj cyI jgu jaT cyI jb0 jdO cyI jil)) hP hD [0, 1, 2] [3, 4, 5, 6, 7, 8, 9] [7, 8, 9, 0, 1, 2, 3, 4, 5, 6] hCc rfl (by decide +kernel) (by decide +kernel) (by decide +kernel) rfl hk1 hFc hP1 hD1
  generalize H1 = H at hP hS ⊢
  refine lv_aload_n hx hb (dt_of tkX11_sets_k30 3 rfl) rfl (lv_at hl 0 rfl) ?_
  refine lv_aload_n hx hb (dt_of tkX11_sets_k30 4 rfl) rfl (lv_at hl 0 rfl) ?_
  refine va_get (D := (dC, dI)) (ci := 11) (v := .ref je2) (C := RX11) (T := TX11) (N := 55) hx hb hts ui_X11_sets_X11 hown hK hP 0 rfl rfl 11 (by decide) (hts _ uw_X11_sets_f26) (fun _ h9 => h9) rfl (dt_of tkX11_sets_k30 5 rfl) ?_
  refine lv_aload_n hx hb (dt_of tkX11_sets_k30 6 rfl) rfl (lv_at hl 0 rfl) ?_
  refine va_get (D := (dC, dI)) (ci := 11) (v := .ref jb9) (C := RX11) (T := TX11) (N := 55) hx hb hts ui_X11_sets_X11 hown hK hP 0 rfl rfl 15 (by decide) (hts _ uw_X11_sets_f38) (fun _ h9 => h9) rfl (dt_of tkX11_sets_k30 7 rfl) ?_
  refine lv_bipush (v := 12) hx hb (dt_of tkX11_sets_k30 8 rfl) (by decide) ?_
  obtain ⟨hCc, hPc, hDc, hFc⟩ := va_pick (ws' := (wd09_19 a0 jaX jaF jaD ja7 jby jbf jaM jaY jap jaK jeR je2 jfM jdO ja5 jb9 jbJ jg3 jge jg8 jg3 jge jg8 jaw jaI jaZ jaH jaS jan jbD jaE jar jaL jah jhQ jcn jaz jaG jab jaT z0_s jaq jai jdj jh9 jat jau jav jaj jas jaJ jak jad jay ji3 je2 cyI ji9 jb9 cyI jdH)) hP hD hS hA [0, 3, 4] (by decide +kernel) rfl
  refine va_callv (va_runV (As := [.ref je2, .ref jb9, .int 12]) (rest := []) ⟨hx, hb, hml, hown, hts⟩ (ck_X11_copies l dC dI cyB cyI cyJ cyP a0 je2 jb9 H.size (jaX) (jaF) (jaD) (ja7) (jby) (jbf) (jaM) (jaY) (jap) (jaK) (.ref jeR) (.ref je2) (.ref jfM) (.ref jdO) (.ref ja5) (.ref jb9) (.ref jbJ) (.int jg3) (.int jge) (.int jg8) (.int jg3) (.int jge) (.int jg8) (jaw) (jaI) (jaZ) (jaH) (jaS) (jan) (.int jbD) (jaE) (jar) (jaL) (jah) (.int jhQ) (.int jcn) (jaz) (jaG) (jab) (.ref jaT) (z0_s) (jaq) (jai) (.ref jdj) (.int jh9) (jat) (jau) (jav) (jaj) (jas) (jaJ) (jak) (jad) (jay) (.int ji3) 12 12 ji9 jdH 12 hw) (cwV 3 hts gX11_sets_X11_copies rfl rfl rfl (by decide +kernel) ⟨Nat.le_of_ble_eq_true rfl, Nat.le_of_ble_eq_true rfl⟩) ⟨cPc_blind, va_recv (q := (RX11, TX11, 55)) hK hPc (ci := 11) (q0 := 0) rfl rfl, cPc_pre hPc hK hDc hNw⟩ rfl rfl hl.1 rfl (lv_room (Nat.le_of_ble_eq_true rfl)) (dt_of tkX11_sets_k30 9 rfl) ⟨Nat.le_of_ble_eq_true rfl, Nat.le_of_ble_eq_true rfl⟩) hS (fun q _ h => hFc q h) hFc (fun u t H1 locs ht hvm hw hB hz1 hk1 hS => ?_)
  obtain ⟨f2, rfl⟩ : ∃ z, z = u := ⟨_, rfl⟩
  obtain ⟨hP1, hK1, hD1⟩ := hB
  rw [ht] at hP1
  obtain ⟨hP, hD⟩ := va_joinN (wr := [(jeR, .inl (cyI, 16, .inl ji8)), (ja5, .inl (cyI, 16, .inl f1)), (jfM, .inl (cyI, 8, .inl jjB)), (jbJ, .inl (cyI, 8, .inl jcx)), (jdj, .inl (cyI, 8, .inl jgu)), (jaT, .inl (cyI, 68, .inl jb0)), (jdO, .inl (cyI, 36, .inl jil))]) (w1 := (wd09_19 a0 jaX jaF jaD ja7 jby jbf jaM jaY jap jaK jeR je2 jfM jdO ja5 jb9 jbJ jg3 jge jg8 jg3 jge jg8 jaw jaI jaZ jaH jaS jan jbD jaE jar jaL jah jhQ jcn jaz jaG jab jaT z0_s jaq jai jdj jh9 jat jau jav jaj jas jaJ jak jad jay ji3 je2 cyI ji9 jb9 cyI f2)) (wn := (wd09_17 a0 jaX jaF jaD ja7 jby jbf jaM jaY jap jaK jeR je2 jfM jdO ja5 jb9 jbJ jg3 jge jg8 jg3 jge jg8 jaw jaI jaZ jaH jaS jan jbD jaE jar jaL jah jhQ jcn jaz jaG jab jaT z0_s jaq jai jdj jh9 jat jau jav jaj jas jaJ jak jad jay ji3 jeR cyI ji8 ja5 cyI f1 je2 cyI ji9 jb9 cyI f2 jfM cyI jjB jbJ cyI jcx jdj cyI jgu jaT cyI jb0 jdO cyI jil)) hP hD [0, 3, 4] [1, 2, 5, 6, 7, 8, 9] [7, 0, 1, 8, 9, 2, 3, 4, 5, 6] hCc rfl (by decide +kernel) (by decide +kernel) (by decide +kernel) rfl hk1 hFc hP1 hD1
  generalize H1 = H at hP hS ⊢
  refine lv_aload_n hx hb (dt_of tkX11_sets_k30 10 rfl) rfl (lv_at hl 0 rfl) ?_
  refine lv_aload_n hx hb (dt_of tkX11_sets_k30 11 rfl) rfl (lv_at hl 0 rfl) ?_
  refine va_get (D := (dC, dI)) (ci := 11) (v := .ref jfM) (C := RX11) (T := TX11) (N := 55) hx hb hts ui_X11_sets_X11 hown hK hP 0 rfl rfl 12 (by decide) (hts _ uw_X11_sets_f29) (fun _ h9 => h9) rfl (dt_of tkX11_sets_k30 12 rfl) ?_
  refine lv_aload_n hx hb (dt_of tkX11_sets_k30 13 rfl) rfl (lv_at hl 0 rfl) ?_
  refine va_get (D := (dC, dI)) (ci := 11) (v := .ref jbJ) (C := RX11) (T := TX11) (N := 55) hx hb hts ui_X11_sets_X11 hown hK hP 0 rfl rfl 16 (by decide) (hts _ uw_X11_sets_f41) (fun _ h9 => h9) rfl (dt_of tkX11_sets_k30 14 rfl) ?_
  refine lv_bipush (v := 8) hx hb (dt_of tkX11_sets_k30 15 rfl) (by decide) ?_
  obtain ⟨hCc, hPc, hDc, hFc⟩ := va_pick (ws' := (wd09_20 a0 jaX jaF jaD ja7 jby jbf jaM jaY jap jaK jeR je2 jfM jdO ja5 jb9 jbJ jg3 jge jg8 jg3 jge jg8 jaw jaI jaZ jaH jaS jan jbD jaE jar jaL jah jhQ jcn jaz jaG jab jaT z0_s jaq jai jdj jh9 jat jau jav jaj jas jaJ jak jad jay ji3 jfM cyI jjB jbJ cyI jcx)) hP hD hS hA [0, 5, 6] (by decide +kernel) rfl
  refine va_callv (va_runV (As := [.ref jfM, .ref jbJ, .int 8]) (rest := []) ⟨hx, hb, hml, hown, hts⟩ (ck_X11_copies l dC dI cyB cyI cyJ cyP a0 jfM jbJ H.size (jaX) (jaF) (jaD) (ja7) (jby) (jbf) (jaM) (jaY) (jap) (jaK) (.ref jeR) (.ref je2) (.ref jfM) (.ref jdO) (.ref ja5) (.ref jb9) (.ref jbJ) (.int jg3) (.int jge) (.int jg8) (.int jg3) (.int jge) (.int jg8) (jaw) (jaI) (jaZ) (jaH) (jaS) (jan) (.int jbD) (jaE) (jar) (jaL) (jah) (.int jhQ) (.int jcn) (jaz) (jaG) (jab) (.ref jaT) (z0_s) (jaq) (jai) (.ref jdj) (.int jh9) (jat) (jau) (jav) (jaj) (jas) (jaJ) (jak) (jad) (jay) (.int ji3) 8 8 jjB jcx 8 hw) (cwV 3 hts gX11_sets_X11_copies rfl rfl rfl (by decide +kernel) ⟨Nat.le_of_ble_eq_true rfl, Nat.le_of_ble_eq_true rfl⟩) ⟨cPc_blind, va_recv (q := (RX11, TX11, 55)) hK hPc (ci := 11) (q0 := 0) rfl rfl, cPc_pre hPc hK hDc hNw⟩ rfl rfl hl.1 rfl (lv_room (Nat.le_of_ble_eq_true rfl)) (dt_of tkX11_sets_k63 0 rfl) ⟨Nat.le_of_ble_eq_true rfl, Nat.le_of_ble_eq_true rfl⟩) hS (fun q _ h => hFc q h) hFc (fun u t H1 locs ht hvm hw hB hz1 hk1 hS => ?_)
  obtain ⟨f3, rfl⟩ : ∃ z, z = u := ⟨_, rfl⟩
  obtain ⟨hP1, hK1, hD1⟩ := hB
  rw [ht] at hP1
  obtain ⟨hP, hD⟩ := va_joinN (wr := [(jeR, .inl (cyI, 16, .inl ji8)), (ja5, .inl (cyI, 16, .inl f1)), (je2, .inl (cyI, 12, .inl ji9)), (jb9, .inl (cyI, 12, .inl f2)), (jdj, .inl (cyI, 8, .inl jgu)), (jaT, .inl (cyI, 68, .inl jb0)), (jdO, .inl (cyI, 36, .inl jil))]) (w1 := (wd09_20 a0 jaX jaF jaD ja7 jby jbf jaM jaY jap jaK jeR je2 jfM jdO ja5 jb9 jbJ jg3 jge jg8 jg3 jge jg8 jaw jaI jaZ jaH jaS jan jbD jaE jar jaL jah jhQ jcn jaz jaG jab jaT z0_s jaq jai jdj jh9 jat jau jav jaj jas jaJ jak jad jay ji3 jfM cyI jjB jbJ cyI f3)) (wn := (wd09_17 a0 jaX jaF jaD ja7 jby jbf jaM jaY jap jaK jeR je2 jfM jdO ja5 jb9 jbJ jg3 jge jg8 jg3 jge jg8 jaw jaI jaZ jaH jaS jan jbD jaE jar jaL jah jhQ jcn jaz jaG jab jaT z0_s jaq jai jdj jh9 jat jau jav jaj jas jaJ jak jad jay ji3 jeR cyI ji8 ja5 cyI f1 je2 cyI ji9 jb9 cyI f2 jfM cyI jjB jbJ cyI f3 jdj cyI jgu jaT cyI jb0 jdO cyI jil)) hP hD [0, 5, 6] [1, 2, 3, 4, 7, 8, 9] [7, 0, 1, 2, 3, 8, 9, 4, 5, 6] hCc rfl (by decide +kernel) (by decide +kernel) (by decide +kernel) rfl hk1 hFc hP1 hD1
  generalize H1 = H at hP hS ⊢
  refine lv_aload_n hx hb (dt_of tkX11_sets_k63 1 rfl) rfl (lv_at hl 0 rfl) ?_
  refine lv_iconst (v := 0) hx hb (dt_of tkX11_sets_k63 2 rfl) (by decide) ?_
  refine va_put (D := (dC, dI)) (ci := 11) (v := .int 0) (ty := .int) (C := RX11) (T := TX11) (N := 55) hx hb hts ui_X11_sets_X11 tyX11 tyX11_ok nmX11 hown hK hP hD hS 0 rfl rfl 29 (by decide) (hts _ uw_X11_sets_f179) (fun _ h9 => h9) rfl (by decide +kernel) rfl rfl (Nat.le_of_ble_eq_true rfl) (dt_of tkX11_sets_k63 3 rfl) (fun H locs hP hD hS => ?_)
  have hP : va_P (dC, dI) vwCl (wd09_17 a0 jaX jaF jaD ja7 jby jbf jaM jaY jap jaK jeR je2 jfM jdO ja5 jb9 jbJ jg3 jge jg8 jg3 jge jg8 jaw jaI jaZ jaH jaS jan 0 jaE jar jaL jah jhQ jcn jaz jaG jab jaT z0_s jaq jai jdj jh9 jat jau jav jaj jas jaJ jak jad jay ji3 jeR cyI ji8 ja5 cyI f1 je2 cyI ji9 jb9 cyI f2 jfM cyI jjB jbJ cyI f3 jdj cyI jgu jaT cyI jb0 jdO cyI jil) H := hP
  have hD : va_D A (wd09_17 a0 jaX jaF jaD ja7 jby jbf jaM jaY jap jaK jeR je2 jfM jdO ja5 jb9 jbJ jg3 jge jg8 jg3 jge jg8 jaw jaI jaZ jaH jaS jan 0 jaE jar jaL jah jhQ jcn jaz jaG jab jaT z0_s jaq jai jdj jh9 jat jau jav jaj jas jaJ jak jad jay ji3 jeR cyI ji8 ja5 cyI f1 je2 cyI ji9 jb9 cyI f2 jfM cyI jjB jbJ cyI f3 jdj cyI jgu jaT cyI jb0 jdO cyI jil) := hD
  refine lv_aload_n hx hb (dt_of tkX11_sets_k63 4 rfl) rfl (lv_at hl 0 rfl) ?_
  refine lv_iconst (v := 0) hx hb (dt_of tkX11_sets_k63 5 rfl) (by decide) ?_
  refine va_put (D := (dC, dI)) (ci := 11) (v := .int 0) (ty := .int) (C := RX11) (T := TX11) (N := 55) hx hb hts ui_X11_sets_X11 tyX11 tyX11_ok nmX11 hown hK hP hD hS 0 rfl rfl 44 (by decide) (hts _ uw_X11_sets_f182) (fun _ h9 => h9) rfl (by decide +kernel) rfl rfl (Nat.le_of_ble_eq_true rfl) (dt_of tkX11_sets_k63 6 rfl) (fun H locs hP hD hS => ?_)
  have hP : va_P (dC, dI) vwCl (wd09_17 a0 jaX jaF jaD ja7 jby jbf jaM jaY jap jaK jeR je2 jfM jdO ja5 jb9 jbJ jg3 jge jg8 jg3 jge jg8 jaw jaI jaZ jaH jaS jan 0 jaE jar jaL jah jhQ jcn jaz jaG jab jaT z0_s jaq jai jdj 0 jat jau jav jaj jas jaJ jak jad jay ji3 jeR cyI ji8 ja5 cyI f1 je2 cyI ji9 jb9 cyI f2 jfM cyI jjB jbJ cyI f3 jdj cyI jgu jaT cyI jb0 jdO cyI jil) H := hP
  have hD : va_D A (wd09_17 a0 jaX jaF jaD ja7 jby jbf jaM jaY jap jaK jeR je2 jfM jdO ja5 jb9 jbJ jg3 jge jg8 jg3 jge jg8 jaw jaI jaZ jaH jaS jan 0 jaE jar jaL jah jhQ jcn jaz jaG jab jaT z0_s jaq jai jdj 0 jat jau jav jaj jas jaJ jak jad jay ji3 jeR cyI ji8 ja5 cyI f1 je2 cyI ji9 jb9 cyI f2 jfM cyI jjB jbJ cyI f3 jdj cyI jgu jaT cyI jb0 jdO cyI jil) := hD
  refine lv_aload_n hx hb (dt_of tkX11_sets_k63 7 rfl) rfl (lv_at hl 0 rfl) ?_
  refine lv_iconst (v := 0) hx hb (dt_of tkX11_sets_k63 8 rfl) (by decide) ?_
  refine va_put (D := (dC, dI)) (ci := 11) (v := .int 0) (ty := .int) (C := RX11) (T := TX11) (N := 55) hx hb hts ui_X11_sets_X11 tyX11 tyX11_ok nmX11 hown hK hP hD hS 0 rfl rfl 34 (by decide) (hts _ uw_X11_sets_f185) (fun _ h9 => h9) rfl (by decide +kernel) rfl rfl (Nat.le_of_ble_eq_true rfl) (dt_of tkX11_sets_k63 9 rfl) (fun H locs hP hD hS => ?_)
  have hP : va_P (dC, dI) vwCl (wd09_17 a0 jaX jaF jaD ja7 jby jbf jaM jaY jap jaK jeR je2 jfM jdO ja5 jb9 jbJ jg3 jge jg8 jg3 jge jg8 jaw jaI jaZ jaH jaS jan 0 jaE jar jaL jah 0 jcn jaz jaG jab jaT z0_s jaq jai jdj 0 jat jau jav jaj jas jaJ jak jad jay ji3 jeR cyI ji8 ja5 cyI f1 je2 cyI ji9 jb9 cyI f2 jfM cyI jjB jbJ cyI f3 jdj cyI jgu jaT cyI jb0 jdO cyI jil) H := hP
  have hD : va_D A (wd09_17 a0 jaX jaF jaD ja7 jby jbf jaM jaY jap jaK jeR je2 jfM jdO ja5 jb9 jbJ jg3 jge jg8 jg3 jge jg8 jaw jaI jaZ jaH jaS jan 0 jaE jar jaL jah 0 jcn jaz jaG jab jaT z0_s jaq jai jdj 0 jat jau jav jaj jas jaJ jak jad jay ji3 jeR cyI ji8 ja5 cyI f1 je2 cyI ji9 jb9 cyI f2 jfM cyI jjB jbJ cyI f3 jdj cyI jgu jaT cyI jb0 jdO cyI jil) := hD
  refine lv_aload_n hx hb (dt_of tkX11_sets_k63 10 rfl) rfl (lv_at hl 0 rfl) ?_
  refine lv_iconst (v := 0) hx hb (dt_of tkX11_sets_k63 11 rfl) (by decide) ?_
  refine va_put (D := (dC, dI)) (ci := 11) (v := .int 0) (ty := .int) (C := RX11) (T := TX11) (N := 55) hx hb hts ui_X11_sets_X11 tyX11 tyX11_ok nmX11 hown hK hP hD hS 0 rfl rfl 54 (by decide) (hts _ uw_X11_sets_f188) (fun _ h9 => h9) rfl (by decide +kernel) rfl rfl (Nat.le_of_ble_eq_true rfl) (dt_of tkX11_sets_k63 12 rfl) (fun H locs hP hD hS => ?_)
  have hP : va_P (dC, dI) vwCl (wd09_17 a0 jaX jaF jaD ja7 jby jbf jaM jaY jap jaK jeR je2 jfM jdO ja5 jb9 jbJ jg3 jge jg8 jg3 jge jg8 jaw jaI jaZ jaH jaS jan 0 jaE jar jaL jah 0 jcn jaz jaG jab jaT z0_s jaq jai jdj 0 jat jau jav jaj jas jaJ jak jad jay 0 jeR cyI ji8 ja5 cyI f1 je2 cyI ji9 jb9 cyI f2 jfM cyI jjB jbJ cyI f3 jdj cyI jgu jaT cyI jb0 jdO cyI jil) H := hP
  have hD : va_D A (wd09_17 a0 jaX jaF jaD ja7 jby jbf jaM jaY jap jaK jeR je2 jfM jdO ja5 jb9 jbJ jg3 jge jg8 jg3 jge jg8 jaw jaI jaZ jaH jaS jan 0 jaE jar jaL jah 0 jcn jaz jaG jab jaT z0_s jaq jai jdj 0 jat jau jav jaj jas jaJ jak jad jay 0 jeR cyI ji8 ja5 cyI f1 je2 cyI ji9 jb9 cyI f2 jfM cyI jjB jbJ cyI f3 jdj cyI jgu jaT cyI jb0 jdO cyI jil) := hD
  refine lv_aload_n hx hb (dt_of tkX11_sets_k63 13 rfl) rfl (lv_at hl 0 rfl) ?_
  refine lv_iconst (v := 0) hx hb (dt_of tkX11_sets_k63 14 rfl) (by decide) ?_
  refine va_put (D := (dC, dI)) (ci := 11) (v := .int 0) (ty := .int) (C := RX11) (T := TX11) (N := 55) hx hb hts ui_X11_sets_X11 tyX11 tyX11_ok nmX11 hown hK hP hD hS 0 rfl rfl 35 (by decide) (hts _ uw_X11_sets_f191) (fun _ h9 => h9) rfl (by decide +kernel) rfl rfl (Nat.le_of_ble_eq_true rfl) (dt_of tkX11_sets_k63 15 rfl) (fun H locs hP hD hS => ?_)
  have hP : va_P (dC, dI) vwCl (wd09_17 a0 jaX jaF jaD ja7 jby jbf jaM jaY jap jaK jeR je2 jfM jdO ja5 jb9 jbJ jg3 jge jg8 jg3 jge jg8 jaw jaI jaZ jaH jaS jan 0 jaE jar jaL jah 0 0 jaz jaG jab jaT z0_s jaq jai jdj 0 jat jau jav jaj jas jaJ jak jad jay 0 jeR cyI ji8 ja5 cyI f1 je2 cyI ji9 jb9 cyI f2 jfM cyI jjB jbJ cyI f3 jdj cyI jgu jaT cyI jb0 jdO cyI jil) H := hP
  have hD : va_D A (wd09_17 a0 jaX jaF jaD ja7 jby jbf jaM jaY jap jaK jeR je2 jfM jdO ja5 jb9 jbJ jg3 jge jg8 jg3 jge jg8 jaw jaI jaZ jaH jaS jan 0 jaE jar jaL jah 0 0 jaz jaG jab jaT z0_s jaq jai jdj 0 jat jau jav jaj jas jaJ jak jad jay 0 jeR cyI ji8 ja5 cyI f1 je2 cyI ji9 jb9 cyI f2 jfM cyI jjB jbJ cyI f3 jdj cyI jgu jaT cyI jb0 jdO cyI jil) := hD
  refine lv_iconst (v := 0) hx hb (dt_of tkX11_sets_k91 0 rfl) (by decide) ?_
  refine lv_istore_n (lv' := [(1, .int 0), (0, .ref a0)]) hx hb (dt_of tkX11_sets_k91 1 rfl) rfl hl (by decide) rfl (fun ls hl => ?_)
  obtain ⟨n9, hw⟩ := hw
  exact kl_X11_sets_93 dC dI cyB cyI cyJ cyP a0 jeR ja5 je2 jb9 jfM jbJ jdj jaT jdO jaX jaF jaD ja7 jby jbf jaM jaY jap jaK jaw jaI jaZ jaH jaS jan jaE jar jaL jah jaz jaG jab z0_s jaq jai jat jau jav jaj jas jaJ jak jad jay jg3 jge jg8 ji8 ji9 jjB jil Q  C0 n9 _ _ _ jg3 jge jg8 f1 f2 f3 0 0 0 0 0 jgu jb0 0 hP hD hS (lv_sub hl [1, 0] rfl) hw
theorem ui_X11_draws_X11 : ∀ w ∈ u_ws RX11 TX11 55, w ∈ wsX11_draws := uiM mbX11_draws euX11 (by decide +kernel)
theorem uw_X11_draws_f444 : (.fieldLink RX11 444 "MarchHaresModel" "seedNow" "I" : Cond) ∈ wsX11_draws := mbX11_draws 4111 (by decide +kernel)
theorem uw_X11_draws_k447 : (.constant RX11 447 (1103515245) : Cond) ∈ wsX11_draws := mbX11_draws 4116 (by decide +kernel)
set_option maxHeartbeats 4000000 in
set_option maxRecDepth 100000 in
theorem ck_X11_draws (l : Launch) (dC : Nat → ClassId) (dI : Nat → Nat → Nat) (cyB cyI cyJ cyP : ClassId) (a0 sz : Nat) (jaX jaF jaD ja7 jby jbf jaM jaY jap jaK jal jam jax jao ja6 jaV ja8 jae jag jaf ja0 ja4 jaP jaw jaI jaZ jaH jaS jan jaU jaE jar jaL jah jaB jaa jaz jaG jab ja2 z0_s jaq jai jaO jaA jat jau jav jaj jas jaJ jad jay jac : Value)  (jjo p1 : Int32) {Q : Int32 → Int32 → Prop} (hw : wq_X11_draws  jjo p1 Q) : Met l yX11_draws wsX11_draws ({ frames := 0, cells := 0, slots := 0, locals := 0 }) (va_Pc [.ref a0, .int p1] (cPc (dC, dI) (kT cyB cyI cyJ cyP) (wd09_21 a0 jaX jaF jaD ja7 jby jbf jaM jaY jap jaK jal jam jax jao ja6 jaV ja8 jae jag jaf ja0 ja4 jaP jaw jaI jaZ jaH jaS jan jaU jaE jar jaL jah jaB jaa jaz jaG jab ja2 z0_s jaq jai jaO jaA jat jau jav jaj jas jaJ jjo jad jay jac) sz)) (va_Qi (fun (r u : Int32) => Q r u) (cB (dC, dI) (kT cyB cyI cyJ cyP) (va_A (wd09_21 a0 jaX jaF jaD ja7 jby jbf jaM jaY jap jaK jal jam jax jao ja6 jaV ja8 jae jag jaf ja0 ja4 jaP jaw jaI jaZ jaH jaS jan jaU jaE jar jaL jah jaB jaa jaz jaG jab ja2 z0_s jaq jai jaO jaA jat jau jav jaj jas jaJ jjo jad jay jac) sz) (fun u : Int32 => ((wd09_21 a0 jaX jaF jaD ja7 jby jbf jaM jaY jap jaK jal jam jax jao ja6 jaV ja8 jae jag jaf ja0 ja4 jaP jaw jaI jaZ jaH jaS jan jaU jaE jar jaL jah jaB jaa jaz jaG jab ja2 z0_s jaq jai jaO jaA jat jau jav jaj jas jaJ u jad jay jac) : va_W))) (va_A (wd09_21 a0 jaX jaF jaD ja7 jby jbf jaM jaY jap jaK jal jam jax jao ja6 jaV ja8 jae jag jaf ja0 ja4 jaP jaw jaI jaZ jaH jaS jan jaU jaE jar jaL jah jaB jaa jaz jaG jab ja2 z0_s jaq jai jaO jaA jat jau jav jaj jas jaJ jjo jad jay jac) sz)) 0 0 (va_A (wd09_21 a0 jaX jaF jaD ja7 jby jbf jaM jaY jap jaK jal jam jax jao ja6 jaV ja8 jae jag jaf ja0 ja4 jaP jaw jaI jaZ jaH jaS jan jaU jaE jar jaL jah jaB jaa jaz jaG jab ja2 z0_s jaq jai jaO jaA jat jau jav jaj jas jaJ jjo jad jay jac) sz) := by
  refine Met.ofW (cc := cX11_draws) (maxL := 2) (ret := (some .int)) (by decide) rfl ?_
  intro p e s m args below meth c s₁ B hml hv
  obtain ⟨rfl, hsz, hP, hK, hD0, hNw⟩ := hv
  have hx := B.exec
  have hb := B.bytes
  have hr := B.returns
  have hts := atoms_spec (ws := wsX11_draws) B.pre
  have hown : s.vm.findClass RX11 = some m.cls := findClass_of_methodNamed B.named
  have hlocks := B.notSynchronized
  subst hsz
  have hD := hD0.self (sz := s.heap.size)
  generalize hAe : va_A (wd09_21 a0 jaX jaF jaD ja7 jby jbf jaM jaY jap jaK jal jam jax jao ja6 jaV ja8 jae jag jaf ja0 ja4 jaP jaw jaI jaZ jaH jaS jan jaU jaE jar jaL jah jaB jaa jaz jaG jab ja2 z0_s jaq jai jaO jaA jat jau jav jaj jas jaJ jjo jad jay jac) s.heap.size = A at hD ⊢
  have hA : ∀ q : Nat, s.heap.size ≤ q → A q := fun q h => by rw [← hAe]; exact Or.inr h
  have hS : va_S A s.heap s.heap [] := va_S.rf
  have hP : va_P (dC, dI) vwCl (wd09_21 a0 jaX jaF jaD ja7 jby jbf jaM jaY jap jaK jal jam jax jao ja6 jaV ja8 jae jag jaf ja0 ja4 jaP jaw jaI jaZ jaH jaS jan jaU jaE jar jaL jah jaB jaa jaz jaG jab ja2 z0_s jaq jai jaO jaA jat jau jav jaj jas jaJ jjo jad jay jac) s.heap := hP
  have hl := lv_entry ([.ref a0, .int p1]) (n := 2) (Nat.le_of_ble_eq_true rfl)
  rw [lg_entry_eq]
  generalize (lg_sl ([.ref a0, .int p1]) ++ List.replicate (2 - (lg_sl ([.ref a0, .int p1])).length) Slot.unset).toArray = ls at hl ⊢
  have hl : lv_has ls 2 [(0, .ref a0), (1, .int p1)] := hl
  have C0 : cfx p s m _ meth c cX11_draws (some .int) wsX11_draws RX11 2 A (dC, dI) (kT cyB cyI cyJ cyP) := ⟨hx, hb, hr, hts, hown, hlocks, hml, hA, hK, hNw⟩
  clear hAe
  obtain ⟨H, hH⟩ : ∃ H, H = s.heap := ⟨_, rfl⟩
  rw [← hH] at hP ⊢
  have hS : va_S A s.heap H [] := by rw [hH]; exact va_S.rf
  have hS := hS
  refine lv_aload_n hx hb (dt_of tkX11_draws_k0 0 rfl) rfl (lv_at hl 0 rfl) ?_
  refine lv_aload_n hx hb (dt_of tkX11_draws_k0 1 rfl) rfl (lv_at hl 0 rfl) ?_
  refine va_get (D := (dC, dI)) (ci := 11) (v := .int jjo) (C := RX11) (T := TX11) (N := 55) hx hb hts ui_X11_draws_X11 hown hK hP 0 rfl rfl 51 (by decide) (hts _ uw_X11_draws_f444) (fun _ h9 => h9) rfl (dt_of tkX11_draws_k0 2 rfl) ?_
  refine lv_ldcw (v := 1103515245) hx hb hown (hts _ uw_X11_draws_k447) (dt_of tkX11_draws_k0 3 rfl) ?_
  refine lv_imul hx hb (dt_of tkX11_draws_k0 4 rfl) ?_
  refine lv_topi (fun x1 ex1 => ?_)
  have hw := hw x1 ex1
  refine lv_sipush (v := 12345) hx hb (dt_of tkX11_draws_k0 5 rfl) (by decide) ?_
  refine lv_iadd hx hb (dt_of tkX11_draws_k0 6 rfl) ?_
  refine lv_topi (fun x2 ex2 => ?_)
  have hw := hw x2 ex2
  refine va_put (D := (dC, dI)) (ci := 11) (v := .int x2) (ty := .int) (C := RX11) (T := TX11) (N := 55) hx hb hts ui_X11_draws_X11 tyX11 tyX11_ok nmX11 hown hK hP hD hS 0 rfl rfl 51 (by decide) (hts _ uw_X11_draws_f444) (fun _ h9 => h9) rfl (by decide +kernel) rfl rfl (Nat.le_of_ble_eq_true rfl) (dt_of tkX11_draws_k0 7 rfl) (fun H locs hP hD hS => ?_)
  have hP : va_P (dC, dI) vwCl (wd09_21 a0 jaX jaF jaD ja7 jby jbf jaM jaY jap jaK jal jam jax jao ja6 jaV ja8 jae jag jaf ja0 ja4 jaP jaw jaI jaZ jaH jaS jan jaU jaE jar jaL jah jaB jaa jaz jaG jab ja2 z0_s jaq jai jaO jaA jat jau jav jaj jas jaJ x2 jad jay jac) H := hP
  have hD : va_D A (wd09_21 a0 jaX jaF jaD ja7 jby jbf jaM jaY jap jaK jal jam jax jao ja6 jaV ja8 jae jag jaf ja0 ja4 jaP jaw jaI jaZ jaH jaS jan jaU jaE jar jaL jah jaB jaa jaz jaG jab ja2 z0_s jaq jai jaO jaA jat jau jav jaj jas jaJ x2 jad jay jac) := hD
  refine lv_aload_n hx hb (dt_of tkX11_draws_k0 8 rfl) rfl (lv_at hl 0 rfl) ?_
  refine va_get (D := (dC, dI)) (ci := 11) (v := .int x2) (C := RX11) (T := TX11) (N := 55) hx hb hts ui_X11_draws_X11 hown hK hP 0 rfl rfl 51 (by decide) (hts _ uw_X11_draws_f444) (fun _ h9 => h9) rfl (dt_of tkX11_draws_k0 9 rfl) ?_
  refine lv_bipush (v := 16) hx hb (dt_of tkX11_draws_k0 10 rfl) (by decide) ?_
  refine lv_ishr hx hb (dt_of tkX11_draws_k0 11 rfl) ?_
  refine lv_sipush (v := 32767) hx hb (dt_of tkX11_draws_k0 12 rfl) (by decide) ?_
  refine lv_iand hx hb (dt_of tkX11_draws_k0 13 rfl) ?_
  refine lv_topi (fun x3 ex3 => ?_)
  have hw := hw x3 ex3
  refine lv_iload_n hx hb (dt_of tkX11_draws_k0 14 rfl) rfl (lv_at hl 1 rfl) ?_
  obtain ⟨hz9, hw⟩ := hw
  refine lv_irem hx hb (dt_of tkX11_draws_k0 15 rfl) hz9 ?_
  refine lv_topi (fun x4 ex4 => ?_)
  have hw := hw x4 ex4
  exact ((W.iret (v := x4) hx hb hr (fun t ht hW => ⟨⟨x4, (x2), rfl, hw, by rw [ht]; exact hP, va_K.moved hW.alike hK, hD⟩, hS.F ht⟩) hS.2.2 (dt_of tkX11_draws_k29 0 rfl)))
theorem ui_X11_emit_X11 : ∀ w ∈ u_ws RX11 TX11 55, w ∈ wsX11_emit := uiM mbX11_emit euX11 (by decide +kernel)
theorem uw_X11_emit_f246 : (.fieldLink RX11 246 "MarchHaresModel" "newCodes" "I" : Cond) ∈ wsX11_emit := mbX11_emit 1481 (by decide +kernel)
theorem uw_X11_emit_f44 : (.fieldLink RX11 44 "MarchHaresModel" "newCode" "[I" : Cond) ∈ wsX11_emit := mbX11_emit 448 (by decide +kernel)
theorem uw_X11_emit_f47 : (.fieldLink RX11 47 "MarchHaresModel" "newOf" "[I" : Cond) ∈ wsX11_emit := mbX11_emit 449 (by decide +kernel)
set_option maxHeartbeats 4000000 in
set_option maxRecDepth 100000 in
theorem ck_X11_emit (l : Launch) (dC : Nat → ClassId) (dI : Nat → Nat → Nat) (cyB cyI cyJ cyP : ClassId) (a0 jbP jco sz : Nat) (jaX jaF jaD ja7 jby jaM jaY jap jaK jal jam jax jao ja6 jaV ja8 jae jag jaf ja0 ja4 jaP jaZ jaH jaS jaU jaE jar jaL jah jaB jaa jaz jaG jab ja2 z0_s jaq jai jaO jaA jat jau jav jaj jas jaJ jak jad jay jac : Value) (jb8 : Int32) (jeD jf5 : Nat → Int32) (jcQ p1 p2 : Int32) {Q : (Nat → Int32) → (Nat → Int32) → Int32 → Prop} (hw : wq_X11_emit jb8 jeD jf5 jcQ p1 p2 Q) : Met l yX11_emit wsX11_emit ({ frames := 1, cells := 0, slots := 0, locals := 20 }) (va_Pc [.ref a0, .int p1, .int p2] (cPc (dC, dI) (kT cyB cyI cyJ cyP) (wd09_22 a0 jaX jaF jaD ja7 jby jb8 jaM jaY jap jaK jal jam jax jao ja6 jaV ja8 jae jag jaf ja0 ja4 jaP jbP jco jaZ jaH jaS jcQ jaU jaE jar jaL jah jaB jaa jaz jaG jab ja2 z0_s jaq jai jaO jaA jat jau jav jaj jas jaJ jak jad jay jac jbP cyI jeD jco cyI jf5) sz)) (va_Qv (fun (u : (Nat → Int32) × (Nat → Int32) × Int32) => Q u.1 u.2.1 u.2.2) (cB (dC, dI) (kT cyB cyI cyJ cyP) (va_A (wd09_22 a0 jaX jaF jaD ja7 jby jb8 jaM jaY jap jaK jal jam jax jao ja6 jaV ja8 jae jag jaf ja0 ja4 jaP jbP jco jaZ jaH jaS jcQ jaU jaE jar jaL jah jaB jaa jaz jaG jab ja2 z0_s jaq jai jaO jaA jat jau jav jaj jas jaJ jak jad jay jac jbP cyI jeD jco cyI jf5) sz) (fun u : (Nat → Int32) × (Nat → Int32) × Int32 => ((wd09_22 a0 jaX jaF jaD ja7 jby jb8 jaM jaY jap jaK jal jam jax jao ja6 jaV ja8 jae jag jaf ja0 ja4 jaP jbP jco jaZ jaH jaS u.2.2 jaU jaE jar jaL jah jaB jaa jaz jaG jab ja2 z0_s jaq jai jaO jaA jat jau jav jaj jas jaJ jak jad jay jac jbP cyI u.1 jco cyI u.2.1) : va_W))) (va_A (wd09_22 a0 jaX jaF jaD ja7 jby jb8 jaM jaY jap jaK jal jam jax jao ja6 jaV ja8 jae jag jaf ja0 ja4 jaP jbP jco jaZ jaH jaS jcQ jaU jaE jar jaL jah jaB jaa jaz jaG jab ja2 z0_s jaq jai jaO jaA jat jau jav jaj jas jaJ jak jad jay jac jbP cyI jeD jco cyI jf5) sz)) 0 0 (va_A (wd09_22 a0 jaX jaF jaD ja7 jby jb8 jaM jaY jap jaK jal jam jax jao ja6 jaV ja8 jae jag jaf ja0 ja4 jaP jbP jco jaZ jaH jaS jcQ jaU jaE jar jaL jah jaB jaa jaz jaG jab ja2 z0_s jaq jai jaO jaA jat jau jav jaj jas jaJ jak jad jay jac jbP cyI jeD jco cyI jf5) sz) := by
  refine Met.ofW (cc := cX11_emit) (maxL := 3) (ret := none) (by decide) rfl ?_
  intro p e s m args below meth c s₁ B hml hv
  obtain ⟨rfl, hsz, hP, hK, hD0, hNw⟩ := hv
  have hx := B.exec
  have hb := B.bytes
  have hr := B.returns
  have hts := atoms_spec (ws := wsX11_emit) B.pre
  have hown : s.vm.findClass RX11 = some m.cls := findClass_of_methodNamed B.named
  have hlocks := B.notSynchronized
  subst hsz
  have hD := hD0.self (sz := s.heap.size)
  generalize hAe : va_A (wd09_22 a0 jaX jaF jaD ja7 jby jb8 jaM jaY jap jaK jal jam jax jao ja6 jaV ja8 jae jag jaf ja0 ja4 jaP jbP jco jaZ jaH jaS jcQ jaU jaE jar jaL jah jaB jaa jaz jaG jab ja2 z0_s jaq jai jaO jaA jat jau jav jaj jas jaJ jak jad jay jac jbP cyI jeD jco cyI jf5) s.heap.size = A at hD ⊢
  have hA : ∀ q : Nat, s.heap.size ≤ q → A q := fun q h => by rw [← hAe]; exact Or.inr h
  have hS : va_S A s.heap s.heap [] := va_S.rf
  have hP : va_P (dC, dI) vwCl (wd09_22 a0 jaX jaF jaD ja7 jby jb8 jaM jaY jap jaK jal jam jax jao ja6 jaV ja8 jae jag jaf ja0 ja4 jaP jbP jco jaZ jaH jaS jcQ jaU jaE jar jaL jah jaB jaa jaz jaG jab ja2 z0_s jaq jai jaO jaA jat jau jav jaj jas jaJ jak jad jay jac jbP cyI jeD jco cyI jf5) s.heap := hP
  have hl := lv_entry ([.ref a0, .int p1, .int p2]) (n := 3) (Nat.le_of_ble_eq_true rfl)
  rw [lg_entry_eq]
  generalize (lg_sl ([.ref a0, .int p1, .int p2]) ++ List.replicate (3 - (lg_sl ([.ref a0, .int p1, .int p2])).length) Slot.unset).toArray = ls at hl ⊢
  have hl : lv_has ls 3 [(0, .ref a0), (1, .int p1), (2, .int p2)] := hl
  have C0 : cfx p s m _ meth c cX11_emit none wsX11_emit RX11 3 A (dC, dI) (kT cyB cyI cyJ cyP) := ⟨hx, hb, hr, hts, hown, hlocks, hml, hA, hK, hNw⟩
  clear hAe
  obtain ⟨H, hH⟩ : ∃ H, H = s.heap := ⟨_, rfl⟩
  rw [← hH] at hP ⊢
  have hS : va_S A s.heap H [] := by rw [hH]; exact va_S.rf
  have hS := hS
  refine lv_aload_n hx hb (dt_of tkX11_emit_k0 0 rfl) rfl (lv_at hl 0 rfl) ?_
  obtain ⟨hCc, hPc, hDc, hFc⟩ := va_pick (ws' := (wd09_23 a0 jaX jaF jaD ja7 jby jb8 jaM jaY jap jaK jal jam jax jao ja6 jaV ja8 jae jag jaf ja0 ja4 jaP jbP jco jaZ jaH jaS jcQ jaU jaE jar jaL jah jaB jaa jaz jaG jab ja2 z0_s jaq jai jaO jaA jat jau jav jaj jas jaJ jak jad jay jac)) hP hD hS hA [0] (by decide +kernel) rfl
  refine va_calli (va_runV (As := []) (rest := []) ⟨hx, hb, hml, hown, hts⟩ (ck_X11_fine l dC dI cyB cyI cyJ cyP a0 H.size (jaX) (jaF) (jaD) (ja7) (jby) (jaM) (jaY) (jap) (jaK) (jal) (jam) (jax) (jao) (ja6) (jaV) (ja8) (jae) (jag) (jaf) (ja0) (ja4) (jaP) (.ref jbP) (.ref jco) (jaZ) (jaH) (jaS) (.int jcQ) (jaU) (jaE) (jar) (jaL) (jah) (jaB) (jaa) (jaz) (jaG) (jab) (ja2) (z0_s) (jaq) (jai) (jaO) (jaA) (jat) (jau) (jav) (jaj) (jas) (jaJ) (jak) (jad) (jay) (jac) jb8   hw) (cwV 0 hts gX11_emit_X11_fine rfl rfl rfl (by decide +kernel) ⟨Nat.le_of_ble_eq_true rfl, Nat.le_of_ble_eq_true rfl⟩) ⟨cPc_blind, va_recv (q := (RX11, TX11, 55)) hK hPc (ci := 11) (q0 := 0) rfl rfl, cPc_pre hPc hK hDc hNw⟩ rfl rfl hl.1 rfl (lv_room (Nat.le_of_ble_eq_true rfl)) (dt_of tkX11_emit_k0 1 rfl) ⟨Nat.le_of_ble_eq_true rfl, Nat.le_of_ble_eq_true rfl⟩) hS (fun q _ h => hFc q h) hFc (fun r1 u t H1 locs ht hvm hw hB hz1 hk1 hS => ?_)
  obtain ⟨hP1, hK1, hD1⟩ := hB
  rw [ht] at hP1
  obtain ⟨hP, hD⟩ := va_joinN (wr := [(jbP, .inl (cyI, 150, .inl jeD)), (jco, .inl (cyI, 150, .inl jf5))]) (w1 := (wd09_23 a0 jaX jaF jaD ja7 jby jb8 jaM jaY jap jaK jal jam jax jao ja6 jaV ja8 jae jag jaf ja0 ja4 jaP jbP jco jaZ jaH jaS jcQ jaU jaE jar jaL jah jaB jaa jaz jaG jab ja2 z0_s jaq jai jaO jaA jat jau jav jaj jas jaJ jak jad jay jac)) (wn := (wd09_22 a0 jaX jaF jaD ja7 jby jb8 jaM jaY jap jaK jal jam jax jao ja6 jaV ja8 jae jag jaf ja0 ja4 jaP jbP jco jaZ jaH jaS jcQ jaU jaE jar jaL jah jaB jaa jaz jaG jab ja2 z0_s jaq jai jaO jaA jat jau jav jaj jas jaJ jak jad jay jac jbP cyI jeD jco cyI jf5)) hP hD [0] [1, 2] [2, 0, 1] hCc rfl (by decide +kernel) (by decide +kernel) (by decide +kernel) rfl hk1 hFc hP1 hD1
  generalize H1 = H at hP hS ⊢
  refine lv_if_ne (tgt := 8) hx hb (dt_of tkX11_emit_k0 2 rfl) (by decide) (fun c2 => ?_) (fun c2 => ?_)
  · have hw := hw.1 c2
    refine lv_aload_n hx hb (dt_of tkX11_emit_k0 4 rfl) rfl (lv_at hl 0 rfl) ?_
    refine va_get (D := (dC, dI)) (ci := 11) (v := .ref jbP) (C := RX11) (T := TX11) (N := 55) hx hb hts ui_X11_emit_X11 hown hK hP 0 rfl rfl 23 (by decide) (hts _ uw_X11_emit_f44) (fun _ h9 => h9) rfl (dt_of tkX11_emit_k0 5 rfl) ?_
    refine lv_aload_n hx hb (dt_of tkX11_emit_k0 6 rfl) rfl (lv_at hl 0 rfl) ?_
    refine va_get (D := (dC, dI)) (ci := 11) (v := .int jcQ) (C := RX11) (T := TX11) (N := 55) hx hb hts ui_X11_emit_X11 hown hK hP 0 rfl rfl 28 (by decide) (hts _ uw_X11_emit_f246) (fun _ h9 => h9) rfl (dt_of tkX11_emit_k0 7 rfl) ?_
    refine lv_iload_n hx hb (dt_of tkX11_emit_k0 8 rfl) rfl (lv_at hl 1 rfl) ?_
    obtain ⟨hi9, hw⟩ := hw
    refine va_iast hx hb hK hP hD hS 1 1 rfl rfl hi9 (dt_of tkX11_emit_k0 9 rfl) (fun H locs hP hD hS => ?_)
    obtain ⟨f3, ef3⟩ : ∃ y : Nat → Int32, y = upd jeD jcQ.toNatClampNeg p1 := ⟨_, rfl⟩
    have hw := hw f3 ef3
    have hP : va_P (dC, dI) vwCl (wd09_22 a0 jaX jaF jaD ja7 jby jb8 jaM jaY jap jaK jal jam jax jao ja6 jaV ja8 jae jag jaf ja0 ja4 jaP jbP jco jaZ jaH jaS jcQ jaU jaE jar jaL jah jaB jaa jaz jaG jab ja2 z0_s jaq jai jaO jaA jat jau jav jaj jas jaJ jak jad jay jac jbP cyI f3 jco cyI jf5) H := by rw [ef3]; exact hP
    have hD : va_D A (wd09_22 a0 jaX jaF jaD ja7 jby jb8 jaM jaY jap jaK jal jam jax jao ja6 jaV ja8 jae jag jaf ja0 ja4 jaP jbP jco jaZ jaH jaS jcQ jaU jaE jar jaL jah jaB jaa jaz jaG jab ja2 z0_s jaq jai jaO jaA jat jau jav jaj jas jaJ jak jad jay jac jbP cyI f3 jco cyI jf5) := by rw [ef3]; exact hD
    refine lv_aload_n hx hb (dt_of tkX11_emit_k0 10 rfl) rfl (lv_at hl 0 rfl) ?_
    refine va_get (D := (dC, dI)) (ci := 11) (v := .ref jco) (C := RX11) (T := TX11) (N := 55) hx hb hts ui_X11_emit_X11 hown hK hP 0 rfl rfl 24 (by decide) (hts _ uw_X11_emit_f47) (fun _ h9 => h9) rfl (dt_of tkX11_emit_k0 11 rfl) ?_
    refine lv_aload_n hx hb (dt_of tkX11_emit_k0 12 rfl) rfl (lv_at hl 0 rfl) ?_
    refine va_get (D := (dC, dI)) (ci := 11) (v := .int jcQ) (C := RX11) (T := TX11) (N := 55) hx hb hts ui_X11_emit_X11 hown hK hP 0 rfl rfl 28 (by decide) (hts _ uw_X11_emit_f246) (fun _ h9 => h9) rfl (dt_of tkX11_emit_k0 13 rfl) ?_
    refine lv_iload_n hx hb (dt_of tkX11_emit_k0 14 rfl) rfl (lv_at hl 2 rfl) ?_
    obtain ⟨hi9, hw⟩ := hw
    refine va_iast hx hb hK hP hD hS 2 1 rfl rfl hi9 (dt_of tkX11_emit_k0 15 rfl) (fun H locs hP hD hS => ?_)
    obtain ⟨f4, ef4⟩ : ∃ y : Nat → Int32, y = upd jf5 jcQ.toNatClampNeg p2 := ⟨_, rfl⟩
    have hw := hw f4 ef4
    have hP : va_P (dC, dI) vwCl (wd09_22 a0 jaX jaF jaD ja7 jby jb8 jaM jaY jap jaK jal jam jax jao ja6 jaV ja8 jae jag jaf ja0 ja4 jaP jbP jco jaZ jaH jaS jcQ jaU jaE jar jaL jah jaB jaa jaz jaG jab ja2 z0_s jaq jai jaO jaA jat jau jav jaj jas jaJ jak jad jay jac jbP cyI f3 jco cyI f4) H := by rw [ef4]; exact hP
    have hD : va_D A (wd09_22 a0 jaX jaF jaD ja7 jby jb8 jaM jaY jap jaK jal jam jax jao ja6 jaV ja8 jae jag jaf ja0 ja4 jaP jbP jco jaZ jaH jaS jcQ jaU jaE jar jaL jah jaB jaa jaz jaG jab ja2 z0_s jaq jai jaO jaA jat jau jav jaj jas jaJ jak jad jay jac jbP cyI f3 jco cyI f4) := by rw [ef4]; exact hD
    refine lv_aload_n hx hb (dt_of tkX11_emit_k28 0 rfl) rfl (lv_at hl 0 rfl) ?_
    refine lv_dup hx hb (dt_of tkX11_emit_k28 1 rfl) rfl ?_
    refine va_get (D := (dC, dI)) (ci := 11) (v := .int jcQ) (C := RX11) (T := TX11) (N := 55) hx hb hts ui_X11_emit_X11 hown hK hP 0 rfl rfl 28 (by decide) (hts _ uw_X11_emit_f246) (fun _ h9 => h9) rfl (dt_of tkX11_emit_k28 2 rfl) ?_
    refine lv_iconst (v := 1) hx hb (dt_of tkX11_emit_k28 3 rfl) (by decide) ?_
    refine lv_iadd hx hb (dt_of tkX11_emit_k28 4 rfl) ?_
    refine lv_topi (fun x5 ex5 => ?_)
    have hw := hw x5 ex5
    refine va_put (D := (dC, dI)) (ci := 11) (v := .int x5) (ty := .int) (C := RX11) (T := TX11) (N := 55) hx hb hts ui_X11_emit_X11 tyX11 tyX11_ok nmX11 hown hK hP hD hS 0 rfl rfl 28 (by decide) (hts _ uw_X11_emit_f246) (fun _ h9 => h9) rfl (by decide +kernel) rfl rfl (Nat.le_of_ble_eq_true rfl) (dt_of tkX11_emit_k28 5 rfl) (fun H locs hP hD hS => ?_)
    have hP : va_P (dC, dI) vwCl (wd09_22 a0 jaX jaF jaD ja7 jby jb8 jaM jaY jap jaK jal jam jax jao ja6 jaV ja8 jae jag jaf ja0 ja4 jaP jbP jco jaZ jaH jaS x5 jaU jaE jar jaL jah jaB jaa jaz jaG jab ja2 z0_s jaq jai jaO jaA jat jau jav jaj jas jaJ jak jad jay jac jbP cyI f3 jco cyI f4) H := hP
    have hD : va_D A (wd09_22 a0 jaX jaF jaD ja7 jby jb8 jaM jaY jap jaK jal jam jax jao ja6 jaV ja8 jae jag jaf ja0 ja4 jaP jbP jco jaZ jaH jaS x5 jaU jaE jar jaL jah jaB jaa jaz jaG jab ja2 z0_s jaq jai jaO jaA jat jau jav jaj jas jaJ jak jad jay jac jbP cyI f3 jco cyI f4) := hD
    exact ((W.vret hx hb hr (fun t ht hW => ⟨⟨(f3, f4, x5), rfl, hw, by rw [ht]; exact hP, va_K.moved hW.alike hK, hD⟩, hS.F ht⟩) hS.2.2 (dt_of tkX11_emit_k28 6 rfl)))
  · have hw := hw.2 c2
    exact ((W.vret hx hb hr (fun t ht hW => ⟨⟨(jeD, jf5, jcQ), rfl, hw, by rw [ht]; exact hP, va_K.moved hW.alike hK, hD⟩, hS.F ht⟩) hS.2.2 (dt_of tkX11_emit_k0 3 rfl)))
theorem ui_X11_far_X11 : ∀ w ∈ u_ws RX11 TX11 55, w ∈ wsX11_far := uiM mbX11_far euX11 (by decide +kernel)
theorem uw_X11_far_f3 : (.fieldLink RX11 3 "MarchHaresModel" "thrown" "I" : Cond) ∈ wsX11_far := mbX11_far 589 (by decide +kernel)
set_option maxHeartbeats 4000000 in
set_option maxRecDepth 100000 in
theorem ck_X11_far (l : Launch) (dC : Nat → ClassId) (dI : Nat → Nat → Nat) (cyB cyI cyJ cyP : ClassId) (a0 jaQ ja5 sz : Nat) (jaD ja7 jby jbf jaM jaY jap jaK jal jam jax jao jaV ja8 jae jag jaf ja4 jaP jaw jaI jaZ jaH jaS jan jaU jaE jar jaL jah jaB jaa jaz jaG jab ja2 z0_s jaq jai jaO jaA jat jau jav jaj jas jaJ jak jad jay jac : Value) (jaN : Int32) (jbv : Nat → Int32) (jbd : Int32) (ja9 : Nat → Int32) (p1 p2 : Int32) {Q : Int32 → Int32 → (Nat → Int32) → Prop} (hw : wq_X11_far jaN jbv jbd ja9 p1 p2 Q) : Met l yX11_far wsX11_far ({ frames := 2, cells := 0, slots := 0, locals := 45 }) (va_Pc [.ref a0, .int p1, .int p2] (cPc (dC, dI) (kT cyB cyI cyJ cyP) (wd09_24 a0 jbd jaQ jaD ja7 jby jbf jaM jaY jap jaK jal jam jax jao ja5 jaV ja8 jae jag jaf jaN ja4 jaP jaw jaI jaZ jaH jaS jan jaU jaE jar jaL jah jaB jaa jaz jaG jab ja2 z0_s jaq jai jaO jaA jat jau jav jaj jas jaJ jak jad jay jac jaQ cyI ja9 ja5 cyI jbv) sz)) (va_Qi (fun (r : Int32) (u : Int32 × (Nat → Int32)) => Q r u.1 u.2) (cB (dC, dI) (kT cyB cyI cyJ cyP) (va_A (wd09_24 a0 jbd jaQ jaD ja7 jby jbf jaM jaY jap jaK jal jam jax jao ja5 jaV ja8 jae jag jaf jaN ja4 jaP jaw jaI jaZ jaH jaS jan jaU jaE jar jaL jah jaB jaa jaz jaG jab ja2 z0_s jaq jai jaO jaA jat jau jav jaj jas jaJ jak jad jay jac jaQ cyI ja9 ja5 cyI jbv) sz) (fun u : Int32 × (Nat → Int32) => ((wd09_24 a0 u.1 jaQ jaD ja7 jby jbf jaM jaY jap jaK jal jam jax jao ja5 jaV ja8 jae jag jaf jaN ja4 jaP jaw jaI jaZ jaH jaS jan jaU jaE jar jaL jah jaB jaa jaz jaG jab ja2 z0_s jaq jai jaO jaA jat jau jav jaj jas jaJ jak jad jay jac jaQ cyI u.2 ja5 cyI jbv) : va_W))) (va_A (wd09_24 a0 jbd jaQ jaD ja7 jby jbf jaM jaY jap jaK jal jam jax jao ja5 jaV ja8 jae jag jaf jaN ja4 jaP jaw jaI jaZ jaH jaS jan jaU jaE jar jaL jah jaB jaa jaz jaG jab ja2 z0_s jaq jai jaO jaA jat jau jav jaj jas jaJ jak jad jay jac jaQ cyI ja9 ja5 cyI jbv) sz)) 0 0 (va_A (wd09_24 a0 jbd jaQ jaD ja7 jby jbf jaM jaY jap jaK jal jam jax jao ja5 jaV ja8 jae jag jaf jaN ja4 jaP jaw jaI jaZ jaH jaS jan jaU jaE jar jaL jah jaB jaa jaz jaG jab ja2 z0_s jaq jai jaO jaA jat jau jav jaj jas jaJ jak jad jay jac jaQ cyI ja9 ja5 cyI jbv) sz) := by
  refine Met.ofW (cc := cX11_far) (maxL := 3) (ret := (some .int)) (by decide) rfl ?_
  intro p e s m args below meth c s₁ B hml hv
  obtain ⟨rfl, hsz, hP, hK, hD0, hNw⟩ := hv
  have hx := B.exec
  have hb := B.bytes
  have hr := B.returns
  have hts := atoms_spec (ws := wsX11_far) B.pre
  have hown : s.vm.findClass RX11 = some m.cls := findClass_of_methodNamed B.named
  have hlocks := B.notSynchronized
  subst hsz
  have hD := hD0.self (sz := s.heap.size)
  generalize hAe : va_A (wd09_24 a0 jbd jaQ jaD ja7 jby jbf jaM jaY jap jaK jal jam jax jao ja5 jaV ja8 jae jag jaf jaN ja4 jaP jaw jaI jaZ jaH jaS jan jaU jaE jar jaL jah jaB jaa jaz jaG jab ja2 z0_s jaq jai jaO jaA jat jau jav jaj jas jaJ jak jad jay jac jaQ cyI ja9 ja5 cyI jbv) s.heap.size = A at hD ⊢
  have hA : ∀ q : Nat, s.heap.size ≤ q → A q := fun q h => by rw [← hAe]; exact Or.inr h
  have hS : va_S A s.heap s.heap [] := va_S.rf
  have hP : va_P (dC, dI) vwCl (wd09_24 a0 jbd jaQ jaD ja7 jby jbf jaM jaY jap jaK jal jam jax jao ja5 jaV ja8 jae jag jaf jaN ja4 jaP jaw jaI jaZ jaH jaS jan jaU jaE jar jaL jah jaB jaa jaz jaG jab ja2 z0_s jaq jai jaO jaA jat jau jav jaj jas jaJ jak jad jay jac jaQ cyI ja9 ja5 cyI jbv) s.heap := hP
  have hl := lv_entry ([.ref a0, .int p1, .int p2]) (n := 3) (Nat.le_of_ble_eq_true rfl)
  rw [lg_entry_eq]
  generalize (lg_sl ([.ref a0, .int p1, .int p2]) ++ List.replicate (3 - (lg_sl ([.ref a0, .int p1, .int p2])).length) Slot.unset).toArray = ls at hl ⊢
  have hl : lv_has ls 3 [(0, .ref a0), (1, .int p1), (2, .int p2)] := hl
  have C0 : cfx p s m _ meth c cX11_far (some .int) wsX11_far RX11 3 A (dC, dI) (kT cyB cyI cyJ cyP) := ⟨hx, hb, hr, hts, hown, hlocks, hml, hA, hK, hNw⟩
  clear hAe
  obtain ⟨H, hH⟩ : ∃ H, H = s.heap := ⟨_, rfl⟩
  rw [← hH] at hP ⊢
  have hS : va_S A s.heap H [] := by rw [hH]; exact va_S.rf
  have hS := hS
  refine lv_aload_n hx hb (dt_of tkX11_far_k0 0 rfl) rfl (lv_at hl 0 rfl) ?_
  refine lv_iconst (v := 0) hx hb (dt_of tkX11_far_k0 1 rfl) (by decide) ?_
  refine va_put (D := (dC, dI)) (ci := 11) (v := .int 0) (ty := .int) (C := RX11) (T := TX11) (N := 55) hx hb hts ui_X11_far_X11 tyX11 tyX11_ok nmX11 hown hK hP hD hS 0 rfl rfl 0 (by decide) (hts _ uw_X11_far_f3) (fun _ h9 => h9) rfl (by decide +kernel) rfl rfl (Nat.le_of_ble_eq_true rfl) (dt_of tkX11_far_k0 2 rfl) (fun H locs hP hD hS => ?_)
  have hP : va_P (dC, dI) vwCl (wd09_24 a0 0 jaQ jaD ja7 jby jbf jaM jaY jap jaK jal jam jax jao ja5 jaV ja8 jae jag jaf jaN ja4 jaP jaw jaI jaZ jaH jaS jan jaU jaE jar jaL jah jaB jaa jaz jaG jab ja2 z0_s jaq jai jaO jaA jat jau jav jaj jas jaJ jak jad jay jac jaQ cyI ja9 ja5 cyI jbv) H := hP
  have hD : va_D A (wd09_24 a0 0 jaQ jaD ja7 jby jbf jaM jaY jap jaK jal jam jax jao ja5 jaV ja8 jae jag jaf jaN ja4 jaP jaw jaI jaZ jaH jaS jan jaU jaE jar jaL jah jaB jaa jaz jaG jab ja2 z0_s jaq jai jaO jaA jat jau jav jaj jas jaJ jak jad jay jac jaQ cyI ja9 ja5 cyI jbv) := hD
  refine lv_aload_n hx hb (dt_of tkX11_far_k0 3 rfl) rfl (lv_at hl 0 rfl) ?_
  refine lv_iload_n hx hb (dt_of tkX11_far_k0 4 rfl) rfl (lv_at hl 1 rfl) ?_
  refine lv_iconst (v := 1) hx hb (dt_of tkX11_far_k0 5 rfl) (by decide) ?_
  obtain ⟨hCc, hPc, hDc, hFc⟩ := va_pick (ws' := (wd09_25 a0 0 jaQ jaD ja7 jby jbf jaM jaY jap jaK jal jam jax jao ja5 jaV ja8 jae jag jaf jaN ja4 jaP jaw jaI jaZ jaH jaS jan jaU jaE jar jaL jah jaB jaa jaz jaG jab ja2 z0_s jaq jai jaO jaA jat jau jav jaj jas jaJ jak jad jay jac jaQ cyI ja9)) hP hD hS hA [0, 1] (by decide +kernel) rfl
  refine va_calli (va_runV (As := [.int p1, .int 1]) (rest := []) ⟨hx, hb, hml, hown, hts⟩ (ck_X11_isForm l dC dI cyB cyI cyJ cyP a0 jaQ H.size (jaD) (ja7) (jby) (jbf) (jaM) (jaY) (jap) (jaK) (jal) (jam) (jax) (jao) (.ref ja5) (jaV) (ja8) (jae) (jag) (jaf) (ja4) (jaP) (jaw) (jaI) (jaZ) (jaH) (jaS) (jan) (jaU) (jaE) (jar) (jaL) (jah) (jaB) (jaa) (jaz) (jaG) (jab) (ja2) (z0_s) (jaq) (jai) (jaO) (jaA) (jat) (jau) (jav) (jaj) (jas) (jaJ) (jak) (jad) (jay) (jac) jaN 0 ja9 p1 1 hw) (cwV 2 hts gX11_far_X11_isForm rfl rfl rfl (by decide +kernel) ⟨Nat.le_of_ble_eq_true rfl, Nat.le_of_ble_eq_true rfl⟩) ⟨cPc_blind, va_recv (q := (RX11, TX11, 55)) hK hPc (ci := 11) (q0 := 0) rfl rfl, cPc_pre hPc hK hDc hNw⟩ rfl rfl hl.1 rfl (lv_room (Nat.le_of_ble_eq_true rfl)) (dt_of tkX11_far_k0 6 rfl) ⟨Nat.le_of_ble_eq_true rfl, Nat.le_of_ble_eq_true rfl⟩) hS (fun q _ h => hFc q h) hFc (fun r3 u t H1 locs ht hvm hw hB hz1 hk1 hS => ?_)
  obtain ⟨x1, f2⟩ := u
  obtain ⟨hP1, hK1, hD1⟩ := hB
  rw [ht] at hP1
  obtain ⟨hP, hD⟩ := va_joinN (wr := (wd09_26 ja5 cyI jbv)) (w1 := (wd09_25 a0 x1 jaQ jaD ja7 jby jbf jaM jaY jap jaK jal jam jax jao ja5 jaV ja8 jae jag jaf jaN ja4 jaP jaw jaI jaZ jaH jaS jan jaU jaE jar jaL jah jaB jaa jaz jaG jab ja2 z0_s jaq jai jaO jaA jat jau jav jaj jas jaJ jak jad jay jac jaQ cyI f2)) (wn := (wd09_24 a0 x1 jaQ jaD ja7 jby jbf jaM jaY jap jaK jal jam jax jao ja5 jaV ja8 jae jag jaf jaN ja4 jaP jaw jaI jaZ jaH jaS jan jaU jaE jar jaL jah jaB jaa jaz jaG jab ja2 z0_s jaq jai jaO jaA jat jau jav jaj jas jaJ jak jad jay jac jaQ cyI f2 ja5 cyI jbv)) hP hD [0, 1] [2] [1, 2, 0] hCc rfl (by decide +kernel) (by decide +kernel) (by decide +kernel) rfl hk1 hFc hP1 hD1
  generalize H1 = H at hP hS ⊢
  refine lv_if_eq (tgt := 32) hx hb (dt_of tkX11_far_k0 7 rfl) (by decide) (fun c4 => ?_) (fun c4 => ?_)
  · have hw := hw.1 c4
    refine lv_iconst (v := 0) hx hb (dt_of tkX11_far_k26 2 rfl) (by decide) ?_
    exact ((W.iret (v := 0) hx hb hr (fun t ht hW => ⟨⟨0, (x1, f2), rfl, hw, by rw [ht]; exact hP, va_K.moved hW.alike hK, hD⟩, hS.F ht⟩) hS.2.2 (dt_of tkX11_far_k26 3 rfl)))
  · have hw := hw.2 c4
    refine lv_aload_n hx hb (dt_of tkX11_far_k0 8 rfl) rfl (lv_at hl 0 rfl) ?_
    refine lv_iload_n hx hb (dt_of tkX11_far_k0 9 rfl) rfl (lv_at hl 2 rfl) ?_
    refine lv_iconst (v := 1) hx hb (dt_of tkX11_far_k0 10 rfl) (by decide) ?_
    obtain ⟨hCc, hPc, hDc, hFc⟩ := va_pick (ws' := (wd09_25 a0 x1 jaQ jaD ja7 jby jbf jaM jaY jap jaK jal jam jax jao ja5 jaV ja8 jae jag jaf jaN ja4 jaP jaw jaI jaZ jaH jaS jan jaU jaE jar jaL jah jaB jaa jaz jaG jab ja2 z0_s jaq jai jaO jaA jat jau jav jaj jas jaJ jak jad jay jac jaQ cyI f2)) hP hD hS hA [0, 1] (by decide +kernel) rfl
    refine va_calli (va_runV (As := [.int p2, .int 1]) (rest := []) ⟨hx, hb, hml, hown, hts⟩ (ck_X11_isForm l dC dI cyB cyI cyJ cyP a0 jaQ H.size (jaD) (ja7) (jby) (jbf) (jaM) (jaY) (jap) (jaK) (jal) (jam) (jax) (jao) (.ref ja5) (jaV) (ja8) (jae) (jag) (jaf) (ja4) (jaP) (jaw) (jaI) (jaZ) (jaH) (jaS) (jan) (jaU) (jaE) (jar) (jaL) (jah) (jaB) (jaa) (jaz) (jaG) (jab) (ja2) (z0_s) (jaq) (jai) (jaO) (jaA) (jat) (jau) (jav) (jaj) (jas) (jaJ) (jak) (jad) (jay) (jac) jaN x1 f2 p2 1 hw) (cwV 2 hts gX11_far_X11_isForm rfl rfl rfl (by decide +kernel) ⟨Nat.le_of_ble_eq_true rfl, Nat.le_of_ble_eq_true rfl⟩) ⟨cPc_blind, va_recv (q := (RX11, TX11, 55)) hK hPc (ci := 11) (q0 := 0) rfl rfl, cPc_pre hPc hK hDc hNw⟩ rfl rfl hl.1 rfl (lv_room (Nat.le_of_ble_eq_true rfl)) (dt_of tkX11_far_k0 11 rfl) ⟨Nat.le_of_ble_eq_true rfl, Nat.le_of_ble_eq_true rfl⟩) hS (fun q _ h => hFc q h) hFc (fun r7 u t H1 locs ht hvm hw hB hz1 hk1 hS => ?_)
    obtain ⟨x5, f6⟩ := u
    obtain ⟨hP1, hK1, hD1⟩ := hB
    rw [ht] at hP1
    obtain ⟨hP, hD⟩ := va_joinN (wr := (wd09_26 ja5 cyI jbv)) (w1 := (wd09_25 a0 x5 jaQ jaD ja7 jby jbf jaM jaY jap jaK jal jam jax jao ja5 jaV ja8 jae jag jaf jaN ja4 jaP jaw jaI jaZ jaH jaS jan jaU jaE jar jaL jah jaB jaa jaz jaG jab ja2 z0_s jaq jai jaO jaA jat jau jav jaj jas jaJ jak jad jay jac jaQ cyI f6)) (wn := (wd09_24 a0 x5 jaQ jaD ja7 jby jbf jaM jaY jap jaK jal jam jax jao ja5 jaV ja8 jae jag jaf jaN ja4 jaP jaw jaI jaZ jaH jaS jan jaU jaE jar jaL jah jaB jaa jaz jaG jab ja2 z0_s jaq jai jaO jaA jat jau jav jaj jas jaJ jak jad jay jac jaQ cyI f6 ja5 cyI jbv)) hP hD [0, 1] [2] [1, 2, 0] hCc rfl (by decide +kernel) (by decide +kernel) (by decide +kernel) rfl hk1 hFc hP1 hD1
    generalize H1 = H at hP hS ⊢
    refine lv_if_eq (tgt := 32) hx hb (dt_of tkX11_far_k0 12 rfl) (by decide) (fun c8 => ?_) (fun c8 => ?_)
    · have hw := hw.1 c8
      refine lv_iconst (v := 0) hx hb (dt_of tkX11_far_k26 2 rfl) (by decide) ?_
      exact ((W.iret (v := 0) hx hb hr (fun t ht hW => ⟨⟨0, (x5, f6), rfl, hw, by rw [ht]; exact hP, va_K.moved hW.alike hK, hD⟩, hS.F ht⟩) hS.2.2 (dt_of tkX11_far_k26 3 rfl)))
    · have hw := hw.2 c8
      refine lv_aload_n hx hb (dt_of tkX11_far_k0 13 rfl) rfl (lv_at hl 0 rfl) ?_
      refine lv_iload_n hx hb (dt_of tkX11_far_k0 14 rfl) rfl (lv_at hl 1 rfl) ?_
      refine lv_iload_n hx hb (dt_of tkX11_far_k0 15 rfl) rfl (lv_at hl 2 rfl) ?_
      obtain ⟨hCc, hPc, hDc, hFc⟩ := va_pick (ws' := (wd09_27 a0 x5 jaQ jaD ja7 jby jbf jaM jaY jap jaK jal jam jax jao ja5 jaV ja8 jae jag jaf jaN ja4 jaP jaw jaI jaZ jaH jaS jan jaU jaE jar jaL jah jaB jaa jaz jaG jab ja2 z0_s jaq jai jaO jaA jat jau jav jaj jas jaJ jak jad jay jac ja5 cyI jbv)) hP hD hS hA [0, 2] (by decide +kernel) rfl
      refine va_calli (va_runV (As := [.int p1, .int p2]) (rest := []) ⟨hx, hb, hml, hown, hts⟩ (ck_X11_farOf l dC dI cyB cyI cyJ cyP a0 ja5 H.size (.int x5) (.ref jaQ) (jaD) (ja7) (jby) (jbf) (jaM) (jaY) (jap) (jaK) (jal) (jam) (jax) (jao) (jaV) (ja8) (jae) (jag) (jaf) (.int jaN) (ja4) (jaP) (jaw) (jaI) (jaZ) (jaH) (jaS) (jan) (jaU) (jaE) (jar) (jaL) (jah) (jaB) (jaa) (jaz) (jaG) (jab) (ja2) (z0_s) (jaq) (jai) (jaO) (jaA) (jat) (jau) (jav) (jaj) (jas) (jaJ) (jak) (jad) (jay) (jac) jbv  p1 p2 hw) (cwV 2 hts gX11_far_X11_farOf rfl rfl rfl (by decide +kernel) ⟨Nat.le_of_ble_eq_true rfl, Nat.le_of_ble_eq_true rfl⟩) ⟨cPc_blind, va_recv (q := (RX11, TX11, 55)) hK hPc (ci := 11) (q0 := 0) rfl rfl, cPc_pre hPc hK hDc hNw⟩ rfl rfl hl.1 rfl (lv_room (Nat.le_of_ble_eq_true rfl)) (dt_of tkX11_far_k26 0 rfl) ⟨Nat.le_of_ble_eq_true rfl, Nat.le_of_ble_eq_true rfl⟩) hS (fun q _ h => hFc q h) hFc (fun r9 u t H1 locs ht hvm hw hB hz1 hk1 hS => ?_)
      obtain ⟨hP1, hK1, hD1⟩ := hB
      rw [ht] at hP1
      obtain ⟨hP, hD⟩ := va_joinN (wr := [(jaQ, .inl (cyI, 2, .inl f6))]) (w1 := (wd09_27 a0 x5 jaQ jaD ja7 jby jbf jaM jaY jap jaK jal jam jax jao ja5 jaV ja8 jae jag jaf jaN ja4 jaP jaw jaI jaZ jaH jaS jan jaU jaE jar jaL jah jaB jaa jaz jaG jab ja2 z0_s jaq jai jaO jaA jat jau jav jaj jas jaJ jak jad jay jac ja5 cyI jbv)) (wn := (wd09_24 a0 x5 jaQ jaD ja7 jby jbf jaM jaY jap jaK jal jam jax jao ja5 jaV ja8 jae jag jaf jaN ja4 jaP jaw jaI jaZ jaH jaS jan jaU jaE jar jaL jah jaB jaa jaz jaG jab ja2 z0_s jaq jai jaO jaA jat jau jav jaj jas jaJ jak jad jay jac jaQ cyI f6 ja5 cyI jbv)) hP hD [0, 2] [1] [1, 0, 2] hCc rfl (by decide +kernel) (by decide +kernel) (by decide +kernel) rfl hk1 hFc hP1 hD1
      generalize H1 = H at hP hS ⊢
      refine lv_goto (tgt := 33) hx hb (dt_of tkX11_far_k26 1 rfl) (by decide) ?_
      exact ((W.iret (v := r9) hx hb hr (fun t ht hW => ⟨⟨r9, (x5, f6), rfl, hw, by rw [ht]; exact hP, va_K.moved hW.alike hK, hD⟩, hS.F ht⟩) hS.2.2 (dt_of tkX11_far_k26 3 rfl)))
theorem ui_X11_fault_X11 : ∀ w ∈ u_ws RX11 TX11 55, w ∈ wsX11_fault := uiM mbX11_fault euX11 (by decide +kernel)
theorem uw_X11_fault_f17 : (.fieldLink RX11 17 "MarchHaresModel" "faultAt" "I" : Cond) ∈ wsX11_fault := mbX11_fault 399 (by decide +kernel)
theorem uw_X11_fault_f3 : (.fieldLink RX11 3 "MarchHaresModel" "thrown" "I" : Cond) ∈ wsX11_fault := mbX11_fault 589 (by decide +kernel)
set_option maxHeartbeats 4000000 in
set_option maxRecDepth 100000 in
theorem ck_X11_fault (l : Launch) (dC : Nat → ClassId) (dI : Nat → Nat → Nat) (cyB cyI cyJ cyP : ClassId) (a0 sz : Nat) (jaF jaD ja7 jby jbf jaM jaY jaK jal jam jax jao ja6 jaV ja8 jae jag jaf ja0 ja4 jaP jaw jaI jaZ jaH jaS jan jaU jaE jar jaL jah jaB jaa jaz jaG jab ja2 z0_s jaq jai jaO jaA jat jau jav jaj jas jaJ jak jad jay jac : Value) (jgm jbd : Int32)  {Q : Int32 → Int32 → Prop} (hw : wq_X11_fault jgm jbd  Q) : Met l yX11_fault wsX11_fault ({ frames := 0, cells := 0, slots := 0, locals := 0 }) (va_Pc [.ref a0] (cPc (dC, dI) (kT cyB cyI cyJ cyP) (wd09_28 a0 jbd jaF jaD ja7 jby jbf jaM jaY jgm jaK jal jam jax jao ja6 jaV ja8 jae jag jaf ja0 ja4 jaP jaw jaI jaZ jaH jaS jan jaU jaE jar jaL jah jaB jaa jaz jaG jab ja2 z0_s jaq jai jaO jaA jat jau jav jaj jas jaJ jak jad jay jac) sz)) (va_Qi (fun (r u : Int32) => Q r u) (cB (dC, dI) (kT cyB cyI cyJ cyP) (va_A (wd09_28 a0 jbd jaF jaD ja7 jby jbf jaM jaY jgm jaK jal jam jax jao ja6 jaV ja8 jae jag jaf ja0 ja4 jaP jaw jaI jaZ jaH jaS jan jaU jaE jar jaL jah jaB jaa jaz jaG jab ja2 z0_s jaq jai jaO jaA jat jau jav jaj jas jaJ jak jad jay jac) sz) (fun u : Int32 => ((wd09_28 a0 u jaF jaD ja7 jby jbf jaM jaY jgm jaK jal jam jax jao ja6 jaV ja8 jae jag jaf ja0 ja4 jaP jaw jaI jaZ jaH jaS jan jaU jaE jar jaL jah jaB jaa jaz jaG jab ja2 z0_s jaq jai jaO jaA jat jau jav jaj jas jaJ jak jad jay jac) : va_W))) (va_A (wd09_28 a0 jbd jaF jaD ja7 jby jbf jaM jaY jgm jaK jal jam jax jao ja6 jaV ja8 jae jag jaf ja0 ja4 jaP jaw jaI jaZ jaH jaS jan jaU jaE jar jaL jah jaB jaa jaz jaG jab ja2 z0_s jaq jai jaO jaA jat jau jav jaj jas jaJ jak jad jay jac) sz)) 0 0 (va_A (wd09_28 a0 jbd jaF jaD ja7 jby jbf jaM jaY jgm jaK jal jam jax jao ja6 jaV ja8 jae jag jaf ja0 ja4 jaP jaw jaI jaZ jaH jaS jan jaU jaE jar jaL jah jaB jaa jaz jaG jab ja2 z0_s jaq jai jaO jaA jat jau jav jaj jas jaJ jak jad jay jac) sz) := by
  refine Met.ofW (cc := cX11_fault) (maxL := 1) (ret := (some .int)) (by decide) rfl ?_
  intro p e s m args below meth c s₁ B hml hv
  obtain ⟨rfl, hsz, hP, hK, hD0, hNw⟩ := hv
  have hx := B.exec
  have hb := B.bytes
  have hr := B.returns
  have hts := atoms_spec (ws := wsX11_fault) B.pre
  have hown : s.vm.findClass RX11 = some m.cls := findClass_of_methodNamed B.named
  have hlocks := B.notSynchronized
  subst hsz
  have hD := hD0.self (sz := s.heap.size)
  generalize hAe : va_A (wd09_28 a0 jbd jaF jaD ja7 jby jbf jaM jaY jgm jaK jal jam jax jao ja6 jaV ja8 jae jag jaf ja0 ja4 jaP jaw jaI jaZ jaH jaS jan jaU jaE jar jaL jah jaB jaa jaz jaG jab ja2 z0_s jaq jai jaO jaA jat jau jav jaj jas jaJ jak jad jay jac) s.heap.size = A at hD ⊢
  have hA : ∀ q : Nat, s.heap.size ≤ q → A q := fun q h => by rw [← hAe]; exact Or.inr h
  have hS : va_S A s.heap s.heap [] := va_S.rf
  have hP : va_P (dC, dI) vwCl (wd09_28 a0 jbd jaF jaD ja7 jby jbf jaM jaY jgm jaK jal jam jax jao ja6 jaV ja8 jae jag jaf ja0 ja4 jaP jaw jaI jaZ jaH jaS jan jaU jaE jar jaL jah jaB jaa jaz jaG jab ja2 z0_s jaq jai jaO jaA jat jau jav jaj jas jaJ jak jad jay jac) s.heap := hP
  have hl := lv_entry ([.ref a0]) (n := 1) (Nat.le_of_ble_eq_true rfl)
  rw [lg_entry_eq]
  generalize (lg_sl ([.ref a0]) ++ List.replicate (1 - (lg_sl ([.ref a0])).length) Slot.unset).toArray = ls at hl ⊢
  have hl : lv_has ls 1 [(0, .ref a0)] := hl
  have C0 : cfx p s m _ meth c cX11_fault (some .int) wsX11_fault RX11 1 A (dC, dI) (kT cyB cyI cyJ cyP) := ⟨hx, hb, hr, hts, hown, hlocks, hml, hA, hK, hNw⟩
  clear hAe
  obtain ⟨H, hH⟩ : ∃ H, H = s.heap := ⟨_, rfl⟩
  rw [← hH] at hP ⊢
  have hS : va_S A s.heap H [] := by rw [hH]; exact va_S.rf
  have hS := hS
  refine lv_aload_n hx hb (dt_of tkX11_fault_k0 0 rfl) rfl (lv_at hl 0 rfl) ?_
  refine lv_iconst (v := 0) hx hb (dt_of tkX11_fault_k0 1 rfl) (by decide) ?_
  refine va_put (D := (dC, dI)) (ci := 11) (v := .int 0) (ty := .int) (C := RX11) (T := TX11) (N := 55) hx hb hts ui_X11_fault_X11 tyX11 tyX11_ok nmX11 hown hK hP hD hS 0 rfl rfl 0 (by decide) (hts _ uw_X11_fault_f3) (fun _ h9 => h9) rfl (by decide +kernel) rfl rfl (Nat.le_of_ble_eq_true rfl) (dt_of tkX11_fault_k0 2 rfl) (fun H locs hP hD hS => ?_)
  have hP : va_P (dC, dI) vwCl (wd09_28 a0 0 jaF jaD ja7 jby jbf jaM jaY jgm jaK jal jam jax jao ja6 jaV ja8 jae jag jaf ja0 ja4 jaP jaw jaI jaZ jaH jaS jan jaU jaE jar jaL jah jaB jaa jaz jaG jab ja2 z0_s jaq jai jaO jaA jat jau jav jaj jas jaJ jak jad jay jac) H := hP
  have hD : va_D A (wd09_28 a0 0 jaF jaD ja7 jby jbf jaM jaY jgm jaK jal jam jax jao ja6 jaV ja8 jae jag jaf ja0 ja4 jaP jaw jaI jaZ jaH jaS jan jaU jaE jar jaL jah jaB jaa jaz jaG jab ja2 z0_s jaq jai jaO jaA jat jau jav jaj jas jaJ jak jad jay jac) := hD
  refine lv_aload_n hx hb (dt_of tkX11_fault_k0 3 rfl) rfl (lv_at hl 0 rfl) ?_
  refine va_get (D := (dC, dI)) (ci := 11) (v := .int jgm) (C := RX11) (T := TX11) (N := 55) hx hb hts ui_X11_fault_X11 hown hK hP 0 rfl rfl 8 (by decide) (hts _ uw_X11_fault_f17) (fun _ h9 => h9) rfl (dt_of tkX11_fault_k0 4 rfl) ?_
  exact ((W.iret (v := jgm) hx hb hr (fun t ht hW => ⟨⟨jgm, (0), rfl, hw, by rw [ht]; exact hP, va_K.moved hW.alike hK, hD⟩, hS.F ht⟩) hS.2.2 (dt_of tkX11_fault_k0 5 rfl)))
theorem ui_X11_feed_X11 : ∀ w ∈ u_ws RX11 TX11 55, w ∈ wsX11_feed := uiM mbX11_feed euX11 (by decide +kernel)
theorem uw_X11_feed_f111 : (.fieldLink RX11 111 "MarchHaresModel" "taped" "I" : Cond) ∈ wsX11_feed := mbX11_feed 590 (by decide +kernel)
theorem uw_X11_feed_f20 : (.fieldLink RX11 20 "MarchHaresModel" "tape" "[I" : Cond) ∈ wsX11_feed := mbX11_feed 400 (by decide +kernel)
theorem uw_X11_feed_f3 : (.fieldLink RX11 3 "MarchHaresModel" "thrown" "I" : Cond) ∈ wsX11_feed := mbX11_feed 589 (by decide +kernel)
set_option maxHeartbeats 4000000 in
set_option maxRecDepth 100000 in
theorem kb_X11_feed_76 {p : Program} {l : Launch} {e : Env} {s : State} {m : MethodId} {args : Array Value} {below : List Frame} {meth : Method} {c : Code} {A : Nat → Prop} (dC : Nat → ClassId) (dI : Nat → Nat → Nat) (cyB cyI cyJ cyP : ClassId) (a0 jaW : Nat) (jaF ja7 jby jbf jaM jaY jap jal jam jax jao ja6 jaV ja8 jae jag jaf ja0 ja4 jaP jaw jaI jaZ jaH jaS jan jaU jaE jar jaL jah jaB jaa jaz jaG jab ja2 z0_s jaq jai jaO jaA jat jau jav jaj jas jaJ jak jad jay jac : Value)  (Q : Int32 → Int32 → (Nat → Int32) → Int32 → Prop) (K23 : Int32 → (Nat → Int32) → Int32 → Int32 → Int32 → Int32 → Int32 → Int32 → Int32 → Prop) (hK23 : ∀ (H : Heap) (locs : List Loc) (ls : Array Slot) (jbd : Int32) (jbC : Nat → Int32) (jgt l1 l2 l3 l4 l5 l6 : Int32), va_P (dC, dI) vwCl (wd09_29 a0 jbd jaF jgt ja7 jby jbf jaM jaY jap jaW jal jam jax jao ja6 jaV ja8 jae jag jaf ja0 ja4 jaP jaw jaI jaZ jaH jaS jan jaU jaE jar jaL jah jaB jaa jaz jaG jab ja2 z0_s jaq jai jaO jaA jat jau jav jaj jas jaJ jak jad jay jac jaW cyI jbC) H → va_D A (wd09_29 a0 jbd jaF jgt ja7 jby jbf jaM jaY jap jaW jal jam jax jao ja6 jaV ja8 jae jag jaf ja0 ja4 jaP jaw jaI jaZ jaH jaS jan jaU jaE jar jaL jah jaB jaa jaz jaG jab ja2 z0_s jaq jai jaO jaA jat jau jav jaj jas jaJ jak jad jay jac jaW cyI jbC) → va_S A s.heap H locs → lv_has ls 8 [(0, .ref a0), (1, .int l1), (2, .int l2), (3, .int l3), (4, .int l4), (5, .int l5), (6, .int l6)] → K23 jbd jbC jgt l1 l2 l3 l4 l5 l6 → W p l e (headSpec wsX11_feed ({ frames := 0, cells := 0, slots := 0, locals := 0 })).room s m args below meth c H locs 0 0 (MQ below (va_Qi (fun (r : Int32) (u : Int32 × (Nat → Int32) × Int32) => Q r u.1 u.2.1 u.2.2) (cB (dC, dI) (kT cyB cyI cyJ cyP) A (fun u : Int32 × (Nat → Int32) × Int32 => ((wd09_29 a0 u.1 jaF u.2.2 ja7 jby jbf jaM jaY jap jaW jal jam jax jao ja6 jaV ja8 jae jag jaf ja0 ja4 jaP jaw jaI jaZ jaH jaS jan jaU jaE jar jaL jah jaB jaa jaz jaG jab ja2 z0_s jaq jai jaO jaA jat jau jav jaj jas jaJ jak jad jay jac jaW cyI u.2.1) : va_W))) A) args s 0 0 A) (F0 m 23 ls [])) (C0 : cfx p s m args meth c cX11_feed (some .int) wsX11_feed RX11 8 A (dC, dI) (kT cyB cyI cyJ cyP)) : ∀ (H : Heap) (locs : List Loc) (ls : Array Slot) (jbd : Int32) (jbC : Nat → Int32) (jgt l1 l2 l3 l4 l5 l6 s0 : Int32), va_P (dC, dI) vwCl (wd09_29 a0 jbd jaF jgt ja7 jby jbf jaM jaY jap jaW jal jam jax jao ja6 jaV ja8 jae jag jaf ja0 ja4 jaP jaw jaI jaZ jaH jaS jan jaU jaE jar jaL jah jaB jaa jaz jaG jab ja2 z0_s jaq jai jaO jaA jat jau jav jaj jas jaJ jak jad jay jac jaW cyI jbC) H → va_D A (wd09_29 a0 jbd jaF jgt ja7 jby jbf jaM jaY jap jaW jal jam jax jao ja6 jaV ja8 jae jag jaf ja0 ja4 jaP jaw jaI jaZ jaH jaS jan jaU jaE jar jaL jah jaB jaa jaz jaG jab ja2 z0_s jaq jai jaO jaA jat jau jav jaj jas jaJ jak jad jay jac jaW cyI jbC) → va_S A s.heap H locs → lv_has ls 8 [(0, .ref a0), (1, .int l1), (2, .int l2), (3, .int l3), (4, .int l4), (5, .int l5), (6, .int l6)] → wb_X11_feed_76  Q K23 jbd jbC jgt l1 l2 l3 l4 l5 l6 s0 → W p l e (headSpec wsX11_feed ({ frames := 0, cells := 0, slots := 0, locals := 0 })).room s m args below meth c H locs 0 0 (MQ below (va_Qi (fun (r : Int32) (u : Int32 × (Nat → Int32) × Int32) => Q r u.1 u.2.1 u.2.2) (cB (dC, dI) (kT cyB cyI cyJ cyP) A (fun u : Int32 × (Nat → Int32) × Int32 => ((wd09_29 a0 u.1 jaF u.2.2 ja7 jby jbf jaM jaY jap jaW jal jam jax jao ja6 jaV ja8 jae jag jaf ja0 ja4 jaP jaw jaI jaZ jaH jaS jan jaU jaE jar jaL jah jaB jaa jaz jaG jab ja2 z0_s jaq jai jaO jaA jat jau jav jaj jas jaJ jak jad jay jac jaW cyI u.2.1) : va_W))) A) args s 0 0 A) (F0 m 76 ls [.int s0]) := by
  obtain ⟨hx, hb, hr, hts, hown, hlocks, hml, hA, hK, hNw⟩ := id C0
  intro H locs ls jbd jbC jgt l1 l2 l3 l4 l5 l6 s0 hP hD hS hl hw
  refine lv_istore (lv' := [(7, .int s0), (0, .ref a0), (1, .int l1), (2, .int l2), (3, .int l3), (4, .int l4), (5, .int l5), (6, .int l6)]) hx hb (dt_of tkX11_feed_k64 5 rfl) hl (by decide) rfl (fun ls hl => ?_)
  refine lv_aload_n hx hb (dt_of tkX11_feed_k64 6 rfl) rfl (lv_at hl 1 rfl) ?_
  refine va_get (D := (dC, dI)) (ci := 11) (v := .ref jaW) (C := RX11) (T := TX11) (N := 55) hx hb hts ui_X11_feed_X11 hown hK hP 0 rfl rfl 9 (by decide) (hts _ uw_X11_feed_f20) (fun _ h9 => h9) rfl (dt_of tkX11_feed_k64 7 rfl) ?_
  refine lv_aload_n hx hb (dt_of tkX11_feed_k64 8 rfl) rfl (lv_at hl 1 rfl) ?_
  refine va_get (D := (dC, dI)) (ci := 11) (v := .int jgt) (C := RX11) (T := TX11) (N := 55) hx hb hts ui_X11_feed_X11 hown hK hP 0 rfl rfl 2 (by decide) (hts _ uw_X11_feed_f111) (fun _ h9 => h9) rfl (dt_of tkX11_feed_k64 9 rfl) ?_
  refine lv_iload hx hb (dt_of tkX11_feed_k64 10 rfl) (lv_at hl 0 rfl) ?_
  refine lv_bipush (v := 24) hx hb (dt_of tkX11_feed_k64 11 rfl) (by decide) ?_
  refine lv_bipush (v := 8) hx hb (dt_of tkX11_feed_k64 12 rfl) (by decide) ?_
  refine lv_iload hx hb (dt_of tkX11_feed_k64 13 rfl) (lv_at hl 7 rfl) ?_
  refine lv_iconst (v := 4) hx hb (dt_of tkX11_feed_k64 14 rfl) (by decide) ?_
  refine lv_irem hx hb (dt_of tkX11_feed_k64 15 rfl) (by decide) ?_
  refine lv_topi (fun x7 ex7 => ?_)
  have hw := hw x7 ex7
  refine lv_imul hx hb (dt_of tkX11_feed_k96 0 rfl) ?_
  refine lv_isub hx hb (dt_of tkX11_feed_k96 1 rfl) ?_
  refine lv_ishr hx hb (dt_of tkX11_feed_k96 2 rfl) ?_
  refine lv_sipush (v := 255) hx hb (dt_of tkX11_feed_k96 3 rfl) (by decide) ?_
  refine lv_iand hx hb (dt_of tkX11_feed_k96 4 rfl) ?_
  refine lv_topi (fun x8 ex8 => ?_)
  have hw := hw x8 ex8
  obtain ⟨hi9, hw⟩ := hw
  refine va_iast hx hb hK hP hD hS 1 1 rfl rfl hi9 (dt_of tkX11_feed_k96 5 rfl) (fun H locs hP hD hS => ?_)
  obtain ⟨f9, ef9⟩ : ∃ y : Nat → Int32, y = upd jbC jgt.toNatClampNeg x8 := ⟨_, rfl⟩
  have hw := hw f9 ef9
  have hP : va_P (dC, dI) vwCl (wd09_29 a0 jbd jaF jgt ja7 jby jbf jaM jaY jap jaW jal jam jax jao ja6 jaV ja8 jae jag jaf ja0 ja4 jaP jaw jaI jaZ jaH jaS jan jaU jaE jar jaL jah jaB jaa jaz jaG jab ja2 z0_s jaq jai jaO jaA jat jau jav jaj jas jaJ jak jad jay jac jaW cyI f9) H := by rw [ef9]; exact hP
  have hD : va_D A (wd09_29 a0 jbd jaF jgt ja7 jby jbf jaM jaY jap jaW jal jam jax jao ja6 jaV ja8 jae jag jaf ja0 ja4 jaP jaw jaI jaZ jaH jaS jan jaU jaE jar jaL jah jaB jaa jaz jaG jab ja2 z0_s jaq jai jaO jaA jat jau jav jaj jas jaJ jak jad jay jac jaW cyI f9) := by rw [ef9]; exact hD
  refine lv_aload_n hx hb (dt_of tkX11_feed_k96 6 rfl) rfl (lv_at hl 1 rfl) ?_
  refine lv_dup hx hb (dt_of tkX11_feed_k96 7 rfl) rfl ?_
  refine va_get (D := (dC, dI)) (ci := 11) (v := .int jgt) (C := RX11) (T := TX11) (N := 55) hx hb hts ui_X11_feed_X11 hown hK hP 0 rfl rfl 2 (by decide) (hts _ uw_X11_feed_f111) (fun _ h9 => h9) rfl (dt_of tkX11_feed_k96 8 rfl) ?_
  refine lv_iconst (v := 1) hx hb (dt_of tkX11_feed_k96 9 rfl) (by decide) ?_
  refine lv_iadd hx hb (dt_of tkX11_feed_k96 10 rfl) ?_
  refine lv_topi (fun x10 ex10 => ?_)
  have hw := hw x10 ex10
  refine va_put (D := (dC, dI)) (ci := 11) (v := .int x10) (ty := .int) (C := RX11) (T := TX11) (N := 55) hx hb hts ui_X11_feed_X11 tyX11 tyX11_ok nmX11 hown hK hP hD hS 0 rfl rfl 2 (by decide) (hts _ uw_X11_feed_f111) (fun _ h9 => h9) rfl (by decide +kernel) rfl rfl (Nat.le_of_ble_eq_true rfl) (dt_of tkX11_feed_k96 11 rfl) (fun H locs hP hD hS => ?_)
  have hP : va_P (dC, dI) vwCl (wd09_29 a0 jbd jaF x10 ja7 jby jbf jaM jaY jap jaW jal jam jax jao ja6 jaV ja8 jae jag jaf ja0 ja4 jaP jaw jaI jaZ jaH jaS jan jaU jaE jar jaL jah jaB jaa jaz jaG jab ja2 z0_s jaq jai jaO jaA jat jau jav jaj jas jaJ jak jad jay jac jaW cyI f9) H := hP
  have hD : va_D A (wd09_29 a0 jbd jaF x10 ja7 jby jbf jaM jaY jap jaW jal jam jax jao ja6 jaV ja8 jae jag jaf ja0 ja4 jaP jaw jaI jaZ jaH jaS jan jaU jaE jar jaL jah jaB jaa jaz jaG jab ja2 z0_s jaq jai jaO jaA jat jau jav jaj jas jaJ jak jad jay jac jaW cyI f9) := hD
  obtain ⟨x11, ex11⟩ : ∃ y : Int32, y = l6 + 1 := ⟨_, rfl⟩
  have hw := hw x11 ex11
  refine lv_iinc (v := x11) (lv' := [(6, .int x11), (7, .int s0), (0, .ref a0), (1, .int l1), (2, .int l2), (3, .int l3), (4, .int l4), (5, .int l5)]) hx hb (dt_of tkX11_feed_k96 12 rfl) hl (k := 7) rfl (by rw [ex11]; rfl) (by decide) rfl (fun ls hl => ?_)
  refine lv_goto (tgt := 23) hx hb (dt_of tkX11_feed_k96 13 rfl) (by decide) ?_
  exact hK23 _ _ _ jbd f9 x10 l1 l2 l3 l4 l5 x11 hP hD hS (lv_sub hl [2, 3, 4, 5, 6, 7, 0] rfl) hw
set_option maxHeartbeats 4000000 in
set_option maxRecDepth 100000 in
theorem kl_X11_feed_23 {p : Program} {l : Launch} {e : Env} {s : State} {m : MethodId} {args : Array Value} {below : List Frame} {meth : Method} {c : Code} {A : Nat → Prop} (dC : Nat → ClassId) (dI : Nat → Nat → Nat) (cyB cyI cyJ cyP : ClassId) (a0 jaW : Nat) (jaF ja7 jby jbf jaM jaY jap jal jam jax jao ja6 jaV ja8 jae jag jaf ja0 ja4 jaP jaw jaI jaZ jaH jaS jan jaU jaE jar jaL jah jaB jaa jaz jaG jab ja2 z0_s jaq jai jaO jaA jat jau jav jaj jas jaJ jak jad jay jac : Value)  (Q : Int32 → Int32 → (Nat → Int32) → Int32 → Prop)  (C0 : cfx p s m args meth c cX11_feed (some .int) wsX11_feed RX11 8 A (dC, dI) (kT cyB cyI cyJ cyP)) : ∀ (n : Nat) (H : Heap) (locs : List Loc) (ls : Array Slot) (jbd : Int32) (jbC : Nat → Int32) (jgt l1 l2 l3 l4 l5 l6 : Int32), va_P (dC, dI) vwCl (wd09_29 a0 jbd jaF jgt ja7 jby jbf jaM jaY jap jaW jal jam jax jao ja6 jaV ja8 jae jag jaf ja0 ja4 jaP jaw jaI jaZ jaH jaS jan jaU jaE jar jaL jah jaB jaa jaz jaG jab ja2 z0_s jaq jai jaO jaA jat jau jav jaj jas jaJ jak jad jay jac jaW cyI jbC) H → va_D A (wd09_29 a0 jbd jaF jgt ja7 jby jbf jaM jaY jap jaW jal jam jax jao ja6 jaV ja8 jae jag jaf ja0 ja4 jaP jaw jaI jaZ jaH jaS jan jaU jaE jar jaL jah jaB jaa jaz jaG jab ja2 z0_s jaq jai jaO jaA jat jau jav jaj jas jaJ jak jad jay jac jaW cyI jbC) → va_S A s.heap H locs → lv_has ls 8 [(0, .ref a0), (1, .int l1), (2, .int l2), (3, .int l3), (4, .int l4), (5, .int l5), (6, .int l6)] → wl_X11_feed_23  Q  n jbd jbC jgt l1 l2 l3 l4 l5 l6 → W p l e (headSpec wsX11_feed ({ frames := 0, cells := 0, slots := 0, locals := 0 })).room s m args below meth c H locs 0 0 (MQ below (va_Qi (fun (r : Int32) (u : Int32 × (Nat → Int32) × Int32) => Q r u.1 u.2.1 u.2.2) (cB (dC, dI) (kT cyB cyI cyJ cyP) A (fun u : Int32 × (Nat → Int32) × Int32 => ((wd09_29 a0 u.1 jaF u.2.2 ja7 jby jbf jaM jaY jap jaW jal jam jax jao ja6 jaV ja8 jae jag jaf ja0 ja4 jaP jaw jaI jaZ jaH jaS jan jaU jaE jar jaL jah jaB jaa jaz jaG jab ja2 z0_s jaq jai jaO jaA jat jau jav jaj jas jaJ jak jad jay jac jaW cyI u.2.1) : va_W))) A) args s 0 0 A) (F0 m 23 ls []) := by
  obtain ⟨hx, hb, hr, hts, hown, hlocks, hml, hA, hK, hNw⟩ := id C0
  intro n
  induction n with
  | zero => intro H locs ls jbd jbC jgt l1 l2 l3 l4 l5 l6 hP hD hS hl hw; exact False.elim hw
  | succ n ih =>
    intro H locs ls jbd jbC jgt l1 l2 l3 l4 l5 l6 hP hD hS hl hw
    refine lv_iload hx hb (dt_of tkX11_feed_k0 13 rfl) (lv_at hl 6 rfl) ?_
    refine lv_bipush (v := 20) hx hb (dt_of tkX11_feed_k0 14 rfl) (by decide) ?_
    refine lv_icmp_ge (tgt := 120) hx hb (dt_of tkX11_feed_k0 15 rfl) (by decide) (fun c2 => ?_) (fun c2 => ?_)
    · have hw := hw.1 c2
      refine lv_aload_n hx hb (dt_of tkX11_feed_k96 14 rfl) rfl (lv_at hl 0 rfl) ?_
      refine va_get (D := (dC, dI)) (ci := 11) (v := .int jgt) (C := RX11) (T := TX11) (N := 55) hx hb hts ui_X11_feed_X11 hown hK hP 0 rfl rfl 2 (by decide) (hts _ uw_X11_feed_f111) (fun _ h9 => h9) rfl (dt_of tkX11_feed_k96 15 rfl) ?_
      exact ((W.iret (v := jgt) hx hb hr (fun t ht hW => ⟨⟨jgt, (jbd, jbC, jgt), rfl, hw, by rw [ht]; exact hP, va_K.moved hW.alike hK, hD⟩, hS.F ht⟩) hS.2.2 (dt_of tkX11_feed_k124 0 rfl)))
    · have hw := hw.2 c2
      refine lv_iload hx hb (dt_of tkX11_feed_k30 0 rfl) (lv_at hl 6 rfl) ?_
      refine lv_iconst (v := 4) hx hb (dt_of tkX11_feed_k30 1 rfl) (by decide) ?_
      refine lv_icmp_ge (tgt := 40) hx hb (dt_of tkX11_feed_k30 2 rfl) (by decide) (fun c3 => ?_) (fun c3 => ?_)
      · have hw := hw.1 c3
        refine lv_iload hx hb (dt_of tkX11_feed_k30 5 rfl) (lv_at hl 6 rfl) ?_
        refine lv_bipush (v := 8) hx hb (dt_of tkX11_feed_k30 6 rfl) (by decide) ?_
        refine lv_icmp_ge (tgt := 51) hx hb (dt_of tkX11_feed_k30 7 rfl) (by decide) (fun c4 => ?_) (fun c4 => ?_)
        · have hw := hw.1 c4
          refine lv_iload hx hb (dt_of tkX11_feed_k30 10 rfl) (lv_at hl 6 rfl) ?_
          refine lv_bipush (v := 12) hx hb (dt_of tkX11_feed_k30 11 rfl) (by decide) ?_
          refine lv_icmp_ge (tgt := 62) hx hb (dt_of tkX11_feed_k30 12 rfl) (by decide) (fun c5 => ?_) (fun c5 => ?_)
          · have hw := hw.1 c5
            refine lv_iload hx hb (dt_of tkX11_feed_k30 15 rfl) (lv_at hl 6 rfl) ?_
            refine lv_bipush (v := 16) hx hb (dt_of tkX11_feed_k64 0 rfl) (by decide) ?_
            refine lv_icmp_ge (tgt := 74) hx hb (dt_of tkX11_feed_k64 1 rfl) (by decide) (fun c6 => ?_) (fun c6 => ?_)
            · have hw := hw.1 c6
              refine lv_iload hx hb (dt_of tkX11_feed_k64 4 rfl) (lv_at hl 5 rfl) ?_
              exact kb_X11_feed_76 dC dI cyB cyI cyJ cyP a0 jaW jaF ja7 jby jbf jaM jaY jap jal jam jax jao ja6 jaV ja8 jae jag jaf ja0 ja4 jaP jaw jaI jaZ jaH jaS jan jaU jaE jar jaL jah jaB jaa jaz jaG jab ja2 z0_s jaq jai jaO jaA jat jau jav jaj jas jaJ jak jad jay jac  Q (wl_X11_feed_23  Q  n) ih C0 _ _ _ jbd jbC jgt l1 l2 l3 l4 l5 l6 l5 hP hD hS (lv_sub hl [0, 1, 2, 3, 4, 5, 6] rfl) hw
            · have hw := hw.2 c6
              refine lv_iload hx hb (dt_of tkX11_feed_k64 2 rfl) (lv_at hl 4 rfl) ?_
              refine lv_goto (tgt := 76) hx hb (dt_of tkX11_feed_k64 3 rfl) (by decide) ?_
              exact kb_X11_feed_76 dC dI cyB cyI cyJ cyP a0 jaW jaF ja7 jby jbf jaM jaY jap jal jam jax jao ja6 jaV ja8 jae jag jaf ja0 ja4 jaP jaw jaI jaZ jaH jaS jan jaU jaE jar jaL jah jaB jaa jaz jaG jab ja2 z0_s jaq jai jaO jaA jat jau jav jaj jas jaJ jak jad jay jac  Q (wl_X11_feed_23  Q  n) ih C0 _ _ _ jbd jbC jgt l1 l2 l3 l4 l5 l6 l4 hP hD hS (lv_sub hl [0, 1, 2, 3, 4, 5, 6] rfl) hw
          · have hw := hw.2 c5
            refine lv_iload_n hx hb (dt_of tkX11_feed_k30 13 rfl) rfl (lv_at hl 3 rfl) ?_
            refine lv_goto (tgt := 76) hx hb (dt_of tkX11_feed_k30 14 rfl) (by decide) ?_
            exact kb_X11_feed_76 dC dI cyB cyI cyJ cyP a0 jaW jaF ja7 jby jbf jaM jaY jap jal jam jax jao ja6 jaV ja8 jae jag jaf ja0 ja4 jaP jaw jaI jaZ jaH jaS jan jaU jaE jar jaL jah jaB jaa jaz jaG jab ja2 z0_s jaq jai jaO jaA jat jau jav jaj jas jaJ jak jad jay jac  Q (wl_X11_feed_23  Q  n) ih C0 _ _ _ jbd jbC jgt l1 l2 l3 l4 l5 l6 l3 hP hD hS (lv_sub hl [0, 1, 2, 3, 4, 5, 6] rfl) hw
        · have hw := hw.2 c4
          refine lv_iload_n hx hb (dt_of tkX11_feed_k30 8 rfl) rfl (lv_at hl 2 rfl) ?_
          refine lv_goto (tgt := 76) hx hb (dt_of tkX11_feed_k30 9 rfl) (by decide) ?_
          exact kb_X11_feed_76 dC dI cyB cyI cyJ cyP a0 jaW jaF ja7 jby jbf jaM jaY jap jal jam jax jao ja6 jaV ja8 jae jag jaf ja0 ja4 jaP jaw jaI jaZ jaH jaS jan jaU jaE jar jaL jah jaB jaa jaz jaG jab ja2 z0_s jaq jai jaO jaA jat jau jav jaj jas jaJ jak jad jay jac  Q (wl_X11_feed_23  Q  n) ih C0 _ _ _ jbd jbC jgt l1 l2 l3 l4 l5 l6 l2 hP hD hS (lv_sub hl [0, 1, 2, 3, 4, 5, 6] rfl) hw
      · have hw := hw.2 c3
        refine lv_iload_n hx hb (dt_of tkX11_feed_k30 3 rfl) rfl (lv_at hl 1 rfl) ?_
        refine lv_goto (tgt := 76) hx hb (dt_of tkX11_feed_k30 4 rfl) (by decide) ?_
        exact kb_X11_feed_76 dC dI cyB cyI cyJ cyP a0 jaW jaF ja7 jby jbf jaM jaY jap jal jam jax jao ja6 jaV ja8 jae jag jaf ja0 ja4 jaP jaw jaI jaZ jaH jaS jan jaU jaE jar jaL jah jaB jaa jaz jaG jab ja2 z0_s jaq jai jaO jaA jat jau jav jaj jas jaJ jak jad jay jac  Q (wl_X11_feed_23  Q  n) ih C0 _ _ _ jbd jbC jgt l1 l2 l3 l4 l5 l6 l1 hP hD hS (lv_sub hl [0, 1, 2, 3, 4, 5, 6] rfl) hw
set_option maxHeartbeats 4000000 in
set_option maxRecDepth 100000 in
theorem ck_X11_feed (l : Launch) (dC : Nat → ClassId) (dI : Nat → Nat → Nat) (cyB cyI cyJ cyP : ClassId) (a0 jaW sz : Nat) (jaF ja7 jby jbf jaM jaY jap jal jam jax jao ja6 jaV ja8 jae jag jaf ja0 ja4 jaP jaw jaI jaZ jaH jaS jan jaU jaE jar jaL jah jaB jaa jaz jaG jab ja2 z0_s jaq jai jaO jaA jat jau jav jaj jas jaJ jak jad jay jac : Value)  (jbd : Int32) (jbC : Nat → Int32) (jgt p1 p2 p3 p4 p5 : Int32) {Q : Int32 → Int32 → (Nat → Int32) → Int32 → Prop} (hw : wq_X11_feed  jbd jbC jgt p1 p2 p3 p4 p5 Q) : Met l yX11_feed wsX11_feed ({ frames := 0, cells := 0, slots := 0, locals := 0 }) (va_Pc [.ref a0, .int p1, .int p2, .int p3, .int p4, .int p5] (cPc (dC, dI) (kT cyB cyI cyJ cyP) (wd09_29 a0 jbd jaF jgt ja7 jby jbf jaM jaY jap jaW jal jam jax jao ja6 jaV ja8 jae jag jaf ja0 ja4 jaP jaw jaI jaZ jaH jaS jan jaU jaE jar jaL jah jaB jaa jaz jaG jab ja2 z0_s jaq jai jaO jaA jat jau jav jaj jas jaJ jak jad jay jac jaW cyI jbC) sz)) (va_Qi (fun (r : Int32) (u : Int32 × (Nat → Int32) × Int32) => Q r u.1 u.2.1 u.2.2) (cB (dC, dI) (kT cyB cyI cyJ cyP) (va_A (wd09_29 a0 jbd jaF jgt ja7 jby jbf jaM jaY jap jaW jal jam jax jao ja6 jaV ja8 jae jag jaf ja0 ja4 jaP jaw jaI jaZ jaH jaS jan jaU jaE jar jaL jah jaB jaa jaz jaG jab ja2 z0_s jaq jai jaO jaA jat jau jav jaj jas jaJ jak jad jay jac jaW cyI jbC) sz) (fun u : Int32 × (Nat → Int32) × Int32 => ((wd09_29 a0 u.1 jaF u.2.2 ja7 jby jbf jaM jaY jap jaW jal jam jax jao ja6 jaV ja8 jae jag jaf ja0 ja4 jaP jaw jaI jaZ jaH jaS jan jaU jaE jar jaL jah jaB jaa jaz jaG jab ja2 z0_s jaq jai jaO jaA jat jau jav jaj jas jaJ jak jad jay jac jaW cyI u.2.1) : va_W))) (va_A (wd09_29 a0 jbd jaF jgt ja7 jby jbf jaM jaY jap jaW jal jam jax jao ja6 jaV ja8 jae jag jaf ja0 ja4 jaP jaw jaI jaZ jaH jaS jan jaU jaE jar jaL jah jaB jaa jaz jaG jab ja2 z0_s jaq jai jaO jaA jat jau jav jaj jas jaJ jak jad jay jac jaW cyI jbC) sz)) 0 0 (va_A (wd09_29 a0 jbd jaF jgt ja7 jby jbf jaM jaY jap jaW jal jam jax jao ja6 jaV ja8 jae jag jaf ja0 ja4 jaP jaw jaI jaZ jaH jaS jan jaU jaE jar jaL jah jaB jaa jaz jaG jab ja2 z0_s jaq jai jaO jaA jat jau jav jaj jas jaJ jak jad jay jac jaW cyI jbC) sz) := by
  refine Met.ofW (cc := cX11_feed) (maxL := 8) (ret := (some .int)) (by decide) rfl ?_
  intro p e s m args below meth c s₁ B hml hv
  obtain ⟨rfl, hsz, hP, hK, hD0, hNw⟩ := hv
  have hx := B.exec
  have hb := B.bytes
  have hr := B.returns
  have hts := atoms_spec (ws := wsX11_feed) B.pre
  have hown : s.vm.findClass RX11 = some m.cls := findClass_of_methodNamed B.named
  have hlocks := B.notSynchronized
  subst hsz
  have hD := hD0.self (sz := s.heap.size)
  generalize hAe : va_A (wd09_29 a0 jbd jaF jgt ja7 jby jbf jaM jaY jap jaW jal jam jax jao ja6 jaV ja8 jae jag jaf ja0 ja4 jaP jaw jaI jaZ jaH jaS jan jaU jaE jar jaL jah jaB jaa jaz jaG jab ja2 z0_s jaq jai jaO jaA jat jau jav jaj jas jaJ jak jad jay jac jaW cyI jbC) s.heap.size = A at hD ⊢
  have hA : ∀ q : Nat, s.heap.size ≤ q → A q := fun q h => by rw [← hAe]; exact Or.inr h
  have hS : va_S A s.heap s.heap [] := va_S.rf
  have hP : va_P (dC, dI) vwCl (wd09_29 a0 jbd jaF jgt ja7 jby jbf jaM jaY jap jaW jal jam jax jao ja6 jaV ja8 jae jag jaf ja0 ja4 jaP jaw jaI jaZ jaH jaS jan jaU jaE jar jaL jah jaB jaa jaz jaG jab ja2 z0_s jaq jai jaO jaA jat jau jav jaj jas jaJ jak jad jay jac jaW cyI jbC) s.heap := hP
  have hl := lv_entry ([.ref a0, .int p1, .int p2, .int p3, .int p4, .int p5]) (n := 8) (Nat.le_of_ble_eq_true rfl)
  rw [lg_entry_eq]
  generalize (lg_sl ([.ref a0, .int p1, .int p2, .int p3, .int p4, .int p5]) ++ List.replicate (8 - (lg_sl ([.ref a0, .int p1, .int p2, .int p3, .int p4, .int p5])).length) Slot.unset).toArray = ls at hl ⊢
  have hl : lv_has ls 8 [(0, .ref a0), (1, .int p1), (2, .int p2), (3, .int p3), (4, .int p4), (5, .int p5)] := hl
  have C0 : cfx p s m _ meth c cX11_feed (some .int) wsX11_feed RX11 8 A (dC, dI) (kT cyB cyI cyJ cyP) := ⟨hx, hb, hr, hts, hown, hlocks, hml, hA, hK, hNw⟩
  clear hAe
  obtain ⟨H, hH⟩ : ∃ H, H = s.heap := ⟨_, rfl⟩
  rw [← hH] at hP ⊢
  have hS : va_S A s.heap H [] := by rw [hH]; exact va_S.rf
  have hS := hS
  refine lv_aload_n hx hb (dt_of tkX11_feed_k0 0 rfl) rfl (lv_at hl 0 rfl) ?_
  refine lv_iconst (v := 0) hx hb (dt_of tkX11_feed_k0 1 rfl) (by decide) ?_
  refine va_put (D := (dC, dI)) (ci := 11) (v := .int 0) (ty := .int) (C := RX11) (T := TX11) (N := 55) hx hb hts ui_X11_feed_X11 tyX11 tyX11_ok nmX11 hown hK hP hD hS 0 rfl rfl 0 (by decide) (hts _ uw_X11_feed_f3) (fun _ h9 => h9) rfl (by decide +kernel) rfl rfl (Nat.le_of_ble_eq_true rfl) (dt_of tkX11_feed_k0 2 rfl) (fun H locs hP hD hS => ?_)
  have hP : va_P (dC, dI) vwCl (wd09_29 a0 0 jaF jgt ja7 jby jbf jaM jaY jap jaW jal jam jax jao ja6 jaV ja8 jae jag jaf ja0 ja4 jaP jaw jaI jaZ jaH jaS jan jaU jaE jar jaL jah jaB jaa jaz jaG jab ja2 z0_s jaq jai jaO jaA jat jau jav jaj jas jaJ jak jad jay jac jaW cyI jbC) H := hP
  have hD : va_D A (wd09_29 a0 0 jaF jgt ja7 jby jbf jaM jaY jap jaW jal jam jax jao ja6 jaV ja8 jae jag jaf ja0 ja4 jaP jaw jaI jaZ jaH jaS jan jaU jaE jar jaL jah jaB jaa jaz jaG jab ja2 z0_s jaq jai jaO jaA jat jau jav jaj jas jaJ jak jad jay jac jaW cyI jbC) := hD
  refine lv_aload_n hx hb (dt_of tkX11_feed_k0 3 rfl) rfl (lv_at hl 0 rfl) ?_
  refine va_get (D := (dC, dI)) (ci := 11) (v := .int jgt) (C := RX11) (T := TX11) (N := 55) hx hb hts ui_X11_feed_X11 hown hK hP 0 rfl rfl 2 (by decide) (hts _ uw_X11_feed_f111) (fun _ h9 => h9) rfl (dt_of tkX11_feed_k0 4 rfl) ?_
  refine lv_bipush (v := 20) hx hb (dt_of tkX11_feed_k0 5 rfl) (by decide) ?_
  refine lv_iadd hx hb (dt_of tkX11_feed_k0 6 rfl) ?_
  refine lv_sipush (v := 600) hx hb (dt_of tkX11_feed_k0 7 rfl) (by decide) ?_
  refine lv_icmp_le (tgt := 20) hx hb (dt_of tkX11_feed_k0 8 rfl) (by decide) (fun c1 => ?_) (fun c1 => ?_)
  · have hw := hw.1 c1
    refine lv_iconst (v := 0) hx hb (dt_of tkX11_feed_k0 11 rfl) (by decide) ?_
    refine lv_istore (lv' := [(6, .int 0), (0, .ref a0), (1, .int p1), (2, .int p2), (3, .int p3), (4, .int p4), (5, .int p5)]) hx hb (dt_of tkX11_feed_k0 12 rfl) hl (by decide) rfl (fun ls hl => ?_)
    obtain ⟨n9, hw⟩ := hw
    exact kl_X11_feed_23 dC dI cyB cyI cyJ cyP a0 jaW jaF ja7 jby jbf jaM jaY jap jal jam jax jao ja6 jaV ja8 jae jag jaf ja0 ja4 jaP jaw jaI jaZ jaH jaS jan jaU jaE jar jaL jah jaB jaa jaz jaG jab ja2 z0_s jaq jai jaO jaA jat jau jav jaj jas jaJ jak jad jay jac  Q  C0 n9 _ _ _ 0 jbC jgt p1 p2 p3 p4 p5 0 hP hD hS (lv_sub hl [1, 2, 3, 4, 5, 6, 0] rfl) hw
  · have hw := hw.2 c1
    refine lv_iconst (v := (-1)) hx hb (dt_of tkX11_feed_k0 9 rfl) (by decide) ?_
    exact ((W.iret (v := (-1)) hx hb hr (fun t ht hW => ⟨⟨(-1), (0, jbC, jgt), rfl, hw, by rw [ht]; exact hP, va_K.moved hW.alike hK, hD⟩, hS.F ht⟩) hS.2.2 (dt_of tkX11_feed_k0 10 rfl)))
set_option maxHeartbeats 4000000 in
set_option maxRecDepth 100000 in
theorem kl_X11_least_6 {p : Program} {l : Launch} {e : Env} {s : State} {m : MethodId} {args : Array Value} {below : List Frame} {meth : Method} {c : Code} {A : Nat → Prop} (dC : Nat → ClassId) (dI : Nat → Nat → Nat) (cyB cyI cyJ cyP : ClassId)   (Q : Int64 → Prop)  (C0 : cfx p s m args meth c cX11_least (some .long) wsX11_least RX11 11 A (dC, dI) (kT cyB cyI cyJ cyP)) : ∀ (n : Nat) (H : Heap) (locs : List Loc) (ls : Array Slot) (l0 : Int64) (l2 : Int64) (l4 : Int32) (l5 : Int64) (l7 : Int64), va_P (dC, dI) vwCl [] H → va_D A [] → va_S A s.heap H locs → lv_has ls 11 [(0, .long l0), (2, .long l2), (4, .int l4), (5, .long l5), (7, .long l7)] → wl_X11_least_6  Q  n l0 l2 l4 l5 l7 → W p l e (headSpec wsX11_least ({ frames := 0, cells := 0, slots := 0, locals := 0 })).room s m args below meth c H locs 0 0 (MQ below (va_Ql (fun (r : Int64) (_ : Unit) => Q r ) (cB (dC, dI) (kT cyB cyI cyJ cyP) A (fun u : Unit => ([] : va_W))) A) args s 0 0 A) (F0 m 6 ls []) := by
  obtain ⟨hx, hb, hr, hts, hown, hlocks, hml, hA, hK, hNw⟩ := id C0
  intro n
  induction n with
  | zero => intro H locs ls l0 l2 l4 l5 l7 hP hD hS hl hw; exact False.elim hw
  | succ n ih =>
    intro H locs ls l0 l2 l4 l5 l7 hP hD hS hl hw
    refine lv_lload hx hb (dt_of tkX11_least_k0 4 rfl) (lv_at hl 4 rfl) ?_
    refine lv_lconst (v := 0) hx hb (dt_of tkX11_least_k0 5 rfl) (by decide) ?_
    refine W.lcmp hx hb (dt_of tkX11_least_k0 6 rfl) ?_
    refine lv_if_eq (tgt := 31) hx hb (dt_of tkX11_least_k0 7 rfl) (by decide) (fun c1 => ?_) (fun c1 => ?_)
    · have hw := hw.1 c1
      refine lv_iload hx hb (dt_of tkX11_least_k28 1 rfl) (lv_at hl 2 rfl) ?_
      refine lv_if_ne (tgt := 40) hx hb (dt_of tkX11_least_k28 2 rfl) (by decide) (fun c2 => ?_) (fun c2 => ?_)
      · have hw := hw.1 c2
        refine lv_lload_n hx hb (dt_of tkX11_least_k28 5 rfl) rfl (lv_at hl 1 rfl) ?_
        refine lv_lload hx hb (dt_of tkX11_least_k28 6 rfl) (lv_at hl 3 rfl) ?_
        obtain ⟨hz9, hw⟩ := hw
        refine lv_ldiv hx hb (dt_of tkX11_least_k28 7 rfl) hz9 ?_
        refine lv_topl (fun x3 ex3 => ?_)
        have hw := hw x3 ex3
        exact ((W.lret (v := x3) hx hb hr (fun t ht hW => ⟨⟨x3, (), rfl, hw, by rw [ht]; exact hP, va_K.moved hW.alike hK, hD⟩, hS.F ht⟩) hS.2.2 (dt_of tkX11_least_k28 8 rfl)))
      · have hw := hw.2 c2
        refine lv_lload_n hx hb (dt_of tkX11_least_k28 3 rfl) rfl (lv_at hl 0 rfl) ?_
        refine lv_goto (tgt := 41) hx hb (dt_of tkX11_least_k28 4 rfl) (by decide) ?_
        refine lv_lload hx hb (dt_of tkX11_least_k28 6 rfl) (lv_at hl 3 rfl) ?_
        obtain ⟨hz9, hw⟩ := hw
        refine lv_ldiv hx hb (dt_of tkX11_least_k28 7 rfl) hz9 ?_
        refine lv_topl (fun x4 ex4 => ?_)
        have hw := hw x4 ex4
        exact ((W.lret (v := x4) hx hb hr (fun t ht hW => ⟨⟨x4, (), rfl, hw, by rw [ht]; exact hP, va_K.moved hW.alike hK, hD⟩, hS.F ht⟩) hS.2.2 (dt_of tkX11_least_k28 8 rfl)))
    · have hw := hw.2 c1
      refine lv_lload hx hb (dt_of tkX11_least_k0 8 rfl) (lv_at hl 3 rfl) ?_
      refine lv_lload hx hb (dt_of tkX11_least_k0 9 rfl) (lv_at hl 4 rfl) ?_
      obtain ⟨hz9, hw⟩ := hw
      refine lv_lrem hx hb (dt_of tkX11_least_k0 10 rfl) hz9 ?_
      refine lv_topl (fun x5 ex5 => ?_)
      have hw := hw x5 ex5
      refine lv_lstore (lv' := [(9, .long x5), (0, .long l0), (2, .long l2), (4, .int l4), (5, .long l5), (7, .long l7)]) hx hb (dt_of tkX11_least_k0 11 rfl) hl (by decide) rfl (fun ls hl => ?_)
      refine lv_lload hx hb (dt_of tkX11_least_k0 12 rfl) (lv_at hl 5 rfl) ?_
      refine lv_lstore (lv' := [(5, .long l7), (9, .long x5), (0, .long l0), (2, .long l2), (4, .int l4), (7, .long l7)]) hx hb (dt_of tkX11_least_k0 13 rfl) hl (by decide) rfl (fun ls hl => ?_)
      refine lv_lload hx hb (dt_of tkX11_least_k0 14 rfl) (lv_at hl 1 rfl) ?_
      refine lv_lstore (lv' := [(7, .long x5), (5, .long l7), (9, .long x5), (0, .long l0), (2, .long l2), (4, .int l4)]) hx hb (dt_of tkX11_least_k0 15 rfl) hl (by decide) rfl (fun ls hl => ?_)
      refine lv_goto (tgt := 6) hx hb (dt_of tkX11_least_k28 0 rfl) (by decide) ?_
      exact ih _ _ _ l0 l2 l4 l7 x5 hP hD hS (lv_sub hl [3, 4, 5, 1, 0] rfl) hw
set_option maxHeartbeats 4000000 in
set_option maxRecDepth 100000 in
theorem ck_X11_least (l : Launch) (dC : Nat → ClassId) (dI : Nat → Nat → Nat) (cyB cyI cyJ cyP : ClassId) (sz : Nat)    (p0 : Int64) (p2 : Int64) (p4 : Int32) {Q : Int64 → Prop} (hw : wq_X11_least   p0 p2 p4 Q) : Met l yX11_least wsX11_least ({ frames := 0, cells := 0, slots := 0, locals := 0 }) (va_Pc [.long p0, .long p2, .int p4] (cPc (dC, dI) (kT cyB cyI cyJ cyP) [] sz)) (va_Ql (fun (r : Int64) (_ : Unit) => Q r ) (cB (dC, dI) (kT cyB cyI cyJ cyP) (va_A [] sz) (fun u : Unit => ([] : va_W))) (va_A [] sz)) 0 0 (va_A [] sz) := by
  refine Met.ofW (cc := cX11_least) (maxL := 11) (ret := (some .long)) (by decide) rfl ?_
  intro p e s m args below meth c s₁ B hml hv
  obtain ⟨rfl, hsz, hP, hK, hD0, hNw⟩ := hv
  have hx := B.exec
  have hb := B.bytes
  have hr := B.returns
  have hts := atoms_spec (ws := wsX11_least) B.pre
  have hown : s.vm.findClass RX11 = some m.cls := findClass_of_methodNamed B.named
  have hlocks := B.notSynchronized
  subst hsz
  have hD := hD0.self (sz := s.heap.size)
  generalize hAe : va_A [] s.heap.size = A at hD ⊢
  have hA : ∀ q : Nat, s.heap.size ≤ q → A q := fun q h => by rw [← hAe]; exact Or.inr h
  have hS : va_S A s.heap s.heap [] := va_S.rf
  have hP : va_P (dC, dI) vwCl [] s.heap := hP
  have hl := lv_entry ([.long p0, .long p2, .int p4]) (n := 11) (Nat.le_of_ble_eq_true rfl)
  rw [lg_entry_eq]
  generalize (lg_sl ([.long p0, .long p2, .int p4]) ++ List.replicate (11 - (lg_sl ([.long p0, .long p2, .int p4])).length) Slot.unset).toArray = ls at hl ⊢
  have hl : lv_has ls 11 [(0, .long p0), (2, .long p2), (4, .int p4)] := hl
  have C0 : cfx p s m _ meth c cX11_least (some .long) wsX11_least RX11 11 A (dC, dI) (kT cyB cyI cyJ cyP) := ⟨hx, hb, hr, hts, hown, hlocks, hml, hA, hK, hNw⟩
  clear hAe
  obtain ⟨H, hH⟩ : ∃ H, H = s.heap := ⟨_, rfl⟩
  rw [← hH] at hP ⊢
  have hS : va_S A s.heap H [] := by rw [hH]; exact va_S.rf
  have hS := hS
  refine lv_lload_n hx hb (dt_of tkX11_least_k0 0 rfl) rfl (lv_at hl 0 rfl) ?_
  refine lv_lstore (lv' := [(5, .long p0), (0, .long p0), (2, .long p2), (4, .int p4)]) hx hb (dt_of tkX11_least_k0 1 rfl) hl (by decide) rfl (fun ls hl => ?_)
  refine lv_lload_n hx hb (dt_of tkX11_least_k0 2 rfl) rfl (lv_at hl 2 rfl) ?_
  refine lv_lstore (lv' := [(7, .long p2), (5, .long p0), (0, .long p0), (2, .long p2), (4, .int p4)]) hx hb (dt_of tkX11_least_k0 3 rfl) hl (by decide) rfl (fun ls hl => ?_)
  obtain ⟨n9, hw⟩ := hw
  exact kl_X11_least_6 dC dI cyB cyI cyJ cyP    Q  C0 n9 _ _ _ p0 p2 p4 p0 p2 hP hD hS (lv_sub hl [2, 3, 4, 1, 0] rfl) hw
theorem ui_X11_few_X11 : ∀ w ∈ u_ws RX11 TX11 55, w ∈ wsX11_few := uiM mbX11_few euX11 (by decide +kernel)
theorem uw_X11_few_f3 : (.fieldLink RX11 3 "MarchHaresModel" "thrown" "I" : Cond) ∈ wsX11_few := mbX11_few 589 (by decide +kernel)
theorem uw_X11_few_f98 : (.fieldLink RX11 98 "MarchHaresModel" "seen" "[J" : Cond) ∈ wsX11_few := mbX11_few 466 (by decide +kernel)
theorem uw_X11_few_k433 : (.constantLong RX11 433 (16) : Cond) ∈ wsX11_few := mbX11_few 3776 (by decide +kernel)
set_option maxHeartbeats 4000000 in
set_option maxRecDepth 100000 in
theorem kb_X11_few_87 {p : Program} {l : Launch} {e : Env} {s : State} {m : MethodId} {args : Array Value} {below : List Frame} {meth : Method} {c : Code} {A : Nat → Prop} (dC : Nat → ClassId) (dI : Nat → Nat → Nat) (cyB cyI cyJ cyP : ClassId) (a0 jaQ jjj : Nat) (jaD ja7 jby jbf jaM jaY jap jaK jal jam jax jao ja6 jaV ja8 jae jag jaf ja0 ja4 jaP jaw jaI jaZ jaH jaS jan jaU jaE jar jaL jah jaB jaa jaz jaG jab ja2 z0_s jaq jai jaO jaA jat jau jav jaj jas jak jad jay jac : Value)  (Q : Int64 → Int32 → (Nat → Int32) → (Nat → Int64) → Prop) (K64 : Int32 → (Nat → Int32) → (Nat → Int64) → Int32 → Int32 → Int32 → Int32 → Int32 → Prop) (hK64 : ∀ (H : Heap) (locs : List Loc) (ls : Array Slot) (jbd : Int32) (ja9 : Nat → Int32) (jkG : Nat → Int64) (l1 l2 l3 l4 l5 : Int32), va_P (dC, dI) vwCl (wd09_30 a0 jbd jaQ jaD ja7 jby jbf jaM jaY jap jaK jal jam jax jao ja6 jaV ja8 jae jag jaf ja0 ja4 jaP jaw jaI jaZ jaH jaS jan jaU jaE jar jaL jah jaB jaa jaz jaG jab ja2 z0_s jaq jai jaO jaA jat jau jav jaj jas jjj jak jad jay jac jaQ cyI ja9 jjj cyJ jkG) H → va_D A (wd09_30 a0 jbd jaQ jaD ja7 jby jbf jaM jaY jap jaK jal jam jax jao ja6 jaV ja8 jae jag jaf ja0 ja4 jaP jaw jaI jaZ jaH jaS jan jaU jaE jar jaL jah jaB jaa jaz jaG jab ja2 z0_s jaq jai jaO jaA jat jau jav jaj jas jjj jak jad jay jac jaQ cyI ja9 jjj cyJ jkG) → va_S A s.heap H locs → lv_has ls 10 [(0, .ref a0), (1, .int l1), (2, .int l2), (3, .int l3), (4, .int l4), (5, .int l5)] → K64 jbd ja9 jkG l1 l2 l3 l4 l5 → W p l e (headSpec wsX11_few ({ frames := 1, cells := 0, slots := 0, locals := 30 })).room s m args below meth c H locs 0 0 (MQ below (va_Ql (fun (r : Int64) (u : Int32 × (Nat → Int32) × (Nat → Int64)) => Q r u.1 u.2.1 u.2.2) (cB (dC, dI) (kT cyB cyI cyJ cyP) A (fun u : Int32 × (Nat → Int32) × (Nat → Int64) => ((wd09_30 a0 u.1 jaQ jaD ja7 jby jbf jaM jaY jap jaK jal jam jax jao ja6 jaV ja8 jae jag jaf ja0 ja4 jaP jaw jaI jaZ jaH jaS jan jaU jaE jar jaL jah jaB jaa jaz jaG jab ja2 z0_s jaq jai jaO jaA jat jau jav jaj jas jjj jak jad jay jac jaQ cyI u.2.1 jjj cyJ u.2.2) : va_W))) A) args s 0 0 A) (F0 m 64 ls [])) (C0 : cfx p s m args meth c cX11_few (some .long) wsX11_few RX11 10 A (dC, dI) (kT cyB cyI cyJ cyP)) : ∀ (H : Heap) (locs : List Loc) (ls : Array Slot) (jbd : Int32) (ja9 : Nat → Int32) (jkG : Nat → Int64) (l1 l2 l3 l4 l5 s1 : Int32) (s2 : Int64), va_P (dC, dI) vwCl (wd09_30 a0 jbd jaQ jaD ja7 jby jbf jaM jaY jap jaK jal jam jax jao ja6 jaV ja8 jae jag jaf ja0 ja4 jaP jaw jaI jaZ jaH jaS jan jaU jaE jar jaL jah jaB jaa jaz jaG jab ja2 z0_s jaq jai jaO jaA jat jau jav jaj jas jjj jak jad jay jac jaQ cyI ja9 jjj cyJ jkG) H → va_D A (wd09_30 a0 jbd jaQ jaD ja7 jby jbf jaM jaY jap jaK jal jam jax jao ja6 jaV ja8 jae jag jaf ja0 ja4 jaP jaw jaI jaZ jaH jaS jan jaU jaE jar jaL jah jaB jaa jaz jaG jab ja2 z0_s jaq jai jaO jaA jat jau jav jaj jas jjj jak jad jay jac jaQ cyI ja9 jjj cyJ jkG) → va_S A s.heap H locs → lv_has ls 10 [(0, .ref a0), (1, .int l1), (2, .int l2), (3, .int l3), (4, .int l4), (5, .int l5)] → wb_X11_few_87  Q K64 jbd ja9 jkG l1 l2 l3 l4 l5 s1 s2 → W p l e (headSpec wsX11_few ({ frames := 1, cells := 0, slots := 0, locals := 30 })).room s m args below meth c H locs 0 0 (MQ below (va_Ql (fun (r : Int64) (u : Int32 × (Nat → Int32) × (Nat → Int64)) => Q r u.1 u.2.1 u.2.2) (cB (dC, dI) (kT cyB cyI cyJ cyP) A (fun u : Int32 × (Nat → Int32) × (Nat → Int64) => ((wd09_30 a0 u.1 jaQ jaD ja7 jby jbf jaM jaY jap jaK jal jam jax jao ja6 jaV ja8 jae jag jaf ja0 ja4 jaP jaw jaI jaZ jaH jaS jan jaU jaE jar jaL jah jaB jaa jaz jaG jab ja2 z0_s jaq jai jaO jaA jat jau jav jaj jas jjj jak jad jay jac jaQ cyI u.2.1 jjj cyJ u.2.2) : va_W))) A) args s 0 0 A) (F0 m 87 ls [.long s2, .int s1, .ref jjj]) := by
  obtain ⟨hx, hb, hr, hts, hown, hlocks, hml, hA, hK, hNw⟩ := id C0
  intro H locs ls jbd ja9 jkG l1 l2 l3 l4 l5 s1 s2 hP hD hS hl hw
  obtain ⟨hi9, hw⟩ := hw
  refine va_last hx hb hK hP hD hS 2 2 rfl rfl hi9 (dt_of tkX11_few_k60 14 rfl) (fun H locs hP hD hS => ?_)
  obtain ⟨f16, ef16⟩ : ∃ y : Nat → Int64, y = vp_updL jkG s1.toNatClampNeg s2 := ⟨_, rfl⟩
  have hw := hw f16 ef16
  have hP : va_P (dC, dI) vwCl (wd09_30 a0 jbd jaQ jaD ja7 jby jbf jaM jaY jap jaK jal jam jax jao ja6 jaV ja8 jae jag jaf ja0 ja4 jaP jaw jaI jaZ jaH jaS jan jaU jaE jar jaL jah jaB jaa jaz jaG jab ja2 z0_s jaq jai jaO jaA jat jau jav jaj jas jjj jak jad jay jac jaQ cyI ja9 jjj cyJ f16) H := by rw [ef16]; exact hP
  have hD : va_D A (wd09_30 a0 jbd jaQ jaD ja7 jby jbf jaM jaY jap jaK jal jam jax jao ja6 jaV ja8 jae jag jaf ja0 ja4 jaP jaw jaI jaZ jaH jaS jan jaU jaE jar jaL jah jaB jaa jaz jaG jab ja2 z0_s jaq jai jaO jaA jat jau jav jaj jas jjj jak jad jay jac jaQ cyI ja9 jjj cyJ f16) := by rw [ef16]; exact hD
  obtain ⟨x17, ex17⟩ : ∃ y : Int32, y = l5 + 1 := ⟨_, rfl⟩
  have hw := hw x17 ex17
  refine lv_iinc (v := x17) (lv' := [(5, .int x17), (0, .ref a0), (1, .int l1), (2, .int l2), (3, .int l3), (4, .int l4)]) hx hb (dt_of tkX11_few_k60 15 rfl) hl (k := 5) rfl (by rw [ex17]; rfl) (by decide) rfl (fun ls hl => ?_)
  refine lv_goto (tgt := 64) hx hb (dt_of tkX11_few_k91 0 rfl) (by decide) ?_
  exact hK64 _ _ _ jbd ja9 f16 l1 l2 l3 l4 x17 hP hD hS (lv_sub hl [1, 2, 3, 4, 5, 0] rfl) hw
set_option maxHeartbeats 4000000 in
set_option maxRecDepth 100000 in
theorem kb_X11_few_155 {p : Program} {l : Launch} {e : Env} {s : State} {m : MethodId} {args : Array Value} {below : List Frame} {meth : Method} {c : Code} {A : Nat → Prop} (dC : Nat → ClassId) (dI : Nat → Nat → Nat) (cyB cyI cyJ cyP : ClassId) (a0 jaQ jjj : Nat) (jaD ja7 jby jbf jaM jaY jap jaK jal jam jax jao ja6 jaV ja8 jae jag jaf ja0 ja4 jaP jaw jaI jaZ jaH jaS jan jaU jaE jar jaL jah jaB jaa jaz jaG jab ja2 z0_s jaq jai jaO jaA jat jau jav jaj jas jak jad jay jac : Value)  (Q : Int64 → Int32 → (Nat → Int32) → (Nat → Int64) → Prop) (K100 : Int32 → (Nat → Int32) → (Nat → Int64) → Int32 → Int32 → Int32 → Int32 → Int64 → Int32 → Prop) (K110 : Int32 → (Nat → Int32) → (Nat → Int64) → Int32 → Int32 → Int32 → Int32 → Int64 → Int32 → Int32 → Prop) (hK100 : ∀ (H : Heap) (locs : List Loc) (ls : Array Slot) (jbd : Int32) (ja9 : Nat → Int32) (jkG : Nat → Int64) (l1 l2 l3 l4 : Int32) (l5 : Int64) (l7 : Int32), va_P (dC, dI) vwCl (wd09_30 a0 jbd jaQ jaD ja7 jby jbf jaM jaY jap jaK jal jam jax jao ja6 jaV ja8 jae jag jaf ja0 ja4 jaP jaw jaI jaZ jaH jaS jan jaU jaE jar jaL jah jaB jaa jaz jaG jab ja2 z0_s jaq jai jaO jaA jat jau jav jaj jas jjj jak jad jay jac jaQ cyI ja9 jjj cyJ jkG) H → va_D A (wd09_30 a0 jbd jaQ jaD ja7 jby jbf jaM jaY jap jaK jal jam jax jao ja6 jaV ja8 jae jag jaf ja0 ja4 jaP jaw jaI jaZ jaH jaS jan jaU jaE jar jaL jah jaB jaa jaz jaG jab ja2 z0_s jaq jai jaO jaA jat jau jav jaj jas jjj jak jad jay jac jaQ cyI ja9 jjj cyJ jkG) → va_S A s.heap H locs → lv_has ls 10 [(0, .ref a0), (1, .int l1), (2, .int l2), (3, .int l3), (4, .int l4), (5, .long l5), (7, .int l7)] → K100 jbd ja9 jkG l1 l2 l3 l4 l5 l7 → W p l e (headSpec wsX11_few ({ frames := 1, cells := 0, slots := 0, locals := 30 })).room s m args below meth c H locs 0 0 (MQ below (va_Ql (fun (r : Int64) (u : Int32 × (Nat → Int32) × (Nat → Int64)) => Q r u.1 u.2.1 u.2.2) (cB (dC, dI) (kT cyB cyI cyJ cyP) A (fun u : Int32 × (Nat → Int32) × (Nat → Int64) => ((wd09_30 a0 u.1 jaQ jaD ja7 jby jbf jaM jaY jap jaK jal jam jax jao ja6 jaV ja8 jae jag jaf ja0 ja4 jaP jaw jaI jaZ jaH jaS jan jaU jaE jar jaL jah jaB jaa jaz jaG jab ja2 z0_s jaq jai jaO jaA jat jau jav jaj jas jjj jak jad jay jac jaQ cyI u.2.1 jjj cyJ u.2.2) : va_W))) A) args s 0 0 A) (F0 m 100 ls [])) (hK110 : ∀ (H : Heap) (locs : List Loc) (ls : Array Slot) (jbd : Int32) (ja9 : Nat → Int32) (jkG : Nat → Int64) (l1 l2 l3 l4 : Int32) (l5 : Int64) (l7 l8 : Int32), va_P (dC, dI) vwCl (wd09_30 a0 jbd jaQ jaD ja7 jby jbf jaM jaY jap jaK jal jam jax jao ja6 jaV ja8 jae jag jaf ja0 ja4 jaP jaw jaI jaZ jaH jaS jan jaU jaE jar jaL jah jaB jaa jaz jaG jab ja2 z0_s jaq jai jaO jaA jat jau jav jaj jas jjj jak jad jay jac jaQ cyI ja9 jjj cyJ jkG) H → va_D A (wd09_30 a0 jbd jaQ jaD ja7 jby jbf jaM jaY jap jaK jal jam jax jao ja6 jaV ja8 jae jag jaf ja0 ja4 jaP jaw jaI jaZ jaH jaS jan jaU jaE jar jaL jah jaB jaa jaz jaG jab ja2 z0_s jaq jai jaO jaA jat jau jav jaj jas jjj jak jad jay jac jaQ cyI ja9 jjj cyJ jkG) → va_S A s.heap H locs → lv_has ls 10 [(0, .ref a0), (1, .int l1), (2, .int l2), (3, .int l3), (4, .int l4), (5, .long l5), (7, .int l7), (8, .int l8)] → K110 jbd ja9 jkG l1 l2 l3 l4 l5 l7 l8 → W p l e (headSpec wsX11_few ({ frames := 1, cells := 0, slots := 0, locals := 30 })).room s m args below meth c H locs 0 0 (MQ below (va_Ql (fun (r : Int64) (u : Int32 × (Nat → Int32) × (Nat → Int64)) => Q r u.1 u.2.1 u.2.2) (cB (dC, dI) (kT cyB cyI cyJ cyP) A (fun u : Int32 × (Nat → Int32) × (Nat → Int64) => ((wd09_30 a0 u.1 jaQ jaD ja7 jby jbf jaM jaY jap jaK jal jam jax jao ja6 jaV ja8 jae jag jaf ja0 ja4 jaP jaw jaI jaZ jaH jaS jan jaU jaE jar jaL jah jaB jaa jaz jaG jab ja2 z0_s jaq jai jaO jaA jat jau jav jaj jas jjj jak jad jay jac jaQ cyI u.2.1 jjj cyJ u.2.2) : va_W))) A) args s 0 0 A) (F0 m 110 ls [])) (C0 : cfx p s m args meth c cX11_few (some .long) wsX11_few RX11 10 A (dC, dI) (kT cyB cyI cyJ cyP)) : ∀ (H : Heap) (locs : List Loc) (ls : Array Slot) (jbd : Int32) (ja9 : Nat → Int32) (jkG : Nat → Int64) (l1 l2 l3 l4 : Int32) (l5 : Int64) (l7 l8 s1 : Int32) (s2 : Int64) (s3 : Int64), va_P (dC, dI) vwCl (wd09_30 a0 jbd jaQ jaD ja7 jby jbf jaM jaY jap jaK jal jam jax jao ja6 jaV ja8 jae jag jaf ja0 ja4 jaP jaw jaI jaZ jaH jaS jan jaU jaE jar jaL jah jaB jaa jaz jaG jab ja2 z0_s jaq jai jaO jaA jat jau jav jaj jas jjj jak jad jay jac jaQ cyI ja9 jjj cyJ jkG) H → va_D A (wd09_30 a0 jbd jaQ jaD ja7 jby jbf jaM jaY jap jaK jal jam jax jao ja6 jaV ja8 jae jag jaf ja0 ja4 jaP jaw jaI jaZ jaH jaS jan jaU jaE jar jaL jah jaB jaa jaz jaG jab ja2 z0_s jaq jai jaO jaA jat jau jav jaj jas jjj jak jad jay jac jaQ cyI ja9 jjj cyJ jkG) → va_S A s.heap H locs → lv_has ls 10 [(0, .ref a0), (1, .int l1), (2, .int l2), (3, .int l3), (4, .int l4), (5, .long l5), (7, .int l7), (8, .int l8)] → wb_X11_few_155  Q K100 K110 jbd ja9 jkG l1 l2 l3 l4 l5 l7 l8 s1 s2 s3 → W p l e (headSpec wsX11_few ({ frames := 1, cells := 0, slots := 0, locals := 30 })).room s m args below meth c H locs 0 0 (MQ below (va_Ql (fun (r : Int64) (u : Int32 × (Nat → Int32) × (Nat → Int64)) => Q r u.1 u.2.1 u.2.2) (cB (dC, dI) (kT cyB cyI cyJ cyP) A (fun u : Int32 × (Nat → Int32) × (Nat → Int64) => ((wd09_30 a0 u.1 jaQ jaD ja7 jby jbf jaM jaY jap jaK jal jam jax jao ja6 jaV ja8 jae jag jaf ja0 ja4 jaP jaw jaI jaZ jaH jaS jan jaU jaE jar jaL jah jaB jaa jaz jaG jab ja2 z0_s jaq jai jaO jaA jat jau jav jaj jas jjj jak jad jay jac jaQ cyI u.2.1 jjj cyJ u.2.2) : va_W))) A) args s 0 0 A) (F0 m 155 ls [.long s3, .long s2, .int s1, .ref jjj]) := by
  obtain ⟨hx, hb, hr, hts, hown, hlocks, hml, hA, hK, hNw⟩ := id C0
  intro H locs ls jbd ja9 jkG l1 l2 l3 l4 l5 l7 l8 s1 s2 s3 hP hD hS hl hw
  refine lv_ladd hx hb (dt_of tkX11_few_k148 5 rfl) ?_
  refine lv_topl (fun x30 ex30 => ?_)
  have hw := hw x30 ex30
  obtain ⟨hi9, hw⟩ := hw
  refine va_last hx hb hK hP hD hS 2 2 rfl rfl hi9 (dt_of tkX11_few_k148 6 rfl) (fun H locs hP hD hS => ?_)
  obtain ⟨f31, ef31⟩ : ∃ y : Nat → Int64, y = vp_updL jkG s1.toNatClampNeg x30 := ⟨_, rfl⟩
  have hw := hw f31 ef31
  have hP : va_P (dC, dI) vwCl (wd09_30 a0 jbd jaQ jaD ja7 jby jbf jaM jaY jap jaK jal jam jax jao ja6 jaV ja8 jae jag jaf ja0 ja4 jaP jaw jaI jaZ jaH jaS jan jaU jaE jar jaL jah jaB jaa jaz jaG jab ja2 z0_s jaq jai jaO jaA jat jau jav jaj jas jjj jak jad jay jac jaQ cyI ja9 jjj cyJ f31) H := by rw [ef31]; exact hP
  have hD : va_D A (wd09_30 a0 jbd jaQ jaD ja7 jby jbf jaM jaY jap jaK jal jam jax jao ja6 jaV ja8 jae jag jaf ja0 ja4 jaP jaw jaI jaZ jaH jaS jan jaU jaE jar jaL jah jaB jaa jaz jaG jab ja2 z0_s jaq jai jaO jaA jat jau jav jaj jas jjj jak jad jay jac jaQ cyI ja9 jjj cyJ f31) := by rw [ef31]; exact hD
  obtain ⟨x32, ex32⟩ : ∃ y : Int32, y = l8 + (-1) := ⟨_, rfl⟩
  have hw := hw x32 ex32
  refine lv_iinc (v := x32) (lv' := [(8, .int x32), (0, .ref a0), (1, .int l1), (2, .int l2), (3, .int l3), (4, .int l4), (5, .long l5), (7, .int l7)]) hx hb (dt_of tkX11_few_k148 7 rfl) hl (k := 7) rfl (by rw [ex32]; rfl) (by decide) rfl (fun ls hl => ?_)
  refine lv_goto (tgt := 110) hx hb (dt_of tkX11_few_k148 8 rfl) (by decide) ?_
  exact hK110 _ _ _ jbd ja9 f31 l1 l2 l3 l4 l5 l7 x32 hP hD hS (lv_sub hl [1, 2, 3, 4, 5, 6, 7, 0] rfl) hw
set_option maxHeartbeats 4000000 in
set_option maxRecDepth 100000 in
theorem kl_X11_few_110 {p : Program} {l : Launch} {e : Env} {s : State} {m : MethodId} {args : Array Value} {below : List Frame} {meth : Method} {c : Code} {A : Nat → Prop} (dC : Nat → ClassId) (dI : Nat → Nat → Nat) (cyB cyI cyJ cyP : ClassId) (a0 jaQ jjj : Nat) (jaD ja7 jby jbf jaM jaY jap jaK jal jam jax jao ja6 jaV ja8 jae jag jaf ja0 ja4 jaP jaw jaI jaZ jaH jaS jan jaU jaE jar jaL jah jaB jaa jaz jaG jab ja2 z0_s jaq jai jaO jaA jat jau jav jaj jas jak jad jay jac : Value)  (Q : Int64 → Int32 → (Nat → Int32) → (Nat → Int64) → Prop) (K100 : Int32 → (Nat → Int32) → (Nat → Int64) → Int32 → Int32 → Int32 → Int32 → Int64 → Int32 → Prop) (hK100 : ∀ (H : Heap) (locs : List Loc) (ls : Array Slot) (jbd : Int32) (ja9 : Nat → Int32) (jkG : Nat → Int64) (l1 l2 l3 l4 : Int32) (l5 : Int64) (l7 : Int32), va_P (dC, dI) vwCl (wd09_30 a0 jbd jaQ jaD ja7 jby jbf jaM jaY jap jaK jal jam jax jao ja6 jaV ja8 jae jag jaf ja0 ja4 jaP jaw jaI jaZ jaH jaS jan jaU jaE jar jaL jah jaB jaa jaz jaG jab ja2 z0_s jaq jai jaO jaA jat jau jav jaj jas jjj jak jad jay jac jaQ cyI ja9 jjj cyJ jkG) H → va_D A (wd09_30 a0 jbd jaQ jaD ja7 jby jbf jaM jaY jap jaK jal jam jax jao ja6 jaV ja8 jae jag jaf ja0 ja4 jaP jaw jaI jaZ jaH jaS jan jaU jaE jar jaL jah jaB jaa jaz jaG jab ja2 z0_s jaq jai jaO jaA jat jau jav jaj jas jjj jak jad jay jac jaQ cyI ja9 jjj cyJ jkG) → va_S A s.heap H locs → lv_has ls 10 [(0, .ref a0), (1, .int l1), (2, .int l2), (3, .int l3), (4, .int l4), (5, .long l5), (7, .int l7)] → K100 jbd ja9 jkG l1 l2 l3 l4 l5 l7 → W p l e (headSpec wsX11_few ({ frames := 1, cells := 0, slots := 0, locals := 30 })).room s m args below meth c H locs 0 0 (MQ below (va_Ql (fun (r : Int64) (u : Int32 × (Nat → Int32) × (Nat → Int64)) => Q r u.1 u.2.1 u.2.2) (cB (dC, dI) (kT cyB cyI cyJ cyP) A (fun u : Int32 × (Nat → Int32) × (Nat → Int64) => ((wd09_30 a0 u.1 jaQ jaD ja7 jby jbf jaM jaY jap jaK jal jam jax jao ja6 jaV ja8 jae jag jaf ja0 ja4 jaP jaw jaI jaZ jaH jaS jan jaU jaE jar jaL jah jaB jaa jaz jaG jab ja2 z0_s jaq jai jaO jaA jat jau jav jaj jas jjj jak jad jay jac jaQ cyI u.2.1 jjj cyJ u.2.2) : va_W))) A) args s 0 0 A) (F0 m 100 ls [])) (C0 : cfx p s m args meth c cX11_few (some .long) wsX11_few RX11 10 A (dC, dI) (kT cyB cyI cyJ cyP)) : ∀ (n : Nat) (H : Heap) (locs : List Loc) (ls : Array Slot) (jbd : Int32) (ja9 : Nat → Int32) (jkG : Nat → Int64) (l1 l2 l3 l4 : Int32) (l5 : Int64) (l7 l8 : Int32), va_P (dC, dI) vwCl (wd09_30 a0 jbd jaQ jaD ja7 jby jbf jaM jaY jap jaK jal jam jax jao ja6 jaV ja8 jae jag jaf ja0 ja4 jaP jaw jaI jaZ jaH jaS jan jaU jaE jar jaL jah jaB jaa jaz jaG jab ja2 z0_s jaq jai jaO jaA jat jau jav jaj jas jjj jak jad jay jac jaQ cyI ja9 jjj cyJ jkG) H → va_D A (wd09_30 a0 jbd jaQ jaD ja7 jby jbf jaM jaY jap jaK jal jam jax jao ja6 jaV ja8 jae jag jaf ja0 ja4 jaP jaw jaI jaZ jaH jaS jan jaU jaE jar jaL jah jaB jaa jaz jaG jab ja2 z0_s jaq jai jaO jaA jat jau jav jaj jas jjj jak jad jay jac jaQ cyI ja9 jjj cyJ jkG) → va_S A s.heap H locs → lv_has ls 10 [(0, .ref a0), (1, .int l1), (2, .int l2), (3, .int l3), (4, .int l4), (5, .long l5), (7, .int l7), (8, .int l8)] → wl_X11_few_110  Q K100 n jbd ja9 jkG l1 l2 l3 l4 l5 l7 l8 → W p l e (headSpec wsX11_few ({ frames := 1, cells := 0, slots := 0, locals := 30 })).room s m args below meth c H locs 0 0 (MQ below (va_Ql (fun (r : Int64) (u : Int32 × (Nat → Int32) × (Nat → Int64)) => Q r u.1 u.2.1 u.2.2) (cB (dC, dI) (kT cyB cyI cyJ cyP) A (fun u : Int32 × (Nat → Int32) × (Nat → Int64) => ((wd09_30 a0 u.1 jaQ jaD ja7 jby jbf jaM jaY jap jaK jal jam jax jao ja6 jaV ja8 jae jag jaf ja0 ja4 jaP jaw jaI jaZ jaH jaS jan jaU jaE jar jaL jah jaB jaa jaz jaG jab ja2 z0_s jaq jai jaO jaA jat jau jav jaj jas jjj jak jad jay jac jaQ cyI u.2.1 jjj cyJ u.2.2) : va_W))) A) args s 0 0 A) (F0 m 110 ls []) := by
  obtain ⟨hx, hb, hr, hts, hown, hlocks, hml, hA, hK, hNw⟩ := id C0
  intro n
  induction n with
  | zero => intro H locs ls jbd ja9 jkG l1 l2 l3 l4 l5 l7 l8 hP hD hS hl hw; exact False.elim hw
  | succ n ih =>
    intro H locs ls jbd ja9 jkG l1 l2 l3 l4 l5 l7 l8 hP hD hS hl hw
    refine lv_iload hx hb (dt_of tkX11_few_k91 10 rfl) (lv_at hl 7 rfl) ?_
    refine lv_if_lt (tgt := 163) hx hb (dt_of tkX11_few_k91 11 rfl) (by decide) (fun c23 => ?_) (fun c23 => ?_)
    · have hw := hw.1 c23
      refine lv_lload hx hb (dt_of tkX11_few_k148 9 rfl) (lv_at hl 5 rfl) ?_
      refine lv_ldc2 (v := 16) hx hb hown (hts _ uw_X11_few_k433) (dt_of tkX11_few_k148 10 rfl) ?_
      refine lv_lmul hx hb (dt_of tkX11_few_k148 11 rfl) ?_
      refine lv_topl (fun x24 ex24 => ?_)
      have hw := hw x24 ex24
      refine lv_lstore (lv' := [(5, .long x24), (0, .ref a0), (1, .int l1), (2, .int l2), (3, .int l3), (4, .int l4), (7, .int l7), (8, .int l8)]) hx hb (dt_of tkX11_few_k148 12 rfl) hl (by decide) rfl (fun ls hl => ?_)
      obtain ⟨x25, ex25⟩ : ∃ y : Int32, y = l7 + 1 := ⟨_, rfl⟩
      have hw := hw x25 ex25
      refine lv_iinc (v := x25) (lv' := [(7, .int x25), (5, .long x24), (0, .ref a0), (1, .int l1), (2, .int l2), (3, .int l3), (4, .int l4), (8, .int l8)]) hx hb (dt_of tkX11_few_k148 13 rfl) hl (k := 6) rfl (by rw [ex25]; rfl) (by decide) rfl (fun ls hl => ?_)
      refine lv_goto (tgt := 100) hx hb (dt_of tkX11_few_k148 14 rfl) (by decide) ?_
      exact hK100 _ _ _ jbd ja9 jkG l1 l2 l3 l4 x24 x25 hP hD hS (lv_sub hl [2, 3, 4, 5, 6, 1, 0] rfl) hw
    · have hw := hw.2 c23
      refine lv_aload_n hx hb (dt_of tkX11_few_k91 12 rfl) rfl (lv_at hl 0 rfl) ?_
      refine va_get (D := (dC, dI)) (ci := 11) (v := .ref jjj) (C := RX11) (T := TX11) (N := 55) hx hb hts ui_X11_few_X11 hown hK hP 0 rfl rfl 50 (by decide) (hts _ uw_X11_few_f98) (fun _ h9 => h9) rfl (dt_of tkX11_few_k91 13 rfl) ?_
      refine lv_iload hx hb (dt_of tkX11_few_k91 14 rfl) (lv_at hl 7 rfl) ?_
      refine lv_aload_n hx hb (dt_of tkX11_few_k91 15 rfl) rfl (lv_at hl 0 rfl) ?_
      refine va_get (D := (dC, dI)) (ci := 11) (v := .ref jjj) (C := RX11) (T := TX11) (N := 55) hx hb hts ui_X11_few_X11 hown hK hP 0 rfl rfl 50 (by decide) (hts _ uw_X11_few_f98) (fun _ h9 => h9) rfl (dt_of tkX11_few_k122 0 rfl) ?_
      refine lv_iload hx hb (dt_of tkX11_few_k122 1 rfl) (lv_at hl 7 rfl) ?_
      obtain ⟨hi9, hw⟩ := hw
      refine va_lald hx hb hK hP 2 2 rfl rfl hi9 (dt_of tkX11_few_k122 2 rfl) ?_
      refine lv_topl (fun x26 ex26 => ?_)
      have hw := hw x26 ex26
      refine lv_bipush (v := 16) hx hb (dt_of tkX11_few_k122 3 rfl) (by decide) ?_
      refine lv_iload_n hx hb (dt_of tkX11_few_k122 4 rfl) rfl (lv_at hl 3 rfl) ?_
      refine lv_isub hx hb (dt_of tkX11_few_k122 5 rfl) ?_
      refine lv_i2l (v := (16 - l3).toInt64) hx hb (dt_of tkX11_few_k122 6 rfl) rfl ?_
      refine lv_lmul hx hb (dt_of tkX11_few_k122 7 rfl) ?_
      refine lv_iload hx hb (dt_of tkX11_few_k122 8 rfl) (lv_at hl 7 rfl) ?_
      refine lv_if_le (tgt := 154) hx hb (dt_of tkX11_few_k122 9 rfl) (by decide) (fun c27 => ?_) (fun c27 => ?_)
      · have hw := hw.1 c27
        refine lv_lconst (v := 0) hx hb (dt_of tkX11_few_k148 4 rfl) (by decide) ?_
        exact kb_X11_few_155 dC dI cyB cyI cyJ cyP a0 jaQ jjj jaD ja7 jby jbf jaM jaY jap jaK jal jam jax jao ja6 jaV ja8 jae jag jaf ja0 ja4 jaP jaw jaI jaZ jaH jaS jan jaU jaE jar jaL jah jaB jaa jaz jaG jab ja2 z0_s jaq jai jaO jaA jat jau jav jaj jas jak jad jay jac  Q K100 (wl_X11_few_110  Q K100 n) hK100 ih C0 _ _ _ jbd ja9 jkG l1 l2 l3 l4 l5 l7 l8 l8 (x26 * ((16 - l3).toInt64)) 0 hP hD hS (lv_sub hl [0, 1, 2, 3, 4, 5, 6, 7] rfl) hw
      · have hw := hw.2 c27
        refine lv_aload_n hx hb (dt_of tkX11_few_k122 10 rfl) rfl (lv_at hl 0 rfl) ?_
        refine va_get (D := (dC, dI)) (ci := 11) (v := .ref jjj) (C := RX11) (T := TX11) (N := 55) hx hb hts ui_X11_few_X11 hown hK hP 0 rfl rfl 50 (by decide) (hts _ uw_X11_few_f98) (fun _ h9 => h9) rfl (dt_of tkX11_few_k122 11 rfl) ?_
        refine lv_iload hx hb (dt_of tkX11_few_k122 12 rfl) (lv_at hl 7 rfl) ?_
        refine lv_iconst (v := 1) hx hb (dt_of tkX11_few_k122 13 rfl) (by decide) ?_
        refine lv_isub hx hb (dt_of tkX11_few_k122 14 rfl) ?_
        refine lv_topi (fun x28 ex28 => ?_)
        have hw := hw x28 ex28
        obtain ⟨hi9, hw⟩ := hw
        refine va_lald hx hb hK hP 2 2 rfl rfl hi9 (dt_of tkX11_few_k122 15 rfl) ?_
        refine lv_topl (fun x29 ex29 => ?_)
        have hw := hw x29 ex29
        refine lv_iload_n hx hb (dt_of tkX11_few_k148 0 rfl) rfl (lv_at hl 3 rfl) ?_
        refine lv_i2l (v := l3.toInt64) hx hb (dt_of tkX11_few_k148 1 rfl) rfl ?_
        refine lv_lmul hx hb (dt_of tkX11_few_k148 2 rfl) ?_
        refine lv_goto (tgt := 155) hx hb (dt_of tkX11_few_k148 3 rfl) (by decide) ?_
        exact kb_X11_few_155 dC dI cyB cyI cyJ cyP a0 jaQ jjj jaD ja7 jby jbf jaM jaY jap jaK jal jam jax jao ja6 jaV ja8 jae jag jaf ja0 ja4 jaP jaw jaI jaZ jaH jaS jan jaU jaE jar jaL jah jaB jaa jaz jaG jab ja2 z0_s jaq jai jaO jaA jat jau jav jaj jas jak jad jay jac  Q K100 (wl_X11_few_110  Q K100 n) hK100 ih C0 _ _ _ jbd ja9 jkG l1 l2 l3 l4 l5 l7 l8 l8 (x26 * ((16 - l3).toInt64)) (x29 * l3.toInt64) hP hD hS (lv_sub hl [0, 1, 2, 3, 4, 5, 6, 7] rfl) hw
set_option maxHeartbeats 4000000 in
set_option maxRecDepth 100000 in
theorem kl_X11_few_183 {p : Program} {l : Launch} {e : Env} {s : State} {m : MethodId} {args : Array Value} {below : List Frame} {meth : Method} {c : Code} {A : Nat → Prop} (dC : Nat → ClassId) (dI : Nat → Nat → Nat) (cyB cyI cyJ cyP : ClassId) (a0 jaQ jjj : Nat) (jaD ja7 jby jbf jaM jaY jap jaK jal jam jax jao ja6 jaV ja8 jae jag jaf ja0 ja4 jaP jaw jaI jaZ jaH jaS jan jaU jaE jar jaL jah jaB jaa jaz jaG jab ja2 z0_s jaq jai jaO jaA jat jau jav jaj jas jak jad jay jac : Value)  (Q : Int64 → Int32 → (Nat → Int32) → (Nat → Int64) → Prop)  (C0 : cfx p s m args meth c cX11_few (some .long) wsX11_few RX11 10 A (dC, dI) (kT cyB cyI cyJ cyP)) : ∀ (n : Nat) (H : Heap) (locs : List Loc) (ls : Array Slot) (jbd : Int32) (ja9 : Nat → Int32) (jkG : Nat → Int64) (l2 l4 : Int32) (l5 : Int64) (l7 : Int64) (l9 : Int32), va_P (dC, dI) vwCl (wd09_30 a0 jbd jaQ jaD ja7 jby jbf jaM jaY jap jaK jal jam jax jao ja6 jaV ja8 jae jag jaf ja0 ja4 jaP jaw jaI jaZ jaH jaS jan jaU jaE jar jaL jah jaB jaa jaz jaG jab ja2 z0_s jaq jai jaO jaA jat jau jav jaj jas jjj jak jad jay jac jaQ cyI ja9 jjj cyJ jkG) H → va_D A (wd09_30 a0 jbd jaQ jaD ja7 jby jbf jaM jaY jap jaK jal jam jax jao ja6 jaV ja8 jae jag jaf ja0 ja4 jaP jaw jaI jaZ jaH jaS jan jaU jaE jar jaL jah jaB jaa jaz jaG jab ja2 z0_s jaq jai jaO jaA jat jau jav jaj jas jjj jak jad jay jac jaQ cyI ja9 jjj cyJ jkG) → va_S A s.heap H locs → lv_has ls 10 [(0, .ref a0), (2, .int l2), (4, .int l4), (5, .long l5), (7, .long l7), (9, .int l9)] → wl_X11_few_183  Q  n jbd ja9 jkG l2 l4 l5 l7 l9 → W p l e (headSpec wsX11_few ({ frames := 1, cells := 0, slots := 0, locals := 30 })).room s m args below meth c H locs 0 0 (MQ below (va_Ql (fun (r : Int64) (u : Int32 × (Nat → Int32) × (Nat → Int64)) => Q r u.1 u.2.1 u.2.2) (cB (dC, dI) (kT cyB cyI cyJ cyP) A (fun u : Int32 × (Nat → Int32) × (Nat → Int64) => ((wd09_30 a0 u.1 jaQ jaD ja7 jby jbf jaM jaY jap jaK jal jam jax jao ja6 jaV ja8 jae jag jaf ja0 ja4 jaP jaw jaI jaZ jaH jaS jan jaU jaE jar jaL jah jaB jaa jaz jaG jab ja2 z0_s jaq jai jaO jaA jat jau jav jaj jas jjj jak jad jay jac jaQ cyI u.2.1 jjj cyJ u.2.2) : va_W))) A) args s 0 0 A) (F0 m 183 ls []) := by
  obtain ⟨hx, hb, hr, hts, hown, hlocks, hml, hA, hK, hNw⟩ := id C0
  intro n
  induction n with
  | zero => intro H locs ls jbd ja9 jkG l2 l4 l5 l7 l9 hP hD hS hl hw; exact False.elim hw
  | succ n ih =>
    intro H locs ls jbd ja9 jkG l2 l4 l5 l7 l9 hP hD hS hl hw
    refine lv_iload hx hb (dt_of tkX11_few_k178 3 rfl) (lv_at hl 5 rfl) ?_
    refine lv_iload_n hx hb (dt_of tkX11_few_k178 4 rfl) rfl (lv_at hl 1 rfl) ?_
    refine lv_icmp_gt (tgt := 207) hx hb (dt_of tkX11_few_k178 5 rfl) (by decide) (fun c18 => ?_) (fun c18 => ?_)
    · have hw := hw.1 c18
      refine lv_lload hx hb (dt_of tkX11_few_k178 15 rfl) (lv_at hl 4 rfl) ?_
      refine lv_lload hx hb (dt_of tkX11_few_k209 0 rfl) (lv_at hl 3 rfl) ?_
      refine lv_iload hx hb (dt_of tkX11_few_k209 1 rfl) (lv_at hl 2 rfl) ?_
      obtain ⟨hCc, hPc, hDc, hFc⟩ := va_pick (ws' := []) hP hD hS hA [] (by decide +kernel) rfl
      refine va_calll (va_runS (As := [.long l7, .long l5, .int l4]) (rest := []) ⟨hx, hb, hml, hown, hts⟩ (ck_X11_least l dC dI cyB cyI cyJ cyP  H.size    l7 l5 l4 hw) (va_cwS 3 hts gX11_few_X11_least rfl rfl rfl (by decide +kernel) ⟨Nat.le_of_ble_eq_true rfl, Nat.le_of_ble_eq_true rfl⟩) ⟨cPc_blind, cPc_pre hPc hK hDc hNw⟩ rfl rfl hl.1 rfl (lv_room (Nat.le_of_ble_eq_true rfl)) (dt_of tkX11_few_k209 2 rfl) ⟨Nat.le_of_ble_eq_true rfl, Nat.le_of_ble_eq_true rfl⟩) hS (fun q _ h => hFc q h) hFc (fun r19 u t H1 locs ht hvm hw hB hz1 hk1 hS => ?_)
      obtain ⟨hP1, hK1, hD1⟩ := hB
      rw [ht] at hP1
      obtain ⟨hP, hD⟩ := va_joinI (wr := (wd09_30 a0 jbd jaQ jaD ja7 jby jbf jaM jaY jap jaK jal jam jax jao ja6 jaV ja8 jae jag jaf ja0 ja4 jaP jaw jaI jaZ jaH jaS jan jaU jaE jar jaL jah jaB jaa jaz jaG jab ja2 z0_s jaq jai jaO jaA jat jau jav jaj jas jjj jak jad jay jac jaQ cyI ja9 jjj cyJ jkG)) (w1 := []) (wn := (wd09_30 a0 jbd jaQ jaD ja7 jby jbf jaM jaY jap jaK jal jam jax jao ja6 jaV ja8 jae jag jaf ja0 ja4 jaP jaw jaI jaZ jaH jaS jan jaU jaE jar jaL jah jaB jaa jaz jaG jab ja2 z0_s jaq jai jaO jaA jat jau jav jaj jas jjj jak jad jay jac jaQ cyI ja9 jjj cyJ jkG)) hP hD [] [0, 1, 2] hCc rfl (by decide +kernel) (by decide +kernel) rfl hk1 hFc hP1 hD1
      generalize H1 = H at hP hS ⊢
      exact ((W.lret (v := r19) hx hb hr (fun t ht hW => ⟨⟨r19, (jbd, ja9, jkG), rfl, hw, by rw [ht]; exact hP, va_K.moved hW.alike hK, hD⟩, hS.F ht⟩) hS.2.2 (dt_of tkX11_few_k209 3 rfl)))
    · have hw := hw.2 c18
      refine lv_lload hx hb (dt_of tkX11_few_k178 6 rfl) (lv_at hl 4 rfl) ?_
      refine lv_aload_n hx hb (dt_of tkX11_few_k178 7 rfl) rfl (lv_at hl 0 rfl) ?_
      refine va_get (D := (dC, dI)) (ci := 11) (v := .ref jjj) (C := RX11) (T := TX11) (N := 55) hx hb hts ui_X11_few_X11 hown hK hP 0 rfl rfl 50 (by decide) (hts _ uw_X11_few_f98) (fun _ h9 => h9) rfl (dt_of tkX11_few_k178 8 rfl) ?_
      refine lv_iload hx hb (dt_of tkX11_few_k178 9 rfl) (lv_at hl 5 rfl) ?_
      obtain ⟨hi9, hw⟩ := hw
      refine va_lald hx hb hK hP 2 2 rfl rfl hi9 (dt_of tkX11_few_k178 10 rfl) ?_
      refine lv_topl (fun x20 ex20 => ?_)
      have hw := hw x20 ex20
      refine lv_ladd hx hb (dt_of tkX11_few_k178 11 rfl) ?_
      refine lv_topl (fun x21 ex21 => ?_)
      have hw := hw x21 ex21
      refine lv_lstore (lv' := [(7, .long x21), (0, .ref a0), (2, .int l2), (4, .int l4), (5, .long l5), (9, .int l9)]) hx hb (dt_of tkX11_few_k178 12 rfl) hl (by decide) rfl (fun ls hl => ?_)
      obtain ⟨x22, ex22⟩ : ∃ y : Int32, y = l9 + 1 := ⟨_, rfl⟩
      have hw := hw x22 ex22
      refine lv_iinc (v := x22) (lv' := [(9, .int x22), (7, .long x21), (0, .ref a0), (2, .int l2), (4, .int l4), (5, .long l5)]) hx hb (dt_of tkX11_few_k178 13 rfl) hl (k := 5) rfl (by rw [ex22]; rfl) (by decide) rfl (fun ls hl => ?_)
      refine lv_goto (tgt := 183) hx hb (dt_of tkX11_few_k178 14 rfl) (by decide) ?_
      exact ih _ _ _ jbd ja9 jkG l2 l4 l5 x21 x22 hP hD hS (lv_sub hl [2, 3, 4, 5, 1, 0] rfl) hw
set_option maxHeartbeats 4000000 in
set_option maxRecDepth 100000 in
theorem kl_X11_few_100 {p : Program} {l : Launch} {e : Env} {s : State} {m : MethodId} {args : Array Value} {below : List Frame} {meth : Method} {c : Code} {A : Nat → Prop} (dC : Nat → ClassId) (dI : Nat → Nat → Nat) (cyB cyI cyJ cyP : ClassId) (a0 jaQ jjj : Nat) (jaD ja7 jby jbf jaM jaY jap jaK jal jam jax jao ja6 jaV ja8 jae jag jaf ja0 ja4 jaP jaw jaI jaZ jaH jaS jan jaU jaE jar jaL jah jaB jaa jaz jaG jab ja2 z0_s jaq jai jaO jaA jat jau jav jaj jas jak jad jay jac : Value)  (Q : Int64 → Int32 → (Nat → Int32) → (Nat → Int64) → Prop)  (C0 : cfx p s m args meth c cX11_few (some .long) wsX11_few RX11 10 A (dC, dI) (kT cyB cyI cyJ cyP)) : ∀ (n : Nat) (H : Heap) (locs : List Loc) (ls : Array Slot) (jbd : Int32) (ja9 : Nat → Int32) (jkG : Nat → Int64) (l1 l2 l3 l4 : Int32) (l5 : Int64) (l7 : Int32), va_P (dC, dI) vwCl (wd09_30 a0 jbd jaQ jaD ja7 jby jbf jaM jaY jap jaK jal jam jax jao ja6 jaV ja8 jae jag jaf ja0 ja4 jaP jaw jaI jaZ jaH jaS jan jaU jaE jar jaL jah jaB jaa jaz jaG jab ja2 z0_s jaq jai jaO jaA jat jau jav jaj jas jjj jak jad jay jac jaQ cyI ja9 jjj cyJ jkG) H → va_D A (wd09_30 a0 jbd jaQ jaD ja7 jby jbf jaM jaY jap jaK jal jam jax jao ja6 jaV ja8 jae jag jaf ja0 ja4 jaP jaw jaI jaZ jaH jaS jan jaU jaE jar jaL jah jaB jaa jaz jaG jab ja2 z0_s jaq jai jaO jaA jat jau jav jaj jas jjj jak jad jay jac jaQ cyI ja9 jjj cyJ jkG) → va_S A s.heap H locs → lv_has ls 10 [(0, .ref a0), (1, .int l1), (2, .int l2), (3, .int l3), (4, .int l4), (5, .long l5), (7, .int l7)] → wl_X11_few_100  Q  n jbd ja9 jkG l1 l2 l3 l4 l5 l7 → W p l e (headSpec wsX11_few ({ frames := 1, cells := 0, slots := 0, locals := 30 })).room s m args below meth c H locs 0 0 (MQ below (va_Ql (fun (r : Int64) (u : Int32 × (Nat → Int32) × (Nat → Int64)) => Q r u.1 u.2.1 u.2.2) (cB (dC, dI) (kT cyB cyI cyJ cyP) A (fun u : Int32 × (Nat → Int32) × (Nat → Int64) => ((wd09_30 a0 u.1 jaQ jaD ja7 jby jbf jaM jaY jap jaK jal jam jax jao ja6 jaV ja8 jae jag jaf ja0 ja4 jaP jaw jaI jaZ jaH jaS jan jaU jaE jar jaL jah jaB jaa jaz jaG jab ja2 z0_s jaq jai jaO jaA jat jau jav jaj jas jjj jak jad jay jac jaQ cyI u.2.1 jjj cyJ u.2.2) : va_W))) A) args s 0 0 A) (F0 m 100 ls []) := by
  obtain ⟨hx, hb, hr, hts, hown, hlocks, hml, hA, hK, hNw⟩ := id C0
  intro n
  induction n with
  | zero => intro H locs ls jbd ja9 jkG l1 l2 l3 l4 l5 l7 hP hD hS hl hw; exact False.elim hw
  | succ n ih =>
    intro H locs ls jbd ja9 jkG l1 l2 l3 l4 l5 l7 hP hD hS hl hw
    refine lv_iload hx hb (dt_of tkX11_few_k91 5 rfl) (lv_at hl 6 rfl) ?_
    refine lv_iload_n hx hb (dt_of tkX11_few_k91 6 rfl) rfl (lv_at hl 1 rfl) ?_
    refine lv_icmp_ge (tgt := 177) hx hb (dt_of tkX11_few_k91 7 rfl) (by decide) (fun c15 => ?_) (fun c15 => ?_)
    · have hw := hw.1 c15
      refine lv_lconst (v := 0) hx hb (dt_of tkX11_few_k148 15 rfl) (by decide) ?_
      refine lv_lstore (lv' := [(7, .long 0), (0, .ref a0), (1, .int l1), (2, .int l2), (3, .int l3), (4, .int l4), (5, .long l5)]) hx hb (dt_of tkX11_few_k178 0 rfl) hl (by decide) rfl (fun ls hl => ?_)
      refine lv_iconst (v := 0) hx hb (dt_of tkX11_few_k178 1 rfl) (by decide) ?_
      refine lv_istore (lv' := [(9, .int 0), (7, .long 0), (0, .ref a0), (1, .int l1), (2, .int l2), (3, .int l3), (4, .int l4), (5, .long l5)]) hx hb (dt_of tkX11_few_k178 2 rfl) hl (by decide) rfl (fun ls hl => ?_)
      obtain ⟨n9, hw⟩ := hw
      exact kl_X11_few_183 dC dI cyB cyI cyJ cyP a0 jaQ jjj jaD ja7 jby jbf jaM jaY jap jaK jal jam jax jao ja6 jaV ja8 jae jag jaf ja0 ja4 jaP jaw jaI jaZ jaH jaS jan jaU jaE jar jaL jah jaB jaa jaz jaG jab ja2 z0_s jaq jai jaO jaA jat jau jav jaj jas jak jad jay jac  Q  C0 n9 _ _ _ jbd ja9 jkG l2 l4 l5 0 0 hP hD hS (lv_sub hl [2, 4, 6, 7, 1, 0] rfl) hw
    · have hw := hw.2 c15
      refine lv_bipush (v := 13) hx hb (dt_of tkX11_few_k91 8 rfl) (by decide) ?_
      refine lv_istore (lv' := [(8, .int 13), (0, .ref a0), (1, .int l1), (2, .int l2), (3, .int l3), (4, .int l4), (5, .long l5), (7, .int l7)]) hx hb (dt_of tkX11_few_k91 9 rfl) hl (by decide) rfl (fun ls hl => ?_)
      obtain ⟨n9, hw⟩ := hw
      exact kl_X11_few_110 dC dI cyB cyI cyJ cyP a0 jaQ jjj jaD ja7 jby jbf jaM jaY jap jaK jal jam jax jao ja6 jaV ja8 jae jag jaf ja0 ja4 jaP jaw jaI jaZ jaH jaS jan jaU jaE jar jaL jah jaB jaa jaz jaG jab ja2 z0_s jaq jai jaO jaA jat jau jav jaj jas jak jad jay jac  Q (wl_X11_few_100  Q  n) ih C0 n9 _ _ _ jbd ja9 jkG l1 l2 l3 l4 l5 l7 13 hP hD hS (lv_sub hl [1, 2, 3, 4, 5, 6, 7, 0] rfl) hw
set_option maxHeartbeats 4000000 in
set_option maxRecDepth 100000 in
theorem kl_X11_few_64 {p : Program} {l : Launch} {e : Env} {s : State} {m : MethodId} {args : Array Value} {below : List Frame} {meth : Method} {c : Code} {A : Nat → Prop} (dC : Nat → ClassId) (dI : Nat → Nat → Nat) (cyB cyI cyJ cyP : ClassId) (a0 jaQ jjj : Nat) (jaD ja7 jby jbf jaM jaY jap jaK jal jam jax jao ja6 jaV ja8 jae jag jaf ja0 ja4 jaP jaw jaI jaZ jaH jaS jan jaU jaE jar jaL jah jaB jaa jaz jaG jab ja2 z0_s jaq jai jaO jaA jat jau jav jaj jas jak jad jay jac : Value)  (Q : Int64 → Int32 → (Nat → Int32) → (Nat → Int64) → Prop)  (C0 : cfx p s m args meth c cX11_few (some .long) wsX11_few RX11 10 A (dC, dI) (kT cyB cyI cyJ cyP)) : ∀ (n : Nat) (H : Heap) (locs : List Loc) (ls : Array Slot) (jbd : Int32) (ja9 : Nat → Int32) (jkG : Nat → Int64) (l1 l2 l3 l4 l5 : Int32), va_P (dC, dI) vwCl (wd09_30 a0 jbd jaQ jaD ja7 jby jbf jaM jaY jap jaK jal jam jax jao ja6 jaV ja8 jae jag jaf ja0 ja4 jaP jaw jaI jaZ jaH jaS jan jaU jaE jar jaL jah jaB jaa jaz jaG jab ja2 z0_s jaq jai jaO jaA jat jau jav jaj jas jjj jak jad jay jac jaQ cyI ja9 jjj cyJ jkG) H → va_D A (wd09_30 a0 jbd jaQ jaD ja7 jby jbf jaM jaY jap jaK jal jam jax jao ja6 jaV ja8 jae jag jaf ja0 ja4 jaP jaw jaI jaZ jaH jaS jan jaU jaE jar jaL jah jaB jaa jaz jaG jab ja2 z0_s jaq jai jaO jaA jat jau jav jaj jas jjj jak jad jay jac jaQ cyI ja9 jjj cyJ jkG) → va_S A s.heap H locs → lv_has ls 10 [(0, .ref a0), (1, .int l1), (2, .int l2), (3, .int l3), (4, .int l4), (5, .int l5)] → wl_X11_few_64  Q  n jbd ja9 jkG l1 l2 l3 l4 l5 → W p l e (headSpec wsX11_few ({ frames := 1, cells := 0, slots := 0, locals := 30 })).room s m args below meth c H locs 0 0 (MQ below (va_Ql (fun (r : Int64) (u : Int32 × (Nat → Int32) × (Nat → Int64)) => Q r u.1 u.2.1 u.2.2) (cB (dC, dI) (kT cyB cyI cyJ cyP) A (fun u : Int32 × (Nat → Int32) × (Nat → Int64) => ((wd09_30 a0 u.1 jaQ jaD ja7 jby jbf jaM jaY jap jaK jal jam jax jao ja6 jaV ja8 jae jag jaf ja0 ja4 jaP jaw jaI jaZ jaH jaS jan jaU jaE jar jaL jah jaB jaa jaz jaG jab ja2 z0_s jaq jai jaO jaA jat jau jav jaj jas jjj jak jad jay jac jaQ cyI u.2.1 jjj cyJ u.2.2) : va_W))) A) args s 0 0 A) (F0 m 64 ls []) := by
  obtain ⟨hx, hb, hr, hts, hown, hlocks, hml, hA, hK, hNw⟩ := id C0
  intro n
  induction n with
  | zero => intro H locs ls jbd ja9 jkG l1 l2 l3 l4 l5 hP hD hS hl hw; exact False.elim hw
  | succ n ih =>
    intro H locs ls jbd ja9 jkG l1 l2 l3 l4 l5 hP hD hS hl hw
    refine lv_iload hx hb (dt_of tkX11_few_k60 3 rfl) (lv_at hl 5 rfl) ?_
    refine lv_bipush (v := 14) hx hb (dt_of tkX11_few_k60 4 rfl) (by decide) ?_
    refine lv_icmp_ge (tgt := 94) hx hb (dt_of tkX11_few_k60 5 rfl) (by decide) (fun c13 => ?_) (fun c13 => ?_)
    · have hw := hw.1 c13
      refine lv_lconst (v := 1) hx hb (dt_of tkX11_few_k91 1 rfl) (by decide) ?_
      refine lv_lstore (lv' := [(5, .long 1), (0, .ref a0), (1, .int l1), (2, .int l2), (3, .int l3), (4, .int l4)]) hx hb (dt_of tkX11_few_k91 2 rfl) hl (by decide) rfl (fun ls hl => ?_)
      refine lv_iconst (v := 0) hx hb (dt_of tkX11_few_k91 3 rfl) (by decide) ?_
      refine lv_istore (lv' := [(7, .int 0), (5, .long 1), (0, .ref a0), (1, .int l1), (2, .int l2), (3, .int l3), (4, .int l4)]) hx hb (dt_of tkX11_few_k91 4 rfl) hl (by decide) rfl (fun ls hl => ?_)
      obtain ⟨n9, hw⟩ := hw
      exact kl_X11_few_100 dC dI cyB cyI cyJ cyP a0 jaQ jjj jaD ja7 jby jbf jaM jaY jap jaK jal jam jax jao ja6 jaV ja8 jae jag jaf ja0 ja4 jaP jaw jaI jaZ jaH jaS jan jaU jaE jar jaL jah jaB jaa jaz jaG jab ja2 z0_s jaq jai jaO jaA jat jau jav jaj jas jak jad jay jac  Q  C0 n9 _ _ _ jbd ja9 jkG l1 l2 l3 l4 1 0 hP hD hS (lv_sub hl [2, 3, 4, 5, 6, 1, 0] rfl) hw
    · have hw := hw.2 c13
      refine lv_aload_n hx hb (dt_of tkX11_few_k60 6 rfl) rfl (lv_at hl 0 rfl) ?_
      refine va_get (D := (dC, dI)) (ci := 11) (v := .ref jjj) (C := RX11) (T := TX11) (N := 55) hx hb hts ui_X11_few_X11 hown hK hP 0 rfl rfl 50 (by decide) (hts _ uw_X11_few_f98) (fun _ h9 => h9) rfl (dt_of tkX11_few_k60 7 rfl) ?_
      refine lv_iload hx hb (dt_of tkX11_few_k60 8 rfl) (lv_at hl 5 rfl) ?_
      refine lv_iload hx hb (dt_of tkX11_few_k60 9 rfl) (lv_at hl 5 rfl) ?_
      refine lv_if_ne (tgt := 86) hx hb (dt_of tkX11_few_k60 10 rfl) (by decide) (fun c14 => ?_) (fun c14 => ?_)
      · have hw := hw.1 c14
        refine lv_lconst (v := 0) hx hb (dt_of tkX11_few_k60 13 rfl) (by decide) ?_
        exact kb_X11_few_87 dC dI cyB cyI cyJ cyP a0 jaQ jjj jaD ja7 jby jbf jaM jaY jap jaK jal jam jax jao ja6 jaV ja8 jae jag jaf ja0 ja4 jaP jaw jaI jaZ jaH jaS jan jaU jaE jar jaL jah jaB jaa jaz jaG jab ja2 z0_s jaq jai jaO jaA jat jau jav jaj jas jak jad jay jac  Q (wl_X11_few_64  Q  n) ih C0 _ _ _ jbd ja9 jkG l1 l2 l3 l4 l5 l5 0 hP hD hS (lv_sub hl [0, 1, 2, 3, 4, 5] rfl) hw
      · have hw := hw.2 c14
        refine lv_lconst (v := 1) hx hb (dt_of tkX11_few_k60 11 rfl) (by decide) ?_
        refine lv_goto (tgt := 87) hx hb (dt_of tkX11_few_k60 12 rfl) (by decide) ?_
        exact kb_X11_few_87 dC dI cyB cyI cyJ cyP a0 jaQ jjj jaD ja7 jby jbf jaM jaY jap jaK jal jam jax jao ja6 jaV ja8 jae jag jaf ja0 ja4 jaP jaw jaI jaZ jaH jaS jan jaU jaE jar jaL jah jaB jaa jaz jaG jab ja2 z0_s jaq jai jaO jaA jat jau jav jaj jas jak jad jay jac  Q (wl_X11_few_64  Q  n) ih C0 _ _ _ jbd ja9 jkG l1 l2 l3 l4 l5 l5 1 hP hD hS (lv_sub hl [0, 1, 2, 3, 4, 5] rfl) hw
set_option maxHeartbeats 4000000 in
set_option maxRecDepth 100000 in
theorem kb_X11_few_51 {p : Program} {l : Launch} {e : Env} {s : State} {m : MethodId} {args : Array Value} {below : List Frame} {meth : Method} {c : Code} {A : Nat → Prop} (dC : Nat → ClassId) (dI : Nat → Nat → Nat) (cyB cyI cyJ cyP : ClassId) (a0 jaQ jjj : Nat) (jaD ja7 jby jbf jaM jaY jap jaK jal jam jax jao ja6 jaV ja8 jae jag jaf ja0 ja4 jaP jaw jaI jaZ jaH jaS jan jaU jaE jar jaL jah jaB jaa jaz jaG jab ja2 z0_s jaq jai jaO jaA jat jau jav jaj jas jak jad jay jac : Value)  (Q : Int64 → Int32 → (Nat → Int32) → (Nat → Int64) → Prop)  (C0 : cfx p s m args meth c cX11_few (some .long) wsX11_few RX11 10 A (dC, dI) (kT cyB cyI cyJ cyP)) : ∀ (H : Heap) (locs : List Loc) (ls : Array Slot) (jbd : Int32) (ja9 : Nat → Int32) (jkG : Nat → Int64) (l1 l2 l3 l4 s1 : Int32), va_P (dC, dI) vwCl (wd09_30 a0 jbd jaQ jaD ja7 jby jbf jaM jaY jap jaK jal jam jax jao ja6 jaV ja8 jae jag jaf ja0 ja4 jaP jaw jaI jaZ jaH jaS jan jaU jaE jar jaL jah jaB jaa jaz jaG jab ja2 z0_s jaq jai jaO jaA jat jau jav jaj jas jjj jak jad jay jac jaQ cyI ja9 jjj cyJ jkG) H → va_D A (wd09_30 a0 jbd jaQ jaD ja7 jby jbf jaM jaY jap jaK jal jam jax jao ja6 jaV ja8 jae jag jaf ja0 ja4 jaP jaw jaI jaZ jaH jaS jan jaU jaE jar jaL jah jaB jaa jaz jaG jab ja2 z0_s jaq jai jaO jaA jat jau jav jaj jas jjj jak jad jay jac jaQ cyI ja9 jjj cyJ jkG) → va_S A s.heap H locs → lv_has ls 10 [(0, .ref a0), (1, .int l1), (2, .int l2), (3, .int l3), (4, .int l4)] → wb_X11_few_51  Q  jbd ja9 jkG l1 l2 l3 l4 s1 → W p l e (headSpec wsX11_few ({ frames := 1, cells := 0, slots := 0, locals := 30 })).room s m args below meth c H locs 0 0 (MQ below (va_Ql (fun (r : Int64) (u : Int32 × (Nat → Int32) × (Nat → Int64)) => Q r u.1 u.2.1 u.2.2) (cB (dC, dI) (kT cyB cyI cyJ cyP) A (fun u : Int32 × (Nat → Int32) × (Nat → Int64) => ((wd09_30 a0 u.1 jaQ jaD ja7 jby jbf jaM jaY jap jaK jal jam jax jao ja6 jaV ja8 jae jag jaf ja0 ja4 jaP jaw jaI jaZ jaH jaS jan jaU jaE jar jaL jah jaB jaa jaz jaG jab ja2 z0_s jaq jai jaO jaA jat jau jav jaj jas jjj jak jad jay jac jaQ cyI u.2.1 jjj cyJ u.2.2) : va_W))) A) args s 0 0 A) (F0 m 51 ls [.int s1, .ref a0]) := by
  obtain ⟨hx, hb, hr, hts, hown, hlocks, hml, hA, hK, hNw⟩ := id C0
  intro H locs ls jbd ja9 jkG l1 l2 l3 l4 s1 hP hD hS hl hw
  refine lv_iconst (v := 1) hx hb (dt_of tkX11_few_k28 11 rfl) (by decide) ?_
  refine lv_iconst (v := 1) hx hb (dt_of tkX11_few_k28 12 rfl) (by decide) ?_
  obtain ⟨hCc, hPc, hDc, hFc⟩ := va_pick (ws' := (wd09_31 a0 jbd jaQ jaD ja7 jby jbf jaM jaY jap jaK jal jam jax jao ja6 jaV ja8 jae jag jaf ja0 ja4 jaP jaw jaI jaZ jaH jaS jan jaU jaE jar jaL jah jaB jaa jaz jaG jab ja2 z0_s jaq jai jaO jaA jat jau jav jaj jas jjj jak jad jay jac jaQ cyI ja9)) hP hD hS hA [0, 1] (by decide +kernel) rfl
  refine va_calli (va_runV (As := [.int s1, .int 1, .int 1]) (rest := []) ⟨hx, hb, hml, hown, hts⟩ (ck_X11_may l dC dI cyB cyI cyJ cyP a0 jaQ H.size (jaD) (ja7) (jby) (jbf) (jaM) (jaY) (jap) (jaK) (jal) (jam) (jax) (jao) (ja6) (jaV) (ja8) (jae) (jag) (jaf) (ja0) (ja4) (jaP) (jaw) (jaI) (jaZ) (jaH) (jaS) (jan) (jaU) (jaE) (jar) (jaL) (jah) (jaB) (jaa) (jaz) (jaG) (jab) (ja2) (z0_s) (jaq) (jai) (jaO) (jaA) (jat) (jau) (jav) (jaj) (jas) (.ref jjj) (jak) (jad) (jay) (jac)  jbd ja9 s1 1 1 hw) (cwV 3 hts gX11_few_X11_may rfl rfl rfl (by decide +kernel) ⟨Nat.le_of_ble_eq_true rfl, Nat.le_of_ble_eq_true rfl⟩) ⟨cPc_blind, va_recv (q := (RX11, TX11, 55)) hK hPc (ci := 11) (q0 := 0) rfl rfl, cPc_pre hPc hK hDc hNw⟩ rfl rfl hl.1 rfl (lv_room (Nat.le_of_ble_eq_true rfl)) (dt_of tkX11_few_k28 13 rfl) ⟨Nat.le_of_ble_eq_true rfl, Nat.le_of_ble_eq_true rfl⟩) hS (fun q _ h => hFc q h) hFc (fun r11 u t H1 locs ht hvm hw hB hz1 hk1 hS => ?_)
  obtain ⟨x9, f10⟩ := u
  obtain ⟨hP1, hK1, hD1⟩ := hB
  rw [ht] at hP1
  obtain ⟨hP, hD⟩ := va_joinN (wr := [(jjj, .inl (cyJ, 14, .inr (.inl jkG)))]) (w1 := (wd09_31 a0 x9 jaQ jaD ja7 jby jbf jaM jaY jap jaK jal jam jax jao ja6 jaV ja8 jae jag jaf ja0 ja4 jaP jaw jaI jaZ jaH jaS jan jaU jaE jar jaL jah jaB jaa jaz jaG jab ja2 z0_s jaq jai jaO jaA jat jau jav jaj jas jjj jak jad jay jac jaQ cyI f10)) (wn := (wd09_30 a0 x9 jaQ jaD ja7 jby jbf jaM jaY jap jaK jal jam jax jao ja6 jaV ja8 jae jag jaf ja0 ja4 jaP jaw jaI jaZ jaH jaS jan jaU jaE jar jaL jah jaB jaa jaz jaG jab ja2 z0_s jaq jai jaO jaA jat jau jav jaj jas jjj jak jad jay jac jaQ cyI f10 jjj cyJ jkG)) hP hD [0, 1] [2] [1, 2, 0] hCc rfl (by decide +kernel) (by decide +kernel) (by decide +kernel) rfl hk1 hFc hP1 hD1
  generalize H1 = H at hP hS ⊢
  refine lv_if_ne (tgt := 61) hx hb (dt_of tkX11_few_k28 14 rfl) (by decide) (fun c12 => ?_) (fun c12 => ?_)
  · have hw := hw.1 c12
    refine lv_iconst (v := 0) hx hb (dt_of tkX11_few_k60 1 rfl) (by decide) ?_
    refine lv_istore (lv' := [(5, .int 0), (0, .ref a0), (1, .int l1), (2, .int l2), (3, .int l3), (4, .int l4)]) hx hb (dt_of tkX11_few_k60 2 rfl) hl (by decide) rfl (fun ls hl => ?_)
    obtain ⟨n9, hw⟩ := hw
    exact kl_X11_few_64 dC dI cyB cyI cyJ cyP a0 jaQ jjj jaD ja7 jby jbf jaM jaY jap jaK jal jam jax jao ja6 jaV ja8 jae jag jaf ja0 ja4 jaP jaw jaI jaZ jaH jaS jan jaU jaE jar jaL jah jaB jaa jaz jaG jab ja2 z0_s jaq jai jaO jaA jat jau jav jaj jas jak jad jay jac  Q  C0 n9 _ _ _ x9 f10 jkG l1 l2 l3 l4 0 hP hD hS (lv_sub hl [1, 2, 3, 4, 5, 0] rfl) hw
  · have hw := hw.2 c12
    refine lv_lconst (v := 0) hx hb (dt_of tkX11_few_k28 15 rfl) (by decide) ?_
    exact ((W.lret (v := 0) hx hb hr (fun t ht hW => ⟨⟨0, (x9, f10, jkG), rfl, hw, by rw [ht]; exact hP, va_K.moved hW.alike hK, hD⟩, hS.F ht⟩) hS.2.2 (dt_of tkX11_few_k60 0 rfl)))
set_option maxHeartbeats 4000000 in
set_option maxRecDepth 100000 in
theorem kb_X11_few_50 {p : Program} {l : Launch} {e : Env} {s : State} {m : MethodId} {args : Array Value} {below : List Frame} {meth : Method} {c : Code} {A : Nat → Prop} (dC : Nat → ClassId) (dI : Nat → Nat → Nat) (cyB cyI cyJ cyP : ClassId) (a0 jaQ jjj : Nat) (jaD ja7 jby jbf jaM jaY jap jaK jal jam jax jao ja6 jaV ja8 jae jag jaf ja0 ja4 jaP jaw jaI jaZ jaH jaS jan jaU jaE jar jaL jah jaB jaa jaz jaG jab ja2 z0_s jaq jai jaO jaA jat jau jav jaj jas jak jad jay jac : Value)  (Q : Int64 → Int32 → (Nat → Int32) → (Nat → Int64) → Prop)  (C0 : cfx p s m args meth c cX11_few (some .long) wsX11_few RX11 10 A (dC, dI) (kT cyB cyI cyJ cyP)) : ∀ (H : Heap) (locs : List Loc) (ls : Array Slot) (jbd : Int32) (ja9 : Nat → Int32) (jkG : Nat → Int64) (l1 l2 l3 l4 : Int32), va_P (dC, dI) vwCl (wd09_30 a0 jbd jaQ jaD ja7 jby jbf jaM jaY jap jaK jal jam jax jao ja6 jaV ja8 jae jag jaf ja0 ja4 jaP jaw jaI jaZ jaH jaS jan jaU jaE jar jaL jah jaB jaa jaz jaG jab ja2 z0_s jaq jai jaO jaA jat jau jav jaj jas jjj jak jad jay jac jaQ cyI ja9 jjj cyJ jkG) H → va_D A (wd09_30 a0 jbd jaQ jaD ja7 jby jbf jaM jaY jap jaK jal jam jax jao ja6 jaV ja8 jae jag jaf ja0 ja4 jaP jaw jaI jaZ jaH jaS jan jaU jaE jar jaL jah jaB jaa jaz jaG jab ja2 z0_s jaq jai jaO jaA jat jau jav jaj jas jjj jak jad jay jac jaQ cyI ja9 jjj cyJ jkG) → va_S A s.heap H locs → lv_has ls 10 [(0, .ref a0), (1, .int l1), (2, .int l2), (3, .int l3), (4, .int l4)] → wb_X11_few_50  Q  jbd ja9 jkG l1 l2 l3 l4 → W p l e (headSpec wsX11_few ({ frames := 1, cells := 0, slots := 0, locals := 30 })).room s m args below meth c H locs 0 0 (MQ below (va_Ql (fun (r : Int64) (u : Int32 × (Nat → Int32) × (Nat → Int64)) => Q r u.1 u.2.1 u.2.2) (cB (dC, dI) (kT cyB cyI cyJ cyP) A (fun u : Int32 × (Nat → Int32) × (Nat → Int64) => ((wd09_30 a0 u.1 jaQ jaD ja7 jby jbf jaM jaY jap jaK jal jam jax jao ja6 jaV ja8 jae jag jaf ja0 ja4 jaP jaw jaI jaZ jaH jaS jan jaU jaE jar jaL jah jaB jaa jaz jaG jab ja2 z0_s jaq jai jaO jaA jat jau jav jaj jas jjj jak jad jay jac jaQ cyI u.2.1 jjj cyJ u.2.2) : va_W))) A) args s 0 0 A) (F0 m 50 ls [.ref a0]) := by
  obtain ⟨hx, hb, hr, hts, hown, hlocks, hml, hA, hK, hNw⟩ := id C0
  intro H locs ls jbd ja9 jkG l1 l2 l3 l4 hP hD hS hl hw
  refine lv_iconst (v := 0) hx hb (dt_of tkX11_few_k28 10 rfl) (by decide) ?_
  exact kb_X11_few_51 dC dI cyB cyI cyJ cyP a0 jaQ jjj jaD ja7 jby jbf jaM jaY jap jaK jal jam jax jao ja6 jaV ja8 jae jag jaf ja0 ja4 jaP jaw jaI jaZ jaH jaS jan jaU jaE jar jaL jah jaB jaa jaz jaG jab ja2 z0_s jaq jai jaO jaA jat jau jav jaj jas jak jad jay jac  Q  C0 _ _ _ jbd ja9 jkG l1 l2 l3 l4 0 hP hD hS (lv_sub hl [0, 1, 2, 3, 4] rfl) hw
set_option maxHeartbeats 4000000 in
set_option maxRecDepth 100000 in
theorem ck_X11_few (l : Launch) (dC : Nat → ClassId) (dI : Nat → Nat → Nat) (cyB cyI cyJ cyP : ClassId) (a0 jaQ jjj sz : Nat) (jaD ja7 jby jbf jaM jaY jap jaK jal jam jax jao ja6 jaV ja8 jae jag jaf ja0 ja4 jaP jaw jaI jaZ jaH jaS jan jaU jaE jar jaL jah jaB jaa jaz jaG jab ja2 z0_s jaq jai jaO jaA jat jau jav jaj jas jak jad jay jac : Value)  (jbd : Int32) (ja9 : Nat → Int32) (jkG : Nat → Int64) (p1 p2 p3 p4 : Int32) {Q : Int64 → Int32 → (Nat → Int32) → (Nat → Int64) → Prop} (hw : wq_X11_few  jbd ja9 jkG p1 p2 p3 p4 Q) : Met l yX11_few wsX11_few ({ frames := 1, cells := 0, slots := 0, locals := 30 }) (va_Pc [.ref a0, .int p1, .int p2, .int p3, .int p4] (cPc (dC, dI) (kT cyB cyI cyJ cyP) (wd09_30 a0 jbd jaQ jaD ja7 jby jbf jaM jaY jap jaK jal jam jax jao ja6 jaV ja8 jae jag jaf ja0 ja4 jaP jaw jaI jaZ jaH jaS jan jaU jaE jar jaL jah jaB jaa jaz jaG jab ja2 z0_s jaq jai jaO jaA jat jau jav jaj jas jjj jak jad jay jac jaQ cyI ja9 jjj cyJ jkG) sz)) (va_Ql (fun (r : Int64) (u : Int32 × (Nat → Int32) × (Nat → Int64)) => Q r u.1 u.2.1 u.2.2) (cB (dC, dI) (kT cyB cyI cyJ cyP) (va_A (wd09_30 a0 jbd jaQ jaD ja7 jby jbf jaM jaY jap jaK jal jam jax jao ja6 jaV ja8 jae jag jaf ja0 ja4 jaP jaw jaI jaZ jaH jaS jan jaU jaE jar jaL jah jaB jaa jaz jaG jab ja2 z0_s jaq jai jaO jaA jat jau jav jaj jas jjj jak jad jay jac jaQ cyI ja9 jjj cyJ jkG) sz) (fun u : Int32 × (Nat → Int32) × (Nat → Int64) => ((wd09_30 a0 u.1 jaQ jaD ja7 jby jbf jaM jaY jap jaK jal jam jax jao ja6 jaV ja8 jae jag jaf ja0 ja4 jaP jaw jaI jaZ jaH jaS jan jaU jaE jar jaL jah jaB jaa jaz jaG jab ja2 z0_s jaq jai jaO jaA jat jau jav jaj jas jjj jak jad jay jac jaQ cyI u.2.1 jjj cyJ u.2.2) : va_W))) (va_A (wd09_30 a0 jbd jaQ jaD ja7 jby jbf jaM jaY jap jaK jal jam jax jao ja6 jaV ja8 jae jag jaf ja0 ja4 jaP jaw jaI jaZ jaH jaS jan jaU jaE jar jaL jah jaB jaa jaz jaG jab ja2 z0_s jaq jai jaO jaA jat jau jav jaj jas jjj jak jad jay jac jaQ cyI ja9 jjj cyJ jkG) sz)) 0 0 (va_A (wd09_30 a0 jbd jaQ jaD ja7 jby jbf jaM jaY jap jaK jal jam jax jao ja6 jaV ja8 jae jag jaf ja0 ja4 jaP jaw jaI jaZ jaH jaS jan jaU jaE jar jaL jah jaB jaa jaz jaG jab ja2 z0_s jaq jai jaO jaA jat jau jav jaj jas jjj jak jad jay jac jaQ cyI ja9 jjj cyJ jkG) sz) := by
  refine Met.ofW (cc := cX11_few) (maxL := 10) (ret := (some .long)) (by decide) rfl ?_
  intro p e s m args below meth c s₁ B hml hv
  obtain ⟨rfl, hsz, hP, hK, hD0, hNw⟩ := hv
  have hx := B.exec
  have hb := B.bytes
  have hr := B.returns
  have hts := atoms_spec (ws := wsX11_few) B.pre
  have hown : s.vm.findClass RX11 = some m.cls := findClass_of_methodNamed B.named
  have hlocks := B.notSynchronized
  subst hsz
  have hD := hD0.self (sz := s.heap.size)
  generalize hAe : va_A (wd09_30 a0 jbd jaQ jaD ja7 jby jbf jaM jaY jap jaK jal jam jax jao ja6 jaV ja8 jae jag jaf ja0 ja4 jaP jaw jaI jaZ jaH jaS jan jaU jaE jar jaL jah jaB jaa jaz jaG jab ja2 z0_s jaq jai jaO jaA jat jau jav jaj jas jjj jak jad jay jac jaQ cyI ja9 jjj cyJ jkG) s.heap.size = A at hD ⊢
  have hA : ∀ q : Nat, s.heap.size ≤ q → A q := fun q h => by rw [← hAe]; exact Or.inr h
  have hS : va_S A s.heap s.heap [] := va_S.rf
  have hP : va_P (dC, dI) vwCl (wd09_30 a0 jbd jaQ jaD ja7 jby jbf jaM jaY jap jaK jal jam jax jao ja6 jaV ja8 jae jag jaf ja0 ja4 jaP jaw jaI jaZ jaH jaS jan jaU jaE jar jaL jah jaB jaa jaz jaG jab ja2 z0_s jaq jai jaO jaA jat jau jav jaj jas jjj jak jad jay jac jaQ cyI ja9 jjj cyJ jkG) s.heap := hP
  have hl := lv_entry ([.ref a0, .int p1, .int p2, .int p3, .int p4]) (n := 10) (Nat.le_of_ble_eq_true rfl)
  rw [lg_entry_eq]
  generalize (lg_sl ([.ref a0, .int p1, .int p2, .int p3, .int p4]) ++ List.replicate (10 - (lg_sl ([.ref a0, .int p1, .int p2, .int p3, .int p4])).length) Slot.unset).toArray = ls at hl ⊢
  have hl : lv_has ls 10 [(0, .ref a0), (1, .int p1), (2, .int p2), (3, .int p3), (4, .int p4)] := hl
  have C0 : cfx p s m _ meth c cX11_few (some .long) wsX11_few RX11 10 A (dC, dI) (kT cyB cyI cyJ cyP) := ⟨hx, hb, hr, hts, hown, hlocks, hml, hA, hK, hNw⟩
  clear hAe
  obtain ⟨H, hH⟩ : ∃ H, H = s.heap := ⟨_, rfl⟩
  rw [← hH] at hP ⊢
  have hS : va_S A s.heap H [] := by rw [hH]; exact va_S.rf
  have hS := hS
  refine lv_aload_n hx hb (dt_of tkX11_few_k0 0 rfl) rfl (lv_at hl 0 rfl) ?_
  refine lv_iconst (v := 0) hx hb (dt_of tkX11_few_k0 1 rfl) (by decide) ?_
  refine va_put (D := (dC, dI)) (ci := 11) (v := .int 0) (ty := .int) (C := RX11) (T := TX11) (N := 55) hx hb hts ui_X11_few_X11 tyX11 tyX11_ok nmX11 hown hK hP hD hS 0 rfl rfl 0 (by decide) (hts _ uw_X11_few_f3) (fun _ h9 => h9) rfl (by decide +kernel) rfl rfl (Nat.le_of_ble_eq_true rfl) (dt_of tkX11_few_k0 2 rfl) (fun H locs hP hD hS => ?_)
  have hP : va_P (dC, dI) vwCl (wd09_30 a0 0 jaQ jaD ja7 jby jbf jaM jaY jap jaK jal jam jax jao ja6 jaV ja8 jae jag jaf ja0 ja4 jaP jaw jaI jaZ jaH jaS jan jaU jaE jar jaL jah jaB jaa jaz jaG jab ja2 z0_s jaq jai jaO jaA jat jau jav jaj jas jjj jak jad jay jac jaQ cyI ja9 jjj cyJ jkG) H := hP
  have hD : va_D A (wd09_30 a0 0 jaQ jaD ja7 jby jbf jaM jaY jap jaK jal jam jax jao ja6 jaV ja8 jae jag jaf ja0 ja4 jaP jaw jaI jaZ jaH jaS jan jaU jaE jar jaL jah jaB jaa jaz jaG jab ja2 z0_s jaq jai jaO jaA jat jau jav jaj jas jjj jak jad jay jac jaQ cyI ja9 jjj cyJ jkG) := hD
  refine lv_aload_n hx hb (dt_of tkX11_few_k0 3 rfl) rfl (lv_at hl 0 rfl) ?_
  refine lv_iload_n hx hb (dt_of tkX11_few_k0 4 rfl) rfl (lv_at hl 1 rfl) ?_
  refine lv_iconst (v := 0) hx hb (dt_of tkX11_few_k0 5 rfl) (by decide) ?_
  refine lv_bipush (v := 12) hx hb (dt_of tkX11_few_k0 6 rfl) (by decide) ?_
  obtain ⟨hCc, hPc, hDc, hFc⟩ := va_pick (ws' := []) hP hD hS hA [] (by decide +kernel) rfl
  refine va_calli (va_runS (As := [.int p1, .int 0, .int 12]) (rest := [.ref a0]) ⟨hx, hb, hml, hown, hts⟩ (ck_X11_within l dC dI cyB cyI cyJ cyP  H.size    p1 0 12 hw) (va_cwS 3 hts gX11_few_X11_within rfl rfl rfl (by decide +kernel) ⟨Nat.le_of_ble_eq_true rfl, Nat.le_of_ble_eq_true rfl⟩) ⟨cPc_blind, cPc_pre hPc hK hDc hNw⟩ rfl rfl hl.1 rfl (lv_room (Nat.le_of_ble_eq_true rfl)) (dt_of tkX11_few_k0 7 rfl) ⟨Nat.le_of_ble_eq_true rfl, Nat.le_of_ble_eq_true rfl⟩) hS (fun q _ h => hFc q h) hFc (fun r1 u t H1 locs ht hvm hw hB hz1 hk1 hS => ?_)
  obtain ⟨hP1, hK1, hD1⟩ := hB
  rw [ht] at hP1
  obtain ⟨hP, hD⟩ := va_joinI (wr := (wd09_30 a0 0 jaQ jaD ja7 jby jbf jaM jaY jap jaK jal jam jax jao ja6 jaV ja8 jae jag jaf ja0 ja4 jaP jaw jaI jaZ jaH jaS jan jaU jaE jar jaL jah jaB jaa jaz jaG jab ja2 z0_s jaq jai jaO jaA jat jau jav jaj jas jjj jak jad jay jac jaQ cyI ja9 jjj cyJ jkG)) (w1 := []) (wn := (wd09_30 a0 0 jaQ jaD ja7 jby jbf jaM jaY jap jaK jal jam jax jao ja6 jaV ja8 jae jag jaf ja0 ja4 jaP jaw jaI jaZ jaH jaS jan jaU jaE jar jaL jah jaB jaa jaz jaG jab ja2 z0_s jaq jai jaO jaA jat jau jav jaj jas jjj jak jad jay jac jaQ cyI ja9 jjj cyJ jkG)) hP hD [] [0, 1, 2] hCc rfl (by decide +kernel) (by decide +kernel) rfl hk1 hFc hP1 hD1
  generalize H1 = H at hP hS ⊢
  refine lv_if_eq (tgt := 50) hx hb (dt_of tkX11_few_k0 8 rfl) (by decide) (fun c2 => ?_) (fun c2 => ?_)
  · have hw := hw.1 c2
    exact kb_X11_few_50 dC dI cyB cyI cyJ cyP a0 jaQ jjj jaD ja7 jby jbf jaM jaY jap jaK jal jam jax jao ja6 jaV ja8 jae jag jaf ja0 ja4 jaP jaw jaI jaZ jaH jaS jan jaU jaE jar jaL jah jaB jaa jaz jaG jab ja2 z0_s jaq jai jaO jaA jat jau jav jaj jas jak jad jay jac  Q  C0 _ _ _ 0 ja9 jkG p1 p2 p3 p4 hP hD hS (lv_sub hl [0, 1, 2, 3, 4] rfl) hw
  · have hw := hw.2 c2
    refine lv_iload_n hx hb (dt_of tkX11_few_k0 9 rfl) rfl (lv_at hl 2 rfl) ?_
    refine lv_iconst (v := 0) hx hb (dt_of tkX11_few_k0 10 rfl) (by decide) ?_
    refine lv_bipush (v := 12) hx hb (dt_of tkX11_few_k0 11 rfl) (by decide) ?_
    obtain ⟨hCc, hPc, hDc, hFc⟩ := va_pick (ws' := []) hP hD hS hA [] (by decide +kernel) rfl
    refine va_calli (va_runS (As := [.int p2, .int 0, .int 12]) (rest := [.ref a0]) ⟨hx, hb, hml, hown, hts⟩ (ck_X11_within l dC dI cyB cyI cyJ cyP  H.size    p2 0 12 hw) (va_cwS 3 hts gX11_few_X11_within rfl rfl rfl (by decide +kernel) ⟨Nat.le_of_ble_eq_true rfl, Nat.le_of_ble_eq_true rfl⟩) ⟨cPc_blind, cPc_pre hPc hK hDc hNw⟩ rfl rfl hl.1 rfl (lv_room (Nat.le_of_ble_eq_true rfl)) (dt_of tkX11_few_k0 12 rfl) ⟨Nat.le_of_ble_eq_true rfl, Nat.le_of_ble_eq_true rfl⟩) hS (fun q _ h => hFc q h) hFc (fun r3 u t H1 locs ht hvm hw hB hz1 hk1 hS => ?_)
    obtain ⟨hP1, hK1, hD1⟩ := hB
    rw [ht] at hP1
    obtain ⟨hP, hD⟩ := va_joinI (wr := (wd09_30 a0 0 jaQ jaD ja7 jby jbf jaM jaY jap jaK jal jam jax jao ja6 jaV ja8 jae jag jaf ja0 ja4 jaP jaw jaI jaZ jaH jaS jan jaU jaE jar jaL jah jaB jaa jaz jaG jab ja2 z0_s jaq jai jaO jaA jat jau jav jaj jas jjj jak jad jay jac jaQ cyI ja9 jjj cyJ jkG)) (w1 := []) (wn := (wd09_30 a0 0 jaQ jaD ja7 jby jbf jaM jaY jap jaK jal jam jax jao ja6 jaV ja8 jae jag jaf ja0 ja4 jaP jaw jaI jaZ jaH jaS jan jaU jaE jar jaL jah jaB jaa jaz jaG jab ja2 z0_s jaq jai jaO jaA jat jau jav jaj jas jjj jak jad jay jac jaQ cyI ja9 jjj cyJ jkG)) hP hD [] [0, 1, 2] hCc rfl (by decide +kernel) (by decide +kernel) rfl hk1 hFc hP1 hD1
    generalize H1 = H at hP hS ⊢
    refine lv_if_eq (tgt := 50) hx hb (dt_of tkX11_few_k0 13 rfl) (by decide) (fun c4 => ?_) (fun c4 => ?_)
    · have hw := hw.1 c4
      exact kb_X11_few_50 dC dI cyB cyI cyJ cyP a0 jaQ jjj jaD ja7 jby jbf jaM jaY jap jaK jal jam jax jao ja6 jaV ja8 jae jag jaf ja0 ja4 jaP jaw jaI jaZ jaH jaS jan jaU jaE jar jaL jah jaB jaa jaz jaG jab ja2 z0_s jaq jai jaO jaA jat jau jav jaj jas jak jad jay jac  Q  C0 _ _ _ 0 ja9 jkG p1 p2 p3 p4 hP hD hS (lv_sub hl [0, 1, 2, 3, 4] rfl) hw
    · have hw := hw.2 c4
      refine lv_iload_n hx hb (dt_of tkX11_few_k0 14 rfl) rfl (lv_at hl 3 rfl) ?_
      refine lv_iconst (v := 0) hx hb (dt_of tkX11_few_k0 15 rfl) (by decide) ?_
      refine lv_bipush (v := 16) hx hb (dt_of tkX11_few_k28 0 rfl) (by decide) ?_
      obtain ⟨hCc, hPc, hDc, hFc⟩ := va_pick (ws' := []) hP hD hS hA [] (by decide +kernel) rfl
      refine va_calli (va_runS (As := [.int p3, .int 0, .int 16]) (rest := [.ref a0]) ⟨hx, hb, hml, hown, hts⟩ (ck_X11_within l dC dI cyB cyI cyJ cyP  H.size    p3 0 16 hw) (va_cwS 3 hts gX11_few_X11_within rfl rfl rfl (by decide +kernel) ⟨Nat.le_of_ble_eq_true rfl, Nat.le_of_ble_eq_true rfl⟩) ⟨cPc_blind, cPc_pre hPc hK hDc hNw⟩ rfl rfl hl.1 rfl (lv_room (Nat.le_of_ble_eq_true rfl)) (dt_of tkX11_few_k28 1 rfl) ⟨Nat.le_of_ble_eq_true rfl, Nat.le_of_ble_eq_true rfl⟩) hS (fun q _ h => hFc q h) hFc (fun r5 u t H1 locs ht hvm hw hB hz1 hk1 hS => ?_)
      obtain ⟨hP1, hK1, hD1⟩ := hB
      rw [ht] at hP1
      obtain ⟨hP, hD⟩ := va_joinI (wr := (wd09_30 a0 0 jaQ jaD ja7 jby jbf jaM jaY jap jaK jal jam jax jao ja6 jaV ja8 jae jag jaf ja0 ja4 jaP jaw jaI jaZ jaH jaS jan jaU jaE jar jaL jah jaB jaa jaz jaG jab ja2 z0_s jaq jai jaO jaA jat jau jav jaj jas jjj jak jad jay jac jaQ cyI ja9 jjj cyJ jkG)) (w1 := []) (wn := (wd09_30 a0 0 jaQ jaD ja7 jby jbf jaM jaY jap jaK jal jam jax jao ja6 jaV ja8 jae jag jaf ja0 ja4 jaP jaw jaI jaZ jaH jaS jan jaU jaE jar jaL jah jaB jaa jaz jaG jab ja2 z0_s jaq jai jaO jaA jat jau jav jaj jas jjj jak jad jay jac jaQ cyI ja9 jjj cyJ jkG)) hP hD [] [0, 1, 2] hCc rfl (by decide +kernel) (by decide +kernel) rfl hk1 hFc hP1 hD1
      generalize H1 = H at hP hS ⊢
      refine lv_if_eq (tgt := 50) hx hb (dt_of tkX11_few_k28 2 rfl) (by decide) (fun c6 => ?_) (fun c6 => ?_)
      · have hw := hw.1 c6
        exact kb_X11_few_50 dC dI cyB cyI cyJ cyP a0 jaQ jjj jaD ja7 jby jbf jaM jaY jap jaK jal jam jax jao ja6 jaV ja8 jae jag jaf ja0 ja4 jaP jaw jaI jaZ jaH jaS jan jaU jaE jar jaL jah jaB jaa jaz jaG jab ja2 z0_s jaq jai jaO jaA jat jau jav jaj jas jak jad jay jac  Q  C0 _ _ _ 0 ja9 jkG p1 p2 p3 p4 hP hD hS (lv_sub hl [0, 1, 2, 3, 4] rfl) hw
      · have hw := hw.2 c6
        refine lv_iload hx hb (dt_of tkX11_few_k28 3 rfl) (lv_at hl 4 rfl) ?_
        refine lv_iconst (v := 0) hx hb (dt_of tkX11_few_k28 4 rfl) (by decide) ?_
        refine lv_iconst (v := 1) hx hb (dt_of tkX11_few_k28 5 rfl) (by decide) ?_
        obtain ⟨hCc, hPc, hDc, hFc⟩ := va_pick (ws' := []) hP hD hS hA [] (by decide +kernel) rfl
        refine va_calli (va_runS (As := [.int p4, .int 0, .int 1]) (rest := [.ref a0]) ⟨hx, hb, hml, hown, hts⟩ (ck_X11_within l dC dI cyB cyI cyJ cyP  H.size    p4 0 1 hw) (va_cwS 3 hts gX11_few_X11_within rfl rfl rfl (by decide +kernel) ⟨Nat.le_of_ble_eq_true rfl, Nat.le_of_ble_eq_true rfl⟩) ⟨cPc_blind, cPc_pre hPc hK hDc hNw⟩ rfl rfl hl.1 rfl (lv_room (Nat.le_of_ble_eq_true rfl)) (dt_of tkX11_few_k28 6 rfl) ⟨Nat.le_of_ble_eq_true rfl, Nat.le_of_ble_eq_true rfl⟩) hS (fun q _ h => hFc q h) hFc (fun r7 u t H1 locs ht hvm hw hB hz1 hk1 hS => ?_)
        obtain ⟨hP1, hK1, hD1⟩ := hB
        rw [ht] at hP1
        obtain ⟨hP, hD⟩ := va_joinI (wr := (wd09_30 a0 0 jaQ jaD ja7 jby jbf jaM jaY jap jaK jal jam jax jao ja6 jaV ja8 jae jag jaf ja0 ja4 jaP jaw jaI jaZ jaH jaS jan jaU jaE jar jaL jah jaB jaa jaz jaG jab ja2 z0_s jaq jai jaO jaA jat jau jav jaj jas jjj jak jad jay jac jaQ cyI ja9 jjj cyJ jkG)) (w1 := []) (wn := (wd09_30 a0 0 jaQ jaD ja7 jby jbf jaM jaY jap jaK jal jam jax jao ja6 jaV ja8 jae jag jaf ja0 ja4 jaP jaw jaI jaZ jaH jaS jan jaU jaE jar jaL jah jaB jaa jaz jaG jab ja2 z0_s jaq jai jaO jaA jat jau jav jaj jas jjj jak jad jay jac jaQ cyI ja9 jjj cyJ jkG)) hP hD [] [0, 1, 2] hCc rfl (by decide +kernel) (by decide +kernel) rfl hk1 hFc hP1 hD1
        generalize H1 = H at hP hS ⊢
        refine lv_if_eq (tgt := 50) hx hb (dt_of tkX11_few_k28 7 rfl) (by decide) (fun c8 => ?_) (fun c8 => ?_)
        · have hw := hw.1 c8
          exact kb_X11_few_50 dC dI cyB cyI cyJ cyP a0 jaQ jjj jaD ja7 jby jbf jaM jaY jap jaK jal jam jax jao ja6 jaV ja8 jae jag jaf ja0 ja4 jaP jaw jaI jaZ jaH jaS jan jaU jaE jar jaL jah jaB jaa jaz jaG jab ja2 z0_s jaq jai jaO jaA jat jau jav jaj jas jak jad jay jac  Q  C0 _ _ _ 0 ja9 jkG p1 p2 p3 p4 hP hD hS (lv_sub hl [0, 1, 2, 3, 4] rfl) hw
        · have hw := hw.2 c8
          refine lv_iconst (v := 1) hx hb (dt_of tkX11_few_k28 8 rfl) (by decide) ?_
          refine lv_goto (tgt := 51) hx hb (dt_of tkX11_few_k28 9 rfl) (by decide) ?_
          exact kb_X11_few_51 dC dI cyB cyI cyJ cyP a0 jaQ jjj jaD ja7 jby jbf jaM jaY jap jaK jal jam jax jao ja6 jaV ja8 jae jag jaf ja0 ja4 jaP jaw jaI jaZ jaH jaS jan jaU jaE jar jaL jah jaB jaa jaz jaG jab ja2 z0_s jaq jai jaO jaA jat jau jav jaj jas jak jad jay jac  Q  C0 _ _ _ 0 ja9 jkG p1 p2 p3 p4 1 hP hD hS (lv_sub hl [0, 1, 2, 3, 4] rfl) hw
theorem ui_X11_rangeOf_X11 : ∀ w ∈ u_ws RX11 TX11 55, w ∈ wsX11_rangeOf := uiM mbX11_rangeOf euX11 (by decide +kernel)
theorem uw_X11_rangeOf_f166 : (.fieldLink RX11 166 "MarchHaresModel" "forms" "I" : Cond) ∈ wsX11_rangeOf := mbX11_rangeOf 519 (by decide +kernel)
set_option maxHeartbeats 4000000 in
set_option maxRecDepth 100000 in
theorem kb_X11_rangeOf_29 {p : Program} {l : Launch} {e : Env} {s : State} {m : MethodId} {args : Array Value} {below : List Frame} {meth : Method} {c : Code} {A : Nat → Prop} (dC : Nat → ClassId) (dI : Nat → Nat → Nat) (cyB cyI cyJ cyP : ClassId) (a0 a0_s ja5 jbu jbB jbG jbg : Nat) (jaX jaF jaD ja7 jby jbf jaM jaY jap jaK jal jam jax jao jaV ja8 jae jag jaf jaP jaw jaI jan jar jaL jah jaB jaa jaz jaG jab ja2 jaq jai jaO jaA jat jau jav jaj jas jaJ jak jad jay jac : Value) (jaN jaC jbD : Int32) (f0_s jbv jcu jbR : Nat → Int32) (Q : Int32 → (Nat → Int32) → (Nat → Int32) → Prop) (K4 : (Nat → Int32) → (Nat → Int32) → Int32 → Int32 → Int32 → Prop) (hK4 : ∀ (H : Heap) (locs : List Loc) (ls : Array Slot) (jbZ jca : Nat → Int32) (l1 l2 l3 : Int32), va_P (dC, dI) vwCl (wd09_32 a0 jaX jaF jaD ja7 jby jbf jaM jaY jap jaK jal jam jax jao ja5 jaV ja8 jae jag jaf jaN jaC jaP jaw jaI jbG jbg jbB jan jbD jbu jar jaL jah jaB jaa jaz jaG jab ja2 a0_s jaq jai jaO jaA jat jau jav jaj jas jaJ jak jad jay jac a0_s cyI f0_s ja5 cyI jbv jbu cyI jbZ jbB cyI jca jbG cyI jcu jbg cyI jbR) H → va_D A (wd09_32 a0 jaX jaF jaD ja7 jby jbf jaM jaY jap jaK jal jam jax jao ja5 jaV ja8 jae jag jaf jaN jaC jaP jaw jaI jbG jbg jbB jan jbD jbu jar jaL jah jaB jaa jaz jaG jab ja2 a0_s jaq jai jaO jaA jat jau jav jaj jas jaJ jak jad jay jac a0_s cyI f0_s ja5 cyI jbv jbu cyI jbZ jbB cyI jca jbG cyI jcu jbg cyI jbR) → va_S A s.heap H locs → lv_has ls 4 [(0, .ref a0), (1, .int l1), (2, .int l2), (3, .int l3)] → K4 jbZ jca l1 l2 l3 → W p l e (headSpec wsX11_rangeOf ({ frames := 6, cells := 0, slots := 0, locals := 137 })).room s m args below meth c H locs 0 0 (MQ below (va_Qi (fun (r : Int32) (u : (Nat → Int32) × (Nat → Int32)) => Q r u.1 u.2) (cB (dC, dI) (kT cyB cyI cyJ cyP) A (fun u : (Nat → Int32) × (Nat → Int32) => ((wd09_32 a0 jaX jaF jaD ja7 jby jbf jaM jaY jap jaK jal jam jax jao ja5 jaV ja8 jae jag jaf jaN jaC jaP jaw jaI jbG jbg jbB jan jbD jbu jar jaL jah jaB jaa jaz jaG jab ja2 a0_s jaq jai jaO jaA jat jau jav jaj jas jaJ jak jad jay jac a0_s cyI f0_s ja5 cyI jbv jbu cyI u.1 jbB cyI u.2 jbG cyI jcu jbg cyI jbR) : va_W))) A) args s 0 0 A) (F0 m 4 ls [])) (C0 : cfx p s m args meth c cX11_rangeOf (some .int) wsX11_rangeOf RX11 4 A (dC, dI) (kT cyB cyI cyJ cyP)) : ∀ (H : Heap) (locs : List Loc) (ls : Array Slot) (jbZ jca : Nat → Int32) (l1 l3 s0 s1 : Int32), va_P (dC, dI) vwCl (wd09_32 a0 jaX jaF jaD ja7 jby jbf jaM jaY jap jaK jal jam jax jao ja5 jaV ja8 jae jag jaf jaN jaC jaP jaw jaI jbG jbg jbB jan jbD jbu jar jaL jah jaB jaa jaz jaG jab ja2 a0_s jaq jai jaO jaA jat jau jav jaj jas jaJ jak jad jay jac a0_s cyI f0_s ja5 cyI jbv jbu cyI jbZ jbB cyI jca jbG cyI jcu jbg cyI jbR) H → va_D A (wd09_32 a0 jaX jaF jaD ja7 jby jbf jaM jaY jap jaK jal jam jax jao ja5 jaV ja8 jae jag jaf jaN jaC jaP jaw jaI jbG jbg jbB jan jbD jbu jar jaL jah jaB jaa jaz jaG jab ja2 a0_s jaq jai jaO jaA jat jau jav jaj jas jaJ jak jad jay jac a0_s cyI f0_s ja5 cyI jbv jbu cyI jbZ jbB cyI jca jbG cyI jcu jbg cyI jbR) → va_S A s.heap H locs → lv_has ls 4 [(0, .ref a0), (1, .int l1), (3, .int l3)] → wb_X11_rangeOf_29 jaN jaC jbD f0_s jbv jcu jbR Q K4 jbZ jca l1 l3 s0 s1 → W p l e (headSpec wsX11_rangeOf ({ frames := 6, cells := 0, slots := 0, locals := 137 })).room s m args below meth c H locs 0 0 (MQ below (va_Qi (fun (r : Int32) (u : (Nat → Int32) × (Nat → Int32)) => Q r u.1 u.2) (cB (dC, dI) (kT cyB cyI cyJ cyP) A (fun u : (Nat → Int32) × (Nat → Int32) => ((wd09_32 a0 jaX jaF jaD ja7 jby jbf jaM jaY jap jaK jal jam jax jao ja5 jaV ja8 jae jag jaf jaN jaC jaP jaw jaI jbG jbg jbB jan jbD jbu jar jaL jah jaB jaa jaz jaG jab ja2 a0_s jaq jai jaO jaA jat jau jav jaj jas jaJ jak jad jay jac a0_s cyI f0_s ja5 cyI jbv jbu cyI u.1 jbB cyI u.2 jbG cyI jcu jbg cyI jbR) : va_W))) A) args s 0 0 A) (F0 m 29 ls [.int s1, .int s0]) := by
  obtain ⟨hx, hb, hr, hts, hown, hlocks, hml, hA, hK, hNw⟩ := id C0
  intro H locs ls jbZ jca l1 l3 s0 s1 hP hD hS hl hw
  refine lv_ior hx hb (dt_of tkX11_rangeOf_k24 3 rfl) ?_
  refine lv_topi (fun x6 ex6 => ?_)
  have hw := hw x6 ex6
  refine lv_istore_n (lv' := [(2, .int x6), (0, .ref a0), (1, .int l1), (3, .int l3)]) hx hb (dt_of tkX11_rangeOf_k24 4 rfl) rfl hl (by decide) rfl (fun ls hl => ?_)
  obtain ⟨x7, ex7⟩ : ∃ y : Int32, y = l3 + 1 := ⟨_, rfl⟩
  have hw := hw x7 ex7
  refine lv_iinc (v := x7) (lv' := [(3, .int x7), (2, .int x6), (0, .ref a0), (1, .int l1)]) hx hb (dt_of tkX11_rangeOf_k24 5 rfl) hl (k := 3) rfl (by rw [ex7]; rfl) (by decide) rfl (fun ls hl => ?_)
  refine lv_goto (tgt := 4) hx hb (dt_of tkX11_rangeOf_k24 6 rfl) (by decide) ?_
  exact hK4 _ _ _ jbZ jca l1 x6 x7 hP hD hS (lv_sub hl [2, 3, 1, 0] rfl) hw
set_option maxHeartbeats 4000000 in
set_option maxRecDepth 100000 in
theorem kl_X11_rangeOf_4 {p : Program} {l : Launch} {e : Env} {s : State} {m : MethodId} {args : Array Value} {below : List Frame} {meth : Method} {c : Code} {A : Nat → Prop} (dC : Nat → ClassId) (dI : Nat → Nat → Nat) (cyB cyI cyJ cyP : ClassId) (a0 a0_s ja5 jbu jbB jbG jbg : Nat) (jaX jaF jaD ja7 jby jbf jaM jaY jap jaK jal jam jax jao jaV ja8 jae jag jaf jaP jaw jaI jan jar jaL jah jaB jaa jaz jaG jab ja2 jaq jai jaO jaA jat jau jav jaj jas jaJ jak jad jay jac : Value) (jaN jaC jbD : Int32) (f0_s jbv jcu jbR : Nat → Int32) (Q : Int32 → (Nat → Int32) → (Nat → Int32) → Prop)  (C0 : cfx p s m args meth c cX11_rangeOf (some .int) wsX11_rangeOf RX11 4 A (dC, dI) (kT cyB cyI cyJ cyP)) : ∀ (n : Nat) (H : Heap) (locs : List Loc) (ls : Array Slot) (jbZ jca : Nat → Int32) (l1 l2 l3 : Int32), va_P (dC, dI) vwCl (wd09_32 a0 jaX jaF jaD ja7 jby jbf jaM jaY jap jaK jal jam jax jao ja5 jaV ja8 jae jag jaf jaN jaC jaP jaw jaI jbG jbg jbB jan jbD jbu jar jaL jah jaB jaa jaz jaG jab ja2 a0_s jaq jai jaO jaA jat jau jav jaj jas jaJ jak jad jay jac a0_s cyI f0_s ja5 cyI jbv jbu cyI jbZ jbB cyI jca jbG cyI jcu jbg cyI jbR) H → va_D A (wd09_32 a0 jaX jaF jaD ja7 jby jbf jaM jaY jap jaK jal jam jax jao ja5 jaV ja8 jae jag jaf jaN jaC jaP jaw jaI jbG jbg jbB jan jbD jbu jar jaL jah jaB jaa jaz jaG jab ja2 a0_s jaq jai jaO jaA jat jau jav jaj jas jaJ jak jad jay jac a0_s cyI f0_s ja5 cyI jbv jbu cyI jbZ jbB cyI jca jbG cyI jcu jbg cyI jbR) → va_S A s.heap H locs → lv_has ls 4 [(0, .ref a0), (1, .int l1), (2, .int l2), (3, .int l3)] → wl_X11_rangeOf_4 jaN jaC jbD f0_s jbv jcu jbR Q  n jbZ jca l1 l2 l3 → W p l e (headSpec wsX11_rangeOf ({ frames := 6, cells := 0, slots := 0, locals := 137 })).room s m args below meth c H locs 0 0 (MQ below (va_Qi (fun (r : Int32) (u : (Nat → Int32) × (Nat → Int32)) => Q r u.1 u.2) (cB (dC, dI) (kT cyB cyI cyJ cyP) A (fun u : (Nat → Int32) × (Nat → Int32) => ((wd09_32 a0 jaX jaF jaD ja7 jby jbf jaM jaY jap jaK jal jam jax jao ja5 jaV ja8 jae jag jaf jaN jaC jaP jaw jaI jbG jbg jbB jan jbD jbu jar jaL jah jaB jaa jaz jaG jab ja2 a0_s jaq jai jaO jaA jat jau jav jaj jas jaJ jak jad jay jac a0_s cyI f0_s ja5 cyI jbv jbu cyI u.1 jbB cyI u.2 jbG cyI jcu jbg cyI jbR) : va_W))) A) args s 0 0 A) (F0 m 4 ls []) := by
  obtain ⟨hx, hb, hr, hts, hown, hlocks, hml, hA, hK, hNw⟩ := id C0
  intro n
  induction n with
  | zero => intro H locs ls jbZ jca l1 l2 l3 hP hD hS hl hw; exact False.elim hw
  | succ n ih =>
    intro H locs ls jbZ jca l1 l2 l3 hP hD hS hl hw
    refine lv_iload_n hx hb (dt_of tkX11_rangeOf_k0 4 rfl) rfl (lv_at hl 3 rfl) ?_
    refine lv_aload_n hx hb (dt_of tkX11_rangeOf_k0 5 rfl) rfl (lv_at hl 0 rfl) ?_
    refine va_get (D := (dC, dI)) (ci := 11) (v := .int jaN) (C := RX11) (T := TX11) (N := 55) hx hb hts ui_X11_rangeOf_X11 hown hK hP 0 rfl rfl 20 (by decide) (hts _ uw_X11_rangeOf_f166) (fun _ h9 => h9) rfl (dt_of tkX11_rangeOf_k0 6 rfl) ?_
    refine lv_icmp_ge (tgt := 37) hx hb (dt_of tkX11_rangeOf_k0 7 rfl) (by decide) (fun c1 => ?_) (fun c1 => ?_)
    · have hw := hw.1 c1
      refine lv_iload_n hx hb (dt_of tkX11_rangeOf_k24 7 rfl) rfl (lv_at hl 2 rfl) ?_
      exact ((W.iret (v := l2) hx hb hr (fun t ht hW => ⟨⟨l2, (jbZ, jca), rfl, hw, by rw [ht]; exact hP, va_K.moved hW.alike hK, hD⟩, hS.F ht⟩) hS.2.2 (dt_of tkX11_rangeOf_k24 8 rfl)))
    · have hw := hw.2 c1
      refine lv_iload_n hx hb (dt_of tkX11_rangeOf_k0 8 rfl) rfl (lv_at hl 2 rfl) ?_
      refine lv_aload_n hx hb (dt_of tkX11_rangeOf_k0 9 rfl) rfl (lv_at hl 0 rfl) ?_
      refine lv_iload_n hx hb (dt_of tkX11_rangeOf_k0 10 rfl) rfl (lv_at hl 1 rfl) ?_
      refine lv_iload_n hx hb (dt_of tkX11_rangeOf_k0 11 rfl) rfl (lv_at hl 3 rfl) ?_
      obtain ⟨hCc, hPc, hDc, hFc⟩ := va_pick (ws' := (wd09_32 a0 jaX jaF jaD ja7 jby jbf jaM jaY jap jaK jal jam jax jao ja5 jaV ja8 jae jag jaf jaN jaC jaP jaw jaI jbG jbg jbB jan jbD jbu jar jaL jah jaB jaa jaz jaG jab ja2 a0_s jaq jai jaO jaA jat jau jav jaj jas jaJ jak jad jay jac a0_s cyI f0_s ja5 cyI jbv jbu cyI jbZ jbB cyI jca jbG cyI jcu jbg cyI jbR)) hP hD hS hA [0, 1, 2, 3, 4, 5, 6] (by decide +kernel) rfl
      refine va_calli (va_runV (As := [.int l1, .int l3]) (rest := [.int l2]) ⟨hx, hb, hml, hown, hts⟩ (ck_X11_canLeap l dC dI cyB cyI cyJ cyP a0 a0_s ja5 jbu jbB jbG jbg H.size (jaX) (jaF) (jaD) (ja7) (jby) (jbf) (jaM) (jaY) (jap) (jaK) (jal) (jam) (jax) (jao) (jaV) (ja8) (jae) (jag) (jaf) (.int jaN) (jaP) (jaw) (jaI) (jan) (jar) (jaL) (jah) (jaB) (jaa) (jaz) (jaG) (jab) (ja2) (jaq) (jai) (jaO) (jaA) (jat) (jau) (jav) (jaj) (jas) (jaJ) (jak) (jad) (jay) (jac) jaC jbD f0_s jbv jcu jbR jbZ jca l1 l3 hw) (cwV 2 hts gX11_rangeOf_X11_canLeap rfl rfl rfl (by decide +kernel) ⟨Nat.le_of_ble_eq_true rfl, Nat.le_of_ble_eq_true rfl⟩) ⟨cPc_blind, va_recv (q := (RX11, TX11, 55)) hK hPc (ci := 11) (q0 := 0) rfl rfl, cPc_pre hPc hK hDc hNw⟩ rfl rfl hl.1 rfl (lv_room (Nat.le_of_ble_eq_true rfl)) (dt_of tkX11_rangeOf_k0 12 rfl) ⟨Nat.le_of_ble_eq_true rfl, Nat.le_of_ble_eq_true rfl⟩) hS (fun q _ h => hFc q h) hFc (fun r4 u t H1 locs ht hvm hw hB hz1 hk1 hS => ?_)
      obtain ⟨f2, f3⟩ := u
      obtain ⟨hP1, hK1, hD1⟩ := hB
      rw [ht] at hP1
      obtain ⟨hP, hD⟩ := va_joinI (wr := []) (w1 := (wd09_32 a0 jaX jaF jaD ja7 jby jbf jaM jaY jap jaK jal jam jax jao ja5 jaV ja8 jae jag jaf jaN jaC jaP jaw jaI jbG jbg jbB jan jbD jbu jar jaL jah jaB jaa jaz jaG jab ja2 a0_s jaq jai jaO jaA jat jau jav jaj jas jaJ jak jad jay jac a0_s cyI f0_s ja5 cyI jbv jbu cyI f2 jbB cyI f3 jbG cyI jcu jbg cyI jbR)) (wn := (wd09_32 a0 jaX jaF jaD ja7 jby jbf jaM jaY jap jaK jal jam jax jao ja5 jaV ja8 jae jag jaf jaN jaC jaP jaw jaI jbG jbg jbB jan jbD jbu jar jaL jah jaB jaa jaz jaG jab ja2 a0_s jaq jai jaO jaA jat jau jav jaj jas jaJ jak jad jay jac a0_s cyI f0_s ja5 cyI jbv jbu cyI f2 jbB cyI f3 jbG cyI jcu jbg cyI jbR)) hP hD [0, 1, 2, 3, 4, 5, 6] [] hCc rfl (by decide +kernel) (by decide +kernel) rfl hk1 hFc hP1 hD1
      generalize H1 = H at hP hS ⊢
      refine lv_if_eq (tgt := 28) hx hb (dt_of tkX11_rangeOf_k0 13 rfl) (by decide) (fun c5 => ?_) (fun c5 => ?_)
      · have hw := hw.1 c5
        refine lv_iconst (v := 0) hx hb (dt_of tkX11_rangeOf_k24 2 rfl) (by decide) ?_
        exact kb_X11_rangeOf_29 dC dI cyB cyI cyJ cyP a0 a0_s ja5 jbu jbB jbG jbg jaX jaF jaD ja7 jby jbf jaM jaY jap jaK jal jam jax jao jaV ja8 jae jag jaf jaP jaw jaI jan jar jaL jah jaB jaa jaz jaG jab ja2 jaq jai jaO jaA jat jau jav jaj jas jaJ jak jad jay jac jaN jaC jbD f0_s jbv jcu jbR Q (wl_X11_rangeOf_4 jaN jaC jbD f0_s jbv jcu jbR Q  n) ih C0 _ _ _ f2 f3 l1 l3 l2 0 hP hD hS (lv_sub hl [0, 1, 3] rfl) hw
      · have hw := hw.2 c5
        refine lv_iconst (v := 1) hx hb (dt_of tkX11_rangeOf_k0 14 rfl) (by decide) ?_
        refine lv_iload_n hx hb (dt_of tkX11_rangeOf_k0 15 rfl) rfl (lv_at hl 3 rfl) ?_
        refine lv_ishl hx hb (dt_of tkX11_rangeOf_k24 0 rfl) ?_
        refine lv_goto (tgt := 29) hx hb (dt_of tkX11_rangeOf_k24 1 rfl) (by decide) ?_
        exact kb_X11_rangeOf_29 dC dI cyB cyI cyJ cyP a0 a0_s ja5 jbu jbB jbG jbg jaX jaF jaD ja7 jby jbf jaM jaY jap jaK jal jam jax jao jaV ja8 jae jag jaf jaP jaw jaI jan jar jaL jah jaB jaa jaz jaG jab ja2 jaq jai jaO jaA jat jau jav jaj jas jaJ jak jad jay jac jaN jaC jbD f0_s jbv jcu jbR Q (wl_X11_rangeOf_4 jaN jaC jbD f0_s jbv jcu jbR Q  n) ih C0 _ _ _ f2 f3 l1 l3 l2 (1 <<< (l3 &&& 31)) hP hD hS (lv_sub hl [0, 1, 3] rfl) hw
set_option maxHeartbeats 4000000 in
set_option maxRecDepth 100000 in
theorem ck_X11_rangeOf (l : Launch) (dC : Nat → ClassId) (dI : Nat → Nat → Nat) (cyB cyI cyJ cyP : ClassId) (a0 a0_s ja5 jbu jbB jbG jbg sz : Nat) (jaX jaF jaD ja7 jby jbf jaM jaY jap jaK jal jam jax jao jaV ja8 jae jag jaf jaP jaw jaI jan jar jaL jah jaB jaa jaz jaG jab ja2 jaq jai jaO jaA jat jau jav jaj jas jaJ jak jad jay jac : Value) (jaN jaC jbD : Int32) (f0_s jbv jcu jbR jbZ jca : Nat → Int32) (p1 : Int32) {Q : Int32 → (Nat → Int32) → (Nat → Int32) → Prop} (hw : wq_X11_rangeOf jaN jaC jbD f0_s jbv jcu jbR jbZ jca p1 Q) : Met l yX11_rangeOf wsX11_rangeOf ({ frames := 6, cells := 0, slots := 0, locals := 137 }) (va_Pc [.ref a0, .int p1] (cPc (dC, dI) (kT cyB cyI cyJ cyP) (wd09_32 a0 jaX jaF jaD ja7 jby jbf jaM jaY jap jaK jal jam jax jao ja5 jaV ja8 jae jag jaf jaN jaC jaP jaw jaI jbG jbg jbB jan jbD jbu jar jaL jah jaB jaa jaz jaG jab ja2 a0_s jaq jai jaO jaA jat jau jav jaj jas jaJ jak jad jay jac a0_s cyI f0_s ja5 cyI jbv jbu cyI jbZ jbB cyI jca jbG cyI jcu jbg cyI jbR) sz)) (va_Qi (fun (r : Int32) (u : (Nat → Int32) × (Nat → Int32)) => Q r u.1 u.2) (cB (dC, dI) (kT cyB cyI cyJ cyP) (va_A (wd09_32 a0 jaX jaF jaD ja7 jby jbf jaM jaY jap jaK jal jam jax jao ja5 jaV ja8 jae jag jaf jaN jaC jaP jaw jaI jbG jbg jbB jan jbD jbu jar jaL jah jaB jaa jaz jaG jab ja2 a0_s jaq jai jaO jaA jat jau jav jaj jas jaJ jak jad jay jac a0_s cyI f0_s ja5 cyI jbv jbu cyI jbZ jbB cyI jca jbG cyI jcu jbg cyI jbR) sz) (fun u : (Nat → Int32) × (Nat → Int32) => ((wd09_32 a0 jaX jaF jaD ja7 jby jbf jaM jaY jap jaK jal jam jax jao ja5 jaV ja8 jae jag jaf jaN jaC jaP jaw jaI jbG jbg jbB jan jbD jbu jar jaL jah jaB jaa jaz jaG jab ja2 a0_s jaq jai jaO jaA jat jau jav jaj jas jaJ jak jad jay jac a0_s cyI f0_s ja5 cyI jbv jbu cyI u.1 jbB cyI u.2 jbG cyI jcu jbg cyI jbR) : va_W))) (va_A (wd09_32 a0 jaX jaF jaD ja7 jby jbf jaM jaY jap jaK jal jam jax jao ja5 jaV ja8 jae jag jaf jaN jaC jaP jaw jaI jbG jbg jbB jan jbD jbu jar jaL jah jaB jaa jaz jaG jab ja2 a0_s jaq jai jaO jaA jat jau jav jaj jas jaJ jak jad jay jac a0_s cyI f0_s ja5 cyI jbv jbu cyI jbZ jbB cyI jca jbG cyI jcu jbg cyI jbR) sz)) 0 0 (va_A (wd09_32 a0 jaX jaF jaD ja7 jby jbf jaM jaY jap jaK jal jam jax jao ja5 jaV ja8 jae jag jaf jaN jaC jaP jaw jaI jbG jbg jbB jan jbD jbu jar jaL jah jaB jaa jaz jaG jab ja2 a0_s jaq jai jaO jaA jat jau jav jaj jas jaJ jak jad jay jac a0_s cyI f0_s ja5 cyI jbv jbu cyI jbZ jbB cyI jca jbG cyI jcu jbg cyI jbR) sz) := by
  refine Met.ofW (cc := cX11_rangeOf) (maxL := 4) (ret := (some .int)) (by decide) rfl ?_
  intro p e s m args below meth c s₁ B hml hv
  obtain ⟨rfl, hsz, hP, hK, hD0, hNw⟩ := hv
  have hx := B.exec
  have hb := B.bytes
  have hr := B.returns
  have hts := atoms_spec (ws := wsX11_rangeOf) B.pre
  have hown : s.vm.findClass RX11 = some m.cls := findClass_of_methodNamed B.named
  have hlocks := B.notSynchronized
  subst hsz
  have hD := hD0.self (sz := s.heap.size)
  generalize hAe : va_A (wd09_32 a0 jaX jaF jaD ja7 jby jbf jaM jaY jap jaK jal jam jax jao ja5 jaV ja8 jae jag jaf jaN jaC jaP jaw jaI jbG jbg jbB jan jbD jbu jar jaL jah jaB jaa jaz jaG jab ja2 a0_s jaq jai jaO jaA jat jau jav jaj jas jaJ jak jad jay jac a0_s cyI f0_s ja5 cyI jbv jbu cyI jbZ jbB cyI jca jbG cyI jcu jbg cyI jbR) s.heap.size = A at hD ⊢
  have hA : ∀ q : Nat, s.heap.size ≤ q → A q := fun q h => by rw [← hAe]; exact Or.inr h
  have hS : va_S A s.heap s.heap [] := va_S.rf
  have hP : va_P (dC, dI) vwCl (wd09_32 a0 jaX jaF jaD ja7 jby jbf jaM jaY jap jaK jal jam jax jao ja5 jaV ja8 jae jag jaf jaN jaC jaP jaw jaI jbG jbg jbB jan jbD jbu jar jaL jah jaB jaa jaz jaG jab ja2 a0_s jaq jai jaO jaA jat jau jav jaj jas jaJ jak jad jay jac a0_s cyI f0_s ja5 cyI jbv jbu cyI jbZ jbB cyI jca jbG cyI jcu jbg cyI jbR) s.heap := hP
  have hl := lv_entry ([.ref a0, .int p1]) (n := 4) (Nat.le_of_ble_eq_true rfl)
  rw [lg_entry_eq]
  generalize (lg_sl ([.ref a0, .int p1]) ++ List.replicate (4 - (lg_sl ([.ref a0, .int p1])).length) Slot.unset).toArray = ls at hl ⊢
  have hl : lv_has ls 4 [(0, .ref a0), (1, .int p1)] := hl
  have C0 : cfx p s m _ meth c cX11_rangeOf (some .int) wsX11_rangeOf RX11 4 A (dC, dI) (kT cyB cyI cyJ cyP) := ⟨hx, hb, hr, hts, hown, hlocks, hml, hA, hK, hNw⟩
  clear hAe
  obtain ⟨H, hH⟩ : ∃ H, H = s.heap := ⟨_, rfl⟩
  rw [← hH] at hP ⊢
  have hS : va_S A s.heap H [] := by rw [hH]; exact va_S.rf
  have hS := hS
  refine lv_iconst (v := 0) hx hb (dt_of tkX11_rangeOf_k0 0 rfl) (by decide) ?_
  refine lv_istore_n (lv' := [(2, .int 0), (0, .ref a0), (1, .int p1)]) hx hb (dt_of tkX11_rangeOf_k0 1 rfl) rfl hl (by decide) rfl (fun ls hl => ?_)
  refine lv_iconst (v := 0) hx hb (dt_of tkX11_rangeOf_k0 2 rfl) (by decide) ?_
  refine lv_istore_n (lv' := [(3, .int 0), (2, .int 0), (0, .ref a0), (1, .int p1)]) hx hb (dt_of tkX11_rangeOf_k0 3 rfl) rfl hl (by decide) rfl (fun ls hl => ?_)
  obtain ⟨n9, hw⟩ := hw
  exact kl_X11_rangeOf_4 dC dI cyB cyI cyJ cyP a0 a0_s ja5 jbu jbB jbG jbg jaX jaF jaD ja7 jby jbf jaM jaY jap jaK jal jam jax jao jaV ja8 jae jag jaf jaP jaw jaI jan jar jaL jah jaB jaa jaz jaG jab ja2 jaq jai jaO jaA jat jau jav jaj jas jaJ jak jad jay jac jaN jaC jbD f0_s jbv jcu jbR Q  C0 n9 _ _ _ jbZ jca p1 0 0 hP hD hS (lv_sub hl [2, 3, 1, 0] rfl) hw
theorem ui_X11_safeForms_X11 : ∀ w ∈ u_ws RX11 TX11 55, w ∈ wsX11_safeForms := uiM mbX11_safeForms euX11 (by decide +kernel)
theorem uw_X11_safeForms_f166 : (.fieldLink RX11 166 "MarchHaresModel" "forms" "I" : Cond) ∈ wsX11_safeForms := mbX11_safeForms 519 (by decide +kernel)
set_option maxHeartbeats 4000000 in
set_option maxRecDepth 100000 in
theorem kb_X11_safeForms_28 {p : Program} {l : Launch} {e : Env} {s : State} {m : MethodId} {args : Array Value} {below : List Frame} {meth : Method} {c : Code} {A : Nat → Prop} (dC : Nat → ClassId) (dI : Nat → Nat → Nat) (cyB cyI cyJ cyP : ClassId) (a0 ja5 jbJ : Nat) (jaX jaF jaD ja7 jby jbf jaM jaY jap jaK jal jam jax jao jaV jae jag jaf ja4 jaw jaI jaZ jaH jaS jan jaU jaE jar jaL jah jaB jaa jaz jaG jab ja2 z0_s jaq jai jaO jaA jat jau jav jaj jas jaJ jak jad jay jac : Value) (jaN jbw : Int32) (jbv jcx : Nat → Int32) (Q : Int32 → Prop) (K4 : Int32 → Int32 → Prop) (hK4 : ∀ (H : Heap) (locs : List Loc) (ls : Array Slot) (l1 l2 : Int32), va_P (dC, dI) vwCl (wd09_33 a0 jaX jaF jaD ja7 jby jbf jaM jaY jap jaK jal jam jax jao ja5 jaV jbJ jae jag jaf jaN ja4 jbw jaw jaI jaZ jaH jaS jan jaU jaE jar jaL jah jaB jaa jaz jaG jab ja2 z0_s jaq jai jaO jaA jat jau jav jaj jas jaJ jak jad jay jac ja5 cyI jbv jbJ cyI jcx) H → va_D A (wd09_33 a0 jaX jaF jaD ja7 jby jbf jaM jaY jap jaK jal jam jax jao ja5 jaV jbJ jae jag jaf jaN ja4 jbw jaw jaI jaZ jaH jaS jan jaU jaE jar jaL jah jaB jaa jaz jaG jab ja2 z0_s jaq jai jaO jaA jat jau jav jaj jas jaJ jak jad jay jac ja5 cyI jbv jbJ cyI jcx) → va_S A s.heap H locs → lv_has ls 3 [(0, .ref a0), (1, .int l1), (2, .int l2)] → K4 l1 l2 → W p l e (headSpec wsX11_safeForms ({ frames := 2, cells := 0, slots := 0, locals := 42 })).room s m args below meth c H locs 0 0 (MQ below (va_Qi (fun (r : Int32) (_ : Unit) => Q r ) (cB (dC, dI) (kT cyB cyI cyJ cyP) A (fun u : Unit => ((wd09_33 a0 jaX jaF jaD ja7 jby jbf jaM jaY jap jaK jal jam jax jao ja5 jaV jbJ jae jag jaf jaN ja4 jbw jaw jaI jaZ jaH jaS jan jaU jaE jar jaL jah jaB jaa jaz jaG jab ja2 z0_s jaq jai jaO jaA jat jau jav jaj jas jaJ jak jad jay jac ja5 cyI jbv jbJ cyI jcx) : va_W))) A) args s 0 0 A) (F0 m 4 ls [])) (C0 : cfx p s m args meth c cX11_safeForms (some .int) wsX11_safeForms RX11 3 A (dC, dI) (kT cyB cyI cyJ cyP)) : ∀ (H : Heap) (locs : List Loc) (ls : Array Slot) (l2 s0 s1 : Int32), va_P (dC, dI) vwCl (wd09_33 a0 jaX jaF jaD ja7 jby jbf jaM jaY jap jaK jal jam jax jao ja5 jaV jbJ jae jag jaf jaN ja4 jbw jaw jaI jaZ jaH jaS jan jaU jaE jar jaL jah jaB jaa jaz jaG jab ja2 z0_s jaq jai jaO jaA jat jau jav jaj jas jaJ jak jad jay jac ja5 cyI jbv jbJ cyI jcx) H → va_D A (wd09_33 a0 jaX jaF jaD ja7 jby jbf jaM jaY jap jaK jal jam jax jao ja5 jaV jbJ jae jag jaf jaN ja4 jbw jaw jaI jaZ jaH jaS jan jaU jaE jar jaL jah jaB jaa jaz jaG jab ja2 z0_s jaq jai jaO jaA jat jau jav jaj jas jaJ jak jad jay jac ja5 cyI jbv jbJ cyI jcx) → va_S A s.heap H locs → lv_has ls 3 [(0, .ref a0), (2, .int l2)] → wb_X11_safeForms_28 jaN jbw jbv jcx Q K4 l2 s0 s1 → W p l e (headSpec wsX11_safeForms ({ frames := 2, cells := 0, slots := 0, locals := 42 })).room s m args below meth c H locs 0 0 (MQ below (va_Qi (fun (r : Int32) (_ : Unit) => Q r ) (cB (dC, dI) (kT cyB cyI cyJ cyP) A (fun u : Unit => ((wd09_33 a0 jaX jaF jaD ja7 jby jbf jaM jaY jap jaK jal jam jax jao ja5 jaV jbJ jae jag jaf jaN ja4 jbw jaw jaI jaZ jaH jaS jan jaU jaE jar jaL jah jaB jaa jaz jaG jab ja2 z0_s jaq jai jaO jaA jat jau jav jaj jas jaJ jak jad jay jac ja5 cyI jbv jbJ cyI jcx) : va_W))) A) args s 0 0 A) (F0 m 28 ls [.int s1, .int s0]) := by
  obtain ⟨hx, hb, hr, hts, hown, hlocks, hml, hA, hK, hNw⟩ := id C0
  intro H locs ls l2 s0 s1 hP hD hS hl hw
  refine lv_ior hx hb (dt_of tkX11_safeForms_k24 2 rfl) ?_
  refine lv_topi (fun x4 ex4 => ?_)
  have hw := hw x4 ex4
  refine lv_istore_n (lv' := [(1, .int x4), (0, .ref a0), (2, .int l2)]) hx hb (dt_of tkX11_safeForms_k24 3 rfl) rfl hl (by decide) rfl (fun ls hl => ?_)
  obtain ⟨x5, ex5⟩ : ∃ y : Int32, y = l2 + 1 := ⟨_, rfl⟩
  have hw := hw x5 ex5
  refine lv_iinc (v := x5) (lv' := [(2, .int x5), (1, .int x4), (0, .ref a0)]) hx hb (dt_of tkX11_safeForms_k24 4 rfl) hl (k := 2) rfl (by rw [ex5]; rfl) (by decide) rfl (fun ls hl => ?_)
  refine lv_goto (tgt := 4) hx hb (dt_of tkX11_safeForms_k24 5 rfl) (by decide) ?_
  exact hK4 _ _ _ x4 x5 hP hD hS (lv_sub hl [2, 1, 0] rfl) hw
set_option maxHeartbeats 4000000 in
set_option maxRecDepth 100000 in
theorem kl_X11_safeForms_4 {p : Program} {l : Launch} {e : Env} {s : State} {m : MethodId} {args : Array Value} {below : List Frame} {meth : Method} {c : Code} {A : Nat → Prop} (dC : Nat → ClassId) (dI : Nat → Nat → Nat) (cyB cyI cyJ cyP : ClassId) (a0 ja5 jbJ : Nat) (jaX jaF jaD ja7 jby jbf jaM jaY jap jaK jal jam jax jao jaV jae jag jaf ja4 jaw jaI jaZ jaH jaS jan jaU jaE jar jaL jah jaB jaa jaz jaG jab ja2 z0_s jaq jai jaO jaA jat jau jav jaj jas jaJ jak jad jay jac : Value) (jaN jbw : Int32) (jbv jcx : Nat → Int32) (Q : Int32 → Prop)  (C0 : cfx p s m args meth c cX11_safeForms (some .int) wsX11_safeForms RX11 3 A (dC, dI) (kT cyB cyI cyJ cyP)) : ∀ (n : Nat) (H : Heap) (locs : List Loc) (ls : Array Slot) (l1 l2 : Int32), va_P (dC, dI) vwCl (wd09_33 a0 jaX jaF jaD ja7 jby jbf jaM jaY jap jaK jal jam jax jao ja5 jaV jbJ jae jag jaf jaN ja4 jbw jaw jaI jaZ jaH jaS jan jaU jaE jar jaL jah jaB jaa jaz jaG jab ja2 z0_s jaq jai jaO jaA jat jau jav jaj jas jaJ jak jad jay jac ja5 cyI jbv jbJ cyI jcx) H → va_D A (wd09_33 a0 jaX jaF jaD ja7 jby jbf jaM jaY jap jaK jal jam jax jao ja5 jaV jbJ jae jag jaf jaN ja4 jbw jaw jaI jaZ jaH jaS jan jaU jaE jar jaL jah jaB jaa jaz jaG jab ja2 z0_s jaq jai jaO jaA jat jau jav jaj jas jaJ jak jad jay jac ja5 cyI jbv jbJ cyI jcx) → va_S A s.heap H locs → lv_has ls 3 [(0, .ref a0), (1, .int l1), (2, .int l2)] → wl_X11_safeForms_4 jaN jbw jbv jcx Q  n l1 l2 → W p l e (headSpec wsX11_safeForms ({ frames := 2, cells := 0, slots := 0, locals := 42 })).room s m args below meth c H locs 0 0 (MQ below (va_Qi (fun (r : Int32) (_ : Unit) => Q r ) (cB (dC, dI) (kT cyB cyI cyJ cyP) A (fun u : Unit => ((wd09_33 a0 jaX jaF jaD ja7 jby jbf jaM jaY jap jaK jal jam jax jao ja5 jaV jbJ jae jag jaf jaN ja4 jbw jaw jaI jaZ jaH jaS jan jaU jaE jar jaL jah jaB jaa jaz jaG jab ja2 z0_s jaq jai jaO jaA jat jau jav jaj jas jaJ jak jad jay jac ja5 cyI jbv jbJ cyI jcx) : va_W))) A) args s 0 0 A) (F0 m 4 ls []) := by
  obtain ⟨hx, hb, hr, hts, hown, hlocks, hml, hA, hK, hNw⟩ := id C0
  intro n
  induction n with
  | zero => intro H locs ls l1 l2 hP hD hS hl hw; exact False.elim hw
  | succ n ih =>
    intro H locs ls l1 l2 hP hD hS hl hw
    refine lv_iload_n hx hb (dt_of tkX11_safeForms_k0 4 rfl) rfl (lv_at hl 2 rfl) ?_
    refine lv_aload_n hx hb (dt_of tkX11_safeForms_k0 5 rfl) rfl (lv_at hl 0 rfl) ?_
    refine va_get (D := (dC, dI)) (ci := 11) (v := .int jaN) (C := RX11) (T := TX11) (N := 55) hx hb hts ui_X11_safeForms_X11 hown hK hP 0 rfl rfl 20 (by decide) (hts _ uw_X11_safeForms_f166) (fun _ h9 => h9) rfl (dt_of tkX11_safeForms_k0 6 rfl) ?_
    refine lv_icmp_ge (tgt := 36) hx hb (dt_of tkX11_safeForms_k0 7 rfl) (by decide) (fun c1 => ?_) (fun c1 => ?_)
    · have hw := hw.1 c1
      refine lv_iload_n hx hb (dt_of tkX11_safeForms_k24 6 rfl) rfl (lv_at hl 1 rfl) ?_
      exact ((W.iret (v := l1) hx hb hr (fun t ht hW => ⟨⟨l1, (), rfl, hw, by rw [ht]; exact hP, va_K.moved hW.alike hK, hD⟩, hS.F ht⟩) hS.2.2 (dt_of tkX11_safeForms_k24 7 rfl)))
    · have hw := hw.2 c1
      refine lv_iload_n hx hb (dt_of tkX11_safeForms_k0 8 rfl) rfl (lv_at hl 1 rfl) ?_
      refine lv_aload_n hx hb (dt_of tkX11_safeForms_k0 9 rfl) rfl (lv_at hl 0 rfl) ?_
      refine lv_iload_n hx hb (dt_of tkX11_safeForms_k0 10 rfl) rfl (lv_at hl 2 rfl) ?_
      obtain ⟨hCc, hPc, hDc, hFc⟩ := va_pick (ws' := (wd09_33 a0 jaX jaF jaD ja7 jby jbf jaM jaY jap jaK jal jam jax jao ja5 jaV jbJ jae jag jaf jaN ja4 jbw jaw jaI jaZ jaH jaS jan jaU jaE jar jaL jah jaB jaa jaz jaG jab ja2 z0_s jaq jai jaO jaA jat jau jav jaj jas jaJ jak jad jay jac ja5 cyI jbv jbJ cyI jcx)) hP hD hS hA [0, 1, 2] (by decide +kernel) rfl
      refine va_calli (va_runV (As := [.int l2]) (rest := [.int l1]) ⟨hx, hb, hml, hown, hts⟩ (ck_X11_isSafe l dC dI cyB cyI cyJ cyP a0 ja5 jbJ H.size (jaX) (jaF) (jaD) (ja7) (jby) (jbf) (jaM) (jaY) (jap) (jaK) (jal) (jam) (jax) (jao) (jaV) (jae) (jag) (jaf) (.int jaN) (ja4) (jaw) (jaI) (jaZ) (jaH) (jaS) (jan) (jaU) (jaE) (jar) (jaL) (jah) (jaB) (jaa) (jaz) (jaG) (jab) (ja2) (z0_s) (jaq) (jai) (jaO) (jaA) (jat) (jau) (jav) (jaj) (jas) (jaJ) (jak) (jad) (jay) (jac) jbw jbv jcx  l2 hw) (cwV 1 hts gX11_safeForms_X11_isSafe rfl rfl rfl (by decide +kernel) ⟨Nat.le_of_ble_eq_true rfl, Nat.le_of_ble_eq_true rfl⟩) ⟨cPc_blind, va_recv (q := (RX11, TX11, 55)) hK hPc (ci := 11) (q0 := 0) rfl rfl, cPc_pre hPc hK hDc hNw⟩ rfl rfl hl.1 rfl (lv_room (Nat.le_of_ble_eq_true rfl)) (dt_of tkX11_safeForms_k0 11 rfl) ⟨Nat.le_of_ble_eq_true rfl, Nat.le_of_ble_eq_true rfl⟩) hS (fun q _ h => hFc q h) hFc (fun r2 u t H1 locs ht hvm hw hB hz1 hk1 hS => ?_)
      obtain ⟨hP1, hK1, hD1⟩ := hB
      rw [ht] at hP1
      obtain ⟨hP, hD⟩ := va_joinI (wr := []) (w1 := (wd09_33 a0 jaX jaF jaD ja7 jby jbf jaM jaY jap jaK jal jam jax jao ja5 jaV jbJ jae jag jaf jaN ja4 jbw jaw jaI jaZ jaH jaS jan jaU jaE jar jaL jah jaB jaa jaz jaG jab ja2 z0_s jaq jai jaO jaA jat jau jav jaj jas jaJ jak jad jay jac ja5 cyI jbv jbJ cyI jcx)) (wn := (wd09_33 a0 jaX jaF jaD ja7 jby jbf jaM jaY jap jaK jal jam jax jao ja5 jaV jbJ jae jag jaf jaN ja4 jbw jaw jaI jaZ jaH jaS jan jaU jaE jar jaL jah jaB jaa jaz jaG jab ja2 z0_s jaq jai jaO jaA jat jau jav jaj jas jaJ jak jad jay jac ja5 cyI jbv jbJ cyI jcx)) hP hD [0, 1, 2] [] hCc rfl (by decide +kernel) (by decide +kernel) rfl hk1 hFc hP1 hD1
      generalize H1 = H at hP hS ⊢
      refine lv_if_eq (tgt := 27) hx hb (dt_of tkX11_safeForms_k0 12 rfl) (by decide) (fun c3 => ?_) (fun c3 => ?_)
      · have hw := hw.1 c3
        refine lv_iconst (v := 0) hx hb (dt_of tkX11_safeForms_k24 1 rfl) (by decide) ?_
        exact kb_X11_safeForms_28 dC dI cyB cyI cyJ cyP a0 ja5 jbJ jaX jaF jaD ja7 jby jbf jaM jaY jap jaK jal jam jax jao jaV jae jag jaf ja4 jaw jaI jaZ jaH jaS jan jaU jaE jar jaL jah jaB jaa jaz jaG jab ja2 z0_s jaq jai jaO jaA jat jau jav jaj jas jaJ jak jad jay jac jaN jbw jbv jcx Q (wl_X11_safeForms_4 jaN jbw jbv jcx Q  n) ih C0 _ _ _ l2 l1 0 hP hD hS (lv_sub hl [0, 2] rfl) hw
      · have hw := hw.2 c3
        refine lv_iconst (v := 1) hx hb (dt_of tkX11_safeForms_k0 13 rfl) (by decide) ?_
        refine lv_iload_n hx hb (dt_of tkX11_safeForms_k0 14 rfl) rfl (lv_at hl 2 rfl) ?_
        refine lv_ishl hx hb (dt_of tkX11_safeForms_k0 15 rfl) ?_
        refine lv_goto (tgt := 28) hx hb (dt_of tkX11_safeForms_k24 0 rfl) (by decide) ?_
        exact kb_X11_safeForms_28 dC dI cyB cyI cyJ cyP a0 ja5 jbJ jaX jaF jaD ja7 jby jbf jaM jaY jap jaK jal jam jax jao jaV jae jag jaf ja4 jaw jaI jaZ jaH jaS jan jaU jaE jar jaL jah jaB jaa jaz jaG jab ja2 z0_s jaq jai jaO jaA jat jau jav jaj jas jaJ jak jad jay jac jaN jbw jbv jcx Q (wl_X11_safeForms_4 jaN jbw jbv jcx Q  n) ih C0 _ _ _ l2 l1 (1 <<< (l2 &&& 31)) hP hD hS (lv_sub hl [0, 2] rfl) hw
set_option maxHeartbeats 4000000 in
set_option maxRecDepth 100000 in
theorem ck_X11_safeForms (l : Launch) (dC : Nat → ClassId) (dI : Nat → Nat → Nat) (cyB cyI cyJ cyP : ClassId) (a0 ja5 jbJ sz : Nat) (jaX jaF jaD ja7 jby jbf jaM jaY jap jaK jal jam jax jao jaV jae jag jaf ja4 jaw jaI jaZ jaH jaS jan jaU jaE jar jaL jah jaB jaa jaz jaG jab ja2 z0_s jaq jai jaO jaA jat jau jav jaj jas jaJ jak jad jay jac : Value) (jaN jbw : Int32) (jbv jcx : Nat → Int32)   {Q : Int32 → Prop} (hw : wq_X11_safeForms jaN jbw jbv jcx   Q) : Met l yX11_safeForms wsX11_safeForms ({ frames := 2, cells := 0, slots := 0, locals := 42 }) (va_Pc [.ref a0] (cPc (dC, dI) (kT cyB cyI cyJ cyP) (wd09_33 a0 jaX jaF jaD ja7 jby jbf jaM jaY jap jaK jal jam jax jao ja5 jaV jbJ jae jag jaf jaN ja4 jbw jaw jaI jaZ jaH jaS jan jaU jaE jar jaL jah jaB jaa jaz jaG jab ja2 z0_s jaq jai jaO jaA jat jau jav jaj jas jaJ jak jad jay jac ja5 cyI jbv jbJ cyI jcx) sz)) (va_Qi (fun (r : Int32) (_ : Unit) => Q r ) (cB (dC, dI) (kT cyB cyI cyJ cyP) (va_A (wd09_33 a0 jaX jaF jaD ja7 jby jbf jaM jaY jap jaK jal jam jax jao ja5 jaV jbJ jae jag jaf jaN ja4 jbw jaw jaI jaZ jaH jaS jan jaU jaE jar jaL jah jaB jaa jaz jaG jab ja2 z0_s jaq jai jaO jaA jat jau jav jaj jas jaJ jak jad jay jac ja5 cyI jbv jbJ cyI jcx) sz) (fun u : Unit => ((wd09_33 a0 jaX jaF jaD ja7 jby jbf jaM jaY jap jaK jal jam jax jao ja5 jaV jbJ jae jag jaf jaN ja4 jbw jaw jaI jaZ jaH jaS jan jaU jaE jar jaL jah jaB jaa jaz jaG jab ja2 z0_s jaq jai jaO jaA jat jau jav jaj jas jaJ jak jad jay jac ja5 cyI jbv jbJ cyI jcx) : va_W))) (va_A (wd09_33 a0 jaX jaF jaD ja7 jby jbf jaM jaY jap jaK jal jam jax jao ja5 jaV jbJ jae jag jaf jaN ja4 jbw jaw jaI jaZ jaH jaS jan jaU jaE jar jaL jah jaB jaa jaz jaG jab ja2 z0_s jaq jai jaO jaA jat jau jav jaj jas jaJ jak jad jay jac ja5 cyI jbv jbJ cyI jcx) sz)) 0 0 (va_A (wd09_33 a0 jaX jaF jaD ja7 jby jbf jaM jaY jap jaK jal jam jax jao ja5 jaV jbJ jae jag jaf jaN ja4 jbw jaw jaI jaZ jaH jaS jan jaU jaE jar jaL jah jaB jaa jaz jaG jab ja2 z0_s jaq jai jaO jaA jat jau jav jaj jas jaJ jak jad jay jac ja5 cyI jbv jbJ cyI jcx) sz) := by
  refine Met.ofW (cc := cX11_safeForms) (maxL := 3) (ret := (some .int)) (by decide) rfl ?_
  intro p e s m args below meth c s₁ B hml hv
  obtain ⟨rfl, hsz, hP, hK, hD0, hNw⟩ := hv
  have hx := B.exec
  have hb := B.bytes
  have hr := B.returns
  have hts := atoms_spec (ws := wsX11_safeForms) B.pre
  have hown : s.vm.findClass RX11 = some m.cls := findClass_of_methodNamed B.named
  have hlocks := B.notSynchronized
  subst hsz
  have hD := hD0.self (sz := s.heap.size)
  generalize hAe : va_A (wd09_33 a0 jaX jaF jaD ja7 jby jbf jaM jaY jap jaK jal jam jax jao ja5 jaV jbJ jae jag jaf jaN ja4 jbw jaw jaI jaZ jaH jaS jan jaU jaE jar jaL jah jaB jaa jaz jaG jab ja2 z0_s jaq jai jaO jaA jat jau jav jaj jas jaJ jak jad jay jac ja5 cyI jbv jbJ cyI jcx) s.heap.size = A at hD ⊢
  have hA : ∀ q : Nat, s.heap.size ≤ q → A q := fun q h => by rw [← hAe]; exact Or.inr h
  have hS : va_S A s.heap s.heap [] := va_S.rf
  have hP : va_P (dC, dI) vwCl (wd09_33 a0 jaX jaF jaD ja7 jby jbf jaM jaY jap jaK jal jam jax jao ja5 jaV jbJ jae jag jaf jaN ja4 jbw jaw jaI jaZ jaH jaS jan jaU jaE jar jaL jah jaB jaa jaz jaG jab ja2 z0_s jaq jai jaO jaA jat jau jav jaj jas jaJ jak jad jay jac ja5 cyI jbv jbJ cyI jcx) s.heap := hP
  have hl := lv_entry ([.ref a0]) (n := 3) (Nat.le_of_ble_eq_true rfl)
  rw [lg_entry_eq]
  generalize (lg_sl ([.ref a0]) ++ List.replicate (3 - (lg_sl ([.ref a0])).length) Slot.unset).toArray = ls at hl ⊢
  have hl : lv_has ls 3 [(0, .ref a0)] := hl
  have C0 : cfx p s m _ meth c cX11_safeForms (some .int) wsX11_safeForms RX11 3 A (dC, dI) (kT cyB cyI cyJ cyP) := ⟨hx, hb, hr, hts, hown, hlocks, hml, hA, hK, hNw⟩
  clear hAe
  obtain ⟨H, hH⟩ : ∃ H, H = s.heap := ⟨_, rfl⟩
  rw [← hH] at hP ⊢
  have hS : va_S A s.heap H [] := by rw [hH]; exact va_S.rf
  have hS := hS
  refine lv_iconst (v := 0) hx hb (dt_of tkX11_safeForms_k0 0 rfl) (by decide) ?_
  refine lv_istore_n (lv' := [(1, .int 0), (0, .ref a0)]) hx hb (dt_of tkX11_safeForms_k0 1 rfl) rfl hl (by decide) rfl (fun ls hl => ?_)
  refine lv_iconst (v := 0) hx hb (dt_of tkX11_safeForms_k0 2 rfl) (by decide) ?_
  refine lv_istore_n (lv' := [(2, .int 0), (1, .int 0), (0, .ref a0)]) hx hb (dt_of tkX11_safeForms_k0 3 rfl) rfl hl (by decide) rfl (fun ls hl => ?_)
  obtain ⟨n9, hw⟩ := hw
  exact kl_X11_safeForms_4 dC dI cyB cyI cyJ cyP a0 ja5 jbJ jaX jaF jaD ja7 jby jbf jaM jaY jap jaK jal jam jax jao jaV jae jag jaf ja4 jaw jaI jaZ jaH jaS jan jaU jaE jar jaL jah jaB jaa jaz jaG jab ja2 z0_s jaq jai jaO jaA jat jau jav jaj jas jaJ jak jad jay jac jaN jbw jbv jcx Q  C0 n9 _ _ _ 0 0 hP hD hS (lv_sub hl [2, 1, 0] rfl) hw
theorem ui_X11_findSeats_X11 : ∀ w ∈ u_ws RX11 TX11 55, w ∈ wsX11_findSeats := uiM mbX11_findSeats euX11 (by decide +kernel)
theorem uw_X11_findSeats_f166 : (.fieldLink RX11 166 "MarchHaresModel" "forms" "I" : Cond) ∈ wsX11_findSeats := mbX11_findSeats 519 (by decide +kernel)
theorem uw_X11_findSeats_f169 : (.fieldLink RX11 169 "MarchHaresModel" "hares" "I" : Cond) ∈ wsX11_findSeats := mbX11_findSeats 520 (by decide +kernel)
theorem uw_X11_findSeats_f71 : (.fieldLink RX11 71 "MarchHaresModel" "s" "[I" : Cond) ∈ wsX11_findSeats := mbX11_findSeats 457 (by decide +kernel)
theorem uw_X11_findSeats_f83 : (.fieldLink RX11 83 "MarchHaresModel" "mostOn" "[I" : Cond) ∈ wsX11_findSeats := mbX11_findSeats 461 (by decide +kernel)
theorem uw_X11_findSeats_f86 : (.fieldLink RX11 86 "MarchHaresModel" "seatOf" "[I" : Cond) ∈ wsX11_findSeats := mbX11_findSeats 462 (by decide +kernel)
theorem uw_X11_findSeats_f89 : (.fieldLink RX11 89 "MarchHaresModel" "maySit" "[I" : Cond) ∈ wsX11_findSeats := mbX11_findSeats 463 (by decide +kernel)
set_option maxHeartbeats 4000000 in
set_option maxRecDepth 100000 in
theorem kb_X11_findSeats_52 {p : Program} {l : Launch} {e : Env} {s : State} {m : MethodId} {args : Array Value} {below : List Frame} {meth : Method} {c : Code} {A : Nat → Prop} (dC : Nat → ClassId) (dI : Nat → Nat → Nat) (cyB cyI cyJ cyP : ClassId) (a0 jaT a0_s jiY ja5 jbu jbB jbG jbg jbJ jiO jiS : Nat) (jaX jaF jaD ja7 jby jbf jaM jaY jap jaK jal jam jax jao jaV jae jag jaf jaw jaI jan jar jaL jah jaB jaa jaz jaG jab jaq jai jaO jaA jaj jas jaJ jak jad jay jac : Value) (jaN jaC jbw jbD : Int32) (jb0 jbv jcu jbR jcx : Nat → Int32) (Q : (Nat → Int32) → (Nat → Int32) → (Nat → Int32) → (Nat → Int32) → (Nat → Int32) → (Nat → Int32) → Prop) (K6 : (Nat → Int32) → (Nat → Int32) → (Nat → Int32) → (Nat → Int32) → (Nat → Int32) → (Nat → Int32) → Int32 → Prop) (hK6 : ∀ (H : Heap) (locs : List Loc) (ls : Array Slot) (f0_s jbZ jca jjl jjp jjq : Nat → Int32) (l1 : Int32), va_P (dC, dI) vwCl (wd09_34 a0 jaX jaF jaD ja7 jby jbf jaM jaY jap jaK jal jam jax jao ja5 jaV jbJ jae jag jaf jaN jaC jbw jaw jaI jbG jbg jbB jan jbD jbu jar jaL jah jaB jaa jaz jaG jab jaT a0_s jaq jai jaO jaA jiO jiS jiY jaj jas jaJ jak jad jay jac jaT cyI jb0 a0_s cyI f0_s ja5 cyI jbv jbu cyI jbZ jbB cyI jca jbG cyI jcu jbg cyI jbR jbJ cyI jcx jiO cyI jjl jiY cyI jjp jiS cyI jjq) H → va_D A (wd09_34 a0 jaX jaF jaD ja7 jby jbf jaM jaY jap jaK jal jam jax jao ja5 jaV jbJ jae jag jaf jaN jaC jbw jaw jaI jbG jbg jbB jan jbD jbu jar jaL jah jaB jaa jaz jaG jab jaT a0_s jaq jai jaO jaA jiO jiS jiY jaj jas jaJ jak jad jay jac jaT cyI jb0 a0_s cyI f0_s ja5 cyI jbv jbu cyI jbZ jbB cyI jca jbG cyI jcu jbg cyI jbR jbJ cyI jcx jiO cyI jjl jiY cyI jjp jiS cyI jjq) → va_S A s.heap H locs → lv_has ls 6 [(0, .ref a0), (1, .int l1)] → K6 f0_s jbZ jca jjl jjp jjq l1 → W p l e (headSpec wsX11_findSeats ({ frames := 7, cells := 0, slots := 0, locals := 160 })).room s m args below meth c H locs 0 0 (MQ below (va_Qv (fun (u : (Nat → Int32) × (Nat → Int32) × (Nat → Int32) × (Nat → Int32) × (Nat → Int32) × (Nat → Int32)) => Q u.1 u.2.1 u.2.2.1 u.2.2.2.1 u.2.2.2.2.1 u.2.2.2.2.2) (cB (dC, dI) (kT cyB cyI cyJ cyP) A (fun u : (Nat → Int32) × (Nat → Int32) × (Nat → Int32) × (Nat → Int32) × (Nat → Int32) × (Nat → Int32) => ((wd09_34 a0 jaX jaF jaD ja7 jby jbf jaM jaY jap jaK jal jam jax jao ja5 jaV jbJ jae jag jaf jaN jaC jbw jaw jaI jbG jbg jbB jan jbD jbu jar jaL jah jaB jaa jaz jaG jab jaT a0_s jaq jai jaO jaA jiO jiS jiY jaj jas jaJ jak jad jay jac jaT cyI jb0 a0_s cyI u.1 ja5 cyI jbv jbu cyI u.2.1 jbB cyI u.2.2.1 jbG cyI jcu jbg cyI jbR jbJ cyI jcx jiO cyI u.2.2.2.1 jiY cyI u.2.2.2.2.1 jiS cyI u.2.2.2.2.2) : va_W))) A) args s 0 0 A) (F0 m 6 ls [])) (C0 : cfx p s m args meth c cX11_findSeats none wsX11_findSeats RX11 6 A (dC, dI) (kT cyB cyI cyJ cyP)) : ∀ (H : Heap) (locs : List Loc) (ls : Array Slot) (f0_s jbZ jca jjl jjp jjq : Nat → Int32) (l1 s1 s2 : Int32), va_P (dC, dI) vwCl (wd09_34 a0 jaX jaF jaD ja7 jby jbf jaM jaY jap jaK jal jam jax jao ja5 jaV jbJ jae jag jaf jaN jaC jbw jaw jaI jbG jbg jbB jan jbD jbu jar jaL jah jaB jaa jaz jaG jab jaT a0_s jaq jai jaO jaA jiO jiS jiY jaj jas jaJ jak jad jay jac jaT cyI jb0 a0_s cyI f0_s ja5 cyI jbv jbu cyI jbZ jbB cyI jca jbG cyI jcu jbg cyI jbR jbJ cyI jcx jiO cyI jjl jiY cyI jjp jiS cyI jjq) H → va_D A (wd09_34 a0 jaX jaF jaD ja7 jby jbf jaM jaY jap jaK jal jam jax jao ja5 jaV jbJ jae jag jaf jaN jaC jbw jaw jaI jbG jbg jbB jan jbD jbu jar jaL jah jaB jaa jaz jaG jab jaT a0_s jaq jai jaO jaA jiO jiS jiY jaj jas jaJ jak jad jay jac jaT cyI jb0 a0_s cyI f0_s ja5 cyI jbv jbu cyI jbZ jbB cyI jca jbG cyI jcu jbg cyI jbR jbJ cyI jcx jiO cyI jjl jiY cyI jjp jiS cyI jjq) → va_S A s.heap H locs → lv_has ls 6 [(0, .ref a0), (1, .int l1)] → wb_X11_findSeats_52 jaN jaC jbw jbD jb0 jbv jcu jbR jcx Q K6 f0_s jbZ jca jjl jjp jjq l1 s1 s2 → W p l e (headSpec wsX11_findSeats ({ frames := 7, cells := 0, slots := 0, locals := 160 })).room s m args below meth c H locs 0 0 (MQ below (va_Qv (fun (u : (Nat → Int32) × (Nat → Int32) × (Nat → Int32) × (Nat → Int32) × (Nat → Int32) × (Nat → Int32)) => Q u.1 u.2.1 u.2.2.1 u.2.2.2.1 u.2.2.2.2.1 u.2.2.2.2.2) (cB (dC, dI) (kT cyB cyI cyJ cyP) A (fun u : (Nat → Int32) × (Nat → Int32) × (Nat → Int32) × (Nat → Int32) × (Nat → Int32) × (Nat → Int32) => ((wd09_34 a0 jaX jaF jaD ja7 jby jbf jaM jaY jap jaK jal jam jax jao ja5 jaV jbJ jae jag jaf jaN jaC jbw jaw jaI jbG jbg jbB jan jbD jbu jar jaL jah jaB jaa jaz jaG jab jaT a0_s jaq jai jaO jaA jiO jiS jiY jaj jas jaJ jak jad jay jac jaT cyI jb0 a0_s cyI u.1 ja5 cyI jbv jbu cyI u.2.1 jbB cyI u.2.2.1 jbG cyI jcu jbg cyI jbR jbJ cyI jcx jiO cyI u.2.2.2.1 jiY cyI u.2.2.2.2.1 jiS cyI u.2.2.2.2.2) : va_W))) A) args s 0 0 A) (F0 m 52 ls [.int s2, .int s1, .ref jiY]) := by
  obtain ⟨hx, hb, hr, hts, hown, hlocks, hml, hA, hK, hNw⟩ := id C0
  intro H locs ls f0_s jbZ jca jjl jjp jjq l1 s1 s2 hP hD hS hl hw
  obtain ⟨hi9, hw⟩ := hw
  refine va_iast hx hb hK hP hD hS 10 1 rfl rfl hi9 (dt_of tkX11_findSeats_k52 0 rfl) (fun H locs hP hD hS => ?_)
  obtain ⟨f17, ef17⟩ : ∃ y : Nat → Int32, y = upd jjp s1.toNatClampNeg s2 := ⟨_, rfl⟩
  have hw := hw f17 ef17
  have hP : va_P (dC, dI) vwCl (wd09_34 a0 jaX jaF jaD ja7 jby jbf jaM jaY jap jaK jal jam jax jao ja5 jaV jbJ jae jag jaf jaN jaC jbw jaw jaI jbG jbg jbB jan jbD jbu jar jaL jah jaB jaa jaz jaG jab jaT a0_s jaq jai jaO jaA jiO jiS jiY jaj jas jaJ jak jad jay jac jaT cyI jb0 a0_s cyI f0_s ja5 cyI jbv jbu cyI jbZ jbB cyI jca jbG cyI jcu jbg cyI jbR jbJ cyI jcx jiO cyI jjl jiY cyI f17 jiS cyI jjq) H := by rw [ef17]; exact hP
  have hD : va_D A (wd09_34 a0 jaX jaF jaD ja7 jby jbf jaM jaY jap jaK jal jam jax jao ja5 jaV jbJ jae jag jaf jaN jaC jbw jaw jaI jbG jbg jbB jan jbD jbu jar jaL jah jaB jaa jaz jaG jab jaT a0_s jaq jai jaO jaA jiO jiS jiY jaj jas jaJ jak jad jay jac jaT cyI jb0 a0_s cyI f0_s ja5 cyI jbv jbu cyI jbZ jbB cyI jca jbG cyI jcu jbg cyI jbR jbJ cyI jcx jiO cyI jjl jiY cyI f17 jiS cyI jjq) := by rw [ef17]; exact hD
  obtain ⟨x18, ex18⟩ : ∃ y : Int32, y = l1 + 1 := ⟨_, rfl⟩
  have hw := hw x18 ex18
  refine lv_iinc (v := x18) (lv' := [(1, .int x18), (0, .ref a0)]) hx hb (dt_of tkX11_findSeats_k52 1 rfl) hl (k := 1) rfl (by rw [ex18]; rfl) (by decide) rfl (fun ls hl => ?_)
  refine lv_goto (tgt := 6) hx hb (dt_of tkX11_findSeats_k52 2 rfl) (by decide) ?_
  exact hK6 _ _ _ f0_s jbZ jca jjl f17 jjq x18 hP hD hS (lv_sub hl [1, 0] rfl) hw
set_option maxHeartbeats 4000000 in
set_option maxRecDepth 100000 in
theorem kb_X11_findSeats_209 {p : Program} {l : Launch} {e : Env} {s : State} {m : MethodId} {args : Array Value} {below : List Frame} {meth : Method} {c : Code} {A : Nat → Prop} (dC : Nat → ClassId) (dI : Nat → Nat → Nat) (cyB cyI cyJ cyP : ClassId) (a0 jaT a0_s jiY ja5 jbu jbB jbG jbg jbJ jiO jiS : Nat) (jaX jaF jaD ja7 jby jbf jaM jaY jap jaK jal jam jax jao jaV jae jag jaf jaw jaI jan jar jaL jah jaB jaa jaz jaG jab jaq jai jaO jaA jaj jas jaJ jak jad jay jac : Value) (jaN jaC jbw jbD : Int32) (jb0 jbv jcu jbR jcx : Nat → Int32) (Q : (Nat → Int32) → (Nat → Int32) → (Nat → Int32) → (Nat → Int32) → (Nat → Int32) → (Nat → Int32) → Prop) (K99 : (Nat → Int32) → (Nat → Int32) → (Nat → Int32) → (Nat → Int32) → (Nat → Int32) → (Nat → Int32) → Int32 → Prop) (K105 : (Nat → Int32) → (Nat → Int32) → (Nat → Int32) → (Nat → Int32) → (Nat → Int32) → (Nat → Int32) → Int32 → Int32 → Prop) (K132 : (Nat → Int32) → (Nat → Int32) → (Nat → Int32) → (Nat → Int32) → (Nat → Int32) → (Nat → Int32) → Int32 → Int32 → Int32 → Int32 → Prop) (hK99 : ∀ (H : Heap) (locs : List Loc) (ls : Array Slot) (f0_s jbZ jca jjl jjp jjq : Nat → Int32) (l1 : Int32), va_P (dC, dI) vwCl (wd09_34 a0 jaX jaF jaD ja7 jby jbf jaM jaY jap jaK jal jam jax jao ja5 jaV jbJ jae jag jaf jaN jaC jbw jaw jaI jbG jbg jbB jan jbD jbu jar jaL jah jaB jaa jaz jaG jab jaT a0_s jaq jai jaO jaA jiO jiS jiY jaj jas jaJ jak jad jay jac jaT cyI jb0 a0_s cyI f0_s ja5 cyI jbv jbu cyI jbZ jbB cyI jca jbG cyI jcu jbg cyI jbR jbJ cyI jcx jiO cyI jjl jiY cyI jjp jiS cyI jjq) H → va_D A (wd09_34 a0 jaX jaF jaD ja7 jby jbf jaM jaY jap jaK jal jam jax jao ja5 jaV jbJ jae jag jaf jaN jaC jbw jaw jaI jbG jbg jbB jan jbD jbu jar jaL jah jaB jaa jaz jaG jab jaT a0_s jaq jai jaO jaA jiO jiS jiY jaj jas jaJ jak jad jay jac jaT cyI jb0 a0_s cyI f0_s ja5 cyI jbv jbu cyI jbZ jbB cyI jca jbG cyI jcu jbg cyI jbR jbJ cyI jcx jiO cyI jjl jiY cyI jjp jiS cyI jjq) → va_S A s.heap H locs → lv_has ls 6 [(0, .ref a0), (1, .int l1)] → K99 f0_s jbZ jca jjl jjp jjq l1 → W p l e (headSpec wsX11_findSeats ({ frames := 7, cells := 0, slots := 0, locals := 160 })).room s m args below meth c H locs 0 0 (MQ below (va_Qv (fun (u : (Nat → Int32) × (Nat → Int32) × (Nat → Int32) × (Nat → Int32) × (Nat → Int32) × (Nat → Int32)) => Q u.1 u.2.1 u.2.2.1 u.2.2.2.1 u.2.2.2.2.1 u.2.2.2.2.2) (cB (dC, dI) (kT cyB cyI cyJ cyP) A (fun u : (Nat → Int32) × (Nat → Int32) × (Nat → Int32) × (Nat → Int32) × (Nat → Int32) × (Nat → Int32) => ((wd09_34 a0 jaX jaF jaD ja7 jby jbf jaM jaY jap jaK jal jam jax jao ja5 jaV jbJ jae jag jaf jaN jaC jbw jaw jaI jbG jbg jbB jan jbD jbu jar jaL jah jaB jaa jaz jaG jab jaT a0_s jaq jai jaO jaA jiO jiS jiY jaj jas jaJ jak jad jay jac jaT cyI jb0 a0_s cyI u.1 ja5 cyI jbv jbu cyI u.2.1 jbB cyI u.2.2.1 jbG cyI jcu jbg cyI jbR jbJ cyI jcx jiO cyI u.2.2.2.1 jiY cyI u.2.2.2.2.1 jiS cyI u.2.2.2.2.2) : va_W))) A) args s 0 0 A) (F0 m 99 ls [])) (hK105 : ∀ (H : Heap) (locs : List Loc) (ls : Array Slot) (f0_s jbZ jca jjl jjp jjq : Nat → Int32) (l1 l2 : Int32), va_P (dC, dI) vwCl (wd09_34 a0 jaX jaF jaD ja7 jby jbf jaM jaY jap jaK jal jam jax jao ja5 jaV jbJ jae jag jaf jaN jaC jbw jaw jaI jbG jbg jbB jan jbD jbu jar jaL jah jaB jaa jaz jaG jab jaT a0_s jaq jai jaO jaA jiO jiS jiY jaj jas jaJ jak jad jay jac jaT cyI jb0 a0_s cyI f0_s ja5 cyI jbv jbu cyI jbZ jbB cyI jca jbG cyI jcu jbg cyI jbR jbJ cyI jcx jiO cyI jjl jiY cyI jjp jiS cyI jjq) H → va_D A (wd09_34 a0 jaX jaF jaD ja7 jby jbf jaM jaY jap jaK jal jam jax jao ja5 jaV jbJ jae jag jaf jaN jaC jbw jaw jaI jbG jbg jbB jan jbD jbu jar jaL jah jaB jaa jaz jaG jab jaT a0_s jaq jai jaO jaA jiO jiS jiY jaj jas jaJ jak jad jay jac jaT cyI jb0 a0_s cyI f0_s ja5 cyI jbv jbu cyI jbZ jbB cyI jca jbG cyI jcu jbg cyI jbR jbJ cyI jcx jiO cyI jjl jiY cyI jjp jiS cyI jjq) → va_S A s.heap H locs → lv_has ls 6 [(0, .ref a0), (1, .int l1), (2, .int l2)] → K105 f0_s jbZ jca jjl jjp jjq l1 l2 → W p l e (headSpec wsX11_findSeats ({ frames := 7, cells := 0, slots := 0, locals := 160 })).room s m args below meth c H locs 0 0 (MQ below (va_Qv (fun (u : (Nat → Int32) × (Nat → Int32) × (Nat → Int32) × (Nat → Int32) × (Nat → Int32) × (Nat → Int32)) => Q u.1 u.2.1 u.2.2.1 u.2.2.2.1 u.2.2.2.2.1 u.2.2.2.2.2) (cB (dC, dI) (kT cyB cyI cyJ cyP) A (fun u : (Nat → Int32) × (Nat → Int32) × (Nat → Int32) × (Nat → Int32) × (Nat → Int32) × (Nat → Int32) => ((wd09_34 a0 jaX jaF jaD ja7 jby jbf jaM jaY jap jaK jal jam jax jao ja5 jaV jbJ jae jag jaf jaN jaC jbw jaw jaI jbG jbg jbB jan jbD jbu jar jaL jah jaB jaa jaz jaG jab jaT a0_s jaq jai jaO jaA jiO jiS jiY jaj jas jaJ jak jad jay jac jaT cyI jb0 a0_s cyI u.1 ja5 cyI jbv jbu cyI u.2.1 jbB cyI u.2.2.1 jbG cyI jcu jbg cyI jbR jbJ cyI jcx jiO cyI u.2.2.2.1 jiY cyI u.2.2.2.2.1 jiS cyI u.2.2.2.2.2) : va_W))) A) args s 0 0 A) (F0 m 105 ls [])) (hK132 : ∀ (H : Heap) (locs : List Loc) (ls : Array Slot) (f0_s jbZ jca jjl jjp jjq : Nat → Int32) (l1 l2 l3 l4 : Int32), va_P (dC, dI) vwCl (wd09_34 a0 jaX jaF jaD ja7 jby jbf jaM jaY jap jaK jal jam jax jao ja5 jaV jbJ jae jag jaf jaN jaC jbw jaw jaI jbG jbg jbB jan jbD jbu jar jaL jah jaB jaa jaz jaG jab jaT a0_s jaq jai jaO jaA jiO jiS jiY jaj jas jaJ jak jad jay jac jaT cyI jb0 a0_s cyI f0_s ja5 cyI jbv jbu cyI jbZ jbB cyI jca jbG cyI jcu jbg cyI jbR jbJ cyI jcx jiO cyI jjl jiY cyI jjp jiS cyI jjq) H → va_D A (wd09_34 a0 jaX jaF jaD ja7 jby jbf jaM jaY jap jaK jal jam jax jao ja5 jaV jbJ jae jag jaf jaN jaC jbw jaw jaI jbG jbg jbB jan jbD jbu jar jaL jah jaB jaa jaz jaG jab jaT a0_s jaq jai jaO jaA jiO jiS jiY jaj jas jaJ jak jad jay jac jaT cyI jb0 a0_s cyI f0_s ja5 cyI jbv jbu cyI jbZ jbB cyI jca jbG cyI jcu jbg cyI jbR jbJ cyI jcx jiO cyI jjl jiY cyI jjp jiS cyI jjq) → va_S A s.heap H locs → lv_has ls 6 [(0, .ref a0), (1, .int l1), (2, .int l2), (3, .int l3), (4, .int l4)] → K132 f0_s jbZ jca jjl jjp jjq l1 l2 l3 l4 → W p l e (headSpec wsX11_findSeats ({ frames := 7, cells := 0, slots := 0, locals := 160 })).room s m args below meth c H locs 0 0 (MQ below (va_Qv (fun (u : (Nat → Int32) × (Nat → Int32) × (Nat → Int32) × (Nat → Int32) × (Nat → Int32) × (Nat → Int32)) => Q u.1 u.2.1 u.2.2.1 u.2.2.2.1 u.2.2.2.2.1 u.2.2.2.2.2) (cB (dC, dI) (kT cyB cyI cyJ cyP) A (fun u : (Nat → Int32) × (Nat → Int32) × (Nat → Int32) × (Nat → Int32) × (Nat → Int32) × (Nat → Int32) => ((wd09_34 a0 jaX jaF jaD ja7 jby jbf jaM jaY jap jaK jal jam jax jao ja5 jaV jbJ jae jag jaf jaN jaC jbw jaw jaI jbG jbg jbB jan jbD jbu jar jaL jah jaB jaa jaz jaG jab jaT a0_s jaq jai jaO jaA jiO jiS jiY jaj jas jaJ jak jad jay jac jaT cyI jb0 a0_s cyI u.1 ja5 cyI jbv jbu cyI u.2.1 jbB cyI u.2.2.1 jbG cyI jcu jbg cyI jbR jbJ cyI jcx jiO cyI u.2.2.2.1 jiY cyI u.2.2.2.2.1 jiS cyI u.2.2.2.2.2) : va_W))) A) args s 0 0 A) (F0 m 132 ls [])) (C0 : cfx p s m args meth c cX11_findSeats none wsX11_findSeats RX11 6 A (dC, dI) (kT cyB cyI cyJ cyP)) : ∀ (H : Heap) (locs : List Loc) (ls : Array Slot) (f0_s jbZ jca jjl jjp jjq : Nat → Int32) (l1 l2 l3 l4 : Int32), va_P (dC, dI) vwCl (wd09_34 a0 jaX jaF jaD ja7 jby jbf jaM jaY jap jaK jal jam jax jao ja5 jaV jbJ jae jag jaf jaN jaC jbw jaw jaI jbG jbg jbB jan jbD jbu jar jaL jah jaB jaa jaz jaG jab jaT a0_s jaq jai jaO jaA jiO jiS jiY jaj jas jaJ jak jad jay jac jaT cyI jb0 a0_s cyI f0_s ja5 cyI jbv jbu cyI jbZ jbB cyI jca jbG cyI jcu jbg cyI jbR jbJ cyI jcx jiO cyI jjl jiY cyI jjp jiS cyI jjq) H → va_D A (wd09_34 a0 jaX jaF jaD ja7 jby jbf jaM jaY jap jaK jal jam jax jao ja5 jaV jbJ jae jag jaf jaN jaC jbw jaw jaI jbG jbg jbB jan jbD jbu jar jaL jah jaB jaa jaz jaG jab jaT a0_s jaq jai jaO jaA jiO jiS jiY jaj jas jaJ jak jad jay jac jaT cyI jb0 a0_s cyI f0_s ja5 cyI jbv jbu cyI jbZ jbB cyI jca jbG cyI jcu jbg cyI jbR jbJ cyI jcx jiO cyI jjl jiY cyI jjp jiS cyI jjq) → va_S A s.heap H locs → lv_has ls 6 [(0, .ref a0), (1, .int l1), (2, .int l2), (3, .int l3), (4, .int l4)] → wb_X11_findSeats_209 jaN jaC jbw jbD jb0 jbv jcu jbR jcx Q K99 K105 K132 f0_s jbZ jca jjl jjp jjq l1 l2 l3 l4 → W p l e (headSpec wsX11_findSeats ({ frames := 7, cells := 0, slots := 0, locals := 160 })).room s m args below meth c H locs 0 0 (MQ below (va_Qv (fun (u : (Nat → Int32) × (Nat → Int32) × (Nat → Int32) × (Nat → Int32) × (Nat → Int32) × (Nat → Int32)) => Q u.1 u.2.1 u.2.2.1 u.2.2.2.1 u.2.2.2.2.1 u.2.2.2.2.2) (cB (dC, dI) (kT cyB cyI cyJ cyP) A (fun u : (Nat → Int32) × (Nat → Int32) × (Nat → Int32) × (Nat → Int32) × (Nat → Int32) × (Nat → Int32) => ((wd09_34 a0 jaX jaF jaD ja7 jby jbf jaM jaY jap jaK jal jam jax jao ja5 jaV jbJ jae jag jaf jaN jaC jbw jaw jaI jbG jbg jbB jan jbD jbu jar jaL jah jaB jaa jaz jaG jab jaT a0_s jaq jai jaO jaA jiO jiS jiY jaj jas jaJ jak jad jay jac jaT cyI jb0 a0_s cyI u.1 ja5 cyI jbv jbu cyI u.2.1 jbB cyI u.2.2.1 jbG cyI jcu jbg cyI jbR jbJ cyI jcx jiO cyI u.2.2.2.1 jiY cyI u.2.2.2.2.1 jiS cyI u.2.2.2.2.2) : va_W))) A) args s 0 0 A) (F0 m 209 ls []) := by
  obtain ⟨hx, hb, hr, hts, hown, hlocks, hml, hA, hK, hNw⟩ := id C0
  intro H locs ls f0_s jbZ jca jjl jjp jjq l1 l2 l3 l4 hP hD hS hl hw
  obtain ⟨x69, ex69⟩ : ∃ y : Int32, y = l4 + 1 := ⟨_, rfl⟩
  have hw := hw x69 ex69
  refine lv_iinc (v := x69) (lv' := [(4, .int x69), (0, .ref a0), (1, .int l1), (2, .int l2), (3, .int l3)]) hx hb (dt_of tkX11_findSeats_k198 10 rfl) hl (k := 4) rfl (by rw [ex69]; rfl) (by decide) rfl (fun ls hl => ?_)
  refine lv_goto (tgt := 132) hx hb (dt_of tkX11_findSeats_k198 11 rfl) (by decide) ?_
  exact hK132 _ _ _ f0_s jbZ jca jjl jjp jjq l1 l2 l3 x69 hP hD hS (lv_sub hl [1, 2, 3, 4, 0] rfl) hw
set_option maxHeartbeats 4000000 in
set_option maxRecDepth 100000 in
theorem kl_X11_findSeats_132 {p : Program} {l : Launch} {e : Env} {s : State} {m : MethodId} {args : Array Value} {below : List Frame} {meth : Method} {c : Code} {A : Nat → Prop} (dC : Nat → ClassId) (dI : Nat → Nat → Nat) (cyB cyI cyJ cyP : ClassId) (a0 jaT a0_s jiY ja5 jbu jbB jbG jbg jbJ jiO jiS : Nat) (jaX jaF jaD ja7 jby jbf jaM jaY jap jaK jal jam jax jao jaV jae jag jaf jaw jaI jan jar jaL jah jaB jaa jaz jaG jab jaq jai jaO jaA jaj jas jaJ jak jad jay jac : Value) (jaN jaC jbw jbD : Int32) (jb0 jbv jcu jbR jcx : Nat → Int32) (Q : (Nat → Int32) → (Nat → Int32) → (Nat → Int32) → (Nat → Int32) → (Nat → Int32) → (Nat → Int32) → Prop) (K99 : (Nat → Int32) → (Nat → Int32) → (Nat → Int32) → (Nat → Int32) → (Nat → Int32) → (Nat → Int32) → Int32 → Prop) (K105 : (Nat → Int32) → (Nat → Int32) → (Nat → Int32) → (Nat → Int32) → (Nat → Int32) → (Nat → Int32) → Int32 → Int32 → Prop) (hK99 : ∀ (H : Heap) (locs : List Loc) (ls : Array Slot) (f0_s jbZ jca jjl jjp jjq : Nat → Int32) (l1 : Int32), va_P (dC, dI) vwCl (wd09_34 a0 jaX jaF jaD ja7 jby jbf jaM jaY jap jaK jal jam jax jao ja5 jaV jbJ jae jag jaf jaN jaC jbw jaw jaI jbG jbg jbB jan jbD jbu jar jaL jah jaB jaa jaz jaG jab jaT a0_s jaq jai jaO jaA jiO jiS jiY jaj jas jaJ jak jad jay jac jaT cyI jb0 a0_s cyI f0_s ja5 cyI jbv jbu cyI jbZ jbB cyI jca jbG cyI jcu jbg cyI jbR jbJ cyI jcx jiO cyI jjl jiY cyI jjp jiS cyI jjq) H → va_D A (wd09_34 a0 jaX jaF jaD ja7 jby jbf jaM jaY jap jaK jal jam jax jao ja5 jaV jbJ jae jag jaf jaN jaC jbw jaw jaI jbG jbg jbB jan jbD jbu jar jaL jah jaB jaa jaz jaG jab jaT a0_s jaq jai jaO jaA jiO jiS jiY jaj jas jaJ jak jad jay jac jaT cyI jb0 a0_s cyI f0_s ja5 cyI jbv jbu cyI jbZ jbB cyI jca jbG cyI jcu jbg cyI jbR jbJ cyI jcx jiO cyI jjl jiY cyI jjp jiS cyI jjq) → va_S A s.heap H locs → lv_has ls 6 [(0, .ref a0), (1, .int l1)] → K99 f0_s jbZ jca jjl jjp jjq l1 → W p l e (headSpec wsX11_findSeats ({ frames := 7, cells := 0, slots := 0, locals := 160 })).room s m args below meth c H locs 0 0 (MQ below (va_Qv (fun (u : (Nat → Int32) × (Nat → Int32) × (Nat → Int32) × (Nat → Int32) × (Nat → Int32) × (Nat → Int32)) => Q u.1 u.2.1 u.2.2.1 u.2.2.2.1 u.2.2.2.2.1 u.2.2.2.2.2) (cB (dC, dI) (kT cyB cyI cyJ cyP) A (fun u : (Nat → Int32) × (Nat → Int32) × (Nat → Int32) × (Nat → Int32) × (Nat → Int32) × (Nat → Int32) => ((wd09_34 a0 jaX jaF jaD ja7 jby jbf jaM jaY jap jaK jal jam jax jao ja5 jaV jbJ jae jag jaf jaN jaC jbw jaw jaI jbG jbg jbB jan jbD jbu jar jaL jah jaB jaa jaz jaG jab jaT a0_s jaq jai jaO jaA jiO jiS jiY jaj jas jaJ jak jad jay jac jaT cyI jb0 a0_s cyI u.1 ja5 cyI jbv jbu cyI u.2.1 jbB cyI u.2.2.1 jbG cyI jcu jbg cyI jbR jbJ cyI jcx jiO cyI u.2.2.2.1 jiY cyI u.2.2.2.2.1 jiS cyI u.2.2.2.2.2) : va_W))) A) args s 0 0 A) (F0 m 99 ls [])) (hK105 : ∀ (H : Heap) (locs : List Loc) (ls : Array Slot) (f0_s jbZ jca jjl jjp jjq : Nat → Int32) (l1 l2 : Int32), va_P (dC, dI) vwCl (wd09_34 a0 jaX jaF jaD ja7 jby jbf jaM jaY jap jaK jal jam jax jao ja5 jaV jbJ jae jag jaf jaN jaC jbw jaw jaI jbG jbg jbB jan jbD jbu jar jaL jah jaB jaa jaz jaG jab jaT a0_s jaq jai jaO jaA jiO jiS jiY jaj jas jaJ jak jad jay jac jaT cyI jb0 a0_s cyI f0_s ja5 cyI jbv jbu cyI jbZ jbB cyI jca jbG cyI jcu jbg cyI jbR jbJ cyI jcx jiO cyI jjl jiY cyI jjp jiS cyI jjq) H → va_D A (wd09_34 a0 jaX jaF jaD ja7 jby jbf jaM jaY jap jaK jal jam jax jao ja5 jaV jbJ jae jag jaf jaN jaC jbw jaw jaI jbG jbg jbB jan jbD jbu jar jaL jah jaB jaa jaz jaG jab jaT a0_s jaq jai jaO jaA jiO jiS jiY jaj jas jaJ jak jad jay jac jaT cyI jb0 a0_s cyI f0_s ja5 cyI jbv jbu cyI jbZ jbB cyI jca jbG cyI jcu jbg cyI jbR jbJ cyI jcx jiO cyI jjl jiY cyI jjp jiS cyI jjq) → va_S A s.heap H locs → lv_has ls 6 [(0, .ref a0), (1, .int l1), (2, .int l2)] → K105 f0_s jbZ jca jjl jjp jjq l1 l2 → W p l e (headSpec wsX11_findSeats ({ frames := 7, cells := 0, slots := 0, locals := 160 })).room s m args below meth c H locs 0 0 (MQ below (va_Qv (fun (u : (Nat → Int32) × (Nat → Int32) × (Nat → Int32) × (Nat → Int32) × (Nat → Int32) × (Nat → Int32)) => Q u.1 u.2.1 u.2.2.1 u.2.2.2.1 u.2.2.2.2.1 u.2.2.2.2.2) (cB (dC, dI) (kT cyB cyI cyJ cyP) A (fun u : (Nat → Int32) × (Nat → Int32) × (Nat → Int32) × (Nat → Int32) × (Nat → Int32) × (Nat → Int32) => ((wd09_34 a0 jaX jaF jaD ja7 jby jbf jaM jaY jap jaK jal jam jax jao ja5 jaV jbJ jae jag jaf jaN jaC jbw jaw jaI jbG jbg jbB jan jbD jbu jar jaL jah jaB jaa jaz jaG jab jaT a0_s jaq jai jaO jaA jiO jiS jiY jaj jas jaJ jak jad jay jac jaT cyI jb0 a0_s cyI u.1 ja5 cyI jbv jbu cyI u.2.1 jbB cyI u.2.2.1 jbG cyI jcu jbg cyI jbR jbJ cyI jcx jiO cyI u.2.2.2.1 jiY cyI u.2.2.2.2.1 jiS cyI u.2.2.2.2.2) : va_W))) A) args s 0 0 A) (F0 m 105 ls [])) (C0 : cfx p s m args meth c cX11_findSeats none wsX11_findSeats RX11 6 A (dC, dI) (kT cyB cyI cyJ cyP)) : ∀ (n : Nat) (H : Heap) (locs : List Loc) (ls : Array Slot) (f0_s jbZ jca jjl jjp jjq : Nat → Int32) (l1 l2 l3 l4 : Int32), va_P (dC, dI) vwCl (wd09_34 a0 jaX jaF jaD ja7 jby jbf jaM jaY jap jaK jal jam jax jao ja5 jaV jbJ jae jag jaf jaN jaC jbw jaw jaI jbG jbg jbB jan jbD jbu jar jaL jah jaB jaa jaz jaG jab jaT a0_s jaq jai jaO jaA jiO jiS jiY jaj jas jaJ jak jad jay jac jaT cyI jb0 a0_s cyI f0_s ja5 cyI jbv jbu cyI jbZ jbB cyI jca jbG cyI jcu jbg cyI jbR jbJ cyI jcx jiO cyI jjl jiY cyI jjp jiS cyI jjq) H → va_D A (wd09_34 a0 jaX jaF jaD ja7 jby jbf jaM jaY jap jaK jal jam jax jao ja5 jaV jbJ jae jag jaf jaN jaC jbw jaw jaI jbG jbg jbB jan jbD jbu jar jaL jah jaB jaa jaz jaG jab jaT a0_s jaq jai jaO jaA jiO jiS jiY jaj jas jaJ jak jad jay jac jaT cyI jb0 a0_s cyI f0_s ja5 cyI jbv jbu cyI jbZ jbB cyI jca jbG cyI jcu jbg cyI jbR jbJ cyI jcx jiO cyI jjl jiY cyI jjp jiS cyI jjq) → va_S A s.heap H locs → lv_has ls 6 [(0, .ref a0), (1, .int l1), (2, .int l2), (3, .int l3), (4, .int l4)] → wl_X11_findSeats_132 jaN jaC jbw jbD jb0 jbv jcu jbR jcx Q K99 K105 n f0_s jbZ jca jjl jjp jjq l1 l2 l3 l4 → W p l e (headSpec wsX11_findSeats ({ frames := 7, cells := 0, slots := 0, locals := 160 })).room s m args below meth c H locs 0 0 (MQ below (va_Qv (fun (u : (Nat → Int32) × (Nat → Int32) × (Nat → Int32) × (Nat → Int32) × (Nat → Int32) × (Nat → Int32)) => Q u.1 u.2.1 u.2.2.1 u.2.2.2.1 u.2.2.2.2.1 u.2.2.2.2.2) (cB (dC, dI) (kT cyB cyI cyJ cyP) A (fun u : (Nat → Int32) × (Nat → Int32) × (Nat → Int32) × (Nat → Int32) × (Nat → Int32) × (Nat → Int32) => ((wd09_34 a0 jaX jaF jaD ja7 jby jbf jaM jaY jap jaK jal jam jax jao ja5 jaV jbJ jae jag jaf jaN jaC jbw jaw jaI jbG jbg jbB jan jbD jbu jar jaL jah jaB jaa jaz jaG jab jaT a0_s jaq jai jaO jaA jiO jiS jiY jaj jas jaJ jak jad jay jac jaT cyI jb0 a0_s cyI u.1 ja5 cyI jbv jbu cyI u.2.1 jbB cyI u.2.2.1 jbG cyI jcu jbg cyI jbR jbJ cyI jcx jiO cyI u.2.2.2.1 jiY cyI u.2.2.2.2.1 jiS cyI u.2.2.2.2.2) : va_W))) A) args s 0 0 A) (F0 m 132 ls []) := by
  obtain ⟨hx, hb, hr, hts, hown, hlocks, hml, hA, hK, hNw⟩ := id C0
  intro n
  induction n with
  | zero => intro H locs ls f0_s jbZ jca jjl jjp jjq l1 l2 l3 l4 hP hD hS hl hw; exact False.elim hw
  | succ n ih =>
    intro H locs ls f0_s jbZ jca jjl jjp jjq l1 l2 l3 l4 hP hD hS hl hw
    refine lv_iload hx hb (dt_of tkX11_findSeats_k128 3 rfl) (lv_at hl 4 rfl) ?_
    refine lv_aload_n hx hb (dt_of tkX11_findSeats_k128 4 rfl) rfl (lv_at hl 0 rfl) ?_
    refine va_get (D := (dC, dI)) (ci := 11) (v := .int jaN) (C := RX11) (T := TX11) (N := 55) hx hb hts ui_X11_findSeats_X11 hown hK hP 0 rfl rfl 20 (by decide) (hts _ uw_X11_findSeats_f166) (fun _ h9 => h9) rfl (dt_of tkX11_findSeats_k128 5 rfl) ?_
    refine lv_icmp_ge (tgt := 215) hx hb (dt_of tkX11_findSeats_k128 6 rfl) (by decide) (fun c47 => ?_) (fun c47 => ?_)
    · have hw := hw.1 c47
      refine lv_aload_n hx hb (dt_of tkX11_findSeats_k198 12 rfl) rfl (lv_at hl 0 rfl) ?_
      refine va_get (D := (dC, dI)) (ci := 11) (v := .ref jiO) (C := RX11) (T := TX11) (N := 55) hx hb hts ui_X11_findSeats_X11 hown hK hP 0 rfl rfl 45 (by decide) (hts _ uw_X11_findSeats_f83) (fun _ h9 => h9) rfl (dt_of tkX11_findSeats_k198 13 rfl) ?_
      refine lv_iload_n hx hb (dt_of tkX11_findSeats_k198 14 rfl) rfl (lv_at hl 1 rfl) ?_
      refine lv_bipush (v := 8) hx hb (dt_of tkX11_findSeats_k198 15 rfl) (by decide) ?_
      refine lv_ishl hx hb (dt_of tkX11_findSeats_k222 0 rfl) ?_
      refine lv_topi (fun x48 ex48 => ?_)
      have hw := hw x48 ex48
      refine lv_iload_n hx hb (dt_of tkX11_findSeats_k222 1 rfl) rfl (lv_at hl 2 rfl) ?_
      refine lv_ior hx hb (dt_of tkX11_findSeats_k222 2 rfl) ?_
      refine lv_topi (fun x49 ex49 => ?_)
      have hw := hw x49 ex49
      refine lv_iload_n hx hb (dt_of tkX11_findSeats_k222 3 rfl) rfl (lv_at hl 3 rfl) ?_
      obtain ⟨hi9, hw⟩ := hw
      refine va_iast hx hb hK hP hD hS 9 1 rfl rfl hi9 (dt_of tkX11_findSeats_k222 4 rfl) (fun H locs hP hD hS => ?_)
      obtain ⟨f50, ef50⟩ : ∃ y : Nat → Int32, y = upd jjl x49.toNatClampNeg l3 := ⟨_, rfl⟩
      have hw := hw f50 ef50
      have hP : va_P (dC, dI) vwCl (wd09_34 a0 jaX jaF jaD ja7 jby jbf jaM jaY jap jaK jal jam jax jao ja5 jaV jbJ jae jag jaf jaN jaC jbw jaw jaI jbG jbg jbB jan jbD jbu jar jaL jah jaB jaa jaz jaG jab jaT a0_s jaq jai jaO jaA jiO jiS jiY jaj jas jaJ jak jad jay jac jaT cyI jb0 a0_s cyI f0_s ja5 cyI jbv jbu cyI jbZ jbB cyI jca jbG cyI jcu jbg cyI jbR jbJ cyI jcx jiO cyI f50 jiY cyI jjp jiS cyI jjq) H := by rw [ef50]; exact hP
      have hD : va_D A (wd09_34 a0 jaX jaF jaD ja7 jby jbf jaM jaY jap jaK jal jam jax jao ja5 jaV jbJ jae jag jaf jaN jaC jbw jaw jaI jbG jbg jbB jan jbD jbu jar jaL jah jaB jaa jaz jaG jab jaT a0_s jaq jai jaO jaA jiO jiS jiY jaj jas jaJ jak jad jay jac jaT cyI jb0 a0_s cyI f0_s ja5 cyI jbv jbu cyI jbZ jbB cyI jca jbG cyI jcu jbg cyI jbR jbJ cyI jcx jiO cyI f50 jiY cyI jjp jiS cyI jjq) := by rw [ef50]; exact hD
      obtain ⟨x51, ex51⟩ : ∃ y : Int32, y = l2 + 1 := ⟨_, rfl⟩
      have hw := hw x51 ex51
      refine lv_iinc (v := x51) (lv' := [(2, .int x51), (0, .ref a0), (1, .int l1), (3, .int l3), (4, .int l4)]) hx hb (dt_of tkX11_findSeats_k222 5 rfl) hl (k := 2) rfl (by rw [ex51]; rfl) (by decide) rfl (fun ls hl => ?_)
      refine lv_goto (tgt := 105) hx hb (dt_of tkX11_findSeats_k222 6 rfl) (by decide) ?_
      exact hK105 _ _ _ f0_s jbZ jca f50 jjp jjq l1 x51 hP hD hS (lv_sub hl [1, 2, 0] rfl) hw
    · have hw := hw.2 c47
      refine lv_aload_n hx hb (dt_of tkX11_findSeats_k128 7 rfl) rfl (lv_at hl 0 rfl) ?_
      refine va_get (D := (dC, dI)) (ci := 11) (v := .ref jiY) (C := RX11) (T := TX11) (N := 55) hx hb hts ui_X11_findSeats_X11 hown hK hP 0 rfl rfl 47 (by decide) (hts _ uw_X11_findSeats_f89) (fun _ h9 => h9) rfl (dt_of tkX11_findSeats_k128 8 rfl) ?_
      refine lv_iload_n hx hb (dt_of tkX11_findSeats_k128 9 rfl) rfl (lv_at hl 1 rfl) ?_
      obtain ⟨hi9, hw⟩ := hw
      refine va_iald hx hb hK hP 10 1 rfl rfl hi9 (dt_of tkX11_findSeats_k128 10 rfl) ?_
      refine lv_topi (fun x52 ex52 => ?_)
      have hw := hw x52 ex52
      refine lv_iload_n hx hb (dt_of tkX11_findSeats_k128 11 rfl) rfl (lv_at hl 2 rfl) ?_
      refine lv_iconst (v := (-1)) hx hb (dt_of tkX11_findSeats_k128 12 rfl) (by decide) ?_
      refine lv_ixor hx hb (dt_of tkX11_findSeats_k128 13 rfl) ?_
      refine lv_iand hx hb (dt_of tkX11_findSeats_k128 14 rfl) ?_
      refine lv_iload hx hb (dt_of tkX11_findSeats_k128 15 rfl) (lv_at hl 4 rfl) ?_
      refine lv_ishr hx hb (dt_of tkX11_findSeats_k153 0 rfl) ?_
      refine lv_iconst (v := 1) hx hb (dt_of tkX11_findSeats_k153 1 rfl) (by decide) ?_
      refine lv_iand hx hb (dt_of tkX11_findSeats_k153 2 rfl) ?_
      refine lv_topi (fun x53 ex53 => ?_)
      have hw := hw x53 ex53
      refine lv_istore (lv' := [(5, .int x53), (0, .ref a0), (1, .int l1), (2, .int l2), (3, .int l3), (4, .int l4)]) hx hb (dt_of tkX11_findSeats_k153 3 rfl) hl (by decide) rfl (fun ls hl => ?_)
      refine lv_iload hx hb (dt_of tkX11_findSeats_k153 4 rfl) (lv_at hl 0 rfl) ?_
      refine lv_iconst (v := 1) hx hb (dt_of tkX11_findSeats_k153 5 rfl) (by decide) ?_
      refine lv_icmp_ne (tgt := 209) hx hb (dt_of tkX11_findSeats_k153 6 rfl) (by decide) (fun c54 => ?_) (fun c54 => ?_)
      · have hw := hw.1 c54
        exact kb_X11_findSeats_209 dC dI cyB cyI cyJ cyP a0 jaT a0_s jiY ja5 jbu jbB jbG jbg jbJ jiO jiS jaX jaF jaD ja7 jby jbf jaM jaY jap jaK jal jam jax jao jaV jae jag jaf jaw jaI jan jar jaL jah jaB jaa jaz jaG jab jaq jai jaO jaA jaj jas jaJ jak jad jay jac jaN jaC jbw jbD jb0 jbv jcu jbR jcx Q K99 K105 (wl_X11_findSeats_132 jaN jaC jbw jbD jb0 jbv jcu jbR jcx Q K99 K105 n) hK99 hK105 ih C0 _ _ _ f0_s jbZ jca jjl jjp jjq l1 l2 l3 l4 hP hD hS (lv_sub hl [1, 2, 3, 4, 5] rfl) hw
      · have hw := hw.2 c54
        refine lv_iconst (v := 1) hx hb (dt_of tkX11_findSeats_k153 7 rfl) (by decide) ?_
        refine lv_aload_n hx hb (dt_of tkX11_findSeats_k153 8 rfl) rfl (lv_at hl 1 rfl) ?_
        refine va_get (D := (dC, dI)) (ci := 11) (v := .ref jiO) (C := RX11) (T := TX11) (N := 55) hx hb hts ui_X11_findSeats_X11 hown hK hP 0 rfl rfl 45 (by decide) (hts _ uw_X11_findSeats_f83) (fun _ h9 => h9) rfl (dt_of tkX11_findSeats_k153 9 rfl) ?_
        refine lv_iload_n hx hb (dt_of tkX11_findSeats_k153 10 rfl) rfl (lv_at hl 2 rfl) ?_
        refine lv_iconst (v := 1) hx hb (dt_of tkX11_findSeats_k153 11 rfl) (by decide) ?_
        refine lv_iadd hx hb (dt_of tkX11_findSeats_k153 12 rfl) ?_
        refine lv_topi (fun x55 ex55 => ?_)
        have hw := hw x55 ex55
        refine lv_bipush (v := 8) hx hb (dt_of tkX11_findSeats_k153 13 rfl) (by decide) ?_
        refine lv_ishl hx hb (dt_of tkX11_findSeats_k153 14 rfl) ?_
        refine lv_topi (fun x56 ex56 => ?_)
        have hw := hw x56 ex56
        refine lv_iload_n hx hb (dt_of tkX11_findSeats_k153 15 rfl) rfl (lv_at hl 3 rfl) ?_
        refine lv_ior hx hb (dt_of tkX11_findSeats_k176 0 rfl) ?_
        refine lv_topi (fun x57 ex57 => ?_)
        have hw := hw x57 ex57
        refine lv_iconst (v := 1) hx hb (dt_of tkX11_findSeats_k176 1 rfl) (by decide) ?_
        refine lv_iload hx hb (dt_of tkX11_findSeats_k176 2 rfl) (lv_at hl 5 rfl) ?_
        refine lv_ishl hx hb (dt_of tkX11_findSeats_k176 3 rfl) ?_
        refine lv_ior hx hb (dt_of tkX11_findSeats_k176 4 rfl) ?_
        refine lv_topi (fun x58 ex58 => ?_)
        have hw := hw x58 ex58
        obtain ⟨hi9, hw⟩ := hw
        refine va_iald hx hb hK hP 9 1 rfl rfl hi9 (dt_of tkX11_findSeats_k176 5 rfl) ?_
        refine lv_topi (fun x59 ex59 => ?_)
        have hw := hw x59 ex59
        refine lv_iadd hx hb (dt_of tkX11_findSeats_k176 6 rfl) ?_
        refine lv_iload_n hx hb (dt_of tkX11_findSeats_k176 7 rfl) rfl (lv_at hl 4 rfl) ?_
        refine lv_icmp_le (tgt := 209) hx hb (dt_of tkX11_findSeats_k176 8 rfl) (by decide) (fun c60 => ?_) (fun c60 => ?_)
        · have hw := hw.1 c60
          exact kb_X11_findSeats_209 dC dI cyB cyI cyJ cyP a0 jaT a0_s jiY ja5 jbu jbB jbG jbg jbJ jiO jiS jaX jaF jaD ja7 jby jbf jaM jaY jap jaK jal jam jax jao jaV jae jag jaf jaw jaI jan jar jaL jah jaB jaa jaz jaG jab jaq jai jaO jaA jaj jas jaJ jak jad jay jac jaN jaC jbw jbD jb0 jbv jcu jbR jcx Q K99 K105 (wl_X11_findSeats_132 jaN jaC jbw jbD jb0 jbv jcu jbR jcx Q K99 K105 n) hK99 hK105 ih C0 _ _ _ f0_s jbZ jca jjl jjp jjq l1 l2 l3 l4 hP hD hS (lv_sub hl [1, 2, 3, 4, 5] rfl) hw
        · have hw := hw.2 c60
          refine lv_iconst (v := 1) hx hb (dt_of tkX11_findSeats_k176 9 rfl) (by decide) ?_
          refine lv_aload_n hx hb (dt_of tkX11_findSeats_k176 10 rfl) rfl (lv_at hl 1 rfl) ?_
          refine va_get (D := (dC, dI)) (ci := 11) (v := .ref jiO) (C := RX11) (T := TX11) (N := 55) hx hb hts ui_X11_findSeats_X11 hown hK hP 0 rfl rfl 45 (by decide) (hts _ uw_X11_findSeats_f83) (fun _ h9 => h9) rfl (dt_of tkX11_findSeats_k176 11 rfl) ?_
          refine lv_iload_n hx hb (dt_of tkX11_findSeats_k176 12 rfl) rfl (lv_at hl 2 rfl) ?_
          refine lv_iconst (v := 1) hx hb (dt_of tkX11_findSeats_k176 13 rfl) (by decide) ?_
          refine lv_iadd hx hb (dt_of tkX11_findSeats_k176 14 rfl) ?_
          refine lv_topi (fun x61 ex61 => ?_)
          have hw := hw x61 ex61
          refine lv_bipush (v := 8) hx hb (dt_of tkX11_findSeats_k176 15 rfl) (by decide) ?_
          refine lv_ishl hx hb (dt_of tkX11_findSeats_k198 0 rfl) ?_
          refine lv_topi (fun x62 ex62 => ?_)
          have hw := hw x62 ex62
          refine lv_iload_n hx hb (dt_of tkX11_findSeats_k198 1 rfl) rfl (lv_at hl 3 rfl) ?_
          refine lv_ior hx hb (dt_of tkX11_findSeats_k198 2 rfl) ?_
          refine lv_topi (fun x63 ex63 => ?_)
          have hw := hw x63 ex63
          refine lv_iconst (v := 1) hx hb (dt_of tkX11_findSeats_k198 3 rfl) (by decide) ?_
          refine lv_iload hx hb (dt_of tkX11_findSeats_k198 4 rfl) (lv_at hl 5 rfl) ?_
          refine lv_ishl hx hb (dt_of tkX11_findSeats_k198 5 rfl) ?_
          refine lv_ior hx hb (dt_of tkX11_findSeats_k198 6 rfl) ?_
          refine lv_topi (fun x64 ex64 => ?_)
          have hw := hw x64 ex64
          obtain ⟨hi9, hw⟩ := hw
          refine va_iald hx hb hK hP 9 1 rfl rfl hi9 (dt_of tkX11_findSeats_k198 7 rfl) ?_
          refine lv_topi (fun x65 ex65 => ?_)
          have hw := hw x65 ex65
          refine lv_iadd hx hb (dt_of tkX11_findSeats_k198 8 rfl) ?_
          refine lv_topi (fun x66 ex66 => ?_)
          have hw := hw x66 ex66
          refine lv_istore_n (lv' := [(3, .int x66), (5, .int x53), (0, .ref a0), (1, .int l1), (2, .int l2), (4, .int l4)]) hx hb (dt_of tkX11_findSeats_k198 9 rfl) rfl hl (by decide) rfl (fun ls hl => ?_)
          exact kb_X11_findSeats_209 dC dI cyB cyI cyJ cyP a0 jaT a0_s jiY ja5 jbu jbB jbG jbg jbJ jiO jiS jaX jaF jaD ja7 jby jbf jaM jaY jap jaK jal jam jax jao jaV jae jag jaf jaw jaI jan jar jaL jah jaB jaa jaz jaG jab jaq jai jaO jaA jaj jas jaJ jak jad jay jac jaN jaC jbw jbD jb0 jbv jcu jbR jcx Q K99 K105 (wl_X11_findSeats_132 jaN jaC jbw jbD jb0 jbv jcu jbR jcx Q K99 K105 n) hK99 hK105 ih C0 _ _ _ f0_s jbZ jca jjl jjp jjq l1 l2 x66 l4 hP hD hS (lv_sub hl [2, 3, 4, 0, 5] rfl) hw
set_option maxHeartbeats 4000000 in
set_option maxRecDepth 100000 in
theorem kl_X11_findSeats_105 {p : Program} {l : Launch} {e : Env} {s : State} {m : MethodId} {args : Array Value} {below : List Frame} {meth : Method} {c : Code} {A : Nat → Prop} (dC : Nat → ClassId) (dI : Nat → Nat → Nat) (cyB cyI cyJ cyP : ClassId) (a0 jaT a0_s jiY ja5 jbu jbB jbG jbg jbJ jiO jiS : Nat) (jaX jaF jaD ja7 jby jbf jaM jaY jap jaK jal jam jax jao jaV jae jag jaf jaw jaI jan jar jaL jah jaB jaa jaz jaG jab jaq jai jaO jaA jaj jas jaJ jak jad jay jac : Value) (jaN jaC jbw jbD : Int32) (jb0 jbv jcu jbR jcx : Nat → Int32) (Q : (Nat → Int32) → (Nat → Int32) → (Nat → Int32) → (Nat → Int32) → (Nat → Int32) → (Nat → Int32) → Prop) (K99 : (Nat → Int32) → (Nat → Int32) → (Nat → Int32) → (Nat → Int32) → (Nat → Int32) → (Nat → Int32) → Int32 → Prop) (hK99 : ∀ (H : Heap) (locs : List Loc) (ls : Array Slot) (f0_s jbZ jca jjl jjp jjq : Nat → Int32) (l1 : Int32), va_P (dC, dI) vwCl (wd09_34 a0 jaX jaF jaD ja7 jby jbf jaM jaY jap jaK jal jam jax jao ja5 jaV jbJ jae jag jaf jaN jaC jbw jaw jaI jbG jbg jbB jan jbD jbu jar jaL jah jaB jaa jaz jaG jab jaT a0_s jaq jai jaO jaA jiO jiS jiY jaj jas jaJ jak jad jay jac jaT cyI jb0 a0_s cyI f0_s ja5 cyI jbv jbu cyI jbZ jbB cyI jca jbG cyI jcu jbg cyI jbR jbJ cyI jcx jiO cyI jjl jiY cyI jjp jiS cyI jjq) H → va_D A (wd09_34 a0 jaX jaF jaD ja7 jby jbf jaM jaY jap jaK jal jam jax jao ja5 jaV jbJ jae jag jaf jaN jaC jbw jaw jaI jbG jbg jbB jan jbD jbu jar jaL jah jaB jaa jaz jaG jab jaT a0_s jaq jai jaO jaA jiO jiS jiY jaj jas jaJ jak jad jay jac jaT cyI jb0 a0_s cyI f0_s ja5 cyI jbv jbu cyI jbZ jbB cyI jca jbG cyI jcu jbg cyI jbR jbJ cyI jcx jiO cyI jjl jiY cyI jjp jiS cyI jjq) → va_S A s.heap H locs → lv_has ls 6 [(0, .ref a0), (1, .int l1)] → K99 f0_s jbZ jca jjl jjp jjq l1 → W p l e (headSpec wsX11_findSeats ({ frames := 7, cells := 0, slots := 0, locals := 160 })).room s m args below meth c H locs 0 0 (MQ below (va_Qv (fun (u : (Nat → Int32) × (Nat → Int32) × (Nat → Int32) × (Nat → Int32) × (Nat → Int32) × (Nat → Int32)) => Q u.1 u.2.1 u.2.2.1 u.2.2.2.1 u.2.2.2.2.1 u.2.2.2.2.2) (cB (dC, dI) (kT cyB cyI cyJ cyP) A (fun u : (Nat → Int32) × (Nat → Int32) × (Nat → Int32) × (Nat → Int32) × (Nat → Int32) × (Nat → Int32) => ((wd09_34 a0 jaX jaF jaD ja7 jby jbf jaM jaY jap jaK jal jam jax jao ja5 jaV jbJ jae jag jaf jaN jaC jbw jaw jaI jbG jbg jbB jan jbD jbu jar jaL jah jaB jaa jaz jaG jab jaT a0_s jaq jai jaO jaA jiO jiS jiY jaj jas jaJ jak jad jay jac jaT cyI jb0 a0_s cyI u.1 ja5 cyI jbv jbu cyI u.2.1 jbB cyI u.2.2.1 jbG cyI jcu jbg cyI jbR jbJ cyI jcx jiO cyI u.2.2.2.1 jiY cyI u.2.2.2.2.1 jiS cyI u.2.2.2.2.2) : va_W))) A) args s 0 0 A) (F0 m 99 ls [])) (C0 : cfx p s m args meth c cX11_findSeats none wsX11_findSeats RX11 6 A (dC, dI) (kT cyB cyI cyJ cyP)) : ∀ (n : Nat) (H : Heap) (locs : List Loc) (ls : Array Slot) (f0_s jbZ jca jjl jjp jjq : Nat → Int32) (l1 l2 : Int32), va_P (dC, dI) vwCl (wd09_34 a0 jaX jaF jaD ja7 jby jbf jaM jaY jap jaK jal jam jax jao ja5 jaV jbJ jae jag jaf jaN jaC jbw jaw jaI jbG jbg jbB jan jbD jbu jar jaL jah jaB jaa jaz jaG jab jaT a0_s jaq jai jaO jaA jiO jiS jiY jaj jas jaJ jak jad jay jac jaT cyI jb0 a0_s cyI f0_s ja5 cyI jbv jbu cyI jbZ jbB cyI jca jbG cyI jcu jbg cyI jbR jbJ cyI jcx jiO cyI jjl jiY cyI jjp jiS cyI jjq) H → va_D A (wd09_34 a0 jaX jaF jaD ja7 jby jbf jaM jaY jap jaK jal jam jax jao ja5 jaV jbJ jae jag jaf jaN jaC jbw jaw jaI jbG jbg jbB jan jbD jbu jar jaL jah jaB jaa jaz jaG jab jaT a0_s jaq jai jaO jaA jiO jiS jiY jaj jas jaJ jak jad jay jac jaT cyI jb0 a0_s cyI f0_s ja5 cyI jbv jbu cyI jbZ jbB cyI jca jbG cyI jcu jbg cyI jbR jbJ cyI jcx jiO cyI jjl jiY cyI jjp jiS cyI jjq) → va_S A s.heap H locs → lv_has ls 6 [(0, .ref a0), (1, .int l1), (2, .int l2)] → wl_X11_findSeats_105 jaN jaC jbw jbD jb0 jbv jcu jbR jcx Q K99 n f0_s jbZ jca jjl jjp jjq l1 l2 → W p l e (headSpec wsX11_findSeats ({ frames := 7, cells := 0, slots := 0, locals := 160 })).room s m args below meth c H locs 0 0 (MQ below (va_Qv (fun (u : (Nat → Int32) × (Nat → Int32) × (Nat → Int32) × (Nat → Int32) × (Nat → Int32) × (Nat → Int32)) => Q u.1 u.2.1 u.2.2.1 u.2.2.2.1 u.2.2.2.2.1 u.2.2.2.2.2) (cB (dC, dI) (kT cyB cyI cyJ cyP) A (fun u : (Nat → Int32) × (Nat → Int32) × (Nat → Int32) × (Nat → Int32) × (Nat → Int32) × (Nat → Int32) => ((wd09_34 a0 jaX jaF jaD ja7 jby jbf jaM jaY jap jaK jal jam jax jao ja5 jaV jbJ jae jag jaf jaN jaC jbw jaw jaI jbG jbg jbB jan jbD jbu jar jaL jah jaB jaa jaz jaG jab jaT a0_s jaq jai jaO jaA jiO jiS jiY jaj jas jaJ jak jad jay jac jaT cyI jb0 a0_s cyI u.1 ja5 cyI jbv jbu cyI u.2.1 jbB cyI u.2.2.1 jbG cyI jcu jbg cyI jbR jbJ cyI jcx jiO cyI u.2.2.2.1 jiY cyI u.2.2.2.2.1 jiS cyI u.2.2.2.2.2) : va_W))) A) args s 0 0 A) (F0 m 105 ls []) := by
  obtain ⟨hx, hb, hr, hts, hown, hlocks, hml, hA, hK, hNw⟩ := id C0
  intro n
  induction n with
  | zero => intro H locs ls f0_s jbZ jca jjl jjp jjq l1 l2 hP hD hS hl hw; exact False.elim hw
  | succ n ih =>
    intro H locs ls f0_s jbZ jca jjl jjp jjq l1 l2 hP hD hS hl hw
    refine lv_iload_n hx hb (dt_of tkX11_findSeats_k105 0 rfl) rfl (lv_at hl 2 rfl) ?_
    refine lv_iconst (v := 1) hx hb (dt_of tkX11_findSeats_k105 1 rfl) (by decide) ?_
    refine lv_aload_n hx hb (dt_of tkX11_findSeats_k105 2 rfl) rfl (lv_at hl 0 rfl) ?_
    refine va_get (D := (dC, dI)) (ci := 11) (v := .int jaN) (C := RX11) (T := TX11) (N := 55) hx hb hts ui_X11_findSeats_X11 hown hK hP 0 rfl rfl 20 (by decide) (hts _ uw_X11_findSeats_f166) (fun _ h9 => h9) rfl (dt_of tkX11_findSeats_k105 3 rfl) ?_
    refine lv_ishl hx hb (dt_of tkX11_findSeats_k105 4 rfl) ?_
    refine lv_icmp_ge (tgt := 233) hx hb (dt_of tkX11_findSeats_k105 5 rfl) (by decide) (fun c23 => ?_) (fun c23 => ?_)
    · have hw := hw.1 c23
      obtain ⟨x24, ex24⟩ : ∃ y : Int32, y = l1 + (-1) := ⟨_, rfl⟩
      have hw := hw x24 ex24
      refine lv_iinc (v := x24) (lv' := [(1, .int x24), (0, .ref a0), (2, .int l2)]) hx hb (dt_of tkX11_findSeats_k222 7 rfl) hl (k := 1) rfl (by rw [ex24]; rfl) (by decide) rfl (fun ls hl => ?_)
      refine lv_goto (tgt := 99) hx hb (dt_of tkX11_findSeats_k222 8 rfl) (by decide) ?_
      exact hK99 _ _ _ f0_s jbZ jca jjl jjp jjq x24 hP hD hS (lv_sub hl [1, 0] rfl) hw
    · have hw := hw.2 c23
      refine lv_aload_n hx hb (dt_of tkX11_findSeats_k105 6 rfl) rfl (lv_at hl 0 rfl) ?_
      refine va_get (D := (dC, dI)) (ci := 11) (v := .ref jiO) (C := RX11) (T := TX11) (N := 55) hx hb hts ui_X11_findSeats_X11 hown hK hP 0 rfl rfl 45 (by decide) (hts _ uw_X11_findSeats_f83) (fun _ h9 => h9) rfl (dt_of tkX11_findSeats_k105 7 rfl) ?_
      refine lv_iload_n hx hb (dt_of tkX11_findSeats_k105 8 rfl) rfl (lv_at hl 1 rfl) ?_
      refine lv_iconst (v := 1) hx hb (dt_of tkX11_findSeats_k105 9 rfl) (by decide) ?_
      refine lv_iadd hx hb (dt_of tkX11_findSeats_k105 10 rfl) ?_
      refine lv_topi (fun x25 ex25 => ?_)
      have hw := hw x25 ex25
      refine lv_bipush (v := 8) hx hb (dt_of tkX11_findSeats_k105 11 rfl) (by decide) ?_
      refine lv_ishl hx hb (dt_of tkX11_findSeats_k105 12 rfl) ?_
      refine lv_topi (fun x26 ex26 => ?_)
      have hw := hw x26 ex26
      refine lv_iload_n hx hb (dt_of tkX11_findSeats_k105 13 rfl) rfl (lv_at hl 2 rfl) ?_
      refine lv_ior hx hb (dt_of tkX11_findSeats_k105 14 rfl) ?_
      refine lv_topi (fun x27 ex27 => ?_)
      have hw := hw x27 ex27
      obtain ⟨hi9, hw⟩ := hw
      refine va_iald hx hb hK hP 9 1 rfl rfl hi9 (dt_of tkX11_findSeats_k105 15 rfl) ?_
      refine lv_topi (fun x28 ex28 => ?_)
      have hw := hw x28 ex28
      refine lv_istore_n (lv' := [(3, .int x28), (0, .ref a0), (1, .int l1), (2, .int l2)]) hx hb (dt_of tkX11_findSeats_k128 0 rfl) rfl hl (by decide) rfl (fun ls hl => ?_)
      refine lv_iconst (v := 0) hx hb (dt_of tkX11_findSeats_k128 1 rfl) (by decide) ?_
      refine lv_istore (lv' := [(4, .int 0), (3, .int x28), (0, .ref a0), (1, .int l1), (2, .int l2)]) hx hb (dt_of tkX11_findSeats_k128 2 rfl) hl (by decide) rfl (fun ls hl => ?_)
      obtain ⟨n9, hw⟩ := hw
      exact kl_X11_findSeats_132 dC dI cyB cyI cyJ cyP a0 jaT a0_s jiY ja5 jbu jbB jbG jbg jbJ jiO jiS jaX jaF jaD ja7 jby jbf jaM jaY jap jaK jal jam jax jao jaV jae jag jaf jaw jaI jan jar jaL jah jaB jaa jaz jaG jab jaq jai jaO jaA jaj jas jaJ jak jad jay jac jaN jaC jbw jbD jb0 jbv jcu jbR jcx Q K99 (wl_X11_findSeats_105 jaN jaC jbw jbD jb0 jbv jcu jbR jcx Q K99 n) hK99 ih C0 n9 _ _ _ f0_s jbZ jca jjl jjp jjq l1 l2 x28 0 hP hD hS (lv_sub hl [2, 3, 4, 1, 0] rfl) hw
set_option maxHeartbeats 4000000 in
set_option maxRecDepth 100000 in
theorem kb_X11_findSeats_327 {p : Program} {l : Launch} {e : Env} {s : State} {m : MethodId} {args : Array Value} {below : List Frame} {meth : Method} {c : Code} {A : Nat → Prop} (dC : Nat → ClassId) (dI : Nat → Nat → Nat) (cyB cyI cyJ cyP : ClassId) (a0 jaT a0_s jiY ja5 jbu jbB jbG jbg jbJ jiO jiS : Nat) (jaX jaF jaD ja7 jby jbf jaM jaY jap jaK jal jam jax jao jaV jae jag jaf jaw jaI jan jar jaL jah jaB jaa jaz jaG jab jaq jai jaO jaA jaj jas jaJ jak jad jay jac : Value) (jaN jaC jbw jbD : Int32) (jb0 jbv jcu jbR jcx : Nat → Int32) (Q : (Nat → Int32) → (Nat → Int32) → (Nat → Int32) → (Nat → Int32) → (Nat → Int32) → (Nat → Int32) → Prop) (K243 : (Nat → Int32) → (Nat → Int32) → (Nat → Int32) → (Nat → Int32) → (Nat → Int32) → (Nat → Int32) → Int32 → Int32 → Prop) (K265 : (Nat → Int32) → (Nat → Int32) → (Nat → Int32) → (Nat → Int32) → (Nat → Int32) → (Nat → Int32) → Int32 → Int32 → Int32 → Prop) (hK243 : ∀ (H : Heap) (locs : List Loc) (ls : Array Slot) (f0_s jbZ jca jjl jjp jjq : Nat → Int32) (l1 l2 : Int32), va_P (dC, dI) vwCl (wd09_34 a0 jaX jaF jaD ja7 jby jbf jaM jaY jap jaK jal jam jax jao ja5 jaV jbJ jae jag jaf jaN jaC jbw jaw jaI jbG jbg jbB jan jbD jbu jar jaL jah jaB jaa jaz jaG jab jaT a0_s jaq jai jaO jaA jiO jiS jiY jaj jas jaJ jak jad jay jac jaT cyI jb0 a0_s cyI f0_s ja5 cyI jbv jbu cyI jbZ jbB cyI jca jbG cyI jcu jbg cyI jbR jbJ cyI jcx jiO cyI jjl jiY cyI jjp jiS cyI jjq) H → va_D A (wd09_34 a0 jaX jaF jaD ja7 jby jbf jaM jaY jap jaK jal jam jax jao ja5 jaV jbJ jae jag jaf jaN jaC jbw jaw jaI jbG jbg jbB jan jbD jbu jar jaL jah jaB jaa jaz jaG jab jaT a0_s jaq jai jaO jaA jiO jiS jiY jaj jas jaJ jak jad jay jac jaT cyI jb0 a0_s cyI f0_s ja5 cyI jbv jbu cyI jbZ jbB cyI jca jbG cyI jcu jbg cyI jbR jbJ cyI jcx jiO cyI jjl jiY cyI jjp jiS cyI jjq) → va_S A s.heap H locs → lv_has ls 6 [(0, .ref a0), (1, .int l1), (2, .int l2)] → K243 f0_s jbZ jca jjl jjp jjq l1 l2 → W p l e (headSpec wsX11_findSeats ({ frames := 7, cells := 0, slots := 0, locals := 160 })).room s m args below meth c H locs 0 0 (MQ below (va_Qv (fun (u : (Nat → Int32) × (Nat → Int32) × (Nat → Int32) × (Nat → Int32) × (Nat → Int32) × (Nat → Int32)) => Q u.1 u.2.1 u.2.2.1 u.2.2.2.1 u.2.2.2.2.1 u.2.2.2.2.2) (cB (dC, dI) (kT cyB cyI cyJ cyP) A (fun u : (Nat → Int32) × (Nat → Int32) × (Nat → Int32) × (Nat → Int32) × (Nat → Int32) × (Nat → Int32) => ((wd09_34 a0 jaX jaF jaD ja7 jby jbf jaM jaY jap jaK jal jam jax jao ja5 jaV jbJ jae jag jaf jaN jaC jbw jaw jaI jbG jbg jbB jan jbD jbu jar jaL jah jaB jaa jaz jaG jab jaT a0_s jaq jai jaO jaA jiO jiS jiY jaj jas jaJ jak jad jay jac jaT cyI jb0 a0_s cyI u.1 ja5 cyI jbv jbu cyI u.2.1 jbB cyI u.2.2.1 jbG cyI jcu jbg cyI jbR jbJ cyI jcx jiO cyI u.2.2.2.1 jiY cyI u.2.2.2.2.1 jiS cyI u.2.2.2.2.2) : va_W))) A) args s 0 0 A) (F0 m 243 ls [])) (hK265 : ∀ (H : Heap) (locs : List Loc) (ls : Array Slot) (f0_s jbZ jca jjl jjp jjq : Nat → Int32) (l1 l2 l3 : Int32), va_P (dC, dI) vwCl (wd09_34 a0 jaX jaF jaD ja7 jby jbf jaM jaY jap jaK jal jam jax jao ja5 jaV jbJ jae jag jaf jaN jaC jbw jaw jaI jbG jbg jbB jan jbD jbu jar jaL jah jaB jaa jaz jaG jab jaT a0_s jaq jai jaO jaA jiO jiS jiY jaj jas jaJ jak jad jay jac jaT cyI jb0 a0_s cyI f0_s ja5 cyI jbv jbu cyI jbZ jbB cyI jca jbG cyI jcu jbg cyI jbR jbJ cyI jcx jiO cyI jjl jiY cyI jjp jiS cyI jjq) H → va_D A (wd09_34 a0 jaX jaF jaD ja7 jby jbf jaM jaY jap jaK jal jam jax jao ja5 jaV jbJ jae jag jaf jaN jaC jbw jaw jaI jbG jbg jbB jan jbD jbu jar jaL jah jaB jaa jaz jaG jab jaT a0_s jaq jai jaO jaA jiO jiS jiY jaj jas jaJ jak jad jay jac jaT cyI jb0 a0_s cyI f0_s ja5 cyI jbv jbu cyI jbZ jbB cyI jca jbG cyI jcu jbg cyI jbR jbJ cyI jcx jiO cyI jjl jiY cyI jjp jiS cyI jjq) → va_S A s.heap H locs → lv_has ls 6 [(0, .ref a0), (1, .int l1), (2, .int l2), (3, .int l3)] → K265 f0_s jbZ jca jjl jjp jjq l1 l2 l3 → W p l e (headSpec wsX11_findSeats ({ frames := 7, cells := 0, slots := 0, locals := 160 })).room s m args below meth c H locs 0 0 (MQ below (va_Qv (fun (u : (Nat → Int32) × (Nat → Int32) × (Nat → Int32) × (Nat → Int32) × (Nat → Int32) × (Nat → Int32)) => Q u.1 u.2.1 u.2.2.1 u.2.2.2.1 u.2.2.2.2.1 u.2.2.2.2.2) (cB (dC, dI) (kT cyB cyI cyJ cyP) A (fun u : (Nat → Int32) × (Nat → Int32) × (Nat → Int32) × (Nat → Int32) × (Nat → Int32) × (Nat → Int32) => ((wd09_34 a0 jaX jaF jaD ja7 jby jbf jaM jaY jap jaK jal jam jax jao ja5 jaV jbJ jae jag jaf jaN jaC jbw jaw jaI jbG jbg jbB jan jbD jbu jar jaL jah jaB jaa jaz jaG jab jaT a0_s jaq jai jaO jaA jiO jiS jiY jaj jas jaJ jak jad jay jac jaT cyI jb0 a0_s cyI u.1 ja5 cyI jbv jbu cyI u.2.1 jbB cyI u.2.2.1 jbG cyI jcu jbg cyI jbR jbJ cyI jcx jiO cyI u.2.2.2.1 jiY cyI u.2.2.2.2.1 jiS cyI u.2.2.2.2.2) : va_W))) A) args s 0 0 A) (F0 m 265 ls [])) (C0 : cfx p s m args meth c cX11_findSeats none wsX11_findSeats RX11 6 A (dC, dI) (kT cyB cyI cyJ cyP)) : ∀ (H : Heap) (locs : List Loc) (ls : Array Slot) (f0_s jbZ jca jjl jjp jjq : Nat → Int32) (l1 l2 l3 : Int32), va_P (dC, dI) vwCl (wd09_34 a0 jaX jaF jaD ja7 jby jbf jaM jaY jap jaK jal jam jax jao ja5 jaV jbJ jae jag jaf jaN jaC jbw jaw jaI jbG jbg jbB jan jbD jbu jar jaL jah jaB jaa jaz jaG jab jaT a0_s jaq jai jaO jaA jiO jiS jiY jaj jas jaJ jak jad jay jac jaT cyI jb0 a0_s cyI f0_s ja5 cyI jbv jbu cyI jbZ jbB cyI jca jbG cyI jcu jbg cyI jbR jbJ cyI jcx jiO cyI jjl jiY cyI jjp jiS cyI jjq) H → va_D A (wd09_34 a0 jaX jaF jaD ja7 jby jbf jaM jaY jap jaK jal jam jax jao ja5 jaV jbJ jae jag jaf jaN jaC jbw jaw jaI jbG jbg jbB jan jbD jbu jar jaL jah jaB jaa jaz jaG jab jaT a0_s jaq jai jaO jaA jiO jiS jiY jaj jas jaJ jak jad jay jac jaT cyI jb0 a0_s cyI f0_s ja5 cyI jbv jbu cyI jbZ jbB cyI jca jbG cyI jcu jbg cyI jbR jbJ cyI jcx jiO cyI jjl jiY cyI jjp jiS cyI jjq) → va_S A s.heap H locs → lv_has ls 6 [(0, .ref a0), (1, .int l1), (2, .int l2), (3, .int l3)] → wb_X11_findSeats_327 jaN jaC jbw jbD jb0 jbv jcu jbR jcx Q K243 K265 f0_s jbZ jca jjl jjp jjq l1 l2 l3 → W p l e (headSpec wsX11_findSeats ({ frames := 7, cells := 0, slots := 0, locals := 160 })).room s m args below meth c H locs 0 0 (MQ below (va_Qv (fun (u : (Nat → Int32) × (Nat → Int32) × (Nat → Int32) × (Nat → Int32) × (Nat → Int32) × (Nat → Int32)) => Q u.1 u.2.1 u.2.2.1 u.2.2.2.1 u.2.2.2.2.1 u.2.2.2.2.2) (cB (dC, dI) (kT cyB cyI cyJ cyP) A (fun u : (Nat → Int32) × (Nat → Int32) × (Nat → Int32) × (Nat → Int32) × (Nat → Int32) × (Nat → Int32) => ((wd09_34 a0 jaX jaF jaD ja7 jby jbf jaM jaY jap jaK jal jam jax jao ja5 jaV jbJ jae jag jaf jaN jaC jbw jaw jaI jbG jbg jbB jan jbD jbu jar jaL jah jaB jaa jaz jaG jab jaT a0_s jaq jai jaO jaA jiO jiS jiY jaj jas jaJ jak jad jay jac jaT cyI jb0 a0_s cyI u.1 ja5 cyI jbv jbu cyI u.2.1 jbB cyI u.2.2.1 jbG cyI jcu jbg cyI jbR jbJ cyI jcx jiO cyI u.2.2.2.1 jiY cyI u.2.2.2.2.1 jiS cyI u.2.2.2.2.2) : va_W))) A) args s 0 0 A) (F0 m 327 ls []) := by
  obtain ⟨hx, hb, hr, hts, hown, hlocks, hml, hA, hK, hNw⟩ := id C0
  intro H locs ls f0_s jbZ jca jjl jjp jjq l1 l2 l3 hP hD hS hl hw
  obtain ⟨x68, ex68⟩ : ∃ y : Int32, y = l3 + (-1) := ⟨_, rfl⟩
  have hw := hw x68 ex68
  refine lv_iinc (v := x68) (lv' := [(3, .int x68), (0, .ref a0), (1, .int l1), (2, .int l2)]) hx hb (dt_of tkX11_findSeats_k314 9 rfl) hl (k := 3) rfl (by rw [ex68]; rfl) (by decide) rfl (fun ls hl => ?_)
  refine lv_goto (tgt := 265) hx hb (dt_of tkX11_findSeats_k314 10 rfl) (by decide) ?_
  exact hK265 _ _ _ f0_s jbZ jca jjl jjp jjq l1 l2 x68 hP hD hS (lv_sub hl [1, 2, 3, 0] rfl) hw
set_option maxHeartbeats 4000000 in
set_option maxRecDepth 100000 in
theorem kb_X11_findSeats_354 {p : Program} {l : Launch} {e : Env} {s : State} {m : MethodId} {args : Array Value} {below : List Frame} {meth : Method} {c : Code} {A : Nat → Prop} (dC : Nat → ClassId) (dI : Nat → Nat → Nat) (cyB cyI cyJ cyP : ClassId) (a0 jaT a0_s jiY ja5 jbu jbB jbG jbg jbJ jiO jiS : Nat) (jaX jaF jaD ja7 jby jbf jaM jaY jap jaK jal jam jax jao jaV jae jag jaf jaw jaI jan jar jaL jah jaB jaa jaz jaG jab jaq jai jaO jaA jaj jas jaJ jak jad jay jac : Value) (jaN jaC jbw jbD : Int32) (jb0 jbv jcu jbR jcx : Nat → Int32) (Q : (Nat → Int32) → (Nat → Int32) → (Nat → Int32) → (Nat → Int32) → (Nat → Int32) → (Nat → Int32) → Prop) (K243 : (Nat → Int32) → (Nat → Int32) → (Nat → Int32) → (Nat → Int32) → (Nat → Int32) → (Nat → Int32) → Int32 → Int32 → Prop) (hK243 : ∀ (H : Heap) (locs : List Loc) (ls : Array Slot) (f0_s jbZ jca jjl jjp jjq : Nat → Int32) (l1 l2 : Int32), va_P (dC, dI) vwCl (wd09_34 a0 jaX jaF jaD ja7 jby jbf jaM jaY jap jaK jal jam jax jao ja5 jaV jbJ jae jag jaf jaN jaC jbw jaw jaI jbG jbg jbB jan jbD jbu jar jaL jah jaB jaa jaz jaG jab jaT a0_s jaq jai jaO jaA jiO jiS jiY jaj jas jaJ jak jad jay jac jaT cyI jb0 a0_s cyI f0_s ja5 cyI jbv jbu cyI jbZ jbB cyI jca jbG cyI jcu jbg cyI jbR jbJ cyI jcx jiO cyI jjl jiY cyI jjp jiS cyI jjq) H → va_D A (wd09_34 a0 jaX jaF jaD ja7 jby jbf jaM jaY jap jaK jal jam jax jao ja5 jaV jbJ jae jag jaf jaN jaC jbw jaw jaI jbG jbg jbB jan jbD jbu jar jaL jah jaB jaa jaz jaG jab jaT a0_s jaq jai jaO jaA jiO jiS jiY jaj jas jaJ jak jad jay jac jaT cyI jb0 a0_s cyI f0_s ja5 cyI jbv jbu cyI jbZ jbB cyI jca jbG cyI jcu jbg cyI jbR jbJ cyI jcx jiO cyI jjl jiY cyI jjp jiS cyI jjq) → va_S A s.heap H locs → lv_has ls 6 [(0, .ref a0), (1, .int l1), (2, .int l2)] → K243 f0_s jbZ jca jjl jjp jjq l1 l2 → W p l e (headSpec wsX11_findSeats ({ frames := 7, cells := 0, slots := 0, locals := 160 })).room s m args below meth c H locs 0 0 (MQ below (va_Qv (fun (u : (Nat → Int32) × (Nat → Int32) × (Nat → Int32) × (Nat → Int32) × (Nat → Int32) × (Nat → Int32)) => Q u.1 u.2.1 u.2.2.1 u.2.2.2.1 u.2.2.2.2.1 u.2.2.2.2.2) (cB (dC, dI) (kT cyB cyI cyJ cyP) A (fun u : (Nat → Int32) × (Nat → Int32) × (Nat → Int32) × (Nat → Int32) × (Nat → Int32) × (Nat → Int32) => ((wd09_34 a0 jaX jaF jaD ja7 jby jbf jaM jaY jap jaK jal jam jax jao ja5 jaV jbJ jae jag jaf jaN jaC jbw jaw jaI jbG jbg jbB jan jbD jbu jar jaL jah jaB jaa jaz jaG jab jaT a0_s jaq jai jaO jaA jiO jiS jiY jaj jas jaJ jak jad jay jac jaT cyI jb0 a0_s cyI u.1 ja5 cyI jbv jbu cyI u.2.1 jbB cyI u.2.2.1 jbG cyI jcu jbg cyI jbR jbJ cyI jcx jiO cyI u.2.2.2.1 jiY cyI u.2.2.2.2.1 jiS cyI u.2.2.2.2.2) : va_W))) A) args s 0 0 A) (F0 m 243 ls [])) (C0 : cfx p s m args meth c cX11_findSeats none wsX11_findSeats RX11 6 A (dC, dI) (kT cyB cyI cyJ cyP)) : ∀ (H : Heap) (locs : List Loc) (ls : Array Slot) (f0_s jbZ jca jjl jjp jjq : Nat → Int32) (l1 l2 : Int32), va_P (dC, dI) vwCl (wd09_34 a0 jaX jaF jaD ja7 jby jbf jaM jaY jap jaK jal jam jax jao ja5 jaV jbJ jae jag jaf jaN jaC jbw jaw jaI jbG jbg jbB jan jbD jbu jar jaL jah jaB jaa jaz jaG jab jaT a0_s jaq jai jaO jaA jiO jiS jiY jaj jas jaJ jak jad jay jac jaT cyI jb0 a0_s cyI f0_s ja5 cyI jbv jbu cyI jbZ jbB cyI jca jbG cyI jcu jbg cyI jbR jbJ cyI jcx jiO cyI jjl jiY cyI jjp jiS cyI jjq) H → va_D A (wd09_34 a0 jaX jaF jaD ja7 jby jbf jaM jaY jap jaK jal jam jax jao ja5 jaV jbJ jae jag jaf jaN jaC jbw jaw jaI jbG jbg jbB jan jbD jbu jar jaL jah jaB jaa jaz jaG jab jaT a0_s jaq jai jaO jaA jiO jiS jiY jaj jas jaJ jak jad jay jac jaT cyI jb0 a0_s cyI f0_s ja5 cyI jbv jbu cyI jbZ jbB cyI jca jbG cyI jcu jbg cyI jbR jbJ cyI jcx jiO cyI jjl jiY cyI jjp jiS cyI jjq) → va_S A s.heap H locs → lv_has ls 6 [(0, .ref a0), (1, .int l1), (2, .int l2)] → wb_X11_findSeats_354 jaN jaC jbw jbD jb0 jbv jcu jbR jcx Q K243 f0_s jbZ jca jjl jjp jjq l1 l2 → W p l e (headSpec wsX11_findSeats ({ frames := 7, cells := 0, slots := 0, locals := 160 })).room s m args below meth c H locs 0 0 (MQ below (va_Qv (fun (u : (Nat → Int32) × (Nat → Int32) × (Nat → Int32) × (Nat → Int32) × (Nat → Int32) × (Nat → Int32)) => Q u.1 u.2.1 u.2.2.1 u.2.2.2.1 u.2.2.2.2.1 u.2.2.2.2.2) (cB (dC, dI) (kT cyB cyI cyJ cyP) A (fun u : (Nat → Int32) × (Nat → Int32) × (Nat → Int32) × (Nat → Int32) × (Nat → Int32) × (Nat → Int32) => ((wd09_34 a0 jaX jaF jaD ja7 jby jbf jaM jaY jap jaK jal jam jax jao ja5 jaV jbJ jae jag jaf jaN jaC jbw jaw jaI jbG jbg jbB jan jbD jbu jar jaL jah jaB jaa jaz jaG jab jaT a0_s jaq jai jaO jaA jiO jiS jiY jaj jas jaJ jak jad jay jac jaT cyI jb0 a0_s cyI u.1 ja5 cyI jbv jbu cyI u.2.1 jbB cyI u.2.2.1 jbG cyI jcu jbg cyI jbR jbJ cyI jcx jiO cyI u.2.2.2.1 jiY cyI u.2.2.2.2.1 jiS cyI u.2.2.2.2.2) : va_W))) A) args s 0 0 A) (F0 m 354 ls []) := by
  obtain ⟨hx, hb, hr, hts, hown, hlocks, hml, hA, hK, hNw⟩ := id C0
  intro H locs ls f0_s jbZ jca jjl jjp jjq l1 l2 hP hD hS hl hw
  obtain ⟨x67, ex67⟩ : ∃ y : Int32, y = l2 + 1 := ⟨_, rfl⟩
  have hw := hw x67 ex67
  refine lv_iinc (v := x67) (lv' := [(2, .int x67), (0, .ref a0), (1, .int l1)]) hx hb (dt_of tkX11_findSeats_k345 7 rfl) hl (k := 2) rfl (by rw [ex67]; rfl) (by decide) rfl (fun ls hl => ?_)
  refine lv_goto (tgt := 243) hx hb (dt_of tkX11_findSeats_k345 8 rfl) (by decide) ?_
  exact hK243 _ _ _ f0_s jbZ jca jjl jjp jjq l1 x67 hP hD hS (lv_sub hl [1, 2, 0] rfl) hw
set_option maxHeartbeats 4000000 in
set_option maxRecDepth 100000 in
theorem kl_X11_findSeats_265 {p : Program} {l : Launch} {e : Env} {s : State} {m : MethodId} {args : Array Value} {below : List Frame} {meth : Method} {c : Code} {A : Nat → Prop} (dC : Nat → ClassId) (dI : Nat → Nat → Nat) (cyB cyI cyJ cyP : ClassId) (a0 jaT a0_s jiY ja5 jbu jbB jbG jbg jbJ jiO jiS : Nat) (jaX jaF jaD ja7 jby jbf jaM jaY jap jaK jal jam jax jao jaV jae jag jaf jaw jaI jan jar jaL jah jaB jaa jaz jaG jab jaq jai jaO jaA jaj jas jaJ jak jad jay jac : Value) (jaN jaC jbw jbD : Int32) (jb0 jbv jcu jbR jcx : Nat → Int32) (Q : (Nat → Int32) → (Nat → Int32) → (Nat → Int32) → (Nat → Int32) → (Nat → Int32) → (Nat → Int32) → Prop) (K243 : (Nat → Int32) → (Nat → Int32) → (Nat → Int32) → (Nat → Int32) → (Nat → Int32) → (Nat → Int32) → Int32 → Int32 → Prop) (hK243 : ∀ (H : Heap) (locs : List Loc) (ls : Array Slot) (f0_s jbZ jca jjl jjp jjq : Nat → Int32) (l1 l2 : Int32), va_P (dC, dI) vwCl (wd09_34 a0 jaX jaF jaD ja7 jby jbf jaM jaY jap jaK jal jam jax jao ja5 jaV jbJ jae jag jaf jaN jaC jbw jaw jaI jbG jbg jbB jan jbD jbu jar jaL jah jaB jaa jaz jaG jab jaT a0_s jaq jai jaO jaA jiO jiS jiY jaj jas jaJ jak jad jay jac jaT cyI jb0 a0_s cyI f0_s ja5 cyI jbv jbu cyI jbZ jbB cyI jca jbG cyI jcu jbg cyI jbR jbJ cyI jcx jiO cyI jjl jiY cyI jjp jiS cyI jjq) H → va_D A (wd09_34 a0 jaX jaF jaD ja7 jby jbf jaM jaY jap jaK jal jam jax jao ja5 jaV jbJ jae jag jaf jaN jaC jbw jaw jaI jbG jbg jbB jan jbD jbu jar jaL jah jaB jaa jaz jaG jab jaT a0_s jaq jai jaO jaA jiO jiS jiY jaj jas jaJ jak jad jay jac jaT cyI jb0 a0_s cyI f0_s ja5 cyI jbv jbu cyI jbZ jbB cyI jca jbG cyI jcu jbg cyI jbR jbJ cyI jcx jiO cyI jjl jiY cyI jjp jiS cyI jjq) → va_S A s.heap H locs → lv_has ls 6 [(0, .ref a0), (1, .int l1), (2, .int l2)] → K243 f0_s jbZ jca jjl jjp jjq l1 l2 → W p l e (headSpec wsX11_findSeats ({ frames := 7, cells := 0, slots := 0, locals := 160 })).room s m args below meth c H locs 0 0 (MQ below (va_Qv (fun (u : (Nat → Int32) × (Nat → Int32) × (Nat → Int32) × (Nat → Int32) × (Nat → Int32) × (Nat → Int32)) => Q u.1 u.2.1 u.2.2.1 u.2.2.2.1 u.2.2.2.2.1 u.2.2.2.2.2) (cB (dC, dI) (kT cyB cyI cyJ cyP) A (fun u : (Nat → Int32) × (Nat → Int32) × (Nat → Int32) × (Nat → Int32) × (Nat → Int32) × (Nat → Int32) => ((wd09_34 a0 jaX jaF jaD ja7 jby jbf jaM jaY jap jaK jal jam jax jao ja5 jaV jbJ jae jag jaf jaN jaC jbw jaw jaI jbG jbg jbB jan jbD jbu jar jaL jah jaB jaa jaz jaG jab jaT a0_s jaq jai jaO jaA jiO jiS jiY jaj jas jaJ jak jad jay jac jaT cyI jb0 a0_s cyI u.1 ja5 cyI jbv jbu cyI u.2.1 jbB cyI u.2.2.1 jbG cyI jcu jbg cyI jbR jbJ cyI jcx jiO cyI u.2.2.2.1 jiY cyI u.2.2.2.2.1 jiS cyI u.2.2.2.2.2) : va_W))) A) args s 0 0 A) (F0 m 243 ls [])) (C0 : cfx p s m args meth c cX11_findSeats none wsX11_findSeats RX11 6 A (dC, dI) (kT cyB cyI cyJ cyP)) : ∀ (n : Nat) (H : Heap) (locs : List Loc) (ls : Array Slot) (f0_s jbZ jca jjl jjp jjq : Nat → Int32) (l1 l2 l3 : Int32), va_P (dC, dI) vwCl (wd09_34 a0 jaX jaF jaD ja7 jby jbf jaM jaY jap jaK jal jam jax jao ja5 jaV jbJ jae jag jaf jaN jaC jbw jaw jaI jbG jbg jbB jan jbD jbu jar jaL jah jaB jaa jaz jaG jab jaT a0_s jaq jai jaO jaA jiO jiS jiY jaj jas jaJ jak jad jay jac jaT cyI jb0 a0_s cyI f0_s ja5 cyI jbv jbu cyI jbZ jbB cyI jca jbG cyI jcu jbg cyI jbR jbJ cyI jcx jiO cyI jjl jiY cyI jjp jiS cyI jjq) H → va_D A (wd09_34 a0 jaX jaF jaD ja7 jby jbf jaM jaY jap jaK jal jam jax jao ja5 jaV jbJ jae jag jaf jaN jaC jbw jaw jaI jbG jbg jbB jan jbD jbu jar jaL jah jaB jaa jaz jaG jab jaT a0_s jaq jai jaO jaA jiO jiS jiY jaj jas jaJ jak jad jay jac jaT cyI jb0 a0_s cyI f0_s ja5 cyI jbv jbu cyI jbZ jbB cyI jca jbG cyI jcu jbg cyI jbR jbJ cyI jcx jiO cyI jjl jiY cyI jjp jiS cyI jjq) → va_S A s.heap H locs → lv_has ls 6 [(0, .ref a0), (1, .int l1), (2, .int l2), (3, .int l3)] → wl_X11_findSeats_265 jaN jaC jbw jbD jb0 jbv jcu jbR jcx Q K243 n f0_s jbZ jca jjl jjp jjq l1 l2 l3 → W p l e (headSpec wsX11_findSeats ({ frames := 7, cells := 0, slots := 0, locals := 160 })).room s m args below meth c H locs 0 0 (MQ below (va_Qv (fun (u : (Nat → Int32) × (Nat → Int32) × (Nat → Int32) × (Nat → Int32) × (Nat → Int32) × (Nat → Int32)) => Q u.1 u.2.1 u.2.2.1 u.2.2.2.1 u.2.2.2.2.1 u.2.2.2.2.2) (cB (dC, dI) (kT cyB cyI cyJ cyP) A (fun u : (Nat → Int32) × (Nat → Int32) × (Nat → Int32) × (Nat → Int32) × (Nat → Int32) × (Nat → Int32) => ((wd09_34 a0 jaX jaF jaD ja7 jby jbf jaM jaY jap jaK jal jam jax jao ja5 jaV jbJ jae jag jaf jaN jaC jbw jaw jaI jbG jbg jbB jan jbD jbu jar jaL jah jaB jaa jaz jaG jab jaT a0_s jaq jai jaO jaA jiO jiS jiY jaj jas jaJ jak jad jay jac jaT cyI jb0 a0_s cyI u.1 ja5 cyI jbv jbu cyI u.2.1 jbB cyI u.2.2.1 jbG cyI jcu jbg cyI jbR jbJ cyI jcx jiO cyI u.2.2.2.1 jiY cyI u.2.2.2.2.1 jiS cyI u.2.2.2.2.2) : va_W))) A) args s 0 0 A) (F0 m 265 ls []) := by
  obtain ⟨hx, hb, hr, hts, hown, hlocks, hml, hA, hK, hNw⟩ := id C0
  intro n
  induction n with
  | zero => intro H locs ls f0_s jbZ jca jjl jjp jjq l1 l2 l3 hP hD hS hl hw; exact False.elim hw
  | succ n ih =>
    intro H locs ls f0_s jbZ jca jjl jjp jjq l1 l2 l3 hP hD hS hl hw
    refine lv_iload_n hx hb (dt_of tkX11_findSeats_k248 11 rfl) rfl (lv_at hl 3 rfl) ?_
    refine lv_if_lt (tgt := 333) hx hb (dt_of tkX11_findSeats_k248 12 rfl) (by decide) (fun c29 => ?_) (fun c29 => ?_)
    · have hw := hw.1 c29
      refine lv_aload_n hx hb (dt_of tkX11_findSeats_k314 11 rfl) rfl (lv_at hl 0 rfl) ?_
      refine va_get (D := (dC, dI)) (ci := 11) (v := .ref jiS) (C := RX11) (T := TX11) (N := 55) hx hb hts ui_X11_findSeats_X11 hown hK hP 0 rfl rfl 46 (by decide) (hts _ uw_X11_findSeats_f86) (fun _ h9 => h9) rfl (dt_of tkX11_findSeats_k314 12 rfl) ?_
      refine lv_iload_n hx hb (dt_of tkX11_findSeats_k314 13 rfl) rfl (lv_at hl 2 rfl) ?_
      obtain ⟨hi9, hw⟩ := hw
      refine va_iald hx hb hK hP 11 1 rfl rfl hi9 (dt_of tkX11_findSeats_k314 14 rfl) ?_
      refine lv_topi (fun x30 ex30 => ?_)
      have hw := hw x30 ex30
      refine lv_iconst (v := (-1)) hx hb (dt_of tkX11_findSeats_k314 15 rfl) (by decide) ?_
      refine lv_icmp_eq (tgt := 354) hx hb (dt_of tkX11_findSeats_k340 0 rfl) (by decide) (fun c31 => ?_) (fun c31 => ?_)
      · have hw := hw.1 c31
        exact kb_X11_findSeats_354 dC dI cyB cyI cyJ cyP a0 jaT a0_s jiY ja5 jbu jbB jbG jbg jbJ jiO jiS jaX jaF jaD ja7 jby jbf jaM jaY jap jaK jal jam jax jao jaV jae jag jaf jaw jaI jan jar jaL jah jaB jaa jaz jaG jab jaq jai jaO jaA jaj jas jaJ jak jad jay jac jaN jaC jbw jbD jb0 jbv jcu jbR jcx Q K243 hK243 C0 _ _ _ f0_s jbZ jca jjl jjp jjq l1 l2 hP hD hS (lv_sub hl [0, 1, 2] rfl) hw
      · have hw := hw.2 c31
        refine lv_iload_n hx hb (dt_of tkX11_findSeats_k340 1 rfl) rfl (lv_at hl 1 rfl) ?_
        refine lv_iconst (v := 1) hx hb (dt_of tkX11_findSeats_k340 2 rfl) (by decide) ?_
        refine lv_aload_n hx hb (dt_of tkX11_findSeats_k345 0 rfl) rfl (lv_at hl 0 rfl) ?_
        refine va_get (D := (dC, dI)) (ci := 11) (v := .ref jiS) (C := RX11) (T := TX11) (N := 55) hx hb hts ui_X11_findSeats_X11 hown hK hP 0 rfl rfl 46 (by decide) (hts _ uw_X11_findSeats_f86) (fun _ h9 => h9) rfl (dt_of tkX11_findSeats_k345 1 rfl) ?_
        refine lv_iload_n hx hb (dt_of tkX11_findSeats_k345 2 rfl) rfl (lv_at hl 2 rfl) ?_
        obtain ⟨hi9, hw⟩ := hw
        refine va_iald hx hb hK hP 11 1 rfl rfl hi9 (dt_of tkX11_findSeats_k345 3 rfl) ?_
        refine lv_topi (fun x32 ex32 => ?_)
        have hw := hw x32 ex32
        refine lv_ishl hx hb (dt_of tkX11_findSeats_k345 4 rfl) ?_
        refine lv_ior hx hb (dt_of tkX11_findSeats_k345 5 rfl) ?_
        refine lv_topi (fun x33 ex33 => ?_)
        have hw := hw x33 ex33
        refine lv_istore_n (lv' := [(1, .int x33), (0, .ref a0), (2, .int l2), (3, .int l3)]) hx hb (dt_of tkX11_findSeats_k345 6 rfl) rfl hl (by decide) rfl (fun ls hl => ?_)
        exact kb_X11_findSeats_354 dC dI cyB cyI cyJ cyP a0 jaT a0_s jiY ja5 jbu jbB jbG jbg jbJ jiO jiS jaX jaF jaD ja7 jby jbf jaM jaY jap jaK jal jam jax jao jaV jae jag jaf jaw jaI jan jar jaL jah jaB jaa jaz jaG jab jaq jai jaO jaA jaj jas jaJ jak jad jay jac jaN jaC jbw jbD jb0 jbv jcu jbR jcx Q K243 hK243 C0 _ _ _ f0_s jbZ jca jjl jjp jjq x33 l2 hP hD hS (lv_sub hl [1, 0, 2] rfl) hw
    · have hw := hw.2 c29
      refine lv_aload_n hx hb (dt_of tkX11_findSeats_k248 13 rfl) rfl (lv_at hl 0 rfl) ?_
      refine va_get (D := (dC, dI)) (ci := 11) (v := .ref jiY) (C := RX11) (T := TX11) (N := 55) hx hb hts ui_X11_findSeats_X11 hown hK hP 0 rfl rfl 47 (by decide) (hts _ uw_X11_findSeats_f89) (fun _ h9 => h9) rfl (dt_of tkX11_findSeats_k248 14 rfl) ?_
      refine lv_iload_n hx hb (dt_of tkX11_findSeats_k248 15 rfl) rfl (lv_at hl 2 rfl) ?_
      obtain ⟨hi9, hw⟩ := hw
      refine va_iald hx hb hK hP 10 1 rfl rfl hi9 (dt_of tkX11_findSeats_k274 0 rfl) ?_
      refine lv_topi (fun x34 ex34 => ?_)
      have hw := hw x34 ex34
      refine lv_iload_n hx hb (dt_of tkX11_findSeats_k274 1 rfl) rfl (lv_at hl 1 rfl) ?_
      refine lv_iconst (v := (-1)) hx hb (dt_of tkX11_findSeats_k274 2 rfl) (by decide) ?_
      refine lv_ixor hx hb (dt_of tkX11_findSeats_k274 3 rfl) ?_
      refine lv_iand hx hb (dt_of tkX11_findSeats_k274 4 rfl) ?_
      refine lv_iload_n hx hb (dt_of tkX11_findSeats_k274 5 rfl) rfl (lv_at hl 3 rfl) ?_
      refine lv_ishr hx hb (dt_of tkX11_findSeats_k274 6 rfl) ?_
      refine lv_iconst (v := 1) hx hb (dt_of tkX11_findSeats_k274 7 rfl) (by decide) ?_
      refine lv_iand hx hb (dt_of tkX11_findSeats_k274 8 rfl) ?_
      refine lv_topi (fun x35 ex35 => ?_)
      have hw := hw x35 ex35
      refine lv_iconst (v := 1) hx hb (dt_of tkX11_findSeats_k274 9 rfl) (by decide) ?_
      refine lv_icmp_ne (tgt := 327) hx hb (dt_of tkX11_findSeats_k274 10 rfl) (by decide) (fun c36 => ?_) (fun c36 => ?_)
      · have hw := hw.1 c36
        exact kb_X11_findSeats_327 dC dI cyB cyI cyJ cyP a0 jaT a0_s jiY ja5 jbu jbB jbG jbg jbJ jiO jiS jaX jaF jaD ja7 jby jbf jaM jaY jap jaK jal jam jax jao jaV jae jag jaf jaw jaI jan jar jaL jah jaB jaa jaz jaG jab jaq jai jaO jaA jaj jas jaJ jak jad jay jac jaN jaC jbw jbD jb0 jbv jcu jbR jcx Q K243 (wl_X11_findSeats_265 jaN jaC jbw jbD jb0 jbv jcu jbR jcx Q K243 n) hK243 ih C0 _ _ _ f0_s jbZ jca jjl jjp jjq l1 l2 l3 hP hD hS (lv_sub hl [0, 1, 2, 3] rfl) hw
      · have hw := hw.2 c36
        refine lv_iconst (v := 1) hx hb (dt_of tkX11_findSeats_k274 11 rfl) (by decide) ?_
        refine lv_aload_n hx hb (dt_of tkX11_findSeats_k274 12 rfl) rfl (lv_at hl 0 rfl) ?_
        refine va_get (D := (dC, dI)) (ci := 11) (v := .ref jiO) (C := RX11) (T := TX11) (N := 55) hx hb hts ui_X11_findSeats_X11 hown hK hP 0 rfl rfl 45 (by decide) (hts _ uw_X11_findSeats_f83) (fun _ h9 => h9) rfl (dt_of tkX11_findSeats_k274 13 rfl) ?_
        refine lv_iload_n hx hb (dt_of tkX11_findSeats_k274 14 rfl) rfl (lv_at hl 2 rfl) ?_
        refine lv_iconst (v := 1) hx hb (dt_of tkX11_findSeats_k274 15 rfl) (by decide) ?_
        refine lv_iadd hx hb (dt_of tkX11_findSeats_k294 0 rfl) ?_
        refine lv_topi (fun x37 ex37 => ?_)
        have hw := hw x37 ex37
        refine lv_bipush (v := 8) hx hb (dt_of tkX11_findSeats_k294 1 rfl) (by decide) ?_
        refine lv_ishl hx hb (dt_of tkX11_findSeats_k294 2 rfl) ?_
        refine lv_topi (fun x38 ex38 => ?_)
        have hw := hw x38 ex38
        refine lv_iload_n hx hb (dt_of tkX11_findSeats_k294 3 rfl) rfl (lv_at hl 1 rfl) ?_
        refine lv_ior hx hb (dt_of tkX11_findSeats_k294 4 rfl) ?_
        refine lv_topi (fun x39 ex39 => ?_)
        have hw := hw x39 ex39
        refine lv_iconst (v := 1) hx hb (dt_of tkX11_findSeats_k294 5 rfl) (by decide) ?_
        refine lv_iload_n hx hb (dt_of tkX11_findSeats_k294 6 rfl) rfl (lv_at hl 3 rfl) ?_
        refine lv_ishl hx hb (dt_of tkX11_findSeats_k294 7 rfl) ?_
        refine lv_ior hx hb (dt_of tkX11_findSeats_k294 8 rfl) ?_
        refine lv_topi (fun x40 ex40 => ?_)
        have hw := hw x40 ex40
        obtain ⟨hi9, hw⟩ := hw
        refine va_iald hx hb hK hP 9 1 rfl rfl hi9 (dt_of tkX11_findSeats_k294 9 rfl) ?_
        refine lv_topi (fun x41 ex41 => ?_)
        have hw := hw x41 ex41
        refine lv_iadd hx hb (dt_of tkX11_findSeats_k294 10 rfl) ?_
        refine lv_aload_n hx hb (dt_of tkX11_findSeats_k294 11 rfl) rfl (lv_at hl 0 rfl) ?_
        refine va_get (D := (dC, dI)) (ci := 11) (v := .ref jiO) (C := RX11) (T := TX11) (N := 55) hx hb hts ui_X11_findSeats_X11 hown hK hP 0 rfl rfl 45 (by decide) (hts _ uw_X11_findSeats_f83) (fun _ h9 => h9) rfl (dt_of tkX11_findSeats_k294 12 rfl) ?_
        refine lv_iload_n hx hb (dt_of tkX11_findSeats_k294 13 rfl) rfl (lv_at hl 2 rfl) ?_
        refine lv_bipush (v := 8) hx hb (dt_of tkX11_findSeats_k294 14 rfl) (by decide) ?_
        refine lv_ishl hx hb (dt_of tkX11_findSeats_k294 15 rfl) ?_
        refine lv_topi (fun x42 ex42 => ?_)
        have hw := hw x42 ex42
        refine lv_iload_n hx hb (dt_of tkX11_findSeats_k314 0 rfl) rfl (lv_at hl 1 rfl) ?_
        refine lv_ior hx hb (dt_of tkX11_findSeats_k314 1 rfl) ?_
        refine lv_topi (fun x43 ex43 => ?_)
        have hw := hw x43 ex43
        obtain ⟨hi9, hw⟩ := hw
        refine va_iald hx hb hK hP 9 1 rfl rfl hi9 (dt_of tkX11_findSeats_k314 2 rfl) ?_
        refine lv_topi (fun x44 ex44 => ?_)
        have hw := hw x44 ex44
        refine lv_icmp_ne (tgt := 327) hx hb (dt_of tkX11_findSeats_k314 3 rfl) (by decide) (fun c45 => ?_) (fun c45 => ?_)
        · have hw := hw.1 c45
          exact kb_X11_findSeats_327 dC dI cyB cyI cyJ cyP a0 jaT a0_s jiY ja5 jbu jbB jbG jbg jbJ jiO jiS jaX jaF jaD ja7 jby jbf jaM jaY jap jaK jal jam jax jao jaV jae jag jaf jaw jaI jan jar jaL jah jaB jaa jaz jaG jab jaq jai jaO jaA jaj jas jaJ jak jad jay jac jaN jaC jbw jbD jb0 jbv jcu jbR jcx Q K243 (wl_X11_findSeats_265 jaN jaC jbw jbD jb0 jbv jcu jbR jcx Q K243 n) hK243 ih C0 _ _ _ f0_s jbZ jca jjl jjp jjq l1 l2 l3 hP hD hS (lv_sub hl [0, 1, 2, 3] rfl) hw
        · have hw := hw.2 c45
          refine lv_aload_n hx hb (dt_of tkX11_findSeats_k314 4 rfl) rfl (lv_at hl 0 rfl) ?_
          refine va_get (D := (dC, dI)) (ci := 11) (v := .ref jiS) (C := RX11) (T := TX11) (N := 55) hx hb hts ui_X11_findSeats_X11 hown hK hP 0 rfl rfl 46 (by decide) (hts _ uw_X11_findSeats_f86) (fun _ h9 => h9) rfl (dt_of tkX11_findSeats_k314 5 rfl) ?_
          refine lv_iload_n hx hb (dt_of tkX11_findSeats_k314 6 rfl) rfl (lv_at hl 2 rfl) ?_
          refine lv_iload_n hx hb (dt_of tkX11_findSeats_k314 7 rfl) rfl (lv_at hl 3 rfl) ?_
          obtain ⟨hi9, hw⟩ := hw
          refine va_iast hx hb hK hP hD hS 11 1 rfl rfl hi9 (dt_of tkX11_findSeats_k314 8 rfl) (fun H locs hP hD hS => ?_)
          obtain ⟨f46, ef46⟩ : ∃ y : Nat → Int32, y = upd jjq l2.toNatClampNeg l3 := ⟨_, rfl⟩
          have hw := hw f46 ef46
          have hP : va_P (dC, dI) vwCl (wd09_34 a0 jaX jaF jaD ja7 jby jbf jaM jaY jap jaK jal jam jax jao ja5 jaV jbJ jae jag jaf jaN jaC jbw jaw jaI jbG jbg jbB jan jbD jbu jar jaL jah jaB jaa jaz jaG jab jaT a0_s jaq jai jaO jaA jiO jiS jiY jaj jas jaJ jak jad jay jac jaT cyI jb0 a0_s cyI f0_s ja5 cyI jbv jbu cyI jbZ jbB cyI jca jbG cyI jcu jbg cyI jbR jbJ cyI jcx jiO cyI jjl jiY cyI jjp jiS cyI f46) H := by rw [ef46]; exact hP
          have hD : va_D A (wd09_34 a0 jaX jaF jaD ja7 jby jbf jaM jaY jap jaK jal jam jax jao ja5 jaV jbJ jae jag jaf jaN jaC jbw jaw jaI jbG jbg jbB jan jbD jbu jar jaL jah jaB jaa jaz jaG jab jaT a0_s jaq jai jaO jaA jiO jiS jiY jaj jas jaJ jak jad jay jac jaT cyI jb0 a0_s cyI f0_s ja5 cyI jbv jbu cyI jbZ jbB cyI jca jbG cyI jcu jbg cyI jbR jbJ cyI jcx jiO cyI jjl jiY cyI jjp jiS cyI f46) := by rw [ef46]; exact hD
          exact kb_X11_findSeats_327 dC dI cyB cyI cyJ cyP a0 jaT a0_s jiY ja5 jbu jbB jbG jbg jbJ jiO jiS jaX jaF jaD ja7 jby jbf jaM jaY jap jaK jal jam jax jao jaV jae jag jaf jaw jaI jan jar jaL jah jaB jaa jaz jaG jab jaq jai jaO jaA jaj jas jaJ jak jad jay jac jaN jaC jbw jbD jb0 jbv jcu jbR jcx Q K243 (wl_X11_findSeats_265 jaN jaC jbw jbD jb0 jbv jcu jbR jcx Q K243 n) hK243 ih C0 _ _ _ f0_s jbZ jca jjl jjp f46 l1 l2 l3 hP hD hS (lv_sub hl [0, 1, 2, 3] rfl) hw
set_option maxHeartbeats 4000000 in
set_option maxRecDepth 100000 in
theorem kl_X11_findSeats_243 {p : Program} {l : Launch} {e : Env} {s : State} {m : MethodId} {args : Array Value} {below : List Frame} {meth : Method} {c : Code} {A : Nat → Prop} (dC : Nat → ClassId) (dI : Nat → Nat → Nat) (cyB cyI cyJ cyP : ClassId) (a0 jaT a0_s jiY ja5 jbu jbB jbG jbg jbJ jiO jiS : Nat) (jaX jaF jaD ja7 jby jbf jaM jaY jap jaK jal jam jax jao jaV jae jag jaf jaw jaI jan jar jaL jah jaB jaa jaz jaG jab jaq jai jaO jaA jaj jas jaJ jak jad jay jac : Value) (jaN jaC jbw jbD : Int32) (jb0 jbv jcu jbR jcx : Nat → Int32) (Q : (Nat → Int32) → (Nat → Int32) → (Nat → Int32) → (Nat → Int32) → (Nat → Int32) → (Nat → Int32) → Prop)  (C0 : cfx p s m args meth c cX11_findSeats none wsX11_findSeats RX11 6 A (dC, dI) (kT cyB cyI cyJ cyP)) : ∀ (n : Nat) (H : Heap) (locs : List Loc) (ls : Array Slot) (f0_s jbZ jca jjl jjp jjq : Nat → Int32) (l1 l2 : Int32), va_P (dC, dI) vwCl (wd09_34 a0 jaX jaF jaD ja7 jby jbf jaM jaY jap jaK jal jam jax jao ja5 jaV jbJ jae jag jaf jaN jaC jbw jaw jaI jbG jbg jbB jan jbD jbu jar jaL jah jaB jaa jaz jaG jab jaT a0_s jaq jai jaO jaA jiO jiS jiY jaj jas jaJ jak jad jay jac jaT cyI jb0 a0_s cyI f0_s ja5 cyI jbv jbu cyI jbZ jbB cyI jca jbG cyI jcu jbg cyI jbR jbJ cyI jcx jiO cyI jjl jiY cyI jjp jiS cyI jjq) H → va_D A (wd09_34 a0 jaX jaF jaD ja7 jby jbf jaM jaY jap jaK jal jam jax jao ja5 jaV jbJ jae jag jaf jaN jaC jbw jaw jaI jbG jbg jbB jan jbD jbu jar jaL jah jaB jaa jaz jaG jab jaT a0_s jaq jai jaO jaA jiO jiS jiY jaj jas jaJ jak jad jay jac jaT cyI jb0 a0_s cyI f0_s ja5 cyI jbv jbu cyI jbZ jbB cyI jca jbG cyI jcu jbg cyI jbR jbJ cyI jcx jiO cyI jjl jiY cyI jjp jiS cyI jjq) → va_S A s.heap H locs → lv_has ls 6 [(0, .ref a0), (1, .int l1), (2, .int l2)] → wl_X11_findSeats_243 jaN jaC jbw jbD jb0 jbv jcu jbR jcx Q  n f0_s jbZ jca jjl jjp jjq l1 l2 → W p l e (headSpec wsX11_findSeats ({ frames := 7, cells := 0, slots := 0, locals := 160 })).room s m args below meth c H locs 0 0 (MQ below (va_Qv (fun (u : (Nat → Int32) × (Nat → Int32) × (Nat → Int32) × (Nat → Int32) × (Nat → Int32) × (Nat → Int32)) => Q u.1 u.2.1 u.2.2.1 u.2.2.2.1 u.2.2.2.2.1 u.2.2.2.2.2) (cB (dC, dI) (kT cyB cyI cyJ cyP) A (fun u : (Nat → Int32) × (Nat → Int32) × (Nat → Int32) × (Nat → Int32) × (Nat → Int32) × (Nat → Int32) => ((wd09_34 a0 jaX jaF jaD ja7 jby jbf jaM jaY jap jaK jal jam jax jao ja5 jaV jbJ jae jag jaf jaN jaC jbw jaw jaI jbG jbg jbB jan jbD jbu jar jaL jah jaB jaa jaz jaG jab jaT a0_s jaq jai jaO jaA jiO jiS jiY jaj jas jaJ jak jad jay jac jaT cyI jb0 a0_s cyI u.1 ja5 cyI jbv jbu cyI u.2.1 jbB cyI u.2.2.1 jbG cyI jcu jbg cyI jbR jbJ cyI jcx jiO cyI u.2.2.2.1 jiY cyI u.2.2.2.2.1 jiS cyI u.2.2.2.2.2) : va_W))) A) args s 0 0 A) (F0 m 243 ls []) := by
  obtain ⟨hx, hb, hr, hts, hown, hlocks, hml, hA, hK, hNw⟩ := id C0
  intro n
  induction n with
  | zero => intro H locs ls f0_s jbZ jca jjl jjp jjq l1 l2 hP hD hS hl hw; exact False.elim hw
  | succ n ih =>
    intro H locs ls f0_s jbZ jca jjl jjp jjq l1 l2 hP hD hS hl hw
    refine lv_iload_n hx hb (dt_of tkX11_findSeats_k222 13 rfl) rfl (lv_at hl 2 rfl) ?_
    refine lv_aload_n hx hb (dt_of tkX11_findSeats_k222 14 rfl) rfl (lv_at hl 0 rfl) ?_
    refine va_get (D := (dC, dI)) (ci := 11) (v := .int jaC) (C := RX11) (T := TX11) (N := 55) hx hb hts ui_X11_findSeats_X11 hown hK hP 0 rfl rfl 21 (by decide) (hts _ uw_X11_findSeats_f169) (fun _ h9 => h9) rfl (dt_of tkX11_findSeats_k222 15 rfl) ?_
    refine lv_icmp_ge (tgt := 360) hx hb (dt_of tkX11_findSeats_k248 0 rfl) (by decide) (fun c20 => ?_) (fun c20 => ?_)
    · have hw := hw.1 c20
      exact ((W.vret hx hb hr (fun t ht hW => ⟨⟨(f0_s, jbZ, jca, jjl, jjp, jjq), rfl, hw, by rw [ht]; exact hP, va_K.moved hW.alike hK, hD⟩, hS.F ht⟩) hS.2.2 (dt_of tkX11_findSeats_k345 9 rfl)))
    · have hw := hw.2 c20
      refine lv_aload_n hx hb (dt_of tkX11_findSeats_k248 1 rfl) rfl (lv_at hl 0 rfl) ?_
      refine va_get (D := (dC, dI)) (ci := 11) (v := .ref jiS) (C := RX11) (T := TX11) (N := 55) hx hb hts ui_X11_findSeats_X11 hown hK hP 0 rfl rfl 46 (by decide) (hts _ uw_X11_findSeats_f86) (fun _ h9 => h9) rfl (dt_of tkX11_findSeats_k248 2 rfl) ?_
      refine lv_iload_n hx hb (dt_of tkX11_findSeats_k248 3 rfl) rfl (lv_at hl 2 rfl) ?_
      refine lv_iconst (v := (-1)) hx hb (dt_of tkX11_findSeats_k248 4 rfl) (by decide) ?_
      obtain ⟨hi9, hw⟩ := hw
      refine va_iast hx hb hK hP hD hS 11 1 rfl rfl hi9 (dt_of tkX11_findSeats_k248 5 rfl) (fun H locs hP hD hS => ?_)
      obtain ⟨f21, ef21⟩ : ∃ y : Nat → Int32, y = upd jjq l2.toNatClampNeg (-1) := ⟨_, rfl⟩
      have hw := hw f21 ef21
      have hP : va_P (dC, dI) vwCl (wd09_34 a0 jaX jaF jaD ja7 jby jbf jaM jaY jap jaK jal jam jax jao ja5 jaV jbJ jae jag jaf jaN jaC jbw jaw jaI jbG jbg jbB jan jbD jbu jar jaL jah jaB jaa jaz jaG jab jaT a0_s jaq jai jaO jaA jiO jiS jiY jaj jas jaJ jak jad jay jac jaT cyI jb0 a0_s cyI f0_s ja5 cyI jbv jbu cyI jbZ jbB cyI jca jbG cyI jcu jbg cyI jbR jbJ cyI jcx jiO cyI jjl jiY cyI jjp jiS cyI f21) H := by rw [ef21]; exact hP
      have hD : va_D A (wd09_34 a0 jaX jaF jaD ja7 jby jbf jaM jaY jap jaK jal jam jax jao ja5 jaV jbJ jae jag jaf jaN jaC jbw jaw jaI jbG jbg jbB jan jbD jbu jar jaL jah jaB jaa jaz jaG jab jaT a0_s jaq jai jaO jaA jiO jiS jiY jaj jas jaJ jak jad jay jac jaT cyI jb0 a0_s cyI f0_s ja5 cyI jbv jbu cyI jbZ jbB cyI jca jbG cyI jcu jbg cyI jbR jbJ cyI jcx jiO cyI jjl jiY cyI jjp jiS cyI f21) := by rw [ef21]; exact hD
      refine lv_aload_n hx hb (dt_of tkX11_findSeats_k248 6 rfl) rfl (lv_at hl 0 rfl) ?_
      refine va_get (D := (dC, dI)) (ci := 11) (v := .int jaN) (C := RX11) (T := TX11) (N := 55) hx hb hts ui_X11_findSeats_X11 hown hK hP 0 rfl rfl 20 (by decide) (hts _ uw_X11_findSeats_f166) (fun _ h9 => h9) rfl (dt_of tkX11_findSeats_k248 7 rfl) ?_
      refine lv_iconst (v := 1) hx hb (dt_of tkX11_findSeats_k248 8 rfl) (by decide) ?_
      refine lv_isub hx hb (dt_of tkX11_findSeats_k248 9 rfl) ?_
      refine lv_topi (fun x22 ex22 => ?_)
      have hw := hw x22 ex22
      refine lv_istore_n (lv' := [(3, .int x22), (0, .ref a0), (1, .int l1), (2, .int l2)]) hx hb (dt_of tkX11_findSeats_k248 10 rfl) rfl hl (by decide) rfl (fun ls hl => ?_)
      obtain ⟨n9, hw⟩ := hw
      exact kl_X11_findSeats_265 dC dI cyB cyI cyJ cyP a0 jaT a0_s jiY ja5 jbu jbB jbG jbg jbJ jiO jiS jaX jaF jaD ja7 jby jbf jaM jaY jap jaK jal jam jax jao jaV jae jag jaf jaw jaI jan jar jaL jah jaB jaa jaz jaG jab jaq jai jaO jaA jaj jas jaJ jak jad jay jac jaN jaC jbw jbD jb0 jbv jcu jbR jcx Q (wl_X11_findSeats_243 jaN jaC jbw jbD jb0 jbv jcu jbR jcx Q  n) ih C0 n9 _ _ _ f0_s jbZ jca jjl jjp f21 l1 l2 x22 hP hD hS (lv_sub hl [1, 2, 3, 0] rfl) hw
set_option maxHeartbeats 4000000 in
set_option maxRecDepth 100000 in
theorem kl_X11_findSeats_99 {p : Program} {l : Launch} {e : Env} {s : State} {m : MethodId} {args : Array Value} {below : List Frame} {meth : Method} {c : Code} {A : Nat → Prop} (dC : Nat → ClassId) (dI : Nat → Nat → Nat) (cyB cyI cyJ cyP : ClassId) (a0 jaT a0_s jiY ja5 jbu jbB jbG jbg jbJ jiO jiS : Nat) (jaX jaF jaD ja7 jby jbf jaM jaY jap jaK jal jam jax jao jaV jae jag jaf jaw jaI jan jar jaL jah jaB jaa jaz jaG jab jaq jai jaO jaA jaj jas jaJ jak jad jay jac : Value) (jaN jaC jbw jbD : Int32) (jb0 jbv jcu jbR jcx : Nat → Int32) (Q : (Nat → Int32) → (Nat → Int32) → (Nat → Int32) → (Nat → Int32) → (Nat → Int32) → (Nat → Int32) → Prop)  (C0 : cfx p s m args meth c cX11_findSeats none wsX11_findSeats RX11 6 A (dC, dI) (kT cyB cyI cyJ cyP)) : ∀ (n : Nat) (H : Heap) (locs : List Loc) (ls : Array Slot) (f0_s jbZ jca jjl jjp jjq : Nat → Int32) (l1 : Int32), va_P (dC, dI) vwCl (wd09_34 a0 jaX jaF jaD ja7 jby jbf jaM jaY jap jaK jal jam jax jao ja5 jaV jbJ jae jag jaf jaN jaC jbw jaw jaI jbG jbg jbB jan jbD jbu jar jaL jah jaB jaa jaz jaG jab jaT a0_s jaq jai jaO jaA jiO jiS jiY jaj jas jaJ jak jad jay jac jaT cyI jb0 a0_s cyI f0_s ja5 cyI jbv jbu cyI jbZ jbB cyI jca jbG cyI jcu jbg cyI jbR jbJ cyI jcx jiO cyI jjl jiY cyI jjp jiS cyI jjq) H → va_D A (wd09_34 a0 jaX jaF jaD ja7 jby jbf jaM jaY jap jaK jal jam jax jao ja5 jaV jbJ jae jag jaf jaN jaC jbw jaw jaI jbG jbg jbB jan jbD jbu jar jaL jah jaB jaa jaz jaG jab jaT a0_s jaq jai jaO jaA jiO jiS jiY jaj jas jaJ jak jad jay jac jaT cyI jb0 a0_s cyI f0_s ja5 cyI jbv jbu cyI jbZ jbB cyI jca jbG cyI jcu jbg cyI jbR jbJ cyI jcx jiO cyI jjl jiY cyI jjp jiS cyI jjq) → va_S A s.heap H locs → lv_has ls 6 [(0, .ref a0), (1, .int l1)] → wl_X11_findSeats_99 jaN jaC jbw jbD jb0 jbv jcu jbR jcx Q  n f0_s jbZ jca jjl jjp jjq l1 → W p l e (headSpec wsX11_findSeats ({ frames := 7, cells := 0, slots := 0, locals := 160 })).room s m args below meth c H locs 0 0 (MQ below (va_Qv (fun (u : (Nat → Int32) × (Nat → Int32) × (Nat → Int32) × (Nat → Int32) × (Nat → Int32) × (Nat → Int32)) => Q u.1 u.2.1 u.2.2.1 u.2.2.2.1 u.2.2.2.2.1 u.2.2.2.2.2) (cB (dC, dI) (kT cyB cyI cyJ cyP) A (fun u : (Nat → Int32) × (Nat → Int32) × (Nat → Int32) × (Nat → Int32) × (Nat → Int32) × (Nat → Int32) => ((wd09_34 a0 jaX jaF jaD ja7 jby jbf jaM jaY jap jaK jal jam jax jao ja5 jaV jbJ jae jag jaf jaN jaC jbw jaw jaI jbG jbg jbB jan jbD jbu jar jaL jah jaB jaa jaz jaG jab jaT a0_s jaq jai jaO jaA jiO jiS jiY jaj jas jaJ jak jad jay jac jaT cyI jb0 a0_s cyI u.1 ja5 cyI jbv jbu cyI u.2.1 jbB cyI u.2.2.1 jbG cyI jcu jbg cyI jbR jbJ cyI jcx jiO cyI u.2.2.2.1 jiY cyI u.2.2.2.2.1 jiS cyI u.2.2.2.2.2) : va_W))) A) args s 0 0 A) (F0 m 99 ls []) := by
  obtain ⟨hx, hb, hr, hts, hown, hlocks, hml, hA, hK, hNw⟩ := id C0
  intro n
  induction n with
  | zero => intro H locs ls f0_s jbZ jca jjl jjp jjq l1 hP hD hS hl hw; exact False.elim hw
  | succ n ih =>
    intro H locs ls f0_s jbZ jca jjl jjp jjq l1 hP hD hS hl hw
    refine lv_iload_n hx hb (dt_of tkX11_findSeats_k81 12 rfl) rfl (lv_at hl 1 rfl) ?_
    refine lv_if_lt (tgt := 239) hx hb (dt_of tkX11_findSeats_k81 13 rfl) (by decide) (fun c19 => ?_) (fun c19 => ?_)
    · have hw := hw.1 c19
      refine lv_iconst (v := 0) hx hb (dt_of tkX11_findSeats_k222 9 rfl) (by decide) ?_
      refine lv_istore_n (lv' := [(1, .int 0), (0, .ref a0)]) hx hb (dt_of tkX11_findSeats_k222 10 rfl) rfl hl (by decide) rfl (fun ls hl => ?_)
      refine lv_iconst (v := 0) hx hb (dt_of tkX11_findSeats_k222 11 rfl) (by decide) ?_
      refine lv_istore_n (lv' := [(2, .int 0), (1, .int 0), (0, .ref a0)]) hx hb (dt_of tkX11_findSeats_k222 12 rfl) rfl hl (by decide) rfl (fun ls hl => ?_)
      obtain ⟨n9, hw⟩ := hw
      exact kl_X11_findSeats_243 dC dI cyB cyI cyJ cyP a0 jaT a0_s jiY ja5 jbu jbB jbG jbg jbJ jiO jiS jaX jaF jaD ja7 jby jbf jaM jaY jap jaK jal jam jax jao jaV jae jag jaf jaw jaI jan jar jaL jah jaB jaa jaz jaG jab jaq jai jaO jaA jaj jas jaJ jak jad jay jac jaN jaC jbw jbD jb0 jbv jcu jbR jcx Q  C0 n9 _ _ _ f0_s jbZ jca jjl jjp jjq 0 0 hP hD hS (lv_sub hl [2, 1, 0] rfl) hw
    · have hw := hw.2 c19
      refine lv_iconst (v := 0) hx hb (dt_of tkX11_findSeats_k81 14 rfl) (by decide) ?_
      refine lv_istore_n (lv' := [(2, .int 0), (0, .ref a0), (1, .int l1)]) hx hb (dt_of tkX11_findSeats_k81 15 rfl) rfl hl (by decide) rfl (fun ls hl => ?_)
      obtain ⟨n9, hw⟩ := hw
      exact kl_X11_findSeats_105 dC dI cyB cyI cyJ cyP a0 jaT a0_s jiY ja5 jbu jbB jbG jbg jbJ jiO jiS jaX jaF jaD ja7 jby jbf jaM jaY jap jaK jal jam jax jao jaV jae jag jaf jaw jaI jan jar jaL jah jaB jaa jaz jaG jab jaq jai jaO jaA jaj jas jaJ jak jad jay jac jaN jaC jbw jbD jb0 jbv jcu jbR jcx Q (wl_X11_findSeats_99 jaN jaC jbw jbD jb0 jbv jcu jbR jcx Q  n) ih C0 n9 _ _ _ f0_s jbZ jca jjl jjp jjq l1 0 hP hD hS (lv_sub hl [1, 2, 0] rfl) hw
set_option maxHeartbeats 4000000 in
set_option maxRecDepth 100000 in
theorem kl_X11_findSeats_61 {p : Program} {l : Launch} {e : Env} {s : State} {m : MethodId} {args : Array Value} {below : List Frame} {meth : Method} {c : Code} {A : Nat → Prop} (dC : Nat → ClassId) (dI : Nat → Nat → Nat) (cyB cyI cyJ cyP : ClassId) (a0 jaT a0_s jiY ja5 jbu jbB jbG jbg jbJ jiO jiS : Nat) (jaX jaF jaD ja7 jby jbf jaM jaY jap jaK jal jam jax jao jaV jae jag jaf jaw jaI jan jar jaL jah jaB jaa jaz jaG jab jaq jai jaO jaA jaj jas jaJ jak jad jay jac : Value) (jaN jaC jbw jbD : Int32) (jb0 jbv jcu jbR jcx : Nat → Int32) (Q : (Nat → Int32) → (Nat → Int32) → (Nat → Int32) → (Nat → Int32) → (Nat → Int32) → (Nat → Int32) → Prop)  (C0 : cfx p s m args meth c cX11_findSeats none wsX11_findSeats RX11 6 A (dC, dI) (kT cyB cyI cyJ cyP)) : ∀ (n : Nat) (H : Heap) (locs : List Loc) (ls : Array Slot) (f0_s jbZ jca jjl jjp jjq : Nat → Int32) (l1 : Int32), va_P (dC, dI) vwCl (wd09_34 a0 jaX jaF jaD ja7 jby jbf jaM jaY jap jaK jal jam jax jao ja5 jaV jbJ jae jag jaf jaN jaC jbw jaw jaI jbG jbg jbB jan jbD jbu jar jaL jah jaB jaa jaz jaG jab jaT a0_s jaq jai jaO jaA jiO jiS jiY jaj jas jaJ jak jad jay jac jaT cyI jb0 a0_s cyI f0_s ja5 cyI jbv jbu cyI jbZ jbB cyI jca jbG cyI jcu jbg cyI jbR jbJ cyI jcx jiO cyI jjl jiY cyI jjp jiS cyI jjq) H → va_D A (wd09_34 a0 jaX jaF jaD ja7 jby jbf jaM jaY jap jaK jal jam jax jao ja5 jaV jbJ jae jag jaf jaN jaC jbw jaw jaI jbG jbg jbB jan jbD jbu jar jaL jah jaB jaa jaz jaG jab jaT a0_s jaq jai jaO jaA jiO jiS jiY jaj jas jaJ jak jad jay jac jaT cyI jb0 a0_s cyI f0_s ja5 cyI jbv jbu cyI jbZ jbB cyI jca jbG cyI jcu jbg cyI jbR jbJ cyI jcx jiO cyI jjl jiY cyI jjp jiS cyI jjq) → va_S A s.heap H locs → lv_has ls 6 [(0, .ref a0), (1, .int l1)] → wl_X11_findSeats_61 jaN jaC jbw jbD jb0 jbv jcu jbR jcx Q  n f0_s jbZ jca jjl jjp jjq l1 → W p l e (headSpec wsX11_findSeats ({ frames := 7, cells := 0, slots := 0, locals := 160 })).room s m args below meth c H locs 0 0 (MQ below (va_Qv (fun (u : (Nat → Int32) × (Nat → Int32) × (Nat → Int32) × (Nat → Int32) × (Nat → Int32) × (Nat → Int32)) => Q u.1 u.2.1 u.2.2.1 u.2.2.2.1 u.2.2.2.2.1 u.2.2.2.2.2) (cB (dC, dI) (kT cyB cyI cyJ cyP) A (fun u : (Nat → Int32) × (Nat → Int32) × (Nat → Int32) × (Nat → Int32) × (Nat → Int32) × (Nat → Int32) => ((wd09_34 a0 jaX jaF jaD ja7 jby jbf jaM jaY jap jaK jal jam jax jao ja5 jaV jbJ jae jag jaf jaN jaC jbw jaw jaI jbG jbg jbB jan jbD jbu jar jaL jah jaB jaa jaz jaG jab jaT a0_s jaq jai jaO jaA jiO jiS jiY jaj jas jaJ jak jad jay jac jaT cyI jb0 a0_s cyI u.1 ja5 cyI jbv jbu cyI u.2.1 jbB cyI u.2.2.1 jbG cyI jcu jbg cyI jbR jbJ cyI jcx jiO cyI u.2.2.2.1 jiY cyI u.2.2.2.2.1 jiS cyI u.2.2.2.2.2) : va_W))) A) args s 0 0 A) (F0 m 61 ls []) := by
  obtain ⟨hx, hb, hr, hts, hown, hlocks, hml, hA, hK, hNw⟩ := id C0
  intro n
  induction n with
  | zero => intro H locs ls f0_s jbZ jca jjl jjp jjq l1 hP hD hS hl hw; exact False.elim hw
  | succ n ih =>
    intro H locs ls f0_s jbZ jca jjl jjp jjq l1 hP hD hS hl hw
    refine lv_iload_n hx hb (dt_of tkX11_findSeats_k52 5 rfl) rfl (lv_at hl 1 rfl) ?_
    refine lv_iconst (v := 1) hx hb (dt_of tkX11_findSeats_k52 6 rfl) (by decide) ?_
    refine lv_aload_n hx hb (dt_of tkX11_findSeats_k52 7 rfl) rfl (lv_at hl 0 rfl) ?_
    refine va_get (D := (dC, dI)) (ci := 11) (v := .int jaN) (C := RX11) (T := TX11) (N := 55) hx hb hts ui_X11_findSeats_X11 hown hK hP 0 rfl rfl 20 (by decide) (hts _ uw_X11_findSeats_f166) (fun _ h9 => h9) rfl (dt_of tkX11_findSeats_k52 8 rfl) ?_
    refine lv_ishl hx hb (dt_of tkX11_findSeats_k52 9 rfl) ?_
    refine lv_icmp_ge (tgt := 92) hx hb (dt_of tkX11_findSeats_k52 10 rfl) (by decide) (fun c11 => ?_) (fun c11 => ?_)
    · have hw := hw.1 c11
      refine lv_aload_n hx hb (dt_of tkX11_findSeats_k81 7 rfl) rfl (lv_at hl 0 rfl) ?_
      refine va_get (D := (dC, dI)) (ci := 11) (v := .int jaC) (C := RX11) (T := TX11) (N := 55) hx hb hts ui_X11_findSeats_X11 hown hK hP 0 rfl rfl 21 (by decide) (hts _ uw_X11_findSeats_f169) (fun _ h9 => h9) rfl (dt_of tkX11_findSeats_k81 8 rfl) ?_
      refine lv_iconst (v := 1) hx hb (dt_of tkX11_findSeats_k81 9 rfl) (by decide) ?_
      refine lv_isub hx hb (dt_of tkX11_findSeats_k81 10 rfl) ?_
      refine lv_topi (fun x12 ex12 => ?_)
      have hw := hw x12 ex12
      refine lv_istore_n (lv' := [(1, .int x12), (0, .ref a0)]) hx hb (dt_of tkX11_findSeats_k81 11 rfl) rfl hl (by decide) rfl (fun ls hl => ?_)
      obtain ⟨n9, hw⟩ := hw
      exact kl_X11_findSeats_99 dC dI cyB cyI cyJ cyP a0 jaT a0_s jiY ja5 jbu jbB jbG jbg jbJ jiO jiS jaX jaF jaD ja7 jby jbf jaM jaY jap jaK jal jam jax jao jaV jae jag jaf jaw jaI jan jar jaL jah jaB jaa jaz jaG jab jaq jai jaO jaA jaj jas jaJ jak jad jay jac jaN jaC jbw jbD jb0 jbv jcu jbR jcx Q  C0 n9 _ _ _ f0_s jbZ jca jjl jjp jjq x12 hP hD hS (lv_sub hl [1, 0] rfl) hw
    · have hw := hw.2 c11
      refine lv_aload_n hx hb (dt_of tkX11_findSeats_k52 11 rfl) rfl (lv_at hl 0 rfl) ?_
      refine va_get (D := (dC, dI)) (ci := 11) (v := .ref jiO) (C := RX11) (T := TX11) (N := 55) hx hb hts ui_X11_findSeats_X11 hown hK hP 0 rfl rfl 45 (by decide) (hts _ uw_X11_findSeats_f83) (fun _ h9 => h9) rfl (dt_of tkX11_findSeats_k52 12 rfl) ?_
      refine lv_aload_n hx hb (dt_of tkX11_findSeats_k52 13 rfl) rfl (lv_at hl 0 rfl) ?_
      refine va_get (D := (dC, dI)) (ci := 11) (v := .int jaC) (C := RX11) (T := TX11) (N := 55) hx hb hts ui_X11_findSeats_X11 hown hK hP 0 rfl rfl 21 (by decide) (hts _ uw_X11_findSeats_f169) (fun _ h9 => h9) rfl (dt_of tkX11_findSeats_k52 14 rfl) ?_
      refine lv_bipush (v := 8) hx hb (dt_of tkX11_findSeats_k52 15 rfl) (by decide) ?_
      refine lv_ishl hx hb (dt_of tkX11_findSeats_k81 0 rfl) ?_
      refine lv_topi (fun x13 ex13 => ?_)
      have hw := hw x13 ex13
      refine lv_iload_n hx hb (dt_of tkX11_findSeats_k81 1 rfl) rfl (lv_at hl 1 rfl) ?_
      refine lv_ior hx hb (dt_of tkX11_findSeats_k81 2 rfl) ?_
      refine lv_topi (fun x14 ex14 => ?_)
      have hw := hw x14 ex14
      refine lv_iconst (v := 0) hx hb (dt_of tkX11_findSeats_k81 3 rfl) (by decide) ?_
      obtain ⟨hi9, hw⟩ := hw
      refine va_iast hx hb hK hP hD hS 9 1 rfl rfl hi9 (dt_of tkX11_findSeats_k81 4 rfl) (fun H locs hP hD hS => ?_)
      obtain ⟨f15, ef15⟩ : ∃ y : Nat → Int32, y = upd jjl x14.toNatClampNeg 0 := ⟨_, rfl⟩
      have hw := hw f15 ef15
      have hP : va_P (dC, dI) vwCl (wd09_34 a0 jaX jaF jaD ja7 jby jbf jaM jaY jap jaK jal jam jax jao ja5 jaV jbJ jae jag jaf jaN jaC jbw jaw jaI jbG jbg jbB jan jbD jbu jar jaL jah jaB jaa jaz jaG jab jaT a0_s jaq jai jaO jaA jiO jiS jiY jaj jas jaJ jak jad jay jac jaT cyI jb0 a0_s cyI f0_s ja5 cyI jbv jbu cyI jbZ jbB cyI jca jbG cyI jcu jbg cyI jbR jbJ cyI jcx jiO cyI f15 jiY cyI jjp jiS cyI jjq) H := by rw [ef15]; exact hP
      have hD : va_D A (wd09_34 a0 jaX jaF jaD ja7 jby jbf jaM jaY jap jaK jal jam jax jao ja5 jaV jbJ jae jag jaf jaN jaC jbw jaw jaI jbG jbg jbB jan jbD jbu jar jaL jah jaB jaa jaz jaG jab jaT a0_s jaq jai jaO jaA jiO jiS jiY jaj jas jaJ jak jad jay jac jaT cyI jb0 a0_s cyI f0_s ja5 cyI jbv jbu cyI jbZ jbB cyI jca jbG cyI jcu jbg cyI jbR jbJ cyI jcx jiO cyI f15 jiY cyI jjp jiS cyI jjq) := by rw [ef15]; exact hD
      obtain ⟨x16, ex16⟩ : ∃ y : Int32, y = l1 + 1 := ⟨_, rfl⟩
      have hw := hw x16 ex16
      refine lv_iinc (v := x16) (lv' := [(1, .int x16), (0, .ref a0)]) hx hb (dt_of tkX11_findSeats_k81 5 rfl) hl (k := 1) rfl (by rw [ex16]; rfl) (by decide) rfl (fun ls hl => ?_)
      refine lv_goto (tgt := 61) hx hb (dt_of tkX11_findSeats_k81 6 rfl) (by decide) ?_
      exact ih _ _ _ f0_s jbZ jca f15 jjp jjq x16 hP hD hS (lv_sub hl [1, 0] rfl) hw
set_option maxHeartbeats 4000000 in
set_option maxRecDepth 100000 in
theorem kl_X11_findSeats_6 {p : Program} {l : Launch} {e : Env} {s : State} {m : MethodId} {args : Array Value} {below : List Frame} {meth : Method} {c : Code} {A : Nat → Prop} (dC : Nat → ClassId) (dI : Nat → Nat → Nat) (cyB cyI cyJ cyP : ClassId) (a0 jaT a0_s jiY ja5 jbu jbB jbG jbg jbJ jiO jiS : Nat) (jaX jaF jaD ja7 jby jbf jaM jaY jap jaK jal jam jax jao jaV jae jag jaf jaw jaI jan jar jaL jah jaB jaa jaz jaG jab jaq jai jaO jaA jaj jas jaJ jak jad jay jac : Value) (jaN jaC jbw jbD : Int32) (jb0 jbv jcu jbR jcx : Nat → Int32) (Q : (Nat → Int32) → (Nat → Int32) → (Nat → Int32) → (Nat → Int32) → (Nat → Int32) → (Nat → Int32) → Prop)  (C0 : cfx p s m args meth c cX11_findSeats none wsX11_findSeats RX11 6 A (dC, dI) (kT cyB cyI cyJ cyP)) : ∀ (n : Nat) (H : Heap) (locs : List Loc) (ls : Array Slot) (f0_s jbZ jca jjl jjp jjq : Nat → Int32) (l1 : Int32), va_P (dC, dI) vwCl (wd09_34 a0 jaX jaF jaD ja7 jby jbf jaM jaY jap jaK jal jam jax jao ja5 jaV jbJ jae jag jaf jaN jaC jbw jaw jaI jbG jbg jbB jan jbD jbu jar jaL jah jaB jaa jaz jaG jab jaT a0_s jaq jai jaO jaA jiO jiS jiY jaj jas jaJ jak jad jay jac jaT cyI jb0 a0_s cyI f0_s ja5 cyI jbv jbu cyI jbZ jbB cyI jca jbG cyI jcu jbg cyI jbR jbJ cyI jcx jiO cyI jjl jiY cyI jjp jiS cyI jjq) H → va_D A (wd09_34 a0 jaX jaF jaD ja7 jby jbf jaM jaY jap jaK jal jam jax jao ja5 jaV jbJ jae jag jaf jaN jaC jbw jaw jaI jbG jbg jbB jan jbD jbu jar jaL jah jaB jaa jaz jaG jab jaT a0_s jaq jai jaO jaA jiO jiS jiY jaj jas jaJ jak jad jay jac jaT cyI jb0 a0_s cyI f0_s ja5 cyI jbv jbu cyI jbZ jbB cyI jca jbG cyI jcu jbg cyI jbR jbJ cyI jcx jiO cyI jjl jiY cyI jjp jiS cyI jjq) → va_S A s.heap H locs → lv_has ls 6 [(0, .ref a0), (1, .int l1)] → wl_X11_findSeats_6 jaN jaC jbw jbD jb0 jbv jcu jbR jcx Q  n f0_s jbZ jca jjl jjp jjq l1 → W p l e (headSpec wsX11_findSeats ({ frames := 7, cells := 0, slots := 0, locals := 160 })).room s m args below meth c H locs 0 0 (MQ below (va_Qv (fun (u : (Nat → Int32) × (Nat → Int32) × (Nat → Int32) × (Nat → Int32) × (Nat → Int32) × (Nat → Int32)) => Q u.1 u.2.1 u.2.2.1 u.2.2.2.1 u.2.2.2.2.1 u.2.2.2.2.2) (cB (dC, dI) (kT cyB cyI cyJ cyP) A (fun u : (Nat → Int32) × (Nat → Int32) × (Nat → Int32) × (Nat → Int32) × (Nat → Int32) × (Nat → Int32) => ((wd09_34 a0 jaX jaF jaD ja7 jby jbf jaM jaY jap jaK jal jam jax jao ja5 jaV jbJ jae jag jaf jaN jaC jbw jaw jaI jbG jbg jbB jan jbD jbu jar jaL jah jaB jaa jaz jaG jab jaT a0_s jaq jai jaO jaA jiO jiS jiY jaj jas jaJ jak jad jay jac jaT cyI jb0 a0_s cyI u.1 ja5 cyI jbv jbu cyI u.2.1 jbB cyI u.2.2.1 jbG cyI jcu jbg cyI jbR jbJ cyI jcx jiO cyI u.2.2.2.1 jiY cyI u.2.2.2.2.1 jiS cyI u.2.2.2.2.2) : va_W))) A) args s 0 0 A) (F0 m 6 ls []) := by
  obtain ⟨hx, hb, hr, hts, hown, hlocks, hml, hA, hK, hNw⟩ := id C0
  intro n
  induction n with
  | zero => intro H locs ls f0_s jbZ jca jjl jjp jjq l1 hP hD hS hl hw; exact False.elim hw
  | succ n ih =>
    intro H locs ls f0_s jbZ jca jjl jjp jjq l1 hP hD hS hl hw
    refine lv_iload_n hx hb (dt_of tkX11_findSeats_k0 4 rfl) rfl (lv_at hl 1 rfl) ?_
    refine lv_aload_n hx hb (dt_of tkX11_findSeats_k0 5 rfl) rfl (lv_at hl 0 rfl) ?_
    refine va_get (D := (dC, dI)) (ci := 11) (v := .int jaC) (C := RX11) (T := TX11) (N := 55) hx hb hts ui_X11_findSeats_X11 hown hK hP 0 rfl rfl 21 (by decide) (hts _ uw_X11_findSeats_f169) (fun _ h9 => h9) rfl (dt_of tkX11_findSeats_k0 6 rfl) ?_
    refine lv_icmp_ge (tgt := 59) hx hb (dt_of tkX11_findSeats_k0 7 rfl) (by decide) (fun c2 => ?_) (fun c2 => ?_)
    · have hw := hw.1 c2
      refine lv_iconst (v := 0) hx hb (dt_of tkX11_findSeats_k52 3 rfl) (by decide) ?_
      refine lv_istore_n (lv' := [(1, .int 0), (0, .ref a0)]) hx hb (dt_of tkX11_findSeats_k52 4 rfl) rfl hl (by decide) rfl (fun ls hl => ?_)
      obtain ⟨n9, hw⟩ := hw
      exact kl_X11_findSeats_61 dC dI cyB cyI cyJ cyP a0 jaT a0_s jiY ja5 jbu jbB jbG jbg jbJ jiO jiS jaX jaF jaD ja7 jby jbf jaM jaY jap jaK jal jam jax jao jaV jae jag jaf jaw jaI jan jar jaL jah jaB jaa jaz jaG jab jaq jai jaO jaA jaj jas jaJ jak jad jay jac jaN jaC jbw jbD jb0 jbv jcu jbR jcx Q  C0 n9 _ _ _ f0_s jbZ jca jjl jjp jjq 0 hP hD hS (lv_sub hl [1, 0] rfl) hw
    · have hw := hw.2 c2
      refine lv_aload_n hx hb (dt_of tkX11_findSeats_k0 8 rfl) rfl (lv_at hl 0 rfl) ?_
      refine va_get (D := (dC, dI)) (ci := 11) (v := .ref jiY) (C := RX11) (T := TX11) (N := 55) hx hb hts ui_X11_findSeats_X11 hown hK hP 0 rfl rfl 47 (by decide) (hts _ uw_X11_findSeats_f89) (fun _ h9 => h9) rfl (dt_of tkX11_findSeats_k0 9 rfl) ?_
      refine lv_iload_n hx hb (dt_of tkX11_findSeats_k0 10 rfl) rfl (lv_at hl 1 rfl) ?_
      refine lv_aload_n hx hb (dt_of tkX11_findSeats_k0 11 rfl) rfl (lv_at hl 0 rfl) ?_
      refine lv_iload_n hx hb (dt_of tkX11_findSeats_k0 12 rfl) rfl (lv_at hl 1 rfl) ?_
      obtain ⟨hCc, hPc, hDc, hFc⟩ := va_pick (ws' := (wd09_35 a0 jaX jaF jaD ja7 jby jbf jaM jaY jap jaK jal jam jax jao ja5 jaV jbJ jae jag jaf jaN jaC jbw jaw jaI jbG jbg jbB jan jbD jbu jar jaL jah jaB jaa jaz jaG jab jaT a0_s jaq jai jaO jaA jiO jiS jiY jaj jas jaJ jak jad jay jac a0_s cyI f0_s)) hP hD hS hA [0, 2] (by decide +kernel) rfl
      refine va_calli (va_runV (As := [.int l1]) (rest := [.int l1, .ref jiY]) ⟨hx, hb, hml, hown, hts⟩ (ck_X11_isCaught l dC dI cyB cyI cyJ cyP a0 a0_s H.size (jaX) (jaF) (jaD) (ja7) (jby) (jbf) (jaM) (jaY) (jap) (jaK) (jal) (jam) (jax) (jao) (.ref ja5) (jaV) (.ref jbJ) (jae) (jag) (jaf) (.int jaN) (.int jaC) (.int jbw) (jaw) (jaI) (.ref jbG) (.ref jbg) (.ref jbB) (jan) (.int jbD) (.ref jbu) (jar) (jaL) (jah) (jaB) (jaa) (jaz) (jaG) (jab) (.ref jaT) (jaq) (jai) (jaO) (jaA) (.ref jiO) (.ref jiS) (.ref jiY) (jaj) (jas) (jaJ) (jak) (jad) (jay) (jac) f0_s  l1 hw) (cwV 1 hts gX11_findSeats_X11_isCaught rfl rfl rfl (by decide +kernel) ⟨Nat.le_of_ble_eq_true rfl, Nat.le_of_ble_eq_true rfl⟩) ⟨cPc_blind, va_recv (q := (RX11, TX11, 55)) hK hPc (ci := 11) (q0 := 0) rfl rfl, cPc_pre hPc hK hDc hNw⟩ rfl rfl hl.1 rfl (lv_room (Nat.le_of_ble_eq_true rfl)) (dt_of tkX11_findSeats_k0 13 rfl) ⟨Nat.le_of_ble_eq_true rfl, Nat.le_of_ble_eq_true rfl⟩) hS (fun q _ h => hFc q h) hFc (fun r3 u t H1 locs ht hvm hw hB hz1 hk1 hS => ?_)
      obtain ⟨hP1, hK1, hD1⟩ := hB
      rw [ht] at hP1
      obtain ⟨hP, hD⟩ := va_joinN (wr := [(jaT, .inl (cyI, 68, .inl jb0)), (ja5, .inl (cyI, 16, .inl jbv)), (jbu, .inl (cyI, 8, .inl jbZ)), (jbB, .inl (cyI, 150, .inl jca)), (jbG, .inl (cyI, 150, .inl jcu)), (jbg, .inl (cyI, 150, .inl jbR)), (jbJ, .inl (cyI, 8, .inl jcx)), (jiO, .inl (cyI, 1792, .inl jjl)), (jiY, .inl (cyI, 6, .inl jjp)), (jiS, .inl (cyI, 6, .inl jjq))]) (w1 := (wd09_35 a0 jaX jaF jaD ja7 jby jbf jaM jaY jap jaK jal jam jax jao ja5 jaV jbJ jae jag jaf jaN jaC jbw jaw jaI jbG jbg jbB jan jbD jbu jar jaL jah jaB jaa jaz jaG jab jaT a0_s jaq jai jaO jaA jiO jiS jiY jaj jas jaJ jak jad jay jac a0_s cyI f0_s)) (wn := (wd09_34 a0 jaX jaF jaD ja7 jby jbf jaM jaY jap jaK jal jam jax jao ja5 jaV jbJ jae jag jaf jaN jaC jbw jaw jaI jbG jbg jbB jan jbD jbu jar jaL jah jaB jaa jaz jaG jab jaT a0_s jaq jai jaO jaA jiO jiS jiY jaj jas jaJ jak jad jay jac jaT cyI jb0 a0_s cyI f0_s ja5 cyI jbv jbu cyI jbZ jbB cyI jca jbG cyI jcu jbg cyI jbR jbJ cyI jcx jiO cyI jjl jiY cyI jjp jiS cyI jjq)) hP hD [0, 2] [1, 3, 4, 5, 6, 7, 8, 9, 10, 11] [10, 0, 11, 1, 2, 3, 4, 5, 6, 7, 8, 9] hCc rfl (by decide +kernel) (by decide +kernel) (by decide +kernel) rfl hk1 hFc hP1 hD1
      generalize H1 = H at hP hS ⊢
      refine lv_if_eq (tgt := 31) hx hb (dt_of tkX11_findSeats_k0 14 rfl) (by decide) (fun c4 => ?_) (fun c4 => ?_)
      · have hw := hw.1 c4
        refine lv_aload_n hx hb (dt_of tkX11_findSeats_k28 1 rfl) rfl (lv_at hl 0 rfl) ?_
        refine lv_iload_n hx hb (dt_of tkX11_findSeats_k28 2 rfl) rfl (lv_at hl 1 rfl) ?_
        obtain ⟨hCc, hPc, hDc, hFc⟩ := va_pick (ws' := (wd09_36 a0 jaX jaF jaD ja7 jby jbf jaM jaY jap jaK jal jam jax jao ja5 jaV jbJ jae jag jaf jaN jaC jbw jaw jaI jbG jbg jbB jan jbD jbu jar jaL jah jaB jaa jaz jaG jab jaT a0_s jaq jai jaO jaA jiO jiS jiY jaj jas jaJ jak jad jay jac a0_s cyI f0_s ja5 cyI jbv jbu cyI jbZ jbB cyI jca jbG cyI jcu jbg cyI jbR)) hP hD hS hA [0, 2, 3, 4, 5, 6, 7] (by decide +kernel) rfl
        refine va_calli (va_runV (As := [.int l1]) (rest := [.int l1, .ref jiY]) ⟨hx, hb, hml, hown, hts⟩ (ck_X11_rangeOf l dC dI cyB cyI cyJ cyP a0 a0_s ja5 jbu jbB jbG jbg H.size (jaX) (jaF) (jaD) (ja7) (jby) (jbf) (jaM) (jaY) (jap) (jaK) (jal) (jam) (jax) (jao) (jaV) (.ref jbJ) (jae) (jag) (jaf) (.int jbw) (jaw) (jaI) (jan) (jar) (jaL) (jah) (jaB) (jaa) (jaz) (jaG) (jab) (.ref jaT) (jaq) (jai) (jaO) (jaA) (.ref jiO) (.ref jiS) (.ref jiY) (jaj) (jas) (jaJ) (jak) (jad) (jay) (jac) jaN jaC jbD f0_s jbv jcu jbR jbZ jca l1 hw) (cwV 1 hts gX11_findSeats_X11_rangeOf rfl rfl rfl (by decide +kernel) ⟨Nat.le_of_ble_eq_true rfl, Nat.le_of_ble_eq_true rfl⟩) ⟨cPc_blind, va_recv (q := (RX11, TX11, 55)) hK hPc (ci := 11) (q0 := 0) rfl rfl, cPc_pre hPc hK hDc hNw⟩ rfl rfl hl.1 rfl (lv_room (Nat.le_of_ble_eq_true rfl)) (dt_of tkX11_findSeats_k28 3 rfl) ⟨Nat.le_of_ble_eq_true rfl, Nat.le_of_ble_eq_true rfl⟩) hS (fun q _ h => hFc q h) hFc (fun r7 u t H1 locs ht hvm hw hB hz1 hk1 hS => ?_)
        obtain ⟨f5, f6⟩ := u
        obtain ⟨hP1, hK1, hD1⟩ := hB
        rw [ht] at hP1
        obtain ⟨hP, hD⟩ := va_joinN (wr := [(jaT, .inl (cyI, 68, .inl jb0)), (jbJ, .inl (cyI, 8, .inl jcx)), (jiO, .inl (cyI, 1792, .inl jjl)), (jiY, .inl (cyI, 6, .inl jjp)), (jiS, .inl (cyI, 6, .inl jjq))]) (w1 := (wd09_36 a0 jaX jaF jaD ja7 jby jbf jaM jaY jap jaK jal jam jax jao ja5 jaV jbJ jae jag jaf jaN jaC jbw jaw jaI jbG jbg jbB jan jbD jbu jar jaL jah jaB jaa jaz jaG jab jaT a0_s jaq jai jaO jaA jiO jiS jiY jaj jas jaJ jak jad jay jac a0_s cyI f0_s ja5 cyI jbv jbu cyI f5 jbB cyI f6 jbG cyI jcu jbg cyI jbR)) (wn := (wd09_34 a0 jaX jaF jaD ja7 jby jbf jaM jaY jap jaK jal jam jax jao ja5 jaV jbJ jae jag jaf jaN jaC jbw jaw jaI jbG jbg jbB jan jbD jbu jar jaL jah jaB jaa jaz jaG jab jaT a0_s jaq jai jaO jaA jiO jiS jiY jaj jas jaJ jak jad jay jac jaT cyI jb0 a0_s cyI f0_s ja5 cyI jbv jbu cyI f5 jbB cyI f6 jbG cyI jcu jbg cyI jbR jbJ cyI jcx jiO cyI jjl jiY cyI jjp jiS cyI jjq)) hP hD [0, 2, 3, 4, 5, 6, 7] [1, 8, 9, 10, 11] [5, 0, 6, 7, 8, 9, 10, 11, 1, 2, 3, 4] hCc rfl (by decide +kernel) (by decide +kernel) (by decide +kernel) rfl hk1 hFc hP1 hD1
        generalize H1 = H at hP hS ⊢
        refine lv_iconst (v := 1) hx hb (dt_of tkX11_findSeats_k28 4 rfl) (by decide) ?_
        refine lv_aload_n hx hb (dt_of tkX11_findSeats_k28 5 rfl) rfl (lv_at hl 0 rfl) ?_
        refine va_get (D := (dC, dI)) (ci := 11) (v := .ref a0_s) (C := RX11) (T := TX11) (N := 55) hx hb hts ui_X11_findSeats_X11 hown hK hP 0 rfl rfl 40 (by decide) (hts _ uw_X11_findSeats_f71) (fun _ h9 => h9) rfl (dt_of tkX11_findSeats_k28 6 rfl) ?_
        refine lv_iconst (v := 0) hx hb (dt_of tkX11_findSeats_k28 7 rfl) (by decide) ?_
        refine lv_iload_n hx hb (dt_of tkX11_findSeats_k28 8 rfl) rfl (lv_at hl 1 rfl) ?_
        refine lv_iadd hx hb (dt_of tkX11_findSeats_k28 9 rfl) ?_
        refine lv_topi (fun x8 ex8 => ?_)
        have hw := hw x8 ex8
        obtain ⟨hi9, hw⟩ := hw
        refine va_iald hx hb hK hP 2 1 rfl rfl hi9 (dt_of tkX11_findSeats_k28 10 rfl) ?_
        refine lv_topi (fun x9 ex9 => ?_)
        have hw := hw x9 ex9
        refine lv_ishl hx hb (dt_of tkX11_findSeats_k28 11 rfl) ?_
        refine lv_ior hx hb (dt_of tkX11_findSeats_k28 12 rfl) ?_
        refine lv_aload_n hx hb (dt_of tkX11_findSeats_k28 13 rfl) rfl (lv_at hl 0 rfl) ?_
        obtain ⟨hCc, hPc, hDc, hFc⟩ := va_pick (ws' := (wd09_37 a0 jaX jaF jaD ja7 jby jbf jaM jaY jap jaK jal jam jax jao ja5 jaV jbJ jae jag jaf jaN jaC jbw jaw jaI jbG jbg jbB jan jbD jbu jar jaL jah jaB jaa jaz jaG jab jaT a0_s jaq jai jaO jaA jiO jiS jiY jaj jas jaJ jak jad jay jac ja5 cyI jbv jbJ cyI jcx)) hP hD hS hA [0, 3, 8] (by decide +kernel) rfl
        refine va_calli (va_runV (As := []) (rest := [.int (r7 ||| (1 <<< (x9 &&& 31))), .int l1, .ref jiY]) ⟨hx, hb, hml, hown, hts⟩ (ck_X11_safeForms l dC dI cyB cyI cyJ cyP a0 ja5 jbJ H.size (jaX) (jaF) (jaD) (ja7) (jby) (jbf) (jaM) (jaY) (jap) (jaK) (jal) (jam) (jax) (jao) (jaV) (jae) (jag) (jaf) (.int jaC) (jaw) (jaI) (.ref jbG) (.ref jbg) (.ref jbB) (jan) (.int jbD) (.ref jbu) (jar) (jaL) (jah) (jaB) (jaa) (jaz) (jaG) (jab) (.ref jaT) (.ref a0_s) (jaq) (jai) (jaO) (jaA) (.ref jiO) (.ref jiS) (.ref jiY) (jaj) (jas) (jaJ) (jak) (jad) (jay) (jac) jaN jbw jbv jcx   hw) (cwV 0 hts gX11_findSeats_X11_safeForms rfl rfl rfl (by decide +kernel) ⟨Nat.le_of_ble_eq_true rfl, Nat.le_of_ble_eq_true rfl⟩) ⟨cPc_blind, va_recv (q := (RX11, TX11, 55)) hK hPc (ci := 11) (q0 := 0) rfl rfl, cPc_pre hPc hK hDc hNw⟩ rfl rfl hl.1 rfl (lv_room (Nat.le_of_ble_eq_true rfl)) (dt_of tkX11_findSeats_k28 14 rfl) ⟨Nat.le_of_ble_eq_true rfl, Nat.le_of_ble_eq_true rfl⟩) hS (fun q _ h => hFc q h) hFc (fun r10 u t H1 locs ht hvm hw hB hz1 hk1 hS => ?_)
        obtain ⟨hP1, hK1, hD1⟩ := hB
        rw [ht] at hP1
        obtain ⟨hP, hD⟩ := va_joinN (wr := [(jaT, .inl (cyI, 68, .inl jb0)), (a0_s, .inl (cyI, 68, .inl f0_s)), (jbu, .inl (cyI, 8, .inl f5)), (jbB, .inl (cyI, 150, .inl f6)), (jbG, .inl (cyI, 150, .inl jcu)), (jbg, .inl (cyI, 150, .inl jbR)), (jiO, .inl (cyI, 1792, .inl jjl)), (jiY, .inl (cyI, 6, .inl jjp)), (jiS, .inl (cyI, 6, .inl jjq))]) (w1 := (wd09_37 a0 jaX jaF jaD ja7 jby jbf jaM jaY jap jaK jal jam jax jao ja5 jaV jbJ jae jag jaf jaN jaC jbw jaw jaI jbG jbg jbB jan jbD jbu jar jaL jah jaB jaa jaz jaG jab jaT a0_s jaq jai jaO jaA jiO jiS jiY jaj jas jaJ jak jad jay jac ja5 cyI jbv jbJ cyI jcx)) (wn := (wd09_34 a0 jaX jaF jaD ja7 jby jbf jaM jaY jap jaK jal jam jax jao ja5 jaV jbJ jae jag jaf jaN jaC jbw jaw jaI jbG jbg jbB jan jbD jbu jar jaL jah jaB jaa jaz jaG jab jaT a0_s jaq jai jaO jaA jiO jiS jiY jaj jas jaJ jak jad jay jac jaT cyI jb0 a0_s cyI f0_s ja5 cyI jbv jbu cyI f5 jbB cyI f6 jbG cyI jcu jbg cyI jbR jbJ cyI jcx jiO cyI jjl jiY cyI jjp jiS cyI jjq)) hP hD [0, 3, 8] [1, 2, 4, 5, 6, 7, 9, 10, 11] [9, 0, 1, 10, 2, 3, 4, 5, 11, 6, 7, 8] hCc rfl (by decide +kernel) (by decide +kernel) (by decide +kernel) rfl hk1 hFc hP1 hD1
        generalize H1 = H at hP hS ⊢
        refine lv_iand hx hb (dt_of tkX11_findSeats_k28 15 rfl) ?_
        exact kb_X11_findSeats_52 dC dI cyB cyI cyJ cyP a0 jaT a0_s jiY ja5 jbu jbB jbG jbg jbJ jiO jiS jaX jaF jaD ja7 jby jbf jaM jaY jap jaK jal jam jax jao jaV jae jag jaf jaw jaI jan jar jaL jah jaB jaa jaz jaG jab jaq jai jaO jaA jaj jas jaJ jak jad jay jac jaN jaC jbw jbD jb0 jbv jcu jbR jcx Q (wl_X11_findSeats_6 jaN jaC jbw jbD jb0 jbv jcu jbR jcx Q  n) ih C0 _ _ _ f0_s f5 f6 jjl jjp jjq l1 l1 ((r7 ||| (1 <<< (x9 &&& 31))) &&& r10) hP hD hS (lv_sub hl [0, 1] rfl) hw
      · have hw := hw.2 c4
        refine lv_iconst (v := 0) hx hb (dt_of tkX11_findSeats_k0 15 rfl) (by decide) ?_
        refine lv_goto (tgt := 52) hx hb (dt_of tkX11_findSeats_k28 0 rfl) (by decide) ?_
        exact kb_X11_findSeats_52 dC dI cyB cyI cyJ cyP a0 jaT a0_s jiY ja5 jbu jbB jbG jbg jbJ jiO jiS jaX jaF jaD ja7 jby jbf jaM jaY jap jaK jal jam jax jao jaV jae jag jaf jaw jaI jan jar jaL jah jaB jaa jaz jaG jab jaq jai jaO jaA jaj jas jaJ jak jad jay jac jaN jaC jbw jbD jb0 jbv jcu jbR jcx Q (wl_X11_findSeats_6 jaN jaC jbw jbD jb0 jbv jcu jbR jcx Q  n) ih C0 _ _ _ f0_s jbZ jca jjl jjp jjq l1 l1 0 hP hD hS (lv_sub hl [0, 1] rfl) hw
set_option maxHeartbeats 4000000 in
set_option maxRecDepth 100000 in
theorem ck_X11_findSeats (l : Launch) (dC : Nat → ClassId) (dI : Nat → Nat → Nat) (cyB cyI cyJ cyP : ClassId) (a0 jaT a0_s jiY ja5 jbu jbB jbG jbg jbJ jiO jiS sz : Nat) (jaX jaF jaD ja7 jby jbf jaM jaY jap jaK jal jam jax jao jaV jae jag jaf jaw jaI jan jar jaL jah jaB jaa jaz jaG jab jaq jai jaO jaA jaj jas jaJ jak jad jay jac : Value) (jaN jaC jbw jbD : Int32) (jb0 jbv jcu jbR jcx f0_s jbZ jca jjl jjp jjq : Nat → Int32)  {Q : (Nat → Int32) → (Nat → Int32) → (Nat → Int32) → (Nat → Int32) → (Nat → Int32) → (Nat → Int32) → Prop} (hw : wq_X11_findSeats jaN jaC jbw jbD jb0 jbv jcu jbR jcx f0_s jbZ jca jjl jjp jjq  Q) : Met l yX11_findSeats wsX11_findSeats ({ frames := 7, cells := 0, slots := 0, locals := 160 }) (va_Pc [.ref a0] (cPc (dC, dI) (kT cyB cyI cyJ cyP) (wd09_34 a0 jaX jaF jaD ja7 jby jbf jaM jaY jap jaK jal jam jax jao ja5 jaV jbJ jae jag jaf jaN jaC jbw jaw jaI jbG jbg jbB jan jbD jbu jar jaL jah jaB jaa jaz jaG jab jaT a0_s jaq jai jaO jaA jiO jiS jiY jaj jas jaJ jak jad jay jac jaT cyI jb0 a0_s cyI f0_s ja5 cyI jbv jbu cyI jbZ jbB cyI jca jbG cyI jcu jbg cyI jbR jbJ cyI jcx jiO cyI jjl jiY cyI jjp jiS cyI jjq) sz)) (va_Qv (fun (u : (Nat → Int32) × (Nat → Int32) × (Nat → Int32) × (Nat → Int32) × (Nat → Int32) × (Nat → Int32)) => Q u.1 u.2.1 u.2.2.1 u.2.2.2.1 u.2.2.2.2.1 u.2.2.2.2.2) (cB (dC, dI) (kT cyB cyI cyJ cyP) (va_A (wd09_34 a0 jaX jaF jaD ja7 jby jbf jaM jaY jap jaK jal jam jax jao ja5 jaV jbJ jae jag jaf jaN jaC jbw jaw jaI jbG jbg jbB jan jbD jbu jar jaL jah jaB jaa jaz jaG jab jaT a0_s jaq jai jaO jaA jiO jiS jiY jaj jas jaJ jak jad jay jac jaT cyI jb0 a0_s cyI f0_s ja5 cyI jbv jbu cyI jbZ jbB cyI jca jbG cyI jcu jbg cyI jbR jbJ cyI jcx jiO cyI jjl jiY cyI jjp jiS cyI jjq) sz) (fun u : (Nat → Int32) × (Nat → Int32) × (Nat → Int32) × (Nat → Int32) × (Nat → Int32) × (Nat → Int32) => ((wd09_34 a0 jaX jaF jaD ja7 jby jbf jaM jaY jap jaK jal jam jax jao ja5 jaV jbJ jae jag jaf jaN jaC jbw jaw jaI jbG jbg jbB jan jbD jbu jar jaL jah jaB jaa jaz jaG jab jaT a0_s jaq jai jaO jaA jiO jiS jiY jaj jas jaJ jak jad jay jac jaT cyI jb0 a0_s cyI u.1 ja5 cyI jbv jbu cyI u.2.1 jbB cyI u.2.2.1 jbG cyI jcu jbg cyI jbR jbJ cyI jcx jiO cyI u.2.2.2.1 jiY cyI u.2.2.2.2.1 jiS cyI u.2.2.2.2.2) : va_W))) (va_A (wd09_34 a0 jaX jaF jaD ja7 jby jbf jaM jaY jap jaK jal jam jax jao ja5 jaV jbJ jae jag jaf jaN jaC jbw jaw jaI jbG jbg jbB jan jbD jbu jar jaL jah jaB jaa jaz jaG jab jaT a0_s jaq jai jaO jaA jiO jiS jiY jaj jas jaJ jak jad jay jac jaT cyI jb0 a0_s cyI f0_s ja5 cyI jbv jbu cyI jbZ jbB cyI jca jbG cyI jcu jbg cyI jbR jbJ cyI jcx jiO cyI jjl jiY cyI jjp jiS cyI jjq) sz)) 0 0 (va_A (wd09_34 a0 jaX jaF jaD ja7 jby jbf jaM jaY jap jaK jal jam jax jao ja5 jaV jbJ jae jag jaf jaN jaC jbw jaw jaI jbG jbg jbB jan jbD jbu jar jaL jah jaB jaa jaz jaG jab jaT a0_s jaq jai jaO jaA jiO jiS jiY jaj jas jaJ jak jad jay jac jaT cyI jb0 a0_s cyI f0_s ja5 cyI jbv jbu cyI jbZ jbB cyI jca jbG cyI jcu jbg cyI jbR jbJ cyI jcx jiO cyI jjl jiY cyI jjp jiS cyI jjq) sz) := by
  refine Met.ofW (cc := cX11_findSeats) (maxL := 6) (ret := none) (by decide) rfl ?_
  intro p e s m args below meth c s₁ B hml hv
  obtain ⟨rfl, hsz, hP, hK, hD0, hNw⟩ := hv
  have hx := B.exec
  have hb := B.bytes
  have hr := B.returns
  have hts := atoms_spec (ws := wsX11_findSeats) B.pre
  have hown : s.vm.findClass RX11 = some m.cls := findClass_of_methodNamed B.named
  have hlocks := B.notSynchronized
  subst hsz
  have hD := hD0.self (sz := s.heap.size)
  generalize hAe : va_A (wd09_34 a0 jaX jaF jaD ja7 jby jbf jaM jaY jap jaK jal jam jax jao ja5 jaV jbJ jae jag jaf jaN jaC jbw jaw jaI jbG jbg jbB jan jbD jbu jar jaL jah jaB jaa jaz jaG jab jaT a0_s jaq jai jaO jaA jiO jiS jiY jaj jas jaJ jak jad jay jac jaT cyI jb0 a0_s cyI f0_s ja5 cyI jbv jbu cyI jbZ jbB cyI jca jbG cyI jcu jbg cyI jbR jbJ cyI jcx jiO cyI jjl jiY cyI jjp jiS cyI jjq) s.heap.size = A at hD ⊢
  have hA : ∀ q : Nat, s.heap.size ≤ q → A q := fun q h => by rw [← hAe]; exact Or.inr h
  have hS : va_S A s.heap s.heap [] := va_S.rf
  have hP : va_P (dC, dI) vwCl (wd09_34 a0 jaX jaF jaD ja7 jby jbf jaM jaY jap jaK jal jam jax jao ja5 jaV jbJ jae jag jaf jaN jaC jbw jaw jaI jbG jbg jbB jan jbD jbu jar jaL jah jaB jaa jaz jaG jab jaT a0_s jaq jai jaO jaA jiO jiS jiY jaj jas jaJ jak jad jay jac jaT cyI jb0 a0_s cyI f0_s ja5 cyI jbv jbu cyI jbZ jbB cyI jca jbG cyI jcu jbg cyI jbR jbJ cyI jcx jiO cyI jjl jiY cyI jjp jiS cyI jjq) s.heap := hP
  have hl := lv_entry ([.ref a0]) (n := 6) (Nat.le_of_ble_eq_true rfl)
  rw [lg_entry_eq]
  generalize (lg_sl ([.ref a0]) ++ List.replicate (6 - (lg_sl ([.ref a0])).length) Slot.unset).toArray = ls at hl ⊢
  have hl : lv_has ls 6 [(0, .ref a0)] := hl
  have C0 : cfx p s m _ meth c cX11_findSeats none wsX11_findSeats RX11 6 A (dC, dI) (kT cyB cyI cyJ cyP) := ⟨hx, hb, hr, hts, hown, hlocks, hml, hA, hK, hNw⟩
  clear hAe
  obtain ⟨H, hH⟩ : ∃ H, H = s.heap := ⟨_, rfl⟩
  rw [← hH] at hP ⊢
  have hS : va_S A s.heap H [] := by rw [hH]; exact va_S.rf
  have hS := hS
  refine lv_aload_n hx hb (dt_of tkX11_findSeats_k0 0 rfl) rfl (lv_at hl 0 rfl) ?_
  obtain ⟨hCc, hPc, hDc, hFc⟩ := va_pick (ws' := (wd09_38 a0 jaX jaF jaD ja7 jby jbf jaM jaY jap jaK jal jam jax jao ja5 jaV jbJ jae jag jaf jaN jaC jbw jaw jaI jbG jbg jbB jan jbD jbu jar jaL jah jaB jaa jaz jaG jab jaT a0_s jaq jai jaO jaA jiO jiS jiY jaj jas jaJ jak jad jay jac jaT cyI jb0 a0_s cyI f0_s)) hP hD hS hA [0, 1, 2] (by decide +kernel) rfl
  refine va_callv (va_runV (As := []) (rest := []) ⟨hx, hb, hml, hown, hts⟩ (ck_X11_take l dC dI cyB cyI cyJ cyP a0 jaT a0_s H.size (jaX) (jaF) (jaD) (ja7) (jby) (jbf) (jaM) (jaY) (jap) (jaK) (jal) (jam) (jax) (jao) (.ref ja5) (jaV) (.ref jbJ) (jae) (jag) (jaf) (.int jaN) (.int jaC) (.int jbw) (jaw) (jaI) (.ref jbG) (.ref jbg) (.ref jbB) (jan) (.int jbD) (.ref jbu) (jar) (jaL) (jah) (jaB) (jaa) (jaz) (jaG) (jab) (jaq) (jai) (jaO) (jaA) (.ref jiO) (.ref jiS) (.ref jiY) (jaj) (jas) (jaJ) (jak) (jad) (jay) (jac) jb0 f0_s  hw) (cwV 0 hts gX11_findSeats_X11_take rfl rfl rfl (by decide +kernel) ⟨Nat.le_of_ble_eq_true rfl, Nat.le_of_ble_eq_true rfl⟩) ⟨cPc_blind, va_recv (q := (RX11, TX11, 55)) hK hPc (ci := 11) (q0 := 0) rfl rfl, cPc_pre hPc hK hDc hNw⟩ rfl rfl hl.1 rfl (lv_room (Nat.le_of_ble_eq_true rfl)) (dt_of tkX11_findSeats_k0 1 rfl) ⟨Nat.le_of_ble_eq_true rfl, Nat.le_of_ble_eq_true rfl⟩) hS (fun q _ h => hFc q h) hFc (fun u t H1 locs ht hvm hw hB hz1 hk1 hS => ?_)
  obtain ⟨f1, rfl⟩ : ∃ z, z = u := ⟨_, rfl⟩
  obtain ⟨hP1, hK1, hD1⟩ := hB
  rw [ht] at hP1
  obtain ⟨hP, hD⟩ := va_joinN (wr := [(ja5, .inl (cyI, 16, .inl jbv)), (jbu, .inl (cyI, 8, .inl jbZ)), (jbB, .inl (cyI, 150, .inl jca)), (jbG, .inl (cyI, 150, .inl jcu)), (jbg, .inl (cyI, 150, .inl jbR)), (jbJ, .inl (cyI, 8, .inl jcx)), (jiO, .inl (cyI, 1792, .inl jjl)), (jiY, .inl (cyI, 6, .inl jjp)), (jiS, .inl (cyI, 6, .inl jjq))]) (w1 := (wd09_38 a0 jaX jaF jaD ja7 jby jbf jaM jaY jap jaK jal jam jax jao ja5 jaV jbJ jae jag jaf jaN jaC jbw jaw jaI jbG jbg jbB jan jbD jbu jar jaL jah jaB jaa jaz jaG jab jaT a0_s jaq jai jaO jaA jiO jiS jiY jaj jas jaJ jak jad jay jac jaT cyI jb0 a0_s cyI f1)) (wn := (wd09_34 a0 jaX jaF jaD ja7 jby jbf jaM jaY jap jaK jal jam jax jao ja5 jaV jbJ jae jag jaf jaN jaC jbw jaw jaI jbG jbg jbB jan jbD jbu jar jaL jah jaB jaa jaz jaG jab jaT a0_s jaq jai jaO jaA jiO jiS jiY jaj jas jaJ jak jad jay jac jaT cyI jb0 a0_s cyI f1 ja5 cyI jbv jbu cyI jbZ jbB cyI jca jbG cyI jcu jbg cyI jbR jbJ cyI jcx jiO cyI jjl jiY cyI jjp jiS cyI jjq)) hP hD [0, 1, 2] [3, 4, 5, 6, 7, 8, 9, 10, 11] [9, 10, 11, 0, 1, 2, 3, 4, 5, 6, 7, 8] hCc rfl (by decide +kernel) (by decide +kernel) (by decide +kernel) rfl hk1 hFc hP1 hD1
  generalize H1 = H at hP hS ⊢
  refine lv_iconst (v := 0) hx hb (dt_of tkX11_findSeats_k0 2 rfl) (by decide) ?_
  refine lv_istore_n (lv' := [(1, .int 0), (0, .ref a0)]) hx hb (dt_of tkX11_findSeats_k0 3 rfl) rfl hl (by decide) rfl (fun ls hl => ?_)
  obtain ⟨n9, hw⟩ := hw
  exact kl_X11_findSeats_6 dC dI cyB cyI cyJ cyP a0 jaT a0_s jiY ja5 jbu jbB jbG jbg jbJ jiO jiS jaX jaF jaD ja7 jby jbf jaM jaY jap jaK jal jam jax jao jaV jae jag jaf jaw jaI jan jar jaL jah jaB jaa jaz jaG jab jaq jai jaO jaA jaj jas jaJ jak jad jay jac jaN jaC jbw jbD jb0 jbv jcu jbR jcx Q  C0 n9 _ _ _ f1 jbZ jca jjl jjp jjq 0 hP hD hS (lv_sub hl [1, 0] rfl) hw
