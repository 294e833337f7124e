/-- worlds by their leaves -/
def qvl (x0 : Nat) (x1 x2 x3 x4 x5 x6 x7 x8 x9 x10 x11 x12 x13 x14 : Value) (x15 x16 x17 : Nat) (x18 x19 x20 x21 : Value) (x22 x23 : Int32) (x24 x25 x26 x27 x28 x29 x30 x31 x32 x33 x34 x35 x36 x37 x38 x39 x40 : Value) (x41 : Nat) (x42 x43 x44 x45 x46 x47 x48 x49 x50 x51 x52 x53 x54 x55 : Value) (x56 : Nat) (x57 : ClassId) (x58 : NI) (x59 : Nat) (x60 : ClassId) (x61 : NI) (x62 : Nat) (x63 : ClassId) (x64 : NI) (x65 : Nat) (x66 : ClassId) (x67 : NI) : va_W := [(x0, .inr (11, [x1, x2, x3, x4, x5, x6, x7, x8, x9, x10, x11, x12, x13, x14, .ref x15, .ref x16, .ref x17, x18, x19, x20, x21, .int x22, .int x23, x24, x25, x26, x27, x28, x29, x30, x31, x32, x33, x34, x35, x36, x37, x38, x39, x40, .ref x41, x42, x43, x44, x45, x46, x47, x48, x49, x50, x51, x52, x53, x54, x55])), (x56, .inl (x57, 68, .inl x58)), (x59, .inl (x60, 16, .inl x61)), (x62, .inl (x63, 8, .inl x64)), (x65, .inl (x66, 12, .inl x67))]
def qbcR (x0 : Nat) (x1 x2 x3 x4 x5 x6 x7 x8 x9 x10 x11 x12 x13 x14 : Value) (x15 x16 x17 : Nat) (x18 x19 x20 x21 : Value) (x22 x23 : Int32) (x24 x25 x26 x27 x28 x29 x30 x31 x32 x33 x34 x35 x36 x37 x38 x39 x40 : Value) (x41 : Nat) (x42 x43 x44 x45 x46 x47 x48 x49 x50 x51 x52 x53 x54 x55 : Value) (x56 : Nat) (x57 : ClassId) (x58 : NI) : va_W := [(x0, .inr (11, [x1, x2, x3, x4, x5, x6, x7, x8, x9, x10, x11, x12, x13, x14, .ref x15, .ref x16, .ref x17, x18, x19, x20, x21, .int x22, .int x23, x24, x25, x26, x27, x28, x29, x30, x31, x32, x33, x34, x35, x36, x37, x38, x39, x40, .ref x41, x42, x43, x44, x45, x46, x47, x48, x49, x50, x51, x52, x53, x54, x55])), (x56, .inl (x57, 68, .inl x58))]
def qIr (x0 : Nat) (x1 x2 x3 x4 x5 x6 x7 x8 x9 x10 x11 x12 x13 x14 x15 x16 x17 x18 x19 x20 x21 : Value) (x22 : Int32) (x23 x24 x25 x26 x27 x28 x29 x30 x31 x32 x33 x34 x35 x36 x37 x38 x39 x40 : Value) (x41 : Nat) (x42 x43 x44 x45 x46 x47 x48 x49 x50 x51 x52 x53 x54 x55 : Value) (x56 : Nat) (x57 : ClassId) (x58 : NI) : va_W := [(x0, .inr (11, [x1, x2, x3, x4, x5, x6, x7, x8, x9, x10, x11, x12, x13, x14, x15, x16, x17, x18, x19, x20, x21, .int x22, x23, x24, x25, x26, x27, x28, x29, x30, x31, x32, x33, x34, x35, x36, x37, x38, x39, x40, .ref x41, x42, x43, x44, x45, x46, x47, x48, x49, x50, x51, x52, x53, x54, x55])), (x56, .inl (x57, 68, .inl x58))]
def q7d (x0 : Nat) (x1 x2 x3 x4 x5 x6 x7 x8 x9 x10 x11 x12 x13 x14 x15 x16 x17 x18 x19 x20 x21 x22 x23 x24 x25 x26 x27 x28 x29 x30 x31 x32 x33 x34 x35 x36 x37 x38 x39 x40 : Value) (x41 : Nat) (x42 x43 x44 x45 x46 x47 x48 x49 x50 x51 x52 x53 x54 x55 : Value) (x56 : Nat) (x57 : ClassId) (x58 : NI) : va_W := [(x0, .inr (11, [x1, x2, x3, x4, x5, x6, x7, x8, x9, x10, x11, x12, x13, x14, x15, x16, x17, x18, x19, x20, x21, x22, x23, x24, x25, x26, x27, x28, x29, x30, x31, x32, x33, x34, x35, x36, x37, x38, x39, x40, .ref x41, x42, x43, x44, x45, x46, x47, x48, x49, x50, x51, x52, x53, x54, x55])), (x56, .inl (x57, 68, .inl x58))]
def qyA (x0 : Nat) (x1 : Int32) (x2 : Nat) (x3 x4 x5 x6 x7 x8 x9 x10 x11 x12 x13 x14 : Value) (x15 x16 x17 : Nat) (x18 x19 x20 x21 : Value) (x22 x23 : Int32) (x24 x25 x26 x27 x28 x29 x30 x31 x32 x33 x34 x35 x36 x37 x38 x39 : Value) (x40 x41 : Nat) (x42 x43 x44 x45 x46 x47 x48 x49 x50 x51 x52 x53 x54 x55 : Value) (x56 : Nat) (x57 : ClassId) (x58 : NI) (x59 : Nat) (x60 : ClassId) (x61 : NI) (x62 : Nat) (x63 : ClassId) (x64 : NI) (x65 : Nat) (x66 : ClassId) (x67 : NI) (x68 : Nat) (x69 : ClassId) (x70 : NI) (x71 : Nat) (x72 : ClassId) (x73 : NI) : va_W := [(x0, .inr (11, [.int x1, .ref x2, x3, x4, x5, x6, x7, x8, x9, x10, x11, x12, x13, x14, .ref x15, .ref x16, .ref x17, x18, x19, x20, x21, .int x22, .int x23, x24, x25, x26, x27, x28, x29, x30, x31, x32, x33, x34, x35, x36, x37, x38, x39, .ref x40, .ref x41, x42, x43, x44, x45, x46, x47, x48, x49, x50, x51, x52, x53, x54, x55])), (x56, .inl (x57, 2, .inl x58)), (x59, .inl (x60, 68, .inl x61)), (x62, .inl (x63, 68, .inl x64)), (x65, .inl (x66, 16, .inl x67)), (x68, .inl (x69, 8, .inl x70)), (x71, .inl (x72, 12, .inl x73))]
def qa0a (x0 : Nat) (x1 : Int32) (x2 : Nat) (x3 x4 x5 x6 x7 x8 x9 x10 x11 x12 x13 x14 : Value) (x15 x16 x17 : Nat) (x18 x19 x20 x21 : Value) (x22 x23 : Int32) (x24 x25 x26 x27 x28 x29 x30 x31 x32 x33 x34 x35 x36 x37 x38 x39 : Value) (x40 x41 : Nat) (x42 x43 x44 x45 x46 x47 x48 x49 x50 x51 x52 x53 x54 x55 : Value) (x56 : Nat) (x57 : ClassId) (x58 : NI) : va_W := [(x0, .inr (11, [.int x1, .ref x2, x3, x4, x5, x6, x7, x8, x9, x10, x11, x12, x13, x14, .ref x15, .ref x16, .ref x17, x18, x19, x20, x21, .int x22, .int x23, x24, x25, x26, x27, x28, x29, x30, x31, x32, x33, x34, x35, x36, x37, x38, x39, .ref x40, .ref x41, x42, x43, x44, x45, x46, x47, x48, x49, x50, x51, x52, x53, x54, x55])), (x56, .inl (x57, 68, .inl x58))]
def qbcy (x0 : Nat) (x1 : ClassId) (x2 : NI) (x3 : Nat) (x4 : ClassId) (x5 : NI) (x6 : Nat) (x7 : ClassId) (x8 : NI) (x9 : Nat) (x10 : ClassId) (x11 : NI) (x12 : Nat) (x13 : ClassId) (x14 : NI) : va_W := [(x0, .inl (x1, 2, .inl x2)), (x3, .inl (x4, 68, .inl x5)), (x6, .inl (x7, 16, .inl x8)), (x9, .inl (x10, 8, .inl x11)), (x12, .inl (x13, 12, .inl x14))]
def qbc1 (x0 : Nat) (x1 : Int32) (x2 : Nat) (x3 x4 x5 x6 x7 x8 x9 x10 x11 x12 x13 x14 : Value) (x15 x16 x17 : Nat) (x18 x19 x20 x21 : Value) (x22 x23 : Int32) (x24 x25 x26 x27 x28 x29 x30 x31 x32 x33 x34 x35 x36 x37 x38 x39 : Value) (x40 x41 : Nat) (x42 x43 x44 x45 x46 x47 x48 x49 x50 x51 x52 x53 x54 x55 : Value) (x56 : Nat) (x57 : ClassId) (x58 : NI) (x59 : Nat) (x60 : ClassId) (x61 : NI) (x62 : Nat) (x63 : ClassId) (x64 : NI) (x65 : Nat) (x66 : ClassId) (x67 : NI) : va_W := [(x0, .inr (11, [.int x1, .ref x2, x3, x4, x5, x6, x7, x8, x9, x10, x11, x12, x13, x14, .ref x15, .ref x16, .ref x17, x18, x19, x20, x21, .int x22, .int x23, x24, x25, x26, x27, x28, x29, x30, x31, x32, x33, x34, x35, x36, x37, x38, x39, .ref x40, .ref x41, x42, x43, x44, x45, x46, x47, x48, x49, x50, x51, x52, x53, x54, x55])), (x56, .inl (x57, 68, .inl x58)), (x59, .inl (x60, 16, .inl x61)), (x62, .inl (x63, 8, .inl x64)), (x65, .inl (x66, 12, .inl x67))]
def qbdf (x0 : Nat) (x1 : Int32) (x2 : Nat) (x3 x4 x5 x6 x7 x8 x9 x10 x11 x12 x13 x14 : Value) (x15 x16 x17 : Nat) (x18 x19 x20 x21 : Value) (x22 x23 : Int32) (x24 x25 x26 x27 x28 x29 x30 x31 x32 x33 x34 x35 x36 x37 x38 x39 : Value) (x40 x41 : Nat) (x42 x43 x44 x45 x46 x47 x48 x49 x50 x51 x52 x53 x54 x55 : Value) (x56 : Nat) (x57 : ClassId) (x58 : NI) : va_W := [(x0, .inr (11, [.int x1, .ref x2, x3, x4, x5, x6, x7, x8, x9, x10, x11, x12, x13, x14, .ref x15, .ref x16, .ref x17, x18, x19, x20, x21, .int x22, .int x23, x24, x25, x26, x27, x28, x29, x30, x31, x32, x33, x34, x35, x36, x37, x38, x39, .ref x40, .ref x41, x42, x43, x44, x45, x46, x47, x48, x49, x50, x51, x52, x53, x54, x55])), (x56, .inl (x57, 2, .inl x58))]
def qbdX (x0 : Nat) (x1 : Int32) (x2 : Nat) (x3 x4 x5 x6 x7 x8 x9 x10 x11 x12 x13 x14 : Value) (x15 x16 x17 : Nat) (x18 x19 x20 x21 : Value) (x22 x23 : Int32) (x24 x25 x26 x27 x28 x29 x30 x31 x32 x33 x34 x35 x36 x37 x38 x39 : Value) (x40 x41 : Nat) (x42 x43 x44 x45 x46 x47 x48 x49 x50 x51 x52 x53 x54 x55 : Value) (x56 : Nat) (x57 : ClassId) (x58 : NI) (x59 : Nat) (x60 : ClassId) (x61 : NI) : va_W := [(x0, .inr (11, [.int x1, .ref x2, x3, x4, x5, x6, x7, x8, x9, x10, x11, x12, x13, x14, .ref x15, .ref x16, .ref x17, x18, x19, x20, x21, .int x22, .int x23, x24, x25, x26, x27, x28, x29, x30, x31, x32, x33, x34, x35, x36, x37, x38, x39, .ref x40, .ref x41, x42, x43, x44, x45, x46, x47, x48, x49, x50, x51, x52, x53, x54, x55])), (x56, .inl (x57, 68, .inl x58)), (x59, .inl (x60, 68, .inl x61))]
def qy9 (x0 : Nat) (x1 x2 : Value) (x3 x4 x5 x6 : Int32) (x7 : Value) (x8 x9 : Int32) (x10 x11 x12 x13 x14 x15 x16 x17 x18 x19 x20 x21 x22 x23 x24 x25 x26 x27 x28 x29 x30 x31 x32 x33 x34 x35 x36 x37 x38 x39 x40 x41 x42 x43 x44 x45 x46 x47 x48 x49 x50 x51 x52 x53 x54 x55 : Value) : va_W := [(x0, .inr (11, [x1, x2, .int x3, .int x4, .int x5, .int x6, x7, .int x8, .int x9, x10, x11, x12, x13, x14, x15, x16, x17, x18, x19, x20, x21, x22, x23, x24, x25, x26, x27, x28, x29, x30, x31, x32, x33, x34, x35, x36, x37, x38, x39, x40, x41, x42, x43, x44, x45, x46, x47, x48, x49, x50, x51, x52, x53, x54, x55]))]
def qq2 (x0 : Nat) (x1 x2 x3 x4 x5 x6 x7 x8 x9 x10 x11 x12 x13 x14 : Value) (x15 : Nat) (x16 : Value) (x17 : Nat) (x18 x19 x20 x21 : Value) (x22 x23 : Int32) (x24 x25 x26 x27 x28 x29 x30 x31 x32 x33 x34 x35 x36 x37 x38 x39 x40 : Value) (x41 : Nat) (x42 x43 x44 x45 x46 x47 x48 x49 x50 x51 x52 x53 x54 x55 : Value) (x56 : Nat) (x57 : ClassId) (x58 : NI) (x59 : Nat) (x60 : ClassId) (x61 : NI) (x62 : Nat) (x63 : ClassId) (x64 : NI) : va_W := [(x0, .inr (11, [x1, x2, x3, x4, x5, x6, x7, x8, x9, x10, x11, x12, x13, x14, .ref x15, x16, .ref x17, x18, x19, x20, x21, .int x22, .int x23, x24, x25, x26, x27, x28, x29, x30, x31, x32, x33, x34, x35, x36, x37, x38, x39, x40, .ref x41, x42, x43, x44, x45, x46, x47, x48, x49, x50, x51, x52, x53, x54, x55])), (x56, .inl (x57, 68, .inl x58)), (x59, .inl (x60, 16, .inl x61)), (x62, .inl (x63, 8, .inl x64))]
def q8B (x0 : Nat) (x1 x2 x3 x4 x5 : Value) (x6 : Int32) (x7 x8 x9 x10 x11 x12 x13 x14 x15 x16 x17 x18 x19 x20 x21 x22 x23 x24 x25 x26 x27 x28 x29 x30 x31 x32 x33 x34 x35 x36 x37 x38 x39 x40 x41 x42 x43 x44 x45 x46 x47 x48 x49 x50 x51 x52 x53 x54 x55 : Value) : va_W := [(x0, .inr (11, [x1, x2, x3, x4, x5, .int x6, x7, x8, x9, x10, x11, x12, x13, x14, x15, x16, x17, x18, x19, x20, x21, x22, x23, x24, x25, x26, x27, x28, x29, x30, x31, x32, x33, x34, x35, x36, x37, x38, x39, x40, x41, x42, x43, x44, x45, x46, x47, x48, x49, x50, x51, x52, x53, x54, x55]))]
def quF (x0 : Nat) (x1 x2 x3 : Value) (x4 x5 : Int32) (x6 x7 x8 x9 : Value) (x10 : Nat) (x11 x12 x13 x14 x15 x16 x17 x18 x19 x20 x21 x22 x23 x24 x25 x26 x27 x28 x29 x30 x31 x32 x33 x34 x35 x36 x37 x38 x39 x40 x41 x42 x43 x44 x45 x46 x47 x48 x49 x50 x51 x52 x53 x54 x55 : Value) (x56 : Nat) (x57 : ClassId) (x58 : NI) : va_W := [(x0, .inr (11, [x1, x2, x3, .int x4, .int x5, x6, x7, x8, x9, .ref x10, x11, x12, x13, x14, x15, x16, x17, x18, x19, x20, x21, x22, x23, x24, x25, x26, x27, x28, x29, x30, x31, x32, x33, x34, x35, x36, x37, x38, x39, x40, x41, x42, x43, x44, x45, x46, x47, x48, x49, x50, x51, x52, x53, x54, x55])), (x56, .inl (x57, 600, .inl x58))]
def qPY (x0 : Nat) (x1 x2 x3 x4 x5 : Value) (x6 x7 : Int32) (x8 x9 x10 x11 x12 x13 x14 x15 x16 x17 x18 x19 x20 x21 x22 x23 x24 x25 x26 x27 x28 x29 x30 x31 x32 x33 x34 x35 x36 x37 x38 x39 x40 x41 x42 x43 x44 x45 x46 x47 x48 x49 x50 x51 x52 x53 x54 x55 : Value) : va_W := [(x0, .inr (11, [x1, x2, x3, x4, x5, .int x6, .int x7, x8, x9, x10, x11, x12, x13, x14, x15, x16, x17, x18, x19, x20, x21, x22, x23, x24, x25, x26, x27, x28, x29, x30, x31, x32, x33, x34, x35, x36, x37, x38, x39, x40, x41, x42, x43, x44, x45, x46, x47, x48, x49, x50, x51, x52, x53, x54, x55]))]
def qgh (x0 : Nat) (x1 x2 x3 : Value) (x4 x5 x6 x7 : Int32) (x8 x9 : Value) (x10 : Nat) (x11 x12 x13 x14 x15 x16 x17 x18 x19 x20 x21 x22 x23 x24 x25 x26 x27 x28 x29 x30 x31 x32 x33 x34 x35 x36 x37 x38 x39 x40 x41 x42 x43 x44 x45 x46 x47 x48 x49 x50 x51 x52 x53 x54 x55 : Value) (x56 : Nat) (x57 : ClassId) (x58 : NI) : va_W := [(x0, .inr (11, [x1, x2, x3, .int x4, .int x5, .int x6, .int x7, x8, x9, .ref x10, x11, x12, x13, x14, x15, x16, x17, x18, x19, x20, x21, x22, x23, x24, x25, x26, x27, x28, x29, x30, x31, x32, x33, x34, x35, x36, x37, x38, x39, x40, x41, x42, x43, x44, x45, x46, x47, x48, x49, x50, x51, x52, x53, x54, x55])), (x56, .inl (x57, 600, .inl x58))]
def qLW (x0 : Nat) (x1 x2 x3 : Value) (x4 x5 x6 x7 : Int32) (x8 x9 : Value) (x10 : Nat) (x11 x12 x13 x14 x15 x16 x17 x18 x19 x20 x21 x22 x23 x24 x25 x26 x27 x28 x29 x30 x31 x32 x33 x34 x35 x36 x37 x38 x39 x40 x41 x42 x43 x44 x45 x46 x47 x48 x49 x50 x51 x52 x53 x54 x55 : Value) : va_W := [(x0, .inr (11, [x1, x2, x3, .int x4, .int x5, .int x6, .int x7, x8, x9, .ref x10, x11, x12, x13, x14, x15, x16, x17, x18, x19, x20, x21, x22, x23, x24, x25, x26, x27, x28, x29, x30, x31, x32, x33, x34, x35, x36, x37, x38, x39, x40, x41, x42, x43, x44, x45, x46, x47, x48, x49, x50, x51, x52, x53, x54, x55]))]
def qal3 (x0 : Nat) (x1 : ClassId) (x2 : NI) : va_W := [(x0, .inl (x1, 600, .inl x2))]
def qMQ (x0 : Nat) (x1 x2 x3 x4 x5 : Value) (x6 x7 : Int32) (x8 : Value) (x9 : Int32) (x10 x11 x12 x13 x14 x15 x16 x17 x18 x19 x20 x21 x22 x23 x24 x25 x26 x27 x28 x29 x30 x31 x32 x33 x34 x35 x36 x37 x38 x39 x40 x41 x42 x43 x44 x45 x46 x47 x48 x49 x50 x51 x52 x53 x54 x55 : Value) : va_W := [(x0, .inr (11, [x1, x2, x3, x4, x5, .int x6, .int x7, x8, .int x9, x10, x11, x12, x13, x14, x15, x16, x17, x18, x19, x20, x21, x22, x23, x24, x25, x26, x27, x28, x29, x30, x31, x32, x33, x34, x35, x36, x37, x38, x39, x40, x41, x42, x43, x44, x45, x46, x47, x48, x49, x50, x51, x52, x53, x54, x55]))]
def qh4 (x0 : Nat) (x1 : Int32) (x2 : Nat) (x3 x4 x5 x6 x7 x8 x9 : Int32) (x10 : Nat) (x11 x12 x13 x14 x15 x16 x17 x18 x19 x20 : Value) (x21 : Int32) (x22 x23 x24 x25 x26 x27 x28 x29 x30 x31 x32 x33 x34 x35 x36 x37 x38 x39 x40 x41 x42 : Value) (x43 x44 : Nat) (x45 : Int32) (x46 x47 x48 x49 x50 x51 x52 x53 x54 x55 : Value) (x56 : Nat) (x57 : ClassId) (x58 : NI) (x59 : Nat) (x60 : ClassId) (x61 : NI) (x62 : Nat) (x63 : ClassId) (x64 : NI) (x65 : Nat) (x66 : ClassId) (x67 : NI) : va_W := [(x0, .inr (11, [.int x1, .ref x2, .int x3, .int x4, .int x5, .int x6, .int x7, .int x8, .int x9, .ref x10, x11, x12, x13, x14, x15, x16, x17, x18, x19, x20, .int x21, x22, x23, x24, x25, x26, x27, x28, x29, x30, x31, x32, x33, x34, x35, x36, x37, x38, x39, x40, x41, x42, .ref x43, .ref x44, .int x45, x46, x47, x48, x49, x50, x51, x52, x53, x54, x55])), (x56, .inl (x57, 2, .inl x58)), (x59, .inl (x60, 8, .inl x61)), (x62, .inl (x63, 600, .inl x64)), (x65, .inl (x66, 8, .inl x67))]
def qNg (x0 : Nat) (x1 : Int32) (x2 : Nat) (x3 x4 x5 x6 x7 x8 x9 : Int32) (x10 : Nat) (x11 x12 x13 x14 x15 x16 x17 x18 x19 x20 : Value) (x21 : Int32) (x22 x23 x24 x25 x26 x27 x28 x29 x30 x31 x32 x33 x34 x35 x36 x37 x38 x39 x40 x41 x42 : Value) (x43 x44 : Nat) (x45 : Int32) (x46 x47 x48 x49 x50 x51 x52 x53 x54 x55 : Value) : va_W := [(x0, .inr (11, [.int x1, .ref x2, .int x3, .int x4, .int x5, .int x6, .int x7, .int x8, .int x9, .ref x10, x11, x12, x13, x14, x15, x16, x17, x18, x19, x20, .int x21, x22, x23, x24, x25, x26, x27, x28, x29, x30, x31, x32, x33, x34, x35, x36, x37, x38, x39, x40, x41, x42, .ref x43, .ref x44, .int x45, x46, x47, x48, x49, x50, x51, x52, x53, x54, x55]))]
def qanf (x0 : Nat) (x1 : ClassId) (x2 : NI) (x3 : Nat) (x4 : ClassId) (x5 : NI) (x6 : Nat) (x7 : ClassId) (x8 : NI) (x9 : Nat) (x10 : ClassId) (x11 : NI) : va_W := [(x0, .inl (x1, 2, .inl x2)), (x3, .inl (x4, 8, .inl x5)), (x6, .inl (x7, 600, .inl x8)), (x9, .inl (x10, 8, .inl x11))]
def qa4e (x0 : Nat) (x1 : Int32) (x2 : Nat) (x3 x4 x5 x6 x7 x8 x9 : Int32) (x10 : Nat) (x11 x12 x13 x14 x15 x16 x17 x18 x19 x20 : Value) (x21 : Int32) (x22 x23 x24 x25 x26 x27 x28 x29 x30 x31 x32 x33 x34 x35 x36 x37 x38 x39 x40 x41 x42 : Value) (x43 x44 : Nat) (x45 : Int32) (x46 x47 x48 x49 x50 x51 x52 x53 x54 x55 : Value) (x56 : Nat) (x57 : ClassId) (x58 : NI) (x59 : Nat) (x60 : ClassId) (x61 : NI) : va_W := [(x0, .inr (11, [.int x1, .ref x2, .int x3, .int x4, .int x5, .int x6, .int x7, .int x8, .int x9, .ref x10, x11, x12, x13, x14, x15, x16, x17, x18, x19, x20, .int x21, x22, x23, x24, x25, x26, x27, x28, x29, x30, x31, x32, x33, x34, x35, x36, x37, x38, x39, x40, x41, x42, .ref x43, .ref x44, .int x45, x46, x47, x48, x49, x50, x51, x52, x53, x54, x55])), (x56, .inl (x57, 8, .inl x58)), (x59, .inl (x60, 8, .inl x61))]
def qS1 (x0 : Nat) (x1 : Int32) (x2 : Nat) (x3 x4 x5 x6 x7 x8 x9 : Int32) (x10 : Nat) (x11 x12 x13 x14 x15 x16 x17 x18 x19 x20 : Value) (x21 : Int32) (x22 x23 x24 x25 x26 x27 x28 x29 x30 x31 x32 x33 x34 x35 x36 x37 x38 x39 x40 x41 x42 : Value) (x43 x44 : Nat) (x45 : Int32) (x46 x47 x48 x49 x50 x51 x52 x53 x54 x55 : Value) (x56 : Nat) (x57 : ClassId) (x58 : NI) : va_W := [(x0, .inr (11, [.int x1, .ref x2, .int x3, .int x4, .int x5, .int x6, .int x7, .int x8, .int x9, .ref x10, x11, x12, x13, x14, x15, x16, x17, x18, x19, x20, .int x21, x22, x23, x24, x25, x26, x27, x28, x29, x30, x31, x32, x33, x34, x35, x36, x37, x38, x39, x40, x41, x42, .ref x43, .ref x44, .int x45, x46, x47, x48, x49, x50, x51, x52, x53, x54, x55])), (x56, .inl (x57, 600, .inl x58))]
def qawP (x0 : Nat) (x1 : ClassId) (x2 : NI) (x3 : Nat) (x4 : ClassId) (x5 : NI) (x6 : Nat) (x7 : ClassId) (x8 : NI) : va_W := [(x0, .inl (x1, 2, .inl x2)), (x3, .inl (x4, 8, .inl x5)), (x6, .inl (x7, 8, .inl x8))]
def qa6B (x0 : Nat) (x1 : Int32) (x2 : Nat) (x3 x4 x5 x6 x7 x8 x9 : Int32) (x10 : Nat) (x11 x12 x13 x14 x15 x16 x17 x18 x19 x20 : Value) (x21 : Int32) (x22 x23 x24 x25 x26 x27 x28 x29 x30 x31 x32 x33 x34 x35 x36 x37 x38 x39 x40 x41 x42 : Value) (x43 x44 : Nat) (x45 : Int32) (x46 x47 x48 x49 x50 x51 x52 x53 x54 x55 : Value) (x56 : Nat) (x57 : ClassId) (x58 : NI) : va_W := [(x0, .inr (11, [.int x1, .ref x2, .int x3, .int x4, .int x5, .int x6, .int x7, .int x8, .int x9, .ref x10, x11, x12, x13, x14, x15, x16, x17, x18, x19, x20, .int x21, x22, x23, x24, x25, x26, x27, x28, x29, x30, x31, x32, x33, x34, x35, x36, x37, x38, x39, x40, x41, x42, .ref x43, .ref x44, .int x45, x46, x47, x48, x49, x50, x51, x52, x53, x54, x55])), (x56, .inl (x57, 2, .inl x58))]
def qME (x0 : Nat) (x1 : Int32) (x2 : Nat) (x3 x4 x5 x6 x7 x8 x9 x10 x11 x12 x13 x14 x15 x16 x17 x18 x19 x20 x21 : Value) (x22 : Int32) (x23 x24 x25 x26 x27 x28 x29 x30 x31 x32 x33 x34 x35 x36 x37 x38 x39 x40 x41 x42 x43 x44 x45 x46 x47 x48 x49 x50 x51 x52 x53 x54 x55 : Value) (x56 : Nat) (x57 : ClassId) (x58 : NI) : va_W := [(x0, .inr (11, [.int x1, .ref x2, x3, x4, x5, x6, x7, x8, x9, x10, x11, x12, x13, x14, x15, x16, x17, x18, x19, x20, x21, .int x22, x23, x24, x25, x26, x27, x28, x29, x30, x31, x32, x33, x34, x35, x36, x37, x38, x39, x40, x41, x42, x43, x44, x45, x46, x47, x48, x49, x50, x51, x52, x53, x54, x55])), (x56, .inl (x57, 2, .inl x58))]
def qnp (x0 : Nat) (x1 x2 x3 x4 x5 x6 x7 x8 x9 x10 x11 x12 x13 x14 x15 x16 x17 x18 x19 x20 x21 : Value) (x22 : Int32) (x23 x24 x25 x26 x27 x28 x29 x30 x31 x32 x33 x34 x35 x36 x37 x38 x39 : Value) (x40 : Nat) (x41 x42 x43 x44 x45 x46 x47 x48 x49 x50 x51 x52 x53 x54 x55 : Value) (x56 : Nat) (x57 : ClassId) (x58 : NI) : va_W := [(x0, .inr (11, [x1, x2, x3, x4, x5, x6, x7, x8, x9, x10, x11, x12, x13, x14, x15, x16, x17, x18, x19, x20, x21, .int x22, x23, x24, x25, x26, x27, x28, x29, x30, x31, x32, x33, x34, x35, x36, x37, x38, x39, .ref x40, x41, x42, x43, x44, x45, x46, x47, x48, x49, x50, x51, x52, x53, x54, x55])), (x56, .inl (x57, 68, .inl x58))]
theorem qvG : ∀ w ∈ u_ws RX11 TX11 55, w ∈ wsX11_passes := uiM qCf qga (by decide +kernel)
theorem qafp : (.fieldLink RX11 169 "MarchHaresModel" "hares" "I" : Cond) ∈ wsX11_passes := qCf 520 (by decide +kernel)
theorem qyS : (.fieldLink RX11 71 "MarchHaresModel" "s" "[I" : Cond) ∈ wsX11_passes := qCf 457 (by decide +kernel)
set_option maxHeartbeats 4000000 in
set_option maxRecDepth 100000 in
theorem qMd {p : Program} {l : Launch} {e : Env} {s : State} {m : MethodId} {args : Array Value} {below : List Frame} {meth : Method} {c : Code} {A : Nat → Prop} (dC : Nat → ClassId) (dI : Nat → Nat → Nat) (cyB cyI cyJ cyP : ClassId) (a0 a0_s ja5 jbJ jb9 : Nat) (jaX jaF jaD ja7 jby jbf jaM jaY jap jaK jal jam jax jao jae jag jaf ja0 jaw jaI jaZ jaH jaS jan jaU jaE jar jaL jah jaB jaa jaz jaG jab ja2 jaq jai jaO jaA jat jau jav jaj jas jaJ jak jad jay jac : Value) (jaC jbw : Int32) (jbv jcx jdH : NI) (Q : NI → Prop) (K2 : NI → Int32 → Prop) (hK2 : ∀ (H : Heap) (locs : List Loc) (ls : Array Slot) (f0_s : NI) (l1 : Int32), va_P (dC, dI) vwCl (qvl a0 jaX jaF jaD ja7 jby jbf jaM jaY jap jaK jal jam jax jao ja5 jb9 jbJ jae jag jaf ja0 jaC jbw jaw jaI jaZ jaH jaS jan jaU jaE jar jaL jah jaB jaa jaz jaG jab ja2 a0_s jaq jai jaO jaA jat jau jav jaj jas jaJ jak jad jay jac a0_s cyI f0_s ja5 cyI jbv jbJ cyI jcx jb9 cyI jdH) H → va_D A (qvl a0 jaX jaF jaD ja7 jby jbf jaM jaY jap jaK jal jam jax jao ja5 jb9 jbJ jae jag jaf ja0 jaC jbw jaw jaI jaZ jaH jaS jan jaU jaE jar jaL jah jaB jaa jaz jaG jab ja2 a0_s jaq jai jaO jaA jat jau jav jaj jas jaJ jak jad jay jac a0_s cyI f0_s ja5 cyI jbv jbJ cyI jcx jb9 cyI jdH) → va_S A s.heap H locs → lv_has ls 2 [(0, .ref a0), (1, .int l1)] → K2 f0_s l1 → W p l e (headSpec wsX11_passes ({ frames := 4, cells := 0, slots := 0, locals := 85 })).room s m args below meth c H locs 0 0 (MQ below (va_Qv (fun (u : NI) => Q u) (cB (dC, dI) (kT cyB cyI cyJ cyP) A (fun u : NI => ((qvl a0 jaX jaF jaD ja7 jby jbf jaM jaY jap jaK jal jam jax jao ja5 jb9 jbJ jae jag jaf ja0 jaC jbw jaw jaI jaZ jaH jaS jan jaU jaE jar jaL jah jaB jaa jaz jaG jab ja2 a0_s jaq jai jaO jaA jat jau jav jaj jas jaJ jak jad jay jac a0_s cyI u ja5 cyI jbv jbJ cyI jcx jb9 cyI jdH) : va_W))) A) args s 0 0 A) (F0 m 2 ls [])) (C0 : cfx p s m args meth c cX11_passes none wsX11_passes RX11 2 A (dC, dI) (kT cyB cyI cyJ cyP)) : ∀ (H : Heap) (locs : List Loc) (ls : Array Slot) (f0_s : NI) (l1 : Int32), va_P (dC, dI) vwCl (qvl a0 jaX jaF jaD ja7 jby jbf jaM jaY jap jaK jal jam jax jao ja5 jb9 jbJ jae jag jaf ja0 jaC jbw jaw jaI jaZ jaH jaS jan jaU jaE jar jaL jah jaB jaa jaz jaG jab ja2 a0_s jaq jai jaO jaA jat jau jav jaj jas jaJ jak jad jay jac a0_s cyI f0_s ja5 cyI jbv jbJ cyI jcx jb9 cyI jdH) H → va_D A (qvl a0 jaX jaF jaD ja7 jby jbf jaM jaY jap jaK jal jam jax jao ja5 jb9 jbJ jae jag jaf ja0 jaC jbw jaw jaI jaZ jaH jaS jan jaU jaE jar jaL jah jaB jaa jaz jaG jab ja2 a0_s jaq jai jaO jaA jat jau jav jaj jas jaJ jak jad jay jac a0_s cyI f0_s ja5 cyI jbv jbJ cyI jcx jb9 cyI jdH) → va_S A s.heap H locs → lv_has ls 2 [(0, .ref a0), (1, .int l1)] → qAj jaC jbw jbv jcx jdH Q K2 f0_s l1 → W p l e (headSpec wsX11_passes ({ frames := 4, cells := 0, slots := 0, locals := 85 })).room s m args below meth c H locs 0 0 (MQ below (va_Qv (fun (u : NI) => Q u) (cB (dC, dI) (kT cyB cyI cyJ cyP) A (fun u : NI => ((qvl a0 jaX jaF jaD ja7 jby jbf jaM jaY jap jaK jal jam jax jao ja5 jb9 jbJ jae jag jaf ja0 jaC jbw jaw jaI jaZ jaH jaS jan jaU jaE jar jaL jah jaB jaa jaz jaG jab ja2 a0_s jaq jai jaO jaA jat jau jav jaj jas jaJ jak jad jay jac a0_s cyI u ja5 cyI jbv jbJ cyI jcx jb9 cyI jdH) : va_W))) A) args s 0 0 A) (F0 m 43 ls []) := by
  obtain ⟨hx, hb, hr, hts, hown, hlocks, hml, hA, hK, hNw⟩ := id C0
  intro H locs ls f0_s l1 hP hD hS hl hw
  obtain ⟨x17, ex17⟩ : ∃ y : Int32, y = l1 + 1 := ⟨_, rfl⟩
  have hw := hw x17 ex17
  refine lv_iinc (v := x17) (lv' := [(1, .int x17), (0, .ref a0)]) hx hb (qaa qf4 11 rfl) hl (k := 1) rfl (by rw [ex17]; rfl) (by decide) rfl (fun ls hl => ?_)
  refine lv_goto (tgt := 2) hx hb (qaa qf4 12 rfl) (by decide) ?_
  exact hK2 _ _ _ f0_s x17 hP hD hS (lv_sub hl [1, 0] rfl) hw
set_option maxHeartbeats 4000000 in
set_option maxRecDepth 100000 in
theorem qapM {p : Program} {l : Launch} {e : Env} {s : State} {m : MethodId} {args : Array Value} {below : List Frame} {meth : Method} {c : Code} {A : Nat → Prop} (dC : Nat → ClassId) (dI : Nat → Nat → Nat) (cyB cyI cyJ cyP : ClassId) (a0 a0_s ja5 jbJ jb9 : Nat) (jaX jaF jaD ja7 jby jbf jaM jaY jap jaK jal jam jax jao jae jag jaf ja0 jaw jaI jaZ jaH jaS jan jaU jaE jar jaL jah jaB jaa jaz jaG jab ja2 jaq jai jaO jaA jat jau jav jaj jas jaJ jak jad jay jac : Value) (jaC jbw : Int32) (jbv jcx jdH : NI) (Q : NI → Prop) (C0 : cfx p s m args meth c cX11_passes none wsX11_passes RX11 2 A (dC, dI) (kT cyB cyI cyJ cyP)) : ∀ (n : Nat) (H : Heap) (locs : List Loc) (ls : Array Slot) (f0_s : NI) (l1 : Int32), va_P (dC, dI) vwCl (qvl a0 jaX jaF jaD ja7 jby jbf jaM jaY jap jaK jal jam jax jao ja5 jb9 jbJ jae jag jaf ja0 jaC jbw jaw jaI jaZ jaH jaS jan jaU jaE jar jaL jah jaB jaa jaz jaG jab ja2 a0_s jaq jai jaO jaA jat jau jav jaj jas jaJ jak jad jay jac a0_s cyI f0_s ja5 cyI jbv jbJ cyI jcx jb9 cyI jdH) H → va_D A (qvl a0 jaX jaF jaD ja7 jby jbf jaM jaY jap jaK jal jam jax jao ja5 jb9 jbJ jae jag jaf ja0 jaC jbw jaw jaI jaZ jaH jaS jan jaU jaE jar jaL jah jaB jaa jaz jaG jab ja2 a0_s jaq jai jaO jaA jat jau jav jaj jas jaJ jak jad jay jac a0_s cyI f0_s ja5 cyI jbv jbJ cyI jcx jb9 cyI jdH) → va_S A s.heap H locs → lv_has ls 2 [(0, .ref a0), (1, .int l1)] → qz5 jaC jbw jbv jcx jdH Q n f0_s l1 → W p l e (headSpec wsX11_passes ({ frames := 4, cells := 0, slots := 0, locals := 85 })).room s m args below meth c H locs 0 0 (MQ below (va_Qv (fun (u : NI) => Q u) (cB (dC, dI) (kT cyB cyI cyJ cyP) A (fun u : NI => ((qvl a0 jaX jaF jaD ja7 jby jbf jaM jaY jap jaK jal jam jax jao ja5 jb9 jbJ jae jag jaf ja0 jaC jbw jaw jaI jaZ jaH jaS jan jaU jaE jar jaL jah jaB jaa jaz jaG jab ja2 a0_s jaq jai jaO jaA jat jau jav jaj jas jaJ jak jad jay jac a0_s cyI u ja5 cyI jbv jbJ cyI jcx jb9 cyI jdH) : va_W))) A) args s 0 0 A) (F0 m 78 ls []) := by
  obtain ⟨hx, hb, hr, hts, hown, hlocks, hml, hA, hK, hNw⟩ := id C0
  intro n
  induction n with
  | zero => intro H locs ls f0_s l1 hP hD hS hl hw; exact False.elim hw
  | succ n ih =>
    intro H locs ls f0_s l1 hP hD hS hl hw
    refine lv_iload_n hx hb (qaa qfH 15 rfl) rfl (lv_at hl 1 rfl) ?_
    refine lv_bipush (v := 6) hx hb (qaa qmX 0 rfl) (by decide) ?_
    refine lv_icmp_ge (tgt := 100) hx hb (qaa qmX 1 rfl) (by decide) (fun c18 => ?_) (fun c18 => ?_)
    · have hw := hw.1 c18
      exact ((W.vret hx hb hr (fun t ht hW => ⟨⟨(f0_s), rfl, hw, by rw [ht]; exact hP, va_K.moved hW.alike hK, hD⟩, hS.F ht⟩) hS.2.2 (qaa qmX 11 rfl)))
    · have hw := hw.2 c18
      refine lv_aload_n hx hb (qaa qmX 2 rfl) rfl (lv_at hl 0 rfl) ?_
      refine va_get (D := (dC, dI)) (ci := 11) (v := .ref a0_s) (C := RX11) (T := TX11) (N := 55) hx hb hts qvG hown hK hP 0 rfl rfl 40 (by decide) (hts _ qyS) (fun _ h9 => h9) rfl (qaa qmX 3 rfl) ?_
      refine lv_bipush (v := 24) hx hb (qaa qmX 4 rfl) (by decide) ?_
      refine lv_iload_n hx hb (qaa qmX 5 rfl) rfl (lv_at hl 1 rfl) ?_
      refine lv_iadd hx hb (qaa qmX 6 rfl) ?_
      refine lv_topi (fun x19 ex19 => ?_)
      have hw := hw x19 ex19
      refine lv_iconst (v := 0) hx hb (qaa qmX 7 rfl) (by decide) ?_
      obtain ⟨hi9, hw⟩ := hw
      refine va_iast hx hb hK hP hD hS 1 1 rfl rfl hi9 (qaa qmX 8 rfl) (fun H locs hP hD hS => ?_)
      obtain ⟨f20, ef20⟩ : ∃ y : NI, y = upd f0_s x19.toNatClampNeg 0 := ⟨_, rfl⟩
      have hw := hw f20 ef20
      have hP : va_P (dC, dI) vwCl (qvl a0 jaX jaF jaD ja7 jby jbf jaM jaY jap jaK jal jam jax jao ja5 jb9 jbJ jae jag jaf ja0 jaC jbw jaw jaI jaZ jaH jaS jan jaU jaE jar jaL jah jaB jaa jaz jaG jab ja2 a0_s jaq jai jaO jaA jat jau jav jaj jas jaJ jak jad jay jac a0_s cyI f20 ja5 cyI jbv jbJ cyI jcx jb9 cyI jdH) H := by rw [ef20]; exact hP
      have hD : va_D A (qvl a0 jaX jaF jaD ja7 jby jbf jaM jaY jap jaK jal jam jax jao ja5 jb9 jbJ jae jag jaf ja0 jaC jbw jaw jaI jaZ jaH jaS jan jaU jaE jar jaL jah jaB jaa jaz jaG jab ja2 a0_s jaq jai jaO jaA jat jau jav jaj jas jaJ jak jad jay jac a0_s cyI f20 ja5 cyI jbv jbJ cyI jcx jb9 cyI jdH) := by rw [ef20]; exact hD
      obtain ⟨x21, ex21⟩ : ∃ y : Int32, y = l1 + 1 := ⟨_, rfl⟩
      have hw := hw x21 ex21
      refine lv_iinc (v := x21) (lv' := [(1, .int x21), (0, .ref a0)]) hx hb (qaa qmX 9 rfl) hl (k := 1) rfl (by rw [ex21]; rfl) (by decide) rfl (fun ls hl => ?_)
      refine lv_goto (tgt := 78) hx hb (qaa qmX 10 rfl) (by decide) ?_
      exact ih _ _ _ f20 x21 hP hD hS (lv_sub hl [1, 0] rfl) hw
set_option maxHeartbeats 4000000 in
set_option maxRecDepth 100000 in
theorem qZW {p : Program} {l : Launch} {e : Env} {s : State} {m : MethodId} {args : Array Value} {below : List Frame} {meth : Method} {c : Code} {A : Nat → Prop} (dC : Nat → ClassId) (dI : Nat → Nat → Nat) (cyB cyI cyJ cyP : ClassId) (a0 a0_s ja5 jbJ jb9 : Nat) (jaX jaF jaD ja7 jby jbf jaM jaY jap jaK jal jam jax jao jae jag jaf ja0 jaw jaI jaZ jaH jaS jan jaU jaE jar jaL jah jaB jaa jaz jaG jab ja2 jaq jai jaO jaA jat jau jav jaj jas jaJ jak jad jay jac : Value) (jaC jbw : Int32) (jbv jcx jdH : NI) (Q : NI → Prop) (C0 : cfx p s m args meth c cX11_passes none wsX11_passes RX11 2 A (dC, dI) (kT cyB cyI cyJ cyP)) : ∀ (H : Heap) (locs : List Loc) (ls : Array Slot) (f0_s : NI), va_P (dC, dI) vwCl (qvl a0 jaX jaF jaD ja7 jby jbf jaM jaY jap jaK jal jam jax jao ja5 jb9 jbJ jae jag jaf ja0 jaC jbw jaw jaI jaZ jaH jaS jan jaU jaE jar jaL jah jaB jaa jaz jaG jab ja2 a0_s jaq jai jaO jaA jat jau jav jaj jas jaJ jak jad jay jac a0_s cyI f0_s ja5 cyI jbv jbJ cyI jcx jb9 cyI jdH) H → va_D A (qvl a0 jaX jaF jaD ja7 jby jbf jaM jaY jap jaK jal jam jax jao ja5 jb9 jbJ jae jag jaf ja0 jaC jbw jaw jaI jaZ jaH jaS jan jaU jaE jar jaL jah jaB jaa jaz jaG jab ja2 a0_s jaq jai jaO jaA jat jau jav jaj jas jaJ jak jad jay jac a0_s cyI f0_s ja5 cyI jbv jbJ cyI jcx jb9 cyI jdH) → va_S A s.heap H locs → lv_has ls 2 [(0, .ref a0)] → qE0 jaC jbw jbv jcx jdH Q f0_s → W p l e (headSpec wsX11_passes ({ frames := 4, cells := 0, slots := 0, locals := 85 })).room s m args below meth c H locs 0 0 (MQ below (va_Qv (fun (u : NI) => Q u) (cB (dC, dI) (kT cyB cyI cyJ cyP) A (fun u : NI => ((qvl a0 jaX jaF jaD ja7 jby jbf jaM jaY jap jaK jal jam jax jao ja5 jb9 jbJ jae jag jaf ja0 jaC jbw jaw jaI jaZ jaH jaS jan jaU jaE jar jaL jah jaB jaa jaz jaG jab ja2 a0_s jaq jai jaO jaA jat jau jav jaj jas jaJ jak jad jay jac a0_s cyI u ja5 cyI jbv jbJ cyI jcx jb9 cyI jdH) : va_W))) A) args s 0 0 A) (F0 m 76 ls []) := by
  obtain ⟨hx, hb, hr, hts, hown, hlocks, hml, hA, hK, hNw⟩ := id C0
  intro H locs ls f0_s hP hD hS hl hw
  refine lv_iconst (v := 0) hx hb (qaa qfH 13 rfl) (by decide) ?_
  refine lv_istore_n (lv' := [(1, .int 0), (0, .ref a0)]) hx hb (qaa qfH 14 rfl) rfl hl (by decide) rfl (fun ls hl => ?_)
  obtain ⟨n9, hw⟩ := hw
  exact qapM dC dI cyB cyI cyJ cyP a0 a0_s ja5 jbJ jb9 jaX jaF jaD ja7 jby jbf jaM jaY jap jaK jal jam jax jao jae jag jaf ja0 jaw jaI jaZ jaH jaS jan jaU jaE jar jaL jah jaB jaa jaz jaG jab ja2 jaq jai jaO jaA jat jau jav jaj jas jaJ jak jad jay jac jaC jbw jbv jcx jdH Q C0 n9 _ _ _ f0_s 0 hP hD hS (lv_sub hl [1, 0] rfl) hw
set_option maxHeartbeats 4000000 in
set_option maxRecDepth 100000 in
theorem qavo {p : Program} {l : Launch} {e : Env} {s : State} {m : MethodId} {args : Array Value} {below : List Frame} {meth : Method} {c : Code} {A : Nat → Prop} (dC : Nat → ClassId) (dI : Nat → Nat → Nat) (cyB cyI cyJ cyP : ClassId) (a0 a0_s ja5 jbJ jb9 : Nat) (jaX jaF jaD ja7 jby jbf jaM jaY jap jaK jal jam jax jao jae jag jaf ja0 jaw jaI jaZ jaH jaS jan jaU jaE jar jaL jah jaB jaa jaz jaG jab ja2 jaq jai jaO jaA jat jau jav jaj jas jaJ jak jad jay jac : Value) (jaC jbw : Int32) (jbv jcx jdH : NI) (Q : NI → Prop) (C0 : cfx p s m args meth c cX11_passes none wsX11_passes RX11 2 A (dC, dI) (kT cyB cyI cyJ cyP)) : ∀ (n : Nat) (H : Heap) (locs : List Loc) (ls : Array Slot) (f0_s : NI) (l1 : Int32), va_P (dC, dI) vwCl (qvl a0 jaX jaF jaD ja7 jby jbf jaM jaY jap jaK jal jam jax jao ja5 jb9 jbJ jae jag jaf ja0 jaC jbw jaw jaI jaZ jaH jaS jan jaU jaE jar jaL jah jaB jaa jaz jaG jab ja2 a0_s jaq jai jaO jaA jat jau jav jaj jas jaJ jak jad jay jac a0_s cyI f0_s ja5 cyI jbv jbJ cyI jcx jb9 cyI jdH) H → va_D A (qvl a0 jaX jaF jaD ja7 jby jbf jaM jaY jap jaK jal jam jax jao ja5 jb9 jbJ jae jag jaf ja0 jaC jbw jaw jaI jaZ jaH jaS jan jaU jaE jar jaL jah jaB jaa jaz jaG jab ja2 a0_s jaq jai jaO jaA jat jau jav jaj jas jaJ jak jad jay jac a0_s cyI f0_s ja5 cyI jbv jbJ cyI jcx jb9 cyI jdH) → va_S A s.heap H locs → lv_has ls 2 [(0, .ref a0), (1, .int l1)] → qpl jaC jbw jbv jcx jdH Q n f0_s l1 → W p l e (headSpec wsX11_passes ({ frames := 4, cells := 0, slots := 0, locals := 85 })).room s m args below meth c H locs 0 0 (MQ below (va_Qv (fun (u : NI) => Q u) (cB (dC, dI) (kT cyB cyI cyJ cyP) A (fun u : NI => ((qvl a0 jaX jaF jaD ja7 jby jbf jaM jaY jap jaK jal jam jax jao ja5 jb9 jbJ jae jag jaf ja0 jaC jbw jaw jaI jaZ jaH jaS jan jaU jaE jar jaL jah jaB jaa jaz jaG jab ja2 a0_s jaq jai jaO jaA jat jau jav jaj jas jaJ jak jad jay jac a0_s cyI u ja5 cyI jbv jbJ cyI jcx jb9 cyI jdH) : va_W))) A) args s 0 0 A) (F0 m 2 ls []) := by
  obtain ⟨hx, hb, hr, hts, hown, hlocks, hml, hA, hK, hNw⟩ := id C0
  intro n
  induction n with
  | zero => intro H locs ls f0_s l1 hP hD hS hl hw; exact False.elim hw
  | succ n ih =>
    intro H locs ls f0_s l1 hP hD hS hl hw
    refine lv_iload_n hx hb (qaa qgH 2 rfl) rfl (lv_at hl 1 rfl) ?_
    refine lv_aload_n hx hb (qaa qgH 3 rfl) rfl (lv_at hl 0 rfl) ?_
    refine va_get (D := (dC, dI)) (ci := 11) (v := .int jaC) (C := RX11) (T := TX11) (N := 55) hx hb hts qvG hown hK hP 0 rfl rfl 21 (by decide) (hts _ qafp) (fun _ h9 => h9) rfl (qaa qgH 4 rfl) ?_
    refine lv_icmp_ge (tgt := 49) hx hb (qaa qgH 5 rfl) (by decide) (fun c1 => ?_) (fun c1 => ?_)
    · have hw := hw.1 c1
      refine lv_aload_n hx hb (qaa qf4 13 rfl) rfl (lv_at hl 0 rfl) ?_
      refine va_get (D := (dC, dI)) (ci := 11) (v := .ref a0_s) (C := RX11) (T := TX11) (N := 55) hx hb hts qvG hown hK hP 0 rfl rfl 40 (by decide) (hts _ qyS) (fun _ h9 => h9) rfl (qaa qf4 14 rfl) ?_
      refine lv_bipush (v := 66) hx hb (qaa qf4 15 rfl) (by decide) ?_
      refine lv_dup2_11 hx hb (qaa qfH 0 rfl) rfl rfl ?_
      refine va_iald hx hb hK hP 1 1 rfl rfl (vin (by decide)) (qaa qfH 1 rfl) ?_
      refine lv_topi (fun x2 ex2 => ?_)
      have hw := hw x2 ex2
      refine lv_iconst (v := 1) hx hb (qaa qfH 2 rfl) (by decide) ?_
      refine lv_iadd hx hb (qaa qfH 3 rfl) ?_
      refine lv_topi (fun x3 ex3 => ?_)
      have hw := hw x3 ex3
      refine va_iast hx hb hK hP hD hS 1 1 rfl rfl (vin (by decide)) (qaa qfH 4 rfl) (fun H locs hP hD hS => ?_)
      obtain ⟨f4, ef4⟩ : ∃ y : NI, y = upd f0_s (66 : Int32).toNatClampNeg x3 := ⟨_, rfl⟩
      have hw := hw f4 ef4
      have hP : va_P (dC, dI) vwCl (qvl a0 jaX jaF jaD ja7 jby jbf jaM jaY jap jaK jal jam jax jao ja5 jb9 jbJ jae jag jaf ja0 jaC jbw jaw jaI jaZ jaH jaS jan jaU jaE jar jaL jah jaB jaa jaz jaG jab ja2 a0_s jaq jai jaO jaA jat jau jav jaj jas jaJ jak jad jay jac a0_s cyI f4 ja5 cyI jbv jbJ cyI jcx jb9 cyI jdH) H := by rw [ef4]; exact hP
      have hD : va_D A (qvl a0 jaX jaF jaD ja7 jby jbf jaM jaY jap jaK jal jam jax jao ja5 jb9 jbJ jae jag jaf ja0 jaC jbw jaw jaI jaZ jaH jaS jan jaU jaE jar jaL jah jaB jaa jaz jaG jab ja2 a0_s jaq jai jaO jaA jat jau jav jaj jas jaJ jak jad jay jac a0_s cyI f4 ja5 cyI jbv jbJ cyI jcx jb9 cyI jdH) := by rw [ef4]; exact hD
      refine lv_aload_n hx hb (qaa qfH 5 rfl) rfl (lv_at hl 0 rfl) ?_
      refine va_get (D := (dC, dI)) (ci := 11) (v := .ref a0_s) (C := RX11) (T := TX11) (N := 55) hx hb hts qvG hown hK hP 0 rfl rfl 40 (by decide) (hts _ qyS) (fun _ h9 => h9) rfl (qaa qfH 6 rfl) ?_
      refine lv_bipush (v := 66) hx hb (qaa qfH 7 rfl) (by decide) ?_
      refine va_iald hx hb hK hP 1 1 rfl rfl (vin (by decide)) (qaa qfH 8 rfl) ?_
      refine lv_topi (fun x5 ex5 => ?_)
      have hw := hw x5 ex5
      refine lv_bipush (v := 31) hx hb (qaa qfH 9 rfl) (by decide) ?_
      refine lv_icmp_le (tgt := 76) hx hb (qaa qfH 10 rfl) (by decide) (fun c6 => ?_) (fun c6 => ?_)
      · have hw := hw.1 c6
        exact qZW dC dI cyB cyI cyJ cyP a0 a0_s ja5 jbJ jb9 jaX jaF jaD ja7 jby jbf jaM jaY jap jaK jal jam jax jao jae jag jaf ja0 jaw jaI jaZ jaH jaS jan jaU jaE jar jaL jah jaB jaa jaz jaG jab ja2 jaq jai jaO jaA jat jau jav jaj jas jaJ jak jad jay jac jaC jbw jbv jcx jdH Q C0 _ _ _ f4 hP hD hS (lv_sub hl [0] rfl) hw
      · have hw := hw.2 c6
        refine lv_aload_n hx hb (qaa qfH 11 rfl) rfl (lv_at hl 0 rfl) ?_
        obtain ⟨hCc, hPc, hDc, hFc⟩ := qac (ws' := (qvl a0 jaX jaF jaD ja7 jby jbf jaM jaY jap jaK jal jam jax jao ja5 jb9 jbJ jae jag jaf ja0 jaC jbw jaw jaI jaZ jaH jaS jan jaU jaE jar jaL jah jaB jaa jaz jaG jab ja2 a0_s jaq jai jaO jaA jat jau jav jaj jas jaJ jak jad jay jac a0_s cyI f4 ja5 cyI jbv jbJ cyI jcx jb9 cyI jdH)) hP hD hS hA [0, 1, 2, 3, 4] (by decide +kernel) rfl
        refine va_callv (va_runV (As := []) (rest := []) ⟨hx, hb, hml, hown, hts⟩ (qaHZ l dC dI cyB cyI cyJ cyP a0 a0_s ja5 jbJ jb9 H.size (jaX) (jaF) (jaD) (ja7) (jby) (jbf) (jaM) (jaY) (jap) (jaK) (jal) (jam) (jax) (jao) (jae) (jag) (jaf) (ja0) (jaw) (jaI) (jaZ) (jaH) (jaS) (jan) (jaU) (jaE) (jar) (jaL) (jah) (jaB) (jaa) (jaz) (jaG) (jab) (ja2) (jaq) (jai) (jaO) (jaA) (jat) (jau) (jav) (jaj) (jas) (jaJ) (jak) (jad) (jay) (jac) jaC jbw jbv jcx jdH f4 hw) (cwV 0 hts gX11_passes_X11_strokes rfl rfl rfl (by decide +kernel) ⟨nbq rfl, nbq rfl⟩) ⟨qab, va_recv (q := (RX11, TX11, 55)) hK hPc (ci := 11) (q0 := 0) rfl rfl, qae hPc hK hDc hNw⟩ rfl rfl hl.1 rfl (lv_room (nbq rfl)) (qaa qfH 12 rfl) ⟨nbq rfl, nbq rfl⟩) hS (fun q _ h => hFc q h) hFc (fun u t H1 locs ht hvm hw hB hz1 hk1 hS => ?_)
        obtain ⟨f7, rfl⟩ : ∃ z, z = u := ⟨_, rfl⟩
        obtain ⟨hP1, hK1, hD1⟩ := hB
        rw [ht] at hP1
        obtain ⟨hP, hD⟩ := qah (wr := []) (w1 := (qvl a0 jaX jaF jaD ja7 jby jbf jaM jaY jap jaK jal jam jax jao ja5 jb9 jbJ jae jag jaf ja0 jaC jbw jaw jaI jaZ jaH jaS jan jaU jaE jar jaL jah jaB jaa jaz jaG jab ja2 a0_s jaq jai jaO jaA jat jau jav jaj jas jaJ jak jad jay jac a0_s cyI f7 ja5 cyI jbv jbJ cyI jcx jb9 cyI jdH)) (wn := (qvl a0 jaX jaF jaD ja7 jby jbf jaM jaY jap jaK jal jam jax jao ja5 jb9 jbJ jae jag jaf ja0 jaC jbw jaw jaI jaZ jaH jaS jan jaU jaE jar jaL jah jaB jaa jaz jaG jab ja2 a0_s jaq jai jaO jaA jat jau jav jaj jas jaJ jak jad jay jac a0_s cyI f7 ja5 cyI jbv jbJ cyI jcx jb9 cyI jdH)) hP hD [0, 1, 2, 3, 4] [] hCc rfl (by decide +kernel) (by decide +kernel) rfl hk1 hFc hP1 hD1
        generalize H1 = H at hP hS ⊢
        exact qZW dC dI cyB cyI cyJ cyP a0 a0_s ja5 jbJ jb9 jaX jaF jaD ja7 jby jbf jaM jaY jap jaK jal jam jax jao jae jag jaf ja0 jaw jaI jaZ jaH jaS jan jaU jaE jar jaL jah jaB jaa jaz jaG jab ja2 jaq jai jaO jaA jat jau jav jaj jas jaJ jak jad jay jac jaC jbw jbv jcx jdH Q C0 _ _ _ f7 hP hD hS (lv_sub hl [0] rfl) hw
    · have hw := hw.2 c1
      refine lv_aload_n hx hb (qaa qgH 6 rfl) rfl (lv_at hl 0 rfl) ?_
      refine lv_iload_n hx hb (qaa qgH 7 rfl) rfl (lv_at hl 1 rfl) ?_
      obtain ⟨hCc, hPc, hDc, hFc⟩ := qac (ws' := (qbcR a0 jaX jaF jaD ja7 jby jbf jaM jaY jap jaK jal jam jax jao ja5 jb9 jbJ jae jag jaf ja0 jaC jbw jaw jaI jaZ jaH jaS jan jaU jaE jar jaL jah jaB jaa jaz jaG jab ja2 a0_s jaq jai jaO jaA jat jau jav jaj jas jaJ jak jad jay jac a0_s cyI f0_s)) hP hD hS hA [0, 1] (by decide +kernel) rfl
      refine va_calli (va_runV (As := [.int l1]) (rest := []) ⟨hx, hb, hml, hown, hts⟩ (qil l dC dI cyB cyI cyJ cyP a0 a0_s H.size (jaX) (jaF) (jaD) (ja7) (jby) (jbf) (jaM) (jaY) (jap) (jaK) (jal) (jam) (jax) (jao) (.ref ja5) (.ref jb9) (.ref jbJ) (jae) (jag) (jaf) (ja0) (.int jaC) (.int jbw) (jaw) (jaI) (jaZ) (jaH) (jaS) (jan) (jaU) (jaE) (jar) (jaL) (jah) (jaB) (jaa) (jaz) (jaG) (jab) (ja2) (jaq) (jai) (jaO) (jaA) (jat) (jau) (jav) (jaj) (jas) (jaJ) (jak) (jad) (jay) (jac) f0_s l1 hw) (cwV 1 hts gX11_passes_X11_isCaught rfl rfl rfl (by decide +kernel) ⟨nbq rfl, nbq rfl⟩) ⟨qab, va_recv (q := (RX11, TX11, 55)) hK hPc (ci := 11) (q0 := 0) rfl rfl, qae hPc hK hDc hNw⟩ rfl rfl hl.1 rfl (lv_room (nbq rfl)) (qaa qgH 8 rfl) ⟨nbq rfl, nbq rfl⟩) hS (fun q _ h => hFc q h) hFc (fun r8 u t H1 locs ht hvm hw hB hz1 hk1 hS => ?_)
      obtain ⟨hP1, hK1, hD1⟩ := hB
      rw [ht] at hP1
      obtain ⟨hP, hD⟩ := qad (wr := [(ja5, .inl (cyI, 16, .inl jbv)), (jbJ, .inl (cyI, 8, .inl jcx)), (jb9, .inl (cyI, 12, .inl jdH))]) (w1 := (qbcR a0 jaX jaF jaD ja7 jby jbf jaM jaY jap jaK jal jam jax jao ja5 jb9 jbJ jae jag jaf ja0 jaC jbw jaw jaI jaZ jaH jaS jan jaU jaE jar jaL jah jaB jaa jaz jaG jab ja2 a0_s jaq jai jaO jaA jat jau jav jaj jas jaJ jak jad jay jac a0_s cyI f0_s)) (wn := (qvl a0 jaX jaF jaD ja7 jby jbf jaM jaY jap jaK jal jam jax jao ja5 jb9 jbJ jae jag jaf ja0 jaC jbw jaw jaI jaZ jaH jaS jan jaU jaE jar jaL jah jaB jaa jaz jaG jab ja2 a0_s jaq jai jaO jaA jat jau jav jaj jas jaJ jak jad jay jac a0_s cyI f0_s ja5 cyI jbv jbJ cyI jcx jb9 cyI jdH)) hP hD [0, 1] [2, 3, 4] [3, 4, 0, 1, 2] hCc rfl (by decide +kernel) (by decide +kernel) (by decide +kernel) rfl hk1 hFc hP1 hD1
      generalize H1 = H at hP hS ⊢
      refine lv_if_ne (tgt := 43) hx hb (qaa qgH 9 rfl) (by decide) (fun c9 => ?_) (fun c9 => ?_)
      · have hw := hw.1 c9
        exact qMd dC dI cyB cyI cyJ cyP a0 a0_s ja5 jbJ jb9 jaX jaF jaD ja7 jby jbf jaM jaY jap jaK jal jam jax jao jae jag jaf ja0 jaw jaI jaZ jaH jaS jan jaU jaE jar jaL jah jaB jaa jaz jaG jab ja2 jaq jai jaO jaA jat jau jav jaj jas jaJ jak jad jay jac jaC jbw jbv jcx jdH Q (qpl jaC jbw jbv jcx jdH Q n) ih C0 _ _ _ f0_s l1 hP hD hS (lv_sub hl [0, 1] rfl) hw
      · have hw := hw.2 c9
        refine lv_aload_n hx hb (qaa qgH 10 rfl) rfl (lv_at hl 0 rfl) ?_
        refine va_get (D := (dC, dI)) (ci := 11) (v := .ref a0_s) (C := RX11) (T := TX11) (N := 55) hx hb hts qvG hown hK hP 0 rfl rfl 40 (by decide) (hts _ qyS) (fun _ h9 => h9) rfl (qaa qgH 11 rfl) ?_
        refine lv_bipush (v := 24) hx hb (qaa qgH 12 rfl) (by decide) ?_
        refine lv_iload_n hx hb (qaa qgH 13 rfl) rfl (lv_at hl 1 rfl) ?_
        refine lv_iadd hx hb (qaa qgH 14 rfl) ?_
        refine lv_topi (fun x10 ex10 => ?_)
        have hw := hw x10 ex10
        obtain ⟨hi9, hw⟩ := hw
        refine va_iald hx hb hK hP 1 1 rfl rfl hi9 (qaa qgH 15 rfl) ?_
        refine lv_topi (fun x11 ex11 => ?_)
        have hw := hw x11 ex11
        refine lv_if_ne (tgt := 43) hx hb (qaa qf4 0 rfl) (by decide) (fun c12 => ?_) (fun c12 => ?_)
        · have hw := hw.1 c12
          exact qMd dC dI cyB cyI cyJ cyP a0 a0_s ja5 jbJ jb9 jaX jaF jaD ja7 jby jbf jaM jaY jap jaK jal jam jax jao jae jag jaf ja0 jaw jaI jaZ jaH jaS jan jaU jaE jar jaL jah jaB jaa jaz jaG jab ja2 jaq jai jaO jaA jat jau jav jaj jas jaJ jak jad jay jac jaC jbw jbv jcx jdH Q (qpl jaC jbw jbv jcx jdH Q n) ih C0 _ _ _ f0_s l1 hP hD hS (lv_sub hl [0, 1] rfl) hw
        · have hw := hw.2 c12
          refine lv_aload_n hx hb (qaa qf4 1 rfl) rfl (lv_at hl 0 rfl) ?_
          refine va_get (D := (dC, dI)) (ci := 11) (v := .ref a0_s) (C := RX11) (T := TX11) (N := 55) hx hb hts qvG hown hK hP 0 rfl rfl 40 (by decide) (hts _ qyS) (fun _ h9 => h9) rfl (qaa qf4 2 rfl) ?_
          refine lv_bipush (v := 12) hx hb (qaa qf4 3 rfl) (by decide) ?_
          refine lv_iload_n hx hb (qaa qf4 4 rfl) rfl (lv_at hl 1 rfl) ?_
          refine lv_iadd hx hb (qaa qf4 5 rfl) ?_
          refine lv_topi (fun x13 ex13 => ?_)
          have hw := hw x13 ex13
          refine lv_dup2_11 hx hb (qaa qf4 6 rfl) rfl rfl ?_
          obtain ⟨hi9, hw⟩ := hw
          refine va_iald hx hb hK hP 1 1 rfl rfl hi9 (qaa qf4 7 rfl) ?_
          refine lv_topi (fun x14 ex14 => ?_)
          have hw := hw x14 ex14
          refine lv_iconst (v := 1) hx hb (qaa qf4 8 rfl) (by decide) ?_
          refine lv_iadd hx hb (qaa qf4 9 rfl) ?_
          refine lv_topi (fun x15 ex15 => ?_)
          have hw := hw x15 ex15
          obtain ⟨hi9, hw⟩ := hw
          refine va_iast hx hb hK hP hD hS 1 1 rfl rfl hi9 (qaa qf4 10 rfl) (fun H locs hP hD hS => ?_)
          obtain ⟨f16, ef16⟩ : ∃ y : NI, y = upd f0_s x13.toNatClampNeg x15 := ⟨_, rfl⟩
          have hw := hw f16 ef16
          have hP : va_P (dC, dI) vwCl (qvl a0 jaX jaF jaD ja7 jby jbf jaM jaY jap jaK jal jam jax jao ja5 jb9 jbJ jae jag jaf ja0 jaC jbw jaw jaI jaZ jaH jaS jan jaU jaE jar jaL jah jaB jaa jaz jaG jab ja2 a0_s jaq jai jaO jaA jat jau jav jaj jas jaJ jak jad jay jac a0_s cyI f16 ja5 cyI jbv jbJ cyI jcx jb9 cyI jdH) H := by rw [ef16]; exact hP
          have hD : va_D A (qvl a0 jaX jaF jaD ja7 jby jbf jaM jaY jap jaK jal jam jax jao ja5 jb9 jbJ jae jag jaf ja0 jaC jbw jaw jaI jaZ jaH jaS jan jaU jaE jar jaL jah jaB jaa jaz jaG jab ja2 a0_s jaq jai jaO jaA jat jau jav jaj jas jaJ jak jad jay jac a0_s cyI f16 ja5 cyI jbv jbJ cyI jcx jb9 cyI jdH) := by rw [ef16]; exact hD
          exact qMd dC dI cyB cyI cyJ cyP a0 a0_s ja5 jbJ jb9 jaX jaF jaD ja7 jby jbf jaM jaY jap jaK jal jam jax jao jae jag jaf ja0 jaw jaI jaZ jaH jaS jan jaU jaE jar jaL jah jaB jaa jaz jaG jab ja2 jaq jai jaO jaA jat jau jav jaj jas jaJ jak jad jay jac jaC jbw jbv jcx jdH Q (qpl jaC jbw jbv jcx jdH Q n) ih C0 _ _ _ f16 l1 hP hD hS (lv_sub hl [0, 1] rfl) hw
set_option maxHeartbeats 4000000 in
set_option maxRecDepth 100000 in
theorem qXL (l : Launch) (dC : Nat → ClassId) (dI : Nat → Nat → Nat) (cyB cyI cyJ cyP : ClassId) (a0 a0_s ja5 jbJ jb9 sz : Nat) (jaX jaF jaD ja7 jby jbf jaM jaY jap jaK jal jam jax jao jae jag jaf ja0 jaw jaI jaZ jaH jaS jan jaU jaE jar jaL jah jaB jaa jaz jaG jab ja2 jaq jai jaO jaA jat jau jav jaj jas jaJ jak jad jay jac : Value) (jaC jbw : Int32) (jbv jcx jdH f0_s : NI) {Q : NI → Prop} (hw : qCs jaC jbw jbv jcx jdH f0_s Q) : Met l yX11_passes wsX11_passes ({ frames := 4, cells := 0, slots := 0, locals := 85 }) (va_Pc [.ref a0] (cPc (dC, dI) (kT cyB cyI cyJ cyP) (qvl a0 jaX jaF jaD ja7 jby jbf jaM jaY jap jaK jal jam jax jao ja5 jb9 jbJ jae jag jaf ja0 jaC jbw jaw jaI jaZ jaH jaS jan jaU jaE jar jaL jah jaB jaa jaz jaG jab ja2 a0_s jaq jai jaO jaA jat jau jav jaj jas jaJ jak jad jay jac a0_s cyI f0_s ja5 cyI jbv jbJ cyI jcx jb9 cyI jdH) sz)) (va_Qv (fun (u : NI) => Q u) (cB (dC, dI) (kT cyB cyI cyJ cyP) (va_A (qvl a0 jaX jaF jaD ja7 jby jbf jaM jaY jap jaK jal jam jax jao ja5 jb9 jbJ jae jag jaf ja0 jaC jbw jaw jaI jaZ jaH jaS jan jaU jaE jar jaL jah jaB jaa jaz jaG jab ja2 a0_s jaq jai jaO jaA jat jau jav jaj jas jaJ jak jad jay jac a0_s cyI f0_s ja5 cyI jbv jbJ cyI jcx jb9 cyI jdH) sz) (fun u : NI => ((qvl a0 jaX jaF jaD ja7 jby jbf jaM jaY jap jaK jal jam jax jao ja5 jb9 jbJ jae jag jaf ja0 jaC jbw jaw jaI jaZ jaH jaS jan jaU jaE jar jaL jah jaB jaa jaz jaG jab ja2 a0_s jaq jai jaO jaA jat jau jav jaj jas jaJ jak jad jay jac a0_s cyI u ja5 cyI jbv jbJ cyI jcx jb9 cyI jdH) : va_W))) (va_A (qvl a0 jaX jaF jaD ja7 jby jbf jaM jaY jap jaK jal jam jax jao ja5 jb9 jbJ jae jag jaf ja0 jaC jbw jaw jaI jaZ jaH jaS jan jaU jaE jar jaL jah jaB jaa jaz jaG jab ja2 a0_s jaq jai jaO jaA jat jau jav jaj jas jaJ jak jad jay jac a0_s cyI f0_s ja5 cyI jbv jbJ cyI jcx jb9 cyI jdH) sz)) 0 0 (va_A (qvl a0 jaX jaF jaD ja7 jby jbf jaM jaY jap jaK jal jam jax jao ja5 jb9 jbJ jae jag jaf ja0 jaC jbw jaw jaI jaZ jaH jaS jan jaU jaE jar jaL jah jaB jaa jaz jaG jab ja2 a0_s jaq jai jaO jaA jat jau jav jaj jas jaJ jak jad jay jac a0_s cyI f0_s ja5 cyI jbv jbJ cyI jcx jb9 cyI jdH) sz) := by
  refine Met.ofW (cc := cX11_passes) (maxL := 2) (ret := none) (by decide) rfl ?_
  intro p e s m args below meth c s₁ B hml hv
  obtain ⟨rfl, hsz, hP, hK, hD0, hNw⟩ := hv
  have hx := B.exec
  have hb := B.bytes
  have hr := B.returns
  have hts := atoms_spec (ws := wsX11_passes) B.pre
  have hown : s.vm.findClass RX11 = some m.cls := findClass_of_methodNamed B.named
  have hlocks := B.notSynchronized
  subst hsz
  have hD := hD0.self (sz := s.heap.size)
  generalize hAe : va_A (qvl a0 jaX jaF jaD ja7 jby jbf jaM jaY jap jaK jal jam jax jao ja5 jb9 jbJ jae jag jaf ja0 jaC jbw jaw jaI jaZ jaH jaS jan jaU jaE jar jaL jah jaB jaa jaz jaG jab ja2 a0_s jaq jai jaO jaA jat jau jav jaj jas jaJ jak jad jay jac a0_s cyI f0_s ja5 cyI jbv jbJ cyI jcx jb9 cyI jdH) s.heap.size = A at hD ⊢
  have hA : ∀ q : Nat, s.heap.size ≤ q → A q := fun q h => by rw [← hAe]; exact Or.inr h
  have hS : va_S A s.heap s.heap [] := va_S.rf
  have hP : va_P (dC, dI) vwCl (qvl a0 jaX jaF jaD ja7 jby jbf jaM jaY jap jaK jal jam jax jao ja5 jb9 jbJ jae jag jaf ja0 jaC jbw jaw jaI jaZ jaH jaS jan jaU jaE jar jaL jah jaB jaa jaz jaG jab ja2 a0_s jaq jai jaO jaA jat jau jav jaj jas jaJ jak jad jay jac a0_s cyI f0_s ja5 cyI jbv jbJ cyI jcx jb9 cyI jdH) s.heap := hP
  have hl := lv_entry ([.ref a0]) (n := 2) (nbq rfl)
  rw [lg_entry_eq]
  generalize (lg_sl ([.ref a0]) ++ List.replicate (2 - (lg_sl ([.ref a0])).length) Slot.unset).toArray = ls at hl ⊢
  have hl : lv_has ls 2 [(0, .ref a0)] := hl
  have C0 : cfx p s m _ meth c cX11_passes none wsX11_passes RX11 2 A (dC, dI) (kT cyB cyI cyJ cyP) := ⟨hx, hb, hr, hts, hown, hlocks, hml, hA, hK, hNw⟩
  clear hAe
  obtain ⟨H, hH⟩ : ∃ H, H = s.heap := ⟨_, rfl⟩
  rw [← hH] at hP ⊢
  have hS : va_S A s.heap H [] := by rw [hH]; exact va_S.rf
  have hS := hS
  refine lv_iconst (v := 0) hx hb (qaa qgH 0 rfl) (by decide) ?_
  refine lv_istore_n (lv' := [(1, .int 0), (0, .ref a0)]) hx hb (qaa qgH 1 rfl) rfl hl (by decide) rfl (fun ls hl => ?_)
  obtain ⟨n9, hw⟩ := hw
  exact qavo dC dI cyB cyI cyJ cyP a0 a0_s ja5 jbJ jb9 jaX jaF jaD ja7 jby jbf jaM jaY jap jaK jal jam jax jao jae jag jaf ja0 jaw jaI jaZ jaH jaS jan jaU jaE jar jaL jah jaB jaa jaz jaG jab ja2 jaq jai jaO jaA jat jau jav jaj jas jaJ jak jad jay jac jaC jbw jbv jcx jdH Q C0 n9 _ _ _ f0_s 0 hP hD hS (lv_sub hl [1, 0] rfl) hw
theorem q6Z : ∀ w ∈ u_ws RX11 TX11 55, w ∈ wsX11_caughtNow := uiM qHW qga (by decide +kernel)
theorem q4k : (.fieldLink RX11 169 "MarchHaresModel" "hares" "I" : Cond) ∈ wsX11_caughtNow := qHW 520 (by decide +kernel)
set_option maxHeartbeats 4000000 in
set_option maxRecDepth 100000 in
theorem qP6 {p : Program} {l : Launch} {e : Env} {s : State} {m : MethodId} {args : Array Value} {below : List Frame} {meth : Method} {c : Code} {A : Nat → Prop} (dC : Nat → ClassId) (dI : Nat → Nat → Nat) (cyB cyI cyJ cyP : ClassId) (a0 a0_s : Nat) (jaX jaF jaD ja7 jby jbf jaM jaY jap jaK jal jam jax jao ja6 jaV ja8 jae jag jaf ja0 jaP jaw jaI jaZ jaH jaS jan jaU jaE jar jaL jah jaB jaa jaz jaG jab ja2 jaq jai jaO jaA jat jau jav jaj jas jaJ jak jad jay jac : Value) (jaC : Int32) (f0_s : NI) (Q : Int32 → Prop) (K4 : Int32 → Int32 → Prop) (hK4 : ∀ (H : Heap) (locs : List Loc) (ls : Array Slot) (l1 l2 : Int32), va_P (dC, dI) vwCl (qIr a0 jaX jaF jaD ja7 jby jbf jaM jaY jap jaK jal jam jax jao ja6 jaV ja8 jae jag jaf ja0 jaC jaP jaw jaI jaZ jaH jaS jan jaU jaE jar jaL jah jaB jaa jaz jaG jab ja2 a0_s jaq jai jaO jaA jat jau jav jaj jas jaJ jak jad jay jac a0_s cyI f0_s) H → va_D A (qIr a0 jaX jaF jaD ja7 jby jbf jaM jaY jap jaK jal jam jax jao ja6 jaV ja8 jae jag jaf ja0 jaC jaP jaw jaI jaZ jaH jaS jan jaU jaE jar jaL jah jaB jaa jaz jaG jab ja2 a0_s jaq jai jaO jaA jat jau jav jaj jas jaJ jak jad jay jac a0_s cyI f0_s) → va_S A s.heap H locs → lv_has ls 3 [(0, .ref a0), (1, .int l1), (2, .int l2)] → K4 l1 l2 → W p l e (headSpec wsX11_caughtNow ({ frames := 1, cells := 0, slots := 0, locals := 21 })).room s m args below meth c H locs 0 0 (MQ below (va_Qi (fun (r : Int32) (_ : Unit) => Q r ) (cB (dC, dI) (kT cyB cyI cyJ cyP) A (fun u : Unit => ((qIr a0 jaX jaF jaD ja7 jby jbf jaM jaY jap jaK jal jam jax jao ja6 jaV ja8 jae jag jaf ja0 jaC jaP jaw jaI jaZ jaH jaS jan jaU jaE jar jaL jah jaB jaa jaz jaG jab ja2 a0_s jaq jai jaO jaA jat jau jav jaj jas jaJ jak jad jay jac a0_s cyI f0_s) : va_W))) A) args s 0 0 A) (F0 m 4 ls [])) (C0 : cfx p s m args meth c cX11_caughtNow (some .int) wsX11_caughtNow RX11 3 A (dC, dI) (kT cyB cyI cyJ cyP)) : ∀ (H : Heap) (locs : List Loc) (ls : Array Slot) (l2 s0 s1 : Int32), va_P (dC, dI) vwCl (qIr a0 jaX jaF jaD ja7 jby jbf jaM jaY jap jaK jal jam jax jao ja6 jaV ja8 jae jag jaf ja0 jaC jaP jaw jaI jaZ jaH jaS jan jaU jaE jar jaL jah jaB jaa jaz jaG jab ja2 a0_s jaq jai jaO jaA jat jau jav jaj jas jaJ jak jad jay jac a0_s cyI f0_s) H → va_D A (qIr a0 jaX jaF jaD ja7 jby jbf jaM jaY jap jaK jal jam jax jao ja6 jaV ja8 jae jag jaf ja0 jaC jaP jaw jaI jaZ jaH jaS jan jaU jaE jar jaL jah jaB jaa jaz jaG jab ja2 a0_s jaq jai jaO jaA jat jau jav jaj jas jaJ jak jad jay jac a0_s cyI f0_s) → va_S A s.heap H locs → lv_has ls 3 [(0, .ref a0), (2, .int l2)] → qFK jaC f0_s Q K4 l2 s0 s1 → W p l e (headSpec wsX11_caughtNow ({ frames := 1, cells := 0, slots := 0, locals := 21 })).room s m args below meth c H locs 0 0 (MQ below (va_Qi (fun (r : Int32) (_ : Unit) => Q r ) (cB (dC, dI) (kT cyB cyI cyJ cyP) A (fun u : Unit => ((qIr a0 jaX jaF jaD ja7 jby jbf jaM jaY jap jaK jal jam jax jao ja6 jaV ja8 jae jag jaf ja0 jaC jaP jaw jaI jaZ jaH jaS jan jaU jaE jar jaL jah jaB jaa jaz jaG jab ja2 a0_s jaq jai jaO jaA jat jau jav jaj jas jaJ jak jad jay jac a0_s cyI f0_s) : va_W))) A) args s 0 0 A) (F0 m 28 ls [.int s1, .int s0]) := by
  obtain ⟨hx, hb, hr, hts, hown, hlocks, hml, hA, hK, hNw⟩ := id C0
  intro H locs ls l2 s0 s1 hP hD hS hl hw
  refine lv_ior hx hb (qaa qpe 2 rfl) ?_
  refine lv_topi (fun x4 ex4 => ?_)
  have hw := hw x4 ex4
  refine lv_istore_n (lv' := [(1, .int x4), (0, .ref a0), (2, .int l2)]) hx hb (qaa qpe 3 rfl) rfl hl (by decide) rfl (fun ls hl => ?_)
  obtain ⟨x5, ex5⟩ : ∃ y : Int32, y = l2 + 1 := ⟨_, rfl⟩
  have hw := hw x5 ex5
  refine lv_iinc (v := x5) (lv' := [(2, .int x5), (1, .int x4), (0, .ref a0)]) hx hb (qaa qpe 4 rfl) hl (k := 2) rfl (by rw [ex5]; rfl) (by decide) rfl (fun ls hl => ?_)
  refine lv_goto (tgt := 4) hx hb (qaa qpe 5 rfl) (by decide) ?_
  exact hK4 _ _ _ x4 x5 hP hD hS (lv_sub hl [2, 1, 0] rfl) hw
set_option maxHeartbeats 4000000 in
set_option maxRecDepth 100000 in
theorem qad0 {p : Program} {l : Launch} {e : Env} {s : State} {m : MethodId} {args : Array Value} {below : List Frame} {meth : Method} {c : Code} {A : Nat → Prop} (dC : Nat → ClassId) (dI : Nat → Nat → Nat) (cyB cyI cyJ cyP : ClassId) (a0 a0_s : Nat) (jaX jaF jaD ja7 jby jbf jaM jaY jap jaK jal jam jax jao ja6 jaV ja8 jae jag jaf ja0 jaP jaw jaI jaZ jaH jaS jan jaU jaE jar jaL jah jaB jaa jaz jaG jab ja2 jaq jai jaO jaA jat jau jav jaj jas jaJ jak jad jay jac : Value) (jaC : Int32) (f0_s : NI) (Q : Int32 → Prop) (C0 : cfx p s m args meth c cX11_caughtNow (some .int) wsX11_caughtNow RX11 3 A (dC, dI) (kT cyB cyI cyJ cyP)) : ∀ (n : Nat) (H : Heap) (locs : List Loc) (ls : Array Slot) (l1 l2 : Int32), va_P (dC, dI) vwCl (qIr a0 jaX jaF jaD ja7 jby jbf jaM jaY jap jaK jal jam jax jao ja6 jaV ja8 jae jag jaf ja0 jaC jaP jaw jaI jaZ jaH jaS jan jaU jaE jar jaL jah jaB jaa jaz jaG jab ja2 a0_s jaq jai jaO jaA jat jau jav jaj jas jaJ jak jad jay jac a0_s cyI f0_s) H → va_D A (qIr a0 jaX jaF jaD ja7 jby jbf jaM jaY jap jaK jal jam jax jao ja6 jaV ja8 jae jag jaf ja0 jaC jaP jaw jaI jaZ jaH jaS jan jaU jaE jar jaL jah jaB jaa jaz jaG jab ja2 a0_s jaq jai jaO jaA jat jau jav jaj jas jaJ jak jad jay jac a0_s cyI f0_s) → va_S A s.heap H locs → lv_has ls 3 [(0, .ref a0), (1, .int l1), (2, .int l2)] → qso jaC f0_s Q n l1 l2 → W p l e (headSpec wsX11_caughtNow ({ frames := 1, cells := 0, slots := 0, locals := 21 })).room s m args below meth c H locs 0 0 (MQ below (va_Qi (fun (r : Int32) (_ : Unit) => Q r ) (cB (dC, dI) (kT cyB cyI cyJ cyP) A (fun u : Unit => ((qIr a0 jaX jaF jaD ja7 jby jbf jaM jaY jap jaK jal jam jax jao ja6 jaV ja8 jae jag jaf ja0 jaC jaP jaw jaI jaZ jaH jaS jan jaU jaE jar jaL jah jaB jaa jaz jaG jab ja2 a0_s jaq jai jaO jaA jat jau jav jaj jas jaJ jak jad jay jac a0_s cyI f0_s) : va_W))) A) args s 0 0 A) (F0 m 4 ls []) := by
  obtain ⟨hx, hb, hr, hts, hown, hlocks, hml, hA, hK, hNw⟩ := id C0
  intro n
  induction n with
  | zero => intro H locs ls l1 l2 hP hD hS hl hw; exact False.elim hw
  | succ n ih =>
    intro H locs ls l1 l2 hP hD hS hl hw
    refine lv_iload_n hx hb (qaa qc3 4 rfl) rfl (lv_at hl 2 rfl) ?_
    refine lv_aload_n hx hb (qaa qc3 5 rfl) rfl (lv_at hl 0 rfl) ?_
    refine va_get (D := (dC, dI)) (ci := 11) (v := .int jaC) (C := RX11) (T := TX11) (N := 55) hx hb hts q6Z hown hK hP 0 rfl rfl 21 (by decide) (hts _ q4k) (fun _ h9 => h9) rfl (qaa qc3 6 rfl) ?_
    refine lv_icmp_ge (tgt := 36) hx hb (qaa qc3 7 rfl) (by decide) (fun c1 => ?_) (fun c1 => ?_)
    · have hw := hw.1 c1
      refine lv_iload_n hx hb (qaa qpe 6 rfl) rfl (lv_at hl 1 rfl) ?_
      exact ((W.iret (v := l1) hx hb hr (fun t ht hW => ⟨⟨l1, (), rfl, hw, by rw [ht]; exact hP, va_K.moved hW.alike hK, hD⟩, hS.F ht⟩) hS.2.2 (qaa qpe 7 rfl)))
    · have hw := hw.2 c1
      refine lv_iload_n hx hb (qaa qc3 8 rfl) rfl (lv_at hl 1 rfl) ?_
      refine lv_aload_n hx hb (qaa qc3 9 rfl) rfl (lv_at hl 0 rfl) ?_
      refine lv_iload_n hx hb (qaa qc3 10 rfl) rfl (lv_at hl 2 rfl) ?_
      obtain ⟨hCc, hPc, hDc, hFc⟩ := qac (ws' := (qIr a0 jaX jaF jaD ja7 jby jbf jaM jaY jap jaK jal jam jax jao ja6 jaV ja8 jae jag jaf ja0 jaC jaP jaw jaI jaZ jaH jaS jan jaU jaE jar jaL jah jaB jaa jaz jaG jab ja2 a0_s jaq jai jaO jaA jat jau jav jaj jas jaJ jak jad jay jac a0_s cyI f0_s)) hP hD hS hA [0, 1] (by decide +kernel) rfl
      refine va_calli (va_runV (As := [.int l2]) (rest := [.int l1]) ⟨hx, hb, hml, hown, hts⟩ (qil l dC dI cyB cyI cyJ cyP a0 a0_s H.size (jaX) (jaF) (jaD) (ja7) (jby) (jbf) (jaM) (jaY) (jap) (jaK) (jal) (jam) (jax) (jao) (ja6) (jaV) (ja8) (jae) (jag) (jaf) (ja0) (.int jaC) (jaP) (jaw) (jaI) (jaZ) (jaH) (jaS) (jan) (jaU) (jaE) (jar) (jaL) (jah) (jaB) (jaa) (jaz) (jaG) (jab) (ja2) (jaq) (jai) (jaO) (jaA) (jat) (jau) (jav) (jaj) (jas) (jaJ) (jak) (jad) (jay) (jac) f0_s l2 hw) (cwV 1 hts gX11_caughtNow_X11_isCaught rfl rfl rfl (by decide +kernel) ⟨nbq rfl, nbq rfl⟩) ⟨qab, va_recv (q := (RX11, TX11, 55)) hK hPc (ci := 11) (q0 := 0) rfl rfl, qae hPc hK hDc hNw⟩ rfl rfl hl.1 rfl (lv_room (nbq rfl)) (qaa qc3 11 rfl) ⟨nbq rfl, nbq rfl⟩) hS (fun q _ h => hFc q h) hFc (fun r2 u t H1 locs ht hvm hw hB hz1 hk1 hS => ?_)
      obtain ⟨hP1, hK1, hD1⟩ := hB
      rw [ht] at hP1
      obtain ⟨hP, hD⟩ := qah (wr := []) (w1 := (qIr a0 jaX jaF jaD ja7 jby jbf jaM jaY jap jaK jal jam jax jao ja6 jaV ja8 jae jag jaf ja0 jaC jaP jaw jaI jaZ jaH jaS jan jaU jaE jar jaL jah jaB jaa jaz jaG jab ja2 a0_s jaq jai jaO jaA jat jau jav jaj jas jaJ jak jad jay jac a0_s cyI f0_s)) (wn := (qIr a0 jaX jaF jaD ja7 jby jbf jaM jaY jap jaK jal jam jax jao ja6 jaV ja8 jae jag jaf ja0 jaC jaP jaw jaI jaZ jaH jaS jan jaU jaE jar jaL jah jaB jaa jaz jaG jab ja2 a0_s jaq jai jaO jaA jat jau jav jaj jas jaJ jak jad jay jac a0_s cyI f0_s)) hP hD [0, 1] [] hCc rfl (by decide +kernel) (by decide +kernel) rfl hk1 hFc hP1 hD1
      generalize H1 = H at hP hS ⊢
      refine lv_if_eq (tgt := 27) hx hb (qaa qc3 12 rfl) (by decide) (fun c3 => ?_) (fun c3 => ?_)
      · have hw := hw.1 c3
        refine lv_iconst (v := 0) hx hb (qaa qpe 1 rfl) (by decide) ?_
        exact qP6 dC dI cyB cyI cyJ cyP a0 a0_s jaX jaF jaD ja7 jby jbf jaM jaY jap jaK jal jam jax jao ja6 jaV ja8 jae jag jaf ja0 jaP jaw jaI jaZ jaH jaS jan jaU jaE jar jaL jah jaB jaa jaz jaG jab ja2 jaq jai jaO jaA jat jau jav jaj jas jaJ jak jad jay jac jaC f0_s Q (qso jaC f0_s Q n) ih C0 _ _ _ l2 l1 0 hP hD hS (lv_sub hl [0, 2] rfl) hw
      · have hw := hw.2 c3
        refine lv_iconst (v := 1) hx hb (qaa qc3 13 rfl) (by decide) ?_
        refine lv_iload_n hx hb (qaa qc3 14 rfl) rfl (lv_at hl 2 rfl) ?_
        refine lv_ishl hx hb (qaa qc3 15 rfl) ?_
        refine lv_goto (tgt := 28) hx hb (qaa qpe 0 rfl) (by decide) ?_
        exact qP6 dC dI cyB cyI cyJ cyP a0 a0_s jaX jaF jaD ja7 jby jbf jaM jaY jap jaK jal jam jax jao ja6 jaV ja8 jae jag jaf ja0 jaP jaw jaI jaZ jaH jaS jan jaU jaE jar jaL jah jaB jaa jaz jaG jab ja2 jaq jai jaO jaA jat jau jav jaj jas jaJ jak jad jay jac jaC f0_s Q (qso jaC f0_s Q n) ih C0 _ _ _ l2 l1 (1 <<< (l2 &&& 31)) hP hD hS (lv_sub hl [0, 2] rfl) hw
set_option maxHeartbeats 4000000 in
set_option maxRecDepth 100000 in
theorem qEr (l : Launch) (dC : Nat → ClassId) (dI : Nat → Nat → Nat) (cyB cyI cyJ cyP : ClassId) (a0 a0_s sz : Nat) (jaX jaF jaD ja7 jby jbf jaM jaY jap jaK jal jam jax jao ja6 jaV ja8 jae jag jaf ja0 jaP jaw jaI jaZ jaH jaS jan jaU jaE jar jaL jah jaB jaa jaz jaG jab ja2 jaq jai jaO jaA jat jau jav jaj jas jaJ jak jad jay jac : Value) (jaC : Int32) (f0_s : NI) {Q : Int32 → Prop} (hw : qww jaC f0_s Q) : Met l yX11_caughtNow wsX11_caughtNow ({ frames := 1, cells := 0, slots := 0, locals := 21 }) (va_Pc [.ref a0] (cPc (dC, dI) (kT cyB cyI cyJ cyP) (qIr a0 jaX jaF jaD ja7 jby jbf jaM jaY jap jaK jal jam jax jao ja6 jaV ja8 jae jag jaf ja0 jaC jaP jaw jaI jaZ jaH jaS jan jaU jaE jar jaL jah jaB jaa jaz jaG jab ja2 a0_s jaq jai jaO jaA jat jau jav jaj jas jaJ jak jad jay jac a0_s cyI f0_s) sz)) (va_Qi (fun (r : Int32) (_ : Unit) => Q r ) (cB (dC, dI) (kT cyB cyI cyJ cyP) (va_A (qIr a0 jaX jaF jaD ja7 jby jbf jaM jaY jap jaK jal jam jax jao ja6 jaV ja8 jae jag jaf ja0 jaC jaP jaw jaI jaZ jaH jaS jan jaU jaE jar jaL jah jaB jaa jaz jaG jab ja2 a0_s jaq jai jaO jaA jat jau jav jaj jas jaJ jak jad jay jac a0_s cyI f0_s) sz) (fun u : Unit => ((qIr a0 jaX jaF jaD ja7 jby jbf jaM jaY jap jaK jal jam jax jao ja6 jaV ja8 jae jag jaf ja0 jaC jaP jaw jaI jaZ jaH jaS jan jaU jaE jar jaL jah jaB jaa jaz jaG jab ja2 a0_s jaq jai jaO jaA jat jau jav jaj jas jaJ jak jad jay jac a0_s cyI f0_s) : va_W))) (va_A (qIr a0 jaX jaF jaD ja7 jby jbf jaM jaY jap jaK jal jam jax jao ja6 jaV ja8 jae jag jaf ja0 jaC jaP jaw jaI jaZ jaH jaS jan jaU jaE jar jaL jah jaB jaa jaz jaG jab ja2 a0_s jaq jai jaO jaA jat jau jav jaj jas jaJ jak jad jay jac a0_s cyI f0_s) sz)) 0 0 (va_A (qIr a0 jaX jaF jaD ja7 jby jbf jaM jaY jap jaK jal jam jax jao ja6 jaV ja8 jae jag jaf ja0 jaC jaP jaw jaI jaZ jaH jaS jan jaU jaE jar jaL jah jaB jaa jaz jaG jab ja2 a0_s jaq jai jaO jaA jat jau jav jaj jas jaJ jak jad jay jac a0_s cyI f0_s) sz) := by
  refine Met.ofW (cc := cX11_caughtNow) (maxL := 3) (ret := (some .int)) (by decide) rfl ?_
  intro p e s m args below meth c s₁ B hml hv
  obtain ⟨rfl, hsz, hP, hK, hD0, hNw⟩ := hv
  have hx := B.exec
  have hb := B.bytes
  have hr := B.returns
  have hts := atoms_spec (ws := wsX11_caughtNow) B.pre
  have hown : s.vm.findClass RX11 = some m.cls := findClass_of_methodNamed B.named
  have hlocks := B.notSynchronized
  subst hsz
  have hD := hD0.self (sz := s.heap.size)
  generalize hAe : va_A (qIr a0 jaX jaF jaD ja7 jby jbf jaM jaY jap jaK jal jam jax jao ja6 jaV ja8 jae jag jaf ja0 jaC jaP jaw jaI jaZ jaH jaS jan jaU jaE jar jaL jah jaB jaa jaz jaG jab ja2 a0_s jaq jai jaO jaA jat jau jav jaj jas jaJ jak jad jay jac a0_s cyI f0_s) s.heap.size = A at hD ⊢
  have hA : ∀ q : Nat, s.heap.size ≤ q → A q := fun q h => by rw [← hAe]; exact Or.inr h
  have hS : va_S A s.heap s.heap [] := va_S.rf
  have hP : va_P (dC, dI) vwCl (qIr a0 jaX jaF jaD ja7 jby jbf jaM jaY jap jaK jal jam jax jao ja6 jaV ja8 jae jag jaf ja0 jaC jaP jaw jaI jaZ jaH jaS jan jaU jaE jar jaL jah jaB jaa jaz jaG jab ja2 a0_s jaq jai jaO jaA jat jau jav jaj jas jaJ jak jad jay jac a0_s cyI f0_s) s.heap := hP
  have hl := lv_entry ([.ref a0]) (n := 3) (nbq rfl)
  rw [lg_entry_eq]
  generalize (lg_sl ([.ref a0]) ++ List.replicate (3 - (lg_sl ([.ref a0])).length) Slot.unset).toArray = ls at hl ⊢
  have hl : lv_has ls 3 [(0, .ref a0)] := hl
  have C0 : cfx p s m _ meth c cX11_caughtNow (some .int) wsX11_caughtNow RX11 3 A (dC, dI) (kT cyB cyI cyJ cyP) := ⟨hx, hb, hr, hts, hown, hlocks, hml, hA, hK, hNw⟩
  clear hAe
  obtain ⟨H, hH⟩ : ∃ H, H = s.heap := ⟨_, rfl⟩
  rw [← hH] at hP ⊢
  have hS : va_S A s.heap H [] := by rw [hH]; exact va_S.rf
  have hS := hS
  refine lv_iconst (v := 0) hx hb (qaa qc3 0 rfl) (by decide) ?_
  refine lv_istore_n (lv' := [(1, .int 0), (0, .ref a0)]) hx hb (qaa qc3 1 rfl) rfl hl (by decide) rfl (fun ls hl => ?_)
  refine lv_iconst (v := 0) hx hb (qaa qc3 2 rfl) (by decide) ?_
  refine lv_istore_n (lv' := [(2, .int 0), (1, .int 0), (0, .ref a0)]) hx hb (qaa qc3 3 rfl) rfl hl (by decide) rfl (fun ls hl => ?_)
  obtain ⟨n9, hw⟩ := hw
  exact qad0 dC dI cyB cyI cyJ cyP a0 a0_s jaX jaF jaD ja7 jby jbf jaM jaY jap jaK jal jam jax jao ja6 jaV ja8 jae jag jaf ja0 jaP jaw jaI jaZ jaH jaS jan jaU jaE jar jaL jah jaB jaa jaz jaG jab ja2 jaq jai jaO jaA jat jau jav jaj jas jaJ jak jad jay jac jaC f0_s Q C0 n9 _ _ _ 0 0 hP hD hS (lv_sub hl [2, 1, 0] rfl) hw
theorem qab7 : ∀ w ∈ u_ws RX11 TX11 55, w ∈ wsX11_debtsNow := uiM q7k qga (by decide +kernel)
theorem q8C : (.fieldLink RX11 71 "MarchHaresModel" "s" "[I" : Cond) ∈ wsX11_debtsNow := q7k 457 (by decide +kernel)
set_option maxHeartbeats 4000000 in
set_option maxRecDepth 100000 in
theorem qakR {p : Program} {l : Launch} {e : Env} {s : State} {m : MethodId} {args : Array Value} {below : List Frame} {meth : Method} {c : Code} {A : Nat → Prop} (dC : Nat → ClassId) (dI : Nat → Nat → Nat) (cyB cyI cyJ cyP : ClassId) (a0 a0_s : Nat) (jaX jaF jaD ja7 jby jbf jaM jaY jap jaK jal jam jax jao ja6 jaV ja8 jae jag jaf ja0 ja4 jaP jaw jaI jaZ jaH jaS jan jaU jaE jar jaL jah jaB jaa jaz jaG jab ja2 jaq jai jaO jaA jat jau jav jaj jas jaJ jak jad jay jac : Value) (f0_s : NI) (Q : Int32 → Prop) (C0 : cfx p s m args meth c cX11_debtsNow (some .int) wsX11_debtsNow RX11 3 A (dC, dI) (kT cyB cyI cyJ cyP)) : ∀ (n : Nat) (H : Heap) (locs : List Loc) (ls : Array Slot) (l1 l2 : Int32), va_P (dC, dI) vwCl (q7d a0 jaX jaF jaD ja7 jby jbf jaM jaY jap jaK jal jam jax jao ja6 jaV ja8 jae jag jaf ja0 ja4 jaP jaw jaI jaZ jaH jaS jan jaU jaE jar jaL jah jaB jaa jaz jaG jab ja2 a0_s jaq jai jaO jaA jat jau jav jaj jas jaJ jak jad jay jac a0_s cyI f0_s) H → va_D A (q7d a0 jaX jaF jaD ja7 jby jbf jaM jaY jap jaK jal jam jax jao ja6 jaV ja8 jae jag jaf ja0 ja4 jaP jaw jaI jaZ jaH jaS jan jaU jaE jar jaL jah jaB jaa jaz jaG jab ja2 a0_s jaq jai jaO jaA jat jau jav jaj jas jaJ jak jad jay jac a0_s cyI f0_s) → va_S A s.heap H locs → lv_has ls 3 [(0, .ref a0), (1, .int l1), (2, .int l2)] → qCD f0_s Q n l1 l2 → W p l e (headSpec wsX11_debtsNow ({ frames := 0, cells := 0, slots := 0, locals := 0 })).room s m args below meth c H locs 0 0 (MQ below (va_Qi (fun (r : Int32) (_ : Unit) => Q r ) (cB (dC, dI) (kT cyB cyI cyJ cyP) A (fun u : Unit => ((q7d a0 jaX jaF jaD ja7 jby jbf jaM jaY jap jaK jal jam jax jao ja6 jaV ja8 jae jag jaf ja0 ja4 jaP jaw jaI jaZ jaH jaS jan jaU jaE jar jaL jah jaB jaa jaz jaG jab ja2 a0_s jaq jai jaO jaA jat jau jav jaj jas jaJ jak jad jay jac a0_s cyI f0_s) : va_W))) A) args s 0 0 A) (F0 m 4 ls []) := by
  obtain ⟨hx, hb, hr, hts, hown, hlocks, hml, hA, hK, hNw⟩ := id C0
  intro n
  induction n with
  | zero => intro H locs ls l1 l2 hP hD hS hl hw; exact False.elim hw
  | succ n ih =>
    intro H locs ls l1 l2 hP hD hS hl hw
    refine lv_iload_n hx hb (qaa qeA 4 rfl) rfl (lv_at hl 2 rfl) ?_
    refine lv_bipush (v := 36) hx hb (qaa qeA 5 rfl) (by decide) ?_
    refine lv_icmp_ge (tgt := 28) hx hb (qaa qeA 6 rfl) (by decide) (fun c1 => ?_) (fun c1 => ?_)
    · have hw := hw.1 c1
      refine lv_iload_n hx hb (qaa qA3 2 rfl) rfl (lv_at hl 1 rfl) ?_
      exact ((W.iret (v := l1) hx hb hr (fun t ht hW => ⟨⟨l1, (), rfl, hw, by rw [ht]; exact hP, va_K.moved hW.alike hK, hD⟩, hS.F ht⟩) hS.2.2 (qaa qA3 3 rfl)))
    · have hw := hw.2 c1
      refine lv_iload_n hx hb (qaa qeA 7 rfl) rfl (lv_at hl 1 rfl) ?_
      refine lv_aload_n hx hb (qaa qeA 8 rfl) rfl (lv_at hl 0 rfl) ?_
      refine va_get (D := (dC, dI)) (ci := 11) (v := .ref a0_s) (C := RX11) (T := TX11) (N := 55) hx hb hts qab7 hown hK hP 0 rfl rfl 40 (by decide) (hts _ q8C) (fun _ h9 => h9) rfl (qaa qeA 9 rfl) ?_
      refine lv_bipush (v := 30) hx hb (qaa qeA 10 rfl) (by decide) ?_
      refine lv_iload_n hx hb (qaa qeA 11 rfl) rfl (lv_at hl 2 rfl) ?_
      refine lv_iadd hx hb (qaa qeA 12 rfl) ?_
      refine lv_topi (fun x2 ex2 => ?_)
      have hw := hw x2 ex2
      obtain ⟨hi9, hw⟩ := hw
      refine va_iald hx hb hK hP 1 1 rfl rfl hi9 (qaa qeA 13 rfl) ?_
      refine lv_topi (fun x3 ex3 => ?_)
      have hw := hw x3 ex3
      refine lv_iadd hx hb (qaa qeA 14 rfl) ?_
      refine lv_topi (fun x4 ex4 => ?_)
      have hw := hw x4 ex4
      refine lv_istore_n (lv' := [(1, .int x4), (0, .ref a0), (2, .int l2)]) hx hb (qaa qeA 15 rfl) rfl hl (by decide) rfl (fun ls hl => ?_)
      obtain ⟨x5, ex5⟩ : ∃ y : Int32, y = l2 + 1 := ⟨_, rfl⟩
      have hw := hw x5 ex5
      refine lv_iinc (v := x5) (lv' := [(2, .int x5), (1, .int x4), (0, .ref a0)]) hx hb (qaa qA3 0 rfl) hl (k := 2) rfl (by rw [ex5]; rfl) (by decide) rfl (fun ls hl => ?_)
      refine lv_goto (tgt := 4) hx hb (qaa qA3 1 rfl) (by decide) ?_
      exact ih _ _ _ x4 x5 hP hD hS (lv_sub hl [2, 1, 0] rfl) hw
set_option maxHeartbeats 4000000 in
set_option maxRecDepth 100000 in
theorem q0w (l : Launch) (dC : Nat → ClassId) (dI : Nat → Nat → Nat) (cyB cyI cyJ cyP : ClassId) (a0 a0_s sz : Nat) (jaX jaF jaD ja7 jby jbf jaM jaY jap jaK jal jam jax jao ja6 jaV ja8 jae jag jaf ja0 ja4 jaP jaw jaI jaZ jaH jaS jan jaU jaE jar jaL jah jaB jaa jaz jaG jab ja2 jaq jai jaO jaA jat jau jav jaj jas jaJ jak jad jay jac : Value) (f0_s : NI) {Q : Int32 → Prop} (hw : qI2 f0_s Q) : Met l yX11_debtsNow wsX11_debtsNow ({ frames := 0, cells := 0, slots := 0, locals := 0 }) (va_Pc [.ref a0] (cPc (dC, dI) (kT cyB cyI cyJ cyP) (q7d a0 jaX jaF jaD ja7 jby jbf jaM jaY jap jaK jal jam jax jao ja6 jaV ja8 jae jag jaf ja0 ja4 jaP jaw jaI jaZ jaH jaS jan jaU jaE jar jaL jah jaB jaa jaz jaG jab ja2 a0_s jaq jai jaO jaA jat jau jav jaj jas jaJ jak jad jay jac a0_s cyI f0_s) sz)) (va_Qi (fun (r : Int32) (_ : Unit) => Q r ) (cB (dC, dI) (kT cyB cyI cyJ cyP) (va_A (q7d a0 jaX jaF jaD ja7 jby jbf jaM jaY jap jaK jal jam jax jao ja6 jaV ja8 jae jag jaf ja0 ja4 jaP jaw jaI jaZ jaH jaS jan jaU jaE jar jaL jah jaB jaa jaz jaG jab ja2 a0_s jaq jai jaO jaA jat jau jav jaj jas jaJ jak jad jay jac a0_s cyI f0_s) sz) (fun u : Unit => ((q7d a0 jaX jaF jaD ja7 jby jbf jaM jaY jap jaK jal jam jax jao ja6 jaV ja8 jae jag jaf ja0 ja4 jaP jaw jaI jaZ jaH jaS jan jaU jaE jar jaL jah jaB jaa jaz jaG jab ja2 a0_s jaq jai jaO jaA jat jau jav jaj jas jaJ jak jad jay jac a0_s cyI f0_s) : va_W))) (va_A (q7d a0 jaX jaF jaD ja7 jby jbf jaM jaY jap jaK jal jam jax jao ja6 jaV ja8 jae jag jaf ja0 ja4 jaP jaw jaI jaZ jaH jaS jan jaU jaE jar jaL jah jaB jaa jaz jaG jab ja2 a0_s jaq jai jaO jaA jat jau jav jaj jas jaJ jak jad jay jac a0_s cyI f0_s) sz)) 0 0 (va_A (q7d a0 jaX jaF jaD ja7 jby jbf jaM jaY jap jaK jal jam jax jao ja6 jaV ja8 jae jag jaf ja0 ja4 jaP jaw jaI jaZ jaH jaS jan jaU jaE jar jaL jah jaB jaa jaz jaG jab ja2 a0_s jaq jai jaO jaA jat jau jav jaj jas jaJ jak jad jay jac a0_s cyI f0_s) sz) := by
  refine Met.ofW (cc := cX11_debtsNow) (maxL := 3) (ret := (some .int)) (by decide) rfl ?_
  intro p e s m args below meth c s₁ B hml hv
  obtain ⟨rfl, hsz, hP, hK, hD0, hNw⟩ := hv
  have hx := B.exec
  have hb := B.bytes
  have hr := B.returns
  have hts := atoms_spec (ws := wsX11_debtsNow) B.pre
  have hown : s.vm.findClass RX11 = some m.cls := findClass_of_methodNamed B.named
  have hlocks := B.notSynchronized
  subst hsz
  have hD := hD0.self (sz := s.heap.size)
  generalize hAe : va_A (q7d a0 jaX jaF jaD ja7 jby jbf jaM jaY jap jaK jal jam jax jao ja6 jaV ja8 jae jag jaf ja0 ja4 jaP jaw jaI jaZ jaH jaS jan jaU jaE jar jaL jah jaB jaa jaz jaG jab ja2 a0_s jaq jai jaO jaA jat jau jav jaj jas jaJ jak jad jay jac a0_s cyI f0_s) s.heap.size = A at hD ⊢
  have hA : ∀ q : Nat, s.heap.size ≤ q → A q := fun q h => by rw [← hAe]; exact Or.inr h
  have hS : va_S A s.heap s.heap [] := va_S.rf
  have hP : va_P (dC, dI) vwCl (q7d a0 jaX jaF jaD ja7 jby jbf jaM jaY jap jaK jal jam jax jao ja6 jaV ja8 jae jag jaf ja0 ja4 jaP jaw jaI jaZ jaH jaS jan jaU jaE jar jaL jah jaB jaa jaz jaG jab ja2 a0_s jaq jai jaO jaA jat jau jav jaj jas jaJ jak jad jay jac a0_s cyI f0_s) s.heap := hP
  have hl := lv_entry ([.ref a0]) (n := 3) (nbq rfl)
  rw [lg_entry_eq]
  generalize (lg_sl ([.ref a0]) ++ List.replicate (3 - (lg_sl ([.ref a0])).length) Slot.unset).toArray = ls at hl ⊢
  have hl : lv_has ls 3 [(0, .ref a0)] := hl
  have C0 : cfx p s m _ meth c cX11_debtsNow (some .int) wsX11_debtsNow RX11 3 A (dC, dI) (kT cyB cyI cyJ cyP) := ⟨hx, hb, hr, hts, hown, hlocks, hml, hA, hK, hNw⟩
  clear hAe
  obtain ⟨H, hH⟩ : ∃ H, H = s.heap := ⟨_, rfl⟩
  rw [← hH] at hP ⊢
  have hS : va_S A s.heap H [] := by rw [hH]; exact va_S.rf
  have hS := hS
  refine lv_iconst (v := 0) hx hb (qaa qeA 0 rfl) (by decide) ?_
  refine lv_istore_n (lv' := [(1, .int 0), (0, .ref a0)]) hx hb (qaa qeA 1 rfl) rfl hl (by decide) rfl (fun ls hl => ?_)
  refine lv_iconst (v := 0) hx hb (qaa qeA 2 rfl) (by decide) ?_
  refine lv_istore_n (lv' := [(2, .int 0), (1, .int 0), (0, .ref a0)]) hx hb (qaa qeA 3 rfl) rfl hl (by decide) rfl (fun ls hl => ?_)
  obtain ⟨n9, hw⟩ := hw
  exact qakR dC dI cyB cyI cyJ cyP a0 a0_s jaX jaF jaD ja7 jby jbf jaM jaY jap jaK jal jam jax jao ja6 jaV ja8 jae jag jaf ja0 ja4 jaP jaw jaI jaZ jaH jaS jan jaU jaE jar jaL jah jaB jaa jaz jaG jab ja2 jaq jai jaO jaA jat jau jav jaj jas jaJ jak jad jay jac f0_s Q C0 n9 _ _ _ 0 0 hP hD hS (lv_sub hl [2, 1, 0] rfl) hw
theorem qZK : ∀ w ∈ u_ws RX11 TX11 55, w ∈ wsX11_ahead := uiM qq0 qga (by decide +kernel)
theorem qawX : (.fieldLink RX11 3 "MarchHaresModel" "thrown" "I" : Cond) ∈ wsX11_ahead := qq0 589 (by decide +kernel)
theorem qauz : (.fieldLink RX11 71 "MarchHaresModel" "s" "[I" : Cond) ∈ wsX11_ahead := qq0 457 (by decide +kernel)
set_option maxHeartbeats 4000000 in
set_option maxRecDepth 100000 in
theorem qaxQ {p : Program} {l : Launch} {e : Env} {s : State} {m : MethodId} {args : Array Value} {below : List Frame} {meth : Method} {c : Code} {A : Nat → Prop} (dC : Nat → ClassId) (dI : Nat → Nat → Nat) (cyB cyI cyJ cyP : ClassId) (a0 jaQ jaT a0_s ja5 jbJ jb9 : Nat) (jaD ja7 jby jbf jaM jaY jap jaK jal jam jax jao jae jag jaf ja0 jaw jaI jaZ jaH jaS jan jaU jaE jar jaL jah jaB jaa jaz jaG jab jaq jai jaO jaA jat jau jav jaj jas jaJ jak jad jay jac : Value) (jaC jbw : Int32) (jb0 jbv jcx jdH : NI) (Q : Int32 → Int32 → NI → NI → Prop) (C0 : cfx p s m args meth c cX11_ahead (some .int) wsX11_ahead RX11 4 A (dC, dI) (kT cyB cyI cyJ cyP)) : ∀ (n : Nat) (H : Heap) (locs : List Loc) (ls : Array Slot) (jbd : Int32) (ja9 f0_s : NI) (l1 l2 l3 : Int32), va_P (dC, dI) vwCl (qyA a0 jbd jaQ jaD ja7 jby jbf jaM jaY jap jaK jal jam jax jao ja5 jb9 jbJ jae jag jaf ja0 jaC jbw jaw jaI jaZ jaH jaS jan jaU jaE jar jaL jah jaB jaa jaz jaG jab jaT a0_s jaq jai jaO jaA jat jau jav jaj jas jaJ jak jad jay jac jaQ cyI ja9 jaT cyI jb0 a0_s cyI f0_s ja5 cyI jbv jbJ cyI jcx jb9 cyI jdH) H → va_D A (qyA a0 jbd jaQ jaD ja7 jby jbf jaM jaY jap jaK jal jam jax jao ja5 jb9 jbJ jae jag jaf ja0 jaC jbw jaw jaI jaZ jaH jaS jan jaU jaE jar jaL jah jaB jaa jaz jaG jab jaT a0_s jaq jai jaO jaA jat jau jav jaj jas jaJ jak jad jay jac jaQ cyI ja9 jaT cyI jb0 a0_s cyI f0_s ja5 cyI jbv jbJ cyI jcx jb9 cyI jdH) → va_S A s.heap H locs → lv_has ls 4 [(0, .ref a0), (1, .int l1), (2, .int l2), (3, .int l3)] → qHV jaC jbw jb0 jbv jcx jdH Q n jbd ja9 f0_s l1 l2 l3 → W p l e (headSpec wsX11_ahead ({ frames := 5, cells := 0, slots := 0, locals := 106 })).room s m args below meth c H locs 0 0 (MQ below (va_Qi (fun (r : Int32) (u : Int32 × NI × NI) => Q r u.1 u.2.1 u.2.2) (cB (dC, dI) (kT cyB cyI cyJ cyP) A (fun u : Int32 × NI × NI => ((qyA a0 u.1 jaQ jaD ja7 jby jbf jaM jaY jap jaK jal jam jax jao ja5 jb9 jbJ jae jag jaf ja0 jaC jbw jaw jaI jaZ jaH jaS jan jaU jaE jar jaL jah jaB jaa jaz jaG jab jaT a0_s jaq jai jaO jaA jat jau jav jaj jas jaJ jak jad jay jac jaQ cyI u.2.1 jaT cyI jb0 a0_s cyI u.2.2 ja5 cyI jbv jbJ cyI jcx jb9 cyI jdH) : va_W))) A) args s 0 0 A) (F0 m 46 ls []) := by
  obtain ⟨hx, hb, hr, hts, hown, hlocks, hml, hA, hK, hNw⟩ := id C0
  intro n
  induction n with
  | zero => intro H locs ls jbd ja9 f0_s l1 l2 l3 hP hD hS hl hw; exact False.elim hw
  | succ n ih =>
    intro H locs ls jbd ja9 f0_s l1 l2 l3 hP hD hS hl hw
    refine lv_iload_n hx hb (qaa qhV 11 rfl) rfl (lv_at hl 3 rfl) ?_
    refine lv_iload_n hx hb (qaa qhV 12 rfl) rfl (lv_at hl 1 rfl) ?_
    refine lv_icmp_ge (tgt := 61) hx hb (qaa qhV 13 rfl) (by decide) (fun c10 => ?_) (fun c10 => ?_)
    · have hw := hw.1 c10
      refine lv_iload_n hx hb (qaa qhy 2 rfl) rfl (lv_at hl 2 rfl) ?_
      refine lv_if_ne (tgt := 75) hx hb (qaa qhy 3 rfl) (by decide) (fun c11 => ?_) (fun c11 => ?_)
      · have hw := hw.1 c11
        refine lv_iload_n hx hb (qaa qhy 9 rfl) rfl (lv_at hl 2 rfl) ?_
        refine lv_iconst (v := 1) hx hb (qaa qhy 10 rfl) (by decide) ?_
        refine lv_icmp_ne (tgt := 87) hx hb (qaa qhy 11 rfl) (by decide) (fun c12 => ?_) (fun c12 => ?_)
        · have hw := hw.1 c12
          refine lv_aload_n hx hb (qaa qhy 15 rfl) rfl (lv_at hl 0 rfl) ?_
          obtain ⟨hCc, hPc, hDc, hFc⟩ := qac (ws' := (qa0a a0 jbd jaQ jaD ja7 jby jbf jaM jaY jap jaK jal jam jax jao ja5 jb9 jbJ jae jag jaf ja0 jaC jbw jaw jaI jaZ jaH jaS jan jaU jaE jar jaL jah jaB jaa jaz jaG jab jaT a0_s jaq jai jaO jaA jat jau jav jaj jas jaJ jak jad jay jac a0_s cyI f0_s)) hP hD hS hA [0, 3] (by decide +kernel) rfl
          refine va_calli (va_runV (As := []) (rest := []) ⟨hx, hb, hml, hown, hts⟩ (q0w l dC dI cyB cyI cyJ cyP a0 a0_s H.size (.int jbd) (.ref jaQ) (jaD) (ja7) (jby) (jbf) (jaM) (jaY) (jap) (jaK) (jal) (jam) (jax) (jao) (.ref ja5) (.ref jb9) (.ref jbJ) (jae) (jag) (jaf) (ja0) (.int jaC) (.int jbw) (jaw) (jaI) (jaZ) (jaH) (jaS) (jan) (jaU) (jaE) (jar) (jaL) (jah) (jaB) (jaa) (jaz) (jaG) (jab) (.ref jaT) (jaq) (jai) (jaO) (jaA) (jat) (jau) (jav) (jaj) (jas) (jaJ) (jak) (jad) (jay) (jac) f0_s hw) (cwV 0 hts gX11_ahead_X11_debtsNow rfl rfl rfl (by decide +kernel) ⟨nbq rfl, nbq rfl⟩) ⟨qab, va_recv (q := (RX11, TX11, 55)) hK hPc (ci := 11) (q0 := 0) rfl rfl, qae hPc hK hDc hNw⟩ rfl rfl hl.1 rfl (lv_room (nbq rfl)) (qaa qGV 0 rfl) ⟨nbq rfl, nbq rfl⟩) hS (fun q _ h => hFc q h) hFc (fun r13 u t H1 locs ht hvm hw hB hz1 hk1 hS => ?_)
          obtain ⟨hP1, hK1, hD1⟩ := hB
          rw [ht] at hP1
          obtain ⟨hP, hD⟩ := qad (wr := (qbcy jaQ cyI ja9 jaT cyI jb0 ja5 cyI jbv jbJ cyI jcx jb9 cyI jdH)) (w1 := (qa0a a0 jbd jaQ jaD ja7 jby jbf jaM jaY jap jaK jal jam jax jao ja5 jb9 jbJ jae jag jaf ja0 jaC jbw jaw jaI jaZ jaH jaS jan jaU jaE jar jaL jah jaB jaa jaz jaG jab jaT a0_s jaq jai jaO jaA jat jau jav jaj jas jaJ jak jad jay jac a0_s cyI f0_s)) (wn := (qyA a0 jbd jaQ jaD ja7 jby jbf jaM jaY jap jaK jal jam jax jao ja5 jb9 jbJ jae jag jaf ja0 jaC jbw jaw jaI jaZ jaH jaS jan jaU jaE jar jaL jah jaB jaa jaz jaG jab jaT a0_s jaq jai jaO jaA jat jau jav jaj jas jaJ jak jad jay jac jaQ cyI ja9 jaT cyI jb0 a0_s cyI f0_s ja5 cyI jbv jbJ cyI jcx jb9 cyI jdH)) hP hD [0, 3] [1, 2, 4, 5, 6] [5, 0, 1, 6, 2, 3, 4] hCc rfl (by decide +kernel) (by decide +kernel) (by decide +kernel) rfl hk1 hFc hP1 hD1
          generalize H1 = H at hP hS ⊢
          exact ((W.iret (v := r13) hx hb hr (fun t ht hW => ⟨⟨r13, (jbd, ja9, f0_s), rfl, hw, by rw [ht]; exact hP, va_K.moved hW.alike hK, hD⟩, hS.F ht⟩) hS.2.2 (qaa qGV 1 rfl)))
        · have hw := hw.2 c12
          refine lv_aload_n hx hb (qaa qhy 12 rfl) rfl (lv_at hl 0 rfl) ?_
          obtain ⟨hCc, hPc, hDc, hFc⟩ := qac (ws' := (qa0a a0 jbd jaQ jaD ja7 jby jbf jaM jaY jap jaK jal jam jax jao ja5 jb9 jbJ jae jag jaf ja0 jaC jbw jaw jaI jaZ jaH jaS jan jaU jaE jar jaL jah jaB jaa jaz jaG jab jaT a0_s jaq jai jaO jaA jat jau jav jaj jas jaJ jak jad jay jac a0_s cyI f0_s)) hP hD hS hA [0, 3] (by decide +kernel) rfl
          refine va_calli (va_runV (As := []) (rest := []) ⟨hx, hb, hml, hown, hts⟩ (qEr l dC dI cyB cyI cyJ cyP a0 a0_s H.size (.int jbd) (.ref jaQ) (jaD) (ja7) (jby) (jbf) (jaM) (jaY) (jap) (jaK) (jal) (jam) (jax) (jao) (.ref ja5) (.ref jb9) (.ref jbJ) (jae) (jag) (jaf) (ja0) (.int jbw) (jaw) (jaI) (jaZ) (jaH) (jaS) (jan) (jaU) (jaE) (jar) (jaL) (jah) (jaB) (jaa) (jaz) (jaG) (jab) (.ref jaT) (jaq) (jai) (jaO) (jaA) (jat) (jau) (jav) (jaj) (jas) (jaJ) (jak) (jad) (jay) (jac) jaC f0_s hw) (cwV 0 hts gX11_ahead_X11_caughtNow rfl rfl rfl (by decide +kernel) ⟨nbq rfl, nbq rfl⟩) ⟨qab, va_recv (q := (RX11, TX11, 55)) hK hPc (ci := 11) (q0 := 0) rfl rfl, qae hPc hK hDc hNw⟩ rfl rfl hl.1 rfl (lv_room (nbq rfl)) (qaa qhy 13 rfl) ⟨nbq rfl, nbq rfl⟩) hS (fun q _ h => hFc q h) hFc (fun r14 u t H1 locs ht hvm hw hB hz1 hk1 hS => ?_)
          obtain ⟨hP1, hK1, hD1⟩ := hB
          rw [ht] at hP1
          obtain ⟨hP, hD⟩ := qad (wr := (qbcy jaQ cyI ja9 jaT cyI jb0 ja5 cyI jbv jbJ cyI jcx jb9 cyI jdH)) (w1 := (qa0a a0 jbd jaQ jaD ja7 jby jbf jaM jaY jap jaK jal jam jax jao ja5 jb9 jbJ jae jag jaf ja0 jaC jbw jaw jaI jaZ jaH jaS jan jaU jaE jar jaL jah jaB jaa jaz jaG jab jaT a0_s jaq jai jaO jaA jat jau jav jaj jas jaJ jak jad jay jac a0_s cyI f0_s)) (wn := (qyA a0 jbd jaQ jaD ja7 jby jbf jaM jaY jap jaK jal jam jax jao ja5 jb9 jbJ jae jag jaf ja0 jaC jbw jaw jaI jaZ jaH jaS jan jaU jaE jar jaL jah jaB jaa jaz jaG jab jaT a0_s jaq jai jaO jaA jat jau jav jaj jas jaJ jak jad jay jac jaQ cyI ja9 jaT cyI jb0 a0_s cyI f0_s ja5 cyI jbv jbJ cyI jcx jb9 cyI jdH)) hP hD [0, 3] [1, 2, 4, 5, 6] [5, 0, 1, 6, 2, 3, 4] hCc rfl (by decide +kernel) (by decide +kernel) (by decide +kernel) rfl hk1 hFc hP1 hD1
          generalize H1 = H at hP hS ⊢
          refine lv_goto (tgt := 91) hx hb (qaa qhy 14 rfl) (by decide) ?_
          exact ((W.iret (v := r14) hx hb hr (fun t ht hW => ⟨⟨r14, (jbd, ja9, f0_s), rfl, hw, by rw [ht]; exact hP, va_K.moved hW.alike hK, hD⟩, hS.F ht⟩) hS.2.2 (qaa qGV 1 rfl)))
      · have hw := hw.2 c11
        refine lv_aload_n hx hb (qaa qhy 4 rfl) rfl (lv_at hl 0 rfl) ?_
        refine va_get (D := (dC, dI)) (ci := 11) (v := .ref a0_s) (C := RX11) (T := TX11) (N := 55) hx hb hts qZK hown hK hP 0 rfl rfl 40 (by decide) (hts _ qauz) (fun _ h9 => h9) rfl (qaa qhy 5 rfl) ?_
        refine lv_bipush (v := 66) hx hb (qaa qhy 6 rfl) (by decide) ?_
        refine va_iald hx hb hK hP 3 1 rfl rfl (vin (by decide)) (qaa qhy 7 rfl) ?_
        refine lv_topi (fun x15 ex15 => ?_)
        have hw := hw x15 ex15
        refine lv_goto (tgt := 91) hx hb (qaa qhy 8 rfl) (by decide) ?_
        exact ((W.iret (v := x15) hx hb hr (fun t ht hW => ⟨⟨x15, (jbd, ja9, f0_s), rfl, hw, by rw [ht]; exact hP, va_K.moved hW.alike hK, hD⟩, hS.F ht⟩) hS.2.2 (qaa qGV 1 rfl)))
    · have hw := hw.2 c10
      refine lv_aload_n hx hb (qaa qhV 14 rfl) rfl (lv_at hl 0 rfl) ?_
      obtain ⟨hCc, hPc, hDc, hFc⟩ := qac (ws' := (qbc1 a0 jbd jaQ jaD ja7 jby jbf jaM jaY jap jaK jal jam jax jao ja5 jb9 jbJ jae jag jaf ja0 jaC jbw jaw jaI jaZ jaH jaS jan jaU jaE jar jaL jah jaB jaa jaz jaG jab jaT a0_s jaq jai jaO jaA jat jau jav jaj jas jaJ jak jad jay jac a0_s cyI f0_s ja5 cyI jbv jbJ cyI jcx jb9 cyI jdH)) hP hD hS hA [0, 3, 4, 5, 6] (by decide +kernel) rfl
      refine va_callv (va_runV (As := []) (rest := []) ⟨hx, hb, hml, hown, hts⟩ (qXL l dC dI cyB cyI cyJ cyP a0 a0_s ja5 jbJ jb9 H.size (.int jbd) (.ref jaQ) (jaD) (ja7) (jby) (jbf) (jaM) (jaY) (jap) (jaK) (jal) (jam) (jax) (jao) (jae) (jag) (jaf) (ja0) (jaw) (jaI) (jaZ) (jaH) (jaS) (jan) (jaU) (jaE) (jar) (jaL) (jah) (jaB) (jaa) (jaz) (jaG) (jab) (.ref jaT) (jaq) (jai) (jaO) (jaA) (jat) (jau) (jav) (jaj) (jas) (jaJ) (jak) (jad) (jay) (jac) jaC jbw jbv jcx jdH f0_s hw) (cwV 0 hts gX11_ahead_X11_passes rfl rfl rfl (by decide +kernel) ⟨nbq rfl, nbq rfl⟩) ⟨qab, va_recv (q := (RX11, TX11, 55)) hK hPc (ci := 11) (q0 := 0) rfl rfl, qae hPc hK hDc hNw⟩ rfl rfl hl.1 rfl (lv_room (nbq rfl)) (qaa qhV 15 rfl) ⟨nbq rfl, nbq rfl⟩) hS (fun q _ h => hFc q h) hFc (fun u t H1 locs ht hvm hw hB hz1 hk1 hS => ?_)
      obtain ⟨f16, rfl⟩ : ∃ z, z = u := ⟨_, rfl⟩
      obtain ⟨hP1, hK1, hD1⟩ := hB
      rw [ht] at hP1
      obtain ⟨hP, hD⟩ := qad (wr := [(jaQ, .inl (cyI, 2, .inl ja9)), (jaT, .inl (cyI, 68, .inl jb0))]) (w1 := (qbc1 a0 jbd jaQ jaD ja7 jby jbf jaM jaY jap jaK jal jam jax jao ja5 jb9 jbJ jae jag jaf ja0 jaC jbw jaw jaI jaZ jaH jaS jan jaU jaE jar jaL jah jaB jaa jaz jaG jab jaT a0_s jaq jai jaO jaA jat jau jav jaj jas jaJ jak jad jay jac a0_s cyI f16 ja5 cyI jbv jbJ cyI jcx jb9 cyI jdH)) (wn := (qyA a0 jbd jaQ jaD ja7 jby jbf jaM jaY jap jaK jal jam jax jao ja5 jb9 jbJ jae jag jaf ja0 jaC jbw jaw jaI jaZ jaH jaS jan jaU jaE jar jaL jah jaB jaa jaz jaG jab jaT a0_s jaq jai jaO jaA jat jau jav jaj jas jaJ jak jad jay jac jaQ cyI ja9 jaT cyI jb0 a0_s cyI f16 ja5 cyI jbv jbJ cyI jcx jb9 cyI jdH)) hP hD [0, 3, 4, 5, 6] [1, 2] [2, 0, 1, 3, 4, 5, 6] hCc rfl (by decide +kernel) (by decide +kernel) (by decide +kernel) rfl hk1 hFc hP1 hD1
      generalize H1 = H at hP hS ⊢
      obtain ⟨x17, ex17⟩ : ∃ y : Int32, y = l3 + 1 := ⟨_, rfl⟩
      have hw := hw x17 ex17
      refine lv_iinc (v := x17) (lv' := [(3, .int x17), (0, .ref a0), (1, .int l1), (2, .int l2)]) hx hb (qaa qhy 0 rfl) hl (k := 3) rfl (by rw [ex17]; rfl) (by decide) rfl (fun ls hl => ?_)
      refine lv_goto (tgt := 46) hx hb (qaa qhy 1 rfl) (by decide) ?_
      exact ih _ _ _ jbd ja9 f16 l1 l2 x17 hP hD hS (lv_sub hl [1, 2, 3, 0] rfl) hw
set_option maxHeartbeats 4000000 in
set_option maxRecDepth 100000 in
theorem q1R {p : Program} {l : Launch} {e : Env} {s : State} {m : MethodId} {args : Array Value} {below : List Frame} {meth : Method} {c : Code} {A : Nat → Prop} (dC : Nat → ClassId) (dI : Nat → Nat → Nat) (cyB cyI cyJ cyP : ClassId) (a0 jaQ jaT a0_s ja5 jbJ jb9 : Nat) (jaD ja7 jby jbf jaM jaY jap jaK jal jam jax jao jae jag jaf ja0 jaw jaI jaZ jaH jaS jan jaU jaE jar jaL jah jaB jaa jaz jaG jab jaq jai jaO jaA jat jau jav jaj jas jaJ jak jad jay jac : Value) (jaC jbw : Int32) (jb0 jbv jcx jdH : NI) (Q : Int32 → Int32 → NI → NI → Prop) (C0 : cfx p s m args meth c cX11_ahead (some .int) wsX11_ahead RX11 4 A (dC, dI) (kT cyB cyI cyJ cyP)) : ∀ (H : Heap) (locs : List Loc) (ls : Array Slot) (jbd : Int32) (ja9 f0_s : NI) (l1 l2 s1 : Int32), va_P (dC, dI) vwCl (qyA a0 jbd jaQ jaD ja7 jby jbf jaM jaY jap jaK jal jam jax jao ja5 jb9 jbJ jae jag jaf ja0 jaC jbw jaw jaI jaZ jaH jaS jan jaU jaE jar jaL jah jaB jaa jaz jaG jab jaT a0_s jaq jai jaO jaA jat jau jav jaj jas jaJ jak jad jay jac jaQ cyI ja9 jaT cyI jb0 a0_s cyI f0_s ja5 cyI jbv jbJ cyI jcx jb9 cyI jdH) H → va_D A (qyA a0 jbd jaQ jaD ja7 jby jbf jaM jaY jap jaK jal jam jax jao ja5 jb9 jbJ jae jag jaf ja0 jaC jbw jaw jaI jaZ jaH jaS jan jaU jaE jar jaL jah jaB jaa jaz jaG jab jaT a0_s jaq jai jaO jaA jat jau jav jaj jas jaJ jak jad jay jac jaQ cyI ja9 jaT cyI jb0 a0_s cyI f0_s ja5 cyI jbv jbJ cyI jcx jb9 cyI jdH) → va_S A s.heap H locs → lv_has ls 4 [(0, .ref a0), (1, .int l1), (2, .int l2)] → qPV jaC jbw jb0 jbv jcx jdH Q jbd ja9 f0_s l1 l2 s1 → W p l e (headSpec wsX11_ahead ({ frames := 5, cells := 0, slots := 0, locals := 106 })).room s m args below meth c H locs 0 0 (MQ below (va_Qi (fun (r : Int32) (u : Int32 × NI × NI) => Q r u.1 u.2.1 u.2.2) (cB (dC, dI) (kT cyB cyI cyJ cyP) A (fun u : Int32 × NI × NI => ((qyA a0 u.1 jaQ jaD ja7 jby jbf jaM jaY jap jaK jal jam jax jao ja5 jb9 jbJ jae jag jaf ja0 jaC jbw jaw jaI jaZ jaH jaS jan jaU jaE jar jaL jah jaB jaa jaz jaG jab jaT a0_s jaq jai jaO jaA jat jau jav jaj jas jaJ jak jad jay jac jaQ cyI u.2.1 jaT cyI jb0 a0_s cyI u.2.2 ja5 cyI jbv jbJ cyI jcx jb9 cyI jdH) : va_W))) A) args s 0 0 A) (F0 m 30 ls [.int s1, .ref a0]) := by
  obtain ⟨hx, hb, hr, hts, hown, hlocks, hml, hA, hK, hNw⟩ := id C0
  intro H locs ls jbd ja9 f0_s l1 l2 s1 hP hD hS hl hw
  refine lv_iconst (v := 1) hx hb (qaa qhV 1 rfl) (by decide) ?_
  refine lv_iconst (v := 1) hx hb (qaa qhV 2 rfl) (by decide) ?_
  obtain ⟨hCc, hPc, hDc, hFc⟩ := qac (ws' := (qbdf a0 jbd jaQ jaD ja7 jby jbf jaM jaY jap jaK jal jam jax jao ja5 jb9 jbJ jae jag jaf ja0 jaC jbw jaw jaI jaZ jaH jaS jan jaU jaE jar jaL jah jaB jaa jaz jaG jab jaT a0_s jaq jai jaO jaA jat jau jav jaj jas jaJ jak jad jay jac jaQ cyI ja9)) hP hD hS hA [0, 1] (by decide +kernel) rfl
  refine va_calli (va_runV (As := [.int s1, .int 1, .int 1]) (rest := []) ⟨hx, hb, hml, hown, hts⟩ (qkO l dC dI cyB cyI cyJ cyP a0 jaQ H.size (jaD) (ja7) (jby) (jbf) (jaM) (jaY) (jap) (jaK) (jal) (jam) (jax) (jao) (.ref ja5) (.ref jb9) (.ref jbJ) (jae) (jag) (jaf) (ja0) (.int jaC) (.int jbw) (jaw) (jaI) (jaZ) (jaH) (jaS) (jan) (jaU) (jaE) (jar) (jaL) (jah) (jaB) (jaa) (jaz) (jaG) (jab) (.ref jaT) (.ref a0_s) (jaq) (jai) (jaO) (jaA) (jat) (jau) (jav) (jaj) (jas) (jaJ) (jak) (jad) (jay) (jac) jbd ja9 s1 1 1 hw) (cwV 3 hts gX11_ahead_X11_may rfl rfl rfl (by decide +kernel) ⟨nbq rfl, nbq rfl⟩) ⟨qab, va_recv (q := (RX11, TX11, 55)) hK hPc (ci := 11) (q0 := 0) rfl rfl, qae hPc hK hDc hNw⟩ rfl rfl hl.1 rfl (lv_room (nbq rfl)) (qaa qhV 3 rfl) ⟨nbq rfl, nbq rfl⟩) hS (fun q _ h => hFc q h) hFc (fun r7 u t H1 locs ht hvm hw hB hz1 hk1 hS => ?_)
  obtain ⟨x5, f6⟩ := u
  obtain ⟨hP1, hK1, hD1⟩ := hB
  rw [ht] at hP1
  obtain ⟨hP, hD⟩ := qad (wr := [(jaT, .inl (cyI, 68, .inl jb0)), (a0_s, .inl (cyI, 68, .inl f0_s)), (ja5, .inl (cyI, 16, .inl jbv)), (jbJ, .inl (cyI, 8, .inl jcx)), (jb9, .inl (cyI, 12, .inl jdH))]) (w1 := (qbdf a0 x5 jaQ jaD ja7 jby jbf jaM jaY jap jaK jal jam jax jao ja5 jb9 jbJ jae jag jaf ja0 jaC jbw jaw jaI jaZ jaH jaS jan jaU jaE jar jaL jah jaB jaa jaz jaG jab jaT a0_s jaq jai jaO jaA jat jau jav jaj jas jaJ jak jad jay jac jaQ cyI f6)) (wn := (qyA a0 x5 jaQ jaD ja7 jby jbf jaM jaY jap jaK jal jam jax jao ja5 jb9 jbJ jae jag jaf ja0 jaC jbw jaw jaI jaZ jaH jaS jan jaU jaE jar jaL jah jaB jaa jaz jaG jab jaT a0_s jaq jai jaO jaA jat jau jav jaj jas jaJ jak jad jay jac jaQ cyI f6 jaT cyI jb0 a0_s cyI f0_s ja5 cyI jbv jbJ cyI jcx jb9 cyI jdH)) hP hD [0, 1] [2, 3, 4, 5, 6] [5, 6, 0, 1, 2, 3, 4] hCc rfl (by decide +kernel) (by decide +kernel) (by decide +kernel) rfl hk1 hFc hP1 hD1
  generalize H1 = H at hP hS ⊢
  refine lv_if_ne (tgt := 40) hx hb (qaa qhV 4 rfl) (by decide) (fun c8 => ?_) (fun c8 => ?_)
  · have hw := hw.1 c8
    refine lv_aload_n hx hb (qaa qhV 7 rfl) rfl (lv_at hl 0 rfl) ?_
    obtain ⟨hCc, hPc, hDc, hFc⟩ := qac (ws' := (qbdX a0 x5 jaQ jaD ja7 jby jbf jaM jaY jap jaK jal jam jax jao ja5 jb9 jbJ jae jag jaf ja0 jaC jbw jaw jaI jaZ jaH jaS jan jaU jaE jar jaL jah jaB jaa jaz jaG jab jaT a0_s jaq jai jaO jaA jat jau jav jaj jas jaJ jak jad jay jac jaT cyI jb0 a0_s cyI f0_s)) hP hD hS hA [0, 2, 3] (by decide +kernel) rfl
    refine va_callv (va_runV (As := []) (rest := []) ⟨hx, hb, hml, hown, hts⟩ (qq6 l dC dI cyB cyI cyJ cyP a0 jaT a0_s H.size (.int x5) (.ref jaQ) (jaD) (ja7) (jby) (jbf) (jaM) (jaY) (jap) (jaK) (jal) (jam) (jax) (jao) (.ref ja5) (.ref jb9) (.ref jbJ) (jae) (jag) (jaf) (ja0) (.int jaC) (.int jbw) (jaw) (jaI) (jaZ) (jaH) (jaS) (jan) (jaU) (jaE) (jar) (jaL) (jah) (jaB) (jaa) (jaz) (jaG) (jab) (jaq) (jai) (jaO) (jaA) (jat) (jau) (jav) (jaj) (jas) (jaJ) (jak) (jad) (jay) (jac) jb0 f0_s hw) (cwV 0 hts gX11_ahead_X11_take rfl rfl rfl (by decide +kernel) ⟨nbq rfl, nbq rfl⟩) ⟨qab, va_recv (q := (RX11, TX11, 55)) hK hPc (ci := 11) (q0 := 0) rfl rfl, qae hPc hK hDc hNw⟩ rfl rfl hl.1 rfl (lv_room (nbq rfl)) (qaa qhV 8 rfl) ⟨nbq rfl, nbq rfl⟩) hS (fun q _ h => hFc q h) hFc (fun u t H1 locs ht hvm hw hB hz1 hk1 hS => ?_)
    obtain ⟨f9, rfl⟩ : ∃ z, z = u := ⟨_, rfl⟩
    obtain ⟨hP1, hK1, hD1⟩ := hB
    rw [ht] at hP1
    obtain ⟨hP, hD⟩ := qad (wr := [(jaQ, .inl (cyI, 2, .inl f6)), (ja5, .inl (cyI, 16, .inl jbv)), (jbJ, .inl (cyI, 8, .inl jcx)), (jb9, .inl (cyI, 12, .inl jdH))]) (w1 := (qbdX a0 x5 jaQ jaD ja7 jby jbf jaM jaY jap jaK jal jam jax jao ja5 jb9 jbJ jae jag jaf ja0 jaC jbw jaw jaI jaZ jaH jaS jan jaU jaE jar jaL jah jaB jaa jaz jaG jab jaT a0_s jaq jai jaO jaA jat jau jav jaj jas jaJ jak jad jay jac jaT cyI jb0 a0_s cyI f9)) (wn := (qyA a0 x5 jaQ jaD ja7 jby jbf jaM jaY jap jaK jal jam jax jao ja5 jb9 jbJ jae jag jaf ja0 jaC jbw jaw jaI jaZ jaH jaS jan jaU jaE jar jaL jah jaB jaa jaz jaG jab jaT a0_s jaq jai jaO jaA jat jau jav jaj jas jaJ jak jad jay jac jaQ cyI f6 jaT cyI jb0 a0_s cyI f9 ja5 cyI jbv jbJ cyI jcx jb9 cyI jdH)) hP hD [0, 2, 3] [1, 4, 5, 6] [4, 0, 5, 6, 1, 2, 3] hCc rfl (by decide +kernel) (by decide +kernel) (by decide +kernel) rfl hk1 hFc hP1 hD1
    generalize H1 = H at hP hS ⊢
    refine lv_iconst (v := 0) hx hb (qaa qhV 9 rfl) (by decide) ?_
    refine lv_istore_n (lv' := [(3, .int 0), (0, .ref a0), (1, .int l1), (2, .int l2)]) hx hb (qaa qhV 10 rfl) rfl hl (by decide) rfl (fun ls hl => ?_)
    obtain ⟨n9, hw⟩ := hw
    exact qaxQ dC dI cyB cyI cyJ cyP a0 jaQ jaT a0_s ja5 jbJ jb9 jaD ja7 jby jbf jaM jaY jap jaK jal jam jax jao jae jag jaf ja0 jaw jaI jaZ jaH jaS jan jaU jaE jar jaL jah jaB jaa jaz jaG jab jaq jai jaO jaA jat jau jav jaj jas jaJ jak jad jay jac jaC jbw jb0 jbv jcx jdH Q C0 n9 _ _ _ x5 f6 f9 l1 l2 0 hP hD hS (lv_sub hl [1, 2, 3, 0] rfl) hw
  · have hw := hw.2 c8
    refine lv_iconst (v := 0) hx hb (qaa qhV 5 rfl) (by decide) ?_
    exact ((W.iret (v := 0) hx hb hr (fun t ht hW => ⟨⟨0, (x5, f6, f0_s), rfl, hw, by rw [ht]; exact hP, va_K.moved hW.alike hK, hD⟩, hS.F ht⟩) hS.2.2 (qaa qhV 6 rfl)))
set_option maxHeartbeats 4000000 in
set_option maxRecDepth 100000 in
theorem q4A {p : Program} {l : Launch} {e : Env} {s : State} {m : MethodId} {args : Array Value} {below : List Frame} {meth : Method} {c : Code} {A : Nat → Prop} (dC : Nat → ClassId) (dI : Nat → Nat → Nat) (cyB cyI cyJ cyP : ClassId) (a0 jaQ jaT a0_s ja5 jbJ jb9 : Nat) (jaD ja7 jby jbf jaM jaY jap jaK jal jam jax jao jae jag jaf ja0 jaw jaI jaZ jaH jaS jan jaU jaE jar jaL jah jaB jaa jaz jaG jab jaq jai jaO jaA jat jau jav jaj jas jaJ jak jad jay jac : Value) (jaC jbw : Int32) (jb0 jbv jcx jdH : NI) (Q : Int32 → Int32 → NI → NI → Prop) (C0 : cfx p s m args meth c cX11_ahead (some .int) wsX11_ahead RX11 4 A (dC, dI) (kT cyB cyI cyJ cyP)) : ∀ (H : Heap) (locs : List Loc) (ls : Array Slot) (jbd : Int32) (ja9 f0_s : NI) (l1 l2 : Int32), va_P (dC, dI) vwCl (qyA a0 jbd jaQ jaD ja7 jby jbf jaM jaY jap jaK jal jam jax jao ja5 jb9 jbJ jae jag jaf ja0 jaC jbw jaw jaI jaZ jaH jaS jan jaU jaE jar jaL jah jaB jaa jaz jaG jab jaT a0_s jaq jai jaO jaA jat jau jav jaj jas jaJ jak jad jay jac jaQ cyI ja9 jaT cyI jb0 a0_s cyI f0_s ja5 cyI jbv jbJ cyI jcx jb9 cyI jdH) H → va_D A (qyA a0 jbd jaQ jaD ja7 jby jbf jaM jaY jap jaK jal jam jax jao ja5 jb9 jbJ jae jag jaf ja0 jaC jbw jaw jaI jaZ jaH jaS jan jaU jaE jar jaL jah jaB jaa jaz jaG jab jaT a0_s jaq jai jaO jaA jat jau jav jaj jas jaJ jak jad jay jac jaQ cyI ja9 jaT cyI jb0 a0_s cyI f0_s ja5 cyI jbv jbJ cyI jcx jb9 cyI jdH) → va_S A s.heap H locs → lv_has ls 4 [(0, .ref a0), (1, .int l1), (2, .int l2)] → qRq jaC jbw jb0 jbv jcx jdH Q jbd ja9 f0_s l1 l2 → W p l e (headSpec wsX11_ahead ({ frames := 5, cells := 0, slots := 0, locals := 106 })).room s m args below meth c H locs 0 0 (MQ below (va_Qi (fun (r : Int32) (u : Int32 × NI × NI) => Q r u.1 u.2.1 u.2.2) (cB (dC, dI) (kT cyB cyI cyJ cyP) A (fun u : Int32 × NI × NI => ((qyA a0 u.1 jaQ jaD ja7 jby jbf jaM jaY jap jaK jal jam jax jao ja5 jb9 jbJ jae jag jaf ja0 jaC jbw jaw jaI jaZ jaH jaS jan jaU jaE jar jaL jah jaB jaa jaz jaG jab jaT a0_s jaq jai jaO jaA jat jau jav jaj jas jaJ jak jad jay jac jaQ cyI u.2.1 jaT cyI jb0 a0_s cyI u.2.2 ja5 cyI jbv jbJ cyI jcx jb9 cyI jdH) : va_W))) A) args s 0 0 A) (F0 m 29 ls [.ref a0]) := by
  obtain ⟨hx, hb, hr, hts, hown, hlocks, hml, hA, hK, hNw⟩ := id C0
  intro H locs ls jbd ja9 f0_s l1 l2 hP hD hS hl hw
  refine lv_iconst (v := 0) hx hb (qaa qhV 0 rfl) (by decide) ?_
  exact q1R dC dI cyB cyI cyJ cyP a0 jaQ jaT a0_s ja5 jbJ jb9 jaD ja7 jby jbf jaM jaY jap jaK jal jam jax jao jae jag jaf ja0 jaw jaI jaZ jaH jaS jan jaU jaE jar jaL jah jaB jaa jaz jaG jab jaq jai jaO jaA jat jau jav jaj jas jaJ jak jad jay jac jaC jbw jb0 jbv jcx jdH Q C0 _ _ _ jbd ja9 f0_s l1 l2 0 hP hD hS (lv_sub hl [0, 1, 2] rfl) hw
set_option maxHeartbeats 4000000 in
set_option maxRecDepth 100000 in
theorem qaUA (l : Launch) (dC : Nat → ClassId) (dI : Nat → Nat → Nat) (cyB cyI cyJ cyP : ClassId) (a0 jaQ jaT a0_s ja5 jbJ jb9 sz : Nat) (jaD ja7 jby jbf jaM jaY jap jaK jal jam jax jao jae jag jaf ja0 jaw jaI jaZ jaH jaS jan jaU jaE jar jaL jah jaB jaa jaz jaG jab jaq jai jaO jaA jat jau jav jaj jas jaJ jak jad jay jac : Value) (jaC jbw : Int32) (jb0 jbv jcx jdH : NI) (jbd : Int32) (ja9 f0_s : NI) (p1 p2 : Int32) {Q : Int32 → Int32 → NI → NI → Prop} (hw : q2P jaC jbw jb0 jbv jcx jdH jbd ja9 f0_s p1 p2 Q) : Met l yX11_ahead wsX11_ahead ({ frames := 5, cells := 0, slots := 0, locals := 106 }) (va_Pc [.ref a0, .int p1, .int p2] (cPc (dC, dI) (kT cyB cyI cyJ cyP) (qyA a0 jbd jaQ jaD ja7 jby jbf jaM jaY jap jaK jal jam jax jao ja5 jb9 jbJ jae jag jaf ja0 jaC jbw jaw jaI jaZ jaH jaS jan jaU jaE jar jaL jah jaB jaa jaz jaG jab jaT a0_s jaq jai jaO jaA jat jau jav jaj jas jaJ jak jad jay jac jaQ cyI ja9 jaT cyI jb0 a0_s cyI f0_s ja5 cyI jbv jbJ cyI jcx jb9 cyI jdH) sz)) (va_Qi (fun (r : Int32) (u : Int32 × NI × NI) => Q r u.1 u.2.1 u.2.2) (cB (dC, dI) (kT cyB cyI cyJ cyP) (va_A (qyA a0 jbd jaQ jaD ja7 jby jbf jaM jaY jap jaK jal jam jax jao ja5 jb9 jbJ jae jag jaf ja0 jaC jbw jaw jaI jaZ jaH jaS jan jaU jaE jar jaL jah jaB jaa jaz jaG jab jaT a0_s jaq jai jaO jaA jat jau jav jaj jas jaJ jak jad jay jac jaQ cyI ja9 jaT cyI jb0 a0_s cyI f0_s ja5 cyI jbv jbJ cyI jcx jb9 cyI jdH) sz) (fun u : Int32 × NI × NI => ((qyA a0 u.1 jaQ jaD ja7 jby jbf jaM jaY jap jaK jal jam jax jao ja5 jb9 jbJ jae jag jaf ja0 jaC jbw jaw jaI jaZ jaH jaS jan jaU jaE jar jaL jah jaB jaa jaz jaG jab jaT a0_s jaq jai jaO jaA jat jau jav jaj jas jaJ jak jad jay jac jaQ cyI u.2.1 jaT cyI jb0 a0_s cyI u.2.2 ja5 cyI jbv jbJ cyI jcx jb9 cyI jdH) : va_W))) (va_A (qyA a0 jbd jaQ jaD ja7 jby jbf jaM jaY jap jaK jal jam jax jao ja5 jb9 jbJ jae jag jaf ja0 jaC jbw jaw jaI jaZ jaH jaS jan jaU jaE jar jaL jah jaB jaa jaz jaG jab jaT a0_s jaq jai jaO jaA jat jau jav jaj jas jaJ jak jad jay jac jaQ cyI ja9 jaT cyI jb0 a0_s cyI f0_s ja5 cyI jbv jbJ cyI jcx jb9 cyI jdH) sz)) 0 0 (va_A (qyA a0 jbd jaQ jaD ja7 jby jbf jaM jaY jap jaK jal jam jax jao ja5 jb9 jbJ jae jag jaf ja0 jaC jbw jaw jaI jaZ jaH jaS jan jaU jaE jar jaL jah jaB jaa jaz jaG jab jaT a0_s jaq jai jaO jaA jat jau jav jaj jas jaJ jak jad jay jac jaQ cyI ja9 jaT cyI jb0 a0_s cyI f0_s ja5 cyI jbv jbJ cyI jcx jb9 cyI jdH) sz) := by
  refine Met.ofW (cc := cX11_ahead) (maxL := 4) (ret := (some .int)) (by decide) rfl ?_
  intro p e s m args below meth c s₁ B hml hv
  obtain ⟨rfl, hsz, hP, hK, hD0, hNw⟩ := hv
  have hx := B.exec
  have hb := B.bytes
  have hr := B.returns
  have hts := atoms_spec (ws := wsX11_ahead) B.pre
  have hown : s.vm.findClass RX11 = some m.cls := findClass_of_methodNamed B.named
  have hlocks := B.notSynchronized
  subst hsz
  have hD := hD0.self (sz := s.heap.size)
  generalize hAe : va_A (qyA a0 jbd jaQ jaD ja7 jby jbf jaM jaY jap jaK jal jam jax jao ja5 jb9 jbJ jae jag jaf ja0 jaC jbw jaw jaI jaZ jaH jaS jan jaU jaE jar jaL jah jaB jaa jaz jaG jab jaT a0_s jaq jai jaO jaA jat jau jav jaj jas jaJ jak jad jay jac jaQ cyI ja9 jaT cyI jb0 a0_s cyI f0_s ja5 cyI jbv jbJ cyI jcx jb9 cyI jdH) s.heap.size = A at hD ⊢
  have hA : ∀ q : Nat, s.heap.size ≤ q → A q := fun q h => by rw [← hAe]; exact Or.inr h
  have hS : va_S A s.heap s.heap [] := va_S.rf
  have hP : va_P (dC, dI) vwCl (qyA a0 jbd jaQ jaD ja7 jby jbf jaM jaY jap jaK jal jam jax jao ja5 jb9 jbJ jae jag jaf ja0 jaC jbw jaw jaI jaZ jaH jaS jan jaU jaE jar jaL jah jaB jaa jaz jaG jab jaT a0_s jaq jai jaO jaA jat jau jav jaj jas jaJ jak jad jay jac jaQ cyI ja9 jaT cyI jb0 a0_s cyI f0_s ja5 cyI jbv jbJ cyI jcx jb9 cyI jdH) s.heap := hP
  have hl := lv_entry ([.ref a0, .int p1, .int p2]) (n := 4) (nbq rfl)
  rw [lg_entry_eq]
  generalize (lg_sl ([.ref a0, .int p1, .int p2]) ++ List.replicate (4 - (lg_sl ([.ref a0, .int p1, .int p2])).length) Slot.unset).toArray = ls at hl ⊢
  have hl : lv_has ls 4 [(0, .ref a0), (1, .int p1), (2, .int p2)] := hl
  have C0 : cfx p s m _ meth c cX11_ahead (some .int) wsX11_ahead RX11 4 A (dC, dI) (kT cyB cyI cyJ cyP) := ⟨hx, hb, hr, hts, hown, hlocks, hml, hA, hK, hNw⟩
  clear hAe
  obtain ⟨H, hH⟩ : ∃ H, H = s.heap := ⟨_, rfl⟩
  rw [← hH] at hP ⊢
  have hS : va_S A s.heap H [] := by rw [hH]; exact va_S.rf
  have hS := hS
  refine lv_aload_n hx hb (qaa qjw 0 rfl) rfl (lv_at hl 0 rfl) ?_
  refine lv_iconst (v := 0) hx hb (qaa qjw 1 rfl) (by decide) ?_
  refine va_put (D := (dC, dI)) (ci := 11) (v := .int 0) (ty := .int) (C := RX11) (T := TX11) (N := 55) hx hb hts qZK tyX11 tyX11_ok nmX11 hown hK hP hD hS 0 rfl rfl 0 (by decide) (hts _ qawX) (fun _ h9 => h9) rfl (by decide +kernel) rfl rfl (nbq rfl) (qaa qjw 2 rfl) (fun H locs hP hD hS => ?_)
  have hP : va_P (dC, dI) vwCl (qyA a0 0 jaQ jaD ja7 jby jbf jaM jaY jap jaK jal jam jax jao ja5 jb9 jbJ jae jag jaf ja0 jaC jbw jaw jaI jaZ jaH jaS jan jaU jaE jar jaL jah jaB jaa jaz jaG jab jaT a0_s jaq jai jaO jaA jat jau jav jaj jas jaJ jak jad jay jac jaQ cyI ja9 jaT cyI jb0 a0_s cyI f0_s ja5 cyI jbv jbJ cyI jcx jb9 cyI jdH) H := hP
  have hD : va_D A (qyA a0 0 jaQ jaD ja7 jby jbf jaM jaY jap jaK jal jam jax jao ja5 jb9 jbJ jae jag jaf ja0 jaC jbw jaw jaI jaZ jaH jaS jan jaU jaE jar jaL jah jaB jaa jaz jaG jab jaT a0_s jaq jai jaO jaA jat jau jav jaj jas jaJ jak jad jay jac jaQ cyI ja9 jaT cyI jb0 a0_s cyI f0_s ja5 cyI jbv jbJ cyI jcx jb9 cyI jdH) := hD
  refine lv_aload_n hx hb (qaa qjw 3 rfl) rfl (lv_at hl 0 rfl) ?_
  refine lv_iload_n hx hb (qaa qjw 4 rfl) rfl (lv_at hl 1 rfl) ?_
  refine lv_iconst (v := 0) hx hb (qaa qjw 5 rfl) (by decide) ?_
  refine lv_bipush (v := 99) hx hb (qaa qjw 6 rfl) (by decide) ?_
  obtain ⟨hCc, hPc, hDc, hFc⟩ := qac (ws' := []) hP hD hS hA [] (by decide +kernel) rfl
  refine va_calli (va_runS (As := [.int p1, .int 0, .int 99]) (rest := [.ref a0]) ⟨hx, hb, hml, hown, hts⟩ (qbH l dC dI cyB cyI cyJ cyP H.size p1 0 99 hw) (va_cwS 3 hts gX11_ahead_X11_within rfl rfl rfl (by decide +kernel) ⟨nbq rfl, nbq rfl⟩) ⟨qab, qae hPc hK hDc hNw⟩ rfl rfl hl.1 rfl (lv_room (nbq rfl)) (qaa qjw 7 rfl) ⟨nbq rfl, nbq rfl⟩) hS (fun q _ h => hFc q h) hFc (fun r1 u t H1 locs ht hvm hw hB hz1 hk1 hS => ?_)
  obtain ⟨hP1, hK1, hD1⟩ := hB
  rw [ht] at hP1
  obtain ⟨hP, hD⟩ := qah (wr := (qyA a0 0 jaQ jaD ja7 jby jbf jaM jaY jap jaK jal jam jax jao ja5 jb9 jbJ jae jag jaf ja0 jaC jbw jaw jaI jaZ jaH jaS jan jaU jaE jar jaL jah jaB jaa jaz jaG jab jaT a0_s jaq jai jaO jaA jat jau jav jaj jas jaJ jak jad jay jac jaQ cyI ja9 jaT cyI jb0 a0_s cyI f0_s ja5 cyI jbv jbJ cyI jcx jb9 cyI jdH)) (w1 := []) (wn := (qyA a0 0 jaQ jaD ja7 jby jbf jaM jaY jap jaK jal jam jax jao ja5 jb9 jbJ jae jag jaf ja0 jaC jbw jaw jaI jaZ jaH jaS jan jaU jaE jar jaL jah jaB jaa jaz jaG jab jaT a0_s jaq jai jaO jaA jat jau jav jaj jas jaJ jak jad jay jac jaQ cyI ja9 jaT cyI jb0 a0_s cyI f0_s ja5 cyI jbv jbJ cyI jcx jb9 cyI jdH)) hP hD [] [0, 1, 2, 3, 4, 5, 6] hCc rfl (by decide +kernel) (by decide +kernel) rfl hk1 hFc hP1 hD1
  generalize H1 = H at hP hS ⊢
  refine lv_if_eq (tgt := 29) hx hb (qaa qjw 8 rfl) (by decide) (fun c2 => ?_) (fun c2 => ?_)
  · have hw := hw.1 c2
    exact q4A dC dI cyB cyI cyJ cyP a0 jaQ jaT a0_s ja5 jbJ jb9 jaD ja7 jby jbf jaM jaY jap jaK jal jam jax jao jae jag jaf ja0 jaw jaI jaZ jaH jaS jan jaU jaE jar jaL jah jaB jaa jaz jaG jab jaq jai jaO jaA jat jau jav jaj jas jaJ jak jad jay jac jaC jbw jb0 jbv jcx jdH Q C0 _ _ _ 0 ja9 f0_s p1 p2 hP hD hS (lv_sub hl [0, 1, 2] rfl) hw
  · have hw := hw.2 c2
    refine lv_iload_n hx hb (qaa qjw 9 rfl) rfl (lv_at hl 2 rfl) ?_
    refine lv_iconst (v := 0) hx hb (qaa qjw 10 rfl) (by decide) ?_
    refine lv_iconst (v := 2) hx hb (qaa qjw 11 rfl) (by decide) ?_
    obtain ⟨hCc, hPc, hDc, hFc⟩ := qac (ws' := []) hP hD hS hA [] (by decide +kernel) rfl
    refine va_calli (va_runS (As := [.int p2, .int 0, .int 2]) (rest := [.ref a0]) ⟨hx, hb, hml, hown, hts⟩ (qbH l dC dI cyB cyI cyJ cyP H.size p2 0 2 hw) (va_cwS 3 hts gX11_ahead_X11_within rfl rfl rfl (by decide +kernel) ⟨nbq rfl, nbq rfl⟩) ⟨qab, qae hPc hK hDc hNw⟩ rfl rfl hl.1 rfl (lv_room (nbq rfl)) (qaa qjw 12 rfl) ⟨nbq rfl, nbq rfl⟩) hS (fun q _ h => hFc q h) hFc (fun r3 u t H1 locs ht hvm hw hB hz1 hk1 hS => ?_)
    obtain ⟨hP1, hK1, hD1⟩ := hB
    rw [ht] at hP1
    obtain ⟨hP, hD⟩ := qah (wr := (qyA a0 0 jaQ jaD ja7 jby jbf jaM jaY jap jaK jal jam jax jao ja5 jb9 jbJ jae jag jaf ja0 jaC jbw jaw jaI jaZ jaH jaS jan jaU jaE jar jaL jah jaB jaa jaz jaG jab jaT a0_s jaq jai jaO jaA jat jau jav jaj jas jaJ jak jad jay jac jaQ cyI ja9 jaT cyI jb0 a0_s cyI f0_s ja5 cyI jbv jbJ cyI jcx jb9 cyI jdH)) (w1 := []) (wn := (qyA a0 0 jaQ jaD ja7 jby jbf jaM jaY jap jaK jal jam jax jao ja5 jb9 jbJ jae jag jaf ja0 jaC jbw jaw jaI jaZ jaH jaS jan jaU jaE jar jaL jah jaB jaa jaz jaG jab jaT a0_s jaq jai jaO jaA jat jau jav jaj jas jaJ jak jad jay jac jaQ cyI ja9 jaT cyI jb0 a0_s cyI f0_s ja5 cyI jbv jbJ cyI jcx jb9 cyI jdH)) hP hD [] [0, 1, 2, 3, 4, 5, 6] hCc rfl (by decide +kernel) (by decide +kernel) rfl hk1 hFc hP1 hD1
    generalize H1 = H at hP hS ⊢
    refine lv_if_eq (tgt := 29) hx hb (qaa qjw 13 rfl) (by decide) (fun c4 => ?_) (fun c4 => ?_)
    · have hw := hw.1 c4
      exact q4A dC dI cyB cyI cyJ cyP a0 jaQ jaT a0_s ja5 jbJ jb9 jaD ja7 jby jbf jaM jaY jap jaK jal jam jax jao jae jag jaf ja0 jaw jaI jaZ jaH jaS jan jaU jaE jar jaL jah jaB jaa jaz jaG jab jaq jai jaO jaA jat jau jav jaj jas jaJ jak jad jay jac jaC jbw jb0 jbv jcx jdH Q C0 _ _ _ 0 ja9 f0_s p1 p2 hP hD hS (lv_sub hl [0, 1, 2] rfl) hw
    · have hw := hw.2 c4
      refine lv_iconst (v := 1) hx hb (qaa qjw 14 rfl) (by decide) ?_
      refine lv_goto (tgt := 30) hx hb (qaa qjw 15 rfl) (by decide) ?_
      exact q1R dC dI cyB cyI cyJ cyP a0 jaQ jaT a0_s ja5 jbJ jb9 jaD ja7 jby jbf jaM jaY jap jaK jal jam jax jao jae jag jaf ja0 jaw jaI jaZ jaH jaS jan jaU jaE jar jaL jah jaB jaa jaz jaG jab jaq jai jaO jaA jat jau jav jaj jas jaJ jak jad jay jac jaC jbw jb0 jbv jcx jdH Q C0 _ _ _ 0 ja9 f0_s p1 p2 1 hP hD hS (lv_sub hl [0, 1, 2] rfl) hw
theorem qvw : ∀ w ∈ u_ws RX11 TX11 55, w ∈ wsX11_begins := uiM qBz qga (by decide +kernel)
theorem qagd : (.fieldLink RX11 111 "MarchHaresModel" "taped" "I" : Cond) ∈ wsX11_begins := qBz 590 (by decide +kernel)
theorem qah2 : (.fieldLink RX11 114 "MarchHaresModel" "bad" "I" : Cond) ∈ wsX11_begins := qBz 1104 (by decide +kernel)
theorem qaeU : (.fieldLink RX11 120 "MarchHaresModel" "at" "I" : Cond) ∈ wsX11_begins := qBz 1103 (by decide +kernel)
theorem qah6 : (.fieldLink RX11 123 "MarchHaresModel" "size" "I" : Cond) ∈ wsX11_begins := qBz 1153 (by decide +kernel)
theorem qafd : (.fieldLink RX11 154 "MarchHaresModel" "opens" "I" : Cond) ∈ wsX11_begins := qBz 1154 (by decide +kernel)
theorem qakD : (.fieldLink RX11 17 "MarchHaresModel" "faultAt" "I" : Cond) ∈ wsX11_begins := qBz 399 (by decide +kernel)
set_option maxHeartbeats 4000000 in
set_option maxRecDepth 100000 in
theorem qOh (l : Launch) (dC : Nat → ClassId) (dI : Nat → Nat → Nat) (cyB cyI cyJ cyP : ClassId) (a0 sz : Nat) (jaX jaF jaM jaK jal jam jax jao ja6 jaV ja8 jae jag jaf ja0 ja4 jaP jaw jaI jaZ jaH jaS jan jaU jaE jar jaL jah jaB jaa jaz jaG jab ja2 z0_s jaq jai jaO jaA jat jau jav jaj jas jaJ jak jad jay jac : Value) (jgt jgm jbx jcP jb8 jbK p1 : Int32) {Q : Int32 → Int32 → Int32 → Int32 → Int32 → Int32 → Prop} (hw : qH3 jgt jgm jbx jcP jb8 jbK p1 Q) : Met l yX11_begins wsX11_begins ({ frames := 0, cells := 0, slots := 0, locals := 0 }) (va_Pc [.ref a0, .int p1] (cPc (dC, dI) (kT cyB cyI cyJ cyP) (qy9 a0 jaX jaF jgt jbx jcP jb8 jaM jbK jgm jaK jal jam jax jao ja6 jaV ja8 jae jag jaf ja0 ja4 jaP jaw jaI jaZ jaH jaS jan jaU jaE jar jaL jah jaB jaa jaz jaG jab ja2 z0_s jaq jai jaO jaA jat jau jav jaj jas jaJ jak jad jay jac) sz)) (va_Qv (fun (u : Int32 × Int32 × Int32 × Int32 × Int32 × Int32) => Q u.1 u.2.1 u.2.2.1 u.2.2.2.1 u.2.2.2.2.1 u.2.2.2.2.2) (cB (dC, dI) (kT cyB cyI cyJ cyP) (va_A (qy9 a0 jaX jaF jgt jbx jcP jb8 jaM jbK jgm jaK jal jam jax jao ja6 jaV ja8 jae jag jaf ja0 ja4 jaP jaw jaI jaZ jaH jaS jan jaU jaE jar jaL jah jaB jaa jaz jaG jab ja2 z0_s jaq jai jaO jaA jat jau jav jaj jas jaJ jak jad jay jac) sz) (fun u : Int32 × Int32 × Int32 × Int32 × Int32 × Int32 => ((qy9 a0 jaX jaF u.1 u.2.2.1 u.2.2.2.1 u.2.2.2.2.1 jaM u.2.2.2.2.2 u.2.1 jaK jal jam jax jao ja6 jaV ja8 jae jag jaf ja0 ja4 jaP jaw jaI jaZ jaH jaS jan jaU jaE jar jaL jah jaB jaa jaz jaG jab ja2 z0_s jaq jai jaO jaA jat jau jav jaj jas jaJ jak jad jay jac) : va_W))) (va_A (qy9 a0 jaX jaF jgt jbx jcP jb8 jaM jbK jgm jaK jal jam jax jao ja6 jaV ja8 jae jag jaf ja0 ja4 jaP jaw jaI jaZ jaH jaS jan jaU jaE jar jaL jah jaB jaa jaz jaG jab ja2 z0_s jaq jai jaO jaA jat jau jav jaj jas jaJ jak jad jay jac) sz)) 0 0 (va_A (qy9 a0 jaX jaF jgt jbx jcP jb8 jaM jbK jgm jaK jal jam jax jao ja6 jaV ja8 jae jag jaf ja0 ja4 jaP jaw jaI jaZ jaH jaS jan jaU jaE jar jaL jah jaB jaa jaz jaG jab ja2 z0_s jaq jai jaO jaA jat jau jav jaj jas jaJ jak jad jay jac) sz) := by
  refine Met.ofW (cc := cX11_begins) (maxL := 2) (ret := none) (by decide) rfl ?_
  intro p e s m args below meth c s₁ B hml hv
  obtain ⟨rfl, hsz, hP, hK, hD0, hNw⟩ := hv
  have hx := B.exec
  have hb := B.bytes
  have hr := B.returns
  have hts := atoms_spec (ws := wsX11_begins) B.pre
  have hown : s.vm.findClass RX11 = some m.cls := findClass_of_methodNamed B.named
  have hlocks := B.notSynchronized
  subst hsz
  have hD := hD0.self (sz := s.heap.size)
  generalize hAe : va_A (qy9 a0 jaX jaF jgt jbx jcP jb8 jaM jbK jgm jaK jal jam jax jao ja6 jaV ja8 jae jag jaf ja0 ja4 jaP jaw jaI jaZ jaH jaS jan jaU jaE jar jaL jah jaB jaa jaz jaG jab ja2 z0_s jaq jai jaO jaA jat jau jav jaj jas jaJ jak jad jay jac) s.heap.size = A at hD ⊢
  have hA : ∀ q : Nat, s.heap.size ≤ q → A q := fun q h => by rw [← hAe]; exact Or.inr h
  have hS : va_S A s.heap s.heap [] := va_S.rf
  have hP : va_P (dC, dI) vwCl (qy9 a0 jaX jaF jgt jbx jcP jb8 jaM jbK jgm jaK jal jam jax jao ja6 jaV ja8 jae jag jaf ja0 ja4 jaP jaw jaI jaZ jaH jaS jan jaU jaE jar jaL jah jaB jaa jaz jaG jab ja2 z0_s jaq jai jaO jaA jat jau jav jaj jas jaJ jak jad jay jac) s.heap := hP
  have hl := lv_entry ([.ref a0, .int p1]) (n := 2) (nbq rfl)
  rw [lg_entry_eq]
  generalize (lg_sl ([.ref a0, .int p1]) ++ List.replicate (2 - (lg_sl ([.ref a0, .int p1])).length) Slot.unset).toArray = ls at hl ⊢
  have hl : lv_has ls 2 [(0, .ref a0), (1, .int p1)] := hl
  have C0 : cfx p s m _ meth c cX11_begins none wsX11_begins RX11 2 A (dC, dI) (kT cyB cyI cyJ cyP) := ⟨hx, hb, hr, hts, hown, hlocks, hml, hA, hK, hNw⟩
  clear hAe
  obtain ⟨H, hH⟩ : ∃ H, H = s.heap := ⟨_, rfl⟩
  rw [← hH] at hP ⊢
  have hS : va_S A s.heap H [] := by rw [hH]; exact va_S.rf
  have hS := hS
  refine lv_aload_n hx hb (qaa qg8 0 rfl) rfl (lv_at hl 0 rfl) ?_
  refine lv_iconst (v := 0) hx hb (qaa qg8 1 rfl) (by decide) ?_
  refine va_put (D := (dC, dI)) (ci := 11) (v := .int 0) (ty := .int) (C := RX11) (T := TX11) (N := 55) hx hb hts qvw tyX11 tyX11_ok nmX11 hown hK hP hD hS 0 rfl rfl 2 (by decide) (hts _ qagd) (fun _ h9 => h9) rfl (by decide +kernel) rfl rfl (nbq rfl) (qaa qg8 2 rfl) (fun H locs hP hD hS => ?_)
  have hP : va_P (dC, dI) vwCl (qy9 a0 jaX jaF 0 jbx jcP jb8 jaM jbK jgm jaK jal jam jax jao ja6 jaV ja8 jae jag jaf ja0 ja4 jaP jaw jaI jaZ jaH jaS jan jaU jaE jar jaL jah jaB jaa jaz jaG jab ja2 z0_s jaq jai jaO jaA jat jau jav jaj jas jaJ jak jad jay jac) H := hP
  have hD : va_D A (qy9 a0 jaX jaF 0 jbx jcP jb8 jaM jbK jgm jaK jal jam jax jao ja6 jaV ja8 jae jag jaf ja0 ja4 jaP jaw jaI jaZ jaH jaS jan jaU jaE jar jaL jah jaB jaa jaz jaG jab ja2 z0_s jaq jai jaO jaA jat jau jav jaj jas jaJ jak jad jay jac) := hD
  refine lv_aload_n hx hb (qaa qg8 3 rfl) rfl (lv_at hl 0 rfl) ?_
  refine lv_iconst (v := (-1)) hx hb (qaa qg8 4 rfl) (by decide) ?_
  refine va_put (D := (dC, dI)) (ci := 11) (v := .int (-1)) (ty := .int) (C := RX11) (T := TX11) (N := 55) hx hb hts qvw tyX11 tyX11_ok nmX11 hown hK hP hD hS 0 rfl rfl 8 (by decide) (hts _ qakD) (fun _ h9 => h9) rfl (by decide +kernel) rfl rfl (nbq rfl) (qaa qg8 5 rfl) (fun H locs hP hD hS => ?_)
  have hP : va_P (dC, dI) vwCl (qy9 a0 jaX jaF 0 jbx jcP jb8 jaM jbK (-1) jaK jal jam jax jao ja6 jaV ja8 jae jag jaf ja0 ja4 jaP jaw jaI jaZ jaH jaS jan jaU jaE jar jaL jah jaB jaa jaz jaG jab ja2 z0_s jaq jai jaO jaA jat jau jav jaj jas jaJ jak jad jay jac) H := hP
  have hD : va_D A (qy9 a0 jaX jaF 0 jbx jcP jb8 jaM jbK (-1) jaK jal jam jax jao ja6 jaV ja8 jae jag jaf ja0 ja4 jaP jaw jaI jaZ jaH jaS jan jaU jaE jar jaL jah jaB jaa jaz jaG jab ja2 z0_s jaq jai jaO jaA jat jau jav jaj jas jaJ jak jad jay jac) := hD
  refine lv_aload_n hx hb (qaa qg8 6 rfl) rfl (lv_at hl 0 rfl) ?_
  refine lv_iload_n hx hb (qaa qg8 7 rfl) rfl (lv_at hl 1 rfl) ?_
  refine va_put (D := (dC, dI)) (ci := 11) (v := .int p1) (ty := .int) (C := RX11) (T := TX11) (N := 55) hx hb hts qvw tyX11 tyX11_ok nmX11 hown hK hP hD hS 0 rfl rfl 3 (by decide) (hts _ qah6) (fun _ h9 => h9) rfl (by decide +kernel) rfl rfl (nbq rfl) (qaa qg8 8 rfl) (fun H locs hP hD hS => ?_)
  have hP : va_P (dC, dI) vwCl (qy9 a0 jaX jaF 0 p1 jcP jb8 jaM jbK (-1) jaK jal jam jax jao ja6 jaV ja8 jae jag jaf ja0 ja4 jaP jaw jaI jaZ jaH jaS jan jaU jaE jar jaL jah jaB jaa jaz jaG jab ja2 z0_s jaq jai jaO jaA jat jau jav jaj jas jaJ jak jad jay jac) H := hP
  have hD : va_D A (qy9 a0 jaX jaF 0 p1 jcP jb8 jaM jbK (-1) jaK jal jam jax jao ja6 jaV ja8 jae jag jaf ja0 ja4 jaP jaw jaI jaZ jaH jaS jan jaU jaE jar jaL jah jaB jaa jaz jaG jab ja2 z0_s jaq jai jaO jaA jat jau jav jaj jas jaJ jak jad jay jac) := hD
  refine lv_aload_n hx hb (qaa qg8 9 rfl) rfl (lv_at hl 0 rfl) ?_
  refine lv_iconst (v := 0) hx hb (qaa qg8 10 rfl) (by decide) ?_
  refine va_put (D := (dC, dI)) (ci := 11) (v := .int 0) (ty := .int) (C := RX11) (T := TX11) (N := 55) hx hb hts qvw tyX11 tyX11_ok nmX11 hown hK hP hD hS 0 rfl rfl 4 (by decide) (hts _ qaeU) (fun _ h9 => h9) rfl (by decide +kernel) rfl rfl (nbq rfl) (qaa qg8 11 rfl) (fun H locs hP hD hS => ?_)
  have hP : va_P (dC, dI) vwCl (qy9 a0 jaX jaF 0 p1 0 jb8 jaM jbK (-1) jaK jal jam jax jao ja6 jaV ja8 jae jag jaf ja0 ja4 jaP jaw jaI jaZ jaH jaS jan jaU jaE jar jaL jah jaB jaa jaz jaG jab ja2 z0_s jaq jai jaO jaA jat jau jav jaj jas jaJ jak jad jay jac) H := hP
  have hD : va_D A (qy9 a0 jaX jaF 0 p1 0 jb8 jaM jbK (-1) jaK jal jam jax jao ja6 jaV ja8 jae jag jaf ja0 ja4 jaP jaw jaI jaZ jaH jaS jan jaU jaE jar jaL jah jaB jaa jaz jaG jab ja2 z0_s jaq jai jaO jaA jat jau jav jaj jas jaJ jak jad jay jac) := hD
  refine lv_aload_n hx hb (qaa qg8 12 rfl) rfl (lv_at hl 0 rfl) ?_
  refine lv_iconst (v := (-1)) hx hb (qaa qg8 13 rfl) (by decide) ?_
  refine va_put (D := (dC, dI)) (ci := 11) (v := .int (-1)) (ty := .int) (C := RX11) (T := TX11) (N := 55) hx hb hts qvw tyX11 tyX11_ok nmX11 hown hK hP hD hS 0 rfl rfl 5 (by decide) (hts _ qah2) (fun _ h9 => h9) rfl (by decide +kernel) rfl rfl (nbq rfl) (qaa qg8 14 rfl) (fun H locs hP hD hS => ?_)
  have hP : va_P (dC, dI) vwCl (qy9 a0 jaX jaF 0 p1 0 (-1) jaM jbK (-1) jaK jal jam jax jao ja6 jaV ja8 jae jag jaf ja0 ja4 jaP jaw jaI jaZ jaH jaS jan jaU jaE jar jaL jah jaB jaa jaz jaG jab ja2 z0_s jaq jai jaO jaA jat jau jav jaj jas jaJ jak jad jay jac) H := hP
  have hD : va_D A (qy9 a0 jaX jaF 0 p1 0 (-1) jaM jbK (-1) jaK jal jam jax jao ja6 jaV ja8 jae jag jaf ja0 ja4 jaP jaw jaI jaZ jaH jaS jan jaU jaE jar jaL jah jaB jaa jaz jaG jab ja2 z0_s jaq jai jaO jaA jat jau jav jaj jas jaJ jak jad jay jac) := hD
  refine lv_aload_n hx hb (qaa qg8 15 rfl) rfl (lv_at hl 0 rfl) ?_
  refine lv_iconst (v := 0) hx hb (qaa qMW 0 rfl) (by decide) ?_
  refine va_put (D := (dC, dI)) (ci := 11) (v := .int 0) (ty := .int) (C := RX11) (T := TX11) (N := 55) hx hb hts qvw tyX11 tyX11_ok nmX11 hown hK hP hD hS 0 rfl rfl 7 (by decide) (hts _ qafd) (fun _ h9 => h9) rfl (by decide +kernel) rfl rfl (nbq rfl) (qaa qMW 1 rfl) (fun H locs hP hD hS => ?_)
  have hP : va_P (dC, dI) vwCl (qy9 a0 jaX jaF 0 p1 0 (-1) jaM 0 (-1) jaK jal jam jax jao ja6 jaV ja8 jae jag jaf ja0 ja4 jaP jaw jaI jaZ jaH jaS jan jaU jaE jar jaL jah jaB jaa jaz jaG jab ja2 z0_s jaq jai jaO jaA jat jau jav jaj jas jaJ jak jad jay jac) H := hP
  have hD : va_D A (qy9 a0 jaX jaF 0 p1 0 (-1) jaM 0 (-1) jaK jal jam jax jao ja6 jaV ja8 jae jag jaf ja0 ja4 jaP jaw jaI jaZ jaH jaS jan jaU jaE jar jaL jah jaB jaa jaz jaG jab ja2 z0_s jaq jai jaO jaA jat jau jav jaj jas jaJ jak jad jay jac) := hD
  exact ((W.vret hx hb hr (fun t ht hW => ⟨⟨(0, (-1), p1, 0, (-1), 0), rfl, hw, by rw [ht]; exact hP, va_K.moved hW.alike hK, hD⟩, hS.F ht⟩) hS.2.2 (qaa qMW 2 rfl)))
theorem qPA : ∀ w ∈ u_ws RX11 TX11 55, w ∈ wsX11_bitsTold := uiM qEi qga (by decide +kernel)
theorem q6c : (.fieldLink RX11 169 "MarchHaresModel" "hares" "I" : Cond) ∈ wsX11_bitsTold := qEi 520 (by decide +kernel)
theorem q9J : (.fieldLink RX11 71 "MarchHaresModel" "s" "[I" : Cond) ∈ wsX11_bitsTold := qEi 457 (by decide +kernel)
set_option maxHeartbeats 4000000 in
set_option maxRecDepth 100000 in
theorem qSf {p : Program} {l : Launch} {e : Env} {s : State} {m : MethodId} {args : Array Value} {below : List Frame} {meth : Method} {c : Code} {A : Nat → Prop} (dC : Nat → ClassId) (dI : Nat → Nat → Nat) (cyB cyI cyJ cyP : ClassId) (a0 a0_s ja5 jbJ : Nat) (jaX jaF jaD ja7 jby jbf jaM jaY jap jaK jal jam jax jao jaV jae jag jaf ja0 jaw jaI jaZ jaH jaS jan jaU jaE jar jaL jah jaB jaa jaz jaG jab ja2 jaq jai jaO jaA jat jau jav jaj jas jaJ jak jad jay jac : Value) (jaC jbw : Int32) (f0_s jbv jcx : NI) (Q : Int32 → Prop) (K4 : Int32 → Int32 → Int32 → Prop) (hK4 : ∀ (H : Heap) (locs : List Loc) (ls : Array Slot) (l1 l2 l3 : Int32), va_P (dC, dI) vwCl (qq2 a0 jaX jaF jaD ja7 jby jbf jaM jaY jap jaK jal jam jax jao ja5 jaV jbJ jae jag jaf ja0 jaC jbw jaw jaI jaZ jaH jaS jan jaU jaE jar jaL jah jaB jaa jaz jaG jab ja2 a0_s jaq jai jaO jaA jat jau jav jaj jas jaJ jak jad jay jac a0_s cyI f0_s ja5 cyI jbv jbJ cyI jcx) H → va_D A (qq2 a0 jaX jaF jaD ja7 jby jbf jaM jaY jap jaK jal jam jax jao ja5 jaV jbJ jae jag jaf ja0 jaC jbw jaw jaI jaZ jaH jaS jan jaU jaE jar jaL jah jaB jaa jaz jaG jab ja2 a0_s jaq jai jaO jaA jat jau jav jaj jas jaJ jak jad jay jac a0_s cyI f0_s ja5 cyI jbv jbJ cyI jcx) → va_S A s.heap H locs → lv_has ls 4 [(0, .ref a0), (1, .int l1), (2, .int l2), (3, .int l3)] → K4 l1 l2 l3 → W p l e (headSpec wsX11_bitsTold ({ frames := 3, cells := 0, slots := 0, locals := 63 })).room s m args below meth c H locs 0 0 (MQ below (va_Qi (fun (r : Int32) (_ : Unit) => Q r ) (cB (dC, dI) (kT cyB cyI cyJ cyP) A (fun u : Unit => ((qq2 a0 jaX jaF jaD ja7 jby jbf jaM jaY jap jaK jal jam jax jao ja5 jaV jbJ jae jag jaf ja0 jaC jbw jaw jaI jaZ jaH jaS jan jaU jaE jar jaL jah jaB jaa jaz jaG jab ja2 a0_s jaq jai jaO jaA jat jau jav jaj jas jaJ jak jad jay jac a0_s cyI f0_s ja5 cyI jbv jbJ cyI jcx) : va_W))) A) args s 0 0 A) (F0 m 4 ls [])) (C0 : cfx p s m args meth c cX11_bitsTold (some .int) wsX11_bitsTold RX11 4 A (dC, dI) (kT cyB cyI cyJ cyP)) : ∀ (H : Heap) (locs : List Loc) (ls : Array Slot) (l1 l3 s0 s1 : Int32), va_P (dC, dI) vwCl (qq2 a0 jaX jaF jaD ja7 jby jbf jaM jaY jap jaK jal jam jax jao ja5 jaV jbJ jae jag jaf ja0 jaC jbw jaw jaI jaZ jaH jaS jan jaU jaE jar jaL jah jaB jaa jaz jaG jab ja2 a0_s jaq jai jaO jaA jat jau jav jaj jas jaJ jak jad jay jac a0_s cyI f0_s ja5 cyI jbv jbJ cyI jcx) H → va_D A (qq2 a0 jaX jaF jaD ja7 jby jbf jaM jaY jap jaK jal jam jax jao ja5 jaV jbJ jae jag jaf ja0 jaC jbw jaw jaI jaZ jaH jaS jan jaU jaE jar jaL jah jaB jaa jaz jaG jab ja2 a0_s jaq jai jaO jaA jat jau jav jaj jas jaJ jak jad jay jac a0_s cyI f0_s ja5 cyI jbv jbJ cyI jcx) → va_S A s.heap H locs → lv_has ls 4 [(0, .ref a0), (1, .int l1), (3, .int l3)] → qHE jaC jbw f0_s jbv jcx Q K4 l1 l3 s0 s1 → W p l e (headSpec wsX11_bitsTold ({ frames := 3, cells := 0, slots := 0, locals := 63 })).room s m args below meth c H locs 0 0 (MQ below (va_Qi (fun (r : Int32) (_ : Unit) => Q r ) (cB (dC, dI) (kT cyB cyI cyJ cyP) A (fun u : Unit => ((qq2 a0 jaX jaF jaD ja7 jby jbf jaM jaY jap jaK jal jam jax jao ja5 jaV jbJ jae jag jaf ja0 jaC jbw jaw jaI jaZ jaH jaS jan jaU jaE jar jaL jah jaB jaa jaz jaG jab ja2 a0_s jaq jai jaO jaA jat jau jav jaj jas jaJ jak jad jay jac a0_s cyI f0_s ja5 cyI jbv jbJ cyI jcx) : va_W))) A) args s 0 0 A) (F0 m 50 ls [.int s1, .int s0]) := by
  obtain ⟨hx, hb, hr, hts, hown, hlocks, hml, hA, hK, hNw⟩ := id C0
  intro H locs ls l1 l3 s0 s1 hP hD hS hl hw
  refine lv_ior hx hb (qaa qdc 14 rfl) ?_
  refine lv_topi (fun x8 ex8 => ?_)
  have hw := hw x8 ex8
  refine lv_istore_n (lv' := [(2, .int x8), (0, .ref a0), (1, .int l1), (3, .int l3)]) hx hb (qaa qdc 15 rfl) rfl hl (by decide) rfl (fun ls hl => ?_)
  obtain ⟨x9, ex9⟩ : ∃ y : Int32, y = l3 + 1 := ⟨_, rfl⟩
  have hw := hw x9 ex9
  refine lv_iinc (v := x9) (lv' := [(3, .int x9), (2, .int x8), (0, .ref a0), (1, .int l1)]) hx hb (qaa qA8 0 rfl) hl (k := 3) rfl (by rw [ex9]; rfl) (by decide) rfl (fun ls hl => ?_)
  refine lv_goto (tgt := 4) hx hb (qaa qA8 1 rfl) (by decide) ?_
  exact hK4 _ _ _ l1 x8 x9 hP hD hS (lv_sub hl [2, 3, 1, 0] rfl) hw
set_option maxHeartbeats 4000000 in
set_option maxRecDepth 100000 in
theorem qRI {p : Program} {l : Launch} {e : Env} {s : State} {m : MethodId} {args : Array Value} {below : List Frame} {meth : Method} {c : Code} {A : Nat → Prop} (dC : Nat → ClassId) (dI : Nat → Nat → Nat) (cyB cyI cyJ cyP : ClassId) (a0 a0_s ja5 jbJ : Nat) (jaX jaF jaD ja7 jby jbf jaM jaY jap jaK jal jam jax jao jaV jae jag jaf ja0 jaw jaI jaZ jaH jaS jan jaU jaE jar jaL jah jaB jaa jaz jaG jab ja2 jaq jai jaO jaA jat jau jav jaj jas jaJ jak jad jay jac : Value) (jaC jbw : Int32) (f0_s jbv jcx : NI) (Q : Int32 → Prop) (K4 : Int32 → Int32 → Int32 → Prop) (hK4 : ∀ (H : Heap) (locs : List Loc) (ls : Array Slot) (l1 l2 l3 : Int32), va_P (dC, dI) vwCl (qq2 a0 jaX jaF jaD ja7 jby jbf jaM jaY jap jaK jal jam jax jao ja5 jaV jbJ jae jag jaf ja0 jaC jbw jaw jaI jaZ jaH jaS jan jaU jaE jar jaL jah jaB jaa jaz jaG jab ja2 a0_s jaq jai jaO jaA jat jau jav jaj jas jaJ jak jad jay jac a0_s cyI f0_s ja5 cyI jbv jbJ cyI jcx) H → va_D A (qq2 a0 jaX jaF jaD ja7 jby jbf jaM jaY jap jaK jal jam jax jao ja5 jaV jbJ jae jag jaf ja0 jaC jbw jaw jaI jaZ jaH jaS jan jaU jaE jar jaL jah jaB jaa jaz jaG jab ja2 a0_s jaq jai jaO jaA jat jau jav jaj jas jaJ jak jad jay jac a0_s cyI f0_s ja5 cyI jbv jbJ cyI jcx) → va_S A s.heap H locs → lv_has ls 4 [(0, .ref a0), (1, .int l1), (2, .int l2), (3, .int l3)] → K4 l1 l2 l3 → W p l e (headSpec wsX11_bitsTold ({ frames := 3, cells := 0, slots := 0, locals := 63 })).room s m args below meth c H locs 0 0 (MQ below (va_Qi (fun (r : Int32) (_ : Unit) => Q r ) (cB (dC, dI) (kT cyB cyI cyJ cyP) A (fun u : Unit => ((qq2 a0 jaX jaF jaD ja7 jby jbf jaM jaY jap jaK jal jam jax jao ja5 jaV jbJ jae jag jaf ja0 jaC jbw jaw jaI jaZ jaH jaS jan jaU jaE jar jaL jah jaB jaa jaz jaG jab ja2 a0_s jaq jai jaO jaA jat jau jav jaj jas jaJ jak jad jay jac a0_s cyI f0_s ja5 cyI jbv jbJ cyI jcx) : va_W))) A) args s 0 0 A) (F0 m 4 ls [])) (C0 : cfx p s m args meth c cX11_bitsTold (some .int) wsX11_bitsTold RX11 4 A (dC, dI) (kT cyB cyI cyJ cyP)) : ∀ (H : Heap) (locs : List Loc) (ls : Array Slot) (l1 l3 s0 : Int32), va_P (dC, dI) vwCl (qq2 a0 jaX jaF jaD ja7 jby jbf jaM jaY jap jaK jal jam jax jao ja5 jaV jbJ jae jag jaf ja0 jaC jbw jaw jaI jaZ jaH jaS jan jaU jaE jar jaL jah jaB jaa jaz jaG jab ja2 a0_s jaq jai jaO jaA jat jau jav jaj jas jaJ jak jad jay jac a0_s cyI f0_s ja5 cyI jbv jbJ cyI jcx) H → va_D A (qq2 a0 jaX jaF jaD ja7 jby jbf jaM jaY jap jaK jal jam jax jao ja5 jaV jbJ jae jag jaf ja0 jaC jbw jaw jaI jaZ jaH jaS jan jaU jaE jar jaL jah jaB jaa jaz jaG jab ja2 a0_s jaq jai jaO jaA jat jau jav jaj jas jaJ jak jad jay jac a0_s cyI f0_s ja5 cyI jbv jbJ cyI jcx) → va_S A s.heap H locs → lv_has ls 4 [(0, .ref a0), (1, .int l1), (3, .int l3)] → qIh jaC jbw f0_s jbv jcx Q K4 l1 l3 s0 → W p l e (headSpec wsX11_bitsTold ({ frames := 3, cells := 0, slots := 0, locals := 63 })).room s m args below meth c H locs 0 0 (MQ below (va_Qi (fun (r : Int32) (_ : Unit) => Q r ) (cB (dC, dI) (kT cyB cyI cyJ cyP) A (fun u : Unit => ((qq2 a0 jaX jaF jaD ja7 jby jbf jaM jaY jap jaK jal jam jax jao ja5 jaV jbJ jae jag jaf ja0 jaC jbw jaw jaI jaZ jaH jaS jan jaU jaE jar jaL jah jaB jaa jaz jaG jab ja2 a0_s jaq jai jaO jaA jat jau jav jaj jas jaJ jak jad jay jac a0_s cyI f0_s ja5 cyI jbv jbJ cyI jcx) : va_W))) A) args s 0 0 A) (F0 m 43 ls [.int s0]) := by
  obtain ⟨hx, hb, hr, hts, hown, hlocks, hml, hA, hK, hNw⟩ := id C0
  intro H locs ls l1 l3 s0 hP hD hS hl hw
  refine lv_iconst (v := 1) hx hb (qaa qdc 9 rfl) (by decide) ?_
  refine lv_iload_n hx hb (qaa qdc 10 rfl) rfl (lv_at hl 2 rfl) ?_
  refine lv_ishl hx hb (qaa qdc 11 rfl) ?_
  refine lv_goto (tgt := 50) hx hb (qaa qdc 12 rfl) (by decide) ?_
  exact qSf dC dI cyB cyI cyJ cyP a0 a0_s ja5 jbJ jaX jaF jaD ja7 jby jbf jaM jaY jap jaK jal jam jax jao jaV jae jag jaf ja0 jaw jaI jaZ jaH jaS jan jaU jaE jar jaL jah jaB jaa jaz jaG jab ja2 jaq jai jaO jaA jat jau jav jaj jas jaJ jak jad jay jac jaC jbw f0_s jbv jcx Q K4 hK4 C0 _ _ _ l1 l3 s0 (1 <<< (l3 &&& 31)) hP hD hS (lv_sub hl [0, 1, 2] rfl) hw
set_option maxHeartbeats 4000000 in
set_option maxRecDepth 100000 in
theorem qRB {p : Program} {l : Launch} {e : Env} {s : State} {m : MethodId} {args : Array Value} {below : List Frame} {meth : Method} {c : Code} {A : Nat → Prop} (dC : Nat → ClassId) (dI : Nat → Nat → Nat) (cyB cyI cyJ cyP : ClassId) (a0 a0_s ja5 jbJ : Nat) (jaX jaF jaD ja7 jby jbf jaM jaY jap jaK jal jam jax jao jaV jae jag jaf ja0 jaw jaI jaZ jaH jaS jan jaU jaE jar jaL jah jaB jaa jaz jaG jab ja2 jaq jai jaO jaA jat jau jav jaj jas jaJ jak jad jay jac : Value) (jaC jbw : Int32) (f0_s jbv jcx : NI) (Q : Int32 → Prop) (K4 : Int32 → Int32 → Int32 → Prop) (hK4 : ∀ (H : Heap) (locs : List Loc) (ls : Array Slot) (l1 l2 l3 : Int32), va_P (dC, dI) vwCl (qq2 a0 jaX jaF jaD ja7 jby jbf jaM jaY jap jaK jal jam jax jao ja5 jaV jbJ jae jag jaf ja0 jaC jbw jaw jaI jaZ jaH jaS jan jaU jaE jar jaL jah jaB jaa jaz jaG jab ja2 a0_s jaq jai jaO jaA jat jau jav jaj jas jaJ jak jad jay jac a0_s cyI f0_s ja5 cyI jbv jbJ cyI jcx) H → va_D A (qq2 a0 jaX jaF jaD ja7 jby jbf jaM jaY jap jaK jal jam jax jao ja5 jaV jbJ jae jag jaf ja0 jaC jbw jaw jaI jaZ jaH jaS jan jaU jaE jar jaL jah jaB jaa jaz jaG jab ja2 a0_s jaq jai jaO jaA jat jau jav jaj jas jaJ jak jad jay jac a0_s cyI f0_s ja5 cyI jbv jbJ cyI jcx) → va_S A s.heap H locs → lv_has ls 4 [(0, .ref a0), (1, .int l1), (2, .int l2), (3, .int l3)] → K4 l1 l2 l3 → W p l e (headSpec wsX11_bitsTold ({ frames := 3, cells := 0, slots := 0, locals := 63 })).room s m args below meth c H locs 0 0 (MQ below (va_Qi (fun (r : Int32) (_ : Unit) => Q r ) (cB (dC, dI) (kT cyB cyI cyJ cyP) A (fun u : Unit => ((qq2 a0 jaX jaF jaD ja7 jby jbf jaM jaY jap jaK jal jam jax jao ja5 jaV jbJ jae jag jaf ja0 jaC jbw jaw jaI jaZ jaH jaS jan jaU jaE jar jaL jah jaB jaa jaz jaG jab ja2 a0_s jaq jai jaO jaA jat jau jav jaj jas jaJ jak jad jay jac a0_s cyI f0_s ja5 cyI jbv jbJ cyI jcx) : va_W))) A) args s 0 0 A) (F0 m 4 ls [])) (C0 : cfx p s m args meth c cX11_bitsTold (some .int) wsX11_bitsTold RX11 4 A (dC, dI) (kT cyB cyI cyJ cyP)) : ∀ (H : Heap) (locs : List Loc) (ls : Array Slot) (l1 l3 s0 : Int32), va_P (dC, dI) vwCl (qq2 a0 jaX jaF jaD ja7 jby jbf jaM jaY jap jaK jal jam jax jao ja5 jaV jbJ jae jag jaf ja0 jaC jbw jaw jaI jaZ jaH jaS jan jaU jaE jar jaL jah jaB jaa jaz jaG jab ja2 a0_s jaq jai jaO jaA jat jau jav jaj jas jaJ jak jad jay jac a0_s cyI f0_s ja5 cyI jbv jbJ cyI jcx) H → va_D A (qq2 a0 jaX jaF jaD ja7 jby jbf jaM jaY jap jaK jal jam jax jao ja5 jaV jbJ jae jag jaf ja0 jaC jbw jaw jaI jaZ jaH jaS jan jaU jaE jar jaL jah jaB jaa jaz jaG jab ja2 a0_s jaq jai jaO jaA jat jau jav jaj jas jaJ jak jad jay jac a0_s cyI f0_s ja5 cyI jbv jbJ cyI jcx) → va_S A s.heap H locs → lv_has ls 4 [(0, .ref a0), (1, .int l1), (3, .int l3)] → qI5 jaC jbw f0_s jbv jcx Q K4 l1 l3 s0 → W p l e (headSpec wsX11_bitsTold ({ frames := 3, cells := 0, slots := 0, locals := 63 })).room s m args below meth c H locs 0 0 (MQ below (va_Qi (fun (r : Int32) (_ : Unit) => Q r ) (cB (dC, dI) (kT cyB cyI cyJ cyP) A (fun u : Unit => ((qq2 a0 jaX jaF jaD ja7 jby jbf jaM jaY jap jaK jal jam jax jao ja5 jaV jbJ jae jag jaf ja0 jaC jbw jaw jaI jaZ jaH jaS jan jaU jaE jar jaL jah jaB jaa jaz jaG jab ja2 a0_s jaq jai jaO jaA jat jau jav jaj jas jaJ jak jad jay jac a0_s cyI f0_s ja5 cyI jbv jbJ cyI jcx) : va_W))) A) args s 0 0 A) (F0 m 49 ls [.int s0]) := by
  obtain ⟨hx, hb, hr, hts, hown, hlocks, hml, hA, hK, hNw⟩ := id C0
  intro H locs ls l1 l3 s0 hP hD hS hl hw
  refine lv_iconst (v := 0) hx hb (qaa qdc 13 rfl) (by decide) ?_
  exact qSf dC dI cyB cyI cyJ cyP a0 a0_s ja5 jbJ jaX jaF jaD ja7 jby jbf jaM jaY jap jaK jal jam jax jao jaV jae jag jaf ja0 jaw jaI jaZ jaH jaS jan jaU jaE jar jaL jah jaB jaa jaz jaG jab ja2 jaq jai jaO jaA jat jau jav jaj jas jaJ jak jad jay jac jaC jbw f0_s jbv jcx Q K4 hK4 C0 _ _ _ l1 l3 s0 0 hP hD hS (lv_sub hl [0, 1, 2] rfl) hw
set_option maxHeartbeats 4000000 in
set_option maxRecDepth 100000 in
theorem qak7 {p : Program} {l : Launch} {e : Env} {s : State} {m : MethodId} {args : Array Value} {below : List Frame} {meth : Method} {c : Code} {A : Nat → Prop} (dC : Nat → ClassId) (dI : Nat → Nat → Nat) (cyB cyI cyJ cyP : ClassId) (a0 a0_s ja5 jbJ : Nat) (jaX jaF jaD ja7 jby jbf jaM jaY jap jaK jal jam jax jao jaV jae jag jaf ja0 jaw jaI jaZ jaH jaS jan jaU jaE jar jaL jah jaB jaa jaz jaG jab ja2 jaq jai jaO jaA jat jau jav jaj jas jaJ jak jad jay jac : Value) (jaC jbw : Int32) (f0_s jbv jcx : NI) (Q : Int32 → Prop) (C0 : cfx p s m args meth c cX11_bitsTold (some .int) wsX11_bitsTold RX11 4 A (dC, dI) (kT cyB cyI cyJ cyP)) : ∀ (n : Nat) (H : Heap) (locs : List Loc) (ls : Array Slot) (l1 l2 l3 : Int32), va_P (dC, dI) vwCl (qq2 a0 jaX jaF jaD ja7 jby jbf jaM jaY jap jaK jal jam jax jao ja5 jaV jbJ jae jag jaf ja0 jaC jbw jaw jaI jaZ jaH jaS jan jaU jaE jar jaL jah jaB jaa jaz jaG jab ja2 a0_s jaq jai jaO jaA jat jau jav jaj jas jaJ jak jad jay jac a0_s cyI f0_s ja5 cyI jbv jbJ cyI jcx) H → va_D A (qq2 a0 jaX jaF jaD ja7 jby jbf jaM jaY jap jaK jal jam jax jao ja5 jaV jbJ jae jag jaf ja0 jaC jbw jaw jaI jaZ jaH jaS jan jaU jaE jar jaL jah jaB jaa jaz jaG jab ja2 a0_s jaq jai jaO jaA jat jau jav jaj jas jaJ jak jad jay jac a0_s cyI f0_s ja5 cyI jbv jbJ cyI jcx) → va_S A s.heap H locs → lv_has ls 4 [(0, .ref a0), (1, .int l1), (2, .int l2), (3, .int l3)] → qnc jaC jbw f0_s jbv jcx Q n l1 l2 l3 → W p l e (headSpec wsX11_bitsTold ({ frames := 3, cells := 0, slots := 0, locals := 63 })).room s m args below meth c H locs 0 0 (MQ below (va_Qi (fun (r : Int32) (_ : Unit) => Q r ) (cB (dC, dI) (kT cyB cyI cyJ cyP) A (fun u : Unit => ((qq2 a0 jaX jaF jaD ja7 jby jbf jaM jaY jap jaK jal jam jax jao ja5 jaV jbJ jae jag jaf ja0 jaC jbw jaw jaI jaZ jaH jaS jan jaU jaE jar jaL jah jaB jaa jaz jaG jab ja2 a0_s jaq jai jaO jaA jat jau jav jaj jas jaJ jak jad jay jac a0_s cyI f0_s ja5 cyI jbv jbJ cyI jcx) : va_W))) A) args s 0 0 A) (F0 m 4 ls []) := by
  obtain ⟨hx, hb, hr, hts, hown, hlocks, hml, hA, hK, hNw⟩ := id C0
  intro n
  induction n with
  | zero => intro H locs ls l1 l2 l3 hP hD hS hl hw; exact False.elim hw
  | succ n ih =>
    intro H locs ls l1 l2 l3 hP hD hS hl hw
    refine lv_iload_n hx hb (qaa qeo 4 rfl) rfl (lv_at hl 3 rfl) ?_
    refine lv_aload_n hx hb (qaa qeo 5 rfl) rfl (lv_at hl 0 rfl) ?_
    refine va_get (D := (dC, dI)) (ci := 11) (v := .int jaC) (C := RX11) (T := TX11) (N := 55) hx hb hts qPA hown hK hP 0 rfl rfl 21 (by decide) (hts _ q6c) (fun _ h9 => h9) rfl (qaa qeo 6 rfl) ?_
    refine lv_icmp_ge (tgt := 58) hx hb (qaa qeo 7 rfl) (by decide) (fun c1 => ?_) (fun c1 => ?_)
    · have hw := hw.1 c1
      refine lv_iload_n hx hb (qaa qA8 2 rfl) rfl (lv_at hl 2 rfl) ?_
      exact ((W.iret (v := l2) hx hb hr (fun t ht hW => ⟨⟨l2, (), rfl, hw, by rw [ht]; exact hP, va_K.moved hW.alike hK, hD⟩, hS.F ht⟩) hS.2.2 (qaa qA8 3 rfl)))
    · have hw := hw.2 c1
      refine lv_iload_n hx hb (qaa qeo 8 rfl) rfl (lv_at hl 2 rfl) ?_
      refine lv_iload_n hx hb (qaa qeo 9 rfl) rfl (lv_at hl 1 rfl) ?_
      refine lv_bipush (v := 6) hx hb (qaa qeo 10 rfl) (by decide) ?_
      refine lv_icmp_ne (tgt := 35) hx hb (qaa qeo 11 rfl) (by decide) (fun c2 => ?_) (fun c2 => ?_)
      · have hw := hw.1 c2
        refine lv_aload_n hx hb (qaa qdc 5 rfl) rfl (lv_at hl 0 rfl) ?_
        refine lv_iload_n hx hb (qaa qdc 6 rfl) rfl (lv_at hl 3 rfl) ?_
        obtain ⟨hCc, hPc, hDc, hFc⟩ := qac (ws' := (qq2 a0 jaX jaF jaD ja7 jby jbf jaM jaY jap jaK jal jam jax jao ja5 jaV jbJ jae jag jaf ja0 jaC jbw jaw jaI jaZ jaH jaS jan jaU jaE jar jaL jah jaB jaa jaz jaG jab ja2 a0_s jaq jai jaO jaA jat jau jav jaj jas jaJ jak jad jay jac a0_s cyI f0_s ja5 cyI jbv jbJ cyI jcx)) hP hD hS hA [0, 1, 2, 3] (by decide +kernel) rfl
        refine va_calli (va_runV (As := [.int l3]) (rest := [.int l2]) ⟨hx, hb, hml, hown, hts⟩ (qNF l dC dI cyB cyI cyJ cyP a0 a0_s ja5 jbJ H.size (jaX) (jaF) (jaD) (ja7) (jby) (jbf) (jaM) (jaY) (jap) (jaK) (jal) (jam) (jax) (jao) (jaV) (jae) (jag) (jaf) (ja0) (.int jaC) (jaw) (jaI) (jaZ) (jaH) (jaS) (jan) (jaU) (jaE) (jar) (jaL) (jah) (jaB) (jaa) (jaz) (jaG) (jab) (ja2) (jaq) (jai) (jaO) (jaA) (jat) (jau) (jav) (jaj) (jas) (jaJ) (jak) (jad) (jay) (jac) jbw f0_s jbv jcx l3 hw) (cwV 1 hts gX11_bitsTold_X11_wouldBeCaught rfl rfl rfl (by decide +kernel) ⟨nbq rfl, nbq rfl⟩) ⟨qab, va_recv (q := (RX11, TX11, 55)) hK hPc (ci := 11) (q0 := 0) rfl rfl, qae hPc hK hDc hNw⟩ rfl rfl hl.1 rfl (lv_room (nbq rfl)) (qaa qdc 7 rfl) ⟨nbq rfl, nbq rfl⟩) hS (fun q _ h => hFc q h) hFc (fun r3 u t H1 locs ht hvm hw hB hz1 hk1 hS => ?_)
        obtain ⟨hP1, hK1, hD1⟩ := hB
        rw [ht] at hP1
        obtain ⟨hP, hD⟩ := qah (wr := []) (w1 := (qq2 a0 jaX jaF jaD ja7 jby jbf jaM jaY jap jaK jal jam jax jao ja5 jaV jbJ jae jag jaf ja0 jaC jbw jaw jaI jaZ jaH jaS jan jaU jaE jar jaL jah jaB jaa jaz jaG jab ja2 a0_s jaq jai jaO jaA jat jau jav jaj jas jaJ jak jad jay jac a0_s cyI f0_s ja5 cyI jbv jbJ cyI jcx)) (wn := (qq2 a0 jaX jaF jaD ja7 jby jbf jaM jaY jap jaK jal jam jax jao ja5 jaV jbJ jae jag jaf ja0 jaC jbw jaw jaI jaZ jaH jaS jan jaU jaE jar jaL jah jaB jaa jaz jaG jab ja2 a0_s jaq jai jaO jaA jat jau jav jaj jas jaJ jak jad jay jac a0_s cyI f0_s ja5 cyI jbv jbJ cyI jcx)) hP hD [0, 1, 2, 3] [] hCc rfl (by decide +kernel) (by decide +kernel) rfl hk1 hFc hP1 hD1
        generalize H1 = H at hP hS ⊢
        refine lv_if_eq (tgt := 49) hx hb (qaa qdc 8 rfl) (by decide) (fun c4 => ?_) (fun c4 => ?_)
        · have hw := hw.1 c4
          exact qRB dC dI cyB cyI cyJ cyP a0 a0_s ja5 jbJ jaX jaF jaD ja7 jby jbf jaM jaY jap jaK jal jam jax jao jaV jae jag jaf ja0 jaw jaI jaZ jaH jaS jan jaU jaE jar jaL jah jaB jaa jaz jaG jab ja2 jaq jai jaO jaA jat jau jav jaj jas jaJ jak jad jay jac jaC jbw f0_s jbv jcx Q (qnc jaC jbw f0_s jbv jcx Q n) ih C0 _ _ _ l1 l3 l2 hP hD hS (lv_sub hl [0, 1, 3] rfl) hw
        · have hw := hw.2 c4
          exact qRI dC dI cyB cyI cyJ cyP a0 a0_s ja5 jbJ jaX jaF jaD ja7 jby jbf jaM jaY jap jaK jal jam jax jao jaV jae jag jaf ja0 jaw jaI jaZ jaH jaS jan jaU jaE jar jaL jah jaB jaa jaz jaG jab ja2 jaq jai jaO jaA jat jau jav jaj jas jaJ jak jad jay jac jaC jbw f0_s jbv jcx Q (qnc jaC jbw f0_s jbv jcx Q n) ih C0 _ _ _ l1 l3 l2 hP hD hS (lv_sub hl [0, 1, 3] rfl) hw
      · have hw := hw.2 c2
        refine lv_aload_n hx hb (qaa qeo 12 rfl) rfl (lv_at hl 0 rfl) ?_
        refine va_get (D := (dC, dI)) (ci := 11) (v := .ref a0_s) (C := RX11) (T := TX11) (N := 55) hx hb hts qPA hown hK hP 0 rfl rfl 40 (by decide) (hts _ q9J) (fun _ h9 => h9) rfl (qaa qeo 13 rfl) ?_
        refine lv_bipush (v := 24) hx hb (qaa qeo 14 rfl) (by decide) ?_
        refine lv_iload_n hx hb (qaa qeo 15 rfl) rfl (lv_at hl 3 rfl) ?_
        refine lv_iadd hx hb (qaa qdc 0 rfl) ?_
        refine lv_topi (fun x5 ex5 => ?_)
        have hw := hw x5 ex5
        obtain ⟨hi9, hw⟩ := hw
        refine va_iald hx hb hK hP 1 1 rfl rfl hi9 (qaa qdc 1 rfl) ?_
        refine lv_topi (fun x6 ex6 => ?_)
        have hw := hw x6 ex6
        refine lv_iconst (v := 1) hx hb (qaa qdc 2 rfl) (by decide) ?_
        refine lv_icmp_ne (tgt := 49) hx hb (qaa qdc 3 rfl) (by decide) (fun c7 => ?_) (fun c7 => ?_)
        · have hw := hw.1 c7
          exact qRB dC dI cyB cyI cyJ cyP a0 a0_s ja5 jbJ jaX jaF jaD ja7 jby jbf jaM jaY jap jaK jal jam jax jao jaV jae jag jaf ja0 jaw jaI jaZ jaH jaS jan jaU jaE jar jaL jah jaB jaa jaz jaG jab ja2 jaq jai jaO jaA jat jau jav jaj jas jaJ jak jad jay jac jaC jbw f0_s jbv jcx Q (qnc jaC jbw f0_s jbv jcx Q n) ih C0 _ _ _ l1 l3 l2 hP hD hS (lv_sub hl [0, 1, 3] rfl) hw
        · have hw := hw.2 c7
          refine lv_goto (tgt := 43) hx hb (qaa qdc 4 rfl) (by decide) ?_
          exact qRI dC dI cyB cyI cyJ cyP a0 a0_s ja5 jbJ jaX jaF jaD ja7 jby jbf jaM jaY jap jaK jal jam jax jao jaV jae jag jaf ja0 jaw jaI jaZ jaH jaS jan jaU jaE jar jaL jah jaB jaa jaz jaG jab ja2 jaq jai jaO jaA jat jau jav jaj jas jaJ jak jad jay jac jaC jbw f0_s jbv jcx Q (qnc jaC jbw f0_s jbv jcx Q n) ih C0 _ _ _ l1 l3 l2 hP hD hS (lv_sub hl [0, 1, 3] rfl) hw
set_option maxHeartbeats 4000000 in
set_option maxRecDepth 100000 in
theorem qawY (l : Launch) (dC : Nat → ClassId) (dI : Nat → Nat → Nat) (cyB cyI cyJ cyP : ClassId) (a0 a0_s ja5 jbJ sz : Nat) (jaX jaF jaD ja7 jby jbf jaM jaY jap jaK jal jam jax jao jaV jae jag jaf ja0 jaw jaI jaZ jaH jaS jan jaU jaE jar jaL jah jaB jaa jaz jaG jab ja2 jaq jai jaO jaA jat jau jav jaj jas jaJ jak jad jay jac : Value) (jaC jbw : Int32) (f0_s jbv jcx : NI) (p1 : Int32) {Q : Int32 → Prop} (hw : qPi jaC jbw f0_s jbv jcx p1 Q) : Met l yX11_bitsTold wsX11_bitsTold ({ frames := 3, cells := 0, slots := 0, locals := 63 }) (va_Pc [.ref a0, .int p1] (cPc (dC, dI) (kT cyB cyI cyJ cyP) (qq2 a0 jaX jaF jaD ja7 jby jbf jaM jaY jap jaK jal jam jax jao ja5 jaV jbJ jae jag jaf ja0 jaC jbw jaw jaI jaZ jaH jaS jan jaU jaE jar jaL jah jaB jaa jaz jaG jab ja2 a0_s jaq jai jaO jaA jat jau jav jaj jas jaJ jak jad jay jac a0_s cyI f0_s ja5 cyI jbv jbJ cyI jcx) sz)) (va_Qi (fun (r : Int32) (_ : Unit) => Q r ) (cB (dC, dI) (kT cyB cyI cyJ cyP) (va_A (qq2 a0 jaX jaF jaD ja7 jby jbf jaM jaY jap jaK jal jam jax jao ja5 jaV jbJ jae jag jaf ja0 jaC jbw jaw jaI jaZ jaH jaS jan jaU jaE jar jaL jah jaB jaa jaz jaG jab ja2 a0_s jaq jai jaO jaA jat jau jav jaj jas jaJ jak jad jay jac a0_s cyI f0_s ja5 cyI jbv jbJ cyI jcx) sz) (fun u : Unit => ((qq2 a0 jaX jaF jaD ja7 jby jbf jaM jaY jap jaK jal jam jax jao ja5 jaV jbJ jae jag jaf ja0 jaC jbw jaw jaI jaZ jaH jaS jan jaU jaE jar jaL jah jaB jaa jaz jaG jab ja2 a0_s jaq jai jaO jaA jat jau jav jaj jas jaJ jak jad jay jac a0_s cyI f0_s ja5 cyI jbv jbJ cyI jcx) : va_W))) (va_A (qq2 a0 jaX jaF jaD ja7 jby jbf jaM jaY jap jaK jal jam jax jao ja5 jaV jbJ jae jag jaf ja0 jaC jbw jaw jaI jaZ jaH jaS jan jaU jaE jar jaL jah jaB jaa jaz jaG jab ja2 a0_s jaq jai jaO jaA jat jau jav jaj jas jaJ jak jad jay jac a0_s cyI f0_s ja5 cyI jbv jbJ cyI jcx) sz)) 0 0 (va_A (qq2 a0 jaX jaF jaD ja7 jby jbf jaM jaY jap jaK jal jam jax jao ja5 jaV jbJ jae jag jaf ja0 jaC jbw jaw jaI jaZ jaH jaS jan jaU jaE jar jaL jah jaB jaa jaz jaG jab ja2 a0_s jaq jai jaO jaA jat jau jav jaj jas jaJ jak jad jay jac a0_s cyI f0_s ja5 cyI jbv jbJ cyI jcx) sz) := by
  refine Met.ofW (cc := cX11_bitsTold) (maxL := 4) (ret := (some .int)) (by decide) rfl ?_
  intro p e s m args below meth c s₁ B hml hv
  obtain ⟨rfl, hsz, hP, hK, hD0, hNw⟩ := hv
  have hx := B.exec
  have hb := B.bytes
  have hr := B.returns
  have hts := atoms_spec (ws := wsX11_bitsTold) B.pre
  have hown : s.vm.findClass RX11 = some m.cls := findClass_of_methodNamed B.named
  have hlocks := B.notSynchronized
  subst hsz
  have hD := hD0.self (sz := s.heap.size)
  generalize hAe : va_A (qq2 a0 jaX jaF jaD ja7 jby jbf jaM jaY jap jaK jal jam jax jao ja5 jaV jbJ jae jag jaf ja0 jaC jbw jaw jaI jaZ jaH jaS jan jaU jaE jar jaL jah jaB jaa jaz jaG jab ja2 a0_s jaq jai jaO jaA jat jau jav jaj jas jaJ jak jad jay jac a0_s cyI f0_s ja5 cyI jbv jbJ cyI jcx) s.heap.size = A at hD ⊢
  have hA : ∀ q : Nat, s.heap.size ≤ q → A q := fun q h => by rw [← hAe]; exact Or.inr h
  have hS : va_S A s.heap s.heap [] := va_S.rf
  have hP : va_P (dC, dI) vwCl (qq2 a0 jaX jaF jaD ja7 jby jbf jaM jaY jap jaK jal jam jax jao ja5 jaV jbJ jae jag jaf ja0 jaC jbw jaw jaI jaZ jaH jaS jan jaU jaE jar jaL jah jaB jaa jaz jaG jab ja2 a0_s jaq jai jaO jaA jat jau jav jaj jas jaJ jak jad jay jac a0_s cyI f0_s ja5 cyI jbv jbJ cyI jcx) s.heap := hP
  have hl := lv_entry ([.ref a0, .int p1]) (n := 4) (nbq rfl)
  rw [lg_entry_eq]
  generalize (lg_sl ([.ref a0, .int p1]) ++ List.replicate (4 - (lg_sl ([.ref a0, .int p1])).length) Slot.unset).toArray = ls at hl ⊢
  have hl : lv_has ls 4 [(0, .ref a0), (1, .int p1)] := hl
  have C0 : cfx p s m _ meth c cX11_bitsTold (some .int) wsX11_bitsTold RX11 4 A (dC, dI) (kT cyB cyI cyJ cyP) := ⟨hx, hb, hr, hts, hown, hlocks, hml, hA, hK, hNw⟩
  clear hAe
  obtain ⟨H, hH⟩ : ∃ H, H = s.heap := ⟨_, rfl⟩
  rw [← hH] at hP ⊢
  have hS : va_S A s.heap H [] := by rw [hH]; exact va_S.rf
  have hS := hS
  refine lv_iconst (v := 0) hx hb (qaa qeo 0 rfl) (by decide) ?_
  refine lv_istore_n (lv' := [(2, .int 0), (0, .ref a0), (1, .int p1)]) hx hb (qaa qeo 1 rfl) rfl hl (by decide) rfl (fun ls hl => ?_)
  refine lv_iconst (v := 0) hx hb (qaa qeo 2 rfl) (by decide) ?_
  refine lv_istore_n (lv' := [(3, .int 0), (2, .int 0), (0, .ref a0), (1, .int p1)]) hx hb (qaa qeo 3 rfl) rfl hl (by decide) rfl (fun ls hl => ?_)
  obtain ⟨n9, hw⟩ := hw
  exact qak7 dC dI cyB cyI cyJ cyP a0 a0_s ja5 jbJ jaX jaF jaD ja7 jby jbf jaM jaY jap jaK jal jam jax jao jaV jae jag jaf ja0 jaw jaI jaZ jaH jaS jan jaU jaE jar jaL jah jaB jaa jaz jaG jab ja2 jaq jai jaO jaA jat jau jav jaj jas jaJ jak jad jay jac jaC jbw f0_s jbv jcx Q C0 n9 _ _ _ p1 0 0 hP hD hS (lv_sub hl [2, 3, 1, 0] rfl) hw
theorem qawH : ∀ w ∈ u_ws RX11 TX11 55, w ∈ wsX11_fine := uiM qaLp qga (by decide +kernel)
theorem qats : (.fieldLink RX11 114 "MarchHaresModel" "bad" "I" : Cond) ∈ wsX11_fine := qaLp 1104 (by decide +kernel)
set_option maxHeartbeats 4000000 in
set_option maxRecDepth 100000 in
theorem qdQ (l : Launch) (dC : Nat → ClassId) (dI : Nat → Nat → Nat) (cyB cyI cyJ cyP : ClassId) (a0 sz : Nat) (jaX jaF jaD ja7 jby jaM jaY jap jaK jal jam jax jao ja6 jaV ja8 jae jag jaf ja0 ja4 jaP jaw jaI jaZ jaH jaS jan jaU jaE jar jaL jah jaB jaa jaz jaG jab ja2 z0_s jaq jai jaO jaA jat jau jav jaj jas jaJ jak jad jay jac : Value) (jb8 : Int32) {Q : Int32 → Prop} (hw : qbU jb8 Q) : Met l yX11_fine wsX11_fine ({ frames := 0, cells := 0, slots := 0, locals := 0 }) (va_Pc [.ref a0] (cPc (dC, dI) (kT cyB cyI cyJ cyP) (q8B a0 jaX jaF jaD ja7 jby jb8 jaM jaY jap jaK jal jam jax jao ja6 jaV ja8 jae jag jaf ja0 ja4 jaP jaw jaI jaZ jaH jaS jan jaU jaE jar jaL jah jaB jaa jaz jaG jab ja2 z0_s jaq jai jaO jaA jat jau jav jaj jas jaJ jak jad jay jac) sz)) (va_Qi (fun (r : Int32) (_ : Unit) => Q r ) (cB (dC, dI) (kT cyB cyI cyJ cyP) (va_A (q8B a0 jaX jaF jaD ja7 jby jb8 jaM jaY jap jaK jal jam jax jao ja6 jaV ja8 jae jag jaf ja0 ja4 jaP jaw jaI jaZ jaH jaS jan jaU jaE jar jaL jah jaB jaa jaz jaG jab ja2 z0_s jaq jai jaO jaA jat jau jav jaj jas jaJ jak jad jay jac) sz) (fun u : Unit => ((q8B a0 jaX jaF jaD ja7 jby jb8 jaM jaY jap jaK jal jam jax jao ja6 jaV ja8 jae jag jaf ja0 ja4 jaP jaw jaI jaZ jaH jaS jan jaU jaE jar jaL jah jaB jaa jaz jaG jab ja2 z0_s jaq jai jaO jaA jat jau jav jaj jas jaJ jak jad jay jac) : va_W))) (va_A (q8B a0 jaX jaF jaD ja7 jby jb8 jaM jaY jap jaK jal jam jax jao ja6 jaV ja8 jae jag jaf ja0 ja4 jaP jaw jaI jaZ jaH jaS jan jaU jaE jar jaL jah jaB jaa jaz jaG jab ja2 z0_s jaq jai jaO jaA jat jau jav jaj jas jaJ jak jad jay jac) sz)) 0 0 (va_A (q8B a0 jaX jaF jaD ja7 jby jb8 jaM jaY jap jaK jal jam jax jao ja6 jaV ja8 jae jag jaf ja0 ja4 jaP jaw jaI jaZ jaH jaS jan jaU jaE jar jaL jah jaB jaa jaz jaG jab ja2 z0_s jaq jai jaO jaA jat jau jav jaj jas jaJ jak jad jay jac) sz) := by
  refine Met.ofW (cc := cX11_fine) (maxL := 1) (ret := (some .boolean)) (by decide) rfl ?_
  intro p e s m args below meth c s₁ B hml hv
  obtain ⟨rfl, hsz, hP, hK, hD0, hNw⟩ := hv
  have hx := B.exec
  have hb := B.bytes
  have hr := B.returns
  have hts := atoms_spec (ws := wsX11_fine) B.pre
  have hown : s.vm.findClass RX11 = some m.cls := findClass_of_methodNamed B.named
  have hlocks := B.notSynchronized
  subst hsz
  have hD := hD0.self (sz := s.heap.size)
  generalize hAe : va_A (q8B a0 jaX jaF jaD ja7 jby jb8 jaM jaY jap jaK jal jam jax jao ja6 jaV ja8 jae jag jaf ja0 ja4 jaP jaw jaI jaZ jaH jaS jan jaU jaE jar jaL jah jaB jaa jaz jaG jab ja2 z0_s jaq jai jaO jaA jat jau jav jaj jas jaJ jak jad jay jac) s.heap.size = A at hD ⊢
  have hA : ∀ q : Nat, s.heap.size ≤ q → A q := fun q h => by rw [← hAe]; exact Or.inr h
  have hS : va_S A s.heap s.heap [] := va_S.rf
  have hP : va_P (dC, dI) vwCl (q8B a0 jaX jaF jaD ja7 jby jb8 jaM jaY jap jaK jal jam jax jao ja6 jaV ja8 jae jag jaf ja0 ja4 jaP jaw jaI jaZ jaH jaS jan jaU jaE jar jaL jah jaB jaa jaz jaG jab ja2 z0_s jaq jai jaO jaA jat jau jav jaj jas jaJ jak jad jay jac) s.heap := hP
  have hl := lv_entry ([.ref a0]) (n := 1) (nbq rfl)
  rw [lg_entry_eq]
  generalize (lg_sl ([.ref a0]) ++ List.replicate (1 - (lg_sl ([.ref a0])).length) Slot.unset).toArray = ls at hl ⊢
  have hl : lv_has ls 1 [(0, .ref a0)] := hl
  have C0 : cfx p s m _ meth c cX11_fine (some .boolean) wsX11_fine RX11 1 A (dC, dI) (kT cyB cyI cyJ cyP) := ⟨hx, hb, hr, hts, hown, hlocks, hml, hA, hK, hNw⟩
  clear hAe
  obtain ⟨H, hH⟩ : ∃ H, H = s.heap := ⟨_, rfl⟩
  rw [← hH] at hP ⊢
  have hS : va_S A s.heap H [] := by rw [hH]; exact va_S.rf
  have hS := hS
  refine lv_aload_n hx hb (qaa qu0 0 rfl) rfl (lv_at hl 0 rfl) ?_
  refine va_get (D := (dC, dI)) (ci := 11) (v := .int jb8) (C := RX11) (T := TX11) (N := 55) hx hb hts qawH hown hK hP 0 rfl rfl 5 (by decide) (hts _ qats) (fun _ h9 => h9) rfl (qaa qu0 1 rfl) ?_
  refine lv_iconst (v := (-1)) hx hb (qaa qu0 2 rfl) (by decide) ?_
  refine lv_icmp_ne (tgt := 12) hx hb (qaa qu0 3 rfl) (by decide) (fun c1 => ?_) (fun c1 => ?_)
  · have hw := hw.1 c1
    refine lv_iconst (v := 0) hx hb (qaa qu0 6 rfl) (by decide) ?_
    exact ((W.zret (v := 0) hx hb hr rfl (fun t ht hW => ⟨⟨0, (), rfl, hw, by rw [ht]; exact hP, va_K.moved hW.alike hK, hD⟩, hS.F ht⟩) hS.2.2 (qaa qu0 7 rfl)))
  · have hw := hw.2 c1
    refine lv_iconst (v := 1) hx hb (qaa qu0 4 rfl) (by decide) ?_
    refine lv_goto (tgt := 13) hx hb (qaa qu0 5 rfl) (by decide) ?_
    exact ((W.zret (v := 1) hx hb hr rfl (fun t ht hW => ⟨⟨1, (), rfl, hw, by rw [ht]; exact hP, va_K.moved hW.alike hK, hD⟩, hS.F ht⟩) hS.2.2 (qaa qu0 7 rfl)))
theorem qqs : ∀ w ∈ u_ws RX11 TX11 55, w ∈ wsX11_here := uiM q4O qga (by decide +kernel)
theorem qwp : (.fieldLink RX11 120 "MarchHaresModel" "at" "I" : Cond) ∈ wsX11_here := q4O 1103 (by decide +kernel)
theorem qZl : (.fieldLink RX11 123 "MarchHaresModel" "size" "I" : Cond) ∈ wsX11_here := q4O 1153 (by decide +kernel)
theorem q3x : (.fieldLink RX11 20 "MarchHaresModel" "tape" "[I" : Cond) ∈ wsX11_here := q4O 400 (by decide +kernel)
set_option maxHeartbeats 4000000 in
set_option maxRecDepth 100000 in
theorem q8e {p : Program} {l : Launch} {e : Env} {s : State} {m : MethodId} {args : Array Value} {below : List Frame} {meth : Method} {c : Code} {A : Nat → Prop} (dC : Nat → ClassId) (dI : Nat → Nat → Nat) (cyB cyI cyJ cyP : ClassId) (a0 jaW : Nat) (jaX jaF jaD jbf jaM jaY jap jal jam jax jao ja6 jaV ja8 jae jag jaf ja0 ja4 jaP jaw jaI jaZ jaH jaS jan jaU jaE jar jaL jah jaB jaa jaz jaG jab ja2 z0_s jaq jai jaO jaA jat jau jav jaj jas jaJ jak jad jay jac : Value) (jbx : Int32) (jbC : NI) (Q : Int32 → Int32 → Prop) (C0 : cfx p s m args meth c cX11_here (some .int) wsX11_here RX11 1 A (dC, dI) (kT cyB cyI cyJ cyP)) : ∀ (H : Heap) (locs : List Loc) (ls : Array Slot) (jcP : Int32), va_P (dC, dI) vwCl (quF a0 jaX jaF jaD jbx jcP jbf jaM jaY jap jaW jal jam jax jao ja6 jaV ja8 jae jag jaf ja0 ja4 jaP jaw jaI jaZ jaH jaS jan jaU jaE jar jaL jah jaB jaa jaz jaG jab ja2 z0_s jaq jai jaO jaA jat jau jav jaj jas jaJ jak jad jay jac jaW cyI jbC) H → va_D A (quF a0 jaX jaF jaD jbx jcP jbf jaM jaY jap jaW jal jam jax jao ja6 jaV ja8 jae jag jaf ja0 ja4 jaP jaw jaI jaZ jaH jaS jan jaU jaE jar jaL jah jaB jaa jaz jaG jab ja2 z0_s jaq jai jaO jaA jat jau jav jaj jas jaJ jak jad jay jac jaW cyI jbC) → va_S A s.heap H locs → lv_has ls 1 [(0, .ref a0)] → qKW jbx jbC Q jcP → W p l e (headSpec wsX11_here ({ frames := 0, cells := 0, slots := 0, locals := 0 })).room s m args below meth c H locs 0 0 (MQ below (va_Qi (fun (r u : Int32) => Q r u) (cB (dC, dI) (kT cyB cyI cyJ cyP) A (fun u : Int32 => ((quF a0 jaX jaF jaD jbx u jbf jaM jaY jap jaW jal jam jax jao ja6 jaV ja8 jae jag jaf ja0 ja4 jaP jaw jaI jaZ jaH jaS jan jaU jaE jar jaL jah jaB jaa jaz jaG jab ja2 z0_s jaq jai jaO jaA jat jau jav jaj jas jaJ jak jad jay jac jaW cyI jbC) : va_W))) A) args s 0 0 A) (F0 m 38 ls []) := by
  obtain ⟨hx, hb, hr, hts, hown, hlocks, hml, hA, hK, hNw⟩ := id C0
  intro H locs ls jcP hP hD hS hl hw
  refine lv_aload_n hx hb (qaa qh7 3 rfl) rfl (lv_at hl 0 rfl) ?_
  refine va_get (D := (dC, dI)) (ci := 11) (v := .int jcP) (C := RX11) (T := TX11) (N := 55) hx hb hts qqs hown hK hP 0 rfl rfl 4 (by decide) (hts _ qwp) (fun _ h9 => h9) rfl (qaa qh7 4 rfl) ?_
  refine lv_aload_n hx hb (qaa qh7 5 rfl) rfl (lv_at hl 0 rfl) ?_
  refine va_get (D := (dC, dI)) (ci := 11) (v := .int jbx) (C := RX11) (T := TX11) (N := 55) hx hb hts qqs hown hK hP 0 rfl rfl 3 (by decide) (hts _ qZl) (fun _ h9 => h9) rfl (qaa qh7 6 rfl) ?_
  refine lv_icmp_ge (tgt := 61) hx hb (qaa qh7 7 rfl) (by decide) (fun c5 => ?_) (fun c5 => ?_)
  · have hw := hw.1 c5
    refine lv_iconst (v := 0) hx hb (qaa qh7 14 rfl) (by decide) ?_
    exact ((W.iret (v := 0) hx hb hr (fun t ht hW => ⟨⟨0, (jcP), rfl, hw, by rw [ht]; exact hP, va_K.moved hW.alike hK, hD⟩, hS.F ht⟩) hS.2.2 (qaa qh7 15 rfl)))
  · have hw := hw.2 c5
    refine lv_aload_n hx hb (qaa qh7 8 rfl) rfl (lv_at hl 0 rfl) ?_
    refine va_get (D := (dC, dI)) (ci := 11) (v := .ref jaW) (C := RX11) (T := TX11) (N := 55) hx hb hts qqs hown hK hP 0 rfl rfl 9 (by decide) (hts _ q3x) (fun _ h9 => h9) rfl (qaa qh7 9 rfl) ?_
    refine lv_aload_n hx hb (qaa qh7 10 rfl) rfl (lv_at hl 0 rfl) ?_
    refine va_get (D := (dC, dI)) (ci := 11) (v := .int jcP) (C := RX11) (T := TX11) (N := 55) hx hb hts qqs hown hK hP 0 rfl rfl 4 (by decide) (hts _ qwp) (fun _ h9 => h9) rfl (qaa qh7 11 rfl) ?_
    obtain ⟨hi9, hw⟩ := hw
    refine va_iald hx hb hK hP 1 1 rfl rfl hi9 (qaa qh7 12 rfl) ?_
    refine lv_topi (fun x6 ex6 => ?_)
    have hw := hw x6 ex6
    refine lv_goto (tgt := 62) hx hb (qaa qh7 13 rfl) (by decide) ?_
    exact ((W.iret (v := x6) hx hb hr (fun t ht hW => ⟨⟨x6, (jcP), rfl, hw, by rw [ht]; exact hP, va_K.moved hW.alike hK, hD⟩, hS.F ht⟩) hS.2.2 (qaa qh7 15 rfl)))
set_option maxHeartbeats 4000000 in
set_option maxRecDepth 100000 in
theorem qaRL {p : Program} {l : Launch} {e : Env} {s : State} {m : MethodId} {args : Array Value} {below : List Frame} {meth : Method} {c : Code} {A : Nat → Prop} (dC : Nat → ClassId) (dI : Nat → Nat → Nat) (cyB cyI cyJ cyP : ClassId) (a0 jaW : Nat) (jaX jaF jaD jbf jaM jaY jap jal jam jax jao ja6 jaV ja8 jae jag jaf ja0 ja4 jaP jaw jaI jaZ jaH jaS jan jaU jaE jar jaL jah jaB jaa jaz jaG jab ja2 z0_s jaq jai jaO jaA jat jau jav jaj jas jaJ jak jad jay jac : Value) (jbx : Int32) (jbC : NI) (Q : Int32 → Int32 → Prop) (C0 : cfx p s m args meth c cX11_here (some .int) wsX11_here RX11 1 A (dC, dI) (kT cyB cyI cyJ cyP)) : ∀ (n : Nat) (H : Heap) (locs : List Loc) (ls : Array Slot) (jcP : Int32), va_P (dC, dI) vwCl (quF a0 jaX jaF jaD jbx jcP jbf jaM jaY jap jaW jal jam jax jao ja6 jaV ja8 jae jag jaf ja0 ja4 jaP jaw jaI jaZ jaH jaS jan jaU jaE jar jaL jah jaB jaa jaz jaG jab ja2 z0_s jaq jai jaO jaA jat jau jav jaj jas jaJ jak jad jay jac jaW cyI jbC) H → va_D A (quF a0 jaX jaF jaD jbx jcP jbf jaM jaY jap jaW jal jam jax jao ja6 jaV ja8 jae jag jaf ja0 ja4 jaP jaw jaI jaZ jaH jaS jan jaU jaE jar jaL jah jaB jaa jaz jaG jab ja2 z0_s jaq jai jaO jaA jat jau jav jaj jas jaJ jak jad jay jac jaW cyI jbC) → va_S A s.heap H locs → lv_has ls 1 [(0, .ref a0)] → qNU jbx jbC Q n jcP → W p l e (headSpec wsX11_here ({ frames := 0, cells := 0, slots := 0, locals := 0 })).room s m args below meth c H locs 0 0 (MQ below (va_Qi (fun (r u : Int32) => Q r u) (cB (dC, dI) (kT cyB cyI cyJ cyP) A (fun u : Int32 => ((quF a0 jaX jaF jaD jbx u jbf jaM jaY jap jaW jal jam jax jao ja6 jaV ja8 jae jag jaf ja0 ja4 jaP jaw jaI jaZ jaH jaS jan jaU jaE jar jaL jah jaB jaa jaz jaG jab ja2 z0_s jaq jai jaO jaA jat jau jav jaj jas jaJ jak jad jay jac jaW cyI jbC) : va_W))) A) args s 0 0 A) (F0 m 0 ls []) := by
  obtain ⟨hx, hb, hr, hts, hown, hlocks, hml, hA, hK, hNw⟩ := id C0
  intro n
  induction n with
  | zero => intro H locs ls jcP hP hD hS hl hw; exact False.elim hw
  | succ n ih =>
    intro H locs ls jcP hP hD hS hl hw
    refine lv_aload_n hx hb (qaa qmJ 0 rfl) rfl (lv_at hl 0 rfl) ?_
    refine va_get (D := (dC, dI)) (ci := 11) (v := .int jcP) (C := RX11) (T := TX11) (N := 55) hx hb hts qqs hown hK hP 0 rfl rfl 4 (by decide) (hts _ qwp) (fun _ h9 => h9) rfl (qaa qmJ 1 rfl) ?_
    refine lv_aload_n hx hb (qaa qmJ 2 rfl) rfl (lv_at hl 0 rfl) ?_
    refine va_get (D := (dC, dI)) (ci := 11) (v := .int jbx) (C := RX11) (T := TX11) (N := 55) hx hb hts qqs hown hK hP 0 rfl rfl 3 (by decide) (hts _ qZl) (fun _ h9 => h9) rfl (qaa qmJ 3 rfl) ?_
    refine lv_icmp_ge (tgt := 38) hx hb (qaa qmJ 4 rfl) (by decide) (fun c1 => ?_) (fun c1 => ?_)
    · have hw := hw.1 c1
      exact q8e dC dI cyB cyI cyJ cyP a0 jaW jaX jaF jaD jbf jaM jaY jap jal jam jax jao ja6 jaV ja8 jae jag jaf ja0 ja4 jaP jaw jaI jaZ jaH jaS jan jaU jaE jar jaL jah jaB jaa jaz jaG jab ja2 z0_s jaq jai jaO jaA jat jau jav jaj jas jaJ jak jad jay jac jbx jbC Q C0 _ _ _ jcP hP hD hS (lv_sub hl [0] rfl) hw
    · have hw := hw.2 c1
      refine lv_aload_n hx hb (qaa qmJ 5 rfl) rfl (lv_at hl 0 rfl) ?_
      refine va_get (D := (dC, dI)) (ci := 11) (v := .ref jaW) (C := RX11) (T := TX11) (N := 55) hx hb hts qqs hown hK hP 0 rfl rfl 9 (by decide) (hts _ q3x) (fun _ h9 => h9) rfl (qaa qmJ 6 rfl) ?_
      refine lv_aload_n hx hb (qaa qmJ 7 rfl) rfl (lv_at hl 0 rfl) ?_
      refine va_get (D := (dC, dI)) (ci := 11) (v := .int jcP) (C := RX11) (T := TX11) (N := 55) hx hb hts qqs hown hK hP 0 rfl rfl 4 (by decide) (hts _ qwp) (fun _ h9 => h9) rfl (qaa qmJ 8 rfl) ?_
      obtain ⟨hi9, hw⟩ := hw
      refine va_iald hx hb hK hP 1 1 rfl rfl hi9 (qaa qmJ 9 rfl) ?_
      refine lv_topi (fun x2 ex2 => ?_)
      have hw := hw x2 ex2
      refine lv_bipush (v := 32) hx hb (qaa qmJ 10 rfl) (by decide) ?_
      refine lv_icmp_ne (tgt := 38) hx hb (qaa qmJ 11 rfl) (by decide) (fun c3 => ?_) (fun c3 => ?_)
      · have hw := hw.1 c3
        exact q8e dC dI cyB cyI cyJ cyP a0 jaW jaX jaF jaD jbf jaM jaY jap jal jam jax jao ja6 jaV ja8 jae jag jaf ja0 ja4 jaP jaw jaI jaZ jaH jaS jan jaU jaE jar jaL jah jaB jaa jaz jaG jab ja2 z0_s jaq jai jaO jaA jat jau jav jaj jas jaJ jak jad jay jac jbx jbC Q C0 _ _ _ jcP hP hD hS (lv_sub hl [0] rfl) hw
      · have hw := hw.2 c3
        refine lv_aload_n hx hb (qaa qmJ 12 rfl) rfl (lv_at hl 0 rfl) ?_
        refine lv_dup hx hb (qaa qmJ 13 rfl) rfl ?_
        refine va_get (D := (dC, dI)) (ci := 11) (v := .int jcP) (C := RX11) (T := TX11) (N := 55) hx hb hts qqs hown hK hP 0 rfl rfl 4 (by decide) (hts _ qwp) (fun _ h9 => h9) rfl (qaa qmJ 14 rfl) ?_
        refine lv_iconst (v := 1) hx hb (qaa qmJ 15 rfl) (by decide) ?_
        refine lv_iadd hx hb (qaa qh7 0 rfl) ?_
        refine lv_topi (fun x4 ex4 => ?_)
        have hw := hw x4 ex4
        refine va_put (D := (dC, dI)) (ci := 11) (v := .int x4) (ty := .int) (C := RX11) (T := TX11) (N := 55) hx hb hts qqs tyX11 tyX11_ok nmX11 hown hK hP hD hS 0 rfl rfl 4 (by decide) (hts _ qwp) (fun _ h9 => h9) rfl (by decide +kernel) rfl rfl (nbq rfl) (qaa qh7 1 rfl) (fun H locs hP hD hS => ?_)
        have hP : va_P (dC, dI) vwCl (quF a0 jaX jaF jaD jbx x4 jbf jaM jaY jap jaW jal jam jax jao ja6 jaV ja8 jae jag jaf ja0 ja4 jaP jaw jaI jaZ jaH jaS jan jaU jaE jar jaL jah jaB jaa jaz jaG jab ja2 z0_s jaq jai jaO jaA jat jau jav jaj jas jaJ jak jad jay jac jaW cyI jbC) H := hP
        have hD : va_D A (quF a0 jaX jaF jaD jbx x4 jbf jaM jaY jap jaW jal jam jax jao ja6 jaV ja8 jae jag jaf ja0 ja4 jaP jaw jaI jaZ jaH jaS jan jaU jaE jar jaL jah jaB jaa jaz jaG jab ja2 z0_s jaq jai jaO jaA jat jau jav jaj jas jaJ jak jad jay jac jaW cyI jbC) := hD
        refine lv_goto (tgt := 0) hx hb (qaa qh7 2 rfl) (by decide) ?_
        exact ih _ _ _ x4 hP hD hS (lv_sub hl [0] rfl) hw
set_option maxHeartbeats 4000000 in
set_option maxRecDepth 100000 in
theorem qeS (l : Launch) (dC : Nat → ClassId) (dI : Nat → Nat → Nat) (cyB cyI cyJ cyP : ClassId) (a0 jaW sz : Nat) (jaX jaF jaD jbf jaM jaY jap jal jam jax jao ja6 jaV ja8 jae jag jaf ja0 ja4 jaP jaw jaI jaZ jaH jaS jan jaU jaE jar jaL jah jaB jaa jaz jaG jab ja2 z0_s jaq jai jaO jaA jat jau jav jaj jas jaJ jak jad jay jac : Value) (jbx : Int32) (jbC : NI) (jcP : Int32) {Q : Int32 → Int32 → Prop} (hw : qbM jbx jbC jcP Q) : Met l yX11_here wsX11_here ({ frames := 0, cells := 0, slots := 0, locals := 0 }) (va_Pc [.ref a0] (cPc (dC, dI) (kT cyB cyI cyJ cyP) (quF a0 jaX jaF jaD jbx jcP jbf jaM jaY jap jaW jal jam jax jao ja6 jaV ja8 jae jag jaf ja0 ja4 jaP jaw jaI jaZ jaH jaS jan jaU jaE jar jaL jah jaB jaa jaz jaG jab ja2 z0_s jaq jai jaO jaA jat jau jav jaj jas jaJ jak jad jay jac jaW cyI jbC) sz)) (va_Qi (fun (r u : Int32) => Q r u) (cB (dC, dI) (kT cyB cyI cyJ cyP) (va_A (quF a0 jaX jaF jaD jbx jcP jbf jaM jaY jap jaW jal jam jax jao ja6 jaV ja8 jae jag jaf ja0 ja4 jaP jaw jaI jaZ jaH jaS jan jaU jaE jar jaL jah jaB jaa jaz jaG jab ja2 z0_s jaq jai jaO jaA jat jau jav jaj jas jaJ jak jad jay jac jaW cyI jbC) sz) (fun u : Int32 => ((quF a0 jaX jaF jaD jbx u jbf jaM jaY jap jaW jal jam jax jao ja6 jaV ja8 jae jag jaf ja0 ja4 jaP jaw jaI jaZ jaH jaS jan jaU jaE jar jaL jah jaB jaa jaz jaG jab ja2 z0_s jaq jai jaO jaA jat jau jav jaj jas jaJ jak jad jay jac jaW cyI jbC) : va_W))) (va_A (quF a0 jaX jaF jaD jbx jcP jbf jaM jaY jap jaW jal jam jax jao ja6 jaV ja8 jae jag jaf ja0 ja4 jaP jaw jaI jaZ jaH jaS jan jaU jaE jar jaL jah jaB jaa jaz jaG jab ja2 z0_s jaq jai jaO jaA jat jau jav jaj jas jaJ jak jad jay jac jaW cyI jbC) sz)) 0 0 (va_A (quF a0 jaX jaF jaD jbx jcP jbf jaM jaY jap jaW jal jam jax jao ja6 jaV ja8 jae jag jaf ja0 ja4 jaP jaw jaI jaZ jaH jaS jan jaU jaE jar jaL jah jaB jaa jaz jaG jab ja2 z0_s jaq jai jaO jaA jat jau jav jaj jas jaJ jak jad jay jac jaW cyI jbC) sz) := by
  refine Met.ofW (cc := cX11_here) (maxL := 1) (ret := (some .int)) (by decide) rfl ?_
  intro p e s m args below meth c s₁ B hml hv
  obtain ⟨rfl, hsz, hP, hK, hD0, hNw⟩ := hv
  have hx := B.exec
  have hb := B.bytes
  have hr := B.returns
  have hts := atoms_spec (ws := wsX11_here) B.pre
  have hown : s.vm.findClass RX11 = some m.cls := findClass_of_methodNamed B.named
  have hlocks := B.notSynchronized
  subst hsz
  have hD := hD0.self (sz := s.heap.size)
  generalize hAe : va_A (quF a0 jaX jaF jaD jbx jcP jbf jaM jaY jap jaW jal jam jax jao ja6 jaV ja8 jae jag jaf ja0 ja4 jaP jaw jaI jaZ jaH jaS jan jaU jaE jar jaL jah jaB jaa jaz jaG jab ja2 z0_s jaq jai jaO jaA jat jau jav jaj jas jaJ jak jad jay jac jaW cyI jbC) s.heap.size = A at hD ⊢
  have hA : ∀ q : Nat, s.heap.size ≤ q → A q := fun q h => by rw [← hAe]; exact Or.inr h
  have hS : va_S A s.heap s.heap [] := va_S.rf
  have hP : va_P (dC, dI) vwCl (quF a0 jaX jaF jaD jbx jcP jbf jaM jaY jap jaW jal jam jax jao ja6 jaV ja8 jae jag jaf ja0 ja4 jaP jaw jaI jaZ jaH jaS jan jaU jaE jar jaL jah jaB jaa jaz jaG jab ja2 z0_s jaq jai jaO jaA jat jau jav jaj jas jaJ jak jad jay jac jaW cyI jbC) s.heap := hP
  have hl := lv_entry ([.ref a0]) (n := 1) (nbq rfl)
  rw [lg_entry_eq]
  generalize (lg_sl ([.ref a0]) ++ List.replicate (1 - (lg_sl ([.ref a0])).length) Slot.unset).toArray = ls at hl ⊢
  have hl : lv_has ls 1 [(0, .ref a0)] := hl
  have C0 : cfx p s m _ meth c cX11_here (some .int) wsX11_here RX11 1 A (dC, dI) (kT cyB cyI cyJ cyP) := ⟨hx, hb, hr, hts, hown, hlocks, hml, hA, hK, hNw⟩
  clear hAe
  obtain ⟨H, hH⟩ : ∃ H, H = s.heap := ⟨_, rfl⟩
  rw [← hH] at hP ⊢
  have hS : va_S A s.heap H [] := by rw [hH]; exact va_S.rf
  have hS := hS
  obtain ⟨n9, hw⟩ := hw
  exact qaRL dC dI cyB cyI cyJ cyP a0 jaW jaX jaF jaD jbf jaM jaY jap jal jam jax jao ja6 jaV ja8 jae jag jaf ja0 ja4 jaP jaw jaI jaZ jaH jaS jan jaU jaE jar jaL jah jaB jaa jaz jaG jab ja2 z0_s jaq jai jaO jaA jat jau jav jaj jas jaJ jak jad jay jac jbx jbC Q C0 n9 _ _ _ jcP hP hD hS (lv_sub hl [0] rfl) hw
theorem qVK : ∀ w ∈ u_ws RX11 TX11 55, w ∈ wsX11_isMore := uiM qLv qga (by decide +kernel)
theorem qaeB : (.fieldLink RX11 120 "MarchHaresModel" "at" "I" : Cond) ∈ wsX11_isMore := qLv 1103 (by decide +kernel)
theorem qafN : (.fieldLink RX11 123 "MarchHaresModel" "size" "I" : Cond) ∈ wsX11_isMore := qLv 1153 (by decide +kernel)
set_option maxHeartbeats 4000000 in
set_option maxRecDepth 100000 in
theorem qN3 (l : Launch) (dC : Nat → ClassId) (dI : Nat → Nat → Nat) (cyB cyI cyJ cyP : ClassId) (a0 jaW sz : Nat) (jaX jaF jaD jbf jaM jaY jap jal jam jax jao ja6 jaV ja8 jae jag jaf ja0 ja4 jaP jaw jaI jaZ jaH jaS jan jaU jaE jar jaL jah jaB jaa jaz jaG jab ja2 z0_s jaq jai jaO jaA jat jau jav jaj jas jaJ jak jad jay jac : Value) (jbx : Int32) (jbC : NI) (jcP : Int32) {Q : Int32 → Int32 → Prop} (hw : qr2 jbx jbC jcP Q) : Met l yX11_isMore wsX11_isMore ({ frames := 1, cells := 0, slots := 0, locals := 20 }) (va_Pc [.ref a0] (cPc (dC, dI) (kT cyB cyI cyJ cyP) (quF a0 jaX jaF jaD jbx jcP jbf jaM jaY jap jaW jal jam jax jao ja6 jaV ja8 jae jag jaf ja0 ja4 jaP jaw jaI jaZ jaH jaS jan jaU jaE jar jaL jah jaB jaa jaz jaG jab ja2 z0_s jaq jai jaO jaA jat jau jav jaj jas jaJ jak jad jay jac jaW cyI jbC) sz)) (va_Qi (fun (r u : Int32) => Q r u) (cB (dC, dI) (kT cyB cyI cyJ cyP) (va_A (quF a0 jaX jaF jaD jbx jcP jbf jaM jaY jap jaW jal jam jax jao ja6 jaV ja8 jae jag jaf ja0 ja4 jaP jaw jaI jaZ jaH jaS jan jaU jaE jar jaL jah jaB jaa jaz jaG jab ja2 z0_s jaq jai jaO jaA jat jau jav jaj jas jaJ jak jad jay jac jaW cyI jbC) sz) (fun u : Int32 => ((quF a0 jaX jaF jaD jbx u jbf jaM jaY jap jaW jal jam jax jao ja6 jaV ja8 jae jag jaf ja0 ja4 jaP jaw jaI jaZ jaH jaS jan jaU jaE jar jaL jah jaB jaa jaz jaG jab ja2 z0_s jaq jai jaO jaA jat jau jav jaj jas jaJ jak jad jay jac jaW cyI jbC) : va_W))) (va_A (quF a0 jaX jaF jaD jbx jcP jbf jaM jaY jap jaW jal jam jax jao ja6 jaV ja8 jae jag jaf ja0 ja4 jaP jaw jaI jaZ jaH jaS jan jaU jaE jar jaL jah jaB jaa jaz jaG jab ja2 z0_s jaq jai jaO jaA jat jau jav jaj jas jaJ jak jad jay jac jaW cyI jbC) sz)) 0 0 (va_A (quF a0 jaX jaF jaD jbx jcP jbf jaM jaY jap jaW jal jam jax jao ja6 jaV ja8 jae jag jaf ja0 ja4 jaP jaw jaI jaZ jaH jaS jan jaU jaE jar jaL jah jaB jaa jaz jaG jab ja2 z0_s jaq jai jaO jaA jat jau jav jaj jas jaJ jak jad jay jac jaW cyI jbC) sz) := by
  refine Met.ofW (cc := cX11_isMore) (maxL := 1) (ret := (some .boolean)) (by decide) rfl ?_
  intro p e s m args below meth c s₁ B hml hv
  obtain ⟨rfl, hsz, hP, hK, hD0, hNw⟩ := hv
  have hx := B.exec
  have hb := B.bytes
  have hr := B.returns
  have hts := atoms_spec (ws := wsX11_isMore) B.pre
  have hown : s.vm.findClass RX11 = some m.cls := findClass_of_methodNamed B.named
  have hlocks := B.notSynchronized
  subst hsz
  have hD := hD0.self (sz := s.heap.size)
  generalize hAe : va_A (quF a0 jaX jaF jaD jbx jcP jbf jaM jaY jap jaW jal jam jax jao ja6 jaV ja8 jae jag jaf ja0 ja4 jaP jaw jaI jaZ jaH jaS jan jaU jaE jar jaL jah jaB jaa jaz jaG jab ja2 z0_s jaq jai jaO jaA jat jau jav jaj jas jaJ jak jad jay jac jaW cyI jbC) s.heap.size = A at hD ⊢
  have hA : ∀ q : Nat, s.heap.size ≤ q → A q := fun q h => by rw [← hAe]; exact Or.inr h
  have hS : va_S A s.heap s.heap [] := va_S.rf
  have hP : va_P (dC, dI) vwCl (quF a0 jaX jaF jaD jbx jcP jbf jaM jaY jap jaW jal jam jax jao ja6 jaV ja8 jae jag jaf ja0 ja4 jaP jaw jaI jaZ jaH jaS jan jaU jaE jar jaL jah jaB jaa jaz jaG jab ja2 z0_s jaq jai jaO jaA jat jau jav jaj jas jaJ jak jad jay jac jaW cyI jbC) s.heap := hP
  have hl := lv_entry ([.ref a0]) (n := 1) (nbq rfl)
  rw [lg_entry_eq]
  generalize (lg_sl ([.ref a0]) ++ List.replicate (1 - (lg_sl ([.ref a0])).length) Slot.unset).toArray = ls at hl ⊢
  have hl : lv_has ls 1 [(0, .ref a0)] := hl
  have C0 : cfx p s m _ meth c cX11_isMore (some .boolean) wsX11_isMore RX11 1 A (dC, dI) (kT cyB cyI cyJ cyP) := ⟨hx, hb, hr, hts, hown, hlocks, hml, hA, hK, hNw⟩
  clear hAe
  obtain ⟨H, hH⟩ : ∃ H, H = s.heap := ⟨_, rfl⟩
  rw [← hH] at hP ⊢
  have hS : va_S A s.heap H [] := by rw [hH]; exact va_S.rf
  have hS := hS
  refine lv_aload_n hx hb (qaa qm8 0 rfl) rfl (lv_at hl 0 rfl) ?_
  obtain ⟨hCc, hPc, hDc, hFc⟩ := qac (ws' := (quF a0 jaX jaF jaD jbx jcP jbf jaM jaY jap jaW jal jam jax jao ja6 jaV ja8 jae jag jaf ja0 ja4 jaP jaw jaI jaZ jaH jaS jan jaU jaE jar jaL jah jaB jaa jaz jaG jab ja2 z0_s jaq jai jaO jaA jat jau jav jaj jas jaJ jak jad jay jac jaW cyI jbC)) hP hD hS hA [0, 1] (by decide +kernel) rfl
  refine va_calli (va_runV (As := []) (rest := []) ⟨hx, hb, hml, hown, hts⟩ (qeS l dC dI cyB cyI cyJ cyP a0 jaW H.size (jaX) (jaF) (jaD) (jbf) (jaM) (jaY) (jap) (jal) (jam) (jax) (jao) (ja6) (jaV) (ja8) (jae) (jag) (jaf) (ja0) (ja4) (jaP) (jaw) (jaI) (jaZ) (jaH) (jaS) (jan) (jaU) (jaE) (jar) (jaL) (jah) (jaB) (jaa) (jaz) (jaG) (jab) (ja2) (z0_s) (jaq) (jai) (jaO) (jaA) (jat) (jau) (jav) (jaj) (jas) (jaJ) (jak) (jad) (jay) (jac) jbx jbC jcP hw) (cwV 0 hts gX11_isMore_X11_here rfl rfl rfl (by decide +kernel) ⟨nbq rfl, nbq rfl⟩) ⟨qab, va_recv (q := (RX11, TX11, 55)) hK hPc (ci := 11) (q0 := 0) rfl rfl, qae hPc hK hDc hNw⟩ rfl rfl hl.1 rfl (lv_room (nbq rfl)) (qaa qm8 1 rfl) ⟨nbq rfl, nbq rfl⟩) hS (fun q _ h => hFc q h) hFc (fun r2 u t H1 locs ht hvm hw hB hz1 hk1 hS => ?_)
  obtain ⟨x1, rfl⟩ : ∃ z, z = u := ⟨_, rfl⟩
  obtain ⟨hP1, hK1, hD1⟩ := hB
  rw [ht] at hP1
  obtain ⟨hP, hD⟩ := qah (wr := []) (w1 := (quF a0 jaX jaF jaD jbx x1 jbf jaM jaY jap jaW jal jam jax jao ja6 jaV ja8 jae jag jaf ja0 ja4 jaP jaw jaI jaZ jaH jaS jan jaU jaE jar jaL jah jaB jaa jaz jaG jab ja2 z0_s jaq jai jaO jaA jat jau jav jaj jas jaJ jak jad jay jac jaW cyI jbC)) (wn := (quF a0 jaX jaF jaD jbx x1 jbf jaM jaY jap jaW jal jam jax jao ja6 jaV ja8 jae jag jaf ja0 ja4 jaP jaw jaI jaZ jaH jaS jan jaU jaE jar jaL jah jaB jaa jaz jaG jab ja2 z0_s jaq jai jaO jaA jat jau jav jaj jas jaJ jak jad jay jac jaW cyI jbC)) hP hD [0, 1] [] hCc rfl (by decide +kernel) (by decide +kernel) rfl hk1 hFc hP1 hD1
  generalize H1 = H at hP hS ⊢
  refine lv_pop hx hb (qaa qm8 2 rfl) rfl ?_
  refine lv_aload_n hx hb (qaa qm8 3 rfl) rfl (lv_at hl 0 rfl) ?_
  refine va_get (D := (dC, dI)) (ci := 11) (v := .int x1) (C := RX11) (T := TX11) (N := 55) hx hb hts qVK hown hK hP 0 rfl rfl 4 (by decide) (hts _ qaeB) (fun _ h9 => h9) rfl (qaa qm8 4 rfl) ?_
  refine lv_aload_n hx hb (qaa qm8 5 rfl) rfl (lv_at hl 0 rfl) ?_
  refine va_get (D := (dC, dI)) (ci := 11) (v := .int jbx) (C := RX11) (T := TX11) (N := 55) hx hb hts qVK hown hK hP 0 rfl rfl 3 (by decide) (hts _ qafN) (fun _ h9 => h9) rfl (qaa qm8 6 rfl) ?_
  refine lv_icmp_ge (tgt := 20) hx hb (qaa qm8 7 rfl) (by decide) (fun c3 => ?_) (fun c3 => ?_)
  · have hw := hw.1 c3
    refine lv_iconst (v := 0) hx hb (qaa qm8 10 rfl) (by decide) ?_
    exact ((W.zret (v := 0) hx hb hr rfl (fun t ht hW => ⟨⟨0, (x1), rfl, hw, by rw [ht]; exact hP, va_K.moved hW.alike hK, hD⟩, hS.F ht⟩) hS.2.2 (qaa qm8 11 rfl)))
  · have hw := hw.2 c3
    refine lv_iconst (v := 1) hx hb (qaa qm8 8 rfl) (by decide) ?_
    refine lv_goto (tgt := 21) hx hb (qaa qm8 9 rfl) (by decide) ?_
    exact ((W.zret (v := 1) hx hb hr rfl (fun t ht hW => ⟨⟨1, (x1), rfl, hw, by rw [ht]; exact hP, va_K.moved hW.alike hK, hD⟩, hS.F ht⟩) hS.2.2 (qaa qm8 11 rfl)))
set_option maxHeartbeats 4000000 in
set_option maxRecDepth 100000 in
theorem qKB (l : Launch) (dC : Nat → ClassId) (dI : Nat → Nat → Nat) (cyB cyI cyJ cyP : ClassId) (sz : Nat) (p0 : Int32) {Q : Int32 → Prop} (hw : qAG p0 Q) : Met l yX11_isDigit wsX11_isDigit ({ frames := 0, cells := 0, slots := 0, locals := 0 }) (va_Pc [.int p0] (cPc (dC, dI) (kT cyB cyI cyJ cyP) [] sz)) (va_Qi (fun (r : Int32) (_ : Unit) => Q r ) (cB (dC, dI) (kT cyB cyI cyJ cyP) (va_A [] sz) (fun u : Unit => ([] : va_W))) (va_A [] sz)) 0 0 (va_A [] sz) := by
  refine Met.ofW (cc := cX11_isDigit) (maxL := 1) (ret := (some .boolean)) (by decide) rfl ?_
  intro p e s m args below meth c s₁ B hml hv
  obtain ⟨rfl, hsz, hP, hK, hD0, hNw⟩ := hv
  have hx := B.exec
  have hb := B.bytes
  have hr := B.returns
  have hts := atoms_spec (ws := wsX11_isDigit) B.pre
  have hown : s.vm.findClass RX11 = some m.cls := findClass_of_methodNamed B.named
  have hlocks := B.notSynchronized
  subst hsz
  have hD := hD0.self (sz := s.heap.size)
  generalize hAe : va_A [] s.heap.size = A at hD ⊢
  have hA : ∀ q : Nat, s.heap.size ≤ q → A q := fun q h => by rw [← hAe]; exact Or.inr h
  have hS : va_S A s.heap s.heap [] := va_S.rf
  have hP : va_P (dC, dI) vwCl [] s.heap := hP
  have hl := lv_entry ([.int p0]) (n := 1) (nbq rfl)
  rw [lg_entry_eq]
  generalize (lg_sl ([.int p0]) ++ List.replicate (1 - (lg_sl ([.int p0])).length) Slot.unset).toArray = ls at hl ⊢
  have hl : lv_has ls 1 [(0, .int p0)] := hl
  have C0 : cfx p s m _ meth c cX11_isDigit (some .boolean) wsX11_isDigit RX11 1 A (dC, dI) (kT cyB cyI cyJ cyP) := ⟨hx, hb, hr, hts, hown, hlocks, hml, hA, hK, hNw⟩
  clear hAe
  obtain ⟨H, hH⟩ : ∃ H, H = s.heap := ⟨_, rfl⟩
  rw [← hH] at hP ⊢
  have hS : va_S A s.heap H [] := by rw [hH]; exact va_S.rf
  have hS := hS
  refine lv_iload_n hx hb (qaa qkJ 0 rfl) rfl (lv_at hl 0 rfl) ?_
  refine lv_bipush (v := 48) hx hb (qaa qkJ 1 rfl) (by decide) ?_
  refine lv_icmp_lt (tgt := 16) hx hb (qaa qkJ 2 rfl) (by decide) (fun c1 => ?_) (fun c1 => ?_)
  · have hw := hw.1 c1
    refine lv_iconst (v := 0) hx hb (qaa qkJ 8 rfl) (by decide) ?_
    exact ((W.zret (v := 0) hx hb hr rfl (fun t ht hW => ⟨⟨0, (), rfl, hw, by rw [ht]; exact hP, va_K.moved hW.alike hK, hD⟩, hS.F ht⟩) hS.2.2 (qaa qkJ 9 rfl)))
  · have hw := hw.2 c1
    refine lv_iload_n hx hb (qaa qkJ 3 rfl) rfl (lv_at hl 0 rfl) ?_
    refine lv_bipush (v := 57) hx hb (qaa qkJ 4 rfl) (by decide) ?_
    refine lv_icmp_gt (tgt := 16) hx hb (qaa qkJ 5 rfl) (by decide) (fun c2 => ?_) (fun c2 => ?_)
    · have hw := hw.1 c2
      refine lv_iconst (v := 0) hx hb (qaa qkJ 8 rfl) (by decide) ?_
      exact ((W.zret (v := 0) hx hb hr rfl (fun t ht hW => ⟨⟨0, (), rfl, hw, by rw [ht]; exact hP, va_K.moved hW.alike hK, hD⟩, hS.F ht⟩) hS.2.2 (qaa qkJ 9 rfl)))
    · have hw := hw.2 c2
      refine lv_iconst (v := 1) hx hb (qaa qkJ 6 rfl) (by decide) ?_
      refine lv_goto (tgt := 17) hx hb (qaa qkJ 7 rfl) (by decide) ?_
      exact ((W.zret (v := 1) hx hb hr rfl (fun t ht hW => ⟨⟨1, (), rfl, hw, by rw [ht]; exact hP, va_K.moved hW.alike hK, hD⟩, hS.F ht⟩) hS.2.2 (qaa qkJ 9 rfl)))
theorem qMH : ∀ w ∈ u_ws RX11 TX11 55, w ∈ wsX11_wrong := uiM qabe qga (by decide +kernel)
theorem qUI : (.fieldLink RX11 114 "MarchHaresModel" "bad" "I" : Cond) ∈ wsX11_wrong := qabe 1104 (by decide +kernel)
theorem qalq : (.fieldLink RX11 117 "MarchHaresModel" "badKind" "I" : Cond) ∈ wsX11_wrong := qabe 1226 (by decide +kernel)
set_option maxHeartbeats 4000000 in
set_option maxRecDepth 100000 in
theorem qrt (l : Launch) (dC : Nat → ClassId) (dI : Nat → Nat → Nat) (cyB cyI cyJ cyP : ClassId) (a0 sz : Nat) (jaX jaF jaD ja7 jby jaY jap jaK jal jam jax jao ja6 jaV ja8 jae jag jaf ja0 ja4 jaP jaw jaI jaZ jaH jaS jan jaU jaE jar jaL jah jaB jaa jaz jaG jab ja2 z0_s jaq jai jaO jaA jat jau jav jaj jas jaJ jak jad jay jac : Value) (jb8 jbh p1 p2 : Int32) {Q : Int32 → Int32 → Prop} (hw : qns jb8 jbh p1 p2 Q) : Met l yX11_wrong wsX11_wrong ({ frames := 0, cells := 0, slots := 0, locals := 0 }) (va_Pc [.ref a0, .int p1, .int p2] (cPc (dC, dI) (kT cyB cyI cyJ cyP) (qPY a0 jaX jaF jaD ja7 jby jb8 jbh jaY jap jaK jal jam jax jao ja6 jaV ja8 jae jag jaf ja0 ja4 jaP jaw jaI jaZ jaH jaS jan jaU jaE jar jaL jah jaB jaa jaz jaG jab ja2 z0_s jaq jai jaO jaA jat jau jav jaj jas jaJ jak jad jay jac) sz)) (va_Qv (fun (u : Int32 × Int32) => Q u.1 u.2) (cB (dC, dI) (kT cyB cyI cyJ cyP) (va_A (qPY a0 jaX jaF jaD ja7 jby jb8 jbh jaY jap jaK jal jam jax jao ja6 jaV ja8 jae jag jaf ja0 ja4 jaP jaw jaI jaZ jaH jaS jan jaU jaE jar jaL jah jaB jaa jaz jaG jab ja2 z0_s jaq jai jaO jaA jat jau jav jaj jas jaJ jak jad jay jac) sz) (fun u : Int32 × Int32 => ((qPY a0 jaX jaF jaD ja7 jby u.1 u.2 jaY jap jaK jal jam jax jao ja6 jaV ja8 jae jag jaf ja0 ja4 jaP jaw jaI jaZ jaH jaS jan jaU jaE jar jaL jah jaB jaa jaz jaG jab ja2 z0_s jaq jai jaO jaA jat jau jav jaj jas jaJ jak jad jay jac) : va_W))) (va_A (qPY a0 jaX jaF jaD ja7 jby jb8 jbh jaY jap jaK jal jam jax jao ja6 jaV ja8 jae jag jaf ja0 ja4 jaP jaw jaI jaZ jaH jaS jan jaU jaE jar jaL jah jaB jaa jaz jaG jab ja2 z0_s jaq jai jaO jaA jat jau jav jaj jas jaJ jak jad jay jac) sz)) 0 0 (va_A (qPY a0 jaX jaF jaD ja7 jby jb8 jbh jaY jap jaK jal jam jax jao ja6 jaV ja8 jae jag jaf ja0 ja4 jaP jaw jaI jaZ jaH jaS jan jaU jaE jar jaL jah jaB jaa jaz jaG jab ja2 z0_s jaq jai jaO jaA jat jau jav jaj jas jaJ jak jad jay jac) sz) := by
  refine Met.ofW (cc := cX11_wrong) (maxL := 3) (ret := none) (by decide) rfl ?_
  intro p e s m args below meth c s₁ B hml hv
  obtain ⟨rfl, hsz, hP, hK, hD0, hNw⟩ := hv
  have hx := B.exec
  have hb := B.bytes
  have hr := B.returns
  have hts := atoms_spec (ws := wsX11_wrong) B.pre
  have hown : s.vm.findClass RX11 = some m.cls := findClass_of_methodNamed B.named
  have hlocks := B.notSynchronized
  subst hsz
  have hD := hD0.self (sz := s.heap.size)
  generalize hAe : va_A (qPY a0 jaX jaF jaD ja7 jby jb8 jbh jaY jap jaK jal jam jax jao ja6 jaV ja8 jae jag jaf ja0 ja4 jaP jaw jaI jaZ jaH jaS jan jaU jaE jar jaL jah jaB jaa jaz jaG jab ja2 z0_s jaq jai jaO jaA jat jau jav jaj jas jaJ jak jad jay jac) s.heap.size = A at hD ⊢
  have hA : ∀ q : Nat, s.heap.size ≤ q → A q := fun q h => by rw [← hAe]; exact Or.inr h
  have hS : va_S A s.heap s.heap [] := va_S.rf
  have hP : va_P (dC, dI) vwCl (qPY a0 jaX jaF jaD ja7 jby jb8 jbh jaY jap jaK jal jam jax jao ja6 jaV ja8 jae jag jaf ja0 ja4 jaP jaw jaI jaZ jaH jaS jan jaU jaE jar jaL jah jaB jaa jaz jaG jab ja2 z0_s jaq jai jaO jaA jat jau jav jaj jas jaJ jak jad jay jac) s.heap := hP
  have hl := lv_entry ([.ref a0, .int p1, .int p2]) (n := 3) (nbq rfl)
  rw [lg_entry_eq]
  generalize (lg_sl ([.ref a0, .int p1, .int p2]) ++ List.replicate (3 - (lg_sl ([.ref a0, .int p1, .int p2])).length) Slot.unset).toArray = ls at hl ⊢
  have hl : lv_has ls 3 [(0, .ref a0), (1, .int p1), (2, .int p2)] := hl
  have C0 : cfx p s m _ meth c cX11_wrong none wsX11_wrong RX11 3 A (dC, dI) (kT cyB cyI cyJ cyP) := ⟨hx, hb, hr, hts, hown, hlocks, hml, hA, hK, hNw⟩
  clear hAe
  obtain ⟨H, hH⟩ : ∃ H, H = s.heap := ⟨_, rfl⟩
  rw [← hH] at hP ⊢
  have hS : va_S A s.heap H [] := by rw [hH]; exact va_S.rf
  have hS := hS
  refine lv_aload_n hx hb (qaa qpn 0 rfl) rfl (lv_at hl 0 rfl) ?_
  refine va_get (D := (dC, dI)) (ci := 11) (v := .int jb8) (C := RX11) (T := TX11) (N := 55) hx hb hts qMH hown hK hP 0 rfl rfl 5 (by decide) (hts _ qUI) (fun _ h9 => h9) rfl (qaa qpn 1 rfl) ?_
  refine lv_iconst (v := (-1)) hx hb (qaa qpn 2 rfl) (by decide) ?_
  refine lv_icmp_eq (tgt := 9) hx hb (qaa qpn 3 rfl) (by decide) (fun c1 => ?_) (fun c1 => ?_)
  · have hw := hw.1 c1
    refine lv_aload_n hx hb (qaa qpn 5 rfl) rfl (lv_at hl 0 rfl) ?_
    refine lv_iload_n hx hb (qaa qpn 6 rfl) rfl (lv_at hl 2 rfl) ?_
    refine va_put (D := (dC, dI)) (ci := 11) (v := .int p2) (ty := .int) (C := RX11) (T := TX11) (N := 55) hx hb hts qMH tyX11 tyX11_ok nmX11 hown hK hP hD hS 0 rfl rfl 5 (by decide) (hts _ qUI) (fun _ h9 => h9) rfl (by decide +kernel) rfl rfl (nbq rfl) (qaa qpn 7 rfl) (fun H locs hP hD hS => ?_)
    have hP : va_P (dC, dI) vwCl (qPY a0 jaX jaF jaD ja7 jby p2 jbh jaY jap jaK jal jam jax jao ja6 jaV ja8 jae jag jaf ja0 ja4 jaP jaw jaI jaZ jaH jaS jan jaU jaE jar jaL jah jaB jaa jaz jaG jab ja2 z0_s jaq jai jaO jaA jat jau jav jaj jas jaJ jak jad jay jac) H := hP
    have hD : va_D A (qPY a0 jaX jaF jaD ja7 jby p2 jbh jaY jap jaK jal jam jax jao ja6 jaV ja8 jae jag jaf ja0 ja4 jaP jaw jaI jaZ jaH jaS jan jaU jaE jar jaL jah jaB jaa jaz jaG jab ja2 z0_s jaq jai jaO jaA jat jau jav jaj jas jaJ jak jad jay jac) := hD
    refine lv_aload_n hx hb (qaa qpn 8 rfl) rfl (lv_at hl 0 rfl) ?_
    refine lv_iload_n hx hb (qaa qpn 9 rfl) rfl (lv_at hl 1 rfl) ?_
    refine va_put (D := (dC, dI)) (ci := 11) (v := .int p1) (ty := .int) (C := RX11) (T := TX11) (N := 55) hx hb hts qMH tyX11 tyX11_ok nmX11 hown hK hP hD hS 0 rfl rfl 6 (by decide) (hts _ qalq) (fun _ h9 => h9) rfl (by decide +kernel) rfl rfl (nbq rfl) (qaa qpn 10 rfl) (fun H locs hP hD hS => ?_)
    have hP : va_P (dC, dI) vwCl (qPY a0 jaX jaF jaD ja7 jby p2 p1 jaY jap jaK jal jam jax jao ja6 jaV ja8 jae jag jaf ja0 ja4 jaP jaw jaI jaZ jaH jaS jan jaU jaE jar jaL jah jaB jaa jaz jaG jab ja2 z0_s jaq jai jaO jaA jat jau jav jaj jas jaJ jak jad jay jac) H := hP
    have hD : va_D A (qPY a0 jaX jaF jaD ja7 jby p2 p1 jaY jap jaK jal jam jax jao ja6 jaV ja8 jae jag jaf ja0 ja4 jaP jaw jaI jaZ jaH jaS jan jaU jaE jar jaL jah jaB jaa jaz jaG jab ja2 z0_s jaq jai jaO jaA jat jau jav jaj jas jaJ jak jad jay jac) := hD
    exact ((W.vret hx hb hr (fun t ht hW => ⟨⟨(p2, p1), rfl, hw, by rw [ht]; exact hP, va_K.moved hW.alike hK, hD⟩, hS.F ht⟩) hS.2.2 (qaa qpn 11 rfl)))
  · have hw := hw.2 c1
    exact ((W.vret hx hb hr (fun t ht hW => ⟨⟨(jb8, jbh), rfl, hw, by rw [ht]; exact hP, va_K.moved hW.alike hK, hD⟩, hS.F ht⟩) hS.2.2 (qaa qpn 4 rfl)))
theorem qh9 : ∀ w ∈ u_ws RX11 TX11 55, w ∈ wsX11_readNumber := uiM qmZ qga (by decide +kernel)
theorem qoG : (.fieldLink RX11 120 "MarchHaresModel" "at" "I" : Cond) ∈ wsX11_readNumber := qmZ 1103 (by decide +kernel)
theorem q0h : (.fieldLink RX11 123 "MarchHaresModel" "size" "I" : Cond) ∈ wsX11_readNumber := qmZ 1153 (by decide +kernel)
theorem qLN : (.fieldLink RX11 20 "MarchHaresModel" "tape" "[I" : Cond) ∈ wsX11_readNumber := qmZ 400 (by decide +kernel)
set_option maxHeartbeats 4000000 in
set_option maxRecDepth 100000 in
theorem qNx {p : Program} {l : Launch} {e : Env} {s : State} {m : MethodId} {args : Array Value} {below : List Frame} {meth : Method} {c : Code} {A : Nat → Prop} (dC : Nat → ClassId) (dI : Nat → Nat → Nat) (cyB cyI cyJ cyP : ClassId) (a0 jaW : Nat) (jaX jaF jaD jaY jap jal jam jax jao ja6 jaV ja8 jae jag jaf ja0 ja4 jaP jaw jaI jaZ jaH jaS jan jaU jaE jar jaL jah jaB jaa jaz jaG jab ja2 z0_s jaq jai jaO jaA jat jau jav jaj jas jaJ jak jad jay jac : Value) (jbx : Int32) (jbC : NI) (Q : Int32 → Int32 → Int32 → Int32 → Prop) (K41 : Int32 → Int32 → Int32 → Int32 → Int32 → Int32 → Int32 → Prop) (hK41 : ∀ (H : Heap) (locs : List Loc) (ls : Array Slot) (jcP jb8 jbh l1 l2 l4 l5 : Int32), va_P (dC, dI) vwCl (qgh a0 jaX jaF jaD jbx jcP jb8 jbh jaY jap jaW jal jam jax jao ja6 jaV ja8 jae jag jaf ja0 ja4 jaP jaw jaI jaZ jaH jaS jan jaU jaE jar jaL jah jaB jaa jaz jaG jab ja2 z0_s jaq jai jaO jaA jat jau jav jaj jas jaJ jak jad jay jac jaW cyI jbC) H → va_D A (qgh a0 jaX jaF jaD jbx jcP jb8 jbh jaY jap jaW jal jam jax jao ja6 jaV ja8 jae jag jaf ja0 ja4 jaP jaw jaI jaZ jaH jaS jan jaU jaE jar jaL jah jaB jaa jaz jaG jab ja2 z0_s jaq jai jaO jaA jat jau jav jaj jas jaJ jak jad jay jac jaW cyI jbC) → va_S A s.heap H locs → lv_has ls 6 [(0, .ref a0), (1, .int l1), (2, .int l2), (4, .int l4), (5, .int l5)] → K41 jcP jb8 jbh l1 l2 l4 l5 → W p l e (headSpec wsX11_readNumber ({ frames := 1, cells := 0, slots := 0, locals := 22 })).room s m args below meth c H locs 0 0 (MQ below (va_Qi (fun (r : Int32) (u : Int32 × Int32 × Int32) => Q r u.1 u.2.1 u.2.2) (cB (dC, dI) (kT cyB cyI cyJ cyP) A (fun u : Int32 × Int32 × Int32 => ((qgh a0 jaX jaF jaD jbx u.1 u.2.1 u.2.2 jaY jap jaW jal jam jax jao ja6 jaV ja8 jae jag jaf ja0 ja4 jaP jaw jaI jaZ jaH jaS jan jaU jaE jar jaL jah jaB jaa jaz jaG jab ja2 z0_s jaq jai jaO jaA jat jau jav jaj jas jaJ jak jad jay jac jaW cyI jbC) : va_W))) A) args s 0 0 A) (F0 m 41 ls [])) (C0 : cfx p s m args meth c cX11_readNumber (some .int) wsX11_readNumber RX11 6 A (dC, dI) (kT cyB cyI cyJ cyP)) : ∀ (H : Heap) (locs : List Loc) (ls : Array Slot) (jcP jb8 jbh l1 l2 l4 s0 : Int32), va_P (dC, dI) vwCl (qgh a0 jaX jaF jaD jbx jcP jb8 jbh jaY jap jaW jal jam jax jao ja6 jaV ja8 jae jag jaf ja0 ja4 jaP jaw jaI jaZ jaH jaS jan jaU jaE jar jaL jah jaB jaa jaz jaG jab ja2 z0_s jaq jai jaO jaA jat jau jav jaj jas jaJ jak jad jay jac jaW cyI jbC) H → va_D A (qgh a0 jaX jaF jaD jbx jcP jb8 jbh jaY jap jaW jal jam jax jao ja6 jaV ja8 jae jag jaf ja0 ja4 jaP jaw jaI jaZ jaH jaS jan jaU jaE jar jaL jah jaB jaa jaz jaG jab ja2 z0_s jaq jai jaO jaA jat jau jav jaj jas jaJ jak jad jay jac jaW cyI jbC) → va_S A s.heap H locs → lv_has ls 6 [(0, .ref a0), (1, .int l1), (2, .int l2), (4, .int l4)] → qDI jbx jbC Q K41 jcP jb8 jbh l1 l2 l4 s0 → W p l e (headSpec wsX11_readNumber ({ frames := 1, cells := 0, slots := 0, locals := 22 })).room s m args below meth c H locs 0 0 (MQ below (va_Qi (fun (r : Int32) (u : Int32 × Int32 × Int32) => Q r u.1 u.2.1 u.2.2) (cB (dC, dI) (kT cyB cyI cyJ cyP) A (fun u : Int32 × Int32 × Int32 => ((qgh a0 jaX jaF jaD jbx u.1 u.2.1 u.2.2 jaY jap jaW jal jam jax jao ja6 jaV ja8 jae jag jaf ja0 ja4 jaP jaw jaI jaZ jaH jaS jan jaU jaE jar jaL jah jaB jaa jaz jaG jab ja2 z0_s jaq jai jaO jaA jat jau jav jaj jas jaJ jak jad jay jac jaW cyI jbC) : va_W))) A) args s 0 0 A) (F0 m 99 ls [.int s0]) := by
  obtain ⟨hx, hb, hr, hts, hown, hlocks, hml, hA, hK, hNw⟩ := id C0
  intro H locs ls jcP jb8 jbh l1 l2 l4 s0 hP hD hS hl hw
  refine lv_istore (lv' := [(5, .int s0), (0, .ref a0), (1, .int l1), (2, .int l2), (4, .int l4)]) hx hb (qaa qck 3 rfl) hl (by decide) rfl (fun ls hl => ?_)
  refine lv_aload_n hx hb (qaa qck 4 rfl) rfl (lv_at hl 1 rfl) ?_
  refine lv_dup hx hb (qaa qck 5 rfl) rfl ?_
  refine va_get (D := (dC, dI)) (ci := 11) (v := .int jcP) (C := RX11) (T := TX11) (N := 55) hx hb hts qh9 hown hK hP 0 rfl rfl 4 (by decide) (hts _ qoG) (fun _ h9 => h9) rfl (qaa qck 6 rfl) ?_
  refine lv_iconst (v := 1) hx hb (qaa qck 7 rfl) (by decide) ?_
  refine lv_iadd hx hb (qaa qck 8 rfl) ?_
  refine lv_topi (fun x17 ex17 => ?_)
  have hw := hw x17 ex17
  refine va_put (D := (dC, dI)) (ci := 11) (v := .int x17) (ty := .int) (C := RX11) (T := TX11) (N := 55) hx hb hts qh9 tyX11 tyX11_ok nmX11 hown hK hP hD hS 0 rfl rfl 4 (by decide) (hts _ qoG) (fun _ h9 => h9) rfl (by decide +kernel) rfl rfl (nbq rfl) (qaa qck 9 rfl) (fun H locs hP hD hS => ?_)
  have hP : va_P (dC, dI) vwCl (qgh a0 jaX jaF jaD jbx x17 jb8 jbh jaY jap jaW jal jam jax jao ja6 jaV ja8 jae jag jaf ja0 ja4 jaP jaw jaI jaZ jaH jaS jan jaU jaE jar jaL jah jaB jaa jaz jaG jab ja2 z0_s jaq jai jaO jaA jat jau jav jaj jas jaJ jak jad jay jac jaW cyI jbC) H := hP
  have hD : va_D A (qgh a0 jaX jaF jaD jbx x17 jb8 jbh jaY jap jaW jal jam jax jao ja6 jaV ja8 jae jag jaf ja0 ja4 jaP jaw jaI jaZ jaH jaS jan jaU jaE jar jaL jah jaB jaa jaz jaG jab ja2 z0_s jaq jai jaO jaA jat jau jav jaj jas jaJ jak jad jay jac jaW cyI jbC) := hD
  refine lv_goto (tgt := 41) hx hb (qaa qck 10 rfl) (by decide) ?_
  exact hK41 _ _ _ x17 jb8 jbh l1 l2 l4 s0 hP hD hS (lv_sub hl [1, 2, 3, 4, 0] rfl) hw
set_option maxHeartbeats 4000000 in
set_option maxRecDepth 100000 in
theorem qLK {p : Program} {l : Launch} {e : Env} {s : State} {m : MethodId} {args : Array Value} {below : List Frame} {meth : Method} {c : Code} {A : Nat → Prop} (dC : Nat → ClassId) (dI : Nat → Nat → Nat) (cyB cyI cyJ cyP : ClassId) (a0 jaW : Nat) (jaX jaF jaD jaY jap jal jam jax jao ja6 jaV ja8 jae jag jaf ja0 ja4 jaP jaw jaI jaZ jaH jaS jan jaU jaE jar jaL jah jaB jaa jaz jaG jab ja2 z0_s jaq jai jaO jaA jat jau jav jaj jas jaJ jak jad jay jac : Value) (jbx : Int32) (jbC : NI) (Q : Int32 → Int32 → Int32 → Int32 → Prop) (C0 : cfx p s m args meth c cX11_readNumber (some .int) wsX11_readNumber RX11 6 A (dC, dI) (kT cyB cyI cyJ cyP)) : ∀ (H : Heap) (locs : List Loc) (ls : Array Slot) (jcP jb8 jbh l4 : Int32), va_P (dC, dI) vwCl (qgh a0 jaX jaF jaD jbx jcP jb8 jbh jaY jap jaW jal jam jax jao ja6 jaV ja8 jae jag jaf ja0 ja4 jaP jaw jaI jaZ jaH jaS jan jaU jaE jar jaL jah jaB jaa jaz jaG jab ja2 z0_s jaq jai jaO jaA jat jau jav jaj jas jaJ jak jad jay jac jaW cyI jbC) H → va_D A (qgh a0 jaX jaF jaD jbx jcP jb8 jbh jaY jap jaW jal jam jax jao ja6 jaV ja8 jae jag jaf ja0 ja4 jaP jaw jaI jaZ jaH jaS jan jaU jaE jar jaL jah jaB jaa jaz jaG jab ja2 z0_s jaq jai jaO jaA jat jau jav jaj jas jaJ jak jad jay jac jaW cyI jbC) → va_S A s.heap H locs → lv_has ls 6 [(0, .ref a0), (4, .int l4)] → qwG jbx jbC Q jcP jb8 jbh l4 → W p l e (headSpec wsX11_readNumber ({ frames := 1, cells := 0, slots := 0, locals := 22 })).room s m args below meth c H locs 0 0 (MQ below (va_Qi (fun (r : Int32) (u : Int32 × Int32 × Int32) => Q r u.1 u.2.1 u.2.2) (cB (dC, dI) (kT cyB cyI cyJ cyP) A (fun u : Int32 × Int32 × Int32 => ((qgh a0 jaX jaF jaD jbx u.1 u.2.1 u.2.2 jaY jap jaW jal jam jax jao ja6 jaV ja8 jae jag jaf ja0 ja4 jaP jaw jaI jaZ jaH jaS jan jaU jaE jar jaL jah jaB jaa jaz jaG jab ja2 z0_s jaq jai jaO jaA jat jau jav jaj jas jaJ jak jad jay jac jaW cyI jbC) : va_W))) A) args s 0 0 A) (F0 m 126 ls []) := by
  obtain ⟨hx, hb, hr, hts, hown, hlocks, hml, hA, hK, hNw⟩ := id C0
  intro H locs ls jcP jb8 jbh l4 hP hD hS hl hw
  refine lv_aload_n hx hb (qaa qk3 1 rfl) rfl (lv_at hl 0 rfl) ?_
  refine lv_iconst (v := 2) hx hb (qaa qk3 2 rfl) (by decide) ?_
  refine lv_iload hx hb (qaa qk3 3 rfl) (lv_at hl 1 rfl) ?_
  obtain ⟨hCc, hPc, hDc, hFc⟩ := qac (ws' := (qLW a0 jaX jaF jaD jbx jcP jb8 jbh jaY jap jaW jal jam jax jao ja6 jaV ja8 jae jag jaf ja0 ja4 jaP jaw jaI jaZ jaH jaS jan jaU jaE jar jaL jah jaB jaa jaz jaG jab ja2 z0_s jaq jai jaO jaA jat jau jav jaj jas jaJ jak jad jay jac)) hP hD hS hA [0] (by decide +kernel) rfl
  refine va_callv (va_runV (As := [.int 2, .int l4]) (rest := []) ⟨hx, hb, hml, hown, hts⟩ (qrt l dC dI cyB cyI cyJ cyP a0 H.size (jaX) (jaF) (jaD) (.int jbx) (.int jcP) (jaY) (jap) (.ref jaW) (jal) (jam) (jax) (jao) (ja6) (jaV) (ja8) (jae) (jag) (jaf) (ja0) (ja4) (jaP) (jaw) (jaI) (jaZ) (jaH) (jaS) (jan) (jaU) (jaE) (jar) (jaL) (jah) (jaB) (jaa) (jaz) (jaG) (jab) (ja2) (z0_s) (jaq) (jai) (jaO) (jaA) (jat) (jau) (jav) (jaj) (jas) (jaJ) (jak) (jad) (jay) (jac) jb8 jbh 2 l4 hw) (cwV 2 hts gX11_readNumber_X11_wrong rfl rfl rfl (by decide +kernel) ⟨nbq rfl, nbq rfl⟩) ⟨qab, va_recv (q := (RX11, TX11, 55)) hK hPc (ci := 11) (q0 := 0) rfl rfl, qae hPc hK hDc hNw⟩ rfl rfl hl.1 rfl (lv_room (nbq rfl)) (qaa qk3 4 rfl) ⟨nbq rfl, nbq rfl⟩) hS (fun q _ h => hFc q h) hFc (fun u t H1 locs ht hvm hw hB hz1 hk1 hS => ?_)
  obtain ⟨x18, x19⟩ := u
  obtain ⟨hP1, hK1, hD1⟩ := hB
  rw [ht] at hP1
  obtain ⟨hP, hD⟩ := qad (wr := (qal3 jaW cyI jbC)) (w1 := (qLW a0 jaX jaF jaD jbx jcP x18 x19 jaY jap jaW jal jam jax jao ja6 jaV ja8 jae jag jaf ja0 ja4 jaP jaw jaI jaZ jaH jaS jan jaU jaE jar jaL jah jaB jaa jaz jaG jab ja2 z0_s jaq jai jaO jaA jat jau jav jaj jas jaJ jak jad jay jac)) (wn := (qgh a0 jaX jaF jaD jbx jcP x18 x19 jaY jap jaW jal jam jax jao ja6 jaV ja8 jae jag jaf ja0 ja4 jaP jaw jaI jaZ jaH jaS jan jaU jaE jar jaL jah jaB jaa jaz jaG jab ja2 z0_s jaq jai jaO jaA jat jau jav jaj jas jaJ jak jad jay jac jaW cyI jbC)) hP hD [0] [1] [1, 0] hCc rfl (by decide +kernel) (by decide +kernel) (by decide +kernel) rfl hk1 hFc hP1 hD1
  generalize H1 = H at hP hS ⊢
  refine lv_iconst (v := 0) hx hb (qaa qk3 5 rfl) (by decide) ?_
  exact ((W.iret (v := 0) hx hb hr (fun t ht hW => ⟨⟨0, (jcP, x18, x19), rfl, hw, by rw [ht]; exact hP, va_K.moved hW.alike hK, hD⟩, hS.F ht⟩) hS.2.2 (qaa qk3 6 rfl)))
set_option maxHeartbeats 4000000 in
set_option maxRecDepth 100000 in
theorem qK7 {p : Program} {l : Launch} {e : Env} {s : State} {m : MethodId} {args : Array Value} {below : List Frame} {meth : Method} {c : Code} {A : Nat → Prop} (dC : Nat → ClassId) (dI : Nat → Nat → Nat) (cyB cyI cyJ cyP : ClassId) (a0 jaW : Nat) (jaX jaF jaD jaY jap jal jam jax jao ja6 jaV ja8 jae jag jaf ja0 ja4 jaP jaw jaI jaZ jaH jaS jan jaU jaE jar jaL jah jaB jaa jaz jaG jab ja2 z0_s jaq jai jaO jaA jat jau jav jaj jas jaJ jak jad jay jac : Value) (jbx : Int32) (jbC : NI) (Q : Int32 → Int32 → Int32 → Int32 → Prop) (C0 : cfx p s m args meth c cX11_readNumber (some .int) wsX11_readNumber RX11 6 A (dC, dI) (kT cyB cyI cyJ cyP)) : ∀ (H : Heap) (locs : List Loc) (ls : Array Slot) (jcP jb8 jbh l1 l2 l4 l5 : Int32), va_P (dC, dI) vwCl (qgh a0 jaX jaF jaD jbx jcP jb8 jbh jaY jap jaW jal jam jax jao ja6 jaV ja8 jae jag jaf ja0 ja4 jaP jaw jaI jaZ jaH jaS jan jaU jaE jar jaL jah jaB jaa jaz jaG jab ja2 z0_s jaq jai jaO jaA jat jau jav jaj jas jaJ jak jad jay jac jaW cyI jbC) H → va_D A (qgh a0 jaX jaF jaD jbx jcP jb8 jbh jaY jap jaW jal jam jax jao ja6 jaV ja8 jae jag jaf ja0 ja4 jaP jaw jaI jaZ jaH jaS jan jaU jaE jar jaL jah jaB jaa jaz jaG jab ja2 z0_s jaq jai jaO jaA jat jau jav jaj jas jaJ jak jad jay jac jaW cyI jbC) → va_S A s.heap H locs → lv_has ls 6 [(0, .ref a0), (1, .int l1), (2, .int l2), (4, .int l4), (5, .int l5)] → qtZ jbx jbC Q jcP jb8 jbh l1 l2 l4 l5 → W p l e (headSpec wsX11_readNumber ({ frames := 1, cells := 0, slots := 0, locals := 22 })).room s m args below meth c H locs 0 0 (MQ below (va_Qi (fun (r : Int32) (u : Int32 × Int32 × Int32) => Q r u.1 u.2.1 u.2.2) (cB (dC, dI) (kT cyB cyI cyJ cyP) A (fun u : Int32 × Int32 × Int32 => ((qgh a0 jaX jaF jaD jbx u.1 u.2.1 u.2.2 jaY jap jaW jal jam jax jao ja6 jaV ja8 jae jag jaf ja0 ja4 jaP jaw jaI jaZ jaH jaS jan jaU jaE jar jaL jah jaB jaa jaz jaG jab ja2 z0_s jaq jai jaO jaA jat jau jav jaj jas jaJ jak jad jay jac jaW cyI jbC) : va_W))) A) args s 0 0 A) (F0 m 114 ls []) := by
  obtain ⟨hx, hb, hr, hts, hown, hlocks, hml, hA, hK, hNw⟩ := id C0
  intro H locs ls jcP jb8 jbh l1 l2 l4 l5 hP hD hS hl hw
  refine lv_iload hx hb (qaa qck 11 rfl) (lv_at hl 4 rfl) ?_
  refine lv_iload_n hx hb (qaa qck 12 rfl) rfl (lv_at hl 1 rfl) ?_
  refine lv_icmp_lt (tgt := 126) hx hb (qaa qck 13 rfl) (by decide) (fun c15 => ?_) (fun c15 => ?_)
  · have hw := hw.1 c15
    exact qLK dC dI cyB cyI cyJ cyP a0 jaW jaX jaF jaD jaY jap jal jam jax jao ja6 jaV ja8 jae jag jaf ja0 ja4 jaP jaw jaI jaZ jaH jaS jan jaU jaE jar jaL jah jaB jaa jaz jaG jab ja2 z0_s jaq jai jaO jaA jat jau jav jaj jas jaJ jak jad jay jac jbx jbC Q C0 _ _ _ jcP jb8 jbh l4 hP hD hS (lv_sub hl [0, 3] rfl) hw
  · have hw := hw.2 c15
    refine lv_iload hx hb (qaa qck 14 rfl) (lv_at hl 4 rfl) ?_
    refine lv_iload_n hx hb (qaa qck 15 rfl) rfl (lv_at hl 2 rfl) ?_
    refine lv_icmp_le (tgt := 135) hx hb (qaa qk3 0 rfl) (by decide) (fun c16 => ?_) (fun c16 => ?_)
    · have hw := hw.1 c16
      refine lv_iload hx hb (qaa qk3 7 rfl) (lv_at hl 4 rfl) ?_
      exact ((W.iret (v := l5) hx hb hr (fun t ht hW => ⟨⟨l5, (jcP, jb8, jbh), rfl, hw, by rw [ht]; exact hP, va_K.moved hW.alike hK, hD⟩, hS.F ht⟩) hS.2.2 (qaa qk3 8 rfl)))
    · have hw := hw.2 c16
      exact qLK dC dI cyB cyI cyJ cyP a0 jaW jaX jaF jaD jaY jap jal jam jax jao ja6 jaV ja8 jae jag jaf ja0 ja4 jaP jaw jaI jaZ jaH jaS jan jaU jaE jar jaL jah jaB jaa jaz jaG jab ja2 z0_s jaq jai jaO jaA jat jau jav jaj jas jaJ jak jad jay jac jbx jbC Q C0 _ _ _ jcP jb8 jbh l4 hP hD hS (lv_sub hl [0, 3] rfl) hw
set_option maxHeartbeats 4000000 in
set_option maxRecDepth 100000 in
theorem q5T {p : Program} {l : Launch} {e : Env} {s : State} {m : MethodId} {args : Array Value} {below : List Frame} {meth : Method} {c : Code} {A : Nat → Prop} (dC : Nat → ClassId) (dI : Nat → Nat → Nat) (cyB cyI cyJ cyP : ClassId) (a0 jaW : Nat) (jaX jaF jaD jaY jap jal jam jax jao ja6 jaV ja8 jae jag jaf ja0 ja4 jaP jaw jaI jaZ jaH jaS jan jaU jaE jar jaL jah jaB jaa jaz jaG jab ja2 z0_s jaq jai jaO jaA jat jau jav jaj jas jaJ jak jad jay jac : Value) (jbx : Int32) (jbC : NI) (Q : Int32 → Int32 → Int32 → Int32 → Prop) (C0 : cfx p s m args meth c cX11_readNumber (some .int) wsX11_readNumber RX11 6 A (dC, dI) (kT cyB cyI cyJ cyP)) : ∀ (n : Nat) (H : Heap) (locs : List Loc) (ls : Array Slot) (jcP jb8 jbh l1 l2 l4 l5 : Int32), va_P (dC, dI) vwCl (qgh a0 jaX jaF jaD jbx jcP jb8 jbh jaY jap jaW jal jam jax jao ja6 jaV ja8 jae jag jaf ja0 ja4 jaP jaw jaI jaZ jaH jaS jan jaU jaE jar jaL jah jaB jaa jaz jaG jab ja2 z0_s jaq jai jaO jaA jat jau jav jaj jas jaJ jak jad jay jac jaW cyI jbC) H → va_D A (qgh a0 jaX jaF jaD jbx jcP jb8 jbh jaY jap jaW jal jam jax jao ja6 jaV ja8 jae jag jaf ja0 ja4 jaP jaw jaI jaZ jaH jaS jan jaU jaE jar jaL jah jaB jaa jaz jaG jab ja2 z0_s jaq jai jaO jaA jat jau jav jaj jas jaJ jak jad jay jac jaW cyI jbC) → va_S A s.heap H locs → lv_has ls 6 [(0, .ref a0), (1, .int l1), (2, .int l2), (4, .int l4), (5, .int l5)] → qp8 jbx jbC Q n jcP jb8 jbh l1 l2 l4 l5 → W p l e (headSpec wsX11_readNumber ({ frames := 1, cells := 0, slots := 0, locals := 22 })).room s m args below meth c H locs 0 0 (MQ below (va_Qi (fun (r : Int32) (u : Int32 × Int32 × Int32) => Q r u.1 u.2.1 u.2.2) (cB (dC, dI) (kT cyB cyI cyJ cyP) A (fun u : Int32 × Int32 × Int32 => ((qgh a0 jaX jaF jaD jbx u.1 u.2.1 u.2.2 jaY jap jaW jal jam jax jao ja6 jaV ja8 jae jag jaf ja0 ja4 jaP jaw jaI jaZ jaH jaS jan jaU jaE jar jaL jah jaB jaa jaz jaG jab ja2 z0_s jaq jai jaO jaA jat jau jav jaj jas jaJ jak jad jay jac jaW cyI jbC) : va_W))) A) args s 0 0 A) (F0 m 41 ls []) := by
  obtain ⟨hx, hb, hr, hts, hown, hlocks, hml, hA, hK, hNw⟩ := id C0
  intro n
  induction n with
  | zero => intro H locs ls jcP jb8 jbh l1 l2 l4 l5 hP hD hS hl hw; exact False.elim hw
  | succ n ih =>
    intro H locs ls jcP jb8 jbh l1 l2 l4 l5 hP hD hS hl hw
    refine lv_aload_n hx hb (qaa qct 7 rfl) rfl (lv_at hl 0 rfl) ?_
    refine va_get (D := (dC, dI)) (ci := 11) (v := .int jcP) (C := RX11) (T := TX11) (N := 55) hx hb hts qh9 hown hK hP 0 rfl rfl 4 (by decide) (hts _ qoG) (fun _ h9 => h9) rfl (qaa qct 8 rfl) ?_
    refine lv_aload_n hx hb (qaa qct 9 rfl) rfl (lv_at hl 0 rfl) ?_
    refine va_get (D := (dC, dI)) (ci := 11) (v := .int jbx) (C := RX11) (T := TX11) (N := 55) hx hb hts qh9 hown hK hP 0 rfl rfl 3 (by decide) (hts _ q0h) (fun _ h9 => h9) rfl (qaa qct 10 rfl) ?_
    refine lv_icmp_ge (tgt := 114) hx hb (qaa qct 11 rfl) (by decide) (fun c9 => ?_) (fun c9 => ?_)
    · have hw := hw.1 c9
      exact qK7 dC dI cyB cyI cyJ cyP a0 jaW jaX jaF jaD jaY jap jal jam jax jao ja6 jaV ja8 jae jag jaf ja0 ja4 jaP jaw jaI jaZ jaH jaS jan jaU jaE jar jaL jah jaB jaa jaz jaG jab ja2 z0_s jaq jai jaO jaA jat jau jav jaj jas jaJ jak jad jay jac jbx jbC Q C0 _ _ _ jcP jb8 jbh l1 l2 l4 l5 hP hD hS (lv_sub hl [0, 1, 2, 3, 4] rfl) hw
    · have hw := hw.2 c9
      refine lv_aload_n hx hb (qaa qct 12 rfl) rfl (lv_at hl 0 rfl) ?_
      refine va_get (D := (dC, dI)) (ci := 11) (v := .ref jaW) (C := RX11) (T := TX11) (N := 55) hx hb hts qh9 hown hK hP 0 rfl rfl 9 (by decide) (hts _ qLN) (fun _ h9 => h9) rfl (qaa qct 13 rfl) ?_
      refine lv_aload_n hx hb (qaa qct 14 rfl) rfl (lv_at hl 0 rfl) ?_
      refine va_get (D := (dC, dI)) (ci := 11) (v := .int jcP) (C := RX11) (T := TX11) (N := 55) hx hb hts qh9 hown hK hP 0 rfl rfl 4 (by decide) (hts _ qoG) (fun _ h9 => h9) rfl (qaa qct 15 rfl) ?_
      obtain ⟨hi9, hw⟩ := hw
      refine va_iald hx hb hK hP 1 1 rfl rfl hi9 (qaa qcs 0 rfl) ?_
      refine lv_topi (fun x10 ex10 => ?_)
      have hw := hw x10 ex10
      obtain ⟨hCc, hPc, hDc, hFc⟩ := qac (ws' := []) hP hD hS hA [] (by decide +kernel) rfl
      refine va_calli (va_runS (As := [.int x10]) (rest := []) ⟨hx, hb, hml, hown, hts⟩ (qKB l dC dI cyB cyI cyJ cyP H.size x10 hw) (va_cwS 1 hts gX11_readNumber_X11_isDigit rfl rfl rfl (by decide +kernel) ⟨nbq rfl, nbq rfl⟩) ⟨qab, qae hPc hK hDc hNw⟩ rfl rfl hl.1 rfl (lv_room (nbq rfl)) (qaa qcs 1 rfl) ⟨nbq rfl, nbq rfl⟩) hS (fun q _ h => hFc q h) hFc (fun r11 u t H1 locs ht hvm hw hB hz1 hk1 hS => ?_)
      obtain ⟨hP1, hK1, hD1⟩ := hB
      rw [ht] at hP1
      obtain ⟨hP, hD⟩ := qah (wr := (qgh a0 jaX jaF jaD jbx jcP jb8 jbh jaY jap jaW jal jam jax jao ja6 jaV ja8 jae jag jaf ja0 ja4 jaP jaw jaI jaZ jaH jaS jan jaU jaE jar jaL jah jaB jaa jaz jaG jab ja2 z0_s jaq jai jaO jaA jat jau jav jaj jas jaJ jak jad jay jac jaW cyI jbC)) (w1 := []) (wn := (qgh a0 jaX jaF jaD jbx jcP jb8 jbh jaY jap jaW jal jam jax jao ja6 jaV ja8 jae jag jaf ja0 ja4 jaP jaw jaI jaZ jaH jaS jan jaU jaE jar jaL jah jaB jaa jaz jaG jab ja2 z0_s jaq jai jaO jaA jat jau jav jaj jas jaJ jak jad jay jac jaW cyI jbC)) hP hD [] [0, 1] hCc rfl (by decide +kernel) (by decide +kernel) rfl hk1 hFc hP1 hD1
      generalize H1 = H at hP hS ⊢
      refine lv_if_eq (tgt := 114) hx hb (qaa qcs 2 rfl) (by decide) (fun c12 => ?_) (fun c12 => ?_)
      · have hw := hw.1 c12
        exact qK7 dC dI cyB cyI cyJ cyP a0 jaW jaX jaF jaD jaY jap jal jam jax jao ja6 jaV ja8 jae jag jaf ja0 ja4 jaP jaw jaI jaZ jaH jaS jan jaU jaE jar jaL jah jaB jaa jaz jaG jab ja2 z0_s jaq jai jaO jaA jat jau jav jaj jas jaJ jak jad jay jac jbx jbC Q C0 _ _ _ jcP jb8 jbh l1 l2 l4 l5 hP hD hS (lv_sub hl [0, 1, 2, 3, 4] rfl) hw
      · have hw := hw.2 c12
        refine lv_iload hx hb (qaa qcs 3 rfl) (lv_at hl 4 rfl) ?_
        refine lv_sipush (v := 9999) hx hb (qaa qcs 4 rfl) (by decide) ?_
        refine lv_icmp_le (tgt := 81) hx hb (qaa qcs 5 rfl) (by decide) (fun c13 => ?_) (fun c13 => ?_)
        · have hw := hw.1 c13
          refine lv_bipush (v := 10) hx hb (qaa qcs 8 rfl) (by decide) ?_
          refine lv_iload hx hb (qaa qcs 9 rfl) (lv_at hl 4 rfl) ?_
          refine lv_imul hx hb (qaa qcs 10 rfl) ?_
          refine lv_aload_n hx hb (qaa qcs 11 rfl) rfl (lv_at hl 0 rfl) ?_
          refine va_get (D := (dC, dI)) (ci := 11) (v := .ref jaW) (C := RX11) (T := TX11) (N := 55) hx hb hts qh9 hown hK hP 0 rfl rfl 9 (by decide) (hts _ qLN) (fun _ h9 => h9) rfl (qaa qcs 12 rfl) ?_
          refine lv_aload_n hx hb (qaa qcs 13 rfl) rfl (lv_at hl 0 rfl) ?_
          refine va_get (D := (dC, dI)) (ci := 11) (v := .int jcP) (C := RX11) (T := TX11) (N := 55) hx hb hts qh9 hown hK hP 0 rfl rfl 4 (by decide) (hts _ qoG) (fun _ h9 => h9) rfl (qaa qcs 14 rfl) ?_
          obtain ⟨hi9, hw⟩ := hw
          refine va_iald hx hb hK hP 1 1 rfl rfl hi9 (qaa qcs 15 rfl) ?_
          refine lv_topi (fun x14 ex14 => ?_)
          have hw := hw x14 ex14
          refine lv_iadd hx hb (qaa qck 0 rfl) ?_
          refine lv_bipush (v := 48) hx hb (qaa qck 1 rfl) (by decide) ?_
          refine lv_isub hx hb (qaa qck 2 rfl) ?_
          exact qNx dC dI cyB cyI cyJ cyP a0 jaW jaX jaF jaD jaY jap jal jam jax jao ja6 jaV ja8 jae jag jaf ja0 ja4 jaP jaw jaI jaZ jaH jaS jan jaU jaE jar jaL jah jaB jaa jaz jaG jab ja2 z0_s jaq jai jaO jaA jat jau jav jaj jas jaJ jak jad jay jac jbx jbC Q (qp8 jbx jbC Q n) ih C0 _ _ _ jcP jb8 jbh l1 l2 l4 (((10 * l5) + x14) - 48) hP hD hS (lv_sub hl [0, 1, 2, 3] rfl) hw
        · have hw := hw.2 c13
          refine lv_sipush (v := 10000) hx hb (qaa qcs 6 rfl) (by decide) ?_
          refine lv_goto (tgt := 99) hx hb (qaa qcs 7 rfl) (by decide) ?_
          exact qNx dC dI cyB cyI cyJ cyP a0 jaW jaX jaF jaD jaY jap jal jam jax jao ja6 jaV ja8 jae jag jaf ja0 ja4 jaP jaw jaI jaZ jaH jaS jan jaU jaE jar jaL jah jaB jaa jaz jaG jab ja2 z0_s jaq jai jaO jaA jat jau jav jaj jas jaJ jak jad jay jac jbx jbC Q (qp8 jbx jbC Q n) ih C0 _ _ _ jcP jb8 jbh l1 l2 l4 10000 hP hD hS (lv_sub hl [0, 1, 2, 3] rfl) hw
set_option maxHeartbeats 4000000 in
set_option maxRecDepth 100000 in
theorem qcA (l : Launch) (dC : Nat → ClassId) (dI : Nat → Nat → Nat) (cyB cyI cyJ cyP : ClassId) (a0 jaW sz : Nat) (jaX jaF jaD jaY jap jal jam jax jao ja6 jaV ja8 jae jag jaf ja0 ja4 jaP jaw jaI jaZ jaH jaS jan jaU jaE jar jaL jah jaB jaa jaz jaG jab ja2 z0_s jaq jai jaO jaA jat jau jav jaj jas jaJ jak jad jay jac : Value) (jbx : Int32) (jbC : NI) (jcP jb8 jbh p1 p2 : Int32) {Q : Int32 → Int32 → Int32 → Int32 → Prop} (hw : qbT jbx jbC jcP jb8 jbh p1 p2 Q) : Met l yX11_readNumber wsX11_readNumber ({ frames := 1, cells := 0, slots := 0, locals := 22 }) (va_Pc [.ref a0, .int p1, .int p2] (cPc (dC, dI) (kT cyB cyI cyJ cyP) (qgh a0 jaX jaF jaD jbx jcP jb8 jbh jaY jap jaW jal jam jax jao ja6 jaV ja8 jae jag jaf ja0 ja4 jaP jaw jaI jaZ jaH jaS jan jaU jaE jar jaL jah jaB jaa jaz jaG jab ja2 z0_s jaq jai jaO jaA jat jau jav jaj jas jaJ jak jad jay jac jaW cyI jbC) sz)) (va_Qi (fun (r : Int32) (u : Int32 × Int32 × Int32) => Q r u.1 u.2.1 u.2.2) (cB (dC, dI) (kT cyB cyI cyJ cyP) (va_A (qgh a0 jaX jaF jaD jbx jcP jb8 jbh jaY jap jaW jal jam jax jao ja6 jaV ja8 jae jag jaf ja0 ja4 jaP jaw jaI jaZ jaH jaS jan jaU jaE jar jaL jah jaB jaa jaz jaG jab ja2 z0_s jaq jai jaO jaA jat jau jav jaj jas jaJ jak jad jay jac jaW cyI jbC) sz) (fun u : Int32 × Int32 × Int32 => ((qgh a0 jaX jaF jaD jbx u.1 u.2.1 u.2.2 jaY jap jaW jal jam jax jao ja6 jaV ja8 jae jag jaf ja0 ja4 jaP jaw jaI jaZ jaH jaS jan jaU jaE jar jaL jah jaB jaa jaz jaG jab ja2 z0_s jaq jai jaO jaA jat jau jav jaj jas jaJ jak jad jay jac jaW cyI jbC) : va_W))) (va_A (qgh a0 jaX jaF jaD jbx jcP jb8 jbh jaY jap jaW jal jam jax jao ja6 jaV ja8 jae jag jaf ja0 ja4 jaP jaw jaI jaZ jaH jaS jan jaU jaE jar jaL jah jaB jaa jaz jaG jab ja2 z0_s jaq jai jaO jaA jat jau jav jaj jas jaJ jak jad jay jac jaW cyI jbC) sz)) 0 0 (va_A (qgh a0 jaX jaF jaD jbx jcP jb8 jbh jaY jap jaW jal jam jax jao ja6 jaV ja8 jae jag jaf ja0 ja4 jaP jaw jaI jaZ jaH jaS jan jaU jaE jar jaL jah jaB jaa jaz jaG jab ja2 z0_s jaq jai jaO jaA jat jau jav jaj jas jaJ jak jad jay jac jaW cyI jbC) sz) := by
  refine Met.ofW (cc := cX11_readNumber) (maxL := 6) (ret := (some .int)) (by decide) rfl ?_
  intro p e s m args below meth c s₁ B hml hv
  obtain ⟨rfl, hsz, hP, hK, hD0, hNw⟩ := hv
  have hx := B.exec
  have hb := B.bytes
  have hr := B.returns
  have hts := atoms_spec (ws := wsX11_readNumber) B.pre
  have hown : s.vm.findClass RX11 = some m.cls := findClass_of_methodNamed B.named
  have hlocks := B.notSynchronized
  subst hsz
  have hD := hD0.self (sz := s.heap.size)
  generalize hAe : va_A (qgh a0 jaX jaF jaD jbx jcP jb8 jbh jaY jap jaW jal jam jax jao ja6 jaV ja8 jae jag jaf ja0 ja4 jaP jaw jaI jaZ jaH jaS jan jaU jaE jar jaL jah jaB jaa jaz jaG jab ja2 z0_s jaq jai jaO jaA jat jau jav jaj jas jaJ jak jad jay jac jaW cyI jbC) s.heap.size = A at hD ⊢
  have hA : ∀ q : Nat, s.heap.size ≤ q → A q := fun q h => by rw [← hAe]; exact Or.inr h
  have hS : va_S A s.heap s.heap [] := va_S.rf
  have hP : va_P (dC, dI) vwCl (qgh a0 jaX jaF jaD jbx jcP jb8 jbh jaY jap jaW jal jam jax jao ja6 jaV ja8 jae jag jaf ja0 ja4 jaP jaw jaI jaZ jaH jaS jan jaU jaE jar jaL jah jaB jaa jaz jaG jab ja2 z0_s jaq jai jaO jaA jat jau jav jaj jas jaJ jak jad jay jac jaW cyI jbC) s.heap := hP
  have hl := lv_entry ([.ref a0, .int p1, .int p2]) (n := 6) (nbq rfl)
  rw [lg_entry_eq]
  generalize (lg_sl ([.ref a0, .int p1, .int p2]) ++ List.replicate (6 - (lg_sl ([.ref a0, .int p1, .int p2])).length) Slot.unset).toArray = ls at hl ⊢
  have hl : lv_has ls 6 [(0, .ref a0), (1, .int p1), (2, .int p2)] := hl
  have C0 : cfx p s m _ meth c cX11_readNumber (some .int) wsX11_readNumber RX11 6 A (dC, dI) (kT cyB cyI cyJ cyP) := ⟨hx, hb, hr, hts, hown, hlocks, hml, hA, hK, hNw⟩
  clear hAe
  obtain ⟨H, hH⟩ : ∃ H, H = s.heap := ⟨_, rfl⟩
  rw [← hH] at hP ⊢
  have hS : va_S A s.heap H [] := by rw [hH]; exact va_S.rf
  have hS := hS
  refine lv_aload_n hx hb (qaa qcJ 0 rfl) rfl (lv_at hl 0 rfl) ?_
  obtain ⟨hCc, hPc, hDc, hFc⟩ := qac (ws' := (qLW a0 jaX jaF jaD jbx jcP jb8 jbh jaY jap jaW jal jam jax jao ja6 jaV ja8 jae jag jaf ja0 ja4 jaP jaw jaI jaZ jaH jaS jan jaU jaE jar jaL jah jaB jaa jaz jaG jab ja2 z0_s jaq jai jaO jaA jat jau jav jaj jas jaJ jak jad jay jac)) hP hD hS hA [0] (by decide +kernel) rfl
  refine va_calli (va_runV (As := []) (rest := []) ⟨hx, hb, hml, hown, hts⟩ (qdQ l dC dI cyB cyI cyJ cyP a0 H.size (jaX) (jaF) (jaD) (.int jbx) (.int jcP) (.int jbh) (jaY) (jap) (.ref jaW) (jal) (jam) (jax) (jao) (ja6) (jaV) (ja8) (jae) (jag) (jaf) (ja0) (ja4) (jaP) (jaw) (jaI) (jaZ) (jaH) (jaS) (jan) (jaU) (jaE) (jar) (jaL) (jah) (jaB) (jaa) (jaz) (jaG) (jab) (ja2) (z0_s) (jaq) (jai) (jaO) (jaA) (jat) (jau) (jav) (jaj) (jas) (jaJ) (jak) (jad) (jay) (jac) jb8 hw) (cwV 0 hts gX11_readNumber_X11_fine rfl rfl rfl (by decide +kernel) ⟨nbq rfl, nbq rfl⟩) ⟨qab, va_recv (q := (RX11, TX11, 55)) hK hPc (ci := 11) (q0 := 0) rfl rfl, qae hPc hK hDc hNw⟩ rfl rfl hl.1 rfl (lv_room (nbq rfl)) (qaa qcJ 1 rfl) ⟨nbq rfl, nbq rfl⟩) hS (fun q _ h => hFc q h) hFc (fun r1 u t H1 locs ht hvm hw hB hz1 hk1 hS => ?_)
  obtain ⟨hP1, hK1, hD1⟩ := hB
  rw [ht] at hP1
  obtain ⟨hP, hD⟩ := qad (wr := (qal3 jaW cyI jbC)) (w1 := (qLW a0 jaX jaF jaD jbx jcP jb8 jbh jaY jap jaW jal jam jax jao ja6 jaV ja8 jae jag jaf ja0 ja4 jaP jaw jaI jaZ jaH jaS jan jaU jaE jar jaL jah jaB jaa jaz jaG jab ja2 z0_s jaq jai jaO jaA jat jau jav jaj jas jaJ jak jad jay jac)) (wn := (qgh a0 jaX jaF jaD jbx jcP jb8 jbh jaY jap jaW jal jam jax jao ja6 jaV ja8 jae jag jaf ja0 ja4 jaP jaw jaI jaZ jaH jaS jan jaU jaE jar jaL jah jaB jaa jaz jaG jab ja2 z0_s jaq jai jaO jaA jat jau jav jaj jas jaJ jak jad jay jac jaW cyI jbC)) hP hD [0] [1] [1, 0] hCc rfl (by decide +kernel) (by decide +kernel) (by decide +kernel) rfl hk1 hFc hP1 hD1
  generalize H1 = H at hP hS ⊢
  refine lv_if_ne (tgt := 9) hx hb (qaa qcJ 2 rfl) (by decide) (fun c2 => ?_) (fun c2 => ?_)
  · have hw := hw.1 c2
    refine lv_aload_n hx hb (qaa qcJ 5 rfl) rfl (lv_at hl 0 rfl) ?_
    obtain ⟨hCc, hPc, hDc, hFc⟩ := qac (ws' := (qgh a0 jaX jaF jaD jbx jcP jb8 jbh jaY jap jaW jal jam jax jao ja6 jaV ja8 jae jag jaf ja0 ja4 jaP jaw jaI jaZ jaH jaS jan jaU jaE jar jaL jah jaB jaa jaz jaG jab ja2 z0_s jaq jai jaO jaA jat jau jav jaj jas jaJ jak jad jay jac jaW cyI jbC)) hP hD hS hA [0, 1] (by decide +kernel) rfl
    refine va_calli (va_runV (As := []) (rest := []) ⟨hx, hb, hml, hown, hts⟩ (qeS l dC dI cyB cyI cyJ cyP a0 jaW H.size (jaX) (jaF) (jaD) (.int jb8) (.int jbh) (jaY) (jap) (jal) (jam) (jax) (jao) (ja6) (jaV) (ja8) (jae) (jag) (jaf) (ja0) (ja4) (jaP) (jaw) (jaI) (jaZ) (jaH) (jaS) (jan) (jaU) (jaE) (jar) (jaL) (jah) (jaB) (jaa) (jaz) (jaG) (jab) (ja2) (z0_s) (jaq) (jai) (jaO) (jaA) (jat) (jau) (jav) (jaj) (jas) (jaJ) (jak) (jad) (jay) (jac) jbx jbC jcP hw) (cwV 0 hts gX11_readNumber_X11_here rfl rfl rfl (by decide +kernel) ⟨nbq rfl, nbq rfl⟩) ⟨qab, va_recv (q := (RX11, TX11, 55)) hK hPc (ci := 11) (q0 := 0) rfl rfl, qae hPc hK hDc hNw⟩ rfl rfl hl.1 rfl (lv_room (nbq rfl)) (qaa qcJ 6 rfl) ⟨nbq rfl, nbq rfl⟩) hS (fun q _ h => hFc q h) hFc (fun r4 u t H1 locs ht hvm hw hB hz1 hk1 hS => ?_)
    obtain ⟨x3, rfl⟩ : ∃ z, z = u := ⟨_, rfl⟩
    obtain ⟨hP1, hK1, hD1⟩ := hB
    rw [ht] at hP1
    obtain ⟨hP, hD⟩ := qah (wr := []) (w1 := (qgh a0 jaX jaF jaD jbx x3 jb8 jbh jaY jap jaW jal jam jax jao ja6 jaV ja8 jae jag jaf ja0 ja4 jaP jaw jaI jaZ jaH jaS jan jaU jaE jar jaL jah jaB jaa jaz jaG jab ja2 z0_s jaq jai jaO jaA jat jau jav jaj jas jaJ jak jad jay jac jaW cyI jbC)) (wn := (qgh a0 jaX jaF jaD jbx x3 jb8 jbh jaY jap jaW jal jam jax jao ja6 jaV ja8 jae jag jaf ja0 ja4 jaP jaw jaI jaZ jaH jaS jan jaU jaE jar jaL jah jaB jaa jaz jaG jab ja2 z0_s jaq jai jaO jaA jat jau jav jaj jas jaJ jak jad jay jac jaW cyI jbC)) hP hD [0, 1] [] hCc rfl (by decide +kernel) (by decide +kernel) rfl hk1 hFc hP1 hD1
    generalize H1 = H at hP hS ⊢
    refine lv_istore_n (lv' := [(3, .int r4), (0, .ref a0), (1, .int p1), (2, .int p2)]) hx hb (qaa qcJ 7 rfl) rfl hl (by decide) rfl (fun ls hl => ?_)
    refine lv_aload_n hx hb (qaa qcJ 8 rfl) rfl (lv_at hl 1 rfl) ?_
    refine va_get (D := (dC, dI)) (ci := 11) (v := .int x3) (C := RX11) (T := TX11) (N := 55) hx hb hts qh9 hown hK hP 0 rfl rfl 4 (by decide) (hts _ qoG) (fun _ h9 => h9) rfl (qaa qcJ 9 rfl) ?_
    refine lv_istore (lv' := [(4, .int x3), (3, .int r4), (0, .ref a0), (1, .int p1), (2, .int p2)]) hx hb (qaa qcJ 10 rfl) hl (by decide) rfl (fun ls hl => ?_)
    refine lv_iconst (v := 0) hx hb (qaa qcJ 11 rfl) (by decide) ?_
    refine lv_istore (lv' := [(5, .int 0), (4, .int x3), (3, .int r4), (0, .ref a0), (1, .int p1), (2, .int p2)]) hx hb (qaa qcJ 12 rfl) hl (by decide) rfl (fun ls hl => ?_)
    refine lv_iload_n hx hb (qaa qcJ 13 rfl) rfl (lv_at hl 2 rfl) ?_
    obtain ⟨hCc, hPc, hDc, hFc⟩ := qac (ws' := []) hP hD hS hA [] (by decide +kernel) rfl
    refine va_calli (va_runS (As := [.int r4]) (rest := []) ⟨hx, hb, hml, hown, hts⟩ (qKB l dC dI cyB cyI cyJ cyP H.size r4 hw) (va_cwS 1 hts gX11_readNumber_X11_isDigit rfl rfl rfl (by decide +kernel) ⟨nbq rfl, nbq rfl⟩) ⟨qab, qae hPc hK hDc hNw⟩ rfl rfl hl.1 rfl (lv_room (nbq rfl)) (qaa qcJ 14 rfl) ⟨nbq rfl, nbq rfl⟩) hS (fun q _ h => hFc q h) hFc (fun r5 u t H1 locs ht hvm hw hB hz1 hk1 hS => ?_)
    obtain ⟨hP1, hK1, hD1⟩ := hB
    rw [ht] at hP1
    obtain ⟨hP, hD⟩ := qah (wr := (qgh a0 jaX jaF jaD jbx x3 jb8 jbh jaY jap jaW jal jam jax jao ja6 jaV ja8 jae jag jaf ja0 ja4 jaP jaw jaI jaZ jaH jaS jan jaU jaE jar jaL jah jaB jaa jaz jaG jab ja2 z0_s jaq jai jaO jaA jat jau jav jaj jas jaJ jak jad jay jac jaW cyI jbC)) (w1 := []) (wn := (qgh a0 jaX jaF jaD jbx x3 jb8 jbh jaY jap jaW jal jam jax jao ja6 jaV ja8 jae jag jaf ja0 ja4 jaP jaw jaI jaZ jaH jaS jan jaU jaE jar jaL jah jaB jaa jaz jaG jab ja2 z0_s jaq jai jaO jaA jat jau jav jaj jas jaJ jak jad jay jac jaW cyI jbC)) hP hD [] [0, 1] hCc rfl (by decide +kernel) (by decide +kernel) rfl hk1 hFc hP1 hD1
    generalize H1 = H at hP hS ⊢
    refine lv_if_ne (tgt := 41) hx hb (qaa qcJ 15 rfl) (by decide) (fun c6 => ?_) (fun c6 => ?_)
    · have hw := hw.1 c6
      obtain ⟨n9, hw⟩ := hw
      exact q5T dC dI cyB cyI cyJ cyP a0 jaW jaX jaF jaD jaY jap jal jam jax jao ja6 jaV ja8 jae jag jaf ja0 ja4 jaP jaw jaI jaZ jaH jaS jan jaU jaE jar jaL jah jaB jaa jaz jaG jab ja2 z0_s jaq jai jaO jaA jat jau jav jaj jas jaJ jak jad jay jac jbx jbC Q C0 n9 _ _ _ x3 jb8 jbh p1 p2 x3 0 hP hD hS (lv_sub hl [3, 4, 5, 1, 0] rfl) hw
    · have hw := hw.2 c6
      refine lv_aload_n hx hb (qaa qct 0 rfl) rfl (lv_at hl 3 rfl) ?_
      refine lv_iconst (v := 1) hx hb (qaa qct 1 rfl) (by decide) ?_
      refine lv_aload_n hx hb (qaa qct 2 rfl) rfl (lv_at hl 3 rfl) ?_
      refine va_get (D := (dC, dI)) (ci := 11) (v := .int x3) (C := RX11) (T := TX11) (N := 55) hx hb hts qh9 hown hK hP 0 rfl rfl 4 (by decide) (hts _ qoG) (fun _ h9 => h9) rfl (qaa qct 3 rfl) ?_
      obtain ⟨hCc, hPc, hDc, hFc⟩ := qac (ws' := (qLW a0 jaX jaF jaD jbx x3 jb8 jbh jaY jap jaW jal jam jax jao ja6 jaV ja8 jae jag jaf ja0 ja4 jaP jaw jaI jaZ jaH jaS jan jaU jaE jar jaL jah jaB jaa jaz jaG jab ja2 z0_s jaq jai jaO jaA jat jau jav jaj jas jaJ jak jad jay jac)) hP hD hS hA [0] (by decide +kernel) rfl
      refine va_callv (va_runV (As := [.int 1, .int x3]) (rest := []) ⟨hx, hb, hml, hown, hts⟩ (qrt l dC dI cyB cyI cyJ cyP a0 H.size (jaX) (jaF) (jaD) (.int jbx) (.int x3) (jaY) (jap) (.ref jaW) (jal) (jam) (jax) (jao) (ja6) (jaV) (ja8) (jae) (jag) (jaf) (ja0) (ja4) (jaP) (jaw) (jaI) (jaZ) (jaH) (jaS) (jan) (jaU) (jaE) (jar) (jaL) (jah) (jaB) (jaa) (jaz) (jaG) (jab) (ja2) (z0_s) (jaq) (jai) (jaO) (jaA) (jat) (jau) (jav) (jaj) (jas) (jaJ) (jak) (jad) (jay) (jac) jb8 jbh 1 x3 hw) (cwV 2 hts gX11_readNumber_X11_wrong rfl rfl rfl (by decide +kernel) ⟨nbq rfl, nbq rfl⟩) ⟨qab, va_recv (q := (RX11, TX11, 55)) hK hPc (ci := 11) (q0 := 0) rfl rfl, qae hPc hK hDc hNw⟩ rfl rfl hl.1 rfl (lv_room (nbq rfl)) (qaa qct 4 rfl) ⟨nbq rfl, nbq rfl⟩) hS (fun q _ h => hFc q h) hFc (fun u t H1 locs ht hvm hw hB hz1 hk1 hS => ?_)
      obtain ⟨x7, x8⟩ := u
      obtain ⟨hP1, hK1, hD1⟩ := hB
      rw [ht] at hP1
      obtain ⟨hP, hD⟩ := qad (wr := (qal3 jaW cyI jbC)) (w1 := (qLW a0 jaX jaF jaD jbx x3 x7 x8 jaY jap jaW jal jam jax jao ja6 jaV ja8 jae jag jaf ja0 ja4 jaP jaw jaI jaZ jaH jaS jan jaU jaE jar jaL jah jaB jaa jaz jaG jab ja2 z0_s jaq jai jaO jaA jat jau jav jaj jas jaJ jak jad jay jac)) (wn := (qgh a0 jaX jaF jaD jbx x3 x7 x8 jaY jap jaW jal jam jax jao ja6 jaV ja8 jae jag jaf ja0 ja4 jaP jaw jaI jaZ jaH jaS jan jaU jaE jar jaL jah jaB jaa jaz jaG jab ja2 z0_s jaq jai jaO jaA jat jau jav jaj jas jaJ jak jad jay jac jaW cyI jbC)) hP hD [0] [1] [1, 0] hCc rfl (by decide +kernel) (by decide +kernel) (by decide +kernel) rfl hk1 hFc hP1 hD1
      generalize H1 = H at hP hS ⊢
      refine lv_iconst (v := 0) hx hb (qaa qct 5 rfl) (by decide) ?_
      exact ((W.iret (v := 0) hx hb hr (fun t ht hW => ⟨⟨0, (x3, x7, x8), rfl, hw, by rw [ht]; exact hP, va_K.moved hW.alike hK, hD⟩, hS.F ht⟩) hS.2.2 (qaa qct 6 rfl)))
  · have hw := hw.2 c2
    refine lv_iconst (v := 0) hx hb (qaa qcJ 3 rfl) (by decide) ?_
    exact ((W.iret (v := 0) hx hb hr (fun t ht hW => ⟨⟨0, (jcP, jb8, jbh), rfl, hw, by rw [ht]; exact hP, va_K.moved hW.alike hK, hD⟩, hS.F ht⟩) hS.2.2 (qaa qcJ 4 rfl)))
theorem qPu : ∀ w ∈ u_ws RX11 TX11 55, w ∈ wsX11_sign := uiM qGG qga (by decide +kernel)
theorem qMa : (.fieldLink RX11 120 "MarchHaresModel" "at" "I" : Cond) ∈ wsX11_sign := qGG 1103 (by decide +kernel)
set_option maxHeartbeats 4000000 in
set_option maxRecDepth 100000 in
theorem qUz {p : Program} {l : Launch} {e : Env} {s : State} {m : MethodId} {args : Array Value} {below : List Frame} {meth : Method} {c : Code} {A : Nat → Prop} (dC : Nat → ClassId) (dI : Nat → Nat → Nat) (cyB cyI cyJ cyP : ClassId) (a0 jaW : Nat) (jaX jaF jaD jaY jap jal jam jax jao ja6 jaV ja8 jae jag jaf ja0 ja4 jaP jaw jaI jaZ jaH jaS jan jaU jaE jar jaL jah jaB jaa jaz jaG jab ja2 z0_s jaq jai jaO jaA jat jau jav jaj jas jaJ jak jad jay jac : Value) (jbx : Int32) (jbC : NI) (Q : Int32 → Int32 → Int32 → Prop) (C0 : cfx p s m args meth c cX11_sign none wsX11_sign RX11 2 A (dC, dI) (kT cyB cyI cyJ cyP)) : ∀ (H : Heap) (locs : List Loc) (ls : Array Slot) (jcP jb8 jbh : Int32), va_P (dC, dI) vwCl (qgh a0 jaX jaF jaD jbx jcP jb8 jbh jaY jap jaW jal jam jax jao ja6 jaV ja8 jae jag jaf ja0 ja4 jaP jaw jaI jaZ jaH jaS jan jaU jaE jar jaL jah jaB jaa jaz jaG jab ja2 z0_s jaq jai jaO jaA jat jau jav jaj jas jaJ jak jad jay jac jaW cyI jbC) H → va_D A (qgh a0 jaX jaF jaD jbx jcP jb8 jbh jaY jap jaW jal jam jax jao ja6 jaV ja8 jae jag jaf ja0 ja4 jaP jaw jaI jaZ jaH jaS jan jaU jaE jar jaL jah jaB jaa jaz jaG jab ja2 z0_s jaq jai jaO jaA jat jau jav jaj jas jaJ jak jad jay jac jaW cyI jbC) → va_S A s.heap H locs → lv_has ls 2 [(0, .ref a0)] → qKz jbx jbC Q jcP jb8 jbh → W p l e (headSpec wsX11_sign ({ frames := 1, cells := 0, slots := 0, locals := 22 })).room s m args below meth c H locs 0 0 (MQ below (va_Qv (fun (u : Int32 × Int32 × Int32) => Q u.1 u.2.1 u.2.2) (cB (dC, dI) (kT cyB cyI cyJ cyP) A (fun u : Int32 × Int32 × Int32 => ((qgh a0 jaX jaF jaD jbx u.1 u.2.1 u.2.2 jaY jap jaW jal jam jax jao ja6 jaV ja8 jae jag jaf ja0 ja4 jaP jaw jaI jaZ jaH jaS jan jaU jaE jar jaL jah jaB jaa jaz jaG jab ja2 z0_s jaq jai jaO jaA jat jau jav jaj jas jaJ jak jad jay jac jaW cyI jbC) : va_W))) A) args s 0 0 A) (F0 m 24 ls []) := by
  obtain ⟨hx, hb, hr, hts, hown, hlocks, hml, hA, hK, hNw⟩ := id C0
  intro H locs ls jcP jb8 jbh hP hD hS hl hw
  refine lv_aload_n hx hb (qaa qlJ 12 rfl) rfl (lv_at hl 0 rfl) ?_
  obtain ⟨hCc, hPc, hDc, hFc⟩ := qac (ws' := (qLW a0 jaX jaF jaD jbx jcP jb8 jbh jaY jap jaW jal jam jax jao ja6 jaV ja8 jae jag jaf ja0 ja4 jaP jaw jaI jaZ jaH jaS jan jaU jaE jar jaL jah jaB jaa jaz jaG jab ja2 z0_s jaq jai jaO jaA jat jau jav jaj jas jaJ jak jad jay jac)) hP hD hS hA [0] (by decide +kernel) rfl
  refine va_calli (va_runV (As := []) (rest := []) ⟨hx, hb, hml, hown, hts⟩ (qdQ l dC dI cyB cyI cyJ cyP a0 H.size (jaX) (jaF) (jaD) (.int jbx) (.int jcP) (.int jbh) (jaY) (jap) (.ref jaW) (jal) (jam) (jax) (jao) (ja6) (jaV) (ja8) (jae) (jag) (jaf) (ja0) (ja4) (jaP) (jaw) (jaI) (jaZ) (jaH) (jaS) (jan) (jaU) (jaE) (jar) (jaL) (jah) (jaB) (jaa) (jaz) (jaG) (jab) (ja2) (z0_s) (jaq) (jai) (jaO) (jaA) (jat) (jau) (jav) (jaj) (jas) (jaJ) (jak) (jad) (jay) (jac) jb8 hw) (cwV 0 hts gX11_sign_X11_fine rfl rfl rfl (by decide +kernel) ⟨nbq rfl, nbq rfl⟩) ⟨qab, va_recv (q := (RX11, TX11, 55)) hK hPc (ci := 11) (q0 := 0) rfl rfl, qae hPc hK hDc hNw⟩ rfl rfl hl.1 rfl (lv_room (nbq rfl)) (qaa qlJ 13 rfl) ⟨nbq rfl, nbq rfl⟩) hS (fun q _ h => hFc q h) hFc (fun r8 u t H1 locs ht hvm hw hB hz1 hk1 hS => ?_)
  obtain ⟨hP1, hK1, hD1⟩ := hB
  rw [ht] at hP1
  obtain ⟨hP, hD⟩ := qad (wr := (qal3 jaW cyI jbC)) (w1 := (qLW a0 jaX jaF jaD jbx jcP jb8 jbh jaY jap jaW jal jam jax jao ja6 jaV ja8 jae jag jaf ja0 ja4 jaP jaw jaI jaZ jaH jaS jan jaU jaE jar jaL jah jaB jaa jaz jaG jab ja2 z0_s jaq jai jaO jaA jat jau jav jaj jas jaJ jak jad jay jac)) (wn := (qgh a0 jaX jaF jaD jbx jcP jb8 jbh jaY jap jaW jal jam jax jao ja6 jaV ja8 jae jag jaf ja0 ja4 jaP jaw jaI jaZ jaH jaS jan jaU jaE jar jaL jah jaB jaa jaz jaG jab ja2 z0_s jaq jai jaO jaA jat jau jav jaj jas jaJ jak jad jay jac jaW cyI jbC)) hP hD [0] [1] [1, 0] hCc rfl (by decide +kernel) (by decide +kernel) (by decide +kernel) rfl hk1 hFc hP1 hD1
  generalize H1 = H at hP hS ⊢
  refine lv_if_eq (tgt := 41) hx hb (qaa qlJ 14 rfl) (by decide) (fun c9 => ?_) (fun c9 => ?_)
  · have hw := hw.1 c9
    exact ((W.vret hx hb hr (fun t ht hW => ⟨⟨(jcP, jb8, jbh), rfl, hw, by rw [ht]; exact hP, va_K.moved hW.alike hK, hD⟩, hS.F ht⟩) hS.2.2 (qaa qxF 5 rfl)))
  · have hw := hw.2 c9
    refine lv_aload_n hx hb (qaa qlJ 15 rfl) rfl (lv_at hl 0 rfl) ?_
    refine lv_dup hx hb (qaa qxF 0 rfl) rfl ?_
    refine va_get (D := (dC, dI)) (ci := 11) (v := .int jcP) (C := RX11) (T := TX11) (N := 55) hx hb hts qPu hown hK hP 0 rfl rfl 4 (by decide) (hts _ qMa) (fun _ h9 => h9) rfl (qaa qxF 1 rfl) ?_
    refine lv_iconst (v := 1) hx hb (qaa qxF 2 rfl) (by decide) ?_
    refine lv_iadd hx hb (qaa qxF 3 rfl) ?_
    refine lv_topi (fun x10 ex10 => ?_)
    have hw := hw x10 ex10
    refine va_put (D := (dC, dI)) (ci := 11) (v := .int x10) (ty := .int) (C := RX11) (T := TX11) (N := 55) hx hb hts qPu tyX11 tyX11_ok nmX11 hown hK hP hD hS 0 rfl rfl 4 (by decide) (hts _ qMa) (fun _ h9 => h9) rfl (by decide +kernel) rfl rfl (nbq rfl) (qaa qxF 4 rfl) (fun H locs hP hD hS => ?_)
    have hP : va_P (dC, dI) vwCl (qgh a0 jaX jaF jaD jbx x10 jb8 jbh jaY jap jaW jal jam jax jao ja6 jaV ja8 jae jag jaf ja0 ja4 jaP jaw jaI jaZ jaH jaS jan jaU jaE jar jaL jah jaB jaa jaz jaG jab ja2 z0_s jaq jai jaO jaA jat jau jav jaj jas jaJ jak jad jay jac jaW cyI jbC) H := hP
    have hD : va_D A (qgh a0 jaX jaF jaD jbx x10 jb8 jbh jaY jap jaW jal jam jax jao ja6 jaV ja8 jae jag jaf ja0 ja4 jaP jaw jaI jaZ jaH jaS jan jaU jaE jar jaL jah jaB jaa jaz jaG jab ja2 z0_s jaq jai jaO jaA jat jau jav jaj jas jaJ jak jad jay jac jaW cyI jbC) := hD
    exact ((W.vret hx hb hr (fun t ht hW => ⟨⟨(x10, jb8, jbh), rfl, hw, by rw [ht]; exact hP, va_K.moved hW.alike hK, hD⟩, hS.F ht⟩) hS.2.2 (qaa qxF 5 rfl)))
set_option maxHeartbeats 4000000 in
set_option maxRecDepth 100000 in
theorem qtj (l : Launch) (dC : Nat → ClassId) (dI : Nat → Nat → Nat) (cyB cyI cyJ cyP : ClassId) (a0 jaW sz : Nat) (jaX jaF jaD jaY jap jal jam jax jao ja6 jaV ja8 jae jag jaf ja0 ja4 jaP jaw jaI jaZ jaH jaS jan jaU jaE jar jaL jah jaB jaa jaz jaG jab ja2 z0_s jaq jai jaO jaA jat jau jav jaj jas jaJ jak jad jay jac : Value) (jbx : Int32) (jbC : NI) (jcP jb8 jbh p1 : Int32) {Q : Int32 → Int32 → Int32 → Prop} (hw : qp6 jbx jbC jcP jb8 jbh p1 Q) : Met l yX11_sign wsX11_sign ({ frames := 1, cells := 0, slots := 0, locals := 22 }) (va_Pc [.ref a0, .int p1] (cPc (dC, dI) (kT cyB cyI cyJ cyP) (qgh a0 jaX jaF jaD jbx jcP jb8 jbh jaY jap jaW jal jam jax jao ja6 jaV ja8 jae jag jaf ja0 ja4 jaP jaw jaI jaZ jaH jaS jan jaU jaE jar jaL jah jaB jaa jaz jaG jab ja2 z0_s jaq jai jaO jaA jat jau jav jaj jas jaJ jak jad jay jac jaW cyI jbC) sz)) (va_Qv (fun (u : Int32 × Int32 × Int32) => Q u.1 u.2.1 u.2.2) (cB (dC, dI) (kT cyB cyI cyJ cyP) (va_A (qgh a0 jaX jaF jaD jbx jcP jb8 jbh jaY jap jaW jal jam jax jao ja6 jaV ja8 jae jag jaf ja0 ja4 jaP jaw jaI jaZ jaH jaS jan jaU jaE jar jaL jah jaB jaa jaz jaG jab ja2 z0_s jaq jai jaO jaA jat jau jav jaj jas jaJ jak jad jay jac jaW cyI jbC) sz) (fun u : Int32 × Int32 × Int32 => ((qgh a0 jaX jaF jaD jbx u.1 u.2.1 u.2.2 jaY jap jaW jal jam jax jao ja6 jaV ja8 jae jag jaf ja0 ja4 jaP jaw jaI jaZ jaH jaS jan jaU jaE jar jaL jah jaB jaa jaz jaG jab ja2 z0_s jaq jai jaO jaA jat jau jav jaj jas jaJ jak jad jay jac jaW cyI jbC) : va_W))) (va_A (qgh a0 jaX jaF jaD jbx jcP jb8 jbh jaY jap jaW jal jam jax jao ja6 jaV ja8 jae jag jaf ja0 ja4 jaP jaw jaI jaZ jaH jaS jan jaU jaE jar jaL jah jaB jaa jaz jaG jab ja2 z0_s jaq jai jaO jaA jat jau jav jaj jas jaJ jak jad jay jac jaW cyI jbC) sz)) 0 0 (va_A (qgh a0 jaX jaF jaD jbx jcP jb8 jbh jaY jap jaW jal jam jax jao ja6 jaV ja8 jae jag jaf ja0 ja4 jaP jaw jaI jaZ jaH jaS jan jaU jaE jar jaL jah jaB jaa jaz jaG jab ja2 z0_s jaq jai jaO jaA jat jau jav jaj jas jaJ jak jad jay jac jaW cyI jbC) sz) := by
  refine Met.ofW (cc := cX11_sign) (maxL := 2) (ret := none) (by decide) rfl ?_
  intro p e s m args below meth c s₁ B hml hv
  obtain ⟨rfl, hsz, hP, hK, hD0, hNw⟩ := hv
  have hx := B.exec
  have hb := B.bytes
  have hr := B.returns
  have hts := atoms_spec (ws := wsX11_sign) B.pre
  have hown : s.vm.findClass RX11 = some m.cls := findClass_of_methodNamed B.named
  have hlocks := B.notSynchronized
  subst hsz
  have hD := hD0.self (sz := s.heap.size)
  generalize hAe : va_A (qgh a0 jaX jaF jaD jbx jcP jb8 jbh jaY jap jaW jal jam jax jao ja6 jaV ja8 jae jag jaf ja0 ja4 jaP jaw jaI jaZ jaH jaS jan jaU jaE jar jaL jah jaB jaa jaz jaG jab ja2 z0_s jaq jai jaO jaA jat jau jav jaj jas jaJ jak jad jay jac jaW cyI jbC) s.heap.size = A at hD ⊢
  have hA : ∀ q : Nat, s.heap.size ≤ q → A q := fun q h => by rw [← hAe]; exact Or.inr h
  have hS : va_S A s.heap s.heap [] := va_S.rf
  have hP : va_P (dC, dI) vwCl (qgh a0 jaX jaF jaD jbx jcP jb8 jbh jaY jap jaW jal jam jax jao ja6 jaV ja8 jae jag jaf ja0 ja4 jaP jaw jaI jaZ jaH jaS jan jaU jaE jar jaL jah jaB jaa jaz jaG jab ja2 z0_s jaq jai jaO jaA jat jau jav jaj jas jaJ jak jad jay jac jaW cyI jbC) s.heap := hP
  have hl := lv_entry ([.ref a0, .int p1]) (n := 2) (nbq rfl)
  rw [lg_entry_eq]
  generalize (lg_sl ([.ref a0, .int p1]) ++ List.replicate (2 - (lg_sl ([.ref a0, .int p1])).length) Slot.unset).toArray = ls at hl ⊢
  have hl : lv_has ls 2 [(0, .ref a0), (1, .int p1)] := hl
  have C0 : cfx p s m _ meth c cX11_sign none wsX11_sign RX11 2 A (dC, dI) (kT cyB cyI cyJ cyP) := ⟨hx, hb, hr, hts, hown, hlocks, hml, hA, hK, hNw⟩
  clear hAe
  obtain ⟨H, hH⟩ : ∃ H, H = s.heap := ⟨_, rfl⟩
  rw [← hH] at hP ⊢
  have hS : va_S A s.heap H [] := by rw [hH]; exact va_S.rf
  have hS := hS
  refine lv_aload_n hx hb (qaa qlJ 0 rfl) rfl (lv_at hl 0 rfl) ?_
  obtain ⟨hCc, hPc, hDc, hFc⟩ := qac (ws' := (qLW a0 jaX jaF jaD jbx jcP jb8 jbh jaY jap jaW jal jam jax jao ja6 jaV ja8 jae jag jaf ja0 ja4 jaP jaw jaI jaZ jaH jaS jan jaU jaE jar jaL jah jaB jaa jaz jaG jab ja2 z0_s jaq jai jaO jaA jat jau jav jaj jas jaJ jak jad jay jac)) hP hD hS hA [0] (by decide +kernel) rfl
  refine va_calli (va_runV (As := []) (rest := []) ⟨hx, hb, hml, hown, hts⟩ (qdQ l dC dI cyB cyI cyJ cyP a0 H.size (jaX) (jaF) (jaD) (.int jbx) (.int jcP) (.int jbh) (jaY) (jap) (.ref jaW) (jal) (jam) (jax) (jao) (ja6) (jaV) (ja8) (jae) (jag) (jaf) (ja0) (ja4) (jaP) (jaw) (jaI) (jaZ) (jaH) (jaS) (jan) (jaU) (jaE) (jar) (jaL) (jah) (jaB) (jaa) (jaz) (jaG) (jab) (ja2) (z0_s) (jaq) (jai) (jaO) (jaA) (jat) (jau) (jav) (jaj) (jas) (jaJ) (jak) (jad) (jay) (jac) jb8 hw) (cwV 0 hts gX11_sign_X11_fine rfl rfl rfl (by decide +kernel) ⟨nbq rfl, nbq rfl⟩) ⟨qab, va_recv (q := (RX11, TX11, 55)) hK hPc (ci := 11) (q0 := 0) rfl rfl, qae hPc hK hDc hNw⟩ rfl rfl hl.1 rfl (lv_room (nbq rfl)) (qaa qlJ 1 rfl) ⟨nbq rfl, nbq rfl⟩) hS (fun q _ h => hFc q h) hFc (fun r1 u t H1 locs ht hvm hw hB hz1 hk1 hS => ?_)
  obtain ⟨hP1, hK1, hD1⟩ := hB
  rw [ht] at hP1
  obtain ⟨hP, hD⟩ := qad (wr := (qal3 jaW cyI jbC)) (w1 := (qLW a0 jaX jaF jaD jbx jcP jb8 jbh jaY jap jaW jal jam jax jao ja6 jaV ja8 jae jag jaf ja0 ja4 jaP jaw jaI jaZ jaH jaS jan jaU jaE jar jaL jah jaB jaa jaz jaG jab ja2 z0_s jaq jai jaO jaA jat jau jav jaj jas jaJ jak jad jay jac)) (wn := (qgh a0 jaX jaF jaD jbx jcP jb8 jbh jaY jap jaW jal jam jax jao ja6 jaV ja8 jae jag jaf ja0 ja4 jaP jaw jaI jaZ jaH jaS jan jaU jaE jar jaL jah jaB jaa jaz jaG jab ja2 z0_s jaq jai jaO jaA jat jau jav jaj jas jaJ jak jad jay jac jaW cyI jbC)) hP hD [0] [1] [1, 0] hCc rfl (by decide +kernel) (by decide +kernel) (by decide +kernel) rfl hk1 hFc hP1 hD1
  generalize H1 = H at hP hS ⊢
  refine lv_if_eq (tgt := 24) hx hb (qaa qlJ 2 rfl) (by decide) (fun c2 => ?_) (fun c2 => ?_)
  · have hw := hw.1 c2
    exact qUz dC dI cyB cyI cyJ cyP a0 jaW jaX jaF jaD jaY jap jal jam jax jao ja6 jaV ja8 jae jag jaf ja0 ja4 jaP jaw jaI jaZ jaH jaS jan jaU jaE jar jaL jah jaB jaa jaz jaG jab ja2 z0_s jaq jai jaO jaA jat jau jav jaj jas jaJ jak jad jay jac jbx jbC Q C0 _ _ _ jcP jb8 jbh hP hD hS (lv_sub hl [0] rfl) hw
  · have hw := hw.2 c2
    refine lv_aload_n hx hb (qaa qlJ 3 rfl) rfl (lv_at hl 0 rfl) ?_
    obtain ⟨hCc, hPc, hDc, hFc⟩ := qac (ws' := (qgh a0 jaX jaF jaD jbx jcP jb8 jbh jaY jap jaW jal jam jax jao ja6 jaV ja8 jae jag jaf ja0 ja4 jaP jaw jaI jaZ jaH jaS jan jaU jaE jar jaL jah jaB jaa jaz jaG jab ja2 z0_s jaq jai jaO jaA jat jau jav jaj jas jaJ jak jad jay jac jaW cyI jbC)) hP hD hS hA [0, 1] (by decide +kernel) rfl
    refine va_calli (va_runV (As := []) (rest := []) ⟨hx, hb, hml, hown, hts⟩ (qeS l dC dI cyB cyI cyJ cyP a0 jaW H.size (jaX) (jaF) (jaD) (.int jb8) (.int jbh) (jaY) (jap) (jal) (jam) (jax) (jao) (ja6) (jaV) (ja8) (jae) (jag) (jaf) (ja0) (ja4) (jaP) (jaw) (jaI) (jaZ) (jaH) (jaS) (jan) (jaU) (jaE) (jar) (jaL) (jah) (jaB) (jaa) (jaz) (jaG) (jab) (ja2) (z0_s) (jaq) (jai) (jaO) (jaA) (jat) (jau) (jav) (jaj) (jas) (jaJ) (jak) (jad) (jay) (jac) jbx jbC jcP hw) (cwV 0 hts gX11_sign_X11_here rfl rfl rfl (by decide +kernel) ⟨nbq rfl, nbq rfl⟩) ⟨qab, va_recv (q := (RX11, TX11, 55)) hK hPc (ci := 11) (q0 := 0) rfl rfl, qae hPc hK hDc hNw⟩ rfl rfl hl.1 rfl (lv_room (nbq rfl)) (qaa qlJ 4 rfl) ⟨nbq rfl, nbq rfl⟩) hS (fun q _ h => hFc q h) hFc (fun r4 u t H1 locs ht hvm hw hB hz1 hk1 hS => ?_)
    obtain ⟨x3, rfl⟩ : ∃ z, z = u := ⟨_, rfl⟩
    obtain ⟨hP1, hK1, hD1⟩ := hB
    rw [ht] at hP1
    obtain ⟨hP, hD⟩ := qah (wr := []) (w1 := (qgh a0 jaX jaF jaD jbx x3 jb8 jbh jaY jap jaW jal jam jax jao ja6 jaV ja8 jae jag jaf ja0 ja4 jaP jaw jaI jaZ jaH jaS jan jaU jaE jar jaL jah jaB jaa jaz jaG jab ja2 z0_s jaq jai jaO jaA jat jau jav jaj jas jaJ jak jad jay jac jaW cyI jbC)) (wn := (qgh a0 jaX jaF jaD jbx x3 jb8 jbh jaY jap jaW jal jam jax jao ja6 jaV ja8 jae jag jaf ja0 ja4 jaP jaw jaI jaZ jaH jaS jan jaU jaE jar jaL jah jaB jaa jaz jaG jab ja2 z0_s jaq jai jaO jaA jat jau jav jaj jas jaJ jak jad jay jac jaW cyI jbC)) hP hD [0, 1] [] hCc rfl (by decide +kernel) (by decide +kernel) rfl hk1 hFc hP1 hD1
    generalize H1 = H at hP hS ⊢
    refine lv_iload_n hx hb (qaa qlJ 5 rfl) rfl (lv_at hl 1 rfl) ?_
    refine lv_icmp_eq (tgt := 24) hx hb (qaa qlJ 6 rfl) (by decide) (fun c5 => ?_) (fun c5 => ?_)
    · have hw := hw.1 c5
      exact qUz dC dI cyB cyI cyJ cyP a0 jaW jaX jaF jaD jaY jap jal jam jax jao ja6 jaV ja8 jae jag jaf ja0 ja4 jaP jaw jaI jaZ jaH jaS jan jaU jaE jar jaL jah jaB jaa jaz jaG jab ja2 z0_s jaq jai jaO jaA jat jau jav jaj jas jaJ jak jad jay jac jbx jbC Q C0 _ _ _ x3 jb8 jbh hP hD hS (lv_sub hl [0] rfl) hw
    · have hw := hw.2 c5
      refine lv_aload_n hx hb (qaa qlJ 7 rfl) rfl (lv_at hl 0 rfl) ?_
      refine lv_iconst (v := 1) hx hb (qaa qlJ 8 rfl) (by decide) ?_
      refine lv_aload_n hx hb (qaa qlJ 9 rfl) rfl (lv_at hl 0 rfl) ?_
      refine va_get (D := (dC, dI)) (ci := 11) (v := .int x3) (C := RX11) (T := TX11) (N := 55) hx hb hts qPu hown hK hP 0 rfl rfl 4 (by decide) (hts _ qMa) (fun _ h9 => h9) rfl (qaa qlJ 10 rfl) ?_
      obtain ⟨hCc, hPc, hDc, hFc⟩ := qac (ws' := (qLW a0 jaX jaF jaD jbx x3 jb8 jbh jaY jap jaW jal jam jax jao ja6 jaV ja8 jae jag jaf ja0 ja4 jaP jaw jaI jaZ jaH jaS jan jaU jaE jar jaL jah jaB jaa jaz jaG jab ja2 z0_s jaq jai jaO jaA jat jau jav jaj jas jaJ jak jad jay jac)) hP hD hS hA [0] (by decide +kernel) rfl
      refine va_callv (va_runV (As := [.int 1, .int x3]) (rest := []) ⟨hx, hb, hml, hown, hts⟩ (qrt l dC dI cyB cyI cyJ cyP a0 H.size (jaX) (jaF) (jaD) (.int jbx) (.int x3) (jaY) (jap) (.ref jaW) (jal) (jam) (jax) (jao) (ja6) (jaV) (ja8) (jae) (jag) (jaf) (ja0) (ja4) (jaP) (jaw) (jaI) (jaZ) (jaH) (jaS) (jan) (jaU) (jaE) (jar) (jaL) (jah) (jaB) (jaa) (jaz) (jaG) (jab) (ja2) (z0_s) (jaq) (jai) (jaO) (jaA) (jat) (jau) (jav) (jaj) (jas) (jaJ) (jak) (jad) (jay) (jac) jb8 jbh 1 x3 hw) (cwV 2 hts gX11_sign_X11_wrong rfl rfl rfl (by decide +kernel) ⟨nbq rfl, nbq rfl⟩) ⟨qab, va_recv (q := (RX11, TX11, 55)) hK hPc (ci := 11) (q0 := 0) rfl rfl, qae hPc hK hDc hNw⟩ rfl rfl hl.1 rfl (lv_room (nbq rfl)) (qaa qlJ 11 rfl) ⟨nbq rfl, nbq rfl⟩) hS (fun q _ h => hFc q h) hFc (fun u t H1 locs ht hvm hw hB hz1 hk1 hS => ?_)
      obtain ⟨x6, x7⟩ := u
      obtain ⟨hP1, hK1, hD1⟩ := hB
      rw [ht] at hP1
      obtain ⟨hP, hD⟩ := qad (wr := (qal3 jaW cyI jbC)) (w1 := (qLW a0 jaX jaF jaD jbx x3 x6 x7 jaY jap jaW jal jam jax jao ja6 jaV ja8 jae jag jaf ja0 ja4 jaP jaw jaI jaZ jaH jaS jan jaU jaE jar jaL jah jaB jaa jaz jaG jab ja2 z0_s jaq jai jaO jaA jat jau jav jaj jas jaJ jak jad jay jac)) (wn := (qgh a0 jaX jaF jaD jbx x3 x6 x7 jaY jap jaW jal jam jax jao ja6 jaV ja8 jae jag jaf ja0 ja4 jaP jaw jaI jaZ jaH jaS jan jaU jaE jar jaL jah jaB jaa jaz jaG jab ja2 z0_s jaq jai jaO jaA jat jau jav jaj jas jaJ jak jad jay jac jaW cyI jbC)) hP hD [0] [1] [1, 0] hCc rfl (by decide +kernel) (by decide +kernel) (by decide +kernel) rfl hk1 hFc hP1 hD1
      generalize H1 = H at hP hS ⊢
      exact qUz dC dI cyB cyI cyJ cyP a0 jaW jaX jaF jaD jaY jap jal jam jax jao ja6 jaV ja8 jae jag jaf ja0 ja4 jaP jaw jaI jaZ jaH jaS jan jaU jaE jar jaL jah jaB jaa jaz jaG jab ja2 z0_s jaq jai jaO jaA jat jau jav jaj jas jaJ jak jad jay jac jbx jbC Q C0 _ _ _ x3 x6 x7 hP hD hS (lv_sub hl [0] rfl) hw
theorem qJP : ∀ w ∈ u_ws RX11 TX11 55, w ∈ wsX11_result := uiM qGk qga (by decide +kernel)
theorem qag0 : (.fieldLink RX11 114 "MarchHaresModel" "bad" "I" : Cond) ∈ wsX11_result := qGk 1104 (by decide +kernel)
theorem qaf7 : (.fieldLink RX11 117 "MarchHaresModel" "badKind" "I" : Cond) ∈ wsX11_result := qGk 1226 (by decide +kernel)
theorem qal6 : (.fieldLink RX11 17 "MarchHaresModel" "faultAt" "I" : Cond) ∈ wsX11_result := qGk 399 (by decide +kernel)
set_option maxHeartbeats 4000000 in
set_option maxRecDepth 100000 in
theorem qIS (l : Launch) (dC : Nat → ClassId) (dI : Nat → Nat → Nat) (cyB cyI cyJ cyP : ClassId) (a0 sz : Nat) (jaX jaF jaD ja7 jby jaY jaK jal jam jax jao ja6 jaV ja8 jae jag jaf ja0 ja4 jaP jaw jaI jaZ jaH jaS jan jaU jaE jar jaL jah jaB jaa jaz jaG jab ja2 z0_s jaq jai jaO jaA jat jau jav jaj jas jaJ jak jad jay jac : Value) (jb8 jbh jgm p1 : Int32) {Q : Int32 → Int32 → Prop} (hw : qtG jb8 jbh jgm p1 Q) : Met l yX11_result wsX11_result ({ frames := 1, cells := 0, slots := 0, locals := 20 }) (va_Pc [.ref a0, .int p1] (cPc (dC, dI) (kT cyB cyI cyJ cyP) (qMQ a0 jaX jaF jaD ja7 jby jb8 jbh jaY jgm jaK jal jam jax jao ja6 jaV ja8 jae jag jaf ja0 ja4 jaP jaw jaI jaZ jaH jaS jan jaU jaE jar jaL jah jaB jaa jaz jaG jab ja2 z0_s jaq jai jaO jaA jat jau jav jaj jas jaJ jak jad jay jac) sz)) (va_Qi (fun (r u : Int32) => Q r u) (cB (dC, dI) (kT cyB cyI cyJ cyP) (va_A (qMQ a0 jaX jaF jaD ja7 jby jb8 jbh jaY jgm jaK jal jam jax jao ja6 jaV ja8 jae jag jaf ja0 ja4 jaP jaw jaI jaZ jaH jaS jan jaU jaE jar jaL jah jaB jaa jaz jaG jab ja2 z0_s jaq jai jaO jaA jat jau jav jaj jas jaJ jak jad jay jac) sz) (fun u : Int32 => ((qMQ a0 jaX jaF jaD ja7 jby jb8 jbh jaY u jaK jal jam jax jao ja6 jaV ja8 jae jag jaf ja0 ja4 jaP jaw jaI jaZ jaH jaS jan jaU jaE jar jaL jah jaB jaa jaz jaG jab ja2 z0_s jaq jai jaO jaA jat jau jav jaj jas jaJ jak jad jay jac) : va_W))) (va_A (qMQ a0 jaX jaF jaD ja7 jby jb8 jbh jaY jgm jaK jal jam jax jao ja6 jaV ja8 jae jag jaf ja0 ja4 jaP jaw jaI jaZ jaH jaS jan jaU jaE jar jaL jah jaB jaa jaz jaG jab ja2 z0_s jaq jai jaO jaA jat jau jav jaj jas jaJ jak jad jay jac) sz)) 0 0 (va_A (qMQ a0 jaX jaF jaD ja7 jby jb8 jbh jaY jgm jaK jal jam jax jao ja6 jaV ja8 jae jag jaf ja0 ja4 jaP jaw jaI jaZ jaH jaS jan jaU jaE jar jaL jah jaB jaa jaz jaG jab ja2 z0_s jaq jai jaO jaA jat jau jav jaj jas jaJ jak jad jay jac) sz) := by
  refine Met.ofW (cc := cX11_result) (maxL := 2) (ret := (some .int)) (by decide) rfl ?_
  intro p e s m args below meth c s₁ B hml hv
  obtain ⟨rfl, hsz, hP, hK, hD0, hNw⟩ := hv
  have hx := B.exec
  have hb := B.bytes
  have hr := B.returns
  have hts := atoms_spec (ws := wsX11_result) B.pre
  have hown : s.vm.findClass RX11 = some m.cls := findClass_of_methodNamed B.named
  have hlocks := B.notSynchronized
  subst hsz
  have hD := hD0.self (sz := s.heap.size)
  generalize hAe : va_A (qMQ a0 jaX jaF jaD ja7 jby jb8 jbh jaY jgm jaK jal jam jax jao ja6 jaV ja8 jae jag jaf ja0 ja4 jaP jaw jaI jaZ jaH jaS jan jaU jaE jar jaL jah jaB jaa jaz jaG jab ja2 z0_s jaq jai jaO jaA jat jau jav jaj jas jaJ jak jad jay jac) s.heap.size = A at hD ⊢
  have hA : ∀ q : Nat, s.heap.size ≤ q → A q := fun q h => by rw [← hAe]; exact Or.inr h
  have hS : va_S A s.heap s.heap [] := va_S.rf
  have hP : va_P (dC, dI) vwCl (qMQ a0 jaX jaF jaD ja7 jby jb8 jbh jaY jgm jaK jal jam jax jao ja6 jaV ja8 jae jag jaf ja0 ja4 jaP jaw jaI jaZ jaH jaS jan jaU jaE jar jaL jah jaB jaa jaz jaG jab ja2 z0_s jaq jai jaO jaA jat jau jav jaj jas jaJ jak jad jay jac) s.heap := hP
  have hl := lv_entry ([.ref a0, .int p1]) (n := 2) (nbq rfl)
  rw [lg_entry_eq]
  generalize (lg_sl ([.ref a0, .int p1]) ++ List.replicate (2 - (lg_sl ([.ref a0, .int p1])).length) Slot.unset).toArray = ls at hl ⊢
  have hl : lv_has ls 2 [(0, .ref a0), (1, .int p1)] := hl
  have C0 : cfx p s m _ meth c cX11_result (some .int) wsX11_result RX11 2 A (dC, dI) (kT cyB cyI cyJ cyP) := ⟨hx, hb, hr, hts, hown, hlocks, hml, hA, hK, hNw⟩
  clear hAe
  obtain ⟨H, hH⟩ : ∃ H, H = s.heap := ⟨_, rfl⟩
  rw [← hH] at hP ⊢
  have hS : va_S A s.heap H [] := by rw [hH]; exact va_S.rf
  have hS := hS
  refine lv_aload_n hx hb (qaa qin 0 rfl) rfl (lv_at hl 0 rfl) ?_
  refine lv_aload_n hx hb (qaa qin 1 rfl) rfl (lv_at hl 0 rfl) ?_
  refine va_get (D := (dC, dI)) (ci := 11) (v := .int jb8) (C := RX11) (T := TX11) (N := 55) hx hb hts qJP hown hK hP 0 rfl rfl 5 (by decide) (hts _ qag0) (fun _ h9 => h9) rfl (qaa qin 2 rfl) ?_
  refine va_put (D := (dC, dI)) (ci := 11) (v := .int jb8) (ty := .int) (C := RX11) (T := TX11) (N := 55) hx hb hts qJP tyX11 tyX11_ok nmX11 hown hK hP hD hS 0 rfl rfl 8 (by decide) (hts _ qal6) (fun _ h9 => h9) rfl (by decide +kernel) rfl rfl (nbq rfl) (qaa qin 3 rfl) (fun H locs hP hD hS => ?_)
  have hP : va_P (dC, dI) vwCl (qMQ a0 jaX jaF jaD ja7 jby jb8 jbh jaY jb8 jaK jal jam jax jao ja6 jaV ja8 jae jag jaf ja0 ja4 jaP jaw jaI jaZ jaH jaS jan jaU jaE jar jaL jah jaB jaa jaz jaG jab ja2 z0_s jaq jai jaO jaA jat jau jav jaj jas jaJ jak jad jay jac) H := hP
  have hD : va_D A (qMQ a0 jaX jaF jaD ja7 jby jb8 jbh jaY jb8 jaK jal jam jax jao ja6 jaV ja8 jae jag jaf ja0 ja4 jaP jaw jaI jaZ jaH jaS jan jaU jaE jar jaL jah jaB jaa jaz jaG jab ja2 z0_s jaq jai jaO jaA jat jau jav jaj jas jaJ jak jad jay jac) := hD
  refine lv_aload_n hx hb (qaa qin 4 rfl) rfl (lv_at hl 0 rfl) ?_
  obtain ⟨hCc, hPc, hDc, hFc⟩ := qac (ws' := (qMQ a0 jaX jaF jaD ja7 jby jb8 jbh jaY jb8 jaK jal jam jax jao ja6 jaV ja8 jae jag jaf ja0 ja4 jaP jaw jaI jaZ jaH jaS jan jaU jaE jar jaL jah jaB jaa jaz jaG jab ja2 z0_s jaq jai jaO jaA jat jau jav jaj jas jaJ jak jad jay jac)) hP hD hS hA [0] (by decide +kernel) rfl
  refine va_calli (va_runV (As := []) (rest := []) ⟨hx, hb, hml, hown, hts⟩ (qdQ l dC dI cyB cyI cyJ cyP a0 H.size (jaX) (jaF) (jaD) (ja7) (jby) (.int jbh) (jaY) (.int jb8) (jaK) (jal) (jam) (jax) (jao) (ja6) (jaV) (ja8) (jae) (jag) (jaf) (ja0) (ja4) (jaP) (jaw) (jaI) (jaZ) (jaH) (jaS) (jan) (jaU) (jaE) (jar) (jaL) (jah) (jaB) (jaa) (jaz) (jaG) (jab) (ja2) (z0_s) (jaq) (jai) (jaO) (jaA) (jat) (jau) (jav) (jaj) (jas) (jaJ) (jak) (jad) (jay) (jac) jb8 hw) (cwV 0 hts gX11_result_X11_fine rfl rfl rfl (by decide +kernel) ⟨nbq rfl, nbq rfl⟩) ⟨qab, va_recv (q := (RX11, TX11, 55)) hK hPc (ci := 11) (q0 := 0) rfl rfl, qae hPc hK hDc hNw⟩ rfl rfl hl.1 rfl (lv_room (nbq rfl)) (qaa qin 5 rfl) ⟨nbq rfl, nbq rfl⟩) hS (fun q _ h => hFc q h) hFc (fun r1 u t H1 locs ht hvm hw hB hz1 hk1 hS => ?_)
  obtain ⟨hP1, hK1, hD1⟩ := hB
  rw [ht] at hP1
  obtain ⟨hP, hD⟩ := qah (wr := []) (w1 := (qMQ a0 jaX jaF jaD ja7 jby jb8 jbh jaY jb8 jaK jal jam jax jao ja6 jaV ja8 jae jag jaf ja0 ja4 jaP jaw jaI jaZ jaH jaS jan jaU jaE jar jaL jah jaB jaa jaz jaG jab ja2 z0_s jaq jai jaO jaA jat jau jav jaj jas jaJ jak jad jay jac)) (wn := (qMQ a0 jaX jaF jaD ja7 jby jb8 jbh jaY jb8 jaK jal jam jax jao ja6 jaV ja8 jae jag jaf ja0 ja4 jaP jaw jaI jaZ jaH jaS jan jaU jaE jar jaL jah jaB jaa jaz jaG jab ja2 z0_s jaq jai jaO jaA jat jau jav jaj jas jaJ jak jad jay jac)) hP hD [0] [] hCc rfl (by decide +kernel) (by decide +kernel) rfl hk1 hFc hP1 hD1
  generalize H1 = H at hP hS ⊢
  refine lv_if_eq (tgt := 19) hx hb (qaa qin 6 rfl) (by decide) (fun c2 => ?_) (fun c2 => ?_)
  · have hw := hw.1 c2
    refine lv_aload_n hx hb (qaa qin 9 rfl) rfl (lv_at hl 0 rfl) ?_
    refine va_get (D := (dC, dI)) (ci := 11) (v := .int jbh) (C := RX11) (T := TX11) (N := 55) hx hb hts qJP hown hK hP 0 rfl rfl 6 (by decide) (hts _ qaf7) (fun _ h9 => h9) rfl (qaa qin 10 rfl) ?_
    refine lv_bipush (v := 10) hx hb (qaa qin 11 rfl) (by decide) ?_
    refine lv_isub hx hb (qaa qin 12 rfl) ?_
    exact ((W.iret (v := (jbh - 10)) hx hb hr (fun t ht hW => ⟨⟨(jbh - 10), (jb8), rfl, hw, by rw [ht]; exact hP, va_K.moved hW.alike hK, hD⟩, hS.F ht⟩) hS.2.2 (qaa qin 13 rfl)))
  · have hw := hw.2 c2
    refine lv_iload_n hx hb (qaa qin 7 rfl) rfl (lv_at hl 1 rfl) ?_
    refine lv_goto (tgt := 26) hx hb (qaa qin 8 rfl) (by decide) ?_
    exact ((W.iret (v := p1) hx hb hr (fun t ht hW => ⟨⟨p1, (jb8), rfl, hw, by rw [ht]; exact hP, va_K.moved hW.alike hK, hD⟩, hS.F ht⟩) hS.2.2 (qaa qin 13 rfl)))
theorem qoZ : ∀ w ∈ u_ws RX11 TX11 55, w ∈ wsX11_book := uiM qgo qga (by decide +kernel)
theorem qatn : (.fieldLink RX11 111 "MarchHaresModel" "taped" "I" : Cond) ∈ wsX11_book := qgo 590 (by decide +kernel)
theorem qarK : (.fieldLink RX11 114 "MarchHaresModel" "bad" "I" : Cond) ∈ wsX11_book := qgo 1104 (by decide +kernel)
theorem qauB : (.fieldLink RX11 120 "MarchHaresModel" "at" "I" : Cond) ∈ wsX11_book := qgo 1103 (by decide +kernel)
theorem qar6 : (.fieldLink RX11 166 "MarchHaresModel" "forms" "I" : Cond) ∈ wsX11_book := qgo 519 (by decide +kernel)
theorem qarB : (.fieldLink RX11 182 "MarchHaresModel" "books" "I" : Cond) ∈ wsX11_book := qgo 523 (by decide +kernel)
theorem qaIR : (.fieldLink RX11 3 "MarchHaresModel" "thrown" "I" : Cond) ∈ wsX11_book := qgo 589 (by decide +kernel)
theorem qI6 : (.fieldLink RX11 77 "MarchHaresModel" "newBook" "[I" : Cond) ∈ wsX11_book := qgo 459 (by decide +kernel)
theorem qaxJ : (.fieldLink RX11 80 "MarchHaresModel" "book" "[I" : Cond) ∈ wsX11_book := qgo 460 (by decide +kernel)
set_option maxHeartbeats 4000000 in
set_option maxRecDepth 100000 in
theorem qQN {p : Program} {l : Launch} {e : Env} {s : State} {m : MethodId} {args : Array Value} {below : List Frame} {meth : Method} {c : Code} {A : Nat → Prop} (dC : Nat → ClassId) (dI : Nat → Nat → Nat) (cyB cyI cyJ cyP : ClassId) (a0 jaQ jjr jaW jdj : Nat) (jal jam jax jao ja6 jaV ja8 jae jag jaf ja4 jaP jaw jaI jaZ jaH jaS jan jaU jaE jar jaL jah jaB jaa jaz jaG jab ja2 z0_s jaq jat jau jav jaj jas jaJ jak jad jay jac : Value) (jaN : Int32) (jbC : NI) (Q : Int32 → Int32 → NI → Int32 → Int32 → Int32 → Int32 → Int32 → Int32 → NI → Int32 → Int32 → NI → Prop) (C0 : cfx p s m args meth c cX11_book (some .int) wsX11_book RX11 6 A (dC, dI) (kT cyB cyI cyJ cyP)) : ∀ (H : Heap) (locs : List Loc) (ls : Array Slot) (jbd : Int32) (ja9 : NI) (jgt jgm jbx jcP jb8 jbK : Int32) (jlJ : NI) (jbh jh9 : Int32) (jgu : NI) (l2 : Int32), va_P (dC, dI) vwCl (qh4 a0 jbd jaQ jgt jbx jcP jb8 jbh jbK jgm jaW jal jam jax jao ja6 jaV ja8 jae jag jaf jaN ja4 jaP jaw jaI jaZ jaH jaS jan jaU jaE jar jaL jah jaB jaa jaz jaG jab ja2 z0_s jaq jjr jdj jh9 jat jau jav jaj jas jaJ jak jad jay jac jaQ cyI ja9 jjr cyI jlJ jaW cyI jbC jdj cyI jgu) H → va_D A (qh4 a0 jbd jaQ jgt jbx jcP jb8 jbh jbK jgm jaW jal jam jax jao ja6 jaV ja8 jae jag jaf jaN ja4 jaP jaw jaI jaZ jaH jaS jan jaU jaE jar jaL jah jaB jaa jaz jaG jab ja2 z0_s jaq jjr jdj jh9 jat jau jav jaj jas jaJ jak jad jay jac jaQ cyI ja9 jjr cyI jlJ jaW cyI jbC jdj cyI jgu) → va_S A s.heap H locs → lv_has ls 6 [(0, .ref a0), (2, .int l2)] → qt5 jaN jbC Q jbd ja9 jgt jgm jbx jcP jb8 jbK jlJ jbh jh9 jgu l2 → W p l e (headSpec wsX11_book ({ frames := 2, cells := 0, slots := 0, locals := 47 })).room s m args below meth c H locs 0 0 (MQ below (va_Qi (fun (r : Int32) (u : Int32 × NI × Int32 × Int32 × Int32 × Int32 × Int32 × Int32 × NI × Int32 × Int32 × NI) => Q r u.1 u.2.1 u.2.2.1 u.2.2.2.1 u.2.2.2.2.1 u.2.2.2.2.2.1 u.2.2.2.2.2.2.1 u.2.2.2.2.2.2.2.1 u.2.2.2.2.2.2.2.2.1 u.2.2.2.2.2.2.2.2.2.1 u.2.2.2.2.2.2.2.2.2.2.1 u.2.2.2.2.2.2.2.2.2.2.2) (cB (dC, dI) (kT cyB cyI cyJ cyP) A (fun u : Int32 × NI × Int32 × Int32 × Int32 × Int32 × Int32 × Int32 × NI × Int32 × Int32 × NI => ((qh4 a0 u.1 jaQ u.2.2.1 u.2.2.2.2.1 u.2.2.2.2.2.1 u.2.2.2.2.2.2.1 u.2.2.2.2.2.2.2.2.2.1 u.2.2.2.2.2.2.2.1 u.2.2.2.1 jaW jal jam jax jao ja6 jaV ja8 jae jag jaf jaN ja4 jaP jaw jaI jaZ jaH jaS jan jaU jaE jar jaL jah jaB jaa jaz jaG jab ja2 z0_s jaq jjr jdj u.2.2.2.2.2.2.2.2.2.2.1 jat jau jav jaj jas jaJ jak jad jay jac jaQ cyI u.2.1 jjr cyI u.2.2.2.2.2.2.2.2.1 jaW cyI jbC jdj cyI u.2.2.2.2.2.2.2.2.2.2.2) : va_W))) A) args s 0 0 A) (F0 m 168 ls []) := by
  obtain ⟨hx, hb, hr, hts, hown, hlocks, hml, hA, hK, hNw⟩ := id C0
  intro H locs ls jbd ja9 jgt jgm jbx jcP jb8 jbK jlJ jbh jh9 jgu l2 hP hD hS hl hw
  refine lv_aload_n hx hb (qaa qgQ 11 rfl) rfl (lv_at hl 0 rfl) ?_
  refine lv_iload_n hx hb (qaa qgQ 12 rfl) rfl (lv_at hl 1 rfl) ?_
  obtain ⟨hCc, hPc, hDc, hFc⟩ := qac (ws' := (qNg a0 jbd jaQ jgt jbx jcP jb8 jbh jbK jgm jaW jal jam jax jao ja6 jaV ja8 jae jag jaf jaN ja4 jaP jaw jaI jaZ jaH jaS jan jaU jaE jar jaL jah jaB jaa jaz jaG jab ja2 z0_s jaq jjr jdj jh9 jat jau jav jaj jas jaJ jak jad jay jac)) hP hD hS hA [0] (by decide +kernel) rfl
  refine va_calli (va_runV (As := [.int l2]) (rest := []) ⟨hx, hb, hml, hown, hts⟩ (qIS l dC dI cyB cyI cyJ cyP a0 H.size (.int jbd) (.ref jaQ) (.int jgt) (.int jbx) (.int jcP) (.int jbK) (.ref jaW) (jal) (jam) (jax) (jao) (ja6) (jaV) (ja8) (jae) (jag) (jaf) (.int jaN) (ja4) (jaP) (jaw) (jaI) (jaZ) (jaH) (jaS) (jan) (jaU) (jaE) (jar) (jaL) (jah) (jaB) (jaa) (jaz) (jaG) (jab) (ja2) (z0_s) (jaq) (.ref jjr) (.ref jdj) (.int jh9) (jat) (jau) (jav) (jaj) (jas) (jaJ) (jak) (jad) (jay) (jac) jb8 jbh jgm l2 hw) (cwV 1 hts gX11_book_X11_result rfl rfl rfl (by decide +kernel) ⟨nbq rfl, nbq rfl⟩) ⟨qab, va_recv (q := (RX11, TX11, 55)) hK hPc (ci := 11) (q0 := 0) rfl rfl, qae hPc hK hDc hNw⟩ rfl rfl hl.1 rfl (lv_room (nbq rfl)) (qaa qgQ 13 rfl) ⟨nbq rfl, nbq rfl⟩) hS (fun q _ h => hFc q h) hFc (fun r35 u t H1 locs ht hvm hw hB hz1 hk1 hS => ?_)
  obtain ⟨x34, rfl⟩ : ∃ z, z = u := ⟨_, rfl⟩
  obtain ⟨hP1, hK1, hD1⟩ := hB
  rw [ht] at hP1
  obtain ⟨hP, hD⟩ := qad (wr := (qanf jaQ cyI ja9 jjr cyI jlJ jaW cyI jbC jdj cyI jgu)) (w1 := (qNg a0 jbd jaQ jgt jbx jcP jb8 jbh jbK x34 jaW jal jam jax jao ja6 jaV ja8 jae jag jaf jaN ja4 jaP jaw jaI jaZ jaH jaS jan jaU jaE jar jaL jah jaB jaa jaz jaG jab ja2 z0_s jaq jjr jdj jh9 jat jau jav jaj jas jaJ jak jad jay jac)) (wn := (qh4 a0 jbd jaQ jgt jbx jcP jb8 jbh jbK x34 jaW jal jam jax jao ja6 jaV ja8 jae jag jaf jaN ja4 jaP jaw jaI jaZ jaH jaS jan jaU jaE jar jaL jah jaB jaa jaz jaG jab ja2 z0_s jaq jjr jdj jh9 jat jau jav jaj jas jaJ jak jad jay jac jaQ cyI ja9 jjr cyI jlJ jaW cyI jbC jdj cyI jgu)) hP hD [0] [1, 2, 3, 4] [4, 0, 1, 2, 3] hCc rfl (by decide +kernel) (by decide +kernel) (by decide +kernel) rfl hk1 hFc hP1 hD1
  generalize H1 = H at hP hS ⊢
  refine lv_istore_n (lv' := [(3, .int r35), (0, .ref a0), (2, .int l2)]) hx hb (qaa qgQ 14 rfl) rfl hl (by decide) rfl (fun ls hl => ?_)
  refine lv_aload_n hx hb (qaa qgQ 15 rfl) rfl (lv_at hl 1 rfl) ?_
  refine va_get (D := (dC, dI)) (ci := 11) (v := .int jb8) (C := RX11) (T := TX11) (N := 55) hx hb hts qoZ hown hK hP 0 rfl rfl 5 (by decide) (hts _ qarK) (fun _ h9 => h9) rfl (qaa qgM 0 rfl) ?_
  refine lv_iconst (v := (-1)) hx hb (qaa qgM 1 rfl) (by decide) ?_
  refine lv_icmp_eq (tgt := 184) hx hb (qaa qgM 2 rfl) (by decide) (fun c36 => ?_) (fun c36 => ?_)
  · have hw := hw.1 c36
    refine lv_aload_n hx hb (qaa qgM 5 rfl) rfl (lv_at hl 1 rfl) ?_
    refine lv_iload_n hx hb (qaa qgM 6 rfl) rfl (lv_at hl 2 rfl) ?_
    refine va_put (D := (dC, dI)) (ci := 11) (v := .int l2) (ty := .int) (C := RX11) (T := TX11) (N := 55) hx hb hts qoZ tyX11 tyX11_ok nmX11 hown hK hP hD hS 0 rfl rfl 44 (by decide) (hts _ qarB) (fun _ h9 => h9) rfl (by decide +kernel) rfl rfl (nbq rfl) (qaa qgM 7 rfl) (fun H locs hP hD hS => ?_)
    have hP : va_P (dC, dI) vwCl (qh4 a0 jbd jaQ jgt jbx jcP jb8 jbh jbK x34 jaW jal jam jax jao ja6 jaV ja8 jae jag jaf jaN ja4 jaP jaw jaI jaZ jaH jaS jan jaU jaE jar jaL jah jaB jaa jaz jaG jab ja2 z0_s jaq jjr jdj l2 jat jau jav jaj jas jaJ jak jad jay jac jaQ cyI ja9 jjr cyI jlJ jaW cyI jbC jdj cyI jgu) H := hP
    have hD : va_D A (qh4 a0 jbd jaQ jgt jbx jcP jb8 jbh jbK x34 jaW jal jam jax jao ja6 jaV ja8 jae jag jaf jaN ja4 jaP jaw jaI jaZ jaH jaS jan jaU jaE jar jaL jah jaB jaa jaz jaG jab ja2 z0_s jaq jjr jdj l2 jat jau jav jaj jas jaJ jak jad jay jac jaQ cyI ja9 jjr cyI jlJ jaW cyI jbC jdj cyI jgu) := hD
    refine lv_aload_n hx hb (qaa qgM 8 rfl) rfl (lv_at hl 1 rfl) ?_
    refine lv_aload_n hx hb (qaa qgM 9 rfl) rfl (lv_at hl 1 rfl) ?_
    refine va_get (D := (dC, dI)) (ci := 11) (v := .ref jjr) (C := RX11) (T := TX11) (N := 55) hx hb hts qoZ hown hK hP 0 rfl rfl 42 (by decide) (hts _ qI6) (fun _ h9 => h9) rfl (qaa qgM 10 rfl) ?_
    refine lv_aload_n hx hb (qaa qgM 11 rfl) rfl (lv_at hl 1 rfl) ?_
    refine va_get (D := (dC, dI)) (ci := 11) (v := .ref jdj) (C := RX11) (T := TX11) (N := 55) hx hb hts qoZ hown hK hP 0 rfl rfl 43 (by decide) (hts _ qaxJ) (fun _ h9 => h9) rfl (qaa qgM 12 rfl) ?_
    refine lv_bipush (v := 8) hx hb (qaa qgM 13 rfl) (by decide) ?_
    obtain ⟨hCc, hPc, hDc, hFc⟩ := qac (ws' := (qa4e a0 jbd jaQ jgt jbx jcP jb8 jbh jbK x34 jaW jal jam jax jao ja6 jaV ja8 jae jag jaf jaN ja4 jaP jaw jaI jaZ jaH jaS jan jaU jaE jar jaL jah jaB jaa jaz jaG jab ja2 z0_s jaq jjr jdj l2 jat jau jav jaj jas jaJ jak jad jay jac jjr cyI jlJ jdj cyI jgu)) hP hD hS hA [0, 2, 4] (by decide +kernel) rfl
    refine va_callv (va_runV (As := [.ref jjr, .ref jdj, .int 8]) (rest := []) ⟨hx, hb, hml, hown, hts⟩ (qu1 l dC dI cyB cyI cyJ cyP a0 jjr jdj H.size (.int jbd) (.ref jaQ) (.int jgt) (.int jbx) (.int jcP) (.int jb8) (.int jbh) (.int jbK) (.int x34) (.ref jaW) (jal) (jam) (jax) (jao) (ja6) (jaV) (ja8) (jae) (jag) (jaf) (.int jaN) (ja4) (jaP) (jaw) (jaI) (jaZ) (jaH) (jaS) (jan) (jaU) (jaE) (jar) (jaL) (jah) (jaB) (jaa) (jaz) (jaG) (jab) (ja2) (z0_s) (jaq) (.ref jjr) (.ref jdj) (.int l2) (jat) (jau) (jav) (jaj) (jas) (jaJ) (jak) (jad) (jay) (jac) 8 8 jlJ jgu 8 hw) (cwV 3 hts gX11_book_X11_copies rfl rfl rfl (by decide +kernel) ⟨nbq rfl, nbq rfl⟩) ⟨qab, va_recv (q := (RX11, TX11, 55)) hK hPc (ci := 11) (q0 := 0) rfl rfl, qae hPc hK hDc hNw⟩ rfl rfl hl.1 rfl (lv_room (nbq rfl)) (qaa qgM 14 rfl) ⟨nbq rfl, nbq rfl⟩) hS (fun q _ h => hFc q h) hFc (fun u t H1 locs ht hvm hw hB hz1 hk1 hS => ?_)
    obtain ⟨f37, rfl⟩ : ∃ z, z = u := ⟨_, rfl⟩
    obtain ⟨hP1, hK1, hD1⟩ := hB
    rw [ht] at hP1
    obtain ⟨hP, hD⟩ := qad (wr := [(jaQ, .inl (cyI, 2, .inl ja9)), (jaW, .inl (cyI, 600, .inl jbC))]) (w1 := (qa4e a0 jbd jaQ jgt jbx jcP jb8 jbh jbK x34 jaW jal jam jax jao ja6 jaV ja8 jae jag jaf jaN ja4 jaP jaw jaI jaZ jaH jaS jan jaU jaE jar jaL jah jaB jaa jaz jaG jab ja2 z0_s jaq jjr jdj l2 jat jau jav jaj jas jaJ jak jad jay jac jjr cyI jlJ jdj cyI f37)) (wn := (qh4 a0 jbd jaQ jgt jbx jcP jb8 jbh jbK x34 jaW jal jam jax jao ja6 jaV ja8 jae jag jaf jaN ja4 jaP jaw jaI jaZ jaH jaS jan jaU jaE jar jaL jah jaB jaa jaz jaG jab ja2 z0_s jaq jjr jdj l2 jat jau jav jaj jas jaJ jak jad jay jac jaQ cyI ja9 jjr cyI jlJ jaW cyI jbC jdj cyI f37)) hP hD [0, 2, 4] [1, 3] [2, 0, 3, 1, 4] hCc rfl (by decide +kernel) (by decide +kernel) (by decide +kernel) rfl hk1 hFc hP1 hD1
    generalize H1 = H at hP hS ⊢
    refine lv_iload_n hx hb (qaa qgM 15 rfl) rfl (lv_at hl 0 rfl) ?_
    exact ((W.iret (v := r35) hx hb hr (fun t ht hW => ⟨⟨r35, (jbd, ja9, jgt, x34, jbx, jcP, jb8, jbK, jlJ, jbh, l2, f37), rfl, hw, by rw [ht]; exact hP, va_K.moved hW.alike hK, hD⟩, hS.F ht⟩) hS.2.2 (qaa qaw1 0 rfl)))
  · have hw := hw.2 c36
    refine lv_iload_n hx hb (qaa qgM 3 rfl) rfl (lv_at hl 0 rfl) ?_
    exact ((W.iret (v := r35) hx hb hr (fun t ht hW => ⟨⟨r35, (jbd, ja9, jgt, x34, jbx, jcP, jb8, jbK, jlJ, jbh, jh9, jgu), rfl, hw, by rw [ht]; exact hP, va_K.moved hW.alike hK, hD⟩, hS.F ht⟩) hS.2.2 (qaa qgM 4 rfl)))
set_option maxHeartbeats 4000000 in
set_option maxRecDepth 100000 in
theorem qRr {p : Program} {l : Launch} {e : Env} {s : State} {m : MethodId} {args : Array Value} {below : List Frame} {meth : Method} {c : Code} {A : Nat → Prop} (dC : Nat → ClassId) (dI : Nat → Nat → Nat) (cyB cyI cyJ cyP : ClassId) (a0 jaQ jjr jaW jdj : Nat) (jal jam jax jao ja6 jaV ja8 jae jag jaf ja4 jaP jaw jaI jaZ jaH jaS jan jaU jaE jar jaL jah jaB jaa jaz jaG jab ja2 z0_s jaq jat jau jav jaj jas jaJ jak jad jay jac : Value) (jaN : Int32) (jbC : NI) (Q : Int32 → Int32 → NI → Int32 → Int32 → Int32 → Int32 → Int32 → Int32 → NI → Int32 → Int32 → NI → Prop) (K67 : Int32 → NI → Int32 → Int32 → Int32 → Int32 → Int32 → Int32 → NI → Int32 → Int32 → NI → Int32 → Prop) (hK67 : ∀ (H : Heap) (locs : List Loc) (ls : Array Slot) (jbd : Int32) (ja9 : NI) (jgt jgm jbx jcP jb8 jbK : Int32) (jlJ : NI) (jbh jh9 : Int32) (jgu : NI) (l2 : Int32), va_P (dC, dI) vwCl (qh4 a0 jbd jaQ jgt jbx jcP jb8 jbh jbK jgm jaW jal jam jax jao ja6 jaV ja8 jae jag jaf jaN ja4 jaP jaw jaI jaZ jaH jaS jan jaU jaE jar jaL jah jaB jaa jaz jaG jab ja2 z0_s jaq jjr jdj jh9 jat jau jav jaj jas jaJ jak jad jay jac jaQ cyI ja9 jjr cyI jlJ jaW cyI jbC jdj cyI jgu) H → va_D A (qh4 a0 jbd jaQ jgt jbx jcP jb8 jbh jbK jgm jaW jal jam jax jao ja6 jaV ja8 jae jag jaf jaN ja4 jaP jaw jaI jaZ jaH jaS jan jaU jaE jar jaL jah jaB jaa jaz jaG jab ja2 z0_s jaq jjr jdj jh9 jat jau jav jaj jas jaJ jak jad jay jac jaQ cyI ja9 jjr cyI jlJ jaW cyI jbC jdj cyI jgu) → va_S A s.heap H locs → lv_has ls 6 [(0, .ref a0), (2, .int l2)] → K67 jbd ja9 jgt jgm jbx jcP jb8 jbK jlJ jbh jh9 jgu l2 → W p l e (headSpec wsX11_book ({ frames := 2, cells := 0, slots := 0, locals := 47 })).room s m args below meth c H locs 0 0 (MQ below (va_Qi (fun (r : Int32) (u : Int32 × NI × Int32 × Int32 × Int32 × Int32 × Int32 × Int32 × NI × Int32 × Int32 × NI) => Q r u.1 u.2.1 u.2.2.1 u.2.2.2.1 u.2.2.2.2.1 u.2.2.2.2.2.1 u.2.2.2.2.2.2.1 u.2.2.2.2.2.2.2.1 u.2.2.2.2.2.2.2.2.1 u.2.2.2.2.2.2.2.2.2.1 u.2.2.2.2.2.2.2.2.2.2.1 u.2.2.2.2.2.2.2.2.2.2.2) (cB (dC, dI) (kT cyB cyI cyJ cyP) A (fun u : Int32 × NI × Int32 × Int32 × Int32 × Int32 × Int32 × Int32 × NI × Int32 × Int32 × NI => ((qh4 a0 u.1 jaQ u.2.2.1 u.2.2.2.2.1 u.2.2.2.2.2.1 u.2.2.2.2.2.2.1 u.2.2.2.2.2.2.2.2.2.1 u.2.2.2.2.2.2.2.1 u.2.2.2.1 jaW jal jam jax jao ja6 jaV ja8 jae jag jaf jaN ja4 jaP jaw jaI jaZ jaH jaS jan jaU jaE jar jaL jah jaB jaa jaz jaG jab ja2 z0_s jaq jjr jdj u.2.2.2.2.2.2.2.2.2.2.1 jat jau jav jaj jas jaJ jak jad jay jac jaQ cyI u.2.1 jjr cyI u.2.2.2.2.2.2.2.2.1 jaW cyI jbC jdj cyI u.2.2.2.2.2.2.2.2.2.2.2) : va_W))) A) args s 0 0 A) (F0 m 67 ls [])) (C0 : cfx p s m args meth c cX11_book (some .int) wsX11_book RX11 6 A (dC, dI) (kT cyB cyI cyJ cyP)) : ∀ (H : Heap) (locs : List Loc) (ls : Array Slot) (jbd : Int32) (ja9 : NI) (jgt jgm jbx jcP jb8 jbK : Int32) (jlJ : NI) (jbh jh9 : Int32) (jgu : NI) (l2 l4 : Int32), va_P (dC, dI) vwCl (qh4 a0 jbd jaQ jgt jbx jcP jb8 jbh jbK jgm jaW jal jam jax jao ja6 jaV ja8 jae jag jaf jaN ja4 jaP jaw jaI jaZ jaH jaS jan jaU jaE jar jaL jah jaB jaa jaz jaG jab ja2 z0_s jaq jjr jdj jh9 jat jau jav jaj jas jaJ jak jad jay jac jaQ cyI ja9 jjr cyI jlJ jaW cyI jbC jdj cyI jgu) H → va_D A (qh4 a0 jbd jaQ jgt jbx jcP jb8 jbh jbK jgm jaW jal jam jax jao ja6 jaV ja8 jae jag jaf jaN ja4 jaP jaw jaI jaZ jaH jaS jan jaU jaE jar jaL jah jaB jaa jaz jaG jab ja2 z0_s jaq jjr jdj jh9 jat jau jav jaj jas jaJ jak jad jay jac jaQ cyI ja9 jjr cyI jlJ jaW cyI jbC jdj cyI jgu) → va_S A s.heap H locs → lv_has ls 6 [(0, .ref a0), (2, .int l2), (4, .int l4)] → qtW jaN jbC Q K67 jbd ja9 jgt jgm jbx jcP jb8 jbK jlJ jbh jh9 jgu l2 l4 → W p l e (headSpec wsX11_book ({ frames := 2, cells := 0, slots := 0, locals := 47 })).room s m args below meth c H locs 0 0 (MQ below (va_Qi (fun (r : Int32) (u : Int32 × NI × Int32 × Int32 × Int32 × Int32 × Int32 × Int32 × NI × Int32 × Int32 × NI) => Q r u.1 u.2.1 u.2.2.1 u.2.2.2.1 u.2.2.2.2.1 u.2.2.2.2.2.1 u.2.2.2.2.2.2.1 u.2.2.2.2.2.2.2.1 u.2.2.2.2.2.2.2.2.1 u.2.2.2.2.2.2.2.2.2.1 u.2.2.2.2.2.2.2.2.2.2.1 u.2.2.2.2.2.2.2.2.2.2.2) (cB (dC, dI) (kT cyB cyI cyJ cyP) A (fun u : Int32 × NI × Int32 × Int32 × Int32 × Int32 × Int32 × Int32 × NI × Int32 × Int32 × NI => ((qh4 a0 u.1 jaQ u.2.2.1 u.2.2.2.2.1 u.2.2.2.2.2.1 u.2.2.2.2.2.2.1 u.2.2.2.2.2.2.2.2.2.1 u.2.2.2.2.2.2.2.1 u.2.2.2.1 jaW jal jam jax jao ja6 jaV ja8 jae jag jaf jaN ja4 jaP jaw jaI jaZ jaH jaS jan jaU jaE jar jaL jah jaB jaa jaz jaG jab ja2 z0_s jaq jjr jdj u.2.2.2.2.2.2.2.2.2.2.1 jat jau jav jaj jas jaJ jak jad jay jac jaQ cyI u.2.1 jjr cyI u.2.2.2.2.2.2.2.2.1 jaW cyI jbC jdj cyI u.2.2.2.2.2.2.2.2.2.2.2) : va_W))) A) args s 0 0 A) (F0 m 128 ls []) := by
  obtain ⟨hx, hb, hr, hts, hown, hlocks, hml, hA, hK, hNw⟩ := id C0
  intro H locs ls jbd ja9 jgt jgm jbx jcP jb8 jbK jlJ jbh jh9 jgu l2 l4 hP hD hS hl hw
  refine lv_aload_n hx hb (qaa qhP 8 rfl) rfl (lv_at hl 0 rfl) ?_
  refine lv_iconst (v := 0) hx hb (qaa qhP 9 rfl) (by decide) ?_
  refine lv_bipush (v := 6) hx hb (qaa qhP 10 rfl) (by decide) ?_
  obtain ⟨hCc, hPc, hDc, hFc⟩ := qac (ws' := (qS1 a0 jbd jaQ jgt jbx jcP jb8 jbh jbK jgm jaW jal jam jax jao ja6 jaV ja8 jae jag jaf jaN ja4 jaP jaw jaI jaZ jaH jaS jan jaU jaE jar jaL jah jaB jaa jaz jaG jab ja2 z0_s jaq jjr jdj jh9 jat jau jav jaj jas jaJ jak jad jay jac jaW cyI jbC)) hP hD hS hA [0, 3] (by decide +kernel) rfl
  refine va_calli (va_runV (As := [.int 0, .int 6]) (rest := []) ⟨hx, hb, hml, hown, hts⟩ (qcA l dC dI cyB cyI cyJ cyP a0 jaW H.size (.int jbd) (.ref jaQ) (.int jgt) (.int jbK) (.int jgm) (jal) (jam) (jax) (jao) (ja6) (jaV) (ja8) (jae) (jag) (jaf) (.int jaN) (ja4) (jaP) (jaw) (jaI) (jaZ) (jaH) (jaS) (jan) (jaU) (jaE) (jar) (jaL) (jah) (jaB) (jaa) (jaz) (jaG) (jab) (ja2) (z0_s) (jaq) (.ref jjr) (.ref jdj) (.int jh9) (jat) (jau) (jav) (jaj) (jas) (jaJ) (jak) (jad) (jay) (jac) jbx jbC jcP jb8 jbh 0 6 hw) (cwV 2 hts gX11_book_X11_readNumber rfl rfl rfl (by decide +kernel) ⟨nbq rfl, nbq rfl⟩) ⟨qab, va_recv (q := (RX11, TX11, 55)) hK hPc (ci := 11) (q0 := 0) rfl rfl, qae hPc hK hDc hNw⟩ rfl rfl hl.1 rfl (lv_room (nbq rfl)) (qaa qhP 11 rfl) ⟨nbq rfl, nbq rfl⟩) hS (fun q _ h => hFc q h) hFc (fun r41 u t H1 locs ht hvm hw hB hz1 hk1 hS => ?_)
  obtain ⟨x38, x39, x40⟩ := u
  obtain ⟨hP1, hK1, hD1⟩ := hB
  rw [ht] at hP1
  obtain ⟨hP, hD⟩ := qad (wr := (qawP jaQ cyI ja9 jjr cyI jlJ jdj cyI jgu)) (w1 := (qS1 a0 jbd jaQ jgt jbx x38 x39 x40 jbK jgm jaW jal jam jax jao ja6 jaV ja8 jae jag jaf jaN ja4 jaP jaw jaI jaZ jaH jaS jan jaU jaE jar jaL jah jaB jaa jaz jaG jab ja2 z0_s jaq jjr jdj jh9 jat jau jav jaj jas jaJ jak jad jay jac jaW cyI jbC)) (wn := (qh4 a0 jbd jaQ jgt jbx x38 x39 x40 jbK jgm jaW jal jam jax jao ja6 jaV ja8 jae jag jaf jaN ja4 jaP jaw jaI jaZ jaH jaS jan jaU jaE jar jaL jah jaB jaa jaz jaG jab ja2 z0_s jaq jjr jdj jh9 jat jau jav jaj jas jaJ jak jad jay jac jaQ cyI ja9 jjr cyI jlJ jaW cyI jbC jdj cyI jgu)) hP hD [0, 3] [1, 2, 4] [3, 0, 1, 4, 2] hCc rfl (by decide +kernel) (by decide +kernel) (by decide +kernel) rfl hk1 hFc hP1 hD1
  generalize H1 = H at hP hS ⊢
  refine lv_istore (lv' := [(5, .int r41), (0, .ref a0), (2, .int l2), (4, .int l4)]) hx hb (qaa qhP 12 rfl) hl (by decide) rfl (fun ls hl => ?_)
  refine lv_aload_n hx hb (qaa qhP 13 rfl) rfl (lv_at hl 1 rfl) ?_
  refine lv_bipush (v := 59) hx hb (qaa qhP 14 rfl) (by decide) ?_
  obtain ⟨hCc, hPc, hDc, hFc⟩ := qac (ws' := (qS1 a0 jbd jaQ jgt jbx x38 x39 x40 jbK jgm jaW jal jam jax jao ja6 jaV ja8 jae jag jaf jaN ja4 jaP jaw jaI jaZ jaH jaS jan jaU jaE jar jaL jah jaB jaa jaz jaG jab ja2 z0_s jaq jjr jdj jh9 jat jau jav jaj jas jaJ jak jad jay jac jaW cyI jbC)) hP hD hS hA [0, 3] (by decide +kernel) rfl
  refine va_callv (va_runV (As := [.int 59]) (rest := []) ⟨hx, hb, hml, hown, hts⟩ (qtj l dC dI cyB cyI cyJ cyP a0 jaW H.size (.int jbd) (.ref jaQ) (.int jgt) (.int jbK) (.int jgm) (jal) (jam) (jax) (jao) (ja6) (jaV) (ja8) (jae) (jag) (jaf) (.int jaN) (ja4) (jaP) (jaw) (jaI) (jaZ) (jaH) (jaS) (jan) (jaU) (jaE) (jar) (jaL) (jah) (jaB) (jaa) (jaz) (jaG) (jab) (ja2) (z0_s) (jaq) (.ref jjr) (.ref jdj) (.int jh9) (jat) (jau) (jav) (jaj) (jas) (jaJ) (jak) (jad) (jay) (jac) jbx jbC x38 x39 x40 59 hw) (cwV 1 hts gX11_book_X11_sign rfl rfl rfl (by decide +kernel) ⟨nbq rfl, nbq rfl⟩) ⟨qab, va_recv (q := (RX11, TX11, 55)) hK hPc (ci := 11) (q0 := 0) rfl rfl, qae hPc hK hDc hNw⟩ rfl rfl hl.1 rfl (lv_room (nbq rfl)) (qaa qhP 15 rfl) ⟨nbq rfl, nbq rfl⟩) hS (fun q _ h => hFc q h) hFc (fun u t H1 locs ht hvm hw hB hz1 hk1 hS => ?_)
  obtain ⟨x42, x43, x44⟩ := u
  obtain ⟨hP1, hK1, hD1⟩ := hB
  rw [ht] at hP1
  obtain ⟨hP, hD⟩ := qad (wr := (qawP jaQ cyI ja9 jjr cyI jlJ jdj cyI jgu)) (w1 := (qS1 a0 jbd jaQ jgt jbx x42 x43 x44 jbK jgm jaW jal jam jax jao ja6 jaV ja8 jae jag jaf jaN ja4 jaP jaw jaI jaZ jaH jaS jan jaU jaE jar jaL jah jaB jaa jaz jaG jab ja2 z0_s jaq jjr jdj jh9 jat jau jav jaj jas jaJ jak jad jay jac jaW cyI jbC)) (wn := (qh4 a0 jbd jaQ jgt jbx x42 x43 x44 jbK jgm jaW jal jam jax jao ja6 jaV ja8 jae jag jaf jaN ja4 jaP jaw jaI jaZ jaH jaS jan jaU jaE jar jaL jah jaB jaa jaz jaG jab ja2 z0_s jaq jjr jdj jh9 jat jau jav jaj jas jaJ jak jad jay jac jaQ cyI ja9 jjr cyI jlJ jaW cyI jbC jdj cyI jgu)) hP hD [0, 3] [1, 2, 4] [3, 0, 1, 4, 2] hCc rfl (by decide +kernel) (by decide +kernel) (by decide +kernel) rfl hk1 hFc hP1 hD1
  generalize H1 = H at hP hS ⊢
  refine lv_aload_n hx hb (qaa qgQ 0 rfl) rfl (lv_at hl 1 rfl) ?_
  obtain ⟨hCc, hPc, hDc, hFc⟩ := qac (ws' := (qNg a0 jbd jaQ jgt jbx x42 x43 x44 jbK jgm jaW jal jam jax jao ja6 jaV ja8 jae jag jaf jaN ja4 jaP jaw jaI jaZ jaH jaS jan jaU jaE jar jaL jah jaB jaa jaz jaG jab ja2 z0_s jaq jjr jdj jh9 jat jau jav jaj jas jaJ jak jad jay jac)) hP hD hS hA [0] (by decide +kernel) rfl
  refine va_calli (va_runV (As := []) (rest := []) ⟨hx, hb, hml, hown, hts⟩ (qdQ l dC dI cyB cyI cyJ cyP a0 H.size (.int jbd) (.ref jaQ) (.int jgt) (.int jbx) (.int x42) (.int x44) (.int jbK) (.int jgm) (.ref jaW) (jal) (jam) (jax) (jao) (ja6) (jaV) (ja8) (jae) (jag) (jaf) (.int jaN) (ja4) (jaP) (jaw) (jaI) (jaZ) (jaH) (jaS) (jan) (jaU) (jaE) (jar) (jaL) (jah) (jaB) (jaa) (jaz) (jaG) (jab) (ja2) (z0_s) (jaq) (.ref jjr) (.ref jdj) (.int jh9) (jat) (jau) (jav) (jaj) (jas) (jaJ) (jak) (jad) (jay) (jac) x43 hw) (cwV 0 hts gX11_book_X11_fine rfl rfl rfl (by decide +kernel) ⟨nbq rfl, nbq rfl⟩) ⟨qab, va_recv (q := (RX11, TX11, 55)) hK hPc (ci := 11) (q0 := 0) rfl rfl, qae hPc hK hDc hNw⟩ rfl rfl hl.1 rfl (lv_room (nbq rfl)) (qaa qgQ 1 rfl) ⟨nbq rfl, nbq rfl⟩) hS (fun q _ h => hFc q h) hFc (fun r45 u t H1 locs ht hvm hw hB hz1 hk1 hS => ?_)
  obtain ⟨hP1, hK1, hD1⟩ := hB
  rw [ht] at hP1
  obtain ⟨hP, hD⟩ := qad (wr := (qanf jaQ cyI ja9 jjr cyI jlJ jaW cyI jbC jdj cyI jgu)) (w1 := (qNg a0 jbd jaQ jgt jbx x42 x43 x44 jbK jgm jaW jal jam jax jao ja6 jaV ja8 jae jag jaf jaN ja4 jaP jaw jaI jaZ jaH jaS jan jaU jaE jar jaL jah jaB jaa jaz jaG jab ja2 z0_s jaq jjr jdj jh9 jat jau jav jaj jas jaJ jak jad jay jac)) (wn := (qh4 a0 jbd jaQ jgt jbx x42 x43 x44 jbK jgm jaW jal jam jax jao ja6 jaV ja8 jae jag jaf jaN ja4 jaP jaw jaI jaZ jaH jaS jan jaU jaE jar jaL jah jaB jaa jaz jaG jab ja2 z0_s jaq jjr jdj jh9 jat jau jav jaj jas jaJ jak jad jay jac jaQ cyI ja9 jjr cyI jlJ jaW cyI jbC jdj cyI jgu)) hP hD [0] [1, 2, 3, 4] [4, 0, 1, 2, 3] hCc rfl (by decide +kernel) (by decide +kernel) (by decide +kernel) rfl hk1 hFc hP1 hD1
  generalize H1 = H at hP hS ⊢
  refine lv_if_ne (tgt := 153) hx hb (qaa qgQ 2 rfl) (by decide) (fun c46 => ?_) (fun c46 => ?_)
  · have hw := hw.1 c46
    refine lv_aload_n hx hb (qaa qgQ 4 rfl) rfl (lv_at hl 1 rfl) ?_
    refine va_get (D := (dC, dI)) (ci := 11) (v := .ref jjr) (C := RX11) (T := TX11) (N := 55) hx hb hts qoZ hown hK hP 0 rfl rfl 42 (by decide) (hts _ qI6) (fun _ h9 => h9) rfl (qaa qgQ 5 rfl) ?_
    refine lv_iload hx hb (qaa qgQ 6 rfl) (lv_at hl 3 rfl) ?_
    refine lv_iload hx hb (qaa qgQ 7 rfl) (lv_at hl 0 rfl) ?_
    obtain ⟨hi9, hw⟩ := hw
    refine va_iast hx hb hK hP hD hS 2 1 rfl rfl hi9 (qaa qgQ 8 rfl) (fun H locs hP hD hS => ?_)
    obtain ⟨f47, ef47⟩ : ∃ y : NI, y = upd jlJ l4.toNatClampNeg r41 := ⟨_, rfl⟩
    have hw := hw f47 ef47
    have hP : va_P (dC, dI) vwCl (qh4 a0 jbd jaQ jgt jbx x42 x43 x44 jbK jgm jaW jal jam jax jao ja6 jaV ja8 jae jag jaf jaN ja4 jaP jaw jaI jaZ jaH jaS jan jaU jaE jar jaL jah jaB jaa jaz jaG jab ja2 z0_s jaq jjr jdj jh9 jat jau jav jaj jas jaJ jak jad jay jac jaQ cyI ja9 jjr cyI f47 jaW cyI jbC jdj cyI jgu) H := by rw [ef47]; exact hP
    have hD : va_D A (qh4 a0 jbd jaQ jgt jbx x42 x43 x44 jbK jgm jaW jal jam jax jao ja6 jaV ja8 jae jag jaf jaN ja4 jaP jaw jaI jaZ jaH jaS jan jaU jaE jar jaL jah jaB jaa jaz jaG jab ja2 z0_s jaq jjr jdj jh9 jat jau jav jaj jas jaJ jak jad jay jac jaQ cyI ja9 jjr cyI f47 jaW cyI jbC jdj cyI jgu) := by rw [ef47]; exact hD
    obtain ⟨x48, ex48⟩ : ∃ y : Int32, y = l2 + 1 := ⟨_, rfl⟩
    have hw := hw x48 ex48
    refine lv_iinc (v := x48) (lv' := [(2, .int x48), (5, .int r41), (0, .ref a0), (4, .int l4)]) hx hb (qaa qgQ 9 rfl) hl (k := 2) rfl (by rw [ex48]; rfl) (by decide) rfl (fun ls hl => ?_)
    refine lv_goto (tgt := 67) hx hb (qaa qgQ 10 rfl) (by decide) ?_
    exact hK67 _ _ _ jbd ja9 jgt jgm jbx x42 x43 jbK f47 x44 jh9 jgu x48 hP hD hS (lv_sub hl [2, 0] rfl) hw
  · have hw := hw.2 c46
    refine lv_goto (tgt := 168) hx hb (qaa qgQ 3 rfl) (by decide) ?_
    exact qQN dC dI cyB cyI cyJ cyP a0 jaQ jjr jaW jdj jal jam jax jao ja6 jaV ja8 jae jag jaf ja4 jaP jaw jaI jaZ jaH jaS jan jaU jaE jar jaL jah jaB jaa jaz jaG jab ja2 z0_s jaq jat jau jav jaj jas jaJ jak jad jay jac jaN jbC Q C0 _ _ _ jbd ja9 jgt jgm jbx x42 x43 jbK jlJ x44 jh9 jgu l2 hP hD hS (lv_sub hl [1, 2] rfl) hw
set_option maxHeartbeats 4000000 in
set_option maxRecDepth 100000 in
theorem qaIx {p : Program} {l : Launch} {e : Env} {s : State} {m : MethodId} {args : Array Value} {below : List Frame} {meth : Method} {c : Code} {A : Nat → Prop} (dC : Nat → ClassId) (dI : Nat → Nat → Nat) (cyB cyI cyJ cyP : ClassId) (a0 jaQ jjr jaW jdj : Nat) (jal jam jax jao ja6 jaV ja8 jae jag jaf ja4 jaP jaw jaI jaZ jaH jaS jan jaU jaE jar jaL jah jaB jaa jaz jaG jab ja2 z0_s jaq jat jau jav jaj jas jaJ jak jad jay jac : Value) (jaN : Int32) (jbC : NI) (Q : Int32 → Int32 → NI → Int32 → Int32 → Int32 → Int32 → Int32 → Int32 → NI → Int32 → Int32 → NI → Prop) (C0 : cfx p s m args meth c cX11_book (some .int) wsX11_book RX11 6 A (dC, dI) (kT cyB cyI cyJ cyP)) : ∀ (n : Nat) (H : Heap) (locs : List Loc) (ls : Array Slot) (jbd : Int32) (ja9 : NI) (jgt jgm jbx jcP jb8 jbK : Int32) (jlJ : NI) (jbh jh9 : Int32) (jgu : NI) (l2 : Int32), va_P (dC, dI) vwCl (qh4 a0 jbd jaQ jgt jbx jcP jb8 jbh jbK jgm jaW jal jam jax jao ja6 jaV ja8 jae jag jaf jaN ja4 jaP jaw jaI jaZ jaH jaS jan jaU jaE jar jaL jah jaB jaa jaz jaG jab ja2 z0_s jaq jjr jdj jh9 jat jau jav jaj jas jaJ jak jad jay jac jaQ cyI ja9 jjr cyI jlJ jaW cyI jbC jdj cyI jgu) H → va_D A (qh4 a0 jbd jaQ jgt jbx jcP jb8 jbh jbK jgm jaW jal jam jax jao ja6 jaV ja8 jae jag jaf jaN ja4 jaP jaw jaI jaZ jaH jaS jan jaU jaE jar jaL jah jaB jaa jaz jaG jab ja2 z0_s jaq jjr jdj jh9 jat jau jav jaj jas jaJ jak jad jay jac jaQ cyI ja9 jjr cyI jlJ jaW cyI jbC jdj cyI jgu) → va_S A s.heap H locs → lv_has ls 6 [(0, .ref a0), (2, .int l2)] → qob jaN jbC Q n jbd ja9 jgt jgm jbx jcP jb8 jbK jlJ jbh jh9 jgu l2 → W p l e (headSpec wsX11_book ({ frames := 2, cells := 0, slots := 0, locals := 47 })).room s m args below meth c H locs 0 0 (MQ below (va_Qi (fun (r : Int32) (u : Int32 × NI × Int32 × Int32 × Int32 × Int32 × Int32 × Int32 × NI × Int32 × Int32 × NI) => Q r u.1 u.2.1 u.2.2.1 u.2.2.2.1 u.2.2.2.2.1 u.2.2.2.2.2.1 u.2.2.2.2.2.2.1 u.2.2.2.2.2.2.2.1 u.2.2.2.2.2.2.2.2.1 u.2.2.2.2.2.2.2.2.2.1 u.2.2.2.2.2.2.2.2.2.2.1 u.2.2.2.2.2.2.2.2.2.2.2) (cB (dC, dI) (kT cyB cyI cyJ cyP) A (fun u : Int32 × NI × Int32 × Int32 × Int32 × Int32 × Int32 × Int32 × NI × Int32 × Int32 × NI => ((qh4 a0 u.1 jaQ u.2.2.1 u.2.2.2.2.1 u.2.2.2.2.2.1 u.2.2.2.2.2.2.1 u.2.2.2.2.2.2.2.2.2.1 u.2.2.2.2.2.2.2.1 u.2.2.2.1 jaW jal jam jax jao ja6 jaV ja8 jae jag jaf jaN ja4 jaP jaw jaI jaZ jaH jaS jan jaU jaE jar jaL jah jaB jaa jaz jaG jab ja2 z0_s jaq jjr jdj u.2.2.2.2.2.2.2.2.2.2.1 jat jau jav jaj jas jaJ jak jad jay jac jaQ cyI u.2.1 jjr cyI u.2.2.2.2.2.2.2.2.1 jaW cyI jbC jdj cyI u.2.2.2.2.2.2.2.2.2.2.2) : va_W))) A) args s 0 0 A) (F0 m 67 ls []) := by
  obtain ⟨hx, hb, hr, hts, hown, hlocks, hml, hA, hK, hNw⟩ := id C0
  intro n
  induction n with
  | zero => intro H locs ls jbd ja9 jgt jgm jbx jcP jb8 jbK jlJ jbh jh9 jgu l2 hP hD hS hl hw; exact False.elim hw
  | succ n ih =>
    intro H locs ls jbd ja9 jgt jgm jbx jcP jb8 jbK jlJ jbh jh9 jgu l2 hP hD hS hl hw
    have hw : qbU jb8 (fun r17 => ((r17 = 0 → (qt5 jaN jbC Q jbd ja9 jgt jgm jbx jcP jb8 jbK jlJ jbh jh9 jgu l2)) ∧ (¬ r17 = 0 → qr2 jbx jbC jcP (fun r20 x19 => ((r20 = 0 → (qt5 jaN jbC Q jbd ja9 jgt jgm jbx x19 jb8 jbK jlJ jbh jh9 jgu l2)) ∧ (¬ r20 = 0 → qbM jbx jbC x19 (fun r23 x22 => qbT jbx jbC x22 jb8 jbh 0 (jaN - 1) (fun r27 x24 x25 x26 => qbU x25 (fun r28 => ((r28 = 0 → (qtW jaN jbC Q (fun jbd ja9 jgt jgm jbx jcP jb8 jbK jlJ jbh jh9 jgu l2 => qob jaN jbC Q n jbd ja9 jgt jgm jbx jcP jb8 jbK jlJ jbh jh9 jgu l2) jbd ja9 jgt jgm jbx x24 x25 jbK jlJ x26 jh9 jgu l2 r27)) ∧ (¬ r28 = 0 → vp_in r27 8 ∧ ∀ x30 : Int32, x30 = jlJ r27.toNatClampNeg → ((x30 = (-1) → (qtW jaN jbC Q (fun jbd ja9 jgt jgm jbx jcP jb8 jbK jlJ jbh jh9 jgu l2 => qob jaN jbC Q n jbd ja9 jgt jgm jbx jcP jb8 jbK jlJ jbh jh9 jgu l2) jbd ja9 jgt jgm jbx x24 x25 jbK jlJ x26 jh9 jgu l2 r27)) ∧ (¬ x30 = (-1) → qns x25 x26 2 x22 (fun x32 x33 => (qtW jaN jbC Q (fun jbd ja9 jgt jgm jbx jcP jb8 jbK jlJ jbh jh9 jgu l2 => qob jaN jbC Q n jbd ja9 jgt jgm jbx jcP jb8 jbK jlJ jbh jh9 jgu l2) jbd ja9 jgt jgm jbx x24 x32 jbK jlJ x33 jh9 jgu l2 r27))))))))))))))) := hw
    refine lv_aload_n hx hb (qaa qjF 7 rfl) rfl (lv_at hl 0 rfl) ?_
    obtain ⟨hCc, hPc, hDc, hFc⟩ := qac (ws' := (qNg a0 jbd jaQ jgt jbx jcP jb8 jbh jbK jgm jaW jal jam jax jao ja6 jaV ja8 jae jag jaf jaN ja4 jaP jaw jaI jaZ jaH jaS jan jaU jaE jar jaL jah jaB jaa jaz jaG jab ja2 z0_s jaq jjr jdj jh9 jat jau jav jaj jas jaJ jak jad jay jac)) hP hD hS hA [0] (by decide +kernel) rfl
    refine va_calli (va_runV (As := []) (rest := []) ⟨hx, hb, hml, hown, hts⟩ (qdQ l dC dI cyB cyI cyJ cyP a0 H.size (.int jbd) (.ref jaQ) (.int jgt) (.int jbx) (.int jcP) (.int jbh) (.int jbK) (.int jgm) (.ref jaW) (jal) (jam) (jax) (jao) (ja6) (jaV) (ja8) (jae) (jag) (jaf) (.int jaN) (ja4) (jaP) (jaw) (jaI) (jaZ) (jaH) (jaS) (jan) (jaU) (jaE) (jar) (jaL) (jah) (jaB) (jaa) (jaz) (jaG) (jab) (ja2) (z0_s) (jaq) (.ref jjr) (.ref jdj) (.int jh9) (jat) (jau) (jav) (jaj) (jas) (jaJ) (jak) (jad) (jay) (jac) jb8 hw) (cwV 0 hts gX11_book_X11_fine rfl rfl rfl (by decide +kernel) ⟨nbq rfl, nbq rfl⟩) ⟨qab, va_recv (q := (RX11, TX11, 55)) hK hPc (ci := 11) (q0 := 0) rfl rfl, qae hPc hK hDc hNw⟩ rfl rfl hl.1 rfl (lv_room (nbq rfl)) (qaa qjF 8 rfl) ⟨nbq rfl, nbq rfl⟩) hS (fun q _ h => hFc q h) hFc (fun r17 u t H1 locs ht hvm hw hB hz1 hk1 hS => ?_)
    obtain ⟨hP1, hK1, hD1⟩ := hB
    rw [ht] at hP1
    obtain ⟨hP, hD⟩ := qad (wr := (qanf jaQ cyI ja9 jjr cyI jlJ jaW cyI jbC jdj cyI jgu)) (w1 := (qNg a0 jbd jaQ jgt jbx jcP jb8 jbh jbK jgm jaW jal jam jax jao ja6 jaV ja8 jae jag jaf jaN ja4 jaP jaw jaI jaZ jaH jaS jan jaU jaE jar jaL jah jaB jaa jaz jaG jab ja2 z0_s jaq jjr jdj jh9 jat jau jav jaj jas jaJ jak jad jay jac)) (wn := (qh4 a0 jbd jaQ jgt jbx jcP jb8 jbh jbK jgm jaW jal jam jax jao ja6 jaV ja8 jae jag jaf jaN ja4 jaP jaw jaI jaZ jaH jaS jan jaU jaE jar jaL jah jaB jaa jaz jaG jab ja2 z0_s jaq jjr jdj jh9 jat jau jav jaj jas jaJ jak jad jay jac jaQ cyI ja9 jjr cyI jlJ jaW cyI jbC jdj cyI jgu)) hP hD [0] [1, 2, 3, 4] [4, 0, 1, 2, 3] hCc rfl (by decide +kernel) (by decide +kernel) (by decide +kernel) rfl hk1 hFc hP1 hD1
    generalize H1 = H at hP hS ⊢
    refine lv_if_eq (tgt := 168) hx hb (qaa qjF 9 rfl) (by decide) (fun c18 => ?_) (fun c18 => ?_)
    · have hw := hw.1 c18
      exact qQN dC dI cyB cyI cyJ cyP a0 jaQ jjr jaW jdj jal jam jax jao ja6 jaV ja8 jae jag jaf ja4 jaP jaw jaI jaZ jaH jaS jan jaU jaE jar jaL jah jaB jaa jaz jaG jab ja2 z0_s jaq jat jau jav jaj jas jaJ jak jad jay jac jaN jbC Q C0 _ _ _ jbd ja9 jgt jgm jbx jcP jb8 jbK jlJ jbh jh9 jgu l2 hP hD hS (lv_sub hl [0, 1] rfl) hw
    · have hw := hw.2 c18
      refine lv_aload_n hx hb (qaa qjF 10 rfl) rfl (lv_at hl 0 rfl) ?_
      obtain ⟨hCc, hPc, hDc, hFc⟩ := qac (ws' := (qS1 a0 jbd jaQ jgt jbx jcP jb8 jbh jbK jgm jaW jal jam jax jao ja6 jaV ja8 jae jag jaf jaN ja4 jaP jaw jaI jaZ jaH jaS jan jaU jaE jar jaL jah jaB jaa jaz jaG jab ja2 z0_s jaq jjr jdj jh9 jat jau jav jaj jas jaJ jak jad jay jac jaW cyI jbC)) hP hD hS hA [0, 3] (by decide +kernel) rfl
      refine va_calli (va_runV (As := []) (rest := []) ⟨hx, hb, hml, hown, hts⟩ (qN3 l dC dI cyB cyI cyJ cyP a0 jaW H.size (.int jbd) (.ref jaQ) (.int jgt) (.int jb8) (.int jbh) (.int jbK) (.int jgm) (jal) (jam) (jax) (jao) (ja6) (jaV) (ja8) (jae) (jag) (jaf) (.int jaN) (ja4) (jaP) (jaw) (jaI) (jaZ) (jaH) (jaS) (jan) (jaU) (jaE) (jar) (jaL) (jah) (jaB) (jaa) (jaz) (jaG) (jab) (ja2) (z0_s) (jaq) (.ref jjr) (.ref jdj) (.int jh9) (jat) (jau) (jav) (jaj) (jas) (jaJ) (jak) (jad) (jay) (jac) jbx jbC jcP hw) (cwV 0 hts gX11_book_X11_isMore rfl rfl rfl (by decide +kernel) ⟨nbq rfl, nbq rfl⟩) ⟨qab, va_recv (q := (RX11, TX11, 55)) hK hPc (ci := 11) (q0 := 0) rfl rfl, qae hPc hK hDc hNw⟩ rfl rfl hl.1 rfl (lv_room (nbq rfl)) (qaa qjF 11 rfl) ⟨nbq rfl, nbq rfl⟩) hS (fun q _ h => hFc q h) hFc (fun r20 u t H1 locs ht hvm hw hB hz1 hk1 hS => ?_)
      obtain ⟨x19, rfl⟩ : ∃ z, z = u := ⟨_, rfl⟩
      obtain ⟨hP1, hK1, hD1⟩ := hB
      rw [ht] at hP1
      obtain ⟨hP, hD⟩ := qad (wr := (qawP jaQ cyI ja9 jjr cyI jlJ jdj cyI jgu)) (w1 := (qS1 a0 jbd jaQ jgt jbx x19 jb8 jbh jbK jgm jaW jal jam jax jao ja6 jaV ja8 jae jag jaf jaN ja4 jaP jaw jaI jaZ jaH jaS jan jaU jaE jar jaL jah jaB jaa jaz jaG jab ja2 z0_s jaq jjr jdj jh9 jat jau jav jaj jas jaJ jak jad jay jac jaW cyI jbC)) (wn := (qh4 a0 jbd jaQ jgt jbx x19 jb8 jbh jbK jgm jaW jal jam jax jao ja6 jaV ja8 jae jag jaf jaN ja4 jaP jaw jaI jaZ jaH jaS jan jaU jaE jar jaL jah jaB jaa jaz jaG jab ja2 z0_s jaq jjr jdj jh9 jat jau jav jaj jas jaJ jak jad jay jac jaQ cyI ja9 jjr cyI jlJ jaW cyI jbC jdj cyI jgu)) hP hD [0, 3] [1, 2, 4] [3, 0, 1, 4, 2] hCc rfl (by decide +kernel) (by decide +kernel) (by decide +kernel) rfl hk1 hFc hP1 hD1
      generalize H1 = H at hP hS ⊢
      refine lv_if_eq (tgt := 168) hx hb (qaa qjF 12 rfl) (by decide) (fun c21 => ?_) (fun c21 => ?_)
      · have hw := hw.1 c21
        exact qQN dC dI cyB cyI cyJ cyP a0 jaQ jjr jaW jdj jal jam jax jao ja6 jaV ja8 jae jag jaf ja4 jaP jaw jaI jaZ jaH jaS jan jaU jaE jar jaL jah jaB jaa jaz jaG jab ja2 z0_s jaq jat jau jav jaj jas jaJ jak jad jay jac jaN jbC Q C0 _ _ _ jbd ja9 jgt jgm jbx x19 jb8 jbK jlJ jbh jh9 jgu l2 hP hD hS (lv_sub hl [0, 1] rfl) hw
      · have hw := hw.2 c21
        refine lv_aload_n hx hb (qaa qjF 13 rfl) rfl (lv_at hl 0 rfl) ?_
        obtain ⟨hCc, hPc, hDc, hFc⟩ := qac (ws' := (qS1 a0 jbd jaQ jgt jbx x19 jb8 jbh jbK jgm jaW jal jam jax jao ja6 jaV ja8 jae jag jaf jaN ja4 jaP jaw jaI jaZ jaH jaS jan jaU jaE jar jaL jah jaB jaa jaz jaG jab ja2 z0_s jaq jjr jdj jh9 jat jau jav jaj jas jaJ jak jad jay jac jaW cyI jbC)) hP hD hS hA [0, 3] (by decide +kernel) rfl
        refine va_calli (va_runV (As := []) (rest := []) ⟨hx, hb, hml, hown, hts⟩ (qeS l dC dI cyB cyI cyJ cyP a0 jaW H.size (.int jbd) (.ref jaQ) (.int jgt) (.int jb8) (.int jbh) (.int jbK) (.int jgm) (jal) (jam) (jax) (jao) (ja6) (jaV) (ja8) (jae) (jag) (jaf) (.int jaN) (ja4) (jaP) (jaw) (jaI) (jaZ) (jaH) (jaS) (jan) (jaU) (jaE) (jar) (jaL) (jah) (jaB) (jaa) (jaz) (jaG) (jab) (ja2) (z0_s) (jaq) (.ref jjr) (.ref jdj) (.int jh9) (jat) (jau) (jav) (jaj) (jas) (jaJ) (jak) (jad) (jay) (jac) jbx jbC x19 hw) (cwV 0 hts gX11_book_X11_here rfl rfl rfl (by decide +kernel) ⟨nbq rfl, nbq rfl⟩) ⟨qab, va_recv (q := (RX11, TX11, 55)) hK hPc (ci := 11) (q0 := 0) rfl rfl, qae hPc hK hDc hNw⟩ rfl rfl hl.1 rfl (lv_room (nbq rfl)) (qaa qjF 14 rfl) ⟨nbq rfl, nbq rfl⟩) hS (fun q _ h => hFc q h) hFc (fun r23 u t H1 locs ht hvm hw hB hz1 hk1 hS => ?_)
        obtain ⟨x22, rfl⟩ : ∃ z, z = u := ⟨_, rfl⟩
        obtain ⟨hP1, hK1, hD1⟩ := hB
        rw [ht] at hP1
        obtain ⟨hP, hD⟩ := qad (wr := (qawP jaQ cyI ja9 jjr cyI jlJ jdj cyI jgu)) (w1 := (qS1 a0 jbd jaQ jgt jbx x22 jb8 jbh jbK jgm jaW jal jam jax jao ja6 jaV ja8 jae jag jaf jaN ja4 jaP jaw jaI jaZ jaH jaS jan jaU jaE jar jaL jah jaB jaa jaz jaG jab ja2 z0_s jaq jjr jdj jh9 jat jau jav jaj jas jaJ jak jad jay jac jaW cyI jbC)) (wn := (qh4 a0 jbd jaQ jgt jbx x22 jb8 jbh jbK jgm jaW jal jam jax jao ja6 jaV ja8 jae jag jaf jaN ja4 jaP jaw jaI jaZ jaH jaS jan jaU jaE jar jaL jah jaB jaa jaz jaG jab ja2 z0_s jaq jjr jdj jh9 jat jau jav jaj jas jaJ jak jad jay jac jaQ cyI ja9 jjr cyI jlJ jaW cyI jbC jdj cyI jgu)) hP hD [0, 3] [1, 2, 4] [3, 0, 1, 4, 2] hCc rfl (by decide +kernel) (by decide +kernel) (by decide +kernel) rfl hk1 hFc hP1 hD1
        generalize H1 = H at hP hS ⊢
        refine lv_pop hx hb (qaa qjF 15 rfl) rfl ?_
        refine lv_aload_n hx hb (qaa qiL 0 rfl) rfl (lv_at hl 0 rfl) ?_
        refine va_get (D := (dC, dI)) (ci := 11) (v := .int x22) (C := RX11) (T := TX11) (N := 55) hx hb hts qoZ hown hK hP 0 rfl rfl 4 (by decide) (hts _ qauB) (fun _ h9 => h9) rfl (qaa qiL 1 rfl) ?_
        refine lv_istore_n (lv' := [(3, .int x22), (0, .ref a0), (2, .int l2)]) hx hb (qaa qiL 2 rfl) rfl hl (by decide) rfl (fun ls hl => ?_)
        refine lv_aload_n hx hb (qaa qiL 3 rfl) rfl (lv_at hl 1 rfl) ?_
        refine lv_iconst (v := 0) hx hb (qaa qiL 4 rfl) (by decide) ?_
        refine lv_aload_n hx hb (qaa qiL 5 rfl) rfl (lv_at hl 1 rfl) ?_
        refine va_get (D := (dC, dI)) (ci := 11) (v := .int jaN) (C := RX11) (T := TX11) (N := 55) hx hb hts qoZ hown hK hP 0 rfl rfl 20 (by decide) (hts _ qar6) (fun _ h9 => h9) rfl (qaa qiL 6 rfl) ?_
        refine lv_iconst (v := 1) hx hb (qaa qiL 7 rfl) (by decide) ?_
        refine lv_isub hx hb (qaa qiL 8 rfl) ?_
        obtain ⟨hCc, hPc, hDc, hFc⟩ := qac (ws' := (qS1 a0 jbd jaQ jgt jbx x22 jb8 jbh jbK jgm jaW jal jam jax jao ja6 jaV ja8 jae jag jaf jaN ja4 jaP jaw jaI jaZ jaH jaS jan jaU jaE jar jaL jah jaB jaa jaz jaG jab ja2 z0_s jaq jjr jdj jh9 jat jau jav jaj jas jaJ jak jad jay jac jaW cyI jbC)) hP hD hS hA [0, 3] (by decide +kernel) rfl
        refine va_calli (va_runV (As := [.int 0, .int (jaN - 1)]) (rest := []) ⟨hx, hb, hml, hown, hts⟩ (qcA l dC dI cyB cyI cyJ cyP a0 jaW H.size (.int jbd) (.ref jaQ) (.int jgt) (.int jbK) (.int jgm) (jal) (jam) (jax) (jao) (ja6) (jaV) (ja8) (jae) (jag) (jaf) (.int jaN) (ja4) (jaP) (jaw) (jaI) (jaZ) (jaH) (jaS) (jan) (jaU) (jaE) (jar) (jaL) (jah) (jaB) (jaa) (jaz) (jaG) (jab) (ja2) (z0_s) (jaq) (.ref jjr) (.ref jdj) (.int jh9) (jat) (jau) (jav) (jaj) (jas) (jaJ) (jak) (jad) (jay) (jac) jbx jbC x22 jb8 jbh 0 (jaN - 1) hw) (cwV 2 hts gX11_book_X11_readNumber rfl rfl rfl (by decide +kernel) ⟨nbq rfl, nbq rfl⟩) ⟨qab, va_recv (q := (RX11, TX11, 55)) hK hPc (ci := 11) (q0 := 0) rfl rfl, qae hPc hK hDc hNw⟩ rfl rfl hl.1 rfl (lv_room (nbq rfl)) (qaa qiL 9 rfl) ⟨nbq rfl, nbq rfl⟩) hS (fun q _ h => hFc q h) hFc (fun r27 u t H1 locs ht hvm hw hB hz1 hk1 hS => ?_)
        obtain ⟨x24, x25, x26⟩ := u
        obtain ⟨hP1, hK1, hD1⟩ := hB
        rw [ht] at hP1
        obtain ⟨hP, hD⟩ := qad (wr := (qawP jaQ cyI ja9 jjr cyI jlJ jdj cyI jgu)) (w1 := (qS1 a0 jbd jaQ jgt jbx x24 x25 x26 jbK jgm jaW jal jam jax jao ja6 jaV ja8 jae jag jaf jaN ja4 jaP jaw jaI jaZ jaH jaS jan jaU jaE jar jaL jah jaB jaa jaz jaG jab ja2 z0_s jaq jjr jdj jh9 jat jau jav jaj jas jaJ jak jad jay jac jaW cyI jbC)) (wn := (qh4 a0 jbd jaQ jgt jbx x24 x25 x26 jbK jgm jaW jal jam jax jao ja6 jaV ja8 jae jag jaf jaN ja4 jaP jaw jaI jaZ jaH jaS jan jaU jaE jar jaL jah jaB jaa jaz jaG jab ja2 z0_s jaq jjr jdj jh9 jat jau jav jaj jas jaJ jak jad jay jac jaQ cyI ja9 jjr cyI jlJ jaW cyI jbC jdj cyI jgu)) hP hD [0, 3] [1, 2, 4] [3, 0, 1, 4, 2] hCc rfl (by decide +kernel) (by decide +kernel) (by decide +kernel) rfl hk1 hFc hP1 hD1
        generalize H1 = H at hP hS ⊢
        refine lv_istore (lv' := [(4, .int r27), (3, .int x22), (0, .ref a0), (2, .int l2)]) hx hb (qaa qiL 10 rfl) hl (by decide) rfl (fun ls hl => ?_)
        refine lv_aload_n hx hb (qaa qiL 11 rfl) rfl (lv_at hl 2 rfl) ?_
        obtain ⟨hCc, hPc, hDc, hFc⟩ := qac (ws' := (qNg a0 jbd jaQ jgt jbx x24 x25 x26 jbK jgm jaW jal jam jax jao ja6 jaV ja8 jae jag jaf jaN ja4 jaP jaw jaI jaZ jaH jaS jan jaU jaE jar jaL jah jaB jaa jaz jaG jab ja2 z0_s jaq jjr jdj jh9 jat jau jav jaj jas jaJ jak jad jay jac)) hP hD hS hA [0] (by decide +kernel) rfl
        refine va_calli (va_runV (As := []) (rest := []) ⟨hx, hb, hml, hown, hts⟩ (qdQ l dC dI cyB cyI cyJ cyP a0 H.size (.int jbd) (.ref jaQ) (.int jgt) (.int jbx) (.int x24) (.int x26) (.int jbK) (.int jgm) (.ref jaW) (jal) (jam) (jax) (jao) (ja6) (jaV) (ja8) (jae) (jag) (jaf) (.int jaN) (ja4) (jaP) (jaw) (jaI) (jaZ) (jaH) (jaS) (jan) (jaU) (jaE) (jar) (jaL) (jah) (jaB) (jaa) (jaz) (jaG) (jab) (ja2) (z0_s) (jaq) (.ref jjr) (.ref jdj) (.int jh9) (jat) (jau) (jav) (jaj) (jas) (jaJ) (jak) (jad) (jay) (jac) x25 hw) (cwV 0 hts gX11_book_X11_fine rfl rfl rfl (by decide +kernel) ⟨nbq rfl, nbq rfl⟩) ⟨qab, va_recv (q := (RX11, TX11, 55)) hK hPc (ci := 11) (q0 := 0) rfl rfl, qae hPc hK hDc hNw⟩ rfl rfl hl.1 rfl (lv_room (nbq rfl)) (qaa qiL 12 rfl) ⟨nbq rfl, nbq rfl⟩) hS (fun q _ h => hFc q h) hFc (fun r28 u t H1 locs ht hvm hw hB hz1 hk1 hS => ?_)
        obtain ⟨hP1, hK1, hD1⟩ := hB
        rw [ht] at hP1
        obtain ⟨hP, hD⟩ := qad (wr := (qanf jaQ cyI ja9 jjr cyI jlJ jaW cyI jbC jdj cyI jgu)) (w1 := (qNg a0 jbd jaQ jgt jbx x24 x25 x26 jbK jgm jaW jal jam jax jao ja6 jaV ja8 jae jag jaf jaN ja4 jaP jaw jaI jaZ jaH jaS jan jaU jaE jar jaL jah jaB jaa jaz jaG jab ja2 z0_s jaq jjr jdj jh9 jat jau jav jaj jas jaJ jak jad jay jac)) (wn := (qh4 a0 jbd jaQ jgt jbx x24 x25 x26 jbK jgm jaW jal jam jax jao ja6 jaV ja8 jae jag jaf jaN ja4 jaP jaw jaI jaZ jaH jaS jan jaU jaE jar jaL jah jaB jaa jaz jaG jab ja2 z0_s jaq jjr jdj jh9 jat jau jav jaj jas jaJ jak jad jay jac jaQ cyI ja9 jjr cyI jlJ jaW cyI jbC jdj cyI jgu)) hP hD [0] [1, 2, 3, 4] [4, 0, 1, 2, 3] hCc rfl (by decide +kernel) (by decide +kernel) (by decide +kernel) rfl hk1 hFc hP1 hD1
        generalize H1 = H at hP hS ⊢
        refine lv_if_eq (tgt := 128) hx hb (qaa qiL 13 rfl) (by decide) (fun c29 => ?_) (fun c29 => ?_)
        · have hw := hw.1 c29
          exact qRr dC dI cyB cyI cyJ cyP a0 jaQ jjr jaW jdj jal jam jax jao ja6 jaV ja8 jae jag jaf ja4 jaP jaw jaI jaZ jaH jaS jan jaU jaE jar jaL jah jaB jaa jaz jaG jab ja2 z0_s jaq jat jau jav jaj jas jaJ jak jad jay jac jaN jbC Q (qob jaN jbC Q n) ih C0 _ _ _ jbd ja9 jgt jgm jbx x24 x25 jbK jlJ x26 jh9 jgu l2 r27 hP hD hS (lv_sub hl [2, 3, 0] rfl) hw
        · have hw := hw.2 c29
          refine lv_aload_n hx hb (qaa qiL 14 rfl) rfl (lv_at hl 2 rfl) ?_
          refine va_get (D := (dC, dI)) (ci := 11) (v := .ref jjr) (C := RX11) (T := TX11) (N := 55) hx hb hts qoZ hown hK hP 0 rfl rfl 42 (by decide) (hts _ qI6) (fun _ h9 => h9) rfl (qaa qiL 15 rfl) ?_
          refine lv_iload hx hb (qaa qhP 0 rfl) (lv_at hl 0 rfl) ?_
          obtain ⟨hi9, hw⟩ := hw
          refine va_iald hx hb hK hP 2 1 rfl rfl hi9 (qaa qhP 1 rfl) ?_
          refine lv_topi (fun x30 ex30 => ?_)
          have hw := hw x30 ex30
          refine lv_iconst (v := (-1)) hx hb (qaa qhP 2 rfl) (by decide) ?_
          refine lv_icmp_eq (tgt := 128) hx hb (qaa qhP 3 rfl) (by decide) (fun c31 => ?_) (fun c31 => ?_)
          · have hw := hw.1 c31
            exact qRr dC dI cyB cyI cyJ cyP a0 jaQ jjr jaW jdj jal jam jax jao ja6 jaV ja8 jae jag jaf ja4 jaP jaw jaI jaZ jaH jaS jan jaU jaE jar jaL jah jaB jaa jaz jaG jab ja2 z0_s jaq jat jau jav jaj jas jaJ jak jad jay jac jaN jbC Q (qob jaN jbC Q n) ih C0 _ _ _ jbd ja9 jgt jgm jbx x24 x25 jbK jlJ x26 jh9 jgu l2 r27 hP hD hS (lv_sub hl [2, 3, 0] rfl) hw
          · have hw := hw.2 c31
            refine lv_aload_n hx hb (qaa qhP 4 rfl) rfl (lv_at hl 2 rfl) ?_
            refine lv_iconst (v := 2) hx hb (qaa qhP 5 rfl) (by decide) ?_
            refine lv_iload_n hx hb (qaa qhP 6 rfl) rfl (lv_at hl 1 rfl) ?_
            obtain ⟨hCc, hPc, hDc, hFc⟩ := qac (ws' := (qNg a0 jbd jaQ jgt jbx x24 x25 x26 jbK jgm jaW jal jam jax jao ja6 jaV ja8 jae jag jaf jaN ja4 jaP jaw jaI jaZ jaH jaS jan jaU jaE jar jaL jah jaB jaa jaz jaG jab ja2 z0_s jaq jjr jdj jh9 jat jau jav jaj jas jaJ jak jad jay jac)) hP hD hS hA [0] (by decide +kernel) rfl
            refine va_callv (va_runV (As := [.int 2, .int x22]) (rest := []) ⟨hx, hb, hml, hown, hts⟩ (qrt l dC dI cyB cyI cyJ cyP a0 H.size (.int jbd) (.ref jaQ) (.int jgt) (.int jbx) (.int x24) (.int jbK) (.int jgm) (.ref jaW) (jal) (jam) (jax) (jao) (ja6) (jaV) (ja8) (jae) (jag) (jaf) (.int jaN) (ja4) (jaP) (jaw) (jaI) (jaZ) (jaH) (jaS) (jan) (jaU) (jaE) (jar) (jaL) (jah) (jaB) (jaa) (jaz) (jaG) (jab) (ja2) (z0_s) (jaq) (.ref jjr) (.ref jdj) (.int jh9) (jat) (jau) (jav) (jaj) (jas) (jaJ) (jak) (jad) (jay) (jac) x25 x26 2 x22 hw) (cwV 2 hts gX11_book_X11_wrong rfl rfl rfl (by decide +kernel) ⟨nbq rfl, nbq rfl⟩) ⟨qab, va_recv (q := (RX11, TX11, 55)) hK hPc (ci := 11) (q0 := 0) rfl rfl, qae hPc hK hDc hNw⟩ rfl rfl hl.1 rfl (lv_room (nbq rfl)) (qaa qhP 7 rfl) ⟨nbq rfl, nbq rfl⟩) hS (fun q _ h => hFc q h) hFc (fun u t H1 locs ht hvm hw hB hz1 hk1 hS => ?_)
            obtain ⟨x32, x33⟩ := u
            obtain ⟨hP1, hK1, hD1⟩ := hB
            rw [ht] at hP1
            obtain ⟨hP, hD⟩ := qad (wr := (qanf jaQ cyI ja9 jjr cyI jlJ jaW cyI jbC jdj cyI jgu)) (w1 := (qNg a0 jbd jaQ jgt jbx x24 x32 x33 jbK jgm jaW jal jam jax jao ja6 jaV ja8 jae jag jaf jaN ja4 jaP jaw jaI jaZ jaH jaS jan jaU jaE jar jaL jah jaB jaa jaz jaG jab ja2 z0_s jaq jjr jdj jh9 jat jau jav jaj jas jaJ jak jad jay jac)) (wn := (qh4 a0 jbd jaQ jgt jbx x24 x32 x33 jbK jgm jaW jal jam jax jao ja6 jaV ja8 jae jag jaf jaN ja4 jaP jaw jaI jaZ jaH jaS jan jaU jaE jar jaL jah jaB jaa jaz jaG jab ja2 z0_s jaq jjr jdj jh9 jat jau jav jaj jas jaJ jak jad jay jac jaQ cyI ja9 jjr cyI jlJ jaW cyI jbC jdj cyI jgu)) hP hD [0] [1, 2, 3, 4] [4, 0, 1, 2, 3] hCc rfl (by decide +kernel) (by decide +kernel) (by decide +kernel) rfl hk1 hFc hP1 hD1
            generalize H1 = H at hP hS ⊢
            exact qRr dC dI cyB cyI cyJ cyP a0 jaQ jjr jaW jdj jal jam jax jao ja6 jaV ja8 jae jag jaf ja4 jaP jaw jaI jaZ jaH jaS jan jaU jaE jar jaL jah jaB jaa jaz jaG jab ja2 z0_s jaq jat jau jav jaj jas jaJ jak jad jay jac jaN jbC Q (qob jaN jbC Q n) ih C0 _ _ _ jbd ja9 jgt jgm jbx x24 x32 jbK jlJ x33 jh9 jgu l2 r27 hP hD hS (lv_sub hl [2, 3, 0] rfl) hw
set_option maxHeartbeats 4000000 in
set_option maxRecDepth 100000 in
theorem qaHU {p : Program} {l : Launch} {e : Env} {s : State} {m : MethodId} {args : Array Value} {below : List Frame} {meth : Method} {c : Code} {A : Nat → Prop} (dC : Nat → ClassId) (dI : Nat → Nat → Nat) (cyB cyI cyJ cyP : ClassId) (a0 jaQ jjr jaW jdj : Nat) (jal jam jax jao ja6 jaV ja8 jae jag jaf ja4 jaP jaw jaI jaZ jaH jaS jan jaU jaE jar jaL jah jaB jaa jaz jaG jab ja2 z0_s jaq jat jau jav jaj jas jaJ jak jad jay jac : Value) (jaN : Int32) (jbC : NI) (Q : Int32 → Int32 → NI → Int32 → Int32 → Int32 → Int32 → Int32 → Int32 → NI → Int32 → Int32 → NI → Prop) (C0 : cfx p s m args meth c cX11_book (some .int) wsX11_book RX11 6 A (dC, dI) (kT cyB cyI cyJ cyP)) : ∀ (n : Nat) (H : Heap) (locs : List Loc) (ls : Array Slot) (jbd : Int32) (ja9 : NI) (jgt jgm jbx jcP jb8 jbK : Int32) (jlJ : NI) (jbh jh9 : Int32) (jgu : NI) (l2 : Int32), va_P (dC, dI) vwCl (qh4 a0 jbd jaQ jgt jbx jcP jb8 jbh jbK jgm jaW jal jam jax jao ja6 jaV ja8 jae jag jaf jaN ja4 jaP jaw jaI jaZ jaH jaS jan jaU jaE jar jaL jah jaB jaa jaz jaG jab ja2 z0_s jaq jjr jdj jh9 jat jau jav jaj jas jaJ jak jad jay jac jaQ cyI ja9 jjr cyI jlJ jaW cyI jbC jdj cyI jgu) H → va_D A (qh4 a0 jbd jaQ jgt jbx jcP jb8 jbh jbK jgm jaW jal jam jax jao ja6 jaV ja8 jae jag jaf jaN ja4 jaP jaw jaI jaZ jaH jaS jan jaU jaE jar jaL jah jaB jaa jaz jaG jab ja2 z0_s jaq jjr jdj jh9 jat jau jav jaj jas jaJ jak jad jay jac jaQ cyI ja9 jjr cyI jlJ jaW cyI jbC jdj cyI jgu) → va_S A s.heap H locs → lv_has ls 6 [(0, .ref a0), (2, .int l2)] → qKR jaN jbC Q n jbd ja9 jgt jgm jbx jcP jb8 jbK jlJ jbh jh9 jgu l2 → W p l e (headSpec wsX11_book ({ frames := 2, cells := 0, slots := 0, locals := 47 })).room s m args below meth c H locs 0 0 (MQ below (va_Qi (fun (r : Int32) (u : Int32 × NI × Int32 × Int32 × Int32 × Int32 × Int32 × Int32 × NI × Int32 × Int32 × NI) => Q r u.1 u.2.1 u.2.2.1 u.2.2.2.1 u.2.2.2.2.1 u.2.2.2.2.2.1 u.2.2.2.2.2.2.1 u.2.2.2.2.2.2.2.1 u.2.2.2.2.2.2.2.2.1 u.2.2.2.2.2.2.2.2.2.1 u.2.2.2.2.2.2.2.2.2.2.1 u.2.2.2.2.2.2.2.2.2.2.2) (cB (dC, dI) (kT cyB cyI cyJ cyP) A (fun u : Int32 × NI × Int32 × Int32 × Int32 × Int32 × Int32 × Int32 × NI × Int32 × Int32 × NI => ((qh4 a0 u.1 jaQ u.2.2.1 u.2.2.2.2.1 u.2.2.2.2.2.1 u.2.2.2.2.2.2.1 u.2.2.2.2.2.2.2.2.2.1 u.2.2.2.2.2.2.2.1 u.2.2.2.1 jaW jal jam jax jao ja6 jaV ja8 jae jag jaf jaN ja4 jaP jaw jaI jaZ jaH jaS jan jaU jaE jar jaL jah jaB jaa jaz jaG jab ja2 z0_s jaq jjr jdj u.2.2.2.2.2.2.2.2.2.2.1 jat jau jav jaj jas jaJ jak jad jay jac jaQ cyI u.2.1 jjr cyI u.2.2.2.2.2.2.2.2.1 jaW cyI jbC jdj cyI u.2.2.2.2.2.2.2.2.2.2.2) : va_W))) A) args s 0 0 A) (F0 m 46 ls []) := by
  obtain ⟨hx, hb, hr, hts, hown, hlocks, hml, hA, hK, hNw⟩ := id C0
  intro n
  induction n with
  | zero => intro H locs ls jbd ja9 jgt jgm jbx jcP jb8 jbK jlJ jbh jh9 jgu l2 hP hD hS hl hw; exact False.elim hw
  | succ n ih =>
    intro H locs ls jbd ja9 jgt jgm jbx jcP jb8 jbK jlJ jbh jh9 jgu l2 hP hD hS hl hw
    refine lv_iload_n hx hb (qaa qkj 11 rfl) rfl (lv_at hl 1 rfl) ?_
    refine lv_bipush (v := 8) hx hb (qaa qkj 12 rfl) (by decide) ?_
    refine lv_icmp_ge (tgt := 65) hx hb (qaa qkj 13 rfl) (by decide) (fun c14 => ?_) (fun c14 => ?_)
    · have hw := hw.1 c14
      refine lv_iconst (v := 0) hx hb (qaa qjF 5 rfl) (by decide) ?_
      refine lv_istore_n (lv' := [(2, .int 0), (0, .ref a0)]) hx hb (qaa qjF 6 rfl) rfl hl (by decide) rfl (fun ls hl => ?_)
      obtain ⟨n9, hw⟩ := hw
      exact qaIx dC dI cyB cyI cyJ cyP a0 jaQ jjr jaW jdj jal jam jax jao ja6 jaV ja8 jae jag jaf ja4 jaP jaw jaI jaZ jaH jaS jan jaU jaE jar jaL jah jaB jaa jaz jaG jab ja2 z0_s jaq jat jau jav jaj jas jaJ jak jad jay jac jaN jbC Q C0 n9 _ _ _ jbd ja9 jgt jgm jbx jcP jb8 jbK jlJ jbh jh9 jgu 0 hP hD hS (lv_sub hl [1, 0] rfl) hw
    · have hw := hw.2 c14
      refine lv_aload_n hx hb (qaa qkj 14 rfl) rfl (lv_at hl 0 rfl) ?_
      refine va_get (D := (dC, dI)) (ci := 11) (v := .ref jjr) (C := RX11) (T := TX11) (N := 55) hx hb hts qoZ hown hK hP 0 rfl rfl 42 (by decide) (hts _ qI6) (fun _ h9 => h9) rfl (qaa qkj 15 rfl) ?_
      refine lv_iload_n hx hb (qaa qjF 0 rfl) rfl (lv_at hl 1 rfl) ?_
      refine lv_iconst (v := (-1)) hx hb (qaa qjF 1 rfl) (by decide) ?_
      obtain ⟨hi9, hw⟩ := hw
      refine va_iast hx hb hK hP hD hS 2 1 rfl rfl hi9 (qaa qjF 2 rfl) (fun H locs hP hD hS => ?_)
      obtain ⟨f15, ef15⟩ : ∃ y : NI, y = upd jlJ l2.toNatClampNeg (-1) := ⟨_, rfl⟩
      have hw := hw f15 ef15
      have hP : va_P (dC, dI) vwCl (qh4 a0 jbd jaQ jgt jbx jcP jb8 jbh jbK jgm jaW jal jam jax jao ja6 jaV ja8 jae jag jaf jaN ja4 jaP jaw jaI jaZ jaH jaS jan jaU jaE jar jaL jah jaB jaa jaz jaG jab ja2 z0_s jaq jjr jdj jh9 jat jau jav jaj jas jaJ jak jad jay jac jaQ cyI ja9 jjr cyI f15 jaW cyI jbC jdj cyI jgu) H := by rw [ef15]; exact hP
      have hD : va_D A (qh4 a0 jbd jaQ jgt jbx jcP jb8 jbh jbK jgm jaW jal jam jax jao ja6 jaV ja8 jae jag jaf jaN ja4 jaP jaw jaI jaZ jaH jaS jan jaU jaE jar jaL jah jaB jaa jaz jaG jab ja2 z0_s jaq jjr jdj jh9 jat jau jav jaj jas jaJ jak jad jay jac jaQ cyI ja9 jjr cyI f15 jaW cyI jbC jdj cyI jgu) := by rw [ef15]; exact hD
      obtain ⟨x16, ex16⟩ : ∃ y : Int32, y = l2 + 1 := ⟨_, rfl⟩
      have hw := hw x16 ex16
      refine lv_iinc (v := x16) (lv' := [(2, .int x16), (0, .ref a0)]) hx hb (qaa qjF 3 rfl) hl (k := 1) rfl (by rw [ex16]; rfl) (by decide) rfl (fun ls hl => ?_)
      refine lv_goto (tgt := 46) hx hb (qaa qjF 4 rfl) (by decide) ?_
      exact ih _ _ _ jbd ja9 jgt jgm jbx jcP jb8 jbK f15 jbh jh9 jgu x16 hP hD hS (lv_sub hl [1, 0] rfl) hw
set_option maxHeartbeats 4000000 in
set_option maxRecDepth 100000 in
theorem q7p {p : Program} {l : Launch} {e : Env} {s : State} {m : MethodId} {args : Array Value} {below : List Frame} {meth : Method} {c : Code} {A : Nat → Prop} (dC : Nat → ClassId) (dI : Nat → Nat → Nat) (cyB cyI cyJ cyP : ClassId) (a0 jaQ jjr jaW jdj : Nat) (jal jam jax jao ja6 jaV ja8 jae jag jaf ja4 jaP jaw jaI jaZ jaH jaS jan jaU jaE jar jaL jah jaB jaa jaz jaG jab ja2 z0_s jaq jat jau jav jaj jas jaJ jak jad jay jac : Value) (jaN : Int32) (jbC : NI) (Q : Int32 → Int32 → NI → Int32 → Int32 → Int32 → Int32 → Int32 → Int32 → NI → Int32 → Int32 → NI → Prop) (C0 : cfx p s m args meth c cX11_book (some .int) wsX11_book RX11 6 A (dC, dI) (kT cyB cyI cyJ cyP)) : ∀ (H : Heap) (locs : List Loc) (ls : Array Slot) (jbd : Int32) (ja9 : NI) (jgt jgm jbx jcP jb8 jbK : Int32) (jlJ : NI) (jbh jh9 : Int32) (jgu : NI) (l1 s1 : Int32), va_P (dC, dI) vwCl (qh4 a0 jbd jaQ jgt jbx jcP jb8 jbh jbK jgm jaW jal jam jax jao ja6 jaV ja8 jae jag jaf jaN ja4 jaP jaw jaI jaZ jaH jaS jan jaU jaE jar jaL jah jaB jaa jaz jaG jab ja2 z0_s jaq jjr jdj jh9 jat jau jav jaj jas jaJ jak jad jay jac jaQ cyI ja9 jjr cyI jlJ jaW cyI jbC jdj cyI jgu) H → va_D A (qh4 a0 jbd jaQ jgt jbx jcP jb8 jbh jbK jgm jaW jal jam jax jao ja6 jaV ja8 jae jag jaf jaN ja4 jaP jaw jaI jaZ jaH jaS jan jaU jaE jar jaL jah jaB jaa jaz jaG jab ja2 z0_s jaq jjr jdj jh9 jat jau jav jaj jas jaJ jak jad jay jac jaQ cyI ja9 jjr cyI jlJ jaW cyI jbC jdj cyI jgu) → va_S A s.heap H locs → lv_has ls 6 [(0, .ref a0), (1, .int l1)] → qTw jaN jbC Q jbd ja9 jgt jgm jbx jcP jb8 jbK jlJ jbh jh9 jgu l1 s1 → W p l e (headSpec wsX11_book ({ frames := 2, cells := 0, slots := 0, locals := 47 })).room s m args below meth c H locs 0 0 (MQ below (va_Qi (fun (r : Int32) (u : Int32 × NI × Int32 × Int32 × Int32 × Int32 × Int32 × Int32 × NI × Int32 × Int32 × NI) => Q r u.1 u.2.1 u.2.2.1 u.2.2.2.1 u.2.2.2.2.1 u.2.2.2.2.2.1 u.2.2.2.2.2.2.1 u.2.2.2.2.2.2.2.1 u.2.2.2.2.2.2.2.2.1 u.2.2.2.2.2.2.2.2.2.1 u.2.2.2.2.2.2.2.2.2.2.1 u.2.2.2.2.2.2.2.2.2.2.2) (cB (dC, dI) (kT cyB cyI cyJ cyP) A (fun u : Int32 × NI × Int32 × Int32 × Int32 × Int32 × Int32 × Int32 × NI × Int32 × Int32 × NI => ((qh4 a0 u.1 jaQ u.2.2.1 u.2.2.2.2.1 u.2.2.2.2.2.1 u.2.2.2.2.2.2.1 u.2.2.2.2.2.2.2.2.2.1 u.2.2.2.2.2.2.2.1 u.2.2.2.1 jaW jal jam jax jao ja6 jaV ja8 jae jag jaf jaN ja4 jaP jaw jaI jaZ jaH jaS jan jaU jaE jar jaL jah jaB jaa jaz jaG jab ja2 z0_s jaq jjr jdj u.2.2.2.2.2.2.2.2.2.2.1 jat jau jav jaj jas jaJ jak jad jay jac jaQ cyI u.2.1 jjr cyI u.2.2.2.2.2.2.2.2.1 jaW cyI jbC jdj cyI u.2.2.2.2.2.2.2.2.2.2.2) : va_W))) A) args s 0 0 A) (F0 m 29 ls [.int s1, .ref a0]) := by
  obtain ⟨hx, hb, hr, hts, hown, hlocks, hml, hA, hK, hNw⟩ := id C0
  intro H locs ls jbd ja9 jgt jgm jbx jcP jb8 jbK jlJ jbh jh9 jgu l1 s1 hP hD hS hl hw
  refine lv_iconst (v := 1) hx hb (qaa qkj 0 rfl) (by decide) ?_
  refine lv_iconst (v := 1) hx hb (qaa qkj 1 rfl) (by decide) ?_
  obtain ⟨hCc, hPc, hDc, hFc⟩ := qac (ws' := (qa6B a0 jbd jaQ jgt jbx jcP jb8 jbh jbK jgm jaW jal jam jax jao ja6 jaV ja8 jae jag jaf jaN ja4 jaP jaw jaI jaZ jaH jaS jan jaU jaE jar jaL jah jaB jaa jaz jaG jab ja2 z0_s jaq jjr jdj jh9 jat jau jav jaj jas jaJ jak jad jay jac jaQ cyI ja9)) hP hD hS hA [0, 1] (by decide +kernel) rfl
  refine va_calli (va_runV (As := [.int s1, .int 1, .int 1]) (rest := []) ⟨hx, hb, hml, hown, hts⟩ (qkO l dC dI cyB cyI cyJ cyP a0 jaQ H.size (.int jgt) (.int jbx) (.int jcP) (.int jb8) (.int jbh) (.int jbK) (.int jgm) (.ref jaW) (jal) (jam) (jax) (jao) (ja6) (jaV) (ja8) (jae) (jag) (jaf) (.int jaN) (ja4) (jaP) (jaw) (jaI) (jaZ) (jaH) (jaS) (jan) (jaU) (jaE) (jar) (jaL) (jah) (jaB) (jaa) (jaz) (jaG) (jab) (ja2) (z0_s) (jaq) (.ref jjr) (.ref jdj) (.int jh9) (jat) (jau) (jav) (jaj) (jas) (jaJ) (jak) (jad) (jay) (jac) jbd ja9 s1 1 1 hw) (cwV 3 hts gX11_book_X11_may rfl rfl rfl (by decide +kernel) ⟨nbq rfl, nbq rfl⟩) ⟨qab, va_recv (q := (RX11, TX11, 55)) hK hPc (ci := 11) (q0 := 0) rfl rfl, qae hPc hK hDc hNw⟩ rfl rfl hl.1 rfl (lv_room (nbq rfl)) (qaa qkj 2 rfl) ⟨nbq rfl, nbq rfl⟩) hS (fun q _ h => hFc q h) hFc (fun r6 u t H1 locs ht hvm hw hB hz1 hk1 hS => ?_)
  obtain ⟨x4, f5⟩ := u
  obtain ⟨hP1, hK1, hD1⟩ := hB
  rw [ht] at hP1
  obtain ⟨hP, hD⟩ := qad (wr := [(jjr, .inl (cyI, 8, .inl jlJ)), (jaW, .inl (cyI, 600, .inl jbC)), (jdj, .inl (cyI, 8, .inl jgu))]) (w1 := (qa6B a0 x4 jaQ jgt jbx jcP jb8 jbh jbK jgm jaW jal jam jax jao ja6 jaV ja8 jae jag jaf jaN ja4 jaP jaw jaI jaZ jaH jaS jan jaU jaE jar jaL jah jaB jaa jaz jaG jab ja2 z0_s jaq jjr jdj jh9 jat jau jav jaj jas jaJ jak jad jay jac jaQ cyI f5)) (wn := (qh4 a0 x4 jaQ jgt jbx jcP jb8 jbh jbK jgm jaW jal jam jax jao ja6 jaV ja8 jae jag jaf jaN ja4 jaP jaw jaI jaZ jaH jaS jan jaU jaE jar jaL jah jaB jaa jaz jaG jab ja2 z0_s jaq jjr jdj jh9 jat jau jav jaj jas jaJ jak jad jay jac jaQ cyI f5 jjr cyI jlJ jaW cyI jbC jdj cyI jgu)) hP hD [0, 1] [2, 3, 4] [3, 4, 0, 1, 2] hCc rfl (by decide +kernel) (by decide +kernel) (by decide +kernel) rfl hk1 hFc hP1 hD1
  generalize H1 = H at hP hS ⊢
  refine lv_if_ne (tgt := 39) hx hb (qaa qkj 3 rfl) (by decide) (fun c7 => ?_) (fun c7 => ?_)
  · have hw := hw.1 c7
    refine lv_aload_n hx hb (qaa qkj 6 rfl) rfl (lv_at hl 0 rfl) ?_
    refine lv_iload_n hx hb (qaa qkj 7 rfl) rfl (lv_at hl 1 rfl) ?_
    obtain ⟨hCc, hPc, hDc, hFc⟩ := qac (ws' := (qNg a0 x4 jaQ jgt jbx jcP jb8 jbh jbK jgm jaW jal jam jax jao ja6 jaV ja8 jae jag jaf jaN ja4 jaP jaw jaI jaZ jaH jaS jan jaU jaE jar jaL jah jaB jaa jaz jaG jab ja2 z0_s jaq jjr jdj jh9 jat jau jav jaj jas jaJ jak jad jay jac)) hP hD hS hA [0] (by decide +kernel) rfl
    refine va_callv (va_runV (As := [.int l1]) (rest := []) ⟨hx, hb, hml, hown, hts⟩ (qOh l dC dI cyB cyI cyJ cyP a0 H.size (.int x4) (.ref jaQ) (.int jbh) (.ref jaW) (jal) (jam) (jax) (jao) (ja6) (jaV) (ja8) (jae) (jag) (jaf) (.int jaN) (ja4) (jaP) (jaw) (jaI) (jaZ) (jaH) (jaS) (jan) (jaU) (jaE) (jar) (jaL) (jah) (jaB) (jaa) (jaz) (jaG) (jab) (ja2) (z0_s) (jaq) (.ref jjr) (.ref jdj) (.int jh9) (jat) (jau) (jav) (jaj) (jas) (jaJ) (jak) (jad) (jay) (jac) jgt jgm jbx jcP jb8 jbK l1 hw) (cwV 1 hts gX11_book_X11_begins rfl rfl rfl (by decide +kernel) ⟨nbq rfl, nbq rfl⟩) ⟨qab, va_recv (q := (RX11, TX11, 55)) hK hPc (ci := 11) (q0 := 0) rfl rfl, qae hPc hK hDc hNw⟩ rfl rfl hl.1 rfl (lv_room (nbq rfl)) (qaa qkj 8 rfl) ⟨nbq rfl, nbq rfl⟩) hS (fun q _ h => hFc q h) hFc (fun u t H1 locs ht hvm hw hB hz1 hk1 hS => ?_)
    obtain ⟨x8, x9, x10, x11, x12, x13⟩ := u
    obtain ⟨hP1, hK1, hD1⟩ := hB
    rw [ht] at hP1
    obtain ⟨hP, hD⟩ := qad (wr := (qanf jaQ cyI f5 jjr cyI jlJ jaW cyI jbC jdj cyI jgu)) (w1 := (qNg a0 x4 jaQ x8 x10 x11 x12 jbh x13 x9 jaW jal jam jax jao ja6 jaV ja8 jae jag jaf jaN ja4 jaP jaw jaI jaZ jaH jaS jan jaU jaE jar jaL jah jaB jaa jaz jaG jab ja2 z0_s jaq jjr jdj jh9 jat jau jav jaj jas jaJ jak jad jay jac)) (wn := (qh4 a0 x4 jaQ x8 x10 x11 x12 jbh x13 x9 jaW jal jam jax jao ja6 jaV ja8 jae jag jaf jaN ja4 jaP jaw jaI jaZ jaH jaS jan jaU jaE jar jaL jah jaB jaa jaz jaG jab ja2 z0_s jaq jjr jdj jh9 jat jau jav jaj jas jaJ jak jad jay jac jaQ cyI f5 jjr cyI jlJ jaW cyI jbC jdj cyI jgu)) hP hD [0] [1, 2, 3, 4] [4, 0, 1, 2, 3] hCc rfl (by decide +kernel) (by decide +kernel) (by decide +kernel) rfl hk1 hFc hP1 hD1
    generalize H1 = H at hP hS ⊢
    refine lv_iconst (v := 0) hx hb (qaa qkj 9 rfl) (by decide) ?_
    refine lv_istore_n (lv' := [(2, .int 0), (0, .ref a0), (1, .int l1)]) hx hb (qaa qkj 10 rfl) rfl hl (by decide) rfl (fun ls hl => ?_)
    obtain ⟨n9, hw⟩ := hw
    exact qaHU dC dI cyB cyI cyJ cyP a0 jaQ jjr jaW jdj jal jam jax jao ja6 jaV ja8 jae jag jaf ja4 jaP jaw jaI jaZ jaH jaS jan jaU jaE jar jaL jah jaB jaa jaz jaG jab ja2 z0_s jaq jat jau jav jaj jas jaJ jak jad jay jac jaN jbC Q C0 n9 _ _ _ x4 f5 x8 x9 x10 x11 x12 x13 jlJ jbh jh9 jgu 0 hP hD hS (lv_sub hl [1, 0] rfl) hw
  · have hw := hw.2 c7
    refine lv_iconst (v := 0) hx hb (qaa qkj 4 rfl) (by decide) ?_
    exact ((W.iret (v := 0) hx hb hr (fun t ht hW => ⟨⟨0, (x4, f5, jgt, jgm, jbx, jcP, jb8, jbK, jlJ, jbh, jh9, jgu), rfl, hw, by rw [ht]; exact hP, va_K.moved hW.alike hK, hD⟩, hS.F ht⟩) hS.2.2 (qaa qkj 5 rfl)))
set_option maxHeartbeats 4000000 in
set_option maxRecDepth 100000 in
theorem qS8 {p : Program} {l : Launch} {e : Env} {s : State} {m : MethodId} {args : Array Value} {below : List Frame} {meth : Method} {c : Code} {A : Nat → Prop} (dC : Nat → ClassId) (dI : Nat → Nat → Nat) (cyB cyI cyJ cyP : ClassId) (a0 jaQ jjr jaW jdj : Nat) (jal jam jax jao ja6 jaV ja8 jae jag jaf ja4 jaP jaw jaI jaZ jaH jaS jan jaU jaE jar jaL jah jaB jaa jaz jaG jab ja2 z0_s jaq jat jau jav jaj jas jaJ jak jad jay jac : Value) (jaN : Int32) (jbC : NI) (Q : Int32 → Int32 → NI → Int32 → Int32 → Int32 → Int32 → Int32 → Int32 → NI → Int32 → Int32 → NI → Prop) (C0 : cfx p s m args meth c cX11_book (some .int) wsX11_book RX11 6 A (dC, dI) (kT cyB cyI cyJ cyP)) : ∀ (H : Heap) (locs : List Loc) (ls : Array Slot) (jbd : Int32) (ja9 : NI) (jgt jgm jbx jcP jb8 jbK : Int32) (jlJ : NI) (jbh jh9 : Int32) (jgu : NI) (l1 : Int32), va_P (dC, dI) vwCl (qh4 a0 jbd jaQ jgt jbx jcP jb8 jbh jbK jgm jaW jal jam jax jao ja6 jaV ja8 jae jag jaf jaN ja4 jaP jaw jaI jaZ jaH jaS jan jaU jaE jar jaL jah jaB jaa jaz jaG jab ja2 z0_s jaq jjr jdj jh9 jat jau jav jaj jas jaJ jak jad jay jac jaQ cyI ja9 jjr cyI jlJ jaW cyI jbC jdj cyI jgu) H → va_D A (qh4 a0 jbd jaQ jgt jbx jcP jb8 jbh jbK jgm jaW jal jam jax jao ja6 jaV ja8 jae jag jaf jaN ja4 jaP jaw jaI jaZ jaH jaS jan jaU jaE jar jaL jah jaB jaa jaz jaG jab ja2 z0_s jaq jjr jdj jh9 jat jau jav jaj jas jaJ jak jad jay jac jaQ cyI ja9 jjr cyI jlJ jaW cyI jbC jdj cyI jgu) → va_S A s.heap H locs → lv_has ls 6 [(0, .ref a0), (1, .int l1)] → qEa jaN jbC Q jbd ja9 jgt jgm jbx jcP jb8 jbK jlJ jbh jh9 jgu l1 → W p l e (headSpec wsX11_book ({ frames := 2, cells := 0, slots := 0, locals := 47 })).room s m args below meth c H locs 0 0 (MQ below (va_Qi (fun (r : Int32) (u : Int32 × NI × Int32 × Int32 × Int32 × Int32 × Int32 × Int32 × NI × Int32 × Int32 × NI) => Q r u.1 u.2.1 u.2.2.1 u.2.2.2.1 u.2.2.2.2.1 u.2.2.2.2.2.1 u.2.2.2.2.2.2.1 u.2.2.2.2.2.2.2.1 u.2.2.2.2.2.2.2.2.1 u.2.2.2.2.2.2.2.2.2.1 u.2.2.2.2.2.2.2.2.2.2.1 u.2.2.2.2.2.2.2.2.2.2.2) (cB (dC, dI) (kT cyB cyI cyJ cyP) A (fun u : Int32 × NI × Int32 × Int32 × Int32 × Int32 × Int32 × Int32 × NI × Int32 × Int32 × NI => ((qh4 a0 u.1 jaQ u.2.2.1 u.2.2.2.2.1 u.2.2.2.2.2.1 u.2.2.2.2.2.2.1 u.2.2.2.2.2.2.2.2.2.1 u.2.2.2.2.2.2.2.1 u.2.2.2.1 jaW jal jam jax jao ja6 jaV ja8 jae jag jaf jaN ja4 jaP jaw jaI jaZ jaH jaS jan jaU jaE jar jaL jah jaB jaa jaz jaG jab ja2 z0_s jaq jjr jdj u.2.2.2.2.2.2.2.2.2.2.1 jat jau jav jaj jas jaJ jak jad jay jac jaQ cyI u.2.1 jjr cyI u.2.2.2.2.2.2.2.2.1 jaW cyI jbC jdj cyI u.2.2.2.2.2.2.2.2.2.2.2) : va_W))) A) args s 0 0 A) (F0 m 28 ls [.ref a0]) := by
  obtain ⟨hx, hb, hr, hts, hown, hlocks, hml, hA, hK, hNw⟩ := id C0
  intro H locs ls jbd ja9 jgt jgm jbx jcP jb8 jbK jlJ jbh jh9 jgu l1 hP hD hS hl hw
  refine lv_iconst (v := 0) hx hb (qaa qmo 15 rfl) (by decide) ?_
  exact q7p dC dI cyB cyI cyJ cyP a0 jaQ jjr jaW jdj jal jam jax jao ja6 jaV ja8 jae jag jaf ja4 jaP jaw jaI jaZ jaH jaS jan jaU jaE jar jaL jah jaB jaa jaz jaG jab ja2 z0_s jaq jat jau jav jaj jas jaJ jak jad jay jac jaN jbC Q C0 _ _ _ jbd ja9 jgt jgm jbx jcP jb8 jbK jlJ jbh jh9 jgu l1 0 hP hD hS (lv_sub hl [0, 1] rfl) hw
set_option maxHeartbeats 4000000 in
set_option maxRecDepth 100000 in
theorem qaXz (l : Launch) (dC : Nat → ClassId) (dI : Nat → Nat → Nat) (cyB cyI cyJ cyP : ClassId) (a0 jaQ jjr jaW jdj sz : Nat) (jal jam jax jao ja6 jaV ja8 jae jag jaf ja4 jaP jaw jaI jaZ jaH jaS jan jaU jaE jar jaL jah jaB jaa jaz jaG jab ja2 z0_s jaq jat jau jav jaj jas jaJ jak jad jay jac : Value) (jaN : Int32) (jbC : NI) (jbd : Int32) (ja9 : NI) (jgt jgm jbx jcP jb8 jbK : Int32) (jlJ : NI) (jbh jh9 : Int32) (jgu : NI) (p1 : Int32) {Q : Int32 → Int32 → NI → Int32 → Int32 → Int32 → Int32 → Int32 → Int32 → NI → Int32 → Int32 → NI → Prop} (hw : qaa3 jaN jbC jbd ja9 jgt jgm jbx jcP jb8 jbK jlJ jbh jh9 jgu p1 Q) : Met l yX11_book wsX11_book ({ frames := 2, cells := 0, slots := 0, locals := 47 }) (va_Pc [.ref a0, .int p1] (cPc (dC, dI) (kT cyB cyI cyJ cyP) (qh4 a0 jbd jaQ jgt jbx jcP jb8 jbh jbK jgm jaW jal jam jax jao ja6 jaV ja8 jae jag jaf jaN ja4 jaP jaw jaI jaZ jaH jaS jan jaU jaE jar jaL jah jaB jaa jaz jaG jab ja2 z0_s jaq jjr jdj jh9 jat jau jav jaj jas jaJ jak jad jay jac jaQ cyI ja9 jjr cyI jlJ jaW cyI jbC jdj cyI jgu) sz)) (va_Qi (fun (r : Int32) (u : Int32 × NI × Int32 × Int32 × Int32 × Int32 × Int32 × Int32 × NI × Int32 × Int32 × NI) => Q r u.1 u.2.1 u.2.2.1 u.2.2.2.1 u.2.2.2.2.1 u.2.2.2.2.2.1 u.2.2.2.2.2.2.1 u.2.2.2.2.2.2.2.1 u.2.2.2.2.2.2.2.2.1 u.2.2.2.2.2.2.2.2.2.1 u.2.2.2.2.2.2.2.2.2.2.1 u.2.2.2.2.2.2.2.2.2.2.2) (cB (dC, dI) (kT cyB cyI cyJ cyP) (va_A (qh4 a0 jbd jaQ jgt jbx jcP jb8 jbh jbK jgm jaW jal jam jax jao ja6 jaV ja8 jae jag jaf jaN ja4 jaP jaw jaI jaZ jaH jaS jan jaU jaE jar jaL jah jaB jaa jaz jaG jab ja2 z0_s jaq jjr jdj jh9 jat jau jav jaj jas jaJ jak jad jay jac jaQ cyI ja9 jjr cyI jlJ jaW cyI jbC jdj cyI jgu) sz) (fun u : Int32 × NI × Int32 × Int32 × Int32 × Int32 × Int32 × Int32 × NI × Int32 × Int32 × NI => ((qh4 a0 u.1 jaQ u.2.2.1 u.2.2.2.2.1 u.2.2.2.2.2.1 u.2.2.2.2.2.2.1 u.2.2.2.2.2.2.2.2.2.1 u.2.2.2.2.2.2.2.1 u.2.2.2.1 jaW jal jam jax jao ja6 jaV ja8 jae jag jaf jaN ja4 jaP jaw jaI jaZ jaH jaS jan jaU jaE jar jaL jah jaB jaa jaz jaG jab ja2 z0_s jaq jjr jdj u.2.2.2.2.2.2.2.2.2.2.1 jat jau jav jaj jas jaJ jak jad jay jac jaQ cyI u.2.1 jjr cyI u.2.2.2.2.2.2.2.2.1 jaW cyI jbC jdj cyI u.2.2.2.2.2.2.2.2.2.2.2) : va_W))) (va_A (qh4 a0 jbd jaQ jgt jbx jcP jb8 jbh jbK jgm jaW jal jam jax jao ja6 jaV ja8 jae jag jaf jaN ja4 jaP jaw jaI jaZ jaH jaS jan jaU jaE jar jaL jah jaB jaa jaz jaG jab ja2 z0_s jaq jjr jdj jh9 jat jau jav jaj jas jaJ jak jad jay jac jaQ cyI ja9 jjr cyI jlJ jaW cyI jbC jdj cyI jgu) sz)) 0 0 (va_A (qh4 a0 jbd jaQ jgt jbx jcP jb8 jbh jbK jgm jaW jal jam jax jao ja6 jaV ja8 jae jag jaf jaN ja4 jaP jaw jaI jaZ jaH jaS jan jaU jaE jar jaL jah jaB jaa jaz jaG jab ja2 z0_s jaq jjr jdj jh9 jat jau jav jaj jas jaJ jak jad jay jac jaQ cyI ja9 jjr cyI jlJ jaW cyI jbC jdj cyI jgu) sz) := by
  refine Met.ofW (cc := cX11_book) (maxL := 6) (ret := (some .int)) (by decide) rfl ?_
  intro p e s m args below meth c s₁ B hml hv
  obtain ⟨rfl, hsz, hP, hK, hD0, hNw⟩ := hv
  have hx := B.exec
  have hb := B.bytes
  have hr := B.returns
  have hts := atoms_spec (ws := wsX11_book) B.pre
  have hown : s.vm.findClass RX11 = some m.cls := findClass_of_methodNamed B.named
  have hlocks := B.notSynchronized
  subst hsz
  have hD := hD0.self (sz := s.heap.size)
  generalize hAe : va_A (qh4 a0 jbd jaQ jgt jbx jcP jb8 jbh jbK jgm jaW jal jam jax jao ja6 jaV ja8 jae jag jaf jaN ja4 jaP jaw jaI jaZ jaH jaS jan jaU jaE jar jaL jah jaB jaa jaz jaG jab ja2 z0_s jaq jjr jdj jh9 jat jau jav jaj jas jaJ jak jad jay jac jaQ cyI ja9 jjr cyI jlJ jaW cyI jbC jdj cyI jgu) s.heap.size = A at hD ⊢
  have hA : ∀ q : Nat, s.heap.size ≤ q → A q := fun q h => by rw [← hAe]; exact Or.inr h
  have hS : va_S A s.heap s.heap [] := va_S.rf
  have hP : va_P (dC, dI) vwCl (qh4 a0 jbd jaQ jgt jbx jcP jb8 jbh jbK jgm jaW jal jam jax jao ja6 jaV ja8 jae jag jaf jaN ja4 jaP jaw jaI jaZ jaH jaS jan jaU jaE jar jaL jah jaB jaa jaz jaG jab ja2 z0_s jaq jjr jdj jh9 jat jau jav jaj jas jaJ jak jad jay jac jaQ cyI ja9 jjr cyI jlJ jaW cyI jbC jdj cyI jgu) s.heap := hP
  have hl := lv_entry ([.ref a0, .int p1]) (n := 6) (nbq rfl)
  rw [lg_entry_eq]
  generalize (lg_sl ([.ref a0, .int p1]) ++ List.replicate (6 - (lg_sl ([.ref a0, .int p1])).length) Slot.unset).toArray = ls at hl ⊢
  have hl : lv_has ls 6 [(0, .ref a0), (1, .int p1)] := hl
  have C0 : cfx p s m _ meth c cX11_book (some .int) wsX11_book RX11 6 A (dC, dI) (kT cyB cyI cyJ cyP) := ⟨hx, hb, hr, hts, hown, hlocks, hml, hA, hK, hNw⟩
  clear hAe
  obtain ⟨H, hH⟩ : ∃ H, H = s.heap := ⟨_, rfl⟩
  rw [← hH] at hP ⊢
  have hS : va_S A s.heap H [] := by rw [hH]; exact va_S.rf
  have hS := hS
  refine lv_aload_n hx hb (qaa qmo 0 rfl) rfl (lv_at hl 0 rfl) ?_
  refine lv_iconst (v := 0) hx hb (qaa qmo 1 rfl) (by decide) ?_
  refine va_put (D := (dC, dI)) (ci := 11) (v := .int 0) (ty := .int) (C := RX11) (T := TX11) (N := 55) hx hb hts qoZ tyX11 tyX11_ok nmX11 hown hK hP hD hS 0 rfl rfl 0 (by decide) (hts _ qaIR) (fun _ h9 => h9) rfl (by decide +kernel) rfl rfl (nbq rfl) (qaa qmo 2 rfl) (fun H locs hP hD hS => ?_)
  have hP : va_P (dC, dI) vwCl (qh4 a0 0 jaQ jgt jbx jcP jb8 jbh jbK jgm jaW jal jam jax jao ja6 jaV ja8 jae jag jaf jaN ja4 jaP jaw jaI jaZ jaH jaS jan jaU jaE jar jaL jah jaB jaa jaz jaG jab ja2 z0_s jaq jjr jdj jh9 jat jau jav jaj jas jaJ jak jad jay jac jaQ cyI ja9 jjr cyI jlJ jaW cyI jbC jdj cyI jgu) H := hP
  have hD : va_D A (qh4 a0 0 jaQ jgt jbx jcP jb8 jbh jbK jgm jaW jal jam jax jao ja6 jaV ja8 jae jag jaf jaN ja4 jaP jaw jaI jaZ jaH jaS jan jaU jaE jar jaL jah jaB jaa jaz jaG jab ja2 z0_s jaq jjr jdj jh9 jat jau jav jaj jas jaJ jak jad jay jac jaQ cyI ja9 jjr cyI jlJ jaW cyI jbC jdj cyI jgu) := hD
  refine lv_aload_n hx hb (qaa qmo 3 rfl) rfl (lv_at hl 0 rfl) ?_
  refine lv_iload_n hx hb (qaa qmo 4 rfl) rfl (lv_at hl 1 rfl) ?_
  refine lv_if_lt (tgt := 28) hx hb (qaa qmo 5 rfl) (by decide) (fun c1 => ?_) (fun c1 => ?_)
  · have hw := hw.1 c1
    exact qS8 dC dI cyB cyI cyJ cyP a0 jaQ jjr jaW jdj jal jam jax jao ja6 jaV ja8 jae jag jaf ja4 jaP jaw jaI jaZ jaH jaS jan jaU jaE jar jaL jah jaB jaa jaz jaG jab ja2 z0_s jaq jat jau jav jaj jas jaJ jak jad jay jac jaN jbC Q C0 _ _ _ 0 ja9 jgt jgm jbx jcP jb8 jbK jlJ jbh jh9 jgu p1 hP hD hS (lv_sub hl [0, 1] rfl) hw
  · have hw := hw.2 c1
    refine lv_iload_n hx hb (qaa qmo 6 rfl) rfl (lv_at hl 1 rfl) ?_
    refine lv_aload_n hx hb (qaa qmo 7 rfl) rfl (lv_at hl 0 rfl) ?_
    refine va_get (D := (dC, dI)) (ci := 11) (v := .int jgt) (C := RX11) (T := TX11) (N := 55) hx hb hts qoZ hown hK hP 0 rfl rfl 2 (by decide) (hts _ qatn) (fun _ h9 => h9) rfl (qaa qmo 8 rfl) ?_
    refine lv_icmp_gt (tgt := 28) hx hb (qaa qmo 9 rfl) (by decide) (fun c2 => ?_) (fun c2 => ?_)
    · have hw := hw.1 c2
      exact qS8 dC dI cyB cyI cyJ cyP a0 jaQ jjr jaW jdj jal jam jax jao ja6 jaV ja8 jae jag jaf ja4 jaP jaw jaI jaZ jaH jaS jan jaU jaE jar jaL jah jaB jaa jaz jaG jab ja2 z0_s jaq jat jau jav jaj jas jaJ jak jad jay jac jaN jbC Q C0 _ _ _ 0 ja9 jgt jgm jbx jcP jb8 jbK jlJ jbh jh9 jgu p1 hP hD hS (lv_sub hl [0, 1] rfl) hw
    · have hw := hw.2 c2
      refine lv_iload_n hx hb (qaa qmo 10 rfl) rfl (lv_at hl 1 rfl) ?_
      refine lv_bipush (v := 60) hx hb (qaa qmo 11 rfl) (by decide) ?_
      refine lv_icmp_gt (tgt := 28) hx hb (qaa qmo 12 rfl) (by decide) (fun c3 => ?_) (fun c3 => ?_)
      · have hw := hw.1 c3
        exact qS8 dC dI cyB cyI cyJ cyP a0 jaQ jjr jaW jdj jal jam jax jao ja6 jaV ja8 jae jag jaf ja4 jaP jaw jaI jaZ jaH jaS jan jaU jaE jar jaL jah jaB jaa jaz jaG jab ja2 z0_s jaq jat jau jav jaj jas jaJ jak jad jay jac jaN jbC Q C0 _ _ _ 0 ja9 jgt jgm jbx jcP jb8 jbK jlJ jbh jh9 jgu p1 hP hD hS (lv_sub hl [0, 1] rfl) hw
      · have hw := hw.2 c3
        refine lv_iconst (v := 1) hx hb (qaa qmo 13 rfl) (by decide) ?_
        refine lv_goto (tgt := 29) hx hb (qaa qmo 14 rfl) (by decide) ?_
        exact q7p dC dI cyB cyI cyJ cyP a0 jaQ jjr jaW jdj jal jam jax jao ja6 jaV ja8 jae jag jaf ja4 jaP jaw jaI jaZ jaH jaS jan jaU jaE jar jaL jah jaB jaa jaz jaG jab ja2 z0_s jaq jat jau jav jaj jas jaJ jak jad jay jac jaN jbC Q C0 _ _ _ 0 ja9 jgt jgm jbx jcP jb8 jbK jlJ jbh jh9 jgu p1 1 hP hD hS (lv_sub hl [0, 1] rfl) hw
set_option maxHeartbeats 4000000 in
set_option maxRecDepth 100000 in
theorem q8l {p : Program} {l : Launch} {e : Env} {s : State} {m : MethodId} {args : Array Value} {below : List Frame} {meth : Method} {c : Code} {A : Nat → Prop} (dC : Nat → ClassId) (dI : Nat → Nat → Nat) (cyB cyI cyJ cyP : ClassId) (Q : Int32 → Prop) (C0 : cfx p s m args meth c cX11_both (some .int) wsX11_both RX11 3 A (dC, dI) (kT cyB cyI cyJ cyP)) : ∀ (H : Heap) (locs : List Loc) (ls : Array Slot) (l0 l1 l2 : Int32), va_P (dC, dI) vwCl [] H → va_D A [] → va_S A s.heap H locs → lv_has ls 3 [(0, .int l0), (1, .int l1), (2, .int l2)] → qTN Q l0 l1 l2 → W p l e (headSpec wsX11_both ({ frames := 0, cells := 0, slots := 0, locals := 0 })).room s m args below meth c H locs 0 0 (MQ below (va_Qi (fun (r : Int32) (_ : Unit) => Q r ) (cB (dC, dI) (kT cyB cyI cyJ cyP) A (fun u : Unit => ([] : va_W))) A) args s 0 0 A) (F0 m 38 ls []) := by
  obtain ⟨hx, hb, hr, hts, hown, hlocks, hml, hA, hK, hNw⟩ := id C0
  intro H locs ls l0 l1 l2 hP hD hS hl hw
  refine lv_iload_n hx hb (qaa qks 7 rfl) rfl (lv_at hl 2 rfl) ?_
  refine lv_if_ne (tgt := 46) hx hb (qaa qks 8 rfl) (by decide) (fun c7 => ?_) (fun c7 => ?_)
  · have hw := hw.1 c7
    refine lv_iload_n hx hb (qaa qks 11 rfl) rfl (lv_at hl 0 rfl) ?_
    refine lv_iconst (v := 5) hx hb (qaa qks 12 rfl) (by decide) ?_
    refine lv_icmp_ne (tgt := 57) hx hb (qaa qks 13 rfl) (by decide) (fun c8 => ?_) (fun c8 => ?_)
    · have hw := hw.1 c8
      refine lv_iload_n hx hb (qaa qgp 2 rfl) rfl (lv_at hl 1 rfl) ?_
      refine lv_iload_n hx hb (qaa qgp 3 rfl) rfl (lv_at hl 2 rfl) ?_
      obtain ⟨hz9, hw⟩ := hw
      refine lv_irem hx hb (qaa qgp 4 rfl) hz9 ?_
      refine lv_topi (fun x9 ex9 => ?_)
      have hw := hw x9 ex9
      exact ((W.iret (v := x9) hx hb hr (fun t ht hW => ⟨⟨x9, (), rfl, hw, by rw [ht]; exact hP, va_K.moved hW.alike hK, hD⟩, hS.F ht⟩) hS.2.2 (qaa qgp 5 rfl)))
    · have hw := hw.2 c8
      refine lv_iload_n hx hb (qaa qks 14 rfl) rfl (lv_at hl 1 rfl) ?_
      refine lv_iload_n hx hb (qaa qks 15 rfl) rfl (lv_at hl 2 rfl) ?_
      obtain ⟨hz9, hw⟩ := hw
      refine lv_idiv hx hb (qaa qgp 0 rfl) hz9 ?_
      refine lv_topi (fun x10 ex10 => ?_)
      have hw := hw x10 ex10
      refine lv_goto (tgt := 60) hx hb (qaa qgp 1 rfl) (by decide) ?_
      exact ((W.iret (v := x10) hx hb hr (fun t ht hW => ⟨⟨x10, (), rfl, hw, by rw [ht]; exact hP, va_K.moved hW.alike hK, hD⟩, hS.F ht⟩) hS.2.2 (qaa qgp 5 rfl)))
  · have hw := hw.2 c7
    refine lv_iconst (v := 0) hx hb (qaa qks 9 rfl) (by decide) ?_
    refine lv_goto (tgt := 60) hx hb (qaa qks 10 rfl) (by decide) ?_
    exact ((W.iret (v := 0) hx hb hr (fun t ht hW => ⟨⟨0, (), rfl, hw, by rw [ht]; exact hP, va_K.moved hW.alike hK, hD⟩, hS.F ht⟩) hS.2.2 (qaa qgp 5 rfl)))
set_option maxHeartbeats 4000000 in
set_option maxRecDepth 100000 in
theorem q7h {p : Program} {l : Launch} {e : Env} {s : State} {m : MethodId} {args : Array Value} {below : List Frame} {meth : Method} {c : Code} {A : Nat → Prop} (dC : Nat → ClassId) (dI : Nat → Nat → Nat) (cyB cyI cyJ cyP : ClassId) (Q : Int32 → Prop) (C0 : cfx p s m args meth c cX11_both (some .int) wsX11_both RX11 3 A (dC, dI) (kT cyB cyI cyJ cyP)) : ∀ (H : Heap) (locs : List Loc) (ls : Array Slot) (l1 l2 s0 s1 : Int32), va_P (dC, dI) vwCl [] H → va_D A [] → va_S A s.heap H locs → lv_has ls 3 [(1, .int l1), (2, .int l2)] → qUw Q l1 l2 s0 s1 → W p l e (headSpec wsX11_both ({ frames := 0, cells := 0, slots := 0, locals := 0 })).room s m args below meth c H locs 0 0 (MQ below (va_Qi (fun (r : Int32) (_ : Unit) => Q r ) (cB (dC, dI) (kT cyB cyI cyJ cyP) A (fun u : Unit => ([] : va_W))) A) args s 0 0 A) (F0 m 82 ls [.int s1, .int s0]) := by
  obtain ⟨hx, hb, hr, hts, hown, hlocks, hml, hA, hK, hNw⟩ := id C0
  intro H locs ls l1 l2 s0 s1 hP hD hS hl hw
  refine lv_icmp_ne (tgt := 89) hx hb (qaa qvd 2 rfl) (by decide) (fun c12 => ?_) (fun c12 => ?_)
  · have hw := hw.1 c12
    refine lv_iload_n hx hb (qaa qvd 5 rfl) rfl (lv_at hl 1 rfl) ?_
    exact ((W.iret (v := l2) hx hb hr (fun t ht hW => ⟨⟨l2, (), rfl, hw, by rw [ht]; exact hP, va_K.moved hW.alike hK, hD⟩, hS.F ht⟩) hS.2.2 (qaa qvd 6 rfl)))
  · have hw := hw.2 c12
    refine lv_iload_n hx hb (qaa qvd 3 rfl) rfl (lv_at hl 0 rfl) ?_
    refine lv_goto (tgt := 90) hx hb (qaa qvd 4 rfl) (by decide) ?_
    exact ((W.iret (v := l1) hx hb hr (fun t ht hW => ⟨⟨l1, (), rfl, hw, by rw [ht]; exact hP, va_K.moved hW.alike hK, hD⟩, hS.F ht⟩) hS.2.2 (qaa qvd 6 rfl)))
set_option maxHeartbeats 4000000 in
set_option maxRecDepth 100000 in
theorem q7L {p : Program} {l : Launch} {e : Env} {s : State} {m : MethodId} {args : Array Value} {below : List Frame} {meth : Method} {c : Code} {A : Nat → Prop} (dC : Nat → ClassId) (dI : Nat → Nat → Nat) (cyB cyI cyJ cyP : ClassId) (Q : Int32 → Prop) (C0 : cfx p s m args meth c cX11_both (some .int) wsX11_both RX11 3 A (dC, dI) (kT cyB cyI cyJ cyP)) : ∀ (H : Heap) (locs : List Loc) (ls : Array Slot) (l0 l1 l2 s0 : Int32), va_P (dC, dI) vwCl [] H → va_D A [] → va_S A s.heap H locs → lv_has ls 3 [(0, .int l0), (1, .int l1), (2, .int l2)] → qTM Q l0 l1 l2 s0 → W p l e (headSpec wsX11_both ({ frames := 0, cells := 0, slots := 0, locals := 0 })).room s m args below meth c H locs 0 0 (MQ below (va_Qi (fun (r : Int32) (_ : Unit) => Q r ) (cB (dC, dI) (kT cyB cyI cyJ cyP) A (fun u : Unit => ([] : va_W))) A) args s 0 0 A) (F0 m 71 ls [.int s0]) := by
  obtain ⟨hx, hb, hr, hts, hown, hlocks, hml, hA, hK, hNw⟩ := id C0
  intro H locs ls l0 l1 l2 s0 hP hD hS hl hw
  refine lv_iload_n hx hb (qaa qgp 12 rfl) rfl (lv_at hl 0 rfl) ?_
  refine lv_bipush (v := 6) hx hb (qaa qgp 13 rfl) (by decide) ?_
  refine lv_icmp_ne (tgt := 81) hx hb (qaa qgp 14 rfl) (by decide) (fun c11 => ?_) (fun c11 => ?_)
  · have hw := hw.1 c11
    refine lv_iconst (v := 0) hx hb (qaa qvd 1 rfl) (by decide) ?_
    exact q7h dC dI cyB cyI cyJ cyP Q C0 _ _ _ l1 l2 s0 0 hP hD hS (lv_sub hl [1, 2] rfl) hw
  · have hw := hw.2 c11
    refine lv_iconst (v := 1) hx hb (qaa qgp 15 rfl) (by decide) ?_
    refine lv_goto (tgt := 82) hx hb (qaa qvd 0 rfl) (by decide) ?_
    exact q7h dC dI cyB cyI cyJ cyP Q C0 _ _ _ l1 l2 s0 1 hP hD hS (lv_sub hl [1, 2] rfl) hw
set_option maxHeartbeats 4000000 in
set_option maxRecDepth 100000 in
theorem qaW3 (l : Launch) (dC : Nat → ClassId) (dI : Nat → Nat → Nat) (cyB cyI cyJ cyP : ClassId) (sz : Nat) (p0 p1 p2 : Int32) {Q : Int32 → Prop} (hw : qXv p0 p1 p2 Q) : Met l yX11_both wsX11_both ({ frames := 0, cells := 0, slots := 0, locals := 0 }) (va_Pc [.int p0, .int p1, .int p2] (cPc (dC, dI) (kT cyB cyI cyJ cyP) [] sz)) (va_Qi (fun (r : Int32) (_ : Unit) => Q r ) (cB (dC, dI) (kT cyB cyI cyJ cyP) (va_A [] sz) (fun u : Unit => ([] : va_W))) (va_A [] sz)) 0 0 (va_A [] sz) := by
  refine Met.ofW (cc := cX11_both) (maxL := 3) (ret := (some .int)) (by decide) rfl ?_
  intro p e s m args below meth c s₁ B hml hv
  obtain ⟨rfl, hsz, hP, hK, hD0, hNw⟩ := hv
  have hx := B.exec
  have hb := B.bytes
  have hr := B.returns
  have hts := atoms_spec (ws := wsX11_both) B.pre
  have hown : s.vm.findClass RX11 = some m.cls := findClass_of_methodNamed B.named
  have hlocks := B.notSynchronized
  subst hsz
  have hD := hD0.self (sz := s.heap.size)
  generalize hAe : va_A [] s.heap.size = A at hD ⊢
  have hA : ∀ q : Nat, s.heap.size ≤ q → A q := fun q h => by rw [← hAe]; exact Or.inr h
  have hS : va_S A s.heap s.heap [] := va_S.rf
  have hP : va_P (dC, dI) vwCl [] s.heap := hP
  have hl := lv_entry ([.int p0, .int p1, .int p2]) (n := 3) (nbq rfl)
  rw [lg_entry_eq]
  generalize (lg_sl ([.int p0, .int p1, .int p2]) ++ List.replicate (3 - (lg_sl ([.int p0, .int p1, .int p2])).length) Slot.unset).toArray = ls at hl ⊢
  have hl : lv_has ls 3 [(0, .int p0), (1, .int p1), (2, .int p2)] := hl
  have C0 : cfx p s m _ meth c cX11_both (some .int) wsX11_both RX11 3 A (dC, dI) (kT cyB cyI cyJ cyP) := ⟨hx, hb, hr, hts, hown, hlocks, hml, hA, hK, hNw⟩
  clear hAe
  obtain ⟨H, hH⟩ : ∃ H, H = s.heap := ⟨_, rfl⟩
  rw [← hH] at hP ⊢
  have hS : va_S A s.heap H [] := by rw [hH]; exact va_S.rf
  have hS := hS
  refine lv_iload_n hx hb (qaa qmG 0 rfl) rfl (lv_at hl 0 rfl) ?_
  refine lv_iconst (v := 2) hx hb (qaa qmG 1 rfl) (by decide) ?_
  refine lv_icmp_ne (tgt := 9) hx hb (qaa qmG 2 rfl) (by decide) (fun c1 => ?_) (fun c1 => ?_)
  · have hw := hw.1 c1
    refine lv_iload_n hx hb (qaa qmG 7 rfl) rfl (lv_at hl 0 rfl) ?_
    refine lv_iconst (v := 3) hx hb (qaa qmG 8 rfl) (by decide) ?_
    refine lv_icmp_ne (tgt := 18) hx hb (qaa qmG 9 rfl) (by decide) (fun c2 => ?_) (fun c2 => ?_)
    · have hw := hw.1 c2
      refine lv_iload_n hx hb (qaa qmG 14 rfl) rfl (lv_at hl 0 rfl) ?_
      refine lv_iconst (v := 4) hx hb (qaa qmG 15 rfl) (by decide) ?_
      refine lv_icmp_ne (tgt := 27) hx hb (qaa qK4 0 rfl) (by decide) (fun c3 => ?_) (fun c3 => ?_)
      · have hw := hw.1 c3
        refine lv_iload_n hx hb (qaa qks 1 rfl) rfl (lv_at hl 0 rfl) ?_
        refine lv_iconst (v := 5) hx hb (qaa qks 2 rfl) (by decide) ?_
        refine lv_icmp_eq (tgt := 38) hx hb (qaa qks 3 rfl) (by decide) (fun c4 => ?_) (fun c4 => ?_)
        · have hw := hw.1 c4
          exact q8l dC dI cyB cyI cyJ cyP Q C0 _ _ _ p0 p1 p2 hP hD hS (lv_sub hl [0, 1, 2] rfl) hw
        · have hw := hw.2 c4
          refine lv_iload_n hx hb (qaa qks 4 rfl) rfl (lv_at hl 0 rfl) ?_
          refine lv_bipush (v := 8) hx hb (qaa qks 5 rfl) (by decide) ?_
          refine lv_icmp_ne (tgt := 61) hx hb (qaa qks 6 rfl) (by decide) (fun c5 => ?_) (fun c5 => ?_)
          · have hw := hw.1 c5
            refine lv_iload_n hx hb (qaa qgp 6 rfl) rfl (lv_at hl 1 rfl) ?_
            refine lv_iload_n hx hb (qaa qgp 7 rfl) rfl (lv_at hl 2 rfl) ?_
            refine lv_icmp_ge (tgt := 70) hx hb (qaa qgp 8 rfl) (by decide) (fun c6 => ?_) (fun c6 => ?_)
            · have hw := hw.1 c6
              refine lv_iconst (v := 0) hx hb (qaa qgp 11 rfl) (by decide) ?_
              exact q7L dC dI cyB cyI cyJ cyP Q C0 _ _ _ p0 p1 p2 0 hP hD hS (lv_sub hl [0, 1, 2] rfl) hw
            · have hw := hw.2 c6
              refine lv_iconst (v := 1) hx hb (qaa qgp 9 rfl) (by decide) ?_
              refine lv_goto (tgt := 71) hx hb (qaa qgp 10 rfl) (by decide) ?_
              exact q7L dC dI cyB cyI cyJ cyP Q C0 _ _ _ p0 p1 p2 1 hP hD hS (lv_sub hl [0, 1, 2] rfl) hw
          · have hw := hw.2 c5
            exact q8l dC dI cyB cyI cyJ cyP Q C0 _ _ _ p0 p1 p2 hP hD hS (lv_sub hl [0, 1, 2] rfl) hw
      · have hw := hw.2 c3
        refine lv_iload_n hx hb (qaa qK4 1 rfl) rfl (lv_at hl 1 rfl) ?_
        refine lv_iload_n hx hb (qaa qK4 2 rfl) rfl (lv_at hl 2 rfl) ?_
        refine lv_imul hx hb (qaa qK4 3 rfl) ?_
        exact ((W.iret (v := (p1 * p2)) hx hb hr (fun t ht hW => ⟨⟨(p1 * p2), (), rfl, hw, by rw [ht]; exact hP, va_K.moved hW.alike hK, hD⟩, hS.F ht⟩) hS.2.2 (qaa qks 0 rfl)))
    · have hw := hw.2 c2
      refine lv_iload_n hx hb (qaa qmG 10 rfl) rfl (lv_at hl 1 rfl) ?_
      refine lv_iload_n hx hb (qaa qmG 11 rfl) rfl (lv_at hl 2 rfl) ?_
      refine lv_isub hx hb (qaa qmG 12 rfl) ?_
      exact ((W.iret (v := (p1 - p2)) hx hb hr (fun t ht hW => ⟨⟨(p1 - p2), (), rfl, hw, by rw [ht]; exact hP, va_K.moved hW.alike hK, hD⟩, hS.F ht⟩) hS.2.2 (qaa qmG 13 rfl)))
  · have hw := hw.2 c1
    refine lv_iload_n hx hb (qaa qmG 3 rfl) rfl (lv_at hl 1 rfl) ?_
    refine lv_iload_n hx hb (qaa qmG 4 rfl) rfl (lv_at hl 2 rfl) ?_
    refine lv_iadd hx hb (qaa qmG 5 rfl) ?_
    exact ((W.iret (v := (p1 + p2)) hx hb hr (fun t ht hW => ⟨⟨(p1 + p2), (), rfl, hw, by rw [ht]; exact hP, va_K.moved hW.alike hK, hD⟩, hS.F ht⟩) hS.2.2 (qaa qmG 6 rfl)))
theorem qajy : ∀ w ∈ u_ws RX11 TX11 55, w ∈ wsX11_isHare := uiM qGg qga (by decide +kernel)
theorem qahd : (.fieldLink RX11 169 "MarchHaresModel" "hares" "I" : Cond) ∈ wsX11_isHare := qGg 520 (by decide +kernel)
set_option maxHeartbeats 4000000 in
set_option maxRecDepth 100000 in
theorem qtz (l : Launch) (dC : Nat → ClassId) (dI : Nat → Nat → Nat) (cyB cyI cyJ cyP : ClassId) (a0 jaQ sz : Nat) (jaD ja7 jby jbf jaM jaY jap jaK jal jam jax jao ja6 jaV ja8 jae jag jaf ja0 jaP jaw jaI jaZ jaH jaS jan jaU jaE jar jaL jah jaB jaa jaz jaG jab ja2 z0_s jaq jai jaO jaA jat jau jav jaj jas jaJ jak jad jay jac : Value) (jaC jbd : Int32) (ja9 : NI) (p1 p2 : Int32) {Q : Int32 → Int32 → NI → Prop} (hw : qqP jaC jbd ja9 p1 p2 Q) : Met l yX11_isHare wsX11_isHare ({ frames := 1, cells := 0, slots := 0, locals := 23 }) (va_Pc [.ref a0, .int p1, .int p2] (cPc (dC, dI) (kT cyB cyI cyJ cyP) (qME a0 jbd jaQ jaD ja7 jby jbf jaM jaY jap jaK jal jam jax jao ja6 jaV ja8 jae jag jaf ja0 jaC jaP jaw jaI jaZ jaH jaS jan jaU jaE jar jaL jah jaB jaa jaz jaG jab ja2 z0_s jaq jai jaO jaA jat jau jav jaj jas jaJ jak jad jay jac jaQ cyI ja9) sz)) (va_Qi (fun (r : Int32) (u : Int32 × NI) => Q r u.1 u.2) (cB (dC, dI) (kT cyB cyI cyJ cyP) (va_A (qME a0 jbd jaQ jaD ja7 jby jbf jaM jaY jap jaK jal jam jax jao ja6 jaV ja8 jae jag jaf ja0 jaC jaP jaw jaI jaZ jaH jaS jan jaU jaE jar jaL jah jaB jaa jaz jaG jab ja2 z0_s jaq jai jaO jaA jat jau jav jaj jas jaJ jak jad jay jac jaQ cyI ja9) sz) (fun u : Int32 × NI => ((qME a0 u.1 jaQ jaD ja7 jby jbf jaM jaY jap jaK jal jam jax jao ja6 jaV ja8 jae jag jaf ja0 jaC jaP jaw jaI jaZ jaH jaS jan jaU jaE jar jaL jah jaB jaa jaz jaG jab ja2 z0_s jaq jai jaO jaA jat jau jav jaj jas jaJ jak jad jay jac jaQ cyI u.2) : va_W))) (va_A (qME a0 jbd jaQ jaD ja7 jby jbf jaM jaY jap jaK jal jam jax jao ja6 jaV ja8 jae jag jaf ja0 jaC jaP jaw jaI jaZ jaH jaS jan jaU jaE jar jaL jah jaB jaa jaz jaG jab ja2 z0_s jaq jai jaO jaA jat jau jav jaj jas jaJ jak jad jay jac jaQ cyI ja9) sz)) 0 0 (va_A (qME a0 jbd jaQ jaD ja7 jby jbf jaM jaY jap jaK jal jam jax jao ja6 jaV ja8 jae jag jaf ja0 jaC jaP jaw jaI jaZ jaH jaS jan jaU jaE jar jaL jah jaB jaa jaz jaG jab ja2 z0_s jaq jai jaO jaA jat jau jav jaj jas jaJ jak jad jay jac jaQ cyI ja9) sz) := by
  refine Met.ofW (cc := cX11_isHare) (maxL := 3) (ret := (some .boolean)) (by decide) rfl ?_
  intro p e s m args below meth c s₁ B hml hv
  obtain ⟨rfl, hsz, hP, hK, hD0, hNw⟩ := hv
  have hx := B.exec
  have hb := B.bytes
  have hr := B.returns
  have hts := atoms_spec (ws := wsX11_isHare) B.pre
  have hown : s.vm.findClass RX11 = some m.cls := findClass_of_methodNamed B.named
  have hlocks := B.notSynchronized
  subst hsz
  have hD := hD0.self (sz := s.heap.size)
  generalize hAe : va_A (qME a0 jbd jaQ jaD ja7 jby jbf jaM jaY jap jaK jal jam jax jao ja6 jaV ja8 jae jag jaf ja0 jaC jaP jaw jaI jaZ jaH jaS jan jaU jaE jar jaL jah jaB jaa jaz jaG jab ja2 z0_s jaq jai jaO jaA jat jau jav jaj jas jaJ jak jad jay jac jaQ cyI ja9) s.heap.size = A at hD ⊢
  have hA : ∀ q : Nat, s.heap.size ≤ q → A q := fun q h => by rw [← hAe]; exact Or.inr h
  have hS : va_S A s.heap s.heap [] := va_S.rf
  have hP : va_P (dC, dI) vwCl (qME a0 jbd jaQ jaD ja7 jby jbf jaM jaY jap jaK jal jam jax jao ja6 jaV ja8 jae jag jaf ja0 jaC jaP jaw jaI jaZ jaH jaS jan jaU jaE jar jaL jah jaB jaa jaz jaG jab ja2 z0_s jaq jai jaO jaA jat jau jav jaj jas jaJ jak jad jay jac jaQ cyI ja9) s.heap := hP
  have hl := lv_entry ([.ref a0, .int p1, .int p2]) (n := 3) (nbq rfl)
  rw [lg_entry_eq]
  generalize (lg_sl ([.ref a0, .int p1, .int p2]) ++ List.replicate (3 - (lg_sl ([.ref a0, .int p1, .int p2])).length) Slot.unset).toArray = ls at hl ⊢
  have hl : lv_has ls 3 [(0, .ref a0), (1, .int p1), (2, .int p2)] := hl
  have C0 : cfx p s m _ meth c cX11_isHare (some .boolean) wsX11_isHare RX11 3 A (dC, dI) (kT cyB cyI cyJ cyP) := ⟨hx, hb, hr, hts, hown, hlocks, hml, hA, hK, hNw⟩
  clear hAe
  obtain ⟨H, hH⟩ : ∃ H, H = s.heap := ⟨_, rfl⟩
  rw [← hH] at hP ⊢
  have hS : va_S A s.heap H [] := by rw [hH]; exact va_S.rf
  have hS := hS
  refine lv_aload_n hx hb (qaa qn4 0 rfl) rfl (lv_at hl 0 rfl) ?_
  refine lv_iload_n hx hb (qaa qn4 1 rfl) rfl (lv_at hl 1 rfl) ?_
  refine lv_iconst (v := 0) hx hb (qaa qn4 2 rfl) (by decide) ?_
  refine lv_aload_n hx hb (qaa qn4 3 rfl) rfl (lv_at hl 0 rfl) ?_
  refine va_get (D := (dC, dI)) (ci := 11) (v := .int jaC) (C := RX11) (T := TX11) (N := 55) hx hb hts qajy hown hK hP 0 rfl rfl 21 (by decide) (hts _ qahd) (fun _ h9 => h9) rfl (qaa qn4 4 rfl) ?_
  refine lv_iconst (v := 1) hx hb (qaa qn4 5 rfl) (by decide) ?_
  refine lv_isub hx hb (qaa qn4 6 rfl) ?_
  obtain ⟨hCc, hPc, hDc, hFc⟩ := qac (ws' := []) hP hD hS hA [] (by decide +kernel) rfl
  refine va_calli (va_runS (As := [.int p1, .int 0, .int (jaC - 1)]) (rest := [.ref a0]) ⟨hx, hb, hml, hown, hts⟩ (qbH l dC dI cyB cyI cyJ cyP H.size p1 0 (jaC - 1) hw) (va_cwS 3 hts gX11_isHare_X11_within rfl rfl rfl (by decide +kernel) ⟨nbq rfl, nbq rfl⟩) ⟨qab, qae hPc hK hDc hNw⟩ rfl rfl hl.1 rfl (lv_room (nbq rfl)) (qaa qn4 7 rfl) ⟨nbq rfl, nbq rfl⟩) hS (fun q _ h => hFc q h) hFc (fun r1 u t H1 locs ht hvm hw hB hz1 hk1 hS => ?_)
  obtain ⟨hP1, hK1, hD1⟩ := hB
  rw [ht] at hP1
  obtain ⟨hP, hD⟩ := qah (wr := (qME a0 jbd jaQ jaD ja7 jby jbf jaM jaY jap jaK jal jam jax jao ja6 jaV ja8 jae jag jaf ja0 jaC jaP jaw jaI jaZ jaH jaS jan jaU jaE jar jaL jah jaB jaa jaz jaG jab ja2 z0_s jaq jai jaO jaA jat jau jav jaj jas jaJ jak jad jay jac jaQ cyI ja9)) (w1 := []) (wn := (qME a0 jbd jaQ jaD ja7 jby jbf jaM jaY jap jaK jal jam jax jao ja6 jaV ja8 jae jag jaf ja0 jaC jaP jaw jaI jaZ jaH jaS jan jaU jaE jar jaL jah jaB jaa jaz jaG jab ja2 z0_s jaq jai jaO jaA jat jau jav jaj jas jaJ jak jad jay jac jaQ cyI ja9)) hP hD [] [0, 1] hCc rfl (by decide +kernel) (by decide +kernel) rfl hk1 hFc hP1 hD1
  generalize H1 = H at hP hS ⊢
  refine lv_iload_n hx hb (qaa qn4 8 rfl) rfl (lv_at hl 2 rfl) ?_
  refine lv_iconst (v := 0) hx hb (qaa qn4 9 rfl) (by decide) ?_
  obtain ⟨hCc, hPc, hDc, hFc⟩ := qac (ws' := (qME a0 jbd jaQ jaD ja7 jby jbf jaM jaY jap jaK jal jam jax jao ja6 jaV ja8 jae jag jaf ja0 jaC jaP jaw jaI jaZ jaH jaS jan jaU jaE jar jaL jah jaB jaa jaz jaG jab ja2 z0_s jaq jai jaO jaA jat jau jav jaj jas jaJ jak jad jay jac jaQ cyI ja9)) hP hD hS hA [0, 1] (by decide +kernel) rfl
  refine va_calli (va_runV (As := [.int r1, .int p2, .int 0]) (rest := []) ⟨hx, hb, hml, hown, hts⟩ (qkO l dC dI cyB cyI cyJ cyP a0 jaQ H.size (jaD) (ja7) (jby) (jbf) (jaM) (jaY) (jap) (jaK) (jal) (jam) (jax) (jao) (ja6) (jaV) (ja8) (jae) (jag) (jaf) (ja0) (.int jaC) (jaP) (jaw) (jaI) (jaZ) (jaH) (jaS) (jan) (jaU) (jaE) (jar) (jaL) (jah) (jaB) (jaa) (jaz) (jaG) (jab) (ja2) (z0_s) (jaq) (jai) (jaO) (jaA) (jat) (jau) (jav) (jaj) (jas) (jaJ) (jak) (jad) (jay) (jac) jbd ja9 r1 p2 0 hw) (cwV 3 hts gX11_isHare_X11_may rfl rfl rfl (by decide +kernel) ⟨nbq rfl, nbq rfl⟩) ⟨qab, va_recv (q := (RX11, TX11, 55)) hK hPc (ci := 11) (q0 := 0) rfl rfl, qae hPc hK hDc hNw⟩ rfl rfl hl.1 rfl (lv_room (nbq rfl)) (qaa qn4 10 rfl) ⟨nbq rfl, nbq rfl⟩) hS (fun q _ h => hFc q h) hFc (fun r4 u t H1 locs ht hvm hw hB hz1 hk1 hS => ?_)
  obtain ⟨x2, f3⟩ := u
  obtain ⟨hP1, hK1, hD1⟩ := hB
  rw [ht] at hP1
  obtain ⟨hP, hD⟩ := qah (wr := []) (w1 := (qME a0 x2 jaQ jaD ja7 jby jbf jaM jaY jap jaK jal jam jax jao ja6 jaV ja8 jae jag jaf ja0 jaC jaP jaw jaI jaZ jaH jaS jan jaU jaE jar jaL jah jaB jaa jaz jaG jab ja2 z0_s jaq jai jaO jaA jat jau jav jaj jas jaJ jak jad jay jac jaQ cyI f3)) (wn := (qME a0 x2 jaQ jaD ja7 jby jbf jaM jaY jap jaK jal jam jax jao ja6 jaV ja8 jae jag jaf ja0 jaC jaP jaw jaI jaZ jaH jaS jan jaU jaE jar jaL jah jaB jaa jaz jaG jab ja2 z0_s jaq jai jaO jaA jat jau jav jaj jas jaJ jak jad jay jac jaQ cyI f3)) hP hD [0, 1] [] hCc rfl (by decide +kernel) (by decide +kernel) rfl hk1 hFc hP1 hD1
  generalize H1 = H at hP hS ⊢
  obtain ⟨hn9, hw⟩ := hw
  exact ((W.zret (v := r4) hx hb hr hn9 (fun t ht hW => ⟨⟨r4, (x2, f3), rfl, hw, by rw [ht]; exact hP, va_K.moved hW.alike hK, hD⟩, hS.F ht⟩) hS.2.2 (qaa qn4 11 rfl)))
theorem qCh : ∀ w ∈ u_ws RX11 TX11 55, w ∈ wsX11_lastsIn := uiM qxr qga (by decide +kernel)
theorem qZ8 : (.fieldLink RX11 169 "MarchHaresModel" "hares" "I" : Cond) ∈ wsX11_lastsIn := qxr 520 (by decide +kernel)
theorem qLB : (.fieldLink RX11 68 "MarchHaresModel" "now" "[I" : Cond) ∈ wsX11_lastsIn := qxr 456 (by decide +kernel)
set_option maxHeartbeats 4000000 in
set_option maxRecDepth 100000 in
theorem qLi {p : Program} {l : Launch} {e : Env} {s : State} {m : MethodId} {args : Array Value} {below : List Frame} {meth : Method} {c : Code} {A : Nat → Prop} (dC : Nat → ClassId) (dI : Nat → Nat → Nat) (cyB cyI cyJ cyP : ClassId) (a0 jaT : Nat) (jaX jaF jaD ja7 jby jbf jaM jaY jap jaK jal jam jax jao ja6 jaV ja8 jae jag jaf ja0 jaP jaw jaI jaZ jaH jaS jan jaU jaE jar jaL jah jaB jaa jaz jaG jab z0_s jaq jai jaO jaA jat jau jav jaj jas jaJ jak jad jay jac : Value) (jaC : Int32) (jb0 : NI) (Q : Int32 → Prop) (K22 : Int32 → Int32 → Int32 → Int32 → Int32 → Int32 → Prop) (hK22 : ∀ (H : Heap) (locs : List Loc) (ls : Array Slot) (l1 l2 l3 l4 l5 l6 : Int32), va_P (dC, dI) vwCl (qnp a0 jaX jaF jaD ja7 jby jbf jaM jaY jap jaK jal jam jax jao ja6 jaV ja8 jae jag jaf ja0 jaC jaP jaw jaI jaZ jaH jaS jan jaU jaE jar jaL jah jaB jaa jaz jaG jab jaT z0_s jaq jai jaO jaA jat jau jav jaj jas jaJ jak jad jay jac jaT cyI jb0) H → va_D A (qnp a0 jaX jaF jaD ja7 jby jbf jaM jaY jap jaK jal jam jax jao ja6 jaV ja8 jae jag jaf ja0 jaC jaP jaw jaI jaZ jaH jaS jan jaU jaE jar jaL jah jaB jaa jaz jaG jab jaT z0_s jaq jai jaO jaA jat jau jav jaj jas jaJ jak jad jay jac jaT cyI jb0) → va_S A s.heap H locs → lv_has ls 9 [(0, .ref a0), (1, .int l1), (2, .int l2), (3, .int l3), (4, .int l4), (5, .int l5), (6, .int l6)] → K22 l1 l2 l3 l4 l5 l6 → W p l e (headSpec wsX11_lastsIn ({ frames := 0, cells := 0, slots := 0, locals := 0 })).room s m args below meth c H locs 0 0 (MQ below (va_Qi (fun (r : Int32) (_ : Unit) => Q r ) (cB (dC, dI) (kT cyB cyI cyJ cyP) A (fun u : Unit => ((qnp a0 jaX jaF jaD ja7 jby jbf jaM jaY jap jaK jal jam jax jao ja6 jaV ja8 jae jag jaf ja0 jaC jaP jaw jaI jaZ jaH jaS jan jaU jaE jar jaL jah jaB jaa jaz jaG jab jaT z0_s jaq jai jaO jaA jat jau jav jaj jas jaJ jak jad jay jac jaT cyI jb0) : va_W))) A) args s 0 0 A) (F0 m 22 ls [])) (C0 : cfx p s m args meth c cX11_lastsIn (some .int) wsX11_lastsIn RX11 9 A (dC, dI) (kT cyB cyI cyJ cyP)) : ∀ (H : Heap) (locs : List Loc) (ls : Array Slot) (l1 l2 l3 l4 l6 s0 s2 s3 s4 : Int32), va_P (dC, dI) vwCl (qnp a0 jaX jaF jaD ja7 jby jbf jaM jaY jap jaK jal jam jax jao ja6 jaV ja8 jae jag jaf ja0 jaC jaP jaw jaI jaZ jaH jaS jan jaU jaE jar jaL jah jaB jaa jaz jaG jab jaT z0_s jaq jai jaO jaA jat jau jav jaj jas jaJ jak jad jay jac jaT cyI jb0) H → va_D A (qnp a0 jaX jaF jaD ja7 jby jbf jaM jaY jap jaK jal jam jax jao ja6 jaV ja8 jae jag jaf ja0 jaC jaP jaw jaI jaZ jaH jaS jan jaU jaE jar jaL jah jaB jaa jaz jaG jab jaT z0_s jaq jai jaO jaA jat jau jav jaj jas jaJ jak jad jay jac jaT cyI jb0) → va_S A s.heap H locs → lv_has ls 9 [(0, .ref a0), (1, .int l1), (2, .int l2), (3, .int l3), (4, .int l4), (6, .int l6)] → qB8 jaC jb0 Q K22 l1 l2 l3 l4 l6 s0 s2 s3 s4 → W p l e (headSpec wsX11_lastsIn ({ frames := 0, cells := 0, slots := 0, locals := 0 })).room s m args below meth c H locs 0 0 (MQ below (va_Qi (fun (r : Int32) (_ : Unit) => Q r ) (cB (dC, dI) (kT cyB cyI cyJ cyP) A (fun u : Unit => ((qnp a0 jaX jaF jaD ja7 jby jbf jaM jaY jap jaK jal jam jax jao ja6 jaV ja8 jae jag jaf ja0 jaC jaP jaw jaI jaZ jaH jaS jan jaU jaE jar jaL jah jaB jaa jaz jaG jab jaT z0_s jaq jai jaO jaA jat jau jav jaj jas jaJ jak jad jay jac jaT cyI jb0) : va_W))) A) args s 0 0 A) (F0 m 120 ls [.int s4, .int s3, .int s2, .ref a0, .int s0]) := by
  obtain ⟨hx, hb, hr, hts, hown, hlocks, hml, hA, hK, hNw⟩ := id C0
  intro H locs ls l1 l2 l3 l4 l6 s0 s2 s3 s4 hP hD hS hl hw
  refine lv_iload hx hb (qaa qbW 4 rfl) (lv_at hl 4 rfl) ?_
  exact False.elim hw
set_option maxHeartbeats 4000000 in
set_option maxRecDepth 100000 in
theorem qLD {p : Program} {l : Launch} {e : Env} {s : State} {m : MethodId} {args : Array Value} {below : List Frame} {meth : Method} {c : Code} {A : Nat → Prop} (dC : Nat → ClassId) (dI : Nat → Nat → Nat) (cyB cyI cyJ cyP : ClassId) (a0 jaT : Nat) (jaX jaF jaD ja7 jby jbf jaM jaY jap jaK jal jam jax jao ja6 jaV ja8 jae jag jaf ja0 jaP jaw jaI jaZ jaH jaS jan jaU jaE jar jaL jah jaB jaa jaz jaG jab z0_s jaq jai jaO jaA jat jau jav jaj jas jaJ jak jad jay jac : Value) (jaC : Int32) (jb0 : NI) (Q : Int32 → Prop) (K22 : Int32 → Int32 → Int32 → Int32 → Int32 → Int32 → Prop) (hK22 : ∀ (H : Heap) (locs : List Loc) (ls : Array Slot) (l1 l2 l3 l4 l5 l6 : Int32), va_P (dC, dI) vwCl (qnp a0 jaX jaF jaD ja7 jby jbf jaM jaY jap jaK jal jam jax jao ja6 jaV ja8 jae jag jaf ja0 jaC jaP jaw jaI jaZ jaH jaS jan jaU jaE jar jaL jah jaB jaa jaz jaG jab jaT z0_s jaq jai jaO jaA jat jau jav jaj jas jaJ jak jad jay jac jaT cyI jb0) H → va_D A (qnp a0 jaX jaF jaD ja7 jby jbf jaM jaY jap jaK jal jam jax jao ja6 jaV ja8 jae jag jaf ja0 jaC jaP jaw jaI jaZ jaH jaS jan jaU jaE jar jaL jah jaB jaa jaz jaG jab jaT z0_s jaq jai jaO jaA jat jau jav jaj jas jaJ jak jad jay jac jaT cyI jb0) → va_S A s.heap H locs → lv_has ls 9 [(0, .ref a0), (1, .int l1), (2, .int l2), (3, .int l3), (4, .int l4), (5, .int l5), (6, .int l6)] → K22 l1 l2 l3 l4 l5 l6 → W p l e (headSpec wsX11_lastsIn ({ frames := 0, cells := 0, slots := 0, locals := 0 })).room s m args below meth c H locs 0 0 (MQ below (va_Qi (fun (r : Int32) (_ : Unit) => Q r ) (cB (dC, dI) (kT cyB cyI cyJ cyP) A (fun u : Unit => ((qnp a0 jaX jaF jaD ja7 jby jbf jaM jaY jap jaK jal jam jax jao ja6 jaV ja8 jae jag jaf ja0 jaC jaP jaw jaI jaZ jaH jaS jan jaU jaE jar jaL jah jaB jaa jaz jaG jab jaT z0_s jaq jai jaO jaA jat jau jav jaj jas jaJ jak jad jay jac jaT cyI jb0) : va_W))) A) args s 0 0 A) (F0 m 22 ls [])) (C0 : cfx p s m args meth c cX11_lastsIn (some .int) wsX11_lastsIn RX11 9 A (dC, dI) (kT cyB cyI cyJ cyP)) : ∀ (H : Heap) (locs : List Loc) (ls : Array Slot) (l1 l2 l3 l4 l6 l8 s0 s2 s3 : Int32), va_P (dC, dI) vwCl (qnp a0 jaX jaF jaD ja7 jby jbf jaM jaY jap jaK jal jam jax jao ja6 jaV ja8 jae jag jaf ja0 jaC jaP jaw jaI jaZ jaH jaS jan jaU jaE jar jaL jah jaB jaa jaz jaG jab jaT z0_s jaq jai jaO jaA jat jau jav jaj jas jaJ jak jad jay jac jaT cyI jb0) H → va_D A (qnp a0 jaX jaF jaD ja7 jby jbf jaM jaY jap jaK jal jam jax jao ja6 jaV ja8 jae jag jaf ja0 jaC jaP jaw jaI jaZ jaH jaS jan jaU jaE jar jaL jah jaB jaa jaz jaG jab jaT z0_s jaq jai jaO jaA jat jau jav jaj jas jaJ jak jad jay jac jaT cyI jb0) → va_S A s.heap H locs → lv_has ls 9 [(0, .ref a0), (1, .int l1), (2, .int l2), (3, .int l3), (4, .int l4), (6, .int l6), (8, .int l8)] → qBM jaC jb0 Q K22 l1 l2 l3 l4 l6 l8 s0 s2 s3 → W p l e (headSpec wsX11_lastsIn ({ frames := 0, cells := 0, slots := 0, locals := 0 })).room s m args below meth c H locs 0 0 (MQ below (va_Qi (fun (r : Int32) (_ : Unit) => Q r ) (cB (dC, dI) (kT cyB cyI cyJ cyP) A (fun u : Unit => ((qnp a0 jaX jaF jaD ja7 jby jbf jaM jaY jap jaK jal jam jax jao ja6 jaV ja8 jae jag jaf ja0 jaC jaP jaw jaI jaZ jaH jaS jan jaU jaE jar jaL jah jaB jaa jaz jaG jab jaT z0_s jaq jai jaO jaA jat jau jav jaj jas jaJ jak jad jay jac jaT cyI jb0) : va_W))) A) args s 0 0 A) (F0 m 109 ls [.int s3, .int s2, .ref a0, .int s0]) := by
  obtain ⟨hx, hb, hr, hts, hown, hlocks, hml, hA, hK, hNw⟩ := id C0
  intro H locs ls l1 l2 l3 l4 l6 l8 s0 s2 s3 hP hD hS hl hw
  refine lv_iload hx hb (qaa qbf 15 rfl) (lv_at hl 6 rfl) ?_
  refine lv_if_ge (tgt := 118) hx hb (qaa qbW 0 rfl) (by decide) (fun c15 => ?_) (fun c15 => ?_)
  · have hw := hw.1 c15
    refine lv_iload hx hb (qaa qbW 3 rfl) (lv_at hl 6 rfl) ?_
    exact qLi dC dI cyB cyI cyJ cyP a0 jaT jaX jaF jaD ja7 jby jbf jaM jaY jap jaK jal jam jax jao ja6 jaV ja8 jae jag jaf ja0 jaP jaw jaI jaZ jaH jaS jan jaU jaE jar jaL jah jaB jaa jaz jaG jab z0_s jaq jai jaO jaA jat jau jav jaj jas jaJ jak jad jay jac jaC jb0 Q K22 hK22 C0 _ _ _ l1 l2 l3 l4 l6 s0 s2 s3 l8 hP hD hS (lv_sub hl [0, 1, 2, 3, 4, 5] rfl) hw
  · have hw := hw.2 c15
    refine lv_iconst (v := 0) hx hb (qaa qbW 1 rfl) (by decide) ?_
    refine lv_goto (tgt := 120) hx hb (qaa qbW 2 rfl) (by decide) ?_
    exact qLi dC dI cyB cyI cyJ cyP a0 jaT jaX jaF jaD ja7 jby jbf jaM jaY jap jaK jal jam jax jao ja6 jaV ja8 jae jag jaf ja0 jaP jaw jaI jaZ jaH jaS jan jaU jaE jar jaL jah jaB jaa jaz jaG jab z0_s jaq jai jaO jaA jat jau jav jaj jas jaJ jak jad jay jac jaC jb0 Q K22 hK22 C0 _ _ _ l1 l2 l3 l4 l6 s0 s2 s3 0 hP hD hS (lv_sub hl [0, 1, 2, 3, 4, 5] rfl) hw
set_option maxHeartbeats 4000000 in
set_option maxRecDepth 100000 in
theorem qNn {p : Program} {l : Launch} {e : Env} {s : State} {m : MethodId} {args : Array Value} {below : List Frame} {meth : Method} {c : Code} {A : Nat → Prop} (dC : Nat → ClassId) (dI : Nat → Nat → Nat) (cyB cyI cyJ cyP : ClassId) (a0 jaT : Nat) (jaX jaF jaD ja7 jby jbf jaM jaY jap jaK jal jam jax jao ja6 jaV ja8 jae jag jaf ja0 jaP jaw jaI jaZ jaH jaS jan jaU jaE jar jaL jah jaB jaa jaz jaG jab z0_s jaq jai jaO jaA jat jau jav jaj jas jaJ jak jad jay jac : Value) (jaC : Int32) (jb0 : NI) (Q : Int32 → Prop) (K22 : Int32 → Int32 → Int32 → Int32 → Int32 → Int32 → Prop) (hK22 : ∀ (H : Heap) (locs : List Loc) (ls : Array Slot) (l1 l2 l3 l4 l5 l6 : Int32), va_P (dC, dI) vwCl (qnp a0 jaX jaF jaD ja7 jby jbf jaM jaY jap jaK jal jam jax jao ja6 jaV ja8 jae jag jaf ja0 jaC jaP jaw jaI jaZ jaH jaS jan jaU jaE jar jaL jah jaB jaa jaz jaG jab jaT z0_s jaq jai jaO jaA jat jau jav jaj jas jaJ jak jad jay jac jaT cyI jb0) H → va_D A (qnp a0 jaX jaF jaD ja7 jby jbf jaM jaY jap jaK jal jam jax jao ja6 jaV ja8 jae jag jaf ja0 jaC jaP jaw jaI jaZ jaH jaS jan jaU jaE jar jaL jah jaB jaa jaz jaG jab jaT z0_s jaq jai jaO jaA jat jau jav jaj jas jaJ jak jad jay jac jaT cyI jb0) → va_S A s.heap H locs → lv_has ls 9 [(0, .ref a0), (1, .int l1), (2, .int l2), (3, .int l3), (4, .int l4), (5, .int l5), (6, .int l6)] → K22 l1 l2 l3 l4 l5 l6 → W p l e (headSpec wsX11_lastsIn ({ frames := 0, cells := 0, slots := 0, locals := 0 })).room s m args below meth c H locs 0 0 (MQ below (va_Qi (fun (r : Int32) (_ : Unit) => Q r ) (cB (dC, dI) (kT cyB cyI cyJ cyP) A (fun u : Unit => ((qnp a0 jaX jaF jaD ja7 jby jbf jaM jaY jap jaK jal jam jax jao ja6 jaV ja8 jae jag jaf ja0 jaC jaP jaw jaI jaZ jaH jaS jan jaU jaE jar jaL jah jaB jaa jaz jaG jab jaT z0_s jaq jai jaO jaA jat jau jav jaj jas jaJ jak jad jay jac jaT cyI jb0) : va_W))) A) args s 0 0 A) (F0 m 22 ls [])) (C0 : cfx p s m args meth c cX11_lastsIn (some .int) wsX11_lastsIn RX11 9 A (dC, dI) (kT cyB cyI cyJ cyP)) : ∀ (H : Heap) (locs : List Loc) (ls : Array Slot) (l1 l2 l3 l4 l5 l6 l7 s0 : Int32), va_P (dC, dI) vwCl (qnp a0 jaX jaF jaD ja7 jby jbf jaM jaY jap jaK jal jam jax jao ja6 jaV ja8 jae jag jaf ja0 jaC jaP jaw jaI jaZ jaH jaS jan jaU jaE jar jaL jah jaB jaa jaz jaG jab jaT z0_s jaq jai jaO jaA jat jau jav jaj jas jaJ jak jad jay jac jaT cyI jb0) H → va_D A (qnp a0 jaX jaF jaD ja7 jby jbf jaM jaY jap jaK jal jam jax jao ja6 jaV ja8 jae jag jaf ja0 jaC jaP jaw jaI jaZ jaH jaS jan jaU jaE jar jaL jah jaB jaa jaz jaG jab jaT z0_s jaq jai jaO jaA jat jau jav jaj jas jaJ jak jad jay jac jaT cyI jb0) → va_S A s.heap H locs → lv_has ls 9 [(0, .ref a0), (1, .int l1), (2, .int l2), (3, .int l3), (4, .int l4), (5, .int l5), (6, .int l6), (7, .int l7)] → qDl jaC jb0 Q K22 l1 l2 l3 l4 l5 l6 l7 s0 → W p l e (headSpec wsX11_lastsIn ({ frames := 0, cells := 0, slots := 0, locals := 0 })).room s m args below meth c H locs 0 0 (MQ below (va_Qi (fun (r : Int32) (_ : Unit) => Q r ) (cB (dC, dI) (kT cyB cyI cyJ cyP) A (fun u : Unit => ((qnp a0 jaX jaF jaD ja7 jby jbf jaM jaY jap jaK jal jam jax jao ja6 jaV ja8 jae jag jaf ja0 jaC jaP jaw jaI jaZ jaH jaS jan jaU jaE jar jaL jah jaB jaa jaz jaG jab jaT z0_s jaq jai jaO jaA jat jau jav jaj jas jaJ jak jad jay jac jaT cyI jb0) : va_W))) A) args s 0 0 A) (F0 m 83 ls [.int s0]) := by
  obtain ⟨hx, hb, hr, hts, hown, hlocks, hml, hA, hK, hNw⟩ := id C0
  intro H locs ls l1 l2 l3 l4 l5 l6 l7 s0 hP hD hS hl hw
  refine lv_iconst (v := 1) hx hb (qaa qbd 14 rfl) (by decide) ?_
  refine lv_isub hx hb (qaa qbd 15 rfl) ?_
  refine lv_topi (fun x12 ex12 => ?_)
  have hw := hw x12 ex12
  refine lv_istore (lv' := [(8, .int x12), (0, .ref a0), (1, .int l1), (2, .int l2), (3, .int l3), (4, .int l4), (5, .int l5), (6, .int l6), (7, .int l7)]) hx hb (qaa qbf 0 rfl) hl (by decide) rfl (fun ls hl => ?_)
  refine lv_iload hx hb (qaa qbf 1 rfl) (lv_at hl 6 rfl) ?_
  refine lv_aload_n hx hb (qaa qbf 2 rfl) rfl (lv_at hl 1 rfl) ?_
  refine lv_iload_n hx hb (qaa qbf 3 rfl) rfl (lv_at hl 2 rfl) ?_
  refine lv_iconst (v := 1) hx hb (qaa qbf 4 rfl) (by decide) ?_
  refine lv_iload hx hb (qaa qbf 5 rfl) (lv_at hl 7 rfl) ?_
  refine lv_ishl hx hb (qaa qbf 6 rfl) ?_
  refine lv_iconst (v := (-1)) hx hb (qaa qbf 7 rfl) (by decide) ?_
  refine lv_ixor hx hb (qaa qbf 8 rfl) ?_
  refine lv_iand hx hb (qaa qbf 9 rfl) ?_
  refine lv_topi (fun x13 ex13 => ?_)
  have hw := hw x13 ex13
  refine lv_iload hx hb (qaa qbf 10 rfl) (lv_at hl 8 rfl) ?_
  refine lv_if_eq (tgt := 107) hx hb (qaa qbf 11 rfl) (by decide) (fun c14 => ?_) (fun c14 => ?_)
  · have hw := hw.1 c14
    refine lv_iload hx hb (qaa qbf 14 rfl) (lv_at hl 7 rfl) ?_
    exact qLD dC dI cyB cyI cyJ cyP a0 jaT jaX jaF jaD ja7 jby jbf jaM jaY jap jaK jal jam jax jao ja6 jaV ja8 jae jag jaf ja0 jaP jaw jaI jaZ jaH jaS jan jaU jaE jar jaL jah jaB jaa jaz jaG jab z0_s jaq jai jaO jaA jat jau jav jaj jas jaJ jak jad jay jac jaC jb0 Q K22 hK22 C0 _ _ _ l1 l2 l3 l4 l6 x12 l5 x13 l6 hP hD hS (lv_sub hl [1, 2, 3, 4, 5, 7, 0] rfl) hw
  · have hw := hw.2 c14
    refine lv_iload_n hx hb (qaa qbf 12 rfl) rfl (lv_at hl 3 rfl) ?_
    refine lv_goto (tgt := 109) hx hb (qaa qbf 13 rfl) (by decide) ?_
    exact qLD dC dI cyB cyI cyJ cyP a0 jaT jaX jaF jaD ja7 jby jbf jaM jaY jap jaK jal jam jax jao ja6 jaV ja8 jae jag jaf ja0 jaP jaw jaI jaZ jaH jaS jan jaU jaE jar jaL jah jaB jaa jaz jaG jab z0_s jaq jai jaO jaA jat jau jav jaj jas jaJ jak jad jay jac jaC jb0 Q K22 hK22 C0 _ _ _ l1 l2 l3 l4 l6 x12 l5 x13 l2 hP hD hS (lv_sub hl [1, 2, 3, 4, 5, 7, 0] rfl) hw
set_option maxHeartbeats 4000000 in
set_option maxRecDepth 100000 in
theorem qNv {p : Program} {l : Launch} {e : Env} {s : State} {m : MethodId} {args : Array Value} {below : List Frame} {meth : Method} {c : Code} {A : Nat → Prop} (dC : Nat → ClassId) (dI : Nat → Nat → Nat) (cyB cyI cyJ cyP : ClassId) (a0 jaT : Nat) (jaX jaF jaD ja7 jby jbf jaM jaY jap jaK jal jam jax jao ja6 jaV ja8 jae jag jaf ja0 jaP jaw jaI jaZ jaH jaS jan jaU jaE jar jaL jah jaB jaa jaz jaG jab z0_s jaq jai jaO jaA jat jau jav jaj jas jaJ jak jad jay jac : Value) (jaC : Int32) (jb0 : NI) (Q : Int32 → Prop) (K22 : Int32 → Int32 → Int32 → Int32 → Int32 → Int32 → Prop) (hK22 : ∀ (H : Heap) (locs : List Loc) (ls : Array Slot) (l1 l2 l3 l4 l5 l6 : Int32), va_P (dC, dI) vwCl (qnp a0 jaX jaF jaD ja7 jby jbf jaM jaY jap jaK jal jam jax jao ja6 jaV ja8 jae jag jaf ja0 jaC jaP jaw jaI jaZ jaH jaS jan jaU jaE jar jaL jah jaB jaa jaz jaG jab jaT z0_s jaq jai jaO jaA jat jau jav jaj jas jaJ jak jad jay jac jaT cyI jb0) H → va_D A (qnp a0 jaX jaF jaD ja7 jby jbf jaM jaY jap jaK jal jam jax jao ja6 jaV ja8 jae jag jaf ja0 jaC jaP jaw jaI jaZ jaH jaS jan jaU jaE jar jaL jah jaB jaa jaz jaG jab jaT z0_s jaq jai jaO jaA jat jau jav jaj jas jaJ jak jad jay jac jaT cyI jb0) → va_S A s.heap H locs → lv_has ls 9 [(0, .ref a0), (1, .int l1), (2, .int l2), (3, .int l3), (4, .int l4), (5, .int l5), (6, .int l6)] → K22 l1 l2 l3 l4 l5 l6 → W p l e (headSpec wsX11_lastsIn ({ frames := 0, cells := 0, slots := 0, locals := 0 })).room s m args below meth c H locs 0 0 (MQ below (va_Qi (fun (r : Int32) (_ : Unit) => Q r ) (cB (dC, dI) (kT cyB cyI cyJ cyP) A (fun u : Unit => ((qnp a0 jaX jaF jaD ja7 jby jbf jaM jaY jap jaK jal jam jax jao ja6 jaV ja8 jae jag jaf ja0 jaC jaP jaw jaI jaZ jaH jaS jan jaU jaE jar jaL jah jaB jaa jaz jaG jab jaT z0_s jaq jai jaO jaA jat jau jav jaj jas jaJ jak jad jay jac jaT cyI jb0) : va_W))) A) args s 0 0 A) (F0 m 22 ls [])) (C0 : cfx p s m args meth c cX11_lastsIn (some .int) wsX11_lastsIn RX11 9 A (dC, dI) (kT cyB cyI cyJ cyP)) : ∀ (H : Heap) (locs : List Loc) (ls : Array Slot) (l1 l2 l3 l4 l5 l6 s0 : Int32), va_P (dC, dI) vwCl (qnp a0 jaX jaF jaD ja7 jby jbf jaM jaY jap jaK jal jam jax jao ja6 jaV ja8 jae jag jaf ja0 jaC jaP jaw jaI jaZ jaH jaS jan jaU jaE jar jaL jah jaB jaa jaz jaG jab jaT z0_s jaq jai jaO jaA jat jau jav jaj jas jaJ jak jad jay jac jaT cyI jb0) H → va_D A (qnp a0 jaX jaF jaD ja7 jby jbf jaM jaY jap jaK jal jam jax jao ja6 jaV ja8 jae jag jaf ja0 jaC jaP jaw jaI jaZ jaH jaS jan jaU jaE jar jaL jah jaB jaa jaz jaG jab jaT z0_s jaq jai jaO jaA jat jau jav jaj jas jaJ jak jad jay jac jaT cyI jb0) → va_S A s.heap H locs → lv_has ls 9 [(0, .ref a0), (1, .int l1), (2, .int l2), (3, .int l3), (4, .int l4), (5, .int l5), (6, .int l6)] → qDy jaC jb0 Q K22 l1 l2 l3 l4 l5 l6 s0 → W p l e (headSpec wsX11_lastsIn ({ frames := 0, cells := 0, slots := 0, locals := 0 })).room s m args below meth c H locs 0 0 (MQ below (va_Qi (fun (r : Int32) (_ : Unit) => Q r ) (cB (dC, dI) (kT cyB cyI cyJ cyP) A (fun u : Unit => ((qnp a0 jaX jaF jaD ja7 jby jbf jaM jaY jap jaK jal jam jax jao ja6 jaV ja8 jae jag jaf ja0 jaC jaP jaw jaI jaZ jaH jaS jan jaU jaE jar jaL jah jaB jaa jaz jaG jab jaT z0_s jaq jai jaO jaA jat jau jav jaj jas jaJ jak jad jay jac jaT cyI jb0) : va_W))) A) args s 0 0 A) (F0 m 62 ls [.int s0]) := by
  obtain ⟨hx, hb, hr, hts, hown, hlocks, hml, hA, hK, hNw⟩ := id C0
  intro H locs ls l1 l2 l3 l4 l5 l6 s0 hP hD hS hl hw
  refine lv_istore (lv' := [(7, .int s0), (0, .ref a0), (1, .int l1), (2, .int l2), (3, .int l3), (4, .int l4), (5, .int l5), (6, .int l6)]) hx hb (qaa qbd 3 rfl) hl (by decide) rfl (fun ls hl => ?_)
  refine lv_iload hx hb (qaa qbd 4 rfl) (lv_at hl 0 rfl) ?_
  refine lv_if_eq (tgt := 73) hx hb (qaa qbd 5 rfl) (by decide) (fun c8 => ?_) (fun c8 => ?_)
  · have hw := hw.1 c8
    refine lv_aload_n hx hb (qaa qbd 8 rfl) rfl (lv_at hl 1 rfl) ?_
    refine va_get (D := (dC, dI)) (ci := 11) (v := .ref jaT) (C := RX11) (T := TX11) (N := 55) hx hb hts qCh hown hK hP 0 rfl rfl 39 (by decide) (hts _ qLB) (fun _ h9 => h9) rfl (qaa qbd 9 rfl) ?_
    refine lv_bipush (v := 6) hx hb (qaa qbd 10 rfl) (by decide) ?_
    refine lv_iload hx hb (qaa qbd 11 rfl) (lv_at hl 7 rfl) ?_
    refine lv_iadd hx hb (qaa qbd 12 rfl) ?_
    refine lv_topi (fun x9 ex9 => ?_)
    have hw := hw x9 ex9
    obtain ⟨hi9, hw⟩ := hw
    refine va_iald hx hb hK hP 1 1 rfl rfl hi9 (qaa qbd 13 rfl) ?_
    refine lv_topi (fun x10 ex10 => ?_)
    have hw := hw x10 ex10
    exact qNn dC dI cyB cyI cyJ cyP a0 jaT jaX jaF jaD ja7 jby jbf jaM jaY jap jaK jal jam jax jao ja6 jaV ja8 jae jag jaf ja0 jaP jaw jaI jaZ jaH jaS jan jaU jaE jar jaL jah jaB jaa jaz jaG jab z0_s jaq jai jaO jaA jat jau jav jaj jas jaJ jak jad jay jac jaC jb0 Q K22 hK22 C0 _ _ _ l1 l2 l3 l4 l5 l6 s0 x10 hP hD hS (lv_sub hl [1, 2, 3, 4, 5, 6, 7, 0] rfl) hw
  · have hw := hw.2 c8
    refine lv_iload_n hx hb (qaa qbd 6 rfl) rfl (lv_at hl 4 rfl) ?_
    refine lv_goto (tgt := 83) hx hb (qaa qbd 7 rfl) (by decide) ?_
    exact qNn dC dI cyB cyI cyJ cyP a0 jaT jaX jaF jaD ja7 jby jbf jaM jaY jap jaK jal jam jax jao ja6 jaV ja8 jae jag jaf ja0 jaP jaw jaI jaZ jaH jaS jan jaU jaE jar jaL jah jaB jaa jaz jaG jab z0_s jaq jai jaO jaA jat jau jav jaj jas jaJ jak jad jay jac jaC jb0 Q K22 hK22 C0 _ _ _ l1 l2 l3 l4 l5 l6 s0 l3 hP hD hS (lv_sub hl [1, 2, 3, 4, 5, 6, 7, 0] rfl) hw
set_option maxHeartbeats 4000000 in
set_option maxRecDepth 100000 in
theorem q2z {p : Program} {l : Launch} {e : Env} {s : State} {m : MethodId} {args : Array Value} {below : List Frame} {meth : Method} {c : Code} {A : Nat → Prop} (dC : Nat → ClassId) (dI : Nat → Nat → Nat) (cyB cyI cyJ cyP : ClassId) (a0 jaT : Nat) (jaX jaF jaD ja7 jby jbf jaM jaY jap jaK jal jam jax jao ja6 jaV ja8 jae jag jaf ja0 jaP jaw jaI jaZ jaH jaS jan jaU jaE jar jaL jah jaB jaa jaz jaG jab z0_s jaq jai jaO jaA jat jau jav jaj jas jaJ jak jad jay jac : Value) (jaC : Int32) (jb0 : NI) (Q : Int32 → Prop) (K22 : Int32 → Int32 → Int32 → Int32 → Int32 → Int32 → Prop) (hK22 : ∀ (H : Heap) (locs : List Loc) (ls : Array Slot) (l1 l2 l3 l4 l5 l6 : Int32), va_P (dC, dI) vwCl (qnp a0 jaX jaF jaD ja7 jby jbf jaM jaY jap jaK jal jam jax jao ja6 jaV ja8 jae jag jaf ja0 jaC jaP jaw jaI jaZ jaH jaS jan jaU jaE jar jaL jah jaB jaa jaz jaG jab jaT z0_s jaq jai jaO jaA jat jau jav jaj jas jaJ jak jad jay jac jaT cyI jb0) H → va_D A (qnp a0 jaX jaF jaD ja7 jby jbf jaM jaY jap jaK jal jam jax jao ja6 jaV ja8 jae jag jaf ja0 jaC jaP jaw jaI jaZ jaH jaS jan jaU jaE jar jaL jah jaB jaa jaz jaG jab jaT z0_s jaq jai jaO jaA jat jau jav jaj jas jaJ jak jad jay jac jaT cyI jb0) → va_S A s.heap H locs → lv_has ls 9 [(0, .ref a0), (1, .int l1), (2, .int l2), (3, .int l3), (4, .int l4), (5, .int l5), (6, .int l6)] → K22 l1 l2 l3 l4 l5 l6 → W p l e (headSpec wsX11_lastsIn ({ frames := 0, cells := 0, slots := 0, locals := 0 })).room s m args below meth c H locs 0 0 (MQ below (va_Qi (fun (r : Int32) (_ : Unit) => Q r ) (cB (dC, dI) (kT cyB cyI cyJ cyP) A (fun u : Unit => ((qnp a0 jaX jaF jaD ja7 jby jbf jaM jaY jap jaK jal jam jax jao ja6 jaV ja8 jae jag jaf ja0 jaC jaP jaw jaI jaZ jaH jaS jan jaU jaE jar jaL jah jaB jaa jaz jaG jab jaT z0_s jaq jai jaO jaA jat jau jav jaj jas jaJ jak jad jay jac jaT cyI jb0) : va_W))) A) args s 0 0 A) (F0 m 22 ls [])) (C0 : cfx p s m args meth c cX11_lastsIn (some .int) wsX11_lastsIn RX11 9 A (dC, dI) (kT cyB cyI cyJ cyP)) : ∀ (H : Heap) (locs : List Loc) (ls : Array Slot) (l1 l2 l3 l4 l5 l6 : Int32), va_P (dC, dI) vwCl (qnp a0 jaX jaF jaD ja7 jby jbf jaM jaY jap jaK jal jam jax jao ja6 jaV ja8 jae jag jaf ja0 jaC jaP jaw jaI jaZ jaH jaS jan jaU jaE jar jaL jah jaB jaa jaz jaG jab jaT z0_s jaq jai jaO jaA jat jau jav jaj jas jaJ jak jad jay jac jaT cyI jb0) H → va_D A (qnp a0 jaX jaF jaD ja7 jby jbf jaM jaY jap jaK jal jam jax jao ja6 jaV ja8 jae jag jaf ja0 jaC jaP jaw jaI jaZ jaH jaS jan jaU jaE jar jaL jah jaB jaa jaz jaG jab jaT z0_s jaq jai jaO jaA jat jau jav jaj jas jaJ jak jad jay jac jaT cyI jb0) → va_S A s.heap H locs → lv_has ls 9 [(0, .ref a0), (1, .int l1), (2, .int l2), (3, .int l3), (4, .int l4), (5, .int l5), (6, .int l6)] → qK8 jaC jb0 Q K22 l1 l2 l3 l4 l5 l6 → W p l e (headSpec wsX11_lastsIn ({ frames := 0, cells := 0, slots := 0, locals := 0 })).room s m args below meth c H locs 0 0 (MQ below (va_Qi (fun (r : Int32) (_ : Unit) => Q r ) (cB (dC, dI) (kT cyB cyI cyJ cyP) A (fun u : Unit => ((qnp a0 jaX jaF jaD ja7 jby jbf jaM jaY jap jaK jal jam jax jao ja6 jaV ja8 jae jag jaf ja0 jaC jaP jaw jaI jaZ jaH jaS jan jaU jaE jar jaL jah jaB jaa jaz jaG jab jaT z0_s jaq jai jaO jaA jat jau jav jaj jas jaJ jak jad jay jac jaT cyI jb0) : va_W))) A) args s 0 0 A) (F0 m 128 ls []) := by
  obtain ⟨hx, hb, hr, hts, hown, hlocks, hml, hA, hK, hNw⟩ := id C0
  intro H locs ls l1 l2 l3 l4 l5 l6 hP hD hS hl hw
  obtain ⟨x11, ex11⟩ : ∃ y : Int32, y = l6 + 1 := ⟨_, rfl⟩
  have hw := hw x11 ex11
  refine lv_iinc (v := x11) (lv' := [(6, .int x11), (0, .ref a0), (1, .int l1), (2, .int l2), (3, .int l3), (4, .int l4), (5, .int l5)]) hx hb (qaa qbW 8 rfl) hl (k := 6) rfl (by rw [ex11]; rfl) (by decide) rfl (fun ls hl => ?_)
  refine lv_goto (tgt := 22) hx hb (qaa qbW 9 rfl) (by decide) ?_
  exact hK22 _ _ _ l1 l2 l3 l4 l5 x11 hP hD hS (lv_sub hl [1, 2, 3, 4, 5, 6, 0] rfl) hw
set_option maxHeartbeats 4000000 in
set_option maxRecDepth 100000 in
theorem q6E {p : Program} {l : Launch} {e : Env} {s : State} {m : MethodId} {args : Array Value} {below : List Frame} {meth : Method} {c : Code} {A : Nat → Prop} (dC : Nat → ClassId) (dI : Nat → Nat → Nat) (cyB cyI cyJ cyP : ClassId) (a0 jaT : Nat) (jaX jaF jaD ja7 jby jbf jaM jaY jap jaK jal jam jax jao ja6 jaV ja8 jae jag jaf ja0 jaP jaw jaI jaZ jaH jaS jan jaU jaE jar jaL jah jaB jaa jaz jaG jab z0_s jaq jai jaO jaA jat jau jav jaj jas jaJ jak jad jay jac : Value) (jaC : Int32) (jb0 : NI) (Q : Int32 → Prop) (C0 : cfx p s m args meth c cX11_lastsIn (some .int) wsX11_lastsIn RX11 9 A (dC, dI) (kT cyB cyI cyJ cyP)) : ∀ (n : Nat) (H : Heap) (locs : List Loc) (ls : Array Slot) (l1 l2 l3 l4 l5 l6 : Int32), va_P (dC, dI) vwCl (qnp a0 jaX jaF jaD ja7 jby jbf jaM jaY jap jaK jal jam jax jao ja6 jaV ja8 jae jag jaf ja0 jaC jaP jaw jaI jaZ jaH jaS jan jaU jaE jar jaL jah jaB jaa jaz jaG jab jaT z0_s jaq jai jaO jaA jat jau jav jaj jas jaJ jak jad jay jac jaT cyI jb0) H → va_D A (qnp a0 jaX jaF jaD ja7 jby jbf jaM jaY jap jaK jal jam jax jao ja6 jaV ja8 jae jag jaf ja0 jaC jaP jaw jaI jaZ jaH jaS jan jaU jaE jar jaL jah jaB jaa jaz jaG jab jaT z0_s jaq jai jaO jaA jat jau jav jaj jas jaJ jak jad jay jac jaT cyI jb0) → va_S A s.heap H locs → lv_has ls 9 [(0, .ref a0), (1, .int l1), (2, .int l2), (3, .int l3), (4, .int l4), (5, .int l5), (6, .int l6)] → qoh jaC jb0 Q n l1 l2 l3 l4 l5 l6 → W p l e (headSpec wsX11_lastsIn ({ frames := 0, cells := 0, slots := 0, locals := 0 })).room s m args below meth c H locs 0 0 (MQ below (va_Qi (fun (r : Int32) (_ : Unit) => Q r ) (cB (dC, dI) (kT cyB cyI cyJ cyP) A (fun u : Unit => ((qnp a0 jaX jaF jaD ja7 jby jbf jaM jaY jap jaK jal jam jax jao ja6 jaV ja8 jae jag jaf ja0 jaC jaP jaw jaI jaZ jaH jaS jan jaU jaE jar jaL jah jaB jaa jaz jaG jab jaT z0_s jaq jai jaO jaA jat jau jav jaj jas jaJ jak jad jay jac jaT cyI jb0) : va_W))) A) args s 0 0 A) (F0 m 22 ls []) := by
  obtain ⟨hx, hb, hr, hts, hown, hlocks, hml, hA, hK, hNw⟩ := id C0
  intro n
  induction n with
  | zero => intro H locs ls l1 l2 l3 l4 l5 l6 hP hD hS hl hw; exact False.elim hw
  | succ n ih =>
    intro H locs ls l1 l2 l3 l4 l5 l6 hP hD hS hl hw
    refine lv_iload hx hb (qaa qbj 13 rfl) (lv_at hl 6 rfl) ?_
    refine lv_aload_n hx hb (qaa qbj 14 rfl) rfl (lv_at hl 0 rfl) ?_
    refine va_get (D := (dC, dI)) (ci := 11) (v := .int jaC) (C := RX11) (T := TX11) (N := 55) hx hb hts qCh hown hK hP 0 rfl rfl 21 (by decide) (hts _ qZ8) (fun _ h9 => h9) rfl (qaa qbj 15 rfl) ?_
    refine lv_icmp_ge (tgt := 134) hx hb (qaa qbe 0 rfl) (by decide) (fun c3 => ?_) (fun c3 => ?_)
    · have hw := hw.1 c3
      refine lv_iload hx hb (qaa qbW 10 rfl) (lv_at hl 5 rfl) ?_
      exact ((W.iret (v := l5) hx hb hr (fun t ht hW => ⟨⟨l5, (), rfl, hw, by rw [ht]; exact hP, va_K.moved hW.alike hK, hD⟩, hS.F ht⟩) hS.2.2 (qaa qbW 11 rfl)))
    · have hw := hw.2 c3
      refine lv_iload_n hx hb (qaa qbe 1 rfl) rfl (lv_at hl 1 rfl) ?_
      refine lv_iload hx hb (qaa qbe 2 rfl) (lv_at hl 6 rfl) ?_
      refine lv_ishr hx hb (qaa qbe 3 rfl) ?_
      refine lv_iconst (v := 1) hx hb (qaa qbe 4 rfl) (by decide) ?_
      refine lv_iand hx hb (qaa qbe 5 rfl) ?_
      refine lv_if_ne (tgt := 43) hx hb (qaa qbe 6 rfl) (by decide) (fun c4 => ?_) (fun c4 => ?_)
      · have hw := hw.1 c4
        refine lv_iload_n hx hb (qaa qbe 8 rfl) rfl (lv_at hl 3 rfl) ?_
        refine lv_aload_n hx hb (qaa qbe 9 rfl) rfl (lv_at hl 0 rfl) ?_
        refine va_get (D := (dC, dI)) (ci := 11) (v := .ref jaT) (C := RX11) (T := TX11) (N := 55) hx hb hts qCh hown hK hP 0 rfl rfl 39 (by decide) (hts _ qLB) (fun _ h9 => h9) rfl (qaa qbe 10 rfl) ?_
        refine lv_bipush (v := 6) hx hb (qaa qbe 11 rfl) (by decide) ?_
        refine lv_iload hx hb (qaa qbe 12 rfl) (lv_at hl 6 rfl) ?_
        refine lv_iadd hx hb (qaa qbe 13 rfl) ?_
        refine lv_topi (fun x5 ex5 => ?_)
        have hw := hw x5 ex5
        obtain ⟨hi9, hw⟩ := hw
        refine va_iald hx hb hK hP 1 1 rfl rfl hi9 (qaa qbe 14 rfl) ?_
        refine lv_topi (fun x6 ex6 => ?_)
        have hw := hw x6 ex6
        refine lv_icmp_lt (tgt := 61) hx hb (qaa qbe 15 rfl) (by decide) (fun c7 => ?_) (fun c7 => ?_)
        · have hw := hw.1 c7
          refine lv_iconst (v := 0) hx hb (qaa qbd 2 rfl) (by decide) ?_
          exact qNv dC dI cyB cyI cyJ cyP a0 jaT jaX jaF jaD ja7 jby jbf jaM jaY jap jaK jal jam jax jao ja6 jaV ja8 jae jag jaf ja0 jaP jaw jaI jaZ jaH jaS jan jaU jaE jar jaL jah jaB jaa jaz jaG jab z0_s jaq jai jaO jaA jat jau jav jaj jas jaJ jak jad jay jac jaC jb0 Q (qoh jaC jb0 Q n) ih C0 _ _ _ l1 l2 l3 l4 l5 l6 0 hP hD hS (lv_sub hl [0, 1, 2, 3, 4, 5, 6] rfl) hw
        · have hw := hw.2 c7
          refine lv_iconst (v := 1) hx hb (qaa qbd 0 rfl) (by decide) ?_
          refine lv_goto (tgt := 62) hx hb (qaa qbd 1 rfl) (by decide) ?_
          exact qNv dC dI cyB cyI cyJ cyP a0 jaT jaX jaF jaD ja7 jby jbf jaM jaY jap jaK jal jam jax jao ja6 jaV ja8 jae jag jaf ja0 jaP jaw jaI jaZ jaH jaS jan jaU jaE jar jaL jah jaB jaa jaz jaG jab z0_s jaq jai jaO jaA jat jau jav jaj jas jaJ jak jad jay jac jaC jb0 Q (qoh jaC jb0 Q n) ih C0 _ _ _ l1 l2 l3 l4 l5 l6 1 hP hD hS (lv_sub hl [0, 1, 2, 3, 4, 5, 6] rfl) hw
      · have hw := hw.2 c4
        refine lv_goto (tgt := 128) hx hb (qaa qbe 7 rfl) (by decide) ?_
        exact q2z dC dI cyB cyI cyJ cyP a0 jaT jaX jaF jaD ja7 jby jbf jaM jaY jap jaK jal jam jax jao ja6 jaV ja8 jae jag jaf ja0 jaP jaw jaI jaZ jaH jaS jan jaU jaE jar jaL jah jaB jaa jaz jaG jab z0_s jaq jai jaO jaA jat jau jav jaj jas jaJ jak jad jay jac jaC jb0 Q (qoh jaC jb0 Q n) ih C0 _ _ _ l1 l2 l3 l4 l5 l6 hP hD hS (lv_sub hl [0, 1, 2, 3, 4, 5, 6] rfl) hw
set_option maxHeartbeats 4000000 in
set_option maxRecDepth 100000 in
theorem qaj6 (l : Launch) (dC : Nat → ClassId) (dI : Nat → Nat → Nat) (cyB cyI cyJ cyP : ClassId) (a0 jaT sz : Nat) (jaX jaF jaD ja7 jby jbf jaM jaY jap jaK jal jam jax jao ja6 jaV ja8 jae jag jaf ja0 jaP jaw jaI jaZ jaH jaS jan jaU jaE jar jaL jah jaB jaa jaz jaG jab z0_s jaq jai jaO jaA jat jau jav jaj jas jaJ jak jad jay jac : Value) (jaC : Int32) (jb0 : NI) (p1 p2 p3 p4 : Int32) {Q : Int32 → Prop} (hw : qC4 jaC jb0 p1 p2 p3 p4 Q) : Met l yX11_lastsIn wsX11_lastsIn ({ frames := 0, cells := 0, slots := 0, locals := 0 }) (va_Pc [.ref a0, .int p1, .int p2, .int p3, .int p4] (cPc (dC, dI) (kT cyB cyI cyJ cyP) (qnp a0 jaX jaF jaD ja7 jby jbf jaM jaY jap jaK jal jam jax jao ja6 jaV ja8 jae jag jaf ja0 jaC jaP jaw jaI jaZ jaH jaS jan jaU jaE jar jaL jah jaB jaa jaz jaG jab jaT z0_s jaq jai jaO jaA jat jau jav jaj jas jaJ jak jad jay jac jaT cyI jb0) sz)) (va_Qi (fun (r : Int32) (_ : Unit) => Q r ) (cB (dC, dI) (kT cyB cyI cyJ cyP) (va_A (qnp a0 jaX jaF jaD ja7 jby jbf jaM jaY jap jaK jal jam jax jao ja6 jaV ja8 jae jag jaf ja0 jaC jaP jaw jaI jaZ jaH jaS jan jaU jaE jar jaL jah jaB jaa jaz jaG jab jaT z0_s jaq jai jaO jaA jat jau jav jaj jas jaJ jak jad jay jac jaT cyI jb0) sz) (fun u : Unit => ((qnp a0 jaX jaF jaD ja7 jby jbf jaM jaY jap jaK jal jam jax jao ja6 jaV ja8 jae jag jaf ja0 jaC jaP jaw jaI jaZ jaH jaS jan jaU jaE jar jaL jah jaB jaa jaz jaG jab jaT z0_s jaq jai jaO jaA jat jau jav jaj jas jaJ jak jad jay jac jaT cyI jb0) : va_W))) (va_A (qnp a0 jaX jaF jaD ja7 jby jbf jaM jaY jap jaK jal jam jax jao ja6 jaV ja8 jae jag jaf ja0 jaC jaP jaw jaI jaZ jaH jaS jan jaU jaE jar jaL jah jaB jaa jaz jaG jab jaT z0_s jaq jai jaO jaA jat jau jav jaj jas jaJ jak jad jay jac jaT cyI jb0) sz)) 0 0 (va_A (qnp a0 jaX jaF jaD ja7 jby jbf jaM jaY jap jaK jal jam jax jao ja6 jaV ja8 jae jag jaf ja0 jaC jaP jaw jaI jaZ jaH jaS jan jaU jaE jar jaL jah jaB jaa jaz jaG jab jaT z0_s jaq jai jaO jaA jat jau jav jaj jas jaJ jak jad jay jac jaT cyI jb0) sz) := by
  refine Met.ofW (cc := cX11_lastsIn) (maxL := 9) (ret := (some .int)) (by decide) rfl ?_
  intro p e s m args below meth c s₁ B hml hv
  obtain ⟨rfl, hsz, hP, hK, hD0, hNw⟩ := hv
  have hx := B.exec
  have hb := B.bytes
  have hr := B.returns
  have hts := atoms_spec (ws := wsX11_lastsIn) B.pre
  have hown : s.vm.findClass RX11 = some m.cls := findClass_of_methodNamed B.named
  have hlocks := B.notSynchronized
  subst hsz
  have hD := hD0.self (sz := s.heap.size)
  generalize hAe : va_A (qnp a0 jaX jaF jaD ja7 jby jbf jaM jaY jap jaK jal jam jax jao ja6 jaV ja8 jae jag jaf ja0 jaC jaP jaw jaI jaZ jaH jaS jan jaU jaE jar jaL jah jaB jaa jaz jaG jab jaT z0_s jaq jai jaO jaA jat jau jav jaj jas jaJ jak jad jay jac jaT cyI jb0) s.heap.size = A at hD ⊢
  have hA : ∀ q : Nat, s.heap.size ≤ q → A q := fun q h => by rw [← hAe]; exact Or.inr h
  have hS : va_S A s.heap s.heap [] := va_S.rf
  have hP : va_P (dC, dI) vwCl (qnp a0 jaX jaF jaD ja7 jby jbf jaM jaY jap jaK jal jam jax jao ja6 jaV ja8 jae jag jaf ja0 jaC jaP jaw jaI jaZ jaH jaS jan jaU jaE jar jaL jah jaB jaa jaz jaG jab jaT z0_s jaq jai jaO jaA jat jau jav jaj jas jaJ jak jad jay jac jaT cyI jb0) s.heap := hP
  have hl := lv_entry ([.ref a0, .int p1, .int p2, .int p3, .int p4]) (n := 9) (nbq rfl)
  rw [lg_entry_eq]
  generalize (lg_sl ([.ref a0, .int p1, .int p2, .int p3, .int p4]) ++ List.replicate (9 - (lg_sl ([.ref a0, .int p1, .int p2, .int p3, .int p4])).length) Slot.unset).toArray = ls at hl ⊢
  have hl : lv_has ls 9 [(0, .ref a0), (1, .int p1), (2, .int p2), (3, .int p3), (4, .int p4)] := hl
  have C0 : cfx p s m _ meth c cX11_lastsIn (some .int) wsX11_lastsIn RX11 9 A (dC, dI) (kT cyB cyI cyJ cyP) := ⟨hx, hb, hr, hts, hown, hlocks, hml, hA, hK, hNw⟩
  clear hAe
  obtain ⟨H, hH⟩ : ∃ H, H = s.heap := ⟨_, rfl⟩
  rw [← hH] at hP ⊢
  have hS : va_S A s.heap H [] := by rw [hH]; exact va_S.rf
  have hS := hS
  refine lv_iload_n hx hb (qaa qbj 0 rfl) rfl (lv_at hl 1 rfl) ?_
  refine lv_if_ne (tgt := 16) hx hb (qaa qbj 1 rfl) (by decide) (fun c1 => ?_) (fun c1 => ?_)
  · have hw := hw.1 c1
    refine lv_iconst (v := 0) hx hb (qaa qbj 9 rfl) (by decide) ?_
    refine lv_istore (lv' := [(5, .int 0), (0, .ref a0), (1, .int p1), (2, .int p2), (3, .int p3), (4, .int p4)]) hx hb (qaa qbj 10 rfl) hl (by decide) rfl (fun ls hl => ?_)
    refine lv_iconst (v := 0) hx hb (qaa qbj 11 rfl) (by decide) ?_
    refine lv_istore (lv' := [(6, .int 0), (5, .int 0), (0, .ref a0), (1, .int p1), (2, .int p2), (3, .int p3), (4, .int p4)]) hx hb (qaa qbj 12 rfl) hl (by decide) rfl (fun ls hl => ?_)
    obtain ⟨n9, hw⟩ := hw
    exact q6E dC dI cyB cyI cyJ cyP a0 jaT jaX jaF jaD ja7 jby jbf jaM jaY jap jaK jal jam jax jao ja6 jaV ja8 jae jag jaf ja0 jaP jaw jaI jaZ jaH jaS jan jaU jaE jar jaL jah jaB jaa jaz jaG jab z0_s jaq jai jaO jaA jat jau jav jaj jas jaJ jak jad jay jac jaC jb0 Q C0 n9 _ _ _ p1 p2 p3 p4 0 0 hP hD hS (lv_sub hl [2, 3, 4, 5, 6, 1, 0] rfl) hw
  · have hw := hw.2 c1
    refine lv_iload_n hx hb (qaa qbj 2 rfl) rfl (lv_at hl 2 rfl) ?_
    refine lv_iload hx hb (qaa qbj 3 rfl) (lv_at hl 4 rfl) ?_
    refine lv_icmp_ne (tgt := 14) hx hb (qaa qbj 4 rfl) (by decide) (fun c2 => ?_) (fun c2 => ?_)
    · have hw := hw.1 c2
      refine lv_iconst (v := 0) hx hb (qaa qbj 7 rfl) (by decide) ?_
      exact ((W.iret (v := 0) hx hb hr (fun t ht hW => ⟨⟨0, (), rfl, hw, by rw [ht]; exact hP, va_K.moved hW.alike hK, hD⟩, hS.F ht⟩) hS.2.2 (qaa qbj 8 rfl)))
    · have hw := hw.2 c2
      refine lv_iconst (v := 1) hx hb (qaa qbj 5 rfl) (by decide) ?_
      refine lv_goto (tgt := 15) hx hb (qaa qbj 6 rfl) (by decide) ?_
      exact ((W.iret (v := 1) hx hb hr (fun t ht hW => ⟨⟨1, (), rfl, hw, by rw [ht]; exact hP, va_K.moved hW.alike hK, hD⟩, hS.F ht⟩) hS.2.2 (qaa qbj 8 rfl)))
