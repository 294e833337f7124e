/-- worlds by their leaves -/
def qb8 (x0 : Nat) (x1 x2 x3 x4 x5 x6 x7 x8 x9 x10 x11 x12 x13 x14 x15 x16 x17 x18 x19 x20 x21 : Value) (x22 : Int32) (x23 x24 x25 x26 x27 x28 x29 x30 x31 x32 x33 x34 x35 x36 x37 x38 x39 : Value) (x40 : Nat) (x41 x42 x43 x44 x45 x46 x47 x48 x49 x50 x51 x52 x53 x54 x55 : Value) (x56 : Nat) (x57 : ClassId) (x58 : NI) : va_W := [(x0, .inr (11, [x1, x2, x3, x4, x5, x6, x7, x8, x9, x10, x11, x12, x13, x14, x15, x16, x17, x18, x19, x20, x21, .int x22, x23, x24, x25, x26, x27, x28, x29, x30, x31, x32, x33, x34, x35, x36, x37, x38, x39, .ref x40, x41, x42, x43, x44, x45, x46, x47, x48, x49, x50, x51, x52, x53, x54, x55])), (x56, .inl (x57, 68, .inl x58))]
def qDh (x0 : Nat) (x1 : Int32) (x2 : Nat) (x3 x4 x5 x6 x7 x8 x9 x10 x11 x12 x13 x14 x15 x16 x17 x18 x19 x20 x21 : Value) (x22 : Int32) (x23 x24 x25 x26 x27 x28 x29 x30 x31 x32 x33 x34 x35 x36 x37 x38 x39 : Value) (x40 x41 : Nat) (x42 x43 x44 x45 x46 x47 x48 x49 x50 x51 x52 x53 x54 x55 : Value) (x56 : Nat) (x57 : ClassId) (x58 : NI) (x59 : Nat) (x60 : ClassId) (x61 : NI) (x62 : Nat) (x63 : ClassId) (x64 : NI) : va_W := [(x0, .inr (11, [.int x1, .ref x2, x3, x4, x5, x6, x7, x8, x9, x10, x11, x12, x13, x14, x15, x16, x17, x18, x19, x20, x21, .int x22, x23, x24, x25, x26, x27, x28, x29, x30, x31, x32, x33, x34, x35, x36, x37, x38, x39, .ref x40, .ref x41, x42, x43, x44, x45, x46, x47, x48, x49, x50, x51, x52, x53, x54, x55])), (x56, .inl (x57, 2, .inl x58)), (x59, .inl (x60, 68, .inl x61)), (x62, .inl (x63, 68, .inl x64))]
def qa0W (x0 : Nat) (x1 : Int32) (x2 : Nat) (x3 x4 x5 x6 x7 x8 x9 x10 x11 x12 x13 x14 x15 x16 x17 x18 x19 x20 x21 : Value) (x22 : Int32) (x23 x24 x25 x26 x27 x28 x29 x30 x31 x32 x33 x34 x35 x36 x37 x38 x39 : Value) (x40 x41 : Nat) (x42 x43 x44 x45 x46 x47 x48 x49 x50 x51 x52 x53 x54 x55 : Value) (x56 : Nat) (x57 : ClassId) (x58 : NI) : va_W := [(x0, .inr (11, [.int x1, .ref x2, x3, x4, x5, x6, x7, x8, x9, x10, x11, x12, x13, x14, x15, x16, x17, x18, x19, x20, x21, .int x22, x23, x24, x25, x26, x27, x28, x29, x30, x31, x32, x33, x34, x35, x36, x37, x38, x39, .ref x40, .ref x41, x42, x43, x44, x45, x46, x47, x48, x49, x50, x51, x52, x53, x54, x55])), (x56, .inl (x57, 68, .inl x58))]
def qa8T (x0 : Nat) (x1 : ClassId) (x2 : NI) (x3 : Nat) (x4 : ClassId) (x5 : NI) : va_W := [(x0, .inl (x1, 2, .inl x2)), (x3, .inl (x4, 68, .inl x5))]
def qbea (x0 : Nat) (x1 : Int32) (x2 : Nat) (x3 x4 x5 x6 x7 x8 x9 x10 x11 x12 x13 x14 x15 x16 x17 x18 x19 x20 x21 : Value) (x22 : Int32) (x23 x24 x25 x26 x27 x28 x29 x30 x31 x32 x33 x34 x35 x36 x37 x38 x39 : Value) (x40 x41 : Nat) (x42 x43 x44 x45 x46 x47 x48 x49 x50 x51 x52 x53 x54 x55 : Value) (x56 : Nat) (x57 : ClassId) (x58 : NI) : va_W := [(x0, .inr (11, [.int x1, .ref x2, x3, x4, x5, x6, x7, x8, x9, x10, x11, x12, x13, x14, x15, x16, x17, x18, x19, x20, x21, .int x22, x23, x24, x25, x26, x27, x28, x29, x30, x31, x32, x33, x34, x35, x36, x37, x38, x39, .ref x40, .ref x41, x42, x43, x44, x45, x46, x47, x48, x49, x50, x51, x52, x53, x54, x55])), (x56, .inl (x57, 2, .inl x58))]
def qbd4 (x0 : Nat) (x1 : Int32) (x2 : Nat) (x3 x4 x5 x6 x7 x8 x9 x10 x11 x12 x13 x14 x15 x16 x17 x18 x19 x20 x21 : Value) (x22 : Int32) (x23 x24 x25 x26 x27 x28 x29 x30 x31 x32 x33 x34 x35 x36 x37 x38 x39 : Value) (x40 x41 : Nat) (x42 x43 x44 x45 x46 x47 x48 x49 x50 x51 x52 x53 x54 x55 : Value) (x56 : Nat) (x57 : ClassId) (x58 : NI) (x59 : Nat) (x60 : ClassId) (x61 : NI) : va_W := [(x0, .inr (11, [.int x1, .ref x2, x3, x4, x5, x6, x7, x8, x9, x10, x11, x12, x13, x14, x15, x16, x17, x18, x19, x20, x21, .int x22, x23, x24, x25, x26, x27, x28, x29, x30, x31, x32, x33, x34, x35, x36, x37, x38, x39, .ref x40, .ref x41, x42, x43, x44, x45, x46, x47, x48, x49, x50, x51, x52, x53, x54, x55])), (x56, .inl (x57, 68, .inl x58)), (x59, .inl (x60, 68, .inl x61))]
def qy3 (x0 : Nat) (x1 x2 x3 x4 x5 x6 x7 x8 x9 x10 x11 x12 x13 x14 x15 x16 x17 x18 x19 x20 x21 x22 x23 x24 x25 x26 x27 x28 x29 x30 x31 x32 x33 x34 x35 x36 x37 x38 x39 x40 : Value) (x41 : Nat) (x42 x43 x44 x45 x46 x47 x48 x49 x50 x51 x52 x53 x54 x55 : Value) (x56 : Nat) (x57 : ClassId) (x58 : NI) : va_W := [(x0, .inr (11, [x1, x2, x3, x4, x5, x6, x7, x8, x9, x10, x11, x12, x13, x14, x15, x16, x17, x18, x19, x20, x21, x22, x23, x24, x25, x26, x27, x28, x29, x30, x31, x32, x33, x34, x35, x36, x37, x38, x39, x40, .ref x41, x42, x43, x44, x45, x46, x47, x48, x49, x50, x51, x52, x53, x54, x55])), (x56, .inl (x57, 68, .inl x58))]
def qZc (x0 : Nat) (x1 : Int32) (x2 : Nat) (x3 x4 x5 x6 x7 x8 x9 x10 x11 x12 x13 x14 x15 x16 x17 x18 x19 x20 : Value) (x21 : Int32) (x22 x23 x24 x25 x26 x27 x28 x29 x30 x31 x32 x33 x34 x35 x36 x37 x38 x39 x40 x41 x42 x43 x44 x45 x46 x47 x48 x49 x50 x51 x52 x53 x54 x55 : Value) (x56 : Nat) (x57 : ClassId) (x58 : NI) : va_W := [(x0, .inr (11, [.int x1, .ref x2, x3, x4, x5, x6, x7, x8, x9, x10, x11, x12, x13, x14, x15, x16, x17, x18, x19, x20, .int x21, x22, x23, x24, x25, x26, x27, x28, x29, x30, x31, x32, x33, x34, x35, x36, x37, x38, x39, x40, x41, x42, x43, x44, x45, x46, x47, x48, x49, x50, x51, x52, x53, x54, x55])), (x56, .inl (x57, 2, .inl x58))]
def q4K (x0 : Nat) (x1 x2 x3 x4 x5 x6 x7 x8 x9 x10 x11 x12 x13 x14 : Value) (x15 : Nat) (x16 x17 x18 x19 x20 x21 x22 x23 x24 x25 x26 x27 x28 x29 x30 x31 x32 x33 x34 x35 x36 x37 x38 x39 x40 x41 x42 x43 x44 x45 x46 x47 x48 x49 x50 x51 x52 x53 x54 x55 : Value) (x56 : Nat) (x57 : ClassId) (x58 : NI) : va_W := [(x0, .inr (11, [x1, x2, x3, x4, x5, x6, x7, x8, x9, x10, x11, x12, x13, x14, .ref x15, x16, x17, x18, x19, x20, x21, x22, x23, x24, x25, x26, x27, x28, x29, x30, x31, x32, x33, x34, x35, x36, x37, x38, x39, x40, x41, x42, x43, x44, x45, x46, x47, x48, x49, x50, x51, x52, x53, x54, x55])), (x56, .inl (x57, 16, .inl x58))]
def qtw (x0 : Nat) (x1 x2 x3 x4 x5 x6 x7 x8 x9 x10 x11 x12 x13 x14 x15 x16 x17 x18 x19 x20 x21 : Value) (x22 : Int32) (x23 x24 x25 x26 x27 x28 x29 x30 x31 x32 x33 x34 x35 x36 x37 x38 x39 x40 : Value) (x41 : Nat) (x42 x43 x44 x45 x46 x47 x48 x49 x50 x51 x52 x53 x54 x55 : Value) (x56 : Nat) (x57 : ClassId) (x58 : NI) : va_W := [(x0, .inr (11, [x1, x2, x3, x4, x5, x6, x7, x8, x9, x10, x11, x12, x13, x14, x15, x16, x17, x18, x19, x20, x21, .int x22, x23, x24, x25, x26, x27, x28, x29, x30, x31, x32, x33, x34, x35, x36, x37, x38, x39, x40, .ref x41, x42, x43, x44, x45, x46, x47, x48, x49, x50, x51, x52, x53, x54, x55])), (x56, .inl (x57, 68, .inl x58))]
def qk7 (x0 : Nat) (x1 x2 x3 x4 x5 x6 x7 x8 x9 x10 x11 x12 x13 x14 x15 x16 x17 x18 x19 x20 x21 x22 x23 x24 x25 : Value) (x26 x27 x28 : Nat) (x29 : Value) (x30 : Int32) (x31 : Nat) (x32 x33 x34 x35 x36 x37 x38 x39 x40 x41 x42 x43 x44 x45 x46 x47 x48 x49 x50 x51 x52 x53 x54 x55 : Value) (x56 : Nat) (x57 : ClassId) (x58 : NI) (x59 : Nat) (x60 : ClassId) (x61 : NI) (x62 : Nat) (x63 : ClassId) (x64 : NI) (x65 : Nat) (x66 : ClassId) (x67 : NI) : va_W := [(x0, .inr (11, [x1, x2, x3, x4, x5, x6, x7, x8, x9, x10, x11, x12, x13, x14, x15, x16, x17, x18, x19, x20, x21, x22, x23, x24, x25, .ref x26, .ref x27, .ref x28, x29, .int x30, .ref x31, x32, x33, x34, x35, x36, x37, x38, x39, x40, x41, x42, x43, x44, x45, x46, x47, x48, x49, x50, x51, x52, x53, x54, x55])), (x56, .inl (x57, 150, .inl x58)), (x59, .inl (x60, 150, .inl x61)), (x62, .inl (x63, 150, .inl x64)), (x65, .inl (x66, 8, .inl x67))]
def qu5 (x0 : Nat) (x1 x2 x3 x4 x5 x6 x7 x8 x9 x10 x11 x12 x13 x14 x15 x16 x17 x18 x19 x20 x21 x22 x23 x24 x25 : Value) (x26 x27 x28 : Nat) (x29 : Value) (x30 : Int32) (x31 : Nat) (x32 x33 x34 x35 x36 x37 x38 x39 x40 x41 x42 x43 x44 x45 x46 x47 x48 x49 x50 x51 x52 x53 x54 x55 : Value) (x56 : Nat) (x57 : ClassId) (x58 : NI) (x59 : Nat) (x60 : ClassId) (x61 : NI) (x62 : Nat) (x63 : ClassId) (x64 : NI) (x65 : Nat) (x66 : ClassId) (x67 : NI) : va_W := [(x0, .inr (11, [x1, x2, x3, x4, x5, x6, x7, x8, x9, x10, x11, x12, x13, x14, x15, x16, x17, x18, x19, x20, x21, x22, x23, x24, x25, .ref x26, .ref x27, .ref x28, x29, .int x30, .ref x31, x32, x33, x34, x35, x36, x37, x38, x39, x40, x41, x42, x43, x44, x45, x46, x47, x48, x49, x50, x51, x52, x53, x54, x55])), (x56, .inl (x57, 8, .inl x58)), (x59, .inl (x60, 150, .inl x61)), (x62, .inl (x63, 150, .inl x64)), (x65, .inl (x66, 150, .inl x67))]
def qHR (x0 : Nat) (x1 x2 x3 x4 x5 x6 x7 x8 x9 x10 x11 x12 x13 x14 x15 x16 x17 x18 x19 x20 x21 : Value) (x22 : Int32) (x23 x24 x25 : Value) (x26 x27 x28 : Nat) (x29 : Value) (x30 : Int32) (x31 : Nat) (x32 x33 x34 x35 x36 x37 x38 x39 x40 : Value) (x41 : Nat) (x42 x43 x44 x45 x46 x47 x48 x49 x50 x51 x52 x53 x54 x55 : Value) (x56 : Nat) (x57 : ClassId) (x58 : NI) (x59 : Nat) (x60 : ClassId) (x61 : NI) (x62 : Nat) (x63 : ClassId) (x64 : NI) (x65 : Nat) (x66 : ClassId) (x67 : NI) (x68 : Nat) (x69 : ClassId) (x70 : NI) : va_W := [(x0, .inr (11, [x1, x2, x3, x4, x5, x6, x7, x8, x9, x10, x11, x12, x13, x14, x15, x16, x17, x18, x19, x20, x21, .int x22, x23, x24, x25, .ref x26, .ref x27, .ref x28, x29, .int x30, .ref x31, x32, x33, x34, x35, x36, x37, x38, x39, x40, .ref x41, x42, x43, x44, x45, x46, x47, x48, x49, x50, x51, x52, x53, x54, x55])), (x56, .inl (x57, 68, .inl x58)), (x59, .inl (x60, 8, .inl x61)), (x62, .inl (x63, 150, .inl x64)), (x65, .inl (x66, 150, .inl x67)), (x68, .inl (x69, 150, .inl x70))]
def q2j (x0 : Nat) (x1 x2 x3 x4 x5 x6 x7 x8 x9 x10 x11 x12 x13 x14 x15 x16 x17 x18 x19 x20 x21 : Value) (x22 : Int32) (x23 x24 x25 : Value) (x26 x27 x28 : Nat) (x29 : Value) (x30 : Int32) (x31 : Nat) (x32 x33 x34 x35 x36 x37 x38 x39 x40 : Value) (x41 : Nat) (x42 x43 x44 x45 x46 x47 x48 x49 x50 x51 x52 x53 x54 x55 : Value) (x56 : Nat) (x57 : ClassId) (x58 : NI) : va_W := [(x0, .inr (11, [x1, x2, x3, x4, x5, x6, x7, x8, x9, x10, x11, x12, x13, x14, x15, x16, x17, x18, x19, x20, x21, .int x22, x23, x24, x25, .ref x26, .ref x27, .ref x28, x29, .int x30, .ref x31, x32, x33, x34, x35, x36, x37, x38, x39, x40, .ref x41, x42, x43, x44, x45, x46, x47, x48, x49, x50, x51, x52, x53, x54, x55])), (x56, .inl (x57, 68, .inl x58))]
def qaR3 (x0 : Nat) (x1 : ClassId) (x2 : NI) (x3 : Nat) (x4 : ClassId) (x5 : NI) (x6 : Nat) (x7 : ClassId) (x8 : NI) (x9 : Nat) (x10 : ClassId) (x11 : NI) : va_W := [(x0, .inl (x1, 8, .inl x2)), (x3, .inl (x4, 150, .inl x5)), (x6, .inl (x7, 150, .inl x8)), (x9, .inl (x10, 150, .inl x11))]
def qa3M (x0 : Nat) (x1 x2 x3 x4 x5 x6 x7 x8 x9 x10 x11 x12 x13 x14 x15 x16 x17 x18 x19 x20 x21 : Value) (x22 : Int32) (x23 x24 x25 : Value) (x26 x27 x28 : Nat) (x29 : Value) (x30 : Int32) (x31 : Nat) (x32 x33 x34 x35 x36 x37 x38 x39 x40 : Value) (x41 : Nat) (x42 x43 x44 x45 x46 x47 x48 x49 x50 x51 x52 x53 x54 x55 : Value) (x56 : Nat) (x57 : ClassId) (x58 : NI) (x59 : Nat) (x60 : ClassId) (x61 : NI) (x62 : Nat) (x63 : ClassId) (x64 : NI) (x65 : Nat) (x66 : ClassId) (x67 : NI) : va_W := [(x0, .inr (11, [x1, x2, x3, x4, x5, x6, x7, x8, x9, x10, x11, x12, x13, x14, x15, x16, x17, x18, x19, x20, x21, .int x22, x23, x24, x25, .ref x26, .ref x27, .ref x28, x29, .int x30, .ref x31, x32, x33, x34, x35, x36, x37, x38, x39, x40, .ref x41, x42, x43, x44, x45, x46, x47, x48, x49, x50, x51, x52, x53, x54, x55])), (x56, .inl (x57, 8, .inl x58)), (x59, .inl (x60, 150, .inl x61)), (x62, .inl (x63, 150, .inl x64)), (x65, .inl (x66, 150, .inl x67))]
def qS9 (x0 : Nat) (x1 x2 x3 x4 x5 x6 x7 x8 x9 x10 x11 x12 x13 x14 : Value) (x15 : Nat) (x16 x17 x18 x19 x20 x21 : Value) (x22 : Int32) (x23 x24 x25 : Value) (x26 x27 x28 : Nat) (x29 : Value) (x30 : Int32) (x31 : Nat) (x32 x33 x34 x35 x36 x37 x38 x39 x40 : Value) (x41 : Nat) (x42 x43 x44 x45 x46 x47 x48 x49 x50 x51 x52 x53 x54 x55 : Value) (x56 : Nat) (x57 : ClassId) (x58 : NI) (x59 : Nat) (x60 : ClassId) (x61 : NI) (x62 : Nat) (x63 : ClassId) (x64 : NI) (x65 : Nat) (x66 : ClassId) (x67 : NI) (x68 : Nat) (x69 : ClassId) (x70 : NI) (x71 : Nat) (x72 : ClassId) (x73 : NI) : va_W := [(x0, .inr (11, [x1, x2, x3, x4, x5, x6, x7, x8, x9, x10, x11, x12, x13, x14, .ref x15, x16, x17, x18, x19, x20, x21, .int x22, x23, x24, x25, .ref x26, .ref x27, .ref x28, x29, .int x30, .ref x31, x32, x33, x34, x35, x36, x37, x38, x39, x40, .ref x41, x42, x43, x44, x45, x46, x47, x48, x49, x50, x51, x52, x53, x54, x55])), (x56, .inl (x57, 68, .inl x58)), (x59, .inl (x60, 16, .inl x61)), (x62, .inl (x63, 8, .inl x64)), (x65, .inl (x66, 150, .inl x67)), (x68, .inl (x69, 150, .inl x70)), (x71, .inl (x72, 150, .inl x73))]
def qa46 (x0 : Nat) (x1 x2 x3 x4 x5 x6 x7 x8 x9 x10 x11 x12 x13 x14 : Value) (x15 : Nat) (x16 x17 x18 x19 x20 x21 : Value) (x22 : Int32) (x23 x24 x25 : Value) (x26 x27 x28 : Nat) (x29 : Value) (x30 : Int32) (x31 : Nat) (x32 x33 x34 x35 x36 x37 x38 x39 x40 : Value) (x41 : Nat) (x42 x43 x44 x45 x46 x47 x48 x49 x50 x51 x52 x53 x54 x55 : Value) (x56 : Nat) (x57 : ClassId) (x58 : NI) : va_W := [(x0, .inr (11, [x1, x2, x3, x4, x5, x6, x7, x8, x9, x10, x11, x12, x13, x14, .ref x15, x16, x17, x18, x19, x20, x21, .int x22, x23, x24, x25, .ref x26, .ref x27, .ref x28, x29, .int x30, .ref x31, x32, x33, x34, x35, x36, x37, x38, x39, x40, .ref x41, x42, x43, x44, x45, x46, x47, x48, x49, x50, x51, x52, x53, x54, x55])), (x56, .inl (x57, 68, .inl x58))]
def qa5z (x0 : Nat) (x1 x2 x3 x4 x5 x6 x7 x8 x9 x10 x11 x12 x13 x14 : Value) (x15 : Nat) (x16 x17 x18 x19 x20 x21 : Value) (x22 : Int32) (x23 x24 x25 : Value) (x26 x27 x28 : Nat) (x29 : Value) (x30 : Int32) (x31 : Nat) (x32 x33 x34 x35 x36 x37 x38 x39 x40 : Value) (x41 : Nat) (x42 x43 x44 x45 x46 x47 x48 x49 x50 x51 x52 x53 x54 x55 : Value) (x56 : Nat) (x57 : ClassId) (x58 : NI) : va_W := [(x0, .inr (11, [x1, x2, x3, x4, x5, x6, x7, x8, x9, x10, x11, x12, x13, x14, .ref x15, x16, x17, x18, x19, x20, x21, .int x22, x23, x24, x25, .ref x26, .ref x27, .ref x28, x29, .int x30, .ref x31, x32, x33, x34, x35, x36, x37, x38, x39, x40, .ref x41, x42, x43, x44, x45, x46, x47, x48, x49, x50, x51, x52, x53, x54, x55])), (x56, .inl (x57, 16, .inl x58))]
def qa3V (x0 : Nat) (x1 x2 x3 x4 x5 x6 x7 x8 x9 x10 x11 x12 x13 x14 : Value) (x15 : Nat) (x16 x17 x18 x19 x20 x21 : Value) (x22 : Int32) (x23 x24 x25 : Value) (x26 x27 x28 : Nat) (x29 : Value) (x30 : Int32) (x31 : Nat) (x32 x33 x34 x35 x36 x37 x38 x39 x40 : Value) (x41 : Nat) (x42 x43 x44 x45 x46 x47 x48 x49 x50 x51 x52 x53 x54 x55 : Value) (x56 : Nat) (x57 : ClassId) (x58 : NI) (x59 : Nat) (x60 : ClassId) (x61 : NI) (x62 : Nat) (x63 : ClassId) (x64 : NI) (x65 : Nat) (x66 : ClassId) (x67 : NI) (x68 : Nat) (x69 : ClassId) (x70 : NI) : va_W := [(x0, .inr (11, [x1, x2, x3, x4, x5, x6, x7, x8, x9, x10, x11, x12, x13, x14, .ref x15, x16, x17, x18, x19, x20, x21, .int x22, x23, x24, x25, .ref x26, .ref x27, .ref x28, x29, .int x30, .ref x31, x32, x33, x34, x35, x36, x37, x38, x39, x40, .ref x41, x42, x43, x44, x45, x46, x47, x48, x49, x50, x51, x52, x53, x54, x55])), (x56, .inl (x57, 68, .inl x58)), (x59, .inl (x60, 8, .inl x61)), (x62, .inl (x63, 150, .inl x64)), (x65, .inl (x66, 150, .inl x67)), (x68, .inl (x69, 150, .inl x70))]
def qJs (x0 : Nat) (x1 : Int32) (x2 : Nat) (x3 x4 x5 x6 x7 x8 x9 x10 x11 x12 x13 x14 : Value) (x15 : Nat) (x16 x17 x18 x19 x20 : Value) (x21 x22 : Int32) (x23 x24 x25 : Value) (x26 x27 x28 : Nat) (x29 : Value) (x30 : Int32) (x31 : Nat) (x32 x33 x34 x35 x36 x37 x38 x39 : Value) (x40 x41 : Nat) (x42 x43 x44 x45 x46 x47 x48 x49 x50 x51 x52 x53 x54 x55 : Value) (x56 : Nat) (x57 : ClassId) (x58 : NI) (x59 : Nat) (x60 : ClassId) (x61 : NI) (x62 : Nat) (x63 : ClassId) (x64 : NI) (x65 : Nat) (x66 : ClassId) (x67 : NI) (x68 : Nat) (x69 : ClassId) (x70 : NI) (x71 : Nat) (x72 : ClassId) (x73 : NI) (x74 : Nat) (x75 : ClassId) (x76 : NI) (x77 : Nat) (x78 : ClassId) (x79 : NI) : va_W := [(x0, .inr (11, [.int x1, .ref x2, x3, x4, x5, x6, x7, x8, x9, x10, x11, x12, x13, x14, .ref x15, x16, x17, x18, x19, x20, .int x21, .int x22, x23, x24, x25, .ref x26, .ref x27, .ref x28, x29, .int x30, .ref x31, x32, x33, x34, x35, x36, x37, x38, x39, .ref x40, .ref x41, x42, x43, x44, x45, x46, x47, x48, x49, x50, x51, x52, x53, x54, x55])), (x56, .inl (x57, 2, .inl x58)), (x59, .inl (x60, 68, .inl x61)), (x62, .inl (x63, 68, .inl x64)), (x65, .inl (x66, 16, .inl x67)), (x68, .inl (x69, 8, .inl x70)), (x71, .inl (x72, 150, .inl x73)), (x74, .inl (x75, 150, .inl x76)), (x77, .inl (x78, 150, .inl x79))]
def qaOJ (x0 : Nat) (x1 : Int32) (x2 : Nat) (x3 x4 x5 x6 x7 x8 x9 x10 x11 x12 x13 x14 : Value) (x15 : Nat) (x16 x17 x18 x19 x20 : Value) (x21 x22 : Int32) (x23 x24 x25 : Value) (x26 x27 x28 : Nat) (x29 : Value) (x30 : Int32) (x31 : Nat) (x32 x33 x34 x35 x36 x37 x38 x39 : Value) (x40 x41 : Nat) (x42 x43 x44 x45 x46 x47 x48 x49 x50 x51 x52 x53 x54 x55 : Value) (x56 : Nat) (x57 : ClassId) (x58 : NI) : va_W := [(x0, .inr (11, [.int x1, .ref x2, x3, x4, x5, x6, x7, x8, x9, x10, x11, x12, x13, x14, .ref x15, x16, x17, x18, x19, x20, .int x21, .int x22, x23, x24, x25, .ref x26, .ref x27, .ref x28, x29, .int x30, .ref x31, x32, x33, x34, x35, x36, x37, x38, x39, .ref x40, .ref x41, x42, x43, x44, x45, x46, x47, x48, x49, x50, x51, x52, x53, x54, x55])), (x56, .inl (x57, 2, .inl x58))]
def qa4t (x0 : Nat) (x1 : ClassId) (x2 : NI) (x3 : Nat) (x4 : ClassId) (x5 : NI) (x6 : Nat) (x7 : ClassId) (x8 : NI) (x9 : Nat) (x10 : ClassId) (x11 : NI) (x12 : Nat) (x13 : ClassId) (x14 : NI) (x15 : Nat) (x16 : ClassId) (x17 : NI) (x18 : Nat) (x19 : ClassId) (x20 : NI) : va_W := [(x0, .inl (x1, 68, .inl x2)), (x3, .inl (x4, 68, .inl x5)), (x6, .inl (x7, 16, .inl x8)), (x9, .inl (x10, 8, .inl x11)), (x12, .inl (x13, 150, .inl x14)), (x15, .inl (x16, 150, .inl x17)), (x18, .inl (x19, 150, .inl x20))]
def qa9T (x0 : Nat) (x1 : Int32) (x2 : Nat) (x3 x4 x5 x6 x7 x8 x9 x10 x11 x12 x13 x14 : Value) (x15 : Nat) (x16 x17 x18 x19 x20 : Value) (x21 x22 : Int32) (x23 x24 x25 : Value) (x26 x27 x28 : Nat) (x29 : Value) (x30 : Int32) (x31 : Nat) (x32 x33 x34 x35 x36 x37 x38 x39 : Value) (x40 x41 : Nat) (x42 x43 x44 x45 x46 x47 x48 x49 x50 x51 x52 x53 x54 x55 : Value) (x56 : Nat) (x57 : ClassId) (x58 : NI) (x59 : Nat) (x60 : ClassId) (x61 : NI) : va_W := [(x0, .inr (11, [.int x1, .ref x2, x3, x4, x5, x6, x7, x8, x9, x10, x11, x12, x13, x14, .ref x15, x16, x17, x18, x19, x20, .int x21, .int x22, x23, x24, x25, .ref x26, .ref x27, .ref x28, x29, .int x30, .ref x31, x32, x33, x34, x35, x36, x37, x38, x39, .ref x40, .ref x41, x42, x43, x44, x45, x46, x47, x48, x49, x50, x51, x52, x53, x54, x55])), (x56, .inl (x57, 68, .inl x58)), (x59, .inl (x60, 68, .inl x61))]
def qa4r (x0 : Nat) (x1 : Int32) (x2 : Nat) (x3 x4 x5 x6 x7 x8 x9 x10 x11 x12 x13 x14 : Value) (x15 : Nat) (x16 x17 x18 x19 x20 : Value) (x21 x22 : Int32) (x23 x24 x25 : Value) (x26 x27 x28 : Nat) (x29 : Value) (x30 : Int32) (x31 : Nat) (x32 x33 x34 x35 x36 x37 x38 x39 : Value) (x40 x41 : Nat) (x42 x43 x44 x45 x46 x47 x48 x49 x50 x51 x52 x53 x54 x55 : Value) (x56 : Nat) (x57 : ClassId) (x58 : NI) (x59 : Nat) (x60 : ClassId) (x61 : NI) (x62 : Nat) (x63 : ClassId) (x64 : NI) (x65 : Nat) (x66 : ClassId) (x67 : NI) (x68 : Nat) (x69 : ClassId) (x70 : NI) (x71 : Nat) (x72 : ClassId) (x73 : NI) : va_W := [(x0, .inr (11, [.int x1, .ref x2, x3, x4, x5, x6, x7, x8, x9, x10, x11, x12, x13, x14, .ref x15, x16, x17, x18, x19, x20, .int x21, .int x22, x23, x24, x25, .ref x26, .ref x27, .ref x28, x29, .int x30, .ref x31, x32, x33, x34, x35, x36, x37, x38, x39, .ref x40, .ref x41, x42, x43, x44, x45, x46, x47, x48, x49, x50, x51, x52, x53, x54, x55])), (x56, .inl (x57, 68, .inl x58)), (x59, .inl (x60, 16, .inl x61)), (x62, .inl (x63, 8, .inl x64)), (x65, .inl (x66, 150, .inl x67)), (x68, .inl (x69, 150, .inl x70)), (x71, .inl (x72, 150, .inl x73))]
def qAI (x0 : Nat) (x1 x2 x3 x4 x5 x6 x7 x8 x9 x10 x11 x12 x13 : Value) (x14 : Nat) (x15 x16 x17 : Value) (x18 x19 x20 : Int32) (x21 x22 x23 x24 x25 x26 x27 x28 x29 x30 x31 x32 x33 x34 x35 x36 x37 x38 x39 x40 x41 x42 x43 x44 x45 x46 x47 x48 x49 x50 x51 x52 x53 x54 x55 : Value) (x56 : Nat) (x57 : ClassId) (x58 : NI) : va_W := [(x0, .inr (11, [x1, x2, x3, x4, x5, x6, x7, x8, x9, x10, x11, x12, x13, .ref x14, x15, x16, x17, .int x18, .int x19, .int x20, x21, x22, x23, x24, x25, x26, x27, x28, x29, x30, x31, x32, x33, x34, x35, x36, x37, x38, x39, x40, x41, x42, x43, x44, x45, x46, x47, x48, x49, x50, x51, x52, x53, x54, x55])), (x56, .inl (x57, 36, .inl x58))]
theorem qBB : ∀ w ∈ u_ws RX11 TX11 55, w ∈ wsX11_lastsIn := uiM qxd qfa (by decide +kernel)
theorem q0p : (.fieldLink RX11 169 "MarchHaresModel" "hares" "I" : Cond) ∈ wsX11_lastsIn := qxd 520 (by decide +kernel)
theorem qLq : (.fieldLink RX11 68 "MarchHaresModel" "now" "[I" : Cond) ∈ wsX11_lastsIn := qxd 456 (by decide +kernel)
set_option maxHeartbeats 4000000 in
set_option maxRecDepth 100000 in
theorem qNy (RS : Int32 → NI → Int32 → Int32 → Int32 → Int32 → (Int32 → Prop) → Prop) (fr lo : Nat) (hRw : ∀ (l : Launch) (dC : Nat → ClassId) (dI : Nat → Nat → Nat) (cyB cyI cyJ cyP : ClassId) (a0 jaT sz : Nat) (jaX jaF jaD ja7 jby jbe jaM jaY jap jaK jal jam jax jao ja6 jaV ja8 jae jag jaf ja0 jaP jaw jaI jaZ jaG jaS jan jaU jaE jar jaL jah jaB jaa jaz jaH jab z0_s jaq jai jaO jaA jat jau jav jaj jas jaJ jak jad jay jac : Value) (jaC : Int32) (jb0 : NI) (p1 p2 p3 p4 : Int32) {Q : Int32 → Prop} (hw : RS jaC jb0 p1 p2 p3 p4 Q), Met l yX11_lastsIn wsX11_lastsIn ({ frames := fr, cells := 0, slots := 0, locals := lo }) (va_Pc [.ref a0, .int p1, .int p2, .int p3, .int p4] (cPc (dC, dI) (kT cyB cyI cyJ cyP) (qb8 a0 jaX jaF jaD ja7 jby jbe jaM jaY jap jaK jal jam jax jao ja6 jaV ja8 jae jag jaf ja0 jaC jaP jaw jaI jaZ jaG jaS jan jaU jaE jar jaL jah jaB jaa jaz jaH jab jaT z0_s jaq jai jaO jaA jat jau jav jaj jas jaJ jak jad jay jac jaT cyI jb0) sz)) (va_Qi (fun (r : Int32) (_ : Unit) => Q r ) (cB (dC, dI) (kT cyB cyI cyJ cyP) (va_A (qb8 a0 jaX jaF jaD ja7 jby jbe jaM jaY jap jaK jal jam jax jao ja6 jaV ja8 jae jag jaf ja0 jaC jaP jaw jaI jaZ jaG jaS jan jaU jaE jar jaL jah jaB jaa jaz jaH jab jaT z0_s jaq jai jaO jaA jat jau jav jaj jas jaJ jak jad jay jac jaT cyI jb0) sz) (fun u : Unit => ((qb8 a0 jaX jaF jaD ja7 jby jbe jaM jaY jap jaK jal jam jax jao ja6 jaV ja8 jae jag jaf ja0 jaC jaP jaw jaI jaZ jaG jaS jan jaU jaE jar jaL jah jaB jaa jaz jaH jab jaT z0_s jaq jai jaO jaA jat jau jav jaj jas jaJ jak jad jay jac jaT cyI jb0) : va_W))) (va_A (qb8 a0 jaX jaF jaD ja7 jby jbe jaM jaY jap jaK jal jam jax jao ja6 jaV ja8 jae jag jaf ja0 jaC jaP jaw jaI jaZ jaG jaS jan jaU jaE jar jaL jah jaB jaa jaz jaH jab jaT z0_s jaq jai jaO jaA jat jau jav jaj jas jaJ jak jad jay jac jaT cyI jb0) sz)) 0 0 (va_A (qb8 a0 jaX jaF jaD ja7 jby jbe jaM jaY jap jaK jal jam jax jao ja6 jaV ja8 jae jag jaf ja0 jaC jaP jaw jaI jaZ jaG jaS jan jaU jaE jar jaL jah jaB jaa jaz jaH jab jaT z0_s jaq jai jaO jaA jat jau jav jaj jas jaJ jak jad jay jac jaT cyI jb0) sz)) {p : Program} {l : Launch} {e : Env} {s : State} {m : MethodId} {args : Array Value} {below : List Frame} {meth : Method} {c : Code} {A : Nat → Prop} (dC : Nat → ClassId) (dI : Nat → Nat → Nat) (cyB cyI cyJ cyP : ClassId) (a0 jaT : Nat) (jaX jaF jaD ja7 jby jbe jaM jaY jap jaK jal jam jax jao ja6 jaV ja8 jae jag jaf ja0 jaP jaw jaI jaZ jaG jaS jan jaU jaE jar jaL jah jaB jaa jaz jaH jab z0_s jaq jai jaO jaA jat jau jav jaj jas jaJ jak jad jay jac : Value) (jaC : Int32) (jb0 : NI) (Q : Int32 → Prop) (K22 : Int32 → Int32 → Int32 → Int32 → Int32 → Int32 → Prop) (hK22 : ∀ (H : Heap) (locs : List Loc) (ls : Array Slot) (l1 l2 l3 l4 l5 l6 : Int32), va_P (dC, dI) vwCl (qb8 a0 jaX jaF jaD ja7 jby jbe jaM jaY jap jaK jal jam jax jao ja6 jaV ja8 jae jag jaf ja0 jaC jaP jaw jaI jaZ jaG jaS jan jaU jaE jar jaL jah jaB jaa jaz jaH jab jaT z0_s jaq jai jaO jaA jat jau jav jaj jas jaJ jak jad jay jac jaT cyI jb0) H → va_D A (qb8 a0 jaX jaF jaD ja7 jby jbe jaM jaY jap jaK jal jam jax jao ja6 jaV ja8 jae jag jaf ja0 jaC jaP jaw jaI jaZ jaG jaS jan jaU jaE jar jaL jah jaB jaa jaz jaH jab jaT z0_s jaq jai jaO jaA jat jau jav jaj jas jaJ jak jad jay jac jaT cyI jb0) → va_S A s.heap H locs → lv_has ls 9 [(0, .ref a0), (1, .int l1), (2, .int l2), (3, .int l3), (4, .int l4), (5, .int l5), (6, .int l6)] → K22 l1 l2 l3 l4 l5 l6 → W p l e (headSpec wsX11_lastsIn ({ frames := fr + 1, cells := 0, slots := 0, locals := lo + 28 })).room s m args below meth c H locs 0 0 (MQ below (va_Qi (fun (r : Int32) (_ : Unit) => Q r ) (cB (dC, dI) (kT cyB cyI cyJ cyP) A (fun u : Unit => ((qb8 a0 jaX jaF jaD ja7 jby jbe jaM jaY jap jaK jal jam jax jao ja6 jaV ja8 jae jag jaf ja0 jaC jaP jaw jaI jaZ jaG jaS jan jaU jaE jar jaL jah jaB jaa jaz jaH jab jaT z0_s jaq jai jaO jaA jat jau jav jaj jas jaJ jak jad jay jac jaT cyI jb0) : va_W))) A) args s 0 0 A) (F0 m 22 ls [])) (C0 : cfx p s m args meth c cX11_lastsIn (some .int) wsX11_lastsIn RX11 9 A (dC, dI) (kT cyB cyI cyJ cyP)) : ∀ (H : Heap) (locs : List Loc) (ls : Array Slot) (l1 l2 l3 l4 l5 l6 : Int32), va_P (dC, dI) vwCl (qb8 a0 jaX jaF jaD ja7 jby jbe jaM jaY jap jaK jal jam jax jao ja6 jaV ja8 jae jag jaf ja0 jaC jaP jaw jaI jaZ jaG jaS jan jaU jaE jar jaL jah jaB jaa jaz jaH jab jaT z0_s jaq jai jaO jaA jat jau jav jaj jas jaJ jak jad jay jac jaT cyI jb0) H → va_D A (qb8 a0 jaX jaF jaD ja7 jby jbe jaM jaY jap jaK jal jam jax jao ja6 jaV ja8 jae jag jaf ja0 jaC jaP jaw jaI jaZ jaG jaS jan jaU jaE jar jaL jah jaB jaa jaz jaH jab jaT z0_s jaq jai jaO jaA jat jau jav jaj jas jaJ jak jad jay jac jaT cyI jb0) → va_S A s.heap H locs → lv_has ls 9 [(0, .ref a0), (1, .int l1), (2, .int l2), (3, .int l3), (4, .int l4), (5, .int l5), (6, .int l6)] → qDK RS jaC jb0 Q K22 l1 l2 l3 l4 l5 l6 → W p l e (headSpec wsX11_lastsIn ({ frames := fr + 1, cells := 0, slots := 0, locals := lo + 28 })).room s m args below meth c H locs 0 0 (MQ below (va_Qi (fun (r : Int32) (_ : Unit) => Q r ) (cB (dC, dI) (kT cyB cyI cyJ cyP) A (fun u : Unit => ((qb8 a0 jaX jaF jaD ja7 jby jbe jaM jaY jap jaK jal jam jax jao ja6 jaV ja8 jae jag jaf ja0 jaC jaP jaw jaI jaZ jaG jaS jan jaU jaE jar jaL jah jaB jaa jaz jaH jab jaT z0_s jaq jai jaO jaA jat jau jav jaj jas jaJ jak jad jay jac jaT cyI jb0) : va_W))) A) args s 0 0 A) (F0 m 128 ls []) := by
  obtain ⟨hx, hb, hr, hts, hown, hlocks, hml, hA, hK, hNw⟩ := id C0
  intro H locs ls l1 l2 l3 l4 l5 l6 hP hD hS hl hw
  obtain ⟨x11, ex11⟩ : ∃ y : Int32, y = l6 + 1 := ⟨_, rfl⟩
  have hw := hw x11 ex11
  refine lv_iinc (v := x11) (lv' := [(6, .int x11), (0, .ref a0), (1, .int l1), (2, .int l2), (3, .int l3), (4, .int l4), (5, .int l5)]) hx hb (qaa qbX 8 rfl) hl (k := 6) rfl (by rw [ex11]; rfl) (by decide) rfl (fun ls hl => ?_)
  refine lv_goto (tgt := 22) hx hb (qaa qbX 9 rfl) (by decide) ?_
  exact hK22 _ _ _ l1 l2 l3 l4 l5 x11 hP hD hS (lv_sub hl [1, 2, 3, 4, 5, 6, 0] rfl) hw
set_option maxHeartbeats 4000000 in
set_option maxRecDepth 100000 in
theorem qND (RS : Int32 → NI → Int32 → Int32 → Int32 → Int32 → (Int32 → Prop) → Prop) (fr lo : Nat) (hRw : ∀ (l : Launch) (dC : Nat → ClassId) (dI : Nat → Nat → Nat) (cyB cyI cyJ cyP : ClassId) (a0 jaT sz : Nat) (jaX jaF jaD ja7 jby jbe jaM jaY jap jaK jal jam jax jao ja6 jaV ja8 jae jag jaf ja0 jaP jaw jaI jaZ jaG jaS jan jaU jaE jar jaL jah jaB jaa jaz jaH jab z0_s jaq jai jaO jaA jat jau jav jaj jas jaJ jak jad jay jac : Value) (jaC : Int32) (jb0 : NI) (p1 p2 p3 p4 : Int32) {Q : Int32 → Prop} (hw : RS jaC jb0 p1 p2 p3 p4 Q), Met l yX11_lastsIn wsX11_lastsIn ({ frames := fr, cells := 0, slots := 0, locals := lo }) (va_Pc [.ref a0, .int p1, .int p2, .int p3, .int p4] (cPc (dC, dI) (kT cyB cyI cyJ cyP) (qb8 a0 jaX jaF jaD ja7 jby jbe jaM jaY jap jaK jal jam jax jao ja6 jaV ja8 jae jag jaf ja0 jaC jaP jaw jaI jaZ jaG jaS jan jaU jaE jar jaL jah jaB jaa jaz jaH jab jaT z0_s jaq jai jaO jaA jat jau jav jaj jas jaJ jak jad jay jac jaT cyI jb0) sz)) (va_Qi (fun (r : Int32) (_ : Unit) => Q r ) (cB (dC, dI) (kT cyB cyI cyJ cyP) (va_A (qb8 a0 jaX jaF jaD ja7 jby jbe jaM jaY jap jaK jal jam jax jao ja6 jaV ja8 jae jag jaf ja0 jaC jaP jaw jaI jaZ jaG jaS jan jaU jaE jar jaL jah jaB jaa jaz jaH jab jaT z0_s jaq jai jaO jaA jat jau jav jaj jas jaJ jak jad jay jac jaT cyI jb0) sz) (fun u : Unit => ((qb8 a0 jaX jaF jaD ja7 jby jbe jaM jaY jap jaK jal jam jax jao ja6 jaV ja8 jae jag jaf ja0 jaC jaP jaw jaI jaZ jaG jaS jan jaU jaE jar jaL jah jaB jaa jaz jaH jab jaT z0_s jaq jai jaO jaA jat jau jav jaj jas jaJ jak jad jay jac jaT cyI jb0) : va_W))) (va_A (qb8 a0 jaX jaF jaD ja7 jby jbe jaM jaY jap jaK jal jam jax jao ja6 jaV ja8 jae jag jaf ja0 jaC jaP jaw jaI jaZ jaG jaS jan jaU jaE jar jaL jah jaB jaa jaz jaH jab jaT z0_s jaq jai jaO jaA jat jau jav jaj jas jaJ jak jad jay jac jaT cyI jb0) sz)) 0 0 (va_A (qb8 a0 jaX jaF jaD ja7 jby jbe jaM jaY jap jaK jal jam jax jao ja6 jaV ja8 jae jag jaf ja0 jaC jaP jaw jaI jaZ jaG jaS jan jaU jaE jar jaL jah jaB jaa jaz jaH jab jaT z0_s jaq jai jaO jaA jat jau jav jaj jas jaJ jak jad jay jac jaT cyI jb0) sz)) {p : Program} {l : Launch} {e : Env} {s : State} {m : MethodId} {args : Array Value} {below : List Frame} {meth : Method} {c : Code} {A : Nat → Prop} (dC : Nat → ClassId) (dI : Nat → Nat → Nat) (cyB cyI cyJ cyP : ClassId) (a0 jaT : Nat) (jaX jaF jaD ja7 jby jbe jaM jaY jap jaK jal jam jax jao ja6 jaV ja8 jae jag jaf ja0 jaP jaw jaI jaZ jaG jaS jan jaU jaE jar jaL jah jaB jaa jaz jaH jab z0_s jaq jai jaO jaA jat jau jav jaj jas jaJ jak jad jay jac : Value) (jaC : Int32) (jb0 : NI) (Q : Int32 → Prop) (K22 : Int32 → Int32 → Int32 → Int32 → Int32 → Int32 → Prop) (hK22 : ∀ (H : Heap) (locs : List Loc) (ls : Array Slot) (l1 l2 l3 l4 l5 l6 : Int32), va_P (dC, dI) vwCl (qb8 a0 jaX jaF jaD ja7 jby jbe jaM jaY jap jaK jal jam jax jao ja6 jaV ja8 jae jag jaf ja0 jaC jaP jaw jaI jaZ jaG jaS jan jaU jaE jar jaL jah jaB jaa jaz jaH jab jaT z0_s jaq jai jaO jaA jat jau jav jaj jas jaJ jak jad jay jac jaT cyI jb0) H → va_D A (qb8 a0 jaX jaF jaD ja7 jby jbe jaM jaY jap jaK jal jam jax jao ja6 jaV ja8 jae jag jaf ja0 jaC jaP jaw jaI jaZ jaG jaS jan jaU jaE jar jaL jah jaB jaa jaz jaH jab jaT z0_s jaq jai jaO jaA jat jau jav jaj jas jaJ jak jad jay jac jaT cyI jb0) → va_S A s.heap H locs → lv_has ls 9 [(0, .ref a0), (1, .int l1), (2, .int l2), (3, .int l3), (4, .int l4), (5, .int l5), (6, .int l6)] → K22 l1 l2 l3 l4 l5 l6 → W p l e (headSpec wsX11_lastsIn ({ frames := fr + 1, cells := 0, slots := 0, locals := lo + 28 })).room s m args below meth c H locs 0 0 (MQ below (va_Qi (fun (r : Int32) (_ : Unit) => Q r ) (cB (dC, dI) (kT cyB cyI cyJ cyP) A (fun u : Unit => ((qb8 a0 jaX jaF jaD ja7 jby jbe jaM jaY jap jaK jal jam jax jao ja6 jaV ja8 jae jag jaf ja0 jaC jaP jaw jaI jaZ jaG jaS jan jaU jaE jar jaL jah jaB jaa jaz jaH jab jaT z0_s jaq jai jaO jaA jat jau jav jaj jas jaJ jak jad jay jac jaT cyI jb0) : va_W))) A) args s 0 0 A) (F0 m 22 ls [])) (C0 : cfx p s m args meth c cX11_lastsIn (some .int) wsX11_lastsIn RX11 9 A (dC, dI) (kT cyB cyI cyJ cyP)) : ∀ (H : Heap) (locs : List Loc) (ls : Array Slot) (l1 l2 l3 l4 l6 s0 s2 s3 s4 : Int32), va_P (dC, dI) vwCl (qb8 a0 jaX jaF jaD ja7 jby jbe jaM jaY jap jaK jal jam jax jao ja6 jaV ja8 jae jag jaf ja0 jaC jaP jaw jaI jaZ jaG jaS jan jaU jaE jar jaL jah jaB jaa jaz jaH jab jaT z0_s jaq jai jaO jaA jat jau jav jaj jas jaJ jak jad jay jac jaT cyI jb0) H → va_D A (qb8 a0 jaX jaF jaD ja7 jby jbe jaM jaY jap jaK jal jam jax jao ja6 jaV ja8 jae jag jaf ja0 jaC jaP jaw jaI jaZ jaG jaS jan jaU jaE jar jaL jah jaB jaa jaz jaH jab jaT z0_s jaq jai jaO jaA jat jau jav jaj jas jaJ jak jad jay jac jaT cyI jb0) → va_S A s.heap H locs → lv_has ls 9 [(0, .ref a0), (1, .int l1), (2, .int l2), (3, .int l3), (4, .int l4), (6, .int l6)] → qDt RS jaC jb0 Q K22 l1 l2 l3 l4 l6 s0 s2 s3 s4 → W p l e (headSpec wsX11_lastsIn ({ frames := fr + 1, cells := 0, slots := 0, locals := lo + 28 })).room s m args below meth c H locs 0 0 (MQ below (va_Qi (fun (r : Int32) (_ : Unit) => Q r ) (cB (dC, dI) (kT cyB cyI cyJ cyP) A (fun u : Unit => ((qb8 a0 jaX jaF jaD ja7 jby jbe jaM jaY jap jaK jal jam jax jao ja6 jaV ja8 jae jag jaf ja0 jaC jaP jaw jaI jaZ jaG jaS jan jaU jaE jar jaL jah jaB jaa jaz jaH jab jaT z0_s jaq jai jaO jaA jat jau jav jaj jas jaJ jak jad jay jac jaT cyI jb0) : va_W))) A) args s 0 0 A) (F0 m 120 ls [.int s4, .int s3, .int s2, .ref a0, .int s0]) := by
  obtain ⟨hx, hb, hr, hts, hown, hlocks, hml, hA, hK, hNw⟩ := id C0
  intro H locs ls l1 l2 l3 l4 l6 s0 s2 s3 s4 hP hD hS hl hw
  refine lv_iload hx hb (qaa qbX 4 rfl) (lv_at hl 4 rfl) ?_
  obtain ⟨hCc, hPc, hDc, hFc⟩ := qac (ws' := (qb8 a0 jaX jaF jaD ja7 jby jbe jaM jaY jap jaK jal jam jax jao ja6 jaV ja8 jae jag jaf ja0 jaC jaP jaw jaI jaZ jaG jaS jan jaU jaE jar jaL jah jaB jaa jaz jaH jab jaT z0_s jaq jai jaO jaA jat jau jav jaj jas jaJ jak jad jay jac jaT cyI jb0)) hP hD hS hA [0, 1] (by decide +kernel) rfl
  refine va_calli (va_runV (As := [.int s2, .int s3, .int s4, .int l4]) (rest := [.int s0]) ⟨hx, hb, hml, hown, hts⟩ (hRw l dC dI cyB cyI cyJ cyP a0 jaT H.size (jaX) (jaF) (jaD) (ja7) (jby) (jbe) (jaM) (jaY) (jap) (jaK) (jal) (jam) (jax) (jao) (ja6) (jaV) (ja8) (jae) (jag) (jaf) (ja0) (jaP) (jaw) (jaI) (jaZ) (jaG) (jaS) (jan) (jaU) (jaE) (jar) (jaL) (jah) (jaB) (jaa) (jaz) (jaH) (jab) (z0_s) (jaq) (jai) (jaO) (jaA) (jat) (jau) (jav) (jaj) (jas) (jaJ) (jak) (jad) (jay) (jac) jaC jb0 s2 s3 s4 l4 hw) (cwV 4 hts gX11_lastsIn_X11_lastsIn rfl rfl rfl (by decide +kernel) ⟨(by first | exact nbq rfl | (simp only [headSpec]; omega) | omega), (by first | exact nbq rfl | (simp only [headSpec]; omega) | omega)⟩) ⟨qab, va_recv (q := (RX11, TX11, 55)) hK hPc (ci := 11) (q0 := 0) rfl rfl, qae hPc hK hDc hNw⟩ rfl rfl hl.1 rfl (lv_room (nbq rfl)) (qaa qbX 5 rfl) ⟨(by first | exact nbq rfl | (simp only [headSpec]; omega) | omega), (by first | exact nbq rfl | (simp only [headSpec]; omega) | omega)⟩) hS (fun q _ h => hFc q h) hFc (fun r16 u t H1 locs ht hvm hw hB hz1 hk1 hS => ?_)
  obtain ⟨hP1, hK1, hD1⟩ := hB
  rw [ht] at hP1
  obtain ⟨hP, hD⟩ := qah (wr := []) (w1 := (qb8 a0 jaX jaF jaD ja7 jby jbe jaM jaY jap jaK jal jam jax jao ja6 jaV ja8 jae jag jaf ja0 jaC jaP jaw jaI jaZ jaG jaS jan jaU jaE jar jaL jah jaB jaa jaz jaH jab jaT z0_s jaq jai jaO jaA jat jau jav jaj jas jaJ jak jad jay jac jaT cyI jb0)) (wn := (qb8 a0 jaX jaF jaD ja7 jby jbe jaM jaY jap jaK jal jam jax jao ja6 jaV ja8 jae jag jaf ja0 jaC jaP jaw jaI jaZ jaG jaS jan jaU jaE jar jaL jah jaB jaa jaz jaH jab jaT z0_s jaq jai jaO jaA jat jau jav jaj jas jaJ jak jad jay jac jaT cyI jb0)) hP hD [0, 1] [] hCc rfl (by decide +kernel) (by decide +kernel) rfl hk1 hFc hP1 hD1
  generalize H1 = H at hP hS ⊢
  refine lv_iadd hx hb (qaa qbX 6 rfl) ?_
  refine lv_topi (fun x17 ex17 => ?_)
  have hw := hw x17 ex17
  refine lv_istore (lv' := [(5, .int x17), (0, .ref a0), (1, .int l1), (2, .int l2), (3, .int l3), (4, .int l4), (6, .int l6)]) hx hb (qaa qbX 7 rfl) hl (by decide) rfl (fun ls hl => ?_)
  exact qNy RS fr lo hRw dC dI cyB cyI cyJ cyP a0 jaT jaX jaF jaD ja7 jby jbe jaM jaY jap jaK jal jam jax jao ja6 jaV ja8 jae jag jaf ja0 jaP jaw jaI jaZ jaG jaS jan jaU jaE jar jaL jah jaB jaa jaz jaH jab z0_s jaq jai jaO jaA jat jau jav jaj jas jaJ jak jad jay jac jaC jb0 Q K22 hK22 C0 _ _ _ l1 l2 l3 l4 x17 l6 hP hD hS (lv_sub hl [1, 2, 3, 4, 5, 0, 6] rfl) hw
set_option maxHeartbeats 4000000 in
set_option maxRecDepth 100000 in
theorem qNm (RS : Int32 → NI → Int32 → Int32 → Int32 → Int32 → (Int32 → Prop) → Prop) (fr lo : Nat) (hRw : ∀ (l : Launch) (dC : Nat → ClassId) (dI : Nat → Nat → Nat) (cyB cyI cyJ cyP : ClassId) (a0 jaT sz : Nat) (jaX jaF jaD ja7 jby jbe jaM jaY jap jaK jal jam jax jao ja6 jaV ja8 jae jag jaf ja0 jaP jaw jaI jaZ jaG jaS jan jaU jaE jar jaL jah jaB jaa jaz jaH jab z0_s jaq jai jaO jaA jat jau jav jaj jas jaJ jak jad jay jac : Value) (jaC : Int32) (jb0 : NI) (p1 p2 p3 p4 : Int32) {Q : Int32 → Prop} (hw : RS jaC jb0 p1 p2 p3 p4 Q), Met l yX11_lastsIn wsX11_lastsIn ({ frames := fr, cells := 0, slots := 0, locals := lo }) (va_Pc [.ref a0, .int p1, .int p2, .int p3, .int p4] (cPc (dC, dI) (kT cyB cyI cyJ cyP) (qb8 a0 jaX jaF jaD ja7 jby jbe jaM jaY jap jaK jal jam jax jao ja6 jaV ja8 jae jag jaf ja0 jaC jaP jaw jaI jaZ jaG jaS jan jaU jaE jar jaL jah jaB jaa jaz jaH jab jaT z0_s jaq jai jaO jaA jat jau jav jaj jas jaJ jak jad jay jac jaT cyI jb0) sz)) (va_Qi (fun (r : Int32) (_ : Unit) => Q r ) (cB (dC, dI) (kT cyB cyI cyJ cyP) (va_A (qb8 a0 jaX jaF jaD ja7 jby jbe jaM jaY jap jaK jal jam jax jao ja6 jaV ja8 jae jag jaf ja0 jaC jaP jaw jaI jaZ jaG jaS jan jaU jaE jar jaL jah jaB jaa jaz jaH jab jaT z0_s jaq jai jaO jaA jat jau jav jaj jas jaJ jak jad jay jac jaT cyI jb0) sz) (fun u : Unit => ((qb8 a0 jaX jaF jaD ja7 jby jbe jaM jaY jap jaK jal jam jax jao ja6 jaV ja8 jae jag jaf ja0 jaC jaP jaw jaI jaZ jaG jaS jan jaU jaE jar jaL jah jaB jaa jaz jaH jab jaT z0_s jaq jai jaO jaA jat jau jav jaj jas jaJ jak jad jay jac jaT cyI jb0) : va_W))) (va_A (qb8 a0 jaX jaF jaD ja7 jby jbe jaM jaY jap jaK jal jam jax jao ja6 jaV ja8 jae jag jaf ja0 jaC jaP jaw jaI jaZ jaG jaS jan jaU jaE jar jaL jah jaB jaa jaz jaH jab jaT z0_s jaq jai jaO jaA jat jau jav jaj jas jaJ jak jad jay jac jaT cyI jb0) sz)) 0 0 (va_A (qb8 a0 jaX jaF jaD ja7 jby jbe jaM jaY jap jaK jal jam jax jao ja6 jaV ja8 jae jag jaf ja0 jaC jaP jaw jaI jaZ jaG jaS jan jaU jaE jar jaL jah jaB jaa jaz jaH jab jaT z0_s jaq jai jaO jaA jat jau jav jaj jas jaJ jak jad jay jac jaT cyI jb0) sz)) {p : Program} {l : Launch} {e : Env} {s : State} {m : MethodId} {args : Array Value} {below : List Frame} {meth : Method} {c : Code} {A : Nat → Prop} (dC : Nat → ClassId) (dI : Nat → Nat → Nat) (cyB cyI cyJ cyP : ClassId) (a0 jaT : Nat) (jaX jaF jaD ja7 jby jbe jaM jaY jap jaK jal jam jax jao ja6 jaV ja8 jae jag jaf ja0 jaP jaw jaI jaZ jaG jaS jan jaU jaE jar jaL jah jaB jaa jaz jaH jab z0_s jaq jai jaO jaA jat jau jav jaj jas jaJ jak jad jay jac : Value) (jaC : Int32) (jb0 : NI) (Q : Int32 → Prop) (K22 : Int32 → Int32 → Int32 → Int32 → Int32 → Int32 → Prop) (hK22 : ∀ (H : Heap) (locs : List Loc) (ls : Array Slot) (l1 l2 l3 l4 l5 l6 : Int32), va_P (dC, dI) vwCl (qb8 a0 jaX jaF jaD ja7 jby jbe jaM jaY jap jaK jal jam jax jao ja6 jaV ja8 jae jag jaf ja0 jaC jaP jaw jaI jaZ jaG jaS jan jaU jaE jar jaL jah jaB jaa jaz jaH jab jaT z0_s jaq jai jaO jaA jat jau jav jaj jas jaJ jak jad jay jac jaT cyI jb0) H → va_D A (qb8 a0 jaX jaF jaD ja7 jby jbe jaM jaY jap jaK jal jam jax jao ja6 jaV ja8 jae jag jaf ja0 jaC jaP jaw jaI jaZ jaG jaS jan jaU jaE jar jaL jah jaB jaa jaz jaH jab jaT z0_s jaq jai jaO jaA jat jau jav jaj jas jaJ jak jad jay jac jaT cyI jb0) → va_S A s.heap H locs → lv_has ls 9 [(0, .ref a0), (1, .int l1), (2, .int l2), (3, .int l3), (4, .int l4), (5, .int l5), (6, .int l6)] → K22 l1 l2 l3 l4 l5 l6 → W p l e (headSpec wsX11_lastsIn ({ frames := fr + 1, cells := 0, slots := 0, locals := lo + 28 })).room s m args below meth c H locs 0 0 (MQ below (va_Qi (fun (r : Int32) (_ : Unit) => Q r ) (cB (dC, dI) (kT cyB cyI cyJ cyP) A (fun u : Unit => ((qb8 a0 jaX jaF jaD ja7 jby jbe jaM jaY jap jaK jal jam jax jao ja6 jaV ja8 jae jag jaf ja0 jaC jaP jaw jaI jaZ jaG jaS jan jaU jaE jar jaL jah jaB jaa jaz jaH jab jaT z0_s jaq jai jaO jaA jat jau jav jaj jas jaJ jak jad jay jac jaT cyI jb0) : va_W))) A) args s 0 0 A) (F0 m 22 ls [])) (C0 : cfx p s m args meth c cX11_lastsIn (some .int) wsX11_lastsIn RX11 9 A (dC, dI) (kT cyB cyI cyJ cyP)) : ∀ (H : Heap) (locs : List Loc) (ls : Array Slot) (l1 l2 l3 l4 l6 l8 s0 s2 s3 : Int32), va_P (dC, dI) vwCl (qb8 a0 jaX jaF jaD ja7 jby jbe jaM jaY jap jaK jal jam jax jao ja6 jaV ja8 jae jag jaf ja0 jaC jaP jaw jaI jaZ jaG jaS jan jaU jaE jar jaL jah jaB jaa jaz jaH jab jaT z0_s jaq jai jaO jaA jat jau jav jaj jas jaJ jak jad jay jac jaT cyI jb0) H → va_D A (qb8 a0 jaX jaF jaD ja7 jby jbe jaM jaY jap jaK jal jam jax jao ja6 jaV ja8 jae jag jaf ja0 jaC jaP jaw jaI jaZ jaG jaS jan jaU jaE jar jaL jah jaB jaa jaz jaH jab jaT z0_s jaq jai jaO jaA jat jau jav jaj jas jaJ jak jad jay jac jaT cyI jb0) → va_S A s.heap H locs → lv_has ls 9 [(0, .ref a0), (1, .int l1), (2, .int l2), (3, .int l3), (4, .int l4), (6, .int l6), (8, .int l8)] → qDy RS jaC jb0 Q K22 l1 l2 l3 l4 l6 l8 s0 s2 s3 → W p l e (headSpec wsX11_lastsIn ({ frames := fr + 1, cells := 0, slots := 0, locals := lo + 28 })).room s m args below meth c H locs 0 0 (MQ below (va_Qi (fun (r : Int32) (_ : Unit) => Q r ) (cB (dC, dI) (kT cyB cyI cyJ cyP) A (fun u : Unit => ((qb8 a0 jaX jaF jaD ja7 jby jbe jaM jaY jap jaK jal jam jax jao ja6 jaV ja8 jae jag jaf ja0 jaC jaP jaw jaI jaZ jaG jaS jan jaU jaE jar jaL jah jaB jaa jaz jaH jab jaT z0_s jaq jai jaO jaA jat jau jav jaj jas jaJ jak jad jay jac jaT cyI jb0) : va_W))) A) args s 0 0 A) (F0 m 109 ls [.int s3, .int s2, .ref a0, .int s0]) := by
  obtain ⟨hx, hb, hr, hts, hown, hlocks, hml, hA, hK, hNw⟩ := id C0
  intro H locs ls l1 l2 l3 l4 l6 l8 s0 s2 s3 hP hD hS hl hw
  refine lv_iload hx hb (qaa qbf 15 rfl) (lv_at hl 6 rfl) ?_
  refine lv_if_ge (tgt := 118) hx hb (qaa qbX 0 rfl) (by decide) (fun c15 => ?_) (fun c15 => ?_)
  · have hw := hw.1 c15
    refine lv_iload hx hb (qaa qbX 3 rfl) (lv_at hl 6 rfl) ?_
    exact qND RS fr lo hRw dC dI cyB cyI cyJ cyP a0 jaT jaX jaF jaD ja7 jby jbe jaM jaY jap jaK jal jam jax jao ja6 jaV ja8 jae jag jaf ja0 jaP jaw jaI jaZ jaG jaS jan jaU jaE jar jaL jah jaB jaa jaz jaH jab z0_s jaq jai jaO jaA jat jau jav jaj jas jaJ jak jad jay jac jaC jb0 Q K22 hK22 C0 _ _ _ l1 l2 l3 l4 l6 s0 s2 s3 l8 hP hD hS (lv_sub hl [0, 1, 2, 3, 4, 5] rfl) hw
  · have hw := hw.2 c15
    refine lv_iconst (v := 0) hx hb (qaa qbX 1 rfl) (by decide) ?_
    refine lv_goto (tgt := 120) hx hb (qaa qbX 2 rfl) (by decide) ?_
    exact qND RS fr lo hRw dC dI cyB cyI cyJ cyP a0 jaT jaX jaF jaD ja7 jby jbe jaM jaY jap jaK jal jam jax jao ja6 jaV ja8 jae jag jaf ja0 jaP jaw jaI jaZ jaG jaS jan jaU jaE jar jaL jah jaB jaa jaz jaH jab z0_s jaq jai jaO jaA jat jau jav jaj jas jaJ jak jad jay jac jaC jb0 Q K22 hK22 C0 _ _ _ l1 l2 l3 l4 l6 s0 s2 s3 0 hP hD hS (lv_sub hl [0, 1, 2, 3, 4, 5] rfl) hw
set_option maxHeartbeats 4000000 in
set_option maxRecDepth 100000 in
theorem qRf (RS : Int32 → NI → Int32 → Int32 → Int32 → Int32 → (Int32 → Prop) → Prop) (fr lo : Nat) (hRw : ∀ (l : Launch) (dC : Nat → ClassId) (dI : Nat → Nat → Nat) (cyB cyI cyJ cyP : ClassId) (a0 jaT sz : Nat) (jaX jaF jaD ja7 jby jbe jaM jaY jap jaK jal jam jax jao ja6 jaV ja8 jae jag jaf ja0 jaP jaw jaI jaZ jaG jaS jan jaU jaE jar jaL jah jaB jaa jaz jaH jab z0_s jaq jai jaO jaA jat jau jav jaj jas jaJ jak jad jay jac : Value) (jaC : Int32) (jb0 : NI) (p1 p2 p3 p4 : Int32) {Q : Int32 → Prop} (hw : RS jaC jb0 p1 p2 p3 p4 Q), Met l yX11_lastsIn wsX11_lastsIn ({ frames := fr, cells := 0, slots := 0, locals := lo }) (va_Pc [.ref a0, .int p1, .int p2, .int p3, .int p4] (cPc (dC, dI) (kT cyB cyI cyJ cyP) (qb8 a0 jaX jaF jaD ja7 jby jbe jaM jaY jap jaK jal jam jax jao ja6 jaV ja8 jae jag jaf ja0 jaC jaP jaw jaI jaZ jaG jaS jan jaU jaE jar jaL jah jaB jaa jaz jaH jab jaT z0_s jaq jai jaO jaA jat jau jav jaj jas jaJ jak jad jay jac jaT cyI jb0) sz)) (va_Qi (fun (r : Int32) (_ : Unit) => Q r ) (cB (dC, dI) (kT cyB cyI cyJ cyP) (va_A (qb8 a0 jaX jaF jaD ja7 jby jbe jaM jaY jap jaK jal jam jax jao ja6 jaV ja8 jae jag jaf ja0 jaC jaP jaw jaI jaZ jaG jaS jan jaU jaE jar jaL jah jaB jaa jaz jaH jab jaT z0_s jaq jai jaO jaA jat jau jav jaj jas jaJ jak jad jay jac jaT cyI jb0) sz) (fun u : Unit => ((qb8 a0 jaX jaF jaD ja7 jby jbe jaM jaY jap jaK jal jam jax jao ja6 jaV ja8 jae jag jaf ja0 jaC jaP jaw jaI jaZ jaG jaS jan jaU jaE jar jaL jah jaB jaa jaz jaH jab jaT z0_s jaq jai jaO jaA jat jau jav jaj jas jaJ jak jad jay jac jaT cyI jb0) : va_W))) (va_A (qb8 a0 jaX jaF jaD ja7 jby jbe jaM jaY jap jaK jal jam jax jao ja6 jaV ja8 jae jag jaf ja0 jaC jaP jaw jaI jaZ jaG jaS jan jaU jaE jar jaL jah jaB jaa jaz jaH jab jaT z0_s jaq jai jaO jaA jat jau jav jaj jas jaJ jak jad jay jac jaT cyI jb0) sz)) 0 0 (va_A (qb8 a0 jaX jaF jaD ja7 jby jbe jaM jaY jap jaK jal jam jax jao ja6 jaV ja8 jae jag jaf ja0 jaC jaP jaw jaI jaZ jaG jaS jan jaU jaE jar jaL jah jaB jaa jaz jaH jab jaT z0_s jaq jai jaO jaA jat jau jav jaj jas jaJ jak jad jay jac jaT cyI jb0) sz)) {p : Program} {l : Launch} {e : Env} {s : State} {m : MethodId} {args : Array Value} {below : List Frame} {meth : Method} {c : Code} {A : Nat → Prop} (dC : Nat → ClassId) (dI : Nat → Nat → Nat) (cyB cyI cyJ cyP : ClassId) (a0 jaT : Nat) (jaX jaF jaD ja7 jby jbe jaM jaY jap jaK jal jam jax jao ja6 jaV ja8 jae jag jaf ja0 jaP jaw jaI jaZ jaG jaS jan jaU jaE jar jaL jah jaB jaa jaz jaH jab z0_s jaq jai jaO jaA jat jau jav jaj jas jaJ jak jad jay jac : Value) (jaC : Int32) (jb0 : NI) (Q : Int32 → Prop) (K22 : Int32 → Int32 → Int32 → Int32 → Int32 → Int32 → Prop) (hK22 : ∀ (H : Heap) (locs : List Loc) (ls : Array Slot) (l1 l2 l3 l4 l5 l6 : Int32), va_P (dC, dI) vwCl (qb8 a0 jaX jaF jaD ja7 jby jbe jaM jaY jap jaK jal jam jax jao ja6 jaV ja8 jae jag jaf ja0 jaC jaP jaw jaI jaZ jaG jaS jan jaU jaE jar jaL jah jaB jaa jaz jaH jab jaT z0_s jaq jai jaO jaA jat jau jav jaj jas jaJ jak jad jay jac jaT cyI jb0) H → va_D A (qb8 a0 jaX jaF jaD ja7 jby jbe jaM jaY jap jaK jal jam jax jao ja6 jaV ja8 jae jag jaf ja0 jaC jaP jaw jaI jaZ jaG jaS jan jaU jaE jar jaL jah jaB jaa jaz jaH jab jaT z0_s jaq jai jaO jaA jat jau jav jaj jas jaJ jak jad jay jac jaT cyI jb0) → va_S A s.heap H locs → lv_has ls 9 [(0, .ref a0), (1, .int l1), (2, .int l2), (3, .int l3), (4, .int l4), (5, .int l5), (6, .int l6)] → K22 l1 l2 l3 l4 l5 l6 → W p l e (headSpec wsX11_lastsIn ({ frames := fr + 1, cells := 0, slots := 0, locals := lo + 28 })).room s m args below meth c H locs 0 0 (MQ below (va_Qi (fun (r : Int32) (_ : Unit) => Q r ) (cB (dC, dI) (kT cyB cyI cyJ cyP) A (fun u : Unit => ((qb8 a0 jaX jaF jaD ja7 jby jbe jaM jaY jap jaK jal jam jax jao ja6 jaV ja8 jae jag jaf ja0 jaC jaP jaw jaI jaZ jaG jaS jan jaU jaE jar jaL jah jaB jaa jaz jaH jab jaT z0_s jaq jai jaO jaA jat jau jav jaj jas jaJ jak jad jay jac jaT cyI jb0) : va_W))) A) args s 0 0 A) (F0 m 22 ls [])) (C0 : cfx p s m args meth c cX11_lastsIn (some .int) wsX11_lastsIn RX11 9 A (dC, dI) (kT cyB cyI cyJ cyP)) : ∀ (H : Heap) (locs : List Loc) (ls : Array Slot) (l1 l2 l3 l4 l5 l6 l7 s0 : Int32), va_P (dC, dI) vwCl (qb8 a0 jaX jaF jaD ja7 jby jbe jaM jaY jap jaK jal jam jax jao ja6 jaV ja8 jae jag jaf ja0 jaC jaP jaw jaI jaZ jaG jaS jan jaU jaE jar jaL jah jaB jaa jaz jaH jab jaT z0_s jaq jai jaO jaA jat jau jav jaj jas jaJ jak jad jay jac jaT cyI jb0) H → va_D A (qb8 a0 jaX jaF jaD ja7 jby jbe jaM jaY jap jaK jal jam jax jao ja6 jaV ja8 jae jag jaf ja0 jaC jaP jaw jaI jaZ jaG jaS jan jaU jaE jar jaL jah jaB jaa jaz jaH jab jaT z0_s jaq jai jaO jaA jat jau jav jaj jas jaJ jak jad jay jac jaT cyI jb0) → va_S A s.heap H locs → lv_has ls 9 [(0, .ref a0), (1, .int l1), (2, .int l2), (3, .int l3), (4, .int l4), (5, .int l5), (6, .int l6), (7, .int l7)] → qFL RS jaC jb0 Q K22 l1 l2 l3 l4 l5 l6 l7 s0 → W p l e (headSpec wsX11_lastsIn ({ frames := fr + 1, cells := 0, slots := 0, locals := lo + 28 })).room s m args below meth c H locs 0 0 (MQ below (va_Qi (fun (r : Int32) (_ : Unit) => Q r ) (cB (dC, dI) (kT cyB cyI cyJ cyP) A (fun u : Unit => ((qb8 a0 jaX jaF jaD ja7 jby jbe jaM jaY jap jaK jal jam jax jao ja6 jaV ja8 jae jag jaf ja0 jaC jaP jaw jaI jaZ jaG jaS jan jaU jaE jar jaL jah jaB jaa jaz jaH jab jaT z0_s jaq jai jaO jaA jat jau jav jaj jas jaJ jak jad jay jac jaT cyI jb0) : va_W))) A) args s 0 0 A) (F0 m 83 ls [.int s0]) := by
  obtain ⟨hx, hb, hr, hts, hown, hlocks, hml, hA, hK, hNw⟩ := id C0
  intro H locs ls l1 l2 l3 l4 l5 l6 l7 s0 hP hD hS hl hw
  refine lv_iconst (v := 1) hx hb (qaa qbb 14 rfl) (by decide) ?_
  refine lv_isub hx hb (qaa qbb 15 rfl) ?_
  refine lv_topi (fun x12 ex12 => ?_)
  have hw := hw x12 ex12
  refine lv_istore (lv' := [(8, .int x12), (0, .ref a0), (1, .int l1), (2, .int l2), (3, .int l3), (4, .int l4), (5, .int l5), (6, .int l6), (7, .int l7)]) hx hb (qaa qbf 0 rfl) hl (by decide) rfl (fun ls hl => ?_)
  refine lv_iload hx hb (qaa qbf 1 rfl) (lv_at hl 6 rfl) ?_
  refine lv_aload_n hx hb (qaa qbf 2 rfl) rfl (lv_at hl 1 rfl) ?_
  refine lv_iload_n hx hb (qaa qbf 3 rfl) rfl (lv_at hl 2 rfl) ?_
  refine lv_iconst (v := 1) hx hb (qaa qbf 4 rfl) (by decide) ?_
  refine lv_iload hx hb (qaa qbf 5 rfl) (lv_at hl 7 rfl) ?_
  refine lv_ishl hx hb (qaa qbf 6 rfl) ?_
  refine lv_iconst (v := (-1)) hx hb (qaa qbf 7 rfl) (by decide) ?_
  refine lv_ixor hx hb (qaa qbf 8 rfl) ?_
  refine lv_iand hx hb (qaa qbf 9 rfl) ?_
  refine lv_topi (fun x13 ex13 => ?_)
  have hw := hw x13 ex13
  refine lv_iload hx hb (qaa qbf 10 rfl) (lv_at hl 8 rfl) ?_
  refine lv_if_eq (tgt := 107) hx hb (qaa qbf 11 rfl) (by decide) (fun c14 => ?_) (fun c14 => ?_)
  · have hw := hw.1 c14
    refine lv_iload hx hb (qaa qbf 14 rfl) (lv_at hl 7 rfl) ?_
    exact qNm RS fr lo hRw dC dI cyB cyI cyJ cyP a0 jaT jaX jaF jaD ja7 jby jbe jaM jaY jap jaK jal jam jax jao ja6 jaV ja8 jae jag jaf ja0 jaP jaw jaI jaZ jaG jaS jan jaU jaE jar jaL jah jaB jaa jaz jaH jab z0_s jaq jai jaO jaA jat jau jav jaj jas jaJ jak jad jay jac jaC jb0 Q K22 hK22 C0 _ _ _ l1 l2 l3 l4 l6 x12 l5 x13 l6 hP hD hS (lv_sub hl [1, 2, 3, 4, 5, 7, 0] rfl) hw
  · have hw := hw.2 c14
    refine lv_iload_n hx hb (qaa qbf 12 rfl) rfl (lv_at hl 3 rfl) ?_
    refine lv_goto (tgt := 109) hx hb (qaa qbf 13 rfl) (by decide) ?_
    exact qNm RS fr lo hRw dC dI cyB cyI cyJ cyP a0 jaT jaX jaF jaD ja7 jby jbe jaM jaY jap jaK jal jam jax jao ja6 jaV ja8 jae jag jaf ja0 jaP jaw jaI jaZ jaG jaS jan jaU jaE jar jaL jah jaB jaa jaz jaH jab z0_s jaq jai jaO jaA jat jau jav jaj jas jaJ jak jad jay jac jaC jb0 Q K22 hK22 C0 _ _ _ l1 l2 l3 l4 l6 x12 l5 x13 l2 hP hD hS (lv_sub hl [1, 2, 3, 4, 5, 7, 0] rfl) hw
set_option maxHeartbeats 4000000 in
set_option maxRecDepth 100000 in
theorem qOR (RS : Int32 → NI → Int32 → Int32 → Int32 → Int32 → (Int32 → Prop) → Prop) (fr lo : Nat) (hRw : ∀ (l : Launch) (dC : Nat → ClassId) (dI : Nat → Nat → Nat) (cyB cyI cyJ cyP : ClassId) (a0 jaT sz : Nat) (jaX jaF jaD ja7 jby jbe jaM jaY jap jaK jal jam jax jao ja6 jaV ja8 jae jag jaf ja0 jaP jaw jaI jaZ jaG jaS jan jaU jaE jar jaL jah jaB jaa jaz jaH jab z0_s jaq jai jaO jaA jat jau jav jaj jas jaJ jak jad jay jac : Value) (jaC : Int32) (jb0 : NI) (p1 p2 p3 p4 : Int32) {Q : Int32 → Prop} (hw : RS jaC jb0 p1 p2 p3 p4 Q), Met l yX11_lastsIn wsX11_lastsIn ({ frames := fr, cells := 0, slots := 0, locals := lo }) (va_Pc [.ref a0, .int p1, .int p2, .int p3, .int p4] (cPc (dC, dI) (kT cyB cyI cyJ cyP) (qb8 a0 jaX jaF jaD ja7 jby jbe jaM jaY jap jaK jal jam jax jao ja6 jaV ja8 jae jag jaf ja0 jaC jaP jaw jaI jaZ jaG jaS jan jaU jaE jar jaL jah jaB jaa jaz jaH jab jaT z0_s jaq jai jaO jaA jat jau jav jaj jas jaJ jak jad jay jac jaT cyI jb0) sz)) (va_Qi (fun (r : Int32) (_ : Unit) => Q r ) (cB (dC, dI) (kT cyB cyI cyJ cyP) (va_A (qb8 a0 jaX jaF jaD ja7 jby jbe jaM jaY jap jaK jal jam jax jao ja6 jaV ja8 jae jag jaf ja0 jaC jaP jaw jaI jaZ jaG jaS jan jaU jaE jar jaL jah jaB jaa jaz jaH jab jaT z0_s jaq jai jaO jaA jat jau jav jaj jas jaJ jak jad jay jac jaT cyI jb0) sz) (fun u : Unit => ((qb8 a0 jaX jaF jaD ja7 jby jbe jaM jaY jap jaK jal jam jax jao ja6 jaV ja8 jae jag jaf ja0 jaC jaP jaw jaI jaZ jaG jaS jan jaU jaE jar jaL jah jaB jaa jaz jaH jab jaT z0_s jaq jai jaO jaA jat jau jav jaj jas jaJ jak jad jay jac jaT cyI jb0) : va_W))) (va_A (qb8 a0 jaX jaF jaD ja7 jby jbe jaM jaY jap jaK jal jam jax jao ja6 jaV ja8 jae jag jaf ja0 jaC jaP jaw jaI jaZ jaG jaS jan jaU jaE jar jaL jah jaB jaa jaz jaH jab jaT z0_s jaq jai jaO jaA jat jau jav jaj jas jaJ jak jad jay jac jaT cyI jb0) sz)) 0 0 (va_A (qb8 a0 jaX jaF jaD ja7 jby jbe jaM jaY jap jaK jal jam jax jao ja6 jaV ja8 jae jag jaf ja0 jaC jaP jaw jaI jaZ jaG jaS jan jaU jaE jar jaL jah jaB jaa jaz jaH jab jaT z0_s jaq jai jaO jaA jat jau jav jaj jas jaJ jak jad jay jac jaT cyI jb0) sz)) {p : Program} {l : Launch} {e : Env} {s : State} {m : MethodId} {args : Array Value} {below : List Frame} {meth : Method} {c : Code} {A : Nat → Prop} (dC : Nat → ClassId) (dI : Nat → Nat → Nat) (cyB cyI cyJ cyP : ClassId) (a0 jaT : Nat) (jaX jaF jaD ja7 jby jbe jaM jaY jap jaK jal jam jax jao ja6 jaV ja8 jae jag jaf ja0 jaP jaw jaI jaZ jaG jaS jan jaU jaE jar jaL jah jaB jaa jaz jaH jab z0_s jaq jai jaO jaA jat jau jav jaj jas jaJ jak jad jay jac : Value) (jaC : Int32) (jb0 : NI) (Q : Int32 → Prop) (K22 : Int32 → Int32 → Int32 → Int32 → Int32 → Int32 → Prop) (hK22 : ∀ (H : Heap) (locs : List Loc) (ls : Array Slot) (l1 l2 l3 l4 l5 l6 : Int32), va_P (dC, dI) vwCl (qb8 a0 jaX jaF jaD ja7 jby jbe jaM jaY jap jaK jal jam jax jao ja6 jaV ja8 jae jag jaf ja0 jaC jaP jaw jaI jaZ jaG jaS jan jaU jaE jar jaL jah jaB jaa jaz jaH jab jaT z0_s jaq jai jaO jaA jat jau jav jaj jas jaJ jak jad jay jac jaT cyI jb0) H → va_D A (qb8 a0 jaX jaF jaD ja7 jby jbe jaM jaY jap jaK jal jam jax jao ja6 jaV ja8 jae jag jaf ja0 jaC jaP jaw jaI jaZ jaG jaS jan jaU jaE jar jaL jah jaB jaa jaz jaH jab jaT z0_s jaq jai jaO jaA jat jau jav jaj jas jaJ jak jad jay jac jaT cyI jb0) → va_S A s.heap H locs → lv_has ls 9 [(0, .ref a0), (1, .int l1), (2, .int l2), (3, .int l3), (4, .int l4), (5, .int l5), (6, .int l6)] → K22 l1 l2 l3 l4 l5 l6 → W p l e (headSpec wsX11_lastsIn ({ frames := fr + 1, cells := 0, slots := 0, locals := lo + 28 })).room s m args below meth c H locs 0 0 (MQ below (va_Qi (fun (r : Int32) (_ : Unit) => Q r ) (cB (dC, dI) (kT cyB cyI cyJ cyP) A (fun u : Unit => ((qb8 a0 jaX jaF jaD ja7 jby jbe jaM jaY jap jaK jal jam jax jao ja6 jaV ja8 jae jag jaf ja0 jaC jaP jaw jaI jaZ jaG jaS jan jaU jaE jar jaL jah jaB jaa jaz jaH jab jaT z0_s jaq jai jaO jaA jat jau jav jaj jas jaJ jak jad jay jac jaT cyI jb0) : va_W))) A) args s 0 0 A) (F0 m 22 ls [])) (C0 : cfx p s m args meth c cX11_lastsIn (some .int) wsX11_lastsIn RX11 9 A (dC, dI) (kT cyB cyI cyJ cyP)) : ∀ (H : Heap) (locs : List Loc) (ls : Array Slot) (l1 l2 l3 l4 l5 l6 s0 : Int32), va_P (dC, dI) vwCl (qb8 a0 jaX jaF jaD ja7 jby jbe jaM jaY jap jaK jal jam jax jao ja6 jaV ja8 jae jag jaf ja0 jaC jaP jaw jaI jaZ jaG jaS jan jaU jaE jar jaL jah jaB jaa jaz jaH jab jaT z0_s jaq jai jaO jaA jat jau jav jaj jas jaJ jak jad jay jac jaT cyI jb0) H → va_D A (qb8 a0 jaX jaF jaD ja7 jby jbe jaM jaY jap jaK jal jam jax jao ja6 jaV ja8 jae jag jaf ja0 jaC jaP jaw jaI jaZ jaG jaS jan jaU jaE jar jaL jah jaB jaa jaz jaH jab jaT z0_s jaq jai jaO jaA jat jau jav jaj jas jaJ jak jad jay jac jaT cyI jb0) → va_S A s.heap H locs → lv_has ls 9 [(0, .ref a0), (1, .int l1), (2, .int l2), (3, .int l3), (4, .int l4), (5, .int l5), (6, .int l6)] → qFW RS jaC jb0 Q K22 l1 l2 l3 l4 l5 l6 s0 → W p l e (headSpec wsX11_lastsIn ({ frames := fr + 1, cells := 0, slots := 0, locals := lo + 28 })).room s m args below meth c H locs 0 0 (MQ below (va_Qi (fun (r : Int32) (_ : Unit) => Q r ) (cB (dC, dI) (kT cyB cyI cyJ cyP) A (fun u : Unit => ((qb8 a0 jaX jaF jaD ja7 jby jbe jaM jaY jap jaK jal jam jax jao ja6 jaV ja8 jae jag jaf ja0 jaC jaP jaw jaI jaZ jaG jaS jan jaU jaE jar jaL jah jaB jaa jaz jaH jab jaT z0_s jaq jai jaO jaA jat jau jav jaj jas jaJ jak jad jay jac jaT cyI jb0) : va_W))) A) args s 0 0 A) (F0 m 62 ls [.int s0]) := by
  obtain ⟨hx, hb, hr, hts, hown, hlocks, hml, hA, hK, hNw⟩ := id C0
  intro H locs ls l1 l2 l3 l4 l5 l6 s0 hP hD hS hl hw
  refine lv_istore (lv' := [(7, .int s0), (0, .ref a0), (1, .int l1), (2, .int l2), (3, .int l3), (4, .int l4), (5, .int l5), (6, .int l6)]) hx hb (qaa qbb 3 rfl) hl (by decide) rfl (fun ls hl => ?_)
  refine lv_iload hx hb (qaa qbb 4 rfl) (lv_at hl 0 rfl) ?_
  refine lv_if_eq (tgt := 73) hx hb (qaa qbb 5 rfl) (by decide) (fun c8 => ?_) (fun c8 => ?_)
  · have hw := hw.1 c8
    refine lv_aload_n hx hb (qaa qbb 8 rfl) rfl (lv_at hl 1 rfl) ?_
    refine va_get (D := (dC, dI)) (ci := 11) (v := .ref jaT) (C := RX11) (T := TX11) (N := 55) hx hb hts qBB hown hK hP 0 rfl rfl 39 (by decide) (hts _ qLq) (fun _ h9 => h9) rfl (qaa qbb 9 rfl) ?_
    refine lv_bipush (v := 6) hx hb (qaa qbb 10 rfl) (by decide) ?_
    refine lv_iload hx hb (qaa qbb 11 rfl) (lv_at hl 7 rfl) ?_
    refine lv_iadd hx hb (qaa qbb 12 rfl) ?_
    refine lv_topi (fun x9 ex9 => ?_)
    have hw := hw x9 ex9
    obtain ⟨hi9, hw⟩ := hw
    refine va_iald hx hb hK hP 1 1 rfl rfl hi9 (qaa qbb 13 rfl) ?_
    refine lv_topi (fun x10 ex10 => ?_)
    have hw := hw x10 ex10
    exact qRf RS fr lo hRw dC dI cyB cyI cyJ cyP a0 jaT jaX jaF jaD ja7 jby jbe jaM jaY jap jaK jal jam jax jao ja6 jaV ja8 jae jag jaf ja0 jaP jaw jaI jaZ jaG jaS jan jaU jaE jar jaL jah jaB jaa jaz jaH jab z0_s jaq jai jaO jaA jat jau jav jaj jas jaJ jak jad jay jac jaC jb0 Q K22 hK22 C0 _ _ _ l1 l2 l3 l4 l5 l6 s0 x10 hP hD hS (lv_sub hl [1, 2, 3, 4, 5, 6, 7, 0] rfl) hw
  · have hw := hw.2 c8
    refine lv_iload_n hx hb (qaa qbb 6 rfl) rfl (lv_at hl 4 rfl) ?_
    refine lv_goto (tgt := 83) hx hb (qaa qbb 7 rfl) (by decide) ?_
    exact qRf RS fr lo hRw dC dI cyB cyI cyJ cyP a0 jaT jaX jaF jaD ja7 jby jbe jaM jaY jap jaK jal jam jax jao ja6 jaV ja8 jae jag jaf ja0 jaP jaw jaI jaZ jaG jaS jan jaU jaE jar jaL jah jaB jaa jaz jaH jab z0_s jaq jai jaO jaA jat jau jav jaj jas jaJ jak jad jay jac jaC jb0 Q K22 hK22 C0 _ _ _ l1 l2 l3 l4 l5 l6 s0 l3 hP hD hS (lv_sub hl [1, 2, 3, 4, 5, 6, 7, 0] rfl) hw
set_option maxHeartbeats 4000000 in
set_option maxRecDepth 100000 in
theorem q97 (RS : Int32 → NI → Int32 → Int32 → Int32 → Int32 → (Int32 → Prop) → Prop) (fr lo : Nat) (hRw : ∀ (l : Launch) (dC : Nat → ClassId) (dI : Nat → Nat → Nat) (cyB cyI cyJ cyP : ClassId) (a0 jaT sz : Nat) (jaX jaF jaD ja7 jby jbe jaM jaY jap jaK jal jam jax jao ja6 jaV ja8 jae jag jaf ja0 jaP jaw jaI jaZ jaG jaS jan jaU jaE jar jaL jah jaB jaa jaz jaH jab z0_s jaq jai jaO jaA jat jau jav jaj jas jaJ jak jad jay jac : Value) (jaC : Int32) (jb0 : NI) (p1 p2 p3 p4 : Int32) {Q : Int32 → Prop} (hw : RS jaC jb0 p1 p2 p3 p4 Q), Met l yX11_lastsIn wsX11_lastsIn ({ frames := fr, cells := 0, slots := 0, locals := lo }) (va_Pc [.ref a0, .int p1, .int p2, .int p3, .int p4] (cPc (dC, dI) (kT cyB cyI cyJ cyP) (qb8 a0 jaX jaF jaD ja7 jby jbe jaM jaY jap jaK jal jam jax jao ja6 jaV ja8 jae jag jaf ja0 jaC jaP jaw jaI jaZ jaG jaS jan jaU jaE jar jaL jah jaB jaa jaz jaH jab jaT z0_s jaq jai jaO jaA jat jau jav jaj jas jaJ jak jad jay jac jaT cyI jb0) sz)) (va_Qi (fun (r : Int32) (_ : Unit) => Q r ) (cB (dC, dI) (kT cyB cyI cyJ cyP) (va_A (qb8 a0 jaX jaF jaD ja7 jby jbe jaM jaY jap jaK jal jam jax jao ja6 jaV ja8 jae jag jaf ja0 jaC jaP jaw jaI jaZ jaG jaS jan jaU jaE jar jaL jah jaB jaa jaz jaH jab jaT z0_s jaq jai jaO jaA jat jau jav jaj jas jaJ jak jad jay jac jaT cyI jb0) sz) (fun u : Unit => ((qb8 a0 jaX jaF jaD ja7 jby jbe jaM jaY jap jaK jal jam jax jao ja6 jaV ja8 jae jag jaf ja0 jaC jaP jaw jaI jaZ jaG jaS jan jaU jaE jar jaL jah jaB jaa jaz jaH jab jaT z0_s jaq jai jaO jaA jat jau jav jaj jas jaJ jak jad jay jac jaT cyI jb0) : va_W))) (va_A (qb8 a0 jaX jaF jaD ja7 jby jbe jaM jaY jap jaK jal jam jax jao ja6 jaV ja8 jae jag jaf ja0 jaC jaP jaw jaI jaZ jaG jaS jan jaU jaE jar jaL jah jaB jaa jaz jaH jab jaT z0_s jaq jai jaO jaA jat jau jav jaj jas jaJ jak jad jay jac jaT cyI jb0) sz)) 0 0 (va_A (qb8 a0 jaX jaF jaD ja7 jby jbe jaM jaY jap jaK jal jam jax jao ja6 jaV ja8 jae jag jaf ja0 jaC jaP jaw jaI jaZ jaG jaS jan jaU jaE jar jaL jah jaB jaa jaz jaH jab jaT z0_s jaq jai jaO jaA jat jau jav jaj jas jaJ jak jad jay jac jaT cyI jb0) sz)) {p : Program} {l : Launch} {e : Env} {s : State} {m : MethodId} {args : Array Value} {below : List Frame} {meth : Method} {c : Code} {A : Nat → Prop} (dC : Nat → ClassId) (dI : Nat → Nat → Nat) (cyB cyI cyJ cyP : ClassId) (a0 jaT : Nat) (jaX jaF jaD ja7 jby jbe jaM jaY jap jaK jal jam jax jao ja6 jaV ja8 jae jag jaf ja0 jaP jaw jaI jaZ jaG jaS jan jaU jaE jar jaL jah jaB jaa jaz jaH jab z0_s jaq jai jaO jaA jat jau jav jaj jas jaJ jak jad jay jac : Value) (jaC : Int32) (jb0 : NI) (Q : Int32 → Prop) (C0 : cfx p s m args meth c cX11_lastsIn (some .int) wsX11_lastsIn RX11 9 A (dC, dI) (kT cyB cyI cyJ cyP)) : ∀ (n : Nat) (H : Heap) (locs : List Loc) (ls : Array Slot) (l1 l2 l3 l4 l5 l6 : Int32), va_P (dC, dI) vwCl (qb8 a0 jaX jaF jaD ja7 jby jbe jaM jaY jap jaK jal jam jax jao ja6 jaV ja8 jae jag jaf ja0 jaC jaP jaw jaI jaZ jaG jaS jan jaU jaE jar jaL jah jaB jaa jaz jaH jab jaT z0_s jaq jai jaO jaA jat jau jav jaj jas jaJ jak jad jay jac jaT cyI jb0) H → va_D A (qb8 a0 jaX jaF jaD ja7 jby jbe jaM jaY jap jaK jal jam jax jao ja6 jaV ja8 jae jag jaf ja0 jaC jaP jaw jaI jaZ jaG jaS jan jaU jaE jar jaL jah jaB jaa jaz jaH jab jaT z0_s jaq jai jaO jaA jat jau jav jaj jas jaJ jak jad jay jac jaT cyI jb0) → va_S A s.heap H locs → lv_has ls 9 [(0, .ref a0), (1, .int l1), (2, .int l2), (3, .int l3), (4, .int l4), (5, .int l5), (6, .int l6)] → qnH RS jaC jb0 Q n l1 l2 l3 l4 l5 l6 → W p l e (headSpec wsX11_lastsIn ({ frames := fr + 1, cells := 0, slots := 0, locals := lo + 28 })).room s m args below meth c H locs 0 0 (MQ below (va_Qi (fun (r : Int32) (_ : Unit) => Q r ) (cB (dC, dI) (kT cyB cyI cyJ cyP) A (fun u : Unit => ((qb8 a0 jaX jaF jaD ja7 jby jbe jaM jaY jap jaK jal jam jax jao ja6 jaV ja8 jae jag jaf ja0 jaC jaP jaw jaI jaZ jaG jaS jan jaU jaE jar jaL jah jaB jaa jaz jaH jab jaT z0_s jaq jai jaO jaA jat jau jav jaj jas jaJ jak jad jay jac jaT cyI jb0) : va_W))) A) args s 0 0 A) (F0 m 22 ls []) := by
  obtain ⟨hx, hb, hr, hts, hown, hlocks, hml, hA, hK, hNw⟩ := id C0
  intro n
  induction n with
  | zero => intro H locs ls l1 l2 l3 l4 l5 l6 hP hD hS hl hw; exact False.elim hw
  | succ n ih =>
    intro H locs ls l1 l2 l3 l4 l5 l6 hP hD hS hl hw
    refine lv_iload hx hb (qaa qbj 13 rfl) (lv_at hl 6 rfl) ?_
    refine lv_aload_n hx hb (qaa qbj 14 rfl) rfl (lv_at hl 0 rfl) ?_
    refine va_get (D := (dC, dI)) (ci := 11) (v := .int jaC) (C := RX11) (T := TX11) (N := 55) hx hb hts qBB hown hK hP 0 rfl rfl 21 (by decide) (hts _ q0p) (fun _ h9 => h9) rfl (qaa qbj 15 rfl) ?_
    refine lv_icmp_ge (tgt := 134) hx hb (qaa qbe 0 rfl) (by decide) (fun c3 => ?_) (fun c3 => ?_)
    · have hw := hw.1 c3
      refine lv_iload hx hb (qaa qbX 10 rfl) (lv_at hl 5 rfl) ?_
      exact ((W.iret (v := l5) hx hb hr (fun t ht hW => ⟨⟨l5, (), rfl, hw, by rw [ht]; exact hP, va_K.moved hW.alike hK, hD⟩, hS.F ht⟩) hS.2.2 (qaa qbX 11 rfl)))
    · have hw := hw.2 c3
      refine lv_iload_n hx hb (qaa qbe 1 rfl) rfl (lv_at hl 1 rfl) ?_
      refine lv_iload hx hb (qaa qbe 2 rfl) (lv_at hl 6 rfl) ?_
      refine lv_ishr hx hb (qaa qbe 3 rfl) ?_
      refine lv_iconst (v := 1) hx hb (qaa qbe 4 rfl) (by decide) ?_
      refine lv_iand hx hb (qaa qbe 5 rfl) ?_
      refine lv_if_ne (tgt := 43) hx hb (qaa qbe 6 rfl) (by decide) (fun c4 => ?_) (fun c4 => ?_)
      · have hw := hw.1 c4
        refine lv_iload_n hx hb (qaa qbe 8 rfl) rfl (lv_at hl 3 rfl) ?_
        refine lv_aload_n hx hb (qaa qbe 9 rfl) rfl (lv_at hl 0 rfl) ?_
        refine va_get (D := (dC, dI)) (ci := 11) (v := .ref jaT) (C := RX11) (T := TX11) (N := 55) hx hb hts qBB hown hK hP 0 rfl rfl 39 (by decide) (hts _ qLq) (fun _ h9 => h9) rfl (qaa qbe 10 rfl) ?_
        refine lv_bipush (v := 6) hx hb (qaa qbe 11 rfl) (by decide) ?_
        refine lv_iload hx hb (qaa qbe 12 rfl) (lv_at hl 6 rfl) ?_
        refine lv_iadd hx hb (qaa qbe 13 rfl) ?_
        refine lv_topi (fun x5 ex5 => ?_)
        have hw := hw x5 ex5
        obtain ⟨hi9, hw⟩ := hw
        refine va_iald hx hb hK hP 1 1 rfl rfl hi9 (qaa qbe 14 rfl) ?_
        refine lv_topi (fun x6 ex6 => ?_)
        have hw := hw x6 ex6
        refine lv_icmp_lt (tgt := 61) hx hb (qaa qbe 15 rfl) (by decide) (fun c7 => ?_) (fun c7 => ?_)
        · have hw := hw.1 c7
          refine lv_iconst (v := 0) hx hb (qaa qbb 2 rfl) (by decide) ?_
          exact qOR RS fr lo hRw dC dI cyB cyI cyJ cyP a0 jaT jaX jaF jaD ja7 jby jbe jaM jaY jap jaK jal jam jax jao ja6 jaV ja8 jae jag jaf ja0 jaP jaw jaI jaZ jaG jaS jan jaU jaE jar jaL jah jaB jaa jaz jaH jab z0_s jaq jai jaO jaA jat jau jav jaj jas jaJ jak jad jay jac jaC jb0 Q (qnH RS jaC jb0 Q n) ih C0 _ _ _ l1 l2 l3 l4 l5 l6 0 hP hD hS (lv_sub hl [0, 1, 2, 3, 4, 5, 6] rfl) hw
        · have hw := hw.2 c7
          refine lv_iconst (v := 1) hx hb (qaa qbb 0 rfl) (by decide) ?_
          refine lv_goto (tgt := 62) hx hb (qaa qbb 1 rfl) (by decide) ?_
          exact qOR RS fr lo hRw dC dI cyB cyI cyJ cyP a0 jaT jaX jaF jaD ja7 jby jbe jaM jaY jap jaK jal jam jax jao ja6 jaV ja8 jae jag jaf ja0 jaP jaw jaI jaZ jaG jaS jan jaU jaE jar jaL jah jaB jaa jaz jaH jab z0_s jaq jai jaO jaA jat jau jav jaj jas jaJ jak jad jay jac jaC jb0 Q (qnH RS jaC jb0 Q n) ih C0 _ _ _ l1 l2 l3 l4 l5 l6 1 hP hD hS (lv_sub hl [0, 1, 2, 3, 4, 5, 6] rfl) hw
      · have hw := hw.2 c4
        refine lv_goto (tgt := 128) hx hb (qaa qbe 7 rfl) (by decide) ?_
        exact qNy RS fr lo hRw dC dI cyB cyI cyJ cyP a0 jaT jaX jaF jaD ja7 jby jbe jaM jaY jap jaK jal jam jax jao ja6 jaV ja8 jae jag jaf ja0 jaP jaw jaI jaZ jaG jaS jan jaU jaE jar jaL jah jaB jaa jaz jaH jab z0_s jaq jai jaO jaA jat jau jav jaj jas jaJ jak jad jay jac jaC jb0 Q (qnH RS jaC jb0 Q n) ih C0 _ _ _ l1 l2 l3 l4 l5 l6 hP hD hS (lv_sub hl [0, 1, 2, 3, 4, 5, 6] rfl) hw
set_option maxHeartbeats 4000000 in
set_option maxRecDepth 100000 in
theorem qAc (RS : Int32 → NI → Int32 → Int32 → Int32 → Int32 → (Int32 → Prop) → Prop) (fr lo : Nat) (hRw : ∀ (l : Launch) (dC : Nat → ClassId) (dI : Nat → Nat → Nat) (cyB cyI cyJ cyP : ClassId) (a0 jaT sz : Nat) (jaX jaF jaD ja7 jby jbe jaM jaY jap jaK jal jam jax jao ja6 jaV ja8 jae jag jaf ja0 jaP jaw jaI jaZ jaG jaS jan jaU jaE jar jaL jah jaB jaa jaz jaH jab z0_s jaq jai jaO jaA jat jau jav jaj jas jaJ jak jad jay jac : Value) (jaC : Int32) (jb0 : NI) (p1 p2 p3 p4 : Int32) {Q : Int32 → Prop} (hw : RS jaC jb0 p1 p2 p3 p4 Q), Met l yX11_lastsIn wsX11_lastsIn ({ frames := fr, cells := 0, slots := 0, locals := lo }) (va_Pc [.ref a0, .int p1, .int p2, .int p3, .int p4] (cPc (dC, dI) (kT cyB cyI cyJ cyP) (qb8 a0 jaX jaF jaD ja7 jby jbe jaM jaY jap jaK jal jam jax jao ja6 jaV ja8 jae jag jaf ja0 jaC jaP jaw jaI jaZ jaG jaS jan jaU jaE jar jaL jah jaB jaa jaz jaH jab jaT z0_s jaq jai jaO jaA jat jau jav jaj jas jaJ jak jad jay jac jaT cyI jb0) sz)) (va_Qi (fun (r : Int32) (_ : Unit) => Q r ) (cB (dC, dI) (kT cyB cyI cyJ cyP) (va_A (qb8 a0 jaX jaF jaD ja7 jby jbe jaM jaY jap jaK jal jam jax jao ja6 jaV ja8 jae jag jaf ja0 jaC jaP jaw jaI jaZ jaG jaS jan jaU jaE jar jaL jah jaB jaa jaz jaH jab jaT z0_s jaq jai jaO jaA jat jau jav jaj jas jaJ jak jad jay jac jaT cyI jb0) sz) (fun u : Unit => ((qb8 a0 jaX jaF jaD ja7 jby jbe jaM jaY jap jaK jal jam jax jao ja6 jaV ja8 jae jag jaf ja0 jaC jaP jaw jaI jaZ jaG jaS jan jaU jaE jar jaL jah jaB jaa jaz jaH jab jaT z0_s jaq jai jaO jaA jat jau jav jaj jas jaJ jak jad jay jac jaT cyI jb0) : va_W))) (va_A (qb8 a0 jaX jaF jaD ja7 jby jbe jaM jaY jap jaK jal jam jax jao ja6 jaV ja8 jae jag jaf ja0 jaC jaP jaw jaI jaZ jaG jaS jan jaU jaE jar jaL jah jaB jaa jaz jaH jab jaT z0_s jaq jai jaO jaA jat jau jav jaj jas jaJ jak jad jay jac jaT cyI jb0) sz)) 0 0 (va_A (qb8 a0 jaX jaF jaD ja7 jby jbe jaM jaY jap jaK jal jam jax jao ja6 jaV ja8 jae jag jaf ja0 jaC jaP jaw jaI jaZ jaG jaS jan jaU jaE jar jaL jah jaB jaa jaz jaH jab jaT z0_s jaq jai jaO jaA jat jau jav jaj jas jaJ jak jad jay jac jaT cyI jb0) sz)) (l : Launch) (dC : Nat → ClassId) (dI : Nat → Nat → Nat) (cyB cyI cyJ cyP : ClassId) (a0 jaT sz : Nat) (jaX jaF jaD ja7 jby jbe jaM jaY jap jaK jal jam jax jao ja6 jaV ja8 jae jag jaf ja0 jaP jaw jaI jaZ jaG jaS jan jaU jaE jar jaL jah jaB jaa jaz jaH jab z0_s jaq jai jaO jaA jat jau jav jaj jas jaJ jak jad jay jac : Value) (jaC : Int32) (jb0 : NI) (p1 p2 p3 p4 : Int32) {Q : Int32 → Prop} (hw : quJ RS jaC jb0 p1 p2 p3 p4 Q) : Met l yX11_lastsIn wsX11_lastsIn ({ frames := fr + 1, cells := 0, slots := 0, locals := lo + 28 }) (va_Pc [.ref a0, .int p1, .int p2, .int p3, .int p4] (cPc (dC, dI) (kT cyB cyI cyJ cyP) (qb8 a0 jaX jaF jaD ja7 jby jbe jaM jaY jap jaK jal jam jax jao ja6 jaV ja8 jae jag jaf ja0 jaC jaP jaw jaI jaZ jaG jaS jan jaU jaE jar jaL jah jaB jaa jaz jaH jab jaT z0_s jaq jai jaO jaA jat jau jav jaj jas jaJ jak jad jay jac jaT cyI jb0) sz)) (va_Qi (fun (r : Int32) (_ : Unit) => Q r ) (cB (dC, dI) (kT cyB cyI cyJ cyP) (va_A (qb8 a0 jaX jaF jaD ja7 jby jbe jaM jaY jap jaK jal jam jax jao ja6 jaV ja8 jae jag jaf ja0 jaC jaP jaw jaI jaZ jaG jaS jan jaU jaE jar jaL jah jaB jaa jaz jaH jab jaT z0_s jaq jai jaO jaA jat jau jav jaj jas jaJ jak jad jay jac jaT cyI jb0) sz) (fun u : Unit => ((qb8 a0 jaX jaF jaD ja7 jby jbe jaM jaY jap jaK jal jam jax jao ja6 jaV ja8 jae jag jaf ja0 jaC jaP jaw jaI jaZ jaG jaS jan jaU jaE jar jaL jah jaB jaa jaz jaH jab jaT z0_s jaq jai jaO jaA jat jau jav jaj jas jaJ jak jad jay jac jaT cyI jb0) : va_W))) (va_A (qb8 a0 jaX jaF jaD ja7 jby jbe jaM jaY jap jaK jal jam jax jao ja6 jaV ja8 jae jag jaf ja0 jaC jaP jaw jaI jaZ jaG jaS jan jaU jaE jar jaL jah jaB jaa jaz jaH jab jaT z0_s jaq jai jaO jaA jat jau jav jaj jas jaJ jak jad jay jac jaT cyI jb0) sz)) 0 0 (va_A (qb8 a0 jaX jaF jaD ja7 jby jbe jaM jaY jap jaK jal jam jax jao ja6 jaV ja8 jae jag jaf ja0 jaC jaP jaw jaI jaZ jaG jaS jan jaU jaE jar jaL jah jaB jaa jaz jaH jab jaT z0_s jaq jai jaO jaA jat jau jav jaj jas jaJ jak jad jay jac jaT cyI jb0) sz) := by
  refine Met.ofW (cc := cX11_lastsIn) (maxL := 9) (ret := (some .int)) (by decide) rfl ?_
  intro p e s m args below meth c s₁ B hml hv
  obtain ⟨rfl, hsz, hP, hK, hD0, hNw⟩ := hv
  have hx := B.exec
  have hb := B.bytes
  have hr := B.returns
  have hts := atoms_spec (ws := wsX11_lastsIn) B.pre
  have hown : s.vm.findClass RX11 = some m.cls := findClass_of_methodNamed B.named
  have hlocks := B.notSynchronized
  subst hsz
  have hD := hD0.self (sz := s.heap.size)
  generalize hAe : va_A (qb8 a0 jaX jaF jaD ja7 jby jbe jaM jaY jap jaK jal jam jax jao ja6 jaV ja8 jae jag jaf ja0 jaC jaP jaw jaI jaZ jaG jaS jan jaU jaE jar jaL jah jaB jaa jaz jaH jab jaT z0_s jaq jai jaO jaA jat jau jav jaj jas jaJ jak jad jay jac jaT cyI jb0) s.heap.size = A at hD ⊢
  have hA : ∀ q : Nat, s.heap.size ≤ q → A q := fun q h => by rw [← hAe]; exact Or.inr h
  have hS : va_S A s.heap s.heap [] := va_S.rf
  have hP : va_P (dC, dI) vwCl (qb8 a0 jaX jaF jaD ja7 jby jbe jaM jaY jap jaK jal jam jax jao ja6 jaV ja8 jae jag jaf ja0 jaC jaP jaw jaI jaZ jaG jaS jan jaU jaE jar jaL jah jaB jaa jaz jaH jab jaT z0_s jaq jai jaO jaA jat jau jav jaj jas jaJ jak jad jay jac jaT cyI jb0) s.heap := hP
  have hl := lv_entry ([.ref a0, .int p1, .int p2, .int p3, .int p4]) (n := 9) ((by first | exact nbq rfl | (simp only [headSpec]; omega) | omega))
  rw [lg_entry_eq]
  generalize (lg_sl ([.ref a0, .int p1, .int p2, .int p3, .int p4]) ++ List.replicate (9 - (lg_sl ([.ref a0, .int p1, .int p2, .int p3, .int p4])).length) Slot.unset).toArray = ls at hl ⊢
  have hl : lv_has ls 9 [(0, .ref a0), (1, .int p1), (2, .int p2), (3, .int p3), (4, .int p4)] := hl
  have C0 : cfx p s m _ meth c cX11_lastsIn (some .int) wsX11_lastsIn RX11 9 A (dC, dI) (kT cyB cyI cyJ cyP) := ⟨hx, hb, hr, hts, hown, hlocks, hml, hA, hK, hNw⟩
  clear hAe
  obtain ⟨H, hH⟩ : ∃ H, H = s.heap := ⟨_, rfl⟩
  rw [← hH] at hP ⊢
  have hS : va_S A s.heap H [] := by rw [hH]; exact va_S.rf
  have hS := hS
  refine lv_iload_n hx hb (qaa qbj 0 rfl) rfl (lv_at hl 1 rfl) ?_
  refine lv_if_ne (tgt := 16) hx hb (qaa qbj 1 rfl) (by decide) (fun c1 => ?_) (fun c1 => ?_)
  · have hw := hw.1 c1
    refine lv_iconst (v := 0) hx hb (qaa qbj 9 rfl) (by decide) ?_
    refine lv_istore (lv' := [(5, .int 0), (0, .ref a0), (1, .int p1), (2, .int p2), (3, .int p3), (4, .int p4)]) hx hb (qaa qbj 10 rfl) hl (by decide) rfl (fun ls hl => ?_)
    refine lv_iconst (v := 0) hx hb (qaa qbj 11 rfl) (by decide) ?_
    refine lv_istore (lv' := [(6, .int 0), (5, .int 0), (0, .ref a0), (1, .int p1), (2, .int p2), (3, .int p3), (4, .int p4)]) hx hb (qaa qbj 12 rfl) hl (by decide) rfl (fun ls hl => ?_)
    obtain ⟨n9, hw⟩ := hw
    exact q97 RS fr lo hRw dC dI cyB cyI cyJ cyP a0 jaT jaX jaF jaD ja7 jby jbe jaM jaY jap jaK jal jam jax jao ja6 jaV ja8 jae jag jaf ja0 jaP jaw jaI jaZ jaG jaS jan jaU jaE jar jaL jah jaB jaa jaz jaH jab z0_s jaq jai jaO jaA jat jau jav jaj jas jaJ jak jad jay jac jaC jb0 Q C0 n9 _ _ _ p1 p2 p3 p4 0 0 hP hD hS (lv_sub hl [2, 3, 4, 5, 6, 1, 0] rfl) hw
  · have hw := hw.2 c1
    refine lv_iload_n hx hb (qaa qbj 2 rfl) rfl (lv_at hl 2 rfl) ?_
    refine lv_iload hx hb (qaa qbj 3 rfl) (lv_at hl 4 rfl) ?_
    refine lv_icmp_ne (tgt := 14) hx hb (qaa qbj 4 rfl) (by decide) (fun c2 => ?_) (fun c2 => ?_)
    · have hw := hw.1 c2
      refine lv_iconst (v := 0) hx hb (qaa qbj 7 rfl) (by decide) ?_
      exact ((W.iret (v := 0) hx hb hr (fun t ht hW => ⟨⟨0, (), rfl, hw, by rw [ht]; exact hP, va_K.moved hW.alike hK, hD⟩, hS.F ht⟩) hS.2.2 (qaa qbj 8 rfl)))
    · have hw := hw.2 c2
      refine lv_iconst (v := 1) hx hb (qaa qbj 5 rfl) (by decide) ?_
      refine lv_goto (tgt := 15) hx hb (qaa qbj 6 rfl) (by decide) ?_
      exact ((W.iret (v := 1) hx hb hr (fun t ht hW => ⟨⟨1, (), rfl, hw, by rw [ht]; exact hP, va_K.moved hW.alike hK, hD⟩, hS.F ht⟩) hS.2.2 (qaa qbj 8 rfl)))
theorem qai4 (l : Launch) (dC : Nat → ClassId) (dI : Nat → Nat → Nat) (cyB cyI cyJ cyP : ClassId) (a0 jaT sz : Nat) (jaX jaF jaD ja7 jby jbe jaM jaY jap jaK jal jam jax jao ja6 jaV ja8 jae jag jaf ja0 jaP jaw jaI jaZ jaG jaS jan jaU jaE jar jaL jah jaB jaa jaz jaH jab z0_s jaq jai jaO jaA jat jau jav jaj jas jaJ jak jad jay jac : Value) (jaC : Int32) (jb0 : NI) (p1 p2 p3 p4 : Int32) {Q : Int32 → Prop} (hw : qC1 jaC jb0 p1 p2 p3 p4 Q) : Met l yX11_lastsIn wsX11_lastsIn ({ frames := 1, cells := 0, slots := 0, locals := 28 }) (va_Pc [.ref a0, .int p1, .int p2, .int p3, .int p4] (cPc (dC, dI) (kT cyB cyI cyJ cyP) (qb8 a0 jaX jaF jaD ja7 jby jbe jaM jaY jap jaK jal jam jax jao ja6 jaV ja8 jae jag jaf ja0 jaC jaP jaw jaI jaZ jaG jaS jan jaU jaE jar jaL jah jaB jaa jaz jaH jab jaT z0_s jaq jai jaO jaA jat jau jav jaj jas jaJ jak jad jay jac jaT cyI jb0) sz)) (va_Qi (fun (r : Int32) (_ : Unit) => Q r ) (cB (dC, dI) (kT cyB cyI cyJ cyP) (va_A (qb8 a0 jaX jaF jaD ja7 jby jbe jaM jaY jap jaK jal jam jax jao ja6 jaV ja8 jae jag jaf ja0 jaC jaP jaw jaI jaZ jaG jaS jan jaU jaE jar jaL jah jaB jaa jaz jaH jab jaT z0_s jaq jai jaO jaA jat jau jav jaj jas jaJ jak jad jay jac jaT cyI jb0) sz) (fun u : Unit => ((qb8 a0 jaX jaF jaD ja7 jby jbe jaM jaY jap jaK jal jam jax jao ja6 jaV ja8 jae jag jaf ja0 jaC jaP jaw jaI jaZ jaG jaS jan jaU jaE jar jaL jah jaB jaa jaz jaH jab jaT z0_s jaq jai jaO jaA jat jau jav jaj jas jaJ jak jad jay jac jaT cyI jb0) : va_W))) (va_A (qb8 a0 jaX jaF jaD ja7 jby jbe jaM jaY jap jaK jal jam jax jao ja6 jaV ja8 jae jag jaf ja0 jaC jaP jaw jaI jaZ jaG jaS jan jaU jaE jar jaL jah jaB jaa jaz jaH jab jaT z0_s jaq jai jaO jaA jat jau jav jaj jas jaJ jak jad jay jac jaT cyI jb0) sz)) 0 0 (va_A (qb8 a0 jaX jaF jaD ja7 jby jbe jaM jaY jap jaK jal jam jax jao ja6 jaV ja8 jae jag jaf ja0 jaC jaP jaw jaI jaZ jaG jaS jan jaU jaE jar jaL jah jaB jaa jaz jaH jab jaT z0_s jaq jai jaO jaA jat jau jav jaj jas jaJ jak jad jay jac jaT cyI jb0) sz) :=
  qAc qDc 0 0 qalf l dC dI cyB cyI cyJ cyP a0 jaT sz jaX jaF jaD ja7 jby jbe jaM jaY jap jaK jal jam jax jao ja6 jaV ja8 jae jag jaf ja0 jaP jaw jaI jaZ jaG jaS jan jaU jaE jar jaL jah jaB jaa jaz jaH jab z0_s jaq jai jaO jaA jat jau jav jaj jas jaJ jak jad jay jac jaC jb0 p1 p2 p3 p4 hw
theorem qams (l : Launch) (dC : Nat → ClassId) (dI : Nat → Nat → Nat) (cyB cyI cyJ cyP : ClassId) (a0 jaT sz : Nat) (jaX jaF jaD ja7 jby jbe jaM jaY jap jaK jal jam jax jao ja6 jaV ja8 jae jag jaf ja0 jaP jaw jaI jaZ jaG jaS jan jaU jaE jar jaL jah jaB jaa jaz jaH jab z0_s jaq jai jaO jaA jat jau jav jaj jas jaJ jak jad jay jac : Value) (jaC : Int32) (jb0 : NI) (p1 p2 p3 p4 : Int32) {Q : Int32 → Prop} (hw : qCz jaC jb0 p1 p2 p3 p4 Q) : Met l yX11_lastsIn wsX11_lastsIn ({ frames := 2, cells := 0, slots := 0, locals := 56 }) (va_Pc [.ref a0, .int p1, .int p2, .int p3, .int p4] (cPc (dC, dI) (kT cyB cyI cyJ cyP) (qb8 a0 jaX jaF jaD ja7 jby jbe jaM jaY jap jaK jal jam jax jao ja6 jaV ja8 jae jag jaf ja0 jaC jaP jaw jaI jaZ jaG jaS jan jaU jaE jar jaL jah jaB jaa jaz jaH jab jaT z0_s jaq jai jaO jaA jat jau jav jaj jas jaJ jak jad jay jac jaT cyI jb0) sz)) (va_Qi (fun (r : Int32) (_ : Unit) => Q r ) (cB (dC, dI) (kT cyB cyI cyJ cyP) (va_A (qb8 a0 jaX jaF jaD ja7 jby jbe jaM jaY jap jaK jal jam jax jao ja6 jaV ja8 jae jag jaf ja0 jaC jaP jaw jaI jaZ jaG jaS jan jaU jaE jar jaL jah jaB jaa jaz jaH jab jaT z0_s jaq jai jaO jaA jat jau jav jaj jas jaJ jak jad jay jac jaT cyI jb0) sz) (fun u : Unit => ((qb8 a0 jaX jaF jaD ja7 jby jbe jaM jaY jap jaK jal jam jax jao ja6 jaV ja8 jae jag jaf ja0 jaC jaP jaw jaI jaZ jaG jaS jan jaU jaE jar jaL jah jaB jaa jaz jaH jab jaT z0_s jaq jai jaO jaA jat jau jav jaj jas jaJ jak jad jay jac jaT cyI jb0) : va_W))) (va_A (qb8 a0 jaX jaF jaD ja7 jby jbe jaM jaY jap jaK jal jam jax jao ja6 jaV ja8 jae jag jaf ja0 jaC jaP jaw jaI jaZ jaG jaS jan jaU jaE jar jaL jah jaB jaa jaz jaH jab jaT z0_s jaq jai jaO jaA jat jau jav jaj jas jaJ jak jad jay jac jaT cyI jb0) sz)) 0 0 (va_A (qb8 a0 jaX jaF jaD ja7 jby jbe jaM jaY jap jaK jal jam jax jao ja6 jaV ja8 jae jag jaf ja0 jaC jaP jaw jaI jaZ jaG jaS jan jaU jaE jar jaL jah jaB jaa jaz jaH jab jaT z0_s jaq jai jaO jaA jat jau jav jaj jas jaJ jak jad jay jac jaT cyI jb0) sz) :=
  qAc qC1 1 28 qai4 l dC dI cyB cyI cyJ cyP a0 jaT sz jaX jaF jaD ja7 jby jbe jaM jaY jap jaK jal jam jax jao ja6 jaV ja8 jae jag jaf ja0 jaP jaw jaI jaZ jaG jaS jan jaU jaE jar jaL jah jaB jaa jaz jaH jab z0_s jaq jai jaO jaA jat jau jav jaj jas jaJ jak jad jay jac jaC jb0 p1 p2 p3 p4 hw
theorem qakN (l : Launch) (dC : Nat → ClassId) (dI : Nat → Nat → Nat) (cyB cyI cyJ cyP : ClassId) (a0 jaT sz : Nat) (jaX jaF jaD ja7 jby jbe jaM jaY jap jaK jal jam jax jao ja6 jaV ja8 jae jag jaf ja0 jaP jaw jaI jaZ jaG jaS jan jaU jaE jar jaL jah jaB jaa jaz jaH jab z0_s jaq jai jaO jaA jat jau jav jaj jas jaJ jak jad jay jac : Value) (jaC : Int32) (jb0 : NI) (p1 p2 p3 p4 : Int32) {Q : Int32 → Prop} (hw : qDd jaC jb0 p1 p2 p3 p4 Q) : Met l yX11_lastsIn wsX11_lastsIn ({ frames := 3, cells := 0, slots := 0, locals := 84 }) (va_Pc [.ref a0, .int p1, .int p2, .int p3, .int p4] (cPc (dC, dI) (kT cyB cyI cyJ cyP) (qb8 a0 jaX jaF jaD ja7 jby jbe jaM jaY jap jaK jal jam jax jao ja6 jaV ja8 jae jag jaf ja0 jaC jaP jaw jaI jaZ jaG jaS jan jaU jaE jar jaL jah jaB jaa jaz jaH jab jaT z0_s jaq jai jaO jaA jat jau jav jaj jas jaJ jak jad jay jac jaT cyI jb0) sz)) (va_Qi (fun (r : Int32) (_ : Unit) => Q r ) (cB (dC, dI) (kT cyB cyI cyJ cyP) (va_A (qb8 a0 jaX jaF jaD ja7 jby jbe jaM jaY jap jaK jal jam jax jao ja6 jaV ja8 jae jag jaf ja0 jaC jaP jaw jaI jaZ jaG jaS jan jaU jaE jar jaL jah jaB jaa jaz jaH jab jaT z0_s jaq jai jaO jaA jat jau jav jaj jas jaJ jak jad jay jac jaT cyI jb0) sz) (fun u : Unit => ((qb8 a0 jaX jaF jaD ja7 jby jbe jaM jaY jap jaK jal jam jax jao ja6 jaV ja8 jae jag jaf ja0 jaC jaP jaw jaI jaZ jaG jaS jan jaU jaE jar jaL jah jaB jaa jaz jaH jab jaT z0_s jaq jai jaO jaA jat jau jav jaj jas jaJ jak jad jay jac jaT cyI jb0) : va_W))) (va_A (qb8 a0 jaX jaF jaD ja7 jby jbe jaM jaY jap jaK jal jam jax jao ja6 jaV ja8 jae jag jaf ja0 jaC jaP jaw jaI jaZ jaG jaS jan jaU jaE jar jaL jah jaB jaa jaz jaH jab jaT z0_s jaq jai jaO jaA jat jau jav jaj jas jaJ jak jad jay jac jaT cyI jb0) sz)) 0 0 (va_A (qb8 a0 jaX jaF jaD ja7 jby jbe jaM jaY jap jaK jal jam jax jao ja6 jaV ja8 jae jag jaf ja0 jaC jaP jaw jaI jaZ jaG jaS jan jaU jaE jar jaL jah jaB jaa jaz jaH jab jaT z0_s jaq jai jaO jaA jat jau jav jaj jas jaJ jak jad jay jac jaT cyI jb0) sz) :=
  qAc qCz 2 56 qams l dC dI cyB cyI cyJ cyP a0 jaT sz jaX jaF jaD ja7 jby jbe jaM jaY jap jaK jal jam jax jao ja6 jaV ja8 jae jag jaf ja0 jaP jaw jaI jaZ jaG jaS jan jaU jaE jar jaL jah jaB jaa jaz jaH jab z0_s jaq jai jaO jaA jat jau jav jaj jas jaJ jak jad jay jac jaC jb0 p1 p2 p3 p4 hw
theorem qai1 (l : Launch) (dC : Nat → ClassId) (dI : Nat → Nat → Nat) (cyB cyI cyJ cyP : ClassId) (a0 jaT sz : Nat) (jaX jaF jaD ja7 jby jbe jaM jaY jap jaK jal jam jax jao ja6 jaV ja8 jae jag jaf ja0 jaP jaw jaI jaZ jaG jaS jan jaU jaE jar jaL jah jaB jaa jaz jaH jab z0_s jaq jai jaO jaA jat jau jav jaj jas jaJ jak jad jay jac : Value) (jaC : Int32) (jb0 : NI) (p1 p2 p3 p4 : Int32) {Q : Int32 → Prop} (hw : qC6 jaC jb0 p1 p2 p3 p4 Q) : Met l yX11_lastsIn wsX11_lastsIn ({ frames := 4, cells := 0, slots := 0, locals := 112 }) (va_Pc [.ref a0, .int p1, .int p2, .int p3, .int p4] (cPc (dC, dI) (kT cyB cyI cyJ cyP) (qb8 a0 jaX jaF jaD ja7 jby jbe jaM jaY jap jaK jal jam jax jao ja6 jaV ja8 jae jag jaf ja0 jaC jaP jaw jaI jaZ jaG jaS jan jaU jaE jar jaL jah jaB jaa jaz jaH jab jaT z0_s jaq jai jaO jaA jat jau jav jaj jas jaJ jak jad jay jac jaT cyI jb0) sz)) (va_Qi (fun (r : Int32) (_ : Unit) => Q r ) (cB (dC, dI) (kT cyB cyI cyJ cyP) (va_A (qb8 a0 jaX jaF jaD ja7 jby jbe jaM jaY jap jaK jal jam jax jao ja6 jaV ja8 jae jag jaf ja0 jaC jaP jaw jaI jaZ jaG jaS jan jaU jaE jar jaL jah jaB jaa jaz jaH jab jaT z0_s jaq jai jaO jaA jat jau jav jaj jas jaJ jak jad jay jac jaT cyI jb0) sz) (fun u : Unit => ((qb8 a0 jaX jaF jaD ja7 jby jbe jaM jaY jap jaK jal jam jax jao ja6 jaV ja8 jae jag jaf ja0 jaC jaP jaw jaI jaZ jaG jaS jan jaU jaE jar jaL jah jaB jaa jaz jaH jab jaT z0_s jaq jai jaO jaA jat jau jav jaj jas jaJ jak jad jay jac jaT cyI jb0) : va_W))) (va_A (qb8 a0 jaX jaF jaD ja7 jby jbe jaM jaY jap jaK jal jam jax jao ja6 jaV ja8 jae jag jaf ja0 jaC jaP jaw jaI jaZ jaG jaS jan jaU jaE jar jaL jah jaB jaa jaz jaH jab jaT z0_s jaq jai jaO jaA jat jau jav jaj jas jaJ jak jad jay jac jaT cyI jb0) sz)) 0 0 (va_A (qb8 a0 jaX jaF jaD ja7 jby jbe jaM jaY jap jaK jal jam jax jao ja6 jaV ja8 jae jag jaf ja0 jaC jaP jaw jaI jaZ jaG jaS jan jaU jaE jar jaL jah jaB jaa jaz jaH jab jaT z0_s jaq jai jaO jaA jat jau jav jaj jas jaJ jak jad jay jac jaT cyI jb0) sz) :=
  qAc qDd 3 84 qakN l dC dI cyB cyI cyJ cyP a0 jaT sz jaX jaF jaD ja7 jby jbe jaM jaY jap jaK jal jam jax jao ja6 jaV ja8 jae jag jaf ja0 jaP jaw jaI jaZ jaG jaS jan jaU jaE jar jaL jah jaB jaa jaz jaH jab z0_s jaq jai jaO jaA jat jau jav jaj jas jaJ jak jad jay jac jaC jb0 p1 p2 p3 p4 hw
theorem qai5 (l : Launch) (dC : Nat → ClassId) (dI : Nat → Nat → Nat) (cyB cyI cyJ cyP : ClassId) (a0 jaT sz : Nat) (jaX jaF jaD ja7 jby jbe jaM jaY jap jaK jal jam jax jao ja6 jaV ja8 jae jag jaf ja0 jaP jaw jaI jaZ jaG jaS jan jaU jaE jar jaL jah jaB jaa jaz jaH jab z0_s jaq jai jaO jaA jat jau jav jaj jas jaJ jak jad jay jac : Value) (jaC : Int32) (jb0 : NI) (p1 p2 p3 p4 : Int32) {Q : Int32 → Prop} (hw : qJS jaC jb0 p1 p2 p3 p4 Q) : Met l yX11_lastsIn wsX11_lastsIn ({ frames := 5, cells := 0, slots := 0, locals := 140 }) (va_Pc [.ref a0, .int p1, .int p2, .int p3, .int p4] (cPc (dC, dI) (kT cyB cyI cyJ cyP) (qb8 a0 jaX jaF jaD ja7 jby jbe jaM jaY jap jaK jal jam jax jao ja6 jaV ja8 jae jag jaf ja0 jaC jaP jaw jaI jaZ jaG jaS jan jaU jaE jar jaL jah jaB jaa jaz jaH jab jaT z0_s jaq jai jaO jaA jat jau jav jaj jas jaJ jak jad jay jac jaT cyI jb0) sz)) (va_Qi (fun (r : Int32) (_ : Unit) => Q r ) (cB (dC, dI) (kT cyB cyI cyJ cyP) (va_A (qb8 a0 jaX jaF jaD ja7 jby jbe jaM jaY jap jaK jal jam jax jao ja6 jaV ja8 jae jag jaf ja0 jaC jaP jaw jaI jaZ jaG jaS jan jaU jaE jar jaL jah jaB jaa jaz jaH jab jaT z0_s jaq jai jaO jaA jat jau jav jaj jas jaJ jak jad jay jac jaT cyI jb0) sz) (fun u : Unit => ((qb8 a0 jaX jaF jaD ja7 jby jbe jaM jaY jap jaK jal jam jax jao ja6 jaV ja8 jae jag jaf ja0 jaC jaP jaw jaI jaZ jaG jaS jan jaU jaE jar jaL jah jaB jaa jaz jaH jab jaT z0_s jaq jai jaO jaA jat jau jav jaj jas jaJ jak jad jay jac jaT cyI jb0) : va_W))) (va_A (qb8 a0 jaX jaF jaD ja7 jby jbe jaM jaY jap jaK jal jam jax jao ja6 jaV ja8 jae jag jaf ja0 jaC jaP jaw jaI jaZ jaG jaS jan jaU jaE jar jaL jah jaB jaa jaz jaH jab jaT z0_s jaq jai jaO jaA jat jau jav jaj jas jaJ jak jad jay jac jaT cyI jb0) sz)) 0 0 (va_A (qb8 a0 jaX jaF jaD ja7 jby jbe jaM jaY jap jaK jal jam jax jao ja6 jaV ja8 jae jag jaf ja0 jaC jaP jaw jaI jaZ jaG jaS jan jaU jaE jar jaL jah jaB jaa jaz jaH jab jaT z0_s jaq jai jaO jaA jat jau jav jaj jas jaJ jak jad jay jac jaT cyI jb0) sz) :=
  qAc qC6 4 112 qai1 l dC dI cyB cyI cyJ cyP a0 jaT sz jaX jaF jaD ja7 jby jbe jaM jaY jap jaK jal jam jax jao ja6 jaV ja8 jae jag jaf ja0 jaP jaw jaI jaZ jaG jaS jan jaU jaE jar jaL jah jaB jaa jaz jaH jab z0_s jaq jai jaO jaA jat jau jav jaj jas jaJ jak jad jay jac jaC jb0 p1 p2 p3 p4 hw
theorem qEG : ∀ w ∈ u_ws RX11 TX11 55, w ∈ wsX11_bouts := uiM quy qfa (by decide +kernel)
theorem qU8 : (.fieldLink RX11 169 "MarchHaresModel" "hares" "I" : Cond) ∈ wsX11_bouts := quy 520 (by decide +kernel)
theorem qawz : (.fieldLink RX11 3 "MarchHaresModel" "thrown" "I" : Cond) ∈ wsX11_bouts := quy 589 (by decide +kernel)
theorem qaul : (.fieldLink RX11 68 "MarchHaresModel" "now" "[I" : Cond) ∈ wsX11_bouts := quy 456 (by decide +kernel)
set_option maxHeartbeats 4000000 in
set_option maxRecDepth 100000 in
theorem q18 {p : Program} {l : Launch} {e : Env} {s : State} {m : MethodId} {args : Array Value} {below : List Frame} {meth : Method} {c : Code} {A : Nat → Prop} (dC : Nat → ClassId) (dI : Nat → Nat → Nat) (cyB cyI cyJ cyP : ClassId) (a0 jaQ jaT a0_s : Nat) (jaD ja7 jby jbe jaM jaY jap jaK jal jam jax jao ja6 jaV ja8 jae jag jaf ja0 jaP jaw jaI jaZ jaG jaS jan jaU jaE jar jaL jah jaB jaa jaz jaH jab jaq jai jaO jaA jat jau jav jaj jas jaJ jak jad jay jac : Value) (jaC : Int32) (jb0 : NI) (Q : Int32 → Int32 → NI → NI → Prop) (K41 : Int32 → NI → NI → Int32 → Int32 → Int32 → Int32 → Prop) (hK41 : ∀ (H : Heap) (locs : List Loc) (ls : Array Slot) (jbd : Int32) (ja9 f0_s : NI) (l1 l2 l3 l4 : Int32), va_P (dC, dI) vwCl (qDh a0 jbd jaQ jaD ja7 jby jbe jaM jaY jap jaK jal jam jax jao ja6 jaV ja8 jae jag jaf ja0 jaC jaP jaw jaI jaZ jaG jaS jan jaU jaE jar jaL jah jaB jaa jaz jaH jab jaT a0_s jaq jai jaO jaA jat jau jav jaj jas jaJ jak jad jay jac jaQ cyI ja9 jaT cyI jb0 a0_s cyI f0_s) H → va_D A (qDh a0 jbd jaQ jaD ja7 jby jbe jaM jaY jap jaK jal jam jax jao ja6 jaV ja8 jae jag jaf ja0 jaC jaP jaw jaI jaZ jaG jaS jan jaU jaE jar jaL jah jaB jaa jaz jaH jab jaT a0_s jaq jai jaO jaA jat jau jav jaj jas jaJ jak jad jay jac jaQ cyI ja9 jaT cyI jb0 a0_s cyI f0_s) → va_S A s.heap H locs → lv_has ls 5 [(0, .ref a0), (1, .int l1), (2, .int l2), (3, .int l3), (4, .int l4)] → K41 jbd ja9 f0_s l1 l2 l3 l4 → W p l e (headSpec wsX11_bouts ({ frames := 6, cells := 0, slots := 0, locals := 168 })).room s m args below meth c H locs 0 0 (MQ below (va_Qi (fun (r : Int32) (u : Int32 × NI × NI) => Q r u.1 u.2.1 u.2.2) (cB (dC, dI) (kT cyB cyI cyJ cyP) A (fun u : Int32 × NI × NI => ((qDh a0 u.1 jaQ jaD ja7 jby jbe jaM jaY jap jaK jal jam jax jao ja6 jaV ja8 jae jag jaf ja0 jaC jaP jaw jaI jaZ jaG jaS jan jaU jaE jar jaL jah jaB jaa jaz jaH jab jaT a0_s jaq jai jaO jaA jat jau jav jaj jas jaJ jak jad jay jac jaQ cyI u.2.1 jaT cyI jb0 a0_s cyI u.2.2) : va_W))) A) args s 0 0 A) (F0 m 41 ls [])) (C0 : cfx p s m args meth c cX11_bouts (some .int) wsX11_bouts RX11 5 A (dC, dI) (kT cyB cyI cyJ cyP)) : ∀ (H : Heap) (locs : List Loc) (ls : Array Slot) (jbd : Int32) (ja9 f0_s : NI) (l1 l2 l3 l4 : Int32), va_P (dC, dI) vwCl (qDh a0 jbd jaQ jaD ja7 jby jbe jaM jaY jap jaK jal jam jax jao ja6 jaV ja8 jae jag jaf ja0 jaC jaP jaw jaI jaZ jaG jaS jan jaU jaE jar jaL jah jaB jaa jaz jaH jab jaT a0_s jaq jai jaO jaA jat jau jav jaj jas jaJ jak jad jay jac jaQ cyI ja9 jaT cyI jb0 a0_s cyI f0_s) H → va_D A (qDh a0 jbd jaQ jaD ja7 jby jbe jaM jaY jap jaK jal jam jax jao ja6 jaV ja8 jae jag jaf ja0 jaC jaP jaw jaI jaZ jaG jaS jan jaU jaE jar jaL jah jaB jaa jaz jaH jab jaT a0_s jaq jai jaO jaA jat jau jav jaj jas jaJ jak jad jay jac jaQ cyI ja9 jaT cyI jb0 a0_s cyI f0_s) → va_S A s.heap H locs → lv_has ls 5 [(0, .ref a0), (1, .int l1), (2, .int l2), (3, .int l3), (4, .int l4)] → qQU jaC jb0 Q K41 jbd ja9 f0_s l1 l2 l3 l4 → W p l e (headSpec wsX11_bouts ({ frames := 6, cells := 0, slots := 0, locals := 168 })).room s m args below meth c H locs 0 0 (MQ below (va_Qi (fun (r : Int32) (u : Int32 × NI × NI) => Q r u.1 u.2.1 u.2.2) (cB (dC, dI) (kT cyB cyI cyJ cyP) A (fun u : Int32 × NI × NI => ((qDh a0 u.1 jaQ jaD ja7 jby jbe jaM jaY jap jaK jal jam jax jao ja6 jaV ja8 jae jag jaf ja0 jaC jaP jaw jaI jaZ jaG jaS jan jaU jaE jar jaL jah jaB jaa jaz jaH jab jaT a0_s jaq jai jaO jaA jat jau jav jaj jas jaJ jak jad jay jac jaQ cyI u.2.1 jaT cyI jb0 a0_s cyI u.2.2) : va_W))) A) args s 0 0 A) (F0 m 88 ls []) := by
  obtain ⟨hx, hb, hr, hts, hown, hlocks, hml, hA, hK, hNw⟩ := id C0
  intro H locs ls jbd ja9 f0_s l1 l2 l3 l4 hP hD hS hl hw
  obtain ⟨x15, ex15⟩ : ∃ y : Int32, y = l4 + 1 := ⟨_, rfl⟩
  have hw := hw x15 ex15
  refine lv_iinc (v := x15) (lv' := [(4, .int x15), (0, .ref a0), (1, .int l1), (2, .int l2), (3, .int l3)]) hx hb (qaa qis 11 rfl) hl (k := 4) rfl (by rw [ex15]; rfl) (by decide) rfl (fun ls hl => ?_)
  refine lv_goto (tgt := 41) hx hb (qaa qis 12 rfl) (by decide) ?_
  exact hK41 _ _ _ jbd ja9 f0_s l1 l2 l3 x15 hP hD hS (lv_sub hl [1, 2, 3, 4, 0] rfl) hw
set_option maxHeartbeats 4000000 in
set_option maxRecDepth 100000 in
theorem qaxn {p : Program} {l : Launch} {e : Env} {s : State} {m : MethodId} {args : Array Value} {below : List Frame} {meth : Method} {c : Code} {A : Nat → Prop} (dC : Nat → ClassId) (dI : Nat → Nat → Nat) (cyB cyI cyJ cyP : ClassId) (a0 jaQ jaT a0_s : Nat) (jaD ja7 jby jbe jaM jaY jap jaK jal jam jax jao ja6 jaV ja8 jae jag jaf ja0 jaP jaw jaI jaZ jaG jaS jan jaU jaE jar jaL jah jaB jaa jaz jaH jab jaq jai jaO jaA jat jau jav jaj jas jaJ jak jad jay jac : Value) (jaC : Int32) (jb0 : NI) (Q : Int32 → Int32 → NI → NI → Prop) (C0 : cfx p s m args meth c cX11_bouts (some .int) wsX11_bouts RX11 5 A (dC, dI) (kT cyB cyI cyJ cyP)) : ∀ (n : Nat) (H : Heap) (locs : List Loc) (ls : Array Slot) (jbd : Int32) (ja9 f0_s : NI) (l1 l2 l3 l4 : Int32), va_P (dC, dI) vwCl (qDh a0 jbd jaQ jaD ja7 jby jbe jaM jaY jap jaK jal jam jax jao ja6 jaV ja8 jae jag jaf ja0 jaC jaP jaw jaI jaZ jaG jaS jan jaU jaE jar jaL jah jaB jaa jaz jaH jab jaT a0_s jaq jai jaO jaA jat jau jav jaj jas jaJ jak jad jay jac jaQ cyI ja9 jaT cyI jb0 a0_s cyI f0_s) H → va_D A (qDh a0 jbd jaQ jaD ja7 jby jbe jaM jaY jap jaK jal jam jax jao ja6 jaV ja8 jae jag jaf ja0 jaC jaP jaw jaI jaZ jaG jaS jan jaU jaE jar jaL jah jaB jaa jaz jaH jab jaT a0_s jaq jai jaO jaA jat jau jav jaj jas jaJ jak jad jay jac jaQ cyI ja9 jaT cyI jb0 a0_s cyI f0_s) → va_S A s.heap H locs → lv_has ls 5 [(0, .ref a0), (1, .int l1), (2, .int l2), (3, .int l3), (4, .int l4)] → qvJ jaC jb0 Q n jbd ja9 f0_s l1 l2 l3 l4 → W p l e (headSpec wsX11_bouts ({ frames := 6, cells := 0, slots := 0, locals := 168 })).room s m args below meth c H locs 0 0 (MQ below (va_Qi (fun (r : Int32) (u : Int32 × NI × NI) => Q r u.1 u.2.1 u.2.2) (cB (dC, dI) (kT cyB cyI cyJ cyP) A (fun u : Int32 × NI × NI => ((qDh a0 u.1 jaQ jaD ja7 jby jbe jaM jaY jap jaK jal jam jax jao ja6 jaV ja8 jae jag jaf ja0 jaC jaP jaw jaI jaZ jaG jaS jan jaU jaE jar jaL jah jaB jaa jaz jaH jab jaT a0_s jaq jai jaO jaA jat jau jav jaj jas jaJ jak jad jay jac jaQ cyI u.2.1 jaT cyI jb0 a0_s cyI u.2.2) : va_W))) A) args s 0 0 A) (F0 m 41 ls []) := by
  obtain ⟨hx, hb, hr, hts, hown, hlocks, hml, hA, hK, hNw⟩ := id C0
  intro n
  induction n with
  | zero => intro H locs ls jbd ja9 f0_s l1 l2 l3 l4 hP hD hS hl hw; exact False.elim hw
  | succ n ih =>
    intro H locs ls jbd ja9 f0_s l1 l2 l3 l4 hP hD hS hl hw
    refine lv_iload hx hb (qaa qhQ 12 rfl) (lv_at hl 4 rfl) ?_
    refine lv_aload_n hx hb (qaa qhQ 13 rfl) rfl (lv_at hl 0 rfl) ?_
    refine va_get (D := (dC, dI)) (ci := 11) (v := .int jaC) (C := RX11) (T := TX11) (N := 55) hx hb hts qEG hown hK hP 0 rfl rfl 21 (by decide) (hts _ qU8) (fun _ h9 => h9) rfl (qaa qhQ 14 rfl) ?_
    refine lv_icmp_ge (tgt := 94) hx hb (qaa qhQ 15 rfl) (by decide) (fun c8 => ?_) (fun c8 => ?_)
    · have hw := hw.1 c8
      refine lv_iload_n hx hb (qaa qis 13 rfl) rfl (lv_at hl 3 rfl) ?_
      exact ((W.iret (v := l3) hx hb hr (fun t ht hW => ⟨⟨l3, (jbd, ja9, f0_s), rfl, hw, by rw [ht]; exact hP, va_K.moved hW.alike hK, hD⟩, hS.F ht⟩) hS.2.2 (qaa qis 14 rfl)))
    · have hw := hw.2 c8
      refine lv_iload_n hx hb (qaa qhV 0 rfl) rfl (lv_at hl 2 rfl) ?_
      refine lv_iload hx hb (qaa qhV 1 rfl) (lv_at hl 4 rfl) ?_
      refine lv_ishr hx hb (qaa qhV 2 rfl) ?_
      refine lv_iconst (v := 1) hx hb (qaa qhV 3 rfl) (by decide) ?_
      refine lv_iand hx hb (qaa qhV 4 rfl) ?_
      refine lv_iconst (v := 1) hx hb (qaa qhV 5 rfl) (by decide) ?_
      refine lv_icmp_ne (tgt := 88) hx hb (qaa qhV 6 rfl) (by decide) (fun c9 => ?_) (fun c9 => ?_)
      · have hw := hw.1 c9
        exact q18 dC dI cyB cyI cyJ cyP a0 jaQ jaT a0_s jaD ja7 jby jbe jaM jaY jap jaK jal jam jax jao ja6 jaV ja8 jae jag jaf ja0 jaP jaw jaI jaZ jaG jaS jan jaU jaE jar jaL jah jaB jaa jaz jaH jab jaq jai jaO jaA jat jau jav jaj jas jaJ jak jad jay jac jaC jb0 Q (qvJ jaC jb0 Q n) ih C0 _ _ _ jbd ja9 f0_s l1 l2 l3 l4 hP hD hS (lv_sub hl [0, 1, 2, 3, 4] rfl) hw
      · have hw := hw.2 c9
        refine lv_iload_n hx hb (qaa qhV 7 rfl) rfl (lv_at hl 3 rfl) ?_
        refine lv_aload_n hx hb (qaa qhV 8 rfl) rfl (lv_at hl 0 rfl) ?_
        refine lv_iload_n hx hb (qaa qhV 9 rfl) rfl (lv_at hl 2 rfl) ?_
        refine lv_iconst (v := 1) hx hb (qaa qhV 10 rfl) (by decide) ?_
        refine lv_iload hx hb (qaa qhV 11 rfl) (lv_at hl 4 rfl) ?_
        refine lv_ishl hx hb (qaa qhV 12 rfl) ?_
        refine lv_iconst (v := (-1)) hx hb (qaa qhV 13 rfl) (by decide) ?_
        refine lv_ixor hx hb (qaa qhV 14 rfl) ?_
        refine lv_iand hx hb (qaa qhV 15 rfl) ?_
        refine lv_topi (fun x10 ex10 => ?_)
        have hw := hw x10 ex10
        refine lv_iload hx hb (qaa qis 0 rfl) (lv_at hl 4 rfl) ?_
        refine lv_aload_n hx hb (qaa qis 1 rfl) rfl (lv_at hl 0 rfl) ?_
        refine va_get (D := (dC, dI)) (ci := 11) (v := .ref jaT) (C := RX11) (T := TX11) (N := 55) hx hb hts qEG hown hK hP 0 rfl rfl 39 (by decide) (hts _ qaul) (fun _ h9 => h9) rfl (qaa qis 2 rfl) ?_
        refine lv_bipush (v := 6) hx hb (qaa qis 3 rfl) (by decide) ?_
        refine lv_iload hx hb (qaa qis 4 rfl) (lv_at hl 4 rfl) ?_
        refine lv_iadd hx hb (qaa qis 5 rfl) ?_
        refine lv_topi (fun x11 ex11 => ?_)
        have hw := hw x11 ex11
        obtain ⟨hi9, hw⟩ := hw
        refine va_iald hx hb hK hP 2 1 rfl rfl hi9 (qaa qis 6 rfl) ?_
        refine lv_topi (fun x12 ex12 => ?_)
        have hw := hw x12 ex12
        refine lv_iload_n hx hb (qaa qis 7 rfl) rfl (lv_at hl 1 rfl) ?_
        obtain ⟨hCc, hPc, hDc, hFc⟩ := qac (ws' := (qa0W a0 jbd jaQ jaD ja7 jby jbe jaM jaY jap jaK jal jam jax jao ja6 jaV ja8 jae jag jaf ja0 jaC jaP jaw jaI jaZ jaG jaS jan jaU jaE jar jaL jah jaB jaa jaz jaH jab jaT a0_s jaq jai jaO jaA jat jau jav jaj jas jaJ jak jad jay jac jaT cyI jb0)) hP hD hS hA [0, 2] (by decide +kernel) rfl
        refine va_calli (va_runV (As := [.int x10, .int l4, .int x12, .int l1]) (rest := [.int l3]) ⟨hx, hb, hml, hown, hts⟩ (qai5 l dC dI cyB cyI cyJ cyP a0 jaT H.size (.int jbd) (.ref jaQ) (jaD) (ja7) (jby) (jbe) (jaM) (jaY) (jap) (jaK) (jal) (jam) (jax) (jao) (ja6) (jaV) (ja8) (jae) (jag) (jaf) (ja0) (jaP) (jaw) (jaI) (jaZ) (jaG) (jaS) (jan) (jaU) (jaE) (jar) (jaL) (jah) (jaB) (jaa) (jaz) (jaH) (jab) (.ref a0_s) (jaq) (jai) (jaO) (jaA) (jat) (jau) (jav) (jaj) (jas) (jaJ) (jak) (jad) (jay) (jac) jaC jb0 x10 l4 x12 l1 hw) (cwV 4 hts gX11_bouts_X11_lastsIn rfl rfl rfl (by decide +kernel) ⟨nbq rfl, nbq rfl⟩) ⟨qab, va_recv (q := (RX11, TX11, 55)) hK hPc (ci := 11) (q0 := 0) rfl rfl, qae hPc hK hDc hNw⟩ rfl rfl hl.1 rfl (lv_room (nbq rfl)) (qaa qis 8 rfl) ⟨nbq rfl, nbq rfl⟩) hS (fun q _ h => hFc q h) hFc (fun r13 u t H1 locs ht hvm hw hB hz1 hk1 hS => ?_)
        obtain ⟨hP1, hK1, hD1⟩ := hB
        rw [ht] at hP1
        obtain ⟨hP, hD⟩ := qad (wr := (qa8T jaQ cyI ja9 a0_s cyI f0_s)) (w1 := (qa0W a0 jbd jaQ jaD ja7 jby jbe jaM jaY jap jaK jal jam jax jao ja6 jaV ja8 jae jag jaf ja0 jaC jaP jaw jaI jaZ jaG jaS jan jaU jaE jar jaL jah jaB jaa jaz jaH jab jaT a0_s jaq jai jaO jaA jat jau jav jaj jas jaJ jak jad jay jac jaT cyI jb0)) (wn := (qDh a0 jbd jaQ jaD ja7 jby jbe jaM jaY jap jaK jal jam jax jao ja6 jaV ja8 jae jag jaf ja0 jaC jaP jaw jaI jaZ jaG jaS jan jaU jaE jar jaL jah jaB jaa jaz jaH jab jaT a0_s jaq jai jaO jaA jat jau jav jaj jas jaJ jak jad jay jac jaQ cyI ja9 jaT cyI jb0 a0_s cyI f0_s)) hP hD [0, 2] [1, 3] [2, 0, 3, 1] hCc rfl (by decide +kernel) (by decide +kernel) (by decide +kernel) rfl hk1 hFc hP1 hD1
        generalize H1 = H at hP hS ⊢
        refine lv_iadd hx hb (qaa qis 9 rfl) ?_
        refine lv_topi (fun x14 ex14 => ?_)
        have hw := hw x14 ex14
        refine lv_istore_n (lv' := [(3, .int x14), (0, .ref a0), (1, .int l1), (2, .int l2), (4, .int l4)]) hx hb (qaa qis 10 rfl) rfl hl (by decide) rfl (fun ls hl => ?_)
        exact q18 dC dI cyB cyI cyJ cyP a0 jaQ jaT a0_s jaD ja7 jby jbe jaM jaY jap jaK jal jam jax jao ja6 jaV ja8 jae jag jaf ja0 jaP jaw jaI jaZ jaG jaS jan jaU jaE jar jaL jah jaB jaa jaz jaH jab jaq jai jaO jaA jat jau jav jaj jas jaJ jak jad jay jac jaC jb0 Q (qvJ jaC jb0 Q n) ih C0 _ _ _ jbd ja9 f0_s l1 l2 x14 l4 hP hD hS (lv_sub hl [1, 2, 3, 0, 4] rfl) hw
set_option maxHeartbeats 4000000 in
set_option maxRecDepth 100000 in
theorem qaUh (l : Launch) (dC : Nat → ClassId) (dI : Nat → Nat → Nat) (cyB cyI cyJ cyP : ClassId) (a0 jaQ jaT a0_s sz : Nat) (jaD ja7 jby jbe jaM jaY jap jaK jal jam jax jao ja6 jaV ja8 jae jag jaf ja0 jaP jaw jaI jaZ jaG jaS jan jaU jaE jar jaL jah jaB jaa jaz jaH jab jaq jai jaO jaA jat jau jav jaj jas jaJ jak jad jay jac : Value) (jaC : Int32) (jb0 : NI) (jbd : Int32) (ja9 f0_s : NI) (p1 : Int32) {Q : Int32 → Int32 → NI → NI → Prop} (hw : q08 jaC jb0 jbd ja9 f0_s p1 Q) : Met l yX11_bouts wsX11_bouts ({ frames := 6, cells := 0, slots := 0, locals := 168 }) (va_Pc [.ref a0, .int p1] (cPc (dC, dI) (kT cyB cyI cyJ cyP) (qDh a0 jbd jaQ jaD ja7 jby jbe jaM jaY jap jaK jal jam jax jao ja6 jaV ja8 jae jag jaf ja0 jaC jaP jaw jaI jaZ jaG jaS jan jaU jaE jar jaL jah jaB jaa jaz jaH jab jaT a0_s jaq jai jaO jaA jat jau jav jaj jas jaJ jak jad jay jac jaQ cyI ja9 jaT cyI jb0 a0_s cyI f0_s) sz)) (va_Qi (fun (r : Int32) (u : Int32 × NI × NI) => Q r u.1 u.2.1 u.2.2) (cB (dC, dI) (kT cyB cyI cyJ cyP) (va_A (qDh a0 jbd jaQ jaD ja7 jby jbe jaM jaY jap jaK jal jam jax jao ja6 jaV ja8 jae jag jaf ja0 jaC jaP jaw jaI jaZ jaG jaS jan jaU jaE jar jaL jah jaB jaa jaz jaH jab jaT a0_s jaq jai jaO jaA jat jau jav jaj jas jaJ jak jad jay jac jaQ cyI ja9 jaT cyI jb0 a0_s cyI f0_s) sz) (fun u : Int32 × NI × NI => ((qDh a0 u.1 jaQ jaD ja7 jby jbe jaM jaY jap jaK jal jam jax jao ja6 jaV ja8 jae jag jaf ja0 jaC jaP jaw jaI jaZ jaG jaS jan jaU jaE jar jaL jah jaB jaa jaz jaH jab jaT a0_s jaq jai jaO jaA jat jau jav jaj jas jaJ jak jad jay jac jaQ cyI u.2.1 jaT cyI jb0 a0_s cyI u.2.2) : va_W))) (va_A (qDh a0 jbd jaQ jaD ja7 jby jbe jaM jaY jap jaK jal jam jax jao ja6 jaV ja8 jae jag jaf ja0 jaC jaP jaw jaI jaZ jaG jaS jan jaU jaE jar jaL jah jaB jaa jaz jaH jab jaT a0_s jaq jai jaO jaA jat jau jav jaj jas jaJ jak jad jay jac jaQ cyI ja9 jaT cyI jb0 a0_s cyI f0_s) sz)) 0 0 (va_A (qDh a0 jbd jaQ jaD ja7 jby jbe jaM jaY jap jaK jal jam jax jao ja6 jaV ja8 jae jag jaf ja0 jaC jaP jaw jaI jaZ jaG jaS jan jaU jaE jar jaL jah jaB jaa jaz jaH jab jaT a0_s jaq jai jaO jaA jat jau jav jaj jas jaJ jak jad jay jac jaQ cyI ja9 jaT cyI jb0 a0_s cyI f0_s) sz) := by
  refine Met.ofW (cc := cX11_bouts) (maxL := 5) (ret := (some .int)) (by decide) rfl ?_
  intro p e s m args below meth c s₁ B hml hv
  obtain ⟨rfl, hsz, hP, hK, hD0, hNw⟩ := hv
  have hx := B.exec
  have hb := B.bytes
  have hr := B.returns
  have hts := atoms_spec (ws := wsX11_bouts) B.pre
  have hown : s.vm.findClass RX11 = some m.cls := findClass_of_methodNamed B.named
  have hlocks := B.notSynchronized
  subst hsz
  have hD := hD0.self (sz := s.heap.size)
  generalize hAe : va_A (qDh a0 jbd jaQ jaD ja7 jby jbe jaM jaY jap jaK jal jam jax jao ja6 jaV ja8 jae jag jaf ja0 jaC jaP jaw jaI jaZ jaG jaS jan jaU jaE jar jaL jah jaB jaa jaz jaH jab jaT a0_s jaq jai jaO jaA jat jau jav jaj jas jaJ jak jad jay jac jaQ cyI ja9 jaT cyI jb0 a0_s cyI f0_s) s.heap.size = A at hD ⊢
  have hA : ∀ q : Nat, s.heap.size ≤ q → A q := fun q h => by rw [← hAe]; exact Or.inr h
  have hS : va_S A s.heap s.heap [] := va_S.rf
  have hP : va_P (dC, dI) vwCl (qDh a0 jbd jaQ jaD ja7 jby jbe jaM jaY jap jaK jal jam jax jao ja6 jaV ja8 jae jag jaf ja0 jaC jaP jaw jaI jaZ jaG jaS jan jaU jaE jar jaL jah jaB jaa jaz jaH jab jaT a0_s jaq jai jaO jaA jat jau jav jaj jas jaJ jak jad jay jac jaQ cyI ja9 jaT cyI jb0 a0_s cyI f0_s) s.heap := hP
  have hl := lv_entry ([.ref a0, .int p1]) (n := 5) (nbq rfl)
  rw [lg_entry_eq]
  generalize (lg_sl ([.ref a0, .int p1]) ++ List.replicate (5 - (lg_sl ([.ref a0, .int p1])).length) Slot.unset).toArray = ls at hl ⊢
  have hl : lv_has ls 5 [(0, .ref a0), (1, .int p1)] := hl
  have C0 : cfx p s m _ meth c cX11_bouts (some .int) wsX11_bouts RX11 5 A (dC, dI) (kT cyB cyI cyJ cyP) := ⟨hx, hb, hr, hts, hown, hlocks, hml, hA, hK, hNw⟩
  clear hAe
  obtain ⟨H, hH⟩ : ∃ H, H = s.heap := ⟨_, rfl⟩
  rw [← hH] at hP ⊢
  have hS : va_S A s.heap H [] := by rw [hH]; exact va_S.rf
  have hS := hS
  refine lv_aload_n hx hb (qaa qjt 0 rfl) rfl (lv_at hl 0 rfl) ?_
  refine lv_iconst (v := 0) hx hb (qaa qjt 1 rfl) (by decide) ?_
  refine va_put (D := (dC, dI)) (ci := 11) (v := .int 0) (ty := .int) (C := RX11) (T := TX11) (N := 55) hx hb hts qEG tyX11 tyX11_ok nmX11 hown hK hP hD hS 0 rfl rfl 0 (by decide) (hts _ qawz) (fun _ h9 => h9) rfl (by decide +kernel) rfl rfl (nbq rfl) (qaa qjt 2 rfl) (fun H locs hP hD hS => ?_)
  have hP : va_P (dC, dI) vwCl (qDh a0 0 jaQ jaD ja7 jby jbe jaM jaY jap jaK jal jam jax jao ja6 jaV ja8 jae jag jaf ja0 jaC jaP jaw jaI jaZ jaG jaS jan jaU jaE jar jaL jah jaB jaa jaz jaH jab jaT a0_s jaq jai jaO jaA jat jau jav jaj jas jaJ jak jad jay jac jaQ cyI ja9 jaT cyI jb0 a0_s cyI f0_s) H := hP
  have hD : va_D A (qDh a0 0 jaQ jaD ja7 jby jbe jaM jaY jap jaK jal jam jax jao ja6 jaV ja8 jae jag jaf ja0 jaC jaP jaw jaI jaZ jaG jaS jan jaU jaE jar jaL jah jaB jaa jaz jaH jab jaT a0_s jaq jai jaO jaA jat jau jav jaj jas jaJ jak jad jay jac jaQ cyI ja9 jaT cyI jb0 a0_s cyI f0_s) := hD
  refine lv_aload_n hx hb (qaa qjt 3 rfl) rfl (lv_at hl 0 rfl) ?_
  refine lv_iload_n hx hb (qaa qjt 4 rfl) rfl (lv_at hl 1 rfl) ?_
  refine lv_iconst (v := 1) hx hb (qaa qjt 5 rfl) (by decide) ?_
  obtain ⟨hCc, hPc, hDc, hFc⟩ := qac (ws' := (qbea a0 0 jaQ jaD ja7 jby jbe jaM jaY jap jaK jal jam jax jao ja6 jaV ja8 jae jag jaf ja0 jaC jaP jaw jaI jaZ jaG jaS jan jaU jaE jar jaL jah jaB jaa jaz jaH jab jaT a0_s jaq jai jaO jaA jat jau jav jaj jas jaJ jak jad jay jac jaQ cyI ja9)) hP hD hS hA [0, 1] (by decide +kernel) rfl
  refine va_calli (va_runV (As := [.int p1, .int 1]) (rest := []) ⟨hx, hb, hml, hown, hts⟩ (qtP l dC dI cyB cyI cyJ cyP a0 jaQ H.size (jaD) (ja7) (jby) (jbe) (jaM) (jaY) (jap) (jaK) (jal) (jam) (jax) (jao) (ja6) (jaV) (ja8) (jae) (jag) (jaf) (ja0) (jaP) (jaw) (jaI) (jaZ) (jaG) (jaS) (jan) (jaU) (jaE) (jar) (jaL) (jah) (jaB) (jaa) (jaz) (jaH) (jab) (.ref jaT) (.ref a0_s) (jaq) (jai) (jaO) (jaA) (jat) (jau) (jav) (jaj) (jas) (jaJ) (jak) (jad) (jay) (jac) jaC 0 ja9 p1 1 hw) (cwV 2 hts gX11_bouts_X11_isHare rfl rfl rfl (by decide +kernel) ⟨nbq rfl, nbq rfl⟩) ⟨qab, va_recv (q := (RX11, TX11, 55)) hK hPc (ci := 11) (q0 := 0) rfl rfl, qae hPc hK hDc hNw⟩ rfl rfl hl.1 rfl (lv_room (nbq rfl)) (qaa qjt 6 rfl) ⟨nbq rfl, nbq rfl⟩) hS (fun q _ h => hFc q h) hFc (fun r3 u t H1 locs ht hvm hw hB hz1 hk1 hS => ?_)
  obtain ⟨x1, f2⟩ := u
  obtain ⟨hP1, hK1, hD1⟩ := hB
  rw [ht] at hP1
  obtain ⟨hP, hD⟩ := qad (wr := [(jaT, .inl (cyI, 68, .inl jb0)), (a0_s, .inl (cyI, 68, .inl f0_s))]) (w1 := (qbea a0 x1 jaQ jaD ja7 jby jbe jaM jaY jap jaK jal jam jax jao ja6 jaV ja8 jae jag jaf ja0 jaC jaP jaw jaI jaZ jaG jaS jan jaU jaE jar jaL jah jaB jaa jaz jaH jab jaT a0_s jaq jai jaO jaA jat jau jav jaj jas jaJ jak jad jay jac jaQ cyI f2)) (wn := (qDh a0 x1 jaQ jaD ja7 jby jbe jaM jaY jap jaK jal jam jax jao ja6 jaV ja8 jae jag jaf ja0 jaC jaP jaw jaI jaZ jaG jaS jan jaU jaE jar jaL jah jaB jaa jaz jaH jab jaT a0_s jaq jai jaO jaA jat jau jav jaj jas jaJ jak jad jay jac jaQ cyI f2 jaT cyI jb0 a0_s cyI f0_s)) hP hD [0, 1] [2, 3] [2, 3, 0, 1] hCc rfl (by decide +kernel) (by decide +kernel) (by decide +kernel) rfl hk1 hFc hP1 hD1
  generalize H1 = H at hP hS ⊢
  refine lv_if_ne (tgt := 16) hx hb (qaa qjt 7 rfl) (by decide) (fun c4 => ?_) (fun c4 => ?_)
  · have hw := hw.1 c4
    refine lv_aload_n hx hb (qaa qjt 10 rfl) rfl (lv_at hl 0 rfl) ?_
    obtain ⟨hCc, hPc, hDc, hFc⟩ := qac (ws' := (qbd4 a0 x1 jaQ jaD ja7 jby jbe jaM jaY jap jaK jal jam jax jao ja6 jaV ja8 jae jag jaf ja0 jaC jaP jaw jaI jaZ jaG jaS jan jaU jaE jar jaL jah jaB jaa jaz jaH jab jaT a0_s jaq jai jaO jaA jat jau jav jaj jas jaJ jak jad jay jac jaT cyI jb0 a0_s cyI f0_s)) hP hD hS hA [0, 2, 3] (by decide +kernel) rfl
    refine va_callv (va_runV (As := []) (rest := []) ⟨hx, hb, hml, hown, hts⟩ (qq7 l dC dI cyB cyI cyJ cyP a0 jaT a0_s H.size (.int x1) (.ref jaQ) (jaD) (ja7) (jby) (jbe) (jaM) (jaY) (jap) (jaK) (jal) (jam) (jax) (jao) (ja6) (jaV) (ja8) (jae) (jag) (jaf) (ja0) (.int jaC) (jaP) (jaw) (jaI) (jaZ) (jaG) (jaS) (jan) (jaU) (jaE) (jar) (jaL) (jah) (jaB) (jaa) (jaz) (jaH) (jab) (jaq) (jai) (jaO) (jaA) (jat) (jau) (jav) (jaj) (jas) (jaJ) (jak) (jad) (jay) (jac) jb0 f0_s hw) (cwV 0 hts gX11_bouts_X11_take rfl rfl rfl (by decide +kernel) ⟨nbq rfl, nbq rfl⟩) ⟨qab, va_recv (q := (RX11, TX11, 55)) hK hPc (ci := 11) (q0 := 0) rfl rfl, qae hPc hK hDc hNw⟩ rfl rfl hl.1 rfl (lv_room (nbq rfl)) (qaa qjt 11 rfl) ⟨nbq rfl, nbq rfl⟩) hS (fun q _ h => hFc q h) hFc (fun u t H1 locs ht hvm hw hB hz1 hk1 hS => ?_)
    obtain ⟨f5, rfl⟩ : ∃ z, z = u := ⟨_, rfl⟩
    obtain ⟨hP1, hK1, hD1⟩ := hB
    rw [ht] at hP1
    obtain ⟨hP, hD⟩ := qad (wr := [(jaQ, .inl (cyI, 2, .inl f2))]) (w1 := (qbd4 a0 x1 jaQ jaD ja7 jby jbe jaM jaY jap jaK jal jam jax jao ja6 jaV ja8 jae jag jaf ja0 jaC jaP jaw jaI jaZ jaG jaS jan jaU jaE jar jaL jah jaB jaa jaz jaH jab jaT a0_s jaq jai jaO jaA jat jau jav jaj jas jaJ jak jad jay jac jaT cyI jb0 a0_s cyI f5)) (wn := (qDh a0 x1 jaQ jaD ja7 jby jbe jaM jaY jap jaK jal jam jax jao ja6 jaV ja8 jae jag jaf ja0 jaC jaP jaw jaI jaZ jaG jaS jan jaU jaE jar jaL jah jaB jaa jaz jaH jab jaT a0_s jaq jai jaO jaA jat jau jav jaj jas jaJ jak jad jay jac jaQ cyI f2 jaT cyI jb0 a0_s cyI f5)) hP hD [0, 2, 3] [1] [1, 0, 2, 3] hCc rfl (by decide +kernel) (by decide +kernel) (by decide +kernel) rfl hk1 hFc hP1 hD1
    generalize H1 = H at hP hS ⊢
    refine lv_iconst (v := 1) hx hb (qaa qjt 12 rfl) (by decide) ?_
    refine lv_aload_n hx hb (qaa qjt 13 rfl) rfl (lv_at hl 0 rfl) ?_
    refine va_get (D := (dC, dI)) (ci := 11) (v := .int jaC) (C := RX11) (T := TX11) (N := 55) hx hb hts qEG hown hK hP 0 rfl rfl 21 (by decide) (hts _ qU8) (fun _ h9 => h9) rfl (qaa qjt 14 rfl) ?_
    refine lv_ishl hx hb (qaa qjt 15 rfl) ?_
    refine lv_iconst (v := 1) hx hb (qaa qhQ 0 rfl) (by decide) ?_
    refine lv_isub hx hb (qaa qhQ 1 rfl) ?_
    refine lv_aload_n hx hb (qaa qhQ 2 rfl) rfl (lv_at hl 0 rfl) ?_
    obtain ⟨hCc, hPc, hDc, hFc⟩ := qac (ws' := (qa0W a0 x1 jaQ jaD ja7 jby jbe jaM jaY jap jaK jal jam jax jao ja6 jaV ja8 jae jag jaf ja0 jaC jaP jaw jaI jaZ jaG jaS jan jaU jaE jar jaL jah jaB jaa jaz jaH jab jaT a0_s jaq jai jaO jaA jat jau jav jaj jas jaJ jak jad jay jac a0_s cyI f5)) hP hD hS hA [0, 3] (by decide +kernel) rfl
    refine va_calli (va_runV (As := []) (rest := [.int ((1 <<< (jaC &&& 31)) - 1)]) ⟨hx, hb, hml, hown, hts⟩ (qEC l dC dI cyB cyI cyJ cyP a0 a0_s H.size (.int x1) (.ref jaQ) (jaD) (ja7) (jby) (jbe) (jaM) (jaY) (jap) (jaK) (jal) (jam) (jax) (jao) (ja6) (jaV) (ja8) (jae) (jag) (jaf) (ja0) (jaP) (jaw) (jaI) (jaZ) (jaG) (jaS) (jan) (jaU) (jaE) (jar) (jaL) (jah) (jaB) (jaa) (jaz) (jaH) (jab) (.ref jaT) (jaq) (jai) (jaO) (jaA) (jat) (jau) (jav) (jaj) (jas) (jaJ) (jak) (jad) (jay) (jac) jaC f5 hw) (cwV 0 hts gX11_bouts_X11_caughtNow rfl rfl rfl (by decide +kernel) ⟨nbq rfl, nbq rfl⟩) ⟨qab, va_recv (q := (RX11, TX11, 55)) hK hPc (ci := 11) (q0 := 0) rfl rfl, qae hPc hK hDc hNw⟩ rfl rfl hl.1 rfl (lv_room (nbq rfl)) (qaa qhQ 3 rfl) ⟨nbq rfl, nbq rfl⟩) hS (fun q _ h => hFc q h) hFc (fun r6 u t H1 locs ht hvm hw hB hz1 hk1 hS => ?_)
    obtain ⟨hP1, hK1, hD1⟩ := hB
    rw [ht] at hP1
    obtain ⟨hP, hD⟩ := qad (wr := (qa8T jaQ cyI f2 jaT cyI jb0)) (w1 := (qa0W a0 x1 jaQ jaD ja7 jby jbe jaM jaY jap jaK jal jam jax jao ja6 jaV ja8 jae jag jaf ja0 jaC jaP jaw jaI jaZ jaG jaS jan jaU jaE jar jaL jah jaB jaa jaz jaH jab jaT a0_s jaq jai jaO jaA jat jau jav jaj jas jaJ jak jad jay jac a0_s cyI f5)) (wn := (qDh a0 x1 jaQ jaD ja7 jby jbe jaM jaY jap jaK jal jam jax jao ja6 jaV ja8 jae jag jaf ja0 jaC jaP jaw jaI jaZ jaG jaS jan jaU jaE jar jaL jah jaB jaa jaz jaH jab jaT a0_s jaq jai jaO jaA jat jau jav jaj jas jaJ jak jad jay jac jaQ cyI f2 jaT cyI jb0 a0_s cyI f5)) hP hD [0, 3] [1, 2] [2, 0, 1, 3] hCc rfl (by decide +kernel) (by decide +kernel) (by decide +kernel) rfl hk1 hFc hP1 hD1
    generalize H1 = H at hP hS ⊢
    refine lv_iconst (v := (-1)) hx hb (qaa qhQ 4 rfl) (by decide) ?_
    refine lv_ixor hx hb (qaa qhQ 5 rfl) ?_
    refine lv_iand hx hb (qaa qhQ 6 rfl) ?_
    refine lv_topi (fun x7 ex7 => ?_)
    have hw := hw x7 ex7
    refine lv_istore_n (lv' := [(2, .int x7), (0, .ref a0), (1, .int p1)]) hx hb (qaa qhQ 7 rfl) rfl hl (by decide) rfl (fun ls hl => ?_)
    refine lv_iconst (v := 0) hx hb (qaa qhQ 8 rfl) (by decide) ?_
    refine lv_istore_n (lv' := [(3, .int 0), (2, .int x7), (0, .ref a0), (1, .int p1)]) hx hb (qaa qhQ 9 rfl) rfl hl (by decide) rfl (fun ls hl => ?_)
    refine lv_iconst (v := 0) hx hb (qaa qhQ 10 rfl) (by decide) ?_
    refine lv_istore (lv' := [(4, .int 0), (3, .int 0), (2, .int x7), (0, .ref a0), (1, .int p1)]) hx hb (qaa qhQ 11 rfl) hl (by decide) rfl (fun ls hl => ?_)
    obtain ⟨n9, hw⟩ := hw
    exact qaxn dC dI cyB cyI cyJ cyP a0 jaQ jaT a0_s jaD ja7 jby jbe jaM jaY jap jaK jal jam jax jao ja6 jaV ja8 jae jag jaf ja0 jaP jaw jaI jaZ jaG jaS jan jaU jaE jar jaL jah jaB jaa jaz jaH jab jaq jai jaO jaA jat jau jav jaj jas jaJ jak jad jay jac jaC jb0 Q C0 n9 _ _ _ x1 f2 f5 p1 x7 0 0 hP hD hS (lv_sub hl [3, 4, 2, 1, 0] rfl) hw
  · have hw := hw.2 c4
    refine lv_iconst (v := 0) hx hb (qaa qjt 8 rfl) (by decide) ?_
    exact ((W.iret (v := 0) hx hb hr (fun t ht hW => ⟨⟨0, (x1, f2, f0_s), rfl, hw, by rw [ht]; exact hP, va_K.moved hW.alike hK, hD⟩, hS.F ht⟩) hS.2.2 (qaa qjt 9 rfl)))
theorem qpo : ∀ w ∈ u_ws RX11 TX11 55, w ∈ wsX11_boxes := uiM qX6 qfa (by decide +kernel)
theorem qpu : (.fieldLink RX11 71 "MarchHaresModel" "s" "[I" : Cond) ∈ wsX11_boxes := qX6 457 (by decide +kernel)
set_option maxHeartbeats 4000000 in
set_option maxRecDepth 100000 in
theorem q2g {p : Program} {l : Launch} {e : Env} {s : State} {m : MethodId} {args : Array Value} {below : List Frame} {meth : Method} {c : Code} {A : Nat → Prop} (dC : Nat → ClassId) (dI : Nat → Nat → Nat) (cyB cyI cyJ cyP : ClassId) (a0 a0_s : Nat) (jaX jaF jaD ja7 jby jbe jaM jaY jap jaK jal jam jax jao ja6 jaV ja8 jae jag jaf ja0 ja4 jaP jaw jaI jaZ jaG jaS jan jaU jaE jar jaL jah jaB jaa jaz jaH jab ja2 jaq jai jaO jaA jat jau jav jaj jas jaJ jak jad jay jac : Value) (Q : Int32 → NI → Prop) (C0 : cfx p s m args meth c cX11_boxes (some .boolean) wsX11_boxes RX11 4 A (dC, dI) (kT cyB cyI cyJ cyP)) : ∀ (H : Heap) (locs : List Loc) (ls : Array Slot) (f0_s : NI) (l1 l2 s1 s2 s3 : Int32), va_P (dC, dI) vwCl (qy3 a0 jaX jaF jaD ja7 jby jbe jaM jaY jap jaK jal jam jax jao ja6 jaV ja8 jae jag jaf ja0 ja4 jaP jaw jaI jaZ jaG jaS jan jaU jaE jar jaL jah jaB jaa jaz jaH jab ja2 a0_s jaq jai jaO jaA jat jau jav jaj jas jaJ jak jad jay jac a0_s cyI f0_s) H → va_D A (qy3 a0 jaX jaF jaD ja7 jby jbe jaM jaY jap jaK jal jam jax jao ja6 jaV ja8 jae jag jaf ja0 ja4 jaP jaw jaI jaZ jaG jaS jan jaU jaE jar jaL jah jaB jaa jaz jaH jab ja2 a0_s jaq jai jaO jaA jat jau jav jaj jas jaJ jak jad jay jac a0_s cyI f0_s) → va_S A s.heap H locs → lv_has ls 4 [(0, .ref a0), (1, .int l1), (2, .int l2)] → qHy Q f0_s l1 l2 s1 s2 s3 → W p l e (headSpec wsX11_boxes ({ frames := 1, cells := 0, slots := 0, locals := 21 })).room s m args below meth c H locs 0 0 (MQ below (va_Qi (fun (r : Int32) (u : NI) => Q r u) (cB (dC, dI) (kT cyB cyI cyJ cyP) A (fun u : NI => ((qy3 a0 jaX jaF jaD ja7 jby jbe jaM jaY jap jaK jal jam jax jao ja6 jaV ja8 jae jag jaf ja0 ja4 jaP jaw jaI jaZ jaG jaS jan jaU jaE jar jaL jah jaB jaa jaz jaH jab ja2 a0_s jaq jai jaO jaA jat jau jav jaj jas jaJ jak jad jay jac a0_s cyI u) : va_W))) A) args s 0 0 A) (F0 m 88 ls [.int s3, .int s2, .int s1, .ref a0_s]) := by
  obtain ⟨hx, hb, hr, hts, hown, hlocks, hml, hA, hK, hNw⟩ := id C0
  intro H locs ls f0_s l1 l2 s1 s2 s3 hP hD hS hl hw
  refine lv_isub hx hb (qaa qhv 8 rfl) ?_
  refine lv_topi (fun x19 ex19 => ?_)
  have hw := hw x19 ex19
  obtain ⟨hi9, hw⟩ := hw
  refine va_iast hx hb hK hP hD hS 1 1 rfl rfl hi9 (qaa qhv 9 rfl) (fun H locs hP hD hS => ?_)
  obtain ⟨f20, ef20⟩ : ∃ y : NI, y = upd f0_s s1.toNatClampNeg x19 := ⟨_, rfl⟩
  have hw := hw f20 ef20
  have hP : va_P (dC, dI) vwCl (qy3 a0 jaX jaF jaD ja7 jby jbe jaM jaY jap jaK jal jam jax jao ja6 jaV ja8 jae jag jaf ja0 ja4 jaP jaw jaI jaZ jaG jaS jan jaU jaE jar jaL jah jaB jaa jaz jaH jab ja2 a0_s jaq jai jaO jaA jat jau jav jaj jas jaJ jak jad jay jac a0_s cyI f20) H := by rw [ef20]; exact hP
  have hD : va_D A (qy3 a0 jaX jaF jaD ja7 jby jbe jaM jaY jap jaK jal jam jax jao ja6 jaV ja8 jae jag jaf ja0 ja4 jaP jaw jaI jaZ jaG jaS jan jaU jaE jar jaL jah jaB jaa jaz jaH jab ja2 a0_s jaq jai jaO jaA jat jau jav jaj jas jaJ jak jad jay jac a0_s cyI f20) := by rw [ef20]; exact hD
  refine lv_aload_n hx hb (qaa qhv 10 rfl) rfl (lv_at hl 0 rfl) ?_
  refine va_get (D := (dC, dI)) (ci := 11) (v := .ref a0_s) (C := RX11) (T := TX11) (N := 55) hx hb hts qpo hown hK hP 0 rfl rfl 40 (by decide) (hts _ qpu) (fun _ h9 => h9) rfl (qaa qhv 11 rfl) ?_
  refine lv_bipush (v := 12) hx hb (qaa qhv 12 rfl) (by decide) ?_
  refine lv_iload_n hx hb (qaa qhv 13 rfl) rfl (lv_at hl 1 rfl) ?_
  refine lv_iadd hx hb (qaa qhv 14 rfl) ?_
  refine lv_topi (fun x21 ex21 => ?_)
  have hw := hw x21 ex21
  refine lv_iconst (v := 0) hx hb (qaa qhv 15 rfl) (by decide) ?_
  obtain ⟨hi9, hw⟩ := hw
  refine va_iast hx hb hK hP hD hS 1 1 rfl rfl hi9 (qaa qhI 0 rfl) (fun H locs hP hD hS => ?_)
  obtain ⟨f22, ef22⟩ : ∃ y : NI, y = upd f20 x21.toNatClampNeg 0 := ⟨_, rfl⟩
  have hw := hw f22 ef22
  have hP : va_P (dC, dI) vwCl (qy3 a0 jaX jaF jaD ja7 jby jbe jaM jaY jap jaK jal jam jax jao ja6 jaV ja8 jae jag jaf ja0 ja4 jaP jaw jaI jaZ jaG jaS jan jaU jaE jar jaL jah jaB jaa jaz jaH jab ja2 a0_s jaq jai jaO jaA jat jau jav jaj jas jaJ jak jad jay jac a0_s cyI f22) H := by rw [ef22]; exact hP
  have hD : va_D A (qy3 a0 jaX jaF jaD ja7 jby jbe jaM jaY jap jaK jal jam jax jao ja6 jaV ja8 jae jag jaf ja0 ja4 jaP jaw jaI jaZ jaG jaS jan jaU jaE jar jaL jah jaB jaa jaz jaH jab ja2 a0_s jaq jai jaO jaA jat jau jav jaj jas jaJ jak jad jay jac a0_s cyI f22) := by rw [ef22]; exact hD
  refine lv_aload_n hx hb (qaa qhI 1 rfl) rfl (lv_at hl 0 rfl) ?_
  refine va_get (D := (dC, dI)) (ci := 11) (v := .ref a0_s) (C := RX11) (T := TX11) (N := 55) hx hb hts qpo hown hK hP 0 rfl rfl 40 (by decide) (hts _ qpu) (fun _ h9 => h9) rfl (qaa qhI 2 rfl) ?_
  refine lv_bipush (v := 12) hx hb (qaa qhI 3 rfl) (by decide) ?_
  refine lv_iload_n hx hb (qaa qhI 4 rfl) rfl (lv_at hl 2 rfl) ?_
  refine lv_iadd hx hb (qaa qhI 5 rfl) ?_
  refine lv_topi (fun x23 ex23 => ?_)
  have hw := hw x23 ex23
  refine lv_iconst (v := 0) hx hb (qaa qhI 6 rfl) (by decide) ?_
  obtain ⟨hi9, hw⟩ := hw
  refine va_iast hx hb hK hP hD hS 1 1 rfl rfl hi9 (qaa qhI 7 rfl) (fun H locs hP hD hS => ?_)
  obtain ⟨f24, ef24⟩ : ∃ y : NI, y = upd f22 x23.toNatClampNeg 0 := ⟨_, rfl⟩
  have hw := hw f24 ef24
  have hP : va_P (dC, dI) vwCl (qy3 a0 jaX jaF jaD ja7 jby jbe jaM jaY jap jaK jal jam jax jao ja6 jaV ja8 jae jag jaf ja0 ja4 jaP jaw jaI jaZ jaG jaS jan jaU jaE jar jaL jah jaB jaa jaz jaH jab ja2 a0_s jaq jai jaO jaA jat jau jav jaj jas jaJ jak jad jay jac a0_s cyI f24) H := by rw [ef24]; exact hP
  have hD : va_D A (qy3 a0 jaX jaF jaD ja7 jby jbe jaM jaY jap jaK jal jam jax jao ja6 jaV ja8 jae jag jaf ja0 ja4 jaP jaw jaI jaZ jaG jaS jan jaU jaE jar jaL jah jaB jaa jaz jaH jab ja2 a0_s jaq jai jaO jaA jat jau jav jaj jas jaJ jak jad jay jac a0_s cyI f24) := by rw [ef24]; exact hD
  refine lv_aload_n hx hb (qaa qhI 8 rfl) rfl (lv_at hl 0 rfl) ?_
  refine va_get (D := (dC, dI)) (ci := 11) (v := .ref a0_s) (C := RX11) (T := TX11) (N := 55) hx hb hts qpo hown hK hP 0 rfl rfl 40 (by decide) (hts _ qpu) (fun _ h9 => h9) rfl (qaa qhI 9 rfl) ?_
  refine lv_bipush (v := 24) hx hb (qaa qhI 10 rfl) (by decide) ?_
  refine lv_iload_n hx hb (qaa qhI 11 rfl) rfl (lv_at hl 1 rfl) ?_
  refine lv_iadd hx hb (qaa qhI 12 rfl) ?_
  refine lv_topi (fun x25 ex25 => ?_)
  have hw := hw x25 ex25
  refine lv_iconst (v := 1) hx hb (qaa qhI 13 rfl) (by decide) ?_
  obtain ⟨hi9, hw⟩ := hw
  refine va_iast hx hb hK hP hD hS 1 1 rfl rfl hi9 (qaa qhI 14 rfl) (fun H locs hP hD hS => ?_)
  obtain ⟨f26, ef26⟩ : ∃ y : NI, y = upd f24 x25.toNatClampNeg 1 := ⟨_, rfl⟩
  have hw := hw f26 ef26
  have hP : va_P (dC, dI) vwCl (qy3 a0 jaX jaF jaD ja7 jby jbe jaM jaY jap jaK jal jam jax jao ja6 jaV ja8 jae jag jaf ja0 ja4 jaP jaw jaI jaZ jaG jaS jan jaU jaE jar jaL jah jaB jaa jaz jaH jab ja2 a0_s jaq jai jaO jaA jat jau jav jaj jas jaJ jak jad jay jac a0_s cyI f26) H := by rw [ef26]; exact hP
  have hD : va_D A (qy3 a0 jaX jaF jaD ja7 jby jbe jaM jaY jap jaK jal jam jax jao ja6 jaV ja8 jae jag jaf ja0 ja4 jaP jaw jaI jaZ jaG jaS jan jaU jaE jar jaL jah jaB jaa jaz jaH jab ja2 a0_s jaq jai jaO jaA jat jau jav jaj jas jaJ jak jad jay jac a0_s cyI f26) := by rw [ef26]; exact hD
  refine lv_aload_n hx hb (qaa qhI 15 rfl) rfl (lv_at hl 0 rfl) ?_
  refine va_get (D := (dC, dI)) (ci := 11) (v := .ref a0_s) (C := RX11) (T := TX11) (N := 55) hx hb hts qpo hown hK hP 0 rfl rfl 40 (by decide) (hts _ qpu) (fun _ h9 => h9) rfl (qaa qst 0 rfl) ?_
  refine lv_bipush (v := 24) hx hb (qaa qst 1 rfl) (by decide) ?_
  refine lv_iload_n hx hb (qaa qst 2 rfl) rfl (lv_at hl 2 rfl) ?_
  refine lv_iadd hx hb (qaa qst 3 rfl) ?_
  refine lv_topi (fun x27 ex27 => ?_)
  have hw := hw x27 ex27
  refine lv_iconst (v := 1) hx hb (qaa qst 4 rfl) (by decide) ?_
  obtain ⟨hi9, hw⟩ := hw
  refine va_iast hx hb hK hP hD hS 1 1 rfl rfl hi9 (qaa qst 5 rfl) (fun H locs hP hD hS => ?_)
  obtain ⟨f28, ef28⟩ : ∃ y : NI, y = upd f26 x27.toNatClampNeg 1 := ⟨_, rfl⟩
  have hw := hw f28 ef28
  have hP : va_P (dC, dI) vwCl (qy3 a0 jaX jaF jaD ja7 jby jbe jaM jaY jap jaK jal jam jax jao ja6 jaV ja8 jae jag jaf ja0 ja4 jaP jaw jaI jaZ jaG jaS jan jaU jaE jar jaL jah jaB jaa jaz jaH jab ja2 a0_s jaq jai jaO jaA jat jau jav jaj jas jaJ jak jad jay jac a0_s cyI f28) H := by rw [ef28]; exact hP
  have hD : va_D A (qy3 a0 jaX jaF jaD ja7 jby jbe jaM jaY jap jaK jal jam jax jao ja6 jaV ja8 jae jag jaf ja0 ja4 jaP jaw jaI jaZ jaG jaS jan jaU jaE jar jaL jah jaB jaa jaz jaH jab ja2 a0_s jaq jai jaO jaA jat jau jav jaj jas jaJ jak jad jay jac a0_s cyI f28) := by rw [ef28]; exact hD
  refine lv_iconst (v := 1) hx hb (qaa qst 6 rfl) (by decide) ?_
  exact ((W.zret (v := 1) hx hb hr rfl (fun t ht hW => ⟨⟨1, (f28), rfl, hw, by rw [ht]; exact hP, va_K.moved hW.alike hK, hD⟩, hS.F ht⟩) hS.2.2 (qaa qst 7 rfl)))
set_option maxHeartbeats 4000000 in
set_option maxRecDepth 100000 in
theorem q31 {p : Program} {l : Launch} {e : Env} {s : State} {m : MethodId} {args : Array Value} {below : List Frame} {meth : Method} {c : Code} {A : Nat → Prop} (dC : Nat → ClassId) (dI : Nat → Nat → Nat) (cyB cyI cyJ cyP : ClassId) (a0 a0_s : Nat) (jaX jaF jaD ja7 jby jbe jaM jaY jap jaK jal jam jax jao ja6 jaV ja8 jae jag jaf ja0 ja4 jaP jaw jaI jaZ jaG jaS jan jaU jaE jar jaL jah jaB jaa jaz jaH jab ja2 jaq jai jaO jaA jat jau jav jaj jas jaJ jak jad jay jac : Value) (Q : Int32 → NI → Prop) (C0 : cfx p s m args meth c cX11_boxes (some .boolean) wsX11_boxes RX11 4 A (dC, dI) (kT cyB cyI cyJ cyP)) : ∀ (H : Heap) (locs : List Loc) (ls : Array Slot) (f0_s : NI) (l1 l2 s0 : Int32), va_P (dC, dI) vwCl (qy3 a0 jaX jaF jaD ja7 jby jbe jaM jaY jap jaK jal jam jax jao ja6 jaV ja8 jae jag jaf ja0 ja4 jaP jaw jaI jaZ jaG jaS jan jaU jaE jar jaL jah jaB jaa jaz jaH jab ja2 a0_s jaq jai jaO jaA jat jau jav jaj jas jaJ jak jad jay jac a0_s cyI f0_s) H → va_D A (qy3 a0 jaX jaF jaD ja7 jby jbe jaM jaY jap jaK jal jam jax jao ja6 jaV ja8 jae jag jaf ja0 ja4 jaP jaw jaI jaZ jaG jaS jan jaU jaE jar jaL jah jaB jaa jaz jaH jab ja2 a0_s jaq jai jaO jaA jat jau jav jaj jas jaJ jak jad jay jac a0_s cyI f0_s) → va_S A s.heap H locs → lv_has ls 4 [(0, .ref a0), (1, .int l1), (2, .int l2)] → qG2 Q f0_s l1 l2 s0 → W p l e (headSpec wsX11_boxes ({ frames := 1, cells := 0, slots := 0, locals := 21 })).room s m args below meth c H locs 0 0 (MQ below (va_Qi (fun (r : Int32) (u : NI) => Q r u) (cB (dC, dI) (kT cyB cyI cyJ cyP) A (fun u : NI => ((qy3 a0 jaX jaF jaD ja7 jby jbe jaM jaY jap jaK jal jam jax jao ja6 jaV ja8 jae jag jaf ja0 ja4 jaP jaw jaI jaZ jaG jaS jan jaU jaE jar jaL jah jaB jaa jaz jaH jab ja2 a0_s jaq jai jaO jaA jat jau jav jaj jas jaJ jak jad jay jac a0_s cyI u) : va_W))) A) args s 0 0 A) (F0 m 60 ls [.int s0]) := by
  obtain ⟨hx, hb, hr, hts, hown, hlocks, hml, hA, hK, hNw⟩ := id C0
  intro H locs ls f0_s l1 l2 s0 hP hD hS hl hw
  refine lv_istore_n (lv' := [(3, .int s0), (0, .ref a0), (1, .int l1), (2, .int l2)]) hx hb (qaa qgY 6 rfl) rfl hl (by decide) rfl (fun ls hl => ?_)
  refine lv_aload_n hx hb (qaa qgY 7 rfl) rfl (lv_at hl 1 rfl) ?_
  refine va_get (D := (dC, dI)) (ci := 11) (v := .ref a0_s) (C := RX11) (T := TX11) (N := 55) hx hb hts qpo hown hK hP 0 rfl rfl 40 (by decide) (hts _ qpu) (fun _ h9 => h9) rfl (qaa qgY 8 rfl) ?_
  refine lv_bipush (v := 6) hx hb (qaa qgY 9 rfl) (by decide) ?_
  refine lv_iload_n hx hb (qaa qgY 10 rfl) rfl (lv_at hl 0 rfl) ?_
  refine lv_iadd hx hb (qaa qgY 11 rfl) ?_
  refine lv_topi (fun x14 ex14 => ?_)
  have hw := hw x14 ex14
  refine lv_dup2_11 hx hb (qaa qgY 12 rfl) rfl rfl ?_
  obtain ⟨hi9, hw⟩ := hw
  refine va_iald hx hb hK hP 1 1 rfl rfl hi9 (qaa qgY 13 rfl) ?_
  refine lv_topi (fun x15 ex15 => ?_)
  have hw := hw x15 ex15
  refine lv_aload_n hx hb (qaa qgY 14 rfl) rfl (lv_at hl 1 rfl) ?_
  refine va_get (D := (dC, dI)) (ci := 11) (v := .ref a0_s) (C := RX11) (T := TX11) (N := 55) hx hb hts qpo hown hK hP 0 rfl rfl 40 (by decide) (hts _ qpu) (fun _ h9 => h9) rfl (qaa qgY 15 rfl) ?_
  refine lv_bipush (v := 6) hx hb (qaa qhv 0 rfl) (by decide) ?_
  refine lv_iload_n hx hb (qaa qhv 1 rfl) rfl (lv_at hl 0 rfl) ?_
  refine lv_iadd hx hb (qaa qhv 2 rfl) ?_
  refine lv_topi (fun x16 ex16 => ?_)
  have hw := hw x16 ex16
  obtain ⟨hi9, hw⟩ := hw
  refine va_iald hx hb hK hP 1 1 rfl rfl hi9 (qaa qhv 3 rfl) ?_
  refine lv_topi (fun x17 ex17 => ?_)
  have hw := hw x17 ex17
  refine lv_if_le (tgt := 87) hx hb (qaa qhv 4 rfl) (by decide) (fun c18 => ?_) (fun c18 => ?_)
  · have hw := hw.1 c18
    refine lv_iconst (v := 0) hx hb (qaa qhv 7 rfl) (by decide) ?_
    exact q2g dC dI cyB cyI cyJ cyP a0 a0_s jaX jaF jaD ja7 jby jbe jaM jaY jap jaK jal jam jax jao ja6 jaV ja8 jae jag jaf ja0 ja4 jaP jaw jaI jaZ jaG jaS jan jaU jaE jar jaL jah jaB jaa jaz jaH jab ja2 jaq jai jaO jaA jat jau jav jaj jas jaJ jak jad jay jac Q C0 _ _ _ f0_s l1 l2 x14 x15 0 hP hD hS (lv_sub hl [1, 2, 3] rfl) hw
  · have hw := hw.2 c18
    refine lv_iconst (v := 1) hx hb (qaa qhv 5 rfl) (by decide) ?_
    refine lv_goto (tgt := 88) hx hb (qaa qhv 6 rfl) (by decide) ?_
    exact q2g dC dI cyB cyI cyJ cyP a0 a0_s jaX jaF jaD ja7 jby jbe jaM jaY jap jaK jal jam jax jao ja6 jaV ja8 jae jag jaf ja0 ja4 jaP jaw jaI jaZ jaG jaS jan jaU jaE jar jaL jah jaB jaa jaz jaH jab ja2 jaq jai jaO jaA jat jau jav jaj jas jaJ jak jad jay jac Q C0 _ _ _ f0_s l1 l2 x14 x15 1 hP hD hS (lv_sub hl [1, 2, 3] rfl) hw
set_option maxHeartbeats 4000000 in
set_option maxRecDepth 100000 in
theorem qaon (l : Launch) (dC : Nat → ClassId) (dI : Nat → Nat → Nat) (cyB cyI cyJ cyP : ClassId) (a0 a0_s sz : Nat) (jaX jaF jaD ja7 jby jbe jaM jaY jap jaK jal jam jax jao ja6 jaV ja8 jae jag jaf ja0 ja4 jaP jaw jaI jaZ jaG jaS jan jaU jaE jar jaL jah jaB jaa jaz jaH jab ja2 jaq jai jaO jaA jat jau jav jaj jas jaJ jak jad jay jac : Value) (f0_s : NI) (p1 p2 : Int32) {Q : Int32 → NI → Prop} (hw : qLE f0_s p1 p2 Q) : Met l yX11_boxes wsX11_boxes ({ frames := 1, cells := 0, slots := 0, locals := 21 }) (va_Pc [.ref a0, .int p1, .int p2] (cPc (dC, dI) (kT cyB cyI cyJ cyP) (qy3 a0 jaX jaF jaD ja7 jby jbe jaM jaY jap jaK jal jam jax jao ja6 jaV ja8 jae jag jaf ja0 ja4 jaP jaw jaI jaZ jaG jaS jan jaU jaE jar jaL jah jaB jaa jaz jaH jab ja2 a0_s jaq jai jaO jaA jat jau jav jaj jas jaJ jak jad jay jac a0_s cyI f0_s) sz)) (va_Qi (fun (r : Int32) (u : NI) => Q r u) (cB (dC, dI) (kT cyB cyI cyJ cyP) (va_A (qy3 a0 jaX jaF jaD ja7 jby jbe jaM jaY jap jaK jal jam jax jao ja6 jaV ja8 jae jag jaf ja0 ja4 jaP jaw jaI jaZ jaG jaS jan jaU jaE jar jaL jah jaB jaa jaz jaH jab ja2 a0_s jaq jai jaO jaA jat jau jav jaj jas jaJ jak jad jay jac a0_s cyI f0_s) sz) (fun u : NI => ((qy3 a0 jaX jaF jaD ja7 jby jbe jaM jaY jap jaK jal jam jax jao ja6 jaV ja8 jae jag jaf ja0 ja4 jaP jaw jaI jaZ jaG jaS jan jaU jaE jar jaL jah jaB jaa jaz jaH jab ja2 a0_s jaq jai jaO jaA jat jau jav jaj jas jaJ jak jad jay jac a0_s cyI u) : va_W))) (va_A (qy3 a0 jaX jaF jaD ja7 jby jbe jaM jaY jap jaK jal jam jax jao ja6 jaV ja8 jae jag jaf ja0 ja4 jaP jaw jaI jaZ jaG jaS jan jaU jaE jar jaL jah jaB jaa jaz jaH jab ja2 a0_s jaq jai jaO jaA jat jau jav jaj jas jaJ jak jad jay jac a0_s cyI f0_s) sz)) 0 0 (va_A (qy3 a0 jaX jaF jaD ja7 jby jbe jaM jaY jap jaK jal jam jax jao ja6 jaV ja8 jae jag jaf ja0 ja4 jaP jaw jaI jaZ jaG jaS jan jaU jaE jar jaL jah jaB jaa jaz jaH jab ja2 a0_s jaq jai jaO jaA jat jau jav jaj jas jaJ jak jad jay jac a0_s cyI f0_s) sz) := by
  refine Met.ofW (cc := cX11_boxes) (maxL := 4) (ret := (some .boolean)) (by decide) rfl ?_
  intro p e s m args below meth c s₁ B hml hv
  obtain ⟨rfl, hsz, hP, hK, hD0, hNw⟩ := hv
  have hx := B.exec
  have hb := B.bytes
  have hr := B.returns
  have hts := atoms_spec (ws := wsX11_boxes) B.pre
  have hown : s.vm.findClass RX11 = some m.cls := findClass_of_methodNamed B.named
  have hlocks := B.notSynchronized
  subst hsz
  have hD := hD0.self (sz := s.heap.size)
  generalize hAe : va_A (qy3 a0 jaX jaF jaD ja7 jby jbe jaM jaY jap jaK jal jam jax jao ja6 jaV ja8 jae jag jaf ja0 ja4 jaP jaw jaI jaZ jaG jaS jan jaU jaE jar jaL jah jaB jaa jaz jaH jab ja2 a0_s jaq jai jaO jaA jat jau jav jaj jas jaJ jak jad jay jac a0_s cyI f0_s) s.heap.size = A at hD ⊢
  have hA : ∀ q : Nat, s.heap.size ≤ q → A q := fun q h => by rw [← hAe]; exact Or.inr h
  have hS : va_S A s.heap s.heap [] := va_S.rf
  have hP : va_P (dC, dI) vwCl (qy3 a0 jaX jaF jaD ja7 jby jbe jaM jaY jap jaK jal jam jax jao ja6 jaV ja8 jae jag jaf ja0 ja4 jaP jaw jaI jaZ jaG jaS jan jaU jaE jar jaL jah jaB jaa jaz jaH jab ja2 a0_s jaq jai jaO jaA jat jau jav jaj jas jaJ jak jad jay jac a0_s cyI f0_s) s.heap := hP
  have hl := lv_entry ([.ref a0, .int p1, .int p2]) (n := 4) (nbq rfl)
  rw [lg_entry_eq]
  generalize (lg_sl ([.ref a0, .int p1, .int p2]) ++ List.replicate (4 - (lg_sl ([.ref a0, .int p1, .int p2])).length) Slot.unset).toArray = ls at hl ⊢
  have hl : lv_has ls 4 [(0, .ref a0), (1, .int p1), (2, .int p2)] := hl
  have C0 : cfx p s m _ meth c cX11_boxes (some .boolean) wsX11_boxes RX11 4 A (dC, dI) (kT cyB cyI cyJ cyP) := ⟨hx, hb, hr, hts, hown, hlocks, hml, hA, hK, hNw⟩
  clear hAe
  obtain ⟨H, hH⟩ : ∃ H, H = s.heap := ⟨_, rfl⟩
  rw [← hH] at hP ⊢
  have hS : va_S A s.heap H [] := by rw [hH]; exact va_S.rf
  have hS := hS
  refine lv_iload_n hx hb (qaa qj8 0 rfl) rfl (lv_at hl 1 rfl) ?_
  refine lv_iload_n hx hb (qaa qj8 1 rfl) rfl (lv_at hl 2 rfl) ?_
  refine lv_icmp_eq (tgt := 32) hx hb (qaa qj8 2 rfl) (by decide) (fun c1 => ?_) (fun c1 => ?_)
  · have hw := hw.1 c1
    refine lv_iconst (v := 0) hx hb (qaa qdF 4 rfl) (by decide) ?_
    exact ((W.zret (v := 0) hx hb hr rfl (fun t ht hW => ⟨⟨0, (f0_s), rfl, hw, by rw [ht]; exact hP, va_K.moved hW.alike hK, hD⟩, hS.F ht⟩) hS.2.2 (qaa qdF 5 rfl)))
  · have hw := hw.2 c1
    refine lv_aload_n hx hb (qaa qj8 3 rfl) rfl (lv_at hl 0 rfl) ?_
    refine lv_iload_n hx hb (qaa qj8 4 rfl) rfl (lv_at hl 1 rfl) ?_
    obtain ⟨hCc, hPc, hDc, hFc⟩ := qac (ws' := (qy3 a0 jaX jaF jaD ja7 jby jbe jaM jaY jap jaK jal jam jax jao ja6 jaV ja8 jae jag jaf ja0 ja4 jaP jaw jaI jaZ jaG jaS jan jaU jaE jar jaL jah jaB jaa jaz jaH jab ja2 a0_s jaq jai jaO jaA jat jau jav jaj jas jaJ jak jad jay jac a0_s cyI f0_s)) hP hD hS hA [0, 1] (by decide +kernel) rfl
    refine va_calli (va_runV (As := [.int p1]) (rest := []) ⟨hx, hb, hml, hown, hts⟩ (qim l dC dI cyB cyI cyJ cyP a0 a0_s H.size (jaX) (jaF) (jaD) (ja7) (jby) (jbe) (jaM) (jaY) (jap) (jaK) (jal) (jam) (jax) (jao) (ja6) (jaV) (ja8) (jae) (jag) (jaf) (ja0) (ja4) (jaP) (jaw) (jaI) (jaZ) (jaG) (jaS) (jan) (jaU) (jaE) (jar) (jaL) (jah) (jaB) (jaa) (jaz) (jaH) (jab) (ja2) (jaq) (jai) (jaO) (jaA) (jat) (jau) (jav) (jaj) (jas) (jaJ) (jak) (jad) (jay) (jac) f0_s p1 hw) (cwV 1 hts gX11_boxes_X11_isCaught rfl rfl rfl (by decide +kernel) ⟨nbq rfl, nbq rfl⟩) ⟨qab, va_recv (q := (RX11, TX11, 55)) hK hPc (ci := 11) (q0 := 0) rfl rfl, qae hPc hK hDc hNw⟩ rfl rfl hl.1 rfl (lv_room (nbq rfl)) (qaa qj8 5 rfl) ⟨nbq rfl, nbq rfl⟩) hS (fun q _ h => hFc q h) hFc (fun r2 u t H1 locs ht hvm hw hB hz1 hk1 hS => ?_)
    obtain ⟨hP1, hK1, hD1⟩ := hB
    rw [ht] at hP1
    obtain ⟨hP, hD⟩ := qah (wr := []) (w1 := (qy3 a0 jaX jaF jaD ja7 jby jbe jaM jaY jap jaK jal jam jax jao ja6 jaV ja8 jae jag jaf ja0 ja4 jaP jaw jaI jaZ jaG jaS jan jaU jaE jar jaL jah jaB jaa jaz jaH jab ja2 a0_s jaq jai jaO jaA jat jau jav jaj jas jaJ jak jad jay jac a0_s cyI f0_s)) (wn := (qy3 a0 jaX jaF jaD ja7 jby jbe jaM jaY jap jaK jal jam jax jao ja6 jaV ja8 jae jag jaf ja0 ja4 jaP jaw jaI jaZ jaG jaS jan jaU jaE jar jaL jah jaB jaa jaz jaH jab ja2 a0_s jaq jai jaO jaA jat jau jav jaj jas jaJ jak jad jay jac a0_s cyI f0_s)) hP hD [0, 1] [] hCc rfl (by decide +kernel) (by decide +kernel) rfl hk1 hFc hP1 hD1
    generalize H1 = H at hP hS ⊢
    refine lv_if_ne (tgt := 32) hx hb (qaa qj8 6 rfl) (by decide) (fun c3 => ?_) (fun c3 => ?_)
    · have hw := hw.1 c3
      refine lv_iconst (v := 0) hx hb (qaa qdF 4 rfl) (by decide) ?_
      exact ((W.zret (v := 0) hx hb hr rfl (fun t ht hW => ⟨⟨0, (f0_s), rfl, hw, by rw [ht]; exact hP, va_K.moved hW.alike hK, hD⟩, hS.F ht⟩) hS.2.2 (qaa qdF 5 rfl)))
    · have hw := hw.2 c3
      refine lv_aload_n hx hb (qaa qj8 7 rfl) rfl (lv_at hl 0 rfl) ?_
      refine va_get (D := (dC, dI)) (ci := 11) (v := .ref a0_s) (C := RX11) (T := TX11) (N := 55) hx hb hts qpo hown hK hP 0 rfl rfl 40 (by decide) (hts _ qpu) (fun _ h9 => h9) rfl (qaa qj8 8 rfl) ?_
      refine lv_iconst (v := 0) hx hb (qaa qj8 9 rfl) (by decide) ?_
      refine lv_iload_n hx hb (qaa qj8 10 rfl) rfl (lv_at hl 1 rfl) ?_
      refine lv_iadd hx hb (qaa qj8 11 rfl) ?_
      refine lv_topi (fun x4 ex4 => ?_)
      have hw := hw x4 ex4
      obtain ⟨hi9, hw⟩ := hw
      refine va_iald hx hb hK hP 1 1 rfl rfl hi9 (qaa qj8 12 rfl) ?_
      refine lv_topi (fun x5 ex5 => ?_)
      have hw := hw x5 ex5
      refine lv_aload_n hx hb (qaa qj8 13 rfl) rfl (lv_at hl 0 rfl) ?_
      refine va_get (D := (dC, dI)) (ci := 11) (v := .ref a0_s) (C := RX11) (T := TX11) (N := 55) hx hb hts qpo hown hK hP 0 rfl rfl 40 (by decide) (hts _ qpu) (fun _ h9 => h9) rfl (qaa qj8 14 rfl) ?_
      refine lv_iconst (v := 0) hx hb (qaa qj8 15 rfl) (by decide) ?_
      refine lv_iload_n hx hb (qaa qdF 0 rfl) rfl (lv_at hl 2 rfl) ?_
      refine lv_iadd hx hb (qaa qdF 1 rfl) ?_
      refine lv_topi (fun x6 ex6 => ?_)
      have hw := hw x6 ex6
      obtain ⟨hi9, hw⟩ := hw
      refine va_iald hx hb hK hP 1 1 rfl rfl hi9 (qaa qdF 2 rfl) ?_
      refine lv_topi (fun x7 ex7 => ?_)
      have hw := hw x7 ex7
      refine lv_icmp_eq (tgt := 34) hx hb (qaa qdF 3 rfl) (by decide) (fun c8 => ?_) (fun c8 => ?_)
      · have hw := hw.1 c8
        refine lv_aload_n hx hb (qaa qdF 6 rfl) rfl (lv_at hl 0 rfl) ?_
        refine va_get (D := (dC, dI)) (ci := 11) (v := .ref a0_s) (C := RX11) (T := TX11) (N := 55) hx hb hts qpo hown hK hP 0 rfl rfl 40 (by decide) (hts _ qpu) (fun _ h9 => h9) rfl (qaa qdF 7 rfl) ?_
        refine lv_bipush (v := 6) hx hb (qaa qdF 8 rfl) (by decide) ?_
        refine lv_iload_n hx hb (qaa qdF 9 rfl) rfl (lv_at hl 2 rfl) ?_
        refine lv_iadd hx hb (qaa qdF 10 rfl) ?_
        refine lv_topi (fun x9 ex9 => ?_)
        have hw := hw x9 ex9
        obtain ⟨hi9, hw⟩ := hw
        refine va_iald hx hb hK hP 1 1 rfl rfl hi9 (qaa qdF 11 rfl) ?_
        refine lv_topi (fun x10 ex10 => ?_)
        have hw := hw x10 ex10
        refine lv_aload_n hx hb (qaa qdF 12 rfl) rfl (lv_at hl 0 rfl) ?_
        refine va_get (D := (dC, dI)) (ci := 11) (v := .ref a0_s) (C := RX11) (T := TX11) (N := 55) hx hb hts qpo hown hK hP 0 rfl rfl 40 (by decide) (hts _ qpu) (fun _ h9 => h9) rfl (qaa qdF 13 rfl) ?_
        refine lv_bipush (v := 6) hx hb (qaa qdF 14 rfl) (by decide) ?_
        refine lv_iload_n hx hb (qaa qdF 15 rfl) rfl (lv_at hl 1 rfl) ?_
        refine lv_iadd hx hb (qaa qgY 0 rfl) ?_
        refine lv_topi (fun x11 ex11 => ?_)
        have hw := hw x11 ex11
        obtain ⟨hi9, hw⟩ := hw
        refine va_iald hx hb hK hP 1 1 rfl rfl hi9 (qaa qgY 1 rfl) ?_
        refine lv_topi (fun x12 ex12 => ?_)
        have hw := hw x12 ex12
        refine lv_icmp_le (tgt := 59) hx hb (qaa qgY 2 rfl) (by decide) (fun c13 => ?_) (fun c13 => ?_)
        · have hw := hw.1 c13
          refine lv_iload_n hx hb (qaa qgY 5 rfl) rfl (lv_at hl 2 rfl) ?_
          exact q31 dC dI cyB cyI cyJ cyP a0 a0_s jaX jaF jaD ja7 jby jbe jaM jaY jap jaK jal jam jax jao ja6 jaV ja8 jae jag jaf ja0 ja4 jaP jaw jaI jaZ jaG jaS jan jaU jaE jar jaL jah jaB jaa jaz jaH jab ja2 jaq jai jaO jaA jat jau jav jaj jas jaJ jak jad jay jac Q C0 _ _ _ f0_s p1 p2 p2 hP hD hS (lv_sub hl [0, 1, 2] rfl) hw
        · have hw := hw.2 c13
          refine lv_iload_n hx hb (qaa qgY 3 rfl) rfl (lv_at hl 1 rfl) ?_
          refine lv_goto (tgt := 60) hx hb (qaa qgY 4 rfl) (by decide) ?_
          exact q31 dC dI cyB cyI cyJ cyP a0 a0_s jaX jaF jaD ja7 jby jbe jaM jaY jap jaK jal jam jax jao ja6 jaV ja8 jae jag jaf ja0 ja4 jaP jaw jaI jaZ jaG jaS jan jaU jaE jar jaL jah jaB jaa jaz jaH jab ja2 jaq jai jaO jaA jat jau jav jaj jas jaJ jak jad jay jac Q C0 _ _ _ f0_s p1 p2 p1 hP hD hS (lv_sub hl [0, 1, 2] rfl) hw
      · have hw := hw.2 c8
        refine lv_iconst (v := 0) hx hb (qaa qdF 4 rfl) (by decide) ?_
        exact ((W.zret (v := 0) hx hb hr rfl (fun t ht hW => ⟨⟨0, (f0_s), rfl, hw, by rw [ht]; exact hP, va_K.moved hW.alike hK, hD⟩, hS.F ht⟩) hS.2.2 (qaa qdF 5 rfl)))
theorem qaiB : ∀ w ∈ u_ws RX11 TX11 55, w ∈ wsX11_isForm := uiM qGb qfa (by decide +kernel)
theorem qaet : (.fieldLink RX11 166 "MarchHaresModel" "forms" "I" : Cond) ∈ wsX11_isForm := qGb 519 (by decide +kernel)
set_option maxHeartbeats 4000000 in
set_option maxRecDepth 100000 in
theorem qDa (l : Launch) (dC : Nat → ClassId) (dI : Nat → Nat → Nat) (cyB cyI cyJ cyP : ClassId) (a0 jaQ sz : Nat) (jaD ja7 jby jbe jaM jaY jap jaK jal jam jax jao ja6 jaV ja8 jae jag jaf ja4 jaP jaw jaI jaZ jaG jaS jan jaU jaE jar jaL jah jaB jaa jaz jaH jab ja2 z0_s jaq jai jaO jaA jat jau jav jaj jas jaJ jak jad jay jac : Value) (jaN jbd : Int32) (ja9 : NI) (p1 p2 : Int32) {Q : Int32 → Int32 → NI → Prop} (hw : qwV jaN jbd ja9 p1 p2 Q) : Met l yX11_isForm wsX11_isForm ({ frames := 1, cells := 0, slots := 0, locals := 23 }) (va_Pc [.ref a0, .int p1, .int p2] (cPc (dC, dI) (kT cyB cyI cyJ cyP) (qZc a0 jbd jaQ jaD ja7 jby jbe jaM jaY jap jaK jal jam jax jao ja6 jaV ja8 jae jag jaf jaN ja4 jaP jaw jaI jaZ jaG jaS jan jaU jaE jar jaL jah jaB jaa jaz jaH jab ja2 z0_s jaq jai jaO jaA jat jau jav jaj jas jaJ jak jad jay jac jaQ cyI ja9) sz)) (va_Qi (fun (r : Int32) (u : Int32 × NI) => Q r u.1 u.2) (cB (dC, dI) (kT cyB cyI cyJ cyP) (va_A (qZc a0 jbd jaQ jaD ja7 jby jbe jaM jaY jap jaK jal jam jax jao ja6 jaV ja8 jae jag jaf jaN ja4 jaP jaw jaI jaZ jaG jaS jan jaU jaE jar jaL jah jaB jaa jaz jaH jab ja2 z0_s jaq jai jaO jaA jat jau jav jaj jas jaJ jak jad jay jac jaQ cyI ja9) sz) (fun u : Int32 × NI => ((qZc a0 u.1 jaQ jaD ja7 jby jbe jaM jaY jap jaK jal jam jax jao ja6 jaV ja8 jae jag jaf jaN ja4 jaP jaw jaI jaZ jaG jaS jan jaU jaE jar jaL jah jaB jaa jaz jaH jab ja2 z0_s jaq jai jaO jaA jat jau jav jaj jas jaJ jak jad jay jac jaQ cyI u.2) : va_W))) (va_A (qZc a0 jbd jaQ jaD ja7 jby jbe jaM jaY jap jaK jal jam jax jao ja6 jaV ja8 jae jag jaf jaN ja4 jaP jaw jaI jaZ jaG jaS jan jaU jaE jar jaL jah jaB jaa jaz jaH jab ja2 z0_s jaq jai jaO jaA jat jau jav jaj jas jaJ jak jad jay jac jaQ cyI ja9) sz)) 0 0 (va_A (qZc a0 jbd jaQ jaD ja7 jby jbe jaM jaY jap jaK jal jam jax jao ja6 jaV ja8 jae jag jaf jaN ja4 jaP jaw jaI jaZ jaG jaS jan jaU jaE jar jaL jah jaB jaa jaz jaH jab ja2 z0_s jaq jai jaO jaA jat jau jav jaj jas jaJ jak jad jay jac jaQ cyI ja9) sz) := by
  refine Met.ofW (cc := cX11_isForm) (maxL := 3) (ret := (some .boolean)) (by decide) rfl ?_
  intro p e s m args below meth c s₁ B hml hv
  obtain ⟨rfl, hsz, hP, hK, hD0, hNw⟩ := hv
  have hx := B.exec
  have hb := B.bytes
  have hr := B.returns
  have hts := atoms_spec (ws := wsX11_isForm) B.pre
  have hown : s.vm.findClass RX11 = some m.cls := findClass_of_methodNamed B.named
  have hlocks := B.notSynchronized
  subst hsz
  have hD := hD0.self (sz := s.heap.size)
  generalize hAe : va_A (qZc a0 jbd jaQ jaD ja7 jby jbe jaM jaY jap jaK jal jam jax jao ja6 jaV ja8 jae jag jaf jaN ja4 jaP jaw jaI jaZ jaG jaS jan jaU jaE jar jaL jah jaB jaa jaz jaH jab ja2 z0_s jaq jai jaO jaA jat jau jav jaj jas jaJ jak jad jay jac jaQ cyI ja9) s.heap.size = A at hD ⊢
  have hA : ∀ q : Nat, s.heap.size ≤ q → A q := fun q h => by rw [← hAe]; exact Or.inr h
  have hS : va_S A s.heap s.heap [] := va_S.rf
  have hP : va_P (dC, dI) vwCl (qZc a0 jbd jaQ jaD ja7 jby jbe jaM jaY jap jaK jal jam jax jao ja6 jaV ja8 jae jag jaf jaN ja4 jaP jaw jaI jaZ jaG jaS jan jaU jaE jar jaL jah jaB jaa jaz jaH jab ja2 z0_s jaq jai jaO jaA jat jau jav jaj jas jaJ jak jad jay jac jaQ cyI ja9) s.heap := hP
  have hl := lv_entry ([.ref a0, .int p1, .int p2]) (n := 3) (nbq rfl)
  rw [lg_entry_eq]
  generalize (lg_sl ([.ref a0, .int p1, .int p2]) ++ List.replicate (3 - (lg_sl ([.ref a0, .int p1, .int p2])).length) Slot.unset).toArray = ls at hl ⊢
  have hl : lv_has ls 3 [(0, .ref a0), (1, .int p1), (2, .int p2)] := hl
  have C0 : cfx p s m _ meth c cX11_isForm (some .boolean) wsX11_isForm RX11 3 A (dC, dI) (kT cyB cyI cyJ cyP) := ⟨hx, hb, hr, hts, hown, hlocks, hml, hA, hK, hNw⟩
  clear hAe
  obtain ⟨H, hH⟩ : ∃ H, H = s.heap := ⟨_, rfl⟩
  rw [← hH] at hP ⊢
  have hS : va_S A s.heap H [] := by rw [hH]; exact va_S.rf
  have hS := hS
  refine lv_aload_n hx hb (qaa qn6 0 rfl) rfl (lv_at hl 0 rfl) ?_
  refine lv_iload_n hx hb (qaa qn6 1 rfl) rfl (lv_at hl 1 rfl) ?_
  refine lv_iconst (v := 0) hx hb (qaa qn6 2 rfl) (by decide) ?_
  refine lv_aload_n hx hb (qaa qn6 3 rfl) rfl (lv_at hl 0 rfl) ?_
  refine va_get (D := (dC, dI)) (ci := 11) (v := .int jaN) (C := RX11) (T := TX11) (N := 55) hx hb hts qaiB hown hK hP 0 rfl rfl 20 (by decide) (hts _ qaet) (fun _ h9 => h9) rfl (qaa qn6 4 rfl) ?_
  refine lv_iconst (v := 1) hx hb (qaa qn6 5 rfl) (by decide) ?_
  refine lv_isub hx hb (qaa qn6 6 rfl) ?_
  obtain ⟨hCc, hPc, hDc, hFc⟩ := qac (ws' := []) hP hD hS hA [] (by decide +kernel) rfl
  refine va_calli (va_runS (As := [.int p1, .int 0, .int (jaN - 1)]) (rest := [.ref a0]) ⟨hx, hb, hml, hown, hts⟩ (qbG l dC dI cyB cyI cyJ cyP H.size p1 0 (jaN - 1) hw) (va_cwS 3 hts gX11_isForm_X11_within rfl rfl rfl (by decide +kernel) ⟨nbq rfl, nbq rfl⟩) ⟨qab, qae hPc hK hDc hNw⟩ rfl rfl hl.1 rfl (lv_room (nbq rfl)) (qaa qn6 7 rfl) ⟨nbq rfl, nbq rfl⟩) hS (fun q _ h => hFc q h) hFc (fun r1 u t H1 locs ht hvm hw hB hz1 hk1 hS => ?_)
  obtain ⟨hP1, hK1, hD1⟩ := hB
  rw [ht] at hP1
  obtain ⟨hP, hD⟩ := qah (wr := (qZc a0 jbd jaQ jaD ja7 jby jbe jaM jaY jap jaK jal jam jax jao ja6 jaV ja8 jae jag jaf jaN ja4 jaP jaw jaI jaZ jaG jaS jan jaU jaE jar jaL jah jaB jaa jaz jaH jab ja2 z0_s jaq jai jaO jaA jat jau jav jaj jas jaJ jak jad jay jac jaQ cyI ja9)) (w1 := []) (wn := (qZc a0 jbd jaQ jaD ja7 jby jbe jaM jaY jap jaK jal jam jax jao ja6 jaV ja8 jae jag jaf jaN ja4 jaP jaw jaI jaZ jaG jaS jan jaU jaE jar jaL jah jaB jaa jaz jaH jab ja2 z0_s jaq jai jaO jaA jat jau jav jaj jas jaJ jak jad jay jac jaQ cyI ja9)) hP hD [] [0, 1] hCc rfl (by decide +kernel) (by decide +kernel) rfl hk1 hFc hP1 hD1
  generalize H1 = H at hP hS ⊢
  refine lv_iload_n hx hb (qaa qn6 8 rfl) rfl (lv_at hl 2 rfl) ?_
  refine lv_iconst (v := 0) hx hb (qaa qn6 9 rfl) (by decide) ?_
  obtain ⟨hCc, hPc, hDc, hFc⟩ := qac (ws' := (qZc a0 jbd jaQ jaD ja7 jby jbe jaM jaY jap jaK jal jam jax jao ja6 jaV ja8 jae jag jaf jaN ja4 jaP jaw jaI jaZ jaG jaS jan jaU jaE jar jaL jah jaB jaa jaz jaH jab ja2 z0_s jaq jai jaO jaA jat jau jav jaj jas jaJ jak jad jay jac jaQ cyI ja9)) hP hD hS hA [0, 1] (by decide +kernel) rfl
  refine va_calli (va_runV (As := [.int r1, .int p2, .int 0]) (rest := []) ⟨hx, hb, hml, hown, hts⟩ (qkF l dC dI cyB cyI cyJ cyP a0 jaQ H.size (jaD) (ja7) (jby) (jbe) (jaM) (jaY) (jap) (jaK) (jal) (jam) (jax) (jao) (ja6) (jaV) (ja8) (jae) (jag) (jaf) (.int jaN) (ja4) (jaP) (jaw) (jaI) (jaZ) (jaG) (jaS) (jan) (jaU) (jaE) (jar) (jaL) (jah) (jaB) (jaa) (jaz) (jaH) (jab) (ja2) (z0_s) (jaq) (jai) (jaO) (jaA) (jat) (jau) (jav) (jaj) (jas) (jaJ) (jak) (jad) (jay) (jac) jbd ja9 r1 p2 0 hw) (cwV 3 hts gX11_isForm_X11_may rfl rfl rfl (by decide +kernel) ⟨nbq rfl, nbq rfl⟩) ⟨qab, va_recv (q := (RX11, TX11, 55)) hK hPc (ci := 11) (q0 := 0) rfl rfl, qae hPc hK hDc hNw⟩ rfl rfl hl.1 rfl (lv_room (nbq rfl)) (qaa qn6 10 rfl) ⟨nbq rfl, nbq rfl⟩) hS (fun q _ h => hFc q h) hFc (fun r4 u t H1 locs ht hvm hw hB hz1 hk1 hS => ?_)
  obtain ⟨x2, f3⟩ := u
  obtain ⟨hP1, hK1, hD1⟩ := hB
  rw [ht] at hP1
  obtain ⟨hP, hD⟩ := qah (wr := []) (w1 := (qZc a0 x2 jaQ jaD ja7 jby jbe jaM jaY jap jaK jal jam jax jao ja6 jaV ja8 jae jag jaf jaN ja4 jaP jaw jaI jaZ jaG jaS jan jaU jaE jar jaL jah jaB jaa jaz jaH jab ja2 z0_s jaq jai jaO jaA jat jau jav jaj jas jaJ jak jad jay jac jaQ cyI f3)) (wn := (qZc a0 x2 jaQ jaD ja7 jby jbe jaM jaY jap jaK jal jam jax jao ja6 jaV ja8 jae jag jaf jaN ja4 jaP jaw jaI jaZ jaG jaS jan jaU jaE jar jaL jah jaB jaa jaz jaH jab ja2 z0_s jaq jai jaO jaA jat jau jav jaj jas jaJ jak jad jay jac jaQ cyI f3)) hP hD [0, 1] [] hCc rfl (by decide +kernel) (by decide +kernel) rfl hk1 hFc hP1 hD1
  generalize H1 = H at hP hS ⊢
  obtain ⟨hn9, hw⟩ := hw
  exact ((W.zret (v := r4) hx hb hr hn9 (fun t ht hW => ⟨⟨r4, (x2, f3), rfl, hw, by rw [ht]; exact hP, va_K.moved hW.alike hK, hD⟩, hS.F ht⟩) hS.2.2 (qaa qn6 11 rfl)))
theorem qEs : ∀ w ∈ u_ws RX11 TX11 55, w ∈ wsX11_farOf := uiM qYa qfa (by decide +kernel)
theorem qEy : (.fieldLink RX11 35 "MarchHaresModel" "form" "[I" : Cond) ∈ wsX11_farOf := qYa 405 (by decide +kernel)
set_option maxHeartbeats 4000000 in
set_option maxRecDepth 100000 in
theorem qvi (l : Launch) (dC : Nat → ClassId) (dI : Nat → Nat → Nat) (cyB cyI cyJ cyP : ClassId) (a0 ja5 sz : Nat) (jaX jaF jaD ja7 jby jbe jaM jaY jap jaK jal jam jax jao jaV ja8 jae jag jaf ja0 ja4 jaP jaw jaI jaZ jaG jaS jan jaU jaE jar jaL jah jaB jaa jaz jaH jab ja2 z0_s jaq jai jaO jaA jat jau jav jaj jas jaJ jak jad jay jac : Value) (jbv : NI) (p1 p2 : Int32) {Q : Int32 → Prop} (hw : qqm jbv p1 p2 Q) : Met l yX11_farOf wsX11_farOf ({ frames := 1, cells := 0, slots := 0, locals := 20 }) (va_Pc [.ref a0, .int p1, .int p2] (cPc (dC, dI) (kT cyB cyI cyJ cyP) (q4K a0 jaX jaF jaD ja7 jby jbe jaM jaY jap jaK jal jam jax jao ja5 jaV ja8 jae jag jaf ja0 ja4 jaP jaw jaI jaZ jaG jaS jan jaU jaE jar jaL jah jaB jaa jaz jaH jab ja2 z0_s jaq jai jaO jaA jat jau jav jaj jas jaJ jak jad jay jac ja5 cyI jbv) sz)) (va_Qi (fun (r : Int32) (_ : Unit) => Q r ) (cB (dC, dI) (kT cyB cyI cyJ cyP) (va_A (q4K a0 jaX jaF jaD ja7 jby jbe jaM jaY jap jaK jal jam jax jao ja5 jaV ja8 jae jag jaf ja0 ja4 jaP jaw jaI jaZ jaG jaS jan jaU jaE jar jaL jah jaB jaa jaz jaH jab ja2 z0_s jaq jai jaO jaA jat jau jav jaj jas jaJ jak jad jay jac ja5 cyI jbv) sz) (fun u : Unit => ((q4K a0 jaX jaF jaD ja7 jby jbe jaM jaY jap jaK jal jam jax jao ja5 jaV ja8 jae jag jaf ja0 ja4 jaP jaw jaI jaZ jaG jaS jan jaU jaE jar jaL jah jaB jaa jaz jaH jab ja2 z0_s jaq jai jaO jaA jat jau jav jaj jas jaJ jak jad jay jac ja5 cyI jbv) : va_W))) (va_A (q4K a0 jaX jaF jaD ja7 jby jbe jaM jaY jap jaK jal jam jax jao ja5 jaV ja8 jae jag jaf ja0 ja4 jaP jaw jaI jaZ jaG jaS jan jaU jaE jar jaL jah jaB jaa jaz jaH jab ja2 z0_s jaq jai jaO jaA jat jau jav jaj jas jaJ jak jad jay jac ja5 cyI jbv) sz)) 0 0 (va_A (q4K a0 jaX jaF jaD ja7 jby jbe jaM jaY jap jaK jal jam jax jao ja5 jaV ja8 jae jag jaf ja0 ja4 jaP jaw jaI jaZ jaG jaS jan jaU jaE jar jaL jah jaB jaa jaz jaH jab ja2 z0_s jaq jai jaO jaA jat jau jav jaj jas jaJ jak jad jay jac ja5 cyI jbv) sz) := by
  refine Met.ofW (cc := cX11_farOf) (maxL := 3) (ret := (some .int)) (by decide) rfl ?_
  intro p e s m args below meth c s₁ B hml hv
  obtain ⟨rfl, hsz, hP, hK, hD0, hNw⟩ := hv
  have hx := B.exec
  have hb := B.bytes
  have hr := B.returns
  have hts := atoms_spec (ws := wsX11_farOf) B.pre
  have hown : s.vm.findClass RX11 = some m.cls := findClass_of_methodNamed B.named
  have hlocks := B.notSynchronized
  subst hsz
  have hD := hD0.self (sz := s.heap.size)
  generalize hAe : va_A (q4K a0 jaX jaF jaD ja7 jby jbe jaM jaY jap jaK jal jam jax jao ja5 jaV ja8 jae jag jaf ja0 ja4 jaP jaw jaI jaZ jaG jaS jan jaU jaE jar jaL jah jaB jaa jaz jaH jab ja2 z0_s jaq jai jaO jaA jat jau jav jaj jas jaJ jak jad jay jac ja5 cyI jbv) s.heap.size = A at hD ⊢
  have hA : ∀ q : Nat, s.heap.size ≤ q → A q := fun q h => by rw [← hAe]; exact Or.inr h
  have hS : va_S A s.heap s.heap [] := va_S.rf
  have hP : va_P (dC, dI) vwCl (q4K a0 jaX jaF jaD ja7 jby jbe jaM jaY jap jaK jal jam jax jao ja5 jaV ja8 jae jag jaf ja0 ja4 jaP jaw jaI jaZ jaG jaS jan jaU jaE jar jaL jah jaB jaa jaz jaH jab ja2 z0_s jaq jai jaO jaA jat jau jav jaj jas jaJ jak jad jay jac ja5 cyI jbv) s.heap := hP
  have hl := lv_entry ([.ref a0, .int p1, .int p2]) (n := 3) (nbq rfl)
  rw [lg_entry_eq]
  generalize (lg_sl ([.ref a0, .int p1, .int p2]) ++ List.replicate (3 - (lg_sl ([.ref a0, .int p1, .int p2])).length) Slot.unset).toArray = ls at hl ⊢
  have hl : lv_has ls 3 [(0, .ref a0), (1, .int p1), (2, .int p2)] := hl
  have C0 : cfx p s m _ meth c cX11_farOf (some .int) wsX11_farOf RX11 3 A (dC, dI) (kT cyB cyI cyJ cyP) := ⟨hx, hb, hr, hts, hown, hlocks, hml, hA, hK, hNw⟩
  clear hAe
  obtain ⟨H, hH⟩ : ∃ H, H = s.heap := ⟨_, rfl⟩
  rw [← hH] at hP ⊢
  have hS : va_S A s.heap H [] := by rw [hH]; exact va_S.rf
  have hS := hS
  refine lv_aload_n hx hb (qaa qiD 0 rfl) rfl (lv_at hl 0 rfl) ?_
  refine va_get (D := (dC, dI)) (ci := 11) (v := .ref ja5) (C := RX11) (T := TX11) (N := 55) hx hb hts qEs hown hK hP 0 rfl rfl 14 (by decide) (hts _ qEy) (fun _ h9 => h9) rfl (qaa qiD 1 rfl) ?_
  refine lv_iconst (v := 2) hx hb (qaa qiD 2 rfl) (by decide) ?_
  refine lv_iload_n hx hb (qaa qiD 3 rfl) rfl (lv_at hl 1 rfl) ?_
  refine lv_imul hx hb (qaa qiD 4 rfl) ?_
  refine lv_topi (fun x1 ex1 => ?_)
  have hw := hw x1 ex1
  obtain ⟨hi9, hw⟩ := hw
  refine va_iald hx hb hK hP 1 1 rfl rfl hi9 (qaa qiD 5 rfl) ?_
  refine lv_topi (fun x2 ex2 => ?_)
  have hw := hw x2 ex2
  refine lv_aload_n hx hb (qaa qiD 6 rfl) rfl (lv_at hl 0 rfl) ?_
  refine va_get (D := (dC, dI)) (ci := 11) (v := .ref ja5) (C := RX11) (T := TX11) (N := 55) hx hb hts qEs hown hK hP 0 rfl rfl 14 (by decide) (hts _ qEy) (fun _ h9 => h9) rfl (qaa qiD 7 rfl) ?_
  refine lv_iconst (v := 2) hx hb (qaa qiD 8 rfl) (by decide) ?_
  refine lv_iload_n hx hb (qaa qiD 9 rfl) rfl (lv_at hl 2 rfl) ?_
  refine lv_imul hx hb (qaa qiD 10 rfl) ?_
  refine lv_topi (fun x3 ex3 => ?_)
  have hw := hw x3 ex3
  obtain ⟨hi9, hw⟩ := hw
  refine va_iald hx hb hK hP 1 1 rfl rfl hi9 (qaa qiD 11 rfl) ?_
  refine lv_topi (fun x4 ex4 => ?_)
  have hw := hw x4 ex4
  refine lv_isub hx hb (qaa qiD 12 rfl) ?_
  obtain ⟨hCc, hPc, hDc, hFc⟩ := qac (ws' := []) hP hD hS hA [] (by decide +kernel) rfl
  refine va_calli (va_runS (As := [.int (x2 - x4)]) (rest := []) ⟨hx, hb, hml, hown, hts⟩ (qXy l dC dI cyB cyI cyJ cyP H.size (x2 - x4) hw) (va_cwS 1 hts gX11_farOf_X11_size rfl rfl rfl (by decide +kernel) ⟨nbq rfl, nbq rfl⟩) ⟨qab, qae hPc hK hDc hNw⟩ rfl rfl hl.1 rfl (lv_room (nbq rfl)) (qaa qiD 13 rfl) ⟨nbq rfl, nbq rfl⟩) hS (fun q _ h => hFc q h) hFc (fun r5 u t H1 locs ht hvm hw hB hz1 hk1 hS => ?_)
  obtain ⟨hP1, hK1, hD1⟩ := hB
  rw [ht] at hP1
  obtain ⟨hP, hD⟩ := qah (wr := (q4K a0 jaX jaF jaD ja7 jby jbe jaM jaY jap jaK jal jam jax jao ja5 jaV ja8 jae jag jaf ja0 ja4 jaP jaw jaI jaZ jaG jaS jan jaU jaE jar jaL jah jaB jaa jaz jaH jab ja2 z0_s jaq jai jaO jaA jat jau jav jaj jas jaJ jak jad jay jac ja5 cyI jbv)) (w1 := []) (wn := (q4K a0 jaX jaF jaD ja7 jby jbe jaM jaY jap jaK jal jam jax jao ja5 jaV ja8 jae jag jaf ja0 ja4 jaP jaw jaI jaZ jaG jaS jan jaU jaE jar jaL jah jaB jaa jaz jaH jab ja2 z0_s jaq jai jaO jaA jat jau jav jaj jas jaJ jak jad jay jac ja5 cyI jbv)) hP hD [] [0, 1] hCc rfl (by decide +kernel) (by decide +kernel) rfl hk1 hFc hP1 hD1
  generalize H1 = H at hP hS ⊢
  refine lv_aload_n hx hb (qaa qiD 14 rfl) rfl (lv_at hl 0 rfl) ?_
  refine va_get (D := (dC, dI)) (ci := 11) (v := .ref ja5) (C := RX11) (T := TX11) (N := 55) hx hb hts qEs hown hK hP 0 rfl rfl 14 (by decide) (hts _ qEy) (fun _ h9 => h9) rfl (qaa qiD 15 rfl) ?_
  refine lv_iconst (v := 2) hx hb (qaa qgH 0 rfl) (by decide) ?_
  refine lv_iload_n hx hb (qaa qgH 1 rfl) rfl (lv_at hl 1 rfl) ?_
  refine lv_imul hx hb (qaa qgH 2 rfl) ?_
  refine lv_topi (fun x6 ex6 => ?_)
  have hw := hw x6 ex6
  refine lv_iconst (v := 1) hx hb (qaa qgH 3 rfl) (by decide) ?_
  refine lv_iadd hx hb (qaa qgH 4 rfl) ?_
  refine lv_topi (fun x7 ex7 => ?_)
  have hw := hw x7 ex7
  obtain ⟨hi9, hw⟩ := hw
  refine va_iald hx hb hK hP 1 1 rfl rfl hi9 (qaa qgH 5 rfl) ?_
  refine lv_topi (fun x8 ex8 => ?_)
  have hw := hw x8 ex8
  refine lv_aload_n hx hb (qaa qgH 6 rfl) rfl (lv_at hl 0 rfl) ?_
  refine va_get (D := (dC, dI)) (ci := 11) (v := .ref ja5) (C := RX11) (T := TX11) (N := 55) hx hb hts qEs hown hK hP 0 rfl rfl 14 (by decide) (hts _ qEy) (fun _ h9 => h9) rfl (qaa qgH 7 rfl) ?_
  refine lv_iconst (v := 2) hx hb (qaa qgH 8 rfl) (by decide) ?_
  refine lv_iload_n hx hb (qaa qgH 9 rfl) rfl (lv_at hl 2 rfl) ?_
  refine lv_imul hx hb (qaa qgH 10 rfl) ?_
  refine lv_topi (fun x9 ex9 => ?_)
  have hw := hw x9 ex9
  refine lv_iconst (v := 1) hx hb (qaa qgH 11 rfl) (by decide) ?_
  refine lv_iadd hx hb (qaa qgH 12 rfl) ?_
  refine lv_topi (fun x10 ex10 => ?_)
  have hw := hw x10 ex10
  obtain ⟨hi9, hw⟩ := hw
  refine va_iald hx hb hK hP 1 1 rfl rfl hi9 (qaa qgH 13 rfl) ?_
  refine lv_topi (fun x11 ex11 => ?_)
  have hw := hw x11 ex11
  refine lv_isub hx hb (qaa qgH 14 rfl) ?_
  obtain ⟨hCc, hPc, hDc, hFc⟩ := qac (ws' := []) hP hD hS hA [] (by decide +kernel) rfl
  refine va_calli (va_runS (As := [.int (x8 - x11)]) (rest := [.int r5]) ⟨hx, hb, hml, hown, hts⟩ (qXy l dC dI cyB cyI cyJ cyP H.size (x8 - x11) hw) (va_cwS 1 hts gX11_farOf_X11_size rfl rfl rfl (by decide +kernel) ⟨nbq rfl, nbq rfl⟩) ⟨qab, qae hPc hK hDc hNw⟩ rfl rfl hl.1 rfl (lv_room (nbq rfl)) (qaa qgH 15 rfl) ⟨nbq rfl, nbq rfl⟩) hS (fun q _ h => hFc q h) hFc (fun r12 u t H1 locs ht hvm hw hB hz1 hk1 hS => ?_)
  obtain ⟨hP1, hK1, hD1⟩ := hB
  rw [ht] at hP1
  obtain ⟨hP, hD⟩ := qah (wr := (q4K a0 jaX jaF jaD ja7 jby jbe jaM jaY jap jaK jal jam jax jao ja5 jaV ja8 jae jag jaf ja0 ja4 jaP jaw jaI jaZ jaG jaS jan jaU jaE jar jaL jah jaB jaa jaz jaH jab ja2 z0_s jaq jai jaO jaA jat jau jav jaj jas jaJ jak jad jay jac ja5 cyI jbv)) (w1 := []) (wn := (q4K a0 jaX jaF jaD ja7 jby jbe jaM jaY jap jaK jal jam jax jao ja5 jaV ja8 jae jag jaf ja0 ja4 jaP jaw jaI jaZ jaG jaS jan jaU jaE jar jaL jah jaB jaa jaz jaH jab ja2 z0_s jaq jai jaO jaA jat jau jav jaj jas jaJ jak jad jay jac ja5 cyI jbv)) hP hD [] [0, 1] hCc rfl (by decide +kernel) (by decide +kernel) rfl hk1 hFc hP1 hD1
  generalize H1 = H at hP hS ⊢
  refine lv_iadd hx hb (qaa q2B 0 rfl) ?_
  exact ((W.iret (v := (r5 + r12)) hx hb hr (fun t ht hW => ⟨⟨(r5 + r12), (), rfl, hw, by rw [ht]; exact hP, va_K.moved hW.alike hK, hD⟩, hS.F ht⟩) hS.2.2 (qaa q2B 1 rfl)))
theorem q0Y : ∀ w ∈ u_ws RX11 TX11 55, w ∈ wsX11_owes := uiM qamm qfa (by decide +kernel)
theorem qar4 : (.fieldLink RX11 169 "MarchHaresModel" "hares" "I" : Cond) ∈ wsX11_owes := qamm 520 (by decide +kernel)
theorem qaxE : (.fieldLink RX11 71 "MarchHaresModel" "s" "[I" : Cond) ∈ wsX11_owes := qamm 457 (by decide +kernel)
set_option maxHeartbeats 4000000 in
set_option maxRecDepth 100000 in
theorem qaQx {p : Program} {l : Launch} {e : Env} {s : State} {m : MethodId} {args : Array Value} {below : List Frame} {meth : Method} {c : Code} {A : Nat → Prop} (dC : Nat → ClassId) (dI : Nat → Nat → Nat) (cyB cyI cyJ cyP : ClassId) (a0 a0_s : Nat) (jaX jaF jaD ja7 jby jbe jaM jaY jap jaK jal jam jax jao ja6 jaV ja8 jae jag jaf ja0 jaP jaw jaI jaZ jaG jaS jan jaU jaE jar jaL jah jaB jaa jaz jaH jab ja2 jaq jai jaO jaA jat jau jav jaj jas jaJ jak jad jay jac : Value) (jaC : Int32) (f0_s : NI) (Q : Int32 → Prop) (C0 : cfx p s m args meth c cX11_owes (some .int) wsX11_owes RX11 4 A (dC, dI) (kT cyB cyI cyJ cyP)) : ∀ (n : Nat) (H : Heap) (locs : List Loc) (ls : Array Slot) (l1 l2 l3 : Int32), va_P (dC, dI) vwCl (qtw a0 jaX jaF jaD ja7 jby jbe jaM jaY jap jaK jal jam jax jao ja6 jaV ja8 jae jag jaf ja0 jaC jaP jaw jaI jaZ jaG jaS jan jaU jaE jar jaL jah jaB jaa jaz jaH jab ja2 a0_s jaq jai jaO jaA jat jau jav jaj jas jaJ jak jad jay jac a0_s cyI f0_s) H → va_D A (qtw a0 jaX jaF jaD ja7 jby jbe jaM jaY jap jaK jal jam jax jao ja6 jaV ja8 jae jag jaf ja0 jaC jaP jaw jaI jaZ jaG jaS jan jaU jaE jar jaL jah jaB jaa jaz jaH jab ja2 a0_s jaq jai jaO jaA jat jau jav jaj jas jaJ jak jad jay jac a0_s cyI f0_s) → va_S A s.heap H locs → lv_has ls 4 [(0, .ref a0), (1, .int l1), (2, .int l2), (3, .int l3)] → qII jaC f0_s Q n l1 l2 l3 → W p l e (headSpec wsX11_owes ({ frames := 0, cells := 0, slots := 0, locals := 0 })).room s m args below meth c H locs 0 0 (MQ below (va_Qi (fun (r : Int32) (_ : Unit) => Q r ) (cB (dC, dI) (kT cyB cyI cyJ cyP) A (fun u : Unit => ((qtw a0 jaX jaF jaD ja7 jby jbe jaM jaY jap jaK jal jam jax jao ja6 jaV ja8 jae jag jaf ja0 jaC jaP jaw jaI jaZ jaG jaS jan jaU jaE jar jaL jah jaB jaa jaz jaH jab ja2 a0_s jaq jai jaO jaA jat jau jav jaj jas jaJ jak jad jay jac a0_s cyI f0_s) : va_W))) A) args s 0 0 A) (F0 m 4 ls []) := by
  obtain ⟨hx, hb, hr, hts, hown, hlocks, hml, hA, hK, hNw⟩ := id C0
  intro n
  induction n with
  | zero => intro H locs ls l1 l2 l3 hP hD hS hl hw; exact False.elim hw
  | succ n ih =>
    intro H locs ls l1 l2 l3 hP hD hS hl hw
    refine lv_iload_n hx hb (qaa qlV 4 rfl) rfl (lv_at hl 3 rfl) ?_
    refine lv_aload_n hx hb (qaa qlV 5 rfl) rfl (lv_at hl 0 rfl) ?_
    refine va_get (D := (dC, dI)) (ci := 11) (v := .int jaC) (C := RX11) (T := TX11) (N := 55) hx hb hts q0Y hown hK hP 0 rfl rfl 21 (by decide) (hts _ qar4) (fun _ h9 => h9) rfl (qaa qlV 6 rfl) ?_
    refine lv_icmp_ge (tgt := 35) hx hb (qaa qlV 7 rfl) (by decide) (fun c1 => ?_) (fun c1 => ?_)
    · have hw := hw.1 c1
      refine lv_iload_n hx hb (qaa qtQ 7 rfl) rfl (lv_at hl 2 rfl) ?_
      exact ((W.iret (v := l2) hx hb hr (fun t ht hW => ⟨⟨l2, (), rfl, hw, by rw [ht]; exact hP, va_K.moved hW.alike hK, hD⟩, hS.F ht⟩) hS.2.2 (qaa qtQ 8 rfl)))
    · have hw := hw.2 c1
      refine lv_iload_n hx hb (qaa qlV 8 rfl) rfl (lv_at hl 2 rfl) ?_
      refine lv_aload_n hx hb (qaa qlV 9 rfl) rfl (lv_at hl 0 rfl) ?_
      refine va_get (D := (dC, dI)) (ci := 11) (v := .ref a0_s) (C := RX11) (T := TX11) (N := 55) hx hb hts q0Y hown hK hP 0 rfl rfl 40 (by decide) (hts _ qaxE) (fun _ h9 => h9) rfl (qaa qlV 10 rfl) ?_
      refine lv_bipush (v := 30) hx hb (qaa qlV 11 rfl) (by decide) ?_
      refine lv_bipush (v := 6) hx hb (qaa qlV 12 rfl) (by decide) ?_
      refine lv_iload_n hx hb (qaa qlV 13 rfl) rfl (lv_at hl 1 rfl) ?_
      refine lv_imul hx hb (qaa qlV 14 rfl) ?_
      refine lv_iadd hx hb (qaa qlV 15 rfl) ?_
      refine lv_topi (fun x2 ex2 => ?_)
      have hw := hw x2 ex2
      refine lv_iload_n hx hb (qaa qtQ 0 rfl) rfl (lv_at hl 3 rfl) ?_
      refine lv_iadd hx hb (qaa qtQ 1 rfl) ?_
      refine lv_topi (fun x3 ex3 => ?_)
      have hw := hw x3 ex3
      obtain ⟨hi9, hw⟩ := hw
      refine va_iald hx hb hK hP 1 1 rfl rfl hi9 (qaa qtQ 2 rfl) ?_
      refine lv_topi (fun x4 ex4 => ?_)
      have hw := hw x4 ex4
      refine lv_iadd hx hb (qaa qtQ 3 rfl) ?_
      refine lv_topi (fun x5 ex5 => ?_)
      have hw := hw x5 ex5
      refine lv_istore_n (lv' := [(2, .int x5), (0, .ref a0), (1, .int l1), (3, .int l3)]) hx hb (qaa qtQ 4 rfl) rfl hl (by decide) rfl (fun ls hl => ?_)
      obtain ⟨x6, ex6⟩ : ∃ y : Int32, y = l3 + 1 := ⟨_, rfl⟩
      have hw := hw x6 ex6
      refine lv_iinc (v := x6) (lv' := [(3, .int x6), (2, .int x5), (0, .ref a0), (1, .int l1)]) hx hb (qaa qtQ 5 rfl) hl (k := 3) rfl (by rw [ex6]; rfl) (by decide) rfl (fun ls hl => ?_)
      refine lv_goto (tgt := 4) hx hb (qaa qtQ 6 rfl) (by decide) ?_
      exact ih _ _ _ l1 x5 x6 hP hD hS (lv_sub hl [2, 3, 1, 0] rfl) hw
set_option maxHeartbeats 4000000 in
set_option maxRecDepth 100000 in
theorem qaCg (l : Launch) (dC : Nat → ClassId) (dI : Nat → Nat → Nat) (cyB cyI cyJ cyP : ClassId) (a0 a0_s sz : Nat) (jaX jaF jaD ja7 jby jbe jaM jaY jap jaK jal jam jax jao ja6 jaV ja8 jae jag jaf ja0 jaP jaw jaI jaZ jaG jaS jan jaU jaE jar jaL jah jaB jaa jaz jaH jab ja2 jaq jai jaO jaA jat jau jav jaj jas jaJ jak jad jay jac : Value) (jaC : Int32) (f0_s : NI) (p1 : Int32) {Q : Int32 → Prop} (hw : qO3 jaC f0_s p1 Q) : Met l yX11_owes wsX11_owes ({ frames := 0, cells := 0, slots := 0, locals := 0 }) (va_Pc [.ref a0, .int p1] (cPc (dC, dI) (kT cyB cyI cyJ cyP) (qtw a0 jaX jaF jaD ja7 jby jbe jaM jaY jap jaK jal jam jax jao ja6 jaV ja8 jae jag jaf ja0 jaC jaP jaw jaI jaZ jaG jaS jan jaU jaE jar jaL jah jaB jaa jaz jaH jab ja2 a0_s jaq jai jaO jaA jat jau jav jaj jas jaJ jak jad jay jac a0_s cyI f0_s) sz)) (va_Qi (fun (r : Int32) (_ : Unit) => Q r ) (cB (dC, dI) (kT cyB cyI cyJ cyP) (va_A (qtw a0 jaX jaF jaD ja7 jby jbe jaM jaY jap jaK jal jam jax jao ja6 jaV ja8 jae jag jaf ja0 jaC jaP jaw jaI jaZ jaG jaS jan jaU jaE jar jaL jah jaB jaa jaz jaH jab ja2 a0_s jaq jai jaO jaA jat jau jav jaj jas jaJ jak jad jay jac a0_s cyI f0_s) sz) (fun u : Unit => ((qtw a0 jaX jaF jaD ja7 jby jbe jaM jaY jap jaK jal jam jax jao ja6 jaV ja8 jae jag jaf ja0 jaC jaP jaw jaI jaZ jaG jaS jan jaU jaE jar jaL jah jaB jaa jaz jaH jab ja2 a0_s jaq jai jaO jaA jat jau jav jaj jas jaJ jak jad jay jac a0_s cyI f0_s) : va_W))) (va_A (qtw a0 jaX jaF jaD ja7 jby jbe jaM jaY jap jaK jal jam jax jao ja6 jaV ja8 jae jag jaf ja0 jaC jaP jaw jaI jaZ jaG jaS jan jaU jaE jar jaL jah jaB jaa jaz jaH jab ja2 a0_s jaq jai jaO jaA jat jau jav jaj jas jaJ jak jad jay jac a0_s cyI f0_s) sz)) 0 0 (va_A (qtw a0 jaX jaF jaD ja7 jby jbe jaM jaY jap jaK jal jam jax jao ja6 jaV ja8 jae jag jaf ja0 jaC jaP jaw jaI jaZ jaG jaS jan jaU jaE jar jaL jah jaB jaa jaz jaH jab ja2 a0_s jaq jai jaO jaA jat jau jav jaj jas jaJ jak jad jay jac a0_s cyI f0_s) sz) := by
  refine Met.ofW (cc := cX11_owes) (maxL := 4) (ret := (some .int)) (by decide) rfl ?_
  intro p e s m args below meth c s₁ B hml hv
  obtain ⟨rfl, hsz, hP, hK, hD0, hNw⟩ := hv
  have hx := B.exec
  have hb := B.bytes
  have hr := B.returns
  have hts := atoms_spec (ws := wsX11_owes) B.pre
  have hown : s.vm.findClass RX11 = some m.cls := findClass_of_methodNamed B.named
  have hlocks := B.notSynchronized
  subst hsz
  have hD := hD0.self (sz := s.heap.size)
  generalize hAe : va_A (qtw a0 jaX jaF jaD ja7 jby jbe jaM jaY jap jaK jal jam jax jao ja6 jaV ja8 jae jag jaf ja0 jaC jaP jaw jaI jaZ jaG jaS jan jaU jaE jar jaL jah jaB jaa jaz jaH jab ja2 a0_s jaq jai jaO jaA jat jau jav jaj jas jaJ jak jad jay jac a0_s cyI f0_s) s.heap.size = A at hD ⊢
  have hA : ∀ q : Nat, s.heap.size ≤ q → A q := fun q h => by rw [← hAe]; exact Or.inr h
  have hS : va_S A s.heap s.heap [] := va_S.rf
  have hP : va_P (dC, dI) vwCl (qtw a0 jaX jaF jaD ja7 jby jbe jaM jaY jap jaK jal jam jax jao ja6 jaV ja8 jae jag jaf ja0 jaC jaP jaw jaI jaZ jaG jaS jan jaU jaE jar jaL jah jaB jaa jaz jaH jab ja2 a0_s jaq jai jaO jaA jat jau jav jaj jas jaJ jak jad jay jac a0_s cyI f0_s) s.heap := hP
  have hl := lv_entry ([.ref a0, .int p1]) (n := 4) (nbq rfl)
  rw [lg_entry_eq]
  generalize (lg_sl ([.ref a0, .int p1]) ++ List.replicate (4 - (lg_sl ([.ref a0, .int p1])).length) Slot.unset).toArray = ls at hl ⊢
  have hl : lv_has ls 4 [(0, .ref a0), (1, .int p1)] := hl
  have C0 : cfx p s m _ meth c cX11_owes (some .int) wsX11_owes RX11 4 A (dC, dI) (kT cyB cyI cyJ cyP) := ⟨hx, hb, hr, hts, hown, hlocks, hml, hA, hK, hNw⟩
  clear hAe
  obtain ⟨H, hH⟩ : ∃ H, H = s.heap := ⟨_, rfl⟩
  rw [← hH] at hP ⊢
  have hS : va_S A s.heap H [] := by rw [hH]; exact va_S.rf
  have hS := hS
  refine lv_iconst (v := 0) hx hb (qaa qlV 0 rfl) (by decide) ?_
  refine lv_istore_n (lv' := [(2, .int 0), (0, .ref a0), (1, .int p1)]) hx hb (qaa qlV 1 rfl) rfl hl (by decide) rfl (fun ls hl => ?_)
  refine lv_iconst (v := 0) hx hb (qaa qlV 2 rfl) (by decide) ?_
  refine lv_istore_n (lv' := [(3, .int 0), (2, .int 0), (0, .ref a0), (1, .int p1)]) hx hb (qaa qlV 3 rfl) rfl hl (by decide) rfl (fun ls hl => ?_)
  obtain ⟨n9, hw⟩ := hw
  exact qaQx dC dI cyB cyI cyJ cyP a0 a0_s jaX jaF jaD ja7 jby jbe jaM jaY jap jaK jal jam jax jao ja6 jaV ja8 jae jag jaf ja0 jaP jaw jaI jaZ jaG jaS jan jaU jaE jar jaL jah jaB jaa jaz jaH jab ja2 jaq jai jaO jaA jat jau jav jaj jas jaJ jak jad jay jac jaC f0_s Q C0 n9 _ _ _ p1 0 0 hP hD hS (lv_sub hl [2, 3, 1, 0] rfl) hw
theorem qUW : ∀ w ∈ u_ws RX11 TX11 55, w ∈ wsX11_isOwed := uiM q3A qfa (by decide +kernel)
theorem qac8 : (.fieldLink RX11 169 "MarchHaresModel" "hares" "I" : Cond) ∈ wsX11_isOwed := q3A 520 (by decide +kernel)
theorem qajS : (.fieldLink RX11 71 "MarchHaresModel" "s" "[I" : Cond) ∈ wsX11_isOwed := q3A 457 (by decide +kernel)
set_option maxHeartbeats 4000000 in
set_option maxRecDepth 100000 in
theorem qazC {p : Program} {l : Launch} {e : Env} {s : State} {m : MethodId} {args : Array Value} {below : List Frame} {meth : Method} {c : Code} {A : Nat → Prop} (dC : Nat → ClassId) (dI : Nat → Nat → Nat) (cyB cyI cyJ cyP : ClassId) (a0 a0_s : Nat) (jaX jaF jaD ja7 jby jbe jaM jaY jap jaK jal jam jax jao ja6 jaV ja8 jae jag jaf ja0 jaP jaw jaI jaZ jaG jaS jan jaU jaE jar jaL jah jaB jaa jaz jaH jab ja2 jaq jai jaO jaA jat jau jav jaj jas jaJ jak jad jay jac : Value) (jaC : Int32) (f0_s : NI) (Q : Int32 → Prop) (C0 : cfx p s m args meth c cX11_isOwed (some .int) wsX11_isOwed RX11 4 A (dC, dI) (kT cyB cyI cyJ cyP)) : ∀ (n : Nat) (H : Heap) (locs : List Loc) (ls : Array Slot) (l1 l2 l3 : Int32), va_P (dC, dI) vwCl (qtw a0 jaX jaF jaD ja7 jby jbe jaM jaY jap jaK jal jam jax jao ja6 jaV ja8 jae jag jaf ja0 jaC jaP jaw jaI jaZ jaG jaS jan jaU jaE jar jaL jah jaB jaa jaz jaH jab ja2 a0_s jaq jai jaO jaA jat jau jav jaj jas jaJ jak jad jay jac a0_s cyI f0_s) H → va_D A (qtw a0 jaX jaF jaD ja7 jby jbe jaM jaY jap jaK jal jam jax jao ja6 jaV ja8 jae jag jaf ja0 jaC jaP jaw jaI jaZ jaG jaS jan jaU jaE jar jaL jah jaB jaa jaz jaH jab ja2 a0_s jaq jai jaO jaA jat jau jav jaj jas jaJ jak jad jay jac a0_s cyI f0_s) → va_S A s.heap H locs → lv_has ls 4 [(0, .ref a0), (1, .int l1), (2, .int l2), (3, .int l3)] → qB3 jaC f0_s Q n l1 l2 l3 → W p l e (headSpec wsX11_isOwed ({ frames := 0, cells := 0, slots := 0, locals := 0 })).room s m args below meth c H locs 0 0 (MQ below (va_Qi (fun (r : Int32) (_ : Unit) => Q r ) (cB (dC, dI) (kT cyB cyI cyJ cyP) A (fun u : Unit => ((qtw a0 jaX jaF jaD ja7 jby jbe jaM jaY jap jaK jal jam jax jao ja6 jaV ja8 jae jag jaf ja0 jaC jaP jaw jaI jaZ jaG jaS jan jaU jaE jar jaL jah jaB jaa jaz jaH jab ja2 a0_s jaq jai jaO jaA jat jau jav jaj jas jaJ jak jad jay jac a0_s cyI f0_s) : va_W))) A) args s 0 0 A) (F0 m 4 ls []) := by
  obtain ⟨hx, hb, hr, hts, hown, hlocks, hml, hA, hK, hNw⟩ := id C0
  intro n
  induction n with
  | zero => intro H locs ls l1 l2 l3 hP hD hS hl hw; exact False.elim hw
  | succ n ih =>
    intro H locs ls l1 l2 l3 hP hD hS hl hw
    refine lv_iload_n hx hb (qaa qgZ 4 rfl) rfl (lv_at hl 3 rfl) ?_
    refine lv_aload_n hx hb (qaa qgZ 5 rfl) rfl (lv_at hl 0 rfl) ?_
    refine va_get (D := (dC, dI)) (ci := 11) (v := .int jaC) (C := RX11) (T := TX11) (N := 55) hx hb hts qUW hown hK hP 0 rfl rfl 21 (by decide) (hts _ qac8) (fun _ h9 => h9) rfl (qaa qgZ 6 rfl) ?_
    refine lv_icmp_ge (tgt := 35) hx hb (qaa qgZ 7 rfl) (by decide) (fun c1 => ?_) (fun c1 => ?_)
    · have hw := hw.1 c1
      refine lv_iload_n hx hb (qaa qqV 7 rfl) rfl (lv_at hl 2 rfl) ?_
      exact ((W.iret (v := l2) hx hb hr (fun t ht hW => ⟨⟨l2, (), rfl, hw, by rw [ht]; exact hP, va_K.moved hW.alike hK, hD⟩, hS.F ht⟩) hS.2.2 (qaa qqV 8 rfl)))
    · have hw := hw.2 c1
      refine lv_iload_n hx hb (qaa qgZ 8 rfl) rfl (lv_at hl 2 rfl) ?_
      refine lv_aload_n hx hb (qaa qgZ 9 rfl) rfl (lv_at hl 0 rfl) ?_
      refine va_get (D := (dC, dI)) (ci := 11) (v := .ref a0_s) (C := RX11) (T := TX11) (N := 55) hx hb hts qUW hown hK hP 0 rfl rfl 40 (by decide) (hts _ qajS) (fun _ h9 => h9) rfl (qaa qgZ 10 rfl) ?_
      refine lv_bipush (v := 30) hx hb (qaa qgZ 11 rfl) (by decide) ?_
      refine lv_bipush (v := 6) hx hb (qaa qgZ 12 rfl) (by decide) ?_
      refine lv_iload_n hx hb (qaa qgZ 13 rfl) rfl (lv_at hl 3 rfl) ?_
      refine lv_imul hx hb (qaa qgZ 14 rfl) ?_
      refine lv_iadd hx hb (qaa qgZ 15 rfl) ?_
      refine lv_topi (fun x2 ex2 => ?_)
      have hw := hw x2 ex2
      refine lv_iload_n hx hb (qaa qqV 0 rfl) rfl (lv_at hl 1 rfl) ?_
      refine lv_iadd hx hb (qaa qqV 1 rfl) ?_
      refine lv_topi (fun x3 ex3 => ?_)
      have hw := hw x3 ex3
      obtain ⟨hi9, hw⟩ := hw
      refine va_iald hx hb hK hP 1 1 rfl rfl hi9 (qaa qqV 2 rfl) ?_
      refine lv_topi (fun x4 ex4 => ?_)
      have hw := hw x4 ex4
      refine lv_iadd hx hb (qaa qqV 3 rfl) ?_
      refine lv_topi (fun x5 ex5 => ?_)
      have hw := hw x5 ex5
      refine lv_istore_n (lv' := [(2, .int x5), (0, .ref a0), (1, .int l1), (3, .int l3)]) hx hb (qaa qqV 4 rfl) rfl hl (by decide) rfl (fun ls hl => ?_)
      obtain ⟨x6, ex6⟩ : ∃ y : Int32, y = l3 + 1 := ⟨_, rfl⟩
      have hw := hw x6 ex6
      refine lv_iinc (v := x6) (lv' := [(3, .int x6), (2, .int x5), (0, .ref a0), (1, .int l1)]) hx hb (qaa qqV 5 rfl) hl (k := 3) rfl (by rw [ex6]; rfl) (by decide) rfl (fun ls hl => ?_)
      refine lv_goto (tgt := 4) hx hb (qaa qqV 6 rfl) (by decide) ?_
      exact ih _ _ _ l1 x5 x6 hP hD hS (lv_sub hl [2, 3, 1, 0] rfl) hw
set_option maxHeartbeats 4000000 in
set_option maxRecDepth 100000 in
theorem qCL (l : Launch) (dC : Nat → ClassId) (dI : Nat → Nat → Nat) (cyB cyI cyJ cyP : ClassId) (a0 a0_s sz : Nat) (jaX jaF jaD ja7 jby jbe jaM jaY jap jaK jal jam jax jao ja6 jaV ja8 jae jag jaf ja0 jaP jaw jaI jaZ jaG jaS jan jaU jaE jar jaL jah jaB jaa jaz jaH jab ja2 jaq jai jaO jaA jat jau jav jaj jas jaJ jak jad jay jac : Value) (jaC : Int32) (f0_s : NI) (p1 : Int32) {Q : Int32 → Prop} (hw : qrS jaC f0_s p1 Q) : Met l yX11_isOwed wsX11_isOwed ({ frames := 0, cells := 0, slots := 0, locals := 0 }) (va_Pc [.ref a0, .int p1] (cPc (dC, dI) (kT cyB cyI cyJ cyP) (qtw a0 jaX jaF jaD ja7 jby jbe jaM jaY jap jaK jal jam jax jao ja6 jaV ja8 jae jag jaf ja0 jaC jaP jaw jaI jaZ jaG jaS jan jaU jaE jar jaL jah jaB jaa jaz jaH jab ja2 a0_s jaq jai jaO jaA jat jau jav jaj jas jaJ jak jad jay jac a0_s cyI f0_s) sz)) (va_Qi (fun (r : Int32) (_ : Unit) => Q r ) (cB (dC, dI) (kT cyB cyI cyJ cyP) (va_A (qtw a0 jaX jaF jaD ja7 jby jbe jaM jaY jap jaK jal jam jax jao ja6 jaV ja8 jae jag jaf ja0 jaC jaP jaw jaI jaZ jaG jaS jan jaU jaE jar jaL jah jaB jaa jaz jaH jab ja2 a0_s jaq jai jaO jaA jat jau jav jaj jas jaJ jak jad jay jac a0_s cyI f0_s) sz) (fun u : Unit => ((qtw a0 jaX jaF jaD ja7 jby jbe jaM jaY jap jaK jal jam jax jao ja6 jaV ja8 jae jag jaf ja0 jaC jaP jaw jaI jaZ jaG jaS jan jaU jaE jar jaL jah jaB jaa jaz jaH jab ja2 a0_s jaq jai jaO jaA jat jau jav jaj jas jaJ jak jad jay jac a0_s cyI f0_s) : va_W))) (va_A (qtw a0 jaX jaF jaD ja7 jby jbe jaM jaY jap jaK jal jam jax jao ja6 jaV ja8 jae jag jaf ja0 jaC jaP jaw jaI jaZ jaG jaS jan jaU jaE jar jaL jah jaB jaa jaz jaH jab ja2 a0_s jaq jai jaO jaA jat jau jav jaj jas jaJ jak jad jay jac a0_s cyI f0_s) sz)) 0 0 (va_A (qtw a0 jaX jaF jaD ja7 jby jbe jaM jaY jap jaK jal jam jax jao ja6 jaV ja8 jae jag jaf ja0 jaC jaP jaw jaI jaZ jaG jaS jan jaU jaE jar jaL jah jaB jaa jaz jaH jab ja2 a0_s jaq jai jaO jaA jat jau jav jaj jas jaJ jak jad jay jac a0_s cyI f0_s) sz) := by
  refine Met.ofW (cc := cX11_isOwed) (maxL := 4) (ret := (some .int)) (by decide) rfl ?_
  intro p e s m args below meth c s₁ B hml hv
  obtain ⟨rfl, hsz, hP, hK, hD0, hNw⟩ := hv
  have hx := B.exec
  have hb := B.bytes
  have hr := B.returns
  have hts := atoms_spec (ws := wsX11_isOwed) B.pre
  have hown : s.vm.findClass RX11 = some m.cls := findClass_of_methodNamed B.named
  have hlocks := B.notSynchronized
  subst hsz
  have hD := hD0.self (sz := s.heap.size)
  generalize hAe : va_A (qtw a0 jaX jaF jaD ja7 jby jbe jaM jaY jap jaK jal jam jax jao ja6 jaV ja8 jae jag jaf ja0 jaC jaP jaw jaI jaZ jaG jaS jan jaU jaE jar jaL jah jaB jaa jaz jaH jab ja2 a0_s jaq jai jaO jaA jat jau jav jaj jas jaJ jak jad jay jac a0_s cyI f0_s) s.heap.size = A at hD ⊢
  have hA : ∀ q : Nat, s.heap.size ≤ q → A q := fun q h => by rw [← hAe]; exact Or.inr h
  have hS : va_S A s.heap s.heap [] := va_S.rf
  have hP : va_P (dC, dI) vwCl (qtw a0 jaX jaF jaD ja7 jby jbe jaM jaY jap jaK jal jam jax jao ja6 jaV ja8 jae jag jaf ja0 jaC jaP jaw jaI jaZ jaG jaS jan jaU jaE jar jaL jah jaB jaa jaz jaH jab ja2 a0_s jaq jai jaO jaA jat jau jav jaj jas jaJ jak jad jay jac a0_s cyI f0_s) s.heap := hP
  have hl := lv_entry ([.ref a0, .int p1]) (n := 4) (nbq rfl)
  rw [lg_entry_eq]
  generalize (lg_sl ([.ref a0, .int p1]) ++ List.replicate (4 - (lg_sl ([.ref a0, .int p1])).length) Slot.unset).toArray = ls at hl ⊢
  have hl : lv_has ls 4 [(0, .ref a0), (1, .int p1)] := hl
  have C0 : cfx p s m _ meth c cX11_isOwed (some .int) wsX11_isOwed RX11 4 A (dC, dI) (kT cyB cyI cyJ cyP) := ⟨hx, hb, hr, hts, hown, hlocks, hml, hA, hK, hNw⟩
  clear hAe
  obtain ⟨H, hH⟩ : ∃ H, H = s.heap := ⟨_, rfl⟩
  rw [← hH] at hP ⊢
  have hS : va_S A s.heap H [] := by rw [hH]; exact va_S.rf
  have hS := hS
  refine lv_iconst (v := 0) hx hb (qaa qgZ 0 rfl) (by decide) ?_
  refine lv_istore_n (lv' := [(2, .int 0), (0, .ref a0), (1, .int p1)]) hx hb (qaa qgZ 1 rfl) rfl hl (by decide) rfl (fun ls hl => ?_)
  refine lv_iconst (v := 0) hx hb (qaa qgZ 2 rfl) (by decide) ?_
  refine lv_istore_n (lv' := [(3, .int 0), (2, .int 0), (0, .ref a0), (1, .int p1)]) hx hb (qaa qgZ 3 rfl) rfl hl (by decide) rfl (fun ls hl => ?_)
  obtain ⟨n9, hw⟩ := hw
  exact qazC dC dI cyB cyI cyJ cyP a0 a0_s jaX jaF jaD ja7 jby jbe jaM jaY jap jaK jal jam jax jao ja6 jaV ja8 jae jag jaf ja0 jaP jaw jaI jaZ jaG jaS jan jaU jaE jar jaL jah jaB jaa jaz jaH jab ja2 jaq jai jaO jaA jat jau jav jaj jas jaJ jak jad jay jac jaC f0_s Q C0 n9 _ _ _ p1 0 0 hP hD hS (lv_sub hl [2, 3, 1, 0] rfl) hw
theorem qZ5 : ∀ w ∈ u_ws RX11 TX11 55, w ∈ wsX11_sitIn := uiM qabX qfa (by decide +kernel)
theorem qajv : (.fieldLink RX11 169 "MarchHaresModel" "hares" "I" : Cond) ∈ wsX11_sitIn := qabX 520 (by decide +kernel)
theorem qatG : (.fieldLink RX11 71 "MarchHaresModel" "s" "[I" : Cond) ∈ wsX11_sitIn := qabX 457 (by decide +kernel)
set_option maxHeartbeats 4000000 in
set_option maxRecDepth 100000 in
theorem q0K {p : Program} {l : Launch} {e : Env} {s : State} {m : MethodId} {args : Array Value} {below : List Frame} {meth : Method} {c : Code} {A : Nat → Prop} (dC : Nat → ClassId) (dI : Nat → Nat → Nat) (cyB cyI cyJ cyP : ClassId) (a0 a0_s : Nat) (jaX jaF jaD ja7 jby jbe jaM jaY jap jaK jal jam jax jao ja6 jaV ja8 jae jag jaf ja0 jaP jaw jaI jaZ jaG jaS jan jaU jaE jar jaL jah jaB jaa jaz jaH jab ja2 jaq jai jaO jaA jat jau jav jaj jas jaJ jak jad jay jac : Value) (jaC : Int32) (f0_s : NI) (Q : Int32 → Prop) (K4 : Int32 → Int32 → Int32 → Prop) (hK4 : ∀ (H : Heap) (locs : List Loc) (ls : Array Slot) (l1 l2 l3 : Int32), va_P (dC, dI) vwCl (qtw a0 jaX jaF jaD ja7 jby jbe jaM jaY jap jaK jal jam jax jao ja6 jaV ja8 jae jag jaf ja0 jaC jaP jaw jaI jaZ jaG jaS jan jaU jaE jar jaL jah jaB jaa jaz jaH jab ja2 a0_s jaq jai jaO jaA jat jau jav jaj jas jaJ jak jad jay jac a0_s cyI f0_s) H → va_D A (qtw a0 jaX jaF jaD ja7 jby jbe jaM jaY jap jaK jal jam jax jao ja6 jaV ja8 jae jag jaf ja0 jaC jaP jaw jaI jaZ jaG jaS jan jaU jaE jar jaL jah jaB jaa jaz jaH jab ja2 a0_s jaq jai jaO jaA jat jau jav jaj jas jaJ jak jad jay jac a0_s cyI f0_s) → va_S A s.heap H locs → lv_has ls 4 [(0, .ref a0), (1, .int l1), (2, .int l2), (3, .int l3)] → K4 l1 l2 l3 → W p l e (headSpec wsX11_sitIn ({ frames := 0, cells := 0, slots := 0, locals := 0 })).room s m args below meth c H locs 0 0 (MQ below (va_Qi (fun (r : Int32) (_ : Unit) => Q r ) (cB (dC, dI) (kT cyB cyI cyJ cyP) A (fun u : Unit => ((qtw a0 jaX jaF jaD ja7 jby jbe jaM jaY jap jaK jal jam jax jao ja6 jaV ja8 jae jag jaf ja0 jaC jaP jaw jaI jaZ jaG jaS jan jaU jaE jar jaL jah jaB jaa jaz jaH jab ja2 a0_s jaq jai jaO jaA jat jau jav jaj jas jaJ jak jad jay jac a0_s cyI f0_s) : va_W))) A) args s 0 0 A) (F0 m 4 ls [])) (C0 : cfx p s m args meth c cX11_sitIn (some .int) wsX11_sitIn RX11 4 A (dC, dI) (kT cyB cyI cyJ cyP)) : ∀ (H : Heap) (locs : List Loc) (ls : Array Slot) (l1 l3 s0 s1 : Int32), va_P (dC, dI) vwCl (qtw a0 jaX jaF jaD ja7 jby jbe jaM jaY jap jaK jal jam jax jao ja6 jaV ja8 jae jag jaf ja0 jaC jaP jaw jaI jaZ jaG jaS jan jaU jaE jar jaL jah jaB jaa jaz jaH jab ja2 a0_s jaq jai jaO jaA jat jau jav jaj jas jaJ jak jad jay jac a0_s cyI f0_s) H → va_D A (qtw a0 jaX jaF jaD ja7 jby jbe jaM jaY jap jaK jal jam jax jao ja6 jaV ja8 jae jag jaf ja0 jaC jaP jaw jaI jaZ jaG jaS jan jaU jaE jar jaL jah jaB jaa jaz jaH jab ja2 a0_s jaq jai jaO jaA jat jau jav jaj jas jaJ jak jad jay jac a0_s cyI f0_s) → va_S A s.heap H locs → lv_has ls 4 [(0, .ref a0), (1, .int l1), (3, .int l3)] → qO2 jaC f0_s Q K4 l1 l3 s0 s1 → W p l e (headSpec wsX11_sitIn ({ frames := 0, cells := 0, slots := 0, locals := 0 })).room s m args below meth c H locs 0 0 (MQ below (va_Qi (fun (r : Int32) (_ : Unit) => Q r ) (cB (dC, dI) (kT cyB cyI cyJ cyP) A (fun u : Unit => ((qtw a0 jaX jaF jaD ja7 jby jbe jaM jaY jap jaK jal jam jax jao ja6 jaV ja8 jae jag jaf ja0 jaC jaP jaw jaI jaZ jaG jaS jan jaU jaE jar jaL jah jaB jaa jaz jaH jab ja2 a0_s jaq jai jaO jaA jat jau jav jaj jas jaJ jak jad jay jac a0_s cyI f0_s) : va_W))) A) args s 0 0 A) (F0 m 32 ls [.int s1, .int s0]) := by
  obtain ⟨hx, hb, hr, hts, hown, hlocks, hml, hA, hK, hNw⟩ := id C0
  intro H locs ls l1 l3 s0 s1 hP hD hS hl hw
  refine lv_ior hx hb (qaa qn3 6 rfl) ?_
  refine lv_topi (fun x5 ex5 => ?_)
  have hw := hw x5 ex5
  refine lv_istore_n (lv' := [(2, .int x5), (0, .ref a0), (1, .int l1), (3, .int l3)]) hx hb (qaa qn3 7 rfl) rfl hl (by decide) rfl (fun ls hl => ?_)
  obtain ⟨x6, ex6⟩ : ∃ y : Int32, y = l3 + 1 := ⟨_, rfl⟩
  have hw := hw x6 ex6
  refine lv_iinc (v := x6) (lv' := [(3, .int x6), (2, .int x5), (0, .ref a0), (1, .int l1)]) hx hb (qaa qn3 8 rfl) hl (k := 3) rfl (by rw [ex6]; rfl) (by decide) rfl (fun ls hl => ?_)
  refine lv_goto (tgt := 4) hx hb (qaa qn3 9 rfl) (by decide) ?_
  exact hK4 _ _ _ l1 x5 x6 hP hD hS (lv_sub hl [2, 3, 1, 0] rfl) hw
set_option maxHeartbeats 4000000 in
set_option maxRecDepth 100000 in
theorem qaKU {p : Program} {l : Launch} {e : Env} {s : State} {m : MethodId} {args : Array Value} {below : List Frame} {meth : Method} {c : Code} {A : Nat → Prop} (dC : Nat → ClassId) (dI : Nat → Nat → Nat) (cyB cyI cyJ cyP : ClassId) (a0 a0_s : Nat) (jaX jaF jaD ja7 jby jbe jaM jaY jap jaK jal jam jax jao ja6 jaV ja8 jae jag jaf ja0 jaP jaw jaI jaZ jaG jaS jan jaU jaE jar jaL jah jaB jaa jaz jaH jab ja2 jaq jai jaO jaA jat jau jav jaj jas jaJ jak jad jay jac : Value) (jaC : Int32) (f0_s : NI) (Q : Int32 → Prop) (C0 : cfx p s m args meth c cX11_sitIn (some .int) wsX11_sitIn RX11 4 A (dC, dI) (kT cyB cyI cyJ cyP)) : ∀ (n : Nat) (H : Heap) (locs : List Loc) (ls : Array Slot) (l1 l2 l3 : Int32), va_P (dC, dI) vwCl (qtw a0 jaX jaF jaD ja7 jby jbe jaM jaY jap jaK jal jam jax jao ja6 jaV ja8 jae jag jaf ja0 jaC jaP jaw jaI jaZ jaG jaS jan jaU jaE jar jaL jah jaB jaa jaz jaH jab ja2 a0_s jaq jai jaO jaA jat jau jav jaj jas jaJ jak jad jay jac a0_s cyI f0_s) H → va_D A (qtw a0 jaX jaF jaD ja7 jby jbe jaM jaY jap jaK jal jam jax jao ja6 jaV ja8 jae jag jaf ja0 jaC jaP jaw jaI jaZ jaG jaS jan jaU jaE jar jaL jah jaB jaa jaz jaH jab ja2 a0_s jaq jai jaO jaA jat jau jav jaj jas jaJ jak jad jay jac a0_s cyI f0_s) → va_S A s.heap H locs → lv_has ls 4 [(0, .ref a0), (1, .int l1), (2, .int l2), (3, .int l3)] → qvg jaC f0_s Q n l1 l2 l3 → W p l e (headSpec wsX11_sitIn ({ frames := 0, cells := 0, slots := 0, locals := 0 })).room s m args below meth c H locs 0 0 (MQ below (va_Qi (fun (r : Int32) (_ : Unit) => Q r ) (cB (dC, dI) (kT cyB cyI cyJ cyP) A (fun u : Unit => ((qtw a0 jaX jaF jaD ja7 jby jbe jaM jaY jap jaK jal jam jax jao ja6 jaV ja8 jae jag jaf ja0 jaC jaP jaw jaI jaZ jaG jaS jan jaU jaE jar jaL jah jaB jaa jaz jaH jab ja2 a0_s jaq jai jaO jaA jat jau jav jaj jas jaJ jak jad jay jac a0_s cyI f0_s) : va_W))) A) args s 0 0 A) (F0 m 4 ls []) := by
  obtain ⟨hx, hb, hr, hts, hown, hlocks, hml, hA, hK, hNw⟩ := id C0
  intro n
  induction n with
  | zero => intro H locs ls l1 l2 l3 hP hD hS hl hw; exact False.elim hw
  | succ n ih =>
    intro H locs ls l1 l2 l3 hP hD hS hl hw
    refine lv_iload_n hx hb (qaa qjA 4 rfl) rfl (lv_at hl 3 rfl) ?_
    refine lv_aload_n hx hb (qaa qjA 5 rfl) rfl (lv_at hl 0 rfl) ?_
    refine va_get (D := (dC, dI)) (ci := 11) (v := .int jaC) (C := RX11) (T := TX11) (N := 55) hx hb hts qZ5 hown hK hP 0 rfl rfl 21 (by decide) (hts _ qajv) (fun _ h9 => h9) rfl (qaa qjA 6 rfl) ?_
    refine lv_icmp_ge (tgt := 40) hx hb (qaa qjA 7 rfl) (by decide) (fun c1 => ?_) (fun c1 => ?_)
    · have hw := hw.1 c1
      refine lv_iload_n hx hb (qaa qn3 10 rfl) rfl (lv_at hl 2 rfl) ?_
      exact ((W.iret (v := l2) hx hb hr (fun t ht hW => ⟨⟨l2, (), rfl, hw, by rw [ht]; exact hP, va_K.moved hW.alike hK, hD⟩, hS.F ht⟩) hS.2.2 (qaa qn3 11 rfl)))
    · have hw := hw.2 c1
      refine lv_iload_n hx hb (qaa qjA 8 rfl) rfl (lv_at hl 2 rfl) ?_
      refine lv_aload_n hx hb (qaa qjA 9 rfl) rfl (lv_at hl 0 rfl) ?_
      refine va_get (D := (dC, dI)) (ci := 11) (v := .ref a0_s) (C := RX11) (T := TX11) (N := 55) hx hb hts qZ5 hown hK hP 0 rfl rfl 40 (by decide) (hts _ qatG) (fun _ h9 => h9) rfl (qaa qjA 10 rfl) ?_
      refine lv_iconst (v := 0) hx hb (qaa qjA 11 rfl) (by decide) ?_
      refine lv_iload_n hx hb (qaa qjA 12 rfl) rfl (lv_at hl 3 rfl) ?_
      refine lv_iadd hx hb (qaa qjA 13 rfl) ?_
      refine lv_topi (fun x2 ex2 => ?_)
      have hw := hw x2 ex2
      obtain ⟨hi9, hw⟩ := hw
      refine va_iald hx hb hK hP 1 1 rfl rfl hi9 (qaa qjA 14 rfl) ?_
      refine lv_topi (fun x3 ex3 => ?_)
      have hw := hw x3 ex3
      refine lv_iload_n hx hb (qaa qjA 15 rfl) rfl (lv_at hl 1 rfl) ?_
      refine lv_icmp_ne (tgt := 31) hx hb (qaa qn3 0 rfl) (by decide) (fun c4 => ?_) (fun c4 => ?_)
      · have hw := hw.1 c4
        refine lv_iconst (v := 0) hx hb (qaa qn3 5 rfl) (by decide) ?_
        exact q0K dC dI cyB cyI cyJ cyP a0 a0_s jaX jaF jaD ja7 jby jbe jaM jaY jap jaK jal jam jax jao ja6 jaV ja8 jae jag jaf ja0 jaP jaw jaI jaZ jaG jaS jan jaU jaE jar jaL jah jaB jaa jaz jaH jab ja2 jaq jai jaO jaA jat jau jav jaj jas jaJ jak jad jay jac jaC f0_s Q (qvg jaC f0_s Q n) ih C0 _ _ _ l1 l3 l2 0 hP hD hS (lv_sub hl [0, 1, 3] rfl) hw
      · have hw := hw.2 c4
        refine lv_iconst (v := 1) hx hb (qaa qn3 1 rfl) (by decide) ?_
        refine lv_iload_n hx hb (qaa qn3 2 rfl) rfl (lv_at hl 3 rfl) ?_
        refine lv_ishl hx hb (qaa qn3 3 rfl) ?_
        refine lv_goto (tgt := 32) hx hb (qaa qn3 4 rfl) (by decide) ?_
        exact q0K dC dI cyB cyI cyJ cyP a0 a0_s jaX jaF jaD ja7 jby jbe jaM jaY jap jaK jal jam jax jao ja6 jaV ja8 jae jag jaf ja0 jaP jaw jaI jaZ jaG jaS jan jaU jaE jar jaL jah jaB jaa jaz jaH jab ja2 jaq jai jaO jaA jat jau jav jaj jas jaJ jak jad jay jac jaC f0_s Q (qvg jaC f0_s Q n) ih C0 _ _ _ l1 l3 l2 (1 <<< (l3 &&& 31)) hP hD hS (lv_sub hl [0, 1, 3] rfl) hw
set_option maxHeartbeats 4000000 in
set_option maxRecDepth 100000 in
theorem q1S (l : Launch) (dC : Nat → ClassId) (dI : Nat → Nat → Nat) (cyB cyI cyJ cyP : ClassId) (a0 a0_s sz : Nat) (jaX jaF jaD ja7 jby jbe jaM jaY jap jaK jal jam jax jao ja6 jaV ja8 jae jag jaf ja0 jaP jaw jaI jaZ jaG jaS jan jaU jaE jar jaL jah jaB jaa jaz jaH jab ja2 jaq jai jaO jaA jat jau jav jaj jas jaJ jak jad jay jac : Value) (jaC : Int32) (f0_s : NI) (p1 : Int32) {Q : Int32 → Prop} (hw : qGx jaC f0_s p1 Q) : Met l yX11_sitIn wsX11_sitIn ({ frames := 0, cells := 0, slots := 0, locals := 0 }) (va_Pc [.ref a0, .int p1] (cPc (dC, dI) (kT cyB cyI cyJ cyP) (qtw a0 jaX jaF jaD ja7 jby jbe jaM jaY jap jaK jal jam jax jao ja6 jaV ja8 jae jag jaf ja0 jaC jaP jaw jaI jaZ jaG jaS jan jaU jaE jar jaL jah jaB jaa jaz jaH jab ja2 a0_s jaq jai jaO jaA jat jau jav jaj jas jaJ jak jad jay jac a0_s cyI f0_s) sz)) (va_Qi (fun (r : Int32) (_ : Unit) => Q r ) (cB (dC, dI) (kT cyB cyI cyJ cyP) (va_A (qtw a0 jaX jaF jaD ja7 jby jbe jaM jaY jap jaK jal jam jax jao ja6 jaV ja8 jae jag jaf ja0 jaC jaP jaw jaI jaZ jaG jaS jan jaU jaE jar jaL jah jaB jaa jaz jaH jab ja2 a0_s jaq jai jaO jaA jat jau jav jaj jas jaJ jak jad jay jac a0_s cyI f0_s) sz) (fun u : Unit => ((qtw a0 jaX jaF jaD ja7 jby jbe jaM jaY jap jaK jal jam jax jao ja6 jaV ja8 jae jag jaf ja0 jaC jaP jaw jaI jaZ jaG jaS jan jaU jaE jar jaL jah jaB jaa jaz jaH jab ja2 a0_s jaq jai jaO jaA jat jau jav jaj jas jaJ jak jad jay jac a0_s cyI f0_s) : va_W))) (va_A (qtw a0 jaX jaF jaD ja7 jby jbe jaM jaY jap jaK jal jam jax jao ja6 jaV ja8 jae jag jaf ja0 jaC jaP jaw jaI jaZ jaG jaS jan jaU jaE jar jaL jah jaB jaa jaz jaH jab ja2 a0_s jaq jai jaO jaA jat jau jav jaj jas jaJ jak jad jay jac a0_s cyI f0_s) sz)) 0 0 (va_A (qtw a0 jaX jaF jaD ja7 jby jbe jaM jaY jap jaK jal jam jax jao ja6 jaV ja8 jae jag jaf ja0 jaC jaP jaw jaI jaZ jaG jaS jan jaU jaE jar jaL jah jaB jaa jaz jaH jab ja2 a0_s jaq jai jaO jaA jat jau jav jaj jas jaJ jak jad jay jac a0_s cyI f0_s) sz) := by
  refine Met.ofW (cc := cX11_sitIn) (maxL := 4) (ret := (some .int)) (by decide) rfl ?_
  intro p e s m args below meth c s₁ B hml hv
  obtain ⟨rfl, hsz, hP, hK, hD0, hNw⟩ := hv
  have hx := B.exec
  have hb := B.bytes
  have hr := B.returns
  have hts := atoms_spec (ws := wsX11_sitIn) B.pre
  have hown : s.vm.findClass RX11 = some m.cls := findClass_of_methodNamed B.named
  have hlocks := B.notSynchronized
  subst hsz
  have hD := hD0.self (sz := s.heap.size)
  generalize hAe : va_A (qtw a0 jaX jaF jaD ja7 jby jbe jaM jaY jap jaK jal jam jax jao ja6 jaV ja8 jae jag jaf ja0 jaC jaP jaw jaI jaZ jaG jaS jan jaU jaE jar jaL jah jaB jaa jaz jaH jab ja2 a0_s jaq jai jaO jaA jat jau jav jaj jas jaJ jak jad jay jac a0_s cyI f0_s) s.heap.size = A at hD ⊢
  have hA : ∀ q : Nat, s.heap.size ≤ q → A q := fun q h => by rw [← hAe]; exact Or.inr h
  have hS : va_S A s.heap s.heap [] := va_S.rf
  have hP : va_P (dC, dI) vwCl (qtw a0 jaX jaF jaD ja7 jby jbe jaM jaY jap jaK jal jam jax jao ja6 jaV ja8 jae jag jaf ja0 jaC jaP jaw jaI jaZ jaG jaS jan jaU jaE jar jaL jah jaB jaa jaz jaH jab ja2 a0_s jaq jai jaO jaA jat jau jav jaj jas jaJ jak jad jay jac a0_s cyI f0_s) s.heap := hP
  have hl := lv_entry ([.ref a0, .int p1]) (n := 4) (nbq rfl)
  rw [lg_entry_eq]
  generalize (lg_sl ([.ref a0, .int p1]) ++ List.replicate (4 - (lg_sl ([.ref a0, .int p1])).length) Slot.unset).toArray = ls at hl ⊢
  have hl : lv_has ls 4 [(0, .ref a0), (1, .int p1)] := hl
  have C0 : cfx p s m _ meth c cX11_sitIn (some .int) wsX11_sitIn RX11 4 A (dC, dI) (kT cyB cyI cyJ cyP) := ⟨hx, hb, hr, hts, hown, hlocks, hml, hA, hK, hNw⟩
  clear hAe
  obtain ⟨H, hH⟩ : ∃ H, H = s.heap := ⟨_, rfl⟩
  rw [← hH] at hP ⊢
  have hS : va_S A s.heap H [] := by rw [hH]; exact va_S.rf
  have hS := hS
  refine lv_iconst (v := 0) hx hb (qaa qjA 0 rfl) (by decide) ?_
  refine lv_istore_n (lv' := [(2, .int 0), (0, .ref a0), (1, .int p1)]) hx hb (qaa qjA 1 rfl) rfl hl (by decide) rfl (fun ls hl => ?_)
  refine lv_iconst (v := 0) hx hb (qaa qjA 2 rfl) (by decide) ?_
  refine lv_istore_n (lv' := [(3, .int 0), (2, .int 0), (0, .ref a0), (1, .int p1)]) hx hb (qaa qjA 3 rfl) rfl hl (by decide) rfl (fun ls hl => ?_)
  obtain ⟨n9, hw⟩ := hw
  exact qaKU dC dI cyB cyI cyJ cyP a0 a0_s jaX jaF jaD ja7 jby jbe jaM jaY jap jaK jal jam jax jao ja6 jaV ja8 jae jag jaf ja0 jaP jaw jaI jaZ jaG jaS jan jaU jaE jar jaL jah jaB jaa jaz jaH jab ja2 jaq jai jaO jaA jat jau jav jaj jas jaJ jak jad jay jac jaC f0_s Q C0 n9 _ _ _ p1 0 0 hP hD hS (lv_sub hl [2, 3, 1, 0] rfl) hw
set_option maxHeartbeats 4000000 in
set_option maxRecDepth 100000 in
theorem qaSK {p : Program} {l : Launch} {e : Env} {s : State} {m : MethodId} {args : Array Value} {below : List Frame} {meth : Method} {c : Code} {A : Nat → Prop} (dC : Nat → ClassId) (dI : Nat → Nat → Nat) (cyB cyI cyJ cyP : ClassId) (Q : Int32 → Prop) (C0 : cfx p s m args meth c cX11_ones (some .int) wsX11_ones RX11 3 A (dC, dI) (kT cyB cyI cyJ cyP)) : ∀ (n : Nat) (H : Heap) (locs : List Loc) (ls : Array Slot) (l0 l1 l2 : Int32), va_P (dC, dI) vwCl [] H → va_D A [] → va_S A s.heap H locs → lv_has ls 3 [(0, .int l0), (1, .int l1), (2, .int l2)] → qHo Q n l0 l1 l2 → W p l e (headSpec wsX11_ones ({ frames := 0, cells := 0, slots := 0, locals := 0 })).room s m args below meth c H locs 0 0 (MQ below (va_Qi (fun (r : Int32) (_ : Unit) => Q r ) (cB (dC, dI) (kT cyB cyI cyJ cyP) A (fun u : Unit => ([] : va_W))) A) args s 0 0 A) (F0 m 4 ls []) := by
  obtain ⟨hx, hb, hr, hts, hown, hlocks, hml, hA, hK, hNw⟩ := id C0
  intro n
  induction n with
  | zero => intro H locs ls l0 l1 l2 hP hD hS hl hw; exact False.elim hw
  | succ n ih =>
    intro H locs ls l0 l1 l2 hP hD hS hl hw
    refine lv_iload_n hx hb (qaa qmS 4 rfl) rfl (lv_at hl 2 rfl) ?_
    refine lv_bipush (v := 8) hx hb (qaa qmS 5 rfl) (by decide) ?_
    refine lv_icmp_ge (tgt := 24) hx hb (qaa qmS 6 rfl) (by decide) (fun c1 => ?_) (fun c1 => ?_)
    · have hw := hw.1 c1
      refine lv_iload_n hx hb (qaa qUh 1 rfl) rfl (lv_at hl 1 rfl) ?_
      exact ((W.iret (v := l1) hx hb hr (fun t ht hW => ⟨⟨l1, (), rfl, hw, by rw [ht]; exact hP, va_K.moved hW.alike hK, hD⟩, hS.F ht⟩) hS.2.2 (qaa qUh 2 rfl)))
    · have hw := hw.2 c1
      refine lv_iload_n hx hb (qaa qmS 7 rfl) rfl (lv_at hl 1 rfl) ?_
      refine lv_iload_n hx hb (qaa qmS 8 rfl) rfl (lv_at hl 0 rfl) ?_
      refine lv_iload_n hx hb (qaa qmS 9 rfl) rfl (lv_at hl 2 rfl) ?_
      refine lv_ishr hx hb (qaa qmS 10 rfl) ?_
      refine lv_iconst (v := 1) hx hb (qaa qmS 11 rfl) (by decide) ?_
      refine lv_iand hx hb (qaa qmS 12 rfl) ?_
      refine lv_iadd hx hb (qaa qmS 13 rfl) ?_
      refine lv_topi (fun x2 ex2 => ?_)
      have hw := hw x2 ex2
      refine lv_istore_n (lv' := [(1, .int x2), (0, .int l0), (2, .int l2)]) hx hb (qaa qmS 14 rfl) rfl hl (by decide) rfl (fun ls hl => ?_)
      obtain ⟨x3, ex3⟩ : ∃ y : Int32, y = l2 + 1 := ⟨_, rfl⟩
      have hw := hw x3 ex3
      refine lv_iinc (v := x3) (lv' := [(2, .int x3), (1, .int x2), (0, .int l0)]) hx hb (qaa qmS 15 rfl) hl (k := 2) rfl (by rw [ex3]; rfl) (by decide) rfl (fun ls hl => ?_)
      refine lv_goto (tgt := 4) hx hb (qaa qUh 0 rfl) (by decide) ?_
      exact ih _ _ _ l0 x2 x3 hP hD hS (lv_sub hl [2, 1, 0] rfl) hw
set_option maxHeartbeats 4000000 in
set_option maxRecDepth 100000 in
theorem qYv (l : Launch) (dC : Nat → ClassId) (dI : Nat → Nat → Nat) (cyB cyI cyJ cyP : ClassId) (sz : Nat) (p0 : Int32) {Q : Int32 → Prop} (hw : qFn p0 Q) : Met l yX11_ones wsX11_ones ({ frames := 0, cells := 0, slots := 0, locals := 0 }) (va_Pc [.int p0] (cPc (dC, dI) (kT cyB cyI cyJ cyP) [] sz)) (va_Qi (fun (r : Int32) (_ : Unit) => Q r ) (cB (dC, dI) (kT cyB cyI cyJ cyP) (va_A [] sz) (fun u : Unit => ([] : va_W))) (va_A [] sz)) 0 0 (va_A [] sz) := by
  refine Met.ofW (cc := cX11_ones) (maxL := 3) (ret := (some .int)) (by decide) rfl ?_
  intro p e s m args below meth c s₁ B hml hv
  obtain ⟨rfl, hsz, hP, hK, hD0, hNw⟩ := hv
  have hx := B.exec
  have hb := B.bytes
  have hr := B.returns
  have hts := atoms_spec (ws := wsX11_ones) B.pre
  have hown : s.vm.findClass RX11 = some m.cls := findClass_of_methodNamed B.named
  have hlocks := B.notSynchronized
  subst hsz
  have hD := hD0.self (sz := s.heap.size)
  generalize hAe : va_A [] s.heap.size = A at hD ⊢
  have hA : ∀ q : Nat, s.heap.size ≤ q → A q := fun q h => by rw [← hAe]; exact Or.inr h
  have hS : va_S A s.heap s.heap [] := va_S.rf
  have hP : va_P (dC, dI) vwCl [] s.heap := hP
  have hl := lv_entry ([.int p0]) (n := 3) (nbq rfl)
  rw [lg_entry_eq]
  generalize (lg_sl ([.int p0]) ++ List.replicate (3 - (lg_sl ([.int p0])).length) Slot.unset).toArray = ls at hl ⊢
  have hl : lv_has ls 3 [(0, .int p0)] := hl
  have C0 : cfx p s m _ meth c cX11_ones (some .int) wsX11_ones RX11 3 A (dC, dI) (kT cyB cyI cyJ cyP) := ⟨hx, hb, hr, hts, hown, hlocks, hml, hA, hK, hNw⟩
  clear hAe
  obtain ⟨H, hH⟩ : ∃ H, H = s.heap := ⟨_, rfl⟩
  rw [← hH] at hP ⊢
  have hS : va_S A s.heap H [] := by rw [hH]; exact va_S.rf
  have hS := hS
  refine lv_iconst (v := 0) hx hb (qaa qmS 0 rfl) (by decide) ?_
  refine lv_istore_n (lv' := [(1, .int 0), (0, .int p0)]) hx hb (qaa qmS 1 rfl) rfl hl (by decide) rfl (fun ls hl => ?_)
  refine lv_iconst (v := 0) hx hb (qaa qmS 2 rfl) (by decide) ?_
  refine lv_istore_n (lv' := [(2, .int 0), (1, .int 0), (0, .int p0)]) hx hb (qaa qmS 3 rfl) rfl hl (by decide) rfl (fun ls hl => ?_)
  obtain ⟨n9, hw⟩ := hw
  exact qaSK dC dI cyB cyI cyJ cyP Q C0 n9 _ _ _ p0 0 0 hP hD hS (lv_sub hl [2, 1, 0] rfl) hw
theorem qle : ∀ w ∈ u_ws RX11 TX11 55, w ∈ wsX11_valueNow := uiM qvh qfa (by decide +kernel)
theorem q6b : (.fieldLink RX11 179 "MarchHaresModel" "codes" "I" : Cond) ∈ wsX11_valueNow := qvh 522 (by decide +kernel)
theorem q86 : (.fieldLink RX11 50 "MarchHaresModel" "code" "[I" : Cond) ∈ wsX11_valueNow := qvh 450 (by decide +kernel)
theorem qQN : (.fieldLink RX11 53 "MarchHaresModel" "ofCode" "[I" : Cond) ∈ wsX11_valueNow := qvh 451 (by decide +kernel)
theorem qv9 : (.fieldLink RX11 56 "MarchHaresModel" "stack" "[I" : Cond) ∈ wsX11_valueNow := qvh 452 (by decide +kernel)
theorem q8B : (.fieldLink RX11 59 "MarchHaresModel" "facts" "[I" : Cond) ∈ wsX11_valueNow := qvh 453 (by decide +kernel)
set_option maxHeartbeats 4000000 in
set_option maxRecDepth 100000 in
theorem qR6 {p : Program} {l : Launch} {e : Env} {s : State} {m : MethodId} {args : Array Value} {below : List Frame} {meth : Method} {c : Code} {A : Nat → Prop} (dC : Nat → ClassId) (dI : Nat → Nat → Nat) (cyB cyI cyJ cyP : ClassId) (a0 jbB jbG jbu jbg : Nat) (jaX jaF jaD ja7 jby jbe jaM jaY jap jaK jal jam jax jao ja6 jaV ja8 jae jag jaf ja0 ja4 jaP jaw jaI jan jar jaL jah jaB jaa jaz jaH jab ja2 z0_s jaq jai jaO jaA jat jau jav jaj jas jaJ jak jad jay jac : Value) (jbD : Int32) (jcu jbR jbZ : NI) (Q : Int32 → NI → Prop) (K4 : NI → Int32 → Int32 → Prop) (hK4 : ∀ (H : Heap) (locs : List Loc) (ls : Array Slot) (jca : NI) (l1 l2 : Int32), va_P (dC, dI) vwCl (qk7 a0 jaX jaF jaD ja7 jby jbe jaM jaY jap jaK jal jam jax jao ja6 jaV ja8 jae jag jaf ja0 ja4 jaP jaw jaI jbG jbg jbB jan jbD jbu jar jaL jah jaB jaa jaz jaH jab ja2 z0_s jaq jai jaO jaA jat jau jav jaj jas jaJ jak jad jay jac jbB cyI jca jbG cyI jcu jbg cyI jbR jbu cyI jbZ) H → va_D A (qk7 a0 jaX jaF jaD ja7 jby jbe jaM jaY jap jaK jal jam jax jao ja6 jaV ja8 jae jag jaf ja0 ja4 jaP jaw jaI jbG jbg jbB jan jbD jbu jar jaL jah jaB jaa jaz jaH jab ja2 z0_s jaq jai jaO jaA jat jau jav jaj jas jaJ jak jad jay jac jbB cyI jca jbG cyI jcu jbg cyI jbR jbu cyI jbZ) → va_S A s.heap H locs → lv_has ls 4 [(0, .ref a0), (1, .int l1), (2, .int l2)] → K4 jca l1 l2 → W p l e (headSpec wsX11_valueNow ({ frames := 1, cells := 0, slots := 0, locals := 22 })).room s m args below meth c H locs 0 0 (MQ below (va_Qi (fun (r : Int32) (u : NI) => Q r u) (cB (dC, dI) (kT cyB cyI cyJ cyP) A (fun u : NI => ((qk7 a0 jaX jaF jaD ja7 jby jbe jaM jaY jap jaK jal jam jax jao ja6 jaV ja8 jae jag jaf ja0 ja4 jaP jaw jaI jbG jbg jbB jan jbD jbu jar jaL jah jaB jaa jaz jaH jab ja2 z0_s jaq jai jaO jaA jat jau jav jaj jas jaJ jak jad jay jac jbB cyI u jbG cyI jcu jbg cyI jbR jbu cyI jbZ) : va_W))) A) args s 0 0 A) (F0 m 4 ls [])) (C0 : cfx p s m args meth c cX11_valueNow (some .int) wsX11_valueNow RX11 4 A (dC, dI) (kT cyB cyI cyJ cyP)) : ∀ (H : Heap) (locs : List Loc) (ls : Array Slot) (jca : NI) (l1 l2 : Int32), va_P (dC, dI) vwCl (qk7 a0 jaX jaF jaD ja7 jby jbe jaM jaY jap jaK jal jam jax jao ja6 jaV ja8 jae jag jaf ja0 ja4 jaP jaw jaI jbG jbg jbB jan jbD jbu jar jaL jah jaB jaa jaz jaH jab ja2 z0_s jaq jai jaO jaA jat jau jav jaj jas jaJ jak jad jay jac jbB cyI jca jbG cyI jcu jbg cyI jbR jbu cyI jbZ) H → va_D A (qk7 a0 jaX jaF jaD ja7 jby jbe jaM jaY jap jaK jal jam jax jao ja6 jaV ja8 jae jag jaf ja0 ja4 jaP jaw jaI jbG jbg jbB jan jbD jbu jar jaL jah jaB jaa jaz jaH jab ja2 z0_s jaq jai jaO jaA jat jau jav jaj jas jaJ jak jad jay jac jbB cyI jca jbG cyI jcu jbg cyI jbR jbu cyI jbZ) → va_S A s.heap H locs → lv_has ls 4 [(0, .ref a0), (1, .int l1), (2, .int l2)] → qH0 jbD jcu jbR jbZ Q K4 jca l1 l2 → W p l e (headSpec wsX11_valueNow ({ frames := 1, cells := 0, slots := 0, locals := 22 })).room s m args below meth c H locs 0 0 (MQ below (va_Qi (fun (r : Int32) (u : NI) => Q r u) (cB (dC, dI) (kT cyB cyI cyJ cyP) A (fun u : NI => ((qk7 a0 jaX jaF jaD ja7 jby jbe jaM jaY jap jaK jal jam jax jao ja6 jaV ja8 jae jag jaf ja0 ja4 jaP jaw jaI jbG jbg jbB jan jbD jbu jar jaL jah jaB jaa jaz jaH jab ja2 z0_s jaq jai jaO jaA jat jau jav jaj jas jaJ jak jad jay jac jbB cyI u jbG cyI jcu jbg cyI jbR jbu cyI jbZ) : va_W))) A) args s 0 0 A) (F0 m 89 ls []) := by
  obtain ⟨hx, hb, hr, hts, hown, hlocks, hml, hA, hK, hNw⟩ := id C0
  intro H locs ls jca l1 l2 hP hD hS hl hw
  obtain ⟨x16, ex16⟩ : ∃ y : Int32, y = l2 + 1 := ⟨_, rfl⟩
  have hw := hw x16 ex16
  refine lv_iinc (v := x16) (lv' := [(2, .int x16), (0, .ref a0), (1, .int l1)]) hx hb (qaa qe1 7 rfl) hl (k := 2) rfl (by rw [ex16]; rfl) (by decide) rfl (fun ls hl => ?_)
  refine lv_goto (tgt := 4) hx hb (qaa qe1 8 rfl) (by decide) ?_
  exact hK4 _ _ _ jca l1 x16 hP hD hS (lv_sub hl [1, 2, 0] rfl) hw
set_option maxHeartbeats 4000000 in
set_option maxRecDepth 100000 in
theorem qRD {p : Program} {l : Launch} {e : Env} {s : State} {m : MethodId} {args : Array Value} {below : List Frame} {meth : Method} {c : Code} {A : Nat → Prop} (dC : Nat → ClassId) (dI : Nat → Nat → Nat) (cyB cyI cyJ cyP : ClassId) (a0 jbB jbG jbu jbg : Nat) (jaX jaF jaD ja7 jby jbe jaM jaY jap jaK jal jam jax jao ja6 jaV ja8 jae jag jaf ja0 ja4 jaP jaw jaI jan jar jaL jah jaB jaa jaz jaH jab ja2 z0_s jaq jai jaO jaA jat jau jav jaj jas jaJ jak jad jay jac : Value) (jbD : Int32) (jcu jbR jbZ : NI) (Q : Int32 → NI → Prop) (K4 : NI → Int32 → Int32 → Prop) (hK4 : ∀ (H : Heap) (locs : List Loc) (ls : Array Slot) (jca : NI) (l1 l2 : Int32), va_P (dC, dI) vwCl (qk7 a0 jaX jaF jaD ja7 jby jbe jaM jaY jap jaK jal jam jax jao ja6 jaV ja8 jae jag jaf ja0 ja4 jaP jaw jaI jbG jbg jbB jan jbD jbu jar jaL jah jaB jaa jaz jaH jab ja2 z0_s jaq jai jaO jaA jat jau jav jaj jas jaJ jak jad jay jac jbB cyI jca jbG cyI jcu jbg cyI jbR jbu cyI jbZ) H → va_D A (qk7 a0 jaX jaF jaD ja7 jby jbe jaM jaY jap jaK jal jam jax jao ja6 jaV ja8 jae jag jaf ja0 ja4 jaP jaw jaI jbG jbg jbB jan jbD jbu jar jaL jah jaB jaa jaz jaH jab ja2 z0_s jaq jai jaO jaA jat jau jav jaj jas jaJ jak jad jay jac jbB cyI jca jbG cyI jcu jbg cyI jbR jbu cyI jbZ) → va_S A s.heap H locs → lv_has ls 4 [(0, .ref a0), (1, .int l1), (2, .int l2)] → K4 jca l1 l2 → W p l e (headSpec wsX11_valueNow ({ frames := 1, cells := 0, slots := 0, locals := 22 })).room s m args below meth c H locs 0 0 (MQ below (va_Qi (fun (r : Int32) (u : NI) => Q r u) (cB (dC, dI) (kT cyB cyI cyJ cyP) A (fun u : NI => ((qk7 a0 jaX jaF jaD ja7 jby jbe jaM jaY jap jaK jal jam jax jao ja6 jaV ja8 jae jag jaf ja0 ja4 jaP jaw jaI jbG jbg jbB jan jbD jbu jar jaL jah jaB jaa jaz jaH jab ja2 z0_s jaq jai jaO jaA jat jau jav jaj jas jaJ jak jad jay jac jbB cyI u jbG cyI jcu jbg cyI jbR jbu cyI jbZ) : va_W))) A) args s 0 0 A) (F0 m 4 ls [])) (C0 : cfx p s m args meth c cX11_valueNow (some .int) wsX11_valueNow RX11 4 A (dC, dI) (kT cyB cyI cyJ cyP)) : ∀ (H : Heap) (locs : List Loc) (ls : Array Slot) (jca : NI) (l1 l2 s1 s2 : Int32), va_P (dC, dI) vwCl (qk7 a0 jaX jaF jaD ja7 jby jbe jaM jaY jap jaK jal jam jax jao ja6 jaV ja8 jae jag jaf ja0 ja4 jaP jaw jaI jbG jbg jbB jan jbD jbu jar jaL jah jaB jaa jaz jaH jab ja2 z0_s jaq jai jaO jaA jat jau jav jaj jas jaJ jak jad jay jac jbB cyI jca jbG cyI jcu jbg cyI jbR jbu cyI jbZ) H → va_D A (qk7 a0 jaX jaF jaD ja7 jby jbe jaM jaY jap jaK jal jam jax jao ja6 jaV ja8 jae jag jaf ja0 ja4 jaP jaw jaI jbG jbg jbB jan jbD jbu jar jaL jah jaB jaa jaz jaH jab ja2 z0_s jaq jai jaO jaA jat jau jav jaj jas jaJ jak jad jay jac jbB cyI jca jbG cyI jcu jbg cyI jbR jbu cyI jbZ) → va_S A s.heap H locs → lv_has ls 4 [(0, .ref a0), (1, .int l1), (2, .int l2)] → qAY jbD jcu jbR jbZ Q K4 jca l1 l2 s1 s2 → W p l e (headSpec wsX11_valueNow ({ frames := 1, cells := 0, slots := 0, locals := 22 })).room s m args below meth c H locs 0 0 (MQ below (va_Qi (fun (r : Int32) (u : NI) => Q r u) (cB (dC, dI) (kT cyB cyI cyJ cyP) A (fun u : NI => ((qk7 a0 jaX jaF jaD ja7 jby jbe jaM jaY jap jaK jal jam jax jao ja6 jaV ja8 jae jag jaf ja0 ja4 jaP jaw jaI jbG jbg jbB jan jbD jbu jar jaL jah jaB jaa jaz jaH jab ja2 z0_s jaq jai jaO jaA jat jau jav jaj jas jaJ jak jad jay jac jbB cyI u jbG cyI jcu jbg cyI jbR jbu cyI jbZ) : va_W))) A) args s 0 0 A) (F0 m 53 ls [.int s2, .int s1, .ref jbB]) := by
  obtain ⟨hx, hb, hr, hts, hown, hlocks, hml, hA, hK, hNw⟩ := id C0
  intro H locs ls jca l1 l2 s1 s2 hP hD hS hl hw
  obtain ⟨hi9, hw⟩ := hw
  refine va_iast hx hb hK hP hD hS 1 1 rfl rfl hi9 (qaa qdy 1 rfl) (fun H locs hP hD hS => ?_)
  obtain ⟨f17, ef17⟩ : ∃ y : NI, y = upd jca s1.toNatClampNeg s2 := ⟨_, rfl⟩
  have hw := hw f17 ef17
  have hP : va_P (dC, dI) vwCl (qk7 a0 jaX jaF jaD ja7 jby jbe jaM jaY jap jaK jal jam jax jao ja6 jaV ja8 jae jag jaf ja0 ja4 jaP jaw jaI jbG jbg jbB jan jbD jbu jar jaL jah jaB jaa jaz jaH jab ja2 z0_s jaq jai jaO jaA jat jau jav jaj jas jaJ jak jad jay jac jbB cyI f17 jbG cyI jcu jbg cyI jbR jbu cyI jbZ) H := by rw [ef17]; exact hP
  have hD : va_D A (qk7 a0 jaX jaF jaD ja7 jby jbe jaM jaY jap jaK jal jam jax jao ja6 jaV ja8 jae jag jaf ja0 ja4 jaP jaw jaI jbG jbg jbB jan jbD jbu jar jaL jah jaB jaa jaz jaH jab ja2 z0_s jaq jai jaO jaA jat jau jav jaj jas jaJ jak jad jay jac jbB cyI f17 jbG cyI jcu jbg cyI jbR jbu cyI jbZ) := by rw [ef17]; exact hD
  obtain ⟨x18, ex18⟩ : ∃ y : Int32, y = l1 + 1 := ⟨_, rfl⟩
  have hw := hw x18 ex18
  refine lv_iinc (v := x18) (lv' := [(1, .int x18), (0, .ref a0), (2, .int l2)]) hx hb (qaa qdy 2 rfl) hl (k := 1) rfl (by rw [ex18]; rfl) (by decide) rfl (fun ls hl => ?_)
  refine lv_goto (tgt := 89) hx hb (qaa qdy 3 rfl) (by decide) ?_
  exact qR6 dC dI cyB cyI cyJ cyP a0 jbB jbG jbu jbg jaX jaF jaD ja7 jby jbe jaM jaY jap jaK jal jam jax jao ja6 jaV ja8 jae jag jaf ja0 ja4 jaP jaw jaI jan jar jaL jah jaB jaa jaz jaH jab ja2 z0_s jaq jai jaO jaA jat jau jav jaj jas jaJ jak jad jay jac jbD jcu jbR jbZ Q K4 hK4 C0 _ _ _ f17 x18 l2 hP hD hS (lv_sub hl [1, 0, 2] rfl) hw
set_option maxHeartbeats 4000000 in
set_option maxRecDepth 100000 in
theorem qamD {p : Program} {l : Launch} {e : Env} {s : State} {m : MethodId} {args : Array Value} {below : List Frame} {meth : Method} {c : Code} {A : Nat → Prop} (dC : Nat → ClassId) (dI : Nat → Nat → Nat) (cyB cyI cyJ cyP : ClassId) (a0 jbB jbG jbu jbg : Nat) (jaX jaF jaD ja7 jby jbe jaM jaY jap jaK jal jam jax jao ja6 jaV ja8 jae jag jaf ja0 ja4 jaP jaw jaI jan jar jaL jah jaB jaa jaz jaH jab ja2 z0_s jaq jai jaO jaA jat jau jav jaj jas jaJ jak jad jay jac : Value) (jbD : Int32) (jcu jbR jbZ : NI) (Q : Int32 → NI → Prop) (C0 : cfx p s m args meth c cX11_valueNow (some .int) wsX11_valueNow RX11 4 A (dC, dI) (kT cyB cyI cyJ cyP)) : ∀ (n : Nat) (H : Heap) (locs : List Loc) (ls : Array Slot) (jca : NI) (l1 l2 : Int32), va_P (dC, dI) vwCl (qk7 a0 jaX jaF jaD ja7 jby jbe jaM jaY jap jaK jal jam jax jao ja6 jaV ja8 jae jag jaf ja0 ja4 jaP jaw jaI jbG jbg jbB jan jbD jbu jar jaL jah jaB jaa jaz jaH jab ja2 z0_s jaq jai jaO jaA jat jau jav jaj jas jaJ jak jad jay jac jbB cyI jca jbG cyI jcu jbg cyI jbR jbu cyI jbZ) H → va_D A (qk7 a0 jaX jaF jaD ja7 jby jbe jaM jaY jap jaK jal jam jax jao ja6 jaV ja8 jae jag jaf ja0 ja4 jaP jaw jaI jbG jbg jbB jan jbD jbu jar jaL jah jaB jaa jaz jaH jab ja2 z0_s jaq jai jaO jaA jat jau jav jaj jas jaJ jak jad jay jac jbB cyI jca jbG cyI jcu jbg cyI jbR jbu cyI jbZ) → va_S A s.heap H locs → lv_has ls 4 [(0, .ref a0), (1, .int l1), (2, .int l2)] → qm8 jbD jcu jbR jbZ Q n jca l1 l2 → W p l e (headSpec wsX11_valueNow ({ frames := 1, cells := 0, slots := 0, locals := 22 })).room s m args below meth c H locs 0 0 (MQ below (va_Qi (fun (r : Int32) (u : NI) => Q r u) (cB (dC, dI) (kT cyB cyI cyJ cyP) A (fun u : NI => ((qk7 a0 jaX jaF jaD ja7 jby jbe jaM jaY jap jaK jal jam jax jao ja6 jaV ja8 jae jag jaf ja0 ja4 jaP jaw jaI jbG jbg jbB jan jbD jbu jar jaL jah jaB jaa jaz jaH jab ja2 z0_s jaq jai jaO jaA jat jau jav jaj jas jaJ jak jad jay jac jbB cyI u jbG cyI jcu jbg cyI jbR jbu cyI jbZ) : va_W))) A) args s 0 0 A) (F0 m 4 ls []) := by
  obtain ⟨hx, hb, hr, hts, hown, hlocks, hml, hA, hK, hNw⟩ := id C0
  intro n
  induction n with
  | zero => intro H locs ls jca l1 l2 hP hD hS hl hw; exact False.elim hw
  | succ n ih =>
    intro H locs ls jca l1 l2 hP hD hS hl hw
    refine lv_iload_n hx hb (qaa qev 4 rfl) rfl (lv_at hl 2 rfl) ?_
    refine lv_aload_n hx hb (qaa qev 5 rfl) rfl (lv_at hl 0 rfl) ?_
    refine va_get (D := (dC, dI)) (ci := 11) (v := .int jbD) (C := RX11) (T := TX11) (N := 55) hx hb hts qle hown hK hP 0 rfl rfl 29 (by decide) (hts _ q6b) (fun _ h9 => h9) rfl (qaa qev 6 rfl) ?_
    refine lv_icmp_ge (tgt := 95) hx hb (qaa qev 7 rfl) (by decide) (fun c1 => ?_) (fun c1 => ?_)
    · have hw := hw.1 c1
      refine lv_aload_n hx hb (qaa qe1 9 rfl) rfl (lv_at hl 0 rfl) ?_
      refine va_get (D := (dC, dI)) (ci := 11) (v := .ref jbB) (C := RX11) (T := TX11) (N := 55) hx hb hts qle hown hK hP 0 rfl rfl 27 (by decide) (hts _ qv9) (fun _ h9 => h9) rfl (qaa qe1 10 rfl) ?_
      refine lv_iconst (v := 0) hx hb (qaa qe1 11 rfl) (by decide) ?_
      refine va_iald hx hb hK hP 1 1 rfl rfl (vin (by decide)) (qaa qe1 12 rfl) ?_
      refine lv_topi (fun x2 ex2 => ?_)
      have hw := hw x2 ex2
      exact ((W.iret (v := x2) hx hb hr (fun t ht hW => ⟨⟨x2, (jca), rfl, hw, by rw [ht]; exact hP, va_K.moved hW.alike hK, hD⟩, hS.F ht⟩) hS.2.2 (qaa qe1 13 rfl)))
    · have hw := hw.2 c1
      refine lv_aload_n hx hb (qaa qev 8 rfl) rfl (lv_at hl 0 rfl) ?_
      refine va_get (D := (dC, dI)) (ci := 11) (v := .ref jbG) (C := RX11) (T := TX11) (N := 55) hx hb hts qle hown hK hP 0 rfl rfl 25 (by decide) (hts _ q86) (fun _ h9 => h9) rfl (qaa qev 9 rfl) ?_
      refine lv_iload_n hx hb (qaa qev 10 rfl) rfl (lv_at hl 2 rfl) ?_
      obtain ⟨hi9, hw⟩ := hw
      refine va_iald hx hb hK hP 2 1 rfl rfl hi9 (qaa qev 11 rfl) ?_
      refine lv_topi (fun x3 ex3 => ?_)
      have hw := hw x3 ex3
      refine lv_istore_n (lv' := [(3, .int x3), (0, .ref a0), (1, .int l1), (2, .int l2)]) hx hb (qaa qev 12 rfl) rfl hl (by decide) rfl (fun ls hl => ?_)
      refine lv_iload_n hx hb (qaa qev 13 rfl) rfl (lv_at hl 0 rfl) ?_
      refine lv_iconst (v := 1) hx hb (qaa qev 14 rfl) (by decide) ?_
      refine lv_icmp_gt (tgt := 60) hx hb (qaa qev 15 rfl) (by decide) (fun c4 => ?_) (fun c4 => ?_)
      · have hw := hw.1 c4
        obtain ⟨x5, ex5⟩ : ∃ y : Int32, y = l1 + (-1) := ⟨_, rfl⟩
        have hw := hw x5 ex5
        refine lv_iinc (v := x5) (lv' := [(1, .int x5), (3, .int x3), (0, .ref a0), (2, .int l2)]) hx hb (qaa qdy 4 rfl) hl (k := 2) rfl (by rw [ex5]; rfl) (by decide) rfl (fun ls hl => ?_)
        refine lv_aload_n hx hb (qaa qdy 5 rfl) rfl (lv_at hl 2 rfl) ?_
        refine va_get (D := (dC, dI)) (ci := 11) (v := .ref jbB) (C := RX11) (T := TX11) (N := 55) hx hb hts qle hown hK hP 0 rfl rfl 27 (by decide) (hts _ qv9) (fun _ h9 => h9) rfl (qaa qdy 6 rfl) ?_
        refine lv_iload_n hx hb (qaa qdy 7 rfl) rfl (lv_at hl 0 rfl) ?_
        refine lv_iconst (v := 1) hx hb (qaa qdy 8 rfl) (by decide) ?_
        refine lv_isub hx hb (qaa qdy 9 rfl) ?_
        refine lv_topi (fun x6 ex6 => ?_)
        have hw := hw x6 ex6
        refine lv_iload_n hx hb (qaa qdy 10 rfl) rfl (lv_at hl 1 rfl) ?_
        refine lv_aload_n hx hb (qaa qdy 11 rfl) rfl (lv_at hl 2 rfl) ?_
        refine va_get (D := (dC, dI)) (ci := 11) (v := .ref jbB) (C := RX11) (T := TX11) (N := 55) hx hb hts qle hown hK hP 0 rfl rfl 27 (by decide) (hts _ qv9) (fun _ h9 => h9) rfl (qaa qdy 12 rfl) ?_
        refine lv_iload_n hx hb (qaa qdy 13 rfl) rfl (lv_at hl 0 rfl) ?_
        refine lv_iconst (v := 1) hx hb (qaa qdy 14 rfl) (by decide) ?_
        refine lv_isub hx hb (qaa qdy 15 rfl) ?_
        refine lv_topi (fun x7 ex7 => ?_)
        have hw := hw x7 ex7
        obtain ⟨hi9, hw⟩ := hw
        refine va_iald hx hb hK hP 1 1 rfl rfl hi9 (qaa qe1 0 rfl) ?_
        refine lv_topi (fun x8 ex8 => ?_)
        have hw := hw x8 ex8
        refine lv_aload_n hx hb (qaa qe1 1 rfl) rfl (lv_at hl 2 rfl) ?_
        refine va_get (D := (dC, dI)) (ci := 11) (v := .ref jbB) (C := RX11) (T := TX11) (N := 55) hx hb hts qle hown hK hP 0 rfl rfl 27 (by decide) (hts _ qv9) (fun _ h9 => h9) rfl (qaa qe1 2 rfl) ?_
        refine lv_iload_n hx hb (qaa qe1 3 rfl) rfl (lv_at hl 0 rfl) ?_
        obtain ⟨hi9, hw⟩ := hw
        refine va_iald hx hb hK hP 1 1 rfl rfl hi9 (qaa qe1 4 rfl) ?_
        refine lv_topi (fun x9 ex9 => ?_)
        have hw := hw x9 ex9
        obtain ⟨hCc, hPc, hDc, hFc⟩ := qac (ws' := []) hP hD hS hA [] (by decide +kernel) rfl
        refine va_calli (va_runS (As := [.int x3, .int x8, .int x9]) (rest := [.int x6, .ref jbB]) ⟨hx, hb, hml, hown, hts⟩ (qaYl l dC dI cyB cyI cyJ cyP H.size x3 x8 x9 hw) (va_cwS 3 hts gX11_valueNow_X11_both rfl rfl rfl (by decide +kernel) ⟨nbq rfl, nbq rfl⟩) ⟨qab, qae hPc hK hDc hNw⟩ rfl rfl hl.1 rfl (lv_room (nbq rfl)) (qaa qe1 5 rfl) ⟨nbq rfl, nbq rfl⟩) hS (fun q _ h => hFc q h) hFc (fun r10 u t H1 locs ht hvm hw hB hz1 hk1 hS => ?_)
        obtain ⟨hP1, hK1, hD1⟩ := hB
        rw [ht] at hP1
        obtain ⟨hP, hD⟩ := qah (wr := (qk7 a0 jaX jaF jaD ja7 jby jbe jaM jaY jap jaK jal jam jax jao ja6 jaV ja8 jae jag jaf ja0 ja4 jaP jaw jaI jbG jbg jbB jan jbD jbu jar jaL jah jaB jaa jaz jaH jab ja2 z0_s jaq jai jaO jaA jat jau jav jaj jas jaJ jak jad jay jac jbB cyI jca jbG cyI jcu jbg cyI jbR jbu cyI jbZ)) (w1 := []) (wn := (qk7 a0 jaX jaF jaD ja7 jby jbe jaM jaY jap jaK jal jam jax jao ja6 jaV ja8 jae jag jaf ja0 ja4 jaP jaw jaI jbG jbg jbB jan jbD jbu jar jaL jah jaB jaa jaz jaH jab ja2 z0_s jaq jai jaO jaA jat jau jav jaj jas jaJ jak jad jay jac jbB cyI jca jbG cyI jcu jbg cyI jbR jbu cyI jbZ)) hP hD [] [0, 1, 2, 3, 4] hCc rfl (by decide +kernel) (by decide +kernel) rfl hk1 hFc hP1 hD1
        generalize H1 = H at hP hS ⊢
        obtain ⟨hi9, hw⟩ := hw
        refine va_iast hx hb hK hP hD hS 1 1 rfl rfl hi9 (qaa qe1 6 rfl) (fun H locs hP hD hS => ?_)
        obtain ⟨f11, ef11⟩ : ∃ y : NI, y = upd jca x6.toNatClampNeg r10 := ⟨_, rfl⟩
        have hw := hw f11 ef11
        have hP : va_P (dC, dI) vwCl (qk7 a0 jaX jaF jaD ja7 jby jbe jaM jaY jap jaK jal jam jax jao ja6 jaV ja8 jae jag jaf ja0 ja4 jaP jaw jaI jbG jbg jbB jan jbD jbu jar jaL jah jaB jaa jaz jaH jab ja2 z0_s jaq jai jaO jaA jat jau jav jaj jas jaJ jak jad jay jac jbB cyI f11 jbG cyI jcu jbg cyI jbR jbu cyI jbZ) H := by rw [ef11]; exact hP
        have hD : va_D A (qk7 a0 jaX jaF jaD ja7 jby jbe jaM jaY jap jaK jal jam jax jao ja6 jaV ja8 jae jag jaf ja0 ja4 jaP jaw jaI jbG jbg jbB jan jbD jbu jar jaL jah jaB jaa jaz jaH jab ja2 z0_s jaq jai jaO jaA jat jau jav jaj jas jaJ jak jad jay jac jbB cyI f11 jbG cyI jcu jbg cyI jbR jbu cyI jbZ) := by rw [ef11]; exact hD
        exact qR6 dC dI cyB cyI cyJ cyP a0 jbB jbG jbu jbg jaX jaF jaD ja7 jby jbe jaM jaY jap jaK jal jam jax jao ja6 jaV ja8 jae jag jaf ja0 ja4 jaP jaw jaI jan jar jaL jah jaB jaa jaz jaH jab ja2 z0_s jaq jai jaO jaA jat jau jav jaj jas jaJ jak jad jay jac jbD jcu jbR jbZ Q (qm8 jbD jcu jbR jbZ Q n) ih C0 _ _ _ f11 x5 l2 hP hD hS (lv_sub hl [2, 0, 3] rfl) hw
      · have hw := hw.2 c4
        refine lv_aload_n hx hb (qaa qdq 0 rfl) rfl (lv_at hl 1 rfl) ?_
        refine va_get (D := (dC, dI)) (ci := 11) (v := .ref jbB) (C := RX11) (T := TX11) (N := 55) hx hb hts qle hown hK hP 0 rfl rfl 27 (by decide) (hts _ qv9) (fun _ h9 => h9) rfl (qaa qdq 1 rfl) ?_
        refine lv_iload_n hx hb (qaa qdq 2 rfl) rfl (lv_at hl 2 rfl) ?_
        refine lv_iload_n hx hb (qaa qdq 3 rfl) rfl (lv_at hl 0 rfl) ?_
        refine lv_if_ne (tgt := 42) hx hb (qaa qdq 4 rfl) (by decide) (fun c12 => ?_) (fun c12 => ?_)
        · have hw := hw.1 c12
          refine lv_aload_n hx hb (qaa qdq 10 rfl) rfl (lv_at hl 1 rfl) ?_
          refine va_get (D := (dC, dI)) (ci := 11) (v := .ref jbu) (C := RX11) (T := TX11) (N := 55) hx hb hts qle hown hK hP 0 rfl rfl 30 (by decide) (hts _ q8B) (fun _ h9 => h9) rfl (qaa qdq 11 rfl) ?_
          refine lv_aload_n hx hb (qaa qdq 12 rfl) rfl (lv_at hl 1 rfl) ?_
          refine va_get (D := (dC, dI)) (ci := 11) (v := .ref jbg) (C := RX11) (T := TX11) (N := 55) hx hb hts qle hown hK hP 0 rfl rfl 26 (by decide) (hts _ qQN) (fun _ h9 => h9) rfl (qaa qdq 13 rfl) ?_
          refine lv_iload_n hx hb (qaa qdq 14 rfl) rfl (lv_at hl 3 rfl) ?_
          obtain ⟨hi9, hw⟩ := hw
          refine va_iald hx hb hK hP 3 1 rfl rfl hi9 (qaa qdq 15 rfl) ?_
          refine lv_topi (fun x13 ex13 => ?_)
          have hw := hw x13 ex13
          obtain ⟨hi9, hw⟩ := hw
          refine va_iald hx hb hK hP 4 1 rfl rfl hi9 (qaa qdy 0 rfl) ?_
          refine lv_topi (fun x14 ex14 => ?_)
          have hw := hw x14 ex14
          exact qRD dC dI cyB cyI cyJ cyP a0 jbB jbG jbu jbg jaX jaF jaD ja7 jby jbe jaM jaY jap jaK jal jam jax jao ja6 jaV ja8 jae jag jaf ja0 ja4 jaP jaw jaI jan jar jaL jah jaB jaa jaz jaH jab ja2 z0_s jaq jai jaO jaA jat jau jav jaj jas jaJ jak jad jay jac jbD jcu jbR jbZ Q (qm8 jbD jcu jbR jbZ Q n) ih C0 _ _ _ jca l1 l2 l1 x14 hP hD hS (lv_sub hl [1, 2, 3] rfl) hw
        · have hw := hw.2 c12
          refine lv_aload_n hx hb (qaa qdq 5 rfl) rfl (lv_at hl 1 rfl) ?_
          refine va_get (D := (dC, dI)) (ci := 11) (v := .ref jbg) (C := RX11) (T := TX11) (N := 55) hx hb hts qle hown hK hP 0 rfl rfl 26 (by decide) (hts _ qQN) (fun _ h9 => h9) rfl (qaa qdq 6 rfl) ?_
          refine lv_iload_n hx hb (qaa qdq 7 rfl) rfl (lv_at hl 3 rfl) ?_
          obtain ⟨hi9, hw⟩ := hw
          refine va_iald hx hb hK hP 3 1 rfl rfl hi9 (qaa qdq 8 rfl) ?_
          refine lv_topi (fun x15 ex15 => ?_)
          have hw := hw x15 ex15
          refine lv_goto (tgt := 53) hx hb (qaa qdq 9 rfl) (by decide) ?_
          exact qRD dC dI cyB cyI cyJ cyP a0 jbB jbG jbu jbg jaX jaF jaD ja7 jby jbe jaM jaY jap jaK jal jam jax jao ja6 jaV ja8 jae jag jaf ja0 ja4 jaP jaw jaI jan jar jaL jah jaB jaa jaz jaH jab ja2 z0_s jaq jai jaO jaA jat jau jav jaj jas jaJ jak jad jay jac jbD jcu jbR jbZ Q (qm8 jbD jcu jbR jbZ Q n) ih C0 _ _ _ jca l1 l2 l1 x15 hP hD hS (lv_sub hl [1, 2, 3] rfl) hw
set_option maxHeartbeats 4000000 in
set_option maxRecDepth 100000 in
theorem qaCa (l : Launch) (dC : Nat → ClassId) (dI : Nat → Nat → Nat) (cyB cyI cyJ cyP : ClassId) (a0 jbB jbG jbu jbg sz : Nat) (jaX jaF jaD ja7 jby jbe jaM jaY jap jaK jal jam jax jao ja6 jaV ja8 jae jag jaf ja0 ja4 jaP jaw jaI jan jar jaL jah jaB jaa jaz jaH jab ja2 z0_s jaq jai jaO jaA jat jau jav jaj jas jaJ jak jad jay jac : Value) (jbD : Int32) (jcu jbR jbZ jca : NI) {Q : Int32 → NI → Prop} (hw : qHh jbD jcu jbR jbZ jca Q) : Met l yX11_valueNow wsX11_valueNow ({ frames := 1, cells := 0, slots := 0, locals := 22 }) (va_Pc [.ref a0] (cPc (dC, dI) (kT cyB cyI cyJ cyP) (qk7 a0 jaX jaF jaD ja7 jby jbe jaM jaY jap jaK jal jam jax jao ja6 jaV ja8 jae jag jaf ja0 ja4 jaP jaw jaI jbG jbg jbB jan jbD jbu jar jaL jah jaB jaa jaz jaH jab ja2 z0_s jaq jai jaO jaA jat jau jav jaj jas jaJ jak jad jay jac jbB cyI jca jbG cyI jcu jbg cyI jbR jbu cyI jbZ) sz)) (va_Qi (fun (r : Int32) (u : NI) => Q r u) (cB (dC, dI) (kT cyB cyI cyJ cyP) (va_A (qk7 a0 jaX jaF jaD ja7 jby jbe jaM jaY jap jaK jal jam jax jao ja6 jaV ja8 jae jag jaf ja0 ja4 jaP jaw jaI jbG jbg jbB jan jbD jbu jar jaL jah jaB jaa jaz jaH jab ja2 z0_s jaq jai jaO jaA jat jau jav jaj jas jaJ jak jad jay jac jbB cyI jca jbG cyI jcu jbg cyI jbR jbu cyI jbZ) sz) (fun u : NI => ((qk7 a0 jaX jaF jaD ja7 jby jbe jaM jaY jap jaK jal jam jax jao ja6 jaV ja8 jae jag jaf ja0 ja4 jaP jaw jaI jbG jbg jbB jan jbD jbu jar jaL jah jaB jaa jaz jaH jab ja2 z0_s jaq jai jaO jaA jat jau jav jaj jas jaJ jak jad jay jac jbB cyI u jbG cyI jcu jbg cyI jbR jbu cyI jbZ) : va_W))) (va_A (qk7 a0 jaX jaF jaD ja7 jby jbe jaM jaY jap jaK jal jam jax jao ja6 jaV ja8 jae jag jaf ja0 ja4 jaP jaw jaI jbG jbg jbB jan jbD jbu jar jaL jah jaB jaa jaz jaH jab ja2 z0_s jaq jai jaO jaA jat jau jav jaj jas jaJ jak jad jay jac jbB cyI jca jbG cyI jcu jbg cyI jbR jbu cyI jbZ) sz)) 0 0 (va_A (qk7 a0 jaX jaF jaD ja7 jby jbe jaM jaY jap jaK jal jam jax jao ja6 jaV ja8 jae jag jaf ja0 ja4 jaP jaw jaI jbG jbg jbB jan jbD jbu jar jaL jah jaB jaa jaz jaH jab ja2 z0_s jaq jai jaO jaA jat jau jav jaj jas jaJ jak jad jay jac jbB cyI jca jbG cyI jcu jbg cyI jbR jbu cyI jbZ) sz) := by
  refine Met.ofW (cc := cX11_valueNow) (maxL := 4) (ret := (some .int)) (by decide) rfl ?_
  intro p e s m args below meth c s₁ B hml hv
  obtain ⟨rfl, hsz, hP, hK, hD0, hNw⟩ := hv
  have hx := B.exec
  have hb := B.bytes
  have hr := B.returns
  have hts := atoms_spec (ws := wsX11_valueNow) B.pre
  have hown : s.vm.findClass RX11 = some m.cls := findClass_of_methodNamed B.named
  have hlocks := B.notSynchronized
  subst hsz
  have hD := hD0.self (sz := s.heap.size)
  generalize hAe : va_A (qk7 a0 jaX jaF jaD ja7 jby jbe jaM jaY jap jaK jal jam jax jao ja6 jaV ja8 jae jag jaf ja0 ja4 jaP jaw jaI jbG jbg jbB jan jbD jbu jar jaL jah jaB jaa jaz jaH jab ja2 z0_s jaq jai jaO jaA jat jau jav jaj jas jaJ jak jad jay jac jbB cyI jca jbG cyI jcu jbg cyI jbR jbu cyI jbZ) s.heap.size = A at hD ⊢
  have hA : ∀ q : Nat, s.heap.size ≤ q → A q := fun q h => by rw [← hAe]; exact Or.inr h
  have hS : va_S A s.heap s.heap [] := va_S.rf
  have hP : va_P (dC, dI) vwCl (qk7 a0 jaX jaF jaD ja7 jby jbe jaM jaY jap jaK jal jam jax jao ja6 jaV ja8 jae jag jaf ja0 ja4 jaP jaw jaI jbG jbg jbB jan jbD jbu jar jaL jah jaB jaa jaz jaH jab ja2 z0_s jaq jai jaO jaA jat jau jav jaj jas jaJ jak jad jay jac jbB cyI jca jbG cyI jcu jbg cyI jbR jbu cyI jbZ) s.heap := hP
  have hl := lv_entry ([.ref a0]) (n := 4) (nbq rfl)
  rw [lg_entry_eq]
  generalize (lg_sl ([.ref a0]) ++ List.replicate (4 - (lg_sl ([.ref a0])).length) Slot.unset).toArray = ls at hl ⊢
  have hl : lv_has ls 4 [(0, .ref a0)] := hl
  have C0 : cfx p s m _ meth c cX11_valueNow (some .int) wsX11_valueNow RX11 4 A (dC, dI) (kT cyB cyI cyJ cyP) := ⟨hx, hb, hr, hts, hown, hlocks, hml, hA, hK, hNw⟩
  clear hAe
  obtain ⟨H, hH⟩ : ∃ H, H = s.heap := ⟨_, rfl⟩
  rw [← hH] at hP ⊢
  have hS : va_S A s.heap H [] := by rw [hH]; exact va_S.rf
  have hS := hS
  refine lv_iconst (v := 0) hx hb (qaa qev 0 rfl) (by decide) ?_
  refine lv_istore_n (lv' := [(1, .int 0), (0, .ref a0)]) hx hb (qaa qev 1 rfl) rfl hl (by decide) rfl (fun ls hl => ?_)
  refine lv_iconst (v := 0) hx hb (qaa qev 2 rfl) (by decide) ?_
  refine lv_istore_n (lv' := [(2, .int 0), (1, .int 0), (0, .ref a0)]) hx hb (qaa qev 3 rfl) rfl hl (by decide) rfl (fun ls hl => ?_)
  obtain ⟨n9, hw⟩ := hw
  exact qamD dC dI cyB cyI cyJ cyP a0 jbB jbG jbu jbg jaX jaF jaD ja7 jby jbe jaM jaY jap jaK jal jam jax jao ja6 jaV ja8 jae jag jaf ja0 ja4 jaP jaw jaI jan jar jaL jah jaB jaa jaz jaH jab ja2 z0_s jaq jai jaO jaA jat jau jav jaj jas jaJ jak jad jay jac jbD jcu jbR jbZ Q C0 n9 _ _ _ jca 0 0 hP hD hS (lv_sub hl [2, 1, 0] rfl) hw
theorem qIT : ∀ w ∈ u_ws RX11 TX11 55, w ∈ wsX11_leapNow := uiM qHp qfa (by decide +kernel)
theorem q8H : (.fieldLink RX11 179 "MarchHaresModel" "codes" "I" : Cond) ∈ wsX11_leapNow := qHp 522 (by decide +kernel)
theorem qSn : (.fieldLink RX11 59 "MarchHaresModel" "facts" "[I" : Cond) ∈ wsX11_leapNow := qHp 453 (by decide +kernel)
set_option maxHeartbeats 4000000 in
set_option maxRecDepth 100000 in
theorem qU4 {p : Program} {l : Launch} {e : Env} {s : State} {m : MethodId} {args : Array Value} {below : List Frame} {meth : Method} {c : Code} {A : Nat → Prop} (dC : Nat → ClassId) (dI : Nat → Nat → Nat) (cyB cyI cyJ cyP : ClassId) (a0 jbB jbG jbg jbu : Nat) (jaX jaF jaD ja7 jby jbe jaM jaY jap jaK jal jam jax jao ja6 jaV ja8 jae jag jaf ja0 ja4 jaP jaw jaI jan jar jaL jah jaB jaa jaz jaH jab ja2 z0_s jaq jai jaO jaA jat jau jav jaj jas jaJ jak jad jay jac : Value) (jbD : Int32) (jcu jbR jbZ : NI) (Q : Int32 → NI → Prop) (C0 : cfx p s m args meth c cX11_leapNow (some .int) wsX11_leapNow RX11 2 A (dC, dI) (kT cyB cyI cyJ cyP)) : ∀ (H : Heap) (locs : List Loc) (ls : Array Slot) (jca : NI) (s0 : Int32), va_P (dC, dI) vwCl (qk7 a0 jaX jaF jaD ja7 jby jbe jaM jaY jap jaK jal jam jax jao ja6 jaV ja8 jae jag jaf ja0 ja4 jaP jaw jaI jbG jbg jbB jan jbD jbu jar jaL jah jaB jaa jaz jaH jab ja2 z0_s jaq jai jaO jaA jat jau jav jaj jas jaJ jak jad jay jac jbB cyI jca jbG cyI jcu jbg cyI jbR jbu cyI jbZ) H → va_D A (qk7 a0 jaX jaF jaD ja7 jby jbe jaM jaY jap jaK jal jam jax jao ja6 jaV ja8 jae jag jaf ja0 ja4 jaP jaw jaI jbG jbg jbB jan jbD jbu jar jaL jah jaB jaa jaz jaH jab ja2 z0_s jaq jai jaO jaA jat jau jav jaj jas jaJ jak jad jay jac jbB cyI jca jbG cyI jcu jbg cyI jbR jbu cyI jbZ) → va_S A s.heap H locs → lv_has ls 2 [] → qDb jbD jcu jbR jbZ Q jca s0 → W p l e (headSpec wsX11_leapNow ({ frames := 2, cells := 0, slots := 0, locals := 45 })).room s m args below meth c H locs 0 0 (MQ below (va_Qi (fun (r : Int32) (u : NI) => Q r u) (cB (dC, dI) (kT cyB cyI cyJ cyP) A (fun u : NI => ((qk7 a0 jaX jaF jaD ja7 jby jbe jaM jaY jap jaK jal jam jax jao ja6 jaV ja8 jae jag jaf ja0 ja4 jaP jaw jaI jbG jbg jbB jan jbD jbu jar jaL jah jaB jaa jaz jaH jab ja2 z0_s jaq jai jaO jaA jat jau jav jaj jas jaJ jak jad jay jac jbB cyI u jbG cyI jcu jbg cyI jbR jbu cyI jbZ) : va_W))) A) args s 0 0 A) (F0 m 29 ls [.int s0]) := by
  obtain ⟨hx, hb, hr, hts, hown, hlocks, hml, hA, hK, hNw⟩ := id C0
  intro H locs ls jca s0 hP hD hS hl hw
  refine lv_istore_n (lv' := [(1, .int s0)]) hx hb (qaa qe8 1 rfl) rfl hl (by decide) rfl (fun ls hl => ?_)
  refine lv_iload_n hx hb (qaa qe8 2 rfl) rfl (lv_at hl 0 rfl) ?_
  refine lv_if_ge (tgt := 38) hx hb (qaa qe8 3 rfl) (by decide) (fun c6 => ?_) (fun c6 => ?_)
  · have hw := hw.1 c6
    refine lv_iload_n hx hb (qaa qe8 6 rfl) rfl (lv_at hl 0 rfl) ?_
    refine lv_bipush (v := 60) hx hb (qaa qe8 7 rfl) (by decide) ?_
    refine lv_icmp_le (tgt := 49) hx hb (qaa qe8 8 rfl) (by decide) (fun c7 => ?_) (fun c7 => ?_)
    · have hw := hw.1 c7
      refine lv_iload_n hx hb (qaa qe8 11 rfl) rfl (lv_at hl 0 rfl) ?_
      exact ((W.iret (v := s0) hx hb hr (fun t ht hW => ⟨⟨s0, (jca), rfl, hw, by rw [ht]; exact hP, va_K.moved hW.alike hK, hD⟩, hS.F ht⟩) hS.2.2 (qaa qe8 12 rfl)))
    · have hw := hw.2 c7
      refine lv_bipush (v := 60) hx hb (qaa qe8 9 rfl) (by decide) ?_
      refine lv_goto (tgt := 50) hx hb (qaa qe8 10 rfl) (by decide) ?_
      exact ((W.iret (v := 60) hx hb hr (fun t ht hW => ⟨⟨60, (jca), rfl, hw, by rw [ht]; exact hP, va_K.moved hW.alike hK, hD⟩, hS.F ht⟩) hS.2.2 (qaa qe8 12 rfl)))
  · have hw := hw.2 c6
    refine lv_iconst (v := 0) hx hb (qaa qe8 4 rfl) (by decide) ?_
    refine lv_goto (tgt := 50) hx hb (qaa qe8 5 rfl) (by decide) ?_
    exact ((W.iret (v := 0) hx hb hr (fun t ht hW => ⟨⟨0, (jca), rfl, hw, by rw [ht]; exact hP, va_K.moved hW.alike hK, hD⟩, hS.F ht⟩) hS.2.2 (qaa qe8 12 rfl)))
set_option maxHeartbeats 4000000 in
set_option maxRecDepth 100000 in
theorem qaFa (l : Launch) (dC : Nat → ClassId) (dI : Nat → Nat → Nat) (cyB cyI cyJ cyP : ClassId) (a0 jbB jbG jbg jbu sz : Nat) (jaX jaF jaD ja7 jby jbe jaM jaY jap jaK jal jam jax jao ja6 jaV ja8 jae jag jaf ja0 ja4 jaP jaw jaI jan jar jaL jah jaB jaa jaz jaH jab ja2 z0_s jaq jai jaO jaA jat jau jav jaj jas jaJ jak jad jay jac : Value) (jbD : Int32) (jcu jbR jbZ jca : NI) {Q : Int32 → NI → Prop} (hw : qKq jbD jcu jbR jbZ jca Q) : Met l yX11_leapNow wsX11_leapNow ({ frames := 2, cells := 0, slots := 0, locals := 45 }) (va_Pc [.ref a0] (cPc (dC, dI) (kT cyB cyI cyJ cyP) (qk7 a0 jaX jaF jaD ja7 jby jbe jaM jaY jap jaK jal jam jax jao ja6 jaV ja8 jae jag jaf ja0 ja4 jaP jaw jaI jbG jbg jbB jan jbD jbu jar jaL jah jaB jaa jaz jaH jab ja2 z0_s jaq jai jaO jaA jat jau jav jaj jas jaJ jak jad jay jac jbB cyI jca jbG cyI jcu jbg cyI jbR jbu cyI jbZ) sz)) (va_Qi (fun (r : Int32) (u : NI) => Q r u) (cB (dC, dI) (kT cyB cyI cyJ cyP) (va_A (qk7 a0 jaX jaF jaD ja7 jby jbe jaM jaY jap jaK jal jam jax jao ja6 jaV ja8 jae jag jaf ja0 ja4 jaP jaw jaI jbG jbg jbB jan jbD jbu jar jaL jah jaB jaa jaz jaH jab ja2 z0_s jaq jai jaO jaA jat jau jav jaj jas jaJ jak jad jay jac jbB cyI jca jbG cyI jcu jbg cyI jbR jbu cyI jbZ) sz) (fun u : NI => ((qk7 a0 jaX jaF jaD ja7 jby jbe jaM jaY jap jaK jal jam jax jao ja6 jaV ja8 jae jag jaf ja0 ja4 jaP jaw jaI jbG jbg jbB jan jbD jbu jar jaL jah jaB jaa jaz jaH jab ja2 z0_s jaq jai jaO jaA jat jau jav jaj jas jaJ jak jad jay jac jbB cyI u jbG cyI jcu jbg cyI jbR jbu cyI jbZ) : va_W))) (va_A (qk7 a0 jaX jaF jaD ja7 jby jbe jaM jaY jap jaK jal jam jax jao ja6 jaV ja8 jae jag jaf ja0 ja4 jaP jaw jaI jbG jbg jbB jan jbD jbu jar jaL jah jaB jaa jaz jaH jab ja2 z0_s jaq jai jaO jaA jat jau jav jaj jas jaJ jak jad jay jac jbB cyI jca jbG cyI jcu jbg cyI jbR jbu cyI jbZ) sz)) 0 0 (va_A (qk7 a0 jaX jaF jaD ja7 jby jbe jaM jaY jap jaK jal jam jax jao ja6 jaV ja8 jae jag jaf ja0 ja4 jaP jaw jaI jbG jbg jbB jan jbD jbu jar jaL jah jaB jaa jaz jaH jab ja2 z0_s jaq jai jaO jaA jat jau jav jaj jas jaJ jak jad jay jac jbB cyI jca jbG cyI jcu jbg cyI jbR jbu cyI jbZ) sz) := by
  refine Met.ofW (cc := cX11_leapNow) (maxL := 2) (ret := (some .int)) (by decide) rfl ?_
  intro p e s m args below meth c s₁ B hml hv
  obtain ⟨rfl, hsz, hP, hK, hD0, hNw⟩ := hv
  have hx := B.exec
  have hb := B.bytes
  have hr := B.returns
  have hts := atoms_spec (ws := wsX11_leapNow) B.pre
  have hown : s.vm.findClass RX11 = some m.cls := findClass_of_methodNamed B.named
  have hlocks := B.notSynchronized
  subst hsz
  have hD := hD0.self (sz := s.heap.size)
  generalize hAe : va_A (qk7 a0 jaX jaF jaD ja7 jby jbe jaM jaY jap jaK jal jam jax jao ja6 jaV ja8 jae jag jaf ja0 ja4 jaP jaw jaI jbG jbg jbB jan jbD jbu jar jaL jah jaB jaa jaz jaH jab ja2 z0_s jaq jai jaO jaA jat jau jav jaj jas jaJ jak jad jay jac jbB cyI jca jbG cyI jcu jbg cyI jbR jbu cyI jbZ) s.heap.size = A at hD ⊢
  have hA : ∀ q : Nat, s.heap.size ≤ q → A q := fun q h => by rw [← hAe]; exact Or.inr h
  have hS : va_S A s.heap s.heap [] := va_S.rf
  have hP : va_P (dC, dI) vwCl (qk7 a0 jaX jaF jaD ja7 jby jbe jaM jaY jap jaK jal jam jax jao ja6 jaV ja8 jae jag jaf ja0 ja4 jaP jaw jaI jbG jbg jbB jan jbD jbu jar jaL jah jaB jaa jaz jaH jab ja2 z0_s jaq jai jaO jaA jat jau jav jaj jas jaJ jak jad jay jac jbB cyI jca jbG cyI jcu jbg cyI jbR jbu cyI jbZ) s.heap := hP
  have hl := lv_entry ([.ref a0]) (n := 2) (nbq rfl)
  rw [lg_entry_eq]
  generalize (lg_sl ([.ref a0]) ++ List.replicate (2 - (lg_sl ([.ref a0])).length) Slot.unset).toArray = ls at hl ⊢
  have hl : lv_has ls 2 [(0, .ref a0)] := hl
  have C0 : cfx p s m _ meth c cX11_leapNow (some .int) wsX11_leapNow RX11 2 A (dC, dI) (kT cyB cyI cyJ cyP) := ⟨hx, hb, hr, hts, hown, hlocks, hml, hA, hK, hNw⟩
  clear hAe
  obtain ⟨H, hH⟩ : ∃ H, H = s.heap := ⟨_, rfl⟩
  rw [← hH] at hP ⊢
  have hS : va_S A s.heap H [] := by rw [hH]; exact va_S.rf
  have hS := hS
  refine lv_aload_n hx hb (qaa qfA 0 rfl) rfl (lv_at hl 0 rfl) ?_
  refine va_get (D := (dC, dI)) (ci := 11) (v := .int jbD) (C := RX11) (T := TX11) (N := 55) hx hb hts qIT hown hK hP 0 rfl rfl 29 (by decide) (hts _ q8H) (fun _ h9 => h9) rfl (qaa qfA 1 rfl) ?_
  refine lv_if_ne (tgt := 25) hx hb (qaa qfA 2 rfl) (by decide) (fun c1 => ?_) (fun c1 => ?_)
  · have hw := hw.1 c1
    refine lv_aload_n hx hb (qaa qfA 15 rfl) rfl (lv_at hl 0 rfl) ?_
    obtain ⟨hCc, hPc, hDc, hFc⟩ := qac (ws' := (qk7 a0 jaX jaF jaD ja7 jby jbe jaM jaY jap jaK jal jam jax jao ja6 jaV ja8 jae jag jaf ja0 ja4 jaP jaw jaI jbG jbg jbB jan jbD jbu jar jaL jah jaB jaa jaz jaH jab ja2 z0_s jaq jai jaO jaA jat jau jav jaj jas jaJ jak jad jay jac jbB cyI jca jbG cyI jcu jbg cyI jbR jbu cyI jbZ)) hP hD hS hA [0, 1, 2, 3, 4] (by decide +kernel) rfl
    refine va_calli (va_runV (As := []) (rest := []) ⟨hx, hb, hml, hown, hts⟩ (qaCa l dC dI cyB cyI cyJ cyP a0 jbB jbG jbu jbg H.size (jaX) (jaF) (jaD) (ja7) (jby) (jbe) (jaM) (jaY) (jap) (jaK) (jal) (jam) (jax) (jao) (ja6) (jaV) (ja8) (jae) (jag) (jaf) (ja0) (ja4) (jaP) (jaw) (jaI) (jan) (jar) (jaL) (jah) (jaB) (jaa) (jaz) (jaH) (jab) (ja2) (z0_s) (jaq) (jai) (jaO) (jaA) (jat) (jau) (jav) (jaj) (jas) (jaJ) (jak) (jad) (jay) (jac) jbD jcu jbR jbZ jca hw) (cwV 0 hts gX11_leapNow_X11_valueNow rfl rfl rfl (by decide +kernel) ⟨nbq rfl, nbq rfl⟩) ⟨qab, va_recv (q := (RX11, TX11, 55)) hK hPc (ci := 11) (q0 := 0) rfl rfl, qae hPc hK hDc hNw⟩ rfl rfl hl.1 rfl (lv_room (nbq rfl)) (qaa qe8 0 rfl) ⟨nbq rfl, nbq rfl⟩) hS (fun q _ h => hFc q h) hFc (fun r3 u t H1 locs ht hvm hw hB hz1 hk1 hS => ?_)
    obtain ⟨f2, rfl⟩ : ∃ z, z = u := ⟨_, rfl⟩
    obtain ⟨hP1, hK1, hD1⟩ := hB
    rw [ht] at hP1
    obtain ⟨hP, hD⟩ := qah (wr := []) (w1 := (qk7 a0 jaX jaF jaD ja7 jby jbe jaM jaY jap jaK jal jam jax jao ja6 jaV ja8 jae jag jaf ja0 ja4 jaP jaw jaI jbG jbg jbB jan jbD jbu jar jaL jah jaB jaa jaz jaH jab ja2 z0_s jaq jai jaO jaA jat jau jav jaj jas jaJ jak jad jay jac jbB cyI f2 jbG cyI jcu jbg cyI jbR jbu cyI jbZ)) (wn := (qk7 a0 jaX jaF jaD ja7 jby jbe jaM jaY jap jaK jal jam jax jao ja6 jaV ja8 jae jag jaf ja0 ja4 jaP jaw jaI jbG jbg jbB jan jbD jbu jar jaL jah jaB jaa jaz jaH jab ja2 z0_s jaq jai jaO jaA jat jau jav jaj jas jaJ jak jad jay jac jbB cyI f2 jbG cyI jcu jbg cyI jbR jbu cyI jbZ)) hP hD [0, 1, 2, 3, 4] [] hCc rfl (by decide +kernel) (by decide +kernel) rfl hk1 hFc hP1 hD1
    generalize H1 = H at hP hS ⊢
    exact qU4 dC dI cyB cyI cyJ cyP a0 jbB jbG jbg jbu jaX jaF jaD ja7 jby jbe jaM jaY jap jaK jal jam jax jao ja6 jaV ja8 jae jag jaf ja0 ja4 jaP jaw jaI jan jar jaL jah jaB jaa jaz jaH jab ja2 z0_s jaq jai jaO jaA jat jau jav jaj jas jaJ jak jad jay jac jbD jcu jbR jbZ Q C0 _ _ _ f2 r3 hP hD hS (lv_sub hl [] rfl) hw
  · have hw := hw.2 c1
    refine lv_iconst (v := 4) hx hb (qaa qfA 3 rfl) (by decide) ?_
    refine lv_aload_n hx hb (qaa qfA 4 rfl) rfl (lv_at hl 0 rfl) ?_
    refine va_get (D := (dC, dI)) (ci := 11) (v := .ref jbu) (C := RX11) (T := TX11) (N := 55) hx hb hts qIT hown hK hP 0 rfl rfl 30 (by decide) (hts _ qSn) (fun _ h9 => h9) rfl (qaa qfA 5 rfl) ?_
    refine lv_iconst (v := 0) hx hb (qaa qfA 6 rfl) (by decide) ?_
    refine va_iald hx hb hK hP 4 1 rfl rfl (vin (by decide)) (qaa qfA 7 rfl) ?_
    refine lv_topi (fun x4 ex4 => ?_)
    have hw := hw x4 ex4
    refine lv_iadd hx hb (qaa qfA 8 rfl) ?_
    refine lv_aload_n hx hb (qaa qfA 9 rfl) rfl (lv_at hl 0 rfl) ?_
    refine va_get (D := (dC, dI)) (ci := 11) (v := .ref jbu) (C := RX11) (T := TX11) (N := 55) hx hb hts qIT hown hK hP 0 rfl rfl 30 (by decide) (hts _ qSn) (fun _ h9 => h9) rfl (qaa qfA 10 rfl) ?_
    refine lv_iconst (v := 1) hx hb (qaa qfA 11 rfl) (by decide) ?_
    refine va_iald hx hb hK hP 4 1 rfl rfl (vin (by decide)) (qaa qfA 12 rfl) ?_
    refine lv_topi (fun x5 ex5 => ?_)
    have hw := hw x5 ex5
    refine lv_isub hx hb (qaa qfA 13 rfl) ?_
    refine lv_goto (tgt := 29) hx hb (qaa qfA 14 rfl) (by decide) ?_
    exact qU4 dC dI cyB cyI cyJ cyP a0 jbB jbG jbg jbu jaX jaF jaD ja7 jby jbe jaM jaY jap jaK jal jam jax jao ja6 jaV ja8 jae jag jaf ja0 ja4 jaP jaw jaI jan jar jaL jah jaB jaa jaz jaH jab ja2 z0_s jaq jai jaO jaA jat jau jav jaj jas jaJ jak jad jay jac jbD jcu jbR jbZ Q C0 _ _ _ jca ((4 + x4) - x5) hP hD hS (lv_sub hl [] rfl) hw
theorem qrs : ∀ w ∈ u_ws RX11 TX11 55, w ∈ wsX11_leapOf := uiM qRT qfa (by decide +kernel)
theorem qre : (.fieldLink RX11 59 "MarchHaresModel" "facts" "[I" : Cond) ∈ wsX11_leapOf := qRT 453 (by decide +kernel)
set_option maxHeartbeats 4000000 in
set_option maxRecDepth 100000 in
theorem qaie (l : Launch) (dC : Nat → ClassId) (dI : Nat → Nat → Nat) (cyB cyI cyJ cyP : ClassId) (a0 jbu jbB jbG jbg sz : Nat) (jaX jaF jaD ja7 jby jbe jaM jaY jap jaK jal jam jax jao ja6 jaV ja8 jae jag jaf ja0 ja4 jaP jaw jaI jan jar jaL jah jaB jaa jaz jaH jab ja2 z0_s jaq jai jaO jaA jat jau jav jaj jas jaJ jak jad jay jac : Value) (jbD : Int32) (jcu jbR jbZ jca : NI) (p1 p2 p3 p4 p5 p6 p7 p8 : Int32) {Q : Int32 → NI → NI → Prop} (hw : qGT jbD jcu jbR jbZ jca p1 p2 p3 p4 p5 p6 p7 p8 Q) : Met l yX11_leapOf wsX11_leapOf ({ frames := 3, cells := 0, slots := 0, locals := 66 }) (va_Pc [.ref a0, .int p1, .int p2, .int p3, .int p4, .int p5, .int p6, .int p7, .int p8] (cPc (dC, dI) (kT cyB cyI cyJ cyP) (qu5 a0 jaX jaF jaD ja7 jby jbe jaM jaY jap jaK jal jam jax jao ja6 jaV ja8 jae jag jaf ja0 ja4 jaP jaw jaI jbG jbg jbB jan jbD jbu jar jaL jah jaB jaa jaz jaH jab ja2 z0_s jaq jai jaO jaA jat jau jav jaj jas jaJ jak jad jay jac jbu cyI jbZ jbB cyI jca jbG cyI jcu jbg cyI jbR) sz)) (va_Qi (fun (r : Int32) (u : NI × NI) => Q r u.1 u.2) (cB (dC, dI) (kT cyB cyI cyJ cyP) (va_A (qu5 a0 jaX jaF jaD ja7 jby jbe jaM jaY jap jaK jal jam jax jao ja6 jaV ja8 jae jag jaf ja0 ja4 jaP jaw jaI jbG jbg jbB jan jbD jbu jar jaL jah jaB jaa jaz jaH jab ja2 z0_s jaq jai jaO jaA jat jau jav jaj jas jaJ jak jad jay jac jbu cyI jbZ jbB cyI jca jbG cyI jcu jbg cyI jbR) sz) (fun u : NI × NI => ((qu5 a0 jaX jaF jaD ja7 jby jbe jaM jaY jap jaK jal jam jax jao ja6 jaV ja8 jae jag jaf ja0 ja4 jaP jaw jaI jbG jbg jbB jan jbD jbu jar jaL jah jaB jaa jaz jaH jab ja2 z0_s jaq jai jaO jaA jat jau jav jaj jas jaJ jak jad jay jac jbu cyI u.1 jbB cyI u.2 jbG cyI jcu jbg cyI jbR) : va_W))) (va_A (qu5 a0 jaX jaF jaD ja7 jby jbe jaM jaY jap jaK jal jam jax jao ja6 jaV ja8 jae jag jaf ja0 ja4 jaP jaw jaI jbG jbg jbB jan jbD jbu jar jaL jah jaB jaa jaz jaH jab ja2 z0_s jaq jai jaO jaA jat jau jav jaj jas jaJ jak jad jay jac jbu cyI jbZ jbB cyI jca jbG cyI jcu jbg cyI jbR) sz)) 0 0 (va_A (qu5 a0 jaX jaF jaD ja7 jby jbe jaM jaY jap jaK jal jam jax jao ja6 jaV ja8 jae jag jaf ja0 ja4 jaP jaw jaI jbG jbg jbB jan jbD jbu jar jaL jah jaB jaa jaz jaH jab ja2 z0_s jaq jai jaO jaA jat jau jav jaj jas jaJ jak jad jay jac jbu cyI jbZ jbB cyI jca jbG cyI jcu jbg cyI jbR) sz) := by
  refine Met.ofW (cc := cX11_leapOf) (maxL := 9) (ret := (some .int)) (by decide) rfl ?_
  intro p e s m args below meth c s₁ B hml hv
  obtain ⟨rfl, hsz, hP, hK, hD0, hNw⟩ := hv
  have hx := B.exec
  have hb := B.bytes
  have hr := B.returns
  have hts := atoms_spec (ws := wsX11_leapOf) B.pre
  have hown : s.vm.findClass RX11 = some m.cls := findClass_of_methodNamed B.named
  have hlocks := B.notSynchronized
  subst hsz
  have hD := hD0.self (sz := s.heap.size)
  generalize hAe : va_A (qu5 a0 jaX jaF jaD ja7 jby jbe jaM jaY jap jaK jal jam jax jao ja6 jaV ja8 jae jag jaf ja0 ja4 jaP jaw jaI jbG jbg jbB jan jbD jbu jar jaL jah jaB jaa jaz jaH jab ja2 z0_s jaq jai jaO jaA jat jau jav jaj jas jaJ jak jad jay jac jbu cyI jbZ jbB cyI jca jbG cyI jcu jbg cyI jbR) s.heap.size = A at hD ⊢
  have hA : ∀ q : Nat, s.heap.size ≤ q → A q := fun q h => by rw [← hAe]; exact Or.inr h
  have hS : va_S A s.heap s.heap [] := va_S.rf
  have hP : va_P (dC, dI) vwCl (qu5 a0 jaX jaF jaD ja7 jby jbe jaM jaY jap jaK jal jam jax jao ja6 jaV ja8 jae jag jaf ja0 ja4 jaP jaw jaI jbG jbg jbB jan jbD jbu jar jaL jah jaB jaa jaz jaH jab ja2 z0_s jaq jai jaO jaA jat jau jav jaj jas jaJ jak jad jay jac jbu cyI jbZ jbB cyI jca jbG cyI jcu jbg cyI jbR) s.heap := hP
  have hl := lv_entry ([.ref a0, .int p1, .int p2, .int p3, .int p4, .int p5, .int p6, .int p7, .int p8]) (n := 9) (nbq rfl)
  rw [lg_entry_eq]
  generalize (lg_sl ([.ref a0, .int p1, .int p2, .int p3, .int p4, .int p5, .int p6, .int p7, .int p8]) ++ List.replicate (9 - (lg_sl ([.ref a0, .int p1, .int p2, .int p3, .int p4, .int p5, .int p6, .int p7, .int p8])).length) Slot.unset).toArray = ls at hl ⊢
  have hl : lv_has ls 9 [(0, .ref a0), (1, .int p1), (2, .int p2), (3, .int p3), (4, .int p4), (5, .int p5), (6, .int p6), (7, .int p7), (8, .int p8)] := hl
  have C0 : cfx p s m _ meth c cX11_leapOf (some .int) wsX11_leapOf RX11 9 A (dC, dI) (kT cyB cyI cyJ cyP) := ⟨hx, hb, hr, hts, hown, hlocks, hml, hA, hK, hNw⟩
  clear hAe
  obtain ⟨H, hH⟩ : ∃ H, H = s.heap := ⟨_, rfl⟩
  rw [← hH] at hP ⊢
  have hS : va_S A s.heap H [] := by rw [hH]; exact va_S.rf
  have hS := hS
  refine lv_aload_n hx hb (qaa qgS 0 rfl) rfl (lv_at hl 0 rfl) ?_
  refine va_get (D := (dC, dI)) (ci := 11) (v := .ref jbu) (C := RX11) (T := TX11) (N := 55) hx hb hts qrs hown hK hP 0 rfl rfl 30 (by decide) (hts _ qre) (fun _ h9 => h9) rfl (qaa qgS 1 rfl) ?_
  refine lv_iconst (v := 0) hx hb (qaa qgS 2 rfl) (by decide) ?_
  refine lv_iload_n hx hb (qaa qgS 3 rfl) rfl (lv_at hl 1 rfl) ?_
  refine va_iast hx hb hK hP hD hS 1 1 rfl rfl (vin (by decide)) (qaa qgS 4 rfl) (fun H locs hP hD hS => ?_)
  obtain ⟨f1, ef1⟩ : ∃ y : NI, y = upd jbZ (0 : Int32).toNatClampNeg p1 := ⟨_, rfl⟩
  have hw := hw f1 ef1
  have hP : va_P (dC, dI) vwCl (qu5 a0 jaX jaF jaD ja7 jby jbe jaM jaY jap jaK jal jam jax jao ja6 jaV ja8 jae jag jaf ja0 ja4 jaP jaw jaI jbG jbg jbB jan jbD jbu jar jaL jah jaB jaa jaz jaH jab ja2 z0_s jaq jai jaO jaA jat jau jav jaj jas jaJ jak jad jay jac jbu cyI f1 jbB cyI jca jbG cyI jcu jbg cyI jbR) H := by rw [ef1]; exact hP
  have hD : va_D A (qu5 a0 jaX jaF jaD ja7 jby jbe jaM jaY jap jaK jal jam jax jao ja6 jaV ja8 jae jag jaf ja0 ja4 jaP jaw jaI jbG jbg jbB jan jbD jbu jar jaL jah jaB jaa jaz jaH jab ja2 z0_s jaq jai jaO jaA jat jau jav jaj jas jaJ jak jad jay jac jbu cyI f1 jbB cyI jca jbG cyI jcu jbg cyI jbR) := by rw [ef1]; exact hD
  refine lv_aload_n hx hb (qaa qgS 5 rfl) rfl (lv_at hl 0 rfl) ?_
  refine va_get (D := (dC, dI)) (ci := 11) (v := .ref jbu) (C := RX11) (T := TX11) (N := 55) hx hb hts qrs hown hK hP 0 rfl rfl 30 (by decide) (hts _ qre) (fun _ h9 => h9) rfl (qaa qgS 6 rfl) ?_
  refine lv_iconst (v := 1) hx hb (qaa qgS 7 rfl) (by decide) ?_
  refine lv_iload_n hx hb (qaa qgS 8 rfl) rfl (lv_at hl 2 rfl) ?_
  refine va_iast hx hb hK hP hD hS 1 1 rfl rfl (vin (by decide)) (qaa qgS 9 rfl) (fun H locs hP hD hS => ?_)
  obtain ⟨f2, ef2⟩ : ∃ y : NI, y = upd f1 (1 : Int32).toNatClampNeg p2 := ⟨_, rfl⟩
  have hw := hw f2 ef2
  have hP : va_P (dC, dI) vwCl (qu5 a0 jaX jaF jaD ja7 jby jbe jaM jaY jap jaK jal jam jax jao ja6 jaV ja8 jae jag jaf ja0 ja4 jaP jaw jaI jbG jbg jbB jan jbD jbu jar jaL jah jaB jaa jaz jaH jab ja2 z0_s jaq jai jaO jaA jat jau jav jaj jas jaJ jak jad jay jac jbu cyI f2 jbB cyI jca jbG cyI jcu jbg cyI jbR) H := by rw [ef2]; exact hP
  have hD : va_D A (qu5 a0 jaX jaF jaD ja7 jby jbe jaM jaY jap jaK jal jam jax jao ja6 jaV ja8 jae jag jaf ja0 ja4 jaP jaw jaI jbG jbg jbB jan jbD jbu jar jaL jah jaB jaa jaz jaH jab ja2 z0_s jaq jai jaO jaA jat jau jav jaj jas jaJ jak jad jay jac jbu cyI f2 jbB cyI jca jbG cyI jcu jbg cyI jbR) := by rw [ef2]; exact hD
  refine lv_aload_n hx hb (qaa qgS 10 rfl) rfl (lv_at hl 0 rfl) ?_
  refine va_get (D := (dC, dI)) (ci := 11) (v := .ref jbu) (C := RX11) (T := TX11) (N := 55) hx hb hts qrs hown hK hP 0 rfl rfl 30 (by decide) (hts _ qre) (fun _ h9 => h9) rfl (qaa qgS 11 rfl) ?_
  refine lv_iconst (v := 2) hx hb (qaa qgS 12 rfl) (by decide) ?_
  refine lv_iload_n hx hb (qaa qgS 13 rfl) rfl (lv_at hl 3 rfl) ?_
  refine va_iast hx hb hK hP hD hS 1 1 rfl rfl (vin (by decide)) (qaa qgS 14 rfl) (fun H locs hP hD hS => ?_)
  obtain ⟨f3, ef3⟩ : ∃ y : NI, y = upd f2 (2 : Int32).toNatClampNeg p3 := ⟨_, rfl⟩
  have hw := hw f3 ef3
  have hP : va_P (dC, dI) vwCl (qu5 a0 jaX jaF jaD ja7 jby jbe jaM jaY jap jaK jal jam jax jao ja6 jaV ja8 jae jag jaf ja0 ja4 jaP jaw jaI jbG jbg jbB jan jbD jbu jar jaL jah jaB jaa jaz jaH jab ja2 z0_s jaq jai jaO jaA jat jau jav jaj jas jaJ jak jad jay jac jbu cyI f3 jbB cyI jca jbG cyI jcu jbg cyI jbR) H := by rw [ef3]; exact hP
  have hD : va_D A (qu5 a0 jaX jaF jaD ja7 jby jbe jaM jaY jap jaK jal jam jax jao ja6 jaV ja8 jae jag jaf ja0 ja4 jaP jaw jaI jbG jbg jbB jan jbD jbu jar jaL jah jaB jaa jaz jaH jab ja2 z0_s jaq jai jaO jaA jat jau jav jaj jas jaJ jak jad jay jac jbu cyI f3 jbB cyI jca jbG cyI jcu jbg cyI jbR) := by rw [ef3]; exact hD
  refine lv_aload_n hx hb (qaa qgS 15 rfl) rfl (lv_at hl 0 rfl) ?_
  refine va_get (D := (dC, dI)) (ci := 11) (v := .ref jbu) (C := RX11) (T := TX11) (N := 55) hx hb hts qrs hown hK hP 0 rfl rfl 30 (by decide) (hts _ qre) (fun _ h9 => h9) rfl (qaa qfo 0 rfl) ?_
  refine lv_iconst (v := 3) hx hb (qaa qfo 1 rfl) (by decide) ?_
  refine lv_iload hx hb (qaa qfo 2 rfl) (lv_at hl 4 rfl) ?_
  refine va_iast hx hb hK hP hD hS 1 1 rfl rfl (vin (by decide)) (qaa qfo 3 rfl) (fun H locs hP hD hS => ?_)
  obtain ⟨f4, ef4⟩ : ∃ y : NI, y = upd f3 (3 : Int32).toNatClampNeg p4 := ⟨_, rfl⟩
  have hw := hw f4 ef4
  have hP : va_P (dC, dI) vwCl (qu5 a0 jaX jaF jaD ja7 jby jbe jaM jaY jap jaK jal jam jax jao ja6 jaV ja8 jae jag jaf ja0 ja4 jaP jaw jaI jbG jbg jbB jan jbD jbu jar jaL jah jaB jaa jaz jaH jab ja2 z0_s jaq jai jaO jaA jat jau jav jaj jas jaJ jak jad jay jac jbu cyI f4 jbB cyI jca jbG cyI jcu jbg cyI jbR) H := by rw [ef4]; exact hP
  have hD : va_D A (qu5 a0 jaX jaF jaD ja7 jby jbe jaM jaY jap jaK jal jam jax jao ja6 jaV ja8 jae jag jaf ja0 ja4 jaP jaw jaI jbG jbg jbB jan jbD jbu jar jaL jah jaB jaa jaz jaH jab ja2 z0_s jaq jai jaO jaA jat jau jav jaj jas jaJ jak jad jay jac jbu cyI f4 jbB cyI jca jbG cyI jcu jbg cyI jbR) := by rw [ef4]; exact hD
  refine lv_aload_n hx hb (qaa qfo 4 rfl) rfl (lv_at hl 0 rfl) ?_
  refine va_get (D := (dC, dI)) (ci := 11) (v := .ref jbu) (C := RX11) (T := TX11) (N := 55) hx hb hts qrs hown hK hP 0 rfl rfl 30 (by decide) (hts _ qre) (fun _ h9 => h9) rfl (qaa qfo 5 rfl) ?_
  refine lv_iconst (v := 4) hx hb (qaa qfo 6 rfl) (by decide) ?_
  refine lv_iload hx hb (qaa qfo 7 rfl) (lv_at hl 5 rfl) ?_
  refine va_iast hx hb hK hP hD hS 1 1 rfl rfl (vin (by decide)) (qaa qfo 8 rfl) (fun H locs hP hD hS => ?_)
  obtain ⟨f5, ef5⟩ : ∃ y : NI, y = upd f4 (4 : Int32).toNatClampNeg p5 := ⟨_, rfl⟩
  have hw := hw f5 ef5
  have hP : va_P (dC, dI) vwCl (qu5 a0 jaX jaF jaD ja7 jby jbe jaM jaY jap jaK jal jam jax jao ja6 jaV ja8 jae jag jaf ja0 ja4 jaP jaw jaI jbG jbg jbB jan jbD jbu jar jaL jah jaB jaa jaz jaH jab ja2 z0_s jaq jai jaO jaA jat jau jav jaj jas jaJ jak jad jay jac jbu cyI f5 jbB cyI jca jbG cyI jcu jbg cyI jbR) H := by rw [ef5]; exact hP
  have hD : va_D A (qu5 a0 jaX jaF jaD ja7 jby jbe jaM jaY jap jaK jal jam jax jao ja6 jaV ja8 jae jag jaf ja0 ja4 jaP jaw jaI jbG jbg jbB jan jbD jbu jar jaL jah jaB jaa jaz jaH jab ja2 z0_s jaq jai jaO jaA jat jau jav jaj jas jaJ jak jad jay jac jbu cyI f5 jbB cyI jca jbG cyI jcu jbg cyI jbR) := by rw [ef5]; exact hD
  refine lv_aload_n hx hb (qaa qfo 9 rfl) rfl (lv_at hl 0 rfl) ?_
  refine va_get (D := (dC, dI)) (ci := 11) (v := .ref jbu) (C := RX11) (T := TX11) (N := 55) hx hb hts qrs hown hK hP 0 rfl rfl 30 (by decide) (hts _ qre) (fun _ h9 => h9) rfl (qaa qfo 10 rfl) ?_
  refine lv_iconst (v := 5) hx hb (qaa qfo 11 rfl) (by decide) ?_
  refine lv_iload hx hb (qaa qfo 12 rfl) (lv_at hl 6 rfl) ?_
  refine va_iast hx hb hK hP hD hS 1 1 rfl rfl (vin (by decide)) (qaa qfo 13 rfl) (fun H locs hP hD hS => ?_)
  obtain ⟨f6, ef6⟩ : ∃ y : NI, y = upd f5 (5 : Int32).toNatClampNeg p6 := ⟨_, rfl⟩
  have hw := hw f6 ef6
  have hP : va_P (dC, dI) vwCl (qu5 a0 jaX jaF jaD ja7 jby jbe jaM jaY jap jaK jal jam jax jao ja6 jaV ja8 jae jag jaf ja0 ja4 jaP jaw jaI jbG jbg jbB jan jbD jbu jar jaL jah jaB jaa jaz jaH jab ja2 z0_s jaq jai jaO jaA jat jau jav jaj jas jaJ jak jad jay jac jbu cyI f6 jbB cyI jca jbG cyI jcu jbg cyI jbR) H := by rw [ef6]; exact hP
  have hD : va_D A (qu5 a0 jaX jaF jaD ja7 jby jbe jaM jaY jap jaK jal jam jax jao ja6 jaV ja8 jae jag jaf ja0 ja4 jaP jaw jaI jbG jbg jbB jan jbD jbu jar jaL jah jaB jaa jaz jaH jab ja2 z0_s jaq jai jaO jaA jat jau jav jaj jas jaJ jak jad jay jac jbu cyI f6 jbB cyI jca jbG cyI jcu jbg cyI jbR) := by rw [ef6]; exact hD
  refine lv_aload_n hx hb (qaa qfo 14 rfl) rfl (lv_at hl 0 rfl) ?_
  refine va_get (D := (dC, dI)) (ci := 11) (v := .ref jbu) (C := RX11) (T := TX11) (N := 55) hx hb hts qrs hown hK hP 0 rfl rfl 30 (by decide) (hts _ qre) (fun _ h9 => h9) rfl (qaa qfo 15 rfl) ?_
  refine lv_bipush (v := 6) hx hb (qaa qnX 0 rfl) (by decide) ?_
  refine lv_iload hx hb (qaa qnX 1 rfl) (lv_at hl 7 rfl) ?_
  refine va_iast hx hb hK hP hD hS 1 1 rfl rfl (vin (by decide)) (qaa qnX 2 rfl) (fun H locs hP hD hS => ?_)
  obtain ⟨f7, ef7⟩ : ∃ y : NI, y = upd f6 (6 : Int32).toNatClampNeg p7 := ⟨_, rfl⟩
  have hw := hw f7 ef7
  have hP : va_P (dC, dI) vwCl (qu5 a0 jaX jaF jaD ja7 jby jbe jaM jaY jap jaK jal jam jax jao ja6 jaV ja8 jae jag jaf ja0 ja4 jaP jaw jaI jbG jbg jbB jan jbD jbu jar jaL jah jaB jaa jaz jaH jab ja2 z0_s jaq jai jaO jaA jat jau jav jaj jas jaJ jak jad jay jac jbu cyI f7 jbB cyI jca jbG cyI jcu jbg cyI jbR) H := by rw [ef7]; exact hP
  have hD : va_D A (qu5 a0 jaX jaF jaD ja7 jby jbe jaM jaY jap jaK jal jam jax jao ja6 jaV ja8 jae jag jaf ja0 ja4 jaP jaw jaI jbG jbg jbB jan jbD jbu jar jaL jah jaB jaa jaz jaH jab ja2 z0_s jaq jai jaO jaA jat jau jav jaj jas jaJ jak jad jay jac jbu cyI f7 jbB cyI jca jbG cyI jcu jbg cyI jbR) := by rw [ef7]; exact hD
  refine lv_aload_n hx hb (qaa qnX 3 rfl) rfl (lv_at hl 0 rfl) ?_
  refine va_get (D := (dC, dI)) (ci := 11) (v := .ref jbu) (C := RX11) (T := TX11) (N := 55) hx hb hts qrs hown hK hP 0 rfl rfl 30 (by decide) (hts _ qre) (fun _ h9 => h9) rfl (qaa qnX 4 rfl) ?_
  refine lv_bipush (v := 7) hx hb (qaa qnX 5 rfl) (by decide) ?_
  refine lv_iload hx hb (qaa qnX 6 rfl) (lv_at hl 8 rfl) ?_
  refine va_iast hx hb hK hP hD hS 1 1 rfl rfl (vin (by decide)) (qaa qnX 7 rfl) (fun H locs hP hD hS => ?_)
  obtain ⟨f8, ef8⟩ : ∃ y : NI, y = upd f7 (7 : Int32).toNatClampNeg p8 := ⟨_, rfl⟩
  have hw := hw f8 ef8
  have hP : va_P (dC, dI) vwCl (qu5 a0 jaX jaF jaD ja7 jby jbe jaM jaY jap jaK jal jam jax jao ja6 jaV ja8 jae jag jaf ja0 ja4 jaP jaw jaI jbG jbg jbB jan jbD jbu jar jaL jah jaB jaa jaz jaH jab ja2 z0_s jaq jai jaO jaA jat jau jav jaj jas jaJ jak jad jay jac jbu cyI f8 jbB cyI jca jbG cyI jcu jbg cyI jbR) H := by rw [ef8]; exact hP
  have hD : va_D A (qu5 a0 jaX jaF jaD ja7 jby jbe jaM jaY jap jaK jal jam jax jao ja6 jaV ja8 jae jag jaf ja0 ja4 jaP jaw jaI jbG jbg jbB jan jbD jbu jar jaL jah jaB jaa jaz jaH jab ja2 z0_s jaq jai jaO jaA jat jau jav jaj jas jaJ jak jad jay jac jbu cyI f8 jbB cyI jca jbG cyI jcu jbg cyI jbR) := by rw [ef8]; exact hD
  refine lv_aload_n hx hb (qaa qnX 8 rfl) rfl (lv_at hl 0 rfl) ?_
  obtain ⟨hCc, hPc, hDc, hFc⟩ := qac (ws' := (qk7 a0 jaX jaF jaD ja7 jby jbe jaM jaY jap jaK jal jam jax jao ja6 jaV ja8 jae jag jaf ja0 ja4 jaP jaw jaI jbG jbg jbB jan jbD jbu jar jaL jah jaB jaa jaz jaH jab ja2 z0_s jaq jai jaO jaA jat jau jav jaj jas jaJ jak jad jay jac jbB cyI jca jbG cyI jcu jbg cyI jbR jbu cyI f8)) hP hD hS hA [0, 2, 3, 4, 1] (by decide +kernel) rfl
  refine va_calli (va_runV (As := []) (rest := []) ⟨hx, hb, hml, hown, hts⟩ (qaFa l dC dI cyB cyI cyJ cyP a0 jbB jbG jbg jbu H.size (jaX) (jaF) (jaD) (ja7) (jby) (jbe) (jaM) (jaY) (jap) (jaK) (jal) (jam) (jax) (jao) (ja6) (jaV) (ja8) (jae) (jag) (jaf) (ja0) (ja4) (jaP) (jaw) (jaI) (jan) (jar) (jaL) (jah) (jaB) (jaa) (jaz) (jaH) (jab) (ja2) (z0_s) (jaq) (jai) (jaO) (jaA) (jat) (jau) (jav) (jaj) (jas) (jaJ) (jak) (jad) (jay) (jac) jbD jcu jbR f8 jca hw) (cwV 0 hts gX11_leapOf_X11_leapNow rfl rfl rfl (by decide +kernel) ⟨nbq rfl, nbq rfl⟩) ⟨qab, va_recv (q := (RX11, TX11, 55)) hK hPc (ci := 11) (q0 := 0) rfl rfl, qae hPc hK hDc hNw⟩ rfl rfl hl.1 rfl (lv_room (nbq rfl)) (qaa qnX 9 rfl) ⟨nbq rfl, nbq rfl⟩) hS (fun q _ h => hFc q h) hFc (fun r10 u t H1 locs ht hvm hw hB hz1 hk1 hS => ?_)
  obtain ⟨f9, rfl⟩ : ∃ z, z = u := ⟨_, rfl⟩
  obtain ⟨hP1, hK1, hD1⟩ := hB
  rw [ht] at hP1
  obtain ⟨hP, hD⟩ := qad (wr := []) (w1 := (qk7 a0 jaX jaF jaD ja7 jby jbe jaM jaY jap jaK jal jam jax jao ja6 jaV ja8 jae jag jaf ja0 ja4 jaP jaw jaI jbG jbg jbB jan jbD jbu jar jaL jah jaB jaa jaz jaH jab ja2 z0_s jaq jai jaO jaA jat jau jav jaj jas jaJ jak jad jay jac jbB cyI f9 jbG cyI jcu jbg cyI jbR jbu cyI f8)) (wn := (qu5 a0 jaX jaF jaD ja7 jby jbe jaM jaY jap jaK jal jam jax jao ja6 jaV ja8 jae jag jaf ja0 ja4 jaP jaw jaI jbG jbg jbB jan jbD jbu jar jaL jah jaB jaa jaz jaH jab ja2 z0_s jaq jai jaO jaA jat jau jav jaj jas jaJ jak jad jay jac jbu cyI f8 jbB cyI f9 jbG cyI jcu jbg cyI jbR)) hP hD [0, 2, 3, 4, 1] [] [0, 4, 1, 2, 3] hCc rfl (by decide +kernel) (by decide +kernel) (by decide +kernel) rfl hk1 hFc hP1 hD1
  generalize H1 = H at hP hS ⊢
  exact ((W.iret (v := r10) hx hb hr (fun t ht hW => ⟨⟨r10, (f8, f9), rfl, hw, by rw [ht]; exact hP, va_K.moved hW.alike hK, hD⟩, hS.F ht⟩) hS.2.2 (qaa qnX 10 rfl)))
theorem qyy : ∀ w ∈ u_ws RX11 TX11 55, w ∈ wsX11_leapBy := uiM qqk qfa (by decide +kernel)
theorem qyr : (.fieldLink RX11 71 "MarchHaresModel" "s" "[I" : Cond) ∈ wsX11_leapBy := qqk 457 (by decide +kernel)
set_option maxHeartbeats 4000000 in
set_option maxRecDepth 100000 in
theorem qW2 (l : Launch) (dC : Nat → ClassId) (dI : Nat → Nat → Nat) (cyB cyI cyJ cyP : ClassId) (a0 a0_s jbu jbB jbG jbg sz : Nat) (jaX jaF jaD ja7 jby jbe jaM jaY jap jaK jal jam jax jao ja6 jaV ja8 jae jag jaf ja0 jaP jaw jaI jan jar jaL jah jaB jaa jaz jaH jab ja2 jaq jai jaO jaA jat jau jav jaj jas jaJ jak jad jay jac : Value) (jaC jbD : Int32) (f0_s jcu jbR jbZ jca : NI) (p1 : Int32) {Q : Int32 → NI → NI → Prop} (hw : qC5 jaC jbD f0_s jcu jbR jbZ jca p1 Q) : Met l yX11_leapBy wsX11_leapBy ({ frames := 4, cells := 0, slots := 0, locals := 94 }) (va_Pc [.ref a0, .int p1] (cPc (dC, dI) (kT cyB cyI cyJ cyP) (qHR a0 jaX jaF jaD ja7 jby jbe jaM jaY jap jaK jal jam jax jao ja6 jaV ja8 jae jag jaf ja0 jaC jaP jaw jaI jbG jbg jbB jan jbD jbu jar jaL jah jaB jaa jaz jaH jab ja2 a0_s jaq jai jaO jaA jat jau jav jaj jas jaJ jak jad jay jac a0_s cyI f0_s jbu cyI jbZ jbB cyI jca jbG cyI jcu jbg cyI jbR) sz)) (va_Qi (fun (r : Int32) (u : NI × NI) => Q r u.1 u.2) (cB (dC, dI) (kT cyB cyI cyJ cyP) (va_A (qHR a0 jaX jaF jaD ja7 jby jbe jaM jaY jap jaK jal jam jax jao ja6 jaV ja8 jae jag jaf ja0 jaC jaP jaw jaI jbG jbg jbB jan jbD jbu jar jaL jah jaB jaa jaz jaH jab ja2 a0_s jaq jai jaO jaA jat jau jav jaj jas jaJ jak jad jay jac a0_s cyI f0_s jbu cyI jbZ jbB cyI jca jbG cyI jcu jbg cyI jbR) sz) (fun u : NI × NI => ((qHR a0 jaX jaF jaD ja7 jby jbe jaM jaY jap jaK jal jam jax jao ja6 jaV ja8 jae jag jaf ja0 jaC jaP jaw jaI jbG jbg jbB jan jbD jbu jar jaL jah jaB jaa jaz jaH jab ja2 a0_s jaq jai jaO jaA jat jau jav jaj jas jaJ jak jad jay jac a0_s cyI f0_s jbu cyI u.1 jbB cyI u.2 jbG cyI jcu jbg cyI jbR) : va_W))) (va_A (qHR a0 jaX jaF jaD ja7 jby jbe jaM jaY jap jaK jal jam jax jao ja6 jaV ja8 jae jag jaf ja0 jaC jaP jaw jaI jbG jbg jbB jan jbD jbu jar jaL jah jaB jaa jaz jaH jab ja2 a0_s jaq jai jaO jaA jat jau jav jaj jas jaJ jak jad jay jac a0_s cyI f0_s jbu cyI jbZ jbB cyI jca jbG cyI jcu jbg cyI jbR) sz)) 0 0 (va_A (qHR a0 jaX jaF jaD ja7 jby jbe jaM jaY jap jaK jal jam jax jao ja6 jaV ja8 jae jag jaf ja0 jaC jaP jaw jaI jbG jbg jbB jan jbD jbu jar jaL jah jaB jaa jaz jaH jab ja2 a0_s jaq jai jaO jaA jat jau jav jaj jas jaJ jak jad jay jac a0_s cyI f0_s jbu cyI jbZ jbB cyI jca jbG cyI jcu jbg cyI jbR) sz) := by
  refine Met.ofW (cc := cX11_leapBy) (maxL := 2) (ret := (some .int)) (by decide) rfl ?_
  intro p e s m args below meth c s₁ B hml hv
  obtain ⟨rfl, hsz, hP, hK, hD0, hNw⟩ := hv
  have hx := B.exec
  have hb := B.bytes
  have hr := B.returns
  have hts := atoms_spec (ws := wsX11_leapBy) B.pre
  have hown : s.vm.findClass RX11 = some m.cls := findClass_of_methodNamed B.named
  have hlocks := B.notSynchronized
  subst hsz
  have hD := hD0.self (sz := s.heap.size)
  generalize hAe : va_A (qHR a0 jaX jaF jaD ja7 jby jbe jaM jaY jap jaK jal jam jax jao ja6 jaV ja8 jae jag jaf ja0 jaC jaP jaw jaI jbG jbg jbB jan jbD jbu jar jaL jah jaB jaa jaz jaH jab ja2 a0_s jaq jai jaO jaA jat jau jav jaj jas jaJ jak jad jay jac a0_s cyI f0_s jbu cyI jbZ jbB cyI jca jbG cyI jcu jbg cyI jbR) s.heap.size = A at hD ⊢
  have hA : ∀ q : Nat, s.heap.size ≤ q → A q := fun q h => by rw [← hAe]; exact Or.inr h
  have hS : va_S A s.heap s.heap [] := va_S.rf
  have hP : va_P (dC, dI) vwCl (qHR a0 jaX jaF jaD ja7 jby jbe jaM jaY jap jaK jal jam jax jao ja6 jaV ja8 jae jag jaf ja0 jaC jaP jaw jaI jbG jbg jbB jan jbD jbu jar jaL jah jaB jaa jaz jaH jab ja2 a0_s jaq jai jaO jaA jat jau jav jaj jas jaJ jak jad jay jac a0_s cyI f0_s jbu cyI jbZ jbB cyI jca jbG cyI jcu jbg cyI jbR) s.heap := hP
  have hl := lv_entry ([.ref a0, .int p1]) (n := 2) (nbq rfl)
  rw [lg_entry_eq]
  generalize (lg_sl ([.ref a0, .int p1]) ++ List.replicate (2 - (lg_sl ([.ref a0, .int p1])).length) Slot.unset).toArray = ls at hl ⊢
  have hl : lv_has ls 2 [(0, .ref a0), (1, .int p1)] := hl
  have C0 : cfx p s m _ meth c cX11_leapBy (some .int) wsX11_leapBy RX11 2 A (dC, dI) (kT cyB cyI cyJ cyP) := ⟨hx, hb, hr, hts, hown, hlocks, hml, hA, hK, hNw⟩
  clear hAe
  obtain ⟨H, hH⟩ : ∃ H, H = s.heap := ⟨_, rfl⟩
  rw [← hH] at hP ⊢
  have hS : va_S A s.heap H [] := by rw [hH]; exact va_S.rf
  have hS := hS
  refine lv_aload_n hx hb (qaa qhN 0 rfl) rfl (lv_at hl 0 rfl) ?_
  refine lv_iload_n hx hb (qaa qhN 1 rfl) rfl (lv_at hl 1 rfl) ?_
  obtain ⟨hCc, hPc, hDc, hFc⟩ := qac (ws' := (q2j a0 jaX jaF jaD ja7 jby jbe jaM jaY jap jaK jal jam jax jao ja6 jaV ja8 jae jag jaf ja0 jaC jaP jaw jaI jbG jbg jbB jan jbD jbu jar jaL jah jaB jaa jaz jaH jab ja2 a0_s jaq jai jaO jaA jat jau jav jaj jas jaJ jak jad jay jac a0_s cyI f0_s)) hP hD hS hA [0, 1] (by decide +kernel) rfl
  refine va_calli (va_runV (As := [.int p1]) (rest := []) ⟨hx, hb, hml, hown, hts⟩ (qim l dC dI cyB cyI cyJ cyP a0 a0_s H.size (jaX) (jaF) (jaD) (ja7) (jby) (jbe) (jaM) (jaY) (jap) (jaK) (jal) (jam) (jax) (jao) (ja6) (jaV) (ja8) (jae) (jag) (jaf) (ja0) (.int jaC) (jaP) (jaw) (jaI) (.ref jbG) (.ref jbg) (.ref jbB) (jan) (.int jbD) (.ref jbu) (jar) (jaL) (jah) (jaB) (jaa) (jaz) (jaH) (jab) (ja2) (jaq) (jai) (jaO) (jaA) (jat) (jau) (jav) (jaj) (jas) (jaJ) (jak) (jad) (jay) (jac) f0_s p1 hw) (cwV 1 hts gX11_leapBy_X11_isCaught rfl rfl rfl (by decide +kernel) ⟨nbq rfl, nbq rfl⟩) ⟨qab, va_recv (q := (RX11, TX11, 55)) hK hPc (ci := 11) (q0 := 0) rfl rfl, qae hPc hK hDc hNw⟩ rfl rfl hl.1 rfl (lv_room (nbq rfl)) (qaa qhN 2 rfl) ⟨nbq rfl, nbq rfl⟩) hS (fun q _ h => hFc q h) hFc (fun r1 u t H1 locs ht hvm hw hB hz1 hk1 hS => ?_)
  obtain ⟨hP1, hK1, hD1⟩ := hB
  rw [ht] at hP1
  obtain ⟨hP, hD⟩ := qad (wr := (qaR3 jbu cyI jbZ jbB cyI jca jbG cyI jcu jbg cyI jbR)) (w1 := (q2j a0 jaX jaF jaD ja7 jby jbe jaM jaY jap jaK jal jam jax jao ja6 jaV ja8 jae jag jaf ja0 jaC jaP jaw jaI jbG jbg jbB jan jbD jbu jar jaL jah jaB jaa jaz jaH jab ja2 a0_s jaq jai jaO jaA jat jau jav jaj jas jaJ jak jad jay jac a0_s cyI f0_s)) (wn := (qHR a0 jaX jaF jaD ja7 jby jbe jaM jaY jap jaK jal jam jax jao ja6 jaV ja8 jae jag jaf ja0 jaC jaP jaw jaI jbG jbg jbB jan jbD jbu jar jaL jah jaB jaa jaz jaH jab ja2 a0_s jaq jai jaO jaA jat jau jav jaj jas jaJ jak jad jay jac a0_s cyI f0_s jbu cyI jbZ jbB cyI jca jbG cyI jcu jbg cyI jbR)) hP hD [0, 1] [2, 3, 4, 5] [4, 5, 0, 1, 2, 3] hCc rfl (by decide +kernel) (by decide +kernel) (by decide +kernel) rfl hk1 hFc hP1 hD1
  generalize H1 = H at hP hS ⊢
  refine lv_if_eq (tgt := 12) hx hb (qaa qhN 3 rfl) (by decide) (fun c2 => ?_) (fun c2 => ?_)
  · have hw := hw.1 c2
    refine lv_aload_n hx hb (qaa qhN 6 rfl) rfl (lv_at hl 0 rfl) ?_
    refine lv_aload_n hx hb (qaa qhN 7 rfl) rfl (lv_at hl 0 rfl) ?_
    refine va_get (D := (dC, dI)) (ci := 11) (v := .ref a0_s) (C := RX11) (T := TX11) (N := 55) hx hb hts qyy hown hK hP 0 rfl rfl 40 (by decide) (hts _ qyr) (fun _ h9 => h9) rfl (qaa qhN 8 rfl) ?_
    refine lv_bipush (v := 6) hx hb (qaa qhN 9 rfl) (by decide) ?_
    refine lv_iload_n hx hb (qaa qhN 10 rfl) rfl (lv_at hl 1 rfl) ?_
    refine lv_iadd hx hb (qaa qhN 11 rfl) ?_
    refine lv_topi (fun x3 ex3 => ?_)
    have hw := hw x3 ex3
    obtain ⟨hi9, hw⟩ := hw
    refine va_iald hx hb hK hP 1 1 rfl rfl hi9 (qaa qhN 12 rfl) ?_
    refine lv_topi (fun x4 ex4 => ?_)
    have hw := hw x4 ex4
    refine lv_aload_n hx hb (qaa qhN 13 rfl) rfl (lv_at hl 0 rfl) ?_
    refine va_get (D := (dC, dI)) (ci := 11) (v := .ref a0_s) (C := RX11) (T := TX11) (N := 55) hx hb hts qyy hown hK hP 0 rfl rfl 40 (by decide) (hts _ qyr) (fun _ h9 => h9) rfl (qaa qhN 14 rfl) ?_
    refine lv_bipush (v := 12) hx hb (qaa qhN 15 rfl) (by decide) ?_
    refine lv_iload_n hx hb (qaa qfw 0 rfl) rfl (lv_at hl 1 rfl) ?_
    refine lv_iadd hx hb (qaa qfw 1 rfl) ?_
    refine lv_topi (fun x5 ex5 => ?_)
    have hw := hw x5 ex5
    obtain ⟨hi9, hw⟩ := hw
    refine va_iald hx hb hK hP 1 1 rfl rfl hi9 (qaa qfw 2 rfl) ?_
    refine lv_topi (fun x6 ex6 => ?_)
    have hw := hw x6 ex6
    refine lv_aload_n hx hb (qaa qfw 3 rfl) rfl (lv_at hl 0 rfl) ?_
    refine lv_iload_n hx hb (qaa qfw 4 rfl) rfl (lv_at hl 1 rfl) ?_
    obtain ⟨hCc, hPc, hDc, hFc⟩ := qac (ws' := (q2j a0 jaX jaF jaD ja7 jby jbe jaM jaY jap jaK jal jam jax jao ja6 jaV ja8 jae jag jaf ja0 jaC jaP jaw jaI jbG jbg jbB jan jbD jbu jar jaL jah jaB jaa jaz jaH jab ja2 a0_s jaq jai jaO jaA jat jau jav jaj jas jaJ jak jad jay jac a0_s cyI f0_s)) hP hD hS hA [0, 1] (by decide +kernel) rfl
    refine va_calli (va_runV (As := [.int p1]) (rest := [.int x6, .int x4, .ref a0]) ⟨hx, hb, hml, hown, hts⟩ (qaCg l dC dI cyB cyI cyJ cyP a0 a0_s H.size (jaX) (jaF) (jaD) (ja7) (jby) (jbe) (jaM) (jaY) (jap) (jaK) (jal) (jam) (jax) (jao) (ja6) (jaV) (ja8) (jae) (jag) (jaf) (ja0) (jaP) (jaw) (jaI) (.ref jbG) (.ref jbg) (.ref jbB) (jan) (.int jbD) (.ref jbu) (jar) (jaL) (jah) (jaB) (jaa) (jaz) (jaH) (jab) (ja2) (jaq) (jai) (jaO) (jaA) (jat) (jau) (jav) (jaj) (jas) (jaJ) (jak) (jad) (jay) (jac) jaC f0_s p1 hw) (cwV 1 hts gX11_leapBy_X11_owes rfl rfl rfl (by decide +kernel) ⟨nbq rfl, nbq rfl⟩) ⟨qab, va_recv (q := (RX11, TX11, 55)) hK hPc (ci := 11) (q0 := 0) rfl rfl, qae hPc hK hDc hNw⟩ rfl rfl hl.1 rfl (lv_room (nbq rfl)) (qaa qfw 5 rfl) ⟨nbq rfl, nbq rfl⟩) hS (fun q _ h => hFc q h) hFc (fun r7 u t H1 locs ht hvm hw hB hz1 hk1 hS => ?_)
    obtain ⟨hP1, hK1, hD1⟩ := hB
    rw [ht] at hP1
    obtain ⟨hP, hD⟩ := qad (wr := (qaR3 jbu cyI jbZ jbB cyI jca jbG cyI jcu jbg cyI jbR)) (w1 := (q2j a0 jaX jaF jaD ja7 jby jbe jaM jaY jap jaK jal jam jax jao ja6 jaV ja8 jae jag jaf ja0 jaC jaP jaw jaI jbG jbg jbB jan jbD jbu jar jaL jah jaB jaa jaz jaH jab ja2 a0_s jaq jai jaO jaA jat jau jav jaj jas jaJ jak jad jay jac a0_s cyI f0_s)) (wn := (qHR a0 jaX jaF jaD ja7 jby jbe jaM jaY jap jaK jal jam jax jao ja6 jaV ja8 jae jag jaf ja0 jaC jaP jaw jaI jbG jbg jbB jan jbD jbu jar jaL jah jaB jaa jaz jaH jab ja2 a0_s jaq jai jaO jaA jat jau jav jaj jas jaJ jak jad jay jac a0_s cyI f0_s jbu cyI jbZ jbB cyI jca jbG cyI jcu jbg cyI jbR)) hP hD [0, 1] [2, 3, 4, 5] [4, 5, 0, 1, 2, 3] hCc rfl (by decide +kernel) (by decide +kernel) (by decide +kernel) rfl hk1 hFc hP1 hD1
    generalize H1 = H at hP hS ⊢
    refine lv_aload_n hx hb (qaa qfw 6 rfl) rfl (lv_at hl 0 rfl) ?_
    refine lv_iload_n hx hb (qaa qfw 7 rfl) rfl (lv_at hl 1 rfl) ?_
    obtain ⟨hCc, hPc, hDc, hFc⟩ := qac (ws' := (q2j a0 jaX jaF jaD ja7 jby jbe jaM jaY jap jaK jal jam jax jao ja6 jaV ja8 jae jag jaf ja0 jaC jaP jaw jaI jbG jbg jbB jan jbD jbu jar jaL jah jaB jaa jaz jaH jab ja2 a0_s jaq jai jaO jaA jat jau jav jaj jas jaJ jak jad jay jac a0_s cyI f0_s)) hP hD hS hA [0, 1] (by decide +kernel) rfl
    refine va_calli (va_runV (As := [.int p1]) (rest := [.int r7, .int x6, .int x4, .ref a0]) ⟨hx, hb, hml, hown, hts⟩ (qCL l dC dI cyB cyI cyJ cyP a0 a0_s H.size (jaX) (jaF) (jaD) (ja7) (jby) (jbe) (jaM) (jaY) (jap) (jaK) (jal) (jam) (jax) (jao) (ja6) (jaV) (ja8) (jae) (jag) (jaf) (ja0) (jaP) (jaw) (jaI) (.ref jbG) (.ref jbg) (.ref jbB) (jan) (.int jbD) (.ref jbu) (jar) (jaL) (jah) (jaB) (jaa) (jaz) (jaH) (jab) (ja2) (jaq) (jai) (jaO) (jaA) (jat) (jau) (jav) (jaj) (jas) (jaJ) (jak) (jad) (jay) (jac) jaC f0_s p1 hw) (cwV 1 hts gX11_leapBy_X11_isOwed rfl rfl rfl (by decide +kernel) ⟨nbq rfl, nbq rfl⟩) ⟨qab, va_recv (q := (RX11, TX11, 55)) hK hPc (ci := 11) (q0 := 0) rfl rfl, qae hPc hK hDc hNw⟩ rfl rfl hl.1 rfl (lv_room (nbq rfl)) (qaa qfw 8 rfl) ⟨nbq rfl, nbq rfl⟩) hS (fun q _ h => hFc q h) hFc (fun r8 u t H1 locs ht hvm hw hB hz1 hk1 hS => ?_)
    obtain ⟨hP1, hK1, hD1⟩ := hB
    rw [ht] at hP1
    obtain ⟨hP, hD⟩ := qad (wr := (qaR3 jbu cyI jbZ jbB cyI jca jbG cyI jcu jbg cyI jbR)) (w1 := (q2j a0 jaX jaF jaD ja7 jby jbe jaM jaY jap jaK jal jam jax jao ja6 jaV ja8 jae jag jaf ja0 jaC jaP jaw jaI jbG jbg jbB jan jbD jbu jar jaL jah jaB jaa jaz jaH jab ja2 a0_s jaq jai jaO jaA jat jau jav jaj jas jaJ jak jad jay jac a0_s cyI f0_s)) (wn := (qHR a0 jaX jaF jaD ja7 jby jbe jaM jaY jap jaK jal jam jax jao ja6 jaV ja8 jae jag jaf ja0 jaC jaP jaw jaI jbG jbg jbB jan jbD jbu jar jaL jah jaB jaa jaz jaH jab ja2 a0_s jaq jai jaO jaA jat jau jav jaj jas jaJ jak jad jay jac a0_s cyI f0_s jbu cyI jbZ jbB cyI jca jbG cyI jcu jbg cyI jbR)) hP hD [0, 1] [2, 3, 4, 5] [4, 5, 0, 1, 2, 3] hCc rfl (by decide +kernel) (by decide +kernel) (by decide +kernel) rfl hk1 hFc hP1 hD1
    generalize H1 = H at hP hS ⊢
    refine lv_aload_n hx hb (qaa qfw 9 rfl) rfl (lv_at hl 0 rfl) ?_
    refine lv_aload_n hx hb (qaa qfw 10 rfl) rfl (lv_at hl 0 rfl) ?_
    refine va_get (D := (dC, dI)) (ci := 11) (v := .ref a0_s) (C := RX11) (T := TX11) (N := 55) hx hb hts qyy hown hK hP 0 rfl rfl 40 (by decide) (hts _ qyr) (fun _ h9 => h9) rfl (qaa qfw 11 rfl) ?_
    refine lv_iconst (v := 0) hx hb (qaa qfw 12 rfl) (by decide) ?_
    refine lv_iload_n hx hb (qaa qfw 13 rfl) rfl (lv_at hl 1 rfl) ?_
    refine lv_iadd hx hb (qaa qfw 14 rfl) ?_
    refine lv_topi (fun x9 ex9 => ?_)
    have hw := hw x9 ex9
    obtain ⟨hi9, hw⟩ := hw
    refine va_iald hx hb hK hP 1 1 rfl rfl hi9 (qaa qfw 15 rfl) ?_
    refine lv_topi (fun x10 ex10 => ?_)
    have hw := hw x10 ex10
    obtain ⟨hCc, hPc, hDc, hFc⟩ := qac (ws' := (q2j a0 jaX jaF jaD ja7 jby jbe jaM jaY jap jaK jal jam jax jao ja6 jaV ja8 jae jag jaf ja0 jaC jaP jaw jaI jbG jbg jbB jan jbD jbu jar jaL jah jaB jaa jaz jaH jab ja2 a0_s jaq jai jaO jaA jat jau jav jaj jas jaJ jak jad jay jac a0_s cyI f0_s)) hP hD hS hA [0, 1] (by decide +kernel) rfl
    refine va_calli (va_runV (As := [.int x10]) (rest := [.int r8, .int r7, .int x6, .int x4, .ref a0]) ⟨hx, hb, hml, hown, hts⟩ (q1S l dC dI cyB cyI cyJ cyP a0 a0_s H.size (jaX) (jaF) (jaD) (ja7) (jby) (jbe) (jaM) (jaY) (jap) (jaK) (jal) (jam) (jax) (jao) (ja6) (jaV) (ja8) (jae) (jag) (jaf) (ja0) (jaP) (jaw) (jaI) (.ref jbG) (.ref jbg) (.ref jbB) (jan) (.int jbD) (.ref jbu) (jar) (jaL) (jah) (jaB) (jaa) (jaz) (jaH) (jab) (ja2) (jaq) (jai) (jaO) (jaA) (jat) (jau) (jav) (jaj) (jas) (jaJ) (jak) (jad) (jay) (jac) jaC f0_s x10 hw) (cwV 1 hts gX11_leapBy_X11_sitIn rfl rfl rfl (by decide +kernel) ⟨nbq rfl, nbq rfl⟩) ⟨qab, va_recv (q := (RX11, TX11, 55)) hK hPc (ci := 11) (q0 := 0) rfl rfl, qae hPc hK hDc hNw⟩ rfl rfl hl.1 rfl (lv_room (nbq rfl)) (qaa qfp 0 rfl) ⟨nbq rfl, nbq rfl⟩) hS (fun q _ h => hFc q h) hFc (fun r11 u t H1 locs ht hvm hw hB hz1 hk1 hS => ?_)
    obtain ⟨hP1, hK1, hD1⟩ := hB
    rw [ht] at hP1
    obtain ⟨hP, hD⟩ := qad (wr := (qaR3 jbu cyI jbZ jbB cyI jca jbG cyI jcu jbg cyI jbR)) (w1 := (q2j a0 jaX jaF jaD ja7 jby jbe jaM jaY jap jaK jal jam jax jao ja6 jaV ja8 jae jag jaf ja0 jaC jaP jaw jaI jbG jbg jbB jan jbD jbu jar jaL jah jaB jaa jaz jaH jab ja2 a0_s jaq jai jaO jaA jat jau jav jaj jas jaJ jak jad jay jac a0_s cyI f0_s)) (wn := (qHR a0 jaX jaF jaD ja7 jby jbe jaM jaY jap jaK jal jam jax jao ja6 jaV ja8 jae jag jaf ja0 jaC jaP jaw jaI jbG jbg jbB jan jbD jbu jar jaL jah jaB jaa jaz jaH jab ja2 a0_s jaq jai jaO jaA jat jau jav jaj jas jaJ jak jad jay jac a0_s cyI f0_s jbu cyI jbZ jbB cyI jca jbG cyI jcu jbg cyI jbR)) hP hD [0, 1] [2, 3, 4, 5] [4, 5, 0, 1, 2, 3] hCc rfl (by decide +kernel) (by decide +kernel) (by decide +kernel) rfl hk1 hFc hP1 hD1
    generalize H1 = H at hP hS ⊢
    obtain ⟨hCc, hPc, hDc, hFc⟩ := qac (ws' := []) hP hD hS hA [] (by decide +kernel) rfl
    refine va_calli (va_runS (As := [.int r11]) (rest := [.int r8, .int r7, .int x6, .int x4, .ref a0]) ⟨hx, hb, hml, hown, hts⟩ (qYv l dC dI cyB cyI cyJ cyP H.size r11 hw) (va_cwS 1 hts gX11_leapBy_X11_ones rfl rfl rfl (by decide +kernel) ⟨nbq rfl, nbq rfl⟩) ⟨qab, qae hPc hK hDc hNw⟩ rfl rfl hl.1 rfl (lv_room (nbq rfl)) (qaa qfp 1 rfl) ⟨nbq rfl, nbq rfl⟩) hS (fun q _ h => hFc q h) hFc (fun r12 u t H1 locs ht hvm hw hB hz1 hk1 hS => ?_)
    obtain ⟨hP1, hK1, hD1⟩ := hB
    rw [ht] at hP1
    obtain ⟨hP, hD⟩ := qah (wr := (qHR a0 jaX jaF jaD ja7 jby jbe jaM jaY jap jaK jal jam jax jao ja6 jaV ja8 jae jag jaf ja0 jaC jaP jaw jaI jbG jbg jbB jan jbD jbu jar jaL jah jaB jaa jaz jaH jab ja2 a0_s jaq jai jaO jaA jat jau jav jaj jas jaJ jak jad jay jac a0_s cyI f0_s jbu cyI jbZ jbB cyI jca jbG cyI jcu jbg cyI jbR)) (w1 := []) (wn := (qHR a0 jaX jaF jaD ja7 jby jbe jaM jaY jap jaK jal jam jax jao ja6 jaV ja8 jae jag jaf ja0 jaC jaP jaw jaI jbG jbg jbB jan jbD jbu jar jaL jah jaB jaa jaz jaH jab ja2 a0_s jaq jai jaO jaA jat jau jav jaj jas jaJ jak jad jay jac a0_s cyI f0_s jbu cyI jbZ jbB cyI jca jbG cyI jcu jbg cyI jbR)) hP hD [] [0, 1, 2, 3, 4, 5] hCc rfl (by decide +kernel) (by decide +kernel) rfl hk1 hFc hP1 hD1
    generalize H1 = H at hP hS ⊢
    refine lv_iconst (v := 1) hx hb (qaa qfp 2 rfl) (by decide) ?_
    refine lv_isub hx hb (qaa qfp 3 rfl) ?_
    refine lv_aload_n hx hb (qaa qfp 4 rfl) rfl (lv_at hl 0 rfl) ?_
    refine va_get (D := (dC, dI)) (ci := 11) (v := .ref a0_s) (C := RX11) (T := TX11) (N := 55) hx hb hts qyy hown hK hP 0 rfl rfl 40 (by decide) (hts _ qyr) (fun _ h9 => h9) rfl (qaa qfp 5 rfl) ?_
    refine lv_bipush (v := 66) hx hb (qaa qfp 6 rfl) (by decide) ?_
    refine va_iald hx hb hK hP 1 1 rfl rfl (vin (by decide)) (qaa qfp 7 rfl) ?_
    refine lv_topi (fun x13 ex13 => ?_)
    have hw := hw x13 ex13
    refine lv_iload_n hx hb (qaa qfp 8 rfl) rfl (lv_at hl 1 rfl) ?_
    refine lv_aload_n hx hb (qaa qfp 9 rfl) rfl (lv_at hl 0 rfl) ?_
    refine va_get (D := (dC, dI)) (ci := 11) (v := .ref a0_s) (C := RX11) (T := TX11) (N := 55) hx hb hts qyy hown hK hP 0 rfl rfl 40 (by decide) (hts _ qyr) (fun _ h9 => h9) rfl (qaa qfp 10 rfl) ?_
    refine lv_bipush (v := 18) hx hb (qaa qfp 11 rfl) (by decide) ?_
    refine lv_iload_n hx hb (qaa qfp 12 rfl) rfl (lv_at hl 1 rfl) ?_
    refine lv_iadd hx hb (qaa qfp 13 rfl) ?_
    refine lv_topi (fun x14 ex14 => ?_)
    have hw := hw x14 ex14
    obtain ⟨hi9, hw⟩ := hw
    refine va_iald hx hb hK hP 1 1 rfl rfl hi9 (qaa qfp 14 rfl) ?_
    refine lv_topi (fun x15 ex15 => ?_)
    have hw := hw x15 ex15
    obtain ⟨hCc, hPc, hDc, hFc⟩ := qac (ws' := (qa3M a0 jaX jaF jaD ja7 jby jbe jaM jaY jap jaK jal jam jax jao ja6 jaV ja8 jae jag jaf ja0 jaC jaP jaw jaI jbG jbg jbB jan jbD jbu jar jaL jah jaB jaa jaz jaH jab ja2 a0_s jaq jai jaO jaA jat jau jav jaj jas jaJ jak jad jay jac jbu cyI jbZ jbB cyI jca jbG cyI jcu jbg cyI jbR)) hP hD hS hA [0, 2, 3, 4, 5] (by decide +kernel) rfl
    refine va_calli (va_runV (As := [.int x4, .int x6, .int r7, .int r8, .int (r12 - 1), .int x13, .int p1, .int x15]) (rest := []) ⟨hx, hb, hml, hown, hts⟩ (qaie l dC dI cyB cyI cyJ cyP a0 jbu jbB jbG jbg H.size (jaX) (jaF) (jaD) (ja7) (jby) (jbe) (jaM) (jaY) (jap) (jaK) (jal) (jam) (jax) (jao) (ja6) (jaV) (ja8) (jae) (jag) (jaf) (ja0) (.int jaC) (jaP) (jaw) (jaI) (jan) (jar) (jaL) (jah) (jaB) (jaa) (jaz) (jaH) (jab) (ja2) (.ref a0_s) (jaq) (jai) (jaO) (jaA) (jat) (jau) (jav) (jaj) (jas) (jaJ) (jak) (jad) (jay) (jac) jbD jcu jbR jbZ jca x4 x6 r7 r8 (r12 - 1) x13 p1 x15 hw) (cwV 8 hts gX11_leapBy_X11_leapOf rfl rfl rfl (by decide +kernel) ⟨nbq rfl, nbq rfl⟩) ⟨qab, va_recv (q := (RX11, TX11, 55)) hK hPc (ci := 11) (q0 := 0) rfl rfl, qae hPc hK hDc hNw⟩ rfl rfl hl.1 rfl (lv_room (nbq rfl)) (qaa qfp 15 rfl) ⟨nbq rfl, nbq rfl⟩) hS (fun q _ h => hFc q h) hFc (fun r18 u t H1 locs ht hvm hw hB hz1 hk1 hS => ?_)
    obtain ⟨f16, f17⟩ := u
    obtain ⟨hP1, hK1, hD1⟩ := hB
    rw [ht] at hP1
    obtain ⟨hP, hD⟩ := qad (wr := [(a0_s, .inl (cyI, 68, .inl f0_s))]) (w1 := (qa3M a0 jaX jaF jaD ja7 jby jbe jaM jaY jap jaK jal jam jax jao ja6 jaV ja8 jae jag jaf ja0 jaC jaP jaw jaI jbG jbg jbB jan jbD jbu jar jaL jah jaB jaa jaz jaH jab ja2 a0_s jaq jai jaO jaA jat jau jav jaj jas jaJ jak jad jay jac jbu cyI f16 jbB cyI f17 jbG cyI jcu jbg cyI jbR)) (wn := (qHR a0 jaX jaF jaD ja7 jby jbe jaM jaY jap jaK jal jam jax jao ja6 jaV ja8 jae jag jaf ja0 jaC jaP jaw jaI jbG jbg jbB jan jbD jbu jar jaL jah jaB jaa jaz jaH jab ja2 a0_s jaq jai jaO jaA jat jau jav jaj jas jaJ jak jad jay jac a0_s cyI f0_s jbu cyI f16 jbB cyI f17 jbG cyI jcu jbg cyI jbR)) hP hD [0, 2, 3, 4, 5] [1] [1, 0, 2, 3, 4, 5] hCc rfl (by decide +kernel) (by decide +kernel) (by decide +kernel) rfl hk1 hFc hP1 hD1
    generalize H1 = H at hP hS ⊢
    exact ((W.iret (v := r18) hx hb hr (fun t ht hW => ⟨⟨r18, (f16, f17), rfl, hw, by rw [ht]; exact hP, va_K.moved hW.alike hK, hD⟩, hS.F ht⟩) hS.2.2 (qaa qZh 0 rfl)))
  · have hw := hw.2 c2
    refine lv_iconst (v := 0) hx hb (qaa qhN 4 rfl) (by decide) ?_
    refine lv_goto (tgt := 78) hx hb (qaa qhN 5 rfl) (by decide) ?_
    exact ((W.iret (v := 0) hx hb hr (fun t ht hW => ⟨⟨0, (jbZ, jca), rfl, hw, by rw [ht]; exact hP, va_K.moved hW.alike hK, hD⟩, hS.F ht⟩) hS.2.2 (qaa qZh 0 rfl)))
theorem qSA : ∀ w ∈ u_ws RX11 TX11 55, w ∈ wsX11_canLeap := uiM qxk qfa (by decide +kernel)
theorem qSm : (.fieldLink RX11 71 "MarchHaresModel" "s" "[I" : Cond) ∈ wsX11_canLeap := qxk 457 (by decide +kernel)
set_option maxHeartbeats 4000000 in
set_option maxRecDepth 100000 in
theorem qTS (l : Launch) (dC : Nat → ClassId) (dI : Nat → Nat → Nat) (cyB cyI cyJ cyP : ClassId) (a0 a0_s ja5 jbu jbB jbG jbg sz : Nat) (jaX jaF jaD ja7 jby jbe jaM jaY jap jaK jal jam jax jao jaV ja8 jae jag jaf ja0 jaP jaw jaI jan jar jaL jah jaB jaa jaz jaH jab ja2 jaq jai jaO jaA jat jau jav jaj jas jaJ jak jad jay jac : Value) (jaC jbD : Int32) (f0_s jbv jcu jbR jbZ jca : NI) (p1 p2 : Int32) {Q : Int32 → NI → NI → Prop} (hw : qAA jaC jbD f0_s jbv jcu jbR jbZ jca p1 p2 Q) : Met l yX11_canLeap wsX11_canLeap ({ frames := 5, cells := 0, slots := 0, locals := 115 }) (va_Pc [.ref a0, .int p1, .int p2] (cPc (dC, dI) (kT cyB cyI cyJ cyP) (qS9 a0 jaX jaF jaD ja7 jby jbe jaM jaY jap jaK jal jam jax jao ja5 jaV ja8 jae jag jaf ja0 jaC jaP jaw jaI jbG jbg jbB jan jbD jbu jar jaL jah jaB jaa jaz jaH jab ja2 a0_s jaq jai jaO jaA jat jau jav jaj jas jaJ jak jad jay jac a0_s cyI f0_s ja5 cyI jbv jbu cyI jbZ jbB cyI jca jbG cyI jcu jbg cyI jbR) sz)) (va_Qi (fun (r : Int32) (u : NI × NI) => Q r u.1 u.2) (cB (dC, dI) (kT cyB cyI cyJ cyP) (va_A (qS9 a0 jaX jaF jaD ja7 jby jbe jaM jaY jap jaK jal jam jax jao ja5 jaV ja8 jae jag jaf ja0 jaC jaP jaw jaI jbG jbg jbB jan jbD jbu jar jaL jah jaB jaa jaz jaH jab ja2 a0_s jaq jai jaO jaA jat jau jav jaj jas jaJ jak jad jay jac a0_s cyI f0_s ja5 cyI jbv jbu cyI jbZ jbB cyI jca jbG cyI jcu jbg cyI jbR) sz) (fun u : NI × NI => ((qS9 a0 jaX jaF jaD ja7 jby jbe jaM jaY jap jaK jal jam jax jao ja5 jaV ja8 jae jag jaf ja0 jaC jaP jaw jaI jbG jbg jbB jan jbD jbu jar jaL jah jaB jaa jaz jaH jab ja2 a0_s jaq jai jaO jaA jat jau jav jaj jas jaJ jak jad jay jac a0_s cyI f0_s ja5 cyI jbv jbu cyI u.1 jbB cyI u.2 jbG cyI jcu jbg cyI jbR) : va_W))) (va_A (qS9 a0 jaX jaF jaD ja7 jby jbe jaM jaY jap jaK jal jam jax jao ja5 jaV ja8 jae jag jaf ja0 jaC jaP jaw jaI jbG jbg jbB jan jbD jbu jar jaL jah jaB jaa jaz jaH jab ja2 a0_s jaq jai jaO jaA jat jau jav jaj jas jaJ jak jad jay jac a0_s cyI f0_s ja5 cyI jbv jbu cyI jbZ jbB cyI jca jbG cyI jcu jbg cyI jbR) sz)) 0 0 (va_A (qS9 a0 jaX jaF jaD ja7 jby jbe jaM jaY jap jaK jal jam jax jao ja5 jaV ja8 jae jag jaf ja0 jaC jaP jaw jaI jbG jbg jbB jan jbD jbu jar jaL jah jaB jaa jaz jaH jab ja2 a0_s jaq jai jaO jaA jat jau jav jaj jas jaJ jak jad jay jac a0_s cyI f0_s ja5 cyI jbv jbu cyI jbZ jbB cyI jca jbG cyI jcu jbg cyI jbR) sz) := by
  refine Met.ofW (cc := cX11_canLeap) (maxL := 3) (ret := (some .boolean)) (by decide) rfl ?_
  intro p e s m args below meth c s₁ B hml hv
  obtain ⟨rfl, hsz, hP, hK, hD0, hNw⟩ := hv
  have hx := B.exec
  have hb := B.bytes
  have hr := B.returns
  have hts := atoms_spec (ws := wsX11_canLeap) B.pre
  have hown : s.vm.findClass RX11 = some m.cls := findClass_of_methodNamed B.named
  have hlocks := B.notSynchronized
  subst hsz
  have hD := hD0.self (sz := s.heap.size)
  generalize hAe : va_A (qS9 a0 jaX jaF jaD ja7 jby jbe jaM jaY jap jaK jal jam jax jao ja5 jaV ja8 jae jag jaf ja0 jaC jaP jaw jaI jbG jbg jbB jan jbD jbu jar jaL jah jaB jaa jaz jaH jab ja2 a0_s jaq jai jaO jaA jat jau jav jaj jas jaJ jak jad jay jac a0_s cyI f0_s ja5 cyI jbv jbu cyI jbZ jbB cyI jca jbG cyI jcu jbg cyI jbR) s.heap.size = A at hD ⊢
  have hA : ∀ q : Nat, s.heap.size ≤ q → A q := fun q h => by rw [← hAe]; exact Or.inr h
  have hS : va_S A s.heap s.heap [] := va_S.rf
  have hP : va_P (dC, dI) vwCl (qS9 a0 jaX jaF jaD ja7 jby jbe jaM jaY jap jaK jal jam jax jao ja5 jaV ja8 jae jag jaf ja0 jaC jaP jaw jaI jbG jbg jbB jan jbD jbu jar jaL jah jaB jaa jaz jaH jab ja2 a0_s jaq jai jaO jaA jat jau jav jaj jas jaJ jak jad jay jac a0_s cyI f0_s ja5 cyI jbv jbu cyI jbZ jbB cyI jca jbG cyI jcu jbg cyI jbR) s.heap := hP
  have hl := lv_entry ([.ref a0, .int p1, .int p2]) (n := 3) (nbq rfl)
  rw [lg_entry_eq]
  generalize (lg_sl ([.ref a0, .int p1, .int p2]) ++ List.replicate (3 - (lg_sl ([.ref a0, .int p1, .int p2])).length) Slot.unset).toArray = ls at hl ⊢
  have hl : lv_has ls 3 [(0, .ref a0), (1, .int p1), (2, .int p2)] := hl
  have C0 : cfx p s m _ meth c cX11_canLeap (some .boolean) wsX11_canLeap RX11 3 A (dC, dI) (kT cyB cyI cyJ cyP) := ⟨hx, hb, hr, hts, hown, hlocks, hml, hA, hK, hNw⟩
  clear hAe
  obtain ⟨H, hH⟩ : ∃ H, H = s.heap := ⟨_, rfl⟩
  rw [← hH] at hP ⊢
  have hS : va_S A s.heap H [] := by rw [hH]; exact va_S.rf
  have hS := hS
  refine lv_aload_n hx hb (qaa qfG 0 rfl) rfl (lv_at hl 0 rfl) ?_
  refine lv_iload_n hx hb (qaa qfG 1 rfl) rfl (lv_at hl 1 rfl) ?_
  obtain ⟨hCc, hPc, hDc, hFc⟩ := qac (ws' := (qa46 a0 jaX jaF jaD ja7 jby jbe jaM jaY jap jaK jal jam jax jao ja5 jaV ja8 jae jag jaf ja0 jaC jaP jaw jaI jbG jbg jbB jan jbD jbu jar jaL jah jaB jaa jaz jaH jab ja2 a0_s jaq jai jaO jaA jat jau jav jaj jas jaJ jak jad jay jac a0_s cyI f0_s)) hP hD hS hA [0, 1] (by decide +kernel) rfl
  refine va_calli (va_runV (As := [.int p1]) (rest := []) ⟨hx, hb, hml, hown, hts⟩ (qim l dC dI cyB cyI cyJ cyP a0 a0_s H.size (jaX) (jaF) (jaD) (ja7) (jby) (jbe) (jaM) (jaY) (jap) (jaK) (jal) (jam) (jax) (jao) (.ref ja5) (jaV) (ja8) (jae) (jag) (jaf) (ja0) (.int jaC) (jaP) (jaw) (jaI) (.ref jbG) (.ref jbg) (.ref jbB) (jan) (.int jbD) (.ref jbu) (jar) (jaL) (jah) (jaB) (jaa) (jaz) (jaH) (jab) (ja2) (jaq) (jai) (jaO) (jaA) (jat) (jau) (jav) (jaj) (jas) (jaJ) (jak) (jad) (jay) (jac) f0_s p1 hw) (cwV 1 hts gX11_canLeap_X11_isCaught rfl rfl rfl (by decide +kernel) ⟨nbq rfl, nbq rfl⟩) ⟨qab, va_recv (q := (RX11, TX11, 55)) hK hPc (ci := 11) (q0 := 0) rfl rfl, qae hPc hK hDc hNw⟩ rfl rfl hl.1 rfl (lv_room (nbq rfl)) (qaa qfG 2 rfl) ⟨nbq rfl, nbq rfl⟩) hS (fun q _ h => hFc q h) hFc (fun r1 u t H1 locs ht hvm hw hB hz1 hk1 hS => ?_)
  obtain ⟨hP1, hK1, hD1⟩ := hB
  rw [ht] at hP1
  obtain ⟨hP, hD⟩ := qad (wr := [(ja5, .inl (cyI, 16, .inl jbv)), (jbu, .inl (cyI, 8, .inl jbZ)), (jbB, .inl (cyI, 150, .inl jca)), (jbG, .inl (cyI, 150, .inl jcu)), (jbg, .inl (cyI, 150, .inl jbR))]) (w1 := (qa46 a0 jaX jaF jaD ja7 jby jbe jaM jaY jap jaK jal jam jax jao ja5 jaV ja8 jae jag jaf ja0 jaC jaP jaw jaI jbG jbg jbB jan jbD jbu jar jaL jah jaB jaa jaz jaH jab ja2 a0_s jaq jai jaO jaA jat jau jav jaj jas jaJ jak jad jay jac a0_s cyI f0_s)) (wn := (qS9 a0 jaX jaF jaD ja7 jby jbe jaM jaY jap jaK jal jam jax jao ja5 jaV ja8 jae jag jaf ja0 jaC jaP jaw jaI jbG jbg jbB jan jbD jbu jar jaL jah jaB jaa jaz jaH jab ja2 a0_s jaq jai jaO jaA jat jau jav jaj jas jaJ jak jad jay jac a0_s cyI f0_s ja5 cyI jbv jbu cyI jbZ jbB cyI jca jbG cyI jcu jbg cyI jbR)) hP hD [0, 1] [2, 3, 4, 5, 6] [5, 6, 0, 1, 2, 3, 4] hCc rfl (by decide +kernel) (by decide +kernel) (by decide +kernel) rfl hk1 hFc hP1 hD1
  generalize H1 = H at hP hS ⊢
  refine lv_if_ne (tgt := 45) hx hb (qaa qfG 3 rfl) (by decide) (fun c2 => ?_) (fun c2 => ?_)
  · have hw := hw.1 c2
    refine lv_iconst (v := 0) hx hb (qaa qcY 11 rfl) (by decide) ?_
    exact ((W.zret (v := 0) hx hb hr rfl (fun t ht hW => ⟨⟨0, (jbZ, jca), rfl, hw, by rw [ht]; exact hP, va_K.moved hW.alike hK, hD⟩, hS.F ht⟩) hS.2.2 (qaa qcY 12 rfl)))
  · have hw := hw.2 c2
    refine lv_aload_n hx hb (qaa qfG 4 rfl) rfl (lv_at hl 0 rfl) ?_
    refine va_get (D := (dC, dI)) (ci := 11) (v := .ref a0_s) (C := RX11) (T := TX11) (N := 55) hx hb hts qSA hown hK hP 0 rfl rfl 40 (by decide) (hts _ qSm) (fun _ h9 => h9) rfl (qaa qfG 5 rfl) ?_
    refine lv_iconst (v := 0) hx hb (qaa qfG 6 rfl) (by decide) ?_
    refine lv_iload_n hx hb (qaa qfG 7 rfl) rfl (lv_at hl 1 rfl) ?_
    refine lv_iadd hx hb (qaa qfG 8 rfl) ?_
    refine lv_topi (fun x3 ex3 => ?_)
    have hw := hw x3 ex3
    obtain ⟨hi9, hw⟩ := hw
    refine va_iald hx hb hK hP 1 1 rfl rfl hi9 (qaa qfG 9 rfl) ?_
    refine lv_topi (fun x4 ex4 => ?_)
    have hw := hw x4 ex4
    refine lv_iload_n hx hb (qaa qfG 10 rfl) rfl (lv_at hl 2 rfl) ?_
    refine lv_icmp_eq (tgt := 45) hx hb (qaa qfG 11 rfl) (by decide) (fun c5 => ?_) (fun c5 => ?_)
    · have hw := hw.1 c5
      refine lv_iconst (v := 0) hx hb (qaa qcY 11 rfl) (by decide) ?_
      exact ((W.zret (v := 0) hx hb hr rfl (fun t ht hW => ⟨⟨0, (jbZ, jca), rfl, hw, by rw [ht]; exact hP, va_K.moved hW.alike hK, hD⟩, hS.F ht⟩) hS.2.2 (qaa qcY 12 rfl)))
    · have hw := hw.2 c5
      refine lv_aload_n hx hb (qaa qfG 12 rfl) rfl (lv_at hl 0 rfl) ?_
      refine lv_aload_n hx hb (qaa qfG 13 rfl) rfl (lv_at hl 0 rfl) ?_
      refine va_get (D := (dC, dI)) (ci := 11) (v := .ref a0_s) (C := RX11) (T := TX11) (N := 55) hx hb hts qSA hown hK hP 0 rfl rfl 40 (by decide) (hts _ qSm) (fun _ h9 => h9) rfl (qaa qfG 14 rfl) ?_
      refine lv_iconst (v := 0) hx hb (qaa qfG 15 rfl) (by decide) ?_
      refine lv_iload_n hx hb (qaa qcY 0 rfl) rfl (lv_at hl 1 rfl) ?_
      refine lv_iadd hx hb (qaa qcY 1 rfl) ?_
      refine lv_topi (fun x6 ex6 => ?_)
      have hw := hw x6 ex6
      obtain ⟨hi9, hw⟩ := hw
      refine va_iald hx hb hK hP 1 1 rfl rfl hi9 (qaa qcY 2 rfl) ?_
      refine lv_topi (fun x7 ex7 => ?_)
      have hw := hw x7 ex7
      refine lv_iload_n hx hb (qaa qcY 3 rfl) rfl (lv_at hl 2 rfl) ?_
      obtain ⟨hCc, hPc, hDc, hFc⟩ := qac (ws' := (qa5z a0 jaX jaF jaD ja7 jby jbe jaM jaY jap jaK jal jam jax jao ja5 jaV ja8 jae jag jaf ja0 jaC jaP jaw jaI jbG jbg jbB jan jbD jbu jar jaL jah jaB jaa jaz jaH jab ja2 a0_s jaq jai jaO jaA jat jau jav jaj jas jaJ jak jad jay jac ja5 cyI jbv)) hP hD hS hA [0, 2] (by decide +kernel) rfl
      refine va_calli (va_runV (As := [.int x7, .int p2]) (rest := []) ⟨hx, hb, hml, hown, hts⟩ (qvi l dC dI cyB cyI cyJ cyP a0 ja5 H.size (jaX) (jaF) (jaD) (ja7) (jby) (jbe) (jaM) (jaY) (jap) (jaK) (jal) (jam) (jax) (jao) (jaV) (ja8) (jae) (jag) (jaf) (ja0) (.int jaC) (jaP) (jaw) (jaI) (.ref jbG) (.ref jbg) (.ref jbB) (jan) (.int jbD) (.ref jbu) (jar) (jaL) (jah) (jaB) (jaa) (jaz) (jaH) (jab) (ja2) (.ref a0_s) (jaq) (jai) (jaO) (jaA) (jat) (jau) (jav) (jaj) (jas) (jaJ) (jak) (jad) (jay) (jac) jbv x7 p2 hw) (cwV 2 hts gX11_canLeap_X11_farOf rfl rfl rfl (by decide +kernel) ⟨nbq rfl, nbq rfl⟩) ⟨qab, va_recv (q := (RX11, TX11, 55)) hK hPc (ci := 11) (q0 := 0) rfl rfl, qae hPc hK hDc hNw⟩ rfl rfl hl.1 rfl (lv_room (nbq rfl)) (qaa qcY 4 rfl) ⟨nbq rfl, nbq rfl⟩) hS (fun q _ h => hFc q h) hFc (fun r8 u t H1 locs ht hvm hw hB hz1 hk1 hS => ?_)
      obtain ⟨hP1, hK1, hD1⟩ := hB
      rw [ht] at hP1
      obtain ⟨hP, hD⟩ := qad (wr := [(a0_s, .inl (cyI, 68, .inl f0_s)), (jbu, .inl (cyI, 8, .inl jbZ)), (jbB, .inl (cyI, 150, .inl jca)), (jbG, .inl (cyI, 150, .inl jcu)), (jbg, .inl (cyI, 150, .inl jbR))]) (w1 := (qa5z a0 jaX jaF jaD ja7 jby jbe jaM jaY jap jaK jal jam jax jao ja5 jaV ja8 jae jag jaf ja0 jaC jaP jaw jaI jbG jbg jbB jan jbD jbu jar jaL jah jaB jaa jaz jaH jab ja2 a0_s jaq jai jaO jaA jat jau jav jaj jas jaJ jak jad jay jac ja5 cyI jbv)) (wn := (qS9 a0 jaX jaF jaD ja7 jby jbe jaM jaY jap jaK jal jam jax jao ja5 jaV ja8 jae jag jaf ja0 jaC jaP jaw jaI jbG jbg jbB jan jbD jbu jar jaL jah jaB jaa jaz jaH jab ja2 a0_s jaq jai jaO jaA jat jau jav jaj jas jaJ jak jad jay jac a0_s cyI f0_s ja5 cyI jbv jbu cyI jbZ jbB cyI jca jbG cyI jcu jbg cyI jbR)) hP hD [0, 2] [1, 3, 4, 5, 6] [5, 0, 6, 1, 2, 3, 4] hCc rfl (by decide +kernel) (by decide +kernel) (by decide +kernel) rfl hk1 hFc hP1 hD1
      generalize H1 = H at hP hS ⊢
      refine lv_aload_n hx hb (qaa qcY 5 rfl) rfl (lv_at hl 0 rfl) ?_
      refine lv_iload_n hx hb (qaa qcY 6 rfl) rfl (lv_at hl 1 rfl) ?_
      obtain ⟨hCc, hPc, hDc, hFc⟩ := qac (ws' := (qa3V a0 jaX jaF jaD ja7 jby jbe jaM jaY jap jaK jal jam jax jao ja5 jaV ja8 jae jag jaf ja0 jaC jaP jaw jaI jbG jbg jbB jan jbD jbu jar jaL jah jaB jaa jaz jaH jab ja2 a0_s jaq jai jaO jaA jat jau jav jaj jas jaJ jak jad jay jac a0_s cyI f0_s jbu cyI jbZ jbB cyI jca jbG cyI jcu jbg cyI jbR)) hP hD hS hA [0, 1, 3, 4, 5, 6] (by decide +kernel) rfl
      refine va_calli (va_runV (As := [.int p1]) (rest := [.int r8]) ⟨hx, hb, hml, hown, hts⟩ (qW2 l dC dI cyB cyI cyJ cyP a0 a0_s jbu jbB jbG jbg H.size (jaX) (jaF) (jaD) (ja7) (jby) (jbe) (jaM) (jaY) (jap) (jaK) (jal) (jam) (jax) (jao) (.ref ja5) (jaV) (ja8) (jae) (jag) (jaf) (ja0) (jaP) (jaw) (jaI) (jan) (jar) (jaL) (jah) (jaB) (jaa) (jaz) (jaH) (jab) (ja2) (jaq) (jai) (jaO) (jaA) (jat) (jau) (jav) (jaj) (jas) (jaJ) (jak) (jad) (jay) (jac) jaC jbD f0_s jcu jbR jbZ jca p1 hw) (cwV 1 hts gX11_canLeap_X11_leapBy rfl rfl rfl (by decide +kernel) ⟨nbq rfl, nbq rfl⟩) ⟨qab, va_recv (q := (RX11, TX11, 55)) hK hPc (ci := 11) (q0 := 0) rfl rfl, qae hPc hK hDc hNw⟩ rfl rfl hl.1 rfl (lv_room (nbq rfl)) (qaa qcY 7 rfl) ⟨nbq rfl, nbq rfl⟩) hS (fun q _ h => hFc q h) hFc (fun r11 u t H1 locs ht hvm hw hB hz1 hk1 hS => ?_)
      obtain ⟨f9, f10⟩ := u
      obtain ⟨hP1, hK1, hD1⟩ := hB
      rw [ht] at hP1
      obtain ⟨hP, hD⟩ := qad (wr := [(ja5, .inl (cyI, 16, .inl jbv))]) (w1 := (qa3V a0 jaX jaF jaD ja7 jby jbe jaM jaY jap jaK jal jam jax jao ja5 jaV ja8 jae jag jaf ja0 jaC jaP jaw jaI jbG jbg jbB jan jbD jbu jar jaL jah jaB jaa jaz jaH jab ja2 a0_s jaq jai jaO jaA jat jau jav jaj jas jaJ jak jad jay jac a0_s cyI f0_s jbu cyI f9 jbB cyI f10 jbG cyI jcu jbg cyI jbR)) (wn := (qS9 a0 jaX jaF jaD ja7 jby jbe jaM jaY jap jaK jal jam jax jao ja5 jaV ja8 jae jag jaf ja0 jaC jaP jaw jaI jbG jbg jbB jan jbD jbu jar jaL jah jaB jaa jaz jaH jab ja2 a0_s jaq jai jaO jaA jat jau jav jaj jas jaJ jak jad jay jac a0_s cyI f0_s ja5 cyI jbv jbu cyI f9 jbB cyI f10 jbG cyI jcu jbg cyI jbR)) hP hD [0, 1, 3, 4, 5, 6] [2] [1, 2, 0, 3, 4, 5, 6] hCc rfl (by decide +kernel) (by decide +kernel) (by decide +kernel) rfl hk1 hFc hP1 hD1
      generalize H1 = H at hP hS ⊢
      refine lv_icmp_gt (tgt := 45) hx hb (qaa qcY 8 rfl) (by decide) (fun c12 => ?_) (fun c12 => ?_)
      · have hw := hw.1 c12
        refine lv_iconst (v := 0) hx hb (qaa qcY 11 rfl) (by decide) ?_
        exact ((W.zret (v := 0) hx hb hr rfl (fun t ht hW => ⟨⟨0, (f9, f10), rfl, hw, by rw [ht]; exact hP, va_K.moved hW.alike hK, hD⟩, hS.F ht⟩) hS.2.2 (qaa qcY 12 rfl)))
      · have hw := hw.2 c12
        refine lv_iconst (v := 1) hx hb (qaa qcY 9 rfl) (by decide) ?_
        refine lv_goto (tgt := 46) hx hb (qaa qcY 10 rfl) (by decide) ?_
        exact ((W.zret (v := 1) hx hb hr rfl (fun t ht hW => ⟨⟨1, (f9, f10), rfl, hw, by rw [ht]; exact hP, va_K.moved hW.alike hK, hD⟩, hS.F ht⟩) hS.2.2 (qaa qcY 12 rfl)))
theorem qaF1 : ∀ w ∈ u_ws RX11 TX11 55, w ∈ wsX11_can := uiM qDV qfa (by decide +kernel)
theorem qaOn : (.fieldLink RX11 3 "MarchHaresModel" "thrown" "I" : Cond) ∈ wsX11_can := qDV 589 (by decide +kernel)
set_option maxHeartbeats 4000000 in
set_option maxRecDepth 100000 in
theorem qa20 (l : Launch) (dC : Nat → ClassId) (dI : Nat → Nat → Nat) (cyB cyI cyJ cyP : ClassId) (a0 jaQ jaT a0_s ja5 jbu jbB jbG jbg sz : Nat) (jaD ja7 jby jbe jaM jaY jap jaK jal jam jax jao jaV ja8 jae jag jaf jaP jaw jaI jan jar jaL jah jaB jaa jaz jaH jab jaq jai jaO jaA jat jau jav jaj jas jaJ jak jad jay jac : Value) (jaN jaC jbD : Int32) (jb0 jbv jcu jbR : NI) (jbd : Int32) (ja9 f0_s jbZ jca : NI) (p1 p2 : Int32) {Q : Int32 → Int32 → NI → NI → NI → NI → Prop} (hw : qaly jaN jaC jbD jb0 jbv jcu jbR jbd ja9 f0_s jbZ jca p1 p2 Q) : Met l yX11_can wsX11_can ({ frames := 6, cells := 0, slots := 0, locals := 137 }) (va_Pc [.ref a0, .int p1, .int p2] (cPc (dC, dI) (kT cyB cyI cyJ cyP) (qJs a0 jbd jaQ jaD ja7 jby jbe jaM jaY jap jaK jal jam jax jao ja5 jaV ja8 jae jag jaf jaN jaC jaP jaw jaI jbG jbg jbB jan jbD jbu jar jaL jah jaB jaa jaz jaH jab jaT a0_s jaq jai jaO jaA jat jau jav jaj jas jaJ jak jad jay jac jaQ cyI ja9 jaT cyI jb0 a0_s cyI f0_s ja5 cyI jbv jbu cyI jbZ jbB cyI jca jbG cyI jcu jbg cyI jbR) sz)) (va_Qi (fun (r : Int32) (u : Int32 × NI × NI × NI × NI) => Q r u.1 u.2.1 u.2.2.1 u.2.2.2.1 u.2.2.2.2) (cB (dC, dI) (kT cyB cyI cyJ cyP) (va_A (qJs a0 jbd jaQ jaD ja7 jby jbe jaM jaY jap jaK jal jam jax jao ja5 jaV ja8 jae jag jaf jaN jaC jaP jaw jaI jbG jbg jbB jan jbD jbu jar jaL jah jaB jaa jaz jaH jab jaT a0_s jaq jai jaO jaA jat jau jav jaj jas jaJ jak jad jay jac jaQ cyI ja9 jaT cyI jb0 a0_s cyI f0_s ja5 cyI jbv jbu cyI jbZ jbB cyI jca jbG cyI jcu jbg cyI jbR) sz) (fun u : Int32 × NI × NI × NI × NI => ((qJs a0 u.1 jaQ jaD ja7 jby jbe jaM jaY jap jaK jal jam jax jao ja5 jaV ja8 jae jag jaf jaN jaC jaP jaw jaI jbG jbg jbB jan jbD jbu jar jaL jah jaB jaa jaz jaH jab jaT a0_s jaq jai jaO jaA jat jau jav jaj jas jaJ jak jad jay jac jaQ cyI u.2.1 jaT cyI jb0 a0_s cyI u.2.2.1 ja5 cyI jbv jbu cyI u.2.2.2.1 jbB cyI u.2.2.2.2 jbG cyI jcu jbg cyI jbR) : va_W))) (va_A (qJs a0 jbd jaQ jaD ja7 jby jbe jaM jaY jap jaK jal jam jax jao ja5 jaV ja8 jae jag jaf jaN jaC jaP jaw jaI jbG jbg jbB jan jbD jbu jar jaL jah jaB jaa jaz jaH jab jaT a0_s jaq jai jaO jaA jat jau jav jaj jas jaJ jak jad jay jac jaQ cyI ja9 jaT cyI jb0 a0_s cyI f0_s ja5 cyI jbv jbu cyI jbZ jbB cyI jca jbG cyI jcu jbg cyI jbR) sz)) 0 0 (va_A (qJs a0 jbd jaQ jaD ja7 jby jbe jaM jaY jap jaK jal jam jax jao ja5 jaV ja8 jae jag jaf jaN jaC jaP jaw jaI jbG jbg jbB jan jbD jbu jar jaL jah jaB jaa jaz jaH jab jaT a0_s jaq jai jaO jaA jat jau jav jaj jas jaJ jak jad jay jac jaQ cyI ja9 jaT cyI jb0 a0_s cyI f0_s ja5 cyI jbv jbu cyI jbZ jbB cyI jca jbG cyI jcu jbg cyI jbR) sz) := by
  refine Met.ofW (cc := cX11_can) (maxL := 3) (ret := (some .boolean)) (by decide) rfl ?_
  intro p e s m args below meth c s₁ B hml hv
  obtain ⟨rfl, hsz, hP, hK, hD0, hNw⟩ := hv
  have hx := B.exec
  have hb := B.bytes
  have hr := B.returns
  have hts := atoms_spec (ws := wsX11_can) B.pre
  have hown : s.vm.findClass RX11 = some m.cls := findClass_of_methodNamed B.named
  have hlocks := B.notSynchronized
  subst hsz
  have hD := hD0.self (sz := s.heap.size)
  generalize hAe : va_A (qJs a0 jbd jaQ jaD ja7 jby jbe jaM jaY jap jaK jal jam jax jao ja5 jaV ja8 jae jag jaf jaN jaC jaP jaw jaI jbG jbg jbB jan jbD jbu jar jaL jah jaB jaa jaz jaH jab jaT a0_s jaq jai jaO jaA jat jau jav jaj jas jaJ jak jad jay jac jaQ cyI ja9 jaT cyI jb0 a0_s cyI f0_s ja5 cyI jbv jbu cyI jbZ jbB cyI jca jbG cyI jcu jbg cyI jbR) s.heap.size = A at hD ⊢
  have hA : ∀ q : Nat, s.heap.size ≤ q → A q := fun q h => by rw [← hAe]; exact Or.inr h
  have hS : va_S A s.heap s.heap [] := va_S.rf
  have hP : va_P (dC, dI) vwCl (qJs a0 jbd jaQ jaD ja7 jby jbe jaM jaY jap jaK jal jam jax jao ja5 jaV ja8 jae jag jaf jaN jaC jaP jaw jaI jbG jbg jbB jan jbD jbu jar jaL jah jaB jaa jaz jaH jab jaT a0_s jaq jai jaO jaA jat jau jav jaj jas jaJ jak jad jay jac jaQ cyI ja9 jaT cyI jb0 a0_s cyI f0_s ja5 cyI jbv jbu cyI jbZ jbB cyI jca jbG cyI jcu jbg cyI jbR) s.heap := hP
  have hl := lv_entry ([.ref a0, .int p1, .int p2]) (n := 3) (nbq rfl)
  rw [lg_entry_eq]
  generalize (lg_sl ([.ref a0, .int p1, .int p2]) ++ List.replicate (3 - (lg_sl ([.ref a0, .int p1, .int p2])).length) Slot.unset).toArray = ls at hl ⊢
  have hl : lv_has ls 3 [(0, .ref a0), (1, .int p1), (2, .int p2)] := hl
  have C0 : cfx p s m _ meth c cX11_can (some .boolean) wsX11_can RX11 3 A (dC, dI) (kT cyB cyI cyJ cyP) := ⟨hx, hb, hr, hts, hown, hlocks, hml, hA, hK, hNw⟩
  clear hAe
  obtain ⟨H, hH⟩ : ∃ H, H = s.heap := ⟨_, rfl⟩
  rw [← hH] at hP ⊢
  have hS : va_S A s.heap H [] := by rw [hH]; exact va_S.rf
  have hS := hS
  refine lv_aload_n hx hb (qaa qli 0 rfl) rfl (lv_at hl 0 rfl) ?_
  refine lv_iconst (v := 0) hx hb (qaa qli 1 rfl) (by decide) ?_
  refine va_put (D := (dC, dI)) (ci := 11) (v := .int 0) (ty := .int) (C := RX11) (T := TX11) (N := 55) hx hb hts qaF1 tyX11 tyX11_ok nmX11 hown hK hP hD hS 0 rfl rfl 0 (by decide) (hts _ qaOn) (fun _ h9 => h9) rfl (by decide +kernel) rfl rfl (nbq rfl) (qaa qli 2 rfl) (fun H locs hP hD hS => ?_)
  have hP : va_P (dC, dI) vwCl (qJs a0 0 jaQ jaD ja7 jby jbe jaM jaY jap jaK jal jam jax jao ja5 jaV ja8 jae jag jaf jaN jaC jaP jaw jaI jbG jbg jbB jan jbD jbu jar jaL jah jaB jaa jaz jaH jab jaT a0_s jaq jai jaO jaA jat jau jav jaj jas jaJ jak jad jay jac jaQ cyI ja9 jaT cyI jb0 a0_s cyI f0_s ja5 cyI jbv jbu cyI jbZ jbB cyI jca jbG cyI jcu jbg cyI jbR) H := hP
  have hD : va_D A (qJs a0 0 jaQ jaD ja7 jby jbe jaM jaY jap jaK jal jam jax jao ja5 jaV ja8 jae jag jaf jaN jaC jaP jaw jaI jbG jbg jbB jan jbD jbu jar jaL jah jaB jaa jaz jaH jab jaT a0_s jaq jai jaO jaA jat jau jav jaj jas jaJ jak jad jay jac jaQ cyI ja9 jaT cyI jb0 a0_s cyI f0_s ja5 cyI jbv jbu cyI jbZ jbB cyI jca jbG cyI jcu jbg cyI jbR) := hD
  refine lv_aload_n hx hb (qaa qli 3 rfl) rfl (lv_at hl 0 rfl) ?_
  refine lv_iload_n hx hb (qaa qli 4 rfl) rfl (lv_at hl 1 rfl) ?_
  refine lv_iconst (v := 1) hx hb (qaa qli 5 rfl) (by decide) ?_
  obtain ⟨hCc, hPc, hDc, hFc⟩ := qac (ws' := (qaOJ a0 0 jaQ jaD ja7 jby jbe jaM jaY jap jaK jal jam jax jao ja5 jaV ja8 jae jag jaf jaN jaC jaP jaw jaI jbG jbg jbB jan jbD jbu jar jaL jah jaB jaa jaz jaH jab jaT a0_s jaq jai jaO jaA jat jau jav jaj jas jaJ jak jad jay jac jaQ cyI ja9)) hP hD hS hA [0, 1] (by decide +kernel) rfl
  refine va_calli (va_runV (As := [.int p1, .int 1]) (rest := []) ⟨hx, hb, hml, hown, hts⟩ (qtP l dC dI cyB cyI cyJ cyP a0 jaQ H.size (jaD) (ja7) (jby) (jbe) (jaM) (jaY) (jap) (jaK) (jal) (jam) (jax) (jao) (.ref ja5) (jaV) (ja8) (jae) (jag) (jaf) (.int jaN) (jaP) (jaw) (jaI) (.ref jbG) (.ref jbg) (.ref jbB) (jan) (.int jbD) (.ref jbu) (jar) (jaL) (jah) (jaB) (jaa) (jaz) (jaH) (jab) (.ref jaT) (.ref a0_s) (jaq) (jai) (jaO) (jaA) (jat) (jau) (jav) (jaj) (jas) (jaJ) (jak) (jad) (jay) (jac) jaC 0 ja9 p1 1 hw) (cwV 2 hts gX11_can_X11_isHare rfl rfl rfl (by decide +kernel) ⟨nbq rfl, nbq rfl⟩) ⟨qab, va_recv (q := (RX11, TX11, 55)) hK hPc (ci := 11) (q0 := 0) rfl rfl, qae hPc hK hDc hNw⟩ rfl rfl hl.1 rfl (lv_room (nbq rfl)) (qaa qli 6 rfl) ⟨nbq rfl, nbq rfl⟩) hS (fun q _ h => hFc q h) hFc (fun r3 u t H1 locs ht hvm hw hB hz1 hk1 hS => ?_)
  obtain ⟨x1, f2⟩ := u
  obtain ⟨hP1, hK1, hD1⟩ := hB
  rw [ht] at hP1
  obtain ⟨hP, hD⟩ := qad (wr := (qa4t jaT cyI jb0 a0_s cyI f0_s ja5 cyI jbv jbu cyI jbZ jbB cyI jca jbG cyI jcu jbg cyI jbR)) (w1 := (qaOJ a0 x1 jaQ jaD ja7 jby jbe jaM jaY jap jaK jal jam jax jao ja5 jaV ja8 jae jag jaf jaN jaC jaP jaw jaI jbG jbg jbB jan jbD jbu jar jaL jah jaB jaa jaz jaH jab jaT a0_s jaq jai jaO jaA jat jau jav jaj jas jaJ jak jad jay jac jaQ cyI f2)) (wn := (qJs a0 x1 jaQ jaD ja7 jby jbe jaM jaY jap jaK jal jam jax jao ja5 jaV ja8 jae jag jaf jaN jaC jaP jaw jaI jbG jbg jbB jan jbD jbu jar jaL jah jaB jaa jaz jaH jab jaT a0_s jaq jai jaO jaA jat jau jav jaj jas jaJ jak jad jay jac jaQ cyI f2 jaT cyI jb0 a0_s cyI f0_s ja5 cyI jbv jbu cyI jbZ jbB cyI jca jbG cyI jcu jbg cyI jbR)) hP hD [0, 1] [2, 3, 4, 5, 6, 7, 8] [7, 8, 0, 1, 2, 3, 4, 5, 6] hCc rfl (by decide +kernel) (by decide +kernel) (by decide +kernel) rfl hk1 hFc hP1 hD1
  generalize H1 = H at hP hS ⊢
  refine lv_if_eq (tgt := 23) hx hb (qaa qli 7 rfl) (by decide) (fun c4 => ?_) (fun c4 => ?_)
  · have hw := hw.1 c4
    refine lv_iconst (v := 0) hx hb (qaa qli 13 rfl) (by decide) ?_
    exact ((W.zret (v := 0) hx hb hr rfl (fun t ht hW => ⟨⟨0, (x1, f2, f0_s, jbZ, jca), rfl, hw, by rw [ht]; exact hP, va_K.moved hW.alike hK, hD⟩, hS.F ht⟩) hS.2.2 (qaa qli 14 rfl)))
  · have hw := hw.2 c4
    refine lv_aload_n hx hb (qaa qli 8 rfl) rfl (lv_at hl 0 rfl) ?_
    refine lv_iload_n hx hb (qaa qli 9 rfl) rfl (lv_at hl 2 rfl) ?_
    refine lv_iconst (v := 1) hx hb (qaa qli 10 rfl) (by decide) ?_
    obtain ⟨hCc, hPc, hDc, hFc⟩ := qac (ws' := (qaOJ a0 x1 jaQ jaD ja7 jby jbe jaM jaY jap jaK jal jam jax jao ja5 jaV ja8 jae jag jaf jaN jaC jaP jaw jaI jbG jbg jbB jan jbD jbu jar jaL jah jaB jaa jaz jaH jab jaT a0_s jaq jai jaO jaA jat jau jav jaj jas jaJ jak jad jay jac jaQ cyI f2)) hP hD hS hA [0, 1] (by decide +kernel) rfl
    refine va_calli (va_runV (As := [.int p2, .int 1]) (rest := []) ⟨hx, hb, hml, hown, hts⟩ (qDa l dC dI cyB cyI cyJ cyP a0 jaQ H.size (jaD) (ja7) (jby) (jbe) (jaM) (jaY) (jap) (jaK) (jal) (jam) (jax) (jao) (.ref ja5) (jaV) (ja8) (jae) (jag) (jaf) (.int jaC) (jaP) (jaw) (jaI) (.ref jbG) (.ref jbg) (.ref jbB) (jan) (.int jbD) (.ref jbu) (jar) (jaL) (jah) (jaB) (jaa) (jaz) (jaH) (jab) (.ref jaT) (.ref a0_s) (jaq) (jai) (jaO) (jaA) (jat) (jau) (jav) (jaj) (jas) (jaJ) (jak) (jad) (jay) (jac) jaN x1 f2 p2 1 hw) (cwV 2 hts gX11_can_X11_isForm rfl rfl rfl (by decide +kernel) ⟨nbq rfl, nbq rfl⟩) ⟨qab, va_recv (q := (RX11, TX11, 55)) hK hPc (ci := 11) (q0 := 0) rfl rfl, qae hPc hK hDc hNw⟩ rfl rfl hl.1 rfl (lv_room (nbq rfl)) (qaa qli 11 rfl) ⟨nbq rfl, nbq rfl⟩) hS (fun q _ h => hFc q h) hFc (fun r7 u t H1 locs ht hvm hw hB hz1 hk1 hS => ?_)
    obtain ⟨x5, f6⟩ := u
    obtain ⟨hP1, hK1, hD1⟩ := hB
    rw [ht] at hP1
    obtain ⟨hP, hD⟩ := qad (wr := (qa4t jaT cyI jb0 a0_s cyI f0_s ja5 cyI jbv jbu cyI jbZ jbB cyI jca jbG cyI jcu jbg cyI jbR)) (w1 := (qaOJ a0 x5 jaQ jaD ja7 jby jbe jaM jaY jap jaK jal jam jax jao ja5 jaV ja8 jae jag jaf jaN jaC jaP jaw jaI jbG jbg jbB jan jbD jbu jar jaL jah jaB jaa jaz jaH jab jaT a0_s jaq jai jaO jaA jat jau jav jaj jas jaJ jak jad jay jac jaQ cyI f6)) (wn := (qJs a0 x5 jaQ jaD ja7 jby jbe jaM jaY jap jaK jal jam jax jao ja5 jaV ja8 jae jag jaf jaN jaC jaP jaw jaI jbG jbg jbB jan jbD jbu jar jaL jah jaB jaa jaz jaH jab jaT a0_s jaq jai jaO jaA jat jau jav jaj jas jaJ jak jad jay jac jaQ cyI f6 jaT cyI jb0 a0_s cyI f0_s ja5 cyI jbv jbu cyI jbZ jbB cyI jca jbG cyI jcu jbg cyI jbR)) hP hD [0, 1] [2, 3, 4, 5, 6, 7, 8] [7, 8, 0, 1, 2, 3, 4, 5, 6] hCc rfl (by decide +kernel) (by decide +kernel) (by decide +kernel) rfl hk1 hFc hP1 hD1
    generalize H1 = H at hP hS ⊢
    refine lv_if_ne (tgt := 25) hx hb (qaa qli 12 rfl) (by decide) (fun c8 => ?_) (fun c8 => ?_)
    · have hw := hw.1 c8
      refine lv_aload_n hx hb (qaa qli 15 rfl) rfl (lv_at hl 0 rfl) ?_
      obtain ⟨hCc, hPc, hDc, hFc⟩ := qac (ws' := (qa9T a0 x5 jaQ jaD ja7 jby jbe jaM jaY jap jaK jal jam jax jao ja5 jaV ja8 jae jag jaf jaN jaC jaP jaw jaI jbG jbg jbB jan jbD jbu jar jaL jah jaB jaa jaz jaH jab jaT a0_s jaq jai jaO jaA jat jau jav jaj jas jaJ jak jad jay jac jaT cyI jb0 a0_s cyI f0_s)) hP hD hS hA [0, 2, 3] (by decide +kernel) rfl
      refine va_callv (va_runV (As := []) (rest := []) ⟨hx, hb, hml, hown, hts⟩ (qq7 l dC dI cyB cyI cyJ cyP a0 jaT a0_s H.size (.int x5) (.ref jaQ) (jaD) (ja7) (jby) (jbe) (jaM) (jaY) (jap) (jaK) (jal) (jam) (jax) (jao) (.ref ja5) (jaV) (ja8) (jae) (jag) (jaf) (.int jaN) (.int jaC) (jaP) (jaw) (jaI) (.ref jbG) (.ref jbg) (.ref jbB) (jan) (.int jbD) (.ref jbu) (jar) (jaL) (jah) (jaB) (jaa) (jaz) (jaH) (jab) (jaq) (jai) (jaO) (jaA) (jat) (jau) (jav) (jaj) (jas) (jaJ) (jak) (jad) (jay) (jac) jb0 f0_s hw) (cwV 0 hts gX11_can_X11_take rfl rfl rfl (by decide +kernel) ⟨nbq rfl, nbq rfl⟩) ⟨qab, va_recv (q := (RX11, TX11, 55)) hK hPc (ci := 11) (q0 := 0) rfl rfl, qae hPc hK hDc hNw⟩ rfl rfl hl.1 rfl (lv_room (nbq rfl)) (qaa qC0 0 rfl) ⟨nbq rfl, nbq rfl⟩) hS (fun q _ h => hFc q h) hFc (fun u t H1 locs ht hvm hw hB hz1 hk1 hS => ?_)
      obtain ⟨f9, rfl⟩ : ∃ z, z = u := ⟨_, rfl⟩
      obtain ⟨hP1, hK1, hD1⟩ := hB
      rw [ht] at hP1
      obtain ⟨hP, hD⟩ := qad (wr := [(jaQ, .inl (cyI, 2, .inl f6)), (ja5, .inl (cyI, 16, .inl jbv)), (jbu, .inl (cyI, 8, .inl jbZ)), (jbB, .inl (cyI, 150, .inl jca)), (jbG, .inl (cyI, 150, .inl jcu)), (jbg, .inl (cyI, 150, .inl jbR))]) (w1 := (qa9T a0 x5 jaQ jaD ja7 jby jbe jaM jaY jap jaK jal jam jax jao ja5 jaV ja8 jae jag jaf jaN jaC jaP jaw jaI jbG jbg jbB jan jbD jbu jar jaL jah jaB jaa jaz jaH jab jaT a0_s jaq jai jaO jaA jat jau jav jaj jas jaJ jak jad jay jac jaT cyI jb0 a0_s cyI f9)) (wn := (qJs a0 x5 jaQ jaD ja7 jby jbe jaM jaY jap jaK jal jam jax jao ja5 jaV ja8 jae jag jaf jaN jaC jaP jaw jaI jbG jbg jbB jan jbD jbu jar jaL jah jaB jaa jaz jaH jab jaT a0_s jaq jai jaO jaA jat jau jav jaj jas jaJ jak jad jay jac jaQ cyI f6 jaT cyI jb0 a0_s cyI f9 ja5 cyI jbv jbu cyI jbZ jbB cyI jca jbG cyI jcu jbg cyI jbR)) hP hD [0, 2, 3] [1, 4, 5, 6, 7, 8] [6, 0, 7, 8, 1, 2, 3, 4, 5] hCc rfl (by decide +kernel) (by decide +kernel) (by decide +kernel) rfl hk1 hFc hP1 hD1
      generalize H1 = H at hP hS ⊢
      refine lv_aload_n hx hb (qaa qC0 1 rfl) rfl (lv_at hl 0 rfl) ?_
      refine lv_iload_n hx hb (qaa qC0 2 rfl) rfl (lv_at hl 1 rfl) ?_
      refine lv_iload_n hx hb (qaa qC0 3 rfl) rfl (lv_at hl 2 rfl) ?_
      obtain ⟨hCc, hPc, hDc, hFc⟩ := qac (ws' := (qa4r a0 x5 jaQ jaD ja7 jby jbe jaM jaY jap jaK jal jam jax jao ja5 jaV ja8 jae jag jaf jaN jaC jaP jaw jaI jbG jbg jbB jan jbD jbu jar jaL jah jaB jaa jaz jaH jab jaT a0_s jaq jai jaO jaA jat jau jav jaj jas jaJ jak jad jay jac a0_s cyI f9 ja5 cyI jbv jbu cyI jbZ jbB cyI jca jbG cyI jcu jbg cyI jbR)) hP hD hS hA [0, 3, 4, 5, 6, 7, 8] (by decide +kernel) rfl
      refine va_calli (va_runV (As := [.int p1, .int p2]) (rest := []) ⟨hx, hb, hml, hown, hts⟩ (qTS l dC dI cyB cyI cyJ cyP a0 a0_s ja5 jbu jbB jbG jbg H.size (.int x5) (.ref jaQ) (jaD) (ja7) (jby) (jbe) (jaM) (jaY) (jap) (jaK) (jal) (jam) (jax) (jao) (jaV) (ja8) (jae) (jag) (jaf) (.int jaN) (jaP) (jaw) (jaI) (jan) (jar) (jaL) (jah) (jaB) (jaa) (jaz) (jaH) (jab) (.ref jaT) (jaq) (jai) (jaO) (jaA) (jat) (jau) (jav) (jaj) (jas) (jaJ) (jak) (jad) (jay) (jac) jaC jbD f9 jbv jcu jbR jbZ jca p1 p2 hw) (cwV 2 hts gX11_can_X11_canLeap rfl rfl rfl (by decide +kernel) ⟨nbq rfl, nbq rfl⟩) ⟨qab, va_recv (q := (RX11, TX11, 55)) hK hPc (ci := 11) (q0 := 0) rfl rfl, qae hPc hK hDc hNw⟩ rfl rfl hl.1 rfl (lv_room (nbq rfl)) (qaa qC0 4 rfl) ⟨nbq rfl, nbq rfl⟩) hS (fun q _ h => hFc q h) hFc (fun r12 u t H1 locs ht hvm hw hB hz1 hk1 hS => ?_)
      obtain ⟨f10, f11⟩ := u
      obtain ⟨hP1, hK1, hD1⟩ := hB
      rw [ht] at hP1
      obtain ⟨hP, hD⟩ := qad (wr := (qa8T jaQ cyI f6 jaT cyI jb0)) (w1 := (qa4r a0 x5 jaQ jaD ja7 jby jbe jaM jaY jap jaK jal jam jax jao ja5 jaV ja8 jae jag jaf jaN jaC jaP jaw jaI jbG jbg jbB jan jbD jbu jar jaL jah jaB jaa jaz jaH jab jaT a0_s jaq jai jaO jaA jat jau jav jaj jas jaJ jak jad jay jac a0_s cyI f9 ja5 cyI jbv jbu cyI f10 jbB cyI f11 jbG cyI jcu jbg cyI jbR)) (wn := (qJs a0 x5 jaQ jaD ja7 jby jbe jaM jaY jap jaK jal jam jax jao ja5 jaV ja8 jae jag jaf jaN jaC jaP jaw jaI jbG jbg jbB jan jbD jbu jar jaL jah jaB jaa jaz jaH jab jaT a0_s jaq jai jaO jaA jat jau jav jaj jas jaJ jak jad jay jac jaQ cyI f6 jaT cyI jb0 a0_s cyI f9 ja5 cyI jbv jbu cyI f10 jbB cyI f11 jbG cyI jcu jbg cyI jbR)) hP hD [0, 3, 4, 5, 6, 7, 8] [1, 2] [2, 0, 1, 3, 4, 5, 6, 7, 8] hCc rfl (by decide +kernel) (by decide +kernel) (by decide +kernel) rfl hk1 hFc hP1 hD1
      generalize H1 = H at hP hS ⊢
      obtain ⟨hn9, hw⟩ := hw
      exact ((W.zret (v := r12) hx hb hr hn9 (fun t ht hW => ⟨⟨r12, (x5, f6, f9, f10, f11), rfl, hw, by rw [ht]; exact hP, va_K.moved hW.alike hK, hD⟩, hS.F ht⟩) hS.2.2 (qaa qC0 5 rfl)))
    · have hw := hw.2 c8
      refine lv_iconst (v := 0) hx hb (qaa qli 13 rfl) (by decide) ?_
      exact ((W.zret (v := 0) hx hb hr rfl (fun t ht hW => ⟨⟨0, (x5, f6, f0_s, jbZ, jca), rfl, hw, by rw [ht]; exact hP, va_K.moved hW.alike hK, hD⟩, hS.F ht⟩) hS.2.2 (qaa qli 14 rfl)))
theorem qCx : ∀ w ∈ u_ws RX11 TX11 55, w ∈ wsX11_clears := uiM qK6 qfa (by decide +kernel)
theorem qagP : (.fieldLink RX11 157 "MarchHaresModel" "newForms" "I" : Cond) ∈ wsX11_clears := qK6 512 (by decide +kernel)
theorem qahz : (.fieldLink RX11 160 "MarchHaresModel" "newHares" "I" : Cond) ∈ wsX11_clears := qK6 513 (by decide +kernel)
theorem qadT : (.fieldLink RX11 163 "MarchHaresModel" "newFoxes" "I" : Cond) ∈ wsX11_clears := qK6 514 (by decide +kernel)
theorem qajk : (.fieldLink RX11 32 "MarchHaresModel" "newDebt" "[I" : Cond) ∈ wsX11_clears := qK6 404 (by decide +kernel)
set_option maxHeartbeats 4000000 in
set_option maxRecDepth 100000 in
theorem qapW {p : Program} {l : Launch} {e : Env} {s : State} {m : MethodId} {args : Array Value} {below : List Frame} {meth : Method} {c : Code} {A : Nat → Prop} (dC : Nat → ClassId) (dI : Nat → Nat → Nat) (cyB cyI cyJ cyP : ClassId) (a0 jdO : Nat) (jaX jaF jaD ja7 jby jbe jaM jaY jap jaK jal jam jax ja6 jaV ja8 ja0 ja4 jaP jaw jaI jaZ jaG jaS jan jaU jaE jar jaL jah jaB jaa jaz jaH jab ja2 z0_s jaq jai jaO jaA jat jau jav jaj jas jaJ jak jad jay jac : Value) (Q : Int32 → Int32 → Int32 → NI → Prop) (C0 : cfx p s m args meth c cX11_clears none wsX11_clears RX11 2 A (dC, dI) (kT cyB cyI cyJ cyP)) : ∀ (n : Nat) (H : Heap) (locs : List Loc) (ls : Array Slot) (jg7 jgg jg8 : Int32) (jil : NI) (l1 : Int32), va_P (dC, dI) vwCl (qAI a0 jaX jaF jaD ja7 jby jbe jaM jaY jap jaK jal jam jax jdO ja6 jaV ja8 jg7 jgg jg8 ja0 ja4 jaP jaw jaI jaZ jaG jaS jan jaU jaE jar jaL jah jaB jaa jaz jaH jab ja2 z0_s jaq jai jaO jaA jat jau jav jaj jas jaJ jak jad jay jac jdO cyI jil) H → va_D A (qAI a0 jaX jaF jaD ja7 jby jbe jaM jaY jap jaK jal jam jax jdO ja6 jaV ja8 jg7 jgg jg8 ja0 ja4 jaP jaw jaI jaZ jaG jaS jan jaU jaE jar jaL jah jaB jaa jaz jaH jab ja2 z0_s jaq jai jaO jaA jat jau jav jaj jas jaJ jak jad jay jac jdO cyI jil) → va_S A s.heap H locs → lv_has ls 2 [(0, .ref a0), (1, .int l1)] → qEV Q n jg7 jgg jg8 jil l1 → W p l e (headSpec wsX11_clears ({ frames := 0, cells := 0, slots := 0, locals := 0 })).room s m args below meth c H locs 0 0 (MQ below (va_Qv (fun (u : Int32 × Int32 × Int32 × NI) => Q u.1 u.2.1 u.2.2.1 u.2.2.2) (cB (dC, dI) (kT cyB cyI cyJ cyP) A (fun u : Int32 × Int32 × Int32 × NI => ((qAI a0 jaX jaF jaD ja7 jby jbe jaM jaY jap jaK jal jam jax jdO ja6 jaV ja8 u.1 u.2.1 u.2.2.1 ja0 ja4 jaP jaw jaI jaZ jaG jaS jan jaU jaE jar jaL jah jaB jaa jaz jaH jab ja2 z0_s jaq jai jaO jaA jat jau jav jaj jas jaJ jak jad jay jac jdO cyI u.2.2.2) : va_W))) A) args s 0 0 A) (F0 m 17 ls []) := by
  obtain ⟨hx, hb, hr, hts, hown, hlocks, hml, hA, hK, hNw⟩ := id C0
  intro n
  induction n with
  | zero => intro H locs ls jg7 jgg jg8 jil l1 hP hD hS hl hw; exact False.elim hw
  | succ n ih =>
    intro H locs ls jg7 jgg jg8 jil l1 hP hD hS hl hw
    refine lv_iload_n hx hb (qaa qhH 11 rfl) rfl (lv_at hl 1 rfl) ?_
    refine lv_bipush (v := 36) hx hb (qaa qhH 12 rfl) (by decide) ?_
    refine lv_icmp_ge (tgt := 36) hx hb (qaa qhH 13 rfl) (by decide) (fun c1 => ?_) (fun c1 => ?_)
    · have hw := hw.1 c1
      exact ((W.vret hx hb hr (fun t ht hW => ⟨⟨(jg7, jgg, jg8, jil), rfl, hw, by rw [ht]; exact hP, va_K.moved hW.alike hK, hD⟩, hS.F ht⟩) hS.2.2 (qaa qwm 5 rfl)))
    · have hw := hw.2 c1
      refine lv_aload_n hx hb (qaa qhH 14 rfl) rfl (lv_at hl 0 rfl) ?_
      refine va_get (D := (dC, dI)) (ci := 11) (v := .ref jdO) (C := RX11) (T := TX11) (N := 55) hx hb hts qCx hown hK hP 0 rfl rfl 13 (by decide) (hts _ qajk) (fun _ h9 => h9) rfl (qaa qhH 15 rfl) ?_
      refine lv_iload_n hx hb (qaa qwm 0 rfl) rfl (lv_at hl 1 rfl) ?_
      refine lv_iconst (v := 0) hx hb (qaa qwm 1 rfl) (by decide) ?_
      obtain ⟨hi9, hw⟩ := hw
      refine va_iast hx hb hK hP hD hS 1 1 rfl rfl hi9 (qaa qwm 2 rfl) (fun H locs hP hD hS => ?_)
      obtain ⟨f2, ef2⟩ : ∃ y : NI, y = upd jil l1.toNatClampNeg 0 := ⟨_, rfl⟩
      have hw := hw f2 ef2
      have hP : va_P (dC, dI) vwCl (qAI a0 jaX jaF jaD ja7 jby jbe jaM jaY jap jaK jal jam jax jdO ja6 jaV ja8 jg7 jgg jg8 ja0 ja4 jaP jaw jaI jaZ jaG jaS jan jaU jaE jar jaL jah jaB jaa jaz jaH jab ja2 z0_s jaq jai jaO jaA jat jau jav jaj jas jaJ jak jad jay jac jdO cyI f2) H := by rw [ef2]; exact hP
      have hD : va_D A (qAI a0 jaX jaF jaD ja7 jby jbe jaM jaY jap jaK jal jam jax jdO ja6 jaV ja8 jg7 jgg jg8 ja0 ja4 jaP jaw jaI jaZ jaG jaS jan jaU jaE jar jaL jah jaB jaa jaz jaH jab ja2 z0_s jaq jai jaO jaA jat jau jav jaj jas jaJ jak jad jay jac jdO cyI f2) := by rw [ef2]; exact hD
      obtain ⟨x3, ex3⟩ : ∃ y : Int32, y = l1 + 1 := ⟨_, rfl⟩
      have hw := hw x3 ex3
      refine lv_iinc (v := x3) (lv' := [(1, .int x3), (0, .ref a0)]) hx hb (qaa qwm 3 rfl) hl (k := 1) rfl (by rw [ex3]; rfl) (by decide) rfl (fun ls hl => ?_)
      refine lv_goto (tgt := 17) hx hb (qaa qwm 4 rfl) (by decide) ?_
      exact ih _ _ _ jg7 jgg jg8 f2 x3 hP hD hS (lv_sub hl [1, 0] rfl) hw
set_option maxHeartbeats 4000000 in
set_option maxRecDepth 100000 in
theorem qahF (l : Launch) (dC : Nat → ClassId) (dI : Nat → Nat → Nat) (cyB cyI cyJ cyP : ClassId) (a0 jdO sz : Nat) (jaX jaF jaD ja7 jby jbe jaM jaY jap jaK jal jam jax ja6 jaV ja8 ja0 ja4 jaP jaw jaI jaZ jaG jaS jan jaU jaE jar jaL jah jaB jaa jaz jaH jab ja2 z0_s jaq jai jaO jaA jat jau jav jaj jas jaJ jak jad jay jac : Value) (jg7 jgg jg8 : Int32) (jil : NI) {Q : Int32 → Int32 → Int32 → NI → Prop} (hw : qHf jg7 jgg jg8 jil Q) : Met l yX11_clears wsX11_clears ({ frames := 0, cells := 0, slots := 0, locals := 0 }) (va_Pc [.ref a0] (cPc (dC, dI) (kT cyB cyI cyJ cyP) (qAI a0 jaX jaF jaD ja7 jby jbe jaM jaY jap jaK jal jam jax jdO ja6 jaV ja8 jg7 jgg jg8 ja0 ja4 jaP jaw jaI jaZ jaG jaS jan jaU jaE jar jaL jah jaB jaa jaz jaH jab ja2 z0_s jaq jai jaO jaA jat jau jav jaj jas jaJ jak jad jay jac jdO cyI jil) sz)) (va_Qv (fun (u : Int32 × Int32 × Int32 × NI) => Q u.1 u.2.1 u.2.2.1 u.2.2.2) (cB (dC, dI) (kT cyB cyI cyJ cyP) (va_A (qAI a0 jaX jaF jaD ja7 jby jbe jaM jaY jap jaK jal jam jax jdO ja6 jaV ja8 jg7 jgg jg8 ja0 ja4 jaP jaw jaI jaZ jaG jaS jan jaU jaE jar jaL jah jaB jaa jaz jaH jab ja2 z0_s jaq jai jaO jaA jat jau jav jaj jas jaJ jak jad jay jac jdO cyI jil) sz) (fun u : Int32 × Int32 × Int32 × NI => ((qAI a0 jaX jaF jaD ja7 jby jbe jaM jaY jap jaK jal jam jax jdO ja6 jaV ja8 u.1 u.2.1 u.2.2.1 ja0 ja4 jaP jaw jaI jaZ jaG jaS jan jaU jaE jar jaL jah jaB jaa jaz jaH jab ja2 z0_s jaq jai jaO jaA jat jau jav jaj jas jaJ jak jad jay jac jdO cyI u.2.2.2) : va_W))) (va_A (qAI a0 jaX jaF jaD ja7 jby jbe jaM jaY jap jaK jal jam jax jdO ja6 jaV ja8 jg7 jgg jg8 ja0 ja4 jaP jaw jaI jaZ jaG jaS jan jaU jaE jar jaL jah jaB jaa jaz jaH jab ja2 z0_s jaq jai jaO jaA jat jau jav jaj jas jaJ jak jad jay jac jdO cyI jil) sz)) 0 0 (va_A (qAI a0 jaX jaF jaD ja7 jby jbe jaM jaY jap jaK jal jam jax jdO ja6 jaV ja8 jg7 jgg jg8 ja0 ja4 jaP jaw jaI jaZ jaG jaS jan jaU jaE jar jaL jah jaB jaa jaz jaH jab ja2 z0_s jaq jai jaO jaA jat jau jav jaj jas jaJ jak jad jay jac jdO cyI jil) sz) := by
  refine Met.ofW (cc := cX11_clears) (maxL := 2) (ret := none) (by decide) rfl ?_
  intro p e s m args below meth c s₁ B hml hv
  obtain ⟨rfl, hsz, hP, hK, hD0, hNw⟩ := hv
  have hx := B.exec
  have hb := B.bytes
  have hr := B.returns
  have hts := atoms_spec (ws := wsX11_clears) B.pre
  have hown : s.vm.findClass RX11 = some m.cls := findClass_of_methodNamed B.named
  have hlocks := B.notSynchronized
  subst hsz
  have hD := hD0.self (sz := s.heap.size)
  generalize hAe : va_A (qAI a0 jaX jaF jaD ja7 jby jbe jaM jaY jap jaK jal jam jax jdO ja6 jaV ja8 jg7 jgg jg8 ja0 ja4 jaP jaw jaI jaZ jaG jaS jan jaU jaE jar jaL jah jaB jaa jaz jaH jab ja2 z0_s jaq jai jaO jaA jat jau jav jaj jas jaJ jak jad jay jac jdO cyI jil) s.heap.size = A at hD ⊢
  have hA : ∀ q : Nat, s.heap.size ≤ q → A q := fun q h => by rw [← hAe]; exact Or.inr h
  have hS : va_S A s.heap s.heap [] := va_S.rf
  have hP : va_P (dC, dI) vwCl (qAI a0 jaX jaF jaD ja7 jby jbe jaM jaY jap jaK jal jam jax jdO ja6 jaV ja8 jg7 jgg jg8 ja0 ja4 jaP jaw jaI jaZ jaG jaS jan jaU jaE jar jaL jah jaB jaa jaz jaH jab ja2 z0_s jaq jai jaO jaA jat jau jav jaj jas jaJ jak jad jay jac jdO cyI jil) s.heap := hP
  have hl := lv_entry ([.ref a0]) (n := 2) (nbq rfl)
  rw [lg_entry_eq]
  generalize (lg_sl ([.ref a0]) ++ List.replicate (2 - (lg_sl ([.ref a0])).length) Slot.unset).toArray = ls at hl ⊢
  have hl : lv_has ls 2 [(0, .ref a0)] := hl
  have C0 : cfx p s m _ meth c cX11_clears none wsX11_clears RX11 2 A (dC, dI) (kT cyB cyI cyJ cyP) := ⟨hx, hb, hr, hts, hown, hlocks, hml, hA, hK, hNw⟩
  clear hAe
  obtain ⟨H, hH⟩ : ∃ H, H = s.heap := ⟨_, rfl⟩
  rw [← hH] at hP ⊢
  have hS : va_S A s.heap H [] := by rw [hH]; exact va_S.rf
  have hS := hS
  refine lv_aload_n hx hb (qaa qhH 0 rfl) rfl (lv_at hl 0 rfl) ?_
  refine lv_iconst (v := 0) hx hb (qaa qhH 1 rfl) (by decide) ?_
  refine va_put (D := (dC, dI)) (ci := 11) (v := .int 0) (ty := .int) (C := RX11) (T := TX11) (N := 55) hx hb hts qCx tyX11 tyX11_ok nmX11 hown hK hP hD hS 0 rfl rfl 17 (by decide) (hts _ qagP) (fun _ h9 => h9) rfl (by decide +kernel) rfl rfl (nbq rfl) (qaa qhH 2 rfl) (fun H locs hP hD hS => ?_)
  have hP : va_P (dC, dI) vwCl (qAI a0 jaX jaF jaD ja7 jby jbe jaM jaY jap jaK jal jam jax jdO ja6 jaV ja8 0 jgg jg8 ja0 ja4 jaP jaw jaI jaZ jaG jaS jan jaU jaE jar jaL jah jaB jaa jaz jaH jab ja2 z0_s jaq jai jaO jaA jat jau jav jaj jas jaJ jak jad jay jac jdO cyI jil) H := hP
  have hD : va_D A (qAI a0 jaX jaF jaD ja7 jby jbe jaM jaY jap jaK jal jam jax jdO ja6 jaV ja8 0 jgg jg8 ja0 ja4 jaP jaw jaI jaZ jaG jaS jan jaU jaE jar jaL jah jaB jaa jaz jaH jab ja2 z0_s jaq jai jaO jaA jat jau jav jaj jas jaJ jak jad jay jac jdO cyI jil) := hD
  refine lv_aload_n hx hb (qaa qhH 3 rfl) rfl (lv_at hl 0 rfl) ?_
  refine lv_iconst (v := 0) hx hb (qaa qhH 4 rfl) (by decide) ?_
  refine va_put (D := (dC, dI)) (ci := 11) (v := .int 0) (ty := .int) (C := RX11) (T := TX11) (N := 55) hx hb hts qCx tyX11 tyX11_ok nmX11 hown hK hP hD hS 0 rfl rfl 18 (by decide) (hts _ qahz) (fun _ h9 => h9) rfl (by decide +kernel) rfl rfl (nbq rfl) (qaa qhH 5 rfl) (fun H locs hP hD hS => ?_)
  have hP : va_P (dC, dI) vwCl (qAI a0 jaX jaF jaD ja7 jby jbe jaM jaY jap jaK jal jam jax jdO ja6 jaV ja8 0 0 jg8 ja0 ja4 jaP jaw jaI jaZ jaG jaS jan jaU jaE jar jaL jah jaB jaa jaz jaH jab ja2 z0_s jaq jai jaO jaA jat jau jav jaj jas jaJ jak jad jay jac jdO cyI jil) H := hP
  have hD : va_D A (qAI a0 jaX jaF jaD ja7 jby jbe jaM jaY jap jaK jal jam jax jdO ja6 jaV ja8 0 0 jg8 ja0 ja4 jaP jaw jaI jaZ jaG jaS jan jaU jaE jar jaL jah jaB jaa jaz jaH jab ja2 z0_s jaq jai jaO jaA jat jau jav jaj jas jaJ jak jad jay jac jdO cyI jil) := hD
  refine lv_aload_n hx hb (qaa qhH 6 rfl) rfl (lv_at hl 0 rfl) ?_
  refine lv_iconst (v := 0) hx hb (qaa qhH 7 rfl) (by decide) ?_
  refine va_put (D := (dC, dI)) (ci := 11) (v := .int 0) (ty := .int) (C := RX11) (T := TX11) (N := 55) hx hb hts qCx tyX11 tyX11_ok nmX11 hown hK hP hD hS 0 rfl rfl 19 (by decide) (hts _ qadT) (fun _ h9 => h9) rfl (by decide +kernel) rfl rfl (nbq rfl) (qaa qhH 8 rfl) (fun H locs hP hD hS => ?_)
  have hP : va_P (dC, dI) vwCl (qAI a0 jaX jaF jaD ja7 jby jbe jaM jaY jap jaK jal jam jax jdO ja6 jaV ja8 0 0 0 ja0 ja4 jaP jaw jaI jaZ jaG jaS jan jaU jaE jar jaL jah jaB jaa jaz jaH jab ja2 z0_s jaq jai jaO jaA jat jau jav jaj jas jaJ jak jad jay jac jdO cyI jil) H := hP
  have hD : va_D A (qAI a0 jaX jaF jaD ja7 jby jbe jaM jaY jap jaK jal jam jax jdO ja6 jaV ja8 0 0 0 ja0 ja4 jaP jaw jaI jaZ jaG jaS jan jaU jaE jar jaL jah jaB jaa jaz jaH jab ja2 z0_s jaq jai jaO jaA jat jau jav jaj jas jaJ jak jad jay jac jdO cyI jil) := hD
  refine lv_iconst (v := 0) hx hb (qaa qhH 9 rfl) (by decide) ?_
  refine lv_istore_n (lv' := [(1, .int 0), (0, .ref a0)]) hx hb (qaa qhH 10 rfl) rfl hl (by decide) rfl (fun ls hl => ?_)
  obtain ⟨n9, hw⟩ := hw
  exact qapW dC dI cyB cyI cyJ cyP a0 jdO jaX jaF jaD ja7 jby jbe jaM jaY jap jaK jal jam jax ja6 jaV ja8 ja0 ja4 jaP jaw jaI jaZ jaG jaS jan jaU jaE jar jaL jah jaB jaa jaz jaH jab ja2 z0_s jaq jai jaO jaA jat jau jav jaj jas jaJ jak jad jay jac Q C0 n9 _ _ _ 0 0 0 jil 0 hP hD hS (lv_sub hl [1, 0] rfl) hw
