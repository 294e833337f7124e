/-- worlds by their leaves -/
def qvm (x0 : Nat) (x1 x2 x3 x4 x5 x6 x7 x8 x9 x10 x11 x12 x13 x14 : Value) (x15 x16 x17 : Nat) (x18 x19 x20 x21 : Value) (x22 x23 : Int32) (x24 x25 x26 x27 x28 x29 x30 x31 x32 x33 x34 x35 x36 x37 x38 x39 x40 : Value) (x41 : Nat) (x42 x43 x44 x45 x46 x47 x48 x49 x50 x51 x52 x53 x54 x55 : Value) (x56 : Nat) (x57 : ClassId) (x58 : NI) (x59 : Nat) (x60 : ClassId) (x61 : NI) (x62 : Nat) (x63 : ClassId) (x64 : NI) (x65 : Nat) (x66 : ClassId) (x67 : NI) : va_W := [(x0, .inr (11, [x1, x2, x3, x4, x5, x6, x7, x8, x9, x10, x11, x12, x13, x14, .ref x15, .ref x16, .ref x17, x18, x19, x20, x21, .int x22, .int x23, x24, x25, x26, x27, x28, x29, x30, x31, x32, x33, x34, x35, x36, x37, x38, x39, x40, .ref x41, x42, x43, x44, x45, x46, x47, x48, x49, x50, x51, x52, x53, x54, x55])), (x56, .inl (x57, 68, .inl x58)), (x59, .inl (x60, 16, .inl x61)), (x62, .inl (x63, 8, .inl x64)), (x65, .inl (x66, 12, .inl x67))]
def qbc2 (x0 : Nat) (x1 x2 x3 x4 x5 x6 x7 x8 x9 x10 x11 x12 x13 x14 : Value) (x15 x16 x17 : Nat) (x18 x19 x20 x21 : Value) (x22 x23 : Int32) (x24 x25 x26 x27 x28 x29 x30 x31 x32 x33 x34 x35 x36 x37 x38 x39 x40 : Value) (x41 : Nat) (x42 x43 x44 x45 x46 x47 x48 x49 x50 x51 x52 x53 x54 x55 : Value) (x56 : Nat) (x57 : ClassId) (x58 : NI) : va_W := [(x0, .inr (11, [x1, x2, x3, x4, x5, x6, x7, x8, x9, x10, x11, x12, x13, x14, .ref x15, .ref x16, .ref x17, x18, x19, x20, x21, .int x22, .int x23, x24, x25, x26, x27, x28, x29, x30, x31, x32, x33, x34, x35, x36, x37, x38, x39, x40, .ref x41, x42, x43, x44, x45, x46, x47, x48, x49, x50, x51, x52, x53, x54, x55])), (x56, .inl (x57, 68, .inl x58))]
def qI6 (x0 : Nat) (x1 x2 x3 x4 x5 x6 x7 x8 x9 x10 x11 x12 x13 x14 x15 x16 x17 x18 x19 x20 x21 : Value) (x22 : Int32) (x23 x24 x25 x26 x27 x28 x29 x30 x31 x32 x33 x34 x35 x36 x37 x38 x39 x40 : Value) (x41 : Nat) (x42 x43 x44 x45 x46 x47 x48 x49 x50 x51 x52 x53 x54 x55 : Value) (x56 : Nat) (x57 : ClassId) (x58 : NI) : va_W := [(x0, .inr (11, [x1, x2, x3, x4, x5, x6, x7, x8, x9, x10, x11, x12, x13, x14, x15, x16, x17, x18, x19, x20, x21, .int x22, x23, x24, x25, x26, x27, x28, x29, x30, x31, x32, x33, x34, x35, x36, x37, x38, x39, x40, .ref x41, x42, x43, x44, x45, x46, x47, x48, x49, x50, x51, x52, x53, x54, x55])), (x56, .inl (x57, 68, .inl x58))]
def q7n (x0 : Nat) (x1 x2 x3 x4 x5 x6 x7 x8 x9 x10 x11 x12 x13 x14 x15 x16 x17 x18 x19 x20 x21 x22 x23 x24 x25 x26 x27 x28 x29 x30 x31 x32 x33 x34 x35 x36 x37 x38 x39 x40 : Value) (x41 : Nat) (x42 x43 x44 x45 x46 x47 x48 x49 x50 x51 x52 x53 x54 x55 : Value) (x56 : Nat) (x57 : ClassId) (x58 : NI) : va_W := [(x0, .inr (11, [x1, x2, x3, x4, x5, x6, x7, x8, x9, x10, x11, x12, x13, x14, x15, x16, x17, x18, x19, x20, x21, x22, x23, x24, x25, x26, x27, x28, x29, x30, x31, x32, x33, x34, x35, x36, x37, x38, x39, x40, .ref x41, x42, x43, x44, x45, x46, x47, x48, x49, x50, x51, x52, x53, x54, x55])), (x56, .inl (x57, 68, .inl x58))]
def qyd (x0 : Nat) (x1 : Int32) (x2 : Nat) (x3 x4 x5 x6 x7 x8 x9 x10 x11 x12 x13 x14 : Value) (x15 x16 x17 : Nat) (x18 x19 x20 x21 : Value) (x22 x23 : Int32) (x24 x25 x26 x27 x28 x29 x30 x31 x32 x33 x34 x35 x36 x37 x38 x39 : Value) (x40 x41 : Nat) (x42 x43 x44 x45 x46 x47 x48 x49 x50 x51 x52 x53 x54 x55 : Value) (x56 : Nat) (x57 : ClassId) (x58 : NI) (x59 : Nat) (x60 : ClassId) (x61 : NI) (x62 : Nat) (x63 : ClassId) (x64 : NI) (x65 : Nat) (x66 : ClassId) (x67 : NI) (x68 : Nat) (x69 : ClassId) (x70 : NI) (x71 : Nat) (x72 : ClassId) (x73 : NI) : va_W := [(x0, .inr (11, [.int x1, .ref x2, x3, x4, x5, x6, x7, x8, x9, x10, x11, x12, x13, x14, .ref x15, .ref x16, .ref x17, x18, x19, x20, x21, .int x22, .int x23, x24, x25, x26, x27, x28, x29, x30, x31, x32, x33, x34, x35, x36, x37, x38, x39, .ref x40, .ref x41, x42, x43, x44, x45, x46, x47, x48, x49, x50, x51, x52, x53, x54, x55])), (x56, .inl (x57, 2, .inl x58)), (x59, .inl (x60, 68, .inl x61)), (x62, .inl (x63, 68, .inl x64)), (x65, .inl (x66, 16, .inl x67)), (x68, .inl (x69, 8, .inl x70)), (x71, .inl (x72, 12, .inl x73))]
def qa1j (x0 : Nat) (x1 : Int32) (x2 : Nat) (x3 x4 x5 x6 x7 x8 x9 x10 x11 x12 x13 x14 : Value) (x15 x16 x17 : Nat) (x18 x19 x20 x21 : Value) (x22 x23 : Int32) (x24 x25 x26 x27 x28 x29 x30 x31 x32 x33 x34 x35 x36 x37 x38 x39 : Value) (x40 x41 : Nat) (x42 x43 x44 x45 x46 x47 x48 x49 x50 x51 x52 x53 x54 x55 : Value) (x56 : Nat) (x57 : ClassId) (x58 : NI) : va_W := [(x0, .inr (11, [.int x1, .ref x2, x3, x4, x5, x6, x7, x8, x9, x10, x11, x12, x13, x14, .ref x15, .ref x16, .ref x17, x18, x19, x20, x21, .int x22, .int x23, x24, x25, x26, x27, x28, x29, x30, x31, x32, x33, x34, x35, x36, x37, x38, x39, .ref x40, .ref x41, x42, x43, x44, x45, x46, x47, x48, x49, x50, x51, x52, x53, x54, x55])), (x56, .inl (x57, 68, .inl x58))]
def qbcA (x0 : Nat) (x1 : ClassId) (x2 : NI) (x3 : Nat) (x4 : ClassId) (x5 : NI) (x6 : Nat) (x7 : ClassId) (x8 : NI) (x9 : Nat) (x10 : ClassId) (x11 : NI) (x12 : Nat) (x13 : ClassId) (x14 : NI) : va_W := [(x0, .inl (x1, 2, .inl x2)), (x3, .inl (x4, 68, .inl x5)), (x6, .inl (x7, 16, .inl x8)), (x9, .inl (x10, 8, .inl x11)), (x12, .inl (x13, 12, .inl x14))]
def qbdN (x0 : Nat) (x1 : Int32) (x2 : Nat) (x3 x4 x5 x6 x7 x8 x9 x10 x11 x12 x13 x14 : Value) (x15 x16 x17 : Nat) (x18 x19 x20 x21 : Value) (x22 x23 : Int32) (x24 x25 x26 x27 x28 x29 x30 x31 x32 x33 x34 x35 x36 x37 x38 x39 : Value) (x40 x41 : Nat) (x42 x43 x44 x45 x46 x47 x48 x49 x50 x51 x52 x53 x54 x55 : Value) (x56 : Nat) (x57 : ClassId) (x58 : NI) (x59 : Nat) (x60 : ClassId) (x61 : NI) (x62 : Nat) (x63 : ClassId) (x64 : NI) (x65 : Nat) (x66 : ClassId) (x67 : NI) : va_W := [(x0, .inr (11, [.int x1, .ref x2, x3, x4, x5, x6, x7, x8, x9, x10, x11, x12, x13, x14, .ref x15, .ref x16, .ref x17, x18, x19, x20, x21, .int x22, .int x23, x24, x25, x26, x27, x28, x29, x30, x31, x32, x33, x34, x35, x36, x37, x38, x39, .ref x40, .ref x41, x42, x43, x44, x45, x46, x47, x48, x49, x50, x51, x52, x53, x54, x55])), (x56, .inl (x57, 68, .inl x58)), (x59, .inl (x60, 16, .inl x61)), (x62, .inl (x63, 8, .inl x64)), (x65, .inl (x66, 12, .inl x67))]
def qbcS (x0 : Nat) (x1 : Int32) (x2 : Nat) (x3 x4 x5 x6 x7 x8 x9 x10 x11 x12 x13 x14 : Value) (x15 x16 x17 : Nat) (x18 x19 x20 x21 : Value) (x22 x23 : Int32) (x24 x25 x26 x27 x28 x29 x30 x31 x32 x33 x34 x35 x36 x37 x38 x39 : Value) (x40 x41 : Nat) (x42 x43 x44 x45 x46 x47 x48 x49 x50 x51 x52 x53 x54 x55 : Value) (x56 : Nat) (x57 : ClassId) (x58 : NI) : va_W := [(x0, .inr (11, [.int x1, .ref x2, x3, x4, x5, x6, x7, x8, x9, x10, x11, x12, x13, x14, .ref x15, .ref x16, .ref x17, x18, x19, x20, x21, .int x22, .int x23, x24, x25, x26, x27, x28, x29, x30, x31, x32, x33, x34, x35, x36, x37, x38, x39, .ref x40, .ref x41, x42, x43, x44, x45, x46, x47, x48, x49, x50, x51, x52, x53, x54, x55])), (x56, .inl (x57, 2, .inl x58))]
def qbd2 (x0 : Nat) (x1 : Int32) (x2 : Nat) (x3 x4 x5 x6 x7 x8 x9 x10 x11 x12 x13 x14 : Value) (x15 x16 x17 : Nat) (x18 x19 x20 x21 : Value) (x22 x23 : Int32) (x24 x25 x26 x27 x28 x29 x30 x31 x32 x33 x34 x35 x36 x37 x38 x39 : Value) (x40 x41 : Nat) (x42 x43 x44 x45 x46 x47 x48 x49 x50 x51 x52 x53 x54 x55 : Value) (x56 : Nat) (x57 : ClassId) (x58 : NI) (x59 : Nat) (x60 : ClassId) (x61 : NI) : va_W := [(x0, .inr (11, [.int x1, .ref x2, x3, x4, x5, x6, x7, x8, x9, x10, x11, x12, x13, x14, .ref x15, .ref x16, .ref x17, x18, x19, x20, x21, .int x22, .int x23, x24, x25, x26, x27, x28, x29, x30, x31, x32, x33, x34, x35, x36, x37, x38, x39, .ref x40, .ref x41, x42, x43, x44, x45, x46, x47, x48, x49, x50, x51, x52, x53, x54, x55])), (x56, .inl (x57, 68, .inl x58)), (x59, .inl (x60, 68, .inl x61))]
def qz2 (x0 : Nat) (x1 x2 : Value) (x3 x4 x5 x6 : Int32) (x7 : Value) (x8 x9 : Int32) (x10 x11 x12 x13 x14 x15 x16 x17 x18 x19 x20 x21 x22 x23 x24 x25 x26 x27 x28 x29 x30 x31 x32 x33 x34 x35 x36 x37 x38 x39 x40 x41 x42 x43 x44 x45 x46 x47 x48 x49 x50 x51 x52 x53 x54 x55 : Value) : va_W := [(x0, .inr (11, [x1, x2, .int x3, .int x4, .int x5, .int x6, x7, .int x8, .int x9, x10, x11, x12, x13, x14, x15, x16, x17, x18, x19, x20, x21, x22, x23, x24, x25, x26, x27, x28, x29, x30, x31, x32, x33, x34, x35, x36, x37, x38, x39, x40, x41, x42, x43, x44, x45, x46, x47, x48, x49, x50, x51, x52, x53, x54, x55]))]
def qq3 (x0 : Nat) (x1 x2 x3 x4 x5 x6 x7 x8 x9 x10 x11 x12 x13 x14 : Value) (x15 : Nat) (x16 : Value) (x17 : Nat) (x18 x19 x20 x21 : Value) (x22 x23 : Int32) (x24 x25 x26 x27 x28 x29 x30 x31 x32 x33 x34 x35 x36 x37 x38 x39 x40 : Value) (x41 : Nat) (x42 x43 x44 x45 x46 x47 x48 x49 x50 x51 x52 x53 x54 x55 : Value) (x56 : Nat) (x57 : ClassId) (x58 : NI) (x59 : Nat) (x60 : ClassId) (x61 : NI) (x62 : Nat) (x63 : ClassId) (x64 : NI) : va_W := [(x0, .inr (11, [x1, x2, x3, x4, x5, x6, x7, x8, x9, x10, x11, x12, x13, x14, .ref x15, x16, .ref x17, x18, x19, x20, x21, .int x22, .int x23, x24, x25, x26, x27, x28, x29, x30, x31, x32, x33, x34, x35, x36, x37, x38, x39, x40, .ref x41, x42, x43, x44, x45, x46, x47, x48, x49, x50, x51, x52, x53, x54, x55])), (x56, .inl (x57, 68, .inl x58)), (x59, .inl (x60, 16, .inl x61)), (x62, .inl (x63, 8, .inl x64))]
def qabR (x0 : Nat) (x1 x2 x3 x4 x5 : Value) (x6 : Int32) (x7 x8 x9 x10 x11 x12 x13 x14 x15 x16 x17 x18 x19 x20 x21 x22 x23 x24 x25 x26 x27 x28 x29 x30 x31 x32 x33 x34 x35 x36 x37 x38 x39 x40 x41 x42 x43 x44 x45 x46 x47 x48 x49 x50 x51 x52 x53 x54 x55 : Value) : va_W := [(x0, .inr (11, [x1, x2, x3, x4, x5, .int x6, x7, x8, x9, x10, x11, x12, x13, x14, x15, x16, x17, x18, x19, x20, x21, x22, x23, x24, x25, x26, x27, x28, x29, x30, x31, x32, x33, x34, x35, x36, x37, x38, x39, x40, x41, x42, x43, x44, x45, x46, x47, x48, x49, x50, x51, x52, x53, x54, x55]))]
def quE (x0 : Nat) (x1 x2 x3 : Value) (x4 x5 : Int32) (x6 x7 x8 x9 : Value) (x10 : Nat) (x11 x12 x13 x14 x15 x16 x17 x18 x19 x20 x21 x22 x23 x24 x25 x26 x27 x28 x29 x30 x31 x32 x33 x34 x35 x36 x37 x38 x39 x40 x41 x42 x43 x44 x45 x46 x47 x48 x49 x50 x51 x52 x53 x54 x55 : Value) (x56 : Nat) (x57 : ClassId) (x58 : NI) : va_W := [(x0, .inr (11, [x1, x2, x3, .int x4, .int x5, x6, x7, x8, x9, .ref x10, x11, x12, x13, x14, x15, x16, x17, x18, x19, x20, x21, x22, x23, x24, x25, x26, x27, x28, x29, x30, x31, x32, x33, x34, x35, x36, x37, x38, x39, x40, x41, x42, x43, x44, x45, x46, x47, x48, x49, x50, x51, x52, x53, x54, x55])), (x56, .inl (x57, 600, .inl x58))]
def qQ7 (x0 : Nat) (x1 x2 x3 x4 x5 : Value) (x6 x7 : Int32) (x8 x9 x10 x11 x12 x13 x14 x15 x16 x17 x18 x19 x20 x21 x22 x23 x24 x25 x26 x27 x28 x29 x30 x31 x32 x33 x34 x35 x36 x37 x38 x39 x40 x41 x42 x43 x44 x45 x46 x47 x48 x49 x50 x51 x52 x53 x54 x55 : Value) : va_W := [(x0, .inr (11, [x1, x2, x3, x4, x5, .int x6, .int x7, x8, x9, x10, x11, x12, x13, x14, x15, x16, x17, x18, x19, x20, x21, x22, x23, x24, x25, x26, x27, x28, x29, x30, x31, x32, x33, x34, x35, x36, x37, x38, x39, x40, x41, x42, x43, x44, x45, x46, x47, x48, x49, x50, x51, x52, x53, x54, x55]))]
def qgh (x0 : Nat) (x1 x2 x3 : Value) (x4 x5 x6 x7 : Int32) (x8 x9 : Value) (x10 : Nat) (x11 x12 x13 x14 x15 x16 x17 x18 x19 x20 x21 x22 x23 x24 x25 x26 x27 x28 x29 x30 x31 x32 x33 x34 x35 x36 x37 x38 x39 x40 x41 x42 x43 x44 x45 x46 x47 x48 x49 x50 x51 x52 x53 x54 x55 : Value) (x56 : Nat) (x57 : ClassId) (x58 : NI) : va_W := [(x0, .inr (11, [x1, x2, x3, .int x4, .int x5, .int x6, .int x7, x8, x9, .ref x10, x11, x12, x13, x14, x15, x16, x17, x18, x19, x20, x21, x22, x23, x24, x25, x26, x27, x28, x29, x30, x31, x32, x33, x34, x35, x36, x37, x38, x39, x40, x41, x42, x43, x44, x45, x46, x47, x48, x49, x50, x51, x52, x53, x54, x55])), (x56, .inl (x57, 600, .inl x58))]
def qLT (x0 : Nat) (x1 x2 x3 : Value) (x4 x5 x6 x7 : Int32) (x8 x9 : Value) (x10 : Nat) (x11 x12 x13 x14 x15 x16 x17 x18 x19 x20 x21 x22 x23 x24 x25 x26 x27 x28 x29 x30 x31 x32 x33 x34 x35 x36 x37 x38 x39 x40 x41 x42 x43 x44 x45 x46 x47 x48 x49 x50 x51 x52 x53 x54 x55 : Value) : va_W := [(x0, .inr (11, [x1, x2, x3, .int x4, .int x5, .int x6, .int x7, x8, x9, .ref x10, x11, x12, x13, x14, x15, x16, x17, x18, x19, x20, x21, x22, x23, x24, x25, x26, x27, x28, x29, x30, x31, x32, x33, x34, x35, x36, x37, x38, x39, x40, x41, x42, x43, x44, x45, x46, x47, x48, x49, x50, x51, x52, x53, x54, x55]))]
def qamj (x0 : Nat) (x1 : ClassId) (x2 : NI) : va_W := [(x0, .inl (x1, 600, .inl x2))]
def qMf (x0 : Nat) (x1 x2 x3 x4 x5 : Value) (x6 x7 : Int32) (x8 : Value) (x9 : Int32) (x10 x11 x12 x13 x14 x15 x16 x17 x18 x19 x20 x21 x22 x23 x24 x25 x26 x27 x28 x29 x30 x31 x32 x33 x34 x35 x36 x37 x38 x39 x40 x41 x42 x43 x44 x45 x46 x47 x48 x49 x50 x51 x52 x53 x54 x55 : Value) : va_W := [(x0, .inr (11, [x1, x2, x3, x4, x5, .int x6, .int x7, x8, .int x9, x10, x11, x12, x13, x14, x15, x16, x17, x18, x19, x20, x21, x22, x23, x24, x25, x26, x27, x28, x29, x30, x31, x32, x33, x34, x35, x36, x37, x38, x39, x40, x41, x42, x43, x44, x45, x46, x47, x48, x49, x50, x51, x52, x53, x54, x55]))]
def qh1 (x0 : Nat) (x1 : Int32) (x2 : Nat) (x3 x4 x5 x6 x7 x8 x9 : Int32) (x10 : Nat) (x11 x12 x13 x14 x15 x16 x17 x18 x19 x20 : Value) (x21 : Int32) (x22 x23 x24 x25 x26 x27 x28 x29 x30 x31 x32 x33 x34 x35 x36 x37 x38 x39 x40 x41 x42 : Value) (x43 x44 : Nat) (x45 : Int32) (x46 x47 x48 x49 x50 x51 x52 x53 x54 x55 : Value) (x56 : Nat) (x57 : ClassId) (x58 : NI) (x59 : Nat) (x60 : ClassId) (x61 : NI) (x62 : Nat) (x63 : ClassId) (x64 : NI) (x65 : Nat) (x66 : ClassId) (x67 : NI) : va_W := [(x0, .inr (11, [.int x1, .ref x2, .int x3, .int x4, .int x5, .int x6, .int x7, .int x8, .int x9, .ref x10, x11, x12, x13, x14, x15, x16, x17, x18, x19, x20, .int x21, x22, x23, x24, x25, x26, x27, x28, x29, x30, x31, x32, x33, x34, x35, x36, x37, x38, x39, x40, x41, x42, .ref x43, .ref x44, .int x45, x46, x47, x48, x49, x50, x51, x52, x53, x54, x55])), (x56, .inl (x57, 2, .inl x58)), (x59, .inl (x60, 8, .inl x61)), (x62, .inl (x63, 600, .inl x64)), (x65, .inl (x66, 8, .inl x67))]
def qNg (x0 : Nat) (x1 : Int32) (x2 : Nat) (x3 x4 x5 x6 x7 x8 x9 : Int32) (x10 : Nat) (x11 x12 x13 x14 x15 x16 x17 x18 x19 x20 : Value) (x21 : Int32) (x22 x23 x24 x25 x26 x27 x28 x29 x30 x31 x32 x33 x34 x35 x36 x37 x38 x39 x40 x41 x42 : Value) (x43 x44 : Nat) (x45 : Int32) (x46 x47 x48 x49 x50 x51 x52 x53 x54 x55 : Value) : va_W := [(x0, .inr (11, [.int x1, .ref x2, .int x3, .int x4, .int x5, .int x6, .int x7, .int x8, .int x9, .ref x10, x11, x12, x13, x14, x15, x16, x17, x18, x19, x20, .int x21, x22, x23, x24, x25, x26, x27, x28, x29, x30, x31, x32, x33, x34, x35, x36, x37, x38, x39, x40, x41, x42, .ref x43, .ref x44, .int x45, x46, x47, x48, x49, x50, x51, x52, x53, x54, x55]))]
def qal5 (x0 : Nat) (x1 : ClassId) (x2 : NI) (x3 : Nat) (x4 : ClassId) (x5 : NI) (x6 : Nat) (x7 : ClassId) (x8 : NI) (x9 : Nat) (x10 : ClassId) (x11 : NI) : va_W := [(x0, .inl (x1, 2, .inl x2)), (x3, .inl (x4, 8, .inl x5)), (x6, .inl (x7, 600, .inl x8)), (x9, .inl (x10, 8, .inl x11))]
def qa8z (x0 : Nat) (x1 : Int32) (x2 : Nat) (x3 x4 x5 x6 x7 x8 x9 : Int32) (x10 : Nat) (x11 x12 x13 x14 x15 x16 x17 x18 x19 x20 : Value) (x21 : Int32) (x22 x23 x24 x25 x26 x27 x28 x29 x30 x31 x32 x33 x34 x35 x36 x37 x38 x39 x40 x41 x42 : Value) (x43 x44 : Nat) (x45 : Int32) (x46 x47 x48 x49 x50 x51 x52 x53 x54 x55 : Value) (x56 : Nat) (x57 : ClassId) (x58 : NI) (x59 : Nat) (x60 : ClassId) (x61 : NI) : va_W := [(x0, .inr (11, [.int x1, .ref x2, .int x3, .int x4, .int x5, .int x6, .int x7, .int x8, .int x9, .ref x10, x11, x12, x13, x14, x15, x16, x17, x18, x19, x20, .int x21, x22, x23, x24, x25, x26, x27, x28, x29, x30, x31, x32, x33, x34, x35, x36, x37, x38, x39, x40, x41, x42, .ref x43, .ref x44, .int x45, x46, x47, x48, x49, x50, x51, x52, x53, x54, x55])), (x56, .inl (x57, 8, .inl x58)), (x59, .inl (x60, 8, .inl x61))]
def qTP (x0 : Nat) (x1 : Int32) (x2 : Nat) (x3 x4 x5 x6 x7 x8 x9 : Int32) (x10 : Nat) (x11 x12 x13 x14 x15 x16 x17 x18 x19 x20 : Value) (x21 : Int32) (x22 x23 x24 x25 x26 x27 x28 x29 x30 x31 x32 x33 x34 x35 x36 x37 x38 x39 x40 x41 x42 : Value) (x43 x44 : Nat) (x45 : Int32) (x46 x47 x48 x49 x50 x51 x52 x53 x54 x55 : Value) (x56 : Nat) (x57 : ClassId) (x58 : NI) : va_W := [(x0, .inr (11, [.int x1, .ref x2, .int x3, .int x4, .int x5, .int x6, .int x7, .int x8, .int x9, .ref x10, x11, x12, x13, x14, x15, x16, x17, x18, x19, x20, .int x21, x22, x23, x24, x25, x26, x27, x28, x29, x30, x31, x32, x33, x34, x35, x36, x37, x38, x39, x40, x41, x42, .ref x43, .ref x44, .int x45, x46, x47, x48, x49, x50, x51, x52, x53, x54, x55])), (x56, .inl (x57, 600, .inl x58))]
def qaBK (x0 : Nat) (x1 : ClassId) (x2 : NI) (x3 : Nat) (x4 : ClassId) (x5 : NI) (x6 : Nat) (x7 : ClassId) (x8 : NI) : va_W := [(x0, .inl (x1, 2, .inl x2)), (x3, .inl (x4, 8, .inl x5)), (x6, .inl (x7, 8, .inl x8))]
def qa7J (x0 : Nat) (x1 : Int32) (x2 : Nat) (x3 x4 x5 x6 x7 x8 x9 : Int32) (x10 : Nat) (x11 x12 x13 x14 x15 x16 x17 x18 x19 x20 : Value) (x21 : Int32) (x22 x23 x24 x25 x26 x27 x28 x29 x30 x31 x32 x33 x34 x35 x36 x37 x38 x39 x40 x41 x42 : Value) (x43 x44 : Nat) (x45 : Int32) (x46 x47 x48 x49 x50 x51 x52 x53 x54 x55 : Value) (x56 : Nat) (x57 : ClassId) (x58 : NI) : va_W := [(x0, .inr (11, [.int x1, .ref x2, .int x3, .int x4, .int x5, .int x6, .int x7, .int x8, .int x9, .ref x10, x11, x12, x13, x14, x15, x16, x17, x18, x19, x20, .int x21, x22, x23, x24, x25, x26, x27, x28, x29, x30, x31, x32, x33, x34, x35, x36, x37, x38, x39, x40, x41, x42, .ref x43, .ref x44, .int x45, x46, x47, x48, x49, x50, x51, x52, x53, x54, x55])), (x56, .inl (x57, 2, .inl x58))]
def qMJ (x0 : Nat) (x1 : Int32) (x2 : Nat) (x3 x4 x5 x6 x7 x8 x9 x10 x11 x12 x13 x14 x15 x16 x17 x18 x19 x20 x21 : Value) (x22 : Int32) (x23 x24 x25 x26 x27 x28 x29 x30 x31 x32 x33 x34 x35 x36 x37 x38 x39 x40 x41 x42 x43 x44 x45 x46 x47 x48 x49 x50 x51 x52 x53 x54 x55 : Value) (x56 : Nat) (x57 : ClassId) (x58 : NI) : va_W := [(x0, .inr (11, [.int x1, .ref x2, x3, x4, x5, x6, x7, x8, x9, x10, x11, x12, x13, x14, x15, x16, x17, x18, x19, x20, x21, .int x22, x23, x24, x25, x26, x27, x28, x29, x30, x31, x32, x33, x34, x35, x36, x37, x38, x39, x40, x41, x42, x43, x44, x45, x46, x47, x48, x49, x50, x51, x52, x53, x54, x55])), (x56, .inl (x57, 2, .inl x58))]
def qnt (x0 : Nat) (x1 x2 x3 x4 x5 x6 x7 x8 x9 x10 x11 x12 x13 x14 x15 x16 x17 x18 x19 x20 x21 : Value) (x22 : Int32) (x23 x24 x25 x26 x27 x28 x29 x30 x31 x32 x33 x34 x35 x36 x37 x38 x39 : Value) (x40 : Nat) (x41 x42 x43 x44 x45 x46 x47 x48 x49 x50 x51 x52 x53 x54 x55 : Value) (x56 : Nat) (x57 : ClassId) (x58 : NI) : va_W := [(x0, .inr (11, [x1, x2, x3, x4, x5, x6, x7, x8, x9, x10, x11, x12, x13, x14, x15, x16, x17, x18, x19, x20, x21, .int x22, x23, x24, x25, x26, x27, x28, x29, x30, x31, x32, x33, x34, x35, x36, x37, x38, x39, .ref x40, x41, x42, x43, x44, x45, x46, x47, x48, x49, x50, x51, x52, x53, x54, x55])), (x56, .inl (x57, 68, .inl x58))]
theorem qvC : ∀ w ∈ u_ws RX11 TX11 55, w ∈ wsX11_passes := uiM qCh qfa (by decide +kernel)
theorem qad2 : (.fieldLink RX11 169 "MarchHaresModel" "hares" "I" : Cond) ∈ wsX11_passes := qCh 520 (by decide +kernel)
theorem qyy : (.fieldLink RX11 71 "MarchHaresModel" "s" "[I" : Cond) ∈ wsX11_passes := qCh 457 (by decide +kernel)
set_option maxHeartbeats 4000000 in
set_option maxRecDepth 100000 in
theorem qLW {p : Program} {l : Launch} {e : Env} {s : State} {m : MethodId} {args : Array Value} {below : List Frame} {meth : Method} {c : Code} {A : Nat → Prop} (dC : Nat → ClassId) (dI : Nat → Nat → Nat) (cyB cyI cyJ cyP : ClassId) (a0 a0_s ja5 jbJ jb9 : Nat) (jaX jaF jaD ja7 jby jbe jaM jaY jap jaK jal jam jax jao jae jag jaf ja0 jaw jaI jaZ jaG jaS jan jaU jaE jar jaL jah jaB jaa jaz jaH jab ja2 jaq jai jaO jaA jat jau jav jaj jas jaJ jak jad jay jac : Value) (jaC jbw : Int32) (jbv jcy jdH : NI) (Q : NI → Prop) (K2 : NI → Int32 → Prop) (hK2 : ∀ (H : Heap) (locs : List Loc) (ls : Array Slot) (f0_s : NI) (l1 : Int32), va_P (dC, dI) vwCl (qvm a0 jaX jaF jaD ja7 jby jbe jaM jaY jap jaK jal jam jax jao ja5 jb9 jbJ jae jag jaf ja0 jaC jbw jaw jaI jaZ jaG jaS jan jaU jaE jar jaL jah jaB jaa jaz jaH jab ja2 a0_s jaq jai jaO jaA jat jau jav jaj jas jaJ jak jad jay jac a0_s cyI f0_s ja5 cyI jbv jbJ cyI jcy jb9 cyI jdH) H → va_D A (qvm a0 jaX jaF jaD ja7 jby jbe jaM jaY jap jaK jal jam jax jao ja5 jb9 jbJ jae jag jaf ja0 jaC jbw jaw jaI jaZ jaG jaS jan jaU jaE jar jaL jah jaB jaa jaz jaH jab ja2 a0_s jaq jai jaO jaA jat jau jav jaj jas jaJ jak jad jay jac a0_s cyI f0_s ja5 cyI jbv jbJ cyI jcy jb9 cyI jdH) → va_S A s.heap H locs → lv_has ls 2 [(0, .ref a0), (1, .int l1)] → K2 f0_s l1 → W p l e (headSpec wsX11_passes ({ frames := 4, cells := 0, slots := 0, locals := 85 })).room s m args below meth c H locs 0 0 (MQ below (va_Qv (fun (u : NI) => Q u) (cB (dC, dI) (kT cyB cyI cyJ cyP) A (fun u : NI => ((qvm a0 jaX jaF jaD ja7 jby jbe jaM jaY jap jaK jal jam jax jao ja5 jb9 jbJ jae jag jaf ja0 jaC jbw jaw jaI jaZ jaG jaS jan jaU jaE jar jaL jah jaB jaa jaz jaH jab ja2 a0_s jaq jai jaO jaA jat jau jav jaj jas jaJ jak jad jay jac a0_s cyI u ja5 cyI jbv jbJ cyI jcy jb9 cyI jdH) : va_W))) A) args s 0 0 A) (F0 m 2 ls [])) (C0 : cfx p s m args meth c cX11_passes none wsX11_passes RX11 2 A (dC, dI) (kT cyB cyI cyJ cyP)) : ∀ (H : Heap) (locs : List Loc) (ls : Array Slot) (f0_s : NI) (l1 : Int32), va_P (dC, dI) vwCl (qvm a0 jaX jaF jaD ja7 jby jbe jaM jaY jap jaK jal jam jax jao ja5 jb9 jbJ jae jag jaf ja0 jaC jbw jaw jaI jaZ jaG jaS jan jaU jaE jar jaL jah jaB jaa jaz jaH jab ja2 a0_s jaq jai jaO jaA jat jau jav jaj jas jaJ jak jad jay jac a0_s cyI f0_s ja5 cyI jbv jbJ cyI jcy jb9 cyI jdH) H → va_D A (qvm a0 jaX jaF jaD ja7 jby jbe jaM jaY jap jaK jal jam jax jao ja5 jb9 jbJ jae jag jaf ja0 jaC jbw jaw jaI jaZ jaG jaS jan jaU jaE jar jaL jah jaB jaa jaz jaH jab ja2 a0_s jaq jai jaO jaA jat jau jav jaj jas jaJ jak jad jay jac a0_s cyI f0_s ja5 cyI jbv jbJ cyI jcy jb9 cyI jdH) → va_S A s.heap H locs → lv_has ls 2 [(0, .ref a0), (1, .int l1)] → qAa jaC jbw jbv jcy jdH Q K2 f0_s l1 → W p l e (headSpec wsX11_passes ({ frames := 4, cells := 0, slots := 0, locals := 85 })).room s m args below meth c H locs 0 0 (MQ below (va_Qv (fun (u : NI) => Q u) (cB (dC, dI) (kT cyB cyI cyJ cyP) A (fun u : NI => ((qvm a0 jaX jaF jaD ja7 jby jbe jaM jaY jap jaK jal jam jax jao ja5 jb9 jbJ jae jag jaf ja0 jaC jbw jaw jaI jaZ jaG jaS jan jaU jaE jar jaL jah jaB jaa jaz jaH jab ja2 a0_s jaq jai jaO jaA jat jau jav jaj jas jaJ jak jad jay jac a0_s cyI u ja5 cyI jbv jbJ cyI jcy jb9 cyI jdH) : va_W))) A) args s 0 0 A) (F0 m 43 ls []) := by
  obtain ⟨hx, hb, hr, hts, hown, hlocks, hml, hA, hK, hNw⟩ := id C0
  intro H locs ls f0_s l1 hP hD hS hl hw
  obtain ⟨x17, ex17⟩ : ∃ y : Int32, y = l1 + 1 := ⟨_, rfl⟩
  have hw := hw x17 ex17
  refine lv_iinc (v := x17) (lv' := [(1, .int x17), (0, .ref a0)]) hx hb (qaa qfQ 11 rfl) hl (k := 1) rfl (by rw [ex17]; rfl) (by decide) rfl (fun ls hl => ?_)
  refine lv_goto (tgt := 2) hx hb (qaa qfQ 12 rfl) (by decide) ?_
  exact hK2 _ _ _ f0_s x17 hP hD hS (lv_sub hl [1, 0] rfl) hw
set_option maxHeartbeats 4000000 in
set_option maxRecDepth 100000 in
theorem qaqR {p : Program} {l : Launch} {e : Env} {s : State} {m : MethodId} {args : Array Value} {below : List Frame} {meth : Method} {c : Code} {A : Nat → Prop} (dC : Nat → ClassId) (dI : Nat → Nat → Nat) (cyB cyI cyJ cyP : ClassId) (a0 a0_s ja5 jbJ jb9 : Nat) (jaX jaF jaD ja7 jby jbe jaM jaY jap jaK jal jam jax jao jae jag jaf ja0 jaw jaI jaZ jaG jaS jan jaU jaE jar jaL jah jaB jaa jaz jaH jab ja2 jaq jai jaO jaA jat jau jav jaj jas jaJ jak jad jay jac : Value) (jaC jbw : Int32) (jbv jcy jdH : NI) (Q : NI → Prop) (C0 : cfx p s m args meth c cX11_passes none wsX11_passes RX11 2 A (dC, dI) (kT cyB cyI cyJ cyP)) : ∀ (n : Nat) (H : Heap) (locs : List Loc) (ls : Array Slot) (f0_s : NI) (l1 : Int32), va_P (dC, dI) vwCl (qvm a0 jaX jaF jaD ja7 jby jbe jaM jaY jap jaK jal jam jax jao ja5 jb9 jbJ jae jag jaf ja0 jaC jbw jaw jaI jaZ jaG jaS jan jaU jaE jar jaL jah jaB jaa jaz jaH jab ja2 a0_s jaq jai jaO jaA jat jau jav jaj jas jaJ jak jad jay jac a0_s cyI f0_s ja5 cyI jbv jbJ cyI jcy jb9 cyI jdH) H → va_D A (qvm a0 jaX jaF jaD ja7 jby jbe jaM jaY jap jaK jal jam jax jao ja5 jb9 jbJ jae jag jaf ja0 jaC jbw jaw jaI jaZ jaG jaS jan jaU jaE jar jaL jah jaB jaa jaz jaH jab ja2 a0_s jaq jai jaO jaA jat jau jav jaj jas jaJ jak jad jay jac a0_s cyI f0_s ja5 cyI jbv jbJ cyI jcy jb9 cyI jdH) → va_S A s.heap H locs → lv_has ls 2 [(0, .ref a0), (1, .int l1)] → qAj jaC jbw jbv jcy jdH Q n f0_s l1 → W p l e (headSpec wsX11_passes ({ frames := 4, cells := 0, slots := 0, locals := 85 })).room s m args below meth c H locs 0 0 (MQ below (va_Qv (fun (u : NI) => Q u) (cB (dC, dI) (kT cyB cyI cyJ cyP) A (fun u : NI => ((qvm a0 jaX jaF jaD ja7 jby jbe jaM jaY jap jaK jal jam jax jao ja5 jb9 jbJ jae jag jaf ja0 jaC jbw jaw jaI jaZ jaG jaS jan jaU jaE jar jaL jah jaB jaa jaz jaH jab ja2 a0_s jaq jai jaO jaA jat jau jav jaj jas jaJ jak jad jay jac a0_s cyI u ja5 cyI jbv jbJ cyI jcy jb9 cyI jdH) : va_W))) A) args s 0 0 A) (F0 m 78 ls []) := by
  obtain ⟨hx, hb, hr, hts, hown, hlocks, hml, hA, hK, hNw⟩ := id C0
  intro n
  induction n with
  | zero => intro H locs ls f0_s l1 hP hD hS hl hw; exact False.elim hw
  | succ n ih =>
    intro H locs ls f0_s l1 hP hD hS hl hw
    refine lv_iload_n hx hb (qaa qft 15 rfl) rfl (lv_at hl 1 rfl) ?_
    refine lv_bipush (v := 6) hx hb (qaa qmX 0 rfl) (by decide) ?_
    refine lv_icmp_ge (tgt := 100) hx hb (qaa qmX 1 rfl) (by decide) (fun c18 => ?_) (fun c18 => ?_)
    · have hw := hw.1 c18
      exact ((W.vret hx hb hr (fun t ht hW => ⟨⟨(f0_s), rfl, hw, by rw [ht]; exact hP, va_K.moved hW.alike hK, hD⟩, hS.F ht⟩) hS.2.2 (qaa qmX 11 rfl)))
    · have hw := hw.2 c18
      refine lv_aload_n hx hb (qaa qmX 2 rfl) rfl (lv_at hl 0 rfl) ?_
      refine va_get (D := (dC, dI)) (ci := 11) (v := .ref a0_s) (C := RX11) (T := TX11) (N := 55) hx hb hts qvC hown hK hP 0 rfl rfl 40 (by decide) (hts _ qyy) (fun _ h9 => h9) rfl (qaa qmX 3 rfl) ?_
      refine lv_bipush (v := 24) hx hb (qaa qmX 4 rfl) (by decide) ?_
      refine lv_iload_n hx hb (qaa qmX 5 rfl) rfl (lv_at hl 1 rfl) ?_
      refine lv_iadd hx hb (qaa qmX 6 rfl) ?_
      refine lv_topi (fun x19 ex19 => ?_)
      have hw := hw x19 ex19
      refine lv_iconst (v := 0) hx hb (qaa qmX 7 rfl) (by decide) ?_
      obtain ⟨hi9, hw⟩ := hw
      refine va_iast hx hb hK hP hD hS 1 1 rfl rfl hi9 (qaa qmX 8 rfl) (fun H locs hP hD hS => ?_)
      obtain ⟨f20, ef20⟩ : ∃ y : NI, y = upd f0_s x19.toNatClampNeg 0 := ⟨_, rfl⟩
      have hw := hw f20 ef20
      have hP : va_P (dC, dI) vwCl (qvm a0 jaX jaF jaD ja7 jby jbe jaM jaY jap jaK jal jam jax jao ja5 jb9 jbJ jae jag jaf ja0 jaC jbw jaw jaI jaZ jaG jaS jan jaU jaE jar jaL jah jaB jaa jaz jaH jab ja2 a0_s jaq jai jaO jaA jat jau jav jaj jas jaJ jak jad jay jac a0_s cyI f20 ja5 cyI jbv jbJ cyI jcy jb9 cyI jdH) H := by rw [ef20]; exact hP
      have hD : va_D A (qvm a0 jaX jaF jaD ja7 jby jbe jaM jaY jap jaK jal jam jax jao ja5 jb9 jbJ jae jag jaf ja0 jaC jbw jaw jaI jaZ jaG jaS jan jaU jaE jar jaL jah jaB jaa jaz jaH jab ja2 a0_s jaq jai jaO jaA jat jau jav jaj jas jaJ jak jad jay jac a0_s cyI f20 ja5 cyI jbv jbJ cyI jcy jb9 cyI jdH) := by rw [ef20]; exact hD
      obtain ⟨x21, ex21⟩ : ∃ y : Int32, y = l1 + 1 := ⟨_, rfl⟩
      have hw := hw x21 ex21
      refine lv_iinc (v := x21) (lv' := [(1, .int x21), (0, .ref a0)]) hx hb (qaa qmX 9 rfl) hl (k := 1) rfl (by rw [ex21]; rfl) (by decide) rfl (fun ls hl => ?_)
      refine lv_goto (tgt := 78) hx hb (qaa qmX 10 rfl) (by decide) ?_
      exact ih _ _ _ f20 x21 hP hD hS (lv_sub hl [1, 0] rfl) hw
set_option maxHeartbeats 4000000 in
set_option maxRecDepth 100000 in
theorem qZY {p : Program} {l : Launch} {e : Env} {s : State} {m : MethodId} {args : Array Value} {below : List Frame} {meth : Method} {c : Code} {A : Nat → Prop} (dC : Nat → ClassId) (dI : Nat → Nat → Nat) (cyB cyI cyJ cyP : ClassId) (a0 a0_s ja5 jbJ jb9 : Nat) (jaX jaF jaD ja7 jby jbe jaM jaY jap jaK jal jam jax jao jae jag jaf ja0 jaw jaI jaZ jaG jaS jan jaU jaE jar jaL jah jaB jaa jaz jaH jab ja2 jaq jai jaO jaA jat jau jav jaj jas jaJ jak jad jay jac : Value) (jaC jbw : Int32) (jbv jcy jdH : NI) (Q : NI → Prop) (C0 : cfx p s m args meth c cX11_passes none wsX11_passes RX11 2 A (dC, dI) (kT cyB cyI cyJ cyP)) : ∀ (H : Heap) (locs : List Loc) (ls : Array Slot) (f0_s : NI), va_P (dC, dI) vwCl (qvm a0 jaX jaF jaD ja7 jby jbe jaM jaY jap jaK jal jam jax jao ja5 jb9 jbJ jae jag jaf ja0 jaC jbw jaw jaI jaZ jaG jaS jan jaU jaE jar jaL jah jaB jaa jaz jaH jab ja2 a0_s jaq jai jaO jaA jat jau jav jaj jas jaJ jak jad jay jac a0_s cyI f0_s ja5 cyI jbv jbJ cyI jcy jb9 cyI jdH) H → va_D A (qvm a0 jaX jaF jaD ja7 jby jbe jaM jaY jap jaK jal jam jax jao ja5 jb9 jbJ jae jag jaf ja0 jaC jbw jaw jaI jaZ jaG jaS jan jaU jaE jar jaL jah jaB jaa jaz jaH jab ja2 a0_s jaq jai jaO jaA jat jau jav jaj jas jaJ jak jad jay jac a0_s cyI f0_s ja5 cyI jbv jbJ cyI jcy jb9 cyI jdH) → va_S A s.heap H locs → lv_has ls 2 [(0, .ref a0)] → qEQ jaC jbw jbv jcy jdH Q f0_s → W p l e (headSpec wsX11_passes ({ frames := 4, cells := 0, slots := 0, locals := 85 })).room s m args below meth c H locs 0 0 (MQ below (va_Qv (fun (u : NI) => Q u) (cB (dC, dI) (kT cyB cyI cyJ cyP) A (fun u : NI => ((qvm a0 jaX jaF jaD ja7 jby jbe jaM jaY jap jaK jal jam jax jao ja5 jb9 jbJ jae jag jaf ja0 jaC jbw jaw jaI jaZ jaG jaS jan jaU jaE jar jaL jah jaB jaa jaz jaH jab ja2 a0_s jaq jai jaO jaA jat jau jav jaj jas jaJ jak jad jay jac a0_s cyI u ja5 cyI jbv jbJ cyI jcy jb9 cyI jdH) : va_W))) A) args s 0 0 A) (F0 m 76 ls []) := by
  obtain ⟨hx, hb, hr, hts, hown, hlocks, hml, hA, hK, hNw⟩ := id C0
  intro H locs ls f0_s hP hD hS hl hw
  refine lv_iconst (v := 0) hx hb (qaa qft 13 rfl) (by decide) ?_
  refine lv_istore_n (lv' := [(1, .int 0), (0, .ref a0)]) hx hb (qaa qft 14 rfl) rfl hl (by decide) rfl (fun ls hl => ?_)
  obtain ⟨n9, hw⟩ := hw
  exact qaqR dC dI cyB cyI cyJ cyP a0 a0_s ja5 jbJ jb9 jaX jaF jaD ja7 jby jbe jaM jaY jap jaK jal jam jax jao jae jag jaf ja0 jaw jaI jaZ jaG jaS jan jaU jaE jar jaL jah jaB jaa jaz jaH jab ja2 jaq jai jaO jaA jat jau jav jaj jas jaJ jak jad jay jac jaC jbw jbv jcy jdH Q C0 n9 _ _ _ f0_s 0 hP hD hS (lv_sub hl [1, 0] rfl) hw
set_option maxHeartbeats 4000000 in
set_option maxRecDepth 100000 in
theorem qaxG {p : Program} {l : Launch} {e : Env} {s : State} {m : MethodId} {args : Array Value} {below : List Frame} {meth : Method} {c : Code} {A : Nat → Prop} (dC : Nat → ClassId) (dI : Nat → Nat → Nat) (cyB cyI cyJ cyP : ClassId) (a0 a0_s ja5 jbJ jb9 : Nat) (jaX jaF jaD ja7 jby jbe jaM jaY jap jaK jal jam jax jao jae jag jaf ja0 jaw jaI jaZ jaG jaS jan jaU jaE jar jaL jah jaB jaa jaz jaH jab ja2 jaq jai jaO jaA jat jau jav jaj jas jaJ jak jad jay jac : Value) (jaC jbw : Int32) (jbv jcy jdH : NI) (Q : NI → Prop) (C0 : cfx p s m args meth c cX11_passes none wsX11_passes RX11 2 A (dC, dI) (kT cyB cyI cyJ cyP)) : ∀ (n : Nat) (H : Heap) (locs : List Loc) (ls : Array Slot) (f0_s : NI) (l1 : Int32), va_P (dC, dI) vwCl (qvm a0 jaX jaF jaD ja7 jby jbe jaM jaY jap jaK jal jam jax jao ja5 jb9 jbJ jae jag jaf ja0 jaC jbw jaw jaI jaZ jaG jaS jan jaU jaE jar jaL jah jaB jaa jaz jaH jab ja2 a0_s jaq jai jaO jaA jat jau jav jaj jas jaJ jak jad jay jac a0_s cyI f0_s ja5 cyI jbv jbJ cyI jcy jb9 cyI jdH) H → va_D A (qvm a0 jaX jaF jaD ja7 jby jbe jaM jaY jap jaK jal jam jax jao ja5 jb9 jbJ jae jag jaf ja0 jaC jbw jaw jaI jaZ jaG jaS jan jaU jaE jar jaL jah jaB jaa jaz jaH jab ja2 a0_s jaq jai jaO jaA jat jau jav jaj jas jaJ jak jad jay jac a0_s cyI f0_s ja5 cyI jbv jbJ cyI jcy jb9 cyI jdH) → va_S A s.heap H locs → lv_has ls 2 [(0, .ref a0), (1, .int l1)] → qpd jaC jbw jbv jcy jdH Q n f0_s l1 → W p l e (headSpec wsX11_passes ({ frames := 4, cells := 0, slots := 0, locals := 85 })).room s m args below meth c H locs 0 0 (MQ below (va_Qv (fun (u : NI) => Q u) (cB (dC, dI) (kT cyB cyI cyJ cyP) A (fun u : NI => ((qvm a0 jaX jaF jaD ja7 jby jbe jaM jaY jap jaK jal jam jax jao ja5 jb9 jbJ jae jag jaf ja0 jaC jbw jaw jaI jaZ jaG jaS jan jaU jaE jar jaL jah jaB jaa jaz jaH jab ja2 a0_s jaq jai jaO jaA jat jau jav jaj jas jaJ jak jad jay jac a0_s cyI u ja5 cyI jbv jbJ cyI jcy jb9 cyI jdH) : va_W))) A) args s 0 0 A) (F0 m 2 ls []) := by
  obtain ⟨hx, hb, hr, hts, hown, hlocks, hml, hA, hK, hNw⟩ := id C0
  intro n
  induction n with
  | zero => intro H locs ls f0_s l1 hP hD hS hl hw; exact False.elim hw
  | succ n ih =>
    intro H locs ls f0_s l1 hP hD hS hl hw
    refine lv_iload_n hx hb (qaa qgU 2 rfl) rfl (lv_at hl 1 rfl) ?_
    refine lv_aload_n hx hb (qaa qgU 3 rfl) rfl (lv_at hl 0 rfl) ?_
    refine va_get (D := (dC, dI)) (ci := 11) (v := .int jaC) (C := RX11) (T := TX11) (N := 55) hx hb hts qvC hown hK hP 0 rfl rfl 21 (by decide) (hts _ qad2) (fun _ h9 => h9) rfl (qaa qgU 4 rfl) ?_
    refine lv_icmp_ge (tgt := 49) hx hb (qaa qgU 5 rfl) (by decide) (fun c1 => ?_) (fun c1 => ?_)
    · have hw := hw.1 c1
      refine lv_aload_n hx hb (qaa qfQ 13 rfl) rfl (lv_at hl 0 rfl) ?_
      refine va_get (D := (dC, dI)) (ci := 11) (v := .ref a0_s) (C := RX11) (T := TX11) (N := 55) hx hb hts qvC hown hK hP 0 rfl rfl 40 (by decide) (hts _ qyy) (fun _ h9 => h9) rfl (qaa qfQ 14 rfl) ?_
      refine lv_bipush (v := 66) hx hb (qaa qfQ 15 rfl) (by decide) ?_
      refine lv_dup2_11 hx hb (qaa qft 0 rfl) rfl rfl ?_
      refine va_iald hx hb hK hP 1 1 rfl rfl (vin (by decide)) (qaa qft 1 rfl) ?_
      refine lv_topi (fun x2 ex2 => ?_)
      have hw := hw x2 ex2
      refine lv_iconst (v := 1) hx hb (qaa qft 2 rfl) (by decide) ?_
      refine lv_iadd hx hb (qaa qft 3 rfl) ?_
      refine lv_topi (fun x3 ex3 => ?_)
      have hw := hw x3 ex3
      refine va_iast hx hb hK hP hD hS 1 1 rfl rfl (vin (by decide)) (qaa qft 4 rfl) (fun H locs hP hD hS => ?_)
      obtain ⟨f4, ef4⟩ : ∃ y : NI, y = upd f0_s (66 : Int32).toNatClampNeg x3 := ⟨_, rfl⟩
      have hw := hw f4 ef4
      have hP : va_P (dC, dI) vwCl (qvm a0 jaX jaF jaD ja7 jby jbe jaM jaY jap jaK jal jam jax jao ja5 jb9 jbJ jae jag jaf ja0 jaC jbw jaw jaI jaZ jaG jaS jan jaU jaE jar jaL jah jaB jaa jaz jaH jab ja2 a0_s jaq jai jaO jaA jat jau jav jaj jas jaJ jak jad jay jac a0_s cyI f4 ja5 cyI jbv jbJ cyI jcy jb9 cyI jdH) H := by rw [ef4]; exact hP
      have hD : va_D A (qvm a0 jaX jaF jaD ja7 jby jbe jaM jaY jap jaK jal jam jax jao ja5 jb9 jbJ jae jag jaf ja0 jaC jbw jaw jaI jaZ jaG jaS jan jaU jaE jar jaL jah jaB jaa jaz jaH jab ja2 a0_s jaq jai jaO jaA jat jau jav jaj jas jaJ jak jad jay jac a0_s cyI f4 ja5 cyI jbv jbJ cyI jcy jb9 cyI jdH) := by rw [ef4]; exact hD
      refine lv_aload_n hx hb (qaa qft 5 rfl) rfl (lv_at hl 0 rfl) ?_
      refine va_get (D := (dC, dI)) (ci := 11) (v := .ref a0_s) (C := RX11) (T := TX11) (N := 55) hx hb hts qvC hown hK hP 0 rfl rfl 40 (by decide) (hts _ qyy) (fun _ h9 => h9) rfl (qaa qft 6 rfl) ?_
      refine lv_bipush (v := 66) hx hb (qaa qft 7 rfl) (by decide) ?_
      refine va_iald hx hb hK hP 1 1 rfl rfl (vin (by decide)) (qaa qft 8 rfl) ?_
      refine lv_topi (fun x5 ex5 => ?_)
      have hw := hw x5 ex5
      refine lv_bipush (v := 31) hx hb (qaa qft 9 rfl) (by decide) ?_
      refine lv_icmp_le (tgt := 76) hx hb (qaa qft 10 rfl) (by decide) (fun c6 => ?_) (fun c6 => ?_)
      · have hw := hw.1 c6
        exact qZY dC dI cyB cyI cyJ cyP a0 a0_s ja5 jbJ jb9 jaX jaF jaD ja7 jby jbe jaM jaY jap jaK jal jam jax jao jae jag jaf ja0 jaw jaI jaZ jaG jaS jan jaU jaE jar jaL jah jaB jaa jaz jaH jab ja2 jaq jai jaO jaA jat jau jav jaj jas jaJ jak jad jay jac jaC jbw jbv jcy jdH Q C0 _ _ _ f4 hP hD hS (lv_sub hl [0] rfl) hw
      · have hw := hw.2 c6
        refine lv_aload_n hx hb (qaa qft 11 rfl) rfl (lv_at hl 0 rfl) ?_
        obtain ⟨hCc, hPc, hDc, hFc⟩ := qac (ws' := (qvm a0 jaX jaF jaD ja7 jby jbe jaM jaY jap jaK jal jam jax jao ja5 jb9 jbJ jae jag jaf ja0 jaC jbw jaw jaI jaZ jaG jaS jan jaU jaE jar jaL jah jaB jaa jaz jaH jab ja2 a0_s jaq jai jaO jaA jat jau jav jaj jas jaJ jak jad jay jac a0_s cyI f4 ja5 cyI jbv jbJ cyI jcy jb9 cyI jdH)) hP hD hS hA [0, 1, 2, 3, 4] (by decide +kernel) rfl
        refine va_callv (va_runV (As := []) (rest := []) ⟨hx, hb, hml, hown, hts⟩ (qaIS l dC dI cyB cyI cyJ cyP a0 a0_s ja5 jbJ jb9 H.size (jaX) (jaF) (jaD) (ja7) (jby) (jbe) (jaM) (jaY) (jap) (jaK) (jal) (jam) (jax) (jao) (jae) (jag) (jaf) (ja0) (jaw) (jaI) (jaZ) (jaG) (jaS) (jan) (jaU) (jaE) (jar) (jaL) (jah) (jaB) (jaa) (jaz) (jaH) (jab) (ja2) (jaq) (jai) (jaO) (jaA) (jat) (jau) (jav) (jaj) (jas) (jaJ) (jak) (jad) (jay) (jac) jaC jbw jbv jcy jdH f4 hw) (cwV 0 hts gX11_passes_X11_strokes rfl rfl rfl (by decide +kernel) ⟨nbq rfl, nbq rfl⟩) ⟨qab, va_recv (q := (RX11, TX11, 55)) hK hPc (ci := 11) (q0 := 0) rfl rfl, qae hPc hK hDc hNw⟩ rfl rfl hl.1 rfl (lv_room (nbq rfl)) (qaa qft 12 rfl) ⟨nbq rfl, nbq rfl⟩) hS (fun q _ h => hFc q h) hFc (fun u t H1 locs ht hvm hw hB hz1 hk1 hS => ?_)
        obtain ⟨f7, rfl⟩ : ∃ z, z = u := ⟨_, rfl⟩
        obtain ⟨hP1, hK1, hD1⟩ := hB
        rw [ht] at hP1
        obtain ⟨hP, hD⟩ := qah (wr := []) (w1 := (qvm a0 jaX jaF jaD ja7 jby jbe jaM jaY jap jaK jal jam jax jao ja5 jb9 jbJ jae jag jaf ja0 jaC jbw jaw jaI jaZ jaG jaS jan jaU jaE jar jaL jah jaB jaa jaz jaH jab ja2 a0_s jaq jai jaO jaA jat jau jav jaj jas jaJ jak jad jay jac a0_s cyI f7 ja5 cyI jbv jbJ cyI jcy jb9 cyI jdH)) (wn := (qvm a0 jaX jaF jaD ja7 jby jbe jaM jaY jap jaK jal jam jax jao ja5 jb9 jbJ jae jag jaf ja0 jaC jbw jaw jaI jaZ jaG jaS jan jaU jaE jar jaL jah jaB jaa jaz jaH jab ja2 a0_s jaq jai jaO jaA jat jau jav jaj jas jaJ jak jad jay jac a0_s cyI f7 ja5 cyI jbv jbJ cyI jcy jb9 cyI jdH)) hP hD [0, 1, 2, 3, 4] [] hCc rfl (by decide +kernel) (by decide +kernel) rfl hk1 hFc hP1 hD1
        generalize H1 = H at hP hS ⊢
        exact qZY dC dI cyB cyI cyJ cyP a0 a0_s ja5 jbJ jb9 jaX jaF jaD ja7 jby jbe jaM jaY jap jaK jal jam jax jao jae jag jaf ja0 jaw jaI jaZ jaG jaS jan jaU jaE jar jaL jah jaB jaa jaz jaH jab ja2 jaq jai jaO jaA jat jau jav jaj jas jaJ jak jad jay jac jaC jbw jbv jcy jdH Q C0 _ _ _ f7 hP hD hS (lv_sub hl [0] rfl) hw
    · have hw := hw.2 c1
      refine lv_aload_n hx hb (qaa qgU 6 rfl) rfl (lv_at hl 0 rfl) ?_
      refine lv_iload_n hx hb (qaa qgU 7 rfl) rfl (lv_at hl 1 rfl) ?_
      obtain ⟨hCc, hPc, hDc, hFc⟩ := qac (ws' := (qbc2 a0 jaX jaF jaD ja7 jby jbe jaM jaY jap jaK jal jam jax jao ja5 jb9 jbJ jae jag jaf ja0 jaC jbw jaw jaI jaZ jaG jaS jan jaU jaE jar jaL jah jaB jaa jaz jaH jab ja2 a0_s jaq jai jaO jaA jat jau jav jaj jas jaJ jak jad jay jac a0_s cyI f0_s)) hP hD hS hA [0, 1] (by decide +kernel) rfl
      refine va_calli (va_runV (As := [.int l1]) (rest := []) ⟨hx, hb, hml, hown, hts⟩ (qim l dC dI cyB cyI cyJ cyP a0 a0_s H.size (jaX) (jaF) (jaD) (ja7) (jby) (jbe) (jaM) (jaY) (jap) (jaK) (jal) (jam) (jax) (jao) (.ref ja5) (.ref jb9) (.ref jbJ) (jae) (jag) (jaf) (ja0) (.int jaC) (.int jbw) (jaw) (jaI) (jaZ) (jaG) (jaS) (jan) (jaU) (jaE) (jar) (jaL) (jah) (jaB) (jaa) (jaz) (jaH) (jab) (ja2) (jaq) (jai) (jaO) (jaA) (jat) (jau) (jav) (jaj) (jas) (jaJ) (jak) (jad) (jay) (jac) f0_s l1 hw) (cwV 1 hts gX11_passes_X11_isCaught rfl rfl rfl (by decide +kernel) ⟨nbq rfl, nbq rfl⟩) ⟨qab, va_recv (q := (RX11, TX11, 55)) hK hPc (ci := 11) (q0 := 0) rfl rfl, qae hPc hK hDc hNw⟩ rfl rfl hl.1 rfl (lv_room (nbq rfl)) (qaa qgU 8 rfl) ⟨nbq rfl, nbq rfl⟩) hS (fun q _ h => hFc q h) hFc (fun r8 u t H1 locs ht hvm hw hB hz1 hk1 hS => ?_)
      obtain ⟨hP1, hK1, hD1⟩ := hB
      rw [ht] at hP1
      obtain ⟨hP, hD⟩ := qad (wr := [(ja5, .inl (cyI, 16, .inl jbv)), (jbJ, .inl (cyI, 8, .inl jcy)), (jb9, .inl (cyI, 12, .inl jdH))]) (w1 := (qbc2 a0 jaX jaF jaD ja7 jby jbe jaM jaY jap jaK jal jam jax jao ja5 jb9 jbJ jae jag jaf ja0 jaC jbw jaw jaI jaZ jaG jaS jan jaU jaE jar jaL jah jaB jaa jaz jaH jab ja2 a0_s jaq jai jaO jaA jat jau jav jaj jas jaJ jak jad jay jac a0_s cyI f0_s)) (wn := (qvm a0 jaX jaF jaD ja7 jby jbe jaM jaY jap jaK jal jam jax jao ja5 jb9 jbJ jae jag jaf ja0 jaC jbw jaw jaI jaZ jaG jaS jan jaU jaE jar jaL jah jaB jaa jaz jaH jab ja2 a0_s jaq jai jaO jaA jat jau jav jaj jas jaJ jak jad jay jac a0_s cyI f0_s ja5 cyI jbv jbJ cyI jcy jb9 cyI jdH)) hP hD [0, 1] [2, 3, 4] [3, 4, 0, 1, 2] hCc rfl (by decide +kernel) (by decide +kernel) (by decide +kernel) rfl hk1 hFc hP1 hD1
      generalize H1 = H at hP hS ⊢
      refine lv_if_ne (tgt := 43) hx hb (qaa qgU 9 rfl) (by decide) (fun c9 => ?_) (fun c9 => ?_)
      · have hw := hw.1 c9
        exact qLW dC dI cyB cyI cyJ cyP a0 a0_s ja5 jbJ jb9 jaX jaF jaD ja7 jby jbe jaM jaY jap jaK jal jam jax jao jae jag jaf ja0 jaw jaI jaZ jaG jaS jan jaU jaE jar jaL jah jaB jaa jaz jaH jab ja2 jaq jai jaO jaA jat jau jav jaj jas jaJ jak jad jay jac jaC jbw jbv jcy jdH Q (qpd jaC jbw jbv jcy jdH Q n) ih C0 _ _ _ f0_s l1 hP hD hS (lv_sub hl [0, 1] rfl) hw
      · have hw := hw.2 c9
        refine lv_aload_n hx hb (qaa qgU 10 rfl) rfl (lv_at hl 0 rfl) ?_
        refine va_get (D := (dC, dI)) (ci := 11) (v := .ref a0_s) (C := RX11) (T := TX11) (N := 55) hx hb hts qvC hown hK hP 0 rfl rfl 40 (by decide) (hts _ qyy) (fun _ h9 => h9) rfl (qaa qgU 11 rfl) ?_
        refine lv_bipush (v := 24) hx hb (qaa qgU 12 rfl) (by decide) ?_
        refine lv_iload_n hx hb (qaa qgU 13 rfl) rfl (lv_at hl 1 rfl) ?_
        refine lv_iadd hx hb (qaa qgU 14 rfl) ?_
        refine lv_topi (fun x10 ex10 => ?_)
        have hw := hw x10 ex10
        obtain ⟨hi9, hw⟩ := hw
        refine va_iald hx hb hK hP 1 1 rfl rfl hi9 (qaa qgU 15 rfl) ?_
        refine lv_topi (fun x11 ex11 => ?_)
        have hw := hw x11 ex11
        refine lv_if_ne (tgt := 43) hx hb (qaa qfQ 0 rfl) (by decide) (fun c12 => ?_) (fun c12 => ?_)
        · have hw := hw.1 c12
          exact qLW dC dI cyB cyI cyJ cyP a0 a0_s ja5 jbJ jb9 jaX jaF jaD ja7 jby jbe jaM jaY jap jaK jal jam jax jao jae jag jaf ja0 jaw jaI jaZ jaG jaS jan jaU jaE jar jaL jah jaB jaa jaz jaH jab ja2 jaq jai jaO jaA jat jau jav jaj jas jaJ jak jad jay jac jaC jbw jbv jcy jdH Q (qpd jaC jbw jbv jcy jdH Q n) ih C0 _ _ _ f0_s l1 hP hD hS (lv_sub hl [0, 1] rfl) hw
        · have hw := hw.2 c12
          refine lv_aload_n hx hb (qaa qfQ 1 rfl) rfl (lv_at hl 0 rfl) ?_
          refine va_get (D := (dC, dI)) (ci := 11) (v := .ref a0_s) (C := RX11) (T := TX11) (N := 55) hx hb hts qvC hown hK hP 0 rfl rfl 40 (by decide) (hts _ qyy) (fun _ h9 => h9) rfl (qaa qfQ 2 rfl) ?_
          refine lv_bipush (v := 12) hx hb (qaa qfQ 3 rfl) (by decide) ?_
          refine lv_iload_n hx hb (qaa qfQ 4 rfl) rfl (lv_at hl 1 rfl) ?_
          refine lv_iadd hx hb (qaa qfQ 5 rfl) ?_
          refine lv_topi (fun x13 ex13 => ?_)
          have hw := hw x13 ex13
          refine lv_dup2_11 hx hb (qaa qfQ 6 rfl) rfl rfl ?_
          obtain ⟨hi9, hw⟩ := hw
          refine va_iald hx hb hK hP 1 1 rfl rfl hi9 (qaa qfQ 7 rfl) ?_
          refine lv_topi (fun x14 ex14 => ?_)
          have hw := hw x14 ex14
          refine lv_iconst (v := 1) hx hb (qaa qfQ 8 rfl) (by decide) ?_
          refine lv_iadd hx hb (qaa qfQ 9 rfl) ?_
          refine lv_topi (fun x15 ex15 => ?_)
          have hw := hw x15 ex15
          obtain ⟨hi9, hw⟩ := hw
          refine va_iast hx hb hK hP hD hS 1 1 rfl rfl hi9 (qaa qfQ 10 rfl) (fun H locs hP hD hS => ?_)
          obtain ⟨f16, ef16⟩ : ∃ y : NI, y = upd f0_s x13.toNatClampNeg x15 := ⟨_, rfl⟩
          have hw := hw f16 ef16
          have hP : va_P (dC, dI) vwCl (qvm a0 jaX jaF jaD ja7 jby jbe jaM jaY jap jaK jal jam jax jao ja5 jb9 jbJ jae jag jaf ja0 jaC jbw jaw jaI jaZ jaG jaS jan jaU jaE jar jaL jah jaB jaa jaz jaH jab ja2 a0_s jaq jai jaO jaA jat jau jav jaj jas jaJ jak jad jay jac a0_s cyI f16 ja5 cyI jbv jbJ cyI jcy jb9 cyI jdH) H := by rw [ef16]; exact hP
          have hD : va_D A (qvm a0 jaX jaF jaD ja7 jby jbe jaM jaY jap jaK jal jam jax jao ja5 jb9 jbJ jae jag jaf ja0 jaC jbw jaw jaI jaZ jaG jaS jan jaU jaE jar jaL jah jaB jaa jaz jaH jab ja2 a0_s jaq jai jaO jaA jat jau jav jaj jas jaJ jak jad jay jac a0_s cyI f16 ja5 cyI jbv jbJ cyI jcy jb9 cyI jdH) := by rw [ef16]; exact hD
          exact qLW dC dI cyB cyI cyJ cyP a0 a0_s ja5 jbJ jb9 jaX jaF jaD ja7 jby jbe jaM jaY jap jaK jal jam jax jao jae jag jaf ja0 jaw jaI jaZ jaG jaS jan jaU jaE jar jaL jah jaB jaa jaz jaH jab ja2 jaq jai jaO jaA jat jau jav jaj jas jaJ jak jad jay jac jaC jbw jbv jcy jdH Q (qpd jaC jbw jbv jcy jdH Q n) ih C0 _ _ _ f16 l1 hP hD hS (lv_sub hl [0, 1] rfl) hw
set_option maxHeartbeats 4000000 in
set_option maxRecDepth 100000 in
theorem qW0 (l : Launch) (dC : Nat → ClassId) (dI : Nat → Nat → Nat) (cyB cyI cyJ cyP : ClassId) (a0 a0_s ja5 jbJ jb9 sz : Nat) (jaX jaF jaD ja7 jby jbe jaM jaY jap jaK jal jam jax jao jae jag jaf ja0 jaw jaI jaZ jaG jaS jan jaU jaE jar jaL jah jaB jaa jaz jaH jab ja2 jaq jai jaO jaA jat jau jav jaj jas jaJ jak jad jay jac : Value) (jaC jbw : Int32) (jbv jcy jdH f0_s : NI) {Q : NI → Prop} (hw : qCW jaC jbw jbv jcy jdH f0_s Q) : Met l yX11_passes wsX11_passes ({ frames := 4, cells := 0, slots := 0, locals := 85 }) (va_Pc [.ref a0] (cPc (dC, dI) (kT cyB cyI cyJ cyP) (qvm a0 jaX jaF jaD ja7 jby jbe jaM jaY jap jaK jal jam jax jao ja5 jb9 jbJ jae jag jaf ja0 jaC jbw jaw jaI jaZ jaG jaS jan jaU jaE jar jaL jah jaB jaa jaz jaH jab ja2 a0_s jaq jai jaO jaA jat jau jav jaj jas jaJ jak jad jay jac a0_s cyI f0_s ja5 cyI jbv jbJ cyI jcy jb9 cyI jdH) sz)) (va_Qv (fun (u : NI) => Q u) (cB (dC, dI) (kT cyB cyI cyJ cyP) (va_A (qvm a0 jaX jaF jaD ja7 jby jbe jaM jaY jap jaK jal jam jax jao ja5 jb9 jbJ jae jag jaf ja0 jaC jbw jaw jaI jaZ jaG jaS jan jaU jaE jar jaL jah jaB jaa jaz jaH jab ja2 a0_s jaq jai jaO jaA jat jau jav jaj jas jaJ jak jad jay jac a0_s cyI f0_s ja5 cyI jbv jbJ cyI jcy jb9 cyI jdH) sz) (fun u : NI => ((qvm a0 jaX jaF jaD ja7 jby jbe jaM jaY jap jaK jal jam jax jao ja5 jb9 jbJ jae jag jaf ja0 jaC jbw jaw jaI jaZ jaG jaS jan jaU jaE jar jaL jah jaB jaa jaz jaH jab ja2 a0_s jaq jai jaO jaA jat jau jav jaj jas jaJ jak jad jay jac a0_s cyI u ja5 cyI jbv jbJ cyI jcy jb9 cyI jdH) : va_W))) (va_A (qvm a0 jaX jaF jaD ja7 jby jbe jaM jaY jap jaK jal jam jax jao ja5 jb9 jbJ jae jag jaf ja0 jaC jbw jaw jaI jaZ jaG jaS jan jaU jaE jar jaL jah jaB jaa jaz jaH jab ja2 a0_s jaq jai jaO jaA jat jau jav jaj jas jaJ jak jad jay jac a0_s cyI f0_s ja5 cyI jbv jbJ cyI jcy jb9 cyI jdH) sz)) 0 0 (va_A (qvm a0 jaX jaF jaD ja7 jby jbe jaM jaY jap jaK jal jam jax jao ja5 jb9 jbJ jae jag jaf ja0 jaC jbw jaw jaI jaZ jaG jaS jan jaU jaE jar jaL jah jaB jaa jaz jaH jab ja2 a0_s jaq jai jaO jaA jat jau jav jaj jas jaJ jak jad jay jac a0_s cyI f0_s ja5 cyI jbv jbJ cyI jcy jb9 cyI jdH) sz) := by
  refine Met.ofW (cc := cX11_passes) (maxL := 2) (ret := none) (by decide) rfl ?_
  intro p e s m args below meth c s₁ B hml hv
  obtain ⟨rfl, hsz, hP, hK, hD0, hNw⟩ := hv
  have hx := B.exec
  have hb := B.bytes
  have hr := B.returns
  have hts := atoms_spec (ws := wsX11_passes) B.pre
  have hown : s.vm.findClass RX11 = some m.cls := findClass_of_methodNamed B.named
  have hlocks := B.notSynchronized
  subst hsz
  have hD := hD0.self (sz := s.heap.size)
  generalize hAe : va_A (qvm a0 jaX jaF jaD ja7 jby jbe jaM jaY jap jaK jal jam jax jao ja5 jb9 jbJ jae jag jaf ja0 jaC jbw jaw jaI jaZ jaG jaS jan jaU jaE jar jaL jah jaB jaa jaz jaH jab ja2 a0_s jaq jai jaO jaA jat jau jav jaj jas jaJ jak jad jay jac a0_s cyI f0_s ja5 cyI jbv jbJ cyI jcy jb9 cyI jdH) s.heap.size = A at hD ⊢
  have hA : ∀ q : Nat, s.heap.size ≤ q → A q := fun q h => by rw [← hAe]; exact Or.inr h
  have hS : va_S A s.heap s.heap [] := va_S.rf
  have hP : va_P (dC, dI) vwCl (qvm a0 jaX jaF jaD ja7 jby jbe jaM jaY jap jaK jal jam jax jao ja5 jb9 jbJ jae jag jaf ja0 jaC jbw jaw jaI jaZ jaG jaS jan jaU jaE jar jaL jah jaB jaa jaz jaH jab ja2 a0_s jaq jai jaO jaA jat jau jav jaj jas jaJ jak jad jay jac a0_s cyI f0_s ja5 cyI jbv jbJ cyI jcy jb9 cyI jdH) s.heap := hP
  have hl := lv_entry ([.ref a0]) (n := 2) (nbq rfl)
  rw [lg_entry_eq]
  generalize (lg_sl ([.ref a0]) ++ List.replicate (2 - (lg_sl ([.ref a0])).length) Slot.unset).toArray = ls at hl ⊢
  have hl : lv_has ls 2 [(0, .ref a0)] := hl
  have C0 : cfx p s m _ meth c cX11_passes none wsX11_passes RX11 2 A (dC, dI) (kT cyB cyI cyJ cyP) := ⟨hx, hb, hr, hts, hown, hlocks, hml, hA, hK, hNw⟩
  clear hAe
  obtain ⟨H, hH⟩ : ∃ H, H = s.heap := ⟨_, rfl⟩
  rw [← hH] at hP ⊢
  have hS : va_S A s.heap H [] := by rw [hH]; exact va_S.rf
  have hS := hS
  refine lv_iconst (v := 0) hx hb (qaa qgU 0 rfl) (by decide) ?_
  refine lv_istore_n (lv' := [(1, .int 0), (0, .ref a0)]) hx hb (qaa qgU 1 rfl) rfl hl (by decide) rfl (fun ls hl => ?_)
  obtain ⟨n9, hw⟩ := hw
  exact qaxG dC dI cyB cyI cyJ cyP a0 a0_s ja5 jbJ jb9 jaX jaF jaD ja7 jby jbe jaM jaY jap jaK jal jam jax jao jae jag jaf ja0 jaw jaI jaZ jaG jaS jan jaU jaE jar jaL jah jaB jaa jaz jaH jab ja2 jaq jai jaO jaA jat jau jav jaj jas jaJ jak jad jay jac jaC jbw jbv jcy jdH Q C0 n9 _ _ _ f0_s 0 hP hD hS (lv_sub hl [1, 0] rfl) hw
theorem q6T : ∀ w ∈ u_ws RX11 TX11 55, w ∈ wsX11_caughtNow := uiM qIM qfa (by decide +kernel)
theorem q1L : (.fieldLink RX11 169 "MarchHaresModel" "hares" "I" : Cond) ∈ wsX11_caughtNow := qIM 520 (by decide +kernel)
set_option maxHeartbeats 4000000 in
set_option maxRecDepth 100000 in
theorem qPo {p : Program} {l : Launch} {e : Env} {s : State} {m : MethodId} {args : Array Value} {below : List Frame} {meth : Method} {c : Code} {A : Nat → Prop} (dC : Nat → ClassId) (dI : Nat → Nat → Nat) (cyB cyI cyJ cyP : ClassId) (a0 a0_s : Nat) (jaX jaF jaD ja7 jby jbe jaM jaY jap jaK jal jam jax jao ja6 jaV ja8 jae jag jaf ja0 jaP jaw jaI jaZ jaG jaS jan jaU jaE jar jaL jah jaB jaa jaz jaH jab ja2 jaq jai jaO jaA jat jau jav jaj jas jaJ jak jad jay jac : Value) (jaC : Int32) (f0_s : NI) (Q : Int32 → Prop) (K4 : Int32 → Int32 → Prop) (hK4 : ∀ (H : Heap) (locs : List Loc) (ls : Array Slot) (l1 l2 : Int32), va_P (dC, dI) vwCl (qI6 a0 jaX jaF jaD ja7 jby jbe jaM jaY jap jaK jal jam jax jao ja6 jaV ja8 jae jag jaf ja0 jaC jaP jaw jaI jaZ jaG jaS jan jaU jaE jar jaL jah jaB jaa jaz jaH jab ja2 a0_s jaq jai jaO jaA jat jau jav jaj jas jaJ jak jad jay jac a0_s cyI f0_s) H → va_D A (qI6 a0 jaX jaF jaD ja7 jby jbe jaM jaY jap jaK jal jam jax jao ja6 jaV ja8 jae jag jaf ja0 jaC jaP jaw jaI jaZ jaG jaS jan jaU jaE jar jaL jah jaB jaa jaz jaH jab ja2 a0_s jaq jai jaO jaA jat jau jav jaj jas jaJ jak jad jay jac a0_s cyI f0_s) → va_S A s.heap H locs → lv_has ls 3 [(0, .ref a0), (1, .int l1), (2, .int l2)] → K4 l1 l2 → W p l e (headSpec wsX11_caughtNow ({ frames := 1, cells := 0, slots := 0, locals := 21 })).room s m args below meth c H locs 0 0 (MQ below (va_Qi (fun (r : Int32) (_ : Unit) => Q r ) (cB (dC, dI) (kT cyB cyI cyJ cyP) A (fun u : Unit => ((qI6 a0 jaX jaF jaD ja7 jby jbe jaM jaY jap jaK jal jam jax jao ja6 jaV ja8 jae jag jaf ja0 jaC jaP jaw jaI jaZ jaG jaS jan jaU jaE jar jaL jah jaB jaa jaz jaH jab ja2 a0_s jaq jai jaO jaA jat jau jav jaj jas jaJ jak jad jay jac a0_s cyI f0_s) : va_W))) A) args s 0 0 A) (F0 m 4 ls [])) (C0 : cfx p s m args meth c cX11_caughtNow (some .int) wsX11_caughtNow RX11 3 A (dC, dI) (kT cyB cyI cyJ cyP)) : ∀ (H : Heap) (locs : List Loc) (ls : Array Slot) (l2 s0 s1 : Int32), va_P (dC, dI) vwCl (qI6 a0 jaX jaF jaD ja7 jby jbe jaM jaY jap jaK jal jam jax jao ja6 jaV ja8 jae jag jaf ja0 jaC jaP jaw jaI jaZ jaG jaS jan jaU jaE jar jaL jah jaB jaa jaz jaH jab ja2 a0_s jaq jai jaO jaA jat jau jav jaj jas jaJ jak jad jay jac a0_s cyI f0_s) H → va_D A (qI6 a0 jaX jaF jaD ja7 jby jbe jaM jaY jap jaK jal jam jax jao ja6 jaV ja8 jae jag jaf ja0 jaC jaP jaw jaI jaZ jaG jaS jan jaU jaE jar jaL jah jaB jaa jaz jaH jab ja2 a0_s jaq jai jaO jaA jat jau jav jaj jas jaJ jak jad jay jac a0_s cyI f0_s) → va_S A s.heap H locs → lv_has ls 3 [(0, .ref a0), (2, .int l2)] → qFN jaC f0_s Q K4 l2 s0 s1 → W p l e (headSpec wsX11_caughtNow ({ frames := 1, cells := 0, slots := 0, locals := 21 })).room s m args below meth c H locs 0 0 (MQ below (va_Qi (fun (r : Int32) (_ : Unit) => Q r ) (cB (dC, dI) (kT cyB cyI cyJ cyP) A (fun u : Unit => ((qI6 a0 jaX jaF jaD ja7 jby jbe jaM jaY jap jaK jal jam jax jao ja6 jaV ja8 jae jag jaf ja0 jaC jaP jaw jaI jaZ jaG jaS jan jaU jaE jar jaL jah jaB jaa jaz jaH jab ja2 a0_s jaq jai jaO jaA jat jau jav jaj jas jaJ jak jad jay jac a0_s cyI f0_s) : va_W))) A) args s 0 0 A) (F0 m 28 ls [.int s1, .int s0]) := by
  obtain ⟨hx, hb, hr, hts, hown, hlocks, hml, hA, hK, hNw⟩ := id C0
  intro H locs ls l2 s0 s1 hP hD hS hl hw
  refine lv_ior hx hb (qaa qpj 2 rfl) ?_
  refine lv_topi (fun x4 ex4 => ?_)
  have hw := hw x4 ex4
  refine lv_istore_n (lv' := [(1, .int x4), (0, .ref a0), (2, .int l2)]) hx hb (qaa qpj 3 rfl) rfl hl (by decide) rfl (fun ls hl => ?_)
  obtain ⟨x5, ex5⟩ : ∃ y : Int32, y = l2 + 1 := ⟨_, rfl⟩
  have hw := hw x5 ex5
  refine lv_iinc (v := x5) (lv' := [(2, .int x5), (1, .int x4), (0, .ref a0)]) hx hb (qaa qpj 4 rfl) hl (k := 2) rfl (by rw [ex5]; rfl) (by decide) rfl (fun ls hl => ?_)
  refine lv_goto (tgt := 4) hx hb (qaa qpj 5 rfl) (by decide) ?_
  exact hK4 _ _ _ x4 x5 hP hD hS (lv_sub hl [2, 1, 0] rfl) hw
set_option maxHeartbeats 4000000 in
set_option maxRecDepth 100000 in
theorem qacH {p : Program} {l : Launch} {e : Env} {s : State} {m : MethodId} {args : Array Value} {below : List Frame} {meth : Method} {c : Code} {A : Nat → Prop} (dC : Nat → ClassId) (dI : Nat → Nat → Nat) (cyB cyI cyJ cyP : ClassId) (a0 a0_s : Nat) (jaX jaF jaD ja7 jby jbe jaM jaY jap jaK jal jam jax jao ja6 jaV ja8 jae jag jaf ja0 jaP jaw jaI jaZ jaG jaS jan jaU jaE jar jaL jah jaB jaa jaz jaH jab ja2 jaq jai jaO jaA jat jau jav jaj jas jaJ jak jad jay jac : Value) (jaC : Int32) (f0_s : NI) (Q : Int32 → Prop) (C0 : cfx p s m args meth c cX11_caughtNow (some .int) wsX11_caughtNow RX11 3 A (dC, dI) (kT cyB cyI cyJ cyP)) : ∀ (n : Nat) (H : Heap) (locs : List Loc) (ls : Array Slot) (l1 l2 : Int32), va_P (dC, dI) vwCl (qI6 a0 jaX jaF jaD ja7 jby jbe jaM jaY jap jaK jal jam jax jao ja6 jaV ja8 jae jag jaf ja0 jaC jaP jaw jaI jaZ jaG jaS jan jaU jaE jar jaL jah jaB jaa jaz jaH jab ja2 a0_s jaq jai jaO jaA jat jau jav jaj jas jaJ jak jad jay jac a0_s cyI f0_s) H → va_D A (qI6 a0 jaX jaF jaD ja7 jby jbe jaM jaY jap jaK jal jam jax jao ja6 jaV ja8 jae jag jaf ja0 jaC jaP jaw jaI jaZ jaG jaS jan jaU jaE jar jaL jah jaB jaa jaz jaH jab ja2 a0_s jaq jai jaO jaA jat jau jav jaj jas jaJ jak jad jay jac a0_s cyI f0_s) → va_S A s.heap H locs → lv_has ls 3 [(0, .ref a0), (1, .int l1), (2, .int l2)] → qrU jaC f0_s Q n l1 l2 → W p l e (headSpec wsX11_caughtNow ({ frames := 1, cells := 0, slots := 0, locals := 21 })).room s m args below meth c H locs 0 0 (MQ below (va_Qi (fun (r : Int32) (_ : Unit) => Q r ) (cB (dC, dI) (kT cyB cyI cyJ cyP) A (fun u : Unit => ((qI6 a0 jaX jaF jaD ja7 jby jbe jaM jaY jap jaK jal jam jax jao ja6 jaV ja8 jae jag jaf ja0 jaC jaP jaw jaI jaZ jaG jaS jan jaU jaE jar jaL jah jaB jaa jaz jaH jab ja2 a0_s jaq jai jaO jaA jat jau jav jaj jas jaJ jak jad jay jac a0_s cyI f0_s) : va_W))) A) args s 0 0 A) (F0 m 4 ls []) := by
  obtain ⟨hx, hb, hr, hts, hown, hlocks, hml, hA, hK, hNw⟩ := id C0
  intro n
  induction n with
  | zero => intro H locs ls l1 l2 hP hD hS hl hw; exact False.elim hw
  | succ n ih =>
    intro H locs ls l1 l2 hP hD hS hl hw
    refine lv_iload_n hx hb (qaa qdj 4 rfl) rfl (lv_at hl 2 rfl) ?_
    refine lv_aload_n hx hb (qaa qdj 5 rfl) rfl (lv_at hl 0 rfl) ?_
    refine va_get (D := (dC, dI)) (ci := 11) (v := .int jaC) (C := RX11) (T := TX11) (N := 55) hx hb hts q6T hown hK hP 0 rfl rfl 21 (by decide) (hts _ q1L) (fun _ h9 => h9) rfl (qaa qdj 6 rfl) ?_
    refine lv_icmp_ge (tgt := 36) hx hb (qaa qdj 7 rfl) (by decide) (fun c1 => ?_) (fun c1 => ?_)
    · have hw := hw.1 c1
      refine lv_iload_n hx hb (qaa qpj 6 rfl) rfl (lv_at hl 1 rfl) ?_
      exact ((W.iret (v := l1) hx hb hr (fun t ht hW => ⟨⟨l1, (), rfl, hw, by rw [ht]; exact hP, va_K.moved hW.alike hK, hD⟩, hS.F ht⟩) hS.2.2 (qaa qpj 7 rfl)))
    · have hw := hw.2 c1
      refine lv_iload_n hx hb (qaa qdj 8 rfl) rfl (lv_at hl 1 rfl) ?_
      refine lv_aload_n hx hb (qaa qdj 9 rfl) rfl (lv_at hl 0 rfl) ?_
      refine lv_iload_n hx hb (qaa qdj 10 rfl) rfl (lv_at hl 2 rfl) ?_
      obtain ⟨hCc, hPc, hDc, hFc⟩ := qac (ws' := (qI6 a0 jaX jaF jaD ja7 jby jbe jaM jaY jap jaK jal jam jax jao ja6 jaV ja8 jae jag jaf ja0 jaC jaP jaw jaI jaZ jaG jaS jan jaU jaE jar jaL jah jaB jaa jaz jaH jab ja2 a0_s jaq jai jaO jaA jat jau jav jaj jas jaJ jak jad jay jac a0_s cyI f0_s)) hP hD hS hA [0, 1] (by decide +kernel) rfl
      refine va_calli (va_runV (As := [.int l2]) (rest := [.int l1]) ⟨hx, hb, hml, hown, hts⟩ (qim l dC dI cyB cyI cyJ cyP a0 a0_s H.size (jaX) (jaF) (jaD) (ja7) (jby) (jbe) (jaM) (jaY) (jap) (jaK) (jal) (jam) (jax) (jao) (ja6) (jaV) (ja8) (jae) (jag) (jaf) (ja0) (.int jaC) (jaP) (jaw) (jaI) (jaZ) (jaG) (jaS) (jan) (jaU) (jaE) (jar) (jaL) (jah) (jaB) (jaa) (jaz) (jaH) (jab) (ja2) (jaq) (jai) (jaO) (jaA) (jat) (jau) (jav) (jaj) (jas) (jaJ) (jak) (jad) (jay) (jac) f0_s l2 hw) (cwV 1 hts gX11_caughtNow_X11_isCaught rfl rfl rfl (by decide +kernel) ⟨nbq rfl, nbq rfl⟩) ⟨qab, va_recv (q := (RX11, TX11, 55)) hK hPc (ci := 11) (q0 := 0) rfl rfl, qae hPc hK hDc hNw⟩ rfl rfl hl.1 rfl (lv_room (nbq rfl)) (qaa qdj 11 rfl) ⟨nbq rfl, nbq rfl⟩) hS (fun q _ h => hFc q h) hFc (fun r2 u t H1 locs ht hvm hw hB hz1 hk1 hS => ?_)
      obtain ⟨hP1, hK1, hD1⟩ := hB
      rw [ht] at hP1
      obtain ⟨hP, hD⟩ := qah (wr := []) (w1 := (qI6 a0 jaX jaF jaD ja7 jby jbe jaM jaY jap jaK jal jam jax jao ja6 jaV ja8 jae jag jaf ja0 jaC jaP jaw jaI jaZ jaG jaS jan jaU jaE jar jaL jah jaB jaa jaz jaH jab ja2 a0_s jaq jai jaO jaA jat jau jav jaj jas jaJ jak jad jay jac a0_s cyI f0_s)) (wn := (qI6 a0 jaX jaF jaD ja7 jby jbe jaM jaY jap jaK jal jam jax jao ja6 jaV ja8 jae jag jaf ja0 jaC jaP jaw jaI jaZ jaG jaS jan jaU jaE jar jaL jah jaB jaa jaz jaH jab ja2 a0_s jaq jai jaO jaA jat jau jav jaj jas jaJ jak jad jay jac a0_s cyI f0_s)) hP hD [0, 1] [] hCc rfl (by decide +kernel) (by decide +kernel) rfl hk1 hFc hP1 hD1
      generalize H1 = H at hP hS ⊢
      refine lv_if_eq (tgt := 27) hx hb (qaa qdj 12 rfl) (by decide) (fun c3 => ?_) (fun c3 => ?_)
      · have hw := hw.1 c3
        refine lv_iconst (v := 0) hx hb (qaa qpj 1 rfl) (by decide) ?_
        exact qPo dC dI cyB cyI cyJ cyP a0 a0_s jaX jaF jaD ja7 jby jbe jaM jaY jap jaK jal jam jax jao ja6 jaV ja8 jae jag jaf ja0 jaP jaw jaI jaZ jaG jaS jan jaU jaE jar jaL jah jaB jaa jaz jaH jab ja2 jaq jai jaO jaA jat jau jav jaj jas jaJ jak jad jay jac jaC f0_s Q (qrU jaC f0_s Q n) ih C0 _ _ _ l2 l1 0 hP hD hS (lv_sub hl [0, 2] rfl) hw
      · have hw := hw.2 c3
        refine lv_iconst (v := 1) hx hb (qaa qdj 13 rfl) (by decide) ?_
        refine lv_iload_n hx hb (qaa qdj 14 rfl) rfl (lv_at hl 2 rfl) ?_
        refine lv_ishl hx hb (qaa qdj 15 rfl) ?_
        refine lv_goto (tgt := 28) hx hb (qaa qpj 0 rfl) (by decide) ?_
        exact qPo dC dI cyB cyI cyJ cyP a0 a0_s jaX jaF jaD ja7 jby jbe jaM jaY jap jaK jal jam jax jao ja6 jaV ja8 jae jag jaf ja0 jaP jaw jaI jaZ jaG jaS jan jaU jaE jar jaL jah jaB jaa jaz jaH jab ja2 jaq jai jaO jaA jat jau jav jaj jas jaJ jak jad jay jac jaC f0_s Q (qrU jaC f0_s Q n) ih C0 _ _ _ l2 l1 (1 <<< (l2 &&& 31)) hP hD hS (lv_sub hl [0, 2] rfl) hw
set_option maxHeartbeats 4000000 in
set_option maxRecDepth 100000 in
theorem qED (l : Launch) (dC : Nat → ClassId) (dI : Nat → Nat → Nat) (cyB cyI cyJ cyP : ClassId) (a0 a0_s sz : Nat) (jaX jaF jaD ja7 jby jbe jaM jaY jap jaK jal jam jax jao ja6 jaV ja8 jae jag jaf ja0 jaP jaw jaI jaZ jaG jaS jan jaU jaE jar jaL jah jaB jaa jaz jaH jab ja2 jaq jai jaO jaA jat jau jav jaj jas jaJ jak jad jay jac : Value) (jaC : Int32) (f0_s : NI) {Q : Int32 → Prop} (hw : qwp jaC f0_s Q) : Met l yX11_caughtNow wsX11_caughtNow ({ frames := 1, cells := 0, slots := 0, locals := 21 }) (va_Pc [.ref a0] (cPc (dC, dI) (kT cyB cyI cyJ cyP) (qI6 a0 jaX jaF jaD ja7 jby jbe jaM jaY jap jaK jal jam jax jao ja6 jaV ja8 jae jag jaf ja0 jaC jaP jaw jaI jaZ jaG jaS jan jaU jaE jar jaL jah jaB jaa jaz jaH jab ja2 a0_s jaq jai jaO jaA jat jau jav jaj jas jaJ jak jad jay jac a0_s cyI f0_s) sz)) (va_Qi (fun (r : Int32) (_ : Unit) => Q r ) (cB (dC, dI) (kT cyB cyI cyJ cyP) (va_A (qI6 a0 jaX jaF jaD ja7 jby jbe jaM jaY jap jaK jal jam jax jao ja6 jaV ja8 jae jag jaf ja0 jaC jaP jaw jaI jaZ jaG jaS jan jaU jaE jar jaL jah jaB jaa jaz jaH jab ja2 a0_s jaq jai jaO jaA jat jau jav jaj jas jaJ jak jad jay jac a0_s cyI f0_s) sz) (fun u : Unit => ((qI6 a0 jaX jaF jaD ja7 jby jbe jaM jaY jap jaK jal jam jax jao ja6 jaV ja8 jae jag jaf ja0 jaC jaP jaw jaI jaZ jaG jaS jan jaU jaE jar jaL jah jaB jaa jaz jaH jab ja2 a0_s jaq jai jaO jaA jat jau jav jaj jas jaJ jak jad jay jac a0_s cyI f0_s) : va_W))) (va_A (qI6 a0 jaX jaF jaD ja7 jby jbe jaM jaY jap jaK jal jam jax jao ja6 jaV ja8 jae jag jaf ja0 jaC jaP jaw jaI jaZ jaG jaS jan jaU jaE jar jaL jah jaB jaa jaz jaH jab ja2 a0_s jaq jai jaO jaA jat jau jav jaj jas jaJ jak jad jay jac a0_s cyI f0_s) sz)) 0 0 (va_A (qI6 a0 jaX jaF jaD ja7 jby jbe jaM jaY jap jaK jal jam jax jao ja6 jaV ja8 jae jag jaf ja0 jaC jaP jaw jaI jaZ jaG jaS jan jaU jaE jar jaL jah jaB jaa jaz jaH jab ja2 a0_s jaq jai jaO jaA jat jau jav jaj jas jaJ jak jad jay jac a0_s cyI f0_s) sz) := by
  refine Met.ofW (cc := cX11_caughtNow) (maxL := 3) (ret := (some .int)) (by decide) rfl ?_
  intro p e s m args below meth c s₁ B hml hv
  obtain ⟨rfl, hsz, hP, hK, hD0, hNw⟩ := hv
  have hx := B.exec
  have hb := B.bytes
  have hr := B.returns
  have hts := atoms_spec (ws := wsX11_caughtNow) B.pre
  have hown : s.vm.findClass RX11 = some m.cls := findClass_of_methodNamed B.named
  have hlocks := B.notSynchronized
  subst hsz
  have hD := hD0.self (sz := s.heap.size)
  generalize hAe : va_A (qI6 a0 jaX jaF jaD ja7 jby jbe jaM jaY jap jaK jal jam jax jao ja6 jaV ja8 jae jag jaf ja0 jaC jaP jaw jaI jaZ jaG jaS jan jaU jaE jar jaL jah jaB jaa jaz jaH jab ja2 a0_s jaq jai jaO jaA jat jau jav jaj jas jaJ jak jad jay jac a0_s cyI f0_s) s.heap.size = A at hD ⊢
  have hA : ∀ q : Nat, s.heap.size ≤ q → A q := fun q h => by rw [← hAe]; exact Or.inr h
  have hS : va_S A s.heap s.heap [] := va_S.rf
  have hP : va_P (dC, dI) vwCl (qI6 a0 jaX jaF jaD ja7 jby jbe jaM jaY jap jaK jal jam jax jao ja6 jaV ja8 jae jag jaf ja0 jaC jaP jaw jaI jaZ jaG jaS jan jaU jaE jar jaL jah jaB jaa jaz jaH jab ja2 a0_s jaq jai jaO jaA jat jau jav jaj jas jaJ jak jad jay jac a0_s cyI f0_s) s.heap := hP
  have hl := lv_entry ([.ref a0]) (n := 3) (nbq rfl)
  rw [lg_entry_eq]
  generalize (lg_sl ([.ref a0]) ++ List.replicate (3 - (lg_sl ([.ref a0])).length) Slot.unset).toArray = ls at hl ⊢
  have hl : lv_has ls 3 [(0, .ref a0)] := hl
  have C0 : cfx p s m _ meth c cX11_caughtNow (some .int) wsX11_caughtNow RX11 3 A (dC, dI) (kT cyB cyI cyJ cyP) := ⟨hx, hb, hr, hts, hown, hlocks, hml, hA, hK, hNw⟩
  clear hAe
  obtain ⟨H, hH⟩ : ∃ H, H = s.heap := ⟨_, rfl⟩
  rw [← hH] at hP ⊢
  have hS : va_S A s.heap H [] := by rw [hH]; exact va_S.rf
  have hS := hS
  refine lv_iconst (v := 0) hx hb (qaa qdj 0 rfl) (by decide) ?_
  refine lv_istore_n (lv' := [(1, .int 0), (0, .ref a0)]) hx hb (qaa qdj 1 rfl) rfl hl (by decide) rfl (fun ls hl => ?_)
  refine lv_iconst (v := 0) hx hb (qaa qdj 2 rfl) (by decide) ?_
  refine lv_istore_n (lv' := [(2, .int 0), (1, .int 0), (0, .ref a0)]) hx hb (qaa qdj 3 rfl) rfl hl (by decide) rfl (fun ls hl => ?_)
  obtain ⟨n9, hw⟩ := hw
  exact qacH dC dI cyB cyI cyJ cyP a0 a0_s jaX jaF jaD ja7 jby jbe jaM jaY jap jaK jal jam jax jao ja6 jaV ja8 jae jag jaf ja0 jaP jaw jaI jaZ jaG jaS jan jaU jaE jar jaL jah jaB jaa jaz jaH jab ja2 jaq jai jaO jaA jat jau jav jaj jas jaJ jak jad jay jac jaC f0_s Q C0 n9 _ _ _ 0 0 hP hD hS (lv_sub hl [2, 1, 0] rfl) hw
theorem qaaj : ∀ w ∈ u_ws RX11 TX11 55, w ∈ wsX11_debtsNow := uiM q7o qfa (by decide +kernel)
theorem q8K : (.fieldLink RX11 71 "MarchHaresModel" "s" "[I" : Cond) ∈ wsX11_debtsNow := q7o 457 (by decide +kernel)
set_option maxHeartbeats 4000000 in
set_option maxRecDepth 100000 in
theorem qajp {p : Program} {l : Launch} {e : Env} {s : State} {m : MethodId} {args : Array Value} {below : List Frame} {meth : Method} {c : Code} {A : Nat → Prop} (dC : Nat → ClassId) (dI : Nat → Nat → Nat) (cyB cyI cyJ cyP : ClassId) (a0 a0_s : Nat) (jaX jaF jaD ja7 jby jbe jaM jaY jap jaK jal jam jax jao ja6 jaV ja8 jae jag jaf ja0 ja4 jaP jaw jaI jaZ jaG jaS jan jaU jaE jar jaL jah jaB jaa jaz jaH jab ja2 jaq jai jaO jaA jat jau jav jaj jas jaJ jak jad jay jac : Value) (f0_s : NI) (Q : Int32 → Prop) (C0 : cfx p s m args meth c cX11_debtsNow (some .int) wsX11_debtsNow RX11 3 A (dC, dI) (kT cyB cyI cyJ cyP)) : ∀ (n : Nat) (H : Heap) (locs : List Loc) (ls : Array Slot) (l1 l2 : Int32), va_P (dC, dI) vwCl (q7n a0 jaX jaF jaD ja7 jby jbe jaM jaY jap jaK jal jam jax jao ja6 jaV ja8 jae jag jaf ja0 ja4 jaP jaw jaI jaZ jaG jaS jan jaU jaE jar jaL jah jaB jaa jaz jaH jab ja2 a0_s jaq jai jaO jaA jat jau jav jaj jas jaJ jak jad jay jac a0_s cyI f0_s) H → va_D A (q7n a0 jaX jaF jaD ja7 jby jbe jaM jaY jap jaK jal jam jax jao ja6 jaV ja8 jae jag jaf ja0 ja4 jaP jaw jaI jaZ jaG jaS jan jaU jaE jar jaL jah jaB jaa jaz jaH jab ja2 a0_s jaq jai jaO jaA jat jau jav jaj jas jaJ jak jad jay jac a0_s cyI f0_s) → va_S A s.heap H locs → lv_has ls 3 [(0, .ref a0), (1, .int l1), (2, .int l2)] → qCz f0_s Q n l1 l2 → W p l e (headSpec wsX11_debtsNow ({ frames := 0, cells := 0, slots := 0, locals := 0 })).room s m args below meth c H locs 0 0 (MQ below (va_Qi (fun (r : Int32) (_ : Unit) => Q r ) (cB (dC, dI) (kT cyB cyI cyJ cyP) A (fun u : Unit => ((q7n a0 jaX jaF jaD ja7 jby jbe jaM jaY jap jaK jal jam jax jao ja6 jaV ja8 jae jag jaf ja0 ja4 jaP jaw jaI jaZ jaG jaS jan jaU jaE jar jaL jah jaB jaa jaz jaH jab ja2 a0_s jaq jai jaO jaA jat jau jav jaj jas jaJ jak jad jay jac a0_s cyI f0_s) : va_W))) A) args s 0 0 A) (F0 m 4 ls []) := by
  obtain ⟨hx, hb, hr, hts, hown, hlocks, hml, hA, hK, hNw⟩ := id C0
  intro n
  induction n with
  | zero => intro H locs ls l1 l2 hP hD hS hl hw; exact False.elim hw
  | succ n ih =>
    intro H locs ls l1 l2 hP hD hS hl hw
    refine lv_iload_n hx hb (qaa qep 4 rfl) rfl (lv_at hl 2 rfl) ?_
    refine lv_bipush (v := 36) hx hb (qaa qep 5 rfl) (by decide) ?_
    refine lv_icmp_ge (tgt := 28) hx hb (qaa qep 6 rfl) (by decide) (fun c1 => ?_) (fun c1 => ?_)
    · have hw := hw.1 c1
      refine lv_iload_n hx hb (qaa qBl 2 rfl) rfl (lv_at hl 1 rfl) ?_
      exact ((W.iret (v := l1) hx hb hr (fun t ht hW => ⟨⟨l1, (), rfl, hw, by rw [ht]; exact hP, va_K.moved hW.alike hK, hD⟩, hS.F ht⟩) hS.2.2 (qaa qBl 3 rfl)))
    · have hw := hw.2 c1
      refine lv_iload_n hx hb (qaa qep 7 rfl) rfl (lv_at hl 1 rfl) ?_
      refine lv_aload_n hx hb (qaa qep 8 rfl) rfl (lv_at hl 0 rfl) ?_
      refine va_get (D := (dC, dI)) (ci := 11) (v := .ref a0_s) (C := RX11) (T := TX11) (N := 55) hx hb hts qaaj hown hK hP 0 rfl rfl 40 (by decide) (hts _ q8K) (fun _ h9 => h9) rfl (qaa qep 9 rfl) ?_
      refine lv_bipush (v := 30) hx hb (qaa qep 10 rfl) (by decide) ?_
      refine lv_iload_n hx hb (qaa qep 11 rfl) rfl (lv_at hl 2 rfl) ?_
      refine lv_iadd hx hb (qaa qep 12 rfl) ?_
      refine lv_topi (fun x2 ex2 => ?_)
      have hw := hw x2 ex2
      obtain ⟨hi9, hw⟩ := hw
      refine va_iald hx hb hK hP 1 1 rfl rfl hi9 (qaa qep 13 rfl) ?_
      refine lv_topi (fun x3 ex3 => ?_)
      have hw := hw x3 ex3
      refine lv_iadd hx hb (qaa qep 14 rfl) ?_
      refine lv_topi (fun x4 ex4 => ?_)
      have hw := hw x4 ex4
      refine lv_istore_n (lv' := [(1, .int x4), (0, .ref a0), (2, .int l2)]) hx hb (qaa qep 15 rfl) rfl hl (by decide) rfl (fun ls hl => ?_)
      obtain ⟨x5, ex5⟩ : ∃ y : Int32, y = l2 + 1 := ⟨_, rfl⟩
      have hw := hw x5 ex5
      refine lv_iinc (v := x5) (lv' := [(2, .int x5), (1, .int x4), (0, .ref a0)]) hx hb (qaa qBl 0 rfl) hl (k := 2) rfl (by rw [ex5]; rfl) (by decide) rfl (fun ls hl => ?_)
      refine lv_goto (tgt := 4) hx hb (qaa qBl 1 rfl) (by decide) ?_
      exact ih _ _ _ x4 x5 hP hD hS (lv_sub hl [2, 1, 0] rfl) hw
set_option maxHeartbeats 4000000 in
set_option maxRecDepth 100000 in
theorem q4j (l : Launch) (dC : Nat → ClassId) (dI : Nat → Nat → Nat) (cyB cyI cyJ cyP : ClassId) (a0 a0_s sz : Nat) (jaX jaF jaD ja7 jby jbe jaM jaY jap jaK jal jam jax jao ja6 jaV ja8 jae jag jaf ja0 ja4 jaP jaw jaI jaZ jaG jaS jan jaU jaE jar jaL jah jaB jaa jaz jaH jab ja2 jaq jai jaO jaA jat jau jav jaj jas jaJ jak jad jay jac : Value) (f0_s : NI) {Q : Int32 → Prop} (hw : qHD f0_s Q) : Met l yX11_debtsNow wsX11_debtsNow ({ frames := 0, cells := 0, slots := 0, locals := 0 }) (va_Pc [.ref a0] (cPc (dC, dI) (kT cyB cyI cyJ cyP) (q7n a0 jaX jaF jaD ja7 jby jbe jaM jaY jap jaK jal jam jax jao ja6 jaV ja8 jae jag jaf ja0 ja4 jaP jaw jaI jaZ jaG jaS jan jaU jaE jar jaL jah jaB jaa jaz jaH jab ja2 a0_s jaq jai jaO jaA jat jau jav jaj jas jaJ jak jad jay jac a0_s cyI f0_s) sz)) (va_Qi (fun (r : Int32) (_ : Unit) => Q r ) (cB (dC, dI) (kT cyB cyI cyJ cyP) (va_A (q7n a0 jaX jaF jaD ja7 jby jbe jaM jaY jap jaK jal jam jax jao ja6 jaV ja8 jae jag jaf ja0 ja4 jaP jaw jaI jaZ jaG jaS jan jaU jaE jar jaL jah jaB jaa jaz jaH jab ja2 a0_s jaq jai jaO jaA jat jau jav jaj jas jaJ jak jad jay jac a0_s cyI f0_s) sz) (fun u : Unit => ((q7n a0 jaX jaF jaD ja7 jby jbe jaM jaY jap jaK jal jam jax jao ja6 jaV ja8 jae jag jaf ja0 ja4 jaP jaw jaI jaZ jaG jaS jan jaU jaE jar jaL jah jaB jaa jaz jaH jab ja2 a0_s jaq jai jaO jaA jat jau jav jaj jas jaJ jak jad jay jac a0_s cyI f0_s) : va_W))) (va_A (q7n a0 jaX jaF jaD ja7 jby jbe jaM jaY jap jaK jal jam jax jao ja6 jaV ja8 jae jag jaf ja0 ja4 jaP jaw jaI jaZ jaG jaS jan jaU jaE jar jaL jah jaB jaa jaz jaH jab ja2 a0_s jaq jai jaO jaA jat jau jav jaj jas jaJ jak jad jay jac a0_s cyI f0_s) sz)) 0 0 (va_A (q7n a0 jaX jaF jaD ja7 jby jbe jaM jaY jap jaK jal jam jax jao ja6 jaV ja8 jae jag jaf ja0 ja4 jaP jaw jaI jaZ jaG jaS jan jaU jaE jar jaL jah jaB jaa jaz jaH jab ja2 a0_s jaq jai jaO jaA jat jau jav jaj jas jaJ jak jad jay jac a0_s cyI f0_s) sz) := by
  refine Met.ofW (cc := cX11_debtsNow) (maxL := 3) (ret := (some .int)) (by decide) rfl ?_
  intro p e s m args below meth c s₁ B hml hv
  obtain ⟨rfl, hsz, hP, hK, hD0, hNw⟩ := hv
  have hx := B.exec
  have hb := B.bytes
  have hr := B.returns
  have hts := atoms_spec (ws := wsX11_debtsNow) B.pre
  have hown : s.vm.findClass RX11 = some m.cls := findClass_of_methodNamed B.named
  have hlocks := B.notSynchronized
  subst hsz
  have hD := hD0.self (sz := s.heap.size)
  generalize hAe : va_A (q7n a0 jaX jaF jaD ja7 jby jbe jaM jaY jap jaK jal jam jax jao ja6 jaV ja8 jae jag jaf ja0 ja4 jaP jaw jaI jaZ jaG jaS jan jaU jaE jar jaL jah jaB jaa jaz jaH jab ja2 a0_s jaq jai jaO jaA jat jau jav jaj jas jaJ jak jad jay jac a0_s cyI f0_s) s.heap.size = A at hD ⊢
  have hA : ∀ q : Nat, s.heap.size ≤ q → A q := fun q h => by rw [← hAe]; exact Or.inr h
  have hS : va_S A s.heap s.heap [] := va_S.rf
  have hP : va_P (dC, dI) vwCl (q7n a0 jaX jaF jaD ja7 jby jbe jaM jaY jap jaK jal jam jax jao ja6 jaV ja8 jae jag jaf ja0 ja4 jaP jaw jaI jaZ jaG jaS jan jaU jaE jar jaL jah jaB jaa jaz jaH jab ja2 a0_s jaq jai jaO jaA jat jau jav jaj jas jaJ jak jad jay jac a0_s cyI f0_s) s.heap := hP
  have hl := lv_entry ([.ref a0]) (n := 3) (nbq rfl)
  rw [lg_entry_eq]
  generalize (lg_sl ([.ref a0]) ++ List.replicate (3 - (lg_sl ([.ref a0])).length) Slot.unset).toArray = ls at hl ⊢
  have hl : lv_has ls 3 [(0, .ref a0)] := hl
  have C0 : cfx p s m _ meth c cX11_debtsNow (some .int) wsX11_debtsNow RX11 3 A (dC, dI) (kT cyB cyI cyJ cyP) := ⟨hx, hb, hr, hts, hown, hlocks, hml, hA, hK, hNw⟩
  clear hAe
  obtain ⟨H, hH⟩ : ∃ H, H = s.heap := ⟨_, rfl⟩
  rw [← hH] at hP ⊢
  have hS : va_S A s.heap H [] := by rw [hH]; exact va_S.rf
  have hS := hS
  refine lv_iconst (v := 0) hx hb (qaa qep 0 rfl) (by decide) ?_
  refine lv_istore_n (lv' := [(1, .int 0), (0, .ref a0)]) hx hb (qaa qep 1 rfl) rfl hl (by decide) rfl (fun ls hl => ?_)
  refine lv_iconst (v := 0) hx hb (qaa qep 2 rfl) (by decide) ?_
  refine lv_istore_n (lv' := [(2, .int 0), (1, .int 0), (0, .ref a0)]) hx hb (qaa qep 3 rfl) rfl hl (by decide) rfl (fun ls hl => ?_)
  obtain ⟨n9, hw⟩ := hw
  exact qajp dC dI cyB cyI cyJ cyP a0 a0_s jaX jaF jaD ja7 jby jbe jaM jaY jap jaK jal jam jax jao ja6 jaV ja8 jae jag jaf ja0 ja4 jaP jaw jaI jaZ jaG jaS jan jaU jaE jar jaL jah jaB jaa jaz jaH jab ja2 jaq jai jaO jaA jat jau jav jaj jas jaJ jak jad jay jac f0_s Q C0 n9 _ _ _ 0 0 hP hD hS (lv_sub hl [2, 1, 0] rfl) hw
theorem qZm : ∀ w ∈ u_ws RX11 TX11 55, w ∈ wsX11_ahead := uiM qq1 qfa (by decide +kernel)
theorem qawu : (.fieldLink RX11 3 "MarchHaresModel" "thrown" "I" : Cond) ∈ wsX11_ahead := qq1 589 (by decide +kernel)
theorem qarm : (.fieldLink RX11 71 "MarchHaresModel" "s" "[I" : Cond) ∈ wsX11_ahead := qq1 457 (by decide +kernel)
set_option maxHeartbeats 4000000 in
set_option maxRecDepth 100000 in
theorem qawy {p : Program} {l : Launch} {e : Env} {s : State} {m : MethodId} {args : Array Value} {below : List Frame} {meth : Method} {c : Code} {A : Nat → Prop} (dC : Nat → ClassId) (dI : Nat → Nat → Nat) (cyB cyI cyJ cyP : ClassId) (a0 jaQ jaT a0_s ja5 jbJ jb9 : Nat) (jaD ja7 jby jbe jaM jaY jap jaK jal jam jax jao jae jag jaf ja0 jaw jaI jaZ jaG jaS jan jaU jaE jar jaL jah jaB jaa jaz jaH jab jaq jai jaO jaA jat jau jav jaj jas jaJ jak jad jay jac : Value) (jaC jbw : Int32) (jb2 jbv jcy jdH : NI) (Q : Int32 → Int32 → NI → NI → Prop) (C0 : cfx p s m args meth c cX11_ahead (some .int) wsX11_ahead RX11 4 A (dC, dI) (kT cyB cyI cyJ cyP)) : ∀ (n : Nat) (H : Heap) (locs : List Loc) (ls : Array Slot) (jbd : Int32) (ja9 f0_s : NI) (l1 l2 l3 : Int32), va_P (dC, dI) vwCl (qyd a0 jbd jaQ jaD ja7 jby jbe jaM jaY jap jaK jal jam jax jao ja5 jb9 jbJ jae jag jaf ja0 jaC jbw jaw jaI jaZ jaG jaS jan jaU jaE jar jaL jah jaB jaa jaz jaH jab jaT a0_s jaq jai jaO jaA jat jau jav jaj jas jaJ jak jad jay jac jaQ cyI ja9 jaT cyI jb2 a0_s cyI f0_s ja5 cyI jbv jbJ cyI jcy jb9 cyI jdH) H → va_D A (qyd a0 jbd jaQ jaD ja7 jby jbe jaM jaY jap jaK jal jam jax jao ja5 jb9 jbJ jae jag jaf ja0 jaC jbw jaw jaI jaZ jaG jaS jan jaU jaE jar jaL jah jaB jaa jaz jaH jab jaT a0_s jaq jai jaO jaA jat jau jav jaj jas jaJ jak jad jay jac jaQ cyI ja9 jaT cyI jb2 a0_s cyI f0_s ja5 cyI jbv jbJ cyI jcy jb9 cyI jdH) → va_S A s.heap H locs → lv_has ls 4 [(0, .ref a0), (1, .int l1), (2, .int l2), (3, .int l3)] → qIH jaC jbw jb2 jbv jcy jdH Q n jbd ja9 f0_s l1 l2 l3 → W p l e (headSpec wsX11_ahead ({ frames := 5, cells := 0, slots := 0, locals := 106 })).room s m args below meth c H locs 0 0 (MQ below (va_Qi (fun (r : Int32) (u : Int32 × NI × NI) => Q r u.1 u.2.1 u.2.2) (cB (dC, dI) (kT cyB cyI cyJ cyP) A (fun u : Int32 × NI × NI => ((qyd a0 u.1 jaQ jaD ja7 jby jbe jaM jaY jap jaK jal jam jax jao ja5 jb9 jbJ jae jag jaf ja0 jaC jbw jaw jaI jaZ jaG jaS jan jaU jaE jar jaL jah jaB jaa jaz jaH jab jaT a0_s jaq jai jaO jaA jat jau jav jaj jas jaJ jak jad jay jac jaQ cyI u.2.1 jaT cyI jb2 a0_s cyI u.2.2 ja5 cyI jbv jbJ cyI jcy jb9 cyI jdH) : va_W))) A) args s 0 0 A) (F0 m 46 ls []) := by
  obtain ⟨hx, hb, hr, hts, hown, hlocks, hml, hA, hK, hNw⟩ := id C0
  intro n
  induction n with
  | zero => intro H locs ls jbd ja9 f0_s l1 l2 l3 hP hD hS hl hw; exact False.elim hw
  | succ n ih =>
    intro H locs ls jbd ja9 f0_s l1 l2 l3 hP hD hS hl hw
    refine lv_iload_n hx hb (qaa qha 11 rfl) rfl (lv_at hl 3 rfl) ?_
    refine lv_iload_n hx hb (qaa qha 12 rfl) rfl (lv_at hl 1 rfl) ?_
    refine lv_icmp_ge (tgt := 61) hx hb (qaa qha 13 rfl) (by decide) (fun c10 => ?_) (fun c10 => ?_)
    · have hw := hw.1 c10
      refine lv_iload_n hx hb (qaa qhW 2 rfl) rfl (lv_at hl 2 rfl) ?_
      refine lv_if_ne (tgt := 75) hx hb (qaa qhW 3 rfl) (by decide) (fun c11 => ?_) (fun c11 => ?_)
      · have hw := hw.1 c11
        refine lv_iload_n hx hb (qaa qhW 9 rfl) rfl (lv_at hl 2 rfl) ?_
        refine lv_iconst (v := 1) hx hb (qaa qhW 10 rfl) (by decide) ?_
        refine lv_icmp_ne (tgt := 87) hx hb (qaa qhW 11 rfl) (by decide) (fun c12 => ?_) (fun c12 => ?_)
        · have hw := hw.1 c12
          refine lv_aload_n hx hb (qaa qhW 15 rfl) rfl (lv_at hl 0 rfl) ?_
          obtain ⟨hCc, hPc, hDc, hFc⟩ := qac (ws' := (qa1j a0 jbd jaQ jaD ja7 jby jbe jaM jaY jap jaK jal jam jax jao ja5 jb9 jbJ jae jag jaf ja0 jaC jbw jaw jaI jaZ jaG jaS jan jaU jaE jar jaL jah jaB jaa jaz jaH jab jaT a0_s jaq jai jaO jaA jat jau jav jaj jas jaJ jak jad jay jac a0_s cyI f0_s)) hP hD hS hA [0, 3] (by decide +kernel) rfl
          refine va_calli (va_runV (As := []) (rest := []) ⟨hx, hb, hml, hown, hts⟩ (q4j l dC dI cyB cyI cyJ cyP a0 a0_s H.size (.int jbd) (.ref jaQ) (jaD) (ja7) (jby) (jbe) (jaM) (jaY) (jap) (jaK) (jal) (jam) (jax) (jao) (.ref ja5) (.ref jb9) (.ref jbJ) (jae) (jag) (jaf) (ja0) (.int jaC) (.int jbw) (jaw) (jaI) (jaZ) (jaG) (jaS) (jan) (jaU) (jaE) (jar) (jaL) (jah) (jaB) (jaa) (jaz) (jaH) (jab) (.ref jaT) (jaq) (jai) (jaO) (jaA) (jat) (jau) (jav) (jaj) (jas) (jaJ) (jak) (jad) (jay) (jac) f0_s hw) (cwV 0 hts gX11_ahead_X11_debtsNow rfl rfl rfl (by decide +kernel) ⟨nbq rfl, nbq rfl⟩) ⟨qab, va_recv (q := (RX11, TX11, 55)) hK hPc (ci := 11) (q0 := 0) rfl rfl, qae hPc hK hDc hNw⟩ rfl rfl hl.1 rfl (lv_room (nbq rfl)) (qaa qIW 0 rfl) ⟨nbq rfl, nbq rfl⟩) hS (fun q _ h => hFc q h) hFc (fun r13 u t H1 locs ht hvm hw hB hz1 hk1 hS => ?_)
          obtain ⟨hP1, hK1, hD1⟩ := hB
          rw [ht] at hP1
          obtain ⟨hP, hD⟩ := qad (wr := (qbcA jaQ cyI ja9 jaT cyI jb2 ja5 cyI jbv jbJ cyI jcy jb9 cyI jdH)) (w1 := (qa1j a0 jbd jaQ jaD ja7 jby jbe jaM jaY jap jaK jal jam jax jao ja5 jb9 jbJ jae jag jaf ja0 jaC jbw jaw jaI jaZ jaG jaS jan jaU jaE jar jaL jah jaB jaa jaz jaH jab jaT a0_s jaq jai jaO jaA jat jau jav jaj jas jaJ jak jad jay jac a0_s cyI f0_s)) (wn := (qyd a0 jbd jaQ jaD ja7 jby jbe jaM jaY jap jaK jal jam jax jao ja5 jb9 jbJ jae jag jaf ja0 jaC jbw jaw jaI jaZ jaG jaS jan jaU jaE jar jaL jah jaB jaa jaz jaH jab jaT a0_s jaq jai jaO jaA jat jau jav jaj jas jaJ jak jad jay jac jaQ cyI ja9 jaT cyI jb2 a0_s cyI f0_s ja5 cyI jbv jbJ cyI jcy jb9 cyI jdH)) hP hD [0, 3] [1, 2, 4, 5, 6] [5, 0, 1, 6, 2, 3, 4] hCc rfl (by decide +kernel) (by decide +kernel) (by decide +kernel) rfl hk1 hFc hP1 hD1
          generalize H1 = H at hP hS ⊢
          exact ((W.iret (v := r13) hx hb hr (fun t ht hW => ⟨⟨r13, (jbd, ja9, f0_s), rfl, hw, by rw [ht]; exact hP, va_K.moved hW.alike hK, hD⟩, hS.F ht⟩) hS.2.2 (qaa qIW 1 rfl)))
        · have hw := hw.2 c12
          refine lv_aload_n hx hb (qaa qhW 12 rfl) rfl (lv_at hl 0 rfl) ?_
          obtain ⟨hCc, hPc, hDc, hFc⟩ := qac (ws' := (qa1j a0 jbd jaQ jaD ja7 jby jbe jaM jaY jap jaK jal jam jax jao ja5 jb9 jbJ jae jag jaf ja0 jaC jbw jaw jaI jaZ jaG jaS jan jaU jaE jar jaL jah jaB jaa jaz jaH jab jaT a0_s jaq jai jaO jaA jat jau jav jaj jas jaJ jak jad jay jac a0_s cyI f0_s)) hP hD hS hA [0, 3] (by decide +kernel) rfl
          refine va_calli (va_runV (As := []) (rest := []) ⟨hx, hb, hml, hown, hts⟩ (qED l dC dI cyB cyI cyJ cyP a0 a0_s H.size (.int jbd) (.ref jaQ) (jaD) (ja7) (jby) (jbe) (jaM) (jaY) (jap) (jaK) (jal) (jam) (jax) (jao) (.ref ja5) (.ref jb9) (.ref jbJ) (jae) (jag) (jaf) (ja0) (.int jbw) (jaw) (jaI) (jaZ) (jaG) (jaS) (jan) (jaU) (jaE) (jar) (jaL) (jah) (jaB) (jaa) (jaz) (jaH) (jab) (.ref jaT) (jaq) (jai) (jaO) (jaA) (jat) (jau) (jav) (jaj) (jas) (jaJ) (jak) (jad) (jay) (jac) jaC f0_s hw) (cwV 0 hts gX11_ahead_X11_caughtNow rfl rfl rfl (by decide +kernel) ⟨nbq rfl, nbq rfl⟩) ⟨qab, va_recv (q := (RX11, TX11, 55)) hK hPc (ci := 11) (q0 := 0) rfl rfl, qae hPc hK hDc hNw⟩ rfl rfl hl.1 rfl (lv_room (nbq rfl)) (qaa qhW 13 rfl) ⟨nbq rfl, nbq rfl⟩) hS (fun q _ h => hFc q h) hFc (fun r14 u t H1 locs ht hvm hw hB hz1 hk1 hS => ?_)
          obtain ⟨hP1, hK1, hD1⟩ := hB
          rw [ht] at hP1
          obtain ⟨hP, hD⟩ := qad (wr := (qbcA jaQ cyI ja9 jaT cyI jb2 ja5 cyI jbv jbJ cyI jcy jb9 cyI jdH)) (w1 := (qa1j a0 jbd jaQ jaD ja7 jby jbe jaM jaY jap jaK jal jam jax jao ja5 jb9 jbJ jae jag jaf ja0 jaC jbw jaw jaI jaZ jaG jaS jan jaU jaE jar jaL jah jaB jaa jaz jaH jab jaT a0_s jaq jai jaO jaA jat jau jav jaj jas jaJ jak jad jay jac a0_s cyI f0_s)) (wn := (qyd a0 jbd jaQ jaD ja7 jby jbe jaM jaY jap jaK jal jam jax jao ja5 jb9 jbJ jae jag jaf ja0 jaC jbw jaw jaI jaZ jaG jaS jan jaU jaE jar jaL jah jaB jaa jaz jaH jab jaT a0_s jaq jai jaO jaA jat jau jav jaj jas jaJ jak jad jay jac jaQ cyI ja9 jaT cyI jb2 a0_s cyI f0_s ja5 cyI jbv jbJ cyI jcy jb9 cyI jdH)) hP hD [0, 3] [1, 2, 4, 5, 6] [5, 0, 1, 6, 2, 3, 4] hCc rfl (by decide +kernel) (by decide +kernel) (by decide +kernel) rfl hk1 hFc hP1 hD1
          generalize H1 = H at hP hS ⊢
          refine lv_goto (tgt := 91) hx hb (qaa qhW 14 rfl) (by decide) ?_
          exact ((W.iret (v := r14) hx hb hr (fun t ht hW => ⟨⟨r14, (jbd, ja9, f0_s), rfl, hw, by rw [ht]; exact hP, va_K.moved hW.alike hK, hD⟩, hS.F ht⟩) hS.2.2 (qaa qIW 1 rfl)))
      · have hw := hw.2 c11
        refine lv_aload_n hx hb (qaa qhW 4 rfl) rfl (lv_at hl 0 rfl) ?_
        refine va_get (D := (dC, dI)) (ci := 11) (v := .ref a0_s) (C := RX11) (T := TX11) (N := 55) hx hb hts qZm hown hK hP 0 rfl rfl 40 (by decide) (hts _ qarm) (fun _ h9 => h9) rfl (qaa qhW 5 rfl) ?_
        refine lv_bipush (v := 66) hx hb (qaa qhW 6 rfl) (by decide) ?_
        refine va_iald hx hb hK hP 3 1 rfl rfl (vin (by decide)) (qaa qhW 7 rfl) ?_
        refine lv_topi (fun x15 ex15 => ?_)
        have hw := hw x15 ex15
        refine lv_goto (tgt := 91) hx hb (qaa qhW 8 rfl) (by decide) ?_
        exact ((W.iret (v := x15) hx hb hr (fun t ht hW => ⟨⟨x15, (jbd, ja9, f0_s), rfl, hw, by rw [ht]; exact hP, va_K.moved hW.alike hK, hD⟩, hS.F ht⟩) hS.2.2 (qaa qIW 1 rfl)))
    · have hw := hw.2 c10
      refine lv_aload_n hx hb (qaa qha 14 rfl) rfl (lv_at hl 0 rfl) ?_
      obtain ⟨hCc, hPc, hDc, hFc⟩ := qac (ws' := (qbdN a0 jbd jaQ jaD ja7 jby jbe jaM jaY jap jaK jal jam jax jao ja5 jb9 jbJ jae jag jaf ja0 jaC jbw jaw jaI jaZ jaG jaS jan jaU jaE jar jaL jah jaB jaa jaz jaH jab jaT a0_s jaq jai jaO jaA jat jau jav jaj jas jaJ jak jad jay jac a0_s cyI f0_s ja5 cyI jbv jbJ cyI jcy jb9 cyI jdH)) hP hD hS hA [0, 3, 4, 5, 6] (by decide +kernel) rfl
      refine va_callv (va_runV (As := []) (rest := []) ⟨hx, hb, hml, hown, hts⟩ (qW0 l dC dI cyB cyI cyJ cyP a0 a0_s ja5 jbJ jb9 H.size (.int jbd) (.ref jaQ) (jaD) (ja7) (jby) (jbe) (jaM) (jaY) (jap) (jaK) (jal) (jam) (jax) (jao) (jae) (jag) (jaf) (ja0) (jaw) (jaI) (jaZ) (jaG) (jaS) (jan) (jaU) (jaE) (jar) (jaL) (jah) (jaB) (jaa) (jaz) (jaH) (jab) (.ref jaT) (jaq) (jai) (jaO) (jaA) (jat) (jau) (jav) (jaj) (jas) (jaJ) (jak) (jad) (jay) (jac) jaC jbw jbv jcy jdH f0_s hw) (cwV 0 hts gX11_ahead_X11_passes rfl rfl rfl (by decide +kernel) ⟨nbq rfl, nbq rfl⟩) ⟨qab, va_recv (q := (RX11, TX11, 55)) hK hPc (ci := 11) (q0 := 0) rfl rfl, qae hPc hK hDc hNw⟩ rfl rfl hl.1 rfl (lv_room (nbq rfl)) (qaa qha 15 rfl) ⟨nbq rfl, nbq rfl⟩) hS (fun q _ h => hFc q h) hFc (fun u t H1 locs ht hvm hw hB hz1 hk1 hS => ?_)
      obtain ⟨f16, rfl⟩ : ∃ z, z = u := ⟨_, rfl⟩
      obtain ⟨hP1, hK1, hD1⟩ := hB
      rw [ht] at hP1
      obtain ⟨hP, hD⟩ := qad (wr := [(jaQ, .inl (cyI, 2, .inl ja9)), (jaT, .inl (cyI, 68, .inl jb2))]) (w1 := (qbdN a0 jbd jaQ jaD ja7 jby jbe jaM jaY jap jaK jal jam jax jao ja5 jb9 jbJ jae jag jaf ja0 jaC jbw jaw jaI jaZ jaG jaS jan jaU jaE jar jaL jah jaB jaa jaz jaH jab jaT a0_s jaq jai jaO jaA jat jau jav jaj jas jaJ jak jad jay jac a0_s cyI f16 ja5 cyI jbv jbJ cyI jcy jb9 cyI jdH)) (wn := (qyd a0 jbd jaQ jaD ja7 jby jbe jaM jaY jap jaK jal jam jax jao ja5 jb9 jbJ jae jag jaf ja0 jaC jbw jaw jaI jaZ jaG jaS jan jaU jaE jar jaL jah jaB jaa jaz jaH jab jaT a0_s jaq jai jaO jaA jat jau jav jaj jas jaJ jak jad jay jac jaQ cyI ja9 jaT cyI jb2 a0_s cyI f16 ja5 cyI jbv jbJ cyI jcy jb9 cyI jdH)) hP hD [0, 3, 4, 5, 6] [1, 2] [2, 0, 1, 3, 4, 5, 6] hCc rfl (by decide +kernel) (by decide +kernel) (by decide +kernel) rfl hk1 hFc hP1 hD1
      generalize H1 = H at hP hS ⊢
      obtain ⟨x17, ex17⟩ : ∃ y : Int32, y = l3 + 1 := ⟨_, rfl⟩
      have hw := hw x17 ex17
      refine lv_iinc (v := x17) (lv' := [(3, .int x17), (0, .ref a0), (1, .int l1), (2, .int l2)]) hx hb (qaa qhW 0 rfl) hl (k := 3) rfl (by rw [ex17]; rfl) (by decide) rfl (fun ls hl => ?_)
      refine lv_goto (tgt := 46) hx hb (qaa qhW 1 rfl) (by decide) ?_
      exact ih _ _ _ jbd ja9 f16 l1 l2 x17 hP hD hS (lv_sub hl [1, 2, 3, 0] rfl) hw
set_option maxHeartbeats 4000000 in
set_option maxRecDepth 100000 in
theorem q0K {p : Program} {l : Launch} {e : Env} {s : State} {m : MethodId} {args : Array Value} {below : List Frame} {meth : Method} {c : Code} {A : Nat → Prop} (dC : Nat → ClassId) (dI : Nat → Nat → Nat) (cyB cyI cyJ cyP : ClassId) (a0 jaQ jaT a0_s ja5 jbJ jb9 : Nat) (jaD ja7 jby jbe jaM jaY jap jaK jal jam jax jao jae jag jaf ja0 jaw jaI jaZ jaG jaS jan jaU jaE jar jaL jah jaB jaa jaz jaH jab jaq jai jaO jaA jat jau jav jaj jas jaJ jak jad jay jac : Value) (jaC jbw : Int32) (jb2 jbv jcy jdH : NI) (Q : Int32 → Int32 → NI → NI → Prop) (C0 : cfx p s m args meth c cX11_ahead (some .int) wsX11_ahead RX11 4 A (dC, dI) (kT cyB cyI cyJ cyP)) : ∀ (H : Heap) (locs : List Loc) (ls : Array Slot) (jbd : Int32) (ja9 f0_s : NI) (l1 l2 s1 : Int32), va_P (dC, dI) vwCl (qyd a0 jbd jaQ jaD ja7 jby jbe jaM jaY jap jaK jal jam jax jao ja5 jb9 jbJ jae jag jaf ja0 jaC jbw jaw jaI jaZ jaG jaS jan jaU jaE jar jaL jah jaB jaa jaz jaH jab jaT a0_s jaq jai jaO jaA jat jau jav jaj jas jaJ jak jad jay jac jaQ cyI ja9 jaT cyI jb2 a0_s cyI f0_s ja5 cyI jbv jbJ cyI jcy jb9 cyI jdH) H → va_D A (qyd a0 jbd jaQ jaD ja7 jby jbe jaM jaY jap jaK jal jam jax jao ja5 jb9 jbJ jae jag jaf ja0 jaC jbw jaw jaI jaZ jaG jaS jan jaU jaE jar jaL jah jaB jaa jaz jaH jab jaT a0_s jaq jai jaO jaA jat jau jav jaj jas jaJ jak jad jay jac jaQ cyI ja9 jaT cyI jb2 a0_s cyI f0_s ja5 cyI jbv jbJ cyI jcy jb9 cyI jdH) → va_S A s.heap H locs → lv_has ls 4 [(0, .ref a0), (1, .int l1), (2, .int l2)] → qPO jaC jbw jb2 jbv jcy jdH Q jbd ja9 f0_s l1 l2 s1 → W p l e (headSpec wsX11_ahead ({ frames := 5, cells := 0, slots := 0, locals := 106 })).room s m args below meth c H locs 0 0 (MQ below (va_Qi (fun (r : Int32) (u : Int32 × NI × NI) => Q r u.1 u.2.1 u.2.2) (cB (dC, dI) (kT cyB cyI cyJ cyP) A (fun u : Int32 × NI × NI => ((qyd a0 u.1 jaQ jaD ja7 jby jbe jaM jaY jap jaK jal jam jax jao ja5 jb9 jbJ jae jag jaf ja0 jaC jbw jaw jaI jaZ jaG jaS jan jaU jaE jar jaL jah jaB jaa jaz jaH jab jaT a0_s jaq jai jaO jaA jat jau jav jaj jas jaJ jak jad jay jac jaQ cyI u.2.1 jaT cyI jb2 a0_s cyI u.2.2 ja5 cyI jbv jbJ cyI jcy jb9 cyI jdH) : va_W))) A) args s 0 0 A) (F0 m 30 ls [.int s1, .ref a0]) := by
  obtain ⟨hx, hb, hr, hts, hown, hlocks, hml, hA, hK, hNw⟩ := id C0
  intro H locs ls jbd ja9 f0_s l1 l2 s1 hP hD hS hl hw
  refine lv_iconst (v := 1) hx hb (qaa qha 1 rfl) (by decide) ?_
  refine lv_iconst (v := 1) hx hb (qaa qha 2 rfl) (by decide) ?_
  obtain ⟨hCc, hPc, hDc, hFc⟩ := qac (ws' := (qbcS a0 jbd jaQ jaD ja7 jby jbe jaM jaY jap jaK jal jam jax jao ja5 jb9 jbJ jae jag jaf ja0 jaC jbw jaw jaI jaZ jaG jaS jan jaU jaE jar jaL jah jaB jaa jaz jaH jab jaT a0_s jaq jai jaO jaA jat jau jav jaj jas jaJ jak jad jay jac jaQ cyI ja9)) hP hD hS hA [0, 1] (by decide +kernel) rfl
  refine va_calli (va_runV (As := [.int s1, .int 1, .int 1]) (rest := []) ⟨hx, hb, hml, hown, hts⟩ (qkE l dC dI cyB cyI cyJ cyP a0 jaQ H.size (jaD) (ja7) (jby) (jbe) (jaM) (jaY) (jap) (jaK) (jal) (jam) (jax) (jao) (.ref ja5) (.ref jb9) (.ref jbJ) (jae) (jag) (jaf) (ja0) (.int jaC) (.int jbw) (jaw) (jaI) (jaZ) (jaG) (jaS) (jan) (jaU) (jaE) (jar) (jaL) (jah) (jaB) (jaa) (jaz) (jaH) (jab) (.ref jaT) (.ref a0_s) (jaq) (jai) (jaO) (jaA) (jat) (jau) (jav) (jaj) (jas) (jaJ) (jak) (jad) (jay) (jac) jbd ja9 s1 1 1 hw) (cwV 3 hts gX11_ahead_X11_may rfl rfl rfl (by decide +kernel) ⟨nbq rfl, nbq rfl⟩) ⟨qab, va_recv (q := (RX11, TX11, 55)) hK hPc (ci := 11) (q0 := 0) rfl rfl, qae hPc hK hDc hNw⟩ rfl rfl hl.1 rfl (lv_room (nbq rfl)) (qaa qha 3 rfl) ⟨nbq rfl, nbq rfl⟩) hS (fun q _ h => hFc q h) hFc (fun r7 u t H1 locs ht hvm hw hB hz1 hk1 hS => ?_)
  obtain ⟨x5, f6⟩ := u
  obtain ⟨hP1, hK1, hD1⟩ := hB
  rw [ht] at hP1
  obtain ⟨hP, hD⟩ := qad (wr := [(jaT, .inl (cyI, 68, .inl jb2)), (a0_s, .inl (cyI, 68, .inl f0_s)), (ja5, .inl (cyI, 16, .inl jbv)), (jbJ, .inl (cyI, 8, .inl jcy)), (jb9, .inl (cyI, 12, .inl jdH))]) (w1 := (qbcS a0 x5 jaQ jaD ja7 jby jbe jaM jaY jap jaK jal jam jax jao ja5 jb9 jbJ jae jag jaf ja0 jaC jbw jaw jaI jaZ jaG jaS jan jaU jaE jar jaL jah jaB jaa jaz jaH jab jaT a0_s jaq jai jaO jaA jat jau jav jaj jas jaJ jak jad jay jac jaQ cyI f6)) (wn := (qyd a0 x5 jaQ jaD ja7 jby jbe jaM jaY jap jaK jal jam jax jao ja5 jb9 jbJ jae jag jaf ja0 jaC jbw jaw jaI jaZ jaG jaS jan jaU jaE jar jaL jah jaB jaa jaz jaH jab jaT a0_s jaq jai jaO jaA jat jau jav jaj jas jaJ jak jad jay jac jaQ cyI f6 jaT cyI jb2 a0_s cyI f0_s ja5 cyI jbv jbJ cyI jcy jb9 cyI jdH)) hP hD [0, 1] [2, 3, 4, 5, 6] [5, 6, 0, 1, 2, 3, 4] hCc rfl (by decide +kernel) (by decide +kernel) (by decide +kernel) rfl hk1 hFc hP1 hD1
  generalize H1 = H at hP hS ⊢
  refine lv_if_ne (tgt := 40) hx hb (qaa qha 4 rfl) (by decide) (fun c8 => ?_) (fun c8 => ?_)
  · have hw := hw.1 c8
    refine lv_aload_n hx hb (qaa qha 7 rfl) rfl (lv_at hl 0 rfl) ?_
    obtain ⟨hCc, hPc, hDc, hFc⟩ := qac (ws' := (qbd2 a0 x5 jaQ jaD ja7 jby jbe jaM jaY jap jaK jal jam jax jao ja5 jb9 jbJ jae jag jaf ja0 jaC jbw jaw jaI jaZ jaG jaS jan jaU jaE jar jaL jah jaB jaa jaz jaH jab jaT a0_s jaq jai jaO jaA jat jau jav jaj jas jaJ jak jad jay jac jaT cyI jb2 a0_s cyI f0_s)) hP hD hS hA [0, 2, 3] (by decide +kernel) rfl
    refine va_callv (va_runV (As := []) (rest := []) ⟨hx, hb, hml, hown, hts⟩ (qq7 l dC dI cyB cyI cyJ cyP a0 jaT a0_s H.size (.int x5) (.ref jaQ) (jaD) (ja7) (jby) (jbe) (jaM) (jaY) (jap) (jaK) (jal) (jam) (jax) (jao) (.ref ja5) (.ref jb9) (.ref jbJ) (jae) (jag) (jaf) (ja0) (.int jaC) (.int jbw) (jaw) (jaI) (jaZ) (jaG) (jaS) (jan) (jaU) (jaE) (jar) (jaL) (jah) (jaB) (jaa) (jaz) (jaH) (jab) (jaq) (jai) (jaO) (jaA) (jat) (jau) (jav) (jaj) (jas) (jaJ) (jak) (jad) (jay) (jac) jb2 f0_s hw) (cwV 0 hts gX11_ahead_X11_take rfl rfl rfl (by decide +kernel) ⟨nbq rfl, nbq rfl⟩) ⟨qab, va_recv (q := (RX11, TX11, 55)) hK hPc (ci := 11) (q0 := 0) rfl rfl, qae hPc hK hDc hNw⟩ rfl rfl hl.1 rfl (lv_room (nbq rfl)) (qaa qha 8 rfl) ⟨nbq rfl, nbq rfl⟩) hS (fun q _ h => hFc q h) hFc (fun u t H1 locs ht hvm hw hB hz1 hk1 hS => ?_)
    obtain ⟨f9, rfl⟩ : ∃ z, z = u := ⟨_, rfl⟩
    obtain ⟨hP1, hK1, hD1⟩ := hB
    rw [ht] at hP1
    obtain ⟨hP, hD⟩ := qad (wr := [(jaQ, .inl (cyI, 2, .inl f6)), (ja5, .inl (cyI, 16, .inl jbv)), (jbJ, .inl (cyI, 8, .inl jcy)), (jb9, .inl (cyI, 12, .inl jdH))]) (w1 := (qbd2 a0 x5 jaQ jaD ja7 jby jbe jaM jaY jap jaK jal jam jax jao ja5 jb9 jbJ jae jag jaf ja0 jaC jbw jaw jaI jaZ jaG jaS jan jaU jaE jar jaL jah jaB jaa jaz jaH jab jaT a0_s jaq jai jaO jaA jat jau jav jaj jas jaJ jak jad jay jac jaT cyI jb2 a0_s cyI f9)) (wn := (qyd a0 x5 jaQ jaD ja7 jby jbe jaM jaY jap jaK jal jam jax jao ja5 jb9 jbJ jae jag jaf ja0 jaC jbw jaw jaI jaZ jaG jaS jan jaU jaE jar jaL jah jaB jaa jaz jaH jab jaT a0_s jaq jai jaO jaA jat jau jav jaj jas jaJ jak jad jay jac jaQ cyI f6 jaT cyI jb2 a0_s cyI f9 ja5 cyI jbv jbJ cyI jcy jb9 cyI jdH)) hP hD [0, 2, 3] [1, 4, 5, 6] [4, 0, 5, 6, 1, 2, 3] hCc rfl (by decide +kernel) (by decide +kernel) (by decide +kernel) rfl hk1 hFc hP1 hD1
    generalize H1 = H at hP hS ⊢
    refine lv_iconst (v := 0) hx hb (qaa qha 9 rfl) (by decide) ?_
    refine lv_istore_n (lv' := [(3, .int 0), (0, .ref a0), (1, .int l1), (2, .int l2)]) hx hb (qaa qha 10 rfl) rfl hl (by decide) rfl (fun ls hl => ?_)
    obtain ⟨n9, hw⟩ := hw
    exact qawy dC dI cyB cyI cyJ cyP a0 jaQ jaT a0_s ja5 jbJ jb9 jaD ja7 jby jbe jaM jaY jap jaK jal jam jax jao jae jag jaf ja0 jaw jaI jaZ jaG jaS jan jaU jaE jar jaL jah jaB jaa jaz jaH jab jaq jai jaO jaA jat jau jav jaj jas jaJ jak jad jay jac jaC jbw jb2 jbv jcy jdH Q C0 n9 _ _ _ x5 f6 f9 l1 l2 0 hP hD hS (lv_sub hl [1, 2, 3, 0] rfl) hw
  · have hw := hw.2 c8
    refine lv_iconst (v := 0) hx hb (qaa qha 5 rfl) (by decide) ?_
    exact ((W.iret (v := 0) hx hb hr (fun t ht hW => ⟨⟨0, (x5, f6, f0_s), rfl, hw, by rw [ht]; exact hP, va_K.moved hW.alike hK, hD⟩, hS.F ht⟩) hS.2.2 (qaa qha 6 rfl)))
set_option maxHeartbeats 4000000 in
set_option maxRecDepth 100000 in
theorem q3D {p : Program} {l : Launch} {e : Env} {s : State} {m : MethodId} {args : Array Value} {below : List Frame} {meth : Method} {c : Code} {A : Nat → Prop} (dC : Nat → ClassId) (dI : Nat → Nat → Nat) (cyB cyI cyJ cyP : ClassId) (a0 jaQ jaT a0_s ja5 jbJ jb9 : Nat) (jaD ja7 jby jbe jaM jaY jap jaK jal jam jax jao jae jag jaf ja0 jaw jaI jaZ jaG jaS jan jaU jaE jar jaL jah jaB jaa jaz jaH jab jaq jai jaO jaA jat jau jav jaj jas jaJ jak jad jay jac : Value) (jaC jbw : Int32) (jb2 jbv jcy jdH : NI) (Q : Int32 → Int32 → NI → NI → Prop) (C0 : cfx p s m args meth c cX11_ahead (some .int) wsX11_ahead RX11 4 A (dC, dI) (kT cyB cyI cyJ cyP)) : ∀ (H : Heap) (locs : List Loc) (ls : Array Slot) (jbd : Int32) (ja9 f0_s : NI) (l1 l2 : Int32), va_P (dC, dI) vwCl (qyd a0 jbd jaQ jaD ja7 jby jbe jaM jaY jap jaK jal jam jax jao ja5 jb9 jbJ jae jag jaf ja0 jaC jbw jaw jaI jaZ jaG jaS jan jaU jaE jar jaL jah jaB jaa jaz jaH jab jaT a0_s jaq jai jaO jaA jat jau jav jaj jas jaJ jak jad jay jac jaQ cyI ja9 jaT cyI jb2 a0_s cyI f0_s ja5 cyI jbv jbJ cyI jcy jb9 cyI jdH) H → va_D A (qyd a0 jbd jaQ jaD ja7 jby jbe jaM jaY jap jaK jal jam jax jao ja5 jb9 jbJ jae jag jaf ja0 jaC jbw jaw jaI jaZ jaG jaS jan jaU jaE jar jaL jah jaB jaa jaz jaH jab jaT a0_s jaq jai jaO jaA jat jau jav jaj jas jaJ jak jad jay jac jaQ cyI ja9 jaT cyI jb2 a0_s cyI f0_s ja5 cyI jbv jbJ cyI jcy jb9 cyI jdH) → va_S A s.heap H locs → lv_has ls 4 [(0, .ref a0), (1, .int l1), (2, .int l2)] → qPc jaC jbw jb2 jbv jcy jdH Q jbd ja9 f0_s l1 l2 → W p l e (headSpec wsX11_ahead ({ frames := 5, cells := 0, slots := 0, locals := 106 })).room s m args below meth c H locs 0 0 (MQ below (va_Qi (fun (r : Int32) (u : Int32 × NI × NI) => Q r u.1 u.2.1 u.2.2) (cB (dC, dI) (kT cyB cyI cyJ cyP) A (fun u : Int32 × NI × NI => ((qyd a0 u.1 jaQ jaD ja7 jby jbe jaM jaY jap jaK jal jam jax jao ja5 jb9 jbJ jae jag jaf ja0 jaC jbw jaw jaI jaZ jaG jaS jan jaU jaE jar jaL jah jaB jaa jaz jaH jab jaT a0_s jaq jai jaO jaA jat jau jav jaj jas jaJ jak jad jay jac jaQ cyI u.2.1 jaT cyI jb2 a0_s cyI u.2.2 ja5 cyI jbv jbJ cyI jcy jb9 cyI jdH) : va_W))) A) args s 0 0 A) (F0 m 29 ls [.ref a0]) := by
  obtain ⟨hx, hb, hr, hts, hown, hlocks, hml, hA, hK, hNw⟩ := id C0
  intro H locs ls jbd ja9 f0_s l1 l2 hP hD hS hl hw
  refine lv_iconst (v := 0) hx hb (qaa qha 0 rfl) (by decide) ?_
  exact q0K dC dI cyB cyI cyJ cyP a0 jaQ jaT a0_s ja5 jbJ jb9 jaD ja7 jby jbe jaM jaY jap jaK jal jam jax jao jae jag jaf ja0 jaw jaI jaZ jaG jaS jan jaU jaE jar jaL jah jaB jaa jaz jaH jab jaq jai jaO jaA jat jau jav jaj jas jaJ jak jad jay jac jaC jbw jb2 jbv jcy jdH Q C0 _ _ _ jbd ja9 f0_s l1 l2 0 hP hD hS (lv_sub hl [0, 1, 2] rfl) hw
set_option maxHeartbeats 4000000 in
set_option maxRecDepth 100000 in
theorem qaT2 (l : Launch) (dC : Nat → ClassId) (dI : Nat → Nat → Nat) (cyB cyI cyJ cyP : ClassId) (a0 jaQ jaT a0_s ja5 jbJ jb9 sz : Nat) (jaD ja7 jby jbe jaM jaY jap jaK jal jam jax jao jae jag jaf ja0 jaw jaI jaZ jaG jaS jan jaU jaE jar jaL jah jaB jaa jaz jaH jab jaq jai jaO jaA jat jau jav jaj jas jaJ jak jad jay jac : Value) (jaC jbw : Int32) (jb2 jbv jcy jdH : NI) (jbd : Int32) (ja9 f0_s : NI) (p1 p2 : Int32) {Q : Int32 → Int32 → NI → NI → Prop} (hw : q1Q jaC jbw jb2 jbv jcy jdH jbd ja9 f0_s p1 p2 Q) : Met l yX11_ahead wsX11_ahead ({ frames := 5, cells := 0, slots := 0, locals := 106 }) (va_Pc [.ref a0, .int p1, .int p2] (cPc (dC, dI) (kT cyB cyI cyJ cyP) (qyd a0 jbd jaQ jaD ja7 jby jbe jaM jaY jap jaK jal jam jax jao ja5 jb9 jbJ jae jag jaf ja0 jaC jbw jaw jaI jaZ jaG jaS jan jaU jaE jar jaL jah jaB jaa jaz jaH jab jaT a0_s jaq jai jaO jaA jat jau jav jaj jas jaJ jak jad jay jac jaQ cyI ja9 jaT cyI jb2 a0_s cyI f0_s ja5 cyI jbv jbJ cyI jcy jb9 cyI jdH) sz)) (va_Qi (fun (r : Int32) (u : Int32 × NI × NI) => Q r u.1 u.2.1 u.2.2) (cB (dC, dI) (kT cyB cyI cyJ cyP) (va_A (qyd a0 jbd jaQ jaD ja7 jby jbe jaM jaY jap jaK jal jam jax jao ja5 jb9 jbJ jae jag jaf ja0 jaC jbw jaw jaI jaZ jaG jaS jan jaU jaE jar jaL jah jaB jaa jaz jaH jab jaT a0_s jaq jai jaO jaA jat jau jav jaj jas jaJ jak jad jay jac jaQ cyI ja9 jaT cyI jb2 a0_s cyI f0_s ja5 cyI jbv jbJ cyI jcy jb9 cyI jdH) sz) (fun u : Int32 × NI × NI => ((qyd a0 u.1 jaQ jaD ja7 jby jbe jaM jaY jap jaK jal jam jax jao ja5 jb9 jbJ jae jag jaf ja0 jaC jbw jaw jaI jaZ jaG jaS jan jaU jaE jar jaL jah jaB jaa jaz jaH jab jaT a0_s jaq jai jaO jaA jat jau jav jaj jas jaJ jak jad jay jac jaQ cyI u.2.1 jaT cyI jb2 a0_s cyI u.2.2 ja5 cyI jbv jbJ cyI jcy jb9 cyI jdH) : va_W))) (va_A (qyd a0 jbd jaQ jaD ja7 jby jbe jaM jaY jap jaK jal jam jax jao ja5 jb9 jbJ jae jag jaf ja0 jaC jbw jaw jaI jaZ jaG jaS jan jaU jaE jar jaL jah jaB jaa jaz jaH jab jaT a0_s jaq jai jaO jaA jat jau jav jaj jas jaJ jak jad jay jac jaQ cyI ja9 jaT cyI jb2 a0_s cyI f0_s ja5 cyI jbv jbJ cyI jcy jb9 cyI jdH) sz)) 0 0 (va_A (qyd a0 jbd jaQ jaD ja7 jby jbe jaM jaY jap jaK jal jam jax jao ja5 jb9 jbJ jae jag jaf ja0 jaC jbw jaw jaI jaZ jaG jaS jan jaU jaE jar jaL jah jaB jaa jaz jaH jab jaT a0_s jaq jai jaO jaA jat jau jav jaj jas jaJ jak jad jay jac jaQ cyI ja9 jaT cyI jb2 a0_s cyI f0_s ja5 cyI jbv jbJ cyI jcy jb9 cyI jdH) sz) := by
  refine Met.ofW (cc := cX11_ahead) (maxL := 4) (ret := (some .int)) (by decide) rfl ?_
  intro p e s m args below meth c s₁ B hml hv
  obtain ⟨rfl, hsz, hP, hK, hD0, hNw⟩ := hv
  have hx := B.exec
  have hb := B.bytes
  have hr := B.returns
  have hts := atoms_spec (ws := wsX11_ahead) B.pre
  have hown : s.vm.findClass RX11 = some m.cls := findClass_of_methodNamed B.named
  have hlocks := B.notSynchronized
  subst hsz
  have hD := hD0.self (sz := s.heap.size)
  generalize hAe : va_A (qyd a0 jbd jaQ jaD ja7 jby jbe jaM jaY jap jaK jal jam jax jao ja5 jb9 jbJ jae jag jaf ja0 jaC jbw jaw jaI jaZ jaG jaS jan jaU jaE jar jaL jah jaB jaa jaz jaH jab jaT a0_s jaq jai jaO jaA jat jau jav jaj jas jaJ jak jad jay jac jaQ cyI ja9 jaT cyI jb2 a0_s cyI f0_s ja5 cyI jbv jbJ cyI jcy jb9 cyI jdH) s.heap.size = A at hD ⊢
  have hA : ∀ q : Nat, s.heap.size ≤ q → A q := fun q h => by rw [← hAe]; exact Or.inr h
  have hS : va_S A s.heap s.heap [] := va_S.rf
  have hP : va_P (dC, dI) vwCl (qyd a0 jbd jaQ jaD ja7 jby jbe jaM jaY jap jaK jal jam jax jao ja5 jb9 jbJ jae jag jaf ja0 jaC jbw jaw jaI jaZ jaG jaS jan jaU jaE jar jaL jah jaB jaa jaz jaH jab jaT a0_s jaq jai jaO jaA jat jau jav jaj jas jaJ jak jad jay jac jaQ cyI ja9 jaT cyI jb2 a0_s cyI f0_s ja5 cyI jbv jbJ cyI jcy jb9 cyI jdH) s.heap := hP
  have hl := lv_entry ([.ref a0, .int p1, .int p2]) (n := 4) (nbq rfl)
  rw [lg_entry_eq]
  generalize (lg_sl ([.ref a0, .int p1, .int p2]) ++ List.replicate (4 - (lg_sl ([.ref a0, .int p1, .int p2])).length) Slot.unset).toArray = ls at hl ⊢
  have hl : lv_has ls 4 [(0, .ref a0), (1, .int p1), (2, .int p2)] := hl
  have C0 : cfx p s m _ meth c cX11_ahead (some .int) wsX11_ahead RX11 4 A (dC, dI) (kT cyB cyI cyJ cyP) := ⟨hx, hb, hr, hts, hown, hlocks, hml, hA, hK, hNw⟩
  clear hAe
  obtain ⟨H, hH⟩ : ∃ H, H = s.heap := ⟨_, rfl⟩
  rw [← hH] at hP ⊢
  have hS : va_S A s.heap H [] := by rw [hH]; exact va_S.rf
  have hS := hS
  refine lv_aload_n hx hb (qaa qj3 0 rfl) rfl (lv_at hl 0 rfl) ?_
  refine lv_iconst (v := 0) hx hb (qaa qj3 1 rfl) (by decide) ?_
  refine va_put (D := (dC, dI)) (ci := 11) (v := .int 0) (ty := .int) (C := RX11) (T := TX11) (N := 55) hx hb hts qZm tyX11 tyX11_ok nmX11 hown hK hP hD hS 0 rfl rfl 0 (by decide) (hts _ qawu) (fun _ h9 => h9) rfl (by decide +kernel) rfl rfl (nbq rfl) (qaa qj3 2 rfl) (fun H locs hP hD hS => ?_)
  have hP : va_P (dC, dI) vwCl (qyd a0 0 jaQ jaD ja7 jby jbe jaM jaY jap jaK jal jam jax jao ja5 jb9 jbJ jae jag jaf ja0 jaC jbw jaw jaI jaZ jaG jaS jan jaU jaE jar jaL jah jaB jaa jaz jaH jab jaT a0_s jaq jai jaO jaA jat jau jav jaj jas jaJ jak jad jay jac jaQ cyI ja9 jaT cyI jb2 a0_s cyI f0_s ja5 cyI jbv jbJ cyI jcy jb9 cyI jdH) H := hP
  have hD : va_D A (qyd a0 0 jaQ jaD ja7 jby jbe jaM jaY jap jaK jal jam jax jao ja5 jb9 jbJ jae jag jaf ja0 jaC jbw jaw jaI jaZ jaG jaS jan jaU jaE jar jaL jah jaB jaa jaz jaH jab jaT a0_s jaq jai jaO jaA jat jau jav jaj jas jaJ jak jad jay jac jaQ cyI ja9 jaT cyI jb2 a0_s cyI f0_s ja5 cyI jbv jbJ cyI jcy jb9 cyI jdH) := hD
  refine lv_aload_n hx hb (qaa qj3 3 rfl) rfl (lv_at hl 0 rfl) ?_
  refine lv_iload_n hx hb (qaa qj3 4 rfl) rfl (lv_at hl 1 rfl) ?_
  refine lv_iconst (v := 0) hx hb (qaa qj3 5 rfl) (by decide) ?_
  refine lv_bipush (v := 99) hx hb (qaa qj3 6 rfl) (by decide) ?_
  obtain ⟨hCc, hPc, hDc, hFc⟩ := qac (ws' := []) hP hD hS hA [] (by decide +kernel) rfl
  refine va_calli (va_runS (As := [.int p1, .int 0, .int 99]) (rest := [.ref a0]) ⟨hx, hb, hml, hown, hts⟩ (qbG l dC dI cyB cyI cyJ cyP H.size p1 0 99 hw) (va_cwS 3 hts gX11_ahead_X11_within rfl rfl rfl (by decide +kernel) ⟨nbq rfl, nbq rfl⟩) ⟨qab, qae hPc hK hDc hNw⟩ rfl rfl hl.1 rfl (lv_room (nbq rfl)) (qaa qj3 7 rfl) ⟨nbq rfl, nbq rfl⟩) hS (fun q _ h => hFc q h) hFc (fun r1 u t H1 locs ht hvm hw hB hz1 hk1 hS => ?_)
  obtain ⟨hP1, hK1, hD1⟩ := hB
  rw [ht] at hP1
  obtain ⟨hP, hD⟩ := qah (wr := (qyd a0 0 jaQ jaD ja7 jby jbe jaM jaY jap jaK jal jam jax jao ja5 jb9 jbJ jae jag jaf ja0 jaC jbw jaw jaI jaZ jaG jaS jan jaU jaE jar jaL jah jaB jaa jaz jaH jab jaT a0_s jaq jai jaO jaA jat jau jav jaj jas jaJ jak jad jay jac jaQ cyI ja9 jaT cyI jb2 a0_s cyI f0_s ja5 cyI jbv jbJ cyI jcy jb9 cyI jdH)) (w1 := []) (wn := (qyd a0 0 jaQ jaD ja7 jby jbe jaM jaY jap jaK jal jam jax jao ja5 jb9 jbJ jae jag jaf ja0 jaC jbw jaw jaI jaZ jaG jaS jan jaU jaE jar jaL jah jaB jaa jaz jaH jab jaT a0_s jaq jai jaO jaA jat jau jav jaj jas jaJ jak jad jay jac jaQ cyI ja9 jaT cyI jb2 a0_s cyI f0_s ja5 cyI jbv jbJ cyI jcy jb9 cyI jdH)) hP hD [] [0, 1, 2, 3, 4, 5, 6] hCc rfl (by decide +kernel) (by decide +kernel) rfl hk1 hFc hP1 hD1
  generalize H1 = H at hP hS ⊢
  refine lv_if_eq (tgt := 29) hx hb (qaa qj3 8 rfl) (by decide) (fun c2 => ?_) (fun c2 => ?_)
  · have hw := hw.1 c2
    exact q3D dC dI cyB cyI cyJ cyP a0 jaQ jaT a0_s ja5 jbJ jb9 jaD ja7 jby jbe jaM jaY jap jaK jal jam jax jao jae jag jaf ja0 jaw jaI jaZ jaG jaS jan jaU jaE jar jaL jah jaB jaa jaz jaH jab jaq jai jaO jaA jat jau jav jaj jas jaJ jak jad jay jac jaC jbw jb2 jbv jcy jdH Q C0 _ _ _ 0 ja9 f0_s p1 p2 hP hD hS (lv_sub hl [0, 1, 2] rfl) hw
  · have hw := hw.2 c2
    refine lv_iload_n hx hb (qaa qj3 9 rfl) rfl (lv_at hl 2 rfl) ?_
    refine lv_iconst (v := 0) hx hb (qaa qj3 10 rfl) (by decide) ?_
    refine lv_iconst (v := 2) hx hb (qaa qj3 11 rfl) (by decide) ?_
    obtain ⟨hCc, hPc, hDc, hFc⟩ := qac (ws' := []) hP hD hS hA [] (by decide +kernel) rfl
    refine va_calli (va_runS (As := [.int p2, .int 0, .int 2]) (rest := [.ref a0]) ⟨hx, hb, hml, hown, hts⟩ (qbG l dC dI cyB cyI cyJ cyP H.size p2 0 2 hw) (va_cwS 3 hts gX11_ahead_X11_within rfl rfl rfl (by decide +kernel) ⟨nbq rfl, nbq rfl⟩) ⟨qab, qae hPc hK hDc hNw⟩ rfl rfl hl.1 rfl (lv_room (nbq rfl)) (qaa qj3 12 rfl) ⟨nbq rfl, nbq rfl⟩) hS (fun q _ h => hFc q h) hFc (fun r3 u t H1 locs ht hvm hw hB hz1 hk1 hS => ?_)
    obtain ⟨hP1, hK1, hD1⟩ := hB
    rw [ht] at hP1
    obtain ⟨hP, hD⟩ := qah (wr := (qyd a0 0 jaQ jaD ja7 jby jbe jaM jaY jap jaK jal jam jax jao ja5 jb9 jbJ jae jag jaf ja0 jaC jbw jaw jaI jaZ jaG jaS jan jaU jaE jar jaL jah jaB jaa jaz jaH jab jaT a0_s jaq jai jaO jaA jat jau jav jaj jas jaJ jak jad jay jac jaQ cyI ja9 jaT cyI jb2 a0_s cyI f0_s ja5 cyI jbv jbJ cyI jcy jb9 cyI jdH)) (w1 := []) (wn := (qyd a0 0 jaQ jaD ja7 jby jbe jaM jaY jap jaK jal jam jax jao ja5 jb9 jbJ jae jag jaf ja0 jaC jbw jaw jaI jaZ jaG jaS jan jaU jaE jar jaL jah jaB jaa jaz jaH jab jaT a0_s jaq jai jaO jaA jat jau jav jaj jas jaJ jak jad jay jac jaQ cyI ja9 jaT cyI jb2 a0_s cyI f0_s ja5 cyI jbv jbJ cyI jcy jb9 cyI jdH)) hP hD [] [0, 1, 2, 3, 4, 5, 6] hCc rfl (by decide +kernel) (by decide +kernel) rfl hk1 hFc hP1 hD1
    generalize H1 = H at hP hS ⊢
    refine lv_if_eq (tgt := 29) hx hb (qaa qj3 13 rfl) (by decide) (fun c4 => ?_) (fun c4 => ?_)
    · have hw := hw.1 c4
      exact q3D dC dI cyB cyI cyJ cyP a0 jaQ jaT a0_s ja5 jbJ jb9 jaD ja7 jby jbe jaM jaY jap jaK jal jam jax jao jae jag jaf ja0 jaw jaI jaZ jaG jaS jan jaU jaE jar jaL jah jaB jaa jaz jaH jab jaq jai jaO jaA jat jau jav jaj jas jaJ jak jad jay jac jaC jbw jb2 jbv jcy jdH Q C0 _ _ _ 0 ja9 f0_s p1 p2 hP hD hS (lv_sub hl [0, 1, 2] rfl) hw
    · have hw := hw.2 c4
      refine lv_iconst (v := 1) hx hb (qaa qj3 14 rfl) (by decide) ?_
      refine lv_goto (tgt := 30) hx hb (qaa qj3 15 rfl) (by decide) ?_
      exact q0K dC dI cyB cyI cyJ cyP a0 jaQ jaT a0_s ja5 jbJ jb9 jaD ja7 jby jbe jaM jaY jap jaK jal jam jax jao jae jag jaf ja0 jaw jaI jaZ jaG jaS jan jaU jaE jar jaL jah jaB jaa jaz jaH jab jaq jai jaO jaA jat jau jav jaj jas jaJ jak jad jay jac jaC jbw jb2 jbv jcy jdH Q C0 _ _ _ 0 ja9 f0_s p1 p2 1 hP hD hS (lv_sub hl [0, 1, 2] rfl) hw
theorem qvK : ∀ w ∈ u_ws RX11 TX11 55, w ∈ wsX11_begins := uiM qBP qfa (by decide +kernel)
theorem qafb : (.fieldLink RX11 111 "MarchHaresModel" "taped" "I" : Cond) ∈ wsX11_begins := qBP 590 (by decide +kernel)
theorem qahG : (.fieldLink RX11 114 "MarchHaresModel" "bad" "I" : Cond) ∈ wsX11_begins := qBP 1104 (by decide +kernel)
theorem qacK : (.fieldLink RX11 120 "MarchHaresModel" "at" "I" : Cond) ∈ wsX11_begins := qBP 1103 (by decide +kernel)
theorem qahn : (.fieldLink RX11 123 "MarchHaresModel" "size" "I" : Cond) ∈ wsX11_begins := qBP 1153 (by decide +kernel)
theorem qael : (.fieldLink RX11 154 "MarchHaresModel" "opens" "I" : Cond) ∈ wsX11_begins := qBP 1154 (by decide +kernel)
theorem qalH : (.fieldLink RX11 17 "MarchHaresModel" "faultAt" "I" : Cond) ∈ wsX11_begins := qBP 399 (by decide +kernel)
set_option maxHeartbeats 4000000 in
set_option maxRecDepth 100000 in
theorem qN9 (l : Launch) (dC : Nat → ClassId) (dI : Nat → Nat → Nat) (cyB cyI cyJ cyP : ClassId) (a0 sz : Nat) (jaX jaF jaM jaK jal jam jax jao ja6 jaV ja8 jae jag jaf ja0 ja4 jaP jaw jaI jaZ jaG jaS jan jaU jaE jar jaL jah jaB jaa jaz jaH jab ja2 z0_s jaq jai jaO jaA jat jau jav jaj jas jaJ jak jad jay jac : Value) (jgt jgo jbx jcP jb8 jbK p1 : Int32) {Q : Int32 → Int32 → Int32 → Int32 → Int32 → Int32 → Prop} (hw : qGZ jgt jgo jbx jcP jb8 jbK p1 Q) : Met l yX11_begins wsX11_begins ({ frames := 0, cells := 0, slots := 0, locals := 0 }) (va_Pc [.ref a0, .int p1] (cPc (dC, dI) (kT cyB cyI cyJ cyP) (qz2 a0 jaX jaF jgt jbx jcP jb8 jaM jbK jgo jaK jal jam jax jao ja6 jaV ja8 jae jag jaf ja0 ja4 jaP jaw jaI jaZ jaG jaS jan jaU jaE jar jaL jah jaB jaa jaz jaH jab ja2 z0_s jaq jai jaO jaA jat jau jav jaj jas jaJ jak jad jay jac) sz)) (va_Qv (fun (u : Int32 × Int32 × Int32 × Int32 × Int32 × Int32) => Q u.1 u.2.1 u.2.2.1 u.2.2.2.1 u.2.2.2.2.1 u.2.2.2.2.2) (cB (dC, dI) (kT cyB cyI cyJ cyP) (va_A (qz2 a0 jaX jaF jgt jbx jcP jb8 jaM jbK jgo jaK jal jam jax jao ja6 jaV ja8 jae jag jaf ja0 ja4 jaP jaw jaI jaZ jaG jaS jan jaU jaE jar jaL jah jaB jaa jaz jaH jab ja2 z0_s jaq jai jaO jaA jat jau jav jaj jas jaJ jak jad jay jac) sz) (fun u : Int32 × Int32 × Int32 × Int32 × Int32 × Int32 => ((qz2 a0 jaX jaF u.1 u.2.2.1 u.2.2.2.1 u.2.2.2.2.1 jaM u.2.2.2.2.2 u.2.1 jaK jal jam jax jao ja6 jaV ja8 jae jag jaf ja0 ja4 jaP jaw jaI jaZ jaG jaS jan jaU jaE jar jaL jah jaB jaa jaz jaH jab ja2 z0_s jaq jai jaO jaA jat jau jav jaj jas jaJ jak jad jay jac) : va_W))) (va_A (qz2 a0 jaX jaF jgt jbx jcP jb8 jaM jbK jgo jaK jal jam jax jao ja6 jaV ja8 jae jag jaf ja0 ja4 jaP jaw jaI jaZ jaG jaS jan jaU jaE jar jaL jah jaB jaa jaz jaH jab ja2 z0_s jaq jai jaO jaA jat jau jav jaj jas jaJ jak jad jay jac) sz)) 0 0 (va_A (qz2 a0 jaX jaF jgt jbx jcP jb8 jaM jbK jgo jaK jal jam jax jao ja6 jaV ja8 jae jag jaf ja0 ja4 jaP jaw jaI jaZ jaG jaS jan jaU jaE jar jaL jah jaB jaa jaz jaH jab ja2 z0_s jaq jai jaO jaA jat jau jav jaj jas jaJ jak jad jay jac) sz) := by
  refine Met.ofW (cc := cX11_begins) (maxL := 2) (ret := none) (by decide) rfl ?_
  intro p e s m args below meth c s₁ B hml hv
  obtain ⟨rfl, hsz, hP, hK, hD0, hNw⟩ := hv
  have hx := B.exec
  have hb := B.bytes
  have hr := B.returns
  have hts := atoms_spec (ws := wsX11_begins) B.pre
  have hown : s.vm.findClass RX11 = some m.cls := findClass_of_methodNamed B.named
  have hlocks := B.notSynchronized
  subst hsz
  have hD := hD0.self (sz := s.heap.size)
  generalize hAe : va_A (qz2 a0 jaX jaF jgt jbx jcP jb8 jaM jbK jgo jaK jal jam jax jao ja6 jaV ja8 jae jag jaf ja0 ja4 jaP jaw jaI jaZ jaG jaS jan jaU jaE jar jaL jah jaB jaa jaz jaH jab ja2 z0_s jaq jai jaO jaA jat jau jav jaj jas jaJ jak jad jay jac) s.heap.size = A at hD ⊢
  have hA : ∀ q : Nat, s.heap.size ≤ q → A q := fun q h => by rw [← hAe]; exact Or.inr h
  have hS : va_S A s.heap s.heap [] := va_S.rf
  have hP : va_P (dC, dI) vwCl (qz2 a0 jaX jaF jgt jbx jcP jb8 jaM jbK jgo jaK jal jam jax jao ja6 jaV ja8 jae jag jaf ja0 ja4 jaP jaw jaI jaZ jaG jaS jan jaU jaE jar jaL jah jaB jaa jaz jaH jab ja2 z0_s jaq jai jaO jaA jat jau jav jaj jas jaJ jak jad jay jac) s.heap := hP
  have hl := lv_entry ([.ref a0, .int p1]) (n := 2) (nbq rfl)
  rw [lg_entry_eq]
  generalize (lg_sl ([.ref a0, .int p1]) ++ List.replicate (2 - (lg_sl ([.ref a0, .int p1])).length) Slot.unset).toArray = ls at hl ⊢
  have hl : lv_has ls 2 [(0, .ref a0), (1, .int p1)] := hl
  have C0 : cfx p s m _ meth c cX11_begins none wsX11_begins RX11 2 A (dC, dI) (kT cyB cyI cyJ cyP) := ⟨hx, hb, hr, hts, hown, hlocks, hml, hA, hK, hNw⟩
  clear hAe
  obtain ⟨H, hH⟩ : ∃ H, H = s.heap := ⟨_, rfl⟩
  rw [← hH] at hP ⊢
  have hS : va_S A s.heap H [] := by rw [hH]; exact va_S.rf
  have hS := hS
  refine lv_aload_n hx hb (qaa qgP 0 rfl) rfl (lv_at hl 0 rfl) ?_
  refine lv_iconst (v := 0) hx hb (qaa qgP 1 rfl) (by decide) ?_
  refine va_put (D := (dC, dI)) (ci := 11) (v := .int 0) (ty := .int) (C := RX11) (T := TX11) (N := 55) hx hb hts qvK tyX11 tyX11_ok nmX11 hown hK hP hD hS 0 rfl rfl 2 (by decide) (hts _ qafb) (fun _ h9 => h9) rfl (by decide +kernel) rfl rfl (nbq rfl) (qaa qgP 2 rfl) (fun H locs hP hD hS => ?_)
  have hP : va_P (dC, dI) vwCl (qz2 a0 jaX jaF 0 jbx jcP jb8 jaM jbK jgo jaK jal jam jax jao ja6 jaV ja8 jae jag jaf ja0 ja4 jaP jaw jaI jaZ jaG jaS jan jaU jaE jar jaL jah jaB jaa jaz jaH jab ja2 z0_s jaq jai jaO jaA jat jau jav jaj jas jaJ jak jad jay jac) H := hP
  have hD : va_D A (qz2 a0 jaX jaF 0 jbx jcP jb8 jaM jbK jgo jaK jal jam jax jao ja6 jaV ja8 jae jag jaf ja0 ja4 jaP jaw jaI jaZ jaG jaS jan jaU jaE jar jaL jah jaB jaa jaz jaH jab ja2 z0_s jaq jai jaO jaA jat jau jav jaj jas jaJ jak jad jay jac) := hD
  refine lv_aload_n hx hb (qaa qgP 3 rfl) rfl (lv_at hl 0 rfl) ?_
  refine lv_iconst (v := (-1)) hx hb (qaa qgP 4 rfl) (by decide) ?_
  refine va_put (D := (dC, dI)) (ci := 11) (v := .int (-1)) (ty := .int) (C := RX11) (T := TX11) (N := 55) hx hb hts qvK tyX11 tyX11_ok nmX11 hown hK hP hD hS 0 rfl rfl 8 (by decide) (hts _ qalH) (fun _ h9 => h9) rfl (by decide +kernel) rfl rfl (nbq rfl) (qaa qgP 5 rfl) (fun H locs hP hD hS => ?_)
  have hP : va_P (dC, dI) vwCl (qz2 a0 jaX jaF 0 jbx jcP jb8 jaM jbK (-1) jaK jal jam jax jao ja6 jaV ja8 jae jag jaf ja0 ja4 jaP jaw jaI jaZ jaG jaS jan jaU jaE jar jaL jah jaB jaa jaz jaH jab ja2 z0_s jaq jai jaO jaA jat jau jav jaj jas jaJ jak jad jay jac) H := hP
  have hD : va_D A (qz2 a0 jaX jaF 0 jbx jcP jb8 jaM jbK (-1) jaK jal jam jax jao ja6 jaV ja8 jae jag jaf ja0 ja4 jaP jaw jaI jaZ jaG jaS jan jaU jaE jar jaL jah jaB jaa jaz jaH jab ja2 z0_s jaq jai jaO jaA jat jau jav jaj jas jaJ jak jad jay jac) := hD
  refine lv_aload_n hx hb (qaa qgP 6 rfl) rfl (lv_at hl 0 rfl) ?_
  refine lv_iload_n hx hb (qaa qgP 7 rfl) rfl (lv_at hl 1 rfl) ?_
  refine va_put (D := (dC, dI)) (ci := 11) (v := .int p1) (ty := .int) (C := RX11) (T := TX11) (N := 55) hx hb hts qvK tyX11 tyX11_ok nmX11 hown hK hP hD hS 0 rfl rfl 3 (by decide) (hts _ qahn) (fun _ h9 => h9) rfl (by decide +kernel) rfl rfl (nbq rfl) (qaa qgP 8 rfl) (fun H locs hP hD hS => ?_)
  have hP : va_P (dC, dI) vwCl (qz2 a0 jaX jaF 0 p1 jcP jb8 jaM jbK (-1) jaK jal jam jax jao ja6 jaV ja8 jae jag jaf ja0 ja4 jaP jaw jaI jaZ jaG jaS jan jaU jaE jar jaL jah jaB jaa jaz jaH jab ja2 z0_s jaq jai jaO jaA jat jau jav jaj jas jaJ jak jad jay jac) H := hP
  have hD : va_D A (qz2 a0 jaX jaF 0 p1 jcP jb8 jaM jbK (-1) jaK jal jam jax jao ja6 jaV ja8 jae jag jaf ja0 ja4 jaP jaw jaI jaZ jaG jaS jan jaU jaE jar jaL jah jaB jaa jaz jaH jab ja2 z0_s jaq jai jaO jaA jat jau jav jaj jas jaJ jak jad jay jac) := hD
  refine lv_aload_n hx hb (qaa qgP 9 rfl) rfl (lv_at hl 0 rfl) ?_
  refine lv_iconst (v := 0) hx hb (qaa qgP 10 rfl) (by decide) ?_
  refine va_put (D := (dC, dI)) (ci := 11) (v := .int 0) (ty := .int) (C := RX11) (T := TX11) (N := 55) hx hb hts qvK tyX11 tyX11_ok nmX11 hown hK hP hD hS 0 rfl rfl 4 (by decide) (hts _ qacK) (fun _ h9 => h9) rfl (by decide +kernel) rfl rfl (nbq rfl) (qaa qgP 11 rfl) (fun H locs hP hD hS => ?_)
  have hP : va_P (dC, dI) vwCl (qz2 a0 jaX jaF 0 p1 0 jb8 jaM jbK (-1) jaK jal jam jax jao ja6 jaV ja8 jae jag jaf ja0 ja4 jaP jaw jaI jaZ jaG jaS jan jaU jaE jar jaL jah jaB jaa jaz jaH jab ja2 z0_s jaq jai jaO jaA jat jau jav jaj jas jaJ jak jad jay jac) H := hP
  have hD : va_D A (qz2 a0 jaX jaF 0 p1 0 jb8 jaM jbK (-1) jaK jal jam jax jao ja6 jaV ja8 jae jag jaf ja0 ja4 jaP jaw jaI jaZ jaG jaS jan jaU jaE jar jaL jah jaB jaa jaz jaH jab ja2 z0_s jaq jai jaO jaA jat jau jav jaj jas jaJ jak jad jay jac) := hD
  refine lv_aload_n hx hb (qaa qgP 12 rfl) rfl (lv_at hl 0 rfl) ?_
  refine lv_iconst (v := (-1)) hx hb (qaa qgP 13 rfl) (by decide) ?_
  refine va_put (D := (dC, dI)) (ci := 11) (v := .int (-1)) (ty := .int) (C := RX11) (T := TX11) (N := 55) hx hb hts qvK tyX11 tyX11_ok nmX11 hown hK hP hD hS 0 rfl rfl 5 (by decide) (hts _ qahG) (fun _ h9 => h9) rfl (by decide +kernel) rfl rfl (nbq rfl) (qaa qgP 14 rfl) (fun H locs hP hD hS => ?_)
  have hP : va_P (dC, dI) vwCl (qz2 a0 jaX jaF 0 p1 0 (-1) jaM jbK (-1) jaK jal jam jax jao ja6 jaV ja8 jae jag jaf ja0 ja4 jaP jaw jaI jaZ jaG jaS jan jaU jaE jar jaL jah jaB jaa jaz jaH jab ja2 z0_s jaq jai jaO jaA jat jau jav jaj jas jaJ jak jad jay jac) H := hP
  have hD : va_D A (qz2 a0 jaX jaF 0 p1 0 (-1) jaM jbK (-1) jaK jal jam jax jao ja6 jaV ja8 jae jag jaf ja0 ja4 jaP jaw jaI jaZ jaG jaS jan jaU jaE jar jaL jah jaB jaa jaz jaH jab ja2 z0_s jaq jai jaO jaA jat jau jav jaj jas jaJ jak jad jay jac) := hD
  refine lv_aload_n hx hb (qaa qgP 15 rfl) rfl (lv_at hl 0 rfl) ?_
  refine lv_iconst (v := 0) hx hb (qaa qMt 0 rfl) (by decide) ?_
  refine va_put (D := (dC, dI)) (ci := 11) (v := .int 0) (ty := .int) (C := RX11) (T := TX11) (N := 55) hx hb hts qvK tyX11 tyX11_ok nmX11 hown hK hP hD hS 0 rfl rfl 7 (by decide) (hts _ qael) (fun _ h9 => h9) rfl (by decide +kernel) rfl rfl (nbq rfl) (qaa qMt 1 rfl) (fun H locs hP hD hS => ?_)
  have hP : va_P (dC, dI) vwCl (qz2 a0 jaX jaF 0 p1 0 (-1) jaM 0 (-1) jaK jal jam jax jao ja6 jaV ja8 jae jag jaf ja0 ja4 jaP jaw jaI jaZ jaG jaS jan jaU jaE jar jaL jah jaB jaa jaz jaH jab ja2 z0_s jaq jai jaO jaA jat jau jav jaj jas jaJ jak jad jay jac) H := hP
  have hD : va_D A (qz2 a0 jaX jaF 0 p1 0 (-1) jaM 0 (-1) jaK jal jam jax jao ja6 jaV ja8 jae jag jaf ja0 ja4 jaP jaw jaI jaZ jaG jaS jan jaU jaE jar jaL jah jaB jaa jaz jaH jab ja2 z0_s jaq jai jaO jaA jat jau jav jaj jas jaJ jak jad jay jac) := hD
  exact ((W.vret hx hb hr (fun t ht hW => ⟨⟨(0, (-1), p1, 0, (-1), 0), rfl, hw, by rw [ht]; exact hP, va_K.moved hW.alike hK, hD⟩, hS.F ht⟩) hS.2.2 (qaa qMt 2 rfl)))
theorem qQG : ∀ w ∈ u_ws RX11 TX11 55, w ∈ wsX11_bitsTold := uiM qDV qfa (by decide +kernel)
theorem q7a : (.fieldLink RX11 169 "MarchHaresModel" "hares" "I" : Cond) ∈ wsX11_bitsTold := qDV 520 (by decide +kernel)
theorem qabw : (.fieldLink RX11 71 "MarchHaresModel" "s" "[I" : Cond) ∈ wsX11_bitsTold := qDV 457 (by decide +kernel)
set_option maxHeartbeats 4000000 in
set_option maxRecDepth 100000 in
theorem qSD {p : Program} {l : Launch} {e : Env} {s : State} {m : MethodId} {args : Array Value} {below : List Frame} {meth : Method} {c : Code} {A : Nat → Prop} (dC : Nat → ClassId) (dI : Nat → Nat → Nat) (cyB cyI cyJ cyP : ClassId) (a0 a0_s ja5 jbJ : Nat) (jaX jaF jaD ja7 jby jbe jaM jaY jap jaK jal jam jax jao jaV jae jag jaf ja0 jaw jaI jaZ jaG jaS jan jaU jaE jar jaL jah jaB jaa jaz jaH jab ja2 jaq jai jaO jaA jat jau jav jaj jas jaJ jak jad jay jac : Value) (jaC jbw : Int32) (f0_s jbv jcy : NI) (Q : Int32 → Prop) (K4 : Int32 → Int32 → Int32 → Prop) (hK4 : ∀ (H : Heap) (locs : List Loc) (ls : Array Slot) (l1 l2 l3 : Int32), va_P (dC, dI) vwCl (qq3 a0 jaX jaF jaD ja7 jby jbe jaM jaY jap jaK jal jam jax jao ja5 jaV jbJ jae jag jaf ja0 jaC jbw jaw jaI jaZ jaG jaS jan jaU jaE jar jaL jah jaB jaa jaz jaH jab ja2 a0_s jaq jai jaO jaA jat jau jav jaj jas jaJ jak jad jay jac a0_s cyI f0_s ja5 cyI jbv jbJ cyI jcy) H → va_D A (qq3 a0 jaX jaF jaD ja7 jby jbe jaM jaY jap jaK jal jam jax jao ja5 jaV jbJ jae jag jaf ja0 jaC jbw jaw jaI jaZ jaG jaS jan jaU jaE jar jaL jah jaB jaa jaz jaH jab ja2 a0_s jaq jai jaO jaA jat jau jav jaj jas jaJ jak jad jay jac a0_s cyI f0_s ja5 cyI jbv jbJ cyI jcy) → va_S A s.heap H locs → lv_has ls 4 [(0, .ref a0), (1, .int l1), (2, .int l2), (3, .int l3)] → K4 l1 l2 l3 → W p l e (headSpec wsX11_bitsTold ({ frames := 3, cells := 0, slots := 0, locals := 63 })).room s m args below meth c H locs 0 0 (MQ below (va_Qi (fun (r : Int32) (_ : Unit) => Q r ) (cB (dC, dI) (kT cyB cyI cyJ cyP) A (fun u : Unit => ((qq3 a0 jaX jaF jaD ja7 jby jbe jaM jaY jap jaK jal jam jax jao ja5 jaV jbJ jae jag jaf ja0 jaC jbw jaw jaI jaZ jaG jaS jan jaU jaE jar jaL jah jaB jaa jaz jaH jab ja2 a0_s jaq jai jaO jaA jat jau jav jaj jas jaJ jak jad jay jac a0_s cyI f0_s ja5 cyI jbv jbJ cyI jcy) : va_W))) A) args s 0 0 A) (F0 m 4 ls [])) (C0 : cfx p s m args meth c cX11_bitsTold (some .int) wsX11_bitsTold RX11 4 A (dC, dI) (kT cyB cyI cyJ cyP)) : ∀ (H : Heap) (locs : List Loc) (ls : Array Slot) (l1 l3 s0 s1 : Int32), va_P (dC, dI) vwCl (qq3 a0 jaX jaF jaD ja7 jby jbe jaM jaY jap jaK jal jam jax jao ja5 jaV jbJ jae jag jaf ja0 jaC jbw jaw jaI jaZ jaG jaS jan jaU jaE jar jaL jah jaB jaa jaz jaH jab ja2 a0_s jaq jai jaO jaA jat jau jav jaj jas jaJ jak jad jay jac a0_s cyI f0_s ja5 cyI jbv jbJ cyI jcy) H → va_D A (qq3 a0 jaX jaF jaD ja7 jby jbe jaM jaY jap jaK jal jam jax jao ja5 jaV jbJ jae jag jaf ja0 jaC jbw jaw jaI jaZ jaG jaS jan jaU jaE jar jaL jah jaB jaa jaz jaH jab ja2 a0_s jaq jai jaO jaA jat jau jav jaj jas jaJ jak jad jay jac a0_s cyI f0_s ja5 cyI jbv jbJ cyI jcy) → va_S A s.heap H locs → lv_has ls 4 [(0, .ref a0), (1, .int l1), (3, .int l3)] → qIx jaC jbw f0_s jbv jcy Q K4 l1 l3 s0 s1 → W p l e (headSpec wsX11_bitsTold ({ frames := 3, cells := 0, slots := 0, locals := 63 })).room s m args below meth c H locs 0 0 (MQ below (va_Qi (fun (r : Int32) (_ : Unit) => Q r ) (cB (dC, dI) (kT cyB cyI cyJ cyP) A (fun u : Unit => ((qq3 a0 jaX jaF jaD ja7 jby jbe jaM jaY jap jaK jal jam jax jao ja5 jaV jbJ jae jag jaf ja0 jaC jbw jaw jaI jaZ jaG jaS jan jaU jaE jar jaL jah jaB jaa jaz jaH jab ja2 a0_s jaq jai jaO jaA jat jau jav jaj jas jaJ jak jad jay jac a0_s cyI f0_s ja5 cyI jbv jbJ cyI jcy) : va_W))) A) args s 0 0 A) (F0 m 50 ls [.int s1, .int s0]) := by
  obtain ⟨hx, hb, hr, hts, hown, hlocks, hml, hA, hK, hNw⟩ := id C0
  intro H locs ls l1 l3 s0 s1 hP hD hS hl hw
  refine lv_ior hx hb (qaa qdz 14 rfl) ?_
  refine lv_topi (fun x8 ex8 => ?_)
  have hw := hw x8 ex8
  refine lv_istore_n (lv' := [(2, .int x8), (0, .ref a0), (1, .int l1), (3, .int l3)]) hx hb (qaa qdz 15 rfl) rfl hl (by decide) rfl (fun ls hl => ?_)
  obtain ⟨x9, ex9⟩ : ∃ y : Int32, y = l3 + 1 := ⟨_, rfl⟩
  have hw := hw x9 ex9
  refine lv_iinc (v := x9) (lv' := [(3, .int x9), (2, .int x8), (0, .ref a0), (1, .int l1)]) hx hb (qaa qBk 0 rfl) hl (k := 3) rfl (by rw [ex9]; rfl) (by decide) rfl (fun ls hl => ?_)
  refine lv_goto (tgt := 4) hx hb (qaa qBk 1 rfl) (by decide) ?_
  exact hK4 _ _ _ l1 x8 x9 hP hD hS (lv_sub hl [2, 3, 1, 0] rfl) hw
set_option maxHeartbeats 4000000 in
set_option maxRecDepth 100000 in
theorem qRX {p : Program} {l : Launch} {e : Env} {s : State} {m : MethodId} {args : Array Value} {below : List Frame} {meth : Method} {c : Code} {A : Nat → Prop} (dC : Nat → ClassId) (dI : Nat → Nat → Nat) (cyB cyI cyJ cyP : ClassId) (a0 a0_s ja5 jbJ : Nat) (jaX jaF jaD ja7 jby jbe jaM jaY jap jaK jal jam jax jao jaV jae jag jaf ja0 jaw jaI jaZ jaG jaS jan jaU jaE jar jaL jah jaB jaa jaz jaH jab ja2 jaq jai jaO jaA jat jau jav jaj jas jaJ jak jad jay jac : Value) (jaC jbw : Int32) (f0_s jbv jcy : NI) (Q : Int32 → Prop) (K4 : Int32 → Int32 → Int32 → Prop) (hK4 : ∀ (H : Heap) (locs : List Loc) (ls : Array Slot) (l1 l2 l3 : Int32), va_P (dC, dI) vwCl (qq3 a0 jaX jaF jaD ja7 jby jbe jaM jaY jap jaK jal jam jax jao ja5 jaV jbJ jae jag jaf ja0 jaC jbw jaw jaI jaZ jaG jaS jan jaU jaE jar jaL jah jaB jaa jaz jaH jab ja2 a0_s jaq jai jaO jaA jat jau jav jaj jas jaJ jak jad jay jac a0_s cyI f0_s ja5 cyI jbv jbJ cyI jcy) H → va_D A (qq3 a0 jaX jaF jaD ja7 jby jbe jaM jaY jap jaK jal jam jax jao ja5 jaV jbJ jae jag jaf ja0 jaC jbw jaw jaI jaZ jaG jaS jan jaU jaE jar jaL jah jaB jaa jaz jaH jab ja2 a0_s jaq jai jaO jaA jat jau jav jaj jas jaJ jak jad jay jac a0_s cyI f0_s ja5 cyI jbv jbJ cyI jcy) → va_S A s.heap H locs → lv_has ls 4 [(0, .ref a0), (1, .int l1), (2, .int l2), (3, .int l3)] → K4 l1 l2 l3 → W p l e (headSpec wsX11_bitsTold ({ frames := 3, cells := 0, slots := 0, locals := 63 })).room s m args below meth c H locs 0 0 (MQ below (va_Qi (fun (r : Int32) (_ : Unit) => Q r ) (cB (dC, dI) (kT cyB cyI cyJ cyP) A (fun u : Unit => ((qq3 a0 jaX jaF jaD ja7 jby jbe jaM jaY jap jaK jal jam jax jao ja5 jaV jbJ jae jag jaf ja0 jaC jbw jaw jaI jaZ jaG jaS jan jaU jaE jar jaL jah jaB jaa jaz jaH jab ja2 a0_s jaq jai jaO jaA jat jau jav jaj jas jaJ jak jad jay jac a0_s cyI f0_s ja5 cyI jbv jbJ cyI jcy) : va_W))) A) args s 0 0 A) (F0 m 4 ls [])) (C0 : cfx p s m args meth c cX11_bitsTold (some .int) wsX11_bitsTold RX11 4 A (dC, dI) (kT cyB cyI cyJ cyP)) : ∀ (H : Heap) (locs : List Loc) (ls : Array Slot) (l1 l3 s0 : Int32), va_P (dC, dI) vwCl (qq3 a0 jaX jaF jaD ja7 jby jbe jaM jaY jap jaK jal jam jax jao ja5 jaV jbJ jae jag jaf ja0 jaC jbw jaw jaI jaZ jaG jaS jan jaU jaE jar jaL jah jaB jaa jaz jaH jab ja2 a0_s jaq jai jaO jaA jat jau jav jaj jas jaJ jak jad jay jac a0_s cyI f0_s ja5 cyI jbv jbJ cyI jcy) H → va_D A (qq3 a0 jaX jaF jaD ja7 jby jbe jaM jaY jap jaK jal jam jax jao ja5 jaV jbJ jae jag jaf ja0 jaC jbw jaw jaI jaZ jaG jaS jan jaU jaE jar jaL jah jaB jaa jaz jaH jab ja2 a0_s jaq jai jaO jaA jat jau jav jaj jas jaJ jak jad jay jac a0_s cyI f0_s ja5 cyI jbv jbJ cyI jcy) → va_S A s.heap H locs → lv_has ls 4 [(0, .ref a0), (1, .int l1), (3, .int l3)] → qGR jaC jbw f0_s jbv jcy Q K4 l1 l3 s0 → W p l e (headSpec wsX11_bitsTold ({ frames := 3, cells := 0, slots := 0, locals := 63 })).room s m args below meth c H locs 0 0 (MQ below (va_Qi (fun (r : Int32) (_ : Unit) => Q r ) (cB (dC, dI) (kT cyB cyI cyJ cyP) A (fun u : Unit => ((qq3 a0 jaX jaF jaD ja7 jby jbe jaM jaY jap jaK jal jam jax jao ja5 jaV jbJ jae jag jaf ja0 jaC jbw jaw jaI jaZ jaG jaS jan jaU jaE jar jaL jah jaB jaa jaz jaH jab ja2 a0_s jaq jai jaO jaA jat jau jav jaj jas jaJ jak jad jay jac a0_s cyI f0_s ja5 cyI jbv jbJ cyI jcy) : va_W))) A) args s 0 0 A) (F0 m 43 ls [.int s0]) := by
  obtain ⟨hx, hb, hr, hts, hown, hlocks, hml, hA, hK, hNw⟩ := id C0
  intro H locs ls l1 l3 s0 hP hD hS hl hw
  refine lv_iconst (v := 1) hx hb (qaa qdz 9 rfl) (by decide) ?_
  refine lv_iload_n hx hb (qaa qdz 10 rfl) rfl (lv_at hl 2 rfl) ?_
  refine lv_ishl hx hb (qaa qdz 11 rfl) ?_
  refine lv_goto (tgt := 50) hx hb (qaa qdz 12 rfl) (by decide) ?_
  exact qSD dC dI cyB cyI cyJ cyP a0 a0_s ja5 jbJ jaX jaF jaD ja7 jby jbe jaM jaY jap jaK jal jam jax jao jaV jae jag jaf ja0 jaw jaI jaZ jaG jaS jan jaU jaE jar jaL jah jaB jaa jaz jaH jab ja2 jaq jai jaO jaA jat jau jav jaj jas jaJ jak jad jay jac jaC jbw f0_s jbv jcy Q K4 hK4 C0 _ _ _ l1 l3 s0 (1 <<< (l3 &&& 31)) hP hD hS (lv_sub hl [0, 1, 2] rfl) hw
set_option maxHeartbeats 4000000 in
set_option maxRecDepth 100000 in
theorem qSn {p : Program} {l : Launch} {e : Env} {s : State} {m : MethodId} {args : Array Value} {below : List Frame} {meth : Method} {c : Code} {A : Nat → Prop} (dC : Nat → ClassId) (dI : Nat → Nat → Nat) (cyB cyI cyJ cyP : ClassId) (a0 a0_s ja5 jbJ : Nat) (jaX jaF jaD ja7 jby jbe jaM jaY jap jaK jal jam jax jao jaV jae jag jaf ja0 jaw jaI jaZ jaG jaS jan jaU jaE jar jaL jah jaB jaa jaz jaH jab ja2 jaq jai jaO jaA jat jau jav jaj jas jaJ jak jad jay jac : Value) (jaC jbw : Int32) (f0_s jbv jcy : NI) (Q : Int32 → Prop) (K4 : Int32 → Int32 → Int32 → Prop) (hK4 : ∀ (H : Heap) (locs : List Loc) (ls : Array Slot) (l1 l2 l3 : Int32), va_P (dC, dI) vwCl (qq3 a0 jaX jaF jaD ja7 jby jbe jaM jaY jap jaK jal jam jax jao ja5 jaV jbJ jae jag jaf ja0 jaC jbw jaw jaI jaZ jaG jaS jan jaU jaE jar jaL jah jaB jaa jaz jaH jab ja2 a0_s jaq jai jaO jaA jat jau jav jaj jas jaJ jak jad jay jac a0_s cyI f0_s ja5 cyI jbv jbJ cyI jcy) H → va_D A (qq3 a0 jaX jaF jaD ja7 jby jbe jaM jaY jap jaK jal jam jax jao ja5 jaV jbJ jae jag jaf ja0 jaC jbw jaw jaI jaZ jaG jaS jan jaU jaE jar jaL jah jaB jaa jaz jaH jab ja2 a0_s jaq jai jaO jaA jat jau jav jaj jas jaJ jak jad jay jac a0_s cyI f0_s ja5 cyI jbv jbJ cyI jcy) → va_S A s.heap H locs → lv_has ls 4 [(0, .ref a0), (1, .int l1), (2, .int l2), (3, .int l3)] → K4 l1 l2 l3 → W p l e (headSpec wsX11_bitsTold ({ frames := 3, cells := 0, slots := 0, locals := 63 })).room s m args below meth c H locs 0 0 (MQ below (va_Qi (fun (r : Int32) (_ : Unit) => Q r ) (cB (dC, dI) (kT cyB cyI cyJ cyP) A (fun u : Unit => ((qq3 a0 jaX jaF jaD ja7 jby jbe jaM jaY jap jaK jal jam jax jao ja5 jaV jbJ jae jag jaf ja0 jaC jbw jaw jaI jaZ jaG jaS jan jaU jaE jar jaL jah jaB jaa jaz jaH jab ja2 a0_s jaq jai jaO jaA jat jau jav jaj jas jaJ jak jad jay jac a0_s cyI f0_s ja5 cyI jbv jbJ cyI jcy) : va_W))) A) args s 0 0 A) (F0 m 4 ls [])) (C0 : cfx p s m args meth c cX11_bitsTold (some .int) wsX11_bitsTold RX11 4 A (dC, dI) (kT cyB cyI cyJ cyP)) : ∀ (H : Heap) (locs : List Loc) (ls : Array Slot) (l1 l3 s0 : Int32), va_P (dC, dI) vwCl (qq3 a0 jaX jaF jaD ja7 jby jbe jaM jaY jap jaK jal jam jax jao ja5 jaV jbJ jae jag jaf ja0 jaC jbw jaw jaI jaZ jaG jaS jan jaU jaE jar jaL jah jaB jaa jaz jaH jab ja2 a0_s jaq jai jaO jaA jat jau jav jaj jas jaJ jak jad jay jac a0_s cyI f0_s ja5 cyI jbv jbJ cyI jcy) H → va_D A (qq3 a0 jaX jaF jaD ja7 jby jbe jaM jaY jap jaK jal jam jax jao ja5 jaV jbJ jae jag jaf ja0 jaC jbw jaw jaI jaZ jaG jaS jan jaU jaE jar jaL jah jaB jaa jaz jaH jab ja2 a0_s jaq jai jaO jaA jat jau jav jaj jas jaJ jak jad jay jac a0_s cyI f0_s ja5 cyI jbv jbJ cyI jcy) → va_S A s.heap H locs → lv_has ls 4 [(0, .ref a0), (1, .int l1), (3, .int l3)] → qIy jaC jbw f0_s jbv jcy Q K4 l1 l3 s0 → W p l e (headSpec wsX11_bitsTold ({ frames := 3, cells := 0, slots := 0, locals := 63 })).room s m args below meth c H locs 0 0 (MQ below (va_Qi (fun (r : Int32) (_ : Unit) => Q r ) (cB (dC, dI) (kT cyB cyI cyJ cyP) A (fun u : Unit => ((qq3 a0 jaX jaF jaD ja7 jby jbe jaM jaY jap jaK jal jam jax jao ja5 jaV jbJ jae jag jaf ja0 jaC jbw jaw jaI jaZ jaG jaS jan jaU jaE jar jaL jah jaB jaa jaz jaH jab ja2 a0_s jaq jai jaO jaA jat jau jav jaj jas jaJ jak jad jay jac a0_s cyI f0_s ja5 cyI jbv jbJ cyI jcy) : va_W))) A) args s 0 0 A) (F0 m 49 ls [.int s0]) := by
  obtain ⟨hx, hb, hr, hts, hown, hlocks, hml, hA, hK, hNw⟩ := id C0
  intro H locs ls l1 l3 s0 hP hD hS hl hw
  refine lv_iconst (v := 0) hx hb (qaa qdz 13 rfl) (by decide) ?_
  exact qSD dC dI cyB cyI cyJ cyP a0 a0_s ja5 jbJ jaX jaF jaD ja7 jby jbe jaM jaY jap jaK jal jam jax jao jaV jae jag jaf ja0 jaw jaI jaZ jaG jaS jan jaU jaE jar jaL jah jaB jaa jaz jaH jab ja2 jaq jai jaO jaA jat jau jav jaj jas jaJ jak jad jay jac jaC jbw f0_s jbv jcy Q K4 hK4 C0 _ _ _ l1 l3 s0 0 hP hD hS (lv_sub hl [0, 1, 2] rfl) hw
set_option maxHeartbeats 4000000 in
set_option maxRecDepth 100000 in
theorem qajV {p : Program} {l : Launch} {e : Env} {s : State} {m : MethodId} {args : Array Value} {below : List Frame} {meth : Method} {c : Code} {A : Nat → Prop} (dC : Nat → ClassId) (dI : Nat → Nat → Nat) (cyB cyI cyJ cyP : ClassId) (a0 a0_s ja5 jbJ : Nat) (jaX jaF jaD ja7 jby jbe jaM jaY jap jaK jal jam jax jao jaV jae jag jaf ja0 jaw jaI jaZ jaG jaS jan jaU jaE jar jaL jah jaB jaa jaz jaH jab ja2 jaq jai jaO jaA jat jau jav jaj jas jaJ jak jad jay jac : Value) (jaC jbw : Int32) (f0_s jbv jcy : NI) (Q : Int32 → Prop) (C0 : cfx p s m args meth c cX11_bitsTold (some .int) wsX11_bitsTold RX11 4 A (dC, dI) (kT cyB cyI cyJ cyP)) : ∀ (n : Nat) (H : Heap) (locs : List Loc) (ls : Array Slot) (l1 l2 l3 : Int32), va_P (dC, dI) vwCl (qq3 a0 jaX jaF jaD ja7 jby jbe jaM jaY jap jaK jal jam jax jao ja5 jaV jbJ jae jag jaf ja0 jaC jbw jaw jaI jaZ jaG jaS jan jaU jaE jar jaL jah jaB jaa jaz jaH jab ja2 a0_s jaq jai jaO jaA jat jau jav jaj jas jaJ jak jad jay jac a0_s cyI f0_s ja5 cyI jbv jbJ cyI jcy) H → va_D A (qq3 a0 jaX jaF jaD ja7 jby jbe jaM jaY jap jaK jal jam jax jao ja5 jaV jbJ jae jag jaf ja0 jaC jbw jaw jaI jaZ jaG jaS jan jaU jaE jar jaL jah jaB jaa jaz jaH jab ja2 a0_s jaq jai jaO jaA jat jau jav jaj jas jaJ jak jad jay jac a0_s cyI f0_s ja5 cyI jbv jbJ cyI jcy) → va_S A s.heap H locs → lv_has ls 4 [(0, .ref a0), (1, .int l1), (2, .int l2), (3, .int l3)] → qm8 jaC jbw f0_s jbv jcy Q n l1 l2 l3 → W p l e (headSpec wsX11_bitsTold ({ frames := 3, cells := 0, slots := 0, locals := 63 })).room s m args below meth c H locs 0 0 (MQ below (va_Qi (fun (r : Int32) (_ : Unit) => Q r ) (cB (dC, dI) (kT cyB cyI cyJ cyP) A (fun u : Unit => ((qq3 a0 jaX jaF jaD ja7 jby jbe jaM jaY jap jaK jal jam jax jao ja5 jaV jbJ jae jag jaf ja0 jaC jbw jaw jaI jaZ jaG jaS jan jaU jaE jar jaL jah jaB jaa jaz jaH jab ja2 a0_s jaq jai jaO jaA jat jau jav jaj jas jaJ jak jad jay jac a0_s cyI f0_s ja5 cyI jbv jbJ cyI jcy) : va_W))) A) args s 0 0 A) (F0 m 4 ls []) := by
  obtain ⟨hx, hb, hr, hts, hown, hlocks, hml, hA, hK, hNw⟩ := id C0
  intro n
  induction n with
  | zero => intro H locs ls l1 l2 l3 hP hD hS hl hw; exact False.elim hw
  | succ n ih =>
    intro H locs ls l1 l2 l3 hP hD hS hl hw
    refine lv_iload_n hx hb (qaa qd5 4 rfl) rfl (lv_at hl 3 rfl) ?_
    refine lv_aload_n hx hb (qaa qd5 5 rfl) rfl (lv_at hl 0 rfl) ?_
    refine va_get (D := (dC, dI)) (ci := 11) (v := .int jaC) (C := RX11) (T := TX11) (N := 55) hx hb hts qQG hown hK hP 0 rfl rfl 21 (by decide) (hts _ q7a) (fun _ h9 => h9) rfl (qaa qd5 6 rfl) ?_
    refine lv_icmp_ge (tgt := 58) hx hb (qaa qd5 7 rfl) (by decide) (fun c1 => ?_) (fun c1 => ?_)
    · have hw := hw.1 c1
      refine lv_iload_n hx hb (qaa qBk 2 rfl) rfl (lv_at hl 2 rfl) ?_
      exact ((W.iret (v := l2) hx hb hr (fun t ht hW => ⟨⟨l2, (), rfl, hw, by rw [ht]; exact hP, va_K.moved hW.alike hK, hD⟩, hS.F ht⟩) hS.2.2 (qaa qBk 3 rfl)))
    · have hw := hw.2 c1
      refine lv_iload_n hx hb (qaa qd5 8 rfl) rfl (lv_at hl 2 rfl) ?_
      refine lv_iload_n hx hb (qaa qd5 9 rfl) rfl (lv_at hl 1 rfl) ?_
      refine lv_bipush (v := 6) hx hb (qaa qd5 10 rfl) (by decide) ?_
      refine lv_icmp_ne (tgt := 35) hx hb (qaa qd5 11 rfl) (by decide) (fun c2 => ?_) (fun c2 => ?_)
      · have hw := hw.1 c2
        refine lv_aload_n hx hb (qaa qdz 5 rfl) rfl (lv_at hl 0 rfl) ?_
        refine lv_iload_n hx hb (qaa qdz 6 rfl) rfl (lv_at hl 3 rfl) ?_
        obtain ⟨hCc, hPc, hDc, hFc⟩ := qac (ws' := (qq3 a0 jaX jaF jaD ja7 jby jbe jaM jaY jap jaK jal jam jax jao ja5 jaV jbJ jae jag jaf ja0 jaC jbw jaw jaI jaZ jaG jaS jan jaU jaE jar jaL jah jaB jaa jaz jaH jab ja2 a0_s jaq jai jaO jaA jat jau jav jaj jas jaJ jak jad jay jac a0_s cyI f0_s ja5 cyI jbv jbJ cyI jcy)) hP hD hS hA [0, 1, 2, 3] (by decide +kernel) rfl
        refine va_calli (va_runV (As := [.int l3]) (rest := [.int l2]) ⟨hx, hb, hml, hown, hts⟩ (qNI l dC dI cyB cyI cyJ cyP a0 a0_s ja5 jbJ H.size (jaX) (jaF) (jaD) (ja7) (jby) (jbe) (jaM) (jaY) (jap) (jaK) (jal) (jam) (jax) (jao) (jaV) (jae) (jag) (jaf) (ja0) (.int jaC) (jaw) (jaI) (jaZ) (jaG) (jaS) (jan) (jaU) (jaE) (jar) (jaL) (jah) (jaB) (jaa) (jaz) (jaH) (jab) (ja2) (jaq) (jai) (jaO) (jaA) (jat) (jau) (jav) (jaj) (jas) (jaJ) (jak) (jad) (jay) (jac) jbw f0_s jbv jcy l3 hw) (cwV 1 hts gX11_bitsTold_X11_wouldBeCaught rfl rfl rfl (by decide +kernel) ⟨nbq rfl, nbq rfl⟩) ⟨qab, va_recv (q := (RX11, TX11, 55)) hK hPc (ci := 11) (q0 := 0) rfl rfl, qae hPc hK hDc hNw⟩ rfl rfl hl.1 rfl (lv_room (nbq rfl)) (qaa qdz 7 rfl) ⟨nbq rfl, nbq rfl⟩) hS (fun q _ h => hFc q h) hFc (fun r3 u t H1 locs ht hvm hw hB hz1 hk1 hS => ?_)
        obtain ⟨hP1, hK1, hD1⟩ := hB
        rw [ht] at hP1
        obtain ⟨hP, hD⟩ := qah (wr := []) (w1 := (qq3 a0 jaX jaF jaD ja7 jby jbe jaM jaY jap jaK jal jam jax jao ja5 jaV jbJ jae jag jaf ja0 jaC jbw jaw jaI jaZ jaG jaS jan jaU jaE jar jaL jah jaB jaa jaz jaH jab ja2 a0_s jaq jai jaO jaA jat jau jav jaj jas jaJ jak jad jay jac a0_s cyI f0_s ja5 cyI jbv jbJ cyI jcy)) (wn := (qq3 a0 jaX jaF jaD ja7 jby jbe jaM jaY jap jaK jal jam jax jao ja5 jaV jbJ jae jag jaf ja0 jaC jbw jaw jaI jaZ jaG jaS jan jaU jaE jar jaL jah jaB jaa jaz jaH jab ja2 a0_s jaq jai jaO jaA jat jau jav jaj jas jaJ jak jad jay jac a0_s cyI f0_s ja5 cyI jbv jbJ cyI jcy)) hP hD [0, 1, 2, 3] [] hCc rfl (by decide +kernel) (by decide +kernel) rfl hk1 hFc hP1 hD1
        generalize H1 = H at hP hS ⊢
        refine lv_if_eq (tgt := 49) hx hb (qaa qdz 8 rfl) (by decide) (fun c4 => ?_) (fun c4 => ?_)
        · have hw := hw.1 c4
          exact qSn dC dI cyB cyI cyJ cyP a0 a0_s ja5 jbJ jaX jaF jaD ja7 jby jbe jaM jaY jap jaK jal jam jax jao jaV jae jag jaf ja0 jaw jaI jaZ jaG jaS jan jaU jaE jar jaL jah jaB jaa jaz jaH jab ja2 jaq jai jaO jaA jat jau jav jaj jas jaJ jak jad jay jac jaC jbw f0_s jbv jcy Q (qm8 jaC jbw f0_s jbv jcy Q n) ih C0 _ _ _ l1 l3 l2 hP hD hS (lv_sub hl [0, 1, 3] rfl) hw
        · have hw := hw.2 c4
          exact qRX dC dI cyB cyI cyJ cyP a0 a0_s ja5 jbJ jaX jaF jaD ja7 jby jbe jaM jaY jap jaK jal jam jax jao jaV jae jag jaf ja0 jaw jaI jaZ jaG jaS jan jaU jaE jar jaL jah jaB jaa jaz jaH jab ja2 jaq jai jaO jaA jat jau jav jaj jas jaJ jak jad jay jac jaC jbw f0_s jbv jcy Q (qm8 jaC jbw f0_s jbv jcy Q n) ih C0 _ _ _ l1 l3 l2 hP hD hS (lv_sub hl [0, 1, 3] rfl) hw
      · have hw := hw.2 c2
        refine lv_aload_n hx hb (qaa qd5 12 rfl) rfl (lv_at hl 0 rfl) ?_
        refine va_get (D := (dC, dI)) (ci := 11) (v := .ref a0_s) (C := RX11) (T := TX11) (N := 55) hx hb hts qQG hown hK hP 0 rfl rfl 40 (by decide) (hts _ qabw) (fun _ h9 => h9) rfl (qaa qd5 13 rfl) ?_
        refine lv_bipush (v := 24) hx hb (qaa qd5 14 rfl) (by decide) ?_
        refine lv_iload_n hx hb (qaa qd5 15 rfl) rfl (lv_at hl 3 rfl) ?_
        refine lv_iadd hx hb (qaa qdz 0 rfl) ?_
        refine lv_topi (fun x5 ex5 => ?_)
        have hw := hw x5 ex5
        obtain ⟨hi9, hw⟩ := hw
        refine va_iald hx hb hK hP 1 1 rfl rfl hi9 (qaa qdz 1 rfl) ?_
        refine lv_topi (fun x6 ex6 => ?_)
        have hw := hw x6 ex6
        refine lv_iconst (v := 1) hx hb (qaa qdz 2 rfl) (by decide) ?_
        refine lv_icmp_ne (tgt := 49) hx hb (qaa qdz 3 rfl) (by decide) (fun c7 => ?_) (fun c7 => ?_)
        · have hw := hw.1 c7
          exact qSn dC dI cyB cyI cyJ cyP a0 a0_s ja5 jbJ jaX jaF jaD ja7 jby jbe jaM jaY jap jaK jal jam jax jao jaV jae jag jaf ja0 jaw jaI jaZ jaG jaS jan jaU jaE jar jaL jah jaB jaa jaz jaH jab ja2 jaq jai jaO jaA jat jau jav jaj jas jaJ jak jad jay jac jaC jbw f0_s jbv jcy Q (qm8 jaC jbw f0_s jbv jcy Q n) ih C0 _ _ _ l1 l3 l2 hP hD hS (lv_sub hl [0, 1, 3] rfl) hw
        · have hw := hw.2 c7
          refine lv_goto (tgt := 43) hx hb (qaa qdz 4 rfl) (by decide) ?_
          exact qRX dC dI cyB cyI cyJ cyP a0 a0_s ja5 jbJ jaX jaF jaD ja7 jby jbe jaM jaY jap jaK jal jam jax jao jaV jae jag jaf ja0 jaw jaI jaZ jaG jaS jan jaU jaE jar jaL jah jaB jaa jaz jaH jab ja2 jaq jai jaO jaA jat jau jav jaj jas jaJ jak jad jay jac jaC jbw f0_s jbv jcy Q (qm8 jaC jbw f0_s jbv jcy Q n) ih C0 _ _ _ l1 l3 l2 hP hD hS (lv_sub hl [0, 1, 3] rfl) hw
set_option maxHeartbeats 4000000 in
set_option maxRecDepth 100000 in
theorem qay7 (l : Launch) (dC : Nat → ClassId) (dI : Nat → Nat → Nat) (cyB cyI cyJ cyP : ClassId) (a0 a0_s ja5 jbJ sz : Nat) (jaX jaF jaD ja7 jby jbe jaM jaY jap jaK jal jam jax jao jaV jae jag jaf ja0 jaw jaI jaZ jaG jaS jan jaU jaE jar jaL jah jaB jaa jaz jaH jab ja2 jaq jai jaO jaA jat jau jav jaj jas jaJ jak jad jay jac : Value) (jaC jbw : Int32) (f0_s jbv jcy : NI) (p1 : Int32) {Q : Int32 → Prop} (hw : qQZ jaC jbw f0_s jbv jcy p1 Q) : Met l yX11_bitsTold wsX11_bitsTold ({ frames := 3, cells := 0, slots := 0, locals := 63 }) (va_Pc [.ref a0, .int p1] (cPc (dC, dI) (kT cyB cyI cyJ cyP) (qq3 a0 jaX jaF jaD ja7 jby jbe jaM jaY jap jaK jal jam jax jao ja5 jaV jbJ jae jag jaf ja0 jaC jbw jaw jaI jaZ jaG jaS jan jaU jaE jar jaL jah jaB jaa jaz jaH jab ja2 a0_s jaq jai jaO jaA jat jau jav jaj jas jaJ jak jad jay jac a0_s cyI f0_s ja5 cyI jbv jbJ cyI jcy) sz)) (va_Qi (fun (r : Int32) (_ : Unit) => Q r ) (cB (dC, dI) (kT cyB cyI cyJ cyP) (va_A (qq3 a0 jaX jaF jaD ja7 jby jbe jaM jaY jap jaK jal jam jax jao ja5 jaV jbJ jae jag jaf ja0 jaC jbw jaw jaI jaZ jaG jaS jan jaU jaE jar jaL jah jaB jaa jaz jaH jab ja2 a0_s jaq jai jaO jaA jat jau jav jaj jas jaJ jak jad jay jac a0_s cyI f0_s ja5 cyI jbv jbJ cyI jcy) sz) (fun u : Unit => ((qq3 a0 jaX jaF jaD ja7 jby jbe jaM jaY jap jaK jal jam jax jao ja5 jaV jbJ jae jag jaf ja0 jaC jbw jaw jaI jaZ jaG jaS jan jaU jaE jar jaL jah jaB jaa jaz jaH jab ja2 a0_s jaq jai jaO jaA jat jau jav jaj jas jaJ jak jad jay jac a0_s cyI f0_s ja5 cyI jbv jbJ cyI jcy) : va_W))) (va_A (qq3 a0 jaX jaF jaD ja7 jby jbe jaM jaY jap jaK jal jam jax jao ja5 jaV jbJ jae jag jaf ja0 jaC jbw jaw jaI jaZ jaG jaS jan jaU jaE jar jaL jah jaB jaa jaz jaH jab ja2 a0_s jaq jai jaO jaA jat jau jav jaj jas jaJ jak jad jay jac a0_s cyI f0_s ja5 cyI jbv jbJ cyI jcy) sz)) 0 0 (va_A (qq3 a0 jaX jaF jaD ja7 jby jbe jaM jaY jap jaK jal jam jax jao ja5 jaV jbJ jae jag jaf ja0 jaC jbw jaw jaI jaZ jaG jaS jan jaU jaE jar jaL jah jaB jaa jaz jaH jab ja2 a0_s jaq jai jaO jaA jat jau jav jaj jas jaJ jak jad jay jac a0_s cyI f0_s ja5 cyI jbv jbJ cyI jcy) sz) := by
  refine Met.ofW (cc := cX11_bitsTold) (maxL := 4) (ret := (some .int)) (by decide) rfl ?_
  intro p e s m args below meth c s₁ B hml hv
  obtain ⟨rfl, hsz, hP, hK, hD0, hNw⟩ := hv
  have hx := B.exec
  have hb := B.bytes
  have hr := B.returns
  have hts := atoms_spec (ws := wsX11_bitsTold) B.pre
  have hown : s.vm.findClass RX11 = some m.cls := findClass_of_methodNamed B.named
  have hlocks := B.notSynchronized
  subst hsz
  have hD := hD0.self (sz := s.heap.size)
  generalize hAe : va_A (qq3 a0 jaX jaF jaD ja7 jby jbe jaM jaY jap jaK jal jam jax jao ja5 jaV jbJ jae jag jaf ja0 jaC jbw jaw jaI jaZ jaG jaS jan jaU jaE jar jaL jah jaB jaa jaz jaH jab ja2 a0_s jaq jai jaO jaA jat jau jav jaj jas jaJ jak jad jay jac a0_s cyI f0_s ja5 cyI jbv jbJ cyI jcy) s.heap.size = A at hD ⊢
  have hA : ∀ q : Nat, s.heap.size ≤ q → A q := fun q h => by rw [← hAe]; exact Or.inr h
  have hS : va_S A s.heap s.heap [] := va_S.rf
  have hP : va_P (dC, dI) vwCl (qq3 a0 jaX jaF jaD ja7 jby jbe jaM jaY jap jaK jal jam jax jao ja5 jaV jbJ jae jag jaf ja0 jaC jbw jaw jaI jaZ jaG jaS jan jaU jaE jar jaL jah jaB jaa jaz jaH jab ja2 a0_s jaq jai jaO jaA jat jau jav jaj jas jaJ jak jad jay jac a0_s cyI f0_s ja5 cyI jbv jbJ cyI jcy) s.heap := hP
  have hl := lv_entry ([.ref a0, .int p1]) (n := 4) (nbq rfl)
  rw [lg_entry_eq]
  generalize (lg_sl ([.ref a0, .int p1]) ++ List.replicate (4 - (lg_sl ([.ref a0, .int p1])).length) Slot.unset).toArray = ls at hl ⊢
  have hl : lv_has ls 4 [(0, .ref a0), (1, .int p1)] := hl
  have C0 : cfx p s m _ meth c cX11_bitsTold (some .int) wsX11_bitsTold RX11 4 A (dC, dI) (kT cyB cyI cyJ cyP) := ⟨hx, hb, hr, hts, hown, hlocks, hml, hA, hK, hNw⟩
  clear hAe
  obtain ⟨H, hH⟩ : ∃ H, H = s.heap := ⟨_, rfl⟩
  rw [← hH] at hP ⊢
  have hS : va_S A s.heap H [] := by rw [hH]; exact va_S.rf
  have hS := hS
  refine lv_iconst (v := 0) hx hb (qaa qd5 0 rfl) (by decide) ?_
  refine lv_istore_n (lv' := [(2, .int 0), (0, .ref a0), (1, .int p1)]) hx hb (qaa qd5 1 rfl) rfl hl (by decide) rfl (fun ls hl => ?_)
  refine lv_iconst (v := 0) hx hb (qaa qd5 2 rfl) (by decide) ?_
  refine lv_istore_n (lv' := [(3, .int 0), (2, .int 0), (0, .ref a0), (1, .int p1)]) hx hb (qaa qd5 3 rfl) rfl hl (by decide) rfl (fun ls hl => ?_)
  obtain ⟨n9, hw⟩ := hw
  exact qajV dC dI cyB cyI cyJ cyP a0 a0_s ja5 jbJ jaX jaF jaD ja7 jby jbe jaM jaY jap jaK jal jam jax jao jaV jae jag jaf ja0 jaw jaI jaZ jaG jaS jan jaU jaE jar jaL jah jaB jaa jaz jaH jab ja2 jaq jai jaO jaA jat jau jav jaj jas jaJ jak jad jay jac jaC jbw f0_s jbv jcy Q C0 n9 _ _ _ p1 0 0 hP hD hS (lv_sub hl [2, 3, 1, 0] rfl) hw
theorem qaEi : ∀ w ∈ u_ws RX11 TX11 55, w ∈ wsX11_fine := uiM qaLX qfa (by decide +kernel)
theorem qatb : (.fieldLink RX11 114 "MarchHaresModel" "bad" "I" : Cond) ∈ wsX11_fine := qaLX 1104 (by decide +kernel)
set_option maxHeartbeats 4000000 in
set_option maxRecDepth 100000 in
theorem qdP (l : Launch) (dC : Nat → ClassId) (dI : Nat → Nat → Nat) (cyB cyI cyJ cyP : ClassId) (a0 sz : Nat) (jaX jaF jaD ja7 jby jaM jaY jap jaK jal jam jax jao ja6 jaV ja8 jae jag jaf ja0 ja4 jaP jaw jaI jaZ jaG jaS jan jaU jaE jar jaL jah jaB jaa jaz jaH jab ja2 z0_s jaq jai jaO jaA jat jau jav jaj jas jaJ jak jad jay jac : Value) (jb8 : Int32) {Q : Int32 → Prop} (hw : qbU jb8 Q) : Met l yX11_fine wsX11_fine ({ frames := 0, cells := 0, slots := 0, locals := 0 }) (va_Pc [.ref a0] (cPc (dC, dI) (kT cyB cyI cyJ cyP) (qabR a0 jaX jaF jaD ja7 jby jb8 jaM jaY jap jaK jal jam jax jao ja6 jaV ja8 jae jag jaf ja0 ja4 jaP jaw jaI jaZ jaG jaS jan jaU jaE jar jaL jah jaB jaa jaz jaH jab ja2 z0_s jaq jai jaO jaA jat jau jav jaj jas jaJ jak jad jay jac) sz)) (va_Qi (fun (r : Int32) (_ : Unit) => Q r ) (cB (dC, dI) (kT cyB cyI cyJ cyP) (va_A (qabR a0 jaX jaF jaD ja7 jby jb8 jaM jaY jap jaK jal jam jax jao ja6 jaV ja8 jae jag jaf ja0 ja4 jaP jaw jaI jaZ jaG jaS jan jaU jaE jar jaL jah jaB jaa jaz jaH jab ja2 z0_s jaq jai jaO jaA jat jau jav jaj jas jaJ jak jad jay jac) sz) (fun u : Unit => ((qabR a0 jaX jaF jaD ja7 jby jb8 jaM jaY jap jaK jal jam jax jao ja6 jaV ja8 jae jag jaf ja0 ja4 jaP jaw jaI jaZ jaG jaS jan jaU jaE jar jaL jah jaB jaa jaz jaH jab ja2 z0_s jaq jai jaO jaA jat jau jav jaj jas jaJ jak jad jay jac) : va_W))) (va_A (qabR a0 jaX jaF jaD ja7 jby jb8 jaM jaY jap jaK jal jam jax jao ja6 jaV ja8 jae jag jaf ja0 ja4 jaP jaw jaI jaZ jaG jaS jan jaU jaE jar jaL jah jaB jaa jaz jaH jab ja2 z0_s jaq jai jaO jaA jat jau jav jaj jas jaJ jak jad jay jac) sz)) 0 0 (va_A (qabR a0 jaX jaF jaD ja7 jby jb8 jaM jaY jap jaK jal jam jax jao ja6 jaV ja8 jae jag jaf ja0 ja4 jaP jaw jaI jaZ jaG jaS jan jaU jaE jar jaL jah jaB jaa jaz jaH jab ja2 z0_s jaq jai jaO jaA jat jau jav jaj jas jaJ jak jad jay jac) sz) := by
  refine Met.ofW (cc := cX11_fine) (maxL := 1) (ret := (some .boolean)) (by decide) rfl ?_
  intro p e s m args below meth c s₁ B hml hv
  obtain ⟨rfl, hsz, hP, hK, hD0, hNw⟩ := hv
  have hx := B.exec
  have hb := B.bytes
  have hr := B.returns
  have hts := atoms_spec (ws := wsX11_fine) B.pre
  have hown : s.vm.findClass RX11 = some m.cls := findClass_of_methodNamed B.named
  have hlocks := B.notSynchronized
  subst hsz
  have hD := hD0.self (sz := s.heap.size)
  generalize hAe : va_A (qabR a0 jaX jaF jaD ja7 jby jb8 jaM jaY jap jaK jal jam jax jao ja6 jaV ja8 jae jag jaf ja0 ja4 jaP jaw jaI jaZ jaG jaS jan jaU jaE jar jaL jah jaB jaa jaz jaH jab ja2 z0_s jaq jai jaO jaA jat jau jav jaj jas jaJ jak jad jay jac) s.heap.size = A at hD ⊢
  have hA : ∀ q : Nat, s.heap.size ≤ q → A q := fun q h => by rw [← hAe]; exact Or.inr h
  have hS : va_S A s.heap s.heap [] := va_S.rf
  have hP : va_P (dC, dI) vwCl (qabR a0 jaX jaF jaD ja7 jby jb8 jaM jaY jap jaK jal jam jax jao ja6 jaV ja8 jae jag jaf ja0 ja4 jaP jaw jaI jaZ jaG jaS jan jaU jaE jar jaL jah jaB jaa jaz jaH jab ja2 z0_s jaq jai jaO jaA jat jau jav jaj jas jaJ jak jad jay jac) s.heap := hP
  have hl := lv_entry ([.ref a0]) (n := 1) (nbq rfl)
  rw [lg_entry_eq]
  generalize (lg_sl ([.ref a0]) ++ List.replicate (1 - (lg_sl ([.ref a0])).length) Slot.unset).toArray = ls at hl ⊢
  have hl : lv_has ls 1 [(0, .ref a0)] := hl
  have C0 : cfx p s m _ meth c cX11_fine (some .boolean) wsX11_fine RX11 1 A (dC, dI) (kT cyB cyI cyJ cyP) := ⟨hx, hb, hr, hts, hown, hlocks, hml, hA, hK, hNw⟩
  clear hAe
  obtain ⟨H, hH⟩ : ∃ H, H = s.heap := ⟨_, rfl⟩
  rw [← hH] at hP ⊢
  have hS : va_S A s.heap H [] := by rw [hH]; exact va_S.rf
  have hS := hS
  refine lv_aload_n hx hb (qaa quZ 0 rfl) rfl (lv_at hl 0 rfl) ?_
  refine va_get (D := (dC, dI)) (ci := 11) (v := .int jb8) (C := RX11) (T := TX11) (N := 55) hx hb hts qaEi hown hK hP 0 rfl rfl 5 (by decide) (hts _ qatb) (fun _ h9 => h9) rfl (qaa quZ 1 rfl) ?_
  refine lv_iconst (v := (-1)) hx hb (qaa quZ 2 rfl) (by decide) ?_
  refine lv_icmp_ne (tgt := 12) hx hb (qaa quZ 3 rfl) (by decide) (fun c1 => ?_) (fun c1 => ?_)
  · have hw := hw.1 c1
    refine lv_iconst (v := 0) hx hb (qaa quZ 6 rfl) (by decide) ?_
    exact ((W.zret (v := 0) hx hb hr rfl (fun t ht hW => ⟨⟨0, (), rfl, hw, by rw [ht]; exact hP, va_K.moved hW.alike hK, hD⟩, hS.F ht⟩) hS.2.2 (qaa quZ 7 rfl)))
  · have hw := hw.2 c1
    refine lv_iconst (v := 1) hx hb (qaa quZ 4 rfl) (by decide) ?_
    refine lv_goto (tgt := 13) hx hb (qaa quZ 5 rfl) (by decide) ?_
    exact ((W.zret (v := 1) hx hb hr rfl (fun t ht hW => ⟨⟨1, (), rfl, hw, by rw [ht]; exact hP, va_K.moved hW.alike hK, hD⟩, hS.F ht⟩) hS.2.2 (qaa quZ 7 rfl)))
theorem qqv : ∀ w ∈ u_ws RX11 TX11 55, w ∈ wsX11_here := uiM q47 qfa (by decide +kernel)
theorem qww : (.fieldLink RX11 120 "MarchHaresModel" "at" "I" : Cond) ∈ wsX11_here := q47 1103 (by decide +kernel)
theorem qZK : (.fieldLink RX11 123 "MarchHaresModel" "size" "I" : Cond) ∈ wsX11_here := q47 1153 (by decide +kernel)
theorem q2y : (.fieldLink RX11 20 "MarchHaresModel" "tape" "[I" : Cond) ∈ wsX11_here := q47 400 (by decide +kernel)
set_option maxHeartbeats 4000000 in
set_option maxRecDepth 100000 in
theorem q7s {p : Program} {l : Launch} {e : Env} {s : State} {m : MethodId} {args : Array Value} {below : List Frame} {meth : Method} {c : Code} {A : Nat → Prop} (dC : Nat → ClassId) (dI : Nat → Nat → Nat) (cyB cyI cyJ cyP : ClassId) (a0 jaW : Nat) (jaX jaF jaD jbe jaM jaY jap jal jam jax jao ja6 jaV ja8 jae jag jaf ja0 ja4 jaP jaw jaI jaZ jaG jaS jan jaU jaE jar jaL jah jaB jaa jaz jaH jab ja2 z0_s jaq jai jaO jaA jat jau jav jaj jas jaJ jak jad jay jac : Value) (jbx : Int32) (jbC : NI) (Q : Int32 → Int32 → Prop) (C0 : cfx p s m args meth c cX11_here (some .int) wsX11_here RX11 1 A (dC, dI) (kT cyB cyI cyJ cyP)) : ∀ (H : Heap) (locs : List Loc) (ls : Array Slot) (jcP : Int32), va_P (dC, dI) vwCl (quE a0 jaX jaF jaD jbx jcP jbe jaM jaY jap jaW jal jam jax jao ja6 jaV ja8 jae jag jaf ja0 ja4 jaP jaw jaI jaZ jaG jaS jan jaU jaE jar jaL jah jaB jaa jaz jaH jab ja2 z0_s jaq jai jaO jaA jat jau jav jaj jas jaJ jak jad jay jac jaW cyI jbC) H → va_D A (quE a0 jaX jaF jaD jbx jcP jbe jaM jaY jap jaW jal jam jax jao ja6 jaV ja8 jae jag jaf ja0 ja4 jaP jaw jaI jaZ jaG jaS jan jaU jaE jar jaL jah jaB jaa jaz jaH jab ja2 z0_s jaq jai jaO jaA jat jau jav jaj jas jaJ jak jad jay jac jaW cyI jbC) → va_S A s.heap H locs → lv_has ls 1 [(0, .ref a0)] → qKo jbx jbC Q jcP → W p l e (headSpec wsX11_here ({ frames := 0, cells := 0, slots := 0, locals := 0 })).room s m args below meth c H locs 0 0 (MQ below (va_Qi (fun (r u : Int32) => Q r u) (cB (dC, dI) (kT cyB cyI cyJ cyP) A (fun u : Int32 => ((quE a0 jaX jaF jaD jbx u jbe jaM jaY jap jaW jal jam jax jao ja6 jaV ja8 jae jag jaf ja0 ja4 jaP jaw jaI jaZ jaG jaS jan jaU jaE jar jaL jah jaB jaa jaz jaH jab ja2 z0_s jaq jai jaO jaA jat jau jav jaj jas jaJ jak jad jay jac jaW cyI jbC) : va_W))) A) args s 0 0 A) (F0 m 38 ls []) := by
  obtain ⟨hx, hb, hr, hts, hown, hlocks, hml, hA, hK, hNw⟩ := id C0
  intro H locs ls jcP hP hD hS hl hw
  refine lv_aload_n hx hb (qaa qh8 3 rfl) rfl (lv_at hl 0 rfl) ?_
  refine va_get (D := (dC, dI)) (ci := 11) (v := .int jcP) (C := RX11) (T := TX11) (N := 55) hx hb hts qqv hown hK hP 0 rfl rfl 4 (by decide) (hts _ qww) (fun _ h9 => h9) rfl (qaa qh8 4 rfl) ?_
  refine lv_aload_n hx hb (qaa qh8 5 rfl) rfl (lv_at hl 0 rfl) ?_
  refine va_get (D := (dC, dI)) (ci := 11) (v := .int jbx) (C := RX11) (T := TX11) (N := 55) hx hb hts qqv hown hK hP 0 rfl rfl 3 (by decide) (hts _ qZK) (fun _ h9 => h9) rfl (qaa qh8 6 rfl) ?_
  refine lv_icmp_ge (tgt := 61) hx hb (qaa qh8 7 rfl) (by decide) (fun c5 => ?_) (fun c5 => ?_)
  · have hw := hw.1 c5
    refine lv_iconst (v := 0) hx hb (qaa qh8 14 rfl) (by decide) ?_
    exact ((W.iret (v := 0) hx hb hr (fun t ht hW => ⟨⟨0, (jcP), rfl, hw, by rw [ht]; exact hP, va_K.moved hW.alike hK, hD⟩, hS.F ht⟩) hS.2.2 (qaa qh8 15 rfl)))
  · have hw := hw.2 c5
    refine lv_aload_n hx hb (qaa qh8 8 rfl) rfl (lv_at hl 0 rfl) ?_
    refine va_get (D := (dC, dI)) (ci := 11) (v := .ref jaW) (C := RX11) (T := TX11) (N := 55) hx hb hts qqv hown hK hP 0 rfl rfl 9 (by decide) (hts _ q2y) (fun _ h9 => h9) rfl (qaa qh8 9 rfl) ?_
    refine lv_aload_n hx hb (qaa qh8 10 rfl) rfl (lv_at hl 0 rfl) ?_
    refine va_get (D := (dC, dI)) (ci := 11) (v := .int jcP) (C := RX11) (T := TX11) (N := 55) hx hb hts qqv hown hK hP 0 rfl rfl 4 (by decide) (hts _ qww) (fun _ h9 => h9) rfl (qaa qh8 11 rfl) ?_
    obtain ⟨hi9, hw⟩ := hw
    refine va_iald hx hb hK hP 1 1 rfl rfl hi9 (qaa qh8 12 rfl) ?_
    refine lv_topi (fun x6 ex6 => ?_)
    have hw := hw x6 ex6
    refine lv_goto (tgt := 62) hx hb (qaa qh8 13 rfl) (by decide) ?_
    exact ((W.iret (v := x6) hx hb hr (fun t ht hW => ⟨⟨x6, (jcP), rfl, hw, by rw [ht]; exact hP, va_K.moved hW.alike hK, hD⟩, hS.F ht⟩) hS.2.2 (qaa qh8 15 rfl)))
set_option maxHeartbeats 4000000 in
set_option maxRecDepth 100000 in
theorem qaRX {p : Program} {l : Launch} {e : Env} {s : State} {m : MethodId} {args : Array Value} {below : List Frame} {meth : Method} {c : Code} {A : Nat → Prop} (dC : Nat → ClassId) (dI : Nat → Nat → Nat) (cyB cyI cyJ cyP : ClassId) (a0 jaW : Nat) (jaX jaF jaD jbe jaM jaY jap jal jam jax jao ja6 jaV ja8 jae jag jaf ja0 ja4 jaP jaw jaI jaZ jaG jaS jan jaU jaE jar jaL jah jaB jaa jaz jaH jab ja2 z0_s jaq jai jaO jaA jat jau jav jaj jas jaJ jak jad jay jac : Value) (jbx : Int32) (jbC : NI) (Q : Int32 → Int32 → Prop) (C0 : cfx p s m args meth c cX11_here (some .int) wsX11_here RX11 1 A (dC, dI) (kT cyB cyI cyJ cyP)) : ∀ (n : Nat) (H : Heap) (locs : List Loc) (ls : Array Slot) (jcP : Int32), va_P (dC, dI) vwCl (quE a0 jaX jaF jaD jbx jcP jbe jaM jaY jap jaW jal jam jax jao ja6 jaV ja8 jae jag jaf ja0 ja4 jaP jaw jaI jaZ jaG jaS jan jaU jaE jar jaL jah jaB jaa jaz jaH jab ja2 z0_s jaq jai jaO jaA jat jau jav jaj jas jaJ jak jad jay jac jaW cyI jbC) H → va_D A (quE a0 jaX jaF jaD jbx jcP jbe jaM jaY jap jaW jal jam jax jao ja6 jaV ja8 jae jag jaf ja0 ja4 jaP jaw jaI jaZ jaG jaS jan jaU jaE jar jaL jah jaB jaa jaz jaH jab ja2 z0_s jaq jai jaO jaA jat jau jav jaj jas jaJ jak jad jay jac jaW cyI jbC) → va_S A s.heap H locs → lv_has ls 1 [(0, .ref a0)] → qOn jbx jbC Q n jcP → W p l e (headSpec wsX11_here ({ frames := 0, cells := 0, slots := 0, locals := 0 })).room s m args below meth c H locs 0 0 (MQ below (va_Qi (fun (r u : Int32) => Q r u) (cB (dC, dI) (kT cyB cyI cyJ cyP) A (fun u : Int32 => ((quE a0 jaX jaF jaD jbx u jbe jaM jaY jap jaW jal jam jax jao ja6 jaV ja8 jae jag jaf ja0 ja4 jaP jaw jaI jaZ jaG jaS jan jaU jaE jar jaL jah jaB jaa jaz jaH jab ja2 z0_s jaq jai jaO jaA jat jau jav jaj jas jaJ jak jad jay jac jaW cyI jbC) : va_W))) A) args s 0 0 A) (F0 m 0 ls []) := by
  obtain ⟨hx, hb, hr, hts, hown, hlocks, hml, hA, hK, hNw⟩ := id C0
  intro n
  induction n with
  | zero => intro H locs ls jcP hP hD hS hl hw; exact False.elim hw
  | succ n ih =>
    intro H locs ls jcP hP hD hS hl hw
    refine lv_aload_n hx hb (qaa qmF 0 rfl) rfl (lv_at hl 0 rfl) ?_
    refine va_get (D := (dC, dI)) (ci := 11) (v := .int jcP) (C := RX11) (T := TX11) (N := 55) hx hb hts qqv hown hK hP 0 rfl rfl 4 (by decide) (hts _ qww) (fun _ h9 => h9) rfl (qaa qmF 1 rfl) ?_
    refine lv_aload_n hx hb (qaa qmF 2 rfl) rfl (lv_at hl 0 rfl) ?_
    refine va_get (D := (dC, dI)) (ci := 11) (v := .int jbx) (C := RX11) (T := TX11) (N := 55) hx hb hts qqv hown hK hP 0 rfl rfl 3 (by decide) (hts _ qZK) (fun _ h9 => h9) rfl (qaa qmF 3 rfl) ?_
    refine lv_icmp_ge (tgt := 38) hx hb (qaa qmF 4 rfl) (by decide) (fun c1 => ?_) (fun c1 => ?_)
    · have hw := hw.1 c1
      exact q7s dC dI cyB cyI cyJ cyP a0 jaW jaX jaF jaD jbe jaM jaY jap jal jam jax jao ja6 jaV ja8 jae jag jaf ja0 ja4 jaP jaw jaI jaZ jaG jaS jan jaU jaE jar jaL jah jaB jaa jaz jaH jab ja2 z0_s jaq jai jaO jaA jat jau jav jaj jas jaJ jak jad jay jac jbx jbC Q C0 _ _ _ jcP hP hD hS (lv_sub hl [0] rfl) hw
    · have hw := hw.2 c1
      refine lv_aload_n hx hb (qaa qmF 5 rfl) rfl (lv_at hl 0 rfl) ?_
      refine va_get (D := (dC, dI)) (ci := 11) (v := .ref jaW) (C := RX11) (T := TX11) (N := 55) hx hb hts qqv hown hK hP 0 rfl rfl 9 (by decide) (hts _ q2y) (fun _ h9 => h9) rfl (qaa qmF 6 rfl) ?_
      refine lv_aload_n hx hb (qaa qmF 7 rfl) rfl (lv_at hl 0 rfl) ?_
      refine va_get (D := (dC, dI)) (ci := 11) (v := .int jcP) (C := RX11) (T := TX11) (N := 55) hx hb hts qqv hown hK hP 0 rfl rfl 4 (by decide) (hts _ qww) (fun _ h9 => h9) rfl (qaa qmF 8 rfl) ?_
      obtain ⟨hi9, hw⟩ := hw
      refine va_iald hx hb hK hP 1 1 rfl rfl hi9 (qaa qmF 9 rfl) ?_
      refine lv_topi (fun x2 ex2 => ?_)
      have hw := hw x2 ex2
      refine lv_bipush (v := 32) hx hb (qaa qmF 10 rfl) (by decide) ?_
      refine lv_icmp_ne (tgt := 38) hx hb (qaa qmF 11 rfl) (by decide) (fun c3 => ?_) (fun c3 => ?_)
      · have hw := hw.1 c3
        exact q7s dC dI cyB cyI cyJ cyP a0 jaW jaX jaF jaD jbe jaM jaY jap jal jam jax jao ja6 jaV ja8 jae jag jaf ja0 ja4 jaP jaw jaI jaZ jaG jaS jan jaU jaE jar jaL jah jaB jaa jaz jaH jab ja2 z0_s jaq jai jaO jaA jat jau jav jaj jas jaJ jak jad jay jac jbx jbC Q C0 _ _ _ jcP hP hD hS (lv_sub hl [0] rfl) hw
      · have hw := hw.2 c3
        refine lv_aload_n hx hb (qaa qmF 12 rfl) rfl (lv_at hl 0 rfl) ?_
        refine lv_dup hx hb (qaa qmF 13 rfl) rfl ?_
        refine va_get (D := (dC, dI)) (ci := 11) (v := .int jcP) (C := RX11) (T := TX11) (N := 55) hx hb hts qqv hown hK hP 0 rfl rfl 4 (by decide) (hts _ qww) (fun _ h9 => h9) rfl (qaa qmF 14 rfl) ?_
        refine lv_iconst (v := 1) hx hb (qaa qmF 15 rfl) (by decide) ?_
        refine lv_iadd hx hb (qaa qh8 0 rfl) ?_
        refine lv_topi (fun x4 ex4 => ?_)
        have hw := hw x4 ex4
        refine va_put (D := (dC, dI)) (ci := 11) (v := .int x4) (ty := .int) (C := RX11) (T := TX11) (N := 55) hx hb hts qqv tyX11 tyX11_ok nmX11 hown hK hP hD hS 0 rfl rfl 4 (by decide) (hts _ qww) (fun _ h9 => h9) rfl (by decide +kernel) rfl rfl (nbq rfl) (qaa qh8 1 rfl) (fun H locs hP hD hS => ?_)
        have hP : va_P (dC, dI) vwCl (quE a0 jaX jaF jaD jbx x4 jbe jaM jaY jap jaW jal jam jax jao ja6 jaV ja8 jae jag jaf ja0 ja4 jaP jaw jaI jaZ jaG jaS jan jaU jaE jar jaL jah jaB jaa jaz jaH jab ja2 z0_s jaq jai jaO jaA jat jau jav jaj jas jaJ jak jad jay jac jaW cyI jbC) H := hP
        have hD : va_D A (quE a0 jaX jaF jaD jbx x4 jbe jaM jaY jap jaW jal jam jax jao ja6 jaV ja8 jae jag jaf ja0 ja4 jaP jaw jaI jaZ jaG jaS jan jaU jaE jar jaL jah jaB jaa jaz jaH jab ja2 z0_s jaq jai jaO jaA jat jau jav jaj jas jaJ jak jad jay jac jaW cyI jbC) := hD
        refine lv_goto (tgt := 0) hx hb (qaa qh8 2 rfl) (by decide) ?_
        exact ih _ _ _ x4 hP hD hS (lv_sub hl [0] rfl) hw
set_option maxHeartbeats 4000000 in
set_option maxRecDepth 100000 in
theorem qeS (l : Launch) (dC : Nat → ClassId) (dI : Nat → Nat → Nat) (cyB cyI cyJ cyP : ClassId) (a0 jaW sz : Nat) (jaX jaF jaD jbe jaM jaY jap jal jam jax jao ja6 jaV ja8 jae jag jaf ja0 ja4 jaP jaw jaI jaZ jaG jaS jan jaU jaE jar jaL jah jaB jaa jaz jaH jab ja2 z0_s jaq jai jaO jaA jat jau jav jaj jas jaJ jak jad jay jac : Value) (jbx : Int32) (jbC : NI) (jcP : Int32) {Q : Int32 → Int32 → Prop} (hw : qbM jbx jbC jcP Q) : Met l yX11_here wsX11_here ({ frames := 0, cells := 0, slots := 0, locals := 0 }) (va_Pc [.ref a0] (cPc (dC, dI) (kT cyB cyI cyJ cyP) (quE a0 jaX jaF jaD jbx jcP jbe jaM jaY jap jaW jal jam jax jao ja6 jaV ja8 jae jag jaf ja0 ja4 jaP jaw jaI jaZ jaG jaS jan jaU jaE jar jaL jah jaB jaa jaz jaH jab ja2 z0_s jaq jai jaO jaA jat jau jav jaj jas jaJ jak jad jay jac jaW cyI jbC) sz)) (va_Qi (fun (r u : Int32) => Q r u) (cB (dC, dI) (kT cyB cyI cyJ cyP) (va_A (quE a0 jaX jaF jaD jbx jcP jbe jaM jaY jap jaW jal jam jax jao ja6 jaV ja8 jae jag jaf ja0 ja4 jaP jaw jaI jaZ jaG jaS jan jaU jaE jar jaL jah jaB jaa jaz jaH jab ja2 z0_s jaq jai jaO jaA jat jau jav jaj jas jaJ jak jad jay jac jaW cyI jbC) sz) (fun u : Int32 => ((quE a0 jaX jaF jaD jbx u jbe jaM jaY jap jaW jal jam jax jao ja6 jaV ja8 jae jag jaf ja0 ja4 jaP jaw jaI jaZ jaG jaS jan jaU jaE jar jaL jah jaB jaa jaz jaH jab ja2 z0_s jaq jai jaO jaA jat jau jav jaj jas jaJ jak jad jay jac jaW cyI jbC) : va_W))) (va_A (quE a0 jaX jaF jaD jbx jcP jbe jaM jaY jap jaW jal jam jax jao ja6 jaV ja8 jae jag jaf ja0 ja4 jaP jaw jaI jaZ jaG jaS jan jaU jaE jar jaL jah jaB jaa jaz jaH jab ja2 z0_s jaq jai jaO jaA jat jau jav jaj jas jaJ jak jad jay jac jaW cyI jbC) sz)) 0 0 (va_A (quE a0 jaX jaF jaD jbx jcP jbe jaM jaY jap jaW jal jam jax jao ja6 jaV ja8 jae jag jaf ja0 ja4 jaP jaw jaI jaZ jaG jaS jan jaU jaE jar jaL jah jaB jaa jaz jaH jab ja2 z0_s jaq jai jaO jaA jat jau jav jaj jas jaJ jak jad jay jac jaW cyI jbC) sz) := by
  refine Met.ofW (cc := cX11_here) (maxL := 1) (ret := (some .int)) (by decide) rfl ?_
  intro p e s m args below meth c s₁ B hml hv
  obtain ⟨rfl, hsz, hP, hK, hD0, hNw⟩ := hv
  have hx := B.exec
  have hb := B.bytes
  have hr := B.returns
  have hts := atoms_spec (ws := wsX11_here) B.pre
  have hown : s.vm.findClass RX11 = some m.cls := findClass_of_methodNamed B.named
  have hlocks := B.notSynchronized
  subst hsz
  have hD := hD0.self (sz := s.heap.size)
  generalize hAe : va_A (quE a0 jaX jaF jaD jbx jcP jbe jaM jaY jap jaW jal jam jax jao ja6 jaV ja8 jae jag jaf ja0 ja4 jaP jaw jaI jaZ jaG jaS jan jaU jaE jar jaL jah jaB jaa jaz jaH jab ja2 z0_s jaq jai jaO jaA jat jau jav jaj jas jaJ jak jad jay jac jaW cyI jbC) s.heap.size = A at hD ⊢
  have hA : ∀ q : Nat, s.heap.size ≤ q → A q := fun q h => by rw [← hAe]; exact Or.inr h
  have hS : va_S A s.heap s.heap [] := va_S.rf
  have hP : va_P (dC, dI) vwCl (quE a0 jaX jaF jaD jbx jcP jbe jaM jaY jap jaW jal jam jax jao ja6 jaV ja8 jae jag jaf ja0 ja4 jaP jaw jaI jaZ jaG jaS jan jaU jaE jar jaL jah jaB jaa jaz jaH jab ja2 z0_s jaq jai jaO jaA jat jau jav jaj jas jaJ jak jad jay jac jaW cyI jbC) s.heap := hP
  have hl := lv_entry ([.ref a0]) (n := 1) (nbq rfl)
  rw [lg_entry_eq]
  generalize (lg_sl ([.ref a0]) ++ List.replicate (1 - (lg_sl ([.ref a0])).length) Slot.unset).toArray = ls at hl ⊢
  have hl : lv_has ls 1 [(0, .ref a0)] := hl
  have C0 : cfx p s m _ meth c cX11_here (some .int) wsX11_here RX11 1 A (dC, dI) (kT cyB cyI cyJ cyP) := ⟨hx, hb, hr, hts, hown, hlocks, hml, hA, hK, hNw⟩
  clear hAe
  obtain ⟨H, hH⟩ : ∃ H, H = s.heap := ⟨_, rfl⟩
  rw [← hH] at hP ⊢
  have hS : va_S A s.heap H [] := by rw [hH]; exact va_S.rf
  have hS := hS
  obtain ⟨n9, hw⟩ := hw
  exact qaRX dC dI cyB cyI cyJ cyP a0 jaW jaX jaF jaD jbe jaM jaY jap jal jam jax jao ja6 jaV ja8 jae jag jaf ja0 ja4 jaP jaw jaI jaZ jaG jaS jan jaU jaE jar jaL jah jaB jaa jaz jaH jab ja2 z0_s jaq jai jaO jaA jat jau jav jaj jas jaJ jak jad jay jac jbx jbC Q C0 n9 _ _ _ jcP hP hD hS (lv_sub hl [0] rfl) hw
theorem qVk : ∀ w ∈ u_ws RX11 TX11 55, w ∈ wsX11_isMore := uiM qLs qfa (by decide +kernel)
theorem qah0 : (.fieldLink RX11 120 "MarchHaresModel" "at" "I" : Cond) ∈ wsX11_isMore := qLs 1103 (by decide +kernel)
theorem qagZ : (.fieldLink RX11 123 "MarchHaresModel" "size" "I" : Cond) ∈ wsX11_isMore := qLs 1153 (by decide +kernel)
set_option maxHeartbeats 4000000 in
set_option maxRecDepth 100000 in
theorem qNT (l : Launch) (dC : Nat → ClassId) (dI : Nat → Nat → Nat) (cyB cyI cyJ cyP : ClassId) (a0 jaW sz : Nat) (jaX jaF jaD jbe jaM jaY jap jal jam jax jao ja6 jaV ja8 jae jag jaf ja0 ja4 jaP jaw jaI jaZ jaG jaS jan jaU jaE jar jaL jah jaB jaa jaz jaH jab ja2 z0_s jaq jai jaO jaA jat jau jav jaj jas jaJ jak jad jay jac : Value) (jbx : Int32) (jbC : NI) (jcP : Int32) {Q : Int32 → Int32 → Prop} (hw : qsp jbx jbC jcP Q) : Met l yX11_isMore wsX11_isMore ({ frames := 1, cells := 0, slots := 0, locals := 20 }) (va_Pc [.ref a0] (cPc (dC, dI) (kT cyB cyI cyJ cyP) (quE a0 jaX jaF jaD jbx jcP jbe jaM jaY jap jaW jal jam jax jao ja6 jaV ja8 jae jag jaf ja0 ja4 jaP jaw jaI jaZ jaG jaS jan jaU jaE jar jaL jah jaB jaa jaz jaH jab ja2 z0_s jaq jai jaO jaA jat jau jav jaj jas jaJ jak jad jay jac jaW cyI jbC) sz)) (va_Qi (fun (r u : Int32) => Q r u) (cB (dC, dI) (kT cyB cyI cyJ cyP) (va_A (quE a0 jaX jaF jaD jbx jcP jbe jaM jaY jap jaW jal jam jax jao ja6 jaV ja8 jae jag jaf ja0 ja4 jaP jaw jaI jaZ jaG jaS jan jaU jaE jar jaL jah jaB jaa jaz jaH jab ja2 z0_s jaq jai jaO jaA jat jau jav jaj jas jaJ jak jad jay jac jaW cyI jbC) sz) (fun u : Int32 => ((quE a0 jaX jaF jaD jbx u jbe jaM jaY jap jaW jal jam jax jao ja6 jaV ja8 jae jag jaf ja0 ja4 jaP jaw jaI jaZ jaG jaS jan jaU jaE jar jaL jah jaB jaa jaz jaH jab ja2 z0_s jaq jai jaO jaA jat jau jav jaj jas jaJ jak jad jay jac jaW cyI jbC) : va_W))) (va_A (quE a0 jaX jaF jaD jbx jcP jbe jaM jaY jap jaW jal jam jax jao ja6 jaV ja8 jae jag jaf ja0 ja4 jaP jaw jaI jaZ jaG jaS jan jaU jaE jar jaL jah jaB jaa jaz jaH jab ja2 z0_s jaq jai jaO jaA jat jau jav jaj jas jaJ jak jad jay jac jaW cyI jbC) sz)) 0 0 (va_A (quE a0 jaX jaF jaD jbx jcP jbe jaM jaY jap jaW jal jam jax jao ja6 jaV ja8 jae jag jaf ja0 ja4 jaP jaw jaI jaZ jaG jaS jan jaU jaE jar jaL jah jaB jaa jaz jaH jab ja2 z0_s jaq jai jaO jaA jat jau jav jaj jas jaJ jak jad jay jac jaW cyI jbC) sz) := by
  refine Met.ofW (cc := cX11_isMore) (maxL := 1) (ret := (some .boolean)) (by decide) rfl ?_
  intro p e s m args below meth c s₁ B hml hv
  obtain ⟨rfl, hsz, hP, hK, hD0, hNw⟩ := hv
  have hx := B.exec
  have hb := B.bytes
  have hr := B.returns
  have hts := atoms_spec (ws := wsX11_isMore) B.pre
  have hown : s.vm.findClass RX11 = some m.cls := findClass_of_methodNamed B.named
  have hlocks := B.notSynchronized
  subst hsz
  have hD := hD0.self (sz := s.heap.size)
  generalize hAe : va_A (quE a0 jaX jaF jaD jbx jcP jbe jaM jaY jap jaW jal jam jax jao ja6 jaV ja8 jae jag jaf ja0 ja4 jaP jaw jaI jaZ jaG jaS jan jaU jaE jar jaL jah jaB jaa jaz jaH jab ja2 z0_s jaq jai jaO jaA jat jau jav jaj jas jaJ jak jad jay jac jaW cyI jbC) s.heap.size = A at hD ⊢
  have hA : ∀ q : Nat, s.heap.size ≤ q → A q := fun q h => by rw [← hAe]; exact Or.inr h
  have hS : va_S A s.heap s.heap [] := va_S.rf
  have hP : va_P (dC, dI) vwCl (quE a0 jaX jaF jaD jbx jcP jbe jaM jaY jap jaW jal jam jax jao ja6 jaV ja8 jae jag jaf ja0 ja4 jaP jaw jaI jaZ jaG jaS jan jaU jaE jar jaL jah jaB jaa jaz jaH jab ja2 z0_s jaq jai jaO jaA jat jau jav jaj jas jaJ jak jad jay jac jaW cyI jbC) s.heap := hP
  have hl := lv_entry ([.ref a0]) (n := 1) (nbq rfl)
  rw [lg_entry_eq]
  generalize (lg_sl ([.ref a0]) ++ List.replicate (1 - (lg_sl ([.ref a0])).length) Slot.unset).toArray = ls at hl ⊢
  have hl : lv_has ls 1 [(0, .ref a0)] := hl
  have C0 : cfx p s m _ meth c cX11_isMore (some .boolean) wsX11_isMore RX11 1 A (dC, dI) (kT cyB cyI cyJ cyP) := ⟨hx, hb, hr, hts, hown, hlocks, hml, hA, hK, hNw⟩
  clear hAe
  obtain ⟨H, hH⟩ : ∃ H, H = s.heap := ⟨_, rfl⟩
  rw [← hH] at hP ⊢
  have hS : va_S A s.heap H [] := by rw [hH]; exact va_S.rf
  have hS := hS
  refine lv_aload_n hx hb (qaa qm5 0 rfl) rfl (lv_at hl 0 rfl) ?_
  obtain ⟨hCc, hPc, hDc, hFc⟩ := qac (ws' := (quE a0 jaX jaF jaD jbx jcP jbe jaM jaY jap jaW jal jam jax jao ja6 jaV ja8 jae jag jaf ja0 ja4 jaP jaw jaI jaZ jaG jaS jan jaU jaE jar jaL jah jaB jaa jaz jaH jab ja2 z0_s jaq jai jaO jaA jat jau jav jaj jas jaJ jak jad jay jac jaW cyI jbC)) hP hD hS hA [0, 1] (by decide +kernel) rfl
  refine va_calli (va_runV (As := []) (rest := []) ⟨hx, hb, hml, hown, hts⟩ (qeS l dC dI cyB cyI cyJ cyP a0 jaW H.size (jaX) (jaF) (jaD) (jbe) (jaM) (jaY) (jap) (jal) (jam) (jax) (jao) (ja6) (jaV) (ja8) (jae) (jag) (jaf) (ja0) (ja4) (jaP) (jaw) (jaI) (jaZ) (jaG) (jaS) (jan) (jaU) (jaE) (jar) (jaL) (jah) (jaB) (jaa) (jaz) (jaH) (jab) (ja2) (z0_s) (jaq) (jai) (jaO) (jaA) (jat) (jau) (jav) (jaj) (jas) (jaJ) (jak) (jad) (jay) (jac) jbx jbC jcP hw) (cwV 0 hts gX11_isMore_X11_here rfl rfl rfl (by decide +kernel) ⟨nbq rfl, nbq rfl⟩) ⟨qab, va_recv (q := (RX11, TX11, 55)) hK hPc (ci := 11) (q0 := 0) rfl rfl, qae hPc hK hDc hNw⟩ rfl rfl hl.1 rfl (lv_room (nbq rfl)) (qaa qm5 1 rfl) ⟨nbq rfl, nbq rfl⟩) hS (fun q _ h => hFc q h) hFc (fun r2 u t H1 locs ht hvm hw hB hz1 hk1 hS => ?_)
  obtain ⟨x1, rfl⟩ : ∃ z, z = u := ⟨_, rfl⟩
  obtain ⟨hP1, hK1, hD1⟩ := hB
  rw [ht] at hP1
  obtain ⟨hP, hD⟩ := qah (wr := []) (w1 := (quE a0 jaX jaF jaD jbx x1 jbe jaM jaY jap jaW jal jam jax jao ja6 jaV ja8 jae jag jaf ja0 ja4 jaP jaw jaI jaZ jaG jaS jan jaU jaE jar jaL jah jaB jaa jaz jaH jab ja2 z0_s jaq jai jaO jaA jat jau jav jaj jas jaJ jak jad jay jac jaW cyI jbC)) (wn := (quE a0 jaX jaF jaD jbx x1 jbe jaM jaY jap jaW jal jam jax jao ja6 jaV ja8 jae jag jaf ja0 ja4 jaP jaw jaI jaZ jaG jaS jan jaU jaE jar jaL jah jaB jaa jaz jaH jab ja2 z0_s jaq jai jaO jaA jat jau jav jaj jas jaJ jak jad jay jac jaW cyI jbC)) hP hD [0, 1] [] hCc rfl (by decide +kernel) (by decide +kernel) rfl hk1 hFc hP1 hD1
  generalize H1 = H at hP hS ⊢
  refine lv_pop hx hb (qaa qm5 2 rfl) rfl ?_
  refine lv_aload_n hx hb (qaa qm5 3 rfl) rfl (lv_at hl 0 rfl) ?_
  refine va_get (D := (dC, dI)) (ci := 11) (v := .int x1) (C := RX11) (T := TX11) (N := 55) hx hb hts qVk hown hK hP 0 rfl rfl 4 (by decide) (hts _ qah0) (fun _ h9 => h9) rfl (qaa qm5 4 rfl) ?_
  refine lv_aload_n hx hb (qaa qm5 5 rfl) rfl (lv_at hl 0 rfl) ?_
  refine va_get (D := (dC, dI)) (ci := 11) (v := .int jbx) (C := RX11) (T := TX11) (N := 55) hx hb hts qVk hown hK hP 0 rfl rfl 3 (by decide) (hts _ qagZ) (fun _ h9 => h9) rfl (qaa qm5 6 rfl) ?_
  refine lv_icmp_ge (tgt := 20) hx hb (qaa qm5 7 rfl) (by decide) (fun c3 => ?_) (fun c3 => ?_)
  · have hw := hw.1 c3
    refine lv_iconst (v := 0) hx hb (qaa qm5 10 rfl) (by decide) ?_
    exact ((W.zret (v := 0) hx hb hr rfl (fun t ht hW => ⟨⟨0, (x1), rfl, hw, by rw [ht]; exact hP, va_K.moved hW.alike hK, hD⟩, hS.F ht⟩) hS.2.2 (qaa qm5 11 rfl)))
  · have hw := hw.2 c3
    refine lv_iconst (v := 1) hx hb (qaa qm5 8 rfl) (by decide) ?_
    refine lv_goto (tgt := 21) hx hb (qaa qm5 9 rfl) (by decide) ?_
    exact ((W.zret (v := 1) hx hb hr rfl (fun t ht hW => ⟨⟨1, (x1), rfl, hw, by rw [ht]; exact hP, va_K.moved hW.alike hK, hD⟩, hS.F ht⟩) hS.2.2 (qaa qm5 11 rfl)))
set_option maxHeartbeats 4000000 in
set_option maxRecDepth 100000 in
theorem qKq (l : Launch) (dC : Nat → ClassId) (dI : Nat → Nat → Nat) (cyB cyI cyJ cyP : ClassId) (sz : Nat) (p0 : Int32) {Q : Int32 → Prop} (hw : qAr p0 Q) : Met l yX11_isDigit wsX11_isDigit ({ frames := 0, cells := 0, slots := 0, locals := 0 }) (va_Pc [.int p0] (cPc (dC, dI) (kT cyB cyI cyJ cyP) [] sz)) (va_Qi (fun (r : Int32) (_ : Unit) => Q r ) (cB (dC, dI) (kT cyB cyI cyJ cyP) (va_A [] sz) (fun u : Unit => ([] : va_W))) (va_A [] sz)) 0 0 (va_A [] sz) := by
  refine Met.ofW (cc := cX11_isDigit) (maxL := 1) (ret := (some .boolean)) (by decide) rfl ?_
  intro p e s m args below meth c s₁ B hml hv
  obtain ⟨rfl, hsz, hP, hK, hD0, hNw⟩ := hv
  have hx := B.exec
  have hb := B.bytes
  have hr := B.returns
  have hts := atoms_spec (ws := wsX11_isDigit) B.pre
  have hown : s.vm.findClass RX11 = some m.cls := findClass_of_methodNamed B.named
  have hlocks := B.notSynchronized
  subst hsz
  have hD := hD0.self (sz := s.heap.size)
  generalize hAe : va_A [] s.heap.size = A at hD ⊢
  have hA : ∀ q : Nat, s.heap.size ≤ q → A q := fun q h => by rw [← hAe]; exact Or.inr h
  have hS : va_S A s.heap s.heap [] := va_S.rf
  have hP : va_P (dC, dI) vwCl [] s.heap := hP
  have hl := lv_entry ([.int p0]) (n := 1) (nbq rfl)
  rw [lg_entry_eq]
  generalize (lg_sl ([.int p0]) ++ List.replicate (1 - (lg_sl ([.int p0])).length) Slot.unset).toArray = ls at hl ⊢
  have hl : lv_has ls 1 [(0, .int p0)] := hl
  have C0 : cfx p s m _ meth c cX11_isDigit (some .boolean) wsX11_isDigit RX11 1 A (dC, dI) (kT cyB cyI cyJ cyP) := ⟨hx, hb, hr, hts, hown, hlocks, hml, hA, hK, hNw⟩
  clear hAe
  obtain ⟨H, hH⟩ : ∃ H, H = s.heap := ⟨_, rfl⟩
  rw [← hH] at hP ⊢
  have hS : va_S A s.heap H [] := by rw [hH]; exact va_S.rf
  have hS := hS
  refine lv_iload_n hx hb (qaa qkL 0 rfl) rfl (lv_at hl 0 rfl) ?_
  refine lv_bipush (v := 48) hx hb (qaa qkL 1 rfl) (by decide) ?_
  refine lv_icmp_lt (tgt := 16) hx hb (qaa qkL 2 rfl) (by decide) (fun c1 => ?_) (fun c1 => ?_)
  · have hw := hw.1 c1
    refine lv_iconst (v := 0) hx hb (qaa qkL 8 rfl) (by decide) ?_
    exact ((W.zret (v := 0) hx hb hr rfl (fun t ht hW => ⟨⟨0, (), rfl, hw, by rw [ht]; exact hP, va_K.moved hW.alike hK, hD⟩, hS.F ht⟩) hS.2.2 (qaa qkL 9 rfl)))
  · have hw := hw.2 c1
    refine lv_iload_n hx hb (qaa qkL 3 rfl) rfl (lv_at hl 0 rfl) ?_
    refine lv_bipush (v := 57) hx hb (qaa qkL 4 rfl) (by decide) ?_
    refine lv_icmp_gt (tgt := 16) hx hb (qaa qkL 5 rfl) (by decide) (fun c2 => ?_) (fun c2 => ?_)
    · have hw := hw.1 c2
      refine lv_iconst (v := 0) hx hb (qaa qkL 8 rfl) (by decide) ?_
      exact ((W.zret (v := 0) hx hb hr rfl (fun t ht hW => ⟨⟨0, (), rfl, hw, by rw [ht]; exact hP, va_K.moved hW.alike hK, hD⟩, hS.F ht⟩) hS.2.2 (qaa qkL 9 rfl)))
    · have hw := hw.2 c2
      refine lv_iconst (v := 1) hx hb (qaa qkL 6 rfl) (by decide) ?_
      refine lv_goto (tgt := 17) hx hb (qaa qkL 7 rfl) (by decide) ?_
      exact ((W.zret (v := 1) hx hb hr rfl (fun t ht hW => ⟨⟨1, (), rfl, hw, by rw [ht]; exact hP, va_K.moved hW.alike hK, hD⟩, hS.F ht⟩) hS.2.2 (qaa qkL 9 rfl)))
theorem qM9 : ∀ w ∈ u_ws RX11 TX11 55, w ∈ wsX11_wrong := uiM qab0 qfa (by decide +kernel)
theorem qV0 : (.fieldLink RX11 114 "MarchHaresModel" "bad" "I" : Cond) ∈ wsX11_wrong := qab0 1104 (by decide +kernel)
theorem qaiO : (.fieldLink RX11 117 "MarchHaresModel" "badKind" "I" : Cond) ∈ wsX11_wrong := qab0 1226 (by decide +kernel)
set_option maxHeartbeats 4000000 in
set_option maxRecDepth 100000 in
theorem qrt (l : Launch) (dC : Nat → ClassId) (dI : Nat → Nat → Nat) (cyB cyI cyJ cyP : ClassId) (a0 sz : Nat) (jaX jaF jaD ja7 jby jaY jap jaK jal jam jax jao ja6 jaV ja8 jae jag jaf ja0 ja4 jaP jaw jaI jaZ jaG jaS jan jaU jaE jar jaL jah jaB jaa jaz jaH jab ja2 z0_s jaq jai jaO jaA jat jau jav jaj jas jaJ jak jad jay jac : Value) (jb8 jbh p1 p2 : Int32) {Q : Int32 → Int32 → Prop} (hw : qnx jb8 jbh p1 p2 Q) : Met l yX11_wrong wsX11_wrong ({ frames := 0, cells := 0, slots := 0, locals := 0 }) (va_Pc [.ref a0, .int p1, .int p2] (cPc (dC, dI) (kT cyB cyI cyJ cyP) (qQ7 a0 jaX jaF jaD ja7 jby jb8 jbh jaY jap jaK jal jam jax jao ja6 jaV ja8 jae jag jaf ja0 ja4 jaP jaw jaI jaZ jaG jaS jan jaU jaE jar jaL jah jaB jaa jaz jaH jab ja2 z0_s jaq jai jaO jaA jat jau jav jaj jas jaJ jak jad jay jac) sz)) (va_Qv (fun (u : Int32 × Int32) => Q u.1 u.2) (cB (dC, dI) (kT cyB cyI cyJ cyP) (va_A (qQ7 a0 jaX jaF jaD ja7 jby jb8 jbh jaY jap jaK jal jam jax jao ja6 jaV ja8 jae jag jaf ja0 ja4 jaP jaw jaI jaZ jaG jaS jan jaU jaE jar jaL jah jaB jaa jaz jaH jab ja2 z0_s jaq jai jaO jaA jat jau jav jaj jas jaJ jak jad jay jac) sz) (fun u : Int32 × Int32 => ((qQ7 a0 jaX jaF jaD ja7 jby u.1 u.2 jaY jap jaK jal jam jax jao ja6 jaV ja8 jae jag jaf ja0 ja4 jaP jaw jaI jaZ jaG jaS jan jaU jaE jar jaL jah jaB jaa jaz jaH jab ja2 z0_s jaq jai jaO jaA jat jau jav jaj jas jaJ jak jad jay jac) : va_W))) (va_A (qQ7 a0 jaX jaF jaD ja7 jby jb8 jbh jaY jap jaK jal jam jax jao ja6 jaV ja8 jae jag jaf ja0 ja4 jaP jaw jaI jaZ jaG jaS jan jaU jaE jar jaL jah jaB jaa jaz jaH jab ja2 z0_s jaq jai jaO jaA jat jau jav jaj jas jaJ jak jad jay jac) sz)) 0 0 (va_A (qQ7 a0 jaX jaF jaD ja7 jby jb8 jbh jaY jap jaK jal jam jax jao ja6 jaV ja8 jae jag jaf ja0 ja4 jaP jaw jaI jaZ jaG jaS jan jaU jaE jar jaL jah jaB jaa jaz jaH jab ja2 z0_s jaq jai jaO jaA jat jau jav jaj jas jaJ jak jad jay jac) sz) := by
  refine Met.ofW (cc := cX11_wrong) (maxL := 3) (ret := none) (by decide) rfl ?_
  intro p e s m args below meth c s₁ B hml hv
  obtain ⟨rfl, hsz, hP, hK, hD0, hNw⟩ := hv
  have hx := B.exec
  have hb := B.bytes
  have hr := B.returns
  have hts := atoms_spec (ws := wsX11_wrong) B.pre
  have hown : s.vm.findClass RX11 = some m.cls := findClass_of_methodNamed B.named
  have hlocks := B.notSynchronized
  subst hsz
  have hD := hD0.self (sz := s.heap.size)
  generalize hAe : va_A (qQ7 a0 jaX jaF jaD ja7 jby jb8 jbh jaY jap jaK jal jam jax jao ja6 jaV ja8 jae jag jaf ja0 ja4 jaP jaw jaI jaZ jaG jaS jan jaU jaE jar jaL jah jaB jaa jaz jaH jab ja2 z0_s jaq jai jaO jaA jat jau jav jaj jas jaJ jak jad jay jac) s.heap.size = A at hD ⊢
  have hA : ∀ q : Nat, s.heap.size ≤ q → A q := fun q h => by rw [← hAe]; exact Or.inr h
  have hS : va_S A s.heap s.heap [] := va_S.rf
  have hP : va_P (dC, dI) vwCl (qQ7 a0 jaX jaF jaD ja7 jby jb8 jbh jaY jap jaK jal jam jax jao ja6 jaV ja8 jae jag jaf ja0 ja4 jaP jaw jaI jaZ jaG jaS jan jaU jaE jar jaL jah jaB jaa jaz jaH jab ja2 z0_s jaq jai jaO jaA jat jau jav jaj jas jaJ jak jad jay jac) s.heap := hP
  have hl := lv_entry ([.ref a0, .int p1, .int p2]) (n := 3) (nbq rfl)
  rw [lg_entry_eq]
  generalize (lg_sl ([.ref a0, .int p1, .int p2]) ++ List.replicate (3 - (lg_sl ([.ref a0, .int p1, .int p2])).length) Slot.unset).toArray = ls at hl ⊢
  have hl : lv_has ls 3 [(0, .ref a0), (1, .int p1), (2, .int p2)] := hl
  have C0 : cfx p s m _ meth c cX11_wrong none wsX11_wrong RX11 3 A (dC, dI) (kT cyB cyI cyJ cyP) := ⟨hx, hb, hr, hts, hown, hlocks, hml, hA, hK, hNw⟩
  clear hAe
  obtain ⟨H, hH⟩ : ∃ H, H = s.heap := ⟨_, rfl⟩
  rw [← hH] at hP ⊢
  have hS : va_S A s.heap H [] := by rw [hH]; exact va_S.rf
  have hS := hS
  refine lv_aload_n hx hb (qaa qpy 0 rfl) rfl (lv_at hl 0 rfl) ?_
  refine va_get (D := (dC, dI)) (ci := 11) (v := .int jb8) (C := RX11) (T := TX11) (N := 55) hx hb hts qM9 hown hK hP 0 rfl rfl 5 (by decide) (hts _ qV0) (fun _ h9 => h9) rfl (qaa qpy 1 rfl) ?_
  refine lv_iconst (v := (-1)) hx hb (qaa qpy 2 rfl) (by decide) ?_
  refine lv_icmp_eq (tgt := 9) hx hb (qaa qpy 3 rfl) (by decide) (fun c1 => ?_) (fun c1 => ?_)
  · have hw := hw.1 c1
    refine lv_aload_n hx hb (qaa qpy 5 rfl) rfl (lv_at hl 0 rfl) ?_
    refine lv_iload_n hx hb (qaa qpy 6 rfl) rfl (lv_at hl 2 rfl) ?_
    refine va_put (D := (dC, dI)) (ci := 11) (v := .int p2) (ty := .int) (C := RX11) (T := TX11) (N := 55) hx hb hts qM9 tyX11 tyX11_ok nmX11 hown hK hP hD hS 0 rfl rfl 5 (by decide) (hts _ qV0) (fun _ h9 => h9) rfl (by decide +kernel) rfl rfl (nbq rfl) (qaa qpy 7 rfl) (fun H locs hP hD hS => ?_)
    have hP : va_P (dC, dI) vwCl (qQ7 a0 jaX jaF jaD ja7 jby p2 jbh jaY jap jaK jal jam jax jao ja6 jaV ja8 jae jag jaf ja0 ja4 jaP jaw jaI jaZ jaG jaS jan jaU jaE jar jaL jah jaB jaa jaz jaH jab ja2 z0_s jaq jai jaO jaA jat jau jav jaj jas jaJ jak jad jay jac) H := hP
    have hD : va_D A (qQ7 a0 jaX jaF jaD ja7 jby p2 jbh jaY jap jaK jal jam jax jao ja6 jaV ja8 jae jag jaf ja0 ja4 jaP jaw jaI jaZ jaG jaS jan jaU jaE jar jaL jah jaB jaa jaz jaH jab ja2 z0_s jaq jai jaO jaA jat jau jav jaj jas jaJ jak jad jay jac) := hD
    refine lv_aload_n hx hb (qaa qpy 8 rfl) rfl (lv_at hl 0 rfl) ?_
    refine lv_iload_n hx hb (qaa qpy 9 rfl) rfl (lv_at hl 1 rfl) ?_
    refine va_put (D := (dC, dI)) (ci := 11) (v := .int p1) (ty := .int) (C := RX11) (T := TX11) (N := 55) hx hb hts qM9 tyX11 tyX11_ok nmX11 hown hK hP hD hS 0 rfl rfl 6 (by decide) (hts _ qaiO) (fun _ h9 => h9) rfl (by decide +kernel) rfl rfl (nbq rfl) (qaa qpy 10 rfl) (fun H locs hP hD hS => ?_)
    have hP : va_P (dC, dI) vwCl (qQ7 a0 jaX jaF jaD ja7 jby p2 p1 jaY jap jaK jal jam jax jao ja6 jaV ja8 jae jag jaf ja0 ja4 jaP jaw jaI jaZ jaG jaS jan jaU jaE jar jaL jah jaB jaa jaz jaH jab ja2 z0_s jaq jai jaO jaA jat jau jav jaj jas jaJ jak jad jay jac) H := hP
    have hD : va_D A (qQ7 a0 jaX jaF jaD ja7 jby p2 p1 jaY jap jaK jal jam jax jao ja6 jaV ja8 jae jag jaf ja0 ja4 jaP jaw jaI jaZ jaG jaS jan jaU jaE jar jaL jah jaB jaa jaz jaH jab ja2 z0_s jaq jai jaO jaA jat jau jav jaj jas jaJ jak jad jay jac) := hD
    exact ((W.vret hx hb hr (fun t ht hW => ⟨⟨(p2, p1), rfl, hw, by rw [ht]; exact hP, va_K.moved hW.alike hK, hD⟩, hS.F ht⟩) hS.2.2 (qaa qpy 11 rfl)))
  · have hw := hw.2 c1
    exact ((W.vret hx hb hr (fun t ht hW => ⟨⟨(jb8, jbh), rfl, hw, by rw [ht]; exact hP, va_K.moved hW.alike hK, hD⟩, hS.F ht⟩) hS.2.2 (qaa qpy 4 rfl)))
theorem qib : ∀ w ∈ u_ws RX11 TX11 55, w ∈ wsX11_readNumber := uiM qmZ qfa (by decide +kernel)
theorem qoI : (.fieldLink RX11 120 "MarchHaresModel" "at" "I" : Cond) ∈ wsX11_readNumber := qmZ 1103 (by decide +kernel)
theorem q0i : (.fieldLink RX11 123 "MarchHaresModel" "size" "I" : Cond) ∈ wsX11_readNumber := qmZ 1153 (by decide +kernel)
theorem qLd : (.fieldLink RX11 20 "MarchHaresModel" "tape" "[I" : Cond) ∈ wsX11_readNumber := qmZ 400 (by decide +kernel)
set_option maxHeartbeats 4000000 in
set_option maxRecDepth 100000 in
theorem qNP {p : Program} {l : Launch} {e : Env} {s : State} {m : MethodId} {args : Array Value} {below : List Frame} {meth : Method} {c : Code} {A : Nat → Prop} (dC : Nat → ClassId) (dI : Nat → Nat → Nat) (cyB cyI cyJ cyP : ClassId) (a0 jaW : Nat) (jaX jaF jaD jaY jap jal jam jax jao ja6 jaV ja8 jae jag jaf ja0 ja4 jaP jaw jaI jaZ jaG jaS jan jaU jaE jar jaL jah jaB jaa jaz jaH jab ja2 z0_s jaq jai jaO jaA jat jau jav jaj jas jaJ jak jad jay jac : Value) (jbx : Int32) (jbC : NI) (Q : Int32 → Int32 → Int32 → Int32 → Prop) (K41 : Int32 → Int32 → Int32 → Int32 → Int32 → Int32 → Int32 → Prop) (hK41 : ∀ (H : Heap) (locs : List Loc) (ls : Array Slot) (jcP jb8 jbh l1 l2 l4 l5 : Int32), va_P (dC, dI) vwCl (qgh a0 jaX jaF jaD jbx jcP jb8 jbh jaY jap jaW jal jam jax jao ja6 jaV ja8 jae jag jaf ja0 ja4 jaP jaw jaI jaZ jaG jaS jan jaU jaE jar jaL jah jaB jaa jaz jaH jab ja2 z0_s jaq jai jaO jaA jat jau jav jaj jas jaJ jak jad jay jac jaW cyI jbC) H → va_D A (qgh a0 jaX jaF jaD jbx jcP jb8 jbh jaY jap jaW jal jam jax jao ja6 jaV ja8 jae jag jaf ja0 ja4 jaP jaw jaI jaZ jaG jaS jan jaU jaE jar jaL jah jaB jaa jaz jaH jab ja2 z0_s jaq jai jaO jaA jat jau jav jaj jas jaJ jak jad jay jac jaW cyI jbC) → va_S A s.heap H locs → lv_has ls 6 [(0, .ref a0), (1, .int l1), (2, .int l2), (4, .int l4), (5, .int l5)] → K41 jcP jb8 jbh l1 l2 l4 l5 → W p l e (headSpec wsX11_readNumber ({ frames := 1, cells := 0, slots := 0, locals := 22 })).room s m args below meth c H locs 0 0 (MQ below (va_Qi (fun (r : Int32) (u : Int32 × Int32 × Int32) => Q r u.1 u.2.1 u.2.2) (cB (dC, dI) (kT cyB cyI cyJ cyP) A (fun u : Int32 × Int32 × Int32 => ((qgh a0 jaX jaF jaD jbx u.1 u.2.1 u.2.2 jaY jap jaW jal jam jax jao ja6 jaV ja8 jae jag jaf ja0 ja4 jaP jaw jaI jaZ jaG jaS jan jaU jaE jar jaL jah jaB jaa jaz jaH jab ja2 z0_s jaq jai jaO jaA jat jau jav jaj jas jaJ jak jad jay jac jaW cyI jbC) : va_W))) A) args s 0 0 A) (F0 m 41 ls [])) (C0 : cfx p s m args meth c cX11_readNumber (some .int) wsX11_readNumber RX11 6 A (dC, dI) (kT cyB cyI cyJ cyP)) : ∀ (H : Heap) (locs : List Loc) (ls : Array Slot) (jcP jb8 jbh l1 l2 l4 s0 : Int32), va_P (dC, dI) vwCl (qgh a0 jaX jaF jaD jbx jcP jb8 jbh jaY jap jaW jal jam jax jao ja6 jaV ja8 jae jag jaf ja0 ja4 jaP jaw jaI jaZ jaG jaS jan jaU jaE jar jaL jah jaB jaa jaz jaH jab ja2 z0_s jaq jai jaO jaA jat jau jav jaj jas jaJ jak jad jay jac jaW cyI jbC) H → va_D A (qgh a0 jaX jaF jaD jbx jcP jb8 jbh jaY jap jaW jal jam jax jao ja6 jaV ja8 jae jag jaf ja0 ja4 jaP jaw jaI jaZ jaG jaS jan jaU jaE jar jaL jah jaB jaa jaz jaH jab ja2 z0_s jaq jai jaO jaA jat jau jav jaj jas jaJ jak jad jay jac jaW cyI jbC) → va_S A s.heap H locs → lv_has ls 6 [(0, .ref a0), (1, .int l1), (2, .int l2), (4, .int l4)] → qDm jbx jbC Q K41 jcP jb8 jbh l1 l2 l4 s0 → W p l e (headSpec wsX11_readNumber ({ frames := 1, cells := 0, slots := 0, locals := 22 })).room s m args below meth c H locs 0 0 (MQ below (va_Qi (fun (r : Int32) (u : Int32 × Int32 × Int32) => Q r u.1 u.2.1 u.2.2) (cB (dC, dI) (kT cyB cyI cyJ cyP) A (fun u : Int32 × Int32 × Int32 => ((qgh a0 jaX jaF jaD jbx u.1 u.2.1 u.2.2 jaY jap jaW jal jam jax jao ja6 jaV ja8 jae jag jaf ja0 ja4 jaP jaw jaI jaZ jaG jaS jan jaU jaE jar jaL jah jaB jaa jaz jaH jab ja2 z0_s jaq jai jaO jaA jat jau jav jaj jas jaJ jak jad jay jac jaW cyI jbC) : va_W))) A) args s 0 0 A) (F0 m 99 ls [.int s0]) := by
  obtain ⟨hx, hb, hr, hts, hown, hlocks, hml, hA, hK, hNw⟩ := id C0
  intro H locs ls jcP jb8 jbh l1 l2 l4 s0 hP hD hS hl hw
  refine lv_istore (lv' := [(5, .int s0), (0, .ref a0), (1, .int l1), (2, .int l2), (4, .int l4)]) hx hb (qaa qcp 3 rfl) hl (by decide) rfl (fun ls hl => ?_)
  refine lv_aload_n hx hb (qaa qcp 4 rfl) rfl (lv_at hl 1 rfl) ?_
  refine lv_dup hx hb (qaa qcp 5 rfl) rfl ?_
  refine va_get (D := (dC, dI)) (ci := 11) (v := .int jcP) (C := RX11) (T := TX11) (N := 55) hx hb hts qib hown hK hP 0 rfl rfl 4 (by decide) (hts _ qoI) (fun _ h9 => h9) rfl (qaa qcp 6 rfl) ?_
  refine lv_iconst (v := 1) hx hb (qaa qcp 7 rfl) (by decide) ?_
  refine lv_iadd hx hb (qaa qcp 8 rfl) ?_
  refine lv_topi (fun x17 ex17 => ?_)
  have hw := hw x17 ex17
  refine va_put (D := (dC, dI)) (ci := 11) (v := .int x17) (ty := .int) (C := RX11) (T := TX11) (N := 55) hx hb hts qib tyX11 tyX11_ok nmX11 hown hK hP hD hS 0 rfl rfl 4 (by decide) (hts _ qoI) (fun _ h9 => h9) rfl (by decide +kernel) rfl rfl (nbq rfl) (qaa qcp 9 rfl) (fun H locs hP hD hS => ?_)
  have hP : va_P (dC, dI) vwCl (qgh a0 jaX jaF jaD jbx x17 jb8 jbh jaY jap jaW jal jam jax jao ja6 jaV ja8 jae jag jaf ja0 ja4 jaP jaw jaI jaZ jaG jaS jan jaU jaE jar jaL jah jaB jaa jaz jaH jab ja2 z0_s jaq jai jaO jaA jat jau jav jaj jas jaJ jak jad jay jac jaW cyI jbC) H := hP
  have hD : va_D A (qgh a0 jaX jaF jaD jbx x17 jb8 jbh jaY jap jaW jal jam jax jao ja6 jaV ja8 jae jag jaf ja0 ja4 jaP jaw jaI jaZ jaG jaS jan jaU jaE jar jaL jah jaB jaa jaz jaH jab ja2 z0_s jaq jai jaO jaA jat jau jav jaj jas jaJ jak jad jay jac jaW cyI jbC) := hD
  refine lv_goto (tgt := 41) hx hb (qaa qcp 10 rfl) (by decide) ?_
  exact hK41 _ _ _ x17 jb8 jbh l1 l2 l4 s0 hP hD hS (lv_sub hl [1, 2, 3, 4, 0] rfl) hw
set_option maxHeartbeats 4000000 in
set_option maxRecDepth 100000 in
theorem qLk {p : Program} {l : Launch} {e : Env} {s : State} {m : MethodId} {args : Array Value} {below : List Frame} {meth : Method} {c : Code} {A : Nat → Prop} (dC : Nat → ClassId) (dI : Nat → Nat → Nat) (cyB cyI cyJ cyP : ClassId) (a0 jaW : Nat) (jaX jaF jaD jaY jap jal jam jax jao ja6 jaV ja8 jae jag jaf ja0 ja4 jaP jaw jaI jaZ jaG jaS jan jaU jaE jar jaL jah jaB jaa jaz jaH jab ja2 z0_s jaq jai jaO jaA jat jau jav jaj jas jaJ jak jad jay jac : Value) (jbx : Int32) (jbC : NI) (Q : Int32 → Int32 → Int32 → Int32 → Prop) (C0 : cfx p s m args meth c cX11_readNumber (some .int) wsX11_readNumber RX11 6 A (dC, dI) (kT cyB cyI cyJ cyP)) : ∀ (H : Heap) (locs : List Loc) (ls : Array Slot) (jcP jb8 jbh l4 : Int32), va_P (dC, dI) vwCl (qgh a0 jaX jaF jaD jbx jcP jb8 jbh jaY jap jaW jal jam jax jao ja6 jaV ja8 jae jag jaf ja0 ja4 jaP jaw jaI jaZ jaG jaS jan jaU jaE jar jaL jah jaB jaa jaz jaH jab ja2 z0_s jaq jai jaO jaA jat jau jav jaj jas jaJ jak jad jay jac jaW cyI jbC) H → va_D A (qgh a0 jaX jaF jaD jbx jcP jb8 jbh jaY jap jaW jal jam jax jao ja6 jaV ja8 jae jag jaf ja0 ja4 jaP jaw jaI jaZ jaG jaS jan jaU jaE jar jaL jah jaB jaa jaz jaH jab ja2 z0_s jaq jai jaO jaA jat jau jav jaj jas jaJ jak jad jay jac jaW cyI jbC) → va_S A s.heap H locs → lv_has ls 6 [(0, .ref a0), (4, .int l4)] → qxv jbx jbC Q jcP jb8 jbh l4 → W p l e (headSpec wsX11_readNumber ({ frames := 1, cells := 0, slots := 0, locals := 22 })).room s m args below meth c H locs 0 0 (MQ below (va_Qi (fun (r : Int32) (u : Int32 × Int32 × Int32) => Q r u.1 u.2.1 u.2.2) (cB (dC, dI) (kT cyB cyI cyJ cyP) A (fun u : Int32 × Int32 × Int32 => ((qgh a0 jaX jaF jaD jbx u.1 u.2.1 u.2.2 jaY jap jaW jal jam jax jao ja6 jaV ja8 jae jag jaf ja0 ja4 jaP jaw jaI jaZ jaG jaS jan jaU jaE jar jaL jah jaB jaa jaz jaH jab ja2 z0_s jaq jai jaO jaA jat jau jav jaj jas jaJ jak jad jay jac jaW cyI jbC) : va_W))) A) args s 0 0 A) (F0 m 126 ls []) := by
  obtain ⟨hx, hb, hr, hts, hown, hlocks, hml, hA, hK, hNw⟩ := id C0
  intro H locs ls jcP jb8 jbh l4 hP hD hS hl hw
  refine lv_aload_n hx hb (qaa qkW 1 rfl) rfl (lv_at hl 0 rfl) ?_
  refine lv_iconst (v := 2) hx hb (qaa qkW 2 rfl) (by decide) ?_
  refine lv_iload hx hb (qaa qkW 3 rfl) (lv_at hl 1 rfl) ?_
  obtain ⟨hCc, hPc, hDc, hFc⟩ := qac (ws' := (qLT a0 jaX jaF jaD jbx jcP jb8 jbh jaY jap jaW jal jam jax jao ja6 jaV ja8 jae jag jaf ja0 ja4 jaP jaw jaI jaZ jaG jaS jan jaU jaE jar jaL jah jaB jaa jaz jaH jab ja2 z0_s jaq jai jaO jaA jat jau jav jaj jas jaJ jak jad jay jac)) hP hD hS hA [0] (by decide +kernel) rfl
  refine va_callv (va_runV (As := [.int 2, .int l4]) (rest := []) ⟨hx, hb, hml, hown, hts⟩ (qrt l dC dI cyB cyI cyJ cyP a0 H.size (jaX) (jaF) (jaD) (.int jbx) (.int jcP) (jaY) (jap) (.ref jaW) (jal) (jam) (jax) (jao) (ja6) (jaV) (ja8) (jae) (jag) (jaf) (ja0) (ja4) (jaP) (jaw) (jaI) (jaZ) (jaG) (jaS) (jan) (jaU) (jaE) (jar) (jaL) (jah) (jaB) (jaa) (jaz) (jaH) (jab) (ja2) (z0_s) (jaq) (jai) (jaO) (jaA) (jat) (jau) (jav) (jaj) (jas) (jaJ) (jak) (jad) (jay) (jac) jb8 jbh 2 l4 hw) (cwV 2 hts gX11_readNumber_X11_wrong rfl rfl rfl (by decide +kernel) ⟨nbq rfl, nbq rfl⟩) ⟨qab, va_recv (q := (RX11, TX11, 55)) hK hPc (ci := 11) (q0 := 0) rfl rfl, qae hPc hK hDc hNw⟩ rfl rfl hl.1 rfl (lv_room (nbq rfl)) (qaa qkW 4 rfl) ⟨nbq rfl, nbq rfl⟩) hS (fun q _ h => hFc q h) hFc (fun u t H1 locs ht hvm hw hB hz1 hk1 hS => ?_)
  obtain ⟨x18, x19⟩ := u
  obtain ⟨hP1, hK1, hD1⟩ := hB
  rw [ht] at hP1
  obtain ⟨hP, hD⟩ := qad (wr := (qamj jaW cyI jbC)) (w1 := (qLT a0 jaX jaF jaD jbx jcP x18 x19 jaY jap jaW jal jam jax jao ja6 jaV ja8 jae jag jaf ja0 ja4 jaP jaw jaI jaZ jaG jaS jan jaU jaE jar jaL jah jaB jaa jaz jaH jab ja2 z0_s jaq jai jaO jaA jat jau jav jaj jas jaJ jak jad jay jac)) (wn := (qgh a0 jaX jaF jaD jbx jcP x18 x19 jaY jap jaW jal jam jax jao ja6 jaV ja8 jae jag jaf ja0 ja4 jaP jaw jaI jaZ jaG jaS jan jaU jaE jar jaL jah jaB jaa jaz jaH jab ja2 z0_s jaq jai jaO jaA jat jau jav jaj jas jaJ jak jad jay jac jaW cyI jbC)) hP hD [0] [1] [1, 0] hCc rfl (by decide +kernel) (by decide +kernel) (by decide +kernel) rfl hk1 hFc hP1 hD1
  generalize H1 = H at hP hS ⊢
  refine lv_iconst (v := 0) hx hb (qaa qkW 5 rfl) (by decide) ?_
  exact ((W.iret (v := 0) hx hb hr (fun t ht hW => ⟨⟨0, (jcP, x18, x19), rfl, hw, by rw [ht]; exact hP, va_K.moved hW.alike hK, hD⟩, hS.F ht⟩) hS.2.2 (qaa qkW 6 rfl)))
set_option maxHeartbeats 4000000 in
set_option maxRecDepth 100000 in
theorem qLG {p : Program} {l : Launch} {e : Env} {s : State} {m : MethodId} {args : Array Value} {below : List Frame} {meth : Method} {c : Code} {A : Nat → Prop} (dC : Nat → ClassId) (dI : Nat → Nat → Nat) (cyB cyI cyJ cyP : ClassId) (a0 jaW : Nat) (jaX jaF jaD jaY jap jal jam jax jao ja6 jaV ja8 jae jag jaf ja0 ja4 jaP jaw jaI jaZ jaG jaS jan jaU jaE jar jaL jah jaB jaa jaz jaH jab ja2 z0_s jaq jai jaO jaA jat jau jav jaj jas jaJ jak jad jay jac : Value) (jbx : Int32) (jbC : NI) (Q : Int32 → Int32 → Int32 → Int32 → Prop) (C0 : cfx p s m args meth c cX11_readNumber (some .int) wsX11_readNumber RX11 6 A (dC, dI) (kT cyB cyI cyJ cyP)) : ∀ (H : Heap) (locs : List Loc) (ls : Array Slot) (jcP jb8 jbh l1 l2 l4 l5 : Int32), va_P (dC, dI) vwCl (qgh a0 jaX jaF jaD jbx jcP jb8 jbh jaY jap jaW jal jam jax jao ja6 jaV ja8 jae jag jaf ja0 ja4 jaP jaw jaI jaZ jaG jaS jan jaU jaE jar jaL jah jaB jaa jaz jaH jab ja2 z0_s jaq jai jaO jaA jat jau jav jaj jas jaJ jak jad jay jac jaW cyI jbC) H → va_D A (qgh a0 jaX jaF jaD jbx jcP jb8 jbh jaY jap jaW jal jam jax jao ja6 jaV ja8 jae jag jaf ja0 ja4 jaP jaw jaI jaZ jaG jaS jan jaU jaE jar jaL jah jaB jaa jaz jaH jab ja2 z0_s jaq jai jaO jaA jat jau jav jaj jas jaJ jak jad jay jac jaW cyI jbC) → va_S A s.heap H locs → lv_has ls 6 [(0, .ref a0), (1, .int l1), (2, .int l2), (4, .int l4), (5, .int l5)] → qtW jbx jbC Q jcP jb8 jbh l1 l2 l4 l5 → W p l e (headSpec wsX11_readNumber ({ frames := 1, cells := 0, slots := 0, locals := 22 })).room s m args below meth c H locs 0 0 (MQ below (va_Qi (fun (r : Int32) (u : Int32 × Int32 × Int32) => Q r u.1 u.2.1 u.2.2) (cB (dC, dI) (kT cyB cyI cyJ cyP) A (fun u : Int32 × Int32 × Int32 => ((qgh a0 jaX jaF jaD jbx u.1 u.2.1 u.2.2 jaY jap jaW jal jam jax jao ja6 jaV ja8 jae jag jaf ja0 ja4 jaP jaw jaI jaZ jaG jaS jan jaU jaE jar jaL jah jaB jaa jaz jaH jab ja2 z0_s jaq jai jaO jaA jat jau jav jaj jas jaJ jak jad jay jac jaW cyI jbC) : va_W))) A) args s 0 0 A) (F0 m 114 ls []) := by
  obtain ⟨hx, hb, hr, hts, hown, hlocks, hml, hA, hK, hNw⟩ := id C0
  intro H locs ls jcP jb8 jbh l1 l2 l4 l5 hP hD hS hl hw
  refine lv_iload hx hb (qaa qcp 11 rfl) (lv_at hl 4 rfl) ?_
  refine lv_iload_n hx hb (qaa qcp 12 rfl) rfl (lv_at hl 1 rfl) ?_
  refine lv_icmp_lt (tgt := 126) hx hb (qaa qcp 13 rfl) (by decide) (fun c15 => ?_) (fun c15 => ?_)
  · have hw := hw.1 c15
    exact qLk dC dI cyB cyI cyJ cyP a0 jaW jaX jaF jaD jaY jap jal jam jax jao ja6 jaV ja8 jae jag jaf ja0 ja4 jaP jaw jaI jaZ jaG jaS jan jaU jaE jar jaL jah jaB jaa jaz jaH jab ja2 z0_s jaq jai jaO jaA jat jau jav jaj jas jaJ jak jad jay jac jbx jbC Q C0 _ _ _ jcP jb8 jbh l4 hP hD hS (lv_sub hl [0, 3] rfl) hw
  · have hw := hw.2 c15
    refine lv_iload hx hb (qaa qcp 14 rfl) (lv_at hl 4 rfl) ?_
    refine lv_iload_n hx hb (qaa qcp 15 rfl) rfl (lv_at hl 2 rfl) ?_
    refine lv_icmp_le (tgt := 135) hx hb (qaa qkW 0 rfl) (by decide) (fun c16 => ?_) (fun c16 => ?_)
    · have hw := hw.1 c16
      refine lv_iload hx hb (qaa qkW 7 rfl) (lv_at hl 4 rfl) ?_
      exact ((W.iret (v := l5) hx hb hr (fun t ht hW => ⟨⟨l5, (jcP, jb8, jbh), rfl, hw, by rw [ht]; exact hP, va_K.moved hW.alike hK, hD⟩, hS.F ht⟩) hS.2.2 (qaa qkW 8 rfl)))
    · have hw := hw.2 c16
      exact qLk dC dI cyB cyI cyJ cyP a0 jaW jaX jaF jaD jaY jap jal jam jax jao ja6 jaV ja8 jae jag jaf ja0 ja4 jaP jaw jaI jaZ jaG jaS jan jaU jaE jar jaL jah jaB jaa jaz jaH jab ja2 z0_s jaq jai jaO jaA jat jau jav jaj jas jaJ jak jad jay jac jbx jbC Q C0 _ _ _ jcP jb8 jbh l4 hP hD hS (lv_sub hl [0, 3] rfl) hw
set_option maxHeartbeats 4000000 in
set_option maxRecDepth 100000 in
theorem q61 {p : Program} {l : Launch} {e : Env} {s : State} {m : MethodId} {args : Array Value} {below : List Frame} {meth : Method} {c : Code} {A : Nat → Prop} (dC : Nat → ClassId) (dI : Nat → Nat → Nat) (cyB cyI cyJ cyP : ClassId) (a0 jaW : Nat) (jaX jaF jaD jaY jap jal jam jax jao ja6 jaV ja8 jae jag jaf ja0 ja4 jaP jaw jaI jaZ jaG jaS jan jaU jaE jar jaL jah jaB jaa jaz jaH jab ja2 z0_s jaq jai jaO jaA jat jau jav jaj jas jaJ jak jad jay jac : Value) (jbx : Int32) (jbC : NI) (Q : Int32 → Int32 → Int32 → Int32 → Prop) (C0 : cfx p s m args meth c cX11_readNumber (some .int) wsX11_readNumber RX11 6 A (dC, dI) (kT cyB cyI cyJ cyP)) : ∀ (n : Nat) (H : Heap) (locs : List Loc) (ls : Array Slot) (jcP jb8 jbh l1 l2 l4 l5 : Int32), va_P (dC, dI) vwCl (qgh a0 jaX jaF jaD jbx jcP jb8 jbh jaY jap jaW jal jam jax jao ja6 jaV ja8 jae jag jaf ja0 ja4 jaP jaw jaI jaZ jaG jaS jan jaU jaE jar jaL jah jaB jaa jaz jaH jab ja2 z0_s jaq jai jaO jaA jat jau jav jaj jas jaJ jak jad jay jac jaW cyI jbC) H → va_D A (qgh a0 jaX jaF jaD jbx jcP jb8 jbh jaY jap jaW jal jam jax jao ja6 jaV ja8 jae jag jaf ja0 ja4 jaP jaw jaI jaZ jaG jaS jan jaU jaE jar jaL jah jaB jaa jaz jaH jab ja2 z0_s jaq jai jaO jaA jat jau jav jaj jas jaJ jak jad jay jac jaW cyI jbC) → va_S A s.heap H locs → lv_has ls 6 [(0, .ref a0), (1, .int l1), (2, .int l2), (4, .int l4), (5, .int l5)] → qqc jbx jbC Q n jcP jb8 jbh l1 l2 l4 l5 → W p l e (headSpec wsX11_readNumber ({ frames := 1, cells := 0, slots := 0, locals := 22 })).room s m args below meth c H locs 0 0 (MQ below (va_Qi (fun (r : Int32) (u : Int32 × Int32 × Int32) => Q r u.1 u.2.1 u.2.2) (cB (dC, dI) (kT cyB cyI cyJ cyP) A (fun u : Int32 × Int32 × Int32 => ((qgh a0 jaX jaF jaD jbx u.1 u.2.1 u.2.2 jaY jap jaW jal jam jax jao ja6 jaV ja8 jae jag jaf ja0 ja4 jaP jaw jaI jaZ jaG jaS jan jaU jaE jar jaL jah jaB jaa jaz jaH jab ja2 z0_s jaq jai jaO jaA jat jau jav jaj jas jaJ jak jad jay jac jaW cyI jbC) : va_W))) A) args s 0 0 A) (F0 m 41 ls []) := by
  obtain ⟨hx, hb, hr, hts, hown, hlocks, hml, hA, hK, hNw⟩ := id C0
  intro n
  induction n with
  | zero => intro H locs ls jcP jb8 jbh l1 l2 l4 l5 hP hD hS hl hw; exact False.elim hw
  | succ n ih =>
    intro H locs ls jcP jb8 jbh l1 l2 l4 l5 hP hD hS hl hw
    refine lv_aload_n hx hb (qaa qcr 7 rfl) rfl (lv_at hl 0 rfl) ?_
    refine va_get (D := (dC, dI)) (ci := 11) (v := .int jcP) (C := RX11) (T := TX11) (N := 55) hx hb hts qib hown hK hP 0 rfl rfl 4 (by decide) (hts _ qoI) (fun _ h9 => h9) rfl (qaa qcr 8 rfl) ?_
    refine lv_aload_n hx hb (qaa qcr 9 rfl) rfl (lv_at hl 0 rfl) ?_
    refine va_get (D := (dC, dI)) (ci := 11) (v := .int jbx) (C := RX11) (T := TX11) (N := 55) hx hb hts qib hown hK hP 0 rfl rfl 3 (by decide) (hts _ q0i) (fun _ h9 => h9) rfl (qaa qcr 10 rfl) ?_
    refine lv_icmp_ge (tgt := 114) hx hb (qaa qcr 11 rfl) (by decide) (fun c9 => ?_) (fun c9 => ?_)
    · have hw := hw.1 c9
      exact qLG dC dI cyB cyI cyJ cyP a0 jaW jaX jaF jaD jaY jap jal jam jax jao ja6 jaV ja8 jae jag jaf ja0 ja4 jaP jaw jaI jaZ jaG jaS jan jaU jaE jar jaL jah jaB jaa jaz jaH jab ja2 z0_s jaq jai jaO jaA jat jau jav jaj jas jaJ jak jad jay jac jbx jbC Q C0 _ _ _ jcP jb8 jbh l1 l2 l4 l5 hP hD hS (lv_sub hl [0, 1, 2, 3, 4] rfl) hw
    · have hw := hw.2 c9
      refine lv_aload_n hx hb (qaa qcr 12 rfl) rfl (lv_at hl 0 rfl) ?_
      refine va_get (D := (dC, dI)) (ci := 11) (v := .ref jaW) (C := RX11) (T := TX11) (N := 55) hx hb hts qib hown hK hP 0 rfl rfl 9 (by decide) (hts _ qLd) (fun _ h9 => h9) rfl (qaa qcr 13 rfl) ?_
      refine lv_aload_n hx hb (qaa qcr 14 rfl) rfl (lv_at hl 0 rfl) ?_
      refine va_get (D := (dC, dI)) (ci := 11) (v := .int jcP) (C := RX11) (T := TX11) (N := 55) hx hb hts qib hown hK hP 0 rfl rfl 4 (by decide) (hts _ qoI) (fun _ h9 => h9) rfl (qaa qcr 15 rfl) ?_
      obtain ⟨hi9, hw⟩ := hw
      refine va_iald hx hb hK hP 1 1 rfl rfl hi9 (qaa qcx 0 rfl) ?_
      refine lv_topi (fun x10 ex10 => ?_)
      have hw := hw x10 ex10
      obtain ⟨hCc, hPc, hDc, hFc⟩ := qac (ws' := []) hP hD hS hA [] (by decide +kernel) rfl
      refine va_calli (va_runS (As := [.int x10]) (rest := []) ⟨hx, hb, hml, hown, hts⟩ (qKq l dC dI cyB cyI cyJ cyP H.size x10 hw) (va_cwS 1 hts gX11_readNumber_X11_isDigit rfl rfl rfl (by decide +kernel) ⟨nbq rfl, nbq rfl⟩) ⟨qab, qae hPc hK hDc hNw⟩ rfl rfl hl.1 rfl (lv_room (nbq rfl)) (qaa qcx 1 rfl) ⟨nbq rfl, nbq rfl⟩) hS (fun q _ h => hFc q h) hFc (fun r11 u t H1 locs ht hvm hw hB hz1 hk1 hS => ?_)
      obtain ⟨hP1, hK1, hD1⟩ := hB
      rw [ht] at hP1
      obtain ⟨hP, hD⟩ := qah (wr := (qgh a0 jaX jaF jaD jbx jcP jb8 jbh jaY jap jaW jal jam jax jao ja6 jaV ja8 jae jag jaf ja0 ja4 jaP jaw jaI jaZ jaG jaS jan jaU jaE jar jaL jah jaB jaa jaz jaH jab ja2 z0_s jaq jai jaO jaA jat jau jav jaj jas jaJ jak jad jay jac jaW cyI jbC)) (w1 := []) (wn := (qgh a0 jaX jaF jaD jbx jcP jb8 jbh jaY jap jaW jal jam jax jao ja6 jaV ja8 jae jag jaf ja0 ja4 jaP jaw jaI jaZ jaG jaS jan jaU jaE jar jaL jah jaB jaa jaz jaH jab ja2 z0_s jaq jai jaO jaA jat jau jav jaj jas jaJ jak jad jay jac jaW cyI jbC)) hP hD [] [0, 1] hCc rfl (by decide +kernel) (by decide +kernel) rfl hk1 hFc hP1 hD1
      generalize H1 = H at hP hS ⊢
      refine lv_if_eq (tgt := 114) hx hb (qaa qcx 2 rfl) (by decide) (fun c12 => ?_) (fun c12 => ?_)
      · have hw := hw.1 c12
        exact qLG dC dI cyB cyI cyJ cyP a0 jaW jaX jaF jaD jaY jap jal jam jax jao ja6 jaV ja8 jae jag jaf ja0 ja4 jaP jaw jaI jaZ jaG jaS jan jaU jaE jar jaL jah jaB jaa jaz jaH jab ja2 z0_s jaq jai jaO jaA jat jau jav jaj jas jaJ jak jad jay jac jbx jbC Q C0 _ _ _ jcP jb8 jbh l1 l2 l4 l5 hP hD hS (lv_sub hl [0, 1, 2, 3, 4] rfl) hw
      · have hw := hw.2 c12
        refine lv_iload hx hb (qaa qcx 3 rfl) (lv_at hl 4 rfl) ?_
        refine lv_sipush (v := 9999) hx hb (qaa qcx 4 rfl) (by decide) ?_
        refine lv_icmp_le (tgt := 81) hx hb (qaa qcx 5 rfl) (by decide) (fun c13 => ?_) (fun c13 => ?_)
        · have hw := hw.1 c13
          refine lv_bipush (v := 10) hx hb (qaa qcx 8 rfl) (by decide) ?_
          refine lv_iload hx hb (qaa qcx 9 rfl) (lv_at hl 4 rfl) ?_
          refine lv_imul hx hb (qaa qcx 10 rfl) ?_
          refine lv_aload_n hx hb (qaa qcx 11 rfl) rfl (lv_at hl 0 rfl) ?_
          refine va_get (D := (dC, dI)) (ci := 11) (v := .ref jaW) (C := RX11) (T := TX11) (N := 55) hx hb hts qib hown hK hP 0 rfl rfl 9 (by decide) (hts _ qLd) (fun _ h9 => h9) rfl (qaa qcx 12 rfl) ?_
          refine lv_aload_n hx hb (qaa qcx 13 rfl) rfl (lv_at hl 0 rfl) ?_
          refine va_get (D := (dC, dI)) (ci := 11) (v := .int jcP) (C := RX11) (T := TX11) (N := 55) hx hb hts qib hown hK hP 0 rfl rfl 4 (by decide) (hts _ qoI) (fun _ h9 => h9) rfl (qaa qcx 14 rfl) ?_
          obtain ⟨hi9, hw⟩ := hw
          refine va_iald hx hb hK hP 1 1 rfl rfl hi9 (qaa qcx 15 rfl) ?_
          refine lv_topi (fun x14 ex14 => ?_)
          have hw := hw x14 ex14
          refine lv_iadd hx hb (qaa qcp 0 rfl) ?_
          refine lv_bipush (v := 48) hx hb (qaa qcp 1 rfl) (by decide) ?_
          refine lv_isub hx hb (qaa qcp 2 rfl) ?_
          exact qNP dC dI cyB cyI cyJ cyP a0 jaW jaX jaF jaD jaY jap jal jam jax jao ja6 jaV ja8 jae jag jaf ja0 ja4 jaP jaw jaI jaZ jaG jaS jan jaU jaE jar jaL jah jaB jaa jaz jaH jab ja2 z0_s jaq jai jaO jaA jat jau jav jaj jas jaJ jak jad jay jac jbx jbC Q (qqc jbx jbC Q n) ih C0 _ _ _ jcP jb8 jbh l1 l2 l4 (((10 * l5) + x14) - 48) hP hD hS (lv_sub hl [0, 1, 2, 3] rfl) hw
        · have hw := hw.2 c13
          refine lv_sipush (v := 10000) hx hb (qaa qcx 6 rfl) (by decide) ?_
          refine lv_goto (tgt := 99) hx hb (qaa qcx 7 rfl) (by decide) ?_
          exact qNP dC dI cyB cyI cyJ cyP a0 jaW jaX jaF jaD jaY jap jal jam jax jao ja6 jaV ja8 jae jag jaf ja0 ja4 jaP jaw jaI jaZ jaG jaS jan jaU jaE jar jaL jah jaB jaa jaz jaH jab ja2 z0_s jaq jai jaO jaA jat jau jav jaj jas jaJ jak jad jay jac jbx jbC Q (qqc jbx jbC Q n) ih C0 _ _ _ jcP jb8 jbh l1 l2 l4 10000 hP hD hS (lv_sub hl [0, 1, 2, 3] rfl) hw
set_option maxHeartbeats 4000000 in
set_option maxRecDepth 100000 in
theorem qcA (l : Launch) (dC : Nat → ClassId) (dI : Nat → Nat → Nat) (cyB cyI cyJ cyP : ClassId) (a0 jaW sz : Nat) (jaX jaF jaD jaY jap jal jam jax jao ja6 jaV ja8 jae jag jaf ja0 ja4 jaP jaw jaI jaZ jaG jaS jan jaU jaE jar jaL jah jaB jaa jaz jaH jab ja2 z0_s jaq jai jaO jaA jat jau jav jaj jas jaJ jak jad jay jac : Value) (jbx : Int32) (jbC : NI) (jcP jb8 jbh p1 p2 : Int32) {Q : Int32 → Int32 → Int32 → Int32 → Prop} (hw : qbV jbx jbC jcP jb8 jbh p1 p2 Q) : Met l yX11_readNumber wsX11_readNumber ({ frames := 1, cells := 0, slots := 0, locals := 22 }) (va_Pc [.ref a0, .int p1, .int p2] (cPc (dC, dI) (kT cyB cyI cyJ cyP) (qgh a0 jaX jaF jaD jbx jcP jb8 jbh jaY jap jaW jal jam jax jao ja6 jaV ja8 jae jag jaf ja0 ja4 jaP jaw jaI jaZ jaG jaS jan jaU jaE jar jaL jah jaB jaa jaz jaH jab ja2 z0_s jaq jai jaO jaA jat jau jav jaj jas jaJ jak jad jay jac jaW cyI jbC) sz)) (va_Qi (fun (r : Int32) (u : Int32 × Int32 × Int32) => Q r u.1 u.2.1 u.2.2) (cB (dC, dI) (kT cyB cyI cyJ cyP) (va_A (qgh a0 jaX jaF jaD jbx jcP jb8 jbh jaY jap jaW jal jam jax jao ja6 jaV ja8 jae jag jaf ja0 ja4 jaP jaw jaI jaZ jaG jaS jan jaU jaE jar jaL jah jaB jaa jaz jaH jab ja2 z0_s jaq jai jaO jaA jat jau jav jaj jas jaJ jak jad jay jac jaW cyI jbC) sz) (fun u : Int32 × Int32 × Int32 => ((qgh a0 jaX jaF jaD jbx u.1 u.2.1 u.2.2 jaY jap jaW jal jam jax jao ja6 jaV ja8 jae jag jaf ja0 ja4 jaP jaw jaI jaZ jaG jaS jan jaU jaE jar jaL jah jaB jaa jaz jaH jab ja2 z0_s jaq jai jaO jaA jat jau jav jaj jas jaJ jak jad jay jac jaW cyI jbC) : va_W))) (va_A (qgh a0 jaX jaF jaD jbx jcP jb8 jbh jaY jap jaW jal jam jax jao ja6 jaV ja8 jae jag jaf ja0 ja4 jaP jaw jaI jaZ jaG jaS jan jaU jaE jar jaL jah jaB jaa jaz jaH jab ja2 z0_s jaq jai jaO jaA jat jau jav jaj jas jaJ jak jad jay jac jaW cyI jbC) sz)) 0 0 (va_A (qgh a0 jaX jaF jaD jbx jcP jb8 jbh jaY jap jaW jal jam jax jao ja6 jaV ja8 jae jag jaf ja0 ja4 jaP jaw jaI jaZ jaG jaS jan jaU jaE jar jaL jah jaB jaa jaz jaH jab ja2 z0_s jaq jai jaO jaA jat jau jav jaj jas jaJ jak jad jay jac jaW cyI jbC) sz) := by
  refine Met.ofW (cc := cX11_readNumber) (maxL := 6) (ret := (some .int)) (by decide) rfl ?_
  intro p e s m args below meth c s₁ B hml hv
  obtain ⟨rfl, hsz, hP, hK, hD0, hNw⟩ := hv
  have hx := B.exec
  have hb := B.bytes
  have hr := B.returns
  have hts := atoms_spec (ws := wsX11_readNumber) B.pre
  have hown : s.vm.findClass RX11 = some m.cls := findClass_of_methodNamed B.named
  have hlocks := B.notSynchronized
  subst hsz
  have hD := hD0.self (sz := s.heap.size)
  generalize hAe : va_A (qgh a0 jaX jaF jaD jbx jcP jb8 jbh jaY jap jaW jal jam jax jao ja6 jaV ja8 jae jag jaf ja0 ja4 jaP jaw jaI jaZ jaG jaS jan jaU jaE jar jaL jah jaB jaa jaz jaH jab ja2 z0_s jaq jai jaO jaA jat jau jav jaj jas jaJ jak jad jay jac jaW cyI jbC) s.heap.size = A at hD ⊢
  have hA : ∀ q : Nat, s.heap.size ≤ q → A q := fun q h => by rw [← hAe]; exact Or.inr h
  have hS : va_S A s.heap s.heap [] := va_S.rf
  have hP : va_P (dC, dI) vwCl (qgh a0 jaX jaF jaD jbx jcP jb8 jbh jaY jap jaW jal jam jax jao ja6 jaV ja8 jae jag jaf ja0 ja4 jaP jaw jaI jaZ jaG jaS jan jaU jaE jar jaL jah jaB jaa jaz jaH jab ja2 z0_s jaq jai jaO jaA jat jau jav jaj jas jaJ jak jad jay jac jaW cyI jbC) s.heap := hP
  have hl := lv_entry ([.ref a0, .int p1, .int p2]) (n := 6) (nbq rfl)
  rw [lg_entry_eq]
  generalize (lg_sl ([.ref a0, .int p1, .int p2]) ++ List.replicate (6 - (lg_sl ([.ref a0, .int p1, .int p2])).length) Slot.unset).toArray = ls at hl ⊢
  have hl : lv_has ls 6 [(0, .ref a0), (1, .int p1), (2, .int p2)] := hl
  have C0 : cfx p s m _ meth c cX11_readNumber (some .int) wsX11_readNumber RX11 6 A (dC, dI) (kT cyB cyI cyJ cyP) := ⟨hx, hb, hr, hts, hown, hlocks, hml, hA, hK, hNw⟩
  clear hAe
  obtain ⟨H, hH⟩ : ∃ H, H = s.heap := ⟨_, rfl⟩
  rw [← hH] at hP ⊢
  have hS : va_S A s.heap H [] := by rw [hH]; exact va_S.rf
  have hS := hS
  refine lv_aload_n hx hb (qaa qcT 0 rfl) rfl (lv_at hl 0 rfl) ?_
  obtain ⟨hCc, hPc, hDc, hFc⟩ := qac (ws' := (qLT a0 jaX jaF jaD jbx jcP jb8 jbh jaY jap jaW jal jam jax jao ja6 jaV ja8 jae jag jaf ja0 ja4 jaP jaw jaI jaZ jaG jaS jan jaU jaE jar jaL jah jaB jaa jaz jaH jab ja2 z0_s jaq jai jaO jaA jat jau jav jaj jas jaJ jak jad jay jac)) hP hD hS hA [0] (by decide +kernel) rfl
  refine va_calli (va_runV (As := []) (rest := []) ⟨hx, hb, hml, hown, hts⟩ (qdP l dC dI cyB cyI cyJ cyP a0 H.size (jaX) (jaF) (jaD) (.int jbx) (.int jcP) (.int jbh) (jaY) (jap) (.ref jaW) (jal) (jam) (jax) (jao) (ja6) (jaV) (ja8) (jae) (jag) (jaf) (ja0) (ja4) (jaP) (jaw) (jaI) (jaZ) (jaG) (jaS) (jan) (jaU) (jaE) (jar) (jaL) (jah) (jaB) (jaa) (jaz) (jaH) (jab) (ja2) (z0_s) (jaq) (jai) (jaO) (jaA) (jat) (jau) (jav) (jaj) (jas) (jaJ) (jak) (jad) (jay) (jac) jb8 hw) (cwV 0 hts gX11_readNumber_X11_fine rfl rfl rfl (by decide +kernel) ⟨nbq rfl, nbq rfl⟩) ⟨qab, va_recv (q := (RX11, TX11, 55)) hK hPc (ci := 11) (q0 := 0) rfl rfl, qae hPc hK hDc hNw⟩ rfl rfl hl.1 rfl (lv_room (nbq rfl)) (qaa qcT 1 rfl) ⟨nbq rfl, nbq rfl⟩) hS (fun q _ h => hFc q h) hFc (fun r1 u t H1 locs ht hvm hw hB hz1 hk1 hS => ?_)
  obtain ⟨hP1, hK1, hD1⟩ := hB
  rw [ht] at hP1
  obtain ⟨hP, hD⟩ := qad (wr := (qamj jaW cyI jbC)) (w1 := (qLT a0 jaX jaF jaD jbx jcP jb8 jbh jaY jap jaW jal jam jax jao ja6 jaV ja8 jae jag jaf ja0 ja4 jaP jaw jaI jaZ jaG jaS jan jaU jaE jar jaL jah jaB jaa jaz jaH jab ja2 z0_s jaq jai jaO jaA jat jau jav jaj jas jaJ jak jad jay jac)) (wn := (qgh a0 jaX jaF jaD jbx jcP jb8 jbh jaY jap jaW jal jam jax jao ja6 jaV ja8 jae jag jaf ja0 ja4 jaP jaw jaI jaZ jaG jaS jan jaU jaE jar jaL jah jaB jaa jaz jaH jab ja2 z0_s jaq jai jaO jaA jat jau jav jaj jas jaJ jak jad jay jac jaW cyI jbC)) hP hD [0] [1] [1, 0] hCc rfl (by decide +kernel) (by decide +kernel) (by decide +kernel) rfl hk1 hFc hP1 hD1
  generalize H1 = H at hP hS ⊢
  refine lv_if_ne (tgt := 9) hx hb (qaa qcT 2 rfl) (by decide) (fun c2 => ?_) (fun c2 => ?_)
  · have hw := hw.1 c2
    refine lv_aload_n hx hb (qaa qcT 5 rfl) rfl (lv_at hl 0 rfl) ?_
    obtain ⟨hCc, hPc, hDc, hFc⟩ := qac (ws' := (qgh a0 jaX jaF jaD jbx jcP jb8 jbh jaY jap jaW jal jam jax jao ja6 jaV ja8 jae jag jaf ja0 ja4 jaP jaw jaI jaZ jaG jaS jan jaU jaE jar jaL jah jaB jaa jaz jaH jab ja2 z0_s jaq jai jaO jaA jat jau jav jaj jas jaJ jak jad jay jac jaW cyI jbC)) hP hD hS hA [0, 1] (by decide +kernel) rfl
    refine va_calli (va_runV (As := []) (rest := []) ⟨hx, hb, hml, hown, hts⟩ (qeS l dC dI cyB cyI cyJ cyP a0 jaW H.size (jaX) (jaF) (jaD) (.int jb8) (.int jbh) (jaY) (jap) (jal) (jam) (jax) (jao) (ja6) (jaV) (ja8) (jae) (jag) (jaf) (ja0) (ja4) (jaP) (jaw) (jaI) (jaZ) (jaG) (jaS) (jan) (jaU) (jaE) (jar) (jaL) (jah) (jaB) (jaa) (jaz) (jaH) (jab) (ja2) (z0_s) (jaq) (jai) (jaO) (jaA) (jat) (jau) (jav) (jaj) (jas) (jaJ) (jak) (jad) (jay) (jac) jbx jbC jcP hw) (cwV 0 hts gX11_readNumber_X11_here rfl rfl rfl (by decide +kernel) ⟨nbq rfl, nbq rfl⟩) ⟨qab, va_recv (q := (RX11, TX11, 55)) hK hPc (ci := 11) (q0 := 0) rfl rfl, qae hPc hK hDc hNw⟩ rfl rfl hl.1 rfl (lv_room (nbq rfl)) (qaa qcT 6 rfl) ⟨nbq rfl, nbq rfl⟩) hS (fun q _ h => hFc q h) hFc (fun r4 u t H1 locs ht hvm hw hB hz1 hk1 hS => ?_)
    obtain ⟨x3, rfl⟩ : ∃ z, z = u := ⟨_, rfl⟩
    obtain ⟨hP1, hK1, hD1⟩ := hB
    rw [ht] at hP1
    obtain ⟨hP, hD⟩ := qah (wr := []) (w1 := (qgh a0 jaX jaF jaD jbx x3 jb8 jbh jaY jap jaW jal jam jax jao ja6 jaV ja8 jae jag jaf ja0 ja4 jaP jaw jaI jaZ jaG jaS jan jaU jaE jar jaL jah jaB jaa jaz jaH jab ja2 z0_s jaq jai jaO jaA jat jau jav jaj jas jaJ jak jad jay jac jaW cyI jbC)) (wn := (qgh a0 jaX jaF jaD jbx x3 jb8 jbh jaY jap jaW jal jam jax jao ja6 jaV ja8 jae jag jaf ja0 ja4 jaP jaw jaI jaZ jaG jaS jan jaU jaE jar jaL jah jaB jaa jaz jaH jab ja2 z0_s jaq jai jaO jaA jat jau jav jaj jas jaJ jak jad jay jac jaW cyI jbC)) hP hD [0, 1] [] hCc rfl (by decide +kernel) (by decide +kernel) rfl hk1 hFc hP1 hD1
    generalize H1 = H at hP hS ⊢
    refine lv_istore_n (lv' := [(3, .int r4), (0, .ref a0), (1, .int p1), (2, .int p2)]) hx hb (qaa qcT 7 rfl) rfl hl (by decide) rfl (fun ls hl => ?_)
    refine lv_aload_n hx hb (qaa qcT 8 rfl) rfl (lv_at hl 1 rfl) ?_
    refine va_get (D := (dC, dI)) (ci := 11) (v := .int x3) (C := RX11) (T := TX11) (N := 55) hx hb hts qib hown hK hP 0 rfl rfl 4 (by decide) (hts _ qoI) (fun _ h9 => h9) rfl (qaa qcT 9 rfl) ?_
    refine lv_istore (lv' := [(4, .int x3), (3, .int r4), (0, .ref a0), (1, .int p1), (2, .int p2)]) hx hb (qaa qcT 10 rfl) hl (by decide) rfl (fun ls hl => ?_)
    refine lv_iconst (v := 0) hx hb (qaa qcT 11 rfl) (by decide) ?_
    refine lv_istore (lv' := [(5, .int 0), (4, .int x3), (3, .int r4), (0, .ref a0), (1, .int p1), (2, .int p2)]) hx hb (qaa qcT 12 rfl) hl (by decide) rfl (fun ls hl => ?_)
    refine lv_iload_n hx hb (qaa qcT 13 rfl) rfl (lv_at hl 2 rfl) ?_
    obtain ⟨hCc, hPc, hDc, hFc⟩ := qac (ws' := []) hP hD hS hA [] (by decide +kernel) rfl
    refine va_calli (va_runS (As := [.int r4]) (rest := []) ⟨hx, hb, hml, hown, hts⟩ (qKq l dC dI cyB cyI cyJ cyP H.size r4 hw) (va_cwS 1 hts gX11_readNumber_X11_isDigit rfl rfl rfl (by decide +kernel) ⟨nbq rfl, nbq rfl⟩) ⟨qab, qae hPc hK hDc hNw⟩ rfl rfl hl.1 rfl (lv_room (nbq rfl)) (qaa qcT 14 rfl) ⟨nbq rfl, nbq rfl⟩) hS (fun q _ h => hFc q h) hFc (fun r5 u t H1 locs ht hvm hw hB hz1 hk1 hS => ?_)
    obtain ⟨hP1, hK1, hD1⟩ := hB
    rw [ht] at hP1
    obtain ⟨hP, hD⟩ := qah (wr := (qgh a0 jaX jaF jaD jbx x3 jb8 jbh jaY jap jaW jal jam jax jao ja6 jaV ja8 jae jag jaf ja0 ja4 jaP jaw jaI jaZ jaG jaS jan jaU jaE jar jaL jah jaB jaa jaz jaH jab ja2 z0_s jaq jai jaO jaA jat jau jav jaj jas jaJ jak jad jay jac jaW cyI jbC)) (w1 := []) (wn := (qgh a0 jaX jaF jaD jbx x3 jb8 jbh jaY jap jaW jal jam jax jao ja6 jaV ja8 jae jag jaf ja0 ja4 jaP jaw jaI jaZ jaG jaS jan jaU jaE jar jaL jah jaB jaa jaz jaH jab ja2 z0_s jaq jai jaO jaA jat jau jav jaj jas jaJ jak jad jay jac jaW cyI jbC)) hP hD [] [0, 1] hCc rfl (by decide +kernel) (by decide +kernel) rfl hk1 hFc hP1 hD1
    generalize H1 = H at hP hS ⊢
    refine lv_if_ne (tgt := 41) hx hb (qaa qcT 15 rfl) (by decide) (fun c6 => ?_) (fun c6 => ?_)
    · have hw := hw.1 c6
      obtain ⟨n9, hw⟩ := hw
      exact q61 dC dI cyB cyI cyJ cyP a0 jaW jaX jaF jaD jaY jap jal jam jax jao ja6 jaV ja8 jae jag jaf ja0 ja4 jaP jaw jaI jaZ jaG jaS jan jaU jaE jar jaL jah jaB jaa jaz jaH jab ja2 z0_s jaq jai jaO jaA jat jau jav jaj jas jaJ jak jad jay jac jbx jbC Q C0 n9 _ _ _ x3 jb8 jbh p1 p2 x3 0 hP hD hS (lv_sub hl [3, 4, 5, 1, 0] rfl) hw
    · have hw := hw.2 c6
      refine lv_aload_n hx hb (qaa qcr 0 rfl) rfl (lv_at hl 3 rfl) ?_
      refine lv_iconst (v := 1) hx hb (qaa qcr 1 rfl) (by decide) ?_
      refine lv_aload_n hx hb (qaa qcr 2 rfl) rfl (lv_at hl 3 rfl) ?_
      refine va_get (D := (dC, dI)) (ci := 11) (v := .int x3) (C := RX11) (T := TX11) (N := 55) hx hb hts qib hown hK hP 0 rfl rfl 4 (by decide) (hts _ qoI) (fun _ h9 => h9) rfl (qaa qcr 3 rfl) ?_
      obtain ⟨hCc, hPc, hDc, hFc⟩ := qac (ws' := (qLT a0 jaX jaF jaD jbx x3 jb8 jbh jaY jap jaW jal jam jax jao ja6 jaV ja8 jae jag jaf ja0 ja4 jaP jaw jaI jaZ jaG jaS jan jaU jaE jar jaL jah jaB jaa jaz jaH jab ja2 z0_s jaq jai jaO jaA jat jau jav jaj jas jaJ jak jad jay jac)) hP hD hS hA [0] (by decide +kernel) rfl
      refine va_callv (va_runV (As := [.int 1, .int x3]) (rest := []) ⟨hx, hb, hml, hown, hts⟩ (qrt l dC dI cyB cyI cyJ cyP a0 H.size (jaX) (jaF) (jaD) (.int jbx) (.int x3) (jaY) (jap) (.ref jaW) (jal) (jam) (jax) (jao) (ja6) (jaV) (ja8) (jae) (jag) (jaf) (ja0) (ja4) (jaP) (jaw) (jaI) (jaZ) (jaG) (jaS) (jan) (jaU) (jaE) (jar) (jaL) (jah) (jaB) (jaa) (jaz) (jaH) (jab) (ja2) (z0_s) (jaq) (jai) (jaO) (jaA) (jat) (jau) (jav) (jaj) (jas) (jaJ) (jak) (jad) (jay) (jac) jb8 jbh 1 x3 hw) (cwV 2 hts gX11_readNumber_X11_wrong rfl rfl rfl (by decide +kernel) ⟨nbq rfl, nbq rfl⟩) ⟨qab, va_recv (q := (RX11, TX11, 55)) hK hPc (ci := 11) (q0 := 0) rfl rfl, qae hPc hK hDc hNw⟩ rfl rfl hl.1 rfl (lv_room (nbq rfl)) (qaa qcr 4 rfl) ⟨nbq rfl, nbq rfl⟩) hS (fun q _ h => hFc q h) hFc (fun u t H1 locs ht hvm hw hB hz1 hk1 hS => ?_)
      obtain ⟨x7, x8⟩ := u
      obtain ⟨hP1, hK1, hD1⟩ := hB
      rw [ht] at hP1
      obtain ⟨hP, hD⟩ := qad (wr := (qamj jaW cyI jbC)) (w1 := (qLT a0 jaX jaF jaD jbx x3 x7 x8 jaY jap jaW jal jam jax jao ja6 jaV ja8 jae jag jaf ja0 ja4 jaP jaw jaI jaZ jaG jaS jan jaU jaE jar jaL jah jaB jaa jaz jaH jab ja2 z0_s jaq jai jaO jaA jat jau jav jaj jas jaJ jak jad jay jac)) (wn := (qgh a0 jaX jaF jaD jbx x3 x7 x8 jaY jap jaW jal jam jax jao ja6 jaV ja8 jae jag jaf ja0 ja4 jaP jaw jaI jaZ jaG jaS jan jaU jaE jar jaL jah jaB jaa jaz jaH jab ja2 z0_s jaq jai jaO jaA jat jau jav jaj jas jaJ jak jad jay jac jaW cyI jbC)) hP hD [0] [1] [1, 0] hCc rfl (by decide +kernel) (by decide +kernel) (by decide +kernel) rfl hk1 hFc hP1 hD1
      generalize H1 = H at hP hS ⊢
      refine lv_iconst (v := 0) hx hb (qaa qcr 5 rfl) (by decide) ?_
      exact ((W.iret (v := 0) hx hb hr (fun t ht hW => ⟨⟨0, (x3, x7, x8), rfl, hw, by rw [ht]; exact hP, va_K.moved hW.alike hK, hD⟩, hS.F ht⟩) hS.2.2 (qaa qcr 6 rfl)))
  · have hw := hw.2 c2
    refine lv_iconst (v := 0) hx hb (qaa qcT 3 rfl) (by decide) ?_
    exact ((W.iret (v := 0) hx hb hr (fun t ht hW => ⟨⟨0, (jcP, jb8, jbh), rfl, hw, by rw [ht]; exact hP, va_K.moved hW.alike hK, hD⟩, hS.F ht⟩) hS.2.2 (qaa qcT 4 rfl)))
theorem qQf : ∀ w ∈ u_ws RX11 TX11 55, w ∈ wsX11_sign := uiM qGr qfa (by decide +kernel)
theorem qMG : (.fieldLink RX11 120 "MarchHaresModel" "at" "I" : Cond) ∈ wsX11_sign := qGr 1103 (by decide +kernel)
set_option maxHeartbeats 4000000 in
set_option maxRecDepth 100000 in
theorem qT5 {p : Program} {l : Launch} {e : Env} {s : State} {m : MethodId} {args : Array Value} {below : List Frame} {meth : Method} {c : Code} {A : Nat → Prop} (dC : Nat → ClassId) (dI : Nat → Nat → Nat) (cyB cyI cyJ cyP : ClassId) (a0 jaW : Nat) (jaX jaF jaD jaY jap jal jam jax jao ja6 jaV ja8 jae jag jaf ja0 ja4 jaP jaw jaI jaZ jaG jaS jan jaU jaE jar jaL jah jaB jaa jaz jaH jab ja2 z0_s jaq jai jaO jaA jat jau jav jaj jas jaJ jak jad jay jac : Value) (jbx : Int32) (jbC : NI) (Q : Int32 → Int32 → Int32 → Prop) (C0 : cfx p s m args meth c cX11_sign none wsX11_sign RX11 2 A (dC, dI) (kT cyB cyI cyJ cyP)) : ∀ (H : Heap) (locs : List Loc) (ls : Array Slot) (jcP jb8 jbh : Int32), va_P (dC, dI) vwCl (qgh a0 jaX jaF jaD jbx jcP jb8 jbh jaY jap jaW jal jam jax jao ja6 jaV ja8 jae jag jaf ja0 ja4 jaP jaw jaI jaZ jaG jaS jan jaU jaE jar jaL jah jaB jaa jaz jaH jab ja2 z0_s jaq jai jaO jaA jat jau jav jaj jas jaJ jak jad jay jac jaW cyI jbC) H → va_D A (qgh a0 jaX jaF jaD jbx jcP jb8 jbh jaY jap jaW jal jam jax jao ja6 jaV ja8 jae jag jaf ja0 ja4 jaP jaw jaI jaZ jaG jaS jan jaU jaE jar jaL jah jaB jaa jaz jaH jab ja2 z0_s jaq jai jaO jaA jat jau jav jaj jas jaJ jak jad jay jac jaW cyI jbC) → va_S A s.heap H locs → lv_has ls 2 [(0, .ref a0)] → qKk jbx jbC Q jcP jb8 jbh → W p l e (headSpec wsX11_sign ({ frames := 1, cells := 0, slots := 0, locals := 22 })).room s m args below meth c H locs 0 0 (MQ below (va_Qv (fun (u : Int32 × Int32 × Int32) => Q u.1 u.2.1 u.2.2) (cB (dC, dI) (kT cyB cyI cyJ cyP) A (fun u : Int32 × Int32 × Int32 => ((qgh a0 jaX jaF jaD jbx u.1 u.2.1 u.2.2 jaY jap jaW jal jam jax jao ja6 jaV ja8 jae jag jaf ja0 ja4 jaP jaw jaI jaZ jaG jaS jan jaU jaE jar jaL jah jaB jaa jaz jaH jab ja2 z0_s jaq jai jaO jaA jat jau jav jaj jas jaJ jak jad jay jac jaW cyI jbC) : va_W))) A) args s 0 0 A) (F0 m 24 ls []) := by
  obtain ⟨hx, hb, hr, hts, hown, hlocks, hml, hA, hK, hNw⟩ := id C0
  intro H locs ls jcP jb8 jbh hP hD hS hl hw
  refine lv_aload_n hx hb (qaa qlU 12 rfl) rfl (lv_at hl 0 rfl) ?_
  obtain ⟨hCc, hPc, hDc, hFc⟩ := qac (ws' := (qLT a0 jaX jaF jaD jbx jcP jb8 jbh jaY jap jaW jal jam jax jao ja6 jaV ja8 jae jag jaf ja0 ja4 jaP jaw jaI jaZ jaG jaS jan jaU jaE jar jaL jah jaB jaa jaz jaH jab ja2 z0_s jaq jai jaO jaA jat jau jav jaj jas jaJ jak jad jay jac)) hP hD hS hA [0] (by decide +kernel) rfl
  refine va_calli (va_runV (As := []) (rest := []) ⟨hx, hb, hml, hown, hts⟩ (qdP l dC dI cyB cyI cyJ cyP a0 H.size (jaX) (jaF) (jaD) (.int jbx) (.int jcP) (.int jbh) (jaY) (jap) (.ref jaW) (jal) (jam) (jax) (jao) (ja6) (jaV) (ja8) (jae) (jag) (jaf) (ja0) (ja4) (jaP) (jaw) (jaI) (jaZ) (jaG) (jaS) (jan) (jaU) (jaE) (jar) (jaL) (jah) (jaB) (jaa) (jaz) (jaH) (jab) (ja2) (z0_s) (jaq) (jai) (jaO) (jaA) (jat) (jau) (jav) (jaj) (jas) (jaJ) (jak) (jad) (jay) (jac) jb8 hw) (cwV 0 hts gX11_sign_X11_fine rfl rfl rfl (by decide +kernel) ⟨nbq rfl, nbq rfl⟩) ⟨qab, va_recv (q := (RX11, TX11, 55)) hK hPc (ci := 11) (q0 := 0) rfl rfl, qae hPc hK hDc hNw⟩ rfl rfl hl.1 rfl (lv_room (nbq rfl)) (qaa qlU 13 rfl) ⟨nbq rfl, nbq rfl⟩) hS (fun q _ h => hFc q h) hFc (fun r8 u t H1 locs ht hvm hw hB hz1 hk1 hS => ?_)
  obtain ⟨hP1, hK1, hD1⟩ := hB
  rw [ht] at hP1
  obtain ⟨hP, hD⟩ := qad (wr := (qamj jaW cyI jbC)) (w1 := (qLT a0 jaX jaF jaD jbx jcP jb8 jbh jaY jap jaW jal jam jax jao ja6 jaV ja8 jae jag jaf ja0 ja4 jaP jaw jaI jaZ jaG jaS jan jaU jaE jar jaL jah jaB jaa jaz jaH jab ja2 z0_s jaq jai jaO jaA jat jau jav jaj jas jaJ jak jad jay jac)) (wn := (qgh a0 jaX jaF jaD jbx jcP jb8 jbh jaY jap jaW jal jam jax jao ja6 jaV ja8 jae jag jaf ja0 ja4 jaP jaw jaI jaZ jaG jaS jan jaU jaE jar jaL jah jaB jaa jaz jaH jab ja2 z0_s jaq jai jaO jaA jat jau jav jaj jas jaJ jak jad jay jac jaW cyI jbC)) hP hD [0] [1] [1, 0] hCc rfl (by decide +kernel) (by decide +kernel) (by decide +kernel) rfl hk1 hFc hP1 hD1
  generalize H1 = H at hP hS ⊢
  refine lv_if_eq (tgt := 41) hx hb (qaa qlU 14 rfl) (by decide) (fun c9 => ?_) (fun c9 => ?_)
  · have hw := hw.1 c9
    exact ((W.vret hx hb hr (fun t ht hW => ⟨⟨(jcP, jb8, jbh), rfl, hw, by rw [ht]; exact hP, va_K.moved hW.alike hK, hD⟩, hS.F ht⟩) hS.2.2 (qaa qxB 5 rfl)))
  · have hw := hw.2 c9
    refine lv_aload_n hx hb (qaa qlU 15 rfl) rfl (lv_at hl 0 rfl) ?_
    refine lv_dup hx hb (qaa qxB 0 rfl) rfl ?_
    refine va_get (D := (dC, dI)) (ci := 11) (v := .int jcP) (C := RX11) (T := TX11) (N := 55) hx hb hts qQf hown hK hP 0 rfl rfl 4 (by decide) (hts _ qMG) (fun _ h9 => h9) rfl (qaa qxB 1 rfl) ?_
    refine lv_iconst (v := 1) hx hb (qaa qxB 2 rfl) (by decide) ?_
    refine lv_iadd hx hb (qaa qxB 3 rfl) ?_
    refine lv_topi (fun x10 ex10 => ?_)
    have hw := hw x10 ex10
    refine va_put (D := (dC, dI)) (ci := 11) (v := .int x10) (ty := .int) (C := RX11) (T := TX11) (N := 55) hx hb hts qQf tyX11 tyX11_ok nmX11 hown hK hP hD hS 0 rfl rfl 4 (by decide) (hts _ qMG) (fun _ h9 => h9) rfl (by decide +kernel) rfl rfl (nbq rfl) (qaa qxB 4 rfl) (fun H locs hP hD hS => ?_)
    have hP : va_P (dC, dI) vwCl (qgh a0 jaX jaF jaD jbx x10 jb8 jbh jaY jap jaW jal jam jax jao ja6 jaV ja8 jae jag jaf ja0 ja4 jaP jaw jaI jaZ jaG jaS jan jaU jaE jar jaL jah jaB jaa jaz jaH jab ja2 z0_s jaq jai jaO jaA jat jau jav jaj jas jaJ jak jad jay jac jaW cyI jbC) H := hP
    have hD : va_D A (qgh a0 jaX jaF jaD jbx x10 jb8 jbh jaY jap jaW jal jam jax jao ja6 jaV ja8 jae jag jaf ja0 ja4 jaP jaw jaI jaZ jaG jaS jan jaU jaE jar jaL jah jaB jaa jaz jaH jab ja2 z0_s jaq jai jaO jaA jat jau jav jaj jas jaJ jak jad jay jac jaW cyI jbC) := hD
    exact ((W.vret hx hb hr (fun t ht hW => ⟨⟨(x10, jb8, jbh), rfl, hw, by rw [ht]; exact hP, va_K.moved hW.alike hK, hD⟩, hS.F ht⟩) hS.2.2 (qaa qxB 5 rfl)))
set_option maxHeartbeats 4000000 in
set_option maxRecDepth 100000 in
theorem qto (l : Launch) (dC : Nat → ClassId) (dI : Nat → Nat → Nat) (cyB cyI cyJ cyP : ClassId) (a0 jaW sz : Nat) (jaX jaF jaD jaY jap jal jam jax jao ja6 jaV ja8 jae jag jaf ja0 ja4 jaP jaw jaI jaZ jaG jaS jan jaU jaE jar jaL jah jaB jaa jaz jaH jab ja2 z0_s jaq jai jaO jaA jat jau jav jaj jas jaJ jak jad jay jac : Value) (jbx : Int32) (jbC : NI) (jcP jb8 jbh p1 : Int32) {Q : Int32 → Int32 → Int32 → Prop} (hw : qp7 jbx jbC jcP jb8 jbh p1 Q) : Met l yX11_sign wsX11_sign ({ frames := 1, cells := 0, slots := 0, locals := 22 }) (va_Pc [.ref a0, .int p1] (cPc (dC, dI) (kT cyB cyI cyJ cyP) (qgh a0 jaX jaF jaD jbx jcP jb8 jbh jaY jap jaW jal jam jax jao ja6 jaV ja8 jae jag jaf ja0 ja4 jaP jaw jaI jaZ jaG jaS jan jaU jaE jar jaL jah jaB jaa jaz jaH jab ja2 z0_s jaq jai jaO jaA jat jau jav jaj jas jaJ jak jad jay jac jaW cyI jbC) sz)) (va_Qv (fun (u : Int32 × Int32 × Int32) => Q u.1 u.2.1 u.2.2) (cB (dC, dI) (kT cyB cyI cyJ cyP) (va_A (qgh a0 jaX jaF jaD jbx jcP jb8 jbh jaY jap jaW jal jam jax jao ja6 jaV ja8 jae jag jaf ja0 ja4 jaP jaw jaI jaZ jaG jaS jan jaU jaE jar jaL jah jaB jaa jaz jaH jab ja2 z0_s jaq jai jaO jaA jat jau jav jaj jas jaJ jak jad jay jac jaW cyI jbC) sz) (fun u : Int32 × Int32 × Int32 => ((qgh a0 jaX jaF jaD jbx u.1 u.2.1 u.2.2 jaY jap jaW jal jam jax jao ja6 jaV ja8 jae jag jaf ja0 ja4 jaP jaw jaI jaZ jaG jaS jan jaU jaE jar jaL jah jaB jaa jaz jaH jab ja2 z0_s jaq jai jaO jaA jat jau jav jaj jas jaJ jak jad jay jac jaW cyI jbC) : va_W))) (va_A (qgh a0 jaX jaF jaD jbx jcP jb8 jbh jaY jap jaW jal jam jax jao ja6 jaV ja8 jae jag jaf ja0 ja4 jaP jaw jaI jaZ jaG jaS jan jaU jaE jar jaL jah jaB jaa jaz jaH jab ja2 z0_s jaq jai jaO jaA jat jau jav jaj jas jaJ jak jad jay jac jaW cyI jbC) sz)) 0 0 (va_A (qgh a0 jaX jaF jaD jbx jcP jb8 jbh jaY jap jaW jal jam jax jao ja6 jaV ja8 jae jag jaf ja0 ja4 jaP jaw jaI jaZ jaG jaS jan jaU jaE jar jaL jah jaB jaa jaz jaH jab ja2 z0_s jaq jai jaO jaA jat jau jav jaj jas jaJ jak jad jay jac jaW cyI jbC) sz) := by
  refine Met.ofW (cc := cX11_sign) (maxL := 2) (ret := none) (by decide) rfl ?_
  intro p e s m args below meth c s₁ B hml hv
  obtain ⟨rfl, hsz, hP, hK, hD0, hNw⟩ := hv
  have hx := B.exec
  have hb := B.bytes
  have hr := B.returns
  have hts := atoms_spec (ws := wsX11_sign) B.pre
  have hown : s.vm.findClass RX11 = some m.cls := findClass_of_methodNamed B.named
  have hlocks := B.notSynchronized
  subst hsz
  have hD := hD0.self (sz := s.heap.size)
  generalize hAe : va_A (qgh a0 jaX jaF jaD jbx jcP jb8 jbh jaY jap jaW jal jam jax jao ja6 jaV ja8 jae jag jaf ja0 ja4 jaP jaw jaI jaZ jaG jaS jan jaU jaE jar jaL jah jaB jaa jaz jaH jab ja2 z0_s jaq jai jaO jaA jat jau jav jaj jas jaJ jak jad jay jac jaW cyI jbC) s.heap.size = A at hD ⊢
  have hA : ∀ q : Nat, s.heap.size ≤ q → A q := fun q h => by rw [← hAe]; exact Or.inr h
  have hS : va_S A s.heap s.heap [] := va_S.rf
  have hP : va_P (dC, dI) vwCl (qgh a0 jaX jaF jaD jbx jcP jb8 jbh jaY jap jaW jal jam jax jao ja6 jaV ja8 jae jag jaf ja0 ja4 jaP jaw jaI jaZ jaG jaS jan jaU jaE jar jaL jah jaB jaa jaz jaH jab ja2 z0_s jaq jai jaO jaA jat jau jav jaj jas jaJ jak jad jay jac jaW cyI jbC) s.heap := hP
  have hl := lv_entry ([.ref a0, .int p1]) (n := 2) (nbq rfl)
  rw [lg_entry_eq]
  generalize (lg_sl ([.ref a0, .int p1]) ++ List.replicate (2 - (lg_sl ([.ref a0, .int p1])).length) Slot.unset).toArray = ls at hl ⊢
  have hl : lv_has ls 2 [(0, .ref a0), (1, .int p1)] := hl
  have C0 : cfx p s m _ meth c cX11_sign none wsX11_sign RX11 2 A (dC, dI) (kT cyB cyI cyJ cyP) := ⟨hx, hb, hr, hts, hown, hlocks, hml, hA, hK, hNw⟩
  clear hAe
  obtain ⟨H, hH⟩ : ∃ H, H = s.heap := ⟨_, rfl⟩
  rw [← hH] at hP ⊢
  have hS : va_S A s.heap H [] := by rw [hH]; exact va_S.rf
  have hS := hS
  refine lv_aload_n hx hb (qaa qlU 0 rfl) rfl (lv_at hl 0 rfl) ?_
  obtain ⟨hCc, hPc, hDc, hFc⟩ := qac (ws' := (qLT a0 jaX jaF jaD jbx jcP jb8 jbh jaY jap jaW jal jam jax jao ja6 jaV ja8 jae jag jaf ja0 ja4 jaP jaw jaI jaZ jaG jaS jan jaU jaE jar jaL jah jaB jaa jaz jaH jab ja2 z0_s jaq jai jaO jaA jat jau jav jaj jas jaJ jak jad jay jac)) hP hD hS hA [0] (by decide +kernel) rfl
  refine va_calli (va_runV (As := []) (rest := []) ⟨hx, hb, hml, hown, hts⟩ (qdP l dC dI cyB cyI cyJ cyP a0 H.size (jaX) (jaF) (jaD) (.int jbx) (.int jcP) (.int jbh) (jaY) (jap) (.ref jaW) (jal) (jam) (jax) (jao) (ja6) (jaV) (ja8) (jae) (jag) (jaf) (ja0) (ja4) (jaP) (jaw) (jaI) (jaZ) (jaG) (jaS) (jan) (jaU) (jaE) (jar) (jaL) (jah) (jaB) (jaa) (jaz) (jaH) (jab) (ja2) (z0_s) (jaq) (jai) (jaO) (jaA) (jat) (jau) (jav) (jaj) (jas) (jaJ) (jak) (jad) (jay) (jac) jb8 hw) (cwV 0 hts gX11_sign_X11_fine rfl rfl rfl (by decide +kernel) ⟨nbq rfl, nbq rfl⟩) ⟨qab, va_recv (q := (RX11, TX11, 55)) hK hPc (ci := 11) (q0 := 0) rfl rfl, qae hPc hK hDc hNw⟩ rfl rfl hl.1 rfl (lv_room (nbq rfl)) (qaa qlU 1 rfl) ⟨nbq rfl, nbq rfl⟩) hS (fun q _ h => hFc q h) hFc (fun r1 u t H1 locs ht hvm hw hB hz1 hk1 hS => ?_)
  obtain ⟨hP1, hK1, hD1⟩ := hB
  rw [ht] at hP1
  obtain ⟨hP, hD⟩ := qad (wr := (qamj jaW cyI jbC)) (w1 := (qLT a0 jaX jaF jaD jbx jcP jb8 jbh jaY jap jaW jal jam jax jao ja6 jaV ja8 jae jag jaf ja0 ja4 jaP jaw jaI jaZ jaG jaS jan jaU jaE jar jaL jah jaB jaa jaz jaH jab ja2 z0_s jaq jai jaO jaA jat jau jav jaj jas jaJ jak jad jay jac)) (wn := (qgh a0 jaX jaF jaD jbx jcP jb8 jbh jaY jap jaW jal jam jax jao ja6 jaV ja8 jae jag jaf ja0 ja4 jaP jaw jaI jaZ jaG jaS jan jaU jaE jar jaL jah jaB jaa jaz jaH jab ja2 z0_s jaq jai jaO jaA jat jau jav jaj jas jaJ jak jad jay jac jaW cyI jbC)) hP hD [0] [1] [1, 0] hCc rfl (by decide +kernel) (by decide +kernel) (by decide +kernel) rfl hk1 hFc hP1 hD1
  generalize H1 = H at hP hS ⊢
  refine lv_if_eq (tgt := 24) hx hb (qaa qlU 2 rfl) (by decide) (fun c2 => ?_) (fun c2 => ?_)
  · have hw := hw.1 c2
    exact qT5 dC dI cyB cyI cyJ cyP a0 jaW jaX jaF jaD jaY jap jal jam jax jao ja6 jaV ja8 jae jag jaf ja0 ja4 jaP jaw jaI jaZ jaG jaS jan jaU jaE jar jaL jah jaB jaa jaz jaH jab ja2 z0_s jaq jai jaO jaA jat jau jav jaj jas jaJ jak jad jay jac jbx jbC Q C0 _ _ _ jcP jb8 jbh hP hD hS (lv_sub hl [0] rfl) hw
  · have hw := hw.2 c2
    refine lv_aload_n hx hb (qaa qlU 3 rfl) rfl (lv_at hl 0 rfl) ?_
    obtain ⟨hCc, hPc, hDc, hFc⟩ := qac (ws' := (qgh a0 jaX jaF jaD jbx jcP jb8 jbh jaY jap jaW jal jam jax jao ja6 jaV ja8 jae jag jaf ja0 ja4 jaP jaw jaI jaZ jaG jaS jan jaU jaE jar jaL jah jaB jaa jaz jaH jab ja2 z0_s jaq jai jaO jaA jat jau jav jaj jas jaJ jak jad jay jac jaW cyI jbC)) hP hD hS hA [0, 1] (by decide +kernel) rfl
    refine va_calli (va_runV (As := []) (rest := []) ⟨hx, hb, hml, hown, hts⟩ (qeS l dC dI cyB cyI cyJ cyP a0 jaW H.size (jaX) (jaF) (jaD) (.int jb8) (.int jbh) (jaY) (jap) (jal) (jam) (jax) (jao) (ja6) (jaV) (ja8) (jae) (jag) (jaf) (ja0) (ja4) (jaP) (jaw) (jaI) (jaZ) (jaG) (jaS) (jan) (jaU) (jaE) (jar) (jaL) (jah) (jaB) (jaa) (jaz) (jaH) (jab) (ja2) (z0_s) (jaq) (jai) (jaO) (jaA) (jat) (jau) (jav) (jaj) (jas) (jaJ) (jak) (jad) (jay) (jac) jbx jbC jcP hw) (cwV 0 hts gX11_sign_X11_here rfl rfl rfl (by decide +kernel) ⟨nbq rfl, nbq rfl⟩) ⟨qab, va_recv (q := (RX11, TX11, 55)) hK hPc (ci := 11) (q0 := 0) rfl rfl, qae hPc hK hDc hNw⟩ rfl rfl hl.1 rfl (lv_room (nbq rfl)) (qaa qlU 4 rfl) ⟨nbq rfl, nbq rfl⟩) hS (fun q _ h => hFc q h) hFc (fun r4 u t H1 locs ht hvm hw hB hz1 hk1 hS => ?_)
    obtain ⟨x3, rfl⟩ : ∃ z, z = u := ⟨_, rfl⟩
    obtain ⟨hP1, hK1, hD1⟩ := hB
    rw [ht] at hP1
    obtain ⟨hP, hD⟩ := qah (wr := []) (w1 := (qgh a0 jaX jaF jaD jbx x3 jb8 jbh jaY jap jaW jal jam jax jao ja6 jaV ja8 jae jag jaf ja0 ja4 jaP jaw jaI jaZ jaG jaS jan jaU jaE jar jaL jah jaB jaa jaz jaH jab ja2 z0_s jaq jai jaO jaA jat jau jav jaj jas jaJ jak jad jay jac jaW cyI jbC)) (wn := (qgh a0 jaX jaF jaD jbx x3 jb8 jbh jaY jap jaW jal jam jax jao ja6 jaV ja8 jae jag jaf ja0 ja4 jaP jaw jaI jaZ jaG jaS jan jaU jaE jar jaL jah jaB jaa jaz jaH jab ja2 z0_s jaq jai jaO jaA jat jau jav jaj jas jaJ jak jad jay jac jaW cyI jbC)) hP hD [0, 1] [] hCc rfl (by decide +kernel) (by decide +kernel) rfl hk1 hFc hP1 hD1
    generalize H1 = H at hP hS ⊢
    refine lv_iload_n hx hb (qaa qlU 5 rfl) rfl (lv_at hl 1 rfl) ?_
    refine lv_icmp_eq (tgt := 24) hx hb (qaa qlU 6 rfl) (by decide) (fun c5 => ?_) (fun c5 => ?_)
    · have hw := hw.1 c5
      exact qT5 dC dI cyB cyI cyJ cyP a0 jaW jaX jaF jaD jaY jap jal jam jax jao ja6 jaV ja8 jae jag jaf ja0 ja4 jaP jaw jaI jaZ jaG jaS jan jaU jaE jar jaL jah jaB jaa jaz jaH jab ja2 z0_s jaq jai jaO jaA jat jau jav jaj jas jaJ jak jad jay jac jbx jbC Q C0 _ _ _ x3 jb8 jbh hP hD hS (lv_sub hl [0] rfl) hw
    · have hw := hw.2 c5
      refine lv_aload_n hx hb (qaa qlU 7 rfl) rfl (lv_at hl 0 rfl) ?_
      refine lv_iconst (v := 1) hx hb (qaa qlU 8 rfl) (by decide) ?_
      refine lv_aload_n hx hb (qaa qlU 9 rfl) rfl (lv_at hl 0 rfl) ?_
      refine va_get (D := (dC, dI)) (ci := 11) (v := .int x3) (C := RX11) (T := TX11) (N := 55) hx hb hts qQf hown hK hP 0 rfl rfl 4 (by decide) (hts _ qMG) (fun _ h9 => h9) rfl (qaa qlU 10 rfl) ?_
      obtain ⟨hCc, hPc, hDc, hFc⟩ := qac (ws' := (qLT a0 jaX jaF jaD jbx x3 jb8 jbh jaY jap jaW jal jam jax jao ja6 jaV ja8 jae jag jaf ja0 ja4 jaP jaw jaI jaZ jaG jaS jan jaU jaE jar jaL jah jaB jaa jaz jaH jab ja2 z0_s jaq jai jaO jaA jat jau jav jaj jas jaJ jak jad jay jac)) hP hD hS hA [0] (by decide +kernel) rfl
      refine va_callv (va_runV (As := [.int 1, .int x3]) (rest := []) ⟨hx, hb, hml, hown, hts⟩ (qrt l dC dI cyB cyI cyJ cyP a0 H.size (jaX) (jaF) (jaD) (.int jbx) (.int x3) (jaY) (jap) (.ref jaW) (jal) (jam) (jax) (jao) (ja6) (jaV) (ja8) (jae) (jag) (jaf) (ja0) (ja4) (jaP) (jaw) (jaI) (jaZ) (jaG) (jaS) (jan) (jaU) (jaE) (jar) (jaL) (jah) (jaB) (jaa) (jaz) (jaH) (jab) (ja2) (z0_s) (jaq) (jai) (jaO) (jaA) (jat) (jau) (jav) (jaj) (jas) (jaJ) (jak) (jad) (jay) (jac) jb8 jbh 1 x3 hw) (cwV 2 hts gX11_sign_X11_wrong rfl rfl rfl (by decide +kernel) ⟨nbq rfl, nbq rfl⟩) ⟨qab, va_recv (q := (RX11, TX11, 55)) hK hPc (ci := 11) (q0 := 0) rfl rfl, qae hPc hK hDc hNw⟩ rfl rfl hl.1 rfl (lv_room (nbq rfl)) (qaa qlU 11 rfl) ⟨nbq rfl, nbq rfl⟩) hS (fun q _ h => hFc q h) hFc (fun u t H1 locs ht hvm hw hB hz1 hk1 hS => ?_)
      obtain ⟨x6, x7⟩ := u
      obtain ⟨hP1, hK1, hD1⟩ := hB
      rw [ht] at hP1
      obtain ⟨hP, hD⟩ := qad (wr := (qamj jaW cyI jbC)) (w1 := (qLT a0 jaX jaF jaD jbx x3 x6 x7 jaY jap jaW jal jam jax jao ja6 jaV ja8 jae jag jaf ja0 ja4 jaP jaw jaI jaZ jaG jaS jan jaU jaE jar jaL jah jaB jaa jaz jaH jab ja2 z0_s jaq jai jaO jaA jat jau jav jaj jas jaJ jak jad jay jac)) (wn := (qgh a0 jaX jaF jaD jbx x3 x6 x7 jaY jap jaW jal jam jax jao ja6 jaV ja8 jae jag jaf ja0 ja4 jaP jaw jaI jaZ jaG jaS jan jaU jaE jar jaL jah jaB jaa jaz jaH jab ja2 z0_s jaq jai jaO jaA jat jau jav jaj jas jaJ jak jad jay jac jaW cyI jbC)) hP hD [0] [1] [1, 0] hCc rfl (by decide +kernel) (by decide +kernel) (by decide +kernel) rfl hk1 hFc hP1 hD1
      generalize H1 = H at hP hS ⊢
      exact qT5 dC dI cyB cyI cyJ cyP a0 jaW jaX jaF jaD jaY jap jal jam jax jao ja6 jaV ja8 jae jag jaf ja0 ja4 jaP jaw jaI jaZ jaG jaS jan jaU jaE jar jaL jah jaB jaa jaz jaH jab ja2 z0_s jaq jai jaO jaA jat jau jav jaj jas jaJ jak jad jay jac jbx jbC Q C0 _ _ _ x3 x6 x7 hP hD hS (lv_sub hl [0] rfl) hw
theorem qJr : ∀ w ∈ u_ws RX11 TX11 55, w ∈ wsX11_result := uiM qGH qfa (by decide +kernel)
theorem qac1 : (.fieldLink RX11 114 "MarchHaresModel" "bad" "I" : Cond) ∈ wsX11_result := qGH 1104 (by decide +kernel)
theorem qaeH : (.fieldLink RX11 117 "MarchHaresModel" "badKind" "I" : Cond) ∈ wsX11_result := qGH 1226 (by decide +kernel)
theorem qaiY : (.fieldLink RX11 17 "MarchHaresModel" "faultAt" "I" : Cond) ∈ wsX11_result := qGH 399 (by decide +kernel)
set_option maxHeartbeats 4000000 in
set_option maxRecDepth 100000 in
theorem qHI (l : Launch) (dC : Nat → ClassId) (dI : Nat → Nat → Nat) (cyB cyI cyJ cyP : ClassId) (a0 sz : Nat) (jaX jaF jaD ja7 jby jaY jaK jal jam jax jao ja6 jaV ja8 jae jag jaf ja0 ja4 jaP jaw jaI jaZ jaG jaS jan jaU jaE jar jaL jah jaB jaa jaz jaH jab ja2 z0_s jaq jai jaO jaA jat jau jav jaj jas jaJ jak jad jay jac : Value) (jb8 jbh jgo p1 : Int32) {Q : Int32 → Int32 → Prop} (hw : qtJ jb8 jbh jgo p1 Q) : Met l yX11_result wsX11_result ({ frames := 1, cells := 0, slots := 0, locals := 20 }) (va_Pc [.ref a0, .int p1] (cPc (dC, dI) (kT cyB cyI cyJ cyP) (qMf a0 jaX jaF jaD ja7 jby jb8 jbh jaY jgo jaK jal jam jax jao ja6 jaV ja8 jae jag jaf ja0 ja4 jaP jaw jaI jaZ jaG jaS jan jaU jaE jar jaL jah jaB jaa jaz jaH jab ja2 z0_s jaq jai jaO jaA jat jau jav jaj jas jaJ jak jad jay jac) sz)) (va_Qi (fun (r u : Int32) => Q r u) (cB (dC, dI) (kT cyB cyI cyJ cyP) (va_A (qMf a0 jaX jaF jaD ja7 jby jb8 jbh jaY jgo jaK jal jam jax jao ja6 jaV ja8 jae jag jaf ja0 ja4 jaP jaw jaI jaZ jaG jaS jan jaU jaE jar jaL jah jaB jaa jaz jaH jab ja2 z0_s jaq jai jaO jaA jat jau jav jaj jas jaJ jak jad jay jac) sz) (fun u : Int32 => ((qMf a0 jaX jaF jaD ja7 jby jb8 jbh jaY u jaK jal jam jax jao ja6 jaV ja8 jae jag jaf ja0 ja4 jaP jaw jaI jaZ jaG jaS jan jaU jaE jar jaL jah jaB jaa jaz jaH jab ja2 z0_s jaq jai jaO jaA jat jau jav jaj jas jaJ jak jad jay jac) : va_W))) (va_A (qMf a0 jaX jaF jaD ja7 jby jb8 jbh jaY jgo jaK jal jam jax jao ja6 jaV ja8 jae jag jaf ja0 ja4 jaP jaw jaI jaZ jaG jaS jan jaU jaE jar jaL jah jaB jaa jaz jaH jab ja2 z0_s jaq jai jaO jaA jat jau jav jaj jas jaJ jak jad jay jac) sz)) 0 0 (va_A (qMf a0 jaX jaF jaD ja7 jby jb8 jbh jaY jgo jaK jal jam jax jao ja6 jaV ja8 jae jag jaf ja0 ja4 jaP jaw jaI jaZ jaG jaS jan jaU jaE jar jaL jah jaB jaa jaz jaH jab ja2 z0_s jaq jai jaO jaA jat jau jav jaj jas jaJ jak jad jay jac) sz) := by
  refine Met.ofW (cc := cX11_result) (maxL := 2) (ret := (some .int)) (by decide) rfl ?_
  intro p e s m args below meth c s₁ B hml hv
  obtain ⟨rfl, hsz, hP, hK, hD0, hNw⟩ := hv
  have hx := B.exec
  have hb := B.bytes
  have hr := B.returns
  have hts := atoms_spec (ws := wsX11_result) B.pre
  have hown : s.vm.findClass RX11 = some m.cls := findClass_of_methodNamed B.named
  have hlocks := B.notSynchronized
  subst hsz
  have hD := hD0.self (sz := s.heap.size)
  generalize hAe : va_A (qMf a0 jaX jaF jaD ja7 jby jb8 jbh jaY jgo jaK jal jam jax jao ja6 jaV ja8 jae jag jaf ja0 ja4 jaP jaw jaI jaZ jaG jaS jan jaU jaE jar jaL jah jaB jaa jaz jaH jab ja2 z0_s jaq jai jaO jaA jat jau jav jaj jas jaJ jak jad jay jac) s.heap.size = A at hD ⊢
  have hA : ∀ q : Nat, s.heap.size ≤ q → A q := fun q h => by rw [← hAe]; exact Or.inr h
  have hS : va_S A s.heap s.heap [] := va_S.rf
  have hP : va_P (dC, dI) vwCl (qMf a0 jaX jaF jaD ja7 jby jb8 jbh jaY jgo jaK jal jam jax jao ja6 jaV ja8 jae jag jaf ja0 ja4 jaP jaw jaI jaZ jaG jaS jan jaU jaE jar jaL jah jaB jaa jaz jaH jab ja2 z0_s jaq jai jaO jaA jat jau jav jaj jas jaJ jak jad jay jac) s.heap := hP
  have hl := lv_entry ([.ref a0, .int p1]) (n := 2) (nbq rfl)
  rw [lg_entry_eq]
  generalize (lg_sl ([.ref a0, .int p1]) ++ List.replicate (2 - (lg_sl ([.ref a0, .int p1])).length) Slot.unset).toArray = ls at hl ⊢
  have hl : lv_has ls 2 [(0, .ref a0), (1, .int p1)] := hl
  have C0 : cfx p s m _ meth c cX11_result (some .int) wsX11_result RX11 2 A (dC, dI) (kT cyB cyI cyJ cyP) := ⟨hx, hb, hr, hts, hown, hlocks, hml, hA, hK, hNw⟩
  clear hAe
  obtain ⟨H, hH⟩ : ∃ H, H = s.heap := ⟨_, rfl⟩
  rw [← hH] at hP ⊢
  have hS : va_S A s.heap H [] := by rw [hH]; exact va_S.rf
  have hS := hS
  refine lv_aload_n hx hb (qaa qil 0 rfl) rfl (lv_at hl 0 rfl) ?_
  refine lv_aload_n hx hb (qaa qil 1 rfl) rfl (lv_at hl 0 rfl) ?_
  refine va_get (D := (dC, dI)) (ci := 11) (v := .int jb8) (C := RX11) (T := TX11) (N := 55) hx hb hts qJr hown hK hP 0 rfl rfl 5 (by decide) (hts _ qac1) (fun _ h9 => h9) rfl (qaa qil 2 rfl) ?_
  refine va_put (D := (dC, dI)) (ci := 11) (v := .int jb8) (ty := .int) (C := RX11) (T := TX11) (N := 55) hx hb hts qJr tyX11 tyX11_ok nmX11 hown hK hP hD hS 0 rfl rfl 8 (by decide) (hts _ qaiY) (fun _ h9 => h9) rfl (by decide +kernel) rfl rfl (nbq rfl) (qaa qil 3 rfl) (fun H locs hP hD hS => ?_)
  have hP : va_P (dC, dI) vwCl (qMf a0 jaX jaF jaD ja7 jby jb8 jbh jaY jb8 jaK jal jam jax jao ja6 jaV ja8 jae jag jaf ja0 ja4 jaP jaw jaI jaZ jaG jaS jan jaU jaE jar jaL jah jaB jaa jaz jaH jab ja2 z0_s jaq jai jaO jaA jat jau jav jaj jas jaJ jak jad jay jac) H := hP
  have hD : va_D A (qMf a0 jaX jaF jaD ja7 jby jb8 jbh jaY jb8 jaK jal jam jax jao ja6 jaV ja8 jae jag jaf ja0 ja4 jaP jaw jaI jaZ jaG jaS jan jaU jaE jar jaL jah jaB jaa jaz jaH jab ja2 z0_s jaq jai jaO jaA jat jau jav jaj jas jaJ jak jad jay jac) := hD
  refine lv_aload_n hx hb (qaa qil 4 rfl) rfl (lv_at hl 0 rfl) ?_
  obtain ⟨hCc, hPc, hDc, hFc⟩ := qac (ws' := (qMf a0 jaX jaF jaD ja7 jby jb8 jbh jaY jb8 jaK jal jam jax jao ja6 jaV ja8 jae jag jaf ja0 ja4 jaP jaw jaI jaZ jaG jaS jan jaU jaE jar jaL jah jaB jaa jaz jaH jab ja2 z0_s jaq jai jaO jaA jat jau jav jaj jas jaJ jak jad jay jac)) hP hD hS hA [0] (by decide +kernel) rfl
  refine va_calli (va_runV (As := []) (rest := []) ⟨hx, hb, hml, hown, hts⟩ (qdP l dC dI cyB cyI cyJ cyP a0 H.size (jaX) (jaF) (jaD) (ja7) (jby) (.int jbh) (jaY) (.int jb8) (jaK) (jal) (jam) (jax) (jao) (ja6) (jaV) (ja8) (jae) (jag) (jaf) (ja0) (ja4) (jaP) (jaw) (jaI) (jaZ) (jaG) (jaS) (jan) (jaU) (jaE) (jar) (jaL) (jah) (jaB) (jaa) (jaz) (jaH) (jab) (ja2) (z0_s) (jaq) (jai) (jaO) (jaA) (jat) (jau) (jav) (jaj) (jas) (jaJ) (jak) (jad) (jay) (jac) jb8 hw) (cwV 0 hts gX11_result_X11_fine rfl rfl rfl (by decide +kernel) ⟨nbq rfl, nbq rfl⟩) ⟨qab, va_recv (q := (RX11, TX11, 55)) hK hPc (ci := 11) (q0 := 0) rfl rfl, qae hPc hK hDc hNw⟩ rfl rfl hl.1 rfl (lv_room (nbq rfl)) (qaa qil 5 rfl) ⟨nbq rfl, nbq rfl⟩) hS (fun q _ h => hFc q h) hFc (fun r1 u t H1 locs ht hvm hw hB hz1 hk1 hS => ?_)
  obtain ⟨hP1, hK1, hD1⟩ := hB
  rw [ht] at hP1
  obtain ⟨hP, hD⟩ := qah (wr := []) (w1 := (qMf a0 jaX jaF jaD ja7 jby jb8 jbh jaY jb8 jaK jal jam jax jao ja6 jaV ja8 jae jag jaf ja0 ja4 jaP jaw jaI jaZ jaG jaS jan jaU jaE jar jaL jah jaB jaa jaz jaH jab ja2 z0_s jaq jai jaO jaA jat jau jav jaj jas jaJ jak jad jay jac)) (wn := (qMf a0 jaX jaF jaD ja7 jby jb8 jbh jaY jb8 jaK jal jam jax jao ja6 jaV ja8 jae jag jaf ja0 ja4 jaP jaw jaI jaZ jaG jaS jan jaU jaE jar jaL jah jaB jaa jaz jaH jab ja2 z0_s jaq jai jaO jaA jat jau jav jaj jas jaJ jak jad jay jac)) hP hD [0] [] hCc rfl (by decide +kernel) (by decide +kernel) rfl hk1 hFc hP1 hD1
  generalize H1 = H at hP hS ⊢
  refine lv_if_eq (tgt := 19) hx hb (qaa qil 6 rfl) (by decide) (fun c2 => ?_) (fun c2 => ?_)
  · have hw := hw.1 c2
    refine lv_aload_n hx hb (qaa qil 9 rfl) rfl (lv_at hl 0 rfl) ?_
    refine va_get (D := (dC, dI)) (ci := 11) (v := .int jbh) (C := RX11) (T := TX11) (N := 55) hx hb hts qJr hown hK hP 0 rfl rfl 6 (by decide) (hts _ qaeH) (fun _ h9 => h9) rfl (qaa qil 10 rfl) ?_
    refine lv_bipush (v := 10) hx hb (qaa qil 11 rfl) (by decide) ?_
    refine lv_isub hx hb (qaa qil 12 rfl) ?_
    exact ((W.iret (v := (jbh - 10)) hx hb hr (fun t ht hW => ⟨⟨(jbh - 10), (jb8), rfl, hw, by rw [ht]; exact hP, va_K.moved hW.alike hK, hD⟩, hS.F ht⟩) hS.2.2 (qaa qil 13 rfl)))
  · have hw := hw.2 c2
    refine lv_iload_n hx hb (qaa qil 7 rfl) rfl (lv_at hl 1 rfl) ?_
    refine lv_goto (tgt := 26) hx hb (qaa qil 8 rfl) (by decide) ?_
    exact ((W.iret (v := p1) hx hb hr (fun t ht hW => ⟨⟨p1, (jb8), rfl, hw, by rw [ht]; exact hP, va_K.moved hW.alike hK, hD⟩, hS.F ht⟩) hS.2.2 (qaa qil 13 rfl)))
theorem qpa : ∀ w ∈ u_ws RX11 TX11 55, w ∈ wsX11_book := uiM qgn qfa (by decide +kernel)
theorem qauJ : (.fieldLink RX11 111 "MarchHaresModel" "taped" "I" : Cond) ∈ wsX11_book := qgn 590 (by decide +kernel)
theorem qatF : (.fieldLink RX11 114 "MarchHaresModel" "bad" "I" : Cond) ∈ wsX11_book := qgn 1104 (by decide +kernel)
theorem qaqA : (.fieldLink RX11 120 "MarchHaresModel" "at" "I" : Cond) ∈ wsX11_book := qgn 1103 (by decide +kernel)
theorem qats : (.fieldLink RX11 166 "MarchHaresModel" "forms" "I" : Cond) ∈ wsX11_book := qgn 519 (by decide +kernel)
theorem qaqz : (.fieldLink RX11 182 "MarchHaresModel" "books" "I" : Cond) ∈ wsX11_book := qgn 523 (by decide +kernel)
theorem qaJM : (.fieldLink RX11 3 "MarchHaresModel" "thrown" "I" : Cond) ∈ wsX11_book := qgn 589 (by decide +kernel)
theorem qG5 : (.fieldLink RX11 77 "MarchHaresModel" "newBook" "[I" : Cond) ∈ wsX11_book := qgn 459 (by decide +kernel)
theorem qaxu : (.fieldLink RX11 80 "MarchHaresModel" "book" "[I" : Cond) ∈ wsX11_book := qgn 460 (by decide +kernel)
set_option maxHeartbeats 4000000 in
set_option maxRecDepth 100000 in
theorem qQM {p : Program} {l : Launch} {e : Env} {s : State} {m : MethodId} {args : Array Value} {below : List Frame} {meth : Method} {c : Code} {A : Nat → Prop} (dC : Nat → ClassId) (dI : Nat → Nat → Nat) (cyB cyI cyJ cyP : ClassId) (a0 jaQ jjr jaW jdj : Nat) (jal jam jax jao ja6 jaV ja8 jae jag jaf ja4 jaP jaw jaI jaZ jaG jaS jan jaU jaE jar jaL jah jaB jaa jaz jaH jab ja2 z0_s jaq jat jau jav jaj jas jaJ jak jad jay jac : Value) (jaN : Int32) (jbC : NI) (Q : Int32 → Int32 → NI → Int32 → Int32 → Int32 → Int32 → Int32 → Int32 → NI → Int32 → Int32 → NI → Prop) (C0 : cfx p s m args meth c cX11_book (some .int) wsX11_book RX11 6 A (dC, dI) (kT cyB cyI cyJ cyP)) : ∀ (H : Heap) (locs : List Loc) (ls : Array Slot) (jbd : Int32) (ja9 : NI) (jgt jgo jbx jcP jb8 jbK : Int32) (jlJ : NI) (jbh jh9 : Int32) (jgv : NI) (l2 : Int32), va_P (dC, dI) vwCl (qh1 a0 jbd jaQ jgt jbx jcP jb8 jbh jbK jgo jaW jal jam jax jao ja6 jaV ja8 jae jag jaf jaN ja4 jaP jaw jaI jaZ jaG jaS jan jaU jaE jar jaL jah jaB jaa jaz jaH jab ja2 z0_s jaq jjr jdj jh9 jat jau jav jaj jas jaJ jak jad jay jac jaQ cyI ja9 jjr cyI jlJ jaW cyI jbC jdj cyI jgv) H → va_D A (qh1 a0 jbd jaQ jgt jbx jcP jb8 jbh jbK jgo jaW jal jam jax jao ja6 jaV ja8 jae jag jaf jaN ja4 jaP jaw jaI jaZ jaG jaS jan jaU jaE jar jaL jah jaB jaa jaz jaH jab ja2 z0_s jaq jjr jdj jh9 jat jau jav jaj jas jaJ jak jad jay jac jaQ cyI ja9 jjr cyI jlJ jaW cyI jbC jdj cyI jgv) → va_S A s.heap H locs → lv_has ls 6 [(0, .ref a0), (2, .int l2)] → qt7 jaN jbC Q jbd ja9 jgt jgo jbx jcP jb8 jbK jlJ jbh jh9 jgv l2 → W p l e (headSpec wsX11_book ({ frames := 2, cells := 0, slots := 0, locals := 47 })).room s m args below meth c H locs 0 0 (MQ below (va_Qi (fun (r : Int32) (u : Int32 × NI × Int32 × Int32 × Int32 × Int32 × Int32 × Int32 × NI × Int32 × Int32 × NI) => Q r u.1 u.2.1 u.2.2.1 u.2.2.2.1 u.2.2.2.2.1 u.2.2.2.2.2.1 u.2.2.2.2.2.2.1 u.2.2.2.2.2.2.2.1 u.2.2.2.2.2.2.2.2.1 u.2.2.2.2.2.2.2.2.2.1 u.2.2.2.2.2.2.2.2.2.2.1 u.2.2.2.2.2.2.2.2.2.2.2) (cB (dC, dI) (kT cyB cyI cyJ cyP) A (fun u : Int32 × NI × Int32 × Int32 × Int32 × Int32 × Int32 × Int32 × NI × Int32 × Int32 × NI => ((qh1 a0 u.1 jaQ u.2.2.1 u.2.2.2.2.1 u.2.2.2.2.2.1 u.2.2.2.2.2.2.1 u.2.2.2.2.2.2.2.2.2.1 u.2.2.2.2.2.2.2.1 u.2.2.2.1 jaW jal jam jax jao ja6 jaV ja8 jae jag jaf jaN ja4 jaP jaw jaI jaZ jaG jaS jan jaU jaE jar jaL jah jaB jaa jaz jaH jab ja2 z0_s jaq jjr jdj u.2.2.2.2.2.2.2.2.2.2.1 jat jau jav jaj jas jaJ jak jad jay jac jaQ cyI u.2.1 jjr cyI u.2.2.2.2.2.2.2.2.1 jaW cyI jbC jdj cyI u.2.2.2.2.2.2.2.2.2.2.2) : va_W))) A) args s 0 0 A) (F0 m 168 ls []) := by
  obtain ⟨hx, hb, hr, hts, hown, hlocks, hml, hA, hK, hNw⟩ := id C0
  intro H locs ls jbd ja9 jgt jgo jbx jcP jb8 jbK jlJ jbh jh9 jgv l2 hP hD hS hl hw
  refine lv_aload_n hx hb (qaa qgG 11 rfl) rfl (lv_at hl 0 rfl) ?_
  refine lv_iload_n hx hb (qaa qgG 12 rfl) rfl (lv_at hl 1 rfl) ?_
  obtain ⟨hCc, hPc, hDc, hFc⟩ := qac (ws' := (qNg a0 jbd jaQ jgt jbx jcP jb8 jbh jbK jgo jaW jal jam jax jao ja6 jaV ja8 jae jag jaf jaN ja4 jaP jaw jaI jaZ jaG jaS jan jaU jaE jar jaL jah jaB jaa jaz jaH jab ja2 z0_s jaq jjr jdj jh9 jat jau jav jaj jas jaJ jak jad jay jac)) hP hD hS hA [0] (by decide +kernel) rfl
  refine va_calli (va_runV (As := [.int l2]) (rest := []) ⟨hx, hb, hml, hown, hts⟩ (qHI l dC dI cyB cyI cyJ cyP a0 H.size (.int jbd) (.ref jaQ) (.int jgt) (.int jbx) (.int jcP) (.int jbK) (.ref jaW) (jal) (jam) (jax) (jao) (ja6) (jaV) (ja8) (jae) (jag) (jaf) (.int jaN) (ja4) (jaP) (jaw) (jaI) (jaZ) (jaG) (jaS) (jan) (jaU) (jaE) (jar) (jaL) (jah) (jaB) (jaa) (jaz) (jaH) (jab) (ja2) (z0_s) (jaq) (.ref jjr) (.ref jdj) (.int jh9) (jat) (jau) (jav) (jaj) (jas) (jaJ) (jak) (jad) (jay) (jac) jb8 jbh jgo l2 hw) (cwV 1 hts gX11_book_X11_result rfl rfl rfl (by decide +kernel) ⟨nbq rfl, nbq rfl⟩) ⟨qab, va_recv (q := (RX11, TX11, 55)) hK hPc (ci := 11) (q0 := 0) rfl rfl, qae hPc hK hDc hNw⟩ rfl rfl hl.1 rfl (lv_room (nbq rfl)) (qaa qgG 13 rfl) ⟨nbq rfl, nbq rfl⟩) hS (fun q _ h => hFc q h) hFc (fun r35 u t H1 locs ht hvm hw hB hz1 hk1 hS => ?_)
  obtain ⟨x34, rfl⟩ : ∃ z, z = u := ⟨_, rfl⟩
  obtain ⟨hP1, hK1, hD1⟩ := hB
  rw [ht] at hP1
  obtain ⟨hP, hD⟩ := qad (wr := (qal5 jaQ cyI ja9 jjr cyI jlJ jaW cyI jbC jdj cyI jgv)) (w1 := (qNg a0 jbd jaQ jgt jbx jcP jb8 jbh jbK x34 jaW jal jam jax jao ja6 jaV ja8 jae jag jaf jaN ja4 jaP jaw jaI jaZ jaG jaS jan jaU jaE jar jaL jah jaB jaa jaz jaH jab ja2 z0_s jaq jjr jdj jh9 jat jau jav jaj jas jaJ jak jad jay jac)) (wn := (qh1 a0 jbd jaQ jgt jbx jcP jb8 jbh jbK x34 jaW jal jam jax jao ja6 jaV ja8 jae jag jaf jaN ja4 jaP jaw jaI jaZ jaG jaS jan jaU jaE jar jaL jah jaB jaa jaz jaH jab ja2 z0_s jaq jjr jdj jh9 jat jau jav jaj jas jaJ jak jad jay jac jaQ cyI ja9 jjr cyI jlJ jaW cyI jbC jdj cyI jgv)) hP hD [0] [1, 2, 3, 4] [4, 0, 1, 2, 3] hCc rfl (by decide +kernel) (by decide +kernel) (by decide +kernel) rfl hk1 hFc hP1 hD1
  generalize H1 = H at hP hS ⊢
  refine lv_istore_n (lv' := [(3, .int r35), (0, .ref a0), (2, .int l2)]) hx hb (qaa qgG 14 rfl) rfl hl (by decide) rfl (fun ls hl => ?_)
  refine lv_aload_n hx hb (qaa qgG 15 rfl) rfl (lv_at hl 1 rfl) ?_
  refine va_get (D := (dC, dI)) (ci := 11) (v := .int jb8) (C := RX11) (T := TX11) (N := 55) hx hb hts qpa hown hK hP 0 rfl rfl 5 (by decide) (hts _ qatF) (fun _ h9 => h9) rfl (qaa qhk 0 rfl) ?_
  refine lv_iconst (v := (-1)) hx hb (qaa qhk 1 rfl) (by decide) ?_
  refine lv_icmp_eq (tgt := 184) hx hb (qaa qhk 2 rfl) (by decide) (fun c36 => ?_) (fun c36 => ?_)
  · have hw := hw.1 c36
    refine lv_aload_n hx hb (qaa qhk 5 rfl) rfl (lv_at hl 1 rfl) ?_
    refine lv_iload_n hx hb (qaa qhk 6 rfl) rfl (lv_at hl 2 rfl) ?_
    refine va_put (D := (dC, dI)) (ci := 11) (v := .int l2) (ty := .int) (C := RX11) (T := TX11) (N := 55) hx hb hts qpa tyX11 tyX11_ok nmX11 hown hK hP hD hS 0 rfl rfl 44 (by decide) (hts _ qaqz) (fun _ h9 => h9) rfl (by decide +kernel) rfl rfl (nbq rfl) (qaa qhk 7 rfl) (fun H locs hP hD hS => ?_)
    have hP : va_P (dC, dI) vwCl (qh1 a0 jbd jaQ jgt jbx jcP jb8 jbh jbK x34 jaW jal jam jax jao ja6 jaV ja8 jae jag jaf jaN ja4 jaP jaw jaI jaZ jaG jaS jan jaU jaE jar jaL jah jaB jaa jaz jaH jab ja2 z0_s jaq jjr jdj l2 jat jau jav jaj jas jaJ jak jad jay jac jaQ cyI ja9 jjr cyI jlJ jaW cyI jbC jdj cyI jgv) H := hP
    have hD : va_D A (qh1 a0 jbd jaQ jgt jbx jcP jb8 jbh jbK x34 jaW jal jam jax jao ja6 jaV ja8 jae jag jaf jaN ja4 jaP jaw jaI jaZ jaG jaS jan jaU jaE jar jaL jah jaB jaa jaz jaH jab ja2 z0_s jaq jjr jdj l2 jat jau jav jaj jas jaJ jak jad jay jac jaQ cyI ja9 jjr cyI jlJ jaW cyI jbC jdj cyI jgv) := hD
    refine lv_aload_n hx hb (qaa qhk 8 rfl) rfl (lv_at hl 1 rfl) ?_
    refine lv_aload_n hx hb (qaa qhk 9 rfl) rfl (lv_at hl 1 rfl) ?_
    refine va_get (D := (dC, dI)) (ci := 11) (v := .ref jjr) (C := RX11) (T := TX11) (N := 55) hx hb hts qpa hown hK hP 0 rfl rfl 42 (by decide) (hts _ qG5) (fun _ h9 => h9) rfl (qaa qhk 10 rfl) ?_
    refine lv_aload_n hx hb (qaa qhk 11 rfl) rfl (lv_at hl 1 rfl) ?_
    refine va_get (D := (dC, dI)) (ci := 11) (v := .ref jdj) (C := RX11) (T := TX11) (N := 55) hx hb hts qpa hown hK hP 0 rfl rfl 43 (by decide) (hts _ qaxu) (fun _ h9 => h9) rfl (qaa qhk 12 rfl) ?_
    refine lv_bipush (v := 8) hx hb (qaa qhk 13 rfl) (by decide) ?_
    obtain ⟨hCc, hPc, hDc, hFc⟩ := qac (ws' := (qa8z a0 jbd jaQ jgt jbx jcP jb8 jbh jbK x34 jaW jal jam jax jao ja6 jaV ja8 jae jag jaf jaN ja4 jaP jaw jaI jaZ jaG jaS jan jaU jaE jar jaL jah jaB jaa jaz jaH jab ja2 z0_s jaq jjr jdj l2 jat jau jav jaj jas jaJ jak jad jay jac jjr cyI jlJ jdj cyI jgv)) hP hD hS hA [0, 2, 4] (by decide +kernel) rfl
    refine va_callv (va_runV (As := [.ref jjr, .ref jdj, .int 8]) (rest := []) ⟨hx, hb, hml, hown, hts⟩ (qu7 l dC dI cyB cyI cyJ cyP a0 jjr jdj H.size (.int jbd) (.ref jaQ) (.int jgt) (.int jbx) (.int jcP) (.int jb8) (.int jbh) (.int jbK) (.int x34) (.ref jaW) (jal) (jam) (jax) (jao) (ja6) (jaV) (ja8) (jae) (jag) (jaf) (.int jaN) (ja4) (jaP) (jaw) (jaI) (jaZ) (jaG) (jaS) (jan) (jaU) (jaE) (jar) (jaL) (jah) (jaB) (jaa) (jaz) (jaH) (jab) (ja2) (z0_s) (jaq) (.ref jjr) (.ref jdj) (.int l2) (jat) (jau) (jav) (jaj) (jas) (jaJ) (jak) (jad) (jay) (jac) 8 8 jlJ jgv 8 hw) (cwV 3 hts gX11_book_X11_copies rfl rfl rfl (by decide +kernel) ⟨nbq rfl, nbq rfl⟩) ⟨qab, va_recv (q := (RX11, TX11, 55)) hK hPc (ci := 11) (q0 := 0) rfl rfl, qae hPc hK hDc hNw⟩ rfl rfl hl.1 rfl (lv_room (nbq rfl)) (qaa qhk 14 rfl) ⟨nbq rfl, nbq rfl⟩) hS (fun q _ h => hFc q h) hFc (fun u t H1 locs ht hvm hw hB hz1 hk1 hS => ?_)
    obtain ⟨f37, rfl⟩ : ∃ z, z = u := ⟨_, rfl⟩
    obtain ⟨hP1, hK1, hD1⟩ := hB
    rw [ht] at hP1
    obtain ⟨hP, hD⟩ := qad (wr := [(jaQ, .inl (cyI, 2, .inl ja9)), (jaW, .inl (cyI, 600, .inl jbC))]) (w1 := (qa8z a0 jbd jaQ jgt jbx jcP jb8 jbh jbK x34 jaW jal jam jax jao ja6 jaV ja8 jae jag jaf jaN ja4 jaP jaw jaI jaZ jaG jaS jan jaU jaE jar jaL jah jaB jaa jaz jaH jab ja2 z0_s jaq jjr jdj l2 jat jau jav jaj jas jaJ jak jad jay jac jjr cyI jlJ jdj cyI f37)) (wn := (qh1 a0 jbd jaQ jgt jbx jcP jb8 jbh jbK x34 jaW jal jam jax jao ja6 jaV ja8 jae jag jaf jaN ja4 jaP jaw jaI jaZ jaG jaS jan jaU jaE jar jaL jah jaB jaa jaz jaH jab ja2 z0_s jaq jjr jdj l2 jat jau jav jaj jas jaJ jak jad jay jac jaQ cyI ja9 jjr cyI jlJ jaW cyI jbC jdj cyI f37)) hP hD [0, 2, 4] [1, 3] [2, 0, 3, 1, 4] hCc rfl (by decide +kernel) (by decide +kernel) (by decide +kernel) rfl hk1 hFc hP1 hD1
    generalize H1 = H at hP hS ⊢
    refine lv_iload_n hx hb (qaa qhk 15 rfl) rfl (lv_at hl 0 rfl) ?_
    exact ((W.iret (v := r35) hx hb hr (fun t ht hW => ⟨⟨r35, (jbd, ja9, jgt, x34, jbx, jcP, jb8, jbK, jlJ, jbh, l2, f37), rfl, hw, by rw [ht]; exact hP, va_K.moved hW.alike hK, hD⟩, hS.F ht⟩) hS.2.2 (qaa qaye 0 rfl)))
  · have hw := hw.2 c36
    refine lv_iload_n hx hb (qaa qhk 3 rfl) rfl (lv_at hl 0 rfl) ?_
    exact ((W.iret (v := r35) hx hb hr (fun t ht hW => ⟨⟨r35, (jbd, ja9, jgt, x34, jbx, jcP, jb8, jbK, jlJ, jbh, jh9, jgv), rfl, hw, by rw [ht]; exact hP, va_K.moved hW.alike hK, hD⟩, hS.F ht⟩) hS.2.2 (qaa qhk 4 rfl)))
set_option maxHeartbeats 4000000 in
set_option maxRecDepth 100000 in
theorem qRk {p : Program} {l : Launch} {e : Env} {s : State} {m : MethodId} {args : Array Value} {below : List Frame} {meth : Method} {c : Code} {A : Nat → Prop} (dC : Nat → ClassId) (dI : Nat → Nat → Nat) (cyB cyI cyJ cyP : ClassId) (a0 jaQ jjr jaW jdj : Nat) (jal jam jax jao ja6 jaV ja8 jae jag jaf ja4 jaP jaw jaI jaZ jaG jaS jan jaU jaE jar jaL jah jaB jaa jaz jaH jab ja2 z0_s jaq jat jau jav jaj jas jaJ jak jad jay jac : Value) (jaN : Int32) (jbC : NI) (Q : Int32 → Int32 → NI → Int32 → Int32 → Int32 → Int32 → Int32 → Int32 → NI → Int32 → Int32 → NI → Prop) (K67 : Int32 → NI → Int32 → Int32 → Int32 → Int32 → Int32 → Int32 → NI → Int32 → Int32 → NI → Int32 → Prop) (hK67 : ∀ (H : Heap) (locs : List Loc) (ls : Array Slot) (jbd : Int32) (ja9 : NI) (jgt jgo jbx jcP jb8 jbK : Int32) (jlJ : NI) (jbh jh9 : Int32) (jgv : NI) (l2 : Int32), va_P (dC, dI) vwCl (qh1 a0 jbd jaQ jgt jbx jcP jb8 jbh jbK jgo jaW jal jam jax jao ja6 jaV ja8 jae jag jaf jaN ja4 jaP jaw jaI jaZ jaG jaS jan jaU jaE jar jaL jah jaB jaa jaz jaH jab ja2 z0_s jaq jjr jdj jh9 jat jau jav jaj jas jaJ jak jad jay jac jaQ cyI ja9 jjr cyI jlJ jaW cyI jbC jdj cyI jgv) H → va_D A (qh1 a0 jbd jaQ jgt jbx jcP jb8 jbh jbK jgo jaW jal jam jax jao ja6 jaV ja8 jae jag jaf jaN ja4 jaP jaw jaI jaZ jaG jaS jan jaU jaE jar jaL jah jaB jaa jaz jaH jab ja2 z0_s jaq jjr jdj jh9 jat jau jav jaj jas jaJ jak jad jay jac jaQ cyI ja9 jjr cyI jlJ jaW cyI jbC jdj cyI jgv) → va_S A s.heap H locs → lv_has ls 6 [(0, .ref a0), (2, .int l2)] → K67 jbd ja9 jgt jgo jbx jcP jb8 jbK jlJ jbh jh9 jgv l2 → W p l e (headSpec wsX11_book ({ frames := 2, cells := 0, slots := 0, locals := 47 })).room s m args below meth c H locs 0 0 (MQ below (va_Qi (fun (r : Int32) (u : Int32 × NI × Int32 × Int32 × Int32 × Int32 × Int32 × Int32 × NI × Int32 × Int32 × NI) => Q r u.1 u.2.1 u.2.2.1 u.2.2.2.1 u.2.2.2.2.1 u.2.2.2.2.2.1 u.2.2.2.2.2.2.1 u.2.2.2.2.2.2.2.1 u.2.2.2.2.2.2.2.2.1 u.2.2.2.2.2.2.2.2.2.1 u.2.2.2.2.2.2.2.2.2.2.1 u.2.2.2.2.2.2.2.2.2.2.2) (cB (dC, dI) (kT cyB cyI cyJ cyP) A (fun u : Int32 × NI × Int32 × Int32 × Int32 × Int32 × Int32 × Int32 × NI × Int32 × Int32 × NI => ((qh1 a0 u.1 jaQ u.2.2.1 u.2.2.2.2.1 u.2.2.2.2.2.1 u.2.2.2.2.2.2.1 u.2.2.2.2.2.2.2.2.2.1 u.2.2.2.2.2.2.2.1 u.2.2.2.1 jaW jal jam jax jao ja6 jaV ja8 jae jag jaf jaN ja4 jaP jaw jaI jaZ jaG jaS jan jaU jaE jar jaL jah jaB jaa jaz jaH jab ja2 z0_s jaq jjr jdj u.2.2.2.2.2.2.2.2.2.2.1 jat jau jav jaj jas jaJ jak jad jay jac jaQ cyI u.2.1 jjr cyI u.2.2.2.2.2.2.2.2.1 jaW cyI jbC jdj cyI u.2.2.2.2.2.2.2.2.2.2.2) : va_W))) A) args s 0 0 A) (F0 m 67 ls [])) (C0 : cfx p s m args meth c cX11_book (some .int) wsX11_book RX11 6 A (dC, dI) (kT cyB cyI cyJ cyP)) : ∀ (H : Heap) (locs : List Loc) (ls : Array Slot) (jbd : Int32) (ja9 : NI) (jgt jgo jbx jcP jb8 jbK : Int32) (jlJ : NI) (jbh jh9 : Int32) (jgv : NI) (l2 l4 : Int32), va_P (dC, dI) vwCl (qh1 a0 jbd jaQ jgt jbx jcP jb8 jbh jbK jgo jaW jal jam jax jao ja6 jaV ja8 jae jag jaf jaN ja4 jaP jaw jaI jaZ jaG jaS jan jaU jaE jar jaL jah jaB jaa jaz jaH jab ja2 z0_s jaq jjr jdj jh9 jat jau jav jaj jas jaJ jak jad jay jac jaQ cyI ja9 jjr cyI jlJ jaW cyI jbC jdj cyI jgv) H → va_D A (qh1 a0 jbd jaQ jgt jbx jcP jb8 jbh jbK jgo jaW jal jam jax jao ja6 jaV ja8 jae jag jaf jaN ja4 jaP jaw jaI jaZ jaG jaS jan jaU jaE jar jaL jah jaB jaa jaz jaH jab ja2 z0_s jaq jjr jdj jh9 jat jau jav jaj jas jaJ jak jad jay jac jaQ cyI ja9 jjr cyI jlJ jaW cyI jbC jdj cyI jgv) → va_S A s.heap H locs → lv_has ls 6 [(0, .ref a0), (2, .int l2), (4, .int l4)] → qt4 jaN jbC Q K67 jbd ja9 jgt jgo jbx jcP jb8 jbK jlJ jbh jh9 jgv l2 l4 → W p l e (headSpec wsX11_book ({ frames := 2, cells := 0, slots := 0, locals := 47 })).room s m args below meth c H locs 0 0 (MQ below (va_Qi (fun (r : Int32) (u : Int32 × NI × Int32 × Int32 × Int32 × Int32 × Int32 × Int32 × NI × Int32 × Int32 × NI) => Q r u.1 u.2.1 u.2.2.1 u.2.2.2.1 u.2.2.2.2.1 u.2.2.2.2.2.1 u.2.2.2.2.2.2.1 u.2.2.2.2.2.2.2.1 u.2.2.2.2.2.2.2.2.1 u.2.2.2.2.2.2.2.2.2.1 u.2.2.2.2.2.2.2.2.2.2.1 u.2.2.2.2.2.2.2.2.2.2.2) (cB (dC, dI) (kT cyB cyI cyJ cyP) A (fun u : Int32 × NI × Int32 × Int32 × Int32 × Int32 × Int32 × Int32 × NI × Int32 × Int32 × NI => ((qh1 a0 u.1 jaQ u.2.2.1 u.2.2.2.2.1 u.2.2.2.2.2.1 u.2.2.2.2.2.2.1 u.2.2.2.2.2.2.2.2.2.1 u.2.2.2.2.2.2.2.1 u.2.2.2.1 jaW jal jam jax jao ja6 jaV ja8 jae jag jaf jaN ja4 jaP jaw jaI jaZ jaG jaS jan jaU jaE jar jaL jah jaB jaa jaz jaH jab ja2 z0_s jaq jjr jdj u.2.2.2.2.2.2.2.2.2.2.1 jat jau jav jaj jas jaJ jak jad jay jac jaQ cyI u.2.1 jjr cyI u.2.2.2.2.2.2.2.2.1 jaW cyI jbC jdj cyI u.2.2.2.2.2.2.2.2.2.2.2) : va_W))) A) args s 0 0 A) (F0 m 128 ls []) := by
  obtain ⟨hx, hb, hr, hts, hown, hlocks, hml, hA, hK, hNw⟩ := id C0
  intro H locs ls jbd ja9 jgt jgo jbx jcP jb8 jbK jlJ jbh jh9 jgv l2 l4 hP hD hS hl hw
  refine lv_aload_n hx hb (qaa qgI 8 rfl) rfl (lv_at hl 0 rfl) ?_
  refine lv_iconst (v := 0) hx hb (qaa qgI 9 rfl) (by decide) ?_
  refine lv_bipush (v := 6) hx hb (qaa qgI 10 rfl) (by decide) ?_
  obtain ⟨hCc, hPc, hDc, hFc⟩ := qac (ws' := (qTP a0 jbd jaQ jgt jbx jcP jb8 jbh jbK jgo jaW jal jam jax jao ja6 jaV ja8 jae jag jaf jaN ja4 jaP jaw jaI jaZ jaG jaS jan jaU jaE jar jaL jah jaB jaa jaz jaH jab ja2 z0_s jaq jjr jdj jh9 jat jau jav jaj jas jaJ jak jad jay jac jaW cyI jbC)) hP hD hS hA [0, 3] (by decide +kernel) rfl
  refine va_calli (va_runV (As := [.int 0, .int 6]) (rest := []) ⟨hx, hb, hml, hown, hts⟩ (qcA l dC dI cyB cyI cyJ cyP a0 jaW H.size (.int jbd) (.ref jaQ) (.int jgt) (.int jbK) (.int jgo) (jal) (jam) (jax) (jao) (ja6) (jaV) (ja8) (jae) (jag) (jaf) (.int jaN) (ja4) (jaP) (jaw) (jaI) (jaZ) (jaG) (jaS) (jan) (jaU) (jaE) (jar) (jaL) (jah) (jaB) (jaa) (jaz) (jaH) (jab) (ja2) (z0_s) (jaq) (.ref jjr) (.ref jdj) (.int jh9) (jat) (jau) (jav) (jaj) (jas) (jaJ) (jak) (jad) (jay) (jac) jbx jbC jcP jb8 jbh 0 6 hw) (cwV 2 hts gX11_book_X11_readNumber rfl rfl rfl (by decide +kernel) ⟨nbq rfl, nbq rfl⟩) ⟨qab, va_recv (q := (RX11, TX11, 55)) hK hPc (ci := 11) (q0 := 0) rfl rfl, qae hPc hK hDc hNw⟩ rfl rfl hl.1 rfl (lv_room (nbq rfl)) (qaa qgI 11 rfl) ⟨nbq rfl, nbq rfl⟩) hS (fun q _ h => hFc q h) hFc (fun r41 u t H1 locs ht hvm hw hB hz1 hk1 hS => ?_)
  obtain ⟨x38, x39, x40⟩ := u
  obtain ⟨hP1, hK1, hD1⟩ := hB
  rw [ht] at hP1
  obtain ⟨hP, hD⟩ := qad (wr := (qaBK jaQ cyI ja9 jjr cyI jlJ jdj cyI jgv)) (w1 := (qTP a0 jbd jaQ jgt jbx x38 x39 x40 jbK jgo jaW jal jam jax jao ja6 jaV ja8 jae jag jaf jaN ja4 jaP jaw jaI jaZ jaG jaS jan jaU jaE jar jaL jah jaB jaa jaz jaH jab ja2 z0_s jaq jjr jdj jh9 jat jau jav jaj jas jaJ jak jad jay jac jaW cyI jbC)) (wn := (qh1 a0 jbd jaQ jgt jbx x38 x39 x40 jbK jgo jaW jal jam jax jao ja6 jaV ja8 jae jag jaf jaN ja4 jaP jaw jaI jaZ jaG jaS jan jaU jaE jar jaL jah jaB jaa jaz jaH jab ja2 z0_s jaq jjr jdj jh9 jat jau jav jaj jas jaJ jak jad jay jac jaQ cyI ja9 jjr cyI jlJ jaW cyI jbC jdj cyI jgv)) hP hD [0, 3] [1, 2, 4] [3, 0, 1, 4, 2] hCc rfl (by decide +kernel) (by decide +kernel) (by decide +kernel) rfl hk1 hFc hP1 hD1
  generalize H1 = H at hP hS ⊢
  refine lv_istore (lv' := [(5, .int r41), (0, .ref a0), (2, .int l2), (4, .int l4)]) hx hb (qaa qgI 12 rfl) hl (by decide) rfl (fun ls hl => ?_)
  refine lv_aload_n hx hb (qaa qgI 13 rfl) rfl (lv_at hl 1 rfl) ?_
  refine lv_bipush (v := 59) hx hb (qaa qgI 14 rfl) (by decide) ?_
  obtain ⟨hCc, hPc, hDc, hFc⟩ := qac (ws' := (qTP a0 jbd jaQ jgt jbx x38 x39 x40 jbK jgo jaW jal jam jax jao ja6 jaV ja8 jae jag jaf jaN ja4 jaP jaw jaI jaZ jaG jaS jan jaU jaE jar jaL jah jaB jaa jaz jaH jab ja2 z0_s jaq jjr jdj jh9 jat jau jav jaj jas jaJ jak jad jay jac jaW cyI jbC)) hP hD hS hA [0, 3] (by decide +kernel) rfl
  refine va_callv (va_runV (As := [.int 59]) (rest := []) ⟨hx, hb, hml, hown, hts⟩ (qto l dC dI cyB cyI cyJ cyP a0 jaW H.size (.int jbd) (.ref jaQ) (.int jgt) (.int jbK) (.int jgo) (jal) (jam) (jax) (jao) (ja6) (jaV) (ja8) (jae) (jag) (jaf) (.int jaN) (ja4) (jaP) (jaw) (jaI) (jaZ) (jaG) (jaS) (jan) (jaU) (jaE) (jar) (jaL) (jah) (jaB) (jaa) (jaz) (jaH) (jab) (ja2) (z0_s) (jaq) (.ref jjr) (.ref jdj) (.int jh9) (jat) (jau) (jav) (jaj) (jas) (jaJ) (jak) (jad) (jay) (jac) jbx jbC x38 x39 x40 59 hw) (cwV 1 hts gX11_book_X11_sign rfl rfl rfl (by decide +kernel) ⟨nbq rfl, nbq rfl⟩) ⟨qab, va_recv (q := (RX11, TX11, 55)) hK hPc (ci := 11) (q0 := 0) rfl rfl, qae hPc hK hDc hNw⟩ rfl rfl hl.1 rfl (lv_room (nbq rfl)) (qaa qgI 15 rfl) ⟨nbq rfl, nbq rfl⟩) hS (fun q _ h => hFc q h) hFc (fun u t H1 locs ht hvm hw hB hz1 hk1 hS => ?_)
  obtain ⟨x42, x43, x44⟩ := u
  obtain ⟨hP1, hK1, hD1⟩ := hB
  rw [ht] at hP1
  obtain ⟨hP, hD⟩ := qad (wr := (qaBK jaQ cyI ja9 jjr cyI jlJ jdj cyI jgv)) (w1 := (qTP a0 jbd jaQ jgt jbx x42 x43 x44 jbK jgo jaW jal jam jax jao ja6 jaV ja8 jae jag jaf jaN ja4 jaP jaw jaI jaZ jaG jaS jan jaU jaE jar jaL jah jaB jaa jaz jaH jab ja2 z0_s jaq jjr jdj jh9 jat jau jav jaj jas jaJ jak jad jay jac jaW cyI jbC)) (wn := (qh1 a0 jbd jaQ jgt jbx x42 x43 x44 jbK jgo jaW jal jam jax jao ja6 jaV ja8 jae jag jaf jaN ja4 jaP jaw jaI jaZ jaG jaS jan jaU jaE jar jaL jah jaB jaa jaz jaH jab ja2 z0_s jaq jjr jdj jh9 jat jau jav jaj jas jaJ jak jad jay jac jaQ cyI ja9 jjr cyI jlJ jaW cyI jbC jdj cyI jgv)) hP hD [0, 3] [1, 2, 4] [3, 0, 1, 4, 2] hCc rfl (by decide +kernel) (by decide +kernel) (by decide +kernel) rfl hk1 hFc hP1 hD1
  generalize H1 = H at hP hS ⊢
  refine lv_aload_n hx hb (qaa qgG 0 rfl) rfl (lv_at hl 1 rfl) ?_
  obtain ⟨hCc, hPc, hDc, hFc⟩ := qac (ws' := (qNg a0 jbd jaQ jgt jbx x42 x43 x44 jbK jgo jaW jal jam jax jao ja6 jaV ja8 jae jag jaf jaN ja4 jaP jaw jaI jaZ jaG jaS jan jaU jaE jar jaL jah jaB jaa jaz jaH jab ja2 z0_s jaq jjr jdj jh9 jat jau jav jaj jas jaJ jak jad jay jac)) hP hD hS hA [0] (by decide +kernel) rfl
  refine va_calli (va_runV (As := []) (rest := []) ⟨hx, hb, hml, hown, hts⟩ (qdP l dC dI cyB cyI cyJ cyP a0 H.size (.int jbd) (.ref jaQ) (.int jgt) (.int jbx) (.int x42) (.int x44) (.int jbK) (.int jgo) (.ref jaW) (jal) (jam) (jax) (jao) (ja6) (jaV) (ja8) (jae) (jag) (jaf) (.int jaN) (ja4) (jaP) (jaw) (jaI) (jaZ) (jaG) (jaS) (jan) (jaU) (jaE) (jar) (jaL) (jah) (jaB) (jaa) (jaz) (jaH) (jab) (ja2) (z0_s) (jaq) (.ref jjr) (.ref jdj) (.int jh9) (jat) (jau) (jav) (jaj) (jas) (jaJ) (jak) (jad) (jay) (jac) x43 hw) (cwV 0 hts gX11_book_X11_fine rfl rfl rfl (by decide +kernel) ⟨nbq rfl, nbq rfl⟩) ⟨qab, va_recv (q := (RX11, TX11, 55)) hK hPc (ci := 11) (q0 := 0) rfl rfl, qae hPc hK hDc hNw⟩ rfl rfl hl.1 rfl (lv_room (nbq rfl)) (qaa qgG 1 rfl) ⟨nbq rfl, nbq rfl⟩) hS (fun q _ h => hFc q h) hFc (fun r45 u t H1 locs ht hvm hw hB hz1 hk1 hS => ?_)
  obtain ⟨hP1, hK1, hD1⟩ := hB
  rw [ht] at hP1
  obtain ⟨hP, hD⟩ := qad (wr := (qal5 jaQ cyI ja9 jjr cyI jlJ jaW cyI jbC jdj cyI jgv)) (w1 := (qNg a0 jbd jaQ jgt jbx x42 x43 x44 jbK jgo jaW jal jam jax jao ja6 jaV ja8 jae jag jaf jaN ja4 jaP jaw jaI jaZ jaG jaS jan jaU jaE jar jaL jah jaB jaa jaz jaH jab ja2 z0_s jaq jjr jdj jh9 jat jau jav jaj jas jaJ jak jad jay jac)) (wn := (qh1 a0 jbd jaQ jgt jbx x42 x43 x44 jbK jgo jaW jal jam jax jao ja6 jaV ja8 jae jag jaf jaN ja4 jaP jaw jaI jaZ jaG jaS jan jaU jaE jar jaL jah jaB jaa jaz jaH jab ja2 z0_s jaq jjr jdj jh9 jat jau jav jaj jas jaJ jak jad jay jac jaQ cyI ja9 jjr cyI jlJ jaW cyI jbC jdj cyI jgv)) hP hD [0] [1, 2, 3, 4] [4, 0, 1, 2, 3] hCc rfl (by decide +kernel) (by decide +kernel) (by decide +kernel) rfl hk1 hFc hP1 hD1
  generalize H1 = H at hP hS ⊢
  refine lv_if_ne (tgt := 153) hx hb (qaa qgG 2 rfl) (by decide) (fun c46 => ?_) (fun c46 => ?_)
  · have hw := hw.1 c46
    refine lv_aload_n hx hb (qaa qgG 4 rfl) rfl (lv_at hl 1 rfl) ?_
    refine va_get (D := (dC, dI)) (ci := 11) (v := .ref jjr) (C := RX11) (T := TX11) (N := 55) hx hb hts qpa hown hK hP 0 rfl rfl 42 (by decide) (hts _ qG5) (fun _ h9 => h9) rfl (qaa qgG 5 rfl) ?_
    refine lv_iload hx hb (qaa qgG 6 rfl) (lv_at hl 3 rfl) ?_
    refine lv_iload hx hb (qaa qgG 7 rfl) (lv_at hl 0 rfl) ?_
    obtain ⟨hi9, hw⟩ := hw
    refine va_iast hx hb hK hP hD hS 2 1 rfl rfl hi9 (qaa qgG 8 rfl) (fun H locs hP hD hS => ?_)
    obtain ⟨f47, ef47⟩ : ∃ y : NI, y = upd jlJ l4.toNatClampNeg r41 := ⟨_, rfl⟩
    have hw := hw f47 ef47
    have hP : va_P (dC, dI) vwCl (qh1 a0 jbd jaQ jgt jbx x42 x43 x44 jbK jgo jaW jal jam jax jao ja6 jaV ja8 jae jag jaf jaN ja4 jaP jaw jaI jaZ jaG jaS jan jaU jaE jar jaL jah jaB jaa jaz jaH jab ja2 z0_s jaq jjr jdj jh9 jat jau jav jaj jas jaJ jak jad jay jac jaQ cyI ja9 jjr cyI f47 jaW cyI jbC jdj cyI jgv) H := by rw [ef47]; exact hP
    have hD : va_D A (qh1 a0 jbd jaQ jgt jbx x42 x43 x44 jbK jgo jaW jal jam jax jao ja6 jaV ja8 jae jag jaf jaN ja4 jaP jaw jaI jaZ jaG jaS jan jaU jaE jar jaL jah jaB jaa jaz jaH jab ja2 z0_s jaq jjr jdj jh9 jat jau jav jaj jas jaJ jak jad jay jac jaQ cyI ja9 jjr cyI f47 jaW cyI jbC jdj cyI jgv) := by rw [ef47]; exact hD
    obtain ⟨x48, ex48⟩ : ∃ y : Int32, y = l2 + 1 := ⟨_, rfl⟩
    have hw := hw x48 ex48
    refine lv_iinc (v := x48) (lv' := [(2, .int x48), (5, .int r41), (0, .ref a0), (4, .int l4)]) hx hb (qaa qgG 9 rfl) hl (k := 2) rfl (by rw [ex48]; rfl) (by decide) rfl (fun ls hl => ?_)
    refine lv_goto (tgt := 67) hx hb (qaa qgG 10 rfl) (by decide) ?_
    exact hK67 _ _ _ jbd ja9 jgt jgo jbx x42 x43 jbK f47 x44 jh9 jgv x48 hP hD hS (lv_sub hl [2, 0] rfl) hw
  · have hw := hw.2 c46
    refine lv_goto (tgt := 168) hx hb (qaa qgG 3 rfl) (by decide) ?_
    exact qQM dC dI cyB cyI cyJ cyP a0 jaQ jjr jaW jdj jal jam jax jao ja6 jaV ja8 jae jag jaf ja4 jaP jaw jaI jaZ jaG jaS jan jaU jaE jar jaL jah jaB jaa jaz jaH jab ja2 z0_s jaq jat jau jav jaj jas jaJ jak jad jay jac jaN jbC Q C0 _ _ _ jbd ja9 jgt jgo jbx x42 x43 jbK jlJ x44 jh9 jgv l2 hP hD hS (lv_sub hl [1, 2] rfl) hw
set_option maxHeartbeats 4000000 in
set_option maxRecDepth 100000 in
theorem qaIp {p : Program} {l : Launch} {e : Env} {s : State} {m : MethodId} {args : Array Value} {below : List Frame} {meth : Method} {c : Code} {A : Nat → Prop} (dC : Nat → ClassId) (dI : Nat → Nat → Nat) (cyB cyI cyJ cyP : ClassId) (a0 jaQ jjr jaW jdj : Nat) (jal jam jax jao ja6 jaV ja8 jae jag jaf ja4 jaP jaw jaI jaZ jaG jaS jan jaU jaE jar jaL jah jaB jaa jaz jaH jab ja2 z0_s jaq jat jau jav jaj jas jaJ jak jad jay jac : Value) (jaN : Int32) (jbC : NI) (Q : Int32 → Int32 → NI → Int32 → Int32 → Int32 → Int32 → Int32 → Int32 → NI → Int32 → Int32 → NI → Prop) (C0 : cfx p s m args meth c cX11_book (some .int) wsX11_book RX11 6 A (dC, dI) (kT cyB cyI cyJ cyP)) : ∀ (n : Nat) (H : Heap) (locs : List Loc) (ls : Array Slot) (jbd : Int32) (ja9 : NI) (jgt jgo jbx jcP jb8 jbK : Int32) (jlJ : NI) (jbh jh9 : Int32) (jgv : NI) (l2 : Int32), va_P (dC, dI) vwCl (qh1 a0 jbd jaQ jgt jbx jcP jb8 jbh jbK jgo jaW jal jam jax jao ja6 jaV ja8 jae jag jaf jaN ja4 jaP jaw jaI jaZ jaG jaS jan jaU jaE jar jaL jah jaB jaa jaz jaH jab ja2 z0_s jaq jjr jdj jh9 jat jau jav jaj jas jaJ jak jad jay jac jaQ cyI ja9 jjr cyI jlJ jaW cyI jbC jdj cyI jgv) H → va_D A (qh1 a0 jbd jaQ jgt jbx jcP jb8 jbh jbK jgo jaW jal jam jax jao ja6 jaV ja8 jae jag jaf jaN ja4 jaP jaw jaI jaZ jaG jaS jan jaU jaE jar jaL jah jaB jaa jaz jaH jab ja2 z0_s jaq jjr jdj jh9 jat jau jav jaj jas jaJ jak jad jay jac jaQ cyI ja9 jjr cyI jlJ jaW cyI jbC jdj cyI jgv) → va_S A s.heap H locs → lv_has ls 6 [(0, .ref a0), (2, .int l2)] → qof jaN jbC Q n jbd ja9 jgt jgo jbx jcP jb8 jbK jlJ jbh jh9 jgv l2 → W p l e (headSpec wsX11_book ({ frames := 2, cells := 0, slots := 0, locals := 47 })).room s m args below meth c H locs 0 0 (MQ below (va_Qi (fun (r : Int32) (u : Int32 × NI × Int32 × Int32 × Int32 × Int32 × Int32 × Int32 × NI × Int32 × Int32 × NI) => Q r u.1 u.2.1 u.2.2.1 u.2.2.2.1 u.2.2.2.2.1 u.2.2.2.2.2.1 u.2.2.2.2.2.2.1 u.2.2.2.2.2.2.2.1 u.2.2.2.2.2.2.2.2.1 u.2.2.2.2.2.2.2.2.2.1 u.2.2.2.2.2.2.2.2.2.2.1 u.2.2.2.2.2.2.2.2.2.2.2) (cB (dC, dI) (kT cyB cyI cyJ cyP) A (fun u : Int32 × NI × Int32 × Int32 × Int32 × Int32 × Int32 × Int32 × NI × Int32 × Int32 × NI => ((qh1 a0 u.1 jaQ u.2.2.1 u.2.2.2.2.1 u.2.2.2.2.2.1 u.2.2.2.2.2.2.1 u.2.2.2.2.2.2.2.2.2.1 u.2.2.2.2.2.2.2.1 u.2.2.2.1 jaW jal jam jax jao ja6 jaV ja8 jae jag jaf jaN ja4 jaP jaw jaI jaZ jaG jaS jan jaU jaE jar jaL jah jaB jaa jaz jaH jab ja2 z0_s jaq jjr jdj u.2.2.2.2.2.2.2.2.2.2.1 jat jau jav jaj jas jaJ jak jad jay jac jaQ cyI u.2.1 jjr cyI u.2.2.2.2.2.2.2.2.1 jaW cyI jbC jdj cyI u.2.2.2.2.2.2.2.2.2.2.2) : va_W))) A) args s 0 0 A) (F0 m 67 ls []) := by
  obtain ⟨hx, hb, hr, hts, hown, hlocks, hml, hA, hK, hNw⟩ := id C0
  intro n
  induction n with
  | zero => intro H locs ls jbd ja9 jgt jgo jbx jcP jb8 jbK jlJ jbh jh9 jgv l2 hP hD hS hl hw; exact False.elim hw
  | succ n ih =>
    intro H locs ls jbd ja9 jgt jgo jbx jcP jb8 jbK jlJ jbh jh9 jgv l2 hP hD hS hl hw
    have hw : qbU jb8 (fun r17 => ((r17 = 0 → (qt7 jaN jbC Q jbd ja9 jgt jgo jbx jcP jb8 jbK jlJ jbh jh9 jgv l2)) ∧ (¬ r17 = 0 → qsp jbx jbC jcP (fun r20 x19 => ((r20 = 0 → (qt7 jaN jbC Q jbd ja9 jgt jgo jbx x19 jb8 jbK jlJ jbh jh9 jgv l2)) ∧ (¬ r20 = 0 → qbM jbx jbC x19 (fun r23 x22 => qbV jbx jbC x22 jb8 jbh 0 (jaN - 1) (fun r27 x24 x25 x26 => qbU x25 (fun r28 => ((r28 = 0 → (qt4 jaN jbC Q (fun jbd ja9 jgt jgo jbx jcP jb8 jbK jlJ jbh jh9 jgv l2 => qof jaN jbC Q n jbd ja9 jgt jgo jbx jcP jb8 jbK jlJ jbh jh9 jgv l2) jbd ja9 jgt jgo jbx x24 x25 jbK jlJ x26 jh9 jgv l2 r27)) ∧ (¬ r28 = 0 → vp_in r27 8 ∧ ∀ x30 : Int32, x30 = jlJ r27.toNatClampNeg → ((x30 = (-1) → (qt4 jaN jbC Q (fun jbd ja9 jgt jgo jbx jcP jb8 jbK jlJ jbh jh9 jgv l2 => qof jaN jbC Q n jbd ja9 jgt jgo jbx jcP jb8 jbK jlJ jbh jh9 jgv l2) jbd ja9 jgt jgo jbx x24 x25 jbK jlJ x26 jh9 jgv l2 r27)) ∧ (¬ x30 = (-1) → qnx x25 x26 2 x22 (fun x32 x33 => (qt4 jaN jbC Q (fun jbd ja9 jgt jgo jbx jcP jb8 jbK jlJ jbh jh9 jgv l2 => qof jaN jbC Q n jbd ja9 jgt jgo jbx jcP jb8 jbK jlJ jbh jh9 jgv l2) jbd ja9 jgt jgo jbx x24 x32 jbK jlJ x33 jh9 jgv l2 r27))))))))))))))) := hw
    refine lv_aload_n hx hb (qaa qjm 7 rfl) rfl (lv_at hl 0 rfl) ?_
    obtain ⟨hCc, hPc, hDc, hFc⟩ := qac (ws' := (qNg a0 jbd jaQ jgt jbx jcP jb8 jbh jbK jgo jaW jal jam jax jao ja6 jaV ja8 jae jag jaf jaN ja4 jaP jaw jaI jaZ jaG jaS jan jaU jaE jar jaL jah jaB jaa jaz jaH jab ja2 z0_s jaq jjr jdj jh9 jat jau jav jaj jas jaJ jak jad jay jac)) hP hD hS hA [0] (by decide +kernel) rfl
    refine va_calli (va_runV (As := []) (rest := []) ⟨hx, hb, hml, hown, hts⟩ (qdP l dC dI cyB cyI cyJ cyP a0 H.size (.int jbd) (.ref jaQ) (.int jgt) (.int jbx) (.int jcP) (.int jbh) (.int jbK) (.int jgo) (.ref jaW) (jal) (jam) (jax) (jao) (ja6) (jaV) (ja8) (jae) (jag) (jaf) (.int jaN) (ja4) (jaP) (jaw) (jaI) (jaZ) (jaG) (jaS) (jan) (jaU) (jaE) (jar) (jaL) (jah) (jaB) (jaa) (jaz) (jaH) (jab) (ja2) (z0_s) (jaq) (.ref jjr) (.ref jdj) (.int jh9) (jat) (jau) (jav) (jaj) (jas) (jaJ) (jak) (jad) (jay) (jac) jb8 hw) (cwV 0 hts gX11_book_X11_fine rfl rfl rfl (by decide +kernel) ⟨nbq rfl, nbq rfl⟩) ⟨qab, va_recv (q := (RX11, TX11, 55)) hK hPc (ci := 11) (q0 := 0) rfl rfl, qae hPc hK hDc hNw⟩ rfl rfl hl.1 rfl (lv_room (nbq rfl)) (qaa qjm 8 rfl) ⟨nbq rfl, nbq rfl⟩) hS (fun q _ h => hFc q h) hFc (fun r17 u t H1 locs ht hvm hw hB hz1 hk1 hS => ?_)
    obtain ⟨hP1, hK1, hD1⟩ := hB
    rw [ht] at hP1
    obtain ⟨hP, hD⟩ := qad (wr := (qal5 jaQ cyI ja9 jjr cyI jlJ jaW cyI jbC jdj cyI jgv)) (w1 := (qNg a0 jbd jaQ jgt jbx jcP jb8 jbh jbK jgo jaW jal jam jax jao ja6 jaV ja8 jae jag jaf jaN ja4 jaP jaw jaI jaZ jaG jaS jan jaU jaE jar jaL jah jaB jaa jaz jaH jab ja2 z0_s jaq jjr jdj jh9 jat jau jav jaj jas jaJ jak jad jay jac)) (wn := (qh1 a0 jbd jaQ jgt jbx jcP jb8 jbh jbK jgo jaW jal jam jax jao ja6 jaV ja8 jae jag jaf jaN ja4 jaP jaw jaI jaZ jaG jaS jan jaU jaE jar jaL jah jaB jaa jaz jaH jab ja2 z0_s jaq jjr jdj jh9 jat jau jav jaj jas jaJ jak jad jay jac jaQ cyI ja9 jjr cyI jlJ jaW cyI jbC jdj cyI jgv)) hP hD [0] [1, 2, 3, 4] [4, 0, 1, 2, 3] hCc rfl (by decide +kernel) (by decide +kernel) (by decide +kernel) rfl hk1 hFc hP1 hD1
    generalize H1 = H at hP hS ⊢
    refine lv_if_eq (tgt := 168) hx hb (qaa qjm 9 rfl) (by decide) (fun c18 => ?_) (fun c18 => ?_)
    · have hw := hw.1 c18
      exact qQM dC dI cyB cyI cyJ cyP a0 jaQ jjr jaW jdj jal jam jax jao ja6 jaV ja8 jae jag jaf ja4 jaP jaw jaI jaZ jaG jaS jan jaU jaE jar jaL jah jaB jaa jaz jaH jab ja2 z0_s jaq jat jau jav jaj jas jaJ jak jad jay jac jaN jbC Q C0 _ _ _ jbd ja9 jgt jgo jbx jcP jb8 jbK jlJ jbh jh9 jgv l2 hP hD hS (lv_sub hl [0, 1] rfl) hw
    · have hw := hw.2 c18
      refine lv_aload_n hx hb (qaa qjm 10 rfl) rfl (lv_at hl 0 rfl) ?_
      obtain ⟨hCc, hPc, hDc, hFc⟩ := qac (ws' := (qTP a0 jbd jaQ jgt jbx jcP jb8 jbh jbK jgo jaW jal jam jax jao ja6 jaV ja8 jae jag jaf jaN ja4 jaP jaw jaI jaZ jaG jaS jan jaU jaE jar jaL jah jaB jaa jaz jaH jab ja2 z0_s jaq jjr jdj jh9 jat jau jav jaj jas jaJ jak jad jay jac jaW cyI jbC)) hP hD hS hA [0, 3] (by decide +kernel) rfl
      refine va_calli (va_runV (As := []) (rest := []) ⟨hx, hb, hml, hown, hts⟩ (qNT l dC dI cyB cyI cyJ cyP a0 jaW H.size (.int jbd) (.ref jaQ) (.int jgt) (.int jb8) (.int jbh) (.int jbK) (.int jgo) (jal) (jam) (jax) (jao) (ja6) (jaV) (ja8) (jae) (jag) (jaf) (.int jaN) (ja4) (jaP) (jaw) (jaI) (jaZ) (jaG) (jaS) (jan) (jaU) (jaE) (jar) (jaL) (jah) (jaB) (jaa) (jaz) (jaH) (jab) (ja2) (z0_s) (jaq) (.ref jjr) (.ref jdj) (.int jh9) (jat) (jau) (jav) (jaj) (jas) (jaJ) (jak) (jad) (jay) (jac) jbx jbC jcP hw) (cwV 0 hts gX11_book_X11_isMore rfl rfl rfl (by decide +kernel) ⟨nbq rfl, nbq rfl⟩) ⟨qab, va_recv (q := (RX11, TX11, 55)) hK hPc (ci := 11) (q0 := 0) rfl rfl, qae hPc hK hDc hNw⟩ rfl rfl hl.1 rfl (lv_room (nbq rfl)) (qaa qjm 11 rfl) ⟨nbq rfl, nbq rfl⟩) hS (fun q _ h => hFc q h) hFc (fun r20 u t H1 locs ht hvm hw hB hz1 hk1 hS => ?_)
      obtain ⟨x19, rfl⟩ : ∃ z, z = u := ⟨_, rfl⟩
      obtain ⟨hP1, hK1, hD1⟩ := hB
      rw [ht] at hP1
      obtain ⟨hP, hD⟩ := qad (wr := (qaBK jaQ cyI ja9 jjr cyI jlJ jdj cyI jgv)) (w1 := (qTP a0 jbd jaQ jgt jbx x19 jb8 jbh jbK jgo jaW jal jam jax jao ja6 jaV ja8 jae jag jaf jaN ja4 jaP jaw jaI jaZ jaG jaS jan jaU jaE jar jaL jah jaB jaa jaz jaH jab ja2 z0_s jaq jjr jdj jh9 jat jau jav jaj jas jaJ jak jad jay jac jaW cyI jbC)) (wn := (qh1 a0 jbd jaQ jgt jbx x19 jb8 jbh jbK jgo jaW jal jam jax jao ja6 jaV ja8 jae jag jaf jaN ja4 jaP jaw jaI jaZ jaG jaS jan jaU jaE jar jaL jah jaB jaa jaz jaH jab ja2 z0_s jaq jjr jdj jh9 jat jau jav jaj jas jaJ jak jad jay jac jaQ cyI ja9 jjr cyI jlJ jaW cyI jbC jdj cyI jgv)) hP hD [0, 3] [1, 2, 4] [3, 0, 1, 4, 2] hCc rfl (by decide +kernel) (by decide +kernel) (by decide +kernel) rfl hk1 hFc hP1 hD1
      generalize H1 = H at hP hS ⊢
      refine lv_if_eq (tgt := 168) hx hb (qaa qjm 12 rfl) (by decide) (fun c21 => ?_) (fun c21 => ?_)
      · have hw := hw.1 c21
        exact qQM dC dI cyB cyI cyJ cyP a0 jaQ jjr jaW jdj jal jam jax jao ja6 jaV ja8 jae jag jaf ja4 jaP jaw jaI jaZ jaG jaS jan jaU jaE jar jaL jah jaB jaa jaz jaH jab ja2 z0_s jaq jat jau jav jaj jas jaJ jak jad jay jac jaN jbC Q C0 _ _ _ jbd ja9 jgt jgo jbx x19 jb8 jbK jlJ jbh jh9 jgv l2 hP hD hS (lv_sub hl [0, 1] rfl) hw
      · have hw := hw.2 c21
        refine lv_aload_n hx hb (qaa qjm 13 rfl) rfl (lv_at hl 0 rfl) ?_
        obtain ⟨hCc, hPc, hDc, hFc⟩ := qac (ws' := (qTP a0 jbd jaQ jgt jbx x19 jb8 jbh jbK jgo jaW jal jam jax jao ja6 jaV ja8 jae jag jaf jaN ja4 jaP jaw jaI jaZ jaG jaS jan jaU jaE jar jaL jah jaB jaa jaz jaH jab ja2 z0_s jaq jjr jdj jh9 jat jau jav jaj jas jaJ jak jad jay jac jaW cyI jbC)) hP hD hS hA [0, 3] (by decide +kernel) rfl
        refine va_calli (va_runV (As := []) (rest := []) ⟨hx, hb, hml, hown, hts⟩ (qeS l dC dI cyB cyI cyJ cyP a0 jaW H.size (.int jbd) (.ref jaQ) (.int jgt) (.int jb8) (.int jbh) (.int jbK) (.int jgo) (jal) (jam) (jax) (jao) (ja6) (jaV) (ja8) (jae) (jag) (jaf) (.int jaN) (ja4) (jaP) (jaw) (jaI) (jaZ) (jaG) (jaS) (jan) (jaU) (jaE) (jar) (jaL) (jah) (jaB) (jaa) (jaz) (jaH) (jab) (ja2) (z0_s) (jaq) (.ref jjr) (.ref jdj) (.int jh9) (jat) (jau) (jav) (jaj) (jas) (jaJ) (jak) (jad) (jay) (jac) jbx jbC x19 hw) (cwV 0 hts gX11_book_X11_here rfl rfl rfl (by decide +kernel) ⟨nbq rfl, nbq rfl⟩) ⟨qab, va_recv (q := (RX11, TX11, 55)) hK hPc (ci := 11) (q0 := 0) rfl rfl, qae hPc hK hDc hNw⟩ rfl rfl hl.1 rfl (lv_room (nbq rfl)) (qaa qjm 14 rfl) ⟨nbq rfl, nbq rfl⟩) hS (fun q _ h => hFc q h) hFc (fun r23 u t H1 locs ht hvm hw hB hz1 hk1 hS => ?_)
        obtain ⟨x22, rfl⟩ : ∃ z, z = u := ⟨_, rfl⟩
        obtain ⟨hP1, hK1, hD1⟩ := hB
        rw [ht] at hP1
        obtain ⟨hP, hD⟩ := qad (wr := (qaBK jaQ cyI ja9 jjr cyI jlJ jdj cyI jgv)) (w1 := (qTP a0 jbd jaQ jgt jbx x22 jb8 jbh jbK jgo jaW jal jam jax jao ja6 jaV ja8 jae jag jaf jaN ja4 jaP jaw jaI jaZ jaG jaS jan jaU jaE jar jaL jah jaB jaa jaz jaH jab ja2 z0_s jaq jjr jdj jh9 jat jau jav jaj jas jaJ jak jad jay jac jaW cyI jbC)) (wn := (qh1 a0 jbd jaQ jgt jbx x22 jb8 jbh jbK jgo jaW jal jam jax jao ja6 jaV ja8 jae jag jaf jaN ja4 jaP jaw jaI jaZ jaG jaS jan jaU jaE jar jaL jah jaB jaa jaz jaH jab ja2 z0_s jaq jjr jdj jh9 jat jau jav jaj jas jaJ jak jad jay jac jaQ cyI ja9 jjr cyI jlJ jaW cyI jbC jdj cyI jgv)) hP hD [0, 3] [1, 2, 4] [3, 0, 1, 4, 2] hCc rfl (by decide +kernel) (by decide +kernel) (by decide +kernel) rfl hk1 hFc hP1 hD1
        generalize H1 = H at hP hS ⊢
        refine lv_pop hx hb (qaa qjm 15 rfl) rfl ?_
        refine lv_aload_n hx hb (qaa qi0 0 rfl) rfl (lv_at hl 0 rfl) ?_
        refine va_get (D := (dC, dI)) (ci := 11) (v := .int x22) (C := RX11) (T := TX11) (N := 55) hx hb hts qpa hown hK hP 0 rfl rfl 4 (by decide) (hts _ qaqA) (fun _ h9 => h9) rfl (qaa qi0 1 rfl) ?_
        refine lv_istore_n (lv' := [(3, .int x22), (0, .ref a0), (2, .int l2)]) hx hb (qaa qi0 2 rfl) rfl hl (by decide) rfl (fun ls hl => ?_)
        refine lv_aload_n hx hb (qaa qi0 3 rfl) rfl (lv_at hl 1 rfl) ?_
        refine lv_iconst (v := 0) hx hb (qaa qi0 4 rfl) (by decide) ?_
        refine lv_aload_n hx hb (qaa qi0 5 rfl) rfl (lv_at hl 1 rfl) ?_
        refine va_get (D := (dC, dI)) (ci := 11) (v := .int jaN) (C := RX11) (T := TX11) (N := 55) hx hb hts qpa hown hK hP 0 rfl rfl 20 (by decide) (hts _ qats) (fun _ h9 => h9) rfl (qaa qi0 6 rfl) ?_
        refine lv_iconst (v := 1) hx hb (qaa qi0 7 rfl) (by decide) ?_
        refine lv_isub hx hb (qaa qi0 8 rfl) ?_
        obtain ⟨hCc, hPc, hDc, hFc⟩ := qac (ws' := (qTP a0 jbd jaQ jgt jbx x22 jb8 jbh jbK jgo jaW jal jam jax jao ja6 jaV ja8 jae jag jaf jaN ja4 jaP jaw jaI jaZ jaG jaS jan jaU jaE jar jaL jah jaB jaa jaz jaH jab ja2 z0_s jaq jjr jdj jh9 jat jau jav jaj jas jaJ jak jad jay jac jaW cyI jbC)) hP hD hS hA [0, 3] (by decide +kernel) rfl
        refine va_calli (va_runV (As := [.int 0, .int (jaN - 1)]) (rest := []) ⟨hx, hb, hml, hown, hts⟩ (qcA l dC dI cyB cyI cyJ cyP a0 jaW H.size (.int jbd) (.ref jaQ) (.int jgt) (.int jbK) (.int jgo) (jal) (jam) (jax) (jao) (ja6) (jaV) (ja8) (jae) (jag) (jaf) (.int jaN) (ja4) (jaP) (jaw) (jaI) (jaZ) (jaG) (jaS) (jan) (jaU) (jaE) (jar) (jaL) (jah) (jaB) (jaa) (jaz) (jaH) (jab) (ja2) (z0_s) (jaq) (.ref jjr) (.ref jdj) (.int jh9) (jat) (jau) (jav) (jaj) (jas) (jaJ) (jak) (jad) (jay) (jac) jbx jbC x22 jb8 jbh 0 (jaN - 1) hw) (cwV 2 hts gX11_book_X11_readNumber rfl rfl rfl (by decide +kernel) ⟨nbq rfl, nbq rfl⟩) ⟨qab, va_recv (q := (RX11, TX11, 55)) hK hPc (ci := 11) (q0 := 0) rfl rfl, qae hPc hK hDc hNw⟩ rfl rfl hl.1 rfl (lv_room (nbq rfl)) (qaa qi0 9 rfl) ⟨nbq rfl, nbq rfl⟩) hS (fun q _ h => hFc q h) hFc (fun r27 u t H1 locs ht hvm hw hB hz1 hk1 hS => ?_)
        obtain ⟨x24, x25, x26⟩ := u
        obtain ⟨hP1, hK1, hD1⟩ := hB
        rw [ht] at hP1
        obtain ⟨hP, hD⟩ := qad (wr := (qaBK jaQ cyI ja9 jjr cyI jlJ jdj cyI jgv)) (w1 := (qTP a0 jbd jaQ jgt jbx x24 x25 x26 jbK jgo jaW jal jam jax jao ja6 jaV ja8 jae jag jaf jaN ja4 jaP jaw jaI jaZ jaG jaS jan jaU jaE jar jaL jah jaB jaa jaz jaH jab ja2 z0_s jaq jjr jdj jh9 jat jau jav jaj jas jaJ jak jad jay jac jaW cyI jbC)) (wn := (qh1 a0 jbd jaQ jgt jbx x24 x25 x26 jbK jgo jaW jal jam jax jao ja6 jaV ja8 jae jag jaf jaN ja4 jaP jaw jaI jaZ jaG jaS jan jaU jaE jar jaL jah jaB jaa jaz jaH jab ja2 z0_s jaq jjr jdj jh9 jat jau jav jaj jas jaJ jak jad jay jac jaQ cyI ja9 jjr cyI jlJ jaW cyI jbC jdj cyI jgv)) hP hD [0, 3] [1, 2, 4] [3, 0, 1, 4, 2] hCc rfl (by decide +kernel) (by decide +kernel) (by decide +kernel) rfl hk1 hFc hP1 hD1
        generalize H1 = H at hP hS ⊢
        refine lv_istore (lv' := [(4, .int r27), (3, .int x22), (0, .ref a0), (2, .int l2)]) hx hb (qaa qi0 10 rfl) hl (by decide) rfl (fun ls hl => ?_)
        refine lv_aload_n hx hb (qaa qi0 11 rfl) rfl (lv_at hl 2 rfl) ?_
        obtain ⟨hCc, hPc, hDc, hFc⟩ := qac (ws' := (qNg a0 jbd jaQ jgt jbx x24 x25 x26 jbK jgo jaW jal jam jax jao ja6 jaV ja8 jae jag jaf jaN ja4 jaP jaw jaI jaZ jaG jaS jan jaU jaE jar jaL jah jaB jaa jaz jaH jab ja2 z0_s jaq jjr jdj jh9 jat jau jav jaj jas jaJ jak jad jay jac)) hP hD hS hA [0] (by decide +kernel) rfl
        refine va_calli (va_runV (As := []) (rest := []) ⟨hx, hb, hml, hown, hts⟩ (qdP l dC dI cyB cyI cyJ cyP a0 H.size (.int jbd) (.ref jaQ) (.int jgt) (.int jbx) (.int x24) (.int x26) (.int jbK) (.int jgo) (.ref jaW) (jal) (jam) (jax) (jao) (ja6) (jaV) (ja8) (jae) (jag) (jaf) (.int jaN) (ja4) (jaP) (jaw) (jaI) (jaZ) (jaG) (jaS) (jan) (jaU) (jaE) (jar) (jaL) (jah) (jaB) (jaa) (jaz) (jaH) (jab) (ja2) (z0_s) (jaq) (.ref jjr) (.ref jdj) (.int jh9) (jat) (jau) (jav) (jaj) (jas) (jaJ) (jak) (jad) (jay) (jac) x25 hw) (cwV 0 hts gX11_book_X11_fine rfl rfl rfl (by decide +kernel) ⟨nbq rfl, nbq rfl⟩) ⟨qab, va_recv (q := (RX11, TX11, 55)) hK hPc (ci := 11) (q0 := 0) rfl rfl, qae hPc hK hDc hNw⟩ rfl rfl hl.1 rfl (lv_room (nbq rfl)) (qaa qi0 12 rfl) ⟨nbq rfl, nbq rfl⟩) hS (fun q _ h => hFc q h) hFc (fun r28 u t H1 locs ht hvm hw hB hz1 hk1 hS => ?_)
        obtain ⟨hP1, hK1, hD1⟩ := hB
        rw [ht] at hP1
        obtain ⟨hP, hD⟩ := qad (wr := (qal5 jaQ cyI ja9 jjr cyI jlJ jaW cyI jbC jdj cyI jgv)) (w1 := (qNg a0 jbd jaQ jgt jbx x24 x25 x26 jbK jgo jaW jal jam jax jao ja6 jaV ja8 jae jag jaf jaN ja4 jaP jaw jaI jaZ jaG jaS jan jaU jaE jar jaL jah jaB jaa jaz jaH jab ja2 z0_s jaq jjr jdj jh9 jat jau jav jaj jas jaJ jak jad jay jac)) (wn := (qh1 a0 jbd jaQ jgt jbx x24 x25 x26 jbK jgo jaW jal jam jax jao ja6 jaV ja8 jae jag jaf jaN ja4 jaP jaw jaI jaZ jaG jaS jan jaU jaE jar jaL jah jaB jaa jaz jaH jab ja2 z0_s jaq jjr jdj jh9 jat jau jav jaj jas jaJ jak jad jay jac jaQ cyI ja9 jjr cyI jlJ jaW cyI jbC jdj cyI jgv)) hP hD [0] [1, 2, 3, 4] [4, 0, 1, 2, 3] hCc rfl (by decide +kernel) (by decide +kernel) (by decide +kernel) rfl hk1 hFc hP1 hD1
        generalize H1 = H at hP hS ⊢
        refine lv_if_eq (tgt := 128) hx hb (qaa qi0 13 rfl) (by decide) (fun c29 => ?_) (fun c29 => ?_)
        · have hw := hw.1 c29
          exact qRk dC dI cyB cyI cyJ cyP a0 jaQ jjr jaW jdj jal jam jax jao ja6 jaV ja8 jae jag jaf ja4 jaP jaw jaI jaZ jaG jaS jan jaU jaE jar jaL jah jaB jaa jaz jaH jab ja2 z0_s jaq jat jau jav jaj jas jaJ jak jad jay jac jaN jbC Q (qof jaN jbC Q n) ih C0 _ _ _ jbd ja9 jgt jgo jbx x24 x25 jbK jlJ x26 jh9 jgv l2 r27 hP hD hS (lv_sub hl [2, 3, 0] rfl) hw
        · have hw := hw.2 c29
          refine lv_aload_n hx hb (qaa qi0 14 rfl) rfl (lv_at hl 2 rfl) ?_
          refine va_get (D := (dC, dI)) (ci := 11) (v := .ref jjr) (C := RX11) (T := TX11) (N := 55) hx hb hts qpa hown hK hP 0 rfl rfl 42 (by decide) (hts _ qG5) (fun _ h9 => h9) rfl (qaa qi0 15 rfl) ?_
          refine lv_iload hx hb (qaa qgI 0 rfl) (lv_at hl 0 rfl) ?_
          obtain ⟨hi9, hw⟩ := hw
          refine va_iald hx hb hK hP 2 1 rfl rfl hi9 (qaa qgI 1 rfl) ?_
          refine lv_topi (fun x30 ex30 => ?_)
          have hw := hw x30 ex30
          refine lv_iconst (v := (-1)) hx hb (qaa qgI 2 rfl) (by decide) ?_
          refine lv_icmp_eq (tgt := 128) hx hb (qaa qgI 3 rfl) (by decide) (fun c31 => ?_) (fun c31 => ?_)
          · have hw := hw.1 c31
            exact qRk dC dI cyB cyI cyJ cyP a0 jaQ jjr jaW jdj jal jam jax jao ja6 jaV ja8 jae jag jaf ja4 jaP jaw jaI jaZ jaG jaS jan jaU jaE jar jaL jah jaB jaa jaz jaH jab ja2 z0_s jaq jat jau jav jaj jas jaJ jak jad jay jac jaN jbC Q (qof jaN jbC Q n) ih C0 _ _ _ jbd ja9 jgt jgo jbx x24 x25 jbK jlJ x26 jh9 jgv l2 r27 hP hD hS (lv_sub hl [2, 3, 0] rfl) hw
          · have hw := hw.2 c31
            refine lv_aload_n hx hb (qaa qgI 4 rfl) rfl (lv_at hl 2 rfl) ?_
            refine lv_iconst (v := 2) hx hb (qaa qgI 5 rfl) (by decide) ?_
            refine lv_iload_n hx hb (qaa qgI 6 rfl) rfl (lv_at hl 1 rfl) ?_
            obtain ⟨hCc, hPc, hDc, hFc⟩ := qac (ws' := (qNg a0 jbd jaQ jgt jbx x24 x25 x26 jbK jgo jaW jal jam jax jao ja6 jaV ja8 jae jag jaf jaN ja4 jaP jaw jaI jaZ jaG jaS jan jaU jaE jar jaL jah jaB jaa jaz jaH jab ja2 z0_s jaq jjr jdj jh9 jat jau jav jaj jas jaJ jak jad jay jac)) hP hD hS hA [0] (by decide +kernel) rfl
            refine va_callv (va_runV (As := [.int 2, .int x22]) (rest := []) ⟨hx, hb, hml, hown, hts⟩ (qrt l dC dI cyB cyI cyJ cyP a0 H.size (.int jbd) (.ref jaQ) (.int jgt) (.int jbx) (.int x24) (.int jbK) (.int jgo) (.ref jaW) (jal) (jam) (jax) (jao) (ja6) (jaV) (ja8) (jae) (jag) (jaf) (.int jaN) (ja4) (jaP) (jaw) (jaI) (jaZ) (jaG) (jaS) (jan) (jaU) (jaE) (jar) (jaL) (jah) (jaB) (jaa) (jaz) (jaH) (jab) (ja2) (z0_s) (jaq) (.ref jjr) (.ref jdj) (.int jh9) (jat) (jau) (jav) (jaj) (jas) (jaJ) (jak) (jad) (jay) (jac) x25 x26 2 x22 hw) (cwV 2 hts gX11_book_X11_wrong rfl rfl rfl (by decide +kernel) ⟨nbq rfl, nbq rfl⟩) ⟨qab, va_recv (q := (RX11, TX11, 55)) hK hPc (ci := 11) (q0 := 0) rfl rfl, qae hPc hK hDc hNw⟩ rfl rfl hl.1 rfl (lv_room (nbq rfl)) (qaa qgI 7 rfl) ⟨nbq rfl, nbq rfl⟩) hS (fun q _ h => hFc q h) hFc (fun u t H1 locs ht hvm hw hB hz1 hk1 hS => ?_)
            obtain ⟨x32, x33⟩ := u
            obtain ⟨hP1, hK1, hD1⟩ := hB
            rw [ht] at hP1
            obtain ⟨hP, hD⟩ := qad (wr := (qal5 jaQ cyI ja9 jjr cyI jlJ jaW cyI jbC jdj cyI jgv)) (w1 := (qNg a0 jbd jaQ jgt jbx x24 x32 x33 jbK jgo jaW jal jam jax jao ja6 jaV ja8 jae jag jaf jaN ja4 jaP jaw jaI jaZ jaG jaS jan jaU jaE jar jaL jah jaB jaa jaz jaH jab ja2 z0_s jaq jjr jdj jh9 jat jau jav jaj jas jaJ jak jad jay jac)) (wn := (qh1 a0 jbd jaQ jgt jbx x24 x32 x33 jbK jgo jaW jal jam jax jao ja6 jaV ja8 jae jag jaf jaN ja4 jaP jaw jaI jaZ jaG jaS jan jaU jaE jar jaL jah jaB jaa jaz jaH jab ja2 z0_s jaq jjr jdj jh9 jat jau jav jaj jas jaJ jak jad jay jac jaQ cyI ja9 jjr cyI jlJ jaW cyI jbC jdj cyI jgv)) hP hD [0] [1, 2, 3, 4] [4, 0, 1, 2, 3] hCc rfl (by decide +kernel) (by decide +kernel) (by decide +kernel) rfl hk1 hFc hP1 hD1
            generalize H1 = H at hP hS ⊢
            exact qRk dC dI cyB cyI cyJ cyP a0 jaQ jjr jaW jdj jal jam jax jao ja6 jaV ja8 jae jag jaf ja4 jaP jaw jaI jaZ jaG jaS jan jaU jaE jar jaL jah jaB jaa jaz jaH jab ja2 z0_s jaq jat jau jav jaj jas jaJ jak jad jay jac jaN jbC Q (qof jaN jbC Q n) ih C0 _ _ _ jbd ja9 jgt jgo jbx x24 x32 jbK jlJ x33 jh9 jgv l2 r27 hP hD hS (lv_sub hl [2, 3, 0] rfl) hw
set_option maxHeartbeats 4000000 in
set_option maxRecDepth 100000 in
theorem qaE4 {p : Program} {l : Launch} {e : Env} {s : State} {m : MethodId} {args : Array Value} {below : List Frame} {meth : Method} {c : Code} {A : Nat → Prop} (dC : Nat → ClassId) (dI : Nat → Nat → Nat) (cyB cyI cyJ cyP : ClassId) (a0 jaQ jjr jaW jdj : Nat) (jal jam jax jao ja6 jaV ja8 jae jag jaf ja4 jaP jaw jaI jaZ jaG jaS jan jaU jaE jar jaL jah jaB jaa jaz jaH jab ja2 z0_s jaq jat jau jav jaj jas jaJ jak jad jay jac : Value) (jaN : Int32) (jbC : NI) (Q : Int32 → Int32 → NI → Int32 → Int32 → Int32 → Int32 → Int32 → Int32 → NI → Int32 → Int32 → NI → Prop) (C0 : cfx p s m args meth c cX11_book (some .int) wsX11_book RX11 6 A (dC, dI) (kT cyB cyI cyJ cyP)) : ∀ (n : Nat) (H : Heap) (locs : List Loc) (ls : Array Slot) (jbd : Int32) (ja9 : NI) (jgt jgo jbx jcP jb8 jbK : Int32) (jlJ : NI) (jbh jh9 : Int32) (jgv : NI) (l2 : Int32), va_P (dC, dI) vwCl (qh1 a0 jbd jaQ jgt jbx jcP jb8 jbh jbK jgo jaW jal jam jax jao ja6 jaV ja8 jae jag jaf jaN ja4 jaP jaw jaI jaZ jaG jaS jan jaU jaE jar jaL jah jaB jaa jaz jaH jab ja2 z0_s jaq jjr jdj jh9 jat jau jav jaj jas jaJ jak jad jay jac jaQ cyI ja9 jjr cyI jlJ jaW cyI jbC jdj cyI jgv) H → va_D A (qh1 a0 jbd jaQ jgt jbx jcP jb8 jbh jbK jgo jaW jal jam jax jao ja6 jaV ja8 jae jag jaf jaN ja4 jaP jaw jaI jaZ jaG jaS jan jaU jaE jar jaL jah jaB jaa jaz jaH jab ja2 z0_s jaq jjr jdj jh9 jat jau jav jaj jas jaJ jak jad jay jac jaQ cyI ja9 jjr cyI jlJ jaW cyI jbC jdj cyI jgv) → va_S A s.heap H locs → lv_has ls 6 [(0, .ref a0), (2, .int l2)] → qK2 jaN jbC Q n jbd ja9 jgt jgo jbx jcP jb8 jbK jlJ jbh jh9 jgv l2 → W p l e (headSpec wsX11_book ({ frames := 2, cells := 0, slots := 0, locals := 47 })).room s m args below meth c H locs 0 0 (MQ below (va_Qi (fun (r : Int32) (u : Int32 × NI × Int32 × Int32 × Int32 × Int32 × Int32 × Int32 × NI × Int32 × Int32 × NI) => Q r u.1 u.2.1 u.2.2.1 u.2.2.2.1 u.2.2.2.2.1 u.2.2.2.2.2.1 u.2.2.2.2.2.2.1 u.2.2.2.2.2.2.2.1 u.2.2.2.2.2.2.2.2.1 u.2.2.2.2.2.2.2.2.2.1 u.2.2.2.2.2.2.2.2.2.2.1 u.2.2.2.2.2.2.2.2.2.2.2) (cB (dC, dI) (kT cyB cyI cyJ cyP) A (fun u : Int32 × NI × Int32 × Int32 × Int32 × Int32 × Int32 × Int32 × NI × Int32 × Int32 × NI => ((qh1 a0 u.1 jaQ u.2.2.1 u.2.2.2.2.1 u.2.2.2.2.2.1 u.2.2.2.2.2.2.1 u.2.2.2.2.2.2.2.2.2.1 u.2.2.2.2.2.2.2.1 u.2.2.2.1 jaW jal jam jax jao ja6 jaV ja8 jae jag jaf jaN ja4 jaP jaw jaI jaZ jaG jaS jan jaU jaE jar jaL jah jaB jaa jaz jaH jab ja2 z0_s jaq jjr jdj u.2.2.2.2.2.2.2.2.2.2.1 jat jau jav jaj jas jaJ jak jad jay jac jaQ cyI u.2.1 jjr cyI u.2.2.2.2.2.2.2.2.1 jaW cyI jbC jdj cyI u.2.2.2.2.2.2.2.2.2.2.2) : va_W))) A) args s 0 0 A) (F0 m 46 ls []) := by
  obtain ⟨hx, hb, hr, hts, hown, hlocks, hml, hA, hK, hNw⟩ := id C0
  intro n
  induction n with
  | zero => intro H locs ls jbd ja9 jgt jgo jbx jcP jb8 jbK jlJ jbh jh9 jgv l2 hP hD hS hl hw; exact False.elim hw
  | succ n ih =>
    intro H locs ls jbd ja9 jgt jgo jbx jcP jb8 jbK jlJ jbh jh9 jgv l2 hP hD hS hl hw
    refine lv_iload_n hx hb (qaa qkw 11 rfl) rfl (lv_at hl 1 rfl) ?_
    refine lv_bipush (v := 8) hx hb (qaa qkw 12 rfl) (by decide) ?_
    refine lv_icmp_ge (tgt := 65) hx hb (qaa qkw 13 rfl) (by decide) (fun c14 => ?_) (fun c14 => ?_)
    · have hw := hw.1 c14
      refine lv_iconst (v := 0) hx hb (qaa qjm 5 rfl) (by decide) ?_
      refine lv_istore_n (lv' := [(2, .int 0), (0, .ref a0)]) hx hb (qaa qjm 6 rfl) rfl hl (by decide) rfl (fun ls hl => ?_)
      obtain ⟨n9, hw⟩ := hw
      exact qaIp dC dI cyB cyI cyJ cyP a0 jaQ jjr jaW jdj jal jam jax jao ja6 jaV ja8 jae jag jaf ja4 jaP jaw jaI jaZ jaG jaS jan jaU jaE jar jaL jah jaB jaa jaz jaH jab ja2 z0_s jaq jat jau jav jaj jas jaJ jak jad jay jac jaN jbC Q C0 n9 _ _ _ jbd ja9 jgt jgo jbx jcP jb8 jbK jlJ jbh jh9 jgv 0 hP hD hS (lv_sub hl [1, 0] rfl) hw
    · have hw := hw.2 c14
      refine lv_aload_n hx hb (qaa qkw 14 rfl) rfl (lv_at hl 0 rfl) ?_
      refine va_get (D := (dC, dI)) (ci := 11) (v := .ref jjr) (C := RX11) (T := TX11) (N := 55) hx hb hts qpa hown hK hP 0 rfl rfl 42 (by decide) (hts _ qG5) (fun _ h9 => h9) rfl (qaa qkw 15 rfl) ?_
      refine lv_iload_n hx hb (qaa qjm 0 rfl) rfl (lv_at hl 1 rfl) ?_
      refine lv_iconst (v := (-1)) hx hb (qaa qjm 1 rfl) (by decide) ?_
      obtain ⟨hi9, hw⟩ := hw
      refine va_iast hx hb hK hP hD hS 2 1 rfl rfl hi9 (qaa qjm 2 rfl) (fun H locs hP hD hS => ?_)
      obtain ⟨f15, ef15⟩ : ∃ y : NI, y = upd jlJ l2.toNatClampNeg (-1) := ⟨_, rfl⟩
      have hw := hw f15 ef15
      have hP : va_P (dC, dI) vwCl (qh1 a0 jbd jaQ jgt jbx jcP jb8 jbh jbK jgo jaW jal jam jax jao ja6 jaV ja8 jae jag jaf jaN ja4 jaP jaw jaI jaZ jaG jaS jan jaU jaE jar jaL jah jaB jaa jaz jaH jab ja2 z0_s jaq jjr jdj jh9 jat jau jav jaj jas jaJ jak jad jay jac jaQ cyI ja9 jjr cyI f15 jaW cyI jbC jdj cyI jgv) H := by rw [ef15]; exact hP
      have hD : va_D A (qh1 a0 jbd jaQ jgt jbx jcP jb8 jbh jbK jgo jaW jal jam jax jao ja6 jaV ja8 jae jag jaf jaN ja4 jaP jaw jaI jaZ jaG jaS jan jaU jaE jar jaL jah jaB jaa jaz jaH jab ja2 z0_s jaq jjr jdj jh9 jat jau jav jaj jas jaJ jak jad jay jac jaQ cyI ja9 jjr cyI f15 jaW cyI jbC jdj cyI jgv) := by rw [ef15]; exact hD
      obtain ⟨x16, ex16⟩ : ∃ y : Int32, y = l2 + 1 := ⟨_, rfl⟩
      have hw := hw x16 ex16
      refine lv_iinc (v := x16) (lv' := [(2, .int x16), (0, .ref a0)]) hx hb (qaa qjm 3 rfl) hl (k := 1) rfl (by rw [ex16]; rfl) (by decide) rfl (fun ls hl => ?_)
      refine lv_goto (tgt := 46) hx hb (qaa qjm 4 rfl) (by decide) ?_
      exact ih _ _ _ jbd ja9 jgt jgo jbx jcP jb8 jbK f15 jbh jh9 jgv x16 hP hD hS (lv_sub hl [1, 0] rfl) hw
set_option maxHeartbeats 4000000 in
set_option maxRecDepth 100000 in
theorem q7W {p : Program} {l : Launch} {e : Env} {s : State} {m : MethodId} {args : Array Value} {below : List Frame} {meth : Method} {c : Code} {A : Nat → Prop} (dC : Nat → ClassId) (dI : Nat → Nat → Nat) (cyB cyI cyJ cyP : ClassId) (a0 jaQ jjr jaW jdj : Nat) (jal jam jax jao ja6 jaV ja8 jae jag jaf ja4 jaP jaw jaI jaZ jaG jaS jan jaU jaE jar jaL jah jaB jaa jaz jaH jab ja2 z0_s jaq jat jau jav jaj jas jaJ jak jad jay jac : Value) (jaN : Int32) (jbC : NI) (Q : Int32 → Int32 → NI → Int32 → Int32 → Int32 → Int32 → Int32 → Int32 → NI → Int32 → Int32 → NI → Prop) (C0 : cfx p s m args meth c cX11_book (some .int) wsX11_book RX11 6 A (dC, dI) (kT cyB cyI cyJ cyP)) : ∀ (H : Heap) (locs : List Loc) (ls : Array Slot) (jbd : Int32) (ja9 : NI) (jgt jgo jbx jcP jb8 jbK : Int32) (jlJ : NI) (jbh jh9 : Int32) (jgv : NI) (l1 s1 : Int32), va_P (dC, dI) vwCl (qh1 a0 jbd jaQ jgt jbx jcP jb8 jbh jbK jgo jaW jal jam jax jao ja6 jaV ja8 jae jag jaf jaN ja4 jaP jaw jaI jaZ jaG jaS jan jaU jaE jar jaL jah jaB jaa jaz jaH jab ja2 z0_s jaq jjr jdj jh9 jat jau jav jaj jas jaJ jak jad jay jac jaQ cyI ja9 jjr cyI jlJ jaW cyI jbC jdj cyI jgv) H → va_D A (qh1 a0 jbd jaQ jgt jbx jcP jb8 jbh jbK jgo jaW jal jam jax jao ja6 jaV ja8 jae jag jaf jaN ja4 jaP jaw jaI jaZ jaG jaS jan jaU jaE jar jaL jah jaB jaa jaz jaH jab ja2 z0_s jaq jjr jdj jh9 jat jau jav jaj jas jaJ jak jad jay jac jaQ cyI ja9 jjr cyI jlJ jaW cyI jbC jdj cyI jgv) → va_S A s.heap H locs → lv_has ls 6 [(0, .ref a0), (1, .int l1)] → qTQ jaN jbC Q jbd ja9 jgt jgo jbx jcP jb8 jbK jlJ jbh jh9 jgv l1 s1 → W p l e (headSpec wsX11_book ({ frames := 2, cells := 0, slots := 0, locals := 47 })).room s m args below meth c H locs 0 0 (MQ below (va_Qi (fun (r : Int32) (u : Int32 × NI × Int32 × Int32 × Int32 × Int32 × Int32 × Int32 × NI × Int32 × Int32 × NI) => Q r u.1 u.2.1 u.2.2.1 u.2.2.2.1 u.2.2.2.2.1 u.2.2.2.2.2.1 u.2.2.2.2.2.2.1 u.2.2.2.2.2.2.2.1 u.2.2.2.2.2.2.2.2.1 u.2.2.2.2.2.2.2.2.2.1 u.2.2.2.2.2.2.2.2.2.2.1 u.2.2.2.2.2.2.2.2.2.2.2) (cB (dC, dI) (kT cyB cyI cyJ cyP) A (fun u : Int32 × NI × Int32 × Int32 × Int32 × Int32 × Int32 × Int32 × NI × Int32 × Int32 × NI => ((qh1 a0 u.1 jaQ u.2.2.1 u.2.2.2.2.1 u.2.2.2.2.2.1 u.2.2.2.2.2.2.1 u.2.2.2.2.2.2.2.2.2.1 u.2.2.2.2.2.2.2.1 u.2.2.2.1 jaW jal jam jax jao ja6 jaV ja8 jae jag jaf jaN ja4 jaP jaw jaI jaZ jaG jaS jan jaU jaE jar jaL jah jaB jaa jaz jaH jab ja2 z0_s jaq jjr jdj u.2.2.2.2.2.2.2.2.2.2.1 jat jau jav jaj jas jaJ jak jad jay jac jaQ cyI u.2.1 jjr cyI u.2.2.2.2.2.2.2.2.1 jaW cyI jbC jdj cyI u.2.2.2.2.2.2.2.2.2.2.2) : va_W))) A) args s 0 0 A) (F0 m 29 ls [.int s1, .ref a0]) := by
  obtain ⟨hx, hb, hr, hts, hown, hlocks, hml, hA, hK, hNw⟩ := id C0
  intro H locs ls jbd ja9 jgt jgo jbx jcP jb8 jbK jlJ jbh jh9 jgv l1 s1 hP hD hS hl hw
  refine lv_iconst (v := 1) hx hb (qaa qkw 0 rfl) (by decide) ?_
  refine lv_iconst (v := 1) hx hb (qaa qkw 1 rfl) (by decide) ?_
  obtain ⟨hCc, hPc, hDc, hFc⟩ := qac (ws' := (qa7J a0 jbd jaQ jgt jbx jcP jb8 jbh jbK jgo jaW jal jam jax jao ja6 jaV ja8 jae jag jaf jaN ja4 jaP jaw jaI jaZ jaG jaS jan jaU jaE jar jaL jah jaB jaa jaz jaH jab ja2 z0_s jaq jjr jdj jh9 jat jau jav jaj jas jaJ jak jad jay jac jaQ cyI ja9)) hP hD hS hA [0, 1] (by decide +kernel) rfl
  refine va_calli (va_runV (As := [.int s1, .int 1, .int 1]) (rest := []) ⟨hx, hb, hml, hown, hts⟩ (qkE l dC dI cyB cyI cyJ cyP a0 jaQ H.size (.int jgt) (.int jbx) (.int jcP) (.int jb8) (.int jbh) (.int jbK) (.int jgo) (.ref jaW) (jal) (jam) (jax) (jao) (ja6) (jaV) (ja8) (jae) (jag) (jaf) (.int jaN) (ja4) (jaP) (jaw) (jaI) (jaZ) (jaG) (jaS) (jan) (jaU) (jaE) (jar) (jaL) (jah) (jaB) (jaa) (jaz) (jaH) (jab) (ja2) (z0_s) (jaq) (.ref jjr) (.ref jdj) (.int jh9) (jat) (jau) (jav) (jaj) (jas) (jaJ) (jak) (jad) (jay) (jac) jbd ja9 s1 1 1 hw) (cwV 3 hts gX11_book_X11_may rfl rfl rfl (by decide +kernel) ⟨nbq rfl, nbq rfl⟩) ⟨qab, va_recv (q := (RX11, TX11, 55)) hK hPc (ci := 11) (q0 := 0) rfl rfl, qae hPc hK hDc hNw⟩ rfl rfl hl.1 rfl (lv_room (nbq rfl)) (qaa qkw 2 rfl) ⟨nbq rfl, nbq rfl⟩) hS (fun q _ h => hFc q h) hFc (fun r6 u t H1 locs ht hvm hw hB hz1 hk1 hS => ?_)
  obtain ⟨x4, f5⟩ := u
  obtain ⟨hP1, hK1, hD1⟩ := hB
  rw [ht] at hP1
  obtain ⟨hP, hD⟩ := qad (wr := [(jjr, .inl (cyI, 8, .inl jlJ)), (jaW, .inl (cyI, 600, .inl jbC)), (jdj, .inl (cyI, 8, .inl jgv))]) (w1 := (qa7J a0 x4 jaQ jgt jbx jcP jb8 jbh jbK jgo jaW jal jam jax jao ja6 jaV ja8 jae jag jaf jaN ja4 jaP jaw jaI jaZ jaG jaS jan jaU jaE jar jaL jah jaB jaa jaz jaH jab ja2 z0_s jaq jjr jdj jh9 jat jau jav jaj jas jaJ jak jad jay jac jaQ cyI f5)) (wn := (qh1 a0 x4 jaQ jgt jbx jcP jb8 jbh jbK jgo jaW jal jam jax jao ja6 jaV ja8 jae jag jaf jaN ja4 jaP jaw jaI jaZ jaG jaS jan jaU jaE jar jaL jah jaB jaa jaz jaH jab ja2 z0_s jaq jjr jdj jh9 jat jau jav jaj jas jaJ jak jad jay jac jaQ cyI f5 jjr cyI jlJ jaW cyI jbC jdj cyI jgv)) hP hD [0, 1] [2, 3, 4] [3, 4, 0, 1, 2] hCc rfl (by decide +kernel) (by decide +kernel) (by decide +kernel) rfl hk1 hFc hP1 hD1
  generalize H1 = H at hP hS ⊢
  refine lv_if_ne (tgt := 39) hx hb (qaa qkw 3 rfl) (by decide) (fun c7 => ?_) (fun c7 => ?_)
  · have hw := hw.1 c7
    refine lv_aload_n hx hb (qaa qkw 6 rfl) rfl (lv_at hl 0 rfl) ?_
    refine lv_iload_n hx hb (qaa qkw 7 rfl) rfl (lv_at hl 1 rfl) ?_
    obtain ⟨hCc, hPc, hDc, hFc⟩ := qac (ws' := (qNg a0 x4 jaQ jgt jbx jcP jb8 jbh jbK jgo jaW jal jam jax jao ja6 jaV ja8 jae jag jaf jaN ja4 jaP jaw jaI jaZ jaG jaS jan jaU jaE jar jaL jah jaB jaa jaz jaH jab ja2 z0_s jaq jjr jdj jh9 jat jau jav jaj jas jaJ jak jad jay jac)) hP hD hS hA [0] (by decide +kernel) rfl
    refine va_callv (va_runV (As := [.int l1]) (rest := []) ⟨hx, hb, hml, hown, hts⟩ (qN9 l dC dI cyB cyI cyJ cyP a0 H.size (.int x4) (.ref jaQ) (.int jbh) (.ref jaW) (jal) (jam) (jax) (jao) (ja6) (jaV) (ja8) (jae) (jag) (jaf) (.int jaN) (ja4) (jaP) (jaw) (jaI) (jaZ) (jaG) (jaS) (jan) (jaU) (jaE) (jar) (jaL) (jah) (jaB) (jaa) (jaz) (jaH) (jab) (ja2) (z0_s) (jaq) (.ref jjr) (.ref jdj) (.int jh9) (jat) (jau) (jav) (jaj) (jas) (jaJ) (jak) (jad) (jay) (jac) jgt jgo jbx jcP jb8 jbK l1 hw) (cwV 1 hts gX11_book_X11_begins rfl rfl rfl (by decide +kernel) ⟨nbq rfl, nbq rfl⟩) ⟨qab, va_recv (q := (RX11, TX11, 55)) hK hPc (ci := 11) (q0 := 0) rfl rfl, qae hPc hK hDc hNw⟩ rfl rfl hl.1 rfl (lv_room (nbq rfl)) (qaa qkw 8 rfl) ⟨nbq rfl, nbq rfl⟩) hS (fun q _ h => hFc q h) hFc (fun u t H1 locs ht hvm hw hB hz1 hk1 hS => ?_)
    obtain ⟨x8, x9, x10, x11, x12, x13⟩ := u
    obtain ⟨hP1, hK1, hD1⟩ := hB
    rw [ht] at hP1
    obtain ⟨hP, hD⟩ := qad (wr := (qal5 jaQ cyI f5 jjr cyI jlJ jaW cyI jbC jdj cyI jgv)) (w1 := (qNg a0 x4 jaQ x8 x10 x11 x12 jbh x13 x9 jaW jal jam jax jao ja6 jaV ja8 jae jag jaf jaN ja4 jaP jaw jaI jaZ jaG jaS jan jaU jaE jar jaL jah jaB jaa jaz jaH jab ja2 z0_s jaq jjr jdj jh9 jat jau jav jaj jas jaJ jak jad jay jac)) (wn := (qh1 a0 x4 jaQ x8 x10 x11 x12 jbh x13 x9 jaW jal jam jax jao ja6 jaV ja8 jae jag jaf jaN ja4 jaP jaw jaI jaZ jaG jaS jan jaU jaE jar jaL jah jaB jaa jaz jaH jab ja2 z0_s jaq jjr jdj jh9 jat jau jav jaj jas jaJ jak jad jay jac jaQ cyI f5 jjr cyI jlJ jaW cyI jbC jdj cyI jgv)) hP hD [0] [1, 2, 3, 4] [4, 0, 1, 2, 3] hCc rfl (by decide +kernel) (by decide +kernel) (by decide +kernel) rfl hk1 hFc hP1 hD1
    generalize H1 = H at hP hS ⊢
    refine lv_iconst (v := 0) hx hb (qaa qkw 9 rfl) (by decide) ?_
    refine lv_istore_n (lv' := [(2, .int 0), (0, .ref a0), (1, .int l1)]) hx hb (qaa qkw 10 rfl) rfl hl (by decide) rfl (fun ls hl => ?_)
    obtain ⟨n9, hw⟩ := hw
    exact qaE4 dC dI cyB cyI cyJ cyP a0 jaQ jjr jaW jdj jal jam jax jao ja6 jaV ja8 jae jag jaf ja4 jaP jaw jaI jaZ jaG jaS jan jaU jaE jar jaL jah jaB jaa jaz jaH jab ja2 z0_s jaq jat jau jav jaj jas jaJ jak jad jay jac jaN jbC Q C0 n9 _ _ _ x4 f5 x8 x9 x10 x11 x12 x13 jlJ jbh jh9 jgv 0 hP hD hS (lv_sub hl [1, 0] rfl) hw
  · have hw := hw.2 c7
    refine lv_iconst (v := 0) hx hb (qaa qkw 4 rfl) (by decide) ?_
    exact ((W.iret (v := 0) hx hb hr (fun t ht hW => ⟨⟨0, (x4, f5, jgt, jgo, jbx, jcP, jb8, jbK, jlJ, jbh, jh9, jgv), rfl, hw, by rw [ht]; exact hP, va_K.moved hW.alike hK, hD⟩, hS.F ht⟩) hS.2.2 (qaa qkw 5 rfl)))
set_option maxHeartbeats 4000000 in
set_option maxRecDepth 100000 in
theorem qTL {p : Program} {l : Launch} {e : Env} {s : State} {m : MethodId} {args : Array Value} {below : List Frame} {meth : Method} {c : Code} {A : Nat → Prop} (dC : Nat → ClassId) (dI : Nat → Nat → Nat) (cyB cyI cyJ cyP : ClassId) (a0 jaQ jjr jaW jdj : Nat) (jal jam jax jao ja6 jaV ja8 jae jag jaf ja4 jaP jaw jaI jaZ jaG jaS jan jaU jaE jar jaL jah jaB jaa jaz jaH jab ja2 z0_s jaq jat jau jav jaj jas jaJ jak jad jay jac : Value) (jaN : Int32) (jbC : NI) (Q : Int32 → Int32 → NI → Int32 → Int32 → Int32 → Int32 → Int32 → Int32 → NI → Int32 → Int32 → NI → Prop) (C0 : cfx p s m args meth c cX11_book (some .int) wsX11_book RX11 6 A (dC, dI) (kT cyB cyI cyJ cyP)) : ∀ (H : Heap) (locs : List Loc) (ls : Array Slot) (jbd : Int32) (ja9 : NI) (jgt jgo jbx jcP jb8 jbK : Int32) (jlJ : NI) (jbh jh9 : Int32) (jgv : NI) (l1 : Int32), va_P (dC, dI) vwCl (qh1 a0 jbd jaQ jgt jbx jcP jb8 jbh jbK jgo jaW jal jam jax jao ja6 jaV ja8 jae jag jaf jaN ja4 jaP jaw jaI jaZ jaG jaS jan jaU jaE jar jaL jah jaB jaa jaz jaH jab ja2 z0_s jaq jjr jdj jh9 jat jau jav jaj jas jaJ jak jad jay jac jaQ cyI ja9 jjr cyI jlJ jaW cyI jbC jdj cyI jgv) H → va_D A (qh1 a0 jbd jaQ jgt jbx jcP jb8 jbh jbK jgo jaW jal jam jax jao ja6 jaV ja8 jae jag jaf jaN ja4 jaP jaw jaI jaZ jaG jaS jan jaU jaE jar jaL jah jaB jaa jaz jaH jab ja2 z0_s jaq jjr jdj jh9 jat jau jav jaj jas jaJ jak jad jay jac jaQ cyI ja9 jjr cyI jlJ jaW cyI jbC jdj cyI jgv) → va_S A s.heap H locs → lv_has ls 6 [(0, .ref a0), (1, .int l1)] → qEb jaN jbC Q jbd ja9 jgt jgo jbx jcP jb8 jbK jlJ jbh jh9 jgv l1 → W p l e (headSpec wsX11_book ({ frames := 2, cells := 0, slots := 0, locals := 47 })).room s m args below meth c H locs 0 0 (MQ below (va_Qi (fun (r : Int32) (u : Int32 × NI × Int32 × Int32 × Int32 × Int32 × Int32 × Int32 × NI × Int32 × Int32 × NI) => Q r u.1 u.2.1 u.2.2.1 u.2.2.2.1 u.2.2.2.2.1 u.2.2.2.2.2.1 u.2.2.2.2.2.2.1 u.2.2.2.2.2.2.2.1 u.2.2.2.2.2.2.2.2.1 u.2.2.2.2.2.2.2.2.2.1 u.2.2.2.2.2.2.2.2.2.2.1 u.2.2.2.2.2.2.2.2.2.2.2) (cB (dC, dI) (kT cyB cyI cyJ cyP) A (fun u : Int32 × NI × Int32 × Int32 × Int32 × Int32 × Int32 × Int32 × NI × Int32 × Int32 × NI => ((qh1 a0 u.1 jaQ u.2.2.1 u.2.2.2.2.1 u.2.2.2.2.2.1 u.2.2.2.2.2.2.1 u.2.2.2.2.2.2.2.2.2.1 u.2.2.2.2.2.2.2.1 u.2.2.2.1 jaW jal jam jax jao ja6 jaV ja8 jae jag jaf jaN ja4 jaP jaw jaI jaZ jaG jaS jan jaU jaE jar jaL jah jaB jaa jaz jaH jab ja2 z0_s jaq jjr jdj u.2.2.2.2.2.2.2.2.2.2.1 jat jau jav jaj jas jaJ jak jad jay jac jaQ cyI u.2.1 jjr cyI u.2.2.2.2.2.2.2.2.1 jaW cyI jbC jdj cyI u.2.2.2.2.2.2.2.2.2.2.2) : va_W))) A) args s 0 0 A) (F0 m 28 ls [.ref a0]) := by
  obtain ⟨hx, hb, hr, hts, hown, hlocks, hml, hA, hK, hNw⟩ := id C0
  intro H locs ls jbd ja9 jgt jgo jbx jcP jb8 jbK jlJ jbh jh9 jgv l1 hP hD hS hl hw
  refine lv_iconst (v := 0) hx hb (qaa qmD 15 rfl) (by decide) ?_
  exact q7W dC dI cyB cyI cyJ cyP a0 jaQ jjr jaW jdj jal jam jax jao ja6 jaV ja8 jae jag jaf ja4 jaP jaw jaI jaZ jaG jaS jan jaU jaE jar jaL jah jaB jaa jaz jaH jab ja2 z0_s jaq jat jau jav jaj jas jaJ jak jad jay jac jaN jbC Q C0 _ _ _ jbd ja9 jgt jgo jbx jcP jb8 jbK jlJ jbh jh9 jgv l1 0 hP hD hS (lv_sub hl [0, 1] rfl) hw
set_option maxHeartbeats 4000000 in
set_option maxRecDepth 100000 in
theorem qaXG (l : Launch) (dC : Nat → ClassId) (dI : Nat → Nat → Nat) (cyB cyI cyJ cyP : ClassId) (a0 jaQ jjr jaW jdj sz : Nat) (jal jam jax jao ja6 jaV ja8 jae jag jaf ja4 jaP jaw jaI jaZ jaG jaS jan jaU jaE jar jaL jah jaB jaa jaz jaH jab ja2 z0_s jaq jat jau jav jaj jas jaJ jak jad jay jac : Value) (jaN : Int32) (jbC : NI) (jbd : Int32) (ja9 : NI) (jgt jgo jbx jcP jb8 jbK : Int32) (jlJ : NI) (jbh jh9 : Int32) (jgv : NI) (p1 : Int32) {Q : Int32 → Int32 → NI → Int32 → Int32 → Int32 → Int32 → Int32 → Int32 → NI → Int32 → Int32 → NI → Prop} (hw : qabu jaN jbC jbd ja9 jgt jgo jbx jcP jb8 jbK jlJ jbh jh9 jgv p1 Q) : Met l yX11_book wsX11_book ({ frames := 2, cells := 0, slots := 0, locals := 47 }) (va_Pc [.ref a0, .int p1] (cPc (dC, dI) (kT cyB cyI cyJ cyP) (qh1 a0 jbd jaQ jgt jbx jcP jb8 jbh jbK jgo jaW jal jam jax jao ja6 jaV ja8 jae jag jaf jaN ja4 jaP jaw jaI jaZ jaG jaS jan jaU jaE jar jaL jah jaB jaa jaz jaH jab ja2 z0_s jaq jjr jdj jh9 jat jau jav jaj jas jaJ jak jad jay jac jaQ cyI ja9 jjr cyI jlJ jaW cyI jbC jdj cyI jgv) sz)) (va_Qi (fun (r : Int32) (u : Int32 × NI × Int32 × Int32 × Int32 × Int32 × Int32 × Int32 × NI × Int32 × Int32 × NI) => Q r u.1 u.2.1 u.2.2.1 u.2.2.2.1 u.2.2.2.2.1 u.2.2.2.2.2.1 u.2.2.2.2.2.2.1 u.2.2.2.2.2.2.2.1 u.2.2.2.2.2.2.2.2.1 u.2.2.2.2.2.2.2.2.2.1 u.2.2.2.2.2.2.2.2.2.2.1 u.2.2.2.2.2.2.2.2.2.2.2) (cB (dC, dI) (kT cyB cyI cyJ cyP) (va_A (qh1 a0 jbd jaQ jgt jbx jcP jb8 jbh jbK jgo jaW jal jam jax jao ja6 jaV ja8 jae jag jaf jaN ja4 jaP jaw jaI jaZ jaG jaS jan jaU jaE jar jaL jah jaB jaa jaz jaH jab ja2 z0_s jaq jjr jdj jh9 jat jau jav jaj jas jaJ jak jad jay jac jaQ cyI ja9 jjr cyI jlJ jaW cyI jbC jdj cyI jgv) sz) (fun u : Int32 × NI × Int32 × Int32 × Int32 × Int32 × Int32 × Int32 × NI × Int32 × Int32 × NI => ((qh1 a0 u.1 jaQ u.2.2.1 u.2.2.2.2.1 u.2.2.2.2.2.1 u.2.2.2.2.2.2.1 u.2.2.2.2.2.2.2.2.2.1 u.2.2.2.2.2.2.2.1 u.2.2.2.1 jaW jal jam jax jao ja6 jaV ja8 jae jag jaf jaN ja4 jaP jaw jaI jaZ jaG jaS jan jaU jaE jar jaL jah jaB jaa jaz jaH jab ja2 z0_s jaq jjr jdj u.2.2.2.2.2.2.2.2.2.2.1 jat jau jav jaj jas jaJ jak jad jay jac jaQ cyI u.2.1 jjr cyI u.2.2.2.2.2.2.2.2.1 jaW cyI jbC jdj cyI u.2.2.2.2.2.2.2.2.2.2.2) : va_W))) (va_A (qh1 a0 jbd jaQ jgt jbx jcP jb8 jbh jbK jgo jaW jal jam jax jao ja6 jaV ja8 jae jag jaf jaN ja4 jaP jaw jaI jaZ jaG jaS jan jaU jaE jar jaL jah jaB jaa jaz jaH jab ja2 z0_s jaq jjr jdj jh9 jat jau jav jaj jas jaJ jak jad jay jac jaQ cyI ja9 jjr cyI jlJ jaW cyI jbC jdj cyI jgv) sz)) 0 0 (va_A (qh1 a0 jbd jaQ jgt jbx jcP jb8 jbh jbK jgo jaW jal jam jax jao ja6 jaV ja8 jae jag jaf jaN ja4 jaP jaw jaI jaZ jaG jaS jan jaU jaE jar jaL jah jaB jaa jaz jaH jab ja2 z0_s jaq jjr jdj jh9 jat jau jav jaj jas jaJ jak jad jay jac jaQ cyI ja9 jjr cyI jlJ jaW cyI jbC jdj cyI jgv) sz) := by
  refine Met.ofW (cc := cX11_book) (maxL := 6) (ret := (some .int)) (by decide) rfl ?_
  intro p e s m args below meth c s₁ B hml hv
  obtain ⟨rfl, hsz, hP, hK, hD0, hNw⟩ := hv
  have hx := B.exec
  have hb := B.bytes
  have hr := B.returns
  have hts := atoms_spec (ws := wsX11_book) B.pre
  have hown : s.vm.findClass RX11 = some m.cls := findClass_of_methodNamed B.named
  have hlocks := B.notSynchronized
  subst hsz
  have hD := hD0.self (sz := s.heap.size)
  generalize hAe : va_A (qh1 a0 jbd jaQ jgt jbx jcP jb8 jbh jbK jgo jaW jal jam jax jao ja6 jaV ja8 jae jag jaf jaN ja4 jaP jaw jaI jaZ jaG jaS jan jaU jaE jar jaL jah jaB jaa jaz jaH jab ja2 z0_s jaq jjr jdj jh9 jat jau jav jaj jas jaJ jak jad jay jac jaQ cyI ja9 jjr cyI jlJ jaW cyI jbC jdj cyI jgv) s.heap.size = A at hD ⊢
  have hA : ∀ q : Nat, s.heap.size ≤ q → A q := fun q h => by rw [← hAe]; exact Or.inr h
  have hS : va_S A s.heap s.heap [] := va_S.rf
  have hP : va_P (dC, dI) vwCl (qh1 a0 jbd jaQ jgt jbx jcP jb8 jbh jbK jgo jaW jal jam jax jao ja6 jaV ja8 jae jag jaf jaN ja4 jaP jaw jaI jaZ jaG jaS jan jaU jaE jar jaL jah jaB jaa jaz jaH jab ja2 z0_s jaq jjr jdj jh9 jat jau jav jaj jas jaJ jak jad jay jac jaQ cyI ja9 jjr cyI jlJ jaW cyI jbC jdj cyI jgv) s.heap := hP
  have hl := lv_entry ([.ref a0, .int p1]) (n := 6) (nbq rfl)
  rw [lg_entry_eq]
  generalize (lg_sl ([.ref a0, .int p1]) ++ List.replicate (6 - (lg_sl ([.ref a0, .int p1])).length) Slot.unset).toArray = ls at hl ⊢
  have hl : lv_has ls 6 [(0, .ref a0), (1, .int p1)] := hl
  have C0 : cfx p s m _ meth c cX11_book (some .int) wsX11_book RX11 6 A (dC, dI) (kT cyB cyI cyJ cyP) := ⟨hx, hb, hr, hts, hown, hlocks, hml, hA, hK, hNw⟩
  clear hAe
  obtain ⟨H, hH⟩ : ∃ H, H = s.heap := ⟨_, rfl⟩
  rw [← hH] at hP ⊢
  have hS : va_S A s.heap H [] := by rw [hH]; exact va_S.rf
  have hS := hS
  refine lv_aload_n hx hb (qaa qmD 0 rfl) rfl (lv_at hl 0 rfl) ?_
  refine lv_iconst (v := 0) hx hb (qaa qmD 1 rfl) (by decide) ?_
  refine va_put (D := (dC, dI)) (ci := 11) (v := .int 0) (ty := .int) (C := RX11) (T := TX11) (N := 55) hx hb hts qpa tyX11 tyX11_ok nmX11 hown hK hP hD hS 0 rfl rfl 0 (by decide) (hts _ qaJM) (fun _ h9 => h9) rfl (by decide +kernel) rfl rfl (nbq rfl) (qaa qmD 2 rfl) (fun H locs hP hD hS => ?_)
  have hP : va_P (dC, dI) vwCl (qh1 a0 0 jaQ jgt jbx jcP jb8 jbh jbK jgo jaW jal jam jax jao ja6 jaV ja8 jae jag jaf jaN ja4 jaP jaw jaI jaZ jaG jaS jan jaU jaE jar jaL jah jaB jaa jaz jaH jab ja2 z0_s jaq jjr jdj jh9 jat jau jav jaj jas jaJ jak jad jay jac jaQ cyI ja9 jjr cyI jlJ jaW cyI jbC jdj cyI jgv) H := hP
  have hD : va_D A (qh1 a0 0 jaQ jgt jbx jcP jb8 jbh jbK jgo jaW jal jam jax jao ja6 jaV ja8 jae jag jaf jaN ja4 jaP jaw jaI jaZ jaG jaS jan jaU jaE jar jaL jah jaB jaa jaz jaH jab ja2 z0_s jaq jjr jdj jh9 jat jau jav jaj jas jaJ jak jad jay jac jaQ cyI ja9 jjr cyI jlJ jaW cyI jbC jdj cyI jgv) := hD
  refine lv_aload_n hx hb (qaa qmD 3 rfl) rfl (lv_at hl 0 rfl) ?_
  refine lv_iload_n hx hb (qaa qmD 4 rfl) rfl (lv_at hl 1 rfl) ?_
  refine lv_if_lt (tgt := 28) hx hb (qaa qmD 5 rfl) (by decide) (fun c1 => ?_) (fun c1 => ?_)
  · have hw := hw.1 c1
    exact qTL dC dI cyB cyI cyJ cyP a0 jaQ jjr jaW jdj jal jam jax jao ja6 jaV ja8 jae jag jaf ja4 jaP jaw jaI jaZ jaG jaS jan jaU jaE jar jaL jah jaB jaa jaz jaH jab ja2 z0_s jaq jat jau jav jaj jas jaJ jak jad jay jac jaN jbC Q C0 _ _ _ 0 ja9 jgt jgo jbx jcP jb8 jbK jlJ jbh jh9 jgv p1 hP hD hS (lv_sub hl [0, 1] rfl) hw
  · have hw := hw.2 c1
    refine lv_iload_n hx hb (qaa qmD 6 rfl) rfl (lv_at hl 1 rfl) ?_
    refine lv_aload_n hx hb (qaa qmD 7 rfl) rfl (lv_at hl 0 rfl) ?_
    refine va_get (D := (dC, dI)) (ci := 11) (v := .int jgt) (C := RX11) (T := TX11) (N := 55) hx hb hts qpa hown hK hP 0 rfl rfl 2 (by decide) (hts _ qauJ) (fun _ h9 => h9) rfl (qaa qmD 8 rfl) ?_
    refine lv_icmp_gt (tgt := 28) hx hb (qaa qmD 9 rfl) (by decide) (fun c2 => ?_) (fun c2 => ?_)
    · have hw := hw.1 c2
      exact qTL dC dI cyB cyI cyJ cyP a0 jaQ jjr jaW jdj jal jam jax jao ja6 jaV ja8 jae jag jaf ja4 jaP jaw jaI jaZ jaG jaS jan jaU jaE jar jaL jah jaB jaa jaz jaH jab ja2 z0_s jaq jat jau jav jaj jas jaJ jak jad jay jac jaN jbC Q C0 _ _ _ 0 ja9 jgt jgo jbx jcP jb8 jbK jlJ jbh jh9 jgv p1 hP hD hS (lv_sub hl [0, 1] rfl) hw
    · have hw := hw.2 c2
      refine lv_iload_n hx hb (qaa qmD 10 rfl) rfl (lv_at hl 1 rfl) ?_
      refine lv_bipush (v := 60) hx hb (qaa qmD 11 rfl) (by decide) ?_
      refine lv_icmp_gt (tgt := 28) hx hb (qaa qmD 12 rfl) (by decide) (fun c3 => ?_) (fun c3 => ?_)
      · have hw := hw.1 c3
        exact qTL dC dI cyB cyI cyJ cyP a0 jaQ jjr jaW jdj jal jam jax jao ja6 jaV ja8 jae jag jaf ja4 jaP jaw jaI jaZ jaG jaS jan jaU jaE jar jaL jah jaB jaa jaz jaH jab ja2 z0_s jaq jat jau jav jaj jas jaJ jak jad jay jac jaN jbC Q C0 _ _ _ 0 ja9 jgt jgo jbx jcP jb8 jbK jlJ jbh jh9 jgv p1 hP hD hS (lv_sub hl [0, 1] rfl) hw
      · have hw := hw.2 c3
        refine lv_iconst (v := 1) hx hb (qaa qmD 13 rfl) (by decide) ?_
        refine lv_goto (tgt := 29) hx hb (qaa qmD 14 rfl) (by decide) ?_
        exact q7W dC dI cyB cyI cyJ cyP a0 jaQ jjr jaW jdj jal jam jax jao ja6 jaV ja8 jae jag jaf ja4 jaP jaw jaI jaZ jaG jaS jan jaU jaE jar jaL jah jaB jaa jaz jaH jab ja2 z0_s jaq jat jau jav jaj jas jaJ jak jad jay jac jaN jbC Q C0 _ _ _ 0 ja9 jgt jgo jbx jcP jb8 jbK jlJ jbh jh9 jgv p1 1 hP hD hS (lv_sub hl [0, 1] rfl) hw
set_option maxHeartbeats 4000000 in
set_option maxRecDepth 100000 in
theorem q76 {p : Program} {l : Launch} {e : Env} {s : State} {m : MethodId} {args : Array Value} {below : List Frame} {meth : Method} {c : Code} {A : Nat → Prop} (dC : Nat → ClassId) (dI : Nat → Nat → Nat) (cyB cyI cyJ cyP : ClassId) (Q : Int32 → Prop) (C0 : cfx p s m args meth c cX11_both (some .int) wsX11_both RX11 3 A (dC, dI) (kT cyB cyI cyJ cyP)) : ∀ (H : Heap) (locs : List Loc) (ls : Array Slot) (l0 l1 l2 : Int32), va_P (dC, dI) vwCl [] H → va_D A [] → va_S A s.heap H locs → lv_has ls 3 [(0, .int l0), (1, .int l1), (2, .int l2)] → qUx Q l0 l1 l2 → W p l e (headSpec wsX11_both ({ frames := 0, cells := 0, slots := 0, locals := 0 })).room s m args below meth c H locs 0 0 (MQ below (va_Qi (fun (r : Int32) (_ : Unit) => Q r ) (cB (dC, dI) (kT cyB cyI cyJ cyP) A (fun u : Unit => ([] : va_W))) A) args s 0 0 A) (F0 m 38 ls []) := by
  obtain ⟨hx, hb, hr, hts, hown, hlocks, hml, hA, hK, hNw⟩ := id C0
  intro H locs ls l0 l1 l2 hP hD hS hl hw
  refine lv_iload_n hx hb (qaa qjc 7 rfl) rfl (lv_at hl 2 rfl) ?_
  refine lv_if_ne (tgt := 46) hx hb (qaa qjc 8 rfl) (by decide) (fun c7 => ?_) (fun c7 => ?_)
  · have hw := hw.1 c7
    refine lv_iload_n hx hb (qaa qjc 11 rfl) rfl (lv_at hl 0 rfl) ?_
    refine lv_iconst (v := 5) hx hb (qaa qjc 12 rfl) (by decide) ?_
    refine lv_icmp_ne (tgt := 57) hx hb (qaa qjc 13 rfl) (by decide) (fun c8 => ?_) (fun c8 => ?_)
    · have hw := hw.1 c8
      refine lv_iload_n hx hb (qaa qgs 2 rfl) rfl (lv_at hl 1 rfl) ?_
      refine lv_iload_n hx hb (qaa qgs 3 rfl) rfl (lv_at hl 2 rfl) ?_
      obtain ⟨hz9, hw⟩ := hw
      refine lv_irem hx hb (qaa qgs 4 rfl) hz9 ?_
      refine lv_topi (fun x9 ex9 => ?_)
      have hw := hw x9 ex9
      exact ((W.iret (v := x9) hx hb hr (fun t ht hW => ⟨⟨x9, (), rfl, hw, by rw [ht]; exact hP, va_K.moved hW.alike hK, hD⟩, hS.F ht⟩) hS.2.2 (qaa qgs 5 rfl)))
    · have hw := hw.2 c8
      refine lv_iload_n hx hb (qaa qjc 14 rfl) rfl (lv_at hl 1 rfl) ?_
      refine lv_iload_n hx hb (qaa qjc 15 rfl) rfl (lv_at hl 2 rfl) ?_
      obtain ⟨hz9, hw⟩ := hw
      refine lv_idiv hx hb (qaa qgs 0 rfl) hz9 ?_
      refine lv_topi (fun x10 ex10 => ?_)
      have hw := hw x10 ex10
      refine lv_goto (tgt := 60) hx hb (qaa qgs 1 rfl) (by decide) ?_
      exact ((W.iret (v := x10) hx hb hr (fun t ht hW => ⟨⟨x10, (), rfl, hw, by rw [ht]; exact hP, va_K.moved hW.alike hK, hD⟩, hS.F ht⟩) hS.2.2 (qaa qgs 5 rfl)))
  · have hw := hw.2 c7
    refine lv_iconst (v := 0) hx hb (qaa qjc 9 rfl) (by decide) ?_
    refine lv_goto (tgt := 60) hx hb (qaa qjc 10 rfl) (by decide) ?_
    exact ((W.iret (v := 0) hx hb hr (fun t ht hW => ⟨⟨0, (), rfl, hw, by rw [ht]; exact hP, va_K.moved hW.alike hK, hD⟩, hS.F ht⟩) hS.2.2 (qaa qgs 5 rfl)))
set_option maxHeartbeats 4000000 in
set_option maxRecDepth 100000 in
theorem q72 {p : Program} {l : Launch} {e : Env} {s : State} {m : MethodId} {args : Array Value} {below : List Frame} {meth : Method} {c : Code} {A : Nat → Prop} (dC : Nat → ClassId) (dI : Nat → Nat → Nat) (cyB cyI cyJ cyP : ClassId) (Q : Int32 → Prop) (C0 : cfx p s m args meth c cX11_both (some .int) wsX11_both RX11 3 A (dC, dI) (kT cyB cyI cyJ cyP)) : ∀ (H : Heap) (locs : List Loc) (ls : Array Slot) (l1 l2 s0 s1 : Int32), va_P (dC, dI) vwCl [] H → va_D A [] → va_S A s.heap H locs → lv_has ls 3 [(1, .int l1), (2, .int l2)] → qTk Q l1 l2 s0 s1 → W p l e (headSpec wsX11_both ({ frames := 0, cells := 0, slots := 0, locals := 0 })).room s m args below meth c H locs 0 0 (MQ below (va_Qi (fun (r : Int32) (_ : Unit) => Q r ) (cB (dC, dI) (kT cyB cyI cyJ cyP) A (fun u : Unit => ([] : va_W))) A) args s 0 0 A) (F0 m 82 ls [.int s1, .int s0]) := by
  obtain ⟨hx, hb, hr, hts, hown, hlocks, hml, hA, hK, hNw⟩ := id C0
  intro H locs ls l1 l2 s0 s1 hP hD hS hl hw
  refine lv_icmp_ne (tgt := 89) hx hb (qaa qvo 2 rfl) (by decide) (fun c12 => ?_) (fun c12 => ?_)
  · have hw := hw.1 c12
    refine lv_iload_n hx hb (qaa qvo 5 rfl) rfl (lv_at hl 1 rfl) ?_
    exact ((W.iret (v := l2) hx hb hr (fun t ht hW => ⟨⟨l2, (), rfl, hw, by rw [ht]; exact hP, va_K.moved hW.alike hK, hD⟩, hS.F ht⟩) hS.2.2 (qaa qvo 6 rfl)))
  · have hw := hw.2 c12
    refine lv_iload_n hx hb (qaa qvo 3 rfl) rfl (lv_at hl 0 rfl) ?_
    refine lv_goto (tgt := 90) hx hb (qaa qvo 4 rfl) (by decide) ?_
    exact ((W.iret (v := l1) hx hb hr (fun t ht hW => ⟨⟨l1, (), rfl, hw, by rw [ht]; exact hP, va_K.moved hW.alike hK, hD⟩, hS.F ht⟩) hS.2.2 (qaa qvo 6 rfl)))
set_option maxHeartbeats 4000000 in
set_option maxRecDepth 100000 in
theorem q7r {p : Program} {l : Launch} {e : Env} {s : State} {m : MethodId} {args : Array Value} {below : List Frame} {meth : Method} {c : Code} {A : Nat → Prop} (dC : Nat → ClassId) (dI : Nat → Nat → Nat) (cyB cyI cyJ cyP : ClassId) (Q : Int32 → Prop) (C0 : cfx p s m args meth c cX11_both (some .int) wsX11_both RX11 3 A (dC, dI) (kT cyB cyI cyJ cyP)) : ∀ (H : Heap) (locs : List Loc) (ls : Array Slot) (l0 l1 l2 s0 : Int32), va_P (dC, dI) vwCl [] H → va_D A [] → va_S A s.heap H locs → lv_has ls 3 [(0, .int l0), (1, .int l1), (2, .int l2)] → qT7 Q l0 l1 l2 s0 → W p l e (headSpec wsX11_both ({ frames := 0, cells := 0, slots := 0, locals := 0 })).room s m args below meth c H locs 0 0 (MQ below (va_Qi (fun (r : Int32) (_ : Unit) => Q r ) (cB (dC, dI) (kT cyB cyI cyJ cyP) A (fun u : Unit => ([] : va_W))) A) args s 0 0 A) (F0 m 71 ls [.int s0]) := by
  obtain ⟨hx, hb, hr, hts, hown, hlocks, hml, hA, hK, hNw⟩ := id C0
  intro H locs ls l0 l1 l2 s0 hP hD hS hl hw
  refine lv_iload_n hx hb (qaa qgs 12 rfl) rfl (lv_at hl 0 rfl) ?_
  refine lv_bipush (v := 6) hx hb (qaa qgs 13 rfl) (by decide) ?_
  refine lv_icmp_ne (tgt := 81) hx hb (qaa qgs 14 rfl) (by decide) (fun c11 => ?_) (fun c11 => ?_)
  · have hw := hw.1 c11
    refine lv_iconst (v := 0) hx hb (qaa qvo 1 rfl) (by decide) ?_
    exact q72 dC dI cyB cyI cyJ cyP Q C0 _ _ _ l1 l2 s0 0 hP hD hS (lv_sub hl [1, 2] rfl) hw
  · have hw := hw.2 c11
    refine lv_iconst (v := 1) hx hb (qaa qgs 15 rfl) (by decide) ?_
    refine lv_goto (tgt := 82) hx hb (qaa qvo 0 rfl) (by decide) ?_
    exact q72 dC dI cyB cyI cyJ cyP Q C0 _ _ _ l1 l2 s0 1 hP hD hS (lv_sub hl [1, 2] rfl) hw
set_option maxHeartbeats 4000000 in
set_option maxRecDepth 100000 in
theorem qaYm (l : Launch) (dC : Nat → ClassId) (dI : Nat → Nat → Nat) (cyB cyI cyJ cyP : ClassId) (sz : Nat) (p0 p1 p2 : Int32) {Q : Int32 → Prop} (hw : qXy p0 p1 p2 Q) : Met l yX11_both wsX11_both ({ frames := 0, cells := 0, slots := 0, locals := 0 }) (va_Pc [.int p0, .int p1, .int p2] (cPc (dC, dI) (kT cyB cyI cyJ cyP) [] sz)) (va_Qi (fun (r : Int32) (_ : Unit) => Q r ) (cB (dC, dI) (kT cyB cyI cyJ cyP) (va_A [] sz) (fun u : Unit => ([] : va_W))) (va_A [] sz)) 0 0 (va_A [] sz) := by
  refine Met.ofW (cc := cX11_both) (maxL := 3) (ret := (some .int)) (by decide) rfl ?_
  intro p e s m args below meth c s₁ B hml hv
  obtain ⟨rfl, hsz, hP, hK, hD0, hNw⟩ := hv
  have hx := B.exec
  have hb := B.bytes
  have hr := B.returns
  have hts := atoms_spec (ws := wsX11_both) B.pre
  have hown : s.vm.findClass RX11 = some m.cls := findClass_of_methodNamed B.named
  have hlocks := B.notSynchronized
  subst hsz
  have hD := hD0.self (sz := s.heap.size)
  generalize hAe : va_A [] s.heap.size = A at hD ⊢
  have hA : ∀ q : Nat, s.heap.size ≤ q → A q := fun q h => by rw [← hAe]; exact Or.inr h
  have hS : va_S A s.heap s.heap [] := va_S.rf
  have hP : va_P (dC, dI) vwCl [] s.heap := hP
  have hl := lv_entry ([.int p0, .int p1, .int p2]) (n := 3) (nbq rfl)
  rw [lg_entry_eq]
  generalize (lg_sl ([.int p0, .int p1, .int p2]) ++ List.replicate (3 - (lg_sl ([.int p0, .int p1, .int p2])).length) Slot.unset).toArray = ls at hl ⊢
  have hl : lv_has ls 3 [(0, .int p0), (1, .int p1), (2, .int p2)] := hl
  have C0 : cfx p s m _ meth c cX11_both (some .int) wsX11_both RX11 3 A (dC, dI) (kT cyB cyI cyJ cyP) := ⟨hx, hb, hr, hts, hown, hlocks, hml, hA, hK, hNw⟩
  clear hAe
  obtain ⟨H, hH⟩ : ∃ H, H = s.heap := ⟨_, rfl⟩
  rw [← hH] at hP ⊢
  have hS : va_S A s.heap H [] := by rw [hH]; exact va_S.rf
  have hS := hS
  refine lv_iload_n hx hb (qaa ql1 0 rfl) rfl (lv_at hl 0 rfl) ?_
  refine lv_iconst (v := 2) hx hb (qaa ql1 1 rfl) (by decide) ?_
  refine lv_icmp_ne (tgt := 9) hx hb (qaa ql1 2 rfl) (by decide) (fun c1 => ?_) (fun c1 => ?_)
  · have hw := hw.1 c1
    refine lv_iload_n hx hb (qaa ql1 7 rfl) rfl (lv_at hl 0 rfl) ?_
    refine lv_iconst (v := 3) hx hb (qaa ql1 8 rfl) (by decide) ?_
    refine lv_icmp_ne (tgt := 18) hx hb (qaa ql1 9 rfl) (by decide) (fun c2 => ?_) (fun c2 => ?_)
    · have hw := hw.1 c2
      refine lv_iload_n hx hb (qaa ql1 14 rfl) rfl (lv_at hl 0 rfl) ?_
      refine lv_iconst (v := 4) hx hb (qaa ql1 15 rfl) (by decide) ?_
      refine lv_icmp_ne (tgt := 27) hx hb (qaa qKM 0 rfl) (by decide) (fun c3 => ?_) (fun c3 => ?_)
      · have hw := hw.1 c3
        refine lv_iload_n hx hb (qaa qjc 1 rfl) rfl (lv_at hl 0 rfl) ?_
        refine lv_iconst (v := 5) hx hb (qaa qjc 2 rfl) (by decide) ?_
        refine lv_icmp_eq (tgt := 38) hx hb (qaa qjc 3 rfl) (by decide) (fun c4 => ?_) (fun c4 => ?_)
        · have hw := hw.1 c4
          exact q76 dC dI cyB cyI cyJ cyP Q C0 _ _ _ p0 p1 p2 hP hD hS (lv_sub hl [0, 1, 2] rfl) hw
        · have hw := hw.2 c4
          refine lv_iload_n hx hb (qaa qjc 4 rfl) rfl (lv_at hl 0 rfl) ?_
          refine lv_bipush (v := 8) hx hb (qaa qjc 5 rfl) (by decide) ?_
          refine lv_icmp_ne (tgt := 61) hx hb (qaa qjc 6 rfl) (by decide) (fun c5 => ?_) (fun c5 => ?_)
          · have hw := hw.1 c5
            refine lv_iload_n hx hb (qaa qgs 6 rfl) rfl (lv_at hl 1 rfl) ?_
            refine lv_iload_n hx hb (qaa qgs 7 rfl) rfl (lv_at hl 2 rfl) ?_
            refine lv_icmp_ge (tgt := 70) hx hb (qaa qgs 8 rfl) (by decide) (fun c6 => ?_) (fun c6 => ?_)
            · have hw := hw.1 c6
              refine lv_iconst (v := 0) hx hb (qaa qgs 11 rfl) (by decide) ?_
              exact q7r dC dI cyB cyI cyJ cyP Q C0 _ _ _ p0 p1 p2 0 hP hD hS (lv_sub hl [0, 1, 2] rfl) hw
            · have hw := hw.2 c6
              refine lv_iconst (v := 1) hx hb (qaa qgs 9 rfl) (by decide) ?_
              refine lv_goto (tgt := 71) hx hb (qaa qgs 10 rfl) (by decide) ?_
              exact q7r dC dI cyB cyI cyJ cyP Q C0 _ _ _ p0 p1 p2 1 hP hD hS (lv_sub hl [0, 1, 2] rfl) hw
          · have hw := hw.2 c5
            exact q76 dC dI cyB cyI cyJ cyP Q C0 _ _ _ p0 p1 p2 hP hD hS (lv_sub hl [0, 1, 2] rfl) hw
      · have hw := hw.2 c3
        refine lv_iload_n hx hb (qaa qKM 1 rfl) rfl (lv_at hl 1 rfl) ?_
        refine lv_iload_n hx hb (qaa qKM 2 rfl) rfl (lv_at hl 2 rfl) ?_
        refine lv_imul hx hb (qaa qKM 3 rfl) ?_
        exact ((W.iret (v := (p1 * p2)) hx hb hr (fun t ht hW => ⟨⟨(p1 * p2), (), rfl, hw, by rw [ht]; exact hP, va_K.moved hW.alike hK, hD⟩, hS.F ht⟩) hS.2.2 (qaa qjc 0 rfl)))
    · have hw := hw.2 c2
      refine lv_iload_n hx hb (qaa ql1 10 rfl) rfl (lv_at hl 1 rfl) ?_
      refine lv_iload_n hx hb (qaa ql1 11 rfl) rfl (lv_at hl 2 rfl) ?_
      refine lv_isub hx hb (qaa ql1 12 rfl) ?_
      exact ((W.iret (v := (p1 - p2)) hx hb hr (fun t ht hW => ⟨⟨(p1 - p2), (), rfl, hw, by rw [ht]; exact hP, va_K.moved hW.alike hK, hD⟩, hS.F ht⟩) hS.2.2 (qaa ql1 13 rfl)))
  · have hw := hw.2 c1
    refine lv_iload_n hx hb (qaa ql1 3 rfl) rfl (lv_at hl 1 rfl) ?_
    refine lv_iload_n hx hb (qaa ql1 4 rfl) rfl (lv_at hl 2 rfl) ?_
    refine lv_iadd hx hb (qaa ql1 5 rfl) ?_
    exact ((W.iret (v := (p1 + p2)) hx hb hr (fun t ht hW => ⟨⟨(p1 + p2), (), rfl, hw, by rw [ht]; exact hP, va_K.moved hW.alike hK, hD⟩, hS.F ht⟩) hS.2.2 (qaa ql1 6 rfl)))
theorem qaj9 : ∀ w ∈ u_ws RX11 TX11 55, w ∈ wsX11_isHare := uiM qGs qfa (by decide +kernel)
theorem qaey : (.fieldLink RX11 169 "MarchHaresModel" "hares" "I" : Cond) ∈ wsX11_isHare := qGs 520 (by decide +kernel)
set_option maxHeartbeats 4000000 in
set_option maxRecDepth 100000 in
theorem qtR (l : Launch) (dC : Nat → ClassId) (dI : Nat → Nat → Nat) (cyB cyI cyJ cyP : ClassId) (a0 jaQ sz : Nat) (jaD ja7 jby jbe jaM jaY jap jaK jal jam jax jao ja6 jaV ja8 jae jag jaf ja0 jaP jaw jaI jaZ jaG jaS jan jaU jaE jar jaL jah jaB jaa jaz jaH jab ja2 z0_s jaq jai jaO jaA jat jau jav jaj jas jaJ jak jad jay jac : Value) (jaC jbd : Int32) (ja9 : NI) (p1 p2 : Int32) {Q : Int32 → Int32 → NI → Prop} (hw : qpz jaC jbd ja9 p1 p2 Q) : Met l yX11_isHare wsX11_isHare ({ frames := 1, cells := 0, slots := 0, locals := 23 }) (va_Pc [.ref a0, .int p1, .int p2] (cPc (dC, dI) (kT cyB cyI cyJ cyP) (qMJ a0 jbd jaQ jaD ja7 jby jbe jaM jaY jap jaK jal jam jax jao ja6 jaV ja8 jae jag jaf ja0 jaC jaP jaw jaI jaZ jaG jaS jan jaU jaE jar jaL jah jaB jaa jaz jaH jab ja2 z0_s jaq jai jaO jaA jat jau jav jaj jas jaJ jak jad jay jac jaQ cyI ja9) sz)) (va_Qi (fun (r : Int32) (u : Int32 × NI) => Q r u.1 u.2) (cB (dC, dI) (kT cyB cyI cyJ cyP) (va_A (qMJ a0 jbd jaQ jaD ja7 jby jbe jaM jaY jap jaK jal jam jax jao ja6 jaV ja8 jae jag jaf ja0 jaC jaP jaw jaI jaZ jaG jaS jan jaU jaE jar jaL jah jaB jaa jaz jaH jab ja2 z0_s jaq jai jaO jaA jat jau jav jaj jas jaJ jak jad jay jac jaQ cyI ja9) sz) (fun u : Int32 × NI => ((qMJ a0 u.1 jaQ jaD ja7 jby jbe jaM jaY jap jaK jal jam jax jao ja6 jaV ja8 jae jag jaf ja0 jaC jaP jaw jaI jaZ jaG jaS jan jaU jaE jar jaL jah jaB jaa jaz jaH jab ja2 z0_s jaq jai jaO jaA jat jau jav jaj jas jaJ jak jad jay jac jaQ cyI u.2) : va_W))) (va_A (qMJ a0 jbd jaQ jaD ja7 jby jbe jaM jaY jap jaK jal jam jax jao ja6 jaV ja8 jae jag jaf ja0 jaC jaP jaw jaI jaZ jaG jaS jan jaU jaE jar jaL jah jaB jaa jaz jaH jab ja2 z0_s jaq jai jaO jaA jat jau jav jaj jas jaJ jak jad jay jac jaQ cyI ja9) sz)) 0 0 (va_A (qMJ a0 jbd jaQ jaD ja7 jby jbe jaM jaY jap jaK jal jam jax jao ja6 jaV ja8 jae jag jaf ja0 jaC jaP jaw jaI jaZ jaG jaS jan jaU jaE jar jaL jah jaB jaa jaz jaH jab ja2 z0_s jaq jai jaO jaA jat jau jav jaj jas jaJ jak jad jay jac jaQ cyI ja9) sz) := by
  refine Met.ofW (cc := cX11_isHare) (maxL := 3) (ret := (some .boolean)) (by decide) rfl ?_
  intro p e s m args below meth c s₁ B hml hv
  obtain ⟨rfl, hsz, hP, hK, hD0, hNw⟩ := hv
  have hx := B.exec
  have hb := B.bytes
  have hr := B.returns
  have hts := atoms_spec (ws := wsX11_isHare) B.pre
  have hown : s.vm.findClass RX11 = some m.cls := findClass_of_methodNamed B.named
  have hlocks := B.notSynchronized
  subst hsz
  have hD := hD0.self (sz := s.heap.size)
  generalize hAe : va_A (qMJ a0 jbd jaQ jaD ja7 jby jbe jaM jaY jap jaK jal jam jax jao ja6 jaV ja8 jae jag jaf ja0 jaC jaP jaw jaI jaZ jaG jaS jan jaU jaE jar jaL jah jaB jaa jaz jaH jab ja2 z0_s jaq jai jaO jaA jat jau jav jaj jas jaJ jak jad jay jac jaQ cyI ja9) s.heap.size = A at hD ⊢
  have hA : ∀ q : Nat, s.heap.size ≤ q → A q := fun q h => by rw [← hAe]; exact Or.inr h
  have hS : va_S A s.heap s.heap [] := va_S.rf
  have hP : va_P (dC, dI) vwCl (qMJ a0 jbd jaQ jaD ja7 jby jbe jaM jaY jap jaK jal jam jax jao ja6 jaV ja8 jae jag jaf ja0 jaC jaP jaw jaI jaZ jaG jaS jan jaU jaE jar jaL jah jaB jaa jaz jaH jab ja2 z0_s jaq jai jaO jaA jat jau jav jaj jas jaJ jak jad jay jac jaQ cyI ja9) s.heap := hP
  have hl := lv_entry ([.ref a0, .int p1, .int p2]) (n := 3) (nbq rfl)
  rw [lg_entry_eq]
  generalize (lg_sl ([.ref a0, .int p1, .int p2]) ++ List.replicate (3 - (lg_sl ([.ref a0, .int p1, .int p2])).length) Slot.unset).toArray = ls at hl ⊢
  have hl : lv_has ls 3 [(0, .ref a0), (1, .int p1), (2, .int p2)] := hl
  have C0 : cfx p s m _ meth c cX11_isHare (some .boolean) wsX11_isHare RX11 3 A (dC, dI) (kT cyB cyI cyJ cyP) := ⟨hx, hb, hr, hts, hown, hlocks, hml, hA, hK, hNw⟩
  clear hAe
  obtain ⟨H, hH⟩ : ∃ H, H = s.heap := ⟨_, rfl⟩
  rw [← hH] at hP ⊢
  have hS : va_S A s.heap H [] := by rw [hH]; exact va_S.rf
  have hS := hS
  refine lv_aload_n hx hb (qaa qn1 0 rfl) rfl (lv_at hl 0 rfl) ?_
  refine lv_iload_n hx hb (qaa qn1 1 rfl) rfl (lv_at hl 1 rfl) ?_
  refine lv_iconst (v := 0) hx hb (qaa qn1 2 rfl) (by decide) ?_
  refine lv_aload_n hx hb (qaa qn1 3 rfl) rfl (lv_at hl 0 rfl) ?_
  refine va_get (D := (dC, dI)) (ci := 11) (v := .int jaC) (C := RX11) (T := TX11) (N := 55) hx hb hts qaj9 hown hK hP 0 rfl rfl 21 (by decide) (hts _ qaey) (fun _ h9 => h9) rfl (qaa qn1 4 rfl) ?_
  refine lv_iconst (v := 1) hx hb (qaa qn1 5 rfl) (by decide) ?_
  refine lv_isub hx hb (qaa qn1 6 rfl) ?_
  obtain ⟨hCc, hPc, hDc, hFc⟩ := qac (ws' := []) hP hD hS hA [] (by decide +kernel) rfl
  refine va_calli (va_runS (As := [.int p1, .int 0, .int (jaC - 1)]) (rest := [.ref a0]) ⟨hx, hb, hml, hown, hts⟩ (qbG l dC dI cyB cyI cyJ cyP H.size p1 0 (jaC - 1) hw) (va_cwS 3 hts gX11_isHare_X11_within rfl rfl rfl (by decide +kernel) ⟨nbq rfl, nbq rfl⟩) ⟨qab, qae hPc hK hDc hNw⟩ rfl rfl hl.1 rfl (lv_room (nbq rfl)) (qaa qn1 7 rfl) ⟨nbq rfl, nbq rfl⟩) hS (fun q _ h => hFc q h) hFc (fun r1 u t H1 locs ht hvm hw hB hz1 hk1 hS => ?_)
  obtain ⟨hP1, hK1, hD1⟩ := hB
  rw [ht] at hP1
  obtain ⟨hP, hD⟩ := qah (wr := (qMJ a0 jbd jaQ jaD ja7 jby jbe jaM jaY jap jaK jal jam jax jao ja6 jaV ja8 jae jag jaf ja0 jaC jaP jaw jaI jaZ jaG jaS jan jaU jaE jar jaL jah jaB jaa jaz jaH jab ja2 z0_s jaq jai jaO jaA jat jau jav jaj jas jaJ jak jad jay jac jaQ cyI ja9)) (w1 := []) (wn := (qMJ a0 jbd jaQ jaD ja7 jby jbe jaM jaY jap jaK jal jam jax jao ja6 jaV ja8 jae jag jaf ja0 jaC jaP jaw jaI jaZ jaG jaS jan jaU jaE jar jaL jah jaB jaa jaz jaH jab ja2 z0_s jaq jai jaO jaA jat jau jav jaj jas jaJ jak jad jay jac jaQ cyI ja9)) hP hD [] [0, 1] hCc rfl (by decide +kernel) (by decide +kernel) rfl hk1 hFc hP1 hD1
  generalize H1 = H at hP hS ⊢
  refine lv_iload_n hx hb (qaa qn1 8 rfl) rfl (lv_at hl 2 rfl) ?_
  refine lv_iconst (v := 0) hx hb (qaa qn1 9 rfl) (by decide) ?_
  obtain ⟨hCc, hPc, hDc, hFc⟩ := qac (ws' := (qMJ a0 jbd jaQ jaD ja7 jby jbe jaM jaY jap jaK jal jam jax jao ja6 jaV ja8 jae jag jaf ja0 jaC jaP jaw jaI jaZ jaG jaS jan jaU jaE jar jaL jah jaB jaa jaz jaH jab ja2 z0_s jaq jai jaO jaA jat jau jav jaj jas jaJ jak jad jay jac jaQ cyI ja9)) hP hD hS hA [0, 1] (by decide +kernel) rfl
  refine va_calli (va_runV (As := [.int r1, .int p2, .int 0]) (rest := []) ⟨hx, hb, hml, hown, hts⟩ (qkE l dC dI cyB cyI cyJ cyP a0 jaQ H.size (jaD) (ja7) (jby) (jbe) (jaM) (jaY) (jap) (jaK) (jal) (jam) (jax) (jao) (ja6) (jaV) (ja8) (jae) (jag) (jaf) (ja0) (.int jaC) (jaP) (jaw) (jaI) (jaZ) (jaG) (jaS) (jan) (jaU) (jaE) (jar) (jaL) (jah) (jaB) (jaa) (jaz) (jaH) (jab) (ja2) (z0_s) (jaq) (jai) (jaO) (jaA) (jat) (jau) (jav) (jaj) (jas) (jaJ) (jak) (jad) (jay) (jac) jbd ja9 r1 p2 0 hw) (cwV 3 hts gX11_isHare_X11_may rfl rfl rfl (by decide +kernel) ⟨nbq rfl, nbq rfl⟩) ⟨qab, va_recv (q := (RX11, TX11, 55)) hK hPc (ci := 11) (q0 := 0) rfl rfl, qae hPc hK hDc hNw⟩ rfl rfl hl.1 rfl (lv_room (nbq rfl)) (qaa qn1 10 rfl) ⟨nbq rfl, nbq rfl⟩) hS (fun q _ h => hFc q h) hFc (fun r4 u t H1 locs ht hvm hw hB hz1 hk1 hS => ?_)
  obtain ⟨x2, f3⟩ := u
  obtain ⟨hP1, hK1, hD1⟩ := hB
  rw [ht] at hP1
  obtain ⟨hP, hD⟩ := qah (wr := []) (w1 := (qMJ a0 x2 jaQ jaD ja7 jby jbe jaM jaY jap jaK jal jam jax jao ja6 jaV ja8 jae jag jaf ja0 jaC jaP jaw jaI jaZ jaG jaS jan jaU jaE jar jaL jah jaB jaa jaz jaH jab ja2 z0_s jaq jai jaO jaA jat jau jav jaj jas jaJ jak jad jay jac jaQ cyI f3)) (wn := (qMJ a0 x2 jaQ jaD ja7 jby jbe jaM jaY jap jaK jal jam jax jao ja6 jaV ja8 jae jag jaf ja0 jaC jaP jaw jaI jaZ jaG jaS jan jaU jaE jar jaL jah jaB jaa jaz jaH jab ja2 z0_s jaq jai jaO jaA jat jau jav jaj jas jaJ jak jad jay jac jaQ cyI f3)) hP hD [0, 1] [] hCc rfl (by decide +kernel) (by decide +kernel) rfl hk1 hFc hP1 hD1
  generalize H1 = H at hP hS ⊢
  obtain ⟨hn9, hw⟩ := hw
  exact ((W.zret (v := r4) hx hb hr hn9 (fun t ht hW => ⟨⟨r4, (x2, f3), rfl, hw, by rw [ht]; exact hP, va_K.moved hW.alike hK, hD⟩, hS.F ht⟩) hS.2.2 (qaa qn1 11 rfl)))
theorem qCl : ∀ w ∈ u_ws RX11 TX11 55, w ∈ wsX11_lastsIn := uiM qxe qfa (by decide +kernel)
theorem q0e : (.fieldLink RX11 169 "MarchHaresModel" "hares" "I" : Cond) ∈ wsX11_lastsIn := qxe 520 (by decide +kernel)
theorem qLL : (.fieldLink RX11 68 "MarchHaresModel" "now" "[I" : Cond) ∈ wsX11_lastsIn := qxe 456 (by decide +kernel)
set_option maxHeartbeats 4000000 in
set_option maxRecDepth 100000 in
theorem qLo {p : Program} {l : Launch} {e : Env} {s : State} {m : MethodId} {args : Array Value} {below : List Frame} {meth : Method} {c : Code} {A : Nat → Prop} (dC : Nat → ClassId) (dI : Nat → Nat → Nat) (cyB cyI cyJ cyP : ClassId) (a0 jaT : Nat) (jaX jaF jaD ja7 jby jbe jaM jaY jap jaK jal jam jax jao ja6 jaV ja8 jae jag jaf ja0 jaP jaw jaI jaZ jaG jaS jan jaU jaE jar jaL jah jaB jaa jaz jaH jab z0_s jaq jai jaO jaA jat jau jav jaj jas jaJ jak jad jay jac : Value) (jaC : Int32) (jb2 : NI) (Q : Int32 → Prop) (K22 : Int32 → Int32 → Int32 → Int32 → Int32 → Int32 → Prop) (hK22 : ∀ (H : Heap) (locs : List Loc) (ls : Array Slot) (l1 l2 l3 l4 l5 l6 : Int32), va_P (dC, dI) vwCl (qnt a0 jaX jaF jaD ja7 jby jbe jaM jaY jap jaK jal jam jax jao ja6 jaV ja8 jae jag jaf ja0 jaC jaP jaw jaI jaZ jaG jaS jan jaU jaE jar jaL jah jaB jaa jaz jaH jab jaT z0_s jaq jai jaO jaA jat jau jav jaj jas jaJ jak jad jay jac jaT cyI jb2) H → va_D A (qnt a0 jaX jaF jaD ja7 jby jbe jaM jaY jap jaK jal jam jax jao ja6 jaV ja8 jae jag jaf ja0 jaC jaP jaw jaI jaZ jaG jaS jan jaU jaE jar jaL jah jaB jaa jaz jaH jab jaT z0_s jaq jai jaO jaA jat jau jav jaj jas jaJ jak jad jay jac jaT cyI jb2) → va_S A s.heap H locs → lv_has ls 9 [(0, .ref a0), (1, .int l1), (2, .int l2), (3, .int l3), (4, .int l4), (5, .int l5), (6, .int l6)] → K22 l1 l2 l3 l4 l5 l6 → W p l e (headSpec wsX11_lastsIn ({ frames := 0, cells := 0, slots := 0, locals := 0 })).room s m args below meth c H locs 0 0 (MQ below (va_Qi (fun (r : Int32) (_ : Unit) => Q r ) (cB (dC, dI) (kT cyB cyI cyJ cyP) A (fun u : Unit => ((qnt a0 jaX jaF jaD ja7 jby jbe jaM jaY jap jaK jal jam jax jao ja6 jaV ja8 jae jag jaf ja0 jaC jaP jaw jaI jaZ jaG jaS jan jaU jaE jar jaL jah jaB jaa jaz jaH jab jaT z0_s jaq jai jaO jaA jat jau jav jaj jas jaJ jak jad jay jac jaT cyI jb2) : va_W))) A) args s 0 0 A) (F0 m 22 ls [])) (C0 : cfx p s m args meth c cX11_lastsIn (some .int) wsX11_lastsIn RX11 9 A (dC, dI) (kT cyB cyI cyJ cyP)) : ∀ (H : Heap) (locs : List Loc) (ls : Array Slot) (l1 l2 l3 l4 l6 s0 s2 s3 s4 : Int32), va_P (dC, dI) vwCl (qnt a0 jaX jaF jaD ja7 jby jbe jaM jaY jap jaK jal jam jax jao ja6 jaV ja8 jae jag jaf ja0 jaC jaP jaw jaI jaZ jaG jaS jan jaU jaE jar jaL jah jaB jaa jaz jaH jab jaT z0_s jaq jai jaO jaA jat jau jav jaj jas jaJ jak jad jay jac jaT cyI jb2) H → va_D A (qnt a0 jaX jaF jaD ja7 jby jbe jaM jaY jap jaK jal jam jax jao ja6 jaV ja8 jae jag jaf ja0 jaC jaP jaw jaI jaZ jaG jaS jan jaU jaE jar jaL jah jaB jaa jaz jaH jab jaT z0_s jaq jai jaO jaA jat jau jav jaj jas jaJ jak jad jay jac jaT cyI jb2) → va_S A s.heap H locs → lv_has ls 9 [(0, .ref a0), (1, .int l1), (2, .int l2), (3, .int l3), (4, .int l4), (6, .int l6)] → qBD jaC jb2 Q K22 l1 l2 l3 l4 l6 s0 s2 s3 s4 → W p l e (headSpec wsX11_lastsIn ({ frames := 0, cells := 0, slots := 0, locals := 0 })).room s m args below meth c H locs 0 0 (MQ below (va_Qi (fun (r : Int32) (_ : Unit) => Q r ) (cB (dC, dI) (kT cyB cyI cyJ cyP) A (fun u : Unit => ((qnt a0 jaX jaF jaD ja7 jby jbe jaM jaY jap jaK jal jam jax jao ja6 jaV ja8 jae jag jaf ja0 jaC jaP jaw jaI jaZ jaG jaS jan jaU jaE jar jaL jah jaB jaa jaz jaH jab jaT z0_s jaq jai jaO jaA jat jau jav jaj jas jaJ jak jad jay jac jaT cyI jb2) : va_W))) A) args s 0 0 A) (F0 m 120 ls [.int s4, .int s3, .int s2, .ref a0, .int s0]) := by
  obtain ⟨hx, hb, hr, hts, hown, hlocks, hml, hA, hK, hNw⟩ := id C0
  intro H locs ls l1 l2 l3 l4 l6 s0 s2 s3 s4 hP hD hS hl hw
  refine lv_iload hx hb (qaa qbX 4 rfl) (lv_at hl 4 rfl) ?_
  exact False.elim hw
set_option maxHeartbeats 4000000 in
set_option maxRecDepth 100000 in
theorem qLB {p : Program} {l : Launch} {e : Env} {s : State} {m : MethodId} {args : Array Value} {below : List Frame} {meth : Method} {c : Code} {A : Nat → Prop} (dC : Nat → ClassId) (dI : Nat → Nat → Nat) (cyB cyI cyJ cyP : ClassId) (a0 jaT : Nat) (jaX jaF jaD ja7 jby jbe jaM jaY jap jaK jal jam jax jao ja6 jaV ja8 jae jag jaf ja0 jaP jaw jaI jaZ jaG jaS jan jaU jaE jar jaL jah jaB jaa jaz jaH jab z0_s jaq jai jaO jaA jat jau jav jaj jas jaJ jak jad jay jac : Value) (jaC : Int32) (jb2 : NI) (Q : Int32 → Prop) (K22 : Int32 → Int32 → Int32 → Int32 → Int32 → Int32 → Prop) (hK22 : ∀ (H : Heap) (locs : List Loc) (ls : Array Slot) (l1 l2 l3 l4 l5 l6 : Int32), va_P (dC, dI) vwCl (qnt a0 jaX jaF jaD ja7 jby jbe jaM jaY jap jaK jal jam jax jao ja6 jaV ja8 jae jag jaf ja0 jaC jaP jaw jaI jaZ jaG jaS jan jaU jaE jar jaL jah jaB jaa jaz jaH jab jaT z0_s jaq jai jaO jaA jat jau jav jaj jas jaJ jak jad jay jac jaT cyI jb2) H → va_D A (qnt a0 jaX jaF jaD ja7 jby jbe jaM jaY jap jaK jal jam jax jao ja6 jaV ja8 jae jag jaf ja0 jaC jaP jaw jaI jaZ jaG jaS jan jaU jaE jar jaL jah jaB jaa jaz jaH jab jaT z0_s jaq jai jaO jaA jat jau jav jaj jas jaJ jak jad jay jac jaT cyI jb2) → va_S A s.heap H locs → lv_has ls 9 [(0, .ref a0), (1, .int l1), (2, .int l2), (3, .int l3), (4, .int l4), (5, .int l5), (6, .int l6)] → K22 l1 l2 l3 l4 l5 l6 → W p l e (headSpec wsX11_lastsIn ({ frames := 0, cells := 0, slots := 0, locals := 0 })).room s m args below meth c H locs 0 0 (MQ below (va_Qi (fun (r : Int32) (_ : Unit) => Q r ) (cB (dC, dI) (kT cyB cyI cyJ cyP) A (fun u : Unit => ((qnt a0 jaX jaF jaD ja7 jby jbe jaM jaY jap jaK jal jam jax jao ja6 jaV ja8 jae jag jaf ja0 jaC jaP jaw jaI jaZ jaG jaS jan jaU jaE jar jaL jah jaB jaa jaz jaH jab jaT z0_s jaq jai jaO jaA jat jau jav jaj jas jaJ jak jad jay jac jaT cyI jb2) : va_W))) A) args s 0 0 A) (F0 m 22 ls [])) (C0 : cfx p s m args meth c cX11_lastsIn (some .int) wsX11_lastsIn RX11 9 A (dC, dI) (kT cyB cyI cyJ cyP)) : ∀ (H : Heap) (locs : List Loc) (ls : Array Slot) (l1 l2 l3 l4 l6 l8 s0 s2 s3 : Int32), va_P (dC, dI) vwCl (qnt a0 jaX jaF jaD ja7 jby jbe jaM jaY jap jaK jal jam jax jao ja6 jaV ja8 jae jag jaf ja0 jaC jaP jaw jaI jaZ jaG jaS jan jaU jaE jar jaL jah jaB jaa jaz jaH jab jaT z0_s jaq jai jaO jaA jat jau jav jaj jas jaJ jak jad jay jac jaT cyI jb2) H → va_D A (qnt a0 jaX jaF jaD ja7 jby jbe jaM jaY jap jaK jal jam jax jao ja6 jaV ja8 jae jag jaf ja0 jaC jaP jaw jaI jaZ jaG jaS jan jaU jaE jar jaL jah jaB jaa jaz jaH jab jaT z0_s jaq jai jaO jaA jat jau jav jaj jas jaJ jak jad jay jac jaT cyI jb2) → va_S A s.heap H locs → lv_has ls 9 [(0, .ref a0), (1, .int l1), (2, .int l2), (3, .int l3), (4, .int l4), (6, .int l6), (8, .int l8)] → qCp jaC jb2 Q K22 l1 l2 l3 l4 l6 l8 s0 s2 s3 → W p l e (headSpec wsX11_lastsIn ({ frames := 0, cells := 0, slots := 0, locals := 0 })).room s m args below meth c H locs 0 0 (MQ below (va_Qi (fun (r : Int32) (_ : Unit) => Q r ) (cB (dC, dI) (kT cyB cyI cyJ cyP) A (fun u : Unit => ((qnt a0 jaX jaF jaD ja7 jby jbe jaM jaY jap jaK jal jam jax jao ja6 jaV ja8 jae jag jaf ja0 jaC jaP jaw jaI jaZ jaG jaS jan jaU jaE jar jaL jah jaB jaa jaz jaH jab jaT z0_s jaq jai jaO jaA jat jau jav jaj jas jaJ jak jad jay jac jaT cyI jb2) : va_W))) A) args s 0 0 A) (F0 m 109 ls [.int s3, .int s2, .ref a0, .int s0]) := by
  obtain ⟨hx, hb, hr, hts, hown, hlocks, hml, hA, hK, hNw⟩ := id C0
  intro H locs ls l1 l2 l3 l4 l6 l8 s0 s2 s3 hP hD hS hl hw
  refine lv_iload hx hb (qaa qbf 15 rfl) (lv_at hl 6 rfl) ?_
  refine lv_if_ge (tgt := 118) hx hb (qaa qbX 0 rfl) (by decide) (fun c15 => ?_) (fun c15 => ?_)
  · have hw := hw.1 c15
    refine lv_iload hx hb (qaa qbX 3 rfl) (lv_at hl 6 rfl) ?_
    exact qLo dC dI cyB cyI cyJ cyP a0 jaT jaX jaF jaD ja7 jby jbe jaM jaY jap jaK jal jam jax jao ja6 jaV ja8 jae jag jaf ja0 jaP jaw jaI jaZ jaG jaS jan jaU jaE jar jaL jah jaB jaa jaz jaH jab z0_s jaq jai jaO jaA jat jau jav jaj jas jaJ jak jad jay jac jaC jb2 Q K22 hK22 C0 _ _ _ l1 l2 l3 l4 l6 s0 s2 s3 l8 hP hD hS (lv_sub hl [0, 1, 2, 3, 4, 5] rfl) hw
  · have hw := hw.2 c15
    refine lv_iconst (v := 0) hx hb (qaa qbX 1 rfl) (by decide) ?_
    refine lv_goto (tgt := 120) hx hb (qaa qbX 2 rfl) (by decide) ?_
    exact qLo dC dI cyB cyI cyJ cyP a0 jaT jaX jaF jaD ja7 jby jbe jaM jaY jap jaK jal jam jax jao ja6 jaV ja8 jae jag jaf ja0 jaP jaw jaI jaZ jaG jaS jan jaU jaE jar jaL jah jaB jaa jaz jaH jab z0_s jaq jai jaO jaA jat jau jav jaj jas jaJ jak jad jay jac jaC jb2 Q K22 hK22 C0 _ _ _ l1 l2 l3 l4 l6 s0 s2 s3 0 hP hD hS (lv_sub hl [0, 1, 2, 3, 4, 5] rfl) hw
set_option maxHeartbeats 4000000 in
set_option maxRecDepth 100000 in
theorem qNs {p : Program} {l : Launch} {e : Env} {s : State} {m : MethodId} {args : Array Value} {below : List Frame} {meth : Method} {c : Code} {A : Nat → Prop} (dC : Nat → ClassId) (dI : Nat → Nat → Nat) (cyB cyI cyJ cyP : ClassId) (a0 jaT : Nat) (jaX jaF jaD ja7 jby jbe jaM jaY jap jaK jal jam jax jao ja6 jaV ja8 jae jag jaf ja0 jaP jaw jaI jaZ jaG jaS jan jaU jaE jar jaL jah jaB jaa jaz jaH jab z0_s jaq jai jaO jaA jat jau jav jaj jas jaJ jak jad jay jac : Value) (jaC : Int32) (jb2 : NI) (Q : Int32 → Prop) (K22 : Int32 → Int32 → Int32 → Int32 → Int32 → Int32 → Prop) (hK22 : ∀ (H : Heap) (locs : List Loc) (ls : Array Slot) (l1 l2 l3 l4 l5 l6 : Int32), va_P (dC, dI) vwCl (qnt a0 jaX jaF jaD ja7 jby jbe jaM jaY jap jaK jal jam jax jao ja6 jaV ja8 jae jag jaf ja0 jaC jaP jaw jaI jaZ jaG jaS jan jaU jaE jar jaL jah jaB jaa jaz jaH jab jaT z0_s jaq jai jaO jaA jat jau jav jaj jas jaJ jak jad jay jac jaT cyI jb2) H → va_D A (qnt a0 jaX jaF jaD ja7 jby jbe jaM jaY jap jaK jal jam jax jao ja6 jaV ja8 jae jag jaf ja0 jaC jaP jaw jaI jaZ jaG jaS jan jaU jaE jar jaL jah jaB jaa jaz jaH jab jaT z0_s jaq jai jaO jaA jat jau jav jaj jas jaJ jak jad jay jac jaT cyI jb2) → va_S A s.heap H locs → lv_has ls 9 [(0, .ref a0), (1, .int l1), (2, .int l2), (3, .int l3), (4, .int l4), (5, .int l5), (6, .int l6)] → K22 l1 l2 l3 l4 l5 l6 → W p l e (headSpec wsX11_lastsIn ({ frames := 0, cells := 0, slots := 0, locals := 0 })).room s m args below meth c H locs 0 0 (MQ below (va_Qi (fun (r : Int32) (_ : Unit) => Q r ) (cB (dC, dI) (kT cyB cyI cyJ cyP) A (fun u : Unit => ((qnt a0 jaX jaF jaD ja7 jby jbe jaM jaY jap jaK jal jam jax jao ja6 jaV ja8 jae jag jaf ja0 jaC jaP jaw jaI jaZ jaG jaS jan jaU jaE jar jaL jah jaB jaa jaz jaH jab jaT z0_s jaq jai jaO jaA jat jau jav jaj jas jaJ jak jad jay jac jaT cyI jb2) : va_W))) A) args s 0 0 A) (F0 m 22 ls [])) (C0 : cfx p s m args meth c cX11_lastsIn (some .int) wsX11_lastsIn RX11 9 A (dC, dI) (kT cyB cyI cyJ cyP)) : ∀ (H : Heap) (locs : List Loc) (ls : Array Slot) (l1 l2 l3 l4 l5 l6 l7 s0 : Int32), va_P (dC, dI) vwCl (qnt a0 jaX jaF jaD ja7 jby jbe jaM jaY jap jaK jal jam jax jao ja6 jaV ja8 jae jag jaf ja0 jaC jaP jaw jaI jaZ jaG jaS jan jaU jaE jar jaL jah jaB jaa jaz jaH jab jaT z0_s jaq jai jaO jaA jat jau jav jaj jas jaJ jak jad jay jac jaT cyI jb2) H → va_D A (qnt a0 jaX jaF jaD ja7 jby jbe jaM jaY jap jaK jal jam jax jao ja6 jaV ja8 jae jag jaf ja0 jaC jaP jaw jaI jaZ jaG jaS jan jaU jaE jar jaL jah jaB jaa jaz jaH jab jaT z0_s jaq jai jaO jaA jat jau jav jaj jas jaJ jak jad jay jac jaT cyI jb2) → va_S A s.heap H locs → lv_has ls 9 [(0, .ref a0), (1, .int l1), (2, .int l2), (3, .int l3), (4, .int l4), (5, .int l5), (6, .int l6), (7, .int l7)] → qDM jaC jb2 Q K22 l1 l2 l3 l4 l5 l6 l7 s0 → W p l e (headSpec wsX11_lastsIn ({ frames := 0, cells := 0, slots := 0, locals := 0 })).room s m args below meth c H locs 0 0 (MQ below (va_Qi (fun (r : Int32) (_ : Unit) => Q r ) (cB (dC, dI) (kT cyB cyI cyJ cyP) A (fun u : Unit => ((qnt a0 jaX jaF jaD ja7 jby jbe jaM jaY jap jaK jal jam jax jao ja6 jaV ja8 jae jag jaf ja0 jaC jaP jaw jaI jaZ jaG jaS jan jaU jaE jar jaL jah jaB jaa jaz jaH jab jaT z0_s jaq jai jaO jaA jat jau jav jaj jas jaJ jak jad jay jac jaT cyI jb2) : va_W))) A) args s 0 0 A) (F0 m 83 ls [.int s0]) := by
  obtain ⟨hx, hb, hr, hts, hown, hlocks, hml, hA, hK, hNw⟩ := id C0
  intro H locs ls l1 l2 l3 l4 l5 l6 l7 s0 hP hD hS hl hw
  refine lv_iconst (v := 1) hx hb (qaa qbb 14 rfl) (by decide) ?_
  refine lv_isub hx hb (qaa qbb 15 rfl) ?_
  refine lv_topi (fun x12 ex12 => ?_)
  have hw := hw x12 ex12
  refine lv_istore (lv' := [(8, .int x12), (0, .ref a0), (1, .int l1), (2, .int l2), (3, .int l3), (4, .int l4), (5, .int l5), (6, .int l6), (7, .int l7)]) hx hb (qaa qbf 0 rfl) hl (by decide) rfl (fun ls hl => ?_)
  refine lv_iload hx hb (qaa qbf 1 rfl) (lv_at hl 6 rfl) ?_
  refine lv_aload_n hx hb (qaa qbf 2 rfl) rfl (lv_at hl 1 rfl) ?_
  refine lv_iload_n hx hb (qaa qbf 3 rfl) rfl (lv_at hl 2 rfl) ?_
  refine lv_iconst (v := 1) hx hb (qaa qbf 4 rfl) (by decide) ?_
  refine lv_iload hx hb (qaa qbf 5 rfl) (lv_at hl 7 rfl) ?_
  refine lv_ishl hx hb (qaa qbf 6 rfl) ?_
  refine lv_iconst (v := (-1)) hx hb (qaa qbf 7 rfl) (by decide) ?_
  refine lv_ixor hx hb (qaa qbf 8 rfl) ?_
  refine lv_iand hx hb (qaa qbf 9 rfl) ?_
  refine lv_topi (fun x13 ex13 => ?_)
  have hw := hw x13 ex13
  refine lv_iload hx hb (qaa qbf 10 rfl) (lv_at hl 8 rfl) ?_
  refine lv_if_eq (tgt := 107) hx hb (qaa qbf 11 rfl) (by decide) (fun c14 => ?_) (fun c14 => ?_)
  · have hw := hw.1 c14
    refine lv_iload hx hb (qaa qbf 14 rfl) (lv_at hl 7 rfl) ?_
    exact qLB dC dI cyB cyI cyJ cyP a0 jaT jaX jaF jaD ja7 jby jbe jaM jaY jap jaK jal jam jax jao ja6 jaV ja8 jae jag jaf ja0 jaP jaw jaI jaZ jaG jaS jan jaU jaE jar jaL jah jaB jaa jaz jaH jab z0_s jaq jai jaO jaA jat jau jav jaj jas jaJ jak jad jay jac jaC jb2 Q K22 hK22 C0 _ _ _ l1 l2 l3 l4 l6 x12 l5 x13 l6 hP hD hS (lv_sub hl [1, 2, 3, 4, 5, 7, 0] rfl) hw
  · have hw := hw.2 c14
    refine lv_iload_n hx hb (qaa qbf 12 rfl) rfl (lv_at hl 3 rfl) ?_
    refine lv_goto (tgt := 109) hx hb (qaa qbf 13 rfl) (by decide) ?_
    exact qLB dC dI cyB cyI cyJ cyP a0 jaT jaX jaF jaD ja7 jby jbe jaM jaY jap jaK jal jam jax jao ja6 jaV ja8 jae jag jaf ja0 jaP jaw jaI jaZ jaG jaS jan jaU jaE jar jaL jah jaB jaa jaz jaH jab z0_s jaq jai jaO jaA jat jau jav jaj jas jaJ jak jad jay jac jaC jb2 Q K22 hK22 C0 _ _ _ l1 l2 l3 l4 l6 x12 l5 x13 l2 hP hD hS (lv_sub hl [1, 2, 3, 4, 5, 7, 0] rfl) hw
set_option maxHeartbeats 4000000 in
set_option maxRecDepth 100000 in
theorem qND {p : Program} {l : Launch} {e : Env} {s : State} {m : MethodId} {args : Array Value} {below : List Frame} {meth : Method} {c : Code} {A : Nat → Prop} (dC : Nat → ClassId) (dI : Nat → Nat → Nat) (cyB cyI cyJ cyP : ClassId) (a0 jaT : Nat) (jaX jaF jaD ja7 jby jbe jaM jaY jap jaK jal jam jax jao ja6 jaV ja8 jae jag jaf ja0 jaP jaw jaI jaZ jaG jaS jan jaU jaE jar jaL jah jaB jaa jaz jaH jab z0_s jaq jai jaO jaA jat jau jav jaj jas jaJ jak jad jay jac : Value) (jaC : Int32) (jb2 : NI) (Q : Int32 → Prop) (K22 : Int32 → Int32 → Int32 → Int32 → Int32 → Int32 → Prop) (hK22 : ∀ (H : Heap) (locs : List Loc) (ls : Array Slot) (l1 l2 l3 l4 l5 l6 : Int32), va_P (dC, dI) vwCl (qnt a0 jaX jaF jaD ja7 jby jbe jaM jaY jap jaK jal jam jax jao ja6 jaV ja8 jae jag jaf ja0 jaC jaP jaw jaI jaZ jaG jaS jan jaU jaE jar jaL jah jaB jaa jaz jaH jab jaT z0_s jaq jai jaO jaA jat jau jav jaj jas jaJ jak jad jay jac jaT cyI jb2) H → va_D A (qnt a0 jaX jaF jaD ja7 jby jbe jaM jaY jap jaK jal jam jax jao ja6 jaV ja8 jae jag jaf ja0 jaC jaP jaw jaI jaZ jaG jaS jan jaU jaE jar jaL jah jaB jaa jaz jaH jab jaT z0_s jaq jai jaO jaA jat jau jav jaj jas jaJ jak jad jay jac jaT cyI jb2) → va_S A s.heap H locs → lv_has ls 9 [(0, .ref a0), (1, .int l1), (2, .int l2), (3, .int l3), (4, .int l4), (5, .int l5), (6, .int l6)] → K22 l1 l2 l3 l4 l5 l6 → W p l e (headSpec wsX11_lastsIn ({ frames := 0, cells := 0, slots := 0, locals := 0 })).room s m args below meth c H locs 0 0 (MQ below (va_Qi (fun (r : Int32) (_ : Unit) => Q r ) (cB (dC, dI) (kT cyB cyI cyJ cyP) A (fun u : Unit => ((qnt a0 jaX jaF jaD ja7 jby jbe jaM jaY jap jaK jal jam jax jao ja6 jaV ja8 jae jag jaf ja0 jaC jaP jaw jaI jaZ jaG jaS jan jaU jaE jar jaL jah jaB jaa jaz jaH jab jaT z0_s jaq jai jaO jaA jat jau jav jaj jas jaJ jak jad jay jac jaT cyI jb2) : va_W))) A) args s 0 0 A) (F0 m 22 ls [])) (C0 : cfx p s m args meth c cX11_lastsIn (some .int) wsX11_lastsIn RX11 9 A (dC, dI) (kT cyB cyI cyJ cyP)) : ∀ (H : Heap) (locs : List Loc) (ls : Array Slot) (l1 l2 l3 l4 l5 l6 s0 : Int32), va_P (dC, dI) vwCl (qnt a0 jaX jaF jaD ja7 jby jbe jaM jaY jap jaK jal jam jax jao ja6 jaV ja8 jae jag jaf ja0 jaC jaP jaw jaI jaZ jaG jaS jan jaU jaE jar jaL jah jaB jaa jaz jaH jab jaT z0_s jaq jai jaO jaA jat jau jav jaj jas jaJ jak jad jay jac jaT cyI jb2) H → va_D A (qnt a0 jaX jaF jaD ja7 jby jbe jaM jaY jap jaK jal jam jax jao ja6 jaV ja8 jae jag jaf ja0 jaC jaP jaw jaI jaZ jaG jaS jan jaU jaE jar jaL jah jaB jaa jaz jaH jab jaT z0_s jaq jai jaO jaA jat jau jav jaj jas jaJ jak jad jay jac jaT cyI jb2) → va_S A s.heap H locs → lv_has ls 9 [(0, .ref a0), (1, .int l1), (2, .int l2), (3, .int l3), (4, .int l4), (5, .int l5), (6, .int l6)] → qDt jaC jb2 Q K22 l1 l2 l3 l4 l5 l6 s0 → W p l e (headSpec wsX11_lastsIn ({ frames := 0, cells := 0, slots := 0, locals := 0 })).room s m args below meth c H locs 0 0 (MQ below (va_Qi (fun (r : Int32) (_ : Unit) => Q r ) (cB (dC, dI) (kT cyB cyI cyJ cyP) A (fun u : Unit => ((qnt a0 jaX jaF jaD ja7 jby jbe jaM jaY jap jaK jal jam jax jao ja6 jaV ja8 jae jag jaf ja0 jaC jaP jaw jaI jaZ jaG jaS jan jaU jaE jar jaL jah jaB jaa jaz jaH jab jaT z0_s jaq jai jaO jaA jat jau jav jaj jas jaJ jak jad jay jac jaT cyI jb2) : va_W))) A) args s 0 0 A) (F0 m 62 ls [.int s0]) := by
  obtain ⟨hx, hb, hr, hts, hown, hlocks, hml, hA, hK, hNw⟩ := id C0
  intro H locs ls l1 l2 l3 l4 l5 l6 s0 hP hD hS hl hw
  refine lv_istore (lv' := [(7, .int s0), (0, .ref a0), (1, .int l1), (2, .int l2), (3, .int l3), (4, .int l4), (5, .int l5), (6, .int l6)]) hx hb (qaa qbb 3 rfl) hl (by decide) rfl (fun ls hl => ?_)
  refine lv_iload hx hb (qaa qbb 4 rfl) (lv_at hl 0 rfl) ?_
  refine lv_if_eq (tgt := 73) hx hb (qaa qbb 5 rfl) (by decide) (fun c8 => ?_) (fun c8 => ?_)
  · have hw := hw.1 c8
    refine lv_aload_n hx hb (qaa qbb 8 rfl) rfl (lv_at hl 1 rfl) ?_
    refine va_get (D := (dC, dI)) (ci := 11) (v := .ref jaT) (C := RX11) (T := TX11) (N := 55) hx hb hts qCl hown hK hP 0 rfl rfl 39 (by decide) (hts _ qLL) (fun _ h9 => h9) rfl (qaa qbb 9 rfl) ?_
    refine lv_bipush (v := 6) hx hb (qaa qbb 10 rfl) (by decide) ?_
    refine lv_iload hx hb (qaa qbb 11 rfl) (lv_at hl 7 rfl) ?_
    refine lv_iadd hx hb (qaa qbb 12 rfl) ?_
    refine lv_topi (fun x9 ex9 => ?_)
    have hw := hw x9 ex9
    obtain ⟨hi9, hw⟩ := hw
    refine va_iald hx hb hK hP 1 1 rfl rfl hi9 (qaa qbb 13 rfl) ?_
    refine lv_topi (fun x10 ex10 => ?_)
    have hw := hw x10 ex10
    exact qNs dC dI cyB cyI cyJ cyP a0 jaT jaX jaF jaD ja7 jby jbe jaM jaY jap jaK jal jam jax jao ja6 jaV ja8 jae jag jaf ja0 jaP jaw jaI jaZ jaG jaS jan jaU jaE jar jaL jah jaB jaa jaz jaH jab z0_s jaq jai jaO jaA jat jau jav jaj jas jaJ jak jad jay jac jaC jb2 Q K22 hK22 C0 _ _ _ l1 l2 l3 l4 l5 l6 s0 x10 hP hD hS (lv_sub hl [1, 2, 3, 4, 5, 6, 7, 0] rfl) hw
  · have hw := hw.2 c8
    refine lv_iload_n hx hb (qaa qbb 6 rfl) rfl (lv_at hl 4 rfl) ?_
    refine lv_goto (tgt := 83) hx hb (qaa qbb 7 rfl) (by decide) ?_
    exact qNs dC dI cyB cyI cyJ cyP a0 jaT jaX jaF jaD ja7 jby jbe jaM jaY jap jaK jal jam jax jao ja6 jaV ja8 jae jag jaf ja0 jaP jaw jaI jaZ jaG jaS jan jaU jaE jar jaL jah jaB jaa jaz jaH jab z0_s jaq jai jaO jaA jat jau jav jaj jas jaJ jak jad jay jac jaC jb2 Q K22 hK22 C0 _ _ _ l1 l2 l3 l4 l5 l6 s0 l3 hP hD hS (lv_sub hl [1, 2, 3, 4, 5, 6, 7, 0] rfl) hw
set_option maxHeartbeats 4000000 in
set_option maxRecDepth 100000 in
theorem q4H {p : Program} {l : Launch} {e : Env} {s : State} {m : MethodId} {args : Array Value} {below : List Frame} {meth : Method} {c : Code} {A : Nat → Prop} (dC : Nat → ClassId) (dI : Nat → Nat → Nat) (cyB cyI cyJ cyP : ClassId) (a0 jaT : Nat) (jaX jaF jaD ja7 jby jbe jaM jaY jap jaK jal jam jax jao ja6 jaV ja8 jae jag jaf ja0 jaP jaw jaI jaZ jaG jaS jan jaU jaE jar jaL jah jaB jaa jaz jaH jab z0_s jaq jai jaO jaA jat jau jav jaj jas jaJ jak jad jay jac : Value) (jaC : Int32) (jb2 : NI) (Q : Int32 → Prop) (K22 : Int32 → Int32 → Int32 → Int32 → Int32 → Int32 → Prop) (hK22 : ∀ (H : Heap) (locs : List Loc) (ls : Array Slot) (l1 l2 l3 l4 l5 l6 : Int32), va_P (dC, dI) vwCl (qnt a0 jaX jaF jaD ja7 jby jbe jaM jaY jap jaK jal jam jax jao ja6 jaV ja8 jae jag jaf ja0 jaC jaP jaw jaI jaZ jaG jaS jan jaU jaE jar jaL jah jaB jaa jaz jaH jab jaT z0_s jaq jai jaO jaA jat jau jav jaj jas jaJ jak jad jay jac jaT cyI jb2) H → va_D A (qnt a0 jaX jaF jaD ja7 jby jbe jaM jaY jap jaK jal jam jax jao ja6 jaV ja8 jae jag jaf ja0 jaC jaP jaw jaI jaZ jaG jaS jan jaU jaE jar jaL jah jaB jaa jaz jaH jab jaT z0_s jaq jai jaO jaA jat jau jav jaj jas jaJ jak jad jay jac jaT cyI jb2) → va_S A s.heap H locs → lv_has ls 9 [(0, .ref a0), (1, .int l1), (2, .int l2), (3, .int l3), (4, .int l4), (5, .int l5), (6, .int l6)] → K22 l1 l2 l3 l4 l5 l6 → W p l e (headSpec wsX11_lastsIn ({ frames := 0, cells := 0, slots := 0, locals := 0 })).room s m args below meth c H locs 0 0 (MQ below (va_Qi (fun (r : Int32) (_ : Unit) => Q r ) (cB (dC, dI) (kT cyB cyI cyJ cyP) A (fun u : Unit => ((qnt a0 jaX jaF jaD ja7 jby jbe jaM jaY jap jaK jal jam jax jao ja6 jaV ja8 jae jag jaf ja0 jaC jaP jaw jaI jaZ jaG jaS jan jaU jaE jar jaL jah jaB jaa jaz jaH jab jaT z0_s jaq jai jaO jaA jat jau jav jaj jas jaJ jak jad jay jac jaT cyI jb2) : va_W))) A) args s 0 0 A) (F0 m 22 ls [])) (C0 : cfx p s m args meth c cX11_lastsIn (some .int) wsX11_lastsIn RX11 9 A (dC, dI) (kT cyB cyI cyJ cyP)) : ∀ (H : Heap) (locs : List Loc) (ls : Array Slot) (l1 l2 l3 l4 l5 l6 : Int32), va_P (dC, dI) vwCl (qnt a0 jaX jaF jaD ja7 jby jbe jaM jaY jap jaK jal jam jax jao ja6 jaV ja8 jae jag jaf ja0 jaC jaP jaw jaI jaZ jaG jaS jan jaU jaE jar jaL jah jaB jaa jaz jaH jab jaT z0_s jaq jai jaO jaA jat jau jav jaj jas jaJ jak jad jay jac jaT cyI jb2) H → va_D A (qnt a0 jaX jaF jaD ja7 jby jbe jaM jaY jap jaK jal jam jax jao ja6 jaV ja8 jae jag jaf ja0 jaC jaP jaw jaI jaZ jaG jaS jan jaU jaE jar jaL jah jaB jaa jaz jaH jab jaT z0_s jaq jai jaO jaA jat jau jav jaj jas jaJ jak jad jay jac jaT cyI jb2) → va_S A s.heap H locs → lv_has ls 9 [(0, .ref a0), (1, .int l1), (2, .int l2), (3, .int l3), (4, .int l4), (5, .int l5), (6, .int l6)] → qK7 jaC jb2 Q K22 l1 l2 l3 l4 l5 l6 → W p l e (headSpec wsX11_lastsIn ({ frames := 0, cells := 0, slots := 0, locals := 0 })).room s m args below meth c H locs 0 0 (MQ below (va_Qi (fun (r : Int32) (_ : Unit) => Q r ) (cB (dC, dI) (kT cyB cyI cyJ cyP) A (fun u : Unit => ((qnt a0 jaX jaF jaD ja7 jby jbe jaM jaY jap jaK jal jam jax jao ja6 jaV ja8 jae jag jaf ja0 jaC jaP jaw jaI jaZ jaG jaS jan jaU jaE jar jaL jah jaB jaa jaz jaH jab jaT z0_s jaq jai jaO jaA jat jau jav jaj jas jaJ jak jad jay jac jaT cyI jb2) : va_W))) A) args s 0 0 A) (F0 m 128 ls []) := by
  obtain ⟨hx, hb, hr, hts, hown, hlocks, hml, hA, hK, hNw⟩ := id C0
  intro H locs ls l1 l2 l3 l4 l5 l6 hP hD hS hl hw
  obtain ⟨x11, ex11⟩ : ∃ y : Int32, y = l6 + 1 := ⟨_, rfl⟩
  have hw := hw x11 ex11
  refine lv_iinc (v := x11) (lv' := [(6, .int x11), (0, .ref a0), (1, .int l1), (2, .int l2), (3, .int l3), (4, .int l4), (5, .int l5)]) hx hb (qaa qbX 8 rfl) hl (k := 6) rfl (by rw [ex11]; rfl) (by decide) rfl (fun ls hl => ?_)
  refine lv_goto (tgt := 22) hx hb (qaa qbX 9 rfl) (by decide) ?_
  exact hK22 _ _ _ l1 l2 l3 l4 l5 x11 hP hD hS (lv_sub hl [1, 2, 3, 4, 5, 6, 0] rfl) hw
set_option maxHeartbeats 4000000 in
set_option maxRecDepth 100000 in
theorem q5P {p : Program} {l : Launch} {e : Env} {s : State} {m : MethodId} {args : Array Value} {below : List Frame} {meth : Method} {c : Code} {A : Nat → Prop} (dC : Nat → ClassId) (dI : Nat → Nat → Nat) (cyB cyI cyJ cyP : ClassId) (a0 jaT : Nat) (jaX jaF jaD ja7 jby jbe jaM jaY jap jaK jal jam jax jao ja6 jaV ja8 jae jag jaf ja0 jaP jaw jaI jaZ jaG jaS jan jaU jaE jar jaL jah jaB jaa jaz jaH jab z0_s jaq jai jaO jaA jat jau jav jaj jas jaJ jak jad jay jac : Value) (jaC : Int32) (jb2 : NI) (Q : Int32 → Prop) (C0 : cfx p s m args meth c cX11_lastsIn (some .int) wsX11_lastsIn RX11 9 A (dC, dI) (kT cyB cyI cyJ cyP)) : ∀ (n : Nat) (H : Heap) (locs : List Loc) (ls : Array Slot) (l1 l2 l3 l4 l5 l6 : Int32), va_P (dC, dI) vwCl (qnt a0 jaX jaF jaD ja7 jby jbe jaM jaY jap jaK jal jam jax jao ja6 jaV ja8 jae jag jaf ja0 jaC jaP jaw jaI jaZ jaG jaS jan jaU jaE jar jaL jah jaB jaa jaz jaH jab jaT z0_s jaq jai jaO jaA jat jau jav jaj jas jaJ jak jad jay jac jaT cyI jb2) H → va_D A (qnt a0 jaX jaF jaD ja7 jby jbe jaM jaY jap jaK jal jam jax jao ja6 jaV ja8 jae jag jaf ja0 jaC jaP jaw jaI jaZ jaG jaS jan jaU jaE jar jaL jah jaB jaa jaz jaH jab jaT z0_s jaq jai jaO jaA jat jau jav jaj jas jaJ jak jad jay jac jaT cyI jb2) → va_S A s.heap H locs → lv_has ls 9 [(0, .ref a0), (1, .int l1), (2, .int l2), (3, .int l3), (4, .int l4), (5, .int l5), (6, .int l6)] → qoA jaC jb2 Q n l1 l2 l3 l4 l5 l6 → W p l e (headSpec wsX11_lastsIn ({ frames := 0, cells := 0, slots := 0, locals := 0 })).room s m args below meth c H locs 0 0 (MQ below (va_Qi (fun (r : Int32) (_ : Unit) => Q r ) (cB (dC, dI) (kT cyB cyI cyJ cyP) A (fun u : Unit => ((qnt a0 jaX jaF jaD ja7 jby jbe jaM jaY jap jaK jal jam jax jao ja6 jaV ja8 jae jag jaf ja0 jaC jaP jaw jaI jaZ jaG jaS jan jaU jaE jar jaL jah jaB jaa jaz jaH jab jaT z0_s jaq jai jaO jaA jat jau jav jaj jas jaJ jak jad jay jac jaT cyI jb2) : va_W))) A) args s 0 0 A) (F0 m 22 ls []) := by
  obtain ⟨hx, hb, hr, hts, hown, hlocks, hml, hA, hK, hNw⟩ := id C0
  intro n
  induction n with
  | zero => intro H locs ls l1 l2 l3 l4 l5 l6 hP hD hS hl hw; exact False.elim hw
  | succ n ih =>
    intro H locs ls l1 l2 l3 l4 l5 l6 hP hD hS hl hw
    refine lv_iload hx hb (qaa qbj 13 rfl) (lv_at hl 6 rfl) ?_
    refine lv_aload_n hx hb (qaa qbj 14 rfl) rfl (lv_at hl 0 rfl) ?_
    refine va_get (D := (dC, dI)) (ci := 11) (v := .int jaC) (C := RX11) (T := TX11) (N := 55) hx hb hts qCl hown hK hP 0 rfl rfl 21 (by decide) (hts _ q0e) (fun _ h9 => h9) rfl (qaa qbj 15 rfl) ?_
    refine lv_icmp_ge (tgt := 134) hx hb (qaa qbe 0 rfl) (by decide) (fun c3 => ?_) (fun c3 => ?_)
    · have hw := hw.1 c3
      refine lv_iload hx hb (qaa qbX 10 rfl) (lv_at hl 5 rfl) ?_
      exact ((W.iret (v := l5) hx hb hr (fun t ht hW => ⟨⟨l5, (), rfl, hw, by rw [ht]; exact hP, va_K.moved hW.alike hK, hD⟩, hS.F ht⟩) hS.2.2 (qaa qbX 11 rfl)))
    · have hw := hw.2 c3
      refine lv_iload_n hx hb (qaa qbe 1 rfl) rfl (lv_at hl 1 rfl) ?_
      refine lv_iload hx hb (qaa qbe 2 rfl) (lv_at hl 6 rfl) ?_
      refine lv_ishr hx hb (qaa qbe 3 rfl) ?_
      refine lv_iconst (v := 1) hx hb (qaa qbe 4 rfl) (by decide) ?_
      refine lv_iand hx hb (qaa qbe 5 rfl) ?_
      refine lv_if_ne (tgt := 43) hx hb (qaa qbe 6 rfl) (by decide) (fun c4 => ?_) (fun c4 => ?_)
      · have hw := hw.1 c4
        refine lv_iload_n hx hb (qaa qbe 8 rfl) rfl (lv_at hl 3 rfl) ?_
        refine lv_aload_n hx hb (qaa qbe 9 rfl) rfl (lv_at hl 0 rfl) ?_
        refine va_get (D := (dC, dI)) (ci := 11) (v := .ref jaT) (C := RX11) (T := TX11) (N := 55) hx hb hts qCl hown hK hP 0 rfl rfl 39 (by decide) (hts _ qLL) (fun _ h9 => h9) rfl (qaa qbe 10 rfl) ?_
        refine lv_bipush (v := 6) hx hb (qaa qbe 11 rfl) (by decide) ?_
        refine lv_iload hx hb (qaa qbe 12 rfl) (lv_at hl 6 rfl) ?_
        refine lv_iadd hx hb (qaa qbe 13 rfl) ?_
        refine lv_topi (fun x5 ex5 => ?_)
        have hw := hw x5 ex5
        obtain ⟨hi9, hw⟩ := hw
        refine va_iald hx hb hK hP 1 1 rfl rfl hi9 (qaa qbe 14 rfl) ?_
        refine lv_topi (fun x6 ex6 => ?_)
        have hw := hw x6 ex6
        refine lv_icmp_lt (tgt := 61) hx hb (qaa qbe 15 rfl) (by decide) (fun c7 => ?_) (fun c7 => ?_)
        · have hw := hw.1 c7
          refine lv_iconst (v := 0) hx hb (qaa qbb 2 rfl) (by decide) ?_
          exact qND dC dI cyB cyI cyJ cyP a0 jaT jaX jaF jaD ja7 jby jbe jaM jaY jap jaK jal jam jax jao ja6 jaV ja8 jae jag jaf ja0 jaP jaw jaI jaZ jaG jaS jan jaU jaE jar jaL jah jaB jaa jaz jaH jab z0_s jaq jai jaO jaA jat jau jav jaj jas jaJ jak jad jay jac jaC jb2 Q (qoA jaC jb2 Q n) ih C0 _ _ _ l1 l2 l3 l4 l5 l6 0 hP hD hS (lv_sub hl [0, 1, 2, 3, 4, 5, 6] rfl) hw
        · have hw := hw.2 c7
          refine lv_iconst (v := 1) hx hb (qaa qbb 0 rfl) (by decide) ?_
          refine lv_goto (tgt := 62) hx hb (qaa qbb 1 rfl) (by decide) ?_
          exact qND dC dI cyB cyI cyJ cyP a0 jaT jaX jaF jaD ja7 jby jbe jaM jaY jap jaK jal jam jax jao ja6 jaV ja8 jae jag jaf ja0 jaP jaw jaI jaZ jaG jaS jan jaU jaE jar jaL jah jaB jaa jaz jaH jab z0_s jaq jai jaO jaA jat jau jav jaj jas jaJ jak jad jay jac jaC jb2 Q (qoA jaC jb2 Q n) ih C0 _ _ _ l1 l2 l3 l4 l5 l6 1 hP hD hS (lv_sub hl [0, 1, 2, 3, 4, 5, 6] rfl) hw
      · have hw := hw.2 c4
        refine lv_goto (tgt := 128) hx hb (qaa qbe 7 rfl) (by decide) ?_
        exact q4H dC dI cyB cyI cyJ cyP a0 jaT jaX jaF jaD ja7 jby jbe jaM jaY jap jaK jal jam jax jao ja6 jaV ja8 jae jag jaf ja0 jaP jaw jaI jaZ jaG jaS jan jaU jaE jar jaL jah jaB jaa jaz jaH jab z0_s jaq jai jaO jaA jat jau jav jaj jas jaJ jak jad jay jac jaC jb2 Q (qoA jaC jb2 Q n) ih C0 _ _ _ l1 l2 l3 l4 l5 l6 hP hD hS (lv_sub hl [0, 1, 2, 3, 4, 5, 6] rfl) hw
set_option maxHeartbeats 4000000 in
set_option maxRecDepth 100000 in
theorem qalg (l : Launch) (dC : Nat → ClassId) (dI : Nat → Nat → Nat) (cyB cyI cyJ cyP : ClassId) (a0 jaT sz : Nat) (jaX jaF jaD ja7 jby jbe jaM jaY jap jaK jal jam jax jao ja6 jaV ja8 jae jag jaf ja0 jaP jaw jaI jaZ jaG jaS jan jaU jaE jar jaL jah jaB jaa jaz jaH jab z0_s jaq jai jaO jaA jat jau jav jaj jas jaJ jak jad jay jac : Value) (jaC : Int32) (jb2 : NI) (p1 p2 p3 p4 : Int32) {Q : Int32 → Prop} (hw : qDd jaC jb2 p1 p2 p3 p4 Q) : Met l yX11_lastsIn wsX11_lastsIn ({ frames := 0, cells := 0, slots := 0, locals := 0 }) (va_Pc [.ref a0, .int p1, .int p2, .int p3, .int p4] (cPc (dC, dI) (kT cyB cyI cyJ cyP) (qnt a0 jaX jaF jaD ja7 jby jbe jaM jaY jap jaK jal jam jax jao ja6 jaV ja8 jae jag jaf ja0 jaC jaP jaw jaI jaZ jaG jaS jan jaU jaE jar jaL jah jaB jaa jaz jaH jab jaT z0_s jaq jai jaO jaA jat jau jav jaj jas jaJ jak jad jay jac jaT cyI jb2) sz)) (va_Qi (fun (r : Int32) (_ : Unit) => Q r ) (cB (dC, dI) (kT cyB cyI cyJ cyP) (va_A (qnt a0 jaX jaF jaD ja7 jby jbe jaM jaY jap jaK jal jam jax jao ja6 jaV ja8 jae jag jaf ja0 jaC jaP jaw jaI jaZ jaG jaS jan jaU jaE jar jaL jah jaB jaa jaz jaH jab jaT z0_s jaq jai jaO jaA jat jau jav jaj jas jaJ jak jad jay jac jaT cyI jb2) sz) (fun u : Unit => ((qnt a0 jaX jaF jaD ja7 jby jbe jaM jaY jap jaK jal jam jax jao ja6 jaV ja8 jae jag jaf ja0 jaC jaP jaw jaI jaZ jaG jaS jan jaU jaE jar jaL jah jaB jaa jaz jaH jab jaT z0_s jaq jai jaO jaA jat jau jav jaj jas jaJ jak jad jay jac jaT cyI jb2) : va_W))) (va_A (qnt a0 jaX jaF jaD ja7 jby jbe jaM jaY jap jaK jal jam jax jao ja6 jaV ja8 jae jag jaf ja0 jaC jaP jaw jaI jaZ jaG jaS jan jaU jaE jar jaL jah jaB jaa jaz jaH jab jaT z0_s jaq jai jaO jaA jat jau jav jaj jas jaJ jak jad jay jac jaT cyI jb2) sz)) 0 0 (va_A (qnt a0 jaX jaF jaD ja7 jby jbe jaM jaY jap jaK jal jam jax jao ja6 jaV ja8 jae jag jaf ja0 jaC jaP jaw jaI jaZ jaG jaS jan jaU jaE jar jaL jah jaB jaa jaz jaH jab jaT z0_s jaq jai jaO jaA jat jau jav jaj jas jaJ jak jad jay jac jaT cyI jb2) sz) := by
  refine Met.ofW (cc := cX11_lastsIn) (maxL := 9) (ret := (some .int)) (by decide) rfl ?_
  intro p e s m args below meth c s₁ B hml hv
  obtain ⟨rfl, hsz, hP, hK, hD0, hNw⟩ := hv
  have hx := B.exec
  have hb := B.bytes
  have hr := B.returns
  have hts := atoms_spec (ws := wsX11_lastsIn) B.pre
  have hown : s.vm.findClass RX11 = some m.cls := findClass_of_methodNamed B.named
  have hlocks := B.notSynchronized
  subst hsz
  have hD := hD0.self (sz := s.heap.size)
  generalize hAe : va_A (qnt a0 jaX jaF jaD ja7 jby jbe jaM jaY jap jaK jal jam jax jao ja6 jaV ja8 jae jag jaf ja0 jaC jaP jaw jaI jaZ jaG jaS jan jaU jaE jar jaL jah jaB jaa jaz jaH jab jaT z0_s jaq jai jaO jaA jat jau jav jaj jas jaJ jak jad jay jac jaT cyI jb2) s.heap.size = A at hD ⊢
  have hA : ∀ q : Nat, s.heap.size ≤ q → A q := fun q h => by rw [← hAe]; exact Or.inr h
  have hS : va_S A s.heap s.heap [] := va_S.rf
  have hP : va_P (dC, dI) vwCl (qnt a0 jaX jaF jaD ja7 jby jbe jaM jaY jap jaK jal jam jax jao ja6 jaV ja8 jae jag jaf ja0 jaC jaP jaw jaI jaZ jaG jaS jan jaU jaE jar jaL jah jaB jaa jaz jaH jab jaT z0_s jaq jai jaO jaA jat jau jav jaj jas jaJ jak jad jay jac jaT cyI jb2) s.heap := hP
  have hl := lv_entry ([.ref a0, .int p1, .int p2, .int p3, .int p4]) (n := 9) (nbq rfl)
  rw [lg_entry_eq]
  generalize (lg_sl ([.ref a0, .int p1, .int p2, .int p3, .int p4]) ++ List.replicate (9 - (lg_sl ([.ref a0, .int p1, .int p2, .int p3, .int p4])).length) Slot.unset).toArray = ls at hl ⊢
  have hl : lv_has ls 9 [(0, .ref a0), (1, .int p1), (2, .int p2), (3, .int p3), (4, .int p4)] := hl
  have C0 : cfx p s m _ meth c cX11_lastsIn (some .int) wsX11_lastsIn RX11 9 A (dC, dI) (kT cyB cyI cyJ cyP) := ⟨hx, hb, hr, hts, hown, hlocks, hml, hA, hK, hNw⟩
  clear hAe
  obtain ⟨H, hH⟩ : ∃ H, H = s.heap := ⟨_, rfl⟩
  rw [← hH] at hP ⊢
  have hS : va_S A s.heap H [] := by rw [hH]; exact va_S.rf
  have hS := hS
  refine lv_iload_n hx hb (qaa qbj 0 rfl) rfl (lv_at hl 1 rfl) ?_
  refine lv_if_ne (tgt := 16) hx hb (qaa qbj 1 rfl) (by decide) (fun c1 => ?_) (fun c1 => ?_)
  · have hw := hw.1 c1
    refine lv_iconst (v := 0) hx hb (qaa qbj 9 rfl) (by decide) ?_
    refine lv_istore (lv' := [(5, .int 0), (0, .ref a0), (1, .int p1), (2, .int p2), (3, .int p3), (4, .int p4)]) hx hb (qaa qbj 10 rfl) hl (by decide) rfl (fun ls hl => ?_)
    refine lv_iconst (v := 0) hx hb (qaa qbj 11 rfl) (by decide) ?_
    refine lv_istore (lv' := [(6, .int 0), (5, .int 0), (0, .ref a0), (1, .int p1), (2, .int p2), (3, .int p3), (4, .int p4)]) hx hb (qaa qbj 12 rfl) hl (by decide) rfl (fun ls hl => ?_)
    obtain ⟨n9, hw⟩ := hw
    exact q5P dC dI cyB cyI cyJ cyP a0 jaT jaX jaF jaD ja7 jby jbe jaM jaY jap jaK jal jam jax jao ja6 jaV ja8 jae jag jaf ja0 jaP jaw jaI jaZ jaG jaS jan jaU jaE jar jaL jah jaB jaa jaz jaH jab z0_s jaq jai jaO jaA jat jau jav jaj jas jaJ jak jad jay jac jaC jb2 Q C0 n9 _ _ _ p1 p2 p3 p4 0 0 hP hD hS (lv_sub hl [2, 3, 4, 5, 6, 1, 0] rfl) hw
  · have hw := hw.2 c1
    refine lv_iload_n hx hb (qaa qbj 2 rfl) rfl (lv_at hl 2 rfl) ?_
    refine lv_iload hx hb (qaa qbj 3 rfl) (lv_at hl 4 rfl) ?_
    refine lv_icmp_ne (tgt := 14) hx hb (qaa qbj 4 rfl) (by decide) (fun c2 => ?_) (fun c2 => ?_)
    · have hw := hw.1 c2
      refine lv_iconst (v := 0) hx hb (qaa qbj 7 rfl) (by decide) ?_
      exact ((W.iret (v := 0) hx hb hr (fun t ht hW => ⟨⟨0, (), rfl, hw, by rw [ht]; exact hP, va_K.moved hW.alike hK, hD⟩, hS.F ht⟩) hS.2.2 (qaa qbj 8 rfl)))
    · have hw := hw.2 c2
      refine lv_iconst (v := 1) hx hb (qaa qbj 5 rfl) (by decide) ?_
      refine lv_goto (tgt := 15) hx hb (qaa qbj 6 rfl) (by decide) ?_
      exact ((W.iret (v := 1) hx hb hr (fun t ht hW => ⟨⟨1, (), rfl, hw, by rw [ht]; exact hP, va_K.moved hW.alike hK, hD⟩, hS.F ht⟩) hS.2.2 (qaa qbj 8 rfl)))
