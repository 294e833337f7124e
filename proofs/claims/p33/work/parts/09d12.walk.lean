/-- worlds by their leaves -/
def qqJ (x0 : Nat) (x1 x2 x3 x4 x5 x6 x7 x8 x9 x10 x11 x12 x13 x14 x15 x16 x17 x18 x19 x20 : Value) (x21 x22 : Int32) (x23 x24 x25 x26 x27 x28 x29 x30 x31 x32 x33 x34 x35 x36 x37 x38 x39 x40 : Value) (x41 : Nat) (x42 x43 : Value) (x44 : Nat) (x45 x46 x47 x48 x49 : Value) (x50 : Nat) (x51 x52 x53 x54 x55 : Value) (x56 : Nat) (x57 : ClassId) (x58 : NI) (x59 : Nat) (x60 : ClassId) (x61 : NI) (x62 : Nat) (x63 : ClassId) (x64 : NI) : va_W := [(x0, .inr (11, [x1, x2, x3, x4, x5, x6, x7, x8, x9, x10, x11, x12, x13, x14, x15, x16, x17, x18, x19, x20, .int x21, .int x22, x23, x24, x25, x26, x27, x28, x29, x30, x31, x32, x33, x34, x35, x36, x37, x38, x39, x40, .ref x41, x42, x43, .ref x44, x45, x46, x47, x48, x49, .ref x50, x51, x52, x53, x54, x55])), (x56, .inl (x57, 7, .inl x58)), (x59, .inl (x60, 68, .inl x61)), (x62, .inl (x63, 8, .inl x64))]
def qbcV (x0 : Nat) (x1 x2 x3 x4 x5 x6 x7 x8 x9 x10 x11 x12 x13 x14 x15 x16 x17 x18 x19 x20 : Value) (x21 x22 : Int32) (x23 x24 x25 x26 x27 x28 x29 x30 x31 x32 x33 x34 x35 x36 x37 x38 x39 x40 : Value) (x41 : Nat) (x42 x43 : Value) (x44 : Nat) (x45 x46 x47 x48 x49 : Value) (x50 : Nat) (x51 x52 x53 x54 x55 : Value) (x56 : Nat) (x57 : ClassId) (x58 : NI) (x59 : Nat) (x60 : ClassId) (x61 : NI) : va_W := [(x0, .inr (11, [x1, x2, x3, x4, x5, x6, x7, x8, x9, x10, x11, x12, x13, x14, x15, x16, x17, x18, x19, x20, .int x21, .int x22, x23, x24, x25, x26, x27, x28, x29, x30, x31, x32, x33, x34, x35, x36, x37, x38, x39, x40, .ref x41, x42, x43, .ref x44, x45, x46, x47, x48, x49, .ref x50, x51, x52, x53, x54, x55])), (x56, .inl (x57, 68, .inl x58)), (x59, .inl (x60, 8, .inl x61))]
def qbdl (x0 : Nat) (x1 x2 x3 x4 x5 x6 x7 x8 x9 x10 x11 x12 x13 x14 x15 x16 x17 x18 x19 x20 : Value) (x21 x22 : Int32) (x23 x24 x25 x26 x27 x28 x29 x30 x31 x32 x33 x34 x35 x36 x37 x38 x39 x40 : Value) (x41 : Nat) (x42 x43 : Value) (x44 : Nat) (x45 x46 x47 x48 x49 : Value) (x50 : Nat) (x51 x52 x53 x54 x55 : Value) (x56 : Nat) (x57 : ClassId) (x58 : NI) : va_W := [(x0, .inr (11, [x1, x2, x3, x4, x5, x6, x7, x8, x9, x10, x11, x12, x13, x14, x15, x16, x17, x18, x19, x20, .int x21, .int x22, x23, x24, x25, x26, x27, x28, x29, x30, x31, x32, x33, x34, x35, x36, x37, x38, x39, x40, .ref x41, x42, x43, .ref x44, x45, x46, x47, x48, x49, .ref x50, x51, x52, x53, x54, x55])), (x56, .inl (x57, 68, .inl x58))]
def qxc (x0 : Nat) (x1 : Int32) (x2 : Nat) (x3 x4 x5 x6 x7 x8 x9 x10 x11 x12 x13 x14 x15 x16 x17 x18 x19 x20 : Value) (x21 x22 : Int32) (x23 x24 x25 x26 x27 x28 x29 x30 x31 x32 x33 x34 x35 x36 x37 x38 x39 : Value) (x40 x41 : Nat) (x42 x43 : Value) (x44 : Nat) (x45 x46 x47 x48 x49 : Value) (x50 : Nat) (x51 x52 x53 x54 x55 : Value) (x56 : Nat) (x57 : ClassId) (x58 : NI) (x59 : Nat) (x60 : ClassId) (x61 : NI) (x62 : Nat) (x63 : ClassId) (x64 : NI) (x65 : Nat) (x66 : ClassId) (x67 : NI) (x68 : Nat) (x69 : ClassId) (x70 : NI) : va_W := [(x0, .inr (11, [.int x1, .ref x2, x3, x4, x5, x6, x7, x8, x9, x10, x11, x12, x13, x14, x15, x16, x17, x18, x19, x20, .int x21, .int x22, x23, x24, x25, x26, x27, x28, x29, x30, x31, x32, x33, x34, x35, x36, x37, x38, x39, .ref x40, .ref x41, x42, x43, .ref x44, x45, x46, x47, x48, x49, .ref x50, x51, x52, x53, x54, x55])), (x56, .inl (x57, 2, .inl x58)), (x59, .inl (x60, 68, .inl x61)), (x62, .inl (x63, 68, .inl x64)), (x65, .inl (x66, 8, .inl x67)), (x68, .inl (x69, 7, .inl x70))]
def qbej (x0 : Nat) (x1 : Int32) (x2 : Nat) (x3 x4 x5 x6 x7 x8 x9 x10 x11 x12 x13 x14 x15 x16 x17 x18 x19 x20 : Value) (x21 x22 : Int32) (x23 x24 x25 x26 x27 x28 x29 x30 x31 x32 x33 x34 x35 x36 x37 x38 x39 : Value) (x40 x41 : Nat) (x42 x43 : Value) (x44 : Nat) (x45 x46 x47 x48 x49 : Value) (x50 : Nat) (x51 x52 x53 x54 x55 : Value) (x56 : Nat) (x57 : ClassId) (x58 : NI) (x59 : Nat) (x60 : ClassId) (x61 : NI) (x62 : Nat) (x63 : ClassId) (x64 : NI) : va_W := [(x0, .inr (11, [.int x1, .ref x2, x3, x4, x5, x6, x7, x8, x9, x10, x11, x12, x13, x14, x15, x16, x17, x18, x19, x20, .int x21, .int x22, x23, x24, x25, x26, x27, x28, x29, x30, x31, x32, x33, x34, x35, x36, x37, x38, x39, .ref x40, .ref x41, x42, x43, .ref x44, x45, x46, x47, x48, x49, .ref x50, x51, x52, x53, x54, x55])), (x56, .inl (x57, 7, .inl x58)), (x59, .inl (x60, 68, .inl x61)), (x62, .inl (x63, 8, .inl x64))]
def qbc0 (x0 : Nat) (x1 : ClassId) (x2 : NI) (x3 : Nat) (x4 : ClassId) (x5 : NI) : va_W := [(x0, .inl (x1, 2, .inl x2)), (x3, .inl (x4, 68, .inl x5))]
def qbdC (x0 : Nat) (x1 : Int32) (x2 : Nat) (x3 x4 x5 x6 x7 x8 x9 x10 x11 x12 x13 x14 x15 x16 x17 x18 x19 x20 : Value) (x21 x22 : Int32) (x23 x24 x25 x26 x27 x28 x29 x30 x31 x32 x33 x34 x35 x36 x37 x38 x39 : Value) (x40 x41 : Nat) (x42 x43 : Value) (x44 : Nat) (x45 x46 x47 x48 x49 : Value) (x50 : Nat) (x51 x52 x53 x54 x55 : Value) (x56 : Nat) (x57 : ClassId) (x58 : NI) : va_W := [(x0, .inr (11, [.int x1, .ref x2, x3, x4, x5, x6, x7, x8, x9, x10, x11, x12, x13, x14, x15, x16, x17, x18, x19, x20, .int x21, .int x22, x23, x24, x25, x26, x27, x28, x29, x30, x31, x32, x33, x34, x35, x36, x37, x38, x39, .ref x40, .ref x41, x42, x43, .ref x44, x45, x46, x47, x48, x49, .ref x50, x51, x52, x53, x54, x55])), (x56, .inl (x57, 2, .inl x58))]
def qbdG (x0 : Nat) (x1 : Int32) (x2 : Nat) (x3 x4 x5 x6 x7 x8 x9 x10 x11 x12 x13 x14 x15 x16 x17 x18 x19 x20 : Value) (x21 x22 : Int32) (x23 x24 x25 x26 x27 x28 x29 x30 x31 x32 x33 x34 x35 x36 x37 x38 x39 : Value) (x40 x41 : Nat) (x42 x43 : Value) (x44 : Nat) (x45 x46 x47 x48 x49 : Value) (x50 : Nat) (x51 x52 x53 x54 x55 : Value) (x56 : Nat) (x57 : ClassId) (x58 : NI) (x59 : Nat) (x60 : ClassId) (x61 : NI) : va_W := [(x0, .inr (11, [.int x1, .ref x2, x3, x4, x5, x6, x7, x8, x9, x10, x11, x12, x13, x14, x15, x16, x17, x18, x19, x20, .int x21, .int x22, x23, x24, x25, x26, x27, x28, x29, x30, x31, x32, x33, x34, x35, x36, x37, x38, x39, .ref x40, .ref x41, x42, x43, .ref x44, x45, x46, x47, x48, x49, .ref x50, x51, x52, x53, x54, x55])), (x56, .inl (x57, 68, .inl x58)), (x59, .inl (x60, 68, .inl x61))]
def qtX (x0 : Nat) (x1 x2 x3 x4 x5 x6 x7 x8 x9 x10 x11 x12 x13 x14 : Value) (x15 x16 x17 : Nat) (x18 x19 x20 : Value) (x21 x22 x23 : Int32) (x24 x25 : Value) (x26 x27 x28 : Nat) (x29 : Value) (x30 : Int32) (x31 : Nat) (x32 x33 x34 x35 x36 x37 x38 x39 : Value) (x40 x41 : Nat) (x42 x43 x44 x45 x46 x47 x48 x49 x50 x51 : Value) (x52 x53 : Int32) (x54 x55 : Value) (x56 : Nat) (x57 : ClassId) (x58 : NI) (x59 : Nat) (x60 : ClassId) (x61 : NI) (x62 : Nat) (x63 : ClassId) (x64 : NI) (x65 : Nat) (x66 : ClassId) (x67 : NI) (x68 : Nat) (x69 : ClassId) (x70 : NI) (x71 : Nat) (x72 : ClassId) (x73 : NI) (x74 : Nat) (x75 : ClassId) (x76 : NI) (x77 : Nat) (x78 : ClassId) (x79 : NI) (x80 : Nat) (x81 : ClassId) (x82 : NI) : va_W := [(x0, .inr (11, [x1, x2, x3, x4, x5, x6, x7, x8, x9, x10, x11, x12, x13, x14, .ref x15, .ref x16, .ref x17, x18, x19, x20, .int x21, .int x22, .int x23, x24, x25, .ref x26, .ref x27, .ref x28, x29, .int x30, .ref x31, x32, x33, x34, x35, x36, x37, x38, x39, .ref x40, .ref x41, x42, x43, x44, x45, x46, x47, x48, x49, x50, x51, .int x52, .int x53, x54, x55])), (x56, .inl (x57, 68, .inl x58)), (x59, .inl (x60, 68, .inl x61)), (x62, .inl (x63, 16, .inl x64)), (x65, .inl (x66, 8, .inl x67)), (x68, .inl (x69, 150, .inl x70)), (x71, .inl (x72, 150, .inl x73)), (x74, .inl (x75, 150, .inl x76)), (x77, .inl (x78, 8, .inl x79)), (x80, .inl (x81, 12, .inl x82))]
def qbdz (x0 : Nat) (x1 x2 x3 x4 x5 x6 x7 x8 x9 x10 x11 x12 x13 x14 : Value) (x15 x16 x17 : Nat) (x18 x19 x20 : Value) (x21 x22 x23 : Int32) (x24 x25 : Value) (x26 x27 x28 : Nat) (x29 : Value) (x30 : Int32) (x31 : Nat) (x32 x33 x34 x35 x36 x37 x38 x39 : Value) (x40 x41 : Nat) (x42 x43 x44 x45 x46 x47 x48 x49 x50 x51 : Value) (x52 x53 : Int32) (x54 x55 : Value) (x56 : Nat) (x57 : ClassId) (x58 : NI) (x59 : Nat) (x60 : ClassId) (x61 : NI) (x62 : Nat) (x63 : ClassId) (x64 : NI) (x65 : Nat) (x66 : ClassId) (x67 : NI) : va_W := [(x0, .inr (11, [x1, x2, x3, x4, x5, x6, x7, x8, x9, x10, x11, x12, x13, x14, .ref x15, .ref x16, .ref x17, x18, x19, x20, .int x21, .int x22, .int x23, x24, x25, .ref x26, .ref x27, .ref x28, x29, .int x30, .ref x31, x32, x33, x34, x35, x36, x37, x38, x39, .ref x40, .ref x41, x42, x43, x44, x45, x46, x47, x48, x49, x50, x51, .int x52, .int x53, x54, x55])), (x56, .inl (x57, 68, .inl x58)), (x59, .inl (x60, 16, .inl x61)), (x62, .inl (x63, 8, .inl x64)), (x65, .inl (x66, 12, .inl x67))]
def qaiW (x0 : Nat) (x1 x2 x3 x4 x5 x6 x7 x8 x9 x10 x11 x12 x13 x14 : Value) (x15 x16 x17 : Nat) (x18 x19 x20 : Value) (x21 x22 x23 : Int32) (x24 x25 : Value) (x26 x27 x28 : Nat) (x29 : Value) (x30 : Int32) (x31 : Nat) (x32 x33 x34 x35 x36 x37 x38 x39 : Value) (x40 x41 : Nat) (x42 x43 x44 x45 x46 x47 x48 x49 x50 x51 : Value) (x52 x53 : Int32) (x54 x55 : Value) : va_W := [(x0, .inr (11, [x1, x2, x3, x4, x5, x6, x7, x8, x9, x10, x11, x12, x13, x14, .ref x15, .ref x16, .ref x17, x18, x19, x20, .int x21, .int x22, .int x23, x24, x25, .ref x26, .ref x27, .ref x28, x29, .int x30, .ref x31, x32, x33, x34, x35, x36, x37, x38, x39, .ref x40, .ref x41, x42, x43, x44, x45, x46, x47, x48, x49, x50, x51, .int x52, .int x53, x54, x55]))]
def qaQ2 (x0 : Nat) (x1 : ClassId) (x2 : NI) (x3 : Nat) (x4 : ClassId) (x5 : NI) (x6 : Nat) (x7 : ClassId) (x8 : NI) (x9 : Nat) (x10 : ClassId) (x11 : NI) (x12 : Nat) (x13 : ClassId) (x14 : NI) (x15 : Nat) (x16 : ClassId) (x17 : NI) (x18 : Nat) (x19 : ClassId) (x20 : NI) (x21 : Nat) (x22 : ClassId) (x23 : NI) (x24 : Nat) (x25 : ClassId) (x26 : NI) : va_W := [(x0, .inl (x1, 68, .inl x2)), (x3, .inl (x4, 68, .inl x5)), (x6, .inl (x7, 16, .inl x8)), (x9, .inl (x10, 8, .inl x11)), (x12, .inl (x13, 150, .inl x14)), (x15, .inl (x16, 150, .inl x17)), (x18, .inl (x19, 150, .inl x20)), (x21, .inl (x22, 8, .inl x23)), (x24, .inl (x25, 12, .inl x26))]
def qa9Y (x0 : Nat) (x1 x2 x3 x4 x5 x6 x7 x8 x9 x10 x11 x12 x13 x14 : Value) (x15 x16 x17 : Nat) (x18 x19 x20 : Value) (x21 x22 x23 : Int32) (x24 x25 : Value) (x26 x27 x28 : Nat) (x29 : Value) (x30 : Int32) (x31 : Nat) (x32 x33 x34 x35 x36 x37 x38 x39 : Value) (x40 x41 : Nat) (x42 x43 x44 x45 x46 x47 x48 x49 x50 x51 : Value) (x52 x53 : Int32) (x54 x55 : Value) (x56 : Nat) (x57 : ClassId) (x58 : NI) : va_W := [(x0, .inr (11, [x1, x2, x3, x4, x5, x6, x7, x8, x9, x10, x11, x12, x13, x14, .ref x15, .ref x16, .ref x17, x18, x19, x20, .int x21, .int x22, .int x23, x24, x25, .ref x26, .ref x27, .ref x28, x29, .int x30, .ref x31, x32, x33, x34, x35, x36, x37, x38, x39, .ref x40, .ref x41, x42, x43, x44, x45, x46, x47, x48, x49, x50, x51, .int x52, .int x53, x54, x55])), (x56, .inl (x57, 68, .inl x58))]
def qa5v (x0 : Nat) (x1 x2 x3 x4 x5 x6 x7 x8 x9 x10 x11 x12 x13 x14 : Value) (x15 x16 x17 : Nat) (x18 x19 x20 : Value) (x21 x22 x23 : Int32) (x24 x25 : Value) (x26 x27 x28 : Nat) (x29 : Value) (x30 : Int32) (x31 : Nat) (x32 x33 x34 x35 x36 x37 x38 x39 : Value) (x40 x41 : Nat) (x42 x43 x44 x45 x46 x47 x48 x49 x50 x51 : Value) (x52 x53 : Int32) (x54 x55 : Value) (x56 : Nat) (x57 : ClassId) (x58 : NI) (x59 : Nat) (x60 : ClassId) (x61 : NI) (x62 : Nat) (x63 : ClassId) (x64 : NI) (x65 : Nat) (x66 : ClassId) (x67 : NI) (x68 : Nat) (x69 : ClassId) (x70 : NI) (x71 : Nat) (x72 : ClassId) (x73 : NI) : va_W := [(x0, .inr (11, [x1, x2, x3, x4, x5, x6, x7, x8, x9, x10, x11, x12, x13, x14, .ref x15, .ref x16, .ref x17, x18, x19, x20, .int x21, .int x22, .int x23, x24, x25, .ref x26, .ref x27, .ref x28, x29, .int x30, .ref x31, x32, x33, x34, x35, x36, x37, x38, x39, .ref x40, .ref x41, x42, x43, x44, x45, x46, x47, x48, x49, x50, x51, .int x52, .int x53, x54, x55])), (x56, .inl (x57, 68, .inl x58)), (x59, .inl (x60, 16, .inl x61)), (x62, .inl (x63, 8, .inl x64)), (x65, .inl (x66, 150, .inl x67)), (x68, .inl (x69, 150, .inl x70)), (x71, .inl (x72, 150, .inl x73))]
def qa8Q (x0 : Nat) (x1 x2 x3 x4 x5 x6 x7 x8 x9 x10 x11 x12 x13 x14 : Value) (x15 x16 x17 : Nat) (x18 x19 x20 : Value) (x21 x22 x23 : Int32) (x24 x25 : Value) (x26 x27 x28 : Nat) (x29 : Value) (x30 : Int32) (x31 : Nat) (x32 x33 x34 x35 x36 x37 x38 x39 : Value) (x40 x41 : Nat) (x42 x43 x44 x45 x46 x47 x48 x49 x50 x51 : Value) (x52 x53 : Int32) (x54 x55 : Value) (x56 : Nat) (x57 : ClassId) (x58 : NI) (x59 : Nat) (x60 : ClassId) (x61 : NI) : va_W := [(x0, .inr (11, [x1, x2, x3, x4, x5, x6, x7, x8, x9, x10, x11, x12, x13, x14, .ref x15, .ref x16, .ref x17, x18, x19, x20, .int x21, .int x22, .int x23, x24, x25, .ref x26, .ref x27, .ref x28, x29, .int x30, .ref x31, x32, x33, x34, x35, x36, x37, x38, x39, .ref x40, .ref x41, x42, x43, x44, x45, x46, x47, x48, x49, x50, x51, .int x52, .int x53, x54, x55])), (x56, .inl (x57, 68, .inl x58)), (x59, .inl (x60, 68, .inl x61))]
def qzL (x0 : Nat) (x1 x2 x3 x4 x5 x6 x7 x8 x9 x10 x11 x12 x13 x14 x15 x16 x17 x18 x19 x20 x21 : Value) (x22 : Int32) (x23 x24 x25 x26 x27 x28 x29 x30 x31 x32 x33 x34 x35 x36 x37 x38 x39 x40 : Value) (x41 : Nat) (x42 x43 x44 x45 x46 x47 x48 x49 x50 x51 x52 x53 x54 x55 : Value) (x56 : Nat) (x57 : ClassId) (x58 : NI) : va_W := [(x0, .inr (11, [x1, x2, x3, x4, x5, x6, x7, x8, x9, x10, x11, x12, x13, x14, x15, x16, x17, x18, x19, x20, x21, .int x22, x23, x24, x25, x26, x27, x28, x29, x30, x31, x32, x33, x34, x35, x36, x37, x38, x39, x40, .ref x41, x42, x43, x44, x45, x46, x47, x48, x49, x50, x51, x52, x53, x54, x55])), (x56, .inl (x57, 68, .inl x58))]
def qwa (x0 : Nat) (x1 : Int32) (x2 : Nat) (x3 x4 x5 x6 x7 x8 x9 x10 x11 x12 x13 x14 : Value) (x15 x16 x17 : Nat) (x18 x19 x20 : Value) (x21 x22 x23 : Int32) (x24 x25 : Value) (x26 x27 x28 : Nat) (x29 : Value) (x30 : Int32) (x31 : Nat) (x32 x33 x34 x35 x36 x37 x38 x39 : Value) (x40 x41 : Nat) (x42 x43 x44 x45 x46 x47 x48 x49 x50 x51 : Value) (x52 x53 : Int32) (x54 x55 : Value) (x56 : Nat) (x57 : ClassId) (x58 : NI) (x59 : Nat) (x60 : ClassId) (x61 : NI) (x62 : Nat) (x63 : ClassId) (x64 : NI) (x65 : Nat) (x66 : ClassId) (x67 : NI) (x68 : Nat) (x69 : ClassId) (x70 : NI) (x71 : Nat) (x72 : ClassId) (x73 : NI) (x74 : Nat) (x75 : ClassId) (x76 : NI) (x77 : Nat) (x78 : ClassId) (x79 : NI) (x80 : Nat) (x81 : ClassId) (x82 : NI) (x83 : Nat) (x84 : ClassId) (x85 : NI) : va_W := [(x0, .inr (11, [.int x1, .ref x2, x3, x4, x5, x6, x7, x8, x9, x10, x11, x12, x13, x14, .ref x15, .ref x16, .ref x17, x18, x19, x20, .int x21, .int x22, .int x23, x24, x25, .ref x26, .ref x27, .ref x28, x29, .int x30, .ref x31, x32, x33, x34, x35, x36, x37, x38, x39, .ref x40, .ref x41, x42, x43, x44, x45, x46, x47, x48, x49, x50, x51, .int x52, .int x53, x54, x55])), (x56, .inl (x57, 2, .inl x58)), (x59, .inl (x60, 68, .inl x61)), (x62, .inl (x63, 68, .inl x64)), (x65, .inl (x66, 16, .inl x67)), (x68, .inl (x69, 8, .inl x70)), (x71, .inl (x72, 150, .inl x73)), (x74, .inl (x75, 150, .inl x76)), (x77, .inl (x78, 150, .inl x79)), (x80, .inl (x81, 8, .inl x82)), (x83, .inl (x84, 12, .inl x85))]
def qa7S (x0 : Nat) (x1 : Int32) (x2 : Nat) (x3 x4 x5 x6 x7 x8 x9 x10 x11 x12 x13 x14 : Value) (x15 x16 x17 : Nat) (x18 x19 x20 : Value) (x21 x22 x23 : Int32) (x24 x25 : Value) (x26 x27 x28 : Nat) (x29 : Value) (x30 : Int32) (x31 : Nat) (x32 x33 x34 x35 x36 x37 x38 x39 : Value) (x40 x41 : Nat) (x42 x43 x44 x45 x46 x47 x48 x49 x50 x51 : Value) (x52 x53 : Int32) (x54 x55 : Value) (x56 : Nat) (x57 : ClassId) (x58 : NI) : va_W := [(x0, .inr (11, [.int x1, .ref x2, x3, x4, x5, x6, x7, x8, x9, x10, x11, x12, x13, x14, .ref x15, .ref x16, .ref x17, x18, x19, x20, .int x21, .int x22, .int x23, x24, x25, .ref x26, .ref x27, .ref x28, x29, .int x30, .ref x31, x32, x33, x34, x35, x36, x37, x38, x39, .ref x40, .ref x41, x42, x43, x44, x45, x46, x47, x48, x49, x50, x51, .int x52, .int x53, x54, x55])), (x56, .inl (x57, 2, .inl x58))]
def qa55 (x0 : Nat) (x1 : Int32) (x2 : Nat) (x3 x4 x5 x6 x7 x8 x9 x10 x11 x12 x13 x14 : Value) (x15 x16 x17 : Nat) (x18 x19 x20 : Value) (x21 x22 x23 : Int32) (x24 x25 : Value) (x26 x27 x28 : Nat) (x29 : Value) (x30 : Int32) (x31 : Nat) (x32 x33 x34 x35 x36 x37 x38 x39 : Value) (x40 x41 : Nat) (x42 x43 x44 x45 x46 x47 x48 x49 x50 x51 : Value) (x52 x53 : Int32) (x54 x55 : Value) (x56 : Nat) (x57 : ClassId) (x58 : NI) (x59 : Nat) (x60 : ClassId) (x61 : NI) (x62 : Nat) (x63 : ClassId) (x64 : NI) (x65 : Nat) (x66 : ClassId) (x67 : NI) (x68 : Nat) (x69 : ClassId) (x70 : NI) (x71 : Nat) (x72 : ClassId) (x73 : NI) (x74 : Nat) (x75 : ClassId) (x76 : NI) (x77 : Nat) (x78 : ClassId) (x79 : NI) (x80 : Nat) (x81 : ClassId) (x82 : NI) : va_W := [(x0, .inr (11, [.int x1, .ref x2, x3, x4, x5, x6, x7, x8, x9, x10, x11, x12, x13, x14, .ref x15, .ref x16, .ref x17, x18, x19, x20, .int x21, .int x22, .int x23, x24, x25, .ref x26, .ref x27, .ref x28, x29, .int x30, .ref x31, x32, x33, x34, x35, x36, x37, x38, x39, .ref x40, .ref x41, x42, x43, x44, x45, x46, x47, x48, x49, x50, x51, .int x52, .int x53, x54, x55])), (x56, .inl (x57, 68, .inl x58)), (x59, .inl (x60, 68, .inl x61)), (x62, .inl (x63, 16, .inl x64)), (x65, .inl (x66, 8, .inl x67)), (x68, .inl (x69, 150, .inl x70)), (x71, .inl (x72, 150, .inl x73)), (x74, .inl (x75, 150, .inl x76)), (x77, .inl (x78, 8, .inl x79)), (x80, .inl (x81, 12, .inl x82))]
def qaQj (x0 : Nat) (x1 : Int32) (x2 : Nat) (x3 x4 x5 x6 x7 x8 x9 x10 x11 x12 x13 x14 : Value) (x15 x16 x17 : Nat) (x18 x19 x20 : Value) (x21 x22 x23 : Int32) (x24 x25 : Value) (x26 x27 x28 : Nat) (x29 : Value) (x30 : Int32) (x31 : Nat) (x32 x33 x34 x35 x36 x37 x38 x39 : Value) (x40 x41 : Nat) (x42 x43 x44 x45 x46 x47 x48 x49 x50 x51 : Value) (x52 x53 : Int32) (x54 x55 : Value) (x56 : Nat) (x57 : ClassId) (x58 : NI) : va_W := [(x0, .inr (11, [.int x1, .ref x2, x3, x4, x5, x6, x7, x8, x9, x10, x11, x12, x13, x14, .ref x15, .ref x16, .ref x17, x18, x19, x20, .int x21, .int x22, .int x23, x24, x25, .ref x26, .ref x27, .ref x28, x29, .int x30, .ref x31, x32, x33, x34, x35, x36, x37, x38, x39, .ref x40, .ref x41, x42, x43, x44, x45, x46, x47, x48, x49, x50, x51, .int x52, .int x53, x54, x55])), (x56, .inl (x57, 68, .inl x58))]
def qa4z (x0 : Nat) (x1 : ClassId) (x2 : NI) (x3 : Nat) (x4 : ClassId) (x5 : NI) (x6 : Nat) (x7 : ClassId) (x8 : NI) (x9 : Nat) (x10 : ClassId) (x11 : NI) (x12 : Nat) (x13 : ClassId) (x14 : NI) (x15 : Nat) (x16 : ClassId) (x17 : NI) (x18 : Nat) (x19 : ClassId) (x20 : NI) (x21 : Nat) (x22 : ClassId) (x23 : NI) (x24 : Nat) (x25 : ClassId) (x26 : NI) : va_W := [(x0, .inl (x1, 2, .inl x2)), (x3, .inl (x4, 68, .inl x5)), (x6, .inl (x7, 16, .inl x8)), (x9, .inl (x10, 8, .inl x11)), (x12, .inl (x13, 150, .inl x14)), (x15, .inl (x16, 150, .inl x17)), (x18, .inl (x19, 150, .inl x20)), (x21, .inl (x22, 8, .inl x23)), (x24, .inl (x25, 12, .inl x26))]
def qMe (x0 : Nat) (x1 : Int32) (x2 : Nat) (x3 x4 x5 x6 x7 x8 x9 x10 x11 x12 x13 x14 : Value) (x15 : Nat) (x16 x17 x18 x19 x20 : Value) (x21 x22 : Int32) (x23 x24 x25 : Value) (x26 x27 x28 : Nat) (x29 : Value) (x30 : Int32) (x31 : Nat) (x32 x33 x34 x35 x36 x37 x38 x39 : Value) (x40 x41 : Nat) (x42 x43 x44 x45 x46 x47 x48 x49 x50 x51 x52 x53 x54 x55 : Value) (x56 : Nat) (x57 : ClassId) (x58 : NI) (x59 : Nat) (x60 : ClassId) (x61 : NI) (x62 : Nat) (x63 : ClassId) (x64 : NI) (x65 : Nat) (x66 : ClassId) (x67 : NI) (x68 : Nat) (x69 : ClassId) (x70 : NI) (x71 : Nat) (x72 : ClassId) (x73 : NI) (x74 : Nat) (x75 : ClassId) (x76 : NI) (x77 : Nat) (x78 : ClassId) (x79 : NI) : va_W := [(x0, .inr (11, [.int x1, .ref x2, x3, x4, x5, x6, x7, x8, x9, x10, x11, x12, x13, x14, .ref x15, x16, x17, x18, x19, x20, .int x21, .int x22, x23, x24, x25, .ref x26, .ref x27, .ref x28, x29, .int x30, .ref x31, x32, x33, x34, x35, x36, x37, x38, x39, .ref x40, .ref x41, x42, x43, x44, x45, x46, x47, x48, x49, x50, x51, x52, x53, x54, x55])), (x56, .inl (x57, 2, .inl x58)), (x59, .inl (x60, 68, .inl x61)), (x62, .inl (x63, 68, .inl x64)), (x65, .inl (x66, 16, .inl x67)), (x68, .inl (x69, 8, .inl x70)), (x71, .inl (x72, 150, .inl x73)), (x74, .inl (x75, 150, .inl x76)), (x77, .inl (x78, 150, .inl x79))]
def qa6X (x0 : Nat) (x1 : Int32) (x2 : Nat) (x3 x4 x5 x6 x7 x8 x9 x10 x11 x12 x13 x14 : Value) (x15 : Nat) (x16 x17 x18 x19 x20 : Value) (x21 x22 : Int32) (x23 x24 x25 : Value) (x26 x27 x28 : Nat) (x29 : Value) (x30 : Int32) (x31 : Nat) (x32 x33 x34 x35 x36 x37 x38 x39 : Value) (x40 x41 : Nat) (x42 x43 x44 x45 x46 x47 x48 x49 x50 x51 x52 x53 x54 x55 : Value) (x56 : Nat) (x57 : ClassId) (x58 : NI) : va_W := [(x0, .inr (11, [.int x1, .ref x2, x3, x4, x5, x6, x7, x8, x9, x10, x11, x12, x13, x14, .ref x15, x16, x17, x18, x19, x20, .int x21, .int x22, x23, x24, x25, .ref x26, .ref x27, .ref x28, x29, .int x30, .ref x31, x32, x33, x34, x35, x36, x37, x38, x39, .ref x40, .ref x41, x42, x43, x44, x45, x46, x47, x48, x49, x50, x51, x52, x53, x54, x55])), (x56, .inl (x57, 2, .inl x58))]
def qa4M (x0 : Nat) (x1 : Int32) (x2 : Nat) (x3 x4 x5 x6 x7 x8 x9 x10 x11 x12 x13 x14 : Value) (x15 : Nat) (x16 x17 x18 x19 x20 : Value) (x21 x22 : Int32) (x23 x24 x25 : Value) (x26 x27 x28 : Nat) (x29 : Value) (x30 : Int32) (x31 : Nat) (x32 x33 x34 x35 x36 x37 x38 x39 : Value) (x40 x41 : Nat) (x42 x43 x44 x45 x46 x47 x48 x49 x50 x51 x52 x53 x54 x55 : Value) (x56 : Nat) (x57 : ClassId) (x58 : NI) (x59 : Nat) (x60 : ClassId) (x61 : NI) : va_W := [(x0, .inr (11, [.int x1, .ref x2, x3, x4, x5, x6, x7, x8, x9, x10, x11, x12, x13, x14, .ref x15, x16, x17, x18, x19, x20, .int x21, .int x22, x23, x24, x25, .ref x26, .ref x27, .ref x28, x29, .int x30, .ref x31, x32, x33, x34, x35, x36, x37, x38, x39, .ref x40, .ref x41, x42, x43, x44, x45, x46, x47, x48, x49, x50, x51, x52, x53, x54, x55])), (x56, .inl (x57, 68, .inl x58)), (x59, .inl (x60, 68, .inl x61))]
def qa4d (x0 : Nat) (x1 : Int32) (x2 : Nat) (x3 x4 x5 x6 x7 x8 x9 x10 x11 x12 x13 x14 : Value) (x15 : Nat) (x16 x17 x18 x19 x20 : Value) (x21 x22 : Int32) (x23 x24 x25 : Value) (x26 x27 x28 : Nat) (x29 : Value) (x30 : Int32) (x31 : Nat) (x32 x33 x34 x35 x36 x37 x38 x39 : Value) (x40 x41 : Nat) (x42 x43 x44 x45 x46 x47 x48 x49 x50 x51 x52 x53 x54 x55 : Value) (x56 : Nat) (x57 : ClassId) (x58 : NI) (x59 : Nat) (x60 : ClassId) (x61 : NI) (x62 : Nat) (x63 : ClassId) (x64 : NI) (x65 : Nat) (x66 : ClassId) (x67 : NI) (x68 : Nat) (x69 : ClassId) (x70 : NI) (x71 : Nat) (x72 : ClassId) (x73 : NI) : va_W := [(x0, .inr (11, [.int x1, .ref x2, x3, x4, x5, x6, x7, x8, x9, x10, x11, x12, x13, x14, .ref x15, x16, x17, x18, x19, x20, .int x21, .int x22, x23, x24, x25, .ref x26, .ref x27, .ref x28, x29, .int x30, .ref x31, x32, x33, x34, x35, x36, x37, x38, x39, .ref x40, .ref x41, x42, x43, x44, x45, x46, x47, x48, x49, x50, x51, x52, x53, x54, x55])), (x56, .inl (x57, 68, .inl x58)), (x59, .inl (x60, 16, .inl x61)), (x62, .inl (x63, 8, .inl x64)), (x65, .inl (x66, 150, .inl x67)), (x68, .inl (x69, 150, .inl x70)), (x71, .inl (x72, 150, .inl x73))]
def qS8 (x0 : Nat) (x1 x2 x3 : Value) (x4 x5 x6 x7 : Int32) (x8 x9 : Value) (x10 : Nat) (x11 x12 x13 x14 x15 x16 x17 x18 x19 x20 x21 : Value) (x22 : Int32) (x23 x24 x25 x26 x27 x28 x29 x30 x31 x32 x33 x34 x35 x36 x37 x38 x39 x40 x41 x42 x43 x44 x45 x46 x47 x48 x49 x50 x51 x52 x53 x54 x55 : Value) (x56 : Nat) (x57 : ClassId) (x58 : NI) : va_W := [(x0, .inr (11, [x1, x2, x3, .int x4, .int x5, .int x6, .int x7, x8, x9, .ref x10, x11, x12, x13, x14, x15, x16, x17, x18, x19, x20, x21, .int x22, x23, x24, x25, x26, x27, x28, x29, x30, x31, x32, x33, x34, x35, x36, x37, x38, x39, x40, x41, x42, x43, x44, x45, x46, x47, x48, x49, x50, x51, x52, x53, x54, x55])), (x56, .inl (x57, 600, .inl x58))]
def qAN (x0 : Nat) (x1 x2 x3 x4 x5 : Value) (x6 : Int32) (x7 x8 x9 x10 x11 x12 x13 x14 x15 x16 x17 x18 x19 x20 x21 x22 x23 x24 x25 x26 x27 x28 x29 x30 x31 : Value) (x32 : Nat) (x33 : Value) (x34 : Int32) (x35 x36 x37 x38 x39 x40 x41 x42 x43 x44 x45 x46 x47 x48 x49 x50 x51 x52 x53 x54 x55 : Value) (x56 : Nat) (x57 : ClassId) (x58 : NI) : va_W := [(x0, .inr (11, [x1, x2, x3, x4, x5, .int x6, x7, x8, x9, x10, x11, x12, x13, x14, x15, x16, x17, x18, x19, x20, x21, x22, x23, x24, x25, x26, x27, x28, x29, x30, x31, .ref x32, x33, .int x34, x35, x36, x37, x38, x39, x40, x41, x42, x43, x44, x45, x46, x47, x48, x49, x50, x51, x52, x53, x54, x55])), (x56, .inl (x57, 200, .inl x58))]
def qa4X (x0 : Nat) (x1 x2 x3 x4 x5 : Value) (x6 : Int32) (x7 x8 x9 x10 x11 x12 x13 x14 x15 x16 x17 x18 x19 x20 x21 x22 x23 x24 x25 x26 x27 x28 x29 x30 x31 : Value) (x32 : Nat) (x33 : Value) (x34 : Int32) (x35 x36 x37 x38 x39 x40 x41 x42 x43 x44 x45 x46 x47 x48 x49 x50 x51 x52 x53 x54 x55 : Value) : va_W := [(x0, .inr (11, [x1, x2, x3, x4, x5, .int x6, x7, x8, x9, x10, x11, x12, x13, x14, x15, x16, x17, x18, x19, x20, x21, x22, x23, x24, x25, x26, x27, x28, x29, x30, x31, .ref x32, x33, .int x34, x35, x36, x37, x38, x39, x40, x41, x42, x43, x44, x45, x46, x47, x48, x49, x50, x51, x52, x53, x54, x55]))]
def qo2 (x0 : Nat) (x1 : Int32) (x2 : Nat) (x3 x4 x5 x6 x7 x8 x9 x10 x11 x12 x13 x14 : Value) (x15 : Nat) (x16 : Value) (x17 : Nat) (x18 x19 x20 : Value) (x21 : Int32) (x22 : Value) (x23 : Int32) (x24 x25 x26 x27 x28 x29 x30 x31 x32 x33 x34 x35 x36 x37 x38 x39 x40 x41 x42 x43 x44 x45 x46 x47 x48 x49 x50 x51 x52 x53 x54 x55 : Value) (x56 : Nat) (x57 : ClassId) (x58 : NI) (x59 : Nat) (x60 : ClassId) (x61 : NI) (x62 : Nat) (x63 : ClassId) (x64 : NI) : va_W := [(x0, .inr (11, [.int x1, .ref x2, x3, x4, x5, x6, x7, x8, x9, x10, x11, x12, x13, x14, .ref x15, x16, .ref x17, x18, x19, x20, .int x21, x22, .int x23, x24, x25, x26, x27, x28, x29, x30, x31, x32, x33, x34, x35, x36, x37, x38, x39, x40, x41, x42, x43, x44, x45, x46, x47, x48, x49, x50, x51, x52, x53, x54, x55])), (x56, .inl (x57, 2, .inl x58)), (x59, .inl (x60, 16, .inl x61)), (x62, .inl (x63, 8, .inl x64))]
def qalm (x0 : Nat) (x1 : Int32) (x2 : Nat) (x3 x4 x5 x6 x7 x8 x9 x10 x11 x12 x13 x14 : Value) (x15 : Nat) (x16 : Value) (x17 : Nat) (x18 x19 x20 : Value) (x21 : Int32) (x22 : Value) (x23 : Int32) (x24 x25 x26 x27 x28 x29 x30 x31 x32 x33 x34 x35 x36 x37 x38 x39 x40 x41 x42 x43 x44 x45 x46 x47 x48 x49 x50 x51 x52 x53 x54 x55 : Value) (x56 : Nat) (x57 : ClassId) (x58 : NI) : va_W := [(x0, .inr (11, [.int x1, .ref x2, x3, x4, x5, x6, x7, x8, x9, x10, x11, x12, x13, x14, .ref x15, x16, .ref x17, x18, x19, x20, .int x21, x22, .int x23, x24, x25, x26, x27, x28, x29, x30, x31, x32, x33, x34, x35, x36, x37, x38, x39, x40, x41, x42, x43, x44, x45, x46, x47, x48, x49, x50, x51, x52, x53, x54, x55])), (x56, .inl (x57, 16, .inl x58))]
def qaXl (x0 : Nat) (x1 : ClassId) (x2 : NI) (x3 : Nat) (x4 : ClassId) (x5 : NI) : va_W := [(x0, .inl (x1, 2, .inl x2)), (x3, .inl (x4, 8, .inl x5))]
def qa3x (x0 : Nat) (x1 : Int32) (x2 : Nat) (x3 x4 x5 x6 x7 x8 x9 x10 x11 x12 x13 x14 : Value) (x15 : Nat) (x16 : Value) (x17 : Nat) (x18 x19 x20 : Value) (x21 : Int32) (x22 : Value) (x23 : Int32) (x24 x25 x26 x27 x28 x29 x30 x31 x32 x33 x34 x35 x36 x37 x38 x39 x40 x41 x42 x43 x44 x45 x46 x47 x48 x49 x50 x51 x52 x53 x54 x55 : Value) (x56 : Nat) (x57 : ClassId) (x58 : NI) (x59 : Nat) (x60 : ClassId) (x61 : NI) : va_W := [(x0, .inr (11, [.int x1, .ref x2, x3, x4, x5, x6, x7, x8, x9, x10, x11, x12, x13, x14, .ref x15, x16, .ref x17, x18, x19, x20, .int x21, x22, .int x23, x24, x25, x26, x27, x28, x29, x30, x31, x32, x33, x34, x35, x36, x37, x38, x39, x40, x41, x42, x43, x44, x45, x46, x47, x48, x49, x50, x51, x52, x53, x54, x55])), (x56, .inl (x57, 16, .inl x58)), (x59, .inl (x60, 8, .inl x61))]
def qbgC (x0 : Nat) (x1 : ClassId) (x2 : NI) : va_W := [(x0, .inl (x1, 2, .inl x2))]
def qaRp (x0 : Nat) (x1 : Int32) (x2 : Nat) (x3 x4 x5 x6 x7 x8 x9 x10 x11 x12 x13 x14 : Value) (x15 : Nat) (x16 : Value) (x17 : Nat) (x18 x19 x20 : Value) (x21 : Int32) (x22 : Value) (x23 : Int32) (x24 x25 x26 x27 x28 x29 x30 x31 x32 x33 x34 x35 x36 x37 x38 x39 x40 x41 x42 x43 x44 x45 x46 x47 x48 x49 x50 x51 x52 x53 x54 x55 : Value) (x56 : Nat) (x57 : ClassId) (x58 : NI) : va_W := [(x0, .inr (11, [.int x1, .ref x2, x3, x4, x5, x6, x7, x8, x9, x10, x11, x12, x13, x14, .ref x15, x16, .ref x17, x18, x19, x20, .int x21, x22, .int x23, x24, x25, x26, x27, x28, x29, x30, x31, x32, x33, x34, x35, x36, x37, x38, x39, x40, x41, x42, x43, x44, x45, x46, x47, x48, x49, x50, x51, x52, x53, x54, x55])), (x56, .inl (x57, 2, .inl x58))]
def qbaI (x0 : Nat) (x1 : ClassId) (x2 : NI) (x3 : Nat) (x4 : ClassId) (x5 : NI) : va_W := [(x0, .inl (x1, 16, .inl x2)), (x3, .inl (x4, 8, .inl x5))]
def qDo (x0 : Nat) (x1 : Int32) (x2 x3 x4 x5 x6 x7 x8 x9 x10 x11 x12 x13 x14 x15 x16 x17 x18 x19 x20 x21 x22 x23 x24 x25 x26 x27 x28 x29 x30 x31 x32 x33 x34 : Value) (x35 x36 : Int32) (x37 x38 x39 : Value) (x40 : Nat) (x41 : Value) (x42 : Nat) (x43 x44 x45 x46 x47 x48 x49 x50 x51 x52 x53 : Value) (x54 : Nat) (x55 : Int32) (x56 : Nat) (x57 : ClassId) (x58 : NI) (x59 : Nat) (x60 : ClassId) (x61 : NI) (x62 : Nat) (x63 : ClassId) (x64 : NI) : va_W := [(x0, .inr (11, [.int x1, x2, x3, x4, x5, x6, x7, x8, x9, x10, x11, x12, x13, x14, x15, x16, x17, x18, x19, x20, x21, x22, x23, x24, x25, x26, x27, x28, x29, x30, x31, x32, x33, x34, .int x35, .int x36, x37, x38, x39, .ref x40, x41, .ref x42, x43, x44, x45, x46, x47, x48, x49, x50, x51, x52, x53, .ref x54, .int x55])), (x56, .inl (x57, 3471, .inl x58)), (x59, .inl (x60, 68, .inl x61)), (x62, .inl (x63, 1088, .inl x64))]
def qM0 (x0 : Nat) (x1 : Int32) (x2 x3 x4 x5 x6 x7 x8 x9 x10 x11 x12 x13 x14 : Value) (x15 : Nat) (x16 x17 x18 x19 x20 : Value) (x21 : Int32) (x22 x23 x24 x25 x26 x27 x28 x29 x30 x31 x32 x33 x34 x35 x36 x37 x38 x39 x40 x41 x42 x43 x44 x45 x46 x47 x48 : Value) (x49 : Nat) (x50 x51 x52 x53 x54 x55 : Value) (x56 : Nat) (x57 : ClassId) (x58 : NI) (x59 : Nat) (x60 : ClassId) (x61 : NI) : va_W := [(x0, .inr (11, [.int x1, x2, x3, x4, x5, x6, x7, x8, x9, x10, x11, x12, x13, x14, .ref x15, x16, x17, x18, x19, x20, .int x21, x22, x23, x24, x25, x26, x27, x28, x29, x30, x31, x32, x33, x34, x35, x36, x37, x38, x39, x40, x41, x42, x43, x44, x45, x46, x47, x48, .ref x49, x50, x51, x52, x53, x54, x55])), (x56, .inl (x57, 16, .inl x58)), (x59, .inl (x60, 2048, .inl x61))]
def qp5 (x0 : Nat) (x1 : Int32) (x2 : Nat) (x3 x4 x5 x6 x7 x8 x9 x10 x11 x12 x13 x14 : Value) (x15 : Nat) (x16 x17 x18 x19 x20 : Value) (x21 : Int32) (x22 x23 x24 x25 x26 x27 x28 x29 x30 x31 x32 x33 x34 x35 x36 x37 x38 x39 x40 x41 x42 x43 x44 x45 x46 x47 x48 : Value) (x49 : Nat) (x50 x51 x52 x53 x54 x55 : Value) (x56 : Nat) (x57 : ClassId) (x58 : NI) (x59 : Nat) (x60 : ClassId) (x61 : NI) (x62 : Nat) (x63 : ClassId) (x64 : NI) : va_W := [(x0, .inr (11, [.int x1, .ref x2, x3, x4, x5, x6, x7, x8, x9, x10, x11, x12, x13, x14, .ref x15, x16, x17, x18, x19, x20, .int x21, x22, x23, x24, x25, x26, x27, x28, x29, x30, x31, x32, x33, x34, x35, x36, x37, x38, x39, x40, x41, x42, x43, x44, x45, x46, x47, x48, .ref x49, x50, x51, x52, x53, x54, x55])), (x56, .inl (x57, 2, .inl x58)), (x59, .inl (x60, 16, .inl x61)), (x62, .inl (x63, 2048, .inl x64))]
def qa32 (x0 : Nat) (x1 : Int32) (x2 : Nat) (x3 x4 x5 x6 x7 x8 x9 x10 x11 x12 x13 x14 : Value) (x15 : Nat) (x16 x17 x18 x19 x20 : Value) (x21 : Int32) (x22 x23 x24 x25 x26 x27 x28 x29 x30 x31 x32 x33 x34 x35 x36 x37 x38 x39 x40 x41 x42 x43 x44 x45 x46 x47 x48 : Value) (x49 : Nat) (x50 x51 x52 x53 x54 x55 : Value) (x56 : Nat) (x57 : ClassId) (x58 : NI) : va_W := [(x0, .inr (11, [.int x1, .ref x2, x3, x4, x5, x6, x7, x8, x9, x10, x11, x12, x13, x14, .ref x15, x16, x17, x18, x19, x20, .int x21, x22, x23, x24, x25, x26, x27, x28, x29, x30, x31, x32, x33, x34, x35, x36, x37, x38, x39, x40, x41, x42, x43, x44, x45, x46, x47, x48, .ref x49, x50, x51, x52, x53, x54, x55])), (x56, .inl (x57, 16, .inl x58))]
def qa98 (x0 : Nat) (x1 : Int32) (x2 : Nat) (x3 x4 x5 x6 x7 x8 x9 x10 x11 x12 x13 x14 : Value) (x15 : Nat) (x16 x17 x18 x19 x20 : Value) (x21 : Int32) (x22 x23 x24 x25 x26 x27 x28 x29 x30 x31 x32 x33 x34 x35 x36 x37 x38 x39 x40 x41 x42 x43 x44 x45 x46 x47 x48 : Value) (x49 : Nat) (x50 x51 x52 x53 x54 x55 : Value) (x56 : Nat) (x57 : ClassId) (x58 : NI) : va_W := [(x0, .inr (11, [.int x1, .ref x2, x3, x4, x5, x6, x7, x8, x9, x10, x11, x12, x13, x14, .ref x15, x16, x17, x18, x19, x20, .int x21, x22, x23, x24, x25, x26, x27, x28, x29, x30, x31, x32, x33, x34, x35, x36, x37, x38, x39, x40, x41, x42, x43, x44, x45, x46, x47, x48, .ref x49, x50, x51, x52, x53, x54, x55])), (x56, .inl (x57, 2, .inl x58))]
def qa7q (x0 : Nat) (x1 : Int32) (x2 : Nat) (x3 x4 x5 x6 x7 x8 x9 x10 x11 x12 x13 x14 : Value) (x15 : Nat) (x16 x17 x18 x19 x20 : Value) (x21 : Int32) (x22 x23 x24 x25 x26 x27 x28 x29 x30 x31 x32 x33 x34 x35 x36 x37 x38 x39 x40 x41 x42 x43 x44 x45 x46 x47 x48 : Value) (x49 : Nat) (x50 x51 x52 x53 x54 x55 : Value) (x56 : Nat) (x57 : ClassId) (x58 : NI) (x59 : Nat) (x60 : ClassId) (x61 : NI) : va_W := [(x0, .inr (11, [.int x1, .ref x2, x3, x4, x5, x6, x7, x8, x9, x10, x11, x12, x13, x14, .ref x15, x16, x17, x18, x19, x20, .int x21, x22, x23, x24, x25, x26, x27, x28, x29, x30, x31, x32, x33, x34, x35, x36, x37, x38, x39, x40, x41, x42, x43, x44, x45, x46, x47, x48, .ref x49, x50, x51, x52, x53, x54, x55])), (x56, .inl (x57, 16, .inl x58)), (x59, .inl (x60, 2048, .inl x61))]
def qgu (x0 : Nat) (x1 : Int32) (x2 : Nat) (x3 x4 x5 x6 x7 x8 x9 x10 x11 x12 x13 x14 x15 x16 x17 x18 x19 x20 x21 x22 x23 x24 x25 x26 x27 x28 x29 x30 x31 x32 x33 x34 x35 x36 x37 x38 x39 x40 x41 x42 x43 x44 x45 x46 x47 x48 x49 x50 x51 x52 x53 x54 x55 : Value) (x56 : Nat) (x57 : ClassId) (x58 : NI) : va_W := [(x0, .inr (11, [.int x1, .ref x2, x3, x4, x5, x6, x7, x8, x9, x10, x11, x12, x13, x14, x15, x16, x17, x18, x19, x20, x21, x22, x23, x24, x25, x26, x27, x28, x29, x30, x31, x32, x33, x34, x35, x36, x37, x38, x39, x40, x41, x42, x43, x44, x45, x46, x47, x48, x49, x50, x51, x52, x53, x54, x55])), (x56, .inl (x57, 2, .inl x58))]
theorem quj : ∀ w ∈ u_ws RX11 TX11 55, w ∈ wsX11_worstOf := uiM qw9 qfa (by decide +kernel)
theorem q90 : (.fieldLink RX11 166 "MarchHaresModel" "forms" "I" : Cond) ∈ wsX11_worstOf := qw9 519 (by decide +kernel)
theorem qacc : (.fieldLink RX11 169 "MarchHaresModel" "hares" "I" : Cond) ∈ wsX11_worstOf := qw9 520 (by decide +kernel)
theorem qA1 : (.fieldLink RX11 95 "MarchHaresModel" "leftBy" "[I" : Cond) ∈ wsX11_worstOf := qw9 465 (by decide +kernel)
set_option maxHeartbeats 4000000 in
set_option maxRecDepth 100000 in
theorem qSl {p : Program} {l : Launch} {e : Env} {s : State} {m : MethodId} {args : Array Value} {below : List Frame} {meth : Method} {c : Code} {A : Nat → Prop} (dC : Nat → ClassId) (dI : Nat → Nat → Nat) (cyB cyI cyJ cyP : ClassId) (a0 jko a0_s jdj : Nat) (jaX jaF jaD ja7 jby jbe jaM jaY jap jaK jal jam jax jao ja6 jaV ja8 jae jag jaf jaP jaw jaI jaZ jaG jaS jan jaU jaE jar jaL jah jaB jaa jaz jaH jab ja2 jaq jai jaA jat jau jav jaj jaJ jak jad jay jac : Value) (jaN jaC : Int32) (f0_s jgv : NI) (Q : Int32 → NI → Prop) (K25 : NI → Int32 → Int32 → Int32 → Prop) (K36 : NI → Int32 → Int32 → Int32 → Int32 → Prop) (hK25 : ∀ (H : Heap) (locs : List Loc) (ls : Array Slot) (jk9 : NI) (l1 l2 l3 : Int32), va_P (dC, dI) vwCl (qqJ a0 jaX jaF jaD ja7 jby jbe jaM jaY jap jaK jal jam jax jao ja6 jaV ja8 jae jag jaf jaN jaC jaP jaw jaI jaZ jaG jaS jan jaU jaE jar jaL jah jaB jaa jaz jaH jab ja2 a0_s jaq jai jdj jaA jat jau jav jaj jko jaJ jak jad jay jac jko cyI jk9 a0_s cyI f0_s jdj cyI jgv) H → va_D A (qqJ a0 jaX jaF jaD ja7 jby jbe jaM jaY jap jaK jal jam jax jao ja6 jaV ja8 jae jag jaf jaN jaC jaP jaw jaI jaZ jaG jaS jan jaU jaE jar jaL jah jaB jaa jaz jaH jab ja2 a0_s jaq jai jdj jaA jat jau jav jaj jko jaJ jak jad jay jac jko cyI jk9 a0_s cyI f0_s jdj cyI jgv) → va_S A s.heap H locs → lv_has ls 6 [(0, .ref a0), (1, .int l1), (2, .int l2), (3, .int l3)] → K25 jk9 l1 l2 l3 → W p l e (headSpec wsX11_worstOf ({ frames := 3, cells := 0, slots := 0, locals := 71 })).room s m args below meth c H locs 0 0 (MQ below (va_Qi (fun (r : Int32) (u : NI) => Q r u) (cB (dC, dI) (kT cyB cyI cyJ cyP) A (fun u : NI => ((qqJ a0 jaX jaF jaD ja7 jby jbe jaM jaY jap jaK jal jam jax jao ja6 jaV ja8 jae jag jaf jaN jaC jaP jaw jaI jaZ jaG jaS jan jaU jaE jar jaL jah jaB jaa jaz jaH jab ja2 a0_s jaq jai jdj jaA jat jau jav jaj jko jaJ jak jad jay jac jko cyI u a0_s cyI f0_s jdj cyI jgv) : va_W))) A) args s 0 0 A) (F0 m 25 ls [])) (hK36 : ∀ (H : Heap) (locs : List Loc) (ls : Array Slot) (jk9 : NI) (l1 l2 l3 l4 : Int32), va_P (dC, dI) vwCl (qqJ a0 jaX jaF jaD ja7 jby jbe jaM jaY jap jaK jal jam jax jao ja6 jaV ja8 jae jag jaf jaN jaC jaP jaw jaI jaZ jaG jaS jan jaU jaE jar jaL jah jaB jaa jaz jaH jab ja2 a0_s jaq jai jdj jaA jat jau jav jaj jko jaJ jak jad jay jac jko cyI jk9 a0_s cyI f0_s jdj cyI jgv) H → va_D A (qqJ a0 jaX jaF jaD ja7 jby jbe jaM jaY jap jaK jal jam jax jao ja6 jaV ja8 jae jag jaf jaN jaC jaP jaw jaI jaZ jaG jaS jan jaU jaE jar jaL jah jaB jaa jaz jaH jab ja2 a0_s jaq jai jdj jaA jat jau jav jaj jko jaJ jak jad jay jac jko cyI jk9 a0_s cyI f0_s jdj cyI jgv) → va_S A s.heap H locs → lv_has ls 6 [(0, .ref a0), (1, .int l1), (2, .int l2), (3, .int l3), (4, .int l4)] → K36 jk9 l1 l2 l3 l4 → W p l e (headSpec wsX11_worstOf ({ frames := 3, cells := 0, slots := 0, locals := 71 })).room s m args below meth c H locs 0 0 (MQ below (va_Qi (fun (r : Int32) (u : NI) => Q r u) (cB (dC, dI) (kT cyB cyI cyJ cyP) A (fun u : NI => ((qqJ a0 jaX jaF jaD ja7 jby jbe jaM jaY jap jaK jal jam jax jao ja6 jaV ja8 jae jag jaf jaN jaC jaP jaw jaI jaZ jaG jaS jan jaU jaE jar jaL jah jaB jaa jaz jaH jab ja2 a0_s jaq jai jdj jaA jat jau jav jaj jko jaJ jak jad jay jac jko cyI u a0_s cyI f0_s jdj cyI jgv) : va_W))) A) args s 0 0 A) (F0 m 36 ls [])) (C0 : cfx p s m args meth c cX11_worstOf (some .int) wsX11_worstOf RX11 6 A (dC, dI) (kT cyB cyI cyJ cyP)) : ∀ (H : Heap) (locs : List Loc) (ls : Array Slot) (jk9 : NI) (l1 l2 l3 l4 : Int32), va_P (dC, dI) vwCl (qqJ a0 jaX jaF jaD ja7 jby jbe jaM jaY jap jaK jal jam jax jao ja6 jaV ja8 jae jag jaf jaN jaC jaP jaw jaI jaZ jaG jaS jan jaU jaE jar jaL jah jaB jaa jaz jaH jab ja2 a0_s jaq jai jdj jaA jat jau jav jaj jko jaJ jak jad jay jac jko cyI jk9 a0_s cyI f0_s jdj cyI jgv) H → va_D A (qqJ a0 jaX jaF jaD ja7 jby jbe jaM jaY jap jaK jal jam jax jao ja6 jaV ja8 jae jag jaf jaN jaC jaP jaw jaI jaZ jaG jaS jan jaU jaE jar jaL jah jaB jaa jaz jaH jab ja2 a0_s jaq jai jdj jaA jat jau jav jaj jko jaJ jak jad jay jac jko cyI jk9 a0_s cyI f0_s jdj cyI jgv) → va_S A s.heap H locs → lv_has ls 6 [(0, .ref a0), (1, .int l1), (2, .int l2), (3, .int l3), (4, .int l4)] → qG8 jaN jaC f0_s jgv Q K25 K36 jk9 l1 l2 l3 l4 → W p l e (headSpec wsX11_worstOf ({ frames := 3, cells := 0, slots := 0, locals := 71 })).room s m args below meth c H locs 0 0 (MQ below (va_Qi (fun (r : Int32) (u : NI) => Q r u) (cB (dC, dI) (kT cyB cyI cyJ cyP) A (fun u : NI => ((qqJ a0 jaX jaF jaD ja7 jby jbe jaM jaY jap jaK jal jam jax jao ja6 jaV ja8 jae jag jaf jaN jaC jaP jaw jaI jaZ jaG jaS jan jaU jaE jar jaL jah jaB jaa jaz jaH jab ja2 a0_s jaq jai jdj jaA jat jau jav jaj jko jaJ jak jad jay jac jko cyI u a0_s cyI f0_s jdj cyI jgv) : va_W))) A) args s 0 0 A) (F0 m 102 ls []) := by
  obtain ⟨hx, hb, hr, hts, hown, hlocks, hml, hA, hK, hNw⟩ := id C0
  intro H locs ls jk9 l1 l2 l3 l4 hP hD hS hl hw
  obtain ⟨x16, ex16⟩ : ∃ y : Int32, y = l4 + 1 := ⟨_, rfl⟩
  have hw := hw x16 ex16
  refine lv_iinc (v := x16) (lv' := [(4, .int x16), (0, .ref a0), (1, .int l1), (2, .int l2), (3, .int l3)]) hx hb (qaa qeu 11 rfl) hl (k := 4) rfl (by rw [ex16]; rfl) (by decide) rfl (fun ls hl => ?_)
  refine lv_goto (tgt := 36) hx hb (qaa qeu 12 rfl) (by decide) ?_
  exact hK36 _ _ _ jk9 l1 l2 l3 x16 hP hD hS (lv_sub hl [1, 2, 3, 4, 0] rfl) hw
set_option maxHeartbeats 4000000 in
set_option maxRecDepth 100000 in
theorem qSa {p : Program} {l : Launch} {e : Env} {s : State} {m : MethodId} {args : Array Value} {below : List Frame} {meth : Method} {c : Code} {A : Nat → Prop} (dC : Nat → ClassId) (dI : Nat → Nat → Nat) (cyB cyI cyJ cyP : ClassId) (a0 jko a0_s jdj : Nat) (jaX jaF jaD ja7 jby jbe jaM jaY jap jaK jal jam jax jao ja6 jaV ja8 jae jag jaf jaP jaw jaI jaZ jaG jaS jan jaU jaE jar jaL jah jaB jaa jaz jaH jab ja2 jaq jai jaA jat jau jav jaj jaJ jak jad jay jac : Value) (jaN jaC : Int32) (f0_s jgv : NI) (Q : Int32 → NI → Prop) (K25 : NI → Int32 → Int32 → Int32 → Prop) (K36 : NI → Int32 → Int32 → Int32 → Int32 → Prop) (hK25 : ∀ (H : Heap) (locs : List Loc) (ls : Array Slot) (jk9 : NI) (l1 l2 l3 : Int32), va_P (dC, dI) vwCl (qqJ a0 jaX jaF jaD ja7 jby jbe jaM jaY jap jaK jal jam jax jao ja6 jaV ja8 jae jag jaf jaN jaC jaP jaw jaI jaZ jaG jaS jan jaU jaE jar jaL jah jaB jaa jaz jaH jab ja2 a0_s jaq jai jdj jaA jat jau jav jaj jko jaJ jak jad jay jac jko cyI jk9 a0_s cyI f0_s jdj cyI jgv) H → va_D A (qqJ a0 jaX jaF jaD ja7 jby jbe jaM jaY jap jaK jal jam jax jao ja6 jaV ja8 jae jag jaf jaN jaC jaP jaw jaI jaZ jaG jaS jan jaU jaE jar jaL jah jaB jaa jaz jaH jab ja2 a0_s jaq jai jdj jaA jat jau jav jaj jko jaJ jak jad jay jac jko cyI jk9 a0_s cyI f0_s jdj cyI jgv) → va_S A s.heap H locs → lv_has ls 6 [(0, .ref a0), (1, .int l1), (2, .int l2), (3, .int l3)] → K25 jk9 l1 l2 l3 → W p l e (headSpec wsX11_worstOf ({ frames := 3, cells := 0, slots := 0, locals := 71 })).room s m args below meth c H locs 0 0 (MQ below (va_Qi (fun (r : Int32) (u : NI) => Q r u) (cB (dC, dI) (kT cyB cyI cyJ cyP) A (fun u : NI => ((qqJ a0 jaX jaF jaD ja7 jby jbe jaM jaY jap jaK jal jam jax jao ja6 jaV ja8 jae jag jaf jaN jaC jaP jaw jaI jaZ jaG jaS jan jaU jaE jar jaL jah jaB jaa jaz jaH jab ja2 a0_s jaq jai jdj jaA jat jau jav jaj jko jaJ jak jad jay jac jko cyI u a0_s cyI f0_s jdj cyI jgv) : va_W))) A) args s 0 0 A) (F0 m 25 ls [])) (hK36 : ∀ (H : Heap) (locs : List Loc) (ls : Array Slot) (jk9 : NI) (l1 l2 l3 l4 : Int32), va_P (dC, dI) vwCl (qqJ a0 jaX jaF jaD ja7 jby jbe jaM jaY jap jaK jal jam jax jao ja6 jaV ja8 jae jag jaf jaN jaC jaP jaw jaI jaZ jaG jaS jan jaU jaE jar jaL jah jaB jaa jaz jaH jab ja2 a0_s jaq jai jdj jaA jat jau jav jaj jko jaJ jak jad jay jac jko cyI jk9 a0_s cyI f0_s jdj cyI jgv) H → va_D A (qqJ a0 jaX jaF jaD ja7 jby jbe jaM jaY jap jaK jal jam jax jao ja6 jaV ja8 jae jag jaf jaN jaC jaP jaw jaI jaZ jaG jaS jan jaU jaE jar jaL jah jaB jaa jaz jaH jab ja2 a0_s jaq jai jdj jaA jat jau jav jaj jko jaJ jak jad jay jac jko cyI jk9 a0_s cyI f0_s jdj cyI jgv) → va_S A s.heap H locs → lv_has ls 6 [(0, .ref a0), (1, .int l1), (2, .int l2), (3, .int l3), (4, .int l4)] → K36 jk9 l1 l2 l3 l4 → W p l e (headSpec wsX11_worstOf ({ frames := 3, cells := 0, slots := 0, locals := 71 })).room s m args below meth c H locs 0 0 (MQ below (va_Qi (fun (r : Int32) (u : NI) => Q r u) (cB (dC, dI) (kT cyB cyI cyJ cyP) A (fun u : NI => ((qqJ a0 jaX jaF jaD ja7 jby jbe jaM jaY jap jaK jal jam jax jao ja6 jaV ja8 jae jag jaf jaN jaC jaP jaw jaI jaZ jaG jaS jan jaU jaE jar jaL jah jaB jaa jaz jaH jab ja2 a0_s jaq jai jdj jaA jat jau jav jaj jko jaJ jak jad jay jac jko cyI u a0_s cyI f0_s jdj cyI jgv) : va_W))) A) args s 0 0 A) (F0 m 36 ls [])) (C0 : cfx p s m args meth c cX11_worstOf (some .int) wsX11_worstOf RX11 6 A (dC, dI) (kT cyB cyI cyJ cyP)) : ∀ (H : Heap) (locs : List Loc) (ls : Array Slot) (jk9 : NI) (l1 l3 l4 s0 : Int32), va_P (dC, dI) vwCl (qqJ a0 jaX jaF jaD ja7 jby jbe jaM jaY jap jaK jal jam jax jao ja6 jaV ja8 jae jag jaf jaN jaC jaP jaw jaI jaZ jaG jaS jan jaU jaE jar jaL jah jaB jaa jaz jaH jab ja2 a0_s jaq jai jdj jaA jat jau jav jaj jko jaJ jak jad jay jac jko cyI jk9 a0_s cyI f0_s jdj cyI jgv) H → va_D A (qqJ a0 jaX jaF jaD ja7 jby jbe jaM jaY jap jaK jal jam jax jao ja6 jaV ja8 jae jag jaf jaN jaC jaP jaw jaI jaZ jaG jaS jan jaU jaE jar jaL jah jaB jaa jaz jaH jab ja2 a0_s jaq jai jdj jaA jat jau jav jaj jko jaJ jak jad jay jac jko cyI jk9 a0_s cyI f0_s jdj cyI jgv) → va_S A s.heap H locs → lv_has ls 6 [(0, .ref a0), (1, .int l1), (3, .int l3), (4, .int l4)] → qHC jaN jaC f0_s jgv Q K25 K36 jk9 l1 l3 l4 s0 → W p l e (headSpec wsX11_worstOf ({ frames := 3, cells := 0, slots := 0, locals := 71 })).room s m args below meth c H locs 0 0 (MQ below (va_Qi (fun (r : Int32) (u : NI) => Q r u) (cB (dC, dI) (kT cyB cyI cyJ cyP) A (fun u : NI => ((qqJ a0 jaX jaF jaD ja7 jby jbe jaM jaY jap jaK jal jam jax jao ja6 jaV ja8 jae jag jaf jaN jaC jaP jaw jaI jaZ jaG jaS jan jaU jaE jar jaL jah jaB jaa jaz jaH jab ja2 a0_s jaq jai jdj jaA jat jau jav jaj jko jaJ jak jad jay jac jko cyI u a0_s cyI f0_s jdj cyI jgv) : va_W))) A) args s 0 0 A) (F0 m 101 ls [.int s0]) := by
  obtain ⟨hx, hb, hr, hts, hown, hlocks, hml, hA, hK, hNw⟩ := id C0
  intro H locs ls jk9 l1 l3 l4 s0 hP hD hS hl hw
  refine lv_istore_n (lv' := [(2, .int s0), (0, .ref a0), (1, .int l1), (3, .int l3), (4, .int l4)]) hx hb (qaa qeu 10 rfl) rfl hl (by decide) rfl (fun ls hl => ?_)
  exact qSl dC dI cyB cyI cyJ cyP a0 jko a0_s jdj jaX jaF jaD ja7 jby jbe jaM jaY jap jaK jal jam jax jao ja6 jaV ja8 jae jag jaf jaP jaw jaI jaZ jaG jaS jan jaU jaE jar jaL jah jaB jaa jaz jaH jab ja2 jaq jai jaA jat jau jav jaj jaJ jak jad jay jac jaN jaC f0_s jgv Q K25 K36 hK25 hK36 C0 _ _ _ jk9 l1 s0 l3 l4 hP hD hS (lv_sub hl [1, 2, 0, 3, 4] rfl) hw
set_option maxHeartbeats 4000000 in
set_option maxRecDepth 100000 in
theorem qak7 {p : Program} {l : Launch} {e : Env} {s : State} {m : MethodId} {args : Array Value} {below : List Frame} {meth : Method} {c : Code} {A : Nat → Prop} (dC : Nat → ClassId) (dI : Nat → Nat → Nat) (cyB cyI cyJ cyP : ClassId) (a0 jko a0_s jdj : Nat) (jaX jaF jaD ja7 jby jbe jaM jaY jap jaK jal jam jax jao ja6 jaV ja8 jae jag jaf jaP jaw jaI jaZ jaG jaS jan jaU jaE jar jaL jah jaB jaa jaz jaH jab ja2 jaq jai jaA jat jau jav jaj jaJ jak jad jay jac : Value) (jaN jaC : Int32) (f0_s jgv : NI) (Q : Int32 → NI → Prop) (K25 : NI → Int32 → Int32 → Int32 → Prop) (hK25 : ∀ (H : Heap) (locs : List Loc) (ls : Array Slot) (jk9 : NI) (l1 l2 l3 : Int32), va_P (dC, dI) vwCl (qqJ a0 jaX jaF jaD ja7 jby jbe jaM jaY jap jaK jal jam jax jao ja6 jaV ja8 jae jag jaf jaN jaC jaP jaw jaI jaZ jaG jaS jan jaU jaE jar jaL jah jaB jaa jaz jaH jab ja2 a0_s jaq jai jdj jaA jat jau jav jaj jko jaJ jak jad jay jac jko cyI jk9 a0_s cyI f0_s jdj cyI jgv) H → va_D A (qqJ a0 jaX jaF jaD ja7 jby jbe jaM jaY jap jaK jal jam jax jao ja6 jaV ja8 jae jag jaf jaN jaC jaP jaw jaI jaZ jaG jaS jan jaU jaE jar jaL jah jaB jaa jaz jaH jab ja2 a0_s jaq jai jdj jaA jat jau jav jaj jko jaJ jak jad jay jac jko cyI jk9 a0_s cyI f0_s jdj cyI jgv) → va_S A s.heap H locs → lv_has ls 6 [(0, .ref a0), (1, .int l1), (2, .int l2), (3, .int l3)] → K25 jk9 l1 l2 l3 → W p l e (headSpec wsX11_worstOf ({ frames := 3, cells := 0, slots := 0, locals := 71 })).room s m args below meth c H locs 0 0 (MQ below (va_Qi (fun (r : Int32) (u : NI) => Q r u) (cB (dC, dI) (kT cyB cyI cyJ cyP) A (fun u : NI => ((qqJ a0 jaX jaF jaD ja7 jby jbe jaM jaY jap jaK jal jam jax jao ja6 jaV ja8 jae jag jaf jaN jaC jaP jaw jaI jaZ jaG jaS jan jaU jaE jar jaL jah jaB jaa jaz jaH jab ja2 a0_s jaq jai jdj jaA jat jau jav jaj jko jaJ jak jad jay jac jko cyI u a0_s cyI f0_s jdj cyI jgv) : va_W))) A) args s 0 0 A) (F0 m 25 ls [])) (C0 : cfx p s m args meth c cX11_worstOf (some .int) wsX11_worstOf RX11 6 A (dC, dI) (kT cyB cyI cyJ cyP)) : ∀ (n : Nat) (H : Heap) (locs : List Loc) (ls : Array Slot) (jk9 : NI) (l1 l2 l3 l4 : Int32), va_P (dC, dI) vwCl (qqJ a0 jaX jaF jaD ja7 jby jbe jaM jaY jap jaK jal jam jax jao ja6 jaV ja8 jae jag jaf jaN jaC jaP jaw jaI jaZ jaG jaS jan jaU jaE jar jaL jah jaB jaa jaz jaH jab ja2 a0_s jaq jai jdj jaA jat jau jav jaj jko jaJ jak jad jay jac jko cyI jk9 a0_s cyI f0_s jdj cyI jgv) H → va_D A (qqJ a0 jaX jaF jaD ja7 jby jbe jaM jaY jap jaK jal jam jax jao ja6 jaV ja8 jae jag jaf jaN jaC jaP jaw jaI jaZ jaG jaS jan jaU jaE jar jaL jah jaB jaa jaz jaH jab ja2 a0_s jaq jai jdj jaA jat jau jav jaj jko jaJ jak jad jay jac jko cyI jk9 a0_s cyI f0_s jdj cyI jgv) → va_S A s.heap H locs → lv_has ls 6 [(0, .ref a0), (1, .int l1), (2, .int l2), (3, .int l3), (4, .int l4)] → qpF jaN jaC f0_s jgv Q K25 n jk9 l1 l2 l3 l4 → W p l e (headSpec wsX11_worstOf ({ frames := 3, cells := 0, slots := 0, locals := 71 })).room s m args below meth c H locs 0 0 (MQ below (va_Qi (fun (r : Int32) (u : NI) => Q r u) (cB (dC, dI) (kT cyB cyI cyJ cyP) A (fun u : NI => ((qqJ a0 jaX jaF jaD ja7 jby jbe jaM jaY jap jaK jal jam jax jao ja6 jaV ja8 jae jag jaf jaN jaC jaP jaw jaI jaZ jaG jaS jan jaU jaE jar jaL jah jaB jaa jaz jaH jab ja2 a0_s jaq jai jdj jaA jat jau jav jaj jko jaJ jak jad jay jac jko cyI u a0_s cyI f0_s jdj cyI jgv) : va_W))) A) args s 0 0 A) (F0 m 36 ls []) := by
  obtain ⟨hx, hb, hr, hts, hown, hlocks, hml, hA, hK, hNw⟩ := id C0
  intro n
  induction n with
  | zero => intro H locs ls jk9 l1 l2 l3 l4 hP hD hS hl hw; exact False.elim hw
  | succ n ih =>
    intro H locs ls jk9 l1 l2 l3 l4 hP hD hS hl hw
    refine lv_iload hx hb (qaa qd8 6 rfl) (lv_at hl 4 rfl) ?_
    refine lv_aload_n hx hb (qaa qd8 7 rfl) rfl (lv_at hl 0 rfl) ?_
    refine va_get (D := (dC, dI)) (ci := 11) (v := .int jaN) (C := RX11) (T := TX11) (N := 55) hx hb hts quj hown hK hP 0 rfl rfl 20 (by decide) (hts _ q90) (fun _ h9 => h9) rfl (qaa qd8 8 rfl) ?_
    refine lv_icmp_ge (tgt := 108) hx hb (qaa qd8 9 rfl) (by decide) (fun c5 => ?_) (fun c5 => ?_)
    · have hw := hw.1 c5
      obtain ⟨x6, ex6⟩ : ∃ y : Int32, y = l3 + 1 := ⟨_, rfl⟩
      have hw := hw x6 ex6
      refine lv_iinc (v := x6) (lv' := [(3, .int x6), (0, .ref a0), (1, .int l1), (2, .int l2), (4, .int l4)]) hx hb (qaa qeu 13 rfl) hl (k := 3) rfl (by rw [ex6]; rfl) (by decide) rfl (fun ls hl => ?_)
      refine lv_goto (tgt := 25) hx hb (qaa qeu 14 rfl) (by decide) ?_
      exact hK25 _ _ _ jk9 l1 l2 x6 hP hD hS (lv_sub hl [1, 2, 3, 0] rfl) hw
    · have hw := hw.2 c5
      refine lv_aload_n hx hb (qaa qd8 10 rfl) rfl (lv_at hl 0 rfl) ?_
      refine lv_iload_n hx hb (qaa qd8 11 rfl) rfl (lv_at hl 3 rfl) ?_
      refine lv_iload hx hb (qaa qd8 12 rfl) (lv_at hl 4 rfl) ?_
      obtain ⟨hCc, hPc, hDc, hFc⟩ := qac (ws' := (qbcV a0 jaX jaF jaD ja7 jby jbe jaM jaY jap jaK jal jam jax jao ja6 jaV ja8 jae jag jaf jaN jaC jaP jaw jaI jaZ jaG jaS jan jaU jaE jar jaL jah jaB jaa jaz jaH jab ja2 a0_s jaq jai jdj jaA jat jau jav jaj jko jaJ jak jad jay jac a0_s cyI f0_s jdj cyI jgv)) hP hD hS hA [0, 2, 3] (by decide +kernel) rfl
      refine va_calli (va_runV (As := [.int l3, .int l4]) (rest := []) ⟨hx, hb, hml, hown, hts⟩ (qaoi l dC dI cyB cyI cyJ cyP a0 a0_s jdj H.size (jaX) (jaF) (jaD) (ja7) (jby) (jbe) (jaM) (jaY) (jap) (jaK) (jal) (jam) (jax) (jao) (ja6) (jaV) (ja8) (jae) (jag) (jaf) (jaP) (jaw) (jaI) (jaZ) (jaG) (jaS) (jan) (jaU) (jaE) (jar) (jaL) (jah) (jaB) (jaa) (jaz) (jaH) (jab) (ja2) (jaq) (jai) (jaA) (jat) (jau) (jav) (jaj) (.ref jko) (jaJ) (jak) (jad) (jay) (jac) jaN jaC f0_s jgv l3 l4 hw) (cwV 2 hts gX11_worstOf_X11_isFit rfl rfl rfl (by decide +kernel) ⟨nbq rfl, nbq rfl⟩) ⟨qab, va_recv (q := (RX11, TX11, 55)) hK hPc (ci := 11) (q0 := 0) rfl rfl, qae hPc hK hDc hNw⟩ rfl rfl hl.1 rfl (lv_room (nbq rfl)) (qaa qd8 13 rfl) ⟨nbq rfl, nbq rfl⟩) hS (fun q _ h => hFc q h) hFc (fun r7 u t H1 locs ht hvm hw hB hz1 hk1 hS => ?_)
      obtain ⟨hP1, hK1, hD1⟩ := hB
      rw [ht] at hP1
      obtain ⟨hP, hD⟩ := qad (wr := [(jko, .inl (cyI, 7, .inl jk9))]) (w1 := (qbcV a0 jaX jaF jaD ja7 jby jbe jaM jaY jap jaK jal jam jax jao ja6 jaV ja8 jae jag jaf jaN jaC jaP jaw jaI jaZ jaG jaS jan jaU jaE jar jaL jah jaB jaa jaz jaH jab ja2 a0_s jaq jai jdj jaA jat jau jav jaj jko jaJ jak jad jay jac a0_s cyI f0_s jdj cyI jgv)) (wn := (qqJ a0 jaX jaF jaD ja7 jby jbe jaM jaY jap jaK jal jam jax jao ja6 jaV ja8 jae jag jaf jaN jaC jaP jaw jaI jaZ jaG jaS jan jaU jaE jar jaL jah jaB jaa jaz jaH jab ja2 a0_s jaq jai jdj jaA jat jau jav jaj jko jaJ jak jad jay jac jko cyI jk9 a0_s cyI f0_s jdj cyI jgv)) hP hD [0, 2, 3] [1] [1, 0, 2, 3] hCc rfl (by decide +kernel) (by decide +kernel) (by decide +kernel) rfl hk1 hFc hP1 hD1
      generalize H1 = H at hP hS ⊢
      refine lv_if_ne (tgt := 58) hx hb (qaa qd8 14 rfl) (by decide) (fun c8 => ?_) (fun c8 => ?_)
      · have hw := hw.1 c8
        refine lv_aload_n hx hb (qaa qem 0 rfl) rfl (lv_at hl 0 rfl) ?_
        refine lv_iload_n hx hb (qaa qem 1 rfl) rfl (lv_at hl 1 rfl) ?_
        refine lv_iload_n hx hb (qaa qem 2 rfl) rfl (lv_at hl 3 rfl) ?_
        refine lv_iload hx hb (qaa qem 3 rfl) (lv_at hl 4 rfl) ?_
        obtain ⟨hCc, hPc, hDc, hFc⟩ := qac (ws' := (qbdl a0 jaX jaF jaD ja7 jby jbe jaM jaY jap jaK jal jam jax jao ja6 jaV ja8 jae jag jaf jaN jaC jaP jaw jaI jaZ jaG jaS jan jaU jaE jar jaL jah jaB jaa jaz jaH jab ja2 a0_s jaq jai jdj jaA jat jau jav jaj jko jaJ jak jad jay jac a0_s cyI f0_s)) hP hD hS hA [0, 2] (by decide +kernel) rfl
        refine va_calli (va_runV (As := [.int l1, .int l3, .int l4]) (rest := []) ⟨hx, hb, hml, hown, hts⟩ (q1c l dC dI cyB cyI cyJ cyP a0 a0_s H.size (jaX) (jaF) (jaD) (ja7) (jby) (jbe) (jaM) (jaY) (jap) (jaK) (jal) (jam) (jax) (jao) (ja6) (jaV) (ja8) (jae) (jag) (jaf) (.int jaN) (jaP) (jaw) (jaI) (jaZ) (jaG) (jaS) (jan) (jaU) (jaE) (jar) (jaL) (jah) (jaB) (jaa) (jaz) (jaH) (jab) (ja2) (jaq) (jai) (.ref jdj) (jaA) (jat) (jau) (jav) (jaj) (.ref jko) (jaJ) (jak) (jad) (jay) (jac) jaC f0_s l1 l3 l4 hw) (cwV 3 hts gX11_worstOf_X11_sitsThen rfl rfl rfl (by decide +kernel) ⟨nbq rfl, nbq rfl⟩) ⟨qab, va_recv (q := (RX11, TX11, 55)) hK hPc (ci := 11) (q0 := 0) rfl rfl, qae hPc hK hDc hNw⟩ rfl rfl hl.1 rfl (lv_room (nbq rfl)) (qaa qem 4 rfl) ⟨nbq rfl, nbq rfl⟩) hS (fun q _ h => hFc q h) hFc (fun r9 u t H1 locs ht hvm hw hB hz1 hk1 hS => ?_)
        obtain ⟨hP1, hK1, hD1⟩ := hB
        rw [ht] at hP1
        obtain ⟨hP, hD⟩ := qad (wr := [(jko, .inl (cyI, 7, .inl jk9)), (jdj, .inl (cyI, 8, .inl jgv))]) (w1 := (qbdl a0 jaX jaF jaD ja7 jby jbe jaM jaY jap jaK jal jam jax jao ja6 jaV ja8 jae jag jaf jaN jaC jaP jaw jaI jaZ jaG jaS jan jaU jaE jar jaL jah jaB jaa jaz jaH jab ja2 a0_s jaq jai jdj jaA jat jau jav jaj jko jaJ jak jad jay jac a0_s cyI f0_s)) (wn := (qqJ a0 jaX jaF jaD ja7 jby jbe jaM jaY jap jaK jal jam jax jao ja6 jaV ja8 jae jag jaf jaN jaC jaP jaw jaI jaZ jaG jaS jan jaU jaE jar jaL jah jaB jaa jaz jaH jab ja2 a0_s jaq jai jdj jaA jat jau jav jaj jko jaJ jak jad jay jac jko cyI jk9 a0_s cyI f0_s jdj cyI jgv)) hP hD [0, 2] [1, 3] [2, 0, 3, 1] hCc rfl (by decide +kernel) (by decide +kernel) (by decide +kernel) rfl hk1 hFc hP1 hD1
        generalize H1 = H at hP hS ⊢
        refine lv_istore (lv' := [(5, .int r9), (0, .ref a0), (1, .int l1), (2, .int l2), (3, .int l3), (4, .int l4)]) hx hb (qaa qem 5 rfl) hl (by decide) rfl (fun ls hl => ?_)
        refine lv_aload_n hx hb (qaa qem 6 rfl) rfl (lv_at hl 1 rfl) ?_
        refine va_get (D := (dC, dI)) (ci := 11) (v := .ref jko) (C := RX11) (T := TX11) (N := 55) hx hb hts quj hown hK hP 0 rfl rfl 49 (by decide) (hts _ qA1) (fun _ h9 => h9) rfl (qaa qem 7 rfl) ?_
        refine lv_iload hx hb (qaa qem 8 rfl) (lv_at hl 0 rfl) ?_
        refine lv_dup2_11 hx hb (qaa qem 9 rfl) rfl rfl ?_
        obtain ⟨hi9, hw⟩ := hw
        refine va_iald hx hb hK hP 1 1 rfl rfl hi9 (qaa qem 10 rfl) ?_
        refine lv_topi (fun x10 ex10 => ?_)
        have hw := hw x10 ex10
        refine lv_iconst (v := 1) hx hb (qaa qem 11 rfl) (by decide) ?_
        refine lv_iadd hx hb (qaa qem 12 rfl) ?_
        refine lv_topi (fun x11 ex11 => ?_)
        have hw := hw x11 ex11
        obtain ⟨hi9, hw⟩ := hw
        refine va_iast hx hb hK hP hD hS 1 1 rfl rfl hi9 (qaa qem 13 rfl) (fun H locs hP hD hS => ?_)
        obtain ⟨f12, ef12⟩ : ∃ y : NI, y = upd jk9 r9.toNatClampNeg x11 := ⟨_, rfl⟩
        have hw := hw f12 ef12
        have hP : va_P (dC, dI) vwCl (qqJ a0 jaX jaF jaD ja7 jby jbe jaM jaY jap jaK jal jam jax jao ja6 jaV ja8 jae jag jaf jaN jaC jaP jaw jaI jaZ jaG jaS jan jaU jaE jar jaL jah jaB jaa jaz jaH jab ja2 a0_s jaq jai jdj jaA jat jau jav jaj jko jaJ jak jad jay jac jko cyI f12 a0_s cyI f0_s jdj cyI jgv) H := by rw [ef12]; exact hP
        have hD : va_D A (qqJ a0 jaX jaF jaD ja7 jby jbe jaM jaY jap jaK jal jam jax jao ja6 jaV ja8 jae jag jaf jaN jaC jaP jaw jaI jaZ jaG jaS jan jaU jaE jar jaL jah jaB jaa jaz jaH jab ja2 a0_s jaq jai jdj jaA jat jau jav jaj jko jaJ jak jad jay jac jko cyI f12 a0_s cyI f0_s jdj cyI jgv) := by rw [ef12]; exact hD
        refine lv_aload_n hx hb (qaa qem 14 rfl) rfl (lv_at hl 1 rfl) ?_
        refine va_get (D := (dC, dI)) (ci := 11) (v := .ref jko) (C := RX11) (T := TX11) (N := 55) hx hb hts quj hown hK hP 0 rfl rfl 49 (by decide) (hts _ qA1) (fun _ h9 => h9) rfl (qaa qem 15 rfl) ?_
        refine lv_iload hx hb (qaa qeu 0 rfl) (lv_at hl 0 rfl) ?_
        obtain ⟨hi9, hw⟩ := hw
        refine va_iald hx hb hK hP 1 1 rfl rfl hi9 (qaa qeu 1 rfl) ?_
        refine lv_topi (fun x13 ex13 => ?_)
        have hw := hw x13 ex13
        refine lv_iload_n hx hb (qaa qeu 2 rfl) rfl (lv_at hl 3 rfl) ?_
        refine lv_icmp_le (tgt := 100) hx hb (qaa qeu 3 rfl) (by decide) (fun c14 => ?_) (fun c14 => ?_)
        · have hw := hw.1 c14
          refine lv_iload_n hx hb (qaa qeu 9 rfl) rfl (lv_at hl 3 rfl) ?_
          exact qSa dC dI cyB cyI cyJ cyP a0 jko a0_s jdj jaX jaF jaD ja7 jby jbe jaM jaY jap jaK jal jam jax jao ja6 jaV ja8 jae jag jaf jaP jaw jaI jaZ jaG jaS jan jaU jaE jar jaL jah jaB jaa jaz jaH jab ja2 jaq jai jaA jat jau jav jaj jaJ jak jad jay jac jaN jaC f0_s jgv Q K25 (qpF jaN jaC f0_s jgv Q K25 n) hK25 ih C0 _ _ _ f12 l1 l3 l4 l2 hP hD hS (lv_sub hl [1, 2, 4, 5] rfl) hw
        · have hw := hw.2 c14
          refine lv_aload_n hx hb (qaa qeu 4 rfl) rfl (lv_at hl 1 rfl) ?_
          refine va_get (D := (dC, dI)) (ci := 11) (v := .ref jko) (C := RX11) (T := TX11) (N := 55) hx hb hts quj hown hK hP 0 rfl rfl 49 (by decide) (hts _ qA1) (fun _ h9 => h9) rfl (qaa qeu 5 rfl) ?_
          refine lv_iload hx hb (qaa qeu 6 rfl) (lv_at hl 0 rfl) ?_
          obtain ⟨hi9, hw⟩ := hw
          refine va_iald hx hb hK hP 1 1 rfl rfl hi9 (qaa qeu 7 rfl) ?_
          refine lv_topi (fun x15 ex15 => ?_)
          have hw := hw x15 ex15
          refine lv_goto (tgt := 101) hx hb (qaa qeu 8 rfl) (by decide) ?_
          exact qSa dC dI cyB cyI cyJ cyP a0 jko a0_s jdj jaX jaF jaD ja7 jby jbe jaM jaY jap jaK jal jam jax jao ja6 jaV ja8 jae jag jaf jaP jaw jaI jaZ jaG jaS jan jaU jaE jar jaL jah jaB jaa jaz jaH jab ja2 jaq jai jaA jat jau jav jaj jaJ jak jad jay jac jaN jaC f0_s jgv Q K25 (qpF jaN jaC f0_s jgv Q K25 n) hK25 ih C0 _ _ _ f12 l1 l3 l4 x15 hP hD hS (lv_sub hl [1, 2, 4, 5] rfl) hw
      · have hw := hw.2 c8
        refine lv_goto (tgt := 102) hx hb (qaa qd8 15 rfl) (by decide) ?_
        exact qSl dC dI cyB cyI cyJ cyP a0 jko a0_s jdj jaX jaF jaD ja7 jby jbe jaM jaY jap jaK jal jam jax jao ja6 jaV ja8 jae jag jaf jaP jaw jaI jaZ jaG jaS jan jaU jaE jar jaL jah jaB jaa jaz jaH jab ja2 jaq jai jaA jat jau jav jaj jaJ jak jad jay jac jaN jaC f0_s jgv Q K25 (qpF jaN jaC f0_s jgv Q K25 n) hK25 ih C0 _ _ _ jk9 l1 l2 l3 l4 hP hD hS (lv_sub hl [0, 1, 2, 3, 4] rfl) hw
set_option maxHeartbeats 4000000 in
set_option maxRecDepth 100000 in
theorem qaly {p : Program} {l : Launch} {e : Env} {s : State} {m : MethodId} {args : Array Value} {below : List Frame} {meth : Method} {c : Code} {A : Nat → Prop} (dC : Nat → ClassId) (dI : Nat → Nat → Nat) (cyB cyI cyJ cyP : ClassId) (a0 jko a0_s jdj : Nat) (jaX jaF jaD ja7 jby jbe jaM jaY jap jaK jal jam jax jao ja6 jaV ja8 jae jag jaf jaP jaw jaI jaZ jaG jaS jan jaU jaE jar jaL jah jaB jaa jaz jaH jab ja2 jaq jai jaA jat jau jav jaj jaJ jak jad jay jac : Value) (jaN jaC : Int32) (f0_s jgv : NI) (Q : Int32 → NI → Prop) (C0 : cfx p s m args meth c cX11_worstOf (some .int) wsX11_worstOf RX11 6 A (dC, dI) (kT cyB cyI cyJ cyP)) : ∀ (n : Nat) (H : Heap) (locs : List Loc) (ls : Array Slot) (jk9 : NI) (l1 l2 l3 : Int32), va_P (dC, dI) vwCl (qqJ a0 jaX jaF jaD ja7 jby jbe jaM jaY jap jaK jal jam jax jao ja6 jaV ja8 jae jag jaf jaN jaC jaP jaw jaI jaZ jaG jaS jan jaU jaE jar jaL jah jaB jaa jaz jaH jab ja2 a0_s jaq jai jdj jaA jat jau jav jaj jko jaJ jak jad jay jac jko cyI jk9 a0_s cyI f0_s jdj cyI jgv) H → va_D A (qqJ a0 jaX jaF jaD ja7 jby jbe jaM jaY jap jaK jal jam jax jao ja6 jaV ja8 jae jag jaf jaN jaC jaP jaw jaI jaZ jaG jaS jan jaU jaE jar jaL jah jaB jaa jaz jaH jab ja2 a0_s jaq jai jdj jaA jat jau jav jaj jko jaJ jak jad jay jac jko cyI jk9 a0_s cyI f0_s jdj cyI jgv) → va_S A s.heap H locs → lv_has ls 6 [(0, .ref a0), (1, .int l1), (2, .int l2), (3, .int l3)] → qyF jaN jaC f0_s jgv Q n jk9 l1 l2 l3 → W p l e (headSpec wsX11_worstOf ({ frames := 3, cells := 0, slots := 0, locals := 71 })).room s m args below meth c H locs 0 0 (MQ below (va_Qi (fun (r : Int32) (u : NI) => Q r u) (cB (dC, dI) (kT cyB cyI cyJ cyP) A (fun u : NI => ((qqJ a0 jaX jaF jaD ja7 jby jbe jaM jaY jap jaK jal jam jax jao ja6 jaV ja8 jae jag jaf jaN jaC jaP jaw jaI jaZ jaG jaS jan jaU jaE jar jaL jah jaB jaa jaz jaH jab ja2 a0_s jaq jai jdj jaA jat jau jav jaj jko jaJ jak jad jay jac jko cyI u a0_s cyI f0_s jdj cyI jgv) : va_W))) A) args s 0 0 A) (F0 m 25 ls []) := by
  obtain ⟨hx, hb, hr, hts, hown, hlocks, hml, hA, hK, hNw⟩ := id C0
  intro n
  induction n with
  | zero => intro H locs ls jk9 l1 l2 l3 hP hD hS hl hw; exact False.elim hw
  | succ n ih =>
    intro H locs ls jk9 l1 l2 l3 hP hD hS hl hw
    refine lv_iload_n hx hb (qaa qd8 0 rfl) rfl (lv_at hl 3 rfl) ?_
    refine lv_aload_n hx hb (qaa qd8 1 rfl) rfl (lv_at hl 0 rfl) ?_
    refine va_get (D := (dC, dI)) (ci := 11) (v := .int jaC) (C := RX11) (T := TX11) (N := 55) hx hb hts quj hown hK hP 0 rfl rfl 21 (by decide) (hts _ qacc) (fun _ h9 => h9) rfl (qaa qd8 2 rfl) ?_
    refine lv_icmp_ge (tgt := 114) hx hb (qaa qd8 3 rfl) (by decide) (fun c4 => ?_) (fun c4 => ?_)
    · have hw := hw.1 c4
      refine lv_iload_n hx hb (qaa qeu 15 rfl) rfl (lv_at hl 2 rfl) ?_
      exact ((W.iret (v := l2) hx hb hr (fun t ht hW => ⟨⟨l2, (jk9), rfl, hw, by rw [ht]; exact hP, va_K.moved hW.alike hK, hD⟩, hS.F ht⟩) hS.2.2 (qaa qafH 0 rfl)))
    · have hw := hw.2 c4
      refine lv_iconst (v := 0) hx hb (qaa qd8 4 rfl) (by decide) ?_
      refine lv_istore (lv' := [(4, .int 0), (0, .ref a0), (1, .int l1), (2, .int l2), (3, .int l3)]) hx hb (qaa qd8 5 rfl) hl (by decide) rfl (fun ls hl => ?_)
      obtain ⟨n9, hw⟩ := hw
      exact qak7 dC dI cyB cyI cyJ cyP a0 jko a0_s jdj jaX jaF jaD ja7 jby jbe jaM jaY jap jaK jal jam jax jao ja6 jaV ja8 jae jag jaf jaP jaw jaI jaZ jaG jaS jan jaU jaE jar jaL jah jaB jaa jaz jaH jab ja2 jaq jai jaA jat jau jav jaj jaJ jak jad jay jac jaN jaC f0_s jgv Q (qyF jaN jaC f0_s jgv Q n) ih C0 n9 _ _ _ jk9 l1 l2 l3 0 hP hD hS (lv_sub hl [1, 2, 3, 4, 0] rfl) hw
set_option maxHeartbeats 4000000 in
set_option maxRecDepth 100000 in
theorem qatw {p : Program} {l : Launch} {e : Env} {s : State} {m : MethodId} {args : Array Value} {below : List Frame} {meth : Method} {c : Code} {A : Nat → Prop} (dC : Nat → ClassId) (dI : Nat → Nat → Nat) (cyB cyI cyJ cyP : ClassId) (a0 jko a0_s jdj : Nat) (jaX jaF jaD ja7 jby jbe jaM jaY jap jaK jal jam jax jao ja6 jaV ja8 jae jag jaf jaP jaw jaI jaZ jaG jaS jan jaU jaE jar jaL jah jaB jaa jaz jaH jab ja2 jaq jai jaA jat jau jav jaj jaJ jak jad jay jac : Value) (jaN jaC : Int32) (f0_s jgv : NI) (Q : Int32 → NI → Prop) (C0 : cfx p s m args meth c cX11_worstOf (some .int) wsX11_worstOf RX11 6 A (dC, dI) (kT cyB cyI cyJ cyP)) : ∀ (n : Nat) (H : Heap) (locs : List Loc) (ls : Array Slot) (jk9 : NI) (l1 l2 : Int32), va_P (dC, dI) vwCl (qqJ a0 jaX jaF jaD ja7 jby jbe jaM jaY jap jaK jal jam jax jao ja6 jaV ja8 jae jag jaf jaN jaC jaP jaw jaI jaZ jaG jaS jan jaU jaE jar jaL jah jaB jaa jaz jaH jab ja2 a0_s jaq jai jdj jaA jat jau jav jaj jko jaJ jak jad jay jac jko cyI jk9 a0_s cyI f0_s jdj cyI jgv) H → va_D A (qqJ a0 jaX jaF jaD ja7 jby jbe jaM jaY jap jaK jal jam jax jao ja6 jaV ja8 jae jag jaf jaN jaC jaP jaw jaI jaZ jaG jaS jan jaU jaE jar jaL jah jaB jaa jaz jaH jab ja2 a0_s jaq jai jdj jaA jat jau jav jaj jko jaJ jak jad jay jac jko cyI jk9 a0_s cyI f0_s jdj cyI jgv) → va_S A s.heap H locs → lv_has ls 6 [(0, .ref a0), (1, .int l1), (2, .int l2)] → qEA jaN jaC f0_s jgv Q n jk9 l1 l2 → W p l e (headSpec wsX11_worstOf ({ frames := 3, cells := 0, slots := 0, locals := 71 })).room s m args below meth c H locs 0 0 (MQ below (va_Qi (fun (r : Int32) (u : NI) => Q r u) (cB (dC, dI) (kT cyB cyI cyJ cyP) A (fun u : NI => ((qqJ a0 jaX jaF jaD ja7 jby jbe jaM jaY jap jaK jal jam jax jao ja6 jaV ja8 jae jag jaf jaN jaC jaP jaw jaI jaZ jaG jaS jan jaU jaE jar jaL jah jaB jaa jaz jaH jab ja2 a0_s jaq jai jdj jaA jat jau jav jaj jko jaJ jak jad jay jac jko cyI u a0_s cyI f0_s jdj cyI jgv) : va_W))) A) args s 0 0 A) (F0 m 2 ls []) := by
  obtain ⟨hx, hb, hr, hts, hown, hlocks, hml, hA, hK, hNw⟩ := id C0
  intro n
  induction n with
  | zero => intro H locs ls jk9 l1 l2 hP hD hS hl hw; exact False.elim hw
  | succ n ih =>
    intro H locs ls jk9 l1 l2 hP hD hS hl hw
    refine lv_iload_n hx hb (qaa qfx 2 rfl) rfl (lv_at hl 2 rfl) ?_
    refine lv_bipush (v := 6) hx hb (qaa qfx 3 rfl) (by decide) ?_
    refine lv_icmp_gt (tgt := 21) hx hb (qaa qfx 4 rfl) (by decide) (fun c1 => ?_) (fun c1 => ?_)
    · have hw := hw.1 c1
      refine lv_iconst (v := 0) hx hb (qaa qfx 12 rfl) (by decide) ?_
      refine lv_istore_n (lv' := [(2, .int 0), (0, .ref a0), (1, .int l1)]) hx hb (qaa qfx 13 rfl) rfl hl (by decide) rfl (fun ls hl => ?_)
      refine lv_iconst (v := 0) hx hb (qaa qfx 14 rfl) (by decide) ?_
      refine lv_istore_n (lv' := [(3, .int 0), (2, .int 0), (0, .ref a0), (1, .int l1)]) hx hb (qaa qfx 15 rfl) rfl hl (by decide) rfl (fun ls hl => ?_)
      obtain ⟨n9, hw⟩ := hw
      exact qaly dC dI cyB cyI cyJ cyP a0 jko a0_s jdj jaX jaF jaD ja7 jby jbe jaM jaY jap jaK jal jam jax jao ja6 jaV ja8 jae jag jaf jaP jaw jaI jaZ jaG jaS jan jaU jaE jar jaL jah jaB jaa jaz jaH jab ja2 jaq jai jaA jat jau jav jaj jaJ jak jad jay jac jaN jaC f0_s jgv Q C0 n9 _ _ _ jk9 l1 0 0 hP hD hS (lv_sub hl [2, 3, 1, 0] rfl) hw
    · have hw := hw.2 c1
      refine lv_aload_n hx hb (qaa qfx 5 rfl) rfl (lv_at hl 0 rfl) ?_
      refine va_get (D := (dC, dI)) (ci := 11) (v := .ref jko) (C := RX11) (T := TX11) (N := 55) hx hb hts quj hown hK hP 0 rfl rfl 49 (by decide) (hts _ qA1) (fun _ h9 => h9) rfl (qaa qfx 6 rfl) ?_
      refine lv_iload_n hx hb (qaa qfx 7 rfl) rfl (lv_at hl 2 rfl) ?_
      refine lv_iconst (v := 0) hx hb (qaa qfx 8 rfl) (by decide) ?_
      obtain ⟨hi9, hw⟩ := hw
      refine va_iast hx hb hK hP hD hS 1 1 rfl rfl hi9 (qaa qfx 9 rfl) (fun H locs hP hD hS => ?_)
      obtain ⟨f2, ef2⟩ : ∃ y : NI, y = upd jk9 l2.toNatClampNeg 0 := ⟨_, rfl⟩
      have hw := hw f2 ef2
      have hP : va_P (dC, dI) vwCl (qqJ a0 jaX jaF jaD ja7 jby jbe jaM jaY jap jaK jal jam jax jao ja6 jaV ja8 jae jag jaf jaN jaC jaP jaw jaI jaZ jaG jaS jan jaU jaE jar jaL jah jaB jaa jaz jaH jab ja2 a0_s jaq jai jdj jaA jat jau jav jaj jko jaJ jak jad jay jac jko cyI f2 a0_s cyI f0_s jdj cyI jgv) H := by rw [ef2]; exact hP
      have hD : va_D A (qqJ a0 jaX jaF jaD ja7 jby jbe jaM jaY jap jaK jal jam jax jao ja6 jaV ja8 jae jag jaf jaN jaC jaP jaw jaI jaZ jaG jaS jan jaU jaE jar jaL jah jaB jaa jaz jaH jab ja2 a0_s jaq jai jdj jaA jat jau jav jaj jko jaJ jak jad jay jac jko cyI f2 a0_s cyI f0_s jdj cyI jgv) := by rw [ef2]; exact hD
      obtain ⟨x3, ex3⟩ : ∃ y : Int32, y = l2 + 1 := ⟨_, rfl⟩
      have hw := hw x3 ex3
      refine lv_iinc (v := x3) (lv' := [(2, .int x3), (0, .ref a0), (1, .int l1)]) hx hb (qaa qfx 10 rfl) hl (k := 2) rfl (by rw [ex3]; rfl) (by decide) rfl (fun ls hl => ?_)
      refine lv_goto (tgt := 2) hx hb (qaa qfx 11 rfl) (by decide) ?_
      exact ih _ _ _ f2 l1 x3 hP hD hS (lv_sub hl [1, 2, 0] rfl) hw
set_option maxHeartbeats 4000000 in
set_option maxRecDepth 100000 in
theorem qaHe (l : Launch) (dC : Nat → ClassId) (dI : Nat → Nat → Nat) (cyB cyI cyJ cyP : ClassId) (a0 jko a0_s jdj sz : Nat) (jaX jaF jaD ja7 jby jbe jaM jaY jap jaK jal jam jax jao ja6 jaV ja8 jae jag jaf jaP jaw jaI jaZ jaG jaS jan jaU jaE jar jaL jah jaB jaa jaz jaH jab ja2 jaq jai jaA jat jau jav jaj jaJ jak jad jay jac : Value) (jaN jaC : Int32) (f0_s jgv jk9 : NI) (p1 : Int32) {Q : Int32 → NI → Prop} (hw : qTe jaN jaC f0_s jgv jk9 p1 Q) : Met l yX11_worstOf wsX11_worstOf ({ frames := 3, cells := 0, slots := 0, locals := 71 }) (va_Pc [.ref a0, .int p1] (cPc (dC, dI) (kT cyB cyI cyJ cyP) (qqJ a0 jaX jaF jaD ja7 jby jbe jaM jaY jap jaK jal jam jax jao ja6 jaV ja8 jae jag jaf jaN jaC jaP jaw jaI jaZ jaG jaS jan jaU jaE jar jaL jah jaB jaa jaz jaH jab ja2 a0_s jaq jai jdj jaA jat jau jav jaj jko jaJ jak jad jay jac jko cyI jk9 a0_s cyI f0_s jdj cyI jgv) sz)) (va_Qi (fun (r : Int32) (u : NI) => Q r u) (cB (dC, dI) (kT cyB cyI cyJ cyP) (va_A (qqJ a0 jaX jaF jaD ja7 jby jbe jaM jaY jap jaK jal jam jax jao ja6 jaV ja8 jae jag jaf jaN jaC jaP jaw jaI jaZ jaG jaS jan jaU jaE jar jaL jah jaB jaa jaz jaH jab ja2 a0_s jaq jai jdj jaA jat jau jav jaj jko jaJ jak jad jay jac jko cyI jk9 a0_s cyI f0_s jdj cyI jgv) sz) (fun u : NI => ((qqJ a0 jaX jaF jaD ja7 jby jbe jaM jaY jap jaK jal jam jax jao ja6 jaV ja8 jae jag jaf jaN jaC jaP jaw jaI jaZ jaG jaS jan jaU jaE jar jaL jah jaB jaa jaz jaH jab ja2 a0_s jaq jai jdj jaA jat jau jav jaj jko jaJ jak jad jay jac jko cyI u a0_s cyI f0_s jdj cyI jgv) : va_W))) (va_A (qqJ a0 jaX jaF jaD ja7 jby jbe jaM jaY jap jaK jal jam jax jao ja6 jaV ja8 jae jag jaf jaN jaC jaP jaw jaI jaZ jaG jaS jan jaU jaE jar jaL jah jaB jaa jaz jaH jab ja2 a0_s jaq jai jdj jaA jat jau jav jaj jko jaJ jak jad jay jac jko cyI jk9 a0_s cyI f0_s jdj cyI jgv) sz)) 0 0 (va_A (qqJ a0 jaX jaF jaD ja7 jby jbe jaM jaY jap jaK jal jam jax jao ja6 jaV ja8 jae jag jaf jaN jaC jaP jaw jaI jaZ jaG jaS jan jaU jaE jar jaL jah jaB jaa jaz jaH jab ja2 a0_s jaq jai jdj jaA jat jau jav jaj jko jaJ jak jad jay jac jko cyI jk9 a0_s cyI f0_s jdj cyI jgv) sz) := by
  refine Met.ofW (cc := cX11_worstOf) (maxL := 6) (ret := (some .int)) (by decide) rfl ?_
  intro p e s m args below meth c s₁ B hml hv
  obtain ⟨rfl, hsz, hP, hK, hD0, hNw⟩ := hv
  have hx := B.exec
  have hb := B.bytes
  have hr := B.returns
  have hts := atoms_spec (ws := wsX11_worstOf) B.pre
  have hown : s.vm.findClass RX11 = some m.cls := findClass_of_methodNamed B.named
  have hlocks := B.notSynchronized
  subst hsz
  have hD := hD0.self (sz := s.heap.size)
  generalize hAe : va_A (qqJ a0 jaX jaF jaD ja7 jby jbe jaM jaY jap jaK jal jam jax jao ja6 jaV ja8 jae jag jaf jaN jaC jaP jaw jaI jaZ jaG jaS jan jaU jaE jar jaL jah jaB jaa jaz jaH jab ja2 a0_s jaq jai jdj jaA jat jau jav jaj jko jaJ jak jad jay jac jko cyI jk9 a0_s cyI f0_s jdj cyI jgv) s.heap.size = A at hD ⊢
  have hA : ∀ q : Nat, s.heap.size ≤ q → A q := fun q h => by rw [← hAe]; exact Or.inr h
  have hS : va_S A s.heap s.heap [] := va_S.rf
  have hP : va_P (dC, dI) vwCl (qqJ a0 jaX jaF jaD ja7 jby jbe jaM jaY jap jaK jal jam jax jao ja6 jaV ja8 jae jag jaf jaN jaC jaP jaw jaI jaZ jaG jaS jan jaU jaE jar jaL jah jaB jaa jaz jaH jab ja2 a0_s jaq jai jdj jaA jat jau jav jaj jko jaJ jak jad jay jac jko cyI jk9 a0_s cyI f0_s jdj cyI jgv) s.heap := hP
  have hl := lv_entry ([.ref a0, .int p1]) (n := 6) (nbq rfl)
  rw [lg_entry_eq]
  generalize (lg_sl ([.ref a0, .int p1]) ++ List.replicate (6 - (lg_sl ([.ref a0, .int p1])).length) Slot.unset).toArray = ls at hl ⊢
  have hl : lv_has ls 6 [(0, .ref a0), (1, .int p1)] := hl
  have C0 : cfx p s m _ meth c cX11_worstOf (some .int) wsX11_worstOf RX11 6 A (dC, dI) (kT cyB cyI cyJ cyP) := ⟨hx, hb, hr, hts, hown, hlocks, hml, hA, hK, hNw⟩
  clear hAe
  obtain ⟨H, hH⟩ : ∃ H, H = s.heap := ⟨_, rfl⟩
  rw [← hH] at hP ⊢
  have hS : va_S A s.heap H [] := by rw [hH]; exact va_S.rf
  have hS := hS
  refine lv_iconst (v := 0) hx hb (qaa qfx 0 rfl) (by decide) ?_
  refine lv_istore_n (lv' := [(2, .int 0), (0, .ref a0), (1, .int p1)]) hx hb (qaa qfx 1 rfl) rfl hl (by decide) rfl (fun ls hl => ?_)
  obtain ⟨n9, hw⟩ := hw
  exact qatw dC dI cyB cyI cyJ cyP a0 jko a0_s jdj jaX jaF jaD ja7 jby jbe jaM jaY jap jaK jal jam jax jao ja6 jaV ja8 jae jag jaf jaP jaw jaI jaZ jaG jaS jan jaU jaE jar jaL jah jaB jaa jaz jaH jab ja2 jaq jai jaA jat jau jav jaj jaJ jak jad jay jac jaN jaC f0_s jgv Q C0 n9 _ _ _ jk9 p1 0 hP hD hS (lv_sub hl [1, 2, 0] rfl) hw
theorem qPg : ∀ w ∈ u_ws RX11 TX11 55, w ∈ wsX11_look := uiM qwE qfa (by decide +kernel)
theorem qaoO : (.fieldLink RX11 166 "MarchHaresModel" "forms" "I" : Cond) ∈ wsX11_look := qwE 519 (by decide +kernel)
theorem qaIV : (.fieldLink RX11 3 "MarchHaresModel" "thrown" "I" : Cond) ∈ wsX11_look := qwE 589 (by decide +kernel)
theorem qaBZ : (.fieldLink RX11 80 "MarchHaresModel" "book" "[I" : Cond) ∈ wsX11_look := qwE 460 (by decide +kernel)
set_option maxHeartbeats 4000000 in
set_option maxRecDepth 100000 in
theorem qUK {p : Program} {l : Launch} {e : Env} {s : State} {m : MethodId} {args : Array Value} {below : List Frame} {meth : Method} {c : Code} {A : Nat → Prop} (dC : Nat → ClassId) (dI : Nat → Nat → Nat) (cyB cyI cyJ cyP : ClassId) (a0 jaQ jaT a0_s jdj jko : Nat) (jaD ja7 jby jbe jaM jaY jap jaK jal jam jax jao ja6 jaV ja8 jae jag jaf jaP jaw jaI jaZ jaG jaS jan jaU jaE jar jaL jah jaB jaa jaz jaH jab jaq jai jaA jat jau jav jaj jaJ jak jad jay jac : Value) (jaN jaC : Int32) (jb2 jgv : NI) (Q : Int32 → Int32 → NI → NI → NI → Prop) (K33 : Int32 → NI → NI → NI → Int32 → Int32 → Int32 → Int32 → Prop) (hK33 : ∀ (H : Heap) (locs : List Loc) (ls : Array Slot) (jbd : Int32) (ja9 f0_s jk9 : NI) (l1 l2 l3 l4 : Int32), va_P (dC, dI) vwCl (qxc a0 jbd jaQ jaD ja7 jby jbe jaM jaY jap jaK jal jam jax jao ja6 jaV ja8 jae jag jaf jaN jaC jaP jaw jaI jaZ jaG jaS jan jaU jaE jar jaL jah jaB jaa jaz jaH jab jaT a0_s jaq jai jdj jaA jat jau jav jaj jko jaJ jak jad jay jac jaQ cyI ja9 jaT cyI jb2 a0_s cyI f0_s jdj cyI jgv jko cyI jk9) H → va_D A (qxc a0 jbd jaQ jaD ja7 jby jbe jaM jaY jap jaK jal jam jax jao ja6 jaV ja8 jae jag jaf jaN jaC jaP jaw jaI jaZ jaG jaS jan jaU jaE jar jaL jah jaB jaa jaz jaH jab jaT a0_s jaq jai jdj jaA jat jau jav jaj jko jaJ jak jad jay jac jaQ cyI ja9 jaT cyI jb2 a0_s cyI f0_s jdj cyI jgv jko cyI jk9) → va_S A s.heap H locs → lv_has ls 6 [(0, .ref a0), (1, .int l1), (2, .int l2), (3, .int l3), (4, .int l4)] → K33 jbd ja9 f0_s jk9 l1 l2 l3 l4 → W p l e (headSpec wsX11_look ({ frames := 4, cells := 0, slots := 0, locals := 96 })).room s m args below meth c H locs 0 0 (MQ below (va_Qi (fun (r : Int32) (u : Int32 × NI × NI × NI) => Q r u.1 u.2.1 u.2.2.1 u.2.2.2) (cB (dC, dI) (kT cyB cyI cyJ cyP) A (fun u : Int32 × NI × NI × NI => ((qxc a0 u.1 jaQ jaD ja7 jby jbe jaM jaY jap jaK jal jam jax jao ja6 jaV ja8 jae jag jaf jaN jaC jaP jaw jaI jaZ jaG jaS jan jaU jaE jar jaL jah jaB jaa jaz jaH jab jaT a0_s jaq jai jdj jaA jat jau jav jaj jko jaJ jak jad jay jac jaQ cyI u.2.1 jaT cyI jb2 a0_s cyI u.2.2.1 jdj cyI jgv jko cyI u.2.2.2) : va_W))) A) args s 0 0 A) (F0 m 33 ls [])) (C0 : cfx p s m args meth c cX11_look (some .int) wsX11_look RX11 6 A (dC, dI) (kT cyB cyI cyJ cyP)) : ∀ (H : Heap) (locs : List Loc) (ls : Array Slot) (jbd : Int32) (ja9 f0_s jk9 : NI) (l1 l2 l3 l4 : Int32), va_P (dC, dI) vwCl (qxc a0 jbd jaQ jaD ja7 jby jbe jaM jaY jap jaK jal jam jax jao ja6 jaV ja8 jae jag jaf jaN jaC jaP jaw jaI jaZ jaG jaS jan jaU jaE jar jaL jah jaB jaa jaz jaH jab jaT a0_s jaq jai jdj jaA jat jau jav jaj jko jaJ jak jad jay jac jaQ cyI ja9 jaT cyI jb2 a0_s cyI f0_s jdj cyI jgv jko cyI jk9) H → va_D A (qxc a0 jbd jaQ jaD ja7 jby jbe jaM jaY jap jaK jal jam jax jao ja6 jaV ja8 jae jag jaf jaN jaC jaP jaw jaI jaZ jaG jaS jan jaU jaE jar jaL jah jaB jaa jaz jaH jab jaT a0_s jaq jai jdj jaA jat jau jav jaj jko jaJ jak jad jay jac jaQ cyI ja9 jaT cyI jb2 a0_s cyI f0_s jdj cyI jgv jko cyI jk9) → va_S A s.heap H locs → lv_has ls 6 [(0, .ref a0), (1, .int l1), (2, .int l2), (3, .int l3), (4, .int l4)] → qK1 jaN jaC jb2 jgv Q K33 jbd ja9 f0_s jk9 l1 l2 l3 l4 → W p l e (headSpec wsX11_look ({ frames := 4, cells := 0, slots := 0, locals := 96 })).room s m args below meth c H locs 0 0 (MQ below (va_Qi (fun (r : Int32) (u : Int32 × NI × NI × NI) => Q r u.1 u.2.1 u.2.2.1 u.2.2.2) (cB (dC, dI) (kT cyB cyI cyJ cyP) A (fun u : Int32 × NI × NI × NI => ((qxc a0 u.1 jaQ jaD ja7 jby jbe jaM jaY jap jaK jal jam jax jao ja6 jaV ja8 jae jag jaf jaN jaC jaP jaw jaI jaZ jaG jaS jan jaU jaE jar jaL jah jaB jaa jaz jaH jab jaT a0_s jaq jai jdj jaA jat jau jav jaj jko jaJ jak jad jay jac jaQ cyI u.2.1 jaT cyI jb2 a0_s cyI u.2.2.1 jdj cyI jgv jko cyI u.2.2.2) : va_W))) A) args s 0 0 A) (F0 m 84 ls []) := by
  obtain ⟨hx, hb, hr, hts, hown, hlocks, hml, hA, hK, hNw⟩ := id C0
  intro H locs ls jbd ja9 f0_s jk9 l1 l2 l3 l4 hP hD hS hl hw
  obtain ⟨x15, ex15⟩ : ∃ y : Int32, y = l4 + 1 := ⟨_, rfl⟩
  have hw := hw x15 ex15
  refine lv_iinc (v := x15) (lv' := [(4, .int x15), (0, .ref a0), (1, .int l1), (2, .int l2), (3, .int l3)]) hx hb (qaa qtO 0 rfl) hl (k := 4) rfl (by rw [ex15]; rfl) (by decide) rfl (fun ls hl => ?_)
  refine lv_goto (tgt := 33) hx hb (qaa qtO 1 rfl) (by decide) ?_
  exact hK33 _ _ _ jbd ja9 f0_s jk9 l1 l2 l3 x15 hP hD hS (lv_sub hl [1, 2, 3, 4, 0] rfl) hw
set_option maxHeartbeats 4000000 in
set_option maxRecDepth 100000 in
theorem q7x {p : Program} {l : Launch} {e : Env} {s : State} {m : MethodId} {args : Array Value} {below : List Frame} {meth : Method} {c : Code} {A : Nat → Prop} (dC : Nat → ClassId) (dI : Nat → Nat → Nat) (cyB cyI cyJ cyP : ClassId) (a0 jaQ jaT a0_s jdj jko : Nat) (jaD ja7 jby jbe jaM jaY jap jaK jal jam jax jao ja6 jaV ja8 jae jag jaf jaP jaw jaI jaZ jaG jaS jan jaU jaE jar jaL jah jaB jaa jaz jaH jab jaq jai jaA jat jau jav jaj jaJ jak jad jay jac : Value) (jaN jaC : Int32) (jb2 jgv : NI) (Q : Int32 → Int32 → NI → NI → NI → Prop) (K33 : Int32 → NI → NI → NI → Int32 → Int32 → Int32 → Int32 → Prop) (hK33 : ∀ (H : Heap) (locs : List Loc) (ls : Array Slot) (jbd : Int32) (ja9 f0_s jk9 : NI) (l1 l2 l3 l4 : Int32), va_P (dC, dI) vwCl (qxc a0 jbd jaQ jaD ja7 jby jbe jaM jaY jap jaK jal jam jax jao ja6 jaV ja8 jae jag jaf jaN jaC jaP jaw jaI jaZ jaG jaS jan jaU jaE jar jaL jah jaB jaa jaz jaH jab jaT a0_s jaq jai jdj jaA jat jau jav jaj jko jaJ jak jad jay jac jaQ cyI ja9 jaT cyI jb2 a0_s cyI f0_s jdj cyI jgv jko cyI jk9) H → va_D A (qxc a0 jbd jaQ jaD ja7 jby jbe jaM jaY jap jaK jal jam jax jao ja6 jaV ja8 jae jag jaf jaN jaC jaP jaw jaI jaZ jaG jaS jan jaU jaE jar jaL jah jaB jaa jaz jaH jab jaT a0_s jaq jai jdj jaA jat jau jav jaj jko jaJ jak jad jay jac jaQ cyI ja9 jaT cyI jb2 a0_s cyI f0_s jdj cyI jgv jko cyI jk9) → va_S A s.heap H locs → lv_has ls 6 [(0, .ref a0), (1, .int l1), (2, .int l2), (3, .int l3), (4, .int l4)] → K33 jbd ja9 f0_s jk9 l1 l2 l3 l4 → W p l e (headSpec wsX11_look ({ frames := 4, cells := 0, slots := 0, locals := 96 })).room s m args below meth c H locs 0 0 (MQ below (va_Qi (fun (r : Int32) (u : Int32 × NI × NI × NI) => Q r u.1 u.2.1 u.2.2.1 u.2.2.2) (cB (dC, dI) (kT cyB cyI cyJ cyP) A (fun u : Int32 × NI × NI × NI => ((qxc a0 u.1 jaQ jaD ja7 jby jbe jaM jaY jap jaK jal jam jax jao ja6 jaV ja8 jae jag jaf jaN jaC jaP jaw jaI jaZ jaG jaS jan jaU jaE jar jaL jah jaB jaa jaz jaH jab jaT a0_s jaq jai jdj jaA jat jau jav jaj jko jaJ jak jad jay jac jaQ cyI u.2.1 jaT cyI jb2 a0_s cyI u.2.2.1 jdj cyI jgv jko cyI u.2.2.2) : va_W))) A) args s 0 0 A) (F0 m 33 ls [])) (C0 : cfx p s m args meth c cX11_look (some .int) wsX11_look RX11 6 A (dC, dI) (kT cyB cyI cyJ cyP)) : ∀ (H : Heap) (locs : List Loc) (ls : Array Slot) (jbd : Int32) (ja9 f0_s jk9 : NI) (l1 l4 l5 : Int32), va_P (dC, dI) vwCl (qxc a0 jbd jaQ jaD ja7 jby jbe jaM jaY jap jaK jal jam jax jao ja6 jaV ja8 jae jag jaf jaN jaC jaP jaw jaI jaZ jaG jaS jan jaU jaE jar jaL jah jaB jaa jaz jaH jab jaT a0_s jaq jai jdj jaA jat jau jav jaj jko jaJ jak jad jay jac jaQ cyI ja9 jaT cyI jb2 a0_s cyI f0_s jdj cyI jgv jko cyI jk9) H → va_D A (qxc a0 jbd jaQ jaD ja7 jby jbe jaM jaY jap jaK jal jam jax jao ja6 jaV ja8 jae jag jaf jaN jaC jaP jaw jaI jaZ jaG jaS jan jaU jaE jar jaL jah jaB jaa jaz jaH jab jaT a0_s jaq jai jdj jaA jat jau jav jaj jko jaJ jak jad jay jac jaQ cyI ja9 jaT cyI jb2 a0_s cyI f0_s jdj cyI jgv jko cyI jk9) → va_S A s.heap H locs → lv_has ls 6 [(0, .ref a0), (1, .int l1), (4, .int l4), (5, .int l5)] → qUm jaN jaC jb2 jgv Q K33 jbd ja9 f0_s jk9 l1 l4 l5 → W p l e (headSpec wsX11_look ({ frames := 4, cells := 0, slots := 0, locals := 96 })).room s m args below meth c H locs 0 0 (MQ below (va_Qi (fun (r : Int32) (u : Int32 × NI × NI × NI) => Q r u.1 u.2.1 u.2.2.1 u.2.2.2) (cB (dC, dI) (kT cyB cyI cyJ cyP) A (fun u : Int32 × NI × NI × NI => ((qxc a0 u.1 jaQ jaD ja7 jby jbe jaM jaY jap jaK jal jam jax jao ja6 jaV ja8 jae jag jaf jaN jaC jaP jaw jaI jaZ jaG jaS jan jaU jaE jar jaL jah jaB jaa jaz jaH jab jaT a0_s jaq jai jdj jaA jat jau jav jaj jko jaJ jak jad jay jac jaQ cyI u.2.1 jaT cyI jb2 a0_s cyI u.2.2.1 jdj cyI jgv jko cyI u.2.2.2) : va_W))) A) args s 0 0 A) (F0 m 78 ls []) := by
  obtain ⟨hx, hb, hr, hts, hown, hlocks, hml, hA, hK, hNw⟩ := id C0
  intro H locs ls jbd ja9 f0_s jk9 l1 l4 l5 hP hD hS hl hw
  refine lv_iload hx hb (qaa qju 12 rfl) (lv_at hl 2 rfl) ?_
  refine lv_istore_n (lv' := [(2, .int l4), (0, .ref a0), (1, .int l1), (4, .int l4), (5, .int l5)]) hx hb (qaa qju 13 rfl) rfl hl (by decide) rfl (fun ls hl => ?_)
  refine lv_iload hx hb (qaa qju 14 rfl) (lv_at hl 4 rfl) ?_
  refine lv_istore_n (lv' := [(3, .int l5), (2, .int l4), (0, .ref a0), (1, .int l1), (4, .int l4), (5, .int l5)]) hx hb (qaa qju 15 rfl) rfl hl (by decide) rfl (fun ls hl => ?_)
  exact qUK dC dI cyB cyI cyJ cyP a0 jaQ jaT a0_s jdj jko jaD ja7 jby jbe jaM jaY jap jaK jal jam jax jao ja6 jaV ja8 jae jag jaf jaP jaw jaI jaZ jaG jaS jan jaU jaE jar jaL jah jaB jaa jaz jaH jab jaq jai jaA jat jau jav jaj jaJ jak jad jay jac jaN jaC jb2 jgv Q K33 hK33 C0 _ _ _ jbd ja9 f0_s jk9 l1 l4 l5 l4 hP hD hS (lv_sub hl [2, 3, 1, 0, 4] rfl) hw
set_option maxHeartbeats 4000000 in
set_option maxRecDepth 100000 in
theorem qaK5 {p : Program} {l : Launch} {e : Env} {s : State} {m : MethodId} {args : Array Value} {below : List Frame} {meth : Method} {c : Code} {A : Nat → Prop} (dC : Nat → ClassId) (dI : Nat → Nat → Nat) (cyB cyI cyJ cyP : ClassId) (a0 jaQ jaT a0_s jdj jko : Nat) (jaD ja7 jby jbe jaM jaY jap jaK jal jam jax jao ja6 jaV ja8 jae jag jaf jaP jaw jaI jaZ jaG jaS jan jaU jaE jar jaL jah jaB jaa jaz jaH jab jaq jai jaA jat jau jav jaj jaJ jak jad jay jac : Value) (jaN jaC : Int32) (jb2 jgv : NI) (Q : Int32 → Int32 → NI → NI → NI → Prop) (C0 : cfx p s m args meth c cX11_look (some .int) wsX11_look RX11 6 A (dC, dI) (kT cyB cyI cyJ cyP)) : ∀ (n : Nat) (H : Heap) (locs : List Loc) (ls : Array Slot) (jbd : Int32) (ja9 f0_s jk9 : NI) (l1 l2 l3 l4 : Int32), va_P (dC, dI) vwCl (qxc a0 jbd jaQ jaD ja7 jby jbe jaM jaY jap jaK jal jam jax jao ja6 jaV ja8 jae jag jaf jaN jaC jaP jaw jaI jaZ jaG jaS jan jaU jaE jar jaL jah jaB jaa jaz jaH jab jaT a0_s jaq jai jdj jaA jat jau jav jaj jko jaJ jak jad jay jac jaQ cyI ja9 jaT cyI jb2 a0_s cyI f0_s jdj cyI jgv jko cyI jk9) H → va_D A (qxc a0 jbd jaQ jaD ja7 jby jbe jaM jaY jap jaK jal jam jax jao ja6 jaV ja8 jae jag jaf jaN jaC jaP jaw jaI jaZ jaG jaS jan jaU jaE jar jaL jah jaB jaa jaz jaH jab jaT a0_s jaq jai jdj jaA jat jau jav jaj jko jaJ jak jad jay jac jaQ cyI ja9 jaT cyI jb2 a0_s cyI f0_s jdj cyI jgv jko cyI jk9) → va_S A s.heap H locs → lv_has ls 6 [(0, .ref a0), (1, .int l1), (2, .int l2), (3, .int l3), (4, .int l4)] → qqz jaN jaC jb2 jgv Q n jbd ja9 f0_s jk9 l1 l2 l3 l4 → W p l e (headSpec wsX11_look ({ frames := 4, cells := 0, slots := 0, locals := 96 })).room s m args below meth c H locs 0 0 (MQ below (va_Qi (fun (r : Int32) (u : Int32 × NI × NI × NI) => Q r u.1 u.2.1 u.2.2.1 u.2.2.2) (cB (dC, dI) (kT cyB cyI cyJ cyP) A (fun u : Int32 × NI × NI × NI => ((qxc a0 u.1 jaQ jaD ja7 jby jbe jaM jaY jap jaK jal jam jax jao ja6 jaV ja8 jae jag jaf jaN jaC jaP jaw jaI jaZ jaG jaS jan jaU jaE jar jaL jah jaB jaa jaz jaH jab jaT a0_s jaq jai jdj jaA jat jau jav jaj jko jaJ jak jad jay jac jaQ cyI u.2.1 jaT cyI jb2 a0_s cyI u.2.2.1 jdj cyI jgv jko cyI u.2.2.2) : va_W))) A) args s 0 0 A) (F0 m 33 ls []) := by
  obtain ⟨hx, hb, hr, hts, hown, hlocks, hml, hA, hK, hNw⟩ := id C0
  intro n
  induction n with
  | zero => intro H locs ls jbd ja9 f0_s jk9 l1 l2 l3 l4 hP hD hS hl hw; exact False.elim hw
  | succ n ih =>
    intro H locs ls jbd ja9 f0_s jk9 l1 l2 l3 l4 hP hD hS hl hw
    refine lv_iload hx hb (qaa qiL 6 rfl) (lv_at hl 4 rfl) ?_
    refine lv_aload_n hx hb (qaa qiL 7 rfl) rfl (lv_at hl 0 rfl) ?_
    refine va_get (D := (dC, dI)) (ci := 11) (v := .int jaN) (C := RX11) (T := TX11) (N := 55) hx hb hts qPg hown hK hP 0 rfl rfl 20 (by decide) (hts _ qaoO) (fun _ h9 => h9) rfl (qaa qiL 8 rfl) ?_
    refine lv_icmp_ge (tgt := 90) hx hb (qaa qiL 9 rfl) (by decide) (fun c7 => ?_) (fun c7 => ?_)
    · have hw := hw.1 c7
      refine lv_iload_n hx hb (qaa qtO 2 rfl) rfl (lv_at hl 1 rfl) ?_
      refine lv_if_ne (tgt := 98) hx hb (qaa qtO 3 rfl) (by decide) (fun c8 => ?_) (fun c8 => ?_)
      · have hw := hw.1 c8
        refine lv_iload_n hx hb (qaa qtO 6 rfl) rfl (lv_at hl 3 rfl) ?_
        exact ((W.iret (v := l3) hx hb hr (fun t ht hW => ⟨⟨l3, (jbd, ja9, f0_s, jk9), rfl, hw, by rw [ht]; exact hP, va_K.moved hW.alike hK, hD⟩, hS.F ht⟩) hS.2.2 (qaa qtO 7 rfl)))
      · have hw := hw.2 c8
        refine lv_iload_n hx hb (qaa qtO 4 rfl) rfl (lv_at hl 2 rfl) ?_
        refine lv_goto (tgt := 99) hx hb (qaa qtO 5 rfl) (by decide) ?_
        exact ((W.iret (v := l2) hx hb hr (fun t ht hW => ⟨⟨l2, (jbd, ja9, f0_s, jk9), rfl, hw, by rw [ht]; exact hP, va_K.moved hW.alike hK, hD⟩, hS.F ht⟩) hS.2.2 (qaa qtO 7 rfl)))
    · have hw := hw.2 c7
      refine lv_aload_n hx hb (qaa qiL 10 rfl) rfl (lv_at hl 0 rfl) ?_
      refine va_get (D := (dC, dI)) (ci := 11) (v := .ref jdj) (C := RX11) (T := TX11) (N := 55) hx hb hts qPg hown hK hP 0 rfl rfl 43 (by decide) (hts _ qaBZ) (fun _ h9 => h9) rfl (qaa qiL 11 rfl) ?_
      refine lv_iload hx hb (qaa qiL 12 rfl) (lv_at hl 4 rfl) ?_
      obtain ⟨hi9, hw⟩ := hw
      refine va_iald hx hb hK hP 4 1 rfl rfl hi9 (qaa qiL 13 rfl) ?_
      refine lv_topi (fun x9 ex9 => ?_)
      have hw := hw x9 ex9
      refine lv_iconst (v := (-1)) hx hb (qaa qiL 14 rfl) (by decide) ?_
      refine lv_icmp_eq (tgt := 56) hx hb (qaa qiL 15 rfl) (by decide) (fun c10 => ?_) (fun c10 => ?_)
      · have hw := hw.1 c10
        refine lv_aload_n hx hb (qaa qju 1 rfl) rfl (lv_at hl 0 rfl) ?_
        refine lv_iload hx hb (qaa qju 2 rfl) (lv_at hl 4 rfl) ?_
        obtain ⟨hCc, hPc, hDc, hFc⟩ := qac (ws' := (qbej a0 jbd jaQ jaD ja7 jby jbe jaM jaY jap jaK jal jam jax jao ja6 jaV ja8 jae jag jaf jaN jaC jaP jaw jaI jaZ jaG jaS jan jaU jaE jar jaL jah jaB jaa jaz jaH jab jaT a0_s jaq jai jdj jaA jat jau jav jaj jko jaJ jak jad jay jac jko cyI jk9 a0_s cyI f0_s jdj cyI jgv)) hP hD hS hA [0, 5, 3, 4] (by decide +kernel) rfl
        refine va_calli (va_runV (As := [.int l4]) (rest := []) ⟨hx, hb, hml, hown, hts⟩ (qaHe l dC dI cyB cyI cyJ cyP a0 jko a0_s jdj H.size (.int jbd) (.ref jaQ) (jaD) (ja7) (jby) (jbe) (jaM) (jaY) (jap) (jaK) (jal) (jam) (jax) (jao) (ja6) (jaV) (ja8) (jae) (jag) (jaf) (jaP) (jaw) (jaI) (jaZ) (jaG) (jaS) (jan) (jaU) (jaE) (jar) (jaL) (jah) (jaB) (jaa) (jaz) (jaH) (jab) (.ref jaT) (jaq) (jai) (jaA) (jat) (jau) (jav) (jaj) (jaJ) (jak) (jad) (jay) (jac) jaN jaC f0_s jgv jk9 l4 hw) (cwV 1 hts gX11_look_X11_worstOf rfl rfl rfl (by decide +kernel) ⟨nbq rfl, nbq rfl⟩) ⟨qab, va_recv (q := (RX11, TX11, 55)) hK hPc (ci := 11) (q0 := 0) rfl rfl, qae hPc hK hDc hNw⟩ rfl rfl hl.1 rfl (lv_room (nbq rfl)) (qaa qju 3 rfl) ⟨nbq rfl, nbq rfl⟩) hS (fun q _ h => hFc q h) hFc (fun r12 u t H1 locs ht hvm hw hB hz1 hk1 hS => ?_)
        obtain ⟨f11, rfl⟩ : ∃ z, z = u := ⟨_, rfl⟩
        obtain ⟨hP1, hK1, hD1⟩ := hB
        rw [ht] at hP1
        obtain ⟨hP, hD⟩ := qad (wr := (qbc0 jaQ cyI ja9 jaT cyI jb2)) (w1 := (qbej a0 jbd jaQ jaD ja7 jby jbe jaM jaY jap jaK jal jam jax jao ja6 jaV ja8 jae jag jaf jaN jaC jaP jaw jaI jaZ jaG jaS jan jaU jaE jar jaL jah jaB jaa jaz jaH jab jaT a0_s jaq jai jdj jaA jat jau jav jaj jko jaJ jak jad jay jac jko cyI f11 a0_s cyI f0_s jdj cyI jgv)) (wn := (qxc a0 jbd jaQ jaD ja7 jby jbe jaM jaY jap jaK jal jam jax jao ja6 jaV ja8 jae jag jaf jaN jaC jaP jaw jaI jaZ jaG jaS jan jaU jaE jar jaL jah jaB jaa jaz jaH jab jaT a0_s jaq jai jdj jaA jat jau jav jaj jko jaJ jak jad jay jac jaQ cyI ja9 jaT cyI jb2 a0_s cyI f0_s jdj cyI jgv jko cyI f11)) hP hD [0, 5, 3, 4] [1, 2] [2, 0, 1, 4, 5, 3] hCc rfl (by decide +kernel) (by decide +kernel) (by decide +kernel) rfl hk1 hFc hP1 hD1
        generalize H1 = H at hP hS ⊢
        refine lv_istore (lv' := [(5, .int r12), (0, .ref a0), (1, .int l1), (2, .int l2), (3, .int l3), (4, .int l4)]) hx hb (qaa qju 4 rfl) hl (by decide) rfl (fun ls hl => ?_)
        refine lv_iload_n hx hb (qaa qju 5 rfl) rfl (lv_at hl 3 rfl) ?_
        refine lv_iconst (v := (-1)) hx hb (qaa qju 6 rfl) (by decide) ?_
        refine lv_icmp_eq (tgt := 78) hx hb (qaa qju 7 rfl) (by decide) (fun c13 => ?_) (fun c13 => ?_)
        · have hw := hw.1 c13
          exact q7x dC dI cyB cyI cyJ cyP a0 jaQ jaT a0_s jdj jko jaD ja7 jby jbe jaM jaY jap jaK jal jam jax jao ja6 jaV ja8 jae jag jaf jaP jaw jaI jaZ jaG jaS jan jaU jaE jar jaL jah jaB jaa jaz jaH jab jaq jai jaA jat jau jav jaj jaJ jak jad jay jac jaN jaC jb2 jgv Q (qqz jaN jaC jb2 jgv Q n) ih C0 _ _ _ jbd ja9 f0_s f11 l1 l4 r12 hP hD hS (lv_sub hl [1, 2, 5, 0] rfl) hw
        · have hw := hw.2 c13
          refine lv_iload hx hb (qaa qju 8 rfl) (lv_at hl 0 rfl) ?_
          refine lv_iload_n hx hb (qaa qju 9 rfl) rfl (lv_at hl 4 rfl) ?_
          refine lv_icmp_lt (tgt := 78) hx hb (qaa qju 10 rfl) (by decide) (fun c14 => ?_) (fun c14 => ?_)
          · have hw := hw.1 c14
            exact q7x dC dI cyB cyI cyJ cyP a0 jaQ jaT a0_s jdj jko jaD ja7 jby jbe jaM jaY jap jaK jal jam jax jao ja6 jaV ja8 jae jag jaf jaP jaw jaI jaZ jaG jaS jan jaU jaE jar jaL jah jaB jaa jaz jaH jab jaq jai jaA jat jau jav jaj jaJ jak jad jay jac jaN jaC jb2 jgv Q (qqz jaN jaC jb2 jgv Q n) ih C0 _ _ _ jbd ja9 f0_s f11 l1 l4 r12 hP hD hS (lv_sub hl [1, 2, 5, 0] rfl) hw
          · have hw := hw.2 c14
            refine lv_goto (tgt := 84) hx hb (qaa qju 11 rfl) (by decide) ?_
            exact qUK dC dI cyB cyI cyJ cyP a0 jaQ jaT a0_s jdj jko jaD ja7 jby jbe jaM jaY jap jaK jal jam jax jao ja6 jaV ja8 jae jag jaf jaP jaw jaI jaZ jaG jaS jan jaU jaE jar jaL jah jaB jaa jaz jaH jab jaq jai jaA jat jau jav jaj jaJ jak jad jay jac jaN jaC jb2 jgv Q (qqz jaN jaC jb2 jgv Q n) ih C0 _ _ _ jbd ja9 f0_s f11 l1 l2 l3 l4 hP hD hS (lv_sub hl [1, 2, 3, 4, 5] rfl) hw
      · have hw := hw.2 c10
        refine lv_goto (tgt := 84) hx hb (qaa qju 0 rfl) (by decide) ?_
        exact qUK dC dI cyB cyI cyJ cyP a0 jaQ jaT a0_s jdj jko jaD ja7 jby jbe jaM jaY jap jaK jal jam jax jao ja6 jaV ja8 jae jag jaf jaP jaw jaI jaZ jaG jaS jan jaU jaE jar jaL jah jaB jaa jaz jaH jab jaq jai jaA jat jau jav jaj jaJ jak jad jay jac jaN jaC jb2 jgv Q (qqz jaN jaC jb2 jgv Q n) ih C0 _ _ _ jbd ja9 f0_s jk9 l1 l2 l3 l4 hP hD hS (lv_sub hl [0, 1, 2, 3, 4] rfl) hw
set_option maxHeartbeats 4000000 in
set_option maxRecDepth 100000 in
theorem qaXy (l : Launch) (dC : Nat → ClassId) (dI : Nat → Nat → Nat) (cyB cyI cyJ cyP : ClassId) (a0 jaQ jaT a0_s jdj jko sz : Nat) (jaD ja7 jby jbe jaM jaY jap jaK jal jam jax jao ja6 jaV ja8 jae jag jaf jaP jaw jaI jaZ jaG jaS jan jaU jaE jar jaL jah jaB jaa jaz jaH jab jaq jai jaA jat jau jav jaj jaJ jak jad jay jac : Value) (jaN jaC : Int32) (jb2 jgv : NI) (jbd : Int32) (ja9 f0_s jk9 : NI) (p1 : Int32) {Q : Int32 → Int32 → NI → NI → NI → Prop} (hw : qaas jaN jaC jb2 jgv jbd ja9 f0_s jk9 p1 Q) : Met l yX11_look wsX11_look ({ frames := 4, cells := 0, slots := 0, locals := 96 }) (va_Pc [.ref a0, .int p1] (cPc (dC, dI) (kT cyB cyI cyJ cyP) (qxc a0 jbd jaQ jaD ja7 jby jbe jaM jaY jap jaK jal jam jax jao ja6 jaV ja8 jae jag jaf jaN jaC jaP jaw jaI jaZ jaG jaS jan jaU jaE jar jaL jah jaB jaa jaz jaH jab jaT a0_s jaq jai jdj jaA jat jau jav jaj jko jaJ jak jad jay jac jaQ cyI ja9 jaT cyI jb2 a0_s cyI f0_s jdj cyI jgv jko cyI jk9) sz)) (va_Qi (fun (r : Int32) (u : Int32 × NI × NI × NI) => Q r u.1 u.2.1 u.2.2.1 u.2.2.2) (cB (dC, dI) (kT cyB cyI cyJ cyP) (va_A (qxc a0 jbd jaQ jaD ja7 jby jbe jaM jaY jap jaK jal jam jax jao ja6 jaV ja8 jae jag jaf jaN jaC jaP jaw jaI jaZ jaG jaS jan jaU jaE jar jaL jah jaB jaa jaz jaH jab jaT a0_s jaq jai jdj jaA jat jau jav jaj jko jaJ jak jad jay jac jaQ cyI ja9 jaT cyI jb2 a0_s cyI f0_s jdj cyI jgv jko cyI jk9) sz) (fun u : Int32 × NI × NI × NI => ((qxc a0 u.1 jaQ jaD ja7 jby jbe jaM jaY jap jaK jal jam jax jao ja6 jaV ja8 jae jag jaf jaN jaC jaP jaw jaI jaZ jaG jaS jan jaU jaE jar jaL jah jaB jaa jaz jaH jab jaT a0_s jaq jai jdj jaA jat jau jav jaj jko jaJ jak jad jay jac jaQ cyI u.2.1 jaT cyI jb2 a0_s cyI u.2.2.1 jdj cyI jgv jko cyI u.2.2.2) : va_W))) (va_A (qxc a0 jbd jaQ jaD ja7 jby jbe jaM jaY jap jaK jal jam jax jao ja6 jaV ja8 jae jag jaf jaN jaC jaP jaw jaI jaZ jaG jaS jan jaU jaE jar jaL jah jaB jaa jaz jaH jab jaT a0_s jaq jai jdj jaA jat jau jav jaj jko jaJ jak jad jay jac jaQ cyI ja9 jaT cyI jb2 a0_s cyI f0_s jdj cyI jgv jko cyI jk9) sz)) 0 0 (va_A (qxc a0 jbd jaQ jaD ja7 jby jbe jaM jaY jap jaK jal jam jax jao ja6 jaV ja8 jae jag jaf jaN jaC jaP jaw jaI jaZ jaG jaS jan jaU jaE jar jaL jah jaB jaa jaz jaH jab jaT a0_s jaq jai jdj jaA jat jau jav jaj jko jaJ jak jad jay jac jaQ cyI ja9 jaT cyI jb2 a0_s cyI f0_s jdj cyI jgv jko cyI jk9) sz) := by
  refine Met.ofW (cc := cX11_look) (maxL := 6) (ret := (some .int)) (by decide) rfl ?_
  intro p e s m args below meth c s₁ B hml hv
  obtain ⟨rfl, hsz, hP, hK, hD0, hNw⟩ := hv
  have hx := B.exec
  have hb := B.bytes
  have hr := B.returns
  have hts := atoms_spec (ws := wsX11_look) B.pre
  have hown : s.vm.findClass RX11 = some m.cls := findClass_of_methodNamed B.named
  have hlocks := B.notSynchronized
  subst hsz
  have hD := hD0.self (sz := s.heap.size)
  generalize hAe : va_A (qxc a0 jbd jaQ jaD ja7 jby jbe jaM jaY jap jaK jal jam jax jao ja6 jaV ja8 jae jag jaf jaN jaC jaP jaw jaI jaZ jaG jaS jan jaU jaE jar jaL jah jaB jaa jaz jaH jab jaT a0_s jaq jai jdj jaA jat jau jav jaj jko jaJ jak jad jay jac jaQ cyI ja9 jaT cyI jb2 a0_s cyI f0_s jdj cyI jgv jko cyI jk9) s.heap.size = A at hD ⊢
  have hA : ∀ q : Nat, s.heap.size ≤ q → A q := fun q h => by rw [← hAe]; exact Or.inr h
  have hS : va_S A s.heap s.heap [] := va_S.rf
  have hP : va_P (dC, dI) vwCl (qxc a0 jbd jaQ jaD ja7 jby jbe jaM jaY jap jaK jal jam jax jao ja6 jaV ja8 jae jag jaf jaN jaC jaP jaw jaI jaZ jaG jaS jan jaU jaE jar jaL jah jaB jaa jaz jaH jab jaT a0_s jaq jai jdj jaA jat jau jav jaj jko jaJ jak jad jay jac jaQ cyI ja9 jaT cyI jb2 a0_s cyI f0_s jdj cyI jgv jko cyI jk9) s.heap := hP
  have hl := lv_entry ([.ref a0, .int p1]) (n := 6) (nbq rfl)
  rw [lg_entry_eq]
  generalize (lg_sl ([.ref a0, .int p1]) ++ List.replicate (6 - (lg_sl ([.ref a0, .int p1])).length) Slot.unset).toArray = ls at hl ⊢
  have hl : lv_has ls 6 [(0, .ref a0), (1, .int p1)] := hl
  have C0 : cfx p s m _ meth c cX11_look (some .int) wsX11_look RX11 6 A (dC, dI) (kT cyB cyI cyJ cyP) := ⟨hx, hb, hr, hts, hown, hlocks, hml, hA, hK, hNw⟩
  clear hAe
  obtain ⟨H, hH⟩ : ∃ H, H = s.heap := ⟨_, rfl⟩
  rw [← hH] at hP ⊢
  have hS : va_S A s.heap H [] := by rw [hH]; exact va_S.rf
  have hS := hS
  refine lv_aload_n hx hb (qaa qlE 0 rfl) rfl (lv_at hl 0 rfl) ?_
  refine lv_iconst (v := 0) hx hb (qaa qlE 1 rfl) (by decide) ?_
  refine va_put (D := (dC, dI)) (ci := 11) (v := .int 0) (ty := .int) (C := RX11) (T := TX11) (N := 55) hx hb hts qPg tyX11 tyX11_ok nmX11 hown hK hP hD hS 0 rfl rfl 0 (by decide) (hts _ qaIV) (fun _ h9 => h9) rfl (by decide +kernel) rfl rfl (nbq rfl) (qaa qlE 2 rfl) (fun H locs hP hD hS => ?_)
  have hP : va_P (dC, dI) vwCl (qxc a0 0 jaQ jaD ja7 jby jbe jaM jaY jap jaK jal jam jax jao ja6 jaV ja8 jae jag jaf jaN jaC jaP jaw jaI jaZ jaG jaS jan jaU jaE jar jaL jah jaB jaa jaz jaH jab jaT a0_s jaq jai jdj jaA jat jau jav jaj jko jaJ jak jad jay jac jaQ cyI ja9 jaT cyI jb2 a0_s cyI f0_s jdj cyI jgv jko cyI jk9) H := hP
  have hD : va_D A (qxc a0 0 jaQ jaD ja7 jby jbe jaM jaY jap jaK jal jam jax jao ja6 jaV ja8 jae jag jaf jaN jaC jaP jaw jaI jaZ jaG jaS jan jaU jaE jar jaL jah jaB jaa jaz jaH jab jaT a0_s jaq jai jdj jaA jat jau jav jaj jko jaJ jak jad jay jac jaQ cyI ja9 jaT cyI jb2 a0_s cyI f0_s jdj cyI jgv jko cyI jk9) := hD
  refine lv_aload_n hx hb (qaa qlE 3 rfl) rfl (lv_at hl 0 rfl) ?_
  refine lv_iload_n hx hb (qaa qlE 4 rfl) rfl (lv_at hl 1 rfl) ?_
  refine lv_iconst (v := 0) hx hb (qaa qlE 5 rfl) (by decide) ?_
  refine lv_iconst (v := 1) hx hb (qaa qlE 6 rfl) (by decide) ?_
  obtain ⟨hCc, hPc, hDc, hFc⟩ := qac (ws' := []) hP hD hS hA [] (by decide +kernel) rfl
  refine va_calli (va_runS (As := [.int p1, .int 0, .int 1]) (rest := [.ref a0]) ⟨hx, hb, hml, hown, hts⟩ (qbG l dC dI cyB cyI cyJ cyP H.size p1 0 1 hw) (va_cwS 3 hts gX11_look_X11_within rfl rfl rfl (by decide +kernel) ⟨nbq rfl, nbq rfl⟩) ⟨qab, qae hPc hK hDc hNw⟩ rfl rfl hl.1 rfl (lv_room (nbq rfl)) (qaa qlE 7 rfl) ⟨nbq rfl, nbq rfl⟩) hS (fun q _ h => hFc q h) hFc (fun r1 u t H1 locs ht hvm hw hB hz1 hk1 hS => ?_)
  obtain ⟨hP1, hK1, hD1⟩ := hB
  rw [ht] at hP1
  obtain ⟨hP, hD⟩ := qah (wr := (qxc a0 0 jaQ jaD ja7 jby jbe jaM jaY jap jaK jal jam jax jao ja6 jaV ja8 jae jag jaf jaN jaC jaP jaw jaI jaZ jaG jaS jan jaU jaE jar jaL jah jaB jaa jaz jaH jab jaT a0_s jaq jai jdj jaA jat jau jav jaj jko jaJ jak jad jay jac jaQ cyI ja9 jaT cyI jb2 a0_s cyI f0_s jdj cyI jgv jko cyI jk9)) (w1 := []) (wn := (qxc a0 0 jaQ jaD ja7 jby jbe jaM jaY jap jaK jal jam jax jao ja6 jaV ja8 jae jag jaf jaN jaC jaP jaw jaI jaZ jaG jaS jan jaU jaE jar jaL jah jaB jaa jaz jaH jab jaT a0_s jaq jai jdj jaA jat jau jav jaj jko jaJ jak jad jay jac jaQ cyI ja9 jaT cyI jb2 a0_s cyI f0_s jdj cyI jgv jko cyI jk9)) hP hD [] [0, 1, 2, 3, 4, 5] hCc rfl (by decide +kernel) (by decide +kernel) rfl hk1 hFc hP1 hD1
  generalize H1 = H at hP hS ⊢
  refine lv_iconst (v := 1) hx hb (qaa qlE 8 rfl) (by decide) ?_
  refine lv_iconst (v := 1) hx hb (qaa qlE 9 rfl) (by decide) ?_
  obtain ⟨hCc, hPc, hDc, hFc⟩ := qac (ws' := (qbdC a0 0 jaQ jaD ja7 jby jbe jaM jaY jap jaK jal jam jax jao ja6 jaV ja8 jae jag jaf jaN jaC jaP jaw jaI jaZ jaG jaS jan jaU jaE jar jaL jah jaB jaa jaz jaH jab jaT a0_s jaq jai jdj jaA jat jau jav jaj jko jaJ jak jad jay jac jaQ cyI ja9)) hP hD hS hA [0, 1] (by decide +kernel) rfl
  refine va_calli (va_runV (As := [.int r1, .int 1, .int 1]) (rest := []) ⟨hx, hb, hml, hown, hts⟩ (qkE l dC dI cyB cyI cyJ cyP a0 jaQ H.size (jaD) (ja7) (jby) (jbe) (jaM) (jaY) (jap) (jaK) (jal) (jam) (jax) (jao) (ja6) (jaV) (ja8) (jae) (jag) (jaf) (.int jaN) (.int jaC) (jaP) (jaw) (jaI) (jaZ) (jaG) (jaS) (jan) (jaU) (jaE) (jar) (jaL) (jah) (jaB) (jaa) (jaz) (jaH) (jab) (.ref jaT) (.ref a0_s) (jaq) (jai) (.ref jdj) (jaA) (jat) (jau) (jav) (jaj) (.ref jko) (jaJ) (jak) (jad) (jay) (jac) 0 ja9 r1 1 1 hw) (cwV 3 hts gX11_look_X11_may rfl rfl rfl (by decide +kernel) ⟨nbq rfl, nbq rfl⟩) ⟨qab, va_recv (q := (RX11, TX11, 55)) hK hPc (ci := 11) (q0 := 0) rfl rfl, qae hPc hK hDc hNw⟩ rfl rfl hl.1 rfl (lv_room (nbq rfl)) (qaa qlE 10 rfl) ⟨nbq rfl, nbq rfl⟩) hS (fun q _ h => hFc q h) hFc (fun r4 u t H1 locs ht hvm hw hB hz1 hk1 hS => ?_)
  obtain ⟨x2, f3⟩ := u
  obtain ⟨hP1, hK1, hD1⟩ := hB
  rw [ht] at hP1
  obtain ⟨hP, hD⟩ := qad (wr := [(jaT, .inl (cyI, 68, .inl jb2)), (a0_s, .inl (cyI, 68, .inl f0_s)), (jdj, .inl (cyI, 8, .inl jgv)), (jko, .inl (cyI, 7, .inl jk9))]) (w1 := (qbdC a0 x2 jaQ jaD ja7 jby jbe jaM jaY jap jaK jal jam jax jao ja6 jaV ja8 jae jag jaf jaN jaC jaP jaw jaI jaZ jaG jaS jan jaU jaE jar jaL jah jaB jaa jaz jaH jab jaT a0_s jaq jai jdj jaA jat jau jav jaj jko jaJ jak jad jay jac jaQ cyI f3)) (wn := (qxc a0 x2 jaQ jaD ja7 jby jbe jaM jaY jap jaK jal jam jax jao ja6 jaV ja8 jae jag jaf jaN jaC jaP jaw jaI jaZ jaG jaS jan jaU jaE jar jaL jah jaB jaa jaz jaH jab jaT a0_s jaq jai jdj jaA jat jau jav jaj jko jaJ jak jad jay jac jaQ cyI f3 jaT cyI jb2 a0_s cyI f0_s jdj cyI jgv jko cyI jk9)) hP hD [0, 1] [2, 3, 4, 5] [4, 5, 0, 1, 2, 3] hCc rfl (by decide +kernel) (by decide +kernel) (by decide +kernel) rfl hk1 hFc hP1 hD1
  generalize H1 = H at hP hS ⊢
  refine lv_if_ne (tgt := 22) hx hb (qaa qlE 11 rfl) (by decide) (fun c5 => ?_) (fun c5 => ?_)
  · have hw := hw.1 c5
    refine lv_aload_n hx hb (qaa qlE 14 rfl) rfl (lv_at hl 0 rfl) ?_
    obtain ⟨hCc, hPc, hDc, hFc⟩ := qac (ws' := (qbdG a0 x2 jaQ jaD ja7 jby jbe jaM jaY jap jaK jal jam jax jao ja6 jaV ja8 jae jag jaf jaN jaC jaP jaw jaI jaZ jaG jaS jan jaU jaE jar jaL jah jaB jaa jaz jaH jab jaT a0_s jaq jai jdj jaA jat jau jav jaj jko jaJ jak jad jay jac jaT cyI jb2 a0_s cyI f0_s)) hP hD hS hA [0, 2, 3] (by decide +kernel) rfl
    refine va_callv (va_runV (As := []) (rest := []) ⟨hx, hb, hml, hown, hts⟩ (qq7 l dC dI cyB cyI cyJ cyP a0 jaT a0_s H.size (.int x2) (.ref jaQ) (jaD) (ja7) (jby) (jbe) (jaM) (jaY) (jap) (jaK) (jal) (jam) (jax) (jao) (ja6) (jaV) (ja8) (jae) (jag) (jaf) (.int jaN) (.int jaC) (jaP) (jaw) (jaI) (jaZ) (jaG) (jaS) (jan) (jaU) (jaE) (jar) (jaL) (jah) (jaB) (jaa) (jaz) (jaH) (jab) (jaq) (jai) (.ref jdj) (jaA) (jat) (jau) (jav) (jaj) (.ref jko) (jaJ) (jak) (jad) (jay) (jac) jb2 f0_s hw) (cwV 0 hts gX11_look_X11_take rfl rfl rfl (by decide +kernel) ⟨nbq rfl, nbq rfl⟩) ⟨qab, va_recv (q := (RX11, TX11, 55)) hK hPc (ci := 11) (q0 := 0) rfl rfl, qae hPc hK hDc hNw⟩ rfl rfl hl.1 rfl (lv_room (nbq rfl)) (qaa qlE 15 rfl) ⟨nbq rfl, nbq rfl⟩) hS (fun q _ h => hFc q h) hFc (fun u t H1 locs ht hvm hw hB hz1 hk1 hS => ?_)
    obtain ⟨f6, rfl⟩ : ∃ z, z = u := ⟨_, rfl⟩
    obtain ⟨hP1, hK1, hD1⟩ := hB
    rw [ht] at hP1
    obtain ⟨hP, hD⟩ := qad (wr := [(jaQ, .inl (cyI, 2, .inl f3)), (jdj, .inl (cyI, 8, .inl jgv)), (jko, .inl (cyI, 7, .inl jk9))]) (w1 := (qbdG a0 x2 jaQ jaD ja7 jby jbe jaM jaY jap jaK jal jam jax jao ja6 jaV ja8 jae jag jaf jaN jaC jaP jaw jaI jaZ jaG jaS jan jaU jaE jar jaL jah jaB jaa jaz jaH jab jaT a0_s jaq jai jdj jaA jat jau jav jaj jko jaJ jak jad jay jac jaT cyI jb2 a0_s cyI f6)) (wn := (qxc a0 x2 jaQ jaD ja7 jby jbe jaM jaY jap jaK jal jam jax jao ja6 jaV ja8 jae jag jaf jaN jaC jaP jaw jaI jaZ jaG jaS jan jaU jaE jar jaL jah jaB jaa jaz jaH jab jaT a0_s jaq jai jdj jaA jat jau jav jaj jko jaJ jak jad jay jac jaQ cyI f3 jaT cyI jb2 a0_s cyI f6 jdj cyI jgv jko cyI jk9)) hP hD [0, 2, 3] [1, 4, 5] [3, 0, 4, 5, 1, 2] hCc rfl (by decide +kernel) (by decide +kernel) (by decide +kernel) rfl hk1 hFc hP1 hD1
    generalize H1 = H at hP hS ⊢
    refine lv_iconst (v := (-1)) hx hb (qaa qiL 0 rfl) (by decide) ?_
    refine lv_istore_n (lv' := [(2, .int (-1)), (0, .ref a0), (1, .int p1)]) hx hb (qaa qiL 1 rfl) rfl hl (by decide) rfl (fun ls hl => ?_)
    refine lv_iconst (v := (-1)) hx hb (qaa qiL 2 rfl) (by decide) ?_
    refine lv_istore_n (lv' := [(3, .int (-1)), (2, .int (-1)), (0, .ref a0), (1, .int p1)]) hx hb (qaa qiL 3 rfl) rfl hl (by decide) rfl (fun ls hl => ?_)
    refine lv_iconst (v := 0) hx hb (qaa qiL 4 rfl) (by decide) ?_
    refine lv_istore (lv' := [(4, .int 0), (3, .int (-1)), (2, .int (-1)), (0, .ref a0), (1, .int p1)]) hx hb (qaa qiL 5 rfl) hl (by decide) rfl (fun ls hl => ?_)
    obtain ⟨n9, hw⟩ := hw
    exact qaK5 dC dI cyB cyI cyJ cyP a0 jaQ jaT a0_s jdj jko jaD ja7 jby jbe jaM jaY jap jaK jal jam jax jao ja6 jaV ja8 jae jag jaf jaP jaw jaI jaZ jaG jaS jan jaU jaE jar jaL jah jaB jaa jaz jaH jab jaq jai jaA jat jau jav jaj jaJ jak jad jay jac jaN jaC jb2 jgv Q C0 n9 _ _ _ x2 f3 f6 jk9 p1 (-1) (-1) 0 hP hD hS (lv_sub hl [3, 4, 2, 1, 0] rfl) hw
  · have hw := hw.2 c5
    refine lv_iconst (v := 0) hx hb (qaa qlE 12 rfl) (by decide) ?_
    exact ((W.iret (v := 0) hx hb hr (fun t ht hW => ⟨⟨0, (x2, f3, f0_s, jk9), rfl, hw, by rw [ht]; exact hP, va_K.moved hW.alike hK, hD⟩, hS.F ht⟩) hS.2.2 (qaa qlE 13 rfl)))
theorem qow : ∀ w ∈ u_ws RX11 TX11 55, w ∈ wsX11_marchGoes := uiM qir qfa (by decide +kernel)
theorem q3V : (.fieldLink RX11 166 "MarchHaresModel" "forms" "I" : Cond) ∈ wsX11_marchGoes := qir 519 (by decide +kernel)
theorem qB8 : (.fieldLink RX11 169 "MarchHaresModel" "hares" "I" : Cond) ∈ wsX11_marchGoes := qir 520 (by decide +kernel)
theorem q3y : (.fieldLink RX11 444 "MarchHaresModel" "seedNow" "I" : Cond) ∈ wsX11_marchGoes := qir 4115 (by decide +kernel)
theorem qBY : (.fieldLink RX11 448 "MarchHaresModel" "leaptMany" "I" : Cond) ∈ wsX11_marchGoes := qir 4110 (by decide +kernel)
set_option maxHeartbeats 4000000 in
set_option maxRecDepth 100000 in
theorem qPD {p : Program} {l : Launch} {e : Env} {s : State} {m : MethodId} {args : Array Value} {below : List Frame} {meth : Method} {c : Code} {A : Nat → Prop} (dC : Nat → ClassId) (dI : Nat → Nat → Nat) (cyB cyI cyJ cyP : ClassId) (a0 jaT a0_s ja5 jbu jbB jbG jbg jbJ jb9 : Nat) (jaX jaF jaD ja7 jby jbe jaM jaY jap jaK jal jam jax jao jae jag jaf jaw jaI jan jar jaL jah jaB jaa jaz jaH jab jaq jai jaO jaA jat jau jav jaj jas jaJ jay jac : Value) (jaN jaC jbw jbD : Int32) (jb2 jbv jcu jbT jcy jdH : NI) (Q : NI → Int32 → Int32 → NI → NI → Prop) (K16 : NI → Int32 → Int32 → NI → NI → Int32 → Int32 → Prop) (hK16 : ∀ (H : Heap) (locs : List Loc) (ls : Array Slot) (f0_s : NI) (jjo jiz : Int32) (jb1 jcb : NI) (l2 l3 : Int32), va_P (dC, dI) vwCl (qtX a0 jaX jaF jaD ja7 jby jbe jaM jaY jap jaK jal jam jax jao ja5 jb9 jbJ jae jag jaf jaN jaC jbw jaw jaI jbG jbg jbB jan jbD jbu jar jaL jah jaB jaa jaz jaH jab jaT a0_s jaq jai jaO jaA jat jau jav jaj jas jaJ jjo jiz jay jac jaT cyI jb2 a0_s cyI f0_s ja5 cyI jbv jbu cyI jb1 jbB cyI jcb jbG cyI jcu jbg cyI jbT jbJ cyI jcy jb9 cyI jdH) H → va_D A (qtX a0 jaX jaF jaD ja7 jby jbe jaM jaY jap jaK jal jam jax jao ja5 jb9 jbJ jae jag jaf jaN jaC jbw jaw jaI jbG jbg jbB jan jbD jbu jar jaL jah jaB jaa jaz jaH jab jaT a0_s jaq jai jaO jaA jat jau jav jaj jas jaJ jjo jiz jay jac jaT cyI jb2 a0_s cyI f0_s ja5 cyI jbv jbu cyI jb1 jbB cyI jcb jbG cyI jcu jbg cyI jbT jbJ cyI jcy jb9 cyI jdH) → va_S A s.heap H locs → lv_has ls 5 [(0, .ref a0), (2, .int l2), (3, .int l3)] → K16 f0_s jjo jiz jb1 jcb l2 l3 → W p l e (headSpec wsX11_marchGoes ({ frames := 7, cells := 0, slots := 0, locals := 159 })).room s m args below meth c H locs 0 0 (MQ below (va_Qv (fun (u : NI × Int32 × Int32 × NI × NI) => Q u.1 u.2.1 u.2.2.1 u.2.2.2.1 u.2.2.2.2) (cB (dC, dI) (kT cyB cyI cyJ cyP) A (fun u : NI × Int32 × Int32 × NI × NI => ((qtX a0 jaX jaF jaD ja7 jby jbe jaM jaY jap jaK jal jam jax jao ja5 jb9 jbJ jae jag jaf jaN jaC jbw jaw jaI jbG jbg jbB jan jbD jbu jar jaL jah jaB jaa jaz jaH jab jaT a0_s jaq jai jaO jaA jat jau jav jaj jas jaJ u.2.1 u.2.2.1 jay jac jaT cyI jb2 a0_s cyI u.1 ja5 cyI jbv jbu cyI u.2.2.2.1 jbB cyI u.2.2.2.2 jbG cyI jcu jbg cyI jbT jbJ cyI jcy jb9 cyI jdH) : va_W))) A) args s 0 0 A) (F0 m 16 ls [])) (C0 : cfx p s m args meth c cX11_marchGoes none wsX11_marchGoes RX11 5 A (dC, dI) (kT cyB cyI cyJ cyP)) : ∀ (H : Heap) (locs : List Loc) (ls : Array Slot) (f0_s : NI) (jjo jiz : Int32) (jb1 jcb : NI) (l2 l3 : Int32), va_P (dC, dI) vwCl (qtX a0 jaX jaF jaD ja7 jby jbe jaM jaY jap jaK jal jam jax jao ja5 jb9 jbJ jae jag jaf jaN jaC jbw jaw jaI jbG jbg jbB jan jbD jbu jar jaL jah jaB jaa jaz jaH jab jaT a0_s jaq jai jaO jaA jat jau jav jaj jas jaJ jjo jiz jay jac jaT cyI jb2 a0_s cyI f0_s ja5 cyI jbv jbu cyI jb1 jbB cyI jcb jbG cyI jcu jbg cyI jbT jbJ cyI jcy jb9 cyI jdH) H → va_D A (qtX a0 jaX jaF jaD ja7 jby jbe jaM jaY jap jaK jal jam jax jao ja5 jb9 jbJ jae jag jaf jaN jaC jbw jaw jaI jbG jbg jbB jan jbD jbu jar jaL jah jaB jaa jaz jaH jab jaT a0_s jaq jai jaO jaA jat jau jav jaj jas jaJ jjo jiz jay jac jaT cyI jb2 a0_s cyI f0_s ja5 cyI jbv jbu cyI jb1 jbB cyI jcb jbG cyI jcu jbg cyI jbT jbJ cyI jcy jb9 cyI jdH) → va_S A s.heap H locs → lv_has ls 5 [(0, .ref a0), (2, .int l2), (3, .int l3)] → qFb jaN jaC jbw jbD jb2 jbv jcu jbT jcy jdH Q K16 f0_s jjo jiz jb1 jcb l2 l3 → W p l e (headSpec wsX11_marchGoes ({ frames := 7, cells := 0, slots := 0, locals := 159 })).room s m args below meth c H locs 0 0 (MQ below (va_Qv (fun (u : NI × Int32 × Int32 × NI × NI) => Q u.1 u.2.1 u.2.2.1 u.2.2.2.1 u.2.2.2.2) (cB (dC, dI) (kT cyB cyI cyJ cyP) A (fun u : NI × Int32 × Int32 × NI × NI => ((qtX a0 jaX jaF jaD ja7 jby jbe jaM jaY jap jaK jal jam jax jao ja5 jb9 jbJ jae jag jaf jaN jaC jbw jaw jaI jbG jbg jbB jan jbD jbu jar jaL jah jaB jaa jaz jaH jab jaT a0_s jaq jai jaO jaA jat jau jav jaj jas jaJ u.2.1 u.2.2.1 jay jac jaT cyI jb2 a0_s cyI u.1 ja5 cyI jbv jbu cyI u.2.2.2.1 jbB cyI u.2.2.2.2 jbG cyI jcu jbg cyI jbT jbJ cyI jcy jb9 cyI jdH) : va_W))) A) args s 0 0 A) (F0 m 84 ls []) := by
  obtain ⟨hx, hb, hr, hts, hown, hlocks, hml, hA, hK, hNw⟩ := id C0
  intro H locs ls f0_s jjo jiz jb1 jcb l2 l3 hP hD hS hl hw
  refine lv_aload_n hx hb (qaa qcU 13 rfl) rfl (lv_at hl 0 rfl) ?_
  obtain ⟨hCc, hPc, hDc, hFc⟩ := qac (ws' := (qbdz a0 jaX jaF jaD ja7 jby jbe jaM jaY jap jaK jal jam jax jao ja5 jb9 jbJ jae jag jaf jaN jaC jbw jaw jaI jbG jbg jbB jan jbD jbu jar jaL jah jaB jaa jaz jaH jab jaT a0_s jaq jai jaO jaA jat jau jav jaj jas jaJ jjo jiz jay jac a0_s cyI f0_s ja5 cyI jbv jbJ cyI jcy jb9 cyI jdH)) hP hD hS hA [0, 2, 3, 8, 9] (by decide +kernel) rfl
  refine va_callv (va_runV (As := []) (rest := []) ⟨hx, hb, hml, hown, hts⟩ (qW0 l dC dI cyB cyI cyJ cyP a0 a0_s ja5 jbJ jb9 H.size (jaX) (jaF) (jaD) (ja7) (jby) (jbe) (jaM) (jaY) (jap) (jaK) (jal) (jam) (jax) (jao) (jae) (jag) (jaf) (.int jaN) (jaw) (jaI) (.ref jbG) (.ref jbg) (.ref jbB) (jan) (.int jbD) (.ref jbu) (jar) (jaL) (jah) (jaB) (jaa) (jaz) (jaH) (jab) (.ref jaT) (jaq) (jai) (jaO) (jaA) (jat) (jau) (jav) (jaj) (jas) (jaJ) (.int jjo) (.int jiz) (jay) (jac) jaC jbw jbv jcy jdH f0_s hw) (cwV 0 hts gX11_marchGoes_X11_passes rfl rfl rfl (by decide +kernel) ⟨nbq rfl, nbq rfl⟩) ⟨qab, va_recv (q := (RX11, TX11, 55)) hK hPc (ci := 11) (q0 := 0) rfl rfl, qae hPc hK hDc hNw⟩ rfl rfl hl.1 rfl (lv_room (nbq rfl)) (qaa qcU 14 rfl) ⟨nbq rfl, nbq rfl⟩) hS (fun q _ h => hFc q h) hFc (fun u t H1 locs ht hvm hw hB hz1 hk1 hS => ?_)
  obtain ⟨f13, rfl⟩ : ∃ z, z = u := ⟨_, rfl⟩
  obtain ⟨hP1, hK1, hD1⟩ := hB
  rw [ht] at hP1
  obtain ⟨hP, hD⟩ := qad (wr := [(jaT, .inl (cyI, 68, .inl jb2)), (jbu, .inl (cyI, 8, .inl jb1)), (jbB, .inl (cyI, 150, .inl jcb)), (jbG, .inl (cyI, 150, .inl jcu)), (jbg, .inl (cyI, 150, .inl jbT))]) (w1 := (qbdz a0 jaX jaF jaD ja7 jby jbe jaM jaY jap jaK jal jam jax jao ja5 jb9 jbJ jae jag jaf jaN jaC jbw jaw jaI jbG jbg jbB jan jbD jbu jar jaL jah jaB jaa jaz jaH jab jaT a0_s jaq jai jaO jaA jat jau jav jaj jas jaJ jjo jiz jay jac a0_s cyI f13 ja5 cyI jbv jbJ cyI jcy jb9 cyI jdH)) (wn := (qtX a0 jaX jaF jaD ja7 jby jbe jaM jaY jap jaK jal jam jax jao ja5 jb9 jbJ jae jag jaf jaN jaC jbw jaw jaI jbG jbg jbB jan jbD jbu jar jaL jah jaB jaa jaz jaH jab jaT a0_s jaq jai jaO jaA jat jau jav jaj jas jaJ jjo jiz jay jac jaT cyI jb2 a0_s cyI f13 ja5 cyI jbv jbu cyI jb1 jbB cyI jcb jbG cyI jcu jbg cyI jbT jbJ cyI jcy jb9 cyI jdH)) hP hD [0, 2, 3, 8, 9] [1, 4, 5, 6, 7] [5, 0, 6, 7, 1, 2, 3, 4, 8, 9] hCc rfl (by decide +kernel) (by decide +kernel) (by decide +kernel) rfl hk1 hFc hP1 hD1
  generalize H1 = H at hP hS ⊢
  obtain ⟨x14, ex14⟩ : ∃ y : Int32, y = l3 + 1 := ⟨_, rfl⟩
  have hw := hw x14 ex14
  refine lv_iinc (v := x14) (lv' := [(3, .int x14), (0, .ref a0), (2, .int l2)]) hx hb (qaa qcU 15 rfl) hl (k := 2) rfl (by rw [ex14]; rfl) (by decide) rfl (fun ls hl => ?_)
  refine lv_goto (tgt := 16) hx hb (qaa qRv 0 rfl) (by decide) ?_
  exact hK16 _ _ _ f13 jjo jiz jb1 jcb l2 x14 hP hD hS (lv_sub hl [1, 2, 0] rfl) hw
set_option maxHeartbeats 4000000 in
set_option maxRecDepth 100000 in
theorem qOW {p : Program} {l : Launch} {e : Env} {s : State} {m : MethodId} {args : Array Value} {below : List Frame} {meth : Method} {c : Code} {A : Nat → Prop} (dC : Nat → ClassId) (dI : Nat → Nat → Nat) (cyB cyI cyJ cyP : ClassId) (a0 jaT a0_s ja5 jbu jbB jbG jbg jbJ jb9 : Nat) (jaX jaF jaD ja7 jby jbe jaM jaY jap jaK jal jam jax jao jae jag jaf jaw jaI jan jar jaL jah jaB jaa jaz jaH jab jaq jai jaO jaA jat jau jav jaj jas jaJ jay jac : Value) (jaN jaC jbw jbD : Int32) (jb2 jbv jcu jbT jcy jdH : NI) (Q : NI → Int32 → Int32 → NI → NI → Prop) (K16 : NI → Int32 → Int32 → NI → NI → Int32 → Int32 → Prop) (hK16 : ∀ (H : Heap) (locs : List Loc) (ls : Array Slot) (f0_s : NI) (jjo jiz : Int32) (jb1 jcb : NI) (l2 l3 : Int32), va_P (dC, dI) vwCl (qtX a0 jaX jaF jaD ja7 jby jbe jaM jaY jap jaK jal jam jax jao ja5 jb9 jbJ jae jag jaf jaN jaC jbw jaw jaI jbG jbg jbB jan jbD jbu jar jaL jah jaB jaa jaz jaH jab jaT a0_s jaq jai jaO jaA jat jau jav jaj jas jaJ jjo jiz jay jac jaT cyI jb2 a0_s cyI f0_s ja5 cyI jbv jbu cyI jb1 jbB cyI jcb jbG cyI jcu jbg cyI jbT jbJ cyI jcy jb9 cyI jdH) H → va_D A (qtX a0 jaX jaF jaD ja7 jby jbe jaM jaY jap jaK jal jam jax jao ja5 jb9 jbJ jae jag jaf jaN jaC jbw jaw jaI jbG jbg jbB jan jbD jbu jar jaL jah jaB jaa jaz jaH jab jaT a0_s jaq jai jaO jaA jat jau jav jaj jas jaJ jjo jiz jay jac jaT cyI jb2 a0_s cyI f0_s ja5 cyI jbv jbu cyI jb1 jbB cyI jcb jbG cyI jcu jbg cyI jbT jbJ cyI jcy jb9 cyI jdH) → va_S A s.heap H locs → lv_has ls 5 [(0, .ref a0), (2, .int l2), (3, .int l3)] → K16 f0_s jjo jiz jb1 jcb l2 l3 → W p l e (headSpec wsX11_marchGoes ({ frames := 7, cells := 0, slots := 0, locals := 159 })).room s m args below meth c H locs 0 0 (MQ below (va_Qv (fun (u : NI × Int32 × Int32 × NI × NI) => Q u.1 u.2.1 u.2.2.1 u.2.2.2.1 u.2.2.2.2) (cB (dC, dI) (kT cyB cyI cyJ cyP) A (fun u : NI × Int32 × Int32 × NI × NI => ((qtX a0 jaX jaF jaD ja7 jby jbe jaM jaY jap jaK jal jam jax jao ja5 jb9 jbJ jae jag jaf jaN jaC jbw jaw jaI jbG jbg jbB jan jbD jbu jar jaL jah jaB jaa jaz jaH jab jaT a0_s jaq jai jaO jaA jat jau jav jaj jas jaJ u.2.1 u.2.2.1 jay jac jaT cyI jb2 a0_s cyI u.1 ja5 cyI jbv jbu cyI u.2.2.2.1 jbB cyI u.2.2.2.2 jbG cyI jcu jbg cyI jbT jbJ cyI jcy jb9 cyI jdH) : va_W))) A) args s 0 0 A) (F0 m 16 ls [])) (C0 : cfx p s m args meth c cX11_marchGoes none wsX11_marchGoes RX11 5 A (dC, dI) (kT cyB cyI cyJ cyP)) : ∀ (H : Heap) (locs : List Loc) (ls : Array Slot) (f0_s : NI) (jjo jiz : Int32) (jb1 jcb : NI) (l2 l3 l4 s1 s2 : Int32), va_P (dC, dI) vwCl (qtX a0 jaX jaF jaD ja7 jby jbe jaM jaY jap jaK jal jam jax jao ja5 jb9 jbJ jae jag jaf jaN jaC jbw jaw jaI jbG jbg jbB jan jbD jbu jar jaL jah jaB jaa jaz jaH jab jaT a0_s jaq jai jaO jaA jat jau jav jaj jas jaJ jjo jiz jay jac jaT cyI jb2 a0_s cyI f0_s ja5 cyI jbv jbu cyI jb1 jbB cyI jcb jbG cyI jcu jbg cyI jbT jbJ cyI jcy jb9 cyI jdH) H → va_D A (qtX a0 jaX jaF jaD ja7 jby jbe jaM jaY jap jaK jal jam jax jao ja5 jb9 jbJ jae jag jaf jaN jaC jbw jaw jaI jbG jbg jbB jan jbD jbu jar jaL jah jaB jaa jaz jaH jab jaT a0_s jaq jai jaO jaA jat jau jav jaj jas jaJ jjo jiz jay jac jaT cyI jb2 a0_s cyI f0_s ja5 cyI jbv jbu cyI jb1 jbB cyI jcb jbG cyI jcu jbg cyI jbT jbJ cyI jcy jb9 cyI jdH) → va_S A s.heap H locs → lv_has ls 5 [(0, .ref a0), (2, .int l2), (3, .int l3), (4, .int l4)] → qFv jaN jaC jbw jbD jb2 jbv jcu jbT jcy jdH Q K16 f0_s jjo jiz jb1 jcb l2 l3 l4 s1 s2 → W p l e (headSpec wsX11_marchGoes ({ frames := 7, cells := 0, slots := 0, locals := 159 })).room s m args below meth c H locs 0 0 (MQ below (va_Qv (fun (u : NI × Int32 × Int32 × NI × NI) => Q u.1 u.2.1 u.2.2.1 u.2.2.2.1 u.2.2.2.2) (cB (dC, dI) (kT cyB cyI cyJ cyP) A (fun u : NI × Int32 × Int32 × NI × NI => ((qtX a0 jaX jaF jaD ja7 jby jbe jaM jaY jap jaK jal jam jax jao ja5 jb9 jbJ jae jag jaf jaN jaC jbw jaw jaI jbG jbg jbB jan jbD jbu jar jaL jah jaB jaa jaz jaH jab jaT a0_s jaq jai jaO jaA jat jau jav jaj jas jaJ u.2.1 u.2.2.1 jay jac jaT cyI jb2 a0_s cyI u.1 ja5 cyI jbv jbu cyI u.2.2.2.1 jbB cyI u.2.2.2.2 jbG cyI jcu jbg cyI jbT jbJ cyI jcy jb9 cyI jdH) : va_W))) A) args s 0 0 A) (F0 m 65 ls [.int s2, .int s1, .ref a0]) := by
  obtain ⟨hx, hb, hr, hts, hown, hlocks, hml, hA, hK, hNw⟩ := id C0
  intro H locs ls f0_s jjo jiz jb1 jcb l2 l3 l4 s1 s2 hP hD hS hl hw
  refine lv_iadd hx hb (qaa qcU 3 rfl) ?_
  refine lv_topi (fun x15 ex15 => ?_)
  have hw := hw x15 ex15
  refine va_put (D := (dC, dI)) (ci := 11) (v := .int x15) (ty := .int) (C := RX11) (T := TX11) (N := 55) hx hb hts qow tyX11 tyX11_ok nmX11 hown hK hP hD hS 0 rfl rfl 52 (by decide) (hts _ qBY) (fun _ h9 => h9) rfl (by decide +kernel) rfl rfl (nbq rfl) (qaa qcU 4 rfl) (fun H locs hP hD hS => ?_)
  have hP : va_P (dC, dI) vwCl (qtX a0 jaX jaF jaD ja7 jby jbe jaM jaY jap jaK jal jam jax jao ja5 jb9 jbJ jae jag jaf jaN jaC jbw jaw jaI jbG jbg jbB jan jbD jbu jar jaL jah jaB jaa jaz jaH jab jaT a0_s jaq jai jaO jaA jat jau jav jaj jas jaJ jjo x15 jay jac jaT cyI jb2 a0_s cyI f0_s ja5 cyI jbv jbu cyI jb1 jbB cyI jcb jbG cyI jcu jbg cyI jbT jbJ cyI jcy jb9 cyI jdH) H := hP
  have hD : va_D A (qtX a0 jaX jaF jaD ja7 jby jbe jaM jaY jap jaK jal jam jax jao ja5 jb9 jbJ jae jag jaf jaN jaC jbw jaw jaI jbG jbg jbB jan jbD jbu jar jaL jah jaB jaa jaz jaH jab jaT a0_s jaq jai jaO jaA jat jau jav jaj jas jaJ jjo x15 jay jac jaT cyI jb2 a0_s cyI f0_s ja5 cyI jbv jbu cyI jb1 jbB cyI jcb jbG cyI jcu jbg cyI jbT jbJ cyI jcy jb9 cyI jdH) := hD
  refine lv_aload_n hx hb (qaa qcU 5 rfl) rfl (lv_at hl 0 rfl) ?_
  refine lv_iload hx hb (qaa qcU 6 rfl) (lv_at hl 3 rfl) ?_
  refine lv_aload_n hx hb (qaa qcU 7 rfl) rfl (lv_at hl 0 rfl) ?_
  refine lv_aload_n hx hb (qaa qcU 8 rfl) rfl (lv_at hl 0 rfl) ?_
  refine va_get (D := (dC, dI)) (ci := 11) (v := .int jaC) (C := RX11) (T := TX11) (N := 55) hx hb hts qow hown hK hP 0 rfl rfl 21 (by decide) (hts _ qB8) (fun _ h9 => h9) rfl (qaa qcU 9 rfl) ?_
  obtain ⟨hCc, hPc, hDc, hFc⟩ := qac (ws' := (qaiW a0 jaX jaF jaD ja7 jby jbe jaM jaY jap jaK jal jam jax jao ja5 jb9 jbJ jae jag jaf jaN jaC jbw jaw jaI jbG jbg jbB jan jbD jbu jar jaL jah jaB jaa jaz jaH jab jaT a0_s jaq jai jaO jaA jat jau jav jaj jas jaJ jjo x15 jay jac)) hP hD hS hA [0] (by decide +kernel) rfl
  refine va_calli (va_runV (As := [.int jaC]) (rest := [.int l4, .ref a0]) ⟨hx, hb, hml, hown, hts⟩ (q3i l dC dI cyB cyI cyJ cyP a0 H.size (jaX) (jaF) (jaD) (ja7) (jby) (jbe) (jaM) (jaY) (jap) (jaK) (jal) (jam) (jax) (jao) (.ref ja5) (.ref jb9) (.ref jbJ) (jae) (jag) (jaf) (.int jaN) (.int jaC) (.int jbw) (jaw) (jaI) (.ref jbG) (.ref jbg) (.ref jbB) (jan) (.int jbD) (.ref jbu) (jar) (jaL) (jah) (jaB) (jaa) (jaz) (jaH) (jab) (.ref jaT) (.ref a0_s) (jaq) (jai) (jaO) (jaA) (jat) (jau) (jav) (jaj) (jas) (jaJ) (.int x15) (jay) (jac) jjo jaC hw) (cwV 1 hts gX11_marchGoes_X11_draws rfl rfl rfl (by decide +kernel) ⟨nbq rfl, nbq rfl⟩) ⟨qab, va_recv (q := (RX11, TX11, 55)) hK hPc (ci := 11) (q0 := 0) rfl rfl, qae hPc hK hDc hNw⟩ rfl rfl hl.1 rfl (lv_room (nbq rfl)) (qaa qcU 10 rfl) ⟨nbq rfl, nbq rfl⟩) hS (fun q _ h => hFc q h) hFc (fun r17 u t H1 locs ht hvm hw hB hz1 hk1 hS => ?_)
  obtain ⟨x16, rfl⟩ : ∃ z, z = u := ⟨_, rfl⟩
  obtain ⟨hP1, hK1, hD1⟩ := hB
  rw [ht] at hP1
  obtain ⟨hP, hD⟩ := qad (wr := (qaQ2 jaT cyI jb2 a0_s cyI f0_s ja5 cyI jbv jbu cyI jb1 jbB cyI jcb jbG cyI jcu jbg cyI jbT jbJ cyI jcy jb9 cyI jdH)) (w1 := (qaiW a0 jaX jaF jaD ja7 jby jbe jaM jaY jap jaK jal jam jax jao ja5 jb9 jbJ jae jag jaf jaN jaC jbw jaw jaI jbG jbg jbB jan jbD jbu jar jaL jah jaB jaa jaz jaH jab jaT a0_s jaq jai jaO jaA jat jau jav jaj jas jaJ x16 x15 jay jac)) (wn := (qtX a0 jaX jaF jaD ja7 jby jbe jaM jaY jap jaK jal jam jax jao ja5 jb9 jbJ jae jag jaf jaN jaC jbw jaw jaI jbG jbg jbB jan jbD jbu jar jaL jah jaB jaa jaz jaH jab jaT a0_s jaq jai jaO jaA jat jau jav jaj jas jaJ x16 x15 jay jac jaT cyI jb2 a0_s cyI f0_s ja5 cyI jbv jbu cyI jb1 jbB cyI jcb jbG cyI jcu jbg cyI jbT jbJ cyI jcy jb9 cyI jdH)) hP hD [0] [1, 2, 3, 4, 5, 6, 7, 8, 9] [9, 0, 1, 2, 3, 4, 5, 6, 7, 8] hCc rfl (by decide +kernel) (by decide +kernel) (by decide +kernel) rfl hk1 hFc hP1 hD1
  generalize H1 = H at hP hS ⊢
  obtain ⟨hCc, hPc, hDc, hFc⟩ := qac (ws' := (qa9Y a0 jaX jaF jaD ja7 jby jbe jaM jaY jap jaK jal jam jax jao ja5 jb9 jbJ jae jag jaf jaN jaC jbw jaw jaI jbG jbg jbB jan jbD jbu jar jaL jah jaB jaa jaz jaH jab jaT a0_s jaq jai jaO jaA jat jau jav jaj jas jaJ x16 x15 jay jac a0_s cyI f0_s)) hP hD hS hA [0, 2] (by decide +kernel) rfl
  refine va_calli (va_runV (As := [.int l4, .int r17]) (rest := []) ⟨hx, hb, hml, hown, hts⟩ (qaon l dC dI cyB cyI cyJ cyP a0 a0_s H.size (jaX) (jaF) (jaD) (ja7) (jby) (jbe) (jaM) (jaY) (jap) (jaK) (jal) (jam) (jax) (jao) (.ref ja5) (.ref jb9) (.ref jbJ) (jae) (jag) (jaf) (.int jaN) (.int jaC) (.int jbw) (jaw) (jaI) (.ref jbG) (.ref jbg) (.ref jbB) (jan) (.int jbD) (.ref jbu) (jar) (jaL) (jah) (jaB) (jaa) (jaz) (jaH) (jab) (.ref jaT) (jaq) (jai) (jaO) (jaA) (jat) (jau) (jav) (jaj) (jas) (jaJ) (.int x16) (.int x15) (jay) (jac) f0_s l4 r17 hw) (cwV 2 hts gX11_marchGoes_X11_boxes rfl rfl rfl (by decide +kernel) ⟨nbq rfl, nbq rfl⟩) ⟨qab, va_recv (q := (RX11, TX11, 55)) hK hPc (ci := 11) (q0 := 0) rfl rfl, qae hPc hK hDc hNw⟩ rfl rfl hl.1 rfl (lv_room (nbq rfl)) (qaa qcU 11 rfl) ⟨nbq rfl, nbq rfl⟩) hS (fun q _ h => hFc q h) hFc (fun r19 u t H1 locs ht hvm hw hB hz1 hk1 hS => ?_)
  obtain ⟨f18, rfl⟩ : ∃ z, z = u := ⟨_, rfl⟩
  obtain ⟨hP1, hK1, hD1⟩ := hB
  rw [ht] at hP1
  obtain ⟨hP, hD⟩ := qad (wr := [(jaT, .inl (cyI, 68, .inl jb2)), (ja5, .inl (cyI, 16, .inl jbv)), (jbu, .inl (cyI, 8, .inl jb1)), (jbB, .inl (cyI, 150, .inl jcb)), (jbG, .inl (cyI, 150, .inl jcu)), (jbg, .inl (cyI, 150, .inl jbT)), (jbJ, .inl (cyI, 8, .inl jcy)), (jb9, .inl (cyI, 12, .inl jdH))]) (w1 := (qa9Y a0 jaX jaF jaD ja7 jby jbe jaM jaY jap jaK jal jam jax jao ja5 jb9 jbJ jae jag jaf jaN jaC jbw jaw jaI jbG jbg jbB jan jbD jbu jar jaL jah jaB jaa jaz jaH jab jaT a0_s jaq jai jaO jaA jat jau jav jaj jas jaJ x16 x15 jay jac a0_s cyI f18)) (wn := (qtX a0 jaX jaF jaD ja7 jby jbe jaM jaY jap jaK jal jam jax jao ja5 jb9 jbJ jae jag jaf jaN jaC jbw jaw jaI jbG jbg jbB jan jbD jbu jar jaL jah jaB jaa jaz jaH jab jaT a0_s jaq jai jaO jaA jat jau jav jaj jas jaJ x16 x15 jay jac jaT cyI jb2 a0_s cyI f18 ja5 cyI jbv jbu cyI jb1 jbB cyI jcb jbG cyI jcu jbg cyI jbT jbJ cyI jcy jb9 cyI jdH)) hP hD [0, 2] [1, 3, 4, 5, 6, 7, 8, 9] [8, 0, 9, 1, 2, 3, 4, 5, 6, 7] hCc rfl (by decide +kernel) (by decide +kernel) (by decide +kernel) rfl hk1 hFc hP1 hD1
  generalize H1 = H at hP hS ⊢
  refine lv_pop hx hb (qaa qcU 12 rfl) rfl ?_
  exact qPD dC dI cyB cyI cyJ cyP a0 jaT a0_s ja5 jbu jbB jbG jbg jbJ jb9 jaX jaF jaD ja7 jby jbe jaM jaY jap jaK jal jam jax jao jae jag jaf jaw jaI jan jar jaL jah jaB jaa jaz jaH jab jaq jai jaO jaA jat jau jav jaj jas jaJ jay jac jaN jaC jbw jbD jb2 jbv jcu jbT jcy jdH Q K16 hK16 C0 _ _ _ f18 x16 x15 jb1 jcb l2 l3 hP hD hS (lv_sub hl [0, 1, 2] rfl) hw
set_option maxHeartbeats 4000000 in
set_option maxRecDepth 100000 in
theorem qabn {p : Program} {l : Launch} {e : Env} {s : State} {m : MethodId} {args : Array Value} {below : List Frame} {meth : Method} {c : Code} {A : Nat → Prop} (dC : Nat → ClassId) (dI : Nat → Nat → Nat) (cyB cyI cyJ cyP : ClassId) (a0 jaT a0_s ja5 jbu jbB jbG jbg jbJ jb9 : Nat) (jaX jaF jaD ja7 jby jbe jaM jaY jap jaK jal jam jax jao jae jag jaf jaw jaI jan jar jaL jah jaB jaa jaz jaH jab jaq jai jaO jaA jat jau jav jaj jas jaJ jay jac : Value) (jaN jaC jbw jbD : Int32) (jb2 jbv jcu jbT jcy jdH : NI) (Q : NI → Int32 → Int32 → NI → NI → Prop) (C0 : cfx p s m args meth c cX11_marchGoes none wsX11_marchGoes RX11 5 A (dC, dI) (kT cyB cyI cyJ cyP)) : ∀ (n : Nat) (H : Heap) (locs : List Loc) (ls : Array Slot) (f0_s : NI) (jjo jiz : Int32) (jb1 jcb : NI) (l2 l3 : Int32), va_P (dC, dI) vwCl (qtX a0 jaX jaF jaD ja7 jby jbe jaM jaY jap jaK jal jam jax jao ja5 jb9 jbJ jae jag jaf jaN jaC jbw jaw jaI jbG jbg jbB jan jbD jbu jar jaL jah jaB jaa jaz jaH jab jaT a0_s jaq jai jaO jaA jat jau jav jaj jas jaJ jjo jiz jay jac jaT cyI jb2 a0_s cyI f0_s ja5 cyI jbv jbu cyI jb1 jbB cyI jcb jbG cyI jcu jbg cyI jbT jbJ cyI jcy jb9 cyI jdH) H → va_D A (qtX a0 jaX jaF jaD ja7 jby jbe jaM jaY jap jaK jal jam jax jao ja5 jb9 jbJ jae jag jaf jaN jaC jbw jaw jaI jbG jbg jbB jan jbD jbu jar jaL jah jaB jaa jaz jaH jab jaT a0_s jaq jai jaO jaA jat jau jav jaj jas jaJ jjo jiz jay jac jaT cyI jb2 a0_s cyI f0_s ja5 cyI jbv jbu cyI jb1 jbB cyI jcb jbG cyI jcu jbg cyI jbT jbJ cyI jcy jb9 cyI jdH) → va_S A s.heap H locs → lv_has ls 5 [(0, .ref a0), (2, .int l2), (3, .int l3)] → qnL jaN jaC jbw jbD jb2 jbv jcu jbT jcy jdH Q n f0_s jjo jiz jb1 jcb l2 l3 → W p l e (headSpec wsX11_marchGoes ({ frames := 7, cells := 0, slots := 0, locals := 159 })).room s m args below meth c H locs 0 0 (MQ below (va_Qv (fun (u : NI × Int32 × Int32 × NI × NI) => Q u.1 u.2.1 u.2.2.1 u.2.2.2.1 u.2.2.2.2) (cB (dC, dI) (kT cyB cyI cyJ cyP) A (fun u : NI × Int32 × Int32 × NI × NI => ((qtX a0 jaX jaF jaD ja7 jby jbe jaM jaY jap jaK jal jam jax jao ja5 jb9 jbJ jae jag jaf jaN jaC jbw jaw jaI jbG jbg jbB jan jbD jbu jar jaL jah jaB jaa jaz jaH jab jaT a0_s jaq jai jaO jaA jat jau jav jaj jas jaJ u.2.1 u.2.2.1 jay jac jaT cyI jb2 a0_s cyI u.1 ja5 cyI jbv jbu cyI u.2.2.2.1 jbB cyI u.2.2.2.2 jbG cyI jcu jbg cyI jbT jbJ cyI jcy jb9 cyI jdH) : va_W))) A) args s 0 0 A) (F0 m 16 ls []) := by
  obtain ⟨hx, hb, hr, hts, hown, hlocks, hml, hA, hK, hNw⟩ := id C0
  intro n
  induction n with
  | zero => intro H locs ls f0_s jjo jiz jb1 jcb l2 l3 hP hD hS hl hw; exact False.elim hw
  | succ n ih =>
    intro H locs ls f0_s jjo jiz jb1 jcb l2 l3 hP hD hS hl hw
    refine lv_iload_n hx hb (qaa qdw 10 rfl) rfl (lv_at hl 2 rfl) ?_
    refine lv_iload_n hx hb (qaa qdw 11 rfl) rfl (lv_at hl 1 rfl) ?_
    refine lv_icmp_ge (tgt := 94) hx hb (qaa qdw 12 rfl) (by decide) (fun c2 => ?_) (fun c2 => ?_)
    · have hw := hw.1 c2
      exact ((W.vret hx hb hr (fun t ht hW => ⟨⟨(f0_s, jjo, jiz, jb1, jcb), rfl, hw, by rw [ht]; exact hP, va_K.moved hW.alike hK, hD⟩, hS.F ht⟩) hS.2.2 (qaa qRv 1 rfl)))
    · have hw := hw.2 c2
      refine lv_aload_n hx hb (qaa qdw 13 rfl) rfl (lv_at hl 0 rfl) ?_
      refine va_get (D := (dC, dI)) (ci := 11) (v := .int jaC) (C := RX11) (T := TX11) (N := 55) hx hb hts qow hown hK hP 0 rfl rfl 21 (by decide) (hts _ qB8) (fun _ h9 => h9) rfl (qaa qdw 14 rfl) ?_
      refine lv_if_le (tgt := 84) hx hb (qaa qdw 15 rfl) (by decide) (fun c3 => ?_) (fun c3 => ?_)
      · have hw := hw.1 c3
        exact qPD dC dI cyB cyI cyJ cyP a0 jaT a0_s ja5 jbu jbB jbG jbg jbJ jb9 jaX jaF jaD ja7 jby jbe jaM jaY jap jaK jal jam jax jao jae jag jaf jaw jaI jan jar jaL jah jaB jaa jaz jaH jab jaq jai jaO jaA jat jau jav jaj jas jaJ jay jac jaN jaC jbw jbD jb2 jbv jcu jbT jcy jdH Q (qnL jaN jaC jbw jbD jb2 jbv jcu jbT jcy jdH Q n) ih C0 _ _ _ f0_s jjo jiz jb1 jcb l2 l3 hP hD hS (lv_sub hl [0, 1, 2] rfl) hw
      · have hw := hw.2 c3
        refine lv_aload_n hx hb (qaa qcO 0 rfl) rfl (lv_at hl 0 rfl) ?_
        refine lv_aload_n hx hb (qaa qcO 1 rfl) rfl (lv_at hl 0 rfl) ?_
        refine va_get (D := (dC, dI)) (ci := 11) (v := .int jaC) (C := RX11) (T := TX11) (N := 55) hx hb hts qow hown hK hP 0 rfl rfl 21 (by decide) (hts _ qB8) (fun _ h9 => h9) rfl (qaa qcO 2 rfl) ?_
        obtain ⟨hCc, hPc, hDc, hFc⟩ := qac (ws' := (qaiW a0 jaX jaF jaD ja7 jby jbe jaM jaY jap jaK jal jam jax jao ja5 jb9 jbJ jae jag jaf jaN jaC jbw jaw jaI jbG jbg jbB jan jbD jbu jar jaL jah jaB jaa jaz jaH jab jaT a0_s jaq jai jaO jaA jat jau jav jaj jas jaJ jjo jiz jay jac)) hP hD hS hA [0] (by decide +kernel) rfl
        refine va_calli (va_runV (As := [.int jaC]) (rest := []) ⟨hx, hb, hml, hown, hts⟩ (q3i l dC dI cyB cyI cyJ cyP a0 H.size (jaX) (jaF) (jaD) (ja7) (jby) (jbe) (jaM) (jaY) (jap) (jaK) (jal) (jam) (jax) (jao) (.ref ja5) (.ref jb9) (.ref jbJ) (jae) (jag) (jaf) (.int jaN) (.int jaC) (.int jbw) (jaw) (jaI) (.ref jbG) (.ref jbg) (.ref jbB) (jan) (.int jbD) (.ref jbu) (jar) (jaL) (jah) (jaB) (jaa) (jaz) (jaH) (jab) (.ref jaT) (.ref a0_s) (jaq) (jai) (jaO) (jaA) (jat) (jau) (jav) (jaj) (jas) (jaJ) (.int jiz) (jay) (jac) jjo jaC hw) (cwV 1 hts gX11_marchGoes_X11_draws rfl rfl rfl (by decide +kernel) ⟨nbq rfl, nbq rfl⟩) ⟨qab, va_recv (q := (RX11, TX11, 55)) hK hPc (ci := 11) (q0 := 0) rfl rfl, qae hPc hK hDc hNw⟩ rfl rfl hl.1 rfl (lv_room (nbq rfl)) (qaa qcO 3 rfl) ⟨nbq rfl, nbq rfl⟩) hS (fun q _ h => hFc q h) hFc (fun r5 u t H1 locs ht hvm hw hB hz1 hk1 hS => ?_)
        obtain ⟨x4, rfl⟩ : ∃ z, z = u := ⟨_, rfl⟩
        obtain ⟨hP1, hK1, hD1⟩ := hB
        rw [ht] at hP1
        obtain ⟨hP, hD⟩ := qad (wr := (qaQ2 jaT cyI jb2 a0_s cyI f0_s ja5 cyI jbv jbu cyI jb1 jbB cyI jcb jbG cyI jcu jbg cyI jbT jbJ cyI jcy jb9 cyI jdH)) (w1 := (qaiW a0 jaX jaF jaD ja7 jby jbe jaM jaY jap jaK jal jam jax jao ja5 jb9 jbJ jae jag jaf jaN jaC jbw jaw jaI jbG jbg jbB jan jbD jbu jar jaL jah jaB jaa jaz jaH jab jaT a0_s jaq jai jaO jaA jat jau jav jaj jas jaJ x4 jiz jay jac)) (wn := (qtX a0 jaX jaF jaD ja7 jby jbe jaM jaY jap jaK jal jam jax jao ja5 jb9 jbJ jae jag jaf jaN jaC jbw jaw jaI jbG jbg jbB jan jbD jbu jar jaL jah jaB jaa jaz jaH jab jaT a0_s jaq jai jaO jaA jat jau jav jaj jas jaJ x4 jiz jay jac jaT cyI jb2 a0_s cyI f0_s ja5 cyI jbv jbu cyI jb1 jbB cyI jcb jbG cyI jcu jbg cyI jbT jbJ cyI jcy jb9 cyI jdH)) hP hD [0] [1, 2, 3, 4, 5, 6, 7, 8, 9] [9, 0, 1, 2, 3, 4, 5, 6, 7, 8] hCc rfl (by decide +kernel) (by decide +kernel) (by decide +kernel) rfl hk1 hFc hP1 hD1
        generalize H1 = H at hP hS ⊢
        refine lv_istore (lv' := [(4, .int r5), (0, .ref a0), (2, .int l2), (3, .int l3)]) hx hb (qaa qcO 4 rfl) hl (by decide) rfl (fun ls hl => ?_)
        refine lv_aload_n hx hb (qaa qcO 5 rfl) rfl (lv_at hl 1 rfl) ?_
        refine lv_dup hx hb (qaa qcO 6 rfl) rfl ?_
        refine va_get (D := (dC, dI)) (ci := 11) (v := .int jiz) (C := RX11) (T := TX11) (N := 55) hx hb hts qow hown hK hP 0 rfl rfl 52 (by decide) (hts _ qBY) (fun _ h9 => h9) rfl (qaa qcO 7 rfl) ?_
        refine lv_aload_n hx hb (qaa qcO 8 rfl) rfl (lv_at hl 1 rfl) ?_
        refine lv_iload hx hb (qaa qcO 9 rfl) (lv_at hl 0 rfl) ?_
        refine lv_aload_n hx hb (qaa qcO 10 rfl) rfl (lv_at hl 1 rfl) ?_
        refine lv_aload_n hx hb (qaa qcO 11 rfl) rfl (lv_at hl 1 rfl) ?_
        refine va_get (D := (dC, dI)) (ci := 11) (v := .int jaN) (C := RX11) (T := TX11) (N := 55) hx hb hts qow hown hK hP 0 rfl rfl 20 (by decide) (hts _ q3V) (fun _ h9 => h9) rfl (qaa qcO 12 rfl) ?_
        obtain ⟨hCc, hPc, hDc, hFc⟩ := qac (ws' := (qaiW a0 jaX jaF jaD ja7 jby jbe jaM jaY jap jaK jal jam jax jao ja5 jb9 jbJ jae jag jaf jaN jaC jbw jaw jaI jbG jbg jbB jan jbD jbu jar jaL jah jaB jaa jaz jaH jab jaT a0_s jaq jai jaO jaA jat jau jav jaj jas jaJ x4 jiz jay jac)) hP hD hS hA [0] (by decide +kernel) rfl
        refine va_calli (va_runV (As := [.int jaN]) (rest := [.int r5, .ref a0, .int jiz, .ref a0]) ⟨hx, hb, hml, hown, hts⟩ (q3i l dC dI cyB cyI cyJ cyP a0 H.size (jaX) (jaF) (jaD) (ja7) (jby) (jbe) (jaM) (jaY) (jap) (jaK) (jal) (jam) (jax) (jao) (.ref ja5) (.ref jb9) (.ref jbJ) (jae) (jag) (jaf) (.int jaN) (.int jaC) (.int jbw) (jaw) (jaI) (.ref jbG) (.ref jbg) (.ref jbB) (jan) (.int jbD) (.ref jbu) (jar) (jaL) (jah) (jaB) (jaa) (jaz) (jaH) (jab) (.ref jaT) (.ref a0_s) (jaq) (jai) (jaO) (jaA) (jat) (jau) (jav) (jaj) (jas) (jaJ) (.int jiz) (jay) (jac) x4 jaN hw) (cwV 1 hts gX11_marchGoes_X11_draws rfl rfl rfl (by decide +kernel) ⟨nbq rfl, nbq rfl⟩) ⟨qab, va_recv (q := (RX11, TX11, 55)) hK hPc (ci := 11) (q0 := 0) rfl rfl, qae hPc hK hDc hNw⟩ rfl rfl hl.1 rfl (lv_room (nbq rfl)) (qaa qcO 13 rfl) ⟨nbq rfl, nbq rfl⟩) hS (fun q _ h => hFc q h) hFc (fun r7 u t H1 locs ht hvm hw hB hz1 hk1 hS => ?_)
        obtain ⟨x6, rfl⟩ : ∃ z, z = u := ⟨_, rfl⟩
        obtain ⟨hP1, hK1, hD1⟩ := hB
        rw [ht] at hP1
        obtain ⟨hP, hD⟩ := qad (wr := (qaQ2 jaT cyI jb2 a0_s cyI f0_s ja5 cyI jbv jbu cyI jb1 jbB cyI jcb jbG cyI jcu jbg cyI jbT jbJ cyI jcy jb9 cyI jdH)) (w1 := (qaiW a0 jaX jaF jaD ja7 jby jbe jaM jaY jap jaK jal jam jax jao ja5 jb9 jbJ jae jag jaf jaN jaC jbw jaw jaI jbG jbg jbB jan jbD jbu jar jaL jah jaB jaa jaz jaH jab jaT a0_s jaq jai jaO jaA jat jau jav jaj jas jaJ x6 jiz jay jac)) (wn := (qtX a0 jaX jaF jaD ja7 jby jbe jaM jaY jap jaK jal jam jax jao ja5 jb9 jbJ jae jag jaf jaN jaC jbw jaw jaI jbG jbg jbB jan jbD jbu jar jaL jah jaB jaa jaz jaH jab jaT a0_s jaq jai jaO jaA jat jau jav jaj jas jaJ x6 jiz jay jac jaT cyI jb2 a0_s cyI f0_s ja5 cyI jbv jbu cyI jb1 jbB cyI jcb jbG cyI jcu jbg cyI jbT jbJ cyI jcy jb9 cyI jdH)) hP hD [0] [1, 2, 3, 4, 5, 6, 7, 8, 9] [9, 0, 1, 2, 3, 4, 5, 6, 7, 8] hCc rfl (by decide +kernel) (by decide +kernel) (by decide +kernel) rfl hk1 hFc hP1 hD1
        generalize H1 = H at hP hS ⊢
        obtain ⟨hCc, hPc, hDc, hFc⟩ := qac (ws' := (qa5v a0 jaX jaF jaD ja7 jby jbe jaM jaY jap jaK jal jam jax jao ja5 jb9 jbJ jae jag jaf jaN jaC jbw jaw jaI jbG jbg jbB jan jbD jbu jar jaL jah jaB jaa jaz jaH jab jaT a0_s jaq jai jaO jaA jat jau jav jaj jas jaJ x6 jiz jay jac a0_s cyI f0_s ja5 cyI jbv jbu cyI jb1 jbB cyI jcb jbG cyI jcu jbg cyI jbT)) hP hD hS hA [0, 2, 3, 4, 5, 6, 7] (by decide +kernel) rfl
        refine va_calli (va_runV (As := [.int r5, .int r7]) (rest := [.int jiz, .ref a0]) ⟨hx, hb, hml, hown, hts⟩ (q7I l dC dI cyB cyI cyJ cyP a0 a0_s ja5 jbu jbB jbG jbg H.size (jaX) (jaF) (jaD) (ja7) (jby) (jbe) (jaM) (jaY) (jap) (jaK) (jal) (jam) (jax) (jao) (.ref jb9) (.ref jbJ) (jae) (jag) (jaf) (.int jaN) (.int jbw) (jaw) (jaI) (jan) (jar) (jaL) (jah) (jaB) (jaa) (jaz) (jaH) (jab) (.ref jaT) (jaq) (jai) (jaO) (jaA) (jat) (jau) (jav) (jaj) (jas) (jaJ) (.int x6) (.int jiz) (jay) (jac) jaC jbD jbv jcu jbT jb1 jcb f0_s r5 r7 hw) (cwV 2 hts gX11_marchGoes_X11_leapsTo rfl rfl rfl (by decide +kernel) ⟨nbq rfl, nbq rfl⟩) ⟨qab, va_recv (q := (RX11, TX11, 55)) hK hPc (ci := 11) (q0 := 0) rfl rfl, qae hPc hK hDc hNw⟩ rfl rfl hl.1 rfl (lv_room (nbq rfl)) (qaa qcO 14 rfl) ⟨nbq rfl, nbq rfl⟩) hS (fun q _ h => hFc q h) hFc (fun r11 u t H1 locs ht hvm hw hB hz1 hk1 hS => ?_)
        obtain ⟨f8, f9, f10⟩ := u
        obtain ⟨hP1, hK1, hD1⟩ := hB
        rw [ht] at hP1
        obtain ⟨hP, hD⟩ := qad (wr := [(jaT, .inl (cyI, 68, .inl jb2)), (jbJ, .inl (cyI, 8, .inl jcy)), (jb9, .inl (cyI, 12, .inl jdH))]) (w1 := (qa5v a0 jaX jaF jaD ja7 jby jbe jaM jaY jap jaK jal jam jax jao ja5 jb9 jbJ jae jag jaf jaN jaC jbw jaw jaI jbG jbg jbB jan jbD jbu jar jaL jah jaB jaa jaz jaH jab jaT a0_s jaq jai jaO jaA jat jau jav jaj jas jaJ x6 jiz jay jac a0_s cyI f10 ja5 cyI jbv jbu cyI f8 jbB cyI f9 jbG cyI jcu jbg cyI jbT)) (wn := (qtX a0 jaX jaF jaD ja7 jby jbe jaM jaY jap jaK jal jam jax jao ja5 jb9 jbJ jae jag jaf jaN jaC jbw jaw jaI jbG jbg jbB jan jbD jbu jar jaL jah jaB jaa jaz jaH jab jaT a0_s jaq jai jaO jaA jat jau jav jaj jas jaJ x6 jiz jay jac jaT cyI jb2 a0_s cyI f10 ja5 cyI jbv jbu cyI f8 jbB cyI f9 jbG cyI jcu jbg cyI jbT jbJ cyI jcy jb9 cyI jdH)) hP hD [0, 2, 3, 4, 5, 6, 7] [1, 8, 9] [3, 0, 4, 5, 6, 7, 8, 9, 1, 2] hCc rfl (by decide +kernel) (by decide +kernel) (by decide +kernel) rfl hk1 hFc hP1 hD1
        generalize H1 = H at hP hS ⊢
        refine lv_if_eq (tgt := 64) hx hb (qaa qcO 15 rfl) (by decide) (fun c12 => ?_) (fun c12 => ?_)
        · have hw := hw.1 c12
          refine lv_iconst (v := 0) hx hb (qaa qcU 2 rfl) (by decide) ?_
          exact qOW dC dI cyB cyI cyJ cyP a0 jaT a0_s ja5 jbu jbB jbG jbg jbJ jb9 jaX jaF jaD ja7 jby jbe jaM jaY jap jaK jal jam jax jao jae jag jaf jaw jaI jan jar jaL jah jaB jaa jaz jaH jab jaq jai jaO jaA jat jau jav jaj jas jaJ jay jac jaN jaC jbw jbD jb2 jbv jcu jbT jcy jdH Q (qnL jaN jaC jbw jbD jb2 jbv jcu jbT jcy jdH Q n) ih C0 _ _ _ f10 x6 jiz f8 f9 l2 l3 r5 jiz 0 hP hD hS (lv_sub hl [1, 2, 3, 0] rfl) hw
        · have hw := hw.2 c12
          refine lv_iconst (v := 1) hx hb (qaa qcU 0 rfl) (by decide) ?_
          refine lv_goto (tgt := 65) hx hb (qaa qcU 1 rfl) (by decide) ?_
          exact qOW dC dI cyB cyI cyJ cyP a0 jaT a0_s ja5 jbu jbB jbG jbg jbJ jb9 jaX jaF jaD ja7 jby jbe jaM jaY jap jaK jal jam jax jao jae jag jaf jaw jaI jan jar jaL jah jaB jaa jaz jaH jab jaq jai jaO jaA jat jau jav jaj jas jaJ jay jac jaN jaC jbw jbD jb2 jbv jcu jbT jcy jdH Q (qnL jaN jaC jbw jbD jb2 jbv jcu jbT jcy jdH Q n) ih C0 _ _ _ f10 x6 jiz f8 f9 l2 l3 r5 jiz 1 hP hD hS (lv_sub hl [1, 2, 3, 0] rfl) hw
set_option maxHeartbeats 4000000 in
set_option maxRecDepth 100000 in
theorem qZS (l : Launch) (dC : Nat → ClassId) (dI : Nat → Nat → Nat) (cyB cyI cyJ cyP : ClassId) (a0 jaT a0_s ja5 jbu jbB jbG jbg jbJ jb9 sz : Nat) (jaX jaF jaD ja7 jby jbe jaM jaY jap jaK jal jam jax jao jae jag jaf jaw jaI jan jar jaL jah jaB jaa jaz jaH jab jaq jai jaO jaA jat jau jav jaj jas jaJ jay jac : Value) (jaN jaC jbw jbD : Int32) (jb2 jbv jcu jbT jcy jdH f0_s : NI) (jjo jiz : Int32) (jb1 jcb : NI) (p1 p2 : Int32) {Q : NI → Int32 → Int32 → NI → NI → Prop} (hw : qEv jaN jaC jbw jbD jb2 jbv jcu jbT jcy jdH f0_s jjo jiz jb1 jcb p1 p2 Q) : Met l yX11_marchGoes wsX11_marchGoes ({ frames := 7, cells := 0, slots := 0, locals := 159 }) (va_Pc [.ref a0, .int p1, .int p2] (cPc (dC, dI) (kT cyB cyI cyJ cyP) (qtX a0 jaX jaF jaD ja7 jby jbe jaM jaY jap jaK jal jam jax jao ja5 jb9 jbJ jae jag jaf jaN jaC jbw jaw jaI jbG jbg jbB jan jbD jbu jar jaL jah jaB jaa jaz jaH jab jaT a0_s jaq jai jaO jaA jat jau jav jaj jas jaJ jjo jiz jay jac jaT cyI jb2 a0_s cyI f0_s ja5 cyI jbv jbu cyI jb1 jbB cyI jcb jbG cyI jcu jbg cyI jbT jbJ cyI jcy jb9 cyI jdH) sz)) (va_Qv (fun (u : NI × Int32 × Int32 × NI × NI) => Q u.1 u.2.1 u.2.2.1 u.2.2.2.1 u.2.2.2.2) (cB (dC, dI) (kT cyB cyI cyJ cyP) (va_A (qtX a0 jaX jaF jaD ja7 jby jbe jaM jaY jap jaK jal jam jax jao ja5 jb9 jbJ jae jag jaf jaN jaC jbw jaw jaI jbG jbg jbB jan jbD jbu jar jaL jah jaB jaa jaz jaH jab jaT a0_s jaq jai jaO jaA jat jau jav jaj jas jaJ jjo jiz jay jac jaT cyI jb2 a0_s cyI f0_s ja5 cyI jbv jbu cyI jb1 jbB cyI jcb jbG cyI jcu jbg cyI jbT jbJ cyI jcy jb9 cyI jdH) sz) (fun u : NI × Int32 × Int32 × NI × NI => ((qtX a0 jaX jaF jaD ja7 jby jbe jaM jaY jap jaK jal jam jax jao ja5 jb9 jbJ jae jag jaf jaN jaC jbw jaw jaI jbG jbg jbB jan jbD jbu jar jaL jah jaB jaa jaz jaH jab jaT a0_s jaq jai jaO jaA jat jau jav jaj jas jaJ u.2.1 u.2.2.1 jay jac jaT cyI jb2 a0_s cyI u.1 ja5 cyI jbv jbu cyI u.2.2.2.1 jbB cyI u.2.2.2.2 jbG cyI jcu jbg cyI jbT jbJ cyI jcy jb9 cyI jdH) : va_W))) (va_A (qtX a0 jaX jaF jaD ja7 jby jbe jaM jaY jap jaK jal jam jax jao ja5 jb9 jbJ jae jag jaf jaN jaC jbw jaw jaI jbG jbg jbB jan jbD jbu jar jaL jah jaB jaa jaz jaH jab jaT a0_s jaq jai jaO jaA jat jau jav jaj jas jaJ jjo jiz jay jac jaT cyI jb2 a0_s cyI f0_s ja5 cyI jbv jbu cyI jb1 jbB cyI jcb jbG cyI jcu jbg cyI jbT jbJ cyI jcy jb9 cyI jdH) sz)) 0 0 (va_A (qtX a0 jaX jaF jaD ja7 jby jbe jaM jaY jap jaK jal jam jax jao ja5 jb9 jbJ jae jag jaf jaN jaC jbw jaw jaI jbG jbg jbB jan jbD jbu jar jaL jah jaB jaa jaz jaH jab jaT a0_s jaq jai jaO jaA jat jau jav jaj jas jaJ jjo jiz jay jac jaT cyI jb2 a0_s cyI f0_s ja5 cyI jbv jbu cyI jb1 jbB cyI jcb jbG cyI jcu jbg cyI jbT jbJ cyI jcy jb9 cyI jdH) sz) := by
  refine Met.ofW (cc := cX11_marchGoes) (maxL := 5) (ret := none) (by decide) rfl ?_
  intro p e s m args below meth c s₁ B hml hv
  obtain ⟨rfl, hsz, hP, hK, hD0, hNw⟩ := hv
  have hx := B.exec
  have hb := B.bytes
  have hr := B.returns
  have hts := atoms_spec (ws := wsX11_marchGoes) B.pre
  have hown : s.vm.findClass RX11 = some m.cls := findClass_of_methodNamed B.named
  have hlocks := B.notSynchronized
  subst hsz
  have hD := hD0.self (sz := s.heap.size)
  generalize hAe : va_A (qtX a0 jaX jaF jaD ja7 jby jbe jaM jaY jap jaK jal jam jax jao ja5 jb9 jbJ jae jag jaf jaN jaC jbw jaw jaI jbG jbg jbB jan jbD jbu jar jaL jah jaB jaa jaz jaH jab jaT a0_s jaq jai jaO jaA jat jau jav jaj jas jaJ jjo jiz jay jac jaT cyI jb2 a0_s cyI f0_s ja5 cyI jbv jbu cyI jb1 jbB cyI jcb jbG cyI jcu jbg cyI jbT jbJ cyI jcy jb9 cyI jdH) s.heap.size = A at hD ⊢
  have hA : ∀ q : Nat, s.heap.size ≤ q → A q := fun q h => by rw [← hAe]; exact Or.inr h
  have hS : va_S A s.heap s.heap [] := va_S.rf
  have hP : va_P (dC, dI) vwCl (qtX a0 jaX jaF jaD ja7 jby jbe jaM jaY jap jaK jal jam jax jao ja5 jb9 jbJ jae jag jaf jaN jaC jbw jaw jaI jbG jbg jbB jan jbD jbu jar jaL jah jaB jaa jaz jaH jab jaT a0_s jaq jai jaO jaA jat jau jav jaj jas jaJ jjo jiz jay jac jaT cyI jb2 a0_s cyI f0_s ja5 cyI jbv jbu cyI jb1 jbB cyI jcb jbG cyI jcu jbg cyI jbT jbJ cyI jcy jb9 cyI jdH) s.heap := hP
  have hl := lv_entry ([.ref a0, .int p1, .int p2]) (n := 5) (nbq rfl)
  rw [lg_entry_eq]
  generalize (lg_sl ([.ref a0, .int p1, .int p2]) ++ List.replicate (5 - (lg_sl ([.ref a0, .int p1, .int p2])).length) Slot.unset).toArray = ls at hl ⊢
  have hl : lv_has ls 5 [(0, .ref a0), (1, .int p1), (2, .int p2)] := hl
  have C0 : cfx p s m _ meth c cX11_marchGoes none wsX11_marchGoes RX11 5 A (dC, dI) (kT cyB cyI cyJ cyP) := ⟨hx, hb, hr, hts, hown, hlocks, hml, hA, hK, hNw⟩
  clear hAe
  obtain ⟨H, hH⟩ : ∃ H, H = s.heap := ⟨_, rfl⟩
  rw [← hH] at hP ⊢
  have hS : va_S A s.heap H [] := by rw [hH]; exact va_S.rf
  have hS := hS
  refine lv_aload_n hx hb (qaa qdw 0 rfl) rfl (lv_at hl 0 rfl) ?_
  obtain ⟨hCc, hPc, hDc, hFc⟩ := qac (ws' := (qa8Q a0 jaX jaF jaD ja7 jby jbe jaM jaY jap jaK jal jam jax jao ja5 jb9 jbJ jae jag jaf jaN jaC jbw jaw jaI jbG jbg jbB jan jbD jbu jar jaL jah jaB jaa jaz jaH jab jaT a0_s jaq jai jaO jaA jat jau jav jaj jas jaJ jjo jiz jay jac jaT cyI jb2 a0_s cyI f0_s)) hP hD hS hA [0, 1, 2] (by decide +kernel) rfl
  refine va_callv (va_runV (As := []) (rest := []) ⟨hx, hb, hml, hown, hts⟩ (qq7 l dC dI cyB cyI cyJ cyP a0 jaT a0_s H.size (jaX) (jaF) (jaD) (ja7) (jby) (jbe) (jaM) (jaY) (jap) (jaK) (jal) (jam) (jax) (jao) (.ref ja5) (.ref jb9) (.ref jbJ) (jae) (jag) (jaf) (.int jaN) (.int jaC) (.int jbw) (jaw) (jaI) (.ref jbG) (.ref jbg) (.ref jbB) (jan) (.int jbD) (.ref jbu) (jar) (jaL) (jah) (jaB) (jaa) (jaz) (jaH) (jab) (jaq) (jai) (jaO) (jaA) (jat) (jau) (jav) (jaj) (jas) (jaJ) (.int jjo) (.int jiz) (jay) (jac) jb2 f0_s hw) (cwV 0 hts gX11_marchGoes_X11_take rfl rfl rfl (by decide +kernel) ⟨nbq rfl, nbq rfl⟩) ⟨qab, va_recv (q := (RX11, TX11, 55)) hK hPc (ci := 11) (q0 := 0) rfl rfl, qae hPc hK hDc hNw⟩ rfl rfl hl.1 rfl (lv_room (nbq rfl)) (qaa qdw 1 rfl) ⟨nbq rfl, nbq rfl⟩) hS (fun q _ h => hFc q h) hFc (fun u t H1 locs ht hvm hw hB hz1 hk1 hS => ?_)
  obtain ⟨f1, rfl⟩ : ∃ z, z = u := ⟨_, rfl⟩
  obtain ⟨hP1, hK1, hD1⟩ := hB
  rw [ht] at hP1
  obtain ⟨hP, hD⟩ := qad (wr := [(ja5, .inl (cyI, 16, .inl jbv)), (jbu, .inl (cyI, 8, .inl jb1)), (jbB, .inl (cyI, 150, .inl jcb)), (jbG, .inl (cyI, 150, .inl jcu)), (jbg, .inl (cyI, 150, .inl jbT)), (jbJ, .inl (cyI, 8, .inl jcy)), (jb9, .inl (cyI, 12, .inl jdH))]) (w1 := (qa8Q a0 jaX jaF jaD ja7 jby jbe jaM jaY jap jaK jal jam jax jao ja5 jb9 jbJ jae jag jaf jaN jaC jbw jaw jaI jbG jbg jbB jan jbD jbu jar jaL jah jaB jaa jaz jaH jab jaT a0_s jaq jai jaO jaA jat jau jav jaj jas jaJ jjo jiz jay jac jaT cyI jb2 a0_s cyI f1)) (wn := (qtX a0 jaX jaF jaD ja7 jby jbe jaM jaY jap jaK jal jam jax jao ja5 jb9 jbJ jae jag jaf jaN jaC jbw jaw jaI jbG jbg jbB jan jbD jbu jar jaL jah jaB jaa jaz jaH jab jaT a0_s jaq jai jaO jaA jat jau jav jaj jas jaJ jjo jiz jay jac jaT cyI jb2 a0_s cyI f1 ja5 cyI jbv jbu cyI jb1 jbB cyI jcb jbG cyI jcu jbg cyI jbT jbJ cyI jcy jb9 cyI jdH)) hP hD [0, 1, 2] [3, 4, 5, 6, 7, 8, 9] [7, 8, 9, 0, 1, 2, 3, 4, 5, 6] hCc rfl (by decide +kernel) (by decide +kernel) (by decide +kernel) rfl hk1 hFc hP1 hD1
  generalize H1 = H at hP hS ⊢
  refine lv_aload_n hx hb (qaa qdw 2 rfl) rfl (lv_at hl 0 rfl) ?_
  refine lv_iload_n hx hb (qaa qdw 3 rfl) rfl (lv_at hl 1 rfl) ?_
  refine va_put (D := (dC, dI)) (ci := 11) (v := .int p1) (ty := .int) (C := RX11) (T := TX11) (N := 55) hx hb hts qow tyX11 tyX11_ok nmX11 hown hK hP hD hS 0 rfl rfl 51 (by decide) (hts _ q3y) (fun _ h9 => h9) rfl (by decide +kernel) rfl rfl (nbq rfl) (qaa qdw 4 rfl) (fun H locs hP hD hS => ?_)
  have hP : va_P (dC, dI) vwCl (qtX a0 jaX jaF jaD ja7 jby jbe jaM jaY jap jaK jal jam jax jao ja5 jb9 jbJ jae jag jaf jaN jaC jbw jaw jaI jbG jbg jbB jan jbD jbu jar jaL jah jaB jaa jaz jaH jab jaT a0_s jaq jai jaO jaA jat jau jav jaj jas jaJ p1 jiz jay jac jaT cyI jb2 a0_s cyI f1 ja5 cyI jbv jbu cyI jb1 jbB cyI jcb jbG cyI jcu jbg cyI jbT jbJ cyI jcy jb9 cyI jdH) H := hP
  have hD : va_D A (qtX a0 jaX jaF jaD ja7 jby jbe jaM jaY jap jaK jal jam jax jao ja5 jb9 jbJ jae jag jaf jaN jaC jbw jaw jaI jbG jbg jbB jan jbD jbu jar jaL jah jaB jaa jaz jaH jab jaT a0_s jaq jai jaO jaA jat jau jav jaj jas jaJ p1 jiz jay jac jaT cyI jb2 a0_s cyI f1 ja5 cyI jbv jbu cyI jb1 jbB cyI jcb jbG cyI jcu jbg cyI jbT jbJ cyI jcy jb9 cyI jdH) := hD
  refine lv_aload_n hx hb (qaa qdw 5 rfl) rfl (lv_at hl 0 rfl) ?_
  refine lv_iconst (v := 0) hx hb (qaa qdw 6 rfl) (by decide) ?_
  refine va_put (D := (dC, dI)) (ci := 11) (v := .int 0) (ty := .int) (C := RX11) (T := TX11) (N := 55) hx hb hts qow tyX11 tyX11_ok nmX11 hown hK hP hD hS 0 rfl rfl 52 (by decide) (hts _ qBY) (fun _ h9 => h9) rfl (by decide +kernel) rfl rfl (nbq rfl) (qaa qdw 7 rfl) (fun H locs hP hD hS => ?_)
  have hP : va_P (dC, dI) vwCl (qtX a0 jaX jaF jaD ja7 jby jbe jaM jaY jap jaK jal jam jax jao ja5 jb9 jbJ jae jag jaf jaN jaC jbw jaw jaI jbG jbg jbB jan jbD jbu jar jaL jah jaB jaa jaz jaH jab jaT a0_s jaq jai jaO jaA jat jau jav jaj jas jaJ p1 0 jay jac jaT cyI jb2 a0_s cyI f1 ja5 cyI jbv jbu cyI jb1 jbB cyI jcb jbG cyI jcu jbg cyI jbT jbJ cyI jcy jb9 cyI jdH) H := hP
  have hD : va_D A (qtX a0 jaX jaF jaD ja7 jby jbe jaM jaY jap jaK jal jam jax jao ja5 jb9 jbJ jae jag jaf jaN jaC jbw jaw jaI jbG jbg jbB jan jbD jbu jar jaL jah jaB jaa jaz jaH jab jaT a0_s jaq jai jaO jaA jat jau jav jaj jas jaJ p1 0 jay jac jaT cyI jb2 a0_s cyI f1 ja5 cyI jbv jbu cyI jb1 jbB cyI jcb jbG cyI jcu jbg cyI jbT jbJ cyI jcy jb9 cyI jdH) := hD
  refine lv_iconst (v := 0) hx hb (qaa qdw 8 rfl) (by decide) ?_
  refine lv_istore_n (lv' := [(3, .int 0), (0, .ref a0), (1, .int p1), (2, .int p2)]) hx hb (qaa qdw 9 rfl) rfl hl (by decide) rfl (fun ls hl => ?_)
  obtain ⟨n9, hw⟩ := hw
  exact qabn dC dI cyB cyI cyJ cyP a0 jaT a0_s ja5 jbu jbB jbG jbg jbJ jb9 jaX jaF jaD ja7 jby jbe jaM jaY jap jaK jal jam jax jao jae jag jaf jaw jaI jan jar jaL jah jaB jaa jaz jaH jab jaq jai jaO jaA jat jau jav jaj jas jaJ jay jac jaN jaC jbw jbD jb2 jbv jcu jbT jcy jdH Q C0 n9 _ _ _ f1 p1 0 jb1 jcb p2 0 hP hD hS (lv_sub hl [1, 3, 0] rfl) hw
theorem qJo : ∀ w ∈ u_ws RX11 TX11 55, w ∈ wsX11_strengthNow := uiM qyt qfa (by decide +kernel)
theorem qXq : (.fieldLink RX11 169 "MarchHaresModel" "hares" "I" : Cond) ∈ wsX11_strengthNow := qyt 520 (by decide +kernel)
theorem q0y : (.fieldLink RX11 71 "MarchHaresModel" "s" "[I" : Cond) ∈ wsX11_strengthNow := qyt 457 (by decide +kernel)
set_option maxHeartbeats 4000000 in
set_option maxRecDepth 100000 in
theorem qLb {p : Program} {l : Launch} {e : Env} {s : State} {m : MethodId} {args : Array Value} {below : List Frame} {meth : Method} {c : Code} {A : Nat → Prop} (dC : Nat → ClassId) (dI : Nat → Nat → Nat) (cyB cyI cyJ cyP : ClassId) (a0 a0_s : Nat) (jaX jaF jaD ja7 jby jbe jaM jaY jap jaK jal jam jax jao ja6 jaV ja8 jae jag jaf ja0 jaP jaw jaI jaZ jaG jaS jan jaU jaE jar jaL jah jaB jaa jaz jaH jab ja2 jaq jai jaO jaA jat jau jav jaj jas jaJ jak jad jay jac : Value) (jaC : Int32) (f0_s : NI) (Q : Int32 → Prop) (K4 : Int32 → Int32 → Prop) (hK4 : ∀ (H : Heap) (locs : List Loc) (ls : Array Slot) (l1 l2 : Int32), va_P (dC, dI) vwCl (qzL a0 jaX jaF jaD ja7 jby jbe jaM jaY jap jaK jal jam jax jao ja6 jaV ja8 jae jag jaf ja0 jaC jaP jaw jaI jaZ jaG jaS jan jaU jaE jar jaL jah jaB jaa jaz jaH jab ja2 a0_s jaq jai jaO jaA jat jau jav jaj jas jaJ jak jad jay jac a0_s cyI f0_s) H → va_D A (qzL a0 jaX jaF jaD ja7 jby jbe jaM jaY jap jaK jal jam jax jao ja6 jaV ja8 jae jag jaf ja0 jaC jaP jaw jaI jaZ jaG jaS jan jaU jaE jar jaL jah jaB jaa jaz jaH jab ja2 a0_s jaq jai jaO jaA jat jau jav jaj jas jaJ jak jad jay jac a0_s cyI f0_s) → va_S A s.heap H locs → lv_has ls 3 [(0, .ref a0), (1, .int l1), (2, .int l2)] → K4 l1 l2 → W p l e (headSpec wsX11_strengthNow ({ frames := 1, cells := 0, slots := 0, locals := 21 })).room s m args below meth c H locs 0 0 (MQ below (va_Qi (fun (r : Int32) (_ : Unit) => Q r ) (cB (dC, dI) (kT cyB cyI cyJ cyP) A (fun u : Unit => ((qzL a0 jaX jaF jaD ja7 jby jbe jaM jaY jap jaK jal jam jax jao ja6 jaV ja8 jae jag jaf ja0 jaC jaP jaw jaI jaZ jaG jaS jan jaU jaE jar jaL jah jaB jaa jaz jaH jab ja2 a0_s jaq jai jaO jaA jat jau jav jaj jas jaJ jak jad jay jac a0_s cyI f0_s) : va_W))) A) args s 0 0 A) (F0 m 4 ls [])) (C0 : cfx p s m args meth c cX11_strengthNow (some .int) wsX11_strengthNow RX11 3 A (dC, dI) (kT cyB cyI cyJ cyP)) : ∀ (H : Heap) (locs : List Loc) (ls : Array Slot) (l2 s0 s1 : Int32), va_P (dC, dI) vwCl (qzL a0 jaX jaF jaD ja7 jby jbe jaM jaY jap jaK jal jam jax jao ja6 jaV ja8 jae jag jaf ja0 jaC jaP jaw jaI jaZ jaG jaS jan jaU jaE jar jaL jah jaB jaa jaz jaH jab ja2 a0_s jaq jai jaO jaA jat jau jav jaj jas jaJ jak jad jay jac a0_s cyI f0_s) H → va_D A (qzL a0 jaX jaF jaD ja7 jby jbe jaM jaY jap jaK jal jam jax jao ja6 jaV ja8 jae jag jaf ja0 jaC jaP jaw jaI jaZ jaG jaS jan jaU jaE jar jaL jah jaB jaa jaz jaH jab ja2 a0_s jaq jai jaO jaA jat jau jav jaj jas jaJ jak jad jay jac a0_s cyI f0_s) → va_S A s.heap H locs → lv_has ls 3 [(0, .ref a0), (2, .int l2)] → qBJ jaC f0_s Q K4 l2 s0 s1 → W p l e (headSpec wsX11_strengthNow ({ frames := 1, cells := 0, slots := 0, locals := 21 })).room s m args below meth c H locs 0 0 (MQ below (va_Qi (fun (r : Int32) (_ : Unit) => Q r ) (cB (dC, dI) (kT cyB cyI cyJ cyP) A (fun u : Unit => ((qzL a0 jaX jaF jaD ja7 jby jbe jaM jaY jap jaK jal jam jax jao ja6 jaV ja8 jae jag jaf ja0 jaC jaP jaw jaI jaZ jaG jaS jan jaU jaE jar jaL jah jaB jaa jaz jaH jab ja2 a0_s jaq jai jaO jaA jat jau jav jaj jas jaJ jak jad jay jac a0_s cyI f0_s) : va_W))) A) args s 0 0 A) (F0 m 34 ls [.int s1, .int s0]) := by
  obtain ⟨hx, hb, hr, hts, hown, hlocks, hml, hA, hK, hNw⟩ := id C0
  intro H locs ls l2 s0 s1 hP hD hS hl hw
  refine lv_iadd hx hb (qaa qgf 5 rfl) ?_
  refine lv_topi (fun x6 ex6 => ?_)
  have hw := hw x6 ex6
  refine lv_istore_n (lv' := [(1, .int x6), (0, .ref a0), (2, .int l2)]) hx hb (qaa qgf 6 rfl) rfl hl (by decide) rfl (fun ls hl => ?_)
  obtain ⟨x7, ex7⟩ : ∃ y : Int32, y = l2 + 1 := ⟨_, rfl⟩
  have hw := hw x7 ex7
  refine lv_iinc (v := x7) (lv' := [(2, .int x7), (1, .int x6), (0, .ref a0)]) hx hb (qaa qgf 7 rfl) hl (k := 2) rfl (by rw [ex7]; rfl) (by decide) rfl (fun ls hl => ?_)
  refine lv_goto (tgt := 4) hx hb (qaa qgf 8 rfl) (by decide) ?_
  exact hK4 _ _ _ x6 x7 hP hD hS (lv_sub hl [2, 1, 0] rfl) hw
set_option maxHeartbeats 4000000 in
set_option maxRecDepth 100000 in
theorem q6H {p : Program} {l : Launch} {e : Env} {s : State} {m : MethodId} {args : Array Value} {below : List Frame} {meth : Method} {c : Code} {A : Nat → Prop} (dC : Nat → ClassId) (dI : Nat → Nat → Nat) (cyB cyI cyJ cyP : ClassId) (a0 a0_s : Nat) (jaX jaF jaD ja7 jby jbe jaM jaY jap jaK jal jam jax jao ja6 jaV ja8 jae jag jaf ja0 jaP jaw jaI jaZ jaG jaS jan jaU jaE jar jaL jah jaB jaa jaz jaH jab ja2 jaq jai jaO jaA jat jau jav jaj jas jaJ jak jad jay jac : Value) (jaC : Int32) (f0_s : NI) (Q : Int32 → Prop) (C0 : cfx p s m args meth c cX11_strengthNow (some .int) wsX11_strengthNow RX11 3 A (dC, dI) (kT cyB cyI cyJ cyP)) : ∀ (n : Nat) (H : Heap) (locs : List Loc) (ls : Array Slot) (l1 l2 : Int32), va_P (dC, dI) vwCl (qzL a0 jaX jaF jaD ja7 jby jbe jaM jaY jap jaK jal jam jax jao ja6 jaV ja8 jae jag jaf ja0 jaC jaP jaw jaI jaZ jaG jaS jan jaU jaE jar jaL jah jaB jaa jaz jaH jab ja2 a0_s jaq jai jaO jaA jat jau jav jaj jas jaJ jak jad jay jac a0_s cyI f0_s) H → va_D A (qzL a0 jaX jaF jaD ja7 jby jbe jaM jaY jap jaK jal jam jax jao ja6 jaV ja8 jae jag jaf ja0 jaC jaP jaw jaI jaZ jaG jaS jan jaU jaE jar jaL jah jaB jaa jaz jaH jab ja2 a0_s jaq jai jaO jaA jat jau jav jaj jas jaJ jak jad jay jac a0_s cyI f0_s) → va_S A s.heap H locs → lv_has ls 3 [(0, .ref a0), (1, .int l1), (2, .int l2)] → qpY jaC f0_s Q n l1 l2 → W p l e (headSpec wsX11_strengthNow ({ frames := 1, cells := 0, slots := 0, locals := 21 })).room s m args below meth c H locs 0 0 (MQ below (va_Qi (fun (r : Int32) (_ : Unit) => Q r ) (cB (dC, dI) (kT cyB cyI cyJ cyP) A (fun u : Unit => ((qzL a0 jaX jaF jaD ja7 jby jbe jaM jaY jap jaK jal jam jax jao ja6 jaV ja8 jae jag jaf ja0 jaC jaP jaw jaI jaZ jaG jaS jan jaU jaE jar jaL jah jaB jaa jaz jaH jab ja2 a0_s jaq jai jaO jaA jat jau jav jaj jas jaJ jak jad jay jac a0_s cyI f0_s) : va_W))) A) args s 0 0 A) (F0 m 4 ls []) := by
  obtain ⟨hx, hb, hr, hts, hown, hlocks, hml, hA, hK, hNw⟩ := id C0
  intro n
  induction n with
  | zero => intro H locs ls l1 l2 hP hD hS hl hw; exact False.elim hw
  | succ n ih =>
    intro H locs ls l1 l2 hP hD hS hl hw
    refine lv_iload_n hx hb (qaa qcl 4 rfl) rfl (lv_at hl 2 rfl) ?_
    refine lv_aload_n hx hb (qaa qcl 5 rfl) rfl (lv_at hl 0 rfl) ?_
    refine va_get (D := (dC, dI)) (ci := 11) (v := .int jaC) (C := RX11) (T := TX11) (N := 55) hx hb hts qJo hown hK hP 0 rfl rfl 21 (by decide) (hts _ qXq) (fun _ h9 => h9) rfl (qaa qcl 6 rfl) ?_
    refine lv_icmp_ge (tgt := 42) hx hb (qaa qcl 7 rfl) (by decide) (fun c1 => ?_) (fun c1 => ?_)
    · have hw := hw.1 c1
      refine lv_iload_n hx hb (qaa qgf 9 rfl) rfl (lv_at hl 1 rfl) ?_
      exact ((W.iret (v := l1) hx hb hr (fun t ht hW => ⟨⟨l1, (), rfl, hw, by rw [ht]; exact hP, va_K.moved hW.alike hK, hD⟩, hS.F ht⟩) hS.2.2 (qaa qgf 10 rfl)))
    · have hw := hw.2 c1
      refine lv_iload_n hx hb (qaa qcl 8 rfl) rfl (lv_at hl 1 rfl) ?_
      refine lv_aload_n hx hb (qaa qcl 9 rfl) rfl (lv_at hl 0 rfl) ?_
      refine lv_iload_n hx hb (qaa qcl 10 rfl) rfl (lv_at hl 2 rfl) ?_
      obtain ⟨hCc, hPc, hDc, hFc⟩ := qac (ws' := (qzL a0 jaX jaF jaD ja7 jby jbe jaM jaY jap jaK jal jam jax jao ja6 jaV ja8 jae jag jaf ja0 jaC jaP jaw jaI jaZ jaG jaS jan jaU jaE jar jaL jah jaB jaa jaz jaH jab ja2 a0_s jaq jai jaO jaA jat jau jav jaj jas jaJ jak jad jay jac a0_s cyI f0_s)) hP hD hS hA [0, 1] (by decide +kernel) rfl
      refine va_calli (va_runV (As := [.int l2]) (rest := [.int l1]) ⟨hx, hb, hml, hown, hts⟩ (qim l dC dI cyB cyI cyJ cyP a0 a0_s H.size (jaX) (jaF) (jaD) (ja7) (jby) (jbe) (jaM) (jaY) (jap) (jaK) (jal) (jam) (jax) (jao) (ja6) (jaV) (ja8) (jae) (jag) (jaf) (ja0) (.int jaC) (jaP) (jaw) (jaI) (jaZ) (jaG) (jaS) (jan) (jaU) (jaE) (jar) (jaL) (jah) (jaB) (jaa) (jaz) (jaH) (jab) (ja2) (jaq) (jai) (jaO) (jaA) (jat) (jau) (jav) (jaj) (jas) (jaJ) (jak) (jad) (jay) (jac) f0_s l2 hw) (cwV 1 hts gX11_strengthNow_X11_isCaught rfl rfl rfl (by decide +kernel) ⟨nbq rfl, nbq rfl⟩) ⟨qab, va_recv (q := (RX11, TX11, 55)) hK hPc (ci := 11) (q0 := 0) rfl rfl, qae hPc hK hDc hNw⟩ rfl rfl hl.1 rfl (lv_room (nbq rfl)) (qaa qcl 11 rfl) ⟨nbq rfl, nbq rfl⟩) hS (fun q _ h => hFc q h) hFc (fun r2 u t H1 locs ht hvm hw hB hz1 hk1 hS => ?_)
      obtain ⟨hP1, hK1, hD1⟩ := hB
      rw [ht] at hP1
      obtain ⟨hP, hD⟩ := qah (wr := []) (w1 := (qzL a0 jaX jaF jaD ja7 jby jbe jaM jaY jap jaK jal jam jax jao ja6 jaV ja8 jae jag jaf ja0 jaC jaP jaw jaI jaZ jaG jaS jan jaU jaE jar jaL jah jaB jaa jaz jaH jab ja2 a0_s jaq jai jaO jaA jat jau jav jaj jas jaJ jak jad jay jac a0_s cyI f0_s)) (wn := (qzL a0 jaX jaF jaD ja7 jby jbe jaM jaY jap jaK jal jam jax jao ja6 jaV ja8 jae jag jaf ja0 jaC jaP jaw jaI jaZ jaG jaS jan jaU jaE jar jaL jah jaB jaa jaz jaH jab ja2 a0_s jaq jai jaO jaA jat jau jav jaj jas jaJ jak jad jay jac a0_s cyI f0_s)) hP hD [0, 1] [] hCc rfl (by decide +kernel) (by decide +kernel) rfl hk1 hFc hP1 hD1
      generalize H1 = H at hP hS ⊢
      refine lv_if_eq (tgt := 25) hx hb (qaa qcl 12 rfl) (by decide) (fun c3 => ?_) (fun c3 => ?_)
      · have hw := hw.1 c3
        refine lv_aload_n hx hb (qaa qcl 15 rfl) rfl (lv_at hl 0 rfl) ?_
        refine va_get (D := (dC, dI)) (ci := 11) (v := .ref a0_s) (C := RX11) (T := TX11) (N := 55) hx hb hts qJo hown hK hP 0 rfl rfl 40 (by decide) (hts _ q0y) (fun _ h9 => h9) rfl (qaa qgf 0 rfl) ?_
        refine lv_bipush (v := 6) hx hb (qaa qgf 1 rfl) (by decide) ?_
        refine lv_iload_n hx hb (qaa qgf 2 rfl) rfl (lv_at hl 2 rfl) ?_
        refine lv_iadd hx hb (qaa qgf 3 rfl) ?_
        refine lv_topi (fun x4 ex4 => ?_)
        have hw := hw x4 ex4
        obtain ⟨hi9, hw⟩ := hw
        refine va_iald hx hb hK hP 1 1 rfl rfl hi9 (qaa qgf 4 rfl) ?_
        refine lv_topi (fun x5 ex5 => ?_)
        have hw := hw x5 ex5
        exact qLb dC dI cyB cyI cyJ cyP a0 a0_s jaX jaF jaD ja7 jby jbe jaM jaY jap jaK jal jam jax jao ja6 jaV ja8 jae jag jaf ja0 jaP jaw jaI jaZ jaG jaS jan jaU jaE jar jaL jah jaB jaa jaz jaH jab ja2 jaq jai jaO jaA jat jau jav jaj jas jaJ jak jad jay jac jaC f0_s Q (qpY jaC f0_s Q n) ih C0 _ _ _ l2 l1 x5 hP hD hS (lv_sub hl [0, 2] rfl) hw
      · have hw := hw.2 c3
        refine lv_iconst (v := 0) hx hb (qaa qcl 13 rfl) (by decide) ?_
        refine lv_goto (tgt := 34) hx hb (qaa qcl 14 rfl) (by decide) ?_
        exact qLb dC dI cyB cyI cyJ cyP a0 a0_s jaX jaF jaD ja7 jby jbe jaM jaY jap jaK jal jam jax jao ja6 jaV ja8 jae jag jaf ja0 jaP jaw jaI jaZ jaG jaS jan jaU jaE jar jaL jah jaB jaa jaz jaH jab ja2 jaq jai jaO jaA jat jau jav jaj jas jaJ jak jad jay jac jaC f0_s Q (qpY jaC f0_s Q n) ih C0 _ _ _ l2 l1 0 hP hD hS (lv_sub hl [0, 2] rfl) hw
set_option maxHeartbeats 4000000 in
set_option maxRecDepth 100000 in
theorem qadH (l : Launch) (dC : Nat → ClassId) (dI : Nat → Nat → Nat) (cyB cyI cyJ cyP : ClassId) (a0 a0_s sz : Nat) (jaX jaF jaD ja7 jby jbe jaM jaY jap jaK jal jam jax jao ja6 jaV ja8 jae jag jaf ja0 jaP jaw jaI jaZ jaG jaS jan jaU jaE jar jaL jah jaB jaa jaz jaH jab ja2 jaq jai jaO jaA jat jau jav jaj jas jaJ jak jad jay jac : Value) (jaC : Int32) (f0_s : NI) {Q : Int32 → Prop} (hw : qH3 jaC f0_s Q) : Met l yX11_strengthNow wsX11_strengthNow ({ frames := 1, cells := 0, slots := 0, locals := 21 }) (va_Pc [.ref a0] (cPc (dC, dI) (kT cyB cyI cyJ cyP) (qzL a0 jaX jaF jaD ja7 jby jbe jaM jaY jap jaK jal jam jax jao ja6 jaV ja8 jae jag jaf ja0 jaC jaP jaw jaI jaZ jaG jaS jan jaU jaE jar jaL jah jaB jaa jaz jaH jab ja2 a0_s jaq jai jaO jaA jat jau jav jaj jas jaJ jak jad jay jac a0_s cyI f0_s) sz)) (va_Qi (fun (r : Int32) (_ : Unit) => Q r ) (cB (dC, dI) (kT cyB cyI cyJ cyP) (va_A (qzL a0 jaX jaF jaD ja7 jby jbe jaM jaY jap jaK jal jam jax jao ja6 jaV ja8 jae jag jaf ja0 jaC jaP jaw jaI jaZ jaG jaS jan jaU jaE jar jaL jah jaB jaa jaz jaH jab ja2 a0_s jaq jai jaO jaA jat jau jav jaj jas jaJ jak jad jay jac a0_s cyI f0_s) sz) (fun u : Unit => ((qzL a0 jaX jaF jaD ja7 jby jbe jaM jaY jap jaK jal jam jax jao ja6 jaV ja8 jae jag jaf ja0 jaC jaP jaw jaI jaZ jaG jaS jan jaU jaE jar jaL jah jaB jaa jaz jaH jab ja2 a0_s jaq jai jaO jaA jat jau jav jaj jas jaJ jak jad jay jac a0_s cyI f0_s) : va_W))) (va_A (qzL a0 jaX jaF jaD ja7 jby jbe jaM jaY jap jaK jal jam jax jao ja6 jaV ja8 jae jag jaf ja0 jaC jaP jaw jaI jaZ jaG jaS jan jaU jaE jar jaL jah jaB jaa jaz jaH jab ja2 a0_s jaq jai jaO jaA jat jau jav jaj jas jaJ jak jad jay jac a0_s cyI f0_s) sz)) 0 0 (va_A (qzL a0 jaX jaF jaD ja7 jby jbe jaM jaY jap jaK jal jam jax jao ja6 jaV ja8 jae jag jaf ja0 jaC jaP jaw jaI jaZ jaG jaS jan jaU jaE jar jaL jah jaB jaa jaz jaH jab ja2 a0_s jaq jai jaO jaA jat jau jav jaj jas jaJ jak jad jay jac a0_s cyI f0_s) sz) := by
  refine Met.ofW (cc := cX11_strengthNow) (maxL := 3) (ret := (some .int)) (by decide) rfl ?_
  intro p e s m args below meth c s₁ B hml hv
  obtain ⟨rfl, hsz, hP, hK, hD0, hNw⟩ := hv
  have hx := B.exec
  have hb := B.bytes
  have hr := B.returns
  have hts := atoms_spec (ws := wsX11_strengthNow) B.pre
  have hown : s.vm.findClass RX11 = some m.cls := findClass_of_methodNamed B.named
  have hlocks := B.notSynchronized
  subst hsz
  have hD := hD0.self (sz := s.heap.size)
  generalize hAe : va_A (qzL a0 jaX jaF jaD ja7 jby jbe jaM jaY jap jaK jal jam jax jao ja6 jaV ja8 jae jag jaf ja0 jaC jaP jaw jaI jaZ jaG jaS jan jaU jaE jar jaL jah jaB jaa jaz jaH jab ja2 a0_s jaq jai jaO jaA jat jau jav jaj jas jaJ jak jad jay jac a0_s cyI f0_s) s.heap.size = A at hD ⊢
  have hA : ∀ q : Nat, s.heap.size ≤ q → A q := fun q h => by rw [← hAe]; exact Or.inr h
  have hS : va_S A s.heap s.heap [] := va_S.rf
  have hP : va_P (dC, dI) vwCl (qzL a0 jaX jaF jaD ja7 jby jbe jaM jaY jap jaK jal jam jax jao ja6 jaV ja8 jae jag jaf ja0 jaC jaP jaw jaI jaZ jaG jaS jan jaU jaE jar jaL jah jaB jaa jaz jaH jab ja2 a0_s jaq jai jaO jaA jat jau jav jaj jas jaJ jak jad jay jac a0_s cyI f0_s) s.heap := hP
  have hl := lv_entry ([.ref a0]) (n := 3) (nbq rfl)
  rw [lg_entry_eq]
  generalize (lg_sl ([.ref a0]) ++ List.replicate (3 - (lg_sl ([.ref a0])).length) Slot.unset).toArray = ls at hl ⊢
  have hl : lv_has ls 3 [(0, .ref a0)] := hl
  have C0 : cfx p s m _ meth c cX11_strengthNow (some .int) wsX11_strengthNow RX11 3 A (dC, dI) (kT cyB cyI cyJ cyP) := ⟨hx, hb, hr, hts, hown, hlocks, hml, hA, hK, hNw⟩
  clear hAe
  obtain ⟨H, hH⟩ : ∃ H, H = s.heap := ⟨_, rfl⟩
  rw [← hH] at hP ⊢
  have hS : va_S A s.heap H [] := by rw [hH]; exact va_S.rf
  have hS := hS
  refine lv_iconst (v := 0) hx hb (qaa qcl 0 rfl) (by decide) ?_
  refine lv_istore_n (lv' := [(1, .int 0), (0, .ref a0)]) hx hb (qaa qcl 1 rfl) rfl hl (by decide) rfl (fun ls hl => ?_)
  refine lv_iconst (v := 0) hx hb (qaa qcl 2 rfl) (by decide) ?_
  refine lv_istore_n (lv' := [(2, .int 0), (1, .int 0), (0, .ref a0)]) hx hb (qaa qcl 3 rfl) rfl hl (by decide) rfl (fun ls hl => ?_)
  obtain ⟨n9, hw⟩ := hw
  exact q6H dC dI cyB cyI cyJ cyP a0 a0_s jaX jaF jaD ja7 jby jbe jaM jaY jap jaK jal jam jax jao ja6 jaV ja8 jae jag jaf ja0 jaP jaw jaI jaZ jaG jaS jan jaU jaE jar jaL jah jaB jaa jaz jaH jab ja2 jaq jai jaO jaA jat jau jav jaj jas jaJ jak jad jay jac jaC f0_s Q C0 n9 _ _ _ 0 0 hP hD hS (lv_sub hl [2, 1, 0] rfl) hw
theorem qMR : ∀ w ∈ u_ws RX11 TX11 55, w ∈ wsX11_march := uiM qsm qfa (by decide +kernel)
theorem qaDD : (.fieldLink RX11 3 "MarchHaresModel" "thrown" "I" : Cond) ∈ wsX11_march := qsm 589 (by decide +kernel)
theorem qaj2 : (.fieldLink RX11 448 "MarchHaresModel" "leaptMany" "I" : Cond) ∈ wsX11_march := qsm 4110 (by decide +kernel)
theorem qaqH : (.fieldLink RX11 71 "MarchHaresModel" "s" "[I" : Cond) ∈ wsX11_march := qsm 457 (by decide +kernel)
set_option maxHeartbeats 4000000 in
set_option maxRecDepth 100000 in
theorem q2F {p : Program} {l : Launch} {e : Env} {s : State} {m : MethodId} {args : Array Value} {below : List Frame} {meth : Method} {c : Code} {A : Nat → Prop} (dC : Nat → ClassId) (dI : Nat → Nat → Nat) (cyB cyI cyJ cyP : ClassId) (a0 jaQ jaT a0_s ja5 jbu jbB jbG jbg jbJ jb9 : Nat) (jaD ja7 jby jbe jaM jaY jap jaK jal jam jax jao jae jag jaf jaw jaI jan jar jaL jah jaB jaa jaz jaH jab jaq jai jaO jaA jat jau jav jaj jas jaJ jay jac : Value) (jaN jaC jbw jbD : Int32) (jb2 jbv jcu jbT jcy jdH : NI) (Q : Int32 → Int32 → NI → NI → Int32 → Int32 → NI → NI → Prop) (C0 : cfx p s m args meth c cX11_march (some .int) wsX11_march RX11 4 A (dC, dI) (kT cyB cyI cyJ cyP)) : ∀ (H : Heap) (locs : List Loc) (ls : Array Slot) (jbd : Int32) (ja9 f0_s : NI) (jjo jiz : Int32) (jb1 jcb : NI) (l1 l2 l3 s1 : Int32), va_P (dC, dI) vwCl (qwa a0 jbd jaQ jaD ja7 jby jbe jaM jaY jap jaK jal jam jax jao ja5 jb9 jbJ jae jag jaf jaN jaC jbw jaw jaI jbG jbg jbB jan jbD jbu jar jaL jah jaB jaa jaz jaH jab jaT a0_s jaq jai jaO jaA jat jau jav jaj jas jaJ jjo jiz jay jac jaQ cyI ja9 jaT cyI jb2 a0_s cyI f0_s ja5 cyI jbv jbu cyI jb1 jbB cyI jcb jbG cyI jcu jbg cyI jbT jbJ cyI jcy jb9 cyI jdH) H → va_D A (qwa a0 jbd jaQ jaD ja7 jby jbe jaM jaY jap jaK jal jam jax jao ja5 jb9 jbJ jae jag jaf jaN jaC jbw jaw jaI jbG jbg jbB jan jbD jbu jar jaL jah jaB jaa jaz jaH jab jaT a0_s jaq jai jaO jaA jat jau jav jaj jas jaJ jjo jiz jay jac jaQ cyI ja9 jaT cyI jb2 a0_s cyI f0_s ja5 cyI jbv jbu cyI jb1 jbB cyI jcb jbG cyI jcu jbg cyI jbT jbJ cyI jcy jb9 cyI jdH) → va_S A s.heap H locs → lv_has ls 4 [(0, .ref a0), (1, .int l1), (2, .int l2), (3, .int l3)] → qPv jaN jaC jbw jbD jb2 jbv jcu jbT jcy jdH Q jbd ja9 f0_s jjo jiz jb1 jcb l1 l2 l3 s1 → W p l e (headSpec wsX11_march ({ frames := 8, cells := 0, slots := 0, locals := 183 })).room s m args below meth c H locs 0 0 (MQ below (va_Qi (fun (r : Int32) (u : Int32 × NI × NI × Int32 × Int32 × NI × NI) => Q r u.1 u.2.1 u.2.2.1 u.2.2.2.1 u.2.2.2.2.1 u.2.2.2.2.2.1 u.2.2.2.2.2.2) (cB (dC, dI) (kT cyB cyI cyJ cyP) A (fun u : Int32 × NI × NI × Int32 × Int32 × NI × NI => ((qwa a0 u.1 jaQ jaD ja7 jby jbe jaM jaY jap jaK jal jam jax jao ja5 jb9 jbJ jae jag jaf jaN jaC jbw jaw jaI jbG jbg jbB jan jbD jbu jar jaL jah jaB jaa jaz jaH jab jaT a0_s jaq jai jaO jaA jat jau jav jaj jas jaJ u.2.2.2.1 u.2.2.2.2.1 jay jac jaQ cyI u.2.1 jaT cyI jb2 a0_s cyI u.2.2.1 ja5 cyI jbv jbu cyI u.2.2.2.2.2.1 jbB cyI u.2.2.2.2.2.2 jbG cyI jcu jbg cyI jbT jbJ cyI jcy jb9 cyI jdH) : va_W))) A) args s 0 0 A) (F0 m 30 ls [.int s1, .ref a0]) := by
  obtain ⟨hx, hb, hr, hts, hown, hlocks, hml, hA, hK, hNw⟩ := id C0
  intro H locs ls jbd ja9 f0_s jjo jiz jb1 jcb l1 l2 l3 s1 hP hD hS hl hw
  refine lv_iconst (v := 1) hx hb (qaa qhb 1 rfl) (by decide) ?_
  refine lv_iconst (v := 1) hx hb (qaa qhb 2 rfl) (by decide) ?_
  obtain ⟨hCc, hPc, hDc, hFc⟩ := qac (ws' := (qa7S a0 jbd jaQ jaD ja7 jby jbe jaM jaY jap jaK jal jam jax jao ja5 jb9 jbJ jae jag jaf jaN jaC jbw jaw jaI jbG jbg jbB jan jbD jbu jar jaL jah jaB jaa jaz jaH jab jaT a0_s jaq jai jaO jaA jat jau jav jaj jas jaJ jjo jiz jay jac jaQ cyI ja9)) hP hD hS hA [0, 1] (by decide +kernel) rfl
  refine va_calli (va_runV (As := [.int s1, .int 1, .int 1]) (rest := []) ⟨hx, hb, hml, hown, hts⟩ (qkE l dC dI cyB cyI cyJ cyP a0 jaQ H.size (jaD) (ja7) (jby) (jbe) (jaM) (jaY) (jap) (jaK) (jal) (jam) (jax) (jao) (.ref ja5) (.ref jb9) (.ref jbJ) (jae) (jag) (jaf) (.int jaN) (.int jaC) (.int jbw) (jaw) (jaI) (.ref jbG) (.ref jbg) (.ref jbB) (jan) (.int jbD) (.ref jbu) (jar) (jaL) (jah) (jaB) (jaa) (jaz) (jaH) (jab) (.ref jaT) (.ref a0_s) (jaq) (jai) (jaO) (jaA) (jat) (jau) (jav) (jaj) (jas) (jaJ) (.int jjo) (.int jiz) (jay) (jac) jbd ja9 s1 1 1 hw) (cwV 3 hts gX11_march_X11_may rfl rfl rfl (by decide +kernel) ⟨nbq rfl, nbq rfl⟩) ⟨qab, va_recv (q := (RX11, TX11, 55)) hK hPc (ci := 11) (q0 := 0) rfl rfl, qae hPc hK hDc hNw⟩ rfl rfl hl.1 rfl (lv_room (nbq rfl)) (qaa qhb 3 rfl) ⟨nbq rfl, nbq rfl⟩) hS (fun q _ h => hFc q h) hFc (fun r7 u t H1 locs ht hvm hw hB hz1 hk1 hS => ?_)
  obtain ⟨x5, f6⟩ := u
  obtain ⟨hP1, hK1, hD1⟩ := hB
  rw [ht] at hP1
  obtain ⟨hP, hD⟩ := qad (wr := (qaQ2 jaT cyI jb2 a0_s cyI f0_s ja5 cyI jbv jbu cyI jb1 jbB cyI jcb jbG cyI jcu jbg cyI jbT jbJ cyI jcy jb9 cyI jdH)) (w1 := (qa7S a0 x5 jaQ jaD ja7 jby jbe jaM jaY jap jaK jal jam jax jao ja5 jb9 jbJ jae jag jaf jaN jaC jbw jaw jaI jbG jbg jbB jan jbD jbu jar jaL jah jaB jaa jaz jaH jab jaT a0_s jaq jai jaO jaA jat jau jav jaj jas jaJ jjo jiz jay jac jaQ cyI f6)) (wn := (qwa a0 x5 jaQ jaD ja7 jby jbe jaM jaY jap jaK jal jam jax jao ja5 jb9 jbJ jae jag jaf jaN jaC jbw jaw jaI jbG jbg jbB jan jbD jbu jar jaL jah jaB jaa jaz jaH jab jaT a0_s jaq jai jaO jaA jat jau jav jaj jas jaJ jjo jiz jay jac jaQ cyI f6 jaT cyI jb2 a0_s cyI f0_s ja5 cyI jbv jbu cyI jb1 jbB cyI jcb jbG cyI jcu jbg cyI jbT jbJ cyI jcy jb9 cyI jdH)) hP hD [0, 1] [2, 3, 4, 5, 6, 7, 8, 9, 10] [9, 10, 0, 1, 2, 3, 4, 5, 6, 7, 8] hCc rfl (by decide +kernel) (by decide +kernel) (by decide +kernel) rfl hk1 hFc hP1 hD1
  generalize H1 = H at hP hS ⊢
  refine lv_if_ne (tgt := 40) hx hb (qaa qhb 4 rfl) (by decide) (fun c8 => ?_) (fun c8 => ?_)
  · have hw := hw.1 c8
    refine lv_aload_n hx hb (qaa qhb 7 rfl) rfl (lv_at hl 0 rfl) ?_
    refine lv_iload_n hx hb (qaa qhb 8 rfl) rfl (lv_at hl 1 rfl) ?_
    refine lv_iload_n hx hb (qaa qhb 9 rfl) rfl (lv_at hl 2 rfl) ?_
    obtain ⟨hCc, hPc, hDc, hFc⟩ := qac (ws' := (qa55 a0 x5 jaQ jaD ja7 jby jbe jaM jaY jap jaK jal jam jax jao ja5 jb9 jbJ jae jag jaf jaN jaC jbw jaw jaI jbG jbg jbB jan jbD jbu jar jaL jah jaB jaa jaz jaH jab jaT a0_s jaq jai jaO jaA jat jau jav jaj jas jaJ jjo jiz jay jac jaT cyI jb2 a0_s cyI f0_s ja5 cyI jbv jbu cyI jb1 jbB cyI jcb jbG cyI jcu jbg cyI jbT jbJ cyI jcy jb9 cyI jdH)) hP hD hS hA [0, 2, 3, 4, 5, 6, 7, 8, 9, 10] (by decide +kernel) rfl
    refine va_callv (va_runV (As := [.int l1, .int l2]) (rest := []) ⟨hx, hb, hml, hown, hts⟩ (qZS l dC dI cyB cyI cyJ cyP a0 jaT a0_s ja5 jbu jbB jbG jbg jbJ jb9 H.size (.int x5) (.ref jaQ) (jaD) (ja7) (jby) (jbe) (jaM) (jaY) (jap) (jaK) (jal) (jam) (jax) (jao) (jae) (jag) (jaf) (jaw) (jaI) (jan) (jar) (jaL) (jah) (jaB) (jaa) (jaz) (jaH) (jab) (jaq) (jai) (jaO) (jaA) (jat) (jau) (jav) (jaj) (jas) (jaJ) (jay) (jac) jaN jaC jbw jbD jb2 jbv jcu jbT jcy jdH f0_s jjo jiz jb1 jcb l1 l2 hw) (cwV 2 hts gX11_march_X11_marchGoes rfl rfl rfl (by decide +kernel) ⟨nbq rfl, nbq rfl⟩) ⟨qab, va_recv (q := (RX11, TX11, 55)) hK hPc (ci := 11) (q0 := 0) rfl rfl, qae hPc hK hDc hNw⟩ rfl rfl hl.1 rfl (lv_room (nbq rfl)) (qaa qhb 10 rfl) ⟨nbq rfl, nbq rfl⟩) hS (fun q _ h => hFc q h) hFc (fun u t H1 locs ht hvm hw hB hz1 hk1 hS => ?_)
    obtain ⟨f9, x10, x11, f12, f13⟩ := u
    obtain ⟨hP1, hK1, hD1⟩ := hB
    rw [ht] at hP1
    obtain ⟨hP, hD⟩ := qad (wr := [(jaQ, .inl (cyI, 2, .inl f6))]) (w1 := (qa55 a0 x5 jaQ jaD ja7 jby jbe jaM jaY jap jaK jal jam jax jao ja5 jb9 jbJ jae jag jaf jaN jaC jbw jaw jaI jbG jbg jbB jan jbD jbu jar jaL jah jaB jaa jaz jaH jab jaT a0_s jaq jai jaO jaA jat jau jav jaj jas jaJ x10 x11 jay jac jaT cyI jb2 a0_s cyI f9 ja5 cyI jbv jbu cyI f12 jbB cyI f13 jbG cyI jcu jbg cyI jbT jbJ cyI jcy jb9 cyI jdH)) (wn := (qwa a0 x5 jaQ jaD ja7 jby jbe jaM jaY jap jaK jal jam jax jao ja5 jb9 jbJ jae jag jaf jaN jaC jbw jaw jaI jbG jbg jbB jan jbD jbu jar jaL jah jaB jaa jaz jaH jab jaT a0_s jaq jai jaO jaA jat jau jav jaj jas jaJ x10 x11 jay jac jaQ cyI f6 jaT cyI jb2 a0_s cyI f9 ja5 cyI jbv jbu cyI f12 jbB cyI f13 jbG cyI jcu jbg cyI jbT jbJ cyI jcy jb9 cyI jdH)) hP hD [0, 2, 3, 4, 5, 6, 7, 8, 9, 10] [1] [1, 0, 2, 3, 4, 5, 6, 7, 8, 9, 10] hCc rfl (by decide +kernel) (by decide +kernel) (by decide +kernel) rfl hk1 hFc hP1 hD1
    generalize H1 = H at hP hS ⊢
    refine lv_iload_n hx hb (qaa qhb 11 rfl) rfl (lv_at hl 3 rfl) ?_
    refine lv_if_ne (tgt := 57) hx hb (qaa qhb 12 rfl) (by decide) (fun c14 => ?_) (fun c14 => ?_)
    · have hw := hw.1 c14
      refine lv_iload_n hx hb (qaa qht 0 rfl) rfl (lv_at hl 3 rfl) ?_
      refine lv_iconst (v := 1) hx hb (qaa qht 1 rfl) (by decide) ?_
      refine lv_icmp_ne (tgt := 69) hx hb (qaa qht 2 rfl) (by decide) (fun c15 => ?_) (fun c15 => ?_)
      · have hw := hw.1 c15
        refine lv_iload_n hx hb (qaa qht 6 rfl) rfl (lv_at hl 3 rfl) ?_
        refine lv_iconst (v := 2) hx hb (qaa qht 7 rfl) (by decide) ?_
        refine lv_icmp_ne (tgt := 81) hx hb (qaa qht 8 rfl) (by decide) (fun c16 => ?_) (fun c16 => ?_)
        · have hw := hw.1 c16
          refine lv_aload_n hx hb (qaa qht 12 rfl) rfl (lv_at hl 0 rfl) ?_
          refine va_get (D := (dC, dI)) (ci := 11) (v := .ref a0_s) (C := RX11) (T := TX11) (N := 55) hx hb hts qMR hown hK hP 0 rfl rfl 40 (by decide) (hts _ qaqH) (fun _ h9 => h9) rfl (qaa qht 13 rfl) ?_
          refine lv_bipush (v := 66) hx hb (qaa qht 14 rfl) (by decide) ?_
          refine va_iald hx hb hK hP 3 1 rfl rfl (vin (by decide)) (qaa qht 15 rfl) ?_
          refine lv_topi (fun x17 ex17 => ?_)
          have hw := hw x17 ex17
          exact ((W.iret (v := x17) hx hb hr (fun t ht hW => ⟨⟨x17, (x5, f6, f9, x10, x11, f12, f13), rfl, hw, by rw [ht]; exact hP, va_K.moved hW.alike hK, hD⟩, hS.F ht⟩) hS.2.2 (qaa qGQ 0 rfl)))
        · have hw := hw.2 c16
          refine lv_aload_n hx hb (qaa qht 9 rfl) rfl (lv_at hl 0 rfl) ?_
          obtain ⟨hCc, hPc, hDc, hFc⟩ := qac (ws' := (qaQj a0 x5 jaQ jaD ja7 jby jbe jaM jaY jap jaK jal jam jax jao ja5 jb9 jbJ jae jag jaf jaN jaC jbw jaw jaI jbG jbg jbB jan jbD jbu jar jaL jah jaB jaa jaz jaH jab jaT a0_s jaq jai jaO jaA jat jau jav jaj jas jaJ x10 x11 jay jac a0_s cyI f9)) hP hD hS hA [0, 3] (by decide +kernel) rfl
          refine va_calli (va_runV (As := []) (rest := []) ⟨hx, hb, hml, hown, hts⟩ (qadH l dC dI cyB cyI cyJ cyP a0 a0_s H.size (.int x5) (.ref jaQ) (jaD) (ja7) (jby) (jbe) (jaM) (jaY) (jap) (jaK) (jal) (jam) (jax) (jao) (.ref ja5) (.ref jb9) (.ref jbJ) (jae) (jag) (jaf) (.int jaN) (.int jbw) (jaw) (jaI) (.ref jbG) (.ref jbg) (.ref jbB) (jan) (.int jbD) (.ref jbu) (jar) (jaL) (jah) (jaB) (jaa) (jaz) (jaH) (jab) (.ref jaT) (jaq) (jai) (jaO) (jaA) (jat) (jau) (jav) (jaj) (jas) (jaJ) (.int x10) (.int x11) (jay) (jac) jaC f9 hw) (cwV 0 hts gX11_march_X11_strengthNow rfl rfl rfl (by decide +kernel) ⟨nbq rfl, nbq rfl⟩) ⟨qab, va_recv (q := (RX11, TX11, 55)) hK hPc (ci := 11) (q0 := 0) rfl rfl, qae hPc hK hDc hNw⟩ rfl rfl hl.1 rfl (lv_room (nbq rfl)) (qaa qht 10 rfl) ⟨nbq rfl, nbq rfl⟩) hS (fun q _ h => hFc q h) hFc (fun r18 u t H1 locs ht hvm hw hB hz1 hk1 hS => ?_)
          obtain ⟨hP1, hK1, hD1⟩ := hB
          rw [ht] at hP1
          obtain ⟨hP, hD⟩ := qad (wr := (qa4z jaQ cyI f6 jaT cyI jb2 ja5 cyI jbv jbu cyI f12 jbB cyI f13 jbG cyI jcu jbg cyI jbT jbJ cyI jcy jb9 cyI jdH)) (w1 := (qaQj a0 x5 jaQ jaD ja7 jby jbe jaM jaY jap jaK jal jam jax jao ja5 jb9 jbJ jae jag jaf jaN jaC jbw jaw jaI jbG jbg jbB jan jbD jbu jar jaL jah jaB jaa jaz jaH jab jaT a0_s jaq jai jaO jaA jat jau jav jaj jas jaJ x10 x11 jay jac a0_s cyI f9)) (wn := (qwa a0 x5 jaQ jaD ja7 jby jbe jaM jaY jap jaK jal jam jax jao ja5 jb9 jbJ jae jag jaf jaN jaC jbw jaw jaI jbG jbg jbB jan jbD jbu jar jaL jah jaB jaa jaz jaH jab jaT a0_s jaq jai jaO jaA jat jau jav jaj jas jaJ x10 x11 jay jac jaQ cyI f6 jaT cyI jb2 a0_s cyI f9 ja5 cyI jbv jbu cyI f12 jbB cyI f13 jbG cyI jcu jbg cyI jbT jbJ cyI jcy jb9 cyI jdH)) hP hD [0, 3] [1, 2, 4, 5, 6, 7, 8, 9, 10] [9, 0, 1, 10, 2, 3, 4, 5, 6, 7, 8] hCc rfl (by decide +kernel) (by decide +kernel) (by decide +kernel) rfl hk1 hFc hP1 hD1
          generalize H1 = H at hP hS ⊢
          refine lv_goto (tgt := 88) hx hb (qaa qht 11 rfl) (by decide) ?_
          exact ((W.iret (v := r18) hx hb hr (fun t ht hW => ⟨⟨r18, (x5, f6, f9, x10, x11, f12, f13), rfl, hw, by rw [ht]; exact hP, va_K.moved hW.alike hK, hD⟩, hS.F ht⟩) hS.2.2 (qaa qGQ 0 rfl)))
      · have hw := hw.2 c15
        refine lv_aload_n hx hb (qaa qht 3 rfl) rfl (lv_at hl 0 rfl) ?_
        obtain ⟨hCc, hPc, hDc, hFc⟩ := qac (ws' := (qaQj a0 x5 jaQ jaD ja7 jby jbe jaM jaY jap jaK jal jam jax jao ja5 jb9 jbJ jae jag jaf jaN jaC jbw jaw jaI jbG jbg jbB jan jbD jbu jar jaL jah jaB jaa jaz jaH jab jaT a0_s jaq jai jaO jaA jat jau jav jaj jas jaJ x10 x11 jay jac a0_s cyI f9)) hP hD hS hA [0, 3] (by decide +kernel) rfl
        refine va_calli (va_runV (As := []) (rest := []) ⟨hx, hb, hml, hown, hts⟩ (qED l dC dI cyB cyI cyJ cyP a0 a0_s H.size (.int x5) (.ref jaQ) (jaD) (ja7) (jby) (jbe) (jaM) (jaY) (jap) (jaK) (jal) (jam) (jax) (jao) (.ref ja5) (.ref jb9) (.ref jbJ) (jae) (jag) (jaf) (.int jaN) (.int jbw) (jaw) (jaI) (.ref jbG) (.ref jbg) (.ref jbB) (jan) (.int jbD) (.ref jbu) (jar) (jaL) (jah) (jaB) (jaa) (jaz) (jaH) (jab) (.ref jaT) (jaq) (jai) (jaO) (jaA) (jat) (jau) (jav) (jaj) (jas) (jaJ) (.int x10) (.int x11) (jay) (jac) jaC f9 hw) (cwV 0 hts gX11_march_X11_caughtNow rfl rfl rfl (by decide +kernel) ⟨nbq rfl, nbq rfl⟩) ⟨qab, va_recv (q := (RX11, TX11, 55)) hK hPc (ci := 11) (q0 := 0) rfl rfl, qae hPc hK hDc hNw⟩ rfl rfl hl.1 rfl (lv_room (nbq rfl)) (qaa qht 4 rfl) ⟨nbq rfl, nbq rfl⟩) hS (fun q _ h => hFc q h) hFc (fun r19 u t H1 locs ht hvm hw hB hz1 hk1 hS => ?_)
        obtain ⟨hP1, hK1, hD1⟩ := hB
        rw [ht] at hP1
        obtain ⟨hP, hD⟩ := qad (wr := (qa4z jaQ cyI f6 jaT cyI jb2 ja5 cyI jbv jbu cyI f12 jbB cyI f13 jbG cyI jcu jbg cyI jbT jbJ cyI jcy jb9 cyI jdH)) (w1 := (qaQj a0 x5 jaQ jaD ja7 jby jbe jaM jaY jap jaK jal jam jax jao ja5 jb9 jbJ jae jag jaf jaN jaC jbw jaw jaI jbG jbg jbB jan jbD jbu jar jaL jah jaB jaa jaz jaH jab jaT a0_s jaq jai jaO jaA jat jau jav jaj jas jaJ x10 x11 jay jac a0_s cyI f9)) (wn := (qwa a0 x5 jaQ jaD ja7 jby jbe jaM jaY jap jaK jal jam jax jao ja5 jb9 jbJ jae jag jaf jaN jaC jbw jaw jaI jbG jbg jbB jan jbD jbu jar jaL jah jaB jaa jaz jaH jab jaT a0_s jaq jai jaO jaA jat jau jav jaj jas jaJ x10 x11 jay jac jaQ cyI f6 jaT cyI jb2 a0_s cyI f9 ja5 cyI jbv jbu cyI f12 jbB cyI f13 jbG cyI jcu jbg cyI jbT jbJ cyI jcy jb9 cyI jdH)) hP hD [0, 3] [1, 2, 4, 5, 6, 7, 8, 9, 10] [9, 0, 1, 10, 2, 3, 4, 5, 6, 7, 8] hCc rfl (by decide +kernel) (by decide +kernel) (by decide +kernel) rfl hk1 hFc hP1 hD1
        generalize H1 = H at hP hS ⊢
        refine lv_goto (tgt := 88) hx hb (qaa qht 5 rfl) (by decide) ?_
        exact ((W.iret (v := r19) hx hb hr (fun t ht hW => ⟨⟨r19, (x5, f6, f9, x10, x11, f12, f13), rfl, hw, by rw [ht]; exact hP, va_K.moved hW.alike hK, hD⟩, hS.F ht⟩) hS.2.2 (qaa qGQ 0 rfl)))
    · have hw := hw.2 c14
      refine lv_aload_n hx hb (qaa qhb 13 rfl) rfl (lv_at hl 0 rfl) ?_
      refine va_get (D := (dC, dI)) (ci := 11) (v := .int x11) (C := RX11) (T := TX11) (N := 55) hx hb hts qMR hown hK hP 0 rfl rfl 52 (by decide) (hts _ qaj2) (fun _ h9 => h9) rfl (qaa qhb 14 rfl) ?_
      refine lv_goto (tgt := 88) hx hb (qaa qhb 15 rfl) (by decide) ?_
      exact ((W.iret (v := x11) hx hb hr (fun t ht hW => ⟨⟨x11, (x5, f6, f9, x10, x11, f12, f13), rfl, hw, by rw [ht]; exact hP, va_K.moved hW.alike hK, hD⟩, hS.F ht⟩) hS.2.2 (qaa qGQ 0 rfl)))
  · have hw := hw.2 c8
    refine lv_iconst (v := 0) hx hb (qaa qhb 5 rfl) (by decide) ?_
    exact ((W.iret (v := 0) hx hb hr (fun t ht hW => ⟨⟨0, (x5, f6, f0_s, jjo, jiz, jb1, jcb), rfl, hw, by rw [ht]; exact hP, va_K.moved hW.alike hK, hD⟩, hS.F ht⟩) hS.2.2 (qaa qhb 6 rfl)))
set_option maxHeartbeats 4000000 in
set_option maxRecDepth 100000 in
theorem q1h {p : Program} {l : Launch} {e : Env} {s : State} {m : MethodId} {args : Array Value} {below : List Frame} {meth : Method} {c : Code} {A : Nat → Prop} (dC : Nat → ClassId) (dI : Nat → Nat → Nat) (cyB cyI cyJ cyP : ClassId) (a0 jaQ jaT a0_s ja5 jbu jbB jbG jbg jbJ jb9 : Nat) (jaD ja7 jby jbe jaM jaY jap jaK jal jam jax jao jae jag jaf jaw jaI jan jar jaL jah jaB jaa jaz jaH jab jaq jai jaO jaA jat jau jav jaj jas jaJ jay jac : Value) (jaN jaC jbw jbD : Int32) (jb2 jbv jcu jbT jcy jdH : NI) (Q : Int32 → Int32 → NI → NI → Int32 → Int32 → NI → NI → Prop) (C0 : cfx p s m args meth c cX11_march (some .int) wsX11_march RX11 4 A (dC, dI) (kT cyB cyI cyJ cyP)) : ∀ (H : Heap) (locs : List Loc) (ls : Array Slot) (jbd : Int32) (ja9 f0_s : NI) (jjo jiz : Int32) (jb1 jcb : NI) (l1 l2 l3 : Int32), va_P (dC, dI) vwCl (qwa a0 jbd jaQ jaD ja7 jby jbe jaM jaY jap jaK jal jam jax jao ja5 jb9 jbJ jae jag jaf jaN jaC jbw jaw jaI jbG jbg jbB jan jbD jbu jar jaL jah jaB jaa jaz jaH jab jaT a0_s jaq jai jaO jaA jat jau jav jaj jas jaJ jjo jiz jay jac jaQ cyI ja9 jaT cyI jb2 a0_s cyI f0_s ja5 cyI jbv jbu cyI jb1 jbB cyI jcb jbG cyI jcu jbg cyI jbT jbJ cyI jcy jb9 cyI jdH) H → va_D A (qwa a0 jbd jaQ jaD ja7 jby jbe jaM jaY jap jaK jal jam jax jao ja5 jb9 jbJ jae jag jaf jaN jaC jbw jaw jaI jbG jbg jbB jan jbD jbu jar jaL jah jaB jaa jaz jaH jab jaT a0_s jaq jai jaO jaA jat jau jav jaj jas jaJ jjo jiz jay jac jaQ cyI ja9 jaT cyI jb2 a0_s cyI f0_s ja5 cyI jbv jbu cyI jb1 jbB cyI jcb jbG cyI jcu jbg cyI jbT jbJ cyI jcy jb9 cyI jdH) → va_S A s.heap H locs → lv_has ls 4 [(0, .ref a0), (1, .int l1), (2, .int l2), (3, .int l3)] → qQ8 jaN jaC jbw jbD jb2 jbv jcu jbT jcy jdH Q jbd ja9 f0_s jjo jiz jb1 jcb l1 l2 l3 → W p l e (headSpec wsX11_march ({ frames := 8, cells := 0, slots := 0, locals := 183 })).room s m args below meth c H locs 0 0 (MQ below (va_Qi (fun (r : Int32) (u : Int32 × NI × NI × Int32 × Int32 × NI × NI) => Q r u.1 u.2.1 u.2.2.1 u.2.2.2.1 u.2.2.2.2.1 u.2.2.2.2.2.1 u.2.2.2.2.2.2) (cB (dC, dI) (kT cyB cyI cyJ cyP) A (fun u : Int32 × NI × NI × Int32 × Int32 × NI × NI => ((qwa a0 u.1 jaQ jaD ja7 jby jbe jaM jaY jap jaK jal jam jax jao ja5 jb9 jbJ jae jag jaf jaN jaC jbw jaw jaI jbG jbg jbB jan jbD jbu jar jaL jah jaB jaa jaz jaH jab jaT a0_s jaq jai jaO jaA jat jau jav jaj jas jaJ u.2.2.2.1 u.2.2.2.2.1 jay jac jaQ cyI u.2.1 jaT cyI jb2 a0_s cyI u.2.2.1 ja5 cyI jbv jbu cyI u.2.2.2.2.2.1 jbB cyI u.2.2.2.2.2.2 jbG cyI jcu jbg cyI jbT jbJ cyI jcy jb9 cyI jdH) : va_W))) A) args s 0 0 A) (F0 m 29 ls [.ref a0]) := by
  obtain ⟨hx, hb, hr, hts, hown, hlocks, hml, hA, hK, hNw⟩ := id C0
  intro H locs ls jbd ja9 f0_s jjo jiz jb1 jcb l1 l2 l3 hP hD hS hl hw
  refine lv_iconst (v := 0) hx hb (qaa qhb 0 rfl) (by decide) ?_
  exact q2F dC dI cyB cyI cyJ cyP a0 jaQ jaT a0_s ja5 jbu jbB jbG jbg jbJ jb9 jaD ja7 jby jbe jaM jaY jap jaK jal jam jax jao jae jag jaf jaw jaI jan jar jaL jah jaB jaa jaz jaH jab jaq jai jaO jaA jat jau jav jaj jas jaJ jay jac jaN jaC jbw jbD jb2 jbv jcu jbT jcy jdH Q C0 _ _ _ jbd ja9 f0_s jjo jiz jb1 jcb l1 l2 l3 0 hP hD hS (lv_sub hl [0, 1, 2, 3] rfl) hw
set_option maxHeartbeats 4000000 in
set_option maxRecDepth 100000 in
theorem qaVy (l : Launch) (dC : Nat → ClassId) (dI : Nat → Nat → Nat) (cyB cyI cyJ cyP : ClassId) (a0 jaQ jaT a0_s ja5 jbu jbB jbG jbg jbJ jb9 sz : Nat) (jaD ja7 jby jbe jaM jaY jap jaK jal jam jax jao jae jag jaf jaw jaI jan jar jaL jah jaB jaa jaz jaH jab jaq jai jaO jaA jat jau jav jaj jas jaJ jay jac : Value) (jaN jaC jbw jbD : Int32) (jb2 jbv jcu jbT jcy jdH : NI) (jbd : Int32) (ja9 f0_s : NI) (jjo jiz : Int32) (jb1 jcb : NI) (p1 p2 p3 : Int32) {Q : Int32 → Int32 → NI → NI → Int32 → Int32 → NI → NI → Prop} (hw : q3d jaN jaC jbw jbD jb2 jbv jcu jbT jcy jdH jbd ja9 f0_s jjo jiz jb1 jcb p1 p2 p3 Q) : Met l yX11_march wsX11_march ({ frames := 8, cells := 0, slots := 0, locals := 183 }) (va_Pc [.ref a0, .int p1, .int p2, .int p3] (cPc (dC, dI) (kT cyB cyI cyJ cyP) (qwa a0 jbd jaQ jaD ja7 jby jbe jaM jaY jap jaK jal jam jax jao ja5 jb9 jbJ jae jag jaf jaN jaC jbw jaw jaI jbG jbg jbB jan jbD jbu jar jaL jah jaB jaa jaz jaH jab jaT a0_s jaq jai jaO jaA jat jau jav jaj jas jaJ jjo jiz jay jac jaQ cyI ja9 jaT cyI jb2 a0_s cyI f0_s ja5 cyI jbv jbu cyI jb1 jbB cyI jcb jbG cyI jcu jbg cyI jbT jbJ cyI jcy jb9 cyI jdH) sz)) (va_Qi (fun (r : Int32) (u : Int32 × NI × NI × Int32 × Int32 × NI × NI) => Q r u.1 u.2.1 u.2.2.1 u.2.2.2.1 u.2.2.2.2.1 u.2.2.2.2.2.1 u.2.2.2.2.2.2) (cB (dC, dI) (kT cyB cyI cyJ cyP) (va_A (qwa a0 jbd jaQ jaD ja7 jby jbe jaM jaY jap jaK jal jam jax jao ja5 jb9 jbJ jae jag jaf jaN jaC jbw jaw jaI jbG jbg jbB jan jbD jbu jar jaL jah jaB jaa jaz jaH jab jaT a0_s jaq jai jaO jaA jat jau jav jaj jas jaJ jjo jiz jay jac jaQ cyI ja9 jaT cyI jb2 a0_s cyI f0_s ja5 cyI jbv jbu cyI jb1 jbB cyI jcb jbG cyI jcu jbg cyI jbT jbJ cyI jcy jb9 cyI jdH) sz) (fun u : Int32 × NI × NI × Int32 × Int32 × NI × NI => ((qwa a0 u.1 jaQ jaD ja7 jby jbe jaM jaY jap jaK jal jam jax jao ja5 jb9 jbJ jae jag jaf jaN jaC jbw jaw jaI jbG jbg jbB jan jbD jbu jar jaL jah jaB jaa jaz jaH jab jaT a0_s jaq jai jaO jaA jat jau jav jaj jas jaJ u.2.2.2.1 u.2.2.2.2.1 jay jac jaQ cyI u.2.1 jaT cyI jb2 a0_s cyI u.2.2.1 ja5 cyI jbv jbu cyI u.2.2.2.2.2.1 jbB cyI u.2.2.2.2.2.2 jbG cyI jcu jbg cyI jbT jbJ cyI jcy jb9 cyI jdH) : va_W))) (va_A (qwa a0 jbd jaQ jaD ja7 jby jbe jaM jaY jap jaK jal jam jax jao ja5 jb9 jbJ jae jag jaf jaN jaC jbw jaw jaI jbG jbg jbB jan jbD jbu jar jaL jah jaB jaa jaz jaH jab jaT a0_s jaq jai jaO jaA jat jau jav jaj jas jaJ jjo jiz jay jac jaQ cyI ja9 jaT cyI jb2 a0_s cyI f0_s ja5 cyI jbv jbu cyI jb1 jbB cyI jcb jbG cyI jcu jbg cyI jbT jbJ cyI jcy jb9 cyI jdH) sz)) 0 0 (va_A (qwa a0 jbd jaQ jaD ja7 jby jbe jaM jaY jap jaK jal jam jax jao ja5 jb9 jbJ jae jag jaf jaN jaC jbw jaw jaI jbG jbg jbB jan jbD jbu jar jaL jah jaB jaa jaz jaH jab jaT a0_s jaq jai jaO jaA jat jau jav jaj jas jaJ jjo jiz jay jac jaQ cyI ja9 jaT cyI jb2 a0_s cyI f0_s ja5 cyI jbv jbu cyI jb1 jbB cyI jcb jbG cyI jcu jbg cyI jbT jbJ cyI jcy jb9 cyI jdH) sz) := by
  refine Met.ofW (cc := cX11_march) (maxL := 4) (ret := (some .int)) (by decide) rfl ?_
  intro p e s m args below meth c s₁ B hml hv
  obtain ⟨rfl, hsz, hP, hK, hD0, hNw⟩ := hv
  have hx := B.exec
  have hb := B.bytes
  have hr := B.returns
  have hts := atoms_spec (ws := wsX11_march) B.pre
  have hown : s.vm.findClass RX11 = some m.cls := findClass_of_methodNamed B.named
  have hlocks := B.notSynchronized
  subst hsz
  have hD := hD0.self (sz := s.heap.size)
  generalize hAe : va_A (qwa a0 jbd jaQ jaD ja7 jby jbe jaM jaY jap jaK jal jam jax jao ja5 jb9 jbJ jae jag jaf jaN jaC jbw jaw jaI jbG jbg jbB jan jbD jbu jar jaL jah jaB jaa jaz jaH jab jaT a0_s jaq jai jaO jaA jat jau jav jaj jas jaJ jjo jiz jay jac jaQ cyI ja9 jaT cyI jb2 a0_s cyI f0_s ja5 cyI jbv jbu cyI jb1 jbB cyI jcb jbG cyI jcu jbg cyI jbT jbJ cyI jcy jb9 cyI jdH) s.heap.size = A at hD ⊢
  have hA : ∀ q : Nat, s.heap.size ≤ q → A q := fun q h => by rw [← hAe]; exact Or.inr h
  have hS : va_S A s.heap s.heap [] := va_S.rf
  have hP : va_P (dC, dI) vwCl (qwa a0 jbd jaQ jaD ja7 jby jbe jaM jaY jap jaK jal jam jax jao ja5 jb9 jbJ jae jag jaf jaN jaC jbw jaw jaI jbG jbg jbB jan jbD jbu jar jaL jah jaB jaa jaz jaH jab jaT a0_s jaq jai jaO jaA jat jau jav jaj jas jaJ jjo jiz jay jac jaQ cyI ja9 jaT cyI jb2 a0_s cyI f0_s ja5 cyI jbv jbu cyI jb1 jbB cyI jcb jbG cyI jcu jbg cyI jbT jbJ cyI jcy jb9 cyI jdH) s.heap := hP
  have hl := lv_entry ([.ref a0, .int p1, .int p2, .int p3]) (n := 4) (nbq rfl)
  rw [lg_entry_eq]
  generalize (lg_sl ([.ref a0, .int p1, .int p2, .int p3]) ++ List.replicate (4 - (lg_sl ([.ref a0, .int p1, .int p2, .int p3])).length) Slot.unset).toArray = ls at hl ⊢
  have hl : lv_has ls 4 [(0, .ref a0), (1, .int p1), (2, .int p2), (3, .int p3)] := hl
  have C0 : cfx p s m _ meth c cX11_march (some .int) wsX11_march RX11 4 A (dC, dI) (kT cyB cyI cyJ cyP) := ⟨hx, hb, hr, hts, hown, hlocks, hml, hA, hK, hNw⟩
  clear hAe
  obtain ⟨H, hH⟩ : ∃ H, H = s.heap := ⟨_, rfl⟩
  rw [← hH] at hP ⊢
  have hS : va_S A s.heap H [] := by rw [hH]; exact va_S.rf
  have hS := hS
  refine lv_aload_n hx hb (qaa qiM 0 rfl) rfl (lv_at hl 0 rfl) ?_
  refine lv_iconst (v := 0) hx hb (qaa qiM 1 rfl) (by decide) ?_
  refine va_put (D := (dC, dI)) (ci := 11) (v := .int 0) (ty := .int) (C := RX11) (T := TX11) (N := 55) hx hb hts qMR tyX11 tyX11_ok nmX11 hown hK hP hD hS 0 rfl rfl 0 (by decide) (hts _ qaDD) (fun _ h9 => h9) rfl (by decide +kernel) rfl rfl (nbq rfl) (qaa qiM 2 rfl) (fun H locs hP hD hS => ?_)
  have hP : va_P (dC, dI) vwCl (qwa a0 0 jaQ jaD ja7 jby jbe jaM jaY jap jaK jal jam jax jao ja5 jb9 jbJ jae jag jaf jaN jaC jbw jaw jaI jbG jbg jbB jan jbD jbu jar jaL jah jaB jaa jaz jaH jab jaT a0_s jaq jai jaO jaA jat jau jav jaj jas jaJ jjo jiz jay jac jaQ cyI ja9 jaT cyI jb2 a0_s cyI f0_s ja5 cyI jbv jbu cyI jb1 jbB cyI jcb jbG cyI jcu jbg cyI jbT jbJ cyI jcy jb9 cyI jdH) H := hP
  have hD : va_D A (qwa a0 0 jaQ jaD ja7 jby jbe jaM jaY jap jaK jal jam jax jao ja5 jb9 jbJ jae jag jaf jaN jaC jbw jaw jaI jbG jbg jbB jan jbD jbu jar jaL jah jaB jaa jaz jaH jab jaT a0_s jaq jai jaO jaA jat jau jav jaj jas jaJ jjo jiz jay jac jaQ cyI ja9 jaT cyI jb2 a0_s cyI f0_s ja5 cyI jbv jbu cyI jb1 jbB cyI jcb jbG cyI jcu jbg cyI jbT jbJ cyI jcy jb9 cyI jdH) := hD
  refine lv_aload_n hx hb (qaa qiM 3 rfl) rfl (lv_at hl 0 rfl) ?_
  refine lv_iload_n hx hb (qaa qiM 4 rfl) rfl (lv_at hl 2 rfl) ?_
  refine lv_iconst (v := 1) hx hb (qaa qiM 5 rfl) (by decide) ?_
  refine lv_bipush (v := 96) hx hb (qaa qiM 6 rfl) (by decide) ?_
  obtain ⟨hCc, hPc, hDc, hFc⟩ := qac (ws' := []) hP hD hS hA [] (by decide +kernel) rfl
  refine va_calli (va_runS (As := [.int p2, .int 1, .int 96]) (rest := [.ref a0]) ⟨hx, hb, hml, hown, hts⟩ (qbG l dC dI cyB cyI cyJ cyP H.size p2 1 96 hw) (va_cwS 3 hts gX11_march_X11_within rfl rfl rfl (by decide +kernel) ⟨nbq rfl, nbq rfl⟩) ⟨qab, qae hPc hK hDc hNw⟩ rfl rfl hl.1 rfl (lv_room (nbq rfl)) (qaa qiM 7 rfl) ⟨nbq rfl, nbq rfl⟩) hS (fun q _ h => hFc q h) hFc (fun r1 u t H1 locs ht hvm hw hB hz1 hk1 hS => ?_)
  obtain ⟨hP1, hK1, hD1⟩ := hB
  rw [ht] at hP1
  obtain ⟨hP, hD⟩ := qah (wr := (qwa a0 0 jaQ jaD ja7 jby jbe jaM jaY jap jaK jal jam jax jao ja5 jb9 jbJ jae jag jaf jaN jaC jbw jaw jaI jbG jbg jbB jan jbD jbu jar jaL jah jaB jaa jaz jaH jab jaT a0_s jaq jai jaO jaA jat jau jav jaj jas jaJ jjo jiz jay jac jaQ cyI ja9 jaT cyI jb2 a0_s cyI f0_s ja5 cyI jbv jbu cyI jb1 jbB cyI jcb jbG cyI jcu jbg cyI jbT jbJ cyI jcy jb9 cyI jdH)) (w1 := []) (wn := (qwa a0 0 jaQ jaD ja7 jby jbe jaM jaY jap jaK jal jam jax jao ja5 jb9 jbJ jae jag jaf jaN jaC jbw jaw jaI jbG jbg jbB jan jbD jbu jar jaL jah jaB jaa jaz jaH jab jaT a0_s jaq jai jaO jaA jat jau jav jaj jas jaJ jjo jiz jay jac jaQ cyI ja9 jaT cyI jb2 a0_s cyI f0_s ja5 cyI jbv jbu cyI jb1 jbB cyI jcb jbG cyI jcu jbg cyI jbT jbJ cyI jcy jb9 cyI jdH)) hP hD [] [0, 1, 2, 3, 4, 5, 6, 7, 8, 9, 10] hCc rfl (by decide +kernel) (by decide +kernel) rfl hk1 hFc hP1 hD1
  generalize H1 = H at hP hS ⊢
  refine lv_if_eq (tgt := 29) hx hb (qaa qiM 8 rfl) (by decide) (fun c2 => ?_) (fun c2 => ?_)
  · have hw := hw.1 c2
    exact q1h dC dI cyB cyI cyJ cyP a0 jaQ jaT a0_s ja5 jbu jbB jbG jbg jbJ jb9 jaD ja7 jby jbe jaM jaY jap jaK jal jam jax jao jae jag jaf jaw jaI jan jar jaL jah jaB jaa jaz jaH jab jaq jai jaO jaA jat jau jav jaj jas jaJ jay jac jaN jaC jbw jbD jb2 jbv jcu jbT jcy jdH Q C0 _ _ _ 0 ja9 f0_s jjo jiz jb1 jcb p1 p2 p3 hP hD hS (lv_sub hl [0, 1, 2, 3] rfl) hw
  · have hw := hw.2 c2
    refine lv_iload_n hx hb (qaa qiM 9 rfl) rfl (lv_at hl 3 rfl) ?_
    refine lv_iconst (v := 0) hx hb (qaa qiM 10 rfl) (by decide) ?_
    refine lv_iconst (v := 3) hx hb (qaa qiM 11 rfl) (by decide) ?_
    obtain ⟨hCc, hPc, hDc, hFc⟩ := qac (ws' := []) hP hD hS hA [] (by decide +kernel) rfl
    refine va_calli (va_runS (As := [.int p3, .int 0, .int 3]) (rest := [.ref a0]) ⟨hx, hb, hml, hown, hts⟩ (qbG l dC dI cyB cyI cyJ cyP H.size p3 0 3 hw) (va_cwS 3 hts gX11_march_X11_within rfl rfl rfl (by decide +kernel) ⟨nbq rfl, nbq rfl⟩) ⟨qab, qae hPc hK hDc hNw⟩ rfl rfl hl.1 rfl (lv_room (nbq rfl)) (qaa qiM 12 rfl) ⟨nbq rfl, nbq rfl⟩) hS (fun q _ h => hFc q h) hFc (fun r3 u t H1 locs ht hvm hw hB hz1 hk1 hS => ?_)
    obtain ⟨hP1, hK1, hD1⟩ := hB
    rw [ht] at hP1
    obtain ⟨hP, hD⟩ := qah (wr := (qwa a0 0 jaQ jaD ja7 jby jbe jaM jaY jap jaK jal jam jax jao ja5 jb9 jbJ jae jag jaf jaN jaC jbw jaw jaI jbG jbg jbB jan jbD jbu jar jaL jah jaB jaa jaz jaH jab jaT a0_s jaq jai jaO jaA jat jau jav jaj jas jaJ jjo jiz jay jac jaQ cyI ja9 jaT cyI jb2 a0_s cyI f0_s ja5 cyI jbv jbu cyI jb1 jbB cyI jcb jbG cyI jcu jbg cyI jbT jbJ cyI jcy jb9 cyI jdH)) (w1 := []) (wn := (qwa a0 0 jaQ jaD ja7 jby jbe jaM jaY jap jaK jal jam jax jao ja5 jb9 jbJ jae jag jaf jaN jaC jbw jaw jaI jbG jbg jbB jan jbD jbu jar jaL jah jaB jaa jaz jaH jab jaT a0_s jaq jai jaO jaA jat jau jav jaj jas jaJ jjo jiz jay jac jaQ cyI ja9 jaT cyI jb2 a0_s cyI f0_s ja5 cyI jbv jbu cyI jb1 jbB cyI jcb jbG cyI jcu jbg cyI jbT jbJ cyI jcy jb9 cyI jdH)) hP hD [] [0, 1, 2, 3, 4, 5, 6, 7, 8, 9, 10] hCc rfl (by decide +kernel) (by decide +kernel) rfl hk1 hFc hP1 hD1
    generalize H1 = H at hP hS ⊢
    refine lv_if_eq (tgt := 29) hx hb (qaa qiM 13 rfl) (by decide) (fun c4 => ?_) (fun c4 => ?_)
    · have hw := hw.1 c4
      exact q1h dC dI cyB cyI cyJ cyP a0 jaQ jaT a0_s ja5 jbu jbB jbG jbg jbJ jb9 jaD ja7 jby jbe jaM jaY jap jaK jal jam jax jao jae jag jaf jaw jaI jan jar jaL jah jaB jaa jaz jaH jab jaq jai jaO jaA jat jau jav jaj jas jaJ jay jac jaN jaC jbw jbD jb2 jbv jcu jbT jcy jdH Q C0 _ _ _ 0 ja9 f0_s jjo jiz jb1 jcb p1 p2 p3 hP hD hS (lv_sub hl [0, 1, 2, 3] rfl) hw
    · have hw := hw.2 c4
      refine lv_iconst (v := 1) hx hb (qaa qiM 14 rfl) (by decide) ?_
      refine lv_goto (tgt := 30) hx hb (qaa qiM 15 rfl) (by decide) ?_
      exact q2F dC dI cyB cyI cyJ cyP a0 jaQ jaT a0_s ja5 jbu jbB jbG jbg jbJ jb9 jaD ja7 jby jbe jaM jaY jap jaK jal jam jax jao jae jag jaf jaw jaI jan jar jaL jah jaB jaa jaz jaH jab jaq jai jaO jaA jat jau jav jaj jas jaJ jay jac jaN jaC jbw jbD jb2 jbv jcu jbT jcy jdH Q C0 _ _ _ 0 ja9 f0_s jjo jiz jb1 jcb p1 p2 p3 1 hP hD hS (lv_sub hl [0, 1, 2, 3] rfl) hw
theorem qasM : ∀ w ∈ u_ws RX11 TX11 55, w ∈ wsX11_range := uiM qBN qfa (by decide +kernel)
theorem qaBb : (.fieldLink RX11 3 "MarchHaresModel" "thrown" "I" : Cond) ∈ wsX11_range := qBN 589 (by decide +kernel)
set_option maxHeartbeats 4000000 in
set_option maxRecDepth 100000 in
theorem qaWb (l : Launch) (dC : Nat → ClassId) (dI : Nat → Nat → Nat) (cyB cyI cyJ cyP : ClassId) (a0 jaQ jaT a0_s ja5 jbu jbB jbG jbg sz : Nat) (jaD ja7 jby jbe jaM jaY jap jaK jal jam jax jao jaV ja8 jae jag jaf jaP jaw jaI jan jar jaL jah jaB jaa jaz jaH jab jaq jai jaO jaA jat jau jav jaj jas jaJ jak jad jay jac : Value) (jaN jaC jbD : Int32) (jb2 jbv jcu jbT : NI) (jbd : Int32) (ja9 f0_s jb1 jcb : NI) (p1 : Int32) {Q : Int32 → Int32 → NI → NI → NI → NI → Prop} (hw : qR7 jaN jaC jbD jb2 jbv jcu jbT jbd ja9 f0_s jb1 jcb p1 Q) : Met l yX11_range wsX11_range ({ frames := 7, cells := 0, slots := 0, locals := 160 }) (va_Pc [.ref a0, .int p1] (cPc (dC, dI) (kT cyB cyI cyJ cyP) (qMe a0 jbd jaQ jaD ja7 jby jbe jaM jaY jap jaK jal jam jax jao ja5 jaV ja8 jae jag jaf jaN jaC jaP jaw jaI jbG jbg jbB jan jbD jbu jar jaL jah jaB jaa jaz jaH jab jaT a0_s jaq jai jaO jaA jat jau jav jaj jas jaJ jak jad jay jac jaQ cyI ja9 jaT cyI jb2 a0_s cyI f0_s ja5 cyI jbv jbu cyI jb1 jbB cyI jcb jbG cyI jcu jbg cyI jbT) sz)) (va_Qi (fun (r : Int32) (u : Int32 × NI × NI × NI × NI) => Q r u.1 u.2.1 u.2.2.1 u.2.2.2.1 u.2.2.2.2) (cB (dC, dI) (kT cyB cyI cyJ cyP) (va_A (qMe a0 jbd jaQ jaD ja7 jby jbe jaM jaY jap jaK jal jam jax jao ja5 jaV ja8 jae jag jaf jaN jaC jaP jaw jaI jbG jbg jbB jan jbD jbu jar jaL jah jaB jaa jaz jaH jab jaT a0_s jaq jai jaO jaA jat jau jav jaj jas jaJ jak jad jay jac jaQ cyI ja9 jaT cyI jb2 a0_s cyI f0_s ja5 cyI jbv jbu cyI jb1 jbB cyI jcb jbG cyI jcu jbg cyI jbT) sz) (fun u : Int32 × NI × NI × NI × NI => ((qMe a0 u.1 jaQ jaD ja7 jby jbe jaM jaY jap jaK jal jam jax jao ja5 jaV ja8 jae jag jaf jaN jaC jaP jaw jaI jbG jbg jbB jan jbD jbu jar jaL jah jaB jaa jaz jaH jab jaT a0_s jaq jai jaO jaA jat jau jav jaj jas jaJ jak jad jay jac jaQ cyI u.2.1 jaT cyI jb2 a0_s cyI u.2.2.1 ja5 cyI jbv jbu cyI u.2.2.2.1 jbB cyI u.2.2.2.2 jbG cyI jcu jbg cyI jbT) : va_W))) (va_A (qMe a0 jbd jaQ jaD ja7 jby jbe jaM jaY jap jaK jal jam jax jao ja5 jaV ja8 jae jag jaf jaN jaC jaP jaw jaI jbG jbg jbB jan jbD jbu jar jaL jah jaB jaa jaz jaH jab jaT a0_s jaq jai jaO jaA jat jau jav jaj jas jaJ jak jad jay jac jaQ cyI ja9 jaT cyI jb2 a0_s cyI f0_s ja5 cyI jbv jbu cyI jb1 jbB cyI jcb jbG cyI jcu jbg cyI jbT) sz)) 0 0 (va_A (qMe a0 jbd jaQ jaD ja7 jby jbe jaM jaY jap jaK jal jam jax jao ja5 jaV ja8 jae jag jaf jaN jaC jaP jaw jaI jbG jbg jbB jan jbD jbu jar jaL jah jaB jaa jaz jaH jab jaT a0_s jaq jai jaO jaA jat jau jav jaj jas jaJ jak jad jay jac jaQ cyI ja9 jaT cyI jb2 a0_s cyI f0_s ja5 cyI jbv jbu cyI jb1 jbB cyI jcb jbG cyI jcu jbg cyI jbT) sz) := by
  refine Met.ofW (cc := cX11_range) (maxL := 2) (ret := (some .int)) (by decide) rfl ?_
  intro p e s m args below meth c s₁ B hml hv
  obtain ⟨rfl, hsz, hP, hK, hD0, hNw⟩ := hv
  have hx := B.exec
  have hb := B.bytes
  have hr := B.returns
  have hts := atoms_spec (ws := wsX11_range) B.pre
  have hown : s.vm.findClass RX11 = some m.cls := findClass_of_methodNamed B.named
  have hlocks := B.notSynchronized
  subst hsz
  have hD := hD0.self (sz := s.heap.size)
  generalize hAe : va_A (qMe a0 jbd jaQ jaD ja7 jby jbe jaM jaY jap jaK jal jam jax jao ja5 jaV ja8 jae jag jaf jaN jaC jaP jaw jaI jbG jbg jbB jan jbD jbu jar jaL jah jaB jaa jaz jaH jab jaT a0_s jaq jai jaO jaA jat jau jav jaj jas jaJ jak jad jay jac jaQ cyI ja9 jaT cyI jb2 a0_s cyI f0_s ja5 cyI jbv jbu cyI jb1 jbB cyI jcb jbG cyI jcu jbg cyI jbT) s.heap.size = A at hD ⊢
  have hA : ∀ q : Nat, s.heap.size ≤ q → A q := fun q h => by rw [← hAe]; exact Or.inr h
  have hS : va_S A s.heap s.heap [] := va_S.rf
  have hP : va_P (dC, dI) vwCl (qMe a0 jbd jaQ jaD ja7 jby jbe jaM jaY jap jaK jal jam jax jao ja5 jaV ja8 jae jag jaf jaN jaC jaP jaw jaI jbG jbg jbB jan jbD jbu jar jaL jah jaB jaa jaz jaH jab jaT a0_s jaq jai jaO jaA jat jau jav jaj jas jaJ jak jad jay jac jaQ cyI ja9 jaT cyI jb2 a0_s cyI f0_s ja5 cyI jbv jbu cyI jb1 jbB cyI jcb jbG cyI jcu jbg cyI jbT) s.heap := hP
  have hl := lv_entry ([.ref a0, .int p1]) (n := 2) (nbq rfl)
  rw [lg_entry_eq]
  generalize (lg_sl ([.ref a0, .int p1]) ++ List.replicate (2 - (lg_sl ([.ref a0, .int p1])).length) Slot.unset).toArray = ls at hl ⊢
  have hl : lv_has ls 2 [(0, .ref a0), (1, .int p1)] := hl
  have C0 : cfx p s m _ meth c cX11_range (some .int) wsX11_range RX11 2 A (dC, dI) (kT cyB cyI cyJ cyP) := ⟨hx, hb, hr, hts, hown, hlocks, hml, hA, hK, hNw⟩
  clear hAe
  obtain ⟨H, hH⟩ : ∃ H, H = s.heap := ⟨_, rfl⟩
  rw [← hH] at hP ⊢
  have hS : va_S A s.heap H [] := by rw [hH]; exact va_S.rf
  have hS := hS
  refine lv_aload_n hx hb (qaa qkz 0 rfl) rfl (lv_at hl 0 rfl) ?_
  refine lv_iconst (v := 0) hx hb (qaa qkz 1 rfl) (by decide) ?_
  refine va_put (D := (dC, dI)) (ci := 11) (v := .int 0) (ty := .int) (C := RX11) (T := TX11) (N := 55) hx hb hts qasM tyX11 tyX11_ok nmX11 hown hK hP hD hS 0 rfl rfl 0 (by decide) (hts _ qaBb) (fun _ h9 => h9) rfl (by decide +kernel) rfl rfl (nbq rfl) (qaa qkz 2 rfl) (fun H locs hP hD hS => ?_)
  have hP : va_P (dC, dI) vwCl (qMe a0 0 jaQ jaD ja7 jby jbe jaM jaY jap jaK jal jam jax jao ja5 jaV ja8 jae jag jaf jaN jaC jaP jaw jaI jbG jbg jbB jan jbD jbu jar jaL jah jaB jaa jaz jaH jab jaT a0_s jaq jai jaO jaA jat jau jav jaj jas jaJ jak jad jay jac jaQ cyI ja9 jaT cyI jb2 a0_s cyI f0_s ja5 cyI jbv jbu cyI jb1 jbB cyI jcb jbG cyI jcu jbg cyI jbT) H := hP
  have hD : va_D A (qMe a0 0 jaQ jaD ja7 jby jbe jaM jaY jap jaK jal jam jax jao ja5 jaV ja8 jae jag jaf jaN jaC jaP jaw jaI jbG jbg jbB jan jbD jbu jar jaL jah jaB jaa jaz jaH jab jaT a0_s jaq jai jaO jaA jat jau jav jaj jas jaJ jak jad jay jac jaQ cyI ja9 jaT cyI jb2 a0_s cyI f0_s ja5 cyI jbv jbu cyI jb1 jbB cyI jcb jbG cyI jcu jbg cyI jbT) := hD
  refine lv_aload_n hx hb (qaa qkz 3 rfl) rfl (lv_at hl 0 rfl) ?_
  refine lv_iload_n hx hb (qaa qkz 4 rfl) rfl (lv_at hl 1 rfl) ?_
  refine lv_iconst (v := 1) hx hb (qaa qkz 5 rfl) (by decide) ?_
  obtain ⟨hCc, hPc, hDc, hFc⟩ := qac (ws' := (qa6X a0 0 jaQ jaD ja7 jby jbe jaM jaY jap jaK jal jam jax jao ja5 jaV ja8 jae jag jaf jaN jaC jaP jaw jaI jbG jbg jbB jan jbD jbu jar jaL jah jaB jaa jaz jaH jab jaT a0_s jaq jai jaO jaA jat jau jav jaj jas jaJ jak jad jay jac jaQ cyI ja9)) hP hD hS hA [0, 1] (by decide +kernel) rfl
  refine va_calli (va_runV (As := [.int p1, .int 1]) (rest := []) ⟨hx, hb, hml, hown, hts⟩ (qtR l dC dI cyB cyI cyJ cyP a0 jaQ H.size (jaD) (ja7) (jby) (jbe) (jaM) (jaY) (jap) (jaK) (jal) (jam) (jax) (jao) (.ref ja5) (jaV) (ja8) (jae) (jag) (jaf) (.int jaN) (jaP) (jaw) (jaI) (.ref jbG) (.ref jbg) (.ref jbB) (jan) (.int jbD) (.ref jbu) (jar) (jaL) (jah) (jaB) (jaa) (jaz) (jaH) (jab) (.ref jaT) (.ref a0_s) (jaq) (jai) (jaO) (jaA) (jat) (jau) (jav) (jaj) (jas) (jaJ) (jak) (jad) (jay) (jac) jaC 0 ja9 p1 1 hw) (cwV 2 hts gX11_range_X11_isHare rfl rfl rfl (by decide +kernel) ⟨nbq rfl, nbq rfl⟩) ⟨qab, va_recv (q := (RX11, TX11, 55)) hK hPc (ci := 11) (q0 := 0) rfl rfl, qae hPc hK hDc hNw⟩ rfl rfl hl.1 rfl (lv_room (nbq rfl)) (qaa qkz 6 rfl) ⟨nbq rfl, nbq rfl⟩) hS (fun q _ h => hFc q h) hFc (fun r3 u t H1 locs ht hvm hw hB hz1 hk1 hS => ?_)
  obtain ⟨x1, f2⟩ := u
  obtain ⟨hP1, hK1, hD1⟩ := hB
  rw [ht] at hP1
  obtain ⟨hP, hD⟩ := qad (wr := [(jaT, .inl (cyI, 68, .inl jb2)), (a0_s, .inl (cyI, 68, .inl f0_s)), (ja5, .inl (cyI, 16, .inl jbv)), (jbu, .inl (cyI, 8, .inl jb1)), (jbB, .inl (cyI, 150, .inl jcb)), (jbG, .inl (cyI, 150, .inl jcu)), (jbg, .inl (cyI, 150, .inl jbT))]) (w1 := (qa6X a0 x1 jaQ jaD ja7 jby jbe jaM jaY jap jaK jal jam jax jao ja5 jaV ja8 jae jag jaf jaN jaC jaP jaw jaI jbG jbg jbB jan jbD jbu jar jaL jah jaB jaa jaz jaH jab jaT a0_s jaq jai jaO jaA jat jau jav jaj jas jaJ jak jad jay jac jaQ cyI f2)) (wn := (qMe a0 x1 jaQ jaD ja7 jby jbe jaM jaY jap jaK jal jam jax jao ja5 jaV ja8 jae jag jaf jaN jaC jaP jaw jaI jbG jbg jbB jan jbD jbu jar jaL jah jaB jaa jaz jaH jab jaT a0_s jaq jai jaO jaA jat jau jav jaj jas jaJ jak jad jay jac jaQ cyI f2 jaT cyI jb2 a0_s cyI f0_s ja5 cyI jbv jbu cyI jb1 jbB cyI jcb jbG cyI jcu jbg cyI jbT)) hP hD [0, 1] [2, 3, 4, 5, 6, 7, 8] [7, 8, 0, 1, 2, 3, 4, 5, 6] hCc rfl (by decide +kernel) (by decide +kernel) (by decide +kernel) rfl hk1 hFc hP1 hD1
  generalize H1 = H at hP hS ⊢
  refine lv_if_ne (tgt := 16) hx hb (qaa qkz 7 rfl) (by decide) (fun c4 => ?_) (fun c4 => ?_)
  · have hw := hw.1 c4
    refine lv_aload_n hx hb (qaa qkz 10 rfl) rfl (lv_at hl 0 rfl) ?_
    obtain ⟨hCc, hPc, hDc, hFc⟩ := qac (ws' := (qa4M a0 x1 jaQ jaD ja7 jby jbe jaM jaY jap jaK jal jam jax jao ja5 jaV ja8 jae jag jaf jaN jaC jaP jaw jaI jbG jbg jbB jan jbD jbu jar jaL jah jaB jaa jaz jaH jab jaT a0_s jaq jai jaO jaA jat jau jav jaj jas jaJ jak jad jay jac jaT cyI jb2 a0_s cyI f0_s)) hP hD hS hA [0, 2, 3] (by decide +kernel) rfl
    refine va_callv (va_runV (As := []) (rest := []) ⟨hx, hb, hml, hown, hts⟩ (qq7 l dC dI cyB cyI cyJ cyP a0 jaT a0_s H.size (.int x1) (.ref jaQ) (jaD) (ja7) (jby) (jbe) (jaM) (jaY) (jap) (jaK) (jal) (jam) (jax) (jao) (.ref ja5) (jaV) (ja8) (jae) (jag) (jaf) (.int jaN) (.int jaC) (jaP) (jaw) (jaI) (.ref jbG) (.ref jbg) (.ref jbB) (jan) (.int jbD) (.ref jbu) (jar) (jaL) (jah) (jaB) (jaa) (jaz) (jaH) (jab) (jaq) (jai) (jaO) (jaA) (jat) (jau) (jav) (jaj) (jas) (jaJ) (jak) (jad) (jay) (jac) jb2 f0_s hw) (cwV 0 hts gX11_range_X11_take rfl rfl rfl (by decide +kernel) ⟨nbq rfl, nbq rfl⟩) ⟨qab, va_recv (q := (RX11, TX11, 55)) hK hPc (ci := 11) (q0 := 0) rfl rfl, qae hPc hK hDc hNw⟩ rfl rfl hl.1 rfl (lv_room (nbq rfl)) (qaa qkz 11 rfl) ⟨nbq rfl, nbq rfl⟩) hS (fun q _ h => hFc q h) hFc (fun u t H1 locs ht hvm hw hB hz1 hk1 hS => ?_)
    obtain ⟨f5, rfl⟩ : ∃ z, z = u := ⟨_, rfl⟩
    obtain ⟨hP1, hK1, hD1⟩ := hB
    rw [ht] at hP1
    obtain ⟨hP, hD⟩ := qad (wr := [(jaQ, .inl (cyI, 2, .inl f2)), (ja5, .inl (cyI, 16, .inl jbv)), (jbu, .inl (cyI, 8, .inl jb1)), (jbB, .inl (cyI, 150, .inl jcb)), (jbG, .inl (cyI, 150, .inl jcu)), (jbg, .inl (cyI, 150, .inl jbT))]) (w1 := (qa4M a0 x1 jaQ jaD ja7 jby jbe jaM jaY jap jaK jal jam jax jao ja5 jaV ja8 jae jag jaf jaN jaC jaP jaw jaI jbG jbg jbB jan jbD jbu jar jaL jah jaB jaa jaz jaH jab jaT a0_s jaq jai jaO jaA jat jau jav jaj jas jaJ jak jad jay jac jaT cyI jb2 a0_s cyI f5)) (wn := (qMe a0 x1 jaQ jaD ja7 jby jbe jaM jaY jap jaK jal jam jax jao ja5 jaV ja8 jae jag jaf jaN jaC jaP jaw jaI jbG jbg jbB jan jbD jbu jar jaL jah jaB jaa jaz jaH jab jaT a0_s jaq jai jaO jaA jat jau jav jaj jas jaJ jak jad jay jac jaQ cyI f2 jaT cyI jb2 a0_s cyI f5 ja5 cyI jbv jbu cyI jb1 jbB cyI jcb jbG cyI jcu jbg cyI jbT)) hP hD [0, 2, 3] [1, 4, 5, 6, 7, 8] [6, 0, 7, 8, 1, 2, 3, 4, 5] hCc rfl (by decide +kernel) (by decide +kernel) (by decide +kernel) rfl hk1 hFc hP1 hD1
    generalize H1 = H at hP hS ⊢
    refine lv_aload_n hx hb (qaa qkz 12 rfl) rfl (lv_at hl 0 rfl) ?_
    refine lv_iload_n hx hb (qaa qkz 13 rfl) rfl (lv_at hl 1 rfl) ?_
    obtain ⟨hCc, hPc, hDc, hFc⟩ := qac (ws' := (qa4d a0 x1 jaQ jaD ja7 jby jbe jaM jaY jap jaK jal jam jax jao ja5 jaV ja8 jae jag jaf jaN jaC jaP jaw jaI jbG jbg jbB jan jbD jbu jar jaL jah jaB jaa jaz jaH jab jaT a0_s jaq jai jaO jaA jat jau jav jaj jas jaJ jak jad jay jac a0_s cyI f5 ja5 cyI jbv jbu cyI jb1 jbB cyI jcb jbG cyI jcu jbg cyI jbT)) hP hD hS hA [0, 3, 4, 5, 6, 7, 8] (by decide +kernel) rfl
    refine va_calli (va_runV (As := [.int p1]) (rest := []) ⟨hx, hb, hml, hown, hts⟩ (q7j l dC dI cyB cyI cyJ cyP a0 a0_s ja5 jbu jbB jbG jbg H.size (.int x1) (.ref jaQ) (jaD) (ja7) (jby) (jbe) (jaM) (jaY) (jap) (jaK) (jal) (jam) (jax) (jao) (jaV) (ja8) (jae) (jag) (jaf) (jaP) (jaw) (jaI) (jan) (jar) (jaL) (jah) (jaB) (jaa) (jaz) (jaH) (jab) (.ref jaT) (jaq) (jai) (jaO) (jaA) (jat) (jau) (jav) (jaj) (jas) (jaJ) (jak) (jad) (jay) (jac) jaN jaC jbD f5 jbv jcu jbT jb1 jcb p1 hw) (cwV 1 hts gX11_range_X11_rangeOf rfl rfl rfl (by decide +kernel) ⟨nbq rfl, nbq rfl⟩) ⟨qab, va_recv (q := (RX11, TX11, 55)) hK hPc (ci := 11) (q0 := 0) rfl rfl, qae hPc hK hDc hNw⟩ rfl rfl hl.1 rfl (lv_room (nbq rfl)) (qaa qkz 14 rfl) ⟨nbq rfl, nbq rfl⟩) hS (fun q _ h => hFc q h) hFc (fun r8 u t H1 locs ht hvm hw hB hz1 hk1 hS => ?_)
    obtain ⟨f6, f7⟩ := u
    obtain ⟨hP1, hK1, hD1⟩ := hB
    rw [ht] at hP1
    obtain ⟨hP, hD⟩ := qad (wr := (qbc0 jaQ cyI f2 jaT cyI jb2)) (w1 := (qa4d a0 x1 jaQ jaD ja7 jby jbe jaM jaY jap jaK jal jam jax jao ja5 jaV ja8 jae jag jaf jaN jaC jaP jaw jaI jbG jbg jbB jan jbD jbu jar jaL jah jaB jaa jaz jaH jab jaT a0_s jaq jai jaO jaA jat jau jav jaj jas jaJ jak jad jay jac a0_s cyI f5 ja5 cyI jbv jbu cyI f6 jbB cyI f7 jbG cyI jcu jbg cyI jbT)) (wn := (qMe a0 x1 jaQ jaD ja7 jby jbe jaM jaY jap jaK jal jam jax jao ja5 jaV ja8 jae jag jaf jaN jaC jaP jaw jaI jbG jbg jbB jan jbD jbu jar jaL jah jaB jaa jaz jaH jab jaT a0_s jaq jai jaO jaA jat jau jav jaj jas jaJ jak jad jay jac jaQ cyI f2 jaT cyI jb2 a0_s cyI f5 ja5 cyI jbv jbu cyI f6 jbB cyI f7 jbG cyI jcu jbg cyI jbT)) hP hD [0, 3, 4, 5, 6, 7, 8] [1, 2] [2, 0, 1, 3, 4, 5, 6, 7, 8] hCc rfl (by decide +kernel) (by decide +kernel) (by decide +kernel) rfl hk1 hFc hP1 hD1
    generalize H1 = H at hP hS ⊢
    exact ((W.iret (v := r8) hx hb hr (fun t ht hW => ⟨⟨r8, (x1, f2, f5, f6, f7), rfl, hw, by rw [ht]; exact hP, va_K.moved hW.alike hK, hD⟩, hS.F ht⟩) hS.2.2 (qaa qkz 15 rfl)))
  · have hw := hw.2 c4
    refine lv_iconst (v := 0) hx hb (qaa qkz 8 rfl) (by decide) ?_
    exact ((W.iret (v := 0) hx hb hr (fun t ht hW => ⟨⟨0, (x1, f2, f0_s, jb1, jcb), rfl, hw, by rw [ht]; exact hP, va_K.moved hW.alike hK, hD⟩, hS.F ht⟩) hS.2.2 (qaa qkz 9 rfl)))
theorem q0B : ∀ w ∈ u_ws RX11 TX11 55, w ∈ wsX11_readLiving := uiM qE9 qfa (by decide +kernel)
theorem q0f : (.fieldLink RX11 169 "MarchHaresModel" "hares" "I" : Cond) ∈ wsX11_readLiving := qE9 520 (by decide +kernel)
set_option maxHeartbeats 4000000 in
set_option maxRecDepth 100000 in
theorem qvF (l : Launch) (dC : Nat → ClassId) (dI : Nat → Nat → Nat) (cyB cyI cyJ cyP : ClassId) (a0 jaW sz : Nat) (jaX jaF jaD jaY jap jal jam jax jao ja6 jaV ja8 jae jag jaf ja0 jaP jaw jaI jaZ jaG jaS jan jaU jaE jar jaL jah jaB jaa jaz jaH jab ja2 z0_s jaq jai jaO jaA jat jau jav jaj jas jaJ jak jad jay jac : Value) (jbx jaC : Int32) (jbC : NI) (jcP jb8 jbh : Int32) {Q : Int32 → Int32 → Int32 → Int32 → Prop} (hw : qtm jbx jaC jbC jcP jb8 jbh Q) : Met l yX11_readLiving wsX11_readLiving ({ frames := 2, cells := 0, slots := 0, locals := 47 }) (va_Pc [.ref a0] (cPc (dC, dI) (kT cyB cyI cyJ cyP) (qS8 a0 jaX jaF jaD jbx jcP jb8 jbh jaY jap jaW jal jam jax jao ja6 jaV ja8 jae jag jaf ja0 jaC jaP jaw jaI jaZ jaG jaS jan jaU jaE jar jaL jah jaB jaa jaz jaH jab ja2 z0_s jaq jai jaO jaA jat jau jav jaj jas jaJ jak jad jay jac jaW cyI jbC) sz)) (va_Qi (fun (r : Int32) (u : Int32 × Int32 × Int32) => Q r u.1 u.2.1 u.2.2) (cB (dC, dI) (kT cyB cyI cyJ cyP) (va_A (qS8 a0 jaX jaF jaD jbx jcP jb8 jbh jaY jap jaW jal jam jax jao ja6 jaV ja8 jae jag jaf ja0 jaC jaP jaw jaI jaZ jaG jaS jan jaU jaE jar jaL jah jaB jaa jaz jaH jab ja2 z0_s jaq jai jaO jaA jat jau jav jaj jas jaJ jak jad jay jac jaW cyI jbC) sz) (fun u : Int32 × Int32 × Int32 => ((qS8 a0 jaX jaF jaD jbx u.1 u.2.1 u.2.2 jaY jap jaW jal jam jax jao ja6 jaV ja8 jae jag jaf ja0 jaC jaP jaw jaI jaZ jaG jaS jan jaU jaE jar jaL jah jaB jaa jaz jaH jab ja2 z0_s jaq jai jaO jaA jat jau jav jaj jas jaJ jak jad jay jac jaW cyI jbC) : va_W))) (va_A (qS8 a0 jaX jaF jaD jbx jcP jb8 jbh jaY jap jaW jal jam jax jao ja6 jaV ja8 jae jag jaf ja0 jaC jaP jaw jaI jaZ jaG jaS jan jaU jaE jar jaL jah jaB jaa jaz jaH jab ja2 z0_s jaq jai jaO jaA jat jau jav jaj jas jaJ jak jad jay jac jaW cyI jbC) sz)) 0 0 (va_A (qS8 a0 jaX jaF jaD jbx jcP jb8 jbh jaY jap jaW jal jam jax jao ja6 jaV ja8 jae jag jaf ja0 jaC jaP jaw jaI jaZ jaG jaS jan jaU jaE jar jaL jah jaB jaa jaz jaH jab ja2 z0_s jaq jai jaO jaA jat jau jav jaj jas jaJ jak jad jay jac jaW cyI jbC) sz) := by
  refine Met.ofW (cc := cX11_readLiving) (maxL := 1) (ret := (some .int)) (by decide) rfl ?_
  intro p e s m args below meth c s₁ B hml hv
  obtain ⟨rfl, hsz, hP, hK, hD0, hNw⟩ := hv
  have hx := B.exec
  have hb := B.bytes
  have hr := B.returns
  have hts := atoms_spec (ws := wsX11_readLiving) B.pre
  have hown : s.vm.findClass RX11 = some m.cls := findClass_of_methodNamed B.named
  have hlocks := B.notSynchronized
  subst hsz
  have hD := hD0.self (sz := s.heap.size)
  generalize hAe : va_A (qS8 a0 jaX jaF jaD jbx jcP jb8 jbh jaY jap jaW jal jam jax jao ja6 jaV ja8 jae jag jaf ja0 jaC jaP jaw jaI jaZ jaG jaS jan jaU jaE jar jaL jah jaB jaa jaz jaH jab ja2 z0_s jaq jai jaO jaA jat jau jav jaj jas jaJ jak jad jay jac jaW cyI jbC) s.heap.size = A at hD ⊢
  have hA : ∀ q : Nat, s.heap.size ≤ q → A q := fun q h => by rw [← hAe]; exact Or.inr h
  have hS : va_S A s.heap s.heap [] := va_S.rf
  have hP : va_P (dC, dI) vwCl (qS8 a0 jaX jaF jaD jbx jcP jb8 jbh jaY jap jaW jal jam jax jao ja6 jaV ja8 jae jag jaf ja0 jaC jaP jaw jaI jaZ jaG jaS jan jaU jaE jar jaL jah jaB jaa jaz jaH jab ja2 z0_s jaq jai jaO jaA jat jau jav jaj jas jaJ jak jad jay jac jaW cyI jbC) s.heap := hP
  have hl := lv_entry ([.ref a0]) (n := 1) (nbq rfl)
  rw [lg_entry_eq]
  generalize (lg_sl ([.ref a0]) ++ List.replicate (1 - (lg_sl ([.ref a0])).length) Slot.unset).toArray = ls at hl ⊢
  have hl : lv_has ls 1 [(0, .ref a0)] := hl
  have C0 : cfx p s m _ meth c cX11_readLiving (some .int) wsX11_readLiving RX11 1 A (dC, dI) (kT cyB cyI cyJ cyP) := ⟨hx, hb, hr, hts, hown, hlocks, hml, hA, hK, hNw⟩
  clear hAe
  obtain ⟨H, hH⟩ : ∃ H, H = s.heap := ⟨_, rfl⟩
  rw [← hH] at hP ⊢
  have hS : va_S A s.heap H [] := by rw [hH]; exact va_S.rf
  have hS := hS
  refine lv_aload_n hx hb (qaa qo6 0 rfl) rfl (lv_at hl 0 rfl) ?_
  refine lv_iconst (v := 0) hx hb (qaa qo6 1 rfl) (by decide) ?_
  refine lv_aload_n hx hb (qaa qo6 2 rfl) rfl (lv_at hl 0 rfl) ?_
  refine va_get (D := (dC, dI)) (ci := 11) (v := .int jaC) (C := RX11) (T := TX11) (N := 55) hx hb hts q0B hown hK hP 0 rfl rfl 21 (by decide) (hts _ q0f) (fun _ h9 => h9) rfl (qaa qo6 3 rfl) ?_
  refine lv_iconst (v := 1) hx hb (qaa qo6 4 rfl) (by decide) ?_
  refine lv_isub hx hb (qaa qo6 5 rfl) ?_
  obtain ⟨hCc, hPc, hDc, hFc⟩ := qac (ws' := (qS8 a0 jaX jaF jaD jbx jcP jb8 jbh jaY jap jaW jal jam jax jao ja6 jaV ja8 jae jag jaf ja0 jaC jaP jaw jaI jaZ jaG jaS jan jaU jaE jar jaL jah jaB jaa jaz jaH jab ja2 z0_s jaq jai jaO jaA jat jau jav jaj jas jaJ jak jad jay jac jaW cyI jbC)) hP hD hS hA [0, 1] (by decide +kernel) rfl
  refine va_calli (va_runV (As := [.int 0, .int (jaC - 1)]) (rest := []) ⟨hx, hb, hml, hown, hts⟩ (qcA l dC dI cyB cyI cyJ cyP a0 jaW H.size (jaX) (jaF) (jaD) (jaY) (jap) (jal) (jam) (jax) (jao) (ja6) (jaV) (ja8) (jae) (jag) (jaf) (ja0) (.int jaC) (jaP) (jaw) (jaI) (jaZ) (jaG) (jaS) (jan) (jaU) (jaE) (jar) (jaL) (jah) (jaB) (jaa) (jaz) (jaH) (jab) (ja2) (z0_s) (jaq) (jai) (jaO) (jaA) (jat) (jau) (jav) (jaj) (jas) (jaJ) (jak) (jad) (jay) (jac) jbx jbC jcP jb8 jbh 0 (jaC - 1) hw) (cwV 2 hts gX11_readLiving_X11_readNumber rfl rfl rfl (by decide +kernel) ⟨nbq rfl, nbq rfl⟩) ⟨qab, va_recv (q := (RX11, TX11, 55)) hK hPc (ci := 11) (q0 := 0) rfl rfl, qae hPc hK hDc hNw⟩ rfl rfl hl.1 rfl (lv_room (nbq rfl)) (qaa qo6 6 rfl) ⟨nbq rfl, nbq rfl⟩) hS (fun q _ h => hFc q h) hFc (fun r4 u t H1 locs ht hvm hw hB hz1 hk1 hS => ?_)
  obtain ⟨x1, x2, x3⟩ := u
  obtain ⟨hP1, hK1, hD1⟩ := hB
  rw [ht] at hP1
  obtain ⟨hP, hD⟩ := qah (wr := []) (w1 := (qS8 a0 jaX jaF jaD jbx x1 x2 x3 jaY jap jaW jal jam jax jao ja6 jaV ja8 jae jag jaf ja0 jaC jaP jaw jaI jaZ jaG jaS jan jaU jaE jar jaL jah jaB jaa jaz jaH jab ja2 z0_s jaq jai jaO jaA jat jau jav jaj jas jaJ jak jad jay jac jaW cyI jbC)) (wn := (qS8 a0 jaX jaF jaD jbx x1 x2 x3 jaY jap jaW jal jam jax jao ja6 jaV ja8 jae jag jaf ja0 jaC jaP jaw jaI jaZ jaG jaS jan jaU jaE jar jaL jah jaB jaa jaz jaH jab ja2 z0_s jaq jai jaO jaA jat jau jav jaj jas jaJ jak jad jay jac jaW cyI jbC)) hP hD [0, 1] [] hCc rfl (by decide +kernel) (by decide +kernel) rfl hk1 hFc hP1 hD1
  generalize H1 = H at hP hS ⊢
  exact ((W.iret (v := r4) hx hb hr (fun t ht hW => ⟨⟨r4, (x1, x2, x3), rfl, hw, by rw [ht]; exact hP, va_K.moved hW.alike hK, hD⟩, hS.F ht⟩) hS.2.2 (qaa qo6 7 rfl)))
theorem qjh : ∀ w ∈ u_ws RX11 TX11 55, w ∈ wsX11_tellsStep := uiM qCc qfa (by decide +kernel)
theorem qro : (.fieldLink RX11 295 "MarchHaresModel" "newSteps" "I" : Cond) ∈ wsX11_tellsStep := qCc 2114 (by decide +kernel)
theorem qxY : (.fieldLink RX11 62 "MarchHaresModel" "newStep" "[I" : Cond) ∈ wsX11_tellsStep := qCc 454 (by decide +kernel)
set_option maxHeartbeats 4000000 in
set_option maxRecDepth 100000 in
theorem qsI (l : Launch) (dC : Nat → ClassId) (dI : Nat → Nat → Nat) (cyB cyI cyJ cyP : ClassId) (a0 jcv sz : Nat) (jaX jaF jaD ja7 jby jaM jaY jap jaK jal jam jax jao ja6 jaV ja8 jae jag jaf ja0 ja4 jaP jaw jaI jaZ jaG jaS jan jaU jaE jaL jaB jaa jaz jaH jab ja2 z0_s jaq jai jaO jaA jat jau jav jaj jas jaJ jak jad jay jac : Value) (jb8 : Int32) (jgq : NI) (jed p1 p2 p3 p4 : Int32) {Q : NI → Int32 → Prop} (hw : qm1 jb8 jgq jed p1 p2 p3 p4 Q) : Met l yX11_tellsStep wsX11_tellsStep ({ frames := 1, cells := 0, slots := 0, locals := 20 }) (va_Pc [.ref a0, .int p1, .int p2, .int p3, .int p4] (cPc (dC, dI) (kT cyB cyI cyJ cyP) (qAN a0 jaX jaF jaD ja7 jby jb8 jaM jaY jap jaK jal jam jax jao ja6 jaV ja8 jae jag jaf ja0 ja4 jaP jaw jaI jaZ jaG jaS jan jaU jaE jcv jaL jed jaB jaa jaz jaH jab ja2 z0_s jaq jai jaO jaA jat jau jav jaj jas jaJ jak jad jay jac jcv cyI jgq) sz)) (va_Qv (fun (u : NI × Int32) => Q u.1 u.2) (cB (dC, dI) (kT cyB cyI cyJ cyP) (va_A (qAN a0 jaX jaF jaD ja7 jby jb8 jaM jaY jap jaK jal jam jax jao ja6 jaV ja8 jae jag jaf ja0 ja4 jaP jaw jaI jaZ jaG jaS jan jaU jaE jcv jaL jed jaB jaa jaz jaH jab ja2 z0_s jaq jai jaO jaA jat jau jav jaj jas jaJ jak jad jay jac jcv cyI jgq) sz) (fun u : NI × Int32 => ((qAN a0 jaX jaF jaD ja7 jby jb8 jaM jaY jap jaK jal jam jax jao ja6 jaV ja8 jae jag jaf ja0 ja4 jaP jaw jaI jaZ jaG jaS jan jaU jaE jcv jaL u.2 jaB jaa jaz jaH jab ja2 z0_s jaq jai jaO jaA jat jau jav jaj jas jaJ jak jad jay jac jcv cyI u.1) : va_W))) (va_A (qAN a0 jaX jaF jaD ja7 jby jb8 jaM jaY jap jaK jal jam jax jao ja6 jaV ja8 jae jag jaf ja0 ja4 jaP jaw jaI jaZ jaG jaS jan jaU jaE jcv jaL jed jaB jaa jaz jaH jab ja2 z0_s jaq jai jaO jaA jat jau jav jaj jas jaJ jak jad jay jac jcv cyI jgq) sz)) 0 0 (va_A (qAN a0 jaX jaF jaD ja7 jby jb8 jaM jaY jap jaK jal jam jax jao ja6 jaV ja8 jae jag jaf ja0 ja4 jaP jaw jaI jaZ jaG jaS jan jaU jaE jcv jaL jed jaB jaa jaz jaH jab ja2 z0_s jaq jai jaO jaA jat jau jav jaj jas jaJ jak jad jay jac jcv cyI jgq) sz) := by
  refine Met.ofW (cc := cX11_tellsStep) (maxL := 5) (ret := none) (by decide) rfl ?_
  intro p e s m args below meth c s₁ B hml hv
  obtain ⟨rfl, hsz, hP, hK, hD0, hNw⟩ := hv
  have hx := B.exec
  have hb := B.bytes
  have hr := B.returns
  have hts := atoms_spec (ws := wsX11_tellsStep) B.pre
  have hown : s.vm.findClass RX11 = some m.cls := findClass_of_methodNamed B.named
  have hlocks := B.notSynchronized
  subst hsz
  have hD := hD0.self (sz := s.heap.size)
  generalize hAe : va_A (qAN a0 jaX jaF jaD ja7 jby jb8 jaM jaY jap jaK jal jam jax jao ja6 jaV ja8 jae jag jaf ja0 ja4 jaP jaw jaI jaZ jaG jaS jan jaU jaE jcv jaL jed jaB jaa jaz jaH jab ja2 z0_s jaq jai jaO jaA jat jau jav jaj jas jaJ jak jad jay jac jcv cyI jgq) s.heap.size = A at hD ⊢
  have hA : ∀ q : Nat, s.heap.size ≤ q → A q := fun q h => by rw [← hAe]; exact Or.inr h
  have hS : va_S A s.heap s.heap [] := va_S.rf
  have hP : va_P (dC, dI) vwCl (qAN a0 jaX jaF jaD ja7 jby jb8 jaM jaY jap jaK jal jam jax jao ja6 jaV ja8 jae jag jaf ja0 ja4 jaP jaw jaI jaZ jaG jaS jan jaU jaE jcv jaL jed jaB jaa jaz jaH jab ja2 z0_s jaq jai jaO jaA jat jau jav jaj jas jaJ jak jad jay jac jcv cyI jgq) s.heap := hP
  have hl := lv_entry ([.ref a0, .int p1, .int p2, .int p3, .int p4]) (n := 5) (nbq rfl)
  rw [lg_entry_eq]
  generalize (lg_sl ([.ref a0, .int p1, .int p2, .int p3, .int p4]) ++ List.replicate (5 - (lg_sl ([.ref a0, .int p1, .int p2, .int p3, .int p4])).length) Slot.unset).toArray = ls at hl ⊢
  have hl : lv_has ls 5 [(0, .ref a0), (1, .int p1), (2, .int p2), (3, .int p3), (4, .int p4)] := hl
  have C0 : cfx p s m _ meth c cX11_tellsStep none wsX11_tellsStep RX11 5 A (dC, dI) (kT cyB cyI cyJ cyP) := ⟨hx, hb, hr, hts, hown, hlocks, hml, hA, hK, hNw⟩
  clear hAe
  obtain ⟨H, hH⟩ : ∃ H, H = s.heap := ⟨_, rfl⟩
  rw [← hH] at hP ⊢
  have hS : va_S A s.heap H [] := by rw [hH]; exact va_S.rf
  have hS := hS
  refine lv_aload_n hx hb (qaa qdh 0 rfl) rfl (lv_at hl 0 rfl) ?_
  obtain ⟨hCc, hPc, hDc, hFc⟩ := qac (ws' := (qa4X a0 jaX jaF jaD ja7 jby jb8 jaM jaY jap jaK jal jam jax jao ja6 jaV ja8 jae jag jaf ja0 ja4 jaP jaw jaI jaZ jaG jaS jan jaU jaE jcv jaL jed jaB jaa jaz jaH jab ja2 z0_s jaq jai jaO jaA jat jau jav jaj jas jaJ jak jad jay jac)) hP hD hS hA [0] (by decide +kernel) rfl
  refine va_calli (va_runV (As := []) (rest := []) ⟨hx, hb, hml, hown, hts⟩ (qdP l dC dI cyB cyI cyJ cyP a0 H.size (jaX) (jaF) (jaD) (ja7) (jby) (jaM) (jaY) (jap) (jaK) (jal) (jam) (jax) (jao) (ja6) (jaV) (ja8) (jae) (jag) (jaf) (ja0) (ja4) (jaP) (jaw) (jaI) (jaZ) (jaG) (jaS) (jan) (jaU) (jaE) (.ref jcv) (jaL) (.int jed) (jaB) (jaa) (jaz) (jaH) (jab) (ja2) (z0_s) (jaq) (jai) (jaO) (jaA) (jat) (jau) (jav) (jaj) (jas) (jaJ) (jak) (jad) (jay) (jac) jb8 hw) (cwV 0 hts gX11_tellsStep_X11_fine rfl rfl rfl (by decide +kernel) ⟨nbq rfl, nbq rfl⟩) ⟨qab, va_recv (q := (RX11, TX11, 55)) hK hPc (ci := 11) (q0 := 0) rfl rfl, qae hPc hK hDc hNw⟩ rfl rfl hl.1 rfl (lv_room (nbq rfl)) (qaa qdh 1 rfl) ⟨nbq rfl, nbq rfl⟩) hS (fun q _ h => hFc q h) hFc (fun r1 u t H1 locs ht hvm hw hB hz1 hk1 hS => ?_)
  obtain ⟨hP1, hK1, hD1⟩ := hB
  rw [ht] at hP1
  obtain ⟨hP, hD⟩ := qad (wr := [(jcv, .inl (cyI, 200, .inl jgq))]) (w1 := (qa4X a0 jaX jaF jaD ja7 jby jb8 jaM jaY jap jaK jal jam jax jao ja6 jaV ja8 jae jag jaf ja0 ja4 jaP jaw jaI jaZ jaG jaS jan jaU jaE jcv jaL jed jaB jaa jaz jaH jab ja2 z0_s jaq jai jaO jaA jat jau jav jaj jas jaJ jak jad jay jac)) (wn := (qAN a0 jaX jaF jaD ja7 jby jb8 jaM jaY jap jaK jal jam jax jao ja6 jaV ja8 jae jag jaf ja0 ja4 jaP jaw jaI jaZ jaG jaS jan jaU jaE jcv jaL jed jaB jaa jaz jaH jab ja2 z0_s jaq jai jaO jaA jat jau jav jaj jas jaJ jak jad jay jac jcv cyI jgq)) hP hD [0] [1] [1, 0] hCc rfl (by decide +kernel) (by decide +kernel) (by decide +kernel) rfl hk1 hFc hP1 hD1
  generalize H1 = H at hP hS ⊢
  refine lv_if_ne (tgt := 8) hx hb (qaa qdh 2 rfl) (by decide) (fun c2 => ?_) (fun c2 => ?_)
  · have hw := hw.1 c2
    refine lv_aload_n hx hb (qaa qdh 4 rfl) rfl (lv_at hl 0 rfl) ?_
    refine va_get (D := (dC, dI)) (ci := 11) (v := .ref jcv) (C := RX11) (T := TX11) (N := 55) hx hb hts qjh hown hK hP 0 rfl rfl 31 (by decide) (hts _ qxY) (fun _ h9 => h9) rfl (qaa qdh 5 rfl) ?_
    refine lv_aload_n hx hb (qaa qdh 6 rfl) rfl (lv_at hl 0 rfl) ?_
    refine va_get (D := (dC, dI)) (ci := 11) (v := .int jed) (C := RX11) (T := TX11) (N := 55) hx hb hts qjh hown hK hP 0 rfl rfl 33 (by decide) (hts _ qro) (fun _ h9 => h9) rfl (qaa qdh 7 rfl) ?_
    refine lv_iload_n hx hb (qaa qdh 8 rfl) rfl (lv_at hl 1 rfl) ?_
    obtain ⟨hi9, hw⟩ := hw
    refine va_iast hx hb hK hP hD hS 1 1 rfl rfl hi9 (qaa qdh 9 rfl) (fun H locs hP hD hS => ?_)
    obtain ⟨f3, ef3⟩ : ∃ y : NI, y = upd jgq jed.toNatClampNeg p1 := ⟨_, rfl⟩
    have hw := hw f3 ef3
    have hP : va_P (dC, dI) vwCl (qAN a0 jaX jaF jaD ja7 jby jb8 jaM jaY jap jaK jal jam jax jao ja6 jaV ja8 jae jag jaf ja0 ja4 jaP jaw jaI jaZ jaG jaS jan jaU jaE jcv jaL jed jaB jaa jaz jaH jab ja2 z0_s jaq jai jaO jaA jat jau jav jaj jas jaJ jak jad jay jac jcv cyI f3) H := by rw [ef3]; exact hP
    have hD : va_D A (qAN a0 jaX jaF jaD ja7 jby jb8 jaM jaY jap jaK jal jam jax jao ja6 jaV ja8 jae jag jaf ja0 ja4 jaP jaw jaI jaZ jaG jaS jan jaU jaE jcv jaL jed jaB jaa jaz jaH jab ja2 z0_s jaq jai jaO jaA jat jau jav jaj jas jaJ jak jad jay jac jcv cyI f3) := by rw [ef3]; exact hD
    refine lv_aload_n hx hb (qaa qdh 10 rfl) rfl (lv_at hl 0 rfl) ?_
    refine va_get (D := (dC, dI)) (ci := 11) (v := .ref jcv) (C := RX11) (T := TX11) (N := 55) hx hb hts qjh hown hK hP 0 rfl rfl 31 (by decide) (hts _ qxY) (fun _ h9 => h9) rfl (qaa qdh 11 rfl) ?_
    refine lv_aload_n hx hb (qaa qdh 12 rfl) rfl (lv_at hl 0 rfl) ?_
    refine va_get (D := (dC, dI)) (ci := 11) (v := .int jed) (C := RX11) (T := TX11) (N := 55) hx hb hts qjh hown hK hP 0 rfl rfl 33 (by decide) (hts _ qro) (fun _ h9 => h9) rfl (qaa qdh 13 rfl) ?_
    refine lv_iconst (v := 1) hx hb (qaa qdh 14 rfl) (by decide) ?_
    refine lv_iadd hx hb (qaa qdh 15 rfl) ?_
    refine lv_topi (fun x4 ex4 => ?_)
    have hw := hw x4 ex4
    refine lv_iload_n hx hb (qaa qcK 0 rfl) rfl (lv_at hl 2 rfl) ?_
    obtain ⟨hi9, hw⟩ := hw
    refine va_iast hx hb hK hP hD hS 1 1 rfl rfl hi9 (qaa qcK 1 rfl) (fun H locs hP hD hS => ?_)
    obtain ⟨f5, ef5⟩ : ∃ y : NI, y = upd f3 x4.toNatClampNeg p2 := ⟨_, rfl⟩
    have hw := hw f5 ef5
    have hP : va_P (dC, dI) vwCl (qAN a0 jaX jaF jaD ja7 jby jb8 jaM jaY jap jaK jal jam jax jao ja6 jaV ja8 jae jag jaf ja0 ja4 jaP jaw jaI jaZ jaG jaS jan jaU jaE jcv jaL jed jaB jaa jaz jaH jab ja2 z0_s jaq jai jaO jaA jat jau jav jaj jas jaJ jak jad jay jac jcv cyI f5) H := by rw [ef5]; exact hP
    have hD : va_D A (qAN a0 jaX jaF jaD ja7 jby jb8 jaM jaY jap jaK jal jam jax jao ja6 jaV ja8 jae jag jaf ja0 ja4 jaP jaw jaI jaZ jaG jaS jan jaU jaE jcv jaL jed jaB jaa jaz jaH jab ja2 z0_s jaq jai jaO jaA jat jau jav jaj jas jaJ jak jad jay jac jcv cyI f5) := by rw [ef5]; exact hD
    refine lv_aload_n hx hb (qaa qcK 2 rfl) rfl (lv_at hl 0 rfl) ?_
    refine va_get (D := (dC, dI)) (ci := 11) (v := .ref jcv) (C := RX11) (T := TX11) (N := 55) hx hb hts qjh hown hK hP 0 rfl rfl 31 (by decide) (hts _ qxY) (fun _ h9 => h9) rfl (qaa qcK 3 rfl) ?_
    refine lv_aload_n hx hb (qaa qcK 4 rfl) rfl (lv_at hl 0 rfl) ?_
    refine va_get (D := (dC, dI)) (ci := 11) (v := .int jed) (C := RX11) (T := TX11) (N := 55) hx hb hts qjh hown hK hP 0 rfl rfl 33 (by decide) (hts _ qro) (fun _ h9 => h9) rfl (qaa qcK 5 rfl) ?_
    refine lv_iconst (v := 2) hx hb (qaa qcK 6 rfl) (by decide) ?_
    refine lv_iadd hx hb (qaa qcK 7 rfl) ?_
    refine lv_topi (fun x6 ex6 => ?_)
    have hw := hw x6 ex6
    refine lv_iload_n hx hb (qaa qcK 8 rfl) rfl (lv_at hl 3 rfl) ?_
    obtain ⟨hi9, hw⟩ := hw
    refine va_iast hx hb hK hP hD hS 1 1 rfl rfl hi9 (qaa qcK 9 rfl) (fun H locs hP hD hS => ?_)
    obtain ⟨f7, ef7⟩ : ∃ y : NI, y = upd f5 x6.toNatClampNeg p3 := ⟨_, rfl⟩
    have hw := hw f7 ef7
    have hP : va_P (dC, dI) vwCl (qAN a0 jaX jaF jaD ja7 jby jb8 jaM jaY jap jaK jal jam jax jao ja6 jaV ja8 jae jag jaf ja0 ja4 jaP jaw jaI jaZ jaG jaS jan jaU jaE jcv jaL jed jaB jaa jaz jaH jab ja2 z0_s jaq jai jaO jaA jat jau jav jaj jas jaJ jak jad jay jac jcv cyI f7) H := by rw [ef7]; exact hP
    have hD : va_D A (qAN a0 jaX jaF jaD ja7 jby jb8 jaM jaY jap jaK jal jam jax jao ja6 jaV ja8 jae jag jaf ja0 ja4 jaP jaw jaI jaZ jaG jaS jan jaU jaE jcv jaL jed jaB jaa jaz jaH jab ja2 z0_s jaq jai jaO jaA jat jau jav jaj jas jaJ jak jad jay jac jcv cyI f7) := by rw [ef7]; exact hD
    refine lv_aload_n hx hb (qaa qcK 10 rfl) rfl (lv_at hl 0 rfl) ?_
    refine va_get (D := (dC, dI)) (ci := 11) (v := .ref jcv) (C := RX11) (T := TX11) (N := 55) hx hb hts qjh hown hK hP 0 rfl rfl 31 (by decide) (hts _ qxY) (fun _ h9 => h9) rfl (qaa qcK 11 rfl) ?_
    refine lv_aload_n hx hb (qaa qcK 12 rfl) rfl (lv_at hl 0 rfl) ?_
    refine va_get (D := (dC, dI)) (ci := 11) (v := .int jed) (C := RX11) (T := TX11) (N := 55) hx hb hts qjh hown hK hP 0 rfl rfl 33 (by decide) (hts _ qro) (fun _ h9 => h9) rfl (qaa qcK 13 rfl) ?_
    refine lv_iconst (v := 3) hx hb (qaa qcK 14 rfl) (by decide) ?_
    refine lv_iadd hx hb (qaa qcK 15 rfl) ?_
    refine lv_topi (fun x8 ex8 => ?_)
    have hw := hw x8 ex8
    refine lv_iload hx hb (qaa qnJ 0 rfl) (lv_at hl 4 rfl) ?_
    obtain ⟨hi9, hw⟩ := hw
    refine va_iast hx hb hK hP hD hS 1 1 rfl rfl hi9 (qaa qnJ 1 rfl) (fun H locs hP hD hS => ?_)
    obtain ⟨f9, ef9⟩ : ∃ y : NI, y = upd f7 x8.toNatClampNeg p4 := ⟨_, rfl⟩
    have hw := hw f9 ef9
    have hP : va_P (dC, dI) vwCl (qAN a0 jaX jaF jaD ja7 jby jb8 jaM jaY jap jaK jal jam jax jao ja6 jaV ja8 jae jag jaf ja0 ja4 jaP jaw jaI jaZ jaG jaS jan jaU jaE jcv jaL jed jaB jaa jaz jaH jab ja2 z0_s jaq jai jaO jaA jat jau jav jaj jas jaJ jak jad jay jac jcv cyI f9) H := by rw [ef9]; exact hP
    have hD : va_D A (qAN a0 jaX jaF jaD ja7 jby jb8 jaM jaY jap jaK jal jam jax jao ja6 jaV ja8 jae jag jaf ja0 ja4 jaP jaw jaI jaZ jaG jaS jan jaU jaE jcv jaL jed jaB jaa jaz jaH jab ja2 z0_s jaq jai jaO jaA jat jau jav jaj jas jaJ jak jad jay jac jcv cyI f9) := by rw [ef9]; exact hD
    refine lv_aload_n hx hb (qaa qnJ 2 rfl) rfl (lv_at hl 0 rfl) ?_
    refine lv_dup hx hb (qaa qnJ 3 rfl) rfl ?_
    refine va_get (D := (dC, dI)) (ci := 11) (v := .int jed) (C := RX11) (T := TX11) (N := 55) hx hb hts qjh hown hK hP 0 rfl rfl 33 (by decide) (hts _ qro) (fun _ h9 => h9) rfl (qaa qnJ 4 rfl) ?_
    refine lv_iconst (v := 4) hx hb (qaa qnJ 5 rfl) (by decide) ?_
    refine lv_iadd hx hb (qaa qnJ 6 rfl) ?_
    refine lv_topi (fun x10 ex10 => ?_)
    have hw := hw x10 ex10
    refine va_put (D := (dC, dI)) (ci := 11) (v := .int x10) (ty := .int) (C := RX11) (T := TX11) (N := 55) hx hb hts qjh tyX11 tyX11_ok nmX11 hown hK hP hD hS 0 rfl rfl 33 (by decide) (hts _ qro) (fun _ h9 => h9) rfl (by decide +kernel) rfl rfl (nbq rfl) (qaa qnJ 7 rfl) (fun H locs hP hD hS => ?_)
    have hP : va_P (dC, dI) vwCl (qAN a0 jaX jaF jaD ja7 jby jb8 jaM jaY jap jaK jal jam jax jao ja6 jaV ja8 jae jag jaf ja0 ja4 jaP jaw jaI jaZ jaG jaS jan jaU jaE jcv jaL x10 jaB jaa jaz jaH jab ja2 z0_s jaq jai jaO jaA jat jau jav jaj jas jaJ jak jad jay jac jcv cyI f9) H := hP
    have hD : va_D A (qAN a0 jaX jaF jaD ja7 jby jb8 jaM jaY jap jaK jal jam jax jao ja6 jaV ja8 jae jag jaf ja0 ja4 jaP jaw jaI jaZ jaG jaS jan jaU jaE jcv jaL x10 jaB jaa jaz jaH jab ja2 z0_s jaq jai jaO jaA jat jau jav jaj jas jaJ jak jad jay jac jcv cyI f9) := hD
    exact ((W.vret hx hb hr (fun t ht hW => ⟨⟨(f9, x10), rfl, hw, by rw [ht]; exact hP, va_K.moved hW.alike hK, hD⟩, hS.F ht⟩) hS.2.2 (qaa qnJ 8 rfl)))
  · have hw := hw.2 c2
    exact ((W.vret hx hb hr (fun t ht hW => ⟨⟨(jgq, jed), rfl, hw, by rw [ht]; exact hP, va_K.moved hW.alike hK, hD⟩, hS.F ht⟩) hS.2.2 (qaa qdh 3 rfl)))
theorem qVX : ∀ w ∈ u_ws RX11 TX11 55, w ∈ wsX11_refuge := uiM qra qfa (by decide +kernel)
theorem qahp : (.fieldLink RX11 166 "MarchHaresModel" "forms" "I" : Cond) ∈ wsX11_refuge := qra 519 (by decide +kernel)
theorem qauW : (.fieldLink RX11 3 "MarchHaresModel" "thrown" "I" : Cond) ∈ wsX11_refuge := qra 589 (by decide +kernel)
set_option maxHeartbeats 4000000 in
set_option maxRecDepth 100000 in
theorem qNa {p : Program} {l : Launch} {e : Env} {s : State} {m : MethodId} {args : Array Value} {below : List Frame} {meth : Method} {c : Code} {A : Nat → Prop} (dC : Nat → ClassId) (dI : Nat → Nat → Nat) (cyB cyI cyJ cyP : ClassId) (a0 jaQ ja5 jbJ : Nat) (jaD ja7 jby jbe jaM jaY jap jaK jal jam jax jao jaV jae jag jaf ja4 jaw jaI jaZ jaG jaS jan jaU jaE jar jaL jah jaB jaa jaz jaH jab ja2 z0_s jaq jai jaO jaA jat jau jav jaj jas jaJ jak jad jay jac : Value) (jaN jbw : Int32) (jbv jcy : NI) (Q : Int32 → Int32 → NI → Prop) (K36 : Int32 → NI → Int32 → Int32 → Int32 → Int32 → Prop) (hK36 : ∀ (H : Heap) (locs : List Loc) (ls : Array Slot) (jbd : Int32) (ja9 : NI) (l1 l2 l3 l4 : Int32), va_P (dC, dI) vwCl (qo2 a0 jbd jaQ jaD ja7 jby jbe jaM jaY jap jaK jal jam jax jao ja5 jaV jbJ jae jag jaf jaN ja4 jbw jaw jaI jaZ jaG jaS jan jaU jaE jar jaL jah jaB jaa jaz jaH jab ja2 z0_s jaq jai jaO jaA jat jau jav jaj jas jaJ jak jad jay jac jaQ cyI ja9 ja5 cyI jbv jbJ cyI jcy) H → va_D A (qo2 a0 jbd jaQ jaD ja7 jby jbe jaM jaY jap jaK jal jam jax jao ja5 jaV jbJ jae jag jaf jaN ja4 jbw jaw jaI jaZ jaG jaS jan jaU jaE jar jaL jah jaB jaa jaz jaH jab ja2 z0_s jaq jai jaO jaA jat jau jav jaj jas jaJ jak jad jay jac jaQ cyI ja9 ja5 cyI jbv jbJ cyI jcy) → va_S A s.heap H locs → lv_has ls 5 [(0, .ref a0), (1, .int l1), (2, .int l2), (3, .int l3), (4, .int l4)] → K36 jbd ja9 l1 l2 l3 l4 → W p l e (headSpec wsX11_refuge ({ frames := 2, cells := 0, slots := 0, locals := 45 })).room s m args below meth c H locs 0 0 (MQ below (va_Qi (fun (r : Int32) (u : Int32 × NI) => Q r u.1 u.2) (cB (dC, dI) (kT cyB cyI cyJ cyP) A (fun u : Int32 × NI => ((qo2 a0 u.1 jaQ jaD ja7 jby jbe jaM jaY jap jaK jal jam jax jao ja5 jaV jbJ jae jag jaf jaN ja4 jbw jaw jaI jaZ jaG jaS jan jaU jaE jar jaL jah jaB jaa jaz jaH jab ja2 z0_s jaq jai jaO jaA jat jau jav jaj jas jaJ jak jad jay jac jaQ cyI u.2 ja5 cyI jbv jbJ cyI jcy) : va_W))) A) args s 0 0 A) (F0 m 36 ls [])) (C0 : cfx p s m args meth c cX11_refuge (some .int) wsX11_refuge RX11 5 A (dC, dI) (kT cyB cyI cyJ cyP)) : ∀ (H : Heap) (locs : List Loc) (ls : Array Slot) (jbd : Int32) (ja9 : NI) (l1 l2 l3 l4 : Int32), va_P (dC, dI) vwCl (qo2 a0 jbd jaQ jaD ja7 jby jbe jaM jaY jap jaK jal jam jax jao ja5 jaV jbJ jae jag jaf jaN ja4 jbw jaw jaI jaZ jaG jaS jan jaU jaE jar jaL jah jaB jaa jaz jaH jab ja2 z0_s jaq jai jaO jaA jat jau jav jaj jas jaJ jak jad jay jac jaQ cyI ja9 ja5 cyI jbv jbJ cyI jcy) H → va_D A (qo2 a0 jbd jaQ jaD ja7 jby jbe jaM jaY jap jaK jal jam jax jao ja5 jaV jbJ jae jag jaf jaN ja4 jbw jaw jaI jaZ jaG jaS jan jaU jaE jar jaL jah jaB jaa jaz jaH jab ja2 z0_s jaq jai jaO jaA jat jau jav jaj jas jaJ jak jad jay jac jaQ cyI ja9 ja5 cyI jbv jbJ cyI jcy) → va_S A s.heap H locs → lv_has ls 5 [(0, .ref a0), (1, .int l1), (2, .int l2), (3, .int l3), (4, .int l4)] → qEO jaN jbw jbv jcy Q K36 jbd ja9 l1 l2 l3 l4 → W p l e (headSpec wsX11_refuge ({ frames := 2, cells := 0, slots := 0, locals := 45 })).room s m args below meth c H locs 0 0 (MQ below (va_Qi (fun (r : Int32) (u : Int32 × NI) => Q r u.1 u.2) (cB (dC, dI) (kT cyB cyI cyJ cyP) A (fun u : Int32 × NI => ((qo2 a0 u.1 jaQ jaD ja7 jby jbe jaM jaY jap jaK jal jam jax jao ja5 jaV jbJ jae jag jaf jaN ja4 jbw jaw jaI jaZ jaG jaS jan jaU jaE jar jaL jah jaB jaa jaz jaH jab ja2 z0_s jaq jai jaO jaA jat jau jav jaj jas jaJ jak jad jay jac jaQ cyI u.2 ja5 cyI jbv jbJ cyI jcy) : va_W))) A) args s 0 0 A) (F0 m 78 ls []) := by
  obtain ⟨hx, hb, hr, hts, hown, hlocks, hml, hA, hK, hNw⟩ := id C0
  intro H locs ls jbd ja9 l1 l2 l3 l4 hP hD hS hl hw
  obtain ⟨x20, ex20⟩ : ∃ y : Int32, y = l4 + 1 := ⟨_, rfl⟩
  have hw := hw x20 ex20
  refine lv_iinc (v := x20) (lv' := [(4, .int x20), (0, .ref a0), (1, .int l1), (2, .int l2), (3, .int l3)]) hx hb (qaa qfF 13 rfl) hl (k := 4) rfl (by rw [ex20]; rfl) (by decide) rfl (fun ls hl => ?_)
  refine lv_goto (tgt := 36) hx hb (qaa qfF 14 rfl) (by decide) ?_
  exact hK36 _ _ _ jbd ja9 l1 l2 l3 x20 hP hD hS (lv_sub hl [1, 2, 3, 4, 0] rfl) hw
set_option maxHeartbeats 4000000 in
set_option maxRecDepth 100000 in
theorem qYV {p : Program} {l : Launch} {e : Env} {s : State} {m : MethodId} {args : Array Value} {below : List Frame} {meth : Method} {c : Code} {A : Nat → Prop} (dC : Nat → ClassId) (dI : Nat → Nat → Nat) (cyB cyI cyJ cyP : ClassId) (a0 jaQ ja5 jbJ : Nat) (jaD ja7 jby jbe jaM jaY jap jaK jal jam jax jao jaV jae jag jaf ja4 jaw jaI jaZ jaG jaS jan jaU jaE jar jaL jah jaB jaa jaz jaH jab ja2 z0_s jaq jai jaO jaA jat jau jav jaj jas jaJ jak jad jay jac : Value) (jaN jbw : Int32) (jbv jcy : NI) (Q : Int32 → Int32 → NI → Prop) (K36 : Int32 → NI → Int32 → Int32 → Int32 → Int32 → Prop) (hK36 : ∀ (H : Heap) (locs : List Loc) (ls : Array Slot) (jbd : Int32) (ja9 : NI) (l1 l2 l3 l4 : Int32), va_P (dC, dI) vwCl (qo2 a0 jbd jaQ jaD ja7 jby jbe jaM jaY jap jaK jal jam jax jao ja5 jaV jbJ jae jag jaf jaN ja4 jbw jaw jaI jaZ jaG jaS jan jaU jaE jar jaL jah jaB jaa jaz jaH jab ja2 z0_s jaq jai jaO jaA jat jau jav jaj jas jaJ jak jad jay jac jaQ cyI ja9 ja5 cyI jbv jbJ cyI jcy) H → va_D A (qo2 a0 jbd jaQ jaD ja7 jby jbe jaM jaY jap jaK jal jam jax jao ja5 jaV jbJ jae jag jaf jaN ja4 jbw jaw jaI jaZ jaG jaS jan jaU jaE jar jaL jah jaB jaa jaz jaH jab ja2 z0_s jaq jai jaO jaA jat jau jav jaj jas jaJ jak jad jay jac jaQ cyI ja9 ja5 cyI jbv jbJ cyI jcy) → va_S A s.heap H locs → lv_has ls 5 [(0, .ref a0), (1, .int l1), (2, .int l2), (3, .int l3), (4, .int l4)] → K36 jbd ja9 l1 l2 l3 l4 → W p l e (headSpec wsX11_refuge ({ frames := 2, cells := 0, slots := 0, locals := 45 })).room s m args below meth c H locs 0 0 (MQ below (va_Qi (fun (r : Int32) (u : Int32 × NI) => Q r u.1 u.2) (cB (dC, dI) (kT cyB cyI cyJ cyP) A (fun u : Int32 × NI => ((qo2 a0 u.1 jaQ jaD ja7 jby jbe jaM jaY jap jaK jal jam jax jao ja5 jaV jbJ jae jag jaf jaN ja4 jbw jaw jaI jaZ jaG jaS jan jaU jaE jar jaL jah jaB jaa jaz jaH jab ja2 z0_s jaq jai jaO jaA jat jau jav jaj jas jaJ jak jad jay jac jaQ cyI u.2 ja5 cyI jbv jbJ cyI jcy) : va_W))) A) args s 0 0 A) (F0 m 36 ls [])) (C0 : cfx p s m args meth c cX11_refuge (some .int) wsX11_refuge RX11 5 A (dC, dI) (kT cyB cyI cyJ cyP)) : ∀ (H : Heap) (locs : List Loc) (ls : Array Slot) (jbd : Int32) (ja9 : NI) (l1 l2 l4 : Int32), va_P (dC, dI) vwCl (qo2 a0 jbd jaQ jaD ja7 jby jbe jaM jaY jap jaK jal jam jax jao ja5 jaV jbJ jae jag jaf jaN ja4 jbw jaw jaI jaZ jaG jaS jan jaU jaE jar jaL jah jaB jaa jaz jaH jab ja2 z0_s jaq jai jaO jaA jat jau jav jaj jas jaJ jak jad jay jac jaQ cyI ja9 ja5 cyI jbv jbJ cyI jcy) H → va_D A (qo2 a0 jbd jaQ jaD ja7 jby jbe jaM jaY jap jaK jal jam jax jao ja5 jaV jbJ jae jag jaf jaN ja4 jbw jaw jaI jaZ jaG jaS jan jaU jaE jar jaL jah jaB jaa jaz jaH jab ja2 z0_s jaq jai jaO jaA jat jau jav jaj jas jaJ jak jad jay jac jaQ cyI ja9 ja5 cyI jbv jbJ cyI jcy) → va_S A s.heap H locs → lv_has ls 5 [(0, .ref a0), (1, .int l1), (2, .int l2), (4, .int l4)] → qMN jaN jbw jbv jcy Q K36 jbd ja9 l1 l2 l4 → W p l e (headSpec wsX11_refuge ({ frames := 2, cells := 0, slots := 0, locals := 45 })).room s m args below meth c H locs 0 0 (MQ below (va_Qi (fun (r : Int32) (u : Int32 × NI) => Q r u.1 u.2) (cB (dC, dI) (kT cyB cyI cyJ cyP) A (fun u : Int32 × NI => ((qo2 a0 u.1 jaQ jaD ja7 jby jbe jaM jaY jap jaK jal jam jax jao ja5 jaV jbJ jae jag jaf jaN ja4 jbw jaw jaI jaZ jaG jaS jan jaU jaE jar jaL jah jaB jaa jaz jaH jab ja2 z0_s jaq jai jaO jaA jat jau jav jaj jas jaJ jak jad jay jac jaQ cyI u.2 ja5 cyI jbv jbJ cyI jcy) : va_W))) A) args s 0 0 A) (F0 m 75 ls []) := by
  obtain ⟨hx, hb, hr, hts, hown, hlocks, hml, hA, hK, hNw⟩ := id C0
  intro H locs ls jbd ja9 l1 l2 l4 hP hD hS hl hw
  refine lv_iload hx hb (qaa qfF 11 rfl) (lv_at hl 3 rfl) ?_
  refine lv_istore_n (lv' := [(3, .int l4), (0, .ref a0), (1, .int l1), (2, .int l2), (4, .int l4)]) hx hb (qaa qfF 12 rfl) rfl hl (by decide) rfl (fun ls hl => ?_)
  exact qNa dC dI cyB cyI cyJ cyP a0 jaQ ja5 jbJ jaD ja7 jby jbe jaM jaY jap jaK jal jam jax jao jaV jae jag jaf ja4 jaw jaI jaZ jaG jaS jan jaU jaE jar jaL jah jaB jaa jaz jaH jab ja2 z0_s jaq jai jaO jaA jat jau jav jaj jas jaJ jak jad jay jac jaN jbw jbv jcy Q K36 hK36 C0 _ _ _ jbd ja9 l1 l2 l4 l4 hP hD hS (lv_sub hl [1, 2, 3, 0, 4] rfl) hw
set_option maxHeartbeats 4000000 in
set_option maxRecDepth 100000 in
theorem qZH {p : Program} {l : Launch} {e : Env} {s : State} {m : MethodId} {args : Array Value} {below : List Frame} {meth : Method} {c : Code} {A : Nat → Prop} (dC : Nat → ClassId) (dI : Nat → Nat → Nat) (cyB cyI cyJ cyP : ClassId) (a0 jaQ ja5 jbJ : Nat) (jaD ja7 jby jbe jaM jaY jap jaK jal jam jax jao jaV jae jag jaf ja4 jaw jaI jaZ jaG jaS jan jaU jaE jar jaL jah jaB jaa jaz jaH jab ja2 z0_s jaq jai jaO jaA jat jau jav jaj jas jaJ jak jad jay jac : Value) (jaN jbw : Int32) (jbv jcy : NI) (Q : Int32 → Int32 → NI → Prop) (C0 : cfx p s m args meth c cX11_refuge (some .int) wsX11_refuge RX11 5 A (dC, dI) (kT cyB cyI cyJ cyP)) : ∀ (H : Heap) (locs : List Loc) (ls : Array Slot) (jbd : Int32) (ja9 : NI) (l3 : Int32), va_P (dC, dI) vwCl (qo2 a0 jbd jaQ jaD ja7 jby jbe jaM jaY jap jaK jal jam jax jao ja5 jaV jbJ jae jag jaf jaN ja4 jbw jaw jaI jaZ jaG jaS jan jaU jaE jar jaL jah jaB jaa jaz jaH jab ja2 z0_s jaq jai jaO jaA jat jau jav jaj jas jaJ jak jad jay jac jaQ cyI ja9 ja5 cyI jbv jbJ cyI jcy) H → va_D A (qo2 a0 jbd jaQ jaD ja7 jby jbe jaM jaY jap jaK jal jam jax jao ja5 jaV jbJ jae jag jaf jaN ja4 jbw jaw jaI jaZ jaG jaS jan jaU jaE jar jaL jah jaB jaa jaz jaH jab ja2 z0_s jaq jai jaO jaA jat jau jav jaj jas jaJ jak jad jay jac jaQ cyI ja9 ja5 cyI jbv jbJ cyI jcy) → va_S A s.heap H locs → lv_has ls 5 [(3, .int l3)] → qMl jaN jbw jbv jcy Q jbd ja9 l3 → W p l e (headSpec wsX11_refuge ({ frames := 2, cells := 0, slots := 0, locals := 45 })).room s m args below meth c H locs 0 0 (MQ below (va_Qi (fun (r : Int32) (u : Int32 × NI) => Q r u.1 u.2) (cB (dC, dI) (kT cyB cyI cyJ cyP) A (fun u : Int32 × NI => ((qo2 a0 u.1 jaQ jaD ja7 jby jbe jaM jaY jap jaK jal jam jax jao ja5 jaV jbJ jae jag jaf jaN ja4 jbw jaw jaI jaZ jaG jaS jan jaU jaE jar jaL jah jaB jaa jaz jaH jab ja2 z0_s jaq jai jaO jaA jat jau jav jaj jas jaJ jak jad jay jac jaQ cyI u.2 ja5 cyI jbv jbJ cyI jcy) : va_W))) A) args s 0 0 A) (F0 m 93 ls []) := by
  obtain ⟨hx, hb, hr, hts, hown, hlocks, hml, hA, hK, hNw⟩ := id C0
  intro H locs ls jbd ja9 l3 hP hD hS hl hw
  refine lv_iload_n hx hb (qaa qmY 4 rfl) rfl (lv_at hl 0 rfl) ?_
  refine lv_goto (tgt := 103) hx hb (qaa qmY 5 rfl) (by decide) ?_
  exact ((W.iret (v := l3) hx hb hr (fun t ht hW => ⟨⟨l3, (jbd, ja9), rfl, hw, by rw [ht]; exact hP, va_K.moved hW.alike hK, hD⟩, hS.F ht⟩) hS.2.2 (qaa qmY 10 rfl)))
set_option maxHeartbeats 4000000 in
set_option maxRecDepth 100000 in
theorem qas3 {p : Program} {l : Launch} {e : Env} {s : State} {m : MethodId} {args : Array Value} {below : List Frame} {meth : Method} {c : Code} {A : Nat → Prop} (dC : Nat → ClassId) (dI : Nat → Nat → Nat) (cyB cyI cyJ cyP : ClassId) (a0 jaQ ja5 jbJ : Nat) (jaD ja7 jby jbe jaM jaY jap jaK jal jam jax jao jaV jae jag jaf ja4 jaw jaI jaZ jaG jaS jan jaU jaE jar jaL jah jaB jaa jaz jaH jab ja2 z0_s jaq jai jaO jaA jat jau jav jaj jas jaJ jak jad jay jac : Value) (jaN jbw : Int32) (jbv jcy : NI) (Q : Int32 → Int32 → NI → Prop) (C0 : cfx p s m args meth c cX11_refuge (some .int) wsX11_refuge RX11 5 A (dC, dI) (kT cyB cyI cyJ cyP)) : ∀ (n : Nat) (H : Heap) (locs : List Loc) (ls : Array Slot) (jbd : Int32) (ja9 : NI) (l1 l2 l3 l4 : Int32), va_P (dC, dI) vwCl (qo2 a0 jbd jaQ jaD ja7 jby jbe jaM jaY jap jaK jal jam jax jao ja5 jaV jbJ jae jag jaf jaN ja4 jbw jaw jaI jaZ jaG jaS jan jaU jaE jar jaL jah jaB jaa jaz jaH jab ja2 z0_s jaq jai jaO jaA jat jau jav jaj jas jaJ jak jad jay jac jaQ cyI ja9 ja5 cyI jbv jbJ cyI jcy) H → va_D A (qo2 a0 jbd jaQ jaD ja7 jby jbe jaM jaY jap jaK jal jam jax jao ja5 jaV jbJ jae jag jaf jaN ja4 jbw jaw jaI jaZ jaG jaS jan jaU jaE jar jaL jah jaB jaa jaz jaH jab ja2 z0_s jaq jai jaO jaA jat jau jav jaj jas jaJ jak jad jay jac jaQ cyI ja9 ja5 cyI jbv jbJ cyI jcy) → va_S A s.heap H locs → lv_has ls 5 [(0, .ref a0), (1, .int l1), (2, .int l2), (3, .int l3), (4, .int l4)] → qnY jaN jbw jbv jcy Q n jbd ja9 l1 l2 l3 l4 → W p l e (headSpec wsX11_refuge ({ frames := 2, cells := 0, slots := 0, locals := 45 })).room s m args below meth c H locs 0 0 (MQ below (va_Qi (fun (r : Int32) (u : Int32 × NI) => Q r u.1 u.2) (cB (dC, dI) (kT cyB cyI cyJ cyP) A (fun u : Int32 × NI => ((qo2 a0 u.1 jaQ jaD ja7 jby jbe jaM jaY jap jaK jal jam jax jao ja5 jaV jbJ jae jag jaf jaN ja4 jbw jaw jaI jaZ jaG jaS jan jaU jaE jar jaL jah jaB jaa jaz jaH jab ja2 z0_s jaq jai jaO jaA jat jau jav jaj jas jaJ jak jad jay jac jaQ cyI u.2 ja5 cyI jbv jbJ cyI jcy) : va_W))) A) args s 0 0 A) (F0 m 36 ls []) := by
  obtain ⟨hx, hb, hr, hts, hown, hlocks, hml, hA, hK, hNw⟩ := id C0
  intro n
  induction n with
  | zero => intro H locs ls jbd ja9 l1 l2 l3 l4 hP hD hS hl hw; exact False.elim hw
  | succ n ih =>
    intro H locs ls jbd ja9 l1 l2 l3 l4 hP hD hS hl hw
    refine lv_iload hx hb (qaa qdH 7 rfl) (lv_at hl 4 rfl) ?_
    refine lv_aload_n hx hb (qaa qdH 8 rfl) rfl (lv_at hl 0 rfl) ?_
    refine va_get (D := (dC, dI)) (ci := 11) (v := .int jaN) (C := RX11) (T := TX11) (N := 55) hx hb hts qVX hown hK hP 0 rfl rfl 20 (by decide) (hts _ qahp) (fun _ h9 => h9) rfl (qaa qdH 9 rfl) ?_
    refine lv_icmp_ge (tgt := 84) hx hb (qaa qdH 10 rfl) (by decide) (fun c10 => ?_) (fun c10 => ?_)
    · have hw := hw.1 c10
      refine lv_iload_n hx hb (qaa qfF 15 rfl) rfl (lv_at hl 2 rfl) ?_
      refine lv_if_eq (tgt := 93) hx hb (qaa qmY 0 rfl) (by decide) (fun c11 => ?_) (fun c11 => ?_)
      · have hw := hw.1 c11
        exact qZH dC dI cyB cyI cyJ cyP a0 jaQ ja5 jbJ jaD ja7 jby jbe jaM jaY jap jaK jal jam jax jao jaV jae jag jaf ja4 jaw jaI jaZ jaG jaS jan jaU jaE jar jaL jah jaB jaa jaz jaH jab ja2 z0_s jaq jai jaO jaA jat jau jav jaj jas jaJ jak jad jay jac jaN jbw jbv jcy Q C0 _ _ _ jbd ja9 l3 hP hD hS (lv_sub hl [3] rfl) hw
      · have hw := hw.2 c11
        refine lv_iload_n hx hb (qaa qmY 1 rfl) rfl (lv_at hl 3 rfl) ?_
        refine lv_iconst (v := (-1)) hx hb (qaa qmY 2 rfl) (by decide) ?_
        refine lv_icmp_ne (tgt := 97) hx hb (qaa qmY 3 rfl) (by decide) (fun c12 => ?_) (fun c12 => ?_)
        · have hw := hw.1 c12
          refine lv_aload_n hx hb (qaa qmY 6 rfl) rfl (lv_at hl 0 rfl) ?_
          refine lv_iload_n hx hb (qaa qmY 7 rfl) rfl (lv_at hl 1 rfl) ?_
          refine lv_iload_n hx hb (qaa qmY 8 rfl) rfl (lv_at hl 3 rfl) ?_
          obtain ⟨hCc, hPc, hDc, hFc⟩ := qac (ws' := (qalm a0 jbd jaQ jaD ja7 jby jbe jaM jaY jap jaK jal jam jax jao ja5 jaV jbJ jae jag jaf jaN ja4 jbw jaw jaI jaZ jaG jaS jan jaU jaE jar jaL jah jaB jaa jaz jaH jab ja2 z0_s jaq jai jaO jaA jat jau jav jaj jas jaJ jak jad jay jac ja5 cyI jbv)) hP hD hS hA [0, 2] (by decide +kernel) rfl
          refine va_calli (va_runV (As := [.int l1, .int l3]) (rest := []) ⟨hx, hb, hml, hown, hts⟩ (qvj l dC dI cyB cyI cyJ cyP a0 ja5 H.size (.int jbd) (.ref jaQ) (jaD) (ja7) (jby) (jbe) (jaM) (jaY) (jap) (jaK) (jal) (jam) (jax) (jao) (jaV) (.ref jbJ) (jae) (jag) (jaf) (.int jaN) (ja4) (.int jbw) (jaw) (jaI) (jaZ) (jaG) (jaS) (jan) (jaU) (jaE) (jar) (jaL) (jah) (jaB) (jaa) (jaz) (jaH) (jab) (ja2) (z0_s) (jaq) (jai) (jaO) (jaA) (jat) (jau) (jav) (jaj) (jas) (jaJ) (jak) (jad) (jay) (jac) jbv l1 l3 hw) (cwV 2 hts gX11_refuge_X11_farOf rfl rfl rfl (by decide +kernel) ⟨nbq rfl, nbq rfl⟩) ⟨qab, va_recv (q := (RX11, TX11, 55)) hK hPc (ci := 11) (q0 := 0) rfl rfl, qae hPc hK hDc hNw⟩ rfl rfl hl.1 rfl (lv_room (nbq rfl)) (qaa qmY 9 rfl) ⟨nbq rfl, nbq rfl⟩) hS (fun q _ h => hFc q h) hFc (fun r13 u t H1 locs ht hvm hw hB hz1 hk1 hS => ?_)
          obtain ⟨hP1, hK1, hD1⟩ := hB
          rw [ht] at hP1
          obtain ⟨hP, hD⟩ := qad (wr := (qaXl jaQ cyI ja9 jbJ cyI jcy)) (w1 := (qalm a0 jbd jaQ jaD ja7 jby jbe jaM jaY jap jaK jal jam jax jao ja5 jaV jbJ jae jag jaf jaN ja4 jbw jaw jaI jaZ jaG jaS jan jaU jaE jar jaL jah jaB jaa jaz jaH jab ja2 z0_s jaq jai jaO jaA jat jau jav jaj jas jaJ jak jad jay jac ja5 cyI jbv)) (wn := (qo2 a0 jbd jaQ jaD ja7 jby jbe jaM jaY jap jaK jal jam jax jao ja5 jaV jbJ jae jag jaf jaN ja4 jbw jaw jaI jaZ jaG jaS jan jaU jaE jar jaL jah jaB jaa jaz jaH jab ja2 z0_s jaq jai jaO jaA jat jau jav jaj jas jaJ jak jad jay jac jaQ cyI ja9 ja5 cyI jbv jbJ cyI jcy)) hP hD [0, 2] [1, 3] [2, 0, 3, 1] hCc rfl (by decide +kernel) (by decide +kernel) (by decide +kernel) rfl hk1 hFc hP1 hD1
          generalize H1 = H at hP hS ⊢
          exact ((W.iret (v := r13) hx hb hr (fun t ht hW => ⟨⟨r13, (jbd, ja9), rfl, hw, by rw [ht]; exact hP, va_K.moved hW.alike hK, hD⟩, hS.F ht⟩) hS.2.2 (qaa qmY 10 rfl)))
        · have hw := hw.2 c12
          exact qZH dC dI cyB cyI cyJ cyP a0 jaQ ja5 jbJ jaD ja7 jby jbe jaM jaY jap jaK jal jam jax jao jaV jae jag jaf ja4 jaw jaI jaZ jaG jaS jan jaU jaE jar jaL jah jaB jaa jaz jaH jab ja2 z0_s jaq jai jaO jaA jat jau jav jaj jas jaJ jak jad jay jac jaN jbw jbv jcy Q C0 _ _ _ jbd ja9 l3 hP hD hS (lv_sub hl [3] rfl) hw
    · have hw := hw.2 c10
      refine lv_aload_n hx hb (qaa qdH 11 rfl) rfl (lv_at hl 0 rfl) ?_
      refine lv_iload hx hb (qaa qdH 12 rfl) (lv_at hl 4 rfl) ?_
      obtain ⟨hCc, hPc, hDc, hFc⟩ := qac (ws' := (qa3x a0 jbd jaQ jaD ja7 jby jbe jaM jaY jap jaK jal jam jax jao ja5 jaV jbJ jae jag jaf jaN ja4 jbw jaw jaI jaZ jaG jaS jan jaU jaE jar jaL jah jaB jaa jaz jaH jab ja2 z0_s jaq jai jaO jaA jat jau jav jaj jas jaJ jak jad jay jac ja5 cyI jbv jbJ cyI jcy)) hP hD hS hA [0, 2, 3] (by decide +kernel) rfl
      refine va_calli (va_runV (As := [.int l4]) (rest := []) ⟨hx, hb, hml, hown, hts⟩ (qNX l dC dI cyB cyI cyJ cyP a0 ja5 jbJ H.size (.int jbd) (.ref jaQ) (jaD) (ja7) (jby) (jbe) (jaM) (jaY) (jap) (jaK) (jal) (jam) (jax) (jao) (jaV) (jae) (jag) (jaf) (.int jaN) (ja4) (jaw) (jaI) (jaZ) (jaG) (jaS) (jan) (jaU) (jaE) (jar) (jaL) (jah) (jaB) (jaa) (jaz) (jaH) (jab) (ja2) (z0_s) (jaq) (jai) (jaO) (jaA) (jat) (jau) (jav) (jaj) (jas) (jaJ) (jak) (jad) (jay) (jac) jbw jbv jcy l4 hw) (cwV 1 hts gX11_refuge_X11_isSafe rfl rfl rfl (by decide +kernel) ⟨nbq rfl, nbq rfl⟩) ⟨qab, va_recv (q := (RX11, TX11, 55)) hK hPc (ci := 11) (q0 := 0) rfl rfl, qae hPc hK hDc hNw⟩ rfl rfl hl.1 rfl (lv_room (nbq rfl)) (qaa qdH 13 rfl) ⟨nbq rfl, nbq rfl⟩) hS (fun q _ h => hFc q h) hFc (fun r14 u t H1 locs ht hvm hw hB hz1 hk1 hS => ?_)
      obtain ⟨hP1, hK1, hD1⟩ := hB
      rw [ht] at hP1
      obtain ⟨hP, hD⟩ := qad (wr := (qbgC jaQ cyI ja9)) (w1 := (qa3x a0 jbd jaQ jaD ja7 jby jbe jaM jaY jap jaK jal jam jax jao ja5 jaV jbJ jae jag jaf jaN ja4 jbw jaw jaI jaZ jaG jaS jan jaU jaE jar jaL jah jaB jaa jaz jaH jab ja2 z0_s jaq jai jaO jaA jat jau jav jaj jas jaJ jak jad jay jac ja5 cyI jbv jbJ cyI jcy)) (wn := (qo2 a0 jbd jaQ jaD ja7 jby jbe jaM jaY jap jaK jal jam jax jao ja5 jaV jbJ jae jag jaf jaN ja4 jbw jaw jaI jaZ jaG jaS jan jaU jaE jar jaL jah jaB jaa jaz jaH jab ja2 z0_s jaq jai jaO jaA jat jau jav jaj jas jaJ jak jad jay jac jaQ cyI ja9 ja5 cyI jbv jbJ cyI jcy)) hP hD [0, 2, 3] [1] [1, 0, 2, 3] hCc rfl (by decide +kernel) (by decide +kernel) (by decide +kernel) rfl hk1 hFc hP1 hD1
      generalize H1 = H at hP hS ⊢
      refine lv_if_eq (tgt := 78) hx hb (qaa qdH 14 rfl) (by decide) (fun c15 => ?_) (fun c15 => ?_)
      · have hw := hw.1 c15
        exact qNa dC dI cyB cyI cyJ cyP a0 jaQ ja5 jbJ jaD ja7 jby jbe jaM jaY jap jaK jal jam jax jao jaV jae jag jaf ja4 jaw jaI jaZ jaG jaS jan jaU jaE jar jaL jah jaB jaa jaz jaH jab ja2 z0_s jaq jai jaO jaA jat jau jav jaj jas jaJ jak jad jay jac jaN jbw jbv jcy Q (qnY jaN jbw jbv jcy Q n) ih C0 _ _ _ jbd ja9 l1 l2 l3 l4 hP hD hS (lv_sub hl [0, 1, 2, 3, 4] rfl) hw
      · have hw := hw.2 c15
        refine lv_iload_n hx hb (qaa qdH 15 rfl) rfl (lv_at hl 3 rfl) ?_
        refine lv_iconst (v := (-1)) hx hb (qaa qfF 0 rfl) (by decide) ?_
        refine lv_icmp_eq (tgt := 75) hx hb (qaa qfF 1 rfl) (by decide) (fun c16 => ?_) (fun c16 => ?_)
        · have hw := hw.1 c16
          exact qYV dC dI cyB cyI cyJ cyP a0 jaQ ja5 jbJ jaD ja7 jby jbe jaM jaY jap jaK jal jam jax jao jaV jae jag jaf ja4 jaw jaI jaZ jaG jaS jan jaU jaE jar jaL jah jaB jaa jaz jaH jab ja2 z0_s jaq jai jaO jaA jat jau jav jaj jas jaJ jak jad jay jac jaN jbw jbv jcy Q (qnY jaN jbw jbv jcy Q n) ih C0 _ _ _ jbd ja9 l1 l2 l4 hP hD hS (lv_sub hl [0, 1, 2, 4] rfl) hw
        · have hw := hw.2 c16
          refine lv_aload_n hx hb (qaa qfF 2 rfl) rfl (lv_at hl 0 rfl) ?_
          refine lv_iload_n hx hb (qaa qfF 3 rfl) rfl (lv_at hl 1 rfl) ?_
          refine lv_iload hx hb (qaa qfF 4 rfl) (lv_at hl 4 rfl) ?_
          obtain ⟨hCc, hPc, hDc, hFc⟩ := qac (ws' := (qalm a0 jbd jaQ jaD ja7 jby jbe jaM jaY jap jaK jal jam jax jao ja5 jaV jbJ jae jag jaf jaN ja4 jbw jaw jaI jaZ jaG jaS jan jaU jaE jar jaL jah jaB jaa jaz jaH jab ja2 z0_s jaq jai jaO jaA jat jau jav jaj jas jaJ jak jad jay jac ja5 cyI jbv)) hP hD hS hA [0, 2] (by decide +kernel) rfl
          refine va_calli (va_runV (As := [.int l1, .int l4]) (rest := []) ⟨hx, hb, hml, hown, hts⟩ (qvj l dC dI cyB cyI cyJ cyP a0 ja5 H.size (.int jbd) (.ref jaQ) (jaD) (ja7) (jby) (jbe) (jaM) (jaY) (jap) (jaK) (jal) (jam) (jax) (jao) (jaV) (.ref jbJ) (jae) (jag) (jaf) (.int jaN) (ja4) (.int jbw) (jaw) (jaI) (jaZ) (jaG) (jaS) (jan) (jaU) (jaE) (jar) (jaL) (jah) (jaB) (jaa) (jaz) (jaH) (jab) (ja2) (z0_s) (jaq) (jai) (jaO) (jaA) (jat) (jau) (jav) (jaj) (jas) (jaJ) (jak) (jad) (jay) (jac) jbv l1 l4 hw) (cwV 2 hts gX11_refuge_X11_farOf rfl rfl rfl (by decide +kernel) ⟨nbq rfl, nbq rfl⟩) ⟨qab, va_recv (q := (RX11, TX11, 55)) hK hPc (ci := 11) (q0 := 0) rfl rfl, qae hPc hK hDc hNw⟩ rfl rfl hl.1 rfl (lv_room (nbq rfl)) (qaa qfF 5 rfl) ⟨nbq rfl, nbq rfl⟩) hS (fun q _ h => hFc q h) hFc (fun r17 u t H1 locs ht hvm hw hB hz1 hk1 hS => ?_)
          obtain ⟨hP1, hK1, hD1⟩ := hB
          rw [ht] at hP1
          obtain ⟨hP, hD⟩ := qad (wr := (qaXl jaQ cyI ja9 jbJ cyI jcy)) (w1 := (qalm a0 jbd jaQ jaD ja7 jby jbe jaM jaY jap jaK jal jam jax jao ja5 jaV jbJ jae jag jaf jaN ja4 jbw jaw jaI jaZ jaG jaS jan jaU jaE jar jaL jah jaB jaa jaz jaH jab ja2 z0_s jaq jai jaO jaA jat jau jav jaj jas jaJ jak jad jay jac ja5 cyI jbv)) (wn := (qo2 a0 jbd jaQ jaD ja7 jby jbe jaM jaY jap jaK jal jam jax jao ja5 jaV jbJ jae jag jaf jaN ja4 jbw jaw jaI jaZ jaG jaS jan jaU jaE jar jaL jah jaB jaa jaz jaH jab ja2 z0_s jaq jai jaO jaA jat jau jav jaj jas jaJ jak jad jay jac jaQ cyI ja9 ja5 cyI jbv jbJ cyI jcy)) hP hD [0, 2] [1, 3] [2, 0, 3, 1] hCc rfl (by decide +kernel) (by decide +kernel) (by decide +kernel) rfl hk1 hFc hP1 hD1
          generalize H1 = H at hP hS ⊢
          refine lv_aload_n hx hb (qaa qfF 6 rfl) rfl (lv_at hl 0 rfl) ?_
          refine lv_iload_n hx hb (qaa qfF 7 rfl) rfl (lv_at hl 1 rfl) ?_
          refine lv_iload_n hx hb (qaa qfF 8 rfl) rfl (lv_at hl 3 rfl) ?_
          obtain ⟨hCc, hPc, hDc, hFc⟩ := qac (ws' := (qalm a0 jbd jaQ jaD ja7 jby jbe jaM jaY jap jaK jal jam jax jao ja5 jaV jbJ jae jag jaf jaN ja4 jbw jaw jaI jaZ jaG jaS jan jaU jaE jar jaL jah jaB jaa jaz jaH jab ja2 z0_s jaq jai jaO jaA jat jau jav jaj jas jaJ jak jad jay jac ja5 cyI jbv)) hP hD hS hA [0, 2] (by decide +kernel) rfl
          refine va_calli (va_runV (As := [.int l1, .int l3]) (rest := [.int r17]) ⟨hx, hb, hml, hown, hts⟩ (qvj l dC dI cyB cyI cyJ cyP a0 ja5 H.size (.int jbd) (.ref jaQ) (jaD) (ja7) (jby) (jbe) (jaM) (jaY) (jap) (jaK) (jal) (jam) (jax) (jao) (jaV) (.ref jbJ) (jae) (jag) (jaf) (.int jaN) (ja4) (.int jbw) (jaw) (jaI) (jaZ) (jaG) (jaS) (jan) (jaU) (jaE) (jar) (jaL) (jah) (jaB) (jaa) (jaz) (jaH) (jab) (ja2) (z0_s) (jaq) (jai) (jaO) (jaA) (jat) (jau) (jav) (jaj) (jas) (jaJ) (jak) (jad) (jay) (jac) jbv l1 l3 hw) (cwV 2 hts gX11_refuge_X11_farOf rfl rfl rfl (by decide +kernel) ⟨nbq rfl, nbq rfl⟩) ⟨qab, va_recv (q := (RX11, TX11, 55)) hK hPc (ci := 11) (q0 := 0) rfl rfl, qae hPc hK hDc hNw⟩ rfl rfl hl.1 rfl (lv_room (nbq rfl)) (qaa qfF 9 rfl) ⟨nbq rfl, nbq rfl⟩) hS (fun q _ h => hFc q h) hFc (fun r18 u t H1 locs ht hvm hw hB hz1 hk1 hS => ?_)
          obtain ⟨hP1, hK1, hD1⟩ := hB
          rw [ht] at hP1
          obtain ⟨hP, hD⟩ := qad (wr := (qaXl jaQ cyI ja9 jbJ cyI jcy)) (w1 := (qalm a0 jbd jaQ jaD ja7 jby jbe jaM jaY jap jaK jal jam jax jao ja5 jaV jbJ jae jag jaf jaN ja4 jbw jaw jaI jaZ jaG jaS jan jaU jaE jar jaL jah jaB jaa jaz jaH jab ja2 z0_s jaq jai jaO jaA jat jau jav jaj jas jaJ jak jad jay jac ja5 cyI jbv)) (wn := (qo2 a0 jbd jaQ jaD ja7 jby jbe jaM jaY jap jaK jal jam jax jao ja5 jaV jbJ jae jag jaf jaN ja4 jbw jaw jaI jaZ jaG jaS jan jaU jaE jar jaL jah jaB jaa jaz jaH jab ja2 z0_s jaq jai jaO jaA jat jau jav jaj jas jaJ jak jad jay jac jaQ cyI ja9 ja5 cyI jbv jbJ cyI jcy)) hP hD [0, 2] [1, 3] [2, 0, 3, 1] hCc rfl (by decide +kernel) (by decide +kernel) (by decide +kernel) rfl hk1 hFc hP1 hD1
          generalize H1 = H at hP hS ⊢
          refine lv_icmp_ge (tgt := 78) hx hb (qaa qfF 10 rfl) (by decide) (fun c19 => ?_) (fun c19 => ?_)
          · have hw := hw.1 c19
            exact qNa dC dI cyB cyI cyJ cyP a0 jaQ ja5 jbJ jaD ja7 jby jbe jaM jaY jap jaK jal jam jax jao jaV jae jag jaf ja4 jaw jaI jaZ jaG jaS jan jaU jaE jar jaL jah jaB jaa jaz jaH jab ja2 z0_s jaq jai jaO jaA jat jau jav jaj jas jaJ jak jad jay jac jaN jbw jbv jcy Q (qnY jaN jbw jbv jcy Q n) ih C0 _ _ _ jbd ja9 l1 l2 l3 l4 hP hD hS (lv_sub hl [0, 1, 2, 3, 4] rfl) hw
          · have hw := hw.2 c19
            exact qYV dC dI cyB cyI cyJ cyP a0 jaQ ja5 jbJ jaD ja7 jby jbe jaM jaY jap jaK jal jam jax jao jaV jae jag jaf ja4 jaw jaI jaZ jaG jaS jan jaU jaE jar jaL jah jaB jaa jaz jaH jab ja2 z0_s jaq jai jaO jaA jat jau jav jaj jas jaJ jak jad jay jac jaN jbw jbv jcy Q (qnY jaN jbw jbv jcy Q n) ih C0 _ _ _ jbd ja9 l1 l2 l4 hP hD hS (lv_sub hl [0, 1, 2, 4] rfl) hw
set_option maxHeartbeats 4000000 in
set_option maxRecDepth 100000 in
theorem qaN6 (l : Launch) (dC : Nat → ClassId) (dI : Nat → Nat → Nat) (cyB cyI cyJ cyP : ClassId) (a0 jaQ ja5 jbJ sz : Nat) (jaD ja7 jby jbe jaM jaY jap jaK jal jam jax jao jaV jae jag jaf ja4 jaw jaI jaZ jaG jaS jan jaU jaE jar jaL jah jaB jaa jaz jaH jab ja2 z0_s jaq jai jaO jaA jat jau jav jaj jas jaJ jak jad jay jac : Value) (jaN jbw : Int32) (jbv jcy : NI) (jbd : Int32) (ja9 : NI) (p1 p2 : Int32) {Q : Int32 → Int32 → NI → Prop} (hw : qXZ jaN jbw jbv jcy jbd ja9 p1 p2 Q) : Met l yX11_refuge wsX11_refuge ({ frames := 2, cells := 0, slots := 0, locals := 45 }) (va_Pc [.ref a0, .int p1, .int p2] (cPc (dC, dI) (kT cyB cyI cyJ cyP) (qo2 a0 jbd jaQ jaD ja7 jby jbe jaM jaY jap jaK jal jam jax jao ja5 jaV jbJ jae jag jaf jaN ja4 jbw jaw jaI jaZ jaG jaS jan jaU jaE jar jaL jah jaB jaa jaz jaH jab ja2 z0_s jaq jai jaO jaA jat jau jav jaj jas jaJ jak jad jay jac jaQ cyI ja9 ja5 cyI jbv jbJ cyI jcy) sz)) (va_Qi (fun (r : Int32) (u : Int32 × NI) => Q r u.1 u.2) (cB (dC, dI) (kT cyB cyI cyJ cyP) (va_A (qo2 a0 jbd jaQ jaD ja7 jby jbe jaM jaY jap jaK jal jam jax jao ja5 jaV jbJ jae jag jaf jaN ja4 jbw jaw jaI jaZ jaG jaS jan jaU jaE jar jaL jah jaB jaa jaz jaH jab ja2 z0_s jaq jai jaO jaA jat jau jav jaj jas jaJ jak jad jay jac jaQ cyI ja9 ja5 cyI jbv jbJ cyI jcy) sz) (fun u : Int32 × NI => ((qo2 a0 u.1 jaQ jaD ja7 jby jbe jaM jaY jap jaK jal jam jax jao ja5 jaV jbJ jae jag jaf jaN ja4 jbw jaw jaI jaZ jaG jaS jan jaU jaE jar jaL jah jaB jaa jaz jaH jab ja2 z0_s jaq jai jaO jaA jat jau jav jaj jas jaJ jak jad jay jac jaQ cyI u.2 ja5 cyI jbv jbJ cyI jcy) : va_W))) (va_A (qo2 a0 jbd jaQ jaD ja7 jby jbe jaM jaY jap jaK jal jam jax jao ja5 jaV jbJ jae jag jaf jaN ja4 jbw jaw jaI jaZ jaG jaS jan jaU jaE jar jaL jah jaB jaa jaz jaH jab ja2 z0_s jaq jai jaO jaA jat jau jav jaj jas jaJ jak jad jay jac jaQ cyI ja9 ja5 cyI jbv jbJ cyI jcy) sz)) 0 0 (va_A (qo2 a0 jbd jaQ jaD ja7 jby jbe jaM jaY jap jaK jal jam jax jao ja5 jaV jbJ jae jag jaf jaN ja4 jbw jaw jaI jaZ jaG jaS jan jaU jaE jar jaL jah jaB jaa jaz jaH jab ja2 z0_s jaq jai jaO jaA jat jau jav jaj jas jaJ jak jad jay jac jaQ cyI ja9 ja5 cyI jbv jbJ cyI jcy) sz) := by
  refine Met.ofW (cc := cX11_refuge) (maxL := 5) (ret := (some .int)) (by decide) rfl ?_
  intro p e s m args below meth c s₁ B hml hv
  obtain ⟨rfl, hsz, hP, hK, hD0, hNw⟩ := hv
  have hx := B.exec
  have hb := B.bytes
  have hr := B.returns
  have hts := atoms_spec (ws := wsX11_refuge) B.pre
  have hown : s.vm.findClass RX11 = some m.cls := findClass_of_methodNamed B.named
  have hlocks := B.notSynchronized
  subst hsz
  have hD := hD0.self (sz := s.heap.size)
  generalize hAe : va_A (qo2 a0 jbd jaQ jaD ja7 jby jbe jaM jaY jap jaK jal jam jax jao ja5 jaV jbJ jae jag jaf jaN ja4 jbw jaw jaI jaZ jaG jaS jan jaU jaE jar jaL jah jaB jaa jaz jaH jab ja2 z0_s jaq jai jaO jaA jat jau jav jaj jas jaJ jak jad jay jac jaQ cyI ja9 ja5 cyI jbv jbJ cyI jcy) s.heap.size = A at hD ⊢
  have hA : ∀ q : Nat, s.heap.size ≤ q → A q := fun q h => by rw [← hAe]; exact Or.inr h
  have hS : va_S A s.heap s.heap [] := va_S.rf
  have hP : va_P (dC, dI) vwCl (qo2 a0 jbd jaQ jaD ja7 jby jbe jaM jaY jap jaK jal jam jax jao ja5 jaV jbJ jae jag jaf jaN ja4 jbw jaw jaI jaZ jaG jaS jan jaU jaE jar jaL jah jaB jaa jaz jaH jab ja2 z0_s jaq jai jaO jaA jat jau jav jaj jas jaJ jak jad jay jac jaQ cyI ja9 ja5 cyI jbv jbJ cyI jcy) s.heap := hP
  have hl := lv_entry ([.ref a0, .int p1, .int p2]) (n := 5) (nbq rfl)
  rw [lg_entry_eq]
  generalize (lg_sl ([.ref a0, .int p1, .int p2]) ++ List.replicate (5 - (lg_sl ([.ref a0, .int p1, .int p2])).length) Slot.unset).toArray = ls at hl ⊢
  have hl : lv_has ls 5 [(0, .ref a0), (1, .int p1), (2, .int p2)] := hl
  have C0 : cfx p s m _ meth c cX11_refuge (some .int) wsX11_refuge RX11 5 A (dC, dI) (kT cyB cyI cyJ cyP) := ⟨hx, hb, hr, hts, hown, hlocks, hml, hA, hK, hNw⟩
  clear hAe
  obtain ⟨H, hH⟩ : ∃ H, H = s.heap := ⟨_, rfl⟩
  rw [← hH] at hP ⊢
  have hS : va_S A s.heap H [] := by rw [hH]; exact va_S.rf
  have hS := hS
  refine lv_aload_n hx hb (qaa qg3 0 rfl) rfl (lv_at hl 0 rfl) ?_
  refine lv_iconst (v := 0) hx hb (qaa qg3 1 rfl) (by decide) ?_
  refine va_put (D := (dC, dI)) (ci := 11) (v := .int 0) (ty := .int) (C := RX11) (T := TX11) (N := 55) hx hb hts qVX tyX11 tyX11_ok nmX11 hown hK hP hD hS 0 rfl rfl 0 (by decide) (hts _ qauW) (fun _ h9 => h9) rfl (by decide +kernel) rfl rfl (nbq rfl) (qaa qg3 2 rfl) (fun H locs hP hD hS => ?_)
  have hP : va_P (dC, dI) vwCl (qo2 a0 0 jaQ jaD ja7 jby jbe jaM jaY jap jaK jal jam jax jao ja5 jaV jbJ jae jag jaf jaN ja4 jbw jaw jaI jaZ jaG jaS jan jaU jaE jar jaL jah jaB jaa jaz jaH jab ja2 z0_s jaq jai jaO jaA jat jau jav jaj jas jaJ jak jad jay jac jaQ cyI ja9 ja5 cyI jbv jbJ cyI jcy) H := hP
  have hD : va_D A (qo2 a0 0 jaQ jaD ja7 jby jbe jaM jaY jap jaK jal jam jax jao ja5 jaV jbJ jae jag jaf jaN ja4 jbw jaw jaI jaZ jaG jaS jan jaU jaE jar jaL jah jaB jaa jaz jaH jab ja2 z0_s jaq jai jaO jaA jat jau jav jaj jas jaJ jak jad jay jac jaQ cyI ja9 ja5 cyI jbv jbJ cyI jcy) := hD
  refine lv_aload_n hx hb (qaa qg3 3 rfl) rfl (lv_at hl 0 rfl) ?_
  refine lv_iload_n hx hb (qaa qg3 4 rfl) rfl (lv_at hl 1 rfl) ?_
  refine lv_iconst (v := 1) hx hb (qaa qg3 5 rfl) (by decide) ?_
  obtain ⟨hCc, hPc, hDc, hFc⟩ := qac (ws' := (qaRp a0 0 jaQ jaD ja7 jby jbe jaM jaY jap jaK jal jam jax jao ja5 jaV jbJ jae jag jaf jaN ja4 jbw jaw jaI jaZ jaG jaS jan jaU jaE jar jaL jah jaB jaa jaz jaH jab ja2 z0_s jaq jai jaO jaA jat jau jav jaj jas jaJ jak jad jay jac jaQ cyI ja9)) hP hD hS hA [0, 1] (by decide +kernel) rfl
  refine va_calli (va_runV (As := [.int p1, .int 1]) (rest := []) ⟨hx, hb, hml, hown, hts⟩ (qDb l dC dI cyB cyI cyJ cyP a0 jaQ H.size (jaD) (ja7) (jby) (jbe) (jaM) (jaY) (jap) (jaK) (jal) (jam) (jax) (jao) (.ref ja5) (jaV) (.ref jbJ) (jae) (jag) (jaf) (ja4) (.int jbw) (jaw) (jaI) (jaZ) (jaG) (jaS) (jan) (jaU) (jaE) (jar) (jaL) (jah) (jaB) (jaa) (jaz) (jaH) (jab) (ja2) (z0_s) (jaq) (jai) (jaO) (jaA) (jat) (jau) (jav) (jaj) (jas) (jaJ) (jak) (jad) (jay) (jac) jaN 0 ja9 p1 1 hw) (cwV 2 hts gX11_refuge_X11_isForm rfl rfl rfl (by decide +kernel) ⟨nbq rfl, nbq rfl⟩) ⟨qab, va_recv (q := (RX11, TX11, 55)) hK hPc (ci := 11) (q0 := 0) rfl rfl, qae hPc hK hDc hNw⟩ rfl rfl hl.1 rfl (lv_room (nbq rfl)) (qaa qg3 6 rfl) ⟨nbq rfl, nbq rfl⟩) hS (fun q _ h => hFc q h) hFc (fun r3 u t H1 locs ht hvm hw hB hz1 hk1 hS => ?_)
  obtain ⟨x1, f2⟩ := u
  obtain ⟨hP1, hK1, hD1⟩ := hB
  rw [ht] at hP1
  obtain ⟨hP, hD⟩ := qad (wr := (qbaI ja5 cyI jbv jbJ cyI jcy)) (w1 := (qaRp a0 x1 jaQ jaD ja7 jby jbe jaM jaY jap jaK jal jam jax jao ja5 jaV jbJ jae jag jaf jaN ja4 jbw jaw jaI jaZ jaG jaS jan jaU jaE jar jaL jah jaB jaa jaz jaH jab ja2 z0_s jaq jai jaO jaA jat jau jav jaj jas jaJ jak jad jay jac jaQ cyI f2)) (wn := (qo2 a0 x1 jaQ jaD ja7 jby jbe jaM jaY jap jaK jal jam jax jao ja5 jaV jbJ jae jag jaf jaN ja4 jbw jaw jaI jaZ jaG jaS jan jaU jaE jar jaL jah jaB jaa jaz jaH jab ja2 z0_s jaq jai jaO jaA jat jau jav jaj jas jaJ jak jad jay jac jaQ cyI f2 ja5 cyI jbv jbJ cyI jcy)) hP hD [0, 1] [2, 3] [2, 3, 0, 1] hCc rfl (by decide +kernel) (by decide +kernel) (by decide +kernel) rfl hk1 hFc hP1 hD1
  generalize H1 = H at hP hS ⊢
  refine lv_if_eq (tgt := 29) hx hb (qaa qg3 7 rfl) (by decide) (fun c4 => ?_) (fun c4 => ?_)
  · have hw := hw.1 c4
    refine lv_iconst (v := 0) hx hb (qaa qdH 1 rfl) (by decide) ?_
    exact ((W.iret (v := 0) hx hb hr (fun t ht hW => ⟨⟨0, (x1, f2), rfl, hw, by rw [ht]; exact hP, va_K.moved hW.alike hK, hD⟩, hS.F ht⟩) hS.2.2 (qaa qdH 2 rfl)))
  · have hw := hw.2 c4
    refine lv_aload_n hx hb (qaa qg3 8 rfl) rfl (lv_at hl 0 rfl) ?_
    refine lv_iload_n hx hb (qaa qg3 9 rfl) rfl (lv_at hl 2 rfl) ?_
    refine lv_iconst (v := 0) hx hb (qaa qg3 10 rfl) (by decide) ?_
    refine lv_iconst (v := 1) hx hb (qaa qg3 11 rfl) (by decide) ?_
    obtain ⟨hCc, hPc, hDc, hFc⟩ := qac (ws' := []) hP hD hS hA [] (by decide +kernel) rfl
    refine va_calli (va_runS (As := [.int p2, .int 0, .int 1]) (rest := [.ref a0]) ⟨hx, hb, hml, hown, hts⟩ (qbG l dC dI cyB cyI cyJ cyP H.size p2 0 1 hw) (va_cwS 3 hts gX11_refuge_X11_within rfl rfl rfl (by decide +kernel) ⟨nbq rfl, nbq rfl⟩) ⟨qab, qae hPc hK hDc hNw⟩ rfl rfl hl.1 rfl (lv_room (nbq rfl)) (qaa qg3 12 rfl) ⟨nbq rfl, nbq rfl⟩) hS (fun q _ h => hFc q h) hFc (fun r5 u t H1 locs ht hvm hw hB hz1 hk1 hS => ?_)
    obtain ⟨hP1, hK1, hD1⟩ := hB
    rw [ht] at hP1
    obtain ⟨hP, hD⟩ := qah (wr := (qo2 a0 x1 jaQ jaD ja7 jby jbe jaM jaY jap jaK jal jam jax jao ja5 jaV jbJ jae jag jaf jaN ja4 jbw jaw jaI jaZ jaG jaS jan jaU jaE jar jaL jah jaB jaa jaz jaH jab ja2 z0_s jaq jai jaO jaA jat jau jav jaj jas jaJ jak jad jay jac jaQ cyI f2 ja5 cyI jbv jbJ cyI jcy)) (w1 := []) (wn := (qo2 a0 x1 jaQ jaD ja7 jby jbe jaM jaY jap jaK jal jam jax jao ja5 jaV jbJ jae jag jaf jaN ja4 jbw jaw jaI jaZ jaG jaS jan jaU jaE jar jaL jah jaB jaa jaz jaH jab ja2 z0_s jaq jai jaO jaA jat jau jav jaj jas jaJ jak jad jay jac jaQ cyI f2 ja5 cyI jbv jbJ cyI jcy)) hP hD [] [0, 1, 2, 3] hCc rfl (by decide +kernel) (by decide +kernel) rfl hk1 hFc hP1 hD1
    generalize H1 = H at hP hS ⊢
    refine lv_iconst (v := 2) hx hb (qaa qg3 13 rfl) (by decide) ?_
    refine lv_iconst (v := 1) hx hb (qaa qg3 14 rfl) (by decide) ?_
    obtain ⟨hCc, hPc, hDc, hFc⟩ := qac (ws' := (qaRp a0 x1 jaQ jaD ja7 jby jbe jaM jaY jap jaK jal jam jax jao ja5 jaV jbJ jae jag jaf jaN ja4 jbw jaw jaI jaZ jaG jaS jan jaU jaE jar jaL jah jaB jaa jaz jaH jab ja2 z0_s jaq jai jaO jaA jat jau jav jaj jas jaJ jak jad jay jac jaQ cyI f2)) hP hD hS hA [0, 1] (by decide +kernel) rfl
    refine va_calli (va_runV (As := [.int r5, .int 2, .int 1]) (rest := []) ⟨hx, hb, hml, hown, hts⟩ (qkE l dC dI cyB cyI cyJ cyP a0 jaQ H.size (jaD) (ja7) (jby) (jbe) (jaM) (jaY) (jap) (jaK) (jal) (jam) (jax) (jao) (.ref ja5) (jaV) (.ref jbJ) (jae) (jag) (jaf) (.int jaN) (ja4) (.int jbw) (jaw) (jaI) (jaZ) (jaG) (jaS) (jan) (jaU) (jaE) (jar) (jaL) (jah) (jaB) (jaa) (jaz) (jaH) (jab) (ja2) (z0_s) (jaq) (jai) (jaO) (jaA) (jat) (jau) (jav) (jaj) (jas) (jaJ) (jak) (jad) (jay) (jac) x1 f2 r5 2 1 hw) (cwV 3 hts gX11_refuge_X11_may rfl rfl rfl (by decide +kernel) ⟨nbq rfl, nbq rfl⟩) ⟨qab, va_recv (q := (RX11, TX11, 55)) hK hPc (ci := 11) (q0 := 0) rfl rfl, qae hPc hK hDc hNw⟩ rfl rfl hl.1 rfl (lv_room (nbq rfl)) (qaa qg3 15 rfl) ⟨nbq rfl, nbq rfl⟩) hS (fun q _ h => hFc q h) hFc (fun r8 u t H1 locs ht hvm hw hB hz1 hk1 hS => ?_)
    obtain ⟨x6, f7⟩ := u
    obtain ⟨hP1, hK1, hD1⟩ := hB
    rw [ht] at hP1
    obtain ⟨hP, hD⟩ := qad (wr := (qbaI ja5 cyI jbv jbJ cyI jcy)) (w1 := (qaRp a0 x6 jaQ jaD ja7 jby jbe jaM jaY jap jaK jal jam jax jao ja5 jaV jbJ jae jag jaf jaN ja4 jbw jaw jaI jaZ jaG jaS jan jaU jaE jar jaL jah jaB jaa jaz jaH jab ja2 z0_s jaq jai jaO jaA jat jau jav jaj jas jaJ jak jad jay jac jaQ cyI f7)) (wn := (qo2 a0 x6 jaQ jaD ja7 jby jbe jaM jaY jap jaK jal jam jax jao ja5 jaV jbJ jae jag jaf jaN ja4 jbw jaw jaI jaZ jaG jaS jan jaU jaE jar jaL jah jaB jaa jaz jaH jab ja2 z0_s jaq jai jaO jaA jat jau jav jaj jas jaJ jak jad jay jac jaQ cyI f7 ja5 cyI jbv jbJ cyI jcy)) hP hD [0, 1] [2, 3] [2, 3, 0, 1] hCc rfl (by decide +kernel) (by decide +kernel) (by decide +kernel) rfl hk1 hFc hP1 hD1
    generalize H1 = H at hP hS ⊢
    refine lv_if_ne (tgt := 31) hx hb (qaa qdH 0 rfl) (by decide) (fun c9 => ?_) (fun c9 => ?_)
    · have hw := hw.1 c9
      refine lv_iconst (v := (-1)) hx hb (qaa qdH 3 rfl) (by decide) ?_
      refine lv_istore_n (lv' := [(3, .int (-1)), (0, .ref a0), (1, .int p1), (2, .int p2)]) hx hb (qaa qdH 4 rfl) rfl hl (by decide) rfl (fun ls hl => ?_)
      refine lv_iconst (v := 0) hx hb (qaa qdH 5 rfl) (by decide) ?_
      refine lv_istore (lv' := [(4, .int 0), (3, .int (-1)), (0, .ref a0), (1, .int p1), (2, .int p2)]) hx hb (qaa qdH 6 rfl) hl (by decide) rfl (fun ls hl => ?_)
      obtain ⟨n9, hw⟩ := hw
      exact qas3 dC dI cyB cyI cyJ cyP a0 jaQ ja5 jbJ jaD ja7 jby jbe jaM jaY jap jaK jal jam jax jao jaV jae jag jaf ja4 jaw jaI jaZ jaG jaS jan jaU jaE jar jaL jah jaB jaa jaz jaH jab ja2 z0_s jaq jai jaO jaA jat jau jav jaj jas jaJ jak jad jay jac jaN jbw jbv jcy Q C0 n9 _ _ _ x6 f7 p1 p2 (-1) 0 hP hD hS (lv_sub hl [2, 3, 4, 1, 0] rfl) hw
    · have hw := hw.2 c9
      refine lv_iconst (v := 0) hx hb (qaa qdH 1 rfl) (by decide) ?_
      exact ((W.iret (v := 0) hx hb hr (fun t ht hW => ⟨⟨0, (x6, f7), rfl, hw, by rw [ht]; exact hP, va_K.moved hW.alike hK, hD⟩, hS.F ht⟩) hS.2.2 (qaa qdH 2 rfl)))
theorem qrZ : ∀ w ∈ u_ws RX11 TX11 55, w ∈ wsX11_restore := uiM qCY qfa (by decide +kernel)
theorem qvS : (.fieldLink RX11 188 "MarchHaresModel" "images" "I" : Cond) ∈ wsX11_restore := qCY 525 (by decide +kernel)
theorem qaao : (.fieldLink RX11 191 "MarchHaresModel" "refusedSteps" "I" : Cond) ∈ wsX11_restore := qCY 526 (by decide +kernel)
theorem qalp : (.fieldLink RX11 3 "MarchHaresModel" "thrown" "I" : Cond) ∈ wsX11_restore := qCY 589 (by decide +kernel)
set_option maxHeartbeats 4000000 in
set_option maxRecDepth 100000 in
theorem qaGC (l : Launch) (dC : Nat → ClassId) (dI : Nat → Nat → Nat) (cyB cyI cyJ cyP : ClassId) (a0 jlK jaT jeG sz : Nat) (jaF jaD ja7 jby jbe jaM jaY jap jaK jal jam jax jao ja6 jaV ja8 jae jag jaf ja0 ja4 jaP jaw jaI jaZ jaG jaS jan jaU jaE jar jaL jah jaz jaH jab z0_s jai jaO jaA jat jau jav jaj jas jaJ jak jad : Value) (jbd ji3 : Int32) (jb2 jm5 jlQ : NI) (jhQ jcn : Int32) {Q : Int32 → Int32 → Int32 → NI → NI → NI → Int32 → Int32 → Prop} (hw : qD4 jbd ji3 jb2 jm5 jlQ jhQ jcn Q) : Met l yX11_restore wsX11_restore ({ frames := 2, cells := 0, slots := 0, locals := 48 }) (va_Pc [.ref a0] (cPc (dC, dI) (kT cyB cyI cyJ cyP) (qDo a0 jbd jaF jaD ja7 jby jbe jaM jaY jap jaK jal jam jax jao ja6 jaV ja8 jae jag jaf ja0 ja4 jaP jaw jaI jaZ jaG jaS jan jaU jaE jar jaL jah jhQ jcn jaz jaH jab jaT z0_s jeG jai jaO jaA jat jau jav jaj jas jaJ jak jad jlK ji3 jlK cyI jm5 jaT cyI jb2 jeG cyI jlQ) sz)) (va_Qi (fun (r : Int32) (u : Int32 × Int32 × NI × NI × NI × Int32 × Int32) => Q r u.1 u.2.1 u.2.2.1 u.2.2.2.1 u.2.2.2.2.1 u.2.2.2.2.2.1 u.2.2.2.2.2.2) (cB (dC, dI) (kT cyB cyI cyJ cyP) (va_A (qDo a0 jbd jaF jaD ja7 jby jbe jaM jaY jap jaK jal jam jax jao ja6 jaV ja8 jae jag jaf ja0 ja4 jaP jaw jaI jaZ jaG jaS jan jaU jaE jar jaL jah jhQ jcn jaz jaH jab jaT z0_s jeG jai jaO jaA jat jau jav jaj jas jaJ jak jad jlK ji3 jlK cyI jm5 jaT cyI jb2 jeG cyI jlQ) sz) (fun u : Int32 × Int32 × NI × NI × NI × Int32 × Int32 => ((qDo a0 u.1 jaF jaD ja7 jby jbe jaM jaY jap jaK jal jam jax jao ja6 jaV ja8 jae jag jaf ja0 ja4 jaP jaw jaI jaZ jaG jaS jan jaU jaE jar jaL jah u.2.2.2.2.2.1 u.2.2.2.2.2.2 jaz jaH jab jaT z0_s jeG jai jaO jaA jat jau jav jaj jas jaJ jak jad jlK u.2.1 jlK cyI u.2.2.2.1 jaT cyI u.2.2.1 jeG cyI u.2.2.2.2.1) : va_W))) (va_A (qDo a0 jbd jaF jaD ja7 jby jbe jaM jaY jap jaK jal jam jax jao ja6 jaV ja8 jae jag jaf ja0 ja4 jaP jaw jaI jaZ jaG jaS jan jaU jaE jar jaL jah jhQ jcn jaz jaH jab jaT z0_s jeG jai jaO jaA jat jau jav jaj jas jaJ jak jad jlK ji3 jlK cyI jm5 jaT cyI jb2 jeG cyI jlQ) sz)) 0 0 (va_A (qDo a0 jbd jaF jaD ja7 jby jbe jaM jaY jap jaK jal jam jax jao ja6 jaV ja8 jae jag jaf ja0 ja4 jaP jaw jaI jaZ jaG jaS jan jaU jaE jar jaL jah jhQ jcn jaz jaH jab jaT z0_s jeG jai jaO jaA jat jau jav jaj jas jaJ jak jad jlK ji3 jlK cyI jm5 jaT cyI jb2 jeG cyI jlQ) sz) := by
  refine Met.ofW (cc := cX11_restore) (maxL := 1) (ret := (some .int)) (by decide) rfl ?_
  intro p e s m args below meth c s₁ B hml hv
  obtain ⟨rfl, hsz, hP, hK, hD0, hNw⟩ := hv
  have hx := B.exec
  have hb := B.bytes
  have hr := B.returns
  have hts := atoms_spec (ws := wsX11_restore) B.pre
  have hown : s.vm.findClass RX11 = some m.cls := findClass_of_methodNamed B.named
  have hlocks := B.notSynchronized
  subst hsz
  have hD := hD0.self (sz := s.heap.size)
  generalize hAe : va_A (qDo a0 jbd jaF jaD ja7 jby jbe jaM jaY jap jaK jal jam jax jao ja6 jaV ja8 jae jag jaf ja0 ja4 jaP jaw jaI jaZ jaG jaS jan jaU jaE jar jaL jah jhQ jcn jaz jaH jab jaT z0_s jeG jai jaO jaA jat jau jav jaj jas jaJ jak jad jlK ji3 jlK cyI jm5 jaT cyI jb2 jeG cyI jlQ) s.heap.size = A at hD ⊢
  have hA : ∀ q : Nat, s.heap.size ≤ q → A q := fun q h => by rw [← hAe]; exact Or.inr h
  have hS : va_S A s.heap s.heap [] := va_S.rf
  have hP : va_P (dC, dI) vwCl (qDo a0 jbd jaF jaD ja7 jby jbe jaM jaY jap jaK jal jam jax jao ja6 jaV ja8 jae jag jaf ja0 ja4 jaP jaw jaI jaZ jaG jaS jan jaU jaE jar jaL jah jhQ jcn jaz jaH jab jaT z0_s jeG jai jaO jaA jat jau jav jaj jas jaJ jak jad jlK ji3 jlK cyI jm5 jaT cyI jb2 jeG cyI jlQ) s.heap := hP
  have hl := lv_entry ([.ref a0]) (n := 1) (nbq rfl)
  rw [lg_entry_eq]
  generalize (lg_sl ([.ref a0]) ++ List.replicate (1 - (lg_sl ([.ref a0])).length) Slot.unset).toArray = ls at hl ⊢
  have hl : lv_has ls 1 [(0, .ref a0)] := hl
  have C0 : cfx p s m _ meth c cX11_restore (some .int) wsX11_restore RX11 1 A (dC, dI) (kT cyB cyI cyJ cyP) := ⟨hx, hb, hr, hts, hown, hlocks, hml, hA, hK, hNw⟩
  clear hAe
  obtain ⟨H, hH⟩ : ∃ H, H = s.heap := ⟨_, rfl⟩
  rw [← hH] at hP ⊢
  have hS : va_S A s.heap H [] := by rw [hH]; exact va_S.rf
  have hS := hS
  refine lv_aload_n hx hb (qaa qfW 0 rfl) rfl (lv_at hl 0 rfl) ?_
  refine lv_iconst (v := 0) hx hb (qaa qfW 1 rfl) (by decide) ?_
  refine va_put (D := (dC, dI)) (ci := 11) (v := .int 0) (ty := .int) (C := RX11) (T := TX11) (N := 55) hx hb hts qrZ tyX11 tyX11_ok nmX11 hown hK hP hD hS 0 rfl rfl 0 (by decide) (hts _ qalp) (fun _ h9 => h9) rfl (by decide +kernel) rfl rfl (nbq rfl) (qaa qfW 2 rfl) (fun H locs hP hD hS => ?_)
  have hP : va_P (dC, dI) vwCl (qDo a0 0 jaF jaD ja7 jby jbe jaM jaY jap jaK jal jam jax jao ja6 jaV ja8 jae jag jaf ja0 ja4 jaP jaw jaI jaZ jaG jaS jan jaU jaE jar jaL jah jhQ jcn jaz jaH jab jaT z0_s jeG jai jaO jaA jat jau jav jaj jas jaJ jak jad jlK ji3 jlK cyI jm5 jaT cyI jb2 jeG cyI jlQ) H := hP
  have hD : va_D A (qDo a0 0 jaF jaD ja7 jby jbe jaM jaY jap jaK jal jam jax jao ja6 jaV ja8 jae jag jaf ja0 ja4 jaP jaw jaI jaZ jaG jaS jan jaU jaE jar jaL jah jhQ jcn jaz jaH jab jaT z0_s jeG jai jaO jaA jat jau jav jaj jas jaJ jak jad jlK ji3 jlK cyI jm5 jaT cyI jb2 jeG cyI jlQ) := hD
  refine lv_aload_n hx hb (qaa qfW 3 rfl) rfl (lv_at hl 0 rfl) ?_
  refine va_get (D := (dC, dI)) (ci := 11) (v := .int ji3) (C := RX11) (T := TX11) (N := 55) hx hb hts qrZ hown hK hP 0 rfl rfl 54 (by decide) (hts _ qvS) (fun _ h9 => h9) rfl (qaa qfW 4 rfl) ?_
  refine lv_if_ne (tgt := 14) hx hb (qaa qfW 5 rfl) (by decide) (fun c1 => ?_) (fun c1 => ?_)
  · have hw := hw.1 c1
    refine lv_aload_n hx hb (qaa qfW 8 rfl) rfl (lv_at hl 0 rfl) ?_
    refine lv_dup hx hb (qaa qfW 9 rfl) rfl ?_
    refine va_get (D := (dC, dI)) (ci := 11) (v := .int ji3) (C := RX11) (T := TX11) (N := 55) hx hb hts qrZ hown hK hP 0 rfl rfl 54 (by decide) (hts _ qvS) (fun _ h9 => h9) rfl (qaa qfW 10 rfl) ?_
    refine lv_iconst (v := 1) hx hb (qaa qfW 11 rfl) (by decide) ?_
    refine lv_isub hx hb (qaa qfW 12 rfl) ?_
    refine lv_topi (fun x2 ex2 => ?_)
    have hw := hw x2 ex2
    refine va_put (D := (dC, dI)) (ci := 11) (v := .int x2) (ty := .int) (C := RX11) (T := TX11) (N := 55) hx hb hts qrZ tyX11 tyX11_ok nmX11 hown hK hP hD hS 0 rfl rfl 54 (by decide) (hts _ qvS) (fun _ h9 => h9) rfl (by decide +kernel) rfl rfl (nbq rfl) (qaa qfW 13 rfl) (fun H locs hP hD hS => ?_)
    have hP : va_P (dC, dI) vwCl (qDo a0 0 jaF jaD ja7 jby jbe jaM jaY jap jaK jal jam jax jao ja6 jaV ja8 jae jag jaf ja0 ja4 jaP jaw jaI jaZ jaG jaS jan jaU jaE jar jaL jah jhQ jcn jaz jaH jab jaT z0_s jeG jai jaO jaA jat jau jav jaj jas jaJ jak jad jlK x2 jlK cyI jm5 jaT cyI jb2 jeG cyI jlQ) H := hP
    have hD : va_D A (qDo a0 0 jaF jaD ja7 jby jbe jaM jaY jap jaK jal jam jax jao ja6 jaV ja8 jae jag jaf ja0 ja4 jaP jaw jaI jaZ jaG jaS jan jaU jaE jar jaL jah jhQ jcn jaz jaH jab jaT z0_s jeG jai jaO jaA jat jau jav jaj jas jaJ jak jad jlK x2 jlK cyI jm5 jaT cyI jb2 jeG cyI jlQ) := hD
    refine lv_aload_n hx hb (qaa qfW 14 rfl) rfl (lv_at hl 0 rfl) ?_
    refine lv_aload_n hx hb (qaa qfW 15 rfl) rfl (lv_at hl 0 rfl) ?_
    refine va_get (D := (dC, dI)) (ci := 11) (v := .int x2) (C := RX11) (T := TX11) (N := 55) hx hb hts qrZ hown hK hP 0 rfl rfl 54 (by decide) (hts _ qvS) (fun _ h9 => h9) rfl (qaa qpI 0 rfl) ?_
    refine lv_iconst (v := 0) hx hb (qaa qpI 1 rfl) (by decide) ?_
    obtain ⟨hCc, hPc, hDc, hFc⟩ := qac (ws' := (qDo a0 0 jaF jaD ja7 jby jbe jaM jaY jap jaK jal jam jax jao ja6 jaV ja8 jae jag jaf ja0 ja4 jaP jaw jaI jaZ jaG jaS jan jaU jaE jar jaL jah jhQ jcn jaz jaH jab jaT z0_s jeG jai jaO jaA jat jau jav jaj jas jaJ jak jad jlK x2 jlK cyI jm5 jaT cyI jb2 jeG cyI jlQ)) hP hD hS hA [0, 1, 2, 3] (by decide +kernel) rfl
    refine va_callv (va_runV (As := [.int x2, .int 0]) (rest := []) ⟨hx, hb, hml, hown, hts⟩ (q0D l dC dI cyB cyI cyJ cyP a0 jaT jlK jeG H.size (.int 0) (jaF) (jaD) (ja7) (jby) (jbe) (jaM) (jaY) (jap) (jaK) (jal) (jam) (jax) (jao) (ja6) (jaV) (ja8) (jae) (jag) (jaf) (ja0) (ja4) (jaP) (jaw) (jaI) (jaZ) (jaG) (jaS) (jan) (jaU) (jaE) (jar) (jaL) (jah) (.int jcn) (jaz) (jaH) (jab) (z0_s) (jai) (jaO) (jaA) (jat) (jau) (jav) (jaj) (jas) (jaJ) (jak) (jad) (.int x2) jb2 jm5 jlQ jhQ x2 0 hw) (cwV 2 hts gX11_restore_X11_keepsAll rfl rfl rfl (by decide +kernel) ⟨nbq rfl, nbq rfl⟩) ⟨qab, va_recv (q := (RX11, TX11, 55)) hK hPc (ci := 11) (q0 := 0) rfl rfl, qae hPc hK hDc hNw⟩ rfl rfl hl.1 rfl (lv_room (nbq rfl)) (qaa qpI 2 rfl) ⟨nbq rfl, nbq rfl⟩) hS (fun q _ h => hFc q h) hFc (fun u t H1 locs ht hvm hw hB hz1 hk1 hS => ?_)
    obtain ⟨f3, f4, f5, x6⟩ := u
    obtain ⟨hP1, hK1, hD1⟩ := hB
    rw [ht] at hP1
    obtain ⟨hP, hD⟩ := qah (wr := []) (w1 := (qDo a0 0 jaF jaD ja7 jby jbe jaM jaY jap jaK jal jam jax jao ja6 jaV ja8 jae jag jaf ja0 ja4 jaP jaw jaI jaZ jaG jaS jan jaU jaE jar jaL jah x6 jcn jaz jaH jab jaT z0_s jeG jai jaO jaA jat jau jav jaj jas jaJ jak jad jlK x2 jlK cyI f4 jaT cyI f3 jeG cyI f5)) (wn := (qDo a0 0 jaF jaD ja7 jby jbe jaM jaY jap jaK jal jam jax jao ja6 jaV ja8 jae jag jaf ja0 ja4 jaP jaw jaI jaZ jaG jaS jan jaU jaE jar jaL jah x6 jcn jaz jaH jab jaT z0_s jeG jai jaO jaA jat jau jav jaj jas jaJ jak jad jlK x2 jlK cyI f4 jaT cyI f3 jeG cyI f5)) hP hD [0, 1, 2, 3] [] hCc rfl (by decide +kernel) (by decide +kernel) rfl hk1 hFc hP1 hD1
    generalize H1 = H at hP hS ⊢
    refine lv_aload_n hx hb (qaa qpI 3 rfl) rfl (lv_at hl 0 rfl) ?_
    refine lv_iconst (v := 0) hx hb (qaa qpI 4 rfl) (by decide) ?_
    refine va_put (D := (dC, dI)) (ci := 11) (v := .int 0) (ty := .int) (C := RX11) (T := TX11) (N := 55) hx hb hts qrZ tyX11 tyX11_ok nmX11 hown hK hP hD hS 0 rfl rfl 35 (by decide) (hts _ qaao) (fun _ h9 => h9) rfl (by decide +kernel) rfl rfl (nbq rfl) (qaa qpI 5 rfl) (fun H locs hP hD hS => ?_)
    have hP : va_P (dC, dI) vwCl (qDo a0 0 jaF jaD ja7 jby jbe jaM jaY jap jaK jal jam jax jao ja6 jaV ja8 jae jag jaf ja0 ja4 jaP jaw jaI jaZ jaG jaS jan jaU jaE jar jaL jah x6 0 jaz jaH jab jaT z0_s jeG jai jaO jaA jat jau jav jaj jas jaJ jak jad jlK x2 jlK cyI f4 jaT cyI f3 jeG cyI f5) H := hP
    have hD : va_D A (qDo a0 0 jaF jaD ja7 jby jbe jaM jaY jap jaK jal jam jax jao ja6 jaV ja8 jae jag jaf ja0 ja4 jaP jaw jaI jaZ jaG jaS jan jaU jaE jar jaL jah x6 0 jaz jaH jab jaT z0_s jeG jai jaO jaA jat jau jav jaj jas jaJ jak jad jlK x2 jlK cyI f4 jaT cyI f3 jeG cyI f5) := hD
    refine lv_aload_n hx hb (qaa qpI 6 rfl) rfl (lv_at hl 0 rfl) ?_
    refine va_get (D := (dC, dI)) (ci := 11) (v := .int x2) (C := RX11) (T := TX11) (N := 55) hx hb hts qrZ hown hK hP 0 rfl rfl 54 (by decide) (hts _ qvS) (fun _ h9 => h9) rfl (qaa qpI 7 rfl) ?_
    exact ((W.iret (v := x2) hx hb hr (fun t ht hW => ⟨⟨x2, (0, x2, f3, f4, f5, x6, 0), rfl, hw, by rw [ht]; exact hP, va_K.moved hW.alike hK, hD⟩, hS.F ht⟩) hS.2.2 (qaa qpI 8 rfl)))
  · have hw := hw.2 c1
    refine lv_iconst (v := (-1)) hx hb (qaa qfW 6 rfl) (by decide) ?_
    exact ((W.iret (v := (-1)) hx hb hr (fun t ht hW => ⟨⟨(-1), (0, ji3, jb2, jm5, jlQ, jhQ, jcn), rfl, hw, by rw [ht]; exact hP, va_K.moved hW.alike hK, hD⟩, hS.F ht⟩) hS.2.2 (qaa qfW 7 rfl)))
theorem qQS : ∀ w ∈ u_ws RX11 TX11 55, w ∈ wsX11_ring := uiM qOt qfa (by decide +kernel)
theorem qauC : (.fieldLink RX11 166 "MarchHaresModel" "forms" "I" : Cond) ∈ wsX11_ring := qOt 519 (by decide +kernel)
theorem qaE8 : (.fieldLink RX11 3 "MarchHaresModel" "thrown" "I" : Cond) ∈ wsX11_ring := qOt 589 (by decide +kernel)
theorem qaDF : (.fieldLink RX11 92 "MarchHaresModel" "leastOn" "[I" : Cond) ∈ wsX11_ring := qOt 464 (by decide +kernel)
set_option maxHeartbeats 4000000 in
set_option maxRecDepth 100000 in
theorem qaY5 (l : Launch) (dC : Nat → ClassId) (dI : Nat → Nat → Nat) (cyB cyI cyJ cyP : ClassId) (a0 ja5 jiy sz : Nat) (jaF jaD ja7 jby jbe jaM jaY jap jaK jal jam jax jao jaV ja8 jae jag jaf ja4 jaP jaw jaI jaZ jaG jaS jan jaU jaE jar jaL jah jaB jaa jaz jaH jab ja2 z0_s jaq jai jaO jaA jat jau jav jas jaJ jak jad jay jac : Value) (jaN : Int32) (jbv : NI) (jbd : Int32) (jjv : NI) {Q : Int32 → Int32 → NI → Prop} (hw : q82 jaN jbv jbd jjv Q) : Met l yX11_ring wsX11_ring ({ frames := 3, cells := 0, slots := 0, locals := 67 }) (va_Pc [.ref a0] (cPc (dC, dI) (kT cyB cyI cyJ cyP) (qM0 a0 jbd jaF jaD ja7 jby jbe jaM jaY jap jaK jal jam jax jao ja5 jaV ja8 jae jag jaf jaN ja4 jaP jaw jaI jaZ jaG jaS jan jaU jaE jar jaL jah jaB jaa jaz jaH jab ja2 z0_s jaq jai jaO jaA jat jau jav jiy jas jaJ jak jad jay jac ja5 cyI jbv jiy cyI jjv) sz)) (va_Qi (fun (r : Int32) (u : Int32 × NI) => Q r u.1 u.2) (cB (dC, dI) (kT cyB cyI cyJ cyP) (va_A (qM0 a0 jbd jaF jaD ja7 jby jbe jaM jaY jap jaK jal jam jax jao ja5 jaV ja8 jae jag jaf jaN ja4 jaP jaw jaI jaZ jaG jaS jan jaU jaE jar jaL jah jaB jaa jaz jaH jab ja2 z0_s jaq jai jaO jaA jat jau jav jiy jas jaJ jak jad jay jac ja5 cyI jbv jiy cyI jjv) sz) (fun u : Int32 × NI => ((qM0 a0 u.1 jaF jaD ja7 jby jbe jaM jaY jap jaK jal jam jax jao ja5 jaV ja8 jae jag jaf jaN ja4 jaP jaw jaI jaZ jaG jaS jan jaU jaE jar jaL jah jaB jaa jaz jaH jab ja2 z0_s jaq jai jaO jaA jat jau jav jiy jas jaJ jak jad jay jac ja5 cyI jbv jiy cyI u.2) : va_W))) (va_A (qM0 a0 jbd jaF jaD ja7 jby jbe jaM jaY jap jaK jal jam jax jao ja5 jaV ja8 jae jag jaf jaN ja4 jaP jaw jaI jaZ jaG jaS jan jaU jaE jar jaL jah jaB jaa jaz jaH jab ja2 z0_s jaq jai jaO jaA jat jau jav jiy jas jaJ jak jad jay jac ja5 cyI jbv jiy cyI jjv) sz)) 0 0 (va_A (qM0 a0 jbd jaF jaD ja7 jby jbe jaM jaY jap jaK jal jam jax jao ja5 jaV ja8 jae jag jaf jaN ja4 jaP jaw jaI jaZ jaG jaS jan jaU jaE jar jaL jah jaB jaa jaz jaH jab ja2 z0_s jaq jai jaO jaA jat jau jav jiy jas jaJ jak jad jay jac ja5 cyI jbv jiy cyI jjv) sz) := by
  refine Met.ofW (cc := cX11_ring) (maxL := 1) (ret := (some .int)) (by decide) rfl ?_
  intro p e s m args below meth c s₁ B hml hv
  obtain ⟨rfl, hsz, hP, hK, hD0, hNw⟩ := hv
  have hx := B.exec
  have hb := B.bytes
  have hr := B.returns
  have hts := atoms_spec (ws := wsX11_ring) B.pre
  have hown : s.vm.findClass RX11 = some m.cls := findClass_of_methodNamed B.named
  have hlocks := B.notSynchronized
  subst hsz
  have hD := hD0.self (sz := s.heap.size)
  generalize hAe : va_A (qM0 a0 jbd jaF jaD ja7 jby jbe jaM jaY jap jaK jal jam jax jao ja5 jaV ja8 jae jag jaf jaN ja4 jaP jaw jaI jaZ jaG jaS jan jaU jaE jar jaL jah jaB jaa jaz jaH jab ja2 z0_s jaq jai jaO jaA jat jau jav jiy jas jaJ jak jad jay jac ja5 cyI jbv jiy cyI jjv) s.heap.size = A at hD ⊢
  have hA : ∀ q : Nat, s.heap.size ≤ q → A q := fun q h => by rw [← hAe]; exact Or.inr h
  have hS : va_S A s.heap s.heap [] := va_S.rf
  have hP : va_P (dC, dI) vwCl (qM0 a0 jbd jaF jaD ja7 jby jbe jaM jaY jap jaK jal jam jax jao ja5 jaV ja8 jae jag jaf jaN ja4 jaP jaw jaI jaZ jaG jaS jan jaU jaE jar jaL jah jaB jaa jaz jaH jab ja2 z0_s jaq jai jaO jaA jat jau jav jiy jas jaJ jak jad jay jac ja5 cyI jbv jiy cyI jjv) s.heap := hP
  have hl := lv_entry ([.ref a0]) (n := 1) (nbq rfl)
  rw [lg_entry_eq]
  generalize (lg_sl ([.ref a0]) ++ List.replicate (1 - (lg_sl ([.ref a0])).length) Slot.unset).toArray = ls at hl ⊢
  have hl : lv_has ls 1 [(0, .ref a0)] := hl
  have C0 : cfx p s m _ meth c cX11_ring (some .int) wsX11_ring RX11 1 A (dC, dI) (kT cyB cyI cyJ cyP) := ⟨hx, hb, hr, hts, hown, hlocks, hml, hA, hK, hNw⟩
  clear hAe
  obtain ⟨H, hH⟩ : ∃ H, H = s.heap := ⟨_, rfl⟩
  rw [← hH] at hP ⊢
  have hS : va_S A s.heap H [] := by rw [hH]; exact va_S.rf
  have hS := hS
  refine lv_aload_n hx hb (qaa qlL 0 rfl) rfl (lv_at hl 0 rfl) ?_
  refine lv_iconst (v := 0) hx hb (qaa qlL 1 rfl) (by decide) ?_
  refine va_put (D := (dC, dI)) (ci := 11) (v := .int 0) (ty := .int) (C := RX11) (T := TX11) (N := 55) hx hb hts qQS tyX11 tyX11_ok nmX11 hown hK hP hD hS 0 rfl rfl 0 (by decide) (hts _ qaE8) (fun _ h9 => h9) rfl (by decide +kernel) rfl rfl (nbq rfl) (qaa qlL 2 rfl) (fun H locs hP hD hS => ?_)
  have hP : va_P (dC, dI) vwCl (qM0 a0 0 jaF jaD ja7 jby jbe jaM jaY jap jaK jal jam jax jao ja5 jaV ja8 jae jag jaf jaN ja4 jaP jaw jaI jaZ jaG jaS jan jaU jaE jar jaL jah jaB jaa jaz jaH jab ja2 z0_s jaq jai jaO jaA jat jau jav jiy jas jaJ jak jad jay jac ja5 cyI jbv jiy cyI jjv) H := hP
  have hD : va_D A (qM0 a0 0 jaF jaD ja7 jby jbe jaM jaY jap jaK jal jam jax jao ja5 jaV ja8 jae jag jaf jaN ja4 jaP jaw jaI jaZ jaG jaS jan jaU jaE jar jaL jah jaB jaa jaz jaH jab ja2 z0_s jaq jai jaO jaA jat jau jav jiy jas jaJ jak jad jay jac ja5 cyI jbv jiy cyI jjv) := hD
  refine lv_aload_n hx hb (qaa qlL 3 rfl) rfl (lv_at hl 0 rfl) ?_
  refine va_get (D := (dC, dI)) (ci := 11) (v := .int jaN) (C := RX11) (T := TX11) (N := 55) hx hb hts qQS hown hK hP 0 rfl rfl 20 (by decide) (hts _ qauC) (fun _ h9 => h9) rfl (qaa qlL 4 rfl) ?_
  refine lv_iconst (v := 2) hx hb (qaa qlL 5 rfl) (by decide) ?_
  refine lv_icmp_ge (tgt := 15) hx hb (qaa qlL 6 rfl) (by decide) (fun c1 => ?_) (fun c1 => ?_)
  · have hw := hw.1 c1
    refine lv_aload_n hx hb (qaa qlL 9 rfl) rfl (lv_at hl 0 rfl) ?_
    obtain ⟨hCc, hPc, hDc, hFc⟩ := qac (ws' := (qM0 a0 0 jaF jaD ja7 jby jbe jaM jaY jap jaK jal jam jax jao ja5 jaV ja8 jae jag jaf jaN ja4 jaP jaw jaI jaZ jaG jaS jan jaU jaE jar jaL jah jaB jaa jaz jaH jab ja2 z0_s jaq jai jaO jaA jat jau jav jiy jas jaJ jak jad jay jac ja5 cyI jbv jiy cyI jjv)) hP hD hS hA [0, 1, 2] (by decide +kernel) rfl
    refine va_callv (va_runV (As := []) (rest := []) ⟨hx, hb, hml, hown, hts⟩ (q7e l dC dI cyB cyI cyJ cyP a0 ja5 jiy H.size (.int 0) (jaF) (jaD) (ja7) (jby) (jbe) (jaM) (jaY) (jap) (jaK) (jal) (jam) (jax) (jao) (jaV) (ja8) (jae) (jag) (jaf) (ja4) (jaP) (jaw) (jaI) (jaZ) (jaG) (jaS) (jan) (jaU) (jaE) (jar) (jaL) (jah) (jaB) (jaa) (jaz) (jaH) (jab) (ja2) (z0_s) (jaq) (jai) (jaO) (jaA) (jat) (jau) (jav) (jas) (jaJ) (jak) (jad) (jay) (jac) jaN jbv jjv hw) (cwV 0 hts gX11_ring_X11_layRing rfl rfl rfl (by decide +kernel) ⟨nbq rfl, nbq rfl⟩) ⟨qab, va_recv (q := (RX11, TX11, 55)) hK hPc (ci := 11) (q0 := 0) rfl rfl, qae hPc hK hDc hNw⟩ rfl rfl hl.1 rfl (lv_room (nbq rfl)) (qaa qlL 10 rfl) ⟨nbq rfl, nbq rfl⟩) hS (fun q _ h => hFc q h) hFc (fun u t H1 locs ht hvm hw hB hz1 hk1 hS => ?_)
    obtain ⟨f2, rfl⟩ : ∃ z, z = u := ⟨_, rfl⟩
    obtain ⟨hP1, hK1, hD1⟩ := hB
    rw [ht] at hP1
    obtain ⟨hP, hD⟩ := qah (wr := []) (w1 := (qM0 a0 0 jaF jaD ja7 jby jbe jaM jaY jap jaK jal jam jax jao ja5 jaV ja8 jae jag jaf jaN ja4 jaP jaw jaI jaZ jaG jaS jan jaU jaE jar jaL jah jaB jaa jaz jaH jab ja2 z0_s jaq jai jaO jaA jat jau jav jiy jas jaJ jak jad jay jac ja5 cyI jbv jiy cyI f2)) (wn := (qM0 a0 0 jaF jaD ja7 jby jbe jaM jaY jap jaK jal jam jax jao ja5 jaV ja8 jae jag jaf jaN ja4 jaP jaw jaI jaZ jaG jaS jan jaU jaE jar jaL jah jaB jaa jaz jaH jab ja2 z0_s jaq jai jaO jaA jat jau jav jiy jas jaJ jak jad jay jac ja5 cyI jbv jiy cyI f2)) hP hD [0, 1, 2] [] hCc rfl (by decide +kernel) (by decide +kernel) rfl hk1 hFc hP1 hD1
    generalize H1 = H at hP hS ⊢
    refine lv_aload_n hx hb (qaa qlL 11 rfl) rfl (lv_at hl 0 rfl) ?_
    refine va_get (D := (dC, dI)) (ci := 11) (v := .ref jiy) (C := RX11) (T := TX11) (N := 55) hx hb hts qQS hown hK hP 0 rfl rfl 48 (by decide) (hts _ qaDF) (fun _ h9 => h9) rfl (qaa qlL 12 rfl) ?_
    refine lv_iconst (v := 1) hx hb (qaa qlL 13 rfl) (by decide) ?_
    refine va_iald hx hb hK hP 2 1 rfl rfl (vin (by decide)) (qaa qlL 14 rfl) ?_
    refine lv_topi (fun x3 ex3 => ?_)
    have hw := hw x3 ex3
    exact ((W.iret (v := x3) hx hb hr (fun t ht hW => ⟨⟨x3, (0, f2), rfl, hw, by rw [ht]; exact hP, va_K.moved hW.alike hK, hD⟩, hS.F ht⟩) hS.2.2 (qaa qlL 15 rfl)))
  · have hw := hw.2 c1
    refine lv_iconst (v := 0) hx hb (qaa qlL 7 rfl) (by decide) ?_
    exact ((W.iret (v := 0) hx hb hr (fun t ht hW => ⟨⟨0, (0, jjv), rfl, hw, by rw [ht]; exact hP, va_K.moved hW.alike hK, hD⟩, hS.F ht⟩) hS.2.2 (qaa qlL 8 rfl)))
theorem qC8 : ∀ w ∈ u_ws RX11 TX11 55, w ∈ wsX11_ringed := uiM qvp qfa (by decide +kernel)
theorem qaib : (.fieldLink RX11 166 "MarchHaresModel" "forms" "I" : Cond) ∈ wsX11_ringed := qvp 519 (by decide +kernel)
theorem qao4 : (.fieldLink RX11 3 "MarchHaresModel" "thrown" "I" : Cond) ∈ wsX11_ringed := qvp 589 (by decide +kernel)
theorem qVs : (.fieldLink RX11 92 "MarchHaresModel" "leastOn" "[I" : Cond) ∈ wsX11_ringed := qvp 464 (by decide +kernel)
set_option maxHeartbeats 4000000 in
set_option maxRecDepth 100000 in
theorem qV5 {p : Program} {l : Launch} {e : Env} {s : State} {m : MethodId} {args : Array Value} {below : List Frame} {meth : Method} {c : Code} {A : Nat → Prop} (dC : Nat → ClassId) (dI : Nat → Nat → Nat) (cyB cyI cyJ cyP : ClassId) (a0 jaQ ja5 jiy : Nat) (jaD ja7 jby jbe jaM jaY jap jaK jal jam jax jao jaV ja8 jae jag jaf ja4 jaP jaw jaI jaZ jaG jaS jan jaU jaE jar jaL jah jaB jaa jaz jaH jab ja2 z0_s jaq jai jaO jaA jat jau jav jas jaJ jak jad jay jac : Value) (jaN : Int32) (jbv : NI) (Q : Int32 → Int32 → NI → NI → Prop) (K46 : Int32 → NI → NI → Int32 → Int32 → Int32 → Int32 → Prop) (K55 : Int32 → NI → NI → Int32 → Int32 → Int32 → Int32 → Int32 → Prop) (hK46 : ∀ (H : Heap) (locs : List Loc) (ls : Array Slot) (jbd : Int32) (ja9 jjv : NI) (l1 l2 l3 l4 : Int32), va_P (dC, dI) vwCl (qp5 a0 jbd jaQ jaD ja7 jby jbe jaM jaY jap jaK jal jam jax jao ja5 jaV ja8 jae jag jaf jaN ja4 jaP jaw jaI jaZ jaG jaS jan jaU jaE jar jaL jah jaB jaa jaz jaH jab ja2 z0_s jaq jai jaO jaA jat jau jav jiy jas jaJ jak jad jay jac jaQ cyI ja9 ja5 cyI jbv jiy cyI jjv) H → va_D A (qp5 a0 jbd jaQ jaD ja7 jby jbe jaM jaY jap jaK jal jam jax jao ja5 jaV ja8 jae jag jaf jaN ja4 jaP jaw jaI jaZ jaG jaS jan jaU jaE jar jaL jah jaB jaa jaz jaH jab ja2 z0_s jaq jai jaO jaA jat jau jav jiy jas jaJ jak jad jay jac jaQ cyI ja9 ja5 cyI jbv jiy cyI jjv) → va_S A s.heap H locs → lv_has ls 6 [(0, .ref a0), (1, .int l1), (2, .int l2), (3, .int l3), (4, .int l4)] → K46 jbd ja9 jjv l1 l2 l3 l4 → W p l e (headSpec wsX11_ringed ({ frames := 3, cells := 0, slots := 0, locals := 67 })).room s m args below meth c H locs 0 0 (MQ below (va_Qi (fun (r : Int32) (u : Int32 × NI × NI) => Q r u.1 u.2.1 u.2.2) (cB (dC, dI) (kT cyB cyI cyJ cyP) A (fun u : Int32 × NI × NI => ((qp5 a0 u.1 jaQ jaD ja7 jby jbe jaM jaY jap jaK jal jam jax jao ja5 jaV ja8 jae jag jaf jaN ja4 jaP jaw jaI jaZ jaG jaS jan jaU jaE jar jaL jah jaB jaa jaz jaH jab ja2 z0_s jaq jai jaO jaA jat jau jav jiy jas jaJ jak jad jay jac jaQ cyI u.2.1 ja5 cyI jbv jiy cyI u.2.2) : va_W))) A) args s 0 0 A) (F0 m 46 ls [])) (hK55 : ∀ (H : Heap) (locs : List Loc) (ls : Array Slot) (jbd : Int32) (ja9 jjv : NI) (l1 l2 l3 l4 l5 : Int32), va_P (dC, dI) vwCl (qp5 a0 jbd jaQ jaD ja7 jby jbe jaM jaY jap jaK jal jam jax jao ja5 jaV ja8 jae jag jaf jaN ja4 jaP jaw jaI jaZ jaG jaS jan jaU jaE jar jaL jah jaB jaa jaz jaH jab ja2 z0_s jaq jai jaO jaA jat jau jav jiy jas jaJ jak jad jay jac jaQ cyI ja9 ja5 cyI jbv jiy cyI jjv) H → va_D A (qp5 a0 jbd jaQ jaD ja7 jby jbe jaM jaY jap jaK jal jam jax jao ja5 jaV ja8 jae jag jaf jaN ja4 jaP jaw jaI jaZ jaG jaS jan jaU jaE jar jaL jah jaB jaa jaz jaH jab ja2 z0_s jaq jai jaO jaA jat jau jav jiy jas jaJ jak jad jay jac jaQ cyI ja9 ja5 cyI jbv jiy cyI jjv) → va_S A s.heap H locs → lv_has ls 6 [(0, .ref a0), (1, .int l1), (2, .int l2), (3, .int l3), (4, .int l4), (5, .int l5)] → K55 jbd ja9 jjv l1 l2 l3 l4 l5 → W p l e (headSpec wsX11_ringed ({ frames := 3, cells := 0, slots := 0, locals := 67 })).room s m args below meth c H locs 0 0 (MQ below (va_Qi (fun (r : Int32) (u : Int32 × NI × NI) => Q r u.1 u.2.1 u.2.2) (cB (dC, dI) (kT cyB cyI cyJ cyP) A (fun u : Int32 × NI × NI => ((qp5 a0 u.1 jaQ jaD ja7 jby jbe jaM jaY jap jaK jal jam jax jao ja5 jaV ja8 jae jag jaf jaN ja4 jaP jaw jaI jaZ jaG jaS jan jaU jaE jar jaL jah jaB jaa jaz jaH jab ja2 z0_s jaq jai jaO jaA jat jau jav jiy jas jaJ jak jad jay jac jaQ cyI u.2.1 ja5 cyI jbv jiy cyI u.2.2) : va_W))) A) args s 0 0 A) (F0 m 55 ls [])) (C0 : cfx p s m args meth c cX11_ringed (some .int) wsX11_ringed RX11 6 A (dC, dI) (kT cyB cyI cyJ cyP)) : ∀ (H : Heap) (locs : List Loc) (ls : Array Slot) (jbd : Int32) (ja9 jjv : NI) (l1 l2 l3 l4 l5 : Int32), va_P (dC, dI) vwCl (qp5 a0 jbd jaQ jaD ja7 jby jbe jaM jaY jap jaK jal jam jax jao ja5 jaV ja8 jae jag jaf jaN ja4 jaP jaw jaI jaZ jaG jaS jan jaU jaE jar jaL jah jaB jaa jaz jaH jab ja2 z0_s jaq jai jaO jaA jat jau jav jiy jas jaJ jak jad jay jac jaQ cyI ja9 ja5 cyI jbv jiy cyI jjv) H → va_D A (qp5 a0 jbd jaQ jaD ja7 jby jbe jaM jaY jap jaK jal jam jax jao ja5 jaV ja8 jae jag jaf jaN ja4 jaP jaw jaI jaZ jaG jaS jan jaU jaE jar jaL jah jaB jaa jaz jaH jab ja2 z0_s jaq jai jaO jaA jat jau jav jiy jas jaJ jak jad jay jac jaQ cyI ja9 ja5 cyI jbv jiy cyI jjv) → va_S A s.heap H locs → lv_has ls 6 [(0, .ref a0), (1, .int l1), (2, .int l2), (3, .int l3), (4, .int l4), (5, .int l5)] → qJX jaN jbv Q K46 K55 jbd ja9 jjv l1 l2 l3 l4 l5 → W p l e (headSpec wsX11_ringed ({ frames := 3, cells := 0, slots := 0, locals := 67 })).room s m args below meth c H locs 0 0 (MQ below (va_Qi (fun (r : Int32) (u : Int32 × NI × NI) => Q r u.1 u.2.1 u.2.2) (cB (dC, dI) (kT cyB cyI cyJ cyP) A (fun u : Int32 × NI × NI => ((qp5 a0 u.1 jaQ jaD ja7 jby jbe jaM jaY jap jaK jal jam jax jao ja5 jaV ja8 jae jag jaf jaN ja4 jaP jaw jaI jaZ jaG jaS jan jaU jaE jar jaL jah jaB jaa jaz jaH jab ja2 z0_s jaq jai jaO jaA jat jau jav jiy jas jaJ jak jad jay jac jaQ cyI u.2.1 ja5 cyI jbv jiy cyI u.2.2) : va_W))) A) args s 0 0 A) (F0 m 104 ls []) := by
  obtain ⟨hx, hb, hr, hts, hown, hlocks, hml, hA, hK, hNw⟩ := id C0
  intro H locs ls jbd ja9 jjv l1 l2 l3 l4 l5 hP hD hS hl hw
  obtain ⟨x21, ex21⟩ : ∃ y : Int32, y = l5 + 1 := ⟨_, rfl⟩
  have hw := hw x21 ex21
  refine lv_iinc (v := x21) (lv' := [(5, .int x21), (0, .ref a0), (1, .int l1), (2, .int l2), (3, .int l3), (4, .int l4)]) hx hb (qaa qf5 3 rfl) hl (k := 5) rfl (by rw [ex21]; rfl) (by decide) rfl (fun ls hl => ?_)
  refine lv_goto (tgt := 55) hx hb (qaa qf5 4 rfl) (by decide) ?_
  exact hK55 _ _ _ jbd ja9 jjv l1 l2 l3 l4 x21 hP hD hS (lv_sub hl [1, 2, 3, 4, 5, 0] rfl) hw
set_option maxHeartbeats 4000000 in
set_option maxRecDepth 100000 in
theorem qapT {p : Program} {l : Launch} {e : Env} {s : State} {m : MethodId} {args : Array Value} {below : List Frame} {meth : Method} {c : Code} {A : Nat → Prop} (dC : Nat → ClassId) (dI : Nat → Nat → Nat) (cyB cyI cyJ cyP : ClassId) (a0 jaQ ja5 jiy : Nat) (jaD ja7 jby jbe jaM jaY jap jaK jal jam jax jao jaV ja8 jae jag jaf ja4 jaP jaw jaI jaZ jaG jaS jan jaU jaE jar jaL jah jaB jaa jaz jaH jab ja2 z0_s jaq jai jaO jaA jat jau jav jas jaJ jak jad jay jac : Value) (jaN : Int32) (jbv : NI) (Q : Int32 → Int32 → NI → NI → Prop) (K46 : Int32 → NI → NI → Int32 → Int32 → Int32 → Int32 → Prop) (hK46 : ∀ (H : Heap) (locs : List Loc) (ls : Array Slot) (jbd : Int32) (ja9 jjv : NI) (l1 l2 l3 l4 : Int32), va_P (dC, dI) vwCl (qp5 a0 jbd jaQ jaD ja7 jby jbe jaM jaY jap jaK jal jam jax jao ja5 jaV ja8 jae jag jaf jaN ja4 jaP jaw jaI jaZ jaG jaS jan jaU jaE jar jaL jah jaB jaa jaz jaH jab ja2 z0_s jaq jai jaO jaA jat jau jav jiy jas jaJ jak jad jay jac jaQ cyI ja9 ja5 cyI jbv jiy cyI jjv) H → va_D A (qp5 a0 jbd jaQ jaD ja7 jby jbe jaM jaY jap jaK jal jam jax jao ja5 jaV ja8 jae jag jaf jaN ja4 jaP jaw jaI jaZ jaG jaS jan jaU jaE jar jaL jah jaB jaa jaz jaH jab ja2 z0_s jaq jai jaO jaA jat jau jav jiy jas jaJ jak jad jay jac jaQ cyI ja9 ja5 cyI jbv jiy cyI jjv) → va_S A s.heap H locs → lv_has ls 6 [(0, .ref a0), (1, .int l1), (2, .int l2), (3, .int l3), (4, .int l4)] → K46 jbd ja9 jjv l1 l2 l3 l4 → W p l e (headSpec wsX11_ringed ({ frames := 3, cells := 0, slots := 0, locals := 67 })).room s m args below meth c H locs 0 0 (MQ below (va_Qi (fun (r : Int32) (u : Int32 × NI × NI) => Q r u.1 u.2.1 u.2.2) (cB (dC, dI) (kT cyB cyI cyJ cyP) A (fun u : Int32 × NI × NI => ((qp5 a0 u.1 jaQ jaD ja7 jby jbe jaM jaY jap jaK jal jam jax jao ja5 jaV ja8 jae jag jaf jaN ja4 jaP jaw jaI jaZ jaG jaS jan jaU jaE jar jaL jah jaB jaa jaz jaH jab ja2 z0_s jaq jai jaO jaA jat jau jav jiy jas jaJ jak jad jay jac jaQ cyI u.2.1 ja5 cyI jbv jiy cyI u.2.2) : va_W))) A) args s 0 0 A) (F0 m 46 ls [])) (C0 : cfx p s m args meth c cX11_ringed (some .int) wsX11_ringed RX11 6 A (dC, dI) (kT cyB cyI cyJ cyP)) : ∀ (n : Nat) (H : Heap) (locs : List Loc) (ls : Array Slot) (jbd : Int32) (ja9 jjv : NI) (l1 l2 l3 l4 l5 : Int32), va_P (dC, dI) vwCl (qp5 a0 jbd jaQ jaD ja7 jby jbe jaM jaY jap jaK jal jam jax jao ja5 jaV ja8 jae jag jaf jaN ja4 jaP jaw jaI jaZ jaG jaS jan jaU jaE jar jaL jah jaB jaa jaz jaH jab ja2 z0_s jaq jai jaO jaA jat jau jav jiy jas jaJ jak jad jay jac jaQ cyI ja9 ja5 cyI jbv jiy cyI jjv) H → va_D A (qp5 a0 jbd jaQ jaD ja7 jby jbe jaM jaY jap jaK jal jam jax jao ja5 jaV ja8 jae jag jaf jaN ja4 jaP jaw jaI jaZ jaG jaS jan jaU jaE jar jaL jah jaB jaa jaz jaH jab ja2 z0_s jaq jai jaO jaA jat jau jav jiy jas jaJ jak jad jay jac jaQ cyI ja9 ja5 cyI jbv jiy cyI jjv) → va_S A s.heap H locs → lv_has ls 6 [(0, .ref a0), (1, .int l1), (2, .int l2), (3, .int l3), (4, .int l4), (5, .int l5)] → qst jaN jbv Q K46 n jbd ja9 jjv l1 l2 l3 l4 l5 → W p l e (headSpec wsX11_ringed ({ frames := 3, cells := 0, slots := 0, locals := 67 })).room s m args below meth c H locs 0 0 (MQ below (va_Qi (fun (r : Int32) (u : Int32 × NI × NI) => Q r u.1 u.2.1 u.2.2) (cB (dC, dI) (kT cyB cyI cyJ cyP) A (fun u : Int32 × NI × NI => ((qp5 a0 u.1 jaQ jaD ja7 jby jbe jaM jaY jap jaK jal jam jax jao ja5 jaV ja8 jae jag jaf jaN ja4 jaP jaw jaI jaZ jaG jaS jan jaU jaE jar jaL jah jaB jaa jaz jaH jab ja2 z0_s jaq jai jaO jaA jat jau jav jiy jas jaJ jak jad jay jac jaQ cyI u.2.1 ja5 cyI jbv jiy cyI u.2.2) : va_W))) A) args s 0 0 A) (F0 m 55 ls []) := by
  obtain ⟨hx, hb, hr, hts, hown, hlocks, hml, hA, hK, hNw⟩ := id C0
  intro n
  induction n with
  | zero => intro H locs ls jbd ja9 jjv l1 l2 l3 l4 l5 hP hD hS hl hw; exact False.elim hw
  | succ n ih =>
    intro H locs ls jbd ja9 jjv l1 l2 l3 l4 l5 hP hD hS hl hw
    refine lv_iload_n hx hb (qaa qfm 2 rfl) rfl (lv_at hl 2 rfl) ?_
    refine lv_iload hx hb (qaa qfm 3 rfl) (lv_at hl 5 rfl) ?_
    refine lv_ishr hx hb (qaa qfm 4 rfl) ?_
    refine lv_iconst (v := 1) hx hb (qaa qfm 5 rfl) (by decide) ?_
    refine lv_iand hx hb (qaa qfm 6 rfl) ?_
    refine lv_iconst (v := 1) hx hb (qaa qfm 7 rfl) (by decide) ?_
    refine lv_icmp_eq (tgt := 104) hx hb (qaa qfm 8 rfl) (by decide) (fun c9 => ?_) (fun c9 => ?_)
    · have hw := hw.1 c9
      exact qV5 dC dI cyB cyI cyJ cyP a0 jaQ ja5 jiy jaD ja7 jby jbe jaM jaY jap jaK jal jam jax jao jaV ja8 jae jag jaf ja4 jaP jaw jaI jaZ jaG jaS jan jaU jaE jar jaL jah jaB jaa jaz jaH jab ja2 z0_s jaq jai jaO jaA jat jau jav jas jaJ jak jad jay jac jaN jbv Q K46 (qst jaN jbv Q K46 n) hK46 ih C0 _ _ _ jbd ja9 jjv l1 l2 l3 l4 l5 hP hD hS (lv_sub hl [0, 1, 2, 3, 4, 5] rfl) hw
    · have hw := hw.2 c9
      refine lv_aload_n hx hb (qaa qfm 9 rfl) rfl (lv_at hl 0 rfl) ?_
      refine lv_iload_n hx hb (qaa qfm 10 rfl) rfl (lv_at hl 3 rfl) ?_
      refine lv_iload hx hb (qaa qfm 11 rfl) (lv_at hl 5 rfl) ?_
      obtain ⟨hCc, hPc, hDc, hFc⟩ := qac (ws' := (qa32 a0 jbd jaQ jaD ja7 jby jbe jaM jaY jap jaK jal jam jax jao ja5 jaV ja8 jae jag jaf jaN ja4 jaP jaw jaI jaZ jaG jaS jan jaU jaE jar jaL jah jaB jaa jaz jaH jab ja2 z0_s jaq jai jaO jaA jat jau jav jiy jas jaJ jak jad jay jac ja5 cyI jbv)) hP hD hS hA [0, 2] (by decide +kernel) rfl
      refine va_calli (va_runV (As := [.int l3, .int l5]) (rest := []) ⟨hx, hb, hml, hown, hts⟩ (qvj l dC dI cyB cyI cyJ cyP a0 ja5 H.size (.int jbd) (.ref jaQ) (jaD) (ja7) (jby) (jbe) (jaM) (jaY) (jap) (jaK) (jal) (jam) (jax) (jao) (jaV) (ja8) (jae) (jag) (jaf) (.int jaN) (ja4) (jaP) (jaw) (jaI) (jaZ) (jaG) (jaS) (jan) (jaU) (jaE) (jar) (jaL) (jah) (jaB) (jaa) (jaz) (jaH) (jab) (ja2) (z0_s) (jaq) (jai) (jaO) (jaA) (jat) (jau) (jav) (.ref jiy) (jas) (jaJ) (jak) (jad) (jay) (jac) jbv l3 l5 hw) (cwV 2 hts gX11_ringed_X11_farOf rfl rfl rfl (by decide +kernel) ⟨nbq rfl, nbq rfl⟩) ⟨qab, va_recv (q := (RX11, TX11, 55)) hK hPc (ci := 11) (q0 := 0) rfl rfl, qae hPc hK hDc hNw⟩ rfl rfl hl.1 rfl (lv_room (nbq rfl)) (qaa qfm 12 rfl) ⟨nbq rfl, nbq rfl⟩) hS (fun q _ h => hFc q h) hFc (fun r10 u t H1 locs ht hvm hw hB hz1 hk1 hS => ?_)
      obtain ⟨hP1, hK1, hD1⟩ := hB
      rw [ht] at hP1
      obtain ⟨hP, hD⟩ := qad (wr := [(jaQ, .inl (cyI, 2, .inl ja9)), (jiy, .inl (cyI, 2048, .inl jjv))]) (w1 := (qa32 a0 jbd jaQ jaD ja7 jby jbe jaM jaY jap jaK jal jam jax jao ja5 jaV ja8 jae jag jaf jaN ja4 jaP jaw jaI jaZ jaG jaS jan jaU jaE jar jaL jah jaB jaa jaz jaH jab ja2 z0_s jaq jai jaO jaA jat jau jav jiy jas jaJ jak jad jay jac ja5 cyI jbv)) (wn := (qp5 a0 jbd jaQ jaD ja7 jby jbe jaM jaY jap jaK jal jam jax jao ja5 jaV ja8 jae jag jaf jaN ja4 jaP jaw jaI jaZ jaG jaS jan jaU jaE jar jaL jah jaB jaa jaz jaH jab ja2 z0_s jaq jai jaO jaA jat jau jav jiy jas jaJ jak jad jay jac jaQ cyI ja9 ja5 cyI jbv jiy cyI jjv)) hP hD [0, 2] [1, 3] [2, 0, 3, 1] hCc rfl (by decide +kernel) (by decide +kernel) (by decide +kernel) rfl hk1 hFc hP1 hD1
      generalize H1 = H at hP hS ⊢
      refine lv_aload_n hx hb (qaa qfm 13 rfl) rfl (lv_at hl 0 rfl) ?_
      refine va_get (D := (dC, dI)) (ci := 11) (v := .ref jiy) (C := RX11) (T := TX11) (N := 55) hx hb hts qC8 hown hK hP 0 rfl rfl 48 (by decide) (hts _ qVs) (fun _ h9 => h9) rfl (qaa qfm 14 rfl) ?_
      refine lv_iload hx hb (qaa qfm 15 rfl) (lv_at hl 5 rfl) ?_
      refine lv_bipush (v := 8) hx hb (qaa qfE 0 rfl) (by decide) ?_
      refine lv_ishl hx hb (qaa qfE 1 rfl) ?_
      refine lv_topi (fun x11 ex11 => ?_)
      have hw := hw x11 ex11
      refine lv_iload_n hx hb (qaa qfE 2 rfl) rfl (lv_at hl 2 rfl) ?_
      refine lv_ior hx hb (qaa qfE 3 rfl) ?_
      refine lv_topi (fun x12 ex12 => ?_)
      have hw := hw x12 ex12
      refine lv_iconst (v := 1) hx hb (qaa qfE 4 rfl) (by decide) ?_
      refine lv_iload hx hb (qaa qfE 5 rfl) (lv_at hl 5 rfl) ?_
      refine lv_ishl hx hb (qaa qfE 6 rfl) ?_
      refine lv_ior hx hb (qaa qfE 7 rfl) ?_
      refine lv_topi (fun x13 ex13 => ?_)
      have hw := hw x13 ex13
      obtain ⟨hi9, hw⟩ := hw
      refine va_iald hx hb hK hP 3 1 rfl rfl hi9 (qaa qfE 8 rfl) ?_
      refine lv_topi (fun x14 ex14 => ?_)
      have hw := hw x14 ex14
      refine lv_iadd hx hb (qaa qfE 9 rfl) ?_
      refine lv_aload_n hx hb (qaa qfE 10 rfl) rfl (lv_at hl 0 rfl) ?_
      refine va_get (D := (dC, dI)) (ci := 11) (v := .ref jiy) (C := RX11) (T := TX11) (N := 55) hx hb hts qC8 hown hK hP 0 rfl rfl 48 (by decide) (hts _ qVs) (fun _ h9 => h9) rfl (qaa qfE 11 rfl) ?_
      refine lv_iload_n hx hb (qaa qfE 12 rfl) rfl (lv_at hl 3 rfl) ?_
      refine lv_bipush (v := 8) hx hb (qaa qfE 13 rfl) (by decide) ?_
      refine lv_ishl hx hb (qaa qfE 14 rfl) ?_
      refine lv_topi (fun x15 ex15 => ?_)
      have hw := hw x15 ex15
      refine lv_iload_n hx hb (qaa qfE 15 rfl) rfl (lv_at hl 2 rfl) ?_
      refine lv_ior hx hb (qaa qf5 0 rfl) ?_
      refine lv_topi (fun x16 ex16 => ?_)
      have hw := hw x16 ex16
      obtain ⟨hi9, hw⟩ := hw
      refine va_iald hx hb hK hP 3 1 rfl rfl hi9 (qaa qf5 1 rfl) ?_
      refine lv_topi (fun x17 ex17 => ?_)
      have hw := hw x17 ex17
      refine lv_icmp_eq (tgt := 110) hx hb (qaa qf5 2 rfl) (by decide) (fun c18 => ?_) (fun c18 => ?_)
      · have hw := hw.1 c18
        refine lv_iload hx hb (qaa qf5 5 rfl) (lv_at hl 5 rfl) ?_
        refine lv_istore_n (lv' := [(3, .int l5), (0, .ref a0), (1, .int l1), (2, .int l2), (4, .int l4), (5, .int l5)]) hx hb (qaa qf5 6 rfl) rfl hl (by decide) rfl (fun ls hl => ?_)
        refine lv_iload_n hx hb (qaa qf5 7 rfl) rfl (lv_at hl 3 rfl) ?_
        refine lv_iconst (v := 1) hx hb (qaa qf5 8 rfl) (by decide) ?_
        refine lv_iload hx hb (qaa qf5 9 rfl) (lv_at hl 5 rfl) ?_
        refine lv_ishl hx hb (qaa qf5 10 rfl) ?_
        refine lv_ior hx hb (qaa qf5 11 rfl) ?_
        refine lv_topi (fun x19 ex19 => ?_)
        have hw := hw x19 ex19
        refine lv_istore_n (lv' := [(2, .int x19), (3, .int l5), (0, .ref a0), (1, .int l1), (4, .int l4), (5, .int l5)]) hx hb (qaa qf5 12 rfl) rfl hl (by decide) rfl (fun ls hl => ?_)
        obtain ⟨x20, ex20⟩ : ∃ y : Int32, y = l4 + 1 := ⟨_, rfl⟩
        have hw := hw x20 ex20
        refine lv_iinc (v := x20) (lv' := [(4, .int x20), (2, .int x19), (3, .int l5), (0, .ref a0), (1, .int l1), (5, .int l5)]) hx hb (qaa qf5 13 rfl) hl (k := 4) rfl (by rw [ex20]; rfl) (by decide) rfl (fun ls hl => ?_)
        refine lv_goto (tgt := 46) hx hb (qaa qf5 14 rfl) (by decide) ?_
        exact hK46 _ _ _ jbd ja9 jjv l1 x19 l5 x20 hP hD hS (lv_sub hl [3, 4, 1, 2, 0] rfl) hw
      · have hw := hw.2 c18
        exact qV5 dC dI cyB cyI cyJ cyP a0 jaQ ja5 jiy jaD ja7 jby jbe jaM jaY jap jaK jal jam jax jao jaV ja8 jae jag jaf ja4 jaP jaw jaI jaZ jaG jaS jan jaU jaE jar jaL jah jaB jaa jaz jaH jab ja2 z0_s jaq jai jaO jaA jat jau jav jas jaJ jak jad jay jac jaN jbv Q K46 (qst jaN jbv Q K46 n) hK46 ih C0 _ _ _ jbd ja9 jjv l1 l2 l3 l4 l5 hP hD hS (lv_sub hl [0, 1, 2, 3, 4, 5] rfl) hw
set_option maxHeartbeats 4000000 in
set_option maxRecDepth 100000 in
theorem qapC {p : Program} {l : Launch} {e : Env} {s : State} {m : MethodId} {args : Array Value} {below : List Frame} {meth : Method} {c : Code} {A : Nat → Prop} (dC : Nat → ClassId) (dI : Nat → Nat → Nat) (cyB cyI cyJ cyP : ClassId) (a0 jaQ ja5 jiy : Nat) (jaD ja7 jby jbe jaM jaY jap jaK jal jam jax jao jaV ja8 jae jag jaf ja4 jaP jaw jaI jaZ jaG jaS jan jaU jaE jar jaL jah jaB jaa jaz jaH jab ja2 z0_s jaq jai jaO jaA jat jau jav jas jaJ jak jad jay jac : Value) (jaN : Int32) (jbv : NI) (Q : Int32 → Int32 → NI → NI → Prop) (C0 : cfx p s m args meth c cX11_ringed (some .int) wsX11_ringed RX11 6 A (dC, dI) (kT cyB cyI cyJ cyP)) : ∀ (n : Nat) (H : Heap) (locs : List Loc) (ls : Array Slot) (jbd : Int32) (ja9 jjv : NI) (l1 l2 l3 l4 : Int32), va_P (dC, dI) vwCl (qp5 a0 jbd jaQ jaD ja7 jby jbe jaM jaY jap jaK jal jam jax jao ja5 jaV ja8 jae jag jaf jaN ja4 jaP jaw jaI jaZ jaG jaS jan jaU jaE jar jaL jah jaB jaa jaz jaH jab ja2 z0_s jaq jai jaO jaA jat jau jav jiy jas jaJ jak jad jay jac jaQ cyI ja9 ja5 cyI jbv jiy cyI jjv) H → va_D A (qp5 a0 jbd jaQ jaD ja7 jby jbe jaM jaY jap jaK jal jam jax jao ja5 jaV ja8 jae jag jaf jaN ja4 jaP jaw jaI jaZ jaG jaS jan jaU jaE jar jaL jah jaB jaa jaz jaH jab ja2 z0_s jaq jai jaO jaA jat jau jav jiy jas jaJ jak jad jay jac jaQ cyI ja9 ja5 cyI jbv jiy cyI jjv) → va_S A s.heap H locs → lv_has ls 6 [(0, .ref a0), (1, .int l1), (2, .int l2), (3, .int l3), (4, .int l4)] → qAe jaN jbv Q n jbd ja9 jjv l1 l2 l3 l4 → W p l e (headSpec wsX11_ringed ({ frames := 3, cells := 0, slots := 0, locals := 67 })).room s m args below meth c H locs 0 0 (MQ below (va_Qi (fun (r : Int32) (u : Int32 × NI × NI) => Q r u.1 u.2.1 u.2.2) (cB (dC, dI) (kT cyB cyI cyJ cyP) A (fun u : Int32 × NI × NI => ((qp5 a0 u.1 jaQ jaD ja7 jby jbe jaM jaY jap jaK jal jam jax jao ja5 jaV ja8 jae jag jaf jaN ja4 jaP jaw jaI jaZ jaG jaS jan jaU jaE jar jaL jah jaB jaa jaz jaH jab ja2 z0_s jaq jai jaO jaA jat jau jav jiy jas jaJ jak jad jay jac jaQ cyI u.2.1 ja5 cyI jbv jiy cyI u.2.2) : va_W))) A) args s 0 0 A) (F0 m 46 ls []) := by
  obtain ⟨hx, hb, hr, hts, hown, hlocks, hml, hA, hK, hNw⟩ := id C0
  intro n
  induction n with
  | zero => intro H locs ls jbd ja9 jjv l1 l2 l3 l4 hP hD hS hl hw; exact False.elim hw
  | succ n ih =>
    intro H locs ls jbd ja9 jjv l1 l2 l3 l4 hP hD hS hl hw
    refine lv_iload hx hb (qaa qfX 13 rfl) (lv_at hl 4 rfl) ?_
    refine lv_iload_n hx hb (qaa qfX 14 rfl) rfl (lv_at hl 1 rfl) ?_
    refine lv_icmp_ge (tgt := 126) hx hb (qaa qfX 15 rfl) (by decide) (fun c8 => ?_) (fun c8 => ?_)
    · have hw := hw.1 c8
      refine lv_iload_n hx hb (qaa qf5 15 rfl) rfl (lv_at hl 3 rfl) ?_
      exact ((W.iret (v := l3) hx hb hr (fun t ht hW => ⟨⟨l3, (jbd, ja9, jjv), rfl, hw, by rw [ht]; exact hP, va_K.moved hW.alike hK, hD⟩, hS.F ht⟩) hS.2.2 (qaa qanb 0 rfl)))
    · have hw := hw.2 c8
      refine lv_iconst (v := 0) hx hb (qaa qfm 0 rfl) (by decide) ?_
      refine lv_istore (lv' := [(5, .int 0), (0, .ref a0), (1, .int l1), (2, .int l2), (3, .int l3), (4, .int l4)]) hx hb (qaa qfm 1 rfl) hl (by decide) rfl (fun ls hl => ?_)
      obtain ⟨n9, hw⟩ := hw
      exact qapT dC dI cyB cyI cyJ cyP a0 jaQ ja5 jiy jaD ja7 jby jbe jaM jaY jap jaK jal jam jax jao jaV ja8 jae jag jaf ja4 jaP jaw jaI jaZ jaG jaS jan jaU jaE jar jaL jah jaB jaa jaz jaH jab ja2 z0_s jaq jai jaO jaA jat jau jav jas jaJ jak jad jay jac jaN jbv Q (qAe jaN jbv Q n) ih C0 n9 _ _ _ jbd ja9 jjv l1 l2 l3 l4 0 hP hD hS (lv_sub hl [1, 2, 3, 4, 5, 0] rfl) hw
set_option maxHeartbeats 4000000 in
set_option maxRecDepth 100000 in
theorem qY8 {p : Program} {l : Launch} {e : Env} {s : State} {m : MethodId} {args : Array Value} {below : List Frame} {meth : Method} {c : Code} {A : Nat → Prop} (dC : Nat → ClassId) (dI : Nat → Nat → Nat) (cyB cyI cyJ cyP : ClassId) (a0 jaQ ja5 jiy : Nat) (jaD ja7 jby jbe jaM jaY jap jaK jal jam jax jao jaV ja8 jae jag jaf ja4 jaP jaw jaI jaZ jaG jaS jan jaU jaE jar jaL jah jaB jaa jaz jaH jab ja2 z0_s jaq jai jaO jaA jat jau jav jas jaJ jak jad jay jac : Value) (jaN : Int32) (jbv : NI) (Q : Int32 → Int32 → NI → NI → Prop) (C0 : cfx p s m args meth c cX11_ringed (some .int) wsX11_ringed RX11 6 A (dC, dI) (kT cyB cyI cyJ cyP)) : ∀ (H : Heap) (locs : List Loc) (ls : Array Slot) (jbd : Int32) (ja9 jjv : NI) (l1 s1 : Int32), va_P (dC, dI) vwCl (qp5 a0 jbd jaQ jaD ja7 jby jbe jaM jaY jap jaK jal jam jax jao ja5 jaV ja8 jae jag jaf jaN ja4 jaP jaw jaI jaZ jaG jaS jan jaU jaE jar jaL jah jaB jaa jaz jaH jab ja2 z0_s jaq jai jaO jaA jat jau jav jiy jas jaJ jak jad jay jac jaQ cyI ja9 ja5 cyI jbv jiy cyI jjv) H → va_D A (qp5 a0 jbd jaQ jaD ja7 jby jbe jaM jaY jap jaK jal jam jax jao ja5 jaV ja8 jae jag jaf jaN ja4 jaP jaw jaI jaZ jaG jaS jan jaU jaE jar jaL jah jaB jaa jaz jaH jab ja2 z0_s jaq jai jaO jaA jat jau jav jiy jas jaJ jak jad jay jac jaQ cyI ja9 ja5 cyI jbv jiy cyI jjv) → va_S A s.heap H locs → lv_has ls 6 [(0, .ref a0), (1, .int l1)] → qE2 jaN jbv Q jbd ja9 jjv l1 s1 → W p l e (headSpec wsX11_ringed ({ frames := 3, cells := 0, slots := 0, locals := 67 })).room s m args below meth c H locs 0 0 (MQ below (va_Qi (fun (r : Int32) (u : Int32 × NI × NI) => Q r u.1 u.2.1 u.2.2) (cB (dC, dI) (kT cyB cyI cyJ cyP) A (fun u : Int32 × NI × NI => ((qp5 a0 u.1 jaQ jaD ja7 jby jbe jaM jaY jap jaK jal jam jax jao ja5 jaV ja8 jae jag jaf jaN ja4 jaP jaw jaI jaZ jaG jaS jan jaU jaE jar jaL jah jaB jaa jaz jaH jab ja2 z0_s jaq jai jaO jaA jat jau jav jiy jas jaJ jak jad jay jac jaQ cyI u.2.1 ja5 cyI jbv jiy cyI u.2.2) : va_W))) A) args s 0 0 A) (F0 m 15 ls [.int s1, .ref a0]) := by
  obtain ⟨hx, hb, hr, hts, hown, hlocks, hml, hA, hK, hNw⟩ := id C0
  intro H locs ls jbd ja9 jjv l1 s1 hP hD hS hl hw
  refine lv_iconst (v := 1) hx hb (qaa qgR 9 rfl) (by decide) ?_
  refine lv_iconst (v := 1) hx hb (qaa qgR 10 rfl) (by decide) ?_
  obtain ⟨hCc, hPc, hDc, hFc⟩ := qac (ws' := (qa98 a0 jbd jaQ jaD ja7 jby jbe jaM jaY jap jaK jal jam jax jao ja5 jaV ja8 jae jag jaf jaN ja4 jaP jaw jaI jaZ jaG jaS jan jaU jaE jar jaL jah jaB jaa jaz jaH jab ja2 z0_s jaq jai jaO jaA jat jau jav jiy jas jaJ jak jad jay jac jaQ cyI ja9)) hP hD hS hA [0, 1] (by decide +kernel) rfl
  refine va_calli (va_runV (As := [.int s1, .int 1, .int 1]) (rest := []) ⟨hx, hb, hml, hown, hts⟩ (qkE l dC dI cyB cyI cyJ cyP a0 jaQ H.size (jaD) (ja7) (jby) (jbe) (jaM) (jaY) (jap) (jaK) (jal) (jam) (jax) (jao) (.ref ja5) (jaV) (ja8) (jae) (jag) (jaf) (.int jaN) (ja4) (jaP) (jaw) (jaI) (jaZ) (jaG) (jaS) (jan) (jaU) (jaE) (jar) (jaL) (jah) (jaB) (jaa) (jaz) (jaH) (jab) (ja2) (z0_s) (jaq) (jai) (jaO) (jaA) (jat) (jau) (jav) (.ref jiy) (jas) (jaJ) (jak) (jad) (jay) (jac) jbd ja9 s1 1 1 hw) (cwV 3 hts gX11_ringed_X11_may rfl rfl rfl (by decide +kernel) ⟨nbq rfl, nbq rfl⟩) ⟨qab, va_recv (q := (RX11, TX11, 55)) hK hPc (ci := 11) (q0 := 0) rfl rfl, qae hPc hK hDc hNw⟩ rfl rfl hl.1 rfl (lv_room (nbq rfl)) (qaa qgR 11 rfl) ⟨nbq rfl, nbq rfl⟩) hS (fun q _ h => hFc q h) hFc (fun r4 u t H1 locs ht hvm hw hB hz1 hk1 hS => ?_)
  obtain ⟨x2, f3⟩ := u
  obtain ⟨hP1, hK1, hD1⟩ := hB
  rw [ht] at hP1
  obtain ⟨hP, hD⟩ := qad (wr := [(ja5, .inl (cyI, 16, .inl jbv)), (jiy, .inl (cyI, 2048, .inl jjv))]) (w1 := (qa98 a0 x2 jaQ jaD ja7 jby jbe jaM jaY jap jaK jal jam jax jao ja5 jaV ja8 jae jag jaf jaN ja4 jaP jaw jaI jaZ jaG jaS jan jaU jaE jar jaL jah jaB jaa jaz jaH jab ja2 z0_s jaq jai jaO jaA jat jau jav jiy jas jaJ jak jad jay jac jaQ cyI f3)) (wn := (qp5 a0 x2 jaQ jaD ja7 jby jbe jaM jaY jap jaK jal jam jax jao ja5 jaV ja8 jae jag jaf jaN ja4 jaP jaw jaI jaZ jaG jaS jan jaU jaE jar jaL jah jaB jaa jaz jaH jab ja2 z0_s jaq jai jaO jaA jat jau jav jiy jas jaJ jak jad jay jac jaQ cyI f3 ja5 cyI jbv jiy cyI jjv)) hP hD [0, 1] [2, 3] [2, 3, 0, 1] hCc rfl (by decide +kernel) (by decide +kernel) (by decide +kernel) rfl hk1 hFc hP1 hD1
  generalize H1 = H at hP hS ⊢
  refine lv_if_ne (tgt := 25) hx hb (qaa qgR 12 rfl) (by decide) (fun c5 => ?_) (fun c5 => ?_)
  · have hw := hw.1 c5
    refine lv_iload_n hx hb (qaa qgR 15 rfl) rfl (lv_at hl 1 rfl) ?_
    refine lv_aload_n hx hb (qaa qfX 0 rfl) rfl (lv_at hl 0 rfl) ?_
    refine va_get (D := (dC, dI)) (ci := 11) (v := .int jaN) (C := RX11) (T := TX11) (N := 55) hx hb hts qC8 hown hK hP 0 rfl rfl 20 (by decide) (hts _ qaib) (fun _ h9 => h9) rfl (qaa qfX 1 rfl) ?_
    refine lv_icmp_lt (tgt := 35) hx hb (qaa qfX 2 rfl) (by decide) (fun c6 => ?_) (fun c6 => ?_)
    · have hw := hw.1 c6
      refine lv_aload_n hx hb (qaa qfX 5 rfl) rfl (lv_at hl 0 rfl) ?_
      obtain ⟨hCc, hPc, hDc, hFc⟩ := qac (ws' := (qa7q a0 x2 jaQ jaD ja7 jby jbe jaM jaY jap jaK jal jam jax jao ja5 jaV ja8 jae jag jaf jaN ja4 jaP jaw jaI jaZ jaG jaS jan jaU jaE jar jaL jah jaB jaa jaz jaH jab ja2 z0_s jaq jai jaO jaA jat jau jav jiy jas jaJ jak jad jay jac ja5 cyI jbv jiy cyI jjv)) hP hD hS hA [0, 2, 3] (by decide +kernel) rfl
      refine va_callv (va_runV (As := []) (rest := []) ⟨hx, hb, hml, hown, hts⟩ (q7e l dC dI cyB cyI cyJ cyP a0 ja5 jiy H.size (.int x2) (.ref jaQ) (jaD) (ja7) (jby) (jbe) (jaM) (jaY) (jap) (jaK) (jal) (jam) (jax) (jao) (jaV) (ja8) (jae) (jag) (jaf) (ja4) (jaP) (jaw) (jaI) (jaZ) (jaG) (jaS) (jan) (jaU) (jaE) (jar) (jaL) (jah) (jaB) (jaa) (jaz) (jaH) (jab) (ja2) (z0_s) (jaq) (jai) (jaO) (jaA) (jat) (jau) (jav) (jas) (jaJ) (jak) (jad) (jay) (jac) jaN jbv jjv hw) (cwV 0 hts gX11_ringed_X11_layRing rfl rfl rfl (by decide +kernel) ⟨nbq rfl, nbq rfl⟩) ⟨qab, va_recv (q := (RX11, TX11, 55)) hK hPc (ci := 11) (q0 := 0) rfl rfl, qae hPc hK hDc hNw⟩ rfl rfl hl.1 rfl (lv_room (nbq rfl)) (qaa qfX 6 rfl) ⟨nbq rfl, nbq rfl⟩) hS (fun q _ h => hFc q h) hFc (fun u t H1 locs ht hvm hw hB hz1 hk1 hS => ?_)
      obtain ⟨f7, rfl⟩ : ∃ z, z = u := ⟨_, rfl⟩
      obtain ⟨hP1, hK1, hD1⟩ := hB
      rw [ht] at hP1
      obtain ⟨hP, hD⟩ := qad (wr := [(jaQ, .inl (cyI, 2, .inl f3))]) (w1 := (qa7q a0 x2 jaQ jaD ja7 jby jbe jaM jaY jap jaK jal jam jax jao ja5 jaV ja8 jae jag jaf jaN ja4 jaP jaw jaI jaZ jaG jaS jan jaU jaE jar jaL jah jaB jaa jaz jaH jab ja2 z0_s jaq jai jaO jaA jat jau jav jiy jas jaJ jak jad jay jac ja5 cyI jbv jiy cyI f7)) (wn := (qp5 a0 x2 jaQ jaD ja7 jby jbe jaM jaY jap jaK jal jam jax jao ja5 jaV ja8 jae jag jaf jaN ja4 jaP jaw jaI jaZ jaG jaS jan jaU jaE jar jaL jah jaB jaa jaz jaH jab ja2 z0_s jaq jai jaO jaA jat jau jav jiy jas jaJ jak jad jay jac jaQ cyI f3 ja5 cyI jbv jiy cyI f7)) hP hD [0, 2, 3] [1] [1, 0, 2, 3] hCc rfl (by decide +kernel) (by decide +kernel) (by decide +kernel) rfl hk1 hFc hP1 hD1
      generalize H1 = H at hP hS ⊢
      refine lv_iconst (v := 1) hx hb (qaa qfX 7 rfl) (by decide) ?_
      refine lv_istore_n (lv' := [(2, .int 1), (0, .ref a0), (1, .int l1)]) hx hb (qaa qfX 8 rfl) rfl hl (by decide) rfl (fun ls hl => ?_)
      refine lv_iconst (v := 0) hx hb (qaa qfX 9 rfl) (by decide) ?_
      refine lv_istore_n (lv' := [(3, .int 0), (2, .int 1), (0, .ref a0), (1, .int l1)]) hx hb (qaa qfX 10 rfl) rfl hl (by decide) rfl (fun ls hl => ?_)
      refine lv_iconst (v := 0) hx hb (qaa qfX 11 rfl) (by decide) ?_
      refine lv_istore (lv' := [(4, .int 0), (3, .int 0), (2, .int 1), (0, .ref a0), (1, .int l1)]) hx hb (qaa qfX 12 rfl) hl (by decide) rfl (fun ls hl => ?_)
      obtain ⟨n9, hw⟩ := hw
      exact qapC dC dI cyB cyI cyJ cyP a0 jaQ ja5 jiy jaD ja7 jby jbe jaM jaY jap jaK jal jam jax jao jaV ja8 jae jag jaf ja4 jaP jaw jaI jaZ jaG jaS jan jaU jaE jar jaL jah jaB jaa jaz jaH jab ja2 z0_s jaq jai jaO jaA jat jau jav jas jaJ jak jad jay jac jaN jbv Q C0 n9 _ _ _ x2 f3 f7 l1 1 0 0 hP hD hS (lv_sub hl [3, 4, 2, 1, 0] rfl) hw
    · have hw := hw.2 c6
      refine lv_iconst (v := (-1)) hx hb (qaa qfX 3 rfl) (by decide) ?_
      exact ((W.iret (v := (-1)) hx hb hr (fun t ht hW => ⟨⟨(-1), (x2, f3, jjv), rfl, hw, by rw [ht]; exact hP, va_K.moved hW.alike hK, hD⟩, hS.F ht⟩) hS.2.2 (qaa qfX 4 rfl)))
  · have hw := hw.2 c5
    refine lv_iconst (v := 0) hx hb (qaa qgR 13 rfl) (by decide) ?_
    exact ((W.iret (v := 0) hx hb hr (fun t ht hW => ⟨⟨0, (x2, f3, jjv), rfl, hw, by rw [ht]; exact hP, va_K.moved hW.alike hK, hD⟩, hS.F ht⟩) hS.2.2 (qaa qgR 14 rfl)))
set_option maxHeartbeats 4000000 in
set_option maxRecDepth 100000 in
theorem qaOp (l : Launch) (dC : Nat → ClassId) (dI : Nat → Nat → Nat) (cyB cyI cyJ cyP : ClassId) (a0 jaQ ja5 jiy sz : Nat) (jaD ja7 jby jbe jaM jaY jap jaK jal jam jax jao jaV ja8 jae jag jaf ja4 jaP jaw jaI jaZ jaG jaS jan jaU jaE jar jaL jah jaB jaa jaz jaH jab ja2 z0_s jaq jai jaO jaA jat jau jav jas jaJ jak jad jay jac : Value) (jaN : Int32) (jbv : NI) (jbd : Int32) (ja9 jjv : NI) (p1 : Int32) {Q : Int32 → Int32 → NI → NI → Prop} (hw : qX0 jaN jbv jbd ja9 jjv p1 Q) : Met l yX11_ringed wsX11_ringed ({ frames := 3, cells := 0, slots := 0, locals := 67 }) (va_Pc [.ref a0, .int p1] (cPc (dC, dI) (kT cyB cyI cyJ cyP) (qp5 a0 jbd jaQ jaD ja7 jby jbe jaM jaY jap jaK jal jam jax jao ja5 jaV ja8 jae jag jaf jaN ja4 jaP jaw jaI jaZ jaG jaS jan jaU jaE jar jaL jah jaB jaa jaz jaH jab ja2 z0_s jaq jai jaO jaA jat jau jav jiy jas jaJ jak jad jay jac jaQ cyI ja9 ja5 cyI jbv jiy cyI jjv) sz)) (va_Qi (fun (r : Int32) (u : Int32 × NI × NI) => Q r u.1 u.2.1 u.2.2) (cB (dC, dI) (kT cyB cyI cyJ cyP) (va_A (qp5 a0 jbd jaQ jaD ja7 jby jbe jaM jaY jap jaK jal jam jax jao ja5 jaV ja8 jae jag jaf jaN ja4 jaP jaw jaI jaZ jaG jaS jan jaU jaE jar jaL jah jaB jaa jaz jaH jab ja2 z0_s jaq jai jaO jaA jat jau jav jiy jas jaJ jak jad jay jac jaQ cyI ja9 ja5 cyI jbv jiy cyI jjv) sz) (fun u : Int32 × NI × NI => ((qp5 a0 u.1 jaQ jaD ja7 jby jbe jaM jaY jap jaK jal jam jax jao ja5 jaV ja8 jae jag jaf jaN ja4 jaP jaw jaI jaZ jaG jaS jan jaU jaE jar jaL jah jaB jaa jaz jaH jab ja2 z0_s jaq jai jaO jaA jat jau jav jiy jas jaJ jak jad jay jac jaQ cyI u.2.1 ja5 cyI jbv jiy cyI u.2.2) : va_W))) (va_A (qp5 a0 jbd jaQ jaD ja7 jby jbe jaM jaY jap jaK jal jam jax jao ja5 jaV ja8 jae jag jaf jaN ja4 jaP jaw jaI jaZ jaG jaS jan jaU jaE jar jaL jah jaB jaa jaz jaH jab ja2 z0_s jaq jai jaO jaA jat jau jav jiy jas jaJ jak jad jay jac jaQ cyI ja9 ja5 cyI jbv jiy cyI jjv) sz)) 0 0 (va_A (qp5 a0 jbd jaQ jaD ja7 jby jbe jaM jaY jap jaK jal jam jax jao ja5 jaV ja8 jae jag jaf jaN ja4 jaP jaw jaI jaZ jaG jaS jan jaU jaE jar jaL jah jaB jaa jaz jaH jab ja2 z0_s jaq jai jaO jaA jat jau jav jiy jas jaJ jak jad jay jac jaQ cyI ja9 ja5 cyI jbv jiy cyI jjv) sz) := by
  refine Met.ofW (cc := cX11_ringed) (maxL := 6) (ret := (some .int)) (by decide) rfl ?_
  intro p e s m args below meth c s₁ B hml hv
  obtain ⟨rfl, hsz, hP, hK, hD0, hNw⟩ := hv
  have hx := B.exec
  have hb := B.bytes
  have hr := B.returns
  have hts := atoms_spec (ws := wsX11_ringed) B.pre
  have hown : s.vm.findClass RX11 = some m.cls := findClass_of_methodNamed B.named
  have hlocks := B.notSynchronized
  subst hsz
  have hD := hD0.self (sz := s.heap.size)
  generalize hAe : va_A (qp5 a0 jbd jaQ jaD ja7 jby jbe jaM jaY jap jaK jal jam jax jao ja5 jaV ja8 jae jag jaf jaN ja4 jaP jaw jaI jaZ jaG jaS jan jaU jaE jar jaL jah jaB jaa jaz jaH jab ja2 z0_s jaq jai jaO jaA jat jau jav jiy jas jaJ jak jad jay jac jaQ cyI ja9 ja5 cyI jbv jiy cyI jjv) s.heap.size = A at hD ⊢
  have hA : ∀ q : Nat, s.heap.size ≤ q → A q := fun q h => by rw [← hAe]; exact Or.inr h
  have hS : va_S A s.heap s.heap [] := va_S.rf
  have hP : va_P (dC, dI) vwCl (qp5 a0 jbd jaQ jaD ja7 jby jbe jaM jaY jap jaK jal jam jax jao ja5 jaV ja8 jae jag jaf jaN ja4 jaP jaw jaI jaZ jaG jaS jan jaU jaE jar jaL jah jaB jaa jaz jaH jab ja2 z0_s jaq jai jaO jaA jat jau jav jiy jas jaJ jak jad jay jac jaQ cyI ja9 ja5 cyI jbv jiy cyI jjv) s.heap := hP
  have hl := lv_entry ([.ref a0, .int p1]) (n := 6) (nbq rfl)
  rw [lg_entry_eq]
  generalize (lg_sl ([.ref a0, .int p1]) ++ List.replicate (6 - (lg_sl ([.ref a0, .int p1])).length) Slot.unset).toArray = ls at hl ⊢
  have hl : lv_has ls 6 [(0, .ref a0), (1, .int p1)] := hl
  have C0 : cfx p s m _ meth c cX11_ringed (some .int) wsX11_ringed RX11 6 A (dC, dI) (kT cyB cyI cyJ cyP) := ⟨hx, hb, hr, hts, hown, hlocks, hml, hA, hK, hNw⟩
  clear hAe
  obtain ⟨H, hH⟩ : ∃ H, H = s.heap := ⟨_, rfl⟩
  rw [← hH] at hP ⊢
  have hS : va_S A s.heap H [] := by rw [hH]; exact va_S.rf
  have hS := hS
  refine lv_aload_n hx hb (qaa qgR 0 rfl) rfl (lv_at hl 0 rfl) ?_
  refine lv_iconst (v := 0) hx hb (qaa qgR 1 rfl) (by decide) ?_
  refine va_put (D := (dC, dI)) (ci := 11) (v := .int 0) (ty := .int) (C := RX11) (T := TX11) (N := 55) hx hb hts qC8 tyX11 tyX11_ok nmX11 hown hK hP hD hS 0 rfl rfl 0 (by decide) (hts _ qao4) (fun _ h9 => h9) rfl (by decide +kernel) rfl rfl (nbq rfl) (qaa qgR 2 rfl) (fun H locs hP hD hS => ?_)
  have hP : va_P (dC, dI) vwCl (qp5 a0 0 jaQ jaD ja7 jby jbe jaM jaY jap jaK jal jam jax jao ja5 jaV ja8 jae jag jaf jaN ja4 jaP jaw jaI jaZ jaG jaS jan jaU jaE jar jaL jah jaB jaa jaz jaH jab ja2 z0_s jaq jai jaO jaA jat jau jav jiy jas jaJ jak jad jay jac jaQ cyI ja9 ja5 cyI jbv jiy cyI jjv) H := hP
  have hD : va_D A (qp5 a0 0 jaQ jaD ja7 jby jbe jaM jaY jap jaK jal jam jax jao ja5 jaV ja8 jae jag jaf jaN ja4 jaP jaw jaI jaZ jaG jaS jan jaU jaE jar jaL jah jaB jaa jaz jaH jab ja2 z0_s jaq jai jaO jaA jat jau jav jiy jas jaJ jak jad jay jac jaQ cyI ja9 ja5 cyI jbv jiy cyI jjv) := hD
  refine lv_aload_n hx hb (qaa qgR 3 rfl) rfl (lv_at hl 0 rfl) ?_
  refine lv_iload_n hx hb (qaa qgR 4 rfl) rfl (lv_at hl 1 rfl) ?_
  refine lv_if_lt (tgt := 14) hx hb (qaa qgR 5 rfl) (by decide) (fun c1 => ?_) (fun c1 => ?_)
  · have hw := hw.1 c1
    refine lv_iconst (v := 0) hx hb (qaa qgR 8 rfl) (by decide) ?_
    exact qY8 dC dI cyB cyI cyJ cyP a0 jaQ ja5 jiy jaD ja7 jby jbe jaM jaY jap jaK jal jam jax jao jaV ja8 jae jag jaf ja4 jaP jaw jaI jaZ jaG jaS jan jaU jaE jar jaL jah jaB jaa jaz jaH jab ja2 z0_s jaq jai jaO jaA jat jau jav jas jaJ jak jad jay jac jaN jbv Q C0 _ _ _ 0 ja9 jjv p1 0 hP hD hS (lv_sub hl [0, 1] rfl) hw
  · have hw := hw.2 c1
    refine lv_iconst (v := 1) hx hb (qaa qgR 6 rfl) (by decide) ?_
    refine lv_goto (tgt := 15) hx hb (qaa qgR 7 rfl) (by decide) ?_
    exact qY8 dC dI cyB cyI cyJ cyP a0 jaQ ja5 jiy jaD ja7 jby jbe jaM jaY jap jaK jal jam jax jao jaV ja8 jae jag jaf ja4 jaP jaw jaI jaZ jaG jaS jan jaU jaE jar jaL jah jaB jaa jaz jaH jab ja2 z0_s jaq jai jaO jaA jat jau jav jas jaJ jak jad jay jac jaN jbv Q C0 _ _ _ 0 ja9 jjv p1 1 hP hD hS (lv_sub hl [0, 1] rfl) hw
theorem qaCx : ∀ w ∈ u_ws RX11 TX11 55, w ∈ wsX11_road := uiM qGi qfa (by decide +kernel)
theorem qaJk : (.fieldLink RX11 3 "MarchHaresModel" "thrown" "I" : Cond) ∈ wsX11_road := qGi 589 (by decide +kernel)
set_option maxHeartbeats 4000000 in
set_option maxRecDepth 100000 in
theorem qRi {p : Program} {l : Launch} {e : Env} {s : State} {m : MethodId} {args : Array Value} {below : List Frame} {meth : Method} {c : Code} {A : Nat → Prop} (dC : Nat → ClassId) (dI : Nat → Nat → Nat) (cyB cyI cyJ cyP : ClassId) (a0 jaQ : Nat) (jaD ja7 jby jbe jaM jaY jap jaK jal jam jax jao ja6 jaV ja8 jae jag jaf ja0 ja4 jaP jaw jaI jaZ jaG jaS jan jaU jaE jar jaL jah jaB jaa jaz jaH jab ja2 z0_s jaq jai jaO jaA jat jau jav jaj jas jaJ jak jad jay jac : Value) (Q : Int32 → Int32 → NI → Prop) (K59 : Int32 → NI → Int32 → Int32 → Int32 → Int32 → Int32 → Int32 → Prop) (hK59 : ∀ (H : Heap) (locs : List Loc) (ls : Array Slot) (jbd : Int32) (ja9 : NI) (l1 l2 l3 l4 l5 l6 : Int32), va_P (dC, dI) vwCl (qgu a0 jbd jaQ jaD ja7 jby jbe jaM jaY jap jaK jal jam jax jao ja6 jaV ja8 jae jag jaf ja0 ja4 jaP jaw jaI jaZ jaG jaS jan jaU jaE jar jaL jah jaB jaa jaz jaH jab ja2 z0_s jaq jai jaO jaA jat jau jav jaj jas jaJ jak jad jay jac jaQ cyI ja9) H → va_D A (qgu a0 jbd jaQ jaD ja7 jby jbe jaM jaY jap jaK jal jam jax jao ja6 jaV ja8 jae jag jaf ja0 ja4 jaP jaw jaI jaZ jaG jaS jan jaU jaE jar jaL jah jaB jaa jaz jaH jab ja2 z0_s jaq jai jaO jaA jat jau jav jaj jas jaJ jak jad jay jac jaQ cyI ja9) → va_S A s.heap H locs → lv_has ls 9 [(1, .int l1), (2, .int l2), (3, .int l3), (4, .int l4), (5, .int l5), (6, .int l6)] → K59 jbd ja9 l1 l2 l3 l4 l5 l6 → W p l e (headSpec wsX11_road ({ frames := 1, cells := 0, slots := 0, locals := 23 })).room s m args below meth c H locs 0 0 (MQ below (va_Qi (fun (r : Int32) (u : Int32 × NI) => Q r u.1 u.2) (cB (dC, dI) (kT cyB cyI cyJ cyP) A (fun u : Int32 × NI => ((qgu a0 u.1 jaQ jaD ja7 jby jbe jaM jaY jap jaK jal jam jax jao ja6 jaV ja8 jae jag jaf ja0 ja4 jaP jaw jaI jaZ jaG jaS jan jaU jaE jar jaL jah jaB jaa jaz jaH jab ja2 z0_s jaq jai jaO jaA jat jau jav jaj jas jaJ jak jad jay jac jaQ cyI u.2) : va_W))) A) args s 0 0 A) (F0 m 59 ls [])) (C0 : cfx p s m args meth c cX11_road (some .int) wsX11_road RX11 9 A (dC, dI) (kT cyB cyI cyJ cyP)) : ∀ (H : Heap) (locs : List Loc) (ls : Array Slot) (jbd : Int32) (ja9 : NI) (l1 l2 l3 l4 l5 l6 : Int32), va_P (dC, dI) vwCl (qgu a0 jbd jaQ jaD ja7 jby jbe jaM jaY jap jaK jal jam jax jao ja6 jaV ja8 jae jag jaf ja0 ja4 jaP jaw jaI jaZ jaG jaS jan jaU jaE jar jaL jah jaB jaa jaz jaH jab ja2 z0_s jaq jai jaO jaA jat jau jav jaj jas jaJ jak jad jay jac jaQ cyI ja9) H → va_D A (qgu a0 jbd jaQ jaD ja7 jby jbe jaM jaY jap jaK jal jam jax jao ja6 jaV ja8 jae jag jaf ja0 ja4 jaP jaw jaI jaZ jaG jaS jan jaU jaE jar jaL jah jaB jaa jaz jaH jab ja2 z0_s jaq jai jaO jaA jat jau jav jaj jas jaJ jak jad jay jac jaQ cyI ja9) → va_S A s.heap H locs → lv_has ls 9 [(1, .int l1), (2, .int l2), (3, .int l3), (4, .int l4), (5, .int l5), (6, .int l6)] → qI5 Q K59 jbd ja9 l1 l2 l3 l4 l5 l6 → W p l e (headSpec wsX11_road ({ frames := 1, cells := 0, slots := 0, locals := 23 })).room s m args below meth c H locs 0 0 (MQ below (va_Qi (fun (r : Int32) (u : Int32 × NI) => Q r u.1 u.2) (cB (dC, dI) (kT cyB cyI cyJ cyP) A (fun u : Int32 × NI => ((qgu a0 u.1 jaQ jaD ja7 jby jbe jaM jaY jap jaK jal jam jax jao ja6 jaV ja8 jae jag jaf ja0 ja4 jaP jaw jaI jaZ jaG jaS jan jaU jaE jar jaL jah jaB jaa jaz jaH jab ja2 z0_s jaq jai jaO jaA jat jau jav jaj jas jaJ jak jad jay jac jaQ cyI u.2) : va_W))) A) args s 0 0 A) (F0 m 150 ls []) := by
  obtain ⟨hx, hb, hr, hts, hown, hlocks, hml, hA, hK, hNw⟩ := id C0
  intro H locs ls jbd ja9 l1 l2 l3 l4 l5 l6 hP hD hS hl hw
  obtain ⟨x31, ex31⟩ : ∃ y : Int32, y = l6 + 1 := ⟨_, rfl⟩
  have hw := hw x31 ex31
  refine lv_iinc (v := x31) (lv' := [(6, .int x31), (1, .int l1), (2, .int l2), (3, .int l3), (4, .int l4), (5, .int l5)]) hx hb (qaa qgC 4 rfl) hl (k := 5) rfl (by rw [ex31]; rfl) (by decide) rfl (fun ls hl => ?_)
  refine lv_goto (tgt := 59) hx hb (qaa qgC 5 rfl) (by decide) ?_
  exact hK59 _ _ _ jbd ja9 l1 l2 l3 l4 l5 x31 hP hD hS (lv_sub hl [1, 2, 3, 4, 5, 0] rfl) hw
set_option maxHeartbeats 4000000 in
set_option maxRecDepth 100000 in
theorem q1A {p : Program} {l : Launch} {e : Env} {s : State} {m : MethodId} {args : Array Value} {below : List Frame} {meth : Method} {c : Code} {A : Nat → Prop} (dC : Nat → ClassId) (dI : Nat → Nat → Nat) (cyB cyI cyJ cyP : ClassId) (a0 jaQ : Nat) (jaD ja7 jby jbe jaM jaY jap jaK jal jam jax jao ja6 jaV ja8 jae jag jaf ja0 ja4 jaP jaw jaI jaZ jaG jaS jan jaU jaE jar jaL jah jaB jaa jaz jaH jab ja2 z0_s jaq jai jaO jaA jat jau jav jaj jas jaJ jak jad jay jac : Value) (Q : Int32 → Int32 → NI → Prop) (K59 : Int32 → NI → Int32 → Int32 → Int32 → Int32 → Int32 → Int32 → Prop) (hK59 : ∀ (H : Heap) (locs : List Loc) (ls : Array Slot) (jbd : Int32) (ja9 : NI) (l1 l2 l3 l4 l5 l6 : Int32), va_P (dC, dI) vwCl (qgu a0 jbd jaQ jaD ja7 jby jbe jaM jaY jap jaK jal jam jax jao ja6 jaV ja8 jae jag jaf ja0 ja4 jaP jaw jaI jaZ jaG jaS jan jaU jaE jar jaL jah jaB jaa jaz jaH jab ja2 z0_s jaq jai jaO jaA jat jau jav jaj jas jaJ jak jad jay jac jaQ cyI ja9) H → va_D A (qgu a0 jbd jaQ jaD ja7 jby jbe jaM jaY jap jaK jal jam jax jao ja6 jaV ja8 jae jag jaf ja0 ja4 jaP jaw jaI jaZ jaG jaS jan jaU jaE jar jaL jah jaB jaa jaz jaH jab ja2 z0_s jaq jai jaO jaA jat jau jav jaj jas jaJ jak jad jay jac jaQ cyI ja9) → va_S A s.heap H locs → lv_has ls 9 [(1, .int l1), (2, .int l2), (3, .int l3), (4, .int l4), (5, .int l5), (6, .int l6)] → K59 jbd ja9 l1 l2 l3 l4 l5 l6 → W p l e (headSpec wsX11_road ({ frames := 1, cells := 0, slots := 0, locals := 23 })).room s m args below meth c H locs 0 0 (MQ below (va_Qi (fun (r : Int32) (u : Int32 × NI) => Q r u.1 u.2) (cB (dC, dI) (kT cyB cyI cyJ cyP) A (fun u : Int32 × NI => ((qgu a0 u.1 jaQ jaD ja7 jby jbe jaM jaY jap jaK jal jam jax jao ja6 jaV ja8 jae jag jaf ja0 ja4 jaP jaw jaI jaZ jaG jaS jan jaU jaE jar jaL jah jaB jaa jaz jaH jab ja2 z0_s jaq jai jaO jaA jat jau jav jaj jas jaJ jak jad jay jac jaQ cyI u.2) : va_W))) A) args s 0 0 A) (F0 m 59 ls [])) (C0 : cfx p s m args meth c cX11_road (some .int) wsX11_road RX11 9 A (dC, dI) (kT cyB cyI cyJ cyP)) : ∀ (H : Heap) (locs : List Loc) (ls : Array Slot) (jbd : Int32) (ja9 : NI) (l1 l2 l3 l4 l6 s0 : Int32), va_P (dC, dI) vwCl (qgu a0 jbd jaQ jaD ja7 jby jbe jaM jaY jap jaK jal jam jax jao ja6 jaV ja8 jae jag jaf ja0 ja4 jaP jaw jaI jaZ jaG jaS jan jaU jaE jar jaL jah jaB jaa jaz jaH jab ja2 z0_s jaq jai jaO jaA jat jau jav jaj jas jaJ jak jad jay jac jaQ cyI ja9) H → va_D A (qgu a0 jbd jaQ jaD ja7 jby jbe jaM jaY jap jaK jal jam jax jao ja6 jaV ja8 jae jag jaf ja0 ja4 jaP jaw jaI jaZ jaG jaS jan jaU jaE jar jaL jah jaB jaa jaz jaH jab ja2 z0_s jaq jai jaO jaA jat jau jav jaj jas jaJ jak jad jay jac jaQ cyI ja9) → va_S A s.heap H locs → lv_has ls 9 [(1, .int l1), (2, .int l2), (3, .int l3), (4, .int l4), (6, .int l6)] → qRm Q K59 jbd ja9 l1 l2 l3 l4 l6 s0 → W p l e (headSpec wsX11_road ({ frames := 1, cells := 0, slots := 0, locals := 23 })).room s m args below meth c H locs 0 0 (MQ below (va_Qi (fun (r : Int32) (u : Int32 × NI) => Q r u.1 u.2) (cB (dC, dI) (kT cyB cyI cyJ cyP) A (fun u : Int32 × NI => ((qgu a0 u.1 jaQ jaD ja7 jby jbe jaM jaY jap jaK jal jam jax jao ja6 jaV ja8 jae jag jaf ja0 ja4 jaP jaw jaI jaZ jaG jaS jan jaU jaE jar jaL jah jaB jaa jaz jaH jab ja2 z0_s jaq jai jaO jaA jat jau jav jaj jas jaJ jak jad jay jac jaQ cyI u.2) : va_W))) A) args s 0 0 A) (F0 m 148 ls [.int s0]) := by
  obtain ⟨hx, hb, hr, hts, hown, hlocks, hml, hA, hK, hNw⟩ := id C0
  intro H locs ls jbd ja9 l1 l2 l3 l4 l6 s0 hP hD hS hl hw
  refine lv_istore (lv' := [(5, .int s0), (1, .int l1), (2, .int l2), (3, .int l3), (4, .int l4), (6, .int l6)]) hx hb (qaa qgC 3 rfl) hl (by decide) rfl (fun ls hl => ?_)
  exact qRi dC dI cyB cyI cyJ cyP a0 jaQ jaD ja7 jby jbe jaM jaY jap jaK jal jam jax jao ja6 jaV ja8 jae jag jaf ja0 ja4 jaP jaw jaI jaZ jaG jaS jan jaU jaE jar jaL jah jaB jaa jaz jaH jab ja2 z0_s jaq jai jaO jaA jat jau jav jaj jas jaJ jak jad jay jac Q K59 hK59 C0 _ _ _ jbd ja9 l1 l2 l3 l4 s0 l6 hP hD hS (lv_sub hl [1, 2, 3, 4, 0, 5] rfl) hw
set_option maxHeartbeats 4000000 in
set_option maxRecDepth 100000 in
theorem qaH8 {p : Program} {l : Launch} {e : Env} {s : State} {m : MethodId} {args : Array Value} {below : List Frame} {meth : Method} {c : Code} {A : Nat → Prop} (dC : Nat → ClassId) (dI : Nat → Nat → Nat) (cyB cyI cyJ cyP : ClassId) (a0 jaQ : Nat) (jaD ja7 jby jbe jaM jaY jap jaK jal jam jax jao ja6 jaV ja8 jae jag jaf ja0 ja4 jaP jaw jaI jaZ jaG jaS jan jaU jaE jar jaL jah jaB jaa jaz jaH jab ja2 z0_s jaq jai jaO jaA jat jau jav jaj jas jaJ jak jad jay jac : Value) (Q : Int32 → Int32 → NI → Prop) (C0 : cfx p s m args meth c cX11_road (some .int) wsX11_road RX11 9 A (dC, dI) (kT cyB cyI cyJ cyP)) : ∀ (n : Nat) (H : Heap) (locs : List Loc) (ls : Array Slot) (jbd : Int32) (ja9 : NI) (l1 l2 l3 l4 l5 l6 : Int32), va_P (dC, dI) vwCl (qgu a0 jbd jaQ jaD ja7 jby jbe jaM jaY jap jaK jal jam jax jao ja6 jaV ja8 jae jag jaf ja0 ja4 jaP jaw jaI jaZ jaG jaS jan jaU jaE jar jaL jah jaB jaa jaz jaH jab ja2 z0_s jaq jai jaO jaA jat jau jav jaj jas jaJ jak jad jay jac jaQ cyI ja9) H → va_D A (qgu a0 jbd jaQ jaD ja7 jby jbe jaM jaY jap jaK jal jam jax jao ja6 jaV ja8 jae jag jaf ja0 ja4 jaP jaw jaI jaZ jaG jaS jan jaU jaE jar jaL jah jaB jaa jaz jaH jab ja2 z0_s jaq jai jaO jaA jat jau jav jaj jas jaJ jak jad jay jac jaQ cyI ja9) → va_S A s.heap H locs → lv_has ls 9 [(1, .int l1), (2, .int l2), (3, .int l3), (4, .int l4), (5, .int l5), (6, .int l6)] → qqt Q n jbd ja9 l1 l2 l3 l4 l5 l6 → W p l e (headSpec wsX11_road ({ frames := 1, cells := 0, slots := 0, locals := 23 })).room s m args below meth c H locs 0 0 (MQ below (va_Qi (fun (r : Int32) (u : Int32 × NI) => Q r u.1 u.2) (cB (dC, dI) (kT cyB cyI cyJ cyP) A (fun u : Int32 × NI => ((qgu a0 u.1 jaQ jaD ja7 jby jbe jaM jaY jap jaK jal jam jax jao ja6 jaV ja8 jae jag jaf ja0 ja4 jaP jaw jaI jaZ jaG jaS jan jaU jaE jar jaL jah jaB jaa jaz jaH jab ja2 z0_s jaq jai jaO jaA jat jau jav jaj jas jaJ jak jad jay jac jaQ cyI u.2) : va_W))) A) args s 0 0 A) (F0 m 59 ls []) := by
  obtain ⟨hx, hb, hr, hts, hown, hlocks, hml, hA, hK, hNw⟩ := id C0
  intro n
  induction n with
  | zero => intro H locs ls jbd ja9 l1 l2 l3 l4 l5 l6 hP hD hS hl hw; exact False.elim hw
  | succ n ih =>
    intro H locs ls jbd ja9 l1 l2 l3 l4 l5 l6 hP hD hS hl hw
    refine lv_iload hx hb (qaa qjO 2 rfl) (lv_at hl 5 rfl) ?_
    refine lv_iconst (v := 4) hx hb (qaa qjO 3 rfl) (by decide) ?_
    refine lv_icmp_ge (tgt := 156) hx hb (qaa qjO 4 rfl) (by decide) (fun c11 => ?_) (fun c11 => ?_)
    · have hw := hw.1 c11
      refine lv_iload_n hx hb (qaa qgC 6 rfl) rfl (lv_at hl 2 rfl) ?_
      refine lv_if_ne (tgt := 165) hx hb (qaa qgC 7 rfl) (by decide) (fun c12 => ?_) (fun c12 => ?_)
      · have hw := hw.1 c12
        refine lv_iload_n hx hb (qaa qgC 10 rfl) rfl (lv_at hl 2 rfl) ?_
        refine lv_iconst (v := 1) hx hb (qaa qgC 11 rfl) (by decide) ?_
        refine lv_icmp_ne (tgt := 175) hx hb (qaa qgC 12 rfl) (by decide) (fun c13 => ?_) (fun c13 => ?_)
        · have hw := hw.1 c13
          refine lv_iload hx hb (qaa qgC 15 rfl) (lv_at hl 4 rfl) ?_
          refine lv_iconst (v := (-1)) hx hb (qaa qg6 0 rfl) (by decide) ?_
          refine lv_icmp_ne (tgt := 185) hx hb (qaa qg6 1 rfl) (by decide) (fun c14 => ?_) (fun c14 => ?_)
          · have hw := hw.1 c14
            refine lv_iload hx hb (qaa qg6 4 rfl) (lv_at hl 4 rfl) ?_
            refine lv_bipush (v := 10) hx hb (qaa qg6 5 rfl) (by decide) ?_
            refine lv_idiv hx hb (qaa qg6 6 rfl) (by decide) ?_
            refine lv_topi (fun x15 ex15 => ?_)
            have hw := hw x15 ex15
            refine lv_iload hx hb (qaa qg6 7 rfl) (lv_at hl 4 rfl) ?_
            refine lv_bipush (v := 10) hx hb (qaa qg6 8 rfl) (by decide) ?_
            refine lv_irem hx hb (qaa qg6 9 rfl) (by decide) ?_
            refine lv_topi (fun x16 ex16 => ?_)
            have hw := hw x16 ex16
            refine lv_iload_n hx hb (qaa qg6 10 rfl) rfl (lv_at hl 0 rfl) ?_
            refine lv_iload_n hx hb (qaa qg6 11 rfl) rfl (lv_at hl 1 rfl) ?_
            obtain ⟨hCc, hPc, hDc, hFc⟩ := qac (ws' := []) hP hD hS hA [] (by decide +kernel) rfl
            refine va_calli (va_runS (As := [.int x15, .int x16, .int l1, .int l2]) (rest := []) ⟨hx, hb, hml, hown, hts⟩ (qGq l dC dI cyB cyI cyJ cyP H.size x15 x16 l1 l2 hw) (va_cwS 4 hts gX11_road_X11_hasBy rfl rfl rfl (by decide +kernel) ⟨nbq rfl, nbq rfl⟩) ⟨qab, qae hPc hK hDc hNw⟩ rfl rfl hl.1 rfl (lv_room (nbq rfl)) (qaa qg6 12 rfl) ⟨nbq rfl, nbq rfl⟩) hS (fun q _ h => hFc q h) hFc (fun r17 u t H1 locs ht hvm hw hB hz1 hk1 hS => ?_)
            obtain ⟨hP1, hK1, hD1⟩ := hB
            rw [ht] at hP1
            obtain ⟨hP, hD⟩ := qah (wr := (qgu a0 jbd jaQ jaD ja7 jby jbe jaM jaY jap jaK jal jam jax jao ja6 jaV ja8 jae jag jaf ja0 ja4 jaP jaw jaI jaZ jaG jaS jan jaU jaE jar jaL jah jaB jaa jaz jaH jab ja2 z0_s jaq jai jaO jaA jat jau jav jaj jas jaJ jak jad jay jac jaQ cyI ja9)) (w1 := []) (wn := (qgu a0 jbd jaQ jaD ja7 jby jbe jaM jaY jap jaK jal jam jax jao ja6 jaV ja8 jae jag jaf ja0 ja4 jaP jaw jaI jaZ jaG jaS jan jaU jaE jar jaL jah jaB jaa jaz jaH jab ja2 z0_s jaq jai jaO jaA jat jau jav jaj jas jaJ jak jad jay jac jaQ cyI ja9)) hP hD [] [0, 1] hCc rfl (by decide +kernel) (by decide +kernel) rfl hk1 hFc hP1 hD1
            generalize H1 = H at hP hS ⊢
            refine lv_iload hx hb (qaa qg6 13 rfl) (lv_at hl 4 rfl) ?_
            refine lv_bipush (v := 10) hx hb (qaa qg6 14 rfl) (by decide) ?_
            refine lv_irem hx hb (qaa qg6 15 rfl) (by decide) ?_
            refine lv_topi (fun x18 ex18 => ?_)
            have hw := hw x18 ex18
            refine lv_iload hx hb (qaa qpg 0 rfl) (lv_at hl 4 rfl) ?_
            refine lv_bipush (v := 10) hx hb (qaa qpg 1 rfl) (by decide) ?_
            refine lv_idiv hx hb (qaa qpg 2 rfl) (by decide) ?_
            refine lv_topi (fun x19 ex19 => ?_)
            have hw := hw x19 ex19
            refine lv_iload_n hx hb (qaa qpg 3 rfl) rfl (lv_at hl 0 rfl) ?_
            refine lv_iload_n hx hb (qaa qpg 4 rfl) rfl (lv_at hl 1 rfl) ?_
            obtain ⟨hCc, hPc, hDc, hFc⟩ := qac (ws' := []) hP hD hS hA [] (by decide +kernel) rfl
            refine va_calli (va_runS (As := [.int x18, .int x19, .int l1, .int l2]) (rest := [.int r17]) ⟨hx, hb, hml, hown, hts⟩ (qGq l dC dI cyB cyI cyJ cyP H.size x18 x19 l1 l2 hw) (va_cwS 4 hts gX11_road_X11_hasBy rfl rfl rfl (by decide +kernel) ⟨nbq rfl, nbq rfl⟩) ⟨qab, qae hPc hK hDc hNw⟩ rfl rfl hl.1 rfl (lv_room (nbq rfl)) (qaa qpg 5 rfl) ⟨nbq rfl, nbq rfl⟩) hS (fun q _ h => hFc q h) hFc (fun r20 u t H1 locs ht hvm hw hB hz1 hk1 hS => ?_)
            obtain ⟨hP1, hK1, hD1⟩ := hB
            rw [ht] at hP1
            obtain ⟨hP, hD⟩ := qah (wr := (qgu a0 jbd jaQ jaD ja7 jby jbe jaM jaY jap jaK jal jam jax jao ja6 jaV ja8 jae jag jaf ja0 ja4 jaP jaw jaI jaZ jaG jaS jan jaU jaE jar jaL jah jaB jaa jaz jaH jab ja2 z0_s jaq jai jaO jaA jat jau jav jaj jas jaJ jak jad jay jac jaQ cyI ja9)) (w1 := []) (wn := (qgu a0 jbd jaQ jaD ja7 jby jbe jaM jaY jap jaK jal jam jax jao ja6 jaV ja8 jae jag jaf ja0 ja4 jaP jaw jaI jaZ jaG jaS jan jaU jaE jar jaL jah jaB jaa jaz jaH jab ja2 z0_s jaq jai jaO jaA jat jau jav jaj jas jaJ jak jad jay jac jaQ cyI ja9)) hP hD [] [0, 1] hCc rfl (by decide +kernel) (by decide +kernel) rfl hk1 hFc hP1 hD1
            generalize H1 = H at hP hS ⊢
            refine lv_iadd hx hb (qaa qpg 6 rfl) ?_
            exact ((W.iret (v := (r17 + r20)) hx hb hr (fun t ht hW => ⟨⟨(r17 + r20), (jbd, ja9), rfl, hw, by rw [ht]; exact hP, va_K.moved hW.alike hK, hD⟩, hS.F ht⟩) hS.2.2 (qaa qpg 7 rfl)))
          · have hw := hw.2 c14
            refine lv_iconst (v := 0) hx hb (qaa qg6 2 rfl) (by decide) ?_
            refine lv_goto (tgt := 216) hx hb (qaa qg6 3 rfl) (by decide) ?_
            exact ((W.iret (v := 0) hx hb hr (fun t ht hW => ⟨⟨0, (jbd, ja9), rfl, hw, by rw [ht]; exact hP, va_K.moved hW.alike hK, hD⟩, hS.F ht⟩) hS.2.2 (qaa qpg 7 rfl)))
        · have hw := hw.2 c13
          refine lv_iload hx hb (qaa qgC 13 rfl) (lv_at hl 4 rfl) ?_
          refine lv_goto (tgt := 216) hx hb (qaa qgC 14 rfl) (by decide) ?_
          exact ((W.iret (v := l5) hx hb hr (fun t ht hW => ⟨⟨l5, (jbd, ja9), rfl, hw, by rw [ht]; exact hP, va_K.moved hW.alike hK, hD⟩, hS.F ht⟩) hS.2.2 (qaa qpg 7 rfl)))
      · have hw := hw.2 c12
        refine lv_iload hx hb (qaa qgC 8 rfl) (lv_at hl 3 rfl) ?_
        refine lv_goto (tgt := 216) hx hb (qaa qgC 9 rfl) (by decide) ?_
        exact ((W.iret (v := l4) hx hb hr (fun t ht hW => ⟨⟨l4, (jbd, ja9), rfl, hw, by rw [ht]; exact hP, va_K.moved hW.alike hK, hD⟩, hS.F ht⟩) hS.2.2 (qaa qpg 7 rfl)))
    · have hw := hw.2 c11
      refine lv_iload hx hb (qaa qjO 5 rfl) (lv_at hl 5 rfl) ?_
      refine lv_iconst (v := 2) hx hb (qaa qjO 6 rfl) (by decide) ?_
      refine lv_idiv hx hb (qaa qjO 7 rfl) (by decide) ?_
      refine lv_topi (fun x21 ex21 => ?_)
      have hw := hw x21 ex21
      refine lv_istore (lv' := [(7, .int x21), (1, .int l1), (2, .int l2), (3, .int l3), (4, .int l4), (5, .int l5), (6, .int l6)]) hx hb (qaa qjO 8 rfl) hl (by decide) rfl (fun ls hl => ?_)
      refine lv_iload hx hb (qaa qjO 9 rfl) (lv_at hl 6 rfl) ?_
      refine lv_iconst (v := 2) hx hb (qaa qjO 10 rfl) (by decide) ?_
      refine lv_irem hx hb (qaa qjO 11 rfl) (by decide) ?_
      refine lv_topi (fun x22 ex22 => ?_)
      have hw := hw x22 ex22
      refine lv_istore (lv' := [(8, .int x22), (7, .int x21), (1, .int l1), (2, .int l2), (3, .int l3), (4, .int l4), (5, .int l5), (6, .int l6)]) hx hb (qaa qjO 12 rfl) hl (by decide) rfl (fun ls hl => ?_)
      refine lv_iconst (v := 1) hx hb (qaa qjO 13 rfl) (by decide) ?_
      refine lv_iload hx hb (qaa qjO 14 rfl) (lv_at hl 1 rfl) ?_
      refine lv_isub hx hb (qaa qjO 15 rfl) ?_
      refine lv_iload hx hb (qaa qka 0 rfl) (lv_at hl 0 rfl) ?_
      refine lv_iload_n hx hb (qaa qka 1 rfl) rfl (lv_at hl 2 rfl) ?_
      refine lv_iload_n hx hb (qaa qka 2 rfl) rfl (lv_at hl 3 rfl) ?_
      obtain ⟨hCc, hPc, hDc, hFc⟩ := qac (ws' := []) hP hD hS hA [] (by decide +kernel) rfl
      refine va_calli (va_runS (As := [.int (1 - x21), .int x22, .int l1, .int l2]) (rest := []) ⟨hx, hb, hml, hown, hts⟩ (qGq l dC dI cyB cyI cyJ cyP H.size (1 - x21) x22 l1 l2 hw) (va_cwS 4 hts gX11_road_X11_hasBy rfl rfl rfl (by decide +kernel) ⟨nbq rfl, nbq rfl⟩) ⟨qab, qae hPc hK hDc hNw⟩ rfl rfl hl.1 rfl (lv_room (nbq rfl)) (qaa qka 3 rfl) ⟨nbq rfl, nbq rfl⟩) hS (fun q _ h => hFc q h) hFc (fun r23 u t H1 locs ht hvm hw hB hz1 hk1 hS => ?_)
      obtain ⟨hP1, hK1, hD1⟩ := hB
      rw [ht] at hP1
      obtain ⟨hP, hD⟩ := qah (wr := (qgu a0 jbd jaQ jaD ja7 jby jbe jaM jaY jap jaK jal jam jax jao ja6 jaV ja8 jae jag jaf ja0 ja4 jaP jaw jaI jaZ jaG jaS jan jaU jaE jar jaL jah jaB jaa jaz jaH jab ja2 z0_s jaq jai jaO jaA jat jau jav jaj jas jaJ jak jad jay jac jaQ cyI ja9)) (w1 := []) (wn := (qgu a0 jbd jaQ jaD ja7 jby jbe jaM jaY jap jaK jal jam jax jao ja6 jaV ja8 jae jag jaf ja0 ja4 jaP jaw jaI jaZ jaG jaS jan jaU jaE jar jaL jah jaB jaa jaz jaH jab ja2 z0_s jaq jai jaO jaA jat jau jav jaj jas jaJ jak jad jay jac jaQ cyI ja9)) hP hD [] [0, 1] hCc rfl (by decide +kernel) (by decide +kernel) rfl hk1 hFc hP1 hD1
      generalize H1 = H at hP hS ⊢
      refine lv_iload hx hb (qaa qka 4 rfl) (lv_at hl 1 rfl) ?_
      refine lv_iload hx hb (qaa qka 5 rfl) (lv_at hl 0 rfl) ?_
      refine lv_iload_n hx hb (qaa qka 6 rfl) rfl (lv_at hl 2 rfl) ?_
      refine lv_iload_n hx hb (qaa qka 7 rfl) rfl (lv_at hl 3 rfl) ?_
      obtain ⟨hCc, hPc, hDc, hFc⟩ := qac (ws' := []) hP hD hS hA [] (by decide +kernel) rfl
      refine va_calli (va_runS (As := [.int x21, .int x22, .int l1, .int l2]) (rest := [.int r23]) ⟨hx, hb, hml, hown, hts⟩ (qGq l dC dI cyB cyI cyJ cyP H.size x21 x22 l1 l2 hw) (va_cwS 4 hts gX11_road_X11_hasBy rfl rfl rfl (by decide +kernel) ⟨nbq rfl, nbq rfl⟩) ⟨qab, qae hPc hK hDc hNw⟩ rfl rfl hl.1 rfl (lv_room (nbq rfl)) (qaa qka 8 rfl) ⟨nbq rfl, nbq rfl⟩) hS (fun q _ h => hFc q h) hFc (fun r24 u t H1 locs ht hvm hw hB hz1 hk1 hS => ?_)
      obtain ⟨hP1, hK1, hD1⟩ := hB
      rw [ht] at hP1
      obtain ⟨hP, hD⟩ := qah (wr := (qgu a0 jbd jaQ jaD ja7 jby jbe jaM jaY jap jaK jal jam jax jao ja6 jaV ja8 jae jag jaf ja0 ja4 jaP jaw jaI jaZ jaG jaS jan jaU jaE jar jaL jah jaB jaa jaz jaH jab ja2 z0_s jaq jai jaO jaA jat jau jav jaj jas jaJ jak jad jay jac jaQ cyI ja9)) (w1 := []) (wn := (qgu a0 jbd jaQ jaD ja7 jby jbe jaM jaY jap jaK jal jam jax jao ja6 jaV ja8 jae jag jaf ja0 ja4 jaP jaw jaI jaZ jaG jaS jan jaU jaE jar jaL jah jaB jaa jaz jaH jab ja2 z0_s jaq jai jaO jaA jat jau jav jaj jas jaJ jak jad jay jac jaQ cyI ja9)) hP hD [] [0, 1] hCc rfl (by decide +kernel) (by decide +kernel) rfl hk1 hFc hP1 hD1
      generalize H1 = H at hP hS ⊢
      refine lv_icmp_gt (tgt := 150) hx hb (qaa qka 9 rfl) (by decide) (fun c25 => ?_) (fun c25 => ?_)
      · have hw := hw.1 c25
        exact qRi dC dI cyB cyI cyJ cyP a0 jaQ jaD ja7 jby jbe jaM jaY jap jaK jal jam jax jao ja6 jaV ja8 jae jag jaf ja0 ja4 jaP jaw jaI jaZ jaG jaS jan jaU jaE jar jaL jah jaB jaa jaz jaH jab ja2 z0_s jaq jai jaO jaA jat jau jav jaj jas jaJ jak jad jay jac Q (qqt Q n) ih C0 _ _ _ jbd ja9 l1 l2 l3 l4 l5 l6 hP hD hS (lv_sub hl [2, 3, 4, 5, 6, 7] rfl) hw
      · have hw := hw.2 c25
        refine lv_iconst (v := 1) hx hb (qaa qka 10 rfl) (by decide) ?_
        refine lv_iload hx hb (qaa qka 11 rfl) (lv_at hl 0 rfl) ?_
        refine lv_isub hx hb (qaa qka 12 rfl) ?_
        refine lv_iload hx hb (qaa qka 13 rfl) (lv_at hl 1 rfl) ?_
        refine lv_iload_n hx hb (qaa qka 14 rfl) rfl (lv_at hl 2 rfl) ?_
        refine lv_iload_n hx hb (qaa qka 15 rfl) rfl (lv_at hl 3 rfl) ?_
        obtain ⟨hCc, hPc, hDc, hFc⟩ := qac (ws' := []) hP hD hS hA [] (by decide +kernel) rfl
        refine va_calli (va_runS (As := [.int (1 - x22), .int x21, .int l1, .int l2]) (rest := []) ⟨hx, hb, hml, hown, hts⟩ (qGq l dC dI cyB cyI cyJ cyP H.size (1 - x22) x21 l1 l2 hw) (va_cwS 4 hts gX11_road_X11_hasBy rfl rfl rfl (by decide +kernel) ⟨nbq rfl, nbq rfl⟩) ⟨qab, qae hPc hK hDc hNw⟩ rfl rfl hl.1 rfl (lv_room (nbq rfl)) (qaa qhh 0 rfl) ⟨nbq rfl, nbq rfl⟩) hS (fun q _ h => hFc q h) hFc (fun r26 u t H1 locs ht hvm hw hB hz1 hk1 hS => ?_)
        obtain ⟨hP1, hK1, hD1⟩ := hB
        rw [ht] at hP1
        obtain ⟨hP, hD⟩ := qah (wr := (qgu a0 jbd jaQ jaD ja7 jby jbe jaM jaY jap jaK jal jam jax jao ja6 jaV ja8 jae jag jaf ja0 ja4 jaP jaw jaI jaZ jaG jaS jan jaU jaE jar jaL jah jaB jaa jaz jaH jab ja2 z0_s jaq jai jaO jaA jat jau jav jaj jas jaJ jak jad jay jac jaQ cyI ja9)) (w1 := []) (wn := (qgu a0 jbd jaQ jaD ja7 jby jbe jaM jaY jap jaK jal jam jax jao ja6 jaV ja8 jae jag jaf ja0 ja4 jaP jaw jaI jaZ jaG jaS jan jaU jaE jar jaL jah jaB jaa jaz jaH jab ja2 z0_s jaq jai jaO jaA jat jau jav jaj jas jaJ jak jad jay jac jaQ cyI ja9)) hP hD [] [0, 1] hCc rfl (by decide +kernel) (by decide +kernel) rfl hk1 hFc hP1 hD1
        generalize H1 = H at hP hS ⊢
        refine lv_iload hx hb (qaa qhh 1 rfl) (lv_at hl 0 rfl) ?_
        refine lv_iload hx hb (qaa qhh 2 rfl) (lv_at hl 1 rfl) ?_
        refine lv_iload_n hx hb (qaa qhh 3 rfl) rfl (lv_at hl 2 rfl) ?_
        refine lv_iload_n hx hb (qaa qhh 4 rfl) rfl (lv_at hl 3 rfl) ?_
        obtain ⟨hCc, hPc, hDc, hFc⟩ := qac (ws' := []) hP hD hS hA [] (by decide +kernel) rfl
        refine va_calli (va_runS (As := [.int x22, .int x21, .int l1, .int l2]) (rest := [.int r26]) ⟨hx, hb, hml, hown, hts⟩ (qGq l dC dI cyB cyI cyJ cyP H.size x22 x21 l1 l2 hw) (va_cwS 4 hts gX11_road_X11_hasBy rfl rfl rfl (by decide +kernel) ⟨nbq rfl, nbq rfl⟩) ⟨qab, qae hPc hK hDc hNw⟩ rfl rfl hl.1 rfl (lv_room (nbq rfl)) (qaa qhh 5 rfl) ⟨nbq rfl, nbq rfl⟩) hS (fun q _ h => hFc q h) hFc (fun r27 u t H1 locs ht hvm hw hB hz1 hk1 hS => ?_)
        obtain ⟨hP1, hK1, hD1⟩ := hB
        rw [ht] at hP1
        obtain ⟨hP, hD⟩ := qah (wr := (qgu a0 jbd jaQ jaD ja7 jby jbe jaM jaY jap jaK jal jam jax jao ja6 jaV ja8 jae jag jaf ja0 ja4 jaP jaw jaI jaZ jaG jaS jan jaU jaE jar jaL jah jaB jaa jaz jaH jab ja2 z0_s jaq jai jaO jaA jat jau jav jaj jas jaJ jak jad jay jac jaQ cyI ja9)) (w1 := []) (wn := (qgu a0 jbd jaQ jaD ja7 jby jbe jaM jaY jap jaK jal jam jax jao ja6 jaV ja8 jae jag jaf ja0 ja4 jaP jaw jaI jaZ jaG jaS jan jaU jaE jar jaL jah jaB jaa jaz jaH jab ja2 z0_s jaq jai jaO jaA jat jau jav jaj jas jaJ jak jad jay jac jaQ cyI ja9)) hP hD [] [0, 1] hCc rfl (by decide +kernel) (by decide +kernel) rfl hk1 hFc hP1 hD1
        generalize H1 = H at hP hS ⊢
        refine lv_icmp_le (tgt := 126) hx hb (qaa qhh 6 rfl) (by decide) (fun c28 => ?_) (fun c28 => ?_)
        · have hw := hw.1 c28
          obtain ⟨x29, ex29⟩ : ∃ y : Int32, y = l4 + 1 := ⟨_, rfl⟩
          have hw := hw x29 ex29
          refine lv_iinc (v := x29) (lv' := [(4, .int x29), (8, .int x22), (7, .int x21), (1, .int l1), (2, .int l2), (3, .int l3), (5, .int l5), (6, .int l6)]) hx hb (qaa qhh 8 rfl) hl (k := 5) rfl (by rw [ex29]; rfl) (by decide) rfl (fun ls hl => ?_)
          refine lv_iload hx hb (qaa qhh 9 rfl) (lv_at hl 6 rfl) ?_
          refine lv_iconst (v := (-1)) hx hb (qaa qhh 10 rfl) (by decide) ?_
          refine lv_icmp_ne (tgt := 146) hx hb (qaa qhh 11 rfl) (by decide) (fun c30 => ?_) (fun c30 => ?_)
          · have hw := hw.1 c30
            refine lv_iload hx hb (qaa qgC 2 rfl) (lv_at hl 6 rfl) ?_
            exact q1A dC dI cyB cyI cyJ cyP a0 jaQ jaD ja7 jby jbe jaM jaY jap jaK jal jam jax jao ja6 jaV ja8 jae jag jaf ja0 ja4 jaP jaw jaI jaZ jaG jaS jan jaU jaE jar jaL jah jaB jaa jaz jaH jab ja2 z0_s jaq jai jaO jaA jat jau jav jaj jas jaJ jak jad jay jac Q (qqt Q n) ih C0 _ _ _ jbd ja9 l1 l2 l3 x29 l6 l5 hP hD hS (lv_sub hl [3, 4, 5, 0, 7] rfl) hw
          · have hw := hw.2 c30
            refine lv_bipush (v := 10) hx hb (qaa qhh 12 rfl) (by decide) ?_
            refine lv_iload hx hb (qaa qhh 13 rfl) (lv_at hl 2 rfl) ?_
            refine lv_imul hx hb (qaa qhh 14 rfl) ?_
            refine lv_iload hx hb (qaa qhh 15 rfl) (lv_at hl 1 rfl) ?_
            refine lv_iadd hx hb (qaa qgC 0 rfl) ?_
            refine lv_goto (tgt := 148) hx hb (qaa qgC 1 rfl) (by decide) ?_
            exact q1A dC dI cyB cyI cyJ cyP a0 jaQ jaD ja7 jby jbe jaM jaY jap jaK jal jam jax jao ja6 jaV ja8 jae jag jaf ja0 ja4 jaP jaw jaI jaZ jaG jaS jan jaU jaE jar jaL jah jaB jaa jaz jaH jab ja2 z0_s jaq jai jaO jaA jat jau jav jaj jas jaJ jak jad jay jac Q (qqt Q n) ih C0 _ _ _ jbd ja9 l1 l2 l3 x29 l6 ((10 * x21) + x22) hP hD hS (lv_sub hl [3, 4, 5, 0, 7] rfl) hw
        · have hw := hw.2 c28
          refine lv_goto (tgt := 150) hx hb (qaa qhh 7 rfl) (by decide) ?_
          exact qRi dC dI cyB cyI cyJ cyP a0 jaQ jaD ja7 jby jbe jaM jaY jap jaK jal jam jax jao ja6 jaV ja8 jae jag jaf ja0 ja4 jaP jaw jaI jaZ jaG jaS jan jaU jaE jar jaL jah jaB jaa jaz jaH jab ja2 z0_s jaq jai jaO jaA jat jau jav jaj jas jaJ jak jad jay jac Q (qqt Q n) ih C0 _ _ _ jbd ja9 l1 l2 l3 l4 l5 l6 hP hD hS (lv_sub hl [2, 3, 4, 5, 6, 7] rfl) hw
set_option maxHeartbeats 4000000 in
set_option maxRecDepth 100000 in
theorem q79 {p : Program} {l : Launch} {e : Env} {s : State} {m : MethodId} {args : Array Value} {below : List Frame} {meth : Method} {c : Code} {A : Nat → Prop} (dC : Nat → ClassId) (dI : Nat → Nat → Nat) (cyB cyI cyJ cyP : ClassId) (a0 jaQ : Nat) (jaD ja7 jby jbe jaM jaY jap jaK jal jam jax jao ja6 jaV ja8 jae jag jaf ja0 ja4 jaP jaw jaI jaZ jaG jaS jan jaU jaE jar jaL jah jaB jaa jaz jaH jab ja2 z0_s jaq jai jaO jaA jat jau jav jaj jas jaJ jak jad jay jac : Value) (Q : Int32 → Int32 → NI → Prop) (C0 : cfx p s m args meth c cX11_road (some .int) wsX11_road RX11 9 A (dC, dI) (kT cyB cyI cyJ cyP)) : ∀ (H : Heap) (locs : List Loc) (ls : Array Slot) (jbd : Int32) (ja9 : NI) (l1 l2 l3 s1 : Int32), va_P (dC, dI) vwCl (qgu a0 jbd jaQ jaD ja7 jby jbe jaM jaY jap jaK jal jam jax jao ja6 jaV ja8 jae jag jaf ja0 ja4 jaP jaw jaI jaZ jaG jaS jan jaU jaE jar jaL jah jaB jaa jaz jaH jab ja2 z0_s jaq jai jaO jaA jat jau jav jaj jas jaJ jak jad jay jac jaQ cyI ja9) H → va_D A (qgu a0 jbd jaQ jaD ja7 jby jbe jaM jaY jap jaK jal jam jax jao ja6 jaV ja8 jae jag jaf ja0 ja4 jaP jaw jaI jaZ jaG jaS jan jaU jaE jar jaL jah jaB jaa jaz jaH jab ja2 z0_s jaq jai jaO jaA jat jau jav jaj jas jaJ jak jad jay jac jaQ cyI ja9) → va_S A s.heap H locs → lv_has ls 9 [(1, .int l1), (2, .int l2), (3, .int l3)] → qUi Q jbd ja9 l1 l2 l3 s1 → W p l e (headSpec wsX11_road ({ frames := 1, cells := 0, slots := 0, locals := 23 })).room s m args below meth c H locs 0 0 (MQ below (va_Qi (fun (r : Int32) (u : Int32 × NI) => Q r u.1 u.2) (cB (dC, dI) (kT cyB cyI cyJ cyP) A (fun u : Int32 × NI => ((qgu a0 u.1 jaQ jaD ja7 jby jbe jaM jaY jap jaK jal jam jax jao ja6 jaV ja8 jae jag jaf ja0 ja4 jaP jaw jaI jaZ jaG jaS jan jaU jaE jar jaL jah jaB jaa jaz jaH jab ja2 z0_s jaq jai jaO jaA jat jau jav jaj jas jaJ jak jad jay jac jaQ cyI u.2) : va_W))) A) args s 0 0 A) (F0 m 40 ls [.int s1, .ref a0]) := by
  obtain ⟨hx, hb, hr, hts, hown, hlocks, hml, hA, hK, hNw⟩ := id C0
  intro H locs ls jbd ja9 l1 l2 l3 s1 hP hD hS hl hw
  refine lv_iconst (v := 1) hx hb (qaa qjg 6 rfl) (by decide) ?_
  refine lv_iconst (v := 1) hx hb (qaa qjg 7 rfl) (by decide) ?_
  obtain ⟨hCc, hPc, hDc, hFc⟩ := qac (ws' := (qgu a0 jbd jaQ jaD ja7 jby jbe jaM jaY jap jaK jal jam jax jao ja6 jaV ja8 jae jag jaf ja0 ja4 jaP jaw jaI jaZ jaG jaS jan jaU jaE jar jaL jah jaB jaa jaz jaH jab ja2 z0_s jaq jai jaO jaA jat jau jav jaj jas jaJ jak jad jay jac jaQ cyI ja9)) hP hD hS hA [0, 1] (by decide +kernel) rfl
  refine va_calli (va_runV (As := [.int s1, .int 1, .int 1]) (rest := []) ⟨hx, hb, hml, hown, hts⟩ (qkE l dC dI cyB cyI cyJ cyP a0 jaQ H.size (jaD) (ja7) (jby) (jbe) (jaM) (jaY) (jap) (jaK) (jal) (jam) (jax) (jao) (ja6) (jaV) (ja8) (jae) (jag) (jaf) (ja0) (ja4) (jaP) (jaw) (jaI) (jaZ) (jaG) (jaS) (jan) (jaU) (jaE) (jar) (jaL) (jah) (jaB) (jaa) (jaz) (jaH) (jab) (ja2) (z0_s) (jaq) (jai) (jaO) (jaA) (jat) (jau) (jav) (jaj) (jas) (jaJ) (jak) (jad) (jay) (jac) jbd ja9 s1 1 1 hw) (cwV 3 hts gX11_road_X11_may rfl rfl rfl (by decide +kernel) ⟨nbq rfl, nbq rfl⟩) ⟨qab, va_recv (q := (RX11, TX11, 55)) hK hPc (ci := 11) (q0 := 0) rfl rfl, qae hPc hK hDc hNw⟩ rfl rfl hl.1 rfl (lv_room (nbq rfl)) (qaa qjg 8 rfl) ⟨nbq rfl, nbq rfl⟩) hS (fun q _ h => hFc q h) hFc (fun r9 u t H1 locs ht hvm hw hB hz1 hk1 hS => ?_)
  obtain ⟨x7, f8⟩ := u
  obtain ⟨hP1, hK1, hD1⟩ := hB
  rw [ht] at hP1
  obtain ⟨hP, hD⟩ := qah (wr := []) (w1 := (qgu a0 x7 jaQ jaD ja7 jby jbe jaM jaY jap jaK jal jam jax jao ja6 jaV ja8 jae jag jaf ja0 ja4 jaP jaw jaI jaZ jaG jaS jan jaU jaE jar jaL jah jaB jaa jaz jaH jab ja2 z0_s jaq jai jaO jaA jat jau jav jaj jas jaJ jak jad jay jac jaQ cyI f8)) (wn := (qgu a0 x7 jaQ jaD ja7 jby jbe jaM jaY jap jaK jal jam jax jao ja6 jaV ja8 jae jag jaf ja0 ja4 jaP jaw jaI jaZ jaG jaS jan jaU jaE jar jaL jah jaB jaa jaz jaH jab ja2 z0_s jaq jai jaO jaA jat jau jav jaj jas jaJ jak jad jay jac jaQ cyI f8)) hP hD [0, 1] [] hCc rfl (by decide +kernel) (by decide +kernel) rfl hk1 hFc hP1 hD1
  generalize H1 = H at hP hS ⊢
  refine lv_if_ne (tgt := 50) hx hb (qaa qjg 9 rfl) (by decide) (fun c10 => ?_) (fun c10 => ?_)
  · have hw := hw.1 c10
    refine lv_iconst (v := 0) hx hb (qaa qjg 12 rfl) (by decide) ?_
    refine lv_istore (lv' := [(4, .int 0), (1, .int l1), (2, .int l2), (3, .int l3)]) hx hb (qaa qjg 13 rfl) hl (by decide) rfl (fun ls hl => ?_)
    refine lv_iconst (v := (-1)) hx hb (qaa qjg 14 rfl) (by decide) ?_
    refine lv_istore (lv' := [(5, .int (-1)), (4, .int 0), (1, .int l1), (2, .int l2), (3, .int l3)]) hx hb (qaa qjg 15 rfl) hl (by decide) rfl (fun ls hl => ?_)
    refine lv_iconst (v := 0) hx hb (qaa qjO 0 rfl) (by decide) ?_
    refine lv_istore (lv' := [(6, .int 0), (5, .int (-1)), (4, .int 0), (1, .int l1), (2, .int l2), (3, .int l3)]) hx hb (qaa qjO 1 rfl) hl (by decide) rfl (fun ls hl => ?_)
    obtain ⟨n9, hw⟩ := hw
    exact qaH8 dC dI cyB cyI cyJ cyP a0 jaQ jaD ja7 jby jbe jaM jaY jap jaK jal jam jax jao ja6 jaV ja8 jae jag jaf ja0 ja4 jaP jaw jaI jaZ jaG jaS jan jaU jaE jar jaL jah jaB jaa jaz jaH jab ja2 z0_s jaq jai jaO jaA jat jau jav jaj jas jaJ jak jad jay jac Q C0 n9 _ _ _ x7 f8 l1 l2 l3 0 (-1) 0 hP hD hS (lv_sub hl [3, 4, 5, 2, 1, 0] rfl) hw
  · have hw := hw.2 c10
    refine lv_iconst (v := 0) hx hb (qaa qjg 10 rfl) (by decide) ?_
    exact ((W.iret (v := 0) hx hb hr (fun t ht hW => ⟨⟨0, (x7, f8), rfl, hw, by rw [ht]; exact hP, va_K.moved hW.alike hK, hD⟩, hS.F ht⟩) hS.2.2 (qaa qjg 11 rfl)))
set_option maxHeartbeats 4000000 in
set_option maxRecDepth 100000 in
theorem qTE {p : Program} {l : Launch} {e : Env} {s : State} {m : MethodId} {args : Array Value} {below : List Frame} {meth : Method} {c : Code} {A : Nat → Prop} (dC : Nat → ClassId) (dI : Nat → Nat → Nat) (cyB cyI cyJ cyP : ClassId) (a0 jaQ : Nat) (jaD ja7 jby jbe jaM jaY jap jaK jal jam jax jao ja6 jaV ja8 jae jag jaf ja0 ja4 jaP jaw jaI jaZ jaG jaS jan jaU jaE jar jaL jah jaB jaa jaz jaH jab ja2 z0_s jaq jai jaO jaA jat jau jav jaj jas jaJ jak jad jay jac : Value) (Q : Int32 → Int32 → NI → Prop) (C0 : cfx p s m args meth c cX11_road (some .int) wsX11_road RX11 9 A (dC, dI) (kT cyB cyI cyJ cyP)) : ∀ (H : Heap) (locs : List Loc) (ls : Array Slot) (jbd : Int32) (ja9 : NI) (l1 l2 l3 : Int32), va_P (dC, dI) vwCl (qgu a0 jbd jaQ jaD ja7 jby jbe jaM jaY jap jaK jal jam jax jao ja6 jaV ja8 jae jag jaf ja0 ja4 jaP jaw jaI jaZ jaG jaS jan jaU jaE jar jaL jah jaB jaa jaz jaH jab ja2 z0_s jaq jai jaO jaA jat jau jav jaj jas jaJ jak jad jay jac jaQ cyI ja9) H → va_D A (qgu a0 jbd jaQ jaD ja7 jby jbe jaM jaY jap jaK jal jam jax jao ja6 jaV ja8 jae jag jaf ja0 ja4 jaP jaw jaI jaZ jaG jaS jan jaU jaE jar jaL jah jaB jaa jaz jaH jab ja2 z0_s jaq jai jaO jaA jat jau jav jaj jas jaJ jak jad jay jac jaQ cyI ja9) → va_S A s.heap H locs → lv_has ls 9 [(1, .int l1), (2, .int l2), (3, .int l3)] → qKn Q jbd ja9 l1 l2 l3 → W p l e (headSpec wsX11_road ({ frames := 1, cells := 0, slots := 0, locals := 23 })).room s m args below meth c H locs 0 0 (MQ below (va_Qi (fun (r : Int32) (u : Int32 × NI) => Q r u.1 u.2) (cB (dC, dI) (kT cyB cyI cyJ cyP) A (fun u : Int32 × NI => ((qgu a0 u.1 jaQ jaD ja7 jby jbe jaM jaY jap jaK jal jam jax jao ja6 jaV ja8 jae jag jaf ja0 ja4 jaP jaw jaI jaZ jaG jaS jan jaU jaE jar jaL jah jaB jaa jaz jaH jab ja2 z0_s jaq jai jaO jaA jat jau jav jaj jas jaJ jak jad jay jac jaQ cyI u.2) : va_W))) A) args s 0 0 A) (F0 m 39 ls [.ref a0]) := by
  obtain ⟨hx, hb, hr, hts, hown, hlocks, hml, hA, hK, hNw⟩ := id C0
  intro H locs ls jbd ja9 l1 l2 l3 hP hD hS hl hw
  refine lv_iconst (v := 0) hx hb (qaa qjg 5 rfl) (by decide) ?_
  exact q79 dC dI cyB cyI cyJ cyP a0 jaQ jaD ja7 jby jbe jaM jaY jap jaK jal jam jax jao ja6 jaV ja8 jae jag jaf ja0 ja4 jaP jaw jaI jaZ jaG jaS jan jaU jaE jar jaL jah jaB jaa jaz jaH jab ja2 z0_s jaq jai jaO jaA jat jau jav jaj jas jaJ jak jad jay jac Q C0 _ _ _ jbd ja9 l1 l2 l3 0 hP hD hS (lv_sub hl [0, 1, 2] rfl) hw
set_option maxHeartbeats 4000000 in
set_option maxRecDepth 100000 in
theorem qaWI (l : Launch) (dC : Nat → ClassId) (dI : Nat → Nat → Nat) (cyB cyI cyJ cyP : ClassId) (a0 jaQ sz : Nat) (jaD ja7 jby jbe jaM jaY jap jaK jal jam jax jao ja6 jaV ja8 jae jag jaf ja0 ja4 jaP jaw jaI jaZ jaG jaS jan jaU jaE jar jaL jah jaB jaa jaz jaH jab ja2 z0_s jaq jai jaO jaA jat jau jav jaj jas jaJ jak jad jay jac : Value) (jbd : Int32) (ja9 : NI) (p1 p2 p3 : Int32) {Q : Int32 → Int32 → NI → Prop} (hw : qaaO jbd ja9 p1 p2 p3 Q) : Met l yX11_road wsX11_road ({ frames := 1, cells := 0, slots := 0, locals := 23 }) (va_Pc [.ref a0, .int p1, .int p2, .int p3] (cPc (dC, dI) (kT cyB cyI cyJ cyP) (qgu a0 jbd jaQ jaD ja7 jby jbe jaM jaY jap jaK jal jam jax jao ja6 jaV ja8 jae jag jaf ja0 ja4 jaP jaw jaI jaZ jaG jaS jan jaU jaE jar jaL jah jaB jaa jaz jaH jab ja2 z0_s jaq jai jaO jaA jat jau jav jaj jas jaJ jak jad jay jac jaQ cyI ja9) sz)) (va_Qi (fun (r : Int32) (u : Int32 × NI) => Q r u.1 u.2) (cB (dC, dI) (kT cyB cyI cyJ cyP) (va_A (qgu a0 jbd jaQ jaD ja7 jby jbe jaM jaY jap jaK jal jam jax jao ja6 jaV ja8 jae jag jaf ja0 ja4 jaP jaw jaI jaZ jaG jaS jan jaU jaE jar jaL jah jaB jaa jaz jaH jab ja2 z0_s jaq jai jaO jaA jat jau jav jaj jas jaJ jak jad jay jac jaQ cyI ja9) sz) (fun u : Int32 × NI => ((qgu a0 u.1 jaQ jaD ja7 jby jbe jaM jaY jap jaK jal jam jax jao ja6 jaV ja8 jae jag jaf ja0 ja4 jaP jaw jaI jaZ jaG jaS jan jaU jaE jar jaL jah jaB jaa jaz jaH jab ja2 z0_s jaq jai jaO jaA jat jau jav jaj jas jaJ jak jad jay jac jaQ cyI u.2) : va_W))) (va_A (qgu a0 jbd jaQ jaD ja7 jby jbe jaM jaY jap jaK jal jam jax jao ja6 jaV ja8 jae jag jaf ja0 ja4 jaP jaw jaI jaZ jaG jaS jan jaU jaE jar jaL jah jaB jaa jaz jaH jab ja2 z0_s jaq jai jaO jaA jat jau jav jaj jas jaJ jak jad jay jac jaQ cyI ja9) sz)) 0 0 (va_A (qgu a0 jbd jaQ jaD ja7 jby jbe jaM jaY jap jaK jal jam jax jao ja6 jaV ja8 jae jag jaf ja0 ja4 jaP jaw jaI jaZ jaG jaS jan jaU jaE jar jaL jah jaB jaa jaz jaH jab ja2 z0_s jaq jai jaO jaA jat jau jav jaj jas jaJ jak jad jay jac jaQ cyI ja9) sz) := by
  refine Met.ofW (cc := cX11_road) (maxL := 9) (ret := (some .int)) (by decide) rfl ?_
  intro p e s m args below meth c s₁ B hml hv
  obtain ⟨rfl, hsz, hP, hK, hD0, hNw⟩ := hv
  have hx := B.exec
  have hb := B.bytes
  have hr := B.returns
  have hts := atoms_spec (ws := wsX11_road) B.pre
  have hown : s.vm.findClass RX11 = some m.cls := findClass_of_methodNamed B.named
  have hlocks := B.notSynchronized
  subst hsz
  have hD := hD0.self (sz := s.heap.size)
  generalize hAe : va_A (qgu a0 jbd jaQ jaD ja7 jby jbe jaM jaY jap jaK jal jam jax jao ja6 jaV ja8 jae jag jaf ja0 ja4 jaP jaw jaI jaZ jaG jaS jan jaU jaE jar jaL jah jaB jaa jaz jaH jab ja2 z0_s jaq jai jaO jaA jat jau jav jaj jas jaJ jak jad jay jac jaQ cyI ja9) s.heap.size = A at hD ⊢
  have hA : ∀ q : Nat, s.heap.size ≤ q → A q := fun q h => by rw [← hAe]; exact Or.inr h
  have hS : va_S A s.heap s.heap [] := va_S.rf
  have hP : va_P (dC, dI) vwCl (qgu a0 jbd jaQ jaD ja7 jby jbe jaM jaY jap jaK jal jam jax jao ja6 jaV ja8 jae jag jaf ja0 ja4 jaP jaw jaI jaZ jaG jaS jan jaU jaE jar jaL jah jaB jaa jaz jaH jab ja2 z0_s jaq jai jaO jaA jat jau jav jaj jas jaJ jak jad jay jac jaQ cyI ja9) s.heap := hP
  have hl := lv_entry ([.ref a0, .int p1, .int p2, .int p3]) (n := 9) (nbq rfl)
  rw [lg_entry_eq]
  generalize (lg_sl ([.ref a0, .int p1, .int p2, .int p3]) ++ List.replicate (9 - (lg_sl ([.ref a0, .int p1, .int p2, .int p3])).length) Slot.unset).toArray = ls at hl ⊢
  have hl : lv_has ls 9 [(0, .ref a0), (1, .int p1), (2, .int p2), (3, .int p3)] := hl
  have C0 : cfx p s m _ meth c cX11_road (some .int) wsX11_road RX11 9 A (dC, dI) (kT cyB cyI cyJ cyP) := ⟨hx, hb, hr, hts, hown, hlocks, hml, hA, hK, hNw⟩
  clear hAe
  obtain ⟨H, hH⟩ : ∃ H, H = s.heap := ⟨_, rfl⟩
  rw [← hH] at hP ⊢
  have hS : va_S A s.heap H [] := by rw [hH]; exact va_S.rf
  have hS := hS
  refine lv_aload_n hx hb (qaa ql6 0 rfl) rfl (lv_at hl 0 rfl) ?_
  refine lv_iconst (v := 0) hx hb (qaa ql6 1 rfl) (by decide) ?_
  refine va_put (D := (dC, dI)) (ci := 11) (v := .int 0) (ty := .int) (C := RX11) (T := TX11) (N := 55) hx hb hts qaCx tyX11 tyX11_ok nmX11 hown hK hP hD hS 0 rfl rfl 0 (by decide) (hts _ qaJk) (fun _ h9 => h9) rfl (by decide +kernel) rfl rfl (nbq rfl) (qaa ql6 2 rfl) (fun H locs hP hD hS => ?_)
  have hP : va_P (dC, dI) vwCl (qgu a0 0 jaQ jaD ja7 jby jbe jaM jaY jap jaK jal jam jax jao ja6 jaV ja8 jae jag jaf ja0 ja4 jaP jaw jaI jaZ jaG jaS jan jaU jaE jar jaL jah jaB jaa jaz jaH jab ja2 z0_s jaq jai jaO jaA jat jau jav jaj jas jaJ jak jad jay jac jaQ cyI ja9) H := hP
  have hD : va_D A (qgu a0 0 jaQ jaD ja7 jby jbe jaM jaY jap jaK jal jam jax jao ja6 jaV ja8 jae jag jaf ja0 ja4 jaP jaw jaI jaZ jaG jaS jan jaU jaE jar jaL jah jaB jaa jaz jaH jab ja2 z0_s jaq jai jaO jaA jat jau jav jaj jas jaJ jak jad jay jac jaQ cyI ja9) := hD
  refine lv_aload_n hx hb (qaa ql6 3 rfl) rfl (lv_at hl 0 rfl) ?_
  refine lv_iload_n hx hb (qaa ql6 4 rfl) rfl (lv_at hl 1 rfl) ?_
  refine lv_iconst (v := 0) hx hb (qaa ql6 5 rfl) (by decide) ?_
  refine lv_bipush (v := 99) hx hb (qaa ql6 6 rfl) (by decide) ?_
  obtain ⟨hCc, hPc, hDc, hFc⟩ := qac (ws' := []) hP hD hS hA [] (by decide +kernel) rfl
  refine va_calli (va_runS (As := [.int p1, .int 0, .int 99]) (rest := [.ref a0]) ⟨hx, hb, hml, hown, hts⟩ (qbG l dC dI cyB cyI cyJ cyP H.size p1 0 99 hw) (va_cwS 3 hts gX11_road_X11_within rfl rfl rfl (by decide +kernel) ⟨nbq rfl, nbq rfl⟩) ⟨qab, qae hPc hK hDc hNw⟩ rfl rfl hl.1 rfl (lv_room (nbq rfl)) (qaa ql6 7 rfl) ⟨nbq rfl, nbq rfl⟩) hS (fun q _ h => hFc q h) hFc (fun r1 u t H1 locs ht hvm hw hB hz1 hk1 hS => ?_)
  obtain ⟨hP1, hK1, hD1⟩ := hB
  rw [ht] at hP1
  obtain ⟨hP, hD⟩ := qah (wr := (qgu a0 0 jaQ jaD ja7 jby jbe jaM jaY jap jaK jal jam jax jao ja6 jaV ja8 jae jag jaf ja0 ja4 jaP jaw jaI jaZ jaG jaS jan jaU jaE jar jaL jah jaB jaa jaz jaH jab ja2 z0_s jaq jai jaO jaA jat jau jav jaj jas jaJ jak jad jay jac jaQ cyI ja9)) (w1 := []) (wn := (qgu a0 0 jaQ jaD ja7 jby jbe jaM jaY jap jaK jal jam jax jao ja6 jaV ja8 jae jag jaf ja0 ja4 jaP jaw jaI jaZ jaG jaS jan jaU jaE jar jaL jah jaB jaa jaz jaH jab ja2 z0_s jaq jai jaO jaA jat jau jav jaj jas jaJ jak jad jay jac jaQ cyI ja9)) hP hD [] [0, 1] hCc rfl (by decide +kernel) (by decide +kernel) rfl hk1 hFc hP1 hD1
  generalize H1 = H at hP hS ⊢
  refine lv_if_eq (tgt := 39) hx hb (qaa ql6 8 rfl) (by decide) (fun c2 => ?_) (fun c2 => ?_)
  · have hw := hw.1 c2
    exact qTE dC dI cyB cyI cyJ cyP a0 jaQ jaD ja7 jby jbe jaM jaY jap jaK jal jam jax jao ja6 jaV ja8 jae jag jaf ja0 ja4 jaP jaw jaI jaZ jaG jaS jan jaU jaE jar jaL jah jaB jaa jaz jaH jab ja2 z0_s jaq jai jaO jaA jat jau jav jaj jas jaJ jak jad jay jac Q C0 _ _ _ 0 ja9 p1 p2 p3 hP hD hS (lv_sub hl [1, 2, 3] rfl) hw
  · have hw := hw.2 c2
    refine lv_iload_n hx hb (qaa ql6 9 rfl) rfl (lv_at hl 2 rfl) ?_
    refine lv_iconst (v := 0) hx hb (qaa ql6 10 rfl) (by decide) ?_
    refine lv_bipush (v := 99) hx hb (qaa ql6 11 rfl) (by decide) ?_
    obtain ⟨hCc, hPc, hDc, hFc⟩ := qac (ws' := []) hP hD hS hA [] (by decide +kernel) rfl
    refine va_calli (va_runS (As := [.int p2, .int 0, .int 99]) (rest := [.ref a0]) ⟨hx, hb, hml, hown, hts⟩ (qbG l dC dI cyB cyI cyJ cyP H.size p2 0 99 hw) (va_cwS 3 hts gX11_road_X11_within rfl rfl rfl (by decide +kernel) ⟨nbq rfl, nbq rfl⟩) ⟨qab, qae hPc hK hDc hNw⟩ rfl rfl hl.1 rfl (lv_room (nbq rfl)) (qaa ql6 12 rfl) ⟨nbq rfl, nbq rfl⟩) hS (fun q _ h => hFc q h) hFc (fun r3 u t H1 locs ht hvm hw hB hz1 hk1 hS => ?_)
    obtain ⟨hP1, hK1, hD1⟩ := hB
    rw [ht] at hP1
    obtain ⟨hP, hD⟩ := qah (wr := (qgu a0 0 jaQ jaD ja7 jby jbe jaM jaY jap jaK jal jam jax jao ja6 jaV ja8 jae jag jaf ja0 ja4 jaP jaw jaI jaZ jaG jaS jan jaU jaE jar jaL jah jaB jaa jaz jaH jab ja2 z0_s jaq jai jaO jaA jat jau jav jaj jas jaJ jak jad jay jac jaQ cyI ja9)) (w1 := []) (wn := (qgu a0 0 jaQ jaD ja7 jby jbe jaM jaY jap jaK jal jam jax jao ja6 jaV ja8 jae jag jaf ja0 ja4 jaP jaw jaI jaZ jaG jaS jan jaU jaE jar jaL jah jaB jaa jaz jaH jab ja2 z0_s jaq jai jaO jaA jat jau jav jaj jas jaJ jak jad jay jac jaQ cyI ja9)) hP hD [] [0, 1] hCc rfl (by decide +kernel) (by decide +kernel) rfl hk1 hFc hP1 hD1
    generalize H1 = H at hP hS ⊢
    refine lv_if_eq (tgt := 39) hx hb (qaa ql6 13 rfl) (by decide) (fun c4 => ?_) (fun c4 => ?_)
    · have hw := hw.1 c4
      exact qTE dC dI cyB cyI cyJ cyP a0 jaQ jaD ja7 jby jbe jaM jaY jap jaK jal jam jax jao ja6 jaV ja8 jae jag jaf ja0 ja4 jaP jaw jaI jaZ jaG jaS jan jaU jaE jar jaL jah jaB jaa jaz jaH jab ja2 z0_s jaq jai jaO jaA jat jau jav jaj jas jaJ jak jad jay jac Q C0 _ _ _ 0 ja9 p1 p2 p3 hP hD hS (lv_sub hl [1, 2, 3] rfl) hw
    · have hw := hw.2 c4
      refine lv_iload_n hx hb (qaa ql6 14 rfl) rfl (lv_at hl 3 rfl) ?_
      refine lv_iconst (v := 0) hx hb (qaa ql6 15 rfl) (by decide) ?_
      refine lv_iconst (v := 2) hx hb (qaa qjg 0 rfl) (by decide) ?_
      obtain ⟨hCc, hPc, hDc, hFc⟩ := qac (ws' := []) hP hD hS hA [] (by decide +kernel) rfl
      refine va_calli (va_runS (As := [.int p3, .int 0, .int 2]) (rest := [.ref a0]) ⟨hx, hb, hml, hown, hts⟩ (qbG l dC dI cyB cyI cyJ cyP H.size p3 0 2 hw) (va_cwS 3 hts gX11_road_X11_within rfl rfl rfl (by decide +kernel) ⟨nbq rfl, nbq rfl⟩) ⟨qab, qae hPc hK hDc hNw⟩ rfl rfl hl.1 rfl (lv_room (nbq rfl)) (qaa qjg 1 rfl) ⟨nbq rfl, nbq rfl⟩) hS (fun q _ h => hFc q h) hFc (fun r5 u t H1 locs ht hvm hw hB hz1 hk1 hS => ?_)
      obtain ⟨hP1, hK1, hD1⟩ := hB
      rw [ht] at hP1
      obtain ⟨hP, hD⟩ := qah (wr := (qgu a0 0 jaQ jaD ja7 jby jbe jaM jaY jap jaK jal jam jax jao ja6 jaV ja8 jae jag jaf ja0 ja4 jaP jaw jaI jaZ jaG jaS jan jaU jaE jar jaL jah jaB jaa jaz jaH jab ja2 z0_s jaq jai jaO jaA jat jau jav jaj jas jaJ jak jad jay jac jaQ cyI ja9)) (w1 := []) (wn := (qgu a0 0 jaQ jaD ja7 jby jbe jaM jaY jap jaK jal jam jax jao ja6 jaV ja8 jae jag jaf ja0 ja4 jaP jaw jaI jaZ jaG jaS jan jaU jaE jar jaL jah jaB jaa jaz jaH jab ja2 z0_s jaq jai jaO jaA jat jau jav jaj jas jaJ jak jad jay jac jaQ cyI ja9)) hP hD [] [0, 1] hCc rfl (by decide +kernel) (by decide +kernel) rfl hk1 hFc hP1 hD1
      generalize H1 = H at hP hS ⊢
      refine lv_if_eq (tgt := 39) hx hb (qaa qjg 2 rfl) (by decide) (fun c6 => ?_) (fun c6 => ?_)
      · have hw := hw.1 c6
        exact qTE dC dI cyB cyI cyJ cyP a0 jaQ jaD ja7 jby jbe jaM jaY jap jaK jal jam jax jao ja6 jaV ja8 jae jag jaf ja0 ja4 jaP jaw jaI jaZ jaG jaS jan jaU jaE jar jaL jah jaB jaa jaz jaH jab ja2 z0_s jaq jai jaO jaA jat jau jav jaj jas jaJ jak jad jay jac Q C0 _ _ _ 0 ja9 p1 p2 p3 hP hD hS (lv_sub hl [1, 2, 3] rfl) hw
      · have hw := hw.2 c6
        refine lv_iconst (v := 1) hx hb (qaa qjg 3 rfl) (by decide) ?_
        refine lv_goto (tgt := 40) hx hb (qaa qjg 4 rfl) (by decide) ?_
        exact q79 dC dI cyB cyI cyJ cyP a0 jaQ jaD ja7 jby jbe jaM jaY jap jaK jal jam jax jao ja6 jaV ja8 jae jag jaf ja0 ja4 jaP jaw jaI jaZ jaG jaS jan jaU jaE jar jaL jah jaB jaa jaz jaH jab ja2 z0_s jaq jai jaO jaA jat jau jav jaj jas jaJ jak jad jay jac Q C0 _ _ _ 0 ja9 p1 p2 p3 1 hP hD hS (lv_sub hl [1, 2, 3] rfl) hw
