/-- worlds by their leaves -/
def qZ4 (x0 : Nat) (x1 : Value) (x2 : Nat) (x3 x4 x5 x6 x7 x8 x9 x10 x11 x12 : Value) (x13 : Nat) (x14 x15 x16 x17 x18 : Value) (x19 : Int32) (x20 x21 x22 : Nat) (x23 x24 x25 x26 x27 x28 : Value) (x29 : Int32) (x30 x31 x32 : Value) (x33 x34 x35 : Nat) (x36 : Int32) (x37 : Nat) (x38 : ClassId) (x39 : NI) (x40 : Nat) (x41 : ClassId) (x42 : NI) (x43 : Nat) (x44 : ClassId) (x45 : NI) (x46 : Nat) (x47 : ClassId) (x48 : NI) (x49 : Nat) (x50 : ClassId) (x51 : Nat) (x52 : Nat → Int64) : va_W := [(x0, .inr (10, [x1, .ref x2, x3, x4, x5, x6, x7, x8, x9, x10, x11, x12, .ref x13, x14, x15, x16, x17, x18, .int x19])), (x20, .inr (2, [.ref x21, .ref x22, x23, x24, x25, x26, x27, x28, .int x29, x30, x31, x32])), (x33, .inr (6, [.ref x34, .ref x35, .int x36])), (x37, .inl (x38, 8, .inl x39)), (x40, .inl (x41, 8, .inl x42)), (x43, .inl (x44, 1024, .inl x45)), (x46, .inl (x47, 8, .inl x48)), (x49, .inl (x50, x51, .inr (.inl x52)))]
def qa4m (x0 : Nat) (x1 : Value) (x2 : Nat) (x3 x4 x5 x6 x7 x8 x9 x10 x11 x12 : Value) (x13 : Nat) (x14 x15 x16 x17 x18 : Value) (x19 : Int32) (x20 x21 x22 : Nat) (x23 x24 x25 x26 x27 x28 : Value) (x29 : Int32) (x30 x31 x32 : Value) (x33 x34 x35 : Nat) (x36 : Int32) (x37 : Nat) (x38 : ClassId) (x39 : NI) (x40 : Nat) (x41 : ClassId) (x42 : NI) (x43 : Nat) (x44 : ClassId) (x45 : NI) (x46 : Nat) (x47 : ClassId) (x48 : NI) : va_W := [(x0, .inr (10, [x1, .ref x2, x3, x4, x5, x6, x7, x8, x9, x10, x11, x12, .ref x13, x14, x15, x16, x17, x18, .int x19])), (x20, .inr (2, [.ref x21, .ref x22, x23, x24, x25, x26, x27, x28, .int x29, x30, x31, x32])), (x33, .inr (6, [.ref x34, .ref x35, .int x36])), (x37, .inl (x38, 8, .inl x39)), (x40, .inl (x41, 8, .inl x42)), (x43, .inl (x44, 1024, .inl x45)), (x46, .inl (x47, 8, .inl x48))]
def qkC (x0 : Nat) (x1 x2 x3 x4 x5 x6 x7 x8 x9 x10 x11 x12 x13 x14 x15 x16 x17 x18 : Value) (x19 : Int32) : va_W := [(x0, .inr (10, [x1, x2, x3, x4, x5, x6, x7, x8, x9, x10, x11, x12, x13, x14, x15, x16, x17, x18, .int x19]))]
def qZy (x0 : Nat) (x1 x2 x3 x4 x5 x6 x7 x8 x9 x10 x11 x12 x13 x14 x15 x16 x17 x18 : Value) (x19 : Int32) (x20 : Nat) (x21 : ClassId) (x22 : Nat) (x23 : Nat → Int64) : va_W := [(x0, .inr (10, [x1, x2, x3, x4, x5, x6, x7, x8, x9, x10, x11, x12, x13, x14, x15, x16, x17, x18, .int x19])), (x20, .inl (x21, x22, .inr (.inl x23)))]
def q8n (x0 : Nat) (x1 x2 x3 x4 : Value) (x5 x6 : Nat) (x7 : Value) (x8 x9 x10 : Nat) (x11 : ClassId) (x12 : NI) (x13 x14 x15 : Nat) (x16 x17 x18 x19 x20 x21 : Value) (x22 x23 : Int32) (x24 : Value) (x25 : Int32) (x26 x27 x28 x29 x30 : Nat) (x31 : Int32) (x32 : Nat) (x33 : ClassId) (x34 : NI) (x35 : Nat) (x36 : ClassId) (x37 : NI) (x38 : Nat) (x39 : ClassId) (x40 : NI) (x41 : Nat) (x42 : ClassId) (x43 : NI) (x44 : Nat) (x45 : ClassId) (x46 : NI) (x47 : Nat) (x48 : ClassId) (x49 : NI) : va_W := [(x0, .inr (7, [x1, x2, x3, x4])), (x5, .inr (1, [.ref x6, x7, .ref x8, .ref x9])), (x10, .inl (x11, 64, .inl x12)), (x13, .inr (2, [.ref x14, .ref x15, x16, x17, x18, x19, x20, x21, .int x22, .int x23, x24, .int x25])), (x26, .inr (4, [.ref x27, .ref x28, .ref x29, .ref x30, .int x31])), (x32, .inl (x33, 8, .inl x34)), (x35, .inl (x36, 150, .inl x37)), (x38, .inl (x39, 150, .inl x40)), (x41, .inl (x42, 150, .inl x43)), (x44, .inl (x45, 8, .inl x46)), (x47, .inl (x48, 8, .inl x49))]
def qaL2 (x0 x1 : Nat) (x2 : Value) (x3 x4 x5 : Nat) (x6 : ClassId) (x7 : NI) : va_W := [(x0, .inr (1, [.ref x1, x2, .ref x3, .ref x4])), (x5, .inl (x6, 64, .inl x7))]
def qbeC (x0 : Nat) (x1 x2 x3 x4 : Value) (x5 x6 x7 : Nat) (x8 x9 x10 x11 x12 x13 : Value) (x14 x15 : Int32) (x16 : Value) (x17 : Int32) (x18 x19 x20 x21 x22 : Nat) (x23 : Int32) (x24 : Nat) (x25 : ClassId) (x26 : NI) (x27 : Nat) (x28 : ClassId) (x29 : NI) (x30 : Nat) (x31 : ClassId) (x32 : NI) (x33 : Nat) (x34 : ClassId) (x35 : NI) (x36 : Nat) (x37 : ClassId) (x38 : NI) (x39 : Nat) (x40 : ClassId) (x41 : NI) : va_W := [(x0, .inr (7, [x1, x2, x3, x4])), (x5, .inr (2, [.ref x6, .ref x7, x8, x9, x10, x11, x12, x13, .int x14, .int x15, x16, .int x17])), (x18, .inr (4, [.ref x19, .ref x20, .ref x21, .ref x22, .int x23])), (x24, .inl (x25, 8, .inl x26)), (x27, .inl (x28, 150, .inl x29)), (x30, .inl (x31, 150, .inl x32)), (x33, .inl (x34, 150, .inl x35)), (x36, .inl (x37, 8, .inl x38)), (x39, .inl (x40, 8, .inl x41))]
def qbcT (x0 x1 : Nat) (x2 : Value) (x3 x4 x5 : Nat) (x6 : ClassId) (x7 : NI) (x8 x9 x10 : Nat) (x11 x12 x13 x14 x15 x16 : Value) (x17 x18 : Int32) (x19 : Value) (x20 : Int32) (x21 x22 x23 x24 x25 : Nat) (x26 : Int32) (x27 : Nat) (x28 : ClassId) (x29 : NI) (x30 : Nat) (x31 : ClassId) (x32 : NI) (x33 : Nat) (x34 : ClassId) (x35 : NI) (x36 : Nat) (x37 : ClassId) (x38 : NI) (x39 : Nat) (x40 : ClassId) (x41 : NI) (x42 : Nat) (x43 : ClassId) (x44 : NI) : va_W := [(x0, .inr (1, [.ref x1, x2, .ref x3, .ref x4])), (x5, .inl (x6, 64, .inl x7)), (x8, .inr (2, [.ref x9, .ref x10, x11, x12, x13, x14, x15, x16, .int x17, .int x18, x19, .int x20])), (x21, .inr (4, [.ref x22, .ref x23, .ref x24, .ref x25, .int x26])), (x27, .inl (x28, 8, .inl x29)), (x30, .inl (x31, 150, .inl x32)), (x33, .inl (x34, 150, .inl x35)), (x36, .inl (x37, 150, .inl x38)), (x39, .inl (x40, 8, .inl x41)), (x42, .inl (x43, 8, .inl x44))]
def qavR (x0 x1 : Nat) (x2 x3 x4 : Value) (x5 : Nat) (x6 : ClassId) (x7 : NI) : va_W := [(x0, .inr (7, [.ref x1, x2, x3, x4])), (x5, .inl (x6, 1792, .inl x7))]
def qsc (x0 x1 x2 : Nat) (x3 x4 : Value) (x5 : Nat) (x6 : ClassId) (x7 : NI) (x8 : Nat) (x9 : ClassId) (x10 : NI) : va_W := [(x0, .inr (7, [.ref x1, .ref x2, x3, x4])), (x5, .inl (x6, 6, .inl x7)), (x8, .inl (x9, 1792, .inl x10))]
def qakv (x0 x1 x2 : Nat) (x3 x4 : Value) (x5 : Nat) (x6 : ClassId) (x7 : NI) : va_W := [(x0, .inr (7, [.ref x1, .ref x2, x3, x4])), (x5, .inl (x6, 1792, .inl x7))]
def qaQ3 (x0 : Nat) (x1 : ClassId) (x2 : NI) : va_W := [(x0, .inl (x1, 6, .inl x2))]
def qzu (x0 x1 x2 x3 : Nat) (x4 : Value) (x5 : Nat) (x6 : ClassId) (x7 : NI) (x8 : Nat) (x9 : ClassId) (x10 : NI) (x11 : Nat) (x12 : ClassId) (x13 : NI) : va_W := [(x0, .inr (7, [.ref x1, .ref x2, .ref x3, x4])), (x5, .inl (x6, 6, .inl x7)), (x8, .inl (x9, 1792, .inl x10)), (x11, .inl (x12, 6, .inl x13))]
def qa5s (x0 x1 x2 x3 : Nat) (x4 : Value) (x5 : Nat) (x6 : ClassId) (x7 : NI) (x8 : Nat) (x9 : ClassId) (x10 : NI) : va_W := [(x0, .inr (7, [.ref x1, .ref x2, .ref x3, x4])), (x5, .inl (x6, 6, .inl x7)), (x8, .inl (x9, 1792, .inl x10))]
def qqI (x0 x1 x2 x3 : Nat) (x4 : Int32) (x5 x6 : Nat) (x7 : Value) (x8 x9 x10 x11 x12 : Nat) (x13 x14 x15 x16 x17 x18 : Value) (x19 x20 : Int32) (x21 : Value) (x22 : Int32) (x23 : Nat) (x24 : ClassId) (x25 : NI) (x26 : Nat) (x27 : ClassId) (x28 : NI) (x29 : Nat) (x30 : ClassId) (x31 : NI) (x32 : Nat) (x33 : ClassId) (x34 : NI) (x35 x36 x37 x38 x39 : Nat) (x40 : Int32) (x41 : Nat) (x42 : ClassId) (x43 : NI) (x44 : Nat) (x45 : ClassId) (x46 : NI) (x47 : Nat) (x48 : ClassId) (x49 : NI) (x50 : Nat) (x51 : ClassId) (x52 : NI) (x53 : Nat) (x54 : ClassId) (x55 : NI) (x56 : Nat) (x57 : ClassId) (x58 : NI) : va_W := [(x0, .inr (7, [.ref x1, .ref x2, .ref x3, .int x4])), (x5, .inr (1, [.ref x6, x7, .ref x8, .ref x9])), (x10, .inr (2, [.ref x11, .ref x12, x13, x14, x15, x16, x17, x18, .int x19, .int x20, x21, .int x22])), (x23, .inl (x24, 1792, .inl x25)), (x26, .inl (x27, 6, .inl x28)), (x29, .inl (x30, 6, .inl x31)), (x32, .inl (x33, 64, .inl x34)), (x35, .inr (4, [.ref x36, .ref x37, .ref x38, .ref x39, .int x40])), (x41, .inl (x42, 8, .inl x43)), (x44, .inl (x45, 150, .inl x46)), (x47, .inl (x48, 150, .inl x49)), (x50, .inl (x51, 150, .inl x52)), (x53, .inl (x54, 8, .inl x55)), (x56, .inl (x57, 8, .inl x58))]
def qa9C (x0 x1 x2 x3 : Nat) (x4 : Int32) (x5 : Nat) (x6 : ClassId) (x7 : NI) (x8 : Nat) (x9 : ClassId) (x10 : NI) : va_W := [(x0, .inr (7, [.ref x1, .ref x2, .ref x3, .int x4])), (x5, .inl (x6, 6, .inl x7)), (x8, .inl (x9, 1792, .inl x10))]
def qa3k (x0 x1 x2 x3 : Nat) (x4 : Int32) (x5 : Nat) (x6 : ClassId) (x7 : NI) (x8 : Nat) (x9 : ClassId) (x10 : NI) (x11 : Nat) (x12 : ClassId) (x13 : NI) : va_W := [(x0, .inr (7, [.ref x1, .ref x2, .ref x3, .int x4])), (x5, .inl (x6, 6, .inl x7)), (x8, .inl (x9, 1792, .inl x10)), (x11, .inl (x12, 6, .inl x13))]
def qa7y (x0 x1 x2 x3 : Nat) (x4 : Int32) (x5 x6 : Nat) (x7 : Value) (x8 x9 x10 : Nat) (x11 : ClassId) (x12 : NI) (x13 x14 x15 : Nat) (x16 x17 x18 x19 x20 x21 : Value) (x22 x23 : Int32) (x24 : Value) (x25 : Int32) (x26 x27 x28 x29 x30 : Nat) (x31 : Int32) (x32 : Nat) (x33 : ClassId) (x34 : NI) (x35 : Nat) (x36 : ClassId) (x37 : NI) (x38 : Nat) (x39 : ClassId) (x40 : NI) (x41 : Nat) (x42 : ClassId) (x43 : NI) (x44 : Nat) (x45 : ClassId) (x46 : NI) (x47 : Nat) (x48 : ClassId) (x49 : NI) : va_W := [(x0, .inr (7, [.ref x1, .ref x2, .ref x3, .int x4])), (x5, .inr (1, [.ref x6, x7, .ref x8, .ref x9])), (x10, .inl (x11, 64, .inl x12)), (x13, .inr (2, [.ref x14, .ref x15, x16, x17, x18, x19, x20, x21, .int x22, .int x23, x24, .int x25])), (x26, .inr (4, [.ref x27, .ref x28, .ref x29, .ref x30, .int x31])), (x32, .inl (x33, 8, .inl x34)), (x35, .inl (x36, 150, .inl x37)), (x38, .inl (x39, 150, .inl x40)), (x41, .inl (x42, 150, .inl x43)), (x44, .inl (x45, 8, .inl x46)), (x47, .inl (x48, 8, .inl x49))]
def qJ7 (x0 : Nat) (x1 : Value) (x2 : Nat) (x3 x4 x5 x6 x7 x8 : Value) (x9 : Nat) (x10 x11 x12 x13 : Value) (x14 : Nat) (x15 x16 x17 : Value) (x18 : Int32) (x19 : Value) (x20 x21 x22 : Nat) (x23 x24 x25 x26 x27 x28 : Value) (x29 x30 : Int32) (x31 : Value) (x32 : Int32) (x33 x34 x35 x36 : Nat) (x37 : Int32) (x38 x39 : Nat) (x40 : Value) (x41 x42 x43 : Nat) (x44 : ClassId) (x45 : NI) (x46 : Nat) (x47 : ClassId) (x48 : NI) (x49 : Nat) (x50 : ClassId) (x51 : NI) (x52 : Nat) (x53 : ClassId) (x54 : NI) (x55 x56 x57 x58 x59 : Nat) (x60 : Int32) (x61 : Nat) (x62 : ClassId) (x63 : NI) (x64 : Nat) (x65 : ClassId) (x66 : NI) (x67 : Nat) (x68 : ClassId) (x69 : NI) (x70 : Nat) (x71 : ClassId) (x72 : NI) (x73 : Nat) (x74 : ClassId) (x75 : NI) (x76 : Nat) (x77 : ClassId) (x78 : NI) : va_W := [(x0, .inr (10, [x1, .ref x2, x3, x4, x5, x6, x7, x8, .ref x9, x10, x11, x12, x13, .ref x14, x15, x16, x17, .int x18, x19])), (x20, .inr (2, [.ref x21, .ref x22, x23, x24, x25, x26, x27, x28, .int x29, .int x30, x31, .int x32])), (x33, .inr (7, [.ref x34, .ref x35, .ref x36, .int x37])), (x38, .inr (1, [.ref x39, x40, .ref x41, .ref x42])), (x43, .inl (x44, 1792, .inl x45)), (x46, .inl (x47, 6, .inl x48)), (x49, .inl (x50, 6, .inl x51)), (x52, .inl (x53, 64, .inl x54)), (x55, .inr (4, [.ref x56, .ref x57, .ref x58, .ref x59, .int x60])), (x61, .inl (x62, 8, .inl x63)), (x64, .inl (x65, 150, .inl x66)), (x67, .inl (x68, 150, .inl x69)), (x70, .inl (x71, 150, .inl x72)), (x73, .inl (x74, 8, .inl x75)), (x76, .inl (x77, 8, .inl x78))]
def qaXa (x0 : Nat) (x1 : Value) (x2 : Nat) (x3 x4 x5 x6 x7 x8 : Value) (x9 : Nat) (x10 x11 x12 x13 : Value) (x14 : Nat) (x15 x16 x17 : Value) (x18 : Int32) (x19 : Value) (x20 x21 x22 : Nat) (x23 x24 x25 x26 x27 x28 : Value) (x29 x30 : Int32) (x31 : Value) (x32 : Int32) : va_W := [(x0, .inr (10, [x1, .ref x2, x3, x4, x5, x6, x7, x8, .ref x9, x10, x11, x12, x13, .ref x14, x15, x16, x17, .int x18, x19])), (x20, .inr (2, [.ref x21, .ref x22, x23, x24, x25, x26, x27, x28, .int x29, .int x30, x31, .int x32]))]
def qa8T (x0 x1 x2 x3 : Nat) (x4 : Int32) (x5 x6 : Nat) (x7 : Value) (x8 x9 x10 : Nat) (x11 : ClassId) (x12 : NI) (x13 : Nat) (x14 : ClassId) (x15 : NI) (x16 : Nat) (x17 : ClassId) (x18 : NI) (x19 : Nat) (x20 : ClassId) (x21 : NI) (x22 x23 x24 x25 x26 : Nat) (x27 : Int32) (x28 : Nat) (x29 : ClassId) (x30 : NI) (x31 : Nat) (x32 : ClassId) (x33 : NI) (x34 : Nat) (x35 : ClassId) (x36 : NI) (x37 : Nat) (x38 : ClassId) (x39 : NI) (x40 : Nat) (x41 : ClassId) (x42 : NI) (x43 : Nat) (x44 : ClassId) (x45 : NI) : va_W := [(x0, .inr (7, [.ref x1, .ref x2, .ref x3, .int x4])), (x5, .inr (1, [.ref x6, x7, .ref x8, .ref x9])), (x10, .inl (x11, 1792, .inl x12)), (x13, .inl (x14, 6, .inl x15)), (x16, .inl (x17, 6, .inl x18)), (x19, .inl (x20, 64, .inl x21)), (x22, .inr (4, [.ref x23, .ref x24, .ref x25, .ref x26, .int x27])), (x28, .inl (x29, 8, .inl x30)), (x31, .inl (x32, 150, .inl x33)), (x34, .inl (x35, 150, .inl x36)), (x37, .inl (x38, 150, .inl x39)), (x40, .inl (x41, 8, .inl x42)), (x43, .inl (x44, 8, .inl x45))]
def qNd (x0 : Nat) (x1 : Value) (x2 : Nat) (x3 : Value) (x4 : Nat) (x5 x6 x7 x8 : Value) (x9 : Nat) (x10 x11 x12 x13 : Value) (x14 : Nat) (x15 x16 x17 : Value) (x18 : Int32) (x19 : Value) (x20 x21 x22 : Nat) (x23 x24 x25 x26 x27 x28 : Value) (x29 x30 : Int32) (x31 : Value) (x32 : Int32) (x33 x34 x35 x36 : Nat) (x37 : Int32) (x38 x39 : Nat) (x40 : Value) (x41 x42 x43 : Nat) (x44 : ClassId) (x45 : NI) (x46 : Nat) (x47 : ClassId) (x48 : NI) (x49 : Nat) (x50 : ClassId) (x51 : NI) (x52 : Nat) (x53 : ClassId) (x54 : NI) (x55 x56 x57 x58 x59 : Nat) (x60 : Int32) (x61 : Nat) (x62 : ClassId) (x63 : NI) (x64 : Nat) (x65 : ClassId) (x66 : NI) (x67 : Nat) (x68 : ClassId) (x69 : NI) (x70 : Nat) (x71 : ClassId) (x72 : NI) (x73 : Nat) (x74 : ClassId) (x75 : NI) (x76 : Nat) (x77 : ClassId) (x78 : NI) (x79 : Nat) (x80 : ClassId) (x81 : Nat) (x82 : Nat → Int64) : va_W := [(x0, .inr (10, [x1, .ref x2, x3, .ref x4, x5, x6, x7, x8, .ref x9, x10, x11, x12, x13, .ref x14, x15, x16, x17, .int x18, x19])), (x20, .inr (2, [.ref x21, .ref x22, x23, x24, x25, x26, x27, x28, .int x29, .int x30, x31, .int x32])), (x33, .inr (7, [.ref x34, .ref x35, .ref x36, .int x37])), (x38, .inr (1, [.ref x39, x40, .ref x41, .ref x42])), (x43, .inl (x44, 1792, .inl x45)), (x46, .inl (x47, 6, .inl x48)), (x49, .inl (x50, 6, .inl x51)), (x52, .inl (x53, 64, .inl x54)), (x55, .inr (4, [.ref x56, .ref x57, .ref x58, .ref x59, .int x60])), (x61, .inl (x62, 8, .inl x63)), (x64, .inl (x65, 150, .inl x66)), (x67, .inl (x68, 150, .inl x69)), (x70, .inl (x71, 150, .inl x72)), (x73, .inl (x74, 8, .inl x75)), (x76, .inl (x77, 8, .inl x78)), (x79, .inl (x80, x81, .inr (.inl x82)))]
def qaYi (x0 : Nat) (x1 : Value) (x2 : Nat) (x3 : Value) (x4 : Nat) (x5 x6 x7 x8 : Value) (x9 : Nat) (x10 x11 x12 x13 : Value) (x14 : Nat) (x15 x16 x17 : Value) (x18 : Int32) (x19 : Value) (x20 x21 x22 : Nat) (x23 x24 x25 x26 x27 x28 : Value) (x29 x30 : Int32) (x31 : Value) (x32 : Int32) (x33 x34 x35 x36 : Nat) (x37 : Int32) (x38 x39 : Nat) (x40 : Value) (x41 x42 x43 : Nat) (x44 : ClassId) (x45 : NI) (x46 : Nat) (x47 : ClassId) (x48 : NI) (x49 : Nat) (x50 : ClassId) (x51 : NI) (x52 : Nat) (x53 : ClassId) (x54 : NI) (x55 x56 x57 x58 x59 : Nat) (x60 : Int32) (x61 : Nat) (x62 : ClassId) (x63 : NI) (x64 : Nat) (x65 : ClassId) (x66 : NI) (x67 : Nat) (x68 : ClassId) (x69 : NI) (x70 : Nat) (x71 : ClassId) (x72 : NI) (x73 : Nat) (x74 : ClassId) (x75 : NI) (x76 : Nat) (x77 : ClassId) (x78 : NI) : va_W := [(x0, .inr (10, [x1, .ref x2, x3, .ref x4, x5, x6, x7, x8, .ref x9, x10, x11, x12, x13, .ref x14, x15, x16, x17, .int x18, x19])), (x20, .inr (2, [.ref x21, .ref x22, x23, x24, x25, x26, x27, x28, .int x29, .int x30, x31, .int x32])), (x33, .inr (7, [.ref x34, .ref x35, .ref x36, .int x37])), (x38, .inr (1, [.ref x39, x40, .ref x41, .ref x42])), (x43, .inl (x44, 1792, .inl x45)), (x46, .inl (x47, 6, .inl x48)), (x49, .inl (x50, 6, .inl x51)), (x52, .inl (x53, 64, .inl x54)), (x55, .inr (4, [.ref x56, .ref x57, .ref x58, .ref x59, .int x60])), (x61, .inl (x62, 8, .inl x63)), (x64, .inl (x65, 150, .inl x66)), (x67, .inl (x68, 150, .inl x69)), (x70, .inl (x71, 150, .inl x72)), (x73, .inl (x74, 8, .inl x75)), (x76, .inl (x77, 8, .inl x78))]
def qsN (x0 : Nat) (x1 : Value) (x2 : Nat) (x3 x4 x5 x6 x7 x8 : Value) (x9 x10 : Nat) (x11 x12 x13 x14 x15 x16 x17 x18 : Value) (x19 : Int32) (x20 x21 x22 : Nat) (x23 x24 x25 : Value) (x26 : Nat) (x27 x28 : Value) (x29 x30 : Int32) (x31 : Value) (x32 : Int32) (x33 x34 : Nat) (x35 x36 x37 : Value) (x38 x39 : Nat) (x40 : Value) (x41 x42 x43 : Nat) (x44 : ClassId) (x45 : NI) (x46 : Nat) (x47 : ClassId) (x48 : NI) (x49 : Nat) (x50 : ClassId) (x51 : NI) (x52 : Nat) (x53 : ClassId) (x54 : NI) (x55 x56 x57 x58 x59 : Nat) (x60 : Int32) (x61 : Nat) (x62 : ClassId) (x63 : NI) (x64 : Nat) (x65 : ClassId) (x66 : NI) (x67 : Nat) (x68 : ClassId) (x69 : NI) (x70 : Nat) (x71 : ClassId) (x72 : NI) (x73 : Nat) (x74 : ClassId) (x75 : NI) : va_W := [(x0, .inr (10, [x1, .ref x2, x3, x4, x5, x6, x7, x8, .ref x9, .ref x10, x11, x12, x13, x14, x15, x16, x17, x18, .int x19])), (x20, .inr (2, [.ref x21, .ref x22, x23, x24, x25, .ref x26, x27, x28, .int x29, .int x30, x31, .int x32])), (x33, .inr (1, [.ref x34, x35, x36, x37])), (x38, .inr (1, [.ref x39, x40, .ref x41, .ref x42])), (x43, .inl (x44, 64, .inl x45)), (x46, .inl (x47, 64, .inl x48)), (x49, .inl (x50, 8, .inl x51)), (x52, .inl (x53, 8, .inl x54)), (x55, .inr (4, [.ref x56, .ref x57, .ref x58, .ref x59, .int x60])), (x61, .inl (x62, 8, .inl x63)), (x64, .inl (x65, 150, .inl x66)), (x67, .inl (x68, 150, .inl x69)), (x70, .inl (x71, 150, .inl x72)), (x73, .inl (x74, 6, .inl x75))]
def qavo (x0 : Nat) (x1 : Value) (x2 : Nat) (x3 x4 x5 x6 x7 x8 : Value) (x9 x10 : Nat) (x11 x12 x13 x14 x15 x16 x17 x18 : Value) (x19 : Int32) (x20 x21 x22 : Nat) (x23 x24 x25 : Value) (x26 : Nat) (x27 x28 : Value) (x29 x30 : Int32) (x31 : Value) (x32 : Int32) (x33 x34 : Nat) (x35 : Value) (x36 x37 x38 x39 : Nat) (x40 : Value) (x41 x42 x43 : Nat) (x44 : ClassId) (x45 : NI) (x46 : Nat) (x47 : ClassId) (x48 : NI) (x49 : Nat) (x50 : ClassId) (x51 : NI) (x52 : Nat) (x53 : ClassId) (x54 : NI) (x55 x56 x57 x58 x59 : Nat) (x60 : Int32) (x61 : Nat) (x62 : ClassId) (x63 : NI) (x64 : Nat) (x65 : ClassId) (x66 : NI) (x67 : Nat) (x68 : ClassId) (x69 : NI) (x70 : Nat) (x71 : ClassId) (x72 : NI) (x73 : Nat) (x74 : ClassId) (x75 : NI) : va_W := [(x0, .inr (10, [x1, .ref x2, x3, x4, x5, x6, x7, x8, .ref x9, .ref x10, x11, x12, x13, x14, x15, x16, x17, x18, .int x19])), (x20, .inr (2, [.ref x21, .ref x22, x23, x24, x25, .ref x26, x27, x28, .int x29, .int x30, x31, .int x32])), (x33, .inr (1, [.ref x34, x35, .ref x36, .ref x37])), (x38, .inr (1, [.ref x39, x40, .ref x41, .ref x42])), (x43, .inl (x44, 64, .inl x45)), (x46, .inl (x47, 64, .inl x48)), (x49, .inl (x50, 8, .inl x51)), (x52, .inl (x53, 8, .inl x54)), (x55, .inr (4, [.ref x56, .ref x57, .ref x58, .ref x59, .int x60])), (x61, .inl (x62, 8, .inl x63)), (x64, .inl (x65, 150, .inl x66)), (x67, .inl (x68, 150, .inl x69)), (x70, .inl (x71, 150, .inl x72)), (x73, .inl (x74, 6, .inl x75))]
def qbf0 (x0 x1 : Nat) (x2 x3 x4 : Value) (x5 x6 : Nat) (x7 : Value) (x8 x9 x10 : Nat) (x11 : ClassId) (x12 : NI) (x13 : Nat) (x14 : ClassId) (x15 : NI) : va_W := [(x0, .inr (1, [.ref x1, x2, x3, x4])), (x5, .inr (1, [.ref x6, x7, .ref x8, .ref x9])), (x10, .inl (x11, 64, .inl x12)), (x13, .inl (x14, 64, .inl x15))]
def qbaS (x0 x1 : Nat) (x2 : Value) (x3 x4 x5 x6 x7 : Nat) (x8 x9 x10 : Value) (x11 : Nat) (x12 x13 : Value) (x14 x15 : Int32) (x16 : Value) (x17 : Int32) (x18 : Nat) (x19 : ClassId) (x20 : NI) (x21 : Nat) (x22 : ClassId) (x23 : NI) (x24 : Nat) (x25 : ClassId) (x26 : NI) (x27 x28 x29 x30 x31 : Nat) (x32 : Int32) (x33 : Nat) (x34 : ClassId) (x35 : NI) (x36 : Nat) (x37 : ClassId) (x38 : NI) (x39 : Nat) (x40 : ClassId) (x41 : NI) (x42 : Nat) (x43 : ClassId) (x44 : NI) (x45 : Nat) (x46 : ClassId) (x47 : NI) : va_W := [(x0, .inr (1, [.ref x1, x2, .ref x3, .ref x4])), (x5, .inr (2, [.ref x6, .ref x7, x8, x9, x10, .ref x11, x12, x13, .int x14, .int x15, x16, .int x17])), (x18, .inl (x19, 64, .inl x20)), (x21, .inl (x22, 8, .inl x23)), (x24, .inl (x25, 8, .inl x26)), (x27, .inr (4, [.ref x28, .ref x29, .ref x30, .ref x31, .int x32])), (x33, .inl (x34, 8, .inl x35)), (x36, .inl (x37, 150, .inl x38)), (x39, .inl (x40, 150, .inl x41)), (x42, .inl (x43, 150, .inl x44)), (x45, .inl (x46, 6, .inl x47))]
def qNf (x0 : Nat) (x1 : Value) (x2 : Nat) (x3 x4 x5 x6 x7 x8 : Value) (x9 x10 : Nat) (x11 x12 x13 x14 x15 x16 x17 x18 : Value) (x19 : Int32) : va_W := [(x0, .inr (10, [x1, .ref x2, x3, x4, x5, x6, x7, x8, .ref x9, .ref x10, x11, x12, x13, x14, x15, x16, x17, x18, .int x19]))]
def q2f (x0 x1 x2 : Nat) (x3 x4 x5 : Value) (x6 : Nat) (x7 x8 : Value) (x9 x10 : Int32) (x11 : Value) (x12 : Int32) (x13 x14 : Nat) (x15 x16 x17 : Value) (x18 x19 : Nat) (x20 : Value) (x21 x22 x23 : Nat) (x24 : ClassId) (x25 : NI) (x26 : Nat) (x27 : ClassId) (x28 : NI) (x29 : Nat) (x30 : ClassId) (x31 : NI) (x32 : Nat) (x33 : ClassId) (x34 : NI) (x35 x36 x37 x38 x39 : Nat) (x40 : Int32) (x41 : Nat) (x42 : ClassId) (x43 : NI) (x44 : Nat) (x45 : ClassId) (x46 : NI) (x47 : Nat) (x48 : ClassId) (x49 : NI) (x50 : Nat) (x51 : ClassId) (x52 : NI) (x53 : Nat) (x54 : ClassId) (x55 : NI) : va_W := [(x0, .inr (2, [.ref x1, .ref x2, x3, x4, x5, .ref x6, x7, x8, .int x9, .int x10, x11, .int x12])), (x13, .inr (1, [.ref x14, x15, x16, x17])), (x18, .inr (1, [.ref x19, x20, .ref x21, .ref x22])), (x23, .inl (x24, 64, .inl x25)), (x26, .inl (x27, 64, .inl x28)), (x29, .inl (x30, 8, .inl x31)), (x32, .inl (x33, 8, .inl x34)), (x35, .inr (4, [.ref x36, .ref x37, .ref x38, .ref x39, .int x40])), (x41, .inl (x42, 8, .inl x43)), (x44, .inl (x45, 150, .inl x46)), (x47, .inl (x48, 150, .inl x49)), (x50, .inl (x51, 150, .inl x52)), (x53, .inl (x54, 6, .inl x55))]
def qMr (x0 : Nat) (x1 : Value) (x2 : Nat) (x3 : Value) (x4 : Nat) (x5 x6 x7 x8 : Value) (x9 x10 : Nat) (x11 x12 x13 x14 x15 x16 x17 x18 : Value) (x19 : Int32) (x20 x21 x22 : Nat) (x23 x24 x25 : Value) (x26 : Nat) (x27 x28 : Value) (x29 x30 : Int32) (x31 : Value) (x32 : Int32) (x33 x34 : Nat) (x35 x36 x37 : Value) (x38 x39 : Nat) (x40 : Value) (x41 x42 x43 : Nat) (x44 : ClassId) (x45 : NI) (x46 : Nat) (x47 : ClassId) (x48 : NI) (x49 : Nat) (x50 : ClassId) (x51 : NI) (x52 : Nat) (x53 : ClassId) (x54 : NI) (x55 x56 x57 x58 x59 : Nat) (x60 : Int32) (x61 : Nat) (x62 : ClassId) (x63 : NI) (x64 : Nat) (x65 : ClassId) (x66 : NI) (x67 : Nat) (x68 : ClassId) (x69 : NI) (x70 : Nat) (x71 : ClassId) (x72 : NI) (x73 : Nat) (x74 : ClassId) (x75 : NI) (x76 : Nat) (x77 : ClassId) (x78 : Nat) (x79 : Nat → Int64) : va_W := [(x0, .inr (10, [x1, .ref x2, x3, .ref x4, x5, x6, x7, x8, .ref x9, .ref x10, x11, x12, x13, x14, x15, x16, x17, x18, .int x19])), (x20, .inr (2, [.ref x21, .ref x22, x23, x24, x25, .ref x26, x27, x28, .int x29, .int x30, x31, .int x32])), (x33, .inr (1, [.ref x34, x35, x36, x37])), (x38, .inr (1, [.ref x39, x40, .ref x41, .ref x42])), (x43, .inl (x44, 64, .inl x45)), (x46, .inl (x47, 64, .inl x48)), (x49, .inl (x50, 8, .inl x51)), (x52, .inl (x53, 8, .inl x54)), (x55, .inr (4, [.ref x56, .ref x57, .ref x58, .ref x59, .int x60])), (x61, .inl (x62, 8, .inl x63)), (x64, .inl (x65, 150, .inl x66)), (x67, .inl (x68, 150, .inl x69)), (x70, .inl (x71, 150, .inl x72)), (x73, .inl (x74, 6, .inl x75)), (x76, .inl (x77, x78, .inr (.inl x79)))]
def qaZh (x0 : Nat) (x1 : Value) (x2 : Nat) (x3 : Value) (x4 : Nat) (x5 x6 x7 x8 : Value) (x9 x10 : Nat) (x11 x12 x13 x14 x15 x16 x17 x18 : Value) (x19 : Int32) (x20 x21 x22 : Nat) (x23 x24 x25 : Value) (x26 : Nat) (x27 x28 : Value) (x29 x30 : Int32) (x31 : Value) (x32 : Int32) (x33 x34 : Nat) (x35 x36 x37 : Value) (x38 x39 : Nat) (x40 : Value) (x41 x42 x43 : Nat) (x44 : ClassId) (x45 : NI) (x46 : Nat) (x47 : ClassId) (x48 : NI) (x49 : Nat) (x50 : ClassId) (x51 : NI) (x52 : Nat) (x53 : ClassId) (x54 : NI) (x55 x56 x57 x58 x59 : Nat) (x60 : Int32) (x61 : Nat) (x62 : ClassId) (x63 : NI) (x64 : Nat) (x65 : ClassId) (x66 : NI) (x67 : Nat) (x68 : ClassId) (x69 : NI) (x70 : Nat) (x71 : ClassId) (x72 : NI) (x73 : Nat) (x74 : ClassId) (x75 : NI) : va_W := [(x0, .inr (10, [x1, .ref x2, x3, .ref x4, x5, x6, x7, x8, .ref x9, .ref x10, x11, x12, x13, x14, x15, x16, x17, x18, .int x19])), (x20, .inr (2, [.ref x21, .ref x22, x23, x24, x25, .ref x26, x27, x28, .int x29, .int x30, x31, .int x32])), (x33, .inr (1, [.ref x34, x35, x36, x37])), (x38, .inr (1, [.ref x39, x40, .ref x41, .ref x42])), (x43, .inl (x44, 64, .inl x45)), (x46, .inl (x47, 64, .inl x48)), (x49, .inl (x50, 8, .inl x51)), (x52, .inl (x53, 8, .inl x54)), (x55, .inr (4, [.ref x56, .ref x57, .ref x58, .ref x59, .int x60])), (x61, .inl (x62, 8, .inl x63)), (x64, .inl (x65, 150, .inl x66)), (x67, .inl (x68, 150, .inl x69)), (x70, .inl (x71, 150, .inl x72)), (x73, .inl (x74, 6, .inl x75))]
def qlc (x0 : Nat) (x1 : Value) (x2 : Nat) (x3 x4 x5 x6 x7 x8 : Value) (x9 : Nat) (x10 x11 x12 x13 x14 x15 x16 x17 x18 : Value) (x19 : Int32) (x20 : Nat) (x21 x22 x23 x24 x25 x26 x27 x28 x29 : Value) (x30 : Int32) (x31 x32 : Value) (x33 x34 : Nat) (x35 x36 x37 : Value) (x38 : Nat) (x39 : ClassId) (x40 : NI) : va_W := [(x0, .inr (10, [x1, .ref x2, x3, x4, x5, x6, x7, x8, .ref x9, x10, x11, x12, x13, x14, x15, x16, x17, x18, .int x19])), (x20, .inr (2, [x21, x22, x23, x24, x25, x26, x27, x28, x29, .int x30, x31, x32])), (x33, .inr (1, [.ref x34, x35, x36, x37])), (x38, .inl (x39, 64, .inl x40))]
def qsQ (x0 x1 : Nat) (x2 x3 x4 : Value) (x5 : Nat) (x6 : ClassId) (x7 : NI) : va_W := [(x0, .inr (1, [.ref x1, x2, x3, x4])), (x5, .inl (x6, 64, .inl x7))]
def qaOJ (x0 : Nat) (x1 : Value) (x2 : Nat) (x3 x4 x5 x6 x7 x8 : Value) (x9 : Nat) (x10 x11 x12 x13 x14 x15 x16 x17 x18 : Value) (x19 : Int32) (x20 : Nat) (x21 x22 x23 x24 x25 x26 x27 x28 x29 : Value) (x30 : Int32) (x31 x32 : Value) : va_W := [(x0, .inr (10, [x1, .ref x2, x3, x4, x5, x6, x7, x8, .ref x9, x10, x11, x12, x13, x14, x15, x16, x17, x18, .int x19])), (x20, .inr (2, [x21, x22, x23, x24, x25, x26, x27, x28, x29, .int x30, x31, x32]))]
def qaXj (x0 : Nat) (x1 : Value) (x2 : Nat) (x3 x4 x5 x6 x7 x8 : Value) (x9 : Nat) (x10 x11 x12 x13 x14 x15 x16 x17 x18 : Value) (x19 : Int32) : va_W := [(x0, .inr (10, [x1, .ref x2, x3, x4, x5, x6, x7, x8, .ref x9, x10, x11, x12, x13, x14, x15, x16, x17, x18, .int x19]))]
def qaOy (x0 : Nat) (x1 x2 x3 x4 x5 x6 x7 x8 x9 : Value) (x10 : Int32) (x11 x12 : Value) (x13 x14 : Nat) (x15 x16 x17 : Value) (x18 : Nat) (x19 : ClassId) (x20 : NI) : va_W := [(x0, .inr (2, [x1, x2, x3, x4, x5, x6, x7, x8, x9, .int x10, x11, x12])), (x13, .inr (1, [.ref x14, x15, x16, x17])), (x18, .inl (x19, 64, .inl x20))]
def qMF (x0 : Nat) (x1 : Value) (x2 : Nat) (x3 x4 x5 x6 x7 x8 : Value) (x9 : Nat) (x10 x11 x12 x13 x14 x15 x16 x17 x18 : Value) (x19 : Int32) (x20 : Nat) (x21 x22 x23 x24 x25 x26 x27 x28 x29 : Value) (x30 : Int32) (x31 x32 : Value) (x33 x34 : Nat) (x35 x36 x37 : Value) (x38 : Nat) (x39 : ClassId) (x40 : NI) (x41 : Nat) (x42 : ClassId) (x43 : Nat) (x44 : Nat → Int64) : va_W := [(x0, .inr (10, [x1, .ref x2, x3, x4, x5, x6, x7, x8, .ref x9, x10, x11, x12, x13, x14, x15, x16, x17, x18, .int x19])), (x20, .inr (2, [x21, x22, x23, x24, x25, x26, x27, x28, x29, .int x30, x31, x32])), (x33, .inr (1, [.ref x34, x35, x36, x37])), (x38, .inl (x39, 64, .inl x40)), (x41, .inl (x42, x43, .inr (.inl x44)))]
def qnK (x0 : Nat) (x1 : Value) (x2 : Nat) (x3 x4 x5 x6 x7 x8 : Value) (x9 : Nat) (x10 x11 x12 x13 x14 x15 x16 x17 : Value) (x18 x19 : Int32) (x20 : Nat) (x21 x22 x23 x24 x25 x26 x27 x28 x29 : Value) (x30 : Int32) (x31 x32 : Value) (x33 x34 : Nat) (x35 x36 x37 : Value) (x38 : Nat) (x39 : ClassId) (x40 : NI) : va_W := [(x0, .inr (10, [x1, .ref x2, x3, x4, x5, x6, x7, x8, .ref x9, x10, x11, x12, x13, x14, x15, x16, x17, .int x18, .int x19])), (x20, .inr (2, [x21, x22, x23, x24, x25, x26, x27, x28, x29, .int x30, x31, x32])), (x33, .inr (1, [.ref x34, x35, x36, x37])), (x38, .inl (x39, 64, .inl x40))]
def qawL (x0 : Nat) (x1 : Value) (x2 : Nat) (x3 x4 x5 x6 x7 x8 : Value) (x9 : Nat) (x10 x11 x12 x13 x14 x15 x16 x17 : Value) (x18 x19 : Int32) (x20 : Nat) (x21 x22 x23 x24 x25 x26 x27 x28 x29 : Value) (x30 : Int32) (x31 x32 : Value) : va_W := [(x0, .inr (10, [x1, .ref x2, x3, x4, x5, x6, x7, x8, .ref x9, x10, x11, x12, x13, x14, x15, x16, x17, .int x18, .int x19])), (x20, .inr (2, [x21, x22, x23, x24, x25, x26, x27, x28, x29, .int x30, x31, x32]))]
def qaXX (x0 : Nat) (x1 : Value) (x2 : Nat) (x3 x4 x5 x6 x7 x8 : Value) (x9 : Nat) (x10 x11 x12 x13 x14 x15 x16 x17 : Value) (x18 x19 : Int32) : va_W := [(x0, .inr (10, [x1, .ref x2, x3, x4, x5, x6, x7, x8, .ref x9, x10, x11, x12, x13, x14, x15, x16, x17, .int x18, .int x19]))]
def qMP (x0 : Nat) (x1 : Value) (x2 : Nat) (x3 x4 x5 x6 x7 x8 : Value) (x9 : Nat) (x10 x11 x12 x13 x14 x15 x16 x17 : Value) (x18 x19 : Int32) (x20 : Nat) (x21 x22 x23 x24 x25 x26 x27 x28 x29 : Value) (x30 : Int32) (x31 x32 : Value) (x33 x34 : Nat) (x35 x36 x37 : Value) (x38 : Nat) (x39 : ClassId) (x40 : NI) (x41 : Nat) (x42 : ClassId) (x43 : Nat) (x44 : Nat → Int64) : va_W := [(x0, .inr (10, [x1, .ref x2, x3, x4, x5, x6, x7, x8, .ref x9, x10, x11, x12, x13, x14, x15, x16, x17, .int x18, .int x19])), (x20, .inr (2, [x21, x22, x23, x24, x25, x26, x27, x28, x29, .int x30, x31, x32])), (x33, .inr (1, [.ref x34, x35, x36, x37])), (x38, .inl (x39, 64, .inl x40)), (x41, .inl (x42, x43, .inr (.inl x44)))]
def qxE (x0 : Nat) (x1 : Value) (x2 : Nat) (x3 x4 x5 : Value) (x6 : Nat) (x7 x8 : Value) (x9 : Nat) (x10 x11 x12 x13 x14 x15 x16 : Value) (x17 : Int32) (x18 : Value) (x19 : Int32) (x20 x21 : Nat) (x22 : Value) (x23 : Nat) (x24 : Value) (x25 : Nat) (x26 x27 x28 x29 x30 x31 x32 x33 : Value) (x34 x35 x36 x37 : Int32) (x38 : Nat) (x39 : ClassId) (x40 : NI) (x41 : Nat) (x42 : Value) (x43 : Int32) : va_W := [(x0, .inr (10, [x1, .ref x2, x3, x4, x5, .ref x6, x7, x8, .ref x9, x10, x11, x12, x13, x14, x15, x16, .int x17, x18, .int x19])), (x20, .inr (1, [.ref x21, x22, .ref x23, x24])), (x25, .inr (2, [x26, x27, x28, x29, x30, x31, x32, x33, .int x34, .int x35, .int x36, .int x37])), (x38, .inl (x39, 64, .inl x40)), (x41, .inr (0, [x42, .int x43]))]
def qaYv (x0 : Nat) (x1 : Value) (x2 : Nat) (x3 x4 x5 : Value) (x6 : Nat) (x7 x8 : Value) (x9 : Nat) (x10 x11 x12 x13 x14 x15 x16 : Value) (x17 : Int32) (x18 : Value) (x19 : Int32) : va_W := [(x0, .inr (10, [x1, .ref x2, x3, x4, x5, .ref x6, x7, x8, .ref x9, x10, x11, x12, x13, x14, x15, x16, .int x17, x18, .int x19]))]
def qa9B (x0 x1 : Nat) (x2 : Value) (x3 : Nat) (x4 : Value) (x5 : Nat) (x6 x7 x8 x9 x10 x11 x12 x13 : Value) (x14 x15 x16 x17 : Int32) (x18 : Nat) (x19 : ClassId) (x20 : NI) (x21 : Nat) (x22 : Value) (x23 : Int32) : va_W := [(x0, .inr (1, [.ref x1, x2, .ref x3, x4])), (x5, .inr (2, [x6, x7, x8, x9, x10, x11, x12, x13, .int x14, .int x15, .int x16, .int x17])), (x18, .inl (x19, 64, .inl x20)), (x21, .inr (0, [x22, .int x23]))]
def qaMZ (x0 x1 : Nat) (x2 : Value) (x3 : Nat) (x4 : Value) (x5 : Nat) (x6 x7 x8 x9 x10 x11 x12 x13 : Value) (x14 x15 x16 x17 : Int32) (x18 : Nat) (x19 : ClassId) (x20 : NI) : va_W := [(x0, .inr (1, [.ref x1, x2, .ref x3, x4])), (x5, .inr (2, [x6, x7, x8, x9, x10, x11, x12, x13, .int x14, .int x15, .int x16, .int x17])), (x18, .inl (x19, 64, .inl x20))]
def qa9O (x0 : Nat) (x1 : Value) (x2 : Nat) (x3 x4 x5 : Value) (x6 : Nat) (x7 x8 : Value) (x9 : Nat) (x10 x11 x12 x13 x14 x15 x16 : Value) (x17 : Int32) (x18 : Value) (x19 : Int32) (x20 : Nat) (x21 : Value) (x22 : Int32) : va_W := [(x0, .inr (10, [x1, .ref x2, x3, x4, x5, .ref x6, x7, x8, .ref x9, x10, x11, x12, x13, x14, x15, x16, .int x17, x18, .int x19])), (x20, .inr (0, [x21, .int x22]))]
def q25 (x0 x1 : Nat) (x2 : Value) (x3 : Nat) (x4 : Value) (x5 : Nat) (x6 : ClassId) (x7 : NI) : va_W := [(x0, .inr (1, [.ref x1, x2, .ref x3, x4])), (x5, .inl (x6, 64, .inl x7))]
def qaOK (x0 : Nat) (x1 : Value) (x2 : Nat) (x3 x4 x5 : Value) (x6 : Nat) (x7 x8 : Value) (x9 : Nat) (x10 x11 x12 x13 x14 x15 x16 : Value) (x17 : Int32) (x18 : Value) (x19 : Int32) (x20 : Nat) (x21 x22 x23 x24 x25 x26 x27 x28 : Value) (x29 x30 x31 x32 : Int32) (x33 : Nat) (x34 : Value) (x35 : Int32) : va_W := [(x0, .inr (10, [x1, .ref x2, x3, x4, x5, .ref x6, x7, x8, .ref x9, x10, x11, x12, x13, x14, x15, x16, .int x17, x18, .int x19])), (x20, .inr (2, [x21, x22, x23, x24, x25, x26, x27, x28, .int x29, .int x30, .int x31, .int x32])), (x33, .inr (0, [x34, .int x35]))]
def qMC (x0 : Nat) (x1 : Value) (x2 : Nat) (x3 x4 x5 : Value) (x6 : Nat) (x7 x8 : Value) (x9 : Nat) (x10 x11 x12 x13 x14 x15 x16 : Value) (x17 : Int32) (x18 : Value) (x19 : Int32) (x20 x21 : Nat) (x22 : Value) (x23 : Nat) (x24 : Value) (x25 : Nat) (x26 x27 x28 x29 x30 x31 x32 x33 : Value) (x34 x35 x36 x37 : Int32) (x38 : Nat) (x39 : ClassId) (x40 : NI) (x41 : Nat) (x42 : Value) (x43 : Int32) (x44 : Nat) (x45 : ClassId) (x46 : Nat) (x47 : Nat → Int64) : va_W := [(x0, .inr (10, [x1, .ref x2, x3, x4, x5, .ref x6, x7, x8, .ref x9, x10, x11, x12, x13, x14, x15, x16, .int x17, x18, .int x19])), (x20, .inr (1, [.ref x21, x22, .ref x23, x24])), (x25, .inr (2, [x26, x27, x28, x29, x30, x31, x32, x33, .int x34, .int x35, .int x36, .int x37])), (x38, .inl (x39, 64, .inl x40)), (x41, .inr (0, [x42, .int x43])), (x44, .inl (x45, x46, .inr (.inl x47)))]
theorem qarw : (.classLink RL 13 "java/lang/IllegalArgumentException" : Cond) ∈ wsL_ringed := q49 595 (by decide +kernel)
theorem qaIA : (.codeWith yL_ringed cL_ringed 4 (some .int) [(0, 9, 12, 13)] : Cond) ∈ wsL_ringed := q49 3339 (by decide +kernel)
set_option maxHeartbeats 4000000 in
set_option maxRecDepth 100000 in
theorem qaY1 (l : Launch) (dC : Nat → ClassId) (dI : Nat → Nat → Nat) (cyB cyI cyJ cyP : ClassId) (a0 a2 jaR jma jbs jbt jlI jlZ sz : Nat) (jaK ja1 jcp jbc jbV ja3 jbH ja2 jbO jaq jac jbl jbn jba jaa jbA jbo jbp jbk jbj jbf jbq jgP jbi jcd : Value) (n2 : Nat) (jbE : Int32) (jci jcj : NI) (jbz jmG : Int32) (jmN jnh : NI) (f2 : Nat → Int64) (p1 : Int32) {Q : Int32 → Int32 → Int32 → NI → NI → (Nat → Int64) → Prop} (hw : qazx n2 jbE jci jcj jbz jmG jmN jnh f2 p1 Q) : Met l yL_ringed wsL_ringed ({ frames := 8, cells := 1, slots := 6, locals := 173 }) (va_Pc [.ref a0, .int p1, .ref a2] (cPx l (dC, dI) (kT cyB cyI cyJ cyP) (qZ4 a0 jaK jaR ja1 jcp jbc jbV ja3 jbH ja2 jbO jaq jac jma jbl jbn jba jaa jbA jbz jaR jbs jbt jbo jbp jbk jbj jbf jbq jbE jgP jbi jcd jma jlI jlZ jmG jbs cyI jci jbt cyI jcj jlI cyI jmN jlZ cyI jnh a2 cyJ n2 f2) sz)) (va_Qi (fun (r : Int32) (u : Int32 × Int32 × NI × NI × (Nat → Int64)) => Q r u.1 u.2.1 u.2.2.1 u.2.2.2.1 u.2.2.2.2) (cB (dC, dI) (kT cyB cyI cyJ cyP) (va_A (qZ4 a0 jaK jaR ja1 jcp jbc jbV ja3 jbH ja2 jbO jaq jac jma jbl jbn jba jaa jbA jbz jaR jbs jbt jbo jbp jbk jbj jbf jbq jbE jgP jbi jcd jma jlI jlZ jmG jbs cyI jci jbt cyI jcj jlI cyI jmN jlZ cyI jnh a2 cyJ n2 f2) sz) (fun u : Int32 × Int32 × NI × NI × (Nat → Int64) => ((qZ4 a0 jaK jaR ja1 jcp jbc jbV ja3 jbH ja2 jbO jaq jac jma jbl jbn jba jaa jbA u.1 jaR jbs jbt jbo jbp jbk jbj jbf jbq jbE jgP jbi jcd jma jlI jlZ u.2.1 jbs cyI jci jbt cyI jcj jlI cyI u.2.2.1 jlZ cyI u.2.2.2.1 a2 cyJ n2 u.2.2.2.2) : va_W))) (va_A (qZ4 a0 jaK jaR ja1 jcp jbc jbV ja3 jbH ja2 jbO jaq jac jma jbl jbn jba jaa jbA jbz jaR jbs jbt jbo jbp jbk jbj jbf jbq jbE jgP jbi jcd jma jlI jlZ jmG jbs cyI jci jbt cyI jcj jlI cyI jmN jlZ cyI jnh a2 cyJ n2 f2) sz)) 1 6 (va_A (qZ4 a0 jaK jaR ja1 jcp jbc jbV ja3 jbH ja2 jbO jaq jac jma jbl jbn jba jaa jbA jbz jaR jbs jbt jbo jbp jbk jbj jbf jbq jbE jgP jbi jcd jma jlI jlZ jmG jbs cyI jci jbt cyI jcj jlI cyI jmN jlZ cyI jnh a2 cyJ n2 f2) sz) := by
  refine va_MetW (cc := cL_ringed) (maxL := 4) (ret := (some .int)) (by decide) rfl ?_
  intro p e s m args below meth c s₁ B hml hv
  obtain ⟨rfl, hsz, hP, hK, hD0, hNw, hXl, hXu, hXn, hXt⟩ := hv
  have hx := B.exec
  have hb := B.bytes
  have hr := B.returns
  have hts := atoms_spec (ws := wsL_ringed) B.pre
  have hown : s.vm.findClass RL = some m.cls := findClass_of_methodNamed B.named
  have hlocks := B.notSynchronized
  subst hsz
  have hD := hD0.self (sz := s.heap.size)
  generalize hAe : va_A (qZ4 a0 jaK jaR ja1 jcp jbc jbV ja3 jbH ja2 jbO jaq jac jma jbl jbn jba jaa jbA jbz jaR jbs jbt jbo jbp jbk jbj jbf jbq jbE jgP jbi jcd jma jlI jlZ jmG jbs cyI jci jbt cyI jcj jlI cyI jmN jlZ cyI jnh a2 cyJ n2 f2) s.heap.size = A at hD hXu hXn ⊢
  have hA : ∀ q : Nat, s.heap.size ≤ q → A q := fun q h => by rw [← hAe]; exact Or.inr h
  have hS : va_S A s.heap s.heap [] := va_S.rf
  have hP : va_P (dC, dI) vwCl (qZ4 a0 jaK jaR ja1 jcp jbc jbV ja3 jbH ja2 jbO jaq jac jma jbl jbn jba jaa jbA jbz jaR jbs jbt jbo jbp jbk jbj jbf jbq jbE jgP jbi jcd jma jlI jlZ jmG jbs cyI jci jbt cyI jcj jlI cyI jmN jlZ cyI jnh a2 cyJ n2 f2) s.heap := hP
  have hl := lv_entry ([.ref a0, .int p1, .ref a2]) (n := 4) (nbq rfl)
  rw [lg_entry_eq]
  generalize (lg_sl ([.ref a0, .int p1, .ref a2]) ++ List.replicate (4 - (lg_sl ([.ref a0, .int p1, .ref a2])).length) Slot.unset).toArray = ls at hl ⊢
  have hl : lv_has ls 4 [(0, .ref a0), (1, .int p1), (2, .ref a2)] := hl
  have hY : cfY l s A := ⟨hXl, hXu, hXn, hXt⟩
  have hTb := vx_table (x := yL_ringed) B (hts _ qaIA)
  clear hAe
  obtain ⟨H, hH⟩ : ∃ H, H = s.heap := ⟨_, rfl⟩
  rw [← hH] at hP ⊢
  have hS : va_S A s.heap H [] := by rw [hH]; exact va_S.rf
  have hS := hS
  refine lv_aload_n hx hb (qaa qpN 0 rfl) rfl (lv_at hl 2 rfl) ?_
  refine lv_iconst (v := 0) hx hb (qaa qpN 1 rfl) (by decide) ?_
  refine lv_aload_n hx hb (qaa qpN 2 rfl) rfl (lv_at hl 0 rfl) ?_
  refine lv_iload_n hx hb (qaa qpN 3 rfl) rfl (lv_at hl 1 rfl) ?_
  obtain ⟨hCc, hPc, hDc, hFc⟩ := qac (ws' := (qa4m a0 jaK jaR ja1 jcp jbc jbV ja3 jbH ja2 jbO jaq jac jma jbl jbn jba jaa jbA jbz jaR jbs jbt jbo jbp jbk jbj jbf jbq jbE jgP jbi jcd jma jlI jlZ jmG jbs cyI jci jbt cyI jcj jlI cyI jmN jlZ cyI jnh)) hP hD hS hA [0, 1, 2, 3, 4, 5, 6] (by decide +kernel) rfl
  refine vx_calli (vx_runV (As := [.int p1]) (rest := [.int 0, .ref a2]) ⟨hx, hb, hml, hown, hts⟩ (qaOs l dC dI cyB cyI cyJ cyP a0 jaR jma jbs jbt jlI jlZ H.size (jaK) (ja1) (jcp) (jbc) (jbV) (ja3) (jbH) (ja2) (jbO) (jaq) (jac) (jbl) (jbn) (jba) (jaa) (jbA) (jbo) (jbp) (jbk) (jbj) (jbf) (jbq) (jgP) (jbi) (jcd) jbE jci jcj jbz jmG jmN jnh p1 hw) (cwV 1 hts gL_ringed_X10_ringed rfl rfl rfl (by decide +kernel) ⟨nbq rfl, nbq rfl⟩) ⟨qav, va_recv (q := (RX10, TX10, 19)) hK hPc (ci := 10) (q0 := 0) rfl rfl, qbl hPc hK hDc hNw hY hS hFc⟩ rfl rfl hl.1 rfl (lv_room (nbq rfl)) (qaa qpN 4 rfl) ⟨nbq rfl, nbq rfl⟩) hS (fun q _ h => hFc q h) hFc (fun q _ h => hFc q h) (fun en ce qx9 u t H1 locs ht hvm hpx hB hz1 hk1 hS hc9 hv9 hcl9 => ?_) (fun r5 u t H1 locs ht hvm hw hB hz1 hk1 hS => ?_)
  · obtain ⟨x1, x2, f3, f4⟩ := u
    obtain ⟨hw, hP1, hK1, hD1⟩ := hB
    rw [ht] at hP1
    obtain ⟨hP, hD⟩ := qad (wr := [(a2, .inl (cyJ, n2, .inr (.inl f2)))]) (w1 := (qa4m a0 jaK jaR ja1 jcp jbc jbV ja3 jbH ja2 jbO jaq jac jma jbl jbn jba jaa jbA x1 jaR jbs jbt jbo jbp jbk jbj jbf jbq jbE jgP jbi jcd jma jlI jlZ x2 jbs cyI jci jbt cyI jcj jlI cyI f3 jlZ cyI f4)) (wn := (qZ4 a0 jaK jaR ja1 jcp jbc jbV ja3 jbH ja2 jbO jaq jac jma jbl jbn jba jaa jbA x1 jaR jbs jbt jbo jbp jbk jbj jbf jbq jbE jgP jbi jcd jma jlI jlZ x2 jbs cyI jci jbt cyI jcj jlI cyI f3 jlZ cyI f4 a2 cyJ n2 f2)) hP hD [0, 1, 2, 3, 4, 5, 6] [7] [1, 2, 3, 4, 5, 6, 7, 0] hCc rfl (by decide +kernel) (by decide +kernel) (by decide +kernel) rfl hk1 hFc hP1 hD1
    generalize H1 = H at hP hS hc9 ⊢
    obtain ⟨rfl, hw⟩ := hw
    refine vx_catch (own := RL) (name := "java/lang/IllegalArgumentException") hown [] ⟨0, 9, 12, 13⟩ [] (hTb.trans rfl) (fun z hz => nomatch hz) (by decide) (by decide) (hts _ qarw) (va_Nw.use rfl (hY.2.2.2.1.2 _ (List.mem_of_getElem? (i := 0) rfl))) hc9 hv9 hcl9 ?_
    refine lv_astore_n (lv' := [(3, .ref qx9), (0, .ref a0), (1, .int p1), (2, .ref a2)]) hx hb (qaa qpN 8 rfl) rfl hl (by decide) rfl (fun ls hl => ?_)
    refine lv_iconst (v := 1) hx hb (qaa qpN 9 rfl) (by decide) ?_
    exact (W.widen (k := 1) (n := 6) (nbq rfl) (nbq rfl) (W.iret (v := 1) hx hb hr (fun t ht hW => ⟨⟨1, (x1, x2, f3, f4, f2), rfl, hw, by rw [ht]; exact hP, va_K.moved hW.alike hK, hD⟩, hS.F ht⟩) hS.2.2 (qaa qpN 10 rfl)))
  obtain ⟨x1, x2, f3, f4⟩ := u
  obtain ⟨hP1, hK1, hD1⟩ := hB
  rw [ht] at hP1
  obtain ⟨hP, hD⟩ := va_join (wr := [(a2, .inl (cyJ, n2, .inr (.inl f2)))]) (w1 := (qa4m a0 jaK jaR ja1 jcp jbc jbV ja3 jbH ja2 jbO jaq jac jma jbl jbn jba jaa jbA x1 jaR jbs jbt jbo jbp jbk jbj jbf jbq jbE jgP jbi jcd jma jlI jlZ x2 jbs cyI jci jbt cyI jcj jlI cyI f3 jlZ cyI f4)) hP hD [0, 1, 2, 3, 4, 5, 6] [7] rfl rfl (by decide) (by decide) hk1 hFc hP1 hD1
  have hP : va_P (dC, dI) vwCl (qZ4 a0 jaK jaR ja1 jcp jbc jbV ja3 jbH ja2 jbO jaq jac jma jbl jbn jba jaa jbA x1 jaR jbs jbt jbo jbp jbk jbj jbf jbq jbE jgP jbi jcd jma jlI jlZ x2 jbs cyI jci jbt cyI jcj jlI cyI f3 jlZ cyI f4 a2 cyJ n2 f2) H1 := hP.sub [1, 2, 3, 4, 5, 6, 7, 0] rfl
  have hD : va_D A (qZ4 a0 jaK jaR ja1 jcp jbc jbV ja3 jbH ja2 jbO jaq jac jma jbl jbn jba jaa jbA x1 jaR jbs jbt jbo jbp jbk jbj jbf jbq jbE jgP jbi jcd jma jlI jlZ x2 jbs cyI jci jbt cyI jcj jlI cyI f3 jlZ cyI f4 a2 cyJ n2 f2) := hD.sub [1, 2, 3, 4, 5, 6, 7, 0] (by decide) rfl
  generalize H1 = H at hP hS ⊢
  refine lv_i2l (v := r5.toInt64) hx hb (qaa qpN 5 rfl) rfl ?_
  refine lv_topl (fun x6 ex6 => ?_)
  have hw := hw x6 ex6
  obtain ⟨hi9, hw⟩ := hw
  refine va_last hx hb hK hP hD hS 7 2 rfl rfl hi9 (qaa qpN 6 rfl) (fun H locs hP hD hS => ?_)
  obtain ⟨f7, ef7⟩ : ∃ y : Nat → Int64, y = vp_updL f2 (0 : Int32).toNatClampNeg x6 := ⟨_, rfl⟩
  have hw := hw f7 ef7
  have hP : va_P (dC, dI) vwCl (qZ4 a0 jaK jaR ja1 jcp jbc jbV ja3 jbH ja2 jbO jaq jac jma jbl jbn jba jaa jbA x1 jaR jbs jbt jbo jbp jbk jbj jbf jbq jbE jgP jbi jcd jma jlI jlZ x2 jbs cyI jci jbt cyI jcj jlI cyI f3 jlZ cyI f4 a2 cyJ n2 f7) H := by rw [ef7]; exact hP
  have hD : va_D A (qZ4 a0 jaK jaR ja1 jcp jbc jbV ja3 jbH ja2 jbO jaq jac jma jbl jbn jba jaa jbA x1 jaR jbs jbt jbo jbp jbk jbj jbf jbq jbE jgP jbi jcd jma jlI jlZ x2 jbs cyI jci jbt cyI jcj jlI cyI f3 jlZ cyI f4 a2 cyJ n2 f7) := by rw [ef7]; exact hD
  refine lv_goto (tgt := 15) hx hb (qaa qpN 7 rfl) (by decide) ?_
  refine lv_iconst (v := 0) hx hb (qaa qpN 11 rfl) (by decide) ?_
  exact (W.widen (k := 1) (n := 6) (nbq rfl) (nbq rfl) (W.iret (v := 0) hx hb hr (fun t ht hW => ⟨⟨0, (x1, x2, f3, f4, f7), rfl, hw, by rw [ht]; exact hP, va_K.moved hW.alike hK, hD⟩, hS.F ht⟩) hS.2.2 (qaa qpN 12 rfl)))
set_option maxHeartbeats 4000000 in
set_option maxRecDepth 100000 in
theorem qKd (l : Launch) (dC : Nat → ClassId) (dI : Nat → Nat → Nat) (cyB cyI cyJ cyP : ClassId) (sz : Nat) (p0 p1 p2 p3 : Int32) {Q : Int32 → Prop} (hw : qCo p0 p1 p2 p3 Q) : Met l yX10_gain wsX10_gain ({ frames := 0, cells := 0, slots := 0, locals := 0 }) (va_Pc [.int p0, .int p1, .int p2, .int p3] (cPc (dC, dI) (kT cyB cyI cyJ cyP) [] sz)) (va_Qi (fun (r : Int32) (_ : Unit) => Q r ) (cB (dC, dI) (kT cyB cyI cyJ cyP) (va_A [] sz) (fun u : Unit => ([] : va_W))) (va_A [] sz)) 0 0 (va_A [] sz) := by
  refine Met.ofW (cc := cX10_gain) (maxL := 4) (ret := (some .int)) (by decide) rfl ?_
  intro p e s m args below meth c s₁ B hml hv
  obtain ⟨rfl, hsz, hP, hK, hD0, hNw⟩ := hv
  have hx := B.exec
  have hb := B.bytes
  have hr := B.returns
  have hts := atoms_spec (ws := wsX10_gain) B.pre
  have hown : s.vm.findClass RX10 = some m.cls := findClass_of_methodNamed B.named
  have hlocks := B.notSynchronized
  subst hsz
  have hD := hD0.self (sz := s.heap.size)
  generalize hAe : va_A [] s.heap.size = A at hD ⊢
  have hA : ∀ q : Nat, s.heap.size ≤ q → A q := fun q h => by rw [← hAe]; exact Or.inr h
  have hS : va_S A s.heap s.heap [] := va_S.rf
  have hP : va_P (dC, dI) vwCl [] s.heap := hP
  have hl := lv_entry ([.int p0, .int p1, .int p2, .int p3]) (n := 4) (nbq rfl)
  rw [lg_entry_eq]
  generalize (lg_sl ([.int p0, .int p1, .int p2, .int p3]) ++ List.replicate (4 - (lg_sl ([.int p0, .int p1, .int p2, .int p3])).length) Slot.unset).toArray = ls at hl ⊢
  have hl : lv_has ls 4 [(0, .int p0), (1, .int p1), (2, .int p2), (3, .int p3)] := hl
  have C0 : cfx p s m _ meth c cX10_gain (some .int) wsX10_gain RX10 4 A (dC, dI) (kT cyB cyI cyJ cyP) := ⟨hx, hb, hr, hts, hown, hlocks, hml, hA, hK, hNw⟩
  clear hAe
  obtain ⟨H, hH⟩ : ∃ H, H = s.heap := ⟨_, rfl⟩
  rw [← hH] at hP ⊢
  have hS : va_S A s.heap H [] := by rw [hH]; exact va_S.rf
  have hS := hS
  refine lv_iload_n hx hb (qaa qkQ 0 rfl) rfl (lv_at hl 2 rfl) ?_
  refine lv_iconst (v := 1) hx hb (qaa qkQ 1 rfl) (by decide) ?_
  refine lv_icmp_ne (tgt := 16) hx hb (qaa qkQ 2 rfl) (by decide) (fun c1 => ?_) (fun c1 => ?_)
  · have hw := hw.1 c1
    refine lv_iload_n hx hb (qaa qkQ 10 rfl) rfl (lv_at hl 3 rfl) ?_
    refine lv_iconst (v := 1) hx hb (qaa qkQ 11 rfl) (by decide) ?_
    refine lv_icmp_ne (tgt := 27) hx hb (qaa qkQ 12 rfl) (by decide) (fun c2 => ?_) (fun c2 => ?_)
    · have hw := hw.1 c2
      refine lv_iload_n hx hb (qaa qDX 1 rfl) rfl (lv_at hl 1 rfl) ?_
      refine lv_ineg hx hb (qaa qDX 2 rfl) ?_
      exact ((W.iret (v := (-p1)) hx hb hr (fun t ht hW => ⟨⟨(-p1), (), rfl, hw, by rw [ht]; exact hP, va_K.moved hW.alike hK, hD⟩, hS.F ht⟩) hS.2.2 (qaa qDX 3 rfl)))
    · have hw := hw.2 c2
      refine lv_iload_n hx hb (qaa qkQ 13 rfl) rfl (lv_at hl 0 rfl) ?_
      refine lv_iload_n hx hb (qaa qkQ 14 rfl) rfl (lv_at hl 1 rfl) ?_
      refine lv_iadd hx hb (qaa qkQ 15 rfl) ?_
      refine lv_goto (tgt := 29) hx hb (qaa qDX 0 rfl) (by decide) ?_
      exact ((W.iret (v := (p0 + p1)) hx hb hr (fun t ht hW => ⟨⟨(p0 + p1), (), rfl, hw, by rw [ht]; exact hP, va_K.moved hW.alike hK, hD⟩, hS.F ht⟩) hS.2.2 (qaa qDX 3 rfl)))
  · have hw := hw.2 c1
    refine lv_iload_n hx hb (qaa qkQ 3 rfl) rfl (lv_at hl 3 rfl) ?_
    refine lv_iconst (v := 1) hx hb (qaa qkQ 4 rfl) (by decide) ?_
    refine lv_icmp_ne (tgt := 14) hx hb (qaa qkQ 5 rfl) (by decide) (fun c3 => ?_) (fun c3 => ?_)
    · have hw := hw.1 c3
      refine lv_iconst (v := 0) hx hb (qaa qkQ 8 rfl) (by decide) ?_
      exact ((W.iret (v := 0) hx hb hr (fun t ht hW => ⟨⟨0, (), rfl, hw, by rw [ht]; exact hP, va_K.moved hW.alike hK, hD⟩, hS.F ht⟩) hS.2.2 (qaa qkQ 9 rfl)))
    · have hw := hw.2 c3
      refine lv_iload_n hx hb (qaa qkQ 6 rfl) rfl (lv_at hl 0 rfl) ?_
      refine lv_goto (tgt := 15) hx hb (qaa qkQ 7 rfl) (by decide) ?_
      exact ((W.iret (v := p0) hx hb hr (fun t ht hW => ⟨⟨p0, (), rfl, hw, by rw [ht]; exact hP, va_K.moved hW.alike hK, hD⟩, hS.F ht⟩) hS.2.2 (qaa qkQ 9 rfl)))
set_option maxHeartbeats 4000000 in
set_option maxRecDepth 100000 in
theorem qPC {p : Program} {l : Launch} {e : Env} {s : State} {m : MethodId} {args : Array Value} {below : List Frame} {meth : Method} {c : Code} {A : Nat → Prop} (dC : Nat → ClassId) (dI : Nat → Nat → Nat) (cyB cyI cyJ cyP : ClassId) (a0 : Nat) (jaK jfS ja1 jcp jbc jbV ja3 jbH ja2 jbO jaq jac jbI jbl jbn jba jaa jbA : Value) (E : String → Int32 → Prop) (Q : Int32 → Int32 → Prop) (K35 : Int32 → Int32 → Int32 → Int32 → Int32 → Int32 → Int32 → Int32 → Prop) (hK35 : ∀ (H : Heap) (locs : List Loc) (ls : Array Slot) (jbz l1 l2 l3 l4 l5 l6 l7 : Int32), va_P (dC, dI) vwCl (qkC a0 jaK jfS ja1 jcp jbc jbV ja3 jbH ja2 jbO jaq jac jbI jbl jbn jba jaa jbA jbz) H → va_D A (qkC a0 jaK jfS ja1 jcp jbc jbV ja3 jbH ja2 jbO jaq jac jbI jbl jbn jba jaa jbA jbz) → va_S A s.heap H locs → lv_has ls 10 [(1, .int l1), (2, .int l2), (3, .int l3), (4, .int l4), (5, .int l5), (6, .int l6), (7, .int l7)] → K35 jbz l1 l2 l3 l4 l5 l6 l7 → W p l e (headSpec wsX10_road ({ frames := 8, cells := 3, slots := 18, locals := 164 })).room s m args below meth c H locs 3 18 (vx_MQ below (va_Qi (fun (r u : Int32) => Q r u) (cB (dC, dI) (kT cyB cyI cyJ cyP) A (fun u : Int32 => ((qkC a0 jaK jfS ja1 jcp jbc jbV ja3 jbH ja2 jbO jaq jac jbI jbl jbn jba jaa jbA u) : va_W))) A) (vx_X (fun _ => True) (fun (en : String) (u : Int32) (t : State) => E en u ∧ cB (dC, dI) (kT cyB cyI cyJ cyP) A (fun u : Int32 => ((qkC a0 jaK jfS ja1 jcp jbc jbV ja3 jbH ja2 jbO jaq jac jbI jbl jbn jba jaa jbA u) : va_W)) u t) A) args s 3 18 A) (F0 m 35 ls [])) (C0 : cfx p s m args meth c cX10_road (some .int) wsX10_road RX10 10 A (dC, dI) (kT cyB cyI cyJ cyP) ∧ cfX l s c A) : ∀ (H : Heap) (locs : List Loc) (ls : Array Slot) (jbz l1 l2 l3 l4 l5 l6 l7 : Int32), va_P (dC, dI) vwCl (qkC a0 jaK jfS ja1 jcp jbc jbV ja3 jbH ja2 jbO jaq jac jbI jbl jbn jba jaa jbA jbz) H → va_D A (qkC a0 jaK jfS ja1 jcp jbc jbV ja3 jbH ja2 jbO jaq jac jbI jbl jbn jba jaa jbA jbz) → va_S A s.heap H locs → lv_has ls 10 [(1, .int l1), (2, .int l2), (3, .int l3), (4, .int l4), (5, .int l5), (6, .int l6), (7, .int l7)] → qHU E Q K35 jbz l1 l2 l3 l4 l5 l6 l7 → W p l e (headSpec wsX10_road ({ frames := 8, cells := 3, slots := 18, locals := 164 })).room s m args below meth c H locs 3 18 (vx_MQ below (va_Qi (fun (r u : Int32) => Q r u) (cB (dC, dI) (kT cyB cyI cyJ cyP) A (fun u : Int32 => ((qkC a0 jaK jfS ja1 jcp jbc jbV ja3 jbH ja2 jbO jaq jac jbI jbl jbn jba jaa jbA u) : va_W))) A) (vx_X (fun _ => True) (fun (en : String) (u : Int32) (t : State) => E en u ∧ cB (dC, dI) (kT cyB cyI cyJ cyP) A (fun u : Int32 => ((qkC a0 jaK jfS ja1 jcp jbc jbV ja3 jbH ja2 jbO jaq jac jbI jbl jbn jba jaa jbA u) : va_W)) u t) A) args s 3 18 A) (F0 m 138 ls []) := by
  obtain ⟨⟨hx, hb, hr, hts, hown, hlocks, hml, hA, hK, hNw⟩, hXs⟩ := id C0
  have hY := hXs.2
  intro H locs ls jbz l1 l2 l3 l4 l5 l6 l7 hP hD hS hl hw
  obtain ⟨x20, ex20⟩ : ∃ y : Int32, y = l7 + 1 := ⟨_, rfl⟩
  have hw := hw x20 ex20
  refine lv_iinc (v := x20) (lv' := [(7, .int x20), (1, .int l1), (2, .int l2), (3, .int l3), (4, .int l4), (5, .int l5), (6, .int l6)]) hx hb (qaa qHO 1 rfl) hl (k := 6) rfl (by rw [ex20]; rfl) (by decide) rfl (fun ls hl => ?_)
  refine lv_goto (tgt := 35) hx hb (qaa qHO 2 rfl) (by decide) ?_
  exact hK35 _ _ _ jbz l1 l2 l3 l4 l5 l6 x20 hP hD hS (lv_sub hl [1, 2, 3, 4, 5, 6, 0] rfl) hw
set_option maxHeartbeats 4000000 in
set_option maxRecDepth 100000 in
theorem q4N {p : Program} {l : Launch} {e : Env} {s : State} {m : MethodId} {args : Array Value} {below : List Frame} {meth : Method} {c : Code} {A : Nat → Prop} (dC : Nat → ClassId) (dI : Nat → Nat → Nat) (cyB cyI cyJ cyP : ClassId) (a0 : Nat) (jaK jfS ja1 jcp jbc jbV ja3 jbH ja2 jbO jaq jac jbI jbl jbn jba jaa jbA : Value) (E : String → Int32 → Prop) (Q : Int32 → Int32 → Prop) (K35 : Int32 → Int32 → Int32 → Int32 → Int32 → Int32 → Int32 → Int32 → Prop) (hK35 : ∀ (H : Heap) (locs : List Loc) (ls : Array Slot) (jbz l1 l2 l3 l4 l5 l6 l7 : Int32), va_P (dC, dI) vwCl (qkC a0 jaK jfS ja1 jcp jbc jbV ja3 jbH ja2 jbO jaq jac jbI jbl jbn jba jaa jbA jbz) H → va_D A (qkC a0 jaK jfS ja1 jcp jbc jbV ja3 jbH ja2 jbO jaq jac jbI jbl jbn jba jaa jbA jbz) → va_S A s.heap H locs → lv_has ls 10 [(1, .int l1), (2, .int l2), (3, .int l3), (4, .int l4), (5, .int l5), (6, .int l6), (7, .int l7)] → K35 jbz l1 l2 l3 l4 l5 l6 l7 → W p l e (headSpec wsX10_road ({ frames := 8, cells := 3, slots := 18, locals := 164 })).room s m args below meth c H locs 3 18 (vx_MQ below (va_Qi (fun (r u : Int32) => Q r u) (cB (dC, dI) (kT cyB cyI cyJ cyP) A (fun u : Int32 => ((qkC a0 jaK jfS ja1 jcp jbc jbV ja3 jbH ja2 jbO jaq jac jbI jbl jbn jba jaa jbA u) : va_W))) A) (vx_X (fun _ => True) (fun (en : String) (u : Int32) (t : State) => E en u ∧ cB (dC, dI) (kT cyB cyI cyJ cyP) A (fun u : Int32 => ((qkC a0 jaK jfS ja1 jcp jbc jbV ja3 jbH ja2 jbO jaq jac jbI jbl jbn jba jaa jbA u) : va_W)) u t) A) args s 3 18 A) (F0 m 35 ls [])) (C0 : cfx p s m args meth c cX10_road (some .int) wsX10_road RX10 10 A (dC, dI) (kT cyB cyI cyJ cyP) ∧ cfX l s c A) : ∀ (H : Heap) (locs : List Loc) (ls : Array Slot) (jbz l1 l2 l3 l4 l5 l6 l7 : Int32), va_P (dC, dI) vwCl (qkC a0 jaK jfS ja1 jcp jbc jbV ja3 jbH ja2 jbO jaq jac jbI jbl jbn jba jaa jbA jbz) H → va_D A (qkC a0 jaK jfS ja1 jcp jbc jbV ja3 jbH ja2 jbO jaq jac jbI jbl jbn jba jaa jbA jbz) → va_S A s.heap H locs → lv_has ls 10 [(1, .int l1), (2, .int l2), (3, .int l3), (4, .int l4), (5, .int l5), (6, .int l6), (7, .int l7)] → qPw E Q K35 jbz l1 l2 l3 l4 l5 l6 l7 → W p l e (headSpec wsX10_road ({ frames := 8, cells := 3, slots := 18, locals := 164 })).room s m args below meth c H locs 3 18 (vx_MQ below (va_Qi (fun (r u : Int32) => Q r u) (cB (dC, dI) (kT cyB cyI cyJ cyP) A (fun u : Int32 => ((qkC a0 jaK jfS ja1 jcp jbc jbV ja3 jbH ja2 jbO jaq jac jbI jbl jbn jba jaa jbA u) : va_W))) A) (vx_X (fun _ => True) (fun (en : String) (u : Int32) (t : State) => E en u ∧ cB (dC, dI) (kT cyB cyI cyJ cyP) A (fun u : Int32 => ((qkC a0 jaK jfS ja1 jcp jbc jbV ja3 jbH ja2 jbO jaq jac jbI jbl jbn jba jaa jbA u) : va_W)) u t) A) args s 3 18 A) (F0 m 135 ls []) := by
  obtain ⟨⟨hx, hb, hr, hts, hown, hlocks, hml, hA, hK, hNw⟩, hXs⟩ := id C0
  have hY := hXs.2
  intro H locs ls jbz l1 l2 l3 l4 l5 l6 l7 hP hD hS hl hw
  obtain ⟨x21, ex21⟩ : ∃ y : Int32, y = l4 + 1 := ⟨_, rfl⟩
  have hw := hw x21 ex21
  refine lv_iinc (v := x21) (lv' := [(4, .int x21), (1, .int l1), (2, .int l2), (3, .int l3), (5, .int l5), (6, .int l6), (7, .int l7)]) hx hb (qaa qHO 0 rfl) hl (k := 3) rfl (by rw [ex21]; rfl) (by decide) rfl (fun ls hl => ?_)
  exact qPC dC dI cyB cyI cyJ cyP a0 jaK jfS ja1 jcp jbc jbV ja3 jbH ja2 jbO jaq jac jbI jbl jbn jba jaa jbA E Q K35 hK35 C0 _ _ _ jbz l1 l2 l3 x21 l5 l6 l7 hP hD hS (lv_sub hl [1, 2, 3, 0, 4, 5, 6] rfl) hw
set_option maxHeartbeats 4000000 in
set_option maxRecDepth 100000 in
theorem qaIj {p : Program} {l : Launch} {e : Env} {s : State} {m : MethodId} {args : Array Value} {below : List Frame} {meth : Method} {c : Code} {A : Nat → Prop} (dC : Nat → ClassId) (dI : Nat → Nat → Nat) (cyB cyI cyJ cyP : ClassId) (a0 : Nat) (jaK jfS ja1 jcp jbc jbV ja3 jbH ja2 jbO jaq jac jbI jbl jbn jba jaa jbA : Value) (E : String → Int32 → Prop) (Q : Int32 → Int32 → Prop) (C0 : cfx p s m args meth c cX10_road (some .int) wsX10_road RX10 10 A (dC, dI) (kT cyB cyI cyJ cyP) ∧ cfX l s c A) : ∀ (n : Nat) (H : Heap) (locs : List Loc) (ls : Array Slot) (jbz l1 l2 l3 l4 l5 l6 l7 : Int32), va_P (dC, dI) vwCl (qkC a0 jaK jfS ja1 jcp jbc jbV ja3 jbH ja2 jbO jaq jac jbI jbl jbn jba jaa jbA jbz) H → va_D A (qkC a0 jaK jfS ja1 jcp jbc jbV ja3 jbH ja2 jbO jaq jac jbI jbl jbn jba jaa jbA jbz) → va_S A s.heap H locs → lv_has ls 10 [(1, .int l1), (2, .int l2), (3, .int l3), (4, .int l4), (5, .int l5), (6, .int l6), (7, .int l7)] → qpt E Q n jbz l1 l2 l3 l4 l5 l6 l7 → W p l e (headSpec wsX10_road ({ frames := 8, cells := 3, slots := 18, locals := 164 })).room s m args below meth c H locs 3 18 (vx_MQ below (va_Qi (fun (r u : Int32) => Q r u) (cB (dC, dI) (kT cyB cyI cyJ cyP) A (fun u : Int32 => ((qkC a0 jaK jfS ja1 jcp jbc jbV ja3 jbH ja2 jbO jaq jac jbI jbl jbn jba jaa jbA u) : va_W))) A) (vx_X (fun _ => True) (fun (en : String) (u : Int32) (t : State) => E en u ∧ cB (dC, dI) (kT cyB cyI cyJ cyP) A (fun u : Int32 => ((qkC a0 jaK jfS ja1 jcp jbc jbV ja3 jbH ja2 jbO jaq jac jbI jbl jbn jba jaa jbA u) : va_W)) u t) A) args s 3 18 A) (F0 m 35 ls []) := by
  obtain ⟨⟨hx, hb, hr, hts, hown, hlocks, hml, hA, hK, hNw⟩, hXs⟩ := id C0
  have hY := hXs.2
  intro n
  induction n with
  | zero => intro H locs ls jbz l1 l2 l3 l4 l5 l6 l7 hP hD hS hl hw; exact False.elim hw
  | succ n ih =>
    intro H locs ls jbz l1 l2 l3 l4 l5 l6 l7 hP hD hS hl hw
    refine lv_iload hx hb (qaa qko 7 rfl) (lv_at hl 6 rfl) ?_
    refine lv_iconst (v := 4) hx hb (qaa qko 8 rfl) (by decide) ?_
    refine lv_icmp_ge (tgt := 144) hx hb (qaa qko 9 rfl) (by decide) (fun c4 => ?_) (fun c4 => ?_)
    · have hw := hw.1 c4
      refine lv_iload_n hx hb (qaa qHO 3 rfl) rfl (lv_at hl 2 rfl) ?_
      by_cases c5 : l3 = 0
      · have hw := hw.1 c5
        refine lv_lookup (tgt := 172) (off := 27) hx hb dX10_road_145 (by decide) (by rw [c5]; decide) (by decide) ?_
        refine lv_iload hx hb (qaa qyC 0 rfl) (lv_at hl 3 rfl) ?_
        exact vx_ret (W.widen (k := 3) (n := 18) (nbq rfl) (nbq rfl) (W.iret (v := l4) hx hb hr (fun t ht hW => ⟨⟨l4, (jbz), rfl, hw, by rw [ht]; exact hP, va_K.moved hW.alike hK, hD⟩, hS.F ht⟩) hS.2.2 (qaa qyC 1 rfl)))
      have hw := hw.2 c5
      by_cases c6 : l3 = 1
      · have hw := hw.1 c6
        refine lv_lookup (tgt := 175) (off := 30) hx hb dX10_road_145 (by decide) (by rw [c6]; decide) (by decide) ?_
        refine lv_iload hx hb (qaa qyC 2 rfl) (lv_at hl 4 rfl) ?_
        exact vx_ret (W.widen (k := 3) (n := 18) (nbq rfl) (nbq rfl) (W.iret (v := l5) hx hb hr (fun t ht hW => ⟨⟨l5, (jbz), rfl, hw, by rw [ht]; exact hP, va_K.moved hW.alike hK, hD⟩, hS.F ht⟩) hS.2.2 (qaa qyC 3 rfl)))
      have hw := hw.2 c6
      refine lv_lookup (tgt := 178) (off := 33) hx hb dX10_road_145 (by decide) (by have nc5 := qan9 (n := 0) c5 rfl; have nc6 := qan9 (n := 1) c6 rfl; simp [Op.lookupswitch.offset, nc5, nc6]) (by decide) ?_
      refine lv_iload hx hb (qaa qyC 4 rfl) (lv_at hl 5 rfl) ?_
      exact vx_ret (W.widen (k := 3) (n := 18) (nbq rfl) (nbq rfl) (W.iret (v := l6) hx hb hr (fun t ht hW => ⟨⟨l6, (jbz), rfl, hw, by rw [ht]; exact hP, va_K.moved hW.alike hK, hD⟩, hS.F ht⟩) hS.2.2 (qaa qyC 5 rfl)))
    · have hw := hw.2 c4
      refine lv_iload hx hb (qaa qko 10 rfl) (lv_at hl 6 rfl) ?_
      refine lv_iconst (v := 2) hx hb (qaa qko 11 rfl) (by decide) ?_
      refine lv_idiv hx hb (qaa qko 12 rfl) (by decide) ?_
      refine lv_topi (fun x7 ex7 => ?_)
      have hw := hw x7 ex7
      refine lv_istore (lv' := [(8, .int x7), (1, .int l1), (2, .int l2), (3, .int l3), (4, .int l4), (5, .int l5), (6, .int l6), (7, .int l7)]) hx hb (qaa qko 13 rfl) hl (by decide) rfl (fun ls hl => ?_)
      refine lv_iload hx hb (qaa qko 14 rfl) (lv_at hl 7 rfl) ?_
      refine lv_iconst (v := 2) hx hb (qaa qko 15 rfl) (by decide) ?_
      refine lv_irem hx hb (qaa qkl 0 rfl) (by decide) ?_
      refine lv_topi (fun x8 ex8 => ?_)
      have hw := hw x8 ex8
      refine lv_istore (lv' := [(9, .int x8), (8, .int x7), (1, .int l1), (2, .int l2), (3, .int l3), (4, .int l4), (5, .int l5), (6, .int l6), (7, .int l7)]) hx hb (qaa qkl 1 rfl) hl (by decide) rfl (fun ls hl => ?_)
      refine lv_iload_n hx hb (qaa qkl 2 rfl) rfl (lv_at hl 2 rfl) ?_
      refine lv_iload_n hx hb (qaa qkl 3 rfl) rfl (lv_at hl 3 rfl) ?_
      refine lv_iload hx hb (qaa qkl 4 rfl) (lv_at hl 1 rfl) ?_
      refine lv_iload hx hb (qaa qkl 5 rfl) (lv_at hl 0 rfl) ?_
      obtain ⟨hCc, hPc, hDc, hFc⟩ := qac (ws' := []) hP hD hS hA [] (by decide +kernel) rfl
      refine va_calli (va_runS (As := [.int l1, .int l2, .int x7, .int x8]) (rest := []) ⟨hx, hb, hml, hown, hts⟩ (qKd l dC dI cyB cyI cyJ cyP H.size l1 l2 x7 x8 hw) (va_cwS 4 hts gX10_road_X10_gain rfl rfl rfl (by decide +kernel) ⟨nbq rfl, nbq rfl⟩) ⟨qab, qae hPc hK hDc hNw⟩ rfl rfl hl.1 rfl (lv_room (nbq rfl)) (qaa qkl 6 rfl) ⟨nbq rfl, nbq rfl⟩) hS (fun q _ h => hFc q h) hFc (fun r9 u t H1 locs ht hvm hw hB hz1 hk1 hS => ?_)
      obtain ⟨hP1, hK1, hD1⟩ := hB
      rw [ht] at hP1
      obtain ⟨hP, hD⟩ := qah (wr := (qkC a0 jaK jfS ja1 jcp jbc jbV ja3 jbH ja2 jbO jaq jac jbI jbl jbn jba jaa jbA jbz)) (w1 := []) (wn := (qkC a0 jaK jfS ja1 jcp jbc jbV ja3 jbH ja2 jbO jaq jac jbI jbl jbn jba jaa jbA jbz)) hP hD [] [0] hCc rfl (by decide +kernel) (by decide +kernel) rfl hk1 hFc hP1 hD1
      generalize H1 = H at hP hS ⊢
      refine lv_iload_n hx hb (qaa qkl 7 rfl) rfl (lv_at hl 2 rfl) ?_
      refine lv_iload_n hx hb (qaa qkl 8 rfl) rfl (lv_at hl 3 rfl) ?_
      refine lv_iconst (v := 1) hx hb (qaa qkl 9 rfl) (by decide) ?_
      refine lv_iload hx hb (qaa qkl 10 rfl) (lv_at hl 1 rfl) ?_
      refine lv_isub hx hb (qaa qkl 11 rfl) ?_
      refine lv_iload hx hb (qaa qkl 12 rfl) (lv_at hl 0 rfl) ?_
      obtain ⟨hCc, hPc, hDc, hFc⟩ := qac (ws' := []) hP hD hS hA [] (by decide +kernel) rfl
      refine va_calli (va_runS (As := [.int l1, .int l2, .int (1 - x7), .int x8]) (rest := [.int r9]) ⟨hx, hb, hml, hown, hts⟩ (qKd l dC dI cyB cyI cyJ cyP H.size l1 l2 (1 - x7) x8 hw) (va_cwS 4 hts gX10_road_X10_gain rfl rfl rfl (by decide +kernel) ⟨nbq rfl, nbq rfl⟩) ⟨qab, qae hPc hK hDc hNw⟩ rfl rfl hl.1 rfl (lv_room (nbq rfl)) (qaa qkl 13 rfl) ⟨nbq rfl, nbq rfl⟩) hS (fun q _ h => hFc q h) hFc (fun r10 u t H1 locs ht hvm hw hB hz1 hk1 hS => ?_)
      obtain ⟨hP1, hK1, hD1⟩ := hB
      rw [ht] at hP1
      obtain ⟨hP, hD⟩ := qah (wr := (qkC a0 jaK jfS ja1 jcp jbc jbV ja3 jbH ja2 jbO jaq jac jbI jbl jbn jba jaa jbA jbz)) (w1 := []) (wn := (qkC a0 jaK jfS ja1 jcp jbc jbV ja3 jbH ja2 jbO jaq jac jbI jbl jbn jba jaa jbA jbz)) hP hD [] [0] hCc rfl (by decide +kernel) (by decide +kernel) rfl hk1 hFc hP1 hD1
      generalize H1 = H at hP hS ⊢
      refine lv_icmp_lt (tgt := 138) hx hb (qaa qkl 14 rfl) (by decide) (fun c11 => ?_) (fun c11 => ?_)
      · have hw := hw.1 c11
        exact qPC dC dI cyB cyI cyJ cyP a0 jaK jfS ja1 jcp jbc jbV ja3 jbH ja2 jbO jaq jac jbI jbl jbn jba jaa jbA E Q (qpt E Q n) ih C0 _ _ _ jbz l1 l2 l3 l4 l5 l6 l7 hP hD hS (lv_sub hl [2, 3, 4, 5, 6, 7, 8] rfl) hw
      · have hw := hw.2 c11
        refine lv_iload_n hx hb (qaa qkl 15 rfl) rfl (lv_at hl 2 rfl) ?_
        refine lv_iload_n hx hb (qaa qjN 0 rfl) rfl (lv_at hl 3 rfl) ?_
        refine lv_iload hx hb (qaa qjN 1 rfl) (lv_at hl 0 rfl) ?_
        refine lv_iload hx hb (qaa qjN 2 rfl) (lv_at hl 1 rfl) ?_
        obtain ⟨hCc, hPc, hDc, hFc⟩ := qac (ws' := []) hP hD hS hA [] (by decide +kernel) rfl
        refine va_calli (va_runS (As := [.int l1, .int l2, .int x8, .int x7]) (rest := []) ⟨hx, hb, hml, hown, hts⟩ (qKd l dC dI cyB cyI cyJ cyP H.size l1 l2 x8 x7 hw) (va_cwS 4 hts gX10_road_X10_gain rfl rfl rfl (by decide +kernel) ⟨nbq rfl, nbq rfl⟩) ⟨qab, qae hPc hK hDc hNw⟩ rfl rfl hl.1 rfl (lv_room (nbq rfl)) (qaa qjN 3 rfl) ⟨nbq rfl, nbq rfl⟩) hS (fun q _ h => hFc q h) hFc (fun r12 u t H1 locs ht hvm hw hB hz1 hk1 hS => ?_)
        obtain ⟨hP1, hK1, hD1⟩ := hB
        rw [ht] at hP1
        obtain ⟨hP, hD⟩ := qah (wr := (qkC a0 jaK jfS ja1 jcp jbc jbV ja3 jbH ja2 jbO jaq jac jbI jbl jbn jba jaa jbA jbz)) (w1 := []) (wn := (qkC a0 jaK jfS ja1 jcp jbc jbV ja3 jbH ja2 jbO jaq jac jbI jbl jbn jba jaa jbA jbz)) hP hD [] [0] hCc rfl (by decide +kernel) (by decide +kernel) rfl hk1 hFc hP1 hD1
        generalize H1 = H at hP hS ⊢
        refine lv_iload_n hx hb (qaa qjN 4 rfl) rfl (lv_at hl 2 rfl) ?_
        refine lv_iload_n hx hb (qaa qjN 5 rfl) rfl (lv_at hl 3 rfl) ?_
        refine lv_iconst (v := 1) hx hb (qaa qjN 6 rfl) (by decide) ?_
        refine lv_iload hx hb (qaa qjN 7 rfl) (lv_at hl 0 rfl) ?_
        refine lv_isub hx hb (qaa qjN 8 rfl) ?_
        refine lv_iload hx hb (qaa qjN 9 rfl) (lv_at hl 1 rfl) ?_
        obtain ⟨hCc, hPc, hDc, hFc⟩ := qac (ws' := []) hP hD hS hA [] (by decide +kernel) rfl
        refine va_calli (va_runS (As := [.int l1, .int l2, .int (1 - x8), .int x7]) (rest := [.int r12]) ⟨hx, hb, hml, hown, hts⟩ (qKd l dC dI cyB cyI cyJ cyP H.size l1 l2 (1 - x8) x7 hw) (va_cwS 4 hts gX10_road_X10_gain rfl rfl rfl (by decide +kernel) ⟨nbq rfl, nbq rfl⟩) ⟨qab, qae hPc hK hDc hNw⟩ rfl rfl hl.1 rfl (lv_room (nbq rfl)) (qaa qjN 10 rfl) ⟨nbq rfl, nbq rfl⟩) hS (fun q _ h => hFc q h) hFc (fun r13 u t H1 locs ht hvm hw hB hz1 hk1 hS => ?_)
        obtain ⟨hP1, hK1, hD1⟩ := hB
        rw [ht] at hP1
        obtain ⟨hP, hD⟩ := qah (wr := (qkC a0 jaK jfS ja1 jcp jbc jbV ja3 jbH ja2 jbO jaq jac jbI jbl jbn jba jaa jbA jbz)) (w1 := []) (wn := (qkC a0 jaK jfS ja1 jcp jbc jbV ja3 jbH ja2 jbO jaq jac jbI jbl jbn jba jaa jbA jbz)) hP hD [] [0] hCc rfl (by decide +kernel) (by decide +kernel) rfl hk1 hFc hP1 hD1
        generalize H1 = H at hP hS ⊢
        refine lv_icmp_lt (tgt := 138) hx hb (qaa qjN 11 rfl) (by decide) (fun c14 => ?_) (fun c14 => ?_)
        · have hw := hw.1 c14
          exact qPC dC dI cyB cyI cyJ cyP a0 jaK jfS ja1 jcp jbc jbV ja3 jbH ja2 jbO jaq jac jbI jbl jbn jba jaa jbA E Q (qpt E Q n) ih C0 _ _ _ jbz l1 l2 l3 l4 l5 l6 l7 hP hD hS (lv_sub hl [2, 3, 4, 5, 6, 7, 8] rfl) hw
        · have hw := hw.2 c14
          refine lv_iload hx hb (qaa qjN 12 rfl) (lv_at hl 5 rfl) ?_
          refine lv_if_ne (tgt := 135) hx hb (qaa qjN 13 rfl) (by decide) (fun c15 => ?_) (fun c15 => ?_)
          · have hw := hw.1 c15
            exact q4N dC dI cyB cyI cyJ cyP a0 jaK jfS ja1 jcp jbc jbV ja3 jbH ja2 jbO jaq jac jbI jbl jbn jba jaa jbA E Q (qpt E Q n) ih C0 _ _ _ jbz l1 l2 l3 l4 l5 l6 l7 hP hD hS (lv_sub hl [2, 3, 4, 5, 6, 7, 8] rfl) hw
          · have hw := hw.2 c15
            refine lv_bipush (v := 10) hx hb (qaa qjN 14 rfl) (by decide) ?_
            refine lv_iload hx hb (qaa qjN 15 rfl) (lv_at hl 1 rfl) ?_
            refine lv_imul hx hb (qaa qhe 0 rfl) ?_
            refine lv_iload hx hb (qaa qhe 1 rfl) (lv_at hl 0 rfl) ?_
            refine lv_iadd hx hb (qaa qhe 2 rfl) ?_
            refine lv_topi (fun x16 ex16 => ?_)
            have hw := hw x16 ex16
            refine lv_istore (lv' := [(5, .int x16), (9, .int x8), (8, .int x7), (1, .int l1), (2, .int l2), (3, .int l3), (4, .int l4), (6, .int l6), (7, .int l7)]) hx hb (qaa qhe 3 rfl) hl (by decide) rfl (fun ls hl => ?_)
            refine lv_iload_n hx hb (qaa qhe 4 rfl) rfl (lv_at hl 3 rfl) ?_
            refine lv_iload_n hx hb (qaa qhe 5 rfl) rfl (lv_at hl 4 rfl) ?_
            refine lv_iload hx hb (qaa qhe 6 rfl) (lv_at hl 2 rfl) ?_
            refine lv_iload hx hb (qaa qhe 7 rfl) (lv_at hl 1 rfl) ?_
            obtain ⟨hCc, hPc, hDc, hFc⟩ := qac (ws' := []) hP hD hS hA [] (by decide +kernel) rfl
            refine va_calli (va_runS (As := [.int l1, .int l2, .int x7, .int x8]) (rest := []) ⟨hx, hb, hml, hown, hts⟩ (qKd l dC dI cyB cyI cyJ cyP H.size l1 l2 x7 x8 hw) (va_cwS 4 hts gX10_road_X10_gain rfl rfl rfl (by decide +kernel) ⟨nbq rfl, nbq rfl⟩) ⟨qab, qae hPc hK hDc hNw⟩ rfl rfl hl.1 rfl (lv_room (nbq rfl)) (qaa qhe 8 rfl) ⟨nbq rfl, nbq rfl⟩) hS (fun q _ h => hFc q h) hFc (fun r17 u t H1 locs ht hvm hw hB hz1 hk1 hS => ?_)
            obtain ⟨hP1, hK1, hD1⟩ := hB
            rw [ht] at hP1
            obtain ⟨hP, hD⟩ := qah (wr := (qkC a0 jaK jfS ja1 jcp jbc jbV ja3 jbH ja2 jbO jaq jac jbI jbl jbn jba jaa jbA jbz)) (w1 := []) (wn := (qkC a0 jaK jfS ja1 jcp jbc jbV ja3 jbH ja2 jbO jaq jac jbI jbl jbn jba jaa jbA jbz)) hP hD [] [0] hCc rfl (by decide +kernel) (by decide +kernel) rfl hk1 hFc hP1 hD1
            generalize H1 = H at hP hS ⊢
            refine lv_iload_n hx hb (qaa qhe 9 rfl) rfl (lv_at hl 3 rfl) ?_
            refine lv_iload_n hx hb (qaa qhe 10 rfl) rfl (lv_at hl 4 rfl) ?_
            refine lv_iload hx hb (qaa qhe 11 rfl) (lv_at hl 1 rfl) ?_
            refine lv_iload hx hb (qaa qhe 12 rfl) (lv_at hl 2 rfl) ?_
            obtain ⟨hCc, hPc, hDc, hFc⟩ := qac (ws' := []) hP hD hS hA [] (by decide +kernel) rfl
            refine va_calli (va_runS (As := [.int l1, .int l2, .int x8, .int x7]) (rest := [.int r17]) ⟨hx, hb, hml, hown, hts⟩ (qKd l dC dI cyB cyI cyJ cyP H.size l1 l2 x8 x7 hw) (va_cwS 4 hts gX10_road_X10_gain rfl rfl rfl (by decide +kernel) ⟨nbq rfl, nbq rfl⟩) ⟨qab, qae hPc hK hDc hNw⟩ rfl rfl hl.1 rfl (lv_room (nbq rfl)) (qaa qhe 13 rfl) ⟨nbq rfl, nbq rfl⟩) hS (fun q _ h => hFc q h) hFc (fun r18 u t H1 locs ht hvm hw hB hz1 hk1 hS => ?_)
            obtain ⟨hP1, hK1, hD1⟩ := hB
            rw [ht] at hP1
            obtain ⟨hP, hD⟩ := qah (wr := (qkC a0 jaK jfS ja1 jcp jbc jbV ja3 jbH ja2 jbO jaq jac jbI jbl jbn jba jaa jbA jbz)) (w1 := []) (wn := (qkC a0 jaK jfS ja1 jcp jbc jbV ja3 jbH ja2 jbO jaq jac jbI jbl jbn jba jaa jbA jbz)) hP hD [] [0] hCc rfl (by decide +kernel) (by decide +kernel) rfl hk1 hFc hP1 hD1
            generalize H1 = H at hP hS ⊢
            refine lv_iadd hx hb (qaa qhe 14 rfl) ?_
            refine lv_topi (fun x19 ex19 => ?_)
            have hw := hw x19 ex19
            refine lv_istore (lv' := [(6, .int x19), (5, .int x16), (9, .int x8), (8, .int x7), (1, .int l1), (2, .int l2), (3, .int l3), (4, .int l4), (7, .int l7)]) hx hb (qaa qhe 15 rfl) hl (by decide) rfl (fun ls hl => ?_)
            exact q4N dC dI cyB cyI cyJ cyP a0 jaK jfS ja1 jcp jbc jbV ja3 jbH ja2 jbO jaq jac jbI jbl jbn jba jaa jbA E Q (qpt E Q n) ih C0 _ _ _ jbz l1 l2 l3 l4 x16 x19 l7 hP hD hS (lv_sub hl [4, 5, 6, 7, 1, 0, 8] rfl) hw
set_option maxHeartbeats 4000000 in
set_option maxRecDepth 100000 in
theorem qaWG (l : Launch) (dC : Nat → ClassId) (dI : Nat → Nat → Nat) (cyB cyI cyJ cyP : ClassId) (a0 sz : Nat) (jaK jfS ja1 jcp jbc jbV ja3 jbH ja2 jbO jaq jac jbI jbl jbn jba jaa jbA : Value) (jbz p1 p2 p3 : Int32) {E : String → Int32 → Prop} {Q : Int32 → Int32 → Prop} (hw : qaae jbz p1 p2 p3 E Q) : vx_Met l yX10_road wsX10_road ({ frames := 8, cells := 3, slots := 18, locals := 164 }) (va_Pc [.ref a0, .int p1, .int p2, .int p3] (cPx l (dC, dI) (kT cyB cyI cyJ cyP) (qkC a0 jaK jfS ja1 jcp jbc jbV ja3 jbH ja2 jbO jaq jac jbI jbl jbn jba jaa jbA jbz) sz)) (va_Qi (fun (r u : Int32) => Q r u) (cB (dC, dI) (kT cyB cyI cyJ cyP) (va_A (qkC a0 jaK jfS ja1 jcp jbc jbV ja3 jbH ja2 jbO jaq jac jbI jbl jbn jba jaa jbA jbz) sz) (fun u : Int32 => ((qkC a0 jaK jfS ja1 jcp jbc jbV ja3 jbH ja2 jbO jaq jac jbI jbl jbn jba jaa jbA u) : va_W))) (va_A (qkC a0 jaK jfS ja1 jcp jbc jbV ja3 jbH ja2 jbO jaq jac jbI jbl jbn jba jaa jbA jbz) sz)) (vx_X (fun _ => True) (fun (en : String) (u : Int32) (t : State) => E en u ∧ cB (dC, dI) (kT cyB cyI cyJ cyP) (va_A (qkC a0 jaK jfS ja1 jcp jbc jbV ja3 jbH ja2 jbO jaq jac jbI jbl jbn jba jaa jbA jbz) sz) (fun u : Int32 => ((qkC a0 jaK jfS ja1 jcp jbc jbV ja3 jbH ja2 jbO jaq jac jbI jbl jbn jba jaa jbA u) : va_W)) u t) (va_A (qkC a0 jaK jfS ja1 jcp jbc jbV ja3 jbH ja2 jbO jaq jac jbI jbl jbn jba jaa jbA jbz) sz)) 3 18 (va_A (qkC a0 jaK jfS ja1 jcp jbc jbV ja3 jbH ja2 jbO jaq jac jbI jbl jbn jba jaa jbA jbz) sz) := by
  refine vx_ofW (cc := cX10_road) (maxL := 10) (ret := (some .int)) (by decide) rfl ?_
  intro p e s m args below meth c s₁ B hml hnt hv
  obtain ⟨rfl, hsz, hP, hK, hD0, hNw, hXl, hXu, hXn, hXt⟩ := hv
  have hx := B.exec
  have hb := B.bytes
  have hr := B.returns
  have hts := atoms_spec (ws := wsX10_road) B.pre
  have hown : s.vm.findClass RX10 = some m.cls := findClass_of_methodNamed B.named
  have hlocks := B.notSynchronized
  subst hsz
  have hD := hD0.self (sz := s.heap.size)
  generalize hAe : va_A (qkC a0 jaK jfS ja1 jcp jbc jbV ja3 jbH ja2 jbO jaq jac jbI jbl jbn jba jaa jbA jbz) s.heap.size = A at hD hXu hXn ⊢
  have hA : ∀ q : Nat, s.heap.size ≤ q → A q := fun q h => by rw [← hAe]; exact Or.inr h
  have hS : va_S A s.heap s.heap [] := va_S.rf
  have hP : va_P (dC, dI) vwCl (qkC a0 jaK jfS ja1 jcp jbc jbV ja3 jbH ja2 jbO jaq jac jbI jbl jbn jba jaa jbA jbz) s.heap := hP
  have hl := lv_entry ([.ref a0, .int p1, .int p2, .int p3]) (n := 10) (nbq rfl)
  rw [lg_entry_eq]
  generalize (lg_sl ([.ref a0, .int p1, .int p2, .int p3]) ++ List.replicate (10 - (lg_sl ([.ref a0, .int p1, .int p2, .int p3])).length) Slot.unset).toArray = ls at hl ⊢
  have hl : lv_has ls 10 [(0, .ref a0), (1, .int p1), (2, .int p2), (3, .int p3)] := hl
  have hY : cfY l s A := ⟨hXl, hXu, hXn, hXt⟩
  have hXs : cfX l s c A := ⟨hnt, hY⟩
  have C0 : cfx p s m _ meth c cX10_road (some .int) wsX10_road RX10 10 A (dC, dI) (kT cyB cyI cyJ cyP) ∧ cfX l s c A := ⟨⟨hx, hb, hr, hts, hown, hlocks, hml, hA, hK, hNw⟩, hXs⟩
  clear hAe
  obtain ⟨H, hH⟩ : ∃ H, H = s.heap := ⟨_, rfl⟩
  rw [← hH] at hP ⊢
  have hS : va_S A s.heap H [] := by rw [hH]; exact va_S.rf
  have hS := hS
  refine lv_aload_n hx hb (qaa ql2 0 rfl) rfl (lv_at hl 0 rfl) ?_
  refine lv_iload_n hx hb (qaa ql2 1 rfl) rfl (lv_at hl 1 rfl) ?_
  refine lv_iconst (v := 0) hx hb (qaa ql2 2 rfl) (by decide) ?_
  refine lv_bipush (v := 99) hx hb (qaa ql2 3 rfl) (by decide) ?_
  obtain ⟨hCc, hPc, hDc, hFc⟩ := qac (ws' := (qkC a0 jaK jfS ja1 jcp jbc jbV ja3 jbH ja2 jbO jaq jac jbI jbl jbn jba jaa jbA jbz)) hP hD hS hA [0] (by decide +kernel) rfl
  refine vx_callv (vx_runV (As := [.int p1, .int 0, .int 99]) (rest := []) ⟨hx, hb, hml, hown, hts⟩ (qaV l dC dI cyB cyI cyJ cyP a0 H.size (jaK) (jfS) (ja1) (jcp) (jbc) (jbV) (ja3) (jbH) (ja2) (jbO) (jaq) (jac) (jbI) (jbl) (jbn) (jba) (jaa) (jbA) jbz p1 0 99 hw) (cwV 3 hts gX10_road_X10_needWithin rfl rfl rfl (by decide +kernel) ⟨nbq rfl, nbq rfl⟩) ⟨qav, va_recv (q := (RX10, TX10, 19)) hK hPc (ci := 10) (q0 := 0) rfl rfl, qbl hPc hK hDc hNw hY hS hFc⟩ rfl rfl hl.1 rfl (lv_room (nbq rfl)) (qaa ql2 4 rfl) ⟨nbq rfl, nbq rfl⟩) hS (fun q _ h => hFc q h) hFc (fun q _ h => hFc q h) (fun en ce q9 u t H1 locs ht hvm hpx hB hz1 hk1 hS hc9 hv9 hcl9 => ?_) (fun u t H1 locs ht hvm hw hB hz1 hk1 hS => ?_)
  · obtain ⟨x1, rfl⟩ : ∃ z, z = u := ⟨_, rfl⟩
    obtain ⟨hw, hP1, hK1, hD1⟩ := hB
    rw [ht] at hP1
    obtain ⟨hP, hD⟩ := qah (wr := []) (w1 := (qkC a0 jaK jfS ja1 jcp jbc jbV ja3 jbH ja2 jbO jaq jac jbI jbl jbn jba jaa jbA x1)) (wn := (qkC a0 jaK jfS ja1 jcp jbc jbV ja3 jbH ja2 jbO jaq jac jbI jbl jbn jba jaa jbA x1)) hP hD [0] [] hCc rfl (by decide +kernel) (by decide +kernel) rfl hk1 hFc hP1 hD1
    generalize H1 = H at hP hS hc9 ⊢
    exact vx_out (fun x hx9 => (hXs.1 x hx9).elim) hlocks hc9 hv9 hcl9 (fun t2 ht2 hal2 => ⟨(x1), trivial, ⟨hw, by rw [ht2]; exact hP, va_K.moved hal2 hK, hD⟩, hS.F ht2⟩) hS.2.2 (nbq rfl) (nbq rfl)
  obtain ⟨x1, rfl⟩ : ∃ z, z = u := ⟨_, rfl⟩
  obtain ⟨hP1, hK1, hD1⟩ := hB
  rw [ht] at hP1
  obtain ⟨hP, hD⟩ := qah (wr := []) (w1 := (qkC a0 jaK jfS ja1 jcp jbc jbV ja3 jbH ja2 jbO jaq jac jbI jbl jbn jba jaa jbA x1)) (wn := (qkC a0 jaK jfS ja1 jcp jbc jbV ja3 jbH ja2 jbO jaq jac jbI jbl jbn jba jaa jbA x1)) hP hD [0] [] hCc rfl (by decide +kernel) (by decide +kernel) rfl hk1 hFc hP1 hD1
  generalize H1 = H at hP hS ⊢
  refine lv_aload_n hx hb (qaa ql2 5 rfl) rfl (lv_at hl 0 rfl) ?_
  refine lv_iload_n hx hb (qaa ql2 6 rfl) rfl (lv_at hl 2 rfl) ?_
  refine lv_iconst (v := 0) hx hb (qaa ql2 7 rfl) (by decide) ?_
  refine lv_bipush (v := 99) hx hb (qaa ql2 8 rfl) (by decide) ?_
  obtain ⟨hCc, hPc, hDc, hFc⟩ := qac (ws' := (qkC a0 jaK jfS ja1 jcp jbc jbV ja3 jbH ja2 jbO jaq jac jbI jbl jbn jba jaa jbA x1)) hP hD hS hA [0] (by decide +kernel) rfl
  refine vx_callv (vx_runV (As := [.int p2, .int 0, .int 99]) (rest := []) ⟨hx, hb, hml, hown, hts⟩ (qaV l dC dI cyB cyI cyJ cyP a0 H.size (jaK) (jfS) (ja1) (jcp) (jbc) (jbV) (ja3) (jbH) (ja2) (jbO) (jaq) (jac) (jbI) (jbl) (jbn) (jba) (jaa) (jbA) x1 p2 0 99 hw) (cwV 3 hts gX10_road_X10_needWithin rfl rfl rfl (by decide +kernel) ⟨nbq rfl, nbq rfl⟩) ⟨qav, va_recv (q := (RX10, TX10, 19)) hK hPc (ci := 10) (q0 := 0) rfl rfl, qbl hPc hK hDc hNw hY hS hFc⟩ rfl rfl hl.1 rfl (lv_room (nbq rfl)) (qaa ql2 9 rfl) ⟨nbq rfl, nbq rfl⟩) hS (fun q _ h => hFc q h) hFc (fun q _ h => hFc q h) (fun en ce q9 u t H1 locs ht hvm hpx hB hz1 hk1 hS hc9 hv9 hcl9 => ?_) (fun u t H1 locs ht hvm hw hB hz1 hk1 hS => ?_)
  · obtain ⟨x2, rfl⟩ : ∃ z, z = u := ⟨_, rfl⟩
    obtain ⟨hw, hP1, hK1, hD1⟩ := hB
    rw [ht] at hP1
    obtain ⟨hP, hD⟩ := qah (wr := []) (w1 := (qkC a0 jaK jfS ja1 jcp jbc jbV ja3 jbH ja2 jbO jaq jac jbI jbl jbn jba jaa jbA x2)) (wn := (qkC a0 jaK jfS ja1 jcp jbc jbV ja3 jbH ja2 jbO jaq jac jbI jbl jbn jba jaa jbA x2)) hP hD [0] [] hCc rfl (by decide +kernel) (by decide +kernel) rfl hk1 hFc hP1 hD1
    generalize H1 = H at hP hS hc9 ⊢
    exact vx_out (fun x hx9 => (hXs.1 x hx9).elim) hlocks hc9 hv9 hcl9 (fun t2 ht2 hal2 => ⟨(x2), trivial, ⟨hw, by rw [ht2]; exact hP, va_K.moved hal2 hK, hD⟩, hS.F ht2⟩) hS.2.2 (nbq rfl) (nbq rfl)
  obtain ⟨x2, rfl⟩ : ∃ z, z = u := ⟨_, rfl⟩
  obtain ⟨hP1, hK1, hD1⟩ := hB
  rw [ht] at hP1
  obtain ⟨hP, hD⟩ := qah (wr := []) (w1 := (qkC a0 jaK jfS ja1 jcp jbc jbV ja3 jbH ja2 jbO jaq jac jbI jbl jbn jba jaa jbA x2)) (wn := (qkC a0 jaK jfS ja1 jcp jbc jbV ja3 jbH ja2 jbO jaq jac jbI jbl jbn jba jaa jbA x2)) hP hD [0] [] hCc rfl (by decide +kernel) (by decide +kernel) rfl hk1 hFc hP1 hD1
  generalize H1 = H at hP hS ⊢
  refine lv_aload_n hx hb (qaa ql2 10 rfl) rfl (lv_at hl 0 rfl) ?_
  refine lv_iload_n hx hb (qaa ql2 11 rfl) rfl (lv_at hl 3 rfl) ?_
  refine lv_iconst (v := 0) hx hb (qaa ql2 12 rfl) (by decide) ?_
  refine lv_iconst (v := 2) hx hb (qaa ql2 13 rfl) (by decide) ?_
  obtain ⟨hCc, hPc, hDc, hFc⟩ := qac (ws' := (qkC a0 jaK jfS ja1 jcp jbc jbV ja3 jbH ja2 jbO jaq jac jbI jbl jbn jba jaa jbA x2)) hP hD hS hA [0] (by decide +kernel) rfl
  refine vx_callv (vx_runV (As := [.int p3, .int 0, .int 2]) (rest := []) ⟨hx, hb, hml, hown, hts⟩ (qaV l dC dI cyB cyI cyJ cyP a0 H.size (jaK) (jfS) (ja1) (jcp) (jbc) (jbV) (ja3) (jbH) (ja2) (jbO) (jaq) (jac) (jbI) (jbl) (jbn) (jba) (jaa) (jbA) x2 p3 0 2 hw) (cwV 3 hts gX10_road_X10_needWithin rfl rfl rfl (by decide +kernel) ⟨nbq rfl, nbq rfl⟩) ⟨qav, va_recv (q := (RX10, TX10, 19)) hK hPc (ci := 10) (q0 := 0) rfl rfl, qbl hPc hK hDc hNw hY hS hFc⟩ rfl rfl hl.1 rfl (lv_room (nbq rfl)) (qaa ql2 14 rfl) ⟨nbq rfl, nbq rfl⟩) hS (fun q _ h => hFc q h) hFc (fun q _ h => hFc q h) (fun en ce q9 u t H1 locs ht hvm hpx hB hz1 hk1 hS hc9 hv9 hcl9 => ?_) (fun u t H1 locs ht hvm hw hB hz1 hk1 hS => ?_)
  · obtain ⟨x3, rfl⟩ : ∃ z, z = u := ⟨_, rfl⟩
    obtain ⟨hw, hP1, hK1, hD1⟩ := hB
    rw [ht] at hP1
    obtain ⟨hP, hD⟩ := qah (wr := []) (w1 := (qkC a0 jaK jfS ja1 jcp jbc jbV ja3 jbH ja2 jbO jaq jac jbI jbl jbn jba jaa jbA x3)) (wn := (qkC a0 jaK jfS ja1 jcp jbc jbV ja3 jbH ja2 jbO jaq jac jbI jbl jbn jba jaa jbA x3)) hP hD [0] [] hCc rfl (by decide +kernel) (by decide +kernel) rfl hk1 hFc hP1 hD1
    generalize H1 = H at hP hS hc9 ⊢
    exact vx_out (fun x hx9 => (hXs.1 x hx9).elim) hlocks hc9 hv9 hcl9 (fun t2 ht2 hal2 => ⟨(x3), trivial, ⟨hw, by rw [ht2]; exact hP, va_K.moved hal2 hK, hD⟩, hS.F ht2⟩) hS.2.2 (nbq rfl) (nbq rfl)
  obtain ⟨x3, rfl⟩ : ∃ z, z = u := ⟨_, rfl⟩
  obtain ⟨hP1, hK1, hD1⟩ := hB
  rw [ht] at hP1
  obtain ⟨hP, hD⟩ := qah (wr := []) (w1 := (qkC a0 jaK jfS ja1 jcp jbc jbV ja3 jbH ja2 jbO jaq jac jbI jbl jbn jba jaa jbA x3)) (wn := (qkC a0 jaK jfS ja1 jcp jbc jbV ja3 jbH ja2 jbO jaq jac jbI jbl jbn jba jaa jbA x3)) hP hD [0] [] hCc rfl (by decide +kernel) (by decide +kernel) rfl hk1 hFc hP1 hD1
  generalize H1 = H at hP hS ⊢
  refine lv_iconst (v := 0) hx hb (qaa ql2 15 rfl) (by decide) ?_
  refine lv_istore (lv' := [(4, .int 0), (0, .ref a0), (1, .int p1), (2, .int p2), (3, .int p3)]) hx hb (qaa qko 0 rfl) hl (by decide) rfl (fun ls hl => ?_)
  refine lv_iconst (v := (-1)) hx hb (qaa qko 1 rfl) (by decide) ?_
  refine lv_istore (lv' := [(5, .int (-1)), (4, .int 0), (0, .ref a0), (1, .int p1), (2, .int p2), (3, .int p3)]) hx hb (qaa qko 2 rfl) hl (by decide) rfl (fun ls hl => ?_)
  refine lv_iconst (v := 0) hx hb (qaa qko 3 rfl) (by decide) ?_
  refine lv_istore (lv' := [(6, .int 0), (5, .int (-1)), (4, .int 0), (0, .ref a0), (1, .int p1), (2, .int p2), (3, .int p3)]) hx hb (qaa qko 4 rfl) hl (by decide) rfl (fun ls hl => ?_)
  refine lv_iconst (v := 0) hx hb (qaa qko 5 rfl) (by decide) ?_
  refine lv_istore (lv' := [(7, .int 0), (6, .int 0), (5, .int (-1)), (4, .int 0), (0, .ref a0), (1, .int p1), (2, .int p2), (3, .int p3)]) hx hb (qaa qko 6 rfl) hl (by decide) rfl (fun ls hl => ?_)
  obtain ⟨n9, hw⟩ := hw
  exact qaIj dC dI cyB cyI cyJ cyP a0 jaK jfS ja1 jcp jbc jbV ja3 jbH ja2 jbO jaq jac jbI jbl jbn jba jaa jbA E Q C0 n9 _ _ _ x3 p1 p2 p3 0 (-1) 0 0 hP hD hS (lv_sub hl [5, 6, 7, 3, 2, 1, 0] rfl) hw
theorem qaEE : (.classLink RL 13 "java/lang/IllegalArgumentException" : Cond) ∈ wsL_road := qau6 595 (by decide +kernel)
theorem qaUt : (.codeWith yL_road cL_road 6 (some .int) [(0, 12, 15, 13)] : Cond) ∈ wsL_road := qau6 3782 (by decide +kernel)
set_option maxHeartbeats 4000000 in
set_option maxRecDepth 100000 in
theorem qa87 (l : Launch) (dC : Nat → ClassId) (dI : Nat → Nat → Nat) (cyB cyI cyJ cyP : ClassId) (a0 a4 sz : Nat) (jaK jfS ja1 jcp jbc jbV ja3 jbH ja2 jbO jaq jac jbI jbl jbn jba jaa jbA : Value) (n4 : Nat) (jbz : Int32) (f4 : Nat → Int64) (p1 p2 p3 : Int32) {Q : Int32 → Int32 → (Nat → Int64) → Prop} (hw : qaUF n4 jbz f4 p1 p2 p3 Q) : Met l yL_road wsL_road ({ frames := 9, cells := 3, slots := 18, locals := 193 }) (va_Pc [.ref a0, .int p1, .int p2, .int p3, .ref a4] (cPx l (dC, dI) (kT cyB cyI cyJ cyP) (qZy a0 jaK jfS ja1 jcp jbc jbV ja3 jbH ja2 jbO jaq jac jbI jbl jbn jba jaa jbA jbz a4 cyJ n4 f4) sz)) (va_Qi (fun (r : Int32) (u : Int32 × (Nat → Int64)) => Q r u.1 u.2) (cB (dC, dI) (kT cyB cyI cyJ cyP) (va_A (qZy a0 jaK jfS ja1 jcp jbc jbV ja3 jbH ja2 jbO jaq jac jbI jbl jbn jba jaa jbA jbz a4 cyJ n4 f4) sz) (fun u : Int32 × (Nat → Int64) => ((qZy a0 jaK jfS ja1 jcp jbc jbV ja3 jbH ja2 jbO jaq jac jbI jbl jbn jba jaa jbA u.1 a4 cyJ n4 u.2) : va_W))) (va_A (qZy a0 jaK jfS ja1 jcp jbc jbV ja3 jbH ja2 jbO jaq jac jbI jbl jbn jba jaa jbA jbz a4 cyJ n4 f4) sz)) 3 18 (va_A (qZy a0 jaK jfS ja1 jcp jbc jbV ja3 jbH ja2 jbO jaq jac jbI jbl jbn jba jaa jbA jbz a4 cyJ n4 f4) sz) := by
  refine va_MetW (cc := cL_road) (maxL := 6) (ret := (some .int)) (by decide) rfl ?_
  intro p e s m args below meth c s₁ B hml hv
  obtain ⟨rfl, hsz, hP, hK, hD0, hNw, hXl, hXu, hXn, hXt⟩ := hv
  have hx := B.exec
  have hb := B.bytes
  have hr := B.returns
  have hts := atoms_spec (ws := wsL_road) B.pre
  have hown : s.vm.findClass RL = some m.cls := findClass_of_methodNamed B.named
  have hlocks := B.notSynchronized
  subst hsz
  have hD := hD0.self (sz := s.heap.size)
  generalize hAe : va_A (qZy a0 jaK jfS ja1 jcp jbc jbV ja3 jbH ja2 jbO jaq jac jbI jbl jbn jba jaa jbA jbz a4 cyJ n4 f4) s.heap.size = A at hD hXu hXn ⊢
  have hA : ∀ q : Nat, s.heap.size ≤ q → A q := fun q h => by rw [← hAe]; exact Or.inr h
  have hS : va_S A s.heap s.heap [] := va_S.rf
  have hP : va_P (dC, dI) vwCl (qZy a0 jaK jfS ja1 jcp jbc jbV ja3 jbH ja2 jbO jaq jac jbI jbl jbn jba jaa jbA jbz a4 cyJ n4 f4) s.heap := hP
  have hl := lv_entry ([.ref a0, .int p1, .int p2, .int p3, .ref a4]) (n := 6) (nbq rfl)
  rw [lg_entry_eq]
  generalize (lg_sl ([.ref a0, .int p1, .int p2, .int p3, .ref a4]) ++ List.replicate (6 - (lg_sl ([.ref a0, .int p1, .int p2, .int p3, .ref a4])).length) Slot.unset).toArray = ls at hl ⊢
  have hl : lv_has ls 6 [(0, .ref a0), (1, .int p1), (2, .int p2), (3, .int p3), (4, .ref a4)] := hl
  have hY : cfY l s A := ⟨hXl, hXu, hXn, hXt⟩
  have hTb := vx_table (x := yL_road) B (hts _ qaUt)
  clear hAe
  obtain ⟨H, hH⟩ : ∃ H, H = s.heap := ⟨_, rfl⟩
  rw [← hH] at hP ⊢
  have hS : va_S A s.heap H [] := by rw [hH]; exact va_S.rf
  have hS := hS
  refine lv_aload hx hb (qaa qq4 0 rfl) (lv_at hl 4 rfl) ?_
  refine lv_iconst (v := 0) hx hb (qaa qq4 1 rfl) (by decide) ?_
  refine lv_aload_n hx hb (qaa qq4 2 rfl) rfl (lv_at hl 0 rfl) ?_
  refine lv_iload_n hx hb (qaa qq4 3 rfl) rfl (lv_at hl 1 rfl) ?_
  refine lv_iload_n hx hb (qaa qq4 4 rfl) rfl (lv_at hl 2 rfl) ?_
  refine lv_iload_n hx hb (qaa qq4 5 rfl) rfl (lv_at hl 3 rfl) ?_
  obtain ⟨hCc, hPc, hDc, hFc⟩ := qac (ws' := (qkC a0 jaK jfS ja1 jcp jbc jbV ja3 jbH ja2 jbO jaq jac jbI jbl jbn jba jaa jbA jbz)) hP hD hS hA [0] (by decide +kernel) rfl
  refine vx_calli (vx_runV (As := [.int p1, .int p2, .int p3]) (rest := [.int 0, .ref a4]) ⟨hx, hb, hml, hown, hts⟩ (qaWG l dC dI cyB cyI cyJ cyP a0 H.size (jaK) (jfS) (ja1) (jcp) (jbc) (jbV) (ja3) (jbH) (ja2) (jbO) (jaq) (jac) (jbI) (jbl) (jbn) (jba) (jaa) (jbA) jbz p1 p2 p3 hw) (cwV 3 hts gL_road_X10_road rfl rfl rfl (by decide +kernel) ⟨nbq rfl, nbq rfl⟩) ⟨qav, va_recv (q := (RX10, TX10, 19)) hK hPc (ci := 10) (q0 := 0) rfl rfl, qbl hPc hK hDc hNw hY hS hFc⟩ rfl rfl hl.1 rfl (lv_room (nbq rfl)) (qaa qq4 6 rfl) ⟨nbq rfl, nbq rfl⟩) hS (fun q _ h => hFc q h) hFc (fun q _ h => hFc q h) (fun en ce qx9 u t H1 locs ht hvm hpx hB hz1 hk1 hS hc9 hv9 hcl9 => ?_) (fun r2 u t H1 locs ht hvm hw hB hz1 hk1 hS => ?_)
  · obtain ⟨x1, rfl⟩ : ∃ z, z = u := ⟨_, rfl⟩
    obtain ⟨hw, hP1, hK1, hD1⟩ := hB
    rw [ht] at hP1
    obtain ⟨hP, hD⟩ := qad (wr := [(a4, .inl (cyJ, n4, .inr (.inl f4)))]) (w1 := (qkC a0 jaK jfS ja1 jcp jbc jbV ja3 jbH ja2 jbO jaq jac jbI jbl jbn jba jaa jbA x1)) (wn := (qZy a0 jaK jfS ja1 jcp jbc jbV ja3 jbH ja2 jbO jaq jac jbI jbl jbn jba jaa jbA x1 a4 cyJ n4 f4)) hP hD [0] [1] [1, 0] hCc rfl (by decide +kernel) (by decide +kernel) (by decide +kernel) rfl hk1 hFc hP1 hD1
    generalize H1 = H at hP hS hc9 ⊢
    obtain ⟨rfl, hw⟩ := hw
    refine vx_catch (own := RL) (name := "java/lang/IllegalArgumentException") hown [] ⟨0, 12, 15, 13⟩ [] (hTb.trans rfl) (fun z hz => nomatch hz) (by decide) (by decide) (hts _ qaEE) (va_Nw.use rfl (hY.2.2.2.1.2 _ (List.mem_of_getElem? (i := 0) rfl))) hc9 hv9 hcl9 ?_
    refine lv_astore (lv' := [(5, .ref qx9), (0, .ref a0), (1, .int p1), (2, .int p2), (3, .int p3), (4, .ref a4)]) hx hb (qaa qq4 10 rfl) hl (by decide) rfl (fun ls hl => ?_)
    refine lv_iconst (v := 1) hx hb (qaa qq4 11 rfl) (by decide) ?_
    exact (W.widen (k := 3) (n := 18) (nbq rfl) (nbq rfl) (W.iret (v := 1) hx hb hr (fun t ht hW => ⟨⟨1, (x1, f4), rfl, hw, by rw [ht]; exact hP, va_K.moved hW.alike hK, hD⟩, hS.F ht⟩) hS.2.2 (qaa qq4 12 rfl)))
  obtain ⟨x1, rfl⟩ : ∃ z, z = u := ⟨_, rfl⟩
  obtain ⟨hP1, hK1, hD1⟩ := hB
  rw [ht] at hP1
  obtain ⟨hP, hD⟩ := va_join (wr := [(a4, .inl (cyJ, n4, .inr (.inl f4)))]) (w1 := (qkC a0 jaK jfS ja1 jcp jbc jbV ja3 jbH ja2 jbO jaq jac jbI jbl jbn jba jaa jbA x1)) hP hD [0] [1] rfl rfl (by decide) (by decide) hk1 hFc hP1 hD1
  have hP : va_P (dC, dI) vwCl (qZy a0 jaK jfS ja1 jcp jbc jbV ja3 jbH ja2 jbO jaq jac jbI jbl jbn jba jaa jbA x1 a4 cyJ n4 f4) H1 := hP.sub [1, 0] rfl
  have hD : va_D A (qZy a0 jaK jfS ja1 jcp jbc jbV ja3 jbH ja2 jbO jaq jac jbI jbl jbn jba jaa jbA x1 a4 cyJ n4 f4) := hD.sub [1, 0] (by decide) rfl
  generalize H1 = H at hP hS ⊢
  refine lv_i2l (v := r2.toInt64) hx hb (qaa qq4 7 rfl) rfl ?_
  refine lv_topl (fun x3 ex3 => ?_)
  have hw := hw x3 ex3
  obtain ⟨hi9, hw⟩ := hw
  refine va_last hx hb hK hP hD hS 1 2 rfl rfl hi9 (qaa qq4 8 rfl) (fun H locs hP hD hS => ?_)
  obtain ⟨f5, ef5⟩ : ∃ y : Nat → Int64, y = vp_updL f4 (0 : Int32).toNatClampNeg x3 := ⟨_, rfl⟩
  have hw := hw f5 ef5
  have hP : va_P (dC, dI) vwCl (qZy a0 jaK jfS ja1 jcp jbc jbV ja3 jbH ja2 jbO jaq jac jbI jbl jbn jba jaa jbA x1 a4 cyJ n4 f5) H := by rw [ef5]; exact hP
  have hD : va_D A (qZy a0 jaK jfS ja1 jcp jbc jbV ja3 jbH ja2 jbO jaq jac jbI jbl jbn jba jaa jbA x1 a4 cyJ n4 f5) := by rw [ef5]; exact hD
  refine lv_goto (tgt := 19) hx hb (qaa qq4 9 rfl) (by decide) ?_
  refine lv_iconst (v := 0) hx hb (qaa qq4 13 rfl) (by decide) ?_
  exact (W.widen (k := 3) (n := 18) (nbq rfl) (nbq rfl) (W.iret (v := 0) hx hb hr (fun t ht hW => ⟨⟨0, (x1, f5), rfl, hw, by rw [ht]; exact hP, va_K.moved hW.alike hK, hD⟩, hS.F ht⟩) hS.2.2 (qaa qq4 14 rfl)))
theorem qaeC : ∀ w ∈ u_ws RX1 TX1 4, w ∈ wsX7_allowedTo := uiM qrK qWg (by decide +kernel)
theorem qad9 : ∀ w ∈ u_ws RX2 TX2 12, w ∈ wsX7_allowedTo := uiM qrK qLp (by decide +kernel)
theorem qabJ : (.fieldLink RX7 21 "MarchHares$Days" "down" "LMarchHares$Down;" : Cond) ∈ wsX7_allowedTo := qrK 3079 (by decide +kernel)
theorem q86 : (.fieldLink RX7 62 "MarchHares$Down" "safe" "I" : Cond) ∈ wsX7_allowedTo := qrK 3087 (by decide +kernel)
set_option maxHeartbeats 4000000 in
set_option maxRecDepth 100000 in
theorem qazE (l : Launch) (dC : Nat → ClassId) (dI : Nat → Nat → Nat) (cyB cyI cyJ cyP : ClassId) (a0 a1 jjO jjN jlL jjL jj7 jjM jjw jjs jjt sz : Nat) (jpn jo4 jnm jmf jjP jky jkz jkA jkX jkd jkB jke : Value) (jkO : NI) (jjm jh5 jkF jka : Int32) (jkx jkb jkl jkm jkt jkS : NI) (p2 : Int32) {Q : Int32 → NI → NI → Prop} (hw : qQw jkO jjm jh5 jkF jka jkx jkb jkl jkm jkt jkS p2 Q) : Met l yX7_allowedTo wsX7_allowedTo ({ frames := 4, cells := 0, slots := 0, locals := 99 }) (va_Pc [.ref a0, .ref a1, .int p2] (cPc (dC, dI) (kT cyB cyI cyJ cyP) (q8n a0 jpn jo4 jnm jmf a1 jjO jjP jjN jlL jjO cyI jkO jjN jjs jjt jky jkz jkA jkX jkd jkB jjm jh5 jke jkF jlL jjM jjw jj7 jjL jka jjL cyI jkt jj7 cyI jkS jjM cyI jkx jjw cyI jkb jjs cyI jkl jjt cyI jkm) sz)) (va_Qi (fun (r : Int32) (u : NI × NI) => Q r u.1 u.2) (cB (dC, dI) (kT cyB cyI cyJ cyP) (va_A (q8n a0 jpn jo4 jnm jmf a1 jjO jjP jjN jlL jjO cyI jkO jjN jjs jjt jky jkz jkA jkX jkd jkB jjm jh5 jke jkF jlL jjM jjw jj7 jjL jka jjL cyI jkt jj7 cyI jkS jjM cyI jkx jjw cyI jkb jjs cyI jkl jjt cyI jkm) sz) (fun u : NI × NI => ((q8n a0 jpn jo4 jnm jmf a1 jjO jjP jjN jlL jjO cyI jkO jjN jjs jjt jky jkz jkA jkX jkd jkB jjm jh5 jke jkF jlL jjM jjw jj7 jjL jka jjL cyI u.1 jj7 cyI u.2 jjM cyI jkx jjw cyI jkb jjs cyI jkl jjt cyI jkm) : va_W))) (va_A (q8n a0 jpn jo4 jnm jmf a1 jjO jjP jjN jlL jjO cyI jkO jjN jjs jjt jky jkz jkA jkX jkd jkB jjm jh5 jke jkF jlL jjM jjw jj7 jjL jka jjL cyI jkt jj7 cyI jkS jjM cyI jkx jjw cyI jkb jjs cyI jkl jjt cyI jkm) sz)) 0 0 (va_A (q8n a0 jpn jo4 jnm jmf a1 jjO jjP jjN jlL jjO cyI jkO jjN jjs jjt jky jkz jkA jkX jkd jkB jjm jh5 jke jkF jlL jjM jjw jj7 jjL jka jjL cyI jkt jj7 cyI jkS jjM cyI jkx jjw cyI jkb jjs cyI jkl jjt cyI jkm) sz) := by
  refine Met.ofW (cc := cX7_allowedTo) (maxL := 3) (ret := (some .int)) (by decide) rfl ?_
  intro p e s m args below meth c s₁ B hml hv
  obtain ⟨rfl, hsz, hP, hK, hD0, hNw⟩ := hv
  have hx := B.exec
  have hb := B.bytes
  have hr := B.returns
  have hts := atoms_spec (ws := wsX7_allowedTo) B.pre
  have hown : s.vm.findClass RX7 = some m.cls := findClass_of_methodNamed B.named
  have hlocks := B.notSynchronized
  subst hsz
  have hD := hD0.self (sz := s.heap.size)
  generalize hAe : va_A (q8n a0 jpn jo4 jnm jmf a1 jjO jjP jjN jlL jjO cyI jkO jjN jjs jjt jky jkz jkA jkX jkd jkB jjm jh5 jke jkF jlL jjM jjw jj7 jjL jka jjL cyI jkt jj7 cyI jkS jjM cyI jkx jjw cyI jkb jjs cyI jkl jjt cyI jkm) s.heap.size = A at hD ⊢
  have hA : ∀ q : Nat, s.heap.size ≤ q → A q := fun q h => by rw [← hAe]; exact Or.inr h
  have hS : va_S A s.heap s.heap [] := va_S.rf
  have hP : va_P (dC, dI) vwCl (q8n a0 jpn jo4 jnm jmf a1 jjO jjP jjN jlL jjO cyI jkO jjN jjs jjt jky jkz jkA jkX jkd jkB jjm jh5 jke jkF jlL jjM jjw jj7 jjL jka jjL cyI jkt jj7 cyI jkS jjM cyI jkx jjw cyI jkb jjs cyI jkl jjt cyI jkm) s.heap := hP
  have hl := lv_entry ([.ref a0, .ref a1, .int p2]) (n := 3) (nbq rfl)
  rw [lg_entry_eq]
  generalize (lg_sl ([.ref a0, .ref a1, .int p2]) ++ List.replicate (3 - (lg_sl ([.ref a0, .ref a1, .int p2])).length) Slot.unset).toArray = ls at hl ⊢
  have hl : lv_has ls 3 [(0, .ref a0), (1, .ref a1), (2, .int p2)] := hl
  have C0 : cfx p s m _ meth c cX7_allowedTo (some .int) wsX7_allowedTo RX7 3 A (dC, dI) (kT cyB cyI cyJ cyP) := ⟨hx, hb, hr, hts, hown, hlocks, hml, hA, hK, hNw⟩
  clear hAe
  obtain ⟨H, hH⟩ : ∃ H, H = s.heap := ⟨_, rfl⟩
  rw [← hH] at hP ⊢
  have hS : va_S A s.heap H [] := by rw [hH]; exact va_S.rf
  have hS := hS
  refine lv_aload_n hx hb (qaa qeF 0 rfl) rfl (lv_at hl 1 rfl) ?_
  refine lv_iload_n hx hb (qaa qeF 1 rfl) rfl (lv_at hl 2 rfl) ?_
  obtain ⟨hCc, hPc, hDc, hFc⟩ := qac (ws' := (qaL2 a1 jjO jjP jjN jlL jjO cyI jkO)) hP hD hS hA [1, 2] (by decide +kernel) rfl
  refine va_calli (va_runV (As := [.int p2]) (rest := []) ⟨hx, hb, hml, hown, hts⟩ (qia l dC dI cyB cyI cyJ cyP a1 jjO H.size (jjP) (.ref jjN) (.ref jlL) jkO p2 hw) (cwV 1 hts gX7_allowedTo_X1_isCaught rfl rfl rfl (by decide +kernel) ⟨nbq rfl, nbq rfl⟩) ⟨qab, va_recv (q := (RX1, TX1, 4)) hK hPc (ci := 1) (q0 := 0) rfl rfl, qae hPc hK hDc hNw⟩ rfl rfl hl.1 rfl (lv_room (nbq rfl)) (qaa qeF 2 rfl) ⟨nbq rfl, nbq rfl⟩) hS (fun q _ h => hFc q h) hFc (fun r1 u t H1 locs ht hvm hw hB hz1 hk1 hS => ?_)
  obtain ⟨hP1, hK1, hD1⟩ := hB
  rw [ht] at hP1
  obtain ⟨hP, hD⟩ := qad (wr := (qbeC a0 jpn jo4 jnm jmf jjN jjs jjt jky jkz jkA jkX jkd jkB jjm jh5 jke jkF jlL jjM jjw jj7 jjL jka jjL cyI jkt jj7 cyI jkS jjM cyI jkx jjw cyI jkb jjs cyI jkl jjt cyI jkm)) (w1 := (qaL2 a1 jjO jjP jjN jlL jjO cyI jkO)) (wn := (q8n a0 jpn jo4 jnm jmf a1 jjO jjP jjN jlL jjO cyI jkO jjN jjs jjt jky jkz jkA jkX jkd jkB jjm jh5 jke jkF jlL jjM jjw jj7 jjL jka jjL cyI jkt jj7 cyI jkS jjM cyI jkx jjw cyI jkb jjs cyI jkl jjt cyI jkm)) hP hD [1, 2] [0, 3, 4, 5, 6, 7, 8, 9, 10] [0, 9, 10, 1, 2, 3, 4, 5, 6, 7, 8] hCc rfl (by decide +kernel) (by decide +kernel) (by decide +kernel) rfl hk1 hFc hP1 hD1
  generalize H1 = H at hP hS ⊢
  refine lv_if_eq (tgt := 10) hx hb (qaa qeF 3 rfl) (by decide) (fun c2 => ?_) (fun c2 => ?_)
  · have hw := hw.1 c2
    refine lv_aload_n hx hb (qaa qeF 6 rfl) rfl (lv_at hl 1 rfl) ?_
    refine lv_iload_n hx hb (qaa qeF 7 rfl) rfl (lv_at hl 2 rfl) ?_
    obtain ⟨hCc, hPc, hDc, hFc⟩ := qac (ws' := (qbcT a1 jjO jjP jjN jlL jjO cyI jkO jjN jjs jjt jky jkz jkA jkX jkd jkB jjm jh5 jke jkF jlL jjM jjw jj7 jjL jka jjL cyI jkt jj7 cyI jkS jjM cyI jkx jjw cyI jkb jjs cyI jkl jjt cyI jkm)) hP hD hS hA [1, 2, 3, 4, 5, 6, 7, 8, 9, 10] (by decide +kernel) rfl
    refine va_calli (va_runV (As := [.int p2]) (rest := []) ⟨hx, hb, hml, hown, hts⟩ (q7t l dC dI cyB cyI cyJ cyP a1 jjO jjN jlL jjL jj7 jjM jjw jjs jjt H.size (jjP) (jky) (jkz) (jkA) (jkX) (jkd) (jkB) (jke) (.int jkF) jkO jjm jh5 jka jkx jkb jkl jkm jkt jkS p2 hw) (cwV 1 hts gX7_allowedTo_X1_leapable rfl rfl rfl (by decide +kernel) ⟨nbq rfl, nbq rfl⟩) ⟨qab, va_recv (q := (RX1, TX1, 4)) hK hPc (ci := 1) (q0 := 0) rfl rfl, qae hPc hK hDc hNw⟩ rfl rfl hl.1 rfl (lv_room (nbq rfl)) (qaa qeF 8 rfl) ⟨nbq rfl, nbq rfl⟩) hS (fun q _ h => hFc q h) hFc (fun r5 u t H1 locs ht hvm hw hB hz1 hk1 hS => ?_)
    obtain ⟨f3, f4⟩ := u
    obtain ⟨hP1, hK1, hD1⟩ := hB
    rw [ht] at hP1
    obtain ⟨hP, hD⟩ := qah (wr := [(a0, .inr (7, [jpn, jo4, jnm, jmf]))]) (w1 := (qbcT a1 jjO jjP jjN jlL jjO cyI jkO jjN jjs jjt jky jkz jkA jkX jkd jkB jjm jh5 jke jkF jlL jjM jjw jj7 jjL jka jjL cyI f3 jj7 cyI f4 jjM cyI jkx jjw cyI jkb jjs cyI jkl jjt cyI jkm)) (wn := (q8n a0 jpn jo4 jnm jmf a1 jjO jjP jjN jlL jjO cyI jkO jjN jjs jjt jky jkz jkA jkX jkd jkB jjm jh5 jke jkF jlL jjM jjw jj7 jjL jka jjL cyI f3 jj7 cyI f4 jjM cyI jkx jjw cyI jkb jjs cyI jkl jjt cyI jkm)) hP hD [1, 2, 3, 4, 5, 6, 7, 8, 9, 10] [0] hCc rfl (by decide +kernel) (by decide +kernel) rfl hk1 hFc hP1 hD1
    generalize H1 = H at hP hS ⊢
    refine lv_iconst (v := 1) hx hb (qaa qeF 9 rfl) (by decide) ?_
    refine lv_aload_n hx hb (qaa qeF 10 rfl) rfl (lv_at hl 1 rfl) ?_
    refine lv_iload_n hx hb (qaa qeF 11 rfl) rfl (lv_at hl 2 rfl) ?_
    obtain ⟨hCc, hPc, hDc, hFc⟩ := qac (ws' := (qaL2 a1 jjO jjP jjN jlL jjO cyI jkO)) hP hD hS hA [1, 2] (by decide +kernel) rfl
    refine va_calli (va_runV (As := [.int p2]) (rest := [.int 1, .int r5]) ⟨hx, hb, hml, hown, hts⟩ (qvw l dC dI cyB cyI cyJ cyP a1 jjO H.size (jjP) (.ref jjN) (.ref jlL) jkO p2 hw) (cwV 1 hts gX7_allowedTo_X1_sits rfl rfl rfl (by decide +kernel) ⟨nbq rfl, nbq rfl⟩) ⟨qab, va_recv (q := (RX1, TX1, 4)) hK hPc (ci := 1) (q0 := 0) rfl rfl, qae hPc hK hDc hNw⟩ rfl rfl hl.1 rfl (lv_room (nbq rfl)) (qaa qeF 12 rfl) ⟨nbq rfl, nbq rfl⟩) hS (fun q _ h => hFc q h) hFc (fun r6 u t H1 locs ht hvm hw hB hz1 hk1 hS => ?_)
    obtain ⟨hP1, hK1, hD1⟩ := hB
    rw [ht] at hP1
    obtain ⟨hP, hD⟩ := qad (wr := (qbeC a0 jpn jo4 jnm jmf jjN jjs jjt jky jkz jkA jkX jkd jkB jjm jh5 jke jkF jlL jjM jjw jj7 jjL jka jjL cyI f3 jj7 cyI f4 jjM cyI jkx jjw cyI jkb jjs cyI jkl jjt cyI jkm)) (w1 := (qaL2 a1 jjO jjP jjN jlL jjO cyI jkO)) (wn := (q8n a0 jpn jo4 jnm jmf a1 jjO jjP jjN jlL jjO cyI jkO jjN jjs jjt jky jkz jkA jkX jkd jkB jjm jh5 jke jkF jlL jjM jjw jj7 jjL jka jjL cyI f3 jj7 cyI f4 jjM cyI jkx jjw cyI jkb jjs cyI jkl jjt cyI jkm)) hP hD [1, 2] [0, 3, 4, 5, 6, 7, 8, 9, 10] [0, 9, 10, 1, 2, 3, 4, 5, 6, 7, 8] hCc rfl (by decide +kernel) (by decide +kernel) (by decide +kernel) rfl hk1 hFc hP1 hD1
    generalize H1 = H at hP hS ⊢
    refine lv_ishl hx hb (qaa qeF 13 rfl) ?_
    refine lv_ior hx hb (qaa qeF 14 rfl) ?_
    refine lv_aload_n hx hb (qaa qeF 15 rfl) rfl (lv_at hl 1 rfl) ?_
    refine va_get (D := (dC, dI)) (ci := 1) (v := .ref jjN) (C := RX1) (T := TX1) (N := 4) hx hb hts qaeC hown hK hP 1 rfl rfl 2 (by decide) (hts _ qabJ) (fun _ h9 => h9) rfl (qaa qA5 0 rfl) ?_
    refine va_get (D := (dC, dI)) (ci := 2) (v := .int jkF) (C := RX2) (T := TX2) (N := 12) hx hb hts qad9 hown hK hP 3 rfl rfl 11 (by decide) (hts _ q86) (fun _ h9 => h9) rfl (qaa qA5 1 rfl) ?_
    refine lv_iand hx hb (qaa qA5 2 rfl) ?_
    refine lv_topi (fun x7 ex7 => ?_)
    have hw := hw x7 ex7
    exact ((W.iret (v := x7) hx hb hr (fun t ht hW => ⟨⟨x7, (f3, f4), rfl, hw, by rw [ht]; exact hP, va_K.moved hW.alike hK, hD⟩, hS.F ht⟩) hS.2.2 (qaa qA5 3 rfl)))
  · have hw := hw.2 c2
    refine lv_iconst (v := 0) hx hb (qaa qeF 4 rfl) (by decide) ?_
    exact ((W.iret (v := 0) hx hb hr (fun t ht hW => ⟨⟨0, (jkt, jkS), rfl, hw, by rw [ht]; exact hP, va_K.moved hW.alike hK, hD⟩, hS.F ht⟩) hS.2.2 (qaa qeF 5 rfl)))
theorem qaah : ∀ w ∈ u_ws RX7 TX7 4, w ∈ wsX7_mostBehind := uiM q03 euX7 (by decide +kernel)
theorem q8U : (.fieldLink RX7 9 "MarchHares$Seating" "most" "[I" : Cond) ∈ wsX7_mostBehind := q03 384 (by decide +kernel)
set_option maxHeartbeats 4000000 in
set_option maxRecDepth 100000 in
theorem qL7 (l : Launch) (dC : Nat → ClassId) (dI : Nat → Nat → Nat) (cyB cyI cyJ cyP : ClassId) (a0 jkI sz : Nat) (jo4 jnm jmf : Value) (jk7 : NI) (p1 p2 : Int32) {Q : Int32 → Prop} (hw : qAn jk7 p1 p2 Q) : Met l yX7_mostBehind wsX7_mostBehind ({ frames := 0, cells := 0, slots := 0, locals := 0 }) (va_Pc [.ref a0, .int p1, .int p2] (cPc (dC, dI) (kT cyB cyI cyJ cyP) (qavR a0 jkI jo4 jnm jmf jkI cyI jk7) sz)) (va_Qi (fun (r : Int32) (_ : Unit) => Q r ) (cB (dC, dI) (kT cyB cyI cyJ cyP) (va_A (qavR a0 jkI jo4 jnm jmf jkI cyI jk7) sz) (fun u : Unit => ((qavR a0 jkI jo4 jnm jmf jkI cyI jk7) : va_W))) (va_A (qavR a0 jkI jo4 jnm jmf jkI cyI jk7) sz)) 0 0 (va_A (qavR a0 jkI jo4 jnm jmf jkI cyI jk7) sz) := by
  refine Met.ofW (cc := cX7_mostBehind) (maxL := 3) (ret := (some .int)) (by decide) rfl ?_
  intro p e s m args below meth c s₁ B hml hv
  obtain ⟨rfl, hsz, hP, hK, hD0, hNw⟩ := hv
  have hx := B.exec
  have hb := B.bytes
  have hr := B.returns
  have hts := atoms_spec (ws := wsX7_mostBehind) B.pre
  have hown : s.vm.findClass RX7 = some m.cls := findClass_of_methodNamed B.named
  have hlocks := B.notSynchronized
  subst hsz
  have hD := hD0.self (sz := s.heap.size)
  generalize hAe : va_A (qavR a0 jkI jo4 jnm jmf jkI cyI jk7) s.heap.size = A at hD ⊢
  have hA : ∀ q : Nat, s.heap.size ≤ q → A q := fun q h => by rw [← hAe]; exact Or.inr h
  have hS : va_S A s.heap s.heap [] := va_S.rf
  have hP : va_P (dC, dI) vwCl (qavR a0 jkI jo4 jnm jmf jkI cyI jk7) s.heap := hP
  have hl := lv_entry ([.ref a0, .int p1, .int p2]) (n := 3) (nbq rfl)
  rw [lg_entry_eq]
  generalize (lg_sl ([.ref a0, .int p1, .int p2]) ++ List.replicate (3 - (lg_sl ([.ref a0, .int p1, .int p2])).length) Slot.unset).toArray = ls at hl ⊢
  have hl : lv_has ls 3 [(0, .ref a0), (1, .int p1), (2, .int p2)] := hl
  have C0 : cfx p s m _ meth c cX7_mostBehind (some .int) wsX7_mostBehind RX7 3 A (dC, dI) (kT cyB cyI cyJ cyP) := ⟨hx, hb, hr, hts, hown, hlocks, hml, hA, hK, hNw⟩
  clear hAe
  obtain ⟨H, hH⟩ : ∃ H, H = s.heap := ⟨_, rfl⟩
  rw [← hH] at hP ⊢
  have hS : va_S A s.heap H [] := by rw [hH]; exact va_S.rf
  have hS := hS
  refine lv_aload_n hx hb (qaa qkR 0 rfl) rfl (lv_at hl 0 rfl) ?_
  refine va_get (D := (dC, dI)) (ci := 7) (v := .ref jkI) (C := RX7) (T := TX7) (N := 4) hx hb hts qaah hown hK hP 0 rfl rfl 0 (by decide) (hts _ q8U) (fun _ h9 => h9) rfl (qaa qkR 1 rfl) ?_
  refine lv_iload_n hx hb (qaa qkR 2 rfl) rfl (lv_at hl 1 rfl) ?_
  refine lv_iconst (v := 1) hx hb (qaa qkR 3 rfl) (by decide) ?_
  refine lv_iadd hx hb (qaa qkR 4 rfl) ?_
  refine lv_topi (fun x1 ex1 => ?_)
  have hw := hw x1 ex1
  refine lv_bipush (v := 8) hx hb (qaa qkR 5 rfl) (by decide) ?_
  refine lv_ishl hx hb (qaa qkR 6 rfl) ?_
  refine lv_topi (fun x2 ex2 => ?_)
  have hw := hw x2 ex2
  refine lv_iload_n hx hb (qaa qkR 7 rfl) rfl (lv_at hl 2 rfl) ?_
  refine lv_iadd hx hb (qaa qkR 8 rfl) ?_
  refine lv_topi (fun x3 ex3 => ?_)
  have hw := hw x3 ex3
  obtain ⟨hi9, hw⟩ := hw
  refine va_iald hx hb hK hP 1 1 rfl rfl hi9 (qaa qkR 9 rfl) ?_
  refine lv_topi (fun x4 ex4 => ?_)
  have hw := hw x4 ex4
  exact ((W.iret (v := x4) hx hb hr (fun t ht hW => ⟨⟨x4, (), rfl, hw, by rw [ht]; exact hP, va_K.moved hW.alike hK, hD⟩, hS.F ht⟩) hS.2.2 (qaa qkR 10 rfl)))
theorem qajm : ∀ w ∈ u_ws RX7 TX7 4, w ∈ wsX7_mostFrom := uiM qrT euX7 (by decide +kernel)
theorem qac3 : (.fieldLink RX7 15 "MarchHares$Seating" "allowed" "[I" : Cond) ∈ wsX7_mostFrom := qrT 385 (by decide +kernel)
theorem q0x : (.initialized RX10 : Cond) ∈ wsX7_mostFrom := qrT 2 (by decide +kernel)
theorem q9C : (.initialized "java/lang/Math" : Cond) ∈ wsX7_mostFrom := qrT 651 (by decide +kernel)
theorem qah2 : (.methodLink RX7 72 Lib.Math.max.name : Cond) ∈ wsX7_mostFrom := qrT 3138 (by decide +kernel)
theorem q68 : (.code Lib.Math.max.name Lib.Math.max.code 2 (some .int) : Cond) ∈ wsX7_mostFrom := qrT 1931 (by decide +kernel)
theorem q69 : (.static Lib.Math.max.name : Cond) ∈ wsX7_mostFrom := qrT 1930 (by decide +kernel)
theorem qRA : (.static yX10_holds : Cond) ∈ wsX7_mostFrom := qrT 2052 (by decide +kernel)
set_option maxHeartbeats 4000000 in
set_option maxRecDepth 100000 in
theorem qWa {p : Program} {l : Launch} {e : Env} {s : State} {m : MethodId} {args : Array Value} {below : List Frame} {meth : Method} {c : Code} {A : Nat → Prop} (dC : Nat → ClassId) (dI : Nat → Nat → Nat) (cyB cyI cyJ cyP : ClassId) (a0 jjz jkI : Nat) (jnm jmf : Value) (jj2 jk7 : NI) (Q : Int32 → Prop) (K22 : Int32 → Int32 → Int32 → Int32 → Int32 → Prop) (hK22 : ∀ (H : Heap) (locs : List Loc) (ls : Array Slot) (l1 l2 l3 l4 l5 : Int32), va_P (dC, dI) vwCl (qsc a0 jkI jjz jnm jmf jjz cyI jj2 jkI cyI jk7) H → va_D A (qsc a0 jkI jjz jnm jmf jjz cyI jj2 jkI cyI jk7) → va_S A s.heap H locs → lv_has ls 6 [(0, .ref a0), (1, .int l1), (2, .int l2), (3, .int l3), (4, .int l4), (5, .int l5)] → K22 l1 l2 l3 l4 l5 → W p l e (headSpec wsX7_mostFrom ({ frames := 1, cells := 0, slots := 0, locals := 32 })).room s m args below meth c H locs 0 0 (MQ below (va_Qi (fun (r : Int32) (_ : Unit) => Q r ) (cB (dC, dI) (kT cyB cyI cyJ cyP) A (fun u : Unit => ((qsc a0 jkI jjz jnm jmf jjz cyI jj2 jkI cyI jk7) : va_W))) A) args s 0 0 A) (F0 m 22 ls [])) (C0 : cfx p s m args meth c cX7_mostFrom (some .int) wsX7_mostFrom RX7 6 A (dC, dI) (kT cyB cyI cyJ cyP)) : ∀ (H : Heap) (locs : List Loc) (ls : Array Slot) (l1 l2 l3 l4 l5 : Int32), va_P (dC, dI) vwCl (qsc a0 jkI jjz jnm jmf jjz cyI jj2 jkI cyI jk7) H → va_D A (qsc a0 jkI jjz jnm jmf jjz cyI jj2 jkI cyI jk7) → va_S A s.heap H locs → lv_has ls 6 [(0, .ref a0), (1, .int l1), (2, .int l2), (3, .int l3), (4, .int l4), (5, .int l5)] → qJ0 jj2 jk7 Q K22 l1 l2 l3 l4 l5 → W p l e (headSpec wsX7_mostFrom ({ frames := 1, cells := 0, slots := 0, locals := 32 })).room s m args below meth c H locs 0 0 (MQ below (va_Qi (fun (r : Int32) (_ : Unit) => Q r ) (cB (dC, dI) (kT cyB cyI cyJ cyP) A (fun u : Unit => ((qsc a0 jkI jjz jnm jmf jjz cyI jj2 jkI cyI jk7) : va_W))) A) args s 0 0 A) (F0 m 58 ls []) := by
  obtain ⟨hx, hb, hr, hts, hown, hlocks, hml, hA, hK, hNw⟩ := id C0
  intro H locs ls l1 l2 l3 l4 l5 hP hD hS hl hw
  obtain ⟨x9, ex9⟩ : ∃ y : Int32, y = l5 + 1 := ⟨_, rfl⟩
  have hw := hw x9 ex9
  refine lv_iinc (v := x9) (lv' := [(5, .int x9), (0, .ref a0), (1, .int l1), (2, .int l2), (3, .int l3), (4, .int l4)]) hx hb (qaa qri 4 rfl) hl (k := 5) rfl (by rw [ex9]; rfl) (by decide) rfl (fun ls hl => ?_)
  refine lv_goto (tgt := 22) hx hb (qaa qri 5 rfl) (by decide) ?_
  exact hK22 _ _ _ l1 l2 l3 l4 x9 hP hD hS (lv_sub hl [1, 2, 3, 4, 5, 0] rfl) hw
set_option maxHeartbeats 4000000 in
set_option maxRecDepth 100000 in
theorem qak0 {p : Program} {l : Launch} {e : Env} {s : State} {m : MethodId} {args : Array Value} {below : List Frame} {meth : Method} {c : Code} {A : Nat → Prop} (dC : Nat → ClassId) (dI : Nat → Nat → Nat) (cyB cyI cyJ cyP : ClassId) (a0 jjz jkI : Nat) (jnm jmf : Value) (jj2 jk7 : NI) (Q : Int32 → Prop) (C0 : cfx p s m args meth c cX7_mostFrom (some .int) wsX7_mostFrom RX7 6 A (dC, dI) (kT cyB cyI cyJ cyP)) : ∀ (n : Nat) (H : Heap) (locs : List Loc) (ls : Array Slot) (l1 l2 l3 l4 l5 : Int32), va_P (dC, dI) vwCl (qsc a0 jkI jjz jnm jmf jjz cyI jj2 jkI cyI jk7) H → va_D A (qsc a0 jkI jjz jnm jmf jjz cyI jj2 jkI cyI jk7) → va_S A s.heap H locs → lv_has ls 6 [(0, .ref a0), (1, .int l1), (2, .int l2), (3, .int l3), (4, .int l4), (5, .int l5)] → qs7 jj2 jk7 Q n l1 l2 l3 l4 l5 → W p l e (headSpec wsX7_mostFrom ({ frames := 1, cells := 0, slots := 0, locals := 32 })).room s m args below meth c H locs 0 0 (MQ below (va_Qi (fun (r : Int32) (_ : Unit) => Q r ) (cB (dC, dI) (kT cyB cyI cyJ cyP) A (fun u : Unit => ((qsc a0 jkI jjz jnm jmf jjz cyI jj2 jkI cyI jk7) : va_W))) A) args s 0 0 A) (F0 m 22 ls []) := by
  obtain ⟨hx, hb, hr, hts, hown, hlocks, hml, hA, hK, hNw⟩ := id C0
  intro n
  induction n with
  | zero => intro H locs ls l1 l2 l3 l4 l5 hP hD hS hl hw; exact False.elim hw
  | succ n ih =>
    intro H locs ls l1 l2 l3 l4 l5 hP hD hS hl hw
    refine lv_iload hx hb (qaa qei 0 rfl) (lv_at hl 5 rfl) ?_
    refine lv_bipush (v := 8) hx hb (qaa qei 1 rfl) (by decide) ?_
    refine lv_icmp_ge (tgt := 64) hx hb (qaa qei 2 rfl) (by decide) (fun c4 => ?_) (fun c4 => ?_)
    · have hw := hw.1 c4
      refine lv_iload hx hb (qaa qri 6 rfl) (lv_at hl 4 rfl) ?_
      exact ((W.iret (v := l4) hx hb hr (fun t ht hW => ⟨⟨l4, (), rfl, hw, by rw [ht]; exact hP, va_K.moved hW.alike hK, hD⟩, hS.F ht⟩) hS.2.2 (qaa qri 7 rfl)))
    · have hw := hw.2 c4
      refine lv_iload_n hx hb (qaa qei 3 rfl) rfl (lv_at hl 3 rfl) ?_
      refine lv_iload hx hb (qaa qei 4 rfl) (lv_at hl 5 rfl) ?_
      obtain ⟨hCc, hPc, hDc, hFc⟩ := qac (ws' := []) hP hD hS hA [] (by decide +kernel) rfl
      refine va_calli (va_runSN (As := [.int l3, .int l5]) (rest := []) ⟨hx, hb, hml, hown, hts⟩ (qnv l dC dI cyB cyI cyJ cyP H.size l3 l5 hw) ⟨(va_cnB 2 hts gX7_mostFrom_X10_holds_n68 rfl rfl rfl (qbju hNw) (hts _ q0x) (by decide +kernel) ⟨nbq rfl, nbq rfl⟩), (hts _ qRA), trivial⟩ ⟨qab, qae hPc hK hDc hNw⟩ rfl rfl hl.1 rfl (lv_room (nbq rfl)) (qaa qei 5 rfl) ⟨nbq rfl, nbq rfl⟩) hS (fun q _ h => hFc q h) hFc (fun r5 u t H1 locs ht hvm hw hB hz1 hk1 hS => ?_)
      obtain ⟨hP1, hK1, hD1⟩ := hB
      rw [ht] at hP1
      obtain ⟨hP, hD⟩ := qah (wr := (qsc a0 jkI jjz jnm jmf jjz cyI jj2 jkI cyI jk7)) (w1 := []) (wn := (qsc a0 jkI jjz jnm jmf jjz cyI jj2 jkI cyI jk7)) hP hD [] [0, 1, 2] hCc rfl (by decide +kernel) (by decide +kernel) rfl hk1 hFc hP1 hD1
      generalize H1 = H at hP hS ⊢
      refine lv_if_eq (tgt := 58) hx hb (qaa qei 6 rfl) (by decide) (fun c6 => ?_) (fun c6 => ?_)
      · have hw := hw.1 c6
        exact qWa dC dI cyB cyI cyJ cyP a0 jjz jkI jnm jmf jj2 jk7 Q (qs7 jj2 jk7 Q n) ih C0 _ _ _ l1 l2 l3 l4 l5 hP hD hS (lv_sub hl [0, 1, 2, 3, 4, 5] rfl) hw
      · have hw := hw.2 c6
        refine lv_iload hx hb (qaa qei 7 rfl) (lv_at hl 4 rfl) ?_
        refine lv_iconst (v := 1) hx hb (qaa qei 8 rfl) (by decide) ?_
        refine lv_aload_n hx hb (qaa qei 9 rfl) rfl (lv_at hl 0 rfl) ?_
        refine lv_iload_n hx hb (qaa qei 10 rfl) rfl (lv_at hl 1 rfl) ?_
        refine lv_iload_n hx hb (qaa qei 11 rfl) rfl (lv_at hl 2 rfl) ?_
        refine lv_iconst (v := 1) hx hb (qaa qei 12 rfl) (by decide) ?_
        refine lv_iload hx hb (qaa qei 13 rfl) (lv_at hl 5 rfl) ?_
        refine lv_ishl hx hb (qaa qei 14 rfl) ?_
        refine lv_ior hx hb (qaa qei 15 rfl) ?_
        obtain ⟨hCc, hPc, hDc, hFc⟩ := qac (ws' := (qakv a0 jkI jjz jnm jmf jkI cyI jk7)) hP hD hS hA [0, 2] (by decide +kernel) rfl
        refine va_calli (va_runV (As := [.int l1, .int (l2 ||| (1 <<< (l5 &&& 31)))]) (rest := [.int 1, .int l4]) ⟨hx, hb, hml, hown, hts⟩ (qL7 l dC dI cyB cyI cyJ cyP a0 jkI H.size (.ref jjz) (jnm) (jmf) jk7 l1 (l2 ||| (1 <<< (l5 &&& 31))) hw) (cwV 2 hts gX7_mostFrom_X7_mostBehind rfl rfl rfl (by decide +kernel) ⟨nbq rfl, nbq rfl⟩) ⟨qab, va_recv (q := (RX7, TX7, 4)) hK hPc (ci := 7) (q0 := 0) rfl rfl, qae hPc hK hDc hNw⟩ rfl rfl hl.1 rfl (lv_room (nbq rfl)) (qaa qri 0 rfl) ⟨nbq rfl, nbq rfl⟩) hS (fun q _ h => hFc q h) hFc (fun r7 u t H1 locs ht hvm hw hB hz1 hk1 hS => ?_)
        obtain ⟨hP1, hK1, hD1⟩ := hB
        rw [ht] at hP1
        obtain ⟨hP, hD⟩ := qad (wr := (qaQ3 jjz cyI jj2)) (w1 := (qakv a0 jkI jjz jnm jmf jkI cyI jk7)) (wn := (qsc a0 jkI jjz jnm jmf jjz cyI jj2 jkI cyI jk7)) hP hD [0, 2] [1] [1, 0, 2] hCc rfl (by decide +kernel) (by decide +kernel) (by decide +kernel) rfl hk1 hFc hP1 hD1
        generalize H1 = H at hP hS ⊢
        refine lv_iadd hx hb (qaa qri 1 rfl) ?_
        refine va_mmax hx hb (by rw [hml]; exact hl.1.symm) hown (hts _ qah2) (hts _ q69) (hts _ q9C) (hts _ q68) (nbq rfl) (nbq rfl) (nbq rfl) (nbq rfl) (qaa qri 2 rfl) ?_
        refine lv_topi (fun x8 ex8 => ?_)
        have hw := hw x8 ex8
        refine lv_istore (lv' := [(4, .int x8), (0, .ref a0), (1, .int l1), (2, .int l2), (3, .int l3), (5, .int l5)]) hx hb (qaa qri 3 rfl) hl (by decide) rfl (fun ls hl => ?_)
        exact qWa dC dI cyB cyI cyJ cyP a0 jjz jkI jnm jmf jj2 jk7 Q (qs7 jj2 jk7 Q n) ih C0 _ _ _ l1 l2 l3 x8 l5 hP hD hS (lv_sub hl [1, 2, 3, 4, 0, 5] rfl) hw
set_option maxHeartbeats 4000000 in
set_option maxRecDepth 100000 in
theorem qaGg (l : Launch) (dC : Nat → ClassId) (dI : Nat → Nat → Nat) (cyB cyI cyJ cyP : ClassId) (a0 jjz jkI sz : Nat) (jnm jmf : Value) (jj2 jk7 : NI) (p1 p2 : Int32) {Q : Int32 → Prop} (hw : qTK jj2 jk7 p1 p2 Q) : Met l yX7_mostFrom wsX7_mostFrom ({ frames := 1, cells := 0, slots := 0, locals := 32 }) (va_Pc [.ref a0, .int p1, .int p2] (cPc (dC, dI) (kT cyB cyI cyJ cyP) (qsc a0 jkI jjz jnm jmf jjz cyI jj2 jkI cyI jk7) sz)) (va_Qi (fun (r : Int32) (_ : Unit) => Q r ) (cB (dC, dI) (kT cyB cyI cyJ cyP) (va_A (qsc a0 jkI jjz jnm jmf jjz cyI jj2 jkI cyI jk7) sz) (fun u : Unit => ((qsc a0 jkI jjz jnm jmf jjz cyI jj2 jkI cyI jk7) : va_W))) (va_A (qsc a0 jkI jjz jnm jmf jjz cyI jj2 jkI cyI jk7) sz)) 0 0 (va_A (qsc a0 jkI jjz jnm jmf jjz cyI jj2 jkI cyI jk7) sz) := by
  refine Met.ofW (cc := cX7_mostFrom) (maxL := 6) (ret := (some .int)) (by decide) rfl ?_
  intro p e s m args below meth c s₁ B hml hv
  obtain ⟨rfl, hsz, hP, hK, hD0, hNw⟩ := hv
  have hx := B.exec
  have hb := B.bytes
  have hr := B.returns
  have hts := atoms_spec (ws := wsX7_mostFrom) B.pre
  have hown : s.vm.findClass RX7 = some m.cls := findClass_of_methodNamed B.named
  have hlocks := B.notSynchronized
  subst hsz
  have hD := hD0.self (sz := s.heap.size)
  generalize hAe : va_A (qsc a0 jkI jjz jnm jmf jjz cyI jj2 jkI cyI jk7) s.heap.size = A at hD ⊢
  have hA : ∀ q : Nat, s.heap.size ≤ q → A q := fun q h => by rw [← hAe]; exact Or.inr h
  have hS : va_S A s.heap s.heap [] := va_S.rf
  have hP : va_P (dC, dI) vwCl (qsc a0 jkI jjz jnm jmf jjz cyI jj2 jkI cyI jk7) s.heap := hP
  have hl := lv_entry ([.ref a0, .int p1, .int p2]) (n := 6) (nbq rfl)
  rw [lg_entry_eq]
  generalize (lg_sl ([.ref a0, .int p1, .int p2]) ++ List.replicate (6 - (lg_sl ([.ref a0, .int p1, .int p2])).length) Slot.unset).toArray = ls at hl ⊢
  have hl : lv_has ls 6 [(0, .ref a0), (1, .int p1), (2, .int p2)] := hl
  have C0 : cfx p s m _ meth c cX7_mostFrom (some .int) wsX7_mostFrom RX7 6 A (dC, dI) (kT cyB cyI cyJ cyP) := ⟨hx, hb, hr, hts, hown, hlocks, hml, hA, hK, hNw⟩
  clear hAe
  obtain ⟨H, hH⟩ : ∃ H, H = s.heap := ⟨_, rfl⟩
  rw [← hH] at hP ⊢
  have hS : va_S A s.heap H [] := by rw [hH]; exact va_S.rf
  have hS := hS
  refine lv_aload_n hx hb (qaa qfM 0 rfl) rfl (lv_at hl 0 rfl) ?_
  refine va_get (D := (dC, dI)) (ci := 7) (v := .ref jjz) (C := RX7) (T := TX7) (N := 4) hx hb hts qajm hown hK hP 0 rfl rfl 1 (by decide) (hts _ qac3) (fun _ h9 => h9) rfl (qaa qfM 1 rfl) ?_
  refine lv_iload_n hx hb (qaa qfM 2 rfl) rfl (lv_at hl 1 rfl) ?_
  obtain ⟨hi9, hw⟩ := hw
  refine va_iald hx hb hK hP 1 1 rfl rfl hi9 (qaa qfM 3 rfl) ?_
  refine lv_topi (fun x1 ex1 => ?_)
  have hw := hw x1 ex1
  refine lv_iload_n hx hb (qaa qfM 4 rfl) rfl (lv_at hl 2 rfl) ?_
  refine lv_iconst (v := (-1)) hx hb (qaa qfM 5 rfl) (by decide) ?_
  refine lv_ixor hx hb (qaa qfM 6 rfl) ?_
  refine lv_iand hx hb (qaa qfM 7 rfl) ?_
  refine lv_topi (fun x2 ex2 => ?_)
  have hw := hw x2 ex2
  refine lv_istore_n (lv' := [(3, .int x2), (0, .ref a0), (1, .int p1), (2, .int p2)]) hx hb (qaa qfM 8 rfl) rfl hl (by decide) rfl (fun ls hl => ?_)
  refine lv_aload_n hx hb (qaa qfM 9 rfl) rfl (lv_at hl 1 rfl) ?_
  refine lv_iload_n hx hb (qaa qfM 10 rfl) rfl (lv_at hl 2 rfl) ?_
  refine lv_iload_n hx hb (qaa qfM 11 rfl) rfl (lv_at hl 3 rfl) ?_
  obtain ⟨hCc, hPc, hDc, hFc⟩ := qac (ws' := (qakv a0 jkI jjz jnm jmf jkI cyI jk7)) hP hD hS hA [0, 2] (by decide +kernel) rfl
  refine va_calli (va_runV (As := [.int p1, .int p2]) (rest := []) ⟨hx, hb, hml, hown, hts⟩ (qL7 l dC dI cyB cyI cyJ cyP a0 jkI H.size (.ref jjz) (jnm) (jmf) jk7 p1 p2 hw) (cwV 2 hts gX7_mostFrom_X7_mostBehind rfl rfl rfl (by decide +kernel) ⟨nbq rfl, nbq rfl⟩) ⟨qab, va_recv (q := (RX7, TX7, 4)) hK hPc (ci := 7) (q0 := 0) rfl rfl, qae hPc hK hDc hNw⟩ rfl rfl hl.1 rfl (lv_room (nbq rfl)) (qaa qfM 12 rfl) ⟨nbq rfl, nbq rfl⟩) hS (fun q _ h => hFc q h) hFc (fun r3 u t H1 locs ht hvm hw hB hz1 hk1 hS => ?_)
  obtain ⟨hP1, hK1, hD1⟩ := hB
  rw [ht] at hP1
  obtain ⟨hP, hD⟩ := qad (wr := (qaQ3 jjz cyI jj2)) (w1 := (qakv a0 jkI jjz jnm jmf jkI cyI jk7)) (wn := (qsc a0 jkI jjz jnm jmf jjz cyI jj2 jkI cyI jk7)) hP hD [0, 2] [1] [1, 0, 2] hCc rfl (by decide +kernel) (by decide +kernel) (by decide +kernel) rfl hk1 hFc hP1 hD1
  generalize H1 = H at hP hS ⊢
  refine lv_istore (lv' := [(4, .int r3), (3, .int x2), (0, .ref a0), (1, .int p1), (2, .int p2)]) hx hb (qaa qfM 13 rfl) hl (by decide) rfl (fun ls hl => ?_)
  refine lv_iconst (v := 0) hx hb (qaa qfM 14 rfl) (by decide) ?_
  refine lv_istore (lv' := [(5, .int 0), (4, .int r3), (3, .int x2), (0, .ref a0), (1, .int p1), (2, .int p2)]) hx hb (qaa qfM 15 rfl) hl (by decide) rfl (fun ls hl => ?_)
  obtain ⟨n9, hw⟩ := hw
  exact qak0 dC dI cyB cyI cyJ cyP a0 jjz jkI jnm jmf jj2 jk7 Q C0 n9 _ _ _ p1 p2 x2 r3 0 hP hD hS (lv_sub hl [3, 4, 5, 2, 1, 0] rfl) hw
theorem qRP : ∀ w ∈ u_ws RX7 TX7 4, w ∈ wsX7_firstBest := uiM qvf euX7 (by decide +kernel)
theorem qaaf : (.fieldLink RX7 15 "MarchHares$Seating" "allowed" "[I" : Cond) ∈ wsX7_firstBest := qvf 385 (by decide +kernel)
theorem qafJ : (.fieldLink RX7 9 "MarchHares$Seating" "most" "[I" : Cond) ∈ wsX7_firstBest := qvf 384 (by decide +kernel)
theorem qWz : (.initialized RX10 : Cond) ∈ wsX7_firstBest := qvf 2 (by decide +kernel)
theorem qP4 : (.static yX10_holds : Cond) ∈ wsX7_firstBest := qvf 2052 (by decide +kernel)
set_option maxHeartbeats 4000000 in
set_option maxRecDepth 100000 in
theorem qSO {p : Program} {l : Launch} {e : Env} {s : State} {m : MethodId} {args : Array Value} {below : List Frame} {meth : Method} {c : Code} {A : Nat → Prop} (dC : Nat → ClassId) (dI : Nat → Nat → Nat) (cyB cyI cyJ cyP : ClassId) (a0 jjz jkI : Nat) (jnm jmf : Value) (jj2 jk7 : NI) (Q : Int32 → Prop) (K27 : Int32 → Int32 → Int32 → Int32 → Int32 → Prop) (hK27 : ∀ (H : Heap) (locs : List Loc) (ls : Array Slot) (l1 l2 l3 l4 l5 : Int32), va_P (dC, dI) vwCl (qsc a0 jkI jjz jnm jmf jjz cyI jj2 jkI cyI jk7) H → va_D A (qsc a0 jkI jjz jnm jmf jjz cyI jj2 jkI cyI jk7) → va_S A s.heap H locs → lv_has ls 6 [(0, .ref a0), (1, .int l1), (2, .int l2), (3, .int l3), (4, .int l4), (5, .int l5)] → K27 l1 l2 l3 l4 l5 → W p l e (headSpec wsX7_firstBest ({ frames := 1, cells := 0, slots := 0, locals := 22 })).room s m args below meth c H locs 0 0 (MQ below (va_Qi (fun (r : Int32) (_ : Unit) => Q r ) (cB (dC, dI) (kT cyB cyI cyJ cyP) A (fun u : Unit => ((qsc a0 jkI jjz jnm jmf jjz cyI jj2 jkI cyI jk7) : va_W))) A) args s 0 0 A) (F0 m 27 ls [])) (C0 : cfx p s m args meth c cX7_firstBest (some .int) wsX7_firstBest RX7 6 A (dC, dI) (kT cyB cyI cyJ cyP)) : ∀ (H : Heap) (locs : List Loc) (ls : Array Slot) (l1 l2 l3 l4 l5 : Int32), va_P (dC, dI) vwCl (qsc a0 jkI jjz jnm jmf jjz cyI jj2 jkI cyI jk7) H → va_D A (qsc a0 jkI jjz jnm jmf jjz cyI jj2 jkI cyI jk7) → va_S A s.heap H locs → lv_has ls 6 [(0, .ref a0), (1, .int l1), (2, .int l2), (3, .int l3), (4, .int l4), (5, .int l5)] → qIu jj2 jk7 Q K27 l1 l2 l3 l4 l5 → W p l e (headSpec wsX7_firstBest ({ frames := 1, cells := 0, slots := 0, locals := 22 })).room s m args below meth c H locs 0 0 (MQ below (va_Qi (fun (r : Int32) (_ : Unit) => Q r ) (cB (dC, dI) (kT cyB cyI cyJ cyP) A (fun u : Unit => ((qsc a0 jkI jjz jnm jmf jjz cyI jj2 jkI cyI jk7) : va_W))) A) args s 0 0 A) (F0 m 64 ls []) := by
  obtain ⟨hx, hb, hr, hts, hown, hlocks, hml, hA, hK, hNw⟩ := id C0
  intro H locs ls l1 l2 l3 l4 l5 hP hD hS hl hw
  obtain ⟨x11, ex11⟩ : ∃ y : Int32, y = l5 + 1 := ⟨_, rfl⟩
  have hw := hw x11 ex11
  refine lv_iinc (v := x11) (lv' := [(5, .int x11), (0, .ref a0), (1, .int l1), (2, .int l2), (3, .int l3), (4, .int l4)]) hx hb (qaa qgo 9 rfl) hl (k := 5) rfl (by rw [ex11]; rfl) (by decide) rfl (fun ls hl => ?_)
  refine lv_goto (tgt := 27) hx hb (qaa qgo 10 rfl) (by decide) ?_
  exact hK27 _ _ _ l1 l2 l3 l4 x11 hP hD hS (lv_sub hl [1, 2, 3, 4, 5, 0] rfl) hw
set_option maxHeartbeats 4000000 in
set_option maxRecDepth 100000 in
theorem qaek {p : Program} {l : Launch} {e : Env} {s : State} {m : MethodId} {args : Array Value} {below : List Frame} {meth : Method} {c : Code} {A : Nat → Prop} (dC : Nat → ClassId) (dI : Nat → Nat → Nat) (cyB cyI cyJ cyP : ClassId) (a0 jjz jkI : Nat) (jnm jmf : Value) (jj2 jk7 : NI) (Q : Int32 → Prop) (C0 : cfx p s m args meth c cX7_firstBest (some .int) wsX7_firstBest RX7 6 A (dC, dI) (kT cyB cyI cyJ cyP)) : ∀ (n : Nat) (H : Heap) (locs : List Loc) (ls : Array Slot) (l1 l2 l3 l4 l5 : Int32), va_P (dC, dI) vwCl (qsc a0 jkI jjz jnm jmf jjz cyI jj2 jkI cyI jk7) H → va_D A (qsc a0 jkI jjz jnm jmf jjz cyI jj2 jkI cyI jk7) → va_S A s.heap H locs → lv_has ls 6 [(0, .ref a0), (1, .int l1), (2, .int l2), (3, .int l3), (4, .int l4), (5, .int l5)] → qsn jj2 jk7 Q n l1 l2 l3 l4 l5 → W p l e (headSpec wsX7_firstBest ({ frames := 1, cells := 0, slots := 0, locals := 22 })).room s m args below meth c H locs 0 0 (MQ below (va_Qi (fun (r : Int32) (_ : Unit) => Q r ) (cB (dC, dI) (kT cyB cyI cyJ cyP) A (fun u : Unit => ((qsc a0 jkI jjz jnm jmf jjz cyI jj2 jkI cyI jk7) : va_W))) A) args s 0 0 A) (F0 m 27 ls []) := by
  obtain ⟨hx, hb, hr, hts, hown, hlocks, hml, hA, hK, hNw⟩ := id C0
  intro n
  induction n with
  | zero => intro H locs ls l1 l2 l3 l4 l5 hP hD hS hl hw; exact False.elim hw
  | succ n ih =>
    intro H locs ls l1 l2 l3 l4 l5 hP hD hS hl hw
    refine lv_iload hx hb (qaa qdx 4 rfl) (lv_at hl 5 rfl) ?_
    refine lv_bipush (v := 8) hx hb (qaa qdx 5 rfl) (by decide) ?_
    refine lv_icmp_ge (tgt := 70) hx hb (qaa qdx 6 rfl) (by decide) (fun c6 => ?_) (fun c6 => ?_)
    · have hw := hw.1 c6
      refine lv_iconst (v := (-1)) hx hb (qaa qgo 11 rfl) (by decide) ?_
      exact ((W.iret (v := (-1)) hx hb hr (fun t ht hW => ⟨⟨(-1), (), rfl, hw, by rw [ht]; exact hP, va_K.moved hW.alike hK, hD⟩, hS.F ht⟩) hS.2.2 (qaa qgo 12 rfl)))
    · have hw := hw.2 c6
      refine lv_iload_n hx hb (qaa qdx 7 rfl) rfl (lv_at hl 3 rfl) ?_
      refine lv_iload hx hb (qaa qdx 8 rfl) (lv_at hl 5 rfl) ?_
      obtain ⟨hCc, hPc, hDc, hFc⟩ := qac (ws' := []) hP hD hS hA [] (by decide +kernel) rfl
      refine va_calli (va_runSN (As := [.int l3, .int l5]) (rest := []) ⟨hx, hb, hml, hown, hts⟩ (qnv l dC dI cyB cyI cyJ cyP H.size l3 l5 hw) ⟨(va_cnB 2 hts gX7_firstBest_X10_holds_n68 rfl rfl rfl (qbju hNw) (hts _ qWz) (by decide +kernel) ⟨nbq rfl, nbq rfl⟩), (hts _ qP4), trivial⟩ ⟨qab, qae hPc hK hDc hNw⟩ rfl rfl hl.1 rfl (lv_room (nbq rfl)) (qaa qdx 9 rfl) ⟨nbq rfl, nbq rfl⟩) hS (fun q _ h => hFc q h) hFc (fun r7 u t H1 locs ht hvm hw hB hz1 hk1 hS => ?_)
      obtain ⟨hP1, hK1, hD1⟩ := hB
      rw [ht] at hP1
      obtain ⟨hP, hD⟩ := qah (wr := (qsc a0 jkI jjz jnm jmf jjz cyI jj2 jkI cyI jk7)) (w1 := []) (wn := (qsc a0 jkI jjz jnm jmf jjz cyI jj2 jkI cyI jk7)) hP hD [] [0, 1, 2] hCc rfl (by decide +kernel) (by decide +kernel) rfl hk1 hFc hP1 hD1
      generalize H1 = H at hP hS ⊢
      refine lv_if_eq (tgt := 64) hx hb (qaa qdx 10 rfl) (by decide) (fun c8 => ?_) (fun c8 => ?_)
      · have hw := hw.1 c8
        exact qSO dC dI cyB cyI cyJ cyP a0 jjz jkI jnm jmf jj2 jk7 Q (qsn jj2 jk7 Q n) ih C0 _ _ _ l1 l2 l3 l4 l5 hP hD hS (lv_sub hl [0, 1, 2, 3, 4, 5] rfl) hw
      · have hw := hw.2 c8
        refine lv_iconst (v := 1) hx hb (qaa qdx 11 rfl) (by decide) ?_
        refine lv_aload_n hx hb (qaa qdx 12 rfl) rfl (lv_at hl 0 rfl) ?_
        refine lv_iload_n hx hb (qaa qdx 13 rfl) rfl (lv_at hl 1 rfl) ?_
        refine lv_iload_n hx hb (qaa qdx 14 rfl) rfl (lv_at hl 2 rfl) ?_
        refine lv_iconst (v := 1) hx hb (qaa qdx 15 rfl) (by decide) ?_
        refine lv_iload hx hb (qaa qgo 0 rfl) (lv_at hl 5 rfl) ?_
        refine lv_ishl hx hb (qaa qgo 1 rfl) ?_
        refine lv_ior hx hb (qaa qgo 2 rfl) ?_
        obtain ⟨hCc, hPc, hDc, hFc⟩ := qac (ws' := (qakv a0 jkI jjz jnm jmf jkI cyI jk7)) hP hD hS hA [0, 2] (by decide +kernel) rfl
        refine va_calli (va_runV (As := [.int l1, .int (l2 ||| (1 <<< (l5 &&& 31)))]) (rest := [.int 1]) ⟨hx, hb, hml, hown, hts⟩ (qL7 l dC dI cyB cyI cyJ cyP a0 jkI H.size (.ref jjz) (jnm) (jmf) jk7 l1 (l2 ||| (1 <<< (l5 &&& 31))) hw) (cwV 2 hts gX7_firstBest_X7_mostBehind rfl rfl rfl (by decide +kernel) ⟨nbq rfl, nbq rfl⟩) ⟨qab, va_recv (q := (RX7, TX7, 4)) hK hPc (ci := 7) (q0 := 0) rfl rfl, qae hPc hK hDc hNw⟩ rfl rfl hl.1 rfl (lv_room (nbq rfl)) (qaa qgo 3 rfl) ⟨nbq rfl, nbq rfl⟩) hS (fun q _ h => hFc q h) hFc (fun r9 u t H1 locs ht hvm hw hB hz1 hk1 hS => ?_)
        obtain ⟨hP1, hK1, hD1⟩ := hB
        rw [ht] at hP1
        obtain ⟨hP, hD⟩ := qad (wr := (qaQ3 jjz cyI jj2)) (w1 := (qakv a0 jkI jjz jnm jmf jkI cyI jk7)) (wn := (qsc a0 jkI jjz jnm jmf jjz cyI jj2 jkI cyI jk7)) hP hD [0, 2] [1] [1, 0, 2] hCc rfl (by decide +kernel) (by decide +kernel) (by decide +kernel) rfl hk1 hFc hP1 hD1
        generalize H1 = H at hP hS ⊢
        refine lv_iadd hx hb (qaa qgo 4 rfl) ?_
        refine lv_iload hx hb (qaa qgo 5 rfl) (lv_at hl 4 rfl) ?_
        refine lv_icmp_ne (tgt := 64) hx hb (qaa qgo 6 rfl) (by decide) (fun c10 => ?_) (fun c10 => ?_)
        · have hw := hw.1 c10
          exact qSO dC dI cyB cyI cyJ cyP a0 jjz jkI jnm jmf jj2 jk7 Q (qsn jj2 jk7 Q n) ih C0 _ _ _ l1 l2 l3 l4 l5 hP hD hS (lv_sub hl [0, 1, 2, 3, 4, 5] rfl) hw
        · have hw := hw.2 c10
          refine lv_iload hx hb (qaa qgo 7 rfl) (lv_at hl 5 rfl) ?_
          exact ((W.iret (v := l5) hx hb hr (fun t ht hW => ⟨⟨l5, (), rfl, hw, by rw [ht]; exact hP, va_K.moved hW.alike hK, hD⟩, hS.F ht⟩) hS.2.2 (qaa qgo 8 rfl)))
set_option maxHeartbeats 4000000 in
set_option maxRecDepth 100000 in
theorem qazd (l : Launch) (dC : Nat → ClassId) (dI : Nat → Nat → Nat) (cyB cyI cyJ cyP : ClassId) (a0 jjz jkI sz : Nat) (jnm jmf : Value) (jj2 jk7 : NI) (p1 p2 : Int32) {Q : Int32 → Prop} (hw : qPA jj2 jk7 p1 p2 Q) : Met l yX7_firstBest wsX7_firstBest ({ frames := 1, cells := 0, slots := 0, locals := 22 }) (va_Pc [.ref a0, .int p1, .int p2] (cPc (dC, dI) (kT cyB cyI cyJ cyP) (qsc a0 jkI jjz jnm jmf jjz cyI jj2 jkI cyI jk7) sz)) (va_Qi (fun (r : Int32) (_ : Unit) => Q r ) (cB (dC, dI) (kT cyB cyI cyJ cyP) (va_A (qsc a0 jkI jjz jnm jmf jjz cyI jj2 jkI cyI jk7) sz) (fun u : Unit => ((qsc a0 jkI jjz jnm jmf jjz cyI jj2 jkI cyI jk7) : va_W))) (va_A (qsc a0 jkI jjz jnm jmf jjz cyI jj2 jkI cyI jk7) sz)) 0 0 (va_A (qsc a0 jkI jjz jnm jmf jjz cyI jj2 jkI cyI jk7) sz) := by
  refine Met.ofW (cc := cX7_firstBest) (maxL := 6) (ret := (some .int)) (by decide) rfl ?_
  intro p e s m args below meth c s₁ B hml hv
  obtain ⟨rfl, hsz, hP, hK, hD0, hNw⟩ := hv
  have hx := B.exec
  have hb := B.bytes
  have hr := B.returns
  have hts := atoms_spec (ws := wsX7_firstBest) B.pre
  have hown : s.vm.findClass RX7 = some m.cls := findClass_of_methodNamed B.named
  have hlocks := B.notSynchronized
  subst hsz
  have hD := hD0.self (sz := s.heap.size)
  generalize hAe : va_A (qsc a0 jkI jjz jnm jmf jjz cyI jj2 jkI cyI jk7) s.heap.size = A at hD ⊢
  have hA : ∀ q : Nat, s.heap.size ≤ q → A q := fun q h => by rw [← hAe]; exact Or.inr h
  have hS : va_S A s.heap s.heap [] := va_S.rf
  have hP : va_P (dC, dI) vwCl (qsc a0 jkI jjz jnm jmf jjz cyI jj2 jkI cyI jk7) s.heap := hP
  have hl := lv_entry ([.ref a0, .int p1, .int p2]) (n := 6) (nbq rfl)
  rw [lg_entry_eq]
  generalize (lg_sl ([.ref a0, .int p1, .int p2]) ++ List.replicate (6 - (lg_sl ([.ref a0, .int p1, .int p2])).length) Slot.unset).toArray = ls at hl ⊢
  have hl : lv_has ls 6 [(0, .ref a0), (1, .int p1), (2, .int p2)] := hl
  have C0 : cfx p s m _ meth c cX7_firstBest (some .int) wsX7_firstBest RX7 6 A (dC, dI) (kT cyB cyI cyJ cyP) := ⟨hx, hb, hr, hts, hown, hlocks, hml, hA, hK, hNw⟩
  clear hAe
  obtain ⟨H, hH⟩ : ∃ H, H = s.heap := ⟨_, rfl⟩
  rw [← hH] at hP ⊢
  have hS : va_S A s.heap H [] := by rw [hH]; exact va_S.rf
  have hS := hS
  refine lv_aload_n hx hb (qaa qew 0 rfl) rfl (lv_at hl 0 rfl) ?_
  refine va_get (D := (dC, dI)) (ci := 7) (v := .ref jjz) (C := RX7) (T := TX7) (N := 4) hx hb hts qRP hown hK hP 0 rfl rfl 1 (by decide) (hts _ qaaf) (fun _ h9 => h9) rfl (qaa qew 1 rfl) ?_
  refine lv_iload_n hx hb (qaa qew 2 rfl) rfl (lv_at hl 1 rfl) ?_
  obtain ⟨hi9, hw⟩ := hw
  refine va_iald hx hb hK hP 1 1 rfl rfl hi9 (qaa qew 3 rfl) ?_
  refine lv_topi (fun x1 ex1 => ?_)
  have hw := hw x1 ex1
  refine lv_iload_n hx hb (qaa qew 4 rfl) rfl (lv_at hl 2 rfl) ?_
  refine lv_iconst (v := (-1)) hx hb (qaa qew 5 rfl) (by decide) ?_
  refine lv_ixor hx hb (qaa qew 6 rfl) ?_
  refine lv_iand hx hb (qaa qew 7 rfl) ?_
  refine lv_topi (fun x2 ex2 => ?_)
  have hw := hw x2 ex2
  refine lv_istore_n (lv' := [(3, .int x2), (0, .ref a0), (1, .int p1), (2, .int p2)]) hx hb (qaa qew 8 rfl) rfl hl (by decide) rfl (fun ls hl => ?_)
  refine lv_aload_n hx hb (qaa qew 9 rfl) rfl (lv_at hl 1 rfl) ?_
  refine va_get (D := (dC, dI)) (ci := 7) (v := .ref jkI) (C := RX7) (T := TX7) (N := 4) hx hb hts qRP hown hK hP 0 rfl rfl 0 (by decide) (hts _ qafJ) (fun _ h9 => h9) rfl (qaa qew 10 rfl) ?_
  refine lv_iload_n hx hb (qaa qew 11 rfl) rfl (lv_at hl 2 rfl) ?_
  refine lv_bipush (v := 8) hx hb (qaa qew 12 rfl) (by decide) ?_
  refine lv_ishl hx hb (qaa qew 13 rfl) ?_
  refine lv_topi (fun x3 ex3 => ?_)
  have hw := hw x3 ex3
  refine lv_iload_n hx hb (qaa qew 14 rfl) rfl (lv_at hl 3 rfl) ?_
  refine lv_iadd hx hb (qaa qew 15 rfl) ?_
  refine lv_topi (fun x4 ex4 => ?_)
  have hw := hw x4 ex4
  obtain ⟨hi9, hw⟩ := hw
  refine va_iald hx hb hK hP 2 1 rfl rfl hi9 (qaa qdx 0 rfl) ?_
  refine lv_topi (fun x5 ex5 => ?_)
  have hw := hw x5 ex5
  refine lv_istore (lv' := [(4, .int x5), (3, .int x2), (0, .ref a0), (1, .int p1), (2, .int p2)]) hx hb (qaa qdx 1 rfl) hl (by decide) rfl (fun ls hl => ?_)
  refine lv_iconst (v := 0) hx hb (qaa qdx 2 rfl) (by decide) ?_
  refine lv_istore (lv' := [(5, .int 0), (4, .int x5), (3, .int x2), (0, .ref a0), (1, .int p1), (2, .int p2)]) hx hb (qaa qdx 3 rfl) hl (by decide) rfl (fun ls hl => ?_)
  obtain ⟨n9, hw⟩ := hw
  exact qaek dC dI cyB cyI cyJ cyP a0 jjz jkI jnm jmf jj2 jk7 Q C0 n9 _ _ _ p1 p2 x2 x5 0 hP hD hS (lv_sub hl [3, 4, 5, 2, 1, 0] rfl) hw
theorem qYm : ∀ w ∈ u_ws RX7 TX7 4, w ∈ wsX7_give := uiM qahZ euX7 (by decide +kernel)
theorem qUy : (.fieldLink RX7 18 "MarchHares$Seating" "given" "[I" : Cond) ∈ wsX7_give := qahZ 386 (by decide +kernel)
set_option maxHeartbeats 4000000 in
set_option maxRecDepth 100000 in
theorem qagf {p : Program} {l : Launch} {e : Env} {s : State} {m : MethodId} {args : Array Value} {below : List Frame} {meth : Method} {c : Code} {A : Nat → Prop} (dC : Nat → ClassId) (dI : Nat → Nat → Nat) (cyB cyI cyJ cyP : ClassId) (a0 jmd jjz jkI : Nat) (jmf : Value) (jj2 jk7 : NI) (Q : NI → Prop) (K4 : NI → Int32 → Int32 → Int32 → Prop) (hK4 : ∀ (H : Heap) (locs : List Loc) (ls : Array Slot) (jmq : NI) (l1 l2 l3 : Int32), va_P (dC, dI) vwCl (qzu a0 jkI jjz jmd jmf jjz cyI jj2 jkI cyI jk7 jmd cyI jmq) H → va_D A (qzu a0 jkI jjz jmd jmf jjz cyI jj2 jkI cyI jk7 jmd cyI jmq) → va_S A s.heap H locs → lv_has ls 4 [(0, .ref a0), (1, .int l1), (2, .int l2), (3, .int l3)] → K4 jmq l1 l2 l3 → W p l e (headSpec wsX7_give ({ frames := 2, cells := 0, slots := 0, locals := 47 })).room s m args below meth c H locs 0 0 (MQ below (va_Qv (fun (u : NI) => Q u) (cB (dC, dI) (kT cyB cyI cyJ cyP) A (fun u : NI => ((qzu a0 jkI jjz jmd jmf jjz cyI jj2 jkI cyI jk7 jmd cyI u) : va_W))) A) args s 0 0 A) (F0 m 4 ls [])) (C0 : cfx p s m args meth c cX7_give none wsX7_give RX7 4 A (dC, dI) (kT cyB cyI cyJ cyP)) : ∀ (H : Heap) (locs : List Loc) (ls : Array Slot) (jmq : NI) (l1 l2 l3 : Int32), va_P (dC, dI) vwCl (qzu a0 jkI jjz jmd jmf jjz cyI jj2 jkI cyI jk7 jmd cyI jmq) H → va_D A (qzu a0 jkI jjz jmd jmf jjz cyI jj2 jkI cyI jk7 jmd cyI jmq) → va_S A s.heap H locs → lv_has ls 4 [(0, .ref a0), (1, .int l1), (2, .int l2), (3, .int l3)] → qWu jj2 jk7 Q K4 jmq l1 l2 l3 → W p l e (headSpec wsX7_give ({ frames := 2, cells := 0, slots := 0, locals := 47 })).room s m args below meth c H locs 0 0 (MQ below (va_Qv (fun (u : NI) => Q u) (cB (dC, dI) (kT cyB cyI cyJ cyP) A (fun u : NI => ((qzu a0 jkI jjz jmd jmf jjz cyI jj2 jkI cyI jk7 jmd cyI u) : va_W))) A) args s 0 0 A) (F0 m 42 ls []) := by
  obtain ⟨hx, hb, hr, hts, hown, hlocks, hml, hA, hK, hNw⟩ := id C0
  intro H locs ls jmq l1 l2 l3 hP hD hS hl hw
  obtain ⟨x8, ex8⟩ : ∃ y : Int32, y = l3 + 1 := ⟨_, rfl⟩
  have hw := hw x8 ex8
  refine lv_iinc (v := x8) (lv' := [(3, .int x8), (0, .ref a0), (1, .int l1), (2, .int l2)]) hx hb (qaa qmu 14 rfl) hl (k := 3) rfl (by rw [ex8]; rfl) (by decide) rfl (fun ls hl => ?_)
  refine lv_goto (tgt := 4) hx hb (qaa qmu 15 rfl) (by decide) ?_
  exact hK4 _ _ _ jmq l1 l2 x8 hP hD hS (lv_sub hl [1, 2, 3, 0] rfl) hw
set_option maxHeartbeats 4000000 in
set_option maxRecDepth 100000 in
theorem qaT9 {p : Program} {l : Launch} {e : Env} {s : State} {m : MethodId} {args : Array Value} {below : List Frame} {meth : Method} {c : Code} {A : Nat → Prop} (dC : Nat → ClassId) (dI : Nat → Nat → Nat) (cyB cyI cyJ cyP : ClassId) (a0 jmd jjz jkI : Nat) (jmf : Value) (jj2 jk7 : NI) (Q : NI → Prop) (C0 : cfx p s m args meth c cX7_give none wsX7_give RX7 4 A (dC, dI) (kT cyB cyI cyJ cyP)) : ∀ (n : Nat) (H : Heap) (locs : List Loc) (ls : Array Slot) (jmq : NI) (l1 l2 l3 : Int32), va_P (dC, dI) vwCl (qzu a0 jkI jjz jmd jmf jjz cyI jj2 jkI cyI jk7 jmd cyI jmq) H → va_D A (qzu a0 jkI jjz jmd jmf jjz cyI jj2 jkI cyI jk7 jmd cyI jmq) → va_S A s.heap H locs → lv_has ls 4 [(0, .ref a0), (1, .int l1), (2, .int l2), (3, .int l3)] → qB0 jj2 jk7 Q n jmq l1 l2 l3 → W p l e (headSpec wsX7_give ({ frames := 2, cells := 0, slots := 0, locals := 47 })).room s m args below meth c H locs 0 0 (MQ below (va_Qv (fun (u : NI) => Q u) (cB (dC, dI) (kT cyB cyI cyJ cyP) A (fun u : NI => ((qzu a0 jkI jjz jmd jmf jjz cyI jj2 jkI cyI jk7 jmd cyI u) : va_W))) A) args s 0 0 A) (F0 m 4 ls []) := by
  obtain ⟨hx, hb, hr, hts, hown, hlocks, hml, hA, hK, hNw⟩ := id C0
  intro n
  induction n with
  | zero => intro H locs ls jmq l1 l2 l3 hP hD hS hl hw; exact False.elim hw
  | succ n ih =>
    intro H locs ls jmq l1 l2 l3 hP hD hS hl hw
    refine lv_iload_n hx hb (qaa qol 4 rfl) rfl (lv_at hl 3 rfl) ?_
    refine lv_iload_n hx hb (qaa qol 5 rfl) rfl (lv_at hl 1 rfl) ?_
    refine lv_icmp_ge (tgt := 48) hx hb (qaa qol 6 rfl) (by decide) (fun c1 => ?_) (fun c1 => ?_)
    · have hw := hw.1 c1
      exact ((W.vret hx hb hr (fun t ht hW => ⟨⟨(jmq), rfl, hw, by rw [ht]; exact hP, va_K.moved hW.alike hK, hD⟩, hS.F ht⟩) hS.2.2 (qaa qaRa 0 rfl)))
    · have hw := hw.2 c1
      refine lv_aload_n hx hb (qaa qol 7 rfl) rfl (lv_at hl 0 rfl) ?_
      refine va_get (D := (dC, dI)) (ci := 7) (v := .ref jmd) (C := RX7) (T := TX7) (N := 4) hx hb hts qYm hown hK hP 0 rfl rfl 2 (by decide) (hts _ qUy) (fun _ h9 => h9) rfl (qaa qol 8 rfl) ?_
      refine lv_iload_n hx hb (qaa qol 9 rfl) rfl (lv_at hl 3 rfl) ?_
      refine lv_aload_n hx hb (qaa qol 10 rfl) rfl (lv_at hl 0 rfl) ?_
      refine lv_iload_n hx hb (qaa qol 11 rfl) rfl (lv_at hl 3 rfl) ?_
      refine lv_iload_n hx hb (qaa qol 12 rfl) rfl (lv_at hl 2 rfl) ?_
      obtain ⟨hCc, hPc, hDc, hFc⟩ := qac (ws' := (qa5s a0 jkI jjz jmd jmf jjz cyI jj2 jkI cyI jk7)) hP hD hS hA [0, 1, 2] (by decide +kernel) rfl
      refine va_calli (va_runV (As := [.int l3, .int l2]) (rest := [.int l3, .ref jmd]) ⟨hx, hb, hml, hown, hts⟩ (qazd l dC dI cyB cyI cyJ cyP a0 jjz jkI H.size (.ref jmd) (jmf) jj2 jk7 l3 l2 hw) (cwV 2 hts gX7_give_X7_firstBest rfl rfl rfl (by decide +kernel) ⟨nbq rfl, nbq rfl⟩) ⟨qab, va_recv (q := (RX7, TX7, 4)) hK hPc (ci := 7) (q0 := 0) rfl rfl, qae hPc hK hDc hNw⟩ rfl rfl hl.1 rfl (lv_room (nbq rfl)) (qaa qol 13 rfl) ⟨nbq rfl, nbq rfl⟩) hS (fun q _ h => hFc q h) hFc (fun r2 u t H1 locs ht hvm hw hB hz1 hk1 hS => ?_)
      obtain ⟨hP1, hK1, hD1⟩ := hB
      rw [ht] at hP1
      obtain ⟨hP, hD⟩ := qad (wr := (qaQ3 jmd cyI jmq)) (w1 := (qa5s a0 jkI jjz jmd jmf jjz cyI jj2 jkI cyI jk7)) (wn := (qzu a0 jkI jjz jmd jmf jjz cyI jj2 jkI cyI jk7 jmd cyI jmq)) hP hD [0, 1, 2] [3] [1, 2, 3, 0] hCc rfl (by decide +kernel) (by decide +kernel) (by decide +kernel) rfl hk1 hFc hP1 hD1
      generalize H1 = H at hP hS ⊢
      obtain ⟨hi9, hw⟩ := hw
      refine va_iast hx hb hK hP hD hS 3 1 rfl rfl hi9 (qaa qol 14 rfl) (fun H locs hP hD hS => ?_)
      obtain ⟨f3, ef3⟩ : ∃ y : NI, y = upd jmq l3.toNatClampNeg r2 := ⟨_, rfl⟩
      have hw := hw f3 ef3
      have hP : va_P (dC, dI) vwCl (qzu a0 jkI jjz jmd jmf jjz cyI jj2 jkI cyI jk7 jmd cyI f3) H := by rw [ef3]; exact hP
      have hD : va_D A (qzu a0 jkI jjz jmd jmf jjz cyI jj2 jkI cyI jk7 jmd cyI f3) := by rw [ef3]; exact hD
      refine lv_aload_n hx hb (qaa qol 15 rfl) rfl (lv_at hl 0 rfl) ?_
      refine va_get (D := (dC, dI)) (ci := 7) (v := .ref jmd) (C := RX7) (T := TX7) (N := 4) hx hb hts qYm hown hK hP 0 rfl rfl 2 (by decide) (hts _ qUy) (fun _ h9 => h9) rfl (qaa qmu 0 rfl) ?_
      refine lv_iload_n hx hb (qaa qmu 1 rfl) rfl (lv_at hl 3 rfl) ?_
      obtain ⟨hi9, hw⟩ := hw
      refine va_iald hx hb hK hP 3 1 rfl rfl hi9 (qaa qmu 2 rfl) ?_
      refine lv_topi (fun x4 ex4 => ?_)
      have hw := hw x4 ex4
      refine lv_iconst (v := (-1)) hx hb (qaa qmu 3 rfl) (by decide) ?_
      refine lv_icmp_eq (tgt := 42) hx hb (qaa qmu 4 rfl) (by decide) (fun c5 => ?_) (fun c5 => ?_)
      · have hw := hw.1 c5
        exact qagf dC dI cyB cyI cyJ cyP a0 jmd jjz jkI jmf jj2 jk7 Q (qB0 jj2 jk7 Q n) ih C0 _ _ _ f3 l1 l2 l3 hP hD hS (lv_sub hl [0, 1, 2, 3] rfl) hw
      · have hw := hw.2 c5
        refine lv_iload_n hx hb (qaa qmu 5 rfl) rfl (lv_at hl 2 rfl) ?_
        refine lv_iconst (v := 1) hx hb (qaa qmu 6 rfl) (by decide) ?_
        refine lv_aload_n hx hb (qaa qmu 7 rfl) rfl (lv_at hl 0 rfl) ?_
        refine va_get (D := (dC, dI)) (ci := 7) (v := .ref jmd) (C := RX7) (T := TX7) (N := 4) hx hb hts qYm hown hK hP 0 rfl rfl 2 (by decide) (hts _ qUy) (fun _ h9 => h9) rfl (qaa qmu 8 rfl) ?_
        refine lv_iload_n hx hb (qaa qmu 9 rfl) rfl (lv_at hl 3 rfl) ?_
        obtain ⟨hi9, hw⟩ := hw
        refine va_iald hx hb hK hP 3 1 rfl rfl hi9 (qaa qmu 10 rfl) ?_
        refine lv_topi (fun x6 ex6 => ?_)
        have hw := hw x6 ex6
        refine lv_ishl hx hb (qaa qmu 11 rfl) ?_
        refine lv_ior hx hb (qaa qmu 12 rfl) ?_
        refine lv_topi (fun x7 ex7 => ?_)
        have hw := hw x7 ex7
        refine lv_istore_n (lv' := [(2, .int x7), (0, .ref a0), (1, .int l1), (3, .int l3)]) hx hb (qaa qmu 13 rfl) rfl hl (by decide) rfl (fun ls hl => ?_)
        exact qagf dC dI cyB cyI cyJ cyP a0 jmd jjz jkI jmf jj2 jk7 Q (qB0 jj2 jk7 Q n) ih C0 _ _ _ f3 l1 x7 l3 hP hD hS (lv_sub hl [1, 2, 0, 3] rfl) hw
set_option maxHeartbeats 4000000 in
set_option maxRecDepth 100000 in
theorem qa14 (l : Launch) (dC : Nat → ClassId) (dI : Nat → Nat → Nat) (cyB cyI cyJ cyP : ClassId) (a0 jmd jjz jkI sz : Nat) (jmf : Value) (jj2 jk7 jmq : NI) (p1 : Int32) {Q : NI → Prop} (hw : qail jj2 jk7 jmq p1 Q) : Met l yX7_give wsX7_give ({ frames := 2, cells := 0, slots := 0, locals := 47 }) (va_Pc [.ref a0, .int p1] (cPc (dC, dI) (kT cyB cyI cyJ cyP) (qzu a0 jkI jjz jmd jmf jjz cyI jj2 jkI cyI jk7 jmd cyI jmq) sz)) (va_Qv (fun (u : NI) => Q u) (cB (dC, dI) (kT cyB cyI cyJ cyP) (va_A (qzu a0 jkI jjz jmd jmf jjz cyI jj2 jkI cyI jk7 jmd cyI jmq) sz) (fun u : NI => ((qzu a0 jkI jjz jmd jmf jjz cyI jj2 jkI cyI jk7 jmd cyI u) : va_W))) (va_A (qzu a0 jkI jjz jmd jmf jjz cyI jj2 jkI cyI jk7 jmd cyI jmq) sz)) 0 0 (va_A (qzu a0 jkI jjz jmd jmf jjz cyI jj2 jkI cyI jk7 jmd cyI jmq) sz) := by
  refine Met.ofW (cc := cX7_give) (maxL := 4) (ret := none) (by decide) rfl ?_
  intro p e s m args below meth c s₁ B hml hv
  obtain ⟨rfl, hsz, hP, hK, hD0, hNw⟩ := hv
  have hx := B.exec
  have hb := B.bytes
  have hr := B.returns
  have hts := atoms_spec (ws := wsX7_give) B.pre
  have hown : s.vm.findClass RX7 = some m.cls := findClass_of_methodNamed B.named
  have hlocks := B.notSynchronized
  subst hsz
  have hD := hD0.self (sz := s.heap.size)
  generalize hAe : va_A (qzu a0 jkI jjz jmd jmf jjz cyI jj2 jkI cyI jk7 jmd cyI jmq) s.heap.size = A at hD ⊢
  have hA : ∀ q : Nat, s.heap.size ≤ q → A q := fun q h => by rw [← hAe]; exact Or.inr h
  have hS : va_S A s.heap s.heap [] := va_S.rf
  have hP : va_P (dC, dI) vwCl (qzu a0 jkI jjz jmd jmf jjz cyI jj2 jkI cyI jk7 jmd cyI jmq) s.heap := hP
  have hl := lv_entry ([.ref a0, .int p1]) (n := 4) (nbq rfl)
  rw [lg_entry_eq]
  generalize (lg_sl ([.ref a0, .int p1]) ++ List.replicate (4 - (lg_sl ([.ref a0, .int p1])).length) Slot.unset).toArray = ls at hl ⊢
  have hl : lv_has ls 4 [(0, .ref a0), (1, .int p1)] := hl
  have C0 : cfx p s m _ meth c cX7_give none wsX7_give RX7 4 A (dC, dI) (kT cyB cyI cyJ cyP) := ⟨hx, hb, hr, hts, hown, hlocks, hml, hA, hK, hNw⟩
  clear hAe
  obtain ⟨H, hH⟩ : ∃ H, H = s.heap := ⟨_, rfl⟩
  rw [← hH] at hP ⊢
  have hS : va_S A s.heap H [] := by rw [hH]; exact va_S.rf
  have hS := hS
  refine lv_iconst (v := 0) hx hb (qaa qol 0 rfl) (by decide) ?_
  refine lv_istore_n (lv' := [(2, .int 0), (0, .ref a0), (1, .int p1)]) hx hb (qaa qol 1 rfl) rfl hl (by decide) rfl (fun ls hl => ?_)
  refine lv_iconst (v := 0) hx hb (qaa qol 2 rfl) (by decide) ?_
  refine lv_istore_n (lv' := [(3, .int 0), (2, .int 0), (0, .ref a0), (1, .int p1)]) hx hb (qaa qol 3 rfl) rfl hl (by decide) rfl (fun ls hl => ?_)
  obtain ⟨n9, hw⟩ := hw
  exact qaT9 dC dI cyB cyI cyJ cyP a0 jmd jjz jkI jmf jj2 jk7 Q C0 n9 _ _ _ jmq p1 0 0 hP hD hS (lv_sub hl [2, 3, 1, 0] rfl) hw
theorem q3N : ∀ w ∈ u_ws RX1 TX1 4, w ∈ wsX7_settle := uiM qq8 qWg (by decide +kernel)
theorem q4q : ∀ w ∈ u_ws RX2 TX2 12, w ∈ wsX7_settle := uiM qq8 qLp (by decide +kernel)
theorem qBS : ∀ w ∈ u_ws RX7 TX7 4, w ∈ wsX7_settle := uiM qq8 euX7 (by decide +kernel)
theorem qat0 : (.fieldLink RX7 15 "MarchHares$Seating" "allowed" "[I" : Cond) ∈ wsX7_settle := qq8 385 (by decide +kernel)
theorem qYN : (.fieldLink RX7 21 "MarchHares$Days" "down" "LMarchHares$Down;" : Cond) ∈ wsX7_settle := qq8 3079 (by decide +kernel)
theorem qaue : (.fieldLink RX7 27 "MarchHares$Down" "hares" "I" : Cond) ∈ wsX7_settle := qq8 3080 (by decide +kernel)
theorem qari : (.fieldLink RX7 33 "MarchHares$Down" "forms" "I" : Cond) ∈ wsX7_settle := qq8 3081 (by decide +kernel)
theorem qaqE : (.fieldLink RX7 44 "MarchHares$Seating" "seated" "I" : Cond) ∈ wsX7_settle := qq8 3082 (by decide +kernel)
theorem qPz : (.fieldLink RX7 9 "MarchHares$Seating" "most" "[I" : Cond) ∈ wsX7_settle := qq8 384 (by decide +kernel)
set_option maxHeartbeats 4000000 in
set_option maxRecDepth 100000 in
theorem qaD3 {p : Program} {l : Launch} {e : Env} {s : State} {m : MethodId} {args : Array Value} {below : List Frame} {meth : Method} {c : Code} {A : Nat → Prop} (dC : Nat → ClassId) (dI : Nat → Nat → Nat) (cyB cyI cyJ cyP : ClassId) (a0 a1 jjN jkI jjz jmd jjO jlL jjL jj7 jjM jjw jjs jjt : Nat) (jjP jky jkz jkA jkX jkd jkB jke : Value) (jjm jh5 jkF : Int32) (jkO : NI) (jka : Int32) (jkx jkb jkl jkm : NI) (Q : NI → Int32 → NI → NI → NI → NI → Prop) (K51 : NI → Int32 → NI → NI → NI → NI → Int32 → Int32 → Int32 → Prop) (hK51 : ∀ (H : Heap) (locs : List Loc) (ls : Array Slot) (jk7 : NI) (jm9 : Int32) (jmq jkt jkS jj2 : NI) (l2 l3 l4 : Int32), va_P (dC, dI) vwCl (qqI a0 jkI jjz jmd jm9 a1 jjO jjP jjN jlL jjN jjs jjt jky jkz jkA jkX jkd jkB jjm jh5 jke jkF jkI cyI jk7 jjz cyI jj2 jmd cyI jmq jjO cyI jkO jlL jjM jjw jj7 jjL jka jjL cyI jkt jj7 cyI jkS jjM cyI jkx jjw cyI jkb jjs cyI jkl jjt cyI jkm) H → va_D A (qqI a0 jkI jjz jmd jm9 a1 jjO jjP jjN jlL jjN jjs jjt jky jkz jkA jkX jkd jkB jjm jh5 jke jkF jkI cyI jk7 jjz cyI jj2 jmd cyI jmq jjO cyI jkO jlL jjM jjw jj7 jjL jka jjL cyI jkt jj7 cyI jkS jjM cyI jkx jjw cyI jkb jjs cyI jkl jjt cyI jkm) → va_S A s.heap H locs → lv_has ls 6 [(0, .ref a0), (1, .ref a1), (2, .int l2), (3, .int l3), (4, .int l4)] → K51 jk7 jm9 jmq jkt jkS jj2 l2 l3 l4 → W p l e (headSpec wsX7_settle ({ frames := 5, cells := 0, slots := 0, locals := 121 })).room s m args below meth c H locs 0 0 (MQ below (va_Qv (fun (u : NI × Int32 × NI × NI × NI × NI) => Q u.1 u.2.1 u.2.2.1 u.2.2.2.1 u.2.2.2.2.1 u.2.2.2.2.2) (cB (dC, dI) (kT cyB cyI cyJ cyP) A (fun u : NI × Int32 × NI × NI × NI × NI => ((qqI a0 jkI jjz jmd u.2.1 a1 jjO jjP jjN jlL jjN jjs jjt jky jkz jkA jkX jkd jkB jjm jh5 jke jkF jkI cyI u.1 jjz cyI u.2.2.2.2.2 jmd cyI u.2.2.1 jjO cyI jkO jlL jjM jjw jj7 jjL jka jjL cyI u.2.2.2.1 jj7 cyI u.2.2.2.2.1 jjM cyI jkx jjw cyI jkb jjs cyI jkl jjt cyI jkm) : va_W))) A) args s 0 0 A) (F0 m 51 ls [])) (C0 : cfx p s m args meth c cX7_settle none wsX7_settle RX7 6 A (dC, dI) (kT cyB cyI cyJ cyP)) : ∀ (n : Nat) (H : Heap) (locs : List Loc) (ls : Array Slot) (jk7 : NI) (jm9 : Int32) (jmq jkt jkS jj2 : NI) (l2 l3 l4 l5 : Int32), va_P (dC, dI) vwCl (qqI a0 jkI jjz jmd jm9 a1 jjO jjP jjN jlL jjN jjs jjt jky jkz jkA jkX jkd jkB jjm jh5 jke jkF jkI cyI jk7 jjz cyI jj2 jmd cyI jmq jjO cyI jkO jlL jjM jjw jj7 jjL jka jjL cyI jkt jj7 cyI jkS jjM cyI jkx jjw cyI jkb jjs cyI jkl jjt cyI jkm) H → va_D A (qqI a0 jkI jjz jmd jm9 a1 jjO jjP jjN jlL jjN jjs jjt jky jkz jkA jkX jkd jkB jjm jh5 jke jkF jkI cyI jk7 jjz cyI jj2 jmd cyI jmq jjO cyI jkO jlL jjM jjw jj7 jjL jka jjL cyI jkt jj7 cyI jkS jjM cyI jkx jjw cyI jkb jjs cyI jkl jjt cyI jkm) → va_S A s.heap H locs → lv_has ls 6 [(0, .ref a0), (1, .ref a1), (2, .int l2), (3, .int l3), (4, .int l4), (5, .int l5)] → qIh jjm jh5 jkF jkO jka jkx jkb jkl jkm Q K51 n jk7 jm9 jmq jkt jkS jj2 l2 l3 l4 l5 → W p l e (headSpec wsX7_settle ({ frames := 5, cells := 0, slots := 0, locals := 121 })).room s m args below meth c H locs 0 0 (MQ below (va_Qv (fun (u : NI × Int32 × NI × NI × NI × NI) => Q u.1 u.2.1 u.2.2.1 u.2.2.2.1 u.2.2.2.2.1 u.2.2.2.2.2) (cB (dC, dI) (kT cyB cyI cyJ cyP) A (fun u : NI × Int32 × NI × NI × NI × NI => ((qqI a0 jkI jjz jmd u.2.1 a1 jjO jjP jjN jlL jjN jjs jjt jky jkz jkA jkX jkd jkB jjm jh5 jke jkF jkI cyI u.1 jjz cyI u.2.2.2.2.2 jmd cyI u.2.2.1 jjO cyI jkO jlL jjM jjw jj7 jjL jka jjL cyI u.2.2.2.1 jj7 cyI u.2.2.2.2.1 jjM cyI jkx jjw cyI jkb jjs cyI jkl jjt cyI jkm) : va_W))) A) args s 0 0 A) (F0 m 73 ls []) := by
  obtain ⟨hx, hb, hr, hts, hown, hlocks, hml, hA, hK, hNw⟩ := id C0
  intro n
  induction n with
  | zero => intro H locs ls jk7 jm9 jmq jkt jkS jj2 l2 l3 l4 l5 hP hD hS hl hw; exact False.elim hw
  | succ n ih =>
    intro H locs ls jk7 jm9 jmq jkt jkS jj2 l2 l3 l4 l5 hP hD hS hl hw
    refine lv_iload hx hb (qaa qgD 10 rfl) (lv_at hl 5 rfl) ?_
    refine lv_iload_n hx hb (qaa qgD 11 rfl) rfl (lv_at hl 3 rfl) ?_
    refine lv_icmp_ge (tgt := 106) hx hb (qaa qgD 12 rfl) (by decide) (fun c15 => ?_) (fun c15 => ?_)
    · have hw := hw.1 c15
      obtain ⟨x16, ex16⟩ : ∃ y : Int32, y = l4 + (-1) := ⟨_, rfl⟩
      have hw := hw x16 ex16
      refine lv_iinc (v := x16) (lv' := [(4, .int x16), (0, .ref a0), (1, .ref a1), (2, .int l2), (3, .int l3), (5, .int l5)]) hx hb (qaa qhK 11 rfl) hl (k := 4) rfl (by rw [ex16]; rfl) (by decide) rfl (fun ls hl => ?_)
      refine lv_goto (tgt := 51) hx hb (qaa qhK 12 rfl) (by decide) ?_
      exact hK51 _ _ _ jk7 jm9 jmq jkt jkS jj2 l2 l3 x16 hP hD hS (lv_sub hl [1, 2, 3, 4, 0] rfl) hw
    · have hw := hw.2 c15
      refine lv_aload_n hx hb (qaa qgD 13 rfl) rfl (lv_at hl 0 rfl) ?_
      refine va_get (D := (dC, dI)) (ci := 7) (v := .ref jkI) (C := RX7) (T := TX7) (N := 4) hx hb hts qBS hown hK hP 0 rfl rfl 0 (by decide) (hts _ qPz) (fun _ h9 => h9) rfl (qaa qgD 14 rfl) ?_
      refine lv_iload hx hb (qaa qgD 15 rfl) (lv_at hl 4 rfl) ?_
      refine lv_bipush (v := 8) hx hb (qaa qhK 0 rfl) (by decide) ?_
      refine lv_ishl hx hb (qaa qhK 1 rfl) ?_
      refine lv_topi (fun x17 ex17 => ?_)
      have hw := hw x17 ex17
      refine lv_iload hx hb (qaa qhK 2 rfl) (lv_at hl 5 rfl) ?_
      refine lv_iadd hx hb (qaa qhK 3 rfl) ?_
      refine lv_topi (fun x18 ex18 => ?_)
      have hw := hw x18 ex18
      refine lv_aload_n hx hb (qaa qhK 4 rfl) rfl (lv_at hl 0 rfl) ?_
      refine lv_iload hx hb (qaa qhK 5 rfl) (lv_at hl 4 rfl) ?_
      refine lv_iload hx hb (qaa qhK 6 rfl) (lv_at hl 5 rfl) ?_
      obtain ⟨hCc, hPc, hDc, hFc⟩ := qac (ws' := (qa9C a0 jkI jjz jmd jm9 jjz cyI jj2 jkI cyI jk7)) hP hD hS hA [0, 4, 3] (by decide +kernel) rfl
      refine va_calli (va_runV (As := [.int l4, .int l5]) (rest := [.int x18, .ref jkI]) ⟨hx, hb, hml, hown, hts⟩ (qaGg l dC dI cyB cyI cyJ cyP a0 jjz jkI H.size (.ref jmd) (.int jm9) jj2 jk7 l4 l5 hw) (cwV 2 hts gX7_settle_X7_mostFrom rfl rfl rfl (by decide +kernel) ⟨nbq rfl, nbq rfl⟩) ⟨qab, va_recv (q := (RX7, TX7, 4)) hK hPc (ci := 7) (q0 := 0) rfl rfl, qae hPc hK hDc hNw⟩ rfl rfl hl.1 rfl (lv_room (nbq rfl)) (qaa qhK 7 rfl) ⟨nbq rfl, nbq rfl⟩) hS (fun q _ h => hFc q h) hFc (fun r19 u t H1 locs ht hvm hw hB hz1 hk1 hS => ?_)
      obtain ⟨hP1, hK1, hD1⟩ := hB
      rw [ht] at hP1
      obtain ⟨hP, hD⟩ := qad (wr := [(a1, .inr (1, [.ref jjO, jjP, .ref jjN, .ref jlL])), (jjN, .inr (2, [.ref jjs, .ref jjt, jky, jkz, jkA, jkX, jkd, jkB, .int jjm, .int jh5, jke, .int jkF])), (jmd, .inl (cyI, 6, .inl jmq)), (jjO, .inl (cyI, 64, .inl jkO)), (jlL, .inr (4, [.ref jjM, .ref jjw, .ref jj7, .ref jjL, .int jka])), (jjL, .inl (cyI, 8, .inl jkt)), (jj7, .inl (cyI, 150, .inl jkS)), (jjM, .inl (cyI, 150, .inl jkx)), (jjw, .inl (cyI, 150, .inl jkb)), (jjs, .inl (cyI, 8, .inl jkl)), (jjt, .inl (cyI, 8, .inl jkm))]) (w1 := (qa9C a0 jkI jjz jmd jm9 jjz cyI jj2 jkI cyI jk7)) (wn := (qqI a0 jkI jjz jmd jm9 a1 jjO jjP jjN jlL jjN jjs jjt jky jkz jkA jkX jkd jkB jjm jh5 jke jkF jkI cyI jk7 jjz cyI jj2 jmd cyI jmq jjO cyI jkO jlL jjM jjw jj7 jjL jka jjL cyI jkt jj7 cyI jkS jjM cyI jkx jjw cyI jkb jjs cyI jkl jjt cyI jkm)) hP hD [0, 4, 3] [1, 2, 5, 6, 7, 8, 9, 10, 11, 12, 13] [11, 0, 1, 13, 12, 2, 3, 4, 5, 6, 7, 8, 9, 10] hCc rfl (by decide +kernel) (by decide +kernel) (by decide +kernel) rfl hk1 hFc hP1 hD1
      generalize H1 = H at hP hS ⊢
      obtain ⟨hi9, hw⟩ := hw
      refine va_iast hx hb hK hP hD hS 3 1 rfl rfl hi9 (qaa qhK 8 rfl) (fun H locs hP hD hS => ?_)
      obtain ⟨f20, ef20⟩ : ∃ y : NI, y = upd jk7 x18.toNatClampNeg r19 := ⟨_, rfl⟩
      have hw := hw f20 ef20
      have hP : va_P (dC, dI) vwCl (qqI a0 jkI jjz jmd jm9 a1 jjO jjP jjN jlL jjN jjs jjt jky jkz jkA jkX jkd jkB jjm jh5 jke jkF jkI cyI f20 jjz cyI jj2 jmd cyI jmq jjO cyI jkO jlL jjM jjw jj7 jjL jka jjL cyI jkt jj7 cyI jkS jjM cyI jkx jjw cyI jkb jjs cyI jkl jjt cyI jkm) H := by rw [ef20]; exact hP
      have hD : va_D A (qqI a0 jkI jjz jmd jm9 a1 jjO jjP jjN jlL jjN jjs jjt jky jkz jkA jkX jkd jkB jjm jh5 jke jkF jkI cyI f20 jjz cyI jj2 jmd cyI jmq jjO cyI jkO jlL jjM jjw jj7 jjL jka jjL cyI jkt jj7 cyI jkS jjM cyI jkx jjw cyI jkb jjs cyI jkl jjt cyI jkm) := by rw [ef20]; exact hD
      obtain ⟨x21, ex21⟩ : ∃ y : Int32, y = l5 + 1 := ⟨_, rfl⟩
      have hw := hw x21 ex21
      refine lv_iinc (v := x21) (lv' := [(5, .int x21), (0, .ref a0), (1, .ref a1), (2, .int l2), (3, .int l3), (4, .int l4)]) hx hb (qaa qhK 9 rfl) hl (k := 5) rfl (by rw [ex21]; rfl) (by decide) rfl (fun ls hl => ?_)
      refine lv_goto (tgt := 73) hx hb (qaa qhK 10 rfl) (by decide) ?_
      exact ih _ _ _ f20 jm9 jmq jkt jkS jj2 l2 l3 l4 x21 hP hD hS (lv_sub hl [1, 2, 3, 4, 5, 0] rfl) hw
set_option maxHeartbeats 4000000 in
set_option maxRecDepth 100000 in
theorem qayQ {p : Program} {l : Launch} {e : Env} {s : State} {m : MethodId} {args : Array Value} {below : List Frame} {meth : Method} {c : Code} {A : Nat → Prop} (dC : Nat → ClassId) (dI : Nat → Nat → Nat) (cyB cyI cyJ cyP : ClassId) (a0 a1 jjN jkI jjz jmd jjO jlL jjL jj7 jjM jjw jjs jjt : Nat) (jjP jky jkz jkA jkX jkd jkB jke : Value) (jjm jh5 jkF : Int32) (jkO : NI) (jka : Int32) (jkx jkb jkl jkm : NI) (Q : NI → Int32 → NI → NI → NI → NI → Prop) (C0 : cfx p s m args meth c cX7_settle none wsX7_settle RX7 6 A (dC, dI) (kT cyB cyI cyJ cyP)) : ∀ (n : Nat) (H : Heap) (locs : List Loc) (ls : Array Slot) (jk7 : NI) (jm9 : Int32) (jmq jkt jkS jj2 : NI) (l2 l3 l4 : Int32), va_P (dC, dI) vwCl (qqI a0 jkI jjz jmd jm9 a1 jjO jjP jjN jlL jjN jjs jjt jky jkz jkA jkX jkd jkB jjm jh5 jke jkF jkI cyI jk7 jjz cyI jj2 jmd cyI jmq jjO cyI jkO jlL jjM jjw jj7 jjL jka jjL cyI jkt jj7 cyI jkS jjM cyI jkx jjw cyI jkb jjs cyI jkl jjt cyI jkm) H → va_D A (qqI a0 jkI jjz jmd jm9 a1 jjO jjP jjN jlL jjN jjs jjt jky jkz jkA jkX jkd jkB jjm jh5 jke jkF jkI cyI jk7 jjz cyI jj2 jmd cyI jmq jjO cyI jkO jlL jjM jjw jj7 jjL jka jjL cyI jkt jj7 cyI jkS jjM cyI jkx jjw cyI jkb jjs cyI jkl jjt cyI jkm) → va_S A s.heap H locs → lv_has ls 6 [(0, .ref a0), (1, .ref a1), (2, .int l2), (3, .int l3), (4, .int l4)] → qBV jjm jh5 jkF jkO jka jkx jkb jkl jkm Q n jk7 jm9 jmq jkt jkS jj2 l2 l3 l4 → W p l e (headSpec wsX7_settle ({ frames := 5, cells := 0, slots := 0, locals := 121 })).room s m args below meth c H locs 0 0 (MQ below (va_Qv (fun (u : NI × Int32 × NI × NI × NI × NI) => Q u.1 u.2.1 u.2.2.1 u.2.2.2.1 u.2.2.2.2.1 u.2.2.2.2.2) (cB (dC, dI) (kT cyB cyI cyJ cyP) A (fun u : NI × Int32 × NI × NI × NI × NI => ((qqI a0 jkI jjz jmd u.2.1 a1 jjO jjP jjN jlL jjN jjs jjt jky jkz jkA jkX jkd jkB jjm jh5 jke jkF jkI cyI u.1 jjz cyI u.2.2.2.2.2 jmd cyI u.2.2.1 jjO cyI jkO jlL jjM jjw jj7 jjL jka jjL cyI u.2.2.2.1 jj7 cyI u.2.2.2.2.1 jjM cyI jkx jjw cyI jkb jjs cyI jkl jjt cyI jkm) : va_W))) A) args s 0 0 A) (F0 m 51 ls []) := by
  obtain ⟨hx, hb, hr, hts, hown, hlocks, hml, hA, hK, hNw⟩ := id C0
  intro n
  induction n with
  | zero => intro H locs ls jk7 jm9 jmq jkt jkS jj2 l2 l3 l4 hP hD hS hl hw; exact False.elim hw
  | succ n ih =>
    intro H locs ls jk7 jm9 jmq jkt jkS jj2 l2 l3 l4 hP hD hS hl hw
    refine lv_iload hx hb (qaa qhP 14 rfl) (lv_at hl 4 rfl) ?_
    refine lv_if_lt (tgt := 112) hx hb (qaa qhP 15 rfl) (by decide) (fun c8 => ?_) (fun c8 => ?_)
    · have hw := hw.1 c8
      refine lv_aload_n hx hb (qaa qhK 13 rfl) rfl (lv_at hl 0 rfl) ?_
      refine lv_aload_n hx hb (qaa qhK 14 rfl) rfl (lv_at hl 0 rfl) ?_
      refine va_get (D := (dC, dI)) (ci := 7) (v := .ref jkI) (C := RX7) (T := TX7) (N := 4) hx hb hts qBS hown hK hP 0 rfl rfl 0 (by decide) (hts _ qPz) (fun _ h9 => h9) rfl (qaa qhK 15 rfl) ?_
      refine lv_iconst (v := 0) hx hb (qaa quB 0 rfl) (by decide) ?_
      refine va_iald hx hb hK hP 3 1 rfl rfl (vin (by decide)) (qaa quB 1 rfl) ?_
      refine lv_topi (fun x9 ex9 => ?_)
      have hw := hw x9 ex9
      refine va_put (D := (dC, dI)) (ci := 7) (v := .int x9) (ty := .int) (C := RX7) (T := TX7) (N := 4) hx hb hts qBS tyX7 tyX7_ok nmX7 hown hK hP hD hS 0 rfl rfl 3 (by decide) (hts _ qaqE) (fun _ h9 => h9) rfl (by decide +kernel) rfl rfl (nbq rfl) (qaa quB 2 rfl) (fun H locs hP hD hS => ?_)
      have hP : va_P (dC, dI) vwCl (qqI a0 jkI jjz jmd x9 a1 jjO jjP jjN jlL jjN jjs jjt jky jkz jkA jkX jkd jkB jjm jh5 jke jkF jkI cyI jk7 jjz cyI jj2 jmd cyI jmq jjO cyI jkO jlL jjM jjw jj7 jjL jka jjL cyI jkt jj7 cyI jkS jjM cyI jkx jjw cyI jkb jjs cyI jkl jjt cyI jkm) H := hP
      have hD : va_D A (qqI a0 jkI jjz jmd x9 a1 jjO jjP jjN jlL jjN jjs jjt jky jkz jkA jkX jkd jkB jjm jh5 jke jkF jkI cyI jk7 jjz cyI jj2 jmd cyI jmq jjO cyI jkO jlL jjM jjw jj7 jjL jka jjL cyI jkt jj7 cyI jkS jjM cyI jkx jjw cyI jkb jjs cyI jkl jjt cyI jkm) := hD
      refine lv_aload_n hx hb (qaa quB 3 rfl) rfl (lv_at hl 0 rfl) ?_
      refine lv_iload_n hx hb (qaa quB 4 rfl) rfl (lv_at hl 2 rfl) ?_
      obtain ⟨hCc, hPc, hDc, hFc⟩ := qac (ws' := (qa3k a0 jkI jjz jmd x9 jjz cyI jj2 jkI cyI jk7 jmd cyI jmq)) hP hD hS hA [0, 4, 3, 5] (by decide +kernel) rfl
      refine va_callv (va_runV (As := [.int l2]) (rest := []) ⟨hx, hb, hml, hown, hts⟩ (qa14 l dC dI cyB cyI cyJ cyP a0 jmd jjz jkI H.size (.int x9) jj2 jk7 jmq l2 hw) (cwV 1 hts gX7_settle_X7_give rfl rfl rfl (by decide +kernel) ⟨nbq rfl, nbq rfl⟩) ⟨qab, va_recv (q := (RX7, TX7, 4)) hK hPc (ci := 7) (q0 := 0) rfl rfl, qae hPc hK hDc hNw⟩ rfl rfl hl.1 rfl (lv_room (nbq rfl)) (qaa quB 5 rfl) ⟨nbq rfl, nbq rfl⟩) hS (fun q _ h => hFc q h) hFc (fun u t H1 locs ht hvm hw hB hz1 hk1 hS => ?_)
      obtain ⟨f10, rfl⟩ : ∃ z, z = u := ⟨_, rfl⟩
      obtain ⟨hP1, hK1, hD1⟩ := hB
      rw [ht] at hP1
      obtain ⟨hP, hD⟩ := qad (wr := [(a1, .inr (1, [.ref jjO, jjP, .ref jjN, .ref jlL])), (jjN, .inr (2, [.ref jjs, .ref jjt, jky, jkz, jkA, jkX, jkd, jkB, .int jjm, .int jh5, jke, .int jkF])), (jjO, .inl (cyI, 64, .inl jkO)), (jlL, .inr (4, [.ref jjM, .ref jjw, .ref jj7, .ref jjL, .int jka])), (jjL, .inl (cyI, 8, .inl jkt)), (jj7, .inl (cyI, 150, .inl jkS)), (jjM, .inl (cyI, 150, .inl jkx)), (jjw, .inl (cyI, 150, .inl jkb)), (jjs, .inl (cyI, 8, .inl jkl)), (jjt, .inl (cyI, 8, .inl jkm))]) (w1 := (qa3k a0 jkI jjz jmd x9 jjz cyI jj2 jkI cyI jk7 jmd cyI f10)) (wn := (qqI a0 jkI jjz jmd x9 a1 jjO jjP jjN jlL jjN jjs jjt jky jkz jkA jkX jkd jkB jjm jh5 jke jkF jkI cyI jk7 jjz cyI jj2 jmd cyI f10 jjO cyI jkO jlL jjM jjw jj7 jjL jka jjL cyI jkt jj7 cyI jkS jjM cyI jkx jjw cyI jkb jjs cyI jkl jjt cyI jkm)) hP hD [0, 4, 3, 5] [1, 2, 6, 7, 8, 9, 10, 11, 12, 13] [10, 0, 1, 12, 11, 13, 2, 3, 4, 5, 6, 7, 8, 9] hCc rfl (by decide +kernel) (by decide +kernel) (by decide +kernel) rfl hk1 hFc hP1 hD1
      generalize H1 = H at hP hS ⊢
      exact ((W.vret hx hb hr (fun t ht hW => ⟨⟨(jk7, x9, f10, jkt, jkS, jj2), rfl, hw, by rw [ht]; exact hP, va_K.moved hW.alike hK, hD⟩, hS.F ht⟩) hS.2.2 (qaa quB 6 rfl)))
    · have hw := hw.2 c8
      refine lv_aload_n hx hb (qaa qgD 0 rfl) rfl (lv_at hl 0 rfl) ?_
      refine va_get (D := (dC, dI)) (ci := 7) (v := .ref jjz) (C := RX7) (T := TX7) (N := 4) hx hb hts qBS hown hK hP 0 rfl rfl 1 (by decide) (hts _ qat0) (fun _ h9 => h9) rfl (qaa qgD 1 rfl) ?_
      refine lv_iload hx hb (qaa qgD 2 rfl) (lv_at hl 4 rfl) ?_
      refine lv_aload_n hx hb (qaa qgD 3 rfl) rfl (lv_at hl 0 rfl) ?_
      refine lv_aload_n hx hb (qaa qgD 4 rfl) rfl (lv_at hl 1 rfl) ?_
      refine lv_iload hx hb (qaa qgD 5 rfl) (lv_at hl 4 rfl) ?_
      obtain ⟨hCc, hPc, hDc, hFc⟩ := qac (ws' := (qa7y a0 jkI jjz jmd jm9 a1 jjO jjP jjN jlL jjO cyI jkO jjN jjs jjt jky jkz jkA jkX jkd jkB jjm jh5 jke jkF jlL jjM jjw jj7 jjL jka jjL cyI jkt jj7 cyI jkS jjM cyI jkx jjw cyI jkb jjs cyI jkl jjt cyI jkm)) hP hD hS hA [0, 1, 6, 2, 7, 8, 9, 10, 11, 12, 13] (by decide +kernel) rfl
      refine va_calli (va_runV (As := [.ref a1, .int l4]) (rest := [.int l4, .ref jjz]) ⟨hx, hb, hml, hown, hts⟩ (qazE l dC dI cyB cyI cyJ cyP a0 a1 jjO jjN jlL jjL jj7 jjM jjw jjs jjt H.size (.ref jkI) (.ref jjz) (.ref jmd) (.int jm9) (jjP) (jky) (jkz) (jkA) (jkX) (jkd) (jkB) (jke) jkO jjm jh5 jkF jka jkx jkb jkl jkm jkt jkS l4 hw) (cwV 2 hts gX7_settle_X7_allowedTo rfl rfl rfl (by decide +kernel) ⟨nbq rfl, nbq rfl⟩) ⟨qab, va_recv (q := (RX7, TX7, 4)) hK hPc (ci := 7) (q0 := 0) rfl rfl, qae hPc hK hDc hNw⟩ rfl rfl hl.1 rfl (lv_room (nbq rfl)) (qaa qgD 6 rfl) ⟨nbq rfl, nbq rfl⟩) hS (fun q _ h => hFc q h) hFc (fun r13 u t H1 locs ht hvm hw hB hz1 hk1 hS => ?_)
      obtain ⟨f11, f12⟩ := u
      obtain ⟨hP1, hK1, hD1⟩ := hB
      rw [ht] at hP1
      obtain ⟨hP, hD⟩ := qad (wr := [(jkI, .inl (cyI, 1792, .inl jk7)), (jjz, .inl (cyI, 6, .inl jj2)), (jmd, .inl (cyI, 6, .inl jmq))]) (w1 := (qa7y a0 jkI jjz jmd jm9 a1 jjO jjP jjN jlL jjO cyI jkO jjN jjs jjt jky jkz jkA jkX jkd jkB jjm jh5 jke jkF jlL jjM jjw jj7 jjL jka jjL cyI f11 jj7 cyI f12 jjM cyI jkx jjw cyI jkb jjs cyI jkl jjt cyI jkm)) (wn := (qqI a0 jkI jjz jmd jm9 a1 jjO jjP jjN jlL jjN jjs jjt jky jkz jkA jkX jkd jkB jjm jh5 jke jkF jkI cyI jk7 jjz cyI jj2 jmd cyI jmq jjO cyI jkO jlL jjM jjw jj7 jjL jka jjL cyI f11 jj7 cyI f12 jjM cyI jkx jjw cyI jkb jjs cyI jkl jjt cyI jkm)) hP hD [0, 1, 6, 2, 7, 8, 9, 10, 11, 12, 13] [3, 4, 5] [3, 4, 6, 0, 1, 2, 5, 7, 8, 9, 10, 11, 12, 13] hCc rfl (by decide +kernel) (by decide +kernel) (by decide +kernel) rfl hk1 hFc hP1 hD1
      generalize H1 = H at hP hS ⊢
      obtain ⟨hi9, hw⟩ := hw
      refine va_iast hx hb hK hP hD hS 4 1 rfl rfl hi9 (qaa qgD 7 rfl) (fun H locs hP hD hS => ?_)
      obtain ⟨f14, ef14⟩ : ∃ y : NI, y = upd jj2 l4.toNatClampNeg r13 := ⟨_, rfl⟩
      have hw := hw f14 ef14
      have hP : va_P (dC, dI) vwCl (qqI a0 jkI jjz jmd jm9 a1 jjO jjP jjN jlL jjN jjs jjt jky jkz jkA jkX jkd jkB jjm jh5 jke jkF jkI cyI jk7 jjz cyI f14 jmd cyI jmq jjO cyI jkO jlL jjM jjw jj7 jjL jka jjL cyI f11 jj7 cyI f12 jjM cyI jkx jjw cyI jkb jjs cyI jkl jjt cyI jkm) H := by rw [ef14]; exact hP
      have hD : va_D A (qqI a0 jkI jjz jmd jm9 a1 jjO jjP jjN jlL jjN jjs jjt jky jkz jkA jkX jkd jkB jjm jh5 jke jkF jkI cyI jk7 jjz cyI f14 jmd cyI jmq jjO cyI jkO jlL jjM jjw jj7 jjL jka jjL cyI f11 jj7 cyI f12 jjM cyI jkx jjw cyI jkb jjs cyI jkl jjt cyI jkm) := by rw [ef14]; exact hD
      refine lv_iconst (v := 0) hx hb (qaa qgD 8 rfl) (by decide) ?_
      refine lv_istore (lv' := [(5, .int 0), (0, .ref a0), (1, .ref a1), (2, .int l2), (3, .int l3), (4, .int l4)]) hx hb (qaa qgD 9 rfl) hl (by decide) rfl (fun ls hl => ?_)
      obtain ⟨n9, hw⟩ := hw
      exact qaD3 dC dI cyB cyI cyJ cyP a0 a1 jjN jkI jjz jmd jjO jlL jjL jj7 jjM jjw jjs jjt jjP jky jkz jkA jkX jkd jkB jke jjm jh5 jkF jkO jka jkx jkb jkl jkm Q (qBV jjm jh5 jkF jkO jka jkx jkb jkl jkm Q n) ih C0 n9 _ _ _ jk7 jm9 jmq f11 f12 f14 l2 l3 l4 0 hP hD hS (lv_sub hl [1, 2, 3, 4, 5, 0] rfl) hw
set_option maxHeartbeats 4000000 in
set_option maxRecDepth 100000 in
theorem qavp {p : Program} {l : Launch} {e : Env} {s : State} {m : MethodId} {args : Array Value} {below : List Frame} {meth : Method} {c : Code} {A : Nat → Prop} (dC : Nat → ClassId) (dI : Nat → Nat → Nat) (cyB cyI cyJ cyP : ClassId) (a0 a1 jjN jkI jjz jmd jjO jlL jjL jj7 jjM jjw jjs jjt : Nat) (jjP jky jkz jkA jkX jkd jkB jke : Value) (jjm jh5 jkF : Int32) (jkO : NI) (jka : Int32) (jkx jkb jkl jkm : NI) (Q : NI → Int32 → NI → NI → NI → NI → Prop) (C0 : cfx p s m args meth c cX7_settle none wsX7_settle RX7 6 A (dC, dI) (kT cyB cyI cyJ cyP)) : ∀ (n : Nat) (H : Heap) (locs : List Loc) (ls : Array Slot) (jk7 : NI) (jm9 : Int32) (jmq jkt jkS jj2 : NI) (l2 l3 l4 : Int32), va_P (dC, dI) vwCl (qqI a0 jkI jjz jmd jm9 a1 jjO jjP jjN jlL jjN jjs jjt jky jkz jkA jkX jkd jkB jjm jh5 jke jkF jkI cyI jk7 jjz cyI jj2 jmd cyI jmq jjO cyI jkO jlL jjM jjw jj7 jjL jka jjL cyI jkt jj7 cyI jkS jjM cyI jkx jjw cyI jkb jjs cyI jkl jjt cyI jkm) H → va_D A (qqI a0 jkI jjz jmd jm9 a1 jjO jjP jjN jlL jjN jjs jjt jky jkz jkA jkX jkd jkB jjm jh5 jke jkF jkI cyI jk7 jjz cyI jj2 jmd cyI jmq jjO cyI jkO jlL jjM jjw jj7 jjL jka jjL cyI jkt jj7 cyI jkS jjM cyI jkx jjw cyI jkb jjs cyI jkl jjt cyI jkm) → va_S A s.heap H locs → lv_has ls 6 [(0, .ref a0), (1, .ref a1), (2, .int l2), (3, .int l3), (4, .int l4)] → qHQ jjm jh5 jkF jkO jka jkx jkb jkl jkm Q n jk7 jm9 jmq jkt jkS jj2 l2 l3 l4 → W p l e (headSpec wsX7_settle ({ frames := 5, cells := 0, slots := 0, locals := 121 })).room s m args below meth c H locs 0 0 (MQ below (va_Qv (fun (u : NI × Int32 × NI × NI × NI × NI) => Q u.1 u.2.1 u.2.2.1 u.2.2.2.1 u.2.2.2.2.1 u.2.2.2.2.2) (cB (dC, dI) (kT cyB cyI cyJ cyP) A (fun u : NI × Int32 × NI × NI × NI × NI => ((qqI a0 jkI jjz jmd u.2.1 a1 jjO jjP jjN jlL jjN jjs jjt jky jkz jkA jkX jkd jkB jjm jh5 jke jkF jkI cyI u.1 jjz cyI u.2.2.2.2.2 jmd cyI u.2.2.1 jjO cyI jkO jlL jjM jjw jj7 jjL jka jjL cyI u.2.2.2.1 jj7 cyI u.2.2.2.2.1 jjM cyI jkx jjw cyI jkb jjs cyI jkl jjt cyI jkm) : va_W))) A) args s 0 0 A) (F0 m 21 ls []) := by
  obtain ⟨hx, hb, hr, hts, hown, hlocks, hml, hA, hK, hNw⟩ := id C0
  intro n
  induction n with
  | zero => intro H locs ls jk7 jm9 jmq jkt jkS jj2 l2 l3 l4 hP hD hS hl hw; exact False.elim hw
  | succ n ih =>
    intro H locs ls jk7 jm9 jmq jkt jkS jj2 l2 l3 l4 hP hD hS hl hw
    refine lv_iload hx hb (qaa qi1 12 rfl) (lv_at hl 4 rfl) ?_
    refine lv_iload_n hx hb (qaa qi1 13 rfl) rfl (lv_at hl 3 rfl) ?_
    refine lv_icmp_ge (tgt := 46) hx hb (qaa qi1 14 rfl) (by decide) (fun c2 => ?_) (fun c2 => ?_)
    · have hw := hw.1 c2
      refine lv_iload_n hx hb (qaa qhP 10 rfl) rfl (lv_at hl 2 rfl) ?_
      refine lv_iconst (v := 1) hx hb (qaa qhP 11 rfl) (by decide) ?_
      refine lv_isub hx hb (qaa qhP 12 rfl) ?_
      refine lv_topi (fun x3 ex3 => ?_)
      have hw := hw x3 ex3
      refine lv_istore (lv' := [(4, .int x3), (0, .ref a0), (1, .ref a1), (2, .int l2), (3, .int l3)]) hx hb (qaa qhP 13 rfl) hl (by decide) rfl (fun ls hl => ?_)
      obtain ⟨n9, hw⟩ := hw
      exact qayQ dC dI cyB cyI cyJ cyP a0 a1 jjN jkI jjz jmd jjO jlL jjL jj7 jjM jjw jjs jjt jjP jky jkz jkA jkX jkd jkB jke jjm jh5 jkF jkO jka jkx jkb jkl jkm Q C0 n9 _ _ _ jk7 jm9 jmq jkt jkS jj2 l2 l3 x3 hP hD hS (lv_sub hl [1, 2, 3, 4, 0] rfl) hw
    · have hw := hw.2 c2
      refine lv_aload_n hx hb (qaa qi1 15 rfl) rfl (lv_at hl 0 rfl) ?_
      refine va_get (D := (dC, dI)) (ci := 7) (v := .ref jkI) (C := RX7) (T := TX7) (N := 4) hx hb hts qBS hown hK hP 0 rfl rfl 0 (by decide) (hts _ qPz) (fun _ h9 => h9) rfl (qaa qhP 0 rfl) ?_
      refine lv_iload_n hx hb (qaa qhP 1 rfl) rfl (lv_at hl 2 rfl) ?_
      refine lv_bipush (v := 8) hx hb (qaa qhP 2 rfl) (by decide) ?_
      refine lv_ishl hx hb (qaa qhP 3 rfl) ?_
      refine lv_topi (fun x4 ex4 => ?_)
      have hw := hw x4 ex4
      refine lv_iload hx hb (qaa qhP 4 rfl) (lv_at hl 4 rfl) ?_
      refine lv_iadd hx hb (qaa qhP 5 rfl) ?_
      refine lv_topi (fun x5 ex5 => ?_)
      have hw := hw x5 ex5
      refine lv_iconst (v := 0) hx hb (qaa qhP 6 rfl) (by decide) ?_
      obtain ⟨hi9, hw⟩ := hw
      refine va_iast hx hb hK hP hD hS 3 1 rfl rfl hi9 (qaa qhP 7 rfl) (fun H locs hP hD hS => ?_)
      obtain ⟨f6, ef6⟩ : ∃ y : NI, y = upd jk7 x5.toNatClampNeg 0 := ⟨_, rfl⟩
      have hw := hw f6 ef6
      have hP : va_P (dC, dI) vwCl (qqI a0 jkI jjz jmd jm9 a1 jjO jjP jjN jlL jjN jjs jjt jky jkz jkA jkX jkd jkB jjm jh5 jke jkF jkI cyI f6 jjz cyI jj2 jmd cyI jmq jjO cyI jkO jlL jjM jjw jj7 jjL jka jjL cyI jkt jj7 cyI jkS jjM cyI jkx jjw cyI jkb jjs cyI jkl jjt cyI jkm) H := by rw [ef6]; exact hP
      have hD : va_D A (qqI a0 jkI jjz jmd jm9 a1 jjO jjP jjN jlL jjN jjs jjt jky jkz jkA jkX jkd jkB jjm jh5 jke jkF jkI cyI f6 jjz cyI jj2 jmd cyI jmq jjO cyI jkO jlL jjM jjw jj7 jjL jka jjL cyI jkt jj7 cyI jkS jjM cyI jkx jjw cyI jkb jjs cyI jkl jjt cyI jkm) := by rw [ef6]; exact hD
      obtain ⟨x7, ex7⟩ : ∃ y : Int32, y = l4 + 1 := ⟨_, rfl⟩
      have hw := hw x7 ex7
      refine lv_iinc (v := x7) (lv' := [(4, .int x7), (0, .ref a0), (1, .ref a1), (2, .int l2), (3, .int l3)]) hx hb (qaa qhP 8 rfl) hl (k := 4) rfl (by rw [ex7]; rfl) (by decide) rfl (fun ls hl => ?_)
      refine lv_goto (tgt := 21) hx hb (qaa qhP 9 rfl) (by decide) ?_
      exact ih _ _ _ f6 jm9 jmq jkt jkS jj2 l2 l3 x7 hP hD hS (lv_sub hl [1, 2, 3, 4, 0] rfl) hw
set_option maxHeartbeats 4000000 in
set_option maxRecDepth 100000 in
theorem qaob (l : Launch) (dC : Nat → ClassId) (dI : Nat → Nat → Nat) (cyB cyI cyJ cyP : ClassId) (a0 a1 jjN jkI jjz jmd jjO jlL jjL jj7 jjM jjw jjs jjt sz : Nat) (jjP jky jkz jkA jkX jkd jkB jke : Value) (jjm jh5 jkF : Int32) (jkO : NI) (jka : Int32) (jkx jkb jkl jkm jk7 : NI) (jm9 : Int32) (jmq jkt jkS jj2 : NI) {Q : NI → Int32 → NI → NI → NI → NI → Prop} (hw : qRZ jjm jh5 jkF jkO jka jkx jkb jkl jkm jk7 jm9 jmq jkt jkS jj2 Q) : Met l yX7_settle wsX7_settle ({ frames := 5, cells := 0, slots := 0, locals := 121 }) (va_Pc [.ref a0, .ref a1] (cPc (dC, dI) (kT cyB cyI cyJ cyP) (qqI a0 jkI jjz jmd jm9 a1 jjO jjP jjN jlL jjN jjs jjt jky jkz jkA jkX jkd jkB jjm jh5 jke jkF jkI cyI jk7 jjz cyI jj2 jmd cyI jmq jjO cyI jkO jlL jjM jjw jj7 jjL jka jjL cyI jkt jj7 cyI jkS jjM cyI jkx jjw cyI jkb jjs cyI jkl jjt cyI jkm) sz)) (va_Qv (fun (u : NI × Int32 × NI × NI × NI × NI) => Q u.1 u.2.1 u.2.2.1 u.2.2.2.1 u.2.2.2.2.1 u.2.2.2.2.2) (cB (dC, dI) (kT cyB cyI cyJ cyP) (va_A (qqI a0 jkI jjz jmd jm9 a1 jjO jjP jjN jlL jjN jjs jjt jky jkz jkA jkX jkd jkB jjm jh5 jke jkF jkI cyI jk7 jjz cyI jj2 jmd cyI jmq jjO cyI jkO jlL jjM jjw jj7 jjL jka jjL cyI jkt jj7 cyI jkS jjM cyI jkx jjw cyI jkb jjs cyI jkl jjt cyI jkm) sz) (fun u : NI × Int32 × NI × NI × NI × NI => ((qqI a0 jkI jjz jmd u.2.1 a1 jjO jjP jjN jlL jjN jjs jjt jky jkz jkA jkX jkd jkB jjm jh5 jke jkF jkI cyI u.1 jjz cyI u.2.2.2.2.2 jmd cyI u.2.2.1 jjO cyI jkO jlL jjM jjw jj7 jjL jka jjL cyI u.2.2.2.1 jj7 cyI u.2.2.2.2.1 jjM cyI jkx jjw cyI jkb jjs cyI jkl jjt cyI jkm) : va_W))) (va_A (qqI a0 jkI jjz jmd jm9 a1 jjO jjP jjN jlL jjN jjs jjt jky jkz jkA jkX jkd jkB jjm jh5 jke jkF jkI cyI jk7 jjz cyI jj2 jmd cyI jmq jjO cyI jkO jlL jjM jjw jj7 jjL jka jjL cyI jkt jj7 cyI jkS jjM cyI jkx jjw cyI jkb jjs cyI jkl jjt cyI jkm) sz)) 0 0 (va_A (qqI a0 jkI jjz jmd jm9 a1 jjO jjP jjN jlL jjN jjs jjt jky jkz jkA jkX jkd jkB jjm jh5 jke jkF jkI cyI jk7 jjz cyI jj2 jmd cyI jmq jjO cyI jkO jlL jjM jjw jj7 jjL jka jjL cyI jkt jj7 cyI jkS jjM cyI jkx jjw cyI jkb jjs cyI jkl jjt cyI jkm) sz) := by
  refine Met.ofW (cc := cX7_settle) (maxL := 6) (ret := none) (by decide) rfl ?_
  intro p e s m args below meth c s₁ B hml hv
  obtain ⟨rfl, hsz, hP, hK, hD0, hNw⟩ := hv
  have hx := B.exec
  have hb := B.bytes
  have hr := B.returns
  have hts := atoms_spec (ws := wsX7_settle) B.pre
  have hown : s.vm.findClass RX7 = some m.cls := findClass_of_methodNamed B.named
  have hlocks := B.notSynchronized
  subst hsz
  have hD := hD0.self (sz := s.heap.size)
  generalize hAe : va_A (qqI a0 jkI jjz jmd jm9 a1 jjO jjP jjN jlL jjN jjs jjt jky jkz jkA jkX jkd jkB jjm jh5 jke jkF jkI cyI jk7 jjz cyI jj2 jmd cyI jmq jjO cyI jkO jlL jjM jjw jj7 jjL jka jjL cyI jkt jj7 cyI jkS jjM cyI jkx jjw cyI jkb jjs cyI jkl jjt cyI jkm) s.heap.size = A at hD ⊢
  have hA : ∀ q : Nat, s.heap.size ≤ q → A q := fun q h => by rw [← hAe]; exact Or.inr h
  have hS : va_S A s.heap s.heap [] := va_S.rf
  have hP : va_P (dC, dI) vwCl (qqI a0 jkI jjz jmd jm9 a1 jjO jjP jjN jlL jjN jjs jjt jky jkz jkA jkX jkd jkB jjm jh5 jke jkF jkI cyI jk7 jjz cyI jj2 jmd cyI jmq jjO cyI jkO jlL jjM jjw jj7 jjL jka jjL cyI jkt jj7 cyI jkS jjM cyI jkx jjw cyI jkb jjs cyI jkl jjt cyI jkm) s.heap := hP
  have hl := lv_entry ([.ref a0, .ref a1]) (n := 6) (nbq rfl)
  rw [lg_entry_eq]
  generalize (lg_sl ([.ref a0, .ref a1]) ++ List.replicate (6 - (lg_sl ([.ref a0, .ref a1])).length) Slot.unset).toArray = ls at hl ⊢
  have hl : lv_has ls 6 [(0, .ref a0), (1, .ref a1)] := hl
  have C0 : cfx p s m _ meth c cX7_settle none wsX7_settle RX7 6 A (dC, dI) (kT cyB cyI cyJ cyP) := ⟨hx, hb, hr, hts, hown, hlocks, hml, hA, hK, hNw⟩
  clear hAe
  obtain ⟨H, hH⟩ : ∃ H, H = s.heap := ⟨_, rfl⟩
  rw [← hH] at hP ⊢
  have hS : va_S A s.heap H [] := by rw [hH]; exact va_S.rf
  have hS := hS
  refine lv_aload_n hx hb (qaa qi1 0 rfl) rfl (lv_at hl 1 rfl) ?_
  refine va_get (D := (dC, dI)) (ci := 1) (v := .ref jjN) (C := RX1) (T := TX1) (N := 4) hx hb hts q3N hown hK hP 1 rfl rfl 2 (by decide) (hts _ qYN) (fun _ h9 => h9) rfl (qaa qi1 1 rfl) ?_
  refine va_get (D := (dC, dI)) (ci := 2) (v := .int jh5) (C := RX2) (T := TX2) (N := 12) hx hb hts q4q hown hK hP 2 rfl rfl 9 (by decide) (hts _ qaue) (fun _ h9 => h9) rfl (qaa qi1 2 rfl) ?_
  refine lv_istore_n (lv' := [(2, .int jh5), (0, .ref a0), (1, .ref a1)]) hx hb (qaa qi1 3 rfl) rfl hl (by decide) rfl (fun ls hl => ?_)
  refine lv_iconst (v := 1) hx hb (qaa qi1 4 rfl) (by decide) ?_
  refine lv_aload_n hx hb (qaa qi1 5 rfl) rfl (lv_at hl 2 rfl) ?_
  refine va_get (D := (dC, dI)) (ci := 1) (v := .ref jjN) (C := RX1) (T := TX1) (N := 4) hx hb hts q3N hown hK hP 1 rfl rfl 2 (by decide) (hts _ qYN) (fun _ h9 => h9) rfl (qaa qi1 6 rfl) ?_
  refine va_get (D := (dC, dI)) (ci := 2) (v := .int jjm) (C := RX2) (T := TX2) (N := 12) hx hb hts q4q hown hK hP 2 rfl rfl 8 (by decide) (hts _ qari) (fun _ h9 => h9) rfl (qaa qi1 7 rfl) ?_
  refine lv_ishl hx hb (qaa qi1 8 rfl) ?_
  refine lv_topi (fun x1 ex1 => ?_)
  have hw := hw x1 ex1
  refine lv_istore_n (lv' := [(3, .int x1), (2, .int jh5), (0, .ref a0), (1, .ref a1)]) hx hb (qaa qi1 9 rfl) rfl hl (by decide) rfl (fun ls hl => ?_)
  refine lv_iconst (v := 0) hx hb (qaa qi1 10 rfl) (by decide) ?_
  refine lv_istore (lv' := [(4, .int 0), (3, .int x1), (2, .int jh5), (0, .ref a0), (1, .ref a1)]) hx hb (qaa qi1 11 rfl) hl (by decide) rfl (fun ls hl => ?_)
  obtain ⟨n9, hw⟩ := hw
  exact qavp dC dI cyB cyI cyJ cyP a0 a1 jjN jkI jjz jmd jjO jlL jjL jj7 jjM jjw jjs jjt jjP jky jkz jkA jkX jkd jkB jke jjm jh5 jkF jkO jka jkx jkb jkl jkm Q C0 n9 _ _ _ jk7 jm9 jmq jkt jkS jj2 jh5 x1 0 hP hD hS (lv_sub hl [3, 4, 2, 1, 0] rfl) hw
theorem qPP : ∀ w ∈ u_ws RX10 TX10 19, w ∈ wsX10_seat := uiM qCX qyN (by decide +kernel)
theorem qaHw : ∀ w ∈ u_ws RX7 TX7 4, w ∈ wsX10_seat := uiM qCX euX7 (by decide +kernel)
theorem qatg : (.fieldLink RX10 313 "MarchHares$Seating" "given" "[I" : Cond) ∈ wsX10_seat := qCX 3210 (by decide +kernel)
theorem qaEm : (.fieldLink RX10 58 "MarchHares" "now" "LMarchHares$Days;" : Cond) ∈ wsX10_seat := qCX 79 (by decide +kernel)
theorem q2Z : (.fieldLink RX10 86 "MarchHares" "seating" "LMarchHares$Seating;" : Cond) ∈ wsX10_seat := qCX 133 (by decide +kernel)
set_option maxHeartbeats 4000000 in
set_option maxRecDepth 100000 in
theorem qaXb (l : Launch) (dC : Nat → ClassId) (dI : Nat → Nat → Nat) (cyB cyI cyJ cyP : ClassId) (a0 jaR jl6 jaT jlM jlk jlC jbb jb6 jcc jcl jbW jbL jbs jbt sz : Nat) (jaK ja1 jcp jbc jbV ja3 jbH jbO jaq jac jbI jbn jba jaa jdD jbo jbp jbk jbj jbf jbq jbi jbr : Value) (jbE jbm jdB : Int32) (jbQ : NI) (jdh : Int32) (jdN jdi jci jcj : NI) (jdu : Int32) (jnk : NI) (jmQ : Int32) (jm7 jfl jfM jmL : NI) (p1 : Int32) {E : String → Int32 → NI → Int32 → NI → NI → NI → NI → Prop} {Q : Int32 → Int32 → NI → Int32 → NI → NI → NI → NI → Prop} (hw : qab4 jbE jbm jdB jbQ jdh jdN jdi jci jcj jdu jnk jmQ jm7 jfl jfM jmL p1 E Q) : vx_Met l yX10_seat wsX10_seat ({ frames := 7, cells := 1, slots := 6, locals := 146 }) (va_Pc [.ref a0, .int p1] (cPx l (dC, dI) (kT cyB cyI cyJ cyP) (qJ7 a0 jaK jaR ja1 jcp jbc jbV ja3 jbH jaT jbO jaq jac jbI jl6 jbn jba jaa jdu jdD jaR jbs jbt jbo jbp jbk jbj jbf jbq jbE jbm jbi jdB jl6 jlM jlk jlC jmQ jaT jbb jbr jaR jb6 jlM cyI jnk jlk cyI jmL jlC cyI jm7 jbb cyI jbQ jb6 jbW jbL jcl jcc jdh jcc cyI jfl jcl cyI jfM jbW cyI jdN jbL cyI jdi jbs cyI jci jbt cyI jcj) sz)) (va_Qi (fun (r : Int32) (u : Int32 × NI × Int32 × NI × NI × NI × NI) => Q r u.1 u.2.1 u.2.2.1 u.2.2.2.1 u.2.2.2.2.1 u.2.2.2.2.2.1 u.2.2.2.2.2.2) (cB (dC, dI) (kT cyB cyI cyJ cyP) (va_A (qJ7 a0 jaK jaR ja1 jcp jbc jbV ja3 jbH jaT jbO jaq jac jbI jl6 jbn jba jaa jdu jdD jaR jbs jbt jbo jbp jbk jbj jbf jbq jbE jbm jbi jdB jl6 jlM jlk jlC jmQ jaT jbb jbr jaR jb6 jlM cyI jnk jlk cyI jmL jlC cyI jm7 jbb cyI jbQ jb6 jbW jbL jcl jcc jdh jcc cyI jfl jcl cyI jfM jbW cyI jdN jbL cyI jdi jbs cyI jci jbt cyI jcj) sz) (fun u : Int32 × NI × Int32 × NI × NI × NI × NI => ((qJ7 a0 jaK jaR ja1 jcp jbc jbV ja3 jbH jaT jbO jaq jac jbI jl6 jbn jba jaa u.1 jdD jaR jbs jbt jbo jbp jbk jbj jbf jbq jbE jbm jbi jdB jl6 jlM jlk jlC u.2.2.1 jaT jbb jbr jaR jb6 jlM cyI u.2.1 jlk cyI u.2.2.2.2.2.2 jlC cyI u.2.2.2.1 jbb cyI jbQ jb6 jbW jbL jcl jcc jdh jcc cyI u.2.2.2.2.1 jcl cyI u.2.2.2.2.2.1 jbW cyI jdN jbL cyI jdi jbs cyI jci jbt cyI jcj) : va_W))) (va_A (qJ7 a0 jaK jaR ja1 jcp jbc jbV ja3 jbH jaT jbO jaq jac jbI jl6 jbn jba jaa jdu jdD jaR jbs jbt jbo jbp jbk jbj jbf jbq jbE jbm jbi jdB jl6 jlM jlk jlC jmQ jaT jbb jbr jaR jb6 jlM cyI jnk jlk cyI jmL jlC cyI jm7 jbb cyI jbQ jb6 jbW jbL jcl jcc jdh jcc cyI jfl jcl cyI jfM jbW cyI jdN jbL cyI jdi jbs cyI jci jbt cyI jcj) sz)) (vx_X (fun _ => True) (fun (en : String) (u : Int32 × NI × Int32 × NI × NI × NI × NI) (t : State) => E en u.1 u.2.1 u.2.2.1 u.2.2.2.1 u.2.2.2.2.1 u.2.2.2.2.2.1 u.2.2.2.2.2.2 ∧ cB (dC, dI) (kT cyB cyI cyJ cyP) (va_A (qJ7 a0 jaK jaR ja1 jcp jbc jbV ja3 jbH jaT jbO jaq jac jbI jl6 jbn jba jaa jdu jdD jaR jbs jbt jbo jbp jbk jbj jbf jbq jbE jbm jbi jdB jl6 jlM jlk jlC jmQ jaT jbb jbr jaR jb6 jlM cyI jnk jlk cyI jmL jlC cyI jm7 jbb cyI jbQ jb6 jbW jbL jcl jcc jdh jcc cyI jfl jcl cyI jfM jbW cyI jdN jbL cyI jdi jbs cyI jci jbt cyI jcj) sz) (fun u : Int32 × NI × Int32 × NI × NI × NI × NI => ((qJ7 a0 jaK jaR ja1 jcp jbc jbV ja3 jbH jaT jbO jaq jac jbI jl6 jbn jba jaa u.1 jdD jaR jbs jbt jbo jbp jbk jbj jbf jbq jbE jbm jbi jdB jl6 jlM jlk jlC u.2.2.1 jaT jbb jbr jaR jb6 jlM cyI u.2.1 jlk cyI u.2.2.2.2.2.2 jlC cyI u.2.2.2.1 jbb cyI jbQ jb6 jbW jbL jcl jcc jdh jcc cyI u.2.2.2.2.1 jcl cyI u.2.2.2.2.2.1 jbW cyI jdN jbL cyI jdi jbs cyI jci jbt cyI jcj) : va_W)) u t) (va_A (qJ7 a0 jaK jaR ja1 jcp jbc jbV ja3 jbH jaT jbO jaq jac jbI jl6 jbn jba jaa jdu jdD jaR jbs jbt jbo jbp jbk jbj jbf jbq jbE jbm jbi jdB jl6 jlM jlk jlC jmQ jaT jbb jbr jaR jb6 jlM cyI jnk jlk cyI jmL jlC cyI jm7 jbb cyI jbQ jb6 jbW jbL jcl jcc jdh jcc cyI jfl jcl cyI jfM jbW cyI jdN jbL cyI jdi jbs cyI jci jbt cyI jcj) sz)) 1 6 (va_A (qJ7 a0 jaK jaR ja1 jcp jbc jbV ja3 jbH jaT jbO jaq jac jbI jl6 jbn jba jaa jdu jdD jaR jbs jbt jbo jbp jbk jbj jbf jbq jbE jbm jbi jdB jl6 jlM jlk jlC jmQ jaT jbb jbr jaR jb6 jlM cyI jnk jlk cyI jmL jlC cyI jm7 jbb cyI jbQ jb6 jbW jbL jcl jcc jdh jcc cyI jfl jcl cyI jfM jbW cyI jdN jbL cyI jdi jbs cyI jci jbt cyI jcj) sz) := by
  refine vx_ofW (cc := cX10_seat) (maxL := 2) (ret := (some .int)) (by decide) rfl ?_
  intro p e s m args below meth c s₁ B hml hnt hv
  obtain ⟨rfl, hsz, hP, hK, hD0, hNw, hXl, hXu, hXn, hXt⟩ := hv
  have hx := B.exec
  have hb := B.bytes
  have hr := B.returns
  have hts := atoms_spec (ws := wsX10_seat) B.pre
  have hown : s.vm.findClass RX10 = some m.cls := findClass_of_methodNamed B.named
  have hlocks := B.notSynchronized
  subst hsz
  have hD := hD0.self (sz := s.heap.size)
  generalize hAe : va_A (qJ7 a0 jaK jaR ja1 jcp jbc jbV ja3 jbH jaT jbO jaq jac jbI jl6 jbn jba jaa jdu jdD jaR jbs jbt jbo jbp jbk jbj jbf jbq jbE jbm jbi jdB jl6 jlM jlk jlC jmQ jaT jbb jbr jaR jb6 jlM cyI jnk jlk cyI jmL jlC cyI jm7 jbb cyI jbQ jb6 jbW jbL jcl jcc jdh jcc cyI jfl jcl cyI jfM jbW cyI jdN jbL cyI jdi jbs cyI jci jbt cyI jcj) s.heap.size = A at hD hXu hXn ⊢
  have hA : ∀ q : Nat, s.heap.size ≤ q → A q := fun q h => by rw [← hAe]; exact Or.inr h
  have hS : va_S A s.heap s.heap [] := va_S.rf
  have hP : va_P (dC, dI) vwCl (qJ7 a0 jaK jaR ja1 jcp jbc jbV ja3 jbH jaT jbO jaq jac jbI jl6 jbn jba jaa jdu jdD jaR jbs jbt jbo jbp jbk jbj jbf jbq jbE jbm jbi jdB jl6 jlM jlk jlC jmQ jaT jbb jbr jaR jb6 jlM cyI jnk jlk cyI jmL jlC cyI jm7 jbb cyI jbQ jb6 jbW jbL jcl jcc jdh jcc cyI jfl jcl cyI jfM jbW cyI jdN jbL cyI jdi jbs cyI jci jbt cyI jcj) s.heap := hP
  have hl := lv_entry ([.ref a0, .int p1]) (n := 2) (nbq rfl)
  rw [lg_entry_eq]
  generalize (lg_sl ([.ref a0, .int p1]) ++ List.replicate (2 - (lg_sl ([.ref a0, .int p1])).length) Slot.unset).toArray = ls at hl ⊢
  have hl : lv_has ls 2 [(0, .ref a0), (1, .int p1)] := hl
  have hY : cfY l s A := ⟨hXl, hXu, hXn, hXt⟩
  have hXs : cfX l s c A := ⟨hnt, hY⟩
  have C0 : cfx p s m _ meth c cX10_seat (some .int) wsX10_seat RX10 2 A (dC, dI) (kT cyB cyI cyJ cyP) ∧ cfX l s c A := ⟨⟨hx, hb, hr, hts, hown, hlocks, hml, hA, hK, hNw⟩, hXs⟩
  clear hAe
  obtain ⟨H, hH⟩ : ∃ H, H = s.heap := ⟨_, rfl⟩
  rw [← hH] at hP ⊢
  have hS : va_S A s.heap H [] := by rw [hH]; exact va_S.rf
  have hS := hS
  refine lv_aload_n hx hb (qaa qoW 0 rfl) rfl (lv_at hl 0 rfl) ?_
  refine lv_iload_n hx hb (qaa qoW 1 rfl) rfl (lv_at hl 1 rfl) ?_
  obtain ⟨hCc, hPc, hDc, hFc⟩ := qac (ws' := (qaXa a0 jaK jaR ja1 jcp jbc jbV ja3 jbH jaT jbO jaq jac jbI jl6 jbn jba jaa jdu jdD jaR jbs jbt jbo jbp jbk jbj jbf jbq jbE jbm jbi jdB)) hP hD hS hA [0, 1] (by decide +kernel) rfl
  refine vx_callv (vx_runV (As := [.int p1]) (rest := []) ⟨hx, hb, hml, hown, hts⟩ (qqu l dC dI cyB cyI cyJ cyP a0 jaR H.size (jaK) (ja1) (jcp) (jbc) (jbV) (ja3) (jbH) (.ref jaT) (jbO) (jaq) (jac) (jbI) (.ref jl6) (jbn) (jba) (jaa) (jdD) (.ref jbs) (.ref jbt) (jbo) (jbp) (jbk) (jbj) (jbf) (jbq) (.int jbE) (jbi) (.int jdB) jbm jdu p1 hw) (cwV 1 hts gX10_seat_X10_needHare rfl rfl rfl (by decide +kernel) ⟨nbq rfl, nbq rfl⟩) ⟨qav, va_recv (q := (RX10, TX10, 19)) hK hPc (ci := 10) (q0 := 0) rfl rfl, qbl hPc hK hDc hNw hY hS hFc⟩ rfl rfl hl.1 rfl (lv_room (nbq rfl)) (qaa qoW 2 rfl) ⟨nbq rfl, nbq rfl⟩) hS (fun q _ h => hFc q h) hFc (fun q _ h => hFc q h) (fun en ce q9 u t H1 locs ht hvm hpx hB hz1 hk1 hS hc9 hv9 hcl9 => ?_) (fun u t H1 locs ht hvm hw hB hz1 hk1 hS => ?_)
  · obtain ⟨x1, rfl⟩ : ∃ z, z = u := ⟨_, rfl⟩
    obtain ⟨hw, hP1, hK1, hD1⟩ := hB
    rw [ht] at hP1
    obtain ⟨hP, hD⟩ := qad (wr := (qa8T jl6 jlM jlk jlC jmQ jaT jbb jbr jaR jb6 jlM cyI jnk jlk cyI jmL jlC cyI jm7 jbb cyI jbQ jb6 jbW jbL jcl jcc jdh jcc cyI jfl jcl cyI jfM jbW cyI jdN jbL cyI jdi jbs cyI jci jbt cyI jcj)) (w1 := (qaXa a0 jaK jaR ja1 jcp jbc jbV ja3 jbH jaT jbO jaq jac jbI jl6 jbn jba jaa x1 jdD jaR jbs jbt jbo jbp jbk jbj jbf jbq jbE jbm jbi jdB)) (wn := (qJ7 a0 jaK jaR ja1 jcp jbc jbV ja3 jbH jaT jbO jaq jac jbI jl6 jbn jba jaa x1 jdD jaR jbs jbt jbo jbp jbk jbj jbf jbq jbE jbm jbi jdB jl6 jlM jlk jlC jmQ jaT jbb jbr jaR jb6 jlM cyI jnk jlk cyI jmL jlC cyI jm7 jbb cyI jbQ jb6 jbW jbL jcl jcc jdh jcc cyI jfl jcl cyI jfM jbW cyI jdN jbL cyI jdi jbs cyI jci jbt cyI jcj)) hP hD [0, 1] [2, 3, 4, 5, 6, 7, 8, 9, 10, 11, 12, 13, 14] [13, 14, 0, 1, 2, 3, 4, 5, 6, 7, 8, 9, 10, 11, 12] hCc rfl (by decide +kernel) (by decide +kernel) (by decide +kernel) rfl hk1 hFc hP1 hD1
    generalize H1 = H at hP hS hc9 ⊢
    exact vx_out (fun x hx9 => (hXs.1 x hx9).elim) hlocks hc9 hv9 hcl9 (fun t2 ht2 hal2 => ⟨(x1, jnk, jmQ, jm7, jfl, jfM, jmL), trivial, ⟨hw, by rw [ht2]; exact hP, va_K.moved hal2 hK, hD⟩, hS.F ht2⟩) hS.2.2 (nbq rfl) (nbq rfl)
  obtain ⟨x1, rfl⟩ : ∃ z, z = u := ⟨_, rfl⟩
  obtain ⟨hP1, hK1, hD1⟩ := hB
  rw [ht] at hP1
  obtain ⟨hP, hD⟩ := qad (wr := (qa8T jl6 jlM jlk jlC jmQ jaT jbb jbr jaR jb6 jlM cyI jnk jlk cyI jmL jlC cyI jm7 jbb cyI jbQ jb6 jbW jbL jcl jcc jdh jcc cyI jfl jcl cyI jfM jbW cyI jdN jbL cyI jdi jbs cyI jci jbt cyI jcj)) (w1 := (qaXa a0 jaK jaR ja1 jcp jbc jbV ja3 jbH jaT jbO jaq jac jbI jl6 jbn jba jaa x1 jdD jaR jbs jbt jbo jbp jbk jbj jbf jbq jbE jbm jbi jdB)) (wn := (qJ7 a0 jaK jaR ja1 jcp jbc jbV ja3 jbH jaT jbO jaq jac jbI jl6 jbn jba jaa x1 jdD jaR jbs jbt jbo jbp jbk jbj jbf jbq jbE jbm jbi jdB jl6 jlM jlk jlC jmQ jaT jbb jbr jaR jb6 jlM cyI jnk jlk cyI jmL jlC cyI jm7 jbb cyI jbQ jb6 jbW jbL jcl jcc jdh jcc cyI jfl jcl cyI jfM jbW cyI jdN jbL cyI jdi jbs cyI jci jbt cyI jcj)) hP hD [0, 1] [2, 3, 4, 5, 6, 7, 8, 9, 10, 11, 12, 13, 14] [13, 14, 0, 1, 2, 3, 4, 5, 6, 7, 8, 9, 10, 11, 12] hCc rfl (by decide +kernel) (by decide +kernel) (by decide +kernel) rfl hk1 hFc hP1 hD1
  generalize H1 = H at hP hS ⊢
  refine lv_aload_n hx hb (qaa qoW 3 rfl) rfl (lv_at hl 0 rfl) ?_
  refine va_get (D := (dC, dI)) (ci := 10) (v := .ref jl6) (C := RX10) (T := TX10) (N := 19) hx hb hts qPP hown hK hP 0 rfl rfl 13 (by decide) (hts _ q2Z) (fun _ h9 => h9) rfl (qaa qoW 4 rfl) ?_
  refine lv_aload_n hx hb (qaa qoW 5 rfl) rfl (lv_at hl 0 rfl) ?_
  refine va_get (D := (dC, dI)) (ci := 10) (v := .ref jaT) (C := RX10) (T := TX10) (N := 19) hx hb hts qPP hown hK hP 0 rfl rfl 8 (by decide) (hts _ qaEm) (fun _ h9 => h9) rfl (qaa qoW 6 rfl) ?_
  obtain ⟨hCc, hPc, hDc, hFc⟩ := qac (ws' := (qqI jl6 jlM jlk jlC jmQ jaT jbb jbr jaR jb6 jaR jbs jbt jbo jbp jbk jbj jbf jbq jbE jbm jbi jdB jlM cyI jnk jlk cyI jmL jlC cyI jm7 jbb cyI jbQ jb6 jbW jbL jcl jcc jdh jcc cyI jfl jcl cyI jfM jbW cyI jdN jbL cyI jdi jbs cyI jci jbt cyI jcj)) hP hD hS hA [2, 3, 1, 4, 5, 6, 7, 8, 9, 10, 11, 12, 13, 14] (by decide +kernel) rfl
  refine va_callv (va_runV (As := [.ref jaT]) (rest := []) ⟨hx, hb, hml, hown, hts⟩ (qaob l dC dI cyB cyI cyJ cyP jl6 jaT jaR jlM jlk jlC jbb jb6 jcc jcl jbW jbL jbs jbt H.size (jbr) (jbo) (jbp) (jbk) (jbj) (jbf) (jbq) (jbi) jbE jbm jdB jbQ jdh jdN jdi jci jcj jnk jmQ jm7 jfl jfM jmL hw) (cwV 1 hts gX10_seat_X7_settle rfl rfl rfl (by decide +kernel) ⟨nbq rfl, nbq rfl⟩) ⟨qab, va_recv (q := (RX7, TX7, 4)) hK hPc (ci := 7) (q0 := 0) rfl rfl, qae hPc hK hDc hNw⟩ rfl rfl hl.1 rfl (lv_room (nbq rfl)) (qaa qoW 7 rfl) ⟨nbq rfl, nbq rfl⟩) hS (fun q _ h => hFc q h) hFc (fun u t H1 locs ht hvm hw hB hz1 hk1 hS => ?_)
  obtain ⟨f2, x3, f4, f5, f6, f7⟩ := u
  obtain ⟨hP1, hK1, hD1⟩ := hB
  rw [ht] at hP1
  obtain ⟨hP, hD⟩ := qad (wr := [(a0, .inr (10, [jaK, .ref jaR, ja1, jcp, jbc, jbV, ja3, jbH, .ref jaT, jbO, jaq, jac, jbI, .ref jl6, jbn, jba, jaa, .int x1, jdD]))]) (w1 := (qqI jl6 jlM jlk jlC x3 jaT jbb jbr jaR jb6 jaR jbs jbt jbo jbp jbk jbj jbf jbq jbE jbm jbi jdB jlM cyI f2 jlk cyI f7 jlC cyI f4 jbb cyI jbQ jb6 jbW jbL jcl jcc jdh jcc cyI f5 jcl cyI f6 jbW cyI jdN jbL cyI jdi jbs cyI jci jbt cyI jcj)) (wn := (qJ7 a0 jaK jaR ja1 jcp jbc jbV ja3 jbH jaT jbO jaq jac jbI jl6 jbn jba jaa x1 jdD jaR jbs jbt jbo jbp jbk jbj jbf jbq jbE jbm jbi jdB jl6 jlM jlk jlC x3 jaT jbb jbr jaR jb6 jlM cyI f2 jlk cyI f7 jlC cyI f4 jbb cyI jbQ jb6 jbW jbL jcl jcc jdh jcc cyI f5 jcl cyI f6 jbW cyI jdN jbL cyI jdi jbs cyI jci jbt cyI jcj)) hP hD [2, 3, 1, 4, 5, 6, 7, 8, 9, 10, 11, 12, 13, 14] [0] [0, 3, 1, 2, 4, 5, 6, 7, 8, 9, 10, 11, 12, 13, 14] hCc rfl (by decide +kernel) (by decide +kernel) (by decide +kernel) rfl hk1 hFc hP1 hD1
  generalize H1 = H at hP hS ⊢
  refine lv_aload_n hx hb (qaa qoW 8 rfl) rfl (lv_at hl 0 rfl) ?_
  refine va_get (D := (dC, dI)) (ci := 10) (v := .ref jl6) (C := RX10) (T := TX10) (N := 19) hx hb hts qPP hown hK hP 0 rfl rfl 13 (by decide) (hts _ q2Z) (fun _ h9 => h9) rfl (qaa qoW 9 rfl) ?_
  refine va_get (D := (dC, dI)) (ci := 7) (v := .ref jlC) (C := RX7) (T := TX7) (N := 4) hx hb hts qaHw hown hK hP 2 rfl rfl 2 (by decide) (hts _ qatg) (fun _ h9 => h9) rfl (qaa qoW 10 rfl) ?_
  refine lv_iload_n hx hb (qaa qoW 11 rfl) rfl (lv_at hl 1 rfl) ?_
  obtain ⟨hi9, hw⟩ := hw
  refine va_iald hx hb hK hP 6 1 rfl rfl hi9 (qaa qoW 12 rfl) ?_
  refine lv_topi (fun x8 ex8 => ?_)
  have hw := hw x8 ex8
  exact vx_ret (W.widen (k := 1) (n := 6) (nbq rfl) (nbq rfl) (W.iret (v := x8) hx hb hr (fun t ht hW => ⟨⟨x8, (x1, f2, x3, f4, f5, f6, f7), rfl, hw, by rw [ht]; exact hP, va_K.moved hW.alike hK, hD⟩, hS.F ht⟩) hS.2.2 (qaa qoW 13 rfl)))
theorem qaHT : (.classLink RL 31 "java/util/NoSuchElementException" : Cond) ∈ wsL_seat := qau5 2639 (by decide +kernel)
theorem qaVE : (.codeWith yL_seat cL_seat 4 (some .int) [(0, 9, 12, 31)] : Cond) ∈ wsL_seat := qau5 3205 (by decide +kernel)
set_option maxHeartbeats 4000000 in
set_option maxRecDepth 100000 in
theorem qa8H (l : Launch) (dC : Nat → ClassId) (dI : Nat → Nat → Nat) (cyB cyI cyJ cyP : ClassId) (a0 a2 jaR jl6 jaT jlM jlk jlC jbb jb6 jcc jcl jbW jbL jbs jbt sz : Nat) (jaK ja1 jbc jbV ja3 jbH jbO jaq jac jbI jbn jba jaa jdD jbo jbp jbk jbj jbf jbq jbi jbr : Value) (n2 : Nat) (jbE jbm jdB : Int32) (jbQ : NI) (jdh : Int32) (jdN jdi jci jcj : NI) (jdu : Int32) (jnk : NI) (jmQ : Int32) (jm7 jfl jfM jmL : NI) (f2 : Nat → Int64) (p1 : Int32) {Q : Int32 → Int32 → NI → Int32 → NI → NI → NI → NI → (Nat → Int64) → Prop} (hw : qaUl n2 jbE jbm jdB jbQ jdh jdN jdi jci jcj jdu jnk jmQ jm7 jfl jfM jmL f2 p1 Q) : Met l yL_seat wsL_seat ({ frames := 8, cells := 1, slots := 6, locals := 167 }) (va_Pc [.ref a0, .int p1, .ref a2] (cPx l (dC, dI) (kT cyB cyI cyJ cyP) (qNd a0 jaK jaR ja1 jb6 jbc jbV ja3 jbH jaT jbO jaq jac jbI jl6 jbn jba jaa jdu jdD jaR jbs jbt jbo jbp jbk jbj jbf jbq jbE jbm jbi jdB jl6 jlM jlk jlC jmQ jaT jbb jbr jaR jb6 jlM cyI jnk jlk cyI jmL jlC cyI jm7 jbb cyI jbQ jb6 jbW jbL jcl jcc jdh jcc cyI jfl jcl cyI jfM jbW cyI jdN jbL cyI jdi jbs cyI jci jbt cyI jcj a2 cyJ n2 f2) sz)) (va_Qi (fun (r : Int32) (u : Int32 × NI × Int32 × NI × NI × NI × NI × (Nat → Int64)) => Q r u.1 u.2.1 u.2.2.1 u.2.2.2.1 u.2.2.2.2.1 u.2.2.2.2.2.1 u.2.2.2.2.2.2.1 u.2.2.2.2.2.2.2) (cB (dC, dI) (kT cyB cyI cyJ cyP) (va_A (qNd a0 jaK jaR ja1 jb6 jbc jbV ja3 jbH jaT jbO jaq jac jbI jl6 jbn jba jaa jdu jdD jaR jbs jbt jbo jbp jbk jbj jbf jbq jbE jbm jbi jdB jl6 jlM jlk jlC jmQ jaT jbb jbr jaR jb6 jlM cyI jnk jlk cyI jmL jlC cyI jm7 jbb cyI jbQ jb6 jbW jbL jcl jcc jdh jcc cyI jfl jcl cyI jfM jbW cyI jdN jbL cyI jdi jbs cyI jci jbt cyI jcj a2 cyJ n2 f2) sz) (fun u : Int32 × NI × Int32 × NI × NI × NI × NI × (Nat → Int64) => ((qNd a0 jaK jaR ja1 jb6 jbc jbV ja3 jbH jaT jbO jaq jac jbI jl6 jbn jba jaa u.1 jdD jaR jbs jbt jbo jbp jbk jbj jbf jbq jbE jbm jbi jdB jl6 jlM jlk jlC u.2.2.1 jaT jbb jbr jaR jb6 jlM cyI u.2.1 jlk cyI u.2.2.2.2.2.2.1 jlC cyI u.2.2.2.1 jbb cyI jbQ jb6 jbW jbL jcl jcc jdh jcc cyI u.2.2.2.2.1 jcl cyI u.2.2.2.2.2.1 jbW cyI jdN jbL cyI jdi jbs cyI jci jbt cyI jcj a2 cyJ n2 u.2.2.2.2.2.2.2) : va_W))) (va_A (qNd a0 jaK jaR ja1 jb6 jbc jbV ja3 jbH jaT jbO jaq jac jbI jl6 jbn jba jaa jdu jdD jaR jbs jbt jbo jbp jbk jbj jbf jbq jbE jbm jbi jdB jl6 jlM jlk jlC jmQ jaT jbb jbr jaR jb6 jlM cyI jnk jlk cyI jmL jlC cyI jm7 jbb cyI jbQ jb6 jbW jbL jcl jcc jdh jcc cyI jfl jcl cyI jfM jbW cyI jdN jbL cyI jdi jbs cyI jci jbt cyI jcj a2 cyJ n2 f2) sz)) 1 6 (va_A (qNd a0 jaK jaR ja1 jb6 jbc jbV ja3 jbH jaT jbO jaq jac jbI jl6 jbn jba jaa jdu jdD jaR jbs jbt jbo jbp jbk jbj jbf jbq jbE jbm jbi jdB jl6 jlM jlk jlC jmQ jaT jbb jbr jaR jb6 jlM cyI jnk jlk cyI jmL jlC cyI jm7 jbb cyI jbQ jb6 jbW jbL jcl jcc jdh jcc cyI jfl jcl cyI jfM jbW cyI jdN jbL cyI jdi jbs cyI jci jbt cyI jcj a2 cyJ n2 f2) sz) := by
  refine va_MetW (cc := cL_seat) (maxL := 4) (ret := (some .int)) (by decide) rfl ?_
  intro p e s m args below meth c s₁ B hml hv
  obtain ⟨rfl, hsz, hP, hK, hD0, hNw, hXl, hXu, hXn, hXt⟩ := hv
  have hx := B.exec
  have hb := B.bytes
  have hr := B.returns
  have hts := atoms_spec (ws := wsL_seat) B.pre
  have hown : s.vm.findClass RL = some m.cls := findClass_of_methodNamed B.named
  have hlocks := B.notSynchronized
  subst hsz
  have hD := hD0.self (sz := s.heap.size)
  generalize hAe : va_A (qNd a0 jaK jaR ja1 jb6 jbc jbV ja3 jbH jaT jbO jaq jac jbI jl6 jbn jba jaa jdu jdD jaR jbs jbt jbo jbp jbk jbj jbf jbq jbE jbm jbi jdB jl6 jlM jlk jlC jmQ jaT jbb jbr jaR jb6 jlM cyI jnk jlk cyI jmL jlC cyI jm7 jbb cyI jbQ jb6 jbW jbL jcl jcc jdh jcc cyI jfl jcl cyI jfM jbW cyI jdN jbL cyI jdi jbs cyI jci jbt cyI jcj a2 cyJ n2 f2) s.heap.size = A at hD hXu hXn ⊢
  have hA : ∀ q : Nat, s.heap.size ≤ q → A q := fun q h => by rw [← hAe]; exact Or.inr h
  have hS : va_S A s.heap s.heap [] := va_S.rf
  have hP : va_P (dC, dI) vwCl (qNd a0 jaK jaR ja1 jb6 jbc jbV ja3 jbH jaT jbO jaq jac jbI jl6 jbn jba jaa jdu jdD jaR jbs jbt jbo jbp jbk jbj jbf jbq jbE jbm jbi jdB jl6 jlM jlk jlC jmQ jaT jbb jbr jaR jb6 jlM cyI jnk jlk cyI jmL jlC cyI jm7 jbb cyI jbQ jb6 jbW jbL jcl jcc jdh jcc cyI jfl jcl cyI jfM jbW cyI jdN jbL cyI jdi jbs cyI jci jbt cyI jcj a2 cyJ n2 f2) s.heap := hP
  have hl := lv_entry ([.ref a0, .int p1, .ref a2]) (n := 4) (nbq rfl)
  rw [lg_entry_eq]
  generalize (lg_sl ([.ref a0, .int p1, .ref a2]) ++ List.replicate (4 - (lg_sl ([.ref a0, .int p1, .ref a2])).length) Slot.unset).toArray = ls at hl ⊢
  have hl : lv_has ls 4 [(0, .ref a0), (1, .int p1), (2, .ref a2)] := hl
  have hY : cfY l s A := ⟨hXl, hXu, hXn, hXt⟩
  have hTb := vx_table (x := yL_seat) B (hts _ qaVE)
  clear hAe
  obtain ⟨H, hH⟩ : ∃ H, H = s.heap := ⟨_, rfl⟩
  rw [← hH] at hP ⊢
  have hS : va_S A s.heap H [] := by rw [hH]; exact va_S.rf
  have hS := hS
  refine lv_aload_n hx hb (qaa qtl 0 rfl) rfl (lv_at hl 2 rfl) ?_
  refine lv_iconst (v := 0) hx hb (qaa qtl 1 rfl) (by decide) ?_
  refine lv_aload_n hx hb (qaa qtl 2 rfl) rfl (lv_at hl 0 rfl) ?_
  refine lv_iload_n hx hb (qaa qtl 3 rfl) rfl (lv_at hl 1 rfl) ?_
  obtain ⟨hCc, hPc, hDc, hFc⟩ := qac (ws' := (qaYi a0 jaK jaR ja1 jb6 jbc jbV ja3 jbH jaT jbO jaq jac jbI jl6 jbn jba jaa jdu jdD jaR jbs jbt jbo jbp jbk jbj jbf jbq jbE jbm jbi jdB jl6 jlM jlk jlC jmQ jaT jbb jbr jaR jb6 jlM cyI jnk jlk cyI jmL jlC cyI jm7 jbb cyI jbQ jb6 jbW jbL jcl jcc jdh jcc cyI jfl jcl cyI jfM jbW cyI jdN jbL cyI jdi jbs cyI jci jbt cyI jcj)) hP hD hS hA [0, 1, 2, 3, 4, 5, 6, 7, 8, 9, 10, 11, 12, 13, 14] (by decide +kernel) rfl
  refine vx_calli (vx_runV (As := [.int p1]) (rest := [.int 0, .ref a2]) ⟨hx, hb, hml, hown, hts⟩ (qaXb l dC dI cyB cyI cyJ cyP a0 jaR jl6 jaT jlM jlk jlC jbb jb6 jcc jcl jbW jbL jbs jbt H.size (jaK) (ja1) (.ref jb6) (jbc) (jbV) (ja3) (jbH) (jbO) (jaq) (jac) (jbI) (jbn) (jba) (jaa) (jdD) (jbo) (jbp) (jbk) (jbj) (jbf) (jbq) (jbi) (jbr) jbE jbm jdB jbQ jdh jdN jdi jci jcj jdu jnk jmQ jm7 jfl jfM jmL p1 hw) (cwV 1 hts gL_seat_X10_seat rfl rfl rfl (by decide +kernel) ⟨nbq rfl, nbq rfl⟩) ⟨qav, va_recv (q := (RX10, TX10, 19)) hK hPc (ci := 10) (q0 := 0) rfl rfl, qbl hPc hK hDc hNw hY hS hFc⟩ rfl rfl hl.1 rfl (lv_room (nbq rfl)) (qaa qtl 4 rfl) ⟨nbq rfl, nbq rfl⟩) hS (fun q _ h => hFc q h) hFc (fun q _ h => hFc q h) (fun en ce qx9 u t H1 locs ht hvm hpx hB hz1 hk1 hS hc9 hv9 hcl9 => ?_) (fun r9 u t H1 locs ht hvm hw hB hz1 hk1 hS => ?_)
  · obtain ⟨x1, f3, x4, f5, f6, f7, f8⟩ := u
    obtain ⟨hw, hP1, hK1, hD1⟩ := hB
    rw [ht] at hP1
    obtain ⟨hP, hD⟩ := qad (wr := [(a2, .inl (cyJ, n2, .inr (.inl f2)))]) (w1 := (qaYi a0 jaK jaR ja1 jb6 jbc jbV ja3 jbH jaT jbO jaq jac jbI jl6 jbn jba jaa x1 jdD jaR jbs jbt jbo jbp jbk jbj jbf jbq jbE jbm jbi jdB jl6 jlM jlk jlC x4 jaT jbb jbr jaR jb6 jlM cyI f3 jlk cyI f8 jlC cyI f5 jbb cyI jbQ jb6 jbW jbL jcl jcc jdh jcc cyI f6 jcl cyI f7 jbW cyI jdN jbL cyI jdi jbs cyI jci jbt cyI jcj)) (wn := (qNd a0 jaK jaR ja1 jb6 jbc jbV ja3 jbH jaT jbO jaq jac jbI jl6 jbn jba jaa x1 jdD jaR jbs jbt jbo jbp jbk jbj jbf jbq jbE jbm jbi jdB jl6 jlM jlk jlC x4 jaT jbb jbr jaR jb6 jlM cyI f3 jlk cyI f8 jlC cyI f5 jbb cyI jbQ jb6 jbW jbL jcl jcc jdh jcc cyI f6 jcl cyI f7 jbW cyI jdN jbL cyI jdi jbs cyI jci jbt cyI jcj a2 cyJ n2 f2)) hP hD [0, 1, 2, 3, 4, 5, 6, 7, 8, 9, 10, 11, 12, 13, 14] [15] [1, 2, 3, 4, 5, 6, 7, 8, 9, 10, 11, 12, 13, 14, 15, 0] hCc rfl (by decide +kernel) (by decide +kernel) (by decide +kernel) rfl hk1 hFc hP1 hD1
    generalize H1 = H at hP hS hc9 ⊢
    obtain ⟨rfl, hw⟩ := hw
    refine vx_catch (own := RL) (name := "java/util/NoSuchElementException") hown [] ⟨0, 9, 12, 31⟩ [] (hTb.trans rfl) (fun z hz => nomatch hz) (by decide) (by decide) (hts _ qaHT) (va_Nw.use rfl (hY.2.2.2.1.2 _ (List.mem_of_getElem? (i := 1) rfl))) hc9 hv9 hcl9 ?_
    refine lv_astore_n (lv' := [(3, .ref qx9), (0, .ref a0), (1, .int p1), (2, .ref a2)]) hx hb (qaa qtl 8 rfl) rfl hl (by decide) rfl (fun ls hl => ?_)
    refine lv_iconst (v := 1) hx hb (qaa qtl 9 rfl) (by decide) ?_
    exact (W.widen (k := 1) (n := 6) (nbq rfl) (nbq rfl) (W.iret (v := 1) hx hb hr (fun t ht hW => ⟨⟨1, (x1, f3, x4, f5, f6, f7, f8, f2), rfl, hw, by rw [ht]; exact hP, va_K.moved hW.alike hK, hD⟩, hS.F ht⟩) hS.2.2 (qaa qtl 10 rfl)))
  obtain ⟨x1, f3, x4, f5, f6, f7, f8⟩ := u
  obtain ⟨hP1, hK1, hD1⟩ := hB
  rw [ht] at hP1
  obtain ⟨hP, hD⟩ := va_join (wr := [(a2, .inl (cyJ, n2, .inr (.inl f2)))]) (w1 := (qaYi a0 jaK jaR ja1 jb6 jbc jbV ja3 jbH jaT jbO jaq jac jbI jl6 jbn jba jaa x1 jdD jaR jbs jbt jbo jbp jbk jbj jbf jbq jbE jbm jbi jdB jl6 jlM jlk jlC x4 jaT jbb jbr jaR jb6 jlM cyI f3 jlk cyI f8 jlC cyI f5 jbb cyI jbQ jb6 jbW jbL jcl jcc jdh jcc cyI f6 jcl cyI f7 jbW cyI jdN jbL cyI jdi jbs cyI jci jbt cyI jcj)) hP hD [0, 1, 2, 3, 4, 5, 6, 7, 8, 9, 10, 11, 12, 13, 14] [15] rfl rfl (by decide) (by decide) hk1 hFc hP1 hD1
  have hP : va_P (dC, dI) vwCl (qNd a0 jaK jaR ja1 jb6 jbc jbV ja3 jbH jaT jbO jaq jac jbI jl6 jbn jba jaa x1 jdD jaR jbs jbt jbo jbp jbk jbj jbf jbq jbE jbm jbi jdB jl6 jlM jlk jlC x4 jaT jbb jbr jaR jb6 jlM cyI f3 jlk cyI f8 jlC cyI f5 jbb cyI jbQ jb6 jbW jbL jcl jcc jdh jcc cyI f6 jcl cyI f7 jbW cyI jdN jbL cyI jdi jbs cyI jci jbt cyI jcj a2 cyJ n2 f2) H1 := hP.sub [1, 2, 3, 4, 5, 6, 7, 8, 9, 10, 11, 12, 13, 14, 15, 0] rfl
  have hD : va_D A (qNd a0 jaK jaR ja1 jb6 jbc jbV ja3 jbH jaT jbO jaq jac jbI jl6 jbn jba jaa x1 jdD jaR jbs jbt jbo jbp jbk jbj jbf jbq jbE jbm jbi jdB jl6 jlM jlk jlC x4 jaT jbb jbr jaR jb6 jlM cyI f3 jlk cyI f8 jlC cyI f5 jbb cyI jbQ jb6 jbW jbL jcl jcc jdh jcc cyI f6 jcl cyI f7 jbW cyI jdN jbL cyI jdi jbs cyI jci jbt cyI jcj a2 cyJ n2 f2) := hD.sub [1, 2, 3, 4, 5, 6, 7, 8, 9, 10, 11, 12, 13, 14, 15, 0] (by decide) rfl
  generalize H1 = H at hP hS ⊢
  refine lv_i2l (v := r9.toInt64) hx hb (qaa qtl 5 rfl) rfl ?_
  refine lv_topl (fun x10 ex10 => ?_)
  have hw := hw x10 ex10
  obtain ⟨hi9, hw⟩ := hw
  refine va_last hx hb hK hP hD hS 15 2 rfl rfl hi9 (qaa qtl 6 rfl) (fun H locs hP hD hS => ?_)
  obtain ⟨f11, ef11⟩ : ∃ y : Nat → Int64, y = vp_updL f2 (0 : Int32).toNatClampNeg x10 := ⟨_, rfl⟩
  have hw := hw f11 ef11
  have hP : va_P (dC, dI) vwCl (qNd a0 jaK jaR ja1 jb6 jbc jbV ja3 jbH jaT jbO jaq jac jbI jl6 jbn jba jaa x1 jdD jaR jbs jbt jbo jbp jbk jbj jbf jbq jbE jbm jbi jdB jl6 jlM jlk jlC x4 jaT jbb jbr jaR jb6 jlM cyI f3 jlk cyI f8 jlC cyI f5 jbb cyI jbQ jb6 jbW jbL jcl jcc jdh jcc cyI f6 jcl cyI f7 jbW cyI jdN jbL cyI jdi jbs cyI jci jbt cyI jcj a2 cyJ n2 f11) H := by rw [ef11]; exact hP
  have hD : va_D A (qNd a0 jaK jaR ja1 jb6 jbc jbV ja3 jbH jaT jbO jaq jac jbI jl6 jbn jba jaa x1 jdD jaR jbs jbt jbo jbp jbk jbj jbf jbq jbE jbm jbi jdB jl6 jlM jlk jlC x4 jaT jbb jbr jaR jb6 jlM cyI f3 jlk cyI f8 jlC cyI f5 jbb cyI jbQ jb6 jbW jbL jcl jcc jdh jcc cyI f6 jcl cyI f7 jbW cyI jdN jbL cyI jdi jbs cyI jci jbt cyI jcj a2 cyJ n2 f11) := by rw [ef11]; exact hD
  refine lv_goto (tgt := 15) hx hb (qaa qtl 7 rfl) (by decide) ?_
  refine lv_iconst (v := 0) hx hb (qaa qtl 11 rfl) (by decide) ?_
  exact (W.widen (k := 1) (n := 6) (nbq rfl) (nbq rfl) (W.iret (v := 0) hx hb hr (fun t ht hW => ⟨⟨0, (x1, f3, x4, f5, f6, f7, f8, f11), rfl, hw, by rw [ht]; exact hP, va_K.moved hW.alike hK, hD⟩, hS.F ht⟩) hS.2.2 (qaa qtl 12 rfl)))
theorem qBB : ∀ w ∈ u_ws RX10 TX10 19, w ∈ wsX10_span := uiM qnA qyN (by decide +kernel)
theorem qaKq : ∀ w ∈ u_ws RX2 TX2 12, w ∈ wsX10_span := uiM qnA qLp (by decide +kernel)
theorem qarC : (.fieldLink RX10 141 "MarchHares$Down" "hares" "I" : Cond) ∈ wsX10_span := qnA 644 (by decide +kernel)
theorem qazw : (.fieldLink RX10 19 "MarchHares" "ground" "LMarchHares$Down;" : Cond) ∈ wsX10_span := qnA 20 (by decide +kernel)
theorem qaDa : (.fieldLink RX10 58 "MarchHares" "now" "LMarchHares$Days;" : Cond) ∈ wsX10_span := qnA 79 (by decide +kernel)
theorem qQQ : (.fieldLink RX10 62 "MarchHares" "trial" "LMarchHares$Days;" : Cond) ∈ wsX10_span := qnA 80 (by decide +kernel)
theorem qYR : (.initialized "java/lang/Math" : Cond) ∈ wsX10_span := qnA 651 (by decide +kernel)
theorem qaux : (.constant RX10 383 (2147483647) : Cond) ∈ wsX10_span := qnA 4172 (by decide +kernel)
theorem qare : (.methodLink RX10 384 Lib.Math.min.name : Cond) ∈ wsX10_span := qnA 649 (by decide +kernel)
theorem qaql : (.methodLink RX10 389 Lib.Math.max.name : Cond) ∈ wsX10_span := qnA 3404 (by decide +kernel)
theorem qamf : (.code Lib.Math.max.name Lib.Math.max.code 2 (some .int) : Cond) ∈ wsX10_span := qnA 1931 (by decide +kernel)
theorem qal9 : (.code Lib.Math.min.name Lib.Math.min.code 2 (some .int) : Cond) ∈ wsX10_span := qnA 652 (by decide +kernel)
theorem qanC : (.static Lib.Math.max.name : Cond) ∈ wsX10_span := qnA 1930 (by decide +kernel)
theorem qak3 : (.static Lib.Math.min.name : Cond) ∈ wsX10_span := qnA 650 (by decide +kernel)
set_option maxHeartbeats 4000000 in
set_option maxRecDepth 100000 in
theorem q08 {p : Program} {l : Launch} {e : Env} {s : State} {m : MethodId} {args : Array Value} {below : List Frame} {meth : Method} {c : Code} {A : Nat → Prop} (dC : Nat → ClassId) (dI : Nat → Nat → Nat) (cyB cyI cyJ cyP : ClassId) (a0 jaR jh8 jaT jbb jhy jb6 jbs jbt jcc jcl jbW jbL jcG : Nat) (jaK ja1 jcp jbc jbV ja3 jbH jaq jac jbI jbl jbn jba jaa jbA jbo jbp jbk jbf jbq jbi jiK jbr : Value) (jbE jbm jdB : Int32) (jbQ jci jcj : NI) (jdh : Int32) (jdN jdi jfT : NI) (E : String → Int32 → NI → Value → Value → NI → NI → Prop) (Q : Int32 → Int32 → NI → Value → Value → NI → NI → Prop) (K54 : Int32 → NI → Value → Value → NI → NI → Int32 → Int32 → Int32 → Int32 → Int32 → Int32 → Int32 → Int32 → Int32 → Prop) (hK54 : ∀ (H : Heap) (locs : List Loc) (ls : Array Slot) (jbz : Int32) (jjV : NI) (jkp jkP : Value) (jfl jfM : NI) (l1 l2 l3 l4 l5 l6 l7 l8 l9 : Int32), va_P (dC, dI) vwCl (qsN a0 jaK jaR ja1 jcp jbc jbV ja3 jbH jaT jh8 jaq jac jbI jbl jbn jba jaa jbA jbz jaR jbs jbt jbo jbp jbk jcG jbf jbq jbE jbm jbi jdB jh8 jhy jiK jkp jkP jaT jbb jbr jaR jb6 jbb cyI jbQ jhy cyI jjV jbs cyI jci jbt cyI jcj jb6 jbW jbL jcl jcc jdh jcc cyI jfl jcl cyI jfM jbW cyI jdN jbL cyI jdi jcG cyI jfT) H → va_D A (qsN a0 jaK jaR ja1 jcp jbc jbV ja3 jbH jaT jh8 jaq jac jbI jbl jbn jba jaa jbA jbz jaR jbs jbt jbo jbp jbk jcG jbf jbq jbE jbm jbi jdB jh8 jhy jiK jkp jkP jaT jbb jbr jaR jb6 jbb cyI jbQ jhy cyI jjV jbs cyI jci jbt cyI jcj jb6 jbW jbL jcl jcc jdh jcc cyI jfl jcl cyI jfM jbW cyI jdN jbL cyI jdi jcG cyI jfT) → va_S A s.heap H locs → lv_has ls 11 [(0, .ref a0), (1, .int l1), (2, .int l2), (3, .int l3), (4, .int l4), (5, .int l5), (6, .int l6), (7, .int l7), (8, .int l8), (9, .int l9)] → K54 jbz jjV jkp jkP jfl jfM l1 l2 l3 l4 l5 l6 l7 l8 l9 → W p l e (headSpec wsX10_span ({ frames := 8, cells := 4, slots := 24, locals := 164 })).room s m args below meth c H locs 4 24 (vx_MQ below (va_Qi (fun (r : Int32) (u : Int32 × NI × Value × Value × NI × NI) => Q r u.1 u.2.1 u.2.2.1 u.2.2.2.1 u.2.2.2.2.1 u.2.2.2.2.2) (cB (dC, dI) (kT cyB cyI cyJ cyP) A (fun u : Int32 × NI × Value × Value × NI × NI => ((qsN a0 jaK jaR ja1 jcp jbc jbV ja3 jbH jaT jh8 jaq jac jbI jbl jbn jba jaa jbA u.1 jaR jbs jbt jbo jbp jbk jcG jbf jbq jbE jbm jbi jdB jh8 jhy jiK u.2.2.1 u.2.2.2.1 jaT jbb jbr jaR jb6 jbb cyI jbQ jhy cyI u.2.1 jbs cyI jci jbt cyI jcj jb6 jbW jbL jcl jcc jdh jcc cyI u.2.2.2.2.1 jcl cyI u.2.2.2.2.2 jbW cyI jdN jbL cyI jdi jcG cyI jfT) : va_W))) A) (vx_X (fun _ => True) (fun (en : String) (u : Int32 × NI × Value × Value × NI × NI) (t : State) => E en u.1 u.2.1 u.2.2.1 u.2.2.2.1 u.2.2.2.2.1 u.2.2.2.2.2 ∧ cB (dC, dI) (kT cyB cyI cyJ cyP) A (fun u : Int32 × NI × Value × Value × NI × NI => ((qsN a0 jaK jaR ja1 jcp jbc jbV ja3 jbH jaT jh8 jaq jac jbI jbl jbn jba jaa jbA u.1 jaR jbs jbt jbo jbp jbk jcG jbf jbq jbE jbm jbi jdB jh8 jhy jiK u.2.2.1 u.2.2.2.1 jaT jbb jbr jaR jb6 jbb cyI jbQ jhy cyI u.2.1 jbs cyI jci jbt cyI jcj jb6 jbW jbL jcl jcc jdh jcc cyI u.2.2.2.2.1 jcl cyI u.2.2.2.2.2 jbW cyI jdN jbL cyI jdi jcG cyI jfT) : va_W)) u t) A) args s 4 24 A) (F0 m 54 ls [])) (C0 : cfx p s m args meth c cX10_span (some .int) wsX10_span RX10 11 A (dC, dI) (kT cyB cyI cyJ cyP) ∧ cfX l s c A) : ∀ (H : Heap) (locs : List Loc) (ls : Array Slot) (jbz : Int32) (jjV : NI) (jkp jkP : Value) (jfl jfM : NI) (l1 l2 l3 l4 l5 l6 l7 l9 s0 s1 : Int32), va_P (dC, dI) vwCl (qavo a0 jaK jaR ja1 jcp jbc jbV ja3 jbH jaT jh8 jaq jac jbI jbl jbn jba jaa jbA jbz jaR jbs jbt jbo jbp jbk jcG jbf jbq jbE jbm jbi jdB jh8 jhy jiK jaR jb6 jaT jbb jbr jaR jb6 jbb cyI jbQ jhy cyI jjV jbs cyI jci jbt cyI jcj jb6 jbW jbL jcl jcc jdh jcc cyI jfl jcl cyI jfM jbW cyI jdN jbL cyI jdi jcG cyI jfT) H → va_D A (qavo a0 jaK jaR ja1 jcp jbc jbV ja3 jbH jaT jh8 jaq jac jbI jbl jbn jba jaa jbA jbz jaR jbs jbt jbo jbp jbk jcG jbf jbq jbE jbm jbi jdB jh8 jhy jiK jaR jb6 jaT jbb jbr jaR jb6 jbb cyI jbQ jhy cyI jjV jbs cyI jci jbt cyI jcj jb6 jbW jbL jcl jcc jdh jcc cyI jfl jcl cyI jfM jbW cyI jdN jbL cyI jdi jcG cyI jfT) → va_S A s.heap H locs → lv_has ls 11 [(0, .ref a0), (1, .int l1), (2, .int l2), (3, .int l3), (4, .int l4), (5, .int l5), (6, .int l6), (7, .int l7), (9, .int l9)] → qHY jaR jb6 jbE jbm jdB jbQ jci jcj jdh jdN jdi jfT E Q K54 jbz jjV jkp jkP jfl jfM l1 l2 l3 l4 l5 l6 l7 l9 s0 s1 → W p l e (headSpec wsX10_span ({ frames := 8, cells := 4, slots := 24, locals := 164 })).room s m args below meth c H locs 4 24 (vx_MQ below (va_Qi (fun (r : Int32) (u : Int32 × NI × Value × Value × NI × NI) => Q r u.1 u.2.1 u.2.2.1 u.2.2.2.1 u.2.2.2.2.1 u.2.2.2.2.2) (cB (dC, dI) (kT cyB cyI cyJ cyP) A (fun u : Int32 × NI × Value × Value × NI × NI => ((qsN a0 jaK jaR ja1 jcp jbc jbV ja3 jbH jaT jh8 jaq jac jbI jbl jbn jba jaa jbA u.1 jaR jbs jbt jbo jbp jbk jcG jbf jbq jbE jbm jbi jdB jh8 jhy jiK u.2.2.1 u.2.2.2.1 jaT jbb jbr jaR jb6 jbb cyI jbQ jhy cyI u.2.1 jbs cyI jci jbt cyI jcj jb6 jbW jbL jcl jcc jdh jcc cyI u.2.2.2.2.1 jcl cyI u.2.2.2.2.2 jbW cyI jdN jbL cyI jdi jcG cyI jfT) : va_W))) A) (vx_X (fun _ => True) (fun (en : String) (u : Int32 × NI × Value × Value × NI × NI) (t : State) => E en u.1 u.2.1 u.2.2.1 u.2.2.2.1 u.2.2.2.2.1 u.2.2.2.2.2 ∧ cB (dC, dI) (kT cyB cyI cyJ cyP) A (fun u : Int32 × NI × Value × Value × NI × NI => ((qsN a0 jaK jaR ja1 jcp jbc jbV ja3 jbH jaT jh8 jaq jac jbI jbl jbn jba jaa jbA u.1 jaR jbs jbt jbo jbp jbk jcG jbf jbq jbE jbm jbi jdB jh8 jhy jiK u.2.2.1 u.2.2.2.1 jaT jbb jbr jaR jb6 jbb cyI jbQ jhy cyI u.2.1 jbs cyI jci jbt cyI jcj jb6 jbW jbL jcl jcc jdh jcc cyI u.2.2.2.2.1 jcl cyI u.2.2.2.2.2 jbW cyI jdN jbL cyI jdi jcG cyI jfT) : va_W)) u t) A) args s 4 24 A) (F0 m 122 ls [.int s1, .int s0]) := by
  obtain ⟨⟨hx, hb, hr, hts, hown, hlocks, hml, hA, hK, hNw⟩, hXs⟩ := id C0
  have hY := hXs.2
  intro H locs ls jbz jjV jkp jkP jfl jfM l1 l2 l3 l4 l5 l6 l7 l9 s0 s1 hP hD hS hl hw
  refine lv_iadd hx hb (qaa qyQ 1 rfl) ?_
  refine lv_topi (fun x18 ex18 => ?_)
  have hw := hw x18 ex18
  refine lv_istore (lv' := [(8, .int x18), (0, .ref a0), (1, .int l1), (2, .int l2), (3, .int l3), (4, .int l4), (5, .int l5), (6, .int l6), (7, .int l7), (9, .int l9)]) hx hb (qaa qyQ 2 rfl) hl (by decide) rfl (fun ls hl => ?_)
  obtain ⟨x19, ex19⟩ : ∃ y : Int32, y = l9 + 1 := ⟨_, rfl⟩
  have hw := hw x19 ex19
  refine lv_iinc (v := x19) (lv' := [(9, .int x19), (8, .int x18), (0, .ref a0), (1, .int l1), (2, .int l2), (3, .int l3), (4, .int l4), (5, .int l5), (6, .int l6), (7, .int l7)]) hx hb (qaa qyQ 3 rfl) hl (k := 9) rfl (by rw [ex19]; rfl) (by decide) rfl (fun ls hl => ?_)
  refine lv_goto (tgt := 54) hx hb (qaa qyQ 4 rfl) (by decide) ?_
  exact hK54 _ _ _ jbz jjV (.ref jaR) (.ref jb6) jfl jfM l1 l2 l3 l4 l5 l6 l7 x18 x19 hP hD hS (lv_sub hl [2, 3, 4, 5, 6, 7, 8, 9, 1, 0] rfl) hw
set_option maxHeartbeats 4000000 in
set_option maxRecDepth 100000 in
theorem qaIs {p : Program} {l : Launch} {e : Env} {s : State} {m : MethodId} {args : Array Value} {below : List Frame} {meth : Method} {c : Code} {A : Nat → Prop} (dC : Nat → ClassId) (dI : Nat → Nat → Nat) (cyB cyI cyJ cyP : ClassId) (a0 jaR jh8 jaT jbb jhy jb6 jbs jbt jcc jcl jbW jbL jcG : Nat) (jaK ja1 jcp jbc jbV ja3 jbH jaq jac jbI jbl jbn jba jaa jbA jbo jbp jbk jbf jbq jbi jiK jbr : Value) (jbE jbm jdB : Int32) (jbQ jci jcj : NI) (jdh : Int32) (jdN jdi jfT : NI) (E : String → Int32 → NI → Value → Value → NI → NI → Prop) (Q : Int32 → Int32 → NI → Value → Value → NI → NI → Prop) (C0 : cfx p s m args meth c cX10_span (some .int) wsX10_span RX10 11 A (dC, dI) (kT cyB cyI cyJ cyP) ∧ cfX l s c A) : ∀ (n : Nat) (H : Heap) (locs : List Loc) (ls : Array Slot) (jbz : Int32) (jjV : NI) (jkp jkP : Value) (jfl jfM : NI) (l1 l2 l3 l4 l5 l6 l7 l8 l9 : Int32), va_P (dC, dI) vwCl (qsN a0 jaK jaR ja1 jcp jbc jbV ja3 jbH jaT jh8 jaq jac jbI jbl jbn jba jaa jbA jbz jaR jbs jbt jbo jbp jbk jcG jbf jbq jbE jbm jbi jdB jh8 jhy jiK jkp jkP jaT jbb jbr jaR jb6 jbb cyI jbQ jhy cyI jjV jbs cyI jci jbt cyI jcj jb6 jbW jbL jcl jcc jdh jcc cyI jfl jcl cyI jfM jbW cyI jdN jbL cyI jdi jcG cyI jfT) H → va_D A (qsN a0 jaK jaR ja1 jcp jbc jbV ja3 jbH jaT jh8 jaq jac jbI jbl jbn jba jaa jbA jbz jaR jbs jbt jbo jbp jbk jcG jbf jbq jbE jbm jbi jdB jh8 jhy jiK jkp jkP jaT jbb jbr jaR jb6 jbb cyI jbQ jhy cyI jjV jbs cyI jci jbt cyI jcj jb6 jbW jbL jcl jcc jdh jcc cyI jfl jcl cyI jfM jbW cyI jdN jbL cyI jdi jcG cyI jfT) → va_S A s.heap H locs → lv_has ls 11 [(0, .ref a0), (1, .int l1), (2, .int l2), (3, .int l3), (4, .int l4), (5, .int l5), (6, .int l6), (7, .int l7), (8, .int l8), (9, .int l9)] → qvk jaR jb6 jbE jbm jdB jbQ jci jcj jdh jdN jdi jfT E Q n jbz jjV jkp jkP jfl jfM l1 l2 l3 l4 l5 l6 l7 l8 l9 → W p l e (headSpec wsX10_span ({ frames := 8, cells := 4, slots := 24, locals := 164 })).room s m args below meth c H locs 4 24 (vx_MQ below (va_Qi (fun (r : Int32) (u : Int32 × NI × Value × Value × NI × NI) => Q r u.1 u.2.1 u.2.2.1 u.2.2.2.1 u.2.2.2.2.1 u.2.2.2.2.2) (cB (dC, dI) (kT cyB cyI cyJ cyP) A (fun u : Int32 × NI × Value × Value × NI × NI => ((qsN a0 jaK jaR ja1 jcp jbc jbV ja3 jbH jaT jh8 jaq jac jbI jbl jbn jba jaa jbA u.1 jaR jbs jbt jbo jbp jbk jcG jbf jbq jbE jbm jbi jdB jh8 jhy jiK u.2.2.1 u.2.2.2.1 jaT jbb jbr jaR jb6 jbb cyI jbQ jhy cyI u.2.1 jbs cyI jci jbt cyI jcj jb6 jbW jbL jcl jcc jdh jcc cyI u.2.2.2.2.1 jcl cyI u.2.2.2.2.2 jbW cyI jdN jbL cyI jdi jcG cyI jfT) : va_W))) A) (vx_X (fun _ => True) (fun (en : String) (u : Int32 × NI × Value × Value × NI × NI) (t : State) => E en u.1 u.2.1 u.2.2.1 u.2.2.2.1 u.2.2.2.2.1 u.2.2.2.2.2 ∧ cB (dC, dI) (kT cyB cyI cyJ cyP) A (fun u : Int32 × NI × Value × Value × NI × NI => ((qsN a0 jaK jaR ja1 jcp jbc jbV ja3 jbH jaT jh8 jaq jac jbI jbl jbn jba jaa jbA u.1 jaR jbs jbt jbo jbp jbk jcG jbf jbq jbE jbm jbi jdB jh8 jhy jiK u.2.2.1 u.2.2.2.1 jaT jbb jbr jaR jb6 jbb cyI jbQ jhy cyI u.2.1 jbs cyI jci jbt cyI jcj jb6 jbW jbL jcl jcc jdh jcc cyI u.2.2.2.2.1 jcl cyI u.2.2.2.2.2 jbW cyI jdN jbL cyI jdi jcG cyI jfT) : va_W)) u t) A) args s 4 24 A) (F0 m 54 ls []) := by
  obtain ⟨⟨hx, hb, hr, hts, hown, hlocks, hml, hA, hK, hNw⟩, hXs⟩ := id C0
  have hY := hXs.2
  intro n
  induction n with
  | zero => intro H locs ls jbz jjV jkp jkP jfl jfM l1 l2 l3 l4 l5 l6 l7 l8 l9 hP hD hS hl hw; exact False.elim hw
  | succ n ih =>
    intro H locs ls jbz jjV jkp jkP jfl jfM l1 l2 l3 l4 l5 l6 l7 l8 l9 hP hD hS hl hw
    refine lv_iload hx hb (qaa qjx 0 rfl) (lv_at hl 9 rfl) ?_
    refine lv_iload_n hx hb (qaa qjx 1 rfl) rfl (lv_at hl 2 rfl) ?_
    refine lv_icmp_ge (tgt := 131) hx hb (qaa qjx 2 rfl) (by decide) (fun c5 => ?_) (fun c5 => ?_)
    · have hw := hw.1 c5
      refine lv_iload hx hb (qaa qyQ 5 rfl) (lv_at hl 4 rfl) ?_
      by_cases c6 : l4 = 0
      · have hw := hw.1 c6
        refine lv_lookup (tgt := 160) (off := 27) hx hb dX10_span_133 (by decide) (by rw [c6]; decide) (by decide) ?_
        refine lv_iload hx hb (qaa qyA 0 rfl) (lv_at hl 6 rfl) ?_
        exact vx_ret (W.widen (k := 4) (n := 24) (nbq rfl) (nbq rfl) (W.iret (v := l6) hx hb hr (fun t ht hW => ⟨⟨l6, (jbz, jjV, jkp, jkP, jfl, jfM), rfl, hw, by rw [ht]; exact hP, va_K.moved hW.alike hK, hD⟩, hS.F ht⟩) hS.2.2 (qaa qyA 1 rfl)))
      have hw := hw.2 c6
      by_cases c7 : l4 = 1
      · have hw := hw.1 c7
        refine lv_lookup (tgt := 163) (off := 30) hx hb dX10_span_133 (by decide) (by rw [c7]; decide) (by decide) ?_
        refine lv_iload hx hb (qaa qyA 2 rfl) (lv_at hl 7 rfl) ?_
        exact vx_ret (W.widen (k := 4) (n := 24) (nbq rfl) (nbq rfl) (W.iret (v := l7) hx hb hr (fun t ht hW => ⟨⟨l7, (jbz, jjV, jkp, jkP, jfl, jfM), rfl, hw, by rw [ht]; exact hP, va_K.moved hW.alike hK, hD⟩, hS.F ht⟩) hS.2.2 (qaa qyA 3 rfl)))
      have hw := hw.2 c7
      refine lv_lookup (tgt := 166) (off := 33) hx hb dX10_span_133 (by decide) (by have nc6 := qan9 (n := 0) c6 rfl; have nc7 := qan9 (n := 1) c7 rfl; simp [Op.lookupswitch.offset, nc6, nc7]) (by decide) ?_
      refine lv_iload hx hb (qaa qyA 4 rfl) (lv_at hl 8 rfl) ?_
      exact vx_ret (W.widen (k := 4) (n := 24) (nbq rfl) (nbq rfl) (W.iret (v := l8) hx hb hr (fun t ht hW => ⟨⟨l8, (jbz, jjV, jkp, jkP, jfl, jfM), rfl, hw, by rw [ht]; exact hP, va_K.moved hW.alike hK, hD⟩, hS.F ht⟩) hS.2.2 (qaa qyA 5 rfl)))
    · have hw := hw.2 c5
      refine lv_aload_n hx hb (qaa qjx 3 rfl) rfl (lv_at hl 0 rfl) ?_
      refine va_get (D := (dC, dI)) (ci := 10) (v := .ref jh8) (C := RX10) (T := TX10) (N := 19) hx hb hts qBB hown hK hP 0 rfl rfl 9 (by decide) (hts _ qQQ) (fun _ h9 => h9) rfl (qaa qjx 4 rfl) ?_
      refine lv_aload_n hx hb (qaa qjx 5 rfl) rfl (lv_at hl 0 rfl) ?_
      refine va_get (D := (dC, dI)) (ci := 10) (v := .ref jaT) (C := RX10) (T := TX10) (N := 19) hx hb hts qBB hown hK hP 0 rfl rfl 8 (by decide) (hts _ qaDa) (fun _ h9 => h9) rfl (qaa qjx 6 rfl) ?_
      obtain ⟨hCc, hPc, hDc, hFc⟩ := qac (ws' := (qbf0 jh8 jhy jiK jkp jkP jaT jbb jbr jaR jb6 jbb cyI jbQ jhy cyI jjV)) hP hD hS hA [2, 3, 4, 5] (by decide +kernel) rfl
      refine va_callv (va_runV (As := [.ref jaT]) (rest := []) ⟨hx, hb, hml, hown, hts⟩ (qTZ l dC dI cyB cyI cyJ cyP jh8 jaT jaR jb6 jbb jhy H.size (jiK) (jkp) (jkP) (jbr) jbQ jjV hw) (cwV 1 hts gX10_span_X1_copyFrom rfl rfl rfl (by decide +kernel) ⟨nbq rfl, nbq rfl⟩) ⟨qab, va_recv (q := (RX1, TX1, 4)) hK hPc (ci := 1) (q0 := 0) rfl rfl, qae hPc hK hDc hNw⟩ rfl rfl hl.1 rfl (lv_room (nbq rfl)) (qaa qjx 7 rfl) ⟨nbq rfl, nbq rfl⟩) hS (fun q _ h => hFc q h) hFc (fun u t H1 locs ht hvm hw hB hz1 hk1 hS => ?_)
      obtain ⟨f8, rfl⟩ : ∃ z, z = u := ⟨_, rfl⟩
      obtain ⟨hP1, hK1, hD1⟩ := hB
      rw [ht] at hP1
      obtain ⟨hP, hD⟩ := qad (wr := [(a0, .inr (10, [jaK, .ref jaR, ja1, jcp, jbc, jbV, ja3, jbH, .ref jaT, .ref jh8, jaq, jac, jbI, jbl, jbn, jba, jaa, jbA, .int jbz])), (jaR, .inr (2, [.ref jbs, .ref jbt, jbo, jbp, jbk, .ref jcG, jbf, jbq, .int jbE, .int jbm, jbi, .int jdB])), (jbs, .inl (cyI, 8, .inl jci)), (jbt, .inl (cyI, 8, .inl jcj)), (jb6, .inr (4, [.ref jbW, .ref jbL, .ref jcl, .ref jcc, .int jdh])), (jcc, .inl (cyI, 8, .inl jfl)), (jcl, .inl (cyI, 150, .inl jfM)), (jbW, .inl (cyI, 150, .inl jdN)), (jbL, .inl (cyI, 150, .inl jdi)), (jcG, .inl (cyI, 6, .inl jfT))]) (w1 := [(jh8, .inr (1, [.ref jhy, jiK, .ref jaR, .ref jb6])), (jaT, .inr (1, [.ref jbb, jbr, .ref jaR, .ref jb6])), (jbb, .inl (cyI, 64, .inl jbQ)), (jhy, .inl (cyI, 64, .inl f8))]) (wn := (qavo a0 jaK jaR ja1 jcp jbc jbV ja3 jbH jaT jh8 jaq jac jbI jbl jbn jba jaa jbA jbz jaR jbs jbt jbo jbp jbk jcG jbf jbq jbE jbm jbi jdB jh8 jhy jiK jaR jb6 jaT jbb jbr jaR jb6 jbb cyI jbQ jhy cyI f8 jbs cyI jci jbt cyI jcj jb6 jbW jbL jcl jcc jdh jcc cyI jfl jcl cyI jfM jbW cyI jdN jbL cyI jdi jcG cyI jfT)) hP hD [2, 3, 4, 5] [0, 1, 6, 7, 8, 9, 10, 11, 12, 13] [0, 1, 10, 11, 12, 13, 2, 3, 4, 5, 6, 7, 8, 9] hCc rfl (by decide +kernel) (by decide +kernel) (by decide +kernel) rfl hk1 hFc hP1 hD1
      generalize H1 = H at hP hS ⊢
      refine lv_aload_n hx hb (qaa qjx 8 rfl) rfl (lv_at hl 0 rfl) ?_
      refine va_get (D := (dC, dI)) (ci := 10) (v := .ref jh8) (C := RX10) (T := TX10) (N := 19) hx hb hts qBB hown hK hP 0 rfl rfl 9 (by decide) (hts _ qQQ) (fun _ h9 => h9) rfl (qaa qjx 9 rfl) ?_
      refine lv_iload_n hx hb (qaa qjx 10 rfl) rfl (lv_at hl 1 rfl) ?_
      refine lv_iload hx hb (qaa qjx 11 rfl) (lv_at hl 9 rfl) ?_
      refine lv_iadd hx hb (qaa qjx 12 rfl) ?_
      refine lv_topi (fun x9 ex9 => ?_)
      have hw := hw x9 ex9
      refine lv_iload_n hx hb (qaa qjx 13 rfl) rfl (lv_at hl 3 rfl) ?_
      obtain ⟨hCc, hPc, hDc, hFc⟩ := qac (ws' := (qbaS jh8 jhy jiK jaR jb6 jaR jbs jbt jbo jbp jbk jcG jbf jbq jbE jbm jbi jdB jhy cyI f8 jbs cyI jci jbt cyI jcj jb6 jbW jbL jcl jcc jdh jcc cyI jfl jcl cyI jfM jbW cyI jdN jbL cyI jdi jcG cyI jfT)) hP hD hS hA [2, 1, 5, 6, 7, 8, 9, 10, 11, 12, 13] (by decide +kernel) rfl
      refine va_calli (va_runV (As := [.int x9, .int l3]) (rest := []) ⟨hx, hb, hml, hown, hts⟩ (q7k l dC dI cyB cyI cyJ cyP jh8 jaR jhy jbs jbt jb6 jcc jcl jbW jbL jcG H.size (jiK) (jbo) (jbp) (jbk) (jbf) (jbq) (jbi) jbE jbm jdB jci jcj jdh jdN jdi jfT jfl jfM f8 x9 l3 hw) (cwV 2 hts gX10_span_X1_drawDays rfl rfl rfl (by decide +kernel) ⟨nbq rfl, nbq rfl⟩) ⟨qab, va_recv (q := (RX1, TX1, 4)) hK hPc (ci := 1) (q0 := 0) rfl rfl, qae hPc hK hDc hNw⟩ rfl rfl hl.1 rfl (lv_room (nbq rfl)) (qaa qjx 14 rfl) ⟨nbq rfl, nbq rfl⟩) hS (fun q _ h => hFc q h) hFc (fun r13 u t H1 locs ht hvm hw hB hz1 hk1 hS => ?_)
      obtain ⟨f10, f11, f12⟩ := u
      obtain ⟨hP1, hK1, hD1⟩ := hB
      rw [ht] at hP1
      obtain ⟨hP, hD⟩ := qad (wr := [(a0, .inr (10, [jaK, .ref jaR, ja1, jcp, jbc, jbV, ja3, jbH, .ref jaT, .ref jh8, jaq, jac, jbI, jbl, jbn, jba, jaa, jbA, .int jbz])), (jaT, .inr (1, [.ref jbb, jbr, .ref jaR, .ref jb6])), (jbb, .inl (cyI, 64, .inl jbQ))]) (w1 := (qbaS jh8 jhy jiK jaR jb6 jaR jbs jbt jbo jbp jbk jcG jbf jbq jbE jbm jbi jdB jhy cyI f12 jbs cyI jci jbt cyI jcj jb6 jbW jbL jcl jcc jdh jcc cyI f10 jcl cyI f11 jbW cyI jdN jbL cyI jdi jcG cyI jfT)) (wn := (qavo a0 jaK jaR ja1 jcp jbc jbV ja3 jbH jaT jh8 jaq jac jbI jbl jbn jba jaa jbA jbz jaR jbs jbt jbo jbp jbk jcG jbf jbq jbE jbm jbi jdB jh8 jhy jiK jaR jb6 jaT jbb jbr jaR jb6 jbb cyI jbQ jhy cyI f12 jbs cyI jci jbt cyI jcj jb6 jbW jbL jcl jcc jdh jcc cyI f10 jcl cyI f11 jbW cyI jdN jbL cyI jdi jcG cyI jfT)) hP hD [2, 1, 5, 6, 7, 8, 9, 10, 11, 12, 13] [0, 3, 4] [0, 4, 3, 1, 2, 5, 6, 7, 8, 9, 10, 11, 12, 13] hCc rfl (by decide +kernel) (by decide +kernel) (by decide +kernel) rfl hk1 hFc hP1 hD1
      generalize H1 = H at hP hS ⊢
      refine lv_istore (lv' := [(10, .int r13), (0, .ref a0), (1, .int l1), (2, .int l2), (3, .int l3), (4, .int l4), (5, .int l5), (6, .int l6), (7, .int l7), (8, .int l8), (9, .int l9)]) hx hb (qaa qjx 15 rfl) hl (by decide) rfl (fun ls hl => ?_)
      refine lv_iload hx hb (qaa qiT 0 rfl) (lv_at hl 7 rfl) ?_
      refine lv_iload hx hb (qaa qiT 1 rfl) (lv_at hl 0 rfl) ?_
      refine va_mmin hx hb (by rw [hml]; exact hl.1.symm) hown (hts _ qare) (hts _ qak3) (hts _ qYR) (hts _ qal9) (nbq rfl) (nbq rfl) (nbq rfl) (nbq rfl) (qaa qiT 2 rfl) ?_
      refine lv_topi (fun x14 ex14 => ?_)
      have hw := hw x14 ex14
      refine lv_istore (lv' := [(6, .int x14), (10, .int r13), (0, .ref a0), (1, .int l1), (2, .int l2), (3, .int l3), (4, .int l4), (5, .int l5), (7, .int l7), (8, .int l8), (9, .int l9)]) hx hb (qaa qiT 3 rfl) hl (by decide) rfl (fun ls hl => ?_)
      refine lv_iload hx hb (qaa qiT 4 rfl) (lv_at hl 8 rfl) ?_
      refine lv_iload hx hb (qaa qiT 5 rfl) (lv_at hl 1 rfl) ?_
      refine va_mmax hx hb (by rw [hml]; exact hl.1.symm) hown (hts _ qaql) (hts _ qanC) (hts _ qYR) (hts _ qamf) (nbq rfl) (nbq rfl) (nbq rfl) (nbq rfl) (qaa qiT 6 rfl) ?_
      refine lv_topi (fun x15 ex15 => ?_)
      have hw := hw x15 ex15
      refine lv_istore (lv' := [(7, .int x15), (6, .int x14), (10, .int r13), (0, .ref a0), (1, .int l1), (2, .int l2), (3, .int l3), (4, .int l4), (5, .int l5), (8, .int l8), (9, .int l9)]) hx hb (qaa qiT 7 rfl) hl (by decide) rfl (fun ls hl => ?_)
      refine lv_iload hx hb (qaa qiT 8 rfl) (lv_at hl 9 rfl) ?_
      refine lv_aload_n hx hb (qaa qiT 9 rfl) rfl (lv_at hl 3 rfl) ?_
      refine va_get (D := (dC, dI)) (ci := 10) (v := .ref jh8) (C := RX10) (T := TX10) (N := 19) hx hb hts qBB hown hK hP 0 rfl rfl 9 (by decide) (hts _ qQQ) (fun _ h9 => h9) rfl (qaa qiT 10 rfl) ?_
      refine lv_iload hx hb (qaa qiT 11 rfl) (lv_at hl 8 rfl) ?_
      obtain ⟨hCc, hPc, hDc, hFc⟩ := qac (ws' := (qaL2 jh8 jhy jiK jaR jb6 jhy cyI f12)) hP hD hS hA [2, 5] (by decide +kernel) rfl
      refine va_calli (va_runV (As := [.int l5]) (rest := [.int l8]) ⟨hx, hb, hml, hown, hts⟩ (qia l dC dI cyB cyI cyJ cyP jh8 jhy H.size (jiK) (.ref jaR) (.ref jb6) f12 l5 hw) (cwV 1 hts gX10_span_X1_isCaught rfl rfl rfl (by decide +kernel) ⟨nbq rfl, nbq rfl⟩) ⟨qab, va_recv (q := (RX1, TX1, 4)) hK hPc (ci := 1) (q0 := 0) rfl rfl, qae hPc hK hDc hNw⟩ rfl rfl hl.1 rfl (lv_room (nbq rfl)) (qaa qiT 12 rfl) ⟨nbq rfl, nbq rfl⟩) hS (fun q _ h => hFc q h) hFc (fun r16 u t H1 locs ht hvm hw hB hz1 hk1 hS => ?_)
      obtain ⟨hP1, hK1, hD1⟩ := hB
      rw [ht] at hP1
      obtain ⟨hP, hD⟩ := qad (wr := [(a0, .inr (10, [jaK, .ref jaR, ja1, jcp, jbc, jbV, ja3, jbH, .ref jaT, .ref jh8, jaq, jac, jbI, jbl, jbn, jba, jaa, jbA, .int jbz])), (jaR, .inr (2, [.ref jbs, .ref jbt, jbo, jbp, jbk, .ref jcG, jbf, jbq, .int jbE, .int jbm, jbi, .int jdB])), (jaT, .inr (1, [.ref jbb, jbr, .ref jaR, .ref jb6])), (jbb, .inl (cyI, 64, .inl jbQ)), (jbs, .inl (cyI, 8, .inl jci)), (jbt, .inl (cyI, 8, .inl jcj)), (jb6, .inr (4, [.ref jbW, .ref jbL, .ref jcl, .ref jcc, .int jdh])), (jcc, .inl (cyI, 8, .inl f10)), (jcl, .inl (cyI, 150, .inl f11)), (jbW, .inl (cyI, 150, .inl jdN)), (jbL, .inl (cyI, 150, .inl jdi)), (jcG, .inl (cyI, 6, .inl jfT))]) (w1 := (qaL2 jh8 jhy jiK jaR jb6 jhy cyI f12)) (wn := (qavo a0 jaK jaR ja1 jcp jbc jbV ja3 jbH jaT jh8 jaq jac jbI jbl jbn jba jaa jbA jbz jaR jbs jbt jbo jbp jbk jcG jbf jbq jbE jbm jbi jdB jh8 jhy jiK jaR jb6 jaT jbb jbr jaR jb6 jbb cyI jbQ jhy cyI f12 jbs cyI jci jbt cyI jcj jb6 jbW jbL jcl jcc jdh jcc cyI f10 jcl cyI f11 jbW cyI jdN jbL cyI jdi jcG cyI jfT)) hP hD [2, 5] [0, 1, 3, 4, 6, 7, 8, 9, 10, 11, 12, 13] [0, 1, 12, 2, 3, 13, 4, 5, 6, 7, 8, 9, 10, 11] hCc rfl (by decide +kernel) (by decide +kernel) (by decide +kernel) rfl hk1 hFc hP1 hD1
      generalize H1 = H at hP hS ⊢
      refine lv_if_eq (tgt := 121) hx hb (qaa qiT 13 rfl) (by decide) (fun c17 => ?_) (fun c17 => ?_)
      · have hw := hw.1 c17
        refine lv_iconst (v := 1) hx hb (qaa qyQ 0 rfl) (by decide) ?_
        exact q08 dC dI cyB cyI cyJ cyP a0 jaR jh8 jaT jbb jhy jb6 jbs jbt jcc jcl jbW jbL jcG jaK ja1 jcp jbc jbV ja3 jbH jaq jac jbI jbl jbn jba jaa jbA jbo jbp jbk jbf jbq jbi jiK jbr jbE jbm jdB jbQ jci jcj jdh jdN jdi jfT E Q (qvk jaR jb6 jbE jbm jdB jbQ jci jcj jdh jdN jdi jfT E Q n) ih C0 _ _ _ jbz f12 (.ref jaR) (.ref jb6) f10 f11 l1 l2 l3 l4 l5 x14 x15 l9 l8 1 hP hD hS (lv_sub hl [3, 4, 5, 6, 7, 8, 1, 0, 10] rfl) hw
      · have hw := hw.2 c17
        refine lv_iconst (v := 0) hx hb (qaa qiT 14 rfl) (by decide) ?_
        refine lv_goto (tgt := 122) hx hb (qaa qiT 15 rfl) (by decide) ?_
        exact q08 dC dI cyB cyI cyJ cyP a0 jaR jh8 jaT jbb jhy jb6 jbs jbt jcc jcl jbW jbL jcG jaK ja1 jcp jbc jbV ja3 jbH jaq jac jbI jbl jbn jba jaa jbA jbo jbp jbk jbf jbq jbi jiK jbr jbE jbm jdB jbQ jci jcj jdh jdN jdi jfT E Q (qvk jaR jb6 jbE jbm jdB jbQ jci jcj jdh jdN jdi jfT E Q n) ih C0 _ _ _ jbz f12 (.ref jaR) (.ref jb6) f10 f11 l1 l2 l3 l4 l5 x14 x15 l9 l8 0 hP hD hS (lv_sub hl [3, 4, 5, 6, 7, 8, 1, 0, 10] rfl) hw
set_option maxHeartbeats 4000000 in
set_option maxRecDepth 100000 in
theorem qaZR (l : Launch) (dC : Nat → ClassId) (dI : Nat → Nat → Nat) (cyB cyI cyJ cyP : ClassId) (a0 jaR jh8 jaT jbb jhy jb6 jbs jbt jcc jcl jbW jbL jcG sz : Nat) (jaK ja1 jcp jbc jbV ja3 jbH jaq jac jbI jbl jbn jba jaa jbA jbo jbp jbk jbf jbq jbi jiK jbr : Value) (jbE jbm jdB : Int32) (jbQ jci jcj : NI) (jdh : Int32) (jdN jdi jfT : NI) (jbz : Int32) (jjV : NI) (jkp jkP : Value) (jfl jfM : NI) (p1 p2 p3 p4 p5 : Int32) {E : String → Int32 → NI → Value → Value → NI → NI → Prop} {Q : Int32 → Int32 → NI → Value → Value → NI → NI → Prop} (hw : qabK jaR jb6 jbE jbm jdB jbQ jci jcj jdh jdN jdi jfT jbz jjV jkp jkP jfl jfM p1 p2 p3 p4 p5 E Q) : vx_Met l yX10_span wsX10_span ({ frames := 8, cells := 4, slots := 24, locals := 164 }) (va_Pc [.ref a0, .int p1, .int p2, .int p3, .int p4, .int p5] (cPx l (dC, dI) (kT cyB cyI cyJ cyP) (qsN a0 jaK jaR ja1 jcp jbc jbV ja3 jbH jaT jh8 jaq jac jbI jbl jbn jba jaa jbA jbz jaR jbs jbt jbo jbp jbk jcG jbf jbq jbE jbm jbi jdB jh8 jhy jiK jkp jkP jaT jbb jbr jaR jb6 jbb cyI jbQ jhy cyI jjV jbs cyI jci jbt cyI jcj jb6 jbW jbL jcl jcc jdh jcc cyI jfl jcl cyI jfM jbW cyI jdN jbL cyI jdi jcG cyI jfT) sz)) (va_Qi (fun (r : Int32) (u : Int32 × NI × Value × Value × NI × NI) => Q r u.1 u.2.1 u.2.2.1 u.2.2.2.1 u.2.2.2.2.1 u.2.2.2.2.2) (cB (dC, dI) (kT cyB cyI cyJ cyP) (va_A (qsN a0 jaK jaR ja1 jcp jbc jbV ja3 jbH jaT jh8 jaq jac jbI jbl jbn jba jaa jbA jbz jaR jbs jbt jbo jbp jbk jcG jbf jbq jbE jbm jbi jdB jh8 jhy jiK jkp jkP jaT jbb jbr jaR jb6 jbb cyI jbQ jhy cyI jjV jbs cyI jci jbt cyI jcj jb6 jbW jbL jcl jcc jdh jcc cyI jfl jcl cyI jfM jbW cyI jdN jbL cyI jdi jcG cyI jfT) sz) (fun u : Int32 × NI × Value × Value × NI × NI => ((qsN a0 jaK jaR ja1 jcp jbc jbV ja3 jbH jaT jh8 jaq jac jbI jbl jbn jba jaa jbA u.1 jaR jbs jbt jbo jbp jbk jcG jbf jbq jbE jbm jbi jdB jh8 jhy jiK u.2.2.1 u.2.2.2.1 jaT jbb jbr jaR jb6 jbb cyI jbQ jhy cyI u.2.1 jbs cyI jci jbt cyI jcj jb6 jbW jbL jcl jcc jdh jcc cyI u.2.2.2.2.1 jcl cyI u.2.2.2.2.2 jbW cyI jdN jbL cyI jdi jcG cyI jfT) : va_W))) (va_A (qsN a0 jaK jaR ja1 jcp jbc jbV ja3 jbH jaT jh8 jaq jac jbI jbl jbn jba jaa jbA jbz jaR jbs jbt jbo jbp jbk jcG jbf jbq jbE jbm jbi jdB jh8 jhy jiK jkp jkP jaT jbb jbr jaR jb6 jbb cyI jbQ jhy cyI jjV jbs cyI jci jbt cyI jcj jb6 jbW jbL jcl jcc jdh jcc cyI jfl jcl cyI jfM jbW cyI jdN jbL cyI jdi jcG cyI jfT) sz)) (vx_X (fun _ => True) (fun (en : String) (u : Int32 × NI × Value × Value × NI × NI) (t : State) => E en u.1 u.2.1 u.2.2.1 u.2.2.2.1 u.2.2.2.2.1 u.2.2.2.2.2 ∧ cB (dC, dI) (kT cyB cyI cyJ cyP) (va_A (qsN a0 jaK jaR ja1 jcp jbc jbV ja3 jbH jaT jh8 jaq jac jbI jbl jbn jba jaa jbA jbz jaR jbs jbt jbo jbp jbk jcG jbf jbq jbE jbm jbi jdB jh8 jhy jiK jkp jkP jaT jbb jbr jaR jb6 jbb cyI jbQ jhy cyI jjV jbs cyI jci jbt cyI jcj jb6 jbW jbL jcl jcc jdh jcc cyI jfl jcl cyI jfM jbW cyI jdN jbL cyI jdi jcG cyI jfT) sz) (fun u : Int32 × NI × Value × Value × NI × NI => ((qsN a0 jaK jaR ja1 jcp jbc jbV ja3 jbH jaT jh8 jaq jac jbI jbl jbn jba jaa jbA u.1 jaR jbs jbt jbo jbp jbk jcG jbf jbq jbE jbm jbi jdB jh8 jhy jiK u.2.2.1 u.2.2.2.1 jaT jbb jbr jaR jb6 jbb cyI jbQ jhy cyI u.2.1 jbs cyI jci jbt cyI jcj jb6 jbW jbL jcl jcc jdh jcc cyI u.2.2.2.2.1 jcl cyI u.2.2.2.2.2 jbW cyI jdN jbL cyI jdi jcG cyI jfT) : va_W)) u t) (va_A (qsN a0 jaK jaR ja1 jcp jbc jbV ja3 jbH jaT jh8 jaq jac jbI jbl jbn jba jaa jbA jbz jaR jbs jbt jbo jbp jbk jcG jbf jbq jbE jbm jbi jdB jh8 jhy jiK jkp jkP jaT jbb jbr jaR jb6 jbb cyI jbQ jhy cyI jjV jbs cyI jci jbt cyI jcj jb6 jbW jbL jcl jcc jdh jcc cyI jfl jcl cyI jfM jbW cyI jdN jbL cyI jdi jcG cyI jfT) sz)) 4 24 (va_A (qsN a0 jaK jaR ja1 jcp jbc jbV ja3 jbH jaT jh8 jaq jac jbI jbl jbn jba jaa jbA jbz jaR jbs jbt jbo jbp jbk jcG jbf jbq jbE jbm jbi jdB jh8 jhy jiK jkp jkP jaT jbb jbr jaR jb6 jbb cyI jbQ jhy cyI jjV jbs cyI jci jbt cyI jcj jb6 jbW jbL jcl jcc jdh jcc cyI jfl jcl cyI jfM jbW cyI jdN jbL cyI jdi jcG cyI jfT) sz) := by
  refine vx_ofW (cc := cX10_span) (maxL := 11) (ret := (some .int)) (by decide) rfl ?_
  intro p e s m args below meth c s₁ B hml hnt hv
  obtain ⟨rfl, hsz, hP, hK, hD0, hNw, hXl, hXu, hXn, hXt⟩ := hv
  have hx := B.exec
  have hb := B.bytes
  have hr := B.returns
  have hts := atoms_spec (ws := wsX10_span) B.pre
  have hown : s.vm.findClass RX10 = some m.cls := findClass_of_methodNamed B.named
  have hlocks := B.notSynchronized
  subst hsz
  have hD := hD0.self (sz := s.heap.size)
  generalize hAe : va_A (qsN a0 jaK jaR ja1 jcp jbc jbV ja3 jbH jaT jh8 jaq jac jbI jbl jbn jba jaa jbA jbz jaR jbs jbt jbo jbp jbk jcG jbf jbq jbE jbm jbi jdB jh8 jhy jiK jkp jkP jaT jbb jbr jaR jb6 jbb cyI jbQ jhy cyI jjV jbs cyI jci jbt cyI jcj jb6 jbW jbL jcl jcc jdh jcc cyI jfl jcl cyI jfM jbW cyI jdN jbL cyI jdi jcG cyI jfT) s.heap.size = A at hD hXu hXn ⊢
  have hA : ∀ q : Nat, s.heap.size ≤ q → A q := fun q h => by rw [← hAe]; exact Or.inr h
  have hS : va_S A s.heap s.heap [] := va_S.rf
  have hP : va_P (dC, dI) vwCl (qsN a0 jaK jaR ja1 jcp jbc jbV ja3 jbH jaT jh8 jaq jac jbI jbl jbn jba jaa jbA jbz jaR jbs jbt jbo jbp jbk jcG jbf jbq jbE jbm jbi jdB jh8 jhy jiK jkp jkP jaT jbb jbr jaR jb6 jbb cyI jbQ jhy cyI jjV jbs cyI jci jbt cyI jcj jb6 jbW jbL jcl jcc jdh jcc cyI jfl jcl cyI jfM jbW cyI jdN jbL cyI jdi jcG cyI jfT) s.heap := hP
  have hl := lv_entry ([.ref a0, .int p1, .int p2, .int p3, .int p4, .int p5]) (n := 11) (nbq rfl)
  rw [lg_entry_eq]
  generalize (lg_sl ([.ref a0, .int p1, .int p2, .int p3, .int p4, .int p5]) ++ List.replicate (11 - (lg_sl ([.ref a0, .int p1, .int p2, .int p3, .int p4, .int p5])).length) Slot.unset).toArray = ls at hl ⊢
  have hl : lv_has ls 11 [(0, .ref a0), (1, .int p1), (2, .int p2), (3, .int p3), (4, .int p4), (5, .int p5)] := hl
  have hY : cfY l s A := ⟨hXl, hXu, hXn, hXt⟩
  have hXs : cfX l s c A := ⟨hnt, hY⟩
  have C0 : cfx p s m _ meth c cX10_span (some .int) wsX10_span RX10 11 A (dC, dI) (kT cyB cyI cyJ cyP) ∧ cfX l s c A := ⟨⟨hx, hb, hr, hts, hown, hlocks, hml, hA, hK, hNw⟩, hXs⟩
  clear hAe
  obtain ⟨H, hH⟩ : ∃ H, H = s.heap := ⟨_, rfl⟩
  rw [← hH] at hP ⊢
  have hS : va_S A s.heap H [] := by rw [hH]; exact va_S.rf
  have hS := hS
  refine lv_aload_n hx hb (qaa qmd 0 rfl) rfl (lv_at hl 0 rfl) ?_
  refine lv_iload_n hx hb (qaa qmd 1 rfl) rfl (lv_at hl 2 rfl) ?_
  refine lv_iconst (v := 1) hx hb (qaa qmd 2 rfl) (by decide) ?_
  refine lv_bipush (v := 20) hx hb (qaa qmd 3 rfl) (by decide) ?_
  obtain ⟨hCc, hPc, hDc, hFc⟩ := qac (ws' := (qNf a0 jaK jaR ja1 jcp jbc jbV ja3 jbH jaT jh8 jaq jac jbI jbl jbn jba jaa jbA jbz)) hP hD hS hA [0] (by decide +kernel) rfl
  refine vx_callv (vx_runV (As := [.int p2, .int 1, .int 20]) (rest := []) ⟨hx, hb, hml, hown, hts⟩ (qaV l dC dI cyB cyI cyJ cyP a0 H.size (jaK) (.ref jaR) (ja1) (jcp) (jbc) (jbV) (ja3) (jbH) (.ref jaT) (.ref jh8) (jaq) (jac) (jbI) (jbl) (jbn) (jba) (jaa) (jbA) jbz p2 1 20 hw) (cwV 3 hts gX10_span_X10_needWithin rfl rfl rfl (by decide +kernel) ⟨nbq rfl, nbq rfl⟩) ⟨qav, va_recv (q := (RX10, TX10, 19)) hK hPc (ci := 10) (q0 := 0) rfl rfl, qbl hPc hK hDc hNw hY hS hFc⟩ rfl rfl hl.1 rfl (lv_room (nbq rfl)) (qaa qmd 4 rfl) ⟨nbq rfl, nbq rfl⟩) hS (fun q _ h => hFc q h) hFc (fun q _ h => hFc q h) (fun en ce q9 u t H1 locs ht hvm hpx hB hz1 hk1 hS hc9 hv9 hcl9 => ?_) (fun u t H1 locs ht hvm hw hB hz1 hk1 hS => ?_)
  · obtain ⟨x1, rfl⟩ : ∃ z, z = u := ⟨_, rfl⟩
    obtain ⟨hw, hP1, hK1, hD1⟩ := hB
    rw [ht] at hP1
    obtain ⟨hP, hD⟩ := qad (wr := (q2f jaR jbs jbt jbo jbp jbk jcG jbf jbq jbE jbm jbi jdB jh8 jhy jiK jkp jkP jaT jbb jbr jaR jb6 jbb cyI jbQ jhy cyI jjV jbs cyI jci jbt cyI jcj jb6 jbW jbL jcl jcc jdh jcc cyI jfl jcl cyI jfM jbW cyI jdN jbL cyI jdi jcG cyI jfT)) (w1 := (qNf a0 jaK jaR ja1 jcp jbc jbV ja3 jbH jaT jh8 jaq jac jbI jbl jbn jba jaa jbA x1)) (wn := (qsN a0 jaK jaR ja1 jcp jbc jbV ja3 jbH jaT jh8 jaq jac jbI jbl jbn jba jaa jbA x1 jaR jbs jbt jbo jbp jbk jcG jbf jbq jbE jbm jbi jdB jh8 jhy jiK jkp jkP jaT jbb jbr jaR jb6 jbb cyI jbQ jhy cyI jjV jbs cyI jci jbt cyI jcj jb6 jbW jbL jcl jcc jdh jcc cyI jfl jcl cyI jfM jbW cyI jdN jbL cyI jdi jcG cyI jfT)) hP hD [0] [1, 2, 3, 4, 5, 6, 7, 8, 9, 10, 11, 12, 13] [13, 0, 1, 2, 3, 4, 5, 6, 7, 8, 9, 10, 11, 12] hCc rfl (by decide +kernel) (by decide +kernel) (by decide +kernel) rfl hk1 hFc hP1 hD1
    generalize H1 = H at hP hS hc9 ⊢
    exact vx_out (fun x hx9 => (hXs.1 x hx9).elim) hlocks hc9 hv9 hcl9 (fun t2 ht2 hal2 => ⟨(x1, jjV, jkp, jkP, jfl, jfM), trivial, ⟨hw, by rw [ht2]; exact hP, va_K.moved hal2 hK, hD⟩, hS.F ht2⟩) hS.2.2 (nbq rfl) (nbq rfl)
  obtain ⟨x1, rfl⟩ : ∃ z, z = u := ⟨_, rfl⟩
  obtain ⟨hP1, hK1, hD1⟩ := hB
  rw [ht] at hP1
  obtain ⟨hP, hD⟩ := qad (wr := (q2f jaR jbs jbt jbo jbp jbk jcG jbf jbq jbE jbm jbi jdB jh8 jhy jiK jkp jkP jaT jbb jbr jaR jb6 jbb cyI jbQ jhy cyI jjV jbs cyI jci jbt cyI jcj jb6 jbW jbL jcl jcc jdh jcc cyI jfl jcl cyI jfM jbW cyI jdN jbL cyI jdi jcG cyI jfT)) (w1 := (qNf a0 jaK jaR ja1 jcp jbc jbV ja3 jbH jaT jh8 jaq jac jbI jbl jbn jba jaa jbA x1)) (wn := (qsN a0 jaK jaR ja1 jcp jbc jbV ja3 jbH jaT jh8 jaq jac jbI jbl jbn jba jaa jbA x1 jaR jbs jbt jbo jbp jbk jcG jbf jbq jbE jbm jbi jdB jh8 jhy jiK jkp jkP jaT jbb jbr jaR jb6 jbb cyI jbQ jhy cyI jjV jbs cyI jci jbt cyI jcj jb6 jbW jbL jcl jcc jdh jcc cyI jfl jcl cyI jfM jbW cyI jdN jbL cyI jdi jcG cyI jfT)) hP hD [0] [1, 2, 3, 4, 5, 6, 7, 8, 9, 10, 11, 12, 13] [13, 0, 1, 2, 3, 4, 5, 6, 7, 8, 9, 10, 11, 12] hCc rfl (by decide +kernel) (by decide +kernel) (by decide +kernel) rfl hk1 hFc hP1 hD1
  generalize H1 = H at hP hS ⊢
  refine lv_aload_n hx hb (qaa qmd 5 rfl) rfl (lv_at hl 0 rfl) ?_
  refine lv_iload_n hx hb (qaa qmd 6 rfl) rfl (lv_at hl 3 rfl) ?_
  refine lv_iconst (v := 1) hx hb (qaa qmd 7 rfl) (by decide) ?_
  refine lv_bipush (v := 96) hx hb (qaa qmd 8 rfl) (by decide) ?_
  obtain ⟨hCc, hPc, hDc, hFc⟩ := qac (ws' := (qNf a0 jaK jaR ja1 jcp jbc jbV ja3 jbH jaT jh8 jaq jac jbI jbl jbn jba jaa jbA x1)) hP hD hS hA [0] (by decide +kernel) rfl
  refine vx_callv (vx_runV (As := [.int p3, .int 1, .int 96]) (rest := []) ⟨hx, hb, hml, hown, hts⟩ (qaV l dC dI cyB cyI cyJ cyP a0 H.size (jaK) (.ref jaR) (ja1) (jcp) (jbc) (jbV) (ja3) (jbH) (.ref jaT) (.ref jh8) (jaq) (jac) (jbI) (jbl) (jbn) (jba) (jaa) (jbA) x1 p3 1 96 hw) (cwV 3 hts gX10_span_X10_needWithin rfl rfl rfl (by decide +kernel) ⟨nbq rfl, nbq rfl⟩) ⟨qav, va_recv (q := (RX10, TX10, 19)) hK hPc (ci := 10) (q0 := 0) rfl rfl, qbl hPc hK hDc hNw hY hS hFc⟩ rfl rfl hl.1 rfl (lv_room (nbq rfl)) (qaa qmd 9 rfl) ⟨nbq rfl, nbq rfl⟩) hS (fun q _ h => hFc q h) hFc (fun q _ h => hFc q h) (fun en ce q9 u t H1 locs ht hvm hpx hB hz1 hk1 hS hc9 hv9 hcl9 => ?_) (fun u t H1 locs ht hvm hw hB hz1 hk1 hS => ?_)
  · obtain ⟨x2, rfl⟩ : ∃ z, z = u := ⟨_, rfl⟩
    obtain ⟨hw, hP1, hK1, hD1⟩ := hB
    rw [ht] at hP1
    obtain ⟨hP, hD⟩ := qad (wr := (q2f jaR jbs jbt jbo jbp jbk jcG jbf jbq jbE jbm jbi jdB jh8 jhy jiK jkp jkP jaT jbb jbr jaR jb6 jbb cyI jbQ jhy cyI jjV jbs cyI jci jbt cyI jcj jb6 jbW jbL jcl jcc jdh jcc cyI jfl jcl cyI jfM jbW cyI jdN jbL cyI jdi jcG cyI jfT)) (w1 := (qNf a0 jaK jaR ja1 jcp jbc jbV ja3 jbH jaT jh8 jaq jac jbI jbl jbn jba jaa jbA x2)) (wn := (qsN a0 jaK jaR ja1 jcp jbc jbV ja3 jbH jaT jh8 jaq jac jbI jbl jbn jba jaa jbA x2 jaR jbs jbt jbo jbp jbk jcG jbf jbq jbE jbm jbi jdB jh8 jhy jiK jkp jkP jaT jbb jbr jaR jb6 jbb cyI jbQ jhy cyI jjV jbs cyI jci jbt cyI jcj jb6 jbW jbL jcl jcc jdh jcc cyI jfl jcl cyI jfM jbW cyI jdN jbL cyI jdi jcG cyI jfT)) hP hD [0] [1, 2, 3, 4, 5, 6, 7, 8, 9, 10, 11, 12, 13] [13, 0, 1, 2, 3, 4, 5, 6, 7, 8, 9, 10, 11, 12] hCc rfl (by decide +kernel) (by decide +kernel) (by decide +kernel) rfl hk1 hFc hP1 hD1
    generalize H1 = H at hP hS hc9 ⊢
    exact vx_out (fun x hx9 => (hXs.1 x hx9).elim) hlocks hc9 hv9 hcl9 (fun t2 ht2 hal2 => ⟨(x2, jjV, jkp, jkP, jfl, jfM), trivial, ⟨hw, by rw [ht2]; exact hP, va_K.moved hal2 hK, hD⟩, hS.F ht2⟩) hS.2.2 (nbq rfl) (nbq rfl)
  obtain ⟨x2, rfl⟩ : ∃ z, z = u := ⟨_, rfl⟩
  obtain ⟨hP1, hK1, hD1⟩ := hB
  rw [ht] at hP1
  obtain ⟨hP, hD⟩ := qad (wr := (q2f jaR jbs jbt jbo jbp jbk jcG jbf jbq jbE jbm jbi jdB jh8 jhy jiK jkp jkP jaT jbb jbr jaR jb6 jbb cyI jbQ jhy cyI jjV jbs cyI jci jbt cyI jcj jb6 jbW jbL jcl jcc jdh jcc cyI jfl jcl cyI jfM jbW cyI jdN jbL cyI jdi jcG cyI jfT)) (w1 := (qNf a0 jaK jaR ja1 jcp jbc jbV ja3 jbH jaT jh8 jaq jac jbI jbl jbn jba jaa jbA x2)) (wn := (qsN a0 jaK jaR ja1 jcp jbc jbV ja3 jbH jaT jh8 jaq jac jbI jbl jbn jba jaa jbA x2 jaR jbs jbt jbo jbp jbk jcG jbf jbq jbE jbm jbi jdB jh8 jhy jiK jkp jkP jaT jbb jbr jaR jb6 jbb cyI jbQ jhy cyI jjV jbs cyI jci jbt cyI jcj jb6 jbW jbL jcl jcc jdh jcc cyI jfl jcl cyI jfM jbW cyI jdN jbL cyI jdi jcG cyI jfT)) hP hD [0] [1, 2, 3, 4, 5, 6, 7, 8, 9, 10, 11, 12, 13] [13, 0, 1, 2, 3, 4, 5, 6, 7, 8, 9, 10, 11, 12] hCc rfl (by decide +kernel) (by decide +kernel) (by decide +kernel) rfl hk1 hFc hP1 hD1
  generalize H1 = H at hP hS ⊢
  refine lv_aload_n hx hb (qaa qmd 10 rfl) rfl (lv_at hl 0 rfl) ?_
  refine lv_iload hx hb (qaa qmd 11 rfl) (lv_at hl 4 rfl) ?_
  refine lv_iconst (v := 0) hx hb (qaa qmd 12 rfl) (by decide) ?_
  refine lv_iconst (v := 2) hx hb (qaa qmd 13 rfl) (by decide) ?_
  obtain ⟨hCc, hPc, hDc, hFc⟩ := qac (ws' := (qNf a0 jaK jaR ja1 jcp jbc jbV ja3 jbH jaT jh8 jaq jac jbI jbl jbn jba jaa jbA x2)) hP hD hS hA [0] (by decide +kernel) rfl
  refine vx_callv (vx_runV (As := [.int p4, .int 0, .int 2]) (rest := []) ⟨hx, hb, hml, hown, hts⟩ (qaV l dC dI cyB cyI cyJ cyP a0 H.size (jaK) (.ref jaR) (ja1) (jcp) (jbc) (jbV) (ja3) (jbH) (.ref jaT) (.ref jh8) (jaq) (jac) (jbI) (jbl) (jbn) (jba) (jaa) (jbA) x2 p4 0 2 hw) (cwV 3 hts gX10_span_X10_needWithin rfl rfl rfl (by decide +kernel) ⟨nbq rfl, nbq rfl⟩) ⟨qav, va_recv (q := (RX10, TX10, 19)) hK hPc (ci := 10) (q0 := 0) rfl rfl, qbl hPc hK hDc hNw hY hS hFc⟩ rfl rfl hl.1 rfl (lv_room (nbq rfl)) (qaa qmd 14 rfl) ⟨nbq rfl, nbq rfl⟩) hS (fun q _ h => hFc q h) hFc (fun q _ h => hFc q h) (fun en ce q9 u t H1 locs ht hvm hpx hB hz1 hk1 hS hc9 hv9 hcl9 => ?_) (fun u t H1 locs ht hvm hw hB hz1 hk1 hS => ?_)
  · obtain ⟨x3, rfl⟩ : ∃ z, z = u := ⟨_, rfl⟩
    obtain ⟨hw, hP1, hK1, hD1⟩ := hB
    rw [ht] at hP1
    obtain ⟨hP, hD⟩ := qad (wr := (q2f jaR jbs jbt jbo jbp jbk jcG jbf jbq jbE jbm jbi jdB jh8 jhy jiK jkp jkP jaT jbb jbr jaR jb6 jbb cyI jbQ jhy cyI jjV jbs cyI jci jbt cyI jcj jb6 jbW jbL jcl jcc jdh jcc cyI jfl jcl cyI jfM jbW cyI jdN jbL cyI jdi jcG cyI jfT)) (w1 := (qNf a0 jaK jaR ja1 jcp jbc jbV ja3 jbH jaT jh8 jaq jac jbI jbl jbn jba jaa jbA x3)) (wn := (qsN a0 jaK jaR ja1 jcp jbc jbV ja3 jbH jaT jh8 jaq jac jbI jbl jbn jba jaa jbA x3 jaR jbs jbt jbo jbp jbk jcG jbf jbq jbE jbm jbi jdB jh8 jhy jiK jkp jkP jaT jbb jbr jaR jb6 jbb cyI jbQ jhy cyI jjV jbs cyI jci jbt cyI jcj jb6 jbW jbL jcl jcc jdh jcc cyI jfl jcl cyI jfM jbW cyI jdN jbL cyI jdi jcG cyI jfT)) hP hD [0] [1, 2, 3, 4, 5, 6, 7, 8, 9, 10, 11, 12, 13] [13, 0, 1, 2, 3, 4, 5, 6, 7, 8, 9, 10, 11, 12] hCc rfl (by decide +kernel) (by decide +kernel) (by decide +kernel) rfl hk1 hFc hP1 hD1
    generalize H1 = H at hP hS hc9 ⊢
    exact vx_out (fun x hx9 => (hXs.1 x hx9).elim) hlocks hc9 hv9 hcl9 (fun t2 ht2 hal2 => ⟨(x3, jjV, jkp, jkP, jfl, jfM), trivial, ⟨hw, by rw [ht2]; exact hP, va_K.moved hal2 hK, hD⟩, hS.F ht2⟩) hS.2.2 (nbq rfl) (nbq rfl)
  obtain ⟨x3, rfl⟩ : ∃ z, z = u := ⟨_, rfl⟩
  obtain ⟨hP1, hK1, hD1⟩ := hB
  rw [ht] at hP1
  obtain ⟨hP, hD⟩ := qad (wr := (q2f jaR jbs jbt jbo jbp jbk jcG jbf jbq jbE jbm jbi jdB jh8 jhy jiK jkp jkP jaT jbb jbr jaR jb6 jbb cyI jbQ jhy cyI jjV jbs cyI jci jbt cyI jcj jb6 jbW jbL jcl jcc jdh jcc cyI jfl jcl cyI jfM jbW cyI jdN jbL cyI jdi jcG cyI jfT)) (w1 := (qNf a0 jaK jaR ja1 jcp jbc jbV ja3 jbH jaT jh8 jaq jac jbI jbl jbn jba jaa jbA x3)) (wn := (qsN a0 jaK jaR ja1 jcp jbc jbV ja3 jbH jaT jh8 jaq jac jbI jbl jbn jba jaa jbA x3 jaR jbs jbt jbo jbp jbk jcG jbf jbq jbE jbm jbi jdB jh8 jhy jiK jkp jkP jaT jbb jbr jaR jb6 jbb cyI jbQ jhy cyI jjV jbs cyI jci jbt cyI jcj jb6 jbW jbL jcl jcc jdh jcc cyI jfl jcl cyI jfM jbW cyI jdN jbL cyI jdi jcG cyI jfT)) hP hD [0] [1, 2, 3, 4, 5, 6, 7, 8, 9, 10, 11, 12, 13] [13, 0, 1, 2, 3, 4, 5, 6, 7, 8, 9, 10, 11, 12] hCc rfl (by decide +kernel) (by decide +kernel) (by decide +kernel) rfl hk1 hFc hP1 hD1
  generalize H1 = H at hP hS ⊢
  refine lv_aload_n hx hb (qaa qmd 15 rfl) rfl (lv_at hl 0 rfl) ?_
  refine lv_iload hx hb (qaa qj8 0 rfl) (lv_at hl 5 rfl) ?_
  refine lv_iconst (v := 0) hx hb (qaa qj8 1 rfl) (by decide) ?_
  refine lv_aload_n hx hb (qaa qj8 2 rfl) rfl (lv_at hl 0 rfl) ?_
  refine va_get (D := (dC, dI)) (ci := 10) (v := .ref jaR) (C := RX10) (T := TX10) (N := 19) hx hb hts qBB hown hK hP 0 rfl rfl 1 (by decide) (hts _ qazw) (fun _ h9 => h9) rfl (qaa qj8 3 rfl) ?_
  refine va_get (D := (dC, dI)) (ci := 2) (v := .int jbm) (C := RX2) (T := TX2) (N := 12) hx hb hts qaKq hown hK hP 1 rfl rfl 9 (by decide) (hts _ qarC) (fun _ h9 => h9) rfl (qaa qj8 4 rfl) ?_
  refine lv_iconst (v := 1) hx hb (qaa qj8 5 rfl) (by decide) ?_
  refine lv_isub hx hb (qaa qj8 6 rfl) ?_
  obtain ⟨hCc, hPc, hDc, hFc⟩ := qac (ws' := (qNf a0 jaK jaR ja1 jcp jbc jbV ja3 jbH jaT jh8 jaq jac jbI jbl jbn jba jaa jbA x3)) hP hD hS hA [0] (by decide +kernel) rfl
  refine vx_callv (vx_runV (As := [.int p5, .int 0, .int (jbm - 1)]) (rest := []) ⟨hx, hb, hml, hown, hts⟩ (qaV l dC dI cyB cyI cyJ cyP a0 H.size (jaK) (.ref jaR) (ja1) (jcp) (jbc) (jbV) (ja3) (jbH) (.ref jaT) (.ref jh8) (jaq) (jac) (jbI) (jbl) (jbn) (jba) (jaa) (jbA) x3 p5 0 (jbm - 1) hw) (cwV 3 hts gX10_span_X10_needWithin rfl rfl rfl (by decide +kernel) ⟨nbq rfl, nbq rfl⟩) ⟨qav, va_recv (q := (RX10, TX10, 19)) hK hPc (ci := 10) (q0 := 0) rfl rfl, qbl hPc hK hDc hNw hY hS hFc⟩ rfl rfl hl.1 rfl (lv_room (nbq rfl)) (qaa qj8 7 rfl) ⟨nbq rfl, nbq rfl⟩) hS (fun q _ h => hFc q h) hFc (fun q _ h => hFc q h) (fun en ce q9 u t H1 locs ht hvm hpx hB hz1 hk1 hS hc9 hv9 hcl9 => ?_) (fun u t H1 locs ht hvm hw hB hz1 hk1 hS => ?_)
  · obtain ⟨x4, rfl⟩ : ∃ z, z = u := ⟨_, rfl⟩
    obtain ⟨hw, hP1, hK1, hD1⟩ := hB
    rw [ht] at hP1
    obtain ⟨hP, hD⟩ := qad (wr := (q2f jaR jbs jbt jbo jbp jbk jcG jbf jbq jbE jbm jbi jdB jh8 jhy jiK jkp jkP jaT jbb jbr jaR jb6 jbb cyI jbQ jhy cyI jjV jbs cyI jci jbt cyI jcj jb6 jbW jbL jcl jcc jdh jcc cyI jfl jcl cyI jfM jbW cyI jdN jbL cyI jdi jcG cyI jfT)) (w1 := (qNf a0 jaK jaR ja1 jcp jbc jbV ja3 jbH jaT jh8 jaq jac jbI jbl jbn jba jaa jbA x4)) (wn := (qsN a0 jaK jaR ja1 jcp jbc jbV ja3 jbH jaT jh8 jaq jac jbI jbl jbn jba jaa jbA x4 jaR jbs jbt jbo jbp jbk jcG jbf jbq jbE jbm jbi jdB jh8 jhy jiK jkp jkP jaT jbb jbr jaR jb6 jbb cyI jbQ jhy cyI jjV jbs cyI jci jbt cyI jcj jb6 jbW jbL jcl jcc jdh jcc cyI jfl jcl cyI jfM jbW cyI jdN jbL cyI jdi jcG cyI jfT)) hP hD [0] [1, 2, 3, 4, 5, 6, 7, 8, 9, 10, 11, 12, 13] [13, 0, 1, 2, 3, 4, 5, 6, 7, 8, 9, 10, 11, 12] hCc rfl (by decide +kernel) (by decide +kernel) (by decide +kernel) rfl hk1 hFc hP1 hD1
    generalize H1 = H at hP hS hc9 ⊢
    exact vx_out (fun x hx9 => (hXs.1 x hx9).elim) hlocks hc9 hv9 hcl9 (fun t2 ht2 hal2 => ⟨(x4, jjV, jkp, jkP, jfl, jfM), trivial, ⟨hw, by rw [ht2]; exact hP, va_K.moved hal2 hK, hD⟩, hS.F ht2⟩) hS.2.2 (nbq rfl) (nbq rfl)
  obtain ⟨x4, rfl⟩ : ∃ z, z = u := ⟨_, rfl⟩
  obtain ⟨hP1, hK1, hD1⟩ := hB
  rw [ht] at hP1
  obtain ⟨hP, hD⟩ := qad (wr := (q2f jaR jbs jbt jbo jbp jbk jcG jbf jbq jbE jbm jbi jdB jh8 jhy jiK jkp jkP jaT jbb jbr jaR jb6 jbb cyI jbQ jhy cyI jjV jbs cyI jci jbt cyI jcj jb6 jbW jbL jcl jcc jdh jcc cyI jfl jcl cyI jfM jbW cyI jdN jbL cyI jdi jcG cyI jfT)) (w1 := (qNf a0 jaK jaR ja1 jcp jbc jbV ja3 jbH jaT jh8 jaq jac jbI jbl jbn jba jaa jbA x4)) (wn := (qsN a0 jaK jaR ja1 jcp jbc jbV ja3 jbH jaT jh8 jaq jac jbI jbl jbn jba jaa jbA x4 jaR jbs jbt jbo jbp jbk jcG jbf jbq jbE jbm jbi jdB jh8 jhy jiK jkp jkP jaT jbb jbr jaR jb6 jbb cyI jbQ jhy cyI jjV jbs cyI jci jbt cyI jcj jb6 jbW jbL jcl jcc jdh jcc cyI jfl jcl cyI jfM jbW cyI jdN jbL cyI jdi jcG cyI jfT)) hP hD [0] [1, 2, 3, 4, 5, 6, 7, 8, 9, 10, 11, 12, 13] [13, 0, 1, 2, 3, 4, 5, 6, 7, 8, 9, 10, 11, 12] hCc rfl (by decide +kernel) (by decide +kernel) (by decide +kernel) rfl hk1 hFc hP1 hD1
  generalize H1 = H at hP hS ⊢
  refine lv_ldcw (v := 2147483647) hx hb hown (hts _ qaux) (qaa qj8 8 rfl) ?_
  refine lv_istore (lv' := [(6, .int 2147483647), (0, .ref a0), (1, .int p1), (2, .int p2), (3, .int p3), (4, .int p4), (5, .int p5)]) hx hb (qaa qj8 9 rfl) hl (by decide) rfl (fun ls hl => ?_)
  refine lv_iconst (v := 0) hx hb (qaa qj8 10 rfl) (by decide) ?_
  refine lv_istore (lv' := [(7, .int 0), (6, .int 2147483647), (0, .ref a0), (1, .int p1), (2, .int p2), (3, .int p3), (4, .int p4), (5, .int p5)]) hx hb (qaa qj8 11 rfl) hl (by decide) rfl (fun ls hl => ?_)
  refine lv_iconst (v := 0) hx hb (qaa qj8 12 rfl) (by decide) ?_
  refine lv_istore (lv' := [(8, .int 0), (7, .int 0), (6, .int 2147483647), (0, .ref a0), (1, .int p1), (2, .int p2), (3, .int p3), (4, .int p4), (5, .int p5)]) hx hb (qaa qj8 13 rfl) hl (by decide) rfl (fun ls hl => ?_)
  refine lv_iconst (v := 0) hx hb (qaa qj8 14 rfl) (by decide) ?_
  refine lv_istore (lv' := [(9, .int 0), (8, .int 0), (7, .int 0), (6, .int 2147483647), (0, .ref a0), (1, .int p1), (2, .int p2), (3, .int p3), (4, .int p4), (5, .int p5)]) hx hb (qaa qj8 15 rfl) hl (by decide) rfl (fun ls hl => ?_)
  obtain ⟨n9, hw⟩ := hw
  exact qaIs dC dI cyB cyI cyJ cyP a0 jaR jh8 jaT jbb jhy jb6 jbs jbt jcc jcl jbW jbL jcG jaK ja1 jcp jbc jbV ja3 jbH jaq jac jbI jbl jbn jba jaa jbA jbo jbp jbk jbf jbq jbi jiK jbr jbE jbm jdB jbQ jci jcj jdh jdN jdi jfT E Q C0 n9 _ _ _ x4 jjV jkp jkP jfl jfM p1 p2 p3 p4 p5 2147483647 0 0 0 hP hD hS (lv_sub hl [4, 5, 6, 7, 8, 9, 3, 2, 1, 0] rfl) hw
theorem qaHP : (.classLink RL 13 "java/lang/IllegalArgumentException" : Cond) ∈ wsL_span := qavc 595 (by decide +kernel)
theorem qaU9 : (.codeWith yL_span cL_span 8 (some .int) [(0, 16, 19, 13)] : Cond) ∈ wsL_span := qavc 4167 (by decide +kernel)
set_option maxHeartbeats 4000000 in
set_option maxRecDepth 100000 in
theorem qa8d (l : Launch) (dC : Nat → ClassId) (dI : Nat → Nat → Nat) (cyB cyI cyJ cyP : ClassId) (a0 a6 jaR jh8 jaT jbb jhy jbs jbt jb6 jcc jcl jbW jbL jcG sz : Nat) (jaK ja1 jbc jbV ja3 jbH jaq jac jbI jbl jbn jba jaa jbA jbo jbp jbk jbf jbq jbi jiK jbr : Value) (n6 : Nat) (jbE jbm jdB : Int32) (jbQ jci jcj : NI) (jdh : Int32) (jdN jdi jfT : NI) (jbz : Int32) (jjV : NI) (jkp jkP : Value) (jfl jfM : NI) (f6 : Nat → Int64) (p1 p2 p3 p4 p5 : Int32) {Q : Int32 → Int32 → NI → Value → Value → NI → NI → (Nat → Int64) → Prop} (hw : qaS4 jaR jb6 n6 jbE jbm jdB jbQ jci jcj jdh jdN jdi jfT jbz jjV jkp jkP jfl jfM f6 p1 p2 p3 p4 p5 Q) : Met l yL_span wsL_span ({ frames := 9, cells := 4, slots := 24, locals := 194 }) (va_Pc [.ref a0, .int p1, .int p2, .int p3, .int p4, .int p5, .ref a6] (cPx l (dC, dI) (kT cyB cyI cyJ cyP) (qMr a0 jaK jaR ja1 jb6 jbc jbV ja3 jbH jaT jh8 jaq jac jbI jbl jbn jba jaa jbA jbz jaR jbs jbt jbo jbp jbk jcG jbf jbq jbE jbm jbi jdB jh8 jhy jiK jkp jkP jaT jbb jbr jaR jb6 jbb cyI jbQ jhy cyI jjV jbs cyI jci jbt cyI jcj jb6 jbW jbL jcl jcc jdh jcc cyI jfl jcl cyI jfM jbW cyI jdN jbL cyI jdi jcG cyI jfT a6 cyJ n6 f6) sz)) (va_Qi (fun (r : Int32) (u : Int32 × NI × Value × Value × NI × NI × (Nat → Int64)) => Q r u.1 u.2.1 u.2.2.1 u.2.2.2.1 u.2.2.2.2.1 u.2.2.2.2.2.1 u.2.2.2.2.2.2) (cB (dC, dI) (kT cyB cyI cyJ cyP) (va_A (qMr a0 jaK jaR ja1 jb6 jbc jbV ja3 jbH jaT jh8 jaq jac jbI jbl jbn jba jaa jbA jbz jaR jbs jbt jbo jbp jbk jcG jbf jbq jbE jbm jbi jdB jh8 jhy jiK jkp jkP jaT jbb jbr jaR jb6 jbb cyI jbQ jhy cyI jjV jbs cyI jci jbt cyI jcj jb6 jbW jbL jcl jcc jdh jcc cyI jfl jcl cyI jfM jbW cyI jdN jbL cyI jdi jcG cyI jfT a6 cyJ n6 f6) sz) (fun u : Int32 × NI × Value × Value × NI × NI × (Nat → Int64) => ((qMr a0 jaK jaR ja1 jb6 jbc jbV ja3 jbH jaT jh8 jaq jac jbI jbl jbn jba jaa jbA u.1 jaR jbs jbt jbo jbp jbk jcG jbf jbq jbE jbm jbi jdB jh8 jhy jiK u.2.2.1 u.2.2.2.1 jaT jbb jbr jaR jb6 jbb cyI jbQ jhy cyI u.2.1 jbs cyI jci jbt cyI jcj jb6 jbW jbL jcl jcc jdh jcc cyI u.2.2.2.2.1 jcl cyI u.2.2.2.2.2.1 jbW cyI jdN jbL cyI jdi jcG cyI jfT a6 cyJ n6 u.2.2.2.2.2.2) : va_W))) (va_A (qMr a0 jaK jaR ja1 jb6 jbc jbV ja3 jbH jaT jh8 jaq jac jbI jbl jbn jba jaa jbA jbz jaR jbs jbt jbo jbp jbk jcG jbf jbq jbE jbm jbi jdB jh8 jhy jiK jkp jkP jaT jbb jbr jaR jb6 jbb cyI jbQ jhy cyI jjV jbs cyI jci jbt cyI jcj jb6 jbW jbL jcl jcc jdh jcc cyI jfl jcl cyI jfM jbW cyI jdN jbL cyI jdi jcG cyI jfT a6 cyJ n6 f6) sz)) 4 24 (va_A (qMr a0 jaK jaR ja1 jb6 jbc jbV ja3 jbH jaT jh8 jaq jac jbI jbl jbn jba jaa jbA jbz jaR jbs jbt jbo jbp jbk jcG jbf jbq jbE jbm jbi jdB jh8 jhy jiK jkp jkP jaT jbb jbr jaR jb6 jbb cyI jbQ jhy cyI jjV jbs cyI jci jbt cyI jcj jb6 jbW jbL jcl jcc jdh jcc cyI jfl jcl cyI jfM jbW cyI jdN jbL cyI jdi jcG cyI jfT a6 cyJ n6 f6) sz) := by
  refine va_MetW (cc := cL_span) (maxL := 8) (ret := (some .int)) (by decide) rfl ?_
  intro p e s m args below meth c s₁ B hml hv
  obtain ⟨rfl, hsz, hP, hK, hD0, hNw, hXl, hXu, hXn, hXt⟩ := hv
  have hx := B.exec
  have hb := B.bytes
  have hr := B.returns
  have hts := atoms_spec (ws := wsL_span) B.pre
  have hown : s.vm.findClass RL = some m.cls := findClass_of_methodNamed B.named
  have hlocks := B.notSynchronized
  subst hsz
  have hD := hD0.self (sz := s.heap.size)
  generalize hAe : va_A (qMr a0 jaK jaR ja1 jb6 jbc jbV ja3 jbH jaT jh8 jaq jac jbI jbl jbn jba jaa jbA jbz jaR jbs jbt jbo jbp jbk jcG jbf jbq jbE jbm jbi jdB jh8 jhy jiK jkp jkP jaT jbb jbr jaR jb6 jbb cyI jbQ jhy cyI jjV jbs cyI jci jbt cyI jcj jb6 jbW jbL jcl jcc jdh jcc cyI jfl jcl cyI jfM jbW cyI jdN jbL cyI jdi jcG cyI jfT a6 cyJ n6 f6) s.heap.size = A at hD hXu hXn ⊢
  have hA : ∀ q : Nat, s.heap.size ≤ q → A q := fun q h => by rw [← hAe]; exact Or.inr h
  have hS : va_S A s.heap s.heap [] := va_S.rf
  have hP : va_P (dC, dI) vwCl (qMr a0 jaK jaR ja1 jb6 jbc jbV ja3 jbH jaT jh8 jaq jac jbI jbl jbn jba jaa jbA jbz jaR jbs jbt jbo jbp jbk jcG jbf jbq jbE jbm jbi jdB jh8 jhy jiK jkp jkP jaT jbb jbr jaR jb6 jbb cyI jbQ jhy cyI jjV jbs cyI jci jbt cyI jcj jb6 jbW jbL jcl jcc jdh jcc cyI jfl jcl cyI jfM jbW cyI jdN jbL cyI jdi jcG cyI jfT a6 cyJ n6 f6) s.heap := hP
  have hl := lv_entry ([.ref a0, .int p1, .int p2, .int p3, .int p4, .int p5, .ref a6]) (n := 8) (nbq rfl)
  rw [lg_entry_eq]
  generalize (lg_sl ([.ref a0, .int p1, .int p2, .int p3, .int p4, .int p5, .ref a6]) ++ List.replicate (8 - (lg_sl ([.ref a0, .int p1, .int p2, .int p3, .int p4, .int p5, .ref a6])).length) Slot.unset).toArray = ls at hl ⊢
  have hl : lv_has ls 8 [(0, .ref a0), (1, .int p1), (2, .int p2), (3, .int p3), (4, .int p4), (5, .int p5), (6, .ref a6)] := hl
  have hY : cfY l s A := ⟨hXl, hXu, hXn, hXt⟩
  have hTb := vx_table (x := yL_span) B (hts _ qaU9)
  clear hAe
  obtain ⟨H, hH⟩ : ∃ H, H = s.heap := ⟨_, rfl⟩
  rw [← hH] at hP ⊢
  have hS : va_S A s.heap H [] := by rw [hH]; exact va_S.rf
  have hS := hS
  refine lv_aload hx hb (qaa qp3 0 rfl) (lv_at hl 6 rfl) ?_
  refine lv_iconst (v := 0) hx hb (qaa qp3 1 rfl) (by decide) ?_
  refine lv_aload_n hx hb (qaa qp3 2 rfl) rfl (lv_at hl 0 rfl) ?_
  refine lv_iload_n hx hb (qaa qp3 3 rfl) rfl (lv_at hl 1 rfl) ?_
  refine lv_iload_n hx hb (qaa qp3 4 rfl) rfl (lv_at hl 2 rfl) ?_
  refine lv_iload_n hx hb (qaa qp3 5 rfl) rfl (lv_at hl 3 rfl) ?_
  refine lv_iload hx hb (qaa qp3 6 rfl) (lv_at hl 4 rfl) ?_
  refine lv_iload hx hb (qaa qp3 7 rfl) (lv_at hl 5 rfl) ?_
  obtain ⟨hCc, hPc, hDc, hFc⟩ := qac (ws' := (qaZh a0 jaK jaR ja1 jb6 jbc jbV ja3 jbH jaT jh8 jaq jac jbI jbl jbn jba jaa jbA jbz jaR jbs jbt jbo jbp jbk jcG jbf jbq jbE jbm jbi jdB jh8 jhy jiK jkp jkP jaT jbb jbr jaR jb6 jbb cyI jbQ jhy cyI jjV jbs cyI jci jbt cyI jcj jb6 jbW jbL jcl jcc jdh jcc cyI jfl jcl cyI jfM jbW cyI jdN jbL cyI jdi jcG cyI jfT)) hP hD hS hA [0, 1, 2, 3, 4, 5, 6, 7, 8, 9, 10, 11, 12, 13] (by decide +kernel) rfl
  refine vx_calli (vx_runV (As := [.int p1, .int p2, .int p3, .int p4, .int p5]) (rest := [.int 0, .ref a6]) ⟨hx, hb, hml, hown, hts⟩ (qaZR l dC dI cyB cyI cyJ cyP a0 jaR jh8 jaT jbb jhy jb6 jbs jbt jcc jcl jbW jbL jcG H.size (jaK) (ja1) (.ref jb6) (jbc) (jbV) (ja3) (jbH) (jaq) (jac) (jbI) (jbl) (jbn) (jba) (jaa) (jbA) (jbo) (jbp) (jbk) (jbf) (jbq) (jbi) (jiK) (jbr) jbE jbm jdB jbQ jci jcj jdh jdN jdi jfT jbz jjV jkp jkP jfl jfM p1 p2 p3 p4 p5 hw) (cwV 5 hts gL_span_X10_span rfl rfl rfl (by decide +kernel) ⟨nbq rfl, nbq rfl⟩) ⟨qav, va_recv (q := (RX10, TX10, 19)) hK hPc (ci := 10) (q0 := 0) rfl rfl, qbl hPc hK hDc hNw hY hS hFc⟩ rfl rfl hl.1 rfl (lv_room (nbq rfl)) (qaa qp3 8 rfl) ⟨nbq rfl, nbq rfl⟩) hS (fun q _ h => hFc q h) hFc (fun q _ h => hFc q h) (fun en ce qx9 u t H1 locs ht hvm hpx hB hz1 hk1 hS hc9 hv9 hcl9 => ?_) (fun r8 u t H1 locs ht hvm hw hB hz1 hk1 hS => ?_)
  · obtain ⟨x1, f2, q3, q4, f5, f7⟩ := u
    obtain ⟨hw, hP1, hK1, hD1⟩ := hB
    rw [ht] at hP1
    obtain ⟨hP, hD⟩ := qad (wr := [(a6, .inl (cyJ, n6, .inr (.inl f6)))]) (w1 := (qaZh a0 jaK jaR ja1 jb6 jbc jbV ja3 jbH jaT jh8 jaq jac jbI jbl jbn jba jaa jbA x1 jaR jbs jbt jbo jbp jbk jcG jbf jbq jbE jbm jbi jdB jh8 jhy jiK q3 q4 jaT jbb jbr jaR jb6 jbb cyI jbQ jhy cyI f2 jbs cyI jci jbt cyI jcj jb6 jbW jbL jcl jcc jdh jcc cyI f5 jcl cyI f7 jbW cyI jdN jbL cyI jdi jcG cyI jfT)) (wn := (qMr a0 jaK jaR ja1 jb6 jbc jbV ja3 jbH jaT jh8 jaq jac jbI jbl jbn jba jaa jbA x1 jaR jbs jbt jbo jbp jbk jcG jbf jbq jbE jbm jbi jdB jh8 jhy jiK q3 q4 jaT jbb jbr jaR jb6 jbb cyI jbQ jhy cyI f2 jbs cyI jci jbt cyI jcj jb6 jbW jbL jcl jcc jdh jcc cyI f5 jcl cyI f7 jbW cyI jdN jbL cyI jdi jcG cyI jfT a6 cyJ n6 f6)) hP hD [0, 1, 2, 3, 4, 5, 6, 7, 8, 9, 10, 11, 12, 13] [14] [1, 2, 3, 4, 5, 6, 7, 8, 9, 10, 11, 12, 13, 14, 0] hCc rfl (by decide +kernel) (by decide +kernel) (by decide +kernel) rfl hk1 hFc hP1 hD1
    generalize H1 = H at hP hS hc9 ⊢
    obtain ⟨rfl, hw⟩ := hw
    refine vx_catch (own := RL) (name := "java/lang/IllegalArgumentException") hown [] ⟨0, 16, 19, 13⟩ [] (hTb.trans rfl) (fun z hz => nomatch hz) (by decide) (by decide) (hts _ qaHP) (va_Nw.use rfl (hY.2.2.2.1.2 _ (List.mem_of_getElem? (i := 0) rfl))) hc9 hv9 hcl9 ?_
    refine lv_astore (lv' := [(7, .ref qx9), (0, .ref a0), (1, .int p1), (2, .int p2), (3, .int p3), (4, .int p4), (5, .int p5), (6, .ref a6)]) hx hb (qaa qp3 12 rfl) hl (by decide) rfl (fun ls hl => ?_)
    refine lv_iconst (v := 1) hx hb (qaa qp3 13 rfl) (by decide) ?_
    exact (W.widen (k := 4) (n := 24) (nbq rfl) (nbq rfl) (W.iret (v := 1) hx hb hr (fun t ht hW => ⟨⟨1, (x1, f2, q3, q4, f5, f7, f6), rfl, hw, by rw [ht]; exact hP, va_K.moved hW.alike hK, hD⟩, hS.F ht⟩) hS.2.2 (qaa qp3 14 rfl)))
  obtain ⟨x1, f2, q3, q4, f5, f7⟩ := u
  obtain ⟨hP1, hK1, hD1⟩ := hB
  rw [ht] at hP1
  obtain ⟨hP, hD⟩ := va_join (wr := [(a6, .inl (cyJ, n6, .inr (.inl f6)))]) (w1 := (qaZh a0 jaK jaR ja1 jb6 jbc jbV ja3 jbH jaT jh8 jaq jac jbI jbl jbn jba jaa jbA x1 jaR jbs jbt jbo jbp jbk jcG jbf jbq jbE jbm jbi jdB jh8 jhy jiK q3 q4 jaT jbb jbr jaR jb6 jbb cyI jbQ jhy cyI f2 jbs cyI jci jbt cyI jcj jb6 jbW jbL jcl jcc jdh jcc cyI f5 jcl cyI f7 jbW cyI jdN jbL cyI jdi jcG cyI jfT)) hP hD [0, 1, 2, 3, 4, 5, 6, 7, 8, 9, 10, 11, 12, 13] [14] rfl rfl (by decide) (by decide) hk1 hFc hP1 hD1
  have hP : va_P (dC, dI) vwCl (qMr a0 jaK jaR ja1 jb6 jbc jbV ja3 jbH jaT jh8 jaq jac jbI jbl jbn jba jaa jbA x1 jaR jbs jbt jbo jbp jbk jcG jbf jbq jbE jbm jbi jdB jh8 jhy jiK q3 q4 jaT jbb jbr jaR jb6 jbb cyI jbQ jhy cyI f2 jbs cyI jci jbt cyI jcj jb6 jbW jbL jcl jcc jdh jcc cyI f5 jcl cyI f7 jbW cyI jdN jbL cyI jdi jcG cyI jfT a6 cyJ n6 f6) H1 := hP.sub [1, 2, 3, 4, 5, 6, 7, 8, 9, 10, 11, 12, 13, 14, 0] rfl
  have hD : va_D A (qMr a0 jaK jaR ja1 jb6 jbc jbV ja3 jbH jaT jh8 jaq jac jbI jbl jbn jba jaa jbA x1 jaR jbs jbt jbo jbp jbk jcG jbf jbq jbE jbm jbi jdB jh8 jhy jiK q3 q4 jaT jbb jbr jaR jb6 jbb cyI jbQ jhy cyI f2 jbs cyI jci jbt cyI jcj jb6 jbW jbL jcl jcc jdh jcc cyI f5 jcl cyI f7 jbW cyI jdN jbL cyI jdi jcG cyI jfT a6 cyJ n6 f6) := hD.sub [1, 2, 3, 4, 5, 6, 7, 8, 9, 10, 11, 12, 13, 14, 0] (by decide) rfl
  generalize H1 = H at hP hS ⊢
  refine lv_i2l (v := r8.toInt64) hx hb (qaa qp3 9 rfl) rfl ?_
  refine lv_topl (fun x9 ex9 => ?_)
  have hw := hw x9 ex9
  obtain ⟨hi9, hw⟩ := hw
  refine va_last hx hb hK hP hD hS 14 2 rfl rfl hi9 (qaa qp3 10 rfl) (fun H locs hP hD hS => ?_)
  obtain ⟨f10, ef10⟩ : ∃ y : Nat → Int64, y = vp_updL f6 (0 : Int32).toNatClampNeg x9 := ⟨_, rfl⟩
  have hw := hw f10 ef10
  have hP : va_P (dC, dI) vwCl (qMr a0 jaK jaR ja1 jb6 jbc jbV ja3 jbH jaT jh8 jaq jac jbI jbl jbn jba jaa jbA x1 jaR jbs jbt jbo jbp jbk jcG jbf jbq jbE jbm jbi jdB jh8 jhy jiK q3 q4 jaT jbb jbr jaR jb6 jbb cyI jbQ jhy cyI f2 jbs cyI jci jbt cyI jcj jb6 jbW jbL jcl jcc jdh jcc cyI f5 jcl cyI f7 jbW cyI jdN jbL cyI jdi jcG cyI jfT a6 cyJ n6 f10) H := by rw [ef10]; exact hP
  have hD : va_D A (qMr a0 jaK jaR ja1 jb6 jbc jbV ja3 jbH jaT jh8 jaq jac jbI jbl jbn jba jaa jbA x1 jaR jbs jbt jbo jbp jbk jcG jbf jbq jbE jbm jbi jdB jh8 jhy jiK q3 q4 jaT jbb jbr jaR jb6 jbb cyI jbQ jhy cyI f2 jbs cyI jci jbt cyI jcj jb6 jbW jbL jcl jcc jdh jcc cyI f5 jcl cyI f7 jbW cyI jdN jbL cyI jdi jcG cyI jfT a6 cyJ n6 f10) := by rw [ef10]; exact hD
  refine lv_goto (tgt := 23) hx hb (qaa qp3 11 rfl) (by decide) ?_
  refine lv_iconst (v := 0) hx hb (qaa qp3 15 rfl) (by decide) ?_
  exact (W.widen (k := 4) (n := 24) (nbq rfl) (nbq rfl) (W.iret (v := 0) hx hb hr (fun t ht hW => ⟨⟨0, (x1, f2, q3, q4, f5, f7, f10), rfl, hw, by rw [ht]; exact hP, va_K.moved hW.alike hK, hD⟩, hS.F ht⟩) hS.2.2 (qaa qaVB 0 rfl)))
theorem quO : ∀ w ∈ u_ws RX10 TX10 19, w ∈ wsX10_strongest := uiM qpk qyN (by decide +kernel)
theorem q80 : ∀ w ∈ u_ws RX2 TX2 12, w ∈ wsX10_strongest := uiM qpk qLp (by decide +kernel)
theorem q3l : (.fieldLink RX10 141 "MarchHares$Down" "hares" "I" : Cond) ∈ wsX10_strongest := qpk 644 (by decide +kernel)
theorem q6u : (.fieldLink RX10 19 "MarchHares" "ground" "LMarchHares$Down;" : Cond) ∈ wsX10_strongest := qpk 20 (by decide +kernel)
theorem qx5 : (.fieldLink RX10 58 "MarchHares" "now" "LMarchHares$Days;" : Cond) ∈ wsX10_strongest := qpk 79 (by decide +kernel)
set_option maxHeartbeats 4000000 in
set_option maxRecDepth 100000 in
theorem qFc {p : Program} {l : Launch} {e : Env} {s : State} {m : MethodId} {args : Array Value} {below : List Frame} {meth : Method} {c : Code} {A : Nat → Prop} (dC : Nat → ClassId) (dI : Nat → Nat → Nat) (cyB cyI cyJ cyP : ClassId) (a0 jaR jaT jbb : Nat) (jaK ja1 jcp jbc jbV ja3 jbH jbO jaq jac jbI jbl jbn jba jaa jbA jcB jcC jbo jbp jbk jbj jbf jbq jef jbi jcd jbr jhD jff : Value) (jbm : Int32) (jbQ : NI) (E : String → Int32 → Prop) (Q : Int32 → Int32 → Prop) (K11 : Int32 → Int32 → Int32 → Int32 → Prop) (hK11 : ∀ (H : Heap) (locs : List Loc) (ls : Array Slot) (jbz l1 l2 l3 : Int32), va_P (dC, dI) vwCl (qlc a0 jaK jaR ja1 jcp jbc jbV ja3 jbH jaT jbO jaq jac jbI jbl jbn jba jaa jbA jbz jaR jcB jcC jbo jbp jbk jbj jbf jbq jef jbm jbi jcd jaT jbb jbr jhD jff jbb cyI jbQ) H → va_D A (qlc a0 jaK jaR ja1 jcp jbc jbV ja3 jbH jaT jbO jaq jac jbI jbl jbn jba jaa jbA jbz jaR jcB jcC jbo jbp jbk jbj jbf jbq jef jbm jbi jcd jaT jbb jbr jhD jff jbb cyI jbQ) → va_S A s.heap H locs → lv_has ls 4 [(0, .ref a0), (1, .int l1), (2, .int l2), (3, .int l3)] → K11 jbz l1 l2 l3 → W p l e (headSpec wsX10_strongest ({ frames := 8, cells := 1, slots := 6, locals := 164 })).room s m args below meth c H locs 1 6 (vx_MQ below (va_Qi (fun (r u : Int32) => Q r u) (cB (dC, dI) (kT cyB cyI cyJ cyP) A (fun u : Int32 => ((qlc a0 jaK jaR ja1 jcp jbc jbV ja3 jbH jaT jbO jaq jac jbI jbl jbn jba jaa jbA u jaR jcB jcC jbo jbp jbk jbj jbf jbq jef jbm jbi jcd jaT jbb jbr jhD jff jbb cyI jbQ) : va_W))) A) (vx_X (fun _ => True) (fun (en : String) (u : Int32) (t : State) => E en u ∧ cB (dC, dI) (kT cyB cyI cyJ cyP) A (fun u : Int32 => ((qlc a0 jaK jaR ja1 jcp jbc jbV ja3 jbH jaT jbO jaq jac jbI jbl jbn jba jaa jbA u jaR jcB jcC jbo jbp jbk jbj jbf jbq jef jbm jbi jcd jaT jbb jbr jhD jff jbb cyI jbQ) : va_W)) u t) A) args s 1 6 A) (F0 m 11 ls [])) (C0 : cfx p s m args meth c cX10_strongest (some .int) wsX10_strongest RX10 4 A (dC, dI) (kT cyB cyI cyJ cyP) ∧ cfX l s c A) : ∀ (H : Heap) (locs : List Loc) (ls : Array Slot) (jbz l1 l2 l3 : Int32), va_P (dC, dI) vwCl (qlc a0 jaK jaR ja1 jcp jbc jbV ja3 jbH jaT jbO jaq jac jbI jbl jbn jba jaa jbA jbz jaR jcB jcC jbo jbp jbk jbj jbf jbq jef jbm jbi jcd jaT jbb jbr jhD jff jbb cyI jbQ) H → va_D A (qlc a0 jaK jaR ja1 jcp jbc jbV ja3 jbH jaT jbO jaq jac jbI jbl jbn jba jaa jbA jbz jaR jcB jcC jbo jbp jbk jbj jbf jbq jef jbm jbi jcd jaT jbb jbr jhD jff jbb cyI jbQ) → va_S A s.heap H locs → lv_has ls 4 [(0, .ref a0), (1, .int l1), (2, .int l2), (3, .int l3)] → qzK jbm jbQ E Q K11 jbz l1 l2 l3 → W p l e (headSpec wsX10_strongest ({ frames := 8, cells := 1, slots := 6, locals := 164 })).room s m args below meth c H locs 1 6 (vx_MQ below (va_Qi (fun (r u : Int32) => Q r u) (cB (dC, dI) (kT cyB cyI cyJ cyP) A (fun u : Int32 => ((qlc a0 jaK jaR ja1 jcp jbc jbV ja3 jbH jaT jbO jaq jac jbI jbl jbn jba jaa jbA u jaR jcB jcC jbo jbp jbk jbj jbf jbq jef jbm jbi jcd jaT jbb jbr jhD jff jbb cyI jbQ) : va_W))) A) (vx_X (fun _ => True) (fun (en : String) (u : Int32) (t : State) => E en u ∧ cB (dC, dI) (kT cyB cyI cyJ cyP) A (fun u : Int32 => ((qlc a0 jaK jaR ja1 jcp jbc jbV ja3 jbH jaT jbO jaq jac jbI jbl jbn jba jaa jbA u jaR jcB jcC jbo jbp jbk jbj jbf jbq jef jbm jbi jcd jaT jbb jbr jhD jff jbb cyI jbQ) : va_W)) u t) A) args s 1 6 A) (F0 m 59 ls []) := by
  obtain ⟨⟨hx, hb, hr, hts, hown, hlocks, hml, hA, hK, hNw⟩, hXs⟩ := id C0
  have hY := hXs.2
  intro H locs ls jbz l1 l2 l3 hP hD hS hl hw
  obtain ⟨x12, ex12⟩ : ∃ y : Int32, y = l3 + 1 := ⟨_, rfl⟩
  have hw := hw x12 ex12
  refine lv_iinc (v := x12) (lv' := [(3, .int x12), (0, .ref a0), (1, .int l1), (2, .int l2)]) hx hb (qaa qcI 1 rfl) hl (k := 3) rfl (by rw [ex12]; rfl) (by decide) rfl (fun ls hl => ?_)
  refine lv_goto (tgt := 11) hx hb (qaa qcI 2 rfl) (by decide) ?_
  exact hK11 _ _ _ jbz l1 l2 x12 hP hD hS (lv_sub hl [1, 2, 3, 0] rfl) hw
set_option maxHeartbeats 4000000 in
set_option maxRecDepth 100000 in
theorem qP1 {p : Program} {l : Launch} {e : Env} {s : State} {m : MethodId} {args : Array Value} {below : List Frame} {meth : Method} {c : Code} {A : Nat → Prop} (dC : Nat → ClassId) (dI : Nat → Nat → Nat) (cyB cyI cyJ cyP : ClassId) (a0 jaR jaT jbb : Nat) (jaK ja1 jcp jbc jbV ja3 jbH jbO jaq jac jbI jbl jbn jba jaa jbA jcB jcC jbo jbp jbk jbj jbf jbq jef jbi jcd jbr jhD jff : Value) (jbm : Int32) (jbQ : NI) (E : String → Int32 → Prop) (Q : Int32 → Int32 → Prop) (K11 : Int32 → Int32 → Int32 → Int32 → Prop) (hK11 : ∀ (H : Heap) (locs : List Loc) (ls : Array Slot) (jbz l1 l2 l3 : Int32), va_P (dC, dI) vwCl (qlc a0 jaK jaR ja1 jcp jbc jbV ja3 jbH jaT jbO jaq jac jbI jbl jbn jba jaa jbA jbz jaR jcB jcC jbo jbp jbk jbj jbf jbq jef jbm jbi jcd jaT jbb jbr jhD jff jbb cyI jbQ) H → va_D A (qlc a0 jaK jaR ja1 jcp jbc jbV ja3 jbH jaT jbO jaq jac jbI jbl jbn jba jaa jbA jbz jaR jcB jcC jbo jbp jbk jbj jbf jbq jef jbm jbi jcd jaT jbb jbr jhD jff jbb cyI jbQ) → va_S A s.heap H locs → lv_has ls 4 [(0, .ref a0), (1, .int l1), (2, .int l2), (3, .int l3)] → K11 jbz l1 l2 l3 → W p l e (headSpec wsX10_strongest ({ frames := 8, cells := 1, slots := 6, locals := 164 })).room s m args below meth c H locs 1 6 (vx_MQ below (va_Qi (fun (r u : Int32) => Q r u) (cB (dC, dI) (kT cyB cyI cyJ cyP) A (fun u : Int32 => ((qlc a0 jaK jaR ja1 jcp jbc jbV ja3 jbH jaT jbO jaq jac jbI jbl jbn jba jaa jbA u jaR jcB jcC jbo jbp jbk jbj jbf jbq jef jbm jbi jcd jaT jbb jbr jhD jff jbb cyI jbQ) : va_W))) A) (vx_X (fun _ => True) (fun (en : String) (u : Int32) (t : State) => E en u ∧ cB (dC, dI) (kT cyB cyI cyJ cyP) A (fun u : Int32 => ((qlc a0 jaK jaR ja1 jcp jbc jbV ja3 jbH jaT jbO jaq jac jbI jbl jbn jba jaa jbA u jaR jcB jcC jbo jbp jbk jbj jbf jbq jef jbm jbi jcd jaT jbb jbr jhD jff jbb cyI jbQ) : va_W)) u t) A) args s 1 6 A) (F0 m 11 ls [])) (C0 : cfx p s m args meth c cX10_strongest (some .int) wsX10_strongest RX10 4 A (dC, dI) (kT cyB cyI cyJ cyP) ∧ cfX l s c A) : ∀ (H : Heap) (locs : List Loc) (ls : Array Slot) (jbz l1 l3 : Int32), va_P (dC, dI) vwCl (qlc a0 jaK jaR ja1 jcp jbc jbV ja3 jbH jaT jbO jaq jac jbI jbl jbn jba jaa jbA jbz jaR jcB jcC jbo jbp jbk jbj jbf jbq jef jbm jbi jcd jaT jbb jbr jhD jff jbb cyI jbQ) H → va_D A (qlc a0 jaK jaR ja1 jcp jbc jbV ja3 jbH jaT jbO jaq jac jbI jbl jbn jba jaa jbA jbz jaR jcB jcC jbo jbp jbk jbj jbf jbq jef jbm jbi jcd jaT jbb jbr jhD jff jbb cyI jbQ) → va_S A s.heap H locs → lv_has ls 4 [(0, .ref a0), (1, .int l1), (3, .int l3)] → qFi jbm jbQ E Q K11 jbz l1 l3 → W p l e (headSpec wsX10_strongest ({ frames := 8, cells := 1, slots := 6, locals := 164 })).room s m args below meth c H locs 1 6 (vx_MQ below (va_Qi (fun (r u : Int32) => Q r u) (cB (dC, dI) (kT cyB cyI cyJ cyP) A (fun u : Int32 => ((qlc a0 jaK jaR ja1 jcp jbc jbV ja3 jbH jaT jbO jaq jac jbI jbl jbn jba jaa jbA u jaR jcB jcC jbo jbp jbk jbj jbf jbq jef jbm jbi jcd jaT jbb jbr jhD jff jbb cyI jbQ) : va_W))) A) (vx_X (fun _ => True) (fun (en : String) (u : Int32) (t : State) => E en u ∧ cB (dC, dI) (kT cyB cyI cyJ cyP) A (fun u : Int32 => ((qlc a0 jaK jaR ja1 jcp jbc jbV ja3 jbH jaT jbO jaq jac jbI jbl jbn jba jaa jbA u jaR jcB jcC jbo jbp jbk jbj jbf jbq jef jbm jbi jcd jaT jbb jbr jhD jff jbb cyI jbQ) : va_W)) u t) A) args s 1 6 A) (F0 m 57 ls []) := by
  obtain ⟨⟨hx, hb, hr, hts, hown, hlocks, hml, hA, hK, hNw⟩, hXs⟩ := id C0
  have hY := hXs.2
  intro H locs ls jbz l1 l3 hP hD hS hl hw
  refine lv_iload_n hx hb (qaa qcL 15 rfl) rfl (lv_at hl 2 rfl) ?_
  refine lv_istore_n (lv' := [(2, .int l3), (0, .ref a0), (1, .int l1), (3, .int l3)]) hx hb (qaa qcI 0 rfl) rfl hl (by decide) rfl (fun ls hl => ?_)
  exact qFc dC dI cyB cyI cyJ cyP a0 jaR jaT jbb jaK ja1 jcp jbc jbV ja3 jbH jbO jaq jac jbI jbl jbn jba jaa jbA jcB jcC jbo jbp jbk jbj jbf jbq jef jbi jcd jbr jhD jff jbm jbQ E Q K11 hK11 C0 _ _ _ jbz l1 l3 l3 hP hD hS (lv_sub hl [1, 2, 0, 3] rfl) hw
set_option maxHeartbeats 4000000 in
set_option maxRecDepth 100000 in
theorem qQo {p : Program} {l : Launch} {e : Env} {s : State} {m : MethodId} {args : Array Value} {below : List Frame} {meth : Method} {c : Code} {A : Nat → Prop} (dC : Nat → ClassId) (dI : Nat → Nat → Nat) (cyB cyI cyJ cyP : ClassId) (a0 jaR jaT jbb : Nat) (jaK ja1 jcp jbc jbV ja3 jbH jbO jaq jac jbI jbl jbn jba jaa jbA jcB jcC jbo jbp jbk jbj jbf jbq jef jbi jcd jbr jhD jff : Value) (jbm : Int32) (jbQ : NI) (E : String → Int32 → Prop) (Q : Int32 → Int32 → Prop) (C0 : cfx p s m args meth c cX10_strongest (some .int) wsX10_strongest RX10 4 A (dC, dI) (kT cyB cyI cyJ cyP) ∧ cfX l s c A) : ∀ (H : Heap) (locs : List Loc) (ls : Array Slot) (jbz l2 : Int32), va_P (dC, dI) vwCl (qlc a0 jaK jaR ja1 jcp jbc jbV ja3 jbH jaT jbO jaq jac jbI jbl jbn jba jaa jbA jbz jaR jcB jcC jbo jbp jbk jbj jbf jbq jef jbm jbi jcd jaT jbb jbr jhD jff jbb cyI jbQ) H → va_D A (qlc a0 jaK jaR ja1 jcp jbc jbV ja3 jbH jaT jbO jaq jac jbI jbl jbn jba jaa jbA jbz jaR jcB jcC jbo jbp jbk jbj jbf jbq jef jbm jbi jcd jaT jbb jbr jhD jff jbb cyI jbQ) → va_S A s.heap H locs → lv_has ls 4 [(2, .int l2)] → qFS jbm jbQ E Q jbz l2 → W p l e (headSpec wsX10_strongest ({ frames := 8, cells := 1, slots := 6, locals := 164 })).room s m args below meth c H locs 1 6 (vx_MQ below (va_Qi (fun (r u : Int32) => Q r u) (cB (dC, dI) (kT cyB cyI cyJ cyP) A (fun u : Int32 => ((qlc a0 jaK jaR ja1 jcp jbc jbV ja3 jbH jaT jbO jaq jac jbI jbl jbn jba jaa jbA u jaR jcB jcC jbo jbp jbk jbj jbf jbq jef jbm jbi jcd jaT jbb jbr jhD jff jbb cyI jbQ) : va_W))) A) (vx_X (fun _ => True) (fun (en : String) (u : Int32) (t : State) => E en u ∧ cB (dC, dI) (kT cyB cyI cyJ cyP) A (fun u : Int32 => ((qlc a0 jaK jaR ja1 jcp jbc jbV ja3 jbH jaT jbO jaq jac jbI jbl jbn jba jaa jbA u jaR jcB jcC jbo jbp jbk jbj jbf jbq jef jbm jbi jcd jaT jbb jbr jhD jff jbb cyI jbQ) : va_W)) u t) A) args s 1 6 A) (F0 m 74 ls []) := by
  obtain ⟨⟨hx, hb, hr, hts, hown, hlocks, hml, hA, hK, hNw⟩, hXs⟩ := id C0
  have hY := hXs.2
  intro H locs ls jbz l2 hP hD hS hl hw
  refine lv_iload_n hx hb (qaa qcI 8 rfl) rfl (lv_at hl 0 rfl) ?_
  refine lv_goto (tgt := 86) hx hb (qaa qcI 9 rfl) (by decide) ?_
  exact vx_ret (W.widen (k := 1) (n := 6) (nbq rfl) (nbq rfl) (W.iret (v := l2) hx hb hr (fun t ht hW => ⟨⟨l2, (jbz), rfl, hw, by rw [ht]; exact hP, va_K.moved hW.alike hK, hD⟩, hS.F ht⟩) hS.2.2 (qaa qcI 14 rfl)))
set_option maxHeartbeats 4000000 in
set_option maxRecDepth 100000 in
theorem q9k {p : Program} {l : Launch} {e : Env} {s : State} {m : MethodId} {args : Array Value} {below : List Frame} {meth : Method} {c : Code} {A : Nat → Prop} (dC : Nat → ClassId) (dI : Nat → Nat → Nat) (cyB cyI cyJ cyP : ClassId) (a0 jaR jaT jbb : Nat) (jaK ja1 jcp jbc jbV ja3 jbH jbO jaq jac jbI jbl jbn jba jaa jbA jcB jcC jbo jbp jbk jbj jbf jbq jef jbi jcd jbr jhD jff : Value) (jbm : Int32) (jbQ : NI) (E : String → Int32 → Prop) (Q : Int32 → Int32 → Prop) (C0 : cfx p s m args meth c cX10_strongest (some .int) wsX10_strongest RX10 4 A (dC, dI) (kT cyB cyI cyJ cyP) ∧ cfX l s c A) : ∀ (n : Nat) (H : Heap) (locs : List Loc) (ls : Array Slot) (jbz l1 l2 l3 : Int32), va_P (dC, dI) vwCl (qlc a0 jaK jaR ja1 jcp jbc jbV ja3 jbH jaT jbO jaq jac jbI jbl jbn jba jaa jbA jbz jaR jcB jcC jbo jbp jbk jbj jbf jbq jef jbm jbi jcd jaT jbb jbr jhD jff jbb cyI jbQ) H → va_D A (qlc a0 jaK jaR ja1 jcp jbc jbV ja3 jbH jaT jbO jaq jac jbI jbl jbn jba jaa jbA jbz jaR jcB jcC jbo jbp jbk jbj jbf jbq jef jbm jbi jcd jaT jbb jbr jhD jff jbb cyI jbQ) → va_S A s.heap H locs → lv_has ls 4 [(0, .ref a0), (1, .int l1), (2, .int l2), (3, .int l3)] → qgB jbm jbQ E Q n jbz l1 l2 l3 → W p l e (headSpec wsX10_strongest ({ frames := 8, cells := 1, slots := 6, locals := 164 })).room s m args below meth c H locs 1 6 (vx_MQ below (va_Qi (fun (r u : Int32) => Q r u) (cB (dC, dI) (kT cyB cyI cyJ cyP) A (fun u : Int32 => ((qlc a0 jaK jaR ja1 jcp jbc jbV ja3 jbH jaT jbO jaq jac jbI jbl jbn jba jaa jbA u jaR jcB jcC jbo jbp jbk jbj jbf jbq jef jbm jbi jcd jaT jbb jbr jhD jff jbb cyI jbQ) : va_W))) A) (vx_X (fun _ => True) (fun (en : String) (u : Int32) (t : State) => E en u ∧ cB (dC, dI) (kT cyB cyI cyJ cyP) A (fun u : Int32 => ((qlc a0 jaK jaR ja1 jcp jbc jbV ja3 jbH jaT jbO jaq jac jbI jbl jbn jba jaa jbA u jaR jcB jcC jbo jbp jbk jbj jbf jbq jef jbm jbi jcd jaT jbb jbr jhD jff jbb cyI jbQ) : va_W)) u t) A) args s 1 6 A) (F0 m 11 ls []) := by
  obtain ⟨⟨hx, hb, hr, hts, hown, hlocks, hml, hA, hK, hNw⟩, hXs⟩ := id C0
  have hY := hXs.2
  intro n
  induction n with
  | zero => intro H locs ls jbz l1 l2 l3 hP hD hS hl hw; exact False.elim hw
  | succ n ih =>
    intro H locs ls jbz l1 l2 l3 hP hD hS hl hw
    refine lv_iload_n hx hb (qaa qc7 9 rfl) rfl (lv_at hl 3 rfl) ?_
    refine lv_aload_n hx hb (qaa qc7 10 rfl) rfl (lv_at hl 0 rfl) ?_
    refine va_get (D := (dC, dI)) (ci := 10) (v := .ref jaR) (C := RX10) (T := TX10) (N := 19) hx hb hts quO hown hK hP 0 rfl rfl 1 (by decide) (hts _ q6u) (fun _ h9 => h9) rfl (qaa qc7 11 rfl) ?_
    refine va_get (D := (dC, dI)) (ci := 2) (v := .int jbm) (C := RX2) (T := TX2) (N := 12) hx hb hts q80 hown hK hP 1 rfl rfl 9 (by decide) (hts _ q3l) (fun _ h9 => h9) rfl (qaa qc7 12 rfl) ?_
    refine lv_icmp_ge (tgt := 65) hx hb (qaa qc7 13 rfl) (by decide) (fun c2 => ?_) (fun c2 => ?_)
    · have hw := hw.1 c2
      refine lv_iload_n hx hb (qaa qcI 3 rfl) rfl (lv_at hl 1 rfl) ?_
      refine lv_if_eq (tgt := 74) hx hb (qaa qcI 4 rfl) (by decide) (fun c3 => ?_) (fun c3 => ?_)
      · have hw := hw.1 c3
        exact qQo dC dI cyB cyI cyJ cyP a0 jaR jaT jbb jaK ja1 jcp jbc jbV ja3 jbH jbO jaq jac jbI jbl jbn jba jaa jbA jcB jcC jbo jbp jbk jbj jbf jbq jef jbi jcd jbr jhD jff jbm jbQ E Q C0 _ _ _ jbz l2 hP hD hS (lv_sub hl [2] rfl) hw
      · have hw := hw.2 c3
        refine lv_iload_n hx hb (qaa qcI 5 rfl) rfl (lv_at hl 2 rfl) ?_
        refine lv_iconst (v := (-1)) hx hb (qaa qcI 6 rfl) (by decide) ?_
        refine lv_icmp_ne (tgt := 78) hx hb (qaa qcI 7 rfl) (by decide) (fun c4 => ?_) (fun c4 => ?_)
        · have hw := hw.1 c4
          refine lv_aload_n hx hb (qaa qcI 10 rfl) rfl (lv_at hl 0 rfl) ?_
          refine va_get (D := (dC, dI)) (ci := 10) (v := .ref jaT) (C := RX10) (T := TX10) (N := 19) hx hb hts quO hown hK hP 0 rfl rfl 8 (by decide) (hts _ qx5) (fun _ h9 => h9) rfl (qaa qcI 11 rfl) ?_
          refine lv_iload_n hx hb (qaa qcI 12 rfl) rfl (lv_at hl 2 rfl) ?_
          obtain ⟨hCc, hPc, hDc, hFc⟩ := qac (ws' := (qsQ jaT jbb jbr jhD jff jbb cyI jbQ)) hP hD hS hA [2, 3] (by decide +kernel) rfl
          refine va_calli (va_runV (As := [.int l2]) (rest := []) ⟨hx, hb, hml, hown, hts⟩ (qsD l dC dI cyB cyI cyJ cyP jaT jbb H.size (jbr) (jhD) (jff) jbQ l2 hw) (cwV 1 hts gX10_strongest_X1_strong rfl rfl rfl (by decide +kernel) ⟨nbq rfl, nbq rfl⟩) ⟨qab, va_recv (q := (RX1, TX1, 4)) hK hPc (ci := 1) (q0 := 0) rfl rfl, qae hPc hK hDc hNw⟩ rfl rfl hl.1 rfl (lv_room (nbq rfl)) (qaa qcI 13 rfl) ⟨nbq rfl, nbq rfl⟩) hS (fun q _ h => hFc q h) hFc (fun r5 u t H1 locs ht hvm hw hB hz1 hk1 hS => ?_)
          obtain ⟨hP1, hK1, hD1⟩ := hB
          rw [ht] at hP1
          obtain ⟨hP, hD⟩ := qah (wr := (qaOJ a0 jaK jaR ja1 jcp jbc jbV ja3 jbH jaT jbO jaq jac jbI jbl jbn jba jaa jbA jbz jaR jcB jcC jbo jbp jbk jbj jbf jbq jef jbm jbi jcd)) (w1 := (qsQ jaT jbb jbr jhD jff jbb cyI jbQ)) (wn := (qlc a0 jaK jaR ja1 jcp jbc jbV ja3 jbH jaT jbO jaq jac jbI jbl jbn jba jaa jbA jbz jaR jcB jcC jbo jbp jbk jbj jbf jbq jef jbm jbi jcd jaT jbb jbr jhD jff jbb cyI jbQ)) hP hD [2, 3] [0, 1] hCc rfl (by decide +kernel) (by decide +kernel) rfl hk1 hFc hP1 hD1
          generalize H1 = H at hP hS ⊢
          exact vx_ret (W.widen (k := 1) (n := 6) (nbq rfl) (nbq rfl) (W.iret (v := r5) hx hb hr (fun t ht hW => ⟨⟨r5, (jbz), rfl, hw, by rw [ht]; exact hP, va_K.moved hW.alike hK, hD⟩, hS.F ht⟩) hS.2.2 (qaa qcI 14 rfl)))
        · have hw := hw.2 c4
          exact qQo dC dI cyB cyI cyJ cyP a0 jaR jaT jbb jaK ja1 jcp jbc jbV ja3 jbH jbO jaq jac jbI jbl jbn jba jaa jbA jcB jcC jbo jbp jbk jbj jbf jbq jef jbi jcd jbr jhD jff jbm jbQ E Q C0 _ _ _ jbz l2 hP hD hS (lv_sub hl [2] rfl) hw
    · have hw := hw.2 c2
      refine lv_aload_n hx hb (qaa qc7 14 rfl) rfl (lv_at hl 0 rfl) ?_
      refine va_get (D := (dC, dI)) (ci := 10) (v := .ref jaT) (C := RX10) (T := TX10) (N := 19) hx hb hts quO hown hK hP 0 rfl rfl 8 (by decide) (hts _ qx5) (fun _ h9 => h9) rfl (qaa qc7 15 rfl) ?_
      refine lv_iload_n hx hb (qaa qcL 0 rfl) rfl (lv_at hl 3 rfl) ?_
      obtain ⟨hCc, hPc, hDc, hFc⟩ := qac (ws' := (qsQ jaT jbb jbr jhD jff jbb cyI jbQ)) hP hD hS hA [2, 3] (by decide +kernel) rfl
      refine va_calli (va_runV (As := [.int l3]) (rest := []) ⟨hx, hb, hml, hown, hts⟩ (qia l dC dI cyB cyI cyJ cyP jaT jbb H.size (jbr) (jhD) (jff) jbQ l3 hw) (cwV 1 hts gX10_strongest_X1_isCaught rfl rfl rfl (by decide +kernel) ⟨nbq rfl, nbq rfl⟩) ⟨qab, va_recv (q := (RX1, TX1, 4)) hK hPc (ci := 1) (q0 := 0) rfl rfl, qae hPc hK hDc hNw⟩ rfl rfl hl.1 rfl (lv_room (nbq rfl)) (qaa qcL 1 rfl) ⟨nbq rfl, nbq rfl⟩) hS (fun q _ h => hFc q h) hFc (fun r6 u t H1 locs ht hvm hw hB hz1 hk1 hS => ?_)
      obtain ⟨hP1, hK1, hD1⟩ := hB
      rw [ht] at hP1
      obtain ⟨hP, hD⟩ := qah (wr := (qaOJ a0 jaK jaR ja1 jcp jbc jbV ja3 jbH jaT jbO jaq jac jbI jbl jbn jba jaa jbA jbz jaR jcB jcC jbo jbp jbk jbj jbf jbq jef jbm jbi jcd)) (w1 := (qsQ jaT jbb jbr jhD jff jbb cyI jbQ)) (wn := (qlc a0 jaK jaR ja1 jcp jbc jbV ja3 jbH jaT jbO jaq jac jbI jbl jbn jba jaa jbA jbz jaR jcB jcC jbo jbp jbk jbj jbf jbq jef jbm jbi jcd jaT jbb jbr jhD jff jbb cyI jbQ)) hP hD [2, 3] [0, 1] hCc rfl (by decide +kernel) (by decide +kernel) rfl hk1 hFc hP1 hD1
      generalize H1 = H at hP hS ⊢
      refine lv_if_ne (tgt := 59) hx hb (qaa qcL 2 rfl) (by decide) (fun c7 => ?_) (fun c7 => ?_)
      · have hw := hw.1 c7
        exact qFc dC dI cyB cyI cyJ cyP a0 jaR jaT jbb jaK ja1 jcp jbc jbV ja3 jbH jbO jaq jac jbI jbl jbn jba jaa jbA jcB jcC jbo jbp jbk jbj jbf jbq jef jbi jcd jbr jhD jff jbm jbQ E Q (qgB jbm jbQ E Q n) ih C0 _ _ _ jbz l1 l2 l3 hP hD hS (lv_sub hl [0, 1, 2, 3] rfl) hw
      · have hw := hw.2 c7
        refine lv_iload_n hx hb (qaa qcL 3 rfl) rfl (lv_at hl 2 rfl) ?_
        refine lv_iconst (v := (-1)) hx hb (qaa qcL 4 rfl) (by decide) ?_
        refine lv_icmp_eq (tgt := 57) hx hb (qaa qcL 5 rfl) (by decide) (fun c8 => ?_) (fun c8 => ?_)
        · have hw := hw.1 c8
          exact qP1 dC dI cyB cyI cyJ cyP a0 jaR jaT jbb jaK ja1 jcp jbc jbV ja3 jbH jbO jaq jac jbI jbl jbn jba jaa jbA jcB jcC jbo jbp jbk jbj jbf jbq jef jbi jcd jbr jhD jff jbm jbQ E Q (qgB jbm jbQ E Q n) ih C0 _ _ _ jbz l1 l3 hP hD hS (lv_sub hl [0, 1, 3] rfl) hw
        · have hw := hw.2 c8
          refine lv_aload_n hx hb (qaa qcL 6 rfl) rfl (lv_at hl 0 rfl) ?_
          refine va_get (D := (dC, dI)) (ci := 10) (v := .ref jaT) (C := RX10) (T := TX10) (N := 19) hx hb hts quO hown hK hP 0 rfl rfl 8 (by decide) (hts _ qx5) (fun _ h9 => h9) rfl (qaa qcL 7 rfl) ?_
          refine lv_iload_n hx hb (qaa qcL 8 rfl) rfl (lv_at hl 3 rfl) ?_
          obtain ⟨hCc, hPc, hDc, hFc⟩ := qac (ws' := (qsQ jaT jbb jbr jhD jff jbb cyI jbQ)) hP hD hS hA [2, 3] (by decide +kernel) rfl
          refine va_calli (va_runV (As := [.int l3]) (rest := []) ⟨hx, hb, hml, hown, hts⟩ (qsD l dC dI cyB cyI cyJ cyP jaT jbb H.size (jbr) (jhD) (jff) jbQ l3 hw) (cwV 1 hts gX10_strongest_X1_strong rfl rfl rfl (by decide +kernel) ⟨nbq rfl, nbq rfl⟩) ⟨qab, va_recv (q := (RX1, TX1, 4)) hK hPc (ci := 1) (q0 := 0) rfl rfl, qae hPc hK hDc hNw⟩ rfl rfl hl.1 rfl (lv_room (nbq rfl)) (qaa qcL 9 rfl) ⟨nbq rfl, nbq rfl⟩) hS (fun q _ h => hFc q h) hFc (fun r9 u t H1 locs ht hvm hw hB hz1 hk1 hS => ?_)
          obtain ⟨hP1, hK1, hD1⟩ := hB
          rw [ht] at hP1
          obtain ⟨hP, hD⟩ := qah (wr := (qaOJ a0 jaK jaR ja1 jcp jbc jbV ja3 jbH jaT jbO jaq jac jbI jbl jbn jba jaa jbA jbz jaR jcB jcC jbo jbp jbk jbj jbf jbq jef jbm jbi jcd)) (w1 := (qsQ jaT jbb jbr jhD jff jbb cyI jbQ)) (wn := (qlc a0 jaK jaR ja1 jcp jbc jbV ja3 jbH jaT jbO jaq jac jbI jbl jbn jba jaa jbA jbz jaR jcB jcC jbo jbp jbk jbj jbf jbq jef jbm jbi jcd jaT jbb jbr jhD jff jbb cyI jbQ)) hP hD [2, 3] [0, 1] hCc rfl (by decide +kernel) (by decide +kernel) rfl hk1 hFc hP1 hD1
          generalize H1 = H at hP hS ⊢
          refine lv_aload_n hx hb (qaa qcL 10 rfl) rfl (lv_at hl 0 rfl) ?_
          refine va_get (D := (dC, dI)) (ci := 10) (v := .ref jaT) (C := RX10) (T := TX10) (N := 19) hx hb hts quO hown hK hP 0 rfl rfl 8 (by decide) (hts _ qx5) (fun _ h9 => h9) rfl (qaa qcL 11 rfl) ?_
          refine lv_iload_n hx hb (qaa qcL 12 rfl) rfl (lv_at hl 2 rfl) ?_
          obtain ⟨hCc, hPc, hDc, hFc⟩ := qac (ws' := (qsQ jaT jbb jbr jhD jff jbb cyI jbQ)) hP hD hS hA [2, 3] (by decide +kernel) rfl
          refine va_calli (va_runV (As := [.int l2]) (rest := [.int r9]) ⟨hx, hb, hml, hown, hts⟩ (qsD l dC dI cyB cyI cyJ cyP jaT jbb H.size (jbr) (jhD) (jff) jbQ l2 hw) (cwV 1 hts gX10_strongest_X1_strong rfl rfl rfl (by decide +kernel) ⟨nbq rfl, nbq rfl⟩) ⟨qab, va_recv (q := (RX1, TX1, 4)) hK hPc (ci := 1) (q0 := 0) rfl rfl, qae hPc hK hDc hNw⟩ rfl rfl hl.1 rfl (lv_room (nbq rfl)) (qaa qcL 13 rfl) ⟨nbq rfl, nbq rfl⟩) hS (fun q _ h => hFc q h) hFc (fun r10 u t H1 locs ht hvm hw hB hz1 hk1 hS => ?_)
          obtain ⟨hP1, hK1, hD1⟩ := hB
          rw [ht] at hP1
          obtain ⟨hP, hD⟩ := qah (wr := (qaOJ a0 jaK jaR ja1 jcp jbc jbV ja3 jbH jaT jbO jaq jac jbI jbl jbn jba jaa jbA jbz jaR jcB jcC jbo jbp jbk jbj jbf jbq jef jbm jbi jcd)) (w1 := (qsQ jaT jbb jbr jhD jff jbb cyI jbQ)) (wn := (qlc a0 jaK jaR ja1 jcp jbc jbV ja3 jbH jaT jbO jaq jac jbI jbl jbn jba jaa jbA jbz jaR jcB jcC jbo jbp jbk jbj jbf jbq jef jbm jbi jcd jaT jbb jbr jhD jff jbb cyI jbQ)) hP hD [2, 3] [0, 1] hCc rfl (by decide +kernel) (by decide +kernel) rfl hk1 hFc hP1 hD1
          generalize H1 = H at hP hS ⊢
          refine lv_icmp_le (tgt := 59) hx hb (qaa qcL 14 rfl) (by decide) (fun c11 => ?_) (fun c11 => ?_)
          · have hw := hw.1 c11
            exact qFc dC dI cyB cyI cyJ cyP a0 jaR jaT jbb jaK ja1 jcp jbc jbV ja3 jbH jbO jaq jac jbI jbl jbn jba jaa jbA jcB jcC jbo jbp jbk jbj jbf jbq jef jbi jcd jbr jhD jff jbm jbQ E Q (qgB jbm jbQ E Q n) ih C0 _ _ _ jbz l1 l2 l3 hP hD hS (lv_sub hl [0, 1, 2, 3] rfl) hw
          · have hw := hw.2 c11
            exact qP1 dC dI cyB cyI cyJ cyP a0 jaR jaT jbb jaK ja1 jcp jbc jbV ja3 jbH jbO jaq jac jbI jbl jbn jba jaa jbA jcB jcC jbo jbp jbk jbj jbf jbq jef jbi jcd jbr jhD jff jbm jbQ E Q (qgB jbm jbQ E Q n) ih C0 _ _ _ jbz l1 l3 hP hD hS (lv_sub hl [0, 1, 3] rfl) hw
set_option maxHeartbeats 4000000 in
set_option maxRecDepth 100000 in
theorem qasw (l : Launch) (dC : Nat → ClassId) (dI : Nat → Nat → Nat) (cyB cyI cyJ cyP : ClassId) (a0 jaR jaT jbb sz : Nat) (jaK ja1 jcp jbc jbV ja3 jbH jbO jaq jac jbI jbl jbn jba jaa jbA jcB jcC jbo jbp jbk jbj jbf jbq jef jbi jcd jbr jhD jff : Value) (jbm : Int32) (jbQ : NI) (jbz p1 : Int32) {E : String → Int32 → Prop} {Q : Int32 → Int32 → Prop} (hw : qL8 jbm jbQ jbz p1 E Q) : vx_Met l yX10_strongest wsX10_strongest ({ frames := 8, cells := 1, slots := 6, locals := 164 }) (va_Pc [.ref a0, .int p1] (cPx l (dC, dI) (kT cyB cyI cyJ cyP) (qlc a0 jaK jaR ja1 jcp jbc jbV ja3 jbH jaT jbO jaq jac jbI jbl jbn jba jaa jbA jbz jaR jcB jcC jbo jbp jbk jbj jbf jbq jef jbm jbi jcd jaT jbb jbr jhD jff jbb cyI jbQ) sz)) (va_Qi (fun (r u : Int32) => Q r u) (cB (dC, dI) (kT cyB cyI cyJ cyP) (va_A (qlc a0 jaK jaR ja1 jcp jbc jbV ja3 jbH jaT jbO jaq jac jbI jbl jbn jba jaa jbA jbz jaR jcB jcC jbo jbp jbk jbj jbf jbq jef jbm jbi jcd jaT jbb jbr jhD jff jbb cyI jbQ) sz) (fun u : Int32 => ((qlc a0 jaK jaR ja1 jcp jbc jbV ja3 jbH jaT jbO jaq jac jbI jbl jbn jba jaa jbA u jaR jcB jcC jbo jbp jbk jbj jbf jbq jef jbm jbi jcd jaT jbb jbr jhD jff jbb cyI jbQ) : va_W))) (va_A (qlc a0 jaK jaR ja1 jcp jbc jbV ja3 jbH jaT jbO jaq jac jbI jbl jbn jba jaa jbA jbz jaR jcB jcC jbo jbp jbk jbj jbf jbq jef jbm jbi jcd jaT jbb jbr jhD jff jbb cyI jbQ) sz)) (vx_X (fun _ => True) (fun (en : String) (u : Int32) (t : State) => E en u ∧ cB (dC, dI) (kT cyB cyI cyJ cyP) (va_A (qlc a0 jaK jaR ja1 jcp jbc jbV ja3 jbH jaT jbO jaq jac jbI jbl jbn jba jaa jbA jbz jaR jcB jcC jbo jbp jbk jbj jbf jbq jef jbm jbi jcd jaT jbb jbr jhD jff jbb cyI jbQ) sz) (fun u : Int32 => ((qlc a0 jaK jaR ja1 jcp jbc jbV ja3 jbH jaT jbO jaq jac jbI jbl jbn jba jaa jbA u jaR jcB jcC jbo jbp jbk jbj jbf jbq jef jbm jbi jcd jaT jbb jbr jhD jff jbb cyI jbQ) : va_W)) u t) (va_A (qlc a0 jaK jaR ja1 jcp jbc jbV ja3 jbH jaT jbO jaq jac jbI jbl jbn jba jaa jbA jbz jaR jcB jcC jbo jbp jbk jbj jbf jbq jef jbm jbi jcd jaT jbb jbr jhD jff jbb cyI jbQ) sz)) 1 6 (va_A (qlc a0 jaK jaR ja1 jcp jbc jbV ja3 jbH jaT jbO jaq jac jbI jbl jbn jba jaa jbA jbz jaR jcB jcC jbo jbp jbk jbj jbf jbq jef jbm jbi jcd jaT jbb jbr jhD jff jbb cyI jbQ) sz) := by
  refine vx_ofW (cc := cX10_strongest) (maxL := 4) (ret := (some .int)) (by decide) rfl ?_
  intro p e s m args below meth c s₁ B hml hnt hv
  obtain ⟨rfl, hsz, hP, hK, hD0, hNw, hXl, hXu, hXn, hXt⟩ := hv
  have hx := B.exec
  have hb := B.bytes
  have hr := B.returns
  have hts := atoms_spec (ws := wsX10_strongest) B.pre
  have hown : s.vm.findClass RX10 = some m.cls := findClass_of_methodNamed B.named
  have hlocks := B.notSynchronized
  subst hsz
  have hD := hD0.self (sz := s.heap.size)
  generalize hAe : va_A (qlc a0 jaK jaR ja1 jcp jbc jbV ja3 jbH jaT jbO jaq jac jbI jbl jbn jba jaa jbA jbz jaR jcB jcC jbo jbp jbk jbj jbf jbq jef jbm jbi jcd jaT jbb jbr jhD jff jbb cyI jbQ) s.heap.size = A at hD hXu hXn ⊢
  have hA : ∀ q : Nat, s.heap.size ≤ q → A q := fun q h => by rw [← hAe]; exact Or.inr h
  have hS : va_S A s.heap s.heap [] := va_S.rf
  have hP : va_P (dC, dI) vwCl (qlc a0 jaK jaR ja1 jcp jbc jbV ja3 jbH jaT jbO jaq jac jbI jbl jbn jba jaa jbA jbz jaR jcB jcC jbo jbp jbk jbj jbf jbq jef jbm jbi jcd jaT jbb jbr jhD jff jbb cyI jbQ) s.heap := hP
  have hl := lv_entry ([.ref a0, .int p1]) (n := 4) (nbq rfl)
  rw [lg_entry_eq]
  generalize (lg_sl ([.ref a0, .int p1]) ++ List.replicate (4 - (lg_sl ([.ref a0, .int p1])).length) Slot.unset).toArray = ls at hl ⊢
  have hl : lv_has ls 4 [(0, .ref a0), (1, .int p1)] := hl
  have hY : cfY l s A := ⟨hXl, hXu, hXn, hXt⟩
  have hXs : cfX l s c A := ⟨hnt, hY⟩
  have C0 : cfx p s m _ meth c cX10_strongest (some .int) wsX10_strongest RX10 4 A (dC, dI) (kT cyB cyI cyJ cyP) ∧ cfX l s c A := ⟨⟨hx, hb, hr, hts, hown, hlocks, hml, hA, hK, hNw⟩, hXs⟩
  clear hAe
  obtain ⟨H, hH⟩ : ∃ H, H = s.heap := ⟨_, rfl⟩
  rw [← hH] at hP ⊢
  have hS : va_S A s.heap H [] := by rw [hH]; exact va_S.rf
  have hS := hS
  refine lv_aload_n hx hb (qaa qc7 0 rfl) rfl (lv_at hl 0 rfl) ?_
  refine lv_iload_n hx hb (qaa qc7 1 rfl) rfl (lv_at hl 1 rfl) ?_
  refine lv_iconst (v := 0) hx hb (qaa qc7 2 rfl) (by decide) ?_
  refine lv_iconst (v := 1) hx hb (qaa qc7 3 rfl) (by decide) ?_
  obtain ⟨hCc, hPc, hDc, hFc⟩ := qac (ws' := (qaXj a0 jaK jaR ja1 jcp jbc jbV ja3 jbH jaT jbO jaq jac jbI jbl jbn jba jaa jbA jbz)) hP hD hS hA [0] (by decide +kernel) rfl
  refine vx_callv (vx_runV (As := [.int p1, .int 0, .int 1]) (rest := []) ⟨hx, hb, hml, hown, hts⟩ (qaV l dC dI cyB cyI cyJ cyP a0 H.size (jaK) (.ref jaR) (ja1) (jcp) (jbc) (jbV) (ja3) (jbH) (.ref jaT) (jbO) (jaq) (jac) (jbI) (jbl) (jbn) (jba) (jaa) (jbA) jbz p1 0 1 hw) (cwV 3 hts gX10_strongest_X10_needWithin rfl rfl rfl (by decide +kernel) ⟨nbq rfl, nbq rfl⟩) ⟨qav, va_recv (q := (RX10, TX10, 19)) hK hPc (ci := 10) (q0 := 0) rfl rfl, qbl hPc hK hDc hNw hY hS hFc⟩ rfl rfl hl.1 rfl (lv_room (nbq rfl)) (qaa qc7 4 rfl) ⟨nbq rfl, nbq rfl⟩) hS (fun q _ h => hFc q h) hFc (fun q _ h => hFc q h) (fun en ce q9 u t H1 locs ht hvm hpx hB hz1 hk1 hS hc9 hv9 hcl9 => ?_) (fun u t H1 locs ht hvm hw hB hz1 hk1 hS => ?_)
  · obtain ⟨x1, rfl⟩ : ∃ z, z = u := ⟨_, rfl⟩
    obtain ⟨hw, hP1, hK1, hD1⟩ := hB
    rw [ht] at hP1
    obtain ⟨hP, hD⟩ := qad (wr := (qaOy jaR jcB jcC jbo jbp jbk jbj jbf jbq jef jbm jbi jcd jaT jbb jbr jhD jff jbb cyI jbQ)) (w1 := (qaXj a0 jaK jaR ja1 jcp jbc jbV ja3 jbH jaT jbO jaq jac jbI jbl jbn jba jaa jbA x1)) (wn := (qlc a0 jaK jaR ja1 jcp jbc jbV ja3 jbH jaT jbO jaq jac jbI jbl jbn jba jaa jbA x1 jaR jcB jcC jbo jbp jbk jbj jbf jbq jef jbm jbi jcd jaT jbb jbr jhD jff jbb cyI jbQ)) hP hD [0] [1, 2, 3] [3, 0, 1, 2] hCc rfl (by decide +kernel) (by decide +kernel) (by decide +kernel) rfl hk1 hFc hP1 hD1
    generalize H1 = H at hP hS hc9 ⊢
    exact vx_out (fun x hx9 => (hXs.1 x hx9).elim) hlocks hc9 hv9 hcl9 (fun t2 ht2 hal2 => ⟨(x1), trivial, ⟨hw, by rw [ht2]; exact hP, va_K.moved hal2 hK, hD⟩, hS.F ht2⟩) hS.2.2 (nbq rfl) (nbq rfl)
  obtain ⟨x1, rfl⟩ : ∃ z, z = u := ⟨_, rfl⟩
  obtain ⟨hP1, hK1, hD1⟩ := hB
  rw [ht] at hP1
  obtain ⟨hP, hD⟩ := qad (wr := (qaOy jaR jcB jcC jbo jbp jbk jbj jbf jbq jef jbm jbi jcd jaT jbb jbr jhD jff jbb cyI jbQ)) (w1 := (qaXj a0 jaK jaR ja1 jcp jbc jbV ja3 jbH jaT jbO jaq jac jbI jbl jbn jba jaa jbA x1)) (wn := (qlc a0 jaK jaR ja1 jcp jbc jbV ja3 jbH jaT jbO jaq jac jbI jbl jbn jba jaa jbA x1 jaR jcB jcC jbo jbp jbk jbj jbf jbq jef jbm jbi jcd jaT jbb jbr jhD jff jbb cyI jbQ)) hP hD [0] [1, 2, 3] [3, 0, 1, 2] hCc rfl (by decide +kernel) (by decide +kernel) (by decide +kernel) rfl hk1 hFc hP1 hD1
  generalize H1 = H at hP hS ⊢
  refine lv_iconst (v := (-1)) hx hb (qaa qc7 5 rfl) (by decide) ?_
  refine lv_istore_n (lv' := [(2, .int (-1)), (0, .ref a0), (1, .int p1)]) hx hb (qaa qc7 6 rfl) rfl hl (by decide) rfl (fun ls hl => ?_)
  refine lv_iconst (v := 0) hx hb (qaa qc7 7 rfl) (by decide) ?_
  refine lv_istore_n (lv' := [(3, .int 0), (2, .int (-1)), (0, .ref a0), (1, .int p1)]) hx hb (qaa qc7 8 rfl) rfl hl (by decide) rfl (fun ls hl => ?_)
  obtain ⟨n9, hw⟩ := hw
  exact q9k dC dI cyB cyI cyJ cyP a0 jaR jaT jbb jaK ja1 jcp jbc jbV ja3 jbH jbO jaq jac jbI jbl jbn jba jaa jbA jcB jcC jbo jbp jbk jbj jbf jbq jef jbi jcd jbr jhD jff jbm jbQ E Q C0 n9 _ _ _ x1 p1 (-1) 0 hP hD hS (lv_sub hl [2, 3, 1, 0] rfl) hw
theorem q9t : (.classLink RL 13 "java/lang/IllegalArgumentException" : Cond) ∈ wsL_strongest := qOf 595 (by decide +kernel)
theorem qaiM : (.codeWith yL_strongest cL_strongest 4 (some .int) [(0, 9, 12, 13)] : Cond) ∈ wsL_strongest := qOf 3863 (by decide +kernel)
set_option maxHeartbeats 4000000 in
set_option maxRecDepth 100000 in
theorem qaIq (l : Launch) (dC : Nat → ClassId) (dI : Nat → Nat → Nat) (cyB cyI cyJ cyP : ClassId) (a0 a2 jaR jaT jbb sz : Nat) (jaK ja1 jcp jbc jbV ja3 jbH jbO jaq jac jbI jbl jbn jba jaa jbA jcB jcC jbo jbp jbk jbj jbf jbq jef jbi jcd jbr jhD jff : Value) (n2 : Nat) (jbm : Int32) (jbQ : NI) (jbz : Int32) (f2 : Nat → Int64) (p1 : Int32) {Q : Int32 → Int32 → (Nat → Int64) → Prop} (hw : q7y n2 jbm jbQ jbz f2 p1 Q) : Met l yL_strongest wsL_strongest ({ frames := 9, cells := 1, slots := 6, locals := 187 }) (va_Pc [.ref a0, .int p1, .ref a2] (cPx l (dC, dI) (kT cyB cyI cyJ cyP) (qMF a0 jaK jaR ja1 jcp jbc jbV ja3 jbH jaT jbO jaq jac jbI jbl jbn jba jaa jbA jbz jaR jcB jcC jbo jbp jbk jbj jbf jbq jef jbm jbi jcd jaT jbb jbr jhD jff jbb cyI jbQ a2 cyJ n2 f2) sz)) (va_Qi (fun (r : Int32) (u : Int32 × (Nat → Int64)) => Q r u.1 u.2) (cB (dC, dI) (kT cyB cyI cyJ cyP) (va_A (qMF a0 jaK jaR ja1 jcp jbc jbV ja3 jbH jaT jbO jaq jac jbI jbl jbn jba jaa jbA jbz jaR jcB jcC jbo jbp jbk jbj jbf jbq jef jbm jbi jcd jaT jbb jbr jhD jff jbb cyI jbQ a2 cyJ n2 f2) sz) (fun u : Int32 × (Nat → Int64) => ((qMF a0 jaK jaR ja1 jcp jbc jbV ja3 jbH jaT jbO jaq jac jbI jbl jbn jba jaa jbA u.1 jaR jcB jcC jbo jbp jbk jbj jbf jbq jef jbm jbi jcd jaT jbb jbr jhD jff jbb cyI jbQ a2 cyJ n2 u.2) : va_W))) (va_A (qMF a0 jaK jaR ja1 jcp jbc jbV ja3 jbH jaT jbO jaq jac jbI jbl jbn jba jaa jbA jbz jaR jcB jcC jbo jbp jbk jbj jbf jbq jef jbm jbi jcd jaT jbb jbr jhD jff jbb cyI jbQ a2 cyJ n2 f2) sz)) 1 6 (va_A (qMF a0 jaK jaR ja1 jcp jbc jbV ja3 jbH jaT jbO jaq jac jbI jbl jbn jba jaa jbA jbz jaR jcB jcC jbo jbp jbk jbj jbf jbq jef jbm jbi jcd jaT jbb jbr jhD jff jbb cyI jbQ a2 cyJ n2 f2) sz) := by
  refine va_MetW (cc := cL_strongest) (maxL := 4) (ret := (some .int)) (by decide) rfl ?_
  intro p e s m args below meth c s₁ B hml hv
  obtain ⟨rfl, hsz, hP, hK, hD0, hNw, hXl, hXu, hXn, hXt⟩ := hv
  have hx := B.exec
  have hb := B.bytes
  have hr := B.returns
  have hts := atoms_spec (ws := wsL_strongest) B.pre
  have hown : s.vm.findClass RL = some m.cls := findClass_of_methodNamed B.named
  have hlocks := B.notSynchronized
  subst hsz
  have hD := hD0.self (sz := s.heap.size)
  generalize hAe : va_A (qMF a0 jaK jaR ja1 jcp jbc jbV ja3 jbH jaT jbO jaq jac jbI jbl jbn jba jaa jbA jbz jaR jcB jcC jbo jbp jbk jbj jbf jbq jef jbm jbi jcd jaT jbb jbr jhD jff jbb cyI jbQ a2 cyJ n2 f2) s.heap.size = A at hD hXu hXn ⊢
  have hA : ∀ q : Nat, s.heap.size ≤ q → A q := fun q h => by rw [← hAe]; exact Or.inr h
  have hS : va_S A s.heap s.heap [] := va_S.rf
  have hP : va_P (dC, dI) vwCl (qMF a0 jaK jaR ja1 jcp jbc jbV ja3 jbH jaT jbO jaq jac jbI jbl jbn jba jaa jbA jbz jaR jcB jcC jbo jbp jbk jbj jbf jbq jef jbm jbi jcd jaT jbb jbr jhD jff jbb cyI jbQ a2 cyJ n2 f2) s.heap := hP
  have hl := lv_entry ([.ref a0, .int p1, .ref a2]) (n := 4) (nbq rfl)
  rw [lg_entry_eq]
  generalize (lg_sl ([.ref a0, .int p1, .ref a2]) ++ List.replicate (4 - (lg_sl ([.ref a0, .int p1, .ref a2])).length) Slot.unset).toArray = ls at hl ⊢
  have hl : lv_has ls 4 [(0, .ref a0), (1, .int p1), (2, .ref a2)] := hl
  have hY : cfY l s A := ⟨hXl, hXu, hXn, hXt⟩
  have hTb := vx_table (x := yL_strongest) B (hts _ qaiM)
  clear hAe
  obtain ⟨H, hH⟩ : ∃ H, H = s.heap := ⟨_, rfl⟩
  rw [← hH] at hP ⊢
  have hS : va_S A s.heap H [] := by rw [hH]; exact va_S.rf
  have hS := hS
  refine lv_aload_n hx hb (qaa qkK 0 rfl) rfl (lv_at hl 2 rfl) ?_
  refine lv_iconst (v := 0) hx hb (qaa qkK 1 rfl) (by decide) ?_
  refine lv_aload_n hx hb (qaa qkK 2 rfl) rfl (lv_at hl 0 rfl) ?_
  refine lv_iload_n hx hb (qaa qkK 3 rfl) rfl (lv_at hl 1 rfl) ?_
  obtain ⟨hCc, hPc, hDc, hFc⟩ := qac (ws' := (qlc a0 jaK jaR ja1 jcp jbc jbV ja3 jbH jaT jbO jaq jac jbI jbl jbn jba jaa jbA jbz jaR jcB jcC jbo jbp jbk jbj jbf jbq jef jbm jbi jcd jaT jbb jbr jhD jff jbb cyI jbQ)) hP hD hS hA [0, 1, 2, 3] (by decide +kernel) rfl
  refine vx_calli (vx_runV (As := [.int p1]) (rest := [.int 0, .ref a2]) ⟨hx, hb, hml, hown, hts⟩ (qasw l dC dI cyB cyI cyJ cyP a0 jaR jaT jbb H.size (jaK) (ja1) (jcp) (jbc) (jbV) (ja3) (jbH) (jbO) (jaq) (jac) (jbI) (jbl) (jbn) (jba) (jaa) (jbA) (jcB) (jcC) (jbo) (jbp) (jbk) (jbj) (jbf) (jbq) (jef) (jbi) (jcd) (jbr) (jhD) (jff) jbm jbQ jbz p1 hw) (cwV 1 hts gL_strongest_X10_strongest rfl rfl rfl (by decide +kernel) ⟨nbq rfl, nbq rfl⟩) ⟨qav, va_recv (q := (RX10, TX10, 19)) hK hPc (ci := 10) (q0 := 0) rfl rfl, qbl hPc hK hDc hNw hY hS hFc⟩ rfl rfl hl.1 rfl (lv_room (nbq rfl)) (qaa qkK 4 rfl) ⟨nbq rfl, nbq rfl⟩) hS (fun q _ h => hFc q h) hFc (fun q _ h => hFc q h) (fun en ce qx9 u t H1 locs ht hvm hpx hB hz1 hk1 hS hc9 hv9 hcl9 => ?_) (fun r2 u t H1 locs ht hvm hw hB hz1 hk1 hS => ?_)
  · obtain ⟨x1, rfl⟩ : ∃ z, z = u := ⟨_, rfl⟩
    obtain ⟨hw, hP1, hK1, hD1⟩ := hB
    rw [ht] at hP1
    obtain ⟨hP, hD⟩ := qad (wr := [(a2, .inl (cyJ, n2, .inr (.inl f2)))]) (w1 := (qlc a0 jaK jaR ja1 jcp jbc jbV ja3 jbH jaT jbO jaq jac jbI jbl jbn jba jaa jbA x1 jaR jcB jcC jbo jbp jbk jbj jbf jbq jef jbm jbi jcd jaT jbb jbr jhD jff jbb cyI jbQ)) (wn := (qMF a0 jaK jaR ja1 jcp jbc jbV ja3 jbH jaT jbO jaq jac jbI jbl jbn jba jaa jbA x1 jaR jcB jcC jbo jbp jbk jbj jbf jbq jef jbm jbi jcd jaT jbb jbr jhD jff jbb cyI jbQ a2 cyJ n2 f2)) hP hD [0, 1, 2, 3] [4] [1, 2, 3, 4, 0] hCc rfl (by decide +kernel) (by decide +kernel) (by decide +kernel) rfl hk1 hFc hP1 hD1
    generalize H1 = H at hP hS hc9 ⊢
    obtain ⟨rfl, hw⟩ := hw
    refine vx_catch (own := RL) (name := "java/lang/IllegalArgumentException") hown [] ⟨0, 9, 12, 13⟩ [] (hTb.trans rfl) (fun z hz => nomatch hz) (by decide) (by decide) (hts _ q9t) (va_Nw.use rfl (hY.2.2.2.1.2 _ (List.mem_of_getElem? (i := 0) rfl))) hc9 hv9 hcl9 ?_
    refine lv_astore_n (lv' := [(3, .ref qx9), (0, .ref a0), (1, .int p1), (2, .ref a2)]) hx hb (qaa qkK 8 rfl) rfl hl (by decide) rfl (fun ls hl => ?_)
    refine lv_iconst (v := 1) hx hb (qaa qkK 9 rfl) (by decide) ?_
    exact (W.widen (k := 1) (n := 6) (nbq rfl) (nbq rfl) (W.iret (v := 1) hx hb hr (fun t ht hW => ⟨⟨1, (x1, f2), rfl, hw, by rw [ht]; exact hP, va_K.moved hW.alike hK, hD⟩, hS.F ht⟩) hS.2.2 (qaa qkK 10 rfl)))
  obtain ⟨x1, rfl⟩ : ∃ z, z = u := ⟨_, rfl⟩
  obtain ⟨hP1, hK1, hD1⟩ := hB
  rw [ht] at hP1
  obtain ⟨hP, hD⟩ := va_join (wr := [(a2, .inl (cyJ, n2, .inr (.inl f2)))]) (w1 := (qlc a0 jaK jaR ja1 jcp jbc jbV ja3 jbH jaT jbO jaq jac jbI jbl jbn jba jaa jbA x1 jaR jcB jcC jbo jbp jbk jbj jbf jbq jef jbm jbi jcd jaT jbb jbr jhD jff jbb cyI jbQ)) hP hD [0, 1, 2, 3] [4] rfl rfl (by decide) (by decide) hk1 hFc hP1 hD1
  have hP : va_P (dC, dI) vwCl (qMF a0 jaK jaR ja1 jcp jbc jbV ja3 jbH jaT jbO jaq jac jbI jbl jbn jba jaa jbA x1 jaR jcB jcC jbo jbp jbk jbj jbf jbq jef jbm jbi jcd jaT jbb jbr jhD jff jbb cyI jbQ a2 cyJ n2 f2) H1 := hP.sub [1, 2, 3, 4, 0] rfl
  have hD : va_D A (qMF a0 jaK jaR ja1 jcp jbc jbV ja3 jbH jaT jbO jaq jac jbI jbl jbn jba jaa jbA x1 jaR jcB jcC jbo jbp jbk jbj jbf jbq jef jbm jbi jcd jaT jbb jbr jhD jff jbb cyI jbQ a2 cyJ n2 f2) := hD.sub [1, 2, 3, 4, 0] (by decide) rfl
  generalize H1 = H at hP hS ⊢
  refine lv_i2l (v := r2.toInt64) hx hb (qaa qkK 5 rfl) rfl ?_
  refine lv_topl (fun x3 ex3 => ?_)
  have hw := hw x3 ex3
  obtain ⟨hi9, hw⟩ := hw
  refine va_last hx hb hK hP hD hS 4 2 rfl rfl hi9 (qaa qkK 6 rfl) (fun H locs hP hD hS => ?_)
  obtain ⟨f4, ef4⟩ : ∃ y : Nat → Int64, y = vp_updL f2 (0 : Int32).toNatClampNeg x3 := ⟨_, rfl⟩
  have hw := hw f4 ef4
  have hP : va_P (dC, dI) vwCl (qMF a0 jaK jaR ja1 jcp jbc jbV ja3 jbH jaT jbO jaq jac jbI jbl jbn jba jaa jbA x1 jaR jcB jcC jbo jbp jbk jbj jbf jbq jef jbm jbi jcd jaT jbb jbr jhD jff jbb cyI jbQ a2 cyJ n2 f4) H := by rw [ef4]; exact hP
  have hD : va_D A (qMF a0 jaK jaR ja1 jcp jbc jbV ja3 jbH jaT jbO jaq jac jbI jbl jbn jba jaa jbA x1 jaR jcB jcC jbo jbp jbk jbj jbf jbq jef jbm jbi jcd jaT jbb jbr jhD jff jbb cyI jbQ a2 cyJ n2 f4) := by rw [ef4]; exact hD
  refine lv_goto (tgt := 15) hx hb (qaa qkK 7 rfl) (by decide) ?_
  refine lv_iconst (v := 0) hx hb (qaa qkK 11 rfl) (by decide) ?_
  exact (W.widen (k := 1) (n := 6) (nbq rfl) (nbq rfl) (W.iret (v := 0) hx hb hr (fun t ht hW => ⟨⟨0, (x1, f4), rfl, hw, by rw [ht]; exact hP, va_K.moved hW.alike hK, hD⟩, hS.F ht⟩) hS.2.2 (qaa qkK 12 rfl)))
theorem qPR : ∀ w ∈ u_ws RX10 TX10 19, w ∈ wsX10_ties := uiM qyO qyN (by decide +kernel)
theorem qaGh : ∀ w ∈ u_ws RX2 TX2 12, w ∈ wsX10_ties := uiM qyO qLp (by decide +kernel)
theorem qauf : (.fieldLink RX10 141 "MarchHares$Down" "hares" "I" : Cond) ∈ wsX10_ties := qyO 644 (by decide +kernel)
theorem qazR : (.fieldLink RX10 19 "MarchHares" "ground" "LMarchHares$Down;" : Cond) ∈ wsX10_ties := qyO 20 (by decide +kernel)
theorem q3r : (.fieldLink RX10 58 "MarchHares" "now" "LMarchHares$Days;" : Cond) ∈ wsX10_ties := qyO 79 (by decide +kernel)
set_option maxHeartbeats 4000000 in
set_option maxRecDepth 100000 in
theorem q7K {p : Program} {l : Launch} {e : Env} {s : State} {m : MethodId} {args : Array Value} {below : List Frame} {meth : Method} {c : Code} {A : Nat → Prop} (dC : Nat → ClassId) (dI : Nat → Nat → Nat) (cyB cyI cyJ cyP : ClassId) (a0 jaR jaT jbb : Nat) (jaK ja1 jcp jbc jbV ja3 jbH jbO jaq jac jbI jbl jbn jba jaa jcB jcC jbo jbp jbk jbj jbf jbq jef jbi jcd jbr jhD jff : Value) (jbm : Int32) (jbQ : NI) (E : String → Int32 → Int32 → Prop) (Q : Int32 → Int32 → Int32 → Prop) (K17 : Int32 → Int32 → Int32 → Int32 → Int32 → Int32 → Prop) (hK17 : ∀ (H : Heap) (locs : List Loc) (ls : Array Slot) (jdu jbz l1 l2 l3 l4 : Int32), va_P (dC, dI) vwCl (qnK a0 jaK jaR ja1 jcp jbc jbV ja3 jbH jaT jbO jaq jac jbI jbl jbn jba jaa jdu jbz jaR jcB jcC jbo jbp jbk jbj jbf jbq jef jbm jbi jcd jaT jbb jbr jhD jff jbb cyI jbQ) H → va_D A (qnK a0 jaK jaR ja1 jcp jbc jbV ja3 jbH jaT jbO jaq jac jbI jbl jbn jba jaa jdu jbz jaR jcB jcC jbo jbp jbk jbj jbf jbq jef jbm jbi jcd jaT jbb jbr jhD jff jbb cyI jbQ) → va_S A s.heap H locs → lv_has ls 6 [(0, .ref a0), (1, .int l1), (2, .int l2), (3, .int l3), (4, .int l4)] → K17 jdu jbz l1 l2 l3 l4 → W p l e (headSpec wsX10_ties ({ frames := 8, cells := 2, slots := 12, locals := 164 })).room s m args below meth c H locs 2 12 (vx_MQ below (va_Qi (fun (r : Int32) (u : Int32 × Int32) => Q r u.1 u.2) (cB (dC, dI) (kT cyB cyI cyJ cyP) A (fun u : Int32 × Int32 => ((qnK a0 jaK jaR ja1 jcp jbc jbV ja3 jbH jaT jbO jaq jac jbI jbl jbn jba jaa u.1 u.2 jaR jcB jcC jbo jbp jbk jbj jbf jbq jef jbm jbi jcd jaT jbb jbr jhD jff jbb cyI jbQ) : va_W))) A) (vx_X (fun _ => True) (fun (en : String) (u : Int32 × Int32) (t : State) => E en u.1 u.2 ∧ cB (dC, dI) (kT cyB cyI cyJ cyP) A (fun u : Int32 × Int32 => ((qnK a0 jaK jaR ja1 jcp jbc jbV ja3 jbH jaT jbO jaq jac jbI jbl jbn jba jaa u.1 u.2 jaR jcB jcC jbo jbp jbk jbj jbf jbq jef jbm jbi jcd jaT jbb jbr jhD jff jbb cyI jbQ) : va_W)) u t) A) args s 2 12 A) (F0 m 17 ls [])) (C0 : cfx p s m args meth c cX10_ties (some .int) wsX10_ties RX10 6 A (dC, dI) (kT cyB cyI cyJ cyP) ∧ cfX l s c A) : ∀ (H : Heap) (locs : List Loc) (ls : Array Slot) (jdu jbz l1 l2 l3 l4 : Int32), va_P (dC, dI) vwCl (qnK a0 jaK jaR ja1 jcp jbc jbV ja3 jbH jaT jbO jaq jac jbI jbl jbn jba jaa jdu jbz jaR jcB jcC jbo jbp jbk jbj jbf jbq jef jbm jbi jcd jaT jbb jbr jhD jff jbb cyI jbQ) H → va_D A (qnK a0 jaK jaR ja1 jcp jbc jbV ja3 jbH jaT jbO jaq jac jbI jbl jbn jba jaa jdu jbz jaR jcB jcC jbo jbp jbk jbj jbf jbq jef jbm jbi jcd jaT jbb jbr jhD jff jbb cyI jbQ) → va_S A s.heap H locs → lv_has ls 6 [(0, .ref a0), (1, .int l1), (2, .int l2), (3, .int l3), (4, .int l4)] → qUo jbm jbQ E Q K17 jdu jbz l1 l2 l3 l4 → W p l e (headSpec wsX10_ties ({ frames := 8, cells := 2, slots := 12, locals := 164 })).room s m args below meth c H locs 2 12 (vx_MQ below (va_Qi (fun (r : Int32) (u : Int32 × Int32) => Q r u.1 u.2) (cB (dC, dI) (kT cyB cyI cyJ cyP) A (fun u : Int32 × Int32 => ((qnK a0 jaK jaR ja1 jcp jbc jbV ja3 jbH jaT jbO jaq jac jbI jbl jbn jba jaa u.1 u.2 jaR jcB jcC jbo jbp jbk jbj jbf jbq jef jbm jbi jcd jaT jbb jbr jhD jff jbb cyI jbQ) : va_W))) A) (vx_X (fun _ => True) (fun (en : String) (u : Int32 × Int32) (t : State) => E en u.1 u.2 ∧ cB (dC, dI) (kT cyB cyI cyJ cyP) A (fun u : Int32 × Int32 => ((qnK a0 jaK jaR ja1 jcp jbc jbV ja3 jbH jaT jbO jaq jac jbI jbl jbn jba jaa u.1 u.2 jaR jcB jcC jbo jbp jbk jbj jbf jbq jef jbm jbi jcd jaT jbb jbr jhD jff jbb cyI jbQ) : va_W)) u t) A) args s 2 12 A) (F0 m 70 ls []) := by
  obtain ⟨⟨hx, hb, hr, hts, hown, hlocks, hml, hA, hK, hNw⟩, hXs⟩ := id C0
  have hY := hXs.2
  intro H locs ls jdu jbz l1 l2 l3 l4 hP hD hS hl hw
  obtain ⟨x9, ex9⟩ : ∃ y : Int32, y = l4 + 1 := ⟨_, rfl⟩
  have hw := hw x9 ex9
  refine lv_iinc (v := x9) (lv' := [(4, .int x9), (0, .ref a0), (1, .int l1), (2, .int l2), (3, .int l3)]) hx hb (qaa qqM 7 rfl) hl (k := 4) rfl (by rw [ex9]; rfl) (by decide) rfl (fun ls hl => ?_)
  refine lv_goto (tgt := 17) hx hb (qaa qqM 8 rfl) (by decide) ?_
  exact hK17 _ _ _ jdu jbz l1 l2 l3 x9 hP hD hS (lv_sub hl [1, 2, 3, 4, 0] rfl) hw
set_option maxHeartbeats 4000000 in
set_option maxRecDepth 100000 in
theorem q77 {p : Program} {l : Launch} {e : Env} {s : State} {m : MethodId} {args : Array Value} {below : List Frame} {meth : Method} {c : Code} {A : Nat → Prop} (dC : Nat → ClassId) (dI : Nat → Nat → Nat) (cyB cyI cyJ cyP : ClassId) (a0 jaR jaT jbb : Nat) (jaK ja1 jcp jbc jbV ja3 jbH jbO jaq jac jbI jbl jbn jba jaa jcB jcC jbo jbp jbk jbj jbf jbq jef jbi jcd jbr jhD jff : Value) (jbm : Int32) (jbQ : NI) (E : String → Int32 → Int32 → Prop) (Q : Int32 → Int32 → Int32 → Prop) (K17 : Int32 → Int32 → Int32 → Int32 → Int32 → Int32 → Prop) (hK17 : ∀ (H : Heap) (locs : List Loc) (ls : Array Slot) (jdu jbz l1 l2 l3 l4 : Int32), va_P (dC, dI) vwCl (qnK a0 jaK jaR ja1 jcp jbc jbV ja3 jbH jaT jbO jaq jac jbI jbl jbn jba jaa jdu jbz jaR jcB jcC jbo jbp jbk jbj jbf jbq jef jbm jbi jcd jaT jbb jbr jhD jff jbb cyI jbQ) H → va_D A (qnK a0 jaK jaR ja1 jcp jbc jbV ja3 jbH jaT jbO jaq jac jbI jbl jbn jba jaa jdu jbz jaR jcB jcC jbo jbp jbk jbj jbf jbq jef jbm jbi jcd jaT jbb jbr jhD jff jbb cyI jbQ) → va_S A s.heap H locs → lv_has ls 6 [(0, .ref a0), (1, .int l1), (2, .int l2), (3, .int l3), (4, .int l4)] → K17 jdu jbz l1 l2 l3 l4 → W p l e (headSpec wsX10_ties ({ frames := 8, cells := 2, slots := 12, locals := 164 })).room s m args below meth c H locs 2 12 (vx_MQ below (va_Qi (fun (r : Int32) (u : Int32 × Int32) => Q r u.1 u.2) (cB (dC, dI) (kT cyB cyI cyJ cyP) A (fun u : Int32 × Int32 => ((qnK a0 jaK jaR ja1 jcp jbc jbV ja3 jbH jaT jbO jaq jac jbI jbl jbn jba jaa u.1 u.2 jaR jcB jcC jbo jbp jbk jbj jbf jbq jef jbm jbi jcd jaT jbb jbr jhD jff jbb cyI jbQ) : va_W))) A) (vx_X (fun _ => True) (fun (en : String) (u : Int32 × Int32) (t : State) => E en u.1 u.2 ∧ cB (dC, dI) (kT cyB cyI cyJ cyP) A (fun u : Int32 × Int32 => ((qnK a0 jaK jaR ja1 jcp jbc jbV ja3 jbH jaT jbO jaq jac jbI jbl jbn jba jaa u.1 u.2 jaR jcB jcC jbo jbp jbk jbj jbf jbq jef jbm jbi jcd jaT jbb jbr jhD jff jbb cyI jbQ) : va_W)) u t) A) args s 2 12 A) (F0 m 17 ls [])) (C0 : cfx p s m args meth c cX10_ties (some .int) wsX10_ties RX10 6 A (dC, dI) (kT cyB cyI cyJ cyP) ∧ cfX l s c A) : ∀ (H : Heap) (locs : List Loc) (ls : Array Slot) (jdu jbz l1 l2 l3 l4 s0 : Int32), va_P (dC, dI) vwCl (qnK a0 jaK jaR ja1 jcp jbc jbV ja3 jbH jaT jbO jaq jac jbI jbl jbn jba jaa jdu jbz jaR jcB jcC jbo jbp jbk jbj jbf jbq jef jbm jbi jcd jaT jbb jbr jhD jff jbb cyI jbQ) H → va_D A (qnK a0 jaK jaR ja1 jcp jbc jbV ja3 jbH jaT jbO jaq jac jbI jbl jbn jba jaa jdu jbz jaR jcB jcC jbo jbp jbk jbj jbf jbq jef jbm jbi jcd jaT jbb jbr jhD jff jbb cyI jbQ) → va_S A s.heap H locs → lv_has ls 6 [(0, .ref a0), (1, .int l1), (2, .int l2), (3, .int l3), (4, .int l4)] → qUs jbm jbQ E Q K17 jdu jbz l1 l2 l3 l4 s0 → W p l e (headSpec wsX10_ties ({ frames := 8, cells := 2, slots := 12, locals := 164 })).room s m args below meth c H locs 2 12 (vx_MQ below (va_Qi (fun (r : Int32) (u : Int32 × Int32) => Q r u.1 u.2) (cB (dC, dI) (kT cyB cyI cyJ cyP) A (fun u : Int32 × Int32 => ((qnK a0 jaK jaR ja1 jcp jbc jbV ja3 jbH jaT jbO jaq jac jbI jbl jbn jba jaa u.1 u.2 jaR jcB jcC jbo jbp jbk jbj jbf jbq jef jbm jbi jcd jaT jbb jbr jhD jff jbb cyI jbQ) : va_W))) A) (vx_X (fun _ => True) (fun (en : String) (u : Int32 × Int32) (t : State) => E en u.1 u.2 ∧ cB (dC, dI) (kT cyB cyI cyJ cyP) A (fun u : Int32 × Int32 => ((qnK a0 jaK jaR ja1 jcp jbc jbV ja3 jbH jaT jbO jaq jac jbI jbl jbn jba jaa u.1 u.2 jaR jcB jcC jbo jbp jbk jbj jbf jbq jef jbm jbi jcd jaT jbb jbr jhD jff jbb cyI jbQ) : va_W)) u t) A) args s 2 12 A) (F0 m 56 ls [.int s0]) := by
  obtain ⟨⟨hx, hb, hr, hts, hown, hlocks, hml, hA, hK, hNw⟩, hXs⟩ := id C0
  have hY := hXs.2
  intro H locs ls jdu jbz l1 l2 l3 l4 s0 hP hD hS hl hw
  refine lv_istore (lv' := [(5, .int s0), (0, .ref a0), (1, .int l1), (2, .int l2), (3, .int l3), (4, .int l4)]) hx hb (qaa qiS 14 rfl) hl (by decide) rfl (fun ls hl => ?_)
  refine lv_iload hx hb (qaa qiS 15 rfl) (lv_at hl 0 rfl) ?_
  refine lv_if_le (tgt := 70) hx hb (qaa qqM 0 rfl) (by decide) (fun c7 => ?_) (fun c7 => ?_)
  · have hw := hw.1 c7
    exact q7K dC dI cyB cyI cyJ cyP a0 jaR jaT jbb jaK ja1 jcp jbc jbV ja3 jbH jbO jaq jac jbI jbl jbn jba jaa jcB jcC jbo jbp jbk jbj jbf jbq jef jbi jcd jbr jhD jff jbm jbQ E Q K17 hK17 C0 _ _ _ jdu jbz l1 l2 l3 l4 hP hD hS (lv_sub hl [1, 2, 3, 4, 5] rfl) hw
  · have hw := hw.2 c7
    refine lv_iload_n hx hb (qaa qqM 1 rfl) rfl (lv_at hl 4 rfl) ?_
    refine lv_iconst (v := 1) hx hb (qaa qqM 2 rfl) (by decide) ?_
    refine lv_iload hx hb (qaa qqM 3 rfl) (lv_at hl 5 rfl) ?_
    refine lv_ishl hx hb (qaa qqM 4 rfl) ?_
    refine lv_ior hx hb (qaa qqM 5 rfl) ?_
    refine lv_topi (fun x8 ex8 => ?_)
    have hw := hw x8 ex8
    refine lv_istore_n (lv' := [(3, .int x8), (5, .int s0), (0, .ref a0), (1, .int l1), (2, .int l2), (4, .int l4)]) hx hb (qaa qqM 6 rfl) rfl hl (by decide) rfl (fun ls hl => ?_)
    exact q7K dC dI cyB cyI cyJ cyP a0 jaR jaT jbb jaK ja1 jcp jbc jbV ja3 jbH jbO jaq jac jbI jbl jbn jba jaa jcB jcC jbo jbp jbk jbj jbf jbq jef jbi jcd jbr jhD jff jbm jbQ E Q K17 hK17 C0 _ _ _ jdu jbz l1 l2 x8 l4 hP hD hS (lv_sub hl [2, 3, 4, 0, 5] rfl) hw
set_option maxHeartbeats 4000000 in
set_option maxRecDepth 100000 in
theorem qaJr {p : Program} {l : Launch} {e : Env} {s : State} {m : MethodId} {args : Array Value} {below : List Frame} {meth : Method} {c : Code} {A : Nat → Prop} (dC : Nat → ClassId) (dI : Nat → Nat → Nat) (cyB cyI cyJ cyP : ClassId) (a0 jaR jaT jbb : Nat) (jaK ja1 jcp jbc jbV ja3 jbH jbO jaq jac jbI jbl jbn jba jaa jcB jcC jbo jbp jbk jbj jbf jbq jef jbi jcd jbr jhD jff : Value) (jbm : Int32) (jbQ : NI) (E : String → Int32 → Int32 → Prop) (Q : Int32 → Int32 → Int32 → Prop) (C0 : cfx p s m args meth c cX10_ties (some .int) wsX10_ties RX10 6 A (dC, dI) (kT cyB cyI cyJ cyP) ∧ cfX l s c A) : ∀ (n : Nat) (H : Heap) (locs : List Loc) (ls : Array Slot) (jdu jbz l1 l2 l3 l4 : Int32), va_P (dC, dI) vwCl (qnK a0 jaK jaR ja1 jcp jbc jbV ja3 jbH jaT jbO jaq jac jbI jbl jbn jba jaa jdu jbz jaR jcB jcC jbo jbp jbk jbj jbf jbq jef jbm jbi jcd jaT jbb jbr jhD jff jbb cyI jbQ) H → va_D A (qnK a0 jaK jaR ja1 jcp jbc jbV ja3 jbH jaT jbO jaq jac jbI jbl jbn jba jaa jdu jbz jaR jcB jcC jbo jbp jbk jbj jbf jbq jef jbm jbi jcd jaT jbb jbr jhD jff jbb cyI jbQ) → va_S A s.heap H locs → lv_has ls 6 [(0, .ref a0), (1, .int l1), (2, .int l2), (3, .int l3), (4, .int l4)] → qvl jbm jbQ E Q n jdu jbz l1 l2 l3 l4 → W p l e (headSpec wsX10_ties ({ frames := 8, cells := 2, slots := 12, locals := 164 })).room s m args below meth c H locs 2 12 (vx_MQ below (va_Qi (fun (r : Int32) (u : Int32 × Int32) => Q r u.1 u.2) (cB (dC, dI) (kT cyB cyI cyJ cyP) A (fun u : Int32 × Int32 => ((qnK a0 jaK jaR ja1 jcp jbc jbV ja3 jbH jaT jbO jaq jac jbI jbl jbn jba jaa u.1 u.2 jaR jcB jcC jbo jbp jbk jbj jbf jbq jef jbm jbi jcd jaT jbb jbr jhD jff jbb cyI jbQ) : va_W))) A) (vx_X (fun _ => True) (fun (en : String) (u : Int32 × Int32) (t : State) => E en u.1 u.2 ∧ cB (dC, dI) (kT cyB cyI cyJ cyP) A (fun u : Int32 × Int32 => ((qnK a0 jaK jaR ja1 jcp jbc jbV ja3 jbH jaT jbO jaq jac jbI jbl jbn jba jaa u.1 u.2 jaR jcB jcC jbo jbp jbk jbj jbf jbq jef jbm jbi jcd jaT jbb jbr jhD jff jbb cyI jbQ) : va_W)) u t) A) args s 2 12 A) (F0 m 17 ls []) := by
  obtain ⟨⟨hx, hb, hr, hts, hown, hlocks, hml, hA, hK, hNw⟩, hXs⟩ := id C0
  have hY := hXs.2
  intro n
  induction n with
  | zero => intro H locs ls jdu jbz l1 l2 l3 l4 hP hD hS hl hw; exact False.elim hw
  | succ n ih =>
    intro H locs ls jdu jbz l1 l2 l3 l4 hP hD hS hl hw
    refine lv_iload hx hb (qaa qlr 12 rfl) (lv_at hl 4 rfl) ?_
    refine lv_aload_n hx hb (qaa qlr 13 rfl) rfl (lv_at hl 0 rfl) ?_
    refine va_get (D := (dC, dI)) (ci := 10) (v := .ref jaR) (C := RX10) (T := TX10) (N := 19) hx hb hts qPR hown hK hP 0 rfl rfl 1 (by decide) (hts _ qazR) (fun _ h9 => h9) rfl (qaa qlr 14 rfl) ?_
    refine va_get (D := (dC, dI)) (ci := 2) (v := .int jbm) (C := RX2) (T := TX2) (N := 12) hx hb hts qaGh hown hK hP 1 rfl rfl 9 (by decide) (hts _ qauf) (fun _ h9 => h9) rfl (qaa qlr 15 rfl) ?_
    refine lv_icmp_ge (tgt := 76) hx hb (qaa qiS 0 rfl) (by decide) (fun c3 => ?_) (fun c3 => ?_)
    · have hw := hw.1 c3
      refine lv_iload_n hx hb (qaa qqM 9 rfl) rfl (lv_at hl 3 rfl) ?_
      exact vx_ret (W.widen (k := 2) (n := 12) (nbq rfl) (nbq rfl) (W.iret (v := l3) hx hb hr (fun t ht hW => ⟨⟨l3, (jdu, jbz), rfl, hw, by rw [ht]; exact hP, va_K.moved hW.alike hK, hD⟩, hS.F ht⟩) hS.2.2 (qaa qqM 10 rfl)))
    · have hw := hw.2 c3
      refine lv_iload_n hx hb (qaa qiS 1 rfl) rfl (lv_at hl 2 rfl) ?_
      refine lv_if_ne (tgt := 46) hx hb (qaa qiS 2 rfl) (by decide) (fun c4 => ?_) (fun c4 => ?_)
      · have hw := hw.1 c4
        refine lv_aload_n hx hb (qaa qiS 9 rfl) rfl (lv_at hl 0 rfl) ?_
        refine va_get (D := (dC, dI)) (ci := 10) (v := .ref jaT) (C := RX10) (T := TX10) (N := 19) hx hb hts qPR hown hK hP 0 rfl rfl 8 (by decide) (hts _ q3r) (fun _ h9 => h9) rfl (qaa qiS 10 rfl) ?_
        refine lv_iload hx hb (qaa qiS 11 rfl) (lv_at hl 4 rfl) ?_
        refine lv_iload_n hx hb (qaa qiS 12 rfl) rfl (lv_at hl 1 rfl) ?_
        obtain ⟨hCc, hPc, hDc, hFc⟩ := qac (ws' := (qsQ jaT jbb jbr jhD jff jbb cyI jbQ)) hP hD hS hA [2, 3] (by decide +kernel) rfl
        refine va_calli (va_runV (As := [.int l4, .int l1]) (rest := []) ⟨hx, hb, hml, hown, hts⟩ (qGD l dC dI cyB cyI cyJ cyP jaT jbb H.size (jbr) (jhD) (jff) jbQ l4 l1 hw) (cwV 2 hts gX10_ties_X1_owesTo rfl rfl rfl (by decide +kernel) ⟨nbq rfl, nbq rfl⟩) ⟨qab, va_recv (q := (RX1, TX1, 4)) hK hPc (ci := 1) (q0 := 0) rfl rfl, qae hPc hK hDc hNw⟩ rfl rfl hl.1 rfl (lv_room (nbq rfl)) (qaa qiS 13 rfl) ⟨nbq rfl, nbq rfl⟩) hS (fun q _ h => hFc q h) hFc (fun r5 u t H1 locs ht hvm hw hB hz1 hk1 hS => ?_)
        obtain ⟨hP1, hK1, hD1⟩ := hB
        rw [ht] at hP1
        obtain ⟨hP, hD⟩ := qah (wr := (qawL a0 jaK jaR ja1 jcp jbc jbV ja3 jbH jaT jbO jaq jac jbI jbl jbn jba jaa jdu jbz jaR jcB jcC jbo jbp jbk jbj jbf jbq jef jbm jbi jcd)) (w1 := (qsQ jaT jbb jbr jhD jff jbb cyI jbQ)) (wn := (qnK a0 jaK jaR ja1 jcp jbc jbV ja3 jbH jaT jbO jaq jac jbI jbl jbn jba jaa jdu jbz jaR jcB jcC jbo jbp jbk jbj jbf jbq jef jbm jbi jcd jaT jbb jbr jhD jff jbb cyI jbQ)) hP hD [2, 3] [0, 1] hCc rfl (by decide +kernel) (by decide +kernel) rfl hk1 hFc hP1 hD1
        generalize H1 = H at hP hS ⊢
        exact q77 dC dI cyB cyI cyJ cyP a0 jaR jaT jbb jaK ja1 jcp jbc jbV ja3 jbH jbO jaq jac jbI jbl jbn jba jaa jcB jcC jbo jbp jbk jbj jbf jbq jef jbi jcd jbr jhD jff jbm jbQ E Q (qvl jbm jbQ E Q n) ih C0 _ _ _ jdu jbz l1 l2 l3 l4 r5 hP hD hS (lv_sub hl [0, 1, 2, 3, 4] rfl) hw
      · have hw := hw.2 c4
        refine lv_aload_n hx hb (qaa qiS 3 rfl) rfl (lv_at hl 0 rfl) ?_
        refine va_get (D := (dC, dI)) (ci := 10) (v := .ref jaT) (C := RX10) (T := TX10) (N := 19) hx hb hts qPR hown hK hP 0 rfl rfl 8 (by decide) (hts _ q3r) (fun _ h9 => h9) rfl (qaa qiS 4 rfl) ?_
        refine lv_iload_n hx hb (qaa qiS 5 rfl) rfl (lv_at hl 1 rfl) ?_
        refine lv_iload hx hb (qaa qiS 6 rfl) (lv_at hl 4 rfl) ?_
        obtain ⟨hCc, hPc, hDc, hFc⟩ := qac (ws' := (qsQ jaT jbb jbr jhD jff jbb cyI jbQ)) hP hD hS hA [2, 3] (by decide +kernel) rfl
        refine va_calli (va_runV (As := [.int l1, .int l4]) (rest := []) ⟨hx, hb, hml, hown, hts⟩ (qGD l dC dI cyB cyI cyJ cyP jaT jbb H.size (jbr) (jhD) (jff) jbQ l1 l4 hw) (cwV 2 hts gX10_ties_X1_owesTo rfl rfl rfl (by decide +kernel) ⟨nbq rfl, nbq rfl⟩) ⟨qab, va_recv (q := (RX1, TX1, 4)) hK hPc (ci := 1) (q0 := 0) rfl rfl, qae hPc hK hDc hNw⟩ rfl rfl hl.1 rfl (lv_room (nbq rfl)) (qaa qiS 7 rfl) ⟨nbq rfl, nbq rfl⟩) hS (fun q _ h => hFc q h) hFc (fun r6 u t H1 locs ht hvm hw hB hz1 hk1 hS => ?_)
        obtain ⟨hP1, hK1, hD1⟩ := hB
        rw [ht] at hP1
        obtain ⟨hP, hD⟩ := qah (wr := (qawL a0 jaK jaR ja1 jcp jbc jbV ja3 jbH jaT jbO jaq jac jbI jbl jbn jba jaa jdu jbz jaR jcB jcC jbo jbp jbk jbj jbf jbq jef jbm jbi jcd)) (w1 := (qsQ jaT jbb jbr jhD jff jbb cyI jbQ)) (wn := (qnK a0 jaK jaR ja1 jcp jbc jbV ja3 jbH jaT jbO jaq jac jbI jbl jbn jba jaa jdu jbz jaR jcB jcC jbo jbp jbk jbj jbf jbq jef jbm jbi jcd jaT jbb jbr jhD jff jbb cyI jbQ)) hP hD [2, 3] [0, 1] hCc rfl (by decide +kernel) (by decide +kernel) rfl hk1 hFc hP1 hD1
        generalize H1 = H at hP hS ⊢
        refine lv_goto (tgt := 56) hx hb (qaa qiS 8 rfl) (by decide) ?_
        exact q77 dC dI cyB cyI cyJ cyP a0 jaR jaT jbb jaK ja1 jcp jbc jbV ja3 jbH jbO jaq jac jbI jbl jbn jba jaa jcB jcC jbo jbp jbk jbj jbf jbq jef jbi jcd jbr jhD jff jbm jbQ E Q (qvl jbm jbQ E Q n) ih C0 _ _ _ jdu jbz l1 l2 l3 l4 r6 hP hD hS (lv_sub hl [0, 1, 2, 3, 4] rfl) hw
set_option maxHeartbeats 4000000 in
set_option maxRecDepth 100000 in
theorem qaX3 (l : Launch) (dC : Nat → ClassId) (dI : Nat → Nat → Nat) (cyB cyI cyJ cyP : ClassId) (a0 jaR jaT jbb sz : Nat) (jaK ja1 jcp jbc jbV ja3 jbH jbO jaq jac jbI jbl jbn jba jaa jcB jcC jbo jbp jbk jbj jbf jbq jef jbi jcd jbr jhD jff : Value) (jbm : Int32) (jbQ : NI) (jdu jbz p1 p2 : Int32) {E : String → Int32 → Int32 → Prop} {Q : Int32 → Int32 → Int32 → Prop} (hw : q9Y jbm jbQ jdu jbz p1 p2 E Q) : vx_Met l yX10_ties wsX10_ties ({ frames := 8, cells := 2, slots := 12, locals := 164 }) (va_Pc [.ref a0, .int p1, .int p2] (cPx l (dC, dI) (kT cyB cyI cyJ cyP) (qnK a0 jaK jaR ja1 jcp jbc jbV ja3 jbH jaT jbO jaq jac jbI jbl jbn jba jaa jdu jbz jaR jcB jcC jbo jbp jbk jbj jbf jbq jef jbm jbi jcd jaT jbb jbr jhD jff jbb cyI jbQ) sz)) (va_Qi (fun (r : Int32) (u : Int32 × Int32) => Q r u.1 u.2) (cB (dC, dI) (kT cyB cyI cyJ cyP) (va_A (qnK a0 jaK jaR ja1 jcp jbc jbV ja3 jbH jaT jbO jaq jac jbI jbl jbn jba jaa jdu jbz jaR jcB jcC jbo jbp jbk jbj jbf jbq jef jbm jbi jcd jaT jbb jbr jhD jff jbb cyI jbQ) sz) (fun u : Int32 × Int32 => ((qnK a0 jaK jaR ja1 jcp jbc jbV ja3 jbH jaT jbO jaq jac jbI jbl jbn jba jaa u.1 u.2 jaR jcB jcC jbo jbp jbk jbj jbf jbq jef jbm jbi jcd jaT jbb jbr jhD jff jbb cyI jbQ) : va_W))) (va_A (qnK a0 jaK jaR ja1 jcp jbc jbV ja3 jbH jaT jbO jaq jac jbI jbl jbn jba jaa jdu jbz jaR jcB jcC jbo jbp jbk jbj jbf jbq jef jbm jbi jcd jaT jbb jbr jhD jff jbb cyI jbQ) sz)) (vx_X (fun _ => True) (fun (en : String) (u : Int32 × Int32) (t : State) => E en u.1 u.2 ∧ cB (dC, dI) (kT cyB cyI cyJ cyP) (va_A (qnK a0 jaK jaR ja1 jcp jbc jbV ja3 jbH jaT jbO jaq jac jbI jbl jbn jba jaa jdu jbz jaR jcB jcC jbo jbp jbk jbj jbf jbq jef jbm jbi jcd jaT jbb jbr jhD jff jbb cyI jbQ) sz) (fun u : Int32 × Int32 => ((qnK a0 jaK jaR ja1 jcp jbc jbV ja3 jbH jaT jbO jaq jac jbI jbl jbn jba jaa u.1 u.2 jaR jcB jcC jbo jbp jbk jbj jbf jbq jef jbm jbi jcd jaT jbb jbr jhD jff jbb cyI jbQ) : va_W)) u t) (va_A (qnK a0 jaK jaR ja1 jcp jbc jbV ja3 jbH jaT jbO jaq jac jbI jbl jbn jba jaa jdu jbz jaR jcB jcC jbo jbp jbk jbj jbf jbq jef jbm jbi jcd jaT jbb jbr jhD jff jbb cyI jbQ) sz)) 2 12 (va_A (qnK a0 jaK jaR ja1 jcp jbc jbV ja3 jbH jaT jbO jaq jac jbI jbl jbn jba jaa jdu jbz jaR jcB jcC jbo jbp jbk jbj jbf jbq jef jbm jbi jcd jaT jbb jbr jhD jff jbb cyI jbQ) sz) := by
  refine vx_ofW (cc := cX10_ties) (maxL := 6) (ret := (some .int)) (by decide) rfl ?_
  intro p e s m args below meth c s₁ B hml hnt hv
  obtain ⟨rfl, hsz, hP, hK, hD0, hNw, hXl, hXu, hXn, hXt⟩ := hv
  have hx := B.exec
  have hb := B.bytes
  have hr := B.returns
  have hts := atoms_spec (ws := wsX10_ties) B.pre
  have hown : s.vm.findClass RX10 = some m.cls := findClass_of_methodNamed B.named
  have hlocks := B.notSynchronized
  subst hsz
  have hD := hD0.self (sz := s.heap.size)
  generalize hAe : va_A (qnK a0 jaK jaR ja1 jcp jbc jbV ja3 jbH jaT jbO jaq jac jbI jbl jbn jba jaa jdu jbz jaR jcB jcC jbo jbp jbk jbj jbf jbq jef jbm jbi jcd jaT jbb jbr jhD jff jbb cyI jbQ) s.heap.size = A at hD hXu hXn ⊢
  have hA : ∀ q : Nat, s.heap.size ≤ q → A q := fun q h => by rw [← hAe]; exact Or.inr h
  have hS : va_S A s.heap s.heap [] := va_S.rf
  have hP : va_P (dC, dI) vwCl (qnK a0 jaK jaR ja1 jcp jbc jbV ja3 jbH jaT jbO jaq jac jbI jbl jbn jba jaa jdu jbz jaR jcB jcC jbo jbp jbk jbj jbf jbq jef jbm jbi jcd jaT jbb jbr jhD jff jbb cyI jbQ) s.heap := hP
  have hl := lv_entry ([.ref a0, .int p1, .int p2]) (n := 6) (nbq rfl)
  rw [lg_entry_eq]
  generalize (lg_sl ([.ref a0, .int p1, .int p2]) ++ List.replicate (6 - (lg_sl ([.ref a0, .int p1, .int p2])).length) Slot.unset).toArray = ls at hl ⊢
  have hl : lv_has ls 6 [(0, .ref a0), (1, .int p1), (2, .int p2)] := hl
  have hY : cfY l s A := ⟨hXl, hXu, hXn, hXt⟩
  have hXs : cfX l s c A := ⟨hnt, hY⟩
  have C0 : cfx p s m _ meth c cX10_ties (some .int) wsX10_ties RX10 6 A (dC, dI) (kT cyB cyI cyJ cyP) ∧ cfX l s c A := ⟨⟨hx, hb, hr, hts, hown, hlocks, hml, hA, hK, hNw⟩, hXs⟩
  clear hAe
  obtain ⟨H, hH⟩ : ∃ H, H = s.heap := ⟨_, rfl⟩
  rw [← hH] at hP ⊢
  have hS : va_S A s.heap H [] := by rw [hH]; exact va_S.rf
  have hS := hS
  refine lv_aload_n hx hb (qaa qlr 0 rfl) rfl (lv_at hl 0 rfl) ?_
  refine lv_iload_n hx hb (qaa qlr 1 rfl) rfl (lv_at hl 1 rfl) ?_
  obtain ⟨hCc, hPc, hDc, hFc⟩ := qac (ws' := (qawL a0 jaK jaR ja1 jcp jbc jbV ja3 jbH jaT jbO jaq jac jbI jbl jbn jba jaa jdu jbz jaR jcB jcC jbo jbp jbk jbj jbf jbq jef jbm jbi jcd)) hP hD hS hA [0, 1] (by decide +kernel) rfl
  refine vx_callv (vx_runV (As := [.int p1]) (rest := []) ⟨hx, hb, hml, hown, hts⟩ (qqu l dC dI cyB cyI cyJ cyP a0 jaR H.size (jaK) (ja1) (jcp) (jbc) (jbV) (ja3) (jbH) (.ref jaT) (jbO) (jaq) (jac) (jbI) (jbl) (jbn) (jba) (jaa) (.int jbz) (jcB) (jcC) (jbo) (jbp) (jbk) (jbj) (jbf) (jbq) (jef) (jbi) (jcd) jbm jdu p1 hw) (cwV 1 hts gX10_ties_X10_needHare rfl rfl rfl (by decide +kernel) ⟨nbq rfl, nbq rfl⟩) ⟨qav, va_recv (q := (RX10, TX10, 19)) hK hPc (ci := 10) (q0 := 0) rfl rfl, qbl hPc hK hDc hNw hY hS hFc⟩ rfl rfl hl.1 rfl (lv_room (nbq rfl)) (qaa qlr 2 rfl) ⟨nbq rfl, nbq rfl⟩) hS (fun q _ h => hFc q h) hFc (fun q _ h => hFc q h) (fun en ce q9 u t H1 locs ht hvm hpx hB hz1 hk1 hS hc9 hv9 hcl9 => ?_) (fun u t H1 locs ht hvm hw hB hz1 hk1 hS => ?_)
  · obtain ⟨x1, rfl⟩ : ∃ z, z = u := ⟨_, rfl⟩
    obtain ⟨hw, hP1, hK1, hD1⟩ := hB
    rw [ht] at hP1
    obtain ⟨hP, hD⟩ := qad (wr := (qsQ jaT jbb jbr jhD jff jbb cyI jbQ)) (w1 := (qawL a0 jaK jaR ja1 jcp jbc jbV ja3 jbH jaT jbO jaq jac jbI jbl jbn jba jaa x1 jbz jaR jcB jcC jbo jbp jbk jbj jbf jbq jef jbm jbi jcd)) (wn := (qnK a0 jaK jaR ja1 jcp jbc jbV ja3 jbH jaT jbO jaq jac jbI jbl jbn jba jaa x1 jbz jaR jcB jcC jbo jbp jbk jbj jbf jbq jef jbm jbi jcd jaT jbb jbr jhD jff jbb cyI jbQ)) hP hD [0, 1] [2, 3] [2, 3, 0, 1] hCc rfl (by decide +kernel) (by decide +kernel) (by decide +kernel) rfl hk1 hFc hP1 hD1
    generalize H1 = H at hP hS hc9 ⊢
    exact vx_out (fun x hx9 => (hXs.1 x hx9).elim) hlocks hc9 hv9 hcl9 (fun t2 ht2 hal2 => ⟨(x1, jbz), trivial, ⟨hw, by rw [ht2]; exact hP, va_K.moved hal2 hK, hD⟩, hS.F ht2⟩) hS.2.2 (nbq rfl) (nbq rfl)
  obtain ⟨x1, rfl⟩ : ∃ z, z = u := ⟨_, rfl⟩
  obtain ⟨hP1, hK1, hD1⟩ := hB
  rw [ht] at hP1
  obtain ⟨hP, hD⟩ := qad (wr := (qsQ jaT jbb jbr jhD jff jbb cyI jbQ)) (w1 := (qawL a0 jaK jaR ja1 jcp jbc jbV ja3 jbH jaT jbO jaq jac jbI jbl jbn jba jaa x1 jbz jaR jcB jcC jbo jbp jbk jbj jbf jbq jef jbm jbi jcd)) (wn := (qnK a0 jaK jaR ja1 jcp jbc jbV ja3 jbH jaT jbO jaq jac jbI jbl jbn jba jaa x1 jbz jaR jcB jcC jbo jbp jbk jbj jbf jbq jef jbm jbi jcd jaT jbb jbr jhD jff jbb cyI jbQ)) hP hD [0, 1] [2, 3] [2, 3, 0, 1] hCc rfl (by decide +kernel) (by decide +kernel) (by decide +kernel) rfl hk1 hFc hP1 hD1
  generalize H1 = H at hP hS ⊢
  refine lv_aload_n hx hb (qaa qlr 3 rfl) rfl (lv_at hl 0 rfl) ?_
  refine lv_iload_n hx hb (qaa qlr 4 rfl) rfl (lv_at hl 2 rfl) ?_
  refine lv_iconst (v := 0) hx hb (qaa qlr 5 rfl) (by decide) ?_
  refine lv_iconst (v := 1) hx hb (qaa qlr 6 rfl) (by decide) ?_
  obtain ⟨hCc, hPc, hDc, hFc⟩ := qac (ws' := (qaXX a0 jaK jaR ja1 jcp jbc jbV ja3 jbH jaT jbO jaq jac jbI jbl jbn jba jaa x1 jbz)) hP hD hS hA [0] (by decide +kernel) rfl
  refine vx_callv (vx_runV (As := [.int p2, .int 0, .int 1]) (rest := []) ⟨hx, hb, hml, hown, hts⟩ (qaV l dC dI cyB cyI cyJ cyP a0 H.size (jaK) (.ref jaR) (ja1) (jcp) (jbc) (jbV) (ja3) (jbH) (.ref jaT) (jbO) (jaq) (jac) (jbI) (jbl) (jbn) (jba) (jaa) (.int x1) jbz p2 0 1 hw) (cwV 3 hts gX10_ties_X10_needWithin rfl rfl rfl (by decide +kernel) ⟨nbq rfl, nbq rfl⟩) ⟨qav, va_recv (q := (RX10, TX10, 19)) hK hPc (ci := 10) (q0 := 0) rfl rfl, qbl hPc hK hDc hNw hY hS hFc⟩ rfl rfl hl.1 rfl (lv_room (nbq rfl)) (qaa qlr 7 rfl) ⟨nbq rfl, nbq rfl⟩) hS (fun q _ h => hFc q h) hFc (fun q _ h => hFc q h) (fun en ce q9 u t H1 locs ht hvm hpx hB hz1 hk1 hS hc9 hv9 hcl9 => ?_) (fun u t H1 locs ht hvm hw hB hz1 hk1 hS => ?_)
  · obtain ⟨x2, rfl⟩ : ∃ z, z = u := ⟨_, rfl⟩
    obtain ⟨hw, hP1, hK1, hD1⟩ := hB
    rw [ht] at hP1
    obtain ⟨hP, hD⟩ := qad (wr := (qaOy jaR jcB jcC jbo jbp jbk jbj jbf jbq jef jbm jbi jcd jaT jbb jbr jhD jff jbb cyI jbQ)) (w1 := (qaXX a0 jaK jaR ja1 jcp jbc jbV ja3 jbH jaT jbO jaq jac jbI jbl jbn jba jaa x1 x2)) (wn := (qnK a0 jaK jaR ja1 jcp jbc jbV ja3 jbH jaT jbO jaq jac jbI jbl jbn jba jaa x1 x2 jaR jcB jcC jbo jbp jbk jbj jbf jbq jef jbm jbi jcd jaT jbb jbr jhD jff jbb cyI jbQ)) hP hD [0] [1, 2, 3] [3, 0, 1, 2] hCc rfl (by decide +kernel) (by decide +kernel) (by decide +kernel) rfl hk1 hFc hP1 hD1
    generalize H1 = H at hP hS hc9 ⊢
    exact vx_out (fun x hx9 => (hXs.1 x hx9).elim) hlocks hc9 hv9 hcl9 (fun t2 ht2 hal2 => ⟨(x1, x2), trivial, ⟨hw, by rw [ht2]; exact hP, va_K.moved hal2 hK, hD⟩, hS.F ht2⟩) hS.2.2 (nbq rfl) (nbq rfl)
  obtain ⟨x2, rfl⟩ : ∃ z, z = u := ⟨_, rfl⟩
  obtain ⟨hP1, hK1, hD1⟩ := hB
  rw [ht] at hP1
  obtain ⟨hP, hD⟩ := qad (wr := (qaOy jaR jcB jcC jbo jbp jbk jbj jbf jbq jef jbm jbi jcd jaT jbb jbr jhD jff jbb cyI jbQ)) (w1 := (qaXX a0 jaK jaR ja1 jcp jbc jbV ja3 jbH jaT jbO jaq jac jbI jbl jbn jba jaa x1 x2)) (wn := (qnK a0 jaK jaR ja1 jcp jbc jbV ja3 jbH jaT jbO jaq jac jbI jbl jbn jba jaa x1 x2 jaR jcB jcC jbo jbp jbk jbj jbf jbq jef jbm jbi jcd jaT jbb jbr jhD jff jbb cyI jbQ)) hP hD [0] [1, 2, 3] [3, 0, 1, 2] hCc rfl (by decide +kernel) (by decide +kernel) (by decide +kernel) rfl hk1 hFc hP1 hD1
  generalize H1 = H at hP hS ⊢
  refine lv_iconst (v := 0) hx hb (qaa qlr 8 rfl) (by decide) ?_
  refine lv_istore_n (lv' := [(3, .int 0), (0, .ref a0), (1, .int p1), (2, .int p2)]) hx hb (qaa qlr 9 rfl) rfl hl (by decide) rfl (fun ls hl => ?_)
  refine lv_iconst (v := 0) hx hb (qaa qlr 10 rfl) (by decide) ?_
  refine lv_istore (lv' := [(4, .int 0), (3, .int 0), (0, .ref a0), (1, .int p1), (2, .int p2)]) hx hb (qaa qlr 11 rfl) hl (by decide) rfl (fun ls hl => ?_)
  obtain ⟨n9, hw⟩ := hw
  exact qaJr dC dI cyB cyI cyJ cyP a0 jaR jaT jbb jaK ja1 jcp jbc jbV ja3 jbH jbO jaq jac jbI jbl jbn jba jaa jcB jcC jbo jbp jbk jbj jbf jbq jef jbi jcd jbr jhD jff jbm jbQ E Q C0 n9 _ _ _ x1 x2 p1 p2 0 0 hP hD hS (lv_sub hl [2, 3, 4, 1, 0] rfl) hw
theorem qaHd : (.classLink RL 13 "java/lang/IllegalArgumentException" : Cond) ∈ wsL_ties := qafW 595 (by decide +kernel)
theorem q7N : (.classLink RL 31 "java/util/NoSuchElementException" : Cond) ∈ wsL_ties := qafW 2639 (by decide +kernel)
theorem qaVw : (.codeWith yL_ties cL_ties 5 (some .int) [(0, 10, 13, 31), (0, 10, 17, 13)] : Cond) ∈ wsL_ties := qafW 3914 (by decide +kernel)
set_option maxHeartbeats 4000000 in
set_option maxRecDepth 100000 in
theorem qa7U (l : Launch) (dC : Nat → ClassId) (dI : Nat → Nat → Nat) (cyB cyI cyJ cyP : ClassId) (a0 a3 jaR jaT jbb sz : Nat) (jaK ja1 jcp jbc jbV ja3 jbH jbO jaq jac jbI jbl jbn jba jaa jcB jcC jbo jbp jbk jbj jbf jbq jef jbi jcd jbr jhD jff : Value) (n3 : Nat) (jbm : Int32) (jbQ : NI) (jdu jbz : Int32) (f3 : Nat → Int64) (p1 p2 : Int32) {Q : Int32 → Int32 → Int32 → (Nat → Int64) → Prop} (hw : qaTQ n3 jbm jbQ jdu jbz f3 p1 p2 Q) : Met l yL_ties wsL_ties ({ frames := 9, cells := 2, slots := 12, locals := 189 }) (va_Pc [.ref a0, .int p1, .int p2, .ref a3] (cPx l (dC, dI) (kT cyB cyI cyJ cyP) (qMP a0 jaK jaR ja1 jcp jbc jbV ja3 jbH jaT jbO jaq jac jbI jbl jbn jba jaa jdu jbz jaR jcB jcC jbo jbp jbk jbj jbf jbq jef jbm jbi jcd jaT jbb jbr jhD jff jbb cyI jbQ a3 cyJ n3 f3) sz)) (va_Qi (fun (r : Int32) (u : Int32 × Int32 × (Nat → Int64)) => Q r u.1 u.2.1 u.2.2) (cB (dC, dI) (kT cyB cyI cyJ cyP) (va_A (qMP a0 jaK jaR ja1 jcp jbc jbV ja3 jbH jaT jbO jaq jac jbI jbl jbn jba jaa jdu jbz jaR jcB jcC jbo jbp jbk jbj jbf jbq jef jbm jbi jcd jaT jbb jbr jhD jff jbb cyI jbQ a3 cyJ n3 f3) sz) (fun u : Int32 × Int32 × (Nat → Int64) => ((qMP a0 jaK jaR ja1 jcp jbc jbV ja3 jbH jaT jbO jaq jac jbI jbl jbn jba jaa u.1 u.2.1 jaR jcB jcC jbo jbp jbk jbj jbf jbq jef jbm jbi jcd jaT jbb jbr jhD jff jbb cyI jbQ a3 cyJ n3 u.2.2) : va_W))) (va_A (qMP a0 jaK jaR ja1 jcp jbc jbV ja3 jbH jaT jbO jaq jac jbI jbl jbn jba jaa jdu jbz jaR jcB jcC jbo jbp jbk jbj jbf jbq jef jbm jbi jcd jaT jbb jbr jhD jff jbb cyI jbQ a3 cyJ n3 f3) sz)) 2 12 (va_A (qMP a0 jaK jaR ja1 jcp jbc jbV ja3 jbH jaT jbO jaq jac jbI jbl jbn jba jaa jdu jbz jaR jcB jcC jbo jbp jbk jbj jbf jbq jef jbm jbi jcd jaT jbb jbr jhD jff jbb cyI jbQ a3 cyJ n3 f3) sz) := by
  refine va_MetW (cc := cL_ties) (maxL := 5) (ret := (some .int)) (by decide) rfl ?_
  intro p e s m args below meth c s₁ B hml hv
  obtain ⟨rfl, hsz, hP, hK, hD0, hNw, hXl, hXu, hXn, hXt⟩ := hv
  have hx := B.exec
  have hb := B.bytes
  have hr := B.returns
  have hts := atoms_spec (ws := wsL_ties) B.pre
  have hown : s.vm.findClass RL = some m.cls := findClass_of_methodNamed B.named
  have hlocks := B.notSynchronized
  subst hsz
  have hD := hD0.self (sz := s.heap.size)
  generalize hAe : va_A (qMP a0 jaK jaR ja1 jcp jbc jbV ja3 jbH jaT jbO jaq jac jbI jbl jbn jba jaa jdu jbz jaR jcB jcC jbo jbp jbk jbj jbf jbq jef jbm jbi jcd jaT jbb jbr jhD jff jbb cyI jbQ a3 cyJ n3 f3) s.heap.size = A at hD hXu hXn ⊢
  have hA : ∀ q : Nat, s.heap.size ≤ q → A q := fun q h => by rw [← hAe]; exact Or.inr h
  have hS : va_S A s.heap s.heap [] := va_S.rf
  have hP : va_P (dC, dI) vwCl (qMP a0 jaK jaR ja1 jcp jbc jbV ja3 jbH jaT jbO jaq jac jbI jbl jbn jba jaa jdu jbz jaR jcB jcC jbo jbp jbk jbj jbf jbq jef jbm jbi jcd jaT jbb jbr jhD jff jbb cyI jbQ a3 cyJ n3 f3) s.heap := hP
  have hl := lv_entry ([.ref a0, .int p1, .int p2, .ref a3]) (n := 5) (nbq rfl)
  rw [lg_entry_eq]
  generalize (lg_sl ([.ref a0, .int p1, .int p2, .ref a3]) ++ List.replicate (5 - (lg_sl ([.ref a0, .int p1, .int p2, .ref a3])).length) Slot.unset).toArray = ls at hl ⊢
  have hl : lv_has ls 5 [(0, .ref a0), (1, .int p1), (2, .int p2), (3, .ref a3)] := hl
  have hY : cfY l s A := ⟨hXl, hXu, hXn, hXt⟩
  have hTb := vx_table (x := yL_ties) B (hts _ qaVw)
  clear hAe
  obtain ⟨H, hH⟩ : ∃ H, H = s.heap := ⟨_, rfl⟩
  rw [← hH] at hP ⊢
  have hS : va_S A s.heap H [] := by rw [hH]; exact va_S.rf
  have hS := hS
  refine lv_aload_n hx hb (qaa qpX 0 rfl) rfl (lv_at hl 3 rfl) ?_
  refine lv_iconst (v := 0) hx hb (qaa qpX 1 rfl) (by decide) ?_
  refine lv_aload_n hx hb (qaa qpX 2 rfl) rfl (lv_at hl 0 rfl) ?_
  refine lv_iload_n hx hb (qaa qpX 3 rfl) rfl (lv_at hl 1 rfl) ?_
  refine lv_iload_n hx hb (qaa qpX 4 rfl) rfl (lv_at hl 2 rfl) ?_
  obtain ⟨hCc, hPc, hDc, hFc⟩ := qac (ws' := (qnK a0 jaK jaR ja1 jcp jbc jbV ja3 jbH jaT jbO jaq jac jbI jbl jbn jba jaa jdu jbz jaR jcB jcC jbo jbp jbk jbj jbf jbq jef jbm jbi jcd jaT jbb jbr jhD jff jbb cyI jbQ)) hP hD hS hA [0, 1, 2, 3] (by decide +kernel) rfl
  refine vx_calli (vx_runV (As := [.int p1, .int p2]) (rest := [.int 0, .ref a3]) ⟨hx, hb, hml, hown, hts⟩ (qaX3 l dC dI cyB cyI cyJ cyP a0 jaR jaT jbb H.size (jaK) (ja1) (jcp) (jbc) (jbV) (ja3) (jbH) (jbO) (jaq) (jac) (jbI) (jbl) (jbn) (jba) (jaa) (jcB) (jcC) (jbo) (jbp) (jbk) (jbj) (jbf) (jbq) (jef) (jbi) (jcd) (jbr) (jhD) (jff) jbm jbQ jdu jbz p1 p2 hw) (cwV 2 hts gL_ties_X10_ties rfl rfl rfl (by decide +kernel) ⟨nbq rfl, nbq rfl⟩) ⟨qav, va_recv (q := (RX10, TX10, 19)) hK hPc (ci := 10) (q0 := 0) rfl rfl, qbl hPc hK hDc hNw hY hS hFc⟩ rfl rfl hl.1 rfl (lv_room (nbq rfl)) (qaa qpX 5 rfl) ⟨nbq rfl, nbq rfl⟩) hS (fun q _ h => hFc q h) hFc (fun q _ h => hFc q h) (fun en ce qx9 u t H1 locs ht hvm hpx hB hz1 hk1 hS hc9 hv9 hcl9 => ?_) (fun r3 u t H1 locs ht hvm hw hB hz1 hk1 hS => ?_)
  · obtain ⟨x1, x2⟩ := u
    obtain ⟨hw, hP1, hK1, hD1⟩ := hB
    rw [ht] at hP1
    obtain ⟨hP, hD⟩ := qad (wr := [(a3, .inl (cyJ, n3, .inr (.inl f3)))]) (w1 := (qnK a0 jaK jaR ja1 jcp jbc jbV ja3 jbH jaT jbO jaq jac jbI jbl jbn jba jaa x1 x2 jaR jcB jcC jbo jbp jbk jbj jbf jbq jef jbm jbi jcd jaT jbb jbr jhD jff jbb cyI jbQ)) (wn := (qMP a0 jaK jaR ja1 jcp jbc jbV ja3 jbH jaT jbO jaq jac jbI jbl jbn jba jaa x1 x2 jaR jcB jcC jbo jbp jbk jbj jbf jbq jef jbm jbi jcd jaT jbb jbr jhD jff jbb cyI jbQ a3 cyJ n3 f3)) hP hD [0, 1, 2, 3] [4] [1, 2, 3, 4, 0] hCc rfl (by decide +kernel) (by decide +kernel) (by decide +kernel) rfl hk1 hFc hP1 hD1
    generalize H1 = H at hP hS hc9 ⊢
    rcases hw with ⟨rfl, hw⟩ | ⟨rfl, hw⟩
    · refine vx_catch (own := RL) (name := "java/util/NoSuchElementException") hown [] ⟨0, 10, 13, 31⟩ [⟨0, 10, 17, 13⟩] (hTb.trans rfl) (fun z hz => nomatch hz) (by decide) (by decide) (hts _ q7N) (va_Nw.use rfl (hY.2.2.2.1.2 _ (List.mem_of_getElem? (i := 1) rfl))) hc9 hv9 hcl9 ?_
      refine lv_astore (lv' := [(4, .ref qx9), (0, .ref a0), (1, .int p1), (2, .int p2), (3, .ref a3)]) hx hb (qaa qpX 9 rfl) hl (by decide) rfl (fun ls hl => ?_)
      refine lv_iconst (v := 1) hx hb (qaa qpX 10 rfl) (by decide) ?_
      exact (W.widen (k := 2) (n := 12) (nbq rfl) (nbq rfl) (W.iret (v := 1) hx hb hr (fun t ht hW => ⟨⟨1, (x1, x2, f3), rfl, hw, by rw [ht]; exact hP, va_K.moved hW.alike hK, hD⟩, hS.F ht⟩) hS.2.2 (qaa qpX 11 rfl)))
    · refine vx_catch (own := RL) (name := "java/lang/IllegalArgumentException") hown [⟨0, 10, 13, 31⟩] ⟨0, 10, 17, 13⟩ [] (hTb.trans rfl) (fun z hz => by rw [List.mem_singleton.mp hz]; exact Or.inr ⟨by decide, _, (hts _ q7N), hY.2.2.2.2.2⟩) (by decide) (by decide) (hts _ qaHd) (va_Nw.use rfl (hY.2.2.2.1.2 _ (List.mem_of_getElem? (i := 0) rfl))) hc9 hv9 hcl9 ?_
      refine lv_astore (lv' := [(4, .ref qx9), (0, .ref a0), (1, .int p1), (2, .int p2), (3, .ref a3)]) hx hb (qaa qpX 12 rfl) hl (by decide) rfl (fun ls hl => ?_)
      refine lv_iconst (v := 2) hx hb (qaa qpX 13 rfl) (by decide) ?_
      exact (W.widen (k := 2) (n := 12) (nbq rfl) (nbq rfl) (W.iret (v := 2) hx hb hr (fun t ht hW => ⟨⟨2, (x1, x2, f3), rfl, hw, by rw [ht]; exact hP, va_K.moved hW.alike hK, hD⟩, hS.F ht⟩) hS.2.2 (qaa qpX 14 rfl)))
  obtain ⟨x1, x2⟩ := u
  obtain ⟨hP1, hK1, hD1⟩ := hB
  rw [ht] at hP1
  obtain ⟨hP, hD⟩ := va_join (wr := [(a3, .inl (cyJ, n3, .inr (.inl f3)))]) (w1 := (qnK a0 jaK jaR ja1 jcp jbc jbV ja3 jbH jaT jbO jaq jac jbI jbl jbn jba jaa x1 x2 jaR jcB jcC jbo jbp jbk jbj jbf jbq jef jbm jbi jcd jaT jbb jbr jhD jff jbb cyI jbQ)) hP hD [0, 1, 2, 3] [4] rfl rfl (by decide) (by decide) hk1 hFc hP1 hD1
  have hP : va_P (dC, dI) vwCl (qMP a0 jaK jaR ja1 jcp jbc jbV ja3 jbH jaT jbO jaq jac jbI jbl jbn jba jaa x1 x2 jaR jcB jcC jbo jbp jbk jbj jbf jbq jef jbm jbi jcd jaT jbb jbr jhD jff jbb cyI jbQ a3 cyJ n3 f3) H1 := hP.sub [1, 2, 3, 4, 0] rfl
  have hD : va_D A (qMP a0 jaK jaR ja1 jcp jbc jbV ja3 jbH jaT jbO jaq jac jbI jbl jbn jba jaa x1 x2 jaR jcB jcC jbo jbp jbk jbj jbf jbq jef jbm jbi jcd jaT jbb jbr jhD jff jbb cyI jbQ a3 cyJ n3 f3) := hD.sub [1, 2, 3, 4, 0] (by decide) rfl
  generalize H1 = H at hP hS ⊢
  refine lv_i2l (v := r3.toInt64) hx hb (qaa qpX 6 rfl) rfl ?_
  refine lv_topl (fun x4 ex4 => ?_)
  have hw := hw x4 ex4
  obtain ⟨hi9, hw⟩ := hw
  refine va_last hx hb hK hP hD hS 4 2 rfl rfl hi9 (qaa qpX 7 rfl) (fun H locs hP hD hS => ?_)
  obtain ⟨f5, ef5⟩ : ∃ y : Nat → Int64, y = vp_updL f3 (0 : Int32).toNatClampNeg x4 := ⟨_, rfl⟩
  have hw := hw f5 ef5
  have hP : va_P (dC, dI) vwCl (qMP a0 jaK jaR ja1 jcp jbc jbV ja3 jbH jaT jbO jaq jac jbI jbl jbn jba jaa x1 x2 jaR jcB jcC jbo jbp jbk jbj jbf jbq jef jbm jbi jcd jaT jbb jbr jhD jff jbb cyI jbQ a3 cyJ n3 f5) H := by rw [ef5]; exact hP
  have hD : va_D A (qMP a0 jaK jaR ja1 jcp jbc jbV ja3 jbH jaT jbO jaq jac jbI jbl jbn jba jaa x1 x2 jaR jcB jcC jbo jbp jbk jbj jbf jbq jef jbm jbi jcd jaT jbb jbr jhD jff jbb cyI jbQ a3 cyJ n3 f5) := by rw [ef5]; exact hD
  refine lv_goto (tgt := 21) hx hb (qaa qpX 8 rfl) (by decide) ?_
  refine lv_iconst (v := 0) hx hb (qaa qpX 15 rfl) (by decide) ?_
  exact (W.widen (k := 2) (n := 12) (nbq rfl) (nbq rfl) (W.iret (v := 0) hx hb hr (fun t ht hW => ⟨⟨0, (x1, x2, f5), rfl, hw, by rw [ht]; exact hP, va_K.moved hW.alike hK, hD⟩, hS.F ht⟩) hS.2.2 (qaa qaVW 0 rfl)))
theorem qaSg : ∀ w ∈ u_ws RX1 TX1 4, w ∈ wsX1_year := uiM qaUf qWg (by decide +kernel)
theorem qaJC : (.fieldLink RX1 13 "MarchHares$Days" "row" "[I" : Cond) ∈ wsX1_year := qaUf 276 (by decide +kernel)
set_option maxHeartbeats 4000000 in
set_option maxRecDepth 100000 in
theorem qaLz (l : Launch) (dC : Nat → ClassId) (dI : Nat → Nat → Nat) (cyB cyI cyJ cyP : ClassId) (a0 jch sz : Nat) (jcD ji6 jhx : Value) (jdE : NI) {Q : Int32 → Prop} (hw : qalx jdE Q) : Met l yX1_year wsX1_year ({ frames := 0, cells := 0, slots := 0, locals := 0 }) (va_Pc [.ref a0] (cPc (dC, dI) (kT cyB cyI cyJ cyP) (qsQ a0 jch jcD ji6 jhx jch cyI jdE) sz)) (va_Qi (fun (r : Int32) (_ : Unit) => Q r ) (cB (dC, dI) (kT cyB cyI cyJ cyP) (va_A (qsQ a0 jch jcD ji6 jhx jch cyI jdE) sz) (fun u : Unit => ((qsQ a0 jch jcD ji6 jhx jch cyI jdE) : va_W))) (va_A (qsQ a0 jch jcD ji6 jhx jch cyI jdE) sz)) 0 0 (va_A (qsQ a0 jch jcD ji6 jhx jch cyI jdE) sz) := by
  refine Met.ofW (cc := cX1_year) (maxL := 1) (ret := (some .int)) (by decide) rfl ?_
  intro p e s m args below meth c s₁ B hml hv
  obtain ⟨rfl, hsz, hP, hK, hD0, hNw⟩ := hv
  have hx := B.exec
  have hb := B.bytes
  have hr := B.returns
  have hts := atoms_spec (ws := wsX1_year) B.pre
  have hown : s.vm.findClass RX1 = some m.cls := findClass_of_methodNamed B.named
  have hlocks := B.notSynchronized
  subst hsz
  have hD := hD0.self (sz := s.heap.size)
  generalize hAe : va_A (qsQ a0 jch jcD ji6 jhx jch cyI jdE) s.heap.size = A at hD ⊢
  have hA : ∀ q : Nat, s.heap.size ≤ q → A q := fun q h => by rw [← hAe]; exact Or.inr h
  have hS : va_S A s.heap s.heap [] := va_S.rf
  have hP : va_P (dC, dI) vwCl (qsQ a0 jch jcD ji6 jhx jch cyI jdE) s.heap := hP
  have hl := lv_entry ([.ref a0]) (n := 1) (nbq rfl)
  rw [lg_entry_eq]
  generalize (lg_sl ([.ref a0]) ++ List.replicate (1 - (lg_sl ([.ref a0])).length) Slot.unset).toArray = ls at hl ⊢
  have hl : lv_has ls 1 [(0, .ref a0)] := hl
  have C0 : cfx p s m _ meth c cX1_year (some .int) wsX1_year RX1 1 A (dC, dI) (kT cyB cyI cyJ cyP) := ⟨hx, hb, hr, hts, hown, hlocks, hml, hA, hK, hNw⟩
  clear hAe
  obtain ⟨H, hH⟩ : ∃ H, H = s.heap := ⟨_, rfl⟩
  rw [← hH] at hP ⊢
  have hS : va_S A s.heap H [] := by rw [hH]; exact va_S.rf
  have hS := hS
  refine lv_aload_n hx hb (qaa qLK 0 rfl) rfl (lv_at hl 0 rfl) ?_
  refine va_get (D := (dC, dI)) (ci := 1) (v := .ref jch) (C := RX1) (T := TX1) (N := 4) hx hb hts qaSg hown hK hP 0 rfl rfl 0 (by decide) (hts _ qaJC) (fun _ h9 => h9) rfl (qaa qLK 1 rfl) ?_
  refine lv_iconst (v := 1) hx hb (qaa qLK 2 rfl) (by decide) ?_
  refine va_iald hx hb hK hP 1 1 rfl rfl (vin (by decide)) (qaa qLK 3 rfl) ?_
  refine lv_topi (fun x1 ex1 => ?_)
  have hw := hw x1 ex1
  exact ((W.iret (v := x1) hx hb hr (fun t ht hW => ⟨⟨x1, (), rfl, hw, by rw [ht]; exact hP, va_K.moved hW.alike hK, hD⟩, hS.F ht⟩) hS.2.2 (qaa qLK 4 rfl)))
theorem qada : ∀ w ∈ u_ws RX1 TX1 4, w ∈ wsX1_leaptOnes := uiM q8b qWg (by decide +kernel)
theorem qacm : (.fieldLink RX1 13 "MarchHares$Days" "row" "[I" : Cond) ∈ wsX1_leaptOnes := q8b 276 (by decide +kernel)
set_option maxHeartbeats 4000000 in
set_option maxRecDepth 100000 in
theorem qavF (l : Launch) (dC : Nat → ClassId) (dI : Nat → Nat → Nat) (cyB cyI cyJ cyP : ClassId) (a0 jch sz : Nat) (jcD ji6 jhx : Value) (jdE : NI) {Q : Int32 → Prop} (hw : q1P jdE Q) : Met l yX1_leaptOnes wsX1_leaptOnes ({ frames := 0, cells := 0, slots := 0, locals := 0 }) (va_Pc [.ref a0] (cPc (dC, dI) (kT cyB cyI cyJ cyP) (qsQ a0 jch jcD ji6 jhx jch cyI jdE) sz)) (va_Qi (fun (r : Int32) (_ : Unit) => Q r ) (cB (dC, dI) (kT cyB cyI cyJ cyP) (va_A (qsQ a0 jch jcD ji6 jhx jch cyI jdE) sz) (fun u : Unit => ((qsQ a0 jch jcD ji6 jhx jch cyI jdE) : va_W))) (va_A (qsQ a0 jch jcD ji6 jhx jch cyI jdE) sz)) 0 0 (va_A (qsQ a0 jch jcD ji6 jhx jch cyI jdE) sz) := by
  refine Met.ofW (cc := cX1_leaptOnes) (maxL := 1) (ret := (some .int)) (by decide) rfl ?_
  intro p e s m args below meth c s₁ B hml hv
  obtain ⟨rfl, hsz, hP, hK, hD0, hNw⟩ := hv
  have hx := B.exec
  have hb := B.bytes
  have hr := B.returns
  have hts := atoms_spec (ws := wsX1_leaptOnes) B.pre
  have hown : s.vm.findClass RX1 = some m.cls := findClass_of_methodNamed B.named
  have hlocks := B.notSynchronized
  subst hsz
  have hD := hD0.self (sz := s.heap.size)
  generalize hAe : va_A (qsQ a0 jch jcD ji6 jhx jch cyI jdE) s.heap.size = A at hD ⊢
  have hA : ∀ q : Nat, s.heap.size ≤ q → A q := fun q h => by rw [← hAe]; exact Or.inr h
  have hS : va_S A s.heap s.heap [] := va_S.rf
  have hP : va_P (dC, dI) vwCl (qsQ a0 jch jcD ji6 jhx jch cyI jdE) s.heap := hP
  have hl := lv_entry ([.ref a0]) (n := 1) (nbq rfl)
  rw [lg_entry_eq]
  generalize (lg_sl ([.ref a0]) ++ List.replicate (1 - (lg_sl ([.ref a0])).length) Slot.unset).toArray = ls at hl ⊢
  have hl : lv_has ls 1 [(0, .ref a0)] := hl
  have C0 : cfx p s m _ meth c cX1_leaptOnes (some .int) wsX1_leaptOnes RX1 1 A (dC, dI) (kT cyB cyI cyJ cyP) := ⟨hx, hb, hr, hts, hown, hlocks, hml, hA, hK, hNw⟩
  clear hAe
  obtain ⟨H, hH⟩ : ∃ H, H = s.heap := ⟨_, rfl⟩
  rw [← hH] at hP ⊢
  have hS : va_S A s.heap H [] := by rw [hH]; exact va_S.rf
  have hS := hS
  refine lv_aload_n hx hb (qaa qyf 0 rfl) rfl (lv_at hl 0 rfl) ?_
  refine va_get (D := (dC, dI)) (ci := 1) (v := .ref jch) (C := RX1) (T := TX1) (N := 4) hx hb hts qada hown hK hP 0 rfl rfl 0 (by decide) (hts _ qacm) (fun _ h9 => h9) rfl (qaa qyf 1 rfl) ?_
  refine lv_iconst (v := 3) hx hb (qaa qyf 2 rfl) (by decide) ?_
  refine va_iald hx hb hK hP 1 1 rfl rfl (vin (by decide)) (qaa qyf 3 rfl) ?_
  refine lv_topi (fun x1 ex1 => ?_)
  have hw := hw x1 ex1
  exact ((W.iret (v := x1) hx hb hr (fun t ht hW => ⟨⟨x1, (), rfl, hw, by rw [ht]; exact hP, va_K.moved hW.alike hK, hD⟩, hS.F ht⟩) hS.2.2 (qaa qyf 4 rfl)))
theorem qbcd {x : Int32} (h : ¬ (x.toInt < 0 ∨ 10 < x.toInt)) : x = 0 ∨ x = 1 ∨ x = 2 ∨ x = 3 ∨ x = 4 ∨ x = 5 ∨ x = 6 ∨ x = 7 ∨ x = 8 ∨ x = 9 ∨ x = 10 := by
  obtain ⟨j, hj, e⟩ := nI_of (x := x) (fun h0 => h (Or.inl (Int.lt_of_lt_of_le (by simpa using (Int32.lt_iff_toInt_lt.mp h0)) (by decide : (0 : Int) ≤ 0))))
  have h2 : (j : Int) ≤ 10 ∧ 0 ≤ (j : Int) := by
    have := nI_toInt hj
    rw [e] at h
    omega
  have h3 : j = 0 ∨ j = 1 ∨ j = 2 ∨ j = 3 ∨ j = 4 ∨ j = 5 ∨ j = 6 ∨ j = 7 ∨ j = 8 ∨ j = 9 ∨ j = 10 := by omega
  rw [e]
  rcases h3 with rfl | rfl | rfl | rfl | rfl | rfl | rfl | rfl | rfl | rfl | rfl <;> decide
theorem qaId : ∀ w ∈ u_ws RX0 TX0 2, w ∈ wsX10_told := uiM qiz euX0 (by decide +kernel)
theorem qn2 : ∀ w ∈ u_ws RX10 TX10 19, w ∈ wsX10_told := uiM qiz qyN (by decide +kernel)
theorem qKL : ∀ w ∈ u_ws RX2 TX2 12, w ∈ wsX10_told := uiM qiz qLp (by decide +kernel)
theorem qark : (.fieldLink RX10 138 "MarchHares" "refusedSteps" "I" : Cond) ∈ wsX10_told := qiz 643 (by decide +kernel)
theorem qasz : (.fieldLink RX10 141 "MarchHares$Down" "hares" "I" : Cond) ∈ wsX10_told := qiz 644 (by decide +kernel)
theorem qaqJ : (.fieldLink RX10 149 "MarchHares$Down" "forms" "I" : Cond) ∈ wsX10_told := qiz 1557 (by decide +kernel)
theorem qapX : (.fieldLink RX10 171 "MarchHares$Book" "many" "I" : Cond) ∈ wsX10_told := qiz 2386 (by decide +kernel)
theorem qaqw : (.fieldLink RX10 184 "MarchHares$Down" "foxes" "I" : Cond) ∈ wsX10_told := qiz 2516 (by decide +kernel)
theorem qHL : (.fieldLink RX10 19 "MarchHares" "ground" "LMarchHares$Down;" : Cond) ∈ wsX10_told := qiz 20 (by decide +kernel)
theorem qatY : (.fieldLink RX10 200 "MarchHares$Down" "safe" "I" : Cond) ∈ wsX10_told := qiz 2517 (by decide +kernel)
theorem qaC8 : (.fieldLink RX10 39 "MarchHares" "lines" "LMarchHares$Book;" : Cond) ∈ wsX10_told := qiz 70 (by decide +kernel)
theorem qyb : (.fieldLink RX10 58 "MarchHares" "now" "LMarchHares$Days;" : Cond) ∈ wsX10_told := qiz 79 (by decide +kernel)
set_option maxHeartbeats 4000000 in
set_option maxRecDepth 100000 in
theorem qaXY (l : Launch) (dC : Nat → ClassId) (dI : Nat → Nat → Nat) (cyB cyI cyJ cyP : ClassId) (a0 jaT jaR jbb jg6 sz : Nat) (jaK ja1 jcp jbc ja3 jbH jbO jaq jac jbI jbl jbn jba jbA jbr jff jcB jcC jbo jbp jbk jbj jbf jbq jnM : Value) (jcn jbE jbm jls jdB : Int32) (jbQ : NI) (jlT jbz p1 : Int32) {E : String → Int32 → Prop} {Q : Int32 → Int32 → Prop} (hw : qaaQ jcn jbE jbm jls jdB jbQ jlT jbz p1 E Q) : vx_Met l yX10_told wsX10_told ({ frames := 8, cells := 1, slots := 6, locals := 164 }) (va_Pc [.ref a0, .int p1] (cPx l (dC, dI) (kT cyB cyI cyJ cyP) (qxE a0 jaK jaR ja1 jcp jbc jg6 ja3 jbH jaT jbO jaq jac jbI jbl jbn jba jcn jbA jbz jaT jbb jbr jaR jff jaR jcB jcC jbo jbp jbk jbj jbf jbq jbE jbm jls jdB jbb cyI jbQ jg6 jnM jlT) sz)) (va_Qi (fun (r u : Int32) => Q r u) (cB (dC, dI) (kT cyB cyI cyJ cyP) (va_A (qxE a0 jaK jaR ja1 jcp jbc jg6 ja3 jbH jaT jbO jaq jac jbI jbl jbn jba jcn jbA jbz jaT jbb jbr jaR jff jaR jcB jcC jbo jbp jbk jbj jbf jbq jbE jbm jls jdB jbb cyI jbQ jg6 jnM jlT) sz) (fun u : Int32 => ((qxE a0 jaK jaR ja1 jcp jbc jg6 ja3 jbH jaT jbO jaq jac jbI jbl jbn jba jcn jbA u jaT jbb jbr jaR jff jaR jcB jcC jbo jbp jbk jbj jbf jbq jbE jbm jls jdB jbb cyI jbQ jg6 jnM jlT) : va_W))) (va_A (qxE a0 jaK jaR ja1 jcp jbc jg6 ja3 jbH jaT jbO jaq jac jbI jbl jbn jba jcn jbA jbz jaT jbb jbr jaR jff jaR jcB jcC jbo jbp jbk jbj jbf jbq jbE jbm jls jdB jbb cyI jbQ jg6 jnM jlT) sz)) (vx_X (fun _ => True) (fun (en : String) (u : Int32) (t : State) => E en u ∧ cB (dC, dI) (kT cyB cyI cyJ cyP) (va_A (qxE a0 jaK jaR ja1 jcp jbc jg6 ja3 jbH jaT jbO jaq jac jbI jbl jbn jba jcn jbA jbz jaT jbb jbr jaR jff jaR jcB jcC jbo jbp jbk jbj jbf jbq jbE jbm jls jdB jbb cyI jbQ jg6 jnM jlT) sz) (fun u : Int32 => ((qxE a0 jaK jaR ja1 jcp jbc jg6 ja3 jbH jaT jbO jaq jac jbI jbl jbn jba jcn jbA u jaT jbb jbr jaR jff jaR jcB jcC jbo jbp jbk jbj jbf jbq jbE jbm jls jdB jbb cyI jbQ jg6 jnM jlT) : va_W)) u t) (va_A (qxE a0 jaK jaR ja1 jcp jbc jg6 ja3 jbH jaT jbO jaq jac jbI jbl jbn jba jcn jbA jbz jaT jbb jbr jaR jff jaR jcB jcC jbo jbp jbk jbj jbf jbq jbE jbm jls jdB jbb cyI jbQ jg6 jnM jlT) sz)) 1 6 (va_A (qxE a0 jaK jaR ja1 jcp jbc jg6 ja3 jbH jaT jbO jaq jac jbI jbl jbn jba jcn jbA jbz jaT jbb jbr jaR jff jaR jcB jcC jbo jbp jbk jbj jbf jbq jbE jbm jls jdB jbb cyI jbQ jg6 jnM jlT) sz) := by
  refine vx_ofW (cc := cX10_told) (maxL := 2) (ret := (some .int)) (by decide) rfl ?_
  intro p e s m args below meth c s₁ B hml hnt hv
  obtain ⟨rfl, hsz, hP, hK, hD0, hNw, hXl, hXu, hXn, hXt⟩ := hv
  have hx := B.exec
  have hb := B.bytes
  have hr := B.returns
  have hts := atoms_spec (ws := wsX10_told) B.pre
  have hown : s.vm.findClass RX10 = some m.cls := findClass_of_methodNamed B.named
  have hlocks := B.notSynchronized
  subst hsz
  have hD := hD0.self (sz := s.heap.size)
  generalize hAe : va_A (qxE a0 jaK jaR ja1 jcp jbc jg6 ja3 jbH jaT jbO jaq jac jbI jbl jbn jba jcn jbA jbz jaT jbb jbr jaR jff jaR jcB jcC jbo jbp jbk jbj jbf jbq jbE jbm jls jdB jbb cyI jbQ jg6 jnM jlT) s.heap.size = A at hD hXu hXn ⊢
  have hA : ∀ q : Nat, s.heap.size ≤ q → A q := fun q h => by rw [← hAe]; exact Or.inr h
  have hS : va_S A s.heap s.heap [] := va_S.rf
  have hP : va_P (dC, dI) vwCl (qxE a0 jaK jaR ja1 jcp jbc jg6 ja3 jbH jaT jbO jaq jac jbI jbl jbn jba jcn jbA jbz jaT jbb jbr jaR jff jaR jcB jcC jbo jbp jbk jbj jbf jbq jbE jbm jls jdB jbb cyI jbQ jg6 jnM jlT) s.heap := hP
  have hl := lv_entry ([.ref a0, .int p1]) (n := 2) (nbq rfl)
  rw [lg_entry_eq]
  generalize (lg_sl ([.ref a0, .int p1]) ++ List.replicate (2 - (lg_sl ([.ref a0, .int p1])).length) Slot.unset).toArray = ls at hl ⊢
  have hl : lv_has ls 2 [(0, .ref a0), (1, .int p1)] := hl
  have hY : cfY l s A := ⟨hXl, hXu, hXn, hXt⟩
  have hXs : cfX l s c A := ⟨hnt, hY⟩
  have C0 : cfx p s m _ meth c cX10_told (some .int) wsX10_told RX10 2 A (dC, dI) (kT cyB cyI cyJ cyP) ∧ cfX l s c A := ⟨⟨hx, hb, hr, hts, hown, hlocks, hml, hA, hK, hNw⟩, hXs⟩
  clear hAe
  obtain ⟨H, hH⟩ : ∃ H, H = s.heap := ⟨_, rfl⟩
  rw [← hH] at hP ⊢
  have hS : va_S A s.heap H [] := by rw [hH]; exact va_S.rf
  have hS := hS
  refine lv_aload_n hx hb (qaa qCT 0 rfl) rfl (lv_at hl 0 rfl) ?_
  refine lv_iload_n hx hb (qaa qCT 1 rfl) rfl (lv_at hl 1 rfl) ?_
  refine lv_iconst (v := 0) hx hb (qaa qCT 2 rfl) (by decide) ?_
  refine lv_bipush (v := 11) hx hb (qaa qCT 3 rfl) (by decide) ?_
  obtain ⟨hCc, hPc, hDc, hFc⟩ := qac (ws' := (qaYv a0 jaK jaR ja1 jcp jbc jg6 ja3 jbH jaT jbO jaq jac jbI jbl jbn jba jcn jbA jbz)) hP hD hS hA [0] (by decide +kernel) rfl
  refine vx_callv (vx_runV (As := [.int p1, .int 0, .int 11]) (rest := []) ⟨hx, hb, hml, hown, hts⟩ (qaV l dC dI cyB cyI cyJ cyP a0 H.size (jaK) (.ref jaR) (ja1) (jcp) (jbc) (.ref jg6) (ja3) (jbH) (.ref jaT) (jbO) (jaq) (jac) (jbI) (jbl) (jbn) (jba) (.int jcn) (jbA) jbz p1 0 11 hw) (cwV 3 hts gX10_told_X10_needWithin rfl rfl rfl (by decide +kernel) ⟨nbq rfl, nbq rfl⟩) ⟨qav, va_recv (q := (RX10, TX10, 19)) hK hPc (ci := 10) (q0 := 0) rfl rfl, qbl hPc hK hDc hNw hY hS hFc⟩ rfl rfl hl.1 rfl (lv_room (nbq rfl)) (qaa qCT 4 rfl) ⟨nbq rfl, nbq rfl⟩) hS (fun q _ h => hFc q h) hFc (fun q _ h => hFc q h) (fun en ce q9 u t H1 locs ht hvm hpx hB hz1 hk1 hS hc9 hv9 hcl9 => ?_) (fun u t H1 locs ht hvm hw hB hz1 hk1 hS => ?_)
  · obtain ⟨x1, rfl⟩ : ∃ z, z = u := ⟨_, rfl⟩
    obtain ⟨hw, hP1, hK1, hD1⟩ := hB
    rw [ht] at hP1
    obtain ⟨hP, hD⟩ := qad (wr := (qa9B jaT jbb jbr jaR jff jaR jcB jcC jbo jbp jbk jbj jbf jbq jbE jbm jls jdB jbb cyI jbQ jg6 jnM jlT)) (w1 := (qaYv a0 jaK jaR ja1 jcp jbc jg6 ja3 jbH jaT jbO jaq jac jbI jbl jbn jba jcn jbA x1)) (wn := (qxE a0 jaK jaR ja1 jcp jbc jg6 ja3 jbH jaT jbO jaq jac jbI jbl jbn jba jcn jbA x1 jaT jbb jbr jaR jff jaR jcB jcC jbo jbp jbk jbj jbf jbq jbE jbm jls jdB jbb cyI jbQ jg6 jnM jlT)) hP hD [0] [1, 2, 3, 4] [4, 0, 1, 2, 3] hCc rfl (by decide +kernel) (by decide +kernel) (by decide +kernel) rfl hk1 hFc hP1 hD1
    generalize H1 = H at hP hS hc9 ⊢
    exact vx_out (fun x hx9 => (hXs.1 x hx9).elim) hlocks hc9 hv9 hcl9 (fun t2 ht2 hal2 => ⟨(x1), trivial, ⟨hw, by rw [ht2]; exact hP, va_K.moved hal2 hK, hD⟩, hS.F ht2⟩) hS.2.2 (nbq rfl) (nbq rfl)
  obtain ⟨x1, rfl⟩ : ∃ z, z = u := ⟨_, rfl⟩
  obtain ⟨hP1, hK1, hD1⟩ := hB
  rw [ht] at hP1
  obtain ⟨hP, hD⟩ := qad (wr := (qa9B jaT jbb jbr jaR jff jaR jcB jcC jbo jbp jbk jbj jbf jbq jbE jbm jls jdB jbb cyI jbQ jg6 jnM jlT)) (w1 := (qaYv a0 jaK jaR ja1 jcp jbc jg6 ja3 jbH jaT jbO jaq jac jbI jbl jbn jba jcn jbA x1)) (wn := (qxE a0 jaK jaR ja1 jcp jbc jg6 ja3 jbH jaT jbO jaq jac jbI jbl jbn jba jcn jbA x1 jaT jbb jbr jaR jff jaR jcB jcC jbo jbp jbk jbj jbf jbq jbE jbm jls jdB jbb cyI jbQ jg6 jnM jlT)) hP hD [0] [1, 2, 3, 4] [4, 0, 1, 2, 3] hCc rfl (by decide +kernel) (by decide +kernel) (by decide +kernel) rfl hk1 hFc hP1 hD1
  generalize H1 = H at hP hS ⊢
  refine lv_iload_n hx hb (qaa qCT 5 rfl) rfl (lv_at hl 1 rfl) ?_
  by_cases c2 : p1.toInt < 0 ∨ 10 < p1.toInt
  · have hw := hw.1 c2
    refine lv_tableOut (tgt := 153) hx hb dX10_told_9 c2 (by decide) ?_
    refine lv_aload_n hx hb (qaa qiq 11 rfl) rfl (lv_at hl 0 rfl) ?_
    refine va_get (D := (dC, dI)) (ci := 10) (v := .ref jaT) (C := RX10) (T := TX10) (N := 19) hx hb hts qn2 hown hK hP 0 rfl rfl 8 (by decide) (hts _ qyb) (fun _ h9 => h9) rfl (qaa qiq 12 rfl) ?_
    obtain ⟨hCc, hPc, hDc, hFc⟩ := qac (ws' := (qaMZ jaT jbb jbr jaR jff jaR jcB jcC jbo jbp jbk jbj jbf jbq jbE jbm jls jdB jbb cyI jbQ)) hP hD hS hA [1, 2, 3] (by decide +kernel) rfl
    refine va_calli (va_runV (As := []) (rest := []) ⟨hx, hb, hml, hown, hts⟩ (qZR l dC dI cyB cyI cyJ cyP jaT jaR jbb H.size (jbr) (jff) (jcB) (jcC) (jbo) (jbp) (jbk) (jbj) (jbf) (jbq) (.int jbE) (.int jls) jbm jdB jbQ hw) (cwV 0 hts gX10_told_X1_endangered rfl rfl rfl (by decide +kernel) ⟨nbq rfl, nbq rfl⟩) ⟨qab, va_recv (q := (RX1, TX1, 4)) hK hPc (ci := 1) (q0 := 0) rfl rfl, qae hPc hK hDc hNw⟩ rfl rfl hl.1 rfl (lv_room (nbq rfl)) (qaa qiq 13 rfl) ⟨nbq rfl, nbq rfl⟩) hS (fun q _ h => hFc q h) hFc (fun r3 u t H1 locs ht hvm hw hB hz1 hk1 hS => ?_)
    obtain ⟨hP1, hK1, hD1⟩ := hB
    rw [ht] at hP1
    obtain ⟨hP, hD⟩ := qad (wr := (qa9O a0 jaK jaR ja1 jcp jbc jg6 ja3 jbH jaT jbO jaq jac jbI jbl jbn jba jcn jbA x1 jg6 jnM jlT)) (w1 := (qaMZ jaT jbb jbr jaR jff jaR jcB jcC jbo jbp jbk jbj jbf jbq jbE jbm jls jdB jbb cyI jbQ)) (wn := (qxE a0 jaK jaR ja1 jcp jbc jg6 ja3 jbH jaT jbO jaq jac jbI jbl jbn jba jcn jbA x1 jaT jbb jbr jaR jff jaR jcB jcC jbo jbp jbk jbj jbf jbq jbE jbm jls jdB jbb cyI jbQ jg6 jnM jlT)) hP hD [1, 2, 3] [0, 4] [0, 2, 3, 4, 1] hCc rfl (by decide +kernel) (by decide +kernel) (by decide +kernel) rfl hk1 hFc hP1 hD1
    generalize H1 = H at hP hS ⊢
    exact vx_ret (W.widen (k := 1) (n := 6) (nbq rfl) (nbq rfl) (W.iret (v := r3) hx hb hr (fun t ht hW => ⟨⟨r3, (x1), rfl, hw, by rw [ht]; exact hP, va_K.moved hW.alike hK, hD⟩, hS.F ht⟩) hS.2.2 (qaa qiq 14 rfl)))
  · have hw := hw.2
    rcases qbcd c2 with c2 | c2 | c2 | c2 | c2 | c2 | c2 | c2 | c2 | c2 | c2
    · have hw := hw.1 c2
      refine lv_tableIn (tgt := 68) (off := 59) hx hb dX10_told_9 (by rw [c2]; decide) (by rw [c2]; decide) (by rw [c2]; decide) (by decide) ?_
      refine lv_aload_n hx hb (qaa qkf 0 rfl) rfl (lv_at hl 0 rfl) ?_
      refine va_get (D := (dC, dI)) (ci := 10) (v := .ref jaR) (C := RX10) (T := TX10) (N := 19) hx hb hts qn2 hown hK hP 0 rfl rfl 1 (by decide) (hts _ qHL) (fun _ h9 => h9) rfl (qaa qkf 1 rfl) ?_
      refine va_get (D := (dC, dI)) (ci := 2) (v := .int jbE) (C := RX2) (T := TX2) (N := 12) hx hb hts qKL hown hK hP 2 rfl rfl 8 (by decide) (hts _ qaqJ) (fun _ h9 => h9) rfl (qaa qkf 2 rfl) ?_
      exact vx_ret (W.widen (k := 1) (n := 6) (nbq rfl) (nbq rfl) (W.iret (v := jbE) hx hb hr (fun t ht hW => ⟨⟨jbE, (x1), rfl, hw, by rw [ht]; exact hP, va_K.moved hW.alike hK, hD⟩, hS.F ht⟩) hS.2.2 (qaa qkf 3 rfl)))
    · have hw := hw.2.1 c2
      refine lv_tableIn (tgt := 76) (off := 67) hx hb dX10_told_9 (by rw [c2]; decide) (by rw [c2]; decide) (by rw [c2]; decide) (by decide) ?_
      refine lv_aload_n hx hb (qaa qkf 4 rfl) rfl (lv_at hl 0 rfl) ?_
      refine va_get (D := (dC, dI)) (ci := 10) (v := .ref jaR) (C := RX10) (T := TX10) (N := 19) hx hb hts qn2 hown hK hP 0 rfl rfl 1 (by decide) (hts _ qHL) (fun _ h9 => h9) rfl (qaa qkf 5 rfl) ?_
      refine va_get (D := (dC, dI)) (ci := 2) (v := .int jbm) (C := RX2) (T := TX2) (N := 12) hx hb hts qKL hown hK hP 2 rfl rfl 9 (by decide) (hts _ qasz) (fun _ h9 => h9) rfl (qaa qkf 6 rfl) ?_
      exact vx_ret (W.widen (k := 1) (n := 6) (nbq rfl) (nbq rfl) (W.iret (v := jbm) hx hb hr (fun t ht hW => ⟨⟨jbm, (x1), rfl, hw, by rw [ht]; exact hP, va_K.moved hW.alike hK, hD⟩, hS.F ht⟩) hS.2.2 (qaa qkf 7 rfl)))
    · have hw := hw.2.2.1 c2
      refine lv_tableIn (tgt := 84) (off := 75) hx hb dX10_told_9 (by rw [c2]; decide) (by rw [c2]; decide) (by rw [c2]; decide) (by decide) ?_
      refine lv_aload_n hx hb (qaa qkf 8 rfl) rfl (lv_at hl 0 rfl) ?_
      refine va_get (D := (dC, dI)) (ci := 10) (v := .ref jaR) (C := RX10) (T := TX10) (N := 19) hx hb hts qn2 hown hK hP 0 rfl rfl 1 (by decide) (hts _ qHL) (fun _ h9 => h9) rfl (qaa qkf 9 rfl) ?_
      refine va_get (D := (dC, dI)) (ci := 2) (v := .int jls) (C := RX2) (T := TX2) (N := 12) hx hb hts qKL hown hK hP 2 rfl rfl 10 (by decide) (hts _ qaqw) (fun _ h9 => h9) rfl (qaa qkf 10 rfl) ?_
      exact vx_ret (W.widen (k := 1) (n := 6) (nbq rfl) (nbq rfl) (W.iret (v := jls) hx hb hr (fun t ht hW => ⟨⟨jls, (x1), rfl, hw, by rw [ht]; exact hP, va_K.moved hW.alike hK, hD⟩, hS.F ht⟩) hS.2.2 (qaa qkf 11 rfl)))
    · have hw := hw.2.2.2.1 c2
      refine lv_tableIn (tgt := 92) (off := 83) hx hb dX10_told_9 (by rw [c2]; decide) (by rw [c2]; decide) (by rw [c2]; decide) (by decide) ?_
      refine lv_aload_n hx hb (qaa qkf 12 rfl) rfl (lv_at hl 0 rfl) ?_
      refine va_get (D := (dC, dI)) (ci := 10) (v := .ref jaT) (C := RX10) (T := TX10) (N := 19) hx hb hts qn2 hown hK hP 0 rfl rfl 8 (by decide) (hts _ qyb) (fun _ h9 => h9) rfl (qaa qkf 13 rfl) ?_
      obtain ⟨hCc, hPc, hDc, hFc⟩ := qac (ws' := (q25 jaT jbb jbr jaR jff jbb cyI jbQ)) hP hD hS hA [1, 3] (by decide +kernel) rfl
      refine va_calli (va_runV (As := []) (rest := []) ⟨hx, hb, hml, hown, hts⟩ (qag9 l dC dI cyB cyI cyJ cyP jaT jbb H.size (jbr) (.ref jaR) (jff) jbQ hw) (cwV 0 hts gX10_told_X1_day rfl rfl rfl (by decide +kernel) ⟨nbq rfl, nbq rfl⟩) ⟨qab, va_recv (q := (RX1, TX1, 4)) hK hPc (ci := 1) (q0 := 0) rfl rfl, qae hPc hK hDc hNw⟩ rfl rfl hl.1 rfl (lv_room (nbq rfl)) (qaa qkf 14 rfl) ⟨nbq rfl, nbq rfl⟩) hS (fun q _ h => hFc q h) hFc (fun r4 u t H1 locs ht hvm hw hB hz1 hk1 hS => ?_)
      obtain ⟨hP1, hK1, hD1⟩ := hB
      rw [ht] at hP1
      obtain ⟨hP, hD⟩ := qad (wr := (qaOK a0 jaK jaR ja1 jcp jbc jg6 ja3 jbH jaT jbO jaq jac jbI jbl jbn jba jcn jbA x1 jaR jcB jcC jbo jbp jbk jbj jbf jbq jbE jbm jls jdB jg6 jnM jlT)) (w1 := (q25 jaT jbb jbr jaR jff jbb cyI jbQ)) (wn := (qxE a0 jaK jaR ja1 jcp jbc jg6 ja3 jbH jaT jbO jaq jac jbI jbl jbn jba jcn jbA x1 jaT jbb jbr jaR jff jaR jcB jcC jbo jbp jbk jbj jbf jbq jbE jbm jls jdB jbb cyI jbQ jg6 jnM jlT)) hP hD [1, 3] [0, 2, 4] [0, 3, 1, 4, 2] hCc rfl (by decide +kernel) (by decide +kernel) (by decide +kernel) rfl hk1 hFc hP1 hD1
      generalize H1 = H at hP hS ⊢
      exact vx_ret (W.widen (k := 1) (n := 6) (nbq rfl) (nbq rfl) (W.iret (v := r4) hx hb hr (fun t ht hW => ⟨⟨r4, (x1), rfl, hw, by rw [ht]; exact hP, va_K.moved hW.alike hK, hD⟩, hS.F ht⟩) hS.2.2 (qaa qkf 15 rfl)))
    · have hw := hw.2.2.2.2.1 c2
      refine lv_tableIn (tgt := 100) (off := 91) hx hb dX10_told_9 (by rw [c2]; decide) (by rw [c2]; decide) (by rw [c2]; decide) (by decide) ?_
      refine lv_aload_n hx hb (qaa qhg 0 rfl) rfl (lv_at hl 0 rfl) ?_
      refine va_get (D := (dC, dI)) (ci := 10) (v := .ref jaT) (C := RX10) (T := TX10) (N := 19) hx hb hts qn2 hown hK hP 0 rfl rfl 8 (by decide) (hts _ qyb) (fun _ h9 => h9) rfl (qaa qhg 1 rfl) ?_
      obtain ⟨hCc, hPc, hDc, hFc⟩ := qac (ws' := (q25 jaT jbb jbr jaR jff jbb cyI jbQ)) hP hD hS hA [1, 3] (by decide +kernel) rfl
      refine va_calli (va_runV (As := []) (rest := []) ⟨hx, hb, hml, hown, hts⟩ (qaLz l dC dI cyB cyI cyJ cyP jaT jbb H.size (jbr) (.ref jaR) (jff) jbQ hw) (cwV 0 hts gX10_told_X1_year rfl rfl rfl (by decide +kernel) ⟨nbq rfl, nbq rfl⟩) ⟨qab, va_recv (q := (RX1, TX1, 4)) hK hPc (ci := 1) (q0 := 0) rfl rfl, qae hPc hK hDc hNw⟩ rfl rfl hl.1 rfl (lv_room (nbq rfl)) (qaa qhg 2 rfl) ⟨nbq rfl, nbq rfl⟩) hS (fun q _ h => hFc q h) hFc (fun r5 u t H1 locs ht hvm hw hB hz1 hk1 hS => ?_)
      obtain ⟨hP1, hK1, hD1⟩ := hB
      rw [ht] at hP1
      obtain ⟨hP, hD⟩ := qad (wr := (qaOK a0 jaK jaR ja1 jcp jbc jg6 ja3 jbH jaT jbO jaq jac jbI jbl jbn jba jcn jbA x1 jaR jcB jcC jbo jbp jbk jbj jbf jbq jbE jbm jls jdB jg6 jnM jlT)) (w1 := (q25 jaT jbb jbr jaR jff jbb cyI jbQ)) (wn := (qxE a0 jaK jaR ja1 jcp jbc jg6 ja3 jbH jaT jbO jaq jac jbI jbl jbn jba jcn jbA x1 jaT jbb jbr jaR jff jaR jcB jcC jbo jbp jbk jbj jbf jbq jbE jbm jls jdB jbb cyI jbQ jg6 jnM jlT)) hP hD [1, 3] [0, 2, 4] [0, 3, 1, 4, 2] hCc rfl (by decide +kernel) (by decide +kernel) (by decide +kernel) rfl hk1 hFc hP1 hD1
      generalize H1 = H at hP hS ⊢
      exact vx_ret (W.widen (k := 1) (n := 6) (nbq rfl) (nbq rfl) (W.iret (v := r5) hx hb hr (fun t ht hW => ⟨⟨r5, (x1), rfl, hw, by rw [ht]; exact hP, va_K.moved hW.alike hK, hD⟩, hS.F ht⟩) hS.2.2 (qaa qhg 3 rfl)))
    · have hw := hw.2.2.2.2.2.1 c2
      refine lv_tableIn (tgt := 108) (off := 99) hx hb dX10_told_9 (by rw [c2]; decide) (by rw [c2]; decide) (by rw [c2]; decide) (by decide) ?_
      refine lv_aload_n hx hb (qaa qhg 4 rfl) rfl (lv_at hl 0 rfl) ?_
      refine va_get (D := (dC, dI)) (ci := 10) (v := .ref jaT) (C := RX10) (T := TX10) (N := 19) hx hb hts qn2 hown hK hP 0 rfl rfl 8 (by decide) (hts _ qyb) (fun _ h9 => h9) rfl (qaa qhg 5 rfl) ?_
      obtain ⟨hCc, hPc, hDc, hFc⟩ := qac (ws' := (q25 jaT jbb jbr jaR jff jbb cyI jbQ)) hP hD hS hA [1, 3] (by decide +kernel) rfl
      refine va_calli (va_runV (As := []) (rest := []) ⟨hx, hb, hml, hown, hts⟩ (qLZ l dC dI cyB cyI cyJ cyP jaT jbb H.size (jbr) (.ref jaR) (jff) jbQ hw) (cwV 0 hts gX10_told_X1_caughtOnes rfl rfl rfl (by decide +kernel) ⟨nbq rfl, nbq rfl⟩) ⟨qab, va_recv (q := (RX1, TX1, 4)) hK hPc (ci := 1) (q0 := 0) rfl rfl, qae hPc hK hDc hNw⟩ rfl rfl hl.1 rfl (lv_room (nbq rfl)) (qaa qhg 6 rfl) ⟨nbq rfl, nbq rfl⟩) hS (fun q _ h => hFc q h) hFc (fun r6 u t H1 locs ht hvm hw hB hz1 hk1 hS => ?_)
      obtain ⟨hP1, hK1, hD1⟩ := hB
      rw [ht] at hP1
      obtain ⟨hP, hD⟩ := qad (wr := (qaOK a0 jaK jaR ja1 jcp jbc jg6 ja3 jbH jaT jbO jaq jac jbI jbl jbn jba jcn jbA x1 jaR jcB jcC jbo jbp jbk jbj jbf jbq jbE jbm jls jdB jg6 jnM jlT)) (w1 := (q25 jaT jbb jbr jaR jff jbb cyI jbQ)) (wn := (qxE a0 jaK jaR ja1 jcp jbc jg6 ja3 jbH jaT jbO jaq jac jbI jbl jbn jba jcn jbA x1 jaT jbb jbr jaR jff jaR jcB jcC jbo jbp jbk jbj jbf jbq jbE jbm jls jdB jbb cyI jbQ jg6 jnM jlT)) hP hD [1, 3] [0, 2, 4] [0, 3, 1, 4, 2] hCc rfl (by decide +kernel) (by decide +kernel) (by decide +kernel) rfl hk1 hFc hP1 hD1
      generalize H1 = H at hP hS ⊢
      exact vx_ret (W.widen (k := 1) (n := 6) (nbq rfl) (nbq rfl) (W.iret (v := r6) hx hb hr (fun t ht hW => ⟨⟨r6, (x1), rfl, hw, by rw [ht]; exact hP, va_K.moved hW.alike hK, hD⟩, hS.F ht⟩) hS.2.2 (qaa qhg 7 rfl)))
    · have hw := hw.2.2.2.2.2.2.1 c2
      refine lv_tableIn (tgt := 116) (off := 107) hx hb dX10_told_9 (by rw [c2]; decide) (by rw [c2]; decide) (by rw [c2]; decide) (by decide) ?_
      refine lv_aload_n hx hb (qaa qhg 8 rfl) rfl (lv_at hl 0 rfl) ?_
      refine va_get (D := (dC, dI)) (ci := 10) (v := .ref jaT) (C := RX10) (T := TX10) (N := 19) hx hb hts qn2 hown hK hP 0 rfl rfl 8 (by decide) (hts _ qyb) (fun _ h9 => h9) rfl (qaa qhg 9 rfl) ?_
      obtain ⟨hCc, hPc, hDc, hFc⟩ := qac (ws' := (q25 jaT jbb jbr jaR jff jbb cyI jbQ)) hP hD hS hA [1, 3] (by decide +kernel) rfl
      refine va_calli (va_runV (As := []) (rest := []) ⟨hx, hb, hml, hown, hts⟩ (qavF l dC dI cyB cyI cyJ cyP jaT jbb H.size (jbr) (.ref jaR) (jff) jbQ hw) (cwV 0 hts gX10_told_X1_leaptOnes rfl rfl rfl (by decide +kernel) ⟨nbq rfl, nbq rfl⟩) ⟨qab, va_recv (q := (RX1, TX1, 4)) hK hPc (ci := 1) (q0 := 0) rfl rfl, qae hPc hK hDc hNw⟩ rfl rfl hl.1 rfl (lv_room (nbq rfl)) (qaa qhg 10 rfl) ⟨nbq rfl, nbq rfl⟩) hS (fun q _ h => hFc q h) hFc (fun r7 u t H1 locs ht hvm hw hB hz1 hk1 hS => ?_)
      obtain ⟨hP1, hK1, hD1⟩ := hB
      rw [ht] at hP1
      obtain ⟨hP, hD⟩ := qad (wr := (qaOK a0 jaK jaR ja1 jcp jbc jg6 ja3 jbH jaT jbO jaq jac jbI jbl jbn jba jcn jbA x1 jaR jcB jcC jbo jbp jbk jbj jbf jbq jbE jbm jls jdB jg6 jnM jlT)) (w1 := (q25 jaT jbb jbr jaR jff jbb cyI jbQ)) (wn := (qxE a0 jaK jaR ja1 jcp jbc jg6 ja3 jbH jaT jbO jaq jac jbI jbl jbn jba jcn jbA x1 jaT jbb jbr jaR jff jaR jcB jcC jbo jbp jbk jbj jbf jbq jbE jbm jls jdB jbb cyI jbQ jg6 jnM jlT)) hP hD [1, 3] [0, 2, 4] [0, 3, 1, 4, 2] hCc rfl (by decide +kernel) (by decide +kernel) (by decide +kernel) rfl hk1 hFc hP1 hD1
      generalize H1 = H at hP hS ⊢
      exact vx_ret (W.widen (k := 1) (n := 6) (nbq rfl) (nbq rfl) (W.iret (v := r7) hx hb hr (fun t ht hW => ⟨⟨r7, (x1), rfl, hw, by rw [ht]; exact hP, va_K.moved hW.alike hK, hD⟩, hS.F ht⟩) hS.2.2 (qaa qhg 11 rfl)))
    · have hw := hw.2.2.2.2.2.2.2.1 c2
      refine lv_tableIn (tgt := 124) (off := 115) hx hb dX10_told_9 (by rw [c2]; decide) (by rw [c2]; decide) (by rw [c2]; decide) (by decide) ?_
      refine lv_aload_n hx hb (qaa qhg 12 rfl) rfl (lv_at hl 0 rfl) ?_
      refine va_get (D := (dC, dI)) (ci := 10) (v := .ref jaR) (C := RX10) (T := TX10) (N := 19) hx hb hts qn2 hown hK hP 0 rfl rfl 1 (by decide) (hts _ qHL) (fun _ h9 => h9) rfl (qaa qhg 13 rfl) ?_
      refine va_get (D := (dC, dI)) (ci := 2) (v := .int jdB) (C := RX2) (T := TX2) (N := 12) hx hb hts qKL hown hK hP 2 rfl rfl 11 (by decide) (hts _ qatY) (fun _ h9 => h9) rfl (qaa qhg 14 rfl) ?_
      exact vx_ret (W.widen (k := 1) (n := 6) (nbq rfl) (nbq rfl) (W.iret (v := jdB) hx hb hr (fun t ht hW => ⟨⟨jdB, (x1), rfl, hw, by rw [ht]; exact hP, va_K.moved hW.alike hK, hD⟩, hS.F ht⟩) hS.2.2 (qaa qhg 15 rfl)))
    · have hw := hw.2.2.2.2.2.2.2.2.1 c2
      refine lv_tableIn (tgt := 132) (off := 123) hx hb dX10_told_9 (by rw [c2]; decide) (by rw [c2]; decide) (by rw [c2]; decide) (by decide) ?_
      refine lv_aload_n hx hb (qaa qiq 0 rfl) rfl (lv_at hl 0 rfl) ?_
      refine va_get (D := (dC, dI)) (ci := 10) (v := .ref jaT) (C := RX10) (T := TX10) (N := 19) hx hb hts qn2 hown hK hP 0 rfl rfl 8 (by decide) (hts _ qyb) (fun _ h9 => h9) rfl (qaa qiq 1 rfl) ?_
      obtain ⟨hCc, hPc, hDc, hFc⟩ := qac (ws' := (qaMZ jaT jbb jbr jaR jff jaR jcB jcC jbo jbp jbk jbj jbf jbq jbE jbm jls jdB jbb cyI jbQ)) hP hD hS hA [1, 2, 3] (by decide +kernel) rfl
      refine va_calli (va_runV (As := []) (rest := []) ⟨hx, hb, hml, hown, hts⟩ (q8c l dC dI cyB cyI cyJ cyP jaT jaR jbb H.size (jbr) (jff) (jcB) (jcC) (jbo) (jbp) (jbk) (jbj) (jbf) (jbq) (.int jbE) (.int jls) (.int jdB) jbm jbQ hw) (cwV 0 hts gX10_told_X1_allDebts rfl rfl rfl (by decide +kernel) ⟨nbq rfl, nbq rfl⟩) ⟨qab, va_recv (q := (RX1, TX1, 4)) hK hPc (ci := 1) (q0 := 0) rfl rfl, qae hPc hK hDc hNw⟩ rfl rfl hl.1 rfl (lv_room (nbq rfl)) (qaa qiq 2 rfl) ⟨nbq rfl, nbq rfl⟩) hS (fun q _ h => hFc q h) hFc (fun r8 u t H1 locs ht hvm hw hB hz1 hk1 hS => ?_)
      obtain ⟨hP1, hK1, hD1⟩ := hB
      rw [ht] at hP1
      obtain ⟨hP, hD⟩ := qad (wr := (qa9O a0 jaK jaR ja1 jcp jbc jg6 ja3 jbH jaT jbO jaq jac jbI jbl jbn jba jcn jbA x1 jg6 jnM jlT)) (w1 := (qaMZ jaT jbb jbr jaR jff jaR jcB jcC jbo jbp jbk jbj jbf jbq jbE jbm jls jdB jbb cyI jbQ)) (wn := (qxE a0 jaK jaR ja1 jcp jbc jg6 ja3 jbH jaT jbO jaq jac jbI jbl jbn jba jcn jbA x1 jaT jbb jbr jaR jff jaR jcB jcC jbo jbp jbk jbj jbf jbq jbE jbm jls jdB jbb cyI jbQ jg6 jnM jlT)) hP hD [1, 2, 3] [0, 4] [0, 2, 3, 4, 1] hCc rfl (by decide +kernel) (by decide +kernel) (by decide +kernel) rfl hk1 hFc hP1 hD1
      generalize H1 = H at hP hS ⊢
      exact vx_ret (W.widen (k := 1) (n := 6) (nbq rfl) (nbq rfl) (W.iret (v := r8) hx hb hr (fun t ht hW => ⟨⟨r8, (x1), rfl, hw, by rw [ht]; exact hP, va_K.moved hW.alike hK, hD⟩, hS.F ht⟩) hS.2.2 (qaa qiq 3 rfl)))
    · have hw := hw.2.2.2.2.2.2.2.2.2.1 c2
      refine lv_tableIn (tgt := 140) (off := 131) hx hb dX10_told_9 (by rw [c2]; decide) (by rw [c2]; decide) (by rw [c2]; decide) (by decide) ?_
      refine lv_aload_n hx hb (qaa qiq 4 rfl) rfl (lv_at hl 0 rfl) ?_
      refine va_get (D := (dC, dI)) (ci := 10) (v := .ref jg6) (C := RX10) (T := TX10) (N := 19) hx hb hts qn2 hown hK hP 0 rfl rfl 5 (by decide) (hts _ qaC8) (fun _ h9 => h9) rfl (qaa qiq 5 rfl) ?_
      refine va_get (D := (dC, dI)) (ci := 0) (v := .int jlT) (C := RX0) (T := TX0) (N := 2) hx hb hts qaId hown hK hP 4 rfl rfl 1 (by decide) (hts _ qapX) (fun _ h9 => h9) rfl (qaa qiq 6 rfl) ?_
      exact vx_ret (W.widen (k := 1) (n := 6) (nbq rfl) (nbq rfl) (W.iret (v := jlT) hx hb hr (fun t ht hW => ⟨⟨jlT, (x1), rfl, hw, by rw [ht]; exact hP, va_K.moved hW.alike hK, hD⟩, hS.F ht⟩) hS.2.2 (qaa qiq 7 rfl)))
    · have hw := hw.2.2.2.2.2.2.2.2.2.2 c2
      refine lv_tableIn (tgt := 148) (off := 139) hx hb dX10_told_9 (by rw [c2]; decide) (by rw [c2]; decide) (by rw [c2]; decide) (by decide) ?_
      refine lv_aload_n hx hb (qaa qiq 8 rfl) rfl (lv_at hl 0 rfl) ?_
      refine va_get (D := (dC, dI)) (ci := 10) (v := .int jcn) (C := RX10) (T := TX10) (N := 19) hx hb hts qn2 hown hK hP 0 rfl rfl 16 (by decide) (hts _ qark) (fun _ h9 => h9) rfl (qaa qiq 9 rfl) ?_
      exact vx_ret (W.widen (k := 1) (n := 6) (nbq rfl) (nbq rfl) (W.iret (v := jcn) hx hb hr (fun t ht hW => ⟨⟨jcn, (x1), rfl, hw, by rw [ht]; exact hP, va_K.moved hW.alike hK, hD⟩, hS.F ht⟩) hS.2.2 (qaa qiq 10 rfl)))
theorem qaIf : (.classLink RL 13 "java/lang/IllegalArgumentException" : Cond) ∈ wsL_told := qave 595 (by decide +kernel)
theorem qaUX : (.codeWith yL_told cL_told 4 (some .int) [(0, 9, 12, 13)] : Cond) ∈ wsL_told := qave 2511 (by decide +kernel)
set_option maxHeartbeats 4000000 in
set_option maxRecDepth 100000 in
theorem qa3m (l : Launch) (dC : Nat → ClassId) (dI : Nat → Nat → Nat) (cyB cyI cyJ cyP : ClassId) (a0 a2 jaT jaR jbb jg6 sz : Nat) (jaK ja1 jcp jbc ja3 jbH jbO jaq jac jbI jbl jbn jba jbA jbr jff jcB jcC jbo jbp jbk jbj jbf jbq jnM : Value) (n2 : Nat) (jcn jbE jbm jls jdB : Int32) (jbQ : NI) (jlT jbz : Int32) (f2 : Nat → Int64) (p1 : Int32) {Q : Int32 → Int32 → (Nat → Int64) → Prop} (hw : qaUw n2 jcn jbE jbm jls jdB jbQ jlT jbz f2 p1 Q) : Met l yL_told wsL_told ({ frames := 9, cells := 1, slots := 6, locals := 185 }) (va_Pc [.ref a0, .int p1, .ref a2] (cPx l (dC, dI) (kT cyB cyI cyJ cyP) (qMC a0 jaK jaR ja1 jcp jbc jg6 ja3 jbH jaT jbO jaq jac jbI jbl jbn jba jcn jbA jbz jaT jbb jbr jaR jff jaR jcB jcC jbo jbp jbk jbj jbf jbq jbE jbm jls jdB jbb cyI jbQ jg6 jnM jlT a2 cyJ n2 f2) sz)) (va_Qi (fun (r : Int32) (u : Int32 × (Nat → Int64)) => Q r u.1 u.2) (cB (dC, dI) (kT cyB cyI cyJ cyP) (va_A (qMC a0 jaK jaR ja1 jcp jbc jg6 ja3 jbH jaT jbO jaq jac jbI jbl jbn jba jcn jbA jbz jaT jbb jbr jaR jff jaR jcB jcC jbo jbp jbk jbj jbf jbq jbE jbm jls jdB jbb cyI jbQ jg6 jnM jlT a2 cyJ n2 f2) sz) (fun u : Int32 × (Nat → Int64) => ((qMC a0 jaK jaR ja1 jcp jbc jg6 ja3 jbH jaT jbO jaq jac jbI jbl jbn jba jcn jbA u.1 jaT jbb jbr jaR jff jaR jcB jcC jbo jbp jbk jbj jbf jbq jbE jbm jls jdB jbb cyI jbQ jg6 jnM jlT a2 cyJ n2 u.2) : va_W))) (va_A (qMC a0 jaK jaR ja1 jcp jbc jg6 ja3 jbH jaT jbO jaq jac jbI jbl jbn jba jcn jbA jbz jaT jbb jbr jaR jff jaR jcB jcC jbo jbp jbk jbj jbf jbq jbE jbm jls jdB jbb cyI jbQ jg6 jnM jlT a2 cyJ n2 f2) sz)) 1 6 (va_A (qMC a0 jaK jaR ja1 jcp jbc jg6 ja3 jbH jaT jbO jaq jac jbI jbl jbn jba jcn jbA jbz jaT jbb jbr jaR jff jaR jcB jcC jbo jbp jbk jbj jbf jbq jbE jbm jls jdB jbb cyI jbQ jg6 jnM jlT a2 cyJ n2 f2) sz) := by
  refine va_MetW (cc := cL_told) (maxL := 4) (ret := (some .int)) (by decide) rfl ?_
  intro p e s m args below meth c s₁ B hml hv
  obtain ⟨rfl, hsz, hP, hK, hD0, hNw, hXl, hXu, hXn, hXt⟩ := hv
  have hx := B.exec
  have hb := B.bytes
  have hr := B.returns
  have hts := atoms_spec (ws := wsL_told) B.pre
  have hown : s.vm.findClass RL = some m.cls := findClass_of_methodNamed B.named
  have hlocks := B.notSynchronized
  subst hsz
  have hD := hD0.self (sz := s.heap.size)
  generalize hAe : va_A (qMC a0 jaK jaR ja1 jcp jbc jg6 ja3 jbH jaT jbO jaq jac jbI jbl jbn jba jcn jbA jbz jaT jbb jbr jaR jff jaR jcB jcC jbo jbp jbk jbj jbf jbq jbE jbm jls jdB jbb cyI jbQ jg6 jnM jlT a2 cyJ n2 f2) s.heap.size = A at hD hXu hXn ⊢
  have hA : ∀ q : Nat, s.heap.size ≤ q → A q := fun q h => by rw [← hAe]; exact Or.inr h
  have hS : va_S A s.heap s.heap [] := va_S.rf
  have hP : va_P (dC, dI) vwCl (qMC a0 jaK jaR ja1 jcp jbc jg6 ja3 jbH jaT jbO jaq jac jbI jbl jbn jba jcn jbA jbz jaT jbb jbr jaR jff jaR jcB jcC jbo jbp jbk jbj jbf jbq jbE jbm jls jdB jbb cyI jbQ jg6 jnM jlT a2 cyJ n2 f2) s.heap := hP
  have hl := lv_entry ([.ref a0, .int p1, .ref a2]) (n := 4) (nbq rfl)
  rw [lg_entry_eq]
  generalize (lg_sl ([.ref a0, .int p1, .ref a2]) ++ List.replicate (4 - (lg_sl ([.ref a0, .int p1, .ref a2])).length) Slot.unset).toArray = ls at hl ⊢
  have hl : lv_has ls 4 [(0, .ref a0), (1, .int p1), (2, .ref a2)] := hl
  have hY : cfY l s A := ⟨hXl, hXu, hXn, hXt⟩
  have hTb := vx_table (x := yL_told) B (hts _ qaUX)
  clear hAe
  obtain ⟨H, hH⟩ : ∃ H, H = s.heap := ⟨_, rfl⟩
  rw [← hH] at hP ⊢
  have hS : va_S A s.heap H [] := by rw [hH]; exact va_S.rf
  have hS := hS
  refine lv_aload_n hx hb (qaa qtp 0 rfl) rfl (lv_at hl 2 rfl) ?_
  refine lv_iconst (v := 0) hx hb (qaa qtp 1 rfl) (by decide) ?_
  refine lv_aload_n hx hb (qaa qtp 2 rfl) rfl (lv_at hl 0 rfl) ?_
  refine lv_iload_n hx hb (qaa qtp 3 rfl) rfl (lv_at hl 1 rfl) ?_
  obtain ⟨hCc, hPc, hDc, hFc⟩ := qac (ws' := (qxE a0 jaK jaR ja1 jcp jbc jg6 ja3 jbH jaT jbO jaq jac jbI jbl jbn jba jcn jbA jbz jaT jbb jbr jaR jff jaR jcB jcC jbo jbp jbk jbj jbf jbq jbE jbm jls jdB jbb cyI jbQ jg6 jnM jlT)) hP hD hS hA [0, 1, 2, 3, 4] (by decide +kernel) rfl
  refine vx_calli (vx_runV (As := [.int p1]) (rest := [.int 0, .ref a2]) ⟨hx, hb, hml, hown, hts⟩ (qaXY l dC dI cyB cyI cyJ cyP a0 jaT jaR jbb jg6 H.size (jaK) (ja1) (jcp) (jbc) (ja3) (jbH) (jbO) (jaq) (jac) (jbI) (jbl) (jbn) (jba) (jbA) (jbr) (jff) (jcB) (jcC) (jbo) (jbp) (jbk) (jbj) (jbf) (jbq) (jnM) jcn jbE jbm jls jdB jbQ jlT jbz p1 hw) (cwV 1 hts gL_told_X10_told rfl rfl rfl (by decide +kernel) ⟨nbq rfl, nbq rfl⟩) ⟨qav, va_recv (q := (RX10, TX10, 19)) hK hPc (ci := 10) (q0 := 0) rfl rfl, qbl hPc hK hDc hNw hY hS hFc⟩ rfl rfl hl.1 rfl (lv_room (nbq rfl)) (qaa qtp 4 rfl) ⟨nbq rfl, nbq rfl⟩) hS (fun q _ h => hFc q h) hFc (fun q _ h => hFc q h) (fun en ce qx9 u t H1 locs ht hvm hpx hB hz1 hk1 hS hc9 hv9 hcl9 => ?_) (fun r2 u t H1 locs ht hvm hw hB hz1 hk1 hS => ?_)
  · obtain ⟨x1, rfl⟩ : ∃ z, z = u := ⟨_, rfl⟩
    obtain ⟨hw, hP1, hK1, hD1⟩ := hB
    rw [ht] at hP1
    obtain ⟨hP, hD⟩ := qad (wr := [(a2, .inl (cyJ, n2, .inr (.inl f2)))]) (w1 := (qxE a0 jaK jaR ja1 jcp jbc jg6 ja3 jbH jaT jbO jaq jac jbI jbl jbn jba jcn jbA x1 jaT jbb jbr jaR jff jaR jcB jcC jbo jbp jbk jbj jbf jbq jbE jbm jls jdB jbb cyI jbQ jg6 jnM jlT)) (wn := (qMC a0 jaK jaR ja1 jcp jbc jg6 ja3 jbH jaT jbO jaq jac jbI jbl jbn jba jcn jbA x1 jaT jbb jbr jaR jff jaR jcB jcC jbo jbp jbk jbj jbf jbq jbE jbm jls jdB jbb cyI jbQ jg6 jnM jlT a2 cyJ n2 f2)) hP hD [0, 1, 2, 3, 4] [5] [1, 2, 3, 4, 5, 0] hCc rfl (by decide +kernel) (by decide +kernel) (by decide +kernel) rfl hk1 hFc hP1 hD1
    generalize H1 = H at hP hS hc9 ⊢
    obtain ⟨rfl, hw⟩ := hw
    refine vx_catch (own := RL) (name := "java/lang/IllegalArgumentException") hown [] ⟨0, 9, 12, 13⟩ [] (hTb.trans rfl) (fun z hz => nomatch hz) (by decide) (by decide) (hts _ qaIf) (va_Nw.use rfl (hY.2.2.2.1.2 _ (List.mem_of_getElem? (i := 0) rfl))) hc9 hv9 hcl9 ?_
    refine lv_astore_n (lv' := [(3, .ref qx9), (0, .ref a0), (1, .int p1), (2, .ref a2)]) hx hb (qaa qtp 8 rfl) rfl hl (by decide) rfl (fun ls hl => ?_)
    refine lv_iconst (v := 1) hx hb (qaa qtp 9 rfl) (by decide) ?_
    exact (W.widen (k := 1) (n := 6) (nbq rfl) (nbq rfl) (W.iret (v := 1) hx hb hr (fun t ht hW => ⟨⟨1, (x1, f2), rfl, hw, by rw [ht]; exact hP, va_K.moved hW.alike hK, hD⟩, hS.F ht⟩) hS.2.2 (qaa qtp 10 rfl)))
  obtain ⟨x1, rfl⟩ : ∃ z, z = u := ⟨_, rfl⟩
  obtain ⟨hP1, hK1, hD1⟩ := hB
  rw [ht] at hP1
  obtain ⟨hP, hD⟩ := va_join (wr := [(a2, .inl (cyJ, n2, .inr (.inl f2)))]) (w1 := (qxE a0 jaK jaR ja1 jcp jbc jg6 ja3 jbH jaT jbO jaq jac jbI jbl jbn jba jcn jbA x1 jaT jbb jbr jaR jff jaR jcB jcC jbo jbp jbk jbj jbf jbq jbE jbm jls jdB jbb cyI jbQ jg6 jnM jlT)) hP hD [0, 1, 2, 3, 4] [5] rfl rfl (by decide) (by decide) hk1 hFc hP1 hD1
  have hP : va_P (dC, dI) vwCl (qMC a0 jaK jaR ja1 jcp jbc jg6 ja3 jbH jaT jbO jaq jac jbI jbl jbn jba jcn jbA x1 jaT jbb jbr jaR jff jaR jcB jcC jbo jbp jbk jbj jbf jbq jbE jbm jls jdB jbb cyI jbQ jg6 jnM jlT a2 cyJ n2 f2) H1 := hP.sub [1, 2, 3, 4, 5, 0] rfl
  have hD : va_D A (qMC a0 jaK jaR ja1 jcp jbc jg6 ja3 jbH jaT jbO jaq jac jbI jbl jbn jba jcn jbA x1 jaT jbb jbr jaR jff jaR jcB jcC jbo jbp jbk jbj jbf jbq jbE jbm jls jdB jbb cyI jbQ jg6 jnM jlT a2 cyJ n2 f2) := hD.sub [1, 2, 3, 4, 5, 0] (by decide) rfl
  generalize H1 = H at hP hS ⊢
  refine lv_i2l (v := r2.toInt64) hx hb (qaa qtp 5 rfl) rfl ?_
  refine lv_topl (fun x3 ex3 => ?_)
  have hw := hw x3 ex3
  obtain ⟨hi9, hw⟩ := hw
  refine va_last hx hb hK hP hD hS 5 2 rfl rfl hi9 (qaa qtp 6 rfl) (fun H locs hP hD hS => ?_)
  obtain ⟨f4, ef4⟩ : ∃ y : Nat → Int64, y = vp_updL f2 (0 : Int32).toNatClampNeg x3 := ⟨_, rfl⟩
  have hw := hw f4 ef4
  have hP : va_P (dC, dI) vwCl (qMC a0 jaK jaR ja1 jcp jbc jg6 ja3 jbH jaT jbO jaq jac jbI jbl jbn jba jcn jbA x1 jaT jbb jbr jaR jff jaR jcB jcC jbo jbp jbk jbj jbf jbq jbE jbm jls jdB jbb cyI jbQ jg6 jnM jlT a2 cyJ n2 f4) H := by rw [ef4]; exact hP
  have hD : va_D A (qMC a0 jaK jaR ja1 jcp jbc jg6 ja3 jbH jaT jbO jaq jac jbI jbl jbn jba jcn jbA x1 jaT jbb jbr jaR jff jaR jcB jcC jbo jbp jbk jbj jbf jbq jbE jbm jls jdB jbb cyI jbQ jg6 jnM jlT a2 cyJ n2 f4) := by rw [ef4]; exact hD
  refine lv_goto (tgt := 15) hx hb (qaa qtp 7 rfl) (by decide) ?_
  refine lv_iconst (v := 0) hx hb (qaa qtp 11 rfl) (by decide) ?_
  exact (W.widen (k := 1) (n := 6) (nbq rfl) (nbq rfl) (W.iret (v := 0) hx hb hr (fun t ht hW => ⟨⟨0, (x1, f4), rfl, hw, by rw [ht]; exact hP, va_K.moved hW.alike hK, hD⟩, hS.F ht⟩) hS.2.2 (qaa qtp 12 rfl)))
