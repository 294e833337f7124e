/-- worlds by their leaves -/
def qJf (x0 : Nat) (x1 x2 x3 x4 x5 x6 x7 : Value) (x8 : Nat) (x9 : Int32) (x10 x11 x12 : Value) (x13 : Nat) (x14 : ClassId) (x15 : NI) : va_W := [(x0, .inr (2, [x1, x2, x3, x4, x5, x6, x7, .ref x8, .int x9, x10, x11, x12])), (x13, .inl (x14, 8, .inl x15))]
def qvT (x0 x1 x2 : Nat) (x3 x4 x5 x6 x7 : Value) (x8 : Nat) (x9 : Int32) (x10 x11 x12 : Value) (x13 : Nat) (x14 : ClassId) (x15 : NI) (x16 : Nat) (x17 : ClassId) (x18 : NI) (x19 : Nat) (x20 : ClassId) (x21 : NI) : va_W := [(x0, .inr (2, [.ref x1, .ref x2, x3, x4, x5, x6, x7, .ref x8, .int x9, x10, x11, x12])), (x13, .inl (x14, 8, .inl x15)), (x16, .inl (x17, 8, .inl x18)), (x19, .inl (x20, 8, .inl x21))]
def qbcs (x0 x1 x2 : Nat) (x3 x4 x5 x6 x7 : Value) (x8 : Nat) (x9 : Int32) (x10 x11 x12 : Value) (x13 : Nat) (x14 : ClassId) (x15 : NI) : va_W := [(x0, .inr (2, [.ref x1, .ref x2, x3, x4, x5, x6, x7, .ref x8, .int x9, x10, x11, x12])), (x13, .inl (x14, 8, .inl x15))]
def qbd9 (x0 x1 x2 : Nat) (x3 x4 x5 x6 x7 : Value) (x8 : Nat) (x9 : Int32) (x10 x11 x12 : Value) (x13 : Nat) (x14 : ClassId) (x15 : NI) (x16 : Nat) (x17 : ClassId) (x18 : NI) : va_W := [(x0, .inr (2, [.ref x1, .ref x2, x3, x4, x5, x6, x7, .ref x8, .int x9, x10, x11, x12])), (x13, .inl (x14, 8, .inl x15)), (x16, .inl (x17, 8, .inl x18))]
def qNA (x0 : Nat) (x1 : Value) (x2 : Nat) (x3 x4 x5 x6 x7 x8 x9 x10 x11 x12 x13 x14 x15 x16 x17 x18 : Value) (x19 : Int32) (x20 x21 x22 : Nat) (x23 x24 x25 x26 x27 : Value) (x28 : Nat) (x29 : Int32) (x30 x31 x32 : Value) (x33 : Nat) (x34 : ClassId) (x35 : NI) (x36 : Nat) (x37 : ClassId) (x38 : NI) (x39 : Nat) (x40 : ClassId) (x41 : NI) : va_W := [(x0, .inr (10, [x1, .ref x2, x3, x4, x5, x6, x7, x8, x9, x10, x11, x12, x13, x14, x15, x16, x17, x18, .int x19])), (x20, .inr (2, [.ref x21, .ref x22, x23, x24, x25, x26, x27, .ref x28, .int x29, x30, x31, x32])), (x33, .inl (x34, 8, .inl x35)), (x36, .inl (x37, 8, .inl x38)), (x39, .inl (x40, 8, .inl x41))]
def qa0N (x0 : Nat) (x1 : Value) (x2 : Nat) (x3 x4 x5 x6 x7 x8 x9 x10 x11 x12 x13 x14 x15 x16 x17 x18 : Value) (x19 : Int32) : va_W := [(x0, .inr (10, [x1, .ref x2, x3, x4, x5, x6, x7, x8, x9, x10, x11, x12, x13, x14, x15, x16, x17, x18, .int x19]))]
def qZJ (x0 : Nat) (x1 : Value) (x2 : Nat) (x3 x4 x5 x6 x7 x8 x9 x10 x11 x12 x13 x14 x15 x16 x17 x18 : Value) (x19 : Int32) (x20 x21 x22 : Nat) (x23 x24 x25 x26 x27 : Value) (x28 : Nat) (x29 : Int32) (x30 x31 x32 : Value) (x33 : Nat) (x34 : ClassId) (x35 : NI) (x36 : Nat) (x37 : ClassId) (x38 : NI) (x39 : Nat) (x40 : ClassId) (x41 : NI) (x42 : Nat) (x43 : ClassId) (x44 : Nat) (x45 : Nat → Int64) : va_W := [(x0, .inr (10, [x1, .ref x2, x3, x4, x5, x6, x7, x8, x9, x10, x11, x12, x13, x14, x15, x16, x17, x18, .int x19])), (x20, .inr (2, [.ref x21, .ref x22, x23, x24, x25, x26, x27, .ref x28, .int x29, x30, x31, x32])), (x33, .inl (x34, 8, .inl x35)), (x36, .inl (x37, 8, .inl x38)), (x39, .inl (x40, 8, .inl x41)), (x42, .inl (x43, x44, .inr (.inl x45)))]
def qLn (x0 x1 x2 x3 x4 : Nat) (x5 x6 : Value) (x7 : Int32) (x8 x9 x10 x11 x12 : Value) (x13 : Nat) (x14 : ClassId) (x15 : NI) (x16 : Nat) (x17 : ClassId) (x18 : NI) (x19 : Nat) (x20 : ClassId) (x21 : NI) (x22 : Nat) (x23 : ClassId) (x24 : NI) : va_W := [(x0, .inr (9, [.ref x1, .ref x2, .ref x3, .ref x4, x5, x6, .int x7, x8, x9, x10, x11, x12])), (x13, .inl (x14, 50, .inl x15)), (x16, .inl (x17, 50, .inl x18)), (x19, .inl (x20, 50, .inl x21)), (x22, .inl (x23, 50, .inl x24))]
def qLR (x0 x1 x2 x3 x4 x5 : Nat) (x6 : Value) (x7 x8 : Int32) (x9 x10 x11 x12 : Value) (x13 : Nat) (x14 : ClassId) (x15 : NI) (x16 : Nat) (x17 : ClassId) (x18 : NI) (x19 : Nat) (x20 : ClassId) (x21 : NI) (x22 : Nat) (x23 : ClassId) (x24 : NI) (x25 : Nat) (x26 : ClassId) (x27 : NI) : va_W := [(x0, .inr (9, [.ref x1, .ref x2, .ref x3, .ref x4, .ref x5, x6, .int x7, .int x8, x9, x10, x11, x12])), (x13, .inl (x14, 6, .inl x15)), (x16, .inl (x17, 50, .inl x18)), (x19, .inl (x20, 50, .inl x21)), (x22, .inl (x23, 50, .inl x24)), (x25, .inl (x26, 50, .inl x27))]
def qa1i (x0 x1 x2 x3 x4 x5 : Nat) (x6 : Value) (x7 x8 : Int32) (x9 x10 x11 x12 : Value) (x13 : Nat) (x14 : ClassId) (x15 : NI) (x16 : Nat) (x17 : ClassId) (x18 : NI) (x19 : Nat) (x20 : ClassId) (x21 : NI) (x22 : Nat) (x23 : ClassId) (x24 : NI) : va_W := [(x0, .inr (9, [.ref x1, .ref x2, .ref x3, .ref x4, .ref x5, x6, .int x7, .int x8, x9, x10, x11, x12])), (x13, .inl (x14, 50, .inl x15)), (x16, .inl (x17, 50, .inl x18)), (x19, .inl (x20, 50, .inl x21)), (x22, .inl (x23, 50, .inl x24))]
def qa5Y (x0 : Nat) (x1 : ClassId) (x2 : NI) : va_W := [(x0, .inl (x1, 6, .inl x2))]
def qFA (x0 x1 x2 x3 x4 x5 : Nat) (x6 : Value) (x7 x8 : Int32) (x9 x10 x11 x12 : Value) (x13 x14 : Nat) (x15 x16 x17 : Int32) (x18 : Value) (x19 x20 : Int32) (x21 : Nat) (x22 : ClassId) (x23 : NI) (x24 : Nat) (x25 : ClassId) (x26 : NI) (x27 : Nat) (x28 : ClassId) (x29 : NI) (x30 : Nat) (x31 : ClassId) (x32 : NI) (x33 : Nat) (x34 : ClassId) (x35 : NI) (x36 : Nat) (x37 : ClassId) (x38 : NI) : va_W := [(x0, .inr (9, [.ref x1, .ref x2, .ref x3, .ref x4, .ref x5, x6, .int x7, .int x8, x9, x10, x11, x12])), (x13, .inr (8, [.ref x14, .int x15, .int x16, .int x17, x18, .int x19, .int x20])), (x21, .inl (x22, 600, .inl x23)), (x24, .inl (x25, 6, .inl x26)), (x27, .inl (x28, 50, .inl x29)), (x30, .inl (x31, 50, .inl x32)), (x33, .inl (x34, 50, .inl x35)), (x36, .inl (x37, 50, .inl x38))]
def qaRI (x0 x1 : Nat) (x2 x3 x4 : Int32) (x5 : Value) (x6 x7 : Int32) (x8 : Nat) (x9 : ClassId) (x10 : NI) : va_W := [(x0, .inr (8, [.ref x1, .int x2, .int x3, .int x4, x5, .int x6, .int x7])), (x8, .inl (x9, 600, .inl x10))]
def qa3M (x0 x1 : Nat) (x2 x3 x4 : Int32) (x5 : Value) (x6 x7 : Int32) : va_W := [(x0, .inr (8, [.ref x1, .int x2, .int x3, .int x4, x5, .int x6, .int x7]))]
def qsi (x0 x1 : Nat) (x2 : Int32) (x3 x4 : Nat) (x5 x6 x7 : Value) (x8 : Nat) (x9 : ClassId) (x10 : NI) (x11 : Nat) (x12 : ClassId) (x13 : NI) : va_W := [(x0, .inr (5, [.ref x1, .int x2])), (x3, .inr (1, [.ref x4, x5, x6, x7])), (x8, .inl (x9, 64, .inl x10)), (x11, .inl (x12, 1088, .inl x13))]
def qQc (x0 : Nat) (x1 : Value) (x2 : Nat) (x3 x4 x5 : Value) (x6 : Nat) (x7 : Value) (x8 : Int32) (x9 x10 x11 x12 : Value) (x13 : Nat) (x14 : ClassId) (x15 : NI) (x16 : Nat) (x17 : ClassId) (x18 : NI) : va_W := [(x0, .inr (9, [x1, .ref x2, x3, x4, x5, .ref x6, x7, .int x8, x9, x10, x11, x12])), (x13, .inl (x14, 6, .inl x15)), (x16, .inl (x17, 50, .inl x18))]
def qH4 (x0 : Nat) (x1 : Value) (x2 x3 : Nat) (x4 x5 : Value) (x6 : Nat) (x7 : Value) (x8 : Int32) (x9 x10 x11 x12 : Value) (x13 : Nat) (x14 : ClassId) (x15 : NI) (x16 : Nat) (x17 : ClassId) (x18 : NI) (x19 : Nat) (x20 : ClassId) (x21 : NI) : va_W := [(x0, .inr (9, [x1, .ref x2, .ref x3, x4, x5, .ref x6, x7, .int x8, x9, x10, x11, x12])), (x13, .inl (x14, 50, .inl x15)), (x16, .inl (x17, 6, .inl x18)), (x19, .inl (x20, 50, .inl x21))]
def quD (x0 x1 : Nat) (x2 x3 x4 : Value) (x5 : Nat) (x6 : ClassId) (x7 : NI) : va_W := [(x0, .inr (1, [.ref x1, x2, x3, x4])), (x5, .inl (x6, 64, .inl x7))]
def qQp (x0 x1 x2 x3 x4 : Nat) (x5 x6 x7 x8 x9 x10 x11 x12 : Value) (x13 : Nat) (x14 : ClassId) (x15 : NI) (x16 x17 : Nat) (x18 : Value) (x19 x20 x21 : Nat) (x22 : ClassId) (x23 : NI) (x24 : Nat) (x25 : ClassId) (x26 : NI) (x27 : Nat) (x28 : ClassId) (x29 : NI) (x30 x31 x32 : Nat) (x33 x34 x35 x36 x37 x38 x39 : Value) (x40 : Int32) (x41 x42 : Value) (x43 : Nat) (x44 : ClassId) (x45 : NI) (x46 : Nat) (x47 : ClassId) (x48 : NI) (x49 x50 x51 x52 x53 : Nat) (x54 : Int32) (x55 : Nat) (x56 : ClassId) (x57 : NI) (x58 : Nat) (x59 : ClassId) (x60 : NI) (x61 : Nat) (x62 : ClassId) (x63 : NI) (x64 : Nat) (x65 : ClassId) (x66 : NI) (x67 : Nat) (x68 : ClassId) (x69 : NI) : va_W := [(x0, .inr (9, [.ref x1, .ref x2, .ref x3, .ref x4, x5, x6, x7, x8, x9, x10, x11, x12])), (x13, .inl (x14, 50, .inl x15)), (x16, .inr (1, [.ref x17, x18, .ref x19, .ref x20])), (x21, .inl (x22, 64, .inl x23)), (x24, .inl (x25, 50, .inl x26)), (x27, .inl (x28, 50, .inl x29)), (x30, .inr (2, [.ref x31, .ref x32, x33, x34, x35, x36, x37, x38, x39, .int x40, x41, x42])), (x43, .inl (x44, 8, .inl x45)), (x46, .inl (x47, 8, .inl x48)), (x49, .inr (4, [.ref x50, .ref x51, .ref x52, .ref x53, .int x54])), (x55, .inl (x56, 8, .inl x57)), (x58, .inl (x59, 150, .inl x60)), (x61, .inl (x62, 150, .inl x63)), (x64, .inl (x65, 150, .inl x66)), (x67, .inl (x68, 50, .inl x69))]
def qalP (x0 x1 : Nat) (x2 : Value) (x3 x4 x5 : Nat) (x6 : ClassId) (x7 : NI) : va_W := [(x0, .inr (1, [.ref x1, x2, .ref x3, .ref x4])), (x5, .inl (x6, 64, .inl x7))]
def qaXe (x0 x1 x2 x3 x4 : Nat) (x5 x6 x7 x8 x9 x10 x11 x12 : Value) (x13 : Nat) (x14 : ClassId) (x15 : NI) (x16 : Nat) (x17 : ClassId) (x18 : NI) (x19 : Nat) (x20 : ClassId) (x21 : NI) (x22 x23 x24 : Nat) (x25 x26 x27 x28 x29 x30 x31 : Value) (x32 : Int32) (x33 x34 : Value) (x35 : Nat) (x36 : ClassId) (x37 : NI) (x38 : Nat) (x39 : ClassId) (x40 : NI) (x41 x42 x43 x44 x45 : Nat) (x46 : Int32) (x47 : Nat) (x48 : ClassId) (x49 : NI) (x50 : Nat) (x51 : ClassId) (x52 : NI) (x53 : Nat) (x54 : ClassId) (x55 : NI) (x56 : Nat) (x57 : ClassId) (x58 : NI) (x59 : Nat) (x60 : ClassId) (x61 : NI) : va_W := [(x0, .inr (9, [.ref x1, .ref x2, .ref x3, .ref x4, x5, x6, x7, x8, x9, x10, x11, x12])), (x13, .inl (x14, 50, .inl x15)), (x16, .inl (x17, 50, .inl x18)), (x19, .inl (x20, 50, .inl x21)), (x22, .inr (2, [.ref x23, .ref x24, x25, x26, x27, x28, x29, x30, x31, .int x32, x33, x34])), (x35, .inl (x36, 8, .inl x37)), (x38, .inl (x39, 8, .inl x40)), (x41, .inr (4, [.ref x42, .ref x43, .ref x44, .ref x45, .int x46])), (x47, .inl (x48, 8, .inl x49)), (x50, .inl (x51, 150, .inl x52)), (x53, .inl (x54, 150, .inl x55)), (x56, .inl (x57, 150, .inl x58)), (x59, .inl (x60, 50, .inl x61))]
def qa5Q (x0 x1 : Nat) (x2 : Value) (x3 x4 x5 : Nat) (x6 : ClassId) (x7 : NI) (x8 x9 x10 : Nat) (x11 x12 x13 x14 x15 x16 x17 : Value) (x18 : Int32) (x19 x20 : Value) (x21 : Nat) (x22 : ClassId) (x23 : NI) (x24 : Nat) (x25 : ClassId) (x26 : NI) (x27 x28 x29 x30 x31 : Nat) (x32 : Int32) (x33 : Nat) (x34 : ClassId) (x35 : NI) (x36 : Nat) (x37 : ClassId) (x38 : NI) (x39 : Nat) (x40 : ClassId) (x41 : NI) (x42 : Nat) (x43 : ClassId) (x44 : NI) : va_W := [(x0, .inr (1, [.ref x1, x2, .ref x3, .ref x4])), (x5, .inl (x6, 64, .inl x7)), (x8, .inr (2, [.ref x9, .ref x10, x11, x12, x13, x14, x15, x16, x17, .int x18, x19, x20])), (x21, .inl (x22, 8, .inl x23)), (x24, .inl (x25, 8, .inl x26)), (x27, .inr (4, [.ref x28, .ref x29, .ref x30, .ref x31, .int x32])), (x33, .inl (x34, 8, .inl x35)), (x36, .inl (x37, 150, .inl x38)), (x39, .inl (x40, 150, .inl x41)), (x42, .inl (x43, 150, .inl x44))]
def qa8N (x0 x1 x2 x3 x4 : Nat) (x5 x6 x7 x8 x9 x10 x11 x12 : Value) (x13 : Nat) (x14 : ClassId) (x15 : NI) (x16 : Nat) (x17 : ClassId) (x18 : NI) (x19 : Nat) (x20 : ClassId) (x21 : NI) (x22 : Nat) (x23 : ClassId) (x24 : NI) : va_W := [(x0, .inr (9, [.ref x1, .ref x2, .ref x3, .ref x4, x5, x6, x7, x8, x9, x10, x11, x12])), (x13, .inl (x14, 50, .inl x15)), (x16, .inl (x17, 50, .inl x18)), (x19, .inl (x20, 50, .inl x21)), (x22, .inl (x23, 50, .inl x24))]
def qQz (x0 x1 x2 x3 x4 : Nat) (x5 x6 x7 x8 x9 x10 x11 x12 : Value) (x13 : Nat) (x14 : ClassId) (x15 : NI) (x16 x17 : Nat) (x18 : Value) (x19 : Nat) (x20 : Value) (x21 : Nat) (x22 x23 x24 x25 x26 : Value) (x27 : Nat) (x28 x29 x30 : Value) (x31 : Int32) (x32 : Value) (x33 : Int32) (x34 : Nat) (x35 : ClassId) (x36 : NI) (x37 : Nat) (x38 : ClassId) (x39 : NI) (x40 : Nat) (x41 : ClassId) (x42 : NI) (x43 : Nat) (x44 : ClassId) (x45 : NI) (x46 : Nat) (x47 : ClassId) (x48 : NI) : va_W := [(x0, .inr (9, [.ref x1, .ref x2, .ref x3, .ref x4, x5, x6, x7, x8, x9, x10, x11, x12])), (x13, .inl (x14, 50, .inl x15)), (x16, .inr (1, [.ref x17, x18, .ref x19, x20])), (x21, .inr (2, [x22, x23, x24, x25, x26, .ref x27, x28, x29, x30, .int x31, x32, .int x33])), (x34, .inl (x35, 64, .inl x36)), (x37, .inl (x38, 6, .inl x39)), (x40, .inl (x41, 50, .inl x42)), (x43, .inl (x44, 50, .inl x45)), (x46, .inl (x47, 50, .inl x48))]
def qa5R (x0 x1 : Nat) (x2 : Value) (x3 : Nat) (x4 : Value) (x5 : Nat) (x6 x7 x8 x9 x10 : Value) (x11 : Nat) (x12 x13 x14 : Value) (x15 : Int32) (x16 : Value) (x17 : Int32) (x18 : Nat) (x19 : ClassId) (x20 : NI) (x21 : Nat) (x22 : ClassId) (x23 : NI) : va_W := [(x0, .inr (1, [.ref x1, x2, .ref x3, x4])), (x5, .inr (2, [x6, x7, x8, x9, x10, .ref x11, x12, x13, x14, .int x15, x16, .int x17])), (x18, .inl (x19, 64, .inl x20)), (x21, .inl (x22, 6, .inl x23))]
def qanX (x0 x1 : Nat) (x2 : Value) (x3 : Nat) (x4 : Value) (x5 : Nat) (x6 : ClassId) (x7 : NI) : va_W := [(x0, .inr (1, [.ref x1, x2, .ref x3, x4])), (x5, .inl (x6, 64, .inl x7))]
def qaYI (x0 x1 x2 x3 x4 : Nat) (x5 x6 x7 x8 x9 x10 x11 x12 : Value) (x13 : Nat) (x14 : ClassId) (x15 : NI) (x16 : Nat) (x17 x18 x19 x20 x21 : Value) (x22 : Nat) (x23 x24 x25 : Value) (x26 : Int32) (x27 : Value) (x28 : Int32) (x29 : Nat) (x30 : ClassId) (x31 : NI) (x32 : Nat) (x33 : ClassId) (x34 : NI) (x35 : Nat) (x36 : ClassId) (x37 : NI) (x38 : Nat) (x39 : ClassId) (x40 : NI) : va_W := [(x0, .inr (9, [.ref x1, .ref x2, .ref x3, .ref x4, x5, x6, x7, x8, x9, x10, x11, x12])), (x13, .inl (x14, 50, .inl x15)), (x16, .inr (2, [x17, x18, x19, x20, x21, .ref x22, x23, x24, x25, .int x26, x27, .int x28])), (x29, .inl (x30, 6, .inl x31)), (x32, .inl (x33, 50, .inl x34)), (x35, .inl (x36, 50, .inl x37)), (x38, .inl (x39, 50, .inl x40))]
def qoY (x0 x1 x2 x3 x4 : Nat) (x5 : Value) (x6 : Nat) (x7 x8 : Int32) (x9 x10 : Value) (x11 x12 : Int32) (x13 : Nat) (x14 : ClassId) (x15 : NI) (x16 x17 : Nat) (x18 : Value) (x19 x20 x21 : Nat) (x22 : ClassId) (x23 : NI) (x24 : Nat) (x25 : ClassId) (x26 : NI) (x27 : Nat) (x28 : ClassId) (x29 : NI) (x30 x31 x32 : Nat) (x33 x34 x35 : Value) (x36 : Nat) (x37 x38 x39 : Value) (x40 : Int32) (x41 : Value) (x42 : Int32) (x43 : Nat) (x44 : ClassId) (x45 : NI) (x46 : Nat) (x47 : ClassId) (x48 : NI) (x49 x50 x51 x52 x53 : Nat) (x54 : Int32) (x55 : Nat) (x56 : ClassId) (x57 : NI) (x58 : Nat) (x59 : ClassId) (x60 : NI) (x61 : Nat) (x62 : ClassId) (x63 : NI) (x64 : Nat) (x65 : ClassId) (x66 : NI) (x67 : Nat) (x68 : ClassId) (x69 : NI) (x70 : Nat) (x71 : ClassId) (x72 : NI) (x73 : Nat) (x74 : ClassId) (x75 : NI) : va_W := [(x0, .inr (9, [.ref x1, .ref x2, .ref x3, .ref x4, x5, .ref x6, .int x7, .int x8, x9, x10, .int x11, .int x12])), (x13, .inl (x14, 50, .inl x15)), (x16, .inr (1, [.ref x17, x18, .ref x19, .ref x20])), (x21, .inl (x22, 64, .inl x23)), (x24, .inl (x25, 50, .inl x26)), (x27, .inl (x28, 50, .inl x29)), (x30, .inr (2, [.ref x31, .ref x32, x33, x34, x35, .ref x36, x37, x38, x39, .int x40, x41, .int x42])), (x43, .inl (x44, 8, .inl x45)), (x46, .inl (x47, 8, .inl x48)), (x49, .inr (4, [.ref x50, .ref x51, .ref x52, .ref x53, .int x54])), (x55, .inl (x56, 8, .inl x57)), (x58, .inl (x59, 150, .inl x60)), (x61, .inl (x62, 150, .inl x63)), (x64, .inl (x65, 150, .inl x66)), (x67, .inl (x68, 50, .inl x69)), (x70, .inl (x71, 6, .inl x72)), (x73, .inl (x74, 6, .inl x75))]
def qa3x (x0 x1 x2 x3 x4 : Nat) (x5 : Value) (x6 : Nat) (x7 x8 : Int32) (x9 x10 : Value) (x11 x12 : Int32) (x13 : Nat) (x14 : ClassId) (x15 : NI) (x16 x17 : Nat) (x18 : Value) (x19 x20 x21 : Nat) (x22 : ClassId) (x23 : NI) (x24 : Nat) (x25 : ClassId) (x26 : NI) (x27 : Nat) (x28 : ClassId) (x29 : NI) (x30 x31 x32 : Nat) (x33 x34 x35 : Value) (x36 : Nat) (x37 x38 x39 : Value) (x40 : Int32) (x41 : Value) (x42 : Int32) (x43 : Nat) (x44 : ClassId) (x45 : NI) (x46 : Nat) (x47 : ClassId) (x48 : NI) (x49 x50 x51 x52 x53 : Nat) (x54 : Int32) (x55 : Nat) (x56 : ClassId) (x57 : NI) (x58 : Nat) (x59 : ClassId) (x60 : NI) (x61 : Nat) (x62 : ClassId) (x63 : NI) (x64 : Nat) (x65 : ClassId) (x66 : NI) (x67 : Nat) (x68 : ClassId) (x69 : NI) : va_W := [(x0, .inr (9, [.ref x1, .ref x2, .ref x3, .ref x4, x5, .ref x6, .int x7, .int x8, x9, x10, .int x11, .int x12])), (x13, .inl (x14, 50, .inl x15)), (x16, .inr (1, [.ref x17, x18, .ref x19, .ref x20])), (x21, .inl (x22, 64, .inl x23)), (x24, .inl (x25, 50, .inl x26)), (x27, .inl (x28, 50, .inl x29)), (x30, .inr (2, [.ref x31, .ref x32, x33, x34, x35, .ref x36, x37, x38, x39, .int x40, x41, .int x42])), (x43, .inl (x44, 8, .inl x45)), (x46, .inl (x47, 8, .inl x48)), (x49, .inr (4, [.ref x50, .ref x51, .ref x52, .ref x53, .int x54])), (x55, .inl (x56, 8, .inl x57)), (x58, .inl (x59, 150, .inl x60)), (x61, .inl (x62, 150, .inl x63)), (x64, .inl (x65, 150, .inl x66)), (x67, .inl (x68, 50, .inl x69))]
def qa3R (x0 x1 x2 x3 x4 : Nat) (x5 : Value) (x6 : Nat) (x7 x8 : Int32) (x9 x10 : Value) (x11 x12 : Int32) (x13 : Nat) (x14 : ClassId) (x15 : NI) (x16 x17 : Nat) (x18 : Value) (x19 x20 x21 x22 x23 : Nat) (x24 x25 x26 : Value) (x27 : Nat) (x28 x29 x30 : Value) (x31 : Int32) (x32 : Value) (x33 : Int32) (x34 : Nat) (x35 : ClassId) (x36 : NI) (x37 : Nat) (x38 : ClassId) (x39 : NI) (x40 : Nat) (x41 : ClassId) (x42 : NI) (x43 : Nat) (x44 : ClassId) (x45 : NI) (x46 : Nat) (x47 : ClassId) (x48 : NI) : va_W := [(x0, .inr (9, [.ref x1, .ref x2, .ref x3, .ref x4, x5, .ref x6, .int x7, .int x8, x9, x10, .int x11, .int x12])), (x13, .inl (x14, 50, .inl x15)), (x16, .inr (1, [.ref x17, x18, .ref x19, .ref x20])), (x21, .inr (2, [.ref x22, .ref x23, x24, x25, x26, .ref x27, x28, x29, x30, .int x31, x32, .int x33])), (x34, .inl (x35, 64, .inl x36)), (x37, .inl (x38, 6, .inl x39)), (x40, .inl (x41, 50, .inl x42)), (x43, .inl (x44, 50, .inl x45)), (x46, .inl (x47, 50, .inl x48))]
def qa9t (x0 x1 x2 x3 x4 : Nat) (x5 : Value) (x6 : Nat) (x7 x8 : Int32) (x9 x10 : Value) (x11 x12 : Int32) (x13 : Nat) (x14 : ClassId) (x15 : NI) (x16 : Nat) (x17 : ClassId) (x18 : NI) (x19 : Nat) (x20 : ClassId) (x21 : NI) : va_W := [(x0, .inr (9, [.ref x1, .ref x2, .ref x3, .ref x4, x5, .ref x6, .int x7, .int x8, x9, x10, .int x11, .int x12])), (x13, .inl (x14, 50, .inl x15)), (x16, .inl (x17, 6, .inl x18)), (x19, .inl (x20, 50, .inl x21))]
def qbaG (x0 x1 x2 x3 x4 : Nat) (x5 : Value) (x6 : Nat) (x7 x8 : Int32) (x9 x10 : Value) (x11 x12 : Int32) (x13 : Nat) (x14 : ClassId) (x15 : NI) (x16 : Nat) (x17 : ClassId) (x18 : NI) : va_W := [(x0, .inr (9, [.ref x1, .ref x2, .ref x3, .ref x4, x5, .ref x6, .int x7, .int x8, x9, x10, .int x11, .int x12])), (x13, .inl (x14, 6, .inl x15)), (x16, .inl (x17, 50, .inl x18))]
def qqD (x0 : Nat) (x1 x2 x3 : Value) (x4 : Nat) (x5 x6 x7 x8 x9 x10 x11 x12 x13 x14 x15 x16 x17 x18 : Value) (x19 : Int32) (x20 x21 x22 x23 x24 : Nat) (x25 : Int32) (x26 : Nat) (x27 : ClassId) (x28 : NI) (x29 : Nat) (x30 : ClassId) (x31 : NI) (x32 : Nat) (x33 : ClassId) (x34 : NI) (x35 : Nat) (x36 : ClassId) (x37 : NI) : va_W := [(x0, .inr (10, [x1, x2, x3, .ref x4, x5, x6, x7, x8, x9, x10, x11, x12, x13, x14, x15, x16, x17, x18, .int x19])), (x20, .inr (4, [.ref x21, .ref x22, .ref x23, .ref x24, .int x25])), (x26, .inl (x27, 8, .inl x28)), (x29, .inl (x30, 150, .inl x31)), (x32, .inl (x33, 150, .inl x34)), (x35, .inl (x36, 150, .inl x37))]
def quy (x0 : Nat) (x1 x2 x3 : Value) (x4 : Nat) (x5 x6 x7 x8 x9 x10 x11 x12 x13 x14 x15 x16 x17 x18 : Value) (x19 : Int32) : va_W := [(x0, .inr (10, [x1, x2, x3, .ref x4, x5, x6, x7, x8, x9, x10, x11, x12, x13, x14, x15, x16, x17, x18, .int x19]))]
def qDJ (x0 x1 x2 x3 x4 : Nat) (x5 : Int32) (x6 : Nat) (x7 : ClassId) (x8 : NI) (x9 : Nat) (x10 : ClassId) (x11 : NI) (x12 : Nat) (x13 : ClassId) (x14 : NI) (x15 : Nat) (x16 : ClassId) (x17 : NI) : va_W := [(x0, .inr (4, [.ref x1, .ref x2, .ref x3, .ref x4, .int x5])), (x6, .inl (x7, 8, .inl x8)), (x9, .inl (x10, 150, .inl x11)), (x12, .inl (x13, 150, .inl x14)), (x15, .inl (x16, 150, .inl x17))]
def qaPZ (x0 x1 x2 x3 x4 : Nat) (x5 : Int32) (x6 : Nat) (x7 : ClassId) (x8 : NI) : va_W := [(x0, .inr (4, [.ref x1, .ref x2, .ref x3, .ref x4, .int x5])), (x6, .inl (x7, 8, .inl x8))]
def qa52 (x0 : Nat) (x1 x2 x3 : Value) (x4 : Nat) (x5 x6 x7 x8 x9 x10 x11 x12 x13 x14 x15 x16 x17 x18 : Value) (x19 : Int32) (x20 : Nat) (x21 : ClassId) (x22 : NI) (x23 : Nat) (x24 : ClassId) (x25 : NI) (x26 : Nat) (x27 : ClassId) (x28 : NI) : va_W := [(x0, .inr (10, [x1, x2, x3, .ref x4, x5, x6, x7, x8, x9, x10, x11, x12, x13, x14, x15, x16, x17, x18, .int x19])), (x20, .inl (x21, 150, .inl x22)), (x23, .inl (x24, 150, .inl x25)), (x26, .inl (x27, 150, .inl x28))]
def qamZ (x0 x1 x2 x3 x4 : Nat) (x5 : Int32) (x6 : Nat) (x7 : ClassId) (x8 : NI) (x9 : Nat) (x10 : ClassId) (x11 : NI) (x12 : Nat) (x13 : ClassId) (x14 : NI) (x15 : Nat) (x16 : ClassId) (x17 : NI) : va_W := [(x0, .inr (4, [.ref x1, .ref x2, .ref x3, .ref x4, .int x5])), (x6, .inl (x7, 150, .inl x8)), (x9, .inl (x10, 150, .inl x11)), (x12, .inl (x13, 150, .inl x14)), (x15, .inl (x16, 8, .inl x17))]
def qM1 (x0 : Nat) (x1 x2 x3 : Value) (x4 : Nat) (x5 x6 x7 x8 x9 x10 x11 x12 x13 x14 x15 x16 x17 x18 : Value) (x19 : Int32) (x20 x21 x22 x23 x24 : Nat) (x25 : Int32) (x26 : Nat) (x27 : ClassId) (x28 : NI) (x29 : Nat) (x30 : ClassId) (x31 : NI) (x32 : Nat) (x33 : ClassId) (x34 : NI) (x35 : Nat) (x36 : ClassId) (x37 : NI) (x38 : Nat) (x39 : ClassId) (x40 : Nat) (x41 : Nat → Int64) : va_W := [(x0, .inr (10, [x1, x2, x3, .ref x4, x5, x6, x7, x8, x9, x10, x11, x12, x13, x14, x15, x16, x17, x18, .int x19])), (x20, .inr (4, [.ref x21, .ref x22, .ref x23, .ref x24, .int x25])), (x26, .inl (x27, 8, .inl x28)), (x29, .inl (x30, 150, .inl x31)), (x32, .inl (x33, 150, .inl x34)), (x35, .inl (x36, 150, .inl x37)), (x38, .inl (x39, x40, .inr (.inl x41)))]
def qakq (x0 x1 : Nat) (x2 : Int32) (x3 : Nat) (x4 : ClassId) (x5 : NI) : va_W := [(x0, .inr (0, [.ref x1, .int x2])), (x3, .inl (x4, 8, .inl x5))]
def qa7j (x0 : Nat) (x1 : Int32) (x2 : Nat) (x3 : ClassId) (x4 : NI) : va_W := [(x0, .inr (0, [.null, .int x1])), (x2, .inl (x3, 8, .inl x4))]
def qaaZ (x0 x1 : Nat) (x2 x3 x4 x5 x6 x7 x8 x9 x10 : Value) (x11 : Nat) (x12 x13 x14 x15 : Value) (x16 : Int32) (x17 x18 x19 : Value) (x20 : Nat) (x21 x22 x23 x24 : Value) (x25 : Int32) (x26 x27 : Value) (x28 : Nat) (x29 : Value) (x30 : Int32) : va_W := [(x0, .inr (10, [.ref x1, x2, x3, x4, x5, x6, x7, x8, x9, x10, .ref x11, x12, x13, x14, x15, .int x16, x17, x18, x19])), (x20, .inr (8, [x21, x22, x23, x24, .int x25, x26, x27])), (x28, .inr (5, [x29, .int x30]))]
def qabb (x0 x1 : Nat) (x2 x3 x4 x5 x6 x7 x8 x9 x10 x11 x12 x13 x14 x15 x16 x17 x18 x19 : Value) (x20 : Nat) (x21 x22 x23 x24 x25 x26 : Value) (x27 : Int32) : va_W := [(x0, .inr (10, [.ref x1, x2, x3, x4, x5, x6, x7, x8, x9, x10, x11, x12, x13, x14, x15, x16, x17, x18, x19])), (x20, .inr (8, [x21, x22, x23, x24, x25, x26, .int x27]))]
def q9X (x0 : Nat) (x1 x2 x3 x4 : Value) (x5 : Int32) (x6 x7 : Value) : va_W := [(x0, .inr (8, [x1, x2, x3, x4, .int x5, x6, x7]))]
def qrG (x0 x1 : Nat) (x2 x3 x4 : Value) (x5 : Int32) (x6 x7 : Value) (x8 : Nat) (x9 : ClassId) (x10 : NI) : va_W := [(x0, .inr (8, [.ref x1, x2, x3, x4, .int x5, x6, x7])), (x8, .inl (x9, 600, .inl x10))]
def qJt (x0 x1 : Nat) (x2 x3 x4 x5 x6 x7 x8 x9 x10 x11 x12 x13 x14 x15 x16 x17 x18 x19 : Value) (x20 x21 : Nat) (x22 x23 x24 : Value) (x25 : Int32) (x26 x27 : Value) (x28 : Nat) (x29 : ClassId) (x30 : NI) : va_W := [(x0, .inr (10, [.ref x1, x2, x3, x4, x5, x6, x7, x8, x9, x10, x11, x12, x13, x14, x15, x16, x17, x18, x19])), (x20, .inr (8, [.ref x21, x22, x23, x24, .int x25, x26, x27])), (x28, .inl (x29, 600, .inl x30))]
def qbak (x0 x1 : Nat) (x2 x3 x4 : Value) (x5 : Int32) (x6 x7 : Value) : va_W := [(x0, .inr (8, [.ref x1, x2, x3, x4, .int x5, x6, x7]))]
def qaBX (x0 x1 : Nat) (x2 x3 x4 x5 x6 x7 x8 x9 x10 x11 x12 x13 x14 x15 x16 x17 x18 x19 : Value) : va_W := [(x0, .inr (10, [.ref x1, x2, x3, x4, x5, x6, x7, x8, x9, x10, x11, x12, x13, x14, x15, x16, x17, x18, x19]))]
def qBJ (x0 x1 : Nat) (x2 : Int32) (x3 x4 : Nat) (x5 : Int32) (x6 : Nat) (x7 : ClassId) (x8 : NI) (x9 : Nat) (x10 : ClassId) (x11 : NI) : va_W := [(x0, .inr (5, [.ref x1, .int x2])), (x3, .inr (5, [.ref x4, .int x5])), (x6, .inl (x7, 1088, .inl x8)), (x9, .inl (x10, 1088, .inl x11))]
def qoJ (x0 : Nat) (x1 x2 x3 x4 x5 x6 x7 x8 : Value) (x9 : Nat) (x10 : Value) (x11 x12 : Nat) (x13 x14 x15 : Value) (x16 : Int32) (x17 x18 x19 : Value) (x20 : Nat) (x21 : ClassId) (x22 : Nat → Option Nat) (x23 x24 : Nat) (x25 : Int32) (x26 x27 : Nat) (x28 : Int32) (x29 : Nat) (x30 : ClassId) (x31 : NI) (x32 : Nat) (x33 : ClassId) (x34 : NI) (x35 x36 : Nat) (x37 x38 x39 : Value) (x40 : Nat) (x41 : ClassId) (x42 : NI) (x43 x44 : Nat) (x45 : Int32) (x46 : Nat) (x47 : ClassId) (x48 : NI) (x49 x50 : Nat) (x51 : Int32) (x52 : Nat) (x53 : ClassId) (x54 : NI) : va_W := [(x0, .inr (10, [x1, x2, x3, x4, x5, x6, x7, x8, .ref x9, x10, .ref x11, .ref x12, x13, x14, x15, .int x16, x17, x18, x19])), (x20, .inl (x21, 3, .inr (.inr (.inr (.inr x22))))), (x23, .inr (5, [.ref x24, .int x25])), (x26, .inr (5, [.ref x27, .int x28])), (x29, .inl (x30, 1088, .inl x31)), (x32, .inl (x33, 1088, .inl x34)), (x35, .inr (1, [.ref x36, x37, x38, x39])), (x40, .inl (x41, 64, .inl x42)), (x43, .inr (5, [.ref x44, .int x45])), (x46, .inl (x47, 1088, .inl x48)), (x49, .inr (5, [.ref x50, .int x51])), (x52, .inl (x53, 1088, .inl x54))]
def qaZk (x0 : Nat) (x1 x2 x3 x4 x5 x6 x7 x8 : Value) (x9 : Nat) (x10 : Value) (x11 x12 : Nat) (x13 x14 x15 : Value) (x16 : Int32) (x17 x18 x19 : Value) (x20 : Nat) (x21 : ClassId) (x22 : Nat → Option Nat) (x23 x24 : Nat) (x25 : Int32) (x26 : Nat) (x27 : ClassId) (x28 : NI) (x29 x30 : Nat) (x31 : Int32) (x32 : Nat) (x33 : ClassId) (x34 : NI) (x35 x36 : Nat) (x37 : Int32) (x38 : Nat) (x39 : ClassId) (x40 : NI) : va_W := [(x0, .inr (10, [x1, x2, x3, x4, x5, x6, x7, x8, .ref x9, x10, .ref x11, .ref x12, x13, x14, x15, .int x16, x17, x18, x19])), (x20, .inl (x21, 3, .inr (.inr (.inr (.inr x22))))), (x23, .inr (5, [.ref x24, .int x25])), (x26, .inl (x27, 1088, .inl x28)), (x29, .inr (5, [.ref x30, .int x31])), (x32, .inl (x33, 1088, .inl x34)), (x35, .inr (5, [.ref x36, .int x37])), (x38, .inl (x39, 1088, .inl x40))]
def qamw (x0 : Nat) (x1 x2 x3 x4 x5 x6 x7 x8 : Value) (x9 : Nat) (x10 : Value) (x11 x12 : Nat) (x13 x14 x15 : Value) (x16 : Int32) (x17 x18 x19 : Value) (x20 : Nat) (x21 : ClassId) (x22 : Nat → Option Nat) (x23 x24 : Nat) (x25 : Int32) (x26 x27 : Nat) (x28 : Int32) (x29 : Nat) (x30 : ClassId) (x31 : NI) (x32 : Nat) (x33 : ClassId) (x34 : NI) (x35 x36 : Nat) (x37 : Int32) (x38 : Nat) (x39 : ClassId) (x40 : NI) : va_W := [(x0, .inr (10, [x1, x2, x3, x4, x5, x6, x7, x8, .ref x9, x10, .ref x11, .ref x12, x13, x14, x15, .int x16, x17, x18, x19])), (x20, .inl (x21, 3, .inr (.inr (.inr (.inr x22))))), (x23, .inr (5, [.ref x24, .int x25])), (x26, .inr (5, [.ref x27, .int x28])), (x29, .inl (x30, 1088, .inl x31)), (x32, .inl (x33, 1088, .inl x34)), (x35, .inr (5, [.ref x36, .int x37])), (x38, .inl (x39, 1088, .inl x40))]
def qa5v (x0 : Nat) (x1 x2 x3 x4 x5 x6 x7 x8 : Value) (x9 : Nat) (x10 : Value) (x11 x12 : Nat) (x13 x14 x15 : Value) (x16 : Int32) (x17 x18 x19 : Value) (x20 : Nat) (x21 : ClassId) (x22 : Nat → Option Nat) (x23 x24 : Nat) (x25 : Int32) (x26 : Nat) (x27 : ClassId) (x28 : NI) (x29 x30 : Nat) (x31 x32 x33 : Value) (x34 : Nat) (x35 : ClassId) (x36 : NI) (x37 x38 : Nat) (x39 : Int32) (x40 : Nat) (x41 : ClassId) (x42 : NI) : va_W := [(x0, .inr (10, [x1, x2, x3, x4, x5, x6, x7, x8, .ref x9, x10, .ref x11, .ref x12, x13, x14, x15, .int x16, x17, x18, x19])), (x20, .inl (x21, 3, .inr (.inr (.inr (.inr x22))))), (x23, .inr (5, [.ref x24, .int x25])), (x26, .inl (x27, 1088, .inl x28)), (x29, .inr (1, [.ref x30, x31, x32, x33])), (x34, .inl (x35, 64, .inl x36)), (x37, .inr (5, [.ref x38, .int x39])), (x40, .inl (x41, 1088, .inl x42))]
def qalR (x0 : Nat) (x1 x2 x3 x4 x5 x6 : Int32) : va_W := [(x0, .inr (8, [.null, .int x1, .int x2, .int x3, .int x4, .int x5, .int x6]))]
def qaAZ (x0 x1 : Nat) (x2 x3 x4 x5 x6 x7 : Int32) (x8 : Nat) (x9 : ClassId) (x10 : NI) : va_W := [(x0, .inr (8, [.ref x1, .int x2, .int x3, .int x4, .int x5, .int x6, .int x7])), (x8, .inl (x9, 600, .inl x10))]
def qa6a (x0 : Nat) (x1 x2 x3 x4 x5 x6 : Int32) (x7 : Nat) (x8 : ClassId) (x9 : NI) : va_W := [(x0, .inr (8, [.null, .int x1, .int x2, .int x3, .int x4, .int x5, .int x6])), (x7, .inl (x8, 600, .inl x9))]
def qaji (x0 : Nat) (x1 x2 x3 x4 : Int32) : va_W := [(x0, .inr (2, [.null, .null, .null, .null, .null, .null, .null, .null, .int x1, .int x2, .int x3, .int x4]))]
def qaZa (x0 x1 x2 x3 x4 x5 x6 x7 x8 : Nat) (x9 x10 x11 x12 : Int32) (x13 : Nat) (x14 : ClassId) (x15 : NI) (x16 : Nat) (x17 : ClassId) (x18 : NI) (x19 : Nat) (x20 : ClassId) (x21 : NI) (x22 : Nat) (x23 : ClassId) (x24 : NI) (x25 : Nat) (x26 : ClassId) (x27 : NI) (x28 : Nat) (x29 : ClassId) (x30 : NI) (x31 : Nat) (x32 : ClassId) (x33 : NI) (x34 : Nat) (x35 : ClassId) (x36 : NI) : va_W := [(x0, .inr (2, [.ref x1, .ref x2, .ref x3, .ref x4, .ref x5, .ref x6, .ref x7, .ref x8, .int x9, .int x10, .int x11, .int x12])), (x13, .inl (x14, 8, .inl x15)), (x16, .inl (x17, 8, .inl x18)), (x19, .inl (x20, 4, .inl x21)), (x22, .inl (x23, 4, .inl x24)), (x25, .inl (x26, 6, .inl x27)), (x28, .inl (x29, 6, .inl x30)), (x31, .inl (x32, 36, .inl x33)), (x34, .inl (x35, 8, .inl x36))]
def qa9u (x0 : Nat) (x1 x2 x3 x4 : Int32) (x5 : Nat) (x6 : ClassId) (x7 : NI) : va_W := [(x0, .inr (2, [.null, .null, .null, .null, .null, .null, .null, .null, .int x1, .int x2, .int x3, .int x4])), (x5, .inl (x6, 8, .inl x7))]
def qa5H (x0 x1 : Nat) (x2 x3 x4 x5 : Int32) (x6 : Nat) (x7 : ClassId) (x8 : NI) : va_W := [(x0, .inr (2, [.ref x1, .null, .null, .null, .null, .null, .null, .null, .int x2, .int x3, .int x4, .int x5])), (x6, .inl (x7, 8, .inl x8))]
def qa78 (x0 x1 : Nat) (x2 x3 x4 x5 : Int32) (x6 : Nat) (x7 : ClassId) (x8 : NI) (x9 : Nat) (x10 : ClassId) (x11 : NI) : va_W := [(x0, .inr (2, [.ref x1, .null, .null, .null, .null, .null, .null, .null, .int x2, .int x3, .int x4, .int x5])), (x6, .inl (x7, 8, .inl x8)), (x9, .inl (x10, 8, .inl x11))]
def qa3U (x0 x1 x2 : Nat) (x3 x4 x5 x6 : Int32) (x7 : Nat) (x8 : ClassId) (x9 : NI) (x10 : Nat) (x11 : ClassId) (x12 : NI) : va_W := [(x0, .inr (2, [.ref x1, .ref x2, .null, .null, .null, .null, .null, .null, .int x3, .int x4, .int x5, .int x6])), (x7, .inl (x8, 8, .inl x9)), (x10, .inl (x11, 8, .inl x12))]
def qa8Q (x0 x1 x2 : Nat) (x3 x4 x5 x6 : Int32) (x7 : Nat) (x8 : ClassId) (x9 : NI) (x10 : Nat) (x11 : ClassId) (x12 : NI) (x13 : Nat) (x14 : ClassId) (x15 : NI) : va_W := [(x0, .inr (2, [.ref x1, .ref x2, .null, .null, .null, .null, .null, .null, .int x3, .int x4, .int x5, .int x6])), (x7, .inl (x8, 8, .inl x9)), (x10, .inl (x11, 8, .inl x12)), (x13, .inl (x14, 4, .inl x15))]
def qa8V (x0 x1 x2 x3 : Nat) (x4 x5 x6 x7 : Int32) (x8 : Nat) (x9 : ClassId) (x10 : NI) (x11 : Nat) (x12 : ClassId) (x13 : NI) (x14 : Nat) (x15 : ClassId) (x16 : NI) : va_W := [(x0, .inr (2, [.ref x1, .ref x2, .ref x3, .null, .null, .null, .null, .null, .int x4, .int x5, .int x6, .int x7])), (x8, .inl (x9, 8, .inl x10)), (x11, .inl (x12, 8, .inl x13)), (x14, .inl (x15, 4, .inl x16))]
def qa7S (x0 x1 x2 x3 : Nat) (x4 x5 x6 x7 : Int32) (x8 : Nat) (x9 : ClassId) (x10 : NI) (x11 : Nat) (x12 : ClassId) (x13 : NI) (x14 : Nat) (x15 : ClassId) (x16 : NI) (x17 : Nat) (x18 : ClassId) (x19 : NI) : va_W := [(x0, .inr (2, [.ref x1, .ref x2, .ref x3, .null, .null, .null, .null, .null, .int x4, .int x5, .int x6, .int x7])), (x8, .inl (x9, 8, .inl x10)), (x11, .inl (x12, 8, .inl x13)), (x14, .inl (x15, 4, .inl x16)), (x17, .inl (x18, 4, .inl x19))]
def qa6I (x0 x1 x2 x3 x4 : Nat) (x5 x6 x7 x8 : Int32) (x9 : Nat) (x10 : ClassId) (x11 : NI) (x12 : Nat) (x13 : ClassId) (x14 : NI) (x15 : Nat) (x16 : ClassId) (x17 : NI) (x18 : Nat) (x19 : ClassId) (x20 : NI) : va_W := [(x0, .inr (2, [.ref x1, .ref x2, .ref x3, .ref x4, .null, .null, .null, .null, .int x5, .int x6, .int x7, .int x8])), (x9, .inl (x10, 8, .inl x11)), (x12, .inl (x13, 8, .inl x14)), (x15, .inl (x16, 4, .inl x17)), (x18, .inl (x19, 4, .inl x20))]
def qbam (x0 x1 x2 x3 x4 : Nat) (x5 x6 x7 x8 : Int32) (x9 : Nat) (x10 : ClassId) (x11 : NI) (x12 : Nat) (x13 : ClassId) (x14 : NI) (x15 : Nat) (x16 : ClassId) (x17 : NI) (x18 : Nat) (x19 : ClassId) (x20 : NI) (x21 : Nat) (x22 : ClassId) (x23 : NI) : va_W := [(x0, .inr (2, [.ref x1, .ref x2, .ref x3, .ref x4, .null, .null, .null, .null, .int x5, .int x6, .int x7, .int x8])), (x9, .inl (x10, 8, .inl x11)), (x12, .inl (x13, 8, .inl x14)), (x15, .inl (x16, 4, .inl x17)), (x18, .inl (x19, 4, .inl x20)), (x21, .inl (x22, 6, .inl x23))]
def qa4c (x0 x1 x2 x3 x4 x5 : Nat) (x6 x7 x8 x9 : Int32) (x10 : Nat) (x11 : ClassId) (x12 : NI) (x13 : Nat) (x14 : ClassId) (x15 : NI) (x16 : Nat) (x17 : ClassId) (x18 : NI) (x19 : Nat) (x20 : ClassId) (x21 : NI) (x22 : Nat) (x23 : ClassId) (x24 : NI) : va_W := [(x0, .inr (2, [.ref x1, .ref x2, .ref x3, .ref x4, .ref x5, .null, .null, .null, .int x6, .int x7, .int x8, .int x9])), (x10, .inl (x11, 8, .inl x12)), (x13, .inl (x14, 8, .inl x15)), (x16, .inl (x17, 4, .inl x18)), (x19, .inl (x20, 4, .inl x21)), (x22, .inl (x23, 6, .inl x24))]
def qa5l (x0 x1 x2 x3 x4 x5 : Nat) (x6 x7 x8 x9 : Int32) (x10 : Nat) (x11 : ClassId) (x12 : NI) (x13 : Nat) (x14 : ClassId) (x15 : NI) (x16 : Nat) (x17 : ClassId) (x18 : NI) (x19 : Nat) (x20 : ClassId) (x21 : NI) (x22 : Nat) (x23 : ClassId) (x24 : NI) (x25 : Nat) (x26 : ClassId) (x27 : NI) : va_W := [(x0, .inr (2, [.ref x1, .ref x2, .ref x3, .ref x4, .ref x5, .null, .null, .null, .int x6, .int x7, .int x8, .int x9])), (x10, .inl (x11, 8, .inl x12)), (x13, .inl (x14, 8, .inl x15)), (x16, .inl (x17, 4, .inl x18)), (x19, .inl (x20, 4, .inl x21)), (x22, .inl (x23, 6, .inl x24)), (x25, .inl (x26, 6, .inl x27))]
def qa3T (x0 x1 x2 x3 x4 x5 x6 : Nat) (x7 x8 x9 x10 : Int32) (x11 : Nat) (x12 : ClassId) (x13 : NI) (x14 : Nat) (x15 : ClassId) (x16 : NI) (x17 : Nat) (x18 : ClassId) (x19 : NI) (x20 : Nat) (x21 : ClassId) (x22 : NI) (x23 : Nat) (x24 : ClassId) (x25 : NI) (x26 : Nat) (x27 : ClassId) (x28 : NI) : va_W := [(x0, .inr (2, [.ref x1, .ref x2, .ref x3, .ref x4, .ref x5, .ref x6, .null, .null, .int x7, .int x8, .int x9, .int x10])), (x11, .inl (x12, 8, .inl x13)), (x14, .inl (x15, 8, .inl x16)), (x17, .inl (x18, 4, .inl x19)), (x20, .inl (x21, 4, .inl x22)), (x23, .inl (x24, 6, .inl x25)), (x26, .inl (x27, 6, .inl x28))]
def qa8b (x0 x1 x2 x3 x4 x5 x6 : Nat) (x7 x8 x9 x10 : Int32) (x11 : Nat) (x12 : ClassId) (x13 : NI) (x14 : Nat) (x15 : ClassId) (x16 : NI) (x17 : Nat) (x18 : ClassId) (x19 : NI) (x20 : Nat) (x21 : ClassId) (x22 : NI) (x23 : Nat) (x24 : ClassId) (x25 : NI) (x26 : Nat) (x27 : ClassId) (x28 : NI) (x29 : Nat) (x30 : ClassId) (x31 : NI) : va_W := [(x0, .inr (2, [.ref x1, .ref x2, .ref x3, .ref x4, .ref x5, .ref x6, .null, .null, .int x7, .int x8, .int x9, .int x10])), (x11, .inl (x12, 8, .inl x13)), (x14, .inl (x15, 8, .inl x16)), (x17, .inl (x18, 4, .inl x19)), (x20, .inl (x21, 4, .inl x22)), (x23, .inl (x24, 6, .inl x25)), (x26, .inl (x27, 6, .inl x28)), (x29, .inl (x30, 36, .inl x31))]
def qa9K (x0 x1 x2 x3 x4 x5 x6 x7 : Nat) (x8 x9 x10 x11 : Int32) (x12 : Nat) (x13 : ClassId) (x14 : NI) (x15 : Nat) (x16 : ClassId) (x17 : NI) (x18 : Nat) (x19 : ClassId) (x20 : NI) (x21 : Nat) (x22 : ClassId) (x23 : NI) (x24 : Nat) (x25 : ClassId) (x26 : NI) (x27 : Nat) (x28 : ClassId) (x29 : NI) (x30 : Nat) (x31 : ClassId) (x32 : NI) : va_W := [(x0, .inr (2, [.ref x1, .ref x2, .ref x3, .ref x4, .ref x5, .ref x6, .ref x7, .null, .int x8, .int x9, .int x10, .int x11])), (x12, .inl (x13, 8, .inl x14)), (x15, .inl (x16, 8, .inl x17)), (x18, .inl (x19, 4, .inl x20)), (x21, .inl (x22, 4, .inl x23)), (x24, .inl (x25, 6, .inl x26)), (x27, .inl (x28, 6, .inl x29)), (x30, .inl (x31, 36, .inl x32))]
def qa9L (x0 x1 x2 x3 x4 x5 x6 x7 : Nat) (x8 x9 x10 x11 : Int32) (x12 : Nat) (x13 : ClassId) (x14 : NI) (x15 : Nat) (x16 : ClassId) (x17 : NI) (x18 : Nat) (x19 : ClassId) (x20 : NI) (x21 : Nat) (x22 : ClassId) (x23 : NI) (x24 : Nat) (x25 : ClassId) (x26 : NI) (x27 : Nat) (x28 : ClassId) (x29 : NI) (x30 : Nat) (x31 : ClassId) (x32 : NI) (x33 : Nat) (x34 : ClassId) (x35 : NI) : va_W := [(x0, .inr (2, [.ref x1, .ref x2, .ref x3, .ref x4, .ref x5, .ref x6, .ref x7, .null, .int x8, .int x9, .int x10, .int x11])), (x12, .inl (x13, 8, .inl x14)), (x15, .inl (x16, 8, .inl x17)), (x18, .inl (x19, 4, .inl x20)), (x21, .inl (x22, 4, .inl x23)), (x24, .inl (x25, 6, .inl x26)), (x27, .inl (x28, 6, .inl x29)), (x30, .inl (x31, 36, .inl x32)), (x33, .inl (x34, 8, .inl x35))]
def qamk (x0 : Nat) (x1 : Int32) : va_W := [(x0, .inr (4, [.null, .null, .null, .null, .int x1]))]
def qa87 (x0 : Nat) (x1 : Int32) (x2 : Nat) (x3 : ClassId) (x4 : NI) : va_W := [(x0, .inr (4, [.null, .null, .null, .null, .int x1])), (x2, .inl (x3, 150, .inl x4))]
def qa5W (x0 x1 : Nat) (x2 : Int32) (x3 : Nat) (x4 : ClassId) (x5 : NI) : va_W := [(x0, .inr (4, [.ref x1, .null, .null, .null, .int x2])), (x3, .inl (x4, 150, .inl x5))]
def qa3b (x0 x1 : Nat) (x2 : Int32) (x3 : Nat) (x4 : ClassId) (x5 : NI) (x6 : Nat) (x7 : ClassId) (x8 : NI) : va_W := [(x0, .inr (4, [.ref x1, .null, .null, .null, .int x2])), (x3, .inl (x4, 150, .inl x5)), (x6, .inl (x7, 150, .inl x8))]
def qa64 (x0 x1 x2 : Nat) (x3 : Int32) (x4 : Nat) (x5 : ClassId) (x6 : NI) (x7 : Nat) (x8 : ClassId) (x9 : NI) : va_W := [(x0, .inr (4, [.ref x1, .ref x2, .null, .null, .int x3])), (x4, .inl (x5, 150, .inl x6)), (x7, .inl (x8, 150, .inl x9))]
def qa7K (x0 x1 x2 : Nat) (x3 : Int32) (x4 : Nat) (x5 : ClassId) (x6 : NI) (x7 : Nat) (x8 : ClassId) (x9 : NI) (x10 : Nat) (x11 : ClassId) (x12 : NI) : va_W := [(x0, .inr (4, [.ref x1, .ref x2, .null, .null, .int x3])), (x4, .inl (x5, 150, .inl x6)), (x7, .inl (x8, 150, .inl x9)), (x10, .inl (x11, 150, .inl x12))]
def qa4h (x0 x1 x2 x3 : Nat) (x4 : Int32) (x5 : Nat) (x6 : ClassId) (x7 : NI) (x8 : Nat) (x9 : ClassId) (x10 : NI) (x11 : Nat) (x12 : ClassId) (x13 : NI) : va_W := [(x0, .inr (4, [.ref x1, .ref x2, .ref x3, .null, .int x4])), (x5, .inl (x6, 150, .inl x7)), (x8, .inl (x9, 150, .inl x10)), (x11, .inl (x12, 150, .inl x13))]
def qa5K (x0 x1 x2 x3 : Nat) (x4 : Int32) (x5 : Nat) (x6 : ClassId) (x7 : NI) (x8 : Nat) (x9 : ClassId) (x10 : NI) (x11 : Nat) (x12 : ClassId) (x13 : NI) (x14 : Nat) (x15 : ClassId) (x16 : NI) : va_W := [(x0, .inr (4, [.ref x1, .ref x2, .ref x3, .null, .int x4])), (x5, .inl (x6, 150, .inl x7)), (x8, .inl (x9, 150, .inl x10)), (x11, .inl (x12, 150, .inl x13)), (x14, .inl (x15, 8, .inl x16))]
def qa8j (x0 x1 x2 x3 x4 : Nat) (x5 : Int32) (x6 : Nat) (x7 : ClassId) (x8 : NI) (x9 : Nat) (x10 : ClassId) (x11 : NI) : va_W := [(x0, .inr (4, [.ref x1, .ref x2, .ref x3, .ref x4, .int x5])), (x6, .inl (x7, 150, .inl x8)), (x9, .inl (x10, 150, .inl x11))]
def qakc (x0 : Nat) (x1 x2 x3 x4 x5 x6 : Int32) : va_W := [(x0, .inr (9, [.null, .null, .null, .null, .null, .null, .int x1, .int x2, .int x3, .int x4, .int x5, .int x6]))]
def qaX3 (x0 x1 x2 x3 x4 x5 x6 : Nat) (x7 x8 x9 x10 x11 x12 : Int32) (x13 : Nat) (x14 : ClassId) (x15 : NI) (x16 : Nat) (x17 : ClassId) (x18 : NI) (x19 : Nat) (x20 : ClassId) (x21 : NI) (x22 : Nat) (x23 : ClassId) (x24 : NI) (x25 : Nat) (x26 : ClassId) (x27 : NI) (x28 : Nat) (x29 : ClassId) (x30 : NI) : va_W := [(x0, .inr (9, [.ref x1, .ref x2, .ref x3, .ref x4, .ref x5, .ref x6, .int x7, .int x8, .int x9, .int x10, .int x11, .int x12])), (x13, .inl (x14, 50, .inl x15)), (x16, .inl (x17, 50, .inl x18)), (x19, .inl (x20, 50, .inl x21)), (x22, .inl (x23, 50, .inl x24)), (x25, .inl (x26, 6, .inl x27)), (x28, .inl (x29, 6, .inl x30))]
def qbax (x0 : Nat) (x1 x2 x3 x4 x5 x6 : Int32) (x7 : Nat) (x8 : ClassId) (x9 : NI) : va_W := [(x0, .inr (9, [.null, .null, .null, .null, .null, .null, .int x1, .int x2, .int x3, .int x4, .int x5, .int x6])), (x7, .inl (x8, 50, .inl x9))]
def qa7u (x0 x1 : Nat) (x2 x3 x4 x5 x6 x7 : Int32) (x8 : Nat) (x9 : ClassId) (x10 : NI) : va_W := [(x0, .inr (9, [.ref x1, .null, .null, .null, .null, .null, .int x2, .int x3, .int x4, .int x5, .int x6, .int x7])), (x8, .inl (x9, 50, .inl x10))]
def qa93 (x0 x1 : Nat) (x2 x3 x4 x5 x6 x7 : Int32) (x8 : Nat) (x9 : ClassId) (x10 : NI) (x11 : Nat) (x12 : ClassId) (x13 : NI) : va_W := [(x0, .inr (9, [.ref x1, .null, .null, .null, .null, .null, .int x2, .int x3, .int x4, .int x5, .int x6, .int x7])), (x8, .inl (x9, 50, .inl x10)), (x11, .inl (x12, 50, .inl x13))]
def qa99 (x0 x1 x2 : Nat) (x3 x4 x5 x6 x7 x8 : Int32) (x9 : Nat) (x10 : ClassId) (x11 : NI) (x12 : Nat) (x13 : ClassId) (x14 : NI) : va_W := [(x0, .inr (9, [.ref x1, .ref x2, .null, .null, .null, .null, .int x3, .int x4, .int x5, .int x6, .int x7, .int x8])), (x9, .inl (x10, 50, .inl x11)), (x12, .inl (x13, 50, .inl x14))]
def qa9x (x0 x1 x2 : Nat) (x3 x4 x5 x6 x7 x8 : Int32) (x9 : Nat) (x10 : ClassId) (x11 : NI) (x12 : Nat) (x13 : ClassId) (x14 : NI) (x15 : Nat) (x16 : ClassId) (x17 : NI) : va_W := [(x0, .inr (9, [.ref x1, .ref x2, .null, .null, .null, .null, .int x3, .int x4, .int x5, .int x6, .int x7, .int x8])), (x9, .inl (x10, 50, .inl x11)), (x12, .inl (x13, 50, .inl x14)), (x15, .inl (x16, 50, .inl x17))]
def qa4I (x0 x1 x2 x3 : Nat) (x4 x5 x6 x7 x8 x9 : Int32) (x10 : Nat) (x11 : ClassId) (x12 : NI) (x13 : Nat) (x14 : ClassId) (x15 : NI) (x16 : Nat) (x17 : ClassId) (x18 : NI) : va_W := [(x0, .inr (9, [.ref x1, .ref x2, .ref x3, .null, .null, .null, .int x4, .int x5, .int x6, .int x7, .int x8, .int x9])), (x10, .inl (x11, 50, .inl x12)), (x13, .inl (x14, 50, .inl x15)), (x16, .inl (x17, 50, .inl x18))]
def qa8A (x0 x1 x2 x3 : Nat) (x4 x5 x6 x7 x8 x9 : Int32) (x10 : Nat) (x11 : ClassId) (x12 : NI) (x13 : Nat) (x14 : ClassId) (x15 : NI) (x16 : Nat) (x17 : ClassId) (x18 : NI) (x19 : Nat) (x20 : ClassId) (x21 : NI) : va_W := [(x0, .inr (9, [.ref x1, .ref x2, .ref x3, .null, .null, .null, .int x4, .int x5, .int x6, .int x7, .int x8, .int x9])), (x10, .inl (x11, 50, .inl x12)), (x13, .inl (x14, 50, .inl x15)), (x16, .inl (x17, 50, .inl x18)), (x19, .inl (x20, 50, .inl x21))]
def qa80 (x0 x1 x2 x3 x4 : Nat) (x5 x6 x7 x8 x9 x10 : Int32) (x11 : Nat) (x12 : ClassId) (x13 : NI) (x14 : Nat) (x15 : ClassId) (x16 : NI) (x17 : Nat) (x18 : ClassId) (x19 : NI) (x20 : Nat) (x21 : ClassId) (x22 : NI) : va_W := [(x0, .inr (9, [.ref x1, .ref x2, .ref x3, .ref x4, .null, .null, .int x5, .int x6, .int x7, .int x8, .int x9, .int x10])), (x11, .inl (x12, 50, .inl x13)), (x14, .inl (x15, 50, .inl x16)), (x17, .inl (x18, 50, .inl x19)), (x20, .inl (x21, 50, .inl x22))]
def qa4b (x0 x1 x2 x3 x4 : Nat) (x5 x6 x7 x8 x9 x10 : Int32) (x11 : Nat) (x12 : ClassId) (x13 : NI) (x14 : Nat) (x15 : ClassId) (x16 : NI) (x17 : Nat) (x18 : ClassId) (x19 : NI) (x20 : Nat) (x21 : ClassId) (x22 : NI) (x23 : Nat) (x24 : ClassId) (x25 : NI) : va_W := [(x0, .inr (9, [.ref x1, .ref x2, .ref x3, .ref x4, .null, .null, .int x5, .int x6, .int x7, .int x8, .int x9, .int x10])), (x11, .inl (x12, 50, .inl x13)), (x14, .inl (x15, 50, .inl x16)), (x17, .inl (x18, 50, .inl x19)), (x20, .inl (x21, 50, .inl x22)), (x23, .inl (x24, 6, .inl x25))]
def qa61 (x0 x1 x2 x3 x4 x5 : Nat) (x6 x7 x8 x9 x10 x11 : Int32) (x12 : Nat) (x13 : ClassId) (x14 : NI) (x15 : Nat) (x16 : ClassId) (x17 : NI) (x18 : Nat) (x19 : ClassId) (x20 : NI) (x21 : Nat) (x22 : ClassId) (x23 : NI) (x24 : Nat) (x25 : ClassId) (x26 : NI) : va_W := [(x0, .inr (9, [.ref x1, .ref x2, .ref x3, .ref x4, .ref x5, .null, .int x6, .int x7, .int x8, .int x9, .int x10, .int x11])), (x12, .inl (x13, 50, .inl x14)), (x15, .inl (x16, 50, .inl x17)), (x18, .inl (x19, 50, .inl x20)), (x21, .inl (x22, 50, .inl x23)), (x24, .inl (x25, 6, .inl x26))]
def qa4Z (x0 x1 x2 x3 x4 x5 : Nat) (x6 x7 x8 x9 x10 x11 : Int32) (x12 : Nat) (x13 : ClassId) (x14 : NI) (x15 : Nat) (x16 : ClassId) (x17 : NI) (x18 : Nat) (x19 : ClassId) (x20 : NI) (x21 : Nat) (x22 : ClassId) (x23 : NI) (x24 : Nat) (x25 : ClassId) (x26 : NI) (x27 : Nat) (x28 : ClassId) (x29 : NI) : va_W := [(x0, .inr (9, [.ref x1, .ref x2, .ref x3, .ref x4, .ref x5, .null, .int x6, .int x7, .int x8, .int x9, .int x10, .int x11])), (x12, .inl (x13, 50, .inl x14)), (x15, .inl (x16, 50, .inl x17)), (x18, .inl (x19, 50, .inl x20)), (x21, .inl (x22, 50, .inl x23)), (x24, .inl (x25, 6, .inl x26)), (x27, .inl (x28, 6, .inl x29))]
def qamF (x0 x1 : Nat) (x2 x3 x4 x5 : Value) (x6 x7 x8 : Nat) (x9 x10 : Value) (x11 : Int32) (x12 x13 : Value) (x14 : Nat) (x15 : ClassId) (x16 : NI) (x17 : Nat) (x18 : ClassId) (x19 : NI) (x20 : Nat) (x21 : ClassId) (x22 : NI) : va_W := [(x0, .inr (1, [.null, .null, .null, .null])), (x1, .inr (2, [x2, x3, x4, x5, .ref x6, .ref x7, .ref x8, x9, x10, .int x11, x12, x13])), (x14, .inl (x15, 36, .inl x16)), (x17, .inl (x18, 6, .inl x19)), (x20, .inl (x21, 6, .inl x22))]
def qa71 (x0 x1 x2 x3 x4 x5 : Nat) (x6 x7 x8 x9 : Value) (x10 x11 x12 : Nat) (x13 x14 : Value) (x15 : Int32) (x16 x17 : Value) (x18 : Nat) (x19 : ClassId) (x20 : NI) (x21 : Nat) (x22 : ClassId) (x23 : NI) (x24 : Nat) (x25 : ClassId) (x26 : NI) (x27 : Nat) (x28 : ClassId) (x29 : NI) (x30 : Nat) (x31 : ClassId) (x32 : NI) : va_W := [(x0, .inr (1, [.ref x1, .ref x2, .ref x3, .ref x4])), (x5, .inr (2, [x6, x7, x8, x9, .ref x10, .ref x11, .ref x12, x13, x14, .int x15, x16, x17])), (x18, .inl (x19, 36, .inl x20)), (x21, .inl (x22, 6, .inl x23)), (x24, .inl (x25, 6, .inl x26)), (x27, .inl (x28, 64, .inl x29)), (x30, .inl (x31, 6, .inl x32))]
def qbaO (x0 x1 : Nat) (x2 x3 x4 x5 : Value) (x6 x7 x8 : Nat) (x9 x10 : Value) (x11 : Int32) (x12 x13 : Value) (x14 : Nat) (x15 : ClassId) (x16 : NI) (x17 : Nat) (x18 : ClassId) (x19 : NI) (x20 : Nat) (x21 : ClassId) (x22 : NI) (x23 : Nat) (x24 : ClassId) (x25 : NI) : va_W := [(x0, .inr (1, [.null, .null, .null, .null])), (x1, .inr (2, [x2, x3, x4, x5, .ref x6, .ref x7, .ref x8, x9, x10, .int x11, x12, x13])), (x14, .inl (x15, 36, .inl x16)), (x17, .inl (x18, 6, .inl x19)), (x20, .inl (x21, 6, .inl x22)), (x23, .inl (x24, 64, .inl x25))]
def qbab (x0 x1 x2 : Nat) (x3 x4 x5 x6 : Value) (x7 x8 x9 : Nat) (x10 x11 : Value) (x12 : Int32) (x13 x14 : Value) (x15 : Nat) (x16 : ClassId) (x17 : NI) (x18 : Nat) (x19 : ClassId) (x20 : NI) (x21 : Nat) (x22 : ClassId) (x23 : NI) (x24 : Nat) (x25 : ClassId) (x26 : NI) : va_W := [(x0, .inr (1, [.ref x1, .null, .null, .null])), (x2, .inr (2, [x3, x4, x5, x6, .ref x7, .ref x8, .ref x9, x10, x11, .int x12, x13, x14])), (x15, .inl (x16, 36, .inl x17)), (x18, .inl (x19, 6, .inl x20)), (x21, .inl (x22, 6, .inl x23)), (x24, .inl (x25, 64, .inl x26))]
def qa9q (x0 x1 x2 : Nat) (x3 x4 x5 x6 : Value) (x7 x8 x9 : Nat) (x10 x11 : Value) (x12 : Int32) (x13 x14 : Value) (x15 : Nat) (x16 : ClassId) (x17 : NI) (x18 : Nat) (x19 : ClassId) (x20 : NI) (x21 : Nat) (x22 : ClassId) (x23 : NI) (x24 : Nat) (x25 : ClassId) (x26 : NI) (x27 : Nat) (x28 : ClassId) (x29 : NI) : va_W := [(x0, .inr (1, [.ref x1, .null, .null, .null])), (x2, .inr (2, [x3, x4, x5, x6, .ref x7, .ref x8, .ref x9, x10, x11, .int x12, x13, x14])), (x15, .inl (x16, 36, .inl x17)), (x18, .inl (x19, 6, .inl x20)), (x21, .inl (x22, 6, .inl x23)), (x24, .inl (x25, 64, .inl x26)), (x27, .inl (x28, 6, .inl x29))]
def qa1e (x0 x1 x2 x3 : Nat) (x4 x5 x6 x7 : Value) (x8 x9 x10 : Nat) (x11 x12 : Value) (x13 : Int32) (x14 x15 : Value) (x16 : Nat) (x17 : ClassId) (x18 : NI) (x19 : Nat) (x20 : ClassId) (x21 : NI) (x22 : Nat) (x23 : ClassId) (x24 : NI) (x25 : Nat) (x26 : ClassId) (x27 : NI) (x28 : Nat) (x29 : ClassId) (x30 : NI) : va_W := [(x0, .inr (1, [.ref x1, .ref x2, .null, .null])), (x3, .inr (2, [x4, x5, x6, x7, .ref x8, .ref x9, .ref x10, x11, x12, .int x13, x14, x15])), (x16, .inl (x17, 36, .inl x18)), (x19, .inl (x20, 6, .inl x21)), (x22, .inl (x23, 6, .inl x24)), (x25, .inl (x26, 64, .inl x27)), (x28, .inl (x29, 6, .inl x30))]
def qbcb (x0 x1 x2 x3 : Nat) (x4 : ClassId) (x5 : NI) (x6 : Nat) (x7 x8 x9 x10 : Value) (x11 x12 x13 : Nat) (x14 x15 : Value) (x16 : Int32) (x17 x18 : Value) (x19 : Nat) (x20 : ClassId) (x21 : NI) (x22 : Nat) (x23 : ClassId) (x24 : NI) (x25 : Nat) (x26 : ClassId) (x27 : NI) : va_W := [(x0, .inr (1, [.ref x1, .ref x2, .null, .null])), (x3, .inl (x4, 64, .inl x5)), (x6, .inr (2, [x7, x8, x9, x10, .ref x11, .ref x12, .ref x13, x14, x15, .int x16, x17, x18])), (x19, .inl (x20, 36, .inl x21)), (x22, .inl (x23, 6, .inl x24)), (x25, .inl (x26, 6, .inl x27))]
theorem qUY : ∀ w ∈ u_ws RX2 TX2 12, w ∈ wsX2_seenFrom := uiM qCE qLp (by decide +kernel)
theorem qac6 : (.fieldLink RX2 33 "MarchHares$Down" "near" "[I" : Cond) ∈ wsX2_seenFrom := qCE 195 (by decide +kernel)
theorem qahI : (.fieldLink RX2 36 "MarchHares$Down" "forms" "I" : Cond) ∈ wsX2_seenFrom := qCE 720 (by decide +kernel)
theorem q0h : (.initialized RX10 : Cond) ∈ wsX2_seenFrom := qCE 2 (by decide +kernel)
theorem qRx : (.static yX10_holds : Cond) ∈ wsX2_seenFrom := qCE 2052 (by decide +kernel)
set_option maxHeartbeats 4000000 in
set_option maxRecDepth 100000 in
theorem qVx {p : Program} {l : Launch} {e : Env} {s : State} {m : MethodId} {args : Array Value} {below : List Frame} {meth : Method} {c : Code} {A : Nat → Prop} (dC : Nat → ClassId) (dI : Nat → Nat → Nat) (cyB cyI cyJ cyP : ClassId) (a0 jmE : Nat) (jmz jmA jlc jld jkJ jiT jj1 ja4 jaP jkk : Value) (jaN : Int32) (jmJ : NI) (Q : Int32 → Prop) (K4 : Int32 → Int32 → Int32 → Prop) (hK4 : ∀ (H : Heap) (locs : List Loc) (ls : Array Slot) (l1 l2 l3 : Int32), va_P (dC, dI) vwCl (qJf a0 jmz jmA jlc jld jkJ jiT jj1 jmE jaN ja4 jaP jkk jmE cyI jmJ) H → va_D A (qJf a0 jmz jmA jlc jld jkJ jiT jj1 jmE jaN ja4 jaP jkk jmE cyI jmJ) → va_S A s.heap H locs → lv_has ls 4 [(0, .ref a0), (1, .int l1), (2, .int l2), (3, .int l3)] → K4 l1 l2 l3 → W p l e (headSpec wsX2_seenFrom ({ frames := 1, cells := 0, slots := 0, locals := 21 })).room s m args below meth c H locs 0 0 (MQ below (va_Qi (fun (r : Int32) (_ : Unit) => Q r ) (cB (dC, dI) (kT cyB cyI cyJ cyP) A (fun u : Unit => ((qJf a0 jmz jmA jlc jld jkJ jiT jj1 jmE jaN ja4 jaP jkk jmE cyI jmJ) : va_W))) A) args s 0 0 A) (F0 m 4 ls [])) (C0 : cfx p s m args meth c cX2_seenFrom (some .int) wsX2_seenFrom RX2 4 A (dC, dI) (kT cyB cyI cyJ cyP)) : ∀ (H : Heap) (locs : List Loc) (ls : Array Slot) (l1 l2 l3 : Int32), va_P (dC, dI) vwCl (qJf a0 jmz jmA jlc jld jkJ jiT jj1 jmE jaN ja4 jaP jkk jmE cyI jmJ) H → va_D A (qJf a0 jmz jmA jlc jld jkJ jiT jj1 jmE jaN ja4 jaP jkk jmE cyI jmJ) → va_S A s.heap H locs → lv_has ls 4 [(0, .ref a0), (1, .int l1), (2, .int l2), (3, .int l3)] → qJC jaN jmJ Q K4 l1 l2 l3 → W p l e (headSpec wsX2_seenFrom ({ frames := 1, cells := 0, slots := 0, locals := 21 })).room s m args below meth c H locs 0 0 (MQ below (va_Qi (fun (r : Int32) (_ : Unit) => Q r ) (cB (dC, dI) (kT cyB cyI cyJ cyP) A (fun u : Unit => ((qJf a0 jmz jmA jlc jld jkJ jiT jj1 jmE jaN ja4 jaP jkk jmE cyI jmJ) : va_W))) A) args s 0 0 A) (F0 m 29 ls []) := by
  obtain ⟨hx, hb, hr, hts, hown, hlocks, hml, hA, hK, hNw⟩ := id C0
  intro H locs ls l1 l2 l3 hP hD hS hl hw
  obtain ⟨x6, ex6⟩ : ∃ y : Int32, y = l3 + 1 := ⟨_, rfl⟩
  have hw := hw x6 ex6
  refine lv_iinc (v := x6) (lv' := [(3, .int x6), (0, .ref a0), (1, .int l1), (2, .int l2)]) hx hb (qaa qs9 3 rfl) hl (k := 3) rfl (by rw [ex6]; rfl) (by decide) rfl (fun ls hl => ?_)
  refine lv_goto (tgt := 4) hx hb (qaa qs9 4 rfl) (by decide) ?_
  exact hK4 _ _ _ l1 l2 x6 hP hD hS (lv_sub hl [1, 2, 3, 0] rfl) hw
set_option maxHeartbeats 4000000 in
set_option maxRecDepth 100000 in
theorem qaqJ {p : Program} {l : Launch} {e : Env} {s : State} {m : MethodId} {args : Array Value} {below : List Frame} {meth : Method} {c : Code} {A : Nat → Prop} (dC : Nat → ClassId) (dI : Nat → Nat → Nat) (cyB cyI cyJ cyP : ClassId) (a0 jmE : Nat) (jmz jmA jlc jld jkJ jiT jj1 ja4 jaP jkk : Value) (jaN : Int32) (jmJ : NI) (Q : Int32 → Prop) (C0 : cfx p s m args meth c cX2_seenFrom (some .int) wsX2_seenFrom RX2 4 A (dC, dI) (kT cyB cyI cyJ cyP)) : ∀ (n : Nat) (H : Heap) (locs : List Loc) (ls : Array Slot) (l1 l2 l3 : Int32), va_P (dC, dI) vwCl (qJf a0 jmz jmA jlc jld jkJ jiT jj1 jmE jaN ja4 jaP jkk jmE cyI jmJ) H → va_D A (qJf a0 jmz jmA jlc jld jkJ jiT jj1 jmE jaN ja4 jaP jkk jmE cyI jmJ) → va_S A s.heap H locs → lv_has ls 4 [(0, .ref a0), (1, .int l1), (2, .int l2), (3, .int l3)] → qsw jaN jmJ Q n l1 l2 l3 → W p l e (headSpec wsX2_seenFrom ({ frames := 1, cells := 0, slots := 0, locals := 21 })).room s m args below meth c H locs 0 0 (MQ below (va_Qi (fun (r : Int32) (_ : Unit) => Q r ) (cB (dC, dI) (kT cyB cyI cyJ cyP) A (fun u : Unit => ((qJf a0 jmz jmA jlc jld jkJ jiT jj1 jmE jaN ja4 jaP jkk jmE cyI jmJ) : va_W))) A) args s 0 0 A) (F0 m 4 ls []) := by
  obtain ⟨hx, hb, hr, hts, hown, hlocks, hml, hA, hK, hNw⟩ := id C0
  intro n
  induction n with
  | zero => intro H locs ls l1 l2 l3 hP hD hS hl hw; exact False.elim hw
  | succ n ih =>
    intro H locs ls l1 l2 l3 hP hD hS hl hw
    refine lv_iload_n hx hb (qaa qfC 4 rfl) rfl (lv_at hl 3 rfl) ?_
    refine lv_aload_n hx hb (qaa qfC 5 rfl) rfl (lv_at hl 0 rfl) ?_
    refine va_get (D := (dC, dI)) (ci := 2) (v := .int jaN) (C := RX2) (T := TX2) (N := 12) hx hb hts qUY hown hK hP 0 rfl rfl 8 (by decide) (hts _ qahI) (fun _ h9 => h9) rfl (qaa qfC 6 rfl) ?_
    refine lv_icmp_ge (tgt := 35) hx hb (qaa qfC 7 rfl) (by decide) (fun c1 => ?_) (fun c1 => ?_)
    · have hw := hw.1 c1
      refine lv_iload_n hx hb (qaa qs9 5 rfl) rfl (lv_at hl 2 rfl) ?_
      exact ((W.iret (v := l2) hx hb hr (fun t ht hW => ⟨⟨l2, (), rfl, hw, by rw [ht]; exact hP, va_K.moved hW.alike hK, hD⟩, hS.F ht⟩) hS.2.2 (qaa qs9 6 rfl)))
    · have hw := hw.2 c1
      refine lv_iload_n hx hb (qaa qfC 8 rfl) rfl (lv_at hl 1 rfl) ?_
      refine lv_iload_n hx hb (qaa qfC 9 rfl) rfl (lv_at hl 3 rfl) ?_
      obtain ⟨hCc, hPc, hDc, hFc⟩ := qac (ws' := []) hP hD hS hA [] (by decide +kernel) rfl
      refine va_calli (va_runSN (As := [.int l1, .int l3]) (rest := []) ⟨hx, hb, hml, hown, hts⟩ (qnt l dC dI cyB cyI cyJ cyP H.size l1 l3 hw) ⟨(va_cnB 2 hts gX2_seenFrom_X10_holds_n114 rfl rfl rfl (qbbP hNw) (hts _ q0h) (by decide +kernel) ⟨nbq rfl, nbq rfl⟩), (hts _ qRx), trivial⟩ ⟨qab, qae hPc hK hDc hNw⟩ rfl rfl hl.1 rfl (lv_room (nbq rfl)) (qaa qfC 10 rfl) ⟨nbq rfl, nbq rfl⟩) hS (fun q _ h => hFc q h) hFc (fun r2 u t H1 locs ht hvm hw hB hz1 hk1 hS => ?_)
      obtain ⟨hP1, hK1, hD1⟩ := hB
      rw [ht] at hP1
      obtain ⟨hP, hD⟩ := qah (wr := (qJf a0 jmz jmA jlc jld jkJ jiT jj1 jmE jaN ja4 jaP jkk jmE cyI jmJ)) (w1 := []) (wn := (qJf a0 jmz jmA jlc jld jkJ jiT jj1 jmE jaN ja4 jaP jkk jmE cyI jmJ)) hP hD [] [0, 1] hCc rfl (by decide +kernel) (by decide +kernel) rfl hk1 hFc hP1 hD1
      generalize H1 = H at hP hS ⊢
      refine lv_if_eq (tgt := 29) hx hb (qaa qfC 11 rfl) (by decide) (fun c3 => ?_) (fun c3 => ?_)
      · have hw := hw.1 c3
        exact qVx dC dI cyB cyI cyJ cyP a0 jmE jmz jmA jlc jld jkJ jiT jj1 ja4 jaP jkk jaN jmJ Q (qsw jaN jmJ Q n) ih C0 _ _ _ l1 l2 l3 hP hD hS (lv_sub hl [0, 1, 2, 3] rfl) hw
      · have hw := hw.2 c3
        refine lv_iload_n hx hb (qaa qfC 12 rfl) rfl (lv_at hl 2 rfl) ?_
        refine lv_aload_n hx hb (qaa qfC 13 rfl) rfl (lv_at hl 0 rfl) ?_
        refine va_get (D := (dC, dI)) (ci := 2) (v := .ref jmE) (C := RX2) (T := TX2) (N := 12) hx hb hts qUY hown hK hP 0 rfl rfl 7 (by decide) (hts _ qac6) (fun _ h9 => h9) rfl (qaa qfC 14 rfl) ?_
        refine lv_iload_n hx hb (qaa qfC 15 rfl) rfl (lv_at hl 3 rfl) ?_
        obtain ⟨hi9, hw⟩ := hw
        refine va_iald hx hb hK hP 1 1 rfl rfl hi9 (qaa qs9 0 rfl) ?_
        refine lv_topi (fun x4 ex4 => ?_)
        have hw := hw x4 ex4
        refine lv_ior hx hb (qaa qs9 1 rfl) ?_
        refine lv_topi (fun x5 ex5 => ?_)
        have hw := hw x5 ex5
        refine lv_istore_n (lv' := [(2, .int x5), (0, .ref a0), (1, .int l1), (3, .int l3)]) hx hb (qaa qs9 2 rfl) rfl hl (by decide) rfl (fun ls hl => ?_)
        exact qVx dC dI cyB cyI cyJ cyP a0 jmE jmz jmA jlc jld jkJ jiT jj1 ja4 jaP jkk jaN jmJ Q (qsw jaN jmJ Q n) ih C0 _ _ _ l1 x5 l3 hP hD hS (lv_sub hl [1, 2, 0, 3] rfl) hw
set_option maxHeartbeats 4000000 in
set_option maxRecDepth 100000 in
theorem qaKx (l : Launch) (dC : Nat → ClassId) (dI : Nat → Nat → Nat) (cyB cyI cyJ cyP : ClassId) (a0 jmE sz : Nat) (jmz jmA jlc jld jkJ jiT jj1 ja4 jaP jkk : Value) (jaN : Int32) (jmJ : NI) (p1 : Int32) {Q : Int32 → Prop} (hw : qTJ jaN jmJ p1 Q) : Met l yX2_seenFrom wsX2_seenFrom ({ frames := 1, cells := 0, slots := 0, locals := 21 }) (va_Pc [.ref a0, .int p1] (cPc (dC, dI) (kT cyB cyI cyJ cyP) (qJf a0 jmz jmA jlc jld jkJ jiT jj1 jmE jaN ja4 jaP jkk jmE cyI jmJ) sz)) (va_Qi (fun (r : Int32) (_ : Unit) => Q r ) (cB (dC, dI) (kT cyB cyI cyJ cyP) (va_A (qJf a0 jmz jmA jlc jld jkJ jiT jj1 jmE jaN ja4 jaP jkk jmE cyI jmJ) sz) (fun u : Unit => ((qJf a0 jmz jmA jlc jld jkJ jiT jj1 jmE jaN ja4 jaP jkk jmE cyI jmJ) : va_W))) (va_A (qJf a0 jmz jmA jlc jld jkJ jiT jj1 jmE jaN ja4 jaP jkk jmE cyI jmJ) sz)) 0 0 (va_A (qJf a0 jmz jmA jlc jld jkJ jiT jj1 jmE jaN ja4 jaP jkk jmE cyI jmJ) sz) := by
  refine Met.ofW (cc := cX2_seenFrom) (maxL := 4) (ret := (some .int)) (by decide) rfl ?_
  intro p e s m args below meth c s₁ B hml hv
  obtain ⟨rfl, hsz, hP, hK, hD0, hNw⟩ := hv
  have hx := B.exec
  have hb := B.bytes
  have hr := B.returns
  have hts := atoms_spec (ws := wsX2_seenFrom) B.pre
  have hown : s.vm.findClass RX2 = some m.cls := findClass_of_methodNamed B.named
  have hlocks := B.notSynchronized
  subst hsz
  have hD := hD0.self (sz := s.heap.size)
  generalize hAe : va_A (qJf a0 jmz jmA jlc jld jkJ jiT jj1 jmE jaN ja4 jaP jkk jmE cyI jmJ) s.heap.size = A at hD ⊢
  have hA : ∀ q : Nat, s.heap.size ≤ q → A q := fun q h => by rw [← hAe]; exact Or.inr h
  have hS : va_S A s.heap s.heap [] := va_S.rf
  have hP : va_P (dC, dI) vwCl (qJf a0 jmz jmA jlc jld jkJ jiT jj1 jmE jaN ja4 jaP jkk jmE cyI jmJ) s.heap := hP
  have hl := lv_entry ([.ref a0, .int p1]) (n := 4) (nbq rfl)
  rw [lg_entry_eq]
  generalize (lg_sl ([.ref a0, .int p1]) ++ List.replicate (4 - (lg_sl ([.ref a0, .int p1])).length) Slot.unset).toArray = ls at hl ⊢
  have hl : lv_has ls 4 [(0, .ref a0), (1, .int p1)] := hl
  have C0 : cfx p s m _ meth c cX2_seenFrom (some .int) wsX2_seenFrom RX2 4 A (dC, dI) (kT cyB cyI cyJ cyP) := ⟨hx, hb, hr, hts, hown, hlocks, hml, hA, hK, hNw⟩
  clear hAe
  obtain ⟨H, hH⟩ : ∃ H, H = s.heap := ⟨_, rfl⟩
  rw [← hH] at hP ⊢
  have hS : va_S A s.heap H [] := by rw [hH]; exact va_S.rf
  have hS := hS
  refine lv_iconst (v := 0) hx hb (qaa qfC 0 rfl) (by decide) ?_
  refine lv_istore_n (lv' := [(2, .int 0), (0, .ref a0), (1, .int p1)]) hx hb (qaa qfC 1 rfl) rfl hl (by decide) rfl (fun ls hl => ?_)
  refine lv_iconst (v := 0) hx hb (qaa qfC 2 rfl) (by decide) ?_
  refine lv_istore_n (lv' := [(3, .int 0), (2, .int 0), (0, .ref a0), (1, .int p1)]) hx hb (qaa qfC 3 rfl) rfl hl (by decide) rfl (fun ls hl => ?_)
  obtain ⟨n9, hw⟩ := hw
  exact qaqJ dC dI cyB cyI cyJ cyP a0 jmE jmz jmA jlc jld jkJ jiT jj1 ja4 jaP jkk jaN jmJ Q C0 n9 _ _ _ p1 0 0 hP hD hS (lv_sub hl [2, 3, 1, 0] rfl) hw
theorem qJF : ∀ w ∈ u_ws RX2 TX2 12, w ∈ wsX2_watchers := uiM qva qLp (by decide +kernel)
theorem qagJ : (.fieldLink RX2 33 "MarchHares$Down" "near" "[I" : Cond) ∈ wsX2_watchers := qva 195 (by decide +kernel)
theorem qSi : (.fieldLink RX2 36 "MarchHares$Down" "forms" "I" : Cond) ∈ wsX2_watchers := qva 720 (by decide +kernel)
set_option maxHeartbeats 4000000 in
set_option maxRecDepth 100000 in
theorem qJH {p : Program} {l : Launch} {e : Env} {s : State} {m : MethodId} {args : Array Value} {below : List Frame} {meth : Method} {c : Code} {A : Nat → Prop} (dC : Nat → ClassId) (dI : Nat → Nat → Nat) (cyB cyI cyJ cyP : ClassId) (a0 jmE jhb jhj : Nat) (jlc jld jkJ jiT jj1 ja4 jaP jkk : Value) (jaN : Int32) (jiR jiP : NI) (Q : Int32 → NI → Prop) (K42 : NI → Int32 → Int32 → Int32 → Prop) (hK42 : ∀ (H : Heap) (locs : List Loc) (ls : Array Slot) (jmJ : NI) (l2 l3 l4 : Int32), va_P (dC, dI) vwCl (qvT a0 jhb jhj jlc jld jkJ jiT jj1 jmE jaN ja4 jaP jkk jhb cyI jiR jhj cyI jiP jmE cyI jmJ) H → va_D A (qvT a0 jhb jhj jlc jld jkJ jiT jj1 jmE jaN ja4 jaP jkk jhb cyI jiR jhj cyI jiP jmE cyI jmJ) → va_S A s.heap H locs → lv_has ls 5 [(0, .ref a0), (2, .int l2), (3, .int l3), (4, .int l4)] → K42 jmJ l2 l3 l4 → W p l e (headSpec wsX2_watchers ({ frames := 3, cells := 0, slots := 0, locals := 78 })).room s m args below meth c H locs 0 0 (MQ below (va_Qi (fun (r : Int32) (u : NI) => Q r u) (cB (dC, dI) (kT cyB cyI cyJ cyP) A (fun u : NI => ((qvT a0 jhb jhj jlc jld jkJ jiT jj1 jmE jaN ja4 jaP jkk jhb cyI jiR jhj cyI jiP jmE cyI u) : va_W))) A) args s 0 0 A) (F0 m 42 ls [])) (C0 : cfx p s m args meth c cX2_watchers (some .int) wsX2_watchers RX2 5 A (dC, dI) (kT cyB cyI cyJ cyP)) : ∀ (H : Heap) (locs : List Loc) (ls : Array Slot) (jmJ : NI) (l2 l3 l4 : Int32), va_P (dC, dI) vwCl (qvT a0 jhb jhj jlc jld jkJ jiT jj1 jmE jaN ja4 jaP jkk jhb cyI jiR jhj cyI jiP jmE cyI jmJ) H → va_D A (qvT a0 jhb jhj jlc jld jkJ jiT jj1 jmE jaN ja4 jaP jkk jhb cyI jiR jhj cyI jiP jmE cyI jmJ) → va_S A s.heap H locs → lv_has ls 5 [(0, .ref a0), (2, .int l2), (3, .int l3), (4, .int l4)] → qCY jaN jiR jiP Q K42 jmJ l2 l3 l4 → W p l e (headSpec wsX2_watchers ({ frames := 3, cells := 0, slots := 0, locals := 78 })).room s m args below meth c H locs 0 0 (MQ below (va_Qi (fun (r : Int32) (u : NI) => Q r u) (cB (dC, dI) (kT cyB cyI cyJ cyP) A (fun u : NI => ((qvT a0 jhb jhj jlc jld jkJ jiT jj1 jmE jaN ja4 jaP jkk jhb cyI jiR jhj cyI jiP jmE cyI u) : va_W))) A) args s 0 0 A) (F0 m 73 ls []) := by
  obtain ⟨hx, hb, hr, hts, hown, hlocks, hml, hA, hK, hNw⟩ := id C0
  intro H locs ls jmJ l2 l3 l4 hP hD hS hl hw
  obtain ⟨x12, ex12⟩ : ∃ y : Int32, y = l4 + 1 := ⟨_, rfl⟩
  have hw := hw x12 ex12
  refine lv_iinc (v := x12) (lv' := [(4, .int x12), (0, .ref a0), (2, .int l2), (3, .int l3)]) hx hb (qaa qgj 10 rfl) hl (k := 3) rfl (by rw [ex12]; rfl) (by decide) rfl (fun ls hl => ?_)
  refine lv_goto (tgt := 42) hx hb (qaa qgj 11 rfl) (by decide) ?_
  exact hK42 _ _ _ jmJ l2 l3 x12 hP hD hS (lv_sub hl [1, 2, 3, 0] rfl) hw
set_option maxHeartbeats 4000000 in
set_option maxRecDepth 100000 in
theorem qal2 {p : Program} {l : Launch} {e : Env} {s : State} {m : MethodId} {args : Array Value} {below : List Frame} {meth : Method} {c : Code} {A : Nat → Prop} (dC : Nat → ClassId) (dI : Nat → Nat → Nat) (cyB cyI cyJ cyP : ClassId) (a0 jmE jhb jhj : Nat) (jlc jld jkJ jiT jj1 ja4 jaP jkk : Value) (jaN : Int32) (jiR jiP : NI) (Q : Int32 → NI → Prop) (C0 : cfx p s m args meth c cX2_watchers (some .int) wsX2_watchers RX2 5 A (dC, dI) (kT cyB cyI cyJ cyP)) : ∀ (n : Nat) (H : Heap) (locs : List Loc) (ls : Array Slot) (jmJ : NI) (l2 l3 l4 : Int32), va_P (dC, dI) vwCl (qvT a0 jhb jhj jlc jld jkJ jiT jj1 jmE jaN ja4 jaP jkk jhb cyI jiR jhj cyI jiP jmE cyI jmJ) H → va_D A (qvT a0 jhb jhj jlc jld jkJ jiT jj1 jmE jaN ja4 jaP jkk jhb cyI jiR jhj cyI jiP jmE cyI jmJ) → va_S A s.heap H locs → lv_has ls 5 [(0, .ref a0), (2, .int l2), (3, .int l3), (4, .int l4)] → qpO jaN jiR jiP Q n jmJ l2 l3 l4 → W p l e (headSpec wsX2_watchers ({ frames := 3, cells := 0, slots := 0, locals := 78 })).room s m args below meth c H locs 0 0 (MQ below (va_Qi (fun (r : Int32) (u : NI) => Q r u) (cB (dC, dI) (kT cyB cyI cyJ cyP) A (fun u : NI => ((qvT a0 jhb jhj jlc jld jkJ jiT jj1 jmE jaN ja4 jaP jkk jhb cyI jiR jhj cyI jiP jmE cyI u) : va_W))) A) args s 0 0 A) (F0 m 42 ls []) := by
  obtain ⟨hx, hb, hr, hts, hown, hlocks, hml, hA, hK, hNw⟩ := id C0
  intro n
  induction n with
  | zero => intro H locs ls jmJ l2 l3 l4 hP hD hS hl hw; exact False.elim hw
  | succ n ih =>
    intro H locs ls jmJ l2 l3 l4 hP hD hS hl hw
    refine lv_iload hx hb (qaa qeB 11 rfl) (lv_at hl 3 rfl) ?_
    refine lv_iload_n hx hb (qaa qeB 12 rfl) rfl (lv_at hl 1 rfl) ?_
    refine lv_icmp_ge (tgt := 79) hx hb (qaa qeB 13 rfl) (by decide) (fun c6 => ?_) (fun c6 => ?_)
    · have hw := hw.1 c6
      refine lv_iload_n hx hb (qaa qgj 12 rfl) rfl (lv_at hl 2 rfl) ?_
      exact ((W.iret (v := l3) hx hb hr (fun t ht hW => ⟨⟨l3, (jmJ), rfl, hw, by rw [ht]; exact hP, va_K.moved hW.alike hK, hD⟩, hS.F ht⟩) hS.2.2 (qaa qgj 13 rfl)))
    · have hw := hw.2 c6
      refine lv_iload hx hb (qaa qeB 14 rfl) (lv_at hl 3 rfl) ?_
      obtain ⟨hCc, hPc, hDc, hFc⟩ := qac (ws' := []) hP hD hS hA [] (by decide +kernel) rfl
      refine va_calli (va_runS (As := [.int l4]) (rest := []) ⟨hx, hb, hml, hown, hts⟩ (qx1 l dC dI cyB cyI cyJ cyP H.size l4 hw) (va_cwS 1 hts gX2_watchers_J6_bitCount_0f7a4 rfl rfl rfl (by decide +kernel) ⟨nbq rfl, nbq rfl⟩) ⟨qab, qae hPc hK hDc hNw⟩ rfl rfl hl.1 rfl (lv_room (nbq rfl)) (qaa qeB 15 rfl) ⟨nbq rfl, nbq rfl⟩) hS (fun q _ h => hFc q h) hFc (fun r7 u t H1 locs ht hvm hw hB hz1 hk1 hS => ?_)
      obtain ⟨hP1, hK1, hD1⟩ := hB
      rw [ht] at hP1
      obtain ⟨hP, hD⟩ := qah (wr := (qvT a0 jhb jhj jlc jld jkJ jiT jj1 jmE jaN ja4 jaP jkk jhb cyI jiR jhj cyI jiP jmE cyI jmJ)) (w1 := []) (wn := (qvT a0 jhb jhj jlc jld jkJ jiT jj1 jmE jaN ja4 jaP jkk jhb cyI jiR jhj cyI jiP jmE cyI jmJ)) hP hD [] [0, 1, 2, 3] hCc rfl (by decide +kernel) (by decide +kernel) rfl hk1 hFc hP1 hD1
      generalize H1 = H at hP hS ⊢
      refine lv_iload_n hx hb (qaa qgj 0 rfl) rfl (lv_at hl 2 rfl) ?_
      obtain ⟨hCc, hPc, hDc, hFc⟩ := qac (ws' := []) hP hD hS hA [] (by decide +kernel) rfl
      refine va_calli (va_runS (As := [.int l3]) (rest := [.int r7]) ⟨hx, hb, hml, hown, hts⟩ (qx1 l dC dI cyB cyI cyJ cyP H.size l3 hw) (va_cwS 1 hts gX2_watchers_J6_bitCount_0f7a4 rfl rfl rfl (by decide +kernel) ⟨nbq rfl, nbq rfl⟩) ⟨qab, qae hPc hK hDc hNw⟩ rfl rfl hl.1 rfl (lv_room (nbq rfl)) (qaa qgj 1 rfl) ⟨nbq rfl, nbq rfl⟩) hS (fun q _ h => hFc q h) hFc (fun r8 u t H1 locs ht hvm hw hB hz1 hk1 hS => ?_)
      obtain ⟨hP1, hK1, hD1⟩ := hB
      rw [ht] at hP1
      obtain ⟨hP, hD⟩ := qah (wr := (qvT a0 jhb jhj jlc jld jkJ jiT jj1 jmE jaN ja4 jaP jkk jhb cyI jiR jhj cyI jiP jmE cyI jmJ)) (w1 := []) (wn := (qvT a0 jhb jhj jlc jld jkJ jiT jj1 jmE jaN ja4 jaP jkk jhb cyI jiR jhj cyI jiP jmE cyI jmJ)) hP hD [] [0, 1, 2, 3] hCc rfl (by decide +kernel) (by decide +kernel) rfl hk1 hFc hP1 hD1
      generalize H1 = H at hP hS ⊢
      refine lv_icmp_ge (tgt := 73) hx hb (qaa qgj 2 rfl) (by decide) (fun c9 => ?_) (fun c9 => ?_)
      · have hw := hw.1 c9
        exact qJH dC dI cyB cyI cyJ cyP a0 jmE jhb jhj jlc jld jkJ jiT jj1 ja4 jaP jkk jaN jiR jiP Q (qpO jaN jiR jiP Q n) ih C0 _ _ _ jmJ l2 l3 l4 hP hD hS (lv_sub hl [0, 1, 2, 3] rfl) hw
      · have hw := hw.2 c9
        refine lv_aload_n hx hb (qaa qgj 3 rfl) rfl (lv_at hl 0 rfl) ?_
        refine lv_iload hx hb (qaa qgj 4 rfl) (lv_at hl 3 rfl) ?_
        obtain ⟨hCc, hPc, hDc, hFc⟩ := qac (ws' := (qbcs a0 jhb jhj jlc jld jkJ jiT jj1 jmE jaN ja4 jaP jkk jmE cyI jmJ)) hP hD hS hA [0, 3] (by decide +kernel) rfl
        refine va_calli (va_runV (As := [.int l4]) (rest := []) ⟨hx, hb, hml, hown, hts⟩ (qaKx l dC dI cyB cyI cyJ cyP a0 jmE H.size (.ref jhb) (.ref jhj) (jlc) (jld) (jkJ) (jiT) (jj1) (ja4) (jaP) (jkk) jaN jmJ l4 hw) (cwV 1 hts gX2_watchers_X2_seenFrom rfl rfl rfl (by decide +kernel) ⟨nbq rfl, nbq rfl⟩) ⟨qab, va_recv (q := (RX2, TX2, 12)) hK hPc (ci := 2) (q0 := 0) rfl rfl, qae hPc hK hDc hNw⟩ rfl rfl hl.1 rfl (lv_room (nbq rfl)) (qaa qgj 5 rfl) ⟨nbq rfl, nbq rfl⟩) hS (fun q _ h => hFc q h) hFc (fun r10 u t H1 locs ht hvm hw hB hz1 hk1 hS => ?_)
        obtain ⟨hP1, hK1, hD1⟩ := hB
        rw [ht] at hP1
        obtain ⟨hP, hD⟩ := qad (wr := [(jhb, .inl (cyI, 8, .inl jiR)), (jhj, .inl (cyI, 8, .inl jiP))]) (w1 := (qbcs a0 jhb jhj jlc jld jkJ jiT jj1 jmE jaN ja4 jaP jkk jmE cyI jmJ)) (wn := (qvT a0 jhb jhj jlc jld jkJ jiT jj1 jmE jaN ja4 jaP jkk jhb cyI jiR jhj cyI jiP jmE cyI jmJ)) hP hD [0, 3] [1, 2] [2, 0, 1, 3] hCc rfl (by decide +kernel) (by decide +kernel) (by decide +kernel) rfl hk1 hFc hP1 hD1
        generalize H1 = H at hP hS ⊢
        refine lv_iload_n hx hb (qaa qgj 6 rfl) rfl (lv_at hl 1 rfl) ?_
        refine lv_icmp_ne (tgt := 73) hx hb (qaa qgj 7 rfl) (by decide) (fun c11 => ?_) (fun c11 => ?_)
        · have hw := hw.1 c11
          exact qJH dC dI cyB cyI cyJ cyP a0 jmE jhb jhj jlc jld jkJ jiT jj1 ja4 jaP jkk jaN jiR jiP Q (qpO jaN jiR jiP Q n) ih C0 _ _ _ jmJ l2 l3 l4 hP hD hS (lv_sub hl [0, 1, 2, 3] rfl) hw
        · have hw := hw.2 c11
          refine lv_iload hx hb (qaa qgj 8 rfl) (lv_at hl 3 rfl) ?_
          refine lv_istore_n (lv' := [(3, .int l4), (0, .ref a0), (2, .int l2), (4, .int l4)]) hx hb (qaa qgj 9 rfl) rfl hl (by decide) rfl (fun ls hl => ?_)
          exact qJH dC dI cyB cyI cyJ cyP a0 jmE jhb jhj jlc jld jkJ jiT jj1 ja4 jaP jkk jaN jiR jiP Q (qpO jaN jiR jiP Q n) ih C0 _ _ _ jmJ l2 l4 l4 hP hD hS (lv_sub hl [1, 2, 0, 3] rfl) hw
set_option maxHeartbeats 4000000 in
set_option maxRecDepth 100000 in
theorem qas9 {p : Program} {l : Launch} {e : Env} {s : State} {m : MethodId} {args : Array Value} {below : List Frame} {meth : Method} {c : Code} {A : Nat → Prop} (dC : Nat → ClassId) (dI : Nat → Nat → Nat) (cyB cyI cyJ cyP : ClassId) (a0 jmE jhb jhj : Nat) (jlc jld jkJ jiT jj1 ja4 jaP jkk : Value) (jaN : Int32) (jiR jiP : NI) (Q : Int32 → NI → Prop) (C0 : cfx p s m args meth c cX2_watchers (some .int) wsX2_watchers RX2 5 A (dC, dI) (kT cyB cyI cyJ cyP)) : ∀ (n : Nat) (H : Heap) (locs : List Loc) (ls : Array Slot) (jmJ : NI) (l1 l2 : Int32), va_P (dC, dI) vwCl (qvT a0 jhb jhj jlc jld jkJ jiT jj1 jmE jaN ja4 jaP jkk jhb cyI jiR jhj cyI jiP jmE cyI jmJ) H → va_D A (qvT a0 jhb jhj jlc jld jkJ jiT jj1 jmE jaN ja4 jaP jkk jhb cyI jiR jhj cyI jiP jmE cyI jmJ) → va_S A s.heap H locs → lv_has ls 5 [(0, .ref a0), (1, .int l1), (2, .int l2)] → qEJ jaN jiR jiP Q n jmJ l1 l2 → W p l e (headSpec wsX2_watchers ({ frames := 3, cells := 0, slots := 0, locals := 78 })).room s m args below meth c H locs 0 0 (MQ below (va_Qi (fun (r : Int32) (u : NI) => Q r u) (cB (dC, dI) (kT cyB cyI cyJ cyP) A (fun u : NI => ((qvT a0 jhb jhj jlc jld jkJ jiT jj1 jmE jaN ja4 jaP jkk jhb cyI jiR jhj cyI jiP jmE cyI u) : va_W))) A) args s 0 0 A) (F0 m 2 ls []) := by
  obtain ⟨hx, hb, hr, hts, hown, hlocks, hml, hA, hK, hNw⟩ := id C0
  intro n
  induction n with
  | zero => intro H locs ls jmJ l1 l2 hP hD hS hl hw; exact False.elim hw
  | succ n ih =>
    intro H locs ls jmJ l1 l2 hP hD hS hl hw
    refine lv_iload_n hx hb (qaa qf6 2 rfl) rfl (lv_at hl 2 rfl) ?_
    refine lv_aload_n hx hb (qaa qf6 3 rfl) rfl (lv_at hl 0 rfl) ?_
    refine va_get (D := (dC, dI)) (ci := 2) (v := .int jaN) (C := RX2) (T := TX2) (N := 12) hx hb hts qJF hown hK hP 0 rfl rfl 8 (by decide) (hts _ qSi) (fun _ h9 => h9) rfl (qaa qf6 4 rfl) ?_
    refine lv_icmp_ge (tgt := 28) hx hb (qaa qf6 5 rfl) (by decide) (fun c1 => ?_) (fun c1 => ?_)
    · have hw := hw.1 c1
      refine lv_iconst (v := 1) hx hb (qaa qeB 0 rfl) (by decide) ?_
      refine lv_aload_n hx hb (qaa qeB 1 rfl) rfl (lv_at hl 0 rfl) ?_
      refine va_get (D := (dC, dI)) (ci := 2) (v := .int jaN) (C := RX2) (T := TX2) (N := 12) hx hb hts qJF hown hK hP 0 rfl rfl 8 (by decide) (hts _ qSi) (fun _ h9 => h9) rfl (qaa qeB 2 rfl) ?_
      refine lv_ishl hx hb (qaa qeB 3 rfl) ?_
      refine lv_iconst (v := 1) hx hb (qaa qeB 4 rfl) (by decide) ?_
      refine lv_isub hx hb (qaa qeB 5 rfl) ?_
      refine lv_topi (fun x2 ex2 => ?_)
      have hw := hw x2 ex2
      refine lv_istore_n (lv' := [(2, .int x2), (0, .ref a0), (1, .int l1)]) hx hb (qaa qeB 6 rfl) rfl hl (by decide) rfl (fun ls hl => ?_)
      refine lv_iload_n hx hb (qaa qeB 7 rfl) rfl (lv_at hl 0 rfl) ?_
      refine lv_istore_n (lv' := [(3, .int x2), (2, .int x2), (0, .ref a0), (1, .int l1)]) hx hb (qaa qeB 8 rfl) rfl hl (by decide) rfl (fun ls hl => ?_)
      refine lv_iconst (v := 0) hx hb (qaa qeB 9 rfl) (by decide) ?_
      refine lv_istore (lv' := [(4, .int 0), (3, .int x2), (2, .int x2), (0, .ref a0), (1, .int l1)]) hx hb (qaa qeB 10 rfl) hl (by decide) rfl (fun ls hl => ?_)
      obtain ⟨n9, hw⟩ := hw
      exact qal2 dC dI cyB cyI cyJ cyP a0 jmE jhb jhj jlc jld jkJ jiT jj1 ja4 jaP jkk jaN jiR jiP Q C0 n9 _ _ _ jmJ x2 x2 0 hP hD hS (lv_sub hl [3, 2, 1, 0] rfl) hw
    · have hw := hw.2 c1
      refine lv_aload_n hx hb (qaa qf6 6 rfl) rfl (lv_at hl 0 rfl) ?_
      refine va_get (D := (dC, dI)) (ci := 2) (v := .ref jmE) (C := RX2) (T := TX2) (N := 12) hx hb hts qJF hown hK hP 0 rfl rfl 7 (by decide) (hts _ qagJ) (fun _ h9 => h9) rfl (qaa qf6 7 rfl) ?_
      refine lv_iload_n hx hb (qaa qf6 8 rfl) rfl (lv_at hl 2 rfl) ?_
      refine lv_aload_n hx hb (qaa qf6 9 rfl) rfl (lv_at hl 0 rfl) ?_
      refine lv_iload_n hx hb (qaa qf6 10 rfl) rfl (lv_at hl 2 rfl) ?_
      refine lv_iload_n hx hb (qaa qf6 11 rfl) rfl (lv_at hl 1 rfl) ?_
      obtain ⟨hCc, hPc, hDc, hFc⟩ := qac (ws' := (qbd9 a0 jhb jhj jlc jld jkJ jiT jj1 jmE jaN ja4 jaP jkk jhb cyI jiR jhj cyI jiP)) hP hD hS hA [0, 1, 2] (by decide +kernel) rfl
      refine va_calli (va_runV (As := [.int l2, .int l1]) (rest := [.int l2, .ref jmE]) ⟨hx, hb, hml, hown, hts⟩ (qJM l dC dI cyB cyI cyJ cyP a0 jhb jhj H.size (jlc) (jld) (jkJ) (jiT) (jj1) (.ref jmE) (ja4) (jaP) (jkk) jaN jiR jiP l2 l1 hw) (cwV 2 hts gX2_watchers_X2_formsWithin rfl rfl rfl (by decide +kernel) ⟨nbq rfl, nbq rfl⟩) ⟨qab, va_recv (q := (RX2, TX2, 12)) hK hPc (ci := 2) (q0 := 0) rfl rfl, qae hPc hK hDc hNw⟩ rfl rfl hl.1 rfl (lv_room (nbq rfl)) (qaa qf6 12 rfl) ⟨nbq rfl, nbq rfl⟩) hS (fun q _ h => hFc q h) hFc (fun r3 u t H1 locs ht hvm hw hB hz1 hk1 hS => ?_)
      obtain ⟨hP1, hK1, hD1⟩ := hB
      rw [ht] at hP1
      obtain ⟨hP, hD⟩ := qad (wr := [(jmE, .inl (cyI, 8, .inl jmJ))]) (w1 := (qbd9 a0 jhb jhj jlc jld jkJ jiT jj1 jmE jaN ja4 jaP jkk jhb cyI jiR jhj cyI jiP)) (wn := (qvT a0 jhb jhj jlc jld jkJ jiT jj1 jmE jaN ja4 jaP jkk jhb cyI jiR jhj cyI jiP jmE cyI jmJ)) hP hD [0, 1, 2] [3] [1, 2, 3, 0] hCc rfl (by decide +kernel) (by decide +kernel) (by decide +kernel) rfl hk1 hFc hP1 hD1
      generalize H1 = H at hP hS ⊢
      obtain ⟨hi9, hw⟩ := hw
      refine va_iast hx hb hK hP hD hS 3 1 rfl rfl hi9 (qaa qf6 13 rfl) (fun H locs hP hD hS => ?_)
      obtain ⟨f4, ef4⟩ : ∃ y : NI, y = upd jmJ l2.toNatClampNeg r3 := ⟨_, rfl⟩
      have hw := hw f4 ef4
      have hP : va_P (dC, dI) vwCl (qvT a0 jhb jhj jlc jld jkJ jiT jj1 jmE jaN ja4 jaP jkk jhb cyI jiR jhj cyI jiP jmE cyI f4) H := by rw [ef4]; exact hP
      have hD : va_D A (qvT a0 jhb jhj jlc jld jkJ jiT jj1 jmE jaN ja4 jaP jkk jhb cyI jiR jhj cyI jiP jmE cyI f4) := by rw [ef4]; exact hD
      obtain ⟨x5, ex5⟩ : ∃ y : Int32, y = l2 + 1 := ⟨_, rfl⟩
      have hw := hw x5 ex5
      refine lv_iinc (v := x5) (lv' := [(2, .int x5), (0, .ref a0), (1, .int l1)]) hx hb (qaa qf6 14 rfl) hl (k := 2) rfl (by rw [ex5]; rfl) (by decide) rfl (fun ls hl => ?_)
      refine lv_goto (tgt := 2) hx hb (qaa qf6 15 rfl) (by decide) ?_
      exact ih _ _ _ f4 l1 x5 hP hD hS (lv_sub hl [1, 2, 0] rfl) hw
set_option maxHeartbeats 4000000 in
set_option maxRecDepth 100000 in
theorem qaFx (l : Launch) (dC : Nat → ClassId) (dI : Nat → Nat → Nat) (cyB cyI cyJ cyP : ClassId) (a0 jmE jhb jhj sz : Nat) (jlc jld jkJ jiT jj1 ja4 jaP jkk : Value) (jaN : Int32) (jiR jiP jmJ : NI) (p1 : Int32) {Q : Int32 → NI → Prop} (hw : qUq jaN jiR jiP jmJ p1 Q) : Met l yX2_watchers wsX2_watchers ({ frames := 3, cells := 0, slots := 0, locals := 78 }) (va_Pc [.ref a0, .int p1] (cPc (dC, dI) (kT cyB cyI cyJ cyP) (qvT a0 jhb jhj jlc jld jkJ jiT jj1 jmE jaN ja4 jaP jkk jhb cyI jiR jhj cyI jiP jmE cyI jmJ) sz)) (va_Qi (fun (r : Int32) (u : NI) => Q r u) (cB (dC, dI) (kT cyB cyI cyJ cyP) (va_A (qvT a0 jhb jhj jlc jld jkJ jiT jj1 jmE jaN ja4 jaP jkk jhb cyI jiR jhj cyI jiP jmE cyI jmJ) sz) (fun u : NI => ((qvT a0 jhb jhj jlc jld jkJ jiT jj1 jmE jaN ja4 jaP jkk jhb cyI jiR jhj cyI jiP jmE cyI u) : va_W))) (va_A (qvT a0 jhb jhj jlc jld jkJ jiT jj1 jmE jaN ja4 jaP jkk jhb cyI jiR jhj cyI jiP jmE cyI jmJ) sz)) 0 0 (va_A (qvT a0 jhb jhj jlc jld jkJ jiT jj1 jmE jaN ja4 jaP jkk jhb cyI jiR jhj cyI jiP jmE cyI jmJ) sz) := by
  refine Met.ofW (cc := cX2_watchers) (maxL := 5) (ret := (some .int)) (by decide) rfl ?_
  intro p e s m args below meth c s₁ B hml hv
  obtain ⟨rfl, hsz, hP, hK, hD0, hNw⟩ := hv
  have hx := B.exec
  have hb := B.bytes
  have hr := B.returns
  have hts := atoms_spec (ws := wsX2_watchers) B.pre
  have hown : s.vm.findClass RX2 = some m.cls := findClass_of_methodNamed B.named
  have hlocks := B.notSynchronized
  subst hsz
  have hD := hD0.self (sz := s.heap.size)
  generalize hAe : va_A (qvT a0 jhb jhj jlc jld jkJ jiT jj1 jmE jaN ja4 jaP jkk jhb cyI jiR jhj cyI jiP jmE cyI jmJ) s.heap.size = A at hD ⊢
  have hA : ∀ q : Nat, s.heap.size ≤ q → A q := fun q h => by rw [← hAe]; exact Or.inr h
  have hS : va_S A s.heap s.heap [] := va_S.rf
  have hP : va_P (dC, dI) vwCl (qvT a0 jhb jhj jlc jld jkJ jiT jj1 jmE jaN ja4 jaP jkk jhb cyI jiR jhj cyI jiP jmE cyI jmJ) s.heap := hP
  have hl := lv_entry ([.ref a0, .int p1]) (n := 5) (nbq rfl)
  rw [lg_entry_eq]
  generalize (lg_sl ([.ref a0, .int p1]) ++ List.replicate (5 - (lg_sl ([.ref a0, .int p1])).length) Slot.unset).toArray = ls at hl ⊢
  have hl : lv_has ls 5 [(0, .ref a0), (1, .int p1)] := hl
  have C0 : cfx p s m _ meth c cX2_watchers (some .int) wsX2_watchers RX2 5 A (dC, dI) (kT cyB cyI cyJ cyP) := ⟨hx, hb, hr, hts, hown, hlocks, hml, hA, hK, hNw⟩
  clear hAe
  obtain ⟨H, hH⟩ : ∃ H, H = s.heap := ⟨_, rfl⟩
  rw [← hH] at hP ⊢
  have hS : va_S A s.heap H [] := by rw [hH]; exact va_S.rf
  have hS := hS
  refine lv_iconst (v := 0) hx hb (qaa qf6 0 rfl) (by decide) ?_
  refine lv_istore_n (lv' := [(2, .int 0), (0, .ref a0), (1, .int p1)]) hx hb (qaa qf6 1 rfl) rfl hl (by decide) rfl (fun ls hl => ?_)
  obtain ⟨n9, hw⟩ := hw
  exact qas9 dC dI cyB cyI cyJ cyP a0 jmE jhb jhj jlc jld jkJ jiT jj1 ja4 jaP jkk jaN jiR jiP Q C0 n9 _ _ _ jmJ p1 0 hP hD hS (lv_sub hl [1, 2, 0] rfl) hw
theorem qapY : ∀ w ∈ u_ws RX10 TX10 19, w ∈ wsX10_watch := uiM qJ2 qyN (by decide +kernel)
theorem qarS : (.fieldLink RX10 19 "MarchHares" "ground" "LMarchHares$Down;" : Cond) ∈ wsX10_watch := qJ2 20 (by decide +kernel)
set_option maxHeartbeats 4000000 in
set_option maxRecDepth 100000 in
theorem qaS9 (l : Launch) (dC : Nat → ClassId) (dI : Nat → Nat → Nat) (cyB cyI cyJ cyP : ClassId) (a0 jaR jbs jbt jmB sz : Nat) (jaK ja1 jcp jbc jbV ja3 jbH ja2 jbO jaq jac jbI jbl jbn jba jaa jbA jbo jbp jbk jbj jbf jgQ jbi jcd : Value) (jbE : Int32) (jci jcj : NI) (jbz : Int32) (jol : NI) (p1 : Int32) {E : String → Int32 → NI → Prop} {Q : Int32 → Int32 → NI → Prop} (hw : q0Y jbE jci jcj jbz jol p1 E Q) : vx_Met l yX10_watch wsX10_watch ({ frames := 8, cells := 1, slots := 6, locals := 164 }) (va_Pc [.ref a0, .int p1] (cPx l (dC, dI) (kT cyB cyI cyJ cyP) (qNA a0 jaK jaR ja1 jcp jbc jbV ja3 jbH ja2 jbO jaq jac jbI jbl jbn jba jaa jbA jbz jaR jbs jbt jbo jbp jbk jbj jbf jmB jbE jgQ jbi jcd jbs cyI jci jbt cyI jcj jmB cyI jol) sz)) (va_Qi (fun (r : Int32) (u : Int32 × NI) => Q r u.1 u.2) (cB (dC, dI) (kT cyB cyI cyJ cyP) (va_A (qNA a0 jaK jaR ja1 jcp jbc jbV ja3 jbH ja2 jbO jaq jac jbI jbl jbn jba jaa jbA jbz jaR jbs jbt jbo jbp jbk jbj jbf jmB jbE jgQ jbi jcd jbs cyI jci jbt cyI jcj jmB cyI jol) sz) (fun u : Int32 × NI => ((qNA a0 jaK jaR ja1 jcp jbc jbV ja3 jbH ja2 jbO jaq jac jbI jbl jbn jba jaa jbA u.1 jaR jbs jbt jbo jbp jbk jbj jbf jmB jbE jgQ jbi jcd jbs cyI jci jbt cyI jcj jmB cyI u.2) : va_W))) (va_A (qNA a0 jaK jaR ja1 jcp jbc jbV ja3 jbH ja2 jbO jaq jac jbI jbl jbn jba jaa jbA jbz jaR jbs jbt jbo jbp jbk jbj jbf jmB jbE jgQ jbi jcd jbs cyI jci jbt cyI jcj jmB cyI jol) sz)) (vx_X (fun _ => True) (fun (en : String) (u : Int32 × NI) (t : State) => E en u.1 u.2 ∧ cB (dC, dI) (kT cyB cyI cyJ cyP) (va_A (qNA a0 jaK jaR ja1 jcp jbc jbV ja3 jbH ja2 jbO jaq jac jbI jbl jbn jba jaa jbA jbz jaR jbs jbt jbo jbp jbk jbj jbf jmB jbE jgQ jbi jcd jbs cyI jci jbt cyI jcj jmB cyI jol) sz) (fun u : Int32 × NI => ((qNA a0 jaK jaR ja1 jcp jbc jbV ja3 jbH ja2 jbO jaq jac jbI jbl jbn jba jaa jbA u.1 jaR jbs jbt jbo jbp jbk jbj jbf jmB jbE jgQ jbi jcd jbs cyI jci jbt cyI jcj jmB cyI u.2) : va_W)) u t) (va_A (qNA a0 jaK jaR ja1 jcp jbc jbV ja3 jbH ja2 jbO jaq jac jbI jbl jbn jba jaa jbA jbz jaR jbs jbt jbo jbp jbk jbj jbf jmB jbE jgQ jbi jcd jbs cyI jci jbt cyI jcj jmB cyI jol) sz)) 1 6 (va_A (qNA a0 jaK jaR ja1 jcp jbc jbV ja3 jbH ja2 jbO jaq jac jbI jbl jbn jba jaa jbA jbz jaR jbs jbt jbo jbp jbk jbj jbf jmB jbE jgQ jbi jcd jbs cyI jci jbt cyI jcj jmB cyI jol) sz) := by
  refine vx_ofW (cc := cX10_watch) (maxL := 2) (ret := (some .int)) (by decide) rfl ?_
  intro p e s m args below meth c s₁ B hml hnt hv
  obtain ⟨rfl, hsz, hP, hK, hD0, hNw, hXl, hXu, hXn, hXt⟩ := hv
  have hx := B.exec
  have hb := B.bytes
  have hr := B.returns
  have hts := atoms_spec (ws := wsX10_watch) B.pre
  have hown : s.vm.findClass RX10 = some m.cls := findClass_of_methodNamed B.named
  have hlocks := B.notSynchronized
  subst hsz
  have hD := hD0.self (sz := s.heap.size)
  generalize hAe : va_A (qNA a0 jaK jaR ja1 jcp jbc jbV ja3 jbH ja2 jbO jaq jac jbI jbl jbn jba jaa jbA jbz jaR jbs jbt jbo jbp jbk jbj jbf jmB jbE jgQ jbi jcd jbs cyI jci jbt cyI jcj jmB cyI jol) s.heap.size = A at hD hXu hXn ⊢
  have hA : ∀ q : Nat, s.heap.size ≤ q → A q := fun q h => by rw [← hAe]; exact Or.inr h
  have hS : va_S A s.heap s.heap [] := va_S.rf
  have hP : va_P (dC, dI) vwCl (qNA a0 jaK jaR ja1 jcp jbc jbV ja3 jbH ja2 jbO jaq jac jbI jbl jbn jba jaa jbA jbz jaR jbs jbt jbo jbp jbk jbj jbf jmB jbE jgQ jbi jcd jbs cyI jci jbt cyI jcj jmB cyI jol) s.heap := hP
  have hl := lv_entry ([.ref a0, .int p1]) (n := 2) (nbq rfl)
  rw [lg_entry_eq]
  generalize (lg_sl ([.ref a0, .int p1]) ++ List.replicate (2 - (lg_sl ([.ref a0, .int p1])).length) Slot.unset).toArray = ls at hl ⊢
  have hl : lv_has ls 2 [(0, .ref a0), (1, .int p1)] := hl
  have hY : cfY l s A := ⟨hXl, hXu, hXn, hXt⟩
  have hXs : cfX l s c A := ⟨hnt, hY⟩
  have C0 : cfx p s m _ meth c cX10_watch (some .int) wsX10_watch RX10 2 A (dC, dI) (kT cyB cyI cyJ cyP) ∧ cfX l s c A := ⟨⟨hx, hb, hr, hts, hown, hlocks, hml, hA, hK, hNw⟩, hXs⟩
  clear hAe
  obtain ⟨H, hH⟩ : ∃ H, H = s.heap := ⟨_, rfl⟩
  rw [← hH] at hP ⊢
  have hS : va_S A s.heap H [] := by rw [hH]; exact va_S.rf
  have hS := hS
  refine lv_aload_n hx hb (qaa qrH 0 rfl) rfl (lv_at hl 0 rfl) ?_
  refine lv_iload_n hx hb (qaa qrH 1 rfl) rfl (lv_at hl 1 rfl) ?_
  refine lv_iconst (v := 0) hx hb (qaa qrH 2 rfl) (by decide) ?_
  refine lv_bipush (v := 60) hx hb (qaa qrH 3 rfl) (by decide) ?_
  obtain ⟨hCc, hPc, hDc, hFc⟩ := qac (ws' := (qa0N a0 jaK jaR ja1 jcp jbc jbV ja3 jbH ja2 jbO jaq jac jbI jbl jbn jba jaa jbA jbz)) hP hD hS hA [0] (by decide +kernel) rfl
  refine vx_callv (vx_runV (As := [.int p1, .int 0, .int 60]) (rest := []) ⟨hx, hb, hml, hown, hts⟩ (qaV l dC dI cyB cyI cyJ cyP a0 H.size (jaK) (.ref jaR) (ja1) (jcp) (jbc) (jbV) (ja3) (jbH) (ja2) (jbO) (jaq) (jac) (jbI) (jbl) (jbn) (jba) (jaa) (jbA) jbz p1 0 60 hw) (cwV 3 hts gX10_watch_X10_needWithin rfl rfl rfl (by decide +kernel) ⟨nbq rfl, nbq rfl⟩) ⟨qav, va_recv (q := (RX10, TX10, 19)) hK hPc (ci := 10) (q0 := 0) rfl rfl, qbl hPc hK hDc hNw hY hS hFc⟩ rfl rfl hl.1 rfl (lv_room (nbq rfl)) (qaa qrH 4 rfl) ⟨nbq rfl, nbq rfl⟩) hS (fun q _ h => hFc q h) hFc (fun q _ h => hFc q h) (fun en ce q9 u t H1 locs ht hvm hpx hB hz1 hk1 hS hc9 hv9 hcl9 => ?_) (fun u t H1 locs ht hvm hw hB hz1 hk1 hS => ?_)
  · obtain ⟨x1, rfl⟩ : ∃ z, z = u := ⟨_, rfl⟩
    obtain ⟨hw, hP1, hK1, hD1⟩ := hB
    rw [ht] at hP1
    obtain ⟨hP, hD⟩ := qad (wr := (qvT jaR jbs jbt jbo jbp jbk jbj jbf jmB jbE jgQ jbi jcd jbs cyI jci jbt cyI jcj jmB cyI jol)) (w1 := (qa0N a0 jaK jaR ja1 jcp jbc jbV ja3 jbH ja2 jbO jaq jac jbI jbl jbn jba jaa jbA x1)) (wn := (qNA a0 jaK jaR ja1 jcp jbc jbV ja3 jbH ja2 jbO jaq jac jbI jbl jbn jba jaa jbA x1 jaR jbs jbt jbo jbp jbk jbj jbf jmB jbE jgQ jbi jcd jbs cyI jci jbt cyI jcj jmB cyI jol)) hP hD [0] [1, 2, 3, 4] [4, 0, 1, 2, 3] hCc rfl (by decide +kernel) (by decide +kernel) (by decide +kernel) rfl hk1 hFc hP1 hD1
    generalize H1 = H at hP hS hc9 ⊢
    exact vx_out (fun x hx9 => (hXs.1 x hx9).elim) hlocks hc9 hv9 hcl9 (fun t2 ht2 hal2 => ⟨(x1, jol), trivial, ⟨hw, by rw [ht2]; exact hP, va_K.moved hal2 hK, hD⟩, hS.F ht2⟩) hS.2.2 (nbq rfl) (nbq rfl)
  obtain ⟨x1, rfl⟩ : ∃ z, z = u := ⟨_, rfl⟩
  obtain ⟨hP1, hK1, hD1⟩ := hB
  rw [ht] at hP1
  obtain ⟨hP, hD⟩ := qad (wr := (qvT jaR jbs jbt jbo jbp jbk jbj jbf jmB jbE jgQ jbi jcd jbs cyI jci jbt cyI jcj jmB cyI jol)) (w1 := (qa0N a0 jaK jaR ja1 jcp jbc jbV ja3 jbH ja2 jbO jaq jac jbI jbl jbn jba jaa jbA x1)) (wn := (qNA a0 jaK jaR ja1 jcp jbc jbV ja3 jbH ja2 jbO jaq jac jbI jbl jbn jba jaa jbA x1 jaR jbs jbt jbo jbp jbk jbj jbf jmB jbE jgQ jbi jcd jbs cyI jci jbt cyI jcj jmB cyI jol)) hP hD [0] [1, 2, 3, 4] [4, 0, 1, 2, 3] hCc rfl (by decide +kernel) (by decide +kernel) (by decide +kernel) rfl hk1 hFc hP1 hD1
  generalize H1 = H at hP hS ⊢
  refine lv_aload_n hx hb (qaa qrH 5 rfl) rfl (lv_at hl 0 rfl) ?_
  refine va_get (D := (dC, dI)) (ci := 10) (v := .ref jaR) (C := RX10) (T := TX10) (N := 19) hx hb hts qapY hown hK hP 0 rfl rfl 1 (by decide) (hts _ qarS) (fun _ h9 => h9) rfl (qaa qrH 6 rfl) ?_
  refine lv_iload_n hx hb (qaa qrH 7 rfl) rfl (lv_at hl 1 rfl) ?_
  obtain ⟨hCc, hPc, hDc, hFc⟩ := qac (ws' := (qvT jaR jbs jbt jbo jbp jbk jbj jbf jmB jbE jgQ jbi jcd jbs cyI jci jbt cyI jcj jmB cyI jol)) hP hD hS hA [1, 2, 3, 4] (by decide +kernel) rfl
  refine va_calli (va_runV (As := [.int p1]) (rest := []) ⟨hx, hb, hml, hown, hts⟩ (qaFx l dC dI cyB cyI cyJ cyP jaR jmB jbs jbt H.size (jbo) (jbp) (jbk) (jbj) (jbf) (jgQ) (jbi) (jcd) jbE jci jcj jol p1 hw) (cwV 1 hts gX10_watch_X2_watchers rfl rfl rfl (by decide +kernel) ⟨nbq rfl, nbq rfl⟩) ⟨qab, va_recv (q := (RX2, TX2, 12)) hK hPc (ci := 2) (q0 := 0) rfl rfl, qae hPc hK hDc hNw⟩ rfl rfl hl.1 rfl (lv_room (nbq rfl)) (qaa qrH 8 rfl) ⟨nbq rfl, nbq rfl⟩) hS (fun q _ h => hFc q h) hFc (fun r3 u t H1 locs ht hvm hw hB hz1 hk1 hS => ?_)
  obtain ⟨f2, rfl⟩ : ∃ z, z = u := ⟨_, rfl⟩
  obtain ⟨hP1, hK1, hD1⟩ := hB
  rw [ht] at hP1
  obtain ⟨hP, hD⟩ := qah (wr := (qa0N a0 jaK jaR ja1 jcp jbc jbV ja3 jbH ja2 jbO jaq jac jbI jbl jbn jba jaa jbA x1)) (w1 := (qvT jaR jbs jbt jbo jbp jbk jbj jbf jmB jbE jgQ jbi jcd jbs cyI jci jbt cyI jcj jmB cyI f2)) (wn := (qNA a0 jaK jaR ja1 jcp jbc jbV ja3 jbH ja2 jbO jaq jac jbI jbl jbn jba jaa jbA x1 jaR jbs jbt jbo jbp jbk jbj jbf jmB jbE jgQ jbi jcd jbs cyI jci jbt cyI jcj jmB cyI f2)) hP hD [1, 2, 3, 4] [0] hCc rfl (by decide +kernel) (by decide +kernel) rfl hk1 hFc hP1 hD1
  generalize H1 = H at hP hS ⊢
  exact vx_ret (W.widen (k := 1) (n := 6) (nbq rfl) (nbq rfl) (W.iret (v := r3) hx hb hr (fun t ht hW => ⟨⟨r3, (x1, f2), rfl, hw, by rw [ht]; exact hP, va_K.moved hW.alike hK, hD⟩, hS.F ht⟩) hS.2.2 (qaa qrH 9 rfl)))
theorem qaz0 : (.classLink RL 13 "java/lang/IllegalArgumentException" : Cond) ∈ wsL_watch := qafJ 595 (by decide +kernel)
theorem qaOO : (.codeWith yL_watch cL_watch 4 (some .int) [(0, 9, 12, 13)] : Cond) ∈ wsL_watch := qafJ 3665 (by decide +kernel)
set_option maxHeartbeats 4000000 in
set_option maxRecDepth 100000 in
theorem qa2m (l : Launch) (dC : Nat → ClassId) (dI : Nat → Nat → Nat) (cyB cyI cyJ cyP : ClassId) (a0 a2 jaR jbs jbt jmB sz : Nat) (jaK ja1 jcp jbc jbV ja3 jbH ja2 jbO jaq jac jbI jbl jbn jba jaa jbA jbo jbp jbk jbj jbf jgQ jbi jcd : Value) (n2 : Nat) (jbE : Int32) (jci jcj : NI) (jbz : Int32) (jol : NI) (f2 : Nat → Int64) (p1 : Int32) {Q : Int32 → Int32 → NI → (Nat → Int64) → Prop} (hw : qaLU n2 jbE jci jcj jbz jol f2 p1 Q) : Met l yL_watch wsL_watch ({ frames := 9, cells := 1, slots := 6, locals := 185 }) (va_Pc [.ref a0, .int p1, .ref a2] (cPx l (dC, dI) (kT cyB cyI cyJ cyP) (qZJ a0 jaK jaR ja1 jcp jbc jbV ja3 jbH ja2 jbO jaq jac jbI jbl jbn jba jaa jbA jbz jaR jbs jbt jbo jbp jbk jbj jbf jmB jbE jgQ jbi jcd jbs cyI jci jbt cyI jcj jmB cyI jol a2 cyJ n2 f2) sz)) (va_Qi (fun (r : Int32) (u : Int32 × NI × (Nat → Int64)) => Q r u.1 u.2.1 u.2.2) (cB (dC, dI) (kT cyB cyI cyJ cyP) (va_A (qZJ a0 jaK jaR ja1 jcp jbc jbV ja3 jbH ja2 jbO jaq jac jbI jbl jbn jba jaa jbA jbz jaR jbs jbt jbo jbp jbk jbj jbf jmB jbE jgQ jbi jcd jbs cyI jci jbt cyI jcj jmB cyI jol a2 cyJ n2 f2) sz) (fun u : Int32 × NI × (Nat → Int64) => ((qZJ a0 jaK jaR ja1 jcp jbc jbV ja3 jbH ja2 jbO jaq jac jbI jbl jbn jba jaa jbA u.1 jaR jbs jbt jbo jbp jbk jbj jbf jmB jbE jgQ jbi jcd jbs cyI jci jbt cyI jcj jmB cyI u.2.1 a2 cyJ n2 u.2.2) : va_W))) (va_A (qZJ a0 jaK jaR ja1 jcp jbc jbV ja3 jbH ja2 jbO jaq jac jbI jbl jbn jba jaa jbA jbz jaR jbs jbt jbo jbp jbk jbj jbf jmB jbE jgQ jbi jcd jbs cyI jci jbt cyI jcj jmB cyI jol a2 cyJ n2 f2) sz)) 1 6 (va_A (qZJ a0 jaK jaR ja1 jcp jbc jbV ja3 jbH ja2 jbO jaq jac jbI jbl jbn jba jaa jbA jbz jaR jbs jbt jbo jbp jbk jbj jbf jmB jbE jgQ jbi jcd jbs cyI jci jbt cyI jcj jmB cyI jol a2 cyJ n2 f2) sz) := by
  refine va_MetW (cc := cL_watch) (maxL := 4) (ret := (some .int)) (by decide) rfl ?_
  intro p e s m args below meth c s₁ B hml hv
  obtain ⟨rfl, hsz, hP, hK, hD0, hNw, hXl, hXu, hXn, hXt⟩ := hv
  have hx := B.exec
  have hb := B.bytes
  have hr := B.returns
  have hts := atoms_spec (ws := wsL_watch) B.pre
  have hown : s.vm.findClass RL = some m.cls := findClass_of_methodNamed B.named
  have hlocks := B.notSynchronized
  subst hsz
  have hD := hD0.self (sz := s.heap.size)
  generalize hAe : va_A (qZJ a0 jaK jaR ja1 jcp jbc jbV ja3 jbH ja2 jbO jaq jac jbI jbl jbn jba jaa jbA jbz jaR jbs jbt jbo jbp jbk jbj jbf jmB jbE jgQ jbi jcd jbs cyI jci jbt cyI jcj jmB cyI jol a2 cyJ n2 f2) s.heap.size = A at hD hXu hXn ⊢
  have hA : ∀ q : Nat, s.heap.size ≤ q → A q := fun q h => by rw [← hAe]; exact Or.inr h
  have hS : va_S A s.heap s.heap [] := va_S.rf
  have hP : va_P (dC, dI) vwCl (qZJ a0 jaK jaR ja1 jcp jbc jbV ja3 jbH ja2 jbO jaq jac jbI jbl jbn jba jaa jbA jbz jaR jbs jbt jbo jbp jbk jbj jbf jmB jbE jgQ jbi jcd jbs cyI jci jbt cyI jcj jmB cyI jol a2 cyJ n2 f2) s.heap := hP
  have hl := lv_entry ([.ref a0, .int p1, .ref a2]) (n := 4) (nbq rfl)
  rw [lg_entry_eq]
  generalize (lg_sl ([.ref a0, .int p1, .ref a2]) ++ List.replicate (4 - (lg_sl ([.ref a0, .int p1, .ref a2])).length) Slot.unset).toArray = ls at hl ⊢
  have hl : lv_has ls 4 [(0, .ref a0), (1, .int p1), (2, .ref a2)] := hl
  have hY : cfY l s A := ⟨hXl, hXu, hXn, hXt⟩
  have hTb := vx_table (x := yL_watch) B (hts _ qaOO)
  clear hAe
  obtain ⟨H, hH⟩ : ∃ H, H = s.heap := ⟨_, rfl⟩
  rw [← hH] at hP ⊢
  have hS : va_S A s.heap H [] := by rw [hH]; exact va_S.rf
  have hS := hS
  refine lv_aload_n hx hb (qaa qrq 0 rfl) rfl (lv_at hl 2 rfl) ?_
  refine lv_iconst (v := 0) hx hb (qaa qrq 1 rfl) (by decide) ?_
  refine lv_aload_n hx hb (qaa qrq 2 rfl) rfl (lv_at hl 0 rfl) ?_
  refine lv_iload_n hx hb (qaa qrq 3 rfl) rfl (lv_at hl 1 rfl) ?_
  obtain ⟨hCc, hPc, hDc, hFc⟩ := qac (ws' := (qNA a0 jaK jaR ja1 jcp jbc jbV ja3 jbH ja2 jbO jaq jac jbI jbl jbn jba jaa jbA jbz jaR jbs jbt jbo jbp jbk jbj jbf jmB jbE jgQ jbi jcd jbs cyI jci jbt cyI jcj jmB cyI jol)) hP hD hS hA [0, 1, 2, 3, 4] (by decide +kernel) rfl
  refine vx_calli (vx_runV (As := [.int p1]) (rest := [.int 0, .ref a2]) ⟨hx, hb, hml, hown, hts⟩ (qaS9 l dC dI cyB cyI cyJ cyP a0 jaR jbs jbt jmB H.size (jaK) (ja1) (jcp) (jbc) (jbV) (ja3) (jbH) (ja2) (jbO) (jaq) (jac) (jbI) (jbl) (jbn) (jba) (jaa) (jbA) (jbo) (jbp) (jbk) (jbj) (jbf) (jgQ) (jbi) (jcd) jbE jci jcj jbz jol p1 hw) (cwV 1 hts gL_watch_X10_watch rfl rfl rfl (by decide +kernel) ⟨nbq rfl, nbq rfl⟩) ⟨qav, va_recv (q := (RX10, TX10, 19)) hK hPc (ci := 10) (q0 := 0) rfl rfl, qbl hPc hK hDc hNw hY hS hFc⟩ rfl rfl hl.1 rfl (lv_room (nbq rfl)) (qaa qrq 4 rfl) ⟨nbq rfl, nbq rfl⟩) hS (fun q _ h => hFc q h) hFc (fun q _ h => hFc q h) (fun en ce qx9 u t H1 locs ht hvm hpx hB hz1 hk1 hS hc9 hv9 hcl9 => ?_) (fun r4 u t H1 locs ht hvm hw hB hz1 hk1 hS => ?_)
  · obtain ⟨x1, f3⟩ := u
    obtain ⟨hw, hP1, hK1, hD1⟩ := hB
    rw [ht] at hP1
    obtain ⟨hP, hD⟩ := qad (wr := [(a2, .inl (cyJ, n2, .inr (.inl f2)))]) (w1 := (qNA a0 jaK jaR ja1 jcp jbc jbV ja3 jbH ja2 jbO jaq jac jbI jbl jbn jba jaa jbA x1 jaR jbs jbt jbo jbp jbk jbj jbf jmB jbE jgQ jbi jcd jbs cyI jci jbt cyI jcj jmB cyI f3)) (wn := (qZJ a0 jaK jaR ja1 jcp jbc jbV ja3 jbH ja2 jbO jaq jac jbI jbl jbn jba jaa jbA x1 jaR jbs jbt jbo jbp jbk jbj jbf jmB jbE jgQ jbi jcd jbs cyI jci jbt cyI jcj jmB cyI f3 a2 cyJ n2 f2)) hP hD [0, 1, 2, 3, 4] [5] [1, 2, 3, 4, 5, 0] hCc rfl (by decide +kernel) (by decide +kernel) (by decide +kernel) rfl hk1 hFc hP1 hD1
    generalize H1 = H at hP hS hc9 ⊢
    obtain ⟨rfl, hw⟩ := hw
    refine vx_catch (own := RL) (name := "java/lang/IllegalArgumentException") hown [] ⟨0, 9, 12, 13⟩ [] (hTb.trans rfl) (fun z hz => nomatch hz) (by decide) (by decide) (hts _ qaz0) (va_Nw.use rfl (hY.2.2.2.1.2 _ (List.mem_of_getElem? (i := 0) rfl))) hc9 hv9 hcl9 ?_
    refine lv_astore_n (lv' := [(3, .ref qx9), (0, .ref a0), (1, .int p1), (2, .ref a2)]) hx hb (qaa qrq 8 rfl) rfl hl (by decide) rfl (fun ls hl => ?_)
    refine lv_iconst (v := 1) hx hb (qaa qrq 9 rfl) (by decide) ?_
    exact (W.widen (k := 1) (n := 6) (nbq rfl) (nbq rfl) (W.iret (v := 1) hx hb hr (fun t ht hW => ⟨⟨1, (x1, f3, f2), rfl, hw, by rw [ht]; exact hP, va_K.moved hW.alike hK, hD⟩, hS.F ht⟩) hS.2.2 (qaa qrq 10 rfl)))
  obtain ⟨x1, f3⟩ := u
  obtain ⟨hP1, hK1, hD1⟩ := hB
  rw [ht] at hP1
  obtain ⟨hP, hD⟩ := va_join (wr := [(a2, .inl (cyJ, n2, .inr (.inl f2)))]) (w1 := (qNA a0 jaK jaR ja1 jcp jbc jbV ja3 jbH ja2 jbO jaq jac jbI jbl jbn jba jaa jbA x1 jaR jbs jbt jbo jbp jbk jbj jbf jmB jbE jgQ jbi jcd jbs cyI jci jbt cyI jcj jmB cyI f3)) hP hD [0, 1, 2, 3, 4] [5] rfl rfl (by decide) (by decide) hk1 hFc hP1 hD1
  have hP : va_P (dC, dI) vwCl (qZJ a0 jaK jaR ja1 jcp jbc jbV ja3 jbH ja2 jbO jaq jac jbI jbl jbn jba jaa jbA x1 jaR jbs jbt jbo jbp jbk jbj jbf jmB jbE jgQ jbi jcd jbs cyI jci jbt cyI jcj jmB cyI f3 a2 cyJ n2 f2) H1 := hP.sub [1, 2, 3, 4, 5, 0] rfl
  have hD : va_D A (qZJ a0 jaK jaR ja1 jcp jbc jbV ja3 jbH ja2 jbO jaq jac jbI jbl jbn jba jaa jbA x1 jaR jbs jbt jbo jbp jbk jbj jbf jmB jbE jgQ jbi jcd jbs cyI jci jbt cyI jcj jmB cyI f3 a2 cyJ n2 f2) := hD.sub [1, 2, 3, 4, 5, 0] (by decide) rfl
  generalize H1 = H at hP hS ⊢
  refine lv_i2l (v := r4.toInt64) hx hb (qaa qrq 5 rfl) rfl ?_
  refine lv_topl (fun x5 ex5 => ?_)
  have hw := hw x5 ex5
  obtain ⟨hi9, hw⟩ := hw
  refine va_last hx hb hK hP hD hS 5 2 rfl rfl hi9 (qaa qrq 6 rfl) (fun H locs hP hD hS => ?_)
  obtain ⟨f6, ef6⟩ : ∃ y : Nat → Int64, y = vp_updL f2 (0 : Int32).toNatClampNeg x5 := ⟨_, rfl⟩
  have hw := hw f6 ef6
  have hP : va_P (dC, dI) vwCl (qZJ a0 jaK jaR ja1 jcp jbc jbV ja3 jbH ja2 jbO jaq jac jbI jbl jbn jba jaa jbA x1 jaR jbs jbt jbo jbp jbk jbj jbf jmB jbE jgQ jbi jcd jbs cyI jci jbt cyI jcj jmB cyI f3 a2 cyJ n2 f6) H := by rw [ef6]; exact hP
  have hD : va_D A (qZJ a0 jaK jaR ja1 jcp jbc jbV ja3 jbH ja2 jbO jaq jac jbI jbl jbn jba jaa jbA x1 jaR jbs jbt jbo jbp jbk jbj jbf jmB jbE jgQ jbi jcd jbs cyI jci jbt cyI jcj jmB cyI f3 a2 cyJ n2 f6) := by rw [ef6]; exact hD
  refine lv_goto (tgt := 15) hx hb (qaa qrq 7 rfl) (by decide) ?_
  refine lv_iconst (v := 0) hx hb (qaa qrq 11 rfl) (by decide) ?_
  exact (W.widen (k := 1) (n := 6) (nbq rfl) (nbq rfl) (W.iret (v := 0) hx hb hr (fun t ht hW => ⟨⟨0, (x1, f3, f6), rfl, hw, by rw [ht]; exact hP, va_K.moved hW.alike hK, hD⟩, hS.F ht⟩) hS.2.2 (qaa qrq 12 rfl)))
theorem qt8 : ∀ w ∈ u_ws RX9 TX9 12, w ∈ wsX9_add := uiM q5p euX9 (by decide +kernel)
theorem qaSw : (.fieldLink RX9 11 "MarchHares$Work" "kinds" "[I" : Cond) ∈ wsX9_add := q5p 266 (by decide +kernel)
theorem qaQA : (.fieldLink RX9 15 "MarchHares$Work" "first" "[I" : Cond) ∈ wsX9_add := q5p 267 (by decide +kernel)
theorem qaO5 : (.fieldLink RX9 18 "MarchHares$Work" "second" "[I" : Cond) ∈ wsX9_add := q5p 268 (by decide +kernel)
theorem qaOe : (.fieldLink RX9 21 "MarchHares$Work" "third" "[I" : Cond) ∈ wsX9_add := q5p 269 (by decide +kernel)
theorem qzs : (.fieldLink RX9 37 "MarchHares$Work" "length" "I" : Cond) ∈ wsX9_add := q5p 1606 (by decide +kernel)
set_option maxHeartbeats 4000000 in
set_option maxRecDepth 100000 in
theorem qV0 (l : Launch) (dC : Nat → ClassId) (dI : Nat → Nat → Nat) (cyB cyI cyJ cyP : ClassId) (a0 jbU jgD jgh jho sz : Nat) (jme jkw joE ja4 ja0 jaH jaF : Value) (jdC jiX jiG jjg : NI) (jb7 p1 p2 p3 p4 : Int32) {Q : NI → NI → NI → NI → Int32 → Prop} (hw : qIE jdC jiX jiG jjg jb7 p1 p2 p3 p4 Q) : Met l yX9_add wsX9_add ({ frames := 0, cells := 0, slots := 0, locals := 0 }) (va_Pc [.ref a0, .int p1, .int p2, .int p3, .int p4] (cPc (dC, dI) (kT cyB cyI cyJ cyP) (qLn a0 jbU jgD jgh jho jme jkw jb7 joE ja4 ja0 jaH jaF jbU cyI jdC jgD cyI jiX jgh cyI jiG jho cyI jjg) sz)) (va_Qv (fun (u : NI × NI × NI × NI × Int32) => Q u.1 u.2.1 u.2.2.1 u.2.2.2.1 u.2.2.2.2) (cB (dC, dI) (kT cyB cyI cyJ cyP) (va_A (qLn a0 jbU jgD jgh jho jme jkw jb7 joE ja4 ja0 jaH jaF jbU cyI jdC jgD cyI jiX jgh cyI jiG jho cyI jjg) sz) (fun u : NI × NI × NI × NI × Int32 => ((qLn a0 jbU jgD jgh jho jme jkw u.2.2.2.2 joE ja4 ja0 jaH jaF jbU cyI u.1 jgD cyI u.2.1 jgh cyI u.2.2.1 jho cyI u.2.2.2.1) : va_W))) (va_A (qLn a0 jbU jgD jgh jho jme jkw jb7 joE ja4 ja0 jaH jaF jbU cyI jdC jgD cyI jiX jgh cyI jiG jho cyI jjg) sz)) 0 0 (va_A (qLn a0 jbU jgD jgh jho jme jkw jb7 joE ja4 ja0 jaH jaF jbU cyI jdC jgD cyI jiX jgh cyI jiG jho cyI jjg) sz) := by
  refine Met.ofW (cc := cX9_add) (maxL := 5) (ret := none) (by decide) rfl ?_
  intro p e s m args below meth c s₁ B hml hv
  obtain ⟨rfl, hsz, hP, hK, hD0, hNw⟩ := hv
  have hx := B.exec
  have hb := B.bytes
  have hr := B.returns
  have hts := atoms_spec (ws := wsX9_add) B.pre
  have hown : s.vm.findClass RX9 = some m.cls := findClass_of_methodNamed B.named
  have hlocks := B.notSynchronized
  subst hsz
  have hD := hD0.self (sz := s.heap.size)
  generalize hAe : va_A (qLn a0 jbU jgD jgh jho jme jkw jb7 joE ja4 ja0 jaH jaF jbU cyI jdC jgD cyI jiX jgh cyI jiG jho cyI jjg) s.heap.size = A at hD ⊢
  have hA : ∀ q : Nat, s.heap.size ≤ q → A q := fun q h => by rw [← hAe]; exact Or.inr h
  have hS : va_S A s.heap s.heap [] := va_S.rf
  have hP : va_P (dC, dI) vwCl (qLn a0 jbU jgD jgh jho jme jkw jb7 joE ja4 ja0 jaH jaF jbU cyI jdC jgD cyI jiX jgh cyI jiG jho cyI jjg) s.heap := hP
  have hl := lv_entry ([.ref a0, .int p1, .int p2, .int p3, .int p4]) (n := 5) (nbq rfl)
  rw [lg_entry_eq]
  generalize (lg_sl ([.ref a0, .int p1, .int p2, .int p3, .int p4]) ++ List.replicate (5 - (lg_sl ([.ref a0, .int p1, .int p2, .int p3, .int p4])).length) Slot.unset).toArray = ls at hl ⊢
  have hl : lv_has ls 5 [(0, .ref a0), (1, .int p1), (2, .int p2), (3, .int p3), (4, .int p4)] := hl
  have C0 : cfx p s m _ meth c cX9_add none wsX9_add RX9 5 A (dC, dI) (kT cyB cyI cyJ cyP) := ⟨hx, hb, hr, hts, hown, hlocks, hml, hA, hK, hNw⟩
  clear hAe
  obtain ⟨H, hH⟩ : ∃ H, H = s.heap := ⟨_, rfl⟩
  rw [← hH] at hP ⊢
  have hS : va_S A s.heap H [] := by rw [hH]; exact va_S.rf
  have hS := hS
  refine lv_aload_n hx hb (qaa qpU 0 rfl) rfl (lv_at hl 0 rfl) ?_
  refine va_get (D := (dC, dI)) (ci := 9) (v := .int jb7) (C := RX9) (T := TX9) (N := 12) hx hb hts qt8 hown hK hP 0 rfl rfl 6 (by decide) (hts _ qzs) (fun _ h9 => h9) rfl (qaa qpU 1 rfl) ?_
  refine lv_bipush (v := 50) hx hb (qaa qpU 2 rfl) (by decide) ?_
  refine lv_icmp_ge (tgt := 60) hx hb (qaa qpU 3 rfl) (by decide) (fun c1 => ?_) (fun c1 => ?_)
  · have hw := hw.1 c1
    exact ((W.vret hx hb hr (fun t ht hW => ⟨⟨(jdC, jiX, jiG, jjg, jb7), rfl, hw, by rw [ht]; exact hP, va_K.moved hW.alike hK, hD⟩, hS.F ht⟩) hS.2.2 (qaa qRV 2 rfl)))
  · have hw := hw.2 c1
    refine lv_aload_n hx hb (qaa qpU 4 rfl) rfl (lv_at hl 0 rfl) ?_
    refine va_get (D := (dC, dI)) (ci := 9) (v := .ref jbU) (C := RX9) (T := TX9) (N := 12) hx hb hts qt8 hown hK hP 0 rfl rfl 0 (by decide) (hts _ qaSw) (fun _ h9 => h9) rfl (qaa qpU 5 rfl) ?_
    refine lv_aload_n hx hb (qaa qpU 6 rfl) rfl (lv_at hl 0 rfl) ?_
    refine va_get (D := (dC, dI)) (ci := 9) (v := .int jb7) (C := RX9) (T := TX9) (N := 12) hx hb hts qt8 hown hK hP 0 rfl rfl 6 (by decide) (hts _ qzs) (fun _ h9 => h9) rfl (qaa qpU 7 rfl) ?_
    refine lv_iload_n hx hb (qaa qpU 8 rfl) rfl (lv_at hl 1 rfl) ?_
    obtain ⟨hi9, hw⟩ := hw
    refine va_iast hx hb hK hP hD hS 1 1 rfl rfl hi9 (qaa qpU 9 rfl) (fun H locs hP hD hS => ?_)
    obtain ⟨f2, ef2⟩ : ∃ y : NI, y = upd jdC jb7.toNatClampNeg p1 := ⟨_, rfl⟩
    have hw := hw f2 ef2
    have hP : va_P (dC, dI) vwCl (qLn a0 jbU jgD jgh jho jme jkw jb7 joE ja4 ja0 jaH jaF jbU cyI f2 jgD cyI jiX jgh cyI jiG jho cyI jjg) H := by rw [ef2]; exact hP
    have hD : va_D A (qLn a0 jbU jgD jgh jho jme jkw jb7 joE ja4 ja0 jaH jaF jbU cyI f2 jgD cyI jiX jgh cyI jiG jho cyI jjg) := by rw [ef2]; exact hD
    refine lv_aload_n hx hb (qaa qpU 10 rfl) rfl (lv_at hl 0 rfl) ?_
    refine va_get (D := (dC, dI)) (ci := 9) (v := .ref jgD) (C := RX9) (T := TX9) (N := 12) hx hb hts qt8 hown hK hP 0 rfl rfl 1 (by decide) (hts _ qaQA) (fun _ h9 => h9) rfl (qaa qpU 11 rfl) ?_
    refine lv_aload_n hx hb (qaa qpU 12 rfl) rfl (lv_at hl 0 rfl) ?_
    refine va_get (D := (dC, dI)) (ci := 9) (v := .int jb7) (C := RX9) (T := TX9) (N := 12) hx hb hts qt8 hown hK hP 0 rfl rfl 6 (by decide) (hts _ qzs) (fun _ h9 => h9) rfl (qaa qpU 13 rfl) ?_
    refine lv_iload_n hx hb (qaa qpU 14 rfl) rfl (lv_at hl 2 rfl) ?_
    obtain ⟨hi9, hw⟩ := hw
    refine va_iast hx hb hK hP hD hS 2 1 rfl rfl hi9 (qaa qpU 15 rfl) (fun H locs hP hD hS => ?_)
    obtain ⟨f3, ef3⟩ : ∃ y : NI, y = upd jiX jb7.toNatClampNeg p2 := ⟨_, rfl⟩
    have hw := hw f3 ef3
    have hP : va_P (dC, dI) vwCl (qLn a0 jbU jgD jgh jho jme jkw jb7 joE ja4 ja0 jaH jaF jbU cyI f2 jgD cyI f3 jgh cyI jiG jho cyI jjg) H := by rw [ef3]; exact hP
    have hD : va_D A (qLn a0 jbU jgD jgh jho jme jkw jb7 joE ja4 ja0 jaH jaF jbU cyI f2 jgD cyI f3 jgh cyI jiG jho cyI jjg) := by rw [ef3]; exact hD
    refine lv_aload_n hx hb (qaa qox 0 rfl) rfl (lv_at hl 0 rfl) ?_
    refine va_get (D := (dC, dI)) (ci := 9) (v := .ref jgh) (C := RX9) (T := TX9) (N := 12) hx hb hts qt8 hown hK hP 0 rfl rfl 2 (by decide) (hts _ qaO5) (fun _ h9 => h9) rfl (qaa qox 1 rfl) ?_
    refine lv_aload_n hx hb (qaa qox 2 rfl) rfl (lv_at hl 0 rfl) ?_
    refine va_get (D := (dC, dI)) (ci := 9) (v := .int jb7) (C := RX9) (T := TX9) (N := 12) hx hb hts qt8 hown hK hP 0 rfl rfl 6 (by decide) (hts _ qzs) (fun _ h9 => h9) rfl (qaa qox 3 rfl) ?_
    refine lv_iload_n hx hb (qaa qox 4 rfl) rfl (lv_at hl 3 rfl) ?_
    obtain ⟨hi9, hw⟩ := hw
    refine va_iast hx hb hK hP hD hS 3 1 rfl rfl hi9 (qaa qox 5 rfl) (fun H locs hP hD hS => ?_)
    obtain ⟨f4, ef4⟩ : ∃ y : NI, y = upd jiG jb7.toNatClampNeg p3 := ⟨_, rfl⟩
    have hw := hw f4 ef4
    have hP : va_P (dC, dI) vwCl (qLn a0 jbU jgD jgh jho jme jkw jb7 joE ja4 ja0 jaH jaF jbU cyI f2 jgD cyI f3 jgh cyI f4 jho cyI jjg) H := by rw [ef4]; exact hP
    have hD : va_D A (qLn a0 jbU jgD jgh jho jme jkw jb7 joE ja4 ja0 jaH jaF jbU cyI f2 jgD cyI f3 jgh cyI f4 jho cyI jjg) := by rw [ef4]; exact hD
    refine lv_aload_n hx hb (qaa qox 6 rfl) rfl (lv_at hl 0 rfl) ?_
    refine va_get (D := (dC, dI)) (ci := 9) (v := .ref jho) (C := RX9) (T := TX9) (N := 12) hx hb hts qt8 hown hK hP 0 rfl rfl 3 (by decide) (hts _ qaOe) (fun _ h9 => h9) rfl (qaa qox 7 rfl) ?_
    refine lv_aload_n hx hb (qaa qox 8 rfl) rfl (lv_at hl 0 rfl) ?_
    refine va_get (D := (dC, dI)) (ci := 9) (v := .int jb7) (C := RX9) (T := TX9) (N := 12) hx hb hts qt8 hown hK hP 0 rfl rfl 6 (by decide) (hts _ qzs) (fun _ h9 => h9) rfl (qaa qox 9 rfl) ?_
    refine lv_iload hx hb (qaa qox 10 rfl) (lv_at hl 4 rfl) ?_
    obtain ⟨hi9, hw⟩ := hw
    refine va_iast hx hb hK hP hD hS 4 1 rfl rfl hi9 (qaa qox 11 rfl) (fun H locs hP hD hS => ?_)
    obtain ⟨f5, ef5⟩ : ∃ y : NI, y = upd jjg jb7.toNatClampNeg p4 := ⟨_, rfl⟩
    have hw := hw f5 ef5
    have hP : va_P (dC, dI) vwCl (qLn a0 jbU jgD jgh jho jme jkw jb7 joE ja4 ja0 jaH jaF jbU cyI f2 jgD cyI f3 jgh cyI f4 jho cyI f5) H := by rw [ef5]; exact hP
    have hD : va_D A (qLn a0 jbU jgD jgh jho jme jkw jb7 joE ja4 ja0 jaH jaF jbU cyI f2 jgD cyI f3 jgh cyI f4 jho cyI f5) := by rw [ef5]; exact hD
    refine lv_aload_n hx hb (qaa qox 12 rfl) rfl (lv_at hl 0 rfl) ?_
    refine lv_dup hx hb (qaa qox 13 rfl) rfl ?_
    refine va_get (D := (dC, dI)) (ci := 9) (v := .int jb7) (C := RX9) (T := TX9) (N := 12) hx hb hts qt8 hown hK hP 0 rfl rfl 6 (by decide) (hts _ qzs) (fun _ h9 => h9) rfl (qaa qox 14 rfl) ?_
    refine lv_iconst (v := 1) hx hb (qaa qox 15 rfl) (by decide) ?_
    refine lv_iadd hx hb (qaa qRV 0 rfl) ?_
    refine lv_topi (fun x6 ex6 => ?_)
    have hw := hw x6 ex6
    refine va_put (D := (dC, dI)) (ci := 9) (v := .int x6) (ty := .int) (C := RX9) (T := TX9) (N := 12) hx hb hts qt8 tyX9 tyX9_ok nmX9 hown hK hP hD hS 0 rfl rfl 6 (by decide) (hts _ qzs) (fun _ h9 => h9) rfl (by decide +kernel) rfl rfl (nbq rfl) (qaa qRV 1 rfl) (fun H locs hP hD hS => ?_)
    have hP : va_P (dC, dI) vwCl (qLn a0 jbU jgD jgh jho jme jkw x6 joE ja4 ja0 jaH jaF jbU cyI f2 jgD cyI f3 jgh cyI f4 jho cyI f5) H := hP
    have hD : va_D A (qLn a0 jbU jgD jgh jho jme jkw x6 joE ja4 ja0 jaH jaF jbU cyI f2 jgD cyI f3 jgh cyI f4 jho cyI f5) := hD
    exact ((W.vret hx hb hr (fun t ht hW => ⟨⟨(f2, f3, f4, f5, x6), rfl, hw, by rw [ht]; exact hP, va_K.moved hW.alike hK, hD⟩, hS.F ht⟩) hS.2.2 (qaa qRV 2 rfl)))
theorem qup : ∀ w ∈ u_ws RX9 TX9 12, w ∈ wsX9_closeLoop := uiM qxM euX9 (by decide +kernel)
theorem qabO : (.fieldLink RX9 18 "MarchHares$Work" "second" "[I" : Cond) ∈ wsX9_closeLoop := qxM 268 (by decide +kernel)
theorem qabZ : (.fieldLink RX9 24 "MarchHares$Work" "heads" "[I" : Cond) ∈ wsX9_closeLoop := qxM 270 (by decide +kernel)
theorem q96 : (.fieldLink RX9 37 "MarchHares$Work" "length" "I" : Cond) ∈ wsX9_closeLoop := qxM 1606 (by decide +kernel)
theorem qFO : (.fieldLink RX9 40 "MarchHares$Work" "open" "I" : Cond) ∈ wsX9_closeLoop := qxM 1607 (by decide +kernel)
set_option maxHeartbeats 4000000 in
set_option maxRecDepth 100000 in
theorem qR4 {p : Program} {l : Launch} {e : Env} {s : State} {m : MethodId} {args : Array Value} {below : List Frame} {meth : Method} {c : Code} {A : Nat → Prop} (dC : Nat → ClassId) (dI : Nat → Nat → Nat) (cyB cyI cyJ cyP : ClassId) (a0 jju jgh jbU jgD jho : Nat) (jkw ja4 ja0 jaH jaF : Value) (jlb : NI) (Q : Int32 → NI → NI → NI → NI → Int32 → Prop) (C0 : cfx p s m args meth c cX9_closeLoop none wsX9_closeLoop RX9 2 A (dC, dI) (kT cyB cyI cyJ cyP)) : ∀ (H : Heap) (locs : List Loc) (ls : Array Slot) (jjF : Int32) (jiG jdC jiX jjg : NI) (jb7 l1 : Int32), va_P (dC, dI) vwCl (qLR a0 jbU jgD jgh jho jju jkw jb7 jjF ja4 ja0 jaH jaF jju cyI jlb jgh cyI jiG jbU cyI jdC jgD cyI jiX jho cyI jjg) H → va_D A (qLR a0 jbU jgD jgh jho jju jkw jb7 jjF ja4 ja0 jaH jaF jju cyI jlb jgh cyI jiG jbU cyI jdC jgD cyI jiX jho cyI jjg) → va_S A s.heap H locs → lv_has ls 2 [(0, .ref a0), (1, .int l1)] → qHj jlb Q jjF jiG jdC jiX jjg jb7 l1 → W p l e (headSpec wsX9_closeLoop ({ frames := 1, cells := 0, slots := 0, locals := 24 })).room s m args below meth c H locs 0 0 (MQ below (va_Qv (fun (u : Int32 × NI × NI × NI × NI × Int32) => Q u.1 u.2.1 u.2.2.1 u.2.2.2.1 u.2.2.2.2.1 u.2.2.2.2.2) (cB (dC, dI) (kT cyB cyI cyJ cyP) A (fun u : Int32 × NI × NI × NI × NI × Int32 => ((qLR a0 jbU jgD jgh jho jju jkw u.2.2.2.2.2 u.1 ja4 ja0 jaH jaF jju cyI jlb jgh cyI u.2.1 jbU cyI u.2.2.1 jgD cyI u.2.2.2.1 jho cyI u.2.2.2.2.1) : va_W))) A) args s 0 0 A) (F0 m 36 ls []) := by
  obtain ⟨hx, hb, hr, hts, hown, hlocks, hml, hA, hK, hNw⟩ := id C0
  intro H locs ls jjF jiG jdC jiX jjg jb7 l1 hP hD hS hl hw
  refine lv_aload_n hx hb (qaa qig 5 rfl) rfl (lv_at hl 0 rfl) ?_
  refine lv_iconst (v := 5) hx hb (qaa qig 6 rfl) (by decide) ?_
  refine lv_iload_n hx hb (qaa qig 7 rfl) rfl (lv_at hl 1 rfl) ?_
  refine lv_iconst (v := 0) hx hb (qaa qig 8 rfl) (by decide) ?_
  refine lv_iconst (v := 0) hx hb (qaa qig 9 rfl) (by decide) ?_
  obtain ⟨hCc, hPc, hDc, hFc⟩ := qac (ws' := (qa1i a0 jbU jgD jgh jho jju jkw jb7 jjF ja4 ja0 jaH jaF jbU cyI jdC jgD cyI jiX jgh cyI jiG jho cyI jjg)) hP hD hS hA [0, 3, 4, 2, 5] (by decide +kernel) rfl
  refine va_callv (va_runV (As := [.int 5, .int l1, .int 0, .int 0]) (rest := []) ⟨hx, hb, hml, hown, hts⟩ (qV0 l dC dI cyB cyI cyJ cyP a0 jbU jgD jgh jho H.size (.ref jju) (jkw) (.int jjF) (ja4) (ja0) (jaH) (jaF) jdC jiX jiG jjg jb7 5 l1 0 0 hw) (cwV 4 hts gX9_closeLoop_X9_add rfl rfl rfl (by decide +kernel) ⟨nbq rfl, nbq rfl⟩) ⟨qab, va_recv (q := (RX9, TX9, 12)) hK hPc (ci := 9) (q0 := 0) rfl rfl, qae hPc hK hDc hNw⟩ rfl rfl hl.1 rfl (lv_room (nbq rfl)) (qaa qig 10 rfl) ⟨nbq rfl, nbq rfl⟩) hS (fun q _ h => hFc q h) hFc (fun u t H1 locs ht hvm hw hB hz1 hk1 hS => ?_)
  obtain ⟨f5, f6, f7, f8, x9⟩ := u
  obtain ⟨hP1, hK1, hD1⟩ := hB
  rw [ht] at hP1
  obtain ⟨hP, hD⟩ := qad (wr := (qa5Y jju cyI jlb)) (w1 := (qa1i a0 jbU jgD jgh jho jju jkw x9 jjF ja4 ja0 jaH jaF jbU cyI f5 jgD cyI f6 jgh cyI f7 jho cyI f8)) (wn := (qLR a0 jbU jgD jgh jho jju jkw x9 jjF ja4 ja0 jaH jaF jju cyI jlb jgh cyI f7 jbU cyI f5 jgD cyI f6 jho cyI f8)) hP hD [0, 3, 4, 2, 5] [1] [1, 0, 4, 2, 3, 5] hCc rfl (by decide +kernel) (by decide +kernel) (by decide +kernel) rfl hk1 hFc hP1 hD1
  generalize H1 = H at hP hS ⊢
  exact ((W.vret hx hb hr (fun t ht hW => ⟨⟨(jjF, f7, f5, f6, f8, x9), rfl, hw, by rw [ht]; exact hP, va_K.moved hW.alike hK, hD⟩, hS.F ht⟩) hS.2.2 (qaa qig 11 rfl)))
set_option maxHeartbeats 4000000 in
set_option maxRecDepth 100000 in
theorem qaC4 (l : Launch) (dC : Nat → ClassId) (dI : Nat → Nat → Nat) (cyB cyI cyJ cyP : ClassId) (a0 jju jgh jbU jgD jho sz : Nat) (jkw ja4 ja0 jaH jaF : Value) (jlb : NI) (jjF : Int32) (jiG jdC jiX jjg : NI) (jb7 : Int32) {Q : Int32 → NI → NI → NI → NI → Int32 → Prop} (hw : q3l jlb jjF jiG jdC jiX jjg jb7 Q) : Met l yX9_closeLoop wsX9_closeLoop ({ frames := 1, cells := 0, slots := 0, locals := 24 }) (va_Pc [.ref a0] (cPc (dC, dI) (kT cyB cyI cyJ cyP) (qLR a0 jbU jgD jgh jho jju jkw jb7 jjF ja4 ja0 jaH jaF jju cyI jlb jgh cyI jiG jbU cyI jdC jgD cyI jiX jho cyI jjg) sz)) (va_Qv (fun (u : Int32 × NI × NI × NI × NI × Int32) => Q u.1 u.2.1 u.2.2.1 u.2.2.2.1 u.2.2.2.2.1 u.2.2.2.2.2) (cB (dC, dI) (kT cyB cyI cyJ cyP) (va_A (qLR a0 jbU jgD jgh jho jju jkw jb7 jjF ja4 ja0 jaH jaF jju cyI jlb jgh cyI jiG jbU cyI jdC jgD cyI jiX jho cyI jjg) sz) (fun u : Int32 × NI × NI × NI × NI × Int32 => ((qLR a0 jbU jgD jgh jho jju jkw u.2.2.2.2.2 u.1 ja4 ja0 jaH jaF jju cyI jlb jgh cyI u.2.1 jbU cyI u.2.2.1 jgD cyI u.2.2.2.1 jho cyI u.2.2.2.2.1) : va_W))) (va_A (qLR a0 jbU jgD jgh jho jju jkw jb7 jjF ja4 ja0 jaH jaF jju cyI jlb jgh cyI jiG jbU cyI jdC jgD cyI jiX jho cyI jjg) sz)) 0 0 (va_A (qLR a0 jbU jgD jgh jho jju jkw jb7 jjF ja4 ja0 jaH jaF jju cyI jlb jgh cyI jiG jbU cyI jdC jgD cyI jiX jho cyI jjg) sz) := by
  refine Met.ofW (cc := cX9_closeLoop) (maxL := 2) (ret := none) (by decide) rfl ?_
  intro p e s m args below meth c s₁ B hml hv
  obtain ⟨rfl, hsz, hP, hK, hD0, hNw⟩ := hv
  have hx := B.exec
  have hb := B.bytes
  have hr := B.returns
  have hts := atoms_spec (ws := wsX9_closeLoop) B.pre
  have hown : s.vm.findClass RX9 = some m.cls := findClass_of_methodNamed B.named
  have hlocks := B.notSynchronized
  subst hsz
  have hD := hD0.self (sz := s.heap.size)
  generalize hAe : va_A (qLR a0 jbU jgD jgh jho jju jkw jb7 jjF ja4 ja0 jaH jaF jju cyI jlb jgh cyI jiG jbU cyI jdC jgD cyI jiX jho cyI jjg) s.heap.size = A at hD ⊢
  have hA : ∀ q : Nat, s.heap.size ≤ q → A q := fun q h => by rw [← hAe]; exact Or.inr h
  have hS : va_S A s.heap s.heap [] := va_S.rf
  have hP : va_P (dC, dI) vwCl (qLR a0 jbU jgD jgh jho jju jkw jb7 jjF ja4 ja0 jaH jaF jju cyI jlb jgh cyI jiG jbU cyI jdC jgD cyI jiX jho cyI jjg) s.heap := hP
  have hl := lv_entry ([.ref a0]) (n := 2) (nbq rfl)
  rw [lg_entry_eq]
  generalize (lg_sl ([.ref a0]) ++ List.replicate (2 - (lg_sl ([.ref a0])).length) Slot.unset).toArray = ls at hl ⊢
  have hl : lv_has ls 2 [(0, .ref a0)] := hl
  have C0 : cfx p s m _ meth c cX9_closeLoop none wsX9_closeLoop RX9 2 A (dC, dI) (kT cyB cyI cyJ cyP) := ⟨hx, hb, hr, hts, hown, hlocks, hml, hA, hK, hNw⟩
  clear hAe
  obtain ⟨H, hH⟩ : ∃ H, H = s.heap := ⟨_, rfl⟩
  rw [← hH] at hP ⊢
  have hS : va_S A s.heap H [] := by rw [hH]; exact va_S.rf
  have hS := hS
  refine lv_aload_n hx hb (qaa qeD 0 rfl) rfl (lv_at hl 0 rfl) ?_
  refine lv_dup hx hb (qaa qeD 1 rfl) rfl ?_
  refine va_get (D := (dC, dI)) (ci := 9) (v := .int jjF) (C := RX9) (T := TX9) (N := 12) hx hb hts qup hown hK hP 0 rfl rfl 7 (by decide) (hts _ qFO) (fun _ h9 => h9) rfl (qaa qeD 2 rfl) ?_
  refine lv_iconst (v := 1) hx hb (qaa qeD 3 rfl) (by decide) ?_
  refine lv_isub hx hb (qaa qeD 4 rfl) ?_
  refine lv_topi (fun x1 ex1 => ?_)
  have hw := hw x1 ex1
  refine va_put (D := (dC, dI)) (ci := 9) (v := .int x1) (ty := .int) (C := RX9) (T := TX9) (N := 12) hx hb hts qup tyX9 tyX9_ok nmX9 hown hK hP hD hS 0 rfl rfl 7 (by decide) (hts _ qFO) (fun _ h9 => h9) rfl (by decide +kernel) rfl rfl (nbq rfl) (qaa qeD 5 rfl) (fun H locs hP hD hS => ?_)
  have hP : va_P (dC, dI) vwCl (qLR a0 jbU jgD jgh jho jju jkw jb7 x1 ja4 ja0 jaH jaF jju cyI jlb jgh cyI jiG jbU cyI jdC jgD cyI jiX jho cyI jjg) H := hP
  have hD : va_D A (qLR a0 jbU jgD jgh jho jju jkw jb7 x1 ja4 ja0 jaH jaF jju cyI jlb jgh cyI jiG jbU cyI jdC jgD cyI jiX jho cyI jjg) := hD
  refine lv_aload_n hx hb (qaa qeD 6 rfl) rfl (lv_at hl 0 rfl) ?_
  refine va_get (D := (dC, dI)) (ci := 9) (v := .ref jju) (C := RX9) (T := TX9) (N := 12) hx hb hts qup hown hK hP 0 rfl rfl 4 (by decide) (hts _ qabZ) (fun _ h9 => h9) rfl (qaa qeD 7 rfl) ?_
  refine lv_aload_n hx hb (qaa qeD 8 rfl) rfl (lv_at hl 0 rfl) ?_
  refine va_get (D := (dC, dI)) (ci := 9) (v := .int x1) (C := RX9) (T := TX9) (N := 12) hx hb hts qup hown hK hP 0 rfl rfl 7 (by decide) (hts _ qFO) (fun _ h9 => h9) rfl (qaa qeD 9 rfl) ?_
  obtain ⟨hi9, hw⟩ := hw
  refine va_iald hx hb hK hP 1 1 rfl rfl hi9 (qaa qeD 10 rfl) ?_
  refine lv_topi (fun x2 ex2 => ?_)
  have hw := hw x2 ex2
  refine lv_istore_n (lv' := [(1, .int x2), (0, .ref a0)]) hx hb (qaa qeD 11 rfl) rfl hl (by decide) rfl (fun ls hl => ?_)
  refine lv_iload_n hx hb (qaa qeD 12 rfl) rfl (lv_at hl 0 rfl) ?_
  refine lv_bipush (v := 50) hx hb (qaa qeD 13 rfl) (by decide) ?_
  refine lv_icmp_ge (tgt := 36) hx hb (qaa qeD 14 rfl) (by decide) (fun c3 => ?_) (fun c3 => ?_)
  · have hw := hw.1 c3
    exact qR4 dC dI cyB cyI cyJ cyP a0 jju jgh jbU jgD jho jkw ja4 ja0 jaH jaF jlb Q C0 _ _ _ x1 jiG jdC jiX jjg jb7 x2 hP hD hS (lv_sub hl [1, 0] rfl) hw
  · have hw := hw.2 c3
    refine lv_aload_n hx hb (qaa qeD 15 rfl) rfl (lv_at hl 1 rfl) ?_
    refine va_get (D := (dC, dI)) (ci := 9) (v := .ref jgh) (C := RX9) (T := TX9) (N := 12) hx hb hts qup hown hK hP 0 rfl rfl 2 (by decide) (hts _ qabO) (fun _ h9 => h9) rfl (qaa qig 0 rfl) ?_
    refine lv_iload_n hx hb (qaa qig 1 rfl) rfl (lv_at hl 0 rfl) ?_
    refine lv_aload_n hx hb (qaa qig 2 rfl) rfl (lv_at hl 1 rfl) ?_
    refine va_get (D := (dC, dI)) (ci := 9) (v := .int jb7) (C := RX9) (T := TX9) (N := 12) hx hb hts qup hown hK hP 0 rfl rfl 6 (by decide) (hts _ q96) (fun _ h9 => h9) rfl (qaa qig 3 rfl) ?_
    obtain ⟨hi9, hw⟩ := hw
    refine va_iast hx hb hK hP hD hS 2 1 rfl rfl hi9 (qaa qig 4 rfl) (fun H locs hP hD hS => ?_)
    obtain ⟨f4, ef4⟩ : ∃ y : NI, y = upd jiG x2.toNatClampNeg jb7 := ⟨_, rfl⟩
    have hw := hw f4 ef4
    have hP : va_P (dC, dI) vwCl (qLR a0 jbU jgD jgh jho jju jkw jb7 x1 ja4 ja0 jaH jaF jju cyI jlb jgh cyI f4 jbU cyI jdC jgD cyI jiX jho cyI jjg) H := by rw [ef4]; exact hP
    have hD : va_D A (qLR a0 jbU jgD jgh jho jju jkw jb7 x1 ja4 ja0 jaH jaF jju cyI jlb jgh cyI f4 jbU cyI jdC jgD cyI jiX jho cyI jjg) := by rw [ef4]; exact hD
    exact qR4 dC dI cyB cyI cyJ cyP a0 jju jgh jbU jgD jho jkw ja4 ja0 jaH jaF jlb Q C0 _ _ _ x1 f4 jdC jiX jjg jb7 x2 hP hD hS (lv_sub hl [1, 0] rfl) hw
theorem qvC : ∀ w ∈ u_ws RX9 TX9 12, w ∈ wsX9_openLoop := uiM qqR euX9 (by decide +kernel)
theorem qaeR : (.fieldLink RX9 24 "MarchHares$Work" "heads" "[I" : Cond) ∈ wsX9_openLoop := qqR 270 (by decide +kernel)
theorem qahc : (.fieldLink RX9 37 "MarchHares$Work" "length" "I" : Cond) ∈ wsX9_openLoop := qqR 1606 (by decide +kernel)
theorem qA9 : (.fieldLink RX9 40 "MarchHares$Work" "open" "I" : Cond) ∈ wsX9_openLoop := qqR 1607 (by decide +kernel)
set_option maxHeartbeats 4000000 in
set_option maxRecDepth 100000 in
theorem qaGX (l : Launch) (dC : Nat → ClassId) (dI : Nat → Nat → Nat) (cyB cyI cyJ cyP : ClassId) (a0 a1 jbF jju jbU jgD jgh jho sz : Nat) (jkw ja4 ja0 jaH jaF jcI : Value) (jb5 : Int32) (jcq : NI) (jhS jcU jbM jeF : Int32) (jlb : NI) (jjF : Int32) (jdC jiX jiG jjg : NI) (jb7 : Int32) {Q : Int32 → Int32 → Int32 → Int32 → NI → Int32 → NI → NI → NI → NI → Int32 → Prop} (hw : q8p jb5 jcq jhS jcU jbM jeF jlb jjF jdC jiX jiG jjg jb7 Q) : Met l yX9_openLoop wsX9_openLoop ({ frames := 3, cells := 0, slots := 0, locals := 63 }) (va_Pc [.ref a0, .ref a1] (cPc (dC, dI) (kT cyB cyI cyJ cyP) (qFA a0 jbU jgD jgh jho jju jkw jb7 jjF ja4 ja0 jaH jaF a1 jbF jb5 jhS jeF jcI jcU jbM jbF cyB jcq jju cyI jlb jbU cyI jdC jgD cyI jiX jgh cyI jiG jho cyI jjg) sz)) (va_Qv (fun (u : Int32 × Int32 × Int32 × Int32 × NI × Int32 × NI × NI × NI × NI × Int32) => Q u.1 u.2.1 u.2.2.1 u.2.2.2.1 u.2.2.2.2.1 u.2.2.2.2.2.1 u.2.2.2.2.2.2.1 u.2.2.2.2.2.2.2.1 u.2.2.2.2.2.2.2.2.1 u.2.2.2.2.2.2.2.2.2.1 u.2.2.2.2.2.2.2.2.2.2) (cB (dC, dI) (kT cyB cyI cyJ cyP) (va_A (qFA a0 jbU jgD jgh jho jju jkw jb7 jjF ja4 ja0 jaH jaF a1 jbF jb5 jhS jeF jcI jcU jbM jbF cyB jcq jju cyI jlb jbU cyI jdC jgD cyI jiX jgh cyI jiG jho cyI jjg) sz) (fun u : Int32 × Int32 × Int32 × Int32 × NI × Int32 × NI × NI × NI × NI × Int32 => ((qFA a0 jbU jgD jgh jho jju jkw u.2.2.2.2.2.2.2.2.2.2 u.2.2.2.2.2.1 ja4 ja0 jaH jaF a1 jbF jb5 u.1 u.2.2.2.1 jcI u.2.1 u.2.2.1 jbF cyB jcq jju cyI u.2.2.2.2.1 jbU cyI u.2.2.2.2.2.2.1 jgD cyI u.2.2.2.2.2.2.2.1 jgh cyI u.2.2.2.2.2.2.2.2.1 jho cyI u.2.2.2.2.2.2.2.2.2.1) : va_W))) (va_A (qFA a0 jbU jgD jgh jho jju jkw jb7 jjF ja4 ja0 jaH jaF a1 jbF jb5 jhS jeF jcI jcU jbM jbF cyB jcq jju cyI jlb jbU cyI jdC jgD cyI jiX jgh cyI jiG jho cyI jjg) sz)) 0 0 (va_A (qFA a0 jbU jgD jgh jho jju jkw jb7 jjF ja4 ja0 jaH jaF a1 jbF jb5 jhS jeF jcI jcU jbM jbF cyB jcq jju cyI jlb jbU cyI jdC jgD cyI jiX jgh cyI jiG jho cyI jjg) sz) := by
  refine Met.ofW (cc := cX9_openLoop) (maxL := 3) (ret := none) (by decide) rfl ?_
  intro p e s m args below meth c s₁ B hml hv
  obtain ⟨rfl, hsz, hP, hK, hD0, hNw⟩ := hv
  have hx := B.exec
  have hb := B.bytes
  have hr := B.returns
  have hts := atoms_spec (ws := wsX9_openLoop) B.pre
  have hown : s.vm.findClass RX9 = some m.cls := findClass_of_methodNamed B.named
  have hlocks := B.notSynchronized
  subst hsz
  have hD := hD0.self (sz := s.heap.size)
  generalize hAe : va_A (qFA a0 jbU jgD jgh jho jju jkw jb7 jjF ja4 ja0 jaH jaF a1 jbF jb5 jhS jeF jcI jcU jbM jbF cyB jcq jju cyI jlb jbU cyI jdC jgD cyI jiX jgh cyI jiG jho cyI jjg) s.heap.size = A at hD ⊢
  have hA : ∀ q : Nat, s.heap.size ≤ q → A q := fun q h => by rw [← hAe]; exact Or.inr h
  have hS : va_S A s.heap s.heap [] := va_S.rf
  have hP : va_P (dC, dI) vwCl (qFA a0 jbU jgD jgh jho jju jkw jb7 jjF ja4 ja0 jaH jaF a1 jbF jb5 jhS jeF jcI jcU jbM jbF cyB jcq jju cyI jlb jbU cyI jdC jgD cyI jiX jgh cyI jiG jho cyI jjg) s.heap := hP
  have hl := lv_entry ([.ref a0, .ref a1]) (n := 3) (nbq rfl)
  rw [lg_entry_eq]
  generalize (lg_sl ([.ref a0, .ref a1]) ++ List.replicate (3 - (lg_sl ([.ref a0, .ref a1])).length) Slot.unset).toArray = ls at hl ⊢
  have hl : lv_has ls 3 [(0, .ref a0), (1, .ref a1)] := hl
  have C0 : cfx p s m _ meth c cX9_openLoop none wsX9_openLoop RX9 3 A (dC, dI) (kT cyB cyI cyJ cyP) := ⟨hx, hb, hr, hts, hown, hlocks, hml, hA, hK, hNw⟩
  clear hAe
  obtain ⟨H, hH⟩ : ∃ H, H = s.heap := ⟨_, rfl⟩
  rw [← hH] at hP ⊢
  have hS : va_S A s.heap H [] := by rw [hH]; exact va_S.rf
  have hS := hS
  refine lv_aload_n hx hb (qaa qfN 0 rfl) rfl (lv_at hl 0 rfl) ?_
  refine va_get (D := (dC, dI)) (ci := 9) (v := .int jjF) (C := RX9) (T := TX9) (N := 12) hx hb hts qvC hown hK hP 0 rfl rfl 7 (by decide) (hts _ qA9) (fun _ h9 => h9) rfl (qaa qfN 1 rfl) ?_
  refine lv_bipush (v := 6) hx hb (qaa qfN 2 rfl) (by decide) ?_
  refine lv_icmp_lt (tgt := 15) hx hb (qaa qfN 3 rfl) (by decide) (fun c1 => ?_) (fun c1 => ?_)
  · have hw := hw.1 c1
    refine lv_aload_n hx hb (qaa qfN 8 rfl) rfl (lv_at hl 1 rfl) ?_
    refine lv_iconst (v := 0) hx hb (qaa qfN 9 rfl) (by decide) ?_
    refine lv_bipush (v := 40) hx hb (qaa qfN 10 rfl) (by decide) ?_
    obtain ⟨hCc, hPc, hDc, hFc⟩ := qac (ws' := (qaRI a1 jbF jb5 jhS jeF jcI jcU jbM jbF cyB jcq)) hP hD hS hA [1, 2] (by decide +kernel) rfl
    refine va_calli (va_runV (As := [.int 0, .int 40]) (rest := []) ⟨hx, hb, hml, hown, hts⟩ (qh9 l dC dI cyB cyI cyJ cyP a1 jbF H.size (jcI) jb5 jcq jhS jcU jbM jeF 0 40 hw) (cwV 2 hts gX9_openLoop_X8_number rfl rfl rfl (by decide +kernel) ⟨nbq rfl, nbq rfl⟩) ⟨qab, va_recv (q := (RX8, TX8, 7)) hK hPc (ci := 8) (q0 := 0) rfl rfl, qae hPc hK hDc hNw⟩ rfl rfl hl.1 rfl (lv_room (nbq rfl)) (qaa qfN 11 rfl) ⟨nbq rfl, nbq rfl⟩) hS (fun q _ h => hFc q h) hFc (fun r6 u t H1 locs ht hvm hw hB hz1 hk1 hS => ?_)
    obtain ⟨x2, x3, x4, x5⟩ := u
    obtain ⟨hP1, hK1, hD1⟩ := hB
    rw [ht] at hP1
    obtain ⟨hP, hD⟩ := qad (wr := (qLR a0 jbU jgD jgh jho jju jkw jb7 jjF ja4 ja0 jaH jaF jju cyI jlb jbU cyI jdC jgD cyI jiX jgh cyI jiG jho cyI jjg)) (w1 := (qaRI a1 jbF jb5 x2 x5 jcI x3 x4 jbF cyB jcq)) (wn := (qFA a0 jbU jgD jgh jho jju jkw jb7 jjF ja4 ja0 jaH jaF a1 jbF jb5 x2 x5 jcI x3 x4 jbF cyB jcq jju cyI jlb jbU cyI jdC jgD cyI jiX jgh cyI jiG jho cyI jjg)) hP hD [1, 2] [0, 3, 4, 5, 6, 7] [0, 6, 7, 1, 2, 3, 4, 5] hCc rfl (by decide +kernel) (by decide +kernel) (by decide +kernel) rfl hk1 hFc hP1 hD1
    generalize H1 = H at hP hS ⊢
    refine lv_istore_n (lv' := [(2, .int r6), (0, .ref a0), (1, .ref a1)]) hx hb (qaa qfN 12 rfl) rfl hl (by decide) rfl (fun ls hl => ?_)
    refine lv_aload_n hx hb (qaa qfN 13 rfl) rfl (lv_at hl 2 rfl) ?_
    refine lv_bipush (v := 91) hx hb (qaa qfN 14 rfl) (by decide) ?_
    obtain ⟨hCc, hPc, hDc, hFc⟩ := qac (ws' := (qaRI a1 jbF jb5 x2 x5 jcI x3 x4 jbF cyB jcq)) hP hD hS hA [1, 2] (by decide +kernel) rfl
    refine va_callv (va_runV (As := [.int 91]) (rest := []) ⟨hx, hb, hml, hown, hts⟩ (qtf l dC dI cyB cyI cyJ cyP a1 jbF H.size (jcI) jb5 jcq x2 x5 x3 x4 91 hw) (cwV 1 hts gX9_openLoop_X8_needs rfl rfl rfl (by decide +kernel) ⟨nbq rfl, nbq rfl⟩) ⟨qab, va_recv (q := (RX8, TX8, 7)) hK hPc (ci := 8) (q0 := 0) rfl rfl, qae hPc hK hDc hNw⟩ rfl rfl hl.1 rfl (lv_room (nbq rfl)) (qaa qfN 15 rfl) ⟨nbq rfl, nbq rfl⟩) hS (fun q _ h => hFc q h) hFc (fun u t H1 locs ht hvm hw hB hz1 hk1 hS => ?_)
    obtain ⟨x7, x8, x9, x10⟩ := u
    obtain ⟨hP1, hK1, hD1⟩ := hB
    rw [ht] at hP1
    obtain ⟨hP, hD⟩ := qad (wr := (qLR a0 jbU jgD jgh jho jju jkw jb7 jjF ja4 ja0 jaH jaF jju cyI jlb jbU cyI jdC jgD cyI jiX jgh cyI jiG jho cyI jjg)) (w1 := (qaRI a1 jbF jb5 x7 x8 jcI x9 x10 jbF cyB jcq)) (wn := (qFA a0 jbU jgD jgh jho jju jkw jb7 jjF ja4 ja0 jaH jaF a1 jbF jb5 x7 x8 jcI x9 x10 jbF cyB jcq jju cyI jlb jbU cyI jdC jgD cyI jiX jgh cyI jiG jho cyI jjg)) hP hD [1, 2] [0, 3, 4, 5, 6, 7] [0, 6, 7, 1, 2, 3, 4, 5] hCc rfl (by decide +kernel) (by decide +kernel) (by decide +kernel) rfl hk1 hFc hP1 hD1
    generalize H1 = H at hP hS ⊢
    refine lv_aload_n hx hb (qaa qeq 0 rfl) rfl (lv_at hl 1 rfl) ?_
    refine va_get (D := (dC, dI)) (ci := 9) (v := .ref jju) (C := RX9) (T := TX9) (N := 12) hx hb hts qvC hown hK hP 0 rfl rfl 4 (by decide) (hts _ qaeR) (fun _ h9 => h9) rfl (qaa qeq 1 rfl) ?_
    refine lv_aload_n hx hb (qaa qeq 2 rfl) rfl (lv_at hl 1 rfl) ?_
    refine va_get (D := (dC, dI)) (ci := 9) (v := .int jjF) (C := RX9) (T := TX9) (N := 12) hx hb hts qvC hown hK hP 0 rfl rfl 7 (by decide) (hts _ qA9) (fun _ h9 => h9) rfl (qaa qeq 3 rfl) ?_
    refine lv_aload_n hx hb (qaa qeq 4 rfl) rfl (lv_at hl 1 rfl) ?_
    refine va_get (D := (dC, dI)) (ci := 9) (v := .int jb7) (C := RX9) (T := TX9) (N := 12) hx hb hts qvC hown hK hP 0 rfl rfl 6 (by decide) (hts _ qahc) (fun _ h9 => h9) rfl (qaa qeq 5 rfl) ?_
    obtain ⟨hi9, hw⟩ := hw
    refine va_iast hx hb hK hP hD hS 3 1 rfl rfl hi9 (qaa qeq 6 rfl) (fun H locs hP hD hS => ?_)
    obtain ⟨f11, ef11⟩ : ∃ y : NI, y = upd jlb jjF.toNatClampNeg jb7 := ⟨_, rfl⟩
    have hw := hw f11 ef11
    have hP : va_P (dC, dI) vwCl (qFA a0 jbU jgD jgh jho jju jkw jb7 jjF ja4 ja0 jaH jaF a1 jbF jb5 x7 x8 jcI x9 x10 jbF cyB jcq jju cyI f11 jbU cyI jdC jgD cyI jiX jgh cyI jiG jho cyI jjg) H := by rw [ef11]; exact hP
    have hD : va_D A (qFA a0 jbU jgD jgh jho jju jkw jb7 jjF ja4 ja0 jaH jaF a1 jbF jb5 x7 x8 jcI x9 x10 jbF cyB jcq jju cyI f11 jbU cyI jdC jgD cyI jiX jgh cyI jiG jho cyI jjg) := by rw [ef11]; exact hD
    refine lv_aload_n hx hb (qaa qeq 7 rfl) rfl (lv_at hl 1 rfl) ?_
    refine lv_dup hx hb (qaa qeq 8 rfl) rfl ?_
    refine va_get (D := (dC, dI)) (ci := 9) (v := .int jjF) (C := RX9) (T := TX9) (N := 12) hx hb hts qvC hown hK hP 0 rfl rfl 7 (by decide) (hts _ qA9) (fun _ h9 => h9) rfl (qaa qeq 9 rfl) ?_
    refine lv_iconst (v := 1) hx hb (qaa qeq 10 rfl) (by decide) ?_
    refine lv_iadd hx hb (qaa qeq 11 rfl) ?_
    refine lv_topi (fun x12 ex12 => ?_)
    have hw := hw x12 ex12
    refine va_put (D := (dC, dI)) (ci := 9) (v := .int x12) (ty := .int) (C := RX9) (T := TX9) (N := 12) hx hb hts qvC tyX9 tyX9_ok nmX9 hown hK hP hD hS 0 rfl rfl 7 (by decide) (hts _ qA9) (fun _ h9 => h9) rfl (by decide +kernel) rfl rfl (nbq rfl) (qaa qeq 12 rfl) (fun H locs hP hD hS => ?_)
    have hP : va_P (dC, dI) vwCl (qFA a0 jbU jgD jgh jho jju jkw jb7 x12 ja4 ja0 jaH jaF a1 jbF jb5 x7 x8 jcI x9 x10 jbF cyB jcq jju cyI f11 jbU cyI jdC jgD cyI jiX jgh cyI jiG jho cyI jjg) H := hP
    have hD : va_D A (qFA a0 jbU jgD jgh jho jju jkw jb7 x12 ja4 ja0 jaH jaF a1 jbF jb5 x7 x8 jcI x9 x10 jbF cyB jcq jju cyI f11 jbU cyI jdC jgD cyI jiX jgh cyI jiG jho cyI jjg) := hD
    refine lv_aload_n hx hb (qaa qeq 13 rfl) rfl (lv_at hl 1 rfl) ?_
    refine lv_iconst (v := 4) hx hb (qaa qeq 14 rfl) (by decide) ?_
    refine lv_iload_n hx hb (qaa qeq 15 rfl) rfl (lv_at hl 0 rfl) ?_
    refine lv_iconst (v := 0) hx hb (qaa qCN 0 rfl) (by decide) ?_
    refine lv_iconst (v := 0) hx hb (qaa qCN 1 rfl) (by decide) ?_
    obtain ⟨hCc, hPc, hDc, hFc⟩ := qac (ws' := (qa1i a0 jbU jgD jgh jho jju jkw jb7 x12 ja4 ja0 jaH jaF jbU cyI jdC jgD cyI jiX jgh cyI jiG jho cyI jjg)) hP hD hS hA [0, 4, 5, 6, 7] (by decide +kernel) rfl
    refine va_callv (va_runV (As := [.int 4, .int r6, .int 0, .int 0]) (rest := []) ⟨hx, hb, hml, hown, hts⟩ (qV0 l dC dI cyB cyI cyJ cyP a0 jbU jgD jgh jho H.size (.ref jju) (jkw) (.int x12) (ja4) (ja0) (jaH) (jaF) jdC jiX jiG jjg jb7 4 r6 0 0 hw) (cwV 4 hts gX9_openLoop_X9_add rfl rfl rfl (by decide +kernel) ⟨nbq rfl, nbq rfl⟩) ⟨qab, va_recv (q := (RX9, TX9, 12)) hK hPc (ci := 9) (q0 := 0) rfl rfl, qae hPc hK hDc hNw⟩ rfl rfl hl.1 rfl (lv_room (nbq rfl)) (qaa qCN 2 rfl) ⟨nbq rfl, nbq rfl⟩) hS (fun q _ h => hFc q h) hFc (fun u t H1 locs ht hvm hw hB hz1 hk1 hS => ?_)
    obtain ⟨f13, f14, f15, f16, x17⟩ := u
    obtain ⟨hP1, hK1, hD1⟩ := hB
    rw [ht] at hP1
    obtain ⟨hP, hD⟩ := qad (wr := [(a1, .inr (8, [.ref jbF, .int jb5, .int x7, .int x8, jcI, .int x9, .int x10])), (jbF, .inl (cyB, 600, .inl jcq)), (jju, .inl (cyI, 6, .inl f11))]) (w1 := (qa1i a0 jbU jgD jgh jho jju jkw x17 x12 ja4 ja0 jaH jaF jbU cyI f13 jgD cyI f14 jgh cyI f15 jho cyI f16)) (wn := (qFA a0 jbU jgD jgh jho jju jkw x17 x12 ja4 ja0 jaH jaF a1 jbF jb5 x7 x8 jcI x9 x10 jbF cyB jcq jju cyI f11 jbU cyI f13 jgD cyI f14 jgh cyI f15 jho cyI f16)) hP hD [0, 4, 5, 6, 7] [1, 2, 3] [3, 0, 1, 2, 4, 5, 6, 7] hCc rfl (by decide +kernel) (by decide +kernel) (by decide +kernel) rfl hk1 hFc hP1 hD1
    generalize H1 = H at hP hS ⊢
    exact ((W.vret hx hb hr (fun t ht hW => ⟨⟨(x7, x9, x10, x8, f11, x12, f13, f14, f15, f16, x17), rfl, hw, by rw [ht]; exact hP, va_K.moved hW.alike hK, hD⟩, hS.F ht⟩) hS.2.2 (qaa qCN 3 rfl)))
  · have hw := hw.2 c1
    refine lv_aload_n hx hb (qaa qfN 4 rfl) rfl (lv_at hl 1 rfl) ?_
    refine lv_iconst (v := 3) hx hb (qaa qfN 5 rfl) (by decide) ?_
    obtain ⟨hCc, hPc, hDc, hFc⟩ := qac (ws' := (qa3M a1 jbF jb5 jhS jeF jcI jcU jbM)) hP hD hS hA [1] (by decide +kernel) rfl
    refine va_callv (va_runV (As := [.int 3]) (rest := []) ⟨hx, hb, hml, hown, hts⟩ (qnW l dC dI cyB cyI cyJ cyP a1 H.size (.ref jbF) (.int jb5) (.int jhS) (jcI) jeF jcU jbM 3 hw) (cwV 1 hts gX9_openLoop_X8_blameToken rfl rfl rfl (by decide +kernel) ⟨nbq rfl, nbq rfl⟩) ⟨qab, va_recv (q := (RX8, TX8, 7)) hK hPc (ci := 8) (q0 := 0) rfl rfl, qae hPc hK hDc hNw⟩ rfl rfl hl.1 rfl (lv_room (nbq rfl)) (qaa qfN 6 rfl) ⟨nbq rfl, nbq rfl⟩) hS (fun q _ h => hFc q h) hFc (fun u t H1 locs ht hvm hw hB hz1 hk1 hS => ?_)
    obtain ⟨x18, x19⟩ := u
    obtain ⟨hP1, hK1, hD1⟩ := hB
    rw [ht] at hP1
    obtain ⟨hP, hD⟩ := qad (wr := [(a0, .inr (9, [.ref jbU, .ref jgD, .ref jgh, .ref jho, .ref jju, jkw, .int jb7, .int jjF, ja4, ja0, jaH, jaF])), (jbF, .inl (cyB, 600, .inl jcq)), (jju, .inl (cyI, 6, .inl jlb)), (jbU, .inl (cyI, 50, .inl jdC)), (jgD, .inl (cyI, 50, .inl jiX)), (jgh, .inl (cyI, 50, .inl jiG)), (jho, .inl (cyI, 50, .inl jjg))]) (w1 := (qa3M a1 jbF jb5 jhS jeF jcI x18 x19)) (wn := (qFA a0 jbU jgD jgh jho jju jkw jb7 jjF ja4 ja0 jaH jaF a1 jbF jb5 jhS jeF jcI x18 x19 jbF cyB jcq jju cyI jlb jbU cyI jdC jgD cyI jiX jgh cyI jiG jho cyI jjg)) hP hD [1] [0, 2, 3, 4, 5, 6, 7] [0, 7, 1, 2, 3, 4, 5, 6] hCc rfl (by decide +kernel) (by decide +kernel) (by decide +kernel) rfl hk1 hFc hP1 hD1
    generalize H1 = H at hP hS ⊢
    exact ((W.vret hx hb hr (fun t ht hW => ⟨⟨(jhS, x18, x19, jeF, jlb, jjF, jdC, jiX, jiG, jjg, jb7), rfl, hw, by rw [ht]; exact hP, va_K.moved hW.alike hK, hD⟩, hS.F ht⟩) hS.2.2 (qaa qfN 7 rfl)))
theorem qaPn : ∀ w ∈ u_ws RX1 TX1 4, w ∈ wsX5_push := uiM qGN qWc (by decide +kernel)
theorem qIk : ∀ w ∈ u_ws RX5 TX5 2, w ∈ wsX5_push := uiM qGN euX5 (by decide +kernel)
theorem qaKc : (.initialized "java/lang/System" : Cond) ∈ wsX5_push := qGN 331 (by decide +kernel)
theorem qaG6 : (.native arraycopyName : Cond) ∈ wsX5_push := qGN 329 (by decide +kernel)
theorem qaKH : (.static arraycopyName : Cond) ∈ wsX5_push := qGN 330 (by decide +kernel)
theorem qaHc : (.fieldLink RX5 11 "MarchHares$Past" "rows" "[I" : Cond) ∈ wsX5_push := qGN 335 (by decide +kernel)
theorem qKv : (.fieldLink RX5 17 "MarchHares$Past" "kept" "I" : Cond) ∈ wsX5_push := qGN 1676 (by decide +kernel)
theorem qaHO : (.fieldLink RX5 21 "MarchHares$Days" "row" "[I" : Cond) ∈ wsX5_push := qGN 1677 (by decide +kernel)
theorem qaJ1 : (.methodLink RX5 24 arraycopyName : Cond) ∈ wsX5_push := qGN 1678 (by decide +kernel)
set_option maxHeartbeats 4000000 in
set_option maxRecDepth 100000 in
theorem qAp (l : Launch) (dC : Nat → ClassId) (dI : Nat → Nat → Nat) (cyB cyI cyJ cyP : ClassId) (a0 a1 jjO jnO sz : Nat) (jjP jpb jn2 : Value) (jkO joO : NI) (joH : Int32) {Q : NI → Int32 → Prop} (hw : qwE jkO joO joH Q) : Met l yX5_push wsX5_push ({ frames := 1, cells := 0, slots := 0, locals := 40 }) (va_Pc [.ref a0, .ref a1] (cPc (dC, dI) (kT cyB cyI cyJ cyP) (qsi a0 jnO joH a1 jjO jjP jpb jn2 jjO cyI jkO jnO cyI joO) sz)) (va_Qv (fun (u : NI × Int32) => Q u.1 u.2) (cB (dC, dI) (kT cyB cyI cyJ cyP) (va_A (qsi a0 jnO joH a1 jjO jjP jpb jn2 jjO cyI jkO jnO cyI joO) sz) (fun u : NI × Int32 => ((qsi a0 jnO u.2 a1 jjO jjP jpb jn2 jjO cyI jkO jnO cyI u.1) : va_W))) (va_A (qsi a0 jnO joH a1 jjO jjP jpb jn2 jjO cyI jkO jnO cyI joO) sz)) 0 0 (va_A (qsi a0 jnO joH a1 jjO jjP jpb jn2 jjO cyI jkO jnO cyI joO) sz) := by
  refine Met.ofW (cc := cX5_push) (maxL := 2) (ret := none) (by decide) rfl ?_
  intro p e s m args below meth c s₁ B hml hv
  obtain ⟨rfl, hsz, hP, hK, hD0, hNw⟩ := hv
  have hx := B.exec
  have hb := B.bytes
  have hr := B.returns
  have hts := atoms_spec (ws := wsX5_push) B.pre
  have hown : s.vm.findClass RX5 = some m.cls := findClass_of_methodNamed B.named
  have hlocks := B.notSynchronized
  subst hsz
  have hD := hD0.self (sz := s.heap.size)
  generalize hAe : va_A (qsi a0 jnO joH a1 jjO jjP jpb jn2 jjO cyI jkO jnO cyI joO) s.heap.size = A at hD ⊢
  have hA : ∀ q : Nat, s.heap.size ≤ q → A q := fun q h => by rw [← hAe]; exact Or.inr h
  have hS : va_S A s.heap s.heap [] := va_S.rf
  have hP : va_P (dC, dI) vwCl (qsi a0 jnO joH a1 jjO jjP jpb jn2 jjO cyI jkO jnO cyI joO) s.heap := hP
  have hl := lv_entry ([.ref a0, .ref a1]) (n := 2) (nbq rfl)
  rw [lg_entry_eq]
  generalize (lg_sl ([.ref a0, .ref a1]) ++ List.replicate (2 - (lg_sl ([.ref a0, .ref a1])).length) Slot.unset).toArray = ls at hl ⊢
  have hl : lv_has ls 2 [(0, .ref a0), (1, .ref a1)] := hl
  have C0 : cfx p s m _ meth c cX5_push none wsX5_push RX5 2 A (dC, dI) (kT cyB cyI cyJ cyP) := ⟨hx, hb, hr, hts, hown, hlocks, hml, hA, hK, hNw⟩
  clear hAe
  obtain ⟨H, hH⟩ : ∃ H, H = s.heap := ⟨_, rfl⟩
  rw [← hH] at hP ⊢
  have hS : va_S A s.heap H [] := by rw [hH]; exact va_S.rf
  have hS := hS
  refine lv_aload_n hx hb (qaa qoy 0 rfl) rfl (lv_at hl 0 rfl) ?_
  refine va_get (D := (dC, dI)) (ci := 5) (v := .int joH) (C := RX5) (T := TX5) (N := 2) hx hb hts qIk hown hK hP 0 rfl rfl 1 (by decide) (hts _ qKv) (fun _ h9 => h9) rfl (qaa qoy 1 rfl) ?_
  refine lv_bipush (v := 16) hx hb (qaa qoy 2 rfl) (by decide) ?_
  refine lv_icmp_gt (tgt := 40) hx hb (qaa qoy 3 rfl) (by decide) (fun c1 => ?_) (fun c1 => ?_)
  · have hw := hw.1 c1
    exact ((W.vret hx hb hr (fun t ht hW => ⟨⟨(joO, joH), rfl, hw, by rw [ht]; exact hP, va_K.moved hW.alike hK, hD⟩, hS.F ht⟩) hS.2.2 (qaa qzp 5 rfl)))
  · have hw := hw.2 c1
    refine lv_aload_n hx hb (qaa qoy 4 rfl) rfl (lv_at hl 1 rfl) ?_
    refine va_get (D := (dC, dI)) (ci := 1) (v := .ref jjO) (C := RX1) (T := TX1) (N := 4) hx hb hts qaPn hown hK hP 1 rfl rfl 0 (by decide) (hts _ qaHO) (fun _ h9 => h9) rfl (qaa qoy 5 rfl) ?_
    refine lv_iconst (v := 0) hx hb (qaa qoy 6 rfl) (by decide) ?_
    refine lv_aload_n hx hb (qaa qoy 7 rfl) rfl (lv_at hl 0 rfl) ?_
    refine va_get (D := (dC, dI)) (ci := 5) (v := .ref jnO) (C := RX5) (T := TX5) (N := 2) hx hb hts qIk hown hK hP 0 rfl rfl 0 (by decide) (hts _ qaHc) (fun _ h9 => h9) rfl (qaa qoy 8 rfl) ?_
    refine lv_aload_n hx hb (qaa qoy 9 rfl) rfl (lv_at hl 0 rfl) ?_
    refine va_get (D := (dC, dI)) (ci := 5) (v := .int joH) (C := RX5) (T := TX5) (N := 2) hx hb hts qIk hown hK hP 0 rfl rfl 1 (by decide) (hts _ qKv) (fun _ h9 => h9) rfl (qaa qoy 10 rfl) ?_
    refine lv_bipush (v := 64) hx hb (qaa qoy 11 rfl) (by decide) ?_
    refine lv_imul hx hb (qaa qoy 12 rfl) ?_
    refine lv_topi (fun x2 ex2 => ?_)
    have hw := hw x2 ex2
    refine lv_bipush (v := 64) hx hb (qaa qoy 13 rfl) (by decide) ?_
    obtain ⟨hc19, hw⟩ := hw
    obtain ⟨hc49, hw⟩ := hw
    refine va_copyi hx hb (by rw [hml]; exact hl.1.symm) hown (hts _ qaJ1) (hts _ qaG6) (hts _ qaKH) (hts _ qaKc) hK hP hD hS 2 3 1 1 rfl rfl rfl rfl rfl (by decide) hc19 (by decide) (by decide) hc49 (fun _ _ => rfl) (nbq rfl) (nbq rfl) (qaa qoy 14 rfl) (fun H locs hP hD hS => ?_)
    obtain ⟨f3, ef3⟩ : ∃ y : NI, y = va_cpy jkO joO (0 : Int32).toNatClampNeg x2.toNatClampNeg (64 : Int32).toNatClampNeg := ⟨_, rfl⟩
    have hw := hw f3 ef3
    have hP : va_P (dC, dI) vwCl (qsi a0 jnO joH a1 jjO jjP jpb jn2 jjO cyI jkO jnO cyI f3) H := by rw [ef3]; exact hP
    have hD : va_D A (qsi a0 jnO joH a1 jjO jjP jpb jn2 jjO cyI jkO jnO cyI f3) := by rw [ef3]; exact hD
    refine lv_aload_n hx hb (qaa qoy 15 rfl) rfl (lv_at hl 0 rfl) ?_
    refine lv_dup hx hb (qaa qzp 0 rfl) rfl ?_
    refine va_get (D := (dC, dI)) (ci := 5) (v := .int joH) (C := RX5) (T := TX5) (N := 2) hx hb hts qIk hown hK hP 0 rfl rfl 1 (by decide) (hts _ qKv) (fun _ h9 => h9) rfl (qaa qzp 1 rfl) ?_
    refine lv_iconst (v := 1) hx hb (qaa qzp 2 rfl) (by decide) ?_
    refine lv_iadd hx hb (qaa qzp 3 rfl) ?_
    refine lv_topi (fun x4 ex4 => ?_)
    have hw := hw x4 ex4
    refine va_put (D := (dC, dI)) (ci := 5) (v := .int x4) (ty := .int) (C := RX5) (T := TX5) (N := 2) hx hb hts qIk tyX5 tyX5_ok nmX5 hown hK hP hD hS 0 rfl rfl 1 (by decide) (hts _ qKv) (fun _ h9 => h9) rfl (by decide +kernel) rfl rfl (nbq rfl) (qaa qzp 4 rfl) (fun H locs hP hD hS => ?_)
    have hP : va_P (dC, dI) vwCl (qsi a0 jnO x4 a1 jjO jjP jpb jn2 jjO cyI jkO jnO cyI f3) H := hP
    have hD : va_D A (qsi a0 jnO x4 a1 jjO jjP jpb jn2 jjO cyI jkO jnO cyI f3) := hD
    exact ((W.vret hx hb hr (fun t ht hW => ⟨⟨(f3, x4), rfl, hw, by rw [ht]; exact hP, va_K.moved hW.alike hK, hD⟩, hS.F ht⟩) hS.2.2 (qaa qzp 5 rfl)))
theorem qqh : ∀ w ∈ u_ws RX9 TX9 12, w ∈ wsX9_behindEnd := uiM qKr euX9 (by decide +kernel)
theorem q9B : (.fieldLink RX9 15 "MarchHares$Work" "first" "[I" : Cond) ∈ wsX9_behindEnd := qKr 267 (by decide +kernel)
theorem qO6 : (.fieldLink RX9 27 "MarchHares$Work" "rounds" "[I" : Cond) ∈ wsX9_behindEnd := qKr 271 (by decide +kernel)
theorem qvV : (.fieldLink RX9 40 "MarchHares$Work" "open" "I" : Cond) ∈ wsX9_behindEnd := qKr 1607 (by decide +kernel)
set_option maxHeartbeats 4000000 in
set_option maxRecDepth 100000 in
theorem qawN (l : Launch) (dC : Nat → ClassId) (dI : Nat → Nat → Nat) (cyB cyI cyJ cyP : ClassId) (a0 jlw jgD sz : Nat) (jni jpk joZ jme jjf ja4 ja0 jaH jaF : Value) (jiX jmk : NI) (jjF p1 : Int32) {Q : Int32 → NI → Int32 → Prop} (hw : q0T jiX jmk jjF p1 Q) : Met l yX9_behindEnd wsX9_behindEnd ({ frames := 0, cells := 0, slots := 0, locals := 0 }) (va_Pc [.ref a0, .int p1] (cPc (dC, dI) (kT cyB cyI cyJ cyP) (qQc a0 jni jgD jpk joZ jme jlw jjf jjF ja4 ja0 jaH jaF jlw cyI jmk jgD cyI jiX) sz)) (va_Qi (fun (r : Int32) (u : NI × Int32) => Q r u.1 u.2) (cB (dC, dI) (kT cyB cyI cyJ cyP) (va_A (qQc a0 jni jgD jpk joZ jme jlw jjf jjF ja4 ja0 jaH jaF jlw cyI jmk jgD cyI jiX) sz) (fun u : NI × Int32 => ((qQc a0 jni jgD jpk joZ jme jlw jjf u.2 ja4 ja0 jaH jaF jlw cyI u.1 jgD cyI jiX) : va_W))) (va_A (qQc a0 jni jgD jpk joZ jme jlw jjf jjF ja4 ja0 jaH jaF jlw cyI jmk jgD cyI jiX) sz)) 0 0 (va_A (qQc a0 jni jgD jpk joZ jme jlw jjf jjF ja4 ja0 jaH jaF jlw cyI jmk jgD cyI jiX) sz) := by
  refine Met.ofW (cc := cX9_behindEnd) (maxL := 2) (ret := (some .int)) (by decide) rfl ?_
  intro p e s m args below meth c s₁ B hml hv
  obtain ⟨rfl, hsz, hP, hK, hD0, hNw⟩ := hv
  have hx := B.exec
  have hb := B.bytes
  have hr := B.returns
  have hts := atoms_spec (ws := wsX9_behindEnd) B.pre
  have hown : s.vm.findClass RX9 = some m.cls := findClass_of_methodNamed B.named
  have hlocks := B.notSynchronized
  subst hsz
  have hD := hD0.self (sz := s.heap.size)
  generalize hAe : va_A (qQc a0 jni jgD jpk joZ jme jlw jjf jjF ja4 ja0 jaH jaF jlw cyI jmk jgD cyI jiX) s.heap.size = A at hD ⊢
  have hA : ∀ q : Nat, s.heap.size ≤ q → A q := fun q h => by rw [← hAe]; exact Or.inr h
  have hS : va_S A s.heap s.heap [] := va_S.rf
  have hP : va_P (dC, dI) vwCl (qQc a0 jni jgD jpk joZ jme jlw jjf jjF ja4 ja0 jaH jaF jlw cyI jmk jgD cyI jiX) s.heap := hP
  have hl := lv_entry ([.ref a0, .int p1]) (n := 2) (nbq rfl)
  rw [lg_entry_eq]
  generalize (lg_sl ([.ref a0, .int p1]) ++ List.replicate (2 - (lg_sl ([.ref a0, .int p1])).length) Slot.unset).toArray = ls at hl ⊢
  have hl : lv_has ls 2 [(0, .ref a0), (1, .int p1)] := hl
  have C0 : cfx p s m _ meth c cX9_behindEnd (some .int) wsX9_behindEnd RX9 2 A (dC, dI) (kT cyB cyI cyJ cyP) := ⟨hx, hb, hr, hts, hown, hlocks, hml, hA, hK, hNw⟩
  clear hAe
  obtain ⟨H, hH⟩ : ∃ H, H = s.heap := ⟨_, rfl⟩
  rw [← hH] at hP ⊢
  have hS : va_S A s.heap H [] := by rw [hH]; exact va_S.rf
  have hS := hS
  refine lv_aload_n hx hb (qaa qdT 0 rfl) rfl (lv_at hl 0 rfl) ?_
  refine va_get (D := (dC, dI)) (ci := 9) (v := .int jjF) (C := RX9) (T := TX9) (N := 12) hx hb hts qqh hown hK hP 0 rfl rfl 7 (by decide) (hts _ qvV) (fun _ h9 => h9) rfl (qaa qdT 1 rfl) ?_
  refine lv_if_ne (tgt := 11) hx hb (qaa qdT 2 rfl) (by decide) (fun c1 => ?_) (fun c1 => ?_)
  · have hw := hw.1 c1
    refine lv_aload_n hx hb (qaa qdT 7 rfl) rfl (lv_at hl 0 rfl) ?_
    refine va_get (D := (dC, dI)) (ci := 9) (v := .ref jlw) (C := RX9) (T := TX9) (N := 12) hx hb hts qqh hown hK hP 0 rfl rfl 5 (by decide) (hts _ qO6) (fun _ h9 => h9) rfl (qaa qdT 8 rfl) ?_
    refine lv_aload_n hx hb (qaa qdT 9 rfl) rfl (lv_at hl 0 rfl) ?_
    refine va_get (D := (dC, dI)) (ci := 9) (v := .int jjF) (C := RX9) (T := TX9) (N := 12) hx hb hts qqh hown hK hP 0 rfl rfl 7 (by decide) (hts _ qvV) (fun _ h9 => h9) rfl (qaa qdT 10 rfl) ?_
    refine lv_iconst (v := 1) hx hb (qaa qdT 11 rfl) (by decide) ?_
    refine lv_isub hx hb (qaa qdT 12 rfl) ?_
    refine lv_topi (fun x2 ex2 => ?_)
    have hw := hw x2 ex2
    refine lv_dup2_11 hx hb (qaa qdT 13 rfl) rfl rfl ?_
    obtain ⟨hi9, hw⟩ := hw
    refine va_iald hx hb hK hP 1 1 rfl rfl hi9 (qaa qdT 14 rfl) ?_
    refine lv_topi (fun x3 ex3 => ?_)
    have hw := hw x3 ex3
    refine lv_iconst (v := 1) hx hb (qaa qdT 15 rfl) (by decide) ?_
    refine lv_isub hx hb (qaa qdm 0 rfl) ?_
    refine lv_topi (fun x4 ex4 => ?_)
    have hw := hw x4 ex4
    obtain ⟨hi9, hw⟩ := hw
    refine va_iast hx hb hK hP hD hS 1 1 rfl rfl hi9 (qaa qdm 1 rfl) (fun H locs hP hD hS => ?_)
    obtain ⟨f5, ef5⟩ : ∃ y : NI, y = upd jmk x2.toNatClampNeg x4 := ⟨_, rfl⟩
    have hw := hw f5 ef5
    have hP : va_P (dC, dI) vwCl (qQc a0 jni jgD jpk joZ jme jlw jjf jjF ja4 ja0 jaH jaF jlw cyI f5 jgD cyI jiX) H := by rw [ef5]; exact hP
    have hD : va_D A (qQc a0 jni jgD jpk joZ jme jlw jjf jjF ja4 ja0 jaH jaF jlw cyI f5 jgD cyI jiX) := by rw [ef5]; exact hD
    refine lv_aload_n hx hb (qaa qdm 2 rfl) rfl (lv_at hl 0 rfl) ?_
    refine va_get (D := (dC, dI)) (ci := 9) (v := .ref jlw) (C := RX9) (T := TX9) (N := 12) hx hb hts qqh hown hK hP 0 rfl rfl 5 (by decide) (hts _ qO6) (fun _ h9 => h9) rfl (qaa qdm 3 rfl) ?_
    refine lv_aload_n hx hb (qaa qdm 4 rfl) rfl (lv_at hl 0 rfl) ?_
    refine va_get (D := (dC, dI)) (ci := 9) (v := .int jjF) (C := RX9) (T := TX9) (N := 12) hx hb hts qqh hown hK hP 0 rfl rfl 7 (by decide) (hts _ qvV) (fun _ h9 => h9) rfl (qaa qdm 5 rfl) ?_
    refine lv_iconst (v := 1) hx hb (qaa qdm 6 rfl) (by decide) ?_
    refine lv_isub hx hb (qaa qdm 7 rfl) ?_
    refine lv_topi (fun x6 ex6 => ?_)
    have hw := hw x6 ex6
    obtain ⟨hi9, hw⟩ := hw
    refine va_iald hx hb hK hP 1 1 rfl rfl hi9 (qaa qdm 8 rfl) ?_
    refine lv_topi (fun x7 ex7 => ?_)
    have hw := hw x7 ex7
    refine lv_if_le (tgt := 49) hx hb (qaa qdm 9 rfl) (by decide) (fun c8 => ?_) (fun c8 => ?_)
    · have hw := hw.1 c8
      refine lv_aload_n hx hb (qaa qk6 1 rfl) rfl (lv_at hl 0 rfl) ?_
      refine lv_dup hx hb (qaa qk6 2 rfl) rfl ?_
      refine va_get (D := (dC, dI)) (ci := 9) (v := .int jjF) (C := RX9) (T := TX9) (N := 12) hx hb hts qqh hown hK hP 0 rfl rfl 7 (by decide) (hts _ qvV) (fun _ h9 => h9) rfl (qaa qk6 3 rfl) ?_
      refine lv_iconst (v := 1) hx hb (qaa qk6 4 rfl) (by decide) ?_
      refine lv_isub hx hb (qaa qk6 5 rfl) ?_
      refine lv_topi (fun x9 ex9 => ?_)
      have hw := hw x9 ex9
      refine va_put (D := (dC, dI)) (ci := 9) (v := .int x9) (ty := .int) (C := RX9) (T := TX9) (N := 12) hx hb hts qqh tyX9 tyX9_ok nmX9 hown hK hP hD hS 0 rfl rfl 7 (by decide) (hts _ qvV) (fun _ h9 => h9) rfl (by decide +kernel) rfl rfl (nbq rfl) (qaa qk6 6 rfl) (fun H locs hP hD hS => ?_)
      have hP : va_P (dC, dI) vwCl (qQc a0 jni jgD jpk joZ jme jlw jjf x9 ja4 ja0 jaH jaF jlw cyI f5 jgD cyI jiX) H := hP
      have hD : va_D A (qQc a0 jni jgD jpk joZ jme jlw jjf x9 ja4 ja0 jaH jaF jlw cyI f5 jgD cyI jiX) := hD
      refine lv_iload_n hx hb (qaa qk6 7 rfl) rfl (lv_at hl 1 rfl) ?_
      refine lv_iconst (v := 1) hx hb (qaa qk6 8 rfl) (by decide) ?_
      refine lv_iadd hx hb (qaa qk6 9 rfl) ?_
      exact ((W.iret (v := (p1 + 1)) hx hb hr (fun t ht hW => ⟨⟨(p1 + 1), (f5, x9), rfl, hw, by rw [ht]; exact hP, va_K.moved hW.alike hK, hD⟩, hS.F ht⟩) hS.2.2 (qaa qk6 10 rfl)))
    · have hw := hw.2 c8
      refine lv_aload_n hx hb (qaa qdm 10 rfl) rfl (lv_at hl 0 rfl) ?_
      refine va_get (D := (dC, dI)) (ci := 9) (v := .ref jgD) (C := RX9) (T := TX9) (N := 12) hx hb hts qqh hown hK hP 0 rfl rfl 1 (by decide) (hts _ q9B) (fun _ h9 => h9) rfl (qaa qdm 11 rfl) ?_
      refine lv_iload_n hx hb (qaa qdm 12 rfl) rfl (lv_at hl 1 rfl) ?_
      obtain ⟨hi9, hw⟩ := hw
      refine va_iald hx hb hK hP 2 1 rfl rfl hi9 (qaa qdm 13 rfl) ?_
      refine lv_topi (fun x10 ex10 => ?_)
      have hw := hw x10 ex10
      refine lv_iconst (v := 1) hx hb (qaa qdm 14 rfl) (by decide) ?_
      refine lv_iadd hx hb (qaa qdm 15 rfl) ?_
      exact ((W.iret (v := (x10 + 1)) hx hb hr (fun t ht hW => ⟨⟨(x10 + 1), (f5, jjF), rfl, hw, by rw [ht]; exact hP, va_K.moved hW.alike hK, hD⟩, hS.F ht⟩) hS.2.2 (qaa qk6 0 rfl)))
  · have hw := hw.2 c1
    refine lv_iload_n hx hb (qaa qdT 3 rfl) rfl (lv_at hl 1 rfl) ?_
    refine lv_iconst (v := 1) hx hb (qaa qdT 4 rfl) (by decide) ?_
    refine lv_iadd hx hb (qaa qdT 5 rfl) ?_
    exact ((W.iret (v := (p1 + 1)) hx hb hr (fun t ht hW => ⟨⟨(p1 + 1), (jmk, jjF), rfl, hw, by rw [ht]; exact hP, va_K.moved hW.alike hK, hD⟩, hS.F ht⟩) hS.2.2 (qaa qdT 6 rfl)))
theorem qoF : ∀ w ∈ u_ws RX9 TX9 12, w ∈ wsX9_behindAgain := uiM qz5 euX9 (by decide +kernel)
theorem qLw : (.fieldLink RX9 15 "MarchHares$Work" "first" "[I" : Cond) ∈ wsX9_behindAgain := qz5 267 (by decide +kernel)
theorem q2T : (.fieldLink RX9 18 "MarchHares$Work" "second" "[I" : Cond) ∈ wsX9_behindAgain := qz5 268 (by decide +kernel)
theorem q1x : (.fieldLink RX9 27 "MarchHares$Work" "rounds" "[I" : Cond) ∈ wsX9_behindAgain := qz5 271 (by decide +kernel)
theorem qw6 : (.fieldLink RX9 40 "MarchHares$Work" "open" "I" : Cond) ∈ wsX9_behindAgain := qz5 1607 (by decide +kernel)
set_option maxHeartbeats 4000000 in
set_option maxRecDepth 100000 in
theorem qNo {p : Program} {l : Launch} {e : Env} {s : State} {m : MethodId} {args : Array Value} {below : List Frame} {meth : Method} {c : Code} {A : Nat → Prop} (dC : Nat → ClassId) (dI : Nat → Nat → Nat) (cyB cyI cyJ cyP : ClassId) (a0 jgD jlw jgh : Nat) (jni joZ jme jjf ja4 ja0 jaH jaF : Value) (jiX jiG : NI) (Q : Int32 → NI → Int32 → Prop) (C0 : cfx p s m args meth c cX9_behindAgain (some .int) wsX9_behindAgain RX9 2 A (dC, dI) (kT cyB cyI cyJ cyP)) : ∀ (H : Heap) (locs : List Loc) (ls : Array Slot) (jmk : NI) (jjF l1 : Int32), va_P (dC, dI) vwCl (qH4 a0 jni jgD jgh joZ jme jlw jjf jjF ja4 ja0 jaH jaF jgD cyI jiX jlw cyI jmk jgh cyI jiG) H → va_D A (qH4 a0 jni jgD jgh joZ jme jlw jjf jjF ja4 ja0 jaH jaF jgD cyI jiX jlw cyI jmk jgh cyI jiG) → va_S A s.heap H locs → lv_has ls 2 [(0, .ref a0), (1, .int l1)] → qDo jiX jiG Q jmk jjF l1 → W p l e (headSpec wsX9_behindAgain ({ frames := 0, cells := 0, slots := 0, locals := 0 })).room s m args below meth c H locs 0 0 (MQ below (va_Qi (fun (r : Int32) (u : NI × Int32) => Q r u.1 u.2) (cB (dC, dI) (kT cyB cyI cyJ cyP) A (fun u : NI × Int32 => ((qH4 a0 jni jgD jgh joZ jme jlw jjf u.2 ja4 ja0 jaH jaF jgD cyI jiX jlw cyI u.1 jgh cyI jiG) : va_W))) A) args s 0 0 A) (F0 m 18 ls []) := by
  obtain ⟨hx, hb, hr, hts, hown, hlocks, hml, hA, hK, hNw⟩ := id C0
  intro H locs ls jmk jjF l1 hP hD hS hl hw
  refine lv_aload_n hx hb (qaa qcM 9 rfl) rfl (lv_at hl 0 rfl) ?_
  refine va_get (D := (dC, dI)) (ci := 9) (v := .ref jgh) (C := RX9) (T := TX9) (N := 12) hx hb hts qoF hown hK hP 0 rfl rfl 2 (by decide) (hts _ q2T) (fun _ h9 => h9) rfl (qaa qcM 10 rfl) ?_
  refine lv_iload_n hx hb (qaa qcM 11 rfl) rfl (lv_at hl 1 rfl) ?_
  obtain ⟨hi9, hw⟩ := hw
  refine va_iald hx hb hK hP 3 1 rfl rfl hi9 (qaa qcM 12 rfl) ?_
  refine lv_topi (fun x7 ex7 => ?_)
  have hw := hw x7 ex7
  refine lv_iconst (v := 1) hx hb (qaa qcM 13 rfl) (by decide) ?_
  refine lv_iadd hx hb (qaa qcM 14 rfl) ?_
  exact ((W.iret (v := (x7 + 1)) hx hb hr (fun t ht hW => ⟨⟨(x7 + 1), (jmk, jjF), rfl, hw, by rw [ht]; exact hP, va_K.moved hW.alike hK, hD⟩, hS.F ht⟩) hS.2.2 (qaa qcM 15 rfl)))
set_option maxHeartbeats 4000000 in
set_option maxRecDepth 100000 in
theorem qaio (l : Launch) (dC : Nat → ClassId) (dI : Nat → Nat → Nat) (cyB cyI cyJ cyP : ClassId) (a0 jgD jlw jgh sz : Nat) (jni joZ jme jjf ja4 ja0 jaH jaF : Value) (jiX jiG jmk : NI) (jjF p1 : Int32) {Q : Int32 → NI → Int32 → Prop} (hw : qU0 jiX jiG jmk jjF p1 Q) : Met l yX9_behindAgain wsX9_behindAgain ({ frames := 0, cells := 0, slots := 0, locals := 0 }) (va_Pc [.ref a0, .int p1] (cPc (dC, dI) (kT cyB cyI cyJ cyP) (qH4 a0 jni jgD jgh joZ jme jlw jjf jjF ja4 ja0 jaH jaF jgD cyI jiX jlw cyI jmk jgh cyI jiG) sz)) (va_Qi (fun (r : Int32) (u : NI × Int32) => Q r u.1 u.2) (cB (dC, dI) (kT cyB cyI cyJ cyP) (va_A (qH4 a0 jni jgD jgh joZ jme jlw jjf jjF ja4 ja0 jaH jaF jgD cyI jiX jlw cyI jmk jgh cyI jiG) sz) (fun u : NI × Int32 => ((qH4 a0 jni jgD jgh joZ jme jlw jjf u.2 ja4 ja0 jaH jaF jgD cyI jiX jlw cyI u.1 jgh cyI jiG) : va_W))) (va_A (qH4 a0 jni jgD jgh joZ jme jlw jjf jjF ja4 ja0 jaH jaF jgD cyI jiX jlw cyI jmk jgh cyI jiG) sz)) 0 0 (va_A (qH4 a0 jni jgD jgh joZ jme jlw jjf jjF ja4 ja0 jaH jaF jgD cyI jiX jlw cyI jmk jgh cyI jiG) sz) := by
  refine Met.ofW (cc := cX9_behindAgain) (maxL := 2) (ret := (some .int)) (by decide) rfl ?_
  intro p e s m args below meth c s₁ B hml hv
  obtain ⟨rfl, hsz, hP, hK, hD0, hNw⟩ := hv
  have hx := B.exec
  have hb := B.bytes
  have hr := B.returns
  have hts := atoms_spec (ws := wsX9_behindAgain) B.pre
  have hown : s.vm.findClass RX9 = some m.cls := findClass_of_methodNamed B.named
  have hlocks := B.notSynchronized
  subst hsz
  have hD := hD0.self (sz := s.heap.size)
  generalize hAe : va_A (qH4 a0 jni jgD jgh joZ jme jlw jjf jjF ja4 ja0 jaH jaF jgD cyI jiX jlw cyI jmk jgh cyI jiG) s.heap.size = A at hD ⊢
  have hA : ∀ q : Nat, s.heap.size ≤ q → A q := fun q h => by rw [← hAe]; exact Or.inr h
  have hS : va_S A s.heap s.heap [] := va_S.rf
  have hP : va_P (dC, dI) vwCl (qH4 a0 jni jgD jgh joZ jme jlw jjf jjF ja4 ja0 jaH jaF jgD cyI jiX jlw cyI jmk jgh cyI jiG) s.heap := hP
  have hl := lv_entry ([.ref a0, .int p1]) (n := 2) (nbq rfl)
  rw [lg_entry_eq]
  generalize (lg_sl ([.ref a0, .int p1]) ++ List.replicate (2 - (lg_sl ([.ref a0, .int p1])).length) Slot.unset).toArray = ls at hl ⊢
  have hl : lv_has ls 2 [(0, .ref a0), (1, .int p1)] := hl
  have C0 : cfx p s m _ meth c cX9_behindAgain (some .int) wsX9_behindAgain RX9 2 A (dC, dI) (kT cyB cyI cyJ cyP) := ⟨hx, hb, hr, hts, hown, hlocks, hml, hA, hK, hNw⟩
  clear hAe
  obtain ⟨H, hH⟩ : ∃ H, H = s.heap := ⟨_, rfl⟩
  rw [← hH] at hP ⊢
  have hS : va_S A s.heap H [] := by rw [hH]; exact va_S.rf
  have hS := hS
  refine lv_aload_n hx hb (qaa qcM 0 rfl) rfl (lv_at hl 0 rfl) ?_
  refine va_get (D := (dC, dI)) (ci := 9) (v := .ref jgD) (C := RX9) (T := TX9) (N := 12) hx hb hts qoF hown hK hP 0 rfl rfl 1 (by decide) (hts _ qLw) (fun _ h9 => h9) rfl (qaa qcM 1 rfl) ?_
  refine lv_iload_n hx hb (qaa qcM 2 rfl) rfl (lv_at hl 1 rfl) ?_
  obtain ⟨hi9, hw⟩ := hw
  refine va_iald hx hb hK hP 1 1 rfl rfl hi9 (qaa qcM 3 rfl) ?_
  refine lv_topi (fun x1 ex1 => ?_)
  have hw := hw x1 ex1
  refine lv_if_eq (tgt := 18) hx hb (qaa qcM 4 rfl) (by decide) (fun c2 => ?_) (fun c2 => ?_)
  · have hw := hw.1 c2
    exact qNo dC dI cyB cyI cyJ cyP a0 jgD jlw jgh jni joZ jme jjf ja4 ja0 jaH jaF jiX jiG Q C0 _ _ _ jmk jjF p1 hP hD hS (lv_sub hl [0, 1] rfl) hw
  · have hw := hw.2 c2
    refine lv_aload_n hx hb (qaa qcM 5 rfl) rfl (lv_at hl 0 rfl) ?_
    refine va_get (D := (dC, dI)) (ci := 9) (v := .int jjF) (C := RX9) (T := TX9) (N := 12) hx hb hts qoF hown hK hP 0 rfl rfl 7 (by decide) (hts _ qw6) (fun _ h9 => h9) rfl (qaa qcM 6 rfl) ?_
    refine lv_bipush (v := 6) hx hb (qaa qcM 7 rfl) (by decide) ?_
    refine lv_icmp_lt (tgt := 27) hx hb (qaa qcM 8 rfl) (by decide) (fun c3 => ?_) (fun c3 => ?_)
    · have hw := hw.1 c3
      refine lv_aload_n hx hb (qaa qcw 0 rfl) rfl (lv_at hl 0 rfl) ?_
      refine va_get (D := (dC, dI)) (ci := 9) (v := .ref jlw) (C := RX9) (T := TX9) (N := 12) hx hb hts qoF hown hK hP 0 rfl rfl 5 (by decide) (hts _ q1x) (fun _ h9 => h9) rfl (qaa qcw 1 rfl) ?_
      refine lv_aload_n hx hb (qaa qcw 2 rfl) rfl (lv_at hl 0 rfl) ?_
      refine va_get (D := (dC, dI)) (ci := 9) (v := .int jjF) (C := RX9) (T := TX9) (N := 12) hx hb hts qoF hown hK hP 0 rfl rfl 7 (by decide) (hts _ qw6) (fun _ h9 => h9) rfl (qaa qcw 3 rfl) ?_
      refine lv_aload_n hx hb (qaa qcw 4 rfl) rfl (lv_at hl 0 rfl) ?_
      refine va_get (D := (dC, dI)) (ci := 9) (v := .ref jgD) (C := RX9) (T := TX9) (N := 12) hx hb hts qoF hown hK hP 0 rfl rfl 1 (by decide) (hts _ qLw) (fun _ h9 => h9) rfl (qaa qcw 5 rfl) ?_
      refine lv_iload_n hx hb (qaa qcw 6 rfl) rfl (lv_at hl 1 rfl) ?_
      obtain ⟨hi9, hw⟩ := hw
      refine va_iald hx hb hK hP 1 1 rfl rfl hi9 (qaa qcw 7 rfl) ?_
      refine lv_topi (fun x4 ex4 => ?_)
      have hw := hw x4 ex4
      obtain ⟨hi9, hw⟩ := hw
      refine va_iast hx hb hK hP hD hS 2 1 rfl rfl hi9 (qaa qcw 8 rfl) (fun H locs hP hD hS => ?_)
      obtain ⟨f5, ef5⟩ : ∃ y : NI, y = upd jmk jjF.toNatClampNeg x4 := ⟨_, rfl⟩
      have hw := hw f5 ef5
      have hP : va_P (dC, dI) vwCl (qH4 a0 jni jgD jgh joZ jme jlw jjf jjF ja4 ja0 jaH jaF jgD cyI jiX jlw cyI f5 jgh cyI jiG) H := by rw [ef5]; exact hP
      have hD : va_D A (qH4 a0 jni jgD jgh joZ jme jlw jjf jjF ja4 ja0 jaH jaF jgD cyI jiX jlw cyI f5 jgh cyI jiG) := by rw [ef5]; exact hD
      refine lv_aload_n hx hb (qaa qcw 9 rfl) rfl (lv_at hl 0 rfl) ?_
      refine lv_dup hx hb (qaa qcw 10 rfl) rfl ?_
      refine va_get (D := (dC, dI)) (ci := 9) (v := .int jjF) (C := RX9) (T := TX9) (N := 12) hx hb hts qoF hown hK hP 0 rfl rfl 7 (by decide) (hts _ qw6) (fun _ h9 => h9) rfl (qaa qcw 11 rfl) ?_
      refine lv_iconst (v := 1) hx hb (qaa qcw 12 rfl) (by decide) ?_
      refine lv_iadd hx hb (qaa qcw 13 rfl) ?_
      refine lv_topi (fun x6 ex6 => ?_)
      have hw := hw x6 ex6
      refine va_put (D := (dC, dI)) (ci := 9) (v := .int x6) (ty := .int) (C := RX9) (T := TX9) (N := 12) hx hb hts qoF tyX9 tyX9_ok nmX9 hown hK hP hD hS 0 rfl rfl 7 (by decide) (hts _ qw6) (fun _ h9 => h9) rfl (by decide +kernel) rfl rfl (nbq rfl) (qaa qcw 14 rfl) (fun H locs hP hD hS => ?_)
      have hP : va_P (dC, dI) vwCl (qH4 a0 jni jgD jgh joZ jme jlw jjf x6 ja4 ja0 jaH jaF jgD cyI jiX jlw cyI f5 jgh cyI jiG) H := hP
      have hD : va_D A (qH4 a0 jni jgD jgh joZ jme jlw jjf x6 ja4 ja0 jaH jaF jgD cyI jiX jlw cyI f5 jgh cyI jiG) := hD
      refine lv_iload_n hx hb (qaa qcw 15 rfl) rfl (lv_at hl 1 rfl) ?_
      refine lv_iconst (v := 1) hx hb (qaa qDM 0 rfl) (by decide) ?_
      refine lv_iadd hx hb (qaa qDM 1 rfl) ?_
      exact ((W.iret (v := (p1 + 1)) hx hb hr (fun t ht hW => ⟨⟨(p1 + 1), (f5, x6), rfl, hw, by rw [ht]; exact hP, va_K.moved hW.alike hK, hD⟩, hS.F ht⟩) hS.2.2 (qaa qDM 2 rfl)))
    · have hw := hw.2 c3
      exact qNo dC dI cyB cyI cyJ cyP a0 jgD jlw jgh jni joZ jme jjf ja4 ja0 jaH jaF jiX jiG Q C0 _ _ _ jmk jjF p1 hP hD hS (lv_sub hl [0, 1] rfl) hw
set_option maxHeartbeats 4000000 in
set_option maxRecDepth 100000 in
theorem qaHb (l : Launch) (dC : Nat → ClassId) (dI : Nat → Nat → Nat) (cyB cyI cyJ cyP : ClassId) (a0 jch sz : Nat) (jcD ji6 jhy : Value) (jdE : NI) (p1 p2 p3 : Int32) {Q : Int32 → Prop} (hw : qTs jdE p1 p2 p3 Q) : Met l yX1_couldPay wsX1_couldPay ({ frames := 1, cells := 0, slots := 0, locals := 22 }) (va_Pc [.ref a0, .int p1, .int p2, .int p3] (cPc (dC, dI) (kT cyB cyI cyJ cyP) (quD a0 jch jcD ji6 jhy jch cyI jdE) sz)) (va_Qi (fun (r : Int32) (_ : Unit) => Q r ) (cB (dC, dI) (kT cyB cyI cyJ cyP) (va_A (quD a0 jch jcD ji6 jhy jch cyI jdE) sz) (fun u : Unit => ((quD a0 jch jcD ji6 jhy jch cyI jdE) : va_W))) (va_A (quD a0 jch jcD ji6 jhy jch cyI jdE) sz)) 0 0 (va_A (quD a0 jch jcD ji6 jhy jch cyI jdE) sz) := by
  refine Met.ofW (cc := cX1_couldPay) (maxL := 4) (ret := (some .boolean)) (by decide) rfl ?_
  intro p e s m args below meth c s₁ B hml hv
  obtain ⟨rfl, hsz, hP, hK, hD0, hNw⟩ := hv
  have hx := B.exec
  have hb := B.bytes
  have hr := B.returns
  have hts := atoms_spec (ws := wsX1_couldPay) B.pre
  have hown : s.vm.findClass RX1 = some m.cls := findClass_of_methodNamed B.named
  have hlocks := B.notSynchronized
  subst hsz
  have hD := hD0.self (sz := s.heap.size)
  generalize hAe : va_A (quD a0 jch jcD ji6 jhy jch cyI jdE) s.heap.size = A at hD ⊢
  have hA : ∀ q : Nat, s.heap.size ≤ q → A q := fun q h => by rw [← hAe]; exact Or.inr h
  have hS : va_S A s.heap s.heap [] := va_S.rf
  have hP : va_P (dC, dI) vwCl (quD a0 jch jcD ji6 jhy jch cyI jdE) s.heap := hP
  have hl := lv_entry ([.ref a0, .int p1, .int p2, .int p3]) (n := 4) (nbq rfl)
  rw [lg_entry_eq]
  generalize (lg_sl ([.ref a0, .int p1, .int p2, .int p3]) ++ List.replicate (4 - (lg_sl ([.ref a0, .int p1, .int p2, .int p3])).length) Slot.unset).toArray = ls at hl ⊢
  have hl : lv_has ls 4 [(0, .ref a0), (1, .int p1), (2, .int p2), (3, .int p3)] := hl
  have C0 : cfx p s m _ meth c cX1_couldPay (some .boolean) wsX1_couldPay RX1 4 A (dC, dI) (kT cyB cyI cyJ cyP) := ⟨hx, hb, hr, hts, hown, hlocks, hml, hA, hK, hNw⟩
  clear hAe
  obtain ⟨H, hH⟩ : ∃ H, H = s.heap := ⟨_, rfl⟩
  rw [← hH] at hP ⊢
  have hS : va_S A s.heap H [] := by rw [hH]; exact va_S.rf
  have hS := hS
  refine lv_aload_n hx hb (qaa qfy 0 rfl) rfl (lv_at hl 0 rfl) ?_
  refine lv_iload_n hx hb (qaa qfy 1 rfl) rfl (lv_at hl 1 rfl) ?_
  obtain ⟨hCc, hPc, hDc, hFc⟩ := qac (ws' := (quD a0 jch jcD ji6 jhy jch cyI jdE)) hP hD hS hA [0, 1] (by decide +kernel) rfl
  refine va_calli (va_runV (As := [.int p1]) (rest := []) ⟨hx, hb, hml, hown, hts⟩ (qia l dC dI cyB cyI cyJ cyP a0 jch H.size (jcD) (ji6) (jhy) jdE p1 hw) (cwV 1 hts gX1_couldPay_X1_isCaught rfl rfl rfl (by decide +kernel) ⟨nbq rfl, nbq rfl⟩) ⟨qab, va_recv (q := (RX1, TX1, 4)) hK hPc (ci := 1) (q0 := 0) rfl rfl, qae hPc hK hDc hNw⟩ rfl rfl hl.1 rfl (lv_room (nbq rfl)) (qaa qfy 2 rfl) ⟨nbq rfl, nbq rfl⟩) hS (fun q _ h => hFc q h) hFc (fun r1 u t H1 locs ht hvm hw hB hz1 hk1 hS => ?_)
  obtain ⟨hP1, hK1, hD1⟩ := hB
  rw [ht] at hP1
  obtain ⟨hP, hD⟩ := qah (wr := []) (w1 := (quD a0 jch jcD ji6 jhy jch cyI jdE)) (wn := (quD a0 jch jcD ji6 jhy jch cyI jdE)) hP hD [0, 1] [] hCc rfl (by decide +kernel) (by decide +kernel) rfl hk1 hFc hP1 hD1
  generalize H1 = H at hP hS ⊢
  refine lv_if_ne (tgt := 30) hx hb (qaa qfy 3 rfl) (by decide) (fun c2 => ?_) (fun c2 => ?_)
  · have hw := hw.1 c2
    refine lv_iconst (v := 0) hx hb (qaa qsV 0 rfl) (by decide) ?_
    exact ((W.zret (v := 0) hx hb hr rfl (fun t ht hW => ⟨⟨0, (), rfl, hw, by rw [ht]; exact hP, va_K.moved hW.alike hK, hD⟩, hS.F ht⟩) hS.2.2 (qaa qsV 1 rfl)))
  · have hw := hw.2 c2
    refine lv_aload_n hx hb (qaa qfy 4 rfl) rfl (lv_at hl 0 rfl) ?_
    refine lv_iload_n hx hb (qaa qfy 5 rfl) rfl (lv_at hl 2 rfl) ?_
    obtain ⟨hCc, hPc, hDc, hFc⟩ := qac (ws' := (quD a0 jch jcD ji6 jhy jch cyI jdE)) hP hD hS hA [0, 1] (by decide +kernel) rfl
    refine va_calli (va_runV (As := [.int p2]) (rest := []) ⟨hx, hb, hml, hown, hts⟩ (qia l dC dI cyB cyI cyJ cyP a0 jch H.size (jcD) (ji6) (jhy) jdE p2 hw) (cwV 1 hts gX1_couldPay_X1_isCaught rfl rfl rfl (by decide +kernel) ⟨nbq rfl, nbq rfl⟩) ⟨qab, va_recv (q := (RX1, TX1, 4)) hK hPc (ci := 1) (q0 := 0) rfl rfl, qae hPc hK hDc hNw⟩ rfl rfl hl.1 rfl (lv_room (nbq rfl)) (qaa qfy 6 rfl) ⟨nbq rfl, nbq rfl⟩) hS (fun q _ h => hFc q h) hFc (fun r3 u t H1 locs ht hvm hw hB hz1 hk1 hS => ?_)
    obtain ⟨hP1, hK1, hD1⟩ := hB
    rw [ht] at hP1
    obtain ⟨hP, hD⟩ := qah (wr := []) (w1 := (quD a0 jch jcD ji6 jhy jch cyI jdE)) (wn := (quD a0 jch jcD ji6 jhy jch cyI jdE)) hP hD [0, 1] [] hCc rfl (by decide +kernel) (by decide +kernel) rfl hk1 hFc hP1 hD1
    generalize H1 = H at hP hS ⊢
    refine lv_if_ne (tgt := 30) hx hb (qaa qfy 7 rfl) (by decide) (fun c4 => ?_) (fun c4 => ?_)
    · have hw := hw.1 c4
      refine lv_iconst (v := 0) hx hb (qaa qsV 0 rfl) (by decide) ?_
      exact ((W.zret (v := 0) hx hb hr rfl (fun t ht hW => ⟨⟨0, (), rfl, hw, by rw [ht]; exact hP, va_K.moved hW.alike hK, hD⟩, hS.F ht⟩) hS.2.2 (qaa qsV 1 rfl)))
    · have hw := hw.2 c4
      refine lv_aload_n hx hb (qaa qfy 8 rfl) rfl (lv_at hl 0 rfl) ?_
      refine lv_iload_n hx hb (qaa qfy 9 rfl) rfl (lv_at hl 1 rfl) ?_
      refine lv_iload_n hx hb (qaa qfy 10 rfl) rfl (lv_at hl 2 rfl) ?_
      obtain ⟨hCc, hPc, hDc, hFc⟩ := qac (ws' := (quD a0 jch jcD ji6 jhy jch cyI jdE)) hP hD hS hA [0, 1] (by decide +kernel) rfl
      refine va_calli (va_runV (As := [.int p1, .int p2]) (rest := []) ⟨hx, hb, hml, hown, hts⟩ (qGC l dC dI cyB cyI cyJ cyP a0 jch H.size (jcD) (ji6) (jhy) jdE p1 p2 hw) (cwV 2 hts gX1_couldPay_X1_owesTo rfl rfl rfl (by decide +kernel) ⟨nbq rfl, nbq rfl⟩) ⟨qab, va_recv (q := (RX1, TX1, 4)) hK hPc (ci := 1) (q0 := 0) rfl rfl, qae hPc hK hDc hNw⟩ rfl rfl hl.1 rfl (lv_room (nbq rfl)) (qaa qfy 11 rfl) ⟨nbq rfl, nbq rfl⟩) hS (fun q _ h => hFc q h) hFc (fun r5 u t H1 locs ht hvm hw hB hz1 hk1 hS => ?_)
      obtain ⟨hP1, hK1, hD1⟩ := hB
      rw [ht] at hP1
      obtain ⟨hP, hD⟩ := qah (wr := []) (w1 := (quD a0 jch jcD ji6 jhy jch cyI jdE)) (wn := (quD a0 jch jcD ji6 jhy jch cyI jdE)) hP hD [0, 1] [] hCc rfl (by decide +kernel) (by decide +kernel) rfl hk1 hFc hP1 hD1
      generalize H1 = H at hP hS ⊢
      refine lv_iload_n hx hb (qaa qfy 12 rfl) rfl (lv_at hl 3 rfl) ?_
      refine lv_icmp_lt (tgt := 30) hx hb (qaa qfy 13 rfl) (by decide) (fun c6 => ?_) (fun c6 => ?_)
      · have hw := hw.1 c6
        refine lv_iconst (v := 0) hx hb (qaa qsV 0 rfl) (by decide) ?_
        exact ((W.zret (v := 0) hx hb hr rfl (fun t ht hW => ⟨⟨0, (), rfl, hw, by rw [ht]; exact hP, va_K.moved hW.alike hK, hD⟩, hS.F ht⟩) hS.2.2 (qaa qsV 1 rfl)))
      · have hw := hw.2 c6
        refine lv_iconst (v := 1) hx hb (qaa qfy 14 rfl) (by decide) ?_
        refine lv_goto (tgt := 31) hx hb (qaa qfy 15 rfl) (by decide) ?_
        exact ((W.zret (v := 1) hx hb hr rfl (fun t ht hW => ⟨⟨1, (), rfl, hw, by rw [ht]; exact hP, va_K.moved hW.alike hK, hD⟩, hS.F ht⟩) hS.2.2 (qaa qsV 1 rfl)))
theorem qqj : ∀ w ∈ u_ws RX9 TX9 12, w ∈ wsX9_isAllowed := uiM qod euX9 (by decide +kernel)
theorem qabc : (.fieldLink RX9 11 "MarchHares$Work" "kinds" "[I" : Cond) ∈ wsX9_isAllowed := qod 266 (by decide +kernel)
theorem qFc : (.fieldLink RX9 15 "MarchHares$Work" "first" "[I" : Cond) ∈ wsX9_isAllowed := qod 267 (by decide +kernel)
theorem qFo : (.fieldLink RX9 18 "MarchHares$Work" "second" "[I" : Cond) ∈ wsX9_isAllowed := qod 268 (by decide +kernel)
theorem qabq : (.fieldLink RX9 21 "MarchHares$Work" "third" "[I" : Cond) ∈ wsX9_isAllowed := qod 269 (by decide +kernel)
set_option maxHeartbeats 4000000 in
set_option maxRecDepth 100000 in
theorem qaAj (l : Launch) (dC : Nat → ClassId) (dI : Nat → Nat → Nat) (cyB cyI cyJ cyP : ClassId) (a0 a2 jbU jnX jgD jgh jnP jon joo jo0 jox joB joy jop jho sz : Nat) (jme jkw jjf joE ja4 ja0 jaH jaF jnW jor jos jot joM jof jou jog joh jo5 : Value) (jdC joK jiX jiG : NI) (jnR : Int32) (joQ joR : NI) (joS : Int32) (joV joT jjg joJ joN : NI) (p1 : Int32) {Q : Int32 → NI → NI → Prop} (hw : qQl jdC joK jiX jiG jnR joQ joR joS joV joT jjg joJ joN p1 Q) : Met l yX9_isAllowed wsX9_isAllowed ({ frames := 4, cells := 0, slots := 0, locals := 99 }) (va_Pc [.ref a0, .int p1, .ref a2] (cPc (dC, dI) (kT cyB cyI cyJ cyP) (qQp a0 jbU jgD jgh jho jme jkw jjf joE ja4 ja0 jaH jaF jbU cyI jdC a2 jnX jnW jnP jo0 jnX cyI joK jgD cyI jiX jgh cyI jiG jnP jon joo jor jos jot joM jof jou jog jnR joh jo5 jon cyI joQ joo cyI joR jo0 joy jop joB jox joS jox cyI joJ joB cyI joN joy cyI joV jop cyI joT jho cyI jjg) sz)) (va_Qi (fun (r : Int32) (u : NI × NI) => Q r u.1 u.2) (cB (dC, dI) (kT cyB cyI cyJ cyP) (va_A (qQp a0 jbU jgD jgh jho jme jkw jjf joE ja4 ja0 jaH jaF jbU cyI jdC a2 jnX jnW jnP jo0 jnX cyI joK jgD cyI jiX jgh cyI jiG jnP jon joo jor jos jot joM jof jou jog jnR joh jo5 jon cyI joQ joo cyI joR jo0 joy jop joB jox joS jox cyI joJ joB cyI joN joy cyI joV jop cyI joT jho cyI jjg) sz) (fun u : NI × NI => ((qQp a0 jbU jgD jgh jho jme jkw jjf joE ja4 ja0 jaH jaF jbU cyI jdC a2 jnX jnW jnP jo0 jnX cyI joK jgD cyI jiX jgh cyI jiG jnP jon joo jor jos jot joM jof jou jog jnR joh jo5 jon cyI joQ joo cyI joR jo0 joy jop joB jox joS jox cyI u.1 joB cyI u.2 joy cyI joV jop cyI joT jho cyI jjg) : va_W))) (va_A (qQp a0 jbU jgD jgh jho jme jkw jjf joE ja4 ja0 jaH jaF jbU cyI jdC a2 jnX jnW jnP jo0 jnX cyI joK jgD cyI jiX jgh cyI jiG jnP jon joo jor jos jot joM jof jou jog jnR joh jo5 jon cyI joQ joo cyI joR jo0 joy jop joB jox joS jox cyI joJ joB cyI joN joy cyI joV jop cyI joT jho cyI jjg) sz)) 0 0 (va_A (qQp a0 jbU jgD jgh jho jme jkw jjf joE ja4 ja0 jaH jaF jbU cyI jdC a2 jnX jnW jnP jo0 jnX cyI joK jgD cyI jiX jgh cyI jiG jnP jon joo jor jos jot joM jof jou jog jnR joh jo5 jon cyI joQ joo cyI joR jo0 joy jop joB jox joS jox cyI joJ joB cyI joN joy cyI joV jop cyI joT jho cyI jjg) sz) := by
  refine Met.ofW (cc := cX9_isAllowed) (maxL := 3) (ret := (some .boolean)) (by decide) rfl ?_
  intro p e s m args below meth c s₁ B hml hv
  obtain ⟨rfl, hsz, hP, hK, hD0, hNw⟩ := hv
  have hx := B.exec
  have hb := B.bytes
  have hr := B.returns
  have hts := atoms_spec (ws := wsX9_isAllowed) B.pre
  have hown : s.vm.findClass RX9 = some m.cls := findClass_of_methodNamed B.named
  have hlocks := B.notSynchronized
  subst hsz
  have hD := hD0.self (sz := s.heap.size)
  generalize hAe : va_A (qQp a0 jbU jgD jgh jho jme jkw jjf joE ja4 ja0 jaH jaF jbU cyI jdC a2 jnX jnW jnP jo0 jnX cyI joK jgD cyI jiX jgh cyI jiG jnP jon joo jor jos jot joM jof jou jog jnR joh jo5 jon cyI joQ joo cyI joR jo0 joy jop joB jox joS jox cyI joJ joB cyI joN joy cyI joV jop cyI joT jho cyI jjg) s.heap.size = A at hD ⊢
  have hA : ∀ q : Nat, s.heap.size ≤ q → A q := fun q h => by rw [← hAe]; exact Or.inr h
  have hS : va_S A s.heap s.heap [] := va_S.rf
  have hP : va_P (dC, dI) vwCl (qQp a0 jbU jgD jgh jho jme jkw jjf joE ja4 ja0 jaH jaF jbU cyI jdC a2 jnX jnW jnP jo0 jnX cyI joK jgD cyI jiX jgh cyI jiG jnP jon joo jor jos jot joM jof jou jog jnR joh jo5 jon cyI joQ joo cyI joR jo0 joy jop joB jox joS jox cyI joJ joB cyI joN joy cyI joV jop cyI joT jho cyI jjg) s.heap := hP
  have hl := lv_entry ([.ref a0, .int p1, .ref a2]) (n := 3) (nbq rfl)
  rw [lg_entry_eq]
  generalize (lg_sl ([.ref a0, .int p1, .ref a2]) ++ List.replicate (3 - (lg_sl ([.ref a0, .int p1, .ref a2])).length) Slot.unset).toArray = ls at hl ⊢
  have hl : lv_has ls 3 [(0, .ref a0), (1, .int p1), (2, .ref a2)] := hl
  have C0 : cfx p s m _ meth c cX9_isAllowed (some .boolean) wsX9_isAllowed RX9 3 A (dC, dI) (kT cyB cyI cyJ cyP) := ⟨hx, hb, hr, hts, hown, hlocks, hml, hA, hK, hNw⟩
  clear hAe
  obtain ⟨H, hH⟩ : ∃ H, H = s.heap := ⟨_, rfl⟩
  rw [← hH] at hP ⊢
  have hS : va_S A s.heap H [] := by rw [hH]; exact va_S.rf
  have hS := hS
  refine lv_aload_n hx hb (qaa qCC 0 rfl) rfl (lv_at hl 0 rfl) ?_
  refine va_get (D := (dC, dI)) (ci := 9) (v := .ref jbU) (C := RX9) (T := TX9) (N := 12) hx hb hts qqj hown hK hP 0 rfl rfl 0 (by decide) (hts _ qabc) (fun _ h9 => h9) rfl (qaa qCC 1 rfl) ?_
  refine lv_iload_n hx hb (qaa qCC 2 rfl) rfl (lv_at hl 1 rfl) ?_
  obtain ⟨hi9, hw⟩ := hw
  refine va_iald hx hb hK hP 1 1 rfl rfl hi9 (qaa qCC 3 rfl) ?_
  refine lv_topi (fun x1 ex1 => ?_)
  have hw := hw x1 ex1
  by_cases c2 : x1.toInt < 0 ∨ 2 < x1.toInt
  · have hw := hw.1 c2
    refine lv_tableOut (tgt := 89) hx hb dX9_isAllowed_6 c2 (by decide) ?_
    refine lv_aload_n hx hb (qaa qe0 5 rfl) rfl (lv_at hl 2 rfl) ?_
    obtain ⟨hCc, hPc, hDc, hFc⟩ := qac (ws' := (qalP a2 jnX jnW jnP jo0 jnX cyI joK)) hP hD hS hA [2, 3] (by decide +kernel) rfl
    refine va_calli (va_runV (As := []) (rest := []) ⟨hx, hb, hml, hown, hts⟩ (qaLz l dC dI cyB cyI cyJ cyP a2 jnX H.size (jnW) (.ref jnP) (.ref jo0) joK hw) (cwV 0 hts gX9_isAllowed_X1_year rfl rfl rfl (by decide +kernel) ⟨nbq rfl, nbq rfl⟩) ⟨qab, va_recv (q := (RX1, TX1, 4)) hK hPc (ci := 1) (q0 := 0) rfl rfl, qae hPc hK hDc hNw⟩ rfl rfl hl.1 rfl (lv_room (nbq rfl)) (qaa qe0 6 rfl) ⟨nbq rfl, nbq rfl⟩) hS (fun q _ h => hFc q h) hFc (fun r3 u t H1 locs ht hvm hw hB hz1 hk1 hS => ?_)
    obtain ⟨hP1, hK1, hD1⟩ := hB
    rw [ht] at hP1
    obtain ⟨hP, hD⟩ := qad (wr := (qaXe a0 jbU jgD jgh jho jme jkw jjf joE ja4 ja0 jaH jaF jbU cyI jdC jgD cyI jiX jgh cyI jiG jnP jon joo jor jos jot joM jof jou jog jnR joh jo5 jon cyI joQ joo cyI joR jo0 joy jop joB jox joS jox cyI joJ joB cyI joN joy cyI joV jop cyI joT jho cyI jjg)) (w1 := (qalP a2 jnX jnW jnP jo0 jnX cyI joK)) (wn := (qQp a0 jbU jgD jgh jho jme jkw jjf joE ja4 ja0 jaH jaF jbU cyI jdC a2 jnX jnW jnP jo0 jnX cyI joK jgD cyI jiX jgh cyI jiG jnP jon joo jor jos jot joM jof jou jog jnR joh jo5 jon cyI joQ joo cyI joR jo0 joy jop joB jox joS jox cyI joJ joB cyI joN joy cyI joV jop cyI joT jho cyI jjg)) hP hD [2, 3] [0, 1, 4, 5, 6, 7, 8, 9, 10, 11, 12, 13, 14] [0, 1, 13, 14, 2, 3, 4, 5, 6, 7, 8, 9, 10, 11, 12] hCc rfl (by decide +kernel) (by decide +kernel) (by decide +kernel) rfl hk1 hFc hP1 hD1
    generalize H1 = H at hP hS ⊢
    refine lv_bipush (v := 40) hx hb (qaa qe0 7 rfl) (by decide) ?_
    refine lv_icmp_ge (tgt := 102) hx hb (qaa qe0 8 rfl) (by decide) (fun c4 => ?_) (fun c4 => ?_)
    · have hw := hw.1 c4
      refine lv_iconst (v := 0) hx hb (qaa qe0 11 rfl) (by decide) ?_
      exact ((W.zret (v := 0) hx hb hr rfl (fun t ht hW => ⟨⟨0, (joJ, joN), rfl, hw, by rw [ht]; exact hP, va_K.moved hW.alike hK, hD⟩, hS.F ht⟩) hS.2.2 (qaa qe0 12 rfl)))
    · have hw := hw.2 c4
      refine lv_iconst (v := 1) hx hb (qaa qe0 9 rfl) (by decide) ?_
      refine lv_goto (tgt := 103) hx hb (qaa qe0 10 rfl) (by decide) ?_
      exact ((W.zret (v := 1) hx hb hr rfl (fun t ht hW => ⟨⟨1, (joJ, joN), rfl, hw, by rw [ht]; exact hP, va_K.moved hW.alike hK, hD⟩, hS.F ht⟩) hS.2.2 (qaa qe0 12 rfl)))
  · have hw := hw.2
    rcases qawZ c2 with c2 | c2 | c2
    · have hw := hw.1 c2
      refine lv_tableIn (tgt := 32) (off := 26) hx hb dX9_isAllowed_6 (by rw [c2]; decide) (by rw [c2]; decide) (by rw [c2]; decide) (by decide) ?_
      refine lv_aload_n hx hb (qaa qc8 0 rfl) rfl (lv_at hl 2 rfl) ?_
      refine lv_aload_n hx hb (qaa qc8 1 rfl) rfl (lv_at hl 0 rfl) ?_
      refine va_get (D := (dC, dI)) (ci := 9) (v := .ref jgD) (C := RX9) (T := TX9) (N := 12) hx hb hts qqj hown hK hP 0 rfl rfl 1 (by decide) (hts _ qFc) (fun _ h9 => h9) rfl (qaa qc8 2 rfl) ?_
      refine lv_iload_n hx hb (qaa qc8 3 rfl) rfl (lv_at hl 1 rfl) ?_
      obtain ⟨hi9, hw⟩ := hw
      refine va_iald hx hb hK hP 4 1 rfl rfl hi9 (qaa qc8 4 rfl) ?_
      refine lv_topi (fun x5 ex5 => ?_)
      have hw := hw x5 ex5
      refine lv_aload_n hx hb (qaa qc8 5 rfl) rfl (lv_at hl 0 rfl) ?_
      refine va_get (D := (dC, dI)) (ci := 9) (v := .ref jgh) (C := RX9) (T := TX9) (N := 12) hx hb hts qqj hown hK hP 0 rfl rfl 2 (by decide) (hts _ qFo) (fun _ h9 => h9) rfl (qaa qc8 6 rfl) ?_
      refine lv_iload_n hx hb (qaa qc8 7 rfl) rfl (lv_at hl 1 rfl) ?_
      obtain ⟨hi9, hw⟩ := hw
      refine va_iald hx hb hK hP 5 1 rfl rfl hi9 (qaa qc8 8 rfl) ?_
      refine lv_topi (fun x6 ex6 => ?_)
      have hw := hw x6 ex6
      obtain ⟨hCc, hPc, hDc, hFc⟩ := qac (ws' := (qa5Q a2 jnX jnW jnP jo0 jnX cyI joK jnP jon joo jor jos jot joM jof jou jog jnR joh jo5 jon cyI joQ joo cyI joR jo0 joy jop joB jox joS jox cyI joJ joB cyI joN joy cyI joV jop cyI joT)) hP hD hS hA [2, 3, 6, 7, 8, 9, 10, 11, 12, 13] (by decide +kernel) rfl
      refine va_calli (va_runV (As := [.int x5, .int x6]) (rest := []) ⟨hx, hb, hml, hown, hts⟩ (qRp l dC dI cyB cyI cyJ cyP a2 jnX jnP jon joo jo0 jox joB joy jop H.size (jnW) (jor) (jos) (jot) (joM) (jof) (jou) (jog) (joh) (jo5) joK jnR joQ joR joS joV joT joJ joN x5 x6 hw) (cwV 2 hts gX9_isAllowed_X1_couldLeap rfl rfl rfl (by decide +kernel) ⟨nbq rfl, nbq rfl⟩) ⟨qab, va_recv (q := (RX1, TX1, 4)) hK hPc (ci := 1) (q0 := 0) rfl rfl, qae hPc hK hDc hNw⟩ rfl rfl hl.1 rfl (lv_room (nbq rfl)) (qaa qc8 9 rfl) ⟨nbq rfl, nbq rfl⟩) hS (fun q _ h => hFc q h) hFc (fun r9 u t H1 locs ht hvm hw hB hz1 hk1 hS => ?_)
      obtain ⟨f7, f8⟩ := u
      obtain ⟨hP1, hK1, hD1⟩ := hB
      rw [ht] at hP1
      obtain ⟨hP, hD⟩ := qad (wr := (qa8N a0 jbU jgD jgh jho jme jkw jjf joE ja4 ja0 jaH jaF jbU cyI jdC jgD cyI jiX jgh cyI jiG jho cyI jjg)) (w1 := (qa5Q a2 jnX jnW jnP jo0 jnX cyI joK jnP jon joo jor jos jot joM jof jou jog jnR joh jo5 jon cyI joQ joo cyI joR jo0 joy jop joB jox joS jox cyI f7 joB cyI f8 joy cyI joV jop cyI joT)) (wn := (qQp a0 jbU jgD jgh jho jme jkw jjf joE ja4 ja0 jaH jaF jbU cyI jdC a2 jnX jnW jnP jo0 jnX cyI joK jgD cyI jiX jgh cyI jiG jnP jon joo jor jos jot joM jof jou jog jnR joh jo5 jon cyI joQ joo cyI joR jo0 joy jop joB jox joS jox cyI f7 joB cyI f8 joy cyI joV jop cyI joT jho cyI jjg)) hP hD [2, 3, 6, 7, 8, 9, 10, 11, 12, 13] [0, 1, 4, 5, 14] [0, 1, 5, 6, 2, 3, 7, 8, 9, 10, 11, 12, 13, 14, 4] hCc rfl (by decide +kernel) (by decide +kernel) (by decide +kernel) rfl hk1 hFc hP1 hD1
      generalize H1 = H at hP hS ⊢
      obtain ⟨hn9, hw⟩ := hw
      exact ((W.zret (v := r9) hx hb hr hn9 (fun t ht hW => ⟨⟨r9, (f7, f8), rfl, hw, by rw [ht]; exact hP, va_K.moved hW.alike hK, hD⟩, hS.F ht⟩) hS.2.2 (qaa qc8 10 rfl)))
    · have hw := hw.2.1 c2
      refine lv_tableIn (tgt := 49) (off := 43) hx hb dX9_isAllowed_6 (by rw [c2]; decide) (by rw [c2]; decide) (by rw [c2]; decide) (by decide) ?_
      refine lv_aload_n hx hb (qaa qc8 11 rfl) rfl (lv_at hl 2 rfl) ?_
      refine lv_aload_n hx hb (qaa qc8 12 rfl) rfl (lv_at hl 0 rfl) ?_
      refine va_get (D := (dC, dI)) (ci := 9) (v := .ref jgD) (C := RX9) (T := TX9) (N := 12) hx hb hts qqj hown hK hP 0 rfl rfl 1 (by decide) (hts _ qFc) (fun _ h9 => h9) rfl (qaa qc8 13 rfl) ?_
      refine lv_iload_n hx hb (qaa qc8 14 rfl) rfl (lv_at hl 1 rfl) ?_
      obtain ⟨hi9, hw⟩ := hw
      refine va_iald hx hb hK hP 4 1 rfl rfl hi9 (qaa qc8 15 rfl) ?_
      refine lv_topi (fun x10 ex10 => ?_)
      have hw := hw x10 ex10
      refine lv_aload_n hx hb (qaa qdc 0 rfl) rfl (lv_at hl 0 rfl) ?_
      refine va_get (D := (dC, dI)) (ci := 9) (v := .ref jgh) (C := RX9) (T := TX9) (N := 12) hx hb hts qqj hown hK hP 0 rfl rfl 2 (by decide) (hts _ qFo) (fun _ h9 => h9) rfl (qaa qdc 1 rfl) ?_
      refine lv_iload_n hx hb (qaa qdc 2 rfl) rfl (lv_at hl 1 rfl) ?_
      obtain ⟨hi9, hw⟩ := hw
      refine va_iald hx hb hK hP 5 1 rfl rfl hi9 (qaa qdc 3 rfl) ?_
      refine lv_topi (fun x11 ex11 => ?_)
      have hw := hw x11 ex11
      obtain ⟨hCc, hPc, hDc, hFc⟩ := qac (ws' := (qalP a2 jnX jnW jnP jo0 jnX cyI joK)) hP hD hS hA [2, 3] (by decide +kernel) rfl
      refine va_calli (va_runV (As := [.int x10, .int x11]) (rest := []) ⟨hx, hb, hml, hown, hts⟩ (qZd l dC dI cyB cyI cyJ cyP a2 jnX H.size (jnW) (.ref jnP) (.ref jo0) joK x10 x11 hw) (cwV 2 hts gX9_isAllowed_X1_couldFight rfl rfl rfl (by decide +kernel) ⟨nbq rfl, nbq rfl⟩) ⟨qab, va_recv (q := (RX1, TX1, 4)) hK hPc (ci := 1) (q0 := 0) rfl rfl, qae hPc hK hDc hNw⟩ rfl rfl hl.1 rfl (lv_room (nbq rfl)) (qaa qdc 4 rfl) ⟨nbq rfl, nbq rfl⟩) hS (fun q _ h => hFc q h) hFc (fun r12 u t H1 locs ht hvm hw hB hz1 hk1 hS => ?_)
      obtain ⟨hP1, hK1, hD1⟩ := hB
      rw [ht] at hP1
      obtain ⟨hP, hD⟩ := qad (wr := (qaXe a0 jbU jgD jgh jho jme jkw jjf joE ja4 ja0 jaH jaF jbU cyI jdC jgD cyI jiX jgh cyI jiG jnP jon joo jor jos jot joM jof jou jog jnR joh jo5 jon cyI joQ joo cyI joR jo0 joy jop joB jox joS jox cyI joJ joB cyI joN joy cyI joV jop cyI joT jho cyI jjg)) (w1 := (qalP a2 jnX jnW jnP jo0 jnX cyI joK)) (wn := (qQp a0 jbU jgD jgh jho jme jkw jjf joE ja4 ja0 jaH jaF jbU cyI jdC a2 jnX jnW jnP jo0 jnX cyI joK jgD cyI jiX jgh cyI jiG jnP jon joo jor jos jot joM jof jou jog jnR joh jo5 jon cyI joQ joo cyI joR jo0 joy jop joB jox joS jox cyI joJ joB cyI joN joy cyI joV jop cyI joT jho cyI jjg)) hP hD [2, 3] [0, 1, 4, 5, 6, 7, 8, 9, 10, 11, 12, 13, 14] [0, 1, 13, 14, 2, 3, 4, 5, 6, 7, 8, 9, 10, 11, 12] hCc rfl (by decide +kernel) (by decide +kernel) (by decide +kernel) rfl hk1 hFc hP1 hD1
      generalize H1 = H at hP hS ⊢
      obtain ⟨hn9, hw⟩ := hw
      exact ((W.zret (v := r12) hx hb hr hn9 (fun t ht hW => ⟨⟨r12, (joJ, joN), rfl, hw, by rw [ht]; exact hP, va_K.moved hW.alike hK, hD⟩, hS.F ht⟩) hS.2.2 (qaa qdc 5 rfl)))
    · have hw := hw.2.2 c2
      refine lv_tableIn (tgt := 66) (off := 60) hx hb dX9_isAllowed_6 (by rw [c2]; decide) (by rw [c2]; decide) (by rw [c2]; decide) (by decide) ?_
      refine lv_aload_n hx hb (qaa qdc 6 rfl) rfl (lv_at hl 2 rfl) ?_
      refine lv_aload_n hx hb (qaa qdc 7 rfl) rfl (lv_at hl 0 rfl) ?_
      refine va_get (D := (dC, dI)) (ci := 9) (v := .ref jgD) (C := RX9) (T := TX9) (N := 12) hx hb hts qqj hown hK hP 0 rfl rfl 1 (by decide) (hts _ qFc) (fun _ h9 => h9) rfl (qaa qdc 8 rfl) ?_
      refine lv_iload_n hx hb (qaa qdc 9 rfl) rfl (lv_at hl 1 rfl) ?_
      obtain ⟨hi9, hw⟩ := hw
      refine va_iald hx hb hK hP 4 1 rfl rfl hi9 (qaa qdc 10 rfl) ?_
      refine lv_topi (fun x13 ex13 => ?_)
      have hw := hw x13 ex13
      refine lv_aload_n hx hb (qaa qdc 11 rfl) rfl (lv_at hl 0 rfl) ?_
      refine va_get (D := (dC, dI)) (ci := 9) (v := .ref jgh) (C := RX9) (T := TX9) (N := 12) hx hb hts qqj hown hK hP 0 rfl rfl 2 (by decide) (hts _ qFo) (fun _ h9 => h9) rfl (qaa qdc 12 rfl) ?_
      refine lv_iload_n hx hb (qaa qdc 13 rfl) rfl (lv_at hl 1 rfl) ?_
      obtain ⟨hi9, hw⟩ := hw
      refine va_iald hx hb hK hP 5 1 rfl rfl hi9 (qaa qdc 14 rfl) ?_
      refine lv_topi (fun x14 ex14 => ?_)
      have hw := hw x14 ex14
      refine lv_aload_n hx hb (qaa qdc 15 rfl) rfl (lv_at hl 0 rfl) ?_
      refine va_get (D := (dC, dI)) (ci := 9) (v := .ref jho) (C := RX9) (T := TX9) (N := 12) hx hb hts qqj hown hK hP 0 rfl rfl 3 (by decide) (hts _ qabq) (fun _ h9 => h9) rfl (qaa qe0 0 rfl) ?_
      refine lv_iload_n hx hb (qaa qe0 1 rfl) rfl (lv_at hl 1 rfl) ?_
      obtain ⟨hi9, hw⟩ := hw
      refine va_iald hx hb hK hP 14 1 rfl rfl hi9 (qaa qe0 2 rfl) ?_
      refine lv_topi (fun x15 ex15 => ?_)
      have hw := hw x15 ex15
      obtain ⟨hCc, hPc, hDc, hFc⟩ := qac (ws' := (qalP a2 jnX jnW jnP jo0 jnX cyI joK)) hP hD hS hA [2, 3] (by decide +kernel) rfl
      refine va_calli (va_runV (As := [.int x13, .int x14, .int x15]) (rest := []) ⟨hx, hb, hml, hown, hts⟩ (qaHb l dC dI cyB cyI cyJ cyP a2 jnX H.size (jnW) (.ref jnP) (.ref jo0) joK x13 x14 x15 hw) (cwV 3 hts gX9_isAllowed_X1_couldPay rfl rfl rfl (by decide +kernel) ⟨nbq rfl, nbq rfl⟩) ⟨qab, va_recv (q := (RX1, TX1, 4)) hK hPc (ci := 1) (q0 := 0) rfl rfl, qae hPc hK hDc hNw⟩ rfl rfl hl.1 rfl (lv_room (nbq rfl)) (qaa qe0 3 rfl) ⟨nbq rfl, nbq rfl⟩) hS (fun q _ h => hFc q h) hFc (fun r16 u t H1 locs ht hvm hw hB hz1 hk1 hS => ?_)
      obtain ⟨hP1, hK1, hD1⟩ := hB
      rw [ht] at hP1
      obtain ⟨hP, hD⟩ := qad (wr := (qaXe a0 jbU jgD jgh jho jme jkw jjf joE ja4 ja0 jaH jaF jbU cyI jdC jgD cyI jiX jgh cyI jiG jnP jon joo jor jos jot joM jof jou jog jnR joh jo5 jon cyI joQ joo cyI joR jo0 joy jop joB jox joS jox cyI joJ joB cyI joN joy cyI joV jop cyI joT jho cyI jjg)) (w1 := (qalP a2 jnX jnW jnP jo0 jnX cyI joK)) (wn := (qQp a0 jbU jgD jgh jho jme jkw jjf joE ja4 ja0 jaH jaF jbU cyI jdC a2 jnX jnW jnP jo0 jnX cyI joK jgD cyI jiX jgh cyI jiG jnP jon joo jor jos jot joM jof jou jog jnR joh jo5 jon cyI joQ joo cyI joR jo0 joy jop joB jox joS jox cyI joJ joB cyI joN joy cyI joV jop cyI joT jho cyI jjg)) hP hD [2, 3] [0, 1, 4, 5, 6, 7, 8, 9, 10, 11, 12, 13, 14] [0, 1, 13, 14, 2, 3, 4, 5, 6, 7, 8, 9, 10, 11, 12] hCc rfl (by decide +kernel) (by decide +kernel) (by decide +kernel) rfl hk1 hFc hP1 hD1
      generalize H1 = H at hP hS ⊢
      obtain ⟨hn9, hw⟩ := hw
      exact ((W.zret (v := r16) hx hb hr hn9 (fun t ht hW => ⟨⟨r16, (joJ, joN), rfl, hw, by rw [ht]; exact hP, va_K.moved hW.alike hK, hD⟩, hS.F ht⟩) hS.2.2 (qaa qe0 4 rfl)))
theorem qaqd : ∀ w ∈ u_ws RX1 TX1 4, w ∈ wsX1_payBack := uiM qaoD qWc (by decide +kernel)
theorem qalh : (.fieldLink RX1 13 "MarchHares$Days" "row" "[I" : Cond) ∈ wsX1_payBack := qaoD 276 (by decide +kernel)
set_option maxHeartbeats 4000000 in
set_option maxRecDepth 100000 in
theorem qaNn (l : Launch) (dC : Nat → ClassId) (dI : Nat → Nat → Nat) (cyB cyI cyJ cyP : ClassId) (a0 jch sz : Nat) (jcD ji6 jhy : Value) (jdE : NI) (p1 p2 p3 : Int32) {Q : NI → Prop} (hw : qYk jdE p1 p2 p3 Q) : Met l yX1_payBack wsX1_payBack ({ frames := 0, cells := 0, slots := 0, locals := 0 }) (va_Pc [.ref a0, .int p1, .int p2, .int p3] (cPc (dC, dI) (kT cyB cyI cyJ cyP) (quD a0 jch jcD ji6 jhy jch cyI jdE) sz)) (va_Qv (fun (u : NI) => Q u) (cB (dC, dI) (kT cyB cyI cyJ cyP) (va_A (quD a0 jch jcD ji6 jhy jch cyI jdE) sz) (fun u : NI => ((quD a0 jch jcD ji6 jhy jch cyI u) : va_W))) (va_A (quD a0 jch jcD ji6 jhy jch cyI jdE) sz)) 0 0 (va_A (quD a0 jch jcD ji6 jhy jch cyI jdE) sz) := by
  refine Met.ofW (cc := cX1_payBack) (maxL := 4) (ret := none) (by decide) rfl ?_
  intro p e s m args below meth c s₁ B hml hv
  obtain ⟨rfl, hsz, hP, hK, hD0, hNw⟩ := hv
  have hx := B.exec
  have hb := B.bytes
  have hr := B.returns
  have hts := atoms_spec (ws := wsX1_payBack) B.pre
  have hown : s.vm.findClass RX1 = some m.cls := findClass_of_methodNamed B.named
  have hlocks := B.notSynchronized
  subst hsz
  have hD := hD0.self (sz := s.heap.size)
  generalize hAe : va_A (quD a0 jch jcD ji6 jhy jch cyI jdE) s.heap.size = A at hD ⊢
  have hA : ∀ q : Nat, s.heap.size ≤ q → A q := fun q h => by rw [← hAe]; exact Or.inr h
  have hS : va_S A s.heap s.heap [] := va_S.rf
  have hP : va_P (dC, dI) vwCl (quD a0 jch jcD ji6 jhy jch cyI jdE) s.heap := hP
  have hl := lv_entry ([.ref a0, .int p1, .int p2, .int p3]) (n := 4) (nbq rfl)
  rw [lg_entry_eq]
  generalize (lg_sl ([.ref a0, .int p1, .int p2, .int p3]) ++ List.replicate (4 - (lg_sl ([.ref a0, .int p1, .int p2, .int p3])).length) Slot.unset).toArray = ls at hl ⊢
  have hl : lv_has ls 4 [(0, .ref a0), (1, .int p1), (2, .int p2), (3, .int p3)] := hl
  have C0 : cfx p s m _ meth c cX1_payBack none wsX1_payBack RX1 4 A (dC, dI) (kT cyB cyI cyJ cyP) := ⟨hx, hb, hr, hts, hown, hlocks, hml, hA, hK, hNw⟩
  clear hAe
  obtain ⟨H, hH⟩ : ∃ H, H = s.heap := ⟨_, rfl⟩
  rw [← hH] at hP ⊢
  have hS : va_S A s.heap H [] := by rw [hH]; exact va_S.rf
  have hS := hS
  refine lv_aload_n hx hb (qaa qik 0 rfl) rfl (lv_at hl 0 rfl) ?_
  refine va_get (D := (dC, dI)) (ci := 1) (v := .ref jch) (C := RX1) (T := TX1) (N := 4) hx hb hts qaqd hown hK hP 0 rfl rfl 0 (by decide) (hts _ qalh) (fun _ h9 => h9) rfl (qaa qik 1 rfl) ?_
  refine lv_bipush (v := 28) hx hb (qaa qik 2 rfl) (by decide) ?_
  refine lv_iload_n hx hb (qaa qik 3 rfl) rfl (lv_at hl 1 rfl) ?_
  refine lv_bipush (v := 6) hx hb (qaa qik 4 rfl) (by decide) ?_
  refine lv_imul hx hb (qaa qik 5 rfl) ?_
  refine lv_iadd hx hb (qaa qik 6 rfl) ?_
  refine lv_topi (fun x1 ex1 => ?_)
  have hw := hw x1 ex1
  refine lv_iload_n hx hb (qaa qik 7 rfl) rfl (lv_at hl 2 rfl) ?_
  refine lv_iadd hx hb (qaa qik 8 rfl) ?_
  refine lv_topi (fun x2 ex2 => ?_)
  have hw := hw x2 ex2
  refine lv_dup2_11 hx hb (qaa qik 9 rfl) rfl rfl ?_
  obtain ⟨hi9, hw⟩ := hw
  refine va_iald hx hb hK hP 1 1 rfl rfl hi9 (qaa qik 10 rfl) ?_
  refine lv_topi (fun x3 ex3 => ?_)
  have hw := hw x3 ex3
  refine lv_iload_n hx hb (qaa qik 11 rfl) rfl (lv_at hl 3 rfl) ?_
  refine lv_isub hx hb (qaa qik 12 rfl) ?_
  refine lv_topi (fun x4 ex4 => ?_)
  have hw := hw x4 ex4
  obtain ⟨hi9, hw⟩ := hw
  refine va_iast hx hb hK hP hD hS 1 1 rfl rfl hi9 (qaa qik 13 rfl) (fun H locs hP hD hS => ?_)
  obtain ⟨f5, ef5⟩ : ∃ y : NI, y = upd jdE x2.toNatClampNeg x4 := ⟨_, rfl⟩
  have hw := hw f5 ef5
  have hP : va_P (dC, dI) vwCl (quD a0 jch jcD ji6 jhy jch cyI f5) H := by rw [ef5]; exact hP
  have hD : va_D A (quD a0 jch jcD ji6 jhy jch cyI f5) := by rw [ef5]; exact hD
  exact ((W.vret hx hb hr (fun t ht hW => ⟨⟨(f5), rfl, hw, by rw [ht]; exact hP, va_K.moved hW.alike hK, hD⟩, hS.F ht⟩) hS.2.2 (qaa qik 14 rfl)))
theorem qt6 : ∀ w ∈ u_ws RX9 TX9 12, w ∈ wsX9_doStep := uiM qts euX9 (by decide +kernel)
theorem qatU : (.fieldLink RX9 11 "MarchHares$Work" "kinds" "[I" : Cond) ∈ wsX9_doStep := qts 266 (by decide +kernel)
theorem qMJ : (.fieldLink RX9 15 "MarchHares$Work" "first" "[I" : Cond) ∈ wsX9_doStep := qts 267 (by decide +kernel)
theorem qL1 : (.fieldLink RX9 18 "MarchHares$Work" "second" "[I" : Cond) ∈ wsX9_doStep := qts 268 (by decide +kernel)
theorem qapa : (.fieldLink RX9 21 "MarchHares$Work" "third" "[I" : Cond) ∈ wsX9_doStep := qts 269 (by decide +kernel)
set_option maxHeartbeats 4000000 in
set_option maxRecDepth 100000 in
theorem qaWd (l : Launch) (dC : Nat → ClassId) (dI : Nat → Nat → Nat) (cyB cyI cyJ cyP : ClassId) (a0 a2 jbU jnP jnX jnU jgD jgh jho sz : Nat) (jme jkw jjf joE ja4 ja0 jaH jaF jnW jpe jo1 jo2 jor jos jot jof jou jog joh : Value) (jdC : NI) (jnR joW : Int32) (joG jiX jiG jjg joK : NI) (p1 : Int32) {Q : NI → Prop} (hw : q3A jdC jnR joW joG jiX jiG jjg joK p1 Q) : Met l yX9_doStep wsX9_doStep ({ frames := 5, cells := 0, slots := 0, locals := 107 }) (va_Pc [.ref a0, .int p1, .ref a2] (cPc (dC, dI) (kT cyB cyI cyJ cyP) (qQz a0 jbU jgD jgh jho jme jkw jjf joE ja4 ja0 jaH jaF jbU cyI jdC a2 jnX jnW jnP jpe jnP jo1 jo2 jor jos jot jnU jof jou jog jnR joh joW jnX cyI joK jnU cyI joG jgD cyI jiX jgh cyI jiG jho cyI jjg) sz)) (va_Qv (fun (u : NI) => Q u) (cB (dC, dI) (kT cyB cyI cyJ cyP) (va_A (qQz a0 jbU jgD jgh jho jme jkw jjf joE ja4 ja0 jaH jaF jbU cyI jdC a2 jnX jnW jnP jpe jnP jo1 jo2 jor jos jot jnU jof jou jog jnR joh joW jnX cyI joK jnU cyI joG jgD cyI jiX jgh cyI jiG jho cyI jjg) sz) (fun u : NI => ((qQz a0 jbU jgD jgh jho jme jkw jjf joE ja4 ja0 jaH jaF jbU cyI jdC a2 jnX jnW jnP jpe jnP jo1 jo2 jor jos jot jnU jof jou jog jnR joh joW jnX cyI u jnU cyI joG jgD cyI jiX jgh cyI jiG jho cyI jjg) : va_W))) (va_A (qQz a0 jbU jgD jgh jho jme jkw jjf joE ja4 ja0 jaH jaF jbU cyI jdC a2 jnX jnW jnP jpe jnP jo1 jo2 jor jos jot jnU jof jou jog jnR joh joW jnX cyI joK jnU cyI joG jgD cyI jiX jgh cyI jiG jho cyI jjg) sz)) 0 0 (va_A (qQz a0 jbU jgD jgh jho jme jkw jjf joE ja4 ja0 jaH jaF jbU cyI jdC a2 jnX jnW jnP jpe jnP jo1 jo2 jor jos jot jnU jof jou jog jnR joh joW jnX cyI joK jnU cyI joG jgD cyI jiX jgh cyI jiG jho cyI jjg) sz) := by
  refine Met.ofW (cc := cX9_doStep) (maxL := 3) (ret := none) (by decide) rfl ?_
  intro p e s m args below meth c s₁ B hml hv
  obtain ⟨rfl, hsz, hP, hK, hD0, hNw⟩ := hv
  have hx := B.exec
  have hb := B.bytes
  have hr := B.returns
  have hts := atoms_spec (ws := wsX9_doStep) B.pre
  have hown : s.vm.findClass RX9 = some m.cls := findClass_of_methodNamed B.named
  have hlocks := B.notSynchronized
  subst hsz
  have hD := hD0.self (sz := s.heap.size)
  generalize hAe : va_A (qQz a0 jbU jgD jgh jho jme jkw jjf joE ja4 ja0 jaH jaF jbU cyI jdC a2 jnX jnW jnP jpe jnP jo1 jo2 jor jos jot jnU jof jou jog jnR joh joW jnX cyI joK jnU cyI joG jgD cyI jiX jgh cyI jiG jho cyI jjg) s.heap.size = A at hD ⊢
  have hA : ∀ q : Nat, s.heap.size ≤ q → A q := fun q h => by rw [← hAe]; exact Or.inr h
  have hS : va_S A s.heap s.heap [] := va_S.rf
  have hP : va_P (dC, dI) vwCl (qQz a0 jbU jgD jgh jho jme jkw jjf joE ja4 ja0 jaH jaF jbU cyI jdC a2 jnX jnW jnP jpe jnP jo1 jo2 jor jos jot jnU jof jou jog jnR joh joW jnX cyI joK jnU cyI joG jgD cyI jiX jgh cyI jiG jho cyI jjg) s.heap := hP
  have hl := lv_entry ([.ref a0, .int p1, .ref a2]) (n := 3) (nbq rfl)
  rw [lg_entry_eq]
  generalize (lg_sl ([.ref a0, .int p1, .ref a2]) ++ List.replicate (3 - (lg_sl ([.ref a0, .int p1, .ref a2])).length) Slot.unset).toArray = ls at hl ⊢
  have hl : lv_has ls 3 [(0, .ref a0), (1, .int p1), (2, .ref a2)] := hl
  have C0 : cfx p s m _ meth c cX9_doStep none wsX9_doStep RX9 3 A (dC, dI) (kT cyB cyI cyJ cyP) := ⟨hx, hb, hr, hts, hown, hlocks, hml, hA, hK, hNw⟩
  clear hAe
  obtain ⟨H, hH⟩ : ∃ H, H = s.heap := ⟨_, rfl⟩
  rw [← hH] at hP ⊢
  have hS : va_S A s.heap H [] := by rw [hH]; exact va_S.rf
  have hS := hS
  refine lv_aload_n hx hb (qaa qKZ 0 rfl) rfl (lv_at hl 0 rfl) ?_
  refine va_get (D := (dC, dI)) (ci := 9) (v := .ref jbU) (C := RX9) (T := TX9) (N := 12) hx hb hts qt6 hown hK hP 0 rfl rfl 0 (by decide) (hts _ qatU) (fun _ h9 => h9) rfl (qaa qKZ 1 rfl) ?_
  refine lv_iload_n hx hb (qaa qKZ 2 rfl) rfl (lv_at hl 1 rfl) ?_
  obtain ⟨hi9, hw⟩ := hw
  refine va_iald hx hb hK hP 1 1 rfl rfl hi9 (qaa qKZ 3 rfl) ?_
  refine lv_topi (fun x1 ex1 => ?_)
  have hw := hw x1 ex1
  by_cases c2 : x1.toInt < 0 ∨ 2 < x1.toInt
  · have hw := hw.1 c2
    refine lv_tableOut (tgt := 95) hx hb dX9_doStep_6 c2 (by decide) ?_
    refine lv_aload_n hx hb (qaa qpe 5 rfl) rfl (lv_at hl 2 rfl) ?_
    obtain ⟨hCc, hPc, hDc, hFc⟩ := qac (ws' := (qa5R a2 jnX jnW jnP jpe jnP jo1 jo2 jor jos jot jnU jof jou jog jnR joh joW jnX cyI joK jnU cyI joG)) hP hD hS hA [2, 3, 4, 5] (by decide +kernel) rfl
    refine va_callv (va_runV (As := []) (rest := []) ⟨hx, hb, hml, hown, hts⟩ (qXu l dC dI cyB cyI cyJ cyP a2 jnP jnX jnU H.size (jnW) (jpe) (jo1) (jo2) (jor) (jos) (jot) (jof) (jou) (jog) (joh) jnR joW joG joK hw) (cwV 0 hts gX9_doStep_X1_passDay rfl rfl rfl (by decide +kernel) ⟨nbq rfl, nbq rfl⟩) ⟨qab, va_recv (q := (RX1, TX1, 4)) hK hPc (ci := 1) (q0 := 0) rfl rfl, qae hPc hK hDc hNw⟩ rfl rfl hl.1 rfl (lv_room (nbq rfl)) (qaa qpe 6 rfl) ⟨nbq rfl, nbq rfl⟩) hS (fun q _ h => hFc q h) hFc (fun u t H1 locs ht hvm hw hB hz1 hk1 hS => ?_)
    obtain ⟨f3, rfl⟩ : ∃ z, z = u := ⟨_, rfl⟩
    obtain ⟨hP1, hK1, hD1⟩ := hB
    rw [ht] at hP1
    obtain ⟨hP, hD⟩ := qad (wr := (qa8N a0 jbU jgD jgh jho jme jkw jjf joE ja4 ja0 jaH jaF jbU cyI jdC jgD cyI jiX jgh cyI jiG jho cyI jjg)) (w1 := (qa5R a2 jnX jnW jnP jpe jnP jo1 jo2 jor jos jot jnU jof jou jog jnR joh joW jnX cyI f3 jnU cyI joG)) (wn := (qQz a0 jbU jgD jgh jho jme jkw jjf joE ja4 ja0 jaH jaF jbU cyI jdC a2 jnX jnW jnP jpe jnP jo1 jo2 jor jos jot jnU jof jou jog jnR joh joW jnX cyI f3 jnU cyI joG jgD cyI jiX jgh cyI jiG jho cyI jjg)) hP hD [2, 3, 4, 5] [0, 1, 6, 7, 8] [0, 1, 5, 6, 7, 8, 2, 3, 4] hCc rfl (by decide +kernel) (by decide +kernel) (by decide +kernel) rfl hk1 hFc hP1 hD1
    generalize H1 = H at hP hS ⊢
    exact ((W.vret hx hb hr (fun t ht hW => ⟨⟨(f3), rfl, hw, by rw [ht]; exact hP, va_K.moved hW.alike hK, hD⟩, hS.F ht⟩) hS.2.2 (qaa qpe 7 rfl)))
  · have hw := hw.2
    rcases qawZ c2 with c2 | c2 | c2
    · have hw := hw.1 c2
      refine lv_tableIn (tgt := 32) (off := 26) hx hb dX9_doStep_6 (by rw [c2]; decide) (by rw [c2]; decide) (by rw [c2]; decide) (by decide) ?_
      refine lv_aload_n hx hb (qaa qhi 0 rfl) rfl (lv_at hl 2 rfl) ?_
      refine lv_aload_n hx hb (qaa qhi 1 rfl) rfl (lv_at hl 0 rfl) ?_
      refine va_get (D := (dC, dI)) (ci := 9) (v := .ref jgD) (C := RX9) (T := TX9) (N := 12) hx hb hts qt6 hown hK hP 0 rfl rfl 1 (by decide) (hts _ qMJ) (fun _ h9 => h9) rfl (qaa qhi 2 rfl) ?_
      refine lv_iload_n hx hb (qaa qhi 3 rfl) rfl (lv_at hl 1 rfl) ?_
      obtain ⟨hi9, hw⟩ := hw
      refine va_iald hx hb hK hP 6 1 rfl rfl hi9 (qaa qhi 4 rfl) ?_
      refine lv_topi (fun x4 ex4 => ?_)
      have hw := hw x4 ex4
      refine lv_aload_n hx hb (qaa qhi 5 rfl) rfl (lv_at hl 0 rfl) ?_
      refine va_get (D := (dC, dI)) (ci := 9) (v := .ref jgh) (C := RX9) (T := TX9) (N := 12) hx hb hts qt6 hown hK hP 0 rfl rfl 2 (by decide) (hts _ qL1) (fun _ h9 => h9) rfl (qaa qhi 6 rfl) ?_
      refine lv_iload_n hx hb (qaa qhi 7 rfl) rfl (lv_at hl 1 rfl) ?_
      obtain ⟨hi9, hw⟩ := hw
      refine va_iald hx hb hK hP 7 1 rfl rfl hi9 (qaa qhi 8 rfl) ?_
      refine lv_topi (fun x5 ex5 => ?_)
      have hw := hw x5 ex5
      obtain ⟨hCc, hPc, hDc, hFc⟩ := qac (ws' := (qanX a2 jnX jnW jnP jpe jnX cyI joK)) hP hD hS hA [2, 4] (by decide +kernel) rfl
      refine va_callv (va_runV (As := [.int x4, .int x5]) (rest := []) ⟨hx, hb, hml, hown, hts⟩ (qaol l dC dI cyB cyI cyJ cyP a2 jnX H.size (jnW) (.ref jnP) (jpe) joK x4 x5 hw) (cwV 2 hts gX9_doStep_X1_leapTo rfl rfl rfl (by decide +kernel) ⟨nbq rfl, nbq rfl⟩) ⟨qab, va_recv (q := (RX1, TX1, 4)) hK hPc (ci := 1) (q0 := 0) rfl rfl, qae hPc hK hDc hNw⟩ rfl rfl hl.1 rfl (lv_room (nbq rfl)) (qaa qhi 9 rfl) ⟨nbq rfl, nbq rfl⟩) hS (fun q _ h => hFc q h) hFc (fun u t H1 locs ht hvm hw hB hz1 hk1 hS => ?_)
      obtain ⟨f6, rfl⟩ : ∃ z, z = u := ⟨_, rfl⟩
      obtain ⟨hP1, hK1, hD1⟩ := hB
      rw [ht] at hP1
      obtain ⟨hP, hD⟩ := qad (wr := (qaYI a0 jbU jgD jgh jho jme jkw jjf joE ja4 ja0 jaH jaF jbU cyI jdC jnP jo1 jo2 jor jos jot jnU jof jou jog jnR joh joW jnU cyI joG jgD cyI jiX jgh cyI jiG jho cyI jjg)) (w1 := (qanX a2 jnX jnW jnP jpe jnX cyI f6)) (wn := (qQz a0 jbU jgD jgh jho jme jkw jjf joE ja4 ja0 jaH jaF jbU cyI jdC a2 jnX jnW jnP jpe jnP jo1 jo2 jor jos jot jnU jof jou jog jnR joh joW jnX cyI f6 jnU cyI joG jgD cyI jiX jgh cyI jiG jho cyI jjg)) hP hD [2, 4] [0, 1, 3, 5, 6, 7, 8] [0, 1, 7, 2, 8, 3, 4, 5, 6] hCc rfl (by decide +kernel) (by decide +kernel) (by decide +kernel) rfl hk1 hFc hP1 hD1
      generalize H1 = H at hP hS ⊢
      refine lv_goto (tgt := 99) hx hb (qaa qhi 10 rfl) (by decide) ?_
      exact ((W.vret hx hb hr (fun t ht hW => ⟨⟨(f6), rfl, hw, by rw [ht]; exact hP, va_K.moved hW.alike hK, hD⟩, hS.F ht⟩) hS.2.2 (qaa qpe 7 rfl)))
    · have hw := hw.2.1 c2
      refine lv_tableIn (tgt := 51) (off := 45) hx hb dX9_doStep_6 (by rw [c2]; decide) (by rw [c2]; decide) (by rw [c2]; decide) (by decide) ?_
      refine lv_aload_n hx hb (qaa qhi 11 rfl) rfl (lv_at hl 2 rfl) ?_
      refine lv_aload_n hx hb (qaa qhi 12 rfl) rfl (lv_at hl 0 rfl) ?_
      refine va_get (D := (dC, dI)) (ci := 9) (v := .ref jgD) (C := RX9) (T := TX9) (N := 12) hx hb hts qt6 hown hK hP 0 rfl rfl 1 (by decide) (hts _ qMJ) (fun _ h9 => h9) rfl (qaa qhi 13 rfl) ?_
      refine lv_iload_n hx hb (qaa qhi 14 rfl) rfl (lv_at hl 1 rfl) ?_
      obtain ⟨hi9, hw⟩ := hw
      refine va_iald hx hb hK hP 6 1 rfl rfl hi9 (qaa qhi 15 rfl) ?_
      refine lv_topi (fun x7 ex7 => ?_)
      have hw := hw x7 ex7
      refine lv_aload_n hx hb (qaa qhG 0 rfl) rfl (lv_at hl 0 rfl) ?_
      refine va_get (D := (dC, dI)) (ci := 9) (v := .ref jgh) (C := RX9) (T := TX9) (N := 12) hx hb hts qt6 hown hK hP 0 rfl rfl 2 (by decide) (hts _ qL1) (fun _ h9 => h9) rfl (qaa qhG 1 rfl) ?_
      refine lv_iload_n hx hb (qaa qhG 2 rfl) rfl (lv_at hl 1 rfl) ?_
      obtain ⟨hi9, hw⟩ := hw
      refine va_iald hx hb hK hP 7 1 rfl rfl hi9 (qaa qhG 3 rfl) ?_
      refine lv_topi (fun x8 ex8 => ?_)
      have hw := hw x8 ex8
      obtain ⟨hCc, hPc, hDc, hFc⟩ := qac (ws' := (qanX a2 jnX jnW jnP jpe jnX cyI joK)) hP hD hS hA [2, 4] (by decide +kernel) rfl
      refine va_callv (va_runV (As := [.int x7, .int x8]) (rest := []) ⟨hx, hb, hml, hown, hts⟩ (qax6 l dC dI cyB cyI cyJ cyP a2 jnX H.size (jnW) (.ref jnP) (jpe) joK x7 x8 hw) (cwV 2 hts gX9_doStep_X1_fight rfl rfl rfl (by decide +kernel) ⟨nbq rfl, nbq rfl⟩) ⟨qab, va_recv (q := (RX1, TX1, 4)) hK hPc (ci := 1) (q0 := 0) rfl rfl, qae hPc hK hDc hNw⟩ rfl rfl hl.1 rfl (lv_room (nbq rfl)) (qaa qhG 4 rfl) ⟨nbq rfl, nbq rfl⟩) hS (fun q _ h => hFc q h) hFc (fun u t H1 locs ht hvm hw hB hz1 hk1 hS => ?_)
      obtain ⟨f9, rfl⟩ : ∃ z, z = u := ⟨_, rfl⟩
      obtain ⟨hP1, hK1, hD1⟩ := hB
      rw [ht] at hP1
      obtain ⟨hP, hD⟩ := qad (wr := (qaYI a0 jbU jgD jgh jho jme jkw jjf joE ja4 ja0 jaH jaF jbU cyI jdC jnP jo1 jo2 jor jos jot jnU jof jou jog jnR joh joW jnU cyI joG jgD cyI jiX jgh cyI jiG jho cyI jjg)) (w1 := (qanX a2 jnX jnW jnP jpe jnX cyI f9)) (wn := (qQz a0 jbU jgD jgh jho jme jkw jjf joE ja4 ja0 jaH jaF jbU cyI jdC a2 jnX jnW jnP jpe jnP jo1 jo2 jor jos jot jnU jof jou jog jnR joh joW jnX cyI f9 jnU cyI joG jgD cyI jiX jgh cyI jiG jho cyI jjg)) hP hD [2, 4] [0, 1, 3, 5, 6, 7, 8] [0, 1, 7, 2, 8, 3, 4, 5, 6] hCc rfl (by decide +kernel) (by decide +kernel) (by decide +kernel) rfl hk1 hFc hP1 hD1
      generalize H1 = H at hP hS ⊢
      refine lv_goto (tgt := 99) hx hb (qaa qhG 5 rfl) (by decide) ?_
      exact ((W.vret hx hb hr (fun t ht hW => ⟨⟨(f9), rfl, hw, by rw [ht]; exact hP, va_K.moved hW.alike hK, hD⟩, hS.F ht⟩) hS.2.2 (qaa qpe 7 rfl)))
    · have hw := hw.2.2 c2
      refine lv_tableIn (tgt := 70) (off := 64) hx hb dX9_doStep_6 (by rw [c2]; decide) (by rw [c2]; decide) (by rw [c2]; decide) (by decide) ?_
      refine lv_aload_n hx hb (qaa qhG 6 rfl) rfl (lv_at hl 2 rfl) ?_
      refine lv_aload_n hx hb (qaa qhG 7 rfl) rfl (lv_at hl 0 rfl) ?_
      refine va_get (D := (dC, dI)) (ci := 9) (v := .ref jgD) (C := RX9) (T := TX9) (N := 12) hx hb hts qt6 hown hK hP 0 rfl rfl 1 (by decide) (hts _ qMJ) (fun _ h9 => h9) rfl (qaa qhG 8 rfl) ?_
      refine lv_iload_n hx hb (qaa qhG 9 rfl) rfl (lv_at hl 1 rfl) ?_
      obtain ⟨hi9, hw⟩ := hw
      refine va_iald hx hb hK hP 6 1 rfl rfl hi9 (qaa qhG 10 rfl) ?_
      refine lv_topi (fun x10 ex10 => ?_)
      have hw := hw x10 ex10
      refine lv_aload_n hx hb (qaa qhG 11 rfl) rfl (lv_at hl 0 rfl) ?_
      refine va_get (D := (dC, dI)) (ci := 9) (v := .ref jgh) (C := RX9) (T := TX9) (N := 12) hx hb hts qt6 hown hK hP 0 rfl rfl 2 (by decide) (hts _ qL1) (fun _ h9 => h9) rfl (qaa qhG 12 rfl) ?_
      refine lv_iload_n hx hb (qaa qhG 13 rfl) rfl (lv_at hl 1 rfl) ?_
      obtain ⟨hi9, hw⟩ := hw
      refine va_iald hx hb hK hP 7 1 rfl rfl hi9 (qaa qhG 14 rfl) ?_
      refine lv_topi (fun x11 ex11 => ?_)
      have hw := hw x11 ex11
      refine lv_aload_n hx hb (qaa qhG 15 rfl) rfl (lv_at hl 0 rfl) ?_
      refine va_get (D := (dC, dI)) (ci := 9) (v := .ref jho) (C := RX9) (T := TX9) (N := 12) hx hb hts qt6 hown hK hP 0 rfl rfl 3 (by decide) (hts _ qapa) (fun _ h9 => h9) rfl (qaa qpe 0 rfl) ?_
      refine lv_iload_n hx hb (qaa qpe 1 rfl) rfl (lv_at hl 1 rfl) ?_
      obtain ⟨hi9, hw⟩ := hw
      refine va_iald hx hb hK hP 8 1 rfl rfl hi9 (qaa qpe 2 rfl) ?_
      refine lv_topi (fun x12 ex12 => ?_)
      have hw := hw x12 ex12
      obtain ⟨hCc, hPc, hDc, hFc⟩ := qac (ws' := (qanX a2 jnX jnW jnP jpe jnX cyI joK)) hP hD hS hA [2, 4] (by decide +kernel) rfl
      refine va_callv (va_runV (As := [.int x10, .int x11, .int x12]) (rest := []) ⟨hx, hb, hml, hown, hts⟩ (qaNn l dC dI cyB cyI cyJ cyP a2 jnX H.size (jnW) (.ref jnP) (jpe) joK x10 x11 x12 hw) (cwV 3 hts gX9_doStep_X1_payBack rfl rfl rfl (by decide +kernel) ⟨nbq rfl, nbq rfl⟩) ⟨qab, va_recv (q := (RX1, TX1, 4)) hK hPc (ci := 1) (q0 := 0) rfl rfl, qae hPc hK hDc hNw⟩ rfl rfl hl.1 rfl (lv_room (nbq rfl)) (qaa qpe 3 rfl) ⟨nbq rfl, nbq rfl⟩) hS (fun q _ h => hFc q h) hFc (fun u t H1 locs ht hvm hw hB hz1 hk1 hS => ?_)
      obtain ⟨f13, rfl⟩ : ∃ z, z = u := ⟨_, rfl⟩
      obtain ⟨hP1, hK1, hD1⟩ := hB
      rw [ht] at hP1
      obtain ⟨hP, hD⟩ := qad (wr := (qaYI a0 jbU jgD jgh jho jme jkw jjf joE ja4 ja0 jaH jaF jbU cyI jdC jnP jo1 jo2 jor jos jot jnU jof jou jog jnR joh joW jnU cyI joG jgD cyI jiX jgh cyI jiG jho cyI jjg)) (w1 := (qanX a2 jnX jnW jnP jpe jnX cyI f13)) (wn := (qQz a0 jbU jgD jgh jho jme jkw jjf joE ja4 ja0 jaH jaF jbU cyI jdC a2 jnX jnW jnP jpe jnP jo1 jo2 jor jos jot jnU jof jou jog jnR joh joW jnX cyI f13 jnU cyI joG jgD cyI jiX jgh cyI jiG jho cyI jjg)) hP hD [2, 4] [0, 1, 3, 5, 6, 7, 8] [0, 1, 7, 2, 8, 3, 4, 5, 6] hCc rfl (by decide +kernel) (by decide +kernel) (by decide +kernel) rfl hk1 hFc hP1 hD1
      generalize H1 = H at hP hS ⊢
      refine lv_goto (tgt := 99) hx hb (qaa qpe 4 rfl) (by decide) ?_
      exact ((W.vret hx hb hr (fun t ht hW => ⟨⟨(f13), rfl, hw, by rw [ht]; exact hP, va_K.moved hW.alike hK, hD⟩, hS.F ht⟩) hS.2.2 (qaa qpe 7 rfl)))
theorem qrR : ∀ w ∈ u_ws RX9 TX9 12, w ∈ wsX9_runOn := uiM quw euX9 (by decide +kernel)
theorem qMw : (.fieldLink RX9 102 "MarchHares$Work" "refused" "I" : Cond) ∈ wsX9_runOn := quw 1684 (by decide +kernel)
theorem q3v : (.fieldLink RX9 11 "MarchHares$Work" "kinds" "[I" : Cond) ∈ wsX9_runOn := quw 266 (by decide +kernel)
theorem qaxP : (.fieldLink RX9 37 "MarchHares$Work" "length" "I" : Cond) ∈ wsX9_runOn := quw 1606 (by decide +kernel)
theorem qaxZ : (.fieldLink RX9 40 "MarchHares$Work" "open" "I" : Cond) ∈ wsX9_runOn := quw 1607 (by decide +kernel)
theorem qQh : (.fieldLink RX9 99 "MarchHares$Work" "done" "I" : Cond) ∈ wsX9_runOn := quw 1683 (by decide +kernel)
set_option maxHeartbeats 4000000 in
set_option maxRecDepth 100000 in
theorem qRr {p : Program} {l : Launch} {e : Env} {s : State} {m : MethodId} {args : Array Value} {below : List Frame} {meth : Method} {c : Code} {A : Nat → Prop} (dC : Nat → ClassId) (dI : Nat → Nat → Nat) (cyB cyI cyJ cyP : ClassId) (a0 a1 jbU jjO jgD jgh jjN jjs jjt jlL jjL jj7 jjM jjw jho jlt jlw : Nat) (jme ja4 ja0 jjP jky jkz jkA jkd jkB jna jke : Value) (jb7 : Int32) (jdC jiX jiG : NI) (jh6 jkF : Int32) (jkl jkm : NI) (jka : Int32) (jkx jkb jjg jl5 : NI) (Q : Int32 → Int32 → Int32 → NI → NI → NI → NI → Prop) (K22 : Int32 → Int32 → Int32 → NI → NI → NI → NI → Int32 → Int32 → Int32 → Prop) (hK22 : ∀ (H : Heap) (locs : List Loc) (ls : Array Slot) (jiW jmI jjF : Int32) (jkt jkS jkO jmk : NI) (l2 l3 l4 : Int32), va_P (dC, dI) vwCl (qoY a0 jbU jgD jgh jho jme jlw jb7 jjF ja4 ja0 jiW jmI jbU cyI jdC a1 jjO jjP jjN jlL jjO cyI jkO jgD cyI jiX jgh cyI jiG jjN jjs jjt jky jkz jkA jlt jkd jkB jna jh6 jke jkF jjs cyI jkl jjt cyI jkm jlL jjM jjw jj7 jjL jka jjL cyI jkt jj7 cyI jkS jjM cyI jkx jjw cyI jkb jho cyI jjg jlt cyI jl5 jlw cyI jmk) H → va_D A (qoY a0 jbU jgD jgh jho jme jlw jb7 jjF ja4 ja0 jiW jmI jbU cyI jdC a1 jjO jjP jjN jlL jjO cyI jkO jgD cyI jiX jgh cyI jiG jjN jjs jjt jky jkz jkA jlt jkd jkB jna jh6 jke jkF jjs cyI jkl jjt cyI jkm jlL jjM jjw jj7 jjL jka jjL cyI jkt jj7 cyI jkS jjM cyI jkx jjw cyI jkb jho cyI jjg jlt cyI jl5 jlw cyI jmk) → va_S A s.heap H locs → lv_has ls 5 [(0, .ref a0), (1, .ref a1), (2, .int l2), (3, .int l3), (4, .int l4)] → K22 jiW jmI jjF jkt jkS jkO jmk l2 l3 l4 → W p l e (headSpec wsX9_runOn ({ frames := 6, cells := 0, slots := 0, locals := 129 })).room s m args below meth c H locs 0 0 (MQ below (va_Qv (fun (u : Int32 × Int32 × Int32 × NI × NI × NI × NI) => Q u.1 u.2.1 u.2.2.1 u.2.2.2.1 u.2.2.2.2.1 u.2.2.2.2.2.1 u.2.2.2.2.2.2) (cB (dC, dI) (kT cyB cyI cyJ cyP) A (fun u : Int32 × Int32 × Int32 × NI × NI × NI × NI => ((qoY a0 jbU jgD jgh jho jme jlw jb7 u.2.2.1 ja4 ja0 u.1 u.2.1 jbU cyI jdC a1 jjO jjP jjN jlL jjO cyI u.2.2.2.2.2.1 jgD cyI jiX jgh cyI jiG jjN jjs jjt jky jkz jkA jlt jkd jkB jna jh6 jke jkF jjs cyI jkl jjt cyI jkm jlL jjM jjw jj7 jjL jka jjL cyI u.2.2.2.1 jj7 cyI u.2.2.2.2.1 jjM cyI jkx jjw cyI jkb jho cyI jjg jlt cyI jl5 jlw cyI u.2.2.2.2.2.2) : va_W))) A) args s 0 0 A) (F0 m 22 ls [])) (C0 : cfx p s m args meth c cX9_runOn none wsX9_runOn RX9 5 A (dC, dI) (kT cyB cyI cyJ cyP)) : ∀ (H : Heap) (locs : List Loc) (ls : Array Slot) (jiW jmI jjF : Int32) (jkt jkS jkO jmk : NI) (l2 l3 l4 : Int32), va_P (dC, dI) vwCl (qoY a0 jbU jgD jgh jho jme jlw jb7 jjF ja4 ja0 jiW jmI jbU cyI jdC a1 jjO jjP jjN jlL jjO cyI jkO jgD cyI jiX jgh cyI jiG jjN jjs jjt jky jkz jkA jlt jkd jkB jna jh6 jke jkF jjs cyI jkl jjt cyI jkm jlL jjM jjw jj7 jjL jka jjL cyI jkt jj7 cyI jkS jjM cyI jkx jjw cyI jkb jho cyI jjg jlt cyI jl5 jlw cyI jmk) H → va_D A (qoY a0 jbU jgD jgh jho jme jlw jb7 jjF ja4 ja0 jiW jmI jbU cyI jdC a1 jjO jjP jjN jlL jjO cyI jkO jgD cyI jiX jgh cyI jiG jjN jjs jjt jky jkz jkA jlt jkd jkB jna jh6 jke jkF jjs cyI jkl jjt cyI jkm jlL jjM jjw jj7 jjL jka jjL cyI jkt jj7 cyI jkS jjM cyI jkx jjw cyI jkb jho cyI jjg jlt cyI jl5 jlw cyI jmk) → va_S A s.heap H locs → lv_has ls 5 [(0, .ref a0), (1, .ref a1), (2, .int l2), (3, .int l3), (4, .int l4)] → qG9 jb7 jdC jiX jiG jh6 jkF jkl jkm jka jkx jkb jjg jl5 Q K22 jiW jmI jjF jkt jkS jkO jmk l2 l3 l4 → W p l e (headSpec wsX9_runOn ({ frames := 6, cells := 0, slots := 0, locals := 129 })).room s m args below meth c H locs 0 0 (MQ below (va_Qv (fun (u : Int32 × Int32 × Int32 × NI × NI × NI × NI) => Q u.1 u.2.1 u.2.2.1 u.2.2.2.1 u.2.2.2.2.1 u.2.2.2.2.2.1 u.2.2.2.2.2.2) (cB (dC, dI) (kT cyB cyI cyJ cyP) A (fun u : Int32 × Int32 × Int32 × NI × NI × NI × NI => ((qoY a0 jbU jgD jgh jho jme jlw jb7 u.2.2.1 ja4 ja0 u.1 u.2.1 jbU cyI jdC a1 jjO jjP jjN jlL jjO cyI u.2.2.2.2.2.1 jgD cyI jiX jgh cyI jiG jjN jjs jjt jky jkz jkA jlt jkd jkB jna jh6 jke jkF jjs cyI jkl jjt cyI jkm jlL jjM jjw jj7 jjL jka jjL cyI u.2.2.2.1 jj7 cyI u.2.2.2.2.1 jjM cyI jkx jjw cyI jkb jho cyI jjg jlt cyI jl5 jlw cyI u.2.2.2.2.2.2) : va_W))) A) args s 0 0 A) (F0 m 127 ls []) := by
  obtain ⟨hx, hb, hr, hts, hown, hlocks, hml, hA, hK, hNw⟩ := id C0
  intro H locs ls jiW jmI jjF jkt jkS jkO jmk l2 l3 l4 hP hD hS hl hw
  obtain ⟨x23, ex23⟩ : ∃ y : Int32, y = l4 + 1 := ⟨_, rfl⟩
  have hw := hw x23 ex23
  refine lv_iinc (v := x23) (lv' := [(4, .int x23), (0, .ref a0), (1, .ref a1), (2, .int l2), (3, .int l3)]) hx hb (qaa qoa 7 rfl) hl (k := 4) rfl (by rw [ex23]; rfl) (by decide) rfl (fun ls hl => ?_)
  refine lv_goto (tgt := 22) hx hb (qaa qoa 8 rfl) (by decide) ?_
  exact hK22 _ _ _ jiW jmI jjF jkt jkS jkO jmk l2 l3 x23 hP hD hS (lv_sub hl [1, 2, 3, 4, 0] rfl) hw
set_option maxHeartbeats 4000000 in
set_option maxRecDepth 100000 in
theorem q3e {p : Program} {l : Launch} {e : Env} {s : State} {m : MethodId} {args : Array Value} {below : List Frame} {meth : Method} {c : Code} {A : Nat → Prop} (dC : Nat → ClassId) (dI : Nat → Nat → Nat) (cyB cyI cyJ cyP : ClassId) (a0 a1 jbU jjO jgD jgh jjN jjs jjt jlL jjL jj7 jjM jjw jho jlt jlw : Nat) (jme ja4 ja0 jjP jky jkz jkA jkd jkB jna jke : Value) (jb7 : Int32) (jdC jiX jiG : NI) (jh6 jkF : Int32) (jkl jkm : NI) (jka : Int32) (jkx jkb jjg jl5 : NI) (Q : Int32 → Int32 → Int32 → NI → NI → NI → NI → Prop) (K22 : Int32 → Int32 → Int32 → NI → NI → NI → NI → Int32 → Int32 → Int32 → Prop) (hK22 : ∀ (H : Heap) (locs : List Loc) (ls : Array Slot) (jiW jmI jjF : Int32) (jkt jkS jkO jmk : NI) (l2 l3 l4 : Int32), va_P (dC, dI) vwCl (qoY a0 jbU jgD jgh jho jme jlw jb7 jjF ja4 ja0 jiW jmI jbU cyI jdC a1 jjO jjP jjN jlL jjO cyI jkO jgD cyI jiX jgh cyI jiG jjN jjs jjt jky jkz jkA jlt jkd jkB jna jh6 jke jkF jjs cyI jkl jjt cyI jkm jlL jjM jjw jj7 jjL jka jjL cyI jkt jj7 cyI jkS jjM cyI jkx jjw cyI jkb jho cyI jjg jlt cyI jl5 jlw cyI jmk) H → va_D A (qoY a0 jbU jgD jgh jho jme jlw jb7 jjF ja4 ja0 jiW jmI jbU cyI jdC a1 jjO jjP jjN jlL jjO cyI jkO jgD cyI jiX jgh cyI jiG jjN jjs jjt jky jkz jkA jlt jkd jkB jna jh6 jke jkF jjs cyI jkl jjt cyI jkm jlL jjM jjw jj7 jjL jka jjL cyI jkt jj7 cyI jkS jjM cyI jkx jjw cyI jkb jho cyI jjg jlt cyI jl5 jlw cyI jmk) → va_S A s.heap H locs → lv_has ls 5 [(0, .ref a0), (1, .ref a1), (2, .int l2), (3, .int l3), (4, .int l4)] → K22 jiW jmI jjF jkt jkS jkO jmk l2 l3 l4 → W p l e (headSpec wsX9_runOn ({ frames := 6, cells := 0, slots := 0, locals := 129 })).room s m args below meth c H locs 0 0 (MQ below (va_Qv (fun (u : Int32 × Int32 × Int32 × NI × NI × NI × NI) => Q u.1 u.2.1 u.2.2.1 u.2.2.2.1 u.2.2.2.2.1 u.2.2.2.2.2.1 u.2.2.2.2.2.2) (cB (dC, dI) (kT cyB cyI cyJ cyP) A (fun u : Int32 × Int32 × Int32 × NI × NI × NI × NI => ((qoY a0 jbU jgD jgh jho jme jlw jb7 u.2.2.1 ja4 ja0 u.1 u.2.1 jbU cyI jdC a1 jjO jjP jjN jlL jjO cyI u.2.2.2.2.2.1 jgD cyI jiX jgh cyI jiG jjN jjs jjt jky jkz jkA jlt jkd jkB jna jh6 jke jkF jjs cyI jkl jjt cyI jkm jlL jjM jjw jj7 jjL jka jjL cyI u.2.2.2.1 jj7 cyI u.2.2.2.2.1 jjM cyI jkx jjw cyI jkb jho cyI jjg jlt cyI jl5 jlw cyI u.2.2.2.2.2.2) : va_W))) A) args s 0 0 A) (F0 m 22 ls [])) (C0 : cfx p s m args meth c cX9_runOn none wsX9_runOn RX9 5 A (dC, dI) (kT cyB cyI cyJ cyP)) : ∀ (H : Heap) (locs : List Loc) (ls : Array Slot) (jiW jmI jjF : Int32) (jkt jkS jkO jmk : NI) (l2 l3 l4 : Int32), va_P (dC, dI) vwCl (qoY a0 jbU jgD jgh jho jme jlw jb7 jjF ja4 ja0 jiW jmI jbU cyI jdC a1 jjO jjP jjN jlL jjO cyI jkO jgD cyI jiX jgh cyI jiG jjN jjs jjt jky jkz jkA jlt jkd jkB jna jh6 jke jkF jjs cyI jkl jjt cyI jkm jlL jjM jjw jj7 jjL jka jjL cyI jkt jj7 cyI jkS jjM cyI jkx jjw cyI jkb jho cyI jjg jlt cyI jl5 jlw cyI jmk) H → va_D A (qoY a0 jbU jgD jgh jho jme jlw jb7 jjF ja4 ja0 jiW jmI jbU cyI jdC a1 jjO jjP jjN jlL jjO cyI jkO jgD cyI jiX jgh cyI jiG jjN jjs jjt jky jkz jkA jlt jkd jkB jna jh6 jke jkF jjs cyI jkl jjt cyI jkm jlL jjM jjw jj7 jjL jka jjL cyI jkt jj7 cyI jkS jjM cyI jkx jjw cyI jkb jho cyI jjg jlt cyI jl5 jlw cyI jmk) → va_S A s.heap H locs → lv_has ls 5 [(0, .ref a0), (1, .ref a1), (2, .int l2), (3, .int l3), (4, .int l4)] → qOH jb7 jdC jiX jiG jh6 jkF jkl jkm jka jkx jkb jjg jl5 Q K22 jiW jmI jjF jkt jkS jkO jmk l2 l3 l4 → W p l e (headSpec wsX9_runOn ({ frames := 6, cells := 0, slots := 0, locals := 129 })).room s m args below meth c H locs 0 0 (MQ below (va_Qv (fun (u : Int32 × Int32 × Int32 × NI × NI × NI × NI) => Q u.1 u.2.1 u.2.2.1 u.2.2.2.1 u.2.2.2.2.1 u.2.2.2.2.2.1 u.2.2.2.2.2.2) (cB (dC, dI) (kT cyB cyI cyJ cyP) A (fun u : Int32 × Int32 × Int32 × NI × NI × NI × NI => ((qoY a0 jbU jgD jgh jho jme jlw jb7 u.2.2.1 ja4 ja0 u.1 u.2.1 jbU cyI jdC a1 jjO jjP jjN jlL jjO cyI u.2.2.2.2.2.1 jgD cyI jiX jgh cyI jiG jjN jjs jjt jky jkz jkA jlt jkd jkB jna jh6 jke jkF jjs cyI jkl jjt cyI jkm jlL jjM jjw jj7 jjL jka jjL cyI u.2.2.2.1 jj7 cyI u.2.2.2.2.1 jjM cyI jkx jjw cyI jkb jho cyI jjg jlt cyI jl5 jlw cyI u.2.2.2.2.2.2) : va_W))) A) args s 0 0 A) (F0 m 124 ls []) := by
  obtain ⟨hx, hb, hr, hts, hown, hlocks, hml, hA, hK, hNw⟩ := id C0
  intro H locs ls jiW jmI jjF jkt jkS jkO jmk l2 l3 l4 hP hD hS hl hw
  obtain ⟨x22, ex22⟩ : ∃ y : Int32, y = l3 + 1 := ⟨_, rfl⟩
  have hw := hw x22 ex22
  refine lv_iinc (v := x22) (lv' := [(3, .int x22), (0, .ref a0), (1, .ref a1), (2, .int l2), (4, .int l4)]) hx hb (qaa qoa 6 rfl) hl (k := 3) rfl (by rw [ex22]; rfl) (by decide) rfl (fun ls hl => ?_)
  exact qRr dC dI cyB cyI cyJ cyP a0 a1 jbU jjO jgD jgh jjN jjs jjt jlL jjL jj7 jjM jjw jho jlt jlw jme ja4 ja0 jjP jky jkz jkA jkd jkB jna jke jb7 jdC jiX jiG jh6 jkF jkl jkm jka jkx jkb jjg jl5 Q K22 hK22 C0 _ _ _ jiW jmI jjF jkt jkS jkO jmk l2 x22 l4 hP hD hS (lv_sub hl [1, 2, 3, 0, 4] rfl) hw
set_option maxHeartbeats 4000000 in
set_option maxRecDepth 100000 in
theorem qaJU {p : Program} {l : Launch} {e : Env} {s : State} {m : MethodId} {args : Array Value} {below : List Frame} {meth : Method} {c : Code} {A : Nat → Prop} (dC : Nat → ClassId) (dI : Nat → Nat → Nat) (cyB cyI cyJ cyP : ClassId) (a0 a1 jbU jjO jgD jgh jjN jjs jjt jlL jjL jj7 jjM jjw jho jlt jlw : Nat) (jme ja4 ja0 jjP jky jkz jkA jkd jkB jna jke : Value) (jb7 : Int32) (jdC jiX jiG : NI) (jh6 jkF : Int32) (jkl jkm : NI) (jka : Int32) (jkx jkb jjg jl5 : NI) (Q : Int32 → Int32 → Int32 → NI → NI → NI → NI → Prop) (C0 : cfx p s m args meth c cX9_runOn none wsX9_runOn RX9 5 A (dC, dI) (kT cyB cyI cyJ cyP)) : ∀ (n : Nat) (H : Heap) (locs : List Loc) (ls : Array Slot) (jiW jmI jjF : Int32) (jkt jkS jkO jmk : NI) (l2 l3 l4 : Int32), va_P (dC, dI) vwCl (qoY a0 jbU jgD jgh jho jme jlw jb7 jjF ja4 ja0 jiW jmI jbU cyI jdC a1 jjO jjP jjN jlL jjO cyI jkO jgD cyI jiX jgh cyI jiG jjN jjs jjt jky jkz jkA jlt jkd jkB jna jh6 jke jkF jjs cyI jkl jjt cyI jkm jlL jjM jjw jj7 jjL jka jjL cyI jkt jj7 cyI jkS jjM cyI jkx jjw cyI jkb jho cyI jjg jlt cyI jl5 jlw cyI jmk) H → va_D A (qoY a0 jbU jgD jgh jho jme jlw jb7 jjF ja4 ja0 jiW jmI jbU cyI jdC a1 jjO jjP jjN jlL jjO cyI jkO jgD cyI jiX jgh cyI jiG jjN jjs jjt jky jkz jkA jlt jkd jkB jna jh6 jke jkF jjs cyI jkl jjt cyI jkm jlL jjM jjw jj7 jjL jka jjL cyI jkt jj7 cyI jkS jjM cyI jkx jjw cyI jkb jho cyI jjg jlt cyI jl5 jlw cyI jmk) → va_S A s.heap H locs → lv_has ls 5 [(0, .ref a0), (1, .ref a1), (2, .int l2), (3, .int l3), (4, .int l4)] → qqA jb7 jdC jiX jiG jh6 jkF jkl jkm jka jkx jkb jjg jl5 Q n jiW jmI jjF jkt jkS jkO jmk l2 l3 l4 → W p l e (headSpec wsX9_runOn ({ frames := 6, cells := 0, slots := 0, locals := 129 })).room s m args below meth c H locs 0 0 (MQ below (va_Qv (fun (u : Int32 × Int32 × Int32 × NI × NI × NI × NI) => Q u.1 u.2.1 u.2.2.1 u.2.2.2.1 u.2.2.2.2.1 u.2.2.2.2.2.1 u.2.2.2.2.2.2) (cB (dC, dI) (kT cyB cyI cyJ cyP) A (fun u : Int32 × Int32 × Int32 × NI × NI × NI × NI => ((qoY a0 jbU jgD jgh jho jme jlw jb7 u.2.2.1 ja4 ja0 u.1 u.2.1 jbU cyI jdC a1 jjO jjP jjN jlL jjO cyI u.2.2.2.2.2.1 jgD cyI jiX jgh cyI jiG jjN jjs jjt jky jkz jkA jlt jkd jkB jna jh6 jke jkF jjs cyI jkl jjt cyI jkm jlL jjM jjw jj7 jjL jka jjL cyI u.2.2.2.1 jj7 cyI u.2.2.2.2.1 jjM cyI jkx jjw cyI jkb jho cyI jjg jlt cyI jl5 jlw cyI u.2.2.2.2.2.2) : va_W))) A) args s 0 0 A) (F0 m 22 ls []) := by
  obtain ⟨hx, hb, hr, hts, hown, hlocks, hml, hA, hK, hNw⟩ := id C0
  intro n
  induction n with
  | zero => intro H locs ls jiW jmI jjF jkt jkS jkO jmk l2 l3 l4 hP hD hS hl hw; exact False.elim hw
  | succ n ih =>
    intro H locs ls jiW jmI jjF jkt jkS jkO jmk l2 l3 l4 hP hD hS hl hw
    refine lv_iload hx hb (qaa qlo 15 rfl) (lv_at hl 4 rfl) ?_
    refine lv_sipush (v := 20000) hx hb (qaa qjv 0 rfl) (by decide) ?_
    refine lv_icmp_ge (tgt := 133) hx hb (qaa qjv 1 rfl) (by decide) (fun c1 => ?_) (fun c1 => ?_)
    · have hw := hw.1 c1
      exact ((W.vret hx hb hr (fun t ht hW => ⟨⟨(jiW, jmI, jjF, jkt, jkS, jkO, jmk), rfl, hw, by rw [ht]; exact hP, va_K.moved hW.alike hK, hD⟩, hS.F ht⟩) hS.2.2 (qaa qoa 9 rfl)))
    · have hw := hw.2 c1
      refine lv_iload_n hx hb (qaa qjv 2 rfl) rfl (lv_at hl 2 rfl) ?_
      refine lv_sipush (v := 200) hx hb (qaa qjv 3 rfl) (by decide) ?_
      refine lv_icmp_ge (tgt := 133) hx hb (qaa qjv 4 rfl) (by decide) (fun c2 => ?_) (fun c2 => ?_)
      · have hw := hw.1 c2
        exact ((W.vret hx hb hr (fun t ht hW => ⟨⟨(jiW, jmI, jjF, jkt, jkS, jkO, jmk), rfl, hw, by rw [ht]; exact hP, va_K.moved hW.alike hK, hD⟩, hS.F ht⟩) hS.2.2 (qaa qoa 9 rfl)))
      · have hw := hw.2 c2
        refine lv_iload_n hx hb (qaa qjv 5 rfl) rfl (lv_at hl 3 rfl) ?_
        refine lv_aload_n hx hb (qaa qjv 6 rfl) rfl (lv_at hl 0 rfl) ?_
        refine va_get (D := (dC, dI)) (ci := 9) (v := .int jb7) (C := RX9) (T := TX9) (N := 12) hx hb hts qrR hown hK hP 0 rfl rfl 6 (by decide) (hts _ qaxP) (fun _ h9 => h9) rfl (qaa qjv 7 rfl) ?_
        refine lv_icmp_ge (tgt := 133) hx hb (qaa qjv 8 rfl) (by decide) (fun c3 => ?_) (fun c3 => ?_)
        · have hw := hw.1 c3
          exact ((W.vret hx hb hr (fun t ht hW => ⟨⟨(jiW, jmI, jjF, jkt, jkS, jkO, jmk), rfl, hw, by rw [ht]; exact hP, va_K.moved hW.alike hK, hD⟩, hS.F ht⟩) hS.2.2 (qaa qoa 9 rfl)))
        · have hw := hw.2 c3
          refine lv_aload_n hx hb (qaa qjv 9 rfl) rfl (lv_at hl 0 rfl) ?_
          refine va_get (D := (dC, dI)) (ci := 9) (v := .ref jbU) (C := RX9) (T := TX9) (N := 12) hx hb hts qrR hown hK hP 0 rfl rfl 0 (by decide) (hts _ q3v) (fun _ h9 => h9) rfl (qaa qjv 10 rfl) ?_
          refine lv_iload_n hx hb (qaa qjv 11 rfl) rfl (lv_at hl 3 rfl) ?_
          obtain ⟨hi9, hw⟩ := hw
          refine va_iald hx hb hK hP 1 1 rfl rfl hi9 (qaa qjv 12 rfl) ?_
          refine lv_topi (fun x4 ex4 => ?_)
          have hw := hw x4 ex4
          refine lv_iconst (v := 5) hx hb (qaa qjv 13 rfl) (by decide) ?_
          refine lv_icmp_ne (tgt := 64) hx hb (qaa qjv 14 rfl) (by decide) (fun c5 => ?_) (fun c5 => ?_)
          · have hw := hw.1 c5
            obtain ⟨x6, ex6⟩ : ∃ y : Int32, y = l2 + 1 := ⟨_, rfl⟩
            have hw := hw x6 ex6
            refine lv_iinc (v := x6) (lv' := [(2, .int x6), (0, .ref a0), (1, .ref a1), (3, .int l3), (4, .int l4)]) hx hb (qaa qi7 4 rfl) hl (k := 2) rfl (by rw [ex6]; rfl) (by decide) rfl (fun ls hl => ?_)
            refine lv_aload_n hx hb (qaa qi7 5 rfl) rfl (lv_at hl 1 rfl) ?_
            refine va_get (D := (dC, dI)) (ci := 9) (v := .ref jbU) (C := RX9) (T := TX9) (N := 12) hx hb hts qrR hown hK hP 0 rfl rfl 0 (by decide) (hts _ q3v) (fun _ h9 => h9) rfl (qaa qi7 6 rfl) ?_
            refine lv_iload_n hx hb (qaa qi7 7 rfl) rfl (lv_at hl 3 rfl) ?_
            obtain ⟨hi9, hw⟩ := hw
            refine va_iald hx hb hK hP 1 1 rfl rfl hi9 (qaa qi7 8 rfl) ?_
            refine lv_topi (fun x7 ex7 => ?_)
            have hw := hw x7 ex7
            refine lv_iconst (v := 4) hx hb (qaa qi7 9 rfl) (by decide) ?_
            refine lv_icmp_ne (tgt := 86) hx hb (qaa qi7 10 rfl) (by decide) (fun c8 => ?_) (fun c8 => ?_)
            · have hw := hw.1 c8
              refine lv_aload_n hx hb (qaa qjb 0 rfl) rfl (lv_at hl 1 rfl) ?_
              refine lv_iload_n hx hb (qaa qjb 1 rfl) rfl (lv_at hl 3 rfl) ?_
              refine lv_aload_n hx hb (qaa qjb 2 rfl) rfl (lv_at hl 2 rfl) ?_
              obtain ⟨hCc, hPc, hDc, hFc⟩ := qac (ws' := (qa3x a0 jbU jgD jgh jho jme jlw jb7 jjF ja4 ja0 jiW jmI jbU cyI jdC a1 jjO jjP jjN jlL jjO cyI jkO jgD cyI jiX jgh cyI jiG jjN jjs jjt jky jkz jkA jlt jkd jkB jna jh6 jke jkF jjs cyI jkl jjt cyI jkm jlL jjM jjw jj7 jjL jka jjL cyI jkt jj7 cyI jkS jjM cyI jkx jjw cyI jkb jho cyI jjg)) hP hD hS hA [0, 1, 2, 3, 4, 5, 6, 7, 8, 9, 10, 11, 12, 13, 14] (by decide +kernel) rfl
              refine va_calli (va_runV (As := [.int l3, .ref a1]) (rest := []) ⟨hx, hb, hml, hown, hts⟩ (qaAj l dC dI cyB cyI cyJ cyP a0 a1 jbU jjO jgD jgh jjN jjs jjt jlL jjL jj7 jjM jjw jho H.size (jme) (.ref jlw) (.int jb7) (.int jjF) (ja4) (ja0) (.int jiW) (.int jmI) (jjP) (jky) (jkz) (jkA) (.ref jlt) (jkd) (jkB) (jna) (jke) (.int jkF) jdC jkO jiX jiG jh6 jkl jkm jka jkx jkb jjg jkt jkS l3 hw) (cwV 2 hts gX9_runOn_X9_isAllowed rfl rfl rfl (by decide +kernel) ⟨nbq rfl, nbq rfl⟩) ⟨qab, va_recv (q := (RX9, TX9, 12)) hK hPc (ci := 9) (q0 := 0) rfl rfl, qae hPc hK hDc hNw⟩ rfl rfl hl.1 rfl (lv_room (nbq rfl)) (qaa qjb 3 rfl) ⟨nbq rfl, nbq rfl⟩) hS (fun q _ h => hFc q h) hFc (fun r11 u t H1 locs ht hvm hw hB hz1 hk1 hS => ?_)
              obtain ⟨f9, f10⟩ := u
              obtain ⟨hP1, hK1, hD1⟩ := hB
              rw [ht] at hP1
              obtain ⟨hP, hD⟩ := qad (wr := [(jlt, .inl (cyI, 6, .inl jl5)), (jlw, .inl (cyI, 6, .inl jmk))]) (w1 := (qa3x a0 jbU jgD jgh jho jme jlw jb7 jjF ja4 ja0 jiW jmI jbU cyI jdC a1 jjO jjP jjN jlL jjO cyI jkO jgD cyI jiX jgh cyI jiG jjN jjs jjt jky jkz jkA jlt jkd jkB jna jh6 jke jkF jjs cyI jkl jjt cyI jkm jlL jjM jjw jj7 jjL jka jjL cyI f9 jj7 cyI f10 jjM cyI jkx jjw cyI jkb jho cyI jjg)) (wn := (qoY a0 jbU jgD jgh jho jme jlw jb7 jjF ja4 ja0 jiW jmI jbU cyI jdC a1 jjO jjP jjN jlL jjO cyI jkO jgD cyI jiX jgh cyI jiG jjN jjs jjt jky jkz jkA jlt jkd jkB jna jh6 jke jkF jjs cyI jkl jjt cyI jkm jlL jjM jjw jj7 jjL jka jjL cyI f9 jj7 cyI f10 jjM cyI jkx jjw cyI jkb jho cyI jjg jlt cyI jl5 jlw cyI jmk)) hP hD [0, 1, 2, 3, 4, 5, 6, 7, 8, 9, 10, 11, 12, 13, 14] [15, 16] [2, 3, 4, 5, 6, 7, 8, 9, 10, 11, 12, 13, 14, 15, 16, 0, 1] hCc rfl (by decide +kernel) (by decide +kernel) (by decide +kernel) rfl hk1 hFc hP1 hD1
              generalize H1 = H at hP hS ⊢
              refine lv_if_eq (tgt := 114) hx hb (qaa qjb 4 rfl) (by decide) (fun c12 => ?_) (fun c12 => ?_)
              · have hw := hw.1 c12
                refine lv_aload_n hx hb (qaa qoa 0 rfl) rfl (lv_at hl 1 rfl) ?_
                refine lv_dup hx hb (qaa qoa 1 rfl) rfl ?_
                refine va_get (D := (dC, dI)) (ci := 9) (v := .int jmI) (C := RX9) (T := TX9) (N := 12) hx hb hts qrR hown hK hP 0 rfl rfl 11 (by decide) (hts _ qMw) (fun _ h9 => h9) rfl (qaa qoa 2 rfl) ?_
                refine lv_iconst (v := 1) hx hb (qaa qoa 3 rfl) (by decide) ?_
                refine lv_iadd hx hb (qaa qoa 4 rfl) ?_
                refine lv_topi (fun x13 ex13 => ?_)
                have hw := hw x13 ex13
                refine va_put (D := (dC, dI)) (ci := 9) (v := .int x13) (ty := .int) (C := RX9) (T := TX9) (N := 12) hx hb hts qrR tyX9 tyX9_ok nmX9 hown hK hP hD hS 0 rfl rfl 11 (by decide) (hts _ qMw) (fun _ h9 => h9) rfl (by decide +kernel) rfl rfl (nbq rfl) (qaa qoa 5 rfl) (fun H locs hP hD hS => ?_)
                have hP : va_P (dC, dI) vwCl (qoY a0 jbU jgD jgh jho jme jlw jb7 jjF ja4 ja0 jiW x13 jbU cyI jdC a1 jjO jjP jjN jlL jjO cyI jkO jgD cyI jiX jgh cyI jiG jjN jjs jjt jky jkz jkA jlt jkd jkB jna jh6 jke jkF jjs cyI jkl jjt cyI jkm jlL jjM jjw jj7 jjL jka jjL cyI f9 jj7 cyI f10 jjM cyI jkx jjw cyI jkb jho cyI jjg jlt cyI jl5 jlw cyI jmk) H := hP
                have hD : va_D A (qoY a0 jbU jgD jgh jho jme jlw jb7 jjF ja4 ja0 jiW x13 jbU cyI jdC a1 jjO jjP jjN jlL jjO cyI jkO jgD cyI jiX jgh cyI jiG jjN jjs jjt jky jkz jkA jlt jkd jkB jna jh6 jke jkF jjs cyI jkl jjt cyI jkm jlL jjM jjw jj7 jjL jka jjL cyI f9 jj7 cyI f10 jjM cyI jkx jjw cyI jkb jho cyI jjg jlt cyI jl5 jlw cyI jmk) := hD
                exact q3e dC dI cyB cyI cyJ cyP a0 a1 jbU jjO jgD jgh jjN jjs jjt jlL jjL jj7 jjM jjw jho jlt jlw jme ja4 ja0 jjP jky jkz jkA jkd jkB jna jke jb7 jdC jiX jiG jh6 jkF jkl jkm jka jkx jkb jjg jl5 Q (qqA jb7 jdC jiX jiG jh6 jkF jkl jkm jka jkx jkb jjg jl5 Q n) ih C0 _ _ _ jiW x13 jjF f9 f10 jkO jmk x6 l3 l4 hP hD hS (lv_sub hl [1, 2, 0, 3, 4] rfl) hw
              · have hw := hw.2 c12
                refine lv_aload_n hx hb (qaa qjb 5 rfl) rfl (lv_at hl 1 rfl) ?_
                refine lv_iload_n hx hb (qaa qjb 6 rfl) rfl (lv_at hl 3 rfl) ?_
                refine lv_aload_n hx hb (qaa qjb 7 rfl) rfl (lv_at hl 2 rfl) ?_
                obtain ⟨hCc, hPc, hDc, hFc⟩ := qac (ws' := (qa3R a0 jbU jgD jgh jho jme jlw jb7 jjF ja4 ja0 jiW jmI jbU cyI jdC a1 jjO jjP jjN jlL jjN jjs jjt jky jkz jkA jlt jkd jkB jna jh6 jke jkF jjO cyI jkO jlt cyI jl5 jgD cyI jiX jgh cyI jiG jho cyI jjg)) hP hD hS hA [0, 1, 2, 6, 3, 15, 4, 5, 14] (by decide +kernel) rfl
                refine va_callv (va_runV (As := [.int l3, .ref a1]) (rest := []) ⟨hx, hb, hml, hown, hts⟩ (qaWd l dC dI cyB cyI cyJ cyP a0 a1 jbU jjN jjO jlt jgD jgh jho H.size (jme) (.ref jlw) (.int jb7) (.int jjF) (ja4) (ja0) (.int jiW) (.int jmI) (jjP) (.ref jlL) (.ref jjs) (.ref jjt) (jky) (jkz) (jkA) (jkd) (jkB) (jna) (jke) jdC jh6 jkF jl5 jiX jiG jjg jkO l3 hw) (cwV 2 hts gX9_runOn_X9_doStep rfl rfl rfl (by decide +kernel) ⟨nbq rfl, nbq rfl⟩) ⟨qab, va_recv (q := (RX9, TX9, 12)) hK hPc (ci := 9) (q0 := 0) rfl rfl, qae hPc hK hDc hNw⟩ rfl rfl hl.1 rfl (lv_room (nbq rfl)) (qaa qjb 8 rfl) ⟨nbq rfl, nbq rfl⟩) hS (fun q _ h => hFc q h) hFc (fun u t H1 locs ht hvm hw hB hz1 hk1 hS => ?_)
                obtain ⟨f14, rfl⟩ : ∃ z, z = u := ⟨_, rfl⟩
                obtain ⟨hP1, hK1, hD1⟩ := hB
                rw [ht] at hP1
                obtain ⟨hP, hD⟩ := qad (wr := [(jjs, .inl (cyI, 8, .inl jkl)), (jjt, .inl (cyI, 8, .inl jkm)), (jlL, .inr (4, [.ref jjM, .ref jjw, .ref jj7, .ref jjL, .int jka])), (jjL, .inl (cyI, 8, .inl f9)), (jj7, .inl (cyI, 150, .inl f10)), (jjM, .inl (cyI, 150, .inl jkx)), (jjw, .inl (cyI, 150, .inl jkb)), (jlw, .inl (cyI, 6, .inl jmk))]) (w1 := (qa3R a0 jbU jgD jgh jho jme jlw jb7 jjF ja4 ja0 jiW jmI jbU cyI jdC a1 jjO jjP jjN jlL jjN jjs jjt jky jkz jkA jlt jkd jkB jna jh6 jke jkF jjO cyI f14 jlt cyI jl5 jgD cyI jiX jgh cyI jiG jho cyI jjg)) (wn := (qoY a0 jbU jgD jgh jho jme jlw jb7 jjF ja4 ja0 jiW jmI jbU cyI jdC a1 jjO jjP jjN jlL jjO cyI f14 jgD cyI jiX jgh cyI jiG jjN jjs jjt jky jkz jkA jlt jkd jkB jna jh6 jke jkF jjs cyI jkl jjt cyI jkm jlL jjM jjw jj7 jjL jka jjL cyI f9 jj7 cyI f10 jjM cyI jkx jjw cyI jkb jho cyI jjg jlt cyI jl5 jlw cyI jmk)) hP hD [0, 1, 2, 6, 3, 15, 4, 5, 14] [7, 8, 9, 10, 11, 12, 13, 16] [8, 9, 10, 12, 14, 15, 11, 0, 1, 2, 3, 4, 5, 6, 16, 13, 7] hCc rfl (by decide +kernel) (by decide +kernel) (by decide +kernel) rfl hk1 hFc hP1 hD1
                generalize H1 = H at hP hS ⊢
                refine lv_aload_n hx hb (qaa qjb 9 rfl) rfl (lv_at hl 1 rfl) ?_
                refine lv_dup hx hb (qaa qjb 10 rfl) rfl ?_
                refine va_get (D := (dC, dI)) (ci := 9) (v := .int jiW) (C := RX9) (T := TX9) (N := 12) hx hb hts qrR hown hK hP 0 rfl rfl 10 (by decide) (hts _ qQh) (fun _ h9 => h9) rfl (qaa qjb 11 rfl) ?_
                refine lv_iconst (v := 1) hx hb (qaa qjb 12 rfl) (by decide) ?_
                refine lv_iadd hx hb (qaa qjb 13 rfl) ?_
                refine lv_topi (fun x15 ex15 => ?_)
                have hw := hw x15 ex15
                refine va_put (D := (dC, dI)) (ci := 9) (v := .int x15) (ty := .int) (C := RX9) (T := TX9) (N := 12) hx hb hts qrR tyX9 tyX9_ok nmX9 hown hK hP hD hS 0 rfl rfl 10 (by decide) (hts _ qQh) (fun _ h9 => h9) rfl (by decide +kernel) rfl rfl (nbq rfl) (qaa qjb 14 rfl) (fun H locs hP hD hS => ?_)
                have hP : va_P (dC, dI) vwCl (qoY a0 jbU jgD jgh jho jme jlw jb7 jjF ja4 ja0 x15 jmI jbU cyI jdC a1 jjO jjP jjN jlL jjO cyI f14 jgD cyI jiX jgh cyI jiG jjN jjs jjt jky jkz jkA jlt jkd jkB jna jh6 jke jkF jjs cyI jkl jjt cyI jkm jlL jjM jjw jj7 jjL jka jjL cyI f9 jj7 cyI f10 jjM cyI jkx jjw cyI jkb jho cyI jjg jlt cyI jl5 jlw cyI jmk) H := hP
                have hD : va_D A (qoY a0 jbU jgD jgh jho jme jlw jb7 jjF ja4 ja0 x15 jmI jbU cyI jdC a1 jjO jjP jjN jlL jjO cyI f14 jgD cyI jiX jgh cyI jiG jjN jjs jjt jky jkz jkA jlt jkd jkB jna jh6 jke jkF jjs cyI jkl jjt cyI jkm jlL jjM jjw jj7 jjL jka jjL cyI f9 jj7 cyI f10 jjM cyI jkx jjw cyI jkb jho cyI jjg jlt cyI jl5 jlw cyI jmk) := hD
                refine lv_goto (tgt := 124) hx hb (qaa qjb 15 rfl) (by decide) ?_
                exact q3e dC dI cyB cyI cyJ cyP a0 a1 jbU jjO jgD jgh jjN jjs jjt jlL jjL jj7 jjM jjw jho jlt jlw jme ja4 ja0 jjP jky jkz jkA jkd jkB jna jke jb7 jdC jiX jiG jh6 jkF jkl jkm jka jkx jkb jjg jl5 Q (qqA jb7 jdC jiX jiG jh6 jkF jkl jkm jka jkx jkb jjg jl5 Q n) ih C0 _ _ _ x15 jmI jjF f9 f10 f14 jmk x6 l3 l4 hP hD hS (lv_sub hl [1, 2, 0, 3, 4] rfl) hw
            · have hw := hw.2 c8
              refine lv_aload_n hx hb (qaa qi7 11 rfl) rfl (lv_at hl 1 rfl) ?_
              refine lv_iload_n hx hb (qaa qi7 12 rfl) rfl (lv_at hl 3 rfl) ?_
              obtain ⟨hCc, hPc, hDc, hFc⟩ := qac (ws' := (qa9t a0 jbU jgD jgh jho jme jlw jb7 jjF ja4 ja0 jiW jmI jgD cyI jiX jlw cyI jmk jgh cyI jiG)) hP hD hS hA [0, 4, 16, 5] (by decide +kernel) rfl
              refine va_calli (va_runV (As := [.int l3]) (rest := []) ⟨hx, hb, hml, hown, hts⟩ (qaio l dC dI cyB cyI cyJ cyP a0 jgD jlw jgh H.size (.ref jbU) (.ref jho) (jme) (.int jb7) (ja4) (ja0) (.int jiW) (.int jmI) jiX jiG jmk jjF l3 hw) (cwV 1 hts gX9_runOn_X9_behindAgain rfl rfl rfl (by decide +kernel) ⟨nbq rfl, nbq rfl⟩) ⟨qab, va_recv (q := (RX9, TX9, 12)) hK hPc (ci := 9) (q0 := 0) rfl rfl, qae hPc hK hDc hNw⟩ rfl rfl hl.1 rfl (lv_room (nbq rfl)) (qaa qi7 13 rfl) ⟨nbq rfl, nbq rfl⟩) hS (fun q _ h => hFc q h) hFc (fun r18 u t H1 locs ht hvm hw hB hz1 hk1 hS => ?_)
              obtain ⟨f16, x17⟩ := u
              obtain ⟨hP1, hK1, hD1⟩ := hB
              rw [ht] at hP1
              obtain ⟨hP, hD⟩ := qad (wr := [(jbU, .inl (cyI, 50, .inl jdC)), (a1, .inr (1, [.ref jjO, jjP, .ref jjN, .ref jlL])), (jjO, .inl (cyI, 64, .inl jkO)), (jjN, .inr (2, [.ref jjs, .ref jjt, jky, jkz, jkA, .ref jlt, jkd, jkB, jna, .int jh6, jke, .int jkF])), (jjs, .inl (cyI, 8, .inl jkl)), (jjt, .inl (cyI, 8, .inl jkm)), (jlL, .inr (4, [.ref jjM, .ref jjw, .ref jj7, .ref jjL, .int jka])), (jjL, .inl (cyI, 8, .inl jkt)), (jj7, .inl (cyI, 150, .inl jkS)), (jjM, .inl (cyI, 150, .inl jkx)), (jjw, .inl (cyI, 150, .inl jkb)), (jho, .inl (cyI, 50, .inl jjg)), (jlt, .inl (cyI, 6, .inl jl5))]) (w1 := (qa9t a0 jbU jgD jgh jho jme jlw jb7 x17 ja4 ja0 jiW jmI jgD cyI jiX jlw cyI f16 jgh cyI jiG)) (wn := (qoY a0 jbU jgD jgh jho jme jlw jb7 x17 ja4 ja0 jiW jmI jbU cyI jdC a1 jjO jjP jjN jlL jjO cyI jkO jgD cyI jiX jgh cyI jiG jjN jjs jjt jky jkz jkA jlt jkd jkB jna jh6 jke jkF jjs cyI jkl jjt cyI jkm jlL jjM jjw jj7 jjL jka jjL cyI jkt jj7 cyI jkS jjM cyI jkx jjw cyI jkb jho cyI jjg jlt cyI jl5 jlw cyI f16)) hP hD [0, 4, 16, 5] [1, 2, 3, 6, 7, 8, 9, 10, 11, 12, 13, 14, 15] [13, 0, 1, 2, 14, 16, 3, 4, 5, 6, 7, 8, 9, 10, 11, 12, 15] hCc rfl (by decide +kernel) (by decide +kernel) (by decide +kernel) rfl hk1 hFc hP1 hD1
              generalize H1 = H at hP hS ⊢
              refine lv_istore_n (lv' := [(3, .int r18), (2, .int x6), (0, .ref a0), (1, .ref a1), (4, .int l4)]) hx hb (qaa qi7 14 rfl) rfl hl (by decide) rfl (fun ls hl => ?_)
              refine lv_goto (tgt := 127) hx hb (qaa qi7 15 rfl) (by decide) ?_
              exact qRr dC dI cyB cyI cyJ cyP a0 a1 jbU jjO jgD jgh jjN jjs jjt jlL jjL jj7 jjM jjw jho jlt jlw jme ja4 ja0 jjP jky jkz jkA jkd jkB jna jke jb7 jdC jiX jiG jh6 jkF jkl jkm jka jkx jkb jjg jl5 Q (qqA jb7 jdC jiX jiG jh6 jkF jkl jkm jka jkx jkb jjg jl5 Q n) ih C0 _ _ _ jiW jmI x17 jkt jkS jkO f16 x6 r18 l4 hP hD hS (lv_sub hl [2, 3, 1, 0, 4] rfl) hw
          · have hw := hw.2 c5
            refine lv_aload_n hx hb (qaa qjv 15 rfl) rfl (lv_at hl 0 rfl) ?_
            refine lv_iload_n hx hb (qaa qi7 0 rfl) rfl (lv_at hl 3 rfl) ?_
            obtain ⟨hCc, hPc, hDc, hFc⟩ := qac (ws' := (qbaG a0 jbU jgD jgh jho jme jlw jb7 jjF ja4 ja0 jiW jmI jlw cyI jmk jgD cyI jiX)) hP hD hS hA [0, 16, 4] (by decide +kernel) rfl
            refine va_calli (va_runV (As := [.int l3]) (rest := []) ⟨hx, hb, hml, hown, hts⟩ (qawN l dC dI cyB cyI cyJ cyP a0 jlw jgD H.size (.ref jbU) (.ref jgh) (.ref jho) (jme) (.int jb7) (ja4) (ja0) (.int jiW) (.int jmI) jiX jmk jjF l3 hw) (cwV 1 hts gX9_runOn_X9_behindEnd rfl rfl rfl (by decide +kernel) ⟨nbq rfl, nbq rfl⟩) ⟨qab, va_recv (q := (RX9, TX9, 12)) hK hPc (ci := 9) (q0 := 0) rfl rfl, qae hPc hK hDc hNw⟩ rfl rfl hl.1 rfl (lv_room (nbq rfl)) (qaa qi7 1 rfl) ⟨nbq rfl, nbq rfl⟩) hS (fun q _ h => hFc q h) hFc (fun r21 u t H1 locs ht hvm hw hB hz1 hk1 hS => ?_)
            obtain ⟨f19, x20⟩ := u
            obtain ⟨hP1, hK1, hD1⟩ := hB
            rw [ht] at hP1
            obtain ⟨hP, hD⟩ := qad (wr := [(jbU, .inl (cyI, 50, .inl jdC)), (a1, .inr (1, [.ref jjO, jjP, .ref jjN, .ref jlL])), (jjO, .inl (cyI, 64, .inl jkO)), (jgh, .inl (cyI, 50, .inl jiG)), (jjN, .inr (2, [.ref jjs, .ref jjt, jky, jkz, jkA, .ref jlt, jkd, jkB, jna, .int jh6, jke, .int jkF])), (jjs, .inl (cyI, 8, .inl jkl)), (jjt, .inl (cyI, 8, .inl jkm)), (jlL, .inr (4, [.ref jjM, .ref jjw, .ref jj7, .ref jjL, .int jka])), (jjL, .inl (cyI, 8, .inl jkt)), (jj7, .inl (cyI, 150, .inl jkS)), (jjM, .inl (cyI, 150, .inl jkx)), (jjw, .inl (cyI, 150, .inl jkb)), (jho, .inl (cyI, 50, .inl jjg)), (jlt, .inl (cyI, 6, .inl jl5))]) (w1 := (qbaG a0 jbU jgD jgh jho jme jlw jb7 x20 ja4 ja0 jiW jmI jlw cyI f19 jgD cyI jiX)) (wn := (qoY a0 jbU jgD jgh jho jme jlw jb7 x20 ja4 ja0 jiW jmI jbU cyI jdC a1 jjO jjP jjN jlL jjO cyI jkO jgD cyI jiX jgh cyI jiG jjN jjs jjt jky jkz jkA jlt jkd jkB jna jh6 jke jkF jjs cyI jkl jjt cyI jkm jlL jjM jjw jj7 jjL jka jjL cyI jkt jj7 cyI jkS jjM cyI jkx jjw cyI jkb jho cyI jjg jlt cyI jl5 jlw cyI f19)) hP hD [0, 16, 4] [1, 2, 3, 5, 6, 7, 8, 9, 10, 11, 12, 13, 14, 15] [14, 0, 1, 2, 16, 3, 4, 5, 6, 7, 8, 9, 10, 11, 12, 13, 15] hCc rfl (by decide +kernel) (by decide +kernel) (by decide +kernel) rfl hk1 hFc hP1 hD1
            generalize H1 = H at hP hS ⊢
            refine lv_istore_n (lv' := [(3, .int r21), (0, .ref a0), (1, .ref a1), (2, .int l2), (4, .int l4)]) hx hb (qaa qi7 2 rfl) rfl hl (by decide) rfl (fun ls hl => ?_)
            refine lv_goto (tgt := 127) hx hb (qaa qi7 3 rfl) (by decide) ?_
            exact qRr dC dI cyB cyI cyJ cyP a0 a1 jbU jjO jgD jgh jjN jjs jjt jlL jjL jj7 jjM jjw jho jlt jlw jme ja4 ja0 jjP jky jkz jkA jkd jkB jna jke jb7 jdC jiX jiG jh6 jkF jkl jkm jka jkx jkb jjg jl5 Q (qqA jb7 jdC jiX jiG jh6 jkF jkl jkm jka jkx jkb jjg jl5 Q n) ih C0 _ _ _ jiW jmI x20 jkt jkS jkO f19 l2 r21 l4 hP hD hS (lv_sub hl [1, 2, 3, 0, 4] rfl) hw
set_option maxHeartbeats 4000000 in
set_option maxRecDepth 100000 in
theorem qaYP (l : Launch) (dC : Nat → ClassId) (dI : Nat → Nat → Nat) (cyB cyI cyJ cyP : ClassId) (a0 a1 jbU jjO jgD jgh jjN jjs jjt jlL jjL jj7 jjM jjw jho jlt jlw sz : Nat) (jme ja4 ja0 jjP jky jkz jkA jkd jkB jna jke : Value) (jb7 : Int32) (jdC jiX jiG : NI) (jh6 jkF : Int32) (jkl jkm : NI) (jka : Int32) (jkx jkb jjg jl5 : NI) (jiW jmI jjF : Int32) (jkt jkS jkO jmk : NI) {Q : Int32 → Int32 → Int32 → NI → NI → NI → NI → Prop} (hw : qacn jb7 jdC jiX jiG jh6 jkF jkl jkm jka jkx jkb jjg jl5 jiW jmI jjF jkt jkS jkO jmk Q) : Met l yX9_runOn wsX9_runOn ({ frames := 6, cells := 0, slots := 0, locals := 129 }) (va_Pc [.ref a0, .ref a1] (cPc (dC, dI) (kT cyB cyI cyJ cyP) (qoY a0 jbU jgD jgh jho jme jlw jb7 jjF ja4 ja0 jiW jmI jbU cyI jdC a1 jjO jjP jjN jlL jjO cyI jkO jgD cyI jiX jgh cyI jiG jjN jjs jjt jky jkz jkA jlt jkd jkB jna jh6 jke jkF jjs cyI jkl jjt cyI jkm jlL jjM jjw jj7 jjL jka jjL cyI jkt jj7 cyI jkS jjM cyI jkx jjw cyI jkb jho cyI jjg jlt cyI jl5 jlw cyI jmk) sz)) (va_Qv (fun (u : Int32 × Int32 × Int32 × NI × NI × NI × NI) => Q u.1 u.2.1 u.2.2.1 u.2.2.2.1 u.2.2.2.2.1 u.2.2.2.2.2.1 u.2.2.2.2.2.2) (cB (dC, dI) (kT cyB cyI cyJ cyP) (va_A (qoY a0 jbU jgD jgh jho jme jlw jb7 jjF ja4 ja0 jiW jmI jbU cyI jdC a1 jjO jjP jjN jlL jjO cyI jkO jgD cyI jiX jgh cyI jiG jjN jjs jjt jky jkz jkA jlt jkd jkB jna jh6 jke jkF jjs cyI jkl jjt cyI jkm jlL jjM jjw jj7 jjL jka jjL cyI jkt jj7 cyI jkS jjM cyI jkx jjw cyI jkb jho cyI jjg jlt cyI jl5 jlw cyI jmk) sz) (fun u : Int32 × Int32 × Int32 × NI × NI × NI × NI => ((qoY a0 jbU jgD jgh jho jme jlw jb7 u.2.2.1 ja4 ja0 u.1 u.2.1 jbU cyI jdC a1 jjO jjP jjN jlL jjO cyI u.2.2.2.2.2.1 jgD cyI jiX jgh cyI jiG jjN jjs jjt jky jkz jkA jlt jkd jkB jna jh6 jke jkF jjs cyI jkl jjt cyI jkm jlL jjM jjw jj7 jjL jka jjL cyI u.2.2.2.1 jj7 cyI u.2.2.2.2.1 jjM cyI jkx jjw cyI jkb jho cyI jjg jlt cyI jl5 jlw cyI u.2.2.2.2.2.2) : va_W))) (va_A (qoY a0 jbU jgD jgh jho jme jlw jb7 jjF ja4 ja0 jiW jmI jbU cyI jdC a1 jjO jjP jjN jlL jjO cyI jkO jgD cyI jiX jgh cyI jiG jjN jjs jjt jky jkz jkA jlt jkd jkB jna jh6 jke jkF jjs cyI jkl jjt cyI jkm jlL jjM jjw jj7 jjL jka jjL cyI jkt jj7 cyI jkS jjM cyI jkx jjw cyI jkb jho cyI jjg jlt cyI jl5 jlw cyI jmk) sz)) 0 0 (va_A (qoY a0 jbU jgD jgh jho jme jlw jb7 jjF ja4 ja0 jiW jmI jbU cyI jdC a1 jjO jjP jjN jlL jjO cyI jkO jgD cyI jiX jgh cyI jiG jjN jjs jjt jky jkz jkA jlt jkd jkB jna jh6 jke jkF jjs cyI jkl jjt cyI jkm jlL jjM jjw jj7 jjL jka jjL cyI jkt jj7 cyI jkS jjM cyI jkx jjw cyI jkb jho cyI jjg jlt cyI jl5 jlw cyI jmk) sz) := by
  refine Met.ofW (cc := cX9_runOn) (maxL := 5) (ret := none) (by decide) rfl ?_
  intro p e s m args below meth c s₁ B hml hv
  obtain ⟨rfl, hsz, hP, hK, hD0, hNw⟩ := hv
  have hx := B.exec
  have hb := B.bytes
  have hr := B.returns
  have hts := atoms_spec (ws := wsX9_runOn) B.pre
  have hown : s.vm.findClass RX9 = some m.cls := findClass_of_methodNamed B.named
  have hlocks := B.notSynchronized
  subst hsz
  have hD := hD0.self (sz := s.heap.size)
  generalize hAe : va_A (qoY a0 jbU jgD jgh jho jme jlw jb7 jjF ja4 ja0 jiW jmI jbU cyI jdC a1 jjO jjP jjN jlL jjO cyI jkO jgD cyI jiX jgh cyI jiG jjN jjs jjt jky jkz jkA jlt jkd jkB jna jh6 jke jkF jjs cyI jkl jjt cyI jkm jlL jjM jjw jj7 jjL jka jjL cyI jkt jj7 cyI jkS jjM cyI jkx jjw cyI jkb jho cyI jjg jlt cyI jl5 jlw cyI jmk) s.heap.size = A at hD ⊢
  have hA : ∀ q : Nat, s.heap.size ≤ q → A q := fun q h => by rw [← hAe]; exact Or.inr h
  have hS : va_S A s.heap s.heap [] := va_S.rf
  have hP : va_P (dC, dI) vwCl (qoY a0 jbU jgD jgh jho jme jlw jb7 jjF ja4 ja0 jiW jmI jbU cyI jdC a1 jjO jjP jjN jlL jjO cyI jkO jgD cyI jiX jgh cyI jiG jjN jjs jjt jky jkz jkA jlt jkd jkB jna jh6 jke jkF jjs cyI jkl jjt cyI jkm jlL jjM jjw jj7 jjL jka jjL cyI jkt jj7 cyI jkS jjM cyI jkx jjw cyI jkb jho cyI jjg jlt cyI jl5 jlw cyI jmk) s.heap := hP
  have hl := lv_entry ([.ref a0, .ref a1]) (n := 5) (nbq rfl)
  rw [lg_entry_eq]
  generalize (lg_sl ([.ref a0, .ref a1]) ++ List.replicate (5 - (lg_sl ([.ref a0, .ref a1])).length) Slot.unset).toArray = ls at hl ⊢
  have hl : lv_has ls 5 [(0, .ref a0), (1, .ref a1)] := hl
  have C0 : cfx p s m _ meth c cX9_runOn none wsX9_runOn RX9 5 A (dC, dI) (kT cyB cyI cyJ cyP) := ⟨hx, hb, hr, hts, hown, hlocks, hml, hA, hK, hNw⟩
  clear hAe
  obtain ⟨H, hH⟩ : ∃ H, H = s.heap := ⟨_, rfl⟩
  rw [← hH] at hP ⊢
  have hS : va_S A s.heap H [] := by rw [hH]; exact va_S.rf
  have hS := hS
  refine lv_aload_n hx hb (qaa qlo 0 rfl) rfl (lv_at hl 0 rfl) ?_
  refine lv_iconst (v := 0) hx hb (qaa qlo 1 rfl) (by decide) ?_
  refine va_put (D := (dC, dI)) (ci := 9) (v := .int 0) (ty := .int) (C := RX9) (T := TX9) (N := 12) hx hb hts qrR tyX9 tyX9_ok nmX9 hown hK hP hD hS 0 rfl rfl 10 (by decide) (hts _ qQh) (fun _ h9 => h9) rfl (by decide +kernel) rfl rfl (nbq rfl) (qaa qlo 2 rfl) (fun H locs hP hD hS => ?_)
  have hP : va_P (dC, dI) vwCl (qoY a0 jbU jgD jgh jho jme jlw jb7 jjF ja4 ja0 0 jmI jbU cyI jdC a1 jjO jjP jjN jlL jjO cyI jkO jgD cyI jiX jgh cyI jiG jjN jjs jjt jky jkz jkA jlt jkd jkB jna jh6 jke jkF jjs cyI jkl jjt cyI jkm jlL jjM jjw jj7 jjL jka jjL cyI jkt jj7 cyI jkS jjM cyI jkx jjw cyI jkb jho cyI jjg jlt cyI jl5 jlw cyI jmk) H := hP
  have hD : va_D A (qoY a0 jbU jgD jgh jho jme jlw jb7 jjF ja4 ja0 0 jmI jbU cyI jdC a1 jjO jjP jjN jlL jjO cyI jkO jgD cyI jiX jgh cyI jiG jjN jjs jjt jky jkz jkA jlt jkd jkB jna jh6 jke jkF jjs cyI jkl jjt cyI jkm jlL jjM jjw jj7 jjL jka jjL cyI jkt jj7 cyI jkS jjM cyI jkx jjw cyI jkb jho cyI jjg jlt cyI jl5 jlw cyI jmk) := hD
  refine lv_aload_n hx hb (qaa qlo 3 rfl) rfl (lv_at hl 0 rfl) ?_
  refine lv_iconst (v := 0) hx hb (qaa qlo 4 rfl) (by decide) ?_
  refine va_put (D := (dC, dI)) (ci := 9) (v := .int 0) (ty := .int) (C := RX9) (T := TX9) (N := 12) hx hb hts qrR tyX9 tyX9_ok nmX9 hown hK hP hD hS 0 rfl rfl 11 (by decide) (hts _ qMw) (fun _ h9 => h9) rfl (by decide +kernel) rfl rfl (nbq rfl) (qaa qlo 5 rfl) (fun H locs hP hD hS => ?_)
  have hP : va_P (dC, dI) vwCl (qoY a0 jbU jgD jgh jho jme jlw jb7 jjF ja4 ja0 0 0 jbU cyI jdC a1 jjO jjP jjN jlL jjO cyI jkO jgD cyI jiX jgh cyI jiG jjN jjs jjt jky jkz jkA jlt jkd jkB jna jh6 jke jkF jjs cyI jkl jjt cyI jkm jlL jjM jjw jj7 jjL jka jjL cyI jkt jj7 cyI jkS jjM cyI jkx jjw cyI jkb jho cyI jjg jlt cyI jl5 jlw cyI jmk) H := hP
  have hD : va_D A (qoY a0 jbU jgD jgh jho jme jlw jb7 jjF ja4 ja0 0 0 jbU cyI jdC a1 jjO jjP jjN jlL jjO cyI jkO jgD cyI jiX jgh cyI jiG jjN jjs jjt jky jkz jkA jlt jkd jkB jna jh6 jke jkF jjs cyI jkl jjt cyI jkm jlL jjM jjw jj7 jjL jka jjL cyI jkt jj7 cyI jkS jjM cyI jkx jjw cyI jkb jho cyI jjg jlt cyI jl5 jlw cyI jmk) := hD
  refine lv_aload_n hx hb (qaa qlo 6 rfl) rfl (lv_at hl 0 rfl) ?_
  refine lv_iconst (v := 0) hx hb (qaa qlo 7 rfl) (by decide) ?_
  refine va_put (D := (dC, dI)) (ci := 9) (v := .int 0) (ty := .int) (C := RX9) (T := TX9) (N := 12) hx hb hts qrR tyX9 tyX9_ok nmX9 hown hK hP hD hS 0 rfl rfl 7 (by decide) (hts _ qaxZ) (fun _ h9 => h9) rfl (by decide +kernel) rfl rfl (nbq rfl) (qaa qlo 8 rfl) (fun H locs hP hD hS => ?_)
  have hP : va_P (dC, dI) vwCl (qoY a0 jbU jgD jgh jho jme jlw jb7 0 ja4 ja0 0 0 jbU cyI jdC a1 jjO jjP jjN jlL jjO cyI jkO jgD cyI jiX jgh cyI jiG jjN jjs jjt jky jkz jkA jlt jkd jkB jna jh6 jke jkF jjs cyI jkl jjt cyI jkm jlL jjM jjw jj7 jjL jka jjL cyI jkt jj7 cyI jkS jjM cyI jkx jjw cyI jkb jho cyI jjg jlt cyI jl5 jlw cyI jmk) H := hP
  have hD : va_D A (qoY a0 jbU jgD jgh jho jme jlw jb7 0 ja4 ja0 0 0 jbU cyI jdC a1 jjO jjP jjN jlL jjO cyI jkO jgD cyI jiX jgh cyI jiG jjN jjs jjt jky jkz jkA jlt jkd jkB jna jh6 jke jkF jjs cyI jkl jjt cyI jkm jlL jjM jjw jj7 jjL jka jjL cyI jkt jj7 cyI jkS jjM cyI jkx jjw cyI jkb jho cyI jjg jlt cyI jl5 jlw cyI jmk) := hD
  refine lv_iconst (v := 0) hx hb (qaa qlo 9 rfl) (by decide) ?_
  refine lv_istore_n (lv' := [(2, .int 0), (0, .ref a0), (1, .ref a1)]) hx hb (qaa qlo 10 rfl) rfl hl (by decide) rfl (fun ls hl => ?_)
  refine lv_iconst (v := 0) hx hb (qaa qlo 11 rfl) (by decide) ?_
  refine lv_istore_n (lv' := [(3, .int 0), (2, .int 0), (0, .ref a0), (1, .ref a1)]) hx hb (qaa qlo 12 rfl) rfl hl (by decide) rfl (fun ls hl => ?_)
  refine lv_iconst (v := 0) hx hb (qaa qlo 13 rfl) (by decide) ?_
  refine lv_istore (lv' := [(4, .int 0), (3, .int 0), (2, .int 0), (0, .ref a0), (1, .ref a1)]) hx hb (qaa qlo 14 rfl) hl (by decide) rfl (fun ls hl => ?_)
  obtain ⟨n9, hw⟩ := hw
  exact qaJU dC dI cyB cyI cyJ cyP a0 a1 jbU jjO jgD jgh jjN jjs jjt jlL jjL jj7 jjM jjw jho jlt jlw jme ja4 ja0 jjP jky jkz jkA jkd jkB jna jke jb7 jdC jiX jiG jh6 jkF jkl jkm jka jkx jkb jjg jl5 Q C0 n9 _ _ _ 0 0 0 jkt jkS jkO jmk 0 0 0 hP hD hS (lv_sub hl [3, 4, 2, 1, 0] rfl) hw
theorem qNj : ∀ w ∈ u_ws RX10 TX10 19, w ∈ wsX10_would := uiM qxO qyN (by decide +kernel)
theorem qNg : (.fieldLink RX10 29 "MarchHares" "rule" "LMarchHares$Law;" : Cond) ∈ wsX10_would := qxO 65 (by decide +kernel)
set_option maxHeartbeats 4000000 in
set_option maxRecDepth 100000 in
theorem qaV4 (l : Launch) (dC : Nat → ClassId) (dI : Nat → Nat → Nat) (cyB cyI cyJ cyP : ClassId) (a0 jb6 jcc jcl jbW jbL sz : Nat) (jaK jfR ja1 jbc jbV ja3 jbH ja2 jbO jaq jac jbI jbl jbn jba jaa jbA : Value) (jdh : Int32) (jdN jdi : NI) (jbz : Int32) (jfl jfM : NI) (p1 p2 p3 p4 p5 p6 p7 p8 : Int32) {E : String → Int32 → NI → NI → Prop} {Q : Int32 → Int32 → NI → NI → Prop} (hw : q4l jdh jdN jdi jbz jfl jfM p1 p2 p3 p4 p5 p6 p7 p8 E Q) : vx_Met l yX10_would wsX10_would ({ frames := 8, cells := 8, slots := 48, locals := 164 }) (va_Pc [.ref a0, .int p1, .int p2, .int p3, .int p4, .int p5, .int p6, .int p7, .int p8] (cPx l (dC, dI) (kT cyB cyI cyJ cyP) (qqD a0 jaK jfR ja1 jb6 jbc jbV ja3 jbH ja2 jbO jaq jac jbI jbl jbn jba jaa jbA jbz jb6 jbW jbL jcl jcc jdh jcc cyI jfl jcl cyI jfM jbW cyI jdN jbL cyI jdi) sz)) (va_Qi (fun (r : Int32) (u : Int32 × NI × NI) => Q r u.1 u.2.1 u.2.2) (cB (dC, dI) (kT cyB cyI cyJ cyP) (va_A (qqD a0 jaK jfR ja1 jb6 jbc jbV ja3 jbH ja2 jbO jaq jac jbI jbl jbn jba jaa jbA jbz jb6 jbW jbL jcl jcc jdh jcc cyI jfl jcl cyI jfM jbW cyI jdN jbL cyI jdi) sz) (fun u : Int32 × NI × NI => ((qqD a0 jaK jfR ja1 jb6 jbc jbV ja3 jbH ja2 jbO jaq jac jbI jbl jbn jba jaa jbA u.1 jb6 jbW jbL jcl jcc jdh jcc cyI u.2.1 jcl cyI u.2.2 jbW cyI jdN jbL cyI jdi) : va_W))) (va_A (qqD a0 jaK jfR ja1 jb6 jbc jbV ja3 jbH ja2 jbO jaq jac jbI jbl jbn jba jaa jbA jbz jb6 jbW jbL jcl jcc jdh jcc cyI jfl jcl cyI jfM jbW cyI jdN jbL cyI jdi) sz)) (vx_X (fun _ => True) (fun (en : String) (u : Int32 × NI × NI) (t : State) => E en u.1 u.2.1 u.2.2 ∧ cB (dC, dI) (kT cyB cyI cyJ cyP) (va_A (qqD a0 jaK jfR ja1 jb6 jbc jbV ja3 jbH ja2 jbO jaq jac jbI jbl jbn jba jaa jbA jbz jb6 jbW jbL jcl jcc jdh jcc cyI jfl jcl cyI jfM jbW cyI jdN jbL cyI jdi) sz) (fun u : Int32 × NI × NI => ((qqD a0 jaK jfR ja1 jb6 jbc jbV ja3 jbH ja2 jbO jaq jac jbI jbl jbn jba jaa jbA u.1 jb6 jbW jbL jcl jcc jdh jcc cyI u.2.1 jcl cyI u.2.2 jbW cyI jdN jbL cyI jdi) : va_W)) u t) (va_A (qqD a0 jaK jfR ja1 jb6 jbc jbV ja3 jbH ja2 jbO jaq jac jbI jbl jbn jba jaa jbA jbz jb6 jbW jbL jcl jcc jdh jcc cyI jfl jcl cyI jfM jbW cyI jdN jbL cyI jdi) sz)) 8 48 (va_A (qqD a0 jaK jfR ja1 jb6 jbc jbV ja3 jbH ja2 jbO jaq jac jbI jbl jbn jba jaa jbA jbz jb6 jbW jbL jcl jcc jdh jcc cyI jfl jcl cyI jfM jbW cyI jdN jbL cyI jdi) sz) := by
  refine vx_ofW (cc := cX10_would) (maxL := 9) (ret := (some .int)) (by decide) rfl ?_
  intro p e s m args below meth c s₁ B hml hnt hv
  obtain ⟨rfl, hsz, hP, hK, hD0, hNw, hXl, hXu, hXn, hXt⟩ := hv
  have hx := B.exec
  have hb := B.bytes
  have hr := B.returns
  have hts := atoms_spec (ws := wsX10_would) B.pre
  have hown : s.vm.findClass RX10 = some m.cls := findClass_of_methodNamed B.named
  have hlocks := B.notSynchronized
  subst hsz
  have hD := hD0.self (sz := s.heap.size)
  generalize hAe : va_A (qqD a0 jaK jfR ja1 jb6 jbc jbV ja3 jbH ja2 jbO jaq jac jbI jbl jbn jba jaa jbA jbz jb6 jbW jbL jcl jcc jdh jcc cyI jfl jcl cyI jfM jbW cyI jdN jbL cyI jdi) s.heap.size = A at hD hXu hXn ⊢
  have hA : ∀ q : Nat, s.heap.size ≤ q → A q := fun q h => by rw [← hAe]; exact Or.inr h
  have hS : va_S A s.heap s.heap [] := va_S.rf
  have hP : va_P (dC, dI) vwCl (qqD a0 jaK jfR ja1 jb6 jbc jbV ja3 jbH ja2 jbO jaq jac jbI jbl jbn jba jaa jbA jbz jb6 jbW jbL jcl jcc jdh jcc cyI jfl jcl cyI jfM jbW cyI jdN jbL cyI jdi) s.heap := hP
  have hl := lv_entry ([.ref a0, .int p1, .int p2, .int p3, .int p4, .int p5, .int p6, .int p7, .int p8]) (n := 9) (nbq rfl)
  rw [lg_entry_eq]
  generalize (lg_sl ([.ref a0, .int p1, .int p2, .int p3, .int p4, .int p5, .int p6, .int p7, .int p8]) ++ List.replicate (9 - (lg_sl ([.ref a0, .int p1, .int p2, .int p3, .int p4, .int p5, .int p6, .int p7, .int p8])).length) Slot.unset).toArray = ls at hl ⊢
  have hl : lv_has ls 9 [(0, .ref a0), (1, .int p1), (2, .int p2), (3, .int p3), (4, .int p4), (5, .int p5), (6, .int p6), (7, .int p7), (8, .int p8)] := hl
  have hY : cfY l s A := ⟨hXl, hXu, hXn, hXt⟩
  have hXs : cfX l s c A := ⟨hnt, hY⟩
  have C0 : cfx p s m _ meth c cX10_would (some .int) wsX10_would RX10 9 A (dC, dI) (kT cyB cyI cyJ cyP) ∧ cfX l s c A := ⟨⟨hx, hb, hr, hts, hown, hlocks, hml, hA, hK, hNw⟩, hXs⟩
  clear hAe
  obtain ⟨H, hH⟩ : ∃ H, H = s.heap := ⟨_, rfl⟩
  rw [← hH] at hP ⊢
  have hS : va_S A s.heap H [] := by rw [hH]; exact va_S.rf
  have hS := hS
  refine lv_aload_n hx hb (qaa qjm 0 rfl) rfl (lv_at hl 0 rfl) ?_
  refine lv_iload_n hx hb (qaa qjm 1 rfl) rfl (lv_at hl 1 rfl) ?_
  refine lv_iconst (v := 0) hx hb (qaa qjm 2 rfl) (by decide) ?_
  refine lv_bipush (v := 9) hx hb (qaa qjm 3 rfl) (by decide) ?_
  obtain ⟨hCc, hPc, hDc, hFc⟩ := qac (ws' := (quy a0 jaK jfR ja1 jb6 jbc jbV ja3 jbH ja2 jbO jaq jac jbI jbl jbn jba jaa jbA jbz)) hP hD hS hA [0] (by decide +kernel) rfl
  refine vx_callv (vx_runV (As := [.int p1, .int 0, .int 9]) (rest := []) ⟨hx, hb, hml, hown, hts⟩ (qaV l dC dI cyB cyI cyJ cyP a0 H.size (jaK) (jfR) (ja1) (.ref jb6) (jbc) (jbV) (ja3) (jbH) (ja2) (jbO) (jaq) (jac) (jbI) (jbl) (jbn) (jba) (jaa) (jbA) jbz p1 0 9 hw) (cwV 3 hts gX10_would_X10_needWithin rfl rfl rfl (by decide +kernel) ⟨nbq rfl, nbq rfl⟩) ⟨qav, va_recv (q := (RX10, TX10, 19)) hK hPc (ci := 10) (q0 := 0) rfl rfl, qbl hPc hK hDc hNw hY hS hFc⟩ rfl rfl hl.1 rfl (lv_room (nbq rfl)) (qaa qjm 4 rfl) ⟨nbq rfl, nbq rfl⟩) hS (fun q _ h => hFc q h) hFc (fun q _ h => hFc q h) (fun en ce q9 u t H1 locs ht hvm hpx hB hz1 hk1 hS hc9 hv9 hcl9 => ?_) (fun u t H1 locs ht hvm hw hB hz1 hk1 hS => ?_)
  · obtain ⟨x1, rfl⟩ : ∃ z, z = u := ⟨_, rfl⟩
    obtain ⟨hw, hP1, hK1, hD1⟩ := hB
    rw [ht] at hP1
    obtain ⟨hP, hD⟩ := qad (wr := (qDJ jb6 jbW jbL jcl jcc jdh jcc cyI jfl jcl cyI jfM jbW cyI jdN jbL cyI jdi)) (w1 := (quy a0 jaK jfR ja1 jb6 jbc jbV ja3 jbH ja2 jbO jaq jac jbI jbl jbn jba jaa jbA x1)) (wn := (qqD a0 jaK jfR ja1 jb6 jbc jbV ja3 jbH ja2 jbO jaq jac jbI jbl jbn jba jaa jbA x1 jb6 jbW jbL jcl jcc jdh jcc cyI jfl jcl cyI jfM jbW cyI jdN jbL cyI jdi)) hP hD [0] [1, 2, 3, 4, 5] [5, 0, 1, 2, 3, 4] hCc rfl (by decide +kernel) (by decide +kernel) (by decide +kernel) rfl hk1 hFc hP1 hD1
    generalize H1 = H at hP hS hc9 ⊢
    exact vx_out (fun x hx9 => (hXs.1 x hx9).elim) hlocks hc9 hv9 hcl9 (fun t2 ht2 hal2 => ⟨(x1, jfl, jfM), trivial, ⟨hw, by rw [ht2]; exact hP, va_K.moved hal2 hK, hD⟩, hS.F ht2⟩) hS.2.2 (nbq rfl) (nbq rfl)
  obtain ⟨x1, rfl⟩ : ∃ z, z = u := ⟨_, rfl⟩
  obtain ⟨hP1, hK1, hD1⟩ := hB
  rw [ht] at hP1
  obtain ⟨hP, hD⟩ := qad (wr := (qDJ jb6 jbW jbL jcl jcc jdh jcc cyI jfl jcl cyI jfM jbW cyI jdN jbL cyI jdi)) (w1 := (quy a0 jaK jfR ja1 jb6 jbc jbV ja3 jbH ja2 jbO jaq jac jbI jbl jbn jba jaa jbA x1)) (wn := (qqD a0 jaK jfR ja1 jb6 jbc jbV ja3 jbH ja2 jbO jaq jac jbI jbl jbn jba jaa jbA x1 jb6 jbW jbL jcl jcc jdh jcc cyI jfl jcl cyI jfM jbW cyI jdN jbL cyI jdi)) hP hD [0] [1, 2, 3, 4, 5] [5, 0, 1, 2, 3, 4] hCc rfl (by decide +kernel) (by decide +kernel) (by decide +kernel) rfl hk1 hFc hP1 hD1
  generalize H1 = H at hP hS ⊢
  refine lv_aload_n hx hb (qaa qjm 5 rfl) rfl (lv_at hl 0 rfl) ?_
  refine lv_iload_n hx hb (qaa qjm 6 rfl) rfl (lv_at hl 2 rfl) ?_
  refine lv_iconst (v := 0) hx hb (qaa qjm 7 rfl) (by decide) ?_
  refine lv_sipush (v := 999) hx hb (qaa qjm 8 rfl) (by decide) ?_
  obtain ⟨hCc, hPc, hDc, hFc⟩ := qac (ws' := (quy a0 jaK jfR ja1 jb6 jbc jbV ja3 jbH ja2 jbO jaq jac jbI jbl jbn jba jaa jbA x1)) hP hD hS hA [0] (by decide +kernel) rfl
  refine vx_callv (vx_runV (As := [.int p2, .int 0, .int 999]) (rest := []) ⟨hx, hb, hml, hown, hts⟩ (qaV l dC dI cyB cyI cyJ cyP a0 H.size (jaK) (jfR) (ja1) (.ref jb6) (jbc) (jbV) (ja3) (jbH) (ja2) (jbO) (jaq) (jac) (jbI) (jbl) (jbn) (jba) (jaa) (jbA) x1 p2 0 999 hw) (cwV 3 hts gX10_would_X10_needWithin rfl rfl rfl (by decide +kernel) ⟨nbq rfl, nbq rfl⟩) ⟨qav, va_recv (q := (RX10, TX10, 19)) hK hPc (ci := 10) (q0 := 0) rfl rfl, qbl hPc hK hDc hNw hY hS hFc⟩ rfl rfl hl.1 rfl (lv_room (nbq rfl)) (qaa qjm 9 rfl) ⟨nbq rfl, nbq rfl⟩) hS (fun q _ h => hFc q h) hFc (fun q _ h => hFc q h) (fun en ce q9 u t H1 locs ht hvm hpx hB hz1 hk1 hS hc9 hv9 hcl9 => ?_) (fun u t H1 locs ht hvm hw hB hz1 hk1 hS => ?_)
  · obtain ⟨x2, rfl⟩ : ∃ z, z = u := ⟨_, rfl⟩
    obtain ⟨hw, hP1, hK1, hD1⟩ := hB
    rw [ht] at hP1
    obtain ⟨hP, hD⟩ := qad (wr := (qDJ jb6 jbW jbL jcl jcc jdh jcc cyI jfl jcl cyI jfM jbW cyI jdN jbL cyI jdi)) (w1 := (quy a0 jaK jfR ja1 jb6 jbc jbV ja3 jbH ja2 jbO jaq jac jbI jbl jbn jba jaa jbA x2)) (wn := (qqD a0 jaK jfR ja1 jb6 jbc jbV ja3 jbH ja2 jbO jaq jac jbI jbl jbn jba jaa jbA x2 jb6 jbW jbL jcl jcc jdh jcc cyI jfl jcl cyI jfM jbW cyI jdN jbL cyI jdi)) hP hD [0] [1, 2, 3, 4, 5] [5, 0, 1, 2, 3, 4] hCc rfl (by decide +kernel) (by decide +kernel) (by decide +kernel) rfl hk1 hFc hP1 hD1
    generalize H1 = H at hP hS hc9 ⊢
    exact vx_out (fun x hx9 => (hXs.1 x hx9).elim) hlocks hc9 hv9 hcl9 (fun t2 ht2 hal2 => ⟨(x2, jfl, jfM), trivial, ⟨hw, by rw [ht2]; exact hP, va_K.moved hal2 hK, hD⟩, hS.F ht2⟩) hS.2.2 (nbq rfl) (nbq rfl)
  obtain ⟨x2, rfl⟩ : ∃ z, z = u := ⟨_, rfl⟩
  obtain ⟨hP1, hK1, hD1⟩ := hB
  rw [ht] at hP1
  obtain ⟨hP, hD⟩ := qad (wr := (qDJ jb6 jbW jbL jcl jcc jdh jcc cyI jfl jcl cyI jfM jbW cyI jdN jbL cyI jdi)) (w1 := (quy a0 jaK jfR ja1 jb6 jbc jbV ja3 jbH ja2 jbO jaq jac jbI jbl jbn jba jaa jbA x2)) (wn := (qqD a0 jaK jfR ja1 jb6 jbc jbV ja3 jbH ja2 jbO jaq jac jbI jbl jbn jba jaa jbA x2 jb6 jbW jbL jcl jcc jdh jcc cyI jfl jcl cyI jfM jbW cyI jdN jbL cyI jdi)) hP hD [0] [1, 2, 3, 4, 5] [5, 0, 1, 2, 3, 4] hCc rfl (by decide +kernel) (by decide +kernel) (by decide +kernel) rfl hk1 hFc hP1 hD1
  generalize H1 = H at hP hS ⊢
  refine lv_aload_n hx hb (qaa qjm 10 rfl) rfl (lv_at hl 0 rfl) ?_
  refine lv_iload_n hx hb (qaa qjm 11 rfl) rfl (lv_at hl 3 rfl) ?_
  refine lv_iconst (v := 0) hx hb (qaa qjm 12 rfl) (by decide) ?_
  refine lv_sipush (v := 999) hx hb (qaa qjm 13 rfl) (by decide) ?_
  obtain ⟨hCc, hPc, hDc, hFc⟩ := qac (ws' := (quy a0 jaK jfR ja1 jb6 jbc jbV ja3 jbH ja2 jbO jaq jac jbI jbl jbn jba jaa jbA x2)) hP hD hS hA [0] (by decide +kernel) rfl
  refine vx_callv (vx_runV (As := [.int p3, .int 0, .int 999]) (rest := []) ⟨hx, hb, hml, hown, hts⟩ (qaV l dC dI cyB cyI cyJ cyP a0 H.size (jaK) (jfR) (ja1) (.ref jb6) (jbc) (jbV) (ja3) (jbH) (ja2) (jbO) (jaq) (jac) (jbI) (jbl) (jbn) (jba) (jaa) (jbA) x2 p3 0 999 hw) (cwV 3 hts gX10_would_X10_needWithin rfl rfl rfl (by decide +kernel) ⟨nbq rfl, nbq rfl⟩) ⟨qav, va_recv (q := (RX10, TX10, 19)) hK hPc (ci := 10) (q0 := 0) rfl rfl, qbl hPc hK hDc hNw hY hS hFc⟩ rfl rfl hl.1 rfl (lv_room (nbq rfl)) (qaa qjm 14 rfl) ⟨nbq rfl, nbq rfl⟩) hS (fun q _ h => hFc q h) hFc (fun q _ h => hFc q h) (fun en ce q9 u t H1 locs ht hvm hpx hB hz1 hk1 hS hc9 hv9 hcl9 => ?_) (fun u t H1 locs ht hvm hw hB hz1 hk1 hS => ?_)
  · obtain ⟨x3, rfl⟩ : ∃ z, z = u := ⟨_, rfl⟩
    obtain ⟨hw, hP1, hK1, hD1⟩ := hB
    rw [ht] at hP1
    obtain ⟨hP, hD⟩ := qad (wr := (qDJ jb6 jbW jbL jcl jcc jdh jcc cyI jfl jcl cyI jfM jbW cyI jdN jbL cyI jdi)) (w1 := (quy a0 jaK jfR ja1 jb6 jbc jbV ja3 jbH ja2 jbO jaq jac jbI jbl jbn jba jaa jbA x3)) (wn := (qqD a0 jaK jfR ja1 jb6 jbc jbV ja3 jbH ja2 jbO jaq jac jbI jbl jbn jba jaa jbA x3 jb6 jbW jbL jcl jcc jdh jcc cyI jfl jcl cyI jfM jbW cyI jdN jbL cyI jdi)) hP hD [0] [1, 2, 3, 4, 5] [5, 0, 1, 2, 3, 4] hCc rfl (by decide +kernel) (by decide +kernel) (by decide +kernel) rfl hk1 hFc hP1 hD1
    generalize H1 = H at hP hS hc9 ⊢
    exact vx_out (fun x hx9 => (hXs.1 x hx9).elim) hlocks hc9 hv9 hcl9 (fun t2 ht2 hal2 => ⟨(x3, jfl, jfM), trivial, ⟨hw, by rw [ht2]; exact hP, va_K.moved hal2 hK, hD⟩, hS.F ht2⟩) hS.2.2 (nbq rfl) (nbq rfl)
  obtain ⟨x3, rfl⟩ : ∃ z, z = u := ⟨_, rfl⟩
  obtain ⟨hP1, hK1, hD1⟩ := hB
  rw [ht] at hP1
  obtain ⟨hP, hD⟩ := qad (wr := (qDJ jb6 jbW jbL jcl jcc jdh jcc cyI jfl jcl cyI jfM jbW cyI jdN jbL cyI jdi)) (w1 := (quy a0 jaK jfR ja1 jb6 jbc jbV ja3 jbH ja2 jbO jaq jac jbI jbl jbn jba jaa jbA x3)) (wn := (qqD a0 jaK jfR ja1 jb6 jbc jbV ja3 jbH ja2 jbO jaq jac jbI jbl jbn jba jaa jbA x3 jb6 jbW jbL jcl jcc jdh jcc cyI jfl jcl cyI jfM jbW cyI jdN jbL cyI jdi)) hP hD [0] [1, 2, 3, 4, 5] [5, 0, 1, 2, 3, 4] hCc rfl (by decide +kernel) (by decide +kernel) (by decide +kernel) rfl hk1 hFc hP1 hD1
  generalize H1 = H at hP hS ⊢
  refine lv_aload_n hx hb (qaa qjm 15 rfl) rfl (lv_at hl 0 rfl) ?_
  refine lv_iload hx hb (qaa qhu 0 rfl) (lv_at hl 4 rfl) ?_
  refine lv_iconst (v := 0) hx hb (qaa qhu 1 rfl) (by decide) ?_
  refine lv_sipush (v := 999) hx hb (qaa qhu 2 rfl) (by decide) ?_
  obtain ⟨hCc, hPc, hDc, hFc⟩ := qac (ws' := (quy a0 jaK jfR ja1 jb6 jbc jbV ja3 jbH ja2 jbO jaq jac jbI jbl jbn jba jaa jbA x3)) hP hD hS hA [0] (by decide +kernel) rfl
  refine vx_callv (vx_runV (As := [.int p4, .int 0, .int 999]) (rest := []) ⟨hx, hb, hml, hown, hts⟩ (qaV l dC dI cyB cyI cyJ cyP a0 H.size (jaK) (jfR) (ja1) (.ref jb6) (jbc) (jbV) (ja3) (jbH) (ja2) (jbO) (jaq) (jac) (jbI) (jbl) (jbn) (jba) (jaa) (jbA) x3 p4 0 999 hw) (cwV 3 hts gX10_would_X10_needWithin rfl rfl rfl (by decide +kernel) ⟨nbq rfl, nbq rfl⟩) ⟨qav, va_recv (q := (RX10, TX10, 19)) hK hPc (ci := 10) (q0 := 0) rfl rfl, qbl hPc hK hDc hNw hY hS hFc⟩ rfl rfl hl.1 rfl (lv_room (nbq rfl)) (qaa qhu 3 rfl) ⟨nbq rfl, nbq rfl⟩) hS (fun q _ h => hFc q h) hFc (fun q _ h => hFc q h) (fun en ce q9 u t H1 locs ht hvm hpx hB hz1 hk1 hS hc9 hv9 hcl9 => ?_) (fun u t H1 locs ht hvm hw hB hz1 hk1 hS => ?_)
  · obtain ⟨x4, rfl⟩ : ∃ z, z = u := ⟨_, rfl⟩
    obtain ⟨hw, hP1, hK1, hD1⟩ := hB
    rw [ht] at hP1
    obtain ⟨hP, hD⟩ := qad (wr := (qDJ jb6 jbW jbL jcl jcc jdh jcc cyI jfl jcl cyI jfM jbW cyI jdN jbL cyI jdi)) (w1 := (quy a0 jaK jfR ja1 jb6 jbc jbV ja3 jbH ja2 jbO jaq jac jbI jbl jbn jba jaa jbA x4)) (wn := (qqD a0 jaK jfR ja1 jb6 jbc jbV ja3 jbH ja2 jbO jaq jac jbI jbl jbn jba jaa jbA x4 jb6 jbW jbL jcl jcc jdh jcc cyI jfl jcl cyI jfM jbW cyI jdN jbL cyI jdi)) hP hD [0] [1, 2, 3, 4, 5] [5, 0, 1, 2, 3, 4] hCc rfl (by decide +kernel) (by decide +kernel) (by decide +kernel) rfl hk1 hFc hP1 hD1
    generalize H1 = H at hP hS hc9 ⊢
    exact vx_out (fun x hx9 => (hXs.1 x hx9).elim) hlocks hc9 hv9 hcl9 (fun t2 ht2 hal2 => ⟨(x4, jfl, jfM), trivial, ⟨hw, by rw [ht2]; exact hP, va_K.moved hal2 hK, hD⟩, hS.F ht2⟩) hS.2.2 (nbq rfl) (nbq rfl)
  obtain ⟨x4, rfl⟩ : ∃ z, z = u := ⟨_, rfl⟩
  obtain ⟨hP1, hK1, hD1⟩ := hB
  rw [ht] at hP1
  obtain ⟨hP, hD⟩ := qad (wr := (qDJ jb6 jbW jbL jcl jcc jdh jcc cyI jfl jcl cyI jfM jbW cyI jdN jbL cyI jdi)) (w1 := (quy a0 jaK jfR ja1 jb6 jbc jbV ja3 jbH ja2 jbO jaq jac jbI jbl jbn jba jaa jbA x4)) (wn := (qqD a0 jaK jfR ja1 jb6 jbc jbV ja3 jbH ja2 jbO jaq jac jbI jbl jbn jba jaa jbA x4 jb6 jbW jbL jcl jcc jdh jcc cyI jfl jcl cyI jfM jbW cyI jdN jbL cyI jdi)) hP hD [0] [1, 2, 3, 4, 5] [5, 0, 1, 2, 3, 4] hCc rfl (by decide +kernel) (by decide +kernel) (by decide +kernel) rfl hk1 hFc hP1 hD1
  generalize H1 = H at hP hS ⊢
  refine lv_aload_n hx hb (qaa qhu 4 rfl) rfl (lv_at hl 0 rfl) ?_
  refine lv_iload hx hb (qaa qhu 5 rfl) (lv_at hl 5 rfl) ?_
  refine lv_iconst (v := 0) hx hb (qaa qhu 6 rfl) (by decide) ?_
  refine lv_iconst (v := 5) hx hb (qaa qhu 7 rfl) (by decide) ?_
  obtain ⟨hCc, hPc, hDc, hFc⟩ := qac (ws' := (quy a0 jaK jfR ja1 jb6 jbc jbV ja3 jbH ja2 jbO jaq jac jbI jbl jbn jba jaa jbA x4)) hP hD hS hA [0] (by decide +kernel) rfl
  refine vx_callv (vx_runV (As := [.int p5, .int 0, .int 5]) (rest := []) ⟨hx, hb, hml, hown, hts⟩ (qaV l dC dI cyB cyI cyJ cyP a0 H.size (jaK) (jfR) (ja1) (.ref jb6) (jbc) (jbV) (ja3) (jbH) (ja2) (jbO) (jaq) (jac) (jbI) (jbl) (jbn) (jba) (jaa) (jbA) x4 p5 0 5 hw) (cwV 3 hts gX10_would_X10_needWithin rfl rfl rfl (by decide +kernel) ⟨nbq rfl, nbq rfl⟩) ⟨qav, va_recv (q := (RX10, TX10, 19)) hK hPc (ci := 10) (q0 := 0) rfl rfl, qbl hPc hK hDc hNw hY hS hFc⟩ rfl rfl hl.1 rfl (lv_room (nbq rfl)) (qaa qhu 8 rfl) ⟨nbq rfl, nbq rfl⟩) hS (fun q _ h => hFc q h) hFc (fun q _ h => hFc q h) (fun en ce q9 u t H1 locs ht hvm hpx hB hz1 hk1 hS hc9 hv9 hcl9 => ?_) (fun u t H1 locs ht hvm hw hB hz1 hk1 hS => ?_)
  · obtain ⟨x5, rfl⟩ : ∃ z, z = u := ⟨_, rfl⟩
    obtain ⟨hw, hP1, hK1, hD1⟩ := hB
    rw [ht] at hP1
    obtain ⟨hP, hD⟩ := qad (wr := (qDJ jb6 jbW jbL jcl jcc jdh jcc cyI jfl jcl cyI jfM jbW cyI jdN jbL cyI jdi)) (w1 := (quy a0 jaK jfR ja1 jb6 jbc jbV ja3 jbH ja2 jbO jaq jac jbI jbl jbn jba jaa jbA x5)) (wn := (qqD a0 jaK jfR ja1 jb6 jbc jbV ja3 jbH ja2 jbO jaq jac jbI jbl jbn jba jaa jbA x5 jb6 jbW jbL jcl jcc jdh jcc cyI jfl jcl cyI jfM jbW cyI jdN jbL cyI jdi)) hP hD [0] [1, 2, 3, 4, 5] [5, 0, 1, 2, 3, 4] hCc rfl (by decide +kernel) (by decide +kernel) (by decide +kernel) rfl hk1 hFc hP1 hD1
    generalize H1 = H at hP hS hc9 ⊢
    exact vx_out (fun x hx9 => (hXs.1 x hx9).elim) hlocks hc9 hv9 hcl9 (fun t2 ht2 hal2 => ⟨(x5, jfl, jfM), trivial, ⟨hw, by rw [ht2]; exact hP, va_K.moved hal2 hK, hD⟩, hS.F ht2⟩) hS.2.2 (nbq rfl) (nbq rfl)
  obtain ⟨x5, rfl⟩ : ∃ z, z = u := ⟨_, rfl⟩
  obtain ⟨hP1, hK1, hD1⟩ := hB
  rw [ht] at hP1
  obtain ⟨hP, hD⟩ := qad (wr := (qDJ jb6 jbW jbL jcl jcc jdh jcc cyI jfl jcl cyI jfM jbW cyI jdN jbL cyI jdi)) (w1 := (quy a0 jaK jfR ja1 jb6 jbc jbV ja3 jbH ja2 jbO jaq jac jbI jbl jbn jba jaa jbA x5)) (wn := (qqD a0 jaK jfR ja1 jb6 jbc jbV ja3 jbH ja2 jbO jaq jac jbI jbl jbn jba jaa jbA x5 jb6 jbW jbL jcl jcc jdh jcc cyI jfl jcl cyI jfM jbW cyI jdN jbL cyI jdi)) hP hD [0] [1, 2, 3, 4, 5] [5, 0, 1, 2, 3, 4] hCc rfl (by decide +kernel) (by decide +kernel) (by decide +kernel) rfl hk1 hFc hP1 hD1
  generalize H1 = H at hP hS ⊢
  refine lv_aload_n hx hb (qaa qhu 9 rfl) rfl (lv_at hl 0 rfl) ?_
  refine lv_iload hx hb (qaa qhu 10 rfl) (lv_at hl 6 rfl) ?_
  refine lv_iconst (v := 1) hx hb (qaa qhu 11 rfl) (by decide) ?_
  refine lv_bipush (v := 31) hx hb (qaa qhu 12 rfl) (by decide) ?_
  obtain ⟨hCc, hPc, hDc, hFc⟩ := qac (ws' := (quy a0 jaK jfR ja1 jb6 jbc jbV ja3 jbH ja2 jbO jaq jac jbI jbl jbn jba jaa jbA x5)) hP hD hS hA [0] (by decide +kernel) rfl
  refine vx_callv (vx_runV (As := [.int p6, .int 1, .int 31]) (rest := []) ⟨hx, hb, hml, hown, hts⟩ (qaV l dC dI cyB cyI cyJ cyP a0 H.size (jaK) (jfR) (ja1) (.ref jb6) (jbc) (jbV) (ja3) (jbH) (ja2) (jbO) (jaq) (jac) (jbI) (jbl) (jbn) (jba) (jaa) (jbA) x5 p6 1 31 hw) (cwV 3 hts gX10_would_X10_needWithin rfl rfl rfl (by decide +kernel) ⟨nbq rfl, nbq rfl⟩) ⟨qav, va_recv (q := (RX10, TX10, 19)) hK hPc (ci := 10) (q0 := 0) rfl rfl, qbl hPc hK hDc hNw hY hS hFc⟩ rfl rfl hl.1 rfl (lv_room (nbq rfl)) (qaa qhu 13 rfl) ⟨nbq rfl, nbq rfl⟩) hS (fun q _ h => hFc q h) hFc (fun q _ h => hFc q h) (fun en ce q9 u t H1 locs ht hvm hpx hB hz1 hk1 hS hc9 hv9 hcl9 => ?_) (fun u t H1 locs ht hvm hw hB hz1 hk1 hS => ?_)
  · obtain ⟨x6, rfl⟩ : ∃ z, z = u := ⟨_, rfl⟩
    obtain ⟨hw, hP1, hK1, hD1⟩ := hB
    rw [ht] at hP1
    obtain ⟨hP, hD⟩ := qad (wr := (qDJ jb6 jbW jbL jcl jcc jdh jcc cyI jfl jcl cyI jfM jbW cyI jdN jbL cyI jdi)) (w1 := (quy a0 jaK jfR ja1 jb6 jbc jbV ja3 jbH ja2 jbO jaq jac jbI jbl jbn jba jaa jbA x6)) (wn := (qqD a0 jaK jfR ja1 jb6 jbc jbV ja3 jbH ja2 jbO jaq jac jbI jbl jbn jba jaa jbA x6 jb6 jbW jbL jcl jcc jdh jcc cyI jfl jcl cyI jfM jbW cyI jdN jbL cyI jdi)) hP hD [0] [1, 2, 3, 4, 5] [5, 0, 1, 2, 3, 4] hCc rfl (by decide +kernel) (by decide +kernel) (by decide +kernel) rfl hk1 hFc hP1 hD1
    generalize H1 = H at hP hS hc9 ⊢
    exact vx_out (fun x hx9 => (hXs.1 x hx9).elim) hlocks hc9 hv9 hcl9 (fun t2 ht2 hal2 => ⟨(x6, jfl, jfM), trivial, ⟨hw, by rw [ht2]; exact hP, va_K.moved hal2 hK, hD⟩, hS.F ht2⟩) hS.2.2 (nbq rfl) (nbq rfl)
  obtain ⟨x6, rfl⟩ : ∃ z, z = u := ⟨_, rfl⟩
  obtain ⟨hP1, hK1, hD1⟩ := hB
  rw [ht] at hP1
  obtain ⟨hP, hD⟩ := qad (wr := (qDJ jb6 jbW jbL jcl jcc jdh jcc cyI jfl jcl cyI jfM jbW cyI jdN jbL cyI jdi)) (w1 := (quy a0 jaK jfR ja1 jb6 jbc jbV ja3 jbH ja2 jbO jaq jac jbI jbl jbn jba jaa jbA x6)) (wn := (qqD a0 jaK jfR ja1 jb6 jbc jbV ja3 jbH ja2 jbO jaq jac jbI jbl jbn jba jaa jbA x6 jb6 jbW jbL jcl jcc jdh jcc cyI jfl jcl cyI jfM jbW cyI jdN jbL cyI jdi)) hP hD [0] [1, 2, 3, 4, 5] [5, 0, 1, 2, 3, 4] hCc rfl (by decide +kernel) (by decide +kernel) (by decide +kernel) rfl hk1 hFc hP1 hD1
  generalize H1 = H at hP hS ⊢
  refine lv_aload_n hx hb (qaa qhu 14 rfl) rfl (lv_at hl 0 rfl) ?_
  refine lv_iload hx hb (qaa qhu 15 rfl) (lv_at hl 7 rfl) ?_
  refine lv_iconst (v := 0) hx hb (qaa qhB 0 rfl) (by decide) ?_
  refine lv_iconst (v := 5) hx hb (qaa qhB 1 rfl) (by decide) ?_
  obtain ⟨hCc, hPc, hDc, hFc⟩ := qac (ws' := (quy a0 jaK jfR ja1 jb6 jbc jbV ja3 jbH ja2 jbO jaq jac jbI jbl jbn jba jaa jbA x6)) hP hD hS hA [0] (by decide +kernel) rfl
  refine vx_callv (vx_runV (As := [.int p7, .int 0, .int 5]) (rest := []) ⟨hx, hb, hml, hown, hts⟩ (qaV l dC dI cyB cyI cyJ cyP a0 H.size (jaK) (jfR) (ja1) (.ref jb6) (jbc) (jbV) (ja3) (jbH) (ja2) (jbO) (jaq) (jac) (jbI) (jbl) (jbn) (jba) (jaa) (jbA) x6 p7 0 5 hw) (cwV 3 hts gX10_would_X10_needWithin rfl rfl rfl (by decide +kernel) ⟨nbq rfl, nbq rfl⟩) ⟨qav, va_recv (q := (RX10, TX10, 19)) hK hPc (ci := 10) (q0 := 0) rfl rfl, qbl hPc hK hDc hNw hY hS hFc⟩ rfl rfl hl.1 rfl (lv_room (nbq rfl)) (qaa qhB 2 rfl) ⟨nbq rfl, nbq rfl⟩) hS (fun q _ h => hFc q h) hFc (fun q _ h => hFc q h) (fun en ce q9 u t H1 locs ht hvm hpx hB hz1 hk1 hS hc9 hv9 hcl9 => ?_) (fun u t H1 locs ht hvm hw hB hz1 hk1 hS => ?_)
  · obtain ⟨x7, rfl⟩ : ∃ z, z = u := ⟨_, rfl⟩
    obtain ⟨hw, hP1, hK1, hD1⟩ := hB
    rw [ht] at hP1
    obtain ⟨hP, hD⟩ := qad (wr := (qDJ jb6 jbW jbL jcl jcc jdh jcc cyI jfl jcl cyI jfM jbW cyI jdN jbL cyI jdi)) (w1 := (quy a0 jaK jfR ja1 jb6 jbc jbV ja3 jbH ja2 jbO jaq jac jbI jbl jbn jba jaa jbA x7)) (wn := (qqD a0 jaK jfR ja1 jb6 jbc jbV ja3 jbH ja2 jbO jaq jac jbI jbl jbn jba jaa jbA x7 jb6 jbW jbL jcl jcc jdh jcc cyI jfl jcl cyI jfM jbW cyI jdN jbL cyI jdi)) hP hD [0] [1, 2, 3, 4, 5] [5, 0, 1, 2, 3, 4] hCc rfl (by decide +kernel) (by decide +kernel) (by decide +kernel) rfl hk1 hFc hP1 hD1
    generalize H1 = H at hP hS hc9 ⊢
    exact vx_out (fun x hx9 => (hXs.1 x hx9).elim) hlocks hc9 hv9 hcl9 (fun t2 ht2 hal2 => ⟨(x7, jfl, jfM), trivial, ⟨hw, by rw [ht2]; exact hP, va_K.moved hal2 hK, hD⟩, hS.F ht2⟩) hS.2.2 (nbq rfl) (nbq rfl)
  obtain ⟨x7, rfl⟩ : ∃ z, z = u := ⟨_, rfl⟩
  obtain ⟨hP1, hK1, hD1⟩ := hB
  rw [ht] at hP1
  obtain ⟨hP, hD⟩ := qad (wr := (qDJ jb6 jbW jbL jcl jcc jdh jcc cyI jfl jcl cyI jfM jbW cyI jdN jbL cyI jdi)) (w1 := (quy a0 jaK jfR ja1 jb6 jbc jbV ja3 jbH ja2 jbO jaq jac jbI jbl jbn jba jaa jbA x7)) (wn := (qqD a0 jaK jfR ja1 jb6 jbc jbV ja3 jbH ja2 jbO jaq jac jbI jbl jbn jba jaa jbA x7 jb6 jbW jbL jcl jcc jdh jcc cyI jfl jcl cyI jfM jbW cyI jdN jbL cyI jdi)) hP hD [0] [1, 2, 3, 4, 5] [5, 0, 1, 2, 3, 4] hCc rfl (by decide +kernel) (by decide +kernel) (by decide +kernel) rfl hk1 hFc hP1 hD1
  generalize H1 = H at hP hS ⊢
  refine lv_aload_n hx hb (qaa qhB 3 rfl) rfl (lv_at hl 0 rfl) ?_
  refine lv_iload hx hb (qaa qhB 4 rfl) (lv_at hl 8 rfl) ?_
  refine lv_iconst (v := 0) hx hb (qaa qhB 5 rfl) (by decide) ?_
  refine lv_sipush (v := 999) hx hb (qaa qhB 6 rfl) (by decide) ?_
  obtain ⟨hCc, hPc, hDc, hFc⟩ := qac (ws' := (quy a0 jaK jfR ja1 jb6 jbc jbV ja3 jbH ja2 jbO jaq jac jbI jbl jbn jba jaa jbA x7)) hP hD hS hA [0] (by decide +kernel) rfl
  refine vx_callv (vx_runV (As := [.int p8, .int 0, .int 999]) (rest := []) ⟨hx, hb, hml, hown, hts⟩ (qaV l dC dI cyB cyI cyJ cyP a0 H.size (jaK) (jfR) (ja1) (.ref jb6) (jbc) (jbV) (ja3) (jbH) (ja2) (jbO) (jaq) (jac) (jbI) (jbl) (jbn) (jba) (jaa) (jbA) x7 p8 0 999 hw) (cwV 3 hts gX10_would_X10_needWithin rfl rfl rfl (by decide +kernel) ⟨nbq rfl, nbq rfl⟩) ⟨qav, va_recv (q := (RX10, TX10, 19)) hK hPc (ci := 10) (q0 := 0) rfl rfl, qbl hPc hK hDc hNw hY hS hFc⟩ rfl rfl hl.1 rfl (lv_room (nbq rfl)) (qaa qhB 7 rfl) ⟨nbq rfl, nbq rfl⟩) hS (fun q _ h => hFc q h) hFc (fun q _ h => hFc q h) (fun en ce q9 u t H1 locs ht hvm hpx hB hz1 hk1 hS hc9 hv9 hcl9 => ?_) (fun u t H1 locs ht hvm hw hB hz1 hk1 hS => ?_)
  · obtain ⟨x8, rfl⟩ : ∃ z, z = u := ⟨_, rfl⟩
    obtain ⟨hw, hP1, hK1, hD1⟩ := hB
    rw [ht] at hP1
    obtain ⟨hP, hD⟩ := qad (wr := (qDJ jb6 jbW jbL jcl jcc jdh jcc cyI jfl jcl cyI jfM jbW cyI jdN jbL cyI jdi)) (w1 := (quy a0 jaK jfR ja1 jb6 jbc jbV ja3 jbH ja2 jbO jaq jac jbI jbl jbn jba jaa jbA x8)) (wn := (qqD a0 jaK jfR ja1 jb6 jbc jbV ja3 jbH ja2 jbO jaq jac jbI jbl jbn jba jaa jbA x8 jb6 jbW jbL jcl jcc jdh jcc cyI jfl jcl cyI jfM jbW cyI jdN jbL cyI jdi)) hP hD [0] [1, 2, 3, 4, 5] [5, 0, 1, 2, 3, 4] hCc rfl (by decide +kernel) (by decide +kernel) (by decide +kernel) rfl hk1 hFc hP1 hD1
    generalize H1 = H at hP hS hc9 ⊢
    exact vx_out (fun x hx9 => (hXs.1 x hx9).elim) hlocks hc9 hv9 hcl9 (fun t2 ht2 hal2 => ⟨(x8, jfl, jfM), trivial, ⟨hw, by rw [ht2]; exact hP, va_K.moved hal2 hK, hD⟩, hS.F ht2⟩) hS.2.2 (nbq rfl) (nbq rfl)
  obtain ⟨x8, rfl⟩ : ∃ z, z = u := ⟨_, rfl⟩
  obtain ⟨hP1, hK1, hD1⟩ := hB
  rw [ht] at hP1
  obtain ⟨hP, hD⟩ := qad (wr := (qDJ jb6 jbW jbL jcl jcc jdh jcc cyI jfl jcl cyI jfM jbW cyI jdN jbL cyI jdi)) (w1 := (quy a0 jaK jfR ja1 jb6 jbc jbV ja3 jbH ja2 jbO jaq jac jbI jbl jbn jba jaa jbA x8)) (wn := (qqD a0 jaK jfR ja1 jb6 jbc jbV ja3 jbH ja2 jbO jaq jac jbI jbl jbn jba jaa jbA x8 jb6 jbW jbL jcl jcc jdh jcc cyI jfl jcl cyI jfM jbW cyI jdN jbL cyI jdi)) hP hD [0] [1, 2, 3, 4, 5] [5, 0, 1, 2, 3, 4] hCc rfl (by decide +kernel) (by decide +kernel) (by decide +kernel) rfl hk1 hFc hP1 hD1
  generalize H1 = H at hP hS ⊢
  refine lv_aload_n hx hb (qaa qhB 8 rfl) rfl (lv_at hl 0 rfl) ?_
  refine va_get (D := (dC, dI)) (ci := 10) (v := .ref jb6) (C := RX10) (T := TX10) (N := 19) hx hb hts qNj hown hK hP 0 rfl rfl 3 (by decide) (hts _ qNg) (fun _ h9 => h9) rfl (qaa qhB 9 rfl) ?_
  refine lv_iload_n hx hb (qaa qhB 10 rfl) rfl (lv_at hl 1 rfl) ?_
  refine lv_iload_n hx hb (qaa qhB 11 rfl) rfl (lv_at hl 2 rfl) ?_
  refine lv_iload_n hx hb (qaa qhB 12 rfl) rfl (lv_at hl 3 rfl) ?_
  refine lv_iload hx hb (qaa qhB 13 rfl) (lv_at hl 4 rfl) ?_
  refine lv_iload hx hb (qaa qhB 14 rfl) (lv_at hl 5 rfl) ?_
  obtain ⟨hCc, hPc, hDc, hFc⟩ := qac (ws' := (qaPZ jb6 jbW jbL jcl jcc jdh jcc cyI jfl)) hP hD hS hA [1, 2] (by decide +kernel) rfl
  refine va_callv (va_runV (As := [.int p1, .int p2, .int p3, .int p4, .int p5]) (rest := []) ⟨hx, hb, hml, hown, hts⟩ (q8k l dC dI cyB cyI cyJ cyP jb6 jcc H.size (.ref jbW) (.ref jbL) (.ref jcl) (.int jdh) jfl p1 p2 p3 p4 p5 hw) (cwV 5 hts gX10_would_X4_setFacts rfl rfl rfl (by decide +kernel) ⟨nbq rfl, nbq rfl⟩) ⟨qab, va_recv (q := (RX4, TX4, 5)) hK hPc (ci := 4) (q0 := 0) rfl rfl, qae hPc hK hDc hNw⟩ rfl rfl hl.1 rfl (lv_room (nbq rfl)) (qaa qhB 15 rfl) ⟨nbq rfl, nbq rfl⟩) hS (fun q _ h => hFc q h) hFc (fun u t H1 locs ht hvm hw hB hz1 hk1 hS => ?_)
  obtain ⟨f9, rfl⟩ : ∃ z, z = u := ⟨_, rfl⟩
  obtain ⟨hP1, hK1, hD1⟩ := hB
  rw [ht] at hP1
  obtain ⟨hP, hD⟩ := qad (wr := (qa52 a0 jaK jfR ja1 jb6 jbc jbV ja3 jbH ja2 jbO jaq jac jbI jbl jbn jba jaa jbA x8 jcl cyI jfM jbW cyI jdN jbL cyI jdi)) (w1 := (qaPZ jb6 jbW jbL jcl jcc jdh jcc cyI f9)) (wn := (qqD a0 jaK jfR ja1 jb6 jbc jbV ja3 jbH ja2 jbO jaq jac jbI jbl jbn jba jaa jbA x8 jb6 jbW jbL jcl jcc jdh jcc cyI f9 jcl cyI jfM jbW cyI jdN jbL cyI jdi)) hP hD [1, 2] [0, 3, 4, 5] [0, 4, 5, 1, 2, 3] hCc rfl (by decide +kernel) (by decide +kernel) (by decide +kernel) rfl hk1 hFc hP1 hD1
  generalize H1 = H at hP hS ⊢
  refine lv_aload_n hx hb (qaa qqC 0 rfl) rfl (lv_at hl 0 rfl) ?_
  refine va_get (D := (dC, dI)) (ci := 10) (v := .ref jb6) (C := RX10) (T := TX10) (N := 19) hx hb hts qNj hown hK hP 0 rfl rfl 3 (by decide) (hts _ qNg) (fun _ h9 => h9) rfl (qaa qqC 1 rfl) ?_
  refine lv_iload hx hb (qaa qqC 2 rfl) (lv_at hl 6 rfl) ?_
  refine lv_iload hx hb (qaa qqC 3 rfl) (lv_at hl 7 rfl) ?_
  refine lv_iload hx hb (qaa qqC 4 rfl) (lv_at hl 8 rfl) ?_
  obtain ⟨hCc, hPc, hDc, hFc⟩ := qac (ws' := (qaPZ jb6 jbW jbL jcl jcc jdh jcc cyI f9)) hP hD hS hA [1, 2] (by decide +kernel) rfl
  refine va_callv (va_runV (As := [.int p6, .int p7, .int p8]) (rest := []) ⟨hx, hb, hml, hown, hts⟩ (q7l l dC dI cyB cyI cyJ cyP jb6 jcc H.size (.ref jbW) (.ref jbL) (.ref jcl) (.int jdh) f9 p6 p7 p8 hw) (cwV 3 hts gX10_would_X4_setTimes rfl rfl rfl (by decide +kernel) ⟨nbq rfl, nbq rfl⟩) ⟨qab, va_recv (q := (RX4, TX4, 5)) hK hPc (ci := 4) (q0 := 0) rfl rfl, qae hPc hK hDc hNw⟩ rfl rfl hl.1 rfl (lv_room (nbq rfl)) (qaa qqC 5 rfl) ⟨nbq rfl, nbq rfl⟩) hS (fun q _ h => hFc q h) hFc (fun u t H1 locs ht hvm hw hB hz1 hk1 hS => ?_)
  obtain ⟨f10, rfl⟩ : ∃ z, z = u := ⟨_, rfl⟩
  obtain ⟨hP1, hK1, hD1⟩ := hB
  rw [ht] at hP1
  obtain ⟨hP, hD⟩ := qad (wr := (qa52 a0 jaK jfR ja1 jb6 jbc jbV ja3 jbH ja2 jbO jaq jac jbI jbl jbn jba jaa jbA x8 jcl cyI jfM jbW cyI jdN jbL cyI jdi)) (w1 := (qaPZ jb6 jbW jbL jcl jcc jdh jcc cyI f10)) (wn := (qqD a0 jaK jfR ja1 jb6 jbc jbV ja3 jbH ja2 jbO jaq jac jbI jbl jbn jba jaa jbA x8 jb6 jbW jbL jcl jcc jdh jcc cyI f10 jcl cyI jfM jbW cyI jdN jbL cyI jdi)) hP hD [1, 2] [0, 3, 4, 5] [0, 4, 5, 1, 2, 3] hCc rfl (by decide +kernel) (by decide +kernel) (by decide +kernel) rfl hk1 hFc hP1 hD1
  generalize H1 = H at hP hS ⊢
  refine lv_aload_n hx hb (qaa qqC 6 rfl) rfl (lv_at hl 0 rfl) ?_
  refine va_get (D := (dC, dI)) (ci := 10) (v := .ref jb6) (C := RX10) (T := TX10) (N := 19) hx hb hts qNj hown hK hP 0 rfl rfl 3 (by decide) (hts _ qNg) (fun _ h9 => h9) rfl (qaa qqC 7 rfl) ?_
  obtain ⟨hCc, hPc, hDc, hFc⟩ := qac (ws' := (qamZ jb6 jbW jbL jcl jcc jdh jcl cyI jfM jbW cyI jdN jbL cyI jdi jcc cyI f10)) hP hD hS hA [1, 3, 4, 5, 2] (by decide +kernel) rfl
  refine va_calli (va_runV (As := []) (rest := []) ⟨hx, hb, hml, hown, hts⟩ (qavk l dC dI cyB cyI cyJ cyP jb6 jcl jbW jcc jbL H.size jdh jdN jdi f10 jfM hw) (cwV 0 hts gX10_would_X4_reach rfl rfl rfl (by decide +kernel) ⟨nbq rfl, nbq rfl⟩) ⟨qab, va_recv (q := (RX4, TX4, 5)) hK hPc (ci := 4) (q0 := 0) rfl rfl, qae hPc hK hDc hNw⟩ rfl rfl hl.1 rfl (lv_room (nbq rfl)) (qaa qqC 8 rfl) ⟨nbq rfl, nbq rfl⟩) hS (fun q _ h => hFc q h) hFc (fun r12 u t H1 locs ht hvm hw hB hz1 hk1 hS => ?_)
  obtain ⟨f11, rfl⟩ : ∃ z, z = u := ⟨_, rfl⟩
  obtain ⟨hP1, hK1, hD1⟩ := hB
  rw [ht] at hP1
  obtain ⟨hP, hD⟩ := qad (wr := (quy a0 jaK jfR ja1 jb6 jbc jbV ja3 jbH ja2 jbO jaq jac jbI jbl jbn jba jaa jbA x8)) (w1 := (qamZ jb6 jbW jbL jcl jcc jdh jcl cyI f11 jbW cyI jdN jbL cyI jdi jcc cyI f10)) (wn := (qqD a0 jaK jfR ja1 jb6 jbc jbV ja3 jbH ja2 jbO jaq jac jbI jbl jbn jba jaa jbA x8 jb6 jbW jbL jcl jcc jdh jcc cyI f10 jcl cyI f11 jbW cyI jdN jbL cyI jdi)) hP hD [1, 3, 4, 5, 2] [0] [0, 1, 5, 2, 3, 4] hCc rfl (by decide +kernel) (by decide +kernel) (by decide +kernel) rfl hk1 hFc hP1 hD1
  generalize H1 = H at hP hS ⊢
  exact vx_ret (W.widen (k := 8) (n := 48) (nbq rfl) (nbq rfl) (W.iret (v := r12) hx hb hr (fun t ht hW => ⟨⟨r12, (x8, f10, f11), rfl, hw, by rw [ht]; exact hP, va_K.moved hW.alike hK, hD⟩, hS.F ht⟩) hS.2.2 (qaa qqC 9 rfl)))
theorem qaCT : (.classLink RL 13 "java/lang/IllegalArgumentException" : Cond) ∈ wsL_would := qaeu 595 (by decide +kernel)
theorem qaQy : (.codeWith yL_would cL_would 11 (some .int) [(0, 22, 25, 13)] : Cond) ∈ wsL_would := qaeu 2894 (by decide +kernel)
set_option maxHeartbeats 4000000 in
set_option maxRecDepth 100000 in
theorem qa2q (l : Launch) (dC : Nat → ClassId) (dI : Nat → Nat → Nat) (cyB cyI cyJ cyP : ClassId) (a0 a9 jb6 jcc jcl jbW jbL sz : Nat) (jaK jfR ja1 jbc jbV ja3 jbH ja2 jbO jaq jac jbI jbl jbn jba jaa jbA : Value) (n9 : Nat) (jdh : Int32) (jdN jdi : NI) (jbz : Int32) (jfl jfM : NI) (f9 : Nat → Int64) (p1 p2 p3 p4 p5 p6 p7 p8 : Int32) {Q : Int32 → Int32 → NI → NI → (Nat → Int64) → Prop} (hw : qaLp n9 jdh jdN jdi jbz jfl jfM f9 p1 p2 p3 p4 p5 p6 p7 p8 Q) : Met l yL_would wsL_would ({ frames := 9, cells := 8, slots := 48, locals := 192 }) (va_Pc [.ref a0, .int p1, .int p2, .int p3, .int p4, .int p5, .int p6, .int p7, .int p8, .ref a9] (cPx l (dC, dI) (kT cyB cyI cyJ cyP) (qM1 a0 jaK jfR ja1 jb6 jbc jbV ja3 jbH ja2 jbO jaq jac jbI jbl jbn jba jaa jbA jbz jb6 jbW jbL jcl jcc jdh jcc cyI jfl jcl cyI jfM jbW cyI jdN jbL cyI jdi a9 cyJ n9 f9) sz)) (va_Qi (fun (r : Int32) (u : Int32 × NI × NI × (Nat → Int64)) => Q r u.1 u.2.1 u.2.2.1 u.2.2.2) (cB (dC, dI) (kT cyB cyI cyJ cyP) (va_A (qM1 a0 jaK jfR ja1 jb6 jbc jbV ja3 jbH ja2 jbO jaq jac jbI jbl jbn jba jaa jbA jbz jb6 jbW jbL jcl jcc jdh jcc cyI jfl jcl cyI jfM jbW cyI jdN jbL cyI jdi a9 cyJ n9 f9) sz) (fun u : Int32 × NI × NI × (Nat → Int64) => ((qM1 a0 jaK jfR ja1 jb6 jbc jbV ja3 jbH ja2 jbO jaq jac jbI jbl jbn jba jaa jbA u.1 jb6 jbW jbL jcl jcc jdh jcc cyI u.2.1 jcl cyI u.2.2.1 jbW cyI jdN jbL cyI jdi a9 cyJ n9 u.2.2.2) : va_W))) (va_A (qM1 a0 jaK jfR ja1 jb6 jbc jbV ja3 jbH ja2 jbO jaq jac jbI jbl jbn jba jaa jbA jbz jb6 jbW jbL jcl jcc jdh jcc cyI jfl jcl cyI jfM jbW cyI jdN jbL cyI jdi a9 cyJ n9 f9) sz)) 8 48 (va_A (qM1 a0 jaK jfR ja1 jb6 jbc jbV ja3 jbH ja2 jbO jaq jac jbI jbl jbn jba jaa jbA jbz jb6 jbW jbL jcl jcc jdh jcc cyI jfl jcl cyI jfM jbW cyI jdN jbL cyI jdi a9 cyJ n9 f9) sz) := by
  refine va_MetW (cc := cL_would) (maxL := 11) (ret := (some .int)) (by decide) rfl ?_
  intro p e s m args below meth c s₁ B hml hv
  obtain ⟨rfl, hsz, hP, hK, hD0, hNw, hXl, hXu, hXn, hXt⟩ := hv
  have hx := B.exec
  have hb := B.bytes
  have hr := B.returns
  have hts := atoms_spec (ws := wsL_would) B.pre
  have hown : s.vm.findClass RL = some m.cls := findClass_of_methodNamed B.named
  have hlocks := B.notSynchronized
  subst hsz
  have hD := hD0.self (sz := s.heap.size)
  generalize hAe : va_A (qM1 a0 jaK jfR ja1 jb6 jbc jbV ja3 jbH ja2 jbO jaq jac jbI jbl jbn jba jaa jbA jbz jb6 jbW jbL jcl jcc jdh jcc cyI jfl jcl cyI jfM jbW cyI jdN jbL cyI jdi a9 cyJ n9 f9) s.heap.size = A at hD hXu hXn ⊢
  have hA : ∀ q : Nat, s.heap.size ≤ q → A q := fun q h => by rw [← hAe]; exact Or.inr h
  have hS : va_S A s.heap s.heap [] := va_S.rf
  have hP : va_P (dC, dI) vwCl (qM1 a0 jaK jfR ja1 jb6 jbc jbV ja3 jbH ja2 jbO jaq jac jbI jbl jbn jba jaa jbA jbz jb6 jbW jbL jcl jcc jdh jcc cyI jfl jcl cyI jfM jbW cyI jdN jbL cyI jdi a9 cyJ n9 f9) s.heap := hP
  have hl := lv_entry ([.ref a0, .int p1, .int p2, .int p3, .int p4, .int p5, .int p6, .int p7, .int p8, .ref a9]) (n := 11) (nbq rfl)
  rw [lg_entry_eq]
  generalize (lg_sl ([.ref a0, .int p1, .int p2, .int p3, .int p4, .int p5, .int p6, .int p7, .int p8, .ref a9]) ++ List.replicate (11 - (lg_sl ([.ref a0, .int p1, .int p2, .int p3, .int p4, .int p5, .int p6, .int p7, .int p8, .ref a9])).length) Slot.unset).toArray = ls at hl ⊢
  have hl : lv_has ls 11 [(0, .ref a0), (1, .int p1), (2, .int p2), (3, .int p3), (4, .int p4), (5, .int p5), (6, .int p6), (7, .int p7), (8, .int p8), (9, .ref a9)] := hl
  have hY : cfY l s A := ⟨hXl, hXu, hXn, hXt⟩
  have hTb := vx_table (x := yL_would) B (hts _ qaQy)
  clear hAe
  obtain ⟨H, hH⟩ : ∃ H, H = s.heap := ⟨_, rfl⟩
  rw [← hH] at hP ⊢
  have hS : va_S A s.heap H [] := by rw [hH]; exact va_S.rf
  have hS := hS
  refine lv_aload hx hb (qaa qoq 0 rfl) (lv_at hl 9 rfl) ?_
  refine lv_iconst (v := 0) hx hb (qaa qoq 1 rfl) (by decide) ?_
  refine lv_aload_n hx hb (qaa qoq 2 rfl) rfl (lv_at hl 0 rfl) ?_
  refine lv_iload_n hx hb (qaa qoq 3 rfl) rfl (lv_at hl 1 rfl) ?_
  refine lv_iload_n hx hb (qaa qoq 4 rfl) rfl (lv_at hl 2 rfl) ?_
  refine lv_iload_n hx hb (qaa qoq 5 rfl) rfl (lv_at hl 3 rfl) ?_
  refine lv_iload hx hb (qaa qoq 6 rfl) (lv_at hl 4 rfl) ?_
  refine lv_iload hx hb (qaa qoq 7 rfl) (lv_at hl 5 rfl) ?_
  refine lv_iload hx hb (qaa qoq 8 rfl) (lv_at hl 6 rfl) ?_
  refine lv_iload hx hb (qaa qoq 9 rfl) (lv_at hl 7 rfl) ?_
  refine lv_iload hx hb (qaa qoq 10 rfl) (lv_at hl 8 rfl) ?_
  obtain ⟨hCc, hPc, hDc, hFc⟩ := qac (ws' := (qqD a0 jaK jfR ja1 jb6 jbc jbV ja3 jbH ja2 jbO jaq jac jbI jbl jbn jba jaa jbA jbz jb6 jbW jbL jcl jcc jdh jcc cyI jfl jcl cyI jfM jbW cyI jdN jbL cyI jdi)) hP hD hS hA [0, 1, 2, 3, 4, 5] (by decide +kernel) rfl
  refine vx_calli (vx_runV (As := [.int p1, .int p2, .int p3, .int p4, .int p5, .int p6, .int p7, .int p8]) (rest := [.int 0, .ref a9]) ⟨hx, hb, hml, hown, hts⟩ (qaV4 l dC dI cyB cyI cyJ cyP a0 jb6 jcc jcl jbW jbL H.size (jaK) (jfR) (ja1) (jbc) (jbV) (ja3) (jbH) (ja2) (jbO) (jaq) (jac) (jbI) (jbl) (jbn) (jba) (jaa) (jbA) jdh jdN jdi jbz jfl jfM p1 p2 p3 p4 p5 p6 p7 p8 hw) (cwV 8 hts gL_would_X10_would rfl rfl rfl (by decide +kernel) ⟨nbq rfl, nbq rfl⟩) ⟨qav, va_recv (q := (RX10, TX10, 19)) hK hPc (ci := 10) (q0 := 0) rfl rfl, qbl hPc hK hDc hNw hY hS hFc⟩ rfl rfl hl.1 rfl (lv_room (nbq rfl)) (qaa qoq 11 rfl) ⟨nbq rfl, nbq rfl⟩) hS (fun q _ h => hFc q h) hFc (fun q _ h => hFc q h) (fun en ce qx9 u t H1 locs ht hvm hpx hB hz1 hk1 hS hc9 hv9 hcl9 => ?_) (fun r4 u t H1 locs ht hvm hw hB hz1 hk1 hS => ?_)
  · obtain ⟨x1, f2, f3⟩ := u
    obtain ⟨hw, hP1, hK1, hD1⟩ := hB
    rw [ht] at hP1
    obtain ⟨hP, hD⟩ := qad (wr := [(a9, .inl (cyJ, n9, .inr (.inl f9)))]) (w1 := (qqD a0 jaK jfR ja1 jb6 jbc jbV ja3 jbH ja2 jbO jaq jac jbI jbl jbn jba jaa jbA x1 jb6 jbW jbL jcl jcc jdh jcc cyI f2 jcl cyI f3 jbW cyI jdN jbL cyI jdi)) (wn := (qM1 a0 jaK jfR ja1 jb6 jbc jbV ja3 jbH ja2 jbO jaq jac jbI jbl jbn jba jaa jbA x1 jb6 jbW jbL jcl jcc jdh jcc cyI f2 jcl cyI f3 jbW cyI jdN jbL cyI jdi a9 cyJ n9 f9)) hP hD [0, 1, 2, 3, 4, 5] [6] [1, 2, 3, 4, 5, 6, 0] hCc rfl (by decide +kernel) (by decide +kernel) (by decide +kernel) rfl hk1 hFc hP1 hD1
    generalize H1 = H at hP hS hc9 ⊢
    obtain ⟨rfl, hw⟩ := hw
    refine vx_catch (own := RL) (name := "java/lang/IllegalArgumentException") hown [] ⟨0, 22, 25, 13⟩ [] (hTb.trans rfl) (fun z hz => nomatch hz) (by decide) (by decide) (hts _ qaCT) (va_Nw.use rfl (hY.2.2.2.1.2 _ (List.mem_of_getElem? (i := 0) rfl))) hc9 hv9 hcl9 ?_
    refine lv_astore (lv' := [(10, .ref qx9), (0, .ref a0), (1, .int p1), (2, .int p2), (3, .int p3), (4, .int p4), (5, .int p5), (6, .int p6), (7, .int p7), (8, .int p8), (9, .ref a9)]) hx hb (qaa qoq 15 rfl) hl (by decide) rfl (fun ls hl => ?_)
    refine lv_iconst (v := 1) hx hb (qaa qNX 0 rfl) (by decide) ?_
    exact (W.widen (k := 8) (n := 48) (nbq rfl) (nbq rfl) (W.iret (v := 1) hx hb hr (fun t ht hW => ⟨⟨1, (x1, f2, f3, f9), rfl, hw, by rw [ht]; exact hP, va_K.moved hW.alike hK, hD⟩, hS.F ht⟩) hS.2.2 (qaa qNX 1 rfl)))
  obtain ⟨x1, f2, f3⟩ := u
  obtain ⟨hP1, hK1, hD1⟩ := hB
  rw [ht] at hP1
  obtain ⟨hP, hD⟩ := va_join (wr := [(a9, .inl (cyJ, n9, .inr (.inl f9)))]) (w1 := (qqD a0 jaK jfR ja1 jb6 jbc jbV ja3 jbH ja2 jbO jaq jac jbI jbl jbn jba jaa jbA x1 jb6 jbW jbL jcl jcc jdh jcc cyI f2 jcl cyI f3 jbW cyI jdN jbL cyI jdi)) hP hD [0, 1, 2, 3, 4, 5] [6] rfl rfl (by decide) (by decide) hk1 hFc hP1 hD1
  have hP : va_P (dC, dI) vwCl (qM1 a0 jaK jfR ja1 jb6 jbc jbV ja3 jbH ja2 jbO jaq jac jbI jbl jbn jba jaa jbA x1 jb6 jbW jbL jcl jcc jdh jcc cyI f2 jcl cyI f3 jbW cyI jdN jbL cyI jdi a9 cyJ n9 f9) H1 := hP.sub [1, 2, 3, 4, 5, 6, 0] rfl
  have hD : va_D A (qM1 a0 jaK jfR ja1 jb6 jbc jbV ja3 jbH ja2 jbO jaq jac jbI jbl jbn jba jaa jbA x1 jb6 jbW jbL jcl jcc jdh jcc cyI f2 jcl cyI f3 jbW cyI jdN jbL cyI jdi a9 cyJ n9 f9) := hD.sub [1, 2, 3, 4, 5, 6, 0] (by decide) rfl
  generalize H1 = H at hP hS ⊢
  refine lv_i2l (v := r4.toInt64) hx hb (qaa qoq 12 rfl) rfl ?_
  refine lv_topl (fun x5 ex5 => ?_)
  have hw := hw x5 ex5
  obtain ⟨hi9, hw⟩ := hw
  refine va_last hx hb hK hP hD hS 6 2 rfl rfl hi9 (qaa qoq 13 rfl) (fun H locs hP hD hS => ?_)
  obtain ⟨f6, ef6⟩ : ∃ y : Nat → Int64, y = vp_updL f9 (0 : Int32).toNatClampNeg x5 := ⟨_, rfl⟩
  have hw := hw f6 ef6
  have hP : va_P (dC, dI) vwCl (qM1 a0 jaK jfR ja1 jb6 jbc jbV ja3 jbH ja2 jbO jaq jac jbI jbl jbn jba jaa jbA x1 jb6 jbW jbL jcl jcc jdh jcc cyI f2 jcl cyI f3 jbW cyI jdN jbL cyI jdi a9 cyJ n9 f6) H := by rw [ef6]; exact hP
  have hD : va_D A (qM1 a0 jaK jfR ja1 jb6 jbc jbV ja3 jbH ja2 jbO jaq jac jbI jbl jbn jba jaa jbA x1 jb6 jbW jbL jcl jcc jdh jcc cyI f2 jcl cyI f3 jbW cyI jdN jbL cyI jdi a9 cyJ n9 f6) := by rw [ef6]; exact hD
  refine lv_goto (tgt := 29) hx hb (qaa qoq 14 rfl) (by decide) ?_
  refine lv_iconst (v := 0) hx hb (qaa qNX 2 rfl) (by decide) ?_
  exact (W.widen (k := 8) (n := 48) (nbq rfl) (nbq rfl) (W.iret (v := 0) hx hb hr (fun t ht hW => ⟨⟨0, (x1, f2, f3, f6), rfl, hw, by rw [ht]; exact hP, va_K.moved hW.alike hK, hD⟩, hS.F ht⟩) hS.2.2 (qaa qNX 3 rfl)))
theorem qaSs : ∀ w ∈ u_ws RX0 TX0 2, w ∈ wsX0_init := uiM qLA euX0 (by decide +kernel)
theorem qaoU : (.arrayClass .int : Cond) ∈ wsX0_init := qLA 147 (by decide +kernel)
theorem qaz9 : (.code objectInit ⟨#[0xb1]⟩ 1 none : Cond) ∈ wsX0_init := qLA 12 (by decide +kernel)
theorem qaP1 : (.fieldLink RX0 9 "MarchHares$Book" "seen" "[I" : Cond) ∈ wsX0_init := qLA 257 (by decide +kernel)
theorem qats : (.instanceMethod objectInit : Cond) ∈ wsX0_init := qLA 11 (by decide +kernel)
theorem qaQK : (.methodLink RX0 3 objectInit : Cond) ∈ wsX0_init := qLA 256 (by decide +kernel)
set_option maxHeartbeats 4000000 in
set_option maxRecDepth 100000 in
theorem qaMn (l : Launch) (dC : Nat → ClassId) (dI : Nat → Nat → Nat) (cyB cyI cyJ cyP : ClassId) (a0 sz : Nat) {Q : Int32 → NI → Prop} (hw : qanv Q) : Met l yX0_init wsX0_init ({ frames := 1, cells := 1, slots := 8, locals := 24 }) (va_Pc [.ref a0] (cPc (dC, dI) (kT cyB cyI cyJ cyP) [(a0, .inr (0, [.null, .int 0]))] sz)) (va_Qv (fun (u : (Nat → Nat) × (Int32) × NI) => Q u.2.1 u.2.2) (cB (dC, dI) (kT cyB cyI cyJ cyP) (va_A [(a0, .inr (0, [.null, .int 0]))] sz) (fun u : (Nat → Nat) × (Int32) × NI => ((qakq a0 (u.1 0) u.2.1 (u.1 0) cyI u.2.2) : va_W))) (va_A [(a0, .inr (0, [.null, .int 0]))] sz)) 1 8 (va_A [(a0, .inr (0, [.null, .int 0]))] sz) := by
  refine Met.ofW (cc := cX0_init) (maxL := 1) (ret := none) (by decide) rfl ?_
  intro p e s m args below meth c s₁ B hml hv
  obtain ⟨rfl, hsz, hP, hK, hD0, hNw⟩ := hv
  have hx := B.exec
  have hb := B.bytes
  have hr := B.returns
  have hts := atoms_spec (ws := wsX0_init) B.pre
  have hown : s.vm.findClass RX0 = some m.cls := findClass_of_methodNamed B.named
  have hlocks := B.notSynchronized
  have hin : meth.name = "<init>" := (name_of_methodNamed B.named B.method).1
  subst hsz
  have hD := hD0.self (sz := s.heap.size)
  generalize hAe : va_A [(a0, .inr (0, [.null, .int 0]))] s.heap.size = A at hD ⊢
  have hA : ∀ q : Nat, s.heap.size ≤ q → A q := fun q h => by rw [← hAe]; exact Or.inr h
  have hS : va_S A s.heap s.heap [] := va_S.rf
  have hP : va_P (dC, dI) vwCl [(a0, .inr (0, [.null, .int 0]))] s.heap := hP
  have hl := lv_entry ([.ref a0]) (n := 1) (nbq rfl)
  rw [lg_entry_eq]
  generalize (lg_sl ([.ref a0]) ++ List.replicate (1 - (lg_sl ([.ref a0])).length) Slot.unset).toArray = ls at hl ⊢
  have hl : lv_has ls 1 [(0, .ref a0)] := hl
  clear hAe
  obtain ⟨H, hH⟩ : ∃ H, H = s.heap := ⟨_, rfl⟩
  rw [← hH] at hP ⊢
  have hS : va_S A s.heap H [] := by rw [hH]; exact va_S.rf
  refine lv_aload_n hx hb (qaa qSL 0 rfl) rfl (lv_at hl 0 rfl) ?_
  refine W.objInit hx hb hown (hts _ qaQK) (hts _ qats) (hts _ qaz9) rfl (by rw [hml]; exact hl.1) rfl (qaa qSL 1 rfl) (nbq rfl) (nbq rfl) ?_
  refine W.eq (g2 := F0 m 4 ls []) rfl ?_
  refine lv_aload_n hx hb (qaa qSL 2 rfl) rfl (lv_at hl 0 rfl) ?_
  refine lv_bipush (v := 8) hx hb (qaa qSL 3 rfl) (by decide) ?_
  refine va_newa (atype := .int) (ty := .int) (N' := 8) (a0 := (8, .inl (fun _ => 0))) hx hb (hts _ qaoU) rfl hK hP hD hS hA (fun _ => rfl) (by decide) (by decide) (by decide) (nbq rfl) (nbq rfl) dX0_init_7 (fun jjj cA9 H hK9 hP hD hS => ?_)
  obtain rfl := qk3 hK9
  have hP : va_P (dC, dI) vwCl (qa7j a0 0 jjj cyI (fun _ => 0)) H := hP
  have hD : va_D A (qa7j a0 0 jjj cyI (fun _ => 0)) := hD
  refine va_putF (D := (dC, dI)) (ci := 0) (v := .ref jjj) (ty := .array .int) (C := RX0) (T := TX0) (N := 2) hx hb hts qaSs tyX0 tyX0_ok nmX0 hown hK hP hD hS 0 rfl rfl 0 (by decide) (hts _ qaP1) (fun _ h9 => h9) rfl hin rfl (by decide +kernel) rfl rfl (nbq rfl) (qaa qSV 0 rfl) (fun H locs hP hD hS => ?_)
  have hP : va_P (dC, dI) vwCl (qakq a0 jjj 0 jjj cyI (fun _ => 0)) H := hP
  have hD : va_D A (qakq a0 jjj 0 jjj cyI (fun _ => 0)) := hD
  refine lv_aload_n hx hb (qaa qSV 1 rfl) rfl (lv_at hl 0 rfl) ?_
  obtain ⟨hCc, hPc, hDc, hFc⟩ := qac (ws' := (qakq a0 jjj 0 jjj cyI (fun _ => 0))) hP hD hS hA [0, 1] (by decide +kernel) rfl
  refine va_callv (va_runV (As := []) (rest := []) ⟨hx, hb, hml, hown, hts⟩ (q9A l dC dI cyB cyI cyJ cyP a0 jjj H.size 0 (fun _ => 0) hw) (cwV 0 hts gX0_init_X0_clear rfl rfl rfl (by decide +kernel) ⟨nbq rfl, nbq rfl⟩) ⟨qab, va_recv (q := (RX0, TX0, 2)) hK hPc (ci := 0) (q0 := 0) rfl rfl, qae hPc hK hDc hNw⟩ rfl rfl hl.1 rfl (lv_room (nbq rfl)) (qaa qSV 2 rfl) ⟨nbq rfl, nbq rfl⟩) hS (fun q _ h => hFc q h) hFc (fun u t H1 locs ht hvm hw hB hz1 hk1 hS => ?_)
  obtain ⟨x1, f2⟩ := u
  obtain ⟨hP1, hK1, hD1⟩ := hB
  rw [ht] at hP1
  obtain ⟨hP, hD⟩ := qah (wr := []) (w1 := (qakq a0 jjj x1 jjj cyI f2)) (wn := (qakq a0 jjj x1 jjj cyI f2)) hP hD [0, 1] [] hCc rfl (by decide +kernel) (by decide +kernel) rfl hk1 hFc hP1 hD1
  generalize H1 = H at hP hS ⊢
  exact (W.widen (k := 1) (n := 8) (nbq rfl) (nbq rfl) (W.vret hx hb hr (fun t ht hW => ⟨⟨((adr [jjj]), x1, f2), rfl, hw, by rw [ht]; exact hP, va_K.moved hW.alike hK, hD⟩, hS.F ht⟩) hS.2.2 (qaa qSV 3 rfl)))
theorem qNi : ∀ w ∈ u_ws RX10 TX10 19, w ∈ wsX10_count := uiM qBq qyN (by decide +kernel)
theorem qaDc : ∀ w ∈ u_ws RX5 TX5 2, w ∈ wsX10_count := uiM qBq euX5 (by decide +kernel)
theorem qazF : ∀ w ∈ u_ws RX8 TX8 7, w ∈ wsX10_count := uiM qBq euX8 (by decide +kernel)
theorem qasn : (.fieldLink RX10 10 "MarchHares" "tape" "LMarchHares$Tape;" : Cond) ∈ wsX10_count := qBq 16 (by decide +kernel)
theorem qamo : (.fieldLink RX10 105 "MarchHares$Tape" "filled" "I" : Cond) ∈ wsX10_count := qBq 535 (by decide +kernel)
theorem qajm : (.fieldLink RX10 132 "MarchHares$Past" "kept" "I" : Cond) ∈ wsX10_count := qBq 641 (by decide +kernel)
theorem qalf : (.fieldLink RX10 135 "MarchHares" "imagesKept" "I" : Cond) ∈ wsX10_count := qBq 642 (by decide +kernel)
theorem qat3 : (.fieldLink RX10 68 "MarchHares" "past" "LMarchHares$Past;" : Cond) ∈ wsX10_count := qBq 84 (by decide +kernel)
set_option maxHeartbeats 4000000 in
set_option maxRecDepth 100000 in
theorem qaTQ (l : Launch) (dC : Nat → ClassId) (dI : Nat → Nat → Nat) (cyB cyI cyJ cyP : ClassId) (a0 jaW jeG sz : Nat) (jfR ja1 jcp jbc jbV ja3 jbH ja2 jbO jac jbI jbl jbn jaa jbA jdD jok jnj jn8 jnw jnx jm1 jm2 : Value) (jkc jj0 jje p1 : Int32) {Q : Int32 → Prop} (hw : q1z jkc jj0 jje p1 Q) : Met l yX10_count wsX10_count ({ frames := 0, cells := 0, slots := 0, locals := 0 }) (va_Pc [.ref a0, .int p1] (cPc (dC, dI) (kT cyB cyI cyJ cyP) (qaaZ a0 jaW jfR ja1 jcp jbc jbV ja3 jbH ja2 jbO jeG jac jbI jbl jbn jkc jaa jbA jdD jaW jok jnj jn8 jnw jj0 jnx jm1 jeG jm2 jje) sz)) (va_Qi (fun (r : Int32) (_ : Unit) => Q r ) (cB (dC, dI) (kT cyB cyI cyJ cyP) (va_A (qaaZ a0 jaW jfR ja1 jcp jbc jbV ja3 jbH ja2 jbO jeG jac jbI jbl jbn jkc jaa jbA jdD jaW jok jnj jn8 jnw jj0 jnx jm1 jeG jm2 jje) sz) (fun u : Unit => ((qaaZ a0 jaW jfR ja1 jcp jbc jbV ja3 jbH ja2 jbO jeG jac jbI jbl jbn jkc jaa jbA jdD jaW jok jnj jn8 jnw jj0 jnx jm1 jeG jm2 jje) : va_W))) (va_A (qaaZ a0 jaW jfR ja1 jcp jbc jbV ja3 jbH ja2 jbO jeG jac jbI jbl jbn jkc jaa jbA jdD jaW jok jnj jn8 jnw jj0 jnx jm1 jeG jm2 jje) sz)) 0 0 (va_A (qaaZ a0 jaW jfR ja1 jcp jbc jbV ja3 jbH ja2 jbO jeG jac jbI jbl jbn jkc jaa jbA jdD jaW jok jnj jn8 jnw jj0 jnx jm1 jeG jm2 jje) sz) := by
  refine Met.ofW (cc := cX10_count) (maxL := 2) (ret := (some .int)) (by decide) rfl ?_
  intro p e s m args below meth c s₁ B hml hv
  obtain ⟨rfl, hsz, hP, hK, hD0, hNw⟩ := hv
  have hx := B.exec
  have hb := B.bytes
  have hr := B.returns
  have hts := atoms_spec (ws := wsX10_count) B.pre
  have hown : s.vm.findClass RX10 = some m.cls := findClass_of_methodNamed B.named
  have hlocks := B.notSynchronized
  subst hsz
  have hD := hD0.self (sz := s.heap.size)
  generalize hAe : va_A (qaaZ a0 jaW jfR ja1 jcp jbc jbV ja3 jbH ja2 jbO jeG jac jbI jbl jbn jkc jaa jbA jdD jaW jok jnj jn8 jnw jj0 jnx jm1 jeG jm2 jje) s.heap.size = A at hD ⊢
  have hA : ∀ q : Nat, s.heap.size ≤ q → A q := fun q h => by rw [← hAe]; exact Or.inr h
  have hS : va_S A s.heap s.heap [] := va_S.rf
  have hP : va_P (dC, dI) vwCl (qaaZ a0 jaW jfR ja1 jcp jbc jbV ja3 jbH ja2 jbO jeG jac jbI jbl jbn jkc jaa jbA jdD jaW jok jnj jn8 jnw jj0 jnx jm1 jeG jm2 jje) s.heap := hP
  have hl := lv_entry ([.ref a0, .int p1]) (n := 2) (nbq rfl)
  rw [lg_entry_eq]
  generalize (lg_sl ([.ref a0, .int p1]) ++ List.replicate (2 - (lg_sl ([.ref a0, .int p1])).length) Slot.unset).toArray = ls at hl ⊢
  have hl : lv_has ls 2 [(0, .ref a0), (1, .int p1)] := hl
  have C0 : cfx p s m _ meth c cX10_count (some .int) wsX10_count RX10 2 A (dC, dI) (kT cyB cyI cyJ cyP) := ⟨hx, hb, hr, hts, hown, hlocks, hml, hA, hK, hNw⟩
  clear hAe
  obtain ⟨H, hH⟩ : ∃ H, H = s.heap := ⟨_, rfl⟩
  rw [← hH] at hP ⊢
  have hS : va_S A s.heap H [] := by rw [hH]; exact va_S.rf
  have hS := hS
  refine lv_iload_n hx hb (qaa qaEK 0 rfl) rfl (lv_at hl 1 rfl) ?_
  by_cases c1 : p1.toInt < 0 ∨ 2 < p1.toInt
  · have hw := hw.1 c1
    refine lv_tableOut (tgt := 49) hx hb dX10_count_1 c1 (by decide) ?_
    refine lv_iconst (v := (-1)) hx hb (qaa qm8 11 rfl) (by decide) ?_
    exact ((W.iret (v := (-1)) hx hb hr (fun t ht hW => ⟨⟨(-1), (), rfl, hw, by rw [ht]; exact hP, va_K.moved hW.alike hK, hD⟩, hS.F ht⟩) hS.2.2 (qaa qm8 12 rfl)))
  · have hw := hw.2
    rcases qawZ c1 with c1 | c1 | c1
    · have hw := hw.1 c1
      refine lv_tableIn (tgt := 28) (off := 27) hx hb dX10_count_1 (by rw [c1]; decide) (by rw [c1]; decide) (by rw [c1]; decide) (by decide) ?_
      refine lv_aload_n hx hb (qaa qm8 0 rfl) rfl (lv_at hl 0 rfl) ?_
      refine va_get (D := (dC, dI)) (ci := 10) (v := .int jkc) (C := RX10) (T := TX10) (N := 19) hx hb hts qNi hown hK hP 0 rfl rfl 15 (by decide) (hts _ qalf) (fun _ h9 => h9) rfl (qaa qm8 1 rfl) ?_
      exact ((W.iret (v := jkc) hx hb hr (fun t ht hW => ⟨⟨jkc, (), rfl, hw, by rw [ht]; exact hP, va_K.moved hW.alike hK, hD⟩, hS.F ht⟩) hS.2.2 (qaa qm8 2 rfl)))
    · have hw := hw.2.1 c1
      refine lv_tableIn (tgt := 33) (off := 32) hx hb dX10_count_1 (by rw [c1]; decide) (by rw [c1]; decide) (by rw [c1]; decide) (by decide) ?_
      refine lv_aload_n hx hb (qaa qm8 3 rfl) rfl (lv_at hl 0 rfl) ?_
      refine va_get (D := (dC, dI)) (ci := 10) (v := .ref jaW) (C := RX10) (T := TX10) (N := 19) hx hb hts qNi hown hK hP 0 rfl rfl 0 (by decide) (hts _ qasn) (fun _ h9 => h9) rfl (qaa qm8 4 rfl) ?_
      refine va_get (D := (dC, dI)) (ci := 8) (v := .int jj0) (C := RX8) (T := TX8) (N := 7) hx hb hts qazF hown hK hP 1 rfl rfl 4 (by decide) (hts _ qamo) (fun _ h9 => h9) rfl (qaa qm8 5 rfl) ?_
      exact ((W.iret (v := jj0) hx hb hr (fun t ht hW => ⟨⟨jj0, (), rfl, hw, by rw [ht]; exact hP, va_K.moved hW.alike hK, hD⟩, hS.F ht⟩) hS.2.2 (qaa qm8 6 rfl)))
    · have hw := hw.2.2 c1
      refine lv_tableIn (tgt := 41) (off := 40) hx hb dX10_count_1 (by rw [c1]; decide) (by rw [c1]; decide) (by rw [c1]; decide) (by decide) ?_
      refine lv_aload_n hx hb (qaa qm8 7 rfl) rfl (lv_at hl 0 rfl) ?_
      refine va_get (D := (dC, dI)) (ci := 10) (v := .ref jeG) (C := RX10) (T := TX10) (N := 19) hx hb hts qNi hown hK hP 0 rfl rfl 10 (by decide) (hts _ qat3) (fun _ h9 => h9) rfl (qaa qm8 8 rfl) ?_
      refine va_get (D := (dC, dI)) (ci := 5) (v := .int jje) (C := RX5) (T := TX5) (N := 2) hx hb hts qaDc hown hK hP 2 rfl rfl 1 (by decide) (hts _ qajm) (fun _ h9 => h9) rfl (qaa qm8 9 rfl) ?_
      exact ((W.iret (v := jje) hx hb hr (fun t ht hW => ⟨⟨jje, (), rfl, hw, by rw [ht]; exact hP, va_K.moved hW.alike hK, hD⟩, hS.F ht⟩) hS.2.2 (qaa qm8 10 rfl)))
theorem qasl : ∀ w ∈ u_ws RX10 TX10 19, w ∈ wsX10_fault := uiM qWV qyN (by decide +kernel)
theorem qazB : ∀ w ∈ u_ws RX8 TX8 7, w ∈ wsX10_fault := uiM qWV euX8 (by decide +kernel)
theorem qatz : (.fieldLink RX10 10 "MarchHares" "tape" "LMarchHares$Tape;" : Cond) ∈ wsX10_fault := qWV 16 (by decide +kernel)
theorem qald : (.fieldLink RX10 174 "MarchHares$Tape" "faultPlace" "I" : Cond) ∈ wsX10_fault := qWV 2496 (by decide +kernel)
set_option maxHeartbeats 4000000 in
set_option maxRecDepth 100000 in
theorem qaVQ (l : Launch) (dC : Nat → ClassId) (dI : Nat → Nat → Nat) (cyB cyI cyJ cyP : ClassId) (a0 jaW sz : Nat) (jfR ja1 jcp jbc jbV ja3 jbH ja2 jbO jaq jac jbI jbl jbn jba jaa jbA jdD jok jnj jn8 jnw jpj jnx : Value) (jjE : Int32) {Q : Int32 → Prop} (hw : q1X jjE Q) : Met l yX10_fault wsX10_fault ({ frames := 0, cells := 0, slots := 0, locals := 0 }) (va_Pc [.ref a0] (cPc (dC, dI) (kT cyB cyI cyJ cyP) (qabb a0 jaW jfR ja1 jcp jbc jbV ja3 jbH ja2 jbO jaq jac jbI jbl jbn jba jaa jbA jdD jaW jok jnj jn8 jnw jpj jnx jjE) sz)) (va_Qi (fun (r : Int32) (_ : Unit) => Q r ) (cB (dC, dI) (kT cyB cyI cyJ cyP) (va_A (qabb a0 jaW jfR ja1 jcp jbc jbV ja3 jbH ja2 jbO jaq jac jbI jbl jbn jba jaa jbA jdD jaW jok jnj jn8 jnw jpj jnx jjE) sz) (fun u : Unit => ((qabb a0 jaW jfR ja1 jcp jbc jbV ja3 jbH ja2 jbO jaq jac jbI jbl jbn jba jaa jbA jdD jaW jok jnj jn8 jnw jpj jnx jjE) : va_W))) (va_A (qabb a0 jaW jfR ja1 jcp jbc jbV ja3 jbH ja2 jbO jaq jac jbI jbl jbn jba jaa jbA jdD jaW jok jnj jn8 jnw jpj jnx jjE) sz)) 0 0 (va_A (qabb a0 jaW jfR ja1 jcp jbc jbV ja3 jbH ja2 jbO jaq jac jbI jbl jbn jba jaa jbA jdD jaW jok jnj jn8 jnw jpj jnx jjE) sz) := by
  refine Met.ofW (cc := cX10_fault) (maxL := 1) (ret := (some .int)) (by decide) rfl ?_
  intro p e s m args below meth c s₁ B hml hv
  obtain ⟨rfl, hsz, hP, hK, hD0, hNw⟩ := hv
  have hx := B.exec
  have hb := B.bytes
  have hr := B.returns
  have hts := atoms_spec (ws := wsX10_fault) B.pre
  have hown : s.vm.findClass RX10 = some m.cls := findClass_of_methodNamed B.named
  have hlocks := B.notSynchronized
  subst hsz
  have hD := hD0.self (sz := s.heap.size)
  generalize hAe : va_A (qabb a0 jaW jfR ja1 jcp jbc jbV ja3 jbH ja2 jbO jaq jac jbI jbl jbn jba jaa jbA jdD jaW jok jnj jn8 jnw jpj jnx jjE) s.heap.size = A at hD ⊢
  have hA : ∀ q : Nat, s.heap.size ≤ q → A q := fun q h => by rw [← hAe]; exact Or.inr h
  have hS : va_S A s.heap s.heap [] := va_S.rf
  have hP : va_P (dC, dI) vwCl (qabb a0 jaW jfR ja1 jcp jbc jbV ja3 jbH ja2 jbO jaq jac jbI jbl jbn jba jaa jbA jdD jaW jok jnj jn8 jnw jpj jnx jjE) s.heap := hP
  have hl := lv_entry ([.ref a0]) (n := 1) (nbq rfl)
  rw [lg_entry_eq]
  generalize (lg_sl ([.ref a0]) ++ List.replicate (1 - (lg_sl ([.ref a0])).length) Slot.unset).toArray = ls at hl ⊢
  have hl : lv_has ls 1 [(0, .ref a0)] := hl
  have C0 : cfx p s m _ meth c cX10_fault (some .int) wsX10_fault RX10 1 A (dC, dI) (kT cyB cyI cyJ cyP) := ⟨hx, hb, hr, hts, hown, hlocks, hml, hA, hK, hNw⟩
  clear hAe
  obtain ⟨H, hH⟩ : ∃ H, H = s.heap := ⟨_, rfl⟩
  rw [← hH] at hP ⊢
  have hS : va_S A s.heap H [] := by rw [hH]; exact va_S.rf
  have hS := hS
  refine lv_aload_n hx hb (qaa qKP 0 rfl) rfl (lv_at hl 0 rfl) ?_
  refine va_get (D := (dC, dI)) (ci := 10) (v := .ref jaW) (C := RX10) (T := TX10) (N := 19) hx hb hts qasl hown hK hP 0 rfl rfl 0 (by decide) (hts _ qatz) (fun _ h9 => h9) rfl (qaa qKP 1 rfl) ?_
  refine va_get (D := (dC, dI)) (ci := 8) (v := .int jjE) (C := RX8) (T := TX8) (N := 7) hx hb hts qazB hown hK hP 1 rfl rfl 6 (by decide) (hts _ qald) (fun _ h9 => h9) rfl (qaa qKP 2 rfl) ?_
  exact ((W.iret (v := jjE) hx hb hr (fun t ht hW => ⟨⟨jjE, (), rfl, hw, by rw [ht]; exact hP, va_K.moved hW.alike hK, hD⟩, hS.F ht⟩) hS.2.2 (qaa qKP 3 rfl)))
theorem qaoZ : ∀ w ∈ u_ws RX8 TX8 7, w ∈ wsX8_hasRoom := uiM qan3 euX8 (by decide +kernel)
theorem qamn : (.fieldLink RX8 19 "MarchHares$Tape" "filled" "I" : Cond) ∈ wsX8_hasRoom := qan3 580 (by decide +kernel)
set_option maxHeartbeats 4000000 in
set_option maxRecDepth 100000 in
theorem qaM8 (l : Launch) (dC : Nat → ClassId) (dI : Nat → Nat → Nat) (cyB cyI cyJ cyP : ClassId) (a0 sz : Nat) (jn7 jjf jby jl9 jmS jkr : Value) (jnc : Int32) {Q : Int32 → Prop} (hw : qaeJ jnc Q) : Met l yX8_hasRoom wsX8_hasRoom ({ frames := 0, cells := 0, slots := 0, locals := 0 }) (va_Pc [.ref a0] (cPc (dC, dI) (kT cyB cyI cyJ cyP) (q9X a0 jn7 jjf jby jl9 jnc jmS jkr) sz)) (va_Qi (fun (r : Int32) (_ : Unit) => Q r ) (cB (dC, dI) (kT cyB cyI cyJ cyP) (va_A (q9X a0 jn7 jjf jby jl9 jnc jmS jkr) sz) (fun u : Unit => ((q9X a0 jn7 jjf jby jl9 jnc jmS jkr) : va_W))) (va_A (q9X a0 jn7 jjf jby jl9 jnc jmS jkr) sz)) 0 0 (va_A (q9X a0 jn7 jjf jby jl9 jnc jmS jkr) sz) := by
  refine Met.ofW (cc := cX8_hasRoom) (maxL := 1) (ret := (some .boolean)) (by decide) rfl ?_
  intro p e s m args below meth c s₁ B hml hv
  obtain ⟨rfl, hsz, hP, hK, hD0, hNw⟩ := hv
  have hx := B.exec
  have hb := B.bytes
  have hr := B.returns
  have hts := atoms_spec (ws := wsX8_hasRoom) B.pre
  have hown : s.vm.findClass RX8 = some m.cls := findClass_of_methodNamed B.named
  have hlocks := B.notSynchronized
  subst hsz
  have hD := hD0.self (sz := s.heap.size)
  generalize hAe : va_A (q9X a0 jn7 jjf jby jl9 jnc jmS jkr) s.heap.size = A at hD ⊢
  have hA : ∀ q : Nat, s.heap.size ≤ q → A q := fun q h => by rw [← hAe]; exact Or.inr h
  have hS : va_S A s.heap s.heap [] := va_S.rf
  have hP : va_P (dC, dI) vwCl (q9X a0 jn7 jjf jby jl9 jnc jmS jkr) s.heap := hP
  have hl := lv_entry ([.ref a0]) (n := 1) (nbq rfl)
  rw [lg_entry_eq]
  generalize (lg_sl ([.ref a0]) ++ List.replicate (1 - (lg_sl ([.ref a0])).length) Slot.unset).toArray = ls at hl ⊢
  have hl : lv_has ls 1 [(0, .ref a0)] := hl
  have C0 : cfx p s m _ meth c cX8_hasRoom (some .boolean) wsX8_hasRoom RX8 1 A (dC, dI) (kT cyB cyI cyJ cyP) := ⟨hx, hb, hr, hts, hown, hlocks, hml, hA, hK, hNw⟩
  clear hAe
  obtain ⟨H, hH⟩ : ∃ H, H = s.heap := ⟨_, rfl⟩
  rw [← hH] at hP ⊢
  have hS : va_S A s.heap H [] := by rw [hH]; exact va_S.rf
  have hS := hS
  refine lv_aload_n hx hb (qaa qo4 0 rfl) rfl (lv_at hl 0 rfl) ?_
  refine va_get (D := (dC, dI)) (ci := 8) (v := .int jnc) (C := RX8) (T := TX8) (N := 7) hx hb hts qaoZ hown hK hP 0 rfl rfl 4 (by decide) (hts _ qamn) (fun _ h9 => h9) rfl (qaa qo4 1 rfl) ?_
  refine lv_bipush (v := 20) hx hb (qaa qo4 2 rfl) (by decide) ?_
  refine lv_iadd hx hb (qaa qo4 3 rfl) ?_
  refine lv_sipush (v := 600) hx hb (qaa qo4 4 rfl) (by decide) ?_
  refine lv_icmp_gt (tgt := 17) hx hb (qaa qo4 5 rfl) (by decide) (fun c1 => ?_) (fun c1 => ?_)
  · have hw := hw.1 c1
    refine lv_iconst (v := 0) hx hb (qaa qo4 8 rfl) (by decide) ?_
    exact ((W.zret (v := 0) hx hb hr rfl (fun t ht hW => ⟨⟨0, (), rfl, hw, by rw [ht]; exact hP, va_K.moved hW.alike hK, hD⟩, hS.F ht⟩) hS.2.2 (qaa qo4 9 rfl)))
  · have hw := hw.2 c1
    refine lv_iconst (v := 1) hx hb (qaa qo4 6 rfl) (by decide) ?_
    refine lv_goto (tgt := 18) hx hb (qaa qo4 7 rfl) (by decide) ?_
    exact ((W.zret (v := 1) hx hb hr rfl (fun t ht hW => ⟨⟨1, (), rfl, hw, by rw [ht]; exact hP, va_K.moved hW.alike hK, hD⟩, hS.F ht⟩) hS.2.2 (qaa qo4 9 rfl)))
theorem qLy : ∀ w ∈ u_ws RX8 TX8 7, w ∈ wsX8_put := uiM qaSk euX8 (by decide +kernel)
theorem qaSg : (.fieldLink RX8 11 "MarchHares$Tape" "bytes" "[B" : Cond) ∈ wsX8_put := qaSk 142 (by decide +kernel)
theorem qOj : (.fieldLink RX8 19 "MarchHares$Tape" "filled" "I" : Cond) ∈ wsX8_put := qaSk 580 (by decide +kernel)
set_option maxHeartbeats 4000000 in
set_option maxRecDepth 100000 in
theorem qan4 {p : Program} {l : Launch} {e : Env} {s : State} {m : MethodId} {args : Array Value} {below : List Frame} {meth : Method} {c : Code} {A : Nat → Prop} (dC : Nat → ClassId) (dI : Nat → Nat → Nat) (cyB cyI cyJ cyP : ClassId) (a0 jif : Nat) (jjf jby jl9 jmS jkr : Value) (Q : NI → Int32 → Prop) (K3 : NI → Int32 → Int32 → Int32 → Prop) (hK3 : ∀ (H : Heap) (locs : List Loc) (ls : Array Slot) (jjA : NI) (jnc l1 l2 : Int32), va_P (dC, dI) vwCl (qrG a0 jif jjf jby jl9 jnc jmS jkr jif cyB jjA) H → va_D A (qrG a0 jif jjf jby jl9 jnc jmS jkr jif cyB jjA) → va_S A s.heap H locs → lv_has ls 3 [(0, .ref a0), (1, .int l1), (2, .int l2)] → K3 jjA jnc l1 l2 → W p l e (headSpec wsX8_put ({ frames := 0, cells := 0, slots := 0, locals := 0 })).room s m args below meth c H locs 0 0 (MQ below (va_Qv (fun (u : NI × Int32) => Q u.1 u.2) (cB (dC, dI) (kT cyB cyI cyJ cyP) A (fun u : NI × Int32 => ((qrG a0 jif jjf jby jl9 u.2 jmS jkr jif cyB u.1) : va_W))) A) args s 0 0 A) (F0 m 3 ls [])) (C0 : cfx p s m args meth c cX8_put none wsX8_put RX8 3 A (dC, dI) (kT cyB cyI cyJ cyP)) : ∀ (H : Heap) (locs : List Loc) (ls : Array Slot) (jjA : NI) (jnc l1 l2 : Int32), va_P (dC, dI) vwCl (qrG a0 jif jjf jby jl9 jnc jmS jkr jif cyB jjA) H → va_D A (qrG a0 jif jjf jby jl9 jnc jmS jkr jif cyB jjA) → va_S A s.heap H locs → lv_has ls 3 [(0, .ref a0), (1, .int l1), (2, .int l2)] → q0U Q K3 jjA jnc l1 l2 → W p l e (headSpec wsX8_put ({ frames := 0, cells := 0, slots := 0, locals := 0 })).room s m args below meth c H locs 0 0 (MQ below (va_Qv (fun (u : NI × Int32) => Q u.1 u.2) (cB (dC, dI) (kT cyB cyI cyJ cyP) A (fun u : NI × Int32 => ((qrG a0 jif jjf jby jl9 u.2 jmS jkr jif cyB u.1) : va_W))) A) args s 0 0 A) (F0 m 40 ls []) := by
  obtain ⟨hx, hb, hr, hts, hown, hlocks, hml, hA, hK, hNw⟩ := id C0
  intro H locs ls jjA jnc l1 l2 hP hD hS hl hw
  obtain ⟨x6, ex6⟩ : ∃ y : Int32, y = l2 + (-8) := ⟨_, rfl⟩
  have hw := hw x6 ex6
  refine lv_iinc (v := x6) (lv' := [(2, .int x6), (0, .ref a0), (1, .int l1)]) hx hb (qaa qvc 7 rfl) hl (k := 2) rfl (by rw [ex6]; rfl) (by decide) rfl (fun ls hl => ?_)
  refine lv_goto (tgt := 3) hx hb (qaa qvc 8 rfl) (by decide) ?_
  exact hK3 _ _ _ jjA jnc l1 x6 hP hD hS (lv_sub hl [1, 2, 0] rfl) hw
set_option maxHeartbeats 4000000 in
set_option maxRecDepth 100000 in
theorem qaZw {p : Program} {l : Launch} {e : Env} {s : State} {m : MethodId} {args : Array Value} {below : List Frame} {meth : Method} {c : Code} {A : Nat → Prop} (dC : Nat → ClassId) (dI : Nat → Nat → Nat) (cyB cyI cyJ cyP : ClassId) (a0 jif : Nat) (jjf jby jl9 jmS jkr : Value) (Q : NI → Int32 → Prop) (C0 : cfx p s m args meth c cX8_put none wsX8_put RX8 3 A (dC, dI) (kT cyB cyI cyJ cyP)) : ∀ (n : Nat) (H : Heap) (locs : List Loc) (ls : Array Slot) (jjA : NI) (jnc l1 l2 : Int32), va_P (dC, dI) vwCl (qrG a0 jif jjf jby jl9 jnc jmS jkr jif cyB jjA) H → va_D A (qrG a0 jif jjf jby jl9 jnc jmS jkr jif cyB jjA) → va_S A s.heap H locs → lv_has ls 3 [(0, .ref a0), (1, .int l1), (2, .int l2)] → qFy Q n jjA jnc l1 l2 → W p l e (headSpec wsX8_put ({ frames := 0, cells := 0, slots := 0, locals := 0 })).room s m args below meth c H locs 0 0 (MQ below (va_Qv (fun (u : NI × Int32) => Q u.1 u.2) (cB (dC, dI) (kT cyB cyI cyJ cyP) A (fun u : NI × Int32 => ((qrG a0 jif jjf jby jl9 u.2 jmS jkr jif cyB u.1) : va_W))) A) args s 0 0 A) (F0 m 3 ls []) := by
  obtain ⟨hx, hb, hr, hts, hown, hlocks, hml, hA, hK, hNw⟩ := id C0
  intro n
  induction n with
  | zero => intro H locs ls jjA jnc l1 l2 hP hD hS hl hw; exact False.elim hw
  | succ n ih =>
    intro H locs ls jjA jnc l1 l2 hP hD hS hl hw
    refine lv_iload_n hx hb (qaa qqe 2 rfl) rfl (lv_at hl 2 rfl) ?_
    refine lv_if_lt (tgt := 46) hx hb (qaa qqe 3 rfl) (by decide) (fun c1 => ?_) (fun c1 => ?_)
    · have hw := hw.1 c1
      exact ((W.vret hx hb hr (fun t ht hW => ⟨⟨(jjA, jnc), rfl, hw, by rw [ht]; exact hP, va_K.moved hW.alike hK, hD⟩, hS.F ht⟩) hS.2.2 (qaa qvc 9 rfl)))
    · have hw := hw.2 c1
      refine lv_aload_n hx hb (qaa qqe 4 rfl) rfl (lv_at hl 0 rfl) ?_
      refine va_get (D := (dC, dI)) (ci := 8) (v := .int jnc) (C := RX8) (T := TX8) (N := 7) hx hb hts qLy hown hK hP 0 rfl rfl 4 (by decide) (hts _ qOj) (fun _ h9 => h9) rfl (qaa qqe 5 rfl) ?_
      refine lv_sipush (v := 600) hx hb (qaa qqe 6 rfl) (by decide) ?_
      refine lv_icmp_ge (tgt := 40) hx hb (qaa qqe 7 rfl) (by decide) (fun c2 => ?_) (fun c2 => ?_)
      · have hw := hw.1 c2
        exact qan4 dC dI cyB cyI cyJ cyP a0 jif jjf jby jl9 jmS jkr Q (qFy Q n) ih C0 _ _ _ jjA jnc l1 l2 hP hD hS (lv_sub hl [0, 1, 2] rfl) hw
      · have hw := hw.2 c2
        refine lv_aload_n hx hb (qaa qqe 8 rfl) rfl (lv_at hl 0 rfl) ?_
        refine va_get (D := (dC, dI)) (ci := 8) (v := .ref jif) (C := RX8) (T := TX8) (N := 7) hx hb hts qLy hown hK hP 0 rfl rfl 0 (by decide) (hts _ qaSg) (fun _ h9 => h9) rfl (qaa qqe 9 rfl) ?_
        refine lv_aload_n hx hb (qaa qqe 10 rfl) rfl (lv_at hl 0 rfl) ?_
        refine va_get (D := (dC, dI)) (ci := 8) (v := .int jnc) (C := RX8) (T := TX8) (N := 7) hx hb hts qLy hown hK hP 0 rfl rfl 4 (by decide) (hts _ qOj) (fun _ h9 => h9) rfl (qaa qqe 11 rfl) ?_
        refine lv_iload_n hx hb (qaa qqe 12 rfl) rfl (lv_at hl 1 rfl) ?_
        refine lv_iload_n hx hb (qaa qqe 13 rfl) rfl (lv_at hl 2 rfl) ?_
        refine lv_ishr hx hb (qaa qqe 14 rfl) ?_
        refine lv_i2b (v := (l1 >>> (l2 &&& 31)).toInt8.toInt32) hx hb (qaa qqe 15 rfl) rfl ?_
        refine lv_topi (fun x3 ex3 => ?_)
        have hw := hw x3 ex3
        obtain ⟨hi9, hw⟩ := hw
        refine va_bast hx hb hK hP hD hS 1 0 rfl rfl hi9 (qaa qvc 0 rfl) (fun H locs hP hD hS => ?_)
        obtain ⟨f4, ef4⟩ : ∃ y : NI, y = upd jjA jnc.toNatClampNeg (vp_nar .byte x3) := ⟨_, rfl⟩
        have hw := hw f4 ef4
        have hP : va_P (dC, dI) vwCl (qrG a0 jif jjf jby jl9 jnc jmS jkr jif cyB f4) H := by rw [ef4]; exact hP
        have hD : va_D A (qrG a0 jif jjf jby jl9 jnc jmS jkr jif cyB f4) := by rw [ef4]; exact hD
        refine lv_aload_n hx hb (qaa qvc 1 rfl) rfl (lv_at hl 0 rfl) ?_
        refine lv_dup hx hb (qaa qvc 2 rfl) rfl ?_
        refine va_get (D := (dC, dI)) (ci := 8) (v := .int jnc) (C := RX8) (T := TX8) (N := 7) hx hb hts qLy hown hK hP 0 rfl rfl 4 (by decide) (hts _ qOj) (fun _ h9 => h9) rfl (qaa qvc 3 rfl) ?_
        refine lv_iconst (v := 1) hx hb (qaa qvc 4 rfl) (by decide) ?_
        refine lv_iadd hx hb (qaa qvc 5 rfl) ?_
        refine lv_topi (fun x5 ex5 => ?_)
        have hw := hw x5 ex5
        refine va_put (D := (dC, dI)) (ci := 8) (v := .int x5) (ty := .int) (C := RX8) (T := TX8) (N := 7) hx hb hts qLy tyX8 tyX8_ok nmX8 hown hK hP hD hS 0 rfl rfl 4 (by decide) (hts _ qOj) (fun _ h9 => h9) rfl (by decide +kernel) rfl rfl (nbq rfl) (qaa qvc 6 rfl) (fun H locs hP hD hS => ?_)
        have hP : va_P (dC, dI) vwCl (qrG a0 jif jjf jby jl9 x5 jmS jkr jif cyB f4) H := hP
        have hD : va_D A (qrG a0 jif jjf jby jl9 x5 jmS jkr jif cyB f4) := hD
        exact qan4 dC dI cyB cyI cyJ cyP a0 jif jjf jby jl9 jmS jkr Q (qFy Q n) ih C0 _ _ _ f4 x5 l1 l2 hP hD hS (lv_sub hl [0, 1, 2] rfl) hw
set_option maxHeartbeats 4000000 in
set_option maxRecDepth 100000 in
theorem q2k (l : Launch) (dC : Nat → ClassId) (dI : Nat → Nat → Nat) (cyB cyI cyJ cyP : ClassId) (a0 jif sz : Nat) (jjf jby jl9 jmS jkr : Value) (jjA : NI) (jnc p1 : Int32) {Q : NI → Int32 → Prop} (hw : qRs jjA jnc p1 Q) : Met l yX8_put wsX8_put ({ frames := 0, cells := 0, slots := 0, locals := 0 }) (va_Pc [.ref a0, .int p1] (cPc (dC, dI) (kT cyB cyI cyJ cyP) (qrG a0 jif jjf jby jl9 jnc jmS jkr jif cyB jjA) sz)) (va_Qv (fun (u : NI × Int32) => Q u.1 u.2) (cB (dC, dI) (kT cyB cyI cyJ cyP) (va_A (qrG a0 jif jjf jby jl9 jnc jmS jkr jif cyB jjA) sz) (fun u : NI × Int32 => ((qrG a0 jif jjf jby jl9 u.2 jmS jkr jif cyB u.1) : va_W))) (va_A (qrG a0 jif jjf jby jl9 jnc jmS jkr jif cyB jjA) sz)) 0 0 (va_A (qrG a0 jif jjf jby jl9 jnc jmS jkr jif cyB jjA) sz) := by
  refine Met.ofW (cc := cX8_put) (maxL := 3) (ret := none) (by decide) rfl ?_
  intro p e s m args below meth c s₁ B hml hv
  obtain ⟨rfl, hsz, hP, hK, hD0, hNw⟩ := hv
  have hx := B.exec
  have hb := B.bytes
  have hr := B.returns
  have hts := atoms_spec (ws := wsX8_put) B.pre
  have hown : s.vm.findClass RX8 = some m.cls := findClass_of_methodNamed B.named
  have hlocks := B.notSynchronized
  subst hsz
  have hD := hD0.self (sz := s.heap.size)
  generalize hAe : va_A (qrG a0 jif jjf jby jl9 jnc jmS jkr jif cyB jjA) s.heap.size = A at hD ⊢
  have hA : ∀ q : Nat, s.heap.size ≤ q → A q := fun q h => by rw [← hAe]; exact Or.inr h
  have hS : va_S A s.heap s.heap [] := va_S.rf
  have hP : va_P (dC, dI) vwCl (qrG a0 jif jjf jby jl9 jnc jmS jkr jif cyB jjA) s.heap := hP
  have hl := lv_entry ([.ref a0, .int p1]) (n := 3) (nbq rfl)
  rw [lg_entry_eq]
  generalize (lg_sl ([.ref a0, .int p1]) ++ List.replicate (3 - (lg_sl ([.ref a0, .int p1])).length) Slot.unset).toArray = ls at hl ⊢
  have hl : lv_has ls 3 [(0, .ref a0), (1, .int p1)] := hl
  have C0 : cfx p s m _ meth c cX8_put none wsX8_put RX8 3 A (dC, dI) (kT cyB cyI cyJ cyP) := ⟨hx, hb, hr, hts, hown, hlocks, hml, hA, hK, hNw⟩
  clear hAe
  obtain ⟨H, hH⟩ : ∃ H, H = s.heap := ⟨_, rfl⟩
  rw [← hH] at hP ⊢
  have hS : va_S A s.heap H [] := by rw [hH]; exact va_S.rf
  have hS := hS
  refine lv_bipush (v := 24) hx hb (qaa qqe 0 rfl) (by decide) ?_
  refine lv_istore_n (lv' := [(2, .int 24), (0, .ref a0), (1, .int p1)]) hx hb (qaa qqe 1 rfl) rfl hl (by decide) rfl (fun ls hl => ?_)
  obtain ⟨n9, hw⟩ := hw
  exact qaZw dC dI cyB cyI cyJ cyP a0 jif jjf jby jl9 jmS jkr Q C0 n9 _ _ _ jjA jnc p1 24 hP hD hS (lv_sub hl [1, 2, 0] rfl) hw
theorem qwd : ∀ w ∈ u_ws RX10 TX10 19, w ∈ wsX10_feed := uiM qGB qyN (by decide +kernel)
theorem qaI4 : ∀ w ∈ u_ws RX8 TX8 7, w ∈ wsX10_feed := uiM qGB euX8 (by decide +kernel)
theorem qvL : (.fieldLink RX10 10 "MarchHares" "tape" "LMarchHares$Tape;" : Cond) ∈ wsX10_feed := qGB 16 (by decide +kernel)
theorem qatB : (.fieldLink RX10 105 "MarchHares$Tape" "filled" "I" : Cond) ∈ wsX10_feed := qGB 535 (by decide +kernel)
set_option maxHeartbeats 4000000 in
set_option maxRecDepth 100000 in
theorem qaWC (l : Launch) (dC : Nat → ClassId) (dI : Nat → Nat → Nat) (cyB cyI cyJ cyP : ClassId) (a0 jaW jf0 sz : Nat) (jfR ja1 jcp jbc jbV ja3 jbH ja2 jbO jaq jac jbI jbl jbn jba jaa jbA jdD jnj jn8 jnw jnx jm1 : Value) (ji4 : NI) (jj0 p1 p2 p3 p4 p5 : Int32) {Q : Int32 → NI → Int32 → Prop} (hw : qaa5 ji4 jj0 p1 p2 p3 p4 p5 Q) : Met l yX10_feed wsX10_feed ({ frames := 1, cells := 0, slots := 0, locals := 22 }) (va_Pc [.ref a0, .int p1, .int p2, .int p3, .int p4, .int p5] (cPc (dC, dI) (kT cyB cyI cyJ cyP) (qJt a0 jaW jfR ja1 jcp jbc jbV ja3 jbH ja2 jbO jaq jac jbI jbl jbn jba jaa jbA jdD jaW jf0 jnj jn8 jnw jj0 jnx jm1 jf0 cyB ji4) sz)) (va_Qi (fun (r : Int32) (u : NI × Int32) => Q r u.1 u.2) (cB (dC, dI) (kT cyB cyI cyJ cyP) (va_A (qJt a0 jaW jfR ja1 jcp jbc jbV ja3 jbH ja2 jbO jaq jac jbI jbl jbn jba jaa jbA jdD jaW jf0 jnj jn8 jnw jj0 jnx jm1 jf0 cyB ji4) sz) (fun u : NI × Int32 => ((qJt a0 jaW jfR ja1 jcp jbc jbV ja3 jbH ja2 jbO jaq jac jbI jbl jbn jba jaa jbA jdD jaW jf0 jnj jn8 jnw u.2 jnx jm1 jf0 cyB u.1) : va_W))) (va_A (qJt a0 jaW jfR ja1 jcp jbc jbV ja3 jbH ja2 jbO jaq jac jbI jbl jbn jba jaa jbA jdD jaW jf0 jnj jn8 jnw jj0 jnx jm1 jf0 cyB ji4) sz)) 0 0 (va_A (qJt a0 jaW jfR ja1 jcp jbc jbV ja3 jbH ja2 jbO jaq jac jbI jbl jbn jba jaa jbA jdD jaW jf0 jnj jn8 jnw jj0 jnx jm1 jf0 cyB ji4) sz) := by
  refine Met.ofW (cc := cX10_feed) (maxL := 6) (ret := (some .int)) (by decide) rfl ?_
  intro p e s m args below meth c s₁ B hml hv
  obtain ⟨rfl, hsz, hP, hK, hD0, hNw⟩ := hv
  have hx := B.exec
  have hb := B.bytes
  have hr := B.returns
  have hts := atoms_spec (ws := wsX10_feed) B.pre
  have hown : s.vm.findClass RX10 = some m.cls := findClass_of_methodNamed B.named
  have hlocks := B.notSynchronized
  subst hsz
  have hD := hD0.self (sz := s.heap.size)
  generalize hAe : va_A (qJt a0 jaW jfR ja1 jcp jbc jbV ja3 jbH ja2 jbO jaq jac jbI jbl jbn jba jaa jbA jdD jaW jf0 jnj jn8 jnw jj0 jnx jm1 jf0 cyB ji4) s.heap.size = A at hD ⊢
  have hA : ∀ q : Nat, s.heap.size ≤ q → A q := fun q h => by rw [← hAe]; exact Or.inr h
  have hS : va_S A s.heap s.heap [] := va_S.rf
  have hP : va_P (dC, dI) vwCl (qJt a0 jaW jfR ja1 jcp jbc jbV ja3 jbH ja2 jbO jaq jac jbI jbl jbn jba jaa jbA jdD jaW jf0 jnj jn8 jnw jj0 jnx jm1 jf0 cyB ji4) s.heap := hP
  have hl := lv_entry ([.ref a0, .int p1, .int p2, .int p3, .int p4, .int p5]) (n := 6) (nbq rfl)
  rw [lg_entry_eq]
  generalize (lg_sl ([.ref a0, .int p1, .int p2, .int p3, .int p4, .int p5]) ++ List.replicate (6 - (lg_sl ([.ref a0, .int p1, .int p2, .int p3, .int p4, .int p5])).length) Slot.unset).toArray = ls at hl ⊢
  have hl : lv_has ls 6 [(0, .ref a0), (1, .int p1), (2, .int p2), (3, .int p3), (4, .int p4), (5, .int p5)] := hl
  have C0 : cfx p s m _ meth c cX10_feed (some .int) wsX10_feed RX10 6 A (dC, dI) (kT cyB cyI cyJ cyP) := ⟨hx, hb, hr, hts, hown, hlocks, hml, hA, hK, hNw⟩
  clear hAe
  obtain ⟨H, hH⟩ : ∃ H, H = s.heap := ⟨_, rfl⟩
  rw [← hH] at hP ⊢
  have hS : va_S A s.heap H [] := by rw [hH]; exact va_S.rf
  have hS := hS
  refine lv_aload_n hx hb (qaa qlz 0 rfl) rfl (lv_at hl 0 rfl) ?_
  refine va_get (D := (dC, dI)) (ci := 10) (v := .ref jaW) (C := RX10) (T := TX10) (N := 19) hx hb hts qwd hown hK hP 0 rfl rfl 0 (by decide) (hts _ qvL) (fun _ h9 => h9) rfl (qaa qlz 1 rfl) ?_
  obtain ⟨hCc, hPc, hDc, hFc⟩ := qac (ws' := (qbak jaW jf0 jnj jn8 jnw jj0 jnx jm1)) hP hD hS hA [1] (by decide +kernel) rfl
  refine va_calli (va_runV (As := []) (rest := []) ⟨hx, hb, hml, hown, hts⟩ (qaM8 l dC dI cyB cyI cyJ cyP jaW H.size (.ref jf0) (jnj) (jn8) (jnw) (jnx) (jm1) jj0 hw) (cwV 0 hts gX10_feed_X8_hasRoom rfl rfl rfl (by decide +kernel) ⟨nbq rfl, nbq rfl⟩) ⟨qab, va_recv (q := (RX8, TX8, 7)) hK hPc (ci := 8) (q0 := 0) rfl rfl, qae hPc hK hDc hNw⟩ rfl rfl hl.1 rfl (lv_room (nbq rfl)) (qaa qlz 2 rfl) ⟨nbq rfl, nbq rfl⟩) hS (fun q _ h => hFc q h) hFc (fun r1 u t H1 locs ht hvm hw hB hz1 hk1 hS => ?_)
  obtain ⟨hP1, hK1, hD1⟩ := hB
  rw [ht] at hP1
  obtain ⟨hP, hD⟩ := qad (wr := [(a0, .inr (10, [.ref jaW, jfR, ja1, jcp, jbc, jbV, ja3, jbH, ja2, jbO, jaq, jac, jbI, jbl, jbn, jba, jaa, jbA, jdD])), (jf0, .inl (cyB, 600, .inl ji4))]) (w1 := (qbak jaW jf0 jnj jn8 jnw jj0 jnx jm1)) (wn := (qJt a0 jaW jfR ja1 jcp jbc jbV ja3 jbH ja2 jbO jaq jac jbI jbl jbn jba jaa jbA jdD jaW jf0 jnj jn8 jnw jj0 jnx jm1 jf0 cyB ji4)) hP hD [1] [0, 2] [0, 2, 1] hCc rfl (by decide +kernel) (by decide +kernel) (by decide +kernel) rfl hk1 hFc hP1 hD1
  generalize H1 = H at hP hS ⊢
  refine lv_if_ne (tgt := 12) hx hb (qaa qlz 3 rfl) (by decide) (fun c2 => ?_) (fun c2 => ?_)
  · have hw := hw.1 c2
    refine lv_aload_n hx hb (qaa qlz 6 rfl) rfl (lv_at hl 0 rfl) ?_
    refine va_get (D := (dC, dI)) (ci := 10) (v := .ref jaW) (C := RX10) (T := TX10) (N := 19) hx hb hts qwd hown hK hP 0 rfl rfl 0 (by decide) (hts _ qvL) (fun _ h9 => h9) rfl (qaa qlz 7 rfl) ?_
    refine lv_iload_n hx hb (qaa qlz 8 rfl) rfl (lv_at hl 1 rfl) ?_
    obtain ⟨hCc, hPc, hDc, hFc⟩ := qac (ws' := (qrG jaW jf0 jnj jn8 jnw jj0 jnx jm1 jf0 cyB ji4)) hP hD hS hA [1, 2] (by decide +kernel) rfl
    refine va_callv (va_runV (As := [.int p1]) (rest := []) ⟨hx, hb, hml, hown, hts⟩ (q2k l dC dI cyB cyI cyJ cyP jaW jf0 H.size (jnj) (jn8) (jnw) (jnx) (jm1) ji4 jj0 p1 hw) (cwV 1 hts gX10_feed_X8_put rfl rfl rfl (by decide +kernel) ⟨nbq rfl, nbq rfl⟩) ⟨qab, va_recv (q := (RX8, TX8, 7)) hK hPc (ci := 8) (q0 := 0) rfl rfl, qae hPc hK hDc hNw⟩ rfl rfl hl.1 rfl (lv_room (nbq rfl)) (qaa qlz 9 rfl) ⟨nbq rfl, nbq rfl⟩) hS (fun q _ h => hFc q h) hFc (fun u t H1 locs ht hvm hw hB hz1 hk1 hS => ?_)
    obtain ⟨f3, x4⟩ := u
    obtain ⟨hP1, hK1, hD1⟩ := hB
    rw [ht] at hP1
    obtain ⟨hP, hD⟩ := qah (wr := (qaBX a0 jaW jfR ja1 jcp jbc jbV ja3 jbH ja2 jbO jaq jac jbI jbl jbn jba jaa jbA jdD)) (w1 := (qrG jaW jf0 jnj jn8 jnw x4 jnx jm1 jf0 cyB f3)) (wn := (qJt a0 jaW jfR ja1 jcp jbc jbV ja3 jbH ja2 jbO jaq jac jbI jbl jbn jba jaa jbA jdD jaW jf0 jnj jn8 jnw x4 jnx jm1 jf0 cyB f3)) hP hD [1, 2] [0] hCc rfl (by decide +kernel) (by decide +kernel) rfl hk1 hFc hP1 hD1
    generalize H1 = H at hP hS ⊢
    refine lv_aload_n hx hb (qaa qlz 10 rfl) rfl (lv_at hl 0 rfl) ?_
    refine va_get (D := (dC, dI)) (ci := 10) (v := .ref jaW) (C := RX10) (T := TX10) (N := 19) hx hb hts qwd hown hK hP 0 rfl rfl 0 (by decide) (hts _ qvL) (fun _ h9 => h9) rfl (qaa qlz 11 rfl) ?_
    refine lv_iload_n hx hb (qaa qlz 12 rfl) rfl (lv_at hl 2 rfl) ?_
    obtain ⟨hCc, hPc, hDc, hFc⟩ := qac (ws' := (qrG jaW jf0 jnj jn8 jnw x4 jnx jm1 jf0 cyB f3)) hP hD hS hA [1, 2] (by decide +kernel) rfl
    refine va_callv (va_runV (As := [.int p2]) (rest := []) ⟨hx, hb, hml, hown, hts⟩ (q2k l dC dI cyB cyI cyJ cyP jaW jf0 H.size (jnj) (jn8) (jnw) (jnx) (jm1) f3 x4 p2 hw) (cwV 1 hts gX10_feed_X8_put rfl rfl rfl (by decide +kernel) ⟨nbq rfl, nbq rfl⟩) ⟨qab, va_recv (q := (RX8, TX8, 7)) hK hPc (ci := 8) (q0 := 0) rfl rfl, qae hPc hK hDc hNw⟩ rfl rfl hl.1 rfl (lv_room (nbq rfl)) (qaa qlz 13 rfl) ⟨nbq rfl, nbq rfl⟩) hS (fun q _ h => hFc q h) hFc (fun u t H1 locs ht hvm hw hB hz1 hk1 hS => ?_)
    obtain ⟨f5, x6⟩ := u
    obtain ⟨hP1, hK1, hD1⟩ := hB
    rw [ht] at hP1
    obtain ⟨hP, hD⟩ := qah (wr := (qaBX a0 jaW jfR ja1 jcp jbc jbV ja3 jbH ja2 jbO jaq jac jbI jbl jbn jba jaa jbA jdD)) (w1 := (qrG jaW jf0 jnj jn8 jnw x6 jnx jm1 jf0 cyB f5)) (wn := (qJt a0 jaW jfR ja1 jcp jbc jbV ja3 jbH ja2 jbO jaq jac jbI jbl jbn jba jaa jbA jdD jaW jf0 jnj jn8 jnw x6 jnx jm1 jf0 cyB f5)) hP hD [1, 2] [0] hCc rfl (by decide +kernel) (by decide +kernel) rfl hk1 hFc hP1 hD1
    generalize H1 = H at hP hS ⊢
    refine lv_aload_n hx hb (qaa qlz 14 rfl) rfl (lv_at hl 0 rfl) ?_
    refine va_get (D := (dC, dI)) (ci := 10) (v := .ref jaW) (C := RX10) (T := TX10) (N := 19) hx hb hts qwd hown hK hP 0 rfl rfl 0 (by decide) (hts _ qvL) (fun _ h9 => h9) rfl (qaa qlz 15 rfl) ?_
    refine lv_iload_n hx hb (qaa qnq 0 rfl) rfl (lv_at hl 3 rfl) ?_
    obtain ⟨hCc, hPc, hDc, hFc⟩ := qac (ws' := (qrG jaW jf0 jnj jn8 jnw x6 jnx jm1 jf0 cyB f5)) hP hD hS hA [1, 2] (by decide +kernel) rfl
    refine va_callv (va_runV (As := [.int p3]) (rest := []) ⟨hx, hb, hml, hown, hts⟩ (q2k l dC dI cyB cyI cyJ cyP jaW jf0 H.size (jnj) (jn8) (jnw) (jnx) (jm1) f5 x6 p3 hw) (cwV 1 hts gX10_feed_X8_put rfl rfl rfl (by decide +kernel) ⟨nbq rfl, nbq rfl⟩) ⟨qab, va_recv (q := (RX8, TX8, 7)) hK hPc (ci := 8) (q0 := 0) rfl rfl, qae hPc hK hDc hNw⟩ rfl rfl hl.1 rfl (lv_room (nbq rfl)) (qaa qnq 1 rfl) ⟨nbq rfl, nbq rfl⟩) hS (fun q _ h => hFc q h) hFc (fun u t H1 locs ht hvm hw hB hz1 hk1 hS => ?_)
    obtain ⟨f7, x8⟩ := u
    obtain ⟨hP1, hK1, hD1⟩ := hB
    rw [ht] at hP1
    obtain ⟨hP, hD⟩ := qah (wr := (qaBX a0 jaW jfR ja1 jcp jbc jbV ja3 jbH ja2 jbO jaq jac jbI jbl jbn jba jaa jbA jdD)) (w1 := (qrG jaW jf0 jnj jn8 jnw x8 jnx jm1 jf0 cyB f7)) (wn := (qJt a0 jaW jfR ja1 jcp jbc jbV ja3 jbH ja2 jbO jaq jac jbI jbl jbn jba jaa jbA jdD jaW jf0 jnj jn8 jnw x8 jnx jm1 jf0 cyB f7)) hP hD [1, 2] [0] hCc rfl (by decide +kernel) (by decide +kernel) rfl hk1 hFc hP1 hD1
    generalize H1 = H at hP hS ⊢
    refine lv_aload_n hx hb (qaa qnq 2 rfl) rfl (lv_at hl 0 rfl) ?_
    refine va_get (D := (dC, dI)) (ci := 10) (v := .ref jaW) (C := RX10) (T := TX10) (N := 19) hx hb hts qwd hown hK hP 0 rfl rfl 0 (by decide) (hts _ qvL) (fun _ h9 => h9) rfl (qaa qnq 3 rfl) ?_
    refine lv_iload hx hb (qaa qnq 4 rfl) (lv_at hl 4 rfl) ?_
    obtain ⟨hCc, hPc, hDc, hFc⟩ := qac (ws' := (qrG jaW jf0 jnj jn8 jnw x8 jnx jm1 jf0 cyB f7)) hP hD hS hA [1, 2] (by decide +kernel) rfl
    refine va_callv (va_runV (As := [.int p4]) (rest := []) ⟨hx, hb, hml, hown, hts⟩ (q2k l dC dI cyB cyI cyJ cyP jaW jf0 H.size (jnj) (jn8) (jnw) (jnx) (jm1) f7 x8 p4 hw) (cwV 1 hts gX10_feed_X8_put rfl rfl rfl (by decide +kernel) ⟨nbq rfl, nbq rfl⟩) ⟨qab, va_recv (q := (RX8, TX8, 7)) hK hPc (ci := 8) (q0 := 0) rfl rfl, qae hPc hK hDc hNw⟩ rfl rfl hl.1 rfl (lv_room (nbq rfl)) (qaa qnq 5 rfl) ⟨nbq rfl, nbq rfl⟩) hS (fun q _ h => hFc q h) hFc (fun u t H1 locs ht hvm hw hB hz1 hk1 hS => ?_)
    obtain ⟨f9, x10⟩ := u
    obtain ⟨hP1, hK1, hD1⟩ := hB
    rw [ht] at hP1
    obtain ⟨hP, hD⟩ := qah (wr := (qaBX a0 jaW jfR ja1 jcp jbc jbV ja3 jbH ja2 jbO jaq jac jbI jbl jbn jba jaa jbA jdD)) (w1 := (qrG jaW jf0 jnj jn8 jnw x10 jnx jm1 jf0 cyB f9)) (wn := (qJt a0 jaW jfR ja1 jcp jbc jbV ja3 jbH ja2 jbO jaq jac jbI jbl jbn jba jaa jbA jdD jaW jf0 jnj jn8 jnw x10 jnx jm1 jf0 cyB f9)) hP hD [1, 2] [0] hCc rfl (by decide +kernel) (by decide +kernel) rfl hk1 hFc hP1 hD1
    generalize H1 = H at hP hS ⊢
    refine lv_aload_n hx hb (qaa qnq 6 rfl) rfl (lv_at hl 0 rfl) ?_
    refine va_get (D := (dC, dI)) (ci := 10) (v := .ref jaW) (C := RX10) (T := TX10) (N := 19) hx hb hts qwd hown hK hP 0 rfl rfl 0 (by decide) (hts _ qvL) (fun _ h9 => h9) rfl (qaa qnq 7 rfl) ?_
    refine lv_iload hx hb (qaa qnq 8 rfl) (lv_at hl 5 rfl) ?_
    obtain ⟨hCc, hPc, hDc, hFc⟩ := qac (ws' := (qrG jaW jf0 jnj jn8 jnw x10 jnx jm1 jf0 cyB f9)) hP hD hS hA [1, 2] (by decide +kernel) rfl
    refine va_callv (va_runV (As := [.int p5]) (rest := []) ⟨hx, hb, hml, hown, hts⟩ (q2k l dC dI cyB cyI cyJ cyP jaW jf0 H.size (jnj) (jn8) (jnw) (jnx) (jm1) f9 x10 p5 hw) (cwV 1 hts gX10_feed_X8_put rfl rfl rfl (by decide +kernel) ⟨nbq rfl, nbq rfl⟩) ⟨qab, va_recv (q := (RX8, TX8, 7)) hK hPc (ci := 8) (q0 := 0) rfl rfl, qae hPc hK hDc hNw⟩ rfl rfl hl.1 rfl (lv_room (nbq rfl)) (qaa qnq 9 rfl) ⟨nbq rfl, nbq rfl⟩) hS (fun q _ h => hFc q h) hFc (fun u t H1 locs ht hvm hw hB hz1 hk1 hS => ?_)
    obtain ⟨f11, x12⟩ := u
    obtain ⟨hP1, hK1, hD1⟩ := hB
    rw [ht] at hP1
    obtain ⟨hP, hD⟩ := qah (wr := (qaBX a0 jaW jfR ja1 jcp jbc jbV ja3 jbH ja2 jbO jaq jac jbI jbl jbn jba jaa jbA jdD)) (w1 := (qrG jaW jf0 jnj jn8 jnw x12 jnx jm1 jf0 cyB f11)) (wn := (qJt a0 jaW jfR ja1 jcp jbc jbV ja3 jbH ja2 jbO jaq jac jbI jbl jbn jba jaa jbA jdD jaW jf0 jnj jn8 jnw x12 jnx jm1 jf0 cyB f11)) hP hD [1, 2] [0] hCc rfl (by decide +kernel) (by decide +kernel) rfl hk1 hFc hP1 hD1
    generalize H1 = H at hP hS ⊢
    refine lv_aload_n hx hb (qaa qnq 10 rfl) rfl (lv_at hl 0 rfl) ?_
    refine va_get (D := (dC, dI)) (ci := 10) (v := .ref jaW) (C := RX10) (T := TX10) (N := 19) hx hb hts qwd hown hK hP 0 rfl rfl 0 (by decide) (hts _ qvL) (fun _ h9 => h9) rfl (qaa qnq 11 rfl) ?_
    refine va_get (D := (dC, dI)) (ci := 8) (v := .int x12) (C := RX8) (T := TX8) (N := 7) hx hb hts qaI4 hown hK hP 1 rfl rfl 4 (by decide) (hts _ qatB) (fun _ h9 => h9) rfl (qaa qnq 12 rfl) ?_
    exact ((W.iret (v := x12) hx hb hr (fun t ht hW => ⟨⟨x12, (f11, x12), rfl, hw, by rw [ht]; exact hP, va_K.moved hW.alike hK, hD⟩, hS.F ht⟩) hS.2.2 (qaa qnq 13 rfl)))
  · have hw := hw.2 c2
    refine lv_iconst (v := (-1)) hx hb (qaa qlz 4 rfl) (by decide) ?_
    exact ((W.iret (v := (-1)) hx hb hr (fun t ht hW => ⟨⟨(-1), (ji4, jj0), rfl, hw, by rw [ht]; exact hP, va_K.moved hW.alike hK, hD⟩, hS.F ht⟩) hS.2.2 (qaa qlz 5 rfl)))
theorem qyu : ∀ w ∈ u_ws RX5 TX5 2, w ∈ wsX5_copyFrom := uiM qzc euX5 (by decide +kernel)
theorem qagh : (.initialized "java/lang/System" : Cond) ∈ wsX5_copyFrom := qzc 331 (by decide +kernel)
theorem qadc : (.native arraycopyName : Cond) ∈ wsX5_copyFrom := qzc 329 (by decide +kernel)
theorem qae0 : (.static arraycopyName : Cond) ∈ wsX5_copyFrom := qzc 330 (by decide +kernel)
theorem qRB : (.fieldLink RX5 11 "MarchHares$Past" "rows" "[I" : Cond) ∈ wsX5_copyFrom := qzc 335 (by decide +kernel)
theorem qIq : (.fieldLink RX5 17 "MarchHares$Past" "kept" "I" : Cond) ∈ wsX5_copyFrom := qzc 1676 (by decide +kernel)
theorem qac0 : (.methodLink RX5 24 arraycopyName : Cond) ∈ wsX5_copyFrom := qzc 1678 (by decide +kernel)
set_option maxHeartbeats 4000000 in
set_option maxRecDepth 100000 in
theorem qps (l : Launch) (dC : Nat → ClassId) (dI : Nat → Nat → Nat) (cyB cyI cyJ cyP : ClassId) (a0 a1 jpc jnO sz : Nat) (jo7 : Int32) (jpi joO : NI) (joH : Int32) {Q : NI → Int32 → Prop} (hw : qnn jo7 jpi joO joH Q) : Met l yX5_copyFrom wsX5_copyFrom ({ frames := 1, cells := 0, slots := 0, locals := 40 }) (va_Pc [.ref a0, .ref a1] (cPc (dC, dI) (kT cyB cyI cyJ cyP) (qBJ a0 jnO joH a1 jpc jo7 jpc cyI jpi jnO cyI joO) sz)) (va_Qv (fun (u : NI × Int32) => Q u.1 u.2) (cB (dC, dI) (kT cyB cyI cyJ cyP) (va_A (qBJ a0 jnO joH a1 jpc jo7 jpc cyI jpi jnO cyI joO) sz) (fun u : NI × Int32 => ((qBJ a0 jnO u.2 a1 jpc jo7 jpc cyI jpi jnO cyI u.1) : va_W))) (va_A (qBJ a0 jnO joH a1 jpc jo7 jpc cyI jpi jnO cyI joO) sz)) 0 0 (va_A (qBJ a0 jnO joH a1 jpc jo7 jpc cyI jpi jnO cyI joO) sz) := by
  refine Met.ofW (cc := cX5_copyFrom) (maxL := 2) (ret := none) (by decide) rfl ?_
  intro p e s m args below meth c s₁ B hml hv
  obtain ⟨rfl, hsz, hP, hK, hD0, hNw⟩ := hv
  have hx := B.exec
  have hb := B.bytes
  have hr := B.returns
  have hts := atoms_spec (ws := wsX5_copyFrom) B.pre
  have hown : s.vm.findClass RX5 = some m.cls := findClass_of_methodNamed B.named
  have hlocks := B.notSynchronized
  subst hsz
  have hD := hD0.self (sz := s.heap.size)
  generalize hAe : va_A (qBJ a0 jnO joH a1 jpc jo7 jpc cyI jpi jnO cyI joO) s.heap.size = A at hD ⊢
  have hA : ∀ q : Nat, s.heap.size ≤ q → A q := fun q h => by rw [← hAe]; exact Or.inr h
  have hS : va_S A s.heap s.heap [] := va_S.rf
  have hP : va_P (dC, dI) vwCl (qBJ a0 jnO joH a1 jpc jo7 jpc cyI jpi jnO cyI joO) s.heap := hP
  have hl := lv_entry ([.ref a0, .ref a1]) (n := 2) (nbq rfl)
  rw [lg_entry_eq]
  generalize (lg_sl ([.ref a0, .ref a1]) ++ List.replicate (2 - (lg_sl ([.ref a0, .ref a1])).length) Slot.unset).toArray = ls at hl ⊢
  have hl : lv_has ls 2 [(0, .ref a0), (1, .ref a1)] := hl
  have C0 : cfx p s m _ meth c cX5_copyFrom none wsX5_copyFrom RX5 2 A (dC, dI) (kT cyB cyI cyJ cyP) := ⟨hx, hb, hr, hts, hown, hlocks, hml, hA, hK, hNw⟩
  clear hAe
  obtain ⟨H, hH⟩ : ∃ H, H = s.heap := ⟨_, rfl⟩
  rw [← hH] at hP ⊢
  have hS : va_S A s.heap H [] := by rw [hH]; exact va_S.rf
  have hS := hS
  refine lv_aload_n hx hb (qaa qf2 0 rfl) rfl (lv_at hl 1 rfl) ?_
  refine va_get (D := (dC, dI)) (ci := 5) (v := .ref jpc) (C := RX5) (T := TX5) (N := 2) hx hb hts qyu hown hK hP 1 rfl rfl 0 (by decide) (hts _ qRB) (fun _ h9 => h9) rfl (qaa qf2 1 rfl) ?_
  refine lv_iconst (v := 0) hx hb (qaa qf2 2 rfl) (by decide) ?_
  refine lv_aload_n hx hb (qaa qf2 3 rfl) rfl (lv_at hl 0 rfl) ?_
  refine va_get (D := (dC, dI)) (ci := 5) (v := .ref jnO) (C := RX5) (T := TX5) (N := 2) hx hb hts qyu hown hK hP 0 rfl rfl 0 (by decide) (hts _ qRB) (fun _ h9 => h9) rfl (qaa qf2 4 rfl) ?_
  refine lv_iconst (v := 0) hx hb (qaa qf2 5 rfl) (by decide) ?_
  refine lv_aload_n hx hb (qaa qf2 6 rfl) rfl (lv_at hl 1 rfl) ?_
  refine va_get (D := (dC, dI)) (ci := 5) (v := .int jo7) (C := RX5) (T := TX5) (N := 2) hx hb hts qyu hown hK hP 1 rfl rfl 1 (by decide) (hts _ qIq) (fun _ h9 => h9) rfl (qaa qf2 7 rfl) ?_
  refine lv_bipush (v := 64) hx hb (qaa qf2 8 rfl) (by decide) ?_
  refine lv_imul hx hb (qaa qf2 9 rfl) ?_
  obtain ⟨hc29, hw⟩ := hw
  obtain ⟨hc39, hw⟩ := hw
  obtain ⟨hc49, hw⟩ := hw
  refine va_copyi hx hb (by rw [hml]; exact hl.1.symm) hown (hts _ qac0) (hts _ qadc) (hts _ qae0) (hts _ qagh) hK hP hD hS 2 3 1 1 rfl rfl rfl rfl rfl (by decide) (by decide) hc29 hc39 hc49 (fun _ _ => rfl) (nbq rfl) (nbq rfl) (qaa qf2 10 rfl) (fun H locs hP hD hS => ?_)
  obtain ⟨f1, ef1⟩ : ∃ y : NI, y = va_cpy jpi joO (0 : Int32).toNatClampNeg (0 : Int32).toNatClampNeg (jo7 * 64).toNatClampNeg := ⟨_, rfl⟩
  have hw := hw f1 ef1
  have hP : va_P (dC, dI) vwCl (qBJ a0 jnO joH a1 jpc jo7 jpc cyI jpi jnO cyI f1) H := by rw [ef1]; exact hP
  have hD : va_D A (qBJ a0 jnO joH a1 jpc jo7 jpc cyI jpi jnO cyI f1) := by rw [ef1]; exact hD
  refine lv_aload_n hx hb (qaa qf2 11 rfl) rfl (lv_at hl 0 rfl) ?_
  refine lv_aload_n hx hb (qaa qf2 12 rfl) rfl (lv_at hl 1 rfl) ?_
  refine va_get (D := (dC, dI)) (ci := 5) (v := .int jo7) (C := RX5) (T := TX5) (N := 2) hx hb hts qyu hown hK hP 1 rfl rfl 1 (by decide) (hts _ qIq) (fun _ h9 => h9) rfl (qaa qf2 13 rfl) ?_
  refine va_put (D := (dC, dI)) (ci := 5) (v := .int jo7) (ty := .int) (C := RX5) (T := TX5) (N := 2) hx hb hts qyu tyX5 tyX5_ok nmX5 hown hK hP hD hS 0 rfl rfl 1 (by decide) (hts _ qIq) (fun _ h9 => h9) rfl (by decide +kernel) rfl rfl (nbq rfl) (qaa qf2 14 rfl) (fun H locs hP hD hS => ?_)
  have hP : va_P (dC, dI) vwCl (qBJ a0 jnO jo7 a1 jpc jo7 jpc cyI jpi jnO cyI f1) H := hP
  have hD : va_D A (qBJ a0 jnO jo7 a1 jpc jo7 jpc cyI jpi jnO cyI f1) := hD
  exact ((W.vret hx hb hr (fun t ht hW => ⟨⟨(f1, jo7), rfl, hw, by rw [ht]; exact hP, va_K.moved hW.alike hK, hD⟩, hS.F ht⟩) hS.2.2 (qaa qf2 15 rfl)))
theorem qaw : ∀ w ∈ u_ws RX10 TX10 19, w ∈ wsX10_image := uiM qz0 qyN (by decide +kernel)
theorem qa8 : (.fieldLink RX10 135 "MarchHares" "imagesKept" "I" : Cond) ∈ wsX10_image := qz0 642 (by decide +kernel)
theorem qqP : (.fieldLink RX10 58 "MarchHares" "now" "LMarchHares$Days;" : Cond) ∈ wsX10_image := qz0 79 (by decide +kernel)
theorem qMn : (.fieldLink RX10 68 "MarchHares" "past" "LMarchHares$Past;" : Cond) ∈ wsX10_image := qz0 84 (by decide +kernel)
theorem qEM : (.fieldLink RX10 72 "MarchHares" "images" "[LMarchHares$Past;" : Cond) ∈ wsX10_image := qz0 85 (by decide +kernel)
set_option maxHeartbeats 4000000 in
set_option maxRecDepth 100000 in
theorem qaUK (l : Launch) (dC : Nat → ClassId) (dI : Nat → Nat → Nat) (cyB cyI cyJ cyP : ClassId) (a0 jjk jik jeG jhF jig jiq jiE jaT jbb jih jii sz : Nat) (jaK jfR ja1 jcp jbc jbV ja3 jbH jbO jbI jbl jbn jaa jbA jdD jbr jhD jfg : Value) (jje : Int32) (jkH jbQ jkU : NI) (jk0 jkc : Int32) (jkV : NI) (jk1 : Int32) (jkW : NI) (jk2 : Int32) {Q : Int32 → NI → Int32 → Int32 → NI → Int32 → NI → Int32 → Prop} (hw : q2o jje jkH jbQ jkU jk0 jkc jkV jk1 jkW jk2 Q) : Met l yX10_image wsX10_image ({ frames := 2, cells := 0, slots := 0, locals := 61 }) (va_Pc [.ref a0] (cPc (dC, dI) (kT cyB cyI cyJ cyP) (qoJ a0 jaK jfR ja1 jcp jbc jbV ja3 jbH jaT jbO jeG jjk jbI jbl jbn jkc jaa jbA jdD jjk cyP (qgi jik jiq jiE) jik jig jk0 jeG jhF jje jhF cyI jkH jig cyI jkU jaT jbb jbr jhD jfg jbb cyI jbQ jiq jih jk1 jih cyI jkV jiE jii jk2 jii cyI jkW) sz)) (va_Qi (fun (r : Int32) (u : NI × Int32 × Int32 × NI × Int32 × NI × Int32) => Q r u.1 u.2.1 u.2.2.1 u.2.2.2.1 u.2.2.2.2.1 u.2.2.2.2.2.1 u.2.2.2.2.2.2) (cB (dC, dI) (kT cyB cyI cyJ cyP) (va_A (qoJ a0 jaK jfR ja1 jcp jbc jbV ja3 jbH jaT jbO jeG jjk jbI jbl jbn jkc jaa jbA jdD jjk cyP (qgi jik jiq jiE) jik jig jk0 jeG jhF jje jhF cyI jkH jig cyI jkU jaT jbb jbr jhD jfg jbb cyI jbQ jiq jih jk1 jih cyI jkV jiE jii jk2 jii cyI jkW) sz) (fun u : NI × Int32 × Int32 × NI × Int32 × NI × Int32 => ((qoJ a0 jaK jfR ja1 jcp jbc jbV ja3 jbH jaT jbO jeG jjk jbI jbl jbn u.2.2.1 jaa jbA jdD jjk cyP (qgi jik jiq jiE) jik jig u.2.1 jeG jhF jje jhF cyI jkH jig cyI u.1 jaT jbb jbr jhD jfg jbb cyI jbQ jiq jih u.2.2.2.2.1 jih cyI u.2.2.2.1 jiE jii u.2.2.2.2.2.2 jii cyI u.2.2.2.2.2.1) : va_W))) (va_A (qoJ a0 jaK jfR ja1 jcp jbc jbV ja3 jbH jaT jbO jeG jjk jbI jbl jbn jkc jaa jbA jdD jjk cyP (qgi jik jiq jiE) jik jig jk0 jeG jhF jje jhF cyI jkH jig cyI jkU jaT jbb jbr jhD jfg jbb cyI jbQ jiq jih jk1 jih cyI jkV jiE jii jk2 jii cyI jkW) sz)) 0 0 (va_A (qoJ a0 jaK jfR ja1 jcp jbc jbV ja3 jbH jaT jbO jeG jjk jbI jbl jbn jkc jaa jbA jdD jjk cyP (qgi jik jiq jiE) jik jig jk0 jeG jhF jje jhF cyI jkH jig cyI jkU jaT jbb jbr jhD jfg jbb cyI jbQ jiq jih jk1 jih cyI jkV jiE jii jk2 jii cyI jkW) sz) := by
  refine Met.ofW (cc := cX10_image) (maxL := 1) (ret := (some .int)) (by decide) rfl ?_
  intro p e s m args below meth c s₁ B hml hv
  obtain ⟨rfl, hsz, hP, hK, hD0, hNw⟩ := hv
  have hx := B.exec
  have hb := B.bytes
  have hr := B.returns
  have hts := atoms_spec (ws := wsX10_image) B.pre
  have hown : s.vm.findClass RX10 = some m.cls := findClass_of_methodNamed B.named
  have hlocks := B.notSynchronized
  subst hsz
  have hD := hD0.self (sz := s.heap.size)
  generalize hAe : va_A (qoJ a0 jaK jfR ja1 jcp jbc jbV ja3 jbH jaT jbO jeG jjk jbI jbl jbn jkc jaa jbA jdD jjk cyP (qgi jik jiq jiE) jik jig jk0 jeG jhF jje jhF cyI jkH jig cyI jkU jaT jbb jbr jhD jfg jbb cyI jbQ jiq jih jk1 jih cyI jkV jiE jii jk2 jii cyI jkW) s.heap.size = A at hD ⊢
  have hA : ∀ q : Nat, s.heap.size ≤ q → A q := fun q h => by rw [← hAe]; exact Or.inr h
  have hS : va_S A s.heap s.heap [] := va_S.rf
  have hP : va_P (dC, dI) vwCl (qoJ a0 jaK jfR ja1 jcp jbc jbV ja3 jbH jaT jbO jeG jjk jbI jbl jbn jkc jaa jbA jdD jjk cyP (qgi jik jiq jiE) jik jig jk0 jeG jhF jje jhF cyI jkH jig cyI jkU jaT jbb jbr jhD jfg jbb cyI jbQ jiq jih jk1 jih cyI jkV jiE jii jk2 jii cyI jkW) s.heap := hP
  have hl := lv_entry ([.ref a0]) (n := 1) (nbq rfl)
  rw [lg_entry_eq]
  generalize (lg_sl ([.ref a0]) ++ List.replicate (1 - (lg_sl ([.ref a0])).length) Slot.unset).toArray = ls at hl ⊢
  have hl : lv_has ls 1 [(0, .ref a0)] := hl
  have C0 : cfx p s m _ meth c cX10_image (some .int) wsX10_image RX10 1 A (dC, dI) (kT cyB cyI cyJ cyP) := ⟨hx, hb, hr, hts, hown, hlocks, hml, hA, hK, hNw⟩
  clear hAe
  obtain ⟨H, hH⟩ : ∃ H, H = s.heap := ⟨_, rfl⟩
  rw [← hH] at hP ⊢
  have hS : va_S A s.heap H [] := by rw [hH]; exact va_S.rf
  have hS := hS
  refine lv_aload_n hx hb (qaa qcg 0 rfl) rfl (lv_at hl 0 rfl) ?_
  refine va_get (D := (dC, dI)) (ci := 10) (v := .int jkc) (C := RX10) (T := TX10) (N := 19) hx hb hts qaw hown hK hP 0 rfl rfl 15 (by decide) (hts _ qa8) (fun _ h9 => h9) rfl (qaa qcg 1 rfl) ?_
  refine lv_iconst (v := 3) hx hb (qaa qcg 2 rfl) (by decide) ?_
  refine lv_icmp_lt (tgt := 10) hx hb (qaa qcg 3 rfl) (by decide) (fun c1 => ?_) (fun c1 => ?_)
  · have hw := hw.1 c1
    refine lv_aload_n hx hb (qaa qcg 6 rfl) rfl (lv_at hl 0 rfl) ?_
    refine va_get (D := (dC, dI)) (ci := 10) (v := .ref jjk) (C := RX10) (T := TX10) (N := 19) hx hb hts qaw hown hK hP 0 rfl rfl 11 (by decide) (hts _ qEM) (fun _ h9 => h9) rfl (qaa qcg 7 rfl) ?_
    refine lv_aload_n hx hb (qaa qcg 8 rfl) rfl (lv_at hl 0 rfl) ?_
    refine va_get (D := (dC, dI)) (ci := 10) (v := .int jkc) (C := RX10) (T := TX10) (N := 19) hx hb hts qaw hown hK hP 0 rfl rfl 15 (by decide) (hts _ qa8) (fun _ h9 => h9) rfl (qaa qcg 9 rfl) ?_
    obtain ⟨hi9, hw⟩ := hw
    refine va_aldq hx hb hK hP 1 3 rfl rfl hi9 (qaa qcg 10 rfl) ?_
    rcases in3 hi9 with c2 | c2 | c2
    · have hw := hw.1 c2
      rw [show va_rf (qgi jik jiq jiE jkc.toNatClampNeg) = .ref jik from by rw [c2]; rfl]
      refine lv_aload_n hx hb (qaa qcg 11 rfl) rfl (lv_at hl 0 rfl) ?_
      refine va_get (D := (dC, dI)) (ci := 10) (v := .ref jeG) (C := RX10) (T := TX10) (N := 19) hx hb hts qaw hown hK hP 0 rfl rfl 10 (by decide) (hts _ qMn) (fun _ h9 => h9) rfl (qaa qcg 12 rfl) ?_
      obtain ⟨hCc, hPc, hDc, hFc⟩ := qac (ws' := (qBJ jik jig jk0 jeG jhF jje jhF cyI jkH jig cyI jkU)) hP hD hS hA [2, 3, 4, 5] (by decide +kernel) rfl
      refine va_callv (va_runV (As := [.ref jeG]) (rest := []) ⟨hx, hb, hml, hown, hts⟩ (qps l dC dI cyB cyI cyJ cyP jik jeG jhF jig H.size jje jkH jkU jk0 hw) (cwV 1 hts gX10_image_X5_copyFrom rfl rfl rfl (by decide +kernel) ⟨nbq rfl, nbq rfl⟩) ⟨qab, va_recv (q := (RX5, TX5, 2)) hK hPc (ci := 5) (q0 := 0) rfl rfl, qae hPc hK hDc hNw⟩ rfl rfl hl.1 rfl (lv_room (nbq rfl)) (qaa qcg 13 rfl) ⟨nbq rfl, nbq rfl⟩) hS (fun q _ h => hFc q h) hFc (fun u t H1 locs ht hvm hw hB hz1 hk1 hS => ?_)
      obtain ⟨f3, x4⟩ := u
      obtain ⟨hP1, hK1, hD1⟩ := hB
      rw [ht] at hP1
      obtain ⟨hP, hD⟩ := qad (wr := [(a0, .inr (10, [jaK, jfR, ja1, jcp, jbc, jbV, ja3, jbH, .ref jaT, jbO, .ref jeG, .ref jjk, jbI, jbl, jbn, .int jkc, jaa, jbA, jdD])), (jjk, .inl (cyP, 3, .inr (.inr (.inr (.inr (qgi jik jiq jiE)))))), (jaT, .inr (1, [.ref jbb, jbr, jhD, jfg])), (jbb, .inl (cyI, 64, .inl jbQ)), (jiq, .inr (5, [.ref jih, .int jk1])), (jih, .inl (cyI, 1088, .inl jkV)), (jiE, .inr (5, [.ref jii, .int jk2])), (jii, .inl (cyI, 1088, .inl jkW))]) (w1 := (qBJ jik jig x4 jeG jhF jje jhF cyI jkH jig cyI f3)) (wn := (qoJ a0 jaK jfR ja1 jcp jbc jbV ja3 jbH jaT jbO jeG jjk jbI jbl jbn jkc jaa jbA jdD jjk cyP (qgi jik jiq jiE) jik jig x4 jeG jhF jje jhF cyI jkH jig cyI f3 jaT jbb jbr jhD jfg jbb cyI jbQ jiq jih jk1 jih cyI jkV jiE jii jk2 jii cyI jkW)) hP hD [2, 3, 4, 5] [0, 1, 6, 7, 8, 9, 10, 11] [0, 1, 8, 9, 10, 11, 2, 3, 4, 5, 6, 7] hCc rfl (by decide +kernel) (by decide +kernel) (by decide +kernel) rfl hk1 hFc hP1 hD1
      generalize H1 = H at hP hS ⊢
      refine lv_aload_n hx hb (qaa qcg 14 rfl) rfl (lv_at hl 0 rfl) ?_
      refine va_get (D := (dC, dI)) (ci := 10) (v := .ref jjk) (C := RX10) (T := TX10) (N := 19) hx hb hts qaw hown hK hP 0 rfl rfl 11 (by decide) (hts _ qEM) (fun _ h9 => h9) rfl (qaa qcg 15 rfl) ?_
      refine lv_aload_n hx hb (qaa qai 0 rfl) rfl (lv_at hl 0 rfl) ?_
      refine va_get (D := (dC, dI)) (ci := 10) (v := .int jkc) (C := RX10) (T := TX10) (N := 19) hx hb hts qaw hown hK hP 0 rfl rfl 15 (by decide) (hts _ qa8) (fun _ h9 => h9) rfl (qaa qai 1 rfl) ?_
      obtain ⟨hi9, hw⟩ := hw
      refine va_aldq hx hb hK hP 1 3 rfl rfl hi9 (qaa qai 2 rfl) ?_
      rcases in3 hi9 with c5 | c5 | c5
      · have hw := hw.1 c5
        rw [show va_rf (qgi jik jiq jiE jkc.toNatClampNeg) = .ref jik from by rw [c5]; rfl]
        refine lv_aload_n hx hb (qaa qai 3 rfl) rfl (lv_at hl 0 rfl) ?_
        refine va_get (D := (dC, dI)) (ci := 10) (v := .ref jaT) (C := RX10) (T := TX10) (N := 19) hx hb hts qaw hown hK hP 0 rfl rfl 8 (by decide) (hts _ qqP) (fun _ h9 => h9) rfl (qaa qai 4 rfl) ?_
        obtain ⟨hCc, hPc, hDc, hFc⟩ := qac (ws' := (qsi jik jig x4 jaT jbb jbr jhD jfg jbb cyI jbQ jig cyI f3)) hP hD hS hA [2, 6, 7, 5] (by decide +kernel) rfl
        refine va_callv (va_runV (As := [.ref jaT]) (rest := []) ⟨hx, hb, hml, hown, hts⟩ (qAp l dC dI cyB cyI cyJ cyP jik jaT jbb jig H.size (jbr) (jhD) (jfg) jbQ f3 x4 hw) (cwV 1 hts gX10_image_X5_push rfl rfl rfl (by decide +kernel) ⟨nbq rfl, nbq rfl⟩) ⟨qab, va_recv (q := (RX5, TX5, 2)) hK hPc (ci := 5) (q0 := 0) rfl rfl, qae hPc hK hDc hNw⟩ rfl rfl hl.1 rfl (lv_room (nbq rfl)) (qaa qai 5 rfl) ⟨nbq rfl, nbq rfl⟩) hS (fun q _ h => hFc q h) hFc (fun u t H1 locs ht hvm hw hB hz1 hk1 hS => ?_)
        obtain ⟨f6, x7⟩ := u
        obtain ⟨hP1, hK1, hD1⟩ := hB
        rw [ht] at hP1
        obtain ⟨hP, hD⟩ := qad (wr := (qaZk a0 jaK jfR ja1 jcp jbc jbV ja3 jbH jaT jbO jeG jjk jbI jbl jbn jkc jaa jbA jdD jjk cyP (qgi jik jiq jiE) jeG jhF jje jhF cyI jkH jiq jih jk1 jih cyI jkV jiE jii jk2 jii cyI jkW)) (w1 := (qsi jik jig x7 jaT jbb jbr jhD jfg jbb cyI jbQ jig cyI f6)) (wn := (qoJ a0 jaK jfR ja1 jcp jbc jbV ja3 jbH jaT jbO jeG jjk jbI jbl jbn jkc jaa jbA jdD jjk cyP (qgi jik jiq jiE) jik jig x7 jeG jhF jje jhF cyI jkH jig cyI f6 jaT jbb jbr jhD jfg jbb cyI jbQ jiq jih jk1 jih cyI jkV jiE jii jk2 jii cyI jkW)) hP hD [2, 6, 7, 5] [0, 1, 3, 4, 8, 9, 10, 11] [0, 1, 8, 2, 3, 11, 9, 10, 4, 5, 6, 7] hCc rfl (by decide +kernel) (by decide +kernel) (by decide +kernel) rfl hk1 hFc hP1 hD1
        generalize H1 = H at hP hS ⊢
        refine lv_aload_n hx hb (qaa qai 6 rfl) rfl (lv_at hl 0 rfl) ?_
        refine lv_dup hx hb (qaa qai 7 rfl) rfl ?_
        refine va_get (D := (dC, dI)) (ci := 10) (v := .int jkc) (C := RX10) (T := TX10) (N := 19) hx hb hts qaw hown hK hP 0 rfl rfl 15 (by decide) (hts _ qa8) (fun _ h9 => h9) rfl (qaa qai 8 rfl) ?_
        refine lv_iconst (v := 1) hx hb (qaa qai 9 rfl) (by decide) ?_
        refine lv_iadd hx hb (qaa qai 10 rfl) ?_
        refine lv_topi (fun x8 ex8 => ?_)
        have hw := hw x8 ex8
        refine va_put (D := (dC, dI)) (ci := 10) (v := .int x8) (ty := .int) (C := RX10) (T := TX10) (N := 19) hx hb hts qaw tyX10 tyX10_ok nmX10 hown hK hP hD hS 0 rfl rfl 15 (by decide) (hts _ qa8) (fun _ h9 => h9) rfl (by decide +kernel) rfl rfl (nbq rfl) (qaa qai 11 rfl) (fun H locs hP hD hS => ?_)
        have hP : va_P (dC, dI) vwCl (qoJ a0 jaK jfR ja1 jcp jbc jbV ja3 jbH jaT jbO jeG jjk jbI jbl jbn x8 jaa jbA jdD jjk cyP (qgi jik jiq jiE) jik jig x7 jeG jhF jje jhF cyI jkH jig cyI f6 jaT jbb jbr jhD jfg jbb cyI jbQ jiq jih jk1 jih cyI jkV jiE jii jk2 jii cyI jkW) H := hP
        have hD : va_D A (qoJ a0 jaK jfR ja1 jcp jbc jbV ja3 jbH jaT jbO jeG jjk jbI jbl jbn x8 jaa jbA jdD jjk cyP (qgi jik jiq jiE) jik jig x7 jeG jhF jje jhF cyI jkH jig cyI f6 jaT jbb jbr jhD jfg jbb cyI jbQ jiq jih jk1 jih cyI jkV jiE jii jk2 jii cyI jkW) := hD
        refine lv_aload_n hx hb (qaa qai 12 rfl) rfl (lv_at hl 0 rfl) ?_
        refine va_get (D := (dC, dI)) (ci := 10) (v := .int x8) (C := RX10) (T := TX10) (N := 19) hx hb hts qaw hown hK hP 0 rfl rfl 15 (by decide) (hts _ qa8) (fun _ h9 => h9) rfl (qaa qai 13 rfl) ?_
        exact ((W.iret (v := x8) hx hb hr (fun t ht hW => ⟨⟨x8, (f6, x7, x8, jkV, jk1, jkW, jk2), rfl, hw, by rw [ht]; exact hP, va_K.moved hW.alike hK, hD⟩, hS.F ht⟩) hS.2.2 (qaa qai 14 rfl)))
      · have hw := hw.2.1 c5
        rw [show va_rf (qgi jik jiq jiE jkc.toNatClampNeg) = .ref jiq from by rw [c5]; rfl]
        refine lv_aload_n hx hb (qaa qai 3 rfl) rfl (lv_at hl 0 rfl) ?_
        refine va_get (D := (dC, dI)) (ci := 10) (v := .ref jaT) (C := RX10) (T := TX10) (N := 19) hx hb hts qaw hown hK hP 0 rfl rfl 8 (by decide) (hts _ qqP) (fun _ h9 => h9) rfl (qaa qai 4 rfl) ?_
        obtain ⟨hCc, hPc, hDc, hFc⟩ := qac (ws' := (qsi jiq jih jk1 jaT jbb jbr jhD jfg jbb cyI jbQ jih cyI jkV)) hP hD hS hA [8, 6, 7, 9] (by decide +kernel) rfl
        refine va_callv (va_runV (As := [.ref jaT]) (rest := []) ⟨hx, hb, hml, hown, hts⟩ (qAp l dC dI cyB cyI cyJ cyP jiq jaT jbb jih H.size (jbr) (jhD) (jfg) jbQ jkV jk1 hw) (cwV 1 hts gX10_image_X5_push rfl rfl rfl (by decide +kernel) ⟨nbq rfl, nbq rfl⟩) ⟨qab, va_recv (q := (RX5, TX5, 2)) hK hPc (ci := 5) (q0 := 0) rfl rfl, qae hPc hK hDc hNw⟩ rfl rfl hl.1 rfl (lv_room (nbq rfl)) (qaa qai 5 rfl) ⟨nbq rfl, nbq rfl⟩) hS (fun q _ h => hFc q h) hFc (fun u t H1 locs ht hvm hw hB hz1 hk1 hS => ?_)
        obtain ⟨f9, x10⟩ := u
        obtain ⟨hP1, hK1, hD1⟩ := hB
        rw [ht] at hP1
        obtain ⟨hP, hD⟩ := qad (wr := (qamw a0 jaK jfR ja1 jcp jbc jbV ja3 jbH jaT jbO jeG jjk jbI jbl jbn jkc jaa jbA jdD jjk cyP (qgi jik jiq jiE) jik jig x4 jeG jhF jje jhF cyI jkH jig cyI f3 jiE jii jk2 jii cyI jkW)) (w1 := (qsi jiq jih x10 jaT jbb jbr jhD jfg jbb cyI jbQ jih cyI f9)) (wn := (qoJ a0 jaK jfR ja1 jcp jbc jbV ja3 jbH jaT jbO jeG jjk jbI jbl jbn jkc jaa jbA jdD jjk cyP (qgi jik jiq jiE) jik jig x4 jeG jhF jje jhF cyI jkH jig cyI f3 jaT jbb jbr jhD jfg jbb cyI jbQ jiq jih x10 jih cyI f9 jiE jii jk2 jii cyI jkW)) hP hD [8, 6, 7, 9] [0, 1, 2, 3, 4, 5, 10, 11] [0, 1, 2, 3, 4, 5, 9, 10, 8, 11, 6, 7] hCc rfl (by decide +kernel) (by decide +kernel) (by decide +kernel) rfl hk1 hFc hP1 hD1
        generalize H1 = H at hP hS ⊢
        refine lv_aload_n hx hb (qaa qai 6 rfl) rfl (lv_at hl 0 rfl) ?_
        refine lv_dup hx hb (qaa qai 7 rfl) rfl ?_
        refine va_get (D := (dC, dI)) (ci := 10) (v := .int jkc) (C := RX10) (T := TX10) (N := 19) hx hb hts qaw hown hK hP 0 rfl rfl 15 (by decide) (hts _ qa8) (fun _ h9 => h9) rfl (qaa qai 8 rfl) ?_
        refine lv_iconst (v := 1) hx hb (qaa qai 9 rfl) (by decide) ?_
        refine lv_iadd hx hb (qaa qai 10 rfl) ?_
        refine lv_topi (fun x11 ex11 => ?_)
        have hw := hw x11 ex11
        refine va_put (D := (dC, dI)) (ci := 10) (v := .int x11) (ty := .int) (C := RX10) (T := TX10) (N := 19) hx hb hts qaw tyX10 tyX10_ok nmX10 hown hK hP hD hS 0 rfl rfl 15 (by decide) (hts _ qa8) (fun _ h9 => h9) rfl (by decide +kernel) rfl rfl (nbq rfl) (qaa qai 11 rfl) (fun H locs hP hD hS => ?_)
        have hP : va_P (dC, dI) vwCl (qoJ a0 jaK jfR ja1 jcp jbc jbV ja3 jbH jaT jbO jeG jjk jbI jbl jbn x11 jaa jbA jdD jjk cyP (qgi jik jiq jiE) jik jig x4 jeG jhF jje jhF cyI jkH jig cyI f3 jaT jbb jbr jhD jfg jbb cyI jbQ jiq jih x10 jih cyI f9 jiE jii jk2 jii cyI jkW) H := hP
        have hD : va_D A (qoJ a0 jaK jfR ja1 jcp jbc jbV ja3 jbH jaT jbO jeG jjk jbI jbl jbn x11 jaa jbA jdD jjk cyP (qgi jik jiq jiE) jik jig x4 jeG jhF jje jhF cyI jkH jig cyI f3 jaT jbb jbr jhD jfg jbb cyI jbQ jiq jih x10 jih cyI f9 jiE jii jk2 jii cyI jkW) := hD
        refine lv_aload_n hx hb (qaa qai 12 rfl) rfl (lv_at hl 0 rfl) ?_
        refine va_get (D := (dC, dI)) (ci := 10) (v := .int x11) (C := RX10) (T := TX10) (N := 19) hx hb hts qaw hown hK hP 0 rfl rfl 15 (by decide) (hts _ qa8) (fun _ h9 => h9) rfl (qaa qai 13 rfl) ?_
        exact ((W.iret (v := x11) hx hb hr (fun t ht hW => ⟨⟨x11, (f3, x4, x11, f9, x10, jkW, jk2), rfl, hw, by rw [ht]; exact hP, va_K.moved hW.alike hK, hD⟩, hS.F ht⟩) hS.2.2 (qaa qai 14 rfl)))
      · have hw := hw.2.2 c5
        rw [show va_rf (qgi jik jiq jiE jkc.toNatClampNeg) = .ref jiE from by rw [c5]; rfl]
        refine lv_aload_n hx hb (qaa qai 3 rfl) rfl (lv_at hl 0 rfl) ?_
        refine va_get (D := (dC, dI)) (ci := 10) (v := .ref jaT) (C := RX10) (T := TX10) (N := 19) hx hb hts qaw hown hK hP 0 rfl rfl 8 (by decide) (hts _ qqP) (fun _ h9 => h9) rfl (qaa qai 4 rfl) ?_
        obtain ⟨hCc, hPc, hDc, hFc⟩ := qac (ws' := (qsi jiE jii jk2 jaT jbb jbr jhD jfg jbb cyI jbQ jii cyI jkW)) hP hD hS hA [10, 6, 7, 11] (by decide +kernel) rfl
        refine va_callv (va_runV (As := [.ref jaT]) (rest := []) ⟨hx, hb, hml, hown, hts⟩ (qAp l dC dI cyB cyI cyJ cyP jiE jaT jbb jii H.size (jbr) (jhD) (jfg) jbQ jkW jk2 hw) (cwV 1 hts gX10_image_X5_push rfl rfl rfl (by decide +kernel) ⟨nbq rfl, nbq rfl⟩) ⟨qab, va_recv (q := (RX5, TX5, 2)) hK hPc (ci := 5) (q0 := 0) rfl rfl, qae hPc hK hDc hNw⟩ rfl rfl hl.1 rfl (lv_room (nbq rfl)) (qaa qai 5 rfl) ⟨nbq rfl, nbq rfl⟩) hS (fun q _ h => hFc q h) hFc (fun u t H1 locs ht hvm hw hB hz1 hk1 hS => ?_)
        obtain ⟨f12, x13⟩ := u
        obtain ⟨hP1, hK1, hD1⟩ := hB
        rw [ht] at hP1
        obtain ⟨hP, hD⟩ := qad (wr := (qamw a0 jaK jfR ja1 jcp jbc jbV ja3 jbH jaT jbO jeG jjk jbI jbl jbn jkc jaa jbA jdD jjk cyP (qgi jik jiq jiE) jik jig x4 jeG jhF jje jhF cyI jkH jig cyI f3 jiq jih jk1 jih cyI jkV)) (w1 := (qsi jiE jii x13 jaT jbb jbr jhD jfg jbb cyI jbQ jii cyI f12)) (wn := (qoJ a0 jaK jfR ja1 jcp jbc jbV ja3 jbH jaT jbO jeG jjk jbI jbl jbn jkc jaa jbA jdD jjk cyP (qgi jik jiq jiE) jik jig x4 jeG jhF jje jhF cyI jkH jig cyI f3 jaT jbb jbr jhD jfg jbb cyI jbQ jiq jih jk1 jih cyI jkV jiE jii x13 jii cyI f12)) hP hD [10, 6, 7, 11] [0, 1, 2, 3, 4, 5, 8, 9] [0, 1, 2, 3, 4, 5, 9, 10, 6, 7, 8, 11] hCc rfl (by decide +kernel) (by decide +kernel) (by decide +kernel) rfl hk1 hFc hP1 hD1
        generalize H1 = H at hP hS ⊢
        refine lv_aload_n hx hb (qaa qai 6 rfl) rfl (lv_at hl 0 rfl) ?_
        refine lv_dup hx hb (qaa qai 7 rfl) rfl ?_
        refine va_get (D := (dC, dI)) (ci := 10) (v := .int jkc) (C := RX10) (T := TX10) (N := 19) hx hb hts qaw hown hK hP 0 rfl rfl 15 (by decide) (hts _ qa8) (fun _ h9 => h9) rfl (qaa qai 8 rfl) ?_
        refine lv_iconst (v := 1) hx hb (qaa qai 9 rfl) (by decide) ?_
        refine lv_iadd hx hb (qaa qai 10 rfl) ?_
        refine lv_topi (fun x14 ex14 => ?_)
        have hw := hw x14 ex14
        refine va_put (D := (dC, dI)) (ci := 10) (v := .int x14) (ty := .int) (C := RX10) (T := TX10) (N := 19) hx hb hts qaw tyX10 tyX10_ok nmX10 hown hK hP hD hS 0 rfl rfl 15 (by decide) (hts _ qa8) (fun _ h9 => h9) rfl (by decide +kernel) rfl rfl (nbq rfl) (qaa qai 11 rfl) (fun H locs hP hD hS => ?_)
        have hP : va_P (dC, dI) vwCl (qoJ a0 jaK jfR ja1 jcp jbc jbV ja3 jbH jaT jbO jeG jjk jbI jbl jbn x14 jaa jbA jdD jjk cyP (qgi jik jiq jiE) jik jig x4 jeG jhF jje jhF cyI jkH jig cyI f3 jaT jbb jbr jhD jfg jbb cyI jbQ jiq jih jk1 jih cyI jkV jiE jii x13 jii cyI f12) H := hP
        have hD : va_D A (qoJ a0 jaK jfR ja1 jcp jbc jbV ja3 jbH jaT jbO jeG jjk jbI jbl jbn x14 jaa jbA jdD jjk cyP (qgi jik jiq jiE) jik jig x4 jeG jhF jje jhF cyI jkH jig cyI f3 jaT jbb jbr jhD jfg jbb cyI jbQ jiq jih jk1 jih cyI jkV jiE jii x13 jii cyI f12) := hD
        refine lv_aload_n hx hb (qaa qai 12 rfl) rfl (lv_at hl 0 rfl) ?_
        refine va_get (D := (dC, dI)) (ci := 10) (v := .int x14) (C := RX10) (T := TX10) (N := 19) hx hb hts qaw hown hK hP 0 rfl rfl 15 (by decide) (hts _ qa8) (fun _ h9 => h9) rfl (qaa qai 13 rfl) ?_
        exact ((W.iret (v := x14) hx hb hr (fun t ht hW => ⟨⟨x14, (f3, x4, x14, jkV, jk1, f12, x13), rfl, hw, by rw [ht]; exact hP, va_K.moved hW.alike hK, hD⟩, hS.F ht⟩) hS.2.2 (qaa qai 14 rfl)))
    · have hw := hw.2.1 c2
      rw [show va_rf (qgi jik jiq jiE jkc.toNatClampNeg) = .ref jiq from by rw [c2]; rfl]
      refine lv_aload_n hx hb (qaa qcg 11 rfl) rfl (lv_at hl 0 rfl) ?_
      refine va_get (D := (dC, dI)) (ci := 10) (v := .ref jeG) (C := RX10) (T := TX10) (N := 19) hx hb hts qaw hown hK hP 0 rfl rfl 10 (by decide) (hts _ qMn) (fun _ h9 => h9) rfl (qaa qcg 12 rfl) ?_
      obtain ⟨hCc, hPc, hDc, hFc⟩ := qac (ws' := (qBJ jiq jih jk1 jeG jhF jje jhF cyI jkH jih cyI jkV)) hP hD hS hA [8, 3, 4, 9] (by decide +kernel) rfl
      refine va_callv (va_runV (As := [.ref jeG]) (rest := []) ⟨hx, hb, hml, hown, hts⟩ (qps l dC dI cyB cyI cyJ cyP jiq jeG jhF jih H.size jje jkH jkV jk1 hw) (cwV 1 hts gX10_image_X5_copyFrom rfl rfl rfl (by decide +kernel) ⟨nbq rfl, nbq rfl⟩) ⟨qab, va_recv (q := (RX5, TX5, 2)) hK hPc (ci := 5) (q0 := 0) rfl rfl, qae hPc hK hDc hNw⟩ rfl rfl hl.1 rfl (lv_room (nbq rfl)) (qaa qcg 13 rfl) ⟨nbq rfl, nbq rfl⟩) hS (fun q _ h => hFc q h) hFc (fun u t H1 locs ht hvm hw hB hz1 hk1 hS => ?_)
      obtain ⟨f15, x16⟩ := u
      obtain ⟨hP1, hK1, hD1⟩ := hB
      rw [ht] at hP1
      obtain ⟨hP, hD⟩ := qad (wr := (qa5v a0 jaK jfR ja1 jcp jbc jbV ja3 jbH jaT jbO jeG jjk jbI jbl jbn jkc jaa jbA jdD jjk cyP (qgi jik jiq jiE) jik jig jk0 jig cyI jkU jaT jbb jbr jhD jfg jbb cyI jbQ jiE jii jk2 jii cyI jkW)) (w1 := (qBJ jiq jih x16 jeG jhF jje jhF cyI jkH jih cyI f15)) (wn := (qoJ a0 jaK jfR ja1 jcp jbc jbV ja3 jbH jaT jbO jeG jjk jbI jbl jbn jkc jaa jbA jdD jjk cyP (qgi jik jiq jiE) jik jig jk0 jeG jhF jje jhF cyI jkH jig cyI jkU jaT jbb jbr jhD jfg jbb cyI jbQ jiq jih x16 jih cyI f15 jiE jii jk2 jii cyI jkW)) hP hD [8, 3, 4, 9] [0, 1, 2, 5, 6, 7, 10, 11] [0, 1, 2, 9, 10, 3, 4, 5, 8, 11, 6, 7] hCc rfl (by decide +kernel) (by decide +kernel) (by decide +kernel) rfl hk1 hFc hP1 hD1
      generalize H1 = H at hP hS ⊢
      refine lv_aload_n hx hb (qaa qcg 14 rfl) rfl (lv_at hl 0 rfl) ?_
      refine va_get (D := (dC, dI)) (ci := 10) (v := .ref jjk) (C := RX10) (T := TX10) (N := 19) hx hb hts qaw hown hK hP 0 rfl rfl 11 (by decide) (hts _ qEM) (fun _ h9 => h9) rfl (qaa qcg 15 rfl) ?_
      refine lv_aload_n hx hb (qaa qai 0 rfl) rfl (lv_at hl 0 rfl) ?_
      refine va_get (D := (dC, dI)) (ci := 10) (v := .int jkc) (C := RX10) (T := TX10) (N := 19) hx hb hts qaw hown hK hP 0 rfl rfl 15 (by decide) (hts _ qa8) (fun _ h9 => h9) rfl (qaa qai 1 rfl) ?_
      obtain ⟨hi9, hw⟩ := hw
      refine va_aldq hx hb hK hP 1 3 rfl rfl hi9 (qaa qai 2 rfl) ?_
      rcases in3 hi9 with c17 | c17 | c17
      · have hw := hw.1 c17
        rw [show va_rf (qgi jik jiq jiE jkc.toNatClampNeg) = .ref jik from by rw [c17]; rfl]
        refine lv_aload_n hx hb (qaa qai 3 rfl) rfl (lv_at hl 0 rfl) ?_
        refine va_get (D := (dC, dI)) (ci := 10) (v := .ref jaT) (C := RX10) (T := TX10) (N := 19) hx hb hts qaw hown hK hP 0 rfl rfl 8 (by decide) (hts _ qqP) (fun _ h9 => h9) rfl (qaa qai 4 rfl) ?_
        obtain ⟨hCc, hPc, hDc, hFc⟩ := qac (ws' := (qsi jik jig jk0 jaT jbb jbr jhD jfg jbb cyI jbQ jig cyI jkU)) hP hD hS hA [2, 6, 7, 5] (by decide +kernel) rfl
        refine va_callv (va_runV (As := [.ref jaT]) (rest := []) ⟨hx, hb, hml, hown, hts⟩ (qAp l dC dI cyB cyI cyJ cyP jik jaT jbb jig H.size (jbr) (jhD) (jfg) jbQ jkU jk0 hw) (cwV 1 hts gX10_image_X5_push rfl rfl rfl (by decide +kernel) ⟨nbq rfl, nbq rfl⟩) ⟨qab, va_recv (q := (RX5, TX5, 2)) hK hPc (ci := 5) (q0 := 0) rfl rfl, qae hPc hK hDc hNw⟩ rfl rfl hl.1 rfl (lv_room (nbq rfl)) (qaa qai 5 rfl) ⟨nbq rfl, nbq rfl⟩) hS (fun q _ h => hFc q h) hFc (fun u t H1 locs ht hvm hw hB hz1 hk1 hS => ?_)
        obtain ⟨f18, x19⟩ := u
        obtain ⟨hP1, hK1, hD1⟩ := hB
        rw [ht] at hP1
        obtain ⟨hP, hD⟩ := qad (wr := (qaZk a0 jaK jfR ja1 jcp jbc jbV ja3 jbH jaT jbO jeG jjk jbI jbl jbn jkc jaa jbA jdD jjk cyP (qgi jik jiq jiE) jeG jhF jje jhF cyI jkH jiq jih x16 jih cyI f15 jiE jii jk2 jii cyI jkW)) (w1 := (qsi jik jig x19 jaT jbb jbr jhD jfg jbb cyI jbQ jig cyI f18)) (wn := (qoJ a0 jaK jfR ja1 jcp jbc jbV ja3 jbH jaT jbO jeG jjk jbI jbl jbn jkc jaa jbA jdD jjk cyP (qgi jik jiq jiE) jik jig x19 jeG jhF jje jhF cyI jkH jig cyI f18 jaT jbb jbr jhD jfg jbb cyI jbQ jiq jih x16 jih cyI f15 jiE jii jk2 jii cyI jkW)) hP hD [2, 6, 7, 5] [0, 1, 3, 4, 8, 9, 10, 11] [0, 1, 8, 2, 3, 11, 9, 10, 4, 5, 6, 7] hCc rfl (by decide +kernel) (by decide +kernel) (by decide +kernel) rfl hk1 hFc hP1 hD1
        generalize H1 = H at hP hS ⊢
        refine lv_aload_n hx hb (qaa qai 6 rfl) rfl (lv_at hl 0 rfl) ?_
        refine lv_dup hx hb (qaa qai 7 rfl) rfl ?_
        refine va_get (D := (dC, dI)) (ci := 10) (v := .int jkc) (C := RX10) (T := TX10) (N := 19) hx hb hts qaw hown hK hP 0 rfl rfl 15 (by decide) (hts _ qa8) (fun _ h9 => h9) rfl (qaa qai 8 rfl) ?_
        refine lv_iconst (v := 1) hx hb (qaa qai 9 rfl) (by decide) ?_
        refine lv_iadd hx hb (qaa qai 10 rfl) ?_
        refine lv_topi (fun x20 ex20 => ?_)
        have hw := hw x20 ex20
        refine va_put (D := (dC, dI)) (ci := 10) (v := .int x20) (ty := .int) (C := RX10) (T := TX10) (N := 19) hx hb hts qaw tyX10 tyX10_ok nmX10 hown hK hP hD hS 0 rfl rfl 15 (by decide) (hts _ qa8) (fun _ h9 => h9) rfl (by decide +kernel) rfl rfl (nbq rfl) (qaa qai 11 rfl) (fun H locs hP hD hS => ?_)
        have hP : va_P (dC, dI) vwCl (qoJ a0 jaK jfR ja1 jcp jbc jbV ja3 jbH jaT jbO jeG jjk jbI jbl jbn x20 jaa jbA jdD jjk cyP (qgi jik jiq jiE) jik jig x19 jeG jhF jje jhF cyI jkH jig cyI f18 jaT jbb jbr jhD jfg jbb cyI jbQ jiq jih x16 jih cyI f15 jiE jii jk2 jii cyI jkW) H := hP
        have hD : va_D A (qoJ a0 jaK jfR ja1 jcp jbc jbV ja3 jbH jaT jbO jeG jjk jbI jbl jbn x20 jaa jbA jdD jjk cyP (qgi jik jiq jiE) jik jig x19 jeG jhF jje jhF cyI jkH jig cyI f18 jaT jbb jbr jhD jfg jbb cyI jbQ jiq jih x16 jih cyI f15 jiE jii jk2 jii cyI jkW) := hD
        refine lv_aload_n hx hb (qaa qai 12 rfl) rfl (lv_at hl 0 rfl) ?_
        refine va_get (D := (dC, dI)) (ci := 10) (v := .int x20) (C := RX10) (T := TX10) (N := 19) hx hb hts qaw hown hK hP 0 rfl rfl 15 (by decide) (hts _ qa8) (fun _ h9 => h9) rfl (qaa qai 13 rfl) ?_
        exact ((W.iret (v := x20) hx hb hr (fun t ht hW => ⟨⟨x20, (f18, x19, x20, f15, x16, jkW, jk2), rfl, hw, by rw [ht]; exact hP, va_K.moved hW.alike hK, hD⟩, hS.F ht⟩) hS.2.2 (qaa qai 14 rfl)))
      · have hw := hw.2.1 c17
        rw [show va_rf (qgi jik jiq jiE jkc.toNatClampNeg) = .ref jiq from by rw [c17]; rfl]
        refine lv_aload_n hx hb (qaa qai 3 rfl) rfl (lv_at hl 0 rfl) ?_
        refine va_get (D := (dC, dI)) (ci := 10) (v := .ref jaT) (C := RX10) (T := TX10) (N := 19) hx hb hts qaw hown hK hP 0 rfl rfl 8 (by decide) (hts _ qqP) (fun _ h9 => h9) rfl (qaa qai 4 rfl) ?_
        obtain ⟨hCc, hPc, hDc, hFc⟩ := qac (ws' := (qsi jiq jih x16 jaT jbb jbr jhD jfg jbb cyI jbQ jih cyI f15)) hP hD hS hA [8, 6, 7, 9] (by decide +kernel) rfl
        refine va_callv (va_runV (As := [.ref jaT]) (rest := []) ⟨hx, hb, hml, hown, hts⟩ (qAp l dC dI cyB cyI cyJ cyP jiq jaT jbb jih H.size (jbr) (jhD) (jfg) jbQ f15 x16 hw) (cwV 1 hts gX10_image_X5_push rfl rfl rfl (by decide +kernel) ⟨nbq rfl, nbq rfl⟩) ⟨qab, va_recv (q := (RX5, TX5, 2)) hK hPc (ci := 5) (q0 := 0) rfl rfl, qae hPc hK hDc hNw⟩ rfl rfl hl.1 rfl (lv_room (nbq rfl)) (qaa qai 5 rfl) ⟨nbq rfl, nbq rfl⟩) hS (fun q _ h => hFc q h) hFc (fun u t H1 locs ht hvm hw hB hz1 hk1 hS => ?_)
        obtain ⟨f21, x22⟩ := u
        obtain ⟨hP1, hK1, hD1⟩ := hB
        rw [ht] at hP1
        obtain ⟨hP, hD⟩ := qad (wr := (qamw a0 jaK jfR ja1 jcp jbc jbV ja3 jbH jaT jbO jeG jjk jbI jbl jbn jkc jaa jbA jdD jjk cyP (qgi jik jiq jiE) jik jig jk0 jeG jhF jje jhF cyI jkH jig cyI jkU jiE jii jk2 jii cyI jkW)) (w1 := (qsi jiq jih x22 jaT jbb jbr jhD jfg jbb cyI jbQ jih cyI f21)) (wn := (qoJ a0 jaK jfR ja1 jcp jbc jbV ja3 jbH jaT jbO jeG jjk jbI jbl jbn jkc jaa jbA jdD jjk cyP (qgi jik jiq jiE) jik jig jk0 jeG jhF jje jhF cyI jkH jig cyI jkU jaT jbb jbr jhD jfg jbb cyI jbQ jiq jih x22 jih cyI f21 jiE jii jk2 jii cyI jkW)) hP hD [8, 6, 7, 9] [0, 1, 2, 3, 4, 5, 10, 11] [0, 1, 2, 3, 4, 5, 9, 10, 8, 11, 6, 7] hCc rfl (by decide +kernel) (by decide +kernel) (by decide +kernel) rfl hk1 hFc hP1 hD1
        generalize H1 = H at hP hS ⊢
        refine lv_aload_n hx hb (qaa qai 6 rfl) rfl (lv_at hl 0 rfl) ?_
        refine lv_dup hx hb (qaa qai 7 rfl) rfl ?_
        refine va_get (D := (dC, dI)) (ci := 10) (v := .int jkc) (C := RX10) (T := TX10) (N := 19) hx hb hts qaw hown hK hP 0 rfl rfl 15 (by decide) (hts _ qa8) (fun _ h9 => h9) rfl (qaa qai 8 rfl) ?_
        refine lv_iconst (v := 1) hx hb (qaa qai 9 rfl) (by decide) ?_
        refine lv_iadd hx hb (qaa qai 10 rfl) ?_
        refine lv_topi (fun x23 ex23 => ?_)
        have hw := hw x23 ex23
        refine va_put (D := (dC, dI)) (ci := 10) (v := .int x23) (ty := .int) (C := RX10) (T := TX10) (N := 19) hx hb hts qaw tyX10 tyX10_ok nmX10 hown hK hP hD hS 0 rfl rfl 15 (by decide) (hts _ qa8) (fun _ h9 => h9) rfl (by decide +kernel) rfl rfl (nbq rfl) (qaa qai 11 rfl) (fun H locs hP hD hS => ?_)
        have hP : va_P (dC, dI) vwCl (qoJ a0 jaK jfR ja1 jcp jbc jbV ja3 jbH jaT jbO jeG jjk jbI jbl jbn x23 jaa jbA jdD jjk cyP (qgi jik jiq jiE) jik jig jk0 jeG jhF jje jhF cyI jkH jig cyI jkU jaT jbb jbr jhD jfg jbb cyI jbQ jiq jih x22 jih cyI f21 jiE jii jk2 jii cyI jkW) H := hP
        have hD : va_D A (qoJ a0 jaK jfR ja1 jcp jbc jbV ja3 jbH jaT jbO jeG jjk jbI jbl jbn x23 jaa jbA jdD jjk cyP (qgi jik jiq jiE) jik jig jk0 jeG jhF jje jhF cyI jkH jig cyI jkU jaT jbb jbr jhD jfg jbb cyI jbQ jiq jih x22 jih cyI f21 jiE jii jk2 jii cyI jkW) := hD
        refine lv_aload_n hx hb (qaa qai 12 rfl) rfl (lv_at hl 0 rfl) ?_
        refine va_get (D := (dC, dI)) (ci := 10) (v := .int x23) (C := RX10) (T := TX10) (N := 19) hx hb hts qaw hown hK hP 0 rfl rfl 15 (by decide) (hts _ qa8) (fun _ h9 => h9) rfl (qaa qai 13 rfl) ?_
        exact ((W.iret (v := x23) hx hb hr (fun t ht hW => ⟨⟨x23, (jkU, jk0, x23, f21, x22, jkW, jk2), rfl, hw, by rw [ht]; exact hP, va_K.moved hW.alike hK, hD⟩, hS.F ht⟩) hS.2.2 (qaa qai 14 rfl)))
      · have hw := hw.2.2 c17
        rw [show va_rf (qgi jik jiq jiE jkc.toNatClampNeg) = .ref jiE from by rw [c17]; rfl]
        refine lv_aload_n hx hb (qaa qai 3 rfl) rfl (lv_at hl 0 rfl) ?_
        refine va_get (D := (dC, dI)) (ci := 10) (v := .ref jaT) (C := RX10) (T := TX10) (N := 19) hx hb hts qaw hown hK hP 0 rfl rfl 8 (by decide) (hts _ qqP) (fun _ h9 => h9) rfl (qaa qai 4 rfl) ?_
        obtain ⟨hCc, hPc, hDc, hFc⟩ := qac (ws' := (qsi jiE jii jk2 jaT jbb jbr jhD jfg jbb cyI jbQ jii cyI jkW)) hP hD hS hA [10, 6, 7, 11] (by decide +kernel) rfl
        refine va_callv (va_runV (As := [.ref jaT]) (rest := []) ⟨hx, hb, hml, hown, hts⟩ (qAp l dC dI cyB cyI cyJ cyP jiE jaT jbb jii H.size (jbr) (jhD) (jfg) jbQ jkW jk2 hw) (cwV 1 hts gX10_image_X5_push rfl rfl rfl (by decide +kernel) ⟨nbq rfl, nbq rfl⟩) ⟨qab, va_recv (q := (RX5, TX5, 2)) hK hPc (ci := 5) (q0 := 0) rfl rfl, qae hPc hK hDc hNw⟩ rfl rfl hl.1 rfl (lv_room (nbq rfl)) (qaa qai 5 rfl) ⟨nbq rfl, nbq rfl⟩) hS (fun q _ h => hFc q h) hFc (fun u t H1 locs ht hvm hw hB hz1 hk1 hS => ?_)
        obtain ⟨f24, x25⟩ := u
        obtain ⟨hP1, hK1, hD1⟩ := hB
        rw [ht] at hP1
        obtain ⟨hP, hD⟩ := qad (wr := (qamw a0 jaK jfR ja1 jcp jbc jbV ja3 jbH jaT jbO jeG jjk jbI jbl jbn jkc jaa jbA jdD jjk cyP (qgi jik jiq jiE) jik jig jk0 jeG jhF jje jhF cyI jkH jig cyI jkU jiq jih x16 jih cyI f15)) (w1 := (qsi jiE jii x25 jaT jbb jbr jhD jfg jbb cyI jbQ jii cyI f24)) (wn := (qoJ a0 jaK jfR ja1 jcp jbc jbV ja3 jbH jaT jbO jeG jjk jbI jbl jbn jkc jaa jbA jdD jjk cyP (qgi jik jiq jiE) jik jig jk0 jeG jhF jje jhF cyI jkH jig cyI jkU jaT jbb jbr jhD jfg jbb cyI jbQ jiq jih x16 jih cyI f15 jiE jii x25 jii cyI f24)) hP hD [10, 6, 7, 11] [0, 1, 2, 3, 4, 5, 8, 9] [0, 1, 2, 3, 4, 5, 9, 10, 6, 7, 8, 11] hCc rfl (by decide +kernel) (by decide +kernel) (by decide +kernel) rfl hk1 hFc hP1 hD1
        generalize H1 = H at hP hS ⊢
        refine lv_aload_n hx hb (qaa qai 6 rfl) rfl (lv_at hl 0 rfl) ?_
        refine lv_dup hx hb (qaa qai 7 rfl) rfl ?_
        refine va_get (D := (dC, dI)) (ci := 10) (v := .int jkc) (C := RX10) (T := TX10) (N := 19) hx hb hts qaw hown hK hP 0 rfl rfl 15 (by decide) (hts _ qa8) (fun _ h9 => h9) rfl (qaa qai 8 rfl) ?_
        refine lv_iconst (v := 1) hx hb (qaa qai 9 rfl) (by decide) ?_
        refine lv_iadd hx hb (qaa qai 10 rfl) ?_
        refine lv_topi (fun x26 ex26 => ?_)
        have hw := hw x26 ex26
        refine va_put (D := (dC, dI)) (ci := 10) (v := .int x26) (ty := .int) (C := RX10) (T := TX10) (N := 19) hx hb hts qaw tyX10 tyX10_ok nmX10 hown hK hP hD hS 0 rfl rfl 15 (by decide) (hts _ qa8) (fun _ h9 => h9) rfl (by decide +kernel) rfl rfl (nbq rfl) (qaa qai 11 rfl) (fun H locs hP hD hS => ?_)
        have hP : va_P (dC, dI) vwCl (qoJ a0 jaK jfR ja1 jcp jbc jbV ja3 jbH jaT jbO jeG jjk jbI jbl jbn x26 jaa jbA jdD jjk cyP (qgi jik jiq jiE) jik jig jk0 jeG jhF jje jhF cyI jkH jig cyI jkU jaT jbb jbr jhD jfg jbb cyI jbQ jiq jih x16 jih cyI f15 jiE jii x25 jii cyI f24) H := hP
        have hD : va_D A (qoJ a0 jaK jfR ja1 jcp jbc jbV ja3 jbH jaT jbO jeG jjk jbI jbl jbn x26 jaa jbA jdD jjk cyP (qgi jik jiq jiE) jik jig jk0 jeG jhF jje jhF cyI jkH jig cyI jkU jaT jbb jbr jhD jfg jbb cyI jbQ jiq jih x16 jih cyI f15 jiE jii x25 jii cyI f24) := hD
        refine lv_aload_n hx hb (qaa qai 12 rfl) rfl (lv_at hl 0 rfl) ?_
        refine va_get (D := (dC, dI)) (ci := 10) (v := .int x26) (C := RX10) (T := TX10) (N := 19) hx hb hts qaw hown hK hP 0 rfl rfl 15 (by decide) (hts _ qa8) (fun _ h9 => h9) rfl (qaa qai 13 rfl) ?_
        exact ((W.iret (v := x26) hx hb hr (fun t ht hW => ⟨⟨x26, (jkU, jk0, x26, f15, x16, f24, x25), rfl, hw, by rw [ht]; exact hP, va_K.moved hW.alike hK, hD⟩, hS.F ht⟩) hS.2.2 (qaa qai 14 rfl)))
    · have hw := hw.2.2 c2
      rw [show va_rf (qgi jik jiq jiE jkc.toNatClampNeg) = .ref jiE from by rw [c2]; rfl]
      refine lv_aload_n hx hb (qaa qcg 11 rfl) rfl (lv_at hl 0 rfl) ?_
      refine va_get (D := (dC, dI)) (ci := 10) (v := .ref jeG) (C := RX10) (T := TX10) (N := 19) hx hb hts qaw hown hK hP 0 rfl rfl 10 (by decide) (hts _ qMn) (fun _ h9 => h9) rfl (qaa qcg 12 rfl) ?_
      obtain ⟨hCc, hPc, hDc, hFc⟩ := qac (ws' := (qBJ jiE jii jk2 jeG jhF jje jhF cyI jkH jii cyI jkW)) hP hD hS hA [10, 3, 4, 11] (by decide +kernel) rfl
      refine va_callv (va_runV (As := [.ref jeG]) (rest := []) ⟨hx, hb, hml, hown, hts⟩ (qps l dC dI cyB cyI cyJ cyP jiE jeG jhF jii H.size jje jkH jkW jk2 hw) (cwV 1 hts gX10_image_X5_copyFrom rfl rfl rfl (by decide +kernel) ⟨nbq rfl, nbq rfl⟩) ⟨qab, va_recv (q := (RX5, TX5, 2)) hK hPc (ci := 5) (q0 := 0) rfl rfl, qae hPc hK hDc hNw⟩ rfl rfl hl.1 rfl (lv_room (nbq rfl)) (qaa qcg 13 rfl) ⟨nbq rfl, nbq rfl⟩) hS (fun q _ h => hFc q h) hFc (fun u t H1 locs ht hvm hw hB hz1 hk1 hS => ?_)
      obtain ⟨f27, x28⟩ := u
      obtain ⟨hP1, hK1, hD1⟩ := hB
      rw [ht] at hP1
      obtain ⟨hP, hD⟩ := qad (wr := (qa5v a0 jaK jfR ja1 jcp jbc jbV ja3 jbH jaT jbO jeG jjk jbI jbl jbn jkc jaa jbA jdD jjk cyP (qgi jik jiq jiE) jik jig jk0 jig cyI jkU jaT jbb jbr jhD jfg jbb cyI jbQ jiq jih jk1 jih cyI jkV)) (w1 := (qBJ jiE jii x28 jeG jhF jje jhF cyI jkH jii cyI f27)) (wn := (qoJ a0 jaK jfR ja1 jcp jbc jbV ja3 jbH jaT jbO jeG jjk jbI jbl jbn jkc jaa jbA jdD jjk cyP (qgi jik jiq jiE) jik jig jk0 jeG jhF jje jhF cyI jkH jig cyI jkU jaT jbb jbr jhD jfg jbb cyI jbQ jiq jih jk1 jih cyI jkV jiE jii x28 jii cyI f27)) hP hD [10, 3, 4, 11] [0, 1, 2, 5, 6, 7, 8, 9] [0, 1, 2, 9, 10, 3, 4, 5, 6, 7, 8, 11] hCc rfl (by decide +kernel) (by decide +kernel) (by decide +kernel) rfl hk1 hFc hP1 hD1
      generalize H1 = H at hP hS ⊢
      refine lv_aload_n hx hb (qaa qcg 14 rfl) rfl (lv_at hl 0 rfl) ?_
      refine va_get (D := (dC, dI)) (ci := 10) (v := .ref jjk) (C := RX10) (T := TX10) (N := 19) hx hb hts qaw hown hK hP 0 rfl rfl 11 (by decide) (hts _ qEM) (fun _ h9 => h9) rfl (qaa qcg 15 rfl) ?_
      refine lv_aload_n hx hb (qaa qai 0 rfl) rfl (lv_at hl 0 rfl) ?_
      refine va_get (D := (dC, dI)) (ci := 10) (v := .int jkc) (C := RX10) (T := TX10) (N := 19) hx hb hts qaw hown hK hP 0 rfl rfl 15 (by decide) (hts _ qa8) (fun _ h9 => h9) rfl (qaa qai 1 rfl) ?_
      obtain ⟨hi9, hw⟩ := hw
      refine va_aldq hx hb hK hP 1 3 rfl rfl hi9 (qaa qai 2 rfl) ?_
      rcases in3 hi9 with c29 | c29 | c29
      · have hw := hw.1 c29
        rw [show va_rf (qgi jik jiq jiE jkc.toNatClampNeg) = .ref jik from by rw [c29]; rfl]
        refine lv_aload_n hx hb (qaa qai 3 rfl) rfl (lv_at hl 0 rfl) ?_
        refine va_get (D := (dC, dI)) (ci := 10) (v := .ref jaT) (C := RX10) (T := TX10) (N := 19) hx hb hts qaw hown hK hP 0 rfl rfl 8 (by decide) (hts _ qqP) (fun _ h9 => h9) rfl (qaa qai 4 rfl) ?_
        obtain ⟨hCc, hPc, hDc, hFc⟩ := qac (ws' := (qsi jik jig jk0 jaT jbb jbr jhD jfg jbb cyI jbQ jig cyI jkU)) hP hD hS hA [2, 6, 7, 5] (by decide +kernel) rfl
        refine va_callv (va_runV (As := [.ref jaT]) (rest := []) ⟨hx, hb, hml, hown, hts⟩ (qAp l dC dI cyB cyI cyJ cyP jik jaT jbb jig H.size (jbr) (jhD) (jfg) jbQ jkU jk0 hw) (cwV 1 hts gX10_image_X5_push rfl rfl rfl (by decide +kernel) ⟨nbq rfl, nbq rfl⟩) ⟨qab, va_recv (q := (RX5, TX5, 2)) hK hPc (ci := 5) (q0 := 0) rfl rfl, qae hPc hK hDc hNw⟩ rfl rfl hl.1 rfl (lv_room (nbq rfl)) (qaa qai 5 rfl) ⟨nbq rfl, nbq rfl⟩) hS (fun q _ h => hFc q h) hFc (fun u t H1 locs ht hvm hw hB hz1 hk1 hS => ?_)
        obtain ⟨f30, x31⟩ := u
        obtain ⟨hP1, hK1, hD1⟩ := hB
        rw [ht] at hP1
        obtain ⟨hP, hD⟩ := qad (wr := (qaZk a0 jaK jfR ja1 jcp jbc jbV ja3 jbH jaT jbO jeG jjk jbI jbl jbn jkc jaa jbA jdD jjk cyP (qgi jik jiq jiE) jeG jhF jje jhF cyI jkH jiq jih jk1 jih cyI jkV jiE jii x28 jii cyI f27)) (w1 := (qsi jik jig x31 jaT jbb jbr jhD jfg jbb cyI jbQ jig cyI f30)) (wn := (qoJ a0 jaK jfR ja1 jcp jbc jbV ja3 jbH jaT jbO jeG jjk jbI jbl jbn jkc jaa jbA jdD jjk cyP (qgi jik jiq jiE) jik jig x31 jeG jhF jje jhF cyI jkH jig cyI f30 jaT jbb jbr jhD jfg jbb cyI jbQ jiq jih jk1 jih cyI jkV jiE jii x28 jii cyI f27)) hP hD [2, 6, 7, 5] [0, 1, 3, 4, 8, 9, 10, 11] [0, 1, 8, 2, 3, 11, 9, 10, 4, 5, 6, 7] hCc rfl (by decide +kernel) (by decide +kernel) (by decide +kernel) rfl hk1 hFc hP1 hD1
        generalize H1 = H at hP hS ⊢
        refine lv_aload_n hx hb (qaa qai 6 rfl) rfl (lv_at hl 0 rfl) ?_
        refine lv_dup hx hb (qaa qai 7 rfl) rfl ?_
        refine va_get (D := (dC, dI)) (ci := 10) (v := .int jkc) (C := RX10) (T := TX10) (N := 19) hx hb hts qaw hown hK hP 0 rfl rfl 15 (by decide) (hts _ qa8) (fun _ h9 => h9) rfl (qaa qai 8 rfl) ?_
        refine lv_iconst (v := 1) hx hb (qaa qai 9 rfl) (by decide) ?_
        refine lv_iadd hx hb (qaa qai 10 rfl) ?_
        refine lv_topi (fun x32 ex32 => ?_)
        have hw := hw x32 ex32
        refine va_put (D := (dC, dI)) (ci := 10) (v := .int x32) (ty := .int) (C := RX10) (T := TX10) (N := 19) hx hb hts qaw tyX10 tyX10_ok nmX10 hown hK hP hD hS 0 rfl rfl 15 (by decide) (hts _ qa8) (fun _ h9 => h9) rfl (by decide +kernel) rfl rfl (nbq rfl) (qaa qai 11 rfl) (fun H locs hP hD hS => ?_)
        have hP : va_P (dC, dI) vwCl (qoJ a0 jaK jfR ja1 jcp jbc jbV ja3 jbH jaT jbO jeG jjk jbI jbl jbn x32 jaa jbA jdD jjk cyP (qgi jik jiq jiE) jik jig x31 jeG jhF jje jhF cyI jkH jig cyI f30 jaT jbb jbr jhD jfg jbb cyI jbQ jiq jih jk1 jih cyI jkV jiE jii x28 jii cyI f27) H := hP
        have hD : va_D A (qoJ a0 jaK jfR ja1 jcp jbc jbV ja3 jbH jaT jbO jeG jjk jbI jbl jbn x32 jaa jbA jdD jjk cyP (qgi jik jiq jiE) jik jig x31 jeG jhF jje jhF cyI jkH jig cyI f30 jaT jbb jbr jhD jfg jbb cyI jbQ jiq jih jk1 jih cyI jkV jiE jii x28 jii cyI f27) := hD
        refine lv_aload_n hx hb (qaa qai 12 rfl) rfl (lv_at hl 0 rfl) ?_
        refine va_get (D := (dC, dI)) (ci := 10) (v := .int x32) (C := RX10) (T := TX10) (N := 19) hx hb hts qaw hown hK hP 0 rfl rfl 15 (by decide) (hts _ qa8) (fun _ h9 => h9) rfl (qaa qai 13 rfl) ?_
        exact ((W.iret (v := x32) hx hb hr (fun t ht hW => ⟨⟨x32, (f30, x31, x32, jkV, jk1, f27, x28), rfl, hw, by rw [ht]; exact hP, va_K.moved hW.alike hK, hD⟩, hS.F ht⟩) hS.2.2 (qaa qai 14 rfl)))
      · have hw := hw.2.1 c29
        rw [show va_rf (qgi jik jiq jiE jkc.toNatClampNeg) = .ref jiq from by rw [c29]; rfl]
        refine lv_aload_n hx hb (qaa qai 3 rfl) rfl (lv_at hl 0 rfl) ?_
        refine va_get (D := (dC, dI)) (ci := 10) (v := .ref jaT) (C := RX10) (T := TX10) (N := 19) hx hb hts qaw hown hK hP 0 rfl rfl 8 (by decide) (hts _ qqP) (fun _ h9 => h9) rfl (qaa qai 4 rfl) ?_
        obtain ⟨hCc, hPc, hDc, hFc⟩ := qac (ws' := (qsi jiq jih jk1 jaT jbb jbr jhD jfg jbb cyI jbQ jih cyI jkV)) hP hD hS hA [8, 6, 7, 9] (by decide +kernel) rfl
        refine va_callv (va_runV (As := [.ref jaT]) (rest := []) ⟨hx, hb, hml, hown, hts⟩ (qAp l dC dI cyB cyI cyJ cyP jiq jaT jbb jih H.size (jbr) (jhD) (jfg) jbQ jkV jk1 hw) (cwV 1 hts gX10_image_X5_push rfl rfl rfl (by decide +kernel) ⟨nbq rfl, nbq rfl⟩) ⟨qab, va_recv (q := (RX5, TX5, 2)) hK hPc (ci := 5) (q0 := 0) rfl rfl, qae hPc hK hDc hNw⟩ rfl rfl hl.1 rfl (lv_room (nbq rfl)) (qaa qai 5 rfl) ⟨nbq rfl, nbq rfl⟩) hS (fun q _ h => hFc q h) hFc (fun u t H1 locs ht hvm hw hB hz1 hk1 hS => ?_)
        obtain ⟨f33, x34⟩ := u
        obtain ⟨hP1, hK1, hD1⟩ := hB
        rw [ht] at hP1
        obtain ⟨hP, hD⟩ := qad (wr := (qamw a0 jaK jfR ja1 jcp jbc jbV ja3 jbH jaT jbO jeG jjk jbI jbl jbn jkc jaa jbA jdD jjk cyP (qgi jik jiq jiE) jik jig jk0 jeG jhF jje jhF cyI jkH jig cyI jkU jiE jii x28 jii cyI f27)) (w1 := (qsi jiq jih x34 jaT jbb jbr jhD jfg jbb cyI jbQ jih cyI f33)) (wn := (qoJ a0 jaK jfR ja1 jcp jbc jbV ja3 jbH jaT jbO jeG jjk jbI jbl jbn jkc jaa jbA jdD jjk cyP (qgi jik jiq jiE) jik jig jk0 jeG jhF jje jhF cyI jkH jig cyI jkU jaT jbb jbr jhD jfg jbb cyI jbQ jiq jih x34 jih cyI f33 jiE jii x28 jii cyI f27)) hP hD [8, 6, 7, 9] [0, 1, 2, 3, 4, 5, 10, 11] [0, 1, 2, 3, 4, 5, 9, 10, 8, 11, 6, 7] hCc rfl (by decide +kernel) (by decide +kernel) (by decide +kernel) rfl hk1 hFc hP1 hD1
        generalize H1 = H at hP hS ⊢
        refine lv_aload_n hx hb (qaa qai 6 rfl) rfl (lv_at hl 0 rfl) ?_
        refine lv_dup hx hb (qaa qai 7 rfl) rfl ?_
        refine va_get (D := (dC, dI)) (ci := 10) (v := .int jkc) (C := RX10) (T := TX10) (N := 19) hx hb hts qaw hown hK hP 0 rfl rfl 15 (by decide) (hts _ qa8) (fun _ h9 => h9) rfl (qaa qai 8 rfl) ?_
        refine lv_iconst (v := 1) hx hb (qaa qai 9 rfl) (by decide) ?_
        refine lv_iadd hx hb (qaa qai 10 rfl) ?_
        refine lv_topi (fun x35 ex35 => ?_)
        have hw := hw x35 ex35
        refine va_put (D := (dC, dI)) (ci := 10) (v := .int x35) (ty := .int) (C := RX10) (T := TX10) (N := 19) hx hb hts qaw tyX10 tyX10_ok nmX10 hown hK hP hD hS 0 rfl rfl 15 (by decide) (hts _ qa8) (fun _ h9 => h9) rfl (by decide +kernel) rfl rfl (nbq rfl) (qaa qai 11 rfl) (fun H locs hP hD hS => ?_)
        have hP : va_P (dC, dI) vwCl (qoJ a0 jaK jfR ja1 jcp jbc jbV ja3 jbH jaT jbO jeG jjk jbI jbl jbn x35 jaa jbA jdD jjk cyP (qgi jik jiq jiE) jik jig jk0 jeG jhF jje jhF cyI jkH jig cyI jkU jaT jbb jbr jhD jfg jbb cyI jbQ jiq jih x34 jih cyI f33 jiE jii x28 jii cyI f27) H := hP
        have hD : va_D A (qoJ a0 jaK jfR ja1 jcp jbc jbV ja3 jbH jaT jbO jeG jjk jbI jbl jbn x35 jaa jbA jdD jjk cyP (qgi jik jiq jiE) jik jig jk0 jeG jhF jje jhF cyI jkH jig cyI jkU jaT jbb jbr jhD jfg jbb cyI jbQ jiq jih x34 jih cyI f33 jiE jii x28 jii cyI f27) := hD
        refine lv_aload_n hx hb (qaa qai 12 rfl) rfl (lv_at hl 0 rfl) ?_
        refine va_get (D := (dC, dI)) (ci := 10) (v := .int x35) (C := RX10) (T := TX10) (N := 19) hx hb hts qaw hown hK hP 0 rfl rfl 15 (by decide) (hts _ qa8) (fun _ h9 => h9) rfl (qaa qai 13 rfl) ?_
        exact ((W.iret (v := x35) hx hb hr (fun t ht hW => ⟨⟨x35, (jkU, jk0, x35, f33, x34, f27, x28), rfl, hw, by rw [ht]; exact hP, va_K.moved hW.alike hK, hD⟩, hS.F ht⟩) hS.2.2 (qaa qai 14 rfl)))
      · have hw := hw.2.2 c29
        rw [show va_rf (qgi jik jiq jiE jkc.toNatClampNeg) = .ref jiE from by rw [c29]; rfl]
        refine lv_aload_n hx hb (qaa qai 3 rfl) rfl (lv_at hl 0 rfl) ?_
        refine va_get (D := (dC, dI)) (ci := 10) (v := .ref jaT) (C := RX10) (T := TX10) (N := 19) hx hb hts qaw hown hK hP 0 rfl rfl 8 (by decide) (hts _ qqP) (fun _ h9 => h9) rfl (qaa qai 4 rfl) ?_
        obtain ⟨hCc, hPc, hDc, hFc⟩ := qac (ws' := (qsi jiE jii x28 jaT jbb jbr jhD jfg jbb cyI jbQ jii cyI f27)) hP hD hS hA [10, 6, 7, 11] (by decide +kernel) rfl
        refine va_callv (va_runV (As := [.ref jaT]) (rest := []) ⟨hx, hb, hml, hown, hts⟩ (qAp l dC dI cyB cyI cyJ cyP jiE jaT jbb jii H.size (jbr) (jhD) (jfg) jbQ f27 x28 hw) (cwV 1 hts gX10_image_X5_push rfl rfl rfl (by decide +kernel) ⟨nbq rfl, nbq rfl⟩) ⟨qab, va_recv (q := (RX5, TX5, 2)) hK hPc (ci := 5) (q0 := 0) rfl rfl, qae hPc hK hDc hNw⟩ rfl rfl hl.1 rfl (lv_room (nbq rfl)) (qaa qai 5 rfl) ⟨nbq rfl, nbq rfl⟩) hS (fun q _ h => hFc q h) hFc (fun u t H1 locs ht hvm hw hB hz1 hk1 hS => ?_)
        obtain ⟨f36, x37⟩ := u
        obtain ⟨hP1, hK1, hD1⟩ := hB
        rw [ht] at hP1
        obtain ⟨hP, hD⟩ := qad (wr := (qamw a0 jaK jfR ja1 jcp jbc jbV ja3 jbH jaT jbO jeG jjk jbI jbl jbn jkc jaa jbA jdD jjk cyP (qgi jik jiq jiE) jik jig jk0 jeG jhF jje jhF cyI jkH jig cyI jkU jiq jih jk1 jih cyI jkV)) (w1 := (qsi jiE jii x37 jaT jbb jbr jhD jfg jbb cyI jbQ jii cyI f36)) (wn := (qoJ a0 jaK jfR ja1 jcp jbc jbV ja3 jbH jaT jbO jeG jjk jbI jbl jbn jkc jaa jbA jdD jjk cyP (qgi jik jiq jiE) jik jig jk0 jeG jhF jje jhF cyI jkH jig cyI jkU jaT jbb jbr jhD jfg jbb cyI jbQ jiq jih jk1 jih cyI jkV jiE jii x37 jii cyI f36)) hP hD [10, 6, 7, 11] [0, 1, 2, 3, 4, 5, 8, 9] [0, 1, 2, 3, 4, 5, 9, 10, 6, 7, 8, 11] hCc rfl (by decide +kernel) (by decide +kernel) (by decide +kernel) rfl hk1 hFc hP1 hD1
        generalize H1 = H at hP hS ⊢
        refine lv_aload_n hx hb (qaa qai 6 rfl) rfl (lv_at hl 0 rfl) ?_
        refine lv_dup hx hb (qaa qai 7 rfl) rfl ?_
        refine va_get (D := (dC, dI)) (ci := 10) (v := .int jkc) (C := RX10) (T := TX10) (N := 19) hx hb hts qaw hown hK hP 0 rfl rfl 15 (by decide) (hts _ qa8) (fun _ h9 => h9) rfl (qaa qai 8 rfl) ?_
        refine lv_iconst (v := 1) hx hb (qaa qai 9 rfl) (by decide) ?_
        refine lv_iadd hx hb (qaa qai 10 rfl) ?_
        refine lv_topi (fun x38 ex38 => ?_)
        have hw := hw x38 ex38
        refine va_put (D := (dC, dI)) (ci := 10) (v := .int x38) (ty := .int) (C := RX10) (T := TX10) (N := 19) hx hb hts qaw tyX10 tyX10_ok nmX10 hown hK hP hD hS 0 rfl rfl 15 (by decide) (hts _ qa8) (fun _ h9 => h9) rfl (by decide +kernel) rfl rfl (nbq rfl) (qaa qai 11 rfl) (fun H locs hP hD hS => ?_)
        have hP : va_P (dC, dI) vwCl (qoJ a0 jaK jfR ja1 jcp jbc jbV ja3 jbH jaT jbO jeG jjk jbI jbl jbn x38 jaa jbA jdD jjk cyP (qgi jik jiq jiE) jik jig jk0 jeG jhF jje jhF cyI jkH jig cyI jkU jaT jbb jbr jhD jfg jbb cyI jbQ jiq jih jk1 jih cyI jkV jiE jii x37 jii cyI f36) H := hP
        have hD : va_D A (qoJ a0 jaK jfR ja1 jcp jbc jbV ja3 jbH jaT jbO jeG jjk jbI jbl jbn x38 jaa jbA jdD jjk cyP (qgi jik jiq jiE) jik jig jk0 jeG jhF jje jhF cyI jkH jig cyI jkU jaT jbb jbr jhD jfg jbb cyI jbQ jiq jih jk1 jih cyI jkV jiE jii x37 jii cyI f36) := hD
        refine lv_aload_n hx hb (qaa qai 12 rfl) rfl (lv_at hl 0 rfl) ?_
        refine va_get (D := (dC, dI)) (ci := 10) (v := .int x38) (C := RX10) (T := TX10) (N := 19) hx hb hts qaw hown hK hP 0 rfl rfl 15 (by decide) (hts _ qa8) (fun _ h9 => h9) rfl (qaa qai 13 rfl) ?_
        exact ((W.iret (v := x38) hx hb hr (fun t ht hW => ⟨⟨x38, (jkU, jk0, x38, jkV, jk1, f36, x37), rfl, hw, by rw [ht]; exact hP, va_K.moved hW.alike hK, hD⟩, hS.F ht⟩) hS.2.2 (qaa qai 14 rfl)))
  · have hw := hw.2 c1
    refine lv_iconst (v := (-1)) hx hb (qaa qcg 4 rfl) (by decide) ?_
    exact ((W.iret (v := (-1)) hx hb hr (fun t ht hW => ⟨⟨(-1), (jkU, jk0, jkc, jkV, jk1, jkW, jk2), rfl, hw, by rw [ht]; exact hP, va_K.moved hW.alike hK, hD⟩, hS.F ht⟩) hS.2.2 (qaa qcg 5 rfl)))
theorem qaf4 : ∀ w ∈ u_ws RX8 TX8 7, w ∈ wsX8_init := uiM qOT euX8 (by decide +kernel)
theorem qanb : (.arrayClass .byte : Cond) ∈ wsX8_init := qOT 141 (by decide +kernel)
theorem qay6 : (.code objectInit ⟨#[0xb1]⟩ 1 none : Cond) ∈ wsX8_init := qOT 12 (by decide +kernel)
theorem qaFU : (.fieldLink RX8 11 "MarchHares$Tape" "bytes" "[B" : Cond) ∈ wsX8_init := qOT 142 (by decide +kernel)
theorem qaIv : (.fieldLink RX8 15 "MarchHares$Tape" "faultPlace" "I" : Cond) ∈ wsX8_init := qOT 143 (by decide +kernel)
theorem qate : (.instanceMethod objectInit : Cond) ∈ wsX8_init := qOT 11 (by decide +kernel)
theorem qaSq : (.methodLink RX8 3 objectInit : Cond) ∈ wsX8_init := qOT 140 (by decide +kernel)
set_option maxHeartbeats 4000000 in
set_option maxRecDepth 100000 in
theorem qa2i (l : Launch) (dC : Nat → ClassId) (dI : Nat → Nat → Nat) (cyB cyI cyJ cyP : ClassId) (a0 sz : Nat) {Q : Prop} (hw : qaL0 Q) : Met l yX8_init wsX8_init ({ frames := 1, cells := 1, slots := 600, locals := 24 }) (va_Pc [.ref a0] (cPc (dC, dI) (kT cyB cyI cyJ cyP) (qalR a0 0 0 0 0 0 0) sz)) (va_Qv (fun (u : (Nat → Nat)) => Q ) (cB (dC, dI) (kT cyB cyI cyJ cyP) (va_A (qalR a0 0 0 0 0 0 0) sz) (fun u : (Nat → Nat) => ((qaAZ a0 (u 0) 0 0 0 0 0 (-1) (u 0) cyB (fun _ => 0)) : va_W))) (va_A (qalR a0 0 0 0 0 0 0) sz)) 1 600 (va_A (qalR a0 0 0 0 0 0 0) sz) := by
  refine Met.ofW (cc := cX8_init) (maxL := 1) (ret := none) (by decide) rfl ?_
  intro p e s m args below meth c s₁ B hml hv
  obtain ⟨rfl, hsz, hP, hK, hD0, hNw⟩ := hv
  have hx := B.exec
  have hb := B.bytes
  have hr := B.returns
  have hts := atoms_spec (ws := wsX8_init) B.pre
  have hown : s.vm.findClass RX8 = some m.cls := findClass_of_methodNamed B.named
  have hlocks := B.notSynchronized
  have hin : meth.name = "<init>" := (name_of_methodNamed B.named B.method).1
  subst hsz
  have hD := hD0.self (sz := s.heap.size)
  generalize hAe : va_A (qalR a0 0 0 0 0 0 0) s.heap.size = A at hD ⊢
  have hA : ∀ q : Nat, s.heap.size ≤ q → A q := fun q h => by rw [← hAe]; exact Or.inr h
  have hS : va_S A s.heap s.heap [] := va_S.rf
  have hP : va_P (dC, dI) vwCl (qalR a0 0 0 0 0 0 0) s.heap := hP
  have hl := lv_entry ([.ref a0]) (n := 1) (nbq rfl)
  rw [lg_entry_eq]
  generalize (lg_sl ([.ref a0]) ++ List.replicate (1 - (lg_sl ([.ref a0])).length) Slot.unset).toArray = ls at hl ⊢
  have hl : lv_has ls 1 [(0, .ref a0)] := hl
  clear hAe
  obtain ⟨H, hH⟩ : ∃ H, H = s.heap := ⟨_, rfl⟩
  rw [← hH] at hP ⊢
  have hS : va_S A s.heap H [] := by rw [hH]; exact va_S.rf
  refine lv_aload_n hx hb (qaa qSJ 0 rfl) rfl (lv_at hl 0 rfl) ?_
  refine W.objInit hx hb hown (hts _ qaSq) (hts _ qate) (hts _ qay6) rfl (by rw [hml]; exact hl.1) rfl (qaa qSJ 1 rfl) (nbq rfl) (nbq rfl) ?_
  refine W.eq (g2 := F0 m 4 ls []) rfl ?_
  refine lv_aload_n hx hb (qaa qSJ 2 rfl) rfl (lv_at hl 0 rfl) ?_
  refine lv_sipush (v := 600) hx hb (qaa qSJ 3 rfl) (by decide) ?_
  refine va_newa (atype := .byte) (ty := .byte) (N' := 600) (a0 := (600, .inl (fun _ => 0))) hx hb (hts _ qanb) rfl hK hP hD hS hA (fun _ => rfl) (by decide) (by decide) (by decide) (nbq rfl) (nbq rfl) dX8_init_8 (fun jif cA9 H hK9 hP hD hS => ?_)
  obtain rfl := qbhn hK9
  have hP : va_P (dC, dI) vwCl (qa6a a0 0 0 0 0 0 0 jif cyB (fun _ => 0)) H := hP
  have hD : va_D A (qa6a a0 0 0 0 0 0 0 jif cyB (fun _ => 0)) := hD
  refine va_putF (D := (dC, dI)) (ci := 8) (v := .ref jif) (ty := .array .byte) (C := RX8) (T := TX8) (N := 7) hx hb hts qaf4 tyX8 tyX8_ok nmX8 hown hK hP hD hS 0 rfl rfl 0 (by decide) (hts _ qaFU) (fun _ h9 => h9) rfl hin rfl (by decide +kernel) rfl rfl (nbq rfl) (qaa qHM 0 rfl) (fun H locs hP hD hS => ?_)
  have hP : va_P (dC, dI) vwCl (qaAZ a0 jif 0 0 0 0 0 0 jif cyB (fun _ => 0)) H := hP
  have hD : va_D A (qaAZ a0 jif 0 0 0 0 0 0 jif cyB (fun _ => 0)) := hD
  refine lv_aload_n hx hb (qaa qHM 1 rfl) rfl (lv_at hl 0 rfl) ?_
  refine lv_iconst (v := (-1)) hx hb (qaa qHM 2 rfl) (by decide) ?_
  refine va_put (D := (dC, dI)) (ci := 8) (v := .int (-1)) (ty := .int) (C := RX8) (T := TX8) (N := 7) hx hb hts qaf4 tyX8 tyX8_ok nmX8 hown hK hP hD hS 0 rfl rfl 6 (by decide) (hts _ qaIv) (fun _ h9 => h9) rfl (by decide +kernel) rfl rfl (nbq rfl) (qaa qHM 3 rfl) (fun H locs hP hD hS => ?_)
  have hP : va_P (dC, dI) vwCl (qaAZ a0 jif 0 0 0 0 0 (-1) jif cyB (fun _ => 0)) H := hP
  have hD : va_D A (qaAZ a0 jif 0 0 0 0 0 (-1) jif cyB (fun _ => 0)) := hD
  exact (W.widen (k := 1) (n := 600) (nbq rfl) (nbq rfl) (W.vret hx hb hr (fun t ht hW => ⟨⟨(adr [jif]), rfl, hw, by rw [ht]; exact hP, va_K.moved hW.alike hK, hD⟩, hS.F ht⟩) hS.2.2 (qaa qHM 4 rfl)))
theorem qwU : ∀ w ∈ u_ws RX2 TX2 12, w ∈ wsX2_init := uiM qyW qLp (by decide +kernel)
theorem qsA : (.arrayClass .int : Cond) ∈ wsX2_init := qyW 147 (by decide +kernel)
theorem qaCZ : (.code objectInit ⟨#[0xb1]⟩ 1 none : Cond) ∈ wsX2_init := qyW 12 (by decide +kernel)
theorem qaIN : (.fieldLink RX2 15 "MarchHares$Down" "formY" "[I" : Cond) ∈ wsX2_init := qyW 149 (by decide +kernel)
theorem qaIg : (.fieldLink RX2 18 "MarchHares$Down" "foxX" "[I" : Cond) ∈ wsX2_init := qyW 150 (by decide +kernel)
theorem qaKF : (.fieldLink RX2 21 "MarchHares$Down" "foxY" "[I" : Cond) ∈ wsX2_init := qyW 151 (by decide +kernel)
theorem qaGy : (.fieldLink RX2 24 "MarchHares$Down" "seat" "[I" : Cond) ∈ wsX2_init := qyW 192 (by decide +kernel)
theorem qaHL : (.fieldLink RX2 27 "MarchHares$Down" "strength" "[I" : Cond) ∈ wsX2_init := qyW 193 (by decide +kernel)
theorem qaGk : (.fieldLink RX2 30 "MarchHares$Down" "debts" "[I" : Cond) ∈ wsX2_init := qyW 194 (by decide +kernel)
theorem qaIn : (.fieldLink RX2 33 "MarchHares$Down" "near" "[I" : Cond) ∈ wsX2_init := qyW 195 (by decide +kernel)
theorem qaP9 : (.fieldLink RX2 9 "MarchHares$Down" "formX" "[I" : Cond) ∈ wsX2_init := qyW 148 (by decide +kernel)
theorem qat0 : (.instanceMethod objectInit : Cond) ∈ wsX2_init := qyW 11 (by decide +kernel)
theorem qaQR : (.methodLink RX2 3 objectInit : Cond) ∈ wsX2_init := qyW 146 (by decide +kernel)
set_option maxHeartbeats 4000000 in
set_option maxRecDepth 100000 in
theorem qaLH (l : Launch) (dC : Nat → ClassId) (dI : Nat → Nat → Nat) (cyB cyI cyJ cyP : ClassId) (a0 sz : Nat) {Q : Prop} (hw : qaj9 Q) : Met l yX2_init wsX2_init ({ frames := 1, cells := 8, slots := 80, locals := 24 }) (va_Pc [.ref a0] (cPc (dC, dI) (kT cyB cyI cyJ cyP) (qaji a0 0 0 0 0) sz)) (va_Qv (fun (u : (Nat → Nat)) => Q ) (cB (dC, dI) (kT cyB cyI cyJ cyP) (va_A (qaji a0 0 0 0 0) sz) (fun u : (Nat → Nat) => ((qaZa a0 (u 0) (u 1) (u 2) (u 3) (u 4) (u 5) (u 6) (u 7) 0 0 0 0 (u 0) cyI (fun _ => 0) (u 1) cyI (fun _ => 0) (u 2) cyI (fun _ => 0) (u 3) cyI (fun _ => 0) (u 4) cyI (fun _ => 0) (u 5) cyI (fun _ => 0) (u 6) cyI (fun _ => 0) (u 7) cyI (fun _ => 0)) : va_W))) (va_A (qaji a0 0 0 0 0) sz)) 8 80 (va_A (qaji a0 0 0 0 0) sz) := by
  refine Met.ofW (cc := cX2_init) (maxL := 1) (ret := none) (by decide) rfl ?_
  intro p e s m args below meth c s₁ B hml hv
  obtain ⟨rfl, hsz, hP, hK, hD0, hNw⟩ := hv
  have hx := B.exec
  have hb := B.bytes
  have hr := B.returns
  have hts := atoms_spec (ws := wsX2_init) B.pre
  have hown : s.vm.findClass RX2 = some m.cls := findClass_of_methodNamed B.named
  have hlocks := B.notSynchronized
  have hin : meth.name = "<init>" := (name_of_methodNamed B.named B.method).1
  subst hsz
  have hD := hD0.self (sz := s.heap.size)
  generalize hAe : va_A (qaji a0 0 0 0 0) s.heap.size = A at hD ⊢
  have hA : ∀ q : Nat, s.heap.size ≤ q → A q := fun q h => by rw [← hAe]; exact Or.inr h
  have hS : va_S A s.heap s.heap [] := va_S.rf
  have hP : va_P (dC, dI) vwCl (qaji a0 0 0 0 0) s.heap := hP
  have hl := lv_entry ([.ref a0]) (n := 1) (nbq rfl)
  rw [lg_entry_eq]
  generalize (lg_sl ([.ref a0]) ++ List.replicate (1 - (lg_sl ([.ref a0])).length) Slot.unset).toArray = ls at hl ⊢
  have hl : lv_has ls 1 [(0, .ref a0)] := hl
  clear hAe
  obtain ⟨H, hH⟩ : ∃ H, H = s.heap := ⟨_, rfl⟩
  rw [← hH] at hP ⊢
  have hS : va_S A s.heap H [] := by rw [hH]; exact va_S.rf
  refine lv_aload_n hx hb (qaa qSC 0 rfl) rfl (lv_at hl 0 rfl) ?_
  refine W.objInit hx hb hown (hts _ qaQR) (hts _ qat0) (hts _ qaCZ) rfl (by rw [hml]; exact hl.1) rfl (qaa qSC 1 rfl) (nbq rfl) (nbq rfl) ?_
  refine W.eq (g2 := F0 m 4 ls []) rfl ?_
  refine lv_aload_n hx hb (qaa qSC 2 rfl) rfl (lv_at hl 0 rfl) ?_
  refine lv_bipush (v := 8) hx hb (qaa qSC 3 rfl) (by decide) ?_
  refine va_newa (atype := .int) (ty := .int) (N' := 8) (a0 := (8, .inl (fun _ => 0))) hx hb (hts _ qsA) rfl hK hP hD hS hA (fun _ => rfl) (by decide) (by decide) (by decide) (nbq rfl) (nbq rfl) dX2_init_7 (fun jhb cA9 H hK9 hP hD hS => ?_)
  obtain rfl := qk3 hK9
  have hP : va_P (dC, dI) vwCl (qa9u a0 0 0 0 0 jhb cyI (fun _ => 0)) H := hP
  have hD : va_D A (qa9u a0 0 0 0 0 jhb cyI (fun _ => 0)) := hD
  refine va_putF (D := (dC, dI)) (ci := 2) (v := .ref jhb) (ty := .array .int) (C := RX2) (T := TX2) (N := 12) hx hb hts qwU tyX2 tyX2_ok nmX2 hown hK hP hD hS 0 rfl rfl 0 (by decide) (hts _ qaP9) (fun _ h9 => h9) rfl hin rfl (by decide +kernel) rfl rfl (nbq rfl) (qaa q4o 0 rfl) (fun H locs hP hD hS => ?_)
  have hP : va_P (dC, dI) vwCl (qa5H a0 jhb 0 0 0 0 jhb cyI (fun _ => 0)) H := hP
  have hD : va_D A (qa5H a0 jhb 0 0 0 0 jhb cyI (fun _ => 0)) := hD
  refine lv_aload_n hx hb (qaa q4o 1 rfl) rfl (lv_at hl 0 rfl) ?_
  refine lv_bipush (v := 8) hx hb (qaa q4o 2 rfl) (by decide) ?_
  refine va_newa (atype := .int) (ty := .int) (N' := 8) (a0 := (8, .inl (fun _ => 0))) hx hb (hts _ qsA) rfl hK hP hD hS hA (fun _ => rfl) (by decide) (by decide) (by decide) (nbq rfl) (nbq rfl) dX2_init_15 (fun jhj cA9 H hK9 hP hD hS => ?_)
  obtain rfl := qk3 hK9
  have hP : va_P (dC, dI) vwCl (qa78 a0 jhb 0 0 0 0 jhb cyI (fun _ => 0) jhj cyI (fun _ => 0)) H := hP
  have hD : va_D A (qa78 a0 jhb 0 0 0 0 jhb cyI (fun _ => 0) jhj cyI (fun _ => 0)) := hD
  refine va_putF (D := (dC, dI)) (ci := 2) (v := .ref jhj) (ty := .array .int) (C := RX2) (T := TX2) (N := 12) hx hb hts qwU tyX2 tyX2_ok nmX2 hown hK hP hD hS 0 rfl rfl 1 (by decide) (hts _ qaIN) (fun _ h9 => h9) rfl hin rfl (by decide +kernel) rfl rfl (nbq rfl) (qaa qWR 0 rfl) (fun H locs hP hD hS => ?_)
  have hP : va_P (dC, dI) vwCl (qa3U a0 jhb jhj 0 0 0 0 jhb cyI (fun _ => 0) jhj cyI (fun _ => 0)) H := hP
  have hD : va_D A (qa3U a0 jhb jhj 0 0 0 0 jhb cyI (fun _ => 0) jhj cyI (fun _ => 0)) := hD
  refine lv_aload_n hx hb (qaa qWR 1 rfl) rfl (lv_at hl 0 rfl) ?_
  refine lv_iconst (v := 4) hx hb (qaa qWR 2 rfl) (by decide) ?_
  refine va_newa (atype := .int) (ty := .int) (N' := 4) (a0 := (4, .inl (fun _ => 0))) hx hb (hts _ qsA) rfl hK hP hD hS hA (fun _ => rfl) (by decide) (by decide) (by decide) (nbq rfl) (nbq rfl) dX2_init_22 (fun jjQ cA9 H hK9 hP hD hS => ?_)
  obtain rfl := qk3 hK9
  have hP : va_P (dC, dI) vwCl (qa8Q a0 jhb jhj 0 0 0 0 jhb cyI (fun _ => 0) jhj cyI (fun _ => 0) jjQ cyI (fun _ => 0)) H := hP
  have hD : va_D A (qa8Q a0 jhb jhj 0 0 0 0 jhb cyI (fun _ => 0) jhj cyI (fun _ => 0) jjQ cyI (fun _ => 0)) := hD
  refine va_putF (D := (dC, dI)) (ci := 2) (v := .ref jjQ) (ty := .array .int) (C := RX2) (T := TX2) (N := 12) hx hb hts qwU tyX2 tyX2_ok nmX2 hown hK hP hD hS 0 rfl rfl 2 (by decide) (hts _ qaIg) (fun _ h9 => h9) rfl hin rfl (by decide +kernel) rfl rfl (nbq rfl) (qaa qW1 0 rfl) (fun H locs hP hD hS => ?_)
  have hP : va_P (dC, dI) vwCl (qa8V a0 jhb jhj jjQ 0 0 0 0 jhb cyI (fun _ => 0) jhj cyI (fun _ => 0) jjQ cyI (fun _ => 0)) H := hP
  have hD : va_D A (qa8V a0 jhb jhj jjQ 0 0 0 0 jhb cyI (fun _ => 0) jhj cyI (fun _ => 0) jjQ cyI (fun _ => 0)) := hD
  refine lv_aload_n hx hb (qaa qW1 1 rfl) rfl (lv_at hl 0 rfl) ?_
  refine lv_iconst (v := 4) hx hb (qaa qW1 2 rfl) (by decide) ?_
  refine va_newa (atype := .int) (ty := .int) (N' := 4) (a0 := (4, .inl (fun _ => 0))) hx hb (hts _ qsA) rfl hK hP hD hS hA (fun _ => rfl) (by decide) (by decide) (by decide) (nbq rfl) (nbq rfl) dX2_init_29 (fun jjU cA9 H hK9 hP hD hS => ?_)
  obtain rfl := qk3 hK9
  have hP : va_P (dC, dI) vwCl (qa7S a0 jhb jhj jjQ 0 0 0 0 jhb cyI (fun _ => 0) jhj cyI (fun _ => 0) jjQ cyI (fun _ => 0) jjU cyI (fun _ => 0)) H := hP
  have hD : va_D A (qa7S a0 jhb jhj jjQ 0 0 0 0 jhb cyI (fun _ => 0) jhj cyI (fun _ => 0) jjQ cyI (fun _ => 0) jjU cyI (fun _ => 0)) := hD
  refine va_putF (D := (dC, dI)) (ci := 2) (v := .ref jjU) (ty := .array .int) (C := RX2) (T := TX2) (N := 12) hx hb hts qwU tyX2 tyX2_ok nmX2 hown hK hP hD hS 0 rfl rfl 3 (by decide) (hts _ qaKF) (fun _ h9 => h9) rfl hin rfl (by decide +kernel) rfl rfl (nbq rfl) (qaa qXc 0 rfl) (fun H locs hP hD hS => ?_)
  have hP : va_P (dC, dI) vwCl (qa6I a0 jhb jhj jjQ jjU 0 0 0 0 jhb cyI (fun _ => 0) jhj cyI (fun _ => 0) jjQ cyI (fun _ => 0) jjU cyI (fun _ => 0)) H := hP
  have hD : va_D A (qa6I a0 jhb jhj jjQ jjU 0 0 0 0 jhb cyI (fun _ => 0) jhj cyI (fun _ => 0) jjQ cyI (fun _ => 0) jjU cyI (fun _ => 0)) := hD
  refine lv_aload_n hx hb (qaa qXc 1 rfl) rfl (lv_at hl 0 rfl) ?_
  refine lv_bipush (v := 6) hx hb (qaa qXc 2 rfl) (by decide) ?_
  refine va_newa (atype := .int) (ty := .int) (N' := 6) (a0 := (6, .inl (fun _ => 0))) hx hb (hts _ qsA) rfl hK hP hD hS hA (fun _ => rfl) (by decide) (by decide) (by decide) (nbq rfl) (nbq rfl) dX2_init_37 (fun jla cA9 H hK9 hP hD hS => ?_)
  obtain rfl := qk3 hK9
  have hP : va_P (dC, dI) vwCl (qbam a0 jhb jhj jjQ jjU 0 0 0 0 jhb cyI (fun _ => 0) jhj cyI (fun _ => 0) jjQ cyI (fun _ => 0) jjU cyI (fun _ => 0) jla cyI (fun _ => 0)) H := hP
  have hD : va_D A (qbam a0 jhb jhj jjQ jjU 0 0 0 0 jhb cyI (fun _ => 0) jhj cyI (fun _ => 0) jjQ cyI (fun _ => 0) jjU cyI (fun _ => 0) jla cyI (fun _ => 0)) := hD
  refine va_putF (D := (dC, dI)) (ci := 2) (v := .ref jla) (ty := .array .int) (C := RX2) (T := TX2) (N := 12) hx hb hts qwU tyX2 tyX2_ok nmX2 hown hK hP hD hS 0 rfl rfl 4 (by decide) (hts _ qaGy) (fun _ h9 => h9) rfl hin rfl (by decide +kernel) rfl rfl (nbq rfl) (qaa qWE 0 rfl) (fun H locs hP hD hS => ?_)
  have hP : va_P (dC, dI) vwCl (qa4c a0 jhb jhj jjQ jjU jla 0 0 0 0 jhb cyI (fun _ => 0) jhj cyI (fun _ => 0) jjQ cyI (fun _ => 0) jjU cyI (fun _ => 0) jla cyI (fun _ => 0)) H := hP
  have hD : va_D A (qa4c a0 jhb jhj jjQ jjU jla 0 0 0 0 jhb cyI (fun _ => 0) jhj cyI (fun _ => 0) jjQ cyI (fun _ => 0) jjU cyI (fun _ => 0) jla cyI (fun _ => 0)) := hD
  refine lv_aload_n hx hb (qaa qWE 1 rfl) rfl (lv_at hl 0 rfl) ?_
  refine lv_bipush (v := 6) hx hb (qaa qWE 2 rfl) (by decide) ?_
  refine va_newa (atype := .int) (ty := .int) (N' := 6) (a0 := (6, .inl (fun _ => 0))) hx hb (hts _ qsA) rfl hK hP hD hS hA (fun _ => rfl) (by decide) (by decide) (by decide) (nbq rfl) (nbq rfl) dX2_init_45 (fun jjy cA9 H hK9 hP hD hS => ?_)
  obtain rfl := qk3 hK9
  have hP : va_P (dC, dI) vwCl (qa5l a0 jhb jhj jjQ jjU jla 0 0 0 0 jhb cyI (fun _ => 0) jhj cyI (fun _ => 0) jjQ cyI (fun _ => 0) jjU cyI (fun _ => 0) jla cyI (fun _ => 0) jjy cyI (fun _ => 0)) H := hP
  have hD : va_D A (qa5l a0 jhb jhj jjQ jjU jla 0 0 0 0 jhb cyI (fun _ => 0) jhj cyI (fun _ => 0) jjQ cyI (fun _ => 0) jjU cyI (fun _ => 0) jla cyI (fun _ => 0) jjy cyI (fun _ => 0)) := hD
  refine va_putF (D := (dC, dI)) (ci := 2) (v := .ref jjy) (ty := .array .int) (C := RX2) (T := TX2) (N := 12) hx hb hts qwU tyX2 tyX2_ok nmX2 hown hK hP hD hS 0 rfl rfl 5 (by decide) (hts _ qaHL) (fun _ h9 => h9) rfl hin rfl (by decide +kernel) rfl rfl (nbq rfl) (qaa qYC 0 rfl) (fun H locs hP hD hS => ?_)
  have hP : va_P (dC, dI) vwCl (qa3T a0 jhb jhj jjQ jjU jla jjy 0 0 0 0 jhb cyI (fun _ => 0) jhj cyI (fun _ => 0) jjQ cyI (fun _ => 0) jjU cyI (fun _ => 0) jla cyI (fun _ => 0) jjy cyI (fun _ => 0)) H := hP
  have hD : va_D A (qa3T a0 jhb jhj jjQ jjU jla jjy 0 0 0 0 jhb cyI (fun _ => 0) jhj cyI (fun _ => 0) jjQ cyI (fun _ => 0) jjU cyI (fun _ => 0) jla cyI (fun _ => 0) jjy cyI (fun _ => 0)) := hD
  refine lv_aload_n hx hb (qaa qYC 1 rfl) rfl (lv_at hl 0 rfl) ?_
  refine lv_bipush (v := 36) hx hb (qaa qYC 2 rfl) (by decide) ?_
  refine va_newa (atype := .int) (ty := .int) (N' := 36) (a0 := (36, .inl (fun _ => 0))) hx hb (hts _ qsA) rfl hK hP hD hS hA (fun _ => rfl) (by decide) (by decide) (by decide) (nbq rfl) (nbq rfl) dX2_init_53 (fun jkT cA9 H hK9 hP hD hS => ?_)
  obtain rfl := qk3 hK9
  have hP : va_P (dC, dI) vwCl (qa8b a0 jhb jhj jjQ jjU jla jjy 0 0 0 0 jhb cyI (fun _ => 0) jhj cyI (fun _ => 0) jjQ cyI (fun _ => 0) jjU cyI (fun _ => 0) jla cyI (fun _ => 0) jjy cyI (fun _ => 0) jkT cyI (fun _ => 0)) H := hP
  have hD : va_D A (qa8b a0 jhb jhj jjQ jjU jla jjy 0 0 0 0 jhb cyI (fun _ => 0) jhj cyI (fun _ => 0) jjQ cyI (fun _ => 0) jjU cyI (fun _ => 0) jla cyI (fun _ => 0) jjy cyI (fun _ => 0) jkT cyI (fun _ => 0)) := hD
  refine va_putF (D := (dC, dI)) (ci := 2) (v := .ref jkT) (ty := .array .int) (C := RX2) (T := TX2) (N := 12) hx hb hts qwU tyX2 tyX2_ok nmX2 hown hK hP hD hS 0 rfl rfl 6 (by decide) (hts _ qaGk) (fun _ h9 => h9) rfl hin rfl (by decide +kernel) rfl rfl (nbq rfl) (qaa qWi 0 rfl) (fun H locs hP hD hS => ?_)
  have hP : va_P (dC, dI) vwCl (qa9K a0 jhb jhj jjQ jjU jla jjy jkT 0 0 0 0 jhb cyI (fun _ => 0) jhj cyI (fun _ => 0) jjQ cyI (fun _ => 0) jjU cyI (fun _ => 0) jla cyI (fun _ => 0) jjy cyI (fun _ => 0) jkT cyI (fun _ => 0)) H := hP
  have hD : va_D A (qa9K a0 jhb jhj jjQ jjU jla jjy jkT 0 0 0 0 jhb cyI (fun _ => 0) jhj cyI (fun _ => 0) jjQ cyI (fun _ => 0) jjU cyI (fun _ => 0) jla cyI (fun _ => 0) jjy cyI (fun _ => 0) jkT cyI (fun _ => 0)) := hD
  refine lv_aload_n hx hb (qaa qWi 1 rfl) rfl (lv_at hl 0 rfl) ?_
  refine lv_bipush (v := 8) hx hb (qaa qWi 2 rfl) (by decide) ?_
  refine va_newa (atype := .int) (ty := .int) (N' := 8) (a0 := (8, .inl (fun _ => 0))) hx hb (hts _ qsA) rfl hK hP hD hS hA (fun _ => rfl) (by decide) (by decide) (by decide) (nbq rfl) (nbq rfl) dX2_init_61 (fun jmE cA9 H hK9 hP hD hS => ?_)
  obtain rfl := qk3 hK9
  have hP : va_P (dC, dI) vwCl (qa9L a0 jhb jhj jjQ jjU jla jjy jkT 0 0 0 0 jhb cyI (fun _ => 0) jhj cyI (fun _ => 0) jjQ cyI (fun _ => 0) jjU cyI (fun _ => 0) jla cyI (fun _ => 0) jjy cyI (fun _ => 0) jkT cyI (fun _ => 0) jmE cyI (fun _ => 0)) H := hP
  have hD : va_D A (qa9L a0 jhb jhj jjQ jjU jla jjy jkT 0 0 0 0 jhb cyI (fun _ => 0) jhj cyI (fun _ => 0) jjQ cyI (fun _ => 0) jjU cyI (fun _ => 0) jla cyI (fun _ => 0) jjy cyI (fun _ => 0) jkT cyI (fun _ => 0) jmE cyI (fun _ => 0)) := hD
  refine va_putF (D := (dC, dI)) (ci := 2) (v := .ref jmE) (ty := .array .int) (C := RX2) (T := TX2) (N := 12) hx hb hts qwU tyX2 tyX2_ok nmX2 hown hK hP hD hS 0 rfl rfl 7 (by decide) (hts _ qaIn) (fun _ h9 => h9) rfl hin rfl (by decide +kernel) rfl rfl (nbq rfl) (qaa qahr 0 rfl) (fun H locs hP hD hS => ?_)
  have hP : va_P (dC, dI) vwCl (qaZa a0 jhb jhj jjQ jjU jla jjy jkT jmE 0 0 0 0 jhb cyI (fun _ => 0) jhj cyI (fun _ => 0) jjQ cyI (fun _ => 0) jjU cyI (fun _ => 0) jla cyI (fun _ => 0) jjy cyI (fun _ => 0) jkT cyI (fun _ => 0) jmE cyI (fun _ => 0)) H := hP
  have hD : va_D A (qaZa a0 jhb jhj jjQ jjU jla jjy jkT jmE 0 0 0 0 jhb cyI (fun _ => 0) jhj cyI (fun _ => 0) jjQ cyI (fun _ => 0) jjU cyI (fun _ => 0) jla cyI (fun _ => 0) jjy cyI (fun _ => 0) jkT cyI (fun _ => 0) jmE cyI (fun _ => 0)) := hD
  exact (W.widen (k := 8) (n := 80) (nbq rfl) (nbq rfl) (W.vret hx hb hr (fun t ht hW => ⟨⟨(adr [jhb, jhj, jjQ, jjU, jla, jjy, jkT, jmE]), rfl, hw, by rw [ht]; exact hP, va_K.moved hW.alike hK, hD⟩, hS.F ht⟩) hS.2.2 (qaa qahr 1 rfl)))
theorem qN3 : ∀ w ∈ u_ws RX4 TX4 5, w ∈ wsX4_init := uiM qCd euX4 (by decide +kernel)
theorem qEA : (.arrayClass .int : Cond) ∈ wsX4_init := qCd 147 (by decide +kernel)
theorem qayV : (.code objectInit ⟨#[0xb1]⟩ 1 none : Cond) ∈ wsX4_init := qCd 12 (by decide +kernel)
theorem qaJW : (.fieldLink RX4 15 "MarchHares$Law" "values" "[I" : Cond) ∈ wsX4_init := qCd 201 (by decide +kernel)
theorem qaGe : (.fieldLink RX4 18 "MarchHares$Law" "pile" "[I" : Cond) ∈ wsX4_init := qCd 202 (by decide +kernel)
theorem qaFD : (.fieldLink RX4 21 "MarchHares$Law" "facts" "[I" : Cond) ∈ wsX4_init := qCd 203 (by decide +kernel)
theorem qaSH : (.fieldLink RX4 9 "MarchHares$Law" "kinds" "[I" : Cond) ∈ wsX4_init := qCd 200 (by decide +kernel)
theorem qapM : (.instanceMethod objectInit : Cond) ∈ wsX4_init := qCd 11 (by decide +kernel)
theorem qaSm : (.methodLink RX4 3 objectInit : Cond) ∈ wsX4_init := qCd 199 (by decide +kernel)
set_option maxHeartbeats 4000000 in
set_option maxRecDepth 100000 in
theorem qaLT (l : Launch) (dC : Nat → ClassId) (dI : Nat → Nat → Nat) (cyB cyI cyJ cyP : ClassId) (a0 sz : Nat) {Q : Int32 → NI → NI → Prop} (hw : qanr Q) : Met l yX4_init wsX4_init ({ frames := 2, cells := 4, slots := 458, locals := 42 }) (va_Pc [.ref a0] (cPc (dC, dI) (kT cyB cyI cyJ cyP) (qamk a0 0) sz)) (va_Qv (fun (u : (Nat → Nat) × (Int32) × NI × NI) => Q u.2.1 u.2.2.1 u.2.2.2) (cB (dC, dI) (kT cyB cyI cyJ cyP) (va_A (qamk a0 0) sz) (fun u : (Nat → Nat) × (Int32) × NI × NI => ((qamZ a0 (u.1 0) (u.1 1) (u.1 2) (u.1 3) u.2.1 (u.1 0) cyI u.2.2.1 (u.1 1) cyI u.2.2.2 (u.1 2) cyI (fun _ => 0) (u.1 3) cyI (fun _ => 0)) : va_W))) (va_A (qamk a0 0) sz)) 4 458 (va_A (qamk a0 0) sz) := by
  refine Met.ofW (cc := cX4_init) (maxL := 1) (ret := none) (by decide) rfl ?_
  intro p e s m args below meth c s₁ B hml hv
  obtain ⟨rfl, hsz, hP, hK, hD0, hNw⟩ := hv
  have hx := B.exec
  have hb := B.bytes
  have hr := B.returns
  have hts := atoms_spec (ws := wsX4_init) B.pre
  have hown : s.vm.findClass RX4 = some m.cls := findClass_of_methodNamed B.named
  have hlocks := B.notSynchronized
  have hin : meth.name = "<init>" := (name_of_methodNamed B.named B.method).1
  subst hsz
  have hD := hD0.self (sz := s.heap.size)
  generalize hAe : va_A (qamk a0 0) s.heap.size = A at hD ⊢
  have hA : ∀ q : Nat, s.heap.size ≤ q → A q := fun q h => by rw [← hAe]; exact Or.inr h
  have hS : va_S A s.heap s.heap [] := va_S.rf
  have hP : va_P (dC, dI) vwCl (qamk a0 0) s.heap := hP
  have hl := lv_entry ([.ref a0]) (n := 1) (nbq rfl)
  rw [lg_entry_eq]
  generalize (lg_sl ([.ref a0]) ++ List.replicate (1 - (lg_sl ([.ref a0])).length) Slot.unset).toArray = ls at hl ⊢
  have hl : lv_has ls 1 [(0, .ref a0)] := hl
  clear hAe
  obtain ⟨H, hH⟩ : ∃ H, H = s.heap := ⟨_, rfl⟩
  rw [← hH] at hP ⊢
  have hS : va_S A s.heap H [] := by rw [hH]; exact va_S.rf
  refine lv_aload_n hx hb (qaa qSh 0 rfl) rfl (lv_at hl 0 rfl) ?_
  refine W.objInit hx hb hown (hts _ qaSm) (hts _ qapM) (hts _ qayV) rfl (by rw [hml]; exact hl.1) rfl (qaa qSh 1 rfl) (nbq rfl) (nbq rfl) ?_
  refine W.eq (g2 := F0 m 4 ls []) rfl ?_
  refine lv_aload_n hx hb (qaa qSh 2 rfl) rfl (lv_at hl 0 rfl) ?_
  refine lv_sipush (v := 150) hx hb (qaa qSh 3 rfl) (by decide) ?_
  refine va_newa (atype := .int) (ty := .int) (N' := 150) (a0 := (150, .inl (fun _ => 0))) hx hb (hts _ qEA) rfl hK hP hD hS hA (fun _ => rfl) (by decide) (by decide) (by decide) (nbq rfl) (nbq rfl) dX4_init_8 (fun jbU cA9 H hK9 hP hD hS => ?_)
  obtain rfl := qk3 hK9
  have hP : va_P (dC, dI) vwCl (qa87 a0 0 jbU cyI (fun _ => 0)) H := hP
  have hD : va_D A (qa87 a0 0 jbU cyI (fun _ => 0)) := hD
  refine va_putF (D := (dC, dI)) (ci := 4) (v := .ref jbU) (ty := .array .int) (C := RX4) (T := TX4) (N := 5) hx hb hts qN3 tyX4 tyX4_ok nmX4 hown hK hP hD hS 0 rfl rfl 0 (by decide) (hts _ qaSH) (fun _ h9 => h9) rfl hin rfl (by decide +kernel) rfl rfl (nbq rfl) (qaa qWC 0 rfl) (fun H locs hP hD hS => ?_)
  have hP : va_P (dC, dI) vwCl (qa5W a0 jbU 0 jbU cyI (fun _ => 0)) H := hP
  have hD : va_D A (qa5W a0 jbU 0 jbU cyI (fun _ => 0)) := hD
  refine lv_aload_n hx hb (qaa qWC 1 rfl) rfl (lv_at hl 0 rfl) ?_
  refine lv_sipush (v := 150) hx hb (qaa qWC 2 rfl) (by decide) ?_
  refine va_newa (atype := .int) (ty := .int) (N' := 150) (a0 := (150, .inl (fun _ => 0))) hx hb (hts _ qEA) rfl hK hP hD hS hA (fun _ => rfl) (by decide) (by decide) (by decide) (nbq rfl) (nbq rfl) dX4_init_17 (fun jcK cA9 H hK9 hP hD hS => ?_)
  obtain rfl := qk3 hK9
  have hP : va_P (dC, dI) vwCl (qa3b a0 jbU 0 jbU cyI (fun _ => 0) jcK cyI (fun _ => 0)) H := hP
  have hD : va_D A (qa3b a0 jbU 0 jbU cyI (fun _ => 0) jcK cyI (fun _ => 0)) := hD
  refine va_putF (D := (dC, dI)) (ci := 4) (v := .ref jcK) (ty := .array .int) (C := RX4) (T := TX4) (N := 5) hx hb hts qN3 tyX4 tyX4_ok nmX4 hown hK hP hD hS 0 rfl rfl 1 (by decide) (hts _ qaJW) (fun _ h9 => h9) rfl hin rfl (by decide +kernel) rfl rfl (nbq rfl) (qaa qXK 0 rfl) (fun H locs hP hD hS => ?_)
  have hP : va_P (dC, dI) vwCl (qa64 a0 jbU jcK 0 jbU cyI (fun _ => 0) jcK cyI (fun _ => 0)) H := hP
  have hD : va_D A (qa64 a0 jbU jcK 0 jbU cyI (fun _ => 0) jcK cyI (fun _ => 0)) := hD
  refine lv_aload_n hx hb (qaa qXK 1 rfl) rfl (lv_at hl 0 rfl) ?_
  refine lv_sipush (v := 150) hx hb (qaa qXK 2 rfl) (by decide) ?_
  refine va_newa (atype := .int) (ty := .int) (N' := 150) (a0 := (150, .inl (fun _ => 0))) hx hb (hts _ qEA) rfl hK hP hD hS hA (fun _ => rfl) (by decide) (by decide) (by decide) (nbq rfl) (nbq rfl) dX4_init_26 (fun jmH cA9 H hK9 hP hD hS => ?_)
  obtain rfl := qk3 hK9
  have hP : va_P (dC, dI) vwCl (qa7K a0 jbU jcK 0 jbU cyI (fun _ => 0) jcK cyI (fun _ => 0) jmH cyI (fun _ => 0)) H := hP
  have hD : va_D A (qa7K a0 jbU jcK 0 jbU cyI (fun _ => 0) jcK cyI (fun _ => 0) jmH cyI (fun _ => 0)) := hD
  refine va_putF (D := (dC, dI)) (ci := 4) (v := .ref jmH) (ty := .array .int) (C := RX4) (T := TX4) (N := 5) hx hb hts qN3 tyX4 tyX4_ok nmX4 hown hK hP hD hS 0 rfl rfl 2 (by decide) (hts _ qaGe) (fun _ h9 => h9) rfl hin rfl (by decide +kernel) rfl rfl (nbq rfl) (qaa qYs 0 rfl) (fun H locs hP hD hS => ?_)
  have hP : va_P (dC, dI) vwCl (qa4h a0 jbU jcK jmH 0 jbU cyI (fun _ => 0) jcK cyI (fun _ => 0) jmH cyI (fun _ => 0)) H := hP
  have hD : va_D A (qa4h a0 jbU jcK jmH 0 jbU cyI (fun _ => 0) jcK cyI (fun _ => 0) jmH cyI (fun _ => 0)) := hD
  refine lv_aload_n hx hb (qaa qYs 1 rfl) rfl (lv_at hl 0 rfl) ?_
  refine lv_bipush (v := 8) hx hb (qaa qYs 2 rfl) (by decide) ?_
  refine va_newa (atype := .int) (ty := .int) (N' := 8) (a0 := (8, .inl (fun _ => 0))) hx hb (hts _ qEA) rfl hK hP hD hS hA (fun _ => rfl) (by decide) (by decide) (by decide) (nbq rfl) (nbq rfl) dX4_init_34 (fun jbu cA9 H hK9 hP hD hS => ?_)
  obtain rfl := qk3 hK9
  have hP : va_P (dC, dI) vwCl (qa5K a0 jbU jcK jmH 0 jbU cyI (fun _ => 0) jcK cyI (fun _ => 0) jmH cyI (fun _ => 0) jbu cyI (fun _ => 0)) H := hP
  have hD : va_D A (qa5K a0 jbU jcK jmH 0 jbU cyI (fun _ => 0) jcK cyI (fun _ => 0) jmH cyI (fun _ => 0) jbu cyI (fun _ => 0)) := hD
  refine va_putF (D := (dC, dI)) (ci := 4) (v := .ref jbu) (ty := .array .int) (C := RX4) (T := TX4) (N := 5) hx hb hts qN3 tyX4 tyX4_ok nmX4 hown hK hP hD hS 0 rfl rfl 3 (by decide) (hts _ qaFD) (fun _ h9 => h9) rfl hin rfl (by decide +kernel) rfl rfl (nbq rfl) (qaa qOk 0 rfl) (fun H locs hP hD hS => ?_)
  have hP : va_P (dC, dI) vwCl (qamZ a0 jbU jcK jmH jbu 0 jbU cyI (fun _ => 0) jcK cyI (fun _ => 0) jmH cyI (fun _ => 0) jbu cyI (fun _ => 0)) H := hP
  have hD : va_D A (qamZ a0 jbU jcK jmH jbu 0 jbU cyI (fun _ => 0) jcK cyI (fun _ => 0) jmH cyI (fun _ => 0) jbu cyI (fun _ => 0)) := hD
  refine lv_aload_n hx hb (qaa qOk 1 rfl) rfl (lv_at hl 0 rfl) ?_
  obtain ⟨hCc, hPc, hDc, hFc⟩ := qac (ws' := (qa8j a0 jbU jcK jmH jbu 0 jbU cyI (fun _ => 0) jcK cyI (fun _ => 0))) hP hD hS hA [0, 1, 2] (by decide +kernel) rfl
  refine va_callv (va_runV (As := []) (rest := []) ⟨hx, hb, hml, hown, hts⟩ (q79 l dC dI cyB cyI cyJ cyP a0 jbU jcK H.size (.ref jmH) (.ref jbu) 0 (fun _ => 0) (fun _ => 0) hw) (cwV 0 hts gX4_init_X4_setPlain rfl rfl rfl (by decide +kernel) ⟨nbq rfl, nbq rfl⟩) ⟨qab, va_recv (q := (RX4, TX4, 5)) hK hPc (ci := 4) (q0 := 0) rfl rfl, qae hPc hK hDc hNw⟩ rfl rfl hl.1 rfl (lv_room (nbq rfl)) (qaa qOk 2 rfl) ⟨nbq rfl, nbq rfl⟩) hS (fun q _ h => hFc q h) hFc (fun u t H1 locs ht hvm hw hB hz1 hk1 hS => ?_)
  obtain ⟨x1, f2, f3⟩ := u
  obtain ⟨hP1, hK1, hD1⟩ := hB
  rw [ht] at hP1
  obtain ⟨hP, hD⟩ := qad (wr := [(jmH, .inl (cyI, 150, .inl (fun _ => 0))), (jbu, .inl (cyI, 8, .inl (fun _ => 0)))]) (w1 := (qa8j a0 jbU jcK jmH jbu x1 jbU cyI f2 jcK cyI f3)) (wn := (qamZ a0 jbU jcK jmH jbu x1 jbU cyI f2 jcK cyI f3 jmH cyI (fun _ => 0) jbu cyI (fun _ => 0))) hP hD [0, 1, 2] [3, 4] [2, 3, 4, 0, 1] hCc rfl (by decide +kernel) (by decide +kernel) (by decide +kernel) rfl hk1 hFc hP1 hD1
  generalize H1 = H at hP hS ⊢
  exact (W.widen (k := 4) (n := 458) (nbq rfl) (nbq rfl) (W.vret hx hb hr (fun t ht hW => ⟨⟨((adr [jbU, jcK, jmH, jbu]), x1, f2, f3), rfl, hw, by rw [ht]; exact hP, va_K.moved hW.alike hK, hD⟩, hS.F ht⟩) hS.2.2 (qaa qOk 3 rfl)))
theorem qCT : ∀ w ∈ u_ws RX9 TX9 12, w ∈ wsX9_init := uiM qBF euX9 (by decide +kernel)
theorem qww : (.arrayClass .int : Cond) ∈ wsX9_init := qBF 147 (by decide +kernel)
theorem qawG : (.code objectInit ⟨#[0xb1]⟩ 1 none : Cond) ∈ wsX9_init := qBF 12 (by decide +kernel)
theorem qaEQ : (.fieldLink RX9 11 "MarchHares$Work" "kinds" "[I" : Cond) ∈ wsX9_init := qBF 266 (by decide +kernel)
theorem qaJF : (.fieldLink RX9 15 "MarchHares$Work" "first" "[I" : Cond) ∈ wsX9_init := qBF 267 (by decide +kernel)
theorem qaJ6 : (.fieldLink RX9 18 "MarchHares$Work" "second" "[I" : Cond) ∈ wsX9_init := qBF 268 (by decide +kernel)
theorem qaGu : (.fieldLink RX9 21 "MarchHares$Work" "third" "[I" : Cond) ∈ wsX9_init := qBF 269 (by decide +kernel)
theorem qaFu : (.fieldLink RX9 24 "MarchHares$Work" "heads" "[I" : Cond) ∈ wsX9_init := qBF 270 (by decide +kernel)
theorem qaLa : (.fieldLink RX9 27 "MarchHares$Work" "rounds" "[I" : Cond) ∈ wsX9_init := qBF 271 (by decide +kernel)
theorem qauQ : (.instanceMethod objectInit : Cond) ∈ wsX9_init := qBF 11 (by decide +kernel)
theorem qaOv : (.methodLink RX9 3 objectInit : Cond) ∈ wsX9_init := qBF 265 (by decide +kernel)
set_option maxHeartbeats 4000000 in
set_option maxRecDepth 100000 in
theorem qa17 (l : Launch) (dC : Nat → ClassId) (dI : Nat → Nat → Nat) (cyB cyI cyJ cyP : ClassId) (a0 sz : Nat) {Q : Prop} (hw : qaMg Q) : Met l yX9_init wsX9_init ({ frames := 1, cells := 6, slots := 212, locals := 24 }) (va_Pc [.ref a0] (cPc (dC, dI) (kT cyB cyI cyJ cyP) (qakc a0 0 0 0 0 0 0) sz)) (va_Qv (fun (u : (Nat → Nat)) => Q ) (cB (dC, dI) (kT cyB cyI cyJ cyP) (va_A (qakc a0 0 0 0 0 0 0) sz) (fun u : (Nat → Nat) => ((qaX3 a0 (u 0) (u 1) (u 2) (u 3) (u 4) (u 5) 0 0 0 0 0 0 (u 0) cyI (fun _ => 0) (u 1) cyI (fun _ => 0) (u 2) cyI (fun _ => 0) (u 3) cyI (fun _ => 0) (u 4) cyI (fun _ => 0) (u 5) cyI (fun _ => 0)) : va_W))) (va_A (qakc a0 0 0 0 0 0 0) sz)) 6 212 (va_A (qakc a0 0 0 0 0 0 0) sz) := by
  refine Met.ofW (cc := cX9_init) (maxL := 1) (ret := none) (by decide) rfl ?_
  intro p e s m args below meth c s₁ B hml hv
  obtain ⟨rfl, hsz, hP, hK, hD0, hNw⟩ := hv
  have hx := B.exec
  have hb := B.bytes
  have hr := B.returns
  have hts := atoms_spec (ws := wsX9_init) B.pre
  have hown : s.vm.findClass RX9 = some m.cls := findClass_of_methodNamed B.named
  have hlocks := B.notSynchronized
  have hin : meth.name = "<init>" := (name_of_methodNamed B.named B.method).1
  subst hsz
  have hD := hD0.self (sz := s.heap.size)
  generalize hAe : va_A (qakc a0 0 0 0 0 0 0) s.heap.size = A at hD ⊢
  have hA : ∀ q : Nat, s.heap.size ≤ q → A q := fun q h => by rw [← hAe]; exact Or.inr h
  have hS : va_S A s.heap s.heap [] := va_S.rf
  have hP : va_P (dC, dI) vwCl (qakc a0 0 0 0 0 0 0) s.heap := hP
  have hl := lv_entry ([.ref a0]) (n := 1) (nbq rfl)
  rw [lg_entry_eq]
  generalize (lg_sl ([.ref a0]) ++ List.replicate (1 - (lg_sl ([.ref a0])).length) Slot.unset).toArray = ls at hl ⊢
  have hl : lv_has ls 1 [(0, .ref a0)] := hl
  clear hAe
  obtain ⟨H, hH⟩ : ∃ H, H = s.heap := ⟨_, rfl⟩
  rw [← hH] at hP ⊢
  have hS : va_S A s.heap H [] := by rw [hH]; exact va_S.rf
  refine lv_aload_n hx hb (qaa qSg 0 rfl) rfl (lv_at hl 0 rfl) ?_
  refine W.objInit hx hb hown (hts _ qaOv) (hts _ qauQ) (hts _ qawG) rfl (by rw [hml]; exact hl.1) rfl (qaa qSg 1 rfl) (nbq rfl) (nbq rfl) ?_
  refine W.eq (g2 := F0 m 4 ls []) rfl ?_
  refine lv_aload_n hx hb (qaa qSg 2 rfl) rfl (lv_at hl 0 rfl) ?_
  refine lv_bipush (v := 50) hx hb (qaa qSg 3 rfl) (by decide) ?_
  refine va_newa (atype := .int) (ty := .int) (N' := 50) (a0 := (50, .inl (fun _ => 0))) hx hb (hts _ qww) rfl hK hP hD hS hA (fun _ => rfl) (by decide) (by decide) (by decide) (nbq rfl) (nbq rfl) dX9_init_7 (fun jbU cA9 H hK9 hP hD hS => ?_)
  obtain rfl := qk3 hK9
  have hP : va_P (dC, dI) vwCl (qbax a0 0 0 0 0 0 0 jbU cyI (fun _ => 0)) H := hP
  have hD : va_D A (qbax a0 0 0 0 0 0 0 jbU cyI (fun _ => 0)) := hD
  refine va_putF (D := (dC, dI)) (ci := 9) (v := .ref jbU) (ty := .array .int) (C := RX9) (T := TX9) (N := 12) hx hb hts qCT tyX9 tyX9_ok nmX9 hown hK hP hD hS 0 rfl rfl 0 (by decide) (hts _ qaEQ) (fun _ h9 => h9) rfl hin rfl (by decide +kernel) rfl rfl (nbq rfl) (qaa q3s 0 rfl) (fun H locs hP hD hS => ?_)
  have hP : va_P (dC, dI) vwCl (qa7u a0 jbU 0 0 0 0 0 0 jbU cyI (fun _ => 0)) H := hP
  have hD : va_D A (qa7u a0 jbU 0 0 0 0 0 0 jbU cyI (fun _ => 0)) := hD
  refine lv_aload_n hx hb (qaa q3s 1 rfl) rfl (lv_at hl 0 rfl) ?_
  refine lv_bipush (v := 50) hx hb (qaa q3s 2 rfl) (by decide) ?_
  refine va_newa (atype := .int) (ty := .int) (N' := 50) (a0 := (50, .inl (fun _ => 0))) hx hb (hts _ qww) rfl hK hP hD hS hA (fun _ => rfl) (by decide) (by decide) (by decide) (nbq rfl) (nbq rfl) dX9_init_15 (fun jgD cA9 H hK9 hP hD hS => ?_)
  obtain rfl := qk3 hK9
  have hP : va_P (dC, dI) vwCl (qa93 a0 jbU 0 0 0 0 0 0 jbU cyI (fun _ => 0) jgD cyI (fun _ => 0)) H := hP
  have hD : va_D A (qa93 a0 jbU 0 0 0 0 0 0 jbU cyI (fun _ => 0) jgD cyI (fun _ => 0)) := hD
  refine va_putF (D := (dC, dI)) (ci := 9) (v := .ref jgD) (ty := .array .int) (C := RX9) (T := TX9) (N := 12) hx hb hts qCT tyX9 tyX9_ok nmX9 hown hK hP hD hS 0 rfl rfl 1 (by decide) (hts _ qaJF) (fun _ h9 => h9) rfl hin rfl (by decide +kernel) rfl rfl (nbq rfl) (qaa qW9 0 rfl) (fun H locs hP hD hS => ?_)
  have hP : va_P (dC, dI) vwCl (qa99 a0 jbU jgD 0 0 0 0 0 0 jbU cyI (fun _ => 0) jgD cyI (fun _ => 0)) H := hP
  have hD : va_D A (qa99 a0 jbU jgD 0 0 0 0 0 0 jbU cyI (fun _ => 0) jgD cyI (fun _ => 0)) := hD
  refine lv_aload_n hx hb (qaa qW9 1 rfl) rfl (lv_at hl 0 rfl) ?_
  refine lv_bipush (v := 50) hx hb (qaa qW9 2 rfl) (by decide) ?_
  refine va_newa (atype := .int) (ty := .int) (N' := 50) (a0 := (50, .inl (fun _ => 0))) hx hb (hts _ qww) rfl hK hP hD hS hA (fun _ => rfl) (by decide) (by decide) (by decide) (nbq rfl) (nbq rfl) dX9_init_23 (fun jgh cA9 H hK9 hP hD hS => ?_)
  obtain rfl := qk3 hK9
  have hP : va_P (dC, dI) vwCl (qa9x a0 jbU jgD 0 0 0 0 0 0 jbU cyI (fun _ => 0) jgD cyI (fun _ => 0) jgh cyI (fun _ => 0)) H := hP
  have hD : va_D A (qa9x a0 jbU jgD 0 0 0 0 0 0 jbU cyI (fun _ => 0) jgD cyI (fun _ => 0) jgh cyI (fun _ => 0)) := hD
  refine va_putF (D := (dC, dI)) (ci := 9) (v := .ref jgh) (ty := .array .int) (C := RX9) (T := TX9) (N := 12) hx hb hts qCT tyX9 tyX9_ok nmX9 hown hK hP hD hS 0 rfl rfl 2 (by decide) (hts _ qaJ6) (fun _ h9 => h9) rfl hin rfl (by decide +kernel) rfl rfl (nbq rfl) (qaa qXo 0 rfl) (fun H locs hP hD hS => ?_)
  have hP : va_P (dC, dI) vwCl (qa4I a0 jbU jgD jgh 0 0 0 0 0 0 jbU cyI (fun _ => 0) jgD cyI (fun _ => 0) jgh cyI (fun _ => 0)) H := hP
  have hD : va_D A (qa4I a0 jbU jgD jgh 0 0 0 0 0 0 jbU cyI (fun _ => 0) jgD cyI (fun _ => 0) jgh cyI (fun _ => 0)) := hD
  refine lv_aload_n hx hb (qaa qXo 1 rfl) rfl (lv_at hl 0 rfl) ?_
  refine lv_bipush (v := 50) hx hb (qaa qXo 2 rfl) (by decide) ?_
  refine va_newa (atype := .int) (ty := .int) (N' := 50) (a0 := (50, .inl (fun _ => 0))) hx hb (hts _ qww) rfl hK hP hD hS hA (fun _ => rfl) (by decide) (by decide) (by decide) (nbq rfl) (nbq rfl) dX9_init_31 (fun jho cA9 H hK9 hP hD hS => ?_)
  obtain rfl := qk3 hK9
  have hP : va_P (dC, dI) vwCl (qa8A a0 jbU jgD jgh 0 0 0 0 0 0 jbU cyI (fun _ => 0) jgD cyI (fun _ => 0) jgh cyI (fun _ => 0) jho cyI (fun _ => 0)) H := hP
  have hD : va_D A (qa8A a0 jbU jgD jgh 0 0 0 0 0 0 jbU cyI (fun _ => 0) jgD cyI (fun _ => 0) jgh cyI (fun _ => 0) jho cyI (fun _ => 0)) := hD
  refine va_putF (D := (dC, dI)) (ci := 9) (v := .ref jho) (ty := .array .int) (C := RX9) (T := TX9) (N := 12) hx hb hts qCT tyX9 tyX9_ok nmX9 hown hK hP hD hS 0 rfl rfl 3 (by decide) (hts _ qaGu) (fun _ h9 => h9) rfl hin rfl (by decide +kernel) rfl rfl (nbq rfl) (qaa qYe 0 rfl) (fun H locs hP hD hS => ?_)
  have hP : va_P (dC, dI) vwCl (qa80 a0 jbU jgD jgh jho 0 0 0 0 0 0 jbU cyI (fun _ => 0) jgD cyI (fun _ => 0) jgh cyI (fun _ => 0) jho cyI (fun _ => 0)) H := hP
  have hD : va_D A (qa80 a0 jbU jgD jgh jho 0 0 0 0 0 0 jbU cyI (fun _ => 0) jgD cyI (fun _ => 0) jgh cyI (fun _ => 0) jho cyI (fun _ => 0)) := hD
  refine lv_aload_n hx hb (qaa qYe 1 rfl) rfl (lv_at hl 0 rfl) ?_
  refine lv_bipush (v := 6) hx hb (qaa qYe 2 rfl) (by decide) ?_
  refine va_newa (atype := .int) (ty := .int) (N' := 6) (a0 := (6, .inl (fun _ => 0))) hx hb (hts _ qww) rfl hK hP hD hS hA (fun _ => rfl) (by decide) (by decide) (by decide) (nbq rfl) (nbq rfl) dX9_init_39 (fun jju cA9 H hK9 hP hD hS => ?_)
  obtain rfl := qk3 hK9
  have hP : va_P (dC, dI) vwCl (qa4b a0 jbU jgD jgh jho 0 0 0 0 0 0 jbU cyI (fun _ => 0) jgD cyI (fun _ => 0) jgh cyI (fun _ => 0) jho cyI (fun _ => 0) jju cyI (fun _ => 0)) H := hP
  have hD : va_D A (qa4b a0 jbU jgD jgh jho 0 0 0 0 0 0 jbU cyI (fun _ => 0) jgD cyI (fun _ => 0) jgh cyI (fun _ => 0) jho cyI (fun _ => 0) jju cyI (fun _ => 0)) := hD
  refine va_putF (D := (dC, dI)) (ci := 9) (v := .ref jju) (ty := .array .int) (C := RX9) (T := TX9) (N := 12) hx hb hts qCT tyX9 tyX9_ok nmX9 hown hK hP hD hS 0 rfl rfl 4 (by decide) (hts _ qaFu) (fun _ h9 => h9) rfl hin rfl (by decide +kernel) rfl rfl (nbq rfl) (qaa qXY 0 rfl) (fun H locs hP hD hS => ?_)
  have hP : va_P (dC, dI) vwCl (qa61 a0 jbU jgD jgh jho jju 0 0 0 0 0 0 jbU cyI (fun _ => 0) jgD cyI (fun _ => 0) jgh cyI (fun _ => 0) jho cyI (fun _ => 0) jju cyI (fun _ => 0)) H := hP
  have hD : va_D A (qa61 a0 jbU jgD jgh jho jju 0 0 0 0 0 0 jbU cyI (fun _ => 0) jgD cyI (fun _ => 0) jgh cyI (fun _ => 0) jho cyI (fun _ => 0) jju cyI (fun _ => 0)) := hD
  refine lv_aload_n hx hb (qaa qXY 1 rfl) rfl (lv_at hl 0 rfl) ?_
  refine lv_bipush (v := 6) hx hb (qaa qXY 2 rfl) (by decide) ?_
  refine va_newa (atype := .int) (ty := .int) (N' := 6) (a0 := (6, .inl (fun _ => 0))) hx hb (hts _ qww) rfl hK hP hD hS hA (fun _ => rfl) (by decide) (by decide) (by decide) (nbq rfl) (nbq rfl) dX9_init_47 (fun jlw cA9 H hK9 hP hD hS => ?_)
  obtain rfl := qk3 hK9
  have hP : va_P (dC, dI) vwCl (qa4Z a0 jbU jgD jgh jho jju 0 0 0 0 0 0 jbU cyI (fun _ => 0) jgD cyI (fun _ => 0) jgh cyI (fun _ => 0) jho cyI (fun _ => 0) jju cyI (fun _ => 0) jlw cyI (fun _ => 0)) H := hP
  have hD : va_D A (qa4Z a0 jbU jgD jgh jho jju 0 0 0 0 0 0 jbU cyI (fun _ => 0) jgD cyI (fun _ => 0) jgh cyI (fun _ => 0) jho cyI (fun _ => 0) jju cyI (fun _ => 0) jlw cyI (fun _ => 0)) := hD
  refine va_putF (D := (dC, dI)) (ci := 9) (v := .ref jlw) (ty := .array .int) (C := RX9) (T := TX9) (N := 12) hx hb hts qCT tyX9 tyX9_ok nmX9 hown hK hP hD hS 0 rfl rfl 5 (by decide) (hts _ qaLa) (fun _ h9 => h9) rfl hin rfl (by decide +kernel) rfl rfl (nbq rfl) (qaa qaf0 0 rfl) (fun H locs hP hD hS => ?_)
  have hP : va_P (dC, dI) vwCl (qaX3 a0 jbU jgD jgh jho jju jlw 0 0 0 0 0 0 jbU cyI (fun _ => 0) jgD cyI (fun _ => 0) jgh cyI (fun _ => 0) jho cyI (fun _ => 0) jju cyI (fun _ => 0) jlw cyI (fun _ => 0)) H := hP
  have hD : va_D A (qaX3 a0 jbU jgD jgh jho jju jlw 0 0 0 0 0 0 jbU cyI (fun _ => 0) jgD cyI (fun _ => 0) jgh cyI (fun _ => 0) jho cyI (fun _ => 0) jju cyI (fun _ => 0) jlw cyI (fun _ => 0)) := hD
  exact (W.widen (k := 6) (n := 212) (nbq rfl) (nbq rfl) (W.vret hx hb hr (fun t ht hW => ⟨⟨(adr [jbU, jgD, jgh, jho, jju, jlw]), rfl, hw, by rw [ht]; exact hP, va_K.moved hW.alike hK, hD⟩, hS.F ht⟩) hS.2.2 (qaa qaf0 1 rfl)))
theorem qag4 : ∀ w ∈ u_ws RX1 TX1 4, w ∈ wsX1_init := uiM qHi qWc (by decide +kernel)
theorem qYX : (.arrayClass .int : Cond) ∈ wsX1_init := qHi 147 (by decide +kernel)
theorem qawo : (.code objectInit ⟨#[0xb1]⟩ 1 none : Cond) ∈ wsX1_init := qHi 12 (by decide +kernel)
theorem qaGP : (.fieldLink RX1 13 "MarchHares$Days" "row" "[I" : Cond) ∈ wsX1_init := qHi 276 (by decide +kernel)
theorem qaK2 : (.fieldLink RX1 17 "MarchHares$Days" "owedEach" "[I" : Cond) ∈ wsX1_init := qHi 277 (by decide +kernel)
theorem qauf : (.instanceMethod objectInit : Cond) ∈ wsX1_init := qHi 11 (by decide +kernel)
theorem qaOS : (.methodLink RX1 7 objectInit : Cond) ∈ wsX1_init := qHi 275 (by decide +kernel)
set_option maxHeartbeats 4000000 in
set_option maxRecDepth 100000 in
theorem qaMp (l : Launch) (dC : Nat → ClassId) (dI : Nat → Nat → Nat) (cyB cyI cyJ cyP : ClassId) (a0 a1 a2 jmO jnd jmh sz : Nat) (jov jow jlD jlE jlF jnY jlf jlG : Value) (jnS : Int32) (jnV joi jmW : NI) {Q : NI → Prop} (hw : qamj jnS jnV joi jmW Q) : Met l yX1_init wsX1_init ({ frames := 2, cells := 2, slots := 70, locals := 63 }) (va_Pc [.ref a0, .ref a1, .ref a2] (cPc (dC, dI) (kT cyB cyI cyJ cyP) (qamF a0 a1 jov jow jlD jlE jnd jmh jmO jlF jnY jnS jlf jlG jmO cyI jnV jnd cyI joi jmh cyI jmW) sz)) (va_Qv (fun (u : (Nat → Nat) × NI) => Q u.2) (cB (dC, dI) (kT cyB cyI cyJ cyP) (va_A (qamF a0 a1 jov jow jlD jlE jnd jmh jmO jlF jnY jnS jlf jlG jmO cyI jnV jnd cyI joi jmh cyI jmW) sz) (fun u : (Nat → Nat) × NI => ((qa71 a0 (u.1 0) (u.1 1) a1 a2 a1 jov jow jlD jlE jnd jmh jmO jlF jnY jnS jlf jlG jmO cyI jnV jnd cyI joi jmh cyI jmW (u.1 0) cyI u.2 (u.1 1) cyI (fun _ => 0)) : va_W))) (va_A (qamF a0 a1 jov jow jlD jlE jnd jmh jmO jlF jnY jnS jlf jlG jmO cyI jnV jnd cyI joi jmh cyI jmW) sz)) 2 70 (va_A (qamF a0 a1 jov jow jlD jlE jnd jmh jmO jlF jnY jnS jlf jlG jmO cyI jnV jnd cyI joi jmh cyI jmW) sz) := by
  refine Met.ofW (cc := cX1_init) (maxL := 3) (ret := none) (by decide) rfl ?_
  intro p e s m args below meth c s₁ B hml hv
  obtain ⟨rfl, hsz, hP, hK, hD0, hNw⟩ := hv
  have hx := B.exec
  have hb := B.bytes
  have hr := B.returns
  have hts := atoms_spec (ws := wsX1_init) B.pre
  have hown : s.vm.findClass RX1 = some m.cls := findClass_of_methodNamed B.named
  have hlocks := B.notSynchronized
  have hin : meth.name = "<init>" := (name_of_methodNamed B.named B.method).1
  subst hsz
  have hD := hD0.self (sz := s.heap.size)
  generalize hAe : va_A (qamF a0 a1 jov jow jlD jlE jnd jmh jmO jlF jnY jnS jlf jlG jmO cyI jnV jnd cyI joi jmh cyI jmW) s.heap.size = A at hD ⊢
  have hA : ∀ q : Nat, s.heap.size ≤ q → A q := fun q h => by rw [← hAe]; exact Or.inr h
  have hS : va_S A s.heap s.heap [] := va_S.rf
  have hP : va_P (dC, dI) vwCl (qamF a0 a1 jov jow jlD jlE jnd jmh jmO jlF jnY jnS jlf jlG jmO cyI jnV jnd cyI joi jmh cyI jmW) s.heap := hP
  have hl := lv_entry ([.ref a0, .ref a1, .ref a2]) (n := 3) (nbq rfl)
  rw [lg_entry_eq]
  generalize (lg_sl ([.ref a0, .ref a1, .ref a2]) ++ List.replicate (3 - (lg_sl ([.ref a0, .ref a1, .ref a2])).length) Slot.unset).toArray = ls at hl ⊢
  have hl : lv_has ls 3 [(0, .ref a0), (1, .ref a1), (2, .ref a2)] := hl
  clear hAe
  obtain ⟨H, hH⟩ : ∃ H, H = s.heap := ⟨_, rfl⟩
  rw [← hH] at hP ⊢
  have hS : va_S A s.heap H [] := by rw [hH]; exact va_S.rf
  refine lv_aload_n hx hb (qaa qST 0 rfl) rfl (lv_at hl 0 rfl) ?_
  refine W.objInit hx hb hown (hts _ qaOS) (hts _ qauf) (hts _ qawo) rfl (by rw [hml]; exact hl.1) rfl (qaa qST 1 rfl) (nbq rfl) (nbq rfl) ?_
  refine W.eq (g2 := F0 m 4 ls []) rfl ?_
  refine lv_aload_n hx hb (qaa qST 2 rfl) rfl (lv_at hl 0 rfl) ?_
  refine lv_bipush (v := 64) hx hb (qaa qST 3 rfl) (by decide) ?_
  refine va_newa (atype := .int) (ty := .int) (N' := 64) (a0 := (64, .inl (fun _ => 0))) hx hb (hts _ qYX) rfl hK hP hD hS hA (fun _ => rfl) (by decide) (by decide) (by decide) (nbq rfl) (nbq rfl) dX1_init_7 (fun jch cA9 H hK9 hP hD hS => ?_)
  obtain rfl := qk3 hK9
  have hP : va_P (dC, dI) vwCl (qbaO a0 a1 jov jow jlD jlE jnd jmh jmO jlF jnY jnS jlf jlG jmO cyI jnV jnd cyI joi jmh cyI jmW jch cyI (fun _ => 0)) H := hP
  have hD : va_D A (qbaO a0 a1 jov jow jlD jlE jnd jmh jmO jlF jnY jnS jlf jlG jmO cyI jnV jnd cyI joi jmh cyI jmW jch cyI (fun _ => 0)) := hD
  refine va_putF (D := (dC, dI)) (ci := 1) (v := .ref jch) (ty := .array .int) (C := RX1) (T := TX1) (N := 4) hx hb hts qag4 tyX1 tyX1_ok nmX1 hown hK hP hD hS 0 rfl rfl 0 (by decide) (hts _ qaGP) (fun _ h9 => h9) rfl hin rfl (by decide +kernel) rfl rfl (nbq rfl) (qaa q1u 0 rfl) (fun H locs hP hD hS => ?_)
  have hP : va_P (dC, dI) vwCl (qbab a0 jch a1 jov jow jlD jlE jnd jmh jmO jlF jnY jnS jlf jlG jmO cyI jnV jnd cyI joi jmh cyI jmW jch cyI (fun _ => 0)) H := hP
  have hD : va_D A (qbab a0 jch a1 jov jow jlD jlE jnd jmh jmO jlF jnY jnS jlf jlG jmO cyI jnV jnd cyI joi jmh cyI jmW jch cyI (fun _ => 0)) := hD
  refine lv_aload_n hx hb (qaa q1u 1 rfl) rfl (lv_at hl 0 rfl) ?_
  refine lv_bipush (v := 6) hx hb (qaa q1u 2 rfl) (by decide) ?_
  refine va_newa (atype := .int) (ty := .int) (N' := 6) (a0 := (6, .inl (fun _ => 0))) hx hb (hts _ qYX) rfl hK hP hD hS hA (fun _ => rfl) (by decide) (by decide) (by decide) (nbq rfl) (nbq rfl) dX1_init_15 (fun jlN cA9 H hK9 hP hD hS => ?_)
  obtain rfl := qk3 hK9
  have hP : va_P (dC, dI) vwCl (qa9q a0 jch a1 jov jow jlD jlE jnd jmh jmO jlF jnY jnS jlf jlG jmO cyI jnV jnd cyI joi jmh cyI jmW jch cyI (fun _ => 0) jlN cyI (fun _ => 0)) H := hP
  have hD : va_D A (qa9q a0 jch a1 jov jow jlD jlE jnd jmh jmO jlF jnY jnS jlf jlG jmO cyI jnV jnd cyI joi jmh cyI jmW jch cyI (fun _ => 0) jlN cyI (fun _ => 0)) := hD
  refine va_putF (D := (dC, dI)) (ci := 1) (v := .ref jlN) (ty := .array .int) (C := RX1) (T := TX1) (N := 4) hx hb hts qag4 tyX1 tyX1_ok nmX1 hown hK hP hD hS 0 rfl rfl 1 (by decide) (hts _ qaK2) (fun _ h9 => h9) rfl hin rfl (by decide +kernel) rfl rfl (nbq rfl) (qaa qCU 0 rfl) (fun H locs hP hD hS => ?_)
  have hP : va_P (dC, dI) vwCl (qa1e a0 jch jlN a1 jov jow jlD jlE jnd jmh jmO jlF jnY jnS jlf jlG jmO cyI jnV jnd cyI joi jmh cyI jmW jch cyI (fun _ => 0) jlN cyI (fun _ => 0)) H := hP
  have hD : va_D A (qa1e a0 jch jlN a1 jov jow jlD jlE jnd jmh jmO jlF jnY jnS jlf jlG jmO cyI jnV jnd cyI joi jmh cyI jmW jch cyI (fun _ => 0) jlN cyI (fun _ => 0)) := hD
  refine lv_aload_n hx hb (qaa qCU 1 rfl) rfl (lv_at hl 0 rfl) ?_
  refine lv_aload_n hx hb (qaa qCU 2 rfl) rfl (lv_at hl 1 rfl) ?_
  refine lv_aload_n hx hb (qaa qCU 3 rfl) rfl (lv_at hl 2 rfl) ?_
  obtain ⟨hCc, hPc, hDc, hFc⟩ := qac (ws' := (qbcb a0 jch jlN jch cyI (fun _ => 0) a1 jov jow jlD jlE jnd jmh jmO jlF jnY jnS jlf jlG jmO cyI jnV jnd cyI joi jmh cyI jmW)) hP hD hS hA [0, 5, 1, 2, 3, 4] (by decide +kernel) rfl
  refine va_callv (va_runV (As := [.ref a1, .ref a2]) (rest := []) ⟨hx, hb, hml, hown, hts⟩ (qazr l dC dI cyB cyI cyJ cyP a0 a1 a2 jch jmO jnd jmh H.size (.ref jlN) (.null) (.null) (jov) (jow) (jlD) (jlE) (jlF) (jnY) (jlf) (jlG) jnS jnV joi jmW (fun _ => 0) hw) (cwV 2 hts gX1_init_X1_begin rfl rfl rfl (by decide +kernel) ⟨nbq rfl, nbq rfl⟩) ⟨qab, va_recv (q := (RX1, TX1, 4)) hK hPc (ci := 1) (q0 := 0) rfl rfl, qae hPc hK hDc hNw⟩ rfl rfl hl.1 rfl (lv_room (nbq rfl)) (qaa qCU 4 rfl) ⟨nbq rfl, nbq rfl⟩) hS (fun q _ h => hFc q h) hFc (fun u t H1 locs ht hvm hw hB hz1 hk1 hS => ?_)
  obtain ⟨f1, rfl⟩ : ∃ z, z = u := ⟨_, rfl⟩
  obtain ⟨hP1, hK1, hD1⟩ := hB
  rw [ht] at hP1
  obtain ⟨hP, hD⟩ := qad (wr := (qa5Y jlN cyI (fun _ => 0))) (w1 := [(a0, .inr (1, [.ref jch, .ref jlN, .ref a1, .ref a2])), (jch, .inl (cyI, 64, .inl f1)), (a1, .inr (2, [jov, jow, jlD, jlE, .ref jnd, .ref jmh, .ref jmO, jlF, jnY, .int jnS, jlf, jlG])), (jmO, .inl (cyI, 36, .inl jnV)), (jnd, .inl (cyI, 6, .inl joi)), (jmh, .inl (cyI, 6, .inl jmW))]) (wn := (qa71 a0 jch jlN a1 a2 a1 jov jow jlD jlE jnd jmh jmO jlF jnY jnS jlf jlG jmO cyI jnV jnd cyI joi jmh cyI jmW jch cyI f1 jlN cyI (fun _ => 0))) hP hD [0, 5, 1, 2, 3, 4] [6] [1, 3, 4, 5, 6, 2, 0] hCc rfl (by decide +kernel) (by decide +kernel) (by decide +kernel) rfl hk1 hFc hP1 hD1
  generalize H1 = H at hP hS ⊢
  exact (W.widen (k := 2) (n := 70) (nbq rfl) (nbq rfl) (W.vret hx hb hr (fun t ht hW => ⟨⟨((adr [jch, jlN]), f1), rfl, hw, by rw [ht]; exact hP, va_K.moved hW.alike hK, hD⟩, hS.F ht⟩) hS.2.2 (qaa qCU 5 rfl)))
