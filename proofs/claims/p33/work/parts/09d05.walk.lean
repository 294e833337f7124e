/-- worlds by their leaves -/
def qJg (x0 : Nat) (x1 x2 x3 x4 x5 x6 x7 : Value) (x8 : Nat) (x9 : Int32) (x10 x11 x12 : Value) (x13 : Nat) (x14 : ClassId) (x15 : NI) : va_W := [(x0, .inr (2, [x1, x2, x3, x4, x5, x6, x7, .ref x8, .int x9, x10, x11, x12])), (x13, .inl (x14, 8, .inl x15))]
def qvU (x0 x1 x2 : Nat) (x3 x4 x5 x6 x7 : Value) (x8 : Nat) (x9 : Int32) (x10 x11 x12 : Value) (x13 : Nat) (x14 : ClassId) (x15 : NI) (x16 : Nat) (x17 : ClassId) (x18 : NI) (x19 : Nat) (x20 : ClassId) (x21 : NI) : va_W := [(x0, .inr (2, [.ref x1, .ref x2, x3, x4, x5, x6, x7, .ref x8, .int x9, x10, x11, x12])), (x13, .inl (x14, 8, .inl x15)), (x16, .inl (x17, 8, .inl x18)), (x19, .inl (x20, 8, .inl x21))]
def qbcw (x0 x1 x2 : Nat) (x3 x4 x5 x6 x7 : Value) (x8 : Nat) (x9 : Int32) (x10 x11 x12 : Value) (x13 : Nat) (x14 : ClassId) (x15 : NI) : va_W := [(x0, .inr (2, [.ref x1, .ref x2, x3, x4, x5, x6, x7, .ref x8, .int x9, x10, x11, x12])), (x13, .inl (x14, 8, .inl x15))]
def qbeg (x0 x1 x2 : Nat) (x3 x4 x5 x6 x7 : Value) (x8 : Nat) (x9 : Int32) (x10 x11 x12 : Value) (x13 : Nat) (x14 : ClassId) (x15 : NI) (x16 : Nat) (x17 : ClassId) (x18 : NI) : va_W := [(x0, .inr (2, [.ref x1, .ref x2, x3, x4, x5, x6, x7, .ref x8, .int x9, x10, x11, x12])), (x13, .inl (x14, 8, .inl x15)), (x16, .inl (x17, 8, .inl x18))]
def qNB (x0 : Nat) (x1 : Value) (x2 : Nat) (x3 x4 x5 x6 x7 x8 x9 x10 x11 x12 x13 x14 x15 x16 x17 x18 : Value) (x19 : Int32) (x20 x21 x22 : Nat) (x23 x24 x25 x26 x27 : Value) (x28 : Nat) (x29 : Int32) (x30 x31 x32 : Value) (x33 : Nat) (x34 : ClassId) (x35 : NI) (x36 : Nat) (x37 : ClassId) (x38 : NI) (x39 : Nat) (x40 : ClassId) (x41 : NI) : va_W := [(x0, .inr (10, [x1, .ref x2, x3, x4, x5, x6, x7, x8, x9, x10, x11, x12, x13, x14, x15, x16, x17, x18, .int x19])), (x20, .inr (2, [.ref x21, .ref x22, x23, x24, x25, x26, x27, .ref x28, .int x29, x30, x31, x32])), (x33, .inl (x34, 8, .inl x35)), (x36, .inl (x37, 8, .inl x38)), (x39, .inl (x40, 8, .inl x41))]
def qa0O (x0 : Nat) (x1 : Value) (x2 : Nat) (x3 x4 x5 x6 x7 x8 x9 x10 x11 x12 x13 x14 x15 x16 x17 x18 : Value) (x19 : Int32) : va_W := [(x0, .inr (10, [x1, .ref x2, x3, x4, x5, x6, x7, x8, x9, x10, x11, x12, x13, x14, x15, x16, x17, x18, .int x19]))]
def qZM (x0 : Nat) (x1 : Value) (x2 : Nat) (x3 x4 x5 x6 x7 x8 x9 x10 x11 x12 x13 x14 x15 x16 x17 x18 : Value) (x19 : Int32) (x20 x21 x22 : Nat) (x23 x24 x25 x26 x27 : Value) (x28 : Nat) (x29 : Int32) (x30 x31 x32 : Value) (x33 : Nat) (x34 : ClassId) (x35 : NI) (x36 : Nat) (x37 : ClassId) (x38 : NI) (x39 : Nat) (x40 : ClassId) (x41 : NI) (x42 : Nat) (x43 : ClassId) (x44 : Nat) (x45 : Nat → Int64) : va_W := [(x0, .inr (10, [x1, .ref x2, x3, x4, x5, x6, x7, x8, x9, x10, x11, x12, x13, x14, x15, x16, x17, x18, .int x19])), (x20, .inr (2, [.ref x21, .ref x22, x23, x24, x25, x26, x27, .ref x28, .int x29, x30, x31, x32])), (x33, .inl (x34, 8, .inl x35)), (x36, .inl (x37, 8, .inl x38)), (x39, .inl (x40, 8, .inl x41)), (x42, .inl (x43, x44, .inr (.inl x45)))]
def qLn (x0 x1 x2 x3 x4 : Nat) (x5 x6 : Value) (x7 : Int32) (x8 x9 x10 x11 x12 : Value) (x13 : Nat) (x14 : ClassId) (x15 : NI) (x16 : Nat) (x17 : ClassId) (x18 : NI) (x19 : Nat) (x20 : ClassId) (x21 : NI) (x22 : Nat) (x23 : ClassId) (x24 : NI) : va_W := [(x0, .inr (9, [.ref x1, .ref x2, .ref x3, .ref x4, x5, x6, .int x7, x8, x9, x10, x11, x12])), (x13, .inl (x14, 50, .inl x15)), (x16, .inl (x17, 50, .inl x18)), (x19, .inl (x20, 50, .inl x21)), (x22, .inl (x23, 50, .inl x24))]
def qLR (x0 x1 x2 x3 x4 x5 : Nat) (x6 : Value) (x7 x8 : Int32) (x9 x10 x11 x12 : Value) (x13 : Nat) (x14 : ClassId) (x15 : NI) (x16 : Nat) (x17 : ClassId) (x18 : NI) (x19 : Nat) (x20 : ClassId) (x21 : NI) (x22 : Nat) (x23 : ClassId) (x24 : NI) (x25 : Nat) (x26 : ClassId) (x27 : NI) : va_W := [(x0, .inr (9, [.ref x1, .ref x2, .ref x3, .ref x4, .ref x5, x6, .int x7, .int x8, x9, x10, x11, x12])), (x13, .inl (x14, 6, .inl x15)), (x16, .inl (x17, 50, .inl x18)), (x19, .inl (x20, 50, .inl x21)), (x22, .inl (x23, 50, .inl x24)), (x25, .inl (x26, 50, .inl x27))]
def qa1k (x0 x1 x2 x3 x4 x5 : Nat) (x6 : Value) (x7 x8 : Int32) (x9 x10 x11 x12 : Value) (x13 : Nat) (x14 : ClassId) (x15 : NI) (x16 : Nat) (x17 : ClassId) (x18 : NI) (x19 : Nat) (x20 : ClassId) (x21 : NI) (x22 : Nat) (x23 : ClassId) (x24 : NI) : va_W := [(x0, .inr (9, [.ref x1, .ref x2, .ref x3, .ref x4, .ref x5, x6, .int x7, .int x8, x9, x10, x11, x12])), (x13, .inl (x14, 50, .inl x15)), (x16, .inl (x17, 50, .inl x18)), (x19, .inl (x20, 50, .inl x21)), (x22, .inl (x23, 50, .inl x24))]
def qa51 (x0 : Nat) (x1 : ClassId) (x2 : NI) : va_W := [(x0, .inl (x1, 6, .inl x2))]
def qFB (x0 x1 x2 x3 x4 x5 : Nat) (x6 : Value) (x7 x8 : Int32) (x9 x10 x11 x12 : Value) (x13 x14 : Nat) (x15 x16 x17 : Int32) (x18 : Value) (x19 x20 : Int32) (x21 : Nat) (x22 : ClassId) (x23 : NI) (x24 : Nat) (x25 : ClassId) (x26 : NI) (x27 : Nat) (x28 : ClassId) (x29 : NI) (x30 : Nat) (x31 : ClassId) (x32 : NI) (x33 : Nat) (x34 : ClassId) (x35 : NI) (x36 : Nat) (x37 : ClassId) (x38 : NI) : va_W := [(x0, .inr (9, [.ref x1, .ref x2, .ref x3, .ref x4, .ref x5, x6, .int x7, .int x8, x9, x10, x11, x12])), (x13, .inr (8, [.ref x14, .int x15, .int x16, .int x17, x18, .int x19, .int x20])), (x21, .inl (x22, 600, .inl x23)), (x24, .inl (x25, 6, .inl x26)), (x27, .inl (x28, 50, .inl x29)), (x30, .inl (x31, 50, .inl x32)), (x33, .inl (x34, 50, .inl x35)), (x36, .inl (x37, 50, .inl x38))]
def qaRK (x0 x1 : Nat) (x2 x3 x4 : Int32) (x5 : Value) (x6 x7 : Int32) (x8 : Nat) (x9 : ClassId) (x10 : NI) : va_W := [(x0, .inr (8, [.ref x1, .int x2, .int x3, .int x4, x5, .int x6, .int x7])), (x8, .inl (x9, 600, .inl x10))]
def qa3P (x0 x1 : Nat) (x2 x3 x4 : Int32) (x5 : Value) (x6 x7 : Int32) : va_W := [(x0, .inr (8, [.ref x1, .int x2, .int x3, .int x4, x5, .int x6, .int x7]))]
def qsi (x0 x1 : Nat) (x2 : Int32) (x3 x4 : Nat) (x5 x6 x7 : Value) (x8 : Nat) (x9 : ClassId) (x10 : NI) (x11 : Nat) (x12 : ClassId) (x13 : NI) : va_W := [(x0, .inr (5, [.ref x1, .int x2])), (x3, .inr (1, [.ref x4, x5, x6, x7])), (x8, .inl (x9, 64, .inl x10)), (x11, .inl (x12, 1088, .inl x13))]
def qQe (x0 : Nat) (x1 : Value) (x2 : Nat) (x3 x4 x5 : Value) (x6 : Nat) (x7 : Value) (x8 : Int32) (x9 x10 x11 x12 : Value) (x13 : Nat) (x14 : ClassId) (x15 : NI) (x16 : Nat) (x17 : ClassId) (x18 : NI) : va_W := [(x0, .inr (9, [x1, .ref x2, x3, x4, x5, .ref x6, x7, .int x8, x9, x10, x11, x12])), (x13, .inl (x14, 6, .inl x15)), (x16, .inl (x17, 50, .inl x18))]
def qH5 (x0 : Nat) (x1 : Value) (x2 x3 : Nat) (x4 x5 : Value) (x6 : Nat) (x7 : Value) (x8 : Int32) (x9 x10 x11 x12 : Value) (x13 : Nat) (x14 : ClassId) (x15 : NI) (x16 : Nat) (x17 : ClassId) (x18 : NI) (x19 : Nat) (x20 : ClassId) (x21 : NI) : va_W := [(x0, .inr (9, [x1, .ref x2, .ref x3, x4, x5, .ref x6, x7, .int x8, x9, x10, x11, x12])), (x13, .inl (x14, 50, .inl x15)), (x16, .inl (x17, 6, .inl x18)), (x19, .inl (x20, 50, .inl x21))]
def quD (x0 x1 : Nat) (x2 x3 x4 : Value) (x5 : Nat) (x6 : ClassId) (x7 : NI) : va_W := [(x0, .inr (1, [.ref x1, x2, x3, x4])), (x5, .inl (x6, 64, .inl x7))]
def qQr (x0 x1 x2 x3 x4 : Nat) (x5 x6 x7 x8 x9 x10 x11 x12 : Value) (x13 : Nat) (x14 : ClassId) (x15 : NI) (x16 x17 : Nat) (x18 : Value) (x19 x20 x21 : Nat) (x22 : ClassId) (x23 : NI) (x24 : Nat) (x25 : ClassId) (x26 : NI) (x27 : Nat) (x28 : ClassId) (x29 : NI) (x30 x31 x32 : Nat) (x33 x34 x35 x36 x37 x38 x39 : Value) (x40 : Int32) (x41 x42 : Value) (x43 : Nat) (x44 : ClassId) (x45 : NI) (x46 : Nat) (x47 : ClassId) (x48 : NI) (x49 x50 x51 x52 x53 : Nat) (x54 : Int32) (x55 : Nat) (x56 : ClassId) (x57 : NI) (x58 : Nat) (x59 : ClassId) (x60 : NI) (x61 : Nat) (x62 : ClassId) (x63 : NI) (x64 : Nat) (x65 : ClassId) (x66 : NI) (x67 : Nat) (x68 : ClassId) (x69 : NI) : va_W := [(x0, .inr (9, [.ref x1, .ref x2, .ref x3, .ref x4, x5, x6, x7, x8, x9, x10, x11, x12])), (x13, .inl (x14, 50, .inl x15)), (x16, .inr (1, [.ref x17, x18, .ref x19, .ref x20])), (x21, .inl (x22, 64, .inl x23)), (x24, .inl (x25, 50, .inl x26)), (x27, .inl (x28, 50, .inl x29)), (x30, .inr (2, [.ref x31, .ref x32, x33, x34, x35, x36, x37, x38, x39, .int x40, x41, x42])), (x43, .inl (x44, 8, .inl x45)), (x46, .inl (x47, 8, .inl x48)), (x49, .inr (4, [.ref x50, .ref x51, .ref x52, .ref x53, .int x54])), (x55, .inl (x56, 8, .inl x57)), (x58, .inl (x59, 150, .inl x60)), (x61, .inl (x62, 150, .inl x63)), (x64, .inl (x65, 150, .inl x66)), (x67, .inl (x68, 50, .inl x69))]
def qalR (x0 x1 : Nat) (x2 : Value) (x3 x4 x5 : Nat) (x6 : ClassId) (x7 : NI) : va_W := [(x0, .inr (1, [.ref x1, x2, .ref x3, .ref x4])), (x5, .inl (x6, 64, .inl x7))]
def qaXf (x0 x1 x2 x3 x4 : Nat) (x5 x6 x7 x8 x9 x10 x11 x12 : Value) (x13 : Nat) (x14 : ClassId) (x15 : NI) (x16 : Nat) (x17 : ClassId) (x18 : NI) (x19 : Nat) (x20 : ClassId) (x21 : NI) (x22 x23 x24 : Nat) (x25 x26 x27 x28 x29 x30 x31 : Value) (x32 : Int32) (x33 x34 : Value) (x35 : Nat) (x36 : ClassId) (x37 : NI) (x38 : Nat) (x39 : ClassId) (x40 : NI) (x41 x42 x43 x44 x45 : Nat) (x46 : Int32) (x47 : Nat) (x48 : ClassId) (x49 : NI) (x50 : Nat) (x51 : ClassId) (x52 : NI) (x53 : Nat) (x54 : ClassId) (x55 : NI) (x56 : Nat) (x57 : ClassId) (x58 : NI) (x59 : Nat) (x60 : ClassId) (x61 : NI) : va_W := [(x0, .inr (9, [.ref x1, .ref x2, .ref x3, .ref x4, x5, x6, x7, x8, x9, x10, x11, x12])), (x13, .inl (x14, 50, .inl x15)), (x16, .inl (x17, 50, .inl x18)), (x19, .inl (x20, 50, .inl x21)), (x22, .inr (2, [.ref x23, .ref x24, x25, x26, x27, x28, x29, x30, x31, .int x32, x33, x34])), (x35, .inl (x36, 8, .inl x37)), (x38, .inl (x39, 8, .inl x40)), (x41, .inr (4, [.ref x42, .ref x43, .ref x44, .ref x45, .int x46])), (x47, .inl (x48, 8, .inl x49)), (x50, .inl (x51, 150, .inl x52)), (x53, .inl (x54, 150, .inl x55)), (x56, .inl (x57, 150, .inl x58)), (x59, .inl (x60, 50, .inl x61))]
def qa5T (x0 x1 : Nat) (x2 : Value) (x3 x4 x5 : Nat) (x6 : ClassId) (x7 : NI) (x8 x9 x10 : Nat) (x11 x12 x13 x14 x15 x16 x17 : Value) (x18 : Int32) (x19 x20 : Value) (x21 : Nat) (x22 : ClassId) (x23 : NI) (x24 : Nat) (x25 : ClassId) (x26 : NI) (x27 x28 x29 x30 x31 : Nat) (x32 : Int32) (x33 : Nat) (x34 : ClassId) (x35 : NI) (x36 : Nat) (x37 : ClassId) (x38 : NI) (x39 : Nat) (x40 : ClassId) (x41 : NI) (x42 : Nat) (x43 : ClassId) (x44 : NI) : va_W := [(x0, .inr (1, [.ref x1, x2, .ref x3, .ref x4])), (x5, .inl (x6, 64, .inl x7)), (x8, .inr (2, [.ref x9, .ref x10, x11, x12, x13, x14, x15, x16, x17, .int x18, x19, x20])), (x21, .inl (x22, 8, .inl x23)), (x24, .inl (x25, 8, .inl x26)), (x27, .inr (4, [.ref x28, .ref x29, .ref x30, .ref x31, .int x32])), (x33, .inl (x34, 8, .inl x35)), (x36, .inl (x37, 150, .inl x38)), (x39, .inl (x40, 150, .inl x41)), (x42, .inl (x43, 150, .inl x44))]
def qa8P (x0 x1 x2 x3 x4 : Nat) (x5 x6 x7 x8 x9 x10 x11 x12 : Value) (x13 : Nat) (x14 : ClassId) (x15 : NI) (x16 : Nat) (x17 : ClassId) (x18 : NI) (x19 : Nat) (x20 : ClassId) (x21 : NI) (x22 : Nat) (x23 : ClassId) (x24 : NI) : va_W := [(x0, .inr (9, [.ref x1, .ref x2, .ref x3, .ref x4, x5, x6, x7, x8, x9, x10, x11, x12])), (x13, .inl (x14, 50, .inl x15)), (x16, .inl (x17, 50, .inl x18)), (x19, .inl (x20, 50, .inl x21)), (x22, .inl (x23, 50, .inl x24))]
def qQB (x0 x1 x2 x3 x4 : Nat) (x5 x6 x7 x8 x9 x10 x11 x12 : Value) (x13 : Nat) (x14 : ClassId) (x15 : NI) (x16 x17 : Nat) (x18 : Value) (x19 : Nat) (x20 : Value) (x21 : Nat) (x22 x23 x24 x25 x26 : Value) (x27 : Nat) (x28 x29 x30 : Value) (x31 : Int32) (x32 : Value) (x33 : Int32) (x34 : Nat) (x35 : ClassId) (x36 : NI) (x37 : Nat) (x38 : ClassId) (x39 : NI) (x40 : Nat) (x41 : ClassId) (x42 : NI) (x43 : Nat) (x44 : ClassId) (x45 : NI) (x46 : Nat) (x47 : ClassId) (x48 : NI) : va_W := [(x0, .inr (9, [.ref x1, .ref x2, .ref x3, .ref x4, x5, x6, x7, x8, x9, x10, x11, x12])), (x13, .inl (x14, 50, .inl x15)), (x16, .inr (1, [.ref x17, x18, .ref x19, x20])), (x21, .inr (2, [x22, x23, x24, x25, x26, .ref x27, x28, x29, x30, .int x31, x32, .int x33])), (x34, .inl (x35, 64, .inl x36)), (x37, .inl (x38, 6, .inl x39)), (x40, .inl (x41, 50, .inl x42)), (x43, .inl (x44, 50, .inl x45)), (x46, .inl (x47, 50, .inl x48))]
def qa5U (x0 x1 : Nat) (x2 : Value) (x3 : Nat) (x4 : Value) (x5 : Nat) (x6 x7 x8 x9 x10 : Value) (x11 : Nat) (x12 x13 x14 : Value) (x15 : Int32) (x16 : Value) (x17 : Int32) (x18 : Nat) (x19 : ClassId) (x20 : NI) (x21 : Nat) (x22 : ClassId) (x23 : NI) : va_W := [(x0, .inr (1, [.ref x1, x2, .ref x3, x4])), (x5, .inr (2, [x6, x7, x8, x9, x10, .ref x11, x12, x13, x14, .int x15, x16, .int x17])), (x18, .inl (x19, 64, .inl x20)), (x21, .inl (x22, 6, .inl x23))]
def qanZ (x0 x1 : Nat) (x2 : Value) (x3 : Nat) (x4 : Value) (x5 : Nat) (x6 : ClassId) (x7 : NI) : va_W := [(x0, .inr (1, [.ref x1, x2, .ref x3, x4])), (x5, .inl (x6, 64, .inl x7))]
def qaYK (x0 x1 x2 x3 x4 : Nat) (x5 x6 x7 x8 x9 x10 x11 x12 : Value) (x13 : Nat) (x14 : ClassId) (x15 : NI) (x16 : Nat) (x17 x18 x19 x20 x21 : Value) (x22 : Nat) (x23 x24 x25 : Value) (x26 : Int32) (x27 : Value) (x28 : Int32) (x29 : Nat) (x30 : ClassId) (x31 : NI) (x32 : Nat) (x33 : ClassId) (x34 : NI) (x35 : Nat) (x36 : ClassId) (x37 : NI) (x38 : Nat) (x39 : ClassId) (x40 : NI) : va_W := [(x0, .inr (9, [.ref x1, .ref x2, .ref x3, .ref x4, x5, x6, x7, x8, x9, x10, x11, x12])), (x13, .inl (x14, 50, .inl x15)), (x16, .inr (2, [x17, x18, x19, x20, x21, .ref x22, x23, x24, x25, .int x26, x27, .int x28])), (x29, .inl (x30, 6, .inl x31)), (x32, .inl (x33, 50, .inl x34)), (x35, .inl (x36, 50, .inl x37)), (x38, .inl (x39, 50, .inl x40))]
def qoZ (x0 x1 x2 x3 x4 : Nat) (x5 : Value) (x6 : Nat) (x7 x8 : Int32) (x9 x10 : Value) (x11 x12 : Int32) (x13 : Nat) (x14 : ClassId) (x15 : NI) (x16 x17 : Nat) (x18 : Value) (x19 x20 x21 : Nat) (x22 : ClassId) (x23 : NI) (x24 : Nat) (x25 : ClassId) (x26 : NI) (x27 : Nat) (x28 : ClassId) (x29 : NI) (x30 x31 x32 : Nat) (x33 x34 x35 : Value) (x36 : Nat) (x37 x38 x39 : Value) (x40 : Int32) (x41 : Value) (x42 : Int32) (x43 : Nat) (x44 : ClassId) (x45 : NI) (x46 : Nat) (x47 : ClassId) (x48 : NI) (x49 x50 x51 x52 x53 : Nat) (x54 : Int32) (x55 : Nat) (x56 : ClassId) (x57 : NI) (x58 : Nat) (x59 : ClassId) (x60 : NI) (x61 : Nat) (x62 : ClassId) (x63 : NI) (x64 : Nat) (x65 : ClassId) (x66 : NI) (x67 : Nat) (x68 : ClassId) (x69 : NI) (x70 : Nat) (x71 : ClassId) (x72 : NI) (x73 : Nat) (x74 : ClassId) (x75 : NI) : va_W := [(x0, .inr (9, [.ref x1, .ref x2, .ref x3, .ref x4, x5, .ref x6, .int x7, .int x8, x9, x10, .int x11, .int x12])), (x13, .inl (x14, 50, .inl x15)), (x16, .inr (1, [.ref x17, x18, .ref x19, .ref x20])), (x21, .inl (x22, 64, .inl x23)), (x24, .inl (x25, 50, .inl x26)), (x27, .inl (x28, 50, .inl x29)), (x30, .inr (2, [.ref x31, .ref x32, x33, x34, x35, .ref x36, x37, x38, x39, .int x40, x41, .int x42])), (x43, .inl (x44, 8, .inl x45)), (x46, .inl (x47, 8, .inl x48)), (x49, .inr (4, [.ref x50, .ref x51, .ref x52, .ref x53, .int x54])), (x55, .inl (x56, 8, .inl x57)), (x58, .inl (x59, 150, .inl x60)), (x61, .inl (x62, 150, .inl x63)), (x64, .inl (x65, 150, .inl x66)), (x67, .inl (x68, 50, .inl x69)), (x70, .inl (x71, 6, .inl x72)), (x73, .inl (x74, 6, .inl x75))]
def qa3A (x0 x1 x2 x3 x4 : Nat) (x5 : Value) (x6 : Nat) (x7 x8 : Int32) (x9 x10 : Value) (x11 x12 : Int32) (x13 : Nat) (x14 : ClassId) (x15 : NI) (x16 x17 : Nat) (x18 : Value) (x19 x20 x21 : Nat) (x22 : ClassId) (x23 : NI) (x24 : Nat) (x25 : ClassId) (x26 : NI) (x27 : Nat) (x28 : ClassId) (x29 : NI) (x30 x31 x32 : Nat) (x33 x34 x35 : Value) (x36 : Nat) (x37 x38 x39 : Value) (x40 : Int32) (x41 : Value) (x42 : Int32) (x43 : Nat) (x44 : ClassId) (x45 : NI) (x46 : Nat) (x47 : ClassId) (x48 : NI) (x49 x50 x51 x52 x53 : Nat) (x54 : Int32) (x55 : Nat) (x56 : ClassId) (x57 : NI) (x58 : Nat) (x59 : ClassId) (x60 : NI) (x61 : Nat) (x62 : ClassId) (x63 : NI) (x64 : Nat) (x65 : ClassId) (x66 : NI) (x67 : Nat) (x68 : ClassId) (x69 : NI) : va_W := [(x0, .inr (9, [.ref x1, .ref x2, .ref x3, .ref x4, x5, .ref x6, .int x7, .int x8, x9, x10, .int x11, .int x12])), (x13, .inl (x14, 50, .inl x15)), (x16, .inr (1, [.ref x17, x18, .ref x19, .ref x20])), (x21, .inl (x22, 64, .inl x23)), (x24, .inl (x25, 50, .inl x26)), (x27, .inl (x28, 50, .inl x29)), (x30, .inr (2, [.ref x31, .ref x32, x33, x34, x35, .ref x36, x37, x38, x39, .int x40, x41, .int x42])), (x43, .inl (x44, 8, .inl x45)), (x46, .inl (x47, 8, .inl x48)), (x49, .inr (4, [.ref x50, .ref x51, .ref x52, .ref x53, .int x54])), (x55, .inl (x56, 8, .inl x57)), (x58, .inl (x59, 150, .inl x60)), (x61, .inl (x62, 150, .inl x63)), (x64, .inl (x65, 150, .inl x66)), (x67, .inl (x68, 50, .inl x69))]
def qa3U (x0 x1 x2 x3 x4 : Nat) (x5 : Value) (x6 : Nat) (x7 x8 : Int32) (x9 x10 : Value) (x11 x12 : Int32) (x13 : Nat) (x14 : ClassId) (x15 : NI) (x16 x17 : Nat) (x18 : Value) (x19 x20 x21 x22 x23 : Nat) (x24 x25 x26 : Value) (x27 : Nat) (x28 x29 x30 : Value) (x31 : Int32) (x32 : Value) (x33 : Int32) (x34 : Nat) (x35 : ClassId) (x36 : NI) (x37 : Nat) (x38 : ClassId) (x39 : NI) (x40 : Nat) (x41 : ClassId) (x42 : NI) (x43 : Nat) (x44 : ClassId) (x45 : NI) (x46 : Nat) (x47 : ClassId) (x48 : NI) : va_W := [(x0, .inr (9, [.ref x1, .ref x2, .ref x3, .ref x4, x5, .ref x6, .int x7, .int x8, x9, x10, .int x11, .int x12])), (x13, .inl (x14, 50, .inl x15)), (x16, .inr (1, [.ref x17, x18, .ref x19, .ref x20])), (x21, .inr (2, [.ref x22, .ref x23, x24, x25, x26, .ref x27, x28, x29, x30, .int x31, x32, .int x33])), (x34, .inl (x35, 64, .inl x36)), (x37, .inl (x38, 6, .inl x39)), (x40, .inl (x41, 50, .inl x42)), (x43, .inl (x44, 50, .inl x45)), (x46, .inl (x47, 50, .inl x48))]
def qa9v (x0 x1 x2 x3 x4 : Nat) (x5 : Value) (x6 : Nat) (x7 x8 : Int32) (x9 x10 : Value) (x11 x12 : Int32) (x13 : Nat) (x14 : ClassId) (x15 : NI) (x16 : Nat) (x17 : ClassId) (x18 : NI) (x19 : Nat) (x20 : ClassId) (x21 : NI) : va_W := [(x0, .inr (9, [.ref x1, .ref x2, .ref x3, .ref x4, x5, .ref x6, .int x7, .int x8, x9, x10, .int x11, .int x12])), (x13, .inl (x14, 50, .inl x15)), (x16, .inl (x17, 6, .inl x18)), (x19, .inl (x20, 50, .inl x21))]
def qbaL (x0 x1 x2 x3 x4 : Nat) (x5 : Value) (x6 : Nat) (x7 x8 : Int32) (x9 x10 : Value) (x11 x12 : Int32) (x13 : Nat) (x14 : ClassId) (x15 : NI) (x16 : Nat) (x17 : ClassId) (x18 : NI) : va_W := [(x0, .inr (9, [.ref x1, .ref x2, .ref x3, .ref x4, x5, .ref x6, .int x7, .int x8, x9, x10, .int x11, .int x12])), (x13, .inl (x14, 6, .inl x15)), (x16, .inl (x17, 50, .inl x18))]
def qqE (x0 : Nat) (x1 x2 x3 : Value) (x4 : Nat) (x5 x6 x7 x8 x9 x10 x11 x12 x13 x14 x15 x16 x17 x18 : Value) (x19 : Int32) (x20 x21 x22 x23 x24 : Nat) (x25 : Int32) (x26 : Nat) (x27 : ClassId) (x28 : NI) (x29 : Nat) (x30 : ClassId) (x31 : NI) (x32 : Nat) (x33 : ClassId) (x34 : NI) (x35 : Nat) (x36 : ClassId) (x37 : NI) : va_W := [(x0, .inr (10, [x1, x2, x3, .ref x4, x5, x6, x7, x8, x9, x10, x11, x12, x13, x14, x15, x16, x17, x18, .int x19])), (x20, .inr (4, [.ref x21, .ref x22, .ref x23, .ref x24, .int x25])), (x26, .inl (x27, 8, .inl x28)), (x29, .inl (x30, 150, .inl x31)), (x32, .inl (x33, 150, .inl x34)), (x35, .inl (x36, 150, .inl x37))]
def quy (x0 : Nat) (x1 x2 x3 : Value) (x4 : Nat) (x5 x6 x7 x8 x9 x10 x11 x12 x13 x14 x15 x16 x17 x18 : Value) (x19 : Int32) : va_W := [(x0, .inr (10, [x1, x2, x3, .ref x4, x5, x6, x7, x8, x9, x10, x11, x12, x13, x14, x15, x16, x17, x18, .int x19]))]
def qDK (x0 x1 x2 x3 x4 : Nat) (x5 : Int32) (x6 : Nat) (x7 : ClassId) (x8 : NI) (x9 : Nat) (x10 : ClassId) (x11 : NI) (x12 : Nat) (x13 : ClassId) (x14 : NI) (x15 : Nat) (x16 : ClassId) (x17 : NI) : va_W := [(x0, .inr (4, [.ref x1, .ref x2, .ref x3, .ref x4, .int x5])), (x6, .inl (x7, 8, .inl x8)), (x9, .inl (x10, 150, .inl x11)), (x12, .inl (x13, 150, .inl x14)), (x15, .inl (x16, 150, .inl x17))]
def qaP0 (x0 x1 x2 x3 x4 : Nat) (x5 : Int32) (x6 : Nat) (x7 : ClassId) (x8 : NI) : va_W := [(x0, .inr (4, [.ref x1, .ref x2, .ref x3, .ref x4, .int x5])), (x6, .inl (x7, 8, .inl x8))]
def qa54 (x0 : Nat) (x1 x2 x3 : Value) (x4 : Nat) (x5 x6 x7 x8 x9 x10 x11 x12 x13 x14 x15 x16 x17 x18 : Value) (x19 : Int32) (x20 : Nat) (x21 : ClassId) (x22 : NI) (x23 : Nat) (x24 : ClassId) (x25 : NI) (x26 : Nat) (x27 : ClassId) (x28 : NI) : va_W := [(x0, .inr (10, [x1, x2, x3, .ref x4, x5, x6, x7, x8, x9, x10, x11, x12, x13, x14, x15, x16, x17, x18, .int x19])), (x20, .inl (x21, 150, .inl x22)), (x23, .inl (x24, 150, .inl x25)), (x26, .inl (x27, 150, .inl x28))]
def qam1 (x0 x1 x2 x3 x4 : Nat) (x5 : Int32) (x6 : Nat) (x7 : ClassId) (x8 : NI) (x9 : Nat) (x10 : ClassId) (x11 : NI) (x12 : Nat) (x13 : ClassId) (x14 : NI) (x15 : Nat) (x16 : ClassId) (x17 : NI) : va_W := [(x0, .inr (4, [.ref x1, .ref x2, .ref x3, .ref x4, .int x5])), (x6, .inl (x7, 150, .inl x8)), (x9, .inl (x10, 150, .inl x11)), (x12, .inl (x13, 150, .inl x14)), (x15, .inl (x16, 8, .inl x17))]
def qM2 (x0 : Nat) (x1 x2 x3 : Value) (x4 : Nat) (x5 x6 x7 x8 x9 x10 x11 x12 x13 x14 x15 x16 x17 x18 : Value) (x19 : Int32) (x20 x21 x22 x23 x24 : Nat) (x25 : Int32) (x26 : Nat) (x27 : ClassId) (x28 : NI) (x29 : Nat) (x30 : ClassId) (x31 : NI) (x32 : Nat) (x33 : ClassId) (x34 : NI) (x35 : Nat) (x36 : ClassId) (x37 : NI) (x38 : Nat) (x39 : ClassId) (x40 : Nat) (x41 : Nat → Int64) : va_W := [(x0, .inr (10, [x1, x2, x3, .ref x4, x5, x6, x7, x8, x9, x10, x11, x12, x13, x14, x15, x16, x17, x18, .int x19])), (x20, .inr (4, [.ref x21, .ref x22, .ref x23, .ref x24, .int x25])), (x26, .inl (x27, 8, .inl x28)), (x29, .inl (x30, 150, .inl x31)), (x32, .inl (x33, 150, .inl x34)), (x35, .inl (x36, 150, .inl x37)), (x38, .inl (x39, x40, .inr (.inl x41)))]
def qaks (x0 x1 : Nat) (x2 : Int32) (x3 : Nat) (x4 : ClassId) (x5 : NI) : va_W := [(x0, .inr (0, [.ref x1, .int x2])), (x3, .inl (x4, 8, .inl x5))]
def qa7l (x0 : Nat) (x1 : Int32) (x2 : Nat) (x3 : ClassId) (x4 : NI) : va_W := [(x0, .inr (0, [.null, .int x1])), (x2, .inl (x3, 8, .inl x4))]
def qaaZ (x0 x1 : Nat) (x2 x3 x4 x5 x6 x7 x8 x9 x10 : Value) (x11 : Nat) (x12 x13 x14 x15 : Value) (x16 : Int32) (x17 x18 x19 : Value) (x20 : Nat) (x21 x22 x23 x24 : Value) (x25 : Int32) (x26 x27 : Value) (x28 : Nat) (x29 : Value) (x30 : Int32) : va_W := [(x0, .inr (10, [.ref x1, x2, x3, x4, x5, x6, x7, x8, x9, x10, .ref x11, x12, x13, x14, x15, .int x16, x17, x18, x19])), (x20, .inr (8, [x21, x22, x23, x24, .int x25, x26, x27])), (x28, .inr (5, [x29, .int x30]))]
def qabb (x0 x1 : Nat) (x2 x3 x4 x5 x6 x7 x8 x9 x10 x11 x12 x13 x14 x15 x16 x17 x18 x19 : Value) (x20 : Nat) (x21 x22 x23 x24 x25 x26 : Value) (x27 : Int32) : va_W := [(x0, .inr (10, [.ref x1, x2, x3, x4, x5, x6, x7, x8, x9, x10, x11, x12, x13, x14, x15, x16, x17, x18, x19])), (x20, .inr (8, [x21, x22, x23, x24, x25, x26, .int x27]))]
def q9X (x0 : Nat) (x1 x2 x3 x4 : Value) (x5 : Int32) (x6 x7 : Value) : va_W := [(x0, .inr (8, [x1, x2, x3, x4, .int x5, x6, x7]))]
def qrE (x0 x1 : Nat) (x2 x3 x4 : Value) (x5 : Int32) (x6 x7 : Value) (x8 : Nat) (x9 : ClassId) (x10 : NI) : va_W := [(x0, .inr (8, [.ref x1, x2, x3, x4, .int x5, x6, x7])), (x8, .inl (x9, 600, .inl x10))]
def qJu (x0 x1 : Nat) (x2 x3 x4 x5 x6 x7 x8 x9 x10 x11 x12 x13 x14 x15 x16 x17 x18 x19 : Value) (x20 x21 : Nat) (x22 x23 x24 : Value) (x25 : Int32) (x26 x27 : Value) (x28 : Nat) (x29 : ClassId) (x30 : NI) : va_W := [(x0, .inr (10, [.ref x1, x2, x3, x4, x5, x6, x7, x8, x9, x10, x11, x12, x13, x14, x15, x16, x17, x18, x19])), (x20, .inr (8, [.ref x21, x22, x23, x24, .int x25, x26, x27])), (x28, .inl (x29, 600, .inl x30))]
def qban (x0 x1 : Nat) (x2 x3 x4 : Value) (x5 : Int32) (x6 x7 : Value) : va_W := [(x0, .inr (8, [.ref x1, x2, x3, x4, .int x5, x6, x7]))]
def qaBX (x0 x1 : Nat) (x2 x3 x4 x5 x6 x7 x8 x9 x10 x11 x12 x13 x14 x15 x16 x17 x18 x19 : Value) : va_W := [(x0, .inr (10, [.ref x1, x2, x3, x4, x5, x6, x7, x8, x9, x10, x11, x12, x13, x14, x15, x16, x17, x18, x19]))]
def qBK (x0 x1 : Nat) (x2 : Int32) (x3 x4 : Nat) (x5 : Int32) (x6 : Nat) (x7 : ClassId) (x8 : NI) (x9 : Nat) (x10 : ClassId) (x11 : NI) : va_W := [(x0, .inr (5, [.ref x1, .int x2])), (x3, .inr (5, [.ref x4, .int x5])), (x6, .inl (x7, 1088, .inl x8)), (x9, .inl (x10, 1088, .inl x11))]
def qoJ (x0 : Nat) (x1 x2 x3 x4 x5 x6 x7 x8 : Value) (x9 : Nat) (x10 : Value) (x11 x12 : Nat) (x13 x14 x15 : Value) (x16 : Int32) (x17 x18 x19 : Value) (x20 : Nat) (x21 : ClassId) (x22 : Nat → Option Nat) (x23 x24 : Nat) (x25 : Int32) (x26 x27 : Nat) (x28 : Int32) (x29 : Nat) (x30 : ClassId) (x31 : NI) (x32 : Nat) (x33 : ClassId) (x34 : NI) (x35 x36 : Nat) (x37 x38 x39 : Value) (x40 : Nat) (x41 : ClassId) (x42 : NI) (x43 x44 : Nat) (x45 : Int32) (x46 : Nat) (x47 : ClassId) (x48 : NI) (x49 x50 : Nat) (x51 : Int32) (x52 : Nat) (x53 : ClassId) (x54 : NI) : va_W := [(x0, .inr (10, [x1, x2, x3, x4, x5, x6, x7, x8, .ref x9, x10, .ref x11, .ref x12, x13, x14, x15, .int x16, x17, x18, x19])), (x20, .inl (x21, 3, .inr (.inr (.inr (.inr x22))))), (x23, .inr (5, [.ref x24, .int x25])), (x26, .inr (5, [.ref x27, .int x28])), (x29, .inl (x30, 1088, .inl x31)), (x32, .inl (x33, 1088, .inl x34)), (x35, .inr (1, [.ref x36, x37, x38, x39])), (x40, .inl (x41, 64, .inl x42)), (x43, .inr (5, [.ref x44, .int x45])), (x46, .inl (x47, 1088, .inl x48)), (x49, .inr (5, [.ref x50, .int x51])), (x52, .inl (x53, 1088, .inl x54))]
def qaZm (x0 : Nat) (x1 x2 x3 x4 x5 x6 x7 x8 : Value) (x9 : Nat) (x10 : Value) (x11 x12 : Nat) (x13 x14 x15 : Value) (x16 : Int32) (x17 x18 x19 : Value) (x20 : Nat) (x21 : ClassId) (x22 : Nat → Option Nat) (x23 x24 : Nat) (x25 : Int32) (x26 : Nat) (x27 : ClassId) (x28 : NI) (x29 x30 : Nat) (x31 : Int32) (x32 : Nat) (x33 : ClassId) (x34 : NI) (x35 x36 : Nat) (x37 : Int32) (x38 : Nat) (x39 : ClassId) (x40 : NI) : va_W := [(x0, .inr (10, [x1, x2, x3, x4, x5, x6, x7, x8, .ref x9, x10, .ref x11, .ref x12, x13, x14, x15, .int x16, x17, x18, x19])), (x20, .inl (x21, 3, .inr (.inr (.inr (.inr x22))))), (x23, .inr (5, [.ref x24, .int x25])), (x26, .inl (x27, 1088, .inl x28)), (x29, .inr (5, [.ref x30, .int x31])), (x32, .inl (x33, 1088, .inl x34)), (x35, .inr (5, [.ref x36, .int x37])), (x38, .inl (x39, 1088, .inl x40))]
def qamy (x0 : Nat) (x1 x2 x3 x4 x5 x6 x7 x8 : Value) (x9 : Nat) (x10 : Value) (x11 x12 : Nat) (x13 x14 x15 : Value) (x16 : Int32) (x17 x18 x19 : Value) (x20 : Nat) (x21 : ClassId) (x22 : Nat → Option Nat) (x23 x24 : Nat) (x25 : Int32) (x26 x27 : Nat) (x28 : Int32) (x29 : Nat) (x30 : ClassId) (x31 : NI) (x32 : Nat) (x33 : ClassId) (x34 : NI) (x35 x36 : Nat) (x37 : Int32) (x38 : Nat) (x39 : ClassId) (x40 : NI) : va_W := [(x0, .inr (10, [x1, x2, x3, x4, x5, x6, x7, x8, .ref x9, x10, .ref x11, .ref x12, x13, x14, x15, .int x16, x17, x18, x19])), (x20, .inl (x21, 3, .inr (.inr (.inr (.inr x22))))), (x23, .inr (5, [.ref x24, .int x25])), (x26, .inr (5, [.ref x27, .int x28])), (x29, .inl (x30, 1088, .inl x31)), (x32, .inl (x33, 1088, .inl x34)), (x35, .inr (5, [.ref x36, .int x37])), (x38, .inl (x39, 1088, .inl x40))]
def qa5y (x0 : Nat) (x1 x2 x3 x4 x5 x6 x7 x8 : Value) (x9 : Nat) (x10 : Value) (x11 x12 : Nat) (x13 x14 x15 : Value) (x16 : Int32) (x17 x18 x19 : Value) (x20 : Nat) (x21 : ClassId) (x22 : Nat → Option Nat) (x23 x24 : Nat) (x25 : Int32) (x26 : Nat) (x27 : ClassId) (x28 : NI) (x29 x30 : Nat) (x31 x32 x33 : Value) (x34 : Nat) (x35 : ClassId) (x36 : NI) (x37 x38 : Nat) (x39 : Int32) (x40 : Nat) (x41 : ClassId) (x42 : NI) : va_W := [(x0, .inr (10, [x1, x2, x3, x4, x5, x6, x7, x8, .ref x9, x10, .ref x11, .ref x12, x13, x14, x15, .int x16, x17, x18, x19])), (x20, .inl (x21, 3, .inr (.inr (.inr (.inr x22))))), (x23, .inr (5, [.ref x24, .int x25])), (x26, .inl (x27, 1088, .inl x28)), (x29, .inr (1, [.ref x30, x31, x32, x33])), (x34, .inl (x35, 64, .inl x36)), (x37, .inr (5, [.ref x38, .int x39])), (x40, .inl (x41, 1088, .inl x42))]
def qalT (x0 : Nat) (x1 x2 x3 x4 x5 x6 : Int32) : va_W := [(x0, .inr (8, [.null, .int x1, .int x2, .int x3, .int x4, .int x5, .int x6]))]
def qaAZ (x0 x1 : Nat) (x2 x3 x4 x5 x6 x7 : Int32) (x8 : Nat) (x9 : ClassId) (x10 : NI) : va_W := [(x0, .inr (8, [.ref x1, .int x2, .int x3, .int x4, .int x5, .int x6, .int x7])), (x8, .inl (x9, 600, .inl x10))]
def qa6c (x0 : Nat) (x1 x2 x3 x4 x5 x6 : Int32) (x7 : Nat) (x8 : ClassId) (x9 : NI) : va_W := [(x0, .inr (8, [.null, .int x1, .int x2, .int x3, .int x4, .int x5, .int x6])), (x7, .inl (x8, 600, .inl x9))]
def qajj (x0 : Nat) (x1 x2 x3 x4 : Int32) : va_W := [(x0, .inr (2, [.null, .null, .null, .null, .null, .null, .null, .null, .int x1, .int x2, .int x3, .int x4]))]
def qaZc (x0 x1 x2 x3 x4 x5 x6 x7 x8 : Nat) (x9 x10 x11 x12 : Int32) (x13 : Nat) (x14 : ClassId) (x15 : NI) (x16 : Nat) (x17 : ClassId) (x18 : NI) (x19 : Nat) (x20 : ClassId) (x21 : NI) (x22 : Nat) (x23 : ClassId) (x24 : NI) (x25 : Nat) (x26 : ClassId) (x27 : NI) (x28 : Nat) (x29 : ClassId) (x30 : NI) (x31 : Nat) (x32 : ClassId) (x33 : NI) (x34 : Nat) (x35 : ClassId) (x36 : NI) : va_W := [(x0, .inr (2, [.ref x1, .ref x2, .ref x3, .ref x4, .ref x5, .ref x6, .ref x7, .ref x8, .int x9, .int x10, .int x11, .int x12])), (x13, .inl (x14, 8, .inl x15)), (x16, .inl (x17, 8, .inl x18)), (x19, .inl (x20, 4, .inl x21)), (x22, .inl (x23, 4, .inl x24)), (x25, .inl (x26, 6, .inl x27)), (x28, .inl (x29, 6, .inl x30)), (x31, .inl (x32, 36, .inl x33)), (x34, .inl (x35, 8, .inl x36))]
def qa9w (x0 : Nat) (x1 x2 x3 x4 : Int32) (x5 : Nat) (x6 : ClassId) (x7 : NI) : va_W := [(x0, .inr (2, [.null, .null, .null, .null, .null, .null, .null, .null, .int x1, .int x2, .int x3, .int x4])), (x5, .inl (x6, 8, .inl x7))]
def qa5K (x0 x1 : Nat) (x2 x3 x4 x5 : Int32) (x6 : Nat) (x7 : ClassId) (x8 : NI) : va_W := [(x0, .inr (2, [.ref x1, .null, .null, .null, .null, .null, .null, .null, .int x2, .int x3, .int x4, .int x5])), (x6, .inl (x7, 8, .inl x8))]
def qa8b (x0 x1 : Nat) (x2 x3 x4 x5 : Int32) (x6 : Nat) (x7 : ClassId) (x8 : NI) (x9 : Nat) (x10 : ClassId) (x11 : NI) : va_W := [(x0, .inr (2, [.ref x1, .null, .null, .null, .null, .null, .null, .null, .int x2, .int x3, .int x4, .int x5])), (x6, .inl (x7, 8, .inl x8)), (x9, .inl (x10, 8, .inl x11))]
def qa3X (x0 x1 x2 : Nat) (x3 x4 x5 x6 : Int32) (x7 : Nat) (x8 : ClassId) (x9 : NI) (x10 : Nat) (x11 : ClassId) (x12 : NI) : va_W := [(x0, .inr (2, [.ref x1, .ref x2, .null, .null, .null, .null, .null, .null, .int x3, .int x4, .int x5, .int x6])), (x7, .inl (x8, 8, .inl x9)), (x10, .inl (x11, 8, .inl x12))]
def qa8S (x0 x1 x2 : Nat) (x3 x4 x5 x6 : Int32) (x7 : Nat) (x8 : ClassId) (x9 : NI) (x10 : Nat) (x11 : ClassId) (x12 : NI) (x13 : Nat) (x14 : ClassId) (x15 : NI) : va_W := [(x0, .inr (2, [.ref x1, .ref x2, .null, .null, .null, .null, .null, .null, .int x3, .int x4, .int x5, .int x6])), (x7, .inl (x8, 8, .inl x9)), (x10, .inl (x11, 8, .inl x12)), (x13, .inl (x14, 4, .inl x15))]
def qa8X (x0 x1 x2 x3 : Nat) (x4 x5 x6 x7 : Int32) (x8 : Nat) (x9 : ClassId) (x10 : NI) (x11 : Nat) (x12 : ClassId) (x13 : NI) (x14 : Nat) (x15 : ClassId) (x16 : NI) : va_W := [(x0, .inr (2, [.ref x1, .ref x2, .ref x3, .null, .null, .null, .null, .null, .int x4, .int x5, .int x6, .int x7])), (x8, .inl (x9, 8, .inl x10)), (x11, .inl (x12, 8, .inl x13)), (x14, .inl (x15, 4, .inl x16))]
def qa7V (x0 x1 x2 x3 : Nat) (x4 x5 x6 x7 : Int32) (x8 : Nat) (x9 : ClassId) (x10 : NI) (x11 : Nat) (x12 : ClassId) (x13 : NI) (x14 : Nat) (x15 : ClassId) (x16 : NI) (x17 : Nat) (x18 : ClassId) (x19 : NI) : va_W := [(x0, .inr (2, [.ref x1, .ref x2, .ref x3, .null, .null, .null, .null, .null, .int x4, .int x5, .int x6, .int x7])), (x8, .inl (x9, 8, .inl x10)), (x11, .inl (x12, 8, .inl x13)), (x14, .inl (x15, 4, .inl x16)), (x17, .inl (x18, 4, .inl x19))]
def qa6K (x0 x1 x2 x3 x4 : Nat) (x5 x6 x7 x8 : Int32) (x9 : Nat) (x10 : ClassId) (x11 : NI) (x12 : Nat) (x13 : ClassId) (x14 : NI) (x15 : Nat) (x16 : ClassId) (x17 : NI) (x18 : Nat) (x19 : ClassId) (x20 : NI) : va_W := [(x0, .inr (2, [.ref x1, .ref x2, .ref x3, .ref x4, .null, .null, .null, .null, .int x5, .int x6, .int x7, .int x8])), (x9, .inl (x10, 8, .inl x11)), (x12, .inl (x13, 8, .inl x14)), (x15, .inl (x16, 4, .inl x17)), (x18, .inl (x19, 4, .inl x20))]
def qbap (x0 x1 x2 x3 x4 : Nat) (x5 x6 x7 x8 : Int32) (x9 : Nat) (x10 : ClassId) (x11 : NI) (x12 : Nat) (x13 : ClassId) (x14 : NI) (x15 : Nat) (x16 : ClassId) (x17 : NI) (x18 : Nat) (x19 : ClassId) (x20 : NI) (x21 : Nat) (x22 : ClassId) (x23 : NI) : va_W := [(x0, .inr (2, [.ref x1, .ref x2, .ref x3, .ref x4, .null, .null, .null, .null, .int x5, .int x6, .int x7, .int x8])), (x9, .inl (x10, 8, .inl x11)), (x12, .inl (x13, 8, .inl x14)), (x15, .inl (x16, 4, .inl x17)), (x18, .inl (x19, 4, .inl x20)), (x21, .inl (x22, 6, .inl x23))]
def qa4f (x0 x1 x2 x3 x4 x5 : Nat) (x6 x7 x8 x9 : Int32) (x10 : Nat) (x11 : ClassId) (x12 : NI) (x13 : Nat) (x14 : ClassId) (x15 : NI) (x16 : Nat) (x17 : ClassId) (x18 : NI) (x19 : Nat) (x20 : ClassId) (x21 : NI) (x22 : Nat) (x23 : ClassId) (x24 : NI) : va_W := [(x0, .inr (2, [.ref x1, .ref x2, .ref x3, .ref x4, .ref x5, .null, .null, .null, .int x6, .int x7, .int x8, .int x9])), (x10, .inl (x11, 8, .inl x12)), (x13, .inl (x14, 8, .inl x15)), (x16, .inl (x17, 4, .inl x18)), (x19, .inl (x20, 4, .inl x21)), (x22, .inl (x23, 6, .inl x24))]
def qa5o (x0 x1 x2 x3 x4 x5 : Nat) (x6 x7 x8 x9 : Int32) (x10 : Nat) (x11 : ClassId) (x12 : NI) (x13 : Nat) (x14 : ClassId) (x15 : NI) (x16 : Nat) (x17 : ClassId) (x18 : NI) (x19 : Nat) (x20 : ClassId) (x21 : NI) (x22 : Nat) (x23 : ClassId) (x24 : NI) (x25 : Nat) (x26 : ClassId) (x27 : NI) : va_W := [(x0, .inr (2, [.ref x1, .ref x2, .ref x3, .ref x4, .ref x5, .null, .null, .null, .int x6, .int x7, .int x8, .int x9])), (x10, .inl (x11, 8, .inl x12)), (x13, .inl (x14, 8, .inl x15)), (x16, .inl (x17, 4, .inl x18)), (x19, .inl (x20, 4, .inl x21)), (x22, .inl (x23, 6, .inl x24)), (x25, .inl (x26, 6, .inl x27))]
def qa3W (x0 x1 x2 x3 x4 x5 x6 : Nat) (x7 x8 x9 x10 : Int32) (x11 : Nat) (x12 : ClassId) (x13 : NI) (x14 : Nat) (x15 : ClassId) (x16 : NI) (x17 : Nat) (x18 : ClassId) (x19 : NI) (x20 : Nat) (x21 : ClassId) (x22 : NI) (x23 : Nat) (x24 : ClassId) (x25 : NI) (x26 : Nat) (x27 : ClassId) (x28 : NI) : va_W := [(x0, .inr (2, [.ref x1, .ref x2, .ref x3, .ref x4, .ref x5, .ref x6, .null, .null, .int x7, .int x8, .int x9, .int x10])), (x11, .inl (x12, 8, .inl x13)), (x14, .inl (x15, 8, .inl x16)), (x17, .inl (x18, 4, .inl x19)), (x20, .inl (x21, 4, .inl x22)), (x23, .inl (x24, 6, .inl x25)), (x26, .inl (x27, 6, .inl x28))]
def qa8e (x0 x1 x2 x3 x4 x5 x6 : Nat) (x7 x8 x9 x10 : Int32) (x11 : Nat) (x12 : ClassId) (x13 : NI) (x14 : Nat) (x15 : ClassId) (x16 : NI) (x17 : Nat) (x18 : ClassId) (x19 : NI) (x20 : Nat) (x21 : ClassId) (x22 : NI) (x23 : Nat) (x24 : ClassId) (x25 : NI) (x26 : Nat) (x27 : ClassId) (x28 : NI) (x29 : Nat) (x30 : ClassId) (x31 : NI) : va_W := [(x0, .inr (2, [.ref x1, .ref x2, .ref x3, .ref x4, .ref x5, .ref x6, .null, .null, .int x7, .int x8, .int x9, .int x10])), (x11, .inl (x12, 8, .inl x13)), (x14, .inl (x15, 8, .inl x16)), (x17, .inl (x18, 4, .inl x19)), (x20, .inl (x21, 4, .inl x22)), (x23, .inl (x24, 6, .inl x25)), (x26, .inl (x27, 6, .inl x28)), (x29, .inl (x30, 36, .inl x31))]
def qa9M (x0 x1 x2 x3 x4 x5 x6 x7 : Nat) (x8 x9 x10 x11 : Int32) (x12 : Nat) (x13 : ClassId) (x14 : NI) (x15 : Nat) (x16 : ClassId) (x17 : NI) (x18 : Nat) (x19 : ClassId) (x20 : NI) (x21 : Nat) (x22 : ClassId) (x23 : NI) (x24 : Nat) (x25 : ClassId) (x26 : NI) (x27 : Nat) (x28 : ClassId) (x29 : NI) (x30 : Nat) (x31 : ClassId) (x32 : NI) : va_W := [(x0, .inr (2, [.ref x1, .ref x2, .ref x3, .ref x4, .ref x5, .ref x6, .ref x7, .null, .int x8, .int x9, .int x10, .int x11])), (x12, .inl (x13, 8, .inl x14)), (x15, .inl (x16, 8, .inl x17)), (x18, .inl (x19, 4, .inl x20)), (x21, .inl (x22, 4, .inl x23)), (x24, .inl (x25, 6, .inl x26)), (x27, .inl (x28, 6, .inl x29)), (x30, .inl (x31, 36, .inl x32))]
def qa9N (x0 x1 x2 x3 x4 x5 x6 x7 : Nat) (x8 x9 x10 x11 : Int32) (x12 : Nat) (x13 : ClassId) (x14 : NI) (x15 : Nat) (x16 : ClassId) (x17 : NI) (x18 : Nat) (x19 : ClassId) (x20 : NI) (x21 : Nat) (x22 : ClassId) (x23 : NI) (x24 : Nat) (x25 : ClassId) (x26 : NI) (x27 : Nat) (x28 : ClassId) (x29 : NI) (x30 : Nat) (x31 : ClassId) (x32 : NI) (x33 : Nat) (x34 : ClassId) (x35 : NI) : va_W := [(x0, .inr (2, [.ref x1, .ref x2, .ref x3, .ref x4, .ref x5, .ref x6, .ref x7, .null, .int x8, .int x9, .int x10, .int x11])), (x12, .inl (x13, 8, .inl x14)), (x15, .inl (x16, 8, .inl x17)), (x18, .inl (x19, 4, .inl x20)), (x21, .inl (x22, 4, .inl x23)), (x24, .inl (x25, 6, .inl x26)), (x27, .inl (x28, 6, .inl x29)), (x30, .inl (x31, 36, .inl x32)), (x33, .inl (x34, 8, .inl x35))]
def qamm (x0 : Nat) (x1 : Int32) : va_W := [(x0, .inr (4, [.null, .null, .null, .null, .int x1]))]
def qa89 (x0 : Nat) (x1 : Int32) (x2 : Nat) (x3 : ClassId) (x4 : NI) : va_W := [(x0, .inr (4, [.null, .null, .null, .null, .int x1])), (x2, .inl (x3, 150, .inl x4))]
def qa5Z (x0 x1 : Nat) (x2 : Int32) (x3 : Nat) (x4 : ClassId) (x5 : NI) : va_W := [(x0, .inr (4, [.ref x1, .null, .null, .null, .int x2])), (x3, .inl (x4, 150, .inl x5))]
def qa3e (x0 x1 : Nat) (x2 : Int32) (x3 : Nat) (x4 : ClassId) (x5 : NI) (x6 : Nat) (x7 : ClassId) (x8 : NI) : va_W := [(x0, .inr (4, [.ref x1, .null, .null, .null, .int x2])), (x3, .inl (x4, 150, .inl x5)), (x6, .inl (x7, 150, .inl x8))]
def qa66 (x0 x1 x2 : Nat) (x3 : Int32) (x4 : Nat) (x5 : ClassId) (x6 : NI) (x7 : Nat) (x8 : ClassId) (x9 : NI) : va_W := [(x0, .inr (4, [.ref x1, .ref x2, .null, .null, .int x3])), (x4, .inl (x5, 150, .inl x6)), (x7, .inl (x8, 150, .inl x9))]
def qa7N (x0 x1 x2 : Nat) (x3 : Int32) (x4 : Nat) (x5 : ClassId) (x6 : NI) (x7 : Nat) (x8 : ClassId) (x9 : NI) (x10 : Nat) (x11 : ClassId) (x12 : NI) : va_W := [(x0, .inr (4, [.ref x1, .ref x2, .null, .null, .int x3])), (x4, .inl (x5, 150, .inl x6)), (x7, .inl (x8, 150, .inl x9)), (x10, .inl (x11, 150, .inl x12))]
def qa4k (x0 x1 x2 x3 : Nat) (x4 : Int32) (x5 : Nat) (x6 : ClassId) (x7 : NI) (x8 : Nat) (x9 : ClassId) (x10 : NI) (x11 : Nat) (x12 : ClassId) (x13 : NI) : va_W := [(x0, .inr (4, [.ref x1, .ref x2, .ref x3, .null, .int x4])), (x5, .inl (x6, 150, .inl x7)), (x8, .inl (x9, 150, .inl x10)), (x11, .inl (x12, 150, .inl x13))]
def qa5N (x0 x1 x2 x3 : Nat) (x4 : Int32) (x5 : Nat) (x6 : ClassId) (x7 : NI) (x8 : Nat) (x9 : ClassId) (x10 : NI) (x11 : Nat) (x12 : ClassId) (x13 : NI) (x14 : Nat) (x15 : ClassId) (x16 : NI) : va_W := [(x0, .inr (4, [.ref x1, .ref x2, .ref x3, .null, .int x4])), (x5, .inl (x6, 150, .inl x7)), (x8, .inl (x9, 150, .inl x10)), (x11, .inl (x12, 150, .inl x13)), (x14, .inl (x15, 8, .inl x16))]
def qa8l (x0 x1 x2 x3 x4 : Nat) (x5 : Int32) (x6 : Nat) (x7 : ClassId) (x8 : NI) (x9 : Nat) (x10 : ClassId) (x11 : NI) : va_W := [(x0, .inr (4, [.ref x1, .ref x2, .ref x3, .ref x4, .int x5])), (x6, .inl (x7, 150, .inl x8)), (x9, .inl (x10, 150, .inl x11))]
def qake (x0 : Nat) (x1 x2 x3 x4 x5 x6 : Int32) : va_W := [(x0, .inr (9, [.null, .null, .null, .null, .null, .null, .int x1, .int x2, .int x3, .int x4, .int x5, .int x6]))]
def qaX5 (x0 x1 x2 x3 x4 x5 x6 : Nat) (x7 x8 x9 x10 x11 x12 : Int32) (x13 : Nat) (x14 : ClassId) (x15 : NI) (x16 : Nat) (x17 : ClassId) (x18 : NI) (x19 : Nat) (x20 : ClassId) (x21 : NI) (x22 : Nat) (x23 : ClassId) (x24 : NI) (x25 : Nat) (x26 : ClassId) (x27 : NI) (x28 : Nat) (x29 : ClassId) (x30 : NI) : va_W := [(x0, .inr (9, [.ref x1, .ref x2, .ref x3, .ref x4, .ref x5, .ref x6, .int x7, .int x8, .int x9, .int x10, .int x11, .int x12])), (x13, .inl (x14, 50, .inl x15)), (x16, .inl (x17, 50, .inl x18)), (x19, .inl (x20, 50, .inl x21)), (x22, .inl (x23, 50, .inl x24)), (x25, .inl (x26, 6, .inl x27)), (x28, .inl (x29, 6, .inl x30))]
def qbaB (x0 : Nat) (x1 x2 x3 x4 x5 x6 : Int32) (x7 : Nat) (x8 : ClassId) (x9 : NI) : va_W := [(x0, .inr (9, [.null, .null, .null, .null, .null, .null, .int x1, .int x2, .int x3, .int x4, .int x5, .int x6])), (x7, .inl (x8, 50, .inl x9))]
def qa7x (x0 x1 : Nat) (x2 x3 x4 x5 x6 x7 : Int32) (x8 : Nat) (x9 : ClassId) (x10 : NI) : va_W := [(x0, .inr (9, [.ref x1, .null, .null, .null, .null, .null, .int x2, .int x3, .int x4, .int x5, .int x6, .int x7])), (x8, .inl (x9, 50, .inl x10))]
def qa96 (x0 x1 : Nat) (x2 x3 x4 x5 x6 x7 : Int32) (x8 : Nat) (x9 : ClassId) (x10 : NI) (x11 : Nat) (x12 : ClassId) (x13 : NI) : va_W := [(x0, .inr (9, [.ref x1, .null, .null, .null, .null, .null, .int x2, .int x3, .int x4, .int x5, .int x6, .int x7])), (x8, .inl (x9, 50, .inl x10)), (x11, .inl (x12, 50, .inl x13))]
def qbab (x0 x1 x2 : Nat) (x3 x4 x5 x6 x7 x8 : Int32) (x9 : Nat) (x10 : ClassId) (x11 : NI) (x12 : Nat) (x13 : ClassId) (x14 : NI) : va_W := [(x0, .inr (9, [.ref x1, .ref x2, .null, .null, .null, .null, .int x3, .int x4, .int x5, .int x6, .int x7, .int x8])), (x9, .inl (x10, 50, .inl x11)), (x12, .inl (x13, 50, .inl x14))]
def qa9z (x0 x1 x2 : Nat) (x3 x4 x5 x6 x7 x8 : Int32) (x9 : Nat) (x10 : ClassId) (x11 : NI) (x12 : Nat) (x13 : ClassId) (x14 : NI) (x15 : Nat) (x16 : ClassId) (x17 : NI) : va_W := [(x0, .inr (9, [.ref x1, .ref x2, .null, .null, .null, .null, .int x3, .int x4, .int x5, .int x6, .int x7, .int x8])), (x9, .inl (x10, 50, .inl x11)), (x12, .inl (x13, 50, .inl x14)), (x15, .inl (x16, 50, .inl x17))]
def qa4L (x0 x1 x2 x3 : Nat) (x4 x5 x6 x7 x8 x9 : Int32) (x10 : Nat) (x11 : ClassId) (x12 : NI) (x13 : Nat) (x14 : ClassId) (x15 : NI) (x16 : Nat) (x17 : ClassId) (x18 : NI) : va_W := [(x0, .inr (9, [.ref x1, .ref x2, .ref x3, .null, .null, .null, .int x4, .int x5, .int x6, .int x7, .int x8, .int x9])), (x10, .inl (x11, 50, .inl x12)), (x13, .inl (x14, 50, .inl x15)), (x16, .inl (x17, 50, .inl x18))]
def qa8C (x0 x1 x2 x3 : Nat) (x4 x5 x6 x7 x8 x9 : Int32) (x10 : Nat) (x11 : ClassId) (x12 : NI) (x13 : Nat) (x14 : ClassId) (x15 : NI) (x16 : Nat) (x17 : ClassId) (x18 : NI) (x19 : Nat) (x20 : ClassId) (x21 : NI) : va_W := [(x0, .inr (9, [.ref x1, .ref x2, .ref x3, .null, .null, .null, .int x4, .int x5, .int x6, .int x7, .int x8, .int x9])), (x10, .inl (x11, 50, .inl x12)), (x13, .inl (x14, 50, .inl x15)), (x16, .inl (x17, 50, .inl x18)), (x19, .inl (x20, 50, .inl x21))]
def qa82 (x0 x1 x2 x3 x4 : Nat) (x5 x6 x7 x8 x9 x10 : Int32) (x11 : Nat) (x12 : ClassId) (x13 : NI) (x14 : Nat) (x15 : ClassId) (x16 : NI) (x17 : Nat) (x18 : ClassId) (x19 : NI) (x20 : Nat) (x21 : ClassId) (x22 : NI) : va_W := [(x0, .inr (9, [.ref x1, .ref x2, .ref x3, .ref x4, .null, .null, .int x5, .int x6, .int x7, .int x8, .int x9, .int x10])), (x11, .inl (x12, 50, .inl x13)), (x14, .inl (x15, 50, .inl x16)), (x17, .inl (x18, 50, .inl x19)), (x20, .inl (x21, 50, .inl x22))]
def qa4e (x0 x1 x2 x3 x4 : Nat) (x5 x6 x7 x8 x9 x10 : Int32) (x11 : Nat) (x12 : ClassId) (x13 : NI) (x14 : Nat) (x15 : ClassId) (x16 : NI) (x17 : Nat) (x18 : ClassId) (x19 : NI) (x20 : Nat) (x21 : ClassId) (x22 : NI) (x23 : Nat) (x24 : ClassId) (x25 : NI) : va_W := [(x0, .inr (9, [.ref x1, .ref x2, .ref x3, .ref x4, .null, .null, .int x5, .int x6, .int x7, .int x8, .int x9, .int x10])), (x11, .inl (x12, 50, .inl x13)), (x14, .inl (x15, 50, .inl x16)), (x17, .inl (x18, 50, .inl x19)), (x20, .inl (x21, 50, .inl x22)), (x23, .inl (x24, 6, .inl x25))]
def qa63 (x0 x1 x2 x3 x4 x5 : Nat) (x6 x7 x8 x9 x10 x11 : Int32) (x12 : Nat) (x13 : ClassId) (x14 : NI) (x15 : Nat) (x16 : ClassId) (x17 : NI) (x18 : Nat) (x19 : ClassId) (x20 : NI) (x21 : Nat) (x22 : ClassId) (x23 : NI) (x24 : Nat) (x25 : ClassId) (x26 : NI) : va_W := [(x0, .inr (9, [.ref x1, .ref x2, .ref x3, .ref x4, .ref x5, .null, .int x6, .int x7, .int x8, .int x9, .int x10, .int x11])), (x12, .inl (x13, 50, .inl x14)), (x15, .inl (x16, 50, .inl x17)), (x18, .inl (x19, 50, .inl x20)), (x21, .inl (x22, 50, .inl x23)), (x24, .inl (x25, 6, .inl x26))]
def qa42 (x0 x1 x2 x3 x4 x5 : Nat) (x6 x7 x8 x9 x10 x11 : Int32) (x12 : Nat) (x13 : ClassId) (x14 : NI) (x15 : Nat) (x16 : ClassId) (x17 : NI) (x18 : Nat) (x19 : ClassId) (x20 : NI) (x21 : Nat) (x22 : ClassId) (x23 : NI) (x24 : Nat) (x25 : ClassId) (x26 : NI) (x27 : Nat) (x28 : ClassId) (x29 : NI) : va_W := [(x0, .inr (9, [.ref x1, .ref x2, .ref x3, .ref x4, .ref x5, .null, .int x6, .int x7, .int x8, .int x9, .int x10, .int x11])), (x12, .inl (x13, 50, .inl x14)), (x15, .inl (x16, 50, .inl x17)), (x18, .inl (x19, 50, .inl x20)), (x21, .inl (x22, 50, .inl x23)), (x24, .inl (x25, 6, .inl x26)), (x27, .inl (x28, 6, .inl x29))]
def qamH (x0 x1 : Nat) (x2 x3 x4 x5 : Value) (x6 x7 x8 : Nat) (x9 x10 : Value) (x11 : Int32) (x12 x13 : Value) (x14 : Nat) (x15 : ClassId) (x16 : NI) (x17 : Nat) (x18 : ClassId) (x19 : NI) (x20 : Nat) (x21 : ClassId) (x22 : NI) : va_W := [(x0, .inr (1, [.null, .null, .null, .null])), (x1, .inr (2, [x2, x3, x4, x5, .ref x6, .ref x7, .ref x8, x9, x10, .int x11, x12, x13])), (x14, .inl (x15, 36, .inl x16)), (x17, .inl (x18, 6, .inl x19)), (x20, .inl (x21, 6, .inl x22))]
def qa74 (x0 x1 x2 x3 x4 x5 : Nat) (x6 x7 x8 x9 : Value) (x10 x11 x12 : Nat) (x13 x14 : Value) (x15 : Int32) (x16 x17 : Value) (x18 : Nat) (x19 : ClassId) (x20 : NI) (x21 : Nat) (x22 : ClassId) (x23 : NI) (x24 : Nat) (x25 : ClassId) (x26 : NI) (x27 : Nat) (x28 : ClassId) (x29 : NI) (x30 : Nat) (x31 : ClassId) (x32 : NI) : va_W := [(x0, .inr (1, [.ref x1, .ref x2, .ref x3, .ref x4])), (x5, .inr (2, [x6, x7, x8, x9, .ref x10, .ref x11, .ref x12, x13, x14, .int x15, x16, x17])), (x18, .inl (x19, 36, .inl x20)), (x21, .inl (x22, 6, .inl x23)), (x24, .inl (x25, 6, .inl x26)), (x27, .inl (x28, 64, .inl x29)), (x30, .inl (x31, 6, .inl x32))]
def qbaT (x0 x1 : Nat) (x2 x3 x4 x5 : Value) (x6 x7 x8 : Nat) (x9 x10 : Value) (x11 : Int32) (x12 x13 : Value) (x14 : Nat) (x15 : ClassId) (x16 : NI) (x17 : Nat) (x18 : ClassId) (x19 : NI) (x20 : Nat) (x21 : ClassId) (x22 : NI) (x23 : Nat) (x24 : ClassId) (x25 : NI) : va_W := [(x0, .inr (1, [.null, .null, .null, .null])), (x1, .inr (2, [x2, x3, x4, x5, .ref x6, .ref x7, .ref x8, x9, x10, .int x11, x12, x13])), (x14, .inl (x15, 36, .inl x16)), (x17, .inl (x18, 6, .inl x19)), (x20, .inl (x21, 6, .inl x22)), (x23, .inl (x24, 64, .inl x25))]
def qbad (x0 x1 x2 : Nat) (x3 x4 x5 x6 : Value) (x7 x8 x9 : Nat) (x10 x11 : Value) (x12 : Int32) (x13 x14 : Value) (x15 : Nat) (x16 : ClassId) (x17 : NI) (x18 : Nat) (x19 : ClassId) (x20 : NI) (x21 : Nat) (x22 : ClassId) (x23 : NI) (x24 : Nat) (x25 : ClassId) (x26 : NI) : va_W := [(x0, .inr (1, [.ref x1, .null, .null, .null])), (x2, .inr (2, [x3, x4, x5, x6, .ref x7, .ref x8, .ref x9, x10, x11, .int x12, x13, x14])), (x15, .inl (x16, 36, .inl x17)), (x18, .inl (x19, 6, .inl x20)), (x21, .inl (x22, 6, .inl x23)), (x24, .inl (x25, 64, .inl x26))]
def qa9s (x0 x1 x2 : Nat) (x3 x4 x5 x6 : Value) (x7 x8 x9 : Nat) (x10 x11 : Value) (x12 : Int32) (x13 x14 : Value) (x15 : Nat) (x16 : ClassId) (x17 : NI) (x18 : Nat) (x19 : ClassId) (x20 : NI) (x21 : Nat) (x22 : ClassId) (x23 : NI) (x24 : Nat) (x25 : ClassId) (x26 : NI) (x27 : Nat) (x28 : ClassId) (x29 : NI) : va_W := [(x0, .inr (1, [.ref x1, .null, .null, .null])), (x2, .inr (2, [x3, x4, x5, x6, .ref x7, .ref x8, .ref x9, x10, x11, .int x12, x13, x14])), (x15, .inl (x16, 36, .inl x17)), (x18, .inl (x19, 6, .inl x20)), (x21, .inl (x22, 6, .inl x23)), (x24, .inl (x25, 64, .inl x26)), (x27, .inl (x28, 6, .inl x29))]
def qa1g (x0 x1 x2 x3 : Nat) (x4 x5 x6 x7 : Value) (x8 x9 x10 : Nat) (x11 x12 : Value) (x13 : Int32) (x14 x15 : Value) (x16 : Nat) (x17 : ClassId) (x18 : NI) (x19 : Nat) (x20 : ClassId) (x21 : NI) (x22 : Nat) (x23 : ClassId) (x24 : NI) (x25 : Nat) (x26 : ClassId) (x27 : NI) (x28 : Nat) (x29 : ClassId) (x30 : NI) : va_W := [(x0, .inr (1, [.ref x1, .ref x2, .null, .null])), (x3, .inr (2, [x4, x5, x6, x7, .ref x8, .ref x9, .ref x10, x11, x12, .int x13, x14, x15])), (x16, .inl (x17, 36, .inl x18)), (x19, .inl (x20, 6, .inl x21)), (x22, .inl (x23, 6, .inl x24)), (x25, .inl (x26, 64, .inl x27)), (x28, .inl (x29, 6, .inl x30))]
def qbce (x0 x1 x2 x3 : Nat) (x4 : ClassId) (x5 : NI) (x6 : Nat) (x7 x8 x9 x10 : Value) (x11 x12 x13 : Nat) (x14 x15 : Value) (x16 : Int32) (x17 x18 : Value) (x19 : Nat) (x20 : ClassId) (x21 : NI) (x22 : Nat) (x23 : ClassId) (x24 : NI) (x25 : Nat) (x26 : ClassId) (x27 : NI) : va_W := [(x0, .inr (1, [.ref x1, .ref x2, .null, .null])), (x3, .inl (x4, 64, .inl x5)), (x6, .inr (2, [x7, x8, x9, x10, .ref x11, .ref x12, .ref x13, x14, x15, .int x16, x17, x18])), (x19, .inl (x20, 36, .inl x21)), (x22, .inl (x23, 6, .inl x24)), (x25, .inl (x26, 6, .inl x27))]
theorem qU1 : ∀ w ∈ u_ws RX2 TX2 12, w ∈ wsX2_seenFrom := uiM qCF qLp (by decide +kernel)
theorem qac5 : (.fieldLink RX2 33 "MarchHares$Down" "near" "[I" : Cond) ∈ wsX2_seenFrom := qCF 195 (by decide +kernel)
theorem qahK : (.fieldLink RX2 36 "MarchHares$Down" "forms" "I" : Cond) ∈ wsX2_seenFrom := qCF 720 (by decide +kernel)
theorem q0k : (.initialized RX10 : Cond) ∈ wsX2_seenFrom := qCF 2 (by decide +kernel)
theorem qRy : (.static yX10_holds : Cond) ∈ wsX2_seenFrom := qCF 2052 (by decide +kernel)
set_option maxHeartbeats 4000000 in
set_option maxRecDepth 100000 in
theorem qVA {p : Program} {l : Launch} {e : Env} {s : State} {m : MethodId} {args : Array Value} {below : List Frame} {meth : Method} {c : Code} {A : Nat → Prop} (dC : Nat → ClassId) (dI : Nat → Nat → Nat) (cyB cyI cyJ cyP : ClassId) (a0 jmE : Nat) (jmz jmA jlc jld jkJ jiU jj1 ja4 jaP jkk : Value) (jaN : Int32) (jmJ : NI) (Q : Int32 → Prop) (K4 : Int32 → Int32 → Int32 → Prop) (hK4 : ∀ (H : Heap) (locs : List Loc) (ls : Array Slot) (l1 l2 l3 : Int32), va_P (dC, dI) vwCl (qJg a0 jmz jmA jlc jld jkJ jiU jj1 jmE jaN ja4 jaP jkk jmE cyI jmJ) H → va_D A (qJg a0 jmz jmA jlc jld jkJ jiU jj1 jmE jaN ja4 jaP jkk jmE cyI jmJ) → va_S A s.heap H locs → lv_has ls 4 [(0, .ref a0), (1, .int l1), (2, .int l2), (3, .int l3)] → K4 l1 l2 l3 → W p l e (headSpec wsX2_seenFrom ({ frames := 1, cells := 0, slots := 0, locals := 21 })).room s m args below meth c H locs 0 0 (MQ below (va_Qi (fun (r : Int32) (_ : Unit) => Q r ) (cB (dC, dI) (kT cyB cyI cyJ cyP) A (fun u : Unit => ((qJg a0 jmz jmA jlc jld jkJ jiU jj1 jmE jaN ja4 jaP jkk jmE cyI jmJ) : va_W))) A) args s 0 0 A) (F0 m 4 ls [])) (C0 : cfx p s m args meth c cX2_seenFrom (some .int) wsX2_seenFrom RX2 4 A (dC, dI) (kT cyB cyI cyJ cyP)) : ∀ (H : Heap) (locs : List Loc) (ls : Array Slot) (l1 l2 l3 : Int32), va_P (dC, dI) vwCl (qJg a0 jmz jmA jlc jld jkJ jiU jj1 jmE jaN ja4 jaP jkk jmE cyI jmJ) H → va_D A (qJg a0 jmz jmA jlc jld jkJ jiU jj1 jmE jaN ja4 jaP jkk jmE cyI jmJ) → va_S A s.heap H locs → lv_has ls 4 [(0, .ref a0), (1, .int l1), (2, .int l2), (3, .int l3)] → qJD jaN jmJ Q K4 l1 l2 l3 → W p l e (headSpec wsX2_seenFrom ({ frames := 1, cells := 0, slots := 0, locals := 21 })).room s m args below meth c H locs 0 0 (MQ below (va_Qi (fun (r : Int32) (_ : Unit) => Q r ) (cB (dC, dI) (kT cyB cyI cyJ cyP) A (fun u : Unit => ((qJg a0 jmz jmA jlc jld jkJ jiU jj1 jmE jaN ja4 jaP jkk jmE cyI jmJ) : va_W))) A) args s 0 0 A) (F0 m 29 ls []) := by
  obtain ⟨hx, hb, hr, hts, hown, hlocks, hml, hA, hK, hNw⟩ := id C0
  intro H locs ls l1 l2 l3 hP hD hS hl hw
  obtain ⟨x6, ex6⟩ : ∃ y : Int32, y = l3 + 1 := ⟨_, rfl⟩
  have hw := hw x6 ex6
  refine lv_iinc (v := x6) (lv' := [(3, .int x6), (0, .ref a0), (1, .int l1), (2, .int l2)]) hx hb (qaa qta 3 rfl) hl (k := 3) rfl (by rw [ex6]; rfl) (by decide) rfl (fun ls hl => ?_)
  refine lv_goto (tgt := 4) hx hb (qaa qta 4 rfl) (by decide) ?_
  exact hK4 _ _ _ l1 l2 x6 hP hD hS (lv_sub hl [1, 2, 3, 0] rfl) hw
set_option maxHeartbeats 4000000 in
set_option maxRecDepth 100000 in
theorem qaqK {p : Program} {l : Launch} {e : Env} {s : State} {m : MethodId} {args : Array Value} {below : List Frame} {meth : Method} {c : Code} {A : Nat → Prop} (dC : Nat → ClassId) (dI : Nat → Nat → Nat) (cyB cyI cyJ cyP : ClassId) (a0 jmE : Nat) (jmz jmA jlc jld jkJ jiU jj1 ja4 jaP jkk : Value) (jaN : Int32) (jmJ : NI) (Q : Int32 → Prop) (C0 : cfx p s m args meth c cX2_seenFrom (some .int) wsX2_seenFrom RX2 4 A (dC, dI) (kT cyB cyI cyJ cyP)) : ∀ (n : Nat) (H : Heap) (locs : List Loc) (ls : Array Slot) (l1 l2 l3 : Int32), va_P (dC, dI) vwCl (qJg a0 jmz jmA jlc jld jkJ jiU jj1 jmE jaN ja4 jaP jkk jmE cyI jmJ) H → va_D A (qJg a0 jmz jmA jlc jld jkJ jiU jj1 jmE jaN ja4 jaP jkk jmE cyI jmJ) → va_S A s.heap H locs → lv_has ls 4 [(0, .ref a0), (1, .int l1), (2, .int l2), (3, .int l3)] → qsw jaN jmJ Q n l1 l2 l3 → W p l e (headSpec wsX2_seenFrom ({ frames := 1, cells := 0, slots := 0, locals := 21 })).room s m args below meth c H locs 0 0 (MQ below (va_Qi (fun (r : Int32) (_ : Unit) => Q r ) (cB (dC, dI) (kT cyB cyI cyJ cyP) A (fun u : Unit => ((qJg a0 jmz jmA jlc jld jkJ jiU jj1 jmE jaN ja4 jaP jkk jmE cyI jmJ) : va_W))) A) args s 0 0 A) (F0 m 4 ls []) := by
  obtain ⟨hx, hb, hr, hts, hown, hlocks, hml, hA, hK, hNw⟩ := id C0
  intro n
  induction n with
  | zero => intro H locs ls l1 l2 l3 hP hD hS hl hw; exact False.elim hw
  | succ n ih =>
    intro H locs ls l1 l2 l3 hP hD hS hl hw
    refine lv_iload_n hx hb (qaa qfC 4 rfl) rfl (lv_at hl 3 rfl) ?_
    refine lv_aload_n hx hb (qaa qfC 5 rfl) rfl (lv_at hl 0 rfl) ?_
    refine va_get (D := (dC, dI)) (ci := 2) (v := .int jaN) (C := RX2) (T := TX2) (N := 12) hx hb hts qU1 hown hK hP 0 rfl rfl 8 (by decide) (hts _ qahK) (fun _ h9 => h9) rfl (qaa qfC 6 rfl) ?_
    refine lv_icmp_ge (tgt := 35) hx hb (qaa qfC 7 rfl) (by decide) (fun c1 => ?_) (fun c1 => ?_)
    · have hw := hw.1 c1
      refine lv_iload_n hx hb (qaa qta 5 rfl) rfl (lv_at hl 2 rfl) ?_
      exact ((W.iret (v := l2) hx hb hr (fun t ht hW => ⟨⟨l2, (), rfl, hw, by rw [ht]; exact hP, va_K.moved hW.alike hK, hD⟩, hS.F ht⟩) hS.2.2 (qaa qta 6 rfl)))
    · have hw := hw.2 c1
      refine lv_iload_n hx hb (qaa qfC 8 rfl) rfl (lv_at hl 1 rfl) ?_
      refine lv_iload_n hx hb (qaa qfC 9 rfl) rfl (lv_at hl 3 rfl) ?_
      obtain ⟨hCc, hPc, hDc, hFc⟩ := qac (ws' := []) hP hD hS hA [] (by decide +kernel) rfl
      refine va_calli (va_runSN (As := [.int l1, .int l3]) (rest := []) ⟨hx, hb, hml, hown, hts⟩ (qnv l dC dI cyB cyI cyJ cyP H.size l1 l3 hw) ⟨(va_cnB 2 hts gX2_seenFrom_X10_holds_n114 rfl rfl rfl (qbbT hNw) (hts _ q0k) (by decide +kernel) ⟨nbq rfl, nbq rfl⟩), (hts _ qRy), trivial⟩ ⟨qab, qae hPc hK hDc hNw⟩ rfl rfl hl.1 rfl (lv_room (nbq rfl)) (qaa qfC 10 rfl) ⟨nbq rfl, nbq rfl⟩) hS (fun q _ h => hFc q h) hFc (fun r2 u t H1 locs ht hvm hw hB hz1 hk1 hS => ?_)
      obtain ⟨hP1, hK1, hD1⟩ := hB
      rw [ht] at hP1
      obtain ⟨hP, hD⟩ := qah (wr := (qJg a0 jmz jmA jlc jld jkJ jiU jj1 jmE jaN ja4 jaP jkk jmE cyI jmJ)) (w1 := []) (wn := (qJg a0 jmz jmA jlc jld jkJ jiU jj1 jmE jaN ja4 jaP jkk jmE cyI jmJ)) hP hD [] [0, 1] hCc rfl (by decide +kernel) (by decide +kernel) rfl hk1 hFc hP1 hD1
      generalize H1 = H at hP hS ⊢
      refine lv_if_eq (tgt := 29) hx hb (qaa qfC 11 rfl) (by decide) (fun c3 => ?_) (fun c3 => ?_)
      · have hw := hw.1 c3
        exact qVA dC dI cyB cyI cyJ cyP a0 jmE jmz jmA jlc jld jkJ jiU jj1 ja4 jaP jkk jaN jmJ Q (qsw jaN jmJ Q n) ih C0 _ _ _ l1 l2 l3 hP hD hS (lv_sub hl [0, 1, 2, 3] rfl) hw
      · have hw := hw.2 c3
        refine lv_iload_n hx hb (qaa qfC 12 rfl) rfl (lv_at hl 2 rfl) ?_
        refine lv_aload_n hx hb (qaa qfC 13 rfl) rfl (lv_at hl 0 rfl) ?_
        refine va_get (D := (dC, dI)) (ci := 2) (v := .ref jmE) (C := RX2) (T := TX2) (N := 12) hx hb hts qU1 hown hK hP 0 rfl rfl 7 (by decide) (hts _ qac5) (fun _ h9 => h9) rfl (qaa qfC 14 rfl) ?_
        refine lv_iload_n hx hb (qaa qfC 15 rfl) rfl (lv_at hl 3 rfl) ?_
        obtain ⟨hi9, hw⟩ := hw
        refine va_iald hx hb hK hP 1 1 rfl rfl hi9 (qaa qta 0 rfl) ?_
        refine lv_topi (fun x4 ex4 => ?_)
        have hw := hw x4 ex4
        refine lv_ior hx hb (qaa qta 1 rfl) ?_
        refine lv_topi (fun x5 ex5 => ?_)
        have hw := hw x5 ex5
        refine lv_istore_n (lv' := [(2, .int x5), (0, .ref a0), (1, .int l1), (3, .int l3)]) hx hb (qaa qta 2 rfl) rfl hl (by decide) rfl (fun ls hl => ?_)
        exact qVA dC dI cyB cyI cyJ cyP a0 jmE jmz jmA jlc jld jkJ jiU jj1 ja4 jaP jkk jaN jmJ Q (qsw jaN jmJ Q n) ih C0 _ _ _ l1 x5 l3 hP hD hS (lv_sub hl [1, 2, 0, 3] rfl) hw
set_option maxHeartbeats 4000000 in
set_option maxRecDepth 100000 in
theorem qaKv (l : Launch) (dC : Nat → ClassId) (dI : Nat → Nat → Nat) (cyB cyI cyJ cyP : ClassId) (a0 jmE sz : Nat) (jmz jmA jlc jld jkJ jiU jj1 ja4 jaP jkk : Value) (jaN : Int32) (jmJ : NI) (p1 : Int32) {Q : Int32 → Prop} (hw : qTM jaN jmJ p1 Q) : Met l yX2_seenFrom wsX2_seenFrom ({ frames := 1, cells := 0, slots := 0, locals := 21 }) (va_Pc [.ref a0, .int p1] (cPc (dC, dI) (kT cyB cyI cyJ cyP) (qJg a0 jmz jmA jlc jld jkJ jiU jj1 jmE jaN ja4 jaP jkk jmE cyI jmJ) sz)) (va_Qi (fun (r : Int32) (_ : Unit) => Q r ) (cB (dC, dI) (kT cyB cyI cyJ cyP) (va_A (qJg a0 jmz jmA jlc jld jkJ jiU jj1 jmE jaN ja4 jaP jkk jmE cyI jmJ) sz) (fun u : Unit => ((qJg a0 jmz jmA jlc jld jkJ jiU jj1 jmE jaN ja4 jaP jkk jmE cyI jmJ) : va_W))) (va_A (qJg a0 jmz jmA jlc jld jkJ jiU jj1 jmE jaN ja4 jaP jkk jmE cyI jmJ) sz)) 0 0 (va_A (qJg a0 jmz jmA jlc jld jkJ jiU jj1 jmE jaN ja4 jaP jkk jmE cyI jmJ) sz) := by
  refine Met.ofW (cc := cX2_seenFrom) (maxL := 4) (ret := (some .int)) (by decide) rfl ?_
  intro p e s m args below meth c s₁ B hml hv
  obtain ⟨rfl, hsz, hP, hK, hD0, hNw⟩ := hv
  have hx := B.exec
  have hb := B.bytes
  have hr := B.returns
  have hts := atoms_spec (ws := wsX2_seenFrom) B.pre
  have hown : s.vm.findClass RX2 = some m.cls := findClass_of_methodNamed B.named
  have hlocks := B.notSynchronized
  subst hsz
  have hD := hD0.self (sz := s.heap.size)
  generalize hAe : va_A (qJg a0 jmz jmA jlc jld jkJ jiU jj1 jmE jaN ja4 jaP jkk jmE cyI jmJ) s.heap.size = A at hD ⊢
  have hA : ∀ q : Nat, s.heap.size ≤ q → A q := fun q h => by rw [← hAe]; exact Or.inr h
  have hS : va_S A s.heap s.heap [] := va_S.rf
  have hP : va_P (dC, dI) vwCl (qJg a0 jmz jmA jlc jld jkJ jiU jj1 jmE jaN ja4 jaP jkk jmE cyI jmJ) s.heap := hP
  have hl := lv_entry ([.ref a0, .int p1]) (n := 4) (nbq rfl)
  rw [lg_entry_eq]
  generalize (lg_sl ([.ref a0, .int p1]) ++ List.replicate (4 - (lg_sl ([.ref a0, .int p1])).length) Slot.unset).toArray = ls at hl ⊢
  have hl : lv_has ls 4 [(0, .ref a0), (1, .int p1)] := hl
  have C0 : cfx p s m _ meth c cX2_seenFrom (some .int) wsX2_seenFrom RX2 4 A (dC, dI) (kT cyB cyI cyJ cyP) := ⟨hx, hb, hr, hts, hown, hlocks, hml, hA, hK, hNw⟩
  clear hAe
  obtain ⟨H, hH⟩ : ∃ H, H = s.heap := ⟨_, rfl⟩
  rw [← hH] at hP ⊢
  have hS : va_S A s.heap H [] := by rw [hH]; exact va_S.rf
  have hS := hS
  refine lv_iconst (v := 0) hx hb (qaa qfC 0 rfl) (by decide) ?_
  refine lv_istore_n (lv' := [(2, .int 0), (0, .ref a0), (1, .int p1)]) hx hb (qaa qfC 1 rfl) rfl hl (by decide) rfl (fun ls hl => ?_)
  refine lv_iconst (v := 0) hx hb (qaa qfC 2 rfl) (by decide) ?_
  refine lv_istore_n (lv' := [(3, .int 0), (2, .int 0), (0, .ref a0), (1, .int p1)]) hx hb (qaa qfC 3 rfl) rfl hl (by decide) rfl (fun ls hl => ?_)
  obtain ⟨n9, hw⟩ := hw
  exact qaqK dC dI cyB cyI cyJ cyP a0 jmE jmz jmA jlc jld jkJ jiU jj1 ja4 jaP jkk jaN jmJ Q C0 n9 _ _ _ p1 0 0 hP hD hS (lv_sub hl [2, 3, 1, 0] rfl) hw
theorem qJG : ∀ w ∈ u_ws RX2 TX2 12, w ∈ wsX2_watchers := uiM qva qLp (by decide +kernel)
theorem qagH : (.fieldLink RX2 33 "MarchHares$Down" "near" "[I" : Cond) ∈ wsX2_watchers := qva 195 (by decide +kernel)
theorem qSk : (.fieldLink RX2 36 "MarchHares$Down" "forms" "I" : Cond) ∈ wsX2_watchers := qva 720 (by decide +kernel)
set_option maxHeartbeats 4000000 in
set_option maxRecDepth 100000 in
theorem qJI {p : Program} {l : Launch} {e : Env} {s : State} {m : MethodId} {args : Array Value} {below : List Frame} {meth : Method} {c : Code} {A : Nat → Prop} (dC : Nat → ClassId) (dI : Nat → Nat → Nat) (cyB cyI cyJ cyP : ClassId) (a0 jmE jha jhj : Nat) (jlc jld jkJ jiU jj1 ja4 jaP jkk : Value) (jaN : Int32) (jiS jiP : NI) (Q : Int32 → NI → Prop) (K42 : NI → Int32 → Int32 → Int32 → Prop) (hK42 : ∀ (H : Heap) (locs : List Loc) (ls : Array Slot) (jmJ : NI) (l2 l3 l4 : Int32), va_P (dC, dI) vwCl (qvU a0 jha jhj jlc jld jkJ jiU jj1 jmE jaN ja4 jaP jkk jha cyI jiS jhj cyI jiP jmE cyI jmJ) H → va_D A (qvU a0 jha jhj jlc jld jkJ jiU jj1 jmE jaN ja4 jaP jkk jha cyI jiS jhj cyI jiP jmE cyI jmJ) → va_S A s.heap H locs → lv_has ls 5 [(0, .ref a0), (2, .int l2), (3, .int l3), (4, .int l4)] → K42 jmJ l2 l3 l4 → W p l e (headSpec wsX2_watchers ({ frames := 3, cells := 0, slots := 0, locals := 78 })).room s m args below meth c H locs 0 0 (MQ below (va_Qi (fun (r : Int32) (u : NI) => Q r u) (cB (dC, dI) (kT cyB cyI cyJ cyP) A (fun u : NI => ((qvU a0 jha jhj jlc jld jkJ jiU jj1 jmE jaN ja4 jaP jkk jha cyI jiS jhj cyI jiP jmE cyI u) : va_W))) A) args s 0 0 A) (F0 m 42 ls [])) (C0 : cfx p s m args meth c cX2_watchers (some .int) wsX2_watchers RX2 5 A (dC, dI) (kT cyB cyI cyJ cyP)) : ∀ (H : Heap) (locs : List Loc) (ls : Array Slot) (jmJ : NI) (l2 l3 l4 : Int32), va_P (dC, dI) vwCl (qvU a0 jha jhj jlc jld jkJ jiU jj1 jmE jaN ja4 jaP jkk jha cyI jiS jhj cyI jiP jmE cyI jmJ) H → va_D A (qvU a0 jha jhj jlc jld jkJ jiU jj1 jmE jaN ja4 jaP jkk jha cyI jiS jhj cyI jiP jmE cyI jmJ) → va_S A s.heap H locs → lv_has ls 5 [(0, .ref a0), (2, .int l2), (3, .int l3), (4, .int l4)] → qCZ jaN jiS jiP Q K42 jmJ l2 l3 l4 → W p l e (headSpec wsX2_watchers ({ frames := 3, cells := 0, slots := 0, locals := 78 })).room s m args below meth c H locs 0 0 (MQ below (va_Qi (fun (r : Int32) (u : NI) => Q r u) (cB (dC, dI) (kT cyB cyI cyJ cyP) A (fun u : NI => ((qvU a0 jha jhj jlc jld jkJ jiU jj1 jmE jaN ja4 jaP jkk jha cyI jiS jhj cyI jiP jmE cyI u) : va_W))) A) args s 0 0 A) (F0 m 73 ls []) := by
  obtain ⟨hx, hb, hr, hts, hown, hlocks, hml, hA, hK, hNw⟩ := id C0
  intro H locs ls jmJ l2 l3 l4 hP hD hS hl hw
  obtain ⟨x12, ex12⟩ : ∃ y : Int32, y = l4 + 1 := ⟨_, rfl⟩
  have hw := hw x12 ex12
  refine lv_iinc (v := x12) (lv' := [(4, .int x12), (0, .ref a0), (2, .int l2), (3, .int l3)]) hx hb (qaa qgj 10 rfl) hl (k := 3) rfl (by rw [ex12]; rfl) (by decide) rfl (fun ls hl => ?_)
  refine lv_goto (tgt := 42) hx hb (qaa qgj 11 rfl) (by decide) ?_
  exact hK42 _ _ _ jmJ l2 l3 x12 hP hD hS (lv_sub hl [1, 2, 3, 0] rfl) hw
set_option maxHeartbeats 4000000 in
set_option maxRecDepth 100000 in
theorem qal4 {p : Program} {l : Launch} {e : Env} {s : State} {m : MethodId} {args : Array Value} {below : List Frame} {meth : Method} {c : Code} {A : Nat → Prop} (dC : Nat → ClassId) (dI : Nat → Nat → Nat) (cyB cyI cyJ cyP : ClassId) (a0 jmE jha jhj : Nat) (jlc jld jkJ jiU jj1 ja4 jaP jkk : Value) (jaN : Int32) (jiS jiP : NI) (Q : Int32 → NI → Prop) (C0 : cfx p s m args meth c cX2_watchers (some .int) wsX2_watchers RX2 5 A (dC, dI) (kT cyB cyI cyJ cyP)) : ∀ (n : Nat) (H : Heap) (locs : List Loc) (ls : Array Slot) (jmJ : NI) (l2 l3 l4 : Int32), va_P (dC, dI) vwCl (qvU a0 jha jhj jlc jld jkJ jiU jj1 jmE jaN ja4 jaP jkk jha cyI jiS jhj cyI jiP jmE cyI jmJ) H → va_D A (qvU a0 jha jhj jlc jld jkJ jiU jj1 jmE jaN ja4 jaP jkk jha cyI jiS jhj cyI jiP jmE cyI jmJ) → va_S A s.heap H locs → lv_has ls 5 [(0, .ref a0), (2, .int l2), (3, .int l3), (4, .int l4)] → qpP jaN jiS jiP Q n jmJ l2 l3 l4 → W p l e (headSpec wsX2_watchers ({ frames := 3, cells := 0, slots := 0, locals := 78 })).room s m args below meth c H locs 0 0 (MQ below (va_Qi (fun (r : Int32) (u : NI) => Q r u) (cB (dC, dI) (kT cyB cyI cyJ cyP) A (fun u : NI => ((qvU a0 jha jhj jlc jld jkJ jiU jj1 jmE jaN ja4 jaP jkk jha cyI jiS jhj cyI jiP jmE cyI u) : va_W))) A) args s 0 0 A) (F0 m 42 ls []) := by
  obtain ⟨hx, hb, hr, hts, hown, hlocks, hml, hA, hK, hNw⟩ := id C0
  intro n
  induction n with
  | zero => intro H locs ls jmJ l2 l3 l4 hP hD hS hl hw; exact False.elim hw
  | succ n ih =>
    intro H locs ls jmJ l2 l3 l4 hP hD hS hl hw
    refine lv_iload hx hb (qaa qeB 11 rfl) (lv_at hl 3 rfl) ?_
    refine lv_iload_n hx hb (qaa qeB 12 rfl) rfl (lv_at hl 1 rfl) ?_
    refine lv_icmp_ge (tgt := 79) hx hb (qaa qeB 13 rfl) (by decide) (fun c6 => ?_) (fun c6 => ?_)
    · have hw := hw.1 c6
      refine lv_iload_n hx hb (qaa qgj 12 rfl) rfl (lv_at hl 2 rfl) ?_
      exact ((W.iret (v := l3) hx hb hr (fun t ht hW => ⟨⟨l3, (jmJ), rfl, hw, by rw [ht]; exact hP, va_K.moved hW.alike hK, hD⟩, hS.F ht⟩) hS.2.2 (qaa qgj 13 rfl)))
    · have hw := hw.2 c6
      refine lv_iload hx hb (qaa qeB 14 rfl) (lv_at hl 3 rfl) ?_
      obtain ⟨hCc, hPc, hDc, hFc⟩ := qac (ws' := []) hP hD hS hA [] (by decide +kernel) rfl
      refine va_calli (va_runS (As := [.int l4]) (rest := []) ⟨hx, hb, hml, hown, hts⟩ (qx2 l dC dI cyB cyI cyJ cyP H.size l4 hw) (va_cwS 1 hts gX2_watchers_J6_bitCount_0f7a4 rfl rfl rfl (by decide +kernel) ⟨nbq rfl, nbq rfl⟩) ⟨qab, qae hPc hK hDc hNw⟩ rfl rfl hl.1 rfl (lv_room (nbq rfl)) (qaa qeB 15 rfl) ⟨nbq rfl, nbq rfl⟩) hS (fun q _ h => hFc q h) hFc (fun r7 u t H1 locs ht hvm hw hB hz1 hk1 hS => ?_)
      obtain ⟨hP1, hK1, hD1⟩ := hB
      rw [ht] at hP1
      obtain ⟨hP, hD⟩ := qah (wr := (qvU a0 jha jhj jlc jld jkJ jiU jj1 jmE jaN ja4 jaP jkk jha cyI jiS jhj cyI jiP jmE cyI jmJ)) (w1 := []) (wn := (qvU a0 jha jhj jlc jld jkJ jiU jj1 jmE jaN ja4 jaP jkk jha cyI jiS jhj cyI jiP jmE cyI jmJ)) hP hD [] [0, 1, 2, 3] hCc rfl (by decide +kernel) (by decide +kernel) rfl hk1 hFc hP1 hD1
      generalize H1 = H at hP hS ⊢
      refine lv_iload_n hx hb (qaa qgj 0 rfl) rfl (lv_at hl 2 rfl) ?_
      obtain ⟨hCc, hPc, hDc, hFc⟩ := qac (ws' := []) hP hD hS hA [] (by decide +kernel) rfl
      refine va_calli (va_runS (As := [.int l3]) (rest := [.int r7]) ⟨hx, hb, hml, hown, hts⟩ (qx2 l dC dI cyB cyI cyJ cyP H.size l3 hw) (va_cwS 1 hts gX2_watchers_J6_bitCount_0f7a4 rfl rfl rfl (by decide +kernel) ⟨nbq rfl, nbq rfl⟩) ⟨qab, qae hPc hK hDc hNw⟩ rfl rfl hl.1 rfl (lv_room (nbq rfl)) (qaa qgj 1 rfl) ⟨nbq rfl, nbq rfl⟩) hS (fun q _ h => hFc q h) hFc (fun r8 u t H1 locs ht hvm hw hB hz1 hk1 hS => ?_)
      obtain ⟨hP1, hK1, hD1⟩ := hB
      rw [ht] at hP1
      obtain ⟨hP, hD⟩ := qah (wr := (qvU a0 jha jhj jlc jld jkJ jiU jj1 jmE jaN ja4 jaP jkk jha cyI jiS jhj cyI jiP jmE cyI jmJ)) (w1 := []) (wn := (qvU a0 jha jhj jlc jld jkJ jiU jj1 jmE jaN ja4 jaP jkk jha cyI jiS jhj cyI jiP jmE cyI jmJ)) hP hD [] [0, 1, 2, 3] hCc rfl (by decide +kernel) (by decide +kernel) rfl hk1 hFc hP1 hD1
      generalize H1 = H at hP hS ⊢
      refine lv_icmp_ge (tgt := 73) hx hb (qaa qgj 2 rfl) (by decide) (fun c9 => ?_) (fun c9 => ?_)
      · have hw := hw.1 c9
        exact qJI dC dI cyB cyI cyJ cyP a0 jmE jha jhj jlc jld jkJ jiU jj1 ja4 jaP jkk jaN jiS jiP Q (qpP jaN jiS jiP Q n) ih C0 _ _ _ jmJ l2 l3 l4 hP hD hS (lv_sub hl [0, 1, 2, 3] rfl) hw
      · have hw := hw.2 c9
        refine lv_aload_n hx hb (qaa qgj 3 rfl) rfl (lv_at hl 0 rfl) ?_
        refine lv_iload hx hb (qaa qgj 4 rfl) (lv_at hl 3 rfl) ?_
        obtain ⟨hCc, hPc, hDc, hFc⟩ := qac (ws' := (qbcw a0 jha jhj jlc jld jkJ jiU jj1 jmE jaN ja4 jaP jkk jmE cyI jmJ)) hP hD hS hA [0, 3] (by decide +kernel) rfl
        refine va_calli (va_runV (As := [.int l4]) (rest := []) ⟨hx, hb, hml, hown, hts⟩ (qaKv l dC dI cyB cyI cyJ cyP a0 jmE H.size (.ref jha) (.ref jhj) (jlc) (jld) (jkJ) (jiU) (jj1) (ja4) (jaP) (jkk) jaN jmJ l4 hw) (cwV 1 hts gX2_watchers_X2_seenFrom rfl rfl rfl (by decide +kernel) ⟨nbq rfl, nbq rfl⟩) ⟨qab, va_recv (q := (RX2, TX2, 12)) hK hPc (ci := 2) (q0 := 0) rfl rfl, qae hPc hK hDc hNw⟩ rfl rfl hl.1 rfl (lv_room (nbq rfl)) (qaa qgj 5 rfl) ⟨nbq rfl, nbq rfl⟩) hS (fun q _ h => hFc q h) hFc (fun r10 u t H1 locs ht hvm hw hB hz1 hk1 hS => ?_)
        obtain ⟨hP1, hK1, hD1⟩ := hB
        rw [ht] at hP1
        obtain ⟨hP, hD⟩ := qad (wr := [(jha, .inl (cyI, 8, .inl jiS)), (jhj, .inl (cyI, 8, .inl jiP))]) (w1 := (qbcw a0 jha jhj jlc jld jkJ jiU jj1 jmE jaN ja4 jaP jkk jmE cyI jmJ)) (wn := (qvU a0 jha jhj jlc jld jkJ jiU jj1 jmE jaN ja4 jaP jkk jha cyI jiS jhj cyI jiP jmE cyI jmJ)) hP hD [0, 3] [1, 2] [2, 0, 1, 3] hCc rfl (by decide +kernel) (by decide +kernel) (by decide +kernel) rfl hk1 hFc hP1 hD1
        generalize H1 = H at hP hS ⊢
        refine lv_iload_n hx hb (qaa qgj 6 rfl) rfl (lv_at hl 1 rfl) ?_
        refine lv_icmp_ne (tgt := 73) hx hb (qaa qgj 7 rfl) (by decide) (fun c11 => ?_) (fun c11 => ?_)
        · have hw := hw.1 c11
          exact qJI dC dI cyB cyI cyJ cyP a0 jmE jha jhj jlc jld jkJ jiU jj1 ja4 jaP jkk jaN jiS jiP Q (qpP jaN jiS jiP Q n) ih C0 _ _ _ jmJ l2 l3 l4 hP hD hS (lv_sub hl [0, 1, 2, 3] rfl) hw
        · have hw := hw.2 c11
          refine lv_iload hx hb (qaa qgj 8 rfl) (lv_at hl 3 rfl) ?_
          refine lv_istore_n (lv' := [(3, .int l4), (0, .ref a0), (2, .int l2), (4, .int l4)]) hx hb (qaa qgj 9 rfl) rfl hl (by decide) rfl (fun ls hl => ?_)
          exact qJI dC dI cyB cyI cyJ cyP a0 jmE jha jhj jlc jld jkJ jiU jj1 ja4 jaP jkk jaN jiS jiP Q (qpP jaN jiS jiP Q n) ih C0 _ _ _ jmJ l2 l4 l4 hP hD hS (lv_sub hl [1, 2, 0, 3] rfl) hw
set_option maxHeartbeats 4000000 in
set_option maxRecDepth 100000 in
theorem qata {p : Program} {l : Launch} {e : Env} {s : State} {m : MethodId} {args : Array Value} {below : List Frame} {meth : Method} {c : Code} {A : Nat → Prop} (dC : Nat → ClassId) (dI : Nat → Nat → Nat) (cyB cyI cyJ cyP : ClassId) (a0 jmE jha jhj : Nat) (jlc jld jkJ jiU jj1 ja4 jaP jkk : Value) (jaN : Int32) (jiS jiP : NI) (Q : Int32 → NI → Prop) (C0 : cfx p s m args meth c cX2_watchers (some .int) wsX2_watchers RX2 5 A (dC, dI) (kT cyB cyI cyJ cyP)) : ∀ (n : Nat) (H : Heap) (locs : List Loc) (ls : Array Slot) (jmJ : NI) (l1 l2 : Int32), va_P (dC, dI) vwCl (qvU a0 jha jhj jlc jld jkJ jiU jj1 jmE jaN ja4 jaP jkk jha cyI jiS jhj cyI jiP jmE cyI jmJ) H → va_D A (qvU a0 jha jhj jlc jld jkJ jiU jj1 jmE jaN ja4 jaP jkk jha cyI jiS jhj cyI jiP jmE cyI jmJ) → va_S A s.heap H locs → lv_has ls 5 [(0, .ref a0), (1, .int l1), (2, .int l2)] → qEK jaN jiS jiP Q n jmJ l1 l2 → W p l e (headSpec wsX2_watchers ({ frames := 3, cells := 0, slots := 0, locals := 78 })).room s m args below meth c H locs 0 0 (MQ below (va_Qi (fun (r : Int32) (u : NI) => Q r u) (cB (dC, dI) (kT cyB cyI cyJ cyP) A (fun u : NI => ((qvU a0 jha jhj jlc jld jkJ jiU jj1 jmE jaN ja4 jaP jkk jha cyI jiS jhj cyI jiP jmE cyI u) : va_W))) A) args s 0 0 A) (F0 m 2 ls []) := by
  obtain ⟨hx, hb, hr, hts, hown, hlocks, hml, hA, hK, hNw⟩ := id C0
  intro n
  induction n with
  | zero => intro H locs ls jmJ l1 l2 hP hD hS hl hw; exact False.elim hw
  | succ n ih =>
    intro H locs ls jmJ l1 l2 hP hD hS hl hw
    refine lv_iload_n hx hb (qaa qf6 2 rfl) rfl (lv_at hl 2 rfl) ?_
    refine lv_aload_n hx hb (qaa qf6 3 rfl) rfl (lv_at hl 0 rfl) ?_
    refine va_get (D := (dC, dI)) (ci := 2) (v := .int jaN) (C := RX2) (T := TX2) (N := 12) hx hb hts qJG hown hK hP 0 rfl rfl 8 (by decide) (hts _ qSk) (fun _ h9 => h9) rfl (qaa qf6 4 rfl) ?_
    refine lv_icmp_ge (tgt := 28) hx hb (qaa qf6 5 rfl) (by decide) (fun c1 => ?_) (fun c1 => ?_)
    · have hw := hw.1 c1
      refine lv_iconst (v := 1) hx hb (qaa qeB 0 rfl) (by decide) ?_
      refine lv_aload_n hx hb (qaa qeB 1 rfl) rfl (lv_at hl 0 rfl) ?_
      refine va_get (D := (dC, dI)) (ci := 2) (v := .int jaN) (C := RX2) (T := TX2) (N := 12) hx hb hts qJG hown hK hP 0 rfl rfl 8 (by decide) (hts _ qSk) (fun _ h9 => h9) rfl (qaa qeB 2 rfl) ?_
      refine lv_ishl hx hb (qaa qeB 3 rfl) ?_
      refine lv_iconst (v := 1) hx hb (qaa qeB 4 rfl) (by decide) ?_
      refine lv_isub hx hb (qaa qeB 5 rfl) ?_
      refine lv_topi (fun x2 ex2 => ?_)
      have hw := hw x2 ex2
      refine lv_istore_n (lv' := [(2, .int x2), (0, .ref a0), (1, .int l1)]) hx hb (qaa qeB 6 rfl) rfl hl (by decide) rfl (fun ls hl => ?_)
      refine lv_iload_n hx hb (qaa qeB 7 rfl) rfl (lv_at hl 0 rfl) ?_
      refine lv_istore_n (lv' := [(3, .int x2), (2, .int x2), (0, .ref a0), (1, .int l1)]) hx hb (qaa qeB 8 rfl) rfl hl (by decide) rfl (fun ls hl => ?_)
      refine lv_iconst (v := 0) hx hb (qaa qeB 9 rfl) (by decide) ?_
      refine lv_istore (lv' := [(4, .int 0), (3, .int x2), (2, .int x2), (0, .ref a0), (1, .int l1)]) hx hb (qaa qeB 10 rfl) hl (by decide) rfl (fun ls hl => ?_)
      obtain ⟨n9, hw⟩ := hw
      exact qal4 dC dI cyB cyI cyJ cyP a0 jmE jha jhj jlc jld jkJ jiU jj1 ja4 jaP jkk jaN jiS jiP Q C0 n9 _ _ _ jmJ x2 x2 0 hP hD hS (lv_sub hl [3, 2, 1, 0] rfl) hw
    · have hw := hw.2 c1
      refine lv_aload_n hx hb (qaa qf6 6 rfl) rfl (lv_at hl 0 rfl) ?_
      refine va_get (D := (dC, dI)) (ci := 2) (v := .ref jmE) (C := RX2) (T := TX2) (N := 12) hx hb hts qJG hown hK hP 0 rfl rfl 7 (by decide) (hts _ qagH) (fun _ h9 => h9) rfl (qaa qf6 7 rfl) ?_
      refine lv_iload_n hx hb (qaa qf6 8 rfl) rfl (lv_at hl 2 rfl) ?_
      refine lv_aload_n hx hb (qaa qf6 9 rfl) rfl (lv_at hl 0 rfl) ?_
      refine lv_iload_n hx hb (qaa qf6 10 rfl) rfl (lv_at hl 2 rfl) ?_
      refine lv_iload_n hx hb (qaa qf6 11 rfl) rfl (lv_at hl 1 rfl) ?_
      obtain ⟨hCc, hPc, hDc, hFc⟩ := qac (ws' := (qbeg a0 jha jhj jlc jld jkJ jiU jj1 jmE jaN ja4 jaP jkk jha cyI jiS jhj cyI jiP)) hP hD hS hA [0, 1, 2] (by decide +kernel) rfl
      refine va_calli (va_runV (As := [.int l2, .int l1]) (rest := [.int l2, .ref jmE]) ⟨hx, hb, hml, hown, hts⟩ (qJN l dC dI cyB cyI cyJ cyP a0 jha jhj H.size (jlc) (jld) (jkJ) (jiU) (jj1) (.ref jmE) (ja4) (jaP) (jkk) jaN jiS jiP l2 l1 hw) (cwV 2 hts gX2_watchers_X2_formsWithin rfl rfl rfl (by decide +kernel) ⟨nbq rfl, nbq rfl⟩) ⟨qab, va_recv (q := (RX2, TX2, 12)) hK hPc (ci := 2) (q0 := 0) rfl rfl, qae hPc hK hDc hNw⟩ rfl rfl hl.1 rfl (lv_room (nbq rfl)) (qaa qf6 12 rfl) ⟨nbq rfl, nbq rfl⟩) hS (fun q _ h => hFc q h) hFc (fun r3 u t H1 locs ht hvm hw hB hz1 hk1 hS => ?_)
      obtain ⟨hP1, hK1, hD1⟩ := hB
      rw [ht] at hP1
      obtain ⟨hP, hD⟩ := qad (wr := [(jmE, .inl (cyI, 8, .inl jmJ))]) (w1 := (qbeg a0 jha jhj jlc jld jkJ jiU jj1 jmE jaN ja4 jaP jkk jha cyI jiS jhj cyI jiP)) (wn := (qvU a0 jha jhj jlc jld jkJ jiU jj1 jmE jaN ja4 jaP jkk jha cyI jiS jhj cyI jiP jmE cyI jmJ)) hP hD [0, 1, 2] [3] [1, 2, 3, 0] hCc rfl (by decide +kernel) (by decide +kernel) (by decide +kernel) rfl hk1 hFc hP1 hD1
      generalize H1 = H at hP hS ⊢
      obtain ⟨hi9, hw⟩ := hw
      refine va_iast hx hb hK hP hD hS 3 1 rfl rfl hi9 (qaa qf6 13 rfl) (fun H locs hP hD hS => ?_)
      obtain ⟨f4, ef4⟩ : ∃ y : NI, y = upd jmJ l2.toNatClampNeg r3 := ⟨_, rfl⟩
      have hw := hw f4 ef4
      have hP : va_P (dC, dI) vwCl (qvU a0 jha jhj jlc jld jkJ jiU jj1 jmE jaN ja4 jaP jkk jha cyI jiS jhj cyI jiP jmE cyI f4) H := by rw [ef4]; exact hP
      have hD : va_D A (qvU a0 jha jhj jlc jld jkJ jiU jj1 jmE jaN ja4 jaP jkk jha cyI jiS jhj cyI jiP jmE cyI f4) := by rw [ef4]; exact hD
      obtain ⟨x5, ex5⟩ : ∃ y : Int32, y = l2 + 1 := ⟨_, rfl⟩
      have hw := hw x5 ex5
      refine lv_iinc (v := x5) (lv' := [(2, .int x5), (0, .ref a0), (1, .int l1)]) hx hb (qaa qf6 14 rfl) hl (k := 2) rfl (by rw [ex5]; rfl) (by decide) rfl (fun ls hl => ?_)
      refine lv_goto (tgt := 2) hx hb (qaa qf6 15 rfl) (by decide) ?_
      exact ih _ _ _ f4 l1 x5 hP hD hS (lv_sub hl [1, 2, 0] rfl) hw
set_option maxHeartbeats 4000000 in
set_option maxRecDepth 100000 in
theorem qaFu (l : Launch) (dC : Nat → ClassId) (dI : Nat → Nat → Nat) (cyB cyI cyJ cyP : ClassId) (a0 jmE jha jhj sz : Nat) (jlc jld jkJ jiU jj1 ja4 jaP jkk : Value) (jaN : Int32) (jiS jiP jmJ : NI) (p1 : Int32) {Q : Int32 → NI → Prop} (hw : qUt jaN jiS jiP jmJ p1 Q) : Met l yX2_watchers wsX2_watchers ({ frames := 3, cells := 0, slots := 0, locals := 78 }) (va_Pc [.ref a0, .int p1] (cPc (dC, dI) (kT cyB cyI cyJ cyP) (qvU a0 jha jhj jlc jld jkJ jiU jj1 jmE jaN ja4 jaP jkk jha cyI jiS jhj cyI jiP jmE cyI jmJ) sz)) (va_Qi (fun (r : Int32) (u : NI) => Q r u) (cB (dC, dI) (kT cyB cyI cyJ cyP) (va_A (qvU a0 jha jhj jlc jld jkJ jiU jj1 jmE jaN ja4 jaP jkk jha cyI jiS jhj cyI jiP jmE cyI jmJ) sz) (fun u : NI => ((qvU a0 jha jhj jlc jld jkJ jiU jj1 jmE jaN ja4 jaP jkk jha cyI jiS jhj cyI jiP jmE cyI u) : va_W))) (va_A (qvU a0 jha jhj jlc jld jkJ jiU jj1 jmE jaN ja4 jaP jkk jha cyI jiS jhj cyI jiP jmE cyI jmJ) sz)) 0 0 (va_A (qvU a0 jha jhj jlc jld jkJ jiU jj1 jmE jaN ja4 jaP jkk jha cyI jiS jhj cyI jiP jmE cyI jmJ) sz) := by
  refine Met.ofW (cc := cX2_watchers) (maxL := 5) (ret := (some .int)) (by decide) rfl ?_
  intro p e s m args below meth c s₁ B hml hv
  obtain ⟨rfl, hsz, hP, hK, hD0, hNw⟩ := hv
  have hx := B.exec
  have hb := B.bytes
  have hr := B.returns
  have hts := atoms_spec (ws := wsX2_watchers) B.pre
  have hown : s.vm.findClass RX2 = some m.cls := findClass_of_methodNamed B.named
  have hlocks := B.notSynchronized
  subst hsz
  have hD := hD0.self (sz := s.heap.size)
  generalize hAe : va_A (qvU a0 jha jhj jlc jld jkJ jiU jj1 jmE jaN ja4 jaP jkk jha cyI jiS jhj cyI jiP jmE cyI jmJ) s.heap.size = A at hD ⊢
  have hA : ∀ q : Nat, s.heap.size ≤ q → A q := fun q h => by rw [← hAe]; exact Or.inr h
  have hS : va_S A s.heap s.heap [] := va_S.rf
  have hP : va_P (dC, dI) vwCl (qvU a0 jha jhj jlc jld jkJ jiU jj1 jmE jaN ja4 jaP jkk jha cyI jiS jhj cyI jiP jmE cyI jmJ) s.heap := hP
  have hl := lv_entry ([.ref a0, .int p1]) (n := 5) (nbq rfl)
  rw [lg_entry_eq]
  generalize (lg_sl ([.ref a0, .int p1]) ++ List.replicate (5 - (lg_sl ([.ref a0, .int p1])).length) Slot.unset).toArray = ls at hl ⊢
  have hl : lv_has ls 5 [(0, .ref a0), (1, .int p1)] := hl
  have C0 : cfx p s m _ meth c cX2_watchers (some .int) wsX2_watchers RX2 5 A (dC, dI) (kT cyB cyI cyJ cyP) := ⟨hx, hb, hr, hts, hown, hlocks, hml, hA, hK, hNw⟩
  clear hAe
  obtain ⟨H, hH⟩ : ∃ H, H = s.heap := ⟨_, rfl⟩
  rw [← hH] at hP ⊢
  have hS : va_S A s.heap H [] := by rw [hH]; exact va_S.rf
  have hS := hS
  refine lv_iconst (v := 0) hx hb (qaa qf6 0 rfl) (by decide) ?_
  refine lv_istore_n (lv' := [(2, .int 0), (0, .ref a0), (1, .int p1)]) hx hb (qaa qf6 1 rfl) rfl hl (by decide) rfl (fun ls hl => ?_)
  obtain ⟨n9, hw⟩ := hw
  exact qata dC dI cyB cyI cyJ cyP a0 jmE jha jhj jlc jld jkJ jiU jj1 ja4 jaP jkk jaN jiS jiP Q C0 n9 _ _ _ jmJ p1 0 hP hD hS (lv_sub hl [1, 2, 0] rfl) hw
theorem qapZ : ∀ w ∈ u_ws RX10 TX10 19, w ∈ wsX10_watch := uiM qJ3 qyN (by decide +kernel)
theorem qarT : (.fieldLink RX10 19 "MarchHares" "ground" "LMarchHares$Down;" : Cond) ∈ wsX10_watch := qJ3 20 (by decide +kernel)
set_option maxHeartbeats 4000000 in
set_option maxRecDepth 100000 in
theorem qaTa (l : Launch) (dC : Nat → ClassId) (dI : Nat → Nat → Nat) (cyB cyI cyJ cyP : ClassId) (a0 jaR jbs jbt jmB sz : Nat) (jaK ja1 jcp jbc jbV ja3 jbH ja2 jbO jaq jac jbI jbl jbn jba jaa jbA jbo jbp jbk jbj jbf jgP jbi jcd : Value) (jbE : Int32) (jci jcj : NI) (jbz : Int32) (jol : NI) (p1 : Int32) {E : String → Int32 → NI → Prop} {Q : Int32 → Int32 → NI → Prop} (hw : q01 jbE jci jcj jbz jol p1 E Q) : vx_Met l yX10_watch wsX10_watch ({ frames := 8, cells := 1, slots := 6, locals := 164 }) (va_Pc [.ref a0, .int p1] (cPx l (dC, dI) (kT cyB cyI cyJ cyP) (qNB a0 jaK jaR ja1 jcp jbc jbV ja3 jbH ja2 jbO jaq jac jbI jbl jbn jba jaa jbA jbz jaR jbs jbt jbo jbp jbk jbj jbf jmB jbE jgP jbi jcd jbs cyI jci jbt cyI jcj jmB cyI jol) sz)) (va_Qi (fun (r : Int32) (u : Int32 × NI) => Q r u.1 u.2) (cB (dC, dI) (kT cyB cyI cyJ cyP) (va_A (qNB a0 jaK jaR ja1 jcp jbc jbV ja3 jbH ja2 jbO jaq jac jbI jbl jbn jba jaa jbA jbz jaR jbs jbt jbo jbp jbk jbj jbf jmB jbE jgP jbi jcd jbs cyI jci jbt cyI jcj jmB cyI jol) sz) (fun u : Int32 × NI => ((qNB a0 jaK jaR ja1 jcp jbc jbV ja3 jbH ja2 jbO jaq jac jbI jbl jbn jba jaa jbA u.1 jaR jbs jbt jbo jbp jbk jbj jbf jmB jbE jgP jbi jcd jbs cyI jci jbt cyI jcj jmB cyI u.2) : va_W))) (va_A (qNB a0 jaK jaR ja1 jcp jbc jbV ja3 jbH ja2 jbO jaq jac jbI jbl jbn jba jaa jbA jbz jaR jbs jbt jbo jbp jbk jbj jbf jmB jbE jgP jbi jcd jbs cyI jci jbt cyI jcj jmB cyI jol) sz)) (vx_X (fun _ => True) (fun (en : String) (u : Int32 × NI) (t : State) => E en u.1 u.2 ∧ cB (dC, dI) (kT cyB cyI cyJ cyP) (va_A (qNB a0 jaK jaR ja1 jcp jbc jbV ja3 jbH ja2 jbO jaq jac jbI jbl jbn jba jaa jbA jbz jaR jbs jbt jbo jbp jbk jbj jbf jmB jbE jgP jbi jcd jbs cyI jci jbt cyI jcj jmB cyI jol) sz) (fun u : Int32 × NI => ((qNB a0 jaK jaR ja1 jcp jbc jbV ja3 jbH ja2 jbO jaq jac jbI jbl jbn jba jaa jbA u.1 jaR jbs jbt jbo jbp jbk jbj jbf jmB jbE jgP jbi jcd jbs cyI jci jbt cyI jcj jmB cyI u.2) : va_W)) u t) (va_A (qNB a0 jaK jaR ja1 jcp jbc jbV ja3 jbH ja2 jbO jaq jac jbI jbl jbn jba jaa jbA jbz jaR jbs jbt jbo jbp jbk jbj jbf jmB jbE jgP jbi jcd jbs cyI jci jbt cyI jcj jmB cyI jol) sz)) 1 6 (va_A (qNB a0 jaK jaR ja1 jcp jbc jbV ja3 jbH ja2 jbO jaq jac jbI jbl jbn jba jaa jbA jbz jaR jbs jbt jbo jbp jbk jbj jbf jmB jbE jgP jbi jcd jbs cyI jci jbt cyI jcj jmB cyI jol) sz) := by
  refine vx_ofW (cc := cX10_watch) (maxL := 2) (ret := (some .int)) (by decide) rfl ?_
  intro p e s m args below meth c s₁ B hml hnt hv
  obtain ⟨rfl, hsz, hP, hK, hD0, hNw, hXl, hXu, hXn, hXt⟩ := hv
  have hx := B.exec
  have hb := B.bytes
  have hr := B.returns
  have hts := atoms_spec (ws := wsX10_watch) B.pre
  have hown : s.vm.findClass RX10 = some m.cls := findClass_of_methodNamed B.named
  have hlocks := B.notSynchronized
  subst hsz
  have hD := hD0.self (sz := s.heap.size)
  generalize hAe : va_A (qNB a0 jaK jaR ja1 jcp jbc jbV ja3 jbH ja2 jbO jaq jac jbI jbl jbn jba jaa jbA jbz jaR jbs jbt jbo jbp jbk jbj jbf jmB jbE jgP jbi jcd jbs cyI jci jbt cyI jcj jmB cyI jol) s.heap.size = A at hD hXu hXn ⊢
  have hA : ∀ q : Nat, s.heap.size ≤ q → A q := fun q h => by rw [← hAe]; exact Or.inr h
  have hS : va_S A s.heap s.heap [] := va_S.rf
  have hP : va_P (dC, dI) vwCl (qNB a0 jaK jaR ja1 jcp jbc jbV ja3 jbH ja2 jbO jaq jac jbI jbl jbn jba jaa jbA jbz jaR jbs jbt jbo jbp jbk jbj jbf jmB jbE jgP jbi jcd jbs cyI jci jbt cyI jcj jmB cyI jol) s.heap := hP
  have hl := lv_entry ([.ref a0, .int p1]) (n := 2) (nbq rfl)
  rw [lg_entry_eq]
  generalize (lg_sl ([.ref a0, .int p1]) ++ List.replicate (2 - (lg_sl ([.ref a0, .int p1])).length) Slot.unset).toArray = ls at hl ⊢
  have hl : lv_has ls 2 [(0, .ref a0), (1, .int p1)] := hl
  have hY : cfY l s A := ⟨hXl, hXu, hXn, hXt⟩
  have hXs : cfX l s c A := ⟨hnt, hY⟩
  have C0 : cfx p s m _ meth c cX10_watch (some .int) wsX10_watch RX10 2 A (dC, dI) (kT cyB cyI cyJ cyP) ∧ cfX l s c A := ⟨⟨hx, hb, hr, hts, hown, hlocks, hml, hA, hK, hNw⟩, hXs⟩
  clear hAe
  obtain ⟨H, hH⟩ : ∃ H, H = s.heap := ⟨_, rfl⟩
  rw [← hH] at hP ⊢
  have hS : va_S A s.heap H [] := by rw [hH]; exact va_S.rf
  have hS := hS
  refine lv_aload_n hx hb (qaa qrG 0 rfl) rfl (lv_at hl 0 rfl) ?_
  refine lv_iload_n hx hb (qaa qrG 1 rfl) rfl (lv_at hl 1 rfl) ?_
  refine lv_iconst (v := 0) hx hb (qaa qrG 2 rfl) (by decide) ?_
  refine lv_bipush (v := 60) hx hb (qaa qrG 3 rfl) (by decide) ?_
  obtain ⟨hCc, hPc, hDc, hFc⟩ := qac (ws' := (qa0O a0 jaK jaR ja1 jcp jbc jbV ja3 jbH ja2 jbO jaq jac jbI jbl jbn jba jaa jbA jbz)) hP hD hS hA [0] (by decide +kernel) rfl
  refine vx_callv (vx_runV (As := [.int p1, .int 0, .int 60]) (rest := []) ⟨hx, hb, hml, hown, hts⟩ (qaV l dC dI cyB cyI cyJ cyP a0 H.size (jaK) (.ref jaR) (ja1) (jcp) (jbc) (jbV) (ja3) (jbH) (ja2) (jbO) (jaq) (jac) (jbI) (jbl) (jbn) (jba) (jaa) (jbA) jbz p1 0 60 hw) (cwV 3 hts gX10_watch_X10_needWithin rfl rfl rfl (by decide +kernel) ⟨nbq rfl, nbq rfl⟩) ⟨qav, va_recv (q := (RX10, TX10, 19)) hK hPc (ci := 10) (q0 := 0) rfl rfl, qbl hPc hK hDc hNw hY hS hFc⟩ rfl rfl hl.1 rfl (lv_room (nbq rfl)) (qaa qrG 4 rfl) ⟨nbq rfl, nbq rfl⟩) hS (fun q _ h => hFc q h) hFc (fun q _ h => hFc q h) (fun en ce q9 u t H1 locs ht hvm hpx hB hz1 hk1 hS hc9 hv9 hcl9 => ?_) (fun u t H1 locs ht hvm hw hB hz1 hk1 hS => ?_)
  · obtain ⟨x1, rfl⟩ : ∃ z, z = u := ⟨_, rfl⟩
    obtain ⟨hw, hP1, hK1, hD1⟩ := hB
    rw [ht] at hP1
    obtain ⟨hP, hD⟩ := qad (wr := (qvU jaR jbs jbt jbo jbp jbk jbj jbf jmB jbE jgP jbi jcd jbs cyI jci jbt cyI jcj jmB cyI jol)) (w1 := (qa0O a0 jaK jaR ja1 jcp jbc jbV ja3 jbH ja2 jbO jaq jac jbI jbl jbn jba jaa jbA x1)) (wn := (qNB a0 jaK jaR ja1 jcp jbc jbV ja3 jbH ja2 jbO jaq jac jbI jbl jbn jba jaa jbA x1 jaR jbs jbt jbo jbp jbk jbj jbf jmB jbE jgP jbi jcd jbs cyI jci jbt cyI jcj jmB cyI jol)) hP hD [0] [1, 2, 3, 4] [4, 0, 1, 2, 3] hCc rfl (by decide +kernel) (by decide +kernel) (by decide +kernel) rfl hk1 hFc hP1 hD1
    generalize H1 = H at hP hS hc9 ⊢
    exact vx_out (fun x hx9 => (hXs.1 x hx9).elim) hlocks hc9 hv9 hcl9 (fun t2 ht2 hal2 => ⟨(x1, jol), trivial, ⟨hw, by rw [ht2]; exact hP, va_K.moved hal2 hK, hD⟩, hS.F ht2⟩) hS.2.2 (nbq rfl) (nbq rfl)
  obtain ⟨x1, rfl⟩ : ∃ z, z = u := ⟨_, rfl⟩
  obtain ⟨hP1, hK1, hD1⟩ := hB
  rw [ht] at hP1
  obtain ⟨hP, hD⟩ := qad (wr := (qvU jaR jbs jbt jbo jbp jbk jbj jbf jmB jbE jgP jbi jcd jbs cyI jci jbt cyI jcj jmB cyI jol)) (w1 := (qa0O a0 jaK jaR ja1 jcp jbc jbV ja3 jbH ja2 jbO jaq jac jbI jbl jbn jba jaa jbA x1)) (wn := (qNB a0 jaK jaR ja1 jcp jbc jbV ja3 jbH ja2 jbO jaq jac jbI jbl jbn jba jaa jbA x1 jaR jbs jbt jbo jbp jbk jbj jbf jmB jbE jgP jbi jcd jbs cyI jci jbt cyI jcj jmB cyI jol)) hP hD [0] [1, 2, 3, 4] [4, 0, 1, 2, 3] hCc rfl (by decide +kernel) (by decide +kernel) (by decide +kernel) rfl hk1 hFc hP1 hD1
  generalize H1 = H at hP hS ⊢
  refine lv_aload_n hx hb (qaa qrG 5 rfl) rfl (lv_at hl 0 rfl) ?_
  refine va_get (D := (dC, dI)) (ci := 10) (v := .ref jaR) (C := RX10) (T := TX10) (N := 19) hx hb hts qapZ hown hK hP 0 rfl rfl 1 (by decide) (hts _ qarT) (fun _ h9 => h9) rfl (qaa qrG 6 rfl) ?_
  refine lv_iload_n hx hb (qaa qrG 7 rfl) rfl (lv_at hl 1 rfl) ?_
  obtain ⟨hCc, hPc, hDc, hFc⟩ := qac (ws' := (qvU jaR jbs jbt jbo jbp jbk jbj jbf jmB jbE jgP jbi jcd jbs cyI jci jbt cyI jcj jmB cyI jol)) hP hD hS hA [1, 2, 3, 4] (by decide +kernel) rfl
  refine va_calli (va_runV (As := [.int p1]) (rest := []) ⟨hx, hb, hml, hown, hts⟩ (qaFu l dC dI cyB cyI cyJ cyP jaR jmB jbs jbt H.size (jbo) (jbp) (jbk) (jbj) (jbf) (jgP) (jbi) (jcd) jbE jci jcj jol p1 hw) (cwV 1 hts gX10_watch_X2_watchers rfl rfl rfl (by decide +kernel) ⟨nbq rfl, nbq rfl⟩) ⟨qab, va_recv (q := (RX2, TX2, 12)) hK hPc (ci := 2) (q0 := 0) rfl rfl, qae hPc hK hDc hNw⟩ rfl rfl hl.1 rfl (lv_room (nbq rfl)) (qaa qrG 8 rfl) ⟨nbq rfl, nbq rfl⟩) hS (fun q _ h => hFc q h) hFc (fun r3 u t H1 locs ht hvm hw hB hz1 hk1 hS => ?_)
  obtain ⟨f2, rfl⟩ : ∃ z, z = u := ⟨_, rfl⟩
  obtain ⟨hP1, hK1, hD1⟩ := hB
  rw [ht] at hP1
  obtain ⟨hP, hD⟩ := qah (wr := (qa0O a0 jaK jaR ja1 jcp jbc jbV ja3 jbH ja2 jbO jaq jac jbI jbl jbn jba jaa jbA x1)) (w1 := (qvU jaR jbs jbt jbo jbp jbk jbj jbf jmB jbE jgP jbi jcd jbs cyI jci jbt cyI jcj jmB cyI f2)) (wn := (qNB a0 jaK jaR ja1 jcp jbc jbV ja3 jbH ja2 jbO jaq jac jbI jbl jbn jba jaa jbA x1 jaR jbs jbt jbo jbp jbk jbj jbf jmB jbE jgP jbi jcd jbs cyI jci jbt cyI jcj jmB cyI f2)) hP hD [1, 2, 3, 4] [0] hCc rfl (by decide +kernel) (by decide +kernel) rfl hk1 hFc hP1 hD1
  generalize H1 = H at hP hS ⊢
  exact vx_ret (W.widen (k := 1) (n := 6) (nbq rfl) (nbq rfl) (W.iret (v := r3) hx hb hr (fun t ht hW => ⟨⟨r3, (x1, f2), rfl, hw, by rw [ht]; exact hP, va_K.moved hW.alike hK, hD⟩, hS.F ht⟩) hS.2.2 (qaa qrG 9 rfl)))
theorem qaz0 : (.classLink RL 13 "java/lang/IllegalArgumentException" : Cond) ∈ wsL_watch := qafI 595 (by decide +kernel)
theorem qaOL : (.codeWith yL_watch cL_watch 4 (some .int) [(0, 9, 12, 13)] : Cond) ∈ wsL_watch := qafI 3661 (by decide +kernel)
set_option maxHeartbeats 4000000 in
set_option maxRecDepth 100000 in
theorem qa2o (l : Launch) (dC : Nat → ClassId) (dI : Nat → Nat → Nat) (cyB cyI cyJ cyP : ClassId) (a0 a2 jaR jbs jbt jmB sz : Nat) (jaK ja1 jcp jbc jbV ja3 jbH ja2 jbO jaq jac jbI jbl jbn jba jaa jbA jbo jbp jbk jbj jbf jgP jbi jcd : Value) (n2 : Nat) (jbE : Int32) (jci jcj : NI) (jbz : Int32) (jol : NI) (f2 : Nat → Int64) (p1 : Int32) {Q : Int32 → Int32 → NI → (Nat → Int64) → Prop} (hw : qaLU n2 jbE jci jcj jbz jol f2 p1 Q) : Met l yL_watch wsL_watch ({ frames := 9, cells := 1, slots := 6, locals := 185 }) (va_Pc [.ref a0, .int p1, .ref a2] (cPx l (dC, dI) (kT cyB cyI cyJ cyP) (qZM a0 jaK jaR ja1 jcp jbc jbV ja3 jbH ja2 jbO jaq jac jbI jbl jbn jba jaa jbA jbz jaR jbs jbt jbo jbp jbk jbj jbf jmB jbE jgP jbi jcd jbs cyI jci jbt cyI jcj jmB cyI jol a2 cyJ n2 f2) sz)) (va_Qi (fun (r : Int32) (u : Int32 × NI × (Nat → Int64)) => Q r u.1 u.2.1 u.2.2) (cB (dC, dI) (kT cyB cyI cyJ cyP) (va_A (qZM a0 jaK jaR ja1 jcp jbc jbV ja3 jbH ja2 jbO jaq jac jbI jbl jbn jba jaa jbA jbz jaR jbs jbt jbo jbp jbk jbj jbf jmB jbE jgP jbi jcd jbs cyI jci jbt cyI jcj jmB cyI jol a2 cyJ n2 f2) sz) (fun u : Int32 × NI × (Nat → Int64) => ((qZM a0 jaK jaR ja1 jcp jbc jbV ja3 jbH ja2 jbO jaq jac jbI jbl jbn jba jaa jbA u.1 jaR jbs jbt jbo jbp jbk jbj jbf jmB jbE jgP jbi jcd jbs cyI jci jbt cyI jcj jmB cyI u.2.1 a2 cyJ n2 u.2.2) : va_W))) (va_A (qZM a0 jaK jaR ja1 jcp jbc jbV ja3 jbH ja2 jbO jaq jac jbI jbl jbn jba jaa jbA jbz jaR jbs jbt jbo jbp jbk jbj jbf jmB jbE jgP jbi jcd jbs cyI jci jbt cyI jcj jmB cyI jol a2 cyJ n2 f2) sz)) 1 6 (va_A (qZM a0 jaK jaR ja1 jcp jbc jbV ja3 jbH ja2 jbO jaq jac jbI jbl jbn jba jaa jbA jbz jaR jbs jbt jbo jbp jbk jbj jbf jmB jbE jgP jbi jcd jbs cyI jci jbt cyI jcj jmB cyI jol a2 cyJ n2 f2) sz) := by
  refine va_MetW (cc := cL_watch) (maxL := 4) (ret := (some .int)) (by decide) rfl ?_
  intro p e s m args below meth c s₁ B hml hv
  obtain ⟨rfl, hsz, hP, hK, hD0, hNw, hXl, hXu, hXn, hXt⟩ := hv
  have hx := B.exec
  have hb := B.bytes
  have hr := B.returns
  have hts := atoms_spec (ws := wsL_watch) B.pre
  have hown : s.vm.findClass RL = some m.cls := findClass_of_methodNamed B.named
  have hlocks := B.notSynchronized
  subst hsz
  have hD := hD0.self (sz := s.heap.size)
  generalize hAe : va_A (qZM a0 jaK jaR ja1 jcp jbc jbV ja3 jbH ja2 jbO jaq jac jbI jbl jbn jba jaa jbA jbz jaR jbs jbt jbo jbp jbk jbj jbf jmB jbE jgP jbi jcd jbs cyI jci jbt cyI jcj jmB cyI jol a2 cyJ n2 f2) s.heap.size = A at hD hXu hXn ⊢
  have hA : ∀ q : Nat, s.heap.size ≤ q → A q := fun q h => by rw [← hAe]; exact Or.inr h
  have hS : va_S A s.heap s.heap [] := va_S.rf
  have hP : va_P (dC, dI) vwCl (qZM a0 jaK jaR ja1 jcp jbc jbV ja3 jbH ja2 jbO jaq jac jbI jbl jbn jba jaa jbA jbz jaR jbs jbt jbo jbp jbk jbj jbf jmB jbE jgP jbi jcd jbs cyI jci jbt cyI jcj jmB cyI jol a2 cyJ n2 f2) s.heap := hP
  have hl := lv_entry ([.ref a0, .int p1, .ref a2]) (n := 4) (nbq rfl)
  rw [lg_entry_eq]
  generalize (lg_sl ([.ref a0, .int p1, .ref a2]) ++ List.replicate (4 - (lg_sl ([.ref a0, .int p1, .ref a2])).length) Slot.unset).toArray = ls at hl ⊢
  have hl : lv_has ls 4 [(0, .ref a0), (1, .int p1), (2, .ref a2)] := hl
  have hY : cfY l s A := ⟨hXl, hXu, hXn, hXt⟩
  have hTb := vx_table (x := yL_watch) B (hts _ qaOL)
  clear hAe
  obtain ⟨H, hH⟩ : ∃ H, H = s.heap := ⟨_, rfl⟩
  rw [← hH] at hP ⊢
  have hS : va_S A s.heap H [] := by rw [hH]; exact va_S.rf
  have hS := hS
  refine lv_aload_n hx hb (qaa qrp 0 rfl) rfl (lv_at hl 2 rfl) ?_
  refine lv_iconst (v := 0) hx hb (qaa qrp 1 rfl) (by decide) ?_
  refine lv_aload_n hx hb (qaa qrp 2 rfl) rfl (lv_at hl 0 rfl) ?_
  refine lv_iload_n hx hb (qaa qrp 3 rfl) rfl (lv_at hl 1 rfl) ?_
  obtain ⟨hCc, hPc, hDc, hFc⟩ := qac (ws' := (qNB a0 jaK jaR ja1 jcp jbc jbV ja3 jbH ja2 jbO jaq jac jbI jbl jbn jba jaa jbA jbz jaR jbs jbt jbo jbp jbk jbj jbf jmB jbE jgP jbi jcd jbs cyI jci jbt cyI jcj jmB cyI jol)) hP hD hS hA [0, 1, 2, 3, 4] (by decide +kernel) rfl
  refine vx_calli (vx_runV (As := [.int p1]) (rest := [.int 0, .ref a2]) ⟨hx, hb, hml, hown, hts⟩ (qaTa l dC dI cyB cyI cyJ cyP a0 jaR jbs jbt jmB H.size (jaK) (ja1) (jcp) (jbc) (jbV) (ja3) (jbH) (ja2) (jbO) (jaq) (jac) (jbI) (jbl) (jbn) (jba) (jaa) (jbA) (jbo) (jbp) (jbk) (jbj) (jbf) (jgP) (jbi) (jcd) jbE jci jcj jbz jol p1 hw) (cwV 1 hts gL_watch_X10_watch rfl rfl rfl (by decide +kernel) ⟨nbq rfl, nbq rfl⟩) ⟨qav, va_recv (q := (RX10, TX10, 19)) hK hPc (ci := 10) (q0 := 0) rfl rfl, qbl hPc hK hDc hNw hY hS hFc⟩ rfl rfl hl.1 rfl (lv_room (nbq rfl)) (qaa qrp 4 rfl) ⟨nbq rfl, nbq rfl⟩) hS (fun q _ h => hFc q h) hFc (fun q _ h => hFc q h) (fun en ce qx9 u t H1 locs ht hvm hpx hB hz1 hk1 hS hc9 hv9 hcl9 => ?_) (fun r4 u t H1 locs ht hvm hw hB hz1 hk1 hS => ?_)
  · obtain ⟨x1, f3⟩ := u
    obtain ⟨hw, hP1, hK1, hD1⟩ := hB
    rw [ht] at hP1
    obtain ⟨hP, hD⟩ := qad (wr := [(a2, .inl (cyJ, n2, .inr (.inl f2)))]) (w1 := (qNB a0 jaK jaR ja1 jcp jbc jbV ja3 jbH ja2 jbO jaq jac jbI jbl jbn jba jaa jbA x1 jaR jbs jbt jbo jbp jbk jbj jbf jmB jbE jgP jbi jcd jbs cyI jci jbt cyI jcj jmB cyI f3)) (wn := (qZM a0 jaK jaR ja1 jcp jbc jbV ja3 jbH ja2 jbO jaq jac jbI jbl jbn jba jaa jbA x1 jaR jbs jbt jbo jbp jbk jbj jbf jmB jbE jgP jbi jcd jbs cyI jci jbt cyI jcj jmB cyI f3 a2 cyJ n2 f2)) hP hD [0, 1, 2, 3, 4] [5] [1, 2, 3, 4, 5, 0] hCc rfl (by decide +kernel) (by decide +kernel) (by decide +kernel) rfl hk1 hFc hP1 hD1
    generalize H1 = H at hP hS hc9 ⊢
    obtain ⟨rfl, hw⟩ := hw
    refine vx_catch (own := RL) (name := "java/lang/IllegalArgumentException") hown [] ⟨0, 9, 12, 13⟩ [] (hTb.trans rfl) (fun z hz => nomatch hz) (by decide) (by decide) (hts _ qaz0) (va_Nw.use rfl (hY.2.2.2.1.2 _ (List.mem_of_getElem? (i := 0) rfl))) hc9 hv9 hcl9 ?_
    refine lv_astore_n (lv' := [(3, .ref qx9), (0, .ref a0), (1, .int p1), (2, .ref a2)]) hx hb (qaa qrp 8 rfl) rfl hl (by decide) rfl (fun ls hl => ?_)
    refine lv_iconst (v := 1) hx hb (qaa qrp 9 rfl) (by decide) ?_
    exact (W.widen (k := 1) (n := 6) (nbq rfl) (nbq rfl) (W.iret (v := 1) hx hb hr (fun t ht hW => ⟨⟨1, (x1, f3, f2), rfl, hw, by rw [ht]; exact hP, va_K.moved hW.alike hK, hD⟩, hS.F ht⟩) hS.2.2 (qaa qrp 10 rfl)))
  obtain ⟨x1, f3⟩ := u
  obtain ⟨hP1, hK1, hD1⟩ := hB
  rw [ht] at hP1
  obtain ⟨hP, hD⟩ := va_join (wr := [(a2, .inl (cyJ, n2, .inr (.inl f2)))]) (w1 := (qNB a0 jaK jaR ja1 jcp jbc jbV ja3 jbH ja2 jbO jaq jac jbI jbl jbn jba jaa jbA x1 jaR jbs jbt jbo jbp jbk jbj jbf jmB jbE jgP jbi jcd jbs cyI jci jbt cyI jcj jmB cyI f3)) hP hD [0, 1, 2, 3, 4] [5] rfl rfl (by decide) (by decide) hk1 hFc hP1 hD1
  have hP : va_P (dC, dI) vwCl (qZM a0 jaK jaR ja1 jcp jbc jbV ja3 jbH ja2 jbO jaq jac jbI jbl jbn jba jaa jbA x1 jaR jbs jbt jbo jbp jbk jbj jbf jmB jbE jgP jbi jcd jbs cyI jci jbt cyI jcj jmB cyI f3 a2 cyJ n2 f2) H1 := hP.sub [1, 2, 3, 4, 5, 0] rfl
  have hD : va_D A (qZM a0 jaK jaR ja1 jcp jbc jbV ja3 jbH ja2 jbO jaq jac jbI jbl jbn jba jaa jbA x1 jaR jbs jbt jbo jbp jbk jbj jbf jmB jbE jgP jbi jcd jbs cyI jci jbt cyI jcj jmB cyI f3 a2 cyJ n2 f2) := hD.sub [1, 2, 3, 4, 5, 0] (by decide) rfl
  generalize H1 = H at hP hS ⊢
  refine lv_i2l (v := r4.toInt64) hx hb (qaa qrp 5 rfl) rfl ?_
  refine lv_topl (fun x5 ex5 => ?_)
  have hw := hw x5 ex5
  obtain ⟨hi9, hw⟩ := hw
  refine va_last hx hb hK hP hD hS 5 2 rfl rfl hi9 (qaa qrp 6 rfl) (fun H locs hP hD hS => ?_)
  obtain ⟨f6, ef6⟩ : ∃ y : Nat → Int64, y = vp_updL f2 (0 : Int32).toNatClampNeg x5 := ⟨_, rfl⟩
  have hw := hw f6 ef6
  have hP : va_P (dC, dI) vwCl (qZM a0 jaK jaR ja1 jcp jbc jbV ja3 jbH ja2 jbO jaq jac jbI jbl jbn jba jaa jbA x1 jaR jbs jbt jbo jbp jbk jbj jbf jmB jbE jgP jbi jcd jbs cyI jci jbt cyI jcj jmB cyI f3 a2 cyJ n2 f6) H := by rw [ef6]; exact hP
  have hD : va_D A (qZM a0 jaK jaR ja1 jcp jbc jbV ja3 jbH ja2 jbO jaq jac jbI jbl jbn jba jaa jbA x1 jaR jbs jbt jbo jbp jbk jbj jbf jmB jbE jgP jbi jcd jbs cyI jci jbt cyI jcj jmB cyI f3 a2 cyJ n2 f6) := by rw [ef6]; exact hD
  refine lv_goto (tgt := 15) hx hb (qaa qrp 7 rfl) (by decide) ?_
  refine lv_iconst (v := 0) hx hb (qaa qrp 11 rfl) (by decide) ?_
  exact (W.widen (k := 1) (n := 6) (nbq rfl) (nbq rfl) (W.iret (v := 0) hx hb hr (fun t ht hW => ⟨⟨0, (x1, f3, f6), rfl, hw, by rw [ht]; exact hP, va_K.moved hW.alike hK, hD⟩, hS.F ht⟩) hS.2.2 (qaa qrp 12 rfl)))
theorem qt8 : ∀ w ∈ u_ws RX9 TX9 12, w ∈ wsX9_add := uiM q5q euX9 (by decide +kernel)
theorem qaSz : (.fieldLink RX9 11 "MarchHares$Work" "kinds" "[I" : Cond) ∈ wsX9_add := q5q 266 (by decide +kernel)
theorem qaQE : (.fieldLink RX9 15 "MarchHares$Work" "first" "[I" : Cond) ∈ wsX9_add := q5q 267 (by decide +kernel)
theorem qaO2 : (.fieldLink RX9 18 "MarchHares$Work" "second" "[I" : Cond) ∈ wsX9_add := q5q 268 (by decide +kernel)
theorem qaOg : (.fieldLink RX9 21 "MarchHares$Work" "third" "[I" : Cond) ∈ wsX9_add := q5q 269 (by decide +kernel)
theorem qzs : (.fieldLink RX9 37 "MarchHares$Work" "length" "I" : Cond) ∈ wsX9_add := q5q 1606 (by decide +kernel)
set_option maxHeartbeats 4000000 in
set_option maxRecDepth 100000 in
theorem qV3 (l : Launch) (dC : Nat → ClassId) (dI : Nat → Nat → Nat) (cyB cyI cyJ cyP : ClassId) (a0 jbU jgF jgh jhq sz : Nat) (jme jkw joE ja4 ja0 jaH jaF : Value) (jdC jiX jiF jjg : NI) (jb7 p1 p2 p3 p4 : Int32) {Q : NI → NI → NI → NI → Int32 → Prop} (hw : qIF jdC jiX jiF jjg jb7 p1 p2 p3 p4 Q) : Met l yX9_add wsX9_add ({ frames := 0, cells := 0, slots := 0, locals := 0 }) (va_Pc [.ref a0, .int p1, .int p2, .int p3, .int p4] (cPc (dC, dI) (kT cyB cyI cyJ cyP) (qLn a0 jbU jgF jgh jhq jme jkw jb7 joE ja4 ja0 jaH jaF jbU cyI jdC jgF cyI jiX jgh cyI jiF jhq cyI jjg) sz)) (va_Qv (fun (u : NI × NI × NI × NI × Int32) => Q u.1 u.2.1 u.2.2.1 u.2.2.2.1 u.2.2.2.2) (cB (dC, dI) (kT cyB cyI cyJ cyP) (va_A (qLn a0 jbU jgF jgh jhq jme jkw jb7 joE ja4 ja0 jaH jaF jbU cyI jdC jgF cyI jiX jgh cyI jiF jhq cyI jjg) sz) (fun u : NI × NI × NI × NI × Int32 => ((qLn a0 jbU jgF jgh jhq jme jkw u.2.2.2.2 joE ja4 ja0 jaH jaF jbU cyI u.1 jgF cyI u.2.1 jgh cyI u.2.2.1 jhq cyI u.2.2.2.1) : va_W))) (va_A (qLn a0 jbU jgF jgh jhq jme jkw jb7 joE ja4 ja0 jaH jaF jbU cyI jdC jgF cyI jiX jgh cyI jiF jhq cyI jjg) sz)) 0 0 (va_A (qLn a0 jbU jgF jgh jhq jme jkw jb7 joE ja4 ja0 jaH jaF jbU cyI jdC jgF cyI jiX jgh cyI jiF jhq cyI jjg) sz) := by
  refine Met.ofW (cc := cX9_add) (maxL := 5) (ret := none) (by decide) rfl ?_
  intro p e s m args below meth c s₁ B hml hv
  obtain ⟨rfl, hsz, hP, hK, hD0, hNw⟩ := hv
  have hx := B.exec
  have hb := B.bytes
  have hr := B.returns
  have hts := atoms_spec (ws := wsX9_add) B.pre
  have hown : s.vm.findClass RX9 = some m.cls := findClass_of_methodNamed B.named
  have hlocks := B.notSynchronized
  subst hsz
  have hD := hD0.self (sz := s.heap.size)
  generalize hAe : va_A (qLn a0 jbU jgF jgh jhq jme jkw jb7 joE ja4 ja0 jaH jaF jbU cyI jdC jgF cyI jiX jgh cyI jiF jhq cyI jjg) s.heap.size = A at hD ⊢
  have hA : ∀ q : Nat, s.heap.size ≤ q → A q := fun q h => by rw [← hAe]; exact Or.inr h
  have hS : va_S A s.heap s.heap [] := va_S.rf
  have hP : va_P (dC, dI) vwCl (qLn a0 jbU jgF jgh jhq jme jkw jb7 joE ja4 ja0 jaH jaF jbU cyI jdC jgF cyI jiX jgh cyI jiF jhq cyI jjg) s.heap := hP
  have hl := lv_entry ([.ref a0, .int p1, .int p2, .int p3, .int p4]) (n := 5) (nbq rfl)
  rw [lg_entry_eq]
  generalize (lg_sl ([.ref a0, .int p1, .int p2, .int p3, .int p4]) ++ List.replicate (5 - (lg_sl ([.ref a0, .int p1, .int p2, .int p3, .int p4])).length) Slot.unset).toArray = ls at hl ⊢
  have hl : lv_has ls 5 [(0, .ref a0), (1, .int p1), (2, .int p2), (3, .int p3), (4, .int p4)] := hl
  have C0 : cfx p s m _ meth c cX9_add none wsX9_add RX9 5 A (dC, dI) (kT cyB cyI cyJ cyP) := ⟨hx, hb, hr, hts, hown, hlocks, hml, hA, hK, hNw⟩
  clear hAe
  obtain ⟨H, hH⟩ : ∃ H, H = s.heap := ⟨_, rfl⟩
  rw [← hH] at hP ⊢
  have hS : va_S A s.heap H [] := by rw [hH]; exact va_S.rf
  have hS := hS
  refine lv_aload_n hx hb (qaa qpV 0 rfl) rfl (lv_at hl 0 rfl) ?_
  refine va_get (D := (dC, dI)) (ci := 9) (v := .int jb7) (C := RX9) (T := TX9) (N := 12) hx hb hts qt8 hown hK hP 0 rfl rfl 6 (by decide) (hts _ qzs) (fun _ h9 => h9) rfl (qaa qpV 1 rfl) ?_
  refine lv_bipush (v := 50) hx hb (qaa qpV 2 rfl) (by decide) ?_
  refine lv_icmp_ge (tgt := 60) hx hb (qaa qpV 3 rfl) (by decide) (fun c1 => ?_) (fun c1 => ?_)
  · have hw := hw.1 c1
    exact ((W.vret hx hb hr (fun t ht hW => ⟨⟨(jdC, jiX, jiF, jjg, jb7), rfl, hw, by rw [ht]; exact hP, va_K.moved hW.alike hK, hD⟩, hS.F ht⟩) hS.2.2 (qaa qRW 2 rfl)))
  · have hw := hw.2 c1
    refine lv_aload_n hx hb (qaa qpV 4 rfl) rfl (lv_at hl 0 rfl) ?_
    refine va_get (D := (dC, dI)) (ci := 9) (v := .ref jbU) (C := RX9) (T := TX9) (N := 12) hx hb hts qt8 hown hK hP 0 rfl rfl 0 (by decide) (hts _ qaSz) (fun _ h9 => h9) rfl (qaa qpV 5 rfl) ?_
    refine lv_aload_n hx hb (qaa qpV 6 rfl) rfl (lv_at hl 0 rfl) ?_
    refine va_get (D := (dC, dI)) (ci := 9) (v := .int jb7) (C := RX9) (T := TX9) (N := 12) hx hb hts qt8 hown hK hP 0 rfl rfl 6 (by decide) (hts _ qzs) (fun _ h9 => h9) rfl (qaa qpV 7 rfl) ?_
    refine lv_iload_n hx hb (qaa qpV 8 rfl) rfl (lv_at hl 1 rfl) ?_
    obtain ⟨hi9, hw⟩ := hw
    refine va_iast hx hb hK hP hD hS 1 1 rfl rfl hi9 (qaa qpV 9 rfl) (fun H locs hP hD hS => ?_)
    obtain ⟨f2, ef2⟩ : ∃ y : NI, y = upd jdC jb7.toNatClampNeg p1 := ⟨_, rfl⟩
    have hw := hw f2 ef2
    have hP : va_P (dC, dI) vwCl (qLn a0 jbU jgF jgh jhq jme jkw jb7 joE ja4 ja0 jaH jaF jbU cyI f2 jgF cyI jiX jgh cyI jiF jhq cyI jjg) H := by rw [ef2]; exact hP
    have hD : va_D A (qLn a0 jbU jgF jgh jhq jme jkw jb7 joE ja4 ja0 jaH jaF jbU cyI f2 jgF cyI jiX jgh cyI jiF jhq cyI jjg) := by rw [ef2]; exact hD
    refine lv_aload_n hx hb (qaa qpV 10 rfl) rfl (lv_at hl 0 rfl) ?_
    refine va_get (D := (dC, dI)) (ci := 9) (v := .ref jgF) (C := RX9) (T := TX9) (N := 12) hx hb hts qt8 hown hK hP 0 rfl rfl 1 (by decide) (hts _ qaQE) (fun _ h9 => h9) rfl (qaa qpV 11 rfl) ?_
    refine lv_aload_n hx hb (qaa qpV 12 rfl) rfl (lv_at hl 0 rfl) ?_
    refine va_get (D := (dC, dI)) (ci := 9) (v := .int jb7) (C := RX9) (T := TX9) (N := 12) hx hb hts qt8 hown hK hP 0 rfl rfl 6 (by decide) (hts _ qzs) (fun _ h9 => h9) rfl (qaa qpV 13 rfl) ?_
    refine lv_iload_n hx hb (qaa qpV 14 rfl) rfl (lv_at hl 2 rfl) ?_
    obtain ⟨hi9, hw⟩ := hw
    refine va_iast hx hb hK hP hD hS 2 1 rfl rfl hi9 (qaa qpV 15 rfl) (fun H locs hP hD hS => ?_)
    obtain ⟨f3, ef3⟩ : ∃ y : NI, y = upd jiX jb7.toNatClampNeg p2 := ⟨_, rfl⟩
    have hw := hw f3 ef3
    have hP : va_P (dC, dI) vwCl (qLn a0 jbU jgF jgh jhq jme jkw jb7 joE ja4 ja0 jaH jaF jbU cyI f2 jgF cyI f3 jgh cyI jiF jhq cyI jjg) H := by rw [ef3]; exact hP
    have hD : va_D A (qLn a0 jbU jgF jgh jhq jme jkw jb7 joE ja4 ja0 jaH jaF jbU cyI f2 jgF cyI f3 jgh cyI jiF jhq cyI jjg) := by rw [ef3]; exact hD
    refine lv_aload_n hx hb (qaa qox 0 rfl) rfl (lv_at hl 0 rfl) ?_
    refine va_get (D := (dC, dI)) (ci := 9) (v := .ref jgh) (C := RX9) (T := TX9) (N := 12) hx hb hts qt8 hown hK hP 0 rfl rfl 2 (by decide) (hts _ qaO2) (fun _ h9 => h9) rfl (qaa qox 1 rfl) ?_
    refine lv_aload_n hx hb (qaa qox 2 rfl) rfl (lv_at hl 0 rfl) ?_
    refine va_get (D := (dC, dI)) (ci := 9) (v := .int jb7) (C := RX9) (T := TX9) (N := 12) hx hb hts qt8 hown hK hP 0 rfl rfl 6 (by decide) (hts _ qzs) (fun _ h9 => h9) rfl (qaa qox 3 rfl) ?_
    refine lv_iload_n hx hb (qaa qox 4 rfl) rfl (lv_at hl 3 rfl) ?_
    obtain ⟨hi9, hw⟩ := hw
    refine va_iast hx hb hK hP hD hS 3 1 rfl rfl hi9 (qaa qox 5 rfl) (fun H locs hP hD hS => ?_)
    obtain ⟨f4, ef4⟩ : ∃ y : NI, y = upd jiF jb7.toNatClampNeg p3 := ⟨_, rfl⟩
    have hw := hw f4 ef4
    have hP : va_P (dC, dI) vwCl (qLn a0 jbU jgF jgh jhq jme jkw jb7 joE ja4 ja0 jaH jaF jbU cyI f2 jgF cyI f3 jgh cyI f4 jhq cyI jjg) H := by rw [ef4]; exact hP
    have hD : va_D A (qLn a0 jbU jgF jgh jhq jme jkw jb7 joE ja4 ja0 jaH jaF jbU cyI f2 jgF cyI f3 jgh cyI f4 jhq cyI jjg) := by rw [ef4]; exact hD
    refine lv_aload_n hx hb (qaa qox 6 rfl) rfl (lv_at hl 0 rfl) ?_
    refine va_get (D := (dC, dI)) (ci := 9) (v := .ref jhq) (C := RX9) (T := TX9) (N := 12) hx hb hts qt8 hown hK hP 0 rfl rfl 3 (by decide) (hts _ qaOg) (fun _ h9 => h9) rfl (qaa qox 7 rfl) ?_
    refine lv_aload_n hx hb (qaa qox 8 rfl) rfl (lv_at hl 0 rfl) ?_
    refine va_get (D := (dC, dI)) (ci := 9) (v := .int jb7) (C := RX9) (T := TX9) (N := 12) hx hb hts qt8 hown hK hP 0 rfl rfl 6 (by decide) (hts _ qzs) (fun _ h9 => h9) rfl (qaa qox 9 rfl) ?_
    refine lv_iload hx hb (qaa qox 10 rfl) (lv_at hl 4 rfl) ?_
    obtain ⟨hi9, hw⟩ := hw
    refine va_iast hx hb hK hP hD hS 4 1 rfl rfl hi9 (qaa qox 11 rfl) (fun H locs hP hD hS => ?_)
    obtain ⟨f5, ef5⟩ : ∃ y : NI, y = upd jjg jb7.toNatClampNeg p4 := ⟨_, rfl⟩
    have hw := hw f5 ef5
    have hP : va_P (dC, dI) vwCl (qLn a0 jbU jgF jgh jhq jme jkw jb7 joE ja4 ja0 jaH jaF jbU cyI f2 jgF cyI f3 jgh cyI f4 jhq cyI f5) H := by rw [ef5]; exact hP
    have hD : va_D A (qLn a0 jbU jgF jgh jhq jme jkw jb7 joE ja4 ja0 jaH jaF jbU cyI f2 jgF cyI f3 jgh cyI f4 jhq cyI f5) := by rw [ef5]; exact hD
    refine lv_aload_n hx hb (qaa qox 12 rfl) rfl (lv_at hl 0 rfl) ?_
    refine lv_dup hx hb (qaa qox 13 rfl) rfl ?_
    refine va_get (D := (dC, dI)) (ci := 9) (v := .int jb7) (C := RX9) (T := TX9) (N := 12) hx hb hts qt8 hown hK hP 0 rfl rfl 6 (by decide) (hts _ qzs) (fun _ h9 => h9) rfl (qaa qox 14 rfl) ?_
    refine lv_iconst (v := 1) hx hb (qaa qox 15 rfl) (by decide) ?_
    refine lv_iadd hx hb (qaa qRW 0 rfl) ?_
    refine lv_topi (fun x6 ex6 => ?_)
    have hw := hw x6 ex6
    refine va_put (D := (dC, dI)) (ci := 9) (v := .int x6) (ty := .int) (C := RX9) (T := TX9) (N := 12) hx hb hts qt8 tyX9 tyX9_ok nmX9 hown hK hP hD hS 0 rfl rfl 6 (by decide) (hts _ qzs) (fun _ h9 => h9) rfl (by decide +kernel) rfl rfl (nbq rfl) (qaa qRW 1 rfl) (fun H locs hP hD hS => ?_)
    have hP : va_P (dC, dI) vwCl (qLn a0 jbU jgF jgh jhq jme jkw x6 joE ja4 ja0 jaH jaF jbU cyI f2 jgF cyI f3 jgh cyI f4 jhq cyI f5) H := hP
    have hD : va_D A (qLn a0 jbU jgF jgh jhq jme jkw x6 joE ja4 ja0 jaH jaF jbU cyI f2 jgF cyI f3 jgh cyI f4 jhq cyI f5) := hD
    exact ((W.vret hx hb hr (fun t ht hW => ⟨⟨(f2, f3, f4, f5, x6), rfl, hw, by rw [ht]; exact hP, va_K.moved hW.alike hK, hD⟩, hS.F ht⟩) hS.2.2 (qaa qRW 2 rfl)))
theorem qup : ∀ w ∈ u_ws RX9 TX9 12, w ∈ wsX9_closeLoop := uiM qxN euX9 (by decide +kernel)
theorem qabO : (.fieldLink RX9 18 "MarchHares$Work" "second" "[I" : Cond) ∈ wsX9_closeLoop := qxN 268 (by decide +kernel)
theorem qabZ : (.fieldLink RX9 24 "MarchHares$Work" "heads" "[I" : Cond) ∈ wsX9_closeLoop := qxN 270 (by decide +kernel)
theorem q96 : (.fieldLink RX9 37 "MarchHares$Work" "length" "I" : Cond) ∈ wsX9_closeLoop := qxN 1606 (by decide +kernel)
theorem qFP : (.fieldLink RX9 40 "MarchHares$Work" "open" "I" : Cond) ∈ wsX9_closeLoop := qxN 1607 (by decide +kernel)
set_option maxHeartbeats 4000000 in
set_option maxRecDepth 100000 in
theorem qR5 {p : Program} {l : Launch} {e : Env} {s : State} {m : MethodId} {args : Array Value} {below : List Frame} {meth : Method} {c : Code} {A : Nat → Prop} (dC : Nat → ClassId) (dI : Nat → Nat → Nat) (cyB cyI cyJ cyP : ClassId) (a0 jju jgh jbU jgF jhq : Nat) (jkw ja4 ja0 jaH jaF : Value) (jlb : NI) (Q : Int32 → NI → NI → NI → NI → Int32 → Prop) (C0 : cfx p s m args meth c cX9_closeLoop none wsX9_closeLoop RX9 2 A (dC, dI) (kT cyB cyI cyJ cyP)) : ∀ (H : Heap) (locs : List Loc) (ls : Array Slot) (jjF : Int32) (jiF jdC jiX jjg : NI) (jb7 l1 : Int32), va_P (dC, dI) vwCl (qLR a0 jbU jgF jgh jhq jju jkw jb7 jjF ja4 ja0 jaH jaF jju cyI jlb jgh cyI jiF jbU cyI jdC jgF cyI jiX jhq cyI jjg) H → va_D A (qLR a0 jbU jgF jgh jhq jju jkw jb7 jjF ja4 ja0 jaH jaF jju cyI jlb jgh cyI jiF jbU cyI jdC jgF cyI jiX jhq cyI jjg) → va_S A s.heap H locs → lv_has ls 2 [(0, .ref a0), (1, .int l1)] → qHk jlb Q jjF jiF jdC jiX jjg jb7 l1 → W p l e (headSpec wsX9_closeLoop ({ frames := 1, cells := 0, slots := 0, locals := 24 })).room s m args below meth c H locs 0 0 (MQ below (va_Qv (fun (u : Int32 × NI × NI × NI × NI × Int32) => Q u.1 u.2.1 u.2.2.1 u.2.2.2.1 u.2.2.2.2.1 u.2.2.2.2.2) (cB (dC, dI) (kT cyB cyI cyJ cyP) A (fun u : Int32 × NI × NI × NI × NI × Int32 => ((qLR a0 jbU jgF jgh jhq jju jkw u.2.2.2.2.2 u.1 ja4 ja0 jaH jaF jju cyI jlb jgh cyI u.2.1 jbU cyI u.2.2.1 jgF cyI u.2.2.2.1 jhq cyI u.2.2.2.2.1) : va_W))) A) args s 0 0 A) (F0 m 36 ls []) := by
  obtain ⟨hx, hb, hr, hts, hown, hlocks, hml, hA, hK, hNw⟩ := id C0
  intro H locs ls jjF jiF jdC jiX jjg jb7 l1 hP hD hS hl hw
  refine lv_aload_n hx hb (qaa qig 5 rfl) rfl (lv_at hl 0 rfl) ?_
  refine lv_iconst (v := 5) hx hb (qaa qig 6 rfl) (by decide) ?_
  refine lv_iload_n hx hb (qaa qig 7 rfl) rfl (lv_at hl 1 rfl) ?_
  refine lv_iconst (v := 0) hx hb (qaa qig 8 rfl) (by decide) ?_
  refine lv_iconst (v := 0) hx hb (qaa qig 9 rfl) (by decide) ?_
  obtain ⟨hCc, hPc, hDc, hFc⟩ := qac (ws' := (qa1k a0 jbU jgF jgh jhq jju jkw jb7 jjF ja4 ja0 jaH jaF jbU cyI jdC jgF cyI jiX jgh cyI jiF jhq cyI jjg)) hP hD hS hA [0, 3, 4, 2, 5] (by decide +kernel) rfl
  refine va_callv (va_runV (As := [.int 5, .int l1, .int 0, .int 0]) (rest := []) ⟨hx, hb, hml, hown, hts⟩ (qV3 l dC dI cyB cyI cyJ cyP a0 jbU jgF jgh jhq H.size (.ref jju) (jkw) (.int jjF) (ja4) (ja0) (jaH) (jaF) jdC jiX jiF jjg jb7 5 l1 0 0 hw) (cwV 4 hts gX9_closeLoop_X9_add rfl rfl rfl (by decide +kernel) ⟨nbq rfl, nbq rfl⟩) ⟨qab, va_recv (q := (RX9, TX9, 12)) hK hPc (ci := 9) (q0 := 0) rfl rfl, qae hPc hK hDc hNw⟩ rfl rfl hl.1 rfl (lv_room (nbq rfl)) (qaa qig 10 rfl) ⟨nbq rfl, nbq rfl⟩) hS (fun q _ h => hFc q h) hFc (fun u t H1 locs ht hvm hw hB hz1 hk1 hS => ?_)
  obtain ⟨f5, f6, f7, f8, x9⟩ := u
  obtain ⟨hP1, hK1, hD1⟩ := hB
  rw [ht] at hP1
  obtain ⟨hP, hD⟩ := qad (wr := (qa51 jju cyI jlb)) (w1 := (qa1k a0 jbU jgF jgh jhq jju jkw x9 jjF ja4 ja0 jaH jaF jbU cyI f5 jgF cyI f6 jgh cyI f7 jhq cyI f8)) (wn := (qLR a0 jbU jgF jgh jhq jju jkw x9 jjF ja4 ja0 jaH jaF jju cyI jlb jgh cyI f7 jbU cyI f5 jgF cyI f6 jhq cyI f8)) hP hD [0, 3, 4, 2, 5] [1] [1, 0, 4, 2, 3, 5] hCc rfl (by decide +kernel) (by decide +kernel) (by decide +kernel) rfl hk1 hFc hP1 hD1
  generalize H1 = H at hP hS ⊢
  exact ((W.vret hx hb hr (fun t ht hW => ⟨⟨(jjF, f7, f5, f6, f8, x9), rfl, hw, by rw [ht]; exact hP, va_K.moved hW.alike hK, hD⟩, hS.F ht⟩) hS.2.2 (qaa qig 11 rfl)))
set_option maxHeartbeats 4000000 in
set_option maxRecDepth 100000 in
theorem qaC4 (l : Launch) (dC : Nat → ClassId) (dI : Nat → Nat → Nat) (cyB cyI cyJ cyP : ClassId) (a0 jju jgh jbU jgF jhq sz : Nat) (jkw ja4 ja0 jaH jaF : Value) (jlb : NI) (jjF : Int32) (jiF jdC jiX jjg : NI) (jb7 : Int32) {Q : Int32 → NI → NI → NI → NI → Int32 → Prop} (hw : q3n jlb jjF jiF jdC jiX jjg jb7 Q) : Met l yX9_closeLoop wsX9_closeLoop ({ frames := 1, cells := 0, slots := 0, locals := 24 }) (va_Pc [.ref a0] (cPc (dC, dI) (kT cyB cyI cyJ cyP) (qLR a0 jbU jgF jgh jhq jju jkw jb7 jjF ja4 ja0 jaH jaF jju cyI jlb jgh cyI jiF jbU cyI jdC jgF cyI jiX jhq cyI jjg) sz)) (va_Qv (fun (u : Int32 × NI × NI × NI × NI × Int32) => Q u.1 u.2.1 u.2.2.1 u.2.2.2.1 u.2.2.2.2.1 u.2.2.2.2.2) (cB (dC, dI) (kT cyB cyI cyJ cyP) (va_A (qLR a0 jbU jgF jgh jhq jju jkw jb7 jjF ja4 ja0 jaH jaF jju cyI jlb jgh cyI jiF jbU cyI jdC jgF cyI jiX jhq cyI jjg) sz) (fun u : Int32 × NI × NI × NI × NI × Int32 => ((qLR a0 jbU jgF jgh jhq jju jkw u.2.2.2.2.2 u.1 ja4 ja0 jaH jaF jju cyI jlb jgh cyI u.2.1 jbU cyI u.2.2.1 jgF cyI u.2.2.2.1 jhq cyI u.2.2.2.2.1) : va_W))) (va_A (qLR a0 jbU jgF jgh jhq jju jkw jb7 jjF ja4 ja0 jaH jaF jju cyI jlb jgh cyI jiF jbU cyI jdC jgF cyI jiX jhq cyI jjg) sz)) 0 0 (va_A (qLR a0 jbU jgF jgh jhq jju jkw jb7 jjF ja4 ja0 jaH jaF jju cyI jlb jgh cyI jiF jbU cyI jdC jgF cyI jiX jhq cyI jjg) sz) := by
  refine Met.ofW (cc := cX9_closeLoop) (maxL := 2) (ret := none) (by decide) rfl ?_
  intro p e s m args below meth c s₁ B hml hv
  obtain ⟨rfl, hsz, hP, hK, hD0, hNw⟩ := hv
  have hx := B.exec
  have hb := B.bytes
  have hr := B.returns
  have hts := atoms_spec (ws := wsX9_closeLoop) B.pre
  have hown : s.vm.findClass RX9 = some m.cls := findClass_of_methodNamed B.named
  have hlocks := B.notSynchronized
  subst hsz
  have hD := hD0.self (sz := s.heap.size)
  generalize hAe : va_A (qLR a0 jbU jgF jgh jhq jju jkw jb7 jjF ja4 ja0 jaH jaF jju cyI jlb jgh cyI jiF jbU cyI jdC jgF cyI jiX jhq cyI jjg) s.heap.size = A at hD ⊢
  have hA : ∀ q : Nat, s.heap.size ≤ q → A q := fun q h => by rw [← hAe]; exact Or.inr h
  have hS : va_S A s.heap s.heap [] := va_S.rf
  have hP : va_P (dC, dI) vwCl (qLR a0 jbU jgF jgh jhq jju jkw jb7 jjF ja4 ja0 jaH jaF jju cyI jlb jgh cyI jiF jbU cyI jdC jgF cyI jiX jhq cyI jjg) s.heap := hP
  have hl := lv_entry ([.ref a0]) (n := 2) (nbq rfl)
  rw [lg_entry_eq]
  generalize (lg_sl ([.ref a0]) ++ List.replicate (2 - (lg_sl ([.ref a0])).length) Slot.unset).toArray = ls at hl ⊢
  have hl : lv_has ls 2 [(0, .ref a0)] := hl
  have C0 : cfx p s m _ meth c cX9_closeLoop none wsX9_closeLoop RX9 2 A (dC, dI) (kT cyB cyI cyJ cyP) := ⟨hx, hb, hr, hts, hown, hlocks, hml, hA, hK, hNw⟩
  clear hAe
  obtain ⟨H, hH⟩ : ∃ H, H = s.heap := ⟨_, rfl⟩
  rw [← hH] at hP ⊢
  have hS : va_S A s.heap H [] := by rw [hH]; exact va_S.rf
  have hS := hS
  refine lv_aload_n hx hb (qaa qeD 0 rfl) rfl (lv_at hl 0 rfl) ?_
  refine lv_dup hx hb (qaa qeD 1 rfl) rfl ?_
  refine va_get (D := (dC, dI)) (ci := 9) (v := .int jjF) (C := RX9) (T := TX9) (N := 12) hx hb hts qup hown hK hP 0 rfl rfl 7 (by decide) (hts _ qFP) (fun _ h9 => h9) rfl (qaa qeD 2 rfl) ?_
  refine lv_iconst (v := 1) hx hb (qaa qeD 3 rfl) (by decide) ?_
  refine lv_isub hx hb (qaa qeD 4 rfl) ?_
  refine lv_topi (fun x1 ex1 => ?_)
  have hw := hw x1 ex1
  refine va_put (D := (dC, dI)) (ci := 9) (v := .int x1) (ty := .int) (C := RX9) (T := TX9) (N := 12) hx hb hts qup tyX9 tyX9_ok nmX9 hown hK hP hD hS 0 rfl rfl 7 (by decide) (hts _ qFP) (fun _ h9 => h9) rfl (by decide +kernel) rfl rfl (nbq rfl) (qaa qeD 5 rfl) (fun H locs hP hD hS => ?_)
  have hP : va_P (dC, dI) vwCl (qLR a0 jbU jgF jgh jhq jju jkw jb7 x1 ja4 ja0 jaH jaF jju cyI jlb jgh cyI jiF jbU cyI jdC jgF cyI jiX jhq cyI jjg) H := hP
  have hD : va_D A (qLR a0 jbU jgF jgh jhq jju jkw jb7 x1 ja4 ja0 jaH jaF jju cyI jlb jgh cyI jiF jbU cyI jdC jgF cyI jiX jhq cyI jjg) := hD
  refine lv_aload_n hx hb (qaa qeD 6 rfl) rfl (lv_at hl 0 rfl) ?_
  refine va_get (D := (dC, dI)) (ci := 9) (v := .ref jju) (C := RX9) (T := TX9) (N := 12) hx hb hts qup hown hK hP 0 rfl rfl 4 (by decide) (hts _ qabZ) (fun _ h9 => h9) rfl (qaa qeD 7 rfl) ?_
  refine lv_aload_n hx hb (qaa qeD 8 rfl) rfl (lv_at hl 0 rfl) ?_
  refine va_get (D := (dC, dI)) (ci := 9) (v := .int x1) (C := RX9) (T := TX9) (N := 12) hx hb hts qup hown hK hP 0 rfl rfl 7 (by decide) (hts _ qFP) (fun _ h9 => h9) rfl (qaa qeD 9 rfl) ?_
  obtain ⟨hi9, hw⟩ := hw
  refine va_iald hx hb hK hP 1 1 rfl rfl hi9 (qaa qeD 10 rfl) ?_
  refine lv_topi (fun x2 ex2 => ?_)
  have hw := hw x2 ex2
  refine lv_istore_n (lv' := [(1, .int x2), (0, .ref a0)]) hx hb (qaa qeD 11 rfl) rfl hl (by decide) rfl (fun ls hl => ?_)
  refine lv_iload_n hx hb (qaa qeD 12 rfl) rfl (lv_at hl 0 rfl) ?_
  refine lv_bipush (v := 50) hx hb (qaa qeD 13 rfl) (by decide) ?_
  refine lv_icmp_ge (tgt := 36) hx hb (qaa qeD 14 rfl) (by decide) (fun c3 => ?_) (fun c3 => ?_)
  · have hw := hw.1 c3
    exact qR5 dC dI cyB cyI cyJ cyP a0 jju jgh jbU jgF jhq jkw ja4 ja0 jaH jaF jlb Q C0 _ _ _ x1 jiF jdC jiX jjg jb7 x2 hP hD hS (lv_sub hl [1, 0] rfl) hw
  · have hw := hw.2 c3
    refine lv_aload_n hx hb (qaa qeD 15 rfl) rfl (lv_at hl 1 rfl) ?_
    refine va_get (D := (dC, dI)) (ci := 9) (v := .ref jgh) (C := RX9) (T := TX9) (N := 12) hx hb hts qup hown hK hP 0 rfl rfl 2 (by decide) (hts _ qabO) (fun _ h9 => h9) rfl (qaa qig 0 rfl) ?_
    refine lv_iload_n hx hb (qaa qig 1 rfl) rfl (lv_at hl 0 rfl) ?_
    refine lv_aload_n hx hb (qaa qig 2 rfl) rfl (lv_at hl 1 rfl) ?_
    refine va_get (D := (dC, dI)) (ci := 9) (v := .int jb7) (C := RX9) (T := TX9) (N := 12) hx hb hts qup hown hK hP 0 rfl rfl 6 (by decide) (hts _ q96) (fun _ h9 => h9) rfl (qaa qig 3 rfl) ?_
    obtain ⟨hi9, hw⟩ := hw
    refine va_iast hx hb hK hP hD hS 2 1 rfl rfl hi9 (qaa qig 4 rfl) (fun H locs hP hD hS => ?_)
    obtain ⟨f4, ef4⟩ : ∃ y : NI, y = upd jiF x2.toNatClampNeg jb7 := ⟨_, rfl⟩
    have hw := hw f4 ef4
    have hP : va_P (dC, dI) vwCl (qLR a0 jbU jgF jgh jhq jju jkw jb7 x1 ja4 ja0 jaH jaF jju cyI jlb jgh cyI f4 jbU cyI jdC jgF cyI jiX jhq cyI jjg) H := by rw [ef4]; exact hP
    have hD : va_D A (qLR a0 jbU jgF jgh jhq jju jkw jb7 x1 ja4 ja0 jaH jaF jju cyI jlb jgh cyI f4 jbU cyI jdC jgF cyI jiX jhq cyI jjg) := by rw [ef4]; exact hD
    exact qR5 dC dI cyB cyI cyJ cyP a0 jju jgh jbU jgF jhq jkw ja4 ja0 jaH jaF jlb Q C0 _ _ _ x1 f4 jdC jiX jjg jb7 x2 hP hD hS (lv_sub hl [1, 0] rfl) hw
theorem qvD : ∀ w ∈ u_ws RX9 TX9 12, w ∈ wsX9_openLoop := uiM qqR euX9 (by decide +kernel)
theorem qaeU : (.fieldLink RX9 24 "MarchHares$Work" "heads" "[I" : Cond) ∈ wsX9_openLoop := qqR 270 (by decide +kernel)
theorem qahb : (.fieldLink RX9 37 "MarchHares$Work" "length" "I" : Cond) ∈ wsX9_openLoop := qqR 1606 (by decide +kernel)
theorem qBa : (.fieldLink RX9 40 "MarchHares$Work" "open" "I" : Cond) ∈ wsX9_openLoop := qqR 1607 (by decide +kernel)
set_option maxHeartbeats 4000000 in
set_option maxRecDepth 100000 in
theorem qaGU (l : Launch) (dC : Nat → ClassId) (dI : Nat → Nat → Nat) (cyB cyI cyJ cyP : ClassId) (a0 a1 jbF jju jbU jgF jgh jhq sz : Nat) (jkw ja4 ja0 jaH jaF jcI : Value) (jb5 : Int32) (jcq : NI) (jhS jcU jbM jeF : Int32) (jlb : NI) (jjF : Int32) (jdC jiX jiF jjg : NI) (jb7 : Int32) {Q : Int32 → Int32 → Int32 → Int32 → NI → Int32 → NI → NI → NI → NI → Int32 → Prop} (hw : q8p jb5 jcq jhS jcU jbM jeF jlb jjF jdC jiX jiF jjg jb7 Q) : Met l yX9_openLoop wsX9_openLoop ({ frames := 3, cells := 0, slots := 0, locals := 63 }) (va_Pc [.ref a0, .ref a1] (cPc (dC, dI) (kT cyB cyI cyJ cyP) (qFB a0 jbU jgF jgh jhq jju jkw jb7 jjF ja4 ja0 jaH jaF a1 jbF jb5 jhS jeF jcI jcU jbM jbF cyB jcq jju cyI jlb jbU cyI jdC jgF cyI jiX jgh cyI jiF jhq cyI jjg) sz)) (va_Qv (fun (u : Int32 × Int32 × Int32 × Int32 × NI × Int32 × NI × NI × NI × NI × Int32) => Q u.1 u.2.1 u.2.2.1 u.2.2.2.1 u.2.2.2.2.1 u.2.2.2.2.2.1 u.2.2.2.2.2.2.1 u.2.2.2.2.2.2.2.1 u.2.2.2.2.2.2.2.2.1 u.2.2.2.2.2.2.2.2.2.1 u.2.2.2.2.2.2.2.2.2.2) (cB (dC, dI) (kT cyB cyI cyJ cyP) (va_A (qFB a0 jbU jgF jgh jhq jju jkw jb7 jjF ja4 ja0 jaH jaF a1 jbF jb5 jhS jeF jcI jcU jbM jbF cyB jcq jju cyI jlb jbU cyI jdC jgF cyI jiX jgh cyI jiF jhq cyI jjg) sz) (fun u : Int32 × Int32 × Int32 × Int32 × NI × Int32 × NI × NI × NI × NI × Int32 => ((qFB a0 jbU jgF jgh jhq jju jkw u.2.2.2.2.2.2.2.2.2.2 u.2.2.2.2.2.1 ja4 ja0 jaH jaF a1 jbF jb5 u.1 u.2.2.2.1 jcI u.2.1 u.2.2.1 jbF cyB jcq jju cyI u.2.2.2.2.1 jbU cyI u.2.2.2.2.2.2.1 jgF cyI u.2.2.2.2.2.2.2.1 jgh cyI u.2.2.2.2.2.2.2.2.1 jhq cyI u.2.2.2.2.2.2.2.2.2.1) : va_W))) (va_A (qFB a0 jbU jgF jgh jhq jju jkw jb7 jjF ja4 ja0 jaH jaF a1 jbF jb5 jhS jeF jcI jcU jbM jbF cyB jcq jju cyI jlb jbU cyI jdC jgF cyI jiX jgh cyI jiF jhq cyI jjg) sz)) 0 0 (va_A (qFB a0 jbU jgF jgh jhq jju jkw jb7 jjF ja4 ja0 jaH jaF a1 jbF jb5 jhS jeF jcI jcU jbM jbF cyB jcq jju cyI jlb jbU cyI jdC jgF cyI jiX jgh cyI jiF jhq cyI jjg) sz) := by
  refine Met.ofW (cc := cX9_openLoop) (maxL := 3) (ret := none) (by decide) rfl ?_
  intro p e s m args below meth c s₁ B hml hv
  obtain ⟨rfl, hsz, hP, hK, hD0, hNw⟩ := hv
  have hx := B.exec
  have hb := B.bytes
  have hr := B.returns
  have hts := atoms_spec (ws := wsX9_openLoop) B.pre
  have hown : s.vm.findClass RX9 = some m.cls := findClass_of_methodNamed B.named
  have hlocks := B.notSynchronized
  subst hsz
  have hD := hD0.self (sz := s.heap.size)
  generalize hAe : va_A (qFB a0 jbU jgF jgh jhq jju jkw jb7 jjF ja4 ja0 jaH jaF a1 jbF jb5 jhS jeF jcI jcU jbM jbF cyB jcq jju cyI jlb jbU cyI jdC jgF cyI jiX jgh cyI jiF jhq cyI jjg) s.heap.size = A at hD ⊢
  have hA : ∀ q : Nat, s.heap.size ≤ q → A q := fun q h => by rw [← hAe]; exact Or.inr h
  have hS : va_S A s.heap s.heap [] := va_S.rf
  have hP : va_P (dC, dI) vwCl (qFB a0 jbU jgF jgh jhq jju jkw jb7 jjF ja4 ja0 jaH jaF a1 jbF jb5 jhS jeF jcI jcU jbM jbF cyB jcq jju cyI jlb jbU cyI jdC jgF cyI jiX jgh cyI jiF jhq cyI jjg) s.heap := hP
  have hl := lv_entry ([.ref a0, .ref a1]) (n := 3) (nbq rfl)
  rw [lg_entry_eq]
  generalize (lg_sl ([.ref a0, .ref a1]) ++ List.replicate (3 - (lg_sl ([.ref a0, .ref a1])).length) Slot.unset).toArray = ls at hl ⊢
  have hl : lv_has ls 3 [(0, .ref a0), (1, .ref a1)] := hl
  have C0 : cfx p s m _ meth c cX9_openLoop none wsX9_openLoop RX9 3 A (dC, dI) (kT cyB cyI cyJ cyP) := ⟨hx, hb, hr, hts, hown, hlocks, hml, hA, hK, hNw⟩
  clear hAe
  obtain ⟨H, hH⟩ : ∃ H, H = s.heap := ⟨_, rfl⟩
  rw [← hH] at hP ⊢
  have hS : va_S A s.heap H [] := by rw [hH]; exact va_S.rf
  have hS := hS
  refine lv_aload_n hx hb (qaa qfN 0 rfl) rfl (lv_at hl 0 rfl) ?_
  refine va_get (D := (dC, dI)) (ci := 9) (v := .int jjF) (C := RX9) (T := TX9) (N := 12) hx hb hts qvD hown hK hP 0 rfl rfl 7 (by decide) (hts _ qBa) (fun _ h9 => h9) rfl (qaa qfN 1 rfl) ?_
  refine lv_bipush (v := 6) hx hb (qaa qfN 2 rfl) (by decide) ?_
  refine lv_icmp_lt (tgt := 15) hx hb (qaa qfN 3 rfl) (by decide) (fun c1 => ?_) (fun c1 => ?_)
  · have hw := hw.1 c1
    refine lv_aload_n hx hb (qaa qfN 8 rfl) rfl (lv_at hl 1 rfl) ?_
    refine lv_iconst (v := 0) hx hb (qaa qfN 9 rfl) (by decide) ?_
    refine lv_bipush (v := 40) hx hb (qaa qfN 10 rfl) (by decide) ?_
    obtain ⟨hCc, hPc, hDc, hFc⟩ := qac (ws' := (qaRK a1 jbF jb5 jhS jeF jcI jcU jbM jbF cyB jcq)) hP hD hS hA [1, 2] (by decide +kernel) rfl
    refine va_calli (va_runV (As := [.int 0, .int 40]) (rest := []) ⟨hx, hb, hml, hown, hts⟩ (qh9 l dC dI cyB cyI cyJ cyP a1 jbF H.size (jcI) jb5 jcq jhS jcU jbM jeF 0 40 hw) (cwV 2 hts gX9_openLoop_X8_number rfl rfl rfl (by decide +kernel) ⟨nbq rfl, nbq rfl⟩) ⟨qab, va_recv (q := (RX8, TX8, 7)) hK hPc (ci := 8) (q0 := 0) rfl rfl, qae hPc hK hDc hNw⟩ rfl rfl hl.1 rfl (lv_room (nbq rfl)) (qaa qfN 11 rfl) ⟨nbq rfl, nbq rfl⟩) hS (fun q _ h => hFc q h) hFc (fun r6 u t H1 locs ht hvm hw hB hz1 hk1 hS => ?_)
    obtain ⟨x2, x3, x4, x5⟩ := u
    obtain ⟨hP1, hK1, hD1⟩ := hB
    rw [ht] at hP1
    obtain ⟨hP, hD⟩ := qad (wr := (qLR a0 jbU jgF jgh jhq jju jkw jb7 jjF ja4 ja0 jaH jaF jju cyI jlb jbU cyI jdC jgF cyI jiX jgh cyI jiF jhq cyI jjg)) (w1 := (qaRK a1 jbF jb5 x2 x5 jcI x3 x4 jbF cyB jcq)) (wn := (qFB a0 jbU jgF jgh jhq jju jkw jb7 jjF ja4 ja0 jaH jaF a1 jbF jb5 x2 x5 jcI x3 x4 jbF cyB jcq jju cyI jlb jbU cyI jdC jgF cyI jiX jgh cyI jiF jhq cyI jjg)) hP hD [1, 2] [0, 3, 4, 5, 6, 7] [0, 6, 7, 1, 2, 3, 4, 5] hCc rfl (by decide +kernel) (by decide +kernel) (by decide +kernel) rfl hk1 hFc hP1 hD1
    generalize H1 = H at hP hS ⊢
    refine lv_istore_n (lv' := [(2, .int r6), (0, .ref a0), (1, .ref a1)]) hx hb (qaa qfN 12 rfl) rfl hl (by decide) rfl (fun ls hl => ?_)
    refine lv_aload_n hx hb (qaa qfN 13 rfl) rfl (lv_at hl 2 rfl) ?_
    refine lv_bipush (v := 91) hx hb (qaa qfN 14 rfl) (by decide) ?_
    obtain ⟨hCc, hPc, hDc, hFc⟩ := qac (ws' := (qaRK a1 jbF jb5 x2 x5 jcI x3 x4 jbF cyB jcq)) hP hD hS hA [1, 2] (by decide +kernel) rfl
    refine va_callv (va_runV (As := [.int 91]) (rest := []) ⟨hx, hb, hml, hown, hts⟩ (qtg l dC dI cyB cyI cyJ cyP a1 jbF H.size (jcI) jb5 jcq x2 x5 x3 x4 91 hw) (cwV 1 hts gX9_openLoop_X8_needs rfl rfl rfl (by decide +kernel) ⟨nbq rfl, nbq rfl⟩) ⟨qab, va_recv (q := (RX8, TX8, 7)) hK hPc (ci := 8) (q0 := 0) rfl rfl, qae hPc hK hDc hNw⟩ rfl rfl hl.1 rfl (lv_room (nbq rfl)) (qaa qfN 15 rfl) ⟨nbq rfl, nbq rfl⟩) hS (fun q _ h => hFc q h) hFc (fun u t H1 locs ht hvm hw hB hz1 hk1 hS => ?_)
    obtain ⟨x7, x8, x9, x10⟩ := u
    obtain ⟨hP1, hK1, hD1⟩ := hB
    rw [ht] at hP1
    obtain ⟨hP, hD⟩ := qad (wr := (qLR a0 jbU jgF jgh jhq jju jkw jb7 jjF ja4 ja0 jaH jaF jju cyI jlb jbU cyI jdC jgF cyI jiX jgh cyI jiF jhq cyI jjg)) (w1 := (qaRK a1 jbF jb5 x7 x8 jcI x9 x10 jbF cyB jcq)) (wn := (qFB a0 jbU jgF jgh jhq jju jkw jb7 jjF ja4 ja0 jaH jaF a1 jbF jb5 x7 x8 jcI x9 x10 jbF cyB jcq jju cyI jlb jbU cyI jdC jgF cyI jiX jgh cyI jiF jhq cyI jjg)) hP hD [1, 2] [0, 3, 4, 5, 6, 7] [0, 6, 7, 1, 2, 3, 4, 5] hCc rfl (by decide +kernel) (by decide +kernel) (by decide +kernel) rfl hk1 hFc hP1 hD1
    generalize H1 = H at hP hS ⊢
    refine lv_aload_n hx hb (qaa qeq 0 rfl) rfl (lv_at hl 1 rfl) ?_
    refine va_get (D := (dC, dI)) (ci := 9) (v := .ref jju) (C := RX9) (T := TX9) (N := 12) hx hb hts qvD hown hK hP 0 rfl rfl 4 (by decide) (hts _ qaeU) (fun _ h9 => h9) rfl (qaa qeq 1 rfl) ?_
    refine lv_aload_n hx hb (qaa qeq 2 rfl) rfl (lv_at hl 1 rfl) ?_
    refine va_get (D := (dC, dI)) (ci := 9) (v := .int jjF) (C := RX9) (T := TX9) (N := 12) hx hb hts qvD hown hK hP 0 rfl rfl 7 (by decide) (hts _ qBa) (fun _ h9 => h9) rfl (qaa qeq 3 rfl) ?_
    refine lv_aload_n hx hb (qaa qeq 4 rfl) rfl (lv_at hl 1 rfl) ?_
    refine va_get (D := (dC, dI)) (ci := 9) (v := .int jb7) (C := RX9) (T := TX9) (N := 12) hx hb hts qvD hown hK hP 0 rfl rfl 6 (by decide) (hts _ qahb) (fun _ h9 => h9) rfl (qaa qeq 5 rfl) ?_
    obtain ⟨hi9, hw⟩ := hw
    refine va_iast hx hb hK hP hD hS 3 1 rfl rfl hi9 (qaa qeq 6 rfl) (fun H locs hP hD hS => ?_)
    obtain ⟨f11, ef11⟩ : ∃ y : NI, y = upd jlb jjF.toNatClampNeg jb7 := ⟨_, rfl⟩
    have hw := hw f11 ef11
    have hP : va_P (dC, dI) vwCl (qFB a0 jbU jgF jgh jhq jju jkw jb7 jjF ja4 ja0 jaH jaF a1 jbF jb5 x7 x8 jcI x9 x10 jbF cyB jcq jju cyI f11 jbU cyI jdC jgF cyI jiX jgh cyI jiF jhq cyI jjg) H := by rw [ef11]; exact hP
    have hD : va_D A (qFB a0 jbU jgF jgh jhq jju jkw jb7 jjF ja4 ja0 jaH jaF a1 jbF jb5 x7 x8 jcI x9 x10 jbF cyB jcq jju cyI f11 jbU cyI jdC jgF cyI jiX jgh cyI jiF jhq cyI jjg) := by rw [ef11]; exact hD
    refine lv_aload_n hx hb (qaa qeq 7 rfl) rfl (lv_at hl 1 rfl) ?_
    refine lv_dup hx hb (qaa qeq 8 rfl) rfl ?_
    refine va_get (D := (dC, dI)) (ci := 9) (v := .int jjF) (C := RX9) (T := TX9) (N := 12) hx hb hts qvD hown hK hP 0 rfl rfl 7 (by decide) (hts _ qBa) (fun _ h9 => h9) rfl (qaa qeq 9 rfl) ?_
    refine lv_iconst (v := 1) hx hb (qaa qeq 10 rfl) (by decide) ?_
    refine lv_iadd hx hb (qaa qeq 11 rfl) ?_
    refine lv_topi (fun x12 ex12 => ?_)
    have hw := hw x12 ex12
    refine va_put (D := (dC, dI)) (ci := 9) (v := .int x12) (ty := .int) (C := RX9) (T := TX9) (N := 12) hx hb hts qvD tyX9 tyX9_ok nmX9 hown hK hP hD hS 0 rfl rfl 7 (by decide) (hts _ qBa) (fun _ h9 => h9) rfl (by decide +kernel) rfl rfl (nbq rfl) (qaa qeq 12 rfl) (fun H locs hP hD hS => ?_)
    have hP : va_P (dC, dI) vwCl (qFB a0 jbU jgF jgh jhq jju jkw jb7 x12 ja4 ja0 jaH jaF a1 jbF jb5 x7 x8 jcI x9 x10 jbF cyB jcq jju cyI f11 jbU cyI jdC jgF cyI jiX jgh cyI jiF jhq cyI jjg) H := hP
    have hD : va_D A (qFB a0 jbU jgF jgh jhq jju jkw jb7 x12 ja4 ja0 jaH jaF a1 jbF jb5 x7 x8 jcI x9 x10 jbF cyB jcq jju cyI f11 jbU cyI jdC jgF cyI jiX jgh cyI jiF jhq cyI jjg) := hD
    refine lv_aload_n hx hb (qaa qeq 13 rfl) rfl (lv_at hl 1 rfl) ?_
    refine lv_iconst (v := 4) hx hb (qaa qeq 14 rfl) (by decide) ?_
    refine lv_iload_n hx hb (qaa qeq 15 rfl) rfl (lv_at hl 0 rfl) ?_
    refine lv_iconst (v := 0) hx hb (qaa qCO 0 rfl) (by decide) ?_
    refine lv_iconst (v := 0) hx hb (qaa qCO 1 rfl) (by decide) ?_
    obtain ⟨hCc, hPc, hDc, hFc⟩ := qac (ws' := (qa1k a0 jbU jgF jgh jhq jju jkw jb7 x12 ja4 ja0 jaH jaF jbU cyI jdC jgF cyI jiX jgh cyI jiF jhq cyI jjg)) hP hD hS hA [0, 4, 5, 6, 7] (by decide +kernel) rfl
    refine va_callv (va_runV (As := [.int 4, .int r6, .int 0, .int 0]) (rest := []) ⟨hx, hb, hml, hown, hts⟩ (qV3 l dC dI cyB cyI cyJ cyP a0 jbU jgF jgh jhq H.size (.ref jju) (jkw) (.int x12) (ja4) (ja0) (jaH) (jaF) jdC jiX jiF jjg jb7 4 r6 0 0 hw) (cwV 4 hts gX9_openLoop_X9_add rfl rfl rfl (by decide +kernel) ⟨nbq rfl, nbq rfl⟩) ⟨qab, va_recv (q := (RX9, TX9, 12)) hK hPc (ci := 9) (q0 := 0) rfl rfl, qae hPc hK hDc hNw⟩ rfl rfl hl.1 rfl (lv_room (nbq rfl)) (qaa qCO 2 rfl) ⟨nbq rfl, nbq rfl⟩) hS (fun q _ h => hFc q h) hFc (fun u t H1 locs ht hvm hw hB hz1 hk1 hS => ?_)
    obtain ⟨f13, f14, f15, f16, x17⟩ := u
    obtain ⟨hP1, hK1, hD1⟩ := hB
    rw [ht] at hP1
    obtain ⟨hP, hD⟩ := qad (wr := [(a1, .inr (8, [.ref jbF, .int jb5, .int x7, .int x8, jcI, .int x9, .int x10])), (jbF, .inl (cyB, 600, .inl jcq)), (jju, .inl (cyI, 6, .inl f11))]) (w1 := (qa1k a0 jbU jgF jgh jhq jju jkw x17 x12 ja4 ja0 jaH jaF jbU cyI f13 jgF cyI f14 jgh cyI f15 jhq cyI f16)) (wn := (qFB a0 jbU jgF jgh jhq jju jkw x17 x12 ja4 ja0 jaH jaF a1 jbF jb5 x7 x8 jcI x9 x10 jbF cyB jcq jju cyI f11 jbU cyI f13 jgF cyI f14 jgh cyI f15 jhq cyI f16)) hP hD [0, 4, 5, 6, 7] [1, 2, 3] [3, 0, 1, 2, 4, 5, 6, 7] hCc rfl (by decide +kernel) (by decide +kernel) (by decide +kernel) rfl hk1 hFc hP1 hD1
    generalize H1 = H at hP hS ⊢
    exact ((W.vret hx hb hr (fun t ht hW => ⟨⟨(x7, x9, x10, x8, f11, x12, f13, f14, f15, f16, x17), rfl, hw, by rw [ht]; exact hP, va_K.moved hW.alike hK, hD⟩, hS.F ht⟩) hS.2.2 (qaa qCO 3 rfl)))
  · have hw := hw.2 c1
    refine lv_aload_n hx hb (qaa qfN 4 rfl) rfl (lv_at hl 1 rfl) ?_
    refine lv_iconst (v := 3) hx hb (qaa qfN 5 rfl) (by decide) ?_
    obtain ⟨hCc, hPc, hDc, hFc⟩ := qac (ws' := (qa3P a1 jbF jb5 jhS jeF jcI jcU jbM)) hP hD hS hA [1] (by decide +kernel) rfl
    refine va_callv (va_runV (As := [.int 3]) (rest := []) ⟨hx, hb, hml, hown, hts⟩ (qnW l dC dI cyB cyI cyJ cyP a1 H.size (.ref jbF) (.int jb5) (.int jhS) (jcI) jeF jcU jbM 3 hw) (cwV 1 hts gX9_openLoop_X8_blameToken rfl rfl rfl (by decide +kernel) ⟨nbq rfl, nbq rfl⟩) ⟨qab, va_recv (q := (RX8, TX8, 7)) hK hPc (ci := 8) (q0 := 0) rfl rfl, qae hPc hK hDc hNw⟩ rfl rfl hl.1 rfl (lv_room (nbq rfl)) (qaa qfN 6 rfl) ⟨nbq rfl, nbq rfl⟩) hS (fun q _ h => hFc q h) hFc (fun u t H1 locs ht hvm hw hB hz1 hk1 hS => ?_)
    obtain ⟨x18, x19⟩ := u
    obtain ⟨hP1, hK1, hD1⟩ := hB
    rw [ht] at hP1
    obtain ⟨hP, hD⟩ := qad (wr := [(a0, .inr (9, [.ref jbU, .ref jgF, .ref jgh, .ref jhq, .ref jju, jkw, .int jb7, .int jjF, ja4, ja0, jaH, jaF])), (jbF, .inl (cyB, 600, .inl jcq)), (jju, .inl (cyI, 6, .inl jlb)), (jbU, .inl (cyI, 50, .inl jdC)), (jgF, .inl (cyI, 50, .inl jiX)), (jgh, .inl (cyI, 50, .inl jiF)), (jhq, .inl (cyI, 50, .inl jjg))]) (w1 := (qa3P a1 jbF jb5 jhS jeF jcI x18 x19)) (wn := (qFB a0 jbU jgF jgh jhq jju jkw jb7 jjF ja4 ja0 jaH jaF a1 jbF jb5 jhS jeF jcI x18 x19 jbF cyB jcq jju cyI jlb jbU cyI jdC jgF cyI jiX jgh cyI jiF jhq cyI jjg)) hP hD [1] [0, 2, 3, 4, 5, 6, 7] [0, 7, 1, 2, 3, 4, 5, 6] hCc rfl (by decide +kernel) (by decide +kernel) (by decide +kernel) rfl hk1 hFc hP1 hD1
    generalize H1 = H at hP hS ⊢
    exact ((W.vret hx hb hr (fun t ht hW => ⟨⟨(jhS, x18, x19, jeF, jlb, jjF, jdC, jiX, jiF, jjg, jb7), rfl, hw, by rw [ht]; exact hP, va_K.moved hW.alike hK, hD⟩, hS.F ht⟩) hS.2.2 (qaa qfN 7 rfl)))
theorem qaPl : ∀ w ∈ u_ws RX1 TX1 4, w ∈ wsX5_push := uiM qGO qWg (by decide +kernel)
theorem qIl : ∀ w ∈ u_ws RX5 TX5 2, w ∈ wsX5_push := uiM qGO euX5 (by decide +kernel)
theorem qaJ9 : (.initialized "java/lang/System" : Cond) ∈ wsX5_push := qGO 331 (by decide +kernel)
theorem qaG3 : (.native arraycopyName : Cond) ∈ wsX5_push := qGO 329 (by decide +kernel)
theorem qaKH : (.static arraycopyName : Cond) ∈ wsX5_push := qGO 330 (by decide +kernel)
theorem qaG9 : (.fieldLink RX5 11 "MarchHares$Past" "rows" "[I" : Cond) ∈ wsX5_push := qGO 335 (by decide +kernel)
theorem qKv : (.fieldLink RX5 17 "MarchHares$Past" "kept" "I" : Cond) ∈ wsX5_push := qGO 1676 (by decide +kernel)
theorem qaHN : (.fieldLink RX5 21 "MarchHares$Days" "row" "[I" : Cond) ∈ wsX5_push := qGO 1677 (by decide +kernel)
theorem qaJY : (.methodLink RX5 24 arraycopyName : Cond) ∈ wsX5_push := qGO 1678 (by decide +kernel)
set_option maxHeartbeats 4000000 in
set_option maxRecDepth 100000 in
theorem qAp (l : Launch) (dC : Nat → ClassId) (dI : Nat → Nat → Nat) (cyB cyI cyJ cyP : ClassId) (a0 a1 jjO jnO sz : Nat) (jjP jpb jn2 : Value) (jkO joO : NI) (joH : Int32) {Q : NI → Int32 → Prop} (hw : qwF jkO joO joH Q) : Met l yX5_push wsX5_push ({ frames := 1, cells := 0, slots := 0, locals := 40 }) (va_Pc [.ref a0, .ref a1] (cPc (dC, dI) (kT cyB cyI cyJ cyP) (qsi a0 jnO joH a1 jjO jjP jpb jn2 jjO cyI jkO jnO cyI joO) sz)) (va_Qv (fun (u : NI × Int32) => Q u.1 u.2) (cB (dC, dI) (kT cyB cyI cyJ cyP) (va_A (qsi a0 jnO joH a1 jjO jjP jpb jn2 jjO cyI jkO jnO cyI joO) sz) (fun u : NI × Int32 => ((qsi a0 jnO u.2 a1 jjO jjP jpb jn2 jjO cyI jkO jnO cyI u.1) : va_W))) (va_A (qsi a0 jnO joH a1 jjO jjP jpb jn2 jjO cyI jkO jnO cyI joO) sz)) 0 0 (va_A (qsi a0 jnO joH a1 jjO jjP jpb jn2 jjO cyI jkO jnO cyI joO) sz) := by
  refine Met.ofW (cc := cX5_push) (maxL := 2) (ret := none) (by decide) rfl ?_
  intro p e s m args below meth c s₁ B hml hv
  obtain ⟨rfl, hsz, hP, hK, hD0, hNw⟩ := hv
  have hx := B.exec
  have hb := B.bytes
  have hr := B.returns
  have hts := atoms_spec (ws := wsX5_push) B.pre
  have hown : s.vm.findClass RX5 = some m.cls := findClass_of_methodNamed B.named
  have hlocks := B.notSynchronized
  subst hsz
  have hD := hD0.self (sz := s.heap.size)
  generalize hAe : va_A (qsi a0 jnO joH a1 jjO jjP jpb jn2 jjO cyI jkO jnO cyI joO) s.heap.size = A at hD ⊢
  have hA : ∀ q : Nat, s.heap.size ≤ q → A q := fun q h => by rw [← hAe]; exact Or.inr h
  have hS : va_S A s.heap s.heap [] := va_S.rf
  have hP : va_P (dC, dI) vwCl (qsi a0 jnO joH a1 jjO jjP jpb jn2 jjO cyI jkO jnO cyI joO) s.heap := hP
  have hl := lv_entry ([.ref a0, .ref a1]) (n := 2) (nbq rfl)
  rw [lg_entry_eq]
  generalize (lg_sl ([.ref a0, .ref a1]) ++ List.replicate (2 - (lg_sl ([.ref a0, .ref a1])).length) Slot.unset).toArray = ls at hl ⊢
  have hl : lv_has ls 2 [(0, .ref a0), (1, .ref a1)] := hl
  have C0 : cfx p s m _ meth c cX5_push none wsX5_push RX5 2 A (dC, dI) (kT cyB cyI cyJ cyP) := ⟨hx, hb, hr, hts, hown, hlocks, hml, hA, hK, hNw⟩
  clear hAe
  obtain ⟨H, hH⟩ : ∃ H, H = s.heap := ⟨_, rfl⟩
  rw [← hH] at hP ⊢
  have hS : va_S A s.heap H [] := by rw [hH]; exact va_S.rf
  have hS := hS
  refine lv_aload_n hx hb (qaa qoy 0 rfl) rfl (lv_at hl 0 rfl) ?_
  refine va_get (D := (dC, dI)) (ci := 5) (v := .int joH) (C := RX5) (T := TX5) (N := 2) hx hb hts qIl hown hK hP 0 rfl rfl 1 (by decide) (hts _ qKv) (fun _ h9 => h9) rfl (qaa qoy 1 rfl) ?_
  refine lv_bipush (v := 16) hx hb (qaa qoy 2 rfl) (by decide) ?_
  refine lv_icmp_gt (tgt := 40) hx hb (qaa qoy 3 rfl) (by decide) (fun c1 => ?_) (fun c1 => ?_)
  · have hw := hw.1 c1
    exact ((W.vret hx hb hr (fun t ht hW => ⟨⟨(joO, joH), rfl, hw, by rw [ht]; exact hP, va_K.moved hW.alike hK, hD⟩, hS.F ht⟩) hS.2.2 (qaa qzp 5 rfl)))
  · have hw := hw.2 c1
    refine lv_aload_n hx hb (qaa qoy 4 rfl) rfl (lv_at hl 1 rfl) ?_
    refine va_get (D := (dC, dI)) (ci := 1) (v := .ref jjO) (C := RX1) (T := TX1) (N := 4) hx hb hts qaPl hown hK hP 1 rfl rfl 0 (by decide) (hts _ qaHN) (fun _ h9 => h9) rfl (qaa qoy 5 rfl) ?_
    refine lv_iconst (v := 0) hx hb (qaa qoy 6 rfl) (by decide) ?_
    refine lv_aload_n hx hb (qaa qoy 7 rfl) rfl (lv_at hl 0 rfl) ?_
    refine va_get (D := (dC, dI)) (ci := 5) (v := .ref jnO) (C := RX5) (T := TX5) (N := 2) hx hb hts qIl hown hK hP 0 rfl rfl 0 (by decide) (hts _ qaG9) (fun _ h9 => h9) rfl (qaa qoy 8 rfl) ?_
    refine lv_aload_n hx hb (qaa qoy 9 rfl) rfl (lv_at hl 0 rfl) ?_
    refine va_get (D := (dC, dI)) (ci := 5) (v := .int joH) (C := RX5) (T := TX5) (N := 2) hx hb hts qIl hown hK hP 0 rfl rfl 1 (by decide) (hts _ qKv) (fun _ h9 => h9) rfl (qaa qoy 10 rfl) ?_
    refine lv_bipush (v := 64) hx hb (qaa qoy 11 rfl) (by decide) ?_
    refine lv_imul hx hb (qaa qoy 12 rfl) ?_
    refine lv_topi (fun x2 ex2 => ?_)
    have hw := hw x2 ex2
    refine lv_bipush (v := 64) hx hb (qaa qoy 13 rfl) (by decide) ?_
    obtain ⟨hc19, hw⟩ := hw
    obtain ⟨hc49, hw⟩ := hw
    refine va_copyi hx hb (by rw [hml]; exact hl.1.symm) hown (hts _ qaJY) (hts _ qaG3) (hts _ qaKH) (hts _ qaJ9) hK hP hD hS 2 3 1 1 rfl rfl rfl rfl rfl (by decide) hc19 (by decide) (by decide) hc49 (fun _ _ => rfl) (nbq rfl) (nbq rfl) (qaa qoy 14 rfl) (fun H locs hP hD hS => ?_)
    obtain ⟨f3, ef3⟩ : ∃ y : NI, y = va_cpy jkO joO (0 : Int32).toNatClampNeg x2.toNatClampNeg (64 : Int32).toNatClampNeg := ⟨_, rfl⟩
    have hw := hw f3 ef3
    have hP : va_P (dC, dI) vwCl (qsi a0 jnO joH a1 jjO jjP jpb jn2 jjO cyI jkO jnO cyI f3) H := by rw [ef3]; exact hP
    have hD : va_D A (qsi a0 jnO joH a1 jjO jjP jpb jn2 jjO cyI jkO jnO cyI f3) := by rw [ef3]; exact hD
    refine lv_aload_n hx hb (qaa qoy 15 rfl) rfl (lv_at hl 0 rfl) ?_
    refine lv_dup hx hb (qaa qzp 0 rfl) rfl ?_
    refine va_get (D := (dC, dI)) (ci := 5) (v := .int joH) (C := RX5) (T := TX5) (N := 2) hx hb hts qIl hown hK hP 0 rfl rfl 1 (by decide) (hts _ qKv) (fun _ h9 => h9) rfl (qaa qzp 1 rfl) ?_
    refine lv_iconst (v := 1) hx hb (qaa qzp 2 rfl) (by decide) ?_
    refine lv_iadd hx hb (qaa qzp 3 rfl) ?_
    refine lv_topi (fun x4 ex4 => ?_)
    have hw := hw x4 ex4
    refine va_put (D := (dC, dI)) (ci := 5) (v := .int x4) (ty := .int) (C := RX5) (T := TX5) (N := 2) hx hb hts qIl tyX5 tyX5_ok nmX5 hown hK hP hD hS 0 rfl rfl 1 (by decide) (hts _ qKv) (fun _ h9 => h9) rfl (by decide +kernel) rfl rfl (nbq rfl) (qaa qzp 4 rfl) (fun H locs hP hD hS => ?_)
    have hP : va_P (dC, dI) vwCl (qsi a0 jnO x4 a1 jjO jjP jpb jn2 jjO cyI jkO jnO cyI f3) H := hP
    have hD : va_D A (qsi a0 jnO x4 a1 jjO jjP jpb jn2 jjO cyI jkO jnO cyI f3) := hD
    exact ((W.vret hx hb hr (fun t ht hW => ⟨⟨(f3, x4), rfl, hw, by rw [ht]; exact hP, va_K.moved hW.alike hK, hD⟩, hS.F ht⟩) hS.2.2 (qaa qzp 5 rfl)))
theorem qqi : ∀ w ∈ u_ws RX9 TX9 12, w ∈ wsX9_behindEnd := uiM qKs euX9 (by decide +kernel)
theorem q9B : (.fieldLink RX9 15 "MarchHares$Work" "first" "[I" : Cond) ∈ wsX9_behindEnd := qKs 267 (by decide +kernel)
theorem qO8 : (.fieldLink RX9 27 "MarchHares$Work" "rounds" "[I" : Cond) ∈ wsX9_behindEnd := qKs 271 (by decide +kernel)
theorem qvW : (.fieldLink RX9 40 "MarchHares$Work" "open" "I" : Cond) ∈ wsX9_behindEnd := qKs 1607 (by decide +kernel)
set_option maxHeartbeats 4000000 in
set_option maxRecDepth 100000 in
theorem qawO (l : Launch) (dC : Nat → ClassId) (dI : Nat → Nat → Nat) (cyB cyI cyJ cyP : ClassId) (a0 jlw jgF sz : Nat) (jni jpk joZ jme jjf ja4 ja0 jaH jaF : Value) (jiX jmk : NI) (jjF p1 : Int32) {Q : Int32 → NI → Int32 → Prop} (hw : q0W jiX jmk jjF p1 Q) : Met l yX9_behindEnd wsX9_behindEnd ({ frames := 0, cells := 0, slots := 0, locals := 0 }) (va_Pc [.ref a0, .int p1] (cPc (dC, dI) (kT cyB cyI cyJ cyP) (qQe a0 jni jgF jpk joZ jme jlw jjf jjF ja4 ja0 jaH jaF jlw cyI jmk jgF cyI jiX) sz)) (va_Qi (fun (r : Int32) (u : NI × Int32) => Q r u.1 u.2) (cB (dC, dI) (kT cyB cyI cyJ cyP) (va_A (qQe a0 jni jgF jpk joZ jme jlw jjf jjF ja4 ja0 jaH jaF jlw cyI jmk jgF cyI jiX) sz) (fun u : NI × Int32 => ((qQe a0 jni jgF jpk joZ jme jlw jjf u.2 ja4 ja0 jaH jaF jlw cyI u.1 jgF cyI jiX) : va_W))) (va_A (qQe a0 jni jgF jpk joZ jme jlw jjf jjF ja4 ja0 jaH jaF jlw cyI jmk jgF cyI jiX) sz)) 0 0 (va_A (qQe a0 jni jgF jpk joZ jme jlw jjf jjF ja4 ja0 jaH jaF jlw cyI jmk jgF cyI jiX) sz) := by
  refine Met.ofW (cc := cX9_behindEnd) (maxL := 2) (ret := (some .int)) (by decide) rfl ?_
  intro p e s m args below meth c s₁ B hml hv
  obtain ⟨rfl, hsz, hP, hK, hD0, hNw⟩ := hv
  have hx := B.exec
  have hb := B.bytes
  have hr := B.returns
  have hts := atoms_spec (ws := wsX9_behindEnd) B.pre
  have hown : s.vm.findClass RX9 = some m.cls := findClass_of_methodNamed B.named
  have hlocks := B.notSynchronized
  subst hsz
  have hD := hD0.self (sz := s.heap.size)
  generalize hAe : va_A (qQe a0 jni jgF jpk joZ jme jlw jjf jjF ja4 ja0 jaH jaF jlw cyI jmk jgF cyI jiX) s.heap.size = A at hD ⊢
  have hA : ∀ q : Nat, s.heap.size ≤ q → A q := fun q h => by rw [← hAe]; exact Or.inr h
  have hS : va_S A s.heap s.heap [] := va_S.rf
  have hP : va_P (dC, dI) vwCl (qQe a0 jni jgF jpk joZ jme jlw jjf jjF ja4 ja0 jaH jaF jlw cyI jmk jgF cyI jiX) s.heap := hP
  have hl := lv_entry ([.ref a0, .int p1]) (n := 2) (nbq rfl)
  rw [lg_entry_eq]
  generalize (lg_sl ([.ref a0, .int p1]) ++ List.replicate (2 - (lg_sl ([.ref a0, .int p1])).length) Slot.unset).toArray = ls at hl ⊢
  have hl : lv_has ls 2 [(0, .ref a0), (1, .int p1)] := hl
  have C0 : cfx p s m _ meth c cX9_behindEnd (some .int) wsX9_behindEnd RX9 2 A (dC, dI) (kT cyB cyI cyJ cyP) := ⟨hx, hb, hr, hts, hown, hlocks, hml, hA, hK, hNw⟩
  clear hAe
  obtain ⟨H, hH⟩ : ∃ H, H = s.heap := ⟨_, rfl⟩
  rw [← hH] at hP ⊢
  have hS : va_S A s.heap H [] := by rw [hH]; exact va_S.rf
  have hS := hS
  refine lv_aload_n hx hb (qaa qdT 0 rfl) rfl (lv_at hl 0 rfl) ?_
  refine va_get (D := (dC, dI)) (ci := 9) (v := .int jjF) (C := RX9) (T := TX9) (N := 12) hx hb hts qqi hown hK hP 0 rfl rfl 7 (by decide) (hts _ qvW) (fun _ h9 => h9) rfl (qaa qdT 1 rfl) ?_
  refine lv_if_ne (tgt := 11) hx hb (qaa qdT 2 rfl) (by decide) (fun c1 => ?_) (fun c1 => ?_)
  · have hw := hw.1 c1
    refine lv_aload_n hx hb (qaa qdT 7 rfl) rfl (lv_at hl 0 rfl) ?_
    refine va_get (D := (dC, dI)) (ci := 9) (v := .ref jlw) (C := RX9) (T := TX9) (N := 12) hx hb hts qqi hown hK hP 0 rfl rfl 5 (by decide) (hts _ qO8) (fun _ h9 => h9) rfl (qaa qdT 8 rfl) ?_
    refine lv_aload_n hx hb (qaa qdT 9 rfl) rfl (lv_at hl 0 rfl) ?_
    refine va_get (D := (dC, dI)) (ci := 9) (v := .int jjF) (C := RX9) (T := TX9) (N := 12) hx hb hts qqi hown hK hP 0 rfl rfl 7 (by decide) (hts _ qvW) (fun _ h9 => h9) rfl (qaa qdT 10 rfl) ?_
    refine lv_iconst (v := 1) hx hb (qaa qdT 11 rfl) (by decide) ?_
    refine lv_isub hx hb (qaa qdT 12 rfl) ?_
    refine lv_topi (fun x2 ex2 => ?_)
    have hw := hw x2 ex2
    refine lv_dup2_11 hx hb (qaa qdT 13 rfl) rfl rfl ?_
    obtain ⟨hi9, hw⟩ := hw
    refine va_iald hx hb hK hP 1 1 rfl rfl hi9 (qaa qdT 14 rfl) ?_
    refine lv_topi (fun x3 ex3 => ?_)
    have hw := hw x3 ex3
    refine lv_iconst (v := 1) hx hb (qaa qdT 15 rfl) (by decide) ?_
    refine lv_isub hx hb (qaa qdm 0 rfl) ?_
    refine lv_topi (fun x4 ex4 => ?_)
    have hw := hw x4 ex4
    obtain ⟨hi9, hw⟩ := hw
    refine va_iast hx hb hK hP hD hS 1 1 rfl rfl hi9 (qaa qdm 1 rfl) (fun H locs hP hD hS => ?_)
    obtain ⟨f5, ef5⟩ : ∃ y : NI, y = upd jmk x2.toNatClampNeg x4 := ⟨_, rfl⟩
    have hw := hw f5 ef5
    have hP : va_P (dC, dI) vwCl (qQe a0 jni jgF jpk joZ jme jlw jjf jjF ja4 ja0 jaH jaF jlw cyI f5 jgF cyI jiX) H := by rw [ef5]; exact hP
    have hD : va_D A (qQe a0 jni jgF jpk joZ jme jlw jjf jjF ja4 ja0 jaH jaF jlw cyI f5 jgF cyI jiX) := by rw [ef5]; exact hD
    refine lv_aload_n hx hb (qaa qdm 2 rfl) rfl (lv_at hl 0 rfl) ?_
    refine va_get (D := (dC, dI)) (ci := 9) (v := .ref jlw) (C := RX9) (T := TX9) (N := 12) hx hb hts qqi hown hK hP 0 rfl rfl 5 (by decide) (hts _ qO8) (fun _ h9 => h9) rfl (qaa qdm 3 rfl) ?_
    refine lv_aload_n hx hb (qaa qdm 4 rfl) rfl (lv_at hl 0 rfl) ?_
    refine va_get (D := (dC, dI)) (ci := 9) (v := .int jjF) (C := RX9) (T := TX9) (N := 12) hx hb hts qqi hown hK hP 0 rfl rfl 7 (by decide) (hts _ qvW) (fun _ h9 => h9) rfl (qaa qdm 5 rfl) ?_
    refine lv_iconst (v := 1) hx hb (qaa qdm 6 rfl) (by decide) ?_
    refine lv_isub hx hb (qaa qdm 7 rfl) ?_
    refine lv_topi (fun x6 ex6 => ?_)
    have hw := hw x6 ex6
    obtain ⟨hi9, hw⟩ := hw
    refine va_iald hx hb hK hP 1 1 rfl rfl hi9 (qaa qdm 8 rfl) ?_
    refine lv_topi (fun x7 ex7 => ?_)
    have hw := hw x7 ex7
    refine lv_if_le (tgt := 49) hx hb (qaa qdm 9 rfl) (by decide) (fun c8 => ?_) (fun c8 => ?_)
    · have hw := hw.1 c8
      refine lv_aload_n hx hb (qaa qk5 1 rfl) rfl (lv_at hl 0 rfl) ?_
      refine lv_dup hx hb (qaa qk5 2 rfl) rfl ?_
      refine va_get (D := (dC, dI)) (ci := 9) (v := .int jjF) (C := RX9) (T := TX9) (N := 12) hx hb hts qqi hown hK hP 0 rfl rfl 7 (by decide) (hts _ qvW) (fun _ h9 => h9) rfl (qaa qk5 3 rfl) ?_
      refine lv_iconst (v := 1) hx hb (qaa qk5 4 rfl) (by decide) ?_
      refine lv_isub hx hb (qaa qk5 5 rfl) ?_
      refine lv_topi (fun x9 ex9 => ?_)
      have hw := hw x9 ex9
      refine va_put (D := (dC, dI)) (ci := 9) (v := .int x9) (ty := .int) (C := RX9) (T := TX9) (N := 12) hx hb hts qqi tyX9 tyX9_ok nmX9 hown hK hP hD hS 0 rfl rfl 7 (by decide) (hts _ qvW) (fun _ h9 => h9) rfl (by decide +kernel) rfl rfl (nbq rfl) (qaa qk5 6 rfl) (fun H locs hP hD hS => ?_)
      have hP : va_P (dC, dI) vwCl (qQe a0 jni jgF jpk joZ jme jlw jjf x9 ja4 ja0 jaH jaF jlw cyI f5 jgF cyI jiX) H := hP
      have hD : va_D A (qQe a0 jni jgF jpk joZ jme jlw jjf x9 ja4 ja0 jaH jaF jlw cyI f5 jgF cyI jiX) := hD
      refine lv_iload_n hx hb (qaa qk5 7 rfl) rfl (lv_at hl 1 rfl) ?_
      refine lv_iconst (v := 1) hx hb (qaa qk5 8 rfl) (by decide) ?_
      refine lv_iadd hx hb (qaa qk5 9 rfl) ?_
      exact ((W.iret (v := (p1 + 1)) hx hb hr (fun t ht hW => ⟨⟨(p1 + 1), (f5, x9), rfl, hw, by rw [ht]; exact hP, va_K.moved hW.alike hK, hD⟩, hS.F ht⟩) hS.2.2 (qaa qk5 10 rfl)))
    · have hw := hw.2 c8
      refine lv_aload_n hx hb (qaa qdm 10 rfl) rfl (lv_at hl 0 rfl) ?_
      refine va_get (D := (dC, dI)) (ci := 9) (v := .ref jgF) (C := RX9) (T := TX9) (N := 12) hx hb hts qqi hown hK hP 0 rfl rfl 1 (by decide) (hts _ q9B) (fun _ h9 => h9) rfl (qaa qdm 11 rfl) ?_
      refine lv_iload_n hx hb (qaa qdm 12 rfl) rfl (lv_at hl 1 rfl) ?_
      obtain ⟨hi9, hw⟩ := hw
      refine va_iald hx hb hK hP 2 1 rfl rfl hi9 (qaa qdm 13 rfl) ?_
      refine lv_topi (fun x10 ex10 => ?_)
      have hw := hw x10 ex10
      refine lv_iconst (v := 1) hx hb (qaa qdm 14 rfl) (by decide) ?_
      refine lv_iadd hx hb (qaa qdm 15 rfl) ?_
      exact ((W.iret (v := (x10 + 1)) hx hb hr (fun t ht hW => ⟨⟨(x10 + 1), (f5, jjF), rfl, hw, by rw [ht]; exact hP, va_K.moved hW.alike hK, hD⟩, hS.F ht⟩) hS.2.2 (qaa qk5 0 rfl)))
  · have hw := hw.2 c1
    refine lv_iload_n hx hb (qaa qdT 3 rfl) rfl (lv_at hl 1 rfl) ?_
    refine lv_iconst (v := 1) hx hb (qaa qdT 4 rfl) (by decide) ?_
    refine lv_iadd hx hb (qaa qdT 5 rfl) ?_
    exact ((W.iret (v := (p1 + 1)) hx hb hr (fun t ht hW => ⟨⟨(p1 + 1), (jmk, jjF), rfl, hw, by rw [ht]; exact hP, va_K.moved hW.alike hK, hD⟩, hS.F ht⟩) hS.2.2 (qaa qdT 6 rfl)))
theorem qoF : ∀ w ∈ u_ws RX9 TX9 12, w ∈ wsX9_behindAgain := uiM qz5 euX9 (by decide +kernel)
theorem qLw : (.fieldLink RX9 15 "MarchHares$Work" "first" "[I" : Cond) ∈ wsX9_behindAgain := qz5 267 (by decide +kernel)
theorem q2V : (.fieldLink RX9 18 "MarchHares$Work" "second" "[I" : Cond) ∈ wsX9_behindAgain := qz5 268 (by decide +kernel)
theorem q1B : (.fieldLink RX9 27 "MarchHares$Work" "rounds" "[I" : Cond) ∈ wsX9_behindAgain := qz5 271 (by decide +kernel)
theorem qw7 : (.fieldLink RX9 40 "MarchHares$Work" "open" "I" : Cond) ∈ wsX9_behindAgain := qz5 1607 (by decide +kernel)
set_option maxHeartbeats 4000000 in
set_option maxRecDepth 100000 in
theorem qNp {p : Program} {l : Launch} {e : Env} {s : State} {m : MethodId} {args : Array Value} {below : List Frame} {meth : Method} {c : Code} {A : Nat → Prop} (dC : Nat → ClassId) (dI : Nat → Nat → Nat) (cyB cyI cyJ cyP : ClassId) (a0 jgF jlw jgh : Nat) (jni joZ jme jjf ja4 ja0 jaH jaF : Value) (jiX jiF : NI) (Q : Int32 → NI → Int32 → Prop) (C0 : cfx p s m args meth c cX9_behindAgain (some .int) wsX9_behindAgain RX9 2 A (dC, dI) (kT cyB cyI cyJ cyP)) : ∀ (H : Heap) (locs : List Loc) (ls : Array Slot) (jmk : NI) (jjF l1 : Int32), va_P (dC, dI) vwCl (qH5 a0 jni jgF jgh joZ jme jlw jjf jjF ja4 ja0 jaH jaF jgF cyI jiX jlw cyI jmk jgh cyI jiF) H → va_D A (qH5 a0 jni jgF jgh joZ jme jlw jjf jjF ja4 ja0 jaH jaF jgF cyI jiX jlw cyI jmk jgh cyI jiF) → va_S A s.heap H locs → lv_has ls 2 [(0, .ref a0), (1, .int l1)] → qDp jiX jiF Q jmk jjF l1 → W p l e (headSpec wsX9_behindAgain ({ frames := 0, cells := 0, slots := 0, locals := 0 })).room s m args below meth c H locs 0 0 (MQ below (va_Qi (fun (r : Int32) (u : NI × Int32) => Q r u.1 u.2) (cB (dC, dI) (kT cyB cyI cyJ cyP) A (fun u : NI × Int32 => ((qH5 a0 jni jgF jgh joZ jme jlw jjf u.2 ja4 ja0 jaH jaF jgF cyI jiX jlw cyI u.1 jgh cyI jiF) : va_W))) A) args s 0 0 A) (F0 m 18 ls []) := by
  obtain ⟨hx, hb, hr, hts, hown, hlocks, hml, hA, hK, hNw⟩ := id C0
  intro H locs ls jmk jjF l1 hP hD hS hl hw
  refine lv_aload_n hx hb (qaa qcM 9 rfl) rfl (lv_at hl 0 rfl) ?_
  refine va_get (D := (dC, dI)) (ci := 9) (v := .ref jgh) (C := RX9) (T := TX9) (N := 12) hx hb hts qoF hown hK hP 0 rfl rfl 2 (by decide) (hts _ q2V) (fun _ h9 => h9) rfl (qaa qcM 10 rfl) ?_
  refine lv_iload_n hx hb (qaa qcM 11 rfl) rfl (lv_at hl 1 rfl) ?_
  obtain ⟨hi9, hw⟩ := hw
  refine va_iald hx hb hK hP 3 1 rfl rfl hi9 (qaa qcM 12 rfl) ?_
  refine lv_topi (fun x7 ex7 => ?_)
  have hw := hw x7 ex7
  refine lv_iconst (v := 1) hx hb (qaa qcM 13 rfl) (by decide) ?_
  refine lv_iadd hx hb (qaa qcM 14 rfl) ?_
  exact ((W.iret (v := (x7 + 1)) hx hb hr (fun t ht hW => ⟨⟨(x7 + 1), (jmk, jjF), rfl, hw, by rw [ht]; exact hP, va_K.moved hW.alike hK, hD⟩, hS.F ht⟩) hS.2.2 (qaa qcM 15 rfl)))
set_option maxHeartbeats 4000000 in
set_option maxRecDepth 100000 in
theorem qaip (l : Launch) (dC : Nat → ClassId) (dI : Nat → Nat → Nat) (cyB cyI cyJ cyP : ClassId) (a0 jgF jlw jgh sz : Nat) (jni joZ jme jjf ja4 ja0 jaH jaF : Value) (jiX jiF jmk : NI) (jjF p1 : Int32) {Q : Int32 → NI → Int32 → Prop} (hw : qU3 jiX jiF jmk jjF p1 Q) : Met l yX9_behindAgain wsX9_behindAgain ({ frames := 0, cells := 0, slots := 0, locals := 0 }) (va_Pc [.ref a0, .int p1] (cPc (dC, dI) (kT cyB cyI cyJ cyP) (qH5 a0 jni jgF jgh joZ jme jlw jjf jjF ja4 ja0 jaH jaF jgF cyI jiX jlw cyI jmk jgh cyI jiF) sz)) (va_Qi (fun (r : Int32) (u : NI × Int32) => Q r u.1 u.2) (cB (dC, dI) (kT cyB cyI cyJ cyP) (va_A (qH5 a0 jni jgF jgh joZ jme jlw jjf jjF ja4 ja0 jaH jaF jgF cyI jiX jlw cyI jmk jgh cyI jiF) sz) (fun u : NI × Int32 => ((qH5 a0 jni jgF jgh joZ jme jlw jjf u.2 ja4 ja0 jaH jaF jgF cyI jiX jlw cyI u.1 jgh cyI jiF) : va_W))) (va_A (qH5 a0 jni jgF jgh joZ jme jlw jjf jjF ja4 ja0 jaH jaF jgF cyI jiX jlw cyI jmk jgh cyI jiF) sz)) 0 0 (va_A (qH5 a0 jni jgF jgh joZ jme jlw jjf jjF ja4 ja0 jaH jaF jgF cyI jiX jlw cyI jmk jgh cyI jiF) sz) := by
  refine Met.ofW (cc := cX9_behindAgain) (maxL := 2) (ret := (some .int)) (by decide) rfl ?_
  intro p e s m args below meth c s₁ B hml hv
  obtain ⟨rfl, hsz, hP, hK, hD0, hNw⟩ := hv
  have hx := B.exec
  have hb := B.bytes
  have hr := B.returns
  have hts := atoms_spec (ws := wsX9_behindAgain) B.pre
  have hown : s.vm.findClass RX9 = some m.cls := findClass_of_methodNamed B.named
  have hlocks := B.notSynchronized
  subst hsz
  have hD := hD0.self (sz := s.heap.size)
  generalize hAe : va_A (qH5 a0 jni jgF jgh joZ jme jlw jjf jjF ja4 ja0 jaH jaF jgF cyI jiX jlw cyI jmk jgh cyI jiF) s.heap.size = A at hD ⊢
  have hA : ∀ q : Nat, s.heap.size ≤ q → A q := fun q h => by rw [← hAe]; exact Or.inr h
  have hS : va_S A s.heap s.heap [] := va_S.rf
  have hP : va_P (dC, dI) vwCl (qH5 a0 jni jgF jgh joZ jme jlw jjf jjF ja4 ja0 jaH jaF jgF cyI jiX jlw cyI jmk jgh cyI jiF) s.heap := hP
  have hl := lv_entry ([.ref a0, .int p1]) (n := 2) (nbq rfl)
  rw [lg_entry_eq]
  generalize (lg_sl ([.ref a0, .int p1]) ++ List.replicate (2 - (lg_sl ([.ref a0, .int p1])).length) Slot.unset).toArray = ls at hl ⊢
  have hl : lv_has ls 2 [(0, .ref a0), (1, .int p1)] := hl
  have C0 : cfx p s m _ meth c cX9_behindAgain (some .int) wsX9_behindAgain RX9 2 A (dC, dI) (kT cyB cyI cyJ cyP) := ⟨hx, hb, hr, hts, hown, hlocks, hml, hA, hK, hNw⟩
  clear hAe
  obtain ⟨H, hH⟩ : ∃ H, H = s.heap := ⟨_, rfl⟩
  rw [← hH] at hP ⊢
  have hS : va_S A s.heap H [] := by rw [hH]; exact va_S.rf
  have hS := hS
  refine lv_aload_n hx hb (qaa qcM 0 rfl) rfl (lv_at hl 0 rfl) ?_
  refine va_get (D := (dC, dI)) (ci := 9) (v := .ref jgF) (C := RX9) (T := TX9) (N := 12) hx hb hts qoF hown hK hP 0 rfl rfl 1 (by decide) (hts _ qLw) (fun _ h9 => h9) rfl (qaa qcM 1 rfl) ?_
  refine lv_iload_n hx hb (qaa qcM 2 rfl) rfl (lv_at hl 1 rfl) ?_
  obtain ⟨hi9, hw⟩ := hw
  refine va_iald hx hb hK hP 1 1 rfl rfl hi9 (qaa qcM 3 rfl) ?_
  refine lv_topi (fun x1 ex1 => ?_)
  have hw := hw x1 ex1
  refine lv_if_eq (tgt := 18) hx hb (qaa qcM 4 rfl) (by decide) (fun c2 => ?_) (fun c2 => ?_)
  · have hw := hw.1 c2
    exact qNp dC dI cyB cyI cyJ cyP a0 jgF jlw jgh jni joZ jme jjf ja4 ja0 jaH jaF jiX jiF Q C0 _ _ _ jmk jjF p1 hP hD hS (lv_sub hl [0, 1] rfl) hw
  · have hw := hw.2 c2
    refine lv_aload_n hx hb (qaa qcM 5 rfl) rfl (lv_at hl 0 rfl) ?_
    refine va_get (D := (dC, dI)) (ci := 9) (v := .int jjF) (C := RX9) (T := TX9) (N := 12) hx hb hts qoF hown hK hP 0 rfl rfl 7 (by decide) (hts _ qw7) (fun _ h9 => h9) rfl (qaa qcM 6 rfl) ?_
    refine lv_bipush (v := 6) hx hb (qaa qcM 7 rfl) (by decide) ?_
    refine lv_icmp_lt (tgt := 27) hx hb (qaa qcM 8 rfl) (by decide) (fun c3 => ?_) (fun c3 => ?_)
    · have hw := hw.1 c3
      refine lv_aload_n hx hb (qaa qcw 0 rfl) rfl (lv_at hl 0 rfl) ?_
      refine va_get (D := (dC, dI)) (ci := 9) (v := .ref jlw) (C := RX9) (T := TX9) (N := 12) hx hb hts qoF hown hK hP 0 rfl rfl 5 (by decide) (hts _ q1B) (fun _ h9 => h9) rfl (qaa qcw 1 rfl) ?_
      refine lv_aload_n hx hb (qaa qcw 2 rfl) rfl (lv_at hl 0 rfl) ?_
      refine va_get (D := (dC, dI)) (ci := 9) (v := .int jjF) (C := RX9) (T := TX9) (N := 12) hx hb hts qoF hown hK hP 0 rfl rfl 7 (by decide) (hts _ qw7) (fun _ h9 => h9) rfl (qaa qcw 3 rfl) ?_
      refine lv_aload_n hx hb (qaa qcw 4 rfl) rfl (lv_at hl 0 rfl) ?_
      refine va_get (D := (dC, dI)) (ci := 9) (v := .ref jgF) (C := RX9) (T := TX9) (N := 12) hx hb hts qoF hown hK hP 0 rfl rfl 1 (by decide) (hts _ qLw) (fun _ h9 => h9) rfl (qaa qcw 5 rfl) ?_
      refine lv_iload_n hx hb (qaa qcw 6 rfl) rfl (lv_at hl 1 rfl) ?_
      obtain ⟨hi9, hw⟩ := hw
      refine va_iald hx hb hK hP 1 1 rfl rfl hi9 (qaa qcw 7 rfl) ?_
      refine lv_topi (fun x4 ex4 => ?_)
      have hw := hw x4 ex4
      obtain ⟨hi9, hw⟩ := hw
      refine va_iast hx hb hK hP hD hS 2 1 rfl rfl hi9 (qaa qcw 8 rfl) (fun H locs hP hD hS => ?_)
      obtain ⟨f5, ef5⟩ : ∃ y : NI, y = upd jmk jjF.toNatClampNeg x4 := ⟨_, rfl⟩
      have hw := hw f5 ef5
      have hP : va_P (dC, dI) vwCl (qH5 a0 jni jgF jgh joZ jme jlw jjf jjF ja4 ja0 jaH jaF jgF cyI jiX jlw cyI f5 jgh cyI jiF) H := by rw [ef5]; exact hP
      have hD : va_D A (qH5 a0 jni jgF jgh joZ jme jlw jjf jjF ja4 ja0 jaH jaF jgF cyI jiX jlw cyI f5 jgh cyI jiF) := by rw [ef5]; exact hD
      refine lv_aload_n hx hb (qaa qcw 9 rfl) rfl (lv_at hl 0 rfl) ?_
      refine lv_dup hx hb (qaa qcw 10 rfl) rfl ?_
      refine va_get (D := (dC, dI)) (ci := 9) (v := .int jjF) (C := RX9) (T := TX9) (N := 12) hx hb hts qoF hown hK hP 0 rfl rfl 7 (by decide) (hts _ qw7) (fun _ h9 => h9) rfl (qaa qcw 11 rfl) ?_
      refine lv_iconst (v := 1) hx hb (qaa qcw 12 rfl) (by decide) ?_
      refine lv_iadd hx hb (qaa qcw 13 rfl) ?_
      refine lv_topi (fun x6 ex6 => ?_)
      have hw := hw x6 ex6
      refine va_put (D := (dC, dI)) (ci := 9) (v := .int x6) (ty := .int) (C := RX9) (T := TX9) (N := 12) hx hb hts qoF tyX9 tyX9_ok nmX9 hown hK hP hD hS 0 rfl rfl 7 (by decide) (hts _ qw7) (fun _ h9 => h9) rfl (by decide +kernel) rfl rfl (nbq rfl) (qaa qcw 14 rfl) (fun H locs hP hD hS => ?_)
      have hP : va_P (dC, dI) vwCl (qH5 a0 jni jgF jgh joZ jme jlw jjf x6 ja4 ja0 jaH jaF jgF cyI jiX jlw cyI f5 jgh cyI jiF) H := hP
      have hD : va_D A (qH5 a0 jni jgF jgh joZ jme jlw jjf x6 ja4 ja0 jaH jaF jgF cyI jiX jlw cyI f5 jgh cyI jiF) := hD
      refine lv_iload_n hx hb (qaa qcw 15 rfl) rfl (lv_at hl 1 rfl) ?_
      refine lv_iconst (v := 1) hx hb (qaa qDN 0 rfl) (by decide) ?_
      refine lv_iadd hx hb (qaa qDN 1 rfl) ?_
      exact ((W.iret (v := (p1 + 1)) hx hb hr (fun t ht hW => ⟨⟨(p1 + 1), (f5, x6), rfl, hw, by rw [ht]; exact hP, va_K.moved hW.alike hK, hD⟩, hS.F ht⟩) hS.2.2 (qaa qDN 2 rfl)))
    · have hw := hw.2 c3
      exact qNp dC dI cyB cyI cyJ cyP a0 jgF jlw jgh jni joZ jme jjf ja4 ja0 jaH jaF jiX jiF Q C0 _ _ _ jmk jjF p1 hP hD hS (lv_sub hl [0, 1] rfl) hw
set_option maxHeartbeats 4000000 in
set_option maxRecDepth 100000 in
theorem qaG8 (l : Launch) (dC : Nat → ClassId) (dI : Nat → Nat → Nat) (cyB cyI cyJ cyP : ClassId) (a0 jch sz : Nat) (jcD ji6 jhx : Value) (jdE : NI) (p1 p2 p3 : Int32) {Q : Int32 → Prop} (hw : qTv jdE p1 p2 p3 Q) : Met l yX1_couldPay wsX1_couldPay ({ frames := 1, cells := 0, slots := 0, locals := 22 }) (va_Pc [.ref a0, .int p1, .int p2, .int p3] (cPc (dC, dI) (kT cyB cyI cyJ cyP) (quD a0 jch jcD ji6 jhx jch cyI jdE) sz)) (va_Qi (fun (r : Int32) (_ : Unit) => Q r ) (cB (dC, dI) (kT cyB cyI cyJ cyP) (va_A (quD a0 jch jcD ji6 jhx jch cyI jdE) sz) (fun u : Unit => ((quD a0 jch jcD ji6 jhx jch cyI jdE) : va_W))) (va_A (quD a0 jch jcD ji6 jhx jch cyI jdE) sz)) 0 0 (va_A (quD a0 jch jcD ji6 jhx jch cyI jdE) sz) := by
  refine Met.ofW (cc := cX1_couldPay) (maxL := 4) (ret := (some .boolean)) (by decide) rfl ?_
  intro p e s m args below meth c s₁ B hml hv
  obtain ⟨rfl, hsz, hP, hK, hD0, hNw⟩ := hv
  have hx := B.exec
  have hb := B.bytes
  have hr := B.returns
  have hts := atoms_spec (ws := wsX1_couldPay) B.pre
  have hown : s.vm.findClass RX1 = some m.cls := findClass_of_methodNamed B.named
  have hlocks := B.notSynchronized
  subst hsz
  have hD := hD0.self (sz := s.heap.size)
  generalize hAe : va_A (quD a0 jch jcD ji6 jhx jch cyI jdE) s.heap.size = A at hD ⊢
  have hA : ∀ q : Nat, s.heap.size ≤ q → A q := fun q h => by rw [← hAe]; exact Or.inr h
  have hS : va_S A s.heap s.heap [] := va_S.rf
  have hP : va_P (dC, dI) vwCl (quD a0 jch jcD ji6 jhx jch cyI jdE) s.heap := hP
  have hl := lv_entry ([.ref a0, .int p1, .int p2, .int p3]) (n := 4) (nbq rfl)
  rw [lg_entry_eq]
  generalize (lg_sl ([.ref a0, .int p1, .int p2, .int p3]) ++ List.replicate (4 - (lg_sl ([.ref a0, .int p1, .int p2, .int p3])).length) Slot.unset).toArray = ls at hl ⊢
  have hl : lv_has ls 4 [(0, .ref a0), (1, .int p1), (2, .int p2), (3, .int p3)] := hl
  have C0 : cfx p s m _ meth c cX1_couldPay (some .boolean) wsX1_couldPay RX1 4 A (dC, dI) (kT cyB cyI cyJ cyP) := ⟨hx, hb, hr, hts, hown, hlocks, hml, hA, hK, hNw⟩
  clear hAe
  obtain ⟨H, hH⟩ : ∃ H, H = s.heap := ⟨_, rfl⟩
  rw [← hH] at hP ⊢
  have hS : va_S A s.heap H [] := by rw [hH]; exact va_S.rf
  have hS := hS
  refine lv_aload_n hx hb (qaa qfy 0 rfl) rfl (lv_at hl 0 rfl) ?_
  refine lv_iload_n hx hb (qaa qfy 1 rfl) rfl (lv_at hl 1 rfl) ?_
  obtain ⟨hCc, hPc, hDc, hFc⟩ := qac (ws' := (quD a0 jch jcD ji6 jhx jch cyI jdE)) hP hD hS hA [0, 1] (by decide +kernel) rfl
  refine va_calli (va_runV (As := [.int p1]) (rest := []) ⟨hx, hb, hml, hown, hts⟩ (qia l dC dI cyB cyI cyJ cyP a0 jch H.size (jcD) (ji6) (jhx) jdE p1 hw) (cwV 1 hts gX1_couldPay_X1_isCaught rfl rfl rfl (by decide +kernel) ⟨nbq rfl, nbq rfl⟩) ⟨qab, va_recv (q := (RX1, TX1, 4)) hK hPc (ci := 1) (q0 := 0) rfl rfl, qae hPc hK hDc hNw⟩ rfl rfl hl.1 rfl (lv_room (nbq rfl)) (qaa qfy 2 rfl) ⟨nbq rfl, nbq rfl⟩) hS (fun q _ h => hFc q h) hFc (fun r1 u t H1 locs ht hvm hw hB hz1 hk1 hS => ?_)
  obtain ⟨hP1, hK1, hD1⟩ := hB
  rw [ht] at hP1
  obtain ⟨hP, hD⟩ := qah (wr := []) (w1 := (quD a0 jch jcD ji6 jhx jch cyI jdE)) (wn := (quD a0 jch jcD ji6 jhx jch cyI jdE)) hP hD [0, 1] [] hCc rfl (by decide +kernel) (by decide +kernel) rfl hk1 hFc hP1 hD1
  generalize H1 = H at hP hS ⊢
  refine lv_if_ne (tgt := 30) hx hb (qaa qfy 3 rfl) (by decide) (fun c2 => ?_) (fun c2 => ?_)
  · have hw := hw.1 c2
    refine lv_iconst (v := 0) hx hb (qaa qsW 0 rfl) (by decide) ?_
    exact ((W.zret (v := 0) hx hb hr rfl (fun t ht hW => ⟨⟨0, (), rfl, hw, by rw [ht]; exact hP, va_K.moved hW.alike hK, hD⟩, hS.F ht⟩) hS.2.2 (qaa qsW 1 rfl)))
  · have hw := hw.2 c2
    refine lv_aload_n hx hb (qaa qfy 4 rfl) rfl (lv_at hl 0 rfl) ?_
    refine lv_iload_n hx hb (qaa qfy 5 rfl) rfl (lv_at hl 2 rfl) ?_
    obtain ⟨hCc, hPc, hDc, hFc⟩ := qac (ws' := (quD a0 jch jcD ji6 jhx jch cyI jdE)) hP hD hS hA [0, 1] (by decide +kernel) rfl
    refine va_calli (va_runV (As := [.int p2]) (rest := []) ⟨hx, hb, hml, hown, hts⟩ (qia l dC dI cyB cyI cyJ cyP a0 jch H.size (jcD) (ji6) (jhx) jdE p2 hw) (cwV 1 hts gX1_couldPay_X1_isCaught rfl rfl rfl (by decide +kernel) ⟨nbq rfl, nbq rfl⟩) ⟨qab, va_recv (q := (RX1, TX1, 4)) hK hPc (ci := 1) (q0 := 0) rfl rfl, qae hPc hK hDc hNw⟩ rfl rfl hl.1 rfl (lv_room (nbq rfl)) (qaa qfy 6 rfl) ⟨nbq rfl, nbq rfl⟩) hS (fun q _ h => hFc q h) hFc (fun r3 u t H1 locs ht hvm hw hB hz1 hk1 hS => ?_)
    obtain ⟨hP1, hK1, hD1⟩ := hB
    rw [ht] at hP1
    obtain ⟨hP, hD⟩ := qah (wr := []) (w1 := (quD a0 jch jcD ji6 jhx jch cyI jdE)) (wn := (quD a0 jch jcD ji6 jhx jch cyI jdE)) hP hD [0, 1] [] hCc rfl (by decide +kernel) (by decide +kernel) rfl hk1 hFc hP1 hD1
    generalize H1 = H at hP hS ⊢
    refine lv_if_ne (tgt := 30) hx hb (qaa qfy 7 rfl) (by decide) (fun c4 => ?_) (fun c4 => ?_)
    · have hw := hw.1 c4
      refine lv_iconst (v := 0) hx hb (qaa qsW 0 rfl) (by decide) ?_
      exact ((W.zret (v := 0) hx hb hr rfl (fun t ht hW => ⟨⟨0, (), rfl, hw, by rw [ht]; exact hP, va_K.moved hW.alike hK, hD⟩, hS.F ht⟩) hS.2.2 (qaa qsW 1 rfl)))
    · have hw := hw.2 c4
      refine lv_aload_n hx hb (qaa qfy 8 rfl) rfl (lv_at hl 0 rfl) ?_
      refine lv_iload_n hx hb (qaa qfy 9 rfl) rfl (lv_at hl 1 rfl) ?_
      refine lv_iload_n hx hb (qaa qfy 10 rfl) rfl (lv_at hl 2 rfl) ?_
      obtain ⟨hCc, hPc, hDc, hFc⟩ := qac (ws' := (quD a0 jch jcD ji6 jhx jch cyI jdE)) hP hD hS hA [0, 1] (by decide +kernel) rfl
      refine va_calli (va_runV (As := [.int p1, .int p2]) (rest := []) ⟨hx, hb, hml, hown, hts⟩ (qGD l dC dI cyB cyI cyJ cyP a0 jch H.size (jcD) (ji6) (jhx) jdE p1 p2 hw) (cwV 2 hts gX1_couldPay_X1_owesTo rfl rfl rfl (by decide +kernel) ⟨nbq rfl, nbq rfl⟩) ⟨qab, va_recv (q := (RX1, TX1, 4)) hK hPc (ci := 1) (q0 := 0) rfl rfl, qae hPc hK hDc hNw⟩ rfl rfl hl.1 rfl (lv_room (nbq rfl)) (qaa qfy 11 rfl) ⟨nbq rfl, nbq rfl⟩) hS (fun q _ h => hFc q h) hFc (fun r5 u t H1 locs ht hvm hw hB hz1 hk1 hS => ?_)
      obtain ⟨hP1, hK1, hD1⟩ := hB
      rw [ht] at hP1
      obtain ⟨hP, hD⟩ := qah (wr := []) (w1 := (quD a0 jch jcD ji6 jhx jch cyI jdE)) (wn := (quD a0 jch jcD ji6 jhx jch cyI jdE)) hP hD [0, 1] [] hCc rfl (by decide +kernel) (by decide +kernel) rfl hk1 hFc hP1 hD1
      generalize H1 = H at hP hS ⊢
      refine lv_iload_n hx hb (qaa qfy 12 rfl) rfl (lv_at hl 3 rfl) ?_
      refine lv_icmp_lt (tgt := 30) hx hb (qaa qfy 13 rfl) (by decide) (fun c6 => ?_) (fun c6 => ?_)
      · have hw := hw.1 c6
        refine lv_iconst (v := 0) hx hb (qaa qsW 0 rfl) (by decide) ?_
        exact ((W.zret (v := 0) hx hb hr rfl (fun t ht hW => ⟨⟨0, (), rfl, hw, by rw [ht]; exact hP, va_K.moved hW.alike hK, hD⟩, hS.F ht⟩) hS.2.2 (qaa qsW 1 rfl)))
      · have hw := hw.2 c6
        refine lv_iconst (v := 1) hx hb (qaa qfy 14 rfl) (by decide) ?_
        refine lv_goto (tgt := 31) hx hb (qaa qfy 15 rfl) (by decide) ?_
        exact ((W.zret (v := 1) hx hb hr rfl (fun t ht hW => ⟨⟨1, (), rfl, hw, by rw [ht]; exact hP, va_K.moved hW.alike hK, hD⟩, hS.F ht⟩) hS.2.2 (qaa qsW 1 rfl)))
theorem qql : ∀ w ∈ u_ws RX9 TX9 12, w ∈ wsX9_isAllowed := uiM qod euX9 (by decide +kernel)
theorem qabc : (.fieldLink RX9 11 "MarchHares$Work" "kinds" "[I" : Cond) ∈ wsX9_isAllowed := qod 266 (by decide +kernel)
theorem qFd : (.fieldLink RX9 15 "MarchHares$Work" "first" "[I" : Cond) ∈ wsX9_isAllowed := qod 267 (by decide +kernel)
theorem qFp : (.fieldLink RX9 18 "MarchHares$Work" "second" "[I" : Cond) ∈ wsX9_isAllowed := qod 268 (by decide +kernel)
theorem qabq : (.fieldLink RX9 21 "MarchHares$Work" "third" "[I" : Cond) ∈ wsX9_isAllowed := qod 269 (by decide +kernel)
set_option maxHeartbeats 4000000 in
set_option maxRecDepth 100000 in
theorem qaAj (l : Launch) (dC : Nat → ClassId) (dI : Nat → Nat → Nat) (cyB cyI cyJ cyP : ClassId) (a0 a2 jbU jnX jgF jgh jnP jon joo jo0 jox joB joy jop jhq sz : Nat) (jme jkw jjf joE ja4 ja0 jaH jaF jnW jor jos jot joM jof jou jog joh jo5 : Value) (jdC joK jiX jiF : NI) (jnR : Int32) (joQ joR : NI) (joS : Int32) (joV joT jjg joJ joN : NI) (p1 : Int32) {Q : Int32 → NI → NI → Prop} (hw : qQn jdC joK jiX jiF jnR joQ joR joS joV joT jjg joJ joN p1 Q) : Met l yX9_isAllowed wsX9_isAllowed ({ frames := 4, cells := 0, slots := 0, locals := 99 }) (va_Pc [.ref a0, .int p1, .ref a2] (cPc (dC, dI) (kT cyB cyI cyJ cyP) (qQr a0 jbU jgF jgh jhq jme jkw jjf joE ja4 ja0 jaH jaF jbU cyI jdC a2 jnX jnW jnP jo0 jnX cyI joK jgF cyI jiX jgh cyI jiF jnP jon joo jor jos jot joM jof jou jog jnR joh jo5 jon cyI joQ joo cyI joR jo0 joy jop joB jox joS jox cyI joJ joB cyI joN joy cyI joV jop cyI joT jhq cyI jjg) sz)) (va_Qi (fun (r : Int32) (u : NI × NI) => Q r u.1 u.2) (cB (dC, dI) (kT cyB cyI cyJ cyP) (va_A (qQr a0 jbU jgF jgh jhq jme jkw jjf joE ja4 ja0 jaH jaF jbU cyI jdC a2 jnX jnW jnP jo0 jnX cyI joK jgF cyI jiX jgh cyI jiF jnP jon joo jor jos jot joM jof jou jog jnR joh jo5 jon cyI joQ joo cyI joR jo0 joy jop joB jox joS jox cyI joJ joB cyI joN joy cyI joV jop cyI joT jhq cyI jjg) sz) (fun u : NI × NI => ((qQr a0 jbU jgF jgh jhq jme jkw jjf joE ja4 ja0 jaH jaF jbU cyI jdC a2 jnX jnW jnP jo0 jnX cyI joK jgF cyI jiX jgh cyI jiF jnP jon joo jor jos jot joM jof jou jog jnR joh jo5 jon cyI joQ joo cyI joR jo0 joy jop joB jox joS jox cyI u.1 joB cyI u.2 joy cyI joV jop cyI joT jhq cyI jjg) : va_W))) (va_A (qQr a0 jbU jgF jgh jhq jme jkw jjf joE ja4 ja0 jaH jaF jbU cyI jdC a2 jnX jnW jnP jo0 jnX cyI joK jgF cyI jiX jgh cyI jiF jnP jon joo jor jos jot joM jof jou jog jnR joh jo5 jon cyI joQ joo cyI joR jo0 joy jop joB jox joS jox cyI joJ joB cyI joN joy cyI joV jop cyI joT jhq cyI jjg) sz)) 0 0 (va_A (qQr a0 jbU jgF jgh jhq jme jkw jjf joE ja4 ja0 jaH jaF jbU cyI jdC a2 jnX jnW jnP jo0 jnX cyI joK jgF cyI jiX jgh cyI jiF jnP jon joo jor jos jot joM jof jou jog jnR joh jo5 jon cyI joQ joo cyI joR jo0 joy jop joB jox joS jox cyI joJ joB cyI joN joy cyI joV jop cyI joT jhq cyI jjg) sz) := by
  refine Met.ofW (cc := cX9_isAllowed) (maxL := 3) (ret := (some .boolean)) (by decide) rfl ?_
  intro p e s m args below meth c s₁ B hml hv
  obtain ⟨rfl, hsz, hP, hK, hD0, hNw⟩ := hv
  have hx := B.exec
  have hb := B.bytes
  have hr := B.returns
  have hts := atoms_spec (ws := wsX9_isAllowed) B.pre
  have hown : s.vm.findClass RX9 = some m.cls := findClass_of_methodNamed B.named
  have hlocks := B.notSynchronized
  subst hsz
  have hD := hD0.self (sz := s.heap.size)
  generalize hAe : va_A (qQr a0 jbU jgF jgh jhq jme jkw jjf joE ja4 ja0 jaH jaF jbU cyI jdC a2 jnX jnW jnP jo0 jnX cyI joK jgF cyI jiX jgh cyI jiF jnP jon joo jor jos jot joM jof jou jog jnR joh jo5 jon cyI joQ joo cyI joR jo0 joy jop joB jox joS jox cyI joJ joB cyI joN joy cyI joV jop cyI joT jhq cyI jjg) s.heap.size = A at hD ⊢
  have hA : ∀ q : Nat, s.heap.size ≤ q → A q := fun q h => by rw [← hAe]; exact Or.inr h
  have hS : va_S A s.heap s.heap [] := va_S.rf
  have hP : va_P (dC, dI) vwCl (qQr a0 jbU jgF jgh jhq jme jkw jjf joE ja4 ja0 jaH jaF jbU cyI jdC a2 jnX jnW jnP jo0 jnX cyI joK jgF cyI jiX jgh cyI jiF jnP jon joo jor jos jot joM jof jou jog jnR joh jo5 jon cyI joQ joo cyI joR jo0 joy jop joB jox joS jox cyI joJ joB cyI joN joy cyI joV jop cyI joT jhq cyI jjg) s.heap := hP
  have hl := lv_entry ([.ref a0, .int p1, .ref a2]) (n := 3) (nbq rfl)
  rw [lg_entry_eq]
  generalize (lg_sl ([.ref a0, .int p1, .ref a2]) ++ List.replicate (3 - (lg_sl ([.ref a0, .int p1, .ref a2])).length) Slot.unset).toArray = ls at hl ⊢
  have hl : lv_has ls 3 [(0, .ref a0), (1, .int p1), (2, .ref a2)] := hl
  have C0 : cfx p s m _ meth c cX9_isAllowed (some .boolean) wsX9_isAllowed RX9 3 A (dC, dI) (kT cyB cyI cyJ cyP) := ⟨hx, hb, hr, hts, hown, hlocks, hml, hA, hK, hNw⟩
  clear hAe
  obtain ⟨H, hH⟩ : ∃ H, H = s.heap := ⟨_, rfl⟩
  rw [← hH] at hP ⊢
  have hS : va_S A s.heap H [] := by rw [hH]; exact va_S.rf
  have hS := hS
  refine lv_aload_n hx hb (qaa qCD 0 rfl) rfl (lv_at hl 0 rfl) ?_
  refine va_get (D := (dC, dI)) (ci := 9) (v := .ref jbU) (C := RX9) (T := TX9) (N := 12) hx hb hts qql hown hK hP 0 rfl rfl 0 (by decide) (hts _ qabc) (fun _ h9 => h9) rfl (qaa qCD 1 rfl) ?_
  refine lv_iload_n hx hb (qaa qCD 2 rfl) rfl (lv_at hl 1 rfl) ?_
  obtain ⟨hi9, hw⟩ := hw
  refine va_iald hx hb hK hP 1 1 rfl rfl hi9 (qaa qCD 3 rfl) ?_
  refine lv_topi (fun x1 ex1 => ?_)
  have hw := hw x1 ex1
  by_cases c2 : x1.toInt < 0 ∨ 2 < x1.toInt
  · have hw := hw.1 c2
    refine lv_tableOut (tgt := 89) hx hb dX9_isAllowed_6 c2 (by decide) ?_
    refine lv_aload_n hx hb (qaa qe0 5 rfl) rfl (lv_at hl 2 rfl) ?_
    obtain ⟨hCc, hPc, hDc, hFc⟩ := qac (ws' := (qalR a2 jnX jnW jnP jo0 jnX cyI joK)) hP hD hS hA [2, 3] (by decide +kernel) rfl
    refine va_calli (va_runV (As := []) (rest := []) ⟨hx, hb, hml, hown, hts⟩ (qaLz l dC dI cyB cyI cyJ cyP a2 jnX H.size (jnW) (.ref jnP) (.ref jo0) joK hw) (cwV 0 hts gX9_isAllowed_X1_year rfl rfl rfl (by decide +kernel) ⟨nbq rfl, nbq rfl⟩) ⟨qab, va_recv (q := (RX1, TX1, 4)) hK hPc (ci := 1) (q0 := 0) rfl rfl, qae hPc hK hDc hNw⟩ rfl rfl hl.1 rfl (lv_room (nbq rfl)) (qaa qe0 6 rfl) ⟨nbq rfl, nbq rfl⟩) hS (fun q _ h => hFc q h) hFc (fun r3 u t H1 locs ht hvm hw hB hz1 hk1 hS => ?_)
    obtain ⟨hP1, hK1, hD1⟩ := hB
    rw [ht] at hP1
    obtain ⟨hP, hD⟩ := qad (wr := (qaXf a0 jbU jgF jgh jhq jme jkw jjf joE ja4 ja0 jaH jaF jbU cyI jdC jgF cyI jiX jgh cyI jiF jnP jon joo jor jos jot joM jof jou jog jnR joh jo5 jon cyI joQ joo cyI joR jo0 joy jop joB jox joS jox cyI joJ joB cyI joN joy cyI joV jop cyI joT jhq cyI jjg)) (w1 := (qalR a2 jnX jnW jnP jo0 jnX cyI joK)) (wn := (qQr a0 jbU jgF jgh jhq jme jkw jjf joE ja4 ja0 jaH jaF jbU cyI jdC a2 jnX jnW jnP jo0 jnX cyI joK jgF cyI jiX jgh cyI jiF jnP jon joo jor jos jot joM jof jou jog jnR joh jo5 jon cyI joQ joo cyI joR jo0 joy jop joB jox joS jox cyI joJ joB cyI joN joy cyI joV jop cyI joT jhq cyI jjg)) hP hD [2, 3] [0, 1, 4, 5, 6, 7, 8, 9, 10, 11, 12, 13, 14] [0, 1, 13, 14, 2, 3, 4, 5, 6, 7, 8, 9, 10, 11, 12] hCc rfl (by decide +kernel) (by decide +kernel) (by decide +kernel) rfl hk1 hFc hP1 hD1
    generalize H1 = H at hP hS ⊢
    refine lv_bipush (v := 40) hx hb (qaa qe0 7 rfl) (by decide) ?_
    refine lv_icmp_ge (tgt := 102) hx hb (qaa qe0 8 rfl) (by decide) (fun c4 => ?_) (fun c4 => ?_)
    · have hw := hw.1 c4
      refine lv_iconst (v := 0) hx hb (qaa qe0 11 rfl) (by decide) ?_
      exact ((W.zret (v := 0) hx hb hr rfl (fun t ht hW => ⟨⟨0, (joJ, joN), rfl, hw, by rw [ht]; exact hP, va_K.moved hW.alike hK, hD⟩, hS.F ht⟩) hS.2.2 (qaa qe0 12 rfl)))
    · have hw := hw.2 c4
      refine lv_iconst (v := 1) hx hb (qaa qe0 9 rfl) (by decide) ?_
      refine lv_goto (tgt := 103) hx hb (qaa qe0 10 rfl) (by decide) ?_
      exact ((W.zret (v := 1) hx hb hr rfl (fun t ht hW => ⟨⟨1, (joJ, joN), rfl, hw, by rw [ht]; exact hP, va_K.moved hW.alike hK, hD⟩, hS.F ht⟩) hS.2.2 (qaa qe0 12 rfl)))
  · have hw := hw.2
    rcases qaw0 c2 with c2 | c2 | c2
    · have hw := hw.1 c2
      refine lv_tableIn (tgt := 32) (off := 26) hx hb dX9_isAllowed_6 (by rw [c2]; decide) (by rw [c2]; decide) (by rw [c2]; decide) (by decide) ?_
      refine lv_aload_n hx hb (qaa qc8 0 rfl) rfl (lv_at hl 2 rfl) ?_
      refine lv_aload_n hx hb (qaa qc8 1 rfl) rfl (lv_at hl 0 rfl) ?_
      refine va_get (D := (dC, dI)) (ci := 9) (v := .ref jgF) (C := RX9) (T := TX9) (N := 12) hx hb hts qql hown hK hP 0 rfl rfl 1 (by decide) (hts _ qFd) (fun _ h9 => h9) rfl (qaa qc8 2 rfl) ?_
      refine lv_iload_n hx hb (qaa qc8 3 rfl) rfl (lv_at hl 1 rfl) ?_
      obtain ⟨hi9, hw⟩ := hw
      refine va_iald hx hb hK hP 4 1 rfl rfl hi9 (qaa qc8 4 rfl) ?_
      refine lv_topi (fun x5 ex5 => ?_)
      have hw := hw x5 ex5
      refine lv_aload_n hx hb (qaa qc8 5 rfl) rfl (lv_at hl 0 rfl) ?_
      refine va_get (D := (dC, dI)) (ci := 9) (v := .ref jgh) (C := RX9) (T := TX9) (N := 12) hx hb hts qql hown hK hP 0 rfl rfl 2 (by decide) (hts _ qFp) (fun _ h9 => h9) rfl (qaa qc8 6 rfl) ?_
      refine lv_iload_n hx hb (qaa qc8 7 rfl) rfl (lv_at hl 1 rfl) ?_
      obtain ⟨hi9, hw⟩ := hw
      refine va_iald hx hb hK hP 5 1 rfl rfl hi9 (qaa qc8 8 rfl) ?_
      refine lv_topi (fun x6 ex6 => ?_)
      have hw := hw x6 ex6
      obtain ⟨hCc, hPc, hDc, hFc⟩ := qac (ws' := (qa5T a2 jnX jnW jnP jo0 jnX cyI joK jnP jon joo jor jos jot joM jof jou jog jnR joh jo5 jon cyI joQ joo cyI joR jo0 joy jop joB jox joS jox cyI joJ joB cyI joN joy cyI joV jop cyI joT)) hP hD hS hA [2, 3, 6, 7, 8, 9, 10, 11, 12, 13] (by decide +kernel) rfl
      refine va_calli (va_runV (As := [.int x5, .int x6]) (rest := []) ⟨hx, hb, hml, hown, hts⟩ (qRq l dC dI cyB cyI cyJ cyP a2 jnX jnP jon joo jo0 jox joB joy jop H.size (jnW) (jor) (jos) (jot) (joM) (jof) (jou) (jog) (joh) (jo5) joK jnR joQ joR joS joV joT joJ joN x5 x6 hw) (cwV 2 hts gX9_isAllowed_X1_couldLeap rfl rfl rfl (by decide +kernel) ⟨nbq rfl, nbq rfl⟩) ⟨qab, va_recv (q := (RX1, TX1, 4)) hK hPc (ci := 1) (q0 := 0) rfl rfl, qae hPc hK hDc hNw⟩ rfl rfl hl.1 rfl (lv_room (nbq rfl)) (qaa qc8 9 rfl) ⟨nbq rfl, nbq rfl⟩) hS (fun q _ h => hFc q h) hFc (fun r9 u t H1 locs ht hvm hw hB hz1 hk1 hS => ?_)
      obtain ⟨f7, f8⟩ := u
      obtain ⟨hP1, hK1, hD1⟩ := hB
      rw [ht] at hP1
      obtain ⟨hP, hD⟩ := qad (wr := (qa8P a0 jbU jgF jgh jhq jme jkw jjf joE ja4 ja0 jaH jaF jbU cyI jdC jgF cyI jiX jgh cyI jiF jhq cyI jjg)) (w1 := (qa5T a2 jnX jnW jnP jo0 jnX cyI joK jnP jon joo jor jos jot joM jof jou jog jnR joh jo5 jon cyI joQ joo cyI joR jo0 joy jop joB jox joS jox cyI f7 joB cyI f8 joy cyI joV jop cyI joT)) (wn := (qQr a0 jbU jgF jgh jhq jme jkw jjf joE ja4 ja0 jaH jaF jbU cyI jdC a2 jnX jnW jnP jo0 jnX cyI joK jgF cyI jiX jgh cyI jiF jnP jon joo jor jos jot joM jof jou jog jnR joh jo5 jon cyI joQ joo cyI joR jo0 joy jop joB jox joS jox cyI f7 joB cyI f8 joy cyI joV jop cyI joT jhq cyI jjg)) hP hD [2, 3, 6, 7, 8, 9, 10, 11, 12, 13] [0, 1, 4, 5, 14] [0, 1, 5, 6, 2, 3, 7, 8, 9, 10, 11, 12, 13, 14, 4] hCc rfl (by decide +kernel) (by decide +kernel) (by decide +kernel) rfl hk1 hFc hP1 hD1
      generalize H1 = H at hP hS ⊢
      obtain ⟨hn9, hw⟩ := hw
      exact ((W.zret (v := r9) hx hb hr hn9 (fun t ht hW => ⟨⟨r9, (f7, f8), rfl, hw, by rw [ht]; exact hP, va_K.moved hW.alike hK, hD⟩, hS.F ht⟩) hS.2.2 (qaa qc8 10 rfl)))
    · have hw := hw.2.1 c2
      refine lv_tableIn (tgt := 49) (off := 43) hx hb dX9_isAllowed_6 (by rw [c2]; decide) (by rw [c2]; decide) (by rw [c2]; decide) (by decide) ?_
      refine lv_aload_n hx hb (qaa qc8 11 rfl) rfl (lv_at hl 2 rfl) ?_
      refine lv_aload_n hx hb (qaa qc8 12 rfl) rfl (lv_at hl 0 rfl) ?_
      refine va_get (D := (dC, dI)) (ci := 9) (v := .ref jgF) (C := RX9) (T := TX9) (N := 12) hx hb hts qql hown hK hP 0 rfl rfl 1 (by decide) (hts _ qFd) (fun _ h9 => h9) rfl (qaa qc8 13 rfl) ?_
      refine lv_iload_n hx hb (qaa qc8 14 rfl) rfl (lv_at hl 1 rfl) ?_
      obtain ⟨hi9, hw⟩ := hw
      refine va_iald hx hb hK hP 4 1 rfl rfl hi9 (qaa qc8 15 rfl) ?_
      refine lv_topi (fun x10 ex10 => ?_)
      have hw := hw x10 ex10
      refine lv_aload_n hx hb (qaa qdc 0 rfl) rfl (lv_at hl 0 rfl) ?_
      refine va_get (D := (dC, dI)) (ci := 9) (v := .ref jgh) (C := RX9) (T := TX9) (N := 12) hx hb hts qql hown hK hP 0 rfl rfl 2 (by decide) (hts _ qFp) (fun _ h9 => h9) rfl (qaa qdc 1 rfl) ?_
      refine lv_iload_n hx hb (qaa qdc 2 rfl) rfl (lv_at hl 1 rfl) ?_
      obtain ⟨hi9, hw⟩ := hw
      refine va_iald hx hb hK hP 5 1 rfl rfl hi9 (qaa qdc 3 rfl) ?_
      refine lv_topi (fun x11 ex11 => ?_)
      have hw := hw x11 ex11
      obtain ⟨hCc, hPc, hDc, hFc⟩ := qac (ws' := (qalR a2 jnX jnW jnP jo0 jnX cyI joK)) hP hD hS hA [2, 3] (by decide +kernel) rfl
      refine va_calli (va_runV (As := [.int x10, .int x11]) (rest := []) ⟨hx, hb, hml, hown, hts⟩ (qZg l dC dI cyB cyI cyJ cyP a2 jnX H.size (jnW) (.ref jnP) (.ref jo0) joK x10 x11 hw) (cwV 2 hts gX9_isAllowed_X1_couldFight rfl rfl rfl (by decide +kernel) ⟨nbq rfl, nbq rfl⟩) ⟨qab, va_recv (q := (RX1, TX1, 4)) hK hPc (ci := 1) (q0 := 0) rfl rfl, qae hPc hK hDc hNw⟩ rfl rfl hl.1 rfl (lv_room (nbq rfl)) (qaa qdc 4 rfl) ⟨nbq rfl, nbq rfl⟩) hS (fun q _ h => hFc q h) hFc (fun r12 u t H1 locs ht hvm hw hB hz1 hk1 hS => ?_)
      obtain ⟨hP1, hK1, hD1⟩ := hB
      rw [ht] at hP1
      obtain ⟨hP, hD⟩ := qad (wr := (qaXf a0 jbU jgF jgh jhq jme jkw jjf joE ja4 ja0 jaH jaF jbU cyI jdC jgF cyI jiX jgh cyI jiF jnP jon joo jor jos jot joM jof jou jog jnR joh jo5 jon cyI joQ joo cyI joR jo0 joy jop joB jox joS jox cyI joJ joB cyI joN joy cyI joV jop cyI joT jhq cyI jjg)) (w1 := (qalR a2 jnX jnW jnP jo0 jnX cyI joK)) (wn := (qQr a0 jbU jgF jgh jhq jme jkw jjf joE ja4 ja0 jaH jaF jbU cyI jdC a2 jnX jnW jnP jo0 jnX cyI joK jgF cyI jiX jgh cyI jiF jnP jon joo jor jos jot joM jof jou jog jnR joh jo5 jon cyI joQ joo cyI joR jo0 joy jop joB jox joS jox cyI joJ joB cyI joN joy cyI joV jop cyI joT jhq cyI jjg)) hP hD [2, 3] [0, 1, 4, 5, 6, 7, 8, 9, 10, 11, 12, 13, 14] [0, 1, 13, 14, 2, 3, 4, 5, 6, 7, 8, 9, 10, 11, 12] hCc rfl (by decide +kernel) (by decide +kernel) (by decide +kernel) rfl hk1 hFc hP1 hD1
      generalize H1 = H at hP hS ⊢
      obtain ⟨hn9, hw⟩ := hw
      exact ((W.zret (v := r12) hx hb hr hn9 (fun t ht hW => ⟨⟨r12, (joJ, joN), rfl, hw, by rw [ht]; exact hP, va_K.moved hW.alike hK, hD⟩, hS.F ht⟩) hS.2.2 (qaa qdc 5 rfl)))
    · have hw := hw.2.2 c2
      refine lv_tableIn (tgt := 66) (off := 60) hx hb dX9_isAllowed_6 (by rw [c2]; decide) (by rw [c2]; decide) (by rw [c2]; decide) (by decide) ?_
      refine lv_aload_n hx hb (qaa qdc 6 rfl) rfl (lv_at hl 2 rfl) ?_
      refine lv_aload_n hx hb (qaa qdc 7 rfl) rfl (lv_at hl 0 rfl) ?_
      refine va_get (D := (dC, dI)) (ci := 9) (v := .ref jgF) (C := RX9) (T := TX9) (N := 12) hx hb hts qql hown hK hP 0 rfl rfl 1 (by decide) (hts _ qFd) (fun _ h9 => h9) rfl (qaa qdc 8 rfl) ?_
      refine lv_iload_n hx hb (qaa qdc 9 rfl) rfl (lv_at hl 1 rfl) ?_
      obtain ⟨hi9, hw⟩ := hw
      refine va_iald hx hb hK hP 4 1 rfl rfl hi9 (qaa qdc 10 rfl) ?_
      refine lv_topi (fun x13 ex13 => ?_)
      have hw := hw x13 ex13
      refine lv_aload_n hx hb (qaa qdc 11 rfl) rfl (lv_at hl 0 rfl) ?_
      refine va_get (D := (dC, dI)) (ci := 9) (v := .ref jgh) (C := RX9) (T := TX9) (N := 12) hx hb hts qql hown hK hP 0 rfl rfl 2 (by decide) (hts _ qFp) (fun _ h9 => h9) rfl (qaa qdc 12 rfl) ?_
      refine lv_iload_n hx hb (qaa qdc 13 rfl) rfl (lv_at hl 1 rfl) ?_
      obtain ⟨hi9, hw⟩ := hw
      refine va_iald hx hb hK hP 5 1 rfl rfl hi9 (qaa qdc 14 rfl) ?_
      refine lv_topi (fun x14 ex14 => ?_)
      have hw := hw x14 ex14
      refine lv_aload_n hx hb (qaa qdc 15 rfl) rfl (lv_at hl 0 rfl) ?_
      refine va_get (D := (dC, dI)) (ci := 9) (v := .ref jhq) (C := RX9) (T := TX9) (N := 12) hx hb hts qql hown hK hP 0 rfl rfl 3 (by decide) (hts _ qabq) (fun _ h9 => h9) rfl (qaa qe0 0 rfl) ?_
      refine lv_iload_n hx hb (qaa qe0 1 rfl) rfl (lv_at hl 1 rfl) ?_
      obtain ⟨hi9, hw⟩ := hw
      refine va_iald hx hb hK hP 14 1 rfl rfl hi9 (qaa qe0 2 rfl) ?_
      refine lv_topi (fun x15 ex15 => ?_)
      have hw := hw x15 ex15
      obtain ⟨hCc, hPc, hDc, hFc⟩ := qac (ws' := (qalR a2 jnX jnW jnP jo0 jnX cyI joK)) hP hD hS hA [2, 3] (by decide +kernel) rfl
      refine va_calli (va_runV (As := [.int x13, .int x14, .int x15]) (rest := []) ⟨hx, hb, hml, hown, hts⟩ (qaG8 l dC dI cyB cyI cyJ cyP a2 jnX H.size (jnW) (.ref jnP) (.ref jo0) joK x13 x14 x15 hw) (cwV 3 hts gX9_isAllowed_X1_couldPay rfl rfl rfl (by decide +kernel) ⟨nbq rfl, nbq rfl⟩) ⟨qab, va_recv (q := (RX1, TX1, 4)) hK hPc (ci := 1) (q0 := 0) rfl rfl, qae hPc hK hDc hNw⟩ rfl rfl hl.1 rfl (lv_room (nbq rfl)) (qaa qe0 3 rfl) ⟨nbq rfl, nbq rfl⟩) hS (fun q _ h => hFc q h) hFc (fun r16 u t H1 locs ht hvm hw hB hz1 hk1 hS => ?_)
      obtain ⟨hP1, hK1, hD1⟩ := hB
      rw [ht] at hP1
      obtain ⟨hP, hD⟩ := qad (wr := (qaXf a0 jbU jgF jgh jhq jme jkw jjf joE ja4 ja0 jaH jaF jbU cyI jdC jgF cyI jiX jgh cyI jiF jnP jon joo jor jos jot joM jof jou jog jnR joh jo5 jon cyI joQ joo cyI joR jo0 joy jop joB jox joS jox cyI joJ joB cyI joN joy cyI joV jop cyI joT jhq cyI jjg)) (w1 := (qalR a2 jnX jnW jnP jo0 jnX cyI joK)) (wn := (qQr a0 jbU jgF jgh jhq jme jkw jjf joE ja4 ja0 jaH jaF jbU cyI jdC a2 jnX jnW jnP jo0 jnX cyI joK jgF cyI jiX jgh cyI jiF jnP jon joo jor jos jot joM jof jou jog jnR joh jo5 jon cyI joQ joo cyI joR jo0 joy jop joB jox joS jox cyI joJ joB cyI joN joy cyI joV jop cyI joT jhq cyI jjg)) hP hD [2, 3] [0, 1, 4, 5, 6, 7, 8, 9, 10, 11, 12, 13, 14] [0, 1, 13, 14, 2, 3, 4, 5, 6, 7, 8, 9, 10, 11, 12] hCc rfl (by decide +kernel) (by decide +kernel) (by decide +kernel) rfl hk1 hFc hP1 hD1
      generalize H1 = H at hP hS ⊢
      obtain ⟨hn9, hw⟩ := hw
      exact ((W.zret (v := r16) hx hb hr hn9 (fun t ht hW => ⟨⟨r16, (joJ, joN), rfl, hw, by rw [ht]; exact hP, va_K.moved hW.alike hK, hD⟩, hS.F ht⟩) hS.2.2 (qaa qe0 4 rfl)))
theorem qaqe : ∀ w ∈ u_ws RX1 TX1 4, w ∈ wsX1_payBack := uiM qaoE qWg (by decide +kernel)
theorem qalj : (.fieldLink RX1 13 "MarchHares$Days" "row" "[I" : Cond) ∈ wsX1_payBack := qaoE 276 (by decide +kernel)
set_option maxHeartbeats 4000000 in
set_option maxRecDepth 100000 in
theorem qaNo (l : Launch) (dC : Nat → ClassId) (dI : Nat → Nat → Nat) (cyB cyI cyJ cyP : ClassId) (a0 jch sz : Nat) (jcD ji6 jhx : Value) (jdE : NI) (p1 p2 p3 : Int32) {Q : NI → Prop} (hw : qYo jdE p1 p2 p3 Q) : Met l yX1_payBack wsX1_payBack ({ frames := 0, cells := 0, slots := 0, locals := 0 }) (va_Pc [.ref a0, .int p1, .int p2, .int p3] (cPc (dC, dI) (kT cyB cyI cyJ cyP) (quD a0 jch jcD ji6 jhx jch cyI jdE) sz)) (va_Qv (fun (u : NI) => Q u) (cB (dC, dI) (kT cyB cyI cyJ cyP) (va_A (quD a0 jch jcD ji6 jhx jch cyI jdE) sz) (fun u : NI => ((quD a0 jch jcD ji6 jhx jch cyI u) : va_W))) (va_A (quD a0 jch jcD ji6 jhx jch cyI jdE) sz)) 0 0 (va_A (quD a0 jch jcD ji6 jhx jch cyI jdE) sz) := by
  refine Met.ofW (cc := cX1_payBack) (maxL := 4) (ret := none) (by decide) rfl ?_
  intro p e s m args below meth c s₁ B hml hv
  obtain ⟨rfl, hsz, hP, hK, hD0, hNw⟩ := hv
  have hx := B.exec
  have hb := B.bytes
  have hr := B.returns
  have hts := atoms_spec (ws := wsX1_payBack) B.pre
  have hown : s.vm.findClass RX1 = some m.cls := findClass_of_methodNamed B.named
  have hlocks := B.notSynchronized
  subst hsz
  have hD := hD0.self (sz := s.heap.size)
  generalize hAe : va_A (quD a0 jch jcD ji6 jhx jch cyI jdE) s.heap.size = A at hD ⊢
  have hA : ∀ q : Nat, s.heap.size ≤ q → A q := fun q h => by rw [← hAe]; exact Or.inr h
  have hS : va_S A s.heap s.heap [] := va_S.rf
  have hP : va_P (dC, dI) vwCl (quD a0 jch jcD ji6 jhx jch cyI jdE) s.heap := hP
  have hl := lv_entry ([.ref a0, .int p1, .int p2, .int p3]) (n := 4) (nbq rfl)
  rw [lg_entry_eq]
  generalize (lg_sl ([.ref a0, .int p1, .int p2, .int p3]) ++ List.replicate (4 - (lg_sl ([.ref a0, .int p1, .int p2, .int p3])).length) Slot.unset).toArray = ls at hl ⊢
  have hl : lv_has ls 4 [(0, .ref a0), (1, .int p1), (2, .int p2), (3, .int p3)] := hl
  have C0 : cfx p s m _ meth c cX1_payBack none wsX1_payBack RX1 4 A (dC, dI) (kT cyB cyI cyJ cyP) := ⟨hx, hb, hr, hts, hown, hlocks, hml, hA, hK, hNw⟩
  clear hAe
  obtain ⟨H, hH⟩ : ∃ H, H = s.heap := ⟨_, rfl⟩
  rw [← hH] at hP ⊢
  have hS : va_S A s.heap H [] := by rw [hH]; exact va_S.rf
  have hS := hS
  refine lv_aload_n hx hb (qaa qik 0 rfl) rfl (lv_at hl 0 rfl) ?_
  refine va_get (D := (dC, dI)) (ci := 1) (v := .ref jch) (C := RX1) (T := TX1) (N := 4) hx hb hts qaqe hown hK hP 0 rfl rfl 0 (by decide) (hts _ qalj) (fun _ h9 => h9) rfl (qaa qik 1 rfl) ?_
  refine lv_bipush (v := 28) hx hb (qaa qik 2 rfl) (by decide) ?_
  refine lv_iload_n hx hb (qaa qik 3 rfl) rfl (lv_at hl 1 rfl) ?_
  refine lv_bipush (v := 6) hx hb (qaa qik 4 rfl) (by decide) ?_
  refine lv_imul hx hb (qaa qik 5 rfl) ?_
  refine lv_iadd hx hb (qaa qik 6 rfl) ?_
  refine lv_topi (fun x1 ex1 => ?_)
  have hw := hw x1 ex1
  refine lv_iload_n hx hb (qaa qik 7 rfl) rfl (lv_at hl 2 rfl) ?_
  refine lv_iadd hx hb (qaa qik 8 rfl) ?_
  refine lv_topi (fun x2 ex2 => ?_)
  have hw := hw x2 ex2
  refine lv_dup2_11 hx hb (qaa qik 9 rfl) rfl rfl ?_
  obtain ⟨hi9, hw⟩ := hw
  refine va_iald hx hb hK hP 1 1 rfl rfl hi9 (qaa qik 10 rfl) ?_
  refine lv_topi (fun x3 ex3 => ?_)
  have hw := hw x3 ex3
  refine lv_iload_n hx hb (qaa qik 11 rfl) rfl (lv_at hl 3 rfl) ?_
  refine lv_isub hx hb (qaa qik 12 rfl) ?_
  refine lv_topi (fun x4 ex4 => ?_)
  have hw := hw x4 ex4
  obtain ⟨hi9, hw⟩ := hw
  refine va_iast hx hb hK hP hD hS 1 1 rfl rfl hi9 (qaa qik 13 rfl) (fun H locs hP hD hS => ?_)
  obtain ⟨f5, ef5⟩ : ∃ y : NI, y = upd jdE x2.toNatClampNeg x4 := ⟨_, rfl⟩
  have hw := hw f5 ef5
  have hP : va_P (dC, dI) vwCl (quD a0 jch jcD ji6 jhx jch cyI f5) H := by rw [ef5]; exact hP
  have hD : va_D A (quD a0 jch jcD ji6 jhx jch cyI f5) := by rw [ef5]; exact hD
  exact ((W.vret hx hb hr (fun t ht hW => ⟨⟨(f5), rfl, hw, by rw [ht]; exact hP, va_K.moved hW.alike hK, hD⟩, hS.F ht⟩) hS.2.2 (qaa qik 14 rfl)))
theorem qt6 : ∀ w ∈ u_ws RX9 TX9 12, w ∈ wsX9_doStep := uiM qtt euX9 (by decide +kernel)
theorem qatV : (.fieldLink RX9 11 "MarchHares$Work" "kinds" "[I" : Cond) ∈ wsX9_doStep := qtt 266 (by decide +kernel)
theorem qMK : (.fieldLink RX9 15 "MarchHares$Work" "first" "[I" : Cond) ∈ wsX9_doStep := qtt 267 (by decide +kernel)
theorem qL1 : (.fieldLink RX9 18 "MarchHares$Work" "second" "[I" : Cond) ∈ wsX9_doStep := qtt 268 (by decide +kernel)
theorem qapb : (.fieldLink RX9 21 "MarchHares$Work" "third" "[I" : Cond) ∈ wsX9_doStep := qtt 269 (by decide +kernel)
set_option maxHeartbeats 4000000 in
set_option maxRecDepth 100000 in
theorem qaWe (l : Launch) (dC : Nat → ClassId) (dI : Nat → Nat → Nat) (cyB cyI cyJ cyP : ClassId) (a0 a2 jbU jnP jnX jnU jgF jgh jhq sz : Nat) (jme jkw jjf joE ja4 ja0 jaH jaF jnW jpe jo1 jo2 jor jos jot jof jou jog joh : Value) (jdC : NI) (jnR joW : Int32) (joG jiX jiF jjg joK : NI) (p1 : Int32) {Q : NI → Prop} (hw : q3B jdC jnR joW joG jiX jiF jjg joK p1 Q) : Met l yX9_doStep wsX9_doStep ({ frames := 5, cells := 0, slots := 0, locals := 107 }) (va_Pc [.ref a0, .int p1, .ref a2] (cPc (dC, dI) (kT cyB cyI cyJ cyP) (qQB a0 jbU jgF jgh jhq jme jkw jjf joE ja4 ja0 jaH jaF jbU cyI jdC a2 jnX jnW jnP jpe jnP jo1 jo2 jor jos jot jnU jof jou jog jnR joh joW jnX cyI joK jnU cyI joG jgF cyI jiX jgh cyI jiF jhq cyI jjg) sz)) (va_Qv (fun (u : NI) => Q u) (cB (dC, dI) (kT cyB cyI cyJ cyP) (va_A (qQB a0 jbU jgF jgh jhq jme jkw jjf joE ja4 ja0 jaH jaF jbU cyI jdC a2 jnX jnW jnP jpe jnP jo1 jo2 jor jos jot jnU jof jou jog jnR joh joW jnX cyI joK jnU cyI joG jgF cyI jiX jgh cyI jiF jhq cyI jjg) sz) (fun u : NI => ((qQB a0 jbU jgF jgh jhq jme jkw jjf joE ja4 ja0 jaH jaF jbU cyI jdC a2 jnX jnW jnP jpe jnP jo1 jo2 jor jos jot jnU jof jou jog jnR joh joW jnX cyI u jnU cyI joG jgF cyI jiX jgh cyI jiF jhq cyI jjg) : va_W))) (va_A (qQB a0 jbU jgF jgh jhq jme jkw jjf joE ja4 ja0 jaH jaF jbU cyI jdC a2 jnX jnW jnP jpe jnP jo1 jo2 jor jos jot jnU jof jou jog jnR joh joW jnX cyI joK jnU cyI joG jgF cyI jiX jgh cyI jiF jhq cyI jjg) sz)) 0 0 (va_A (qQB a0 jbU jgF jgh jhq jme jkw jjf joE ja4 ja0 jaH jaF jbU cyI jdC a2 jnX jnW jnP jpe jnP jo1 jo2 jor jos jot jnU jof jou jog jnR joh joW jnX cyI joK jnU cyI joG jgF cyI jiX jgh cyI jiF jhq cyI jjg) sz) := by
  refine Met.ofW (cc := cX9_doStep) (maxL := 3) (ret := none) (by decide) rfl ?_
  intro p e s m args below meth c s₁ B hml hv
  obtain ⟨rfl, hsz, hP, hK, hD0, hNw⟩ := hv
  have hx := B.exec
  have hb := B.bytes
  have hr := B.returns
  have hts := atoms_spec (ws := wsX9_doStep) B.pre
  have hown : s.vm.findClass RX9 = some m.cls := findClass_of_methodNamed B.named
  have hlocks := B.notSynchronized
  subst hsz
  have hD := hD0.self (sz := s.heap.size)
  generalize hAe : va_A (qQB a0 jbU jgF jgh jhq jme jkw jjf joE ja4 ja0 jaH jaF jbU cyI jdC a2 jnX jnW jnP jpe jnP jo1 jo2 jor jos jot jnU jof jou jog jnR joh joW jnX cyI joK jnU cyI joG jgF cyI jiX jgh cyI jiF jhq cyI jjg) s.heap.size = A at hD ⊢
  have hA : ∀ q : Nat, s.heap.size ≤ q → A q := fun q h => by rw [← hAe]; exact Or.inr h
  have hS : va_S A s.heap s.heap [] := va_S.rf
  have hP : va_P (dC, dI) vwCl (qQB a0 jbU jgF jgh jhq jme jkw jjf joE ja4 ja0 jaH jaF jbU cyI jdC a2 jnX jnW jnP jpe jnP jo1 jo2 jor jos jot jnU jof jou jog jnR joh joW jnX cyI joK jnU cyI joG jgF cyI jiX jgh cyI jiF jhq cyI jjg) s.heap := hP
  have hl := lv_entry ([.ref a0, .int p1, .ref a2]) (n := 3) (nbq rfl)
  rw [lg_entry_eq]
  generalize (lg_sl ([.ref a0, .int p1, .ref a2]) ++ List.replicate (3 - (lg_sl ([.ref a0, .int p1, .ref a2])).length) Slot.unset).toArray = ls at hl ⊢
  have hl : lv_has ls 3 [(0, .ref a0), (1, .int p1), (2, .ref a2)] := hl
  have C0 : cfx p s m _ meth c cX9_doStep none wsX9_doStep RX9 3 A (dC, dI) (kT cyB cyI cyJ cyP) := ⟨hx, hb, hr, hts, hown, hlocks, hml, hA, hK, hNw⟩
  clear hAe
  obtain ⟨H, hH⟩ : ∃ H, H = s.heap := ⟨_, rfl⟩
  rw [← hH] at hP ⊢
  have hS : va_S A s.heap H [] := by rw [hH]; exact va_S.rf
  have hS := hS
  refine lv_aload_n hx hb (qaa qKZ 0 rfl) rfl (lv_at hl 0 rfl) ?_
  refine va_get (D := (dC, dI)) (ci := 9) (v := .ref jbU) (C := RX9) (T := TX9) (N := 12) hx hb hts qt6 hown hK hP 0 rfl rfl 0 (by decide) (hts _ qatV) (fun _ h9 => h9) rfl (qaa qKZ 1 rfl) ?_
  refine lv_iload_n hx hb (qaa qKZ 2 rfl) rfl (lv_at hl 1 rfl) ?_
  obtain ⟨hi9, hw⟩ := hw
  refine va_iald hx hb hK hP 1 1 rfl rfl hi9 (qaa qKZ 3 rfl) ?_
  refine lv_topi (fun x1 ex1 => ?_)
  have hw := hw x1 ex1
  by_cases c2 : x1.toInt < 0 ∨ 2 < x1.toInt
  · have hw := hw.1 c2
    refine lv_tableOut (tgt := 95) hx hb dX9_doStep_6 c2 (by decide) ?_
    refine lv_aload_n hx hb (qaa qpe 5 rfl) rfl (lv_at hl 2 rfl) ?_
    obtain ⟨hCc, hPc, hDc, hFc⟩ := qac (ws' := (qa5U a2 jnX jnW jnP jpe jnP jo1 jo2 jor jos jot jnU jof jou jog jnR joh joW jnX cyI joK jnU cyI joG)) hP hD hS hA [2, 3, 4, 5] (by decide +kernel) rfl
    refine va_callv (va_runV (As := []) (rest := []) ⟨hx, hb, hml, hown, hts⟩ (qXA l dC dI cyB cyI cyJ cyP a2 jnP jnX jnU H.size (jnW) (jpe) (jo1) (jo2) (jor) (jos) (jot) (jof) (jou) (jog) (joh) jnR joW joG joK hw) (cwV 0 hts gX9_doStep_X1_passDay rfl rfl rfl (by decide +kernel) ⟨nbq rfl, nbq rfl⟩) ⟨qab, va_recv (q := (RX1, TX1, 4)) hK hPc (ci := 1) (q0 := 0) rfl rfl, qae hPc hK hDc hNw⟩ rfl rfl hl.1 rfl (lv_room (nbq rfl)) (qaa qpe 6 rfl) ⟨nbq rfl, nbq rfl⟩) hS (fun q _ h => hFc q h) hFc (fun u t H1 locs ht hvm hw hB hz1 hk1 hS => ?_)
    obtain ⟨f3, rfl⟩ : ∃ z, z = u := ⟨_, rfl⟩
    obtain ⟨hP1, hK1, hD1⟩ := hB
    rw [ht] at hP1
    obtain ⟨hP, hD⟩ := qad (wr := (qa8P a0 jbU jgF jgh jhq jme jkw jjf joE ja4 ja0 jaH jaF jbU cyI jdC jgF cyI jiX jgh cyI jiF jhq cyI jjg)) (w1 := (qa5U a2 jnX jnW jnP jpe jnP jo1 jo2 jor jos jot jnU jof jou jog jnR joh joW jnX cyI f3 jnU cyI joG)) (wn := (qQB a0 jbU jgF jgh jhq jme jkw jjf joE ja4 ja0 jaH jaF jbU cyI jdC a2 jnX jnW jnP jpe jnP jo1 jo2 jor jos jot jnU jof jou jog jnR joh joW jnX cyI f3 jnU cyI joG jgF cyI jiX jgh cyI jiF jhq cyI jjg)) hP hD [2, 3, 4, 5] [0, 1, 6, 7, 8] [0, 1, 5, 6, 7, 8, 2, 3, 4] hCc rfl (by decide +kernel) (by decide +kernel) (by decide +kernel) rfl hk1 hFc hP1 hD1
    generalize H1 = H at hP hS ⊢
    exact ((W.vret hx hb hr (fun t ht hW => ⟨⟨(f3), rfl, hw, by rw [ht]; exact hP, va_K.moved hW.alike hK, hD⟩, hS.F ht⟩) hS.2.2 (qaa qpe 7 rfl)))
  · have hw := hw.2
    rcases qaw0 c2 with c2 | c2 | c2
    · have hw := hw.1 c2
      refine lv_tableIn (tgt := 32) (off := 26) hx hb dX9_doStep_6 (by rw [c2]; decide) (by rw [c2]; decide) (by rw [c2]; decide) (by decide) ?_
      refine lv_aload_n hx hb (qaa qhi 0 rfl) rfl (lv_at hl 2 rfl) ?_
      refine lv_aload_n hx hb (qaa qhi 1 rfl) rfl (lv_at hl 0 rfl) ?_
      refine va_get (D := (dC, dI)) (ci := 9) (v := .ref jgF) (C := RX9) (T := TX9) (N := 12) hx hb hts qt6 hown hK hP 0 rfl rfl 1 (by decide) (hts _ qMK) (fun _ h9 => h9) rfl (qaa qhi 2 rfl) ?_
      refine lv_iload_n hx hb (qaa qhi 3 rfl) rfl (lv_at hl 1 rfl) ?_
      obtain ⟨hi9, hw⟩ := hw
      refine va_iald hx hb hK hP 6 1 rfl rfl hi9 (qaa qhi 4 rfl) ?_
      refine lv_topi (fun x4 ex4 => ?_)
      have hw := hw x4 ex4
      refine lv_aload_n hx hb (qaa qhi 5 rfl) rfl (lv_at hl 0 rfl) ?_
      refine va_get (D := (dC, dI)) (ci := 9) (v := .ref jgh) (C := RX9) (T := TX9) (N := 12) hx hb hts qt6 hown hK hP 0 rfl rfl 2 (by decide) (hts _ qL1) (fun _ h9 => h9) rfl (qaa qhi 6 rfl) ?_
      refine lv_iload_n hx hb (qaa qhi 7 rfl) rfl (lv_at hl 1 rfl) ?_
      obtain ⟨hi9, hw⟩ := hw
      refine va_iald hx hb hK hP 7 1 rfl rfl hi9 (qaa qhi 8 rfl) ?_
      refine lv_topi (fun x5 ex5 => ?_)
      have hw := hw x5 ex5
      obtain ⟨hCc, hPc, hDc, hFc⟩ := qac (ws' := (qanZ a2 jnX jnW jnP jpe jnX cyI joK)) hP hD hS hA [2, 4] (by decide +kernel) rfl
      refine va_callv (va_runV (As := [.int x4, .int x5]) (rest := []) ⟨hx, hb, hml, hown, hts⟩ (qaom l dC dI cyB cyI cyJ cyP a2 jnX H.size (jnW) (.ref jnP) (jpe) joK x4 x5 hw) (cwV 2 hts gX9_doStep_X1_leapTo rfl rfl rfl (by decide +kernel) ⟨nbq rfl, nbq rfl⟩) ⟨qab, va_recv (q := (RX1, TX1, 4)) hK hPc (ci := 1) (q0 := 0) rfl rfl, qae hPc hK hDc hNw⟩ rfl rfl hl.1 rfl (lv_room (nbq rfl)) (qaa qhi 9 rfl) ⟨nbq rfl, nbq rfl⟩) hS (fun q _ h => hFc q h) hFc (fun u t H1 locs ht hvm hw hB hz1 hk1 hS => ?_)
      obtain ⟨f6, rfl⟩ : ∃ z, z = u := ⟨_, rfl⟩
      obtain ⟨hP1, hK1, hD1⟩ := hB
      rw [ht] at hP1
      obtain ⟨hP, hD⟩ := qad (wr := (qaYK a0 jbU jgF jgh jhq jme jkw jjf joE ja4 ja0 jaH jaF jbU cyI jdC jnP jo1 jo2 jor jos jot jnU jof jou jog jnR joh joW jnU cyI joG jgF cyI jiX jgh cyI jiF jhq cyI jjg)) (w1 := (qanZ a2 jnX jnW jnP jpe jnX cyI f6)) (wn := (qQB a0 jbU jgF jgh jhq jme jkw jjf joE ja4 ja0 jaH jaF jbU cyI jdC a2 jnX jnW jnP jpe jnP jo1 jo2 jor jos jot jnU jof jou jog jnR joh joW jnX cyI f6 jnU cyI joG jgF cyI jiX jgh cyI jiF jhq cyI jjg)) hP hD [2, 4] [0, 1, 3, 5, 6, 7, 8] [0, 1, 7, 2, 8, 3, 4, 5, 6] hCc rfl (by decide +kernel) (by decide +kernel) (by decide +kernel) rfl hk1 hFc hP1 hD1
      generalize H1 = H at hP hS ⊢
      refine lv_goto (tgt := 99) hx hb (qaa qhi 10 rfl) (by decide) ?_
      exact ((W.vret hx hb hr (fun t ht hW => ⟨⟨(f6), rfl, hw, by rw [ht]; exact hP, va_K.moved hW.alike hK, hD⟩, hS.F ht⟩) hS.2.2 (qaa qpe 7 rfl)))
    · have hw := hw.2.1 c2
      refine lv_tableIn (tgt := 51) (off := 45) hx hb dX9_doStep_6 (by rw [c2]; decide) (by rw [c2]; decide) (by rw [c2]; decide) (by decide) ?_
      refine lv_aload_n hx hb (qaa qhi 11 rfl) rfl (lv_at hl 2 rfl) ?_
      refine lv_aload_n hx hb (qaa qhi 12 rfl) rfl (lv_at hl 0 rfl) ?_
      refine va_get (D := (dC, dI)) (ci := 9) (v := .ref jgF) (C := RX9) (T := TX9) (N := 12) hx hb hts qt6 hown hK hP 0 rfl rfl 1 (by decide) (hts _ qMK) (fun _ h9 => h9) rfl (qaa qhi 13 rfl) ?_
      refine lv_iload_n hx hb (qaa qhi 14 rfl) rfl (lv_at hl 1 rfl) ?_
      obtain ⟨hi9, hw⟩ := hw
      refine va_iald hx hb hK hP 6 1 rfl rfl hi9 (qaa qhi 15 rfl) ?_
      refine lv_topi (fun x7 ex7 => ?_)
      have hw := hw x7 ex7
      refine lv_aload_n hx hb (qaa qhG 0 rfl) rfl (lv_at hl 0 rfl) ?_
      refine va_get (D := (dC, dI)) (ci := 9) (v := .ref jgh) (C := RX9) (T := TX9) (N := 12) hx hb hts qt6 hown hK hP 0 rfl rfl 2 (by decide) (hts _ qL1) (fun _ h9 => h9) rfl (qaa qhG 1 rfl) ?_
      refine lv_iload_n hx hb (qaa qhG 2 rfl) rfl (lv_at hl 1 rfl) ?_
      obtain ⟨hi9, hw⟩ := hw
      refine va_iald hx hb hK hP 7 1 rfl rfl hi9 (qaa qhG 3 rfl) ?_
      refine lv_topi (fun x8 ex8 => ?_)
      have hw := hw x8 ex8
      obtain ⟨hCc, hPc, hDc, hFc⟩ := qac (ws' := (qanZ a2 jnX jnW jnP jpe jnX cyI joK)) hP hD hS hA [2, 4] (by decide +kernel) rfl
      refine va_callv (va_runV (As := [.int x7, .int x8]) (rest := []) ⟨hx, hb, hml, hown, hts⟩ (qax7 l dC dI cyB cyI cyJ cyP a2 jnX H.size (jnW) (.ref jnP) (jpe) joK x7 x8 hw) (cwV 2 hts gX9_doStep_X1_fight rfl rfl rfl (by decide +kernel) ⟨nbq rfl, nbq rfl⟩) ⟨qab, va_recv (q := (RX1, TX1, 4)) hK hPc (ci := 1) (q0 := 0) rfl rfl, qae hPc hK hDc hNw⟩ rfl rfl hl.1 rfl (lv_room (nbq rfl)) (qaa qhG 4 rfl) ⟨nbq rfl, nbq rfl⟩) hS (fun q _ h => hFc q h) hFc (fun u t H1 locs ht hvm hw hB hz1 hk1 hS => ?_)
      obtain ⟨f9, rfl⟩ : ∃ z, z = u := ⟨_, rfl⟩
      obtain ⟨hP1, hK1, hD1⟩ := hB
      rw [ht] at hP1
      obtain ⟨hP, hD⟩ := qad (wr := (qaYK a0 jbU jgF jgh jhq jme jkw jjf joE ja4 ja0 jaH jaF jbU cyI jdC jnP jo1 jo2 jor jos jot jnU jof jou jog jnR joh joW jnU cyI joG jgF cyI jiX jgh cyI jiF jhq cyI jjg)) (w1 := (qanZ a2 jnX jnW jnP jpe jnX cyI f9)) (wn := (qQB a0 jbU jgF jgh jhq jme jkw jjf joE ja4 ja0 jaH jaF jbU cyI jdC a2 jnX jnW jnP jpe jnP jo1 jo2 jor jos jot jnU jof jou jog jnR joh joW jnX cyI f9 jnU cyI joG jgF cyI jiX jgh cyI jiF jhq cyI jjg)) hP hD [2, 4] [0, 1, 3, 5, 6, 7, 8] [0, 1, 7, 2, 8, 3, 4, 5, 6] hCc rfl (by decide +kernel) (by decide +kernel) (by decide +kernel) rfl hk1 hFc hP1 hD1
      generalize H1 = H at hP hS ⊢
      refine lv_goto (tgt := 99) hx hb (qaa qhG 5 rfl) (by decide) ?_
      exact ((W.vret hx hb hr (fun t ht hW => ⟨⟨(f9), rfl, hw, by rw [ht]; exact hP, va_K.moved hW.alike hK, hD⟩, hS.F ht⟩) hS.2.2 (qaa qpe 7 rfl)))
    · have hw := hw.2.2 c2
      refine lv_tableIn (tgt := 70) (off := 64) hx hb dX9_doStep_6 (by rw [c2]; decide) (by rw [c2]; decide) (by rw [c2]; decide) (by decide) ?_
      refine lv_aload_n hx hb (qaa qhG 6 rfl) rfl (lv_at hl 2 rfl) ?_
      refine lv_aload_n hx hb (qaa qhG 7 rfl) rfl (lv_at hl 0 rfl) ?_
      refine va_get (D := (dC, dI)) (ci := 9) (v := .ref jgF) (C := RX9) (T := TX9) (N := 12) hx hb hts qt6 hown hK hP 0 rfl rfl 1 (by decide) (hts _ qMK) (fun _ h9 => h9) rfl (qaa qhG 8 rfl) ?_
      refine lv_iload_n hx hb (qaa qhG 9 rfl) rfl (lv_at hl 1 rfl) ?_
      obtain ⟨hi9, hw⟩ := hw
      refine va_iald hx hb hK hP 6 1 rfl rfl hi9 (qaa qhG 10 rfl) ?_
      refine lv_topi (fun x10 ex10 => ?_)
      have hw := hw x10 ex10
      refine lv_aload_n hx hb (qaa qhG 11 rfl) rfl (lv_at hl 0 rfl) ?_
      refine va_get (D := (dC, dI)) (ci := 9) (v := .ref jgh) (C := RX9) (T := TX9) (N := 12) hx hb hts qt6 hown hK hP 0 rfl rfl 2 (by decide) (hts _ qL1) (fun _ h9 => h9) rfl (qaa qhG 12 rfl) ?_
      refine lv_iload_n hx hb (qaa qhG 13 rfl) rfl (lv_at hl 1 rfl) ?_
      obtain ⟨hi9, hw⟩ := hw
      refine va_iald hx hb hK hP 7 1 rfl rfl hi9 (qaa qhG 14 rfl) ?_
      refine lv_topi (fun x11 ex11 => ?_)
      have hw := hw x11 ex11
      refine lv_aload_n hx hb (qaa qhG 15 rfl) rfl (lv_at hl 0 rfl) ?_
      refine va_get (D := (dC, dI)) (ci := 9) (v := .ref jhq) (C := RX9) (T := TX9) (N := 12) hx hb hts qt6 hown hK hP 0 rfl rfl 3 (by decide) (hts _ qapb) (fun _ h9 => h9) rfl (qaa qpe 0 rfl) ?_
      refine lv_iload_n hx hb (qaa qpe 1 rfl) rfl (lv_at hl 1 rfl) ?_
      obtain ⟨hi9, hw⟩ := hw
      refine va_iald hx hb hK hP 8 1 rfl rfl hi9 (qaa qpe 2 rfl) ?_
      refine lv_topi (fun x12 ex12 => ?_)
      have hw := hw x12 ex12
      obtain ⟨hCc, hPc, hDc, hFc⟩ := qac (ws' := (qanZ a2 jnX jnW jnP jpe jnX cyI joK)) hP hD hS hA [2, 4] (by decide +kernel) rfl
      refine va_callv (va_runV (As := [.int x10, .int x11, .int x12]) (rest := []) ⟨hx, hb, hml, hown, hts⟩ (qaNo l dC dI cyB cyI cyJ cyP a2 jnX H.size (jnW) (.ref jnP) (jpe) joK x10 x11 x12 hw) (cwV 3 hts gX9_doStep_X1_payBack rfl rfl rfl (by decide +kernel) ⟨nbq rfl, nbq rfl⟩) ⟨qab, va_recv (q := (RX1, TX1, 4)) hK hPc (ci := 1) (q0 := 0) rfl rfl, qae hPc hK hDc hNw⟩ rfl rfl hl.1 rfl (lv_room (nbq rfl)) (qaa qpe 3 rfl) ⟨nbq rfl, nbq rfl⟩) hS (fun q _ h => hFc q h) hFc (fun u t H1 locs ht hvm hw hB hz1 hk1 hS => ?_)
      obtain ⟨f13, rfl⟩ : ∃ z, z = u := ⟨_, rfl⟩
      obtain ⟨hP1, hK1, hD1⟩ := hB
      rw [ht] at hP1
      obtain ⟨hP, hD⟩ := qad (wr := (qaYK a0 jbU jgF jgh jhq jme jkw jjf joE ja4 ja0 jaH jaF jbU cyI jdC jnP jo1 jo2 jor jos jot jnU jof jou jog jnR joh joW jnU cyI joG jgF cyI jiX jgh cyI jiF jhq cyI jjg)) (w1 := (qanZ a2 jnX jnW jnP jpe jnX cyI f13)) (wn := (qQB a0 jbU jgF jgh jhq jme jkw jjf joE ja4 ja0 jaH jaF jbU cyI jdC a2 jnX jnW jnP jpe jnP jo1 jo2 jor jos jot jnU jof jou jog jnR joh joW jnX cyI f13 jnU cyI joG jgF cyI jiX jgh cyI jiF jhq cyI jjg)) hP hD [2, 4] [0, 1, 3, 5, 6, 7, 8] [0, 1, 7, 2, 8, 3, 4, 5, 6] hCc rfl (by decide +kernel) (by decide +kernel) (by decide +kernel) rfl hk1 hFc hP1 hD1
      generalize H1 = H at hP hS ⊢
      refine lv_goto (tgt := 99) hx hb (qaa qpe 4 rfl) (by decide) ?_
      exact ((W.vret hx hb hr (fun t ht hW => ⟨⟨(f13), rfl, hw, by rw [ht]; exact hP, va_K.moved hW.alike hK, hD⟩, hS.F ht⟩) hS.2.2 (qaa qpe 7 rfl)))
theorem qrQ : ∀ w ∈ u_ws RX9 TX9 12, w ∈ wsX9_runOn := uiM quw euX9 (by decide +kernel)
theorem qMx : (.fieldLink RX9 102 "MarchHares$Work" "refused" "I" : Cond) ∈ wsX9_runOn := quw 1684 (by decide +kernel)
theorem q3w : (.fieldLink RX9 11 "MarchHares$Work" "kinds" "[I" : Cond) ∈ wsX9_runOn := quw 266 (by decide +kernel)
theorem qaxQ : (.fieldLink RX9 37 "MarchHares$Work" "length" "I" : Cond) ∈ wsX9_runOn := quw 1606 (by decide +kernel)
theorem qax0 : (.fieldLink RX9 40 "MarchHares$Work" "open" "I" : Cond) ∈ wsX9_runOn := quw 1607 (by decide +kernel)
theorem qQj : (.fieldLink RX9 99 "MarchHares$Work" "done" "I" : Cond) ∈ wsX9_runOn := quw 1683 (by decide +kernel)
set_option maxHeartbeats 4000000 in
set_option maxRecDepth 100000 in
theorem qRs {p : Program} {l : Launch} {e : Env} {s : State} {m : MethodId} {args : Array Value} {below : List Frame} {meth : Method} {c : Code} {A : Nat → Prop} (dC : Nat → ClassId) (dI : Nat → Nat → Nat) (cyB cyI cyJ cyP : ClassId) (a0 a1 jbU jjO jgF jgh jjN jjs jjt jlL jjL jj7 jjM jjw jhq jlt jlw : Nat) (jme ja4 ja0 jjP jky jkz jkA jkd jkB jna jke : Value) (jb7 : Int32) (jdC jiX jiF : NI) (jh5 jkF : Int32) (jkl jkm : NI) (jka : Int32) (jkx jkb jjg jl5 : NI) (Q : Int32 → Int32 → Int32 → NI → NI → NI → NI → Prop) (K22 : Int32 → Int32 → Int32 → NI → NI → NI → NI → Int32 → Int32 → Int32 → Prop) (hK22 : ∀ (H : Heap) (locs : List Loc) (ls : Array Slot) (jiW jmI jjF : Int32) (jkt jkS jkO jmk : NI) (l2 l3 l4 : Int32), va_P (dC, dI) vwCl (qoZ a0 jbU jgF jgh jhq jme jlw jb7 jjF ja4 ja0 jiW jmI jbU cyI jdC a1 jjO jjP jjN jlL jjO cyI jkO jgF cyI jiX jgh cyI jiF jjN jjs jjt jky jkz jkA jlt jkd jkB jna jh5 jke jkF jjs cyI jkl jjt cyI jkm jlL jjM jjw jj7 jjL jka jjL cyI jkt jj7 cyI jkS jjM cyI jkx jjw cyI jkb jhq cyI jjg jlt cyI jl5 jlw cyI jmk) H → va_D A (qoZ a0 jbU jgF jgh jhq jme jlw jb7 jjF ja4 ja0 jiW jmI jbU cyI jdC a1 jjO jjP jjN jlL jjO cyI jkO jgF cyI jiX jgh cyI jiF jjN jjs jjt jky jkz jkA jlt jkd jkB jna jh5 jke jkF jjs cyI jkl jjt cyI jkm jlL jjM jjw jj7 jjL jka jjL cyI jkt jj7 cyI jkS jjM cyI jkx jjw cyI jkb jhq cyI jjg jlt cyI jl5 jlw cyI jmk) → va_S A s.heap H locs → lv_has ls 5 [(0, .ref a0), (1, .ref a1), (2, .int l2), (3, .int l3), (4, .int l4)] → K22 jiW jmI jjF jkt jkS jkO jmk l2 l3 l4 → W p l e (headSpec wsX9_runOn ({ frames := 6, cells := 0, slots := 0, locals := 129 })).room s m args below meth c H locs 0 0 (MQ below (va_Qv (fun (u : Int32 × Int32 × Int32 × NI × NI × NI × NI) => Q u.1 u.2.1 u.2.2.1 u.2.2.2.1 u.2.2.2.2.1 u.2.2.2.2.2.1 u.2.2.2.2.2.2) (cB (dC, dI) (kT cyB cyI cyJ cyP) A (fun u : Int32 × Int32 × Int32 × NI × NI × NI × NI => ((qoZ a0 jbU jgF jgh jhq jme jlw jb7 u.2.2.1 ja4 ja0 u.1 u.2.1 jbU cyI jdC a1 jjO jjP jjN jlL jjO cyI u.2.2.2.2.2.1 jgF cyI jiX jgh cyI jiF jjN jjs jjt jky jkz jkA jlt jkd jkB jna jh5 jke jkF jjs cyI jkl jjt cyI jkm jlL jjM jjw jj7 jjL jka jjL cyI u.2.2.2.1 jj7 cyI u.2.2.2.2.1 jjM cyI jkx jjw cyI jkb jhq cyI jjg jlt cyI jl5 jlw cyI u.2.2.2.2.2.2) : va_W))) A) args s 0 0 A) (F0 m 22 ls [])) (C0 : cfx p s m args meth c cX9_runOn none wsX9_runOn RX9 5 A (dC, dI) (kT cyB cyI cyJ cyP)) : ∀ (H : Heap) (locs : List Loc) (ls : Array Slot) (jiW jmI jjF : Int32) (jkt jkS jkO jmk : NI) (l2 l3 l4 : Int32), va_P (dC, dI) vwCl (qoZ a0 jbU jgF jgh jhq jme jlw jb7 jjF ja4 ja0 jiW jmI jbU cyI jdC a1 jjO jjP jjN jlL jjO cyI jkO jgF cyI jiX jgh cyI jiF jjN jjs jjt jky jkz jkA jlt jkd jkB jna jh5 jke jkF jjs cyI jkl jjt cyI jkm jlL jjM jjw jj7 jjL jka jjL cyI jkt jj7 cyI jkS jjM cyI jkx jjw cyI jkb jhq cyI jjg jlt cyI jl5 jlw cyI jmk) H → va_D A (qoZ a0 jbU jgF jgh jhq jme jlw jb7 jjF ja4 ja0 jiW jmI jbU cyI jdC a1 jjO jjP jjN jlL jjO cyI jkO jgF cyI jiX jgh cyI jiF jjN jjs jjt jky jkz jkA jlt jkd jkB jna jh5 jke jkF jjs cyI jkl jjt cyI jkm jlL jjM jjw jj7 jjL jka jjL cyI jkt jj7 cyI jkS jjM cyI jkx jjw cyI jkb jhq cyI jjg jlt cyI jl5 jlw cyI jmk) → va_S A s.heap H locs → lv_has ls 5 [(0, .ref a0), (1, .ref a1), (2, .int l2), (3, .int l3), (4, .int l4)] → qHa jb7 jdC jiX jiF jh5 jkF jkl jkm jka jkx jkb jjg jl5 Q K22 jiW jmI jjF jkt jkS jkO jmk l2 l3 l4 → W p l e (headSpec wsX9_runOn ({ frames := 6, cells := 0, slots := 0, locals := 129 })).room s m args below meth c H locs 0 0 (MQ below (va_Qv (fun (u : Int32 × Int32 × Int32 × NI × NI × NI × NI) => Q u.1 u.2.1 u.2.2.1 u.2.2.2.1 u.2.2.2.2.1 u.2.2.2.2.2.1 u.2.2.2.2.2.2) (cB (dC, dI) (kT cyB cyI cyJ cyP) A (fun u : Int32 × Int32 × Int32 × NI × NI × NI × NI => ((qoZ a0 jbU jgF jgh jhq jme jlw jb7 u.2.2.1 ja4 ja0 u.1 u.2.1 jbU cyI jdC a1 jjO jjP jjN jlL jjO cyI u.2.2.2.2.2.1 jgF cyI jiX jgh cyI jiF jjN jjs jjt jky jkz jkA jlt jkd jkB jna jh5 jke jkF jjs cyI jkl jjt cyI jkm jlL jjM jjw jj7 jjL jka jjL cyI u.2.2.2.1 jj7 cyI u.2.2.2.2.1 jjM cyI jkx jjw cyI jkb jhq cyI jjg jlt cyI jl5 jlw cyI u.2.2.2.2.2.2) : va_W))) A) args s 0 0 A) (F0 m 127 ls []) := by
  obtain ⟨hx, hb, hr, hts, hown, hlocks, hml, hA, hK, hNw⟩ := id C0
  intro H locs ls jiW jmI jjF jkt jkS jkO jmk l2 l3 l4 hP hD hS hl hw
  obtain ⟨x23, ex23⟩ : ∃ y : Int32, y = l4 + 1 := ⟨_, rfl⟩
  have hw := hw x23 ex23
  refine lv_iinc (v := x23) (lv' := [(4, .int x23), (0, .ref a0), (1, .ref a1), (2, .int l2), (3, .int l3)]) hx hb (qaa qoa 7 rfl) hl (k := 4) rfl (by rw [ex23]; rfl) (by decide) rfl (fun ls hl => ?_)
  refine lv_goto (tgt := 22) hx hb (qaa qoa 8 rfl) (by decide) ?_
  exact hK22 _ _ _ jiW jmI jjF jkt jkS jkO jmk l2 l3 x23 hP hD hS (lv_sub hl [1, 2, 3, 4, 0] rfl) hw
set_option maxHeartbeats 4000000 in
set_option maxRecDepth 100000 in
theorem q3g {p : Program} {l : Launch} {e : Env} {s : State} {m : MethodId} {args : Array Value} {below : List Frame} {meth : Method} {c : Code} {A : Nat → Prop} (dC : Nat → ClassId) (dI : Nat → Nat → Nat) (cyB cyI cyJ cyP : ClassId) (a0 a1 jbU jjO jgF jgh jjN jjs jjt jlL jjL jj7 jjM jjw jhq jlt jlw : Nat) (jme ja4 ja0 jjP jky jkz jkA jkd jkB jna jke : Value) (jb7 : Int32) (jdC jiX jiF : NI) (jh5 jkF : Int32) (jkl jkm : NI) (jka : Int32) (jkx jkb jjg jl5 : NI) (Q : Int32 → Int32 → Int32 → NI → NI → NI → NI → Prop) (K22 : Int32 → Int32 → Int32 → NI → NI → NI → NI → Int32 → Int32 → Int32 → Prop) (hK22 : ∀ (H : Heap) (locs : List Loc) (ls : Array Slot) (jiW jmI jjF : Int32) (jkt jkS jkO jmk : NI) (l2 l3 l4 : Int32), va_P (dC, dI) vwCl (qoZ a0 jbU jgF jgh jhq jme jlw jb7 jjF ja4 ja0 jiW jmI jbU cyI jdC a1 jjO jjP jjN jlL jjO cyI jkO jgF cyI jiX jgh cyI jiF jjN jjs jjt jky jkz jkA jlt jkd jkB jna jh5 jke jkF jjs cyI jkl jjt cyI jkm jlL jjM jjw jj7 jjL jka jjL cyI jkt jj7 cyI jkS jjM cyI jkx jjw cyI jkb jhq cyI jjg jlt cyI jl5 jlw cyI jmk) H → va_D A (qoZ a0 jbU jgF jgh jhq jme jlw jb7 jjF ja4 ja0 jiW jmI jbU cyI jdC a1 jjO jjP jjN jlL jjO cyI jkO jgF cyI jiX jgh cyI jiF jjN jjs jjt jky jkz jkA jlt jkd jkB jna jh5 jke jkF jjs cyI jkl jjt cyI jkm jlL jjM jjw jj7 jjL jka jjL cyI jkt jj7 cyI jkS jjM cyI jkx jjw cyI jkb jhq cyI jjg jlt cyI jl5 jlw cyI jmk) → va_S A s.heap H locs → lv_has ls 5 [(0, .ref a0), (1, .ref a1), (2, .int l2), (3, .int l3), (4, .int l4)] → K22 jiW jmI jjF jkt jkS jkO jmk l2 l3 l4 → W p l e (headSpec wsX9_runOn ({ frames := 6, cells := 0, slots := 0, locals := 129 })).room s m args below meth c H locs 0 0 (MQ below (va_Qv (fun (u : Int32 × Int32 × Int32 × NI × NI × NI × NI) => Q u.1 u.2.1 u.2.2.1 u.2.2.2.1 u.2.2.2.2.1 u.2.2.2.2.2.1 u.2.2.2.2.2.2) (cB (dC, dI) (kT cyB cyI cyJ cyP) A (fun u : Int32 × Int32 × Int32 × NI × NI × NI × NI => ((qoZ a0 jbU jgF jgh jhq jme jlw jb7 u.2.2.1 ja4 ja0 u.1 u.2.1 jbU cyI jdC a1 jjO jjP jjN jlL jjO cyI u.2.2.2.2.2.1 jgF cyI jiX jgh cyI jiF jjN jjs jjt jky jkz jkA jlt jkd jkB jna jh5 jke jkF jjs cyI jkl jjt cyI jkm jlL jjM jjw jj7 jjL jka jjL cyI u.2.2.2.1 jj7 cyI u.2.2.2.2.1 jjM cyI jkx jjw cyI jkb jhq cyI jjg jlt cyI jl5 jlw cyI u.2.2.2.2.2.2) : va_W))) A) args s 0 0 A) (F0 m 22 ls [])) (C0 : cfx p s m args meth c cX9_runOn none wsX9_runOn RX9 5 A (dC, dI) (kT cyB cyI cyJ cyP)) : ∀ (H : Heap) (locs : List Loc) (ls : Array Slot) (jiW jmI jjF : Int32) (jkt jkS jkO jmk : NI) (l2 l3 l4 : Int32), va_P (dC, dI) vwCl (qoZ a0 jbU jgF jgh jhq jme jlw jb7 jjF ja4 ja0 jiW jmI jbU cyI jdC a1 jjO jjP jjN jlL jjO cyI jkO jgF cyI jiX jgh cyI jiF jjN jjs jjt jky jkz jkA jlt jkd jkB jna jh5 jke jkF jjs cyI jkl jjt cyI jkm jlL jjM jjw jj7 jjL jka jjL cyI jkt jj7 cyI jkS jjM cyI jkx jjw cyI jkb jhq cyI jjg jlt cyI jl5 jlw cyI jmk) H → va_D A (qoZ a0 jbU jgF jgh jhq jme jlw jb7 jjF ja4 ja0 jiW jmI jbU cyI jdC a1 jjO jjP jjN jlL jjO cyI jkO jgF cyI jiX jgh cyI jiF jjN jjs jjt jky jkz jkA jlt jkd jkB jna jh5 jke jkF jjs cyI jkl jjt cyI jkm jlL jjM jjw jj7 jjL jka jjL cyI jkt jj7 cyI jkS jjM cyI jkx jjw cyI jkb jhq cyI jjg jlt cyI jl5 jlw cyI jmk) → va_S A s.heap H locs → lv_has ls 5 [(0, .ref a0), (1, .ref a1), (2, .int l2), (3, .int l3), (4, .int l4)] → qOJ jb7 jdC jiX jiF jh5 jkF jkl jkm jka jkx jkb jjg jl5 Q K22 jiW jmI jjF jkt jkS jkO jmk l2 l3 l4 → W p l e (headSpec wsX9_runOn ({ frames := 6, cells := 0, slots := 0, locals := 129 })).room s m args below meth c H locs 0 0 (MQ below (va_Qv (fun (u : Int32 × Int32 × Int32 × NI × NI × NI × NI) => Q u.1 u.2.1 u.2.2.1 u.2.2.2.1 u.2.2.2.2.1 u.2.2.2.2.2.1 u.2.2.2.2.2.2) (cB (dC, dI) (kT cyB cyI cyJ cyP) A (fun u : Int32 × Int32 × Int32 × NI × NI × NI × NI => ((qoZ a0 jbU jgF jgh jhq jme jlw jb7 u.2.2.1 ja4 ja0 u.1 u.2.1 jbU cyI jdC a1 jjO jjP jjN jlL jjO cyI u.2.2.2.2.2.1 jgF cyI jiX jgh cyI jiF jjN jjs jjt jky jkz jkA jlt jkd jkB jna jh5 jke jkF jjs cyI jkl jjt cyI jkm jlL jjM jjw jj7 jjL jka jjL cyI u.2.2.2.1 jj7 cyI u.2.2.2.2.1 jjM cyI jkx jjw cyI jkb jhq cyI jjg jlt cyI jl5 jlw cyI u.2.2.2.2.2.2) : va_W))) A) args s 0 0 A) (F0 m 124 ls []) := by
  obtain ⟨hx, hb, hr, hts, hown, hlocks, hml, hA, hK, hNw⟩ := id C0
  intro H locs ls jiW jmI jjF jkt jkS jkO jmk l2 l3 l4 hP hD hS hl hw
  obtain ⟨x22, ex22⟩ : ∃ y : Int32, y = l3 + 1 := ⟨_, rfl⟩
  have hw := hw x22 ex22
  refine lv_iinc (v := x22) (lv' := [(3, .int x22), (0, .ref a0), (1, .ref a1), (2, .int l2), (4, .int l4)]) hx hb (qaa qoa 6 rfl) hl (k := 3) rfl (by rw [ex22]; rfl) (by decide) rfl (fun ls hl => ?_)
  exact qRs dC dI cyB cyI cyJ cyP a0 a1 jbU jjO jgF jgh jjN jjs jjt jlL jjL jj7 jjM jjw jhq jlt jlw jme ja4 ja0 jjP jky jkz jkA jkd jkB jna jke jb7 jdC jiX jiF jh5 jkF jkl jkm jka jkx jkb jjg jl5 Q K22 hK22 C0 _ _ _ jiW jmI jjF jkt jkS jkO jmk l2 x22 l4 hP hD hS (lv_sub hl [1, 2, 3, 0, 4] rfl) hw
set_option maxHeartbeats 4000000 in
set_option maxRecDepth 100000 in
theorem qaJR {p : Program} {l : Launch} {e : Env} {s : State} {m : MethodId} {args : Array Value} {below : List Frame} {meth : Method} {c : Code} {A : Nat → Prop} (dC : Nat → ClassId) (dI : Nat → Nat → Nat) (cyB cyI cyJ cyP : ClassId) (a0 a1 jbU jjO jgF jgh jjN jjs jjt jlL jjL jj7 jjM jjw jhq jlt jlw : Nat) (jme ja4 ja0 jjP jky jkz jkA jkd jkB jna jke : Value) (jb7 : Int32) (jdC jiX jiF : NI) (jh5 jkF : Int32) (jkl jkm : NI) (jka : Int32) (jkx jkb jjg jl5 : NI) (Q : Int32 → Int32 → Int32 → NI → NI → NI → NI → Prop) (C0 : cfx p s m args meth c cX9_runOn none wsX9_runOn RX9 5 A (dC, dI) (kT cyB cyI cyJ cyP)) : ∀ (n : Nat) (H : Heap) (locs : List Loc) (ls : Array Slot) (jiW jmI jjF : Int32) (jkt jkS jkO jmk : NI) (l2 l3 l4 : Int32), va_P (dC, dI) vwCl (qoZ a0 jbU jgF jgh jhq jme jlw jb7 jjF ja4 ja0 jiW jmI jbU cyI jdC a1 jjO jjP jjN jlL jjO cyI jkO jgF cyI jiX jgh cyI jiF jjN jjs jjt jky jkz jkA jlt jkd jkB jna jh5 jke jkF jjs cyI jkl jjt cyI jkm jlL jjM jjw jj7 jjL jka jjL cyI jkt jj7 cyI jkS jjM cyI jkx jjw cyI jkb jhq cyI jjg jlt cyI jl5 jlw cyI jmk) H → va_D A (qoZ a0 jbU jgF jgh jhq jme jlw jb7 jjF ja4 ja0 jiW jmI jbU cyI jdC a1 jjO jjP jjN jlL jjO cyI jkO jgF cyI jiX jgh cyI jiF jjN jjs jjt jky jkz jkA jlt jkd jkB jna jh5 jke jkF jjs cyI jkl jjt cyI jkm jlL jjM jjw jj7 jjL jka jjL cyI jkt jj7 cyI jkS jjM cyI jkx jjw cyI jkb jhq cyI jjg jlt cyI jl5 jlw cyI jmk) → va_S A s.heap H locs → lv_has ls 5 [(0, .ref a0), (1, .ref a1), (2, .int l2), (3, .int l3), (4, .int l4)] → qqB jb7 jdC jiX jiF jh5 jkF jkl jkm jka jkx jkb jjg jl5 Q n jiW jmI jjF jkt jkS jkO jmk l2 l3 l4 → W p l e (headSpec wsX9_runOn ({ frames := 6, cells := 0, slots := 0, locals := 129 })).room s m args below meth c H locs 0 0 (MQ below (va_Qv (fun (u : Int32 × Int32 × Int32 × NI × NI × NI × NI) => Q u.1 u.2.1 u.2.2.1 u.2.2.2.1 u.2.2.2.2.1 u.2.2.2.2.2.1 u.2.2.2.2.2.2) (cB (dC, dI) (kT cyB cyI cyJ cyP) A (fun u : Int32 × Int32 × Int32 × NI × NI × NI × NI => ((qoZ a0 jbU jgF jgh jhq jme jlw jb7 u.2.2.1 ja4 ja0 u.1 u.2.1 jbU cyI jdC a1 jjO jjP jjN jlL jjO cyI u.2.2.2.2.2.1 jgF cyI jiX jgh cyI jiF jjN jjs jjt jky jkz jkA jlt jkd jkB jna jh5 jke jkF jjs cyI jkl jjt cyI jkm jlL jjM jjw jj7 jjL jka jjL cyI u.2.2.2.1 jj7 cyI u.2.2.2.2.1 jjM cyI jkx jjw cyI jkb jhq cyI jjg jlt cyI jl5 jlw cyI u.2.2.2.2.2.2) : va_W))) A) args s 0 0 A) (F0 m 22 ls []) := by
  obtain ⟨hx, hb, hr, hts, hown, hlocks, hml, hA, hK, hNw⟩ := id C0
  intro n
  induction n with
  | zero => intro H locs ls jiW jmI jjF jkt jkS jkO jmk l2 l3 l4 hP hD hS hl hw; exact False.elim hw
  | succ n ih =>
    intro H locs ls jiW jmI jjF jkt jkS jkO jmk l2 l3 l4 hP hD hS hl hw
    refine lv_iload hx hb (qaa qlo 15 rfl) (lv_at hl 4 rfl) ?_
    refine lv_sipush (v := 20000) hx hb (qaa qjy 0 rfl) (by decide) ?_
    refine lv_icmp_ge (tgt := 133) hx hb (qaa qjy 1 rfl) (by decide) (fun c1 => ?_) (fun c1 => ?_)
    · have hw := hw.1 c1
      exact ((W.vret hx hb hr (fun t ht hW => ⟨⟨(jiW, jmI, jjF, jkt, jkS, jkO, jmk), rfl, hw, by rw [ht]; exact hP, va_K.moved hW.alike hK, hD⟩, hS.F ht⟩) hS.2.2 (qaa qoa 9 rfl)))
    · have hw := hw.2 c1
      refine lv_iload_n hx hb (qaa qjy 2 rfl) rfl (lv_at hl 2 rfl) ?_
      refine lv_sipush (v := 200) hx hb (qaa qjy 3 rfl) (by decide) ?_
      refine lv_icmp_ge (tgt := 133) hx hb (qaa qjy 4 rfl) (by decide) (fun c2 => ?_) (fun c2 => ?_)
      · have hw := hw.1 c2
        exact ((W.vret hx hb hr (fun t ht hW => ⟨⟨(jiW, jmI, jjF, jkt, jkS, jkO, jmk), rfl, hw, by rw [ht]; exact hP, va_K.moved hW.alike hK, hD⟩, hS.F ht⟩) hS.2.2 (qaa qoa 9 rfl)))
      · have hw := hw.2 c2
        refine lv_iload_n hx hb (qaa qjy 5 rfl) rfl (lv_at hl 3 rfl) ?_
        refine lv_aload_n hx hb (qaa qjy 6 rfl) rfl (lv_at hl 0 rfl) ?_
        refine va_get (D := (dC, dI)) (ci := 9) (v := .int jb7) (C := RX9) (T := TX9) (N := 12) hx hb hts qrQ hown hK hP 0 rfl rfl 6 (by decide) (hts _ qaxQ) (fun _ h9 => h9) rfl (qaa qjy 7 rfl) ?_
        refine lv_icmp_ge (tgt := 133) hx hb (qaa qjy 8 rfl) (by decide) (fun c3 => ?_) (fun c3 => ?_)
        · have hw := hw.1 c3
          exact ((W.vret hx hb hr (fun t ht hW => ⟨⟨(jiW, jmI, jjF, jkt, jkS, jkO, jmk), rfl, hw, by rw [ht]; exact hP, va_K.moved hW.alike hK, hD⟩, hS.F ht⟩) hS.2.2 (qaa qoa 9 rfl)))
        · have hw := hw.2 c3
          refine lv_aload_n hx hb (qaa qjy 9 rfl) rfl (lv_at hl 0 rfl) ?_
          refine va_get (D := (dC, dI)) (ci := 9) (v := .ref jbU) (C := RX9) (T := TX9) (N := 12) hx hb hts qrQ hown hK hP 0 rfl rfl 0 (by decide) (hts _ q3w) (fun _ h9 => h9) rfl (qaa qjy 10 rfl) ?_
          refine lv_iload_n hx hb (qaa qjy 11 rfl) rfl (lv_at hl 3 rfl) ?_
          obtain ⟨hi9, hw⟩ := hw
          refine va_iald hx hb hK hP 1 1 rfl rfl hi9 (qaa qjy 12 rfl) ?_
          refine lv_topi (fun x4 ex4 => ?_)
          have hw := hw x4 ex4
          refine lv_iconst (v := 5) hx hb (qaa qjy 13 rfl) (by decide) ?_
          refine lv_icmp_ne (tgt := 64) hx hb (qaa qjy 14 rfl) (by decide) (fun c5 => ?_) (fun c5 => ?_)
          · have hw := hw.1 c5
            obtain ⟨x6, ex6⟩ : ∃ y : Int32, y = l2 + 1 := ⟨_, rfl⟩
            have hw := hw x6 ex6
            refine lv_iinc (v := x6) (lv' := [(2, .int x6), (0, .ref a0), (1, .ref a1), (3, .int l3), (4, .int l4)]) hx hb (qaa qi7 4 rfl) hl (k := 2) rfl (by rw [ex6]; rfl) (by decide) rfl (fun ls hl => ?_)
            refine lv_aload_n hx hb (qaa qi7 5 rfl) rfl (lv_at hl 1 rfl) ?_
            refine va_get (D := (dC, dI)) (ci := 9) (v := .ref jbU) (C := RX9) (T := TX9) (N := 12) hx hb hts qrQ hown hK hP 0 rfl rfl 0 (by decide) (hts _ q3w) (fun _ h9 => h9) rfl (qaa qi7 6 rfl) ?_
            refine lv_iload_n hx hb (qaa qi7 7 rfl) rfl (lv_at hl 3 rfl) ?_
            obtain ⟨hi9, hw⟩ := hw
            refine va_iald hx hb hK hP 1 1 rfl rfl hi9 (qaa qi7 8 rfl) ?_
            refine lv_topi (fun x7 ex7 => ?_)
            have hw := hw x7 ex7
            refine lv_iconst (v := 4) hx hb (qaa qi7 9 rfl) (by decide) ?_
            refine lv_icmp_ne (tgt := 86) hx hb (qaa qi7 10 rfl) (by decide) (fun c8 => ?_) (fun c8 => ?_)
            · have hw := hw.1 c8
              refine lv_aload_n hx hb (qaa qja 0 rfl) rfl (lv_at hl 1 rfl) ?_
              refine lv_iload_n hx hb (qaa qja 1 rfl) rfl (lv_at hl 3 rfl) ?_
              refine lv_aload_n hx hb (qaa qja 2 rfl) rfl (lv_at hl 2 rfl) ?_
              obtain ⟨hCc, hPc, hDc, hFc⟩ := qac (ws' := (qa3A a0 jbU jgF jgh jhq jme jlw jb7 jjF ja4 ja0 jiW jmI jbU cyI jdC a1 jjO jjP jjN jlL jjO cyI jkO jgF cyI jiX jgh cyI jiF jjN jjs jjt jky jkz jkA jlt jkd jkB jna jh5 jke jkF jjs cyI jkl jjt cyI jkm jlL jjM jjw jj7 jjL jka jjL cyI jkt jj7 cyI jkS jjM cyI jkx jjw cyI jkb jhq cyI jjg)) hP hD hS hA [0, 1, 2, 3, 4, 5, 6, 7, 8, 9, 10, 11, 12, 13, 14] (by decide +kernel) rfl
              refine va_calli (va_runV (As := [.int l3, .ref a1]) (rest := []) ⟨hx, hb, hml, hown, hts⟩ (qaAj l dC dI cyB cyI cyJ cyP a0 a1 jbU jjO jgF jgh jjN jjs jjt jlL jjL jj7 jjM jjw jhq H.size (jme) (.ref jlw) (.int jb7) (.int jjF) (ja4) (ja0) (.int jiW) (.int jmI) (jjP) (jky) (jkz) (jkA) (.ref jlt) (jkd) (jkB) (jna) (jke) (.int jkF) jdC jkO jiX jiF jh5 jkl jkm jka jkx jkb jjg jkt jkS l3 hw) (cwV 2 hts gX9_runOn_X9_isAllowed rfl rfl rfl (by decide +kernel) ⟨nbq rfl, nbq rfl⟩) ⟨qab, va_recv (q := (RX9, TX9, 12)) hK hPc (ci := 9) (q0 := 0) rfl rfl, qae hPc hK hDc hNw⟩ rfl rfl hl.1 rfl (lv_room (nbq rfl)) (qaa qja 3 rfl) ⟨nbq rfl, nbq rfl⟩) hS (fun q _ h => hFc q h) hFc (fun r11 u t H1 locs ht hvm hw hB hz1 hk1 hS => ?_)
              obtain ⟨f9, f10⟩ := u
              obtain ⟨hP1, hK1, hD1⟩ := hB
              rw [ht] at hP1
              obtain ⟨hP, hD⟩ := qad (wr := [(jlt, .inl (cyI, 6, .inl jl5)), (jlw, .inl (cyI, 6, .inl jmk))]) (w1 := (qa3A a0 jbU jgF jgh jhq jme jlw jb7 jjF ja4 ja0 jiW jmI jbU cyI jdC a1 jjO jjP jjN jlL jjO cyI jkO jgF cyI jiX jgh cyI jiF jjN jjs jjt jky jkz jkA jlt jkd jkB jna jh5 jke jkF jjs cyI jkl jjt cyI jkm jlL jjM jjw jj7 jjL jka jjL cyI f9 jj7 cyI f10 jjM cyI jkx jjw cyI jkb jhq cyI jjg)) (wn := (qoZ a0 jbU jgF jgh jhq jme jlw jb7 jjF ja4 ja0 jiW jmI jbU cyI jdC a1 jjO jjP jjN jlL jjO cyI jkO jgF cyI jiX jgh cyI jiF jjN jjs jjt jky jkz jkA jlt jkd jkB jna jh5 jke jkF jjs cyI jkl jjt cyI jkm jlL jjM jjw jj7 jjL jka jjL cyI f9 jj7 cyI f10 jjM cyI jkx jjw cyI jkb jhq cyI jjg jlt cyI jl5 jlw cyI jmk)) hP hD [0, 1, 2, 3, 4, 5, 6, 7, 8, 9, 10, 11, 12, 13, 14] [15, 16] [2, 3, 4, 5, 6, 7, 8, 9, 10, 11, 12, 13, 14, 15, 16, 0, 1] hCc rfl (by decide +kernel) (by decide +kernel) (by decide +kernel) rfl hk1 hFc hP1 hD1
              generalize H1 = H at hP hS ⊢
              refine lv_if_eq (tgt := 114) hx hb (qaa qja 4 rfl) (by decide) (fun c12 => ?_) (fun c12 => ?_)
              · have hw := hw.1 c12
                refine lv_aload_n hx hb (qaa qoa 0 rfl) rfl (lv_at hl 1 rfl) ?_
                refine lv_dup hx hb (qaa qoa 1 rfl) rfl ?_
                refine va_get (D := (dC, dI)) (ci := 9) (v := .int jmI) (C := RX9) (T := TX9) (N := 12) hx hb hts qrQ hown hK hP 0 rfl rfl 11 (by decide) (hts _ qMx) (fun _ h9 => h9) rfl (qaa qoa 2 rfl) ?_
                refine lv_iconst (v := 1) hx hb (qaa qoa 3 rfl) (by decide) ?_
                refine lv_iadd hx hb (qaa qoa 4 rfl) ?_
                refine lv_topi (fun x13 ex13 => ?_)
                have hw := hw x13 ex13
                refine va_put (D := (dC, dI)) (ci := 9) (v := .int x13) (ty := .int) (C := RX9) (T := TX9) (N := 12) hx hb hts qrQ tyX9 tyX9_ok nmX9 hown hK hP hD hS 0 rfl rfl 11 (by decide) (hts _ qMx) (fun _ h9 => h9) rfl (by decide +kernel) rfl rfl (nbq rfl) (qaa qoa 5 rfl) (fun H locs hP hD hS => ?_)
                have hP : va_P (dC, dI) vwCl (qoZ a0 jbU jgF jgh jhq jme jlw jb7 jjF ja4 ja0 jiW x13 jbU cyI jdC a1 jjO jjP jjN jlL jjO cyI jkO jgF cyI jiX jgh cyI jiF jjN jjs jjt jky jkz jkA jlt jkd jkB jna jh5 jke jkF jjs cyI jkl jjt cyI jkm jlL jjM jjw jj7 jjL jka jjL cyI f9 jj7 cyI f10 jjM cyI jkx jjw cyI jkb jhq cyI jjg jlt cyI jl5 jlw cyI jmk) H := hP
                have hD : va_D A (qoZ a0 jbU jgF jgh jhq jme jlw jb7 jjF ja4 ja0 jiW x13 jbU cyI jdC a1 jjO jjP jjN jlL jjO cyI jkO jgF cyI jiX jgh cyI jiF jjN jjs jjt jky jkz jkA jlt jkd jkB jna jh5 jke jkF jjs cyI jkl jjt cyI jkm jlL jjM jjw jj7 jjL jka jjL cyI f9 jj7 cyI f10 jjM cyI jkx jjw cyI jkb jhq cyI jjg jlt cyI jl5 jlw cyI jmk) := hD
                exact q3g dC dI cyB cyI cyJ cyP a0 a1 jbU jjO jgF jgh jjN jjs jjt jlL jjL jj7 jjM jjw jhq jlt jlw jme ja4 ja0 jjP jky jkz jkA jkd jkB jna jke jb7 jdC jiX jiF jh5 jkF jkl jkm jka jkx jkb jjg jl5 Q (qqB jb7 jdC jiX jiF jh5 jkF jkl jkm jka jkx jkb jjg jl5 Q n) ih C0 _ _ _ jiW x13 jjF f9 f10 jkO jmk x6 l3 l4 hP hD hS (lv_sub hl [1, 2, 0, 3, 4] rfl) hw
              · have hw := hw.2 c12
                refine lv_aload_n hx hb (qaa qja 5 rfl) rfl (lv_at hl 1 rfl) ?_
                refine lv_iload_n hx hb (qaa qja 6 rfl) rfl (lv_at hl 3 rfl) ?_
                refine lv_aload_n hx hb (qaa qja 7 rfl) rfl (lv_at hl 2 rfl) ?_
                obtain ⟨hCc, hPc, hDc, hFc⟩ := qac (ws' := (qa3U a0 jbU jgF jgh jhq jme jlw jb7 jjF ja4 ja0 jiW jmI jbU cyI jdC a1 jjO jjP jjN jlL jjN jjs jjt jky jkz jkA jlt jkd jkB jna jh5 jke jkF jjO cyI jkO jlt cyI jl5 jgF cyI jiX jgh cyI jiF jhq cyI jjg)) hP hD hS hA [0, 1, 2, 6, 3, 15, 4, 5, 14] (by decide +kernel) rfl
                refine va_callv (va_runV (As := [.int l3, .ref a1]) (rest := []) ⟨hx, hb, hml, hown, hts⟩ (qaWe l dC dI cyB cyI cyJ cyP a0 a1 jbU jjN jjO jlt jgF jgh jhq H.size (jme) (.ref jlw) (.int jb7) (.int jjF) (ja4) (ja0) (.int jiW) (.int jmI) (jjP) (.ref jlL) (.ref jjs) (.ref jjt) (jky) (jkz) (jkA) (jkd) (jkB) (jna) (jke) jdC jh5 jkF jl5 jiX jiF jjg jkO l3 hw) (cwV 2 hts gX9_runOn_X9_doStep rfl rfl rfl (by decide +kernel) ⟨nbq rfl, nbq rfl⟩) ⟨qab, va_recv (q := (RX9, TX9, 12)) hK hPc (ci := 9) (q0 := 0) rfl rfl, qae hPc hK hDc hNw⟩ rfl rfl hl.1 rfl (lv_room (nbq rfl)) (qaa qja 8 rfl) ⟨nbq rfl, nbq rfl⟩) hS (fun q _ h => hFc q h) hFc (fun u t H1 locs ht hvm hw hB hz1 hk1 hS => ?_)
                obtain ⟨f14, rfl⟩ : ∃ z, z = u := ⟨_, rfl⟩
                obtain ⟨hP1, hK1, hD1⟩ := hB
                rw [ht] at hP1
                obtain ⟨hP, hD⟩ := qad (wr := [(jjs, .inl (cyI, 8, .inl jkl)), (jjt, .inl (cyI, 8, .inl jkm)), (jlL, .inr (4, [.ref jjM, .ref jjw, .ref jj7, .ref jjL, .int jka])), (jjL, .inl (cyI, 8, .inl f9)), (jj7, .inl (cyI, 150, .inl f10)), (jjM, .inl (cyI, 150, .inl jkx)), (jjw, .inl (cyI, 150, .inl jkb)), (jlw, .inl (cyI, 6, .inl jmk))]) (w1 := (qa3U a0 jbU jgF jgh jhq jme jlw jb7 jjF ja4 ja0 jiW jmI jbU cyI jdC a1 jjO jjP jjN jlL jjN jjs jjt jky jkz jkA jlt jkd jkB jna jh5 jke jkF jjO cyI f14 jlt cyI jl5 jgF cyI jiX jgh cyI jiF jhq cyI jjg)) (wn := (qoZ a0 jbU jgF jgh jhq jme jlw jb7 jjF ja4 ja0 jiW jmI jbU cyI jdC a1 jjO jjP jjN jlL jjO cyI f14 jgF cyI jiX jgh cyI jiF jjN jjs jjt jky jkz jkA jlt jkd jkB jna jh5 jke jkF jjs cyI jkl jjt cyI jkm jlL jjM jjw jj7 jjL jka jjL cyI f9 jj7 cyI f10 jjM cyI jkx jjw cyI jkb jhq cyI jjg jlt cyI jl5 jlw cyI jmk)) hP hD [0, 1, 2, 6, 3, 15, 4, 5, 14] [7, 8, 9, 10, 11, 12, 13, 16] [8, 9, 10, 12, 14, 15, 11, 0, 1, 2, 3, 4, 5, 6, 16, 13, 7] hCc rfl (by decide +kernel) (by decide +kernel) (by decide +kernel) rfl hk1 hFc hP1 hD1
                generalize H1 = H at hP hS ⊢
                refine lv_aload_n hx hb (qaa qja 9 rfl) rfl (lv_at hl 1 rfl) ?_
                refine lv_dup hx hb (qaa qja 10 rfl) rfl ?_
                refine va_get (D := (dC, dI)) (ci := 9) (v := .int jiW) (C := RX9) (T := TX9) (N := 12) hx hb hts qrQ hown hK hP 0 rfl rfl 10 (by decide) (hts _ qQj) (fun _ h9 => h9) rfl (qaa qja 11 rfl) ?_
                refine lv_iconst (v := 1) hx hb (qaa qja 12 rfl) (by decide) ?_
                refine lv_iadd hx hb (qaa qja 13 rfl) ?_
                refine lv_topi (fun x15 ex15 => ?_)
                have hw := hw x15 ex15
                refine va_put (D := (dC, dI)) (ci := 9) (v := .int x15) (ty := .int) (C := RX9) (T := TX9) (N := 12) hx hb hts qrQ tyX9 tyX9_ok nmX9 hown hK hP hD hS 0 rfl rfl 10 (by decide) (hts _ qQj) (fun _ h9 => h9) rfl (by decide +kernel) rfl rfl (nbq rfl) (qaa qja 14 rfl) (fun H locs hP hD hS => ?_)
                have hP : va_P (dC, dI) vwCl (qoZ a0 jbU jgF jgh jhq jme jlw jb7 jjF ja4 ja0 x15 jmI jbU cyI jdC a1 jjO jjP jjN jlL jjO cyI f14 jgF cyI jiX jgh cyI jiF jjN jjs jjt jky jkz jkA jlt jkd jkB jna jh5 jke jkF jjs cyI jkl jjt cyI jkm jlL jjM jjw jj7 jjL jka jjL cyI f9 jj7 cyI f10 jjM cyI jkx jjw cyI jkb jhq cyI jjg jlt cyI jl5 jlw cyI jmk) H := hP
                have hD : va_D A (qoZ a0 jbU jgF jgh jhq jme jlw jb7 jjF ja4 ja0 x15 jmI jbU cyI jdC a1 jjO jjP jjN jlL jjO cyI f14 jgF cyI jiX jgh cyI jiF jjN jjs jjt jky jkz jkA jlt jkd jkB jna jh5 jke jkF jjs cyI jkl jjt cyI jkm jlL jjM jjw jj7 jjL jka jjL cyI f9 jj7 cyI f10 jjM cyI jkx jjw cyI jkb jhq cyI jjg jlt cyI jl5 jlw cyI jmk) := hD
                refine lv_goto (tgt := 124) hx hb (qaa qja 15 rfl) (by decide) ?_
                exact q3g dC dI cyB cyI cyJ cyP a0 a1 jbU jjO jgF jgh jjN jjs jjt jlL jjL jj7 jjM jjw jhq jlt jlw jme ja4 ja0 jjP jky jkz jkA jkd jkB jna jke jb7 jdC jiX jiF jh5 jkF jkl jkm jka jkx jkb jjg jl5 Q (qqB jb7 jdC jiX jiF jh5 jkF jkl jkm jka jkx jkb jjg jl5 Q n) ih C0 _ _ _ x15 jmI jjF f9 f10 f14 jmk x6 l3 l4 hP hD hS (lv_sub hl [1, 2, 0, 3, 4] rfl) hw
            · have hw := hw.2 c8
              refine lv_aload_n hx hb (qaa qi7 11 rfl) rfl (lv_at hl 1 rfl) ?_
              refine lv_iload_n hx hb (qaa qi7 12 rfl) rfl (lv_at hl 3 rfl) ?_
              obtain ⟨hCc, hPc, hDc, hFc⟩ := qac (ws' := (qa9v a0 jbU jgF jgh jhq jme jlw jb7 jjF ja4 ja0 jiW jmI jgF cyI jiX jlw cyI jmk jgh cyI jiF)) hP hD hS hA [0, 4, 16, 5] (by decide +kernel) rfl
              refine va_calli (va_runV (As := [.int l3]) (rest := []) ⟨hx, hb, hml, hown, hts⟩ (qaip l dC dI cyB cyI cyJ cyP a0 jgF jlw jgh H.size (.ref jbU) (.ref jhq) (jme) (.int jb7) (ja4) (ja0) (.int jiW) (.int jmI) jiX jiF jmk jjF l3 hw) (cwV 1 hts gX9_runOn_X9_behindAgain rfl rfl rfl (by decide +kernel) ⟨nbq rfl, nbq rfl⟩) ⟨qab, va_recv (q := (RX9, TX9, 12)) hK hPc (ci := 9) (q0 := 0) rfl rfl, qae hPc hK hDc hNw⟩ rfl rfl hl.1 rfl (lv_room (nbq rfl)) (qaa qi7 13 rfl) ⟨nbq rfl, nbq rfl⟩) hS (fun q _ h => hFc q h) hFc (fun r18 u t H1 locs ht hvm hw hB hz1 hk1 hS => ?_)
              obtain ⟨f16, x17⟩ := u
              obtain ⟨hP1, hK1, hD1⟩ := hB
              rw [ht] at hP1
              obtain ⟨hP, hD⟩ := qad (wr := [(jbU, .inl (cyI, 50, .inl jdC)), (a1, .inr (1, [.ref jjO, jjP, .ref jjN, .ref jlL])), (jjO, .inl (cyI, 64, .inl jkO)), (jjN, .inr (2, [.ref jjs, .ref jjt, jky, jkz, jkA, .ref jlt, jkd, jkB, jna, .int jh5, jke, .int jkF])), (jjs, .inl (cyI, 8, .inl jkl)), (jjt, .inl (cyI, 8, .inl jkm)), (jlL, .inr (4, [.ref jjM, .ref jjw, .ref jj7, .ref jjL, .int jka])), (jjL, .inl (cyI, 8, .inl jkt)), (jj7, .inl (cyI, 150, .inl jkS)), (jjM, .inl (cyI, 150, .inl jkx)), (jjw, .inl (cyI, 150, .inl jkb)), (jhq, .inl (cyI, 50, .inl jjg)), (jlt, .inl (cyI, 6, .inl jl5))]) (w1 := (qa9v a0 jbU jgF jgh jhq jme jlw jb7 x17 ja4 ja0 jiW jmI jgF cyI jiX jlw cyI f16 jgh cyI jiF)) (wn := (qoZ a0 jbU jgF jgh jhq jme jlw jb7 x17 ja4 ja0 jiW jmI jbU cyI jdC a1 jjO jjP jjN jlL jjO cyI jkO jgF cyI jiX jgh cyI jiF jjN jjs jjt jky jkz jkA jlt jkd jkB jna jh5 jke jkF jjs cyI jkl jjt cyI jkm jlL jjM jjw jj7 jjL jka jjL cyI jkt jj7 cyI jkS jjM cyI jkx jjw cyI jkb jhq cyI jjg jlt cyI jl5 jlw cyI f16)) hP hD [0, 4, 16, 5] [1, 2, 3, 6, 7, 8, 9, 10, 11, 12, 13, 14, 15] [13, 0, 1, 2, 14, 16, 3, 4, 5, 6, 7, 8, 9, 10, 11, 12, 15] hCc rfl (by decide +kernel) (by decide +kernel) (by decide +kernel) rfl hk1 hFc hP1 hD1
              generalize H1 = H at hP hS ⊢
              refine lv_istore_n (lv' := [(3, .int r18), (2, .int x6), (0, .ref a0), (1, .ref a1), (4, .int l4)]) hx hb (qaa qi7 14 rfl) rfl hl (by decide) rfl (fun ls hl => ?_)
              refine lv_goto (tgt := 127) hx hb (qaa qi7 15 rfl) (by decide) ?_
              exact qRs dC dI cyB cyI cyJ cyP a0 a1 jbU jjO jgF jgh jjN jjs jjt jlL jjL jj7 jjM jjw jhq jlt jlw jme ja4 ja0 jjP jky jkz jkA jkd jkB jna jke jb7 jdC jiX jiF jh5 jkF jkl jkm jka jkx jkb jjg jl5 Q (qqB jb7 jdC jiX jiF jh5 jkF jkl jkm jka jkx jkb jjg jl5 Q n) ih C0 _ _ _ jiW jmI x17 jkt jkS jkO f16 x6 r18 l4 hP hD hS (lv_sub hl [2, 3, 1, 0, 4] rfl) hw
          · have hw := hw.2 c5
            refine lv_aload_n hx hb (qaa qjy 15 rfl) rfl (lv_at hl 0 rfl) ?_
            refine lv_iload_n hx hb (qaa qi7 0 rfl) rfl (lv_at hl 3 rfl) ?_
            obtain ⟨hCc, hPc, hDc, hFc⟩ := qac (ws' := (qbaL a0 jbU jgF jgh jhq jme jlw jb7 jjF ja4 ja0 jiW jmI jlw cyI jmk jgF cyI jiX)) hP hD hS hA [0, 16, 4] (by decide +kernel) rfl
            refine va_calli (va_runV (As := [.int l3]) (rest := []) ⟨hx, hb, hml, hown, hts⟩ (qawO l dC dI cyB cyI cyJ cyP a0 jlw jgF H.size (.ref jbU) (.ref jgh) (.ref jhq) (jme) (.int jb7) (ja4) (ja0) (.int jiW) (.int jmI) jiX jmk jjF l3 hw) (cwV 1 hts gX9_runOn_X9_behindEnd rfl rfl rfl (by decide +kernel) ⟨nbq rfl, nbq rfl⟩) ⟨qab, va_recv (q := (RX9, TX9, 12)) hK hPc (ci := 9) (q0 := 0) rfl rfl, qae hPc hK hDc hNw⟩ rfl rfl hl.1 rfl (lv_room (nbq rfl)) (qaa qi7 1 rfl) ⟨nbq rfl, nbq rfl⟩) hS (fun q _ h => hFc q h) hFc (fun r21 u t H1 locs ht hvm hw hB hz1 hk1 hS => ?_)
            obtain ⟨f19, x20⟩ := u
            obtain ⟨hP1, hK1, hD1⟩ := hB
            rw [ht] at hP1
            obtain ⟨hP, hD⟩ := qad (wr := [(jbU, .inl (cyI, 50, .inl jdC)), (a1, .inr (1, [.ref jjO, jjP, .ref jjN, .ref jlL])), (jjO, .inl (cyI, 64, .inl jkO)), (jgh, .inl (cyI, 50, .inl jiF)), (jjN, .inr (2, [.ref jjs, .ref jjt, jky, jkz, jkA, .ref jlt, jkd, jkB, jna, .int jh5, jke, .int jkF])), (jjs, .inl (cyI, 8, .inl jkl)), (jjt, .inl (cyI, 8, .inl jkm)), (jlL, .inr (4, [.ref jjM, .ref jjw, .ref jj7, .ref jjL, .int jka])), (jjL, .inl (cyI, 8, .inl jkt)), (jj7, .inl (cyI, 150, .inl jkS)), (jjM, .inl (cyI, 150, .inl jkx)), (jjw, .inl (cyI, 150, .inl jkb)), (jhq, .inl (cyI, 50, .inl jjg)), (jlt, .inl (cyI, 6, .inl jl5))]) (w1 := (qbaL a0 jbU jgF jgh jhq jme jlw jb7 x20 ja4 ja0 jiW jmI jlw cyI f19 jgF cyI jiX)) (wn := (qoZ a0 jbU jgF jgh jhq jme jlw jb7 x20 ja4 ja0 jiW jmI jbU cyI jdC a1 jjO jjP jjN jlL jjO cyI jkO jgF cyI jiX jgh cyI jiF jjN jjs jjt jky jkz jkA jlt jkd jkB jna jh5 jke jkF jjs cyI jkl jjt cyI jkm jlL jjM jjw jj7 jjL jka jjL cyI jkt jj7 cyI jkS jjM cyI jkx jjw cyI jkb jhq cyI jjg jlt cyI jl5 jlw cyI f19)) hP hD [0, 16, 4] [1, 2, 3, 5, 6, 7, 8, 9, 10, 11, 12, 13, 14, 15] [14, 0, 1, 2, 16, 3, 4, 5, 6, 7, 8, 9, 10, 11, 12, 13, 15] hCc rfl (by decide +kernel) (by decide +kernel) (by decide +kernel) rfl hk1 hFc hP1 hD1
            generalize H1 = H at hP hS ⊢
            refine lv_istore_n (lv' := [(3, .int r21), (0, .ref a0), (1, .ref a1), (2, .int l2), (4, .int l4)]) hx hb (qaa qi7 2 rfl) rfl hl (by decide) rfl (fun ls hl => ?_)
            refine lv_goto (tgt := 127) hx hb (qaa qi7 3 rfl) (by decide) ?_
            exact qRs dC dI cyB cyI cyJ cyP a0 a1 jbU jjO jgF jgh jjN jjs jjt jlL jjL jj7 jjM jjw jhq jlt jlw jme ja4 ja0 jjP jky jkz jkA jkd jkB jna jke jb7 jdC jiX jiF jh5 jkF jkl jkm jka jkx jkb jjg jl5 Q (qqB jb7 jdC jiX jiF jh5 jkF jkl jkm jka jkx jkb jjg jl5 Q n) ih C0 _ _ _ jiW jmI x20 jkt jkS jkO f19 l2 r21 l4 hP hD hS (lv_sub hl [1, 2, 3, 0, 4] rfl) hw
set_option maxHeartbeats 4000000 in
set_option maxRecDepth 100000 in
theorem qaYR (l : Launch) (dC : Nat → ClassId) (dI : Nat → Nat → Nat) (cyB cyI cyJ cyP : ClassId) (a0 a1 jbU jjO jgF jgh jjN jjs jjt jlL jjL jj7 jjM jjw jhq jlt jlw sz : Nat) (jme ja4 ja0 jjP jky jkz jkA jkd jkB jna jke : Value) (jb7 : Int32) (jdC jiX jiF : NI) (jh5 jkF : Int32) (jkl jkm : NI) (jka : Int32) (jkx jkb jjg jl5 : NI) (jiW jmI jjF : Int32) (jkt jkS jkO jmk : NI) {Q : Int32 → Int32 → Int32 → NI → NI → NI → NI → Prop} (hw : qacn jb7 jdC jiX jiF jh5 jkF jkl jkm jka jkx jkb jjg jl5 jiW jmI jjF jkt jkS jkO jmk Q) : Met l yX9_runOn wsX9_runOn ({ frames := 6, cells := 0, slots := 0, locals := 129 }) (va_Pc [.ref a0, .ref a1] (cPc (dC, dI) (kT cyB cyI cyJ cyP) (qoZ a0 jbU jgF jgh jhq jme jlw jb7 jjF ja4 ja0 jiW jmI jbU cyI jdC a1 jjO jjP jjN jlL jjO cyI jkO jgF cyI jiX jgh cyI jiF jjN jjs jjt jky jkz jkA jlt jkd jkB jna jh5 jke jkF jjs cyI jkl jjt cyI jkm jlL jjM jjw jj7 jjL jka jjL cyI jkt jj7 cyI jkS jjM cyI jkx jjw cyI jkb jhq cyI jjg jlt cyI jl5 jlw cyI jmk) sz)) (va_Qv (fun (u : Int32 × Int32 × Int32 × NI × NI × NI × NI) => Q u.1 u.2.1 u.2.2.1 u.2.2.2.1 u.2.2.2.2.1 u.2.2.2.2.2.1 u.2.2.2.2.2.2) (cB (dC, dI) (kT cyB cyI cyJ cyP) (va_A (qoZ a0 jbU jgF jgh jhq jme jlw jb7 jjF ja4 ja0 jiW jmI jbU cyI jdC a1 jjO jjP jjN jlL jjO cyI jkO jgF cyI jiX jgh cyI jiF jjN jjs jjt jky jkz jkA jlt jkd jkB jna jh5 jke jkF jjs cyI jkl jjt cyI jkm jlL jjM jjw jj7 jjL jka jjL cyI jkt jj7 cyI jkS jjM cyI jkx jjw cyI jkb jhq cyI jjg jlt cyI jl5 jlw cyI jmk) sz) (fun u : Int32 × Int32 × Int32 × NI × NI × NI × NI => ((qoZ a0 jbU jgF jgh jhq jme jlw jb7 u.2.2.1 ja4 ja0 u.1 u.2.1 jbU cyI jdC a1 jjO jjP jjN jlL jjO cyI u.2.2.2.2.2.1 jgF cyI jiX jgh cyI jiF jjN jjs jjt jky jkz jkA jlt jkd jkB jna jh5 jke jkF jjs cyI jkl jjt cyI jkm jlL jjM jjw jj7 jjL jka jjL cyI u.2.2.2.1 jj7 cyI u.2.2.2.2.1 jjM cyI jkx jjw cyI jkb jhq cyI jjg jlt cyI jl5 jlw cyI u.2.2.2.2.2.2) : va_W))) (va_A (qoZ a0 jbU jgF jgh jhq jme jlw jb7 jjF ja4 ja0 jiW jmI jbU cyI jdC a1 jjO jjP jjN jlL jjO cyI jkO jgF cyI jiX jgh cyI jiF jjN jjs jjt jky jkz jkA jlt jkd jkB jna jh5 jke jkF jjs cyI jkl jjt cyI jkm jlL jjM jjw jj7 jjL jka jjL cyI jkt jj7 cyI jkS jjM cyI jkx jjw cyI jkb jhq cyI jjg jlt cyI jl5 jlw cyI jmk) sz)) 0 0 (va_A (qoZ a0 jbU jgF jgh jhq jme jlw jb7 jjF ja4 ja0 jiW jmI jbU cyI jdC a1 jjO jjP jjN jlL jjO cyI jkO jgF cyI jiX jgh cyI jiF jjN jjs jjt jky jkz jkA jlt jkd jkB jna jh5 jke jkF jjs cyI jkl jjt cyI jkm jlL jjM jjw jj7 jjL jka jjL cyI jkt jj7 cyI jkS jjM cyI jkx jjw cyI jkb jhq cyI jjg jlt cyI jl5 jlw cyI jmk) sz) := by
  refine Met.ofW (cc := cX9_runOn) (maxL := 5) (ret := none) (by decide) rfl ?_
  intro p e s m args below meth c s₁ B hml hv
  obtain ⟨rfl, hsz, hP, hK, hD0, hNw⟩ := hv
  have hx := B.exec
  have hb := B.bytes
  have hr := B.returns
  have hts := atoms_spec (ws := wsX9_runOn) B.pre
  have hown : s.vm.findClass RX9 = some m.cls := findClass_of_methodNamed B.named
  have hlocks := B.notSynchronized
  subst hsz
  have hD := hD0.self (sz := s.heap.size)
  generalize hAe : va_A (qoZ a0 jbU jgF jgh jhq jme jlw jb7 jjF ja4 ja0 jiW jmI jbU cyI jdC a1 jjO jjP jjN jlL jjO cyI jkO jgF cyI jiX jgh cyI jiF jjN jjs jjt jky jkz jkA jlt jkd jkB jna jh5 jke jkF jjs cyI jkl jjt cyI jkm jlL jjM jjw jj7 jjL jka jjL cyI jkt jj7 cyI jkS jjM cyI jkx jjw cyI jkb jhq cyI jjg jlt cyI jl5 jlw cyI jmk) s.heap.size = A at hD ⊢
  have hA : ∀ q : Nat, s.heap.size ≤ q → A q := fun q h => by rw [← hAe]; exact Or.inr h
  have hS : va_S A s.heap s.heap [] := va_S.rf
  have hP : va_P (dC, dI) vwCl (qoZ a0 jbU jgF jgh jhq jme jlw jb7 jjF ja4 ja0 jiW jmI jbU cyI jdC a1 jjO jjP jjN jlL jjO cyI jkO jgF cyI jiX jgh cyI jiF jjN jjs jjt jky jkz jkA jlt jkd jkB jna jh5 jke jkF jjs cyI jkl jjt cyI jkm jlL jjM jjw jj7 jjL jka jjL cyI jkt jj7 cyI jkS jjM cyI jkx jjw cyI jkb jhq cyI jjg jlt cyI jl5 jlw cyI jmk) s.heap := hP
  have hl := lv_entry ([.ref a0, .ref a1]) (n := 5) (nbq rfl)
  rw [lg_entry_eq]
  generalize (lg_sl ([.ref a0, .ref a1]) ++ List.replicate (5 - (lg_sl ([.ref a0, .ref a1])).length) Slot.unset).toArray = ls at hl ⊢
  have hl : lv_has ls 5 [(0, .ref a0), (1, .ref a1)] := hl
  have C0 : cfx p s m _ meth c cX9_runOn none wsX9_runOn RX9 5 A (dC, dI) (kT cyB cyI cyJ cyP) := ⟨hx, hb, hr, hts, hown, hlocks, hml, hA, hK, hNw⟩
  clear hAe
  obtain ⟨H, hH⟩ : ∃ H, H = s.heap := ⟨_, rfl⟩
  rw [← hH] at hP ⊢
  have hS : va_S A s.heap H [] := by rw [hH]; exact va_S.rf
  have hS := hS
  refine lv_aload_n hx hb (qaa qlo 0 rfl) rfl (lv_at hl 0 rfl) ?_
  refine lv_iconst (v := 0) hx hb (qaa qlo 1 rfl) (by decide) ?_
  refine va_put (D := (dC, dI)) (ci := 9) (v := .int 0) (ty := .int) (C := RX9) (T := TX9) (N := 12) hx hb hts qrQ tyX9 tyX9_ok nmX9 hown hK hP hD hS 0 rfl rfl 10 (by decide) (hts _ qQj) (fun _ h9 => h9) rfl (by decide +kernel) rfl rfl (nbq rfl) (qaa qlo 2 rfl) (fun H locs hP hD hS => ?_)
  have hP : va_P (dC, dI) vwCl (qoZ a0 jbU jgF jgh jhq jme jlw jb7 jjF ja4 ja0 0 jmI jbU cyI jdC a1 jjO jjP jjN jlL jjO cyI jkO jgF cyI jiX jgh cyI jiF jjN jjs jjt jky jkz jkA jlt jkd jkB jna jh5 jke jkF jjs cyI jkl jjt cyI jkm jlL jjM jjw jj7 jjL jka jjL cyI jkt jj7 cyI jkS jjM cyI jkx jjw cyI jkb jhq cyI jjg jlt cyI jl5 jlw cyI jmk) H := hP
  have hD : va_D A (qoZ a0 jbU jgF jgh jhq jme jlw jb7 jjF ja4 ja0 0 jmI jbU cyI jdC a1 jjO jjP jjN jlL jjO cyI jkO jgF cyI jiX jgh cyI jiF jjN jjs jjt jky jkz jkA jlt jkd jkB jna jh5 jke jkF jjs cyI jkl jjt cyI jkm jlL jjM jjw jj7 jjL jka jjL cyI jkt jj7 cyI jkS jjM cyI jkx jjw cyI jkb jhq cyI jjg jlt cyI jl5 jlw cyI jmk) := hD
  refine lv_aload_n hx hb (qaa qlo 3 rfl) rfl (lv_at hl 0 rfl) ?_
  refine lv_iconst (v := 0) hx hb (qaa qlo 4 rfl) (by decide) ?_
  refine va_put (D := (dC, dI)) (ci := 9) (v := .int 0) (ty := .int) (C := RX9) (T := TX9) (N := 12) hx hb hts qrQ tyX9 tyX9_ok nmX9 hown hK hP hD hS 0 rfl rfl 11 (by decide) (hts _ qMx) (fun _ h9 => h9) rfl (by decide +kernel) rfl rfl (nbq rfl) (qaa qlo 5 rfl) (fun H locs hP hD hS => ?_)
  have hP : va_P (dC, dI) vwCl (qoZ a0 jbU jgF jgh jhq jme jlw jb7 jjF ja4 ja0 0 0 jbU cyI jdC a1 jjO jjP jjN jlL jjO cyI jkO jgF cyI jiX jgh cyI jiF jjN jjs jjt jky jkz jkA jlt jkd jkB jna jh5 jke jkF jjs cyI jkl jjt cyI jkm jlL jjM jjw jj7 jjL jka jjL cyI jkt jj7 cyI jkS jjM cyI jkx jjw cyI jkb jhq cyI jjg jlt cyI jl5 jlw cyI jmk) H := hP
  have hD : va_D A (qoZ a0 jbU jgF jgh jhq jme jlw jb7 jjF ja4 ja0 0 0 jbU cyI jdC a1 jjO jjP jjN jlL jjO cyI jkO jgF cyI jiX jgh cyI jiF jjN jjs jjt jky jkz jkA jlt jkd jkB jna jh5 jke jkF jjs cyI jkl jjt cyI jkm jlL jjM jjw jj7 jjL jka jjL cyI jkt jj7 cyI jkS jjM cyI jkx jjw cyI jkb jhq cyI jjg jlt cyI jl5 jlw cyI jmk) := hD
  refine lv_aload_n hx hb (qaa qlo 6 rfl) rfl (lv_at hl 0 rfl) ?_
  refine lv_iconst (v := 0) hx hb (qaa qlo 7 rfl) (by decide) ?_
  refine va_put (D := (dC, dI)) (ci := 9) (v := .int 0) (ty := .int) (C := RX9) (T := TX9) (N := 12) hx hb hts qrQ tyX9 tyX9_ok nmX9 hown hK hP hD hS 0 rfl rfl 7 (by decide) (hts _ qax0) (fun _ h9 => h9) rfl (by decide +kernel) rfl rfl (nbq rfl) (qaa qlo 8 rfl) (fun H locs hP hD hS => ?_)
  have hP : va_P (dC, dI) vwCl (qoZ a0 jbU jgF jgh jhq jme jlw jb7 0 ja4 ja0 0 0 jbU cyI jdC a1 jjO jjP jjN jlL jjO cyI jkO jgF cyI jiX jgh cyI jiF jjN jjs jjt jky jkz jkA jlt jkd jkB jna jh5 jke jkF jjs cyI jkl jjt cyI jkm jlL jjM jjw jj7 jjL jka jjL cyI jkt jj7 cyI jkS jjM cyI jkx jjw cyI jkb jhq cyI jjg jlt cyI jl5 jlw cyI jmk) H := hP
  have hD : va_D A (qoZ a0 jbU jgF jgh jhq jme jlw jb7 0 ja4 ja0 0 0 jbU cyI jdC a1 jjO jjP jjN jlL jjO cyI jkO jgF cyI jiX jgh cyI jiF jjN jjs jjt jky jkz jkA jlt jkd jkB jna jh5 jke jkF jjs cyI jkl jjt cyI jkm jlL jjM jjw jj7 jjL jka jjL cyI jkt jj7 cyI jkS jjM cyI jkx jjw cyI jkb jhq cyI jjg jlt cyI jl5 jlw cyI jmk) := hD
  refine lv_iconst (v := 0) hx hb (qaa qlo 9 rfl) (by decide) ?_
  refine lv_istore_n (lv' := [(2, .int 0), (0, .ref a0), (1, .ref a1)]) hx hb (qaa qlo 10 rfl) rfl hl (by decide) rfl (fun ls hl => ?_)
  refine lv_iconst (v := 0) hx hb (qaa qlo 11 rfl) (by decide) ?_
  refine lv_istore_n (lv' := [(3, .int 0), (2, .int 0), (0, .ref a0), (1, .ref a1)]) hx hb (qaa qlo 12 rfl) rfl hl (by decide) rfl (fun ls hl => ?_)
  refine lv_iconst (v := 0) hx hb (qaa qlo 13 rfl) (by decide) ?_
  refine lv_istore (lv' := [(4, .int 0), (3, .int 0), (2, .int 0), (0, .ref a0), (1, .ref a1)]) hx hb (qaa qlo 14 rfl) hl (by decide) rfl (fun ls hl => ?_)
  obtain ⟨n9, hw⟩ := hw
  exact qaJR dC dI cyB cyI cyJ cyP a0 a1 jbU jjO jgF jgh jjN jjs jjt jlL jjL jj7 jjM jjw jhq jlt jlw jme ja4 ja0 jjP jky jkz jkA jkd jkB jna jke jb7 jdC jiX jiF jh5 jkF jkl jkm jka jkx jkb jjg jl5 Q C0 n9 _ _ _ 0 0 0 jkt jkS jkO jmk 0 0 0 hP hD hS (lv_sub hl [3, 4, 2, 1, 0] rfl) hw
theorem qNk : ∀ w ∈ u_ws RX10 TX10 19, w ∈ wsX10_would := uiM qxP qyN (by decide +kernel)
theorem qNh : (.fieldLink RX10 29 "MarchHares" "rule" "LMarchHares$Law;" : Cond) ∈ wsX10_would := qxP 65 (by decide +kernel)
set_option maxHeartbeats 4000000 in
set_option maxRecDepth 100000 in
theorem qaV6 (l : Launch) (dC : Nat → ClassId) (dI : Nat → Nat → Nat) (cyB cyI cyJ cyP : ClassId) (a0 jb6 jcc jcl jbW jbL sz : Nat) (jaK jfS ja1 jbc jbV ja3 jbH ja2 jbO jaq jac jbI jbl jbn jba jaa jbA : Value) (jdh : Int32) (jdN jdi : NI) (jbz : Int32) (jfl jfM : NI) (p1 p2 p3 p4 p5 p6 p7 p8 : Int32) {E : String → Int32 → NI → NI → Prop} {Q : Int32 → Int32 → NI → NI → Prop} (hw : q4m jdh jdN jdi jbz jfl jfM p1 p2 p3 p4 p5 p6 p7 p8 E Q) : vx_Met l yX10_would wsX10_would ({ frames := 8, cells := 8, slots := 48, locals := 164 }) (va_Pc [.ref a0, .int p1, .int p2, .int p3, .int p4, .int p5, .int p6, .int p7, .int p8] (cPx l (dC, dI) (kT cyB cyI cyJ cyP) (qqE a0 jaK jfS ja1 jb6 jbc jbV ja3 jbH ja2 jbO jaq jac jbI jbl jbn jba jaa jbA jbz jb6 jbW jbL jcl jcc jdh jcc cyI jfl jcl cyI jfM jbW cyI jdN jbL cyI jdi) sz)) (va_Qi (fun (r : Int32) (u : Int32 × NI × NI) => Q r u.1 u.2.1 u.2.2) (cB (dC, dI) (kT cyB cyI cyJ cyP) (va_A (qqE a0 jaK jfS ja1 jb6 jbc jbV ja3 jbH ja2 jbO jaq jac jbI jbl jbn jba jaa jbA jbz jb6 jbW jbL jcl jcc jdh jcc cyI jfl jcl cyI jfM jbW cyI jdN jbL cyI jdi) sz) (fun u : Int32 × NI × NI => ((qqE a0 jaK jfS ja1 jb6 jbc jbV ja3 jbH ja2 jbO jaq jac jbI jbl jbn jba jaa jbA u.1 jb6 jbW jbL jcl jcc jdh jcc cyI u.2.1 jcl cyI u.2.2 jbW cyI jdN jbL cyI jdi) : va_W))) (va_A (qqE a0 jaK jfS ja1 jb6 jbc jbV ja3 jbH ja2 jbO jaq jac jbI jbl jbn jba jaa jbA jbz jb6 jbW jbL jcl jcc jdh jcc cyI jfl jcl cyI jfM jbW cyI jdN jbL cyI jdi) sz)) (vx_X (fun _ => True) (fun (en : String) (u : Int32 × NI × NI) (t : State) => E en u.1 u.2.1 u.2.2 ∧ cB (dC, dI) (kT cyB cyI cyJ cyP) (va_A (qqE a0 jaK jfS ja1 jb6 jbc jbV ja3 jbH ja2 jbO jaq jac jbI jbl jbn jba jaa jbA jbz jb6 jbW jbL jcl jcc jdh jcc cyI jfl jcl cyI jfM jbW cyI jdN jbL cyI jdi) sz) (fun u : Int32 × NI × NI => ((qqE a0 jaK jfS ja1 jb6 jbc jbV ja3 jbH ja2 jbO jaq jac jbI jbl jbn jba jaa jbA u.1 jb6 jbW jbL jcl jcc jdh jcc cyI u.2.1 jcl cyI u.2.2 jbW cyI jdN jbL cyI jdi) : va_W)) u t) (va_A (qqE a0 jaK jfS ja1 jb6 jbc jbV ja3 jbH ja2 jbO jaq jac jbI jbl jbn jba jaa jbA jbz jb6 jbW jbL jcl jcc jdh jcc cyI jfl jcl cyI jfM jbW cyI jdN jbL cyI jdi) sz)) 8 48 (va_A (qqE a0 jaK jfS ja1 jb6 jbc jbV ja3 jbH ja2 jbO jaq jac jbI jbl jbn jba jaa jbA jbz jb6 jbW jbL jcl jcc jdh jcc cyI jfl jcl cyI jfM jbW cyI jdN jbL cyI jdi) sz) := by
  refine vx_ofW (cc := cX10_would) (maxL := 9) (ret := (some .int)) (by decide) rfl ?_
  intro p e s m args below meth c s₁ B hml hnt hv
  obtain ⟨rfl, hsz, hP, hK, hD0, hNw, hXl, hXu, hXn, hXt⟩ := hv
  have hx := B.exec
  have hb := B.bytes
  have hr := B.returns
  have hts := atoms_spec (ws := wsX10_would) B.pre
  have hown : s.vm.findClass RX10 = some m.cls := findClass_of_methodNamed B.named
  have hlocks := B.notSynchronized
  subst hsz
  have hD := hD0.self (sz := s.heap.size)
  generalize hAe : va_A (qqE a0 jaK jfS ja1 jb6 jbc jbV ja3 jbH ja2 jbO jaq jac jbI jbl jbn jba jaa jbA jbz jb6 jbW jbL jcl jcc jdh jcc cyI jfl jcl cyI jfM jbW cyI jdN jbL cyI jdi) s.heap.size = A at hD hXu hXn ⊢
  have hA : ∀ q : Nat, s.heap.size ≤ q → A q := fun q h => by rw [← hAe]; exact Or.inr h
  have hS : va_S A s.heap s.heap [] := va_S.rf
  have hP : va_P (dC, dI) vwCl (qqE a0 jaK jfS ja1 jb6 jbc jbV ja3 jbH ja2 jbO jaq jac jbI jbl jbn jba jaa jbA jbz jb6 jbW jbL jcl jcc jdh jcc cyI jfl jcl cyI jfM jbW cyI jdN jbL cyI jdi) s.heap := hP
  have hl := lv_entry ([.ref a0, .int p1, .int p2, .int p3, .int p4, .int p5, .int p6, .int p7, .int p8]) (n := 9) (nbq rfl)
  rw [lg_entry_eq]
  generalize (lg_sl ([.ref a0, .int p1, .int p2, .int p3, .int p4, .int p5, .int p6, .int p7, .int p8]) ++ List.replicate (9 - (lg_sl ([.ref a0, .int p1, .int p2, .int p3, .int p4, .int p5, .int p6, .int p7, .int p8])).length) Slot.unset).toArray = ls at hl ⊢
  have hl : lv_has ls 9 [(0, .ref a0), (1, .int p1), (2, .int p2), (3, .int p3), (4, .int p4), (5, .int p5), (6, .int p6), (7, .int p7), (8, .int p8)] := hl
  have hY : cfY l s A := ⟨hXl, hXu, hXn, hXt⟩
  have hXs : cfX l s c A := ⟨hnt, hY⟩
  have C0 : cfx p s m _ meth c cX10_would (some .int) wsX10_would RX10 9 A (dC, dI) (kT cyB cyI cyJ cyP) ∧ cfX l s c A := ⟨⟨hx, hb, hr, hts, hown, hlocks, hml, hA, hK, hNw⟩, hXs⟩
  clear hAe
  obtain ⟨H, hH⟩ : ∃ H, H = s.heap := ⟨_, rfl⟩
  rw [← hH] at hP ⊢
  have hS : va_S A s.heap H [] := by rw [hH]; exact va_S.rf
  have hS := hS
  refine lv_aload_n hx hb (qaa qjn 0 rfl) rfl (lv_at hl 0 rfl) ?_
  refine lv_iload_n hx hb (qaa qjn 1 rfl) rfl (lv_at hl 1 rfl) ?_
  refine lv_iconst (v := 0) hx hb (qaa qjn 2 rfl) (by decide) ?_
  refine lv_bipush (v := 9) hx hb (qaa qjn 3 rfl) (by decide) ?_
  obtain ⟨hCc, hPc, hDc, hFc⟩ := qac (ws' := (quy a0 jaK jfS ja1 jb6 jbc jbV ja3 jbH ja2 jbO jaq jac jbI jbl jbn jba jaa jbA jbz)) hP hD hS hA [0] (by decide +kernel) rfl
  refine vx_callv (vx_runV (As := [.int p1, .int 0, .int 9]) (rest := []) ⟨hx, hb, hml, hown, hts⟩ (qaV l dC dI cyB cyI cyJ cyP a0 H.size (jaK) (jfS) (ja1) (.ref jb6) (jbc) (jbV) (ja3) (jbH) (ja2) (jbO) (jaq) (jac) (jbI) (jbl) (jbn) (jba) (jaa) (jbA) jbz p1 0 9 hw) (cwV 3 hts gX10_would_X10_needWithin rfl rfl rfl (by decide +kernel) ⟨nbq rfl, nbq rfl⟩) ⟨qav, va_recv (q := (RX10, TX10, 19)) hK hPc (ci := 10) (q0 := 0) rfl rfl, qbl hPc hK hDc hNw hY hS hFc⟩ rfl rfl hl.1 rfl (lv_room (nbq rfl)) (qaa qjn 4 rfl) ⟨nbq rfl, nbq rfl⟩) hS (fun q _ h => hFc q h) hFc (fun q _ h => hFc q h) (fun en ce q9 u t H1 locs ht hvm hpx hB hz1 hk1 hS hc9 hv9 hcl9 => ?_) (fun u t H1 locs ht hvm hw hB hz1 hk1 hS => ?_)
  · obtain ⟨x1, rfl⟩ : ∃ z, z = u := ⟨_, rfl⟩
    obtain ⟨hw, hP1, hK1, hD1⟩ := hB
    rw [ht] at hP1
    obtain ⟨hP, hD⟩ := qad (wr := (qDK jb6 jbW jbL jcl jcc jdh jcc cyI jfl jcl cyI jfM jbW cyI jdN jbL cyI jdi)) (w1 := (quy a0 jaK jfS ja1 jb6 jbc jbV ja3 jbH ja2 jbO jaq jac jbI jbl jbn jba jaa jbA x1)) (wn := (qqE a0 jaK jfS ja1 jb6 jbc jbV ja3 jbH ja2 jbO jaq jac jbI jbl jbn jba jaa jbA x1 jb6 jbW jbL jcl jcc jdh jcc cyI jfl jcl cyI jfM jbW cyI jdN jbL cyI jdi)) hP hD [0] [1, 2, 3, 4, 5] [5, 0, 1, 2, 3, 4] hCc rfl (by decide +kernel) (by decide +kernel) (by decide +kernel) rfl hk1 hFc hP1 hD1
    generalize H1 = H at hP hS hc9 ⊢
    exact vx_out (fun x hx9 => (hXs.1 x hx9).elim) hlocks hc9 hv9 hcl9 (fun t2 ht2 hal2 => ⟨(x1, jfl, jfM), trivial, ⟨hw, by rw [ht2]; exact hP, va_K.moved hal2 hK, hD⟩, hS.F ht2⟩) hS.2.2 (nbq rfl) (nbq rfl)
  obtain ⟨x1, rfl⟩ : ∃ z, z = u := ⟨_, rfl⟩
  obtain ⟨hP1, hK1, hD1⟩ := hB
  rw [ht] at hP1
  obtain ⟨hP, hD⟩ := qad (wr := (qDK jb6 jbW jbL jcl jcc jdh jcc cyI jfl jcl cyI jfM jbW cyI jdN jbL cyI jdi)) (w1 := (quy a0 jaK jfS ja1 jb6 jbc jbV ja3 jbH ja2 jbO jaq jac jbI jbl jbn jba jaa jbA x1)) (wn := (qqE a0 jaK jfS ja1 jb6 jbc jbV ja3 jbH ja2 jbO jaq jac jbI jbl jbn jba jaa jbA x1 jb6 jbW jbL jcl jcc jdh jcc cyI jfl jcl cyI jfM jbW cyI jdN jbL cyI jdi)) hP hD [0] [1, 2, 3, 4, 5] [5, 0, 1, 2, 3, 4] hCc rfl (by decide +kernel) (by decide +kernel) (by decide +kernel) rfl hk1 hFc hP1 hD1
  generalize H1 = H at hP hS ⊢
  refine lv_aload_n hx hb (qaa qjn 5 rfl) rfl (lv_at hl 0 rfl) ?_
  refine lv_iload_n hx hb (qaa qjn 6 rfl) rfl (lv_at hl 2 rfl) ?_
  refine lv_iconst (v := 0) hx hb (qaa qjn 7 rfl) (by decide) ?_
  refine lv_sipush (v := 999) hx hb (qaa qjn 8 rfl) (by decide) ?_
  obtain ⟨hCc, hPc, hDc, hFc⟩ := qac (ws' := (quy a0 jaK jfS ja1 jb6 jbc jbV ja3 jbH ja2 jbO jaq jac jbI jbl jbn jba jaa jbA x1)) hP hD hS hA [0] (by decide +kernel) rfl
  refine vx_callv (vx_runV (As := [.int p2, .int 0, .int 999]) (rest := []) ⟨hx, hb, hml, hown, hts⟩ (qaV l dC dI cyB cyI cyJ cyP a0 H.size (jaK) (jfS) (ja1) (.ref jb6) (jbc) (jbV) (ja3) (jbH) (ja2) (jbO) (jaq) (jac) (jbI) (jbl) (jbn) (jba) (jaa) (jbA) x1 p2 0 999 hw) (cwV 3 hts gX10_would_X10_needWithin rfl rfl rfl (by decide +kernel) ⟨nbq rfl, nbq rfl⟩) ⟨qav, va_recv (q := (RX10, TX10, 19)) hK hPc (ci := 10) (q0 := 0) rfl rfl, qbl hPc hK hDc hNw hY hS hFc⟩ rfl rfl hl.1 rfl (lv_room (nbq rfl)) (qaa qjn 9 rfl) ⟨nbq rfl, nbq rfl⟩) hS (fun q _ h => hFc q h) hFc (fun q _ h => hFc q h) (fun en ce q9 u t H1 locs ht hvm hpx hB hz1 hk1 hS hc9 hv9 hcl9 => ?_) (fun u t H1 locs ht hvm hw hB hz1 hk1 hS => ?_)
  · obtain ⟨x2, rfl⟩ : ∃ z, z = u := ⟨_, rfl⟩
    obtain ⟨hw, hP1, hK1, hD1⟩ := hB
    rw [ht] at hP1
    obtain ⟨hP, hD⟩ := qad (wr := (qDK jb6 jbW jbL jcl jcc jdh jcc cyI jfl jcl cyI jfM jbW cyI jdN jbL cyI jdi)) (w1 := (quy a0 jaK jfS ja1 jb6 jbc jbV ja3 jbH ja2 jbO jaq jac jbI jbl jbn jba jaa jbA x2)) (wn := (qqE a0 jaK jfS ja1 jb6 jbc jbV ja3 jbH ja2 jbO jaq jac jbI jbl jbn jba jaa jbA x2 jb6 jbW jbL jcl jcc jdh jcc cyI jfl jcl cyI jfM jbW cyI jdN jbL cyI jdi)) hP hD [0] [1, 2, 3, 4, 5] [5, 0, 1, 2, 3, 4] hCc rfl (by decide +kernel) (by decide +kernel) (by decide +kernel) rfl hk1 hFc hP1 hD1
    generalize H1 = H at hP hS hc9 ⊢
    exact vx_out (fun x hx9 => (hXs.1 x hx9).elim) hlocks hc9 hv9 hcl9 (fun t2 ht2 hal2 => ⟨(x2, jfl, jfM), trivial, ⟨hw, by rw [ht2]; exact hP, va_K.moved hal2 hK, hD⟩, hS.F ht2⟩) hS.2.2 (nbq rfl) (nbq rfl)
  obtain ⟨x2, rfl⟩ : ∃ z, z = u := ⟨_, rfl⟩
  obtain ⟨hP1, hK1, hD1⟩ := hB
  rw [ht] at hP1
  obtain ⟨hP, hD⟩ := qad (wr := (qDK jb6 jbW jbL jcl jcc jdh jcc cyI jfl jcl cyI jfM jbW cyI jdN jbL cyI jdi)) (w1 := (quy a0 jaK jfS ja1 jb6 jbc jbV ja3 jbH ja2 jbO jaq jac jbI jbl jbn jba jaa jbA x2)) (wn := (qqE a0 jaK jfS ja1 jb6 jbc jbV ja3 jbH ja2 jbO jaq jac jbI jbl jbn jba jaa jbA x2 jb6 jbW jbL jcl jcc jdh jcc cyI jfl jcl cyI jfM jbW cyI jdN jbL cyI jdi)) hP hD [0] [1, 2, 3, 4, 5] [5, 0, 1, 2, 3, 4] hCc rfl (by decide +kernel) (by decide +kernel) (by decide +kernel) rfl hk1 hFc hP1 hD1
  generalize H1 = H at hP hS ⊢
  refine lv_aload_n hx hb (qaa qjn 10 rfl) rfl (lv_at hl 0 rfl) ?_
  refine lv_iload_n hx hb (qaa qjn 11 rfl) rfl (lv_at hl 3 rfl) ?_
  refine lv_iconst (v := 0) hx hb (qaa qjn 12 rfl) (by decide) ?_
  refine lv_sipush (v := 999) hx hb (qaa qjn 13 rfl) (by decide) ?_
  obtain ⟨hCc, hPc, hDc, hFc⟩ := qac (ws' := (quy a0 jaK jfS ja1 jb6 jbc jbV ja3 jbH ja2 jbO jaq jac jbI jbl jbn jba jaa jbA x2)) hP hD hS hA [0] (by decide +kernel) rfl
  refine vx_callv (vx_runV (As := [.int p3, .int 0, .int 999]) (rest := []) ⟨hx, hb, hml, hown, hts⟩ (qaV l dC dI cyB cyI cyJ cyP a0 H.size (jaK) (jfS) (ja1) (.ref jb6) (jbc) (jbV) (ja3) (jbH) (ja2) (jbO) (jaq) (jac) (jbI) (jbl) (jbn) (jba) (jaa) (jbA) x2 p3 0 999 hw) (cwV 3 hts gX10_would_X10_needWithin rfl rfl rfl (by decide +kernel) ⟨nbq rfl, nbq rfl⟩) ⟨qav, va_recv (q := (RX10, TX10, 19)) hK hPc (ci := 10) (q0 := 0) rfl rfl, qbl hPc hK hDc hNw hY hS hFc⟩ rfl rfl hl.1 rfl (lv_room (nbq rfl)) (qaa qjn 14 rfl) ⟨nbq rfl, nbq rfl⟩) hS (fun q _ h => hFc q h) hFc (fun q _ h => hFc q h) (fun en ce q9 u t H1 locs ht hvm hpx hB hz1 hk1 hS hc9 hv9 hcl9 => ?_) (fun u t H1 locs ht hvm hw hB hz1 hk1 hS => ?_)
  · obtain ⟨x3, rfl⟩ : ∃ z, z = u := ⟨_, rfl⟩
    obtain ⟨hw, hP1, hK1, hD1⟩ := hB
    rw [ht] at hP1
    obtain ⟨hP, hD⟩ := qad (wr := (qDK jb6 jbW jbL jcl jcc jdh jcc cyI jfl jcl cyI jfM jbW cyI jdN jbL cyI jdi)) (w1 := (quy a0 jaK jfS ja1 jb6 jbc jbV ja3 jbH ja2 jbO jaq jac jbI jbl jbn jba jaa jbA x3)) (wn := (qqE a0 jaK jfS ja1 jb6 jbc jbV ja3 jbH ja2 jbO jaq jac jbI jbl jbn jba jaa jbA x3 jb6 jbW jbL jcl jcc jdh jcc cyI jfl jcl cyI jfM jbW cyI jdN jbL cyI jdi)) hP hD [0] [1, 2, 3, 4, 5] [5, 0, 1, 2, 3, 4] hCc rfl (by decide +kernel) (by decide +kernel) (by decide +kernel) rfl hk1 hFc hP1 hD1
    generalize H1 = H at hP hS hc9 ⊢
    exact vx_out (fun x hx9 => (hXs.1 x hx9).elim) hlocks hc9 hv9 hcl9 (fun t2 ht2 hal2 => ⟨(x3, jfl, jfM), trivial, ⟨hw, by rw [ht2]; exact hP, va_K.moved hal2 hK, hD⟩, hS.F ht2⟩) hS.2.2 (nbq rfl) (nbq rfl)
  obtain ⟨x3, rfl⟩ : ∃ z, z = u := ⟨_, rfl⟩
  obtain ⟨hP1, hK1, hD1⟩ := hB
  rw [ht] at hP1
  obtain ⟨hP, hD⟩ := qad (wr := (qDK jb6 jbW jbL jcl jcc jdh jcc cyI jfl jcl cyI jfM jbW cyI jdN jbL cyI jdi)) (w1 := (quy a0 jaK jfS ja1 jb6 jbc jbV ja3 jbH ja2 jbO jaq jac jbI jbl jbn jba jaa jbA x3)) (wn := (qqE a0 jaK jfS ja1 jb6 jbc jbV ja3 jbH ja2 jbO jaq jac jbI jbl jbn jba jaa jbA x3 jb6 jbW jbL jcl jcc jdh jcc cyI jfl jcl cyI jfM jbW cyI jdN jbL cyI jdi)) hP hD [0] [1, 2, 3, 4, 5] [5, 0, 1, 2, 3, 4] hCc rfl (by decide +kernel) (by decide +kernel) (by decide +kernel) rfl hk1 hFc hP1 hD1
  generalize H1 = H at hP hS ⊢
  refine lv_aload_n hx hb (qaa qjn 15 rfl) rfl (lv_at hl 0 rfl) ?_
  refine lv_iload hx hb (qaa qhu 0 rfl) (lv_at hl 4 rfl) ?_
  refine lv_iconst (v := 0) hx hb (qaa qhu 1 rfl) (by decide) ?_
  refine lv_sipush (v := 999) hx hb (qaa qhu 2 rfl) (by decide) ?_
  obtain ⟨hCc, hPc, hDc, hFc⟩ := qac (ws' := (quy a0 jaK jfS ja1 jb6 jbc jbV ja3 jbH ja2 jbO jaq jac jbI jbl jbn jba jaa jbA x3)) hP hD hS hA [0] (by decide +kernel) rfl
  refine vx_callv (vx_runV (As := [.int p4, .int 0, .int 999]) (rest := []) ⟨hx, hb, hml, hown, hts⟩ (qaV l dC dI cyB cyI cyJ cyP a0 H.size (jaK) (jfS) (ja1) (.ref jb6) (jbc) (jbV) (ja3) (jbH) (ja2) (jbO) (jaq) (jac) (jbI) (jbl) (jbn) (jba) (jaa) (jbA) x3 p4 0 999 hw) (cwV 3 hts gX10_would_X10_needWithin rfl rfl rfl (by decide +kernel) ⟨nbq rfl, nbq rfl⟩) ⟨qav, va_recv (q := (RX10, TX10, 19)) hK hPc (ci := 10) (q0 := 0) rfl rfl, qbl hPc hK hDc hNw hY hS hFc⟩ rfl rfl hl.1 rfl (lv_room (nbq rfl)) (qaa qhu 3 rfl) ⟨nbq rfl, nbq rfl⟩) hS (fun q _ h => hFc q h) hFc (fun q _ h => hFc q h) (fun en ce q9 u t H1 locs ht hvm hpx hB hz1 hk1 hS hc9 hv9 hcl9 => ?_) (fun u t H1 locs ht hvm hw hB hz1 hk1 hS => ?_)
  · obtain ⟨x4, rfl⟩ : ∃ z, z = u := ⟨_, rfl⟩
    obtain ⟨hw, hP1, hK1, hD1⟩ := hB
    rw [ht] at hP1
    obtain ⟨hP, hD⟩ := qad (wr := (qDK jb6 jbW jbL jcl jcc jdh jcc cyI jfl jcl cyI jfM jbW cyI jdN jbL cyI jdi)) (w1 := (quy a0 jaK jfS ja1 jb6 jbc jbV ja3 jbH ja2 jbO jaq jac jbI jbl jbn jba jaa jbA x4)) (wn := (qqE a0 jaK jfS ja1 jb6 jbc jbV ja3 jbH ja2 jbO jaq jac jbI jbl jbn jba jaa jbA x4 jb6 jbW jbL jcl jcc jdh jcc cyI jfl jcl cyI jfM jbW cyI jdN jbL cyI jdi)) hP hD [0] [1, 2, 3, 4, 5] [5, 0, 1, 2, 3, 4] hCc rfl (by decide +kernel) (by decide +kernel) (by decide +kernel) rfl hk1 hFc hP1 hD1
    generalize H1 = H at hP hS hc9 ⊢
    exact vx_out (fun x hx9 => (hXs.1 x hx9).elim) hlocks hc9 hv9 hcl9 (fun t2 ht2 hal2 => ⟨(x4, jfl, jfM), trivial, ⟨hw, by rw [ht2]; exact hP, va_K.moved hal2 hK, hD⟩, hS.F ht2⟩) hS.2.2 (nbq rfl) (nbq rfl)
  obtain ⟨x4, rfl⟩ : ∃ z, z = u := ⟨_, rfl⟩
  obtain ⟨hP1, hK1, hD1⟩ := hB
  rw [ht] at hP1
  obtain ⟨hP, hD⟩ := qad (wr := (qDK jb6 jbW jbL jcl jcc jdh jcc cyI jfl jcl cyI jfM jbW cyI jdN jbL cyI jdi)) (w1 := (quy a0 jaK jfS ja1 jb6 jbc jbV ja3 jbH ja2 jbO jaq jac jbI jbl jbn jba jaa jbA x4)) (wn := (qqE a0 jaK jfS ja1 jb6 jbc jbV ja3 jbH ja2 jbO jaq jac jbI jbl jbn jba jaa jbA x4 jb6 jbW jbL jcl jcc jdh jcc cyI jfl jcl cyI jfM jbW cyI jdN jbL cyI jdi)) hP hD [0] [1, 2, 3, 4, 5] [5, 0, 1, 2, 3, 4] hCc rfl (by decide +kernel) (by decide +kernel) (by decide +kernel) rfl hk1 hFc hP1 hD1
  generalize H1 = H at hP hS ⊢
  refine lv_aload_n hx hb (qaa qhu 4 rfl) rfl (lv_at hl 0 rfl) ?_
  refine lv_iload hx hb (qaa qhu 5 rfl) (lv_at hl 5 rfl) ?_
  refine lv_iconst (v := 0) hx hb (qaa qhu 6 rfl) (by decide) ?_
  refine lv_iconst (v := 5) hx hb (qaa qhu 7 rfl) (by decide) ?_
  obtain ⟨hCc, hPc, hDc, hFc⟩ := qac (ws' := (quy a0 jaK jfS ja1 jb6 jbc jbV ja3 jbH ja2 jbO jaq jac jbI jbl jbn jba jaa jbA x4)) hP hD hS hA [0] (by decide +kernel) rfl
  refine vx_callv (vx_runV (As := [.int p5, .int 0, .int 5]) (rest := []) ⟨hx, hb, hml, hown, hts⟩ (qaV l dC dI cyB cyI cyJ cyP a0 H.size (jaK) (jfS) (ja1) (.ref jb6) (jbc) (jbV) (ja3) (jbH) (ja2) (jbO) (jaq) (jac) (jbI) (jbl) (jbn) (jba) (jaa) (jbA) x4 p5 0 5 hw) (cwV 3 hts gX10_would_X10_needWithin rfl rfl rfl (by decide +kernel) ⟨nbq rfl, nbq rfl⟩) ⟨qav, va_recv (q := (RX10, TX10, 19)) hK hPc (ci := 10) (q0 := 0) rfl rfl, qbl hPc hK hDc hNw hY hS hFc⟩ rfl rfl hl.1 rfl (lv_room (nbq rfl)) (qaa qhu 8 rfl) ⟨nbq rfl, nbq rfl⟩) hS (fun q _ h => hFc q h) hFc (fun q _ h => hFc q h) (fun en ce q9 u t H1 locs ht hvm hpx hB hz1 hk1 hS hc9 hv9 hcl9 => ?_) (fun u t H1 locs ht hvm hw hB hz1 hk1 hS => ?_)
  · obtain ⟨x5, rfl⟩ : ∃ z, z = u := ⟨_, rfl⟩
    obtain ⟨hw, hP1, hK1, hD1⟩ := hB
    rw [ht] at hP1
    obtain ⟨hP, hD⟩ := qad (wr := (qDK jb6 jbW jbL jcl jcc jdh jcc cyI jfl jcl cyI jfM jbW cyI jdN jbL cyI jdi)) (w1 := (quy a0 jaK jfS ja1 jb6 jbc jbV ja3 jbH ja2 jbO jaq jac jbI jbl jbn jba jaa jbA x5)) (wn := (qqE a0 jaK jfS ja1 jb6 jbc jbV ja3 jbH ja2 jbO jaq jac jbI jbl jbn jba jaa jbA x5 jb6 jbW jbL jcl jcc jdh jcc cyI jfl jcl cyI jfM jbW cyI jdN jbL cyI jdi)) hP hD [0] [1, 2, 3, 4, 5] [5, 0, 1, 2, 3, 4] hCc rfl (by decide +kernel) (by decide +kernel) (by decide +kernel) rfl hk1 hFc hP1 hD1
    generalize H1 = H at hP hS hc9 ⊢
    exact vx_out (fun x hx9 => (hXs.1 x hx9).elim) hlocks hc9 hv9 hcl9 (fun t2 ht2 hal2 => ⟨(x5, jfl, jfM), trivial, ⟨hw, by rw [ht2]; exact hP, va_K.moved hal2 hK, hD⟩, hS.F ht2⟩) hS.2.2 (nbq rfl) (nbq rfl)
  obtain ⟨x5, rfl⟩ : ∃ z, z = u := ⟨_, rfl⟩
  obtain ⟨hP1, hK1, hD1⟩ := hB
  rw [ht] at hP1
  obtain ⟨hP, hD⟩ := qad (wr := (qDK jb6 jbW jbL jcl jcc jdh jcc cyI jfl jcl cyI jfM jbW cyI jdN jbL cyI jdi)) (w1 := (quy a0 jaK jfS ja1 jb6 jbc jbV ja3 jbH ja2 jbO jaq jac jbI jbl jbn jba jaa jbA x5)) (wn := (qqE a0 jaK jfS ja1 jb6 jbc jbV ja3 jbH ja2 jbO jaq jac jbI jbl jbn jba jaa jbA x5 jb6 jbW jbL jcl jcc jdh jcc cyI jfl jcl cyI jfM jbW cyI jdN jbL cyI jdi)) hP hD [0] [1, 2, 3, 4, 5] [5, 0, 1, 2, 3, 4] hCc rfl (by decide +kernel) (by decide +kernel) (by decide +kernel) rfl hk1 hFc hP1 hD1
  generalize H1 = H at hP hS ⊢
  refine lv_aload_n hx hb (qaa qhu 9 rfl) rfl (lv_at hl 0 rfl) ?_
  refine lv_iload hx hb (qaa qhu 10 rfl) (lv_at hl 6 rfl) ?_
  refine lv_iconst (v := 1) hx hb (qaa qhu 11 rfl) (by decide) ?_
  refine lv_bipush (v := 31) hx hb (qaa qhu 12 rfl) (by decide) ?_
  obtain ⟨hCc, hPc, hDc, hFc⟩ := qac (ws' := (quy a0 jaK jfS ja1 jb6 jbc jbV ja3 jbH ja2 jbO jaq jac jbI jbl jbn jba jaa jbA x5)) hP hD hS hA [0] (by decide +kernel) rfl
  refine vx_callv (vx_runV (As := [.int p6, .int 1, .int 31]) (rest := []) ⟨hx, hb, hml, hown, hts⟩ (qaV l dC dI cyB cyI cyJ cyP a0 H.size (jaK) (jfS) (ja1) (.ref jb6) (jbc) (jbV) (ja3) (jbH) (ja2) (jbO) (jaq) (jac) (jbI) (jbl) (jbn) (jba) (jaa) (jbA) x5 p6 1 31 hw) (cwV 3 hts gX10_would_X10_needWithin rfl rfl rfl (by decide +kernel) ⟨nbq rfl, nbq rfl⟩) ⟨qav, va_recv (q := (RX10, TX10, 19)) hK hPc (ci := 10) (q0 := 0) rfl rfl, qbl hPc hK hDc hNw hY hS hFc⟩ rfl rfl hl.1 rfl (lv_room (nbq rfl)) (qaa qhu 13 rfl) ⟨nbq rfl, nbq rfl⟩) hS (fun q _ h => hFc q h) hFc (fun q _ h => hFc q h) (fun en ce q9 u t H1 locs ht hvm hpx hB hz1 hk1 hS hc9 hv9 hcl9 => ?_) (fun u t H1 locs ht hvm hw hB hz1 hk1 hS => ?_)
  · obtain ⟨x6, rfl⟩ : ∃ z, z = u := ⟨_, rfl⟩
    obtain ⟨hw, hP1, hK1, hD1⟩ := hB
    rw [ht] at hP1
    obtain ⟨hP, hD⟩ := qad (wr := (qDK jb6 jbW jbL jcl jcc jdh jcc cyI jfl jcl cyI jfM jbW cyI jdN jbL cyI jdi)) (w1 := (quy a0 jaK jfS ja1 jb6 jbc jbV ja3 jbH ja2 jbO jaq jac jbI jbl jbn jba jaa jbA x6)) (wn := (qqE a0 jaK jfS ja1 jb6 jbc jbV ja3 jbH ja2 jbO jaq jac jbI jbl jbn jba jaa jbA x6 jb6 jbW jbL jcl jcc jdh jcc cyI jfl jcl cyI jfM jbW cyI jdN jbL cyI jdi)) hP hD [0] [1, 2, 3, 4, 5] [5, 0, 1, 2, 3, 4] hCc rfl (by decide +kernel) (by decide +kernel) (by decide +kernel) rfl hk1 hFc hP1 hD1
    generalize H1 = H at hP hS hc9 ⊢
    exact vx_out (fun x hx9 => (hXs.1 x hx9).elim) hlocks hc9 hv9 hcl9 (fun t2 ht2 hal2 => ⟨(x6, jfl, jfM), trivial, ⟨hw, by rw [ht2]; exact hP, va_K.moved hal2 hK, hD⟩, hS.F ht2⟩) hS.2.2 (nbq rfl) (nbq rfl)
  obtain ⟨x6, rfl⟩ : ∃ z, z = u := ⟨_, rfl⟩
  obtain ⟨hP1, hK1, hD1⟩ := hB
  rw [ht] at hP1
  obtain ⟨hP, hD⟩ := qad (wr := (qDK jb6 jbW jbL jcl jcc jdh jcc cyI jfl jcl cyI jfM jbW cyI jdN jbL cyI jdi)) (w1 := (quy a0 jaK jfS ja1 jb6 jbc jbV ja3 jbH ja2 jbO jaq jac jbI jbl jbn jba jaa jbA x6)) (wn := (qqE a0 jaK jfS ja1 jb6 jbc jbV ja3 jbH ja2 jbO jaq jac jbI jbl jbn jba jaa jbA x6 jb6 jbW jbL jcl jcc jdh jcc cyI jfl jcl cyI jfM jbW cyI jdN jbL cyI jdi)) hP hD [0] [1, 2, 3, 4, 5] [5, 0, 1, 2, 3, 4] hCc rfl (by decide +kernel) (by decide +kernel) (by decide +kernel) rfl hk1 hFc hP1 hD1
  generalize H1 = H at hP hS ⊢
  refine lv_aload_n hx hb (qaa qhu 14 rfl) rfl (lv_at hl 0 rfl) ?_
  refine lv_iload hx hb (qaa qhu 15 rfl) (lv_at hl 7 rfl) ?_
  refine lv_iconst (v := 0) hx hb (qaa qhB 0 rfl) (by decide) ?_
  refine lv_iconst (v := 5) hx hb (qaa qhB 1 rfl) (by decide) ?_
  obtain ⟨hCc, hPc, hDc, hFc⟩ := qac (ws' := (quy a0 jaK jfS ja1 jb6 jbc jbV ja3 jbH ja2 jbO jaq jac jbI jbl jbn jba jaa jbA x6)) hP hD hS hA [0] (by decide +kernel) rfl
  refine vx_callv (vx_runV (As := [.int p7, .int 0, .int 5]) (rest := []) ⟨hx, hb, hml, hown, hts⟩ (qaV l dC dI cyB cyI cyJ cyP a0 H.size (jaK) (jfS) (ja1) (.ref jb6) (jbc) (jbV) (ja3) (jbH) (ja2) (jbO) (jaq) (jac) (jbI) (jbl) (jbn) (jba) (jaa) (jbA) x6 p7 0 5 hw) (cwV 3 hts gX10_would_X10_needWithin rfl rfl rfl (by decide +kernel) ⟨nbq rfl, nbq rfl⟩) ⟨qav, va_recv (q := (RX10, TX10, 19)) hK hPc (ci := 10) (q0 := 0) rfl rfl, qbl hPc hK hDc hNw hY hS hFc⟩ rfl rfl hl.1 rfl (lv_room (nbq rfl)) (qaa qhB 2 rfl) ⟨nbq rfl, nbq rfl⟩) hS (fun q _ h => hFc q h) hFc (fun q _ h => hFc q h) (fun en ce q9 u t H1 locs ht hvm hpx hB hz1 hk1 hS hc9 hv9 hcl9 => ?_) (fun u t H1 locs ht hvm hw hB hz1 hk1 hS => ?_)
  · obtain ⟨x7, rfl⟩ : ∃ z, z = u := ⟨_, rfl⟩
    obtain ⟨hw, hP1, hK1, hD1⟩ := hB
    rw [ht] at hP1
    obtain ⟨hP, hD⟩ := qad (wr := (qDK jb6 jbW jbL jcl jcc jdh jcc cyI jfl jcl cyI jfM jbW cyI jdN jbL cyI jdi)) (w1 := (quy a0 jaK jfS ja1 jb6 jbc jbV ja3 jbH ja2 jbO jaq jac jbI jbl jbn jba jaa jbA x7)) (wn := (qqE a0 jaK jfS ja1 jb6 jbc jbV ja3 jbH ja2 jbO jaq jac jbI jbl jbn jba jaa jbA x7 jb6 jbW jbL jcl jcc jdh jcc cyI jfl jcl cyI jfM jbW cyI jdN jbL cyI jdi)) hP hD [0] [1, 2, 3, 4, 5] [5, 0, 1, 2, 3, 4] hCc rfl (by decide +kernel) (by decide +kernel) (by decide +kernel) rfl hk1 hFc hP1 hD1
    generalize H1 = H at hP hS hc9 ⊢
    exact vx_out (fun x hx9 => (hXs.1 x hx9).elim) hlocks hc9 hv9 hcl9 (fun t2 ht2 hal2 => ⟨(x7, jfl, jfM), trivial, ⟨hw, by rw [ht2]; exact hP, va_K.moved hal2 hK, hD⟩, hS.F ht2⟩) hS.2.2 (nbq rfl) (nbq rfl)
  obtain ⟨x7, rfl⟩ : ∃ z, z = u := ⟨_, rfl⟩
  obtain ⟨hP1, hK1, hD1⟩ := hB
  rw [ht] at hP1
  obtain ⟨hP, hD⟩ := qad (wr := (qDK jb6 jbW jbL jcl jcc jdh jcc cyI jfl jcl cyI jfM jbW cyI jdN jbL cyI jdi)) (w1 := (quy a0 jaK jfS ja1 jb6 jbc jbV ja3 jbH ja2 jbO jaq jac jbI jbl jbn jba jaa jbA x7)) (wn := (qqE a0 jaK jfS ja1 jb6 jbc jbV ja3 jbH ja2 jbO jaq jac jbI jbl jbn jba jaa jbA x7 jb6 jbW jbL jcl jcc jdh jcc cyI jfl jcl cyI jfM jbW cyI jdN jbL cyI jdi)) hP hD [0] [1, 2, 3, 4, 5] [5, 0, 1, 2, 3, 4] hCc rfl (by decide +kernel) (by decide +kernel) (by decide +kernel) rfl hk1 hFc hP1 hD1
  generalize H1 = H at hP hS ⊢
  refine lv_aload_n hx hb (qaa qhB 3 rfl) rfl (lv_at hl 0 rfl) ?_
  refine lv_iload hx hb (qaa qhB 4 rfl) (lv_at hl 8 rfl) ?_
  refine lv_iconst (v := 0) hx hb (qaa qhB 5 rfl) (by decide) ?_
  refine lv_sipush (v := 999) hx hb (qaa qhB 6 rfl) (by decide) ?_
  obtain ⟨hCc, hPc, hDc, hFc⟩ := qac (ws' := (quy a0 jaK jfS ja1 jb6 jbc jbV ja3 jbH ja2 jbO jaq jac jbI jbl jbn jba jaa jbA x7)) hP hD hS hA [0] (by decide +kernel) rfl
  refine vx_callv (vx_runV (As := [.int p8, .int 0, .int 999]) (rest := []) ⟨hx, hb, hml, hown, hts⟩ (qaV l dC dI cyB cyI cyJ cyP a0 H.size (jaK) (jfS) (ja1) (.ref jb6) (jbc) (jbV) (ja3) (jbH) (ja2) (jbO) (jaq) (jac) (jbI) (jbl) (jbn) (jba) (jaa) (jbA) x7 p8 0 999 hw) (cwV 3 hts gX10_would_X10_needWithin rfl rfl rfl (by decide +kernel) ⟨nbq rfl, nbq rfl⟩) ⟨qav, va_recv (q := (RX10, TX10, 19)) hK hPc (ci := 10) (q0 := 0) rfl rfl, qbl hPc hK hDc hNw hY hS hFc⟩ rfl rfl hl.1 rfl (lv_room (nbq rfl)) (qaa qhB 7 rfl) ⟨nbq rfl, nbq rfl⟩) hS (fun q _ h => hFc q h) hFc (fun q _ h => hFc q h) (fun en ce q9 u t H1 locs ht hvm hpx hB hz1 hk1 hS hc9 hv9 hcl9 => ?_) (fun u t H1 locs ht hvm hw hB hz1 hk1 hS => ?_)
  · obtain ⟨x8, rfl⟩ : ∃ z, z = u := ⟨_, rfl⟩
    obtain ⟨hw, hP1, hK1, hD1⟩ := hB
    rw [ht] at hP1
    obtain ⟨hP, hD⟩ := qad (wr := (qDK jb6 jbW jbL jcl jcc jdh jcc cyI jfl jcl cyI jfM jbW cyI jdN jbL cyI jdi)) (w1 := (quy a0 jaK jfS ja1 jb6 jbc jbV ja3 jbH ja2 jbO jaq jac jbI jbl jbn jba jaa jbA x8)) (wn := (qqE a0 jaK jfS ja1 jb6 jbc jbV ja3 jbH ja2 jbO jaq jac jbI jbl jbn jba jaa jbA x8 jb6 jbW jbL jcl jcc jdh jcc cyI jfl jcl cyI jfM jbW cyI jdN jbL cyI jdi)) hP hD [0] [1, 2, 3, 4, 5] [5, 0, 1, 2, 3, 4] hCc rfl (by decide +kernel) (by decide +kernel) (by decide +kernel) rfl hk1 hFc hP1 hD1
    generalize H1 = H at hP hS hc9 ⊢
    exact vx_out (fun x hx9 => (hXs.1 x hx9).elim) hlocks hc9 hv9 hcl9 (fun t2 ht2 hal2 => ⟨(x8, jfl, jfM), trivial, ⟨hw, by rw [ht2]; exact hP, va_K.moved hal2 hK, hD⟩, hS.F ht2⟩) hS.2.2 (nbq rfl) (nbq rfl)
  obtain ⟨x8, rfl⟩ : ∃ z, z = u := ⟨_, rfl⟩
  obtain ⟨hP1, hK1, hD1⟩ := hB
  rw [ht] at hP1
  obtain ⟨hP, hD⟩ := qad (wr := (qDK jb6 jbW jbL jcl jcc jdh jcc cyI jfl jcl cyI jfM jbW cyI jdN jbL cyI jdi)) (w1 := (quy a0 jaK jfS ja1 jb6 jbc jbV ja3 jbH ja2 jbO jaq jac jbI jbl jbn jba jaa jbA x8)) (wn := (qqE a0 jaK jfS ja1 jb6 jbc jbV ja3 jbH ja2 jbO jaq jac jbI jbl jbn jba jaa jbA x8 jb6 jbW jbL jcl jcc jdh jcc cyI jfl jcl cyI jfM jbW cyI jdN jbL cyI jdi)) hP hD [0] [1, 2, 3, 4, 5] [5, 0, 1, 2, 3, 4] hCc rfl (by decide +kernel) (by decide +kernel) (by decide +kernel) rfl hk1 hFc hP1 hD1
  generalize H1 = H at hP hS ⊢
  refine lv_aload_n hx hb (qaa qhB 8 rfl) rfl (lv_at hl 0 rfl) ?_
  refine va_get (D := (dC, dI)) (ci := 10) (v := .ref jb6) (C := RX10) (T := TX10) (N := 19) hx hb hts qNk hown hK hP 0 rfl rfl 3 (by decide) (hts _ qNh) (fun _ h9 => h9) rfl (qaa qhB 9 rfl) ?_
  refine lv_iload_n hx hb (qaa qhB 10 rfl) rfl (lv_at hl 1 rfl) ?_
  refine lv_iload_n hx hb (qaa qhB 11 rfl) rfl (lv_at hl 2 rfl) ?_
  refine lv_iload_n hx hb (qaa qhB 12 rfl) rfl (lv_at hl 3 rfl) ?_
  refine lv_iload hx hb (qaa qhB 13 rfl) (lv_at hl 4 rfl) ?_
  refine lv_iload hx hb (qaa qhB 14 rfl) (lv_at hl 5 rfl) ?_
  obtain ⟨hCc, hPc, hDc, hFc⟩ := qac (ws' := (qaP0 jb6 jbW jbL jcl jcc jdh jcc cyI jfl)) hP hD hS hA [1, 2] (by decide +kernel) rfl
  refine va_callv (va_runV (As := [.int p1, .int p2, .int p3, .int p4, .int p5]) (rest := []) ⟨hx, hb, hml, hown, hts⟩ (q8k l dC dI cyB cyI cyJ cyP jb6 jcc H.size (.ref jbW) (.ref jbL) (.ref jcl) (.int jdh) jfl p1 p2 p3 p4 p5 hw) (cwV 5 hts gX10_would_X4_setFacts rfl rfl rfl (by decide +kernel) ⟨nbq rfl, nbq rfl⟩) ⟨qab, va_recv (q := (RX4, TX4, 5)) hK hPc (ci := 4) (q0 := 0) rfl rfl, qae hPc hK hDc hNw⟩ rfl rfl hl.1 rfl (lv_room (nbq rfl)) (qaa qhB 15 rfl) ⟨nbq rfl, nbq rfl⟩) hS (fun q _ h => hFc q h) hFc (fun u t H1 locs ht hvm hw hB hz1 hk1 hS => ?_)
  obtain ⟨f9, rfl⟩ : ∃ z, z = u := ⟨_, rfl⟩
  obtain ⟨hP1, hK1, hD1⟩ := hB
  rw [ht] at hP1
  obtain ⟨hP, hD⟩ := qad (wr := (qa54 a0 jaK jfS ja1 jb6 jbc jbV ja3 jbH ja2 jbO jaq jac jbI jbl jbn jba jaa jbA x8 jcl cyI jfM jbW cyI jdN jbL cyI jdi)) (w1 := (qaP0 jb6 jbW jbL jcl jcc jdh jcc cyI f9)) (wn := (qqE a0 jaK jfS ja1 jb6 jbc jbV ja3 jbH ja2 jbO jaq jac jbI jbl jbn jba jaa jbA x8 jb6 jbW jbL jcl jcc jdh jcc cyI f9 jcl cyI jfM jbW cyI jdN jbL cyI jdi)) hP hD [1, 2] [0, 3, 4, 5] [0, 4, 5, 1, 2, 3] hCc rfl (by decide +kernel) (by decide +kernel) (by decide +kernel) rfl hk1 hFc hP1 hD1
  generalize H1 = H at hP hS ⊢
  refine lv_aload_n hx hb (qaa qqD 0 rfl) rfl (lv_at hl 0 rfl) ?_
  refine va_get (D := (dC, dI)) (ci := 10) (v := .ref jb6) (C := RX10) (T := TX10) (N := 19) hx hb hts qNk hown hK hP 0 rfl rfl 3 (by decide) (hts _ qNh) (fun _ h9 => h9) rfl (qaa qqD 1 rfl) ?_
  refine lv_iload hx hb (qaa qqD 2 rfl) (lv_at hl 6 rfl) ?_
  refine lv_iload hx hb (qaa qqD 3 rfl) (lv_at hl 7 rfl) ?_
  refine lv_iload hx hb (qaa qqD 4 rfl) (lv_at hl 8 rfl) ?_
  obtain ⟨hCc, hPc, hDc, hFc⟩ := qac (ws' := (qaP0 jb6 jbW jbL jcl jcc jdh jcc cyI f9)) hP hD hS hA [1, 2] (by decide +kernel) rfl
  refine va_callv (va_runV (As := [.int p6, .int p7, .int p8]) (rest := []) ⟨hx, hb, hml, hown, hts⟩ (q7m l dC dI cyB cyI cyJ cyP jb6 jcc H.size (.ref jbW) (.ref jbL) (.ref jcl) (.int jdh) f9 p6 p7 p8 hw) (cwV 3 hts gX10_would_X4_setTimes rfl rfl rfl (by decide +kernel) ⟨nbq rfl, nbq rfl⟩) ⟨qab, va_recv (q := (RX4, TX4, 5)) hK hPc (ci := 4) (q0 := 0) rfl rfl, qae hPc hK hDc hNw⟩ rfl rfl hl.1 rfl (lv_room (nbq rfl)) (qaa qqD 5 rfl) ⟨nbq rfl, nbq rfl⟩) hS (fun q _ h => hFc q h) hFc (fun u t H1 locs ht hvm hw hB hz1 hk1 hS => ?_)
  obtain ⟨f10, rfl⟩ : ∃ z, z = u := ⟨_, rfl⟩
  obtain ⟨hP1, hK1, hD1⟩ := hB
  rw [ht] at hP1
  obtain ⟨hP, hD⟩ := qad (wr := (qa54 a0 jaK jfS ja1 jb6 jbc jbV ja3 jbH ja2 jbO jaq jac jbI jbl jbn jba jaa jbA x8 jcl cyI jfM jbW cyI jdN jbL cyI jdi)) (w1 := (qaP0 jb6 jbW jbL jcl jcc jdh jcc cyI f10)) (wn := (qqE a0 jaK jfS ja1 jb6 jbc jbV ja3 jbH ja2 jbO jaq jac jbI jbl jbn jba jaa jbA x8 jb6 jbW jbL jcl jcc jdh jcc cyI f10 jcl cyI jfM jbW cyI jdN jbL cyI jdi)) hP hD [1, 2] [0, 3, 4, 5] [0, 4, 5, 1, 2, 3] hCc rfl (by decide +kernel) (by decide +kernel) (by decide +kernel) rfl hk1 hFc hP1 hD1
  generalize H1 = H at hP hS ⊢
  refine lv_aload_n hx hb (qaa qqD 6 rfl) rfl (lv_at hl 0 rfl) ?_
  refine va_get (D := (dC, dI)) (ci := 10) (v := .ref jb6) (C := RX10) (T := TX10) (N := 19) hx hb hts qNk hown hK hP 0 rfl rfl 3 (by decide) (hts _ qNh) (fun _ h9 => h9) rfl (qaa qqD 7 rfl) ?_
  obtain ⟨hCc, hPc, hDc, hFc⟩ := qac (ws' := (qam1 jb6 jbW jbL jcl jcc jdh jcl cyI jfM jbW cyI jdN jbL cyI jdi jcc cyI f10)) hP hD hS hA [1, 3, 4, 5, 2] (by decide +kernel) rfl
  refine va_calli (va_runV (As := []) (rest := []) ⟨hx, hb, hml, hown, hts⟩ (qavk l dC dI cyB cyI cyJ cyP jb6 jcl jbW jcc jbL H.size jdh jdN jdi f10 jfM hw) (cwV 0 hts gX10_would_X4_reach rfl rfl rfl (by decide +kernel) ⟨nbq rfl, nbq rfl⟩) ⟨qab, va_recv (q := (RX4, TX4, 5)) hK hPc (ci := 4) (q0 := 0) rfl rfl, qae hPc hK hDc hNw⟩ rfl rfl hl.1 rfl (lv_room (nbq rfl)) (qaa qqD 8 rfl) ⟨nbq rfl, nbq rfl⟩) hS (fun q _ h => hFc q h) hFc (fun r12 u t H1 locs ht hvm hw hB hz1 hk1 hS => ?_)
  obtain ⟨f11, rfl⟩ : ∃ z, z = u := ⟨_, rfl⟩
  obtain ⟨hP1, hK1, hD1⟩ := hB
  rw [ht] at hP1
  obtain ⟨hP, hD⟩ := qad (wr := (quy a0 jaK jfS ja1 jb6 jbc jbV ja3 jbH ja2 jbO jaq jac jbI jbl jbn jba jaa jbA x8)) (w1 := (qam1 jb6 jbW jbL jcl jcc jdh jcl cyI f11 jbW cyI jdN jbL cyI jdi jcc cyI f10)) (wn := (qqE a0 jaK jfS ja1 jb6 jbc jbV ja3 jbH ja2 jbO jaq jac jbI jbl jbn jba jaa jbA x8 jb6 jbW jbL jcl jcc jdh jcc cyI f10 jcl cyI f11 jbW cyI jdN jbL cyI jdi)) hP hD [1, 3, 4, 5, 2] [0] [0, 1, 5, 2, 3, 4] hCc rfl (by decide +kernel) (by decide +kernel) (by decide +kernel) rfl hk1 hFc hP1 hD1
  generalize H1 = H at hP hS ⊢
  exact vx_ret (W.widen (k := 8) (n := 48) (nbq rfl) (nbq rfl) (W.iret (v := r12) hx hb hr (fun t ht hW => ⟨⟨r12, (x8, f10, f11), rfl, hw, by rw [ht]; exact hP, va_K.moved hW.alike hK, hD⟩, hS.F ht⟩) hS.2.2 (qaa qqD 9 rfl)))
theorem qaCT : (.classLink RL 13 "java/lang/IllegalArgumentException" : Cond) ∈ wsL_would := qaeu 595 (by decide +kernel)
theorem qaQB : (.codeWith yL_would cL_would 11 (some .int) [(0, 22, 25, 13)] : Cond) ∈ wsL_would := qaeu 2890 (by decide +kernel)
set_option maxHeartbeats 4000000 in
set_option maxRecDepth 100000 in
theorem qa2s (l : Launch) (dC : Nat → ClassId) (dI : Nat → Nat → Nat) (cyB cyI cyJ cyP : ClassId) (a0 a9 jb6 jcc jcl jbW jbL sz : Nat) (jaK jfS ja1 jbc jbV ja3 jbH ja2 jbO jaq jac jbI jbl jbn jba jaa jbA : Value) (n9 : Nat) (jdh : Int32) (jdN jdi : NI) (jbz : Int32) (jfl jfM : NI) (f9 : Nat → Int64) (p1 p2 p3 p4 p5 p6 p7 p8 : Int32) {Q : Int32 → Int32 → NI → NI → (Nat → Int64) → Prop} (hw : qaLq n9 jdh jdN jdi jbz jfl jfM f9 p1 p2 p3 p4 p5 p6 p7 p8 Q) : Met l yL_would wsL_would ({ frames := 9, cells := 8, slots := 48, locals := 192 }) (va_Pc [.ref a0, .int p1, .int p2, .int p3, .int p4, .int p5, .int p6, .int p7, .int p8, .ref a9] (cPx l (dC, dI) (kT cyB cyI cyJ cyP) (qM2 a0 jaK jfS ja1 jb6 jbc jbV ja3 jbH ja2 jbO jaq jac jbI jbl jbn jba jaa jbA jbz jb6 jbW jbL jcl jcc jdh jcc cyI jfl jcl cyI jfM jbW cyI jdN jbL cyI jdi a9 cyJ n9 f9) sz)) (va_Qi (fun (r : Int32) (u : Int32 × NI × NI × (Nat → Int64)) => Q r u.1 u.2.1 u.2.2.1 u.2.2.2) (cB (dC, dI) (kT cyB cyI cyJ cyP) (va_A (qM2 a0 jaK jfS ja1 jb6 jbc jbV ja3 jbH ja2 jbO jaq jac jbI jbl jbn jba jaa jbA jbz jb6 jbW jbL jcl jcc jdh jcc cyI jfl jcl cyI jfM jbW cyI jdN jbL cyI jdi a9 cyJ n9 f9) sz) (fun u : Int32 × NI × NI × (Nat → Int64) => ((qM2 a0 jaK jfS ja1 jb6 jbc jbV ja3 jbH ja2 jbO jaq jac jbI jbl jbn jba jaa jbA u.1 jb6 jbW jbL jcl jcc jdh jcc cyI u.2.1 jcl cyI u.2.2.1 jbW cyI jdN jbL cyI jdi a9 cyJ n9 u.2.2.2) : va_W))) (va_A (qM2 a0 jaK jfS ja1 jb6 jbc jbV ja3 jbH ja2 jbO jaq jac jbI jbl jbn jba jaa jbA jbz jb6 jbW jbL jcl jcc jdh jcc cyI jfl jcl cyI jfM jbW cyI jdN jbL cyI jdi a9 cyJ n9 f9) sz)) 8 48 (va_A (qM2 a0 jaK jfS ja1 jb6 jbc jbV ja3 jbH ja2 jbO jaq jac jbI jbl jbn jba jaa jbA jbz jb6 jbW jbL jcl jcc jdh jcc cyI jfl jcl cyI jfM jbW cyI jdN jbL cyI jdi a9 cyJ n9 f9) sz) := by
  refine va_MetW (cc := cL_would) (maxL := 11) (ret := (some .int)) (by decide) rfl ?_
  intro p e s m args below meth c s₁ B hml hv
  obtain ⟨rfl, hsz, hP, hK, hD0, hNw, hXl, hXu, hXn, hXt⟩ := hv
  have hx := B.exec
  have hb := B.bytes
  have hr := B.returns
  have hts := atoms_spec (ws := wsL_would) B.pre
  have hown : s.vm.findClass RL = some m.cls := findClass_of_methodNamed B.named
  have hlocks := B.notSynchronized
  subst hsz
  have hD := hD0.self (sz := s.heap.size)
  generalize hAe : va_A (qM2 a0 jaK jfS ja1 jb6 jbc jbV ja3 jbH ja2 jbO jaq jac jbI jbl jbn jba jaa jbA jbz jb6 jbW jbL jcl jcc jdh jcc cyI jfl jcl cyI jfM jbW cyI jdN jbL cyI jdi a9 cyJ n9 f9) s.heap.size = A at hD hXu hXn ⊢
  have hA : ∀ q : Nat, s.heap.size ≤ q → A q := fun q h => by rw [← hAe]; exact Or.inr h
  have hS : va_S A s.heap s.heap [] := va_S.rf
  have hP : va_P (dC, dI) vwCl (qM2 a0 jaK jfS ja1 jb6 jbc jbV ja3 jbH ja2 jbO jaq jac jbI jbl jbn jba jaa jbA jbz jb6 jbW jbL jcl jcc jdh jcc cyI jfl jcl cyI jfM jbW cyI jdN jbL cyI jdi a9 cyJ n9 f9) s.heap := hP
  have hl := lv_entry ([.ref a0, .int p1, .int p2, .int p3, .int p4, .int p5, .int p6, .int p7, .int p8, .ref a9]) (n := 11) (nbq rfl)
  rw [lg_entry_eq]
  generalize (lg_sl ([.ref a0, .int p1, .int p2, .int p3, .int p4, .int p5, .int p6, .int p7, .int p8, .ref a9]) ++ List.replicate (11 - (lg_sl ([.ref a0, .int p1, .int p2, .int p3, .int p4, .int p5, .int p6, .int p7, .int p8, .ref a9])).length) Slot.unset).toArray = ls at hl ⊢
  have hl : lv_has ls 11 [(0, .ref a0), (1, .int p1), (2, .int p2), (3, .int p3), (4, .int p4), (5, .int p5), (6, .int p6), (7, .int p7), (8, .int p8), (9, .ref a9)] := hl
  have hY : cfY l s A := ⟨hXl, hXu, hXn, hXt⟩
  have hTb := vx_table (x := yL_would) B (hts _ qaQB)
  clear hAe
  obtain ⟨H, hH⟩ : ∃ H, H = s.heap := ⟨_, rfl⟩
  rw [← hH] at hP ⊢
  have hS : va_S A s.heap H [] := by rw [hH]; exact va_S.rf
  have hS := hS
  refine lv_aload hx hb (qaa qoq 0 rfl) (lv_at hl 9 rfl) ?_
  refine lv_iconst (v := 0) hx hb (qaa qoq 1 rfl) (by decide) ?_
  refine lv_aload_n hx hb (qaa qoq 2 rfl) rfl (lv_at hl 0 rfl) ?_
  refine lv_iload_n hx hb (qaa qoq 3 rfl) rfl (lv_at hl 1 rfl) ?_
  refine lv_iload_n hx hb (qaa qoq 4 rfl) rfl (lv_at hl 2 rfl) ?_
  refine lv_iload_n hx hb (qaa qoq 5 rfl) rfl (lv_at hl 3 rfl) ?_
  refine lv_iload hx hb (qaa qoq 6 rfl) (lv_at hl 4 rfl) ?_
  refine lv_iload hx hb (qaa qoq 7 rfl) (lv_at hl 5 rfl) ?_
  refine lv_iload hx hb (qaa qoq 8 rfl) (lv_at hl 6 rfl) ?_
  refine lv_iload hx hb (qaa qoq 9 rfl) (lv_at hl 7 rfl) ?_
  refine lv_iload hx hb (qaa qoq 10 rfl) (lv_at hl 8 rfl) ?_
  obtain ⟨hCc, hPc, hDc, hFc⟩ := qac (ws' := (qqE a0 jaK jfS ja1 jb6 jbc jbV ja3 jbH ja2 jbO jaq jac jbI jbl jbn jba jaa jbA jbz jb6 jbW jbL jcl jcc jdh jcc cyI jfl jcl cyI jfM jbW cyI jdN jbL cyI jdi)) hP hD hS hA [0, 1, 2, 3, 4, 5] (by decide +kernel) rfl
  refine vx_calli (vx_runV (As := [.int p1, .int p2, .int p3, .int p4, .int p5, .int p6, .int p7, .int p8]) (rest := [.int 0, .ref a9]) ⟨hx, hb, hml, hown, hts⟩ (qaV6 l dC dI cyB cyI cyJ cyP a0 jb6 jcc jcl jbW jbL H.size (jaK) (jfS) (ja1) (jbc) (jbV) (ja3) (jbH) (ja2) (jbO) (jaq) (jac) (jbI) (jbl) (jbn) (jba) (jaa) (jbA) jdh jdN jdi jbz jfl jfM p1 p2 p3 p4 p5 p6 p7 p8 hw) (cwV 8 hts gL_would_X10_would rfl rfl rfl (by decide +kernel) ⟨nbq rfl, nbq rfl⟩) ⟨qav, va_recv (q := (RX10, TX10, 19)) hK hPc (ci := 10) (q0 := 0) rfl rfl, qbl hPc hK hDc hNw hY hS hFc⟩ rfl rfl hl.1 rfl (lv_room (nbq rfl)) (qaa qoq 11 rfl) ⟨nbq rfl, nbq rfl⟩) hS (fun q _ h => hFc q h) hFc (fun q _ h => hFc q h) (fun en ce qx9 u t H1 locs ht hvm hpx hB hz1 hk1 hS hc9 hv9 hcl9 => ?_) (fun r4 u t H1 locs ht hvm hw hB hz1 hk1 hS => ?_)
  · obtain ⟨x1, f2, f3⟩ := u
    obtain ⟨hw, hP1, hK1, hD1⟩ := hB
    rw [ht] at hP1
    obtain ⟨hP, hD⟩ := qad (wr := [(a9, .inl (cyJ, n9, .inr (.inl f9)))]) (w1 := (qqE a0 jaK jfS ja1 jb6 jbc jbV ja3 jbH ja2 jbO jaq jac jbI jbl jbn jba jaa jbA x1 jb6 jbW jbL jcl jcc jdh jcc cyI f2 jcl cyI f3 jbW cyI jdN jbL cyI jdi)) (wn := (qM2 a0 jaK jfS ja1 jb6 jbc jbV ja3 jbH ja2 jbO jaq jac jbI jbl jbn jba jaa jbA x1 jb6 jbW jbL jcl jcc jdh jcc cyI f2 jcl cyI f3 jbW cyI jdN jbL cyI jdi a9 cyJ n9 f9)) hP hD [0, 1, 2, 3, 4, 5] [6] [1, 2, 3, 4, 5, 6, 0] hCc rfl (by decide +kernel) (by decide +kernel) (by decide +kernel) rfl hk1 hFc hP1 hD1
    generalize H1 = H at hP hS hc9 ⊢
    obtain ⟨rfl, hw⟩ := hw
    refine vx_catch (own := RL) (name := "java/lang/IllegalArgumentException") hown [] ⟨0, 22, 25, 13⟩ [] (hTb.trans rfl) (fun z hz => nomatch hz) (by decide) (by decide) (hts _ qaCT) (va_Nw.use rfl (hY.2.2.2.1.2 _ (List.mem_of_getElem? (i := 0) rfl))) hc9 hv9 hcl9 ?_
    refine lv_astore (lv' := [(10, .ref qx9), (0, .ref a0), (1, .int p1), (2, .int p2), (3, .int p3), (4, .int p4), (5, .int p5), (6, .int p6), (7, .int p7), (8, .int p8), (9, .ref a9)]) hx hb (qaa qoq 15 rfl) hl (by decide) rfl (fun ls hl => ?_)
    refine lv_iconst (v := 1) hx hb (qaa qNY 0 rfl) (by decide) ?_
    exact (W.widen (k := 8) (n := 48) (nbq rfl) (nbq rfl) (W.iret (v := 1) hx hb hr (fun t ht hW => ⟨⟨1, (x1, f2, f3, f9), rfl, hw, by rw [ht]; exact hP, va_K.moved hW.alike hK, hD⟩, hS.F ht⟩) hS.2.2 (qaa qNY 1 rfl)))
  obtain ⟨x1, f2, f3⟩ := u
  obtain ⟨hP1, hK1, hD1⟩ := hB
  rw [ht] at hP1
  obtain ⟨hP, hD⟩ := va_join (wr := [(a9, .inl (cyJ, n9, .inr (.inl f9)))]) (w1 := (qqE a0 jaK jfS ja1 jb6 jbc jbV ja3 jbH ja2 jbO jaq jac jbI jbl jbn jba jaa jbA x1 jb6 jbW jbL jcl jcc jdh jcc cyI f2 jcl cyI f3 jbW cyI jdN jbL cyI jdi)) hP hD [0, 1, 2, 3, 4, 5] [6] rfl rfl (by decide) (by decide) hk1 hFc hP1 hD1
  have hP : va_P (dC, dI) vwCl (qM2 a0 jaK jfS ja1 jb6 jbc jbV ja3 jbH ja2 jbO jaq jac jbI jbl jbn jba jaa jbA x1 jb6 jbW jbL jcl jcc jdh jcc cyI f2 jcl cyI f3 jbW cyI jdN jbL cyI jdi a9 cyJ n9 f9) H1 := hP.sub [1, 2, 3, 4, 5, 6, 0] rfl
  have hD : va_D A (qM2 a0 jaK jfS ja1 jb6 jbc jbV ja3 jbH ja2 jbO jaq jac jbI jbl jbn jba jaa jbA x1 jb6 jbW jbL jcl jcc jdh jcc cyI f2 jcl cyI f3 jbW cyI jdN jbL cyI jdi a9 cyJ n9 f9) := hD.sub [1, 2, 3, 4, 5, 6, 0] (by decide) rfl
  generalize H1 = H at hP hS ⊢
  refine lv_i2l (v := r4.toInt64) hx hb (qaa qoq 12 rfl) rfl ?_
  refine lv_topl (fun x5 ex5 => ?_)
  have hw := hw x5 ex5
  obtain ⟨hi9, hw⟩ := hw
  refine va_last hx hb hK hP hD hS 6 2 rfl rfl hi9 (qaa qoq 13 rfl) (fun H locs hP hD hS => ?_)
  obtain ⟨f6, ef6⟩ : ∃ y : Nat → Int64, y = vp_updL f9 (0 : Int32).toNatClampNeg x5 := ⟨_, rfl⟩
  have hw := hw f6 ef6
  have hP : va_P (dC, dI) vwCl (qM2 a0 jaK jfS ja1 jb6 jbc jbV ja3 jbH ja2 jbO jaq jac jbI jbl jbn jba jaa jbA x1 jb6 jbW jbL jcl jcc jdh jcc cyI f2 jcl cyI f3 jbW cyI jdN jbL cyI jdi a9 cyJ n9 f6) H := by rw [ef6]; exact hP
  have hD : va_D A (qM2 a0 jaK jfS ja1 jb6 jbc jbV ja3 jbH ja2 jbO jaq jac jbI jbl jbn jba jaa jbA x1 jb6 jbW jbL jcl jcc jdh jcc cyI f2 jcl cyI f3 jbW cyI jdN jbL cyI jdi a9 cyJ n9 f6) := by rw [ef6]; exact hD
  refine lv_goto (tgt := 29) hx hb (qaa qoq 14 rfl) (by decide) ?_
  refine lv_iconst (v := 0) hx hb (qaa qNY 2 rfl) (by decide) ?_
  exact (W.widen (k := 8) (n := 48) (nbq rfl) (nbq rfl) (W.iret (v := 0) hx hb hr (fun t ht hW => ⟨⟨0, (x1, f2, f3, f6), rfl, hw, by rw [ht]; exact hP, va_K.moved hW.alike hK, hD⟩, hS.F ht⟩) hS.2.2 (qaa qNY 3 rfl)))
theorem qaSu : ∀ w ∈ u_ws RX0 TX0 2, w ∈ wsX0_init := uiM qLA euX0 (by decide +kernel)
theorem qaoV : (.arrayClass .int : Cond) ∈ wsX0_init := qLA 147 (by decide +kernel)
theorem qaz9 : (.code objectInit ⟨#[0xb1]⟩ 1 none : Cond) ∈ wsX0_init := qLA 12 (by decide +kernel)
theorem qaP2 : (.fieldLink RX0 9 "MarchHares$Book" "seen" "[I" : Cond) ∈ wsX0_init := qLA 257 (by decide +kernel)
theorem qatt : (.instanceMethod objectInit : Cond) ∈ wsX0_init := qLA 11 (by decide +kernel)
theorem qaQO : (.methodLink RX0 3 objectInit : Cond) ∈ wsX0_init := qLA 256 (by decide +kernel)
set_option maxHeartbeats 4000000 in
set_option maxRecDepth 100000 in
theorem qaMn (l : Launch) (dC : Nat → ClassId) (dI : Nat → Nat → Nat) (cyB cyI cyJ cyP : ClassId) (a0 sz : Nat) {Q : Int32 → NI → Prop} (hw : qanx Q) : Met l yX0_init wsX0_init ({ frames := 1, cells := 1, slots := 8, locals := 24 }) (va_Pc [.ref a0] (cPc (dC, dI) (kT cyB cyI cyJ cyP) [(a0, .inr (0, [.null, .int 0]))] sz)) (va_Qv (fun (u : (Nat → Nat) × (Int32) × NI) => Q u.2.1 u.2.2) (cB (dC, dI) (kT cyB cyI cyJ cyP) (va_A [(a0, .inr (0, [.null, .int 0]))] sz) (fun u : (Nat → Nat) × (Int32) × NI => ((qaks a0 (u.1 0) u.2.1 (u.1 0) cyI u.2.2) : va_W))) (va_A [(a0, .inr (0, [.null, .int 0]))] sz)) 1 8 (va_A [(a0, .inr (0, [.null, .int 0]))] sz) := by
  refine Met.ofW (cc := cX0_init) (maxL := 1) (ret := none) (by decide) rfl ?_
  intro p e s m args below meth c s₁ B hml hv
  obtain ⟨rfl, hsz, hP, hK, hD0, hNw⟩ := hv
  have hx := B.exec
  have hb := B.bytes
  have hr := B.returns
  have hts := atoms_spec (ws := wsX0_init) B.pre
  have hown : s.vm.findClass RX0 = some m.cls := findClass_of_methodNamed B.named
  have hlocks := B.notSynchronized
  have hin : meth.name = "<init>" := (name_of_methodNamed B.named B.method).1
  subst hsz
  have hD := hD0.self (sz := s.heap.size)
  generalize hAe : va_A [(a0, .inr (0, [.null, .int 0]))] s.heap.size = A at hD ⊢
  have hA : ∀ q : Nat, s.heap.size ≤ q → A q := fun q h => by rw [← hAe]; exact Or.inr h
  have hS : va_S A s.heap s.heap [] := va_S.rf
  have hP : va_P (dC, dI) vwCl [(a0, .inr (0, [.null, .int 0]))] s.heap := hP
  have hl := lv_entry ([.ref a0]) (n := 1) (nbq rfl)
  rw [lg_entry_eq]
  generalize (lg_sl ([.ref a0]) ++ List.replicate (1 - (lg_sl ([.ref a0])).length) Slot.unset).toArray = ls at hl ⊢
  have hl : lv_has ls 1 [(0, .ref a0)] := hl
  clear hAe
  obtain ⟨H, hH⟩ : ∃ H, H = s.heap := ⟨_, rfl⟩
  rw [← hH] at hP ⊢
  have hS : va_S A s.heap H [] := by rw [hH]; exact va_S.rf
  refine lv_aload_n hx hb (qaa qSN 0 rfl) rfl (lv_at hl 0 rfl) ?_
  refine W.objInit hx hb hown (hts _ qaQO) (hts _ qatt) (hts _ qaz9) rfl (by rw [hml]; exact hl.1) rfl (qaa qSN 1 rfl) (nbq rfl) (nbq rfl) ?_
  refine W.eq (g2 := F0 m 4 ls []) rfl ?_
  refine lv_aload_n hx hb (qaa qSN 2 rfl) rfl (lv_at hl 0 rfl) ?_
  refine lv_bipush (v := 8) hx hb (qaa qSN 3 rfl) (by decide) ?_
  refine va_newa (atype := .int) (ty := .int) (N' := 8) (a0 := (8, .inl (fun _ => 0))) hx hb (hts _ qaoV) rfl hK hP hD hS hA (fun _ => rfl) (by decide) (by decide) (by decide) (nbq rfl) (nbq rfl) dX0_init_7 (fun jjj cA9 H hK9 hP hD hS => ?_)
  obtain rfl := qk2 hK9
  have hP : va_P (dC, dI) vwCl (qa7l a0 0 jjj cyI (fun _ => 0)) H := hP
  have hD : va_D A (qa7l a0 0 jjj cyI (fun _ => 0)) := hD
  refine va_putF (D := (dC, dI)) (ci := 0) (v := .ref jjj) (ty := .array .int) (C := RX0) (T := TX0) (N := 2) hx hb hts qaSu tyX0 tyX0_ok nmX0 hown hK hP hD hS 0 rfl rfl 0 (by decide) (hts _ qaP2) (fun _ h9 => h9) rfl hin rfl (by decide +kernel) rfl rfl (nbq rfl) (qaa qSY 0 rfl) (fun H locs hP hD hS => ?_)
  have hP : va_P (dC, dI) vwCl (qaks a0 jjj 0 jjj cyI (fun _ => 0)) H := hP
  have hD : va_D A (qaks a0 jjj 0 jjj cyI (fun _ => 0)) := hD
  refine lv_aload_n hx hb (qaa qSY 1 rfl) rfl (lv_at hl 0 rfl) ?_
  obtain ⟨hCc, hPc, hDc, hFc⟩ := qac (ws' := (qaks a0 jjj 0 jjj cyI (fun _ => 0))) hP hD hS hA [0, 1] (by decide +kernel) rfl
  refine va_callv (va_runV (As := []) (rest := []) ⟨hx, hb, hml, hown, hts⟩ (q9A l dC dI cyB cyI cyJ cyP a0 jjj H.size 0 (fun _ => 0) hw) (cwV 0 hts gX0_init_X0_clear rfl rfl rfl (by decide +kernel) ⟨nbq rfl, nbq rfl⟩) ⟨qab, va_recv (q := (RX0, TX0, 2)) hK hPc (ci := 0) (q0 := 0) rfl rfl, qae hPc hK hDc hNw⟩ rfl rfl hl.1 rfl (lv_room (nbq rfl)) (qaa qSY 2 rfl) ⟨nbq rfl, nbq rfl⟩) hS (fun q _ h => hFc q h) hFc (fun u t H1 locs ht hvm hw hB hz1 hk1 hS => ?_)
  obtain ⟨x1, f2⟩ := u
  obtain ⟨hP1, hK1, hD1⟩ := hB
  rw [ht] at hP1
  obtain ⟨hP, hD⟩ := qah (wr := []) (w1 := (qaks a0 jjj x1 jjj cyI f2)) (wn := (qaks a0 jjj x1 jjj cyI f2)) hP hD [0, 1] [] hCc rfl (by decide +kernel) (by decide +kernel) rfl hk1 hFc hP1 hD1
  generalize H1 = H at hP hS ⊢
  exact (W.widen (k := 1) (n := 8) (nbq rfl) (nbq rfl) (W.vret hx hb hr (fun t ht hW => ⟨⟨((adr [jjj]), x1, f2), rfl, hw, by rw [ht]; exact hP, va_K.moved hW.alike hK, hD⟩, hS.F ht⟩) hS.2.2 (qaa qSY 3 rfl)))
theorem qNj : ∀ w ∈ u_ws RX10 TX10 19, w ∈ wsX10_count := uiM qBr qyN (by decide +kernel)
theorem qaDc : ∀ w ∈ u_ws RX5 TX5 2, w ∈ wsX10_count := uiM qBr euX5 (by decide +kernel)
theorem qazF : ∀ w ∈ u_ws RX8 TX8 7, w ∈ wsX10_count := uiM qBr euX8 (by decide +kernel)
theorem qaso : (.fieldLink RX10 10 "MarchHares" "tape" "LMarchHares$Tape;" : Cond) ∈ wsX10_count := qBr 16 (by decide +kernel)
theorem qamq : (.fieldLink RX10 105 "MarchHares$Tape" "filled" "I" : Cond) ∈ wsX10_count := qBr 535 (by decide +kernel)
theorem qajo : (.fieldLink RX10 132 "MarchHares$Past" "kept" "I" : Cond) ∈ wsX10_count := qBr 641 (by decide +kernel)
theorem qalh : (.fieldLink RX10 135 "MarchHares" "imagesKept" "I" : Cond) ∈ wsX10_count := qBr 642 (by decide +kernel)
theorem qat4 : (.fieldLink RX10 68 "MarchHares" "past" "LMarchHares$Past;" : Cond) ∈ wsX10_count := qBr 84 (by decide +kernel)
set_option maxHeartbeats 4000000 in
set_option maxRecDepth 100000 in
theorem qaTR (l : Launch) (dC : Nat → ClassId) (dI : Nat → Nat → Nat) (cyB cyI cyJ cyP : ClassId) (a0 jaW jeG sz : Nat) (jfS ja1 jcp jbc jbV ja3 jbH ja2 jbO jac jbI jbl jbn jaa jbA jdD jok jnj jn8 jnw jnx jm1 jm2 : Value) (jkc jj0 jje p1 : Int32) {Q : Int32 → Prop} (hw : q1D jkc jj0 jje p1 Q) : Met l yX10_count wsX10_count ({ frames := 0, cells := 0, slots := 0, locals := 0 }) (va_Pc [.ref a0, .int p1] (cPc (dC, dI) (kT cyB cyI cyJ cyP) (qaaZ a0 jaW jfS ja1 jcp jbc jbV ja3 jbH ja2 jbO jeG jac jbI jbl jbn jkc jaa jbA jdD jaW jok jnj jn8 jnw jj0 jnx jm1 jeG jm2 jje) sz)) (va_Qi (fun (r : Int32) (_ : Unit) => Q r ) (cB (dC, dI) (kT cyB cyI cyJ cyP) (va_A (qaaZ a0 jaW jfS ja1 jcp jbc jbV ja3 jbH ja2 jbO jeG jac jbI jbl jbn jkc jaa jbA jdD jaW jok jnj jn8 jnw jj0 jnx jm1 jeG jm2 jje) sz) (fun u : Unit => ((qaaZ a0 jaW jfS ja1 jcp jbc jbV ja3 jbH ja2 jbO jeG jac jbI jbl jbn jkc jaa jbA jdD jaW jok jnj jn8 jnw jj0 jnx jm1 jeG jm2 jje) : va_W))) (va_A (qaaZ a0 jaW jfS ja1 jcp jbc jbV ja3 jbH ja2 jbO jeG jac jbI jbl jbn jkc jaa jbA jdD jaW jok jnj jn8 jnw jj0 jnx jm1 jeG jm2 jje) sz)) 0 0 (va_A (qaaZ a0 jaW jfS ja1 jcp jbc jbV ja3 jbH ja2 jbO jeG jac jbI jbl jbn jkc jaa jbA jdD jaW jok jnj jn8 jnw jj0 jnx jm1 jeG jm2 jje) sz) := by
  refine Met.ofW (cc := cX10_count) (maxL := 2) (ret := (some .int)) (by decide) rfl ?_
  intro p e s m args below meth c s₁ B hml hv
  obtain ⟨rfl, hsz, hP, hK, hD0, hNw⟩ := hv
  have hx := B.exec
  have hb := B.bytes
  have hr := B.returns
  have hts := atoms_spec (ws := wsX10_count) B.pre
  have hown : s.vm.findClass RX10 = some m.cls := findClass_of_methodNamed B.named
  have hlocks := B.notSynchronized
  subst hsz
  have hD := hD0.self (sz := s.heap.size)
  generalize hAe : va_A (qaaZ a0 jaW jfS ja1 jcp jbc jbV ja3 jbH ja2 jbO jeG jac jbI jbl jbn jkc jaa jbA jdD jaW jok jnj jn8 jnw jj0 jnx jm1 jeG jm2 jje) s.heap.size = A at hD ⊢
  have hA : ∀ q : Nat, s.heap.size ≤ q → A q := fun q h => by rw [← hAe]; exact Or.inr h
  have hS : va_S A s.heap s.heap [] := va_S.rf
  have hP : va_P (dC, dI) vwCl (qaaZ a0 jaW jfS ja1 jcp jbc jbV ja3 jbH ja2 jbO jeG jac jbI jbl jbn jkc jaa jbA jdD jaW jok jnj jn8 jnw jj0 jnx jm1 jeG jm2 jje) s.heap := hP
  have hl := lv_entry ([.ref a0, .int p1]) (n := 2) (nbq rfl)
  rw [lg_entry_eq]
  generalize (lg_sl ([.ref a0, .int p1]) ++ List.replicate (2 - (lg_sl ([.ref a0, .int p1])).length) Slot.unset).toArray = ls at hl ⊢
  have hl : lv_has ls 2 [(0, .ref a0), (1, .int p1)] := hl
  have C0 : cfx p s m _ meth c cX10_count (some .int) wsX10_count RX10 2 A (dC, dI) (kT cyB cyI cyJ cyP) := ⟨hx, hb, hr, hts, hown, hlocks, hml, hA, hK, hNw⟩
  clear hAe
  obtain ⟨H, hH⟩ : ∃ H, H = s.heap := ⟨_, rfl⟩
  rw [← hH] at hP ⊢
  have hS : va_S A s.heap H [] := by rw [hH]; exact va_S.rf
  have hS := hS
  refine lv_iload_n hx hb (qaa qaEJ 0 rfl) rfl (lv_at hl 1 rfl) ?_
  by_cases c1 : p1.toInt < 0 ∨ 2 < p1.toInt
  · have hw := hw.1 c1
    refine lv_tableOut (tgt := 49) hx hb dX10_count_1 c1 (by decide) ?_
    refine lv_iconst (v := (-1)) hx hb (qaa qna 11 rfl) (by decide) ?_
    exact ((W.iret (v := (-1)) hx hb hr (fun t ht hW => ⟨⟨(-1), (), rfl, hw, by rw [ht]; exact hP, va_K.moved hW.alike hK, hD⟩, hS.F ht⟩) hS.2.2 (qaa qna 12 rfl)))
  · have hw := hw.2
    rcases qaw0 c1 with c1 | c1 | c1
    · have hw := hw.1 c1
      refine lv_tableIn (tgt := 28) (off := 27) hx hb dX10_count_1 (by rw [c1]; decide) (by rw [c1]; decide) (by rw [c1]; decide) (by decide) ?_
      refine lv_aload_n hx hb (qaa qna 0 rfl) rfl (lv_at hl 0 rfl) ?_
      refine va_get (D := (dC, dI)) (ci := 10) (v := .int jkc) (C := RX10) (T := TX10) (N := 19) hx hb hts qNj hown hK hP 0 rfl rfl 15 (by decide) (hts _ qalh) (fun _ h9 => h9) rfl (qaa qna 1 rfl) ?_
      exact ((W.iret (v := jkc) hx hb hr (fun t ht hW => ⟨⟨jkc, (), rfl, hw, by rw [ht]; exact hP, va_K.moved hW.alike hK, hD⟩, hS.F ht⟩) hS.2.2 (qaa qna 2 rfl)))
    · have hw := hw.2.1 c1
      refine lv_tableIn (tgt := 33) (off := 32) hx hb dX10_count_1 (by rw [c1]; decide) (by rw [c1]; decide) (by rw [c1]; decide) (by decide) ?_
      refine lv_aload_n hx hb (qaa qna 3 rfl) rfl (lv_at hl 0 rfl) ?_
      refine va_get (D := (dC, dI)) (ci := 10) (v := .ref jaW) (C := RX10) (T := TX10) (N := 19) hx hb hts qNj hown hK hP 0 rfl rfl 0 (by decide) (hts _ qaso) (fun _ h9 => h9) rfl (qaa qna 4 rfl) ?_
      refine va_get (D := (dC, dI)) (ci := 8) (v := .int jj0) (C := RX8) (T := TX8) (N := 7) hx hb hts qazF hown hK hP 1 rfl rfl 4 (by decide) (hts _ qamq) (fun _ h9 => h9) rfl (qaa qna 5 rfl) ?_
      exact ((W.iret (v := jj0) hx hb hr (fun t ht hW => ⟨⟨jj0, (), rfl, hw, by rw [ht]; exact hP, va_K.moved hW.alike hK, hD⟩, hS.F ht⟩) hS.2.2 (qaa qna 6 rfl)))
    · have hw := hw.2.2 c1
      refine lv_tableIn (tgt := 41) (off := 40) hx hb dX10_count_1 (by rw [c1]; decide) (by rw [c1]; decide) (by rw [c1]; decide) (by decide) ?_
      refine lv_aload_n hx hb (qaa qna 7 rfl) rfl (lv_at hl 0 rfl) ?_
      refine va_get (D := (dC, dI)) (ci := 10) (v := .ref jeG) (C := RX10) (T := TX10) (N := 19) hx hb hts qNj hown hK hP 0 rfl rfl 10 (by decide) (hts _ qat4) (fun _ h9 => h9) rfl (qaa qna 8 rfl) ?_
      refine va_get (D := (dC, dI)) (ci := 5) (v := .int jje) (C := RX5) (T := TX5) (N := 2) hx hb hts qaDc hown hK hP 2 rfl rfl 1 (by decide) (hts _ qajo) (fun _ h9 => h9) rfl (qaa qna 9 rfl) ?_
      exact ((W.iret (v := jje) hx hb hr (fun t ht hW => ⟨⟨jje, (), rfl, hw, by rw [ht]; exact hP, va_K.moved hW.alike hK, hD⟩, hS.F ht⟩) hS.2.2 (qaa qna 10 rfl)))
theorem qasm : ∀ w ∈ u_ws RX10 TX10 19, w ∈ wsX10_fault := uiM qWZ qyN (by decide +kernel)
theorem qazB : ∀ w ∈ u_ws RX8 TX8 7, w ∈ wsX10_fault := uiM qWZ euX8 (by decide +kernel)
theorem qatA : (.fieldLink RX10 10 "MarchHares" "tape" "LMarchHares$Tape;" : Cond) ∈ wsX10_fault := qWZ 16 (by decide +kernel)
theorem qalf : (.fieldLink RX10 174 "MarchHares$Tape" "faultPlace" "I" : Cond) ∈ wsX10_fault := qWZ 2452 (by decide +kernel)
set_option maxHeartbeats 4000000 in
set_option maxRecDepth 100000 in
theorem qaVS (l : Launch) (dC : Nat → ClassId) (dI : Nat → Nat → Nat) (cyB cyI cyJ cyP : ClassId) (a0 jaW sz : Nat) (jfS ja1 jcp jbc jbV ja3 jbH ja2 jbO jaq jac jbI jbl jbn jba jaa jbA jdD jok jnj jn8 jnw jpj jnx : Value) (jjE : Int32) {Q : Int32 → Prop} (hw : q17 jjE Q) : Met l yX10_fault wsX10_fault ({ frames := 0, cells := 0, slots := 0, locals := 0 }) (va_Pc [.ref a0] (cPc (dC, dI) (kT cyB cyI cyJ cyP) (qabb a0 jaW jfS ja1 jcp jbc jbV ja3 jbH ja2 jbO jaq jac jbI jbl jbn jba jaa jbA jdD jaW jok jnj jn8 jnw jpj jnx jjE) sz)) (va_Qi (fun (r : Int32) (_ : Unit) => Q r ) (cB (dC, dI) (kT cyB cyI cyJ cyP) (va_A (qabb a0 jaW jfS ja1 jcp jbc jbV ja3 jbH ja2 jbO jaq jac jbI jbl jbn jba jaa jbA jdD jaW jok jnj jn8 jnw jpj jnx jjE) sz) (fun u : Unit => ((qabb a0 jaW jfS ja1 jcp jbc jbV ja3 jbH ja2 jbO jaq jac jbI jbl jbn jba jaa jbA jdD jaW jok jnj jn8 jnw jpj jnx jjE) : va_W))) (va_A (qabb a0 jaW jfS ja1 jcp jbc jbV ja3 jbH ja2 jbO jaq jac jbI jbl jbn jba jaa jbA jdD jaW jok jnj jn8 jnw jpj jnx jjE) sz)) 0 0 (va_A (qabb a0 jaW jfS ja1 jcp jbc jbV ja3 jbH ja2 jbO jaq jac jbI jbl jbn jba jaa jbA jdD jaW jok jnj jn8 jnw jpj jnx jjE) sz) := by
  refine Met.ofW (cc := cX10_fault) (maxL := 1) (ret := (some .int)) (by decide) rfl ?_
  intro p e s m args below meth c s₁ B hml hv
  obtain ⟨rfl, hsz, hP, hK, hD0, hNw⟩ := hv
  have hx := B.exec
  have hb := B.bytes
  have hr := B.returns
  have hts := atoms_spec (ws := wsX10_fault) B.pre
  have hown : s.vm.findClass RX10 = some m.cls := findClass_of_methodNamed B.named
  have hlocks := B.notSynchronized
  subst hsz
  have hD := hD0.self (sz := s.heap.size)
  generalize hAe : va_A (qabb a0 jaW jfS ja1 jcp jbc jbV ja3 jbH ja2 jbO jaq jac jbI jbl jbn jba jaa jbA jdD jaW jok jnj jn8 jnw jpj jnx jjE) s.heap.size = A at hD ⊢
  have hA : ∀ q : Nat, s.heap.size ≤ q → A q := fun q h => by rw [← hAe]; exact Or.inr h
  have hS : va_S A s.heap s.heap [] := va_S.rf
  have hP : va_P (dC, dI) vwCl (qabb a0 jaW jfS ja1 jcp jbc jbV ja3 jbH ja2 jbO jaq jac jbI jbl jbn jba jaa jbA jdD jaW jok jnj jn8 jnw jpj jnx jjE) s.heap := hP
  have hl := lv_entry ([.ref a0]) (n := 1) (nbq rfl)
  rw [lg_entry_eq]
  generalize (lg_sl ([.ref a0]) ++ List.replicate (1 - (lg_sl ([.ref a0])).length) Slot.unset).toArray = ls at hl ⊢
  have hl : lv_has ls 1 [(0, .ref a0)] := hl
  have C0 : cfx p s m _ meth c cX10_fault (some .int) wsX10_fault RX10 1 A (dC, dI) (kT cyB cyI cyJ cyP) := ⟨hx, hb, hr, hts, hown, hlocks, hml, hA, hK, hNw⟩
  clear hAe
  obtain ⟨H, hH⟩ : ∃ H, H = s.heap := ⟨_, rfl⟩
  rw [← hH] at hP ⊢
  have hS : va_S A s.heap H [] := by rw [hH]; exact va_S.rf
  have hS := hS
  refine lv_aload_n hx hb (qaa qKO 0 rfl) rfl (lv_at hl 0 rfl) ?_
  refine va_get (D := (dC, dI)) (ci := 10) (v := .ref jaW) (C := RX10) (T := TX10) (N := 19) hx hb hts qasm hown hK hP 0 rfl rfl 0 (by decide) (hts _ qatA) (fun _ h9 => h9) rfl (qaa qKO 1 rfl) ?_
  refine va_get (D := (dC, dI)) (ci := 8) (v := .int jjE) (C := RX8) (T := TX8) (N := 7) hx hb hts qazB hown hK hP 1 rfl rfl 6 (by decide) (hts _ qalf) (fun _ h9 => h9) rfl (qaa qKO 2 rfl) ?_
  exact ((W.iret (v := jjE) hx hb hr (fun t ht hW => ⟨⟨jjE, (), rfl, hw, by rw [ht]; exact hP, va_K.moved hW.alike hK, hD⟩, hS.F ht⟩) hS.2.2 (qaa qKO 3 rfl)))
theorem qao0 : ∀ w ∈ u_ws RX8 TX8 7, w ∈ wsX8_hasRoom := uiM qan6 euX8 (by decide +kernel)
theorem qamp : (.fieldLink RX8 19 "MarchHares$Tape" "filled" "I" : Cond) ∈ wsX8_hasRoom := qan6 580 (by decide +kernel)
set_option maxHeartbeats 4000000 in
set_option maxRecDepth 100000 in
theorem qaNb (l : Launch) (dC : Nat → ClassId) (dI : Nat → Nat → Nat) (cyB cyI cyJ cyP : ClassId) (a0 sz : Nat) (jn7 jjf jby jl9 jmS jkr : Value) (jnc : Int32) {Q : Int32 → Prop} (hw : qaeM jnc Q) : Met l yX8_hasRoom wsX8_hasRoom ({ frames := 0, cells := 0, slots := 0, locals := 0 }) (va_Pc [.ref a0] (cPc (dC, dI) (kT cyB cyI cyJ cyP) (q9X a0 jn7 jjf jby jl9 jnc jmS jkr) sz)) (va_Qi (fun (r : Int32) (_ : Unit) => Q r ) (cB (dC, dI) (kT cyB cyI cyJ cyP) (va_A (q9X a0 jn7 jjf jby jl9 jnc jmS jkr) sz) (fun u : Unit => ((q9X a0 jn7 jjf jby jl9 jnc jmS jkr) : va_W))) (va_A (q9X a0 jn7 jjf jby jl9 jnc jmS jkr) sz)) 0 0 (va_A (q9X a0 jn7 jjf jby jl9 jnc jmS jkr) sz) := by
  refine Met.ofW (cc := cX8_hasRoom) (maxL := 1) (ret := (some .boolean)) (by decide) rfl ?_
  intro p e s m args below meth c s₁ B hml hv
  obtain ⟨rfl, hsz, hP, hK, hD0, hNw⟩ := hv
  have hx := B.exec
  have hb := B.bytes
  have hr := B.returns
  have hts := atoms_spec (ws := wsX8_hasRoom) B.pre
  have hown : s.vm.findClass RX8 = some m.cls := findClass_of_methodNamed B.named
  have hlocks := B.notSynchronized
  subst hsz
  have hD := hD0.self (sz := s.heap.size)
  generalize hAe : va_A (q9X a0 jn7 jjf jby jl9 jnc jmS jkr) s.heap.size = A at hD ⊢
  have hA : ∀ q : Nat, s.heap.size ≤ q → A q := fun q h => by rw [← hAe]; exact Or.inr h
  have hS : va_S A s.heap s.heap [] := va_S.rf
  have hP : va_P (dC, dI) vwCl (q9X a0 jn7 jjf jby jl9 jnc jmS jkr) s.heap := hP
  have hl := lv_entry ([.ref a0]) (n := 1) (nbq rfl)
  rw [lg_entry_eq]
  generalize (lg_sl ([.ref a0]) ++ List.replicate (1 - (lg_sl ([.ref a0])).length) Slot.unset).toArray = ls at hl ⊢
  have hl : lv_has ls 1 [(0, .ref a0)] := hl
  have C0 : cfx p s m _ meth c cX8_hasRoom (some .boolean) wsX8_hasRoom RX8 1 A (dC, dI) (kT cyB cyI cyJ cyP) := ⟨hx, hb, hr, hts, hown, hlocks, hml, hA, hK, hNw⟩
  clear hAe
  obtain ⟨H, hH⟩ : ∃ H, H = s.heap := ⟨_, rfl⟩
  rw [← hH] at hP ⊢
  have hS : va_S A s.heap H [] := by rw [hH]; exact va_S.rf
  have hS := hS
  refine lv_aload_n hx hb (qaa qo5 0 rfl) rfl (lv_at hl 0 rfl) ?_
  refine va_get (D := (dC, dI)) (ci := 8) (v := .int jnc) (C := RX8) (T := TX8) (N := 7) hx hb hts qao0 hown hK hP 0 rfl rfl 4 (by decide) (hts _ qamp) (fun _ h9 => h9) rfl (qaa qo5 1 rfl) ?_
  refine lv_bipush (v := 20) hx hb (qaa qo5 2 rfl) (by decide) ?_
  refine lv_iadd hx hb (qaa qo5 3 rfl) ?_
  refine lv_sipush (v := 600) hx hb (qaa qo5 4 rfl) (by decide) ?_
  refine lv_icmp_gt (tgt := 17) hx hb (qaa qo5 5 rfl) (by decide) (fun c1 => ?_) (fun c1 => ?_)
  · have hw := hw.1 c1
    refine lv_iconst (v := 0) hx hb (qaa qo5 8 rfl) (by decide) ?_
    exact ((W.zret (v := 0) hx hb hr rfl (fun t ht hW => ⟨⟨0, (), rfl, hw, by rw [ht]; exact hP, va_K.moved hW.alike hK, hD⟩, hS.F ht⟩) hS.2.2 (qaa qo5 9 rfl)))
  · have hw := hw.2 c1
    refine lv_iconst (v := 1) hx hb (qaa qo5 6 rfl) (by decide) ?_
    refine lv_goto (tgt := 18) hx hb (qaa qo5 7 rfl) (by decide) ?_
    exact ((W.zret (v := 1) hx hb hr rfl (fun t ht hW => ⟨⟨1, (), rfl, hw, by rw [ht]; exact hP, va_K.moved hW.alike hK, hD⟩, hS.F ht⟩) hS.2.2 (qaa qo5 9 rfl)))
theorem qLy : ∀ w ∈ u_ws RX8 TX8 7, w ∈ wsX8_put := uiM qaSm euX8 (by decide +kernel)
theorem qaSi : (.fieldLink RX8 11 "MarchHares$Tape" "bytes" "[B" : Cond) ∈ wsX8_put := qaSm 142 (by decide +kernel)
theorem qOk : (.fieldLink RX8 19 "MarchHares$Tape" "filled" "I" : Cond) ∈ wsX8_put := qaSm 580 (by decide +kernel)
set_option maxHeartbeats 4000000 in
set_option maxRecDepth 100000 in
theorem qan7 {p : Program} {l : Launch} {e : Env} {s : State} {m : MethodId} {args : Array Value} {below : List Frame} {meth : Method} {c : Code} {A : Nat → Prop} (dC : Nat → ClassId) (dI : Nat → Nat → Nat) (cyB cyI cyJ cyP : ClassId) (a0 jif : Nat) (jjf jby jl9 jmS jkr : Value) (Q : NI → Int32 → Prop) (K3 : NI → Int32 → Int32 → Int32 → Prop) (hK3 : ∀ (H : Heap) (locs : List Loc) (ls : Array Slot) (jjA : NI) (jnc l1 l2 : Int32), va_P (dC, dI) vwCl (qrE a0 jif jjf jby jl9 jnc jmS jkr jif cyB jjA) H → va_D A (qrE a0 jif jjf jby jl9 jnc jmS jkr jif cyB jjA) → va_S A s.heap H locs → lv_has ls 3 [(0, .ref a0), (1, .int l1), (2, .int l2)] → K3 jjA jnc l1 l2 → W p l e (headSpec wsX8_put ({ frames := 0, cells := 0, slots := 0, locals := 0 })).room s m args below meth c H locs 0 0 (MQ below (va_Qv (fun (u : NI × Int32) => Q u.1 u.2) (cB (dC, dI) (kT cyB cyI cyJ cyP) A (fun u : NI × Int32 => ((qrE a0 jif jjf jby jl9 u.2 jmS jkr jif cyB u.1) : va_W))) A) args s 0 0 A) (F0 m 3 ls [])) (C0 : cfx p s m args meth c cX8_put none wsX8_put RX8 3 A (dC, dI) (kT cyB cyI cyJ cyP)) : ∀ (H : Heap) (locs : List Loc) (ls : Array Slot) (jjA : NI) (jnc l1 l2 : Int32), va_P (dC, dI) vwCl (qrE a0 jif jjf jby jl9 jnc jmS jkr jif cyB jjA) H → va_D A (qrE a0 jif jjf jby jl9 jnc jmS jkr jif cyB jjA) → va_S A s.heap H locs → lv_has ls 3 [(0, .ref a0), (1, .int l1), (2, .int l2)] → q0X Q K3 jjA jnc l1 l2 → W p l e (headSpec wsX8_put ({ frames := 0, cells := 0, slots := 0, locals := 0 })).room s m args below meth c H locs 0 0 (MQ below (va_Qv (fun (u : NI × Int32) => Q u.1 u.2) (cB (dC, dI) (kT cyB cyI cyJ cyP) A (fun u : NI × Int32 => ((qrE a0 jif jjf jby jl9 u.2 jmS jkr jif cyB u.1) : va_W))) A) args s 0 0 A) (F0 m 40 ls []) := by
  obtain ⟨hx, hb, hr, hts, hown, hlocks, hml, hA, hK, hNw⟩ := id C0
  intro H locs ls jjA jnc l1 l2 hP hD hS hl hw
  obtain ⟨x6, ex6⟩ : ∃ y : Int32, y = l2 + (-8) := ⟨_, rfl⟩
  have hw := hw x6 ex6
  refine lv_iinc (v := x6) (lv' := [(2, .int x6), (0, .ref a0), (1, .int l1)]) hx hb (qaa qvc 7 rfl) hl (k := 2) rfl (by rw [ex6]; rfl) (by decide) rfl (fun ls hl => ?_)
  refine lv_goto (tgt := 3) hx hb (qaa qvc 8 rfl) (by decide) ?_
  exact hK3 _ _ _ jjA jnc l1 x6 hP hD hS (lv_sub hl [1, 2, 0] rfl) hw
set_option maxHeartbeats 4000000 in
set_option maxRecDepth 100000 in
theorem qaZy {p : Program} {l : Launch} {e : Env} {s : State} {m : MethodId} {args : Array Value} {below : List Frame} {meth : Method} {c : Code} {A : Nat → Prop} (dC : Nat → ClassId) (dI : Nat → Nat → Nat) (cyB cyI cyJ cyP : ClassId) (a0 jif : Nat) (jjf jby jl9 jmS jkr : Value) (Q : NI → Int32 → Prop) (C0 : cfx p s m args meth c cX8_put none wsX8_put RX8 3 A (dC, dI) (kT cyB cyI cyJ cyP)) : ∀ (n : Nat) (H : Heap) (locs : List Loc) (ls : Array Slot) (jjA : NI) (jnc l1 l2 : Int32), va_P (dC, dI) vwCl (qrE a0 jif jjf jby jl9 jnc jmS jkr jif cyB jjA) H → va_D A (qrE a0 jif jjf jby jl9 jnc jmS jkr jif cyB jjA) → va_S A s.heap H locs → lv_has ls 3 [(0, .ref a0), (1, .int l1), (2, .int l2)] → qFz Q n jjA jnc l1 l2 → W p l e (headSpec wsX8_put ({ frames := 0, cells := 0, slots := 0, locals := 0 })).room s m args below meth c H locs 0 0 (MQ below (va_Qv (fun (u : NI × Int32) => Q u.1 u.2) (cB (dC, dI) (kT cyB cyI cyJ cyP) A (fun u : NI × Int32 => ((qrE a0 jif jjf jby jl9 u.2 jmS jkr jif cyB u.1) : va_W))) A) args s 0 0 A) (F0 m 3 ls []) := by
  obtain ⟨hx, hb, hr, hts, hown, hlocks, hml, hA, hK, hNw⟩ := id C0
  intro n
  induction n with
  | zero => intro H locs ls jjA jnc l1 l2 hP hD hS hl hw; exact False.elim hw
  | succ n ih =>
    intro H locs ls jjA jnc l1 l2 hP hD hS hl hw
    refine lv_iload_n hx hb (qaa qqf 2 rfl) rfl (lv_at hl 2 rfl) ?_
    refine lv_if_lt (tgt := 46) hx hb (qaa qqf 3 rfl) (by decide) (fun c1 => ?_) (fun c1 => ?_)
    · have hw := hw.1 c1
      exact ((W.vret hx hb hr (fun t ht hW => ⟨⟨(jjA, jnc), rfl, hw, by rw [ht]; exact hP, va_K.moved hW.alike hK, hD⟩, hS.F ht⟩) hS.2.2 (qaa qvc 9 rfl)))
    · have hw := hw.2 c1
      refine lv_aload_n hx hb (qaa qqf 4 rfl) rfl (lv_at hl 0 rfl) ?_
      refine va_get (D := (dC, dI)) (ci := 8) (v := .int jnc) (C := RX8) (T := TX8) (N := 7) hx hb hts qLy hown hK hP 0 rfl rfl 4 (by decide) (hts _ qOk) (fun _ h9 => h9) rfl (qaa qqf 5 rfl) ?_
      refine lv_sipush (v := 600) hx hb (qaa qqf 6 rfl) (by decide) ?_
      refine lv_icmp_ge (tgt := 40) hx hb (qaa qqf 7 rfl) (by decide) (fun c2 => ?_) (fun c2 => ?_)
      · have hw := hw.1 c2
        exact qan7 dC dI cyB cyI cyJ cyP a0 jif jjf jby jl9 jmS jkr Q (qFz Q n) ih C0 _ _ _ jjA jnc l1 l2 hP hD hS (lv_sub hl [0, 1, 2] rfl) hw
      · have hw := hw.2 c2
        refine lv_aload_n hx hb (qaa qqf 8 rfl) rfl (lv_at hl 0 rfl) ?_
        refine va_get (D := (dC, dI)) (ci := 8) (v := .ref jif) (C := RX8) (T := TX8) (N := 7) hx hb hts qLy hown hK hP 0 rfl rfl 0 (by decide) (hts _ qaSi) (fun _ h9 => h9) rfl (qaa qqf 9 rfl) ?_
        refine lv_aload_n hx hb (qaa qqf 10 rfl) rfl (lv_at hl 0 rfl) ?_
        refine va_get (D := (dC, dI)) (ci := 8) (v := .int jnc) (C := RX8) (T := TX8) (N := 7) hx hb hts qLy hown hK hP 0 rfl rfl 4 (by decide) (hts _ qOk) (fun _ h9 => h9) rfl (qaa qqf 11 rfl) ?_
        refine lv_iload_n hx hb (qaa qqf 12 rfl) rfl (lv_at hl 1 rfl) ?_
        refine lv_iload_n hx hb (qaa qqf 13 rfl) rfl (lv_at hl 2 rfl) ?_
        refine lv_ishr hx hb (qaa qqf 14 rfl) ?_
        refine lv_i2b (v := (l1 >>> (l2 &&& 31)).toInt8.toInt32) hx hb (qaa qqf 15 rfl) rfl ?_
        refine lv_topi (fun x3 ex3 => ?_)
        have hw := hw x3 ex3
        obtain ⟨hi9, hw⟩ := hw
        refine va_bast hx hb hK hP hD hS 1 0 rfl rfl hi9 (qaa qvc 0 rfl) (fun H locs hP hD hS => ?_)
        obtain ⟨f4, ef4⟩ : ∃ y : NI, y = upd jjA jnc.toNatClampNeg (vp_nar .byte x3) := ⟨_, rfl⟩
        have hw := hw f4 ef4
        have hP : va_P (dC, dI) vwCl (qrE a0 jif jjf jby jl9 jnc jmS jkr jif cyB f4) H := by rw [ef4]; exact hP
        have hD : va_D A (qrE a0 jif jjf jby jl9 jnc jmS jkr jif cyB f4) := by rw [ef4]; exact hD
        refine lv_aload_n hx hb (qaa qvc 1 rfl) rfl (lv_at hl 0 rfl) ?_
        refine lv_dup hx hb (qaa qvc 2 rfl) rfl ?_
        refine va_get (D := (dC, dI)) (ci := 8) (v := .int jnc) (C := RX8) (T := TX8) (N := 7) hx hb hts qLy hown hK hP 0 rfl rfl 4 (by decide) (hts _ qOk) (fun _ h9 => h9) rfl (qaa qvc 3 rfl) ?_
        refine lv_iconst (v := 1) hx hb (qaa qvc 4 rfl) (by decide) ?_
        refine lv_iadd hx hb (qaa qvc 5 rfl) ?_
        refine lv_topi (fun x5 ex5 => ?_)
        have hw := hw x5 ex5
        refine va_put (D := (dC, dI)) (ci := 8) (v := .int x5) (ty := .int) (C := RX8) (T := TX8) (N := 7) hx hb hts qLy tyX8 tyX8_ok nmX8 hown hK hP hD hS 0 rfl rfl 4 (by decide) (hts _ qOk) (fun _ h9 => h9) rfl (by decide +kernel) rfl rfl (nbq rfl) (qaa qvc 6 rfl) (fun H locs hP hD hS => ?_)
        have hP : va_P (dC, dI) vwCl (qrE a0 jif jjf jby jl9 x5 jmS jkr jif cyB f4) H := hP
        have hD : va_D A (qrE a0 jif jjf jby jl9 x5 jmS jkr jif cyB f4) := hD
        exact qan7 dC dI cyB cyI cyJ cyP a0 jif jjf jby jl9 jmS jkr Q (qFz Q n) ih C0 _ _ _ f4 x5 l1 l2 hP hD hS (lv_sub hl [0, 1, 2] rfl) hw
set_option maxHeartbeats 4000000 in
set_option maxRecDepth 100000 in
theorem q2n (l : Launch) (dC : Nat → ClassId) (dI : Nat → Nat → Nat) (cyB cyI cyJ cyP : ClassId) (a0 jif sz : Nat) (jjf jby jl9 jmS jkr : Value) (jjA : NI) (jnc p1 : Int32) {Q : NI → Int32 → Prop} (hw : qRt jjA jnc p1 Q) : Met l yX8_put wsX8_put ({ frames := 0, cells := 0, slots := 0, locals := 0 }) (va_Pc [.ref a0, .int p1] (cPc (dC, dI) (kT cyB cyI cyJ cyP) (qrE a0 jif jjf jby jl9 jnc jmS jkr jif cyB jjA) sz)) (va_Qv (fun (u : NI × Int32) => Q u.1 u.2) (cB (dC, dI) (kT cyB cyI cyJ cyP) (va_A (qrE a0 jif jjf jby jl9 jnc jmS jkr jif cyB jjA) sz) (fun u : NI × Int32 => ((qrE a0 jif jjf jby jl9 u.2 jmS jkr jif cyB u.1) : va_W))) (va_A (qrE a0 jif jjf jby jl9 jnc jmS jkr jif cyB jjA) sz)) 0 0 (va_A (qrE a0 jif jjf jby jl9 jnc jmS jkr jif cyB jjA) sz) := by
  refine Met.ofW (cc := cX8_put) (maxL := 3) (ret := none) (by decide) rfl ?_
  intro p e s m args below meth c s₁ B hml hv
  obtain ⟨rfl, hsz, hP, hK, hD0, hNw⟩ := hv
  have hx := B.exec
  have hb := B.bytes
  have hr := B.returns
  have hts := atoms_spec (ws := wsX8_put) B.pre
  have hown : s.vm.findClass RX8 = some m.cls := findClass_of_methodNamed B.named
  have hlocks := B.notSynchronized
  subst hsz
  have hD := hD0.self (sz := s.heap.size)
  generalize hAe : va_A (qrE a0 jif jjf jby jl9 jnc jmS jkr jif cyB jjA) s.heap.size = A at hD ⊢
  have hA : ∀ q : Nat, s.heap.size ≤ q → A q := fun q h => by rw [← hAe]; exact Or.inr h
  have hS : va_S A s.heap s.heap [] := va_S.rf
  have hP : va_P (dC, dI) vwCl (qrE a0 jif jjf jby jl9 jnc jmS jkr jif cyB jjA) s.heap := hP
  have hl := lv_entry ([.ref a0, .int p1]) (n := 3) (nbq rfl)
  rw [lg_entry_eq]
  generalize (lg_sl ([.ref a0, .int p1]) ++ List.replicate (3 - (lg_sl ([.ref a0, .int p1])).length) Slot.unset).toArray = ls at hl ⊢
  have hl : lv_has ls 3 [(0, .ref a0), (1, .int p1)] := hl
  have C0 : cfx p s m _ meth c cX8_put none wsX8_put RX8 3 A (dC, dI) (kT cyB cyI cyJ cyP) := ⟨hx, hb, hr, hts, hown, hlocks, hml, hA, hK, hNw⟩
  clear hAe
  obtain ⟨H, hH⟩ : ∃ H, H = s.heap := ⟨_, rfl⟩
  rw [← hH] at hP ⊢
  have hS : va_S A s.heap H [] := by rw [hH]; exact va_S.rf
  have hS := hS
  refine lv_bipush (v := 24) hx hb (qaa qqf 0 rfl) (by decide) ?_
  refine lv_istore_n (lv' := [(2, .int 24), (0, .ref a0), (1, .int p1)]) hx hb (qaa qqf 1 rfl) rfl hl (by decide) rfl (fun ls hl => ?_)
  obtain ⟨n9, hw⟩ := hw
  exact qaZy dC dI cyB cyI cyJ cyP a0 jif jjf jby jl9 jmS jkr Q C0 n9 _ _ _ jjA jnc p1 24 hP hD hS (lv_sub hl [1, 2, 0] rfl) hw
theorem qwe : ∀ w ∈ u_ws RX10 TX10 19, w ∈ wsX10_feed := uiM qGC qyN (by decide +kernel)
theorem qaI0 : ∀ w ∈ u_ws RX8 TX8 7, w ∈ wsX10_feed := uiM qGC euX8 (by decide +kernel)
theorem qvM : (.fieldLink RX10 10 "MarchHares" "tape" "LMarchHares$Tape;" : Cond) ∈ wsX10_feed := qGC 16 (by decide +kernel)
theorem qatC : (.fieldLink RX10 105 "MarchHares$Tape" "filled" "I" : Cond) ∈ wsX10_feed := qGC 535 (by decide +kernel)
set_option maxHeartbeats 4000000 in
set_option maxRecDepth 100000 in
theorem qaWD (l : Launch) (dC : Nat → ClassId) (dI : Nat → Nat → Nat) (cyB cyI cyJ cyP : ClassId) (a0 jaW jf0 sz : Nat) (jfS ja1 jcp jbc jbV ja3 jbH ja2 jbO jaq jac jbI jbl jbn jba jaa jbA jdD jnj jn8 jnw jnx jm1 : Value) (ji4 : NI) (jj0 p1 p2 p3 p4 p5 : Int32) {Q : Int32 → NI → Int32 → Prop} (hw : qaa5 ji4 jj0 p1 p2 p3 p4 p5 Q) : Met l yX10_feed wsX10_feed ({ frames := 1, cells := 0, slots := 0, locals := 22 }) (va_Pc [.ref a0, .int p1, .int p2, .int p3, .int p4, .int p5] (cPc (dC, dI) (kT cyB cyI cyJ cyP) (qJu a0 jaW jfS ja1 jcp jbc jbV ja3 jbH ja2 jbO jaq jac jbI jbl jbn jba jaa jbA jdD jaW jf0 jnj jn8 jnw jj0 jnx jm1 jf0 cyB ji4) sz)) (va_Qi (fun (r : Int32) (u : NI × Int32) => Q r u.1 u.2) (cB (dC, dI) (kT cyB cyI cyJ cyP) (va_A (qJu a0 jaW jfS ja1 jcp jbc jbV ja3 jbH ja2 jbO jaq jac jbI jbl jbn jba jaa jbA jdD jaW jf0 jnj jn8 jnw jj0 jnx jm1 jf0 cyB ji4) sz) (fun u : NI × Int32 => ((qJu a0 jaW jfS ja1 jcp jbc jbV ja3 jbH ja2 jbO jaq jac jbI jbl jbn jba jaa jbA jdD jaW jf0 jnj jn8 jnw u.2 jnx jm1 jf0 cyB u.1) : va_W))) (va_A (qJu a0 jaW jfS ja1 jcp jbc jbV ja3 jbH ja2 jbO jaq jac jbI jbl jbn jba jaa jbA jdD jaW jf0 jnj jn8 jnw jj0 jnx jm1 jf0 cyB ji4) sz)) 0 0 (va_A (qJu a0 jaW jfS ja1 jcp jbc jbV ja3 jbH ja2 jbO jaq jac jbI jbl jbn jba jaa jbA jdD jaW jf0 jnj jn8 jnw jj0 jnx jm1 jf0 cyB ji4) sz) := by
  refine Met.ofW (cc := cX10_feed) (maxL := 6) (ret := (some .int)) (by decide) rfl ?_
  intro p e s m args below meth c s₁ B hml hv
  obtain ⟨rfl, hsz, hP, hK, hD0, hNw⟩ := hv
  have hx := B.exec
  have hb := B.bytes
  have hr := B.returns
  have hts := atoms_spec (ws := wsX10_feed) B.pre
  have hown : s.vm.findClass RX10 = some m.cls := findClass_of_methodNamed B.named
  have hlocks := B.notSynchronized
  subst hsz
  have hD := hD0.self (sz := s.heap.size)
  generalize hAe : va_A (qJu a0 jaW jfS ja1 jcp jbc jbV ja3 jbH ja2 jbO jaq jac jbI jbl jbn jba jaa jbA jdD jaW jf0 jnj jn8 jnw jj0 jnx jm1 jf0 cyB ji4) s.heap.size = A at hD ⊢
  have hA : ∀ q : Nat, s.heap.size ≤ q → A q := fun q h => by rw [← hAe]; exact Or.inr h
  have hS : va_S A s.heap s.heap [] := va_S.rf
  have hP : va_P (dC, dI) vwCl (qJu a0 jaW jfS ja1 jcp jbc jbV ja3 jbH ja2 jbO jaq jac jbI jbl jbn jba jaa jbA jdD jaW jf0 jnj jn8 jnw jj0 jnx jm1 jf0 cyB ji4) s.heap := hP
  have hl := lv_entry ([.ref a0, .int p1, .int p2, .int p3, .int p4, .int p5]) (n := 6) (nbq rfl)
  rw [lg_entry_eq]
  generalize (lg_sl ([.ref a0, .int p1, .int p2, .int p3, .int p4, .int p5]) ++ List.replicate (6 - (lg_sl ([.ref a0, .int p1, .int p2, .int p3, .int p4, .int p5])).length) Slot.unset).toArray = ls at hl ⊢
  have hl : lv_has ls 6 [(0, .ref a0), (1, .int p1), (2, .int p2), (3, .int p3), (4, .int p4), (5, .int p5)] := hl
  have C0 : cfx p s m _ meth c cX10_feed (some .int) wsX10_feed RX10 6 A (dC, dI) (kT cyB cyI cyJ cyP) := ⟨hx, hb, hr, hts, hown, hlocks, hml, hA, hK, hNw⟩
  clear hAe
  obtain ⟨H, hH⟩ : ∃ H, H = s.heap := ⟨_, rfl⟩
  rw [← hH] at hP ⊢
  have hS : va_S A s.heap H [] := by rw [hH]; exact va_S.rf
  have hS := hS
  refine lv_aload_n hx hb (qaa qlB 0 rfl) rfl (lv_at hl 0 rfl) ?_
  refine va_get (D := (dC, dI)) (ci := 10) (v := .ref jaW) (C := RX10) (T := TX10) (N := 19) hx hb hts qwe hown hK hP 0 rfl rfl 0 (by decide) (hts _ qvM) (fun _ h9 => h9) rfl (qaa qlB 1 rfl) ?_
  obtain ⟨hCc, hPc, hDc, hFc⟩ := qac (ws' := (qban jaW jf0 jnj jn8 jnw jj0 jnx jm1)) hP hD hS hA [1] (by decide +kernel) rfl
  refine va_calli (va_runV (As := []) (rest := []) ⟨hx, hb, hml, hown, hts⟩ (qaNb l dC dI cyB cyI cyJ cyP jaW H.size (.ref jf0) (jnj) (jn8) (jnw) (jnx) (jm1) jj0 hw) (cwV 0 hts gX10_feed_X8_hasRoom rfl rfl rfl (by decide +kernel) ⟨nbq rfl, nbq rfl⟩) ⟨qab, va_recv (q := (RX8, TX8, 7)) hK hPc (ci := 8) (q0 := 0) rfl rfl, qae hPc hK hDc hNw⟩ rfl rfl hl.1 rfl (lv_room (nbq rfl)) (qaa qlB 2 rfl) ⟨nbq rfl, nbq rfl⟩) hS (fun q _ h => hFc q h) hFc (fun r1 u t H1 locs ht hvm hw hB hz1 hk1 hS => ?_)
  obtain ⟨hP1, hK1, hD1⟩ := hB
  rw [ht] at hP1
  obtain ⟨hP, hD⟩ := qad (wr := [(a0, .inr (10, [.ref jaW, jfS, ja1, jcp, jbc, jbV, ja3, jbH, ja2, jbO, jaq, jac, jbI, jbl, jbn, jba, jaa, jbA, jdD])), (jf0, .inl (cyB, 600, .inl ji4))]) (w1 := (qban jaW jf0 jnj jn8 jnw jj0 jnx jm1)) (wn := (qJu a0 jaW jfS ja1 jcp jbc jbV ja3 jbH ja2 jbO jaq jac jbI jbl jbn jba jaa jbA jdD jaW jf0 jnj jn8 jnw jj0 jnx jm1 jf0 cyB ji4)) hP hD [1] [0, 2] [0, 2, 1] hCc rfl (by decide +kernel) (by decide +kernel) (by decide +kernel) rfl hk1 hFc hP1 hD1
  generalize H1 = H at hP hS ⊢
  refine lv_if_ne (tgt := 12) hx hb (qaa qlB 3 rfl) (by decide) (fun c2 => ?_) (fun c2 => ?_)
  · have hw := hw.1 c2
    refine lv_aload_n hx hb (qaa qlB 6 rfl) rfl (lv_at hl 0 rfl) ?_
    refine va_get (D := (dC, dI)) (ci := 10) (v := .ref jaW) (C := RX10) (T := TX10) (N := 19) hx hb hts qwe hown hK hP 0 rfl rfl 0 (by decide) (hts _ qvM) (fun _ h9 => h9) rfl (qaa qlB 7 rfl) ?_
    refine lv_iload_n hx hb (qaa qlB 8 rfl) rfl (lv_at hl 1 rfl) ?_
    obtain ⟨hCc, hPc, hDc, hFc⟩ := qac (ws' := (qrE jaW jf0 jnj jn8 jnw jj0 jnx jm1 jf0 cyB ji4)) hP hD hS hA [1, 2] (by decide +kernel) rfl
    refine va_callv (va_runV (As := [.int p1]) (rest := []) ⟨hx, hb, hml, hown, hts⟩ (q2n l dC dI cyB cyI cyJ cyP jaW jf0 H.size (jnj) (jn8) (jnw) (jnx) (jm1) ji4 jj0 p1 hw) (cwV 1 hts gX10_feed_X8_put rfl rfl rfl (by decide +kernel) ⟨nbq rfl, nbq rfl⟩) ⟨qab, va_recv (q := (RX8, TX8, 7)) hK hPc (ci := 8) (q0 := 0) rfl rfl, qae hPc hK hDc hNw⟩ rfl rfl hl.1 rfl (lv_room (nbq rfl)) (qaa qlB 9 rfl) ⟨nbq rfl, nbq rfl⟩) hS (fun q _ h => hFc q h) hFc (fun u t H1 locs ht hvm hw hB hz1 hk1 hS => ?_)
    obtain ⟨f3, x4⟩ := u
    obtain ⟨hP1, hK1, hD1⟩ := hB
    rw [ht] at hP1
    obtain ⟨hP, hD⟩ := qah (wr := (qaBX a0 jaW jfS ja1 jcp jbc jbV ja3 jbH ja2 jbO jaq jac jbI jbl jbn jba jaa jbA jdD)) (w1 := (qrE jaW jf0 jnj jn8 jnw x4 jnx jm1 jf0 cyB f3)) (wn := (qJu a0 jaW jfS ja1 jcp jbc jbV ja3 jbH ja2 jbO jaq jac jbI jbl jbn jba jaa jbA jdD jaW jf0 jnj jn8 jnw x4 jnx jm1 jf0 cyB f3)) hP hD [1, 2] [0] hCc rfl (by decide +kernel) (by decide +kernel) rfl hk1 hFc hP1 hD1
    generalize H1 = H at hP hS ⊢
    refine lv_aload_n hx hb (qaa qlB 10 rfl) rfl (lv_at hl 0 rfl) ?_
    refine va_get (D := (dC, dI)) (ci := 10) (v := .ref jaW) (C := RX10) (T := TX10) (N := 19) hx hb hts qwe hown hK hP 0 rfl rfl 0 (by decide) (hts _ qvM) (fun _ h9 => h9) rfl (qaa qlB 11 rfl) ?_
    refine lv_iload_n hx hb (qaa qlB 12 rfl) rfl (lv_at hl 2 rfl) ?_
    obtain ⟨hCc, hPc, hDc, hFc⟩ := qac (ws' := (qrE jaW jf0 jnj jn8 jnw x4 jnx jm1 jf0 cyB f3)) hP hD hS hA [1, 2] (by decide +kernel) rfl
    refine va_callv (va_runV (As := [.int p2]) (rest := []) ⟨hx, hb, hml, hown, hts⟩ (q2n l dC dI cyB cyI cyJ cyP jaW jf0 H.size (jnj) (jn8) (jnw) (jnx) (jm1) f3 x4 p2 hw) (cwV 1 hts gX10_feed_X8_put rfl rfl rfl (by decide +kernel) ⟨nbq rfl, nbq rfl⟩) ⟨qab, va_recv (q := (RX8, TX8, 7)) hK hPc (ci := 8) (q0 := 0) rfl rfl, qae hPc hK hDc hNw⟩ rfl rfl hl.1 rfl (lv_room (nbq rfl)) (qaa qlB 13 rfl) ⟨nbq rfl, nbq rfl⟩) hS (fun q _ h => hFc q h) hFc (fun u t H1 locs ht hvm hw hB hz1 hk1 hS => ?_)
    obtain ⟨f5, x6⟩ := u
    obtain ⟨hP1, hK1, hD1⟩ := hB
    rw [ht] at hP1
    obtain ⟨hP, hD⟩ := qah (wr := (qaBX a0 jaW jfS ja1 jcp jbc jbV ja3 jbH ja2 jbO jaq jac jbI jbl jbn jba jaa jbA jdD)) (w1 := (qrE jaW jf0 jnj jn8 jnw x6 jnx jm1 jf0 cyB f5)) (wn := (qJu a0 jaW jfS ja1 jcp jbc jbV ja3 jbH ja2 jbO jaq jac jbI jbl jbn jba jaa jbA jdD jaW jf0 jnj jn8 jnw x6 jnx jm1 jf0 cyB f5)) hP hD [1, 2] [0] hCc rfl (by decide +kernel) (by decide +kernel) rfl hk1 hFc hP1 hD1
    generalize H1 = H at hP hS ⊢
    refine lv_aload_n hx hb (qaa qlB 14 rfl) rfl (lv_at hl 0 rfl) ?_
    refine va_get (D := (dC, dI)) (ci := 10) (v := .ref jaW) (C := RX10) (T := TX10) (N := 19) hx hb hts qwe hown hK hP 0 rfl rfl 0 (by decide) (hts _ qvM) (fun _ h9 => h9) rfl (qaa qlB 15 rfl) ?_
    refine lv_iload_n hx hb (qaa qns 0 rfl) rfl (lv_at hl 3 rfl) ?_
    obtain ⟨hCc, hPc, hDc, hFc⟩ := qac (ws' := (qrE jaW jf0 jnj jn8 jnw x6 jnx jm1 jf0 cyB f5)) hP hD hS hA [1, 2] (by decide +kernel) rfl
    refine va_callv (va_runV (As := [.int p3]) (rest := []) ⟨hx, hb, hml, hown, hts⟩ (q2n l dC dI cyB cyI cyJ cyP jaW jf0 H.size (jnj) (jn8) (jnw) (jnx) (jm1) f5 x6 p3 hw) (cwV 1 hts gX10_feed_X8_put rfl rfl rfl (by decide +kernel) ⟨nbq rfl, nbq rfl⟩) ⟨qab, va_recv (q := (RX8, TX8, 7)) hK hPc (ci := 8) (q0 := 0) rfl rfl, qae hPc hK hDc hNw⟩ rfl rfl hl.1 rfl (lv_room (nbq rfl)) (qaa qns 1 rfl) ⟨nbq rfl, nbq rfl⟩) hS (fun q _ h => hFc q h) hFc (fun u t H1 locs ht hvm hw hB hz1 hk1 hS => ?_)
    obtain ⟨f7, x8⟩ := u
    obtain ⟨hP1, hK1, hD1⟩ := hB
    rw [ht] at hP1
    obtain ⟨hP, hD⟩ := qah (wr := (qaBX a0 jaW jfS ja1 jcp jbc jbV ja3 jbH ja2 jbO jaq jac jbI jbl jbn jba jaa jbA jdD)) (w1 := (qrE jaW jf0 jnj jn8 jnw x8 jnx jm1 jf0 cyB f7)) (wn := (qJu a0 jaW jfS ja1 jcp jbc jbV ja3 jbH ja2 jbO jaq jac jbI jbl jbn jba jaa jbA jdD jaW jf0 jnj jn8 jnw x8 jnx jm1 jf0 cyB f7)) hP hD [1, 2] [0] hCc rfl (by decide +kernel) (by decide +kernel) rfl hk1 hFc hP1 hD1
    generalize H1 = H at hP hS ⊢
    refine lv_aload_n hx hb (qaa qns 2 rfl) rfl (lv_at hl 0 rfl) ?_
    refine va_get (D := (dC, dI)) (ci := 10) (v := .ref jaW) (C := RX10) (T := TX10) (N := 19) hx hb hts qwe hown hK hP 0 rfl rfl 0 (by decide) (hts _ qvM) (fun _ h9 => h9) rfl (qaa qns 3 rfl) ?_
    refine lv_iload hx hb (qaa qns 4 rfl) (lv_at hl 4 rfl) ?_
    obtain ⟨hCc, hPc, hDc, hFc⟩ := qac (ws' := (qrE jaW jf0 jnj jn8 jnw x8 jnx jm1 jf0 cyB f7)) hP hD hS hA [1, 2] (by decide +kernel) rfl
    refine va_callv (va_runV (As := [.int p4]) (rest := []) ⟨hx, hb, hml, hown, hts⟩ (q2n l dC dI cyB cyI cyJ cyP jaW jf0 H.size (jnj) (jn8) (jnw) (jnx) (jm1) f7 x8 p4 hw) (cwV 1 hts gX10_feed_X8_put rfl rfl rfl (by decide +kernel) ⟨nbq rfl, nbq rfl⟩) ⟨qab, va_recv (q := (RX8, TX8, 7)) hK hPc (ci := 8) (q0 := 0) rfl rfl, qae hPc hK hDc hNw⟩ rfl rfl hl.1 rfl (lv_room (nbq rfl)) (qaa qns 5 rfl) ⟨nbq rfl, nbq rfl⟩) hS (fun q _ h => hFc q h) hFc (fun u t H1 locs ht hvm hw hB hz1 hk1 hS => ?_)
    obtain ⟨f9, x10⟩ := u
    obtain ⟨hP1, hK1, hD1⟩ := hB
    rw [ht] at hP1
    obtain ⟨hP, hD⟩ := qah (wr := (qaBX a0 jaW jfS ja1 jcp jbc jbV ja3 jbH ja2 jbO jaq jac jbI jbl jbn jba jaa jbA jdD)) (w1 := (qrE jaW jf0 jnj jn8 jnw x10 jnx jm1 jf0 cyB f9)) (wn := (qJu a0 jaW jfS ja1 jcp jbc jbV ja3 jbH ja2 jbO jaq jac jbI jbl jbn jba jaa jbA jdD jaW jf0 jnj jn8 jnw x10 jnx jm1 jf0 cyB f9)) hP hD [1, 2] [0] hCc rfl (by decide +kernel) (by decide +kernel) rfl hk1 hFc hP1 hD1
    generalize H1 = H at hP hS ⊢
    refine lv_aload_n hx hb (qaa qns 6 rfl) rfl (lv_at hl 0 rfl) ?_
    refine va_get (D := (dC, dI)) (ci := 10) (v := .ref jaW) (C := RX10) (T := TX10) (N := 19) hx hb hts qwe hown hK hP 0 rfl rfl 0 (by decide) (hts _ qvM) (fun _ h9 => h9) rfl (qaa qns 7 rfl) ?_
    refine lv_iload hx hb (qaa qns 8 rfl) (lv_at hl 5 rfl) ?_
    obtain ⟨hCc, hPc, hDc, hFc⟩ := qac (ws' := (qrE jaW jf0 jnj jn8 jnw x10 jnx jm1 jf0 cyB f9)) hP hD hS hA [1, 2] (by decide +kernel) rfl
    refine va_callv (va_runV (As := [.int p5]) (rest := []) ⟨hx, hb, hml, hown, hts⟩ (q2n l dC dI cyB cyI cyJ cyP jaW jf0 H.size (jnj) (jn8) (jnw) (jnx) (jm1) f9 x10 p5 hw) (cwV 1 hts gX10_feed_X8_put rfl rfl rfl (by decide +kernel) ⟨nbq rfl, nbq rfl⟩) ⟨qab, va_recv (q := (RX8, TX8, 7)) hK hPc (ci := 8) (q0 := 0) rfl rfl, qae hPc hK hDc hNw⟩ rfl rfl hl.1 rfl (lv_room (nbq rfl)) (qaa qns 9 rfl) ⟨nbq rfl, nbq rfl⟩) hS (fun q _ h => hFc q h) hFc (fun u t H1 locs ht hvm hw hB hz1 hk1 hS => ?_)
    obtain ⟨f11, x12⟩ := u
    obtain ⟨hP1, hK1, hD1⟩ := hB
    rw [ht] at hP1
    obtain ⟨hP, hD⟩ := qah (wr := (qaBX a0 jaW jfS ja1 jcp jbc jbV ja3 jbH ja2 jbO jaq jac jbI jbl jbn jba jaa jbA jdD)) (w1 := (qrE jaW jf0 jnj jn8 jnw x12 jnx jm1 jf0 cyB f11)) (wn := (qJu a0 jaW jfS ja1 jcp jbc jbV ja3 jbH ja2 jbO jaq jac jbI jbl jbn jba jaa jbA jdD jaW jf0 jnj jn8 jnw x12 jnx jm1 jf0 cyB f11)) hP hD [1, 2] [0] hCc rfl (by decide +kernel) (by decide +kernel) rfl hk1 hFc hP1 hD1
    generalize H1 = H at hP hS ⊢
    refine lv_aload_n hx hb (qaa qns 10 rfl) rfl (lv_at hl 0 rfl) ?_
    refine va_get (D := (dC, dI)) (ci := 10) (v := .ref jaW) (C := RX10) (T := TX10) (N := 19) hx hb hts qwe hown hK hP 0 rfl rfl 0 (by decide) (hts _ qvM) (fun _ h9 => h9) rfl (qaa qns 11 rfl) ?_
    refine va_get (D := (dC, dI)) (ci := 8) (v := .int x12) (C := RX8) (T := TX8) (N := 7) hx hb hts qaI0 hown hK hP 1 rfl rfl 4 (by decide) (hts _ qatC) (fun _ h9 => h9) rfl (qaa qns 12 rfl) ?_
    exact ((W.iret (v := x12) hx hb hr (fun t ht hW => ⟨⟨x12, (f11, x12), rfl, hw, by rw [ht]; exact hP, va_K.moved hW.alike hK, hD⟩, hS.F ht⟩) hS.2.2 (qaa qns 13 rfl)))
  · have hw := hw.2 c2
    refine lv_iconst (v := (-1)) hx hb (qaa qlB 4 rfl) (by decide) ?_
    exact ((W.iret (v := (-1)) hx hb hr (fun t ht hW => ⟨⟨(-1), (ji4, jj0), rfl, hw, by rw [ht]; exact hP, va_K.moved hW.alike hK, hD⟩, hS.F ht⟩) hS.2.2 (qaa qlB 5 rfl)))
theorem qyv : ∀ w ∈ u_ws RX5 TX5 2, w ∈ wsX5_copyFrom := uiM qzc euX5 (by decide +kernel)
theorem qage : (.initialized "java/lang/System" : Cond) ∈ wsX5_copyFrom := qzc 331 (by decide +kernel)
theorem qadb : (.native arraycopyName : Cond) ∈ wsX5_copyFrom := qzc 329 (by decide +kernel)
theorem qae3 : (.static arraycopyName : Cond) ∈ wsX5_copyFrom := qzc 330 (by decide +kernel)
theorem qRC : (.fieldLink RX5 11 "MarchHares$Past" "rows" "[I" : Cond) ∈ wsX5_copyFrom := qzc 335 (by decide +kernel)
theorem qIr : (.fieldLink RX5 17 "MarchHares$Past" "kept" "I" : Cond) ∈ wsX5_copyFrom := qzc 1676 (by decide +kernel)
theorem qacZ : (.methodLink RX5 24 arraycopyName : Cond) ∈ wsX5_copyFrom := qzc 1678 (by decide +kernel)
set_option maxHeartbeats 4000000 in
set_option maxRecDepth 100000 in
theorem qps (l : Launch) (dC : Nat → ClassId) (dI : Nat → Nat → Nat) (cyB cyI cyJ cyP : ClassId) (a0 a1 jpc jnO sz : Nat) (jo7 : Int32) (jpi joO : NI) (joH : Int32) {Q : NI → Int32 → Prop} (hw : qnq jo7 jpi joO joH Q) : Met l yX5_copyFrom wsX5_copyFrom ({ frames := 1, cells := 0, slots := 0, locals := 40 }) (va_Pc [.ref a0, .ref a1] (cPc (dC, dI) (kT cyB cyI cyJ cyP) (qBK a0 jnO joH a1 jpc jo7 jpc cyI jpi jnO cyI joO) sz)) (va_Qv (fun (u : NI × Int32) => Q u.1 u.2) (cB (dC, dI) (kT cyB cyI cyJ cyP) (va_A (qBK a0 jnO joH a1 jpc jo7 jpc cyI jpi jnO cyI joO) sz) (fun u : NI × Int32 => ((qBK a0 jnO u.2 a1 jpc jo7 jpc cyI jpi jnO cyI u.1) : va_W))) (va_A (qBK a0 jnO joH a1 jpc jo7 jpc cyI jpi jnO cyI joO) sz)) 0 0 (va_A (qBK a0 jnO joH a1 jpc jo7 jpc cyI jpi jnO cyI joO) sz) := by
  refine Met.ofW (cc := cX5_copyFrom) (maxL := 2) (ret := none) (by decide) rfl ?_
  intro p e s m args below meth c s₁ B hml hv
  obtain ⟨rfl, hsz, hP, hK, hD0, hNw⟩ := hv
  have hx := B.exec
  have hb := B.bytes
  have hr := B.returns
  have hts := atoms_spec (ws := wsX5_copyFrom) B.pre
  have hown : s.vm.findClass RX5 = some m.cls := findClass_of_methodNamed B.named
  have hlocks := B.notSynchronized
  subst hsz
  have hD := hD0.self (sz := s.heap.size)
  generalize hAe : va_A (qBK a0 jnO joH a1 jpc jo7 jpc cyI jpi jnO cyI joO) s.heap.size = A at hD ⊢
  have hA : ∀ q : Nat, s.heap.size ≤ q → A q := fun q h => by rw [← hAe]; exact Or.inr h
  have hS : va_S A s.heap s.heap [] := va_S.rf
  have hP : va_P (dC, dI) vwCl (qBK a0 jnO joH a1 jpc jo7 jpc cyI jpi jnO cyI joO) s.heap := hP
  have hl := lv_entry ([.ref a0, .ref a1]) (n := 2) (nbq rfl)
  rw [lg_entry_eq]
  generalize (lg_sl ([.ref a0, .ref a1]) ++ List.replicate (2 - (lg_sl ([.ref a0, .ref a1])).length) Slot.unset).toArray = ls at hl ⊢
  have hl : lv_has ls 2 [(0, .ref a0), (1, .ref a1)] := hl
  have C0 : cfx p s m _ meth c cX5_copyFrom none wsX5_copyFrom RX5 2 A (dC, dI) (kT cyB cyI cyJ cyP) := ⟨hx, hb, hr, hts, hown, hlocks, hml, hA, hK, hNw⟩
  clear hAe
  obtain ⟨H, hH⟩ : ∃ H, H = s.heap := ⟨_, rfl⟩
  rw [← hH] at hP ⊢
  have hS : va_S A s.heap H [] := by rw [hH]; exact va_S.rf
  have hS := hS
  refine lv_aload_n hx hb (qaa qf2 0 rfl) rfl (lv_at hl 1 rfl) ?_
  refine va_get (D := (dC, dI)) (ci := 5) (v := .ref jpc) (C := RX5) (T := TX5) (N := 2) hx hb hts qyv hown hK hP 1 rfl rfl 0 (by decide) (hts _ qRC) (fun _ h9 => h9) rfl (qaa qf2 1 rfl) ?_
  refine lv_iconst (v := 0) hx hb (qaa qf2 2 rfl) (by decide) ?_
  refine lv_aload_n hx hb (qaa qf2 3 rfl) rfl (lv_at hl 0 rfl) ?_
  refine va_get (D := (dC, dI)) (ci := 5) (v := .ref jnO) (C := RX5) (T := TX5) (N := 2) hx hb hts qyv hown hK hP 0 rfl rfl 0 (by decide) (hts _ qRC) (fun _ h9 => h9) rfl (qaa qf2 4 rfl) ?_
  refine lv_iconst (v := 0) hx hb (qaa qf2 5 rfl) (by decide) ?_
  refine lv_aload_n hx hb (qaa qf2 6 rfl) rfl (lv_at hl 1 rfl) ?_
  refine va_get (D := (dC, dI)) (ci := 5) (v := .int jo7) (C := RX5) (T := TX5) (N := 2) hx hb hts qyv hown hK hP 1 rfl rfl 1 (by decide) (hts _ qIr) (fun _ h9 => h9) rfl (qaa qf2 7 rfl) ?_
  refine lv_bipush (v := 64) hx hb (qaa qf2 8 rfl) (by decide) ?_
  refine lv_imul hx hb (qaa qf2 9 rfl) ?_
  obtain ⟨hc29, hw⟩ := hw
  obtain ⟨hc39, hw⟩ := hw
  obtain ⟨hc49, hw⟩ := hw
  refine va_copyi hx hb (by rw [hml]; exact hl.1.symm) hown (hts _ qacZ) (hts _ qadb) (hts _ qae3) (hts _ qage) hK hP hD hS 2 3 1 1 rfl rfl rfl rfl rfl (by decide) (by decide) hc29 hc39 hc49 (fun _ _ => rfl) (nbq rfl) (nbq rfl) (qaa qf2 10 rfl) (fun H locs hP hD hS => ?_)
  obtain ⟨f1, ef1⟩ : ∃ y : NI, y = va_cpy jpi joO (0 : Int32).toNatClampNeg (0 : Int32).toNatClampNeg (jo7 * 64).toNatClampNeg := ⟨_, rfl⟩
  have hw := hw f1 ef1
  have hP : va_P (dC, dI) vwCl (qBK a0 jnO joH a1 jpc jo7 jpc cyI jpi jnO cyI f1) H := by rw [ef1]; exact hP
  have hD : va_D A (qBK a0 jnO joH a1 jpc jo7 jpc cyI jpi jnO cyI f1) := by rw [ef1]; exact hD
  refine lv_aload_n hx hb (qaa qf2 11 rfl) rfl (lv_at hl 0 rfl) ?_
  refine lv_aload_n hx hb (qaa qf2 12 rfl) rfl (lv_at hl 1 rfl) ?_
  refine va_get (D := (dC, dI)) (ci := 5) (v := .int jo7) (C := RX5) (T := TX5) (N := 2) hx hb hts qyv hown hK hP 1 rfl rfl 1 (by decide) (hts _ qIr) (fun _ h9 => h9) rfl (qaa qf2 13 rfl) ?_
  refine va_put (D := (dC, dI)) (ci := 5) (v := .int jo7) (ty := .int) (C := RX5) (T := TX5) (N := 2) hx hb hts qyv tyX5 tyX5_ok nmX5 hown hK hP hD hS 0 rfl rfl 1 (by decide) (hts _ qIr) (fun _ h9 => h9) rfl (by decide +kernel) rfl rfl (nbq rfl) (qaa qf2 14 rfl) (fun H locs hP hD hS => ?_)
  have hP : va_P (dC, dI) vwCl (qBK a0 jnO jo7 a1 jpc jo7 jpc cyI jpi jnO cyI f1) H := hP
  have hD : va_D A (qBK a0 jnO jo7 a1 jpc jo7 jpc cyI jpi jnO cyI f1) := hD
  exact ((W.vret hx hb hr (fun t ht hW => ⟨⟨(f1, jo7), rfl, hw, by rw [ht]; exact hP, va_K.moved hW.alike hK, hD⟩, hS.F ht⟩) hS.2.2 (qaa qf2 15 rfl)))
theorem qaw : ∀ w ∈ u_ws RX10 TX10 19, w ∈ wsX10_image := uiM qz0 qyN (by decide +kernel)
theorem qa8 : (.fieldLink RX10 135 "MarchHares" "imagesKept" "I" : Cond) ∈ wsX10_image := qz0 642 (by decide +kernel)
theorem qqP : (.fieldLink RX10 58 "MarchHares" "now" "LMarchHares$Days;" : Cond) ∈ wsX10_image := qz0 79 (by decide +kernel)
theorem qMn : (.fieldLink RX10 68 "MarchHares" "past" "LMarchHares$Past;" : Cond) ∈ wsX10_image := qz0 84 (by decide +kernel)
theorem qEN : (.fieldLink RX10 72 "MarchHares" "images" "[LMarchHares$Past;" : Cond) ∈ wsX10_image := qz0 85 (by decide +kernel)
set_option maxHeartbeats 4000000 in
set_option maxRecDepth 100000 in
theorem qaUL (l : Launch) (dC : Nat → ClassId) (dI : Nat → Nat → Nat) (cyB cyI cyJ cyP : ClassId) (a0 jjk jik jeG jhF jig jiq jiD jaT jbb jih jii sz : Nat) (jaK jfS ja1 jcp jbc jbV ja3 jbH jbO jbI jbl jbn jaa jbA jdD jbr jhD jff : Value) (jje : Int32) (jkH jbQ jkU : NI) (jk0 jkc : Int32) (jkV : NI) (jk1 : Int32) (jkW : NI) (jk2 : Int32) {Q : Int32 → NI → Int32 → Int32 → NI → Int32 → NI → Int32 → Prop} (hw : q2r jje jkH jbQ jkU jk0 jkc jkV jk1 jkW jk2 Q) : Met l yX10_image wsX10_image ({ frames := 2, cells := 0, slots := 0, locals := 61 }) (va_Pc [.ref a0] (cPc (dC, dI) (kT cyB cyI cyJ cyP) (qoJ a0 jaK jfS ja1 jcp jbc jbV ja3 jbH jaT jbO jeG jjk jbI jbl jbn jkc jaa jbA jdD jjk cyP (qgi jik jiq jiD) jik jig jk0 jeG jhF jje jhF cyI jkH jig cyI jkU jaT jbb jbr jhD jff jbb cyI jbQ jiq jih jk1 jih cyI jkV jiD jii jk2 jii cyI jkW) sz)) (va_Qi (fun (r : Int32) (u : NI × Int32 × Int32 × NI × Int32 × NI × Int32) => Q r u.1 u.2.1 u.2.2.1 u.2.2.2.1 u.2.2.2.2.1 u.2.2.2.2.2.1 u.2.2.2.2.2.2) (cB (dC, dI) (kT cyB cyI cyJ cyP) (va_A (qoJ a0 jaK jfS ja1 jcp jbc jbV ja3 jbH jaT jbO jeG jjk jbI jbl jbn jkc jaa jbA jdD jjk cyP (qgi jik jiq jiD) jik jig jk0 jeG jhF jje jhF cyI jkH jig cyI jkU jaT jbb jbr jhD jff jbb cyI jbQ jiq jih jk1 jih cyI jkV jiD jii jk2 jii cyI jkW) sz) (fun u : NI × Int32 × Int32 × NI × Int32 × NI × Int32 => ((qoJ a0 jaK jfS ja1 jcp jbc jbV ja3 jbH jaT jbO jeG jjk jbI jbl jbn u.2.2.1 jaa jbA jdD jjk cyP (qgi jik jiq jiD) jik jig u.2.1 jeG jhF jje jhF cyI jkH jig cyI u.1 jaT jbb jbr jhD jff jbb cyI jbQ jiq jih u.2.2.2.2.1 jih cyI u.2.2.2.1 jiD jii u.2.2.2.2.2.2 jii cyI u.2.2.2.2.2.1) : va_W))) (va_A (qoJ a0 jaK jfS ja1 jcp jbc jbV ja3 jbH jaT jbO jeG jjk jbI jbl jbn jkc jaa jbA jdD jjk cyP (qgi jik jiq jiD) jik jig jk0 jeG jhF jje jhF cyI jkH jig cyI jkU jaT jbb jbr jhD jff jbb cyI jbQ jiq jih jk1 jih cyI jkV jiD jii jk2 jii cyI jkW) sz)) 0 0 (va_A (qoJ a0 jaK jfS ja1 jcp jbc jbV ja3 jbH jaT jbO jeG jjk jbI jbl jbn jkc jaa jbA jdD jjk cyP (qgi jik jiq jiD) jik jig jk0 jeG jhF jje jhF cyI jkH jig cyI jkU jaT jbb jbr jhD jff jbb cyI jbQ jiq jih jk1 jih cyI jkV jiD jii jk2 jii cyI jkW) sz) := by
  refine Met.ofW (cc := cX10_image) (maxL := 1) (ret := (some .int)) (by decide) rfl ?_
  intro p e s m args below meth c s₁ B hml hv
  obtain ⟨rfl, hsz, hP, hK, hD0, hNw⟩ := hv
  have hx := B.exec
  have hb := B.bytes
  have hr := B.returns
  have hts := atoms_spec (ws := wsX10_image) B.pre
  have hown : s.vm.findClass RX10 = some m.cls := findClass_of_methodNamed B.named
  have hlocks := B.notSynchronized
  subst hsz
  have hD := hD0.self (sz := s.heap.size)
  generalize hAe : va_A (qoJ a0 jaK jfS ja1 jcp jbc jbV ja3 jbH jaT jbO jeG jjk jbI jbl jbn jkc jaa jbA jdD jjk cyP (qgi jik jiq jiD) jik jig jk0 jeG jhF jje jhF cyI jkH jig cyI jkU jaT jbb jbr jhD jff jbb cyI jbQ jiq jih jk1 jih cyI jkV jiD jii jk2 jii cyI jkW) s.heap.size = A at hD ⊢
  have hA : ∀ q : Nat, s.heap.size ≤ q → A q := fun q h => by rw [← hAe]; exact Or.inr h
  have hS : va_S A s.heap s.heap [] := va_S.rf
  have hP : va_P (dC, dI) vwCl (qoJ a0 jaK jfS ja1 jcp jbc jbV ja3 jbH jaT jbO jeG jjk jbI jbl jbn jkc jaa jbA jdD jjk cyP (qgi jik jiq jiD) jik jig jk0 jeG jhF jje jhF cyI jkH jig cyI jkU jaT jbb jbr jhD jff jbb cyI jbQ jiq jih jk1 jih cyI jkV jiD jii jk2 jii cyI jkW) s.heap := hP
  have hl := lv_entry ([.ref a0]) (n := 1) (nbq rfl)
  rw [lg_entry_eq]
  generalize (lg_sl ([.ref a0]) ++ List.replicate (1 - (lg_sl ([.ref a0])).length) Slot.unset).toArray = ls at hl ⊢
  have hl : lv_has ls 1 [(0, .ref a0)] := hl
  have C0 : cfx p s m _ meth c cX10_image (some .int) wsX10_image RX10 1 A (dC, dI) (kT cyB cyI cyJ cyP) := ⟨hx, hb, hr, hts, hown, hlocks, hml, hA, hK, hNw⟩
  clear hAe
  obtain ⟨H, hH⟩ : ∃ H, H = s.heap := ⟨_, rfl⟩
  rw [← hH] at hP ⊢
  have hS : va_S A s.heap H [] := by rw [hH]; exact va_S.rf
  have hS := hS
  refine lv_aload_n hx hb (qaa qcg 0 rfl) rfl (lv_at hl 0 rfl) ?_
  refine va_get (D := (dC, dI)) (ci := 10) (v := .int jkc) (C := RX10) (T := TX10) (N := 19) hx hb hts qaw hown hK hP 0 rfl rfl 15 (by decide) (hts _ qa8) (fun _ h9 => h9) rfl (qaa qcg 1 rfl) ?_
  refine lv_iconst (v := 3) hx hb (qaa qcg 2 rfl) (by decide) ?_
  refine lv_icmp_lt (tgt := 10) hx hb (qaa qcg 3 rfl) (by decide) (fun c1 => ?_) (fun c1 => ?_)
  · have hw := hw.1 c1
    refine lv_aload_n hx hb (qaa qcg 6 rfl) rfl (lv_at hl 0 rfl) ?_
    refine va_get (D := (dC, dI)) (ci := 10) (v := .ref jjk) (C := RX10) (T := TX10) (N := 19) hx hb hts qaw hown hK hP 0 rfl rfl 11 (by decide) (hts _ qEN) (fun _ h9 => h9) rfl (qaa qcg 7 rfl) ?_
    refine lv_aload_n hx hb (qaa qcg 8 rfl) rfl (lv_at hl 0 rfl) ?_
    refine va_get (D := (dC, dI)) (ci := 10) (v := .int jkc) (C := RX10) (T := TX10) (N := 19) hx hb hts qaw hown hK hP 0 rfl rfl 15 (by decide) (hts _ qa8) (fun _ h9 => h9) rfl (qaa qcg 9 rfl) ?_
    obtain ⟨hi9, hw⟩ := hw
    refine va_aldq hx hb hK hP 1 3 rfl rfl hi9 (qaa qcg 10 rfl) ?_
    rcases in3 hi9 with c2 | c2 | c2
    · have hw := hw.1 c2
      rw [show va_rf (qgi jik jiq jiD jkc.toNatClampNeg) = .ref jik from by rw [c2]; rfl]
      refine lv_aload_n hx hb (qaa qcg 11 rfl) rfl (lv_at hl 0 rfl) ?_
      refine va_get (D := (dC, dI)) (ci := 10) (v := .ref jeG) (C := RX10) (T := TX10) (N := 19) hx hb hts qaw hown hK hP 0 rfl rfl 10 (by decide) (hts _ qMn) (fun _ h9 => h9) rfl (qaa qcg 12 rfl) ?_
      obtain ⟨hCc, hPc, hDc, hFc⟩ := qac (ws' := (qBK jik jig jk0 jeG jhF jje jhF cyI jkH jig cyI jkU)) hP hD hS hA [2, 3, 4, 5] (by decide +kernel) rfl
      refine va_callv (va_runV (As := [.ref jeG]) (rest := []) ⟨hx, hb, hml, hown, hts⟩ (qps l dC dI cyB cyI cyJ cyP jik jeG jhF jig H.size jje jkH jkU jk0 hw) (cwV 1 hts gX10_image_X5_copyFrom rfl rfl rfl (by decide +kernel) ⟨nbq rfl, nbq rfl⟩) ⟨qab, va_recv (q := (RX5, TX5, 2)) hK hPc (ci := 5) (q0 := 0) rfl rfl, qae hPc hK hDc hNw⟩ rfl rfl hl.1 rfl (lv_room (nbq rfl)) (qaa qcg 13 rfl) ⟨nbq rfl, nbq rfl⟩) hS (fun q _ h => hFc q h) hFc (fun u t H1 locs ht hvm hw hB hz1 hk1 hS => ?_)
      obtain ⟨f3, x4⟩ := u
      obtain ⟨hP1, hK1, hD1⟩ := hB
      rw [ht] at hP1
      obtain ⟨hP, hD⟩ := qad (wr := [(a0, .inr (10, [jaK, jfS, ja1, jcp, jbc, jbV, ja3, jbH, .ref jaT, jbO, .ref jeG, .ref jjk, jbI, jbl, jbn, .int jkc, jaa, jbA, jdD])), (jjk, .inl (cyP, 3, .inr (.inr (.inr (.inr (qgi jik jiq jiD)))))), (jaT, .inr (1, [.ref jbb, jbr, jhD, jff])), (jbb, .inl (cyI, 64, .inl jbQ)), (jiq, .inr (5, [.ref jih, .int jk1])), (jih, .inl (cyI, 1088, .inl jkV)), (jiD, .inr (5, [.ref jii, .int jk2])), (jii, .inl (cyI, 1088, .inl jkW))]) (w1 := (qBK jik jig x4 jeG jhF jje jhF cyI jkH jig cyI f3)) (wn := (qoJ a0 jaK jfS ja1 jcp jbc jbV ja3 jbH jaT jbO jeG jjk jbI jbl jbn jkc jaa jbA jdD jjk cyP (qgi jik jiq jiD) jik jig x4 jeG jhF jje jhF cyI jkH jig cyI f3 jaT jbb jbr jhD jff jbb cyI jbQ jiq jih jk1 jih cyI jkV jiD jii jk2 jii cyI jkW)) hP hD [2, 3, 4, 5] [0, 1, 6, 7, 8, 9, 10, 11] [0, 1, 8, 9, 10, 11, 2, 3, 4, 5, 6, 7] hCc rfl (by decide +kernel) (by decide +kernel) (by decide +kernel) rfl hk1 hFc hP1 hD1
      generalize H1 = H at hP hS ⊢
      refine lv_aload_n hx hb (qaa qcg 14 rfl) rfl (lv_at hl 0 rfl) ?_
      refine va_get (D := (dC, dI)) (ci := 10) (v := .ref jjk) (C := RX10) (T := TX10) (N := 19) hx hb hts qaw hown hK hP 0 rfl rfl 11 (by decide) (hts _ qEN) (fun _ h9 => h9) rfl (qaa qcg 15 rfl) ?_
      refine lv_aload_n hx hb (qaa qai 0 rfl) rfl (lv_at hl 0 rfl) ?_
      refine va_get (D := (dC, dI)) (ci := 10) (v := .int jkc) (C := RX10) (T := TX10) (N := 19) hx hb hts qaw hown hK hP 0 rfl rfl 15 (by decide) (hts _ qa8) (fun _ h9 => h9) rfl (qaa qai 1 rfl) ?_
      obtain ⟨hi9, hw⟩ := hw
      refine va_aldq hx hb hK hP 1 3 rfl rfl hi9 (qaa qai 2 rfl) ?_
      rcases in3 hi9 with c5 | c5 | c5
      · have hw := hw.1 c5
        rw [show va_rf (qgi jik jiq jiD jkc.toNatClampNeg) = .ref jik from by rw [c5]; rfl]
        refine lv_aload_n hx hb (qaa qai 3 rfl) rfl (lv_at hl 0 rfl) ?_
        refine va_get (D := (dC, dI)) (ci := 10) (v := .ref jaT) (C := RX10) (T := TX10) (N := 19) hx hb hts qaw hown hK hP 0 rfl rfl 8 (by decide) (hts _ qqP) (fun _ h9 => h9) rfl (qaa qai 4 rfl) ?_
        obtain ⟨hCc, hPc, hDc, hFc⟩ := qac (ws' := (qsi jik jig x4 jaT jbb jbr jhD jff jbb cyI jbQ jig cyI f3)) hP hD hS hA [2, 6, 7, 5] (by decide +kernel) rfl
        refine va_callv (va_runV (As := [.ref jaT]) (rest := []) ⟨hx, hb, hml, hown, hts⟩ (qAp l dC dI cyB cyI cyJ cyP jik jaT jbb jig H.size (jbr) (jhD) (jff) jbQ f3 x4 hw) (cwV 1 hts gX10_image_X5_push rfl rfl rfl (by decide +kernel) ⟨nbq rfl, nbq rfl⟩) ⟨qab, va_recv (q := (RX5, TX5, 2)) hK hPc (ci := 5) (q0 := 0) rfl rfl, qae hPc hK hDc hNw⟩ rfl rfl hl.1 rfl (lv_room (nbq rfl)) (qaa qai 5 rfl) ⟨nbq rfl, nbq rfl⟩) hS (fun q _ h => hFc q h) hFc (fun u t H1 locs ht hvm hw hB hz1 hk1 hS => ?_)
        obtain ⟨f6, x7⟩ := u
        obtain ⟨hP1, hK1, hD1⟩ := hB
        rw [ht] at hP1
        obtain ⟨hP, hD⟩ := qad (wr := (qaZm a0 jaK jfS ja1 jcp jbc jbV ja3 jbH jaT jbO jeG jjk jbI jbl jbn jkc jaa jbA jdD jjk cyP (qgi jik jiq jiD) jeG jhF jje jhF cyI jkH jiq jih jk1 jih cyI jkV jiD jii jk2 jii cyI jkW)) (w1 := (qsi jik jig x7 jaT jbb jbr jhD jff jbb cyI jbQ jig cyI f6)) (wn := (qoJ a0 jaK jfS ja1 jcp jbc jbV ja3 jbH jaT jbO jeG jjk jbI jbl jbn jkc jaa jbA jdD jjk cyP (qgi jik jiq jiD) jik jig x7 jeG jhF jje jhF cyI jkH jig cyI f6 jaT jbb jbr jhD jff jbb cyI jbQ jiq jih jk1 jih cyI jkV jiD jii jk2 jii cyI jkW)) hP hD [2, 6, 7, 5] [0, 1, 3, 4, 8, 9, 10, 11] [0, 1, 8, 2, 3, 11, 9, 10, 4, 5, 6, 7] hCc rfl (by decide +kernel) (by decide +kernel) (by decide +kernel) rfl hk1 hFc hP1 hD1
        generalize H1 = H at hP hS ⊢
        refine lv_aload_n hx hb (qaa qai 6 rfl) rfl (lv_at hl 0 rfl) ?_
        refine lv_dup hx hb (qaa qai 7 rfl) rfl ?_
        refine va_get (D := (dC, dI)) (ci := 10) (v := .int jkc) (C := RX10) (T := TX10) (N := 19) hx hb hts qaw hown hK hP 0 rfl rfl 15 (by decide) (hts _ qa8) (fun _ h9 => h9) rfl (qaa qai 8 rfl) ?_
        refine lv_iconst (v := 1) hx hb (qaa qai 9 rfl) (by decide) ?_
        refine lv_iadd hx hb (qaa qai 10 rfl) ?_
        refine lv_topi (fun x8 ex8 => ?_)
        have hw := hw x8 ex8
        refine va_put (D := (dC, dI)) (ci := 10) (v := .int x8) (ty := .int) (C := RX10) (T := TX10) (N := 19) hx hb hts qaw tyX10 tyX10_ok nmX10 hown hK hP hD hS 0 rfl rfl 15 (by decide) (hts _ qa8) (fun _ h9 => h9) rfl (by decide +kernel) rfl rfl (nbq rfl) (qaa qai 11 rfl) (fun H locs hP hD hS => ?_)
        have hP : va_P (dC, dI) vwCl (qoJ a0 jaK jfS ja1 jcp jbc jbV ja3 jbH jaT jbO jeG jjk jbI jbl jbn x8 jaa jbA jdD jjk cyP (qgi jik jiq jiD) jik jig x7 jeG jhF jje jhF cyI jkH jig cyI f6 jaT jbb jbr jhD jff jbb cyI jbQ jiq jih jk1 jih cyI jkV jiD jii jk2 jii cyI jkW) H := hP
        have hD : va_D A (qoJ a0 jaK jfS ja1 jcp jbc jbV ja3 jbH jaT jbO jeG jjk jbI jbl jbn x8 jaa jbA jdD jjk cyP (qgi jik jiq jiD) jik jig x7 jeG jhF jje jhF cyI jkH jig cyI f6 jaT jbb jbr jhD jff jbb cyI jbQ jiq jih jk1 jih cyI jkV jiD jii jk2 jii cyI jkW) := hD
        refine lv_aload_n hx hb (qaa qai 12 rfl) rfl (lv_at hl 0 rfl) ?_
        refine va_get (D := (dC, dI)) (ci := 10) (v := .int x8) (C := RX10) (T := TX10) (N := 19) hx hb hts qaw hown hK hP 0 rfl rfl 15 (by decide) (hts _ qa8) (fun _ h9 => h9) rfl (qaa qai 13 rfl) ?_
        exact ((W.iret (v := x8) hx hb hr (fun t ht hW => ⟨⟨x8, (f6, x7, x8, jkV, jk1, jkW, jk2), rfl, hw, by rw [ht]; exact hP, va_K.moved hW.alike hK, hD⟩, hS.F ht⟩) hS.2.2 (qaa qai 14 rfl)))
      · have hw := hw.2.1 c5
        rw [show va_rf (qgi jik jiq jiD jkc.toNatClampNeg) = .ref jiq from by rw [c5]; rfl]
        refine lv_aload_n hx hb (qaa qai 3 rfl) rfl (lv_at hl 0 rfl) ?_
        refine va_get (D := (dC, dI)) (ci := 10) (v := .ref jaT) (C := RX10) (T := TX10) (N := 19) hx hb hts qaw hown hK hP 0 rfl rfl 8 (by decide) (hts _ qqP) (fun _ h9 => h9) rfl (qaa qai 4 rfl) ?_
        obtain ⟨hCc, hPc, hDc, hFc⟩ := qac (ws' := (qsi jiq jih jk1 jaT jbb jbr jhD jff jbb cyI jbQ jih cyI jkV)) hP hD hS hA [8, 6, 7, 9] (by decide +kernel) rfl
        refine va_callv (va_runV (As := [.ref jaT]) (rest := []) ⟨hx, hb, hml, hown, hts⟩ (qAp l dC dI cyB cyI cyJ cyP jiq jaT jbb jih H.size (jbr) (jhD) (jff) jbQ jkV jk1 hw) (cwV 1 hts gX10_image_X5_push rfl rfl rfl (by decide +kernel) ⟨nbq rfl, nbq rfl⟩) ⟨qab, va_recv (q := (RX5, TX5, 2)) hK hPc (ci := 5) (q0 := 0) rfl rfl, qae hPc hK hDc hNw⟩ rfl rfl hl.1 rfl (lv_room (nbq rfl)) (qaa qai 5 rfl) ⟨nbq rfl, nbq rfl⟩) hS (fun q _ h => hFc q h) hFc (fun u t H1 locs ht hvm hw hB hz1 hk1 hS => ?_)
        obtain ⟨f9, x10⟩ := u
        obtain ⟨hP1, hK1, hD1⟩ := hB
        rw [ht] at hP1
        obtain ⟨hP, hD⟩ := qad (wr := (qamy a0 jaK jfS ja1 jcp jbc jbV ja3 jbH jaT jbO jeG jjk jbI jbl jbn jkc jaa jbA jdD jjk cyP (qgi jik jiq jiD) jik jig x4 jeG jhF jje jhF cyI jkH jig cyI f3 jiD jii jk2 jii cyI jkW)) (w1 := (qsi jiq jih x10 jaT jbb jbr jhD jff jbb cyI jbQ jih cyI f9)) (wn := (qoJ a0 jaK jfS ja1 jcp jbc jbV ja3 jbH jaT jbO jeG jjk jbI jbl jbn jkc jaa jbA jdD jjk cyP (qgi jik jiq jiD) jik jig x4 jeG jhF jje jhF cyI jkH jig cyI f3 jaT jbb jbr jhD jff jbb cyI jbQ jiq jih x10 jih cyI f9 jiD jii jk2 jii cyI jkW)) hP hD [8, 6, 7, 9] [0, 1, 2, 3, 4, 5, 10, 11] [0, 1, 2, 3, 4, 5, 9, 10, 8, 11, 6, 7] hCc rfl (by decide +kernel) (by decide +kernel) (by decide +kernel) rfl hk1 hFc hP1 hD1
        generalize H1 = H at hP hS ⊢
        refine lv_aload_n hx hb (qaa qai 6 rfl) rfl (lv_at hl 0 rfl) ?_
        refine lv_dup hx hb (qaa qai 7 rfl) rfl ?_
        refine va_get (D := (dC, dI)) (ci := 10) (v := .int jkc) (C := RX10) (T := TX10) (N := 19) hx hb hts qaw hown hK hP 0 rfl rfl 15 (by decide) (hts _ qa8) (fun _ h9 => h9) rfl (qaa qai 8 rfl) ?_
        refine lv_iconst (v := 1) hx hb (qaa qai 9 rfl) (by decide) ?_
        refine lv_iadd hx hb (qaa qai 10 rfl) ?_
        refine lv_topi (fun x11 ex11 => ?_)
        have hw := hw x11 ex11
        refine va_put (D := (dC, dI)) (ci := 10) (v := .int x11) (ty := .int) (C := RX10) (T := TX10) (N := 19) hx hb hts qaw tyX10 tyX10_ok nmX10 hown hK hP hD hS 0 rfl rfl 15 (by decide) (hts _ qa8) (fun _ h9 => h9) rfl (by decide +kernel) rfl rfl (nbq rfl) (qaa qai 11 rfl) (fun H locs hP hD hS => ?_)
        have hP : va_P (dC, dI) vwCl (qoJ a0 jaK jfS ja1 jcp jbc jbV ja3 jbH jaT jbO jeG jjk jbI jbl jbn x11 jaa jbA jdD jjk cyP (qgi jik jiq jiD) jik jig x4 jeG jhF jje jhF cyI jkH jig cyI f3 jaT jbb jbr jhD jff jbb cyI jbQ jiq jih x10 jih cyI f9 jiD jii jk2 jii cyI jkW) H := hP
        have hD : va_D A (qoJ a0 jaK jfS ja1 jcp jbc jbV ja3 jbH jaT jbO jeG jjk jbI jbl jbn x11 jaa jbA jdD jjk cyP (qgi jik jiq jiD) jik jig x4 jeG jhF jje jhF cyI jkH jig cyI f3 jaT jbb jbr jhD jff jbb cyI jbQ jiq jih x10 jih cyI f9 jiD jii jk2 jii cyI jkW) := hD
        refine lv_aload_n hx hb (qaa qai 12 rfl) rfl (lv_at hl 0 rfl) ?_
        refine va_get (D := (dC, dI)) (ci := 10) (v := .int x11) (C := RX10) (T := TX10) (N := 19) hx hb hts qaw hown hK hP 0 rfl rfl 15 (by decide) (hts _ qa8) (fun _ h9 => h9) rfl (qaa qai 13 rfl) ?_
        exact ((W.iret (v := x11) hx hb hr (fun t ht hW => ⟨⟨x11, (f3, x4, x11, f9, x10, jkW, jk2), rfl, hw, by rw [ht]; exact hP, va_K.moved hW.alike hK, hD⟩, hS.F ht⟩) hS.2.2 (qaa qai 14 rfl)))
      · have hw := hw.2.2 c5
        rw [show va_rf (qgi jik jiq jiD jkc.toNatClampNeg) = .ref jiD from by rw [c5]; rfl]
        refine lv_aload_n hx hb (qaa qai 3 rfl) rfl (lv_at hl 0 rfl) ?_
        refine va_get (D := (dC, dI)) (ci := 10) (v := .ref jaT) (C := RX10) (T := TX10) (N := 19) hx hb hts qaw hown hK hP 0 rfl rfl 8 (by decide) (hts _ qqP) (fun _ h9 => h9) rfl (qaa qai 4 rfl) ?_
        obtain ⟨hCc, hPc, hDc, hFc⟩ := qac (ws' := (qsi jiD jii jk2 jaT jbb jbr jhD jff jbb cyI jbQ jii cyI jkW)) hP hD hS hA [10, 6, 7, 11] (by decide +kernel) rfl
        refine va_callv (va_runV (As := [.ref jaT]) (rest := []) ⟨hx, hb, hml, hown, hts⟩ (qAp l dC dI cyB cyI cyJ cyP jiD jaT jbb jii H.size (jbr) (jhD) (jff) jbQ jkW jk2 hw) (cwV 1 hts gX10_image_X5_push rfl rfl rfl (by decide +kernel) ⟨nbq rfl, nbq rfl⟩) ⟨qab, va_recv (q := (RX5, TX5, 2)) hK hPc (ci := 5) (q0 := 0) rfl rfl, qae hPc hK hDc hNw⟩ rfl rfl hl.1 rfl (lv_room (nbq rfl)) (qaa qai 5 rfl) ⟨nbq rfl, nbq rfl⟩) hS (fun q _ h => hFc q h) hFc (fun u t H1 locs ht hvm hw hB hz1 hk1 hS => ?_)
        obtain ⟨f12, x13⟩ := u
        obtain ⟨hP1, hK1, hD1⟩ := hB
        rw [ht] at hP1
        obtain ⟨hP, hD⟩ := qad (wr := (qamy a0 jaK jfS ja1 jcp jbc jbV ja3 jbH jaT jbO jeG jjk jbI jbl jbn jkc jaa jbA jdD jjk cyP (qgi jik jiq jiD) jik jig x4 jeG jhF jje jhF cyI jkH jig cyI f3 jiq jih jk1 jih cyI jkV)) (w1 := (qsi jiD jii x13 jaT jbb jbr jhD jff jbb cyI jbQ jii cyI f12)) (wn := (qoJ a0 jaK jfS ja1 jcp jbc jbV ja3 jbH jaT jbO jeG jjk jbI jbl jbn jkc jaa jbA jdD jjk cyP (qgi jik jiq jiD) jik jig x4 jeG jhF jje jhF cyI jkH jig cyI f3 jaT jbb jbr jhD jff jbb cyI jbQ jiq jih jk1 jih cyI jkV jiD jii x13 jii cyI f12)) hP hD [10, 6, 7, 11] [0, 1, 2, 3, 4, 5, 8, 9] [0, 1, 2, 3, 4, 5, 9, 10, 6, 7, 8, 11] hCc rfl (by decide +kernel) (by decide +kernel) (by decide +kernel) rfl hk1 hFc hP1 hD1
        generalize H1 = H at hP hS ⊢
        refine lv_aload_n hx hb (qaa qai 6 rfl) rfl (lv_at hl 0 rfl) ?_
        refine lv_dup hx hb (qaa qai 7 rfl) rfl ?_
        refine va_get (D := (dC, dI)) (ci := 10) (v := .int jkc) (C := RX10) (T := TX10) (N := 19) hx hb hts qaw hown hK hP 0 rfl rfl 15 (by decide) (hts _ qa8) (fun _ h9 => h9) rfl (qaa qai 8 rfl) ?_
        refine lv_iconst (v := 1) hx hb (qaa qai 9 rfl) (by decide) ?_
        refine lv_iadd hx hb (qaa qai 10 rfl) ?_
        refine lv_topi (fun x14 ex14 => ?_)
        have hw := hw x14 ex14
        refine va_put (D := (dC, dI)) (ci := 10) (v := .int x14) (ty := .int) (C := RX10) (T := TX10) (N := 19) hx hb hts qaw tyX10 tyX10_ok nmX10 hown hK hP hD hS 0 rfl rfl 15 (by decide) (hts _ qa8) (fun _ h9 => h9) rfl (by decide +kernel) rfl rfl (nbq rfl) (qaa qai 11 rfl) (fun H locs hP hD hS => ?_)
        have hP : va_P (dC, dI) vwCl (qoJ a0 jaK jfS ja1 jcp jbc jbV ja3 jbH jaT jbO jeG jjk jbI jbl jbn x14 jaa jbA jdD jjk cyP (qgi jik jiq jiD) jik jig x4 jeG jhF jje jhF cyI jkH jig cyI f3 jaT jbb jbr jhD jff jbb cyI jbQ jiq jih jk1 jih cyI jkV jiD jii x13 jii cyI f12) H := hP
        have hD : va_D A (qoJ a0 jaK jfS ja1 jcp jbc jbV ja3 jbH jaT jbO jeG jjk jbI jbl jbn x14 jaa jbA jdD jjk cyP (qgi jik jiq jiD) jik jig x4 jeG jhF jje jhF cyI jkH jig cyI f3 jaT jbb jbr jhD jff jbb cyI jbQ jiq jih jk1 jih cyI jkV jiD jii x13 jii cyI f12) := hD
        refine lv_aload_n hx hb (qaa qai 12 rfl) rfl (lv_at hl 0 rfl) ?_
        refine va_get (D := (dC, dI)) (ci := 10) (v := .int x14) (C := RX10) (T := TX10) (N := 19) hx hb hts qaw hown hK hP 0 rfl rfl 15 (by decide) (hts _ qa8) (fun _ h9 => h9) rfl (qaa qai 13 rfl) ?_
        exact ((W.iret (v := x14) hx hb hr (fun t ht hW => ⟨⟨x14, (f3, x4, x14, jkV, jk1, f12, x13), rfl, hw, by rw [ht]; exact hP, va_K.moved hW.alike hK, hD⟩, hS.F ht⟩) hS.2.2 (qaa qai 14 rfl)))
    · have hw := hw.2.1 c2
      rw [show va_rf (qgi jik jiq jiD jkc.toNatClampNeg) = .ref jiq from by rw [c2]; rfl]
      refine lv_aload_n hx hb (qaa qcg 11 rfl) rfl (lv_at hl 0 rfl) ?_
      refine va_get (D := (dC, dI)) (ci := 10) (v := .ref jeG) (C := RX10) (T := TX10) (N := 19) hx hb hts qaw hown hK hP 0 rfl rfl 10 (by decide) (hts _ qMn) (fun _ h9 => h9) rfl (qaa qcg 12 rfl) ?_
      obtain ⟨hCc, hPc, hDc, hFc⟩ := qac (ws' := (qBK jiq jih jk1 jeG jhF jje jhF cyI jkH jih cyI jkV)) hP hD hS hA [8, 3, 4, 9] (by decide +kernel) rfl
      refine va_callv (va_runV (As := [.ref jeG]) (rest := []) ⟨hx, hb, hml, hown, hts⟩ (qps l dC dI cyB cyI cyJ cyP jiq jeG jhF jih H.size jje jkH jkV jk1 hw) (cwV 1 hts gX10_image_X5_copyFrom rfl rfl rfl (by decide +kernel) ⟨nbq rfl, nbq rfl⟩) ⟨qab, va_recv (q := (RX5, TX5, 2)) hK hPc (ci := 5) (q0 := 0) rfl rfl, qae hPc hK hDc hNw⟩ rfl rfl hl.1 rfl (lv_room (nbq rfl)) (qaa qcg 13 rfl) ⟨nbq rfl, nbq rfl⟩) hS (fun q _ h => hFc q h) hFc (fun u t H1 locs ht hvm hw hB hz1 hk1 hS => ?_)
      obtain ⟨f15, x16⟩ := u
      obtain ⟨hP1, hK1, hD1⟩ := hB
      rw [ht] at hP1
      obtain ⟨hP, hD⟩ := qad (wr := (qa5y a0 jaK jfS ja1 jcp jbc jbV ja3 jbH jaT jbO jeG jjk jbI jbl jbn jkc jaa jbA jdD jjk cyP (qgi jik jiq jiD) jik jig jk0 jig cyI jkU jaT jbb jbr jhD jff jbb cyI jbQ jiD jii jk2 jii cyI jkW)) (w1 := (qBK jiq jih x16 jeG jhF jje jhF cyI jkH jih cyI f15)) (wn := (qoJ a0 jaK jfS ja1 jcp jbc jbV ja3 jbH jaT jbO jeG jjk jbI jbl jbn jkc jaa jbA jdD jjk cyP (qgi jik jiq jiD) jik jig jk0 jeG jhF jje jhF cyI jkH jig cyI jkU jaT jbb jbr jhD jff jbb cyI jbQ jiq jih x16 jih cyI f15 jiD jii jk2 jii cyI jkW)) hP hD [8, 3, 4, 9] [0, 1, 2, 5, 6, 7, 10, 11] [0, 1, 2, 9, 10, 3, 4, 5, 8, 11, 6, 7] hCc rfl (by decide +kernel) (by decide +kernel) (by decide +kernel) rfl hk1 hFc hP1 hD1
      generalize H1 = H at hP hS ⊢
      refine lv_aload_n hx hb (qaa qcg 14 rfl) rfl (lv_at hl 0 rfl) ?_
      refine va_get (D := (dC, dI)) (ci := 10) (v := .ref jjk) (C := RX10) (T := TX10) (N := 19) hx hb hts qaw hown hK hP 0 rfl rfl 11 (by decide) (hts _ qEN) (fun _ h9 => h9) rfl (qaa qcg 15 rfl) ?_
      refine lv_aload_n hx hb (qaa qai 0 rfl) rfl (lv_at hl 0 rfl) ?_
      refine va_get (D := (dC, dI)) (ci := 10) (v := .int jkc) (C := RX10) (T := TX10) (N := 19) hx hb hts qaw hown hK hP 0 rfl rfl 15 (by decide) (hts _ qa8) (fun _ h9 => h9) rfl (qaa qai 1 rfl) ?_
      obtain ⟨hi9, hw⟩ := hw
      refine va_aldq hx hb hK hP 1 3 rfl rfl hi9 (qaa qai 2 rfl) ?_
      rcases in3 hi9 with c17 | c17 | c17
      · have hw := hw.1 c17
        rw [show va_rf (qgi jik jiq jiD jkc.toNatClampNeg) = .ref jik from by rw [c17]; rfl]
        refine lv_aload_n hx hb (qaa qai 3 rfl) rfl (lv_at hl 0 rfl) ?_
        refine va_get (D := (dC, dI)) (ci := 10) (v := .ref jaT) (C := RX10) (T := TX10) (N := 19) hx hb hts qaw hown hK hP 0 rfl rfl 8 (by decide) (hts _ qqP) (fun _ h9 => h9) rfl (qaa qai 4 rfl) ?_
        obtain ⟨hCc, hPc, hDc, hFc⟩ := qac (ws' := (qsi jik jig jk0 jaT jbb jbr jhD jff jbb cyI jbQ jig cyI jkU)) hP hD hS hA [2, 6, 7, 5] (by decide +kernel) rfl
        refine va_callv (va_runV (As := [.ref jaT]) (rest := []) ⟨hx, hb, hml, hown, hts⟩ (qAp l dC dI cyB cyI cyJ cyP jik jaT jbb jig H.size (jbr) (jhD) (jff) jbQ jkU jk0 hw) (cwV 1 hts gX10_image_X5_push rfl rfl rfl (by decide +kernel) ⟨nbq rfl, nbq rfl⟩) ⟨qab, va_recv (q := (RX5, TX5, 2)) hK hPc (ci := 5) (q0 := 0) rfl rfl, qae hPc hK hDc hNw⟩ rfl rfl hl.1 rfl (lv_room (nbq rfl)) (qaa qai 5 rfl) ⟨nbq rfl, nbq rfl⟩) hS (fun q _ h => hFc q h) hFc (fun u t H1 locs ht hvm hw hB hz1 hk1 hS => ?_)
        obtain ⟨f18, x19⟩ := u
        obtain ⟨hP1, hK1, hD1⟩ := hB
        rw [ht] at hP1
        obtain ⟨hP, hD⟩ := qad (wr := (qaZm a0 jaK jfS ja1 jcp jbc jbV ja3 jbH jaT jbO jeG jjk jbI jbl jbn jkc jaa jbA jdD jjk cyP (qgi jik jiq jiD) jeG jhF jje jhF cyI jkH jiq jih x16 jih cyI f15 jiD jii jk2 jii cyI jkW)) (w1 := (qsi jik jig x19 jaT jbb jbr jhD jff jbb cyI jbQ jig cyI f18)) (wn := (qoJ a0 jaK jfS ja1 jcp jbc jbV ja3 jbH jaT jbO jeG jjk jbI jbl jbn jkc jaa jbA jdD jjk cyP (qgi jik jiq jiD) jik jig x19 jeG jhF jje jhF cyI jkH jig cyI f18 jaT jbb jbr jhD jff jbb cyI jbQ jiq jih x16 jih cyI f15 jiD jii jk2 jii cyI jkW)) hP hD [2, 6, 7, 5] [0, 1, 3, 4, 8, 9, 10, 11] [0, 1, 8, 2, 3, 11, 9, 10, 4, 5, 6, 7] hCc rfl (by decide +kernel) (by decide +kernel) (by decide +kernel) rfl hk1 hFc hP1 hD1
        generalize H1 = H at hP hS ⊢
        refine lv_aload_n hx hb (qaa qai 6 rfl) rfl (lv_at hl 0 rfl) ?_
        refine lv_dup hx hb (qaa qai 7 rfl) rfl ?_
        refine va_get (D := (dC, dI)) (ci := 10) (v := .int jkc) (C := RX10) (T := TX10) (N := 19) hx hb hts qaw hown hK hP 0 rfl rfl 15 (by decide) (hts _ qa8) (fun _ h9 => h9) rfl (qaa qai 8 rfl) ?_
        refine lv_iconst (v := 1) hx hb (qaa qai 9 rfl) (by decide) ?_
        refine lv_iadd hx hb (qaa qai 10 rfl) ?_
        refine lv_topi (fun x20 ex20 => ?_)
        have hw := hw x20 ex20
        refine va_put (D := (dC, dI)) (ci := 10) (v := .int x20) (ty := .int) (C := RX10) (T := TX10) (N := 19) hx hb hts qaw tyX10 tyX10_ok nmX10 hown hK hP hD hS 0 rfl rfl 15 (by decide) (hts _ qa8) (fun _ h9 => h9) rfl (by decide +kernel) rfl rfl (nbq rfl) (qaa qai 11 rfl) (fun H locs hP hD hS => ?_)
        have hP : va_P (dC, dI) vwCl (qoJ a0 jaK jfS ja1 jcp jbc jbV ja3 jbH jaT jbO jeG jjk jbI jbl jbn x20 jaa jbA jdD jjk cyP (qgi jik jiq jiD) jik jig x19 jeG jhF jje jhF cyI jkH jig cyI f18 jaT jbb jbr jhD jff jbb cyI jbQ jiq jih x16 jih cyI f15 jiD jii jk2 jii cyI jkW) H := hP
        have hD : va_D A (qoJ a0 jaK jfS ja1 jcp jbc jbV ja3 jbH jaT jbO jeG jjk jbI jbl jbn x20 jaa jbA jdD jjk cyP (qgi jik jiq jiD) jik jig x19 jeG jhF jje jhF cyI jkH jig cyI f18 jaT jbb jbr jhD jff jbb cyI jbQ jiq jih x16 jih cyI f15 jiD jii jk2 jii cyI jkW) := hD
        refine lv_aload_n hx hb (qaa qai 12 rfl) rfl (lv_at hl 0 rfl) ?_
        refine va_get (D := (dC, dI)) (ci := 10) (v := .int x20) (C := RX10) (T := TX10) (N := 19) hx hb hts qaw hown hK hP 0 rfl rfl 15 (by decide) (hts _ qa8) (fun _ h9 => h9) rfl (qaa qai 13 rfl) ?_
        exact ((W.iret (v := x20) hx hb hr (fun t ht hW => ⟨⟨x20, (f18, x19, x20, f15, x16, jkW, jk2), rfl, hw, by rw [ht]; exact hP, va_K.moved hW.alike hK, hD⟩, hS.F ht⟩) hS.2.2 (qaa qai 14 rfl)))
      · have hw := hw.2.1 c17
        rw [show va_rf (qgi jik jiq jiD jkc.toNatClampNeg) = .ref jiq from by rw [c17]; rfl]
        refine lv_aload_n hx hb (qaa qai 3 rfl) rfl (lv_at hl 0 rfl) ?_
        refine va_get (D := (dC, dI)) (ci := 10) (v := .ref jaT) (C := RX10) (T := TX10) (N := 19) hx hb hts qaw hown hK hP 0 rfl rfl 8 (by decide) (hts _ qqP) (fun _ h9 => h9) rfl (qaa qai 4 rfl) ?_
        obtain ⟨hCc, hPc, hDc, hFc⟩ := qac (ws' := (qsi jiq jih x16 jaT jbb jbr jhD jff jbb cyI jbQ jih cyI f15)) hP hD hS hA [8, 6, 7, 9] (by decide +kernel) rfl
        refine va_callv (va_runV (As := [.ref jaT]) (rest := []) ⟨hx, hb, hml, hown, hts⟩ (qAp l dC dI cyB cyI cyJ cyP jiq jaT jbb jih H.size (jbr) (jhD) (jff) jbQ f15 x16 hw) (cwV 1 hts gX10_image_X5_push rfl rfl rfl (by decide +kernel) ⟨nbq rfl, nbq rfl⟩) ⟨qab, va_recv (q := (RX5, TX5, 2)) hK hPc (ci := 5) (q0 := 0) rfl rfl, qae hPc hK hDc hNw⟩ rfl rfl hl.1 rfl (lv_room (nbq rfl)) (qaa qai 5 rfl) ⟨nbq rfl, nbq rfl⟩) hS (fun q _ h => hFc q h) hFc (fun u t H1 locs ht hvm hw hB hz1 hk1 hS => ?_)
        obtain ⟨f21, x22⟩ := u
        obtain ⟨hP1, hK1, hD1⟩ := hB
        rw [ht] at hP1
        obtain ⟨hP, hD⟩ := qad (wr := (qamy a0 jaK jfS ja1 jcp jbc jbV ja3 jbH jaT jbO jeG jjk jbI jbl jbn jkc jaa jbA jdD jjk cyP (qgi jik jiq jiD) jik jig jk0 jeG jhF jje jhF cyI jkH jig cyI jkU jiD jii jk2 jii cyI jkW)) (w1 := (qsi jiq jih x22 jaT jbb jbr jhD jff jbb cyI jbQ jih cyI f21)) (wn := (qoJ a0 jaK jfS ja1 jcp jbc jbV ja3 jbH jaT jbO jeG jjk jbI jbl jbn jkc jaa jbA jdD jjk cyP (qgi jik jiq jiD) jik jig jk0 jeG jhF jje jhF cyI jkH jig cyI jkU jaT jbb jbr jhD jff jbb cyI jbQ jiq jih x22 jih cyI f21 jiD jii jk2 jii cyI jkW)) hP hD [8, 6, 7, 9] [0, 1, 2, 3, 4, 5, 10, 11] [0, 1, 2, 3, 4, 5, 9, 10, 8, 11, 6, 7] hCc rfl (by decide +kernel) (by decide +kernel) (by decide +kernel) rfl hk1 hFc hP1 hD1
        generalize H1 = H at hP hS ⊢
        refine lv_aload_n hx hb (qaa qai 6 rfl) rfl (lv_at hl 0 rfl) ?_
        refine lv_dup hx hb (qaa qai 7 rfl) rfl ?_
        refine va_get (D := (dC, dI)) (ci := 10) (v := .int jkc) (C := RX10) (T := TX10) (N := 19) hx hb hts qaw hown hK hP 0 rfl rfl 15 (by decide) (hts _ qa8) (fun _ h9 => h9) rfl (qaa qai 8 rfl) ?_
        refine lv_iconst (v := 1) hx hb (qaa qai 9 rfl) (by decide) ?_
        refine lv_iadd hx hb (qaa qai 10 rfl) ?_
        refine lv_topi (fun x23 ex23 => ?_)
        have hw := hw x23 ex23
        refine va_put (D := (dC, dI)) (ci := 10) (v := .int x23) (ty := .int) (C := RX10) (T := TX10) (N := 19) hx hb hts qaw tyX10 tyX10_ok nmX10 hown hK hP hD hS 0 rfl rfl 15 (by decide) (hts _ qa8) (fun _ h9 => h9) rfl (by decide +kernel) rfl rfl (nbq rfl) (qaa qai 11 rfl) (fun H locs hP hD hS => ?_)
        have hP : va_P (dC, dI) vwCl (qoJ a0 jaK jfS ja1 jcp jbc jbV ja3 jbH jaT jbO jeG jjk jbI jbl jbn x23 jaa jbA jdD jjk cyP (qgi jik jiq jiD) jik jig jk0 jeG jhF jje jhF cyI jkH jig cyI jkU jaT jbb jbr jhD jff jbb cyI jbQ jiq jih x22 jih cyI f21 jiD jii jk2 jii cyI jkW) H := hP
        have hD : va_D A (qoJ a0 jaK jfS ja1 jcp jbc jbV ja3 jbH jaT jbO jeG jjk jbI jbl jbn x23 jaa jbA jdD jjk cyP (qgi jik jiq jiD) jik jig jk0 jeG jhF jje jhF cyI jkH jig cyI jkU jaT jbb jbr jhD jff jbb cyI jbQ jiq jih x22 jih cyI f21 jiD jii jk2 jii cyI jkW) := hD
        refine lv_aload_n hx hb (qaa qai 12 rfl) rfl (lv_at hl 0 rfl) ?_
        refine va_get (D := (dC, dI)) (ci := 10) (v := .int x23) (C := RX10) (T := TX10) (N := 19) hx hb hts qaw hown hK hP 0 rfl rfl 15 (by decide) (hts _ qa8) (fun _ h9 => h9) rfl (qaa qai 13 rfl) ?_
        exact ((W.iret (v := x23) hx hb hr (fun t ht hW => ⟨⟨x23, (jkU, jk0, x23, f21, x22, jkW, jk2), rfl, hw, by rw [ht]; exact hP, va_K.moved hW.alike hK, hD⟩, hS.F ht⟩) hS.2.2 (qaa qai 14 rfl)))
      · have hw := hw.2.2 c17
        rw [show va_rf (qgi jik jiq jiD jkc.toNatClampNeg) = .ref jiD from by rw [c17]; rfl]
        refine lv_aload_n hx hb (qaa qai 3 rfl) rfl (lv_at hl 0 rfl) ?_
        refine va_get (D := (dC, dI)) (ci := 10) (v := .ref jaT) (C := RX10) (T := TX10) (N := 19) hx hb hts qaw hown hK hP 0 rfl rfl 8 (by decide) (hts _ qqP) (fun _ h9 => h9) rfl (qaa qai 4 rfl) ?_
        obtain ⟨hCc, hPc, hDc, hFc⟩ := qac (ws' := (qsi jiD jii jk2 jaT jbb jbr jhD jff jbb cyI jbQ jii cyI jkW)) hP hD hS hA [10, 6, 7, 11] (by decide +kernel) rfl
        refine va_callv (va_runV (As := [.ref jaT]) (rest := []) ⟨hx, hb, hml, hown, hts⟩ (qAp l dC dI cyB cyI cyJ cyP jiD jaT jbb jii H.size (jbr) (jhD) (jff) jbQ jkW jk2 hw) (cwV 1 hts gX10_image_X5_push rfl rfl rfl (by decide +kernel) ⟨nbq rfl, nbq rfl⟩) ⟨qab, va_recv (q := (RX5, TX5, 2)) hK hPc (ci := 5) (q0 := 0) rfl rfl, qae hPc hK hDc hNw⟩ rfl rfl hl.1 rfl (lv_room (nbq rfl)) (qaa qai 5 rfl) ⟨nbq rfl, nbq rfl⟩) hS (fun q _ h => hFc q h) hFc (fun u t H1 locs ht hvm hw hB hz1 hk1 hS => ?_)
        obtain ⟨f24, x25⟩ := u
        obtain ⟨hP1, hK1, hD1⟩ := hB
        rw [ht] at hP1
        obtain ⟨hP, hD⟩ := qad (wr := (qamy a0 jaK jfS ja1 jcp jbc jbV ja3 jbH jaT jbO jeG jjk jbI jbl jbn jkc jaa jbA jdD jjk cyP (qgi jik jiq jiD) jik jig jk0 jeG jhF jje jhF cyI jkH jig cyI jkU jiq jih x16 jih cyI f15)) (w1 := (qsi jiD jii x25 jaT jbb jbr jhD jff jbb cyI jbQ jii cyI f24)) (wn := (qoJ a0 jaK jfS ja1 jcp jbc jbV ja3 jbH jaT jbO jeG jjk jbI jbl jbn jkc jaa jbA jdD jjk cyP (qgi jik jiq jiD) jik jig jk0 jeG jhF jje jhF cyI jkH jig cyI jkU jaT jbb jbr jhD jff jbb cyI jbQ jiq jih x16 jih cyI f15 jiD jii x25 jii cyI f24)) hP hD [10, 6, 7, 11] [0, 1, 2, 3, 4, 5, 8, 9] [0, 1, 2, 3, 4, 5, 9, 10, 6, 7, 8, 11] hCc rfl (by decide +kernel) (by decide +kernel) (by decide +kernel) rfl hk1 hFc hP1 hD1
        generalize H1 = H at hP hS ⊢
        refine lv_aload_n hx hb (qaa qai 6 rfl) rfl (lv_at hl 0 rfl) ?_
        refine lv_dup hx hb (qaa qai 7 rfl) rfl ?_
        refine va_get (D := (dC, dI)) (ci := 10) (v := .int jkc) (C := RX10) (T := TX10) (N := 19) hx hb hts qaw hown hK hP 0 rfl rfl 15 (by decide) (hts _ qa8) (fun _ h9 => h9) rfl (qaa qai 8 rfl) ?_
        refine lv_iconst (v := 1) hx hb (qaa qai 9 rfl) (by decide) ?_
        refine lv_iadd hx hb (qaa qai 10 rfl) ?_
        refine lv_topi (fun x26 ex26 => ?_)
        have hw := hw x26 ex26
        refine va_put (D := (dC, dI)) (ci := 10) (v := .int x26) (ty := .int) (C := RX10) (T := TX10) (N := 19) hx hb hts qaw tyX10 tyX10_ok nmX10 hown hK hP hD hS 0 rfl rfl 15 (by decide) (hts _ qa8) (fun _ h9 => h9) rfl (by decide +kernel) rfl rfl (nbq rfl) (qaa qai 11 rfl) (fun H locs hP hD hS => ?_)
        have hP : va_P (dC, dI) vwCl (qoJ a0 jaK jfS ja1 jcp jbc jbV ja3 jbH jaT jbO jeG jjk jbI jbl jbn x26 jaa jbA jdD jjk cyP (qgi jik jiq jiD) jik jig jk0 jeG jhF jje jhF cyI jkH jig cyI jkU jaT jbb jbr jhD jff jbb cyI jbQ jiq jih x16 jih cyI f15 jiD jii x25 jii cyI f24) H := hP
        have hD : va_D A (qoJ a0 jaK jfS ja1 jcp jbc jbV ja3 jbH jaT jbO jeG jjk jbI jbl jbn x26 jaa jbA jdD jjk cyP (qgi jik jiq jiD) jik jig jk0 jeG jhF jje jhF cyI jkH jig cyI jkU jaT jbb jbr jhD jff jbb cyI jbQ jiq jih x16 jih cyI f15 jiD jii x25 jii cyI f24) := hD
        refine lv_aload_n hx hb (qaa qai 12 rfl) rfl (lv_at hl 0 rfl) ?_
        refine va_get (D := (dC, dI)) (ci := 10) (v := .int x26) (C := RX10) (T := TX10) (N := 19) hx hb hts qaw hown hK hP 0 rfl rfl 15 (by decide) (hts _ qa8) (fun _ h9 => h9) rfl (qaa qai 13 rfl) ?_
        exact ((W.iret (v := x26) hx hb hr (fun t ht hW => ⟨⟨x26, (jkU, jk0, x26, f15, x16, f24, x25), rfl, hw, by rw [ht]; exact hP, va_K.moved hW.alike hK, hD⟩, hS.F ht⟩) hS.2.2 (qaa qai 14 rfl)))
    · have hw := hw.2.2 c2
      rw [show va_rf (qgi jik jiq jiD jkc.toNatClampNeg) = .ref jiD from by rw [c2]; rfl]
      refine lv_aload_n hx hb (qaa qcg 11 rfl) rfl (lv_at hl 0 rfl) ?_
      refine va_get (D := (dC, dI)) (ci := 10) (v := .ref jeG) (C := RX10) (T := TX10) (N := 19) hx hb hts qaw hown hK hP 0 rfl rfl 10 (by decide) (hts _ qMn) (fun _ h9 => h9) rfl (qaa qcg 12 rfl) ?_
      obtain ⟨hCc, hPc, hDc, hFc⟩ := qac (ws' := (qBK jiD jii jk2 jeG jhF jje jhF cyI jkH jii cyI jkW)) hP hD hS hA [10, 3, 4, 11] (by decide +kernel) rfl
      refine va_callv (va_runV (As := [.ref jeG]) (rest := []) ⟨hx, hb, hml, hown, hts⟩ (qps l dC dI cyB cyI cyJ cyP jiD jeG jhF jii H.size jje jkH jkW jk2 hw) (cwV 1 hts gX10_image_X5_copyFrom rfl rfl rfl (by decide +kernel) ⟨nbq rfl, nbq rfl⟩) ⟨qab, va_recv (q := (RX5, TX5, 2)) hK hPc (ci := 5) (q0 := 0) rfl rfl, qae hPc hK hDc hNw⟩ rfl rfl hl.1 rfl (lv_room (nbq rfl)) (qaa qcg 13 rfl) ⟨nbq rfl, nbq rfl⟩) hS (fun q _ h => hFc q h) hFc (fun u t H1 locs ht hvm hw hB hz1 hk1 hS => ?_)
      obtain ⟨f27, x28⟩ := u
      obtain ⟨hP1, hK1, hD1⟩ := hB
      rw [ht] at hP1
      obtain ⟨hP, hD⟩ := qad (wr := (qa5y a0 jaK jfS ja1 jcp jbc jbV ja3 jbH jaT jbO jeG jjk jbI jbl jbn jkc jaa jbA jdD jjk cyP (qgi jik jiq jiD) jik jig jk0 jig cyI jkU jaT jbb jbr jhD jff jbb cyI jbQ jiq jih jk1 jih cyI jkV)) (w1 := (qBK jiD jii x28 jeG jhF jje jhF cyI jkH jii cyI f27)) (wn := (qoJ a0 jaK jfS ja1 jcp jbc jbV ja3 jbH jaT jbO jeG jjk jbI jbl jbn jkc jaa jbA jdD jjk cyP (qgi jik jiq jiD) jik jig jk0 jeG jhF jje jhF cyI jkH jig cyI jkU jaT jbb jbr jhD jff jbb cyI jbQ jiq jih jk1 jih cyI jkV jiD jii x28 jii cyI f27)) hP hD [10, 3, 4, 11] [0, 1, 2, 5, 6, 7, 8, 9] [0, 1, 2, 9, 10, 3, 4, 5, 6, 7, 8, 11] hCc rfl (by decide +kernel) (by decide +kernel) (by decide +kernel) rfl hk1 hFc hP1 hD1
      generalize H1 = H at hP hS ⊢
      refine lv_aload_n hx hb (qaa qcg 14 rfl) rfl (lv_at hl 0 rfl) ?_
      refine va_get (D := (dC, dI)) (ci := 10) (v := .ref jjk) (C := RX10) (T := TX10) (N := 19) hx hb hts qaw hown hK hP 0 rfl rfl 11 (by decide) (hts _ qEN) (fun _ h9 => h9) rfl (qaa qcg 15 rfl) ?_
      refine lv_aload_n hx hb (qaa qai 0 rfl) rfl (lv_at hl 0 rfl) ?_
      refine va_get (D := (dC, dI)) (ci := 10) (v := .int jkc) (C := RX10) (T := TX10) (N := 19) hx hb hts qaw hown hK hP 0 rfl rfl 15 (by decide) (hts _ qa8) (fun _ h9 => h9) rfl (qaa qai 1 rfl) ?_
      obtain ⟨hi9, hw⟩ := hw
      refine va_aldq hx hb hK hP 1 3 rfl rfl hi9 (qaa qai 2 rfl) ?_
      rcases in3 hi9 with c29 | c29 | c29
      · have hw := hw.1 c29
        rw [show va_rf (qgi jik jiq jiD jkc.toNatClampNeg) = .ref jik from by rw [c29]; rfl]
        refine lv_aload_n hx hb (qaa qai 3 rfl) rfl (lv_at hl 0 rfl) ?_
        refine va_get (D := (dC, dI)) (ci := 10) (v := .ref jaT) (C := RX10) (T := TX10) (N := 19) hx hb hts qaw hown hK hP 0 rfl rfl 8 (by decide) (hts _ qqP) (fun _ h9 => h9) rfl (qaa qai 4 rfl) ?_
        obtain ⟨hCc, hPc, hDc, hFc⟩ := qac (ws' := (qsi jik jig jk0 jaT jbb jbr jhD jff jbb cyI jbQ jig cyI jkU)) hP hD hS hA [2, 6, 7, 5] (by decide +kernel) rfl
        refine va_callv (va_runV (As := [.ref jaT]) (rest := []) ⟨hx, hb, hml, hown, hts⟩ (qAp l dC dI cyB cyI cyJ cyP jik jaT jbb jig H.size (jbr) (jhD) (jff) jbQ jkU jk0 hw) (cwV 1 hts gX10_image_X5_push rfl rfl rfl (by decide +kernel) ⟨nbq rfl, nbq rfl⟩) ⟨qab, va_recv (q := (RX5, TX5, 2)) hK hPc (ci := 5) (q0 := 0) rfl rfl, qae hPc hK hDc hNw⟩ rfl rfl hl.1 rfl (lv_room (nbq rfl)) (qaa qai 5 rfl) ⟨nbq rfl, nbq rfl⟩) hS (fun q _ h => hFc q h) hFc (fun u t H1 locs ht hvm hw hB hz1 hk1 hS => ?_)
        obtain ⟨f30, x31⟩ := u
        obtain ⟨hP1, hK1, hD1⟩ := hB
        rw [ht] at hP1
        obtain ⟨hP, hD⟩ := qad (wr := (qaZm a0 jaK jfS ja1 jcp jbc jbV ja3 jbH jaT jbO jeG jjk jbI jbl jbn jkc jaa jbA jdD jjk cyP (qgi jik jiq jiD) jeG jhF jje jhF cyI jkH jiq jih jk1 jih cyI jkV jiD jii x28 jii cyI f27)) (w1 := (qsi jik jig x31 jaT jbb jbr jhD jff jbb cyI jbQ jig cyI f30)) (wn := (qoJ a0 jaK jfS ja1 jcp jbc jbV ja3 jbH jaT jbO jeG jjk jbI jbl jbn jkc jaa jbA jdD jjk cyP (qgi jik jiq jiD) jik jig x31 jeG jhF jje jhF cyI jkH jig cyI f30 jaT jbb jbr jhD jff jbb cyI jbQ jiq jih jk1 jih cyI jkV jiD jii x28 jii cyI f27)) hP hD [2, 6, 7, 5] [0, 1, 3, 4, 8, 9, 10, 11] [0, 1, 8, 2, 3, 11, 9, 10, 4, 5, 6, 7] hCc rfl (by decide +kernel) (by decide +kernel) (by decide +kernel) rfl hk1 hFc hP1 hD1
        generalize H1 = H at hP hS ⊢
        refine lv_aload_n hx hb (qaa qai 6 rfl) rfl (lv_at hl 0 rfl) ?_
        refine lv_dup hx hb (qaa qai 7 rfl) rfl ?_
        refine va_get (D := (dC, dI)) (ci := 10) (v := .int jkc) (C := RX10) (T := TX10) (N := 19) hx hb hts qaw hown hK hP 0 rfl rfl 15 (by decide) (hts _ qa8) (fun _ h9 => h9) rfl (qaa qai 8 rfl) ?_
        refine lv_iconst (v := 1) hx hb (qaa qai 9 rfl) (by decide) ?_
        refine lv_iadd hx hb (qaa qai 10 rfl) ?_
        refine lv_topi (fun x32 ex32 => ?_)
        have hw := hw x32 ex32
        refine va_put (D := (dC, dI)) (ci := 10) (v := .int x32) (ty := .int) (C := RX10) (T := TX10) (N := 19) hx hb hts qaw tyX10 tyX10_ok nmX10 hown hK hP hD hS 0 rfl rfl 15 (by decide) (hts _ qa8) (fun _ h9 => h9) rfl (by decide +kernel) rfl rfl (nbq rfl) (qaa qai 11 rfl) (fun H locs hP hD hS => ?_)
        have hP : va_P (dC, dI) vwCl (qoJ a0 jaK jfS ja1 jcp jbc jbV ja3 jbH jaT jbO jeG jjk jbI jbl jbn x32 jaa jbA jdD jjk cyP (qgi jik jiq jiD) jik jig x31 jeG jhF jje jhF cyI jkH jig cyI f30 jaT jbb jbr jhD jff jbb cyI jbQ jiq jih jk1 jih cyI jkV jiD jii x28 jii cyI f27) H := hP
        have hD : va_D A (qoJ a0 jaK jfS ja1 jcp jbc jbV ja3 jbH jaT jbO jeG jjk jbI jbl jbn x32 jaa jbA jdD jjk cyP (qgi jik jiq jiD) jik jig x31 jeG jhF jje jhF cyI jkH jig cyI f30 jaT jbb jbr jhD jff jbb cyI jbQ jiq jih jk1 jih cyI jkV jiD jii x28 jii cyI f27) := hD
        refine lv_aload_n hx hb (qaa qai 12 rfl) rfl (lv_at hl 0 rfl) ?_
        refine va_get (D := (dC, dI)) (ci := 10) (v := .int x32) (C := RX10) (T := TX10) (N := 19) hx hb hts qaw hown hK hP 0 rfl rfl 15 (by decide) (hts _ qa8) (fun _ h9 => h9) rfl (qaa qai 13 rfl) ?_
        exact ((W.iret (v := x32) hx hb hr (fun t ht hW => ⟨⟨x32, (f30, x31, x32, jkV, jk1, f27, x28), rfl, hw, by rw [ht]; exact hP, va_K.moved hW.alike hK, hD⟩, hS.F ht⟩) hS.2.2 (qaa qai 14 rfl)))
      · have hw := hw.2.1 c29
        rw [show va_rf (qgi jik jiq jiD jkc.toNatClampNeg) = .ref jiq from by rw [c29]; rfl]
        refine lv_aload_n hx hb (qaa qai 3 rfl) rfl (lv_at hl 0 rfl) ?_
        refine va_get (D := (dC, dI)) (ci := 10) (v := .ref jaT) (C := RX10) (T := TX10) (N := 19) hx hb hts qaw hown hK hP 0 rfl rfl 8 (by decide) (hts _ qqP) (fun _ h9 => h9) rfl (qaa qai 4 rfl) ?_
        obtain ⟨hCc, hPc, hDc, hFc⟩ := qac (ws' := (qsi jiq jih jk1 jaT jbb jbr jhD jff jbb cyI jbQ jih cyI jkV)) hP hD hS hA [8, 6, 7, 9] (by decide +kernel) rfl
        refine va_callv (va_runV (As := [.ref jaT]) (rest := []) ⟨hx, hb, hml, hown, hts⟩ (qAp l dC dI cyB cyI cyJ cyP jiq jaT jbb jih H.size (jbr) (jhD) (jff) jbQ jkV jk1 hw) (cwV 1 hts gX10_image_X5_push rfl rfl rfl (by decide +kernel) ⟨nbq rfl, nbq rfl⟩) ⟨qab, va_recv (q := (RX5, TX5, 2)) hK hPc (ci := 5) (q0 := 0) rfl rfl, qae hPc hK hDc hNw⟩ rfl rfl hl.1 rfl (lv_room (nbq rfl)) (qaa qai 5 rfl) ⟨nbq rfl, nbq rfl⟩) hS (fun q _ h => hFc q h) hFc (fun u t H1 locs ht hvm hw hB hz1 hk1 hS => ?_)
        obtain ⟨f33, x34⟩ := u
        obtain ⟨hP1, hK1, hD1⟩ := hB
        rw [ht] at hP1
        obtain ⟨hP, hD⟩ := qad (wr := (qamy a0 jaK jfS ja1 jcp jbc jbV ja3 jbH jaT jbO jeG jjk jbI jbl jbn jkc jaa jbA jdD jjk cyP (qgi jik jiq jiD) jik jig jk0 jeG jhF jje jhF cyI jkH jig cyI jkU jiD jii x28 jii cyI f27)) (w1 := (qsi jiq jih x34 jaT jbb jbr jhD jff jbb cyI jbQ jih cyI f33)) (wn := (qoJ a0 jaK jfS ja1 jcp jbc jbV ja3 jbH jaT jbO jeG jjk jbI jbl jbn jkc jaa jbA jdD jjk cyP (qgi jik jiq jiD) jik jig jk0 jeG jhF jje jhF cyI jkH jig cyI jkU jaT jbb jbr jhD jff jbb cyI jbQ jiq jih x34 jih cyI f33 jiD jii x28 jii cyI f27)) hP hD [8, 6, 7, 9] [0, 1, 2, 3, 4, 5, 10, 11] [0, 1, 2, 3, 4, 5, 9, 10, 8, 11, 6, 7] hCc rfl (by decide +kernel) (by decide +kernel) (by decide +kernel) rfl hk1 hFc hP1 hD1
        generalize H1 = H at hP hS ⊢
        refine lv_aload_n hx hb (qaa qai 6 rfl) rfl (lv_at hl 0 rfl) ?_
        refine lv_dup hx hb (qaa qai 7 rfl) rfl ?_
        refine va_get (D := (dC, dI)) (ci := 10) (v := .int jkc) (C := RX10) (T := TX10) (N := 19) hx hb hts qaw hown hK hP 0 rfl rfl 15 (by decide) (hts _ qa8) (fun _ h9 => h9) rfl (qaa qai 8 rfl) ?_
        refine lv_iconst (v := 1) hx hb (qaa qai 9 rfl) (by decide) ?_
        refine lv_iadd hx hb (qaa qai 10 rfl) ?_
        refine lv_topi (fun x35 ex35 => ?_)
        have hw := hw x35 ex35
        refine va_put (D := (dC, dI)) (ci := 10) (v := .int x35) (ty := .int) (C := RX10) (T := TX10) (N := 19) hx hb hts qaw tyX10 tyX10_ok nmX10 hown hK hP hD hS 0 rfl rfl 15 (by decide) (hts _ qa8) (fun _ h9 => h9) rfl (by decide +kernel) rfl rfl (nbq rfl) (qaa qai 11 rfl) (fun H locs hP hD hS => ?_)
        have hP : va_P (dC, dI) vwCl (qoJ a0 jaK jfS ja1 jcp jbc jbV ja3 jbH jaT jbO jeG jjk jbI jbl jbn x35 jaa jbA jdD jjk cyP (qgi jik jiq jiD) jik jig jk0 jeG jhF jje jhF cyI jkH jig cyI jkU jaT jbb jbr jhD jff jbb cyI jbQ jiq jih x34 jih cyI f33 jiD jii x28 jii cyI f27) H := hP
        have hD : va_D A (qoJ a0 jaK jfS ja1 jcp jbc jbV ja3 jbH jaT jbO jeG jjk jbI jbl jbn x35 jaa jbA jdD jjk cyP (qgi jik jiq jiD) jik jig jk0 jeG jhF jje jhF cyI jkH jig cyI jkU jaT jbb jbr jhD jff jbb cyI jbQ jiq jih x34 jih cyI f33 jiD jii x28 jii cyI f27) := hD
        refine lv_aload_n hx hb (qaa qai 12 rfl) rfl (lv_at hl 0 rfl) ?_
        refine va_get (D := (dC, dI)) (ci := 10) (v := .int x35) (C := RX10) (T := TX10) (N := 19) hx hb hts qaw hown hK hP 0 rfl rfl 15 (by decide) (hts _ qa8) (fun _ h9 => h9) rfl (qaa qai 13 rfl) ?_
        exact ((W.iret (v := x35) hx hb hr (fun t ht hW => ⟨⟨x35, (jkU, jk0, x35, f33, x34, f27, x28), rfl, hw, by rw [ht]; exact hP, va_K.moved hW.alike hK, hD⟩, hS.F ht⟩) hS.2.2 (qaa qai 14 rfl)))
      · have hw := hw.2.2 c29
        rw [show va_rf (qgi jik jiq jiD jkc.toNatClampNeg) = .ref jiD from by rw [c29]; rfl]
        refine lv_aload_n hx hb (qaa qai 3 rfl) rfl (lv_at hl 0 rfl) ?_
        refine va_get (D := (dC, dI)) (ci := 10) (v := .ref jaT) (C := RX10) (T := TX10) (N := 19) hx hb hts qaw hown hK hP 0 rfl rfl 8 (by decide) (hts _ qqP) (fun _ h9 => h9) rfl (qaa qai 4 rfl) ?_
        obtain ⟨hCc, hPc, hDc, hFc⟩ := qac (ws' := (qsi jiD jii x28 jaT jbb jbr jhD jff jbb cyI jbQ jii cyI f27)) hP hD hS hA [10, 6, 7, 11] (by decide +kernel) rfl
        refine va_callv (va_runV (As := [.ref jaT]) (rest := []) ⟨hx, hb, hml, hown, hts⟩ (qAp l dC dI cyB cyI cyJ cyP jiD jaT jbb jii H.size (jbr) (jhD) (jff) jbQ f27 x28 hw) (cwV 1 hts gX10_image_X5_push rfl rfl rfl (by decide +kernel) ⟨nbq rfl, nbq rfl⟩) ⟨qab, va_recv (q := (RX5, TX5, 2)) hK hPc (ci := 5) (q0 := 0) rfl rfl, qae hPc hK hDc hNw⟩ rfl rfl hl.1 rfl (lv_room (nbq rfl)) (qaa qai 5 rfl) ⟨nbq rfl, nbq rfl⟩) hS (fun q _ h => hFc q h) hFc (fun u t H1 locs ht hvm hw hB hz1 hk1 hS => ?_)
        obtain ⟨f36, x37⟩ := u
        obtain ⟨hP1, hK1, hD1⟩ := hB
        rw [ht] at hP1
        obtain ⟨hP, hD⟩ := qad (wr := (qamy a0 jaK jfS ja1 jcp jbc jbV ja3 jbH jaT jbO jeG jjk jbI jbl jbn jkc jaa jbA jdD jjk cyP (qgi jik jiq jiD) jik jig jk0 jeG jhF jje jhF cyI jkH jig cyI jkU jiq jih jk1 jih cyI jkV)) (w1 := (qsi jiD jii x37 jaT jbb jbr jhD jff jbb cyI jbQ jii cyI f36)) (wn := (qoJ a0 jaK jfS ja1 jcp jbc jbV ja3 jbH jaT jbO jeG jjk jbI jbl jbn jkc jaa jbA jdD jjk cyP (qgi jik jiq jiD) jik jig jk0 jeG jhF jje jhF cyI jkH jig cyI jkU jaT jbb jbr jhD jff jbb cyI jbQ jiq jih jk1 jih cyI jkV jiD jii x37 jii cyI f36)) hP hD [10, 6, 7, 11] [0, 1, 2, 3, 4, 5, 8, 9] [0, 1, 2, 3, 4, 5, 9, 10, 6, 7, 8, 11] hCc rfl (by decide +kernel) (by decide +kernel) (by decide +kernel) rfl hk1 hFc hP1 hD1
        generalize H1 = H at hP hS ⊢
        refine lv_aload_n hx hb (qaa qai 6 rfl) rfl (lv_at hl 0 rfl) ?_
        refine lv_dup hx hb (qaa qai 7 rfl) rfl ?_
        refine va_get (D := (dC, dI)) (ci := 10) (v := .int jkc) (C := RX10) (T := TX10) (N := 19) hx hb hts qaw hown hK hP 0 rfl rfl 15 (by decide) (hts _ qa8) (fun _ h9 => h9) rfl (qaa qai 8 rfl) ?_
        refine lv_iconst (v := 1) hx hb (qaa qai 9 rfl) (by decide) ?_
        refine lv_iadd hx hb (qaa qai 10 rfl) ?_
        refine lv_topi (fun x38 ex38 => ?_)
        have hw := hw x38 ex38
        refine va_put (D := (dC, dI)) (ci := 10) (v := .int x38) (ty := .int) (C := RX10) (T := TX10) (N := 19) hx hb hts qaw tyX10 tyX10_ok nmX10 hown hK hP hD hS 0 rfl rfl 15 (by decide) (hts _ qa8) (fun _ h9 => h9) rfl (by decide +kernel) rfl rfl (nbq rfl) (qaa qai 11 rfl) (fun H locs hP hD hS => ?_)
        have hP : va_P (dC, dI) vwCl (qoJ a0 jaK jfS ja1 jcp jbc jbV ja3 jbH jaT jbO jeG jjk jbI jbl jbn x38 jaa jbA jdD jjk cyP (qgi jik jiq jiD) jik jig jk0 jeG jhF jje jhF cyI jkH jig cyI jkU jaT jbb jbr jhD jff jbb cyI jbQ jiq jih jk1 jih cyI jkV jiD jii x37 jii cyI f36) H := hP
        have hD : va_D A (qoJ a0 jaK jfS ja1 jcp jbc jbV ja3 jbH jaT jbO jeG jjk jbI jbl jbn x38 jaa jbA jdD jjk cyP (qgi jik jiq jiD) jik jig jk0 jeG jhF jje jhF cyI jkH jig cyI jkU jaT jbb jbr jhD jff jbb cyI jbQ jiq jih jk1 jih cyI jkV jiD jii x37 jii cyI f36) := hD
        refine lv_aload_n hx hb (qaa qai 12 rfl) rfl (lv_at hl 0 rfl) ?_
        refine va_get (D := (dC, dI)) (ci := 10) (v := .int x38) (C := RX10) (T := TX10) (N := 19) hx hb hts qaw hown hK hP 0 rfl rfl 15 (by decide) (hts _ qa8) (fun _ h9 => h9) rfl (qaa qai 13 rfl) ?_
        exact ((W.iret (v := x38) hx hb hr (fun t ht hW => ⟨⟨x38, (jkU, jk0, x38, jkV, jk1, f36, x37), rfl, hw, by rw [ht]; exact hP, va_K.moved hW.alike hK, hD⟩, hS.F ht⟩) hS.2.2 (qaa qai 14 rfl)))
  · have hw := hw.2 c1
    refine lv_iconst (v := (-1)) hx hb (qaa qcg 4 rfl) (by decide) ?_
    exact ((W.iret (v := (-1)) hx hb hr (fun t ht hW => ⟨⟨(-1), (jkU, jk0, jkc, jkV, jk1, jkW, jk2), rfl, hw, by rw [ht]; exact hP, va_K.moved hW.alike hK, hD⟩, hS.F ht⟩) hS.2.2 (qaa qcg 5 rfl)))
theorem qaf2 : ∀ w ∈ u_ws RX8 TX8 7, w ∈ wsX8_init := uiM qOV euX8 (by decide +kernel)
theorem qand : (.arrayClass .byte : Cond) ∈ wsX8_init := qOV 141 (by decide +kernel)
theorem qay6 : (.code objectInit ⟨#[0xb1]⟩ 1 none : Cond) ∈ wsX8_init := qOV 12 (by decide +kernel)
theorem qaFR : (.fieldLink RX8 11 "MarchHares$Tape" "bytes" "[B" : Cond) ∈ wsX8_init := qOV 142 (by decide +kernel)
theorem qaIt : (.fieldLink RX8 15 "MarchHares$Tape" "faultPlace" "I" : Cond) ∈ wsX8_init := qOV 143 (by decide +kernel)
theorem qatf : (.instanceMethod objectInit : Cond) ∈ wsX8_init := qOV 11 (by decide +kernel)
theorem qaSr : (.methodLink RX8 3 objectInit : Cond) ∈ wsX8_init := qOV 140 (by decide +kernel)
set_option maxHeartbeats 4000000 in
set_option maxRecDepth 100000 in
theorem qa2k (l : Launch) (dC : Nat → ClassId) (dI : Nat → Nat → Nat) (cyB cyI cyJ cyP : ClassId) (a0 sz : Nat) {Q : Prop} (hw : qaL0 Q) : Met l yX8_init wsX8_init ({ frames := 1, cells := 1, slots := 600, locals := 24 }) (va_Pc [.ref a0] (cPc (dC, dI) (kT cyB cyI cyJ cyP) (qalT a0 0 0 0 0 0 0) sz)) (va_Qv (fun (u : (Nat → Nat)) => Q ) (cB (dC, dI) (kT cyB cyI cyJ cyP) (va_A (qalT a0 0 0 0 0 0 0) sz) (fun u : (Nat → Nat) => ((qaAZ a0 (u 0) 0 0 0 0 0 (-1) (u 0) cyB (fun _ => 0)) : va_W))) (va_A (qalT a0 0 0 0 0 0 0) sz)) 1 600 (va_A (qalT a0 0 0 0 0 0 0) sz) := by
  refine Met.ofW (cc := cX8_init) (maxL := 1) (ret := none) (by decide) rfl ?_
  intro p e s m args below meth c s₁ B hml hv
  obtain ⟨rfl, hsz, hP, hK, hD0, hNw⟩ := hv
  have hx := B.exec
  have hb := B.bytes
  have hr := B.returns
  have hts := atoms_spec (ws := wsX8_init) B.pre
  have hown : s.vm.findClass RX8 = some m.cls := findClass_of_methodNamed B.named
  have hlocks := B.notSynchronized
  have hin : meth.name = "<init>" := (name_of_methodNamed B.named B.method).1
  subst hsz
  have hD := hD0.self (sz := s.heap.size)
  generalize hAe : va_A (qalT a0 0 0 0 0 0 0) s.heap.size = A at hD ⊢
  have hA : ∀ q : Nat, s.heap.size ≤ q → A q := fun q h => by rw [← hAe]; exact Or.inr h
  have hS : va_S A s.heap s.heap [] := va_S.rf
  have hP : va_P (dC, dI) vwCl (qalT a0 0 0 0 0 0 0) s.heap := hP
  have hl := lv_entry ([.ref a0]) (n := 1) (nbq rfl)
  rw [lg_entry_eq]
  generalize (lg_sl ([.ref a0]) ++ List.replicate (1 - (lg_sl ([.ref a0])).length) Slot.unset).toArray = ls at hl ⊢
  have hl : lv_has ls 1 [(0, .ref a0)] := hl
  clear hAe
  obtain ⟨H, hH⟩ : ∃ H, H = s.heap := ⟨_, rfl⟩
  rw [← hH] at hP ⊢
  have hS : va_S A s.heap H [] := by rw [hH]; exact va_S.rf
  refine lv_aload_n hx hb (qaa qSL 0 rfl) rfl (lv_at hl 0 rfl) ?_
  refine W.objInit hx hb hown (hts _ qaSr) (hts _ qatf) (hts _ qay6) rfl (by rw [hml]; exact hl.1) rfl (qaa qSL 1 rfl) (nbq rfl) (nbq rfl) ?_
  refine W.eq (g2 := F0 m 4 ls []) rfl ?_
  refine lv_aload_n hx hb (qaa qSL 2 rfl) rfl (lv_at hl 0 rfl) ?_
  refine lv_sipush (v := 600) hx hb (qaa qSL 3 rfl) (by decide) ?_
  refine va_newa (atype := .byte) (ty := .byte) (N' := 600) (a0 := (600, .inl (fun _ => 0))) hx hb (hts _ qand) rfl hK hP hD hS hA (fun _ => rfl) (by decide) (by decide) (by decide) (nbq rfl) (nbq rfl) dX8_init_8 (fun jif cA9 H hK9 hP hD hS => ?_)
  obtain rfl := qbht hK9
  have hP : va_P (dC, dI) vwCl (qa6c a0 0 0 0 0 0 0 jif cyB (fun _ => 0)) H := hP
  have hD : va_D A (qa6c a0 0 0 0 0 0 0 jif cyB (fun _ => 0)) := hD
  refine va_putF (D := (dC, dI)) (ci := 8) (v := .ref jif) (ty := .array .byte) (C := RX8) (T := TX8) (N := 7) hx hb hts qaf2 tyX8 tyX8_ok nmX8 hown hK hP hD hS 0 rfl rfl 0 (by decide) (hts _ qaFR) (fun _ h9 => h9) rfl hin rfl (by decide +kernel) rfl rfl (nbq rfl) (qaa qHN 0 rfl) (fun H locs hP hD hS => ?_)
  have hP : va_P (dC, dI) vwCl (qaAZ a0 jif 0 0 0 0 0 0 jif cyB (fun _ => 0)) H := hP
  have hD : va_D A (qaAZ a0 jif 0 0 0 0 0 0 jif cyB (fun _ => 0)) := hD
  refine lv_aload_n hx hb (qaa qHN 1 rfl) rfl (lv_at hl 0 rfl) ?_
  refine lv_iconst (v := (-1)) hx hb (qaa qHN 2 rfl) (by decide) ?_
  refine va_put (D := (dC, dI)) (ci := 8) (v := .int (-1)) (ty := .int) (C := RX8) (T := TX8) (N := 7) hx hb hts qaf2 tyX8 tyX8_ok nmX8 hown hK hP hD hS 0 rfl rfl 6 (by decide) (hts _ qaIt) (fun _ h9 => h9) rfl (by decide +kernel) rfl rfl (nbq rfl) (qaa qHN 3 rfl) (fun H locs hP hD hS => ?_)
  have hP : va_P (dC, dI) vwCl (qaAZ a0 jif 0 0 0 0 0 (-1) jif cyB (fun _ => 0)) H := hP
  have hD : va_D A (qaAZ a0 jif 0 0 0 0 0 (-1) jif cyB (fun _ => 0)) := hD
  exact (W.widen (k := 1) (n := 600) (nbq rfl) (nbq rfl) (W.vret hx hb hr (fun t ht hW => ⟨⟨(adr [jif]), rfl, hw, by rw [ht]; exact hP, va_K.moved hW.alike hK, hD⟩, hS.F ht⟩) hS.2.2 (qaa qHN 4 rfl)))
theorem qwV : ∀ w ∈ u_ws RX2 TX2 12, w ∈ wsX2_init := uiM qyW qLp (by decide +kernel)
theorem qsA : (.arrayClass .int : Cond) ∈ wsX2_init := qyW 147 (by decide +kernel)
theorem qaCZ : (.code objectInit ⟨#[0xb1]⟩ 1 none : Cond) ∈ wsX2_init := qyW 12 (by decide +kernel)
theorem qaIJ : (.fieldLink RX2 15 "MarchHares$Down" "formY" "[I" : Cond) ∈ wsX2_init := qyW 149 (by decide +kernel)
theorem qaIe : (.fieldLink RX2 18 "MarchHares$Down" "foxX" "[I" : Cond) ∈ wsX2_init := qyW 150 (by decide +kernel)
theorem qaKF : (.fieldLink RX2 21 "MarchHares$Down" "foxY" "[I" : Cond) ∈ wsX2_init := qyW 151 (by decide +kernel)
theorem qaGw : (.fieldLink RX2 24 "MarchHares$Down" "seat" "[I" : Cond) ∈ wsX2_init := qyW 192 (by decide +kernel)
theorem qaHK : (.fieldLink RX2 27 "MarchHares$Down" "strength" "[I" : Cond) ∈ wsX2_init := qyW 193 (by decide +kernel)
theorem qaGi : (.fieldLink RX2 30 "MarchHares$Down" "debts" "[I" : Cond) ∈ wsX2_init := qyW 194 (by decide +kernel)
theorem qaIl : (.fieldLink RX2 33 "MarchHares$Down" "near" "[I" : Cond) ∈ wsX2_init := qyW 195 (by decide +kernel)
theorem qaQb : (.fieldLink RX2 9 "MarchHares$Down" "formX" "[I" : Cond) ∈ wsX2_init := qyW 148 (by decide +kernel)
theorem qat1 : (.instanceMethod objectInit : Cond) ∈ wsX2_init := qyW 11 (by decide +kernel)
theorem qaQV : (.methodLink RX2 3 objectInit : Cond) ∈ wsX2_init := qyW 146 (by decide +kernel)
set_option maxHeartbeats 4000000 in
set_option maxRecDepth 100000 in
theorem qaLH (l : Launch) (dC : Nat → ClassId) (dI : Nat → Nat → Nat) (cyB cyI cyJ cyP : ClassId) (a0 sz : Nat) {Q : Prop} (hw : qakb Q) : Met l yX2_init wsX2_init ({ frames := 1, cells := 8, slots := 80, locals := 24 }) (va_Pc [.ref a0] (cPc (dC, dI) (kT cyB cyI cyJ cyP) (qajj a0 0 0 0 0) sz)) (va_Qv (fun (u : (Nat → Nat)) => Q ) (cB (dC, dI) (kT cyB cyI cyJ cyP) (va_A (qajj a0 0 0 0 0) sz) (fun u : (Nat → Nat) => ((qaZc a0 (u 0) (u 1) (u 2) (u 3) (u 4) (u 5) (u 6) (u 7) 0 0 0 0 (u 0) cyI (fun _ => 0) (u 1) cyI (fun _ => 0) (u 2) cyI (fun _ => 0) (u 3) cyI (fun _ => 0) (u 4) cyI (fun _ => 0) (u 5) cyI (fun _ => 0) (u 6) cyI (fun _ => 0) (u 7) cyI (fun _ => 0)) : va_W))) (va_A (qajj a0 0 0 0 0) sz)) 8 80 (va_A (qajj a0 0 0 0 0) sz) := by
  refine Met.ofW (cc := cX2_init) (maxL := 1) (ret := none) (by decide) rfl ?_
  intro p e s m args below meth c s₁ B hml hv
  obtain ⟨rfl, hsz, hP, hK, hD0, hNw⟩ := hv
  have hx := B.exec
  have hb := B.bytes
  have hr := B.returns
  have hts := atoms_spec (ws := wsX2_init) B.pre
  have hown : s.vm.findClass RX2 = some m.cls := findClass_of_methodNamed B.named
  have hlocks := B.notSynchronized
  have hin : meth.name = "<init>" := (name_of_methodNamed B.named B.method).1
  subst hsz
  have hD := hD0.self (sz := s.heap.size)
  generalize hAe : va_A (qajj a0 0 0 0 0) s.heap.size = A at hD ⊢
  have hA : ∀ q : Nat, s.heap.size ≤ q → A q := fun q h => by rw [← hAe]; exact Or.inr h
  have hS : va_S A s.heap s.heap [] := va_S.rf
  have hP : va_P (dC, dI) vwCl (qajj a0 0 0 0 0) s.heap := hP
  have hl := lv_entry ([.ref a0]) (n := 1) (nbq rfl)
  rw [lg_entry_eq]
  generalize (lg_sl ([.ref a0]) ++ List.replicate (1 - (lg_sl ([.ref a0])).length) Slot.unset).toArray = ls at hl ⊢
  have hl : lv_has ls 1 [(0, .ref a0)] := hl
  clear hAe
  obtain ⟨H, hH⟩ : ∃ H, H = s.heap := ⟨_, rfl⟩
  rw [← hH] at hP ⊢
  have hS : va_S A s.heap H [] := by rw [hH]; exact va_S.rf
  refine lv_aload_n hx hb (qaa qSE 0 rfl) rfl (lv_at hl 0 rfl) ?_
  refine W.objInit hx hb hown (hts _ qaQV) (hts _ qat1) (hts _ qaCZ) rfl (by rw [hml]; exact hl.1) rfl (qaa qSE 1 rfl) (nbq rfl) (nbq rfl) ?_
  refine W.eq (g2 := F0 m 4 ls []) rfl ?_
  refine lv_aload_n hx hb (qaa qSE 2 rfl) rfl (lv_at hl 0 rfl) ?_
  refine lv_bipush (v := 8) hx hb (qaa qSE 3 rfl) (by decide) ?_
  refine va_newa (atype := .int) (ty := .int) (N' := 8) (a0 := (8, .inl (fun _ => 0))) hx hb (hts _ qsA) rfl hK hP hD hS hA (fun _ => rfl) (by decide) (by decide) (by decide) (nbq rfl) (nbq rfl) dX2_init_7 (fun jha cA9 H hK9 hP hD hS => ?_)
  obtain rfl := qk2 hK9
  have hP : va_P (dC, dI) vwCl (qa9w a0 0 0 0 0 jha cyI (fun _ => 0)) H := hP
  have hD : va_D A (qa9w a0 0 0 0 0 jha cyI (fun _ => 0)) := hD
  refine va_putF (D := (dC, dI)) (ci := 2) (v := .ref jha) (ty := .array .int) (C := RX2) (T := TX2) (N := 12) hx hb hts qwV tyX2 tyX2_ok nmX2 hown hK hP hD hS 0 rfl rfl 0 (by decide) (hts _ qaQb) (fun _ h9 => h9) rfl hin rfl (by decide +kernel) rfl rfl (nbq rfl) (qaa q4p 0 rfl) (fun H locs hP hD hS => ?_)
  have hP : va_P (dC, dI) vwCl (qa5K a0 jha 0 0 0 0 jha cyI (fun _ => 0)) H := hP
  have hD : va_D A (qa5K a0 jha 0 0 0 0 jha cyI (fun _ => 0)) := hD
  refine lv_aload_n hx hb (qaa q4p 1 rfl) rfl (lv_at hl 0 rfl) ?_
  refine lv_bipush (v := 8) hx hb (qaa q4p 2 rfl) (by decide) ?_
  refine va_newa (atype := .int) (ty := .int) (N' := 8) (a0 := (8, .inl (fun _ => 0))) hx hb (hts _ qsA) rfl hK hP hD hS hA (fun _ => rfl) (by decide) (by decide) (by decide) (nbq rfl) (nbq rfl) dX2_init_15 (fun jhj cA9 H hK9 hP hD hS => ?_)
  obtain rfl := qk2 hK9
  have hP : va_P (dC, dI) vwCl (qa8b a0 jha 0 0 0 0 jha cyI (fun _ => 0) jhj cyI (fun _ => 0)) H := hP
  have hD : va_D A (qa8b a0 jha 0 0 0 0 jha cyI (fun _ => 0) jhj cyI (fun _ => 0)) := hD
  refine va_putF (D := (dC, dI)) (ci := 2) (v := .ref jhj) (ty := .array .int) (C := RX2) (T := TX2) (N := 12) hx hb hts qwV tyX2 tyX2_ok nmX2 hown hK hP hD hS 0 rfl rfl 1 (by decide) (hts _ qaIJ) (fun _ h9 => h9) rfl hin rfl (by decide +kernel) rfl rfl (nbq rfl) (qaa qWW 0 rfl) (fun H locs hP hD hS => ?_)
  have hP : va_P (dC, dI) vwCl (qa3X a0 jha jhj 0 0 0 0 jha cyI (fun _ => 0) jhj cyI (fun _ => 0)) H := hP
  have hD : va_D A (qa3X a0 jha jhj 0 0 0 0 jha cyI (fun _ => 0) jhj cyI (fun _ => 0)) := hD
  refine lv_aload_n hx hb (qaa qWW 1 rfl) rfl (lv_at hl 0 rfl) ?_
  refine lv_iconst (v := 4) hx hb (qaa qWW 2 rfl) (by decide) ?_
  refine va_newa (atype := .int) (ty := .int) (N' := 4) (a0 := (4, .inl (fun _ => 0))) hx hb (hts _ qsA) rfl hK hP hD hS hA (fun _ => rfl) (by decide) (by decide) (by decide) (nbq rfl) (nbq rfl) dX2_init_22 (fun jjQ cA9 H hK9 hP hD hS => ?_)
  obtain rfl := qk2 hK9
  have hP : va_P (dC, dI) vwCl (qa8S a0 jha jhj 0 0 0 0 jha cyI (fun _ => 0) jhj cyI (fun _ => 0) jjQ cyI (fun _ => 0)) H := hP
  have hD : va_D A (qa8S a0 jha jhj 0 0 0 0 jha cyI (fun _ => 0) jhj cyI (fun _ => 0) jjQ cyI (fun _ => 0)) := hD
  refine va_putF (D := (dC, dI)) (ci := 2) (v := .ref jjQ) (ty := .array .int) (C := RX2) (T := TX2) (N := 12) hx hb hts qwV tyX2 tyX2_ok nmX2 hown hK hP hD hS 0 rfl rfl 2 (by decide) (hts _ qaIe) (fun _ h9 => h9) rfl hin rfl (by decide +kernel) rfl rfl (nbq rfl) (qaa qW3 0 rfl) (fun H locs hP hD hS => ?_)
  have hP : va_P (dC, dI) vwCl (qa8X a0 jha jhj jjQ 0 0 0 0 jha cyI (fun _ => 0) jhj cyI (fun _ => 0) jjQ cyI (fun _ => 0)) H := hP
  have hD : va_D A (qa8X a0 jha jhj jjQ 0 0 0 0 jha cyI (fun _ => 0) jhj cyI (fun _ => 0) jjQ cyI (fun _ => 0)) := hD
  refine lv_aload_n hx hb (qaa qW3 1 rfl) rfl (lv_at hl 0 rfl) ?_
  refine lv_iconst (v := 4) hx hb (qaa qW3 2 rfl) (by decide) ?_
  refine va_newa (atype := .int) (ty := .int) (N' := 4) (a0 := (4, .inl (fun _ => 0))) hx hb (hts _ qsA) rfl hK hP hD hS hA (fun _ => rfl) (by decide) (by decide) (by decide) (nbq rfl) (nbq rfl) dX2_init_29 (fun jjU cA9 H hK9 hP hD hS => ?_)
  obtain rfl := qk2 hK9
  have hP : va_P (dC, dI) vwCl (qa7V a0 jha jhj jjQ 0 0 0 0 jha cyI (fun _ => 0) jhj cyI (fun _ => 0) jjQ cyI (fun _ => 0) jjU cyI (fun _ => 0)) H := hP
  have hD : va_D A (qa7V a0 jha jhj jjQ 0 0 0 0 jha cyI (fun _ => 0) jhj cyI (fun _ => 0) jjQ cyI (fun _ => 0) jjU cyI (fun _ => 0)) := hD
  refine va_putF (D := (dC, dI)) (ci := 2) (v := .ref jjU) (ty := .array .int) (C := RX2) (T := TX2) (N := 12) hx hb hts qwV tyX2 tyX2_ok nmX2 hown hK hP hD hS 0 rfl rfl 3 (by decide) (hts _ qaKF) (fun _ h9 => h9) rfl hin rfl (by decide +kernel) rfl rfl (nbq rfl) (qaa qXd 0 rfl) (fun H locs hP hD hS => ?_)
  have hP : va_P (dC, dI) vwCl (qa6K a0 jha jhj jjQ jjU 0 0 0 0 jha cyI (fun _ => 0) jhj cyI (fun _ => 0) jjQ cyI (fun _ => 0) jjU cyI (fun _ => 0)) H := hP
  have hD : va_D A (qa6K a0 jha jhj jjQ jjU 0 0 0 0 jha cyI (fun _ => 0) jhj cyI (fun _ => 0) jjQ cyI (fun _ => 0) jjU cyI (fun _ => 0)) := hD
  refine lv_aload_n hx hb (qaa qXd 1 rfl) rfl (lv_at hl 0 rfl) ?_
  refine lv_bipush (v := 6) hx hb (qaa qXd 2 rfl) (by decide) ?_
  refine va_newa (atype := .int) (ty := .int) (N' := 6) (a0 := (6, .inl (fun _ => 0))) hx hb (hts _ qsA) rfl hK hP hD hS hA (fun _ => rfl) (by decide) (by decide) (by decide) (nbq rfl) (nbq rfl) dX2_init_37 (fun jla cA9 H hK9 hP hD hS => ?_)
  obtain rfl := qk2 hK9
  have hP : va_P (dC, dI) vwCl (qbap a0 jha jhj jjQ jjU 0 0 0 0 jha cyI (fun _ => 0) jhj cyI (fun _ => 0) jjQ cyI (fun _ => 0) jjU cyI (fun _ => 0) jla cyI (fun _ => 0)) H := hP
  have hD : va_D A (qbap a0 jha jhj jjQ jjU 0 0 0 0 jha cyI (fun _ => 0) jhj cyI (fun _ => 0) jjQ cyI (fun _ => 0) jjU cyI (fun _ => 0) jla cyI (fun _ => 0)) := hD
  refine va_putF (D := (dC, dI)) (ci := 2) (v := .ref jla) (ty := .array .int) (C := RX2) (T := TX2) (N := 12) hx hb hts qwV tyX2 tyX2_ok nmX2 hown hK hP hD hS 0 rfl rfl 4 (by decide) (hts _ qaGw) (fun _ h9 => h9) rfl hin rfl (by decide +kernel) rfl rfl (nbq rfl) (qaa qWJ 0 rfl) (fun H locs hP hD hS => ?_)
  have hP : va_P (dC, dI) vwCl (qa4f a0 jha jhj jjQ jjU jla 0 0 0 0 jha cyI (fun _ => 0) jhj cyI (fun _ => 0) jjQ cyI (fun _ => 0) jjU cyI (fun _ => 0) jla cyI (fun _ => 0)) H := hP
  have hD : va_D A (qa4f a0 jha jhj jjQ jjU jla 0 0 0 0 jha cyI (fun _ => 0) jhj cyI (fun _ => 0) jjQ cyI (fun _ => 0) jjU cyI (fun _ => 0) jla cyI (fun _ => 0)) := hD
  refine lv_aload_n hx hb (qaa qWJ 1 rfl) rfl (lv_at hl 0 rfl) ?_
  refine lv_bipush (v := 6) hx hb (qaa qWJ 2 rfl) (by decide) ?_
  refine va_newa (atype := .int) (ty := .int) (N' := 6) (a0 := (6, .inl (fun _ => 0))) hx hb (hts _ qsA) rfl hK hP hD hS hA (fun _ => rfl) (by decide) (by decide) (by decide) (nbq rfl) (nbq rfl) dX2_init_45 (fun jjy cA9 H hK9 hP hD hS => ?_)
  obtain rfl := qk2 hK9
  have hP : va_P (dC, dI) vwCl (qa5o a0 jha jhj jjQ jjU jla 0 0 0 0 jha cyI (fun _ => 0) jhj cyI (fun _ => 0) jjQ cyI (fun _ => 0) jjU cyI (fun _ => 0) jla cyI (fun _ => 0) jjy cyI (fun _ => 0)) H := hP
  have hD : va_D A (qa5o a0 jha jhj jjQ jjU jla 0 0 0 0 jha cyI (fun _ => 0) jhj cyI (fun _ => 0) jjQ cyI (fun _ => 0) jjU cyI (fun _ => 0) jla cyI (fun _ => 0) jjy cyI (fun _ => 0)) := hD
  refine va_putF (D := (dC, dI)) (ci := 2) (v := .ref jjy) (ty := .array .int) (C := RX2) (T := TX2) (N := 12) hx hb hts qwV tyX2 tyX2_ok nmX2 hown hK hP hD hS 0 rfl rfl 5 (by decide) (hts _ qaHK) (fun _ h9 => h9) rfl hin rfl (by decide +kernel) rfl rfl (nbq rfl) (qaa qYD 0 rfl) (fun H locs hP hD hS => ?_)
  have hP : va_P (dC, dI) vwCl (qa3W a0 jha jhj jjQ jjU jla jjy 0 0 0 0 jha cyI (fun _ => 0) jhj cyI (fun _ => 0) jjQ cyI (fun _ => 0) jjU cyI (fun _ => 0) jla cyI (fun _ => 0) jjy cyI (fun _ => 0)) H := hP
  have hD : va_D A (qa3W a0 jha jhj jjQ jjU jla jjy 0 0 0 0 jha cyI (fun _ => 0) jhj cyI (fun _ => 0) jjQ cyI (fun _ => 0) jjU cyI (fun _ => 0) jla cyI (fun _ => 0) jjy cyI (fun _ => 0)) := hD
  refine lv_aload_n hx hb (qaa qYD 1 rfl) rfl (lv_at hl 0 rfl) ?_
  refine lv_bipush (v := 36) hx hb (qaa qYD 2 rfl) (by decide) ?_
  refine va_newa (atype := .int) (ty := .int) (N' := 36) (a0 := (36, .inl (fun _ => 0))) hx hb (hts _ qsA) rfl hK hP hD hS hA (fun _ => rfl) (by decide) (by decide) (by decide) (nbq rfl) (nbq rfl) dX2_init_53 (fun jkT cA9 H hK9 hP hD hS => ?_)
  obtain rfl := qk2 hK9
  have hP : va_P (dC, dI) vwCl (qa8e a0 jha jhj jjQ jjU jla jjy 0 0 0 0 jha cyI (fun _ => 0) jhj cyI (fun _ => 0) jjQ cyI (fun _ => 0) jjU cyI (fun _ => 0) jla cyI (fun _ => 0) jjy cyI (fun _ => 0) jkT cyI (fun _ => 0)) H := hP
  have hD : va_D A (qa8e a0 jha jhj jjQ jjU jla jjy 0 0 0 0 jha cyI (fun _ => 0) jhj cyI (fun _ => 0) jjQ cyI (fun _ => 0) jjU cyI (fun _ => 0) jla cyI (fun _ => 0) jjy cyI (fun _ => 0) jkT cyI (fun _ => 0)) := hD
  refine va_putF (D := (dC, dI)) (ci := 2) (v := .ref jkT) (ty := .array .int) (C := RX2) (T := TX2) (N := 12) hx hb hts qwV tyX2 tyX2_ok nmX2 hown hK hP hD hS 0 rfl rfl 6 (by decide) (hts _ qaGi) (fun _ h9 => h9) rfl hin rfl (by decide +kernel) rfl rfl (nbq rfl) (qaa qWn 0 rfl) (fun H locs hP hD hS => ?_)
  have hP : va_P (dC, dI) vwCl (qa9M a0 jha jhj jjQ jjU jla jjy jkT 0 0 0 0 jha cyI (fun _ => 0) jhj cyI (fun _ => 0) jjQ cyI (fun _ => 0) jjU cyI (fun _ => 0) jla cyI (fun _ => 0) jjy cyI (fun _ => 0) jkT cyI (fun _ => 0)) H := hP
  have hD : va_D A (qa9M a0 jha jhj jjQ jjU jla jjy jkT 0 0 0 0 jha cyI (fun _ => 0) jhj cyI (fun _ => 0) jjQ cyI (fun _ => 0) jjU cyI (fun _ => 0) jla cyI (fun _ => 0) jjy cyI (fun _ => 0) jkT cyI (fun _ => 0)) := hD
  refine lv_aload_n hx hb (qaa qWn 1 rfl) rfl (lv_at hl 0 rfl) ?_
  refine lv_bipush (v := 8) hx hb (qaa qWn 2 rfl) (by decide) ?_
  refine va_newa (atype := .int) (ty := .int) (N' := 8) (a0 := (8, .inl (fun _ => 0))) hx hb (hts _ qsA) rfl hK hP hD hS hA (fun _ => rfl) (by decide) (by decide) (by decide) (nbq rfl) (nbq rfl) dX2_init_61 (fun jmE cA9 H hK9 hP hD hS => ?_)
  obtain rfl := qk2 hK9
  have hP : va_P (dC, dI) vwCl (qa9N a0 jha jhj jjQ jjU jla jjy jkT 0 0 0 0 jha cyI (fun _ => 0) jhj cyI (fun _ => 0) jjQ cyI (fun _ => 0) jjU cyI (fun _ => 0) jla cyI (fun _ => 0) jjy cyI (fun _ => 0) jkT cyI (fun _ => 0) jmE cyI (fun _ => 0)) H := hP
  have hD : va_D A (qa9N a0 jha jhj jjQ jjU jla jjy jkT 0 0 0 0 jha cyI (fun _ => 0) jhj cyI (fun _ => 0) jjQ cyI (fun _ => 0) jjU cyI (fun _ => 0) jla cyI (fun _ => 0) jjy cyI (fun _ => 0) jkT cyI (fun _ => 0) jmE cyI (fun _ => 0)) := hD
  refine va_putF (D := (dC, dI)) (ci := 2) (v := .ref jmE) (ty := .array .int) (C := RX2) (T := TX2) (N := 12) hx hb hts qwV tyX2 tyX2_ok nmX2 hown hK hP hD hS 0 rfl rfl 7 (by decide) (hts _ qaIl) (fun _ h9 => h9) rfl hin rfl (by decide +kernel) rfl rfl (nbq rfl) (qaa qahr 0 rfl) (fun H locs hP hD hS => ?_)
  have hP : va_P (dC, dI) vwCl (qaZc a0 jha jhj jjQ jjU jla jjy jkT jmE 0 0 0 0 jha cyI (fun _ => 0) jhj cyI (fun _ => 0) jjQ cyI (fun _ => 0) jjU cyI (fun _ => 0) jla cyI (fun _ => 0) jjy cyI (fun _ => 0) jkT cyI (fun _ => 0) jmE cyI (fun _ => 0)) H := hP
  have hD : va_D A (qaZc a0 jha jhj jjQ jjU jla jjy jkT jmE 0 0 0 0 jha cyI (fun _ => 0) jhj cyI (fun _ => 0) jjQ cyI (fun _ => 0) jjU cyI (fun _ => 0) jla cyI (fun _ => 0) jjy cyI (fun _ => 0) jkT cyI (fun _ => 0) jmE cyI (fun _ => 0)) := hD
  exact (W.widen (k := 8) (n := 80) (nbq rfl) (nbq rfl) (W.vret hx hb hr (fun t ht hW => ⟨⟨(adr [jha, jhj, jjQ, jjU, jla, jjy, jkT, jmE]), rfl, hw, by rw [ht]; exact hP, va_K.moved hW.alike hK, hD⟩, hS.F ht⟩) hS.2.2 (qaa qahr 1 rfl)))
theorem qN4 : ∀ w ∈ u_ws RX4 TX4 5, w ∈ wsX4_init := uiM qCe euX4 (by decide +kernel)
theorem qEB : (.arrayClass .int : Cond) ∈ wsX4_init := qCe 147 (by decide +kernel)
theorem qayV : (.code objectInit ⟨#[0xb1]⟩ 1 none : Cond) ∈ wsX4_init := qCe 12 (by decide +kernel)
theorem qaJU : (.fieldLink RX4 15 "MarchHares$Law" "values" "[I" : Cond) ∈ wsX4_init := qCe 201 (by decide +kernel)
theorem qaGc : (.fieldLink RX4 18 "MarchHares$Law" "pile" "[I" : Cond) ∈ wsX4_init := qCe 202 (by decide +kernel)
theorem qaFA : (.fieldLink RX4 21 "MarchHares$Law" "facts" "[I" : Cond) ∈ wsX4_init := qCe 203 (by decide +kernel)
theorem qaSJ : (.fieldLink RX4 9 "MarchHares$Law" "kinds" "[I" : Cond) ∈ wsX4_init := qCe 200 (by decide +kernel)
theorem qapN : (.instanceMethod objectInit : Cond) ∈ wsX4_init := qCe 11 (by decide +kernel)
theorem qaSo : (.methodLink RX4 3 objectInit : Cond) ∈ wsX4_init := qCe 199 (by decide +kernel)
set_option maxHeartbeats 4000000 in
set_option maxRecDepth 100000 in
theorem qaLT (l : Launch) (dC : Nat → ClassId) (dI : Nat → Nat → Nat) (cyB cyI cyJ cyP : ClassId) (a0 sz : Nat) {Q : Int32 → NI → NI → Prop} (hw : qant Q) : Met l yX4_init wsX4_init ({ frames := 2, cells := 4, slots := 458, locals := 42 }) (va_Pc [.ref a0] (cPc (dC, dI) (kT cyB cyI cyJ cyP) (qamm a0 0) sz)) (va_Qv (fun (u : (Nat → Nat) × (Int32) × NI × NI) => Q u.2.1 u.2.2.1 u.2.2.2) (cB (dC, dI) (kT cyB cyI cyJ cyP) (va_A (qamm a0 0) sz) (fun u : (Nat → Nat) × (Int32) × NI × NI => ((qam1 a0 (u.1 0) (u.1 1) (u.1 2) (u.1 3) u.2.1 (u.1 0) cyI u.2.2.1 (u.1 1) cyI u.2.2.2 (u.1 2) cyI (fun _ => 0) (u.1 3) cyI (fun _ => 0)) : va_W))) (va_A (qamm a0 0) sz)) 4 458 (va_A (qamm a0 0) sz) := by
  refine Met.ofW (cc := cX4_init) (maxL := 1) (ret := none) (by decide) rfl ?_
  intro p e s m args below meth c s₁ B hml hv
  obtain ⟨rfl, hsz, hP, hK, hD0, hNw⟩ := hv
  have hx := B.exec
  have hb := B.bytes
  have hr := B.returns
  have hts := atoms_spec (ws := wsX4_init) B.pre
  have hown : s.vm.findClass RX4 = some m.cls := findClass_of_methodNamed B.named
  have hlocks := B.notSynchronized
  have hin : meth.name = "<init>" := (name_of_methodNamed B.named B.method).1
  subst hsz
  have hD := hD0.self (sz := s.heap.size)
  generalize hAe : va_A (qamm a0 0) s.heap.size = A at hD ⊢
  have hA : ∀ q : Nat, s.heap.size ≤ q → A q := fun q h => by rw [← hAe]; exact Or.inr h
  have hS : va_S A s.heap s.heap [] := va_S.rf
  have hP : va_P (dC, dI) vwCl (qamm a0 0) s.heap := hP
  have hl := lv_entry ([.ref a0]) (n := 1) (nbq rfl)
  rw [lg_entry_eq]
  generalize (lg_sl ([.ref a0]) ++ List.replicate (1 - (lg_sl ([.ref a0])).length) Slot.unset).toArray = ls at hl ⊢
  have hl : lv_has ls 1 [(0, .ref a0)] := hl
  clear hAe
  obtain ⟨H, hH⟩ : ∃ H, H = s.heap := ⟨_, rfl⟩
  rw [← hH] at hP ⊢
  have hS : va_S A s.heap H [] := by rw [hH]; exact va_S.rf
  refine lv_aload_n hx hb (qaa qSj 0 rfl) rfl (lv_at hl 0 rfl) ?_
  refine W.objInit hx hb hown (hts _ qaSo) (hts _ qapN) (hts _ qayV) rfl (by rw [hml]; exact hl.1) rfl (qaa qSj 1 rfl) (nbq rfl) (nbq rfl) ?_
  refine W.eq (g2 := F0 m 4 ls []) rfl ?_
  refine lv_aload_n hx hb (qaa qSj 2 rfl) rfl (lv_at hl 0 rfl) ?_
  refine lv_sipush (v := 150) hx hb (qaa qSj 3 rfl) (by decide) ?_
  refine va_newa (atype := .int) (ty := .int) (N' := 150) (a0 := (150, .inl (fun _ => 0))) hx hb (hts _ qEB) rfl hK hP hD hS hA (fun _ => rfl) (by decide) (by decide) (by decide) (nbq rfl) (nbq rfl) dX4_init_8 (fun jbU cA9 H hK9 hP hD hS => ?_)
  obtain rfl := qk2 hK9
  have hP : va_P (dC, dI) vwCl (qa89 a0 0 jbU cyI (fun _ => 0)) H := hP
  have hD : va_D A (qa89 a0 0 jbU cyI (fun _ => 0)) := hD
  refine va_putF (D := (dC, dI)) (ci := 4) (v := .ref jbU) (ty := .array .int) (C := RX4) (T := TX4) (N := 5) hx hb hts qN4 tyX4 tyX4_ok nmX4 hown hK hP hD hS 0 rfl rfl 0 (by decide) (hts _ qaSJ) (fun _ h9 => h9) rfl hin rfl (by decide +kernel) rfl rfl (nbq rfl) (qaa qWH 0 rfl) (fun H locs hP hD hS => ?_)
  have hP : va_P (dC, dI) vwCl (qa5Z a0 jbU 0 jbU cyI (fun _ => 0)) H := hP
  have hD : va_D A (qa5Z a0 jbU 0 jbU cyI (fun _ => 0)) := hD
  refine lv_aload_n hx hb (qaa qWH 1 rfl) rfl (lv_at hl 0 rfl) ?_
  refine lv_sipush (v := 150) hx hb (qaa qWH 2 rfl) (by decide) ?_
  refine va_newa (atype := .int) (ty := .int) (N' := 150) (a0 := (150, .inl (fun _ => 0))) hx hb (hts _ qEB) rfl hK hP hD hS hA (fun _ => rfl) (by decide) (by decide) (by decide) (nbq rfl) (nbq rfl) dX4_init_17 (fun jcK cA9 H hK9 hP hD hS => ?_)
  obtain rfl := qk2 hK9
  have hP : va_P (dC, dI) vwCl (qa3e a0 jbU 0 jbU cyI (fun _ => 0) jcK cyI (fun _ => 0)) H := hP
  have hD : va_D A (qa3e a0 jbU 0 jbU cyI (fun _ => 0) jcK cyI (fun _ => 0)) := hD
  refine va_putF (D := (dC, dI)) (ci := 4) (v := .ref jcK) (ty := .array .int) (C := RX4) (T := TX4) (N := 5) hx hb hts qN4 tyX4 tyX4_ok nmX4 hown hK hP hD hS 0 rfl rfl 1 (by decide) (hts _ qaJU) (fun _ h9 => h9) rfl hin rfl (by decide +kernel) rfl rfl (nbq rfl) (qaa qXS 0 rfl) (fun H locs hP hD hS => ?_)
  have hP : va_P (dC, dI) vwCl (qa66 a0 jbU jcK 0 jbU cyI (fun _ => 0) jcK cyI (fun _ => 0)) H := hP
  have hD : va_D A (qa66 a0 jbU jcK 0 jbU cyI (fun _ => 0) jcK cyI (fun _ => 0)) := hD
  refine lv_aload_n hx hb (qaa qXS 1 rfl) rfl (lv_at hl 0 rfl) ?_
  refine lv_sipush (v := 150) hx hb (qaa qXS 2 rfl) (by decide) ?_
  refine va_newa (atype := .int) (ty := .int) (N' := 150) (a0 := (150, .inl (fun _ => 0))) hx hb (hts _ qEB) rfl hK hP hD hS hA (fun _ => rfl) (by decide) (by decide) (by decide) (nbq rfl) (nbq rfl) dX4_init_26 (fun jmH cA9 H hK9 hP hD hS => ?_)
  obtain rfl := qk2 hK9
  have hP : va_P (dC, dI) vwCl (qa7N a0 jbU jcK 0 jbU cyI (fun _ => 0) jcK cyI (fun _ => 0) jmH cyI (fun _ => 0)) H := hP
  have hD : va_D A (qa7N a0 jbU jcK 0 jbU cyI (fun _ => 0) jcK cyI (fun _ => 0) jmH cyI (fun _ => 0)) := hD
  refine va_putF (D := (dC, dI)) (ci := 4) (v := .ref jmH) (ty := .array .int) (C := RX4) (T := TX4) (N := 5) hx hb hts qN4 tyX4 tyX4_ok nmX4 hown hK hP hD hS 0 rfl rfl 2 (by decide) (hts _ qaGc) (fun _ h9 => h9) rfl hin rfl (by decide +kernel) rfl rfl (nbq rfl) (qaa qYu 0 rfl) (fun H locs hP hD hS => ?_)
  have hP : va_P (dC, dI) vwCl (qa4k a0 jbU jcK jmH 0 jbU cyI (fun _ => 0) jcK cyI (fun _ => 0) jmH cyI (fun _ => 0)) H := hP
  have hD : va_D A (qa4k a0 jbU jcK jmH 0 jbU cyI (fun _ => 0) jcK cyI (fun _ => 0) jmH cyI (fun _ => 0)) := hD
  refine lv_aload_n hx hb (qaa qYu 1 rfl) rfl (lv_at hl 0 rfl) ?_
  refine lv_bipush (v := 8) hx hb (qaa qYu 2 rfl) (by decide) ?_
  refine va_newa (atype := .int) (ty := .int) (N' := 8) (a0 := (8, .inl (fun _ => 0))) hx hb (hts _ qEB) rfl hK hP hD hS hA (fun _ => rfl) (by decide) (by decide) (by decide) (nbq rfl) (nbq rfl) dX4_init_34 (fun jbu cA9 H hK9 hP hD hS => ?_)
  obtain rfl := qk2 hK9
  have hP : va_P (dC, dI) vwCl (qa5N a0 jbU jcK jmH 0 jbU cyI (fun _ => 0) jcK cyI (fun _ => 0) jmH cyI (fun _ => 0) jbu cyI (fun _ => 0)) H := hP
  have hD : va_D A (qa5N a0 jbU jcK jmH 0 jbU cyI (fun _ => 0) jcK cyI (fun _ => 0) jmH cyI (fun _ => 0) jbu cyI (fun _ => 0)) := hD
  refine va_putF (D := (dC, dI)) (ci := 4) (v := .ref jbu) (ty := .array .int) (C := RX4) (T := TX4) (N := 5) hx hb hts qN4 tyX4 tyX4_ok nmX4 hown hK hP hD hS 0 rfl rfl 3 (by decide) (hts _ qaFA) (fun _ h9 => h9) rfl hin rfl (by decide +kernel) rfl rfl (nbq rfl) (qaa qOl 0 rfl) (fun H locs hP hD hS => ?_)
  have hP : va_P (dC, dI) vwCl (qam1 a0 jbU jcK jmH jbu 0 jbU cyI (fun _ => 0) jcK cyI (fun _ => 0) jmH cyI (fun _ => 0) jbu cyI (fun _ => 0)) H := hP
  have hD : va_D A (qam1 a0 jbU jcK jmH jbu 0 jbU cyI (fun _ => 0) jcK cyI (fun _ => 0) jmH cyI (fun _ => 0) jbu cyI (fun _ => 0)) := hD
  refine lv_aload_n hx hb (qaa qOl 1 rfl) rfl (lv_at hl 0 rfl) ?_
  obtain ⟨hCc, hPc, hDc, hFc⟩ := qac (ws' := (qa8l a0 jbU jcK jmH jbu 0 jbU cyI (fun _ => 0) jcK cyI (fun _ => 0))) hP hD hS hA [0, 1, 2] (by decide +kernel) rfl
  refine va_callv (va_runV (As := []) (rest := []) ⟨hx, hb, hml, hown, hts⟩ (q8a l dC dI cyB cyI cyJ cyP a0 jbU jcK H.size (.ref jmH) (.ref jbu) 0 (fun _ => 0) (fun _ => 0) hw) (cwV 0 hts gX4_init_X4_setPlain rfl rfl rfl (by decide +kernel) ⟨nbq rfl, nbq rfl⟩) ⟨qab, va_recv (q := (RX4, TX4, 5)) hK hPc (ci := 4) (q0 := 0) rfl rfl, qae hPc hK hDc hNw⟩ rfl rfl hl.1 rfl (lv_room (nbq rfl)) (qaa qOl 2 rfl) ⟨nbq rfl, nbq rfl⟩) hS (fun q _ h => hFc q h) hFc (fun u t H1 locs ht hvm hw hB hz1 hk1 hS => ?_)
  obtain ⟨x1, f2, f3⟩ := u
  obtain ⟨hP1, hK1, hD1⟩ := hB
  rw [ht] at hP1
  obtain ⟨hP, hD⟩ := qad (wr := [(jmH, .inl (cyI, 150, .inl (fun _ => 0))), (jbu, .inl (cyI, 8, .inl (fun _ => 0)))]) (w1 := (qa8l a0 jbU jcK jmH jbu x1 jbU cyI f2 jcK cyI f3)) (wn := (qam1 a0 jbU jcK jmH jbu x1 jbU cyI f2 jcK cyI f3 jmH cyI (fun _ => 0) jbu cyI (fun _ => 0))) hP hD [0, 1, 2] [3, 4] [2, 3, 4, 0, 1] hCc rfl (by decide +kernel) (by decide +kernel) (by decide +kernel) rfl hk1 hFc hP1 hD1
  generalize H1 = H at hP hS ⊢
  exact (W.widen (k := 4) (n := 458) (nbq rfl) (nbq rfl) (W.vret hx hb hr (fun t ht hW => ⟨⟨((adr [jbU, jcK, jmH, jbu]), x1, f2, f3), rfl, hw, by rw [ht]; exact hP, va_K.moved hW.alike hK, hD⟩, hS.F ht⟩) hS.2.2 (qaa qOl 3 rfl)))
theorem qCU : ∀ w ∈ u_ws RX9 TX9 12, w ∈ wsX9_init := uiM qBG euX9 (by decide +kernel)
theorem qwx : (.arrayClass .int : Cond) ∈ wsX9_init := qBG 147 (by decide +kernel)
theorem qawH : (.code objectInit ⟨#[0xb1]⟩ 1 none : Cond) ∈ wsX9_init := qBG 12 (by decide +kernel)
theorem qaEP : (.fieldLink RX9 11 "MarchHares$Work" "kinds" "[I" : Cond) ∈ wsX9_init := qBG 266 (by decide +kernel)
theorem qaJB : (.fieldLink RX9 15 "MarchHares$Work" "first" "[I" : Cond) ∈ wsX9_init := qBG 267 (by decide +kernel)
theorem qaJ3 : (.fieldLink RX9 18 "MarchHares$Work" "second" "[I" : Cond) ∈ wsX9_init := qBG 268 (by decide +kernel)
theorem qaGs : (.fieldLink RX9 21 "MarchHares$Work" "third" "[I" : Cond) ∈ wsX9_init := qBG 269 (by decide +kernel)
theorem qaFr : (.fieldLink RX9 24 "MarchHares$Work" "heads" "[I" : Cond) ∈ wsX9_init := qBG 270 (by decide +kernel)
theorem qaLa : (.fieldLink RX9 27 "MarchHares$Work" "rounds" "[I" : Cond) ∈ wsX9_init := qBG 271 (by decide +kernel)
theorem qauR : (.instanceMethod objectInit : Cond) ∈ wsX9_init := qBG 11 (by decide +kernel)
theorem qaOv : (.methodLink RX9 3 objectInit : Cond) ∈ wsX9_init := qBG 265 (by decide +kernel)
set_option maxHeartbeats 4000000 in
set_option maxRecDepth 100000 in
theorem qa19 (l : Launch) (dC : Nat → ClassId) (dI : Nat → Nat → Nat) (cyB cyI cyJ cyP : ClassId) (a0 sz : Nat) {Q : Prop} (hw : qaMg Q) : Met l yX9_init wsX9_init ({ frames := 1, cells := 6, slots := 212, locals := 24 }) (va_Pc [.ref a0] (cPc (dC, dI) (kT cyB cyI cyJ cyP) (qake a0 0 0 0 0 0 0) sz)) (va_Qv (fun (u : (Nat → Nat)) => Q ) (cB (dC, dI) (kT cyB cyI cyJ cyP) (va_A (qake a0 0 0 0 0 0 0) sz) (fun u : (Nat → Nat) => ((qaX5 a0 (u 0) (u 1) (u 2) (u 3) (u 4) (u 5) 0 0 0 0 0 0 (u 0) cyI (fun _ => 0) (u 1) cyI (fun _ => 0) (u 2) cyI (fun _ => 0) (u 3) cyI (fun _ => 0) (u 4) cyI (fun _ => 0) (u 5) cyI (fun _ => 0)) : va_W))) (va_A (qake a0 0 0 0 0 0 0) sz)) 6 212 (va_A (qake a0 0 0 0 0 0 0) sz) := by
  refine Met.ofW (cc := cX9_init) (maxL := 1) (ret := none) (by decide) rfl ?_
  intro p e s m args below meth c s₁ B hml hv
  obtain ⟨rfl, hsz, hP, hK, hD0, hNw⟩ := hv
  have hx := B.exec
  have hb := B.bytes
  have hr := B.returns
  have hts := atoms_spec (ws := wsX9_init) B.pre
  have hown : s.vm.findClass RX9 = some m.cls := findClass_of_methodNamed B.named
  have hlocks := B.notSynchronized
  have hin : meth.name = "<init>" := (name_of_methodNamed B.named B.method).1
  subst hsz
  have hD := hD0.self (sz := s.heap.size)
  generalize hAe : va_A (qake a0 0 0 0 0 0 0) s.heap.size = A at hD ⊢
  have hA : ∀ q : Nat, s.heap.size ≤ q → A q := fun q h => by rw [← hAe]; exact Or.inr h
  have hS : va_S A s.heap s.heap [] := va_S.rf
  have hP : va_P (dC, dI) vwCl (qake a0 0 0 0 0 0 0) s.heap := hP
  have hl := lv_entry ([.ref a0]) (n := 1) (nbq rfl)
  rw [lg_entry_eq]
  generalize (lg_sl ([.ref a0]) ++ List.replicate (1 - (lg_sl ([.ref a0])).length) Slot.unset).toArray = ls at hl ⊢
  have hl : lv_has ls 1 [(0, .ref a0)] := hl
  clear hAe
  obtain ⟨H, hH⟩ : ∃ H, H = s.heap := ⟨_, rfl⟩
  rw [← hH] at hP ⊢
  have hS : va_S A s.heap H [] := by rw [hH]; exact va_S.rf
  refine lv_aload_n hx hb (qaa qSi 0 rfl) rfl (lv_at hl 0 rfl) ?_
  refine W.objInit hx hb hown (hts _ qaOv) (hts _ qauR) (hts _ qawH) rfl (by rw [hml]; exact hl.1) rfl (qaa qSi 1 rfl) (nbq rfl) (nbq rfl) ?_
  refine W.eq (g2 := F0 m 4 ls []) rfl ?_
  refine lv_aload_n hx hb (qaa qSi 2 rfl) rfl (lv_at hl 0 rfl) ?_
  refine lv_bipush (v := 50) hx hb (qaa qSi 3 rfl) (by decide) ?_
  refine va_newa (atype := .int) (ty := .int) (N' := 50) (a0 := (50, .inl (fun _ => 0))) hx hb (hts _ qwx) rfl hK hP hD hS hA (fun _ => rfl) (by decide) (by decide) (by decide) (nbq rfl) (nbq rfl) dX9_init_7 (fun jbU cA9 H hK9 hP hD hS => ?_)
  obtain rfl := qk2 hK9
  have hP : va_P (dC, dI) vwCl (qbaB a0 0 0 0 0 0 0 jbU cyI (fun _ => 0)) H := hP
  have hD : va_D A (qbaB a0 0 0 0 0 0 0 jbU cyI (fun _ => 0)) := hD
  refine va_putF (D := (dC, dI)) (ci := 9) (v := .ref jbU) (ty := .array .int) (C := RX9) (T := TX9) (N := 12) hx hb hts qCU tyX9 tyX9_ok nmX9 hown hK hP hD hS 0 rfl rfl 0 (by decide) (hts _ qaEP) (fun _ h9 => h9) rfl hin rfl (by decide +kernel) rfl rfl (nbq rfl) (qaa q3t 0 rfl) (fun H locs hP hD hS => ?_)
  have hP : va_P (dC, dI) vwCl (qa7x a0 jbU 0 0 0 0 0 0 jbU cyI (fun _ => 0)) H := hP
  have hD : va_D A (qa7x a0 jbU 0 0 0 0 0 0 jbU cyI (fun _ => 0)) := hD
  refine lv_aload_n hx hb (qaa q3t 1 rfl) rfl (lv_at hl 0 rfl) ?_
  refine lv_bipush (v := 50) hx hb (qaa q3t 2 rfl) (by decide) ?_
  refine va_newa (atype := .int) (ty := .int) (N' := 50) (a0 := (50, .inl (fun _ => 0))) hx hb (hts _ qwx) rfl hK hP hD hS hA (fun _ => rfl) (by decide) (by decide) (by decide) (nbq rfl) (nbq rfl) dX9_init_15 (fun jgF cA9 H hK9 hP hD hS => ?_)
  obtain rfl := qk2 hK9
  have hP : va_P (dC, dI) vwCl (qa96 a0 jbU 0 0 0 0 0 0 jbU cyI (fun _ => 0) jgF cyI (fun _ => 0)) H := hP
  have hD : va_D A (qa96 a0 jbU 0 0 0 0 0 0 jbU cyI (fun _ => 0) jgF cyI (fun _ => 0)) := hD
  refine va_putF (D := (dC, dI)) (ci := 9) (v := .ref jgF) (ty := .array .int) (C := RX9) (T := TX9) (N := 12) hx hb hts qCU tyX9 tyX9_ok nmX9 hown hK hP hD hS 0 rfl rfl 1 (by decide) (hts _ qaJB) (fun _ h9 => h9) rfl hin rfl (by decide +kernel) rfl rfl (nbq rfl) (qaa qXa 0 rfl) (fun H locs hP hD hS => ?_)
  have hP : va_P (dC, dI) vwCl (qbab a0 jbU jgF 0 0 0 0 0 0 jbU cyI (fun _ => 0) jgF cyI (fun _ => 0)) H := hP
  have hD : va_D A (qbab a0 jbU jgF 0 0 0 0 0 0 jbU cyI (fun _ => 0) jgF cyI (fun _ => 0)) := hD
  refine lv_aload_n hx hb (qaa qXa 1 rfl) rfl (lv_at hl 0 rfl) ?_
  refine lv_bipush (v := 50) hx hb (qaa qXa 2 rfl) (by decide) ?_
  refine va_newa (atype := .int) (ty := .int) (N' := 50) (a0 := (50, .inl (fun _ => 0))) hx hb (hts _ qwx) rfl hK hP hD hS hA (fun _ => rfl) (by decide) (by decide) (by decide) (nbq rfl) (nbq rfl) dX9_init_23 (fun jgh cA9 H hK9 hP hD hS => ?_)
  obtain rfl := qk2 hK9
  have hP : va_P (dC, dI) vwCl (qa9z a0 jbU jgF 0 0 0 0 0 0 jbU cyI (fun _ => 0) jgF cyI (fun _ => 0) jgh cyI (fun _ => 0)) H := hP
  have hD : va_D A (qa9z a0 jbU jgF 0 0 0 0 0 0 jbU cyI (fun _ => 0) jgF cyI (fun _ => 0) jgh cyI (fun _ => 0)) := hD
  refine va_putF (D := (dC, dI)) (ci := 9) (v := .ref jgh) (ty := .array .int) (C := RX9) (T := TX9) (N := 12) hx hb hts qCU tyX9 tyX9_ok nmX9 hown hK hP hD hS 0 rfl rfl 2 (by decide) (hts _ qaJ3) (fun _ h9 => h9) rfl hin rfl (by decide +kernel) rfl rfl (nbq rfl) (qaa qXt 0 rfl) (fun H locs hP hD hS => ?_)
  have hP : va_P (dC, dI) vwCl (qa4L a0 jbU jgF jgh 0 0 0 0 0 0 jbU cyI (fun _ => 0) jgF cyI (fun _ => 0) jgh cyI (fun _ => 0)) H := hP
  have hD : va_D A (qa4L a0 jbU jgF jgh 0 0 0 0 0 0 jbU cyI (fun _ => 0) jgF cyI (fun _ => 0) jgh cyI (fun _ => 0)) := hD
  refine lv_aload_n hx hb (qaa qXt 1 rfl) rfl (lv_at hl 0 rfl) ?_
  refine lv_bipush (v := 50) hx hb (qaa qXt 2 rfl) (by decide) ?_
  refine va_newa (atype := .int) (ty := .int) (N' := 50) (a0 := (50, .inl (fun _ => 0))) hx hb (hts _ qwx) rfl hK hP hD hS hA (fun _ => rfl) (by decide) (by decide) (by decide) (nbq rfl) (nbq rfl) dX9_init_31 (fun jhq cA9 H hK9 hP hD hS => ?_)
  obtain rfl := qk2 hK9
  have hP : va_P (dC, dI) vwCl (qa8C a0 jbU jgF jgh 0 0 0 0 0 0 jbU cyI (fun _ => 0) jgF cyI (fun _ => 0) jgh cyI (fun _ => 0) jhq cyI (fun _ => 0)) H := hP
  have hD : va_D A (qa8C a0 jbU jgF jgh 0 0 0 0 0 0 jbU cyI (fun _ => 0) jgF cyI (fun _ => 0) jgh cyI (fun _ => 0) jhq cyI (fun _ => 0)) := hD
  refine va_putF (D := (dC, dI)) (ci := 9) (v := .ref jhq) (ty := .array .int) (C := RX9) (T := TX9) (N := 12) hx hb hts qCU tyX9 tyX9_ok nmX9 hown hK hP hD hS 0 rfl rfl 3 (by decide) (hts _ qaGs) (fun _ h9 => h9) rfl hin rfl (by decide +kernel) rfl rfl (nbq rfl) (qaa qYj 0 rfl) (fun H locs hP hD hS => ?_)
  have hP : va_P (dC, dI) vwCl (qa82 a0 jbU jgF jgh jhq 0 0 0 0 0 0 jbU cyI (fun _ => 0) jgF cyI (fun _ => 0) jgh cyI (fun _ => 0) jhq cyI (fun _ => 0)) H := hP
  have hD : va_D A (qa82 a0 jbU jgF jgh jhq 0 0 0 0 0 0 jbU cyI (fun _ => 0) jgF cyI (fun _ => 0) jgh cyI (fun _ => 0) jhq cyI (fun _ => 0)) := hD
  refine lv_aload_n hx hb (qaa qYj 1 rfl) rfl (lv_at hl 0 rfl) ?_
  refine lv_bipush (v := 6) hx hb (qaa qYj 2 rfl) (by decide) ?_
  refine va_newa (atype := .int) (ty := .int) (N' := 6) (a0 := (6, .inl (fun _ => 0))) hx hb (hts _ qwx) rfl hK hP hD hS hA (fun _ => rfl) (by decide) (by decide) (by decide) (nbq rfl) (nbq rfl) dX9_init_39 (fun jju cA9 H hK9 hP hD hS => ?_)
  obtain rfl := qk2 hK9
  have hP : va_P (dC, dI) vwCl (qa4e a0 jbU jgF jgh jhq 0 0 0 0 0 0 jbU cyI (fun _ => 0) jgF cyI (fun _ => 0) jgh cyI (fun _ => 0) jhq cyI (fun _ => 0) jju cyI (fun _ => 0)) H := hP
  have hD : va_D A (qa4e a0 jbU jgF jgh jhq 0 0 0 0 0 0 jbU cyI (fun _ => 0) jgF cyI (fun _ => 0) jgh cyI (fun _ => 0) jhq cyI (fun _ => 0) jju cyI (fun _ => 0)) := hD
  refine va_putF (D := (dC, dI)) (ci := 9) (v := .ref jju) (ty := .array .int) (C := RX9) (T := TX9) (N := 12) hx hb hts qCU tyX9 tyX9_ok nmX9 hown hK hP hD hS 0 rfl rfl 4 (by decide) (hts _ qaFr) (fun _ h9 => h9) rfl hin rfl (by decide +kernel) rfl rfl (nbq rfl) (qaa qX5 0 rfl) (fun H locs hP hD hS => ?_)
  have hP : va_P (dC, dI) vwCl (qa63 a0 jbU jgF jgh jhq jju 0 0 0 0 0 0 jbU cyI (fun _ => 0) jgF cyI (fun _ => 0) jgh cyI (fun _ => 0) jhq cyI (fun _ => 0) jju cyI (fun _ => 0)) H := hP
  have hD : va_D A (qa63 a0 jbU jgF jgh jhq jju 0 0 0 0 0 0 jbU cyI (fun _ => 0) jgF cyI (fun _ => 0) jgh cyI (fun _ => 0) jhq cyI (fun _ => 0) jju cyI (fun _ => 0)) := hD
  refine lv_aload_n hx hb (qaa qX5 1 rfl) rfl (lv_at hl 0 rfl) ?_
  refine lv_bipush (v := 6) hx hb (qaa qX5 2 rfl) (by decide) ?_
  refine va_newa (atype := .int) (ty := .int) (N' := 6) (a0 := (6, .inl (fun _ => 0))) hx hb (hts _ qwx) rfl hK hP hD hS hA (fun _ => rfl) (by decide) (by decide) (by decide) (nbq rfl) (nbq rfl) dX9_init_47 (fun jlw cA9 H hK9 hP hD hS => ?_)
  obtain rfl := qk2 hK9
  have hP : va_P (dC, dI) vwCl (qa42 a0 jbU jgF jgh jhq jju 0 0 0 0 0 0 jbU cyI (fun _ => 0) jgF cyI (fun _ => 0) jgh cyI (fun _ => 0) jhq cyI (fun _ => 0) jju cyI (fun _ => 0) jlw cyI (fun _ => 0)) H := hP
  have hD : va_D A (qa42 a0 jbU jgF jgh jhq jju 0 0 0 0 0 0 jbU cyI (fun _ => 0) jgF cyI (fun _ => 0) jgh cyI (fun _ => 0) jhq cyI (fun _ => 0) jju cyI (fun _ => 0) jlw cyI (fun _ => 0)) := hD
  refine va_putF (D := (dC, dI)) (ci := 9) (v := .ref jlw) (ty := .array .int) (C := RX9) (T := TX9) (N := 12) hx hb hts qCU tyX9 tyX9_ok nmX9 hown hK hP hD hS 0 rfl rfl 5 (by decide) (hts _ qaLa) (fun _ h9 => h9) rfl hin rfl (by decide +kernel) rfl rfl (nbq rfl) (qaa qafY 0 rfl) (fun H locs hP hD hS => ?_)
  have hP : va_P (dC, dI) vwCl (qaX5 a0 jbU jgF jgh jhq jju jlw 0 0 0 0 0 0 jbU cyI (fun _ => 0) jgF cyI (fun _ => 0) jgh cyI (fun _ => 0) jhq cyI (fun _ => 0) jju cyI (fun _ => 0) jlw cyI (fun _ => 0)) H := hP
  have hD : va_D A (qaX5 a0 jbU jgF jgh jhq jju jlw 0 0 0 0 0 0 jbU cyI (fun _ => 0) jgF cyI (fun _ => 0) jgh cyI (fun _ => 0) jhq cyI (fun _ => 0) jju cyI (fun _ => 0) jlw cyI (fun _ => 0)) := hD
  exact (W.widen (k := 6) (n := 212) (nbq rfl) (nbq rfl) (W.vret hx hb hr (fun t ht hW => ⟨⟨(adr [jbU, jgF, jgh, jhq, jju, jlw]), rfl, hw, by rw [ht]; exact hP, va_K.moved hW.alike hK, hD⟩, hS.F ht⟩) hS.2.2 (qaa qafY 1 rfl)))
theorem qag2 : ∀ w ∈ u_ws RX1 TX1 4, w ∈ wsX1_init := uiM qHj qWg (by decide +kernel)
theorem qY0 : (.arrayClass .int : Cond) ∈ wsX1_init := qHj 147 (by decide +kernel)
theorem qawo : (.code objectInit ⟨#[0xb1]⟩ 1 none : Cond) ∈ wsX1_init := qHj 12 (by decide +kernel)
theorem qaGM : (.fieldLink RX1 13 "MarchHares$Days" "row" "[I" : Cond) ∈ wsX1_init := qHj 276 (by decide +kernel)
theorem qaK2 : (.fieldLink RX1 17 "MarchHares$Days" "owedEach" "[I" : Cond) ∈ wsX1_init := qHj 277 (by decide +kernel)
theorem qaug : (.instanceMethod objectInit : Cond) ∈ wsX1_init := qHj 11 (by decide +kernel)
theorem qaOQ : (.methodLink RX1 7 objectInit : Cond) ∈ wsX1_init := qHj 275 (by decide +kernel)
set_option maxHeartbeats 4000000 in
set_option maxRecDepth 100000 in
theorem qaMp (l : Launch) (dC : Nat → ClassId) (dI : Nat → Nat → Nat) (cyB cyI cyJ cyP : ClassId) (a0 a1 a2 jmO jnd jmh sz : Nat) (jov jow jlD jlE jlF jnY jlf jlG : Value) (jnS : Int32) (jnV joi jmW : NI) {Q : NI → Prop} (hw : qaml jnS jnV joi jmW Q) : Met l yX1_init wsX1_init ({ frames := 2, cells := 2, slots := 70, locals := 63 }) (va_Pc [.ref a0, .ref a1, .ref a2] (cPc (dC, dI) (kT cyB cyI cyJ cyP) (qamH a0 a1 jov jow jlD jlE jnd jmh jmO jlF jnY jnS jlf jlG jmO cyI jnV jnd cyI joi jmh cyI jmW) sz)) (va_Qv (fun (u : (Nat → Nat) × NI) => Q u.2) (cB (dC, dI) (kT cyB cyI cyJ cyP) (va_A (qamH a0 a1 jov jow jlD jlE jnd jmh jmO jlF jnY jnS jlf jlG jmO cyI jnV jnd cyI joi jmh cyI jmW) sz) (fun u : (Nat → Nat) × NI => ((qa74 a0 (u.1 0) (u.1 1) a1 a2 a1 jov jow jlD jlE jnd jmh jmO jlF jnY jnS jlf jlG jmO cyI jnV jnd cyI joi jmh cyI jmW (u.1 0) cyI u.2 (u.1 1) cyI (fun _ => 0)) : va_W))) (va_A (qamH a0 a1 jov jow jlD jlE jnd jmh jmO jlF jnY jnS jlf jlG jmO cyI jnV jnd cyI joi jmh cyI jmW) sz)) 2 70 (va_A (qamH a0 a1 jov jow jlD jlE jnd jmh jmO jlF jnY jnS jlf jlG jmO cyI jnV jnd cyI joi jmh cyI jmW) sz) := by
  refine Met.ofW (cc := cX1_init) (maxL := 3) (ret := none) (by decide) rfl ?_
  intro p e s m args below meth c s₁ B hml hv
  obtain ⟨rfl, hsz, hP, hK, hD0, hNw⟩ := hv
  have hx := B.exec
  have hb := B.bytes
  have hr := B.returns
  have hts := atoms_spec (ws := wsX1_init) B.pre
  have hown : s.vm.findClass RX1 = some m.cls := findClass_of_methodNamed B.named
  have hlocks := B.notSynchronized
  have hin : meth.name = "<init>" := (name_of_methodNamed B.named B.method).1
  subst hsz
  have hD := hD0.self (sz := s.heap.size)
  generalize hAe : va_A (qamH a0 a1 jov jow jlD jlE jnd jmh jmO jlF jnY jnS jlf jlG jmO cyI jnV jnd cyI joi jmh cyI jmW) s.heap.size = A at hD ⊢
  have hA : ∀ q : Nat, s.heap.size ≤ q → A q := fun q h => by rw [← hAe]; exact Or.inr h
  have hS : va_S A s.heap s.heap [] := va_S.rf
  have hP : va_P (dC, dI) vwCl (qamH a0 a1 jov jow jlD jlE jnd jmh jmO jlF jnY jnS jlf jlG jmO cyI jnV jnd cyI joi jmh cyI jmW) s.heap := hP
  have hl := lv_entry ([.ref a0, .ref a1, .ref a2]) (n := 3) (nbq rfl)
  rw [lg_entry_eq]
  generalize (lg_sl ([.ref a0, .ref a1, .ref a2]) ++ List.replicate (3 - (lg_sl ([.ref a0, .ref a1, .ref a2])).length) Slot.unset).toArray = ls at hl ⊢
  have hl : lv_has ls 3 [(0, .ref a0), (1, .ref a1), (2, .ref a2)] := hl
  clear hAe
  obtain ⟨H, hH⟩ : ∃ H, H = s.heap := ⟨_, rfl⟩
  rw [← hH] at hP ⊢
  have hS : va_S A s.heap H [] := by rw [hH]; exact va_S.rf
  refine lv_aload_n hx hb (qaa qSW 0 rfl) rfl (lv_at hl 0 rfl) ?_
  refine W.objInit hx hb hown (hts _ qaOQ) (hts _ qaug) (hts _ qawo) rfl (by rw [hml]; exact hl.1) rfl (qaa qSW 1 rfl) (nbq rfl) (nbq rfl) ?_
  refine W.eq (g2 := F0 m 4 ls []) rfl ?_
  refine lv_aload_n hx hb (qaa qSW 2 rfl) rfl (lv_at hl 0 rfl) ?_
  refine lv_bipush (v := 64) hx hb (qaa qSW 3 rfl) (by decide) ?_
  refine va_newa (atype := .int) (ty := .int) (N' := 64) (a0 := (64, .inl (fun _ => 0))) hx hb (hts _ qY0) rfl hK hP hD hS hA (fun _ => rfl) (by decide) (by decide) (by decide) (nbq rfl) (nbq rfl) dX1_init_7 (fun jch cA9 H hK9 hP hD hS => ?_)
  obtain rfl := qk2 hK9
  have hP : va_P (dC, dI) vwCl (qbaT a0 a1 jov jow jlD jlE jnd jmh jmO jlF jnY jnS jlf jlG jmO cyI jnV jnd cyI joi jmh cyI jmW jch cyI (fun _ => 0)) H := hP
  have hD : va_D A (qbaT a0 a1 jov jow jlD jlE jnd jmh jmO jlF jnY jnS jlf jlG jmO cyI jnV jnd cyI joi jmh cyI jmW jch cyI (fun _ => 0)) := hD
  refine va_putF (D := (dC, dI)) (ci := 1) (v := .ref jch) (ty := .array .int) (C := RX1) (T := TX1) (N := 4) hx hb hts qag2 tyX1 tyX1_ok nmX1 hown hK hP hD hS 0 rfl rfl 0 (by decide) (hts _ qaGM) (fun _ h9 => h9) rfl hin rfl (by decide +kernel) rfl rfl (nbq rfl) (qaa q1z 0 rfl) (fun H locs hP hD hS => ?_)
  have hP : va_P (dC, dI) vwCl (qbad a0 jch a1 jov jow jlD jlE jnd jmh jmO jlF jnY jnS jlf jlG jmO cyI jnV jnd cyI joi jmh cyI jmW jch cyI (fun _ => 0)) H := hP
  have hD : va_D A (qbad a0 jch a1 jov jow jlD jlE jnd jmh jmO jlF jnY jnS jlf jlG jmO cyI jnV jnd cyI joi jmh cyI jmW jch cyI (fun _ => 0)) := hD
  refine lv_aload_n hx hb (qaa q1z 1 rfl) rfl (lv_at hl 0 rfl) ?_
  refine lv_bipush (v := 6) hx hb (qaa q1z 2 rfl) (by decide) ?_
  refine va_newa (atype := .int) (ty := .int) (N' := 6) (a0 := (6, .inl (fun _ => 0))) hx hb (hts _ qY0) rfl hK hP hD hS hA (fun _ => rfl) (by decide) (by decide) (by decide) (nbq rfl) (nbq rfl) dX1_init_15 (fun jlN cA9 H hK9 hP hD hS => ?_)
  obtain rfl := qk2 hK9
  have hP : va_P (dC, dI) vwCl (qa9s a0 jch a1 jov jow jlD jlE jnd jmh jmO jlF jnY jnS jlf jlG jmO cyI jnV jnd cyI joi jmh cyI jmW jch cyI (fun _ => 0) jlN cyI (fun _ => 0)) H := hP
  have hD : va_D A (qa9s a0 jch a1 jov jow jlD jlE jnd jmh jmO jlF jnY jnS jlf jlG jmO cyI jnV jnd cyI joi jmh cyI jmW jch cyI (fun _ => 0) jlN cyI (fun _ => 0)) := hD
  refine va_putF (D := (dC, dI)) (ci := 1) (v := .ref jlN) (ty := .array .int) (C := RX1) (T := TX1) (N := 4) hx hb hts qag2 tyX1 tyX1_ok nmX1 hown hK hP hD hS 0 rfl rfl 1 (by decide) (hts _ qaK2) (fun _ h9 => h9) rfl hin rfl (by decide +kernel) rfl rfl (nbq rfl) (qaa qCV 0 rfl) (fun H locs hP hD hS => ?_)
  have hP : va_P (dC, dI) vwCl (qa1g a0 jch jlN a1 jov jow jlD jlE jnd jmh jmO jlF jnY jnS jlf jlG jmO cyI jnV jnd cyI joi jmh cyI jmW jch cyI (fun _ => 0) jlN cyI (fun _ => 0)) H := hP
  have hD : va_D A (qa1g a0 jch jlN a1 jov jow jlD jlE jnd jmh jmO jlF jnY jnS jlf jlG jmO cyI jnV jnd cyI joi jmh cyI jmW jch cyI (fun _ => 0) jlN cyI (fun _ => 0)) := hD
  refine lv_aload_n hx hb (qaa qCV 1 rfl) rfl (lv_at hl 0 rfl) ?_
  refine lv_aload_n hx hb (qaa qCV 2 rfl) rfl (lv_at hl 1 rfl) ?_
  refine lv_aload_n hx hb (qaa qCV 3 rfl) rfl (lv_at hl 2 rfl) ?_
  obtain ⟨hCc, hPc, hDc, hFc⟩ := qac (ws' := (qbce a0 jch jlN jch cyI (fun _ => 0) a1 jov jow jlD jlE jnd jmh jmO jlF jnY jnS jlf jlG jmO cyI jnV jnd cyI joi jmh cyI jmW)) hP hD hS hA [0, 5, 1, 2, 3, 4] (by decide +kernel) rfl
  refine va_callv (va_runV (As := [.ref a1, .ref a2]) (rest := []) ⟨hx, hb, hml, hown, hts⟩ (qazr l dC dI cyB cyI cyJ cyP a0 a1 a2 jch jmO jnd jmh H.size (.ref jlN) (.null) (.null) (jov) (jow) (jlD) (jlE) (jlF) (jnY) (jlf) (jlG) jnS jnV joi jmW (fun _ => 0) hw) (cwV 2 hts gX1_init_X1_begin rfl rfl rfl (by decide +kernel) ⟨nbq rfl, nbq rfl⟩) ⟨qab, va_recv (q := (RX1, TX1, 4)) hK hPc (ci := 1) (q0 := 0) rfl rfl, qae hPc hK hDc hNw⟩ rfl rfl hl.1 rfl (lv_room (nbq rfl)) (qaa qCV 4 rfl) ⟨nbq rfl, nbq rfl⟩) hS (fun q _ h => hFc q h) hFc (fun u t H1 locs ht hvm hw hB hz1 hk1 hS => ?_)
  obtain ⟨f1, rfl⟩ : ∃ z, z = u := ⟨_, rfl⟩
  obtain ⟨hP1, hK1, hD1⟩ := hB
  rw [ht] at hP1
  obtain ⟨hP, hD⟩ := qad (wr := (qa51 jlN cyI (fun _ => 0))) (w1 := [(a0, .inr (1, [.ref jch, .ref jlN, .ref a1, .ref a2])), (jch, .inl (cyI, 64, .inl f1)), (a1, .inr (2, [jov, jow, jlD, jlE, .ref jnd, .ref jmh, .ref jmO, jlF, jnY, .int jnS, jlf, jlG])), (jmO, .inl (cyI, 36, .inl jnV)), (jnd, .inl (cyI, 6, .inl joi)), (jmh, .inl (cyI, 6, .inl jmW))]) (wn := (qa74 a0 jch jlN a1 a2 a1 jov jow jlD jlE jnd jmh jmO jlF jnY jnS jlf jlG jmO cyI jnV jnd cyI joi jmh cyI jmW jch cyI f1 jlN cyI (fun _ => 0))) hP hD [0, 5, 1, 2, 3, 4] [6] [1, 3, 4, 5, 6, 2, 0] hCc rfl (by decide +kernel) (by decide +kernel) (by decide +kernel) rfl hk1 hFc hP1 hD1
  generalize H1 = H at hP hS ⊢
  exact (W.widen (k := 2) (n := 70) (nbq rfl) (nbq rfl) (W.vret hx hb hr (fun t ht hW => ⟨⟨((adr [jch, jlN]), f1), rfl, hw, by rw [ht]; exact hP, va_K.moved hW.alike hK, hD⟩, hS.F ht⟩) hS.2.2 (qaa qCV 5 rfl)))
