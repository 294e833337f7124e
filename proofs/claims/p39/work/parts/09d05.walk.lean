/-- worlds by their leaves -/
def qJc (x0 : Nat) (x1 x2 x3 x4 x5 x6 x7 : Value) (x8 : Nat) (x9 : Int32) (x10 x11 x12 : Value) (x13 : Nat) (x14 : ClassId) (x15 : NI) : va_W := [(x0, .inr (2, [x1, x2, x3, x4, x5, x6, x7, .ref x8, .int x9, x10, x11, x12])), (x13, .inl (x14, 8, .inl x15))]
def qvN (x0 x1 x2 : Nat) (x3 x4 x5 x6 x7 : Value) (x8 : Nat) (x9 : Int32) (x10 x11 x12 : Value) (x13 : Nat) (x14 : ClassId) (x15 : NI) (x16 : Nat) (x17 : ClassId) (x18 : NI) (x19 : Nat) (x20 : ClassId) (x21 : NI) : va_W := [(x0, .inr (2, [.ref x1, .ref x2, x3, x4, x5, x6, x7, .ref x8, .int x9, x10, x11, x12])), (x13, .inl (x14, 8, .inl x15)), (x16, .inl (x17, 8, .inl x18)), (x19, .inl (x20, 8, .inl x21))]
def qbdA (x0 x1 x2 : Nat) (x3 x4 x5 x6 x7 : Value) (x8 : Nat) (x9 : Int32) (x10 x11 x12 : Value) (x13 : Nat) (x14 : ClassId) (x15 : NI) : va_W := [(x0, .inr (2, [.ref x1, .ref x2, x3, x4, x5, x6, x7, .ref x8, .int x9, x10, x11, x12])), (x13, .inl (x14, 8, .inl x15))]
def qbcK (x0 x1 x2 : Nat) (x3 x4 x5 x6 x7 : Value) (x8 : Nat) (x9 : Int32) (x10 x11 x12 : Value) (x13 : Nat) (x14 : ClassId) (x15 : NI) (x16 : Nat) (x17 : ClassId) (x18 : NI) : va_W := [(x0, .inr (2, [.ref x1, .ref x2, x3, x4, x5, x6, x7, .ref x8, .int x9, x10, x11, x12])), (x13, .inl (x14, 8, .inl x15)), (x16, .inl (x17, 8, .inl x18))]
def qNl (x0 : Nat) (x1 : Value) (x2 : Nat) (x3 x4 x5 x6 x7 x8 x9 x10 x11 x12 x13 x14 x15 x16 x17 x18 : Value) (x19 : Int32) (x20 x21 x22 : Nat) (x23 x24 x25 x26 x27 : Value) (x28 : Nat) (x29 : Int32) (x30 x31 x32 : Value) (x33 : Nat) (x34 : ClassId) (x35 : NI) (x36 : Nat) (x37 : ClassId) (x38 : NI) (x39 : Nat) (x40 : ClassId) (x41 : NI) : va_W := [(x0, .inr (10, [x1, .ref x2, x3, x4, x5, x6, x7, x8, x9, x10, x11, x12, x13, x14, x15, x16, x17, x18, .int x19])), (x20, .inr (2, [.ref x21, .ref x22, x23, x24, x25, x26, x27, .ref x28, .int x29, x30, x31, x32])), (x33, .inl (x34, 8, .inl x35)), (x36, .inl (x37, 8, .inl x38)), (x39, .inl (x40, 8, .inl x41))]
def qa0o (x0 : Nat) (x1 : Value) (x2 : Nat) (x3 x4 x5 x6 x7 x8 x9 x10 x11 x12 x13 x14 x15 x16 x17 x18 : Value) (x19 : Int32) : va_W := [(x0, .inr (10, [x1, .ref x2, x3, x4, x5, x6, x7, x8, x9, x10, x11, x12, x13, x14, x15, x16, x17, x18, .int x19]))]
def qZ2 (x0 : Nat) (x1 : Value) (x2 : Nat) (x3 x4 x5 x6 x7 x8 x9 x10 x11 x12 x13 x14 x15 x16 x17 x18 : Value) (x19 : Int32) (x20 x21 x22 : Nat) (x23 x24 x25 x26 x27 : Value) (x28 : Nat) (x29 : Int32) (x30 x31 x32 : Value) (x33 : Nat) (x34 : ClassId) (x35 : NI) (x36 : Nat) (x37 : ClassId) (x38 : NI) (x39 : Nat) (x40 : ClassId) (x41 : NI) (x42 : Nat) (x43 : ClassId) (x44 : Nat) (x45 : Nat → Int64) : va_W := [(x0, .inr (10, [x1, .ref x2, x3, x4, x5, x6, x7, x8, x9, x10, x11, x12, x13, x14, x15, x16, x17, x18, .int x19])), (x20, .inr (2, [.ref x21, .ref x22, x23, x24, x25, x26, x27, .ref x28, .int x29, x30, x31, x32])), (x33, .inl (x34, 8, .inl x35)), (x36, .inl (x37, 8, .inl x38)), (x39, .inl (x40, 8, .inl x41)), (x42, .inl (x43, x44, .inr (.inl x45)))]
def qLJ (x0 x1 x2 x3 x4 : Nat) (x5 x6 : Value) (x7 : Int32) (x8 x9 x10 x11 x12 : Value) (x13 : Nat) (x14 : ClassId) (x15 : NI) (x16 : Nat) (x17 : ClassId) (x18 : NI) (x19 : Nat) (x20 : ClassId) (x21 : NI) (x22 : Nat) (x23 : ClassId) (x24 : NI) : va_W := [(x0, .inr (9, [.ref x1, .ref x2, .ref x3, .ref x4, x5, x6, .int x7, x8, x9, x10, x11, x12])), (x13, .inl (x14, 50, .inl x15)), (x16, .inl (x17, 50, .inl x18)), (x19, .inl (x20, 50, .inl x21)), (x22, .inl (x23, 50, .inl x24))]
def qLk (x0 x1 x2 x3 x4 x5 : Nat) (x6 : Value) (x7 x8 : Int32) (x9 x10 x11 x12 : Value) (x13 : Nat) (x14 : ClassId) (x15 : NI) (x16 : Nat) (x17 : ClassId) (x18 : NI) (x19 : Nat) (x20 : ClassId) (x21 : NI) (x22 : Nat) (x23 : ClassId) (x24 : NI) (x25 : Nat) (x26 : ClassId) (x27 : NI) : va_W := [(x0, .inr (9, [.ref x1, .ref x2, .ref x3, .ref x4, .ref x5, x6, .int x7, .int x8, x9, x10, x11, x12])), (x13, .inl (x14, 6, .inl x15)), (x16, .inl (x17, 50, .inl x18)), (x19, .inl (x20, 50, .inl x21)), (x22, .inl (x23, 50, .inl x24)), (x25, .inl (x26, 50, .inl x27))]
def qa0w (x0 x1 x2 x3 x4 x5 : Nat) (x6 : Value) (x7 x8 : Int32) (x9 x10 x11 x12 : Value) (x13 : Nat) (x14 : ClassId) (x15 : NI) (x16 : Nat) (x17 : ClassId) (x18 : NI) (x19 : Nat) (x20 : ClassId) (x21 : NI) (x22 : Nat) (x23 : ClassId) (x24 : NI) : va_W := [(x0, .inr (9, [.ref x1, .ref x2, .ref x3, .ref x4, .ref x5, x6, .int x7, .int x8, x9, x10, x11, x12])), (x13, .inl (x14, 50, .inl x15)), (x16, .inl (x17, 50, .inl x18)), (x19, .inl (x20, 50, .inl x21)), (x22, .inl (x23, 50, .inl x24))]
def qa6W (x0 : Nat) (x1 : ClassId) (x2 : NI) : va_W := [(x0, .inl (x1, 6, .inl x2))]
def qFy (x0 x1 x2 x3 x4 x5 : Nat) (x6 : Value) (x7 x8 : Int32) (x9 x10 x11 x12 : Value) (x13 x14 : Nat) (x15 x16 x17 : Int32) (x18 : Value) (x19 x20 : Int32) (x21 : Nat) (x22 : ClassId) (x23 : NI) (x24 : Nat) (x25 : ClassId) (x26 : NI) (x27 : Nat) (x28 : ClassId) (x29 : NI) (x30 : Nat) (x31 : ClassId) (x32 : NI) (x33 : Nat) (x34 : ClassId) (x35 : NI) (x36 : Nat) (x37 : ClassId) (x38 : NI) : va_W := [(x0, .inr (9, [.ref x1, .ref x2, .ref x3, .ref x4, .ref x5, x6, .int x7, .int x8, x9, x10, x11, x12])), (x13, .inr (8, [.ref x14, .int x15, .int x16, .int x17, x18, .int x19, .int x20])), (x21, .inl (x22, 600, .inl x23)), (x24, .inl (x25, 6, .inl x26)), (x27, .inl (x28, 50, .inl x29)), (x30, .inl (x31, 50, .inl x32)), (x33, .inl (x34, 50, .inl x35)), (x36, .inl (x37, 50, .inl x38))]
def qaMo (x0 x1 : Nat) (x2 x3 x4 : Int32) (x5 : Value) (x6 x7 : Int32) (x8 : Nat) (x9 : ClassId) (x10 : NI) : va_W := [(x0, .inr (8, [.ref x1, .int x2, .int x3, .int x4, x5, .int x6, .int x7])), (x8, .inl (x9, 600, .inl x10))]
def qa33 (x0 x1 : Nat) (x2 x3 x4 : Int32) (x5 : Value) (x6 x7 : Int32) : va_W := [(x0, .inr (8, [.ref x1, .int x2, .int x3, .int x4, x5, .int x6, .int x7]))]
def qrR (x0 x1 : Nat) (x2 : Int32) (x3 x4 : Nat) (x5 x6 x7 : Value) (x8 : Nat) (x9 : ClassId) (x10 : NI) (x11 : Nat) (x12 : ClassId) (x13 : NI) : va_W := [(x0, .inr (5, [.ref x1, .int x2])), (x3, .inr (1, [.ref x4, x5, x6, x7])), (x8, .inl (x9, 64, .inl x10)), (x11, .inl (x12, 1088, .inl x13))]
def qO0 (x0 : Nat) (x1 : Value) (x2 : Nat) (x3 x4 x5 : Value) (x6 : Nat) (x7 : Value) (x8 : Int32) (x9 x10 x11 x12 : Value) (x13 : Nat) (x14 : ClassId) (x15 : NI) (x16 : Nat) (x17 : ClassId) (x18 : NI) : va_W := [(x0, .inr (9, [x1, .ref x2, x3, x4, x5, .ref x6, x7, .int x8, x9, x10, x11, x12])), (x13, .inl (x14, 6, .inl x15)), (x16, .inl (x17, 50, .inl x18))]
def qHR (x0 : Nat) (x1 : Value) (x2 x3 : Nat) (x4 x5 : Value) (x6 : Nat) (x7 : Value) (x8 : Int32) (x9 x10 x11 x12 : Value) (x13 : Nat) (x14 : ClassId) (x15 : NI) (x16 : Nat) (x17 : ClassId) (x18 : NI) (x19 : Nat) (x20 : ClassId) (x21 : NI) : va_W := [(x0, .inr (9, [x1, .ref x2, .ref x3, x4, x5, .ref x6, x7, .int x8, x9, x10, x11, x12])), (x13, .inl (x14, 50, .inl x15)), (x16, .inl (x17, 6, .inl x18)), (x19, .inl (x20, 50, .inl x21))]
def qux (x0 x1 : Nat) (x2 x3 x4 : Value) (x5 : Nat) (x6 : ClassId) (x7 : NI) : va_W := [(x0, .inr (1, [.ref x1, x2, x3, x4])), (x5, .inl (x6, 64, .inl x7))]
def qP1 (x0 x1 x2 x3 x4 : Nat) (x5 x6 x7 x8 x9 x10 x11 x12 : Value) (x13 : Nat) (x14 : ClassId) (x15 : NI) (x16 x17 : Nat) (x18 : Value) (x19 x20 x21 : Nat) (x22 : ClassId) (x23 : NI) (x24 : Nat) (x25 : ClassId) (x26 : NI) (x27 : Nat) (x28 : ClassId) (x29 : NI) (x30 x31 x32 : Nat) (x33 x34 x35 x36 x37 x38 x39 : Value) (x40 : Int32) (x41 x42 : Value) (x43 : Nat) (x44 : ClassId) (x45 : NI) (x46 : Nat) (x47 : ClassId) (x48 : NI) (x49 x50 x51 x52 x53 : Nat) (x54 : Int32) (x55 : Nat) (x56 : ClassId) (x57 : NI) (x58 : Nat) (x59 : ClassId) (x60 : NI) (x61 : Nat) (x62 : ClassId) (x63 : NI) (x64 : Nat) (x65 : ClassId) (x66 : NI) (x67 : Nat) (x68 : ClassId) (x69 : NI) : va_W := [(x0, .inr (9, [.ref x1, .ref x2, .ref x3, .ref x4, x5, x6, x7, x8, x9, x10, x11, x12])), (x13, .inl (x14, 50, .inl x15)), (x16, .inr (1, [.ref x17, x18, .ref x19, .ref x20])), (x21, .inl (x22, 64, .inl x23)), (x24, .inl (x25, 50, .inl x26)), (x27, .inl (x28, 50, .inl x29)), (x30, .inr (2, [.ref x31, .ref x32, x33, x34, x35, x36, x37, x38, x39, .int x40, x41, x42])), (x43, .inl (x44, 8, .inl x45)), (x46, .inl (x47, 8, .inl x48)), (x49, .inr (4, [.ref x50, .ref x51, .ref x52, .ref x53, .int x54])), (x55, .inl (x56, 8, .inl x57)), (x58, .inl (x59, 150, .inl x60)), (x61, .inl (x62, 150, .inl x63)), (x64, .inl (x65, 150, .inl x66)), (x67, .inl (x68, 50, .inl x69))]
def qal7 (x0 x1 : Nat) (x2 : Value) (x3 x4 x5 : Nat) (x6 : ClassId) (x7 : NI) : va_W := [(x0, .inr (1, [.ref x1, x2, .ref x3, .ref x4])), (x5, .inl (x6, 64, .inl x7))]
def qaWZ (x0 x1 x2 x3 x4 : Nat) (x5 x6 x7 x8 x9 x10 x11 x12 : Value) (x13 : Nat) (x14 : ClassId) (x15 : NI) (x16 : Nat) (x17 : ClassId) (x18 : NI) (x19 : Nat) (x20 : ClassId) (x21 : NI) (x22 x23 x24 : Nat) (x25 x26 x27 x28 x29 x30 x31 : Value) (x32 : Int32) (x33 x34 : Value) (x35 : Nat) (x36 : ClassId) (x37 : NI) (x38 : Nat) (x39 : ClassId) (x40 : NI) (x41 x42 x43 x44 x45 : Nat) (x46 : Int32) (x47 : Nat) (x48 : ClassId) (x49 : NI) (x50 : Nat) (x51 : ClassId) (x52 : NI) (x53 : Nat) (x54 : ClassId) (x55 : NI) (x56 : Nat) (x57 : ClassId) (x58 : NI) (x59 : Nat) (x60 : ClassId) (x61 : NI) : va_W := [(x0, .inr (9, [.ref x1, .ref x2, .ref x3, .ref x4, x5, x6, x7, x8, x9, x10, x11, x12])), (x13, .inl (x14, 50, .inl x15)), (x16, .inl (x17, 50, .inl x18)), (x19, .inl (x20, 50, .inl x21)), (x22, .inr (2, [.ref x23, .ref x24, x25, x26, x27, x28, x29, x30, x31, .int x32, x33, x34])), (x35, .inl (x36, 8, .inl x37)), (x38, .inl (x39, 8, .inl x40)), (x41, .inr (4, [.ref x42, .ref x43, .ref x44, .ref x45, .int x46])), (x47, .inl (x48, 8, .inl x49)), (x50, .inl (x51, 150, .inl x52)), (x53, .inl (x54, 150, .inl x55)), (x56, .inl (x57, 150, .inl x58)), (x59, .inl (x60, 50, .inl x61))]
def qa6L (x0 x1 : Nat) (x2 : Value) (x3 x4 x5 : Nat) (x6 : ClassId) (x7 : NI) (x8 x9 x10 : Nat) (x11 x12 x13 x14 x15 x16 x17 : Value) (x18 : Int32) (x19 x20 : Value) (x21 : Nat) (x22 : ClassId) (x23 : NI) (x24 : Nat) (x25 : ClassId) (x26 : NI) (x27 x28 x29 x30 x31 : Nat) (x32 : Int32) (x33 : Nat) (x34 : ClassId) (x35 : NI) (x36 : Nat) (x37 : ClassId) (x38 : NI) (x39 : Nat) (x40 : ClassId) (x41 : NI) (x42 : Nat) (x43 : ClassId) (x44 : NI) : va_W := [(x0, .inr (1, [.ref x1, x2, .ref x3, .ref x4])), (x5, .inl (x6, 64, .inl x7)), (x8, .inr (2, [.ref x9, .ref x10, x11, x12, x13, x14, x15, x16, x17, .int x18, x19, x20])), (x21, .inl (x22, 8, .inl x23)), (x24, .inl (x25, 8, .inl x26)), (x27, .inr (4, [.ref x28, .ref x29, .ref x30, .ref x31, .int x32])), (x33, .inl (x34, 8, .inl x35)), (x36, .inl (x37, 150, .inl x38)), (x39, .inl (x40, 150, .inl x41)), (x42, .inl (x43, 150, .inl x44))]
def qa47 (x0 x1 x2 x3 x4 : Nat) (x5 x6 x7 x8 x9 x10 x11 x12 : Value) (x13 : Nat) (x14 : ClassId) (x15 : NI) (x16 : Nat) (x17 : ClassId) (x18 : NI) (x19 : Nat) (x20 : ClassId) (x21 : NI) (x22 : Nat) (x23 : ClassId) (x24 : NI) : va_W := [(x0, .inr (9, [.ref x1, .ref x2, .ref x3, .ref x4, x5, x6, x7, x8, x9, x10, x11, x12])), (x13, .inl (x14, 50, .inl x15)), (x16, .inl (x17, 50, .inl x18)), (x19, .inl (x20, 50, .inl x21)), (x22, .inl (x23, 50, .inl x24))]
def qQE (x0 x1 x2 x3 x4 : Nat) (x5 x6 x7 x8 x9 x10 x11 x12 : Value) (x13 : Nat) (x14 : ClassId) (x15 : NI) (x16 x17 : Nat) (x18 : Value) (x19 : Nat) (x20 : Value) (x21 : Nat) (x22 x23 x24 x25 x26 : Value) (x27 : Nat) (x28 x29 x30 : Value) (x31 : Int32) (x32 : Value) (x33 : Int32) (x34 : Nat) (x35 : ClassId) (x36 : NI) (x37 : Nat) (x38 : ClassId) (x39 : NI) (x40 : Nat) (x41 : ClassId) (x42 : NI) (x43 : Nat) (x44 : ClassId) (x45 : NI) (x46 : Nat) (x47 : ClassId) (x48 : NI) : va_W := [(x0, .inr (9, [.ref x1, .ref x2, .ref x3, .ref x4, x5, x6, x7, x8, x9, x10, x11, x12])), (x13, .inl (x14, 50, .inl x15)), (x16, .inr (1, [.ref x17, x18, .ref x19, x20])), (x21, .inr (2, [x22, x23, x24, x25, x26, .ref x27, x28, x29, x30, .int x31, x32, .int x33])), (x34, .inl (x35, 64, .inl x36)), (x37, .inl (x38, 6, .inl x39)), (x40, .inl (x41, 50, .inl x42)), (x43, .inl (x44, 50, .inl x45)), (x46, .inl (x47, 50, .inl x48))]
def qa4E (x0 x1 : Nat) (x2 : Value) (x3 : Nat) (x4 : Value) (x5 : Nat) (x6 x7 x8 x9 x10 : Value) (x11 : Nat) (x12 x13 x14 : Value) (x15 : Int32) (x16 : Value) (x17 : Int32) (x18 : Nat) (x19 : ClassId) (x20 : NI) (x21 : Nat) (x22 : ClassId) (x23 : NI) : va_W := [(x0, .inr (1, [.ref x1, x2, .ref x3, x4])), (x5, .inr (2, [x6, x7, x8, x9, x10, .ref x11, x12, x13, x14, .int x15, x16, .int x17])), (x18, .inl (x19, 64, .inl x20)), (x21, .inl (x22, 6, .inl x23))]
def qajR (x0 x1 : Nat) (x2 : Value) (x3 : Nat) (x4 : Value) (x5 : Nat) (x6 : ClassId) (x7 : NI) : va_W := [(x0, .inr (1, [.ref x1, x2, .ref x3, x4])), (x5, .inl (x6, 64, .inl x7))]
def qaXu (x0 x1 x2 x3 x4 : Nat) (x5 x6 x7 x8 x9 x10 x11 x12 : Value) (x13 : Nat) (x14 : ClassId) (x15 : NI) (x16 : Nat) (x17 x18 x19 x20 x21 : Value) (x22 : Nat) (x23 x24 x25 : Value) (x26 : Int32) (x27 : Value) (x28 : Int32) (x29 : Nat) (x30 : ClassId) (x31 : NI) (x32 : Nat) (x33 : ClassId) (x34 : NI) (x35 : Nat) (x36 : ClassId) (x37 : NI) (x38 : Nat) (x39 : ClassId) (x40 : NI) : va_W := [(x0, .inr (9, [.ref x1, .ref x2, .ref x3, .ref x4, x5, x6, x7, x8, x9, x10, x11, x12])), (x13, .inl (x14, 50, .inl x15)), (x16, .inr (2, [x17, x18, x19, x20, x21, .ref x22, x23, x24, x25, .int x26, x27, .int x28])), (x29, .inl (x30, 6, .inl x31)), (x32, .inl (x33, 50, .inl x34)), (x35, .inl (x36, 50, .inl x37)), (x38, .inl (x39, 50, .inl x40))]
def qoW (x0 x1 x2 x3 x4 : Nat) (x5 : Value) (x6 : Nat) (x7 x8 : Int32) (x9 x10 : Value) (x11 x12 : Int32) (x13 : Nat) (x14 : ClassId) (x15 : NI) (x16 x17 : Nat) (x18 : Value) (x19 x20 x21 : Nat) (x22 : ClassId) (x23 : NI) (x24 : Nat) (x25 : ClassId) (x26 : NI) (x27 : Nat) (x28 : ClassId) (x29 : NI) (x30 x31 x32 : Nat) (x33 x34 x35 : Value) (x36 : Nat) (x37 x38 x39 : Value) (x40 : Int32) (x41 : Value) (x42 : Int32) (x43 : Nat) (x44 : ClassId) (x45 : NI) (x46 : Nat) (x47 : ClassId) (x48 : NI) (x49 x50 x51 x52 x53 : Nat) (x54 : Int32) (x55 : Nat) (x56 : ClassId) (x57 : NI) (x58 : Nat) (x59 : ClassId) (x60 : NI) (x61 : Nat) (x62 : ClassId) (x63 : NI) (x64 : Nat) (x65 : ClassId) (x66 : NI) (x67 : Nat) (x68 : ClassId) (x69 : NI) (x70 : Nat) (x71 : ClassId) (x72 : NI) (x73 : Nat) (x74 : ClassId) (x75 : NI) : va_W := [(x0, .inr (9, [.ref x1, .ref x2, .ref x3, .ref x4, x5, .ref x6, .int x7, .int x8, x9, x10, .int x11, .int x12])), (x13, .inl (x14, 50, .inl x15)), (x16, .inr (1, [.ref x17, x18, .ref x19, .ref x20])), (x21, .inl (x22, 64, .inl x23)), (x24, .inl (x25, 50, .inl x26)), (x27, .inl (x28, 50, .inl x29)), (x30, .inr (2, [.ref x31, .ref x32, x33, x34, x35, .ref x36, x37, x38, x39, .int x40, x41, .int x42])), (x43, .inl (x44, 8, .inl x45)), (x46, .inl (x47, 8, .inl x48)), (x49, .inr (4, [.ref x50, .ref x51, .ref x52, .ref x53, .int x54])), (x55, .inl (x56, 8, .inl x57)), (x58, .inl (x59, 150, .inl x60)), (x61, .inl (x62, 150, .inl x63)), (x64, .inl (x65, 150, .inl x66)), (x67, .inl (x68, 50, .inl x69)), (x70, .inl (x71, 6, .inl x72)), (x73, .inl (x74, 6, .inl x75))]
def qa6r (x0 x1 x2 x3 x4 : Nat) (x5 : Value) (x6 : Nat) (x7 x8 : Int32) (x9 x10 : Value) (x11 x12 : Int32) (x13 : Nat) (x14 : ClassId) (x15 : NI) (x16 x17 : Nat) (x18 : Value) (x19 x20 x21 : Nat) (x22 : ClassId) (x23 : NI) (x24 : Nat) (x25 : ClassId) (x26 : NI) (x27 : Nat) (x28 : ClassId) (x29 : NI) (x30 x31 x32 : Nat) (x33 x34 x35 : Value) (x36 : Nat) (x37 x38 x39 : Value) (x40 : Int32) (x41 : Value) (x42 : Int32) (x43 : Nat) (x44 : ClassId) (x45 : NI) (x46 : Nat) (x47 : ClassId) (x48 : NI) (x49 x50 x51 x52 x53 : Nat) (x54 : Int32) (x55 : Nat) (x56 : ClassId) (x57 : NI) (x58 : Nat) (x59 : ClassId) (x60 : NI) (x61 : Nat) (x62 : ClassId) (x63 : NI) (x64 : Nat) (x65 : ClassId) (x66 : NI) (x67 : Nat) (x68 : ClassId) (x69 : NI) : va_W := [(x0, .inr (9, [.ref x1, .ref x2, .ref x3, .ref x4, x5, .ref x6, .int x7, .int x8, x9, x10, .int x11, .int x12])), (x13, .inl (x14, 50, .inl x15)), (x16, .inr (1, [.ref x17, x18, .ref x19, .ref x20])), (x21, .inl (x22, 64, .inl x23)), (x24, .inl (x25, 50, .inl x26)), (x27, .inl (x28, 50, .inl x29)), (x30, .inr (2, [.ref x31, .ref x32, x33, x34, x35, .ref x36, x37, x38, x39, .int x40, x41, .int x42])), (x43, .inl (x44, 8, .inl x45)), (x46, .inl (x47, 8, .inl x48)), (x49, .inr (4, [.ref x50, .ref x51, .ref x52, .ref x53, .int x54])), (x55, .inl (x56, 8, .inl x57)), (x58, .inl (x59, 150, .inl x60)), (x61, .inl (x62, 150, .inl x63)), (x64, .inl (x65, 150, .inl x66)), (x67, .inl (x68, 50, .inl x69))]
def qa9s (x0 x1 x2 x3 x4 : Nat) (x5 : Value) (x6 : Nat) (x7 x8 : Int32) (x9 x10 : Value) (x11 x12 : Int32) (x13 : Nat) (x14 : ClassId) (x15 : NI) (x16 x17 : Nat) (x18 : Value) (x19 x20 x21 x22 x23 : Nat) (x24 x25 x26 : Value) (x27 : Nat) (x28 x29 x30 : Value) (x31 : Int32) (x32 : Value) (x33 : Int32) (x34 : Nat) (x35 : ClassId) (x36 : NI) (x37 : Nat) (x38 : ClassId) (x39 : NI) (x40 : Nat) (x41 : ClassId) (x42 : NI) (x43 : Nat) (x44 : ClassId) (x45 : NI) (x46 : Nat) (x47 : ClassId) (x48 : NI) : va_W := [(x0, .inr (9, [.ref x1, .ref x2, .ref x3, .ref x4, x5, .ref x6, .int x7, .int x8, x9, x10, .int x11, .int x12])), (x13, .inl (x14, 50, .inl x15)), (x16, .inr (1, [.ref x17, x18, .ref x19, .ref x20])), (x21, .inr (2, [.ref x22, .ref x23, x24, x25, x26, .ref x27, x28, x29, x30, .int x31, x32, .int x33])), (x34, .inl (x35, 64, .inl x36)), (x37, .inl (x38, 6, .inl x39)), (x40, .inl (x41, 50, .inl x42)), (x43, .inl (x44, 50, .inl x45)), (x46, .inl (x47, 50, .inl x48))]
def qbaa (x0 x1 x2 x3 x4 : Nat) (x5 : Value) (x6 : Nat) (x7 x8 : Int32) (x9 x10 : Value) (x11 x12 : Int32) (x13 : Nat) (x14 : ClassId) (x15 : NI) (x16 : Nat) (x17 : ClassId) (x18 : NI) (x19 : Nat) (x20 : ClassId) (x21 : NI) : va_W := [(x0, .inr (9, [.ref x1, .ref x2, .ref x3, .ref x4, x5, .ref x6, .int x7, .int x8, x9, x10, .int x11, .int x12])), (x13, .inl (x14, 50, .inl x15)), (x16, .inl (x17, 6, .inl x18)), (x19, .inl (x20, 50, .inl x21))]
def qa8U (x0 x1 x2 x3 x4 : Nat) (x5 : Value) (x6 : Nat) (x7 x8 : Int32) (x9 x10 : Value) (x11 x12 : Int32) (x13 : Nat) (x14 : ClassId) (x15 : NI) (x16 : Nat) (x17 : ClassId) (x18 : NI) : va_W := [(x0, .inr (9, [.ref x1, .ref x2, .ref x3, .ref x4, x5, .ref x6, .int x7, .int x8, x9, x10, .int x11, .int x12])), (x13, .inl (x14, 6, .inl x15)), (x16, .inl (x17, 50, .inl x18))]
def qqp (x0 : Nat) (x1 x2 x3 : Value) (x4 : Nat) (x5 x6 x7 x8 x9 x10 x11 x12 x13 x14 x15 x16 x17 x18 : Value) (x19 : Int32) (x20 x21 x22 x23 x24 : Nat) (x25 : Int32) (x26 : Nat) (x27 : ClassId) (x28 : NI) (x29 : Nat) (x30 : ClassId) (x31 : NI) (x32 : Nat) (x33 : ClassId) (x34 : NI) (x35 : Nat) (x36 : ClassId) (x37 : NI) : va_W := [(x0, .inr (10, [x1, x2, x3, .ref x4, x5, x6, x7, x8, x9, x10, x11, x12, x13, x14, x15, x16, x17, x18, .int x19])), (x20, .inr (4, [.ref x21, .ref x22, .ref x23, .ref x24, .int x25])), (x26, .inl (x27, 8, .inl x28)), (x29, .inl (x30, 150, .inl x31)), (x32, .inl (x33, 150, .inl x34)), (x35, .inl (x36, 150, .inl x37))]
def quA (x0 : Nat) (x1 x2 x3 : Value) (x4 : Nat) (x5 x6 x7 x8 x9 x10 x11 x12 x13 x14 x15 x16 x17 x18 : Value) (x19 : Int32) : va_W := [(x0, .inr (10, [x1, x2, x3, .ref x4, x5, x6, x7, x8, x9, x10, x11, x12, x13, x14, x15, x16, x17, x18, .int x19]))]
def qDk (x0 x1 x2 x3 x4 : Nat) (x5 : Int32) (x6 : Nat) (x7 : ClassId) (x8 : NI) (x9 : Nat) (x10 : ClassId) (x11 : NI) (x12 : Nat) (x13 : ClassId) (x14 : NI) (x15 : Nat) (x16 : ClassId) (x17 : NI) : va_W := [(x0, .inr (4, [.ref x1, .ref x2, .ref x3, .ref x4, .int x5])), (x6, .inl (x7, 8, .inl x8)), (x9, .inl (x10, 150, .inl x11)), (x12, .inl (x13, 150, .inl x14)), (x15, .inl (x16, 150, .inl x17))]
def qaPd (x0 x1 x2 x3 x4 : Nat) (x5 : Int32) (x6 : Nat) (x7 : ClassId) (x8 : NI) : va_W := [(x0, .inr (4, [.ref x1, .ref x2, .ref x3, .ref x4, .int x5])), (x6, .inl (x7, 8, .inl x8))]
def qa8n (x0 : Nat) (x1 x2 x3 : Value) (x4 : Nat) (x5 x6 x7 x8 x9 x10 x11 x12 x13 x14 x15 x16 x17 x18 : Value) (x19 : Int32) (x20 : Nat) (x21 : ClassId) (x22 : NI) (x23 : Nat) (x24 : ClassId) (x25 : NI) (x26 : Nat) (x27 : ClassId) (x28 : NI) : va_W := [(x0, .inr (10, [x1, x2, x3, .ref x4, x5, x6, x7, x8, x9, x10, x11, x12, x13, x14, x15, x16, x17, x18, .int x19])), (x20, .inl (x21, 150, .inl x22)), (x23, .inl (x24, 150, .inl x25)), (x26, .inl (x27, 150, .inl x28))]
def qakb (x0 x1 x2 x3 x4 : Nat) (x5 : Int32) (x6 : Nat) (x7 : ClassId) (x8 : NI) (x9 : Nat) (x10 : ClassId) (x11 : NI) (x12 : Nat) (x13 : ClassId) (x14 : NI) (x15 : Nat) (x16 : ClassId) (x17 : NI) : va_W := [(x0, .inr (4, [.ref x1, .ref x2, .ref x3, .ref x4, .int x5])), (x6, .inl (x7, 150, .inl x8)), (x9, .inl (x10, 150, .inl x11)), (x12, .inl (x13, 150, .inl x14)), (x15, .inl (x16, 8, .inl x17))]
def qL4 (x0 : Nat) (x1 x2 x3 : Value) (x4 : Nat) (x5 x6 x7 x8 x9 x10 x11 x12 x13 x14 x15 x16 x17 x18 : Value) (x19 : Int32) (x20 x21 x22 x23 x24 : Nat) (x25 : Int32) (x26 : Nat) (x27 : ClassId) (x28 : NI) (x29 : Nat) (x30 : ClassId) (x31 : NI) (x32 : Nat) (x33 : ClassId) (x34 : NI) (x35 : Nat) (x36 : ClassId) (x37 : NI) (x38 : Nat) (x39 : ClassId) (x40 : Nat) (x41 : Nat → Int64) : va_W := [(x0, .inr (10, [x1, x2, x3, .ref x4, x5, x6, x7, x8, x9, x10, x11, x12, x13, x14, x15, x16, x17, x18, .int x19])), (x20, .inr (4, [.ref x21, .ref x22, .ref x23, .ref x24, .int x25])), (x26, .inl (x27, 8, .inl x28)), (x29, .inl (x30, 150, .inl x31)), (x32, .inl (x33, 150, .inl x34)), (x35, .inl (x36, 150, .inl x37)), (x38, .inl (x39, x40, .inr (.inl x41)))]
def qakM (x0 x1 : Nat) (x2 : Int32) (x3 : Nat) (x4 : ClassId) (x5 : NI) : va_W := [(x0, .inr (0, [.ref x1, .int x2])), (x3, .inl (x4, 8, .inl x5))]
def qa4f (x0 : Nat) (x1 : Int32) (x2 : Nat) (x3 : ClassId) (x4 : NI) : va_W := [(x0, .inr (0, [.null, .int x1])), (x2, .inl (x3, 8, .inl x4))]
def qaaO (x0 x1 : Nat) (x2 x3 x4 x5 x6 x7 x8 x9 x10 : Value) (x11 : Nat) (x12 x13 x14 x15 : Value) (x16 : Int32) (x17 x18 x19 : Value) (x20 : Nat) (x21 x22 x23 x24 : Value) (x25 : Int32) (x26 x27 : Value) (x28 : Nat) (x29 : Value) (x30 : Int32) : va_W := [(x0, .inr (10, [.ref x1, x2, x3, x4, x5, x6, x7, x8, x9, x10, .ref x11, x12, x13, x14, x15, .int x16, x17, x18, x19])), (x20, .inr (8, [x21, x22, x23, x24, .int x25, x26, x27])), (x28, .inr (5, [x29, .int x30]))]
def qabM (x0 x1 : Nat) (x2 x3 x4 x5 x6 x7 x8 x9 x10 x11 x12 x13 x14 x15 x16 x17 x18 x19 : Value) (x20 : Nat) (x21 x22 x23 x24 x25 x26 : Value) (x27 : Int32) : va_W := [(x0, .inr (10, [.ref x1, x2, x3, x4, x5, x6, x7, x8, x9, x10, x11, x12, x13, x14, x15, x16, x17, x18, x19])), (x20, .inr (8, [x21, x22, x23, x24, x25, x26, .int x27]))]
def qaa7 (x0 : Nat) (x1 x2 x3 x4 : Value) (x5 : Int32) (x6 x7 : Value) : va_W := [(x0, .inr (8, [x1, x2, x3, x4, .int x5, x6, x7]))]
def qrE (x0 x1 : Nat) (x2 x3 x4 : Value) (x5 : Int32) (x6 x7 : Value) (x8 : Nat) (x9 : ClassId) (x10 : NI) : va_W := [(x0, .inr (8, [.ref x1, x2, x3, x4, .int x5, x6, x7])), (x8, .inl (x9, 600, .inl x10))]
def qJU (x0 x1 : Nat) (x2 x3 x4 x5 x6 x7 x8 x9 x10 x11 x12 x13 x14 x15 x16 x17 x18 x19 : Value) (x20 x21 : Nat) (x22 x23 x24 : Value) (x25 : Int32) (x26 x27 : Value) (x28 : Nat) (x29 : ClassId) (x30 : NI) : va_W := [(x0, .inr (10, [.ref x1, x2, x3, x4, x5, x6, x7, x8, x9, x10, x11, x12, x13, x14, x15, x16, x17, x18, x19])), (x20, .inr (8, [.ref x21, x22, x23, x24, .int x25, x26, x27])), (x28, .inl (x29, 600, .inl x30))]
def qbas (x0 x1 : Nat) (x2 x3 x4 : Value) (x5 : Int32) (x6 x7 : Value) : va_W := [(x0, .inr (8, [.ref x1, x2, x3, x4, .int x5, x6, x7]))]
def qay1 (x0 x1 : Nat) (x2 x3 x4 x5 x6 x7 x8 x9 x10 x11 x12 x13 x14 x15 x16 x17 x18 x19 : Value) : va_W := [(x0, .inr (10, [.ref x1, x2, x3, x4, x5, x6, x7, x8, x9, x10, x11, x12, x13, x14, x15, x16, x17, x18, x19]))]
def qB6 (x0 x1 : Nat) (x2 : Int32) (x3 x4 : Nat) (x5 : Int32) (x6 : Nat) (x7 : ClassId) (x8 : NI) (x9 : Nat) (x10 : ClassId) (x11 : NI) : va_W := [(x0, .inr (5, [.ref x1, .int x2])), (x3, .inr (5, [.ref x4, .int x5])), (x6, .inl (x7, 1088, .inl x8)), (x9, .inl (x10, 1088, .inl x11))]
def qoI (x0 : Nat) (x1 x2 x3 x4 x5 x6 x7 x8 : Value) (x9 : Nat) (x10 : Value) (x11 x12 : Nat) (x13 x14 x15 : Value) (x16 : Int32) (x17 x18 x19 : Value) (x20 : Nat) (x21 : ClassId) (x22 : Nat → Option Nat) (x23 x24 : Nat) (x25 : Int32) (x26 x27 : Nat) (x28 : Int32) (x29 : Nat) (x30 : ClassId) (x31 : NI) (x32 : Nat) (x33 : ClassId) (x34 : NI) (x35 x36 : Nat) (x37 x38 x39 : Value) (x40 : Nat) (x41 : ClassId) (x42 : NI) (x43 x44 : Nat) (x45 : Int32) (x46 : Nat) (x47 : ClassId) (x48 : NI) (x49 x50 : Nat) (x51 : Int32) (x52 : Nat) (x53 : ClassId) (x54 : NI) : va_W := [(x0, .inr (10, [x1, x2, x3, x4, x5, x6, x7, x8, .ref x9, x10, .ref x11, .ref x12, x13, x14, x15, .int x16, x17, x18, x19])), (x20, .inl (x21, 3, .inr (.inr (.inr (.inr x22))))), (x23, .inr (5, [.ref x24, .int x25])), (x26, .inr (5, [.ref x27, .int x28])), (x29, .inl (x30, 1088, .inl x31)), (x32, .inl (x33, 1088, .inl x34)), (x35, .inr (1, [.ref x36, x37, x38, x39])), (x40, .inl (x41, 64, .inl x42)), (x43, .inr (5, [.ref x44, .int x45])), (x46, .inl (x47, 1088, .inl x48)), (x49, .inr (5, [.ref x50, .int x51])), (x52, .inl (x53, 1088, .inl x54))]
def qaYR (x0 : Nat) (x1 x2 x3 x4 x5 x6 x7 x8 : Value) (x9 : Nat) (x10 : Value) (x11 x12 : Nat) (x13 x14 x15 : Value) (x16 : Int32) (x17 x18 x19 : Value) (x20 : Nat) (x21 : ClassId) (x22 : Nat → Option Nat) (x23 x24 : Nat) (x25 : Int32) (x26 : Nat) (x27 : ClassId) (x28 : NI) (x29 x30 : Nat) (x31 : Int32) (x32 : Nat) (x33 : ClassId) (x34 : NI) (x35 x36 : Nat) (x37 : Int32) (x38 : Nat) (x39 : ClassId) (x40 : NI) : va_W := [(x0, .inr (10, [x1, x2, x3, x4, x5, x6, x7, x8, .ref x9, x10, .ref x11, .ref x12, x13, x14, x15, .int x16, x17, x18, x19])), (x20, .inl (x21, 3, .inr (.inr (.inr (.inr x22))))), (x23, .inr (5, [.ref x24, .int x25])), (x26, .inl (x27, 1088, .inl x28)), (x29, .inr (5, [.ref x30, .int x31])), (x32, .inl (x33, 1088, .inl x34)), (x35, .inr (5, [.ref x36, .int x37])), (x38, .inl (x39, 1088, .inl x40))]
def qam2 (x0 : Nat) (x1 x2 x3 x4 x5 x6 x7 x8 : Value) (x9 : Nat) (x10 : Value) (x11 x12 : Nat) (x13 x14 x15 : Value) (x16 : Int32) (x17 x18 x19 : Value) (x20 : Nat) (x21 : ClassId) (x22 : Nat → Option Nat) (x23 x24 : Nat) (x25 : Int32) (x26 x27 : Nat) (x28 : Int32) (x29 : Nat) (x30 : ClassId) (x31 : NI) (x32 : Nat) (x33 : ClassId) (x34 : NI) (x35 x36 : Nat) (x37 : Int32) (x38 : Nat) (x39 : ClassId) (x40 : NI) : va_W := [(x0, .inr (10, [x1, x2, x3, x4, x5, x6, x7, x8, .ref x9, x10, .ref x11, .ref x12, x13, x14, x15, .int x16, x17, x18, x19])), (x20, .inl (x21, 3, .inr (.inr (.inr (.inr x22))))), (x23, .inr (5, [.ref x24, .int x25])), (x26, .inr (5, [.ref x27, .int x28])), (x29, .inl (x30, 1088, .inl x31)), (x32, .inl (x33, 1088, .inl x34)), (x35, .inr (5, [.ref x36, .int x37])), (x38, .inl (x39, 1088, .inl x40))]
def qa5i (x0 : Nat) (x1 x2 x3 x4 x5 x6 x7 x8 : Value) (x9 : Nat) (x10 : Value) (x11 x12 : Nat) (x13 x14 x15 : Value) (x16 : Int32) (x17 x18 x19 : Value) (x20 : Nat) (x21 : ClassId) (x22 : Nat → Option Nat) (x23 x24 : Nat) (x25 : Int32) (x26 : Nat) (x27 : ClassId) (x28 : NI) (x29 x30 : Nat) (x31 x32 x33 : Value) (x34 : Nat) (x35 : ClassId) (x36 : NI) (x37 x38 : Nat) (x39 : Int32) (x40 : Nat) (x41 : ClassId) (x42 : NI) : va_W := [(x0, .inr (10, [x1, x2, x3, x4, x5, x6, x7, x8, .ref x9, x10, .ref x11, .ref x12, x13, x14, x15, .int x16, x17, x18, x19])), (x20, .inl (x21, 3, .inr (.inr (.inr (.inr x22))))), (x23, .inr (5, [.ref x24, .int x25])), (x26, .inl (x27, 1088, .inl x28)), (x29, .inr (1, [.ref x30, x31, x32, x33])), (x34, .inl (x35, 64, .inl x36)), (x37, .inr (5, [.ref x38, .int x39])), (x40, .inl (x41, 1088, .inl x42))]
def qaiM (x0 : Nat) (x1 x2 x3 x4 x5 x6 : Int32) : va_W := [(x0, .inr (8, [.null, .int x1, .int x2, .int x3, .int x4, .int x5, .int x6]))]
def qaBR (x0 x1 : Nat) (x2 x3 x4 x5 x6 x7 : Int32) (x8 : Nat) (x9 : ClassId) (x10 : NI) : va_W := [(x0, .inr (8, [.ref x1, .int x2, .int x3, .int x4, .int x5, .int x6, .int x7])), (x8, .inl (x9, 600, .inl x10))]
def qa8A (x0 : Nat) (x1 x2 x3 x4 x5 x6 : Int32) (x7 : Nat) (x8 : ClassId) (x9 : NI) : va_W := [(x0, .inr (8, [.null, .int x1, .int x2, .int x3, .int x4, .int x5, .int x6])), (x7, .inl (x8, 600, .inl x9))]
def qaip (x0 : Nat) (x1 x2 x3 x4 : Int32) : va_W := [(x0, .inr (2, [.null, .null, .null, .null, .null, .null, .null, .null, .int x1, .int x2, .int x3, .int x4]))]
def qaYa (x0 x1 x2 x3 x4 x5 x6 x7 x8 : Nat) (x9 x10 x11 x12 : Int32) (x13 : Nat) (x14 : ClassId) (x15 : NI) (x16 : Nat) (x17 : ClassId) (x18 : NI) (x19 : Nat) (x20 : ClassId) (x21 : NI) (x22 : Nat) (x23 : ClassId) (x24 : NI) (x25 : Nat) (x26 : ClassId) (x27 : NI) (x28 : Nat) (x29 : ClassId) (x30 : NI) (x31 : Nat) (x32 : ClassId) (x33 : NI) (x34 : Nat) (x35 : ClassId) (x36 : NI) : va_W := [(x0, .inr (2, [.ref x1, .ref x2, .ref x3, .ref x4, .ref x5, .ref x6, .ref x7, .ref x8, .int x9, .int x10, .int x11, .int x12])), (x13, .inl (x14, 8, .inl x15)), (x16, .inl (x17, 8, .inl x18)), (x19, .inl (x20, 4, .inl x21)), (x22, .inl (x23, 4, .inl x24)), (x25, .inl (x26, 6, .inl x27)), (x28, .inl (x29, 6, .inl x30)), (x31, .inl (x32, 36, .inl x33)), (x34, .inl (x35, 8, .inl x36))]
def qa4k (x0 : Nat) (x1 x2 x3 x4 : Int32) (x5 : Nat) (x6 : ClassId) (x7 : NI) : va_W := [(x0, .inr (2, [.null, .null, .null, .null, .null, .null, .null, .null, .int x1, .int x2, .int x3, .int x4])), (x5, .inl (x6, 8, .inl x7))]
def qa5t (x0 x1 : Nat) (x2 x3 x4 x5 : Int32) (x6 : Nat) (x7 : ClassId) (x8 : NI) : va_W := [(x0, .inr (2, [.ref x1, .null, .null, .null, .null, .null, .null, .null, .int x2, .int x3, .int x4, .int x5])), (x6, .inl (x7, 8, .inl x8))]
def qa8I (x0 x1 : Nat) (x2 x3 x4 x5 : Int32) (x6 : Nat) (x7 : ClassId) (x8 : NI) (x9 : Nat) (x10 : ClassId) (x11 : NI) : va_W := [(x0, .inr (2, [.ref x1, .null, .null, .null, .null, .null, .null, .null, .int x2, .int x3, .int x4, .int x5])), (x6, .inl (x7, 8, .inl x8)), (x9, .inl (x10, 8, .inl x11))]
def qa4Z (x0 x1 x2 : Nat) (x3 x4 x5 x6 : Int32) (x7 : Nat) (x8 : ClassId) (x9 : NI) (x10 : Nat) (x11 : ClassId) (x12 : NI) : va_W := [(x0, .inr (2, [.ref x1, .ref x2, .null, .null, .null, .null, .null, .null, .int x3, .int x4, .int x5, .int x6])), (x7, .inl (x8, 8, .inl x9)), (x10, .inl (x11, 8, .inl x12))]
def qa3j (x0 x1 x2 : Nat) (x3 x4 x5 x6 : Int32) (x7 : Nat) (x8 : ClassId) (x9 : NI) (x10 : Nat) (x11 : ClassId) (x12 : NI) (x13 : Nat) (x14 : ClassId) (x15 : NI) : va_W := [(x0, .inr (2, [.ref x1, .ref x2, .null, .null, .null, .null, .null, .null, .int x3, .int x4, .int x5, .int x6])), (x7, .inl (x8, 8, .inl x9)), (x10, .inl (x11, 8, .inl x12)), (x13, .inl (x14, 4, .inl x15))]
def qa8f (x0 x1 x2 x3 : Nat) (x4 x5 x6 x7 : Int32) (x8 : Nat) (x9 : ClassId) (x10 : NI) (x11 : Nat) (x12 : ClassId) (x13 : NI) (x14 : Nat) (x15 : ClassId) (x16 : NI) : va_W := [(x0, .inr (2, [.ref x1, .ref x2, .ref x3, .null, .null, .null, .null, .null, .int x4, .int x5, .int x6, .int x7])), (x8, .inl (x9, 8, .inl x10)), (x11, .inl (x12, 8, .inl x13)), (x14, .inl (x15, 4, .inl x16))]
def qa6Z (x0 x1 x2 x3 : Nat) (x4 x5 x6 x7 : Int32) (x8 : Nat) (x9 : ClassId) (x10 : NI) (x11 : Nat) (x12 : ClassId) (x13 : NI) (x14 : Nat) (x15 : ClassId) (x16 : NI) (x17 : Nat) (x18 : ClassId) (x19 : NI) : va_W := [(x0, .inr (2, [.ref x1, .ref x2, .ref x3, .null, .null, .null, .null, .null, .int x4, .int x5, .int x6, .int x7])), (x8, .inl (x9, 8, .inl x10)), (x11, .inl (x12, 8, .inl x13)), (x14, .inl (x15, 4, .inl x16)), (x17, .inl (x18, 4, .inl x19))]
def qa3S (x0 x1 x2 x3 x4 : Nat) (x5 x6 x7 x8 : Int32) (x9 : Nat) (x10 : ClassId) (x11 : NI) (x12 : Nat) (x13 : ClassId) (x14 : NI) (x15 : Nat) (x16 : ClassId) (x17 : NI) (x18 : Nat) (x19 : ClassId) (x20 : NI) : va_W := [(x0, .inr (2, [.ref x1, .ref x2, .ref x3, .ref x4, .null, .null, .null, .null, .int x5, .int x6, .int x7, .int x8])), (x9, .inl (x10, 8, .inl x11)), (x12, .inl (x13, 8, .inl x14)), (x15, .inl (x16, 4, .inl x17)), (x18, .inl (x19, 4, .inl x20))]
def qa35 (x0 x1 x2 x3 x4 : Nat) (x5 x6 x7 x8 : Int32) (x9 : Nat) (x10 : ClassId) (x11 : NI) (x12 : Nat) (x13 : ClassId) (x14 : NI) (x15 : Nat) (x16 : ClassId) (x17 : NI) (x18 : Nat) (x19 : ClassId) (x20 : NI) (x21 : Nat) (x22 : ClassId) (x23 : NI) : va_W := [(x0, .inr (2, [.ref x1, .ref x2, .ref x3, .ref x4, .null, .null, .null, .null, .int x5, .int x6, .int x7, .int x8])), (x9, .inl (x10, 8, .inl x11)), (x12, .inl (x13, 8, .inl x14)), (x15, .inl (x16, 4, .inl x17)), (x18, .inl (x19, 4, .inl x20)), (x21, .inl (x22, 6, .inl x23))]
def qa5k (x0 x1 x2 x3 x4 x5 : Nat) (x6 x7 x8 x9 : Int32) (x10 : Nat) (x11 : ClassId) (x12 : NI) (x13 : Nat) (x14 : ClassId) (x15 : NI) (x16 : Nat) (x17 : ClassId) (x18 : NI) (x19 : Nat) (x20 : ClassId) (x21 : NI) (x22 : Nat) (x23 : ClassId) (x24 : NI) : va_W := [(x0, .inr (2, [.ref x1, .ref x2, .ref x3, .ref x4, .ref x5, .null, .null, .null, .int x6, .int x7, .int x8, .int x9])), (x10, .inl (x11, 8, .inl x12)), (x13, .inl (x14, 8, .inl x15)), (x16, .inl (x17, 4, .inl x18)), (x19, .inl (x20, 4, .inl x21)), (x22, .inl (x23, 6, .inl x24))]
def qa7e (x0 x1 x2 x3 x4 x5 : Nat) (x6 x7 x8 x9 : Int32) (x10 : Nat) (x11 : ClassId) (x12 : NI) (x13 : Nat) (x14 : ClassId) (x15 : NI) (x16 : Nat) (x17 : ClassId) (x18 : NI) (x19 : Nat) (x20 : ClassId) (x21 : NI) (x22 : Nat) (x23 : ClassId) (x24 : NI) (x25 : Nat) (x26 : ClassId) (x27 : NI) : va_W := [(x0, .inr (2, [.ref x1, .ref x2, .ref x3, .ref x4, .ref x5, .null, .null, .null, .int x6, .int x7, .int x8, .int x9])), (x10, .inl (x11, 8, .inl x12)), (x13, .inl (x14, 8, .inl x15)), (x16, .inl (x17, 4, .inl x18)), (x19, .inl (x20, 4, .inl x21)), (x22, .inl (x23, 6, .inl x24)), (x25, .inl (x26, 6, .inl x27))]
def qa3F (x0 x1 x2 x3 x4 x5 x6 : Nat) (x7 x8 x9 x10 : Int32) (x11 : Nat) (x12 : ClassId) (x13 : NI) (x14 : Nat) (x15 : ClassId) (x16 : NI) (x17 : Nat) (x18 : ClassId) (x19 : NI) (x20 : Nat) (x21 : ClassId) (x22 : NI) (x23 : Nat) (x24 : ClassId) (x25 : NI) (x26 : Nat) (x27 : ClassId) (x28 : NI) : va_W := [(x0, .inr (2, [.ref x1, .ref x2, .ref x3, .ref x4, .ref x5, .ref x6, .null, .null, .int x7, .int x8, .int x9, .int x10])), (x11, .inl (x12, 8, .inl x13)), (x14, .inl (x15, 8, .inl x16)), (x17, .inl (x18, 4, .inl x19)), (x20, .inl (x21, 4, .inl x22)), (x23, .inl (x24, 6, .inl x25)), (x26, .inl (x27, 6, .inl x28))]
def qa5B (x0 x1 x2 x3 x4 x5 x6 : Nat) (x7 x8 x9 x10 : Int32) (x11 : Nat) (x12 : ClassId) (x13 : NI) (x14 : Nat) (x15 : ClassId) (x16 : NI) (x17 : Nat) (x18 : ClassId) (x19 : NI) (x20 : Nat) (x21 : ClassId) (x22 : NI) (x23 : Nat) (x24 : ClassId) (x25 : NI) (x26 : Nat) (x27 : ClassId) (x28 : NI) (x29 : Nat) (x30 : ClassId) (x31 : NI) : va_W := [(x0, .inr (2, [.ref x1, .ref x2, .ref x3, .ref x4, .ref x5, .ref x6, .null, .null, .int x7, .int x8, .int x9, .int x10])), (x11, .inl (x12, 8, .inl x13)), (x14, .inl (x15, 8, .inl x16)), (x17, .inl (x18, 4, .inl x19)), (x20, .inl (x21, 4, .inl x22)), (x23, .inl (x24, 6, .inl x25)), (x26, .inl (x27, 6, .inl x28)), (x29, .inl (x30, 36, .inl x31))]
def qa75 (x0 x1 x2 x3 x4 x5 x6 x7 : Nat) (x8 x9 x10 x11 : Int32) (x12 : Nat) (x13 : ClassId) (x14 : NI) (x15 : Nat) (x16 : ClassId) (x17 : NI) (x18 : Nat) (x19 : ClassId) (x20 : NI) (x21 : Nat) (x22 : ClassId) (x23 : NI) (x24 : Nat) (x25 : ClassId) (x26 : NI) (x27 : Nat) (x28 : ClassId) (x29 : NI) (x30 : Nat) (x31 : ClassId) (x32 : NI) : va_W := [(x0, .inr (2, [.ref x1, .ref x2, .ref x3, .ref x4, .ref x5, .ref x6, .ref x7, .null, .int x8, .int x9, .int x10, .int x11])), (x12, .inl (x13, 8, .inl x14)), (x15, .inl (x16, 8, .inl x17)), (x18, .inl (x19, 4, .inl x20)), (x21, .inl (x22, 4, .inl x23)), (x24, .inl (x25, 6, .inl x26)), (x27, .inl (x28, 6, .inl x29)), (x30, .inl (x31, 36, .inl x32))]
def qbah (x0 x1 x2 x3 x4 x5 x6 x7 : Nat) (x8 x9 x10 x11 : Int32) (x12 : Nat) (x13 : ClassId) (x14 : NI) (x15 : Nat) (x16 : ClassId) (x17 : NI) (x18 : Nat) (x19 : ClassId) (x20 : NI) (x21 : Nat) (x22 : ClassId) (x23 : NI) (x24 : Nat) (x25 : ClassId) (x26 : NI) (x27 : Nat) (x28 : ClassId) (x29 : NI) (x30 : Nat) (x31 : ClassId) (x32 : NI) (x33 : Nat) (x34 : ClassId) (x35 : NI) : va_W := [(x0, .inr (2, [.ref x1, .ref x2, .ref x3, .ref x4, .ref x5, .ref x6, .ref x7, .null, .int x8, .int x9, .int x10, .int x11])), (x12, .inl (x13, 8, .inl x14)), (x15, .inl (x16, 8, .inl x17)), (x18, .inl (x19, 4, .inl x20)), (x21, .inl (x22, 4, .inl x23)), (x24, .inl (x25, 6, .inl x26)), (x27, .inl (x28, 6, .inl x29)), (x30, .inl (x31, 36, .inl x32)), (x33, .inl (x34, 8, .inl x35))]
def qak0 (x0 : Nat) (x1 : Int32) : va_W := [(x0, .inr (4, [.null, .null, .null, .null, .int x1]))]
def qbai (x0 : Nat) (x1 : Int32) (x2 : Nat) (x3 : ClassId) (x4 : NI) : va_W := [(x0, .inr (4, [.null, .null, .null, .null, .int x1])), (x2, .inl (x3, 150, .inl x4))]
def qa9m (x0 x1 : Nat) (x2 : Int32) (x3 : Nat) (x4 : ClassId) (x5 : NI) : va_W := [(x0, .inr (4, [.ref x1, .null, .null, .null, .int x2])), (x3, .inl (x4, 150, .inl x5))]
def qa6w (x0 x1 : Nat) (x2 : Int32) (x3 : Nat) (x4 : ClassId) (x5 : NI) (x6 : Nat) (x7 : ClassId) (x8 : NI) : va_W := [(x0, .inr (4, [.ref x1, .null, .null, .null, .int x2])), (x3, .inl (x4, 150, .inl x5)), (x6, .inl (x7, 150, .inl x8))]
def qa5w (x0 x1 x2 : Nat) (x3 : Int32) (x4 : Nat) (x5 : ClassId) (x6 : NI) (x7 : Nat) (x8 : ClassId) (x9 : NI) : va_W := [(x0, .inr (4, [.ref x1, .ref x2, .null, .null, .int x3])), (x4, .inl (x5, 150, .inl x6)), (x7, .inl (x8, 150, .inl x9))]
def qa7j (x0 x1 x2 : Nat) (x3 : Int32) (x4 : Nat) (x5 : ClassId) (x6 : NI) (x7 : Nat) (x8 : ClassId) (x9 : NI) (x10 : Nat) (x11 : ClassId) (x12 : NI) : va_W := [(x0, .inr (4, [.ref x1, .ref x2, .null, .null, .int x3])), (x4, .inl (x5, 150, .inl x6)), (x7, .inl (x8, 150, .inl x9)), (x10, .inl (x11, 150, .inl x12))]
def qa3o (x0 x1 x2 x3 : Nat) (x4 : Int32) (x5 : Nat) (x6 : ClassId) (x7 : NI) (x8 : Nat) (x9 : ClassId) (x10 : NI) (x11 : Nat) (x12 : ClassId) (x13 : NI) : va_W := [(x0, .inr (4, [.ref x1, .ref x2, .ref x3, .null, .int x4])), (x5, .inl (x6, 150, .inl x7)), (x8, .inl (x9, 150, .inl x10)), (x11, .inl (x12, 150, .inl x13))]
def qa7v (x0 x1 x2 x3 : Nat) (x4 : Int32) (x5 : Nat) (x6 : ClassId) (x7 : NI) (x8 : Nat) (x9 : ClassId) (x10 : NI) (x11 : Nat) (x12 : ClassId) (x13 : NI) (x14 : Nat) (x15 : ClassId) (x16 : NI) : va_W := [(x0, .inr (4, [.ref x1, .ref x2, .ref x3, .null, .int x4])), (x5, .inl (x6, 150, .inl x7)), (x8, .inl (x9, 150, .inl x10)), (x11, .inl (x12, 150, .inl x13)), (x14, .inl (x15, 8, .inl x16))]
def qa8k (x0 x1 x2 x3 x4 : Nat) (x5 : Int32) (x6 : Nat) (x7 : ClassId) (x8 : NI) (x9 : Nat) (x10 : ClassId) (x11 : NI) : va_W := [(x0, .inr (4, [.ref x1, .ref x2, .ref x3, .ref x4, .int x5])), (x6, .inl (x7, 150, .inl x8)), (x9, .inl (x10, 150, .inl x11))]
def qamG (x0 : Nat) (x1 x2 x3 x4 x5 x6 : Int32) : va_W := [(x0, .inr (9, [.null, .null, .null, .null, .null, .null, .int x1, .int x2, .int x3, .int x4, .int x5, .int x6]))]
def qaYQ (x0 x1 x2 x3 x4 x5 x6 : Nat) (x7 x8 x9 x10 x11 x12 : Int32) (x13 : Nat) (x14 : ClassId) (x15 : NI) (x16 : Nat) (x17 : ClassId) (x18 : NI) (x19 : Nat) (x20 : ClassId) (x21 : NI) (x22 : Nat) (x23 : ClassId) (x24 : NI) (x25 : Nat) (x26 : ClassId) (x27 : NI) (x28 : Nat) (x29 : ClassId) (x30 : NI) : va_W := [(x0, .inr (9, [.ref x1, .ref x2, .ref x3, .ref x4, .ref x5, .ref x6, .int x7, .int x8, .int x9, .int x10, .int x11, .int x12])), (x13, .inl (x14, 50, .inl x15)), (x16, .inl (x17, 50, .inl x18)), (x19, .inl (x20, 50, .inl x21)), (x22, .inl (x23, 50, .inl x24)), (x25, .inl (x26, 6, .inl x27)), (x28, .inl (x29, 6, .inl x30))]
def qa7y (x0 : Nat) (x1 x2 x3 x4 x5 x6 : Int32) (x7 : Nat) (x8 : ClassId) (x9 : NI) : va_W := [(x0, .inr (9, [.null, .null, .null, .null, .null, .null, .int x1, .int x2, .int x3, .int x4, .int x5, .int x6])), (x7, .inl (x8, 50, .inl x9))]
def qa8h (x0 x1 : Nat) (x2 x3 x4 x5 x6 x7 : Int32) (x8 : Nat) (x9 : ClassId) (x10 : NI) : va_W := [(x0, .inr (9, [.ref x1, .null, .null, .null, .null, .null, .int x2, .int x3, .int x4, .int x5, .int x6, .int x7])), (x8, .inl (x9, 50, .inl x10))]
def qa6A (x0 x1 : Nat) (x2 x3 x4 x5 x6 x7 : Int32) (x8 : Nat) (x9 : ClassId) (x10 : NI) (x11 : Nat) (x12 : ClassId) (x13 : NI) : va_W := [(x0, .inr (9, [.ref x1, .null, .null, .null, .null, .null, .int x2, .int x3, .int x4, .int x5, .int x6, .int x7])), (x8, .inl (x9, 50, .inl x10)), (x11, .inl (x12, 50, .inl x13))]
def qa7p (x0 x1 x2 : Nat) (x3 x4 x5 x6 x7 x8 : Int32) (x9 : Nat) (x10 : ClassId) (x11 : NI) (x12 : Nat) (x13 : ClassId) (x14 : NI) : va_W := [(x0, .inr (9, [.ref x1, .ref x2, .null, .null, .null, .null, .int x3, .int x4, .int x5, .int x6, .int x7, .int x8])), (x9, .inl (x10, 50, .inl x11)), (x12, .inl (x13, 50, .inl x14))]
def qa5n (x0 x1 x2 : Nat) (x3 x4 x5 x6 x7 x8 : Int32) (x9 : Nat) (x10 : ClassId) (x11 : NI) (x12 : Nat) (x13 : ClassId) (x14 : NI) (x15 : Nat) (x16 : ClassId) (x17 : NI) : va_W := [(x0, .inr (9, [.ref x1, .ref x2, .null, .null, .null, .null, .int x3, .int x4, .int x5, .int x6, .int x7, .int x8])), (x9, .inl (x10, 50, .inl x11)), (x12, .inl (x13, 50, .inl x14)), (x15, .inl (x16, 50, .inl x17))]
def qa4P (x0 x1 x2 x3 : Nat) (x4 x5 x6 x7 x8 x9 : Int32) (x10 : Nat) (x11 : ClassId) (x12 : NI) (x13 : Nat) (x14 : ClassId) (x15 : NI) (x16 : Nat) (x17 : ClassId) (x18 : NI) : va_W := [(x0, .inr (9, [.ref x1, .ref x2, .ref x3, .null, .null, .null, .int x4, .int x5, .int x6, .int x7, .int x8, .int x9])), (x10, .inl (x11, 50, .inl x12)), (x13, .inl (x14, 50, .inl x15)), (x16, .inl (x17, 50, .inl x18))]
def qa5P (x0 x1 x2 x3 : Nat) (x4 x5 x6 x7 x8 x9 : Int32) (x10 : Nat) (x11 : ClassId) (x12 : NI) (x13 : Nat) (x14 : ClassId) (x15 : NI) (x16 : Nat) (x17 : ClassId) (x18 : NI) (x19 : Nat) (x20 : ClassId) (x21 : NI) : va_W := [(x0, .inr (9, [.ref x1, .ref x2, .ref x3, .null, .null, .null, .int x4, .int x5, .int x6, .int x7, .int x8, .int x9])), (x10, .inl (x11, 50, .inl x12)), (x13, .inl (x14, 50, .inl x15)), (x16, .inl (x17, 50, .inl x18)), (x19, .inl (x20, 50, .inl x21))]
def qa4b (x0 x1 x2 x3 x4 : Nat) (x5 x6 x7 x8 x9 x10 : Int32) (x11 : Nat) (x12 : ClassId) (x13 : NI) (x14 : Nat) (x15 : ClassId) (x16 : NI) (x17 : Nat) (x18 : ClassId) (x19 : NI) (x20 : Nat) (x21 : ClassId) (x22 : NI) : va_W := [(x0, .inr (9, [.ref x1, .ref x2, .ref x3, .ref x4, .null, .null, .int x5, .int x6, .int x7, .int x8, .int x9, .int x10])), (x11, .inl (x12, 50, .inl x13)), (x14, .inl (x15, 50, .inl x16)), (x17, .inl (x18, 50, .inl x19)), (x20, .inl (x21, 50, .inl x22))]
def qa2R (x0 x1 x2 x3 x4 : Nat) (x5 x6 x7 x8 x9 x10 : Int32) (x11 : Nat) (x12 : ClassId) (x13 : NI) (x14 : Nat) (x15 : ClassId) (x16 : NI) (x17 : Nat) (x18 : ClassId) (x19 : NI) (x20 : Nat) (x21 : ClassId) (x22 : NI) (x23 : Nat) (x24 : ClassId) (x25 : NI) : va_W := [(x0, .inr (9, [.ref x1, .ref x2, .ref x3, .ref x4, .null, .null, .int x5, .int x6, .int x7, .int x8, .int x9, .int x10])), (x11, .inl (x12, 50, .inl x13)), (x14, .inl (x15, 50, .inl x16)), (x17, .inl (x18, 50, .inl x19)), (x20, .inl (x21, 50, .inl x22)), (x23, .inl (x24, 6, .inl x25))]
def qa7G (x0 x1 x2 x3 x4 x5 : Nat) (x6 x7 x8 x9 x10 x11 : Int32) (x12 : Nat) (x13 : ClassId) (x14 : NI) (x15 : Nat) (x16 : ClassId) (x17 : NI) (x18 : Nat) (x19 : ClassId) (x20 : NI) (x21 : Nat) (x22 : ClassId) (x23 : NI) (x24 : Nat) (x25 : ClassId) (x26 : NI) : va_W := [(x0, .inr (9, [.ref x1, .ref x2, .ref x3, .ref x4, .ref x5, .null, .int x6, .int x7, .int x8, .int x9, .int x10, .int x11])), (x12, .inl (x13, 50, .inl x14)), (x15, .inl (x16, 50, .inl x17)), (x18, .inl (x19, 50, .inl x20)), (x21, .inl (x22, 50, .inl x23)), (x24, .inl (x25, 6, .inl x26))]
def qa9x (x0 x1 x2 x3 x4 x5 : Nat) (x6 x7 x8 x9 x10 x11 : Int32) (x12 : Nat) (x13 : ClassId) (x14 : NI) (x15 : Nat) (x16 : ClassId) (x17 : NI) (x18 : Nat) (x19 : ClassId) (x20 : NI) (x21 : Nat) (x22 : ClassId) (x23 : NI) (x24 : Nat) (x25 : ClassId) (x26 : NI) (x27 : Nat) (x28 : ClassId) (x29 : NI) : va_W := [(x0, .inr (9, [.ref x1, .ref x2, .ref x3, .ref x4, .ref x5, .null, .int x6, .int x7, .int x8, .int x9, .int x10, .int x11])), (x12, .inl (x13, 50, .inl x14)), (x15, .inl (x16, 50, .inl x17)), (x18, .inl (x19, 50, .inl x20)), (x21, .inl (x22, 50, .inl x23)), (x24, .inl (x25, 6, .inl x26)), (x27, .inl (x28, 6, .inl x29))]
def qalX (x0 x1 : Nat) (x2 x3 x4 x5 : Value) (x6 x7 x8 : Nat) (x9 x10 : Value) (x11 : Int32) (x12 x13 : Value) (x14 : Nat) (x15 : ClassId) (x16 : NI) (x17 : Nat) (x18 : ClassId) (x19 : NI) (x20 : Nat) (x21 : ClassId) (x22 : NI) : va_W := [(x0, .inr (1, [.null, .null, .null, .null])), (x1, .inr (2, [x2, x3, x4, x5, .ref x6, .ref x7, .ref x8, x9, x10, .int x11, x12, x13])), (x14, .inl (x15, 36, .inl x16)), (x17, .inl (x18, 6, .inl x19)), (x20, .inl (x21, 6, .inl x22))]
def qa9j (x0 x1 x2 x3 x4 x5 : Nat) (x6 x7 x8 x9 : Value) (x10 x11 x12 : Nat) (x13 x14 : Value) (x15 : Int32) (x16 x17 : Value) (x18 : Nat) (x19 : ClassId) (x20 : NI) (x21 : Nat) (x22 : ClassId) (x23 : NI) (x24 : Nat) (x25 : ClassId) (x26 : NI) (x27 : Nat) (x28 : ClassId) (x29 : NI) (x30 : Nat) (x31 : ClassId) (x32 : NI) : va_W := [(x0, .inr (1, [.ref x1, .ref x2, .ref x3, .ref x4])), (x5, .inr (2, [x6, x7, x8, x9, .ref x10, .ref x11, .ref x12, x13, x14, .int x15, x16, x17])), (x18, .inl (x19, 36, .inl x20)), (x21, .inl (x22, 6, .inl x23)), (x24, .inl (x25, 6, .inl x26)), (x27, .inl (x28, 64, .inl x29)), (x30, .inl (x31, 6, .inl x32))]
def qa66 (x0 x1 : Nat) (x2 x3 x4 x5 : Value) (x6 x7 x8 : Nat) (x9 x10 : Value) (x11 : Int32) (x12 x13 : Value) (x14 : Nat) (x15 : ClassId) (x16 : NI) (x17 : Nat) (x18 : ClassId) (x19 : NI) (x20 : Nat) (x21 : ClassId) (x22 : NI) (x23 : Nat) (x24 : ClassId) (x25 : NI) : va_W := [(x0, .inr (1, [.null, .null, .null, .null])), (x1, .inr (2, [x2, x3, x4, x5, .ref x6, .ref x7, .ref x8, x9, x10, .int x11, x12, x13])), (x14, .inl (x15, 36, .inl x16)), (x17, .inl (x18, 6, .inl x19)), (x20, .inl (x21, 6, .inl x22)), (x23, .inl (x24, 64, .inl x25))]
def qa2X (x0 x1 x2 : Nat) (x3 x4 x5 x6 : Value) (x7 x8 x9 : Nat) (x10 x11 : Value) (x12 : Int32) (x13 x14 : Value) (x15 : Nat) (x16 : ClassId) (x17 : NI) (x18 : Nat) (x19 : ClassId) (x20 : NI) (x21 : Nat) (x22 : ClassId) (x23 : NI) (x24 : Nat) (x25 : ClassId) (x26 : NI) : va_W := [(x0, .inr (1, [.ref x1, .null, .null, .null])), (x2, .inr (2, [x3, x4, x5, x6, .ref x7, .ref x8, .ref x9, x10, x11, .int x12, x13, x14])), (x15, .inl (x16, 36, .inl x17)), (x18, .inl (x19, 6, .inl x20)), (x21, .inl (x22, 6, .inl x23)), (x24, .inl (x25, 64, .inl x26))]
def qbad (x0 x1 x2 : Nat) (x3 x4 x5 x6 : Value) (x7 x8 x9 : Nat) (x10 x11 : Value) (x12 : Int32) (x13 x14 : Value) (x15 : Nat) (x16 : ClassId) (x17 : NI) (x18 : Nat) (x19 : ClassId) (x20 : NI) (x21 : Nat) (x22 : ClassId) (x23 : NI) (x24 : Nat) (x25 : ClassId) (x26 : NI) (x27 : Nat) (x28 : ClassId) (x29 : NI) : va_W := [(x0, .inr (1, [.ref x1, .null, .null, .null])), (x2, .inr (2, [x3, x4, x5, x6, .ref x7, .ref x8, .ref x9, x10, x11, .int x12, x13, x14])), (x15, .inl (x16, 36, .inl x17)), (x18, .inl (x19, 6, .inl x20)), (x21, .inl (x22, 6, .inl x23)), (x24, .inl (x25, 64, .inl x26)), (x27, .inl (x28, 6, .inl x29))]
def qa0O (x0 x1 x2 x3 : Nat) (x4 x5 x6 x7 : Value) (x8 x9 x10 : Nat) (x11 x12 : Value) (x13 : Int32) (x14 x15 : Value) (x16 : Nat) (x17 : ClassId) (x18 : NI) (x19 : Nat) (x20 : ClassId) (x21 : NI) (x22 : Nat) (x23 : ClassId) (x24 : NI) (x25 : Nat) (x26 : ClassId) (x27 : NI) (x28 : Nat) (x29 : ClassId) (x30 : NI) : va_W := [(x0, .inr (1, [.ref x1, .ref x2, .null, .null])), (x3, .inr (2, [x4, x5, x6, x7, .ref x8, .ref x9, .ref x10, x11, x12, .int x13, x14, x15])), (x16, .inl (x17, 36, .inl x18)), (x19, .inl (x20, 6, .inl x21)), (x22, .inl (x23, 6, .inl x24)), (x25, .inl (x26, 64, .inl x27)), (x28, .inl (x29, 6, .inl x30))]
def qbbt (x0 x1 x2 x3 : Nat) (x4 : ClassId) (x5 : NI) (x6 : Nat) (x7 x8 x9 x10 : Value) (x11 x12 x13 : Nat) (x14 x15 : Value) (x16 : Int32) (x17 x18 : Value) (x19 : Nat) (x20 : ClassId) (x21 : NI) (x22 : Nat) (x23 : ClassId) (x24 : NI) (x25 : Nat) (x26 : ClassId) (x27 : NI) : va_W := [(x0, .inr (1, [.ref x1, .ref x2, .null, .null])), (x3, .inl (x4, 64, .inl x5)), (x6, .inr (2, [x7, x8, x9, x10, .ref x11, .ref x12, .ref x13, x14, x15, .int x16, x17, x18])), (x19, .inl (x20, 36, .inl x21)), (x22, .inl (x23, 6, .inl x24)), (x25, .inl (x26, 6, .inl x27))]
theorem qVr : ∀ w ∈ u_ws RX2 TX2 12, w ∈ wsX2_seenFrom := uiM qC3 qLg (by decide +kernel)
theorem qacC : (.fieldLink RX2 33 "MarchHares$Down" "near" "[I" : Cond) ∈ wsX2_seenFrom := qC3 195 (by decide +kernel)
theorem qahS : (.fieldLink RX2 36 "MarchHares$Down" "forms" "I" : Cond) ∈ wsX2_seenFrom := qC3 720 (by decide +kernel)
theorem q0m : (.initialized RX10 : Cond) ∈ wsX2_seenFrom := qC3 2 (by decide +kernel)
theorem qRv : (.static yX10_holds : Cond) ∈ wsX2_seenFrom := qC3 2052 (by decide +kernel)
set_option maxHeartbeats 4000000 in
set_option maxRecDepth 100000 in
theorem qVe {p : Program} {l : Launch} {e : Env} {s : State} {m : MethodId} {args : Array Value} {below : List Frame} {meth : Method} {c : Code} {A : Nat → Prop} (dC : Nat → ClassId) (dI : Nat → Nat → Nat) (cyB cyI cyJ cyP : ClassId) (a0 jmE : Nat) (jmz jmA jlc jld jkJ jiT jj1 ja4 jaP jkk : Value) (jaN : Int32) (jmJ : NI) (Q : Int32 → Prop) (K4 : Int32 → Int32 → Int32 → Prop) (hK4 : ∀ (H : Heap) (locs : List Loc) (ls : Array Slot) (l1 l2 l3 : Int32), va_P (dC, dI) vwCl (qJc a0 jmz jmA jlc jld jkJ jiT jj1 jmE jaN ja4 jaP jkk jmE cyI jmJ) H → va_D A (qJc a0 jmz jmA jlc jld jkJ jiT jj1 jmE jaN ja4 jaP jkk jmE cyI jmJ) → va_S A s.heap H locs → lv_has ls 4 [(0, .ref a0), (1, .int l1), (2, .int l2), (3, .int l3)] → K4 l1 l2 l3 → W p l e (headSpec wsX2_seenFrom ({ frames := 1, cells := 0, slots := 0, locals := 21 })).room s m args below meth c H locs 0 0 (MQ below (va_Qi (fun (r : Int32) (_ : Unit) => Q r ) (cB (dC, dI) (kT cyB cyI cyJ cyP) A (fun u : Unit => ((qJc a0 jmz jmA jlc jld jkJ jiT jj1 jmE jaN ja4 jaP jkk jmE cyI jmJ) : va_W))) A) args s 0 0 A) (F0 m 4 ls [])) (C0 : cfx p s m args meth c cX2_seenFrom (some .int) wsX2_seenFrom RX2 4 A (dC, dI) (kT cyB cyI cyJ cyP)) : ∀ (H : Heap) (locs : List Loc) (ls : Array Slot) (l1 l2 l3 : Int32), va_P (dC, dI) vwCl (qJc a0 jmz jmA jlc jld jkJ jiT jj1 jmE jaN ja4 jaP jkk jmE cyI jmJ) H → va_D A (qJc a0 jmz jmA jlc jld jkJ jiT jj1 jmE jaN ja4 jaP jkk jmE cyI jmJ) → va_S A s.heap H locs → lv_has ls 4 [(0, .ref a0), (1, .int l1), (2, .int l2), (3, .int l3)] → qJQ jaN jmJ Q K4 l1 l2 l3 → W p l e (headSpec wsX2_seenFrom ({ frames := 1, cells := 0, slots := 0, locals := 21 })).room s m args below meth c H locs 0 0 (MQ below (va_Qi (fun (r : Int32) (_ : Unit) => Q r ) (cB (dC, dI) (kT cyB cyI cyJ cyP) A (fun u : Unit => ((qJc a0 jmz jmA jlc jld jkJ jiT jj1 jmE jaN ja4 jaP jkk jmE cyI jmJ) : va_W))) A) args s 0 0 A) (F0 m 29 ls []) := by
  obtain ⟨hx, hb, hr, hts, hown, hlocks, hml, hA, hK, hNw⟩ := id C0
  intro H locs ls l1 l2 l3 hP hD hS hl hw
  obtain ⟨x6, ex6⟩ : ∃ y : Int32, y = l3 + 1 := ⟨_, rfl⟩
  have hw := hw x6 ex6
  refine lv_iinc (v := x6) (lv' := [(3, .int x6), (0, .ref a0), (1, .int l1), (2, .int l2)]) hx hb (qaa qs7 3 rfl) hl (k := 3) rfl (by rw [ex6]; rfl) (by decide) rfl (fun ls hl => ?_)
  refine lv_goto (tgt := 4) hx hb (qaa qs7 4 rfl) (by decide) ?_
  exact hK4 _ _ _ l1 l2 x6 hP hD hS (lv_sub hl [1, 2, 3, 0] rfl) hw
set_option maxHeartbeats 4000000 in
set_option maxRecDepth 100000 in
theorem qapN {p : Program} {l : Launch} {e : Env} {s : State} {m : MethodId} {args : Array Value} {below : List Frame} {meth : Method} {c : Code} {A : Nat → Prop} (dC : Nat → ClassId) (dI : Nat → Nat → Nat) (cyB cyI cyJ cyP : ClassId) (a0 jmE : Nat) (jmz jmA jlc jld jkJ jiT jj1 ja4 jaP jkk : Value) (jaN : Int32) (jmJ : NI) (Q : Int32 → Prop) (C0 : cfx p s m args meth c cX2_seenFrom (some .int) wsX2_seenFrom RX2 4 A (dC, dI) (kT cyB cyI cyJ cyP)) : ∀ (n : Nat) (H : Heap) (locs : List Loc) (ls : Array Slot) (l1 l2 l3 : Int32), va_P (dC, dI) vwCl (qJc a0 jmz jmA jlc jld jkJ jiT jj1 jmE jaN ja4 jaP jkk jmE cyI jmJ) H → va_D A (qJc a0 jmz jmA jlc jld jkJ jiT jj1 jmE jaN ja4 jaP jkk jmE cyI jmJ) → va_S A s.heap H locs → lv_has ls 4 [(0, .ref a0), (1, .int l1), (2, .int l2), (3, .int l3)] → qsu jaN jmJ Q n l1 l2 l3 → W p l e (headSpec wsX2_seenFrom ({ frames := 1, cells := 0, slots := 0, locals := 21 })).room s m args below meth c H locs 0 0 (MQ below (va_Qi (fun (r : Int32) (_ : Unit) => Q r ) (cB (dC, dI) (kT cyB cyI cyJ cyP) A (fun u : Unit => ((qJc a0 jmz jmA jlc jld jkJ jiT jj1 jmE jaN ja4 jaP jkk jmE cyI jmJ) : va_W))) A) args s 0 0 A) (F0 m 4 ls []) := by
  obtain ⟨hx, hb, hr, hts, hown, hlocks, hml, hA, hK, hNw⟩ := id C0
  intro n
  induction n with
  | zero => intro H locs ls l1 l2 l3 hP hD hS hl hw; exact False.elim hw
  | succ n ih =>
    intro H locs ls l1 l2 l3 hP hD hS hl hw
    refine lv_iload_n hx hb (qaa qfk 4 rfl) rfl (lv_at hl 3 rfl) ?_
    refine lv_aload_n hx hb (qaa qfk 5 rfl) rfl (lv_at hl 0 rfl) ?_
    refine va_get (D := (dC, dI)) (ci := 2) (v := .int jaN) (C := RX2) (T := TX2) (N := 12) hx hb hts qVr hown hK hP 0 rfl rfl 8 (by decide) (hts _ qahS) (fun _ h9 => h9) rfl (qaa qfk 6 rfl) ?_
    refine lv_icmp_ge (tgt := 35) hx hb (qaa qfk 7 rfl) (by decide) (fun c1 => ?_) (fun c1 => ?_)
    · have hw := hw.1 c1
      refine lv_iload_n hx hb (qaa qs7 5 rfl) rfl (lv_at hl 2 rfl) ?_
      exact ((W.iret (v := l2) hx hb hr (fun t ht hW => ⟨⟨l2, (), rfl, hw, by rw [ht]; exact hP, va_K.moved hW.alike hK, hD⟩, hS.F ht⟩) hS.2.2 (qaa qs7 6 rfl)))
    · have hw := hw.2 c1
      refine lv_iload_n hx hb (qaa qfk 8 rfl) rfl (lv_at hl 1 rfl) ?_
      refine lv_iload_n hx hb (qaa qfk 9 rfl) rfl (lv_at hl 3 rfl) ?_
      obtain ⟨hCc, hPc, hDc, hFc⟩ := qac (ws' := []) hP hD hS hA [] (by decide +kernel) rfl
      refine va_calli (va_runSN (As := [.int l1, .int l3]) (rest := []) ⟨hx, hb, hml, hown, hts⟩ (qnt l dC dI cyB cyI cyJ cyP H.size l1 l3 hw) ⟨(va_cnB 2 hts gX2_seenFrom_X10_holds_n114 rfl rfl rfl (qbaM hNw) (hts _ q0m) (by decide +kernel) ⟨nbq rfl, nbq rfl⟩), (hts _ qRv), trivial⟩ ⟨qab, qae hPc hK hDc hNw⟩ rfl rfl hl.1 rfl (lv_room (nbq rfl)) (qaa qfk 10 rfl) ⟨nbq rfl, nbq rfl⟩) hS (fun q _ h => hFc q h) hFc (fun r2 u t H1 locs ht hvm hw hB hz1 hk1 hS => ?_)
      obtain ⟨hP1, hK1, hD1⟩ := hB
      rw [ht] at hP1
      obtain ⟨hP, hD⟩ := qah (wr := (qJc a0 jmz jmA jlc jld jkJ jiT jj1 jmE jaN ja4 jaP jkk jmE cyI jmJ)) (w1 := []) (wn := (qJc a0 jmz jmA jlc jld jkJ jiT jj1 jmE jaN ja4 jaP jkk jmE cyI jmJ)) hP hD [] [0, 1] hCc rfl (by decide +kernel) (by decide +kernel) rfl hk1 hFc hP1 hD1
      generalize H1 = H at hP hS ⊢
      refine lv_if_eq (tgt := 29) hx hb (qaa qfk 11 rfl) (by decide) (fun c3 => ?_) (fun c3 => ?_)
      · have hw := hw.1 c3
        exact qVe dC dI cyB cyI cyJ cyP a0 jmE jmz jmA jlc jld jkJ jiT jj1 ja4 jaP jkk jaN jmJ Q (qsu jaN jmJ Q n) ih C0 _ _ _ l1 l2 l3 hP hD hS (lv_sub hl [0, 1, 2, 3] rfl) hw
      · have hw := hw.2 c3
        refine lv_iload_n hx hb (qaa qfk 12 rfl) rfl (lv_at hl 2 rfl) ?_
        refine lv_aload_n hx hb (qaa qfk 13 rfl) rfl (lv_at hl 0 rfl) ?_
        refine va_get (D := (dC, dI)) (ci := 2) (v := .ref jmE) (C := RX2) (T := TX2) (N := 12) hx hb hts qVr hown hK hP 0 rfl rfl 7 (by decide) (hts _ qacC) (fun _ h9 => h9) rfl (qaa qfk 14 rfl) ?_
        refine lv_iload_n hx hb (qaa qfk 15 rfl) rfl (lv_at hl 3 rfl) ?_
        obtain ⟨hi9, hw⟩ := hw
        refine va_iald hx hb hK hP 1 1 rfl rfl hi9 (qaa qs7 0 rfl) ?_
        refine lv_topi (fun x4 ex4 => ?_)
        have hw := hw x4 ex4
        refine lv_ior hx hb (qaa qs7 1 rfl) ?_
        refine lv_topi (fun x5 ex5 => ?_)
        have hw := hw x5 ex5
        refine lv_istore_n (lv' := [(2, .int x5), (0, .ref a0), (1, .int l1), (3, .int l3)]) hx hb (qaa qs7 2 rfl) rfl hl (by decide) rfl (fun ls hl => ?_)
        exact qVe dC dI cyB cyI cyJ cyP a0 jmE jmz jmA jlc jld jkJ jiT jj1 ja4 jaP jkk jaN jmJ Q (qsu jaN jmJ Q n) ih C0 _ _ _ l1 x5 l3 hP hD hS (lv_sub hl [1, 2, 0, 3] rfl) hw
set_option maxHeartbeats 4000000 in
set_option maxRecDepth 100000 in
theorem qaH6 (l : Launch) (dC : Nat → ClassId) (dI : Nat → Nat → Nat) (cyB cyI cyJ cyP : ClassId) (a0 jmE sz : Nat) (jmz jmA jlc jld jkJ jiT jj1 ja4 jaP jkk : Value) (jaN : Int32) (jmJ : NI) (p1 : Int32) {Q : Int32 → Prop} (hw : qUF jaN jmJ p1 Q) : Met l yX2_seenFrom wsX2_seenFrom ({ frames := 1, cells := 0, slots := 0, locals := 21 }) (va_Pc [.ref a0, .int p1] (cPc (dC, dI) (kT cyB cyI cyJ cyP) (qJc a0 jmz jmA jlc jld jkJ jiT jj1 jmE jaN ja4 jaP jkk jmE cyI jmJ) sz)) (va_Qi (fun (r : Int32) (_ : Unit) => Q r ) (cB (dC, dI) (kT cyB cyI cyJ cyP) (va_A (qJc a0 jmz jmA jlc jld jkJ jiT jj1 jmE jaN ja4 jaP jkk jmE cyI jmJ) sz) (fun u : Unit => ((qJc a0 jmz jmA jlc jld jkJ jiT jj1 jmE jaN ja4 jaP jkk jmE cyI jmJ) : va_W))) (va_A (qJc a0 jmz jmA jlc jld jkJ jiT jj1 jmE jaN ja4 jaP jkk jmE cyI jmJ) sz)) 0 0 (va_A (qJc a0 jmz jmA jlc jld jkJ jiT jj1 jmE jaN ja4 jaP jkk jmE cyI jmJ) sz) := by
  refine Met.ofW (cc := cX2_seenFrom) (maxL := 4) (ret := (some .int)) (by decide) rfl ?_
  intro p e s m args below meth c s₁ B hml hv
  obtain ⟨rfl, hsz, hP, hK, hD0, hNw⟩ := hv
  have hx := B.exec
  have hb := B.bytes
  have hr := B.returns
  have hts := atoms_spec (ws := wsX2_seenFrom) B.pre
  have hown : s.vm.findClass RX2 = some m.cls := findClass_of_methodNamed B.named
  have hlocks := B.notSynchronized
  subst hsz
  have hD := hD0.self (sz := s.heap.size)
  generalize hAe : va_A (qJc a0 jmz jmA jlc jld jkJ jiT jj1 jmE jaN ja4 jaP jkk jmE cyI jmJ) s.heap.size = A at hD ⊢
  have hA : ∀ q : Nat, s.heap.size ≤ q → A q := fun q h => by rw [← hAe]; exact Or.inr h
  have hS : va_S A s.heap s.heap [] := va_S.rf
  have hP : va_P (dC, dI) vwCl (qJc a0 jmz jmA jlc jld jkJ jiT jj1 jmE jaN ja4 jaP jkk jmE cyI jmJ) s.heap := hP
  have hl := lv_entry ([.ref a0, .int p1]) (n := 4) (nbq rfl)
  rw [lg_entry_eq]
  generalize (lg_sl ([.ref a0, .int p1]) ++ List.replicate (4 - (lg_sl ([.ref a0, .int p1])).length) Slot.unset).toArray = ls at hl ⊢
  have hl : lv_has ls 4 [(0, .ref a0), (1, .int p1)] := hl
  have C0 : cfx p s m _ meth c cX2_seenFrom (some .int) wsX2_seenFrom RX2 4 A (dC, dI) (kT cyB cyI cyJ cyP) := ⟨hx, hb, hr, hts, hown, hlocks, hml, hA, hK, hNw⟩
  clear hAe
  obtain ⟨H, hH⟩ : ∃ H, H = s.heap := ⟨_, rfl⟩
  rw [← hH] at hP ⊢
  have hS : va_S A s.heap H [] := by rw [hH]; exact va_S.rf
  have hS := hS
  refine lv_iconst (v := 0) hx hb (qaa qfk 0 rfl) (by decide) ?_
  refine lv_istore_n (lv' := [(2, .int 0), (0, .ref a0), (1, .int p1)]) hx hb (qaa qfk 1 rfl) rfl hl (by decide) rfl (fun ls hl => ?_)
  refine lv_iconst (v := 0) hx hb (qaa qfk 2 rfl) (by decide) ?_
  refine lv_istore_n (lv' := [(3, .int 0), (2, .int 0), (0, .ref a0), (1, .int p1)]) hx hb (qaa qfk 3 rfl) rfl hl (by decide) rfl (fun ls hl => ?_)
  obtain ⟨n9, hw⟩ := hw
  exact qapN dC dI cyB cyI cyJ cyP a0 jmE jmz jmA jlc jld jkJ jiT jj1 ja4 jaP jkk jaN jmJ Q C0 n9 _ _ _ p1 0 0 hP hD hS (lv_sub hl [2, 3, 1, 0] rfl) hw
theorem qJ7 : ∀ w ∈ u_ws RX2 TX2 12, w ∈ wsX2_watchers := uiM qu5 qLg (by decide +kernel)
theorem qadm : (.fieldLink RX2 33 "MarchHares$Down" "near" "[I" : Cond) ∈ wsX2_watchers := qu5 195 (by decide +kernel)
theorem qSo : (.fieldLink RX2 36 "MarchHares$Down" "forms" "I" : Cond) ∈ wsX2_watchers := qu5 720 (by decide +kernel)
set_option maxHeartbeats 4000000 in
set_option maxRecDepth 100000 in
theorem qJu {p : Program} {l : Launch} {e : Env} {s : State} {m : MethodId} {args : Array Value} {below : List Frame} {meth : Method} {c : Code} {A : Nat → Prop} (dC : Nat → ClassId) (dI : Nat → Nat → Nat) (cyB cyI cyJ cyP : ClassId) (a0 jmE jha jhi : Nat) (jlc jld jkJ jiT jj1 ja4 jaP jkk : Value) (jaN : Int32) (jiR jiP : NI) (Q : Int32 → NI → Prop) (K42 : NI → Int32 → Int32 → Int32 → Prop) (hK42 : ∀ (H : Heap) (locs : List Loc) (ls : Array Slot) (jmJ : NI) (l2 l3 l4 : Int32), va_P (dC, dI) vwCl (qvN a0 jha jhi jlc jld jkJ jiT jj1 jmE jaN ja4 jaP jkk jha cyI jiR jhi cyI jiP jmE cyI jmJ) H → va_D A (qvN a0 jha jhi jlc jld jkJ jiT jj1 jmE jaN ja4 jaP jkk jha cyI jiR jhi cyI jiP jmE cyI jmJ) → va_S A s.heap H locs → lv_has ls 5 [(0, .ref a0), (2, .int l2), (3, .int l3), (4, .int l4)] → K42 jmJ l2 l3 l4 → W p l e (headSpec wsX2_watchers ({ frames := 3, cells := 0, slots := 0, locals := 78 })).room s m args below meth c H locs 0 0 (MQ below (va_Qi (fun (r : Int32) (u : NI) => Q r u) (cB (dC, dI) (kT cyB cyI cyJ cyP) A (fun u : NI => ((qvN a0 jha jhi jlc jld jkJ jiT jj1 jmE jaN ja4 jaP jkk jha cyI jiR jhi cyI jiP jmE cyI u) : va_W))) A) args s 0 0 A) (F0 m 42 ls [])) (C0 : cfx p s m args meth c cX2_watchers (some .int) wsX2_watchers RX2 5 A (dC, dI) (kT cyB cyI cyJ cyP)) : ∀ (H : Heap) (locs : List Loc) (ls : Array Slot) (jmJ : NI) (l2 l3 l4 : Int32), va_P (dC, dI) vwCl (qvN a0 jha jhi jlc jld jkJ jiT jj1 jmE jaN ja4 jaP jkk jha cyI jiR jhi cyI jiP jmE cyI jmJ) H → va_D A (qvN a0 jha jhi jlc jld jkJ jiT jj1 jmE jaN ja4 jaP jkk jha cyI jiR jhi cyI jiP jmE cyI jmJ) → va_S A s.heap H locs → lv_has ls 5 [(0, .ref a0), (2, .int l2), (3, .int l3), (4, .int l4)] → qC2 jaN jiR jiP Q K42 jmJ l2 l3 l4 → W p l e (headSpec wsX2_watchers ({ frames := 3, cells := 0, slots := 0, locals := 78 })).room s m args below meth c H locs 0 0 (MQ below (va_Qi (fun (r : Int32) (u : NI) => Q r u) (cB (dC, dI) (kT cyB cyI cyJ cyP) A (fun u : NI => ((qvN a0 jha jhi jlc jld jkJ jiT jj1 jmE jaN ja4 jaP jkk jha cyI jiR jhi cyI jiP jmE cyI u) : va_W))) A) args s 0 0 A) (F0 m 73 ls []) := by
  obtain ⟨hx, hb, hr, hts, hown, hlocks, hml, hA, hK, hNw⟩ := id C0
  intro H locs ls jmJ l2 l3 l4 hP hD hS hl hw
  obtain ⟨x12, ex12⟩ : ∃ y : Int32, y = l4 + 1 := ⟨_, rfl⟩
  have hw := hw x12 ex12
  refine lv_iinc (v := x12) (lv' := [(4, .int x12), (0, .ref a0), (2, .int l2), (3, .int l3)]) hx hb (qaa qgl 10 rfl) hl (k := 3) rfl (by rw [ex12]; rfl) (by decide) rfl (fun ls hl => ?_)
  refine lv_goto (tgt := 42) hx hb (qaa qgl 11 rfl) (by decide) ?_
  exact hK42 _ _ _ jmJ l2 l3 x12 hP hD hS (lv_sub hl [1, 2, 3, 0] rfl) hw
set_option maxHeartbeats 4000000 in
set_option maxRecDepth 100000 in
theorem qalW {p : Program} {l : Launch} {e : Env} {s : State} {m : MethodId} {args : Array Value} {below : List Frame} {meth : Method} {c : Code} {A : Nat → Prop} (dC : Nat → ClassId) (dI : Nat → Nat → Nat) (cyB cyI cyJ cyP : ClassId) (a0 jmE jha jhi : Nat) (jlc jld jkJ jiT jj1 ja4 jaP jkk : Value) (jaN : Int32) (jiR jiP : NI) (Q : Int32 → NI → Prop) (C0 : cfx p s m args meth c cX2_watchers (some .int) wsX2_watchers RX2 5 A (dC, dI) (kT cyB cyI cyJ cyP)) : ∀ (n : Nat) (H : Heap) (locs : List Loc) (ls : Array Slot) (jmJ : NI) (l2 l3 l4 : Int32), va_P (dC, dI) vwCl (qvN a0 jha jhi jlc jld jkJ jiT jj1 jmE jaN ja4 jaP jkk jha cyI jiR jhi cyI jiP jmE cyI jmJ) H → va_D A (qvN a0 jha jhi jlc jld jkJ jiT jj1 jmE jaN ja4 jaP jkk jha cyI jiR jhi cyI jiP jmE cyI jmJ) → va_S A s.heap H locs → lv_has ls 5 [(0, .ref a0), (2, .int l2), (3, .int l3), (4, .int l4)] → qpC jaN jiR jiP Q n jmJ l2 l3 l4 → W p l e (headSpec wsX2_watchers ({ frames := 3, cells := 0, slots := 0, locals := 78 })).room s m args below meth c H locs 0 0 (MQ below (va_Qi (fun (r : Int32) (u : NI) => Q r u) (cB (dC, dI) (kT cyB cyI cyJ cyP) A (fun u : NI => ((qvN a0 jha jhi jlc jld jkJ jiT jj1 jmE jaN ja4 jaP jkk jha cyI jiR jhi cyI jiP jmE cyI u) : va_W))) A) args s 0 0 A) (F0 m 42 ls []) := by
  obtain ⟨hx, hb, hr, hts, hown, hlocks, hml, hA, hK, hNw⟩ := id C0
  intro n
  induction n with
  | zero => intro H locs ls jmJ l2 l3 l4 hP hD hS hl hw; exact False.elim hw
  | succ n ih =>
    intro H locs ls jmJ l2 l3 l4 hP hD hS hl hw
    refine lv_iload hx hb (qaa qdS 11 rfl) (lv_at hl 3 rfl) ?_
    refine lv_iload_n hx hb (qaa qdS 12 rfl) rfl (lv_at hl 1 rfl) ?_
    refine lv_icmp_ge (tgt := 79) hx hb (qaa qdS 13 rfl) (by decide) (fun c6 => ?_) (fun c6 => ?_)
    · have hw := hw.1 c6
      refine lv_iload_n hx hb (qaa qgl 12 rfl) rfl (lv_at hl 2 rfl) ?_
      exact ((W.iret (v := l3) hx hb hr (fun t ht hW => ⟨⟨l3, (jmJ), rfl, hw, by rw [ht]; exact hP, va_K.moved hW.alike hK, hD⟩, hS.F ht⟩) hS.2.2 (qaa qgl 13 rfl)))
    · have hw := hw.2 c6
      refine lv_iload hx hb (qaa qdS 14 rfl) (lv_at hl 3 rfl) ?_
      obtain ⟨hCc, hPc, hDc, hFc⟩ := qac (ws' := []) hP hD hS hA [] (by decide +kernel) rfl
      refine va_calli (va_runS (As := [.int l4]) (rest := []) ⟨hx, hb, hml, hown, hts⟩ (qxT l dC dI cyB cyI cyJ cyP H.size l4 hw) (va_cwS 1 hts gX2_watchers_J6_bitCount_0f7a4 rfl rfl rfl (by decide +kernel) ⟨nbq rfl, nbq rfl⟩) ⟨qab, qae hPc hK hDc hNw⟩ rfl rfl hl.1 rfl (lv_room (nbq rfl)) (qaa qdS 15 rfl) ⟨nbq rfl, nbq rfl⟩) hS (fun q _ h => hFc q h) hFc (fun r7 u t H1 locs ht hvm hw hB hz1 hk1 hS => ?_)
      obtain ⟨hP1, hK1, hD1⟩ := hB
      rw [ht] at hP1
      obtain ⟨hP, hD⟩ := qah (wr := (qvN a0 jha jhi jlc jld jkJ jiT jj1 jmE jaN ja4 jaP jkk jha cyI jiR jhi cyI jiP jmE cyI jmJ)) (w1 := []) (wn := (qvN a0 jha jhi jlc jld jkJ jiT jj1 jmE jaN ja4 jaP jkk jha cyI jiR jhi cyI jiP jmE cyI jmJ)) hP hD [] [0, 1, 2, 3] hCc rfl (by decide +kernel) (by decide +kernel) rfl hk1 hFc hP1 hD1
      generalize H1 = H at hP hS ⊢
      refine lv_iload_n hx hb (qaa qgl 0 rfl) rfl (lv_at hl 2 rfl) ?_
      obtain ⟨hCc, hPc, hDc, hFc⟩ := qac (ws' := []) hP hD hS hA [] (by decide +kernel) rfl
      refine va_calli (va_runS (As := [.int l3]) (rest := [.int r7]) ⟨hx, hb, hml, hown, hts⟩ (qxT l dC dI cyB cyI cyJ cyP H.size l3 hw) (va_cwS 1 hts gX2_watchers_J6_bitCount_0f7a4 rfl rfl rfl (by decide +kernel) ⟨nbq rfl, nbq rfl⟩) ⟨qab, qae hPc hK hDc hNw⟩ rfl rfl hl.1 rfl (lv_room (nbq rfl)) (qaa qgl 1 rfl) ⟨nbq rfl, nbq rfl⟩) hS (fun q _ h => hFc q h) hFc (fun r8 u t H1 locs ht hvm hw hB hz1 hk1 hS => ?_)
      obtain ⟨hP1, hK1, hD1⟩ := hB
      rw [ht] at hP1
      obtain ⟨hP, hD⟩ := qah (wr := (qvN a0 jha jhi jlc jld jkJ jiT jj1 jmE jaN ja4 jaP jkk jha cyI jiR jhi cyI jiP jmE cyI jmJ)) (w1 := []) (wn := (qvN a0 jha jhi jlc jld jkJ jiT jj1 jmE jaN ja4 jaP jkk jha cyI jiR jhi cyI jiP jmE cyI jmJ)) hP hD [] [0, 1, 2, 3] hCc rfl (by decide +kernel) (by decide +kernel) rfl hk1 hFc hP1 hD1
      generalize H1 = H at hP hS ⊢
      refine lv_icmp_ge (tgt := 73) hx hb (qaa qgl 2 rfl) (by decide) (fun c9 => ?_) (fun c9 => ?_)
      · have hw := hw.1 c9
        exact qJu dC dI cyB cyI cyJ cyP a0 jmE jha jhi jlc jld jkJ jiT jj1 ja4 jaP jkk jaN jiR jiP Q (qpC jaN jiR jiP Q n) ih C0 _ _ _ jmJ l2 l3 l4 hP hD hS (lv_sub hl [0, 1, 2, 3] rfl) hw
      · have hw := hw.2 c9
        refine lv_aload_n hx hb (qaa qgl 3 rfl) rfl (lv_at hl 0 rfl) ?_
        refine lv_iload hx hb (qaa qgl 4 rfl) (lv_at hl 3 rfl) ?_
        obtain ⟨hCc, hPc, hDc, hFc⟩ := qac (ws' := (qbdA a0 jha jhi jlc jld jkJ jiT jj1 jmE jaN ja4 jaP jkk jmE cyI jmJ)) hP hD hS hA [0, 3] (by decide +kernel) rfl
        refine va_calli (va_runV (As := [.int l4]) (rest := []) ⟨hx, hb, hml, hown, hts⟩ (qaH6 l dC dI cyB cyI cyJ cyP a0 jmE H.size (.ref jha) (.ref jhi) (jlc) (jld) (jkJ) (jiT) (jj1) (ja4) (jaP) (jkk) jaN jmJ l4 hw) (cwV 1 hts gX2_watchers_X2_seenFrom rfl rfl rfl (by decide +kernel) ⟨nbq rfl, nbq rfl⟩) ⟨qab, va_recv (q := (RX2, TX2, 12)) hK hPc (ci := 2) (q0 := 0) rfl rfl, qae hPc hK hDc hNw⟩ rfl rfl hl.1 rfl (lv_room (nbq rfl)) (qaa qgl 5 rfl) ⟨nbq rfl, nbq rfl⟩) hS (fun q _ h => hFc q h) hFc (fun r10 u t H1 locs ht hvm hw hB hz1 hk1 hS => ?_)
        obtain ⟨hP1, hK1, hD1⟩ := hB
        rw [ht] at hP1
        obtain ⟨hP, hD⟩ := qad (wr := [(jha, .inl (cyI, 8, .inl jiR)), (jhi, .inl (cyI, 8, .inl jiP))]) (w1 := (qbdA a0 jha jhi jlc jld jkJ jiT jj1 jmE jaN ja4 jaP jkk jmE cyI jmJ)) (wn := (qvN a0 jha jhi jlc jld jkJ jiT jj1 jmE jaN ja4 jaP jkk jha cyI jiR jhi cyI jiP jmE cyI jmJ)) hP hD [0, 3] [1, 2] [2, 0, 1, 3] hCc rfl (by decide +kernel) (by decide +kernel) (by decide +kernel) rfl hk1 hFc hP1 hD1
        generalize H1 = H at hP hS ⊢
        refine lv_iload_n hx hb (qaa qgl 6 rfl) rfl (lv_at hl 1 rfl) ?_
        refine lv_icmp_ne (tgt := 73) hx hb (qaa qgl 7 rfl) (by decide) (fun c11 => ?_) (fun c11 => ?_)
        · have hw := hw.1 c11
          exact qJu dC dI cyB cyI cyJ cyP a0 jmE jha jhi jlc jld jkJ jiT jj1 ja4 jaP jkk jaN jiR jiP Q (qpC jaN jiR jiP Q n) ih C0 _ _ _ jmJ l2 l3 l4 hP hD hS (lv_sub hl [0, 1, 2, 3] rfl) hw
        · have hw := hw.2 c11
          refine lv_iload hx hb (qaa qgl 8 rfl) (lv_at hl 3 rfl) ?_
          refine lv_istore_n (lv' := [(3, .int l4), (0, .ref a0), (2, .int l2), (4, .int l4)]) hx hb (qaa qgl 9 rfl) rfl hl (by decide) rfl (fun ls hl => ?_)
          exact qJu dC dI cyB cyI cyJ cyP a0 jmE jha jhi jlc jld jkJ jiT jj1 ja4 jaP jkk jaN jiR jiP Q (qpC jaN jiR jiP Q n) ih C0 _ _ _ jmJ l2 l4 l4 hP hD hS (lv_sub hl [1, 2, 0, 3] rfl) hw
set_option maxHeartbeats 4000000 in
set_option maxRecDepth 100000 in
theorem qap1 {p : Program} {l : Launch} {e : Env} {s : State} {m : MethodId} {args : Array Value} {below : List Frame} {meth : Method} {c : Code} {A : Nat → Prop} (dC : Nat → ClassId) (dI : Nat → Nat → Nat) (cyB cyI cyJ cyP : ClassId) (a0 jmE jha jhi : Nat) (jlc jld jkJ jiT jj1 ja4 jaP jkk : Value) (jaN : Int32) (jiR jiP : NI) (Q : Int32 → NI → Prop) (C0 : cfx p s m args meth c cX2_watchers (some .int) wsX2_watchers RX2 5 A (dC, dI) (kT cyB cyI cyJ cyP)) : ∀ (n : Nat) (H : Heap) (locs : List Loc) (ls : Array Slot) (jmJ : NI) (l1 l2 : Int32), va_P (dC, dI) vwCl (qvN a0 jha jhi jlc jld jkJ jiT jj1 jmE jaN ja4 jaP jkk jha cyI jiR jhi cyI jiP jmE cyI jmJ) H → va_D A (qvN a0 jha jhi jlc jld jkJ jiT jj1 jmE jaN ja4 jaP jkk jha cyI jiR jhi cyI jiP jmE cyI jmJ) → va_S A s.heap H locs → lv_has ls 5 [(0, .ref a0), (1, .int l1), (2, .int l2)] → qEO jaN jiR jiP Q n jmJ l1 l2 → W p l e (headSpec wsX2_watchers ({ frames := 3, cells := 0, slots := 0, locals := 78 })).room s m args below meth c H locs 0 0 (MQ below (va_Qi (fun (r : Int32) (u : NI) => Q r u) (cB (dC, dI) (kT cyB cyI cyJ cyP) A (fun u : NI => ((qvN a0 jha jhi jlc jld jkJ jiT jj1 jmE jaN ja4 jaP jkk jha cyI jiR jhi cyI jiP jmE cyI u) : va_W))) A) args s 0 0 A) (F0 m 2 ls []) := by
  obtain ⟨hx, hb, hr, hts, hown, hlocks, hml, hA, hK, hNw⟩ := id C0
  intro n
  induction n with
  | zero => intro H locs ls jmJ l1 l2 hP hD hS hl hw; exact False.elim hw
  | succ n ih =>
    intro H locs ls jmJ l1 l2 hP hD hS hl hw
    refine lv_iload_n hx hb (qaa qfo 2 rfl) rfl (lv_at hl 2 rfl) ?_
    refine lv_aload_n hx hb (qaa qfo 3 rfl) rfl (lv_at hl 0 rfl) ?_
    refine va_get (D := (dC, dI)) (ci := 2) (v := .int jaN) (C := RX2) (T := TX2) (N := 12) hx hb hts qJ7 hown hK hP 0 rfl rfl 8 (by decide) (hts _ qSo) (fun _ h9 => h9) rfl (qaa qfo 4 rfl) ?_
    refine lv_icmp_ge (tgt := 28) hx hb (qaa qfo 5 rfl) (by decide) (fun c1 => ?_) (fun c1 => ?_)
    · have hw := hw.1 c1
      refine lv_iconst (v := 1) hx hb (qaa qdS 0 rfl) (by decide) ?_
      refine lv_aload_n hx hb (qaa qdS 1 rfl) rfl (lv_at hl 0 rfl) ?_
      refine va_get (D := (dC, dI)) (ci := 2) (v := .int jaN) (C := RX2) (T := TX2) (N := 12) hx hb hts qJ7 hown hK hP 0 rfl rfl 8 (by decide) (hts _ qSo) (fun _ h9 => h9) rfl (qaa qdS 2 rfl) ?_
      refine lv_ishl hx hb (qaa qdS 3 rfl) ?_
      refine lv_iconst (v := 1) hx hb (qaa qdS 4 rfl) (by decide) ?_
      refine lv_isub hx hb (qaa qdS 5 rfl) ?_
      refine lv_topi (fun x2 ex2 => ?_)
      have hw := hw x2 ex2
      refine lv_istore_n (lv' := [(2, .int x2), (0, .ref a0), (1, .int l1)]) hx hb (qaa qdS 6 rfl) rfl hl (by decide) rfl (fun ls hl => ?_)
      refine lv_iload_n hx hb (qaa qdS 7 rfl) rfl (lv_at hl 0 rfl) ?_
      refine lv_istore_n (lv' := [(3, .int x2), (2, .int x2), (0, .ref a0), (1, .int l1)]) hx hb (qaa qdS 8 rfl) rfl hl (by decide) rfl (fun ls hl => ?_)
      refine lv_iconst (v := 0) hx hb (qaa qdS 9 rfl) (by decide) ?_
      refine lv_istore (lv' := [(4, .int 0), (3, .int x2), (2, .int x2), (0, .ref a0), (1, .int l1)]) hx hb (qaa qdS 10 rfl) hl (by decide) rfl (fun ls hl => ?_)
      obtain ⟨n9, hw⟩ := hw
      exact qalW dC dI cyB cyI cyJ cyP a0 jmE jha jhi jlc jld jkJ jiT jj1 ja4 jaP jkk jaN jiR jiP Q C0 n9 _ _ _ jmJ x2 x2 0 hP hD hS (lv_sub hl [3, 2, 1, 0] rfl) hw
    · have hw := hw.2 c1
      refine lv_aload_n hx hb (qaa qfo 6 rfl) rfl (lv_at hl 0 rfl) ?_
      refine va_get (D := (dC, dI)) (ci := 2) (v := .ref jmE) (C := RX2) (T := TX2) (N := 12) hx hb hts qJ7 hown hK hP 0 rfl rfl 7 (by decide) (hts _ qadm) (fun _ h9 => h9) rfl (qaa qfo 7 rfl) ?_
      refine lv_iload_n hx hb (qaa qfo 8 rfl) rfl (lv_at hl 2 rfl) ?_
      refine lv_aload_n hx hb (qaa qfo 9 rfl) rfl (lv_at hl 0 rfl) ?_
      refine lv_iload_n hx hb (qaa qfo 10 rfl) rfl (lv_at hl 2 rfl) ?_
      refine lv_iload_n hx hb (qaa qfo 11 rfl) rfl (lv_at hl 1 rfl) ?_
      obtain ⟨hCc, hPc, hDc, hFc⟩ := qac (ws' := (qbcK a0 jha jhi jlc jld jkJ jiT jj1 jmE jaN ja4 jaP jkk jha cyI jiR jhi cyI jiP)) hP hD hS hA [0, 1, 2] (by decide +kernel) rfl
      refine va_calli (va_runV (As := [.int l2, .int l1]) (rest := [.int l2, .ref jmE]) ⟨hx, hb, hml, hown, hts⟩ (qJ8 l dC dI cyB cyI cyJ cyP a0 jha jhi H.size (jlc) (jld) (jkJ) (jiT) (jj1) (.ref jmE) (ja4) (jaP) (jkk) jaN jiR jiP l2 l1 hw) (cwV 2 hts gX2_watchers_X2_formsWithin rfl rfl rfl (by decide +kernel) ⟨nbq rfl, nbq rfl⟩) ⟨qab, va_recv (q := (RX2, TX2, 12)) hK hPc (ci := 2) (q0 := 0) rfl rfl, qae hPc hK hDc hNw⟩ rfl rfl hl.1 rfl (lv_room (nbq rfl)) (qaa qfo 12 rfl) ⟨nbq rfl, nbq rfl⟩) hS (fun q _ h => hFc q h) hFc (fun r3 u t H1 locs ht hvm hw hB hz1 hk1 hS => ?_)
      obtain ⟨hP1, hK1, hD1⟩ := hB
      rw [ht] at hP1
      obtain ⟨hP, hD⟩ := qad (wr := [(jmE, .inl (cyI, 8, .inl jmJ))]) (w1 := (qbcK a0 jha jhi jlc jld jkJ jiT jj1 jmE jaN ja4 jaP jkk jha cyI jiR jhi cyI jiP)) (wn := (qvN a0 jha jhi jlc jld jkJ jiT jj1 jmE jaN ja4 jaP jkk jha cyI jiR jhi cyI jiP jmE cyI jmJ)) hP hD [0, 1, 2] [3] [1, 2, 3, 0] hCc rfl (by decide +kernel) (by decide +kernel) (by decide +kernel) rfl hk1 hFc hP1 hD1
      generalize H1 = H at hP hS ⊢
      obtain ⟨hi9, hw⟩ := hw
      refine va_iast hx hb hK hP hD hS 3 1 rfl rfl hi9 (qaa qfo 13 rfl) (fun H locs hP hD hS => ?_)
      obtain ⟨f4, ef4⟩ : ∃ y : NI, y = upd jmJ l2.toNatClampNeg r3 := ⟨_, rfl⟩
      have hw := hw f4 ef4
      have hP : va_P (dC, dI) vwCl (qvN a0 jha jhi jlc jld jkJ jiT jj1 jmE jaN ja4 jaP jkk jha cyI jiR jhi cyI jiP jmE cyI f4) H := by rw [ef4]; exact hP
      have hD : va_D A (qvN a0 jha jhi jlc jld jkJ jiT jj1 jmE jaN ja4 jaP jkk jha cyI jiR jhi cyI jiP jmE cyI f4) := by rw [ef4]; exact hD
      obtain ⟨x5, ex5⟩ : ∃ y : Int32, y = l2 + 1 := ⟨_, rfl⟩
      have hw := hw x5 ex5
      refine lv_iinc (v := x5) (lv' := [(2, .int x5), (0, .ref a0), (1, .int l1)]) hx hb (qaa qfo 14 rfl) hl (k := 2) rfl (by rw [ex5]; rfl) (by decide) rfl (fun ls hl => ?_)
      refine lv_goto (tgt := 2) hx hb (qaa qfo 15 rfl) (by decide) ?_
      exact ih _ _ _ f4 l1 x5 hP hD hS (lv_sub hl [1, 2, 0] rfl) hw
set_option maxHeartbeats 4000000 in
set_option maxRecDepth 100000 in
theorem qaH3 (l : Launch) (dC : Nat → ClassId) (dI : Nat → Nat → Nat) (cyB cyI cyJ cyP : ClassId) (a0 jmE jha jhi sz : Nat) (jlc jld jkJ jiT jj1 ja4 jaP jkk : Value) (jaN : Int32) (jiR jiP jmJ : NI) (p1 : Int32) {Q : Int32 → NI → Prop} (hw : qTV jaN jiR jiP jmJ p1 Q) : Met l yX2_watchers wsX2_watchers ({ frames := 3, cells := 0, slots := 0, locals := 78 }) (va_Pc [.ref a0, .int p1] (cPc (dC, dI) (kT cyB cyI cyJ cyP) (qvN a0 jha jhi jlc jld jkJ jiT jj1 jmE jaN ja4 jaP jkk jha cyI jiR jhi cyI jiP jmE cyI jmJ) sz)) (va_Qi (fun (r : Int32) (u : NI) => Q r u) (cB (dC, dI) (kT cyB cyI cyJ cyP) (va_A (qvN a0 jha jhi jlc jld jkJ jiT jj1 jmE jaN ja4 jaP jkk jha cyI jiR jhi cyI jiP jmE cyI jmJ) sz) (fun u : NI => ((qvN a0 jha jhi jlc jld jkJ jiT jj1 jmE jaN ja4 jaP jkk jha cyI jiR jhi cyI jiP jmE cyI u) : va_W))) (va_A (qvN a0 jha jhi jlc jld jkJ jiT jj1 jmE jaN ja4 jaP jkk jha cyI jiR jhi cyI jiP jmE cyI jmJ) sz)) 0 0 (va_A (qvN a0 jha jhi jlc jld jkJ jiT jj1 jmE jaN ja4 jaP jkk jha cyI jiR jhi cyI jiP jmE cyI jmJ) sz) := by
  refine Met.ofW (cc := cX2_watchers) (maxL := 5) (ret := (some .int)) (by decide) rfl ?_
  intro p e s m args below meth c s₁ B hml hv
  obtain ⟨rfl, hsz, hP, hK, hD0, hNw⟩ := hv
  have hx := B.exec
  have hb := B.bytes
  have hr := B.returns
  have hts := atoms_spec (ws := wsX2_watchers) B.pre
  have hown : s.vm.findClass RX2 = some m.cls := findClass_of_methodNamed B.named
  have hlocks := B.notSynchronized
  subst hsz
  have hD := hD0.self (sz := s.heap.size)
  generalize hAe : va_A (qvN a0 jha jhi jlc jld jkJ jiT jj1 jmE jaN ja4 jaP jkk jha cyI jiR jhi cyI jiP jmE cyI jmJ) s.heap.size = A at hD ⊢
  have hA : ∀ q : Nat, s.heap.size ≤ q → A q := fun q h => by rw [← hAe]; exact Or.inr h
  have hS : va_S A s.heap s.heap [] := va_S.rf
  have hP : va_P (dC, dI) vwCl (qvN a0 jha jhi jlc jld jkJ jiT jj1 jmE jaN ja4 jaP jkk jha cyI jiR jhi cyI jiP jmE cyI jmJ) s.heap := hP
  have hl := lv_entry ([.ref a0, .int p1]) (n := 5) (nbq rfl)
  rw [lg_entry_eq]
  generalize (lg_sl ([.ref a0, .int p1]) ++ List.replicate (5 - (lg_sl ([.ref a0, .int p1])).length) Slot.unset).toArray = ls at hl ⊢
  have hl : lv_has ls 5 [(0, .ref a0), (1, .int p1)] := hl
  have C0 : cfx p s m _ meth c cX2_watchers (some .int) wsX2_watchers RX2 5 A (dC, dI) (kT cyB cyI cyJ cyP) := ⟨hx, hb, hr, hts, hown, hlocks, hml, hA, hK, hNw⟩
  clear hAe
  obtain ⟨H, hH⟩ : ∃ H, H = s.heap := ⟨_, rfl⟩
  rw [← hH] at hP ⊢
  have hS : va_S A s.heap H [] := by rw [hH]; exact va_S.rf
  have hS := hS
  refine lv_iconst (v := 0) hx hb (qaa qfo 0 rfl) (by decide) ?_
  refine lv_istore_n (lv' := [(2, .int 0), (0, .ref a0), (1, .int p1)]) hx hb (qaa qfo 1 rfl) rfl hl (by decide) rfl (fun ls hl => ?_)
  obtain ⟨n9, hw⟩ := hw
  exact qap1 dC dI cyB cyI cyJ cyP a0 jmE jha jhi jlc jld jkJ jiT jj1 ja4 jaP jkk jaN jiR jiP Q C0 n9 _ _ _ jmJ p1 0 hP hD hS (lv_sub hl [1, 2, 0] rfl) hw
theorem qatA : ∀ w ∈ u_ws RX10 TX10 19, w ∈ wsX10_watch := uiM qJy qyE (by decide +kernel)
theorem qasp : (.fieldLink RX10 19 "MarchHares" "ground" "LMarchHares$Down;" : Cond) ∈ wsX10_watch := qJy 20 (by decide +kernel)
set_option maxHeartbeats 4000000 in
set_option maxRecDepth 100000 in
theorem qaVQ (l : Launch) (dC : Nat → ClassId) (dI : Nat → Nat → Nat) (cyB cyI cyJ cyP : ClassId) (a0 jaR jbs jbt jmB sz : Nat) (jaK ja1 jcp jbc jbV ja3 jbH ja2 jbO jaq jac jbI jbl jbn jba jaa jbA jbo jbp jbk jbj jbe jgP jbi jcd : Value) (jbE : Int32) (jci jcj : NI) (jbz : Int32) (jol : NI) (p1 : Int32) {E : String → Int32 → NI → Prop} {Q : Int32 → Int32 → NI → Prop} (hw : q2S jbE jci jcj jbz jol p1 E Q) : vx_Met l yX10_watch wsX10_watch ({ frames := 8, cells := 1, slots := 6, locals := 164 }) (va_Pc [.ref a0, .int p1] (cPx l (dC, dI) (kT cyB cyI cyJ cyP) (qNl a0 jaK jaR ja1 jcp jbc jbV ja3 jbH ja2 jbO jaq jac jbI jbl jbn jba jaa jbA jbz jaR jbs jbt jbo jbp jbk jbj jbe jmB jbE jgP jbi jcd jbs cyI jci jbt cyI jcj jmB cyI jol) sz)) (va_Qi (fun (r : Int32) (u : Int32 × NI) => Q r u.1 u.2) (cB (dC, dI) (kT cyB cyI cyJ cyP) (va_A (qNl a0 jaK jaR ja1 jcp jbc jbV ja3 jbH ja2 jbO jaq jac jbI jbl jbn jba jaa jbA jbz jaR jbs jbt jbo jbp jbk jbj jbe jmB jbE jgP jbi jcd jbs cyI jci jbt cyI jcj jmB cyI jol) sz) (fun u : Int32 × NI => ((qNl a0 jaK jaR ja1 jcp jbc jbV ja3 jbH ja2 jbO jaq jac jbI jbl jbn jba jaa jbA u.1 jaR jbs jbt jbo jbp jbk jbj jbe jmB jbE jgP jbi jcd jbs cyI jci jbt cyI jcj jmB cyI u.2) : va_W))) (va_A (qNl a0 jaK jaR ja1 jcp jbc jbV ja3 jbH ja2 jbO jaq jac jbI jbl jbn jba jaa jbA jbz jaR jbs jbt jbo jbp jbk jbj jbe jmB jbE jgP jbi jcd jbs cyI jci jbt cyI jcj jmB cyI jol) sz)) (vx_X (fun _ => True) (fun (en : String) (u : Int32 × NI) (t : State) => E en u.1 u.2 ∧ cB (dC, dI) (kT cyB cyI cyJ cyP) (va_A (qNl a0 jaK jaR ja1 jcp jbc jbV ja3 jbH ja2 jbO jaq jac jbI jbl jbn jba jaa jbA jbz jaR jbs jbt jbo jbp jbk jbj jbe jmB jbE jgP jbi jcd jbs cyI jci jbt cyI jcj jmB cyI jol) sz) (fun u : Int32 × NI => ((qNl a0 jaK jaR ja1 jcp jbc jbV ja3 jbH ja2 jbO jaq jac jbI jbl jbn jba jaa jbA u.1 jaR jbs jbt jbo jbp jbk jbj jbe jmB jbE jgP jbi jcd jbs cyI jci jbt cyI jcj jmB cyI u.2) : va_W)) u t) (va_A (qNl a0 jaK jaR ja1 jcp jbc jbV ja3 jbH ja2 jbO jaq jac jbI jbl jbn jba jaa jbA jbz jaR jbs jbt jbo jbp jbk jbj jbe jmB jbE jgP jbi jcd jbs cyI jci jbt cyI jcj jmB cyI jol) sz)) 1 6 (va_A (qNl a0 jaK jaR ja1 jcp jbc jbV ja3 jbH ja2 jbO jaq jac jbI jbl jbn jba jaa jbA jbz jaR jbs jbt jbo jbp jbk jbj jbe jmB jbE jgP jbi jcd jbs cyI jci jbt cyI jcj jmB cyI jol) sz) := by
  refine vx_ofW (cc := cX10_watch) (maxL := 2) (ret := (some .int)) (by decide) rfl ?_
  intro p e s m args below meth c s₁ B hml hnt hv
  obtain ⟨rfl, hsz, hP, hK, hD0, hNw, hXl, hXu, hXn, hXt⟩ := hv
  have hx := B.exec
  have hb := B.bytes
  have hr := B.returns
  have hts := atoms_spec (ws := wsX10_watch) B.pre
  have hown : s.vm.findClass RX10 = some m.cls := findClass_of_methodNamed B.named
  have hlocks := B.notSynchronized
  subst hsz
  have hD := hD0.self (sz := s.heap.size)
  generalize hAe : va_A (qNl a0 jaK jaR ja1 jcp jbc jbV ja3 jbH ja2 jbO jaq jac jbI jbl jbn jba jaa jbA jbz jaR jbs jbt jbo jbp jbk jbj jbe jmB jbE jgP jbi jcd jbs cyI jci jbt cyI jcj jmB cyI jol) s.heap.size = A at hD hXu hXn ⊢
  have hA : ∀ q : Nat, s.heap.size ≤ q → A q := fun q h => by rw [← hAe]; exact Or.inr h
  have hS : va_S A s.heap s.heap [] := va_S.rf
  have hP : va_P (dC, dI) vwCl (qNl a0 jaK jaR ja1 jcp jbc jbV ja3 jbH ja2 jbO jaq jac jbI jbl jbn jba jaa jbA jbz jaR jbs jbt jbo jbp jbk jbj jbe jmB jbE jgP jbi jcd jbs cyI jci jbt cyI jcj jmB cyI jol) s.heap := hP
  have hl := lv_entry ([.ref a0, .int p1]) (n := 2) (nbq rfl)
  rw [lg_entry_eq]
  generalize (lg_sl ([.ref a0, .int p1]) ++ List.replicate (2 - (lg_sl ([.ref a0, .int p1])).length) Slot.unset).toArray = ls at hl ⊢
  have hl : lv_has ls 2 [(0, .ref a0), (1, .int p1)] := hl
  have hY : cfY l s A := ⟨hXl, hXu, hXn, hXt⟩
  have hXs : cfX l s c A := ⟨hnt, hY⟩
  have C0 : cfx p s m _ meth c cX10_watch (some .int) wsX10_watch RX10 2 A (dC, dI) (kT cyB cyI cyJ cyP) ∧ cfX l s c A := ⟨⟨hx, hb, hr, hts, hown, hlocks, hml, hA, hK, hNw⟩, hXs⟩
  clear hAe
  obtain ⟨H, hH⟩ : ∃ H, H = s.heap := ⟨_, rfl⟩
  rw [← hH] at hP ⊢
  have hS : va_S A s.heap H [] := by rw [hH]; exact va_S.rf
  have hS := hS
  refine lv_aload_n hx hb (qaa qrH 0 rfl) rfl (lv_at hl 0 rfl) ?_
  refine lv_iload_n hx hb (qaa qrH 1 rfl) rfl (lv_at hl 1 rfl) ?_
  refine lv_iconst (v := 0) hx hb (qaa qrH 2 rfl) (by decide) ?_
  refine lv_bipush (v := 60) hx hb (qaa qrH 3 rfl) (by decide) ?_
  obtain ⟨hCc, hPc, hDc, hFc⟩ := qac (ws' := (qa0o a0 jaK jaR ja1 jcp jbc jbV ja3 jbH ja2 jbO jaq jac jbI jbl jbn jba jaa jbA jbz)) hP hD hS hA [0] (by decide +kernel) rfl
  refine vx_callv (vx_runV (As := [.int p1, .int 0, .int 60]) (rest := []) ⟨hx, hb, hml, hown, hts⟩ (qaV l dC dI cyB cyI cyJ cyP a0 H.size (jaK) (.ref jaR) (ja1) (jcp) (jbc) (jbV) (ja3) (jbH) (ja2) (jbO) (jaq) (jac) (jbI) (jbl) (jbn) (jba) (jaa) (jbA) jbz p1 0 60 hw) (cwV 3 hts gX10_watch_X10_needWithin rfl rfl rfl (by decide +kernel) ⟨nbq rfl, nbq rfl⟩) ⟨qau, va_recv (q := (RX10, TX10, 19)) hK hPc (ci := 10) (q0 := 0) rfl rfl, qbk hPc hK hDc hNw hY hS hFc⟩ rfl rfl hl.1 rfl (lv_room (nbq rfl)) (qaa qrH 4 rfl) ⟨nbq rfl, nbq rfl⟩) hS (fun q _ h => hFc q h) hFc (fun q _ h => hFc q h) (fun en ce q9 u t H1 locs ht hvm hpx hB hz1 hk1 hS hc9 hv9 hcl9 => ?_) (fun u t H1 locs ht hvm hw hB hz1 hk1 hS => ?_)
  · obtain ⟨x1, rfl⟩ : ∃ z, z = u := ⟨_, rfl⟩
    obtain ⟨hw, hP1, hK1, hD1⟩ := hB
    rw [ht] at hP1
    obtain ⟨hP, hD⟩ := qad (wr := (qvN jaR jbs jbt jbo jbp jbk jbj jbe jmB jbE jgP jbi jcd jbs cyI jci jbt cyI jcj jmB cyI jol)) (w1 := (qa0o a0 jaK jaR ja1 jcp jbc jbV ja3 jbH ja2 jbO jaq jac jbI jbl jbn jba jaa jbA x1)) (wn := (qNl a0 jaK jaR ja1 jcp jbc jbV ja3 jbH ja2 jbO jaq jac jbI jbl jbn jba jaa jbA x1 jaR jbs jbt jbo jbp jbk jbj jbe jmB jbE jgP jbi jcd jbs cyI jci jbt cyI jcj jmB cyI jol)) hP hD [0] [1, 2, 3, 4] [4, 0, 1, 2, 3] hCc rfl (by decide +kernel) (by decide +kernel) (by decide +kernel) rfl hk1 hFc hP1 hD1
    generalize H1 = H at hP hS hc9 ⊢
    exact vx_out (fun x hx9 => (hXs.1 x hx9).elim) hlocks hc9 hv9 hcl9 (fun t2 ht2 hal2 => ⟨(x1, jol), trivial, ⟨hw, by rw [ht2]; exact hP, va_K.moved hal2 hK, hD⟩, hS.F ht2⟩) hS.2.2 (nbq rfl) (nbq rfl)
  obtain ⟨x1, rfl⟩ : ∃ z, z = u := ⟨_, rfl⟩
  obtain ⟨hP1, hK1, hD1⟩ := hB
  rw [ht] at hP1
  obtain ⟨hP, hD⟩ := qad (wr := (qvN jaR jbs jbt jbo jbp jbk jbj jbe jmB jbE jgP jbi jcd jbs cyI jci jbt cyI jcj jmB cyI jol)) (w1 := (qa0o a0 jaK jaR ja1 jcp jbc jbV ja3 jbH ja2 jbO jaq jac jbI jbl jbn jba jaa jbA x1)) (wn := (qNl a0 jaK jaR ja1 jcp jbc jbV ja3 jbH ja2 jbO jaq jac jbI jbl jbn jba jaa jbA x1 jaR jbs jbt jbo jbp jbk jbj jbe jmB jbE jgP jbi jcd jbs cyI jci jbt cyI jcj jmB cyI jol)) hP hD [0] [1, 2, 3, 4] [4, 0, 1, 2, 3] hCc rfl (by decide +kernel) (by decide +kernel) (by decide +kernel) rfl hk1 hFc hP1 hD1
  generalize H1 = H at hP hS ⊢
  refine lv_aload_n hx hb (qaa qrH 5 rfl) rfl (lv_at hl 0 rfl) ?_
  refine va_get (D := (dC, dI)) (ci := 10) (v := .ref jaR) (C := RX10) (T := TX10) (N := 19) hx hb hts qatA hown hK hP 0 rfl rfl 1 (by decide) (hts _ qasp) (fun _ h9 => h9) rfl (qaa qrH 6 rfl) ?_
  refine lv_iload_n hx hb (qaa qrH 7 rfl) rfl (lv_at hl 1 rfl) ?_
  obtain ⟨hCc, hPc, hDc, hFc⟩ := qac (ws' := (qvN jaR jbs jbt jbo jbp jbk jbj jbe jmB jbE jgP jbi jcd jbs cyI jci jbt cyI jcj jmB cyI jol)) hP hD hS hA [1, 2, 3, 4] (by decide +kernel) rfl
  refine va_calli (va_runV (As := [.int p1]) (rest := []) ⟨hx, hb, hml, hown, hts⟩ (qaH3 l dC dI cyB cyI cyJ cyP jaR jmB jbs jbt H.size (jbo) (jbp) (jbk) (jbj) (jbe) (jgP) (jbi) (jcd) jbE jci jcj jol p1 hw) (cwV 1 hts gX10_watch_X2_watchers rfl rfl rfl (by decide +kernel) ⟨nbq rfl, nbq rfl⟩) ⟨qab, va_recv (q := (RX2, TX2, 12)) hK hPc (ci := 2) (q0 := 0) rfl rfl, qae hPc hK hDc hNw⟩ rfl rfl hl.1 rfl (lv_room (nbq rfl)) (qaa qrH 8 rfl) ⟨nbq rfl, nbq rfl⟩) hS (fun q _ h => hFc q h) hFc (fun r3 u t H1 locs ht hvm hw hB hz1 hk1 hS => ?_)
  obtain ⟨f2, rfl⟩ : ∃ z, z = u := ⟨_, rfl⟩
  obtain ⟨hP1, hK1, hD1⟩ := hB
  rw [ht] at hP1
  obtain ⟨hP, hD⟩ := qah (wr := (qa0o a0 jaK jaR ja1 jcp jbc jbV ja3 jbH ja2 jbO jaq jac jbI jbl jbn jba jaa jbA x1)) (w1 := (qvN jaR jbs jbt jbo jbp jbk jbj jbe jmB jbE jgP jbi jcd jbs cyI jci jbt cyI jcj jmB cyI f2)) (wn := (qNl a0 jaK jaR ja1 jcp jbc jbV ja3 jbH ja2 jbO jaq jac jbI jbl jbn jba jaa jbA x1 jaR jbs jbt jbo jbp jbk jbj jbe jmB jbE jgP jbi jcd jbs cyI jci jbt cyI jcj jmB cyI f2)) hP hD [1, 2, 3, 4] [0] hCc rfl (by decide +kernel) (by decide +kernel) rfl hk1 hFc hP1 hD1
  generalize H1 = H at hP hS ⊢
  exact vx_ret (W.widen (k := 1) (n := 6) (nbq rfl) (nbq rfl) (W.iret (v := r3) hx hb hr (fun t ht hW => ⟨⟨r3, (x1, f2), rfl, hw, by rw [ht]; exact hP, va_K.moved hW.alike hK, hD⟩, hS.F ht⟩) hS.2.2 (qaa qrH 9 rfl)))
theorem qaEa : (.classLink RL 13 "java/lang/IllegalArgumentException" : Cond) ∈ wsL_watch := qacQ 595 (by decide +kernel)
theorem qaMP : (.codeWith yL_watch cL_watch 4 (some .int) [(0, 9, 12, 13)] : Cond) ∈ wsL_watch := qacQ 3661 (by decide +kernel)
set_option maxHeartbeats 4000000 in
set_option maxRecDepth 100000 in
theorem qa1P (l : Launch) (dC : Nat → ClassId) (dI : Nat → Nat → Nat) (cyB cyI cyJ cyP : ClassId) (a0 a2 jaR jbs jbt jmB sz : Nat) (jaK ja1 jcp jbc jbV ja3 jbH ja2 jbO jaq jac jbI jbl jbn jba jaa jbA jbo jbp jbk jbj jbe jgP jbi jcd : Value) (n2 : Nat) (jbE : Int32) (jci jcj : NI) (jbz : Int32) (jol : NI) (f2 : Nat → Int64) (p1 : Int32) {Q : Int32 → Int32 → NI → (Nat → Int64) → Prop} (hw : qaLM n2 jbE jci jcj jbz jol f2 p1 Q) : Met l yL_watch wsL_watch ({ frames := 9, cells := 1, slots := 6, locals := 185 }) (va_Pc [.ref a0, .int p1, .ref a2] (cPx l (dC, dI) (kT cyB cyI cyJ cyP) (qZ2 a0 jaK jaR ja1 jcp jbc jbV ja3 jbH ja2 jbO jaq jac jbI jbl jbn jba jaa jbA jbz jaR jbs jbt jbo jbp jbk jbj jbe jmB jbE jgP jbi jcd jbs cyI jci jbt cyI jcj jmB cyI jol a2 cyJ n2 f2) sz)) (va_Qi (fun (r : Int32) (u : Int32 × NI × (Nat → Int64)) => Q r u.1 u.2.1 u.2.2) (cB (dC, dI) (kT cyB cyI cyJ cyP) (va_A (qZ2 a0 jaK jaR ja1 jcp jbc jbV ja3 jbH ja2 jbO jaq jac jbI jbl jbn jba jaa jbA jbz jaR jbs jbt jbo jbp jbk jbj jbe jmB jbE jgP jbi jcd jbs cyI jci jbt cyI jcj jmB cyI jol a2 cyJ n2 f2) sz) (fun u : Int32 × NI × (Nat → Int64) => ((qZ2 a0 jaK jaR ja1 jcp jbc jbV ja3 jbH ja2 jbO jaq jac jbI jbl jbn jba jaa jbA u.1 jaR jbs jbt jbo jbp jbk jbj jbe jmB jbE jgP jbi jcd jbs cyI jci jbt cyI jcj jmB cyI u.2.1 a2 cyJ n2 u.2.2) : va_W))) (va_A (qZ2 a0 jaK jaR ja1 jcp jbc jbV ja3 jbH ja2 jbO jaq jac jbI jbl jbn jba jaa jbA jbz jaR jbs jbt jbo jbp jbk jbj jbe jmB jbE jgP jbi jcd jbs cyI jci jbt cyI jcj jmB cyI jol a2 cyJ n2 f2) sz)) 1 6 (va_A (qZ2 a0 jaK jaR ja1 jcp jbc jbV ja3 jbH ja2 jbO jaq jac jbI jbl jbn jba jaa jbA jbz jaR jbs jbt jbo jbp jbk jbj jbe jmB jbE jgP jbi jcd jbs cyI jci jbt cyI jcj jmB cyI jol a2 cyJ n2 f2) sz) := by
  refine va_MetW (cc := cL_watch) (maxL := 4) (ret := (some .int)) (by decide) rfl ?_
  intro p e s m args below meth c s₁ B hml hv
  obtain ⟨rfl, hsz, hP, hK, hD0, hNw, hXl, hXu, hXn, hXt⟩ := hv
  have hx := B.exec
  have hb := B.bytes
  have hr := B.returns
  have hts := atoms_spec (ws := wsL_watch) B.pre
  have hown : s.vm.findClass RL = some m.cls := findClass_of_methodNamed B.named
  have hlocks := B.notSynchronized
  subst hsz
  have hD := hD0.self (sz := s.heap.size)
  generalize hAe : va_A (qZ2 a0 jaK jaR ja1 jcp jbc jbV ja3 jbH ja2 jbO jaq jac jbI jbl jbn jba jaa jbA jbz jaR jbs jbt jbo jbp jbk jbj jbe jmB jbE jgP jbi jcd jbs cyI jci jbt cyI jcj jmB cyI jol a2 cyJ n2 f2) s.heap.size = A at hD hXu hXn ⊢
  have hA : ∀ q : Nat, s.heap.size ≤ q → A q := fun q h => by rw [← hAe]; exact Or.inr h
  have hS : va_S A s.heap s.heap [] := va_S.rf
  have hP : va_P (dC, dI) vwCl (qZ2 a0 jaK jaR ja1 jcp jbc jbV ja3 jbH ja2 jbO jaq jac jbI jbl jbn jba jaa jbA jbz jaR jbs jbt jbo jbp jbk jbj jbe jmB jbE jgP jbi jcd jbs cyI jci jbt cyI jcj jmB cyI jol a2 cyJ n2 f2) s.heap := hP
  have hl := lv_entry ([.ref a0, .int p1, .ref a2]) (n := 4) (nbq rfl)
  rw [lg_entry_eq]
  generalize (lg_sl ([.ref a0, .int p1, .ref a2]) ++ List.replicate (4 - (lg_sl ([.ref a0, .int p1, .ref a2])).length) Slot.unset).toArray = ls at hl ⊢
  have hl : lv_has ls 4 [(0, .ref a0), (1, .int p1), (2, .ref a2)] := hl
  have hY : cfY l s A := ⟨hXl, hXu, hXn, hXt⟩
  have hTb := vx_table (x := yL_watch) B (hts _ qaMP)
  clear hAe
  obtain ⟨H, hH⟩ : ∃ H, H = s.heap := ⟨_, rfl⟩
  rw [← hH] at hP ⊢
  have hS : va_S A s.heap H [] := by rw [hH]; exact va_S.rf
  have hS := hS
  refine lv_aload_n hx hb (qaa qrk 0 rfl) rfl (lv_at hl 2 rfl) ?_
  refine lv_iconst (v := 0) hx hb (qaa qrk 1 rfl) (by decide) ?_
  refine lv_aload_n hx hb (qaa qrk 2 rfl) rfl (lv_at hl 0 rfl) ?_
  refine lv_iload_n hx hb (qaa qrk 3 rfl) rfl (lv_at hl 1 rfl) ?_
  obtain ⟨hCc, hPc, hDc, hFc⟩ := qac (ws' := (qNl a0 jaK jaR ja1 jcp jbc jbV ja3 jbH ja2 jbO jaq jac jbI jbl jbn jba jaa jbA jbz jaR jbs jbt jbo jbp jbk jbj jbe jmB jbE jgP jbi jcd jbs cyI jci jbt cyI jcj jmB cyI jol)) hP hD hS hA [0, 1, 2, 3, 4] (by decide +kernel) rfl
  refine vx_calli (vx_runV (As := [.int p1]) (rest := [.int 0, .ref a2]) ⟨hx, hb, hml, hown, hts⟩ (qaVQ l dC dI cyB cyI cyJ cyP a0 jaR jbs jbt jmB H.size (jaK) (ja1) (jcp) (jbc) (jbV) (ja3) (jbH) (ja2) (jbO) (jaq) (jac) (jbI) (jbl) (jbn) (jba) (jaa) (jbA) (jbo) (jbp) (jbk) (jbj) (jbe) (jgP) (jbi) (jcd) jbE jci jcj jbz jol p1 hw) (cwV 1 hts gL_watch_X10_watch rfl rfl rfl (by decide +kernel) ⟨nbq rfl, nbq rfl⟩) ⟨qau, va_recv (q := (RX10, TX10, 19)) hK hPc (ci := 10) (q0 := 0) rfl rfl, qbk hPc hK hDc hNw hY hS hFc⟩ rfl rfl hl.1 rfl (lv_room (nbq rfl)) (qaa qrk 4 rfl) ⟨nbq rfl, nbq rfl⟩) hS (fun q _ h => hFc q h) hFc (fun q _ h => hFc q h) (fun en ce qx9 u t H1 locs ht hvm hpx hB hz1 hk1 hS hc9 hv9 hcl9 => ?_) (fun r4 u t H1 locs ht hvm hw hB hz1 hk1 hS => ?_)
  · obtain ⟨x1, f3⟩ := u
    obtain ⟨hw, hP1, hK1, hD1⟩ := hB
    rw [ht] at hP1
    obtain ⟨hP, hD⟩ := qad (wr := [(a2, .inl (cyJ, n2, .inr (.inl f2)))]) (w1 := (qNl a0 jaK jaR ja1 jcp jbc jbV ja3 jbH ja2 jbO jaq jac jbI jbl jbn jba jaa jbA x1 jaR jbs jbt jbo jbp jbk jbj jbe jmB jbE jgP jbi jcd jbs cyI jci jbt cyI jcj jmB cyI f3)) (wn := (qZ2 a0 jaK jaR ja1 jcp jbc jbV ja3 jbH ja2 jbO jaq jac jbI jbl jbn jba jaa jbA x1 jaR jbs jbt jbo jbp jbk jbj jbe jmB jbE jgP jbi jcd jbs cyI jci jbt cyI jcj jmB cyI f3 a2 cyJ n2 f2)) hP hD [0, 1, 2, 3, 4] [5] [1, 2, 3, 4, 5, 0] hCc rfl (by decide +kernel) (by decide +kernel) (by decide +kernel) rfl hk1 hFc hP1 hD1
    generalize H1 = H at hP hS hc9 ⊢
    obtain ⟨rfl, hw⟩ := hw
    refine vx_catch (own := RL) (name := "java/lang/IllegalArgumentException") hown [] ⟨0, 9, 12, 13⟩ [] (hTb.trans rfl) (fun z hz => nomatch hz) (by decide) (by decide) (hts _ qaEa) (va_Nw.use rfl (hY.2.2.2.1.2 _ (List.mem_of_getElem? (i := 0) rfl))) hc9 hv9 hcl9 ?_
    refine lv_astore_n (lv' := [(3, .ref qx9), (0, .ref a0), (1, .int p1), (2, .ref a2)]) hx hb (qaa qrk 8 rfl) rfl hl (by decide) rfl (fun ls hl => ?_)
    refine lv_iconst (v := 1) hx hb (qaa qrk 9 rfl) (by decide) ?_
    exact (W.widen (k := 1) (n := 6) (nbq rfl) (nbq rfl) (W.iret (v := 1) hx hb hr (fun t ht hW => ⟨⟨1, (x1, f3, f2), rfl, hw, by rw [ht]; exact hP, va_K.moved hW.alike hK, hD⟩, hS.F ht⟩) hS.2.2 (qaa qrk 10 rfl)))
  obtain ⟨x1, f3⟩ := u
  obtain ⟨hP1, hK1, hD1⟩ := hB
  rw [ht] at hP1
  obtain ⟨hP, hD⟩ := va_join (wr := [(a2, .inl (cyJ, n2, .inr (.inl f2)))]) (w1 := (qNl a0 jaK jaR ja1 jcp jbc jbV ja3 jbH ja2 jbO jaq jac jbI jbl jbn jba jaa jbA x1 jaR jbs jbt jbo jbp jbk jbj jbe jmB jbE jgP jbi jcd jbs cyI jci jbt cyI jcj jmB cyI f3)) hP hD [0, 1, 2, 3, 4] [5] rfl rfl (by decide) (by decide) hk1 hFc hP1 hD1
  have hP : va_P (dC, dI) vwCl (qZ2 a0 jaK jaR ja1 jcp jbc jbV ja3 jbH ja2 jbO jaq jac jbI jbl jbn jba jaa jbA x1 jaR jbs jbt jbo jbp jbk jbj jbe jmB jbE jgP jbi jcd jbs cyI jci jbt cyI jcj jmB cyI f3 a2 cyJ n2 f2) H1 := hP.sub [1, 2, 3, 4, 5, 0] rfl
  have hD : va_D A (qZ2 a0 jaK jaR ja1 jcp jbc jbV ja3 jbH ja2 jbO jaq jac jbI jbl jbn jba jaa jbA x1 jaR jbs jbt jbo jbp jbk jbj jbe jmB jbE jgP jbi jcd jbs cyI jci jbt cyI jcj jmB cyI f3 a2 cyJ n2 f2) := hD.sub [1, 2, 3, 4, 5, 0] (by decide) rfl
  generalize H1 = H at hP hS ⊢
  refine lv_i2l (v := r4.toInt64) hx hb (qaa qrk 5 rfl) rfl ?_
  refine lv_topl (fun x5 ex5 => ?_)
  have hw := hw x5 ex5
  obtain ⟨hi9, hw⟩ := hw
  refine va_last hx hb hK hP hD hS 5 2 rfl rfl hi9 (qaa qrk 6 rfl) (fun H locs hP hD hS => ?_)
  obtain ⟨f6, ef6⟩ : ∃ y : Nat → Int64, y = vp_updL f2 (0 : Int32).toNatClampNeg x5 := ⟨_, rfl⟩
  have hw := hw f6 ef6
  have hP : va_P (dC, dI) vwCl (qZ2 a0 jaK jaR ja1 jcp jbc jbV ja3 jbH ja2 jbO jaq jac jbI jbl jbn jba jaa jbA x1 jaR jbs jbt jbo jbp jbk jbj jbe jmB jbE jgP jbi jcd jbs cyI jci jbt cyI jcj jmB cyI f3 a2 cyJ n2 f6) H := by rw [ef6]; exact hP
  have hD : va_D A (qZ2 a0 jaK jaR ja1 jcp jbc jbV ja3 jbH ja2 jbO jaq jac jbI jbl jbn jba jaa jbA x1 jaR jbs jbt jbo jbp jbk jbj jbe jmB jbE jgP jbi jcd jbs cyI jci jbt cyI jcj jmB cyI f3 a2 cyJ n2 f6) := by rw [ef6]; exact hD
  refine lv_goto (tgt := 15) hx hb (qaa qrk 7 rfl) (by decide) ?_
  refine lv_iconst (v := 0) hx hb (qaa qrk 11 rfl) (by decide) ?_
  exact (W.widen (k := 1) (n := 6) (nbq rfl) (nbq rfl) (W.iret (v := 0) hx hb hr (fun t ht hW => ⟨⟨0, (x1, f3, f6), rfl, hw, by rw [ht]; exact hP, va_K.moved hW.alike hK, hD⟩, hS.F ht⟩) hS.2.2 (qaa qrk 12 rfl)))
theorem qt9 : ∀ w ∈ u_ws RX9 TX9 12, w ∈ wsX9_add := uiM q5j euX9 (by decide +kernel)
theorem qaP7 : (.fieldLink RX9 11 "MarchHares$Work" "kinds" "[I" : Cond) ∈ wsX9_add := q5j 266 (by decide +kernel)
theorem qaOf : (.fieldLink RX9 15 "MarchHares$Work" "first" "[I" : Cond) ∈ wsX9_add := q5j 267 (by decide +kernel)
theorem qaRR : (.fieldLink RX9 18 "MarchHares$Work" "second" "[I" : Cond) ∈ wsX9_add := q5j 268 (by decide +kernel)
theorem qaP1 : (.fieldLink RX9 21 "MarchHares$Work" "third" "[I" : Cond) ∈ wsX9_add := q5j 269 (by decide +kernel)
theorem qzs : (.fieldLink RX9 37 "MarchHares$Work" "length" "I" : Cond) ∈ wsX9_add := q5j 1606 (by decide +kernel)
set_option maxHeartbeats 4000000 in
set_option maxRecDepth 100000 in
theorem qVv (l : Launch) (dC : Nat → ClassId) (dI : Nat → Nat → Nat) (cyB cyI cyJ cyP : ClassId) (a0 jbU jgC jgh jho sz : Nat) (jme jkw joE ja4 ja0 jaG jaF : Value) (jdC jiX jiF jjg : NI) (jb7 p1 p2 p3 p4 : Int32) {Q : NI → NI → NI → NI → Int32 → Prop} (hw : qG9 jdC jiX jiF jjg jb7 p1 p2 p3 p4 Q) : Met l yX9_add wsX9_add ({ frames := 0, cells := 0, slots := 0, locals := 0 }) (va_Pc [.ref a0, .int p1, .int p2, .int p3, .int p4] (cPc (dC, dI) (kT cyB cyI cyJ cyP) (qLJ a0 jbU jgC jgh jho jme jkw jb7 joE ja4 ja0 jaG jaF jbU cyI jdC jgC cyI jiX jgh cyI jiF jho cyI jjg) sz)) (va_Qv (fun (u : NI × NI × NI × NI × Int32) => Q u.1 u.2.1 u.2.2.1 u.2.2.2.1 u.2.2.2.2) (cB (dC, dI) (kT cyB cyI cyJ cyP) (va_A (qLJ a0 jbU jgC jgh jho jme jkw jb7 joE ja4 ja0 jaG jaF jbU cyI jdC jgC cyI jiX jgh cyI jiF jho cyI jjg) sz) (fun u : NI × NI × NI × NI × Int32 => ((qLJ a0 jbU jgC jgh jho jme jkw u.2.2.2.2 joE ja4 ja0 jaG jaF jbU cyI u.1 jgC cyI u.2.1 jgh cyI u.2.2.1 jho cyI u.2.2.2.1) : va_W))) (va_A (qLJ a0 jbU jgC jgh jho jme jkw jb7 joE ja4 ja0 jaG jaF jbU cyI jdC jgC cyI jiX jgh cyI jiF jho cyI jjg) sz)) 0 0 (va_A (qLJ a0 jbU jgC jgh jho jme jkw jb7 joE ja4 ja0 jaG jaF jbU cyI jdC jgC cyI jiX jgh cyI jiF jho cyI jjg) sz) := by
  refine Met.ofW (cc := cX9_add) (maxL := 5) (ret := none) (by decide) rfl ?_
  intro p e s m args below meth c s₁ B hml hv
  obtain ⟨rfl, hsz, hP, hK, hD0, hNw⟩ := hv
  have hx := B.exec
  have hb := B.bytes
  have hr := B.returns
  have hts := atoms_spec (ws := wsX9_add) B.pre
  have hown : s.vm.findClass RX9 = some m.cls := findClass_of_methodNamed B.named
  have hlocks := B.notSynchronized
  subst hsz
  have hD := hD0.self (sz := s.heap.size)
  generalize hAe : va_A (qLJ a0 jbU jgC jgh jho jme jkw jb7 joE ja4 ja0 jaG jaF jbU cyI jdC jgC cyI jiX jgh cyI jiF jho cyI jjg) s.heap.size = A at hD ⊢
  have hA : ∀ q : Nat, s.heap.size ≤ q → A q := fun q h => by rw [← hAe]; exact Or.inr h
  have hS : va_S A s.heap s.heap [] := va_S.rf
  have hP : va_P (dC, dI) vwCl (qLJ a0 jbU jgC jgh jho jme jkw jb7 joE ja4 ja0 jaG jaF jbU cyI jdC jgC cyI jiX jgh cyI jiF jho cyI jjg) s.heap := hP
  have hl := lv_entry ([.ref a0, .int p1, .int p2, .int p3, .int p4]) (n := 5) (nbq rfl)
  rw [lg_entry_eq]
  generalize (lg_sl ([.ref a0, .int p1, .int p2, .int p3, .int p4]) ++ List.replicate (5 - (lg_sl ([.ref a0, .int p1, .int p2, .int p3, .int p4])).length) Slot.unset).toArray = ls at hl ⊢
  have hl : lv_has ls 5 [(0, .ref a0), (1, .int p1), (2, .int p2), (3, .int p3), (4, .int p4)] := hl
  have C0 : cfx p s m _ meth c cX9_add none wsX9_add RX9 5 A (dC, dI) (kT cyB cyI cyJ cyP) := ⟨hx, hb, hr, hts, hown, hlocks, hml, hA, hK, hNw⟩
  clear hAe
  obtain ⟨H, hH⟩ : ∃ H, H = s.heap := ⟨_, rfl⟩
  rw [← hH] at hP ⊢
  have hS : va_S A s.heap H [] := by rw [hH]; exact va_S.rf
  have hS := hS
  refine lv_aload_n hx hb (qaa qp2 0 rfl) rfl (lv_at hl 0 rfl) ?_
  refine va_get (D := (dC, dI)) (ci := 9) (v := .int jb7) (C := RX9) (T := TX9) (N := 12) hx hb hts qt9 hown hK hP 0 rfl rfl 6 (by decide) (hts _ qzs) (fun _ h9 => h9) rfl (qaa qp2 1 rfl) ?_
  refine lv_bipush (v := 50) hx hb (qaa qp2 2 rfl) (by decide) ?_
  refine lv_icmp_ge (tgt := 60) hx hb (qaa qp2 3 rfl) (by decide) (fun c1 => ?_) (fun c1 => ?_)
  · have hw := hw.1 c1
    exact ((W.vret hx hb hr (fun t ht hW => ⟨⟨(jdC, jiX, jiF, jjg, jb7), rfl, hw, by rw [ht]; exact hP, va_K.moved hW.alike hK, hD⟩, hS.F ht⟩) hS.2.2 (qaa qSR 2 rfl)))
  · have hw := hw.2 c1
    refine lv_aload_n hx hb (qaa qp2 4 rfl) rfl (lv_at hl 0 rfl) ?_
    refine va_get (D := (dC, dI)) (ci := 9) (v := .ref jbU) (C := RX9) (T := TX9) (N := 12) hx hb hts qt9 hown hK hP 0 rfl rfl 0 (by decide) (hts _ qaP7) (fun _ h9 => h9) rfl (qaa qp2 5 rfl) ?_
    refine lv_aload_n hx hb (qaa qp2 6 rfl) rfl (lv_at hl 0 rfl) ?_
    refine va_get (D := (dC, dI)) (ci := 9) (v := .int jb7) (C := RX9) (T := TX9) (N := 12) hx hb hts qt9 hown hK hP 0 rfl rfl 6 (by decide) (hts _ qzs) (fun _ h9 => h9) rfl (qaa qp2 7 rfl) ?_
    refine lv_iload_n hx hb (qaa qp2 8 rfl) rfl (lv_at hl 1 rfl) ?_
    obtain ⟨hi9, hw⟩ := hw
    refine va_iast hx hb hK hP hD hS 1 1 rfl rfl hi9 (qaa qp2 9 rfl) (fun H locs hP hD hS => ?_)
    obtain ⟨f2, ef2⟩ : ∃ y : NI, y = upd jdC jb7.toNatClampNeg p1 := ⟨_, rfl⟩
    have hw := hw f2 ef2
    have hP : va_P (dC, dI) vwCl (qLJ a0 jbU jgC jgh jho jme jkw jb7 joE ja4 ja0 jaG jaF jbU cyI f2 jgC cyI jiX jgh cyI jiF jho cyI jjg) H := by rw [ef2]; exact hP
    have hD : va_D A (qLJ a0 jbU jgC jgh jho jme jkw jb7 joE ja4 ja0 jaG jaF jbU cyI f2 jgC cyI jiX jgh cyI jiF jho cyI jjg) := by rw [ef2]; exact hD
    refine lv_aload_n hx hb (qaa qp2 10 rfl) rfl (lv_at hl 0 rfl) ?_
    refine va_get (D := (dC, dI)) (ci := 9) (v := .ref jgC) (C := RX9) (T := TX9) (N := 12) hx hb hts qt9 hown hK hP 0 rfl rfl 1 (by decide) (hts _ qaOf) (fun _ h9 => h9) rfl (qaa qp2 11 rfl) ?_
    refine lv_aload_n hx hb (qaa qp2 12 rfl) rfl (lv_at hl 0 rfl) ?_
    refine va_get (D := (dC, dI)) (ci := 9) (v := .int jb7) (C := RX9) (T := TX9) (N := 12) hx hb hts qt9 hown hK hP 0 rfl rfl 6 (by decide) (hts _ qzs) (fun _ h9 => h9) rfl (qaa qp2 13 rfl) ?_
    refine lv_iload_n hx hb (qaa qp2 14 rfl) rfl (lv_at hl 2 rfl) ?_
    obtain ⟨hi9, hw⟩ := hw
    refine va_iast hx hb hK hP hD hS 2 1 rfl rfl hi9 (qaa qp2 15 rfl) (fun H locs hP hD hS => ?_)
    obtain ⟨f3, ef3⟩ : ∃ y : NI, y = upd jiX jb7.toNatClampNeg p2 := ⟨_, rfl⟩
    have hw := hw f3 ef3
    have hP : va_P (dC, dI) vwCl (qLJ a0 jbU jgC jgh jho jme jkw jb7 joE ja4 ja0 jaG jaF jbU cyI f2 jgC cyI f3 jgh cyI jiF jho cyI jjg) H := by rw [ef3]; exact hP
    have hD : va_D A (qLJ a0 jbU jgC jgh jho jme jkw jb7 joE ja4 ja0 jaG jaF jbU cyI f2 jgC cyI f3 jgh cyI jiF jho cyI jjg) := by rw [ef3]; exact hD
    refine lv_aload_n hx hb (qaa qok 0 rfl) rfl (lv_at hl 0 rfl) ?_
    refine va_get (D := (dC, dI)) (ci := 9) (v := .ref jgh) (C := RX9) (T := TX9) (N := 12) hx hb hts qt9 hown hK hP 0 rfl rfl 2 (by decide) (hts _ qaRR) (fun _ h9 => h9) rfl (qaa qok 1 rfl) ?_
    refine lv_aload_n hx hb (qaa qok 2 rfl) rfl (lv_at hl 0 rfl) ?_
    refine va_get (D := (dC, dI)) (ci := 9) (v := .int jb7) (C := RX9) (T := TX9) (N := 12) hx hb hts qt9 hown hK hP 0 rfl rfl 6 (by decide) (hts _ qzs) (fun _ h9 => h9) rfl (qaa qok 3 rfl) ?_
    refine lv_iload_n hx hb (qaa qok 4 rfl) rfl (lv_at hl 3 rfl) ?_
    obtain ⟨hi9, hw⟩ := hw
    refine va_iast hx hb hK hP hD hS 3 1 rfl rfl hi9 (qaa qok 5 rfl) (fun H locs hP hD hS => ?_)
    obtain ⟨f4, ef4⟩ : ∃ y : NI, y = upd jiF jb7.toNatClampNeg p3 := ⟨_, rfl⟩
    have hw := hw f4 ef4
    have hP : va_P (dC, dI) vwCl (qLJ a0 jbU jgC jgh jho jme jkw jb7 joE ja4 ja0 jaG jaF jbU cyI f2 jgC cyI f3 jgh cyI f4 jho cyI jjg) H := by rw [ef4]; exact hP
    have hD : va_D A (qLJ a0 jbU jgC jgh jho jme jkw jb7 joE ja4 ja0 jaG jaF jbU cyI f2 jgC cyI f3 jgh cyI f4 jho cyI jjg) := by rw [ef4]; exact hD
    refine lv_aload_n hx hb (qaa qok 6 rfl) rfl (lv_at hl 0 rfl) ?_
    refine va_get (D := (dC, dI)) (ci := 9) (v := .ref jho) (C := RX9) (T := TX9) (N := 12) hx hb hts qt9 hown hK hP 0 rfl rfl 3 (by decide) (hts _ qaP1) (fun _ h9 => h9) rfl (qaa qok 7 rfl) ?_
    refine lv_aload_n hx hb (qaa qok 8 rfl) rfl (lv_at hl 0 rfl) ?_
    refine va_get (D := (dC, dI)) (ci := 9) (v := .int jb7) (C := RX9) (T := TX9) (N := 12) hx hb hts qt9 hown hK hP 0 rfl rfl 6 (by decide) (hts _ qzs) (fun _ h9 => h9) rfl (qaa qok 9 rfl) ?_
    refine lv_iload hx hb (qaa qok 10 rfl) (lv_at hl 4 rfl) ?_
    obtain ⟨hi9, hw⟩ := hw
    refine va_iast hx hb hK hP hD hS 4 1 rfl rfl hi9 (qaa qok 11 rfl) (fun H locs hP hD hS => ?_)
    obtain ⟨f5, ef5⟩ : ∃ y : NI, y = upd jjg jb7.toNatClampNeg p4 := ⟨_, rfl⟩
    have hw := hw f5 ef5
    have hP : va_P (dC, dI) vwCl (qLJ a0 jbU jgC jgh jho jme jkw jb7 joE ja4 ja0 jaG jaF jbU cyI f2 jgC cyI f3 jgh cyI f4 jho cyI f5) H := by rw [ef5]; exact hP
    have hD : va_D A (qLJ a0 jbU jgC jgh jho jme jkw jb7 joE ja4 ja0 jaG jaF jbU cyI f2 jgC cyI f3 jgh cyI f4 jho cyI f5) := by rw [ef5]; exact hD
    refine lv_aload_n hx hb (qaa qok 12 rfl) rfl (lv_at hl 0 rfl) ?_
    refine lv_dup hx hb (qaa qok 13 rfl) rfl ?_
    refine va_get (D := (dC, dI)) (ci := 9) (v := .int jb7) (C := RX9) (T := TX9) (N := 12) hx hb hts qt9 hown hK hP 0 rfl rfl 6 (by decide) (hts _ qzs) (fun _ h9 => h9) rfl (qaa qok 14 rfl) ?_
    refine lv_iconst (v := 1) hx hb (qaa qok 15 rfl) (by decide) ?_
    refine lv_iadd hx hb (qaa qSR 0 rfl) ?_
    refine lv_topi (fun x6 ex6 => ?_)
    have hw := hw x6 ex6
    refine va_put (D := (dC, dI)) (ci := 9) (v := .int x6) (ty := .int) (C := RX9) (T := TX9) (N := 12) hx hb hts qt9 tyX9 tyX9_ok nmX9 hown hK hP hD hS 0 rfl rfl 6 (by decide) (hts _ qzs) (fun _ h9 => h9) rfl (by decide +kernel) rfl rfl (nbq rfl) (qaa qSR 1 rfl) (fun H locs hP hD hS => ?_)
    have hP : va_P (dC, dI) vwCl (qLJ a0 jbU jgC jgh jho jme jkw x6 joE ja4 ja0 jaG jaF jbU cyI f2 jgC cyI f3 jgh cyI f4 jho cyI f5) H := hP
    have hD : va_D A (qLJ a0 jbU jgC jgh jho jme jkw x6 joE ja4 ja0 jaG jaF jbU cyI f2 jgC cyI f3 jgh cyI f4 jho cyI f5) := hD
    exact ((W.vret hx hb hr (fun t ht hW => ⟨⟨(f2, f3, f4, f5, x6), rfl, hw, by rw [ht]; exact hP, va_K.moved hW.alike hK, hD⟩, hS.F ht⟩) hS.2.2 (qaa qSR 2 rfl)))
theorem qur : ∀ w ∈ u_ws RX9 TX9 12, w ∈ wsX9_closeLoop := uiM qxy euX9 (by decide +kernel)
theorem qabA : (.fieldLink RX9 18 "MarchHares$Work" "second" "[I" : Cond) ∈ wsX9_closeLoop := qxy 268 (by decide +kernel)
theorem qaak : (.fieldLink RX9 24 "MarchHares$Work" "heads" "[I" : Cond) ∈ wsX9_closeLoop := qxy 270 (by decide +kernel)
theorem q88 : (.fieldLink RX9 37 "MarchHares$Work" "length" "I" : Cond) ∈ wsX9_closeLoop := qxy 1606 (by decide +kernel)
theorem qFB : (.fieldLink RX9 40 "MarchHares$Work" "open" "I" : Cond) ∈ wsX9_closeLoop := qxy 1607 (by decide +kernel)
set_option maxHeartbeats 4000000 in
set_option maxRecDepth 100000 in
theorem qSq {p : Program} {l : Launch} {e : Env} {s : State} {m : MethodId} {args : Array Value} {below : List Frame} {meth : Method} {c : Code} {A : Nat → Prop} (dC : Nat → ClassId) (dI : Nat → Nat → Nat) (cyB cyI cyJ cyP : ClassId) (a0 jju jgh jbU jgC jho : Nat) (jkw ja4 ja0 jaG jaF : Value) (jlb : NI) (Q : Int32 → NI → NI → NI → NI → Int32 → Prop) (C0 : cfx p s m args meth c cX9_closeLoop none wsX9_closeLoop RX9 2 A (dC, dI) (kT cyB cyI cyJ cyP)) : ∀ (H : Heap) (locs : List Loc) (ls : Array Slot) (jjF : Int32) (jiF jdC jiX jjg : NI) (jb7 l1 : Int32), va_P (dC, dI) vwCl (qLk a0 jbU jgC jgh jho jju jkw jb7 jjF ja4 ja0 jaG jaF jju cyI jlb jgh cyI jiF jbU cyI jdC jgC cyI jiX jho cyI jjg) H → va_D A (qLk a0 jbU jgC jgh jho jju jkw jb7 jjF ja4 ja0 jaG jaF jju cyI jlb jgh cyI jiF jbU cyI jdC jgC cyI jiX jho cyI jjg) → va_S A s.heap H locs → lv_has ls 2 [(0, .ref a0), (1, .int l1)] → qG3 jlb Q jjF jiF jdC jiX jjg jb7 l1 → W p l e (headSpec wsX9_closeLoop ({ frames := 1, cells := 0, slots := 0, locals := 24 })).room s m args below meth c H locs 0 0 (MQ below (va_Qv (fun (u : Int32 × NI × NI × NI × NI × Int32) => Q u.1 u.2.1 u.2.2.1 u.2.2.2.1 u.2.2.2.2.1 u.2.2.2.2.2) (cB (dC, dI) (kT cyB cyI cyJ cyP) A (fun u : Int32 × NI × NI × NI × NI × Int32 => ((qLk a0 jbU jgC jgh jho jju jkw u.2.2.2.2.2 u.1 ja4 ja0 jaG jaF jju cyI jlb jgh cyI u.2.1 jbU cyI u.2.2.1 jgC cyI u.2.2.2.1 jho cyI u.2.2.2.2.1) : va_W))) A) args s 0 0 A) (F0 m 36 ls []) := by
  obtain ⟨hx, hb, hr, hts, hown, hlocks, hml, hA, hK, hNw⟩ := id C0
  intro H locs ls jjF jiF jdC jiX jjg jb7 l1 hP hD hS hl hw
  refine lv_aload_n hx hb (qaa qij 5 rfl) rfl (lv_at hl 0 rfl) ?_
  refine lv_iconst (v := 5) hx hb (qaa qij 6 rfl) (by decide) ?_
  refine lv_iload_n hx hb (qaa qij 7 rfl) rfl (lv_at hl 1 rfl) ?_
  refine lv_iconst (v := 0) hx hb (qaa qij 8 rfl) (by decide) ?_
  refine lv_iconst (v := 0) hx hb (qaa qij 9 rfl) (by decide) ?_
  obtain ⟨hCc, hPc, hDc, hFc⟩ := qac (ws' := (qa0w a0 jbU jgC jgh jho jju jkw jb7 jjF ja4 ja0 jaG jaF jbU cyI jdC jgC cyI jiX jgh cyI jiF jho cyI jjg)) hP hD hS hA [0, 3, 4, 2, 5] (by decide +kernel) rfl
  refine va_callv (va_runV (As := [.int 5, .int l1, .int 0, .int 0]) (rest := []) ⟨hx, hb, hml, hown, hts⟩ (qVv l dC dI cyB cyI cyJ cyP a0 jbU jgC jgh jho H.size (.ref jju) (jkw) (.int jjF) (ja4) (ja0) (jaG) (jaF) jdC jiX jiF jjg jb7 5 l1 0 0 hw) (cwV 4 hts gX9_closeLoop_X9_add rfl rfl rfl (by decide +kernel) ⟨nbq rfl, nbq rfl⟩) ⟨qab, va_recv (q := (RX9, TX9, 12)) hK hPc (ci := 9) (q0 := 0) rfl rfl, qae hPc hK hDc hNw⟩ rfl rfl hl.1 rfl (lv_room (nbq rfl)) (qaa qij 10 rfl) ⟨nbq rfl, nbq rfl⟩) hS (fun q _ h => hFc q h) hFc (fun u t H1 locs ht hvm hw hB hz1 hk1 hS => ?_)
  obtain ⟨f5, f6, f7, f8, x9⟩ := u
  obtain ⟨hP1, hK1, hD1⟩ := hB
  rw [ht] at hP1
  obtain ⟨hP, hD⟩ := qad (wr := (qa6W jju cyI jlb)) (w1 := (qa0w a0 jbU jgC jgh jho jju jkw x9 jjF ja4 ja0 jaG jaF jbU cyI f5 jgC cyI f6 jgh cyI f7 jho cyI f8)) (wn := (qLk a0 jbU jgC jgh jho jju jkw x9 jjF ja4 ja0 jaG jaF jju cyI jlb jgh cyI f7 jbU cyI f5 jgC cyI f6 jho cyI f8)) hP hD [0, 3, 4, 2, 5] [1] [1, 0, 4, 2, 3, 5] hCc rfl (by decide +kernel) (by decide +kernel) (by decide +kernel) rfl hk1 hFc hP1 hD1
  generalize H1 = H at hP hS ⊢
  exact ((W.vret hx hb hr (fun t ht hW => ⟨⟨(jjF, f7, f5, f6, f8, x9), rfl, hw, by rw [ht]; exact hP, va_K.moved hW.alike hK, hD⟩, hS.F ht⟩) hS.2.2 (qaa qij 11 rfl)))
set_option maxHeartbeats 4000000 in
set_option maxRecDepth 100000 in
theorem qaEj (l : Launch) (dC : Nat → ClassId) (dI : Nat → Nat → Nat) (cyB cyI cyJ cyP : ClassId) (a0 jju jgh jbU jgC jho sz : Nat) (jkw ja4 ja0 jaG jaF : Value) (jlb : NI) (jjF : Int32) (jiF jdC jiX jjg : NI) (jb7 : Int32) {Q : Int32 → NI → NI → NI → NI → Int32 → Prop} (hw : q3w jlb jjF jiF jdC jiX jjg jb7 Q) : Met l yX9_closeLoop wsX9_closeLoop ({ frames := 1, cells := 0, slots := 0, locals := 24 }) (va_Pc [.ref a0] (cPc (dC, dI) (kT cyB cyI cyJ cyP) (qLk a0 jbU jgC jgh jho jju jkw jb7 jjF ja4 ja0 jaG jaF jju cyI jlb jgh cyI jiF jbU cyI jdC jgC cyI jiX jho cyI jjg) sz)) (va_Qv (fun (u : Int32 × NI × NI × NI × NI × Int32) => Q u.1 u.2.1 u.2.2.1 u.2.2.2.1 u.2.2.2.2.1 u.2.2.2.2.2) (cB (dC, dI) (kT cyB cyI cyJ cyP) (va_A (qLk a0 jbU jgC jgh jho jju jkw jb7 jjF ja4 ja0 jaG jaF jju cyI jlb jgh cyI jiF jbU cyI jdC jgC cyI jiX jho cyI jjg) sz) (fun u : Int32 × NI × NI × NI × NI × Int32 => ((qLk a0 jbU jgC jgh jho jju jkw u.2.2.2.2.2 u.1 ja4 ja0 jaG jaF jju cyI jlb jgh cyI u.2.1 jbU cyI u.2.2.1 jgC cyI u.2.2.2.1 jho cyI u.2.2.2.2.1) : va_W))) (va_A (qLk a0 jbU jgC jgh jho jju jkw jb7 jjF ja4 ja0 jaG jaF jju cyI jlb jgh cyI jiF jbU cyI jdC jgC cyI jiX jho cyI jjg) sz)) 0 0 (va_A (qLk a0 jbU jgC jgh jho jju jkw jb7 jjF ja4 ja0 jaG jaF jju cyI jlb jgh cyI jiF jbU cyI jdC jgC cyI jiX jho cyI jjg) sz) := by
  refine Met.ofW (cc := cX9_closeLoop) (maxL := 2) (ret := none) (by decide) rfl ?_
  intro p e s m args below meth c s₁ B hml hv
  obtain ⟨rfl, hsz, hP, hK, hD0, hNw⟩ := hv
  have hx := B.exec
  have hb := B.bytes
  have hr := B.returns
  have hts := atoms_spec (ws := wsX9_closeLoop) B.pre
  have hown : s.vm.findClass RX9 = some m.cls := findClass_of_methodNamed B.named
  have hlocks := B.notSynchronized
  subst hsz
  have hD := hD0.self (sz := s.heap.size)
  generalize hAe : va_A (qLk a0 jbU jgC jgh jho jju jkw jb7 jjF ja4 ja0 jaG jaF jju cyI jlb jgh cyI jiF jbU cyI jdC jgC cyI jiX jho cyI jjg) s.heap.size = A at hD ⊢
  have hA : ∀ q : Nat, s.heap.size ≤ q → A q := fun q h => by rw [← hAe]; exact Or.inr h
  have hS : va_S A s.heap s.heap [] := va_S.rf
  have hP : va_P (dC, dI) vwCl (qLk a0 jbU jgC jgh jho jju jkw jb7 jjF ja4 ja0 jaG jaF jju cyI jlb jgh cyI jiF jbU cyI jdC jgC cyI jiX jho cyI jjg) s.heap := hP
  have hl := lv_entry ([.ref a0]) (n := 2) (nbq rfl)
  rw [lg_entry_eq]
  generalize (lg_sl ([.ref a0]) ++ List.replicate (2 - (lg_sl ([.ref a0])).length) Slot.unset).toArray = ls at hl ⊢
  have hl : lv_has ls 2 [(0, .ref a0)] := hl
  have C0 : cfx p s m _ meth c cX9_closeLoop none wsX9_closeLoop RX9 2 A (dC, dI) (kT cyB cyI cyJ cyP) := ⟨hx, hb, hr, hts, hown, hlocks, hml, hA, hK, hNw⟩
  clear hAe
  obtain ⟨H, hH⟩ : ∃ H, H = s.heap := ⟨_, rfl⟩
  rw [← hH] at hP ⊢
  have hS : va_S A s.heap H [] := by rw [hH]; exact va_S.rf
  have hS := hS
  refine lv_aload_n hx hb (qaa qeb 0 rfl) rfl (lv_at hl 0 rfl) ?_
  refine lv_dup hx hb (qaa qeb 1 rfl) rfl ?_
  refine va_get (D := (dC, dI)) (ci := 9) (v := .int jjF) (C := RX9) (T := TX9) (N := 12) hx hb hts qur hown hK hP 0 rfl rfl 7 (by decide) (hts _ qFB) (fun _ h9 => h9) rfl (qaa qeb 2 rfl) ?_
  refine lv_iconst (v := 1) hx hb (qaa qeb 3 rfl) (by decide) ?_
  refine lv_isub hx hb (qaa qeb 4 rfl) ?_
  refine lv_topi (fun x1 ex1 => ?_)
  have hw := hw x1 ex1
  refine va_put (D := (dC, dI)) (ci := 9) (v := .int x1) (ty := .int) (C := RX9) (T := TX9) (N := 12) hx hb hts qur tyX9 tyX9_ok nmX9 hown hK hP hD hS 0 rfl rfl 7 (by decide) (hts _ qFB) (fun _ h9 => h9) rfl (by decide +kernel) rfl rfl (nbq rfl) (qaa qeb 5 rfl) (fun H locs hP hD hS => ?_)
  have hP : va_P (dC, dI) vwCl (qLk a0 jbU jgC jgh jho jju jkw jb7 x1 ja4 ja0 jaG jaF jju cyI jlb jgh cyI jiF jbU cyI jdC jgC cyI jiX jho cyI jjg) H := hP
  have hD : va_D A (qLk a0 jbU jgC jgh jho jju jkw jb7 x1 ja4 ja0 jaG jaF jju cyI jlb jgh cyI jiF jbU cyI jdC jgC cyI jiX jho cyI jjg) := hD
  refine lv_aload_n hx hb (qaa qeb 6 rfl) rfl (lv_at hl 0 rfl) ?_
  refine va_get (D := (dC, dI)) (ci := 9) (v := .ref jju) (C := RX9) (T := TX9) (N := 12) hx hb hts qur hown hK hP 0 rfl rfl 4 (by decide) (hts _ qaak) (fun _ h9 => h9) rfl (qaa qeb 7 rfl) ?_
  refine lv_aload_n hx hb (qaa qeb 8 rfl) rfl (lv_at hl 0 rfl) ?_
  refine va_get (D := (dC, dI)) (ci := 9) (v := .int x1) (C := RX9) (T := TX9) (N := 12) hx hb hts qur hown hK hP 0 rfl rfl 7 (by decide) (hts _ qFB) (fun _ h9 => h9) rfl (qaa qeb 9 rfl) ?_
  obtain ⟨hi9, hw⟩ := hw
  refine va_iald hx hb hK hP 1 1 rfl rfl hi9 (qaa qeb 10 rfl) ?_
  refine lv_topi (fun x2 ex2 => ?_)
  have hw := hw x2 ex2
  refine lv_istore_n (lv' := [(1, .int x2), (0, .ref a0)]) hx hb (qaa qeb 11 rfl) rfl hl (by decide) rfl (fun ls hl => ?_)
  refine lv_iload_n hx hb (qaa qeb 12 rfl) rfl (lv_at hl 0 rfl) ?_
  refine lv_bipush (v := 50) hx hb (qaa qeb 13 rfl) (by decide) ?_
  refine lv_icmp_ge (tgt := 36) hx hb (qaa qeb 14 rfl) (by decide) (fun c3 => ?_) (fun c3 => ?_)
  · have hw := hw.1 c3
    exact qSq dC dI cyB cyI cyJ cyP a0 jju jgh jbU jgC jho jkw ja4 ja0 jaG jaF jlb Q C0 _ _ _ x1 jiF jdC jiX jjg jb7 x2 hP hD hS (lv_sub hl [1, 0] rfl) hw
  · have hw := hw.2 c3
    refine lv_aload_n hx hb (qaa qeb 15 rfl) rfl (lv_at hl 1 rfl) ?_
    refine va_get (D := (dC, dI)) (ci := 9) (v := .ref jgh) (C := RX9) (T := TX9) (N := 12) hx hb hts qur hown hK hP 0 rfl rfl 2 (by decide) (hts _ qabA) (fun _ h9 => h9) rfl (qaa qij 0 rfl) ?_
    refine lv_iload_n hx hb (qaa qij 1 rfl) rfl (lv_at hl 0 rfl) ?_
    refine lv_aload_n hx hb (qaa qij 2 rfl) rfl (lv_at hl 1 rfl) ?_
    refine va_get (D := (dC, dI)) (ci := 9) (v := .int jb7) (C := RX9) (T := TX9) (N := 12) hx hb hts qur hown hK hP 0 rfl rfl 6 (by decide) (hts _ q88) (fun _ h9 => h9) rfl (qaa qij 3 rfl) ?_
    obtain ⟨hi9, hw⟩ := hw
    refine va_iast hx hb hK hP hD hS 2 1 rfl rfl hi9 (qaa qij 4 rfl) (fun H locs hP hD hS => ?_)
    obtain ⟨f4, ef4⟩ : ∃ y : NI, y = upd jiF x2.toNatClampNeg jb7 := ⟨_, rfl⟩
    have hw := hw f4 ef4
    have hP : va_P (dC, dI) vwCl (qLk a0 jbU jgC jgh jho jju jkw jb7 x1 ja4 ja0 jaG jaF jju cyI jlb jgh cyI f4 jbU cyI jdC jgC cyI jiX jho cyI jjg) H := by rw [ef4]; exact hP
    have hD : va_D A (qLk a0 jbU jgC jgh jho jju jkw jb7 x1 ja4 ja0 jaG jaF jju cyI jlb jgh cyI f4 jbU cyI jdC jgC cyI jiX jho cyI jjg) := by rw [ef4]; exact hD
    exact qSq dC dI cyB cyI cyJ cyP a0 jju jgh jbU jgC jho jkw ja4 ja0 jaG jaF jlb Q C0 _ _ _ x1 f4 jdC jiX jjg jb7 x2 hP hD hS (lv_sub hl [1, 0] rfl) hw
theorem qvH : ∀ w ∈ u_ws RX9 TX9 12, w ∈ wsX9_openLoop := uiM qqQ euX9 (by decide +kernel)
theorem qadW : (.fieldLink RX9 24 "MarchHares$Work" "heads" "[I" : Cond) ∈ wsX9_openLoop := qqQ 270 (by decide +kernel)
theorem qah4 : (.fieldLink RX9 37 "MarchHares$Work" "length" "I" : Cond) ∈ wsX9_openLoop := qqQ 1606 (by decide +kernel)
theorem qBn : (.fieldLink RX9 40 "MarchHares$Work" "open" "I" : Cond) ∈ wsX9_openLoop := qqQ 1607 (by decide +kernel)
set_option maxHeartbeats 4000000 in
set_option maxRecDepth 100000 in
theorem qaIb (l : Launch) (dC : Nat → ClassId) (dI : Nat → Nat → Nat) (cyB cyI cyJ cyP : ClassId) (a0 a1 jbF jju jbU jgC jgh jho sz : Nat) (jkw ja4 ja0 jaG jaF jcI : Value) (jb3 : Int32) (jcq : NI) (jhR jcU jbM jeF : Int32) (jlb : NI) (jjF : Int32) (jdC jiX jiF jjg : NI) (jb7 : Int32) {Q : Int32 → Int32 → Int32 → Int32 → NI → Int32 → NI → NI → NI → NI → Int32 → Prop} (hw : q8b jb3 jcq jhR jcU jbM jeF jlb jjF jdC jiX jiF jjg jb7 Q) : Met l yX9_openLoop wsX9_openLoop ({ frames := 3, cells := 0, slots := 0, locals := 63 }) (va_Pc [.ref a0, .ref a1] (cPc (dC, dI) (kT cyB cyI cyJ cyP) (qFy a0 jbU jgC jgh jho jju jkw jb7 jjF ja4 ja0 jaG jaF a1 jbF jb3 jhR jeF jcI jcU jbM jbF cyB jcq jju cyI jlb jbU cyI jdC jgC cyI jiX jgh cyI jiF jho cyI jjg) sz)) (va_Qv (fun (u : Int32 × Int32 × Int32 × Int32 × NI × Int32 × NI × NI × NI × NI × Int32) => Q u.1 u.2.1 u.2.2.1 u.2.2.2.1 u.2.2.2.2.1 u.2.2.2.2.2.1 u.2.2.2.2.2.2.1 u.2.2.2.2.2.2.2.1 u.2.2.2.2.2.2.2.2.1 u.2.2.2.2.2.2.2.2.2.1 u.2.2.2.2.2.2.2.2.2.2) (cB (dC, dI) (kT cyB cyI cyJ cyP) (va_A (qFy a0 jbU jgC jgh jho jju jkw jb7 jjF ja4 ja0 jaG jaF a1 jbF jb3 jhR jeF jcI jcU jbM jbF cyB jcq jju cyI jlb jbU cyI jdC jgC cyI jiX jgh cyI jiF jho cyI jjg) sz) (fun u : Int32 × Int32 × Int32 × Int32 × NI × Int32 × NI × NI × NI × NI × Int32 => ((qFy a0 jbU jgC jgh jho jju jkw u.2.2.2.2.2.2.2.2.2.2 u.2.2.2.2.2.1 ja4 ja0 jaG jaF a1 jbF jb3 u.1 u.2.2.2.1 jcI u.2.1 u.2.2.1 jbF cyB jcq jju cyI u.2.2.2.2.1 jbU cyI u.2.2.2.2.2.2.1 jgC cyI u.2.2.2.2.2.2.2.1 jgh cyI u.2.2.2.2.2.2.2.2.1 jho cyI u.2.2.2.2.2.2.2.2.2.1) : va_W))) (va_A (qFy a0 jbU jgC jgh jho jju jkw jb7 jjF ja4 ja0 jaG jaF a1 jbF jb3 jhR jeF jcI jcU jbM jbF cyB jcq jju cyI jlb jbU cyI jdC jgC cyI jiX jgh cyI jiF jho cyI jjg) sz)) 0 0 (va_A (qFy a0 jbU jgC jgh jho jju jkw jb7 jjF ja4 ja0 jaG jaF a1 jbF jb3 jhR jeF jcI jcU jbM jbF cyB jcq jju cyI jlb jbU cyI jdC jgC cyI jiX jgh cyI jiF jho cyI jjg) sz) := by
  refine Met.ofW (cc := cX9_openLoop) (maxL := 3) (ret := none) (by decide) rfl ?_
  intro p e s m args below meth c s₁ B hml hv
  obtain ⟨rfl, hsz, hP, hK, hD0, hNw⟩ := hv
  have hx := B.exec
  have hb := B.bytes
  have hr := B.returns
  have hts := atoms_spec (ws := wsX9_openLoop) B.pre
  have hown : s.vm.findClass RX9 = some m.cls := findClass_of_methodNamed B.named
  have hlocks := B.notSynchronized
  subst hsz
  have hD := hD0.self (sz := s.heap.size)
  generalize hAe : va_A (qFy a0 jbU jgC jgh jho jju jkw jb7 jjF ja4 ja0 jaG jaF a1 jbF jb3 jhR jeF jcI jcU jbM jbF cyB jcq jju cyI jlb jbU cyI jdC jgC cyI jiX jgh cyI jiF jho cyI jjg) s.heap.size = A at hD ⊢
  have hA : ∀ q : Nat, s.heap.size ≤ q → A q := fun q h => by rw [← hAe]; exact Or.inr h
  have hS : va_S A s.heap s.heap [] := va_S.rf
  have hP : va_P (dC, dI) vwCl (qFy a0 jbU jgC jgh jho jju jkw jb7 jjF ja4 ja0 jaG jaF a1 jbF jb3 jhR jeF jcI jcU jbM jbF cyB jcq jju cyI jlb jbU cyI jdC jgC cyI jiX jgh cyI jiF jho cyI jjg) s.heap := hP
  have hl := lv_entry ([.ref a0, .ref a1]) (n := 3) (nbq rfl)
  rw [lg_entry_eq]
  generalize (lg_sl ([.ref a0, .ref a1]) ++ List.replicate (3 - (lg_sl ([.ref a0, .ref a1])).length) Slot.unset).toArray = ls at hl ⊢
  have hl : lv_has ls 3 [(0, .ref a0), (1, .ref a1)] := hl
  have C0 : cfx p s m _ meth c cX9_openLoop none wsX9_openLoop RX9 3 A (dC, dI) (kT cyB cyI cyJ cyP) := ⟨hx, hb, hr, hts, hown, hlocks, hml, hA, hK, hNw⟩
  clear hAe
  obtain ⟨H, hH⟩ : ∃ H, H = s.heap := ⟨_, rfl⟩
  rw [← hH] at hP ⊢
  have hS : va_S A s.heap H [] := by rw [hH]; exact va_S.rf
  have hS := hS
  refine lv_aload_n hx hb (qaa qfE 0 rfl) rfl (lv_at hl 0 rfl) ?_
  refine va_get (D := (dC, dI)) (ci := 9) (v := .int jjF) (C := RX9) (T := TX9) (N := 12) hx hb hts qvH hown hK hP 0 rfl rfl 7 (by decide) (hts _ qBn) (fun _ h9 => h9) rfl (qaa qfE 1 rfl) ?_
  refine lv_bipush (v := 6) hx hb (qaa qfE 2 rfl) (by decide) ?_
  refine lv_icmp_lt (tgt := 15) hx hb (qaa qfE 3 rfl) (by decide) (fun c1 => ?_) (fun c1 => ?_)
  · have hw := hw.1 c1
    refine lv_aload_n hx hb (qaa qfE 8 rfl) rfl (lv_at hl 1 rfl) ?_
    refine lv_iconst (v := 0) hx hb (qaa qfE 9 rfl) (by decide) ?_
    refine lv_bipush (v := 40) hx hb (qaa qfE 10 rfl) (by decide) ?_
    obtain ⟨hCc, hPc, hDc, hFc⟩ := qac (ws' := (qaMo a1 jbF jb3 jhR jeF jcI jcU jbM jbF cyB jcq)) hP hD hS hA [1, 2] (by decide +kernel) rfl
    refine va_calli (va_runV (As := [.int 0, .int 40]) (rest := []) ⟨hx, hb, hml, hown, hts⟩ (qia l dC dI cyB cyI cyJ cyP a1 jbF H.size (jcI) jb3 jcq jhR jcU jbM jeF 0 40 hw) (cwV 2 hts gX9_openLoop_X8_number rfl rfl rfl (by decide +kernel) ⟨nbq rfl, nbq rfl⟩) ⟨qab, va_recv (q := (RX8, TX8, 7)) hK hPc (ci := 8) (q0 := 0) rfl rfl, qae hPc hK hDc hNw⟩ rfl rfl hl.1 rfl (lv_room (nbq rfl)) (qaa qfE 11 rfl) ⟨nbq rfl, nbq rfl⟩) hS (fun q _ h => hFc q h) hFc (fun r6 u t H1 locs ht hvm hw hB hz1 hk1 hS => ?_)
    obtain ⟨x2, x3, x4, x5⟩ := u
    obtain ⟨hP1, hK1, hD1⟩ := hB
    rw [ht] at hP1
    obtain ⟨hP, hD⟩ := qad (wr := (qLk a0 jbU jgC jgh jho jju jkw jb7 jjF ja4 ja0 jaG jaF jju cyI jlb jbU cyI jdC jgC cyI jiX jgh cyI jiF jho cyI jjg)) (w1 := (qaMo a1 jbF jb3 x2 x5 jcI x3 x4 jbF cyB jcq)) (wn := (qFy a0 jbU jgC jgh jho jju jkw jb7 jjF ja4 ja0 jaG jaF a1 jbF jb3 x2 x5 jcI x3 x4 jbF cyB jcq jju cyI jlb jbU cyI jdC jgC cyI jiX jgh cyI jiF jho cyI jjg)) hP hD [1, 2] [0, 3, 4, 5, 6, 7] [0, 6, 7, 1, 2, 3, 4, 5] hCc rfl (by decide +kernel) (by decide +kernel) (by decide +kernel) rfl hk1 hFc hP1 hD1
    generalize H1 = H at hP hS ⊢
    refine lv_istore_n (lv' := [(2, .int r6), (0, .ref a0), (1, .ref a1)]) hx hb (qaa qfE 12 rfl) rfl hl (by decide) rfl (fun ls hl => ?_)
    refine lv_aload_n hx hb (qaa qfE 13 rfl) rfl (lv_at hl 2 rfl) ?_
    refine lv_bipush (v := 91) hx hb (qaa qfE 14 rfl) (by decide) ?_
    obtain ⟨hCc, hPc, hDc, hFc⟩ := qac (ws' := (qaMo a1 jbF jb3 x2 x5 jcI x3 x4 jbF cyB jcq)) hP hD hS hA [1, 2] (by decide +kernel) rfl
    refine va_callv (va_runV (As := [.int 91]) (rest := []) ⟨hx, hb, hml, hown, hts⟩ (qsY l dC dI cyB cyI cyJ cyP a1 jbF H.size (jcI) jb3 jcq x2 x5 x3 x4 91 hw) (cwV 1 hts gX9_openLoop_X8_needs rfl rfl rfl (by decide +kernel) ⟨nbq rfl, nbq rfl⟩) ⟨qab, va_recv (q := (RX8, TX8, 7)) hK hPc (ci := 8) (q0 := 0) rfl rfl, qae hPc hK hDc hNw⟩ rfl rfl hl.1 rfl (lv_room (nbq rfl)) (qaa qfE 15 rfl) ⟨nbq rfl, nbq rfl⟩) hS (fun q _ h => hFc q h) hFc (fun u t H1 locs ht hvm hw hB hz1 hk1 hS => ?_)
    obtain ⟨x7, x8, x9, x10⟩ := u
    obtain ⟨hP1, hK1, hD1⟩ := hB
    rw [ht] at hP1
    obtain ⟨hP, hD⟩ := qad (wr := (qLk a0 jbU jgC jgh jho jju jkw jb7 jjF ja4 ja0 jaG jaF jju cyI jlb jbU cyI jdC jgC cyI jiX jgh cyI jiF jho cyI jjg)) (w1 := (qaMo a1 jbF jb3 x7 x8 jcI x9 x10 jbF cyB jcq)) (wn := (qFy a0 jbU jgC jgh jho jju jkw jb7 jjF ja4 ja0 jaG jaF a1 jbF jb3 x7 x8 jcI x9 x10 jbF cyB jcq jju cyI jlb jbU cyI jdC jgC cyI jiX jgh cyI jiF jho cyI jjg)) hP hD [1, 2] [0, 3, 4, 5, 6, 7] [0, 6, 7, 1, 2, 3, 4, 5] hCc rfl (by decide +kernel) (by decide +kernel) (by decide +kernel) rfl hk1 hFc hP1 hD1
    generalize H1 = H at hP hS ⊢
    refine lv_aload_n hx hb (qaa qeh 0 rfl) rfl (lv_at hl 1 rfl) ?_
    refine va_get (D := (dC, dI)) (ci := 9) (v := .ref jju) (C := RX9) (T := TX9) (N := 12) hx hb hts qvH hown hK hP 0 rfl rfl 4 (by decide) (hts _ qadW) (fun _ h9 => h9) rfl (qaa qeh 1 rfl) ?_
    refine lv_aload_n hx hb (qaa qeh 2 rfl) rfl (lv_at hl 1 rfl) ?_
    refine va_get (D := (dC, dI)) (ci := 9) (v := .int jjF) (C := RX9) (T := TX9) (N := 12) hx hb hts qvH hown hK hP 0 rfl rfl 7 (by decide) (hts _ qBn) (fun _ h9 => h9) rfl (qaa qeh 3 rfl) ?_
    refine lv_aload_n hx hb (qaa qeh 4 rfl) rfl (lv_at hl 1 rfl) ?_
    refine va_get (D := (dC, dI)) (ci := 9) (v := .int jb7) (C := RX9) (T := TX9) (N := 12) hx hb hts qvH hown hK hP 0 rfl rfl 6 (by decide) (hts _ qah4) (fun _ h9 => h9) rfl (qaa qeh 5 rfl) ?_
    obtain ⟨hi9, hw⟩ := hw
    refine va_iast hx hb hK hP hD hS 3 1 rfl rfl hi9 (qaa qeh 6 rfl) (fun H locs hP hD hS => ?_)
    obtain ⟨f11, ef11⟩ : ∃ y : NI, y = upd jlb jjF.toNatClampNeg jb7 := ⟨_, rfl⟩
    have hw := hw f11 ef11
    have hP : va_P (dC, dI) vwCl (qFy a0 jbU jgC jgh jho jju jkw jb7 jjF ja4 ja0 jaG jaF a1 jbF jb3 x7 x8 jcI x9 x10 jbF cyB jcq jju cyI f11 jbU cyI jdC jgC cyI jiX jgh cyI jiF jho cyI jjg) H := by rw [ef11]; exact hP
    have hD : va_D A (qFy a0 jbU jgC jgh jho jju jkw jb7 jjF ja4 ja0 jaG jaF a1 jbF jb3 x7 x8 jcI x9 x10 jbF cyB jcq jju cyI f11 jbU cyI jdC jgC cyI jiX jgh cyI jiF jho cyI jjg) := by rw [ef11]; exact hD
    refine lv_aload_n hx hb (qaa qeh 7 rfl) rfl (lv_at hl 1 rfl) ?_
    refine lv_dup hx hb (qaa qeh 8 rfl) rfl ?_
    refine va_get (D := (dC, dI)) (ci := 9) (v := .int jjF) (C := RX9) (T := TX9) (N := 12) hx hb hts qvH hown hK hP 0 rfl rfl 7 (by decide) (hts _ qBn) (fun _ h9 => h9) rfl (qaa qeh 9 rfl) ?_
    refine lv_iconst (v := 1) hx hb (qaa qeh 10 rfl) (by decide) ?_
    refine lv_iadd hx hb (qaa qeh 11 rfl) ?_
    refine lv_topi (fun x12 ex12 => ?_)
    have hw := hw x12 ex12
    refine va_put (D := (dC, dI)) (ci := 9) (v := .int x12) (ty := .int) (C := RX9) (T := TX9) (N := 12) hx hb hts qvH tyX9 tyX9_ok nmX9 hown hK hP hD hS 0 rfl rfl 7 (by decide) (hts _ qBn) (fun _ h9 => h9) rfl (by decide +kernel) rfl rfl (nbq rfl) (qaa qeh 12 rfl) (fun H locs hP hD hS => ?_)
    have hP : va_P (dC, dI) vwCl (qFy a0 jbU jgC jgh jho jju jkw jb7 x12 ja4 ja0 jaG jaF a1 jbF jb3 x7 x8 jcI x9 x10 jbF cyB jcq jju cyI f11 jbU cyI jdC jgC cyI jiX jgh cyI jiF jho cyI jjg) H := hP
    have hD : va_D A (qFy a0 jbU jgC jgh jho jju jkw jb7 x12 ja4 ja0 jaG jaF a1 jbF jb3 x7 x8 jcI x9 x10 jbF cyB jcq jju cyI f11 jbU cyI jdC jgC cyI jiX jgh cyI jiF jho cyI jjg) := hD
    refine lv_aload_n hx hb (qaa qeh 13 rfl) rfl (lv_at hl 1 rfl) ?_
    refine lv_iconst (v := 4) hx hb (qaa qeh 14 rfl) (by decide) ?_
    refine lv_iload_n hx hb (qaa qeh 15 rfl) rfl (lv_at hl 0 rfl) ?_
    refine lv_iconst (v := 0) hx hb (qaa qC8 0 rfl) (by decide) ?_
    refine lv_iconst (v := 0) hx hb (qaa qC8 1 rfl) (by decide) ?_
    obtain ⟨hCc, hPc, hDc, hFc⟩ := qac (ws' := (qa0w a0 jbU jgC jgh jho jju jkw jb7 x12 ja4 ja0 jaG jaF jbU cyI jdC jgC cyI jiX jgh cyI jiF jho cyI jjg)) hP hD hS hA [0, 4, 5, 6, 7] (by decide +kernel) rfl
    refine va_callv (va_runV (As := [.int 4, .int r6, .int 0, .int 0]) (rest := []) ⟨hx, hb, hml, hown, hts⟩ (qVv l dC dI cyB cyI cyJ cyP a0 jbU jgC jgh jho H.size (.ref jju) (jkw) (.int x12) (ja4) (ja0) (jaG) (jaF) jdC jiX jiF jjg jb7 4 r6 0 0 hw) (cwV 4 hts gX9_openLoop_X9_add rfl rfl rfl (by decide +kernel) ⟨nbq rfl, nbq rfl⟩) ⟨qab, va_recv (q := (RX9, TX9, 12)) hK hPc (ci := 9) (q0 := 0) rfl rfl, qae hPc hK hDc hNw⟩ rfl rfl hl.1 rfl (lv_room (nbq rfl)) (qaa qC8 2 rfl) ⟨nbq rfl, nbq rfl⟩) hS (fun q _ h => hFc q h) hFc (fun u t H1 locs ht hvm hw hB hz1 hk1 hS => ?_)
    obtain ⟨f13, f14, f15, f16, x17⟩ := u
    obtain ⟨hP1, hK1, hD1⟩ := hB
    rw [ht] at hP1
    obtain ⟨hP, hD⟩ := qad (wr := [(a1, .inr (8, [.ref jbF, .int jb3, .int x7, .int x8, jcI, .int x9, .int x10])), (jbF, .inl (cyB, 600, .inl jcq)), (jju, .inl (cyI, 6, .inl f11))]) (w1 := (qa0w a0 jbU jgC jgh jho jju jkw x17 x12 ja4 ja0 jaG jaF jbU cyI f13 jgC cyI f14 jgh cyI f15 jho cyI f16)) (wn := (qFy a0 jbU jgC jgh jho jju jkw x17 x12 ja4 ja0 jaG jaF a1 jbF jb3 x7 x8 jcI x9 x10 jbF cyB jcq jju cyI f11 jbU cyI f13 jgC cyI f14 jgh cyI f15 jho cyI f16)) hP hD [0, 4, 5, 6, 7] [1, 2, 3] [3, 0, 1, 2, 4, 5, 6, 7] hCc rfl (by decide +kernel) (by decide +kernel) (by decide +kernel) rfl hk1 hFc hP1 hD1
    generalize H1 = H at hP hS ⊢
    exact ((W.vret hx hb hr (fun t ht hW => ⟨⟨(x7, x9, x10, x8, f11, x12, f13, f14, f15, f16, x17), rfl, hw, by rw [ht]; exact hP, va_K.moved hW.alike hK, hD⟩, hS.F ht⟩) hS.2.2 (qaa qC8 3 rfl)))
  · have hw := hw.2 c1
    refine lv_aload_n hx hb (qaa qfE 4 rfl) rfl (lv_at hl 1 rfl) ?_
    refine lv_iconst (v := 3) hx hb (qaa qfE 5 rfl) (by decide) ?_
    obtain ⟨hCc, hPc, hDc, hFc⟩ := qac (ws' := (qa33 a1 jbF jb3 jhR jeF jcI jcU jbM)) hP hD hS hA [1] (by decide +kernel) rfl
    refine va_callv (va_runV (As := [.int 3]) (rest := []) ⟨hx, hb, hml, hown, hts⟩ (qn6 l dC dI cyB cyI cyJ cyP a1 H.size (.ref jbF) (.int jb3) (.int jhR) (jcI) jeF jcU jbM 3 hw) (cwV 1 hts gX9_openLoop_X8_blameToken rfl rfl rfl (by decide +kernel) ⟨nbq rfl, nbq rfl⟩) ⟨qab, va_recv (q := (RX8, TX8, 7)) hK hPc (ci := 8) (q0 := 0) rfl rfl, qae hPc hK hDc hNw⟩ rfl rfl hl.1 rfl (lv_room (nbq rfl)) (qaa qfE 6 rfl) ⟨nbq rfl, nbq rfl⟩) hS (fun q _ h => hFc q h) hFc (fun u t H1 locs ht hvm hw hB hz1 hk1 hS => ?_)
    obtain ⟨x18, x19⟩ := u
    obtain ⟨hP1, hK1, hD1⟩ := hB
    rw [ht] at hP1
    obtain ⟨hP, hD⟩ := qad (wr := [(a0, .inr (9, [.ref jbU, .ref jgC, .ref jgh, .ref jho, .ref jju, jkw, .int jb7, .int jjF, ja4, ja0, jaG, jaF])), (jbF, .inl (cyB, 600, .inl jcq)), (jju, .inl (cyI, 6, .inl jlb)), (jbU, .inl (cyI, 50, .inl jdC)), (jgC, .inl (cyI, 50, .inl jiX)), (jgh, .inl (cyI, 50, .inl jiF)), (jho, .inl (cyI, 50, .inl jjg))]) (w1 := (qa33 a1 jbF jb3 jhR jeF jcI x18 x19)) (wn := (qFy a0 jbU jgC jgh jho jju jkw jb7 jjF ja4 ja0 jaG jaF a1 jbF jb3 jhR jeF jcI x18 x19 jbF cyB jcq jju cyI jlb jbU cyI jdC jgC cyI jiX jgh cyI jiF jho cyI jjg)) hP hD [1] [0, 2, 3, 4, 5, 6, 7] [0, 7, 1, 2, 3, 4, 5, 6] hCc rfl (by decide +kernel) (by decide +kernel) (by decide +kernel) rfl hk1 hFc hP1 hD1
    generalize H1 = H at hP hS ⊢
    exact ((W.vret hx hb hr (fun t ht hW => ⟨⟨(jhR, x18, x19, jeF, jlb, jjF, jdC, jiX, jiF, jjg, jb7), rfl, hw, by rw [ht]; exact hP, va_K.moved hW.alike hK, hD⟩, hS.F ht⟩) hS.2.2 (qaa qfE 7 rfl)))
theorem qaRj : ∀ w ∈ u_ws RX1 TX1 4, w ∈ wsX5_push := uiM qG7 qV8 (by decide +kernel)
theorem qHQ : ∀ w ∈ u_ws RX5 TX5 2, w ∈ wsX5_push := uiM qG7 euX5 (by decide +kernel)
theorem qaG8 : (.initialized "java/lang/System" : Cond) ∈ wsX5_push := qG7 331 (by decide +kernel)
theorem qaKC : (.native arraycopyName : Cond) ∈ wsX5_push := qG7 329 (by decide +kernel)
theorem qaEA : (.static arraycopyName : Cond) ∈ wsX5_push := qG7 330 (by decide +kernel)
theorem qaHm : (.fieldLink RX5 11 "MarchHares$Past" "rows" "[I" : Cond) ∈ wsX5_push := qG7 335 (by decide +kernel)
theorem qKo : (.fieldLink RX5 17 "MarchHares$Past" "kept" "I" : Cond) ∈ wsX5_push := qG7 1676 (by decide +kernel)
theorem qaHd : (.fieldLink RX5 21 "MarchHares$Days" "row" "[I" : Cond) ∈ wsX5_push := qG7 1677 (by decide +kernel)
theorem qaF0 : (.methodLink RX5 24 arraycopyName : Cond) ∈ wsX5_push := qG7 1678 (by decide +kernel)
set_option maxHeartbeats 4000000 in
set_option maxRecDepth 100000 in
theorem qAD (l : Launch) (dC : Nat → ClassId) (dI : Nat → Nat → Nat) (cyB cyI cyJ cyP : ClassId) (a0 a1 jjO jnO sz : Nat) (jjP jpb jn2 : Value) (jkO joO : NI) (joH : Int32) {Q : NI → Int32 → Prop} (hw : qwu jkO joO joH Q) : Met l yX5_push wsX5_push ({ frames := 1, cells := 0, slots := 0, locals := 40 }) (va_Pc [.ref a0, .ref a1] (cPc (dC, dI) (kT cyB cyI cyJ cyP) (qrR a0 jnO joH a1 jjO jjP jpb jn2 jjO cyI jkO jnO cyI joO) sz)) (va_Qv (fun (u : NI × Int32) => Q u.1 u.2) (cB (dC, dI) (kT cyB cyI cyJ cyP) (va_A (qrR a0 jnO joH a1 jjO jjP jpb jn2 jjO cyI jkO jnO cyI joO) sz) (fun u : NI × Int32 => ((qrR a0 jnO u.2 a1 jjO jjP jpb jn2 jjO cyI jkO jnO cyI u.1) : va_W))) (va_A (qrR a0 jnO joH a1 jjO jjP jpb jn2 jjO cyI jkO jnO cyI joO) sz)) 0 0 (va_A (qrR a0 jnO joH a1 jjO jjP jpb jn2 jjO cyI jkO jnO cyI joO) sz) := by
  refine Met.ofW (cc := cX5_push) (maxL := 2) (ret := none) (by decide) rfl ?_
  intro p e s m args below meth c s₁ B hml hv
  obtain ⟨rfl, hsz, hP, hK, hD0, hNw⟩ := hv
  have hx := B.exec
  have hb := B.bytes
  have hr := B.returns
  have hts := atoms_spec (ws := wsX5_push) B.pre
  have hown : s.vm.findClass RX5 = some m.cls := findClass_of_methodNamed B.named
  have hlocks := B.notSynchronized
  subst hsz
  have hD := hD0.self (sz := s.heap.size)
  generalize hAe : va_A (qrR a0 jnO joH a1 jjO jjP jpb jn2 jjO cyI jkO jnO cyI joO) s.heap.size = A at hD ⊢
  have hA : ∀ q : Nat, s.heap.size ≤ q → A q := fun q h => by rw [← hAe]; exact Or.inr h
  have hS : va_S A s.heap s.heap [] := va_S.rf
  have hP : va_P (dC, dI) vwCl (qrR a0 jnO joH a1 jjO jjP jpb jn2 jjO cyI jkO jnO cyI joO) s.heap := hP
  have hl := lv_entry ([.ref a0, .ref a1]) (n := 2) (nbq rfl)
  rw [lg_entry_eq]
  generalize (lg_sl ([.ref a0, .ref a1]) ++ List.replicate (2 - (lg_sl ([.ref a0, .ref a1])).length) Slot.unset).toArray = ls at hl ⊢
  have hl : lv_has ls 2 [(0, .ref a0), (1, .ref a1)] := hl
  have C0 : cfx p s m _ meth c cX5_push none wsX5_push RX5 2 A (dC, dI) (kT cyB cyI cyJ cyP) := ⟨hx, hb, hr, hts, hown, hlocks, hml, hA, hK, hNw⟩
  clear hAe
  obtain ⟨H, hH⟩ : ∃ H, H = s.heap := ⟨_, rfl⟩
  rw [← hH] at hP ⊢
  have hS : va_S A s.heap H [] := by rw [hH]; exact va_S.rf
  have hS := hS
  refine lv_aload_n hx hb (qaa qoz 0 rfl) rfl (lv_at hl 0 rfl) ?_
  refine va_get (D := (dC, dI)) (ci := 5) (v := .int joH) (C := RX5) (T := TX5) (N := 2) hx hb hts qHQ hown hK hP 0 rfl rfl 1 (by decide) (hts _ qKo) (fun _ h9 => h9) rfl (qaa qoz 1 rfl) ?_
  refine lv_bipush (v := 16) hx hb (qaa qoz 2 rfl) (by decide) ?_
  refine lv_icmp_gt (tgt := 40) hx hb (qaa qoz 3 rfl) (by decide) (fun c1 => ?_) (fun c1 => ?_)
  · have hw := hw.1 c1
    exact ((W.vret hx hb hr (fun t ht hW => ⟨⟨(joO, joH), rfl, hw, by rw [ht]; exact hP, va_K.moved hW.alike hK, hD⟩, hS.F ht⟩) hS.2.2 (qaa qzy 5 rfl)))
  · have hw := hw.2 c1
    refine lv_aload_n hx hb (qaa qoz 4 rfl) rfl (lv_at hl 1 rfl) ?_
    refine va_get (D := (dC, dI)) (ci := 1) (v := .ref jjO) (C := RX1) (T := TX1) (N := 4) hx hb hts qaRj hown hK hP 1 rfl rfl 0 (by decide) (hts _ qaHd) (fun _ h9 => h9) rfl (qaa qoz 5 rfl) ?_
    refine lv_iconst (v := 0) hx hb (qaa qoz 6 rfl) (by decide) ?_
    refine lv_aload_n hx hb (qaa qoz 7 rfl) rfl (lv_at hl 0 rfl) ?_
    refine va_get (D := (dC, dI)) (ci := 5) (v := .ref jnO) (C := RX5) (T := TX5) (N := 2) hx hb hts qHQ hown hK hP 0 rfl rfl 0 (by decide) (hts _ qaHm) (fun _ h9 => h9) rfl (qaa qoz 8 rfl) ?_
    refine lv_aload_n hx hb (qaa qoz 9 rfl) rfl (lv_at hl 0 rfl) ?_
    refine va_get (D := (dC, dI)) (ci := 5) (v := .int joH) (C := RX5) (T := TX5) (N := 2) hx hb hts qHQ hown hK hP 0 rfl rfl 1 (by decide) (hts _ qKo) (fun _ h9 => h9) rfl (qaa qoz 10 rfl) ?_
    refine lv_bipush (v := 64) hx hb (qaa qoz 11 rfl) (by decide) ?_
    refine lv_imul hx hb (qaa qoz 12 rfl) ?_
    refine lv_topi (fun x2 ex2 => ?_)
    have hw := hw x2 ex2
    refine lv_bipush (v := 64) hx hb (qaa qoz 13 rfl) (by decide) ?_
    obtain ⟨hc19, hw⟩ := hw
    obtain ⟨hc49, hw⟩ := hw
    refine va_copyi hx hb (by rw [hml]; exact hl.1.symm) hown (hts _ qaF0) (hts _ qaKC) (hts _ qaEA) (hts _ qaG8) hK hP hD hS 2 3 1 1 rfl rfl rfl rfl rfl (by decide) hc19 (by decide) (by decide) hc49 (fun _ _ => rfl) (nbq rfl) (nbq rfl) (qaa qoz 14 rfl) (fun H locs hP hD hS => ?_)
    obtain ⟨f3, ef3⟩ : ∃ y : NI, y = va_cpy jkO joO (0 : Int32).toNatClampNeg x2.toNatClampNeg (64 : Int32).toNatClampNeg := ⟨_, rfl⟩
    have hw := hw f3 ef3
    have hP : va_P (dC, dI) vwCl (qrR a0 jnO joH a1 jjO jjP jpb jn2 jjO cyI jkO jnO cyI f3) H := by rw [ef3]; exact hP
    have hD : va_D A (qrR a0 jnO joH a1 jjO jjP jpb jn2 jjO cyI jkO jnO cyI f3) := by rw [ef3]; exact hD
    refine lv_aload_n hx hb (qaa qoz 15 rfl) rfl (lv_at hl 0 rfl) ?_
    refine lv_dup hx hb (qaa qzy 0 rfl) rfl ?_
    refine va_get (D := (dC, dI)) (ci := 5) (v := .int joH) (C := RX5) (T := TX5) (N := 2) hx hb hts qHQ hown hK hP 0 rfl rfl 1 (by decide) (hts _ qKo) (fun _ h9 => h9) rfl (qaa qzy 1 rfl) ?_
    refine lv_iconst (v := 1) hx hb (qaa qzy 2 rfl) (by decide) ?_
    refine lv_iadd hx hb (qaa qzy 3 rfl) ?_
    refine lv_topi (fun x4 ex4 => ?_)
    have hw := hw x4 ex4
    refine va_put (D := (dC, dI)) (ci := 5) (v := .int x4) (ty := .int) (C := RX5) (T := TX5) (N := 2) hx hb hts qHQ tyX5 tyX5_ok nmX5 hown hK hP hD hS 0 rfl rfl 1 (by decide) (hts _ qKo) (fun _ h9 => h9) rfl (by decide +kernel) rfl rfl (nbq rfl) (qaa qzy 4 rfl) (fun H locs hP hD hS => ?_)
    have hP : va_P (dC, dI) vwCl (qrR a0 jnO x4 a1 jjO jjP jpb jn2 jjO cyI jkO jnO cyI f3) H := hP
    have hD : va_D A (qrR a0 jnO x4 a1 jjO jjP jpb jn2 jjO cyI jkO jnO cyI f3) := hD
    exact ((W.vret hx hb hr (fun t ht hW => ⟨⟨(f3, x4), rfl, hw, by rw [ht]; exact hP, va_K.moved hW.alike hK, hD⟩, hS.F ht⟩) hS.2.2 (qaa qzy 5 rfl)))
theorem qqd : ∀ w ∈ u_ws RX9 TX9 12, w ∈ wsX9_behindEnd := uiM qKt euX9 (by decide +kernel)
theorem q9n : (.fieldLink RX9 15 "MarchHares$Work" "first" "[I" : Cond) ∈ wsX9_behindEnd := qKt 267 (by decide +kernel)
theorem qQg : (.fieldLink RX9 27 "MarchHares$Work" "rounds" "[I" : Cond) ∈ wsX9_behindEnd := qKt 271 (by decide +kernel)
theorem qwb : (.fieldLink RX9 40 "MarchHares$Work" "open" "I" : Cond) ∈ wsX9_behindEnd := qKt 1607 (by decide +kernel)
set_option maxHeartbeats 4000000 in
set_option maxRecDepth 100000 in
theorem qaBL (l : Launch) (dC : Nat → ClassId) (dI : Nat → Nat → Nat) (cyB cyI cyJ cyP : ClassId) (a0 jlw jgC sz : Nat) (jni jpk joZ jme jjf ja4 ja0 jaG jaF : Value) (jiX jmk : NI) (jjF p1 : Int32) {Q : Int32 → NI → Int32 → Prop} (hw : q0V jiX jmk jjF p1 Q) : Met l yX9_behindEnd wsX9_behindEnd ({ frames := 0, cells := 0, slots := 0, locals := 0 }) (va_Pc [.ref a0, .int p1] (cPc (dC, dI) (kT cyB cyI cyJ cyP) (qO0 a0 jni jgC jpk joZ jme jlw jjf jjF ja4 ja0 jaG jaF jlw cyI jmk jgC cyI jiX) sz)) (va_Qi (fun (r : Int32) (u : NI × Int32) => Q r u.1 u.2) (cB (dC, dI) (kT cyB cyI cyJ cyP) (va_A (qO0 a0 jni jgC jpk joZ jme jlw jjf jjF ja4 ja0 jaG jaF jlw cyI jmk jgC cyI jiX) sz) (fun u : NI × Int32 => ((qO0 a0 jni jgC jpk joZ jme jlw jjf u.2 ja4 ja0 jaG jaF jlw cyI u.1 jgC cyI jiX) : va_W))) (va_A (qO0 a0 jni jgC jpk joZ jme jlw jjf jjF ja4 ja0 jaG jaF jlw cyI jmk jgC cyI jiX) sz)) 0 0 (va_A (qO0 a0 jni jgC jpk joZ jme jlw jjf jjF ja4 ja0 jaG jaF jlw cyI jmk jgC cyI jiX) sz) := by
  refine Met.ofW (cc := cX9_behindEnd) (maxL := 2) (ret := (some .int)) (by decide) rfl ?_
  intro p e s m args below meth c s₁ B hml hv
  obtain ⟨rfl, hsz, hP, hK, hD0, hNw⟩ := hv
  have hx := B.exec
  have hb := B.bytes
  have hr := B.returns
  have hts := atoms_spec (ws := wsX9_behindEnd) B.pre
  have hown : s.vm.findClass RX9 = some m.cls := findClass_of_methodNamed B.named
  have hlocks := B.notSynchronized
  subst hsz
  have hD := hD0.self (sz := s.heap.size)
  generalize hAe : va_A (qO0 a0 jni jgC jpk joZ jme jlw jjf jjF ja4 ja0 jaG jaF jlw cyI jmk jgC cyI jiX) s.heap.size = A at hD ⊢
  have hA : ∀ q : Nat, s.heap.size ≤ q → A q := fun q h => by rw [← hAe]; exact Or.inr h
  have hS : va_S A s.heap s.heap [] := va_S.rf
  have hP : va_P (dC, dI) vwCl (qO0 a0 jni jgC jpk joZ jme jlw jjf jjF ja4 ja0 jaG jaF jlw cyI jmk jgC cyI jiX) s.heap := hP
  have hl := lv_entry ([.ref a0, .int p1]) (n := 2) (nbq rfl)
  rw [lg_entry_eq]
  generalize (lg_sl ([.ref a0, .int p1]) ++ List.replicate (2 - (lg_sl ([.ref a0, .int p1])).length) Slot.unset).toArray = ls at hl ⊢
  have hl : lv_has ls 2 [(0, .ref a0), (1, .int p1)] := hl
  have C0 : cfx p s m _ meth c cX9_behindEnd (some .int) wsX9_behindEnd RX9 2 A (dC, dI) (kT cyB cyI cyJ cyP) := ⟨hx, hb, hr, hts, hown, hlocks, hml, hA, hK, hNw⟩
  clear hAe
  obtain ⟨H, hH⟩ : ∃ H, H = s.heap := ⟨_, rfl⟩
  rw [← hH] at hP ⊢
  have hS : va_S A s.heap H [] := by rw [hH]; exact va_S.rf
  have hS := hS
  refine lv_aload_n hx hb (qaa qep 0 rfl) rfl (lv_at hl 0 rfl) ?_
  refine va_get (D := (dC, dI)) (ci := 9) (v := .int jjF) (C := RX9) (T := TX9) (N := 12) hx hb hts qqd hown hK hP 0 rfl rfl 7 (by decide) (hts _ qwb) (fun _ h9 => h9) rfl (qaa qep 1 rfl) ?_
  refine lv_if_ne (tgt := 11) hx hb (qaa qep 2 rfl) (by decide) (fun c1 => ?_) (fun c1 => ?_)
  · have hw := hw.1 c1
    refine lv_aload_n hx hb (qaa qep 7 rfl) rfl (lv_at hl 0 rfl) ?_
    refine va_get (D := (dC, dI)) (ci := 9) (v := .ref jlw) (C := RX9) (T := TX9) (N := 12) hx hb hts qqd hown hK hP 0 rfl rfl 5 (by decide) (hts _ qQg) (fun _ h9 => h9) rfl (qaa qep 8 rfl) ?_
    refine lv_aload_n hx hb (qaa qep 9 rfl) rfl (lv_at hl 0 rfl) ?_
    refine va_get (D := (dC, dI)) (ci := 9) (v := .int jjF) (C := RX9) (T := TX9) (N := 12) hx hb hts qqd hown hK hP 0 rfl rfl 7 (by decide) (hts _ qwb) (fun _ h9 => h9) rfl (qaa qep 10 rfl) ?_
    refine lv_iconst (v := 1) hx hb (qaa qep 11 rfl) (by decide) ?_
    refine lv_isub hx hb (qaa qep 12 rfl) ?_
    refine lv_topi (fun x2 ex2 => ?_)
    have hw := hw x2 ex2
    refine lv_dup2_11 hx hb (qaa qep 13 rfl) rfl rfl ?_
    obtain ⟨hi9, hw⟩ := hw
    refine va_iald hx hb hK hP 1 1 rfl rfl hi9 (qaa qep 14 rfl) ?_
    refine lv_topi (fun x3 ex3 => ?_)
    have hw := hw x3 ex3
    refine lv_iconst (v := 1) hx hb (qaa qep 15 rfl) (by decide) ?_
    refine lv_isub hx hb (qaa qc6 0 rfl) ?_
    refine lv_topi (fun x4 ex4 => ?_)
    have hw := hw x4 ex4
    obtain ⟨hi9, hw⟩ := hw
    refine va_iast hx hb hK hP hD hS 1 1 rfl rfl hi9 (qaa qc6 1 rfl) (fun H locs hP hD hS => ?_)
    obtain ⟨f5, ef5⟩ : ∃ y : NI, y = upd jmk x2.toNatClampNeg x4 := ⟨_, rfl⟩
    have hw := hw f5 ef5
    have hP : va_P (dC, dI) vwCl (qO0 a0 jni jgC jpk joZ jme jlw jjf jjF ja4 ja0 jaG jaF jlw cyI f5 jgC cyI jiX) H := by rw [ef5]; exact hP
    have hD : va_D A (qO0 a0 jni jgC jpk joZ jme jlw jjf jjF ja4 ja0 jaG jaF jlw cyI f5 jgC cyI jiX) := by rw [ef5]; exact hD
    refine lv_aload_n hx hb (qaa qc6 2 rfl) rfl (lv_at hl 0 rfl) ?_
    refine va_get (D := (dC, dI)) (ci := 9) (v := .ref jlw) (C := RX9) (T := TX9) (N := 12) hx hb hts qqd hown hK hP 0 rfl rfl 5 (by decide) (hts _ qQg) (fun _ h9 => h9) rfl (qaa qc6 3 rfl) ?_
    refine lv_aload_n hx hb (qaa qc6 4 rfl) rfl (lv_at hl 0 rfl) ?_
    refine va_get (D := (dC, dI)) (ci := 9) (v := .int jjF) (C := RX9) (T := TX9) (N := 12) hx hb hts qqd hown hK hP 0 rfl rfl 7 (by decide) (hts _ qwb) (fun _ h9 => h9) rfl (qaa qc6 5 rfl) ?_
    refine lv_iconst (v := 1) hx hb (qaa qc6 6 rfl) (by decide) ?_
    refine lv_isub hx hb (qaa qc6 7 rfl) ?_
    refine lv_topi (fun x6 ex6 => ?_)
    have hw := hw x6 ex6
    obtain ⟨hi9, hw⟩ := hw
    refine va_iald hx hb hK hP 1 1 rfl rfl hi9 (qaa qc6 8 rfl) ?_
    refine lv_topi (fun x7 ex7 => ?_)
    have hw := hw x7 ex7
    refine lv_if_le (tgt := 49) hx hb (qaa qc6 9 rfl) (by decide) (fun c8 => ?_) (fun c8 => ?_)
    · have hw := hw.1 c8
      refine lv_aload_n hx hb (qaa qkZ 1 rfl) rfl (lv_at hl 0 rfl) ?_
      refine lv_dup hx hb (qaa qkZ 2 rfl) rfl ?_
      refine va_get (D := (dC, dI)) (ci := 9) (v := .int jjF) (C := RX9) (T := TX9) (N := 12) hx hb hts qqd hown hK hP 0 rfl rfl 7 (by decide) (hts _ qwb) (fun _ h9 => h9) rfl (qaa qkZ 3 rfl) ?_
      refine lv_iconst (v := 1) hx hb (qaa qkZ 4 rfl) (by decide) ?_
      refine lv_isub hx hb (qaa qkZ 5 rfl) ?_
      refine lv_topi (fun x9 ex9 => ?_)
      have hw := hw x9 ex9
      refine va_put (D := (dC, dI)) (ci := 9) (v := .int x9) (ty := .int) (C := RX9) (T := TX9) (N := 12) hx hb hts qqd tyX9 tyX9_ok nmX9 hown hK hP hD hS 0 rfl rfl 7 (by decide) (hts _ qwb) (fun _ h9 => h9) rfl (by decide +kernel) rfl rfl (nbq rfl) (qaa qkZ 6 rfl) (fun H locs hP hD hS => ?_)
      have hP : va_P (dC, dI) vwCl (qO0 a0 jni jgC jpk joZ jme jlw jjf x9 ja4 ja0 jaG jaF jlw cyI f5 jgC cyI jiX) H := hP
      have hD : va_D A (qO0 a0 jni jgC jpk joZ jme jlw jjf x9 ja4 ja0 jaG jaF jlw cyI f5 jgC cyI jiX) := hD
      refine lv_iload_n hx hb (qaa qkZ 7 rfl) rfl (lv_at hl 1 rfl) ?_
      refine lv_iconst (v := 1) hx hb (qaa qkZ 8 rfl) (by decide) ?_
      refine lv_iadd hx hb (qaa qkZ 9 rfl) ?_
      exact ((W.iret (v := (p1 + 1)) hx hb hr (fun t ht hW => ⟨⟨(p1 + 1), (f5, x9), rfl, hw, by rw [ht]; exact hP, va_K.moved hW.alike hK, hD⟩, hS.F ht⟩) hS.2.2 (qaa qkZ 10 rfl)))
    · have hw := hw.2 c8
      refine lv_aload_n hx hb (qaa qc6 10 rfl) rfl (lv_at hl 0 rfl) ?_
      refine va_get (D := (dC, dI)) (ci := 9) (v := .ref jgC) (C := RX9) (T := TX9) (N := 12) hx hb hts qqd hown hK hP 0 rfl rfl 1 (by decide) (hts _ q9n) (fun _ h9 => h9) rfl (qaa qc6 11 rfl) ?_
      refine lv_iload_n hx hb (qaa qc6 12 rfl) rfl (lv_at hl 1 rfl) ?_
      obtain ⟨hi9, hw⟩ := hw
      refine va_iald hx hb hK hP 2 1 rfl rfl hi9 (qaa qc6 13 rfl) ?_
      refine lv_topi (fun x10 ex10 => ?_)
      have hw := hw x10 ex10
      refine lv_iconst (v := 1) hx hb (qaa qc6 14 rfl) (by decide) ?_
      refine lv_iadd hx hb (qaa qc6 15 rfl) ?_
      exact ((W.iret (v := (x10 + 1)) hx hb hr (fun t ht hW => ⟨⟨(x10 + 1), (f5, jjF), rfl, hw, by rw [ht]; exact hP, va_K.moved hW.alike hK, hD⟩, hS.F ht⟩) hS.2.2 (qaa qkZ 0 rfl)))
  · have hw := hw.2 c1
    refine lv_iload_n hx hb (qaa qep 3 rfl) rfl (lv_at hl 1 rfl) ?_
    refine lv_iconst (v := 1) hx hb (qaa qep 4 rfl) (by decide) ?_
    refine lv_iadd hx hb (qaa qep 5 rfl) ?_
    exact ((W.iret (v := (p1 + 1)) hx hb hr (fun t ht hW => ⟨⟨(p1 + 1), (jmk, jjF), rfl, hw, by rw [ht]; exact hP, va_K.moved hW.alike hK, hD⟩, hS.F ht⟩) hS.2.2 (qaa qep 6 rfl)))
theorem qoj : ∀ w ∈ u_ws RX9 TX9 12, w ∈ wsX9_behindAgain := uiM qAo euX9 (by decide +kernel)
theorem qK6 : (.fieldLink RX9 15 "MarchHares$Work" "first" "[I" : Cond) ∈ wsX9_behindAgain := qAo 267 (by decide +kernel)
theorem q1F : (.fieldLink RX9 18 "MarchHares$Work" "second" "[I" : Cond) ∈ wsX9_behindAgain := qAo 268 (by decide +kernel)
theorem q1S : (.fieldLink RX9 27 "MarchHares$Work" "rounds" "[I" : Cond) ∈ wsX9_behindAgain := qAo 271 (by decide +kernel)
theorem qwW : (.fieldLink RX9 40 "MarchHares$Work" "open" "I" : Cond) ∈ wsX9_behindAgain := qAo 1607 (by decide +kernel)
set_option maxHeartbeats 4000000 in
set_option maxRecDepth 100000 in
theorem qNC {p : Program} {l : Launch} {e : Env} {s : State} {m : MethodId} {args : Array Value} {below : List Frame} {meth : Method} {c : Code} {A : Nat → Prop} (dC : Nat → ClassId) (dI : Nat → Nat → Nat) (cyB cyI cyJ cyP : ClassId) (a0 jgC jlw jgh : Nat) (jni joZ jme jjf ja4 ja0 jaG jaF : Value) (jiX jiF : NI) (Q : Int32 → NI → Int32 → Prop) (C0 : cfx p s m args meth c cX9_behindAgain (some .int) wsX9_behindAgain RX9 2 A (dC, dI) (kT cyB cyI cyJ cyP)) : ∀ (H : Heap) (locs : List Loc) (ls : Array Slot) (jmk : NI) (jjF l1 : Int32), va_P (dC, dI) vwCl (qHR a0 jni jgC jgh joZ jme jlw jjf jjF ja4 ja0 jaG jaF jgC cyI jiX jlw cyI jmk jgh cyI jiF) H → va_D A (qHR a0 jni jgC jgh joZ jme jlw jjf jjF ja4 ja0 jaG jaF jgC cyI jiX jlw cyI jmk jgh cyI jiF) → va_S A s.heap H locs → lv_has ls 2 [(0, .ref a0), (1, .int l1)] → qDn jiX jiF Q jmk jjF l1 → W p l e (headSpec wsX9_behindAgain ({ frames := 0, cells := 0, slots := 0, locals := 0 })).room s m args below meth c H locs 0 0 (MQ below (va_Qi (fun (r : Int32) (u : NI × Int32) => Q r u.1 u.2) (cB (dC, dI) (kT cyB cyI cyJ cyP) A (fun u : NI × Int32 => ((qHR a0 jni jgC jgh joZ jme jlw jjf u.2 ja4 ja0 jaG jaF jgC cyI jiX jlw cyI u.1 jgh cyI jiF) : va_W))) A) args s 0 0 A) (F0 m 18 ls []) := by
  obtain ⟨hx, hb, hr, hts, hown, hlocks, hml, hA, hK, hNw⟩ := id C0
  intro H locs ls jmk jjF l1 hP hD hS hl hw
  refine lv_aload_n hx hb (qaa qcX 9 rfl) rfl (lv_at hl 0 rfl) ?_
  refine va_get (D := (dC, dI)) (ci := 9) (v := .ref jgh) (C := RX9) (T := TX9) (N := 12) hx hb hts qoj hown hK hP 0 rfl rfl 2 (by decide) (hts _ q1F) (fun _ h9 => h9) rfl (qaa qcX 10 rfl) ?_
  refine lv_iload_n hx hb (qaa qcX 11 rfl) rfl (lv_at hl 1 rfl) ?_
  obtain ⟨hi9, hw⟩ := hw
  refine va_iald hx hb hK hP 3 1 rfl rfl hi9 (qaa qcX 12 rfl) ?_
  refine lv_topi (fun x7 ex7 => ?_)
  have hw := hw x7 ex7
  refine lv_iconst (v := 1) hx hb (qaa qcX 13 rfl) (by decide) ?_
  refine lv_iadd hx hb (qaa qcX 14 rfl) ?_
  exact ((W.iret (v := (x7 + 1)) hx hb hr (fun t ht hW => ⟨⟨(x7 + 1), (jmk, jjF), rfl, hw, by rw [ht]; exact hP, va_K.moved hW.alike hK, hD⟩, hS.F ht⟩) hS.2.2 (qaa qcX 15 rfl)))
set_option maxHeartbeats 4000000 in
set_option maxRecDepth 100000 in
theorem qanm (l : Launch) (dC : Nat → ClassId) (dI : Nat → Nat → Nat) (cyB cyI cyJ cyP : ClassId) (a0 jgC jlw jgh sz : Nat) (jni joZ jme jjf ja4 ja0 jaG jaF : Value) (jiX jiF jmk : NI) (jjF p1 : Int32) {Q : Int32 → NI → Int32 → Prop} (hw : qVp jiX jiF jmk jjF p1 Q) : Met l yX9_behindAgain wsX9_behindAgain ({ frames := 0, cells := 0, slots := 0, locals := 0 }) (va_Pc [.ref a0, .int p1] (cPc (dC, dI) (kT cyB cyI cyJ cyP) (qHR a0 jni jgC jgh joZ jme jlw jjf jjF ja4 ja0 jaG jaF jgC cyI jiX jlw cyI jmk jgh cyI jiF) sz)) (va_Qi (fun (r : Int32) (u : NI × Int32) => Q r u.1 u.2) (cB (dC, dI) (kT cyB cyI cyJ cyP) (va_A (qHR a0 jni jgC jgh joZ jme jlw jjf jjF ja4 ja0 jaG jaF jgC cyI jiX jlw cyI jmk jgh cyI jiF) sz) (fun u : NI × Int32 => ((qHR a0 jni jgC jgh joZ jme jlw jjf u.2 ja4 ja0 jaG jaF jgC cyI jiX jlw cyI u.1 jgh cyI jiF) : va_W))) (va_A (qHR a0 jni jgC jgh joZ jme jlw jjf jjF ja4 ja0 jaG jaF jgC cyI jiX jlw cyI jmk jgh cyI jiF) sz)) 0 0 (va_A (qHR a0 jni jgC jgh joZ jme jlw jjf jjF ja4 ja0 jaG jaF jgC cyI jiX jlw cyI jmk jgh cyI jiF) sz) := by
  refine Met.ofW (cc := cX9_behindAgain) (maxL := 2) (ret := (some .int)) (by decide) rfl ?_
  intro p e s m args below meth c s₁ B hml hv
  obtain ⟨rfl, hsz, hP, hK, hD0, hNw⟩ := hv
  have hx := B.exec
  have hb := B.bytes
  have hr := B.returns
  have hts := atoms_spec (ws := wsX9_behindAgain) B.pre
  have hown : s.vm.findClass RX9 = some m.cls := findClass_of_methodNamed B.named
  have hlocks := B.notSynchronized
  subst hsz
  have hD := hD0.self (sz := s.heap.size)
  generalize hAe : va_A (qHR a0 jni jgC jgh joZ jme jlw jjf jjF ja4 ja0 jaG jaF jgC cyI jiX jlw cyI jmk jgh cyI jiF) s.heap.size = A at hD ⊢
  have hA : ∀ q : Nat, s.heap.size ≤ q → A q := fun q h => by rw [← hAe]; exact Or.inr h
  have hS : va_S A s.heap s.heap [] := va_S.rf
  have hP : va_P (dC, dI) vwCl (qHR a0 jni jgC jgh joZ jme jlw jjf jjF ja4 ja0 jaG jaF jgC cyI jiX jlw cyI jmk jgh cyI jiF) s.heap := hP
  have hl := lv_entry ([.ref a0, .int p1]) (n := 2) (nbq rfl)
  rw [lg_entry_eq]
  generalize (lg_sl ([.ref a0, .int p1]) ++ List.replicate (2 - (lg_sl ([.ref a0, .int p1])).length) Slot.unset).toArray = ls at hl ⊢
  have hl : lv_has ls 2 [(0, .ref a0), (1, .int p1)] := hl
  have C0 : cfx p s m _ meth c cX9_behindAgain (some .int) wsX9_behindAgain RX9 2 A (dC, dI) (kT cyB cyI cyJ cyP) := ⟨hx, hb, hr, hts, hown, hlocks, hml, hA, hK, hNw⟩
  clear hAe
  obtain ⟨H, hH⟩ : ∃ H, H = s.heap := ⟨_, rfl⟩
  rw [← hH] at hP ⊢
  have hS : va_S A s.heap H [] := by rw [hH]; exact va_S.rf
  have hS := hS
  refine lv_aload_n hx hb (qaa qcX 0 rfl) rfl (lv_at hl 0 rfl) ?_
  refine va_get (D := (dC, dI)) (ci := 9) (v := .ref jgC) (C := RX9) (T := TX9) (N := 12) hx hb hts qoj hown hK hP 0 rfl rfl 1 (by decide) (hts _ qK6) (fun _ h9 => h9) rfl (qaa qcX 1 rfl) ?_
  refine lv_iload_n hx hb (qaa qcX 2 rfl) rfl (lv_at hl 1 rfl) ?_
  obtain ⟨hi9, hw⟩ := hw
  refine va_iald hx hb hK hP 1 1 rfl rfl hi9 (qaa qcX 3 rfl) ?_
  refine lv_topi (fun x1 ex1 => ?_)
  have hw := hw x1 ex1
  refine lv_if_eq (tgt := 18) hx hb (qaa qcX 4 rfl) (by decide) (fun c2 => ?_) (fun c2 => ?_)
  · have hw := hw.1 c2
    exact qNC dC dI cyB cyI cyJ cyP a0 jgC jlw jgh jni joZ jme jjf ja4 ja0 jaG jaF jiX jiF Q C0 _ _ _ jmk jjF p1 hP hD hS (lv_sub hl [0, 1] rfl) hw
  · have hw := hw.2 c2
    refine lv_aload_n hx hb (qaa qcX 5 rfl) rfl (lv_at hl 0 rfl) ?_
    refine va_get (D := (dC, dI)) (ci := 9) (v := .int jjF) (C := RX9) (T := TX9) (N := 12) hx hb hts qoj hown hK hP 0 rfl rfl 7 (by decide) (hts _ qwW) (fun _ h9 => h9) rfl (qaa qcX 6 rfl) ?_
    refine lv_bipush (v := 6) hx hb (qaa qcX 7 rfl) (by decide) ?_
    refine lv_icmp_lt (tgt := 27) hx hb (qaa qcX 8 rfl) (by decide) (fun c3 => ?_) (fun c3 => ?_)
    · have hw := hw.1 c3
      refine lv_aload_n hx hb (qaa qcj 0 rfl) rfl (lv_at hl 0 rfl) ?_
      refine va_get (D := (dC, dI)) (ci := 9) (v := .ref jlw) (C := RX9) (T := TX9) (N := 12) hx hb hts qoj hown hK hP 0 rfl rfl 5 (by decide) (hts _ q1S) (fun _ h9 => h9) rfl (qaa qcj 1 rfl) ?_
      refine lv_aload_n hx hb (qaa qcj 2 rfl) rfl (lv_at hl 0 rfl) ?_
      refine va_get (D := (dC, dI)) (ci := 9) (v := .int jjF) (C := RX9) (T := TX9) (N := 12) hx hb hts qoj hown hK hP 0 rfl rfl 7 (by decide) (hts _ qwW) (fun _ h9 => h9) rfl (qaa qcj 3 rfl) ?_
      refine lv_aload_n hx hb (qaa qcj 4 rfl) rfl (lv_at hl 0 rfl) ?_
      refine va_get (D := (dC, dI)) (ci := 9) (v := .ref jgC) (C := RX9) (T := TX9) (N := 12) hx hb hts qoj hown hK hP 0 rfl rfl 1 (by decide) (hts _ qK6) (fun _ h9 => h9) rfl (qaa qcj 5 rfl) ?_
      refine lv_iload_n hx hb (qaa qcj 6 rfl) rfl (lv_at hl 1 rfl) ?_
      obtain ⟨hi9, hw⟩ := hw
      refine va_iald hx hb hK hP 1 1 rfl rfl hi9 (qaa qcj 7 rfl) ?_
      refine lv_topi (fun x4 ex4 => ?_)
      have hw := hw x4 ex4
      obtain ⟨hi9, hw⟩ := hw
      refine va_iast hx hb hK hP hD hS 2 1 rfl rfl hi9 (qaa qcj 8 rfl) (fun H locs hP hD hS => ?_)
      obtain ⟨f5, ef5⟩ : ∃ y : NI, y = upd jmk jjF.toNatClampNeg x4 := ⟨_, rfl⟩
      have hw := hw f5 ef5
      have hP : va_P (dC, dI) vwCl (qHR a0 jni jgC jgh joZ jme jlw jjf jjF ja4 ja0 jaG jaF jgC cyI jiX jlw cyI f5 jgh cyI jiF) H := by rw [ef5]; exact hP
      have hD : va_D A (qHR a0 jni jgC jgh joZ jme jlw jjf jjF ja4 ja0 jaG jaF jgC cyI jiX jlw cyI f5 jgh cyI jiF) := by rw [ef5]; exact hD
      refine lv_aload_n hx hb (qaa qcj 9 rfl) rfl (lv_at hl 0 rfl) ?_
      refine lv_dup hx hb (qaa qcj 10 rfl) rfl ?_
      refine va_get (D := (dC, dI)) (ci := 9) (v := .int jjF) (C := RX9) (T := TX9) (N := 12) hx hb hts qoj hown hK hP 0 rfl rfl 7 (by decide) (hts _ qwW) (fun _ h9 => h9) rfl (qaa qcj 11 rfl) ?_
      refine lv_iconst (v := 1) hx hb (qaa qcj 12 rfl) (by decide) ?_
      refine lv_iadd hx hb (qaa qcj 13 rfl) ?_
      refine lv_topi (fun x6 ex6 => ?_)
      have hw := hw x6 ex6
      refine va_put (D := (dC, dI)) (ci := 9) (v := .int x6) (ty := .int) (C := RX9) (T := TX9) (N := 12) hx hb hts qoj tyX9 tyX9_ok nmX9 hown hK hP hD hS 0 rfl rfl 7 (by decide) (hts _ qwW) (fun _ h9 => h9) rfl (by decide +kernel) rfl rfl (nbq rfl) (qaa qcj 14 rfl) (fun H locs hP hD hS => ?_)
      have hP : va_P (dC, dI) vwCl (qHR a0 jni jgC jgh joZ jme jlw jjf x6 ja4 ja0 jaG jaF jgC cyI jiX jlw cyI f5 jgh cyI jiF) H := hP
      have hD : va_D A (qHR a0 jni jgC jgh joZ jme jlw jjf x6 ja4 ja0 jaG jaF jgC cyI jiX jlw cyI f5 jgh cyI jiF) := hD
      refine lv_iload_n hx hb (qaa qcj 15 rfl) rfl (lv_at hl 1 rfl) ?_
      refine lv_iconst (v := 1) hx hb (qaa qDE 0 rfl) (by decide) ?_
      refine lv_iadd hx hb (qaa qDE 1 rfl) ?_
      exact ((W.iret (v := (p1 + 1)) hx hb hr (fun t ht hW => ⟨⟨(p1 + 1), (f5, x6), rfl, hw, by rw [ht]; exact hP, va_K.moved hW.alike hK, hD⟩, hS.F ht⟩) hS.2.2 (qaa qDE 2 rfl)))
    · have hw := hw.2 c3
      exact qNC dC dI cyB cyI cyJ cyP a0 jgC jlw jgh jni joZ jme jjf ja4 ja0 jaG jaF jiX jiF Q C0 _ _ _ jmk jjF p1 hP hD hS (lv_sub hl [0, 1] rfl) hw
set_option maxHeartbeats 4000000 in
set_option maxRecDepth 100000 in
theorem qaJf (l : Launch) (dC : Nat → ClassId) (dI : Nat → Nat → Nat) (cyB cyI cyJ cyP : ClassId) (a0 jch sz : Nat) (jcD ji6 jhx : Value) (jdE : NI) (p1 p2 p3 : Int32) {Q : Int32 → Prop} (hw : qTg jdE p1 p2 p3 Q) : Met l yX1_couldPay wsX1_couldPay ({ frames := 1, cells := 0, slots := 0, locals := 22 }) (va_Pc [.ref a0, .int p1, .int p2, .int p3] (cPc (dC, dI) (kT cyB cyI cyJ cyP) (qux a0 jch jcD ji6 jhx jch cyI jdE) sz)) (va_Qi (fun (r : Int32) (_ : Unit) => Q r ) (cB (dC, dI) (kT cyB cyI cyJ cyP) (va_A (qux a0 jch jcD ji6 jhx jch cyI jdE) sz) (fun u : Unit => ((qux a0 jch jcD ji6 jhx jch cyI jdE) : va_W))) (va_A (qux a0 jch jcD ji6 jhx jch cyI jdE) sz)) 0 0 (va_A (qux a0 jch jcD ji6 jhx jch cyI jdE) sz) := by
  refine Met.ofW (cc := cX1_couldPay) (maxL := 4) (ret := (some .boolean)) (by decide) rfl ?_
  intro p e s m args below meth c s₁ B hml hv
  obtain ⟨rfl, hsz, hP, hK, hD0, hNw⟩ := hv
  have hx := B.exec
  have hb := B.bytes
  have hr := B.returns
  have hts := atoms_spec (ws := wsX1_couldPay) B.pre
  have hown : s.vm.findClass RX1 = some m.cls := findClass_of_methodNamed B.named
  have hlocks := B.notSynchronized
  subst hsz
  have hD := hD0.self (sz := s.heap.size)
  generalize hAe : va_A (qux a0 jch jcD ji6 jhx jch cyI jdE) s.heap.size = A at hD ⊢
  have hA : ∀ q : Nat, s.heap.size ≤ q → A q := fun q h => by rw [← hAe]; exact Or.inr h
  have hS : va_S A s.heap s.heap [] := va_S.rf
  have hP : va_P (dC, dI) vwCl (qux a0 jch jcD ji6 jhx jch cyI jdE) s.heap := hP
  have hl := lv_entry ([.ref a0, .int p1, .int p2, .int p3]) (n := 4) (nbq rfl)
  rw [lg_entry_eq]
  generalize (lg_sl ([.ref a0, .int p1, .int p2, .int p3]) ++ List.replicate (4 - (lg_sl ([.ref a0, .int p1, .int p2, .int p3])).length) Slot.unset).toArray = ls at hl ⊢
  have hl : lv_has ls 4 [(0, .ref a0), (1, .int p1), (2, .int p2), (3, .int p3)] := hl
  have C0 : cfx p s m _ meth c cX1_couldPay (some .boolean) wsX1_couldPay RX1 4 A (dC, dI) (kT cyB cyI cyJ cyP) := ⟨hx, hb, hr, hts, hown, hlocks, hml, hA, hK, hNw⟩
  clear hAe
  obtain ⟨H, hH⟩ : ∃ H, H = s.heap := ⟨_, rfl⟩
  rw [← hH] at hP ⊢
  have hS : va_S A s.heap H [] := by rw [hH]; exact va_S.rf
  have hS := hS
  refine lv_aload_n hx hb (qaa qfx 0 rfl) rfl (lv_at hl 0 rfl) ?_
  refine lv_iload_n hx hb (qaa qfx 1 rfl) rfl (lv_at hl 1 rfl) ?_
  obtain ⟨hCc, hPc, hDc, hFc⟩ := qac (ws' := (qux a0 jch jcD ji6 jhx jch cyI jdE)) hP hD hS hA [0, 1] (by decide +kernel) rfl
  refine va_calli (va_runV (As := [.int p1]) (rest := []) ⟨hx, hb, hml, hown, hts⟩ (qh8 l dC dI cyB cyI cyJ cyP a0 jch H.size (jcD) (ji6) (jhx) jdE p1 hw) (cwV 1 hts gX1_couldPay_X1_isCaught rfl rfl rfl (by decide +kernel) ⟨nbq rfl, nbq rfl⟩) ⟨qab, va_recv (q := (RX1, TX1, 4)) hK hPc (ci := 1) (q0 := 0) rfl rfl, qae hPc hK hDc hNw⟩ rfl rfl hl.1 rfl (lv_room (nbq rfl)) (qaa qfx 2 rfl) ⟨nbq rfl, nbq rfl⟩) hS (fun q _ h => hFc q h) hFc (fun r1 u t H1 locs ht hvm hw hB hz1 hk1 hS => ?_)
  obtain ⟨hP1, hK1, hD1⟩ := hB
  rw [ht] at hP1
  obtain ⟨hP, hD⟩ := qah (wr := []) (w1 := (qux a0 jch jcD ji6 jhx jch cyI jdE)) (wn := (qux a0 jch jcD ji6 jhx jch cyI jdE)) hP hD [0, 1] [] hCc rfl (by decide +kernel) (by decide +kernel) rfl hk1 hFc hP1 hD1
  generalize H1 = H at hP hS ⊢
  refine lv_if_ne (tgt := 30) hx hb (qaa qfx 3 rfl) (by decide) (fun c2 => ?_) (fun c2 => ?_)
  · have hw := hw.1 c2
    refine lv_iconst (v := 0) hx hb (qaa qsV 0 rfl) (by decide) ?_
    exact ((W.zret (v := 0) hx hb hr rfl (fun t ht hW => ⟨⟨0, (), rfl, hw, by rw [ht]; exact hP, va_K.moved hW.alike hK, hD⟩, hS.F ht⟩) hS.2.2 (qaa qsV 1 rfl)))
  · have hw := hw.2 c2
    refine lv_aload_n hx hb (qaa qfx 4 rfl) rfl (lv_at hl 0 rfl) ?_
    refine lv_iload_n hx hb (qaa qfx 5 rfl) rfl (lv_at hl 2 rfl) ?_
    obtain ⟨hCc, hPc, hDc, hFc⟩ := qac (ws' := (qux a0 jch jcD ji6 jhx jch cyI jdE)) hP hD hS hA [0, 1] (by decide +kernel) rfl
    refine va_calli (va_runV (As := [.int p2]) (rest := []) ⟨hx, hb, hml, hown, hts⟩ (qh8 l dC dI cyB cyI cyJ cyP a0 jch H.size (jcD) (ji6) (jhx) jdE p2 hw) (cwV 1 hts gX1_couldPay_X1_isCaught rfl rfl rfl (by decide +kernel) ⟨nbq rfl, nbq rfl⟩) ⟨qab, va_recv (q := (RX1, TX1, 4)) hK hPc (ci := 1) (q0 := 0) rfl rfl, qae hPc hK hDc hNw⟩ rfl rfl hl.1 rfl (lv_room (nbq rfl)) (qaa qfx 6 rfl) ⟨nbq rfl, nbq rfl⟩) hS (fun q _ h => hFc q h) hFc (fun r3 u t H1 locs ht hvm hw hB hz1 hk1 hS => ?_)
    obtain ⟨hP1, hK1, hD1⟩ := hB
    rw [ht] at hP1
    obtain ⟨hP, hD⟩ := qah (wr := []) (w1 := (qux a0 jch jcD ji6 jhx jch cyI jdE)) (wn := (qux a0 jch jcD ji6 jhx jch cyI jdE)) hP hD [0, 1] [] hCc rfl (by decide +kernel) (by decide +kernel) rfl hk1 hFc hP1 hD1
    generalize H1 = H at hP hS ⊢
    refine lv_if_ne (tgt := 30) hx hb (qaa qfx 7 rfl) (by decide) (fun c4 => ?_) (fun c4 => ?_)
    · have hw := hw.1 c4
      refine lv_iconst (v := 0) hx hb (qaa qsV 0 rfl) (by decide) ?_
      exact ((W.zret (v := 0) hx hb hr rfl (fun t ht hW => ⟨⟨0, (), rfl, hw, by rw [ht]; exact hP, va_K.moved hW.alike hK, hD⟩, hS.F ht⟩) hS.2.2 (qaa qsV 1 rfl)))
    · have hw := hw.2 c4
      refine lv_aload_n hx hb (qaa qfx 8 rfl) rfl (lv_at hl 0 rfl) ?_
      refine lv_iload_n hx hb (qaa qfx 9 rfl) rfl (lv_at hl 1 rfl) ?_
      refine lv_iload_n hx hb (qaa qfx 10 rfl) rfl (lv_at hl 2 rfl) ?_
      obtain ⟨hCc, hPc, hDc, hFc⟩ := qac (ws' := (qux a0 jch jcD ji6 jhx jch cyI jdE)) hP hD hS hA [0, 1] (by decide +kernel) rfl
      refine va_calli (va_runV (As := [.int p1, .int p2]) (rest := []) ⟨hx, hb, hml, hown, hts⟩ (qF4 l dC dI cyB cyI cyJ cyP a0 jch H.size (jcD) (ji6) (jhx) jdE p1 p2 hw) (cwV 2 hts gX1_couldPay_X1_owesTo rfl rfl rfl (by decide +kernel) ⟨nbq rfl, nbq rfl⟩) ⟨qab, va_recv (q := (RX1, TX1, 4)) hK hPc (ci := 1) (q0 := 0) rfl rfl, qae hPc hK hDc hNw⟩ rfl rfl hl.1 rfl (lv_room (nbq rfl)) (qaa qfx 11 rfl) ⟨nbq rfl, nbq rfl⟩) hS (fun q _ h => hFc q h) hFc (fun r5 u t H1 locs ht hvm hw hB hz1 hk1 hS => ?_)
      obtain ⟨hP1, hK1, hD1⟩ := hB
      rw [ht] at hP1
      obtain ⟨hP, hD⟩ := qah (wr := []) (w1 := (qux a0 jch jcD ji6 jhx jch cyI jdE)) (wn := (qux a0 jch jcD ji6 jhx jch cyI jdE)) hP hD [0, 1] [] hCc rfl (by decide +kernel) (by decide +kernel) rfl hk1 hFc hP1 hD1
      generalize H1 = H at hP hS ⊢
      refine lv_iload_n hx hb (qaa qfx 12 rfl) rfl (lv_at hl 3 rfl) ?_
      refine lv_icmp_lt (tgt := 30) hx hb (qaa qfx 13 rfl) (by decide) (fun c6 => ?_) (fun c6 => ?_)
      · have hw := hw.1 c6
        refine lv_iconst (v := 0) hx hb (qaa qsV 0 rfl) (by decide) ?_
        exact ((W.zret (v := 0) hx hb hr rfl (fun t ht hW => ⟨⟨0, (), rfl, hw, by rw [ht]; exact hP, va_K.moved hW.alike hK, hD⟩, hS.F ht⟩) hS.2.2 (qaa qsV 1 rfl)))
      · have hw := hw.2 c6
        refine lv_iconst (v := 1) hx hb (qaa qfx 14 rfl) (by decide) ?_
        refine lv_goto (tgt := 31) hx hb (qaa qfx 15 rfl) (by decide) ?_
        exact ((W.zret (v := 1) hx hb hr rfl (fun t ht hW => ⟨⟨1, (), rfl, hw, by rw [ht]; exact hP, va_K.moved hW.alike hK, hD⟩, hS.F ht⟩) hS.2.2 (qaa qsV 1 rfl)))
theorem qqh : ∀ w ∈ u_ws RX9 TX9 12, w ∈ wsX9_isAllowed := uiM qod euX9 (by decide +kernel)
theorem qaai : (.fieldLink RX9 11 "MarchHares$Work" "kinds" "[I" : Cond) ∈ wsX9_isAllowed := qod 266 (by decide +kernel)
theorem qFY : (.fieldLink RX9 15 "MarchHares$Work" "first" "[I" : Cond) ∈ wsX9_isAllowed := qod 267 (by decide +kernel)
theorem qFo : (.fieldLink RX9 18 "MarchHares$Work" "second" "[I" : Cond) ∈ wsX9_isAllowed := qod 268 (by decide +kernel)
theorem qabd : (.fieldLink RX9 21 "MarchHares$Work" "third" "[I" : Cond) ∈ wsX9_isAllowed := qod 269 (by decide +kernel)
set_option maxHeartbeats 4000000 in
set_option maxRecDepth 100000 in
theorem qaAl (l : Launch) (dC : Nat → ClassId) (dI : Nat → Nat → Nat) (cyB cyI cyJ cyP : ClassId) (a0 a2 jbU jnX jgC jgh jnP jon joo jo0 jox joB joy jop jho sz : Nat) (jme jkw jjf joE ja4 ja0 jaG jaF jnW jor jos jot joM jof jou jog joh jo5 : Value) (jdC joK jiX jiF : NI) (jnR : Int32) (joQ joR : NI) (joS : Int32) (joV joT jjg joJ joN : NI) (p1 : Int32) {Q : Int32 → NI → NI → Prop} (hw : qQz jdC joK jiX jiF jnR joQ joR joS joV joT jjg joJ joN p1 Q) : Met l yX9_isAllowed wsX9_isAllowed ({ frames := 4, cells := 0, slots := 0, locals := 99 }) (va_Pc [.ref a0, .int p1, .ref a2] (cPc (dC, dI) (kT cyB cyI cyJ cyP) (qP1 a0 jbU jgC jgh jho jme jkw jjf joE ja4 ja0 jaG jaF jbU cyI jdC a2 jnX jnW jnP jo0 jnX cyI joK jgC cyI jiX jgh cyI jiF jnP jon joo jor jos jot joM jof jou jog jnR joh jo5 jon cyI joQ joo cyI joR jo0 joy jop joB jox joS jox cyI joJ joB cyI joN joy cyI joV jop cyI joT jho cyI jjg) sz)) (va_Qi (fun (r : Int32) (u : NI × NI) => Q r u.1 u.2) (cB (dC, dI) (kT cyB cyI cyJ cyP) (va_A (qP1 a0 jbU jgC jgh jho jme jkw jjf joE ja4 ja0 jaG jaF jbU cyI jdC a2 jnX jnW jnP jo0 jnX cyI joK jgC cyI jiX jgh cyI jiF jnP jon joo jor jos jot joM jof jou jog jnR joh jo5 jon cyI joQ joo cyI joR jo0 joy jop joB jox joS jox cyI joJ joB cyI joN joy cyI joV jop cyI joT jho cyI jjg) sz) (fun u : NI × NI => ((qP1 a0 jbU jgC jgh jho jme jkw jjf joE ja4 ja0 jaG jaF jbU cyI jdC a2 jnX jnW jnP jo0 jnX cyI joK jgC cyI jiX jgh cyI jiF jnP jon joo jor jos jot joM jof jou jog jnR joh jo5 jon cyI joQ joo cyI joR jo0 joy jop joB jox joS jox cyI u.1 joB cyI u.2 joy cyI joV jop cyI joT jho cyI jjg) : va_W))) (va_A (qP1 a0 jbU jgC jgh jho jme jkw jjf joE ja4 ja0 jaG jaF jbU cyI jdC a2 jnX jnW jnP jo0 jnX cyI joK jgC cyI jiX jgh cyI jiF jnP jon joo jor jos jot joM jof jou jog jnR joh jo5 jon cyI joQ joo cyI joR jo0 joy jop joB jox joS jox cyI joJ joB cyI joN joy cyI joV jop cyI joT jho cyI jjg) sz)) 0 0 (va_A (qP1 a0 jbU jgC jgh jho jme jkw jjf joE ja4 ja0 jaG jaF jbU cyI jdC a2 jnX jnW jnP jo0 jnX cyI joK jgC cyI jiX jgh cyI jiF jnP jon joo jor jos jot joM jof jou jog jnR joh jo5 jon cyI joQ joo cyI joR jo0 joy jop joB jox joS jox cyI joJ joB cyI joN joy cyI joV jop cyI joT jho cyI jjg) sz) := by
  refine Met.ofW (cc := cX9_isAllowed) (maxL := 3) (ret := (some .boolean)) (by decide) rfl ?_
  intro p e s m args below meth c s₁ B hml hv
  obtain ⟨rfl, hsz, hP, hK, hD0, hNw⟩ := hv
  have hx := B.exec
  have hb := B.bytes
  have hr := B.returns
  have hts := atoms_spec (ws := wsX9_isAllowed) B.pre
  have hown : s.vm.findClass RX9 = some m.cls := findClass_of_methodNamed B.named
  have hlocks := B.notSynchronized
  subst hsz
  have hD := hD0.self (sz := s.heap.size)
  generalize hAe : va_A (qP1 a0 jbU jgC jgh jho jme jkw jjf joE ja4 ja0 jaG jaF jbU cyI jdC a2 jnX jnW jnP jo0 jnX cyI joK jgC cyI jiX jgh cyI jiF jnP jon joo jor jos jot joM jof jou jog jnR joh jo5 jon cyI joQ joo cyI joR jo0 joy jop joB jox joS jox cyI joJ joB cyI joN joy cyI joV jop cyI joT jho cyI jjg) s.heap.size = A at hD ⊢
  have hA : ∀ q : Nat, s.heap.size ≤ q → A q := fun q h => by rw [← hAe]; exact Or.inr h
  have hS : va_S A s.heap s.heap [] := va_S.rf
  have hP : va_P (dC, dI) vwCl (qP1 a0 jbU jgC jgh jho jme jkw jjf joE ja4 ja0 jaG jaF jbU cyI jdC a2 jnX jnW jnP jo0 jnX cyI joK jgC cyI jiX jgh cyI jiF jnP jon joo jor jos jot joM jof jou jog jnR joh jo5 jon cyI joQ joo cyI joR jo0 joy jop joB jox joS jox cyI joJ joB cyI joN joy cyI joV jop cyI joT jho cyI jjg) s.heap := hP
  have hl := lv_entry ([.ref a0, .int p1, .ref a2]) (n := 3) (nbq rfl)
  rw [lg_entry_eq]
  generalize (lg_sl ([.ref a0, .int p1, .ref a2]) ++ List.replicate (3 - (lg_sl ([.ref a0, .int p1, .ref a2])).length) Slot.unset).toArray = ls at hl ⊢
  have hl : lv_has ls 3 [(0, .ref a0), (1, .int p1), (2, .ref a2)] := hl
  have C0 : cfx p s m _ meth c cX9_isAllowed (some .boolean) wsX9_isAllowed RX9 3 A (dC, dI) (kT cyB cyI cyJ cyP) := ⟨hx, hb, hr, hts, hown, hlocks, hml, hA, hK, hNw⟩
  clear hAe
  obtain ⟨H, hH⟩ : ∃ H, H = s.heap := ⟨_, rfl⟩
  rw [← hH] at hP ⊢
  have hS : va_S A s.heap H [] := by rw [hH]; exact va_S.rf
  have hS := hS
  refine lv_aload_n hx hb (qaa qC6 0 rfl) rfl (lv_at hl 0 rfl) ?_
  refine va_get (D := (dC, dI)) (ci := 9) (v := .ref jbU) (C := RX9) (T := TX9) (N := 12) hx hb hts qqh hown hK hP 0 rfl rfl 0 (by decide) (hts _ qaai) (fun _ h9 => h9) rfl (qaa qC6 1 rfl) ?_
  refine lv_iload_n hx hb (qaa qC6 2 rfl) rfl (lv_at hl 1 rfl) ?_
  obtain ⟨hi9, hw⟩ := hw
  refine va_iald hx hb hK hP 1 1 rfl rfl hi9 (qaa qC6 3 rfl) ?_
  refine lv_topi (fun x1 ex1 => ?_)
  have hw := hw x1 ex1
  by_cases c2 : x1.toInt < 0 ∨ 2 < x1.toInt
  · have hw := hw.1 c2
    refine lv_tableOut (tgt := 89) hx hb dX9_isAllowed_6 c2 (by decide) ?_
    refine lv_aload_n hx hb (qaa qe2 5 rfl) rfl (lv_at hl 2 rfl) ?_
    obtain ⟨hCc, hPc, hDc, hFc⟩ := qac (ws' := (qal7 a2 jnX jnW jnP jo0 jnX cyI joK)) hP hD hS hA [2, 3] (by decide +kernel) rfl
    refine va_calli (va_runV (As := []) (rest := []) ⟨hx, hb, hml, hown, hts⟩ (qaK9 l dC dI cyB cyI cyJ cyP a2 jnX H.size (jnW) (.ref jnP) (.ref jo0) joK hw) (cwV 0 hts gX9_isAllowed_X1_year rfl rfl rfl (by decide +kernel) ⟨nbq rfl, nbq rfl⟩) ⟨qab, va_recv (q := (RX1, TX1, 4)) hK hPc (ci := 1) (q0 := 0) rfl rfl, qae hPc hK hDc hNw⟩ rfl rfl hl.1 rfl (lv_room (nbq rfl)) (qaa qe2 6 rfl) ⟨nbq rfl, nbq rfl⟩) hS (fun q _ h => hFc q h) hFc (fun r3 u t H1 locs ht hvm hw hB hz1 hk1 hS => ?_)
    obtain ⟨hP1, hK1, hD1⟩ := hB
    rw [ht] at hP1
    obtain ⟨hP, hD⟩ := qad (wr := (qaWZ a0 jbU jgC jgh jho jme jkw jjf joE ja4 ja0 jaG jaF jbU cyI jdC jgC cyI jiX jgh cyI jiF jnP jon joo jor jos jot joM jof jou jog jnR joh jo5 jon cyI joQ joo cyI joR jo0 joy jop joB jox joS jox cyI joJ joB cyI joN joy cyI joV jop cyI joT jho cyI jjg)) (w1 := (qal7 a2 jnX jnW jnP jo0 jnX cyI joK)) (wn := (qP1 a0 jbU jgC jgh jho jme jkw jjf joE ja4 ja0 jaG jaF jbU cyI jdC a2 jnX jnW jnP jo0 jnX cyI joK jgC cyI jiX jgh cyI jiF jnP jon joo jor jos jot joM jof jou jog jnR joh jo5 jon cyI joQ joo cyI joR jo0 joy jop joB jox joS jox cyI joJ joB cyI joN joy cyI joV jop cyI joT jho cyI jjg)) hP hD [2, 3] [0, 1, 4, 5, 6, 7, 8, 9, 10, 11, 12, 13, 14] [0, 1, 13, 14, 2, 3, 4, 5, 6, 7, 8, 9, 10, 11, 12] hCc rfl (by decide +kernel) (by decide +kernel) (by decide +kernel) rfl hk1 hFc hP1 hD1
    generalize H1 = H at hP hS ⊢
    refine lv_bipush (v := 40) hx hb (qaa qe2 7 rfl) (by decide) ?_
    refine lv_icmp_ge (tgt := 102) hx hb (qaa qe2 8 rfl) (by decide) (fun c4 => ?_) (fun c4 => ?_)
    · have hw := hw.1 c4
      refine lv_iconst (v := 0) hx hb (qaa qe2 11 rfl) (by decide) ?_
      exact ((W.zret (v := 0) hx hb hr rfl (fun t ht hW => ⟨⟨0, (joJ, joN), rfl, hw, by rw [ht]; exact hP, va_K.moved hW.alike hK, hD⟩, hS.F ht⟩) hS.2.2 (qaa qe2 12 rfl)))
    · have hw := hw.2 c4
      refine lv_iconst (v := 1) hx hb (qaa qe2 9 rfl) (by decide) ?_
      refine lv_goto (tgt := 103) hx hb (qaa qe2 10 rfl) (by decide) ?_
      exact ((W.zret (v := 1) hx hb hr rfl (fun t ht hW => ⟨⟨1, (joJ, joN), rfl, hw, by rw [ht]; exact hP, va_K.moved hW.alike hK, hD⟩, hS.F ht⟩) hS.2.2 (qaa qe2 12 rfl)))
  · have hw := hw.2
    rcases qayU c2 with c2 | c2 | c2
    · have hw := hw.1 c2
      refine lv_tableIn (tgt := 32) (off := 26) hx hb dX9_isAllowed_6 (by rw [c2]; decide) (by rw [c2]; decide) (by rw [c2]; decide) (by decide) ?_
      refine lv_aload_n hx hb (qaa qdq 0 rfl) rfl (lv_at hl 2 rfl) ?_
      refine lv_aload_n hx hb (qaa qdq 1 rfl) rfl (lv_at hl 0 rfl) ?_
      refine va_get (D := (dC, dI)) (ci := 9) (v := .ref jgC) (C := RX9) (T := TX9) (N := 12) hx hb hts qqh hown hK hP 0 rfl rfl 1 (by decide) (hts _ qFY) (fun _ h9 => h9) rfl (qaa qdq 2 rfl) ?_
      refine lv_iload_n hx hb (qaa qdq 3 rfl) rfl (lv_at hl 1 rfl) ?_
      obtain ⟨hi9, hw⟩ := hw
      refine va_iald hx hb hK hP 4 1 rfl rfl hi9 (qaa qdq 4 rfl) ?_
      refine lv_topi (fun x5 ex5 => ?_)
      have hw := hw x5 ex5
      refine lv_aload_n hx hb (qaa qdq 5 rfl) rfl (lv_at hl 0 rfl) ?_
      refine va_get (D := (dC, dI)) (ci := 9) (v := .ref jgh) (C := RX9) (T := TX9) (N := 12) hx hb hts qqh hown hK hP 0 rfl rfl 2 (by decide) (hts _ qFo) (fun _ h9 => h9) rfl (qaa qdq 6 rfl) ?_
      refine lv_iload_n hx hb (qaa qdq 7 rfl) rfl (lv_at hl 1 rfl) ?_
      obtain ⟨hi9, hw⟩ := hw
      refine va_iald hx hb hK hP 5 1 rfl rfl hi9 (qaa qdq 8 rfl) ?_
      refine lv_topi (fun x6 ex6 => ?_)
      have hw := hw x6 ex6
      obtain ⟨hCc, hPc, hDc, hFc⟩ := qac (ws' := (qa6L a2 jnX jnW jnP jo0 jnX cyI joK jnP jon joo jor jos jot joM jof jou jog jnR joh jo5 jon cyI joQ joo cyI joR jo0 joy jop joB jox joS jox cyI joJ joB cyI joN joy cyI joV jop cyI joT)) hP hD hS hA [2, 3, 6, 7, 8, 9, 10, 11, 12, 13] (by decide +kernel) rfl
      refine va_calli (va_runV (As := [.int x5, .int x6]) (rest := []) ⟨hx, hb, hml, hown, hts⟩ (qQy l dC dI cyB cyI cyJ cyP a2 jnX jnP jon joo jo0 jox joB joy jop H.size (jnW) (jor) (jos) (jot) (joM) (jof) (jou) (jog) (joh) (jo5) joK jnR joQ joR joS joV joT joJ joN x5 x6 hw) (cwV 2 hts gX9_isAllowed_X1_couldLeap rfl rfl rfl (by decide +kernel) ⟨nbq rfl, nbq rfl⟩) ⟨qab, va_recv (q := (RX1, TX1, 4)) hK hPc (ci := 1) (q0 := 0) rfl rfl, qae hPc hK hDc hNw⟩ rfl rfl hl.1 rfl (lv_room (nbq rfl)) (qaa qdq 9 rfl) ⟨nbq rfl, nbq rfl⟩) hS (fun q _ h => hFc q h) hFc (fun r9 u t H1 locs ht hvm hw hB hz1 hk1 hS => ?_)
      obtain ⟨f7, f8⟩ := u
      obtain ⟨hP1, hK1, hD1⟩ := hB
      rw [ht] at hP1
      obtain ⟨hP, hD⟩ := qad (wr := (qa47 a0 jbU jgC jgh jho jme jkw jjf joE ja4 ja0 jaG jaF jbU cyI jdC jgC cyI jiX jgh cyI jiF jho cyI jjg)) (w1 := (qa6L a2 jnX jnW jnP jo0 jnX cyI joK jnP jon joo jor jos jot joM jof jou jog jnR joh jo5 jon cyI joQ joo cyI joR jo0 joy jop joB jox joS jox cyI f7 joB cyI f8 joy cyI joV jop cyI joT)) (wn := (qP1 a0 jbU jgC jgh jho jme jkw jjf joE ja4 ja0 jaG jaF jbU cyI jdC a2 jnX jnW jnP jo0 jnX cyI joK jgC cyI jiX jgh cyI jiF jnP jon joo jor jos jot joM jof jou jog jnR joh jo5 jon cyI joQ joo cyI joR jo0 joy jop joB jox joS jox cyI f7 joB cyI f8 joy cyI joV jop cyI joT jho cyI jjg)) hP hD [2, 3, 6, 7, 8, 9, 10, 11, 12, 13] [0, 1, 4, 5, 14] [0, 1, 5, 6, 2, 3, 7, 8, 9, 10, 11, 12, 13, 14, 4] hCc rfl (by decide +kernel) (by decide +kernel) (by decide +kernel) rfl hk1 hFc hP1 hD1
      generalize H1 = H at hP hS ⊢
      obtain ⟨hn9, hw⟩ := hw
      exact ((W.zret (v := r9) hx hb hr hn9 (fun t ht hW => ⟨⟨r9, (f7, f8), rfl, hw, by rw [ht]; exact hP, va_K.moved hW.alike hK, hD⟩, hS.F ht⟩) hS.2.2 (qaa qdq 10 rfl)))
    · have hw := hw.2.1 c2
      refine lv_tableIn (tgt := 49) (off := 43) hx hb dX9_isAllowed_6 (by rw [c2]; decide) (by rw [c2]; decide) (by rw [c2]; decide) (by decide) ?_
      refine lv_aload_n hx hb (qaa qdq 11 rfl) rfl (lv_at hl 2 rfl) ?_
      refine lv_aload_n hx hb (qaa qdq 12 rfl) rfl (lv_at hl 0 rfl) ?_
      refine va_get (D := (dC, dI)) (ci := 9) (v := .ref jgC) (C := RX9) (T := TX9) (N := 12) hx hb hts qqh hown hK hP 0 rfl rfl 1 (by decide) (hts _ qFY) (fun _ h9 => h9) rfl (qaa qdq 13 rfl) ?_
      refine lv_iload_n hx hb (qaa qdq 14 rfl) rfl (lv_at hl 1 rfl) ?_
      obtain ⟨hi9, hw⟩ := hw
      refine va_iald hx hb hK hP 4 1 rfl rfl hi9 (qaa qdq 15 rfl) ?_
      refine lv_topi (fun x10 ex10 => ?_)
      have hw := hw x10 ex10
      refine lv_aload_n hx hb (qaa qdu 0 rfl) rfl (lv_at hl 0 rfl) ?_
      refine va_get (D := (dC, dI)) (ci := 9) (v := .ref jgh) (C := RX9) (T := TX9) (N := 12) hx hb hts qqh hown hK hP 0 rfl rfl 2 (by decide) (hts _ qFo) (fun _ h9 => h9) rfl (qaa qdu 1 rfl) ?_
      refine lv_iload_n hx hb (qaa qdu 2 rfl) rfl (lv_at hl 1 rfl) ?_
      obtain ⟨hi9, hw⟩ := hw
      refine va_iald hx hb hK hP 5 1 rfl rfl hi9 (qaa qdu 3 rfl) ?_
      refine lv_topi (fun x11 ex11 => ?_)
      have hw := hw x11 ex11
      obtain ⟨hCc, hPc, hDc, hFc⟩ := qac (ws' := (qal7 a2 jnX jnW jnP jo0 jnX cyI joK)) hP hD hS hA [2, 3] (by decide +kernel) rfl
      refine va_calli (va_runV (As := [.int x10, .int x11]) (rest := []) ⟨hx, hb, hml, hown, hts⟩ (qZs l dC dI cyB cyI cyJ cyP a2 jnX H.size (jnW) (.ref jnP) (.ref jo0) joK x10 x11 hw) (cwV 2 hts gX9_isAllowed_X1_couldFight rfl rfl rfl (by decide +kernel) ⟨nbq rfl, nbq rfl⟩) ⟨qab, va_recv (q := (RX1, TX1, 4)) hK hPc (ci := 1) (q0 := 0) rfl rfl, qae hPc hK hDc hNw⟩ rfl rfl hl.1 rfl (lv_room (nbq rfl)) (qaa qdu 4 rfl) ⟨nbq rfl, nbq rfl⟩) hS (fun q _ h => hFc q h) hFc (fun r12 u t H1 locs ht hvm hw hB hz1 hk1 hS => ?_)
      obtain ⟨hP1, hK1, hD1⟩ := hB
      rw [ht] at hP1
      obtain ⟨hP, hD⟩ := qad (wr := (qaWZ a0 jbU jgC jgh jho jme jkw jjf joE ja4 ja0 jaG jaF jbU cyI jdC jgC cyI jiX jgh cyI jiF jnP jon joo jor jos jot joM jof jou jog jnR joh jo5 jon cyI joQ joo cyI joR jo0 joy jop joB jox joS jox cyI joJ joB cyI joN joy cyI joV jop cyI joT jho cyI jjg)) (w1 := (qal7 a2 jnX jnW jnP jo0 jnX cyI joK)) (wn := (qP1 a0 jbU jgC jgh jho jme jkw jjf joE ja4 ja0 jaG jaF jbU cyI jdC a2 jnX jnW jnP jo0 jnX cyI joK jgC cyI jiX jgh cyI jiF jnP jon joo jor jos jot joM jof jou jog jnR joh jo5 jon cyI joQ joo cyI joR jo0 joy jop joB jox joS jox cyI joJ joB cyI joN joy cyI joV jop cyI joT jho cyI jjg)) hP hD [2, 3] [0, 1, 4, 5, 6, 7, 8, 9, 10, 11, 12, 13, 14] [0, 1, 13, 14, 2, 3, 4, 5, 6, 7, 8, 9, 10, 11, 12] hCc rfl (by decide +kernel) (by decide +kernel) (by decide +kernel) rfl hk1 hFc hP1 hD1
      generalize H1 = H at hP hS ⊢
      obtain ⟨hn9, hw⟩ := hw
      exact ((W.zret (v := r12) hx hb hr hn9 (fun t ht hW => ⟨⟨r12, (joJ, joN), rfl, hw, by rw [ht]; exact hP, va_K.moved hW.alike hK, hD⟩, hS.F ht⟩) hS.2.2 (qaa qdu 5 rfl)))
    · have hw := hw.2.2 c2
      refine lv_tableIn (tgt := 66) (off := 60) hx hb dX9_isAllowed_6 (by rw [c2]; decide) (by rw [c2]; decide) (by rw [c2]; decide) (by decide) ?_
      refine lv_aload_n hx hb (qaa qdu 6 rfl) rfl (lv_at hl 2 rfl) ?_
      refine lv_aload_n hx hb (qaa qdu 7 rfl) rfl (lv_at hl 0 rfl) ?_
      refine va_get (D := (dC, dI)) (ci := 9) (v := .ref jgC) (C := RX9) (T := TX9) (N := 12) hx hb hts qqh hown hK hP 0 rfl rfl 1 (by decide) (hts _ qFY) (fun _ h9 => h9) rfl (qaa qdu 8 rfl) ?_
      refine lv_iload_n hx hb (qaa qdu 9 rfl) rfl (lv_at hl 1 rfl) ?_
      obtain ⟨hi9, hw⟩ := hw
      refine va_iald hx hb hK hP 4 1 rfl rfl hi9 (qaa qdu 10 rfl) ?_
      refine lv_topi (fun x13 ex13 => ?_)
      have hw := hw x13 ex13
      refine lv_aload_n hx hb (qaa qdu 11 rfl) rfl (lv_at hl 0 rfl) ?_
      refine va_get (D := (dC, dI)) (ci := 9) (v := .ref jgh) (C := RX9) (T := TX9) (N := 12) hx hb hts qqh hown hK hP 0 rfl rfl 2 (by decide) (hts _ qFo) (fun _ h9 => h9) rfl (qaa qdu 12 rfl) ?_
      refine lv_iload_n hx hb (qaa qdu 13 rfl) rfl (lv_at hl 1 rfl) ?_
      obtain ⟨hi9, hw⟩ := hw
      refine va_iald hx hb hK hP 5 1 rfl rfl hi9 (qaa qdu 14 rfl) ?_
      refine lv_topi (fun x14 ex14 => ?_)
      have hw := hw x14 ex14
      refine lv_aload_n hx hb (qaa qdu 15 rfl) rfl (lv_at hl 0 rfl) ?_
      refine va_get (D := (dC, dI)) (ci := 9) (v := .ref jho) (C := RX9) (T := TX9) (N := 12) hx hb hts qqh hown hK hP 0 rfl rfl 3 (by decide) (hts _ qabd) (fun _ h9 => h9) rfl (qaa qe2 0 rfl) ?_
      refine lv_iload_n hx hb (qaa qe2 1 rfl) rfl (lv_at hl 1 rfl) ?_
      obtain ⟨hi9, hw⟩ := hw
      refine va_iald hx hb hK hP 14 1 rfl rfl hi9 (qaa qe2 2 rfl) ?_
      refine lv_topi (fun x15 ex15 => ?_)
      have hw := hw x15 ex15
      obtain ⟨hCc, hPc, hDc, hFc⟩ := qac (ws' := (qal7 a2 jnX jnW jnP jo0 jnX cyI joK)) hP hD hS hA [2, 3] (by decide +kernel) rfl
      refine va_calli (va_runV (As := [.int x13, .int x14, .int x15]) (rest := []) ⟨hx, hb, hml, hown, hts⟩ (qaJf l dC dI cyB cyI cyJ cyP a2 jnX H.size (jnW) (.ref jnP) (.ref jo0) joK x13 x14 x15 hw) (cwV 3 hts gX9_isAllowed_X1_couldPay rfl rfl rfl (by decide +kernel) ⟨nbq rfl, nbq rfl⟩) ⟨qab, va_recv (q := (RX1, TX1, 4)) hK hPc (ci := 1) (q0 := 0) rfl rfl, qae hPc hK hDc hNw⟩ rfl rfl hl.1 rfl (lv_room (nbq rfl)) (qaa qe2 3 rfl) ⟨nbq rfl, nbq rfl⟩) hS (fun q _ h => hFc q h) hFc (fun r16 u t H1 locs ht hvm hw hB hz1 hk1 hS => ?_)
      obtain ⟨hP1, hK1, hD1⟩ := hB
      rw [ht] at hP1
      obtain ⟨hP, hD⟩ := qad (wr := (qaWZ a0 jbU jgC jgh jho jme jkw jjf joE ja4 ja0 jaG jaF jbU cyI jdC jgC cyI jiX jgh cyI jiF jnP jon joo jor jos jot joM jof jou jog jnR joh jo5 jon cyI joQ joo cyI joR jo0 joy jop joB jox joS jox cyI joJ joB cyI joN joy cyI joV jop cyI joT jho cyI jjg)) (w1 := (qal7 a2 jnX jnW jnP jo0 jnX cyI joK)) (wn := (qP1 a0 jbU jgC jgh jho jme jkw jjf joE ja4 ja0 jaG jaF jbU cyI jdC a2 jnX jnW jnP jo0 jnX cyI joK jgC cyI jiX jgh cyI jiF jnP jon joo jor jos jot joM jof jou jog jnR joh jo5 jon cyI joQ joo cyI joR jo0 joy jop joB jox joS jox cyI joJ joB cyI joN joy cyI joV jop cyI joT jho cyI jjg)) hP hD [2, 3] [0, 1, 4, 5, 6, 7, 8, 9, 10, 11, 12, 13, 14] [0, 1, 13, 14, 2, 3, 4, 5, 6, 7, 8, 9, 10, 11, 12] hCc rfl (by decide +kernel) (by decide +kernel) (by decide +kernel) rfl hk1 hFc hP1 hD1
      generalize H1 = H at hP hS ⊢
      obtain ⟨hn9, hw⟩ := hw
      exact ((W.zret (v := r16) hx hb hr hn9 (fun t ht hW => ⟨⟨r16, (joJ, joN), rfl, hw, by rw [ht]; exact hP, va_K.moved hW.alike hK, hD⟩, hS.F ht⟩) hS.2.2 (qaa qe2 4 rfl)))
theorem qarJ : ∀ w ∈ u_ws RX1 TX1 4, w ∈ wsX1_payBack := uiM qanU qV8 (by decide +kernel)
theorem qaix : (.fieldLink RX1 13 "MarchHares$Days" "row" "[I" : Cond) ∈ wsX1_payBack := qanU 276 (by decide +kernel)
set_option maxHeartbeats 4000000 in
set_option maxRecDepth 100000 in
theorem qaQ1 (l : Launch) (dC : Nat → ClassId) (dI : Nat → Nat → Nat) (cyB cyI cyJ cyP : ClassId) (a0 jch sz : Nat) (jcD ji6 jhx : Value) (jdE : NI) (p1 p2 p3 : Int32) {Q : NI → Prop} (hw : qWs jdE p1 p2 p3 Q) : Met l yX1_payBack wsX1_payBack ({ frames := 0, cells := 0, slots := 0, locals := 0 }) (va_Pc [.ref a0, .int p1, .int p2, .int p3] (cPc (dC, dI) (kT cyB cyI cyJ cyP) (qux a0 jch jcD ji6 jhx jch cyI jdE) sz)) (va_Qv (fun (u : NI) => Q u) (cB (dC, dI) (kT cyB cyI cyJ cyP) (va_A (qux a0 jch jcD ji6 jhx jch cyI jdE) sz) (fun u : NI => ((qux a0 jch jcD ji6 jhx jch cyI u) : va_W))) (va_A (qux a0 jch jcD ji6 jhx jch cyI jdE) sz)) 0 0 (va_A (qux a0 jch jcD ji6 jhx jch cyI jdE) sz) := by
  refine Met.ofW (cc := cX1_payBack) (maxL := 4) (ret := none) (by decide) rfl ?_
  intro p e s m args below meth c s₁ B hml hv
  obtain ⟨rfl, hsz, hP, hK, hD0, hNw⟩ := hv
  have hx := B.exec
  have hb := B.bytes
  have hr := B.returns
  have hts := atoms_spec (ws := wsX1_payBack) B.pre
  have hown : s.vm.findClass RX1 = some m.cls := findClass_of_methodNamed B.named
  have hlocks := B.notSynchronized
  subst hsz
  have hD := hD0.self (sz := s.heap.size)
  generalize hAe : va_A (qux a0 jch jcD ji6 jhx jch cyI jdE) s.heap.size = A at hD ⊢
  have hA : ∀ q : Nat, s.heap.size ≤ q → A q := fun q h => by rw [← hAe]; exact Or.inr h
  have hS : va_S A s.heap s.heap [] := va_S.rf
  have hP : va_P (dC, dI) vwCl (qux a0 jch jcD ji6 jhx jch cyI jdE) s.heap := hP
  have hl := lv_entry ([.ref a0, .int p1, .int p2, .int p3]) (n := 4) (nbq rfl)
  rw [lg_entry_eq]
  generalize (lg_sl ([.ref a0, .int p1, .int p2, .int p3]) ++ List.replicate (4 - (lg_sl ([.ref a0, .int p1, .int p2, .int p3])).length) Slot.unset).toArray = ls at hl ⊢
  have hl : lv_has ls 4 [(0, .ref a0), (1, .int p1), (2, .int p2), (3, .int p3)] := hl
  have C0 : cfx p s m _ meth c cX1_payBack none wsX1_payBack RX1 4 A (dC, dI) (kT cyB cyI cyJ cyP) := ⟨hx, hb, hr, hts, hown, hlocks, hml, hA, hK, hNw⟩
  clear hAe
  obtain ⟨H, hH⟩ : ∃ H, H = s.heap := ⟨_, rfl⟩
  rw [← hH] at hP ⊢
  have hS : va_S A s.heap H [] := by rw [hH]; exact va_S.rf
  have hS := hS
  refine lv_aload_n hx hb (qaa qio 0 rfl) rfl (lv_at hl 0 rfl) ?_
  refine va_get (D := (dC, dI)) (ci := 1) (v := .ref jch) (C := RX1) (T := TX1) (N := 4) hx hb hts qarJ hown hK hP 0 rfl rfl 0 (by decide) (hts _ qaix) (fun _ h9 => h9) rfl (qaa qio 1 rfl) ?_
  refine lv_bipush (v := 28) hx hb (qaa qio 2 rfl) (by decide) ?_
  refine lv_iload_n hx hb (qaa qio 3 rfl) rfl (lv_at hl 1 rfl) ?_
  refine lv_bipush (v := 6) hx hb (qaa qio 4 rfl) (by decide) ?_
  refine lv_imul hx hb (qaa qio 5 rfl) ?_
  refine lv_iadd hx hb (qaa qio 6 rfl) ?_
  refine lv_topi (fun x1 ex1 => ?_)
  have hw := hw x1 ex1
  refine lv_iload_n hx hb (qaa qio 7 rfl) rfl (lv_at hl 2 rfl) ?_
  refine lv_iadd hx hb (qaa qio 8 rfl) ?_
  refine lv_topi (fun x2 ex2 => ?_)
  have hw := hw x2 ex2
  refine lv_dup2_11 hx hb (qaa qio 9 rfl) rfl rfl ?_
  obtain ⟨hi9, hw⟩ := hw
  refine va_iald hx hb hK hP 1 1 rfl rfl hi9 (qaa qio 10 rfl) ?_
  refine lv_topi (fun x3 ex3 => ?_)
  have hw := hw x3 ex3
  refine lv_iload_n hx hb (qaa qio 11 rfl) rfl (lv_at hl 3 rfl) ?_
  refine lv_isub hx hb (qaa qio 12 rfl) ?_
  refine lv_topi (fun x4 ex4 => ?_)
  have hw := hw x4 ex4
  obtain ⟨hi9, hw⟩ := hw
  refine va_iast hx hb hK hP hD hS 1 1 rfl rfl hi9 (qaa qio 13 rfl) (fun H locs hP hD hS => ?_)
  obtain ⟨f5, ef5⟩ : ∃ y : NI, y = upd jdE x2.toNatClampNeg x4 := ⟨_, rfl⟩
  have hw := hw f5 ef5
  have hP : va_P (dC, dI) vwCl (qux a0 jch jcD ji6 jhx jch cyI f5) H := by rw [ef5]; exact hP
  have hD : va_D A (qux a0 jch jcD ji6 jhx jch cyI f5) := by rw [ef5]; exact hD
  exact ((W.vret hx hb hr (fun t ht hW => ⟨⟨(f5), rfl, hw, by rw [ht]; exact hP, va_K.moved hW.alike hK, hD⟩, hS.F ht⟩) hS.2.2 (qaa qio 14 rfl)))
theorem qtX : ∀ w ∈ u_ws RX9 TX9 12, w ∈ wsX9_doStep := uiM qth euX9 (by decide +kernel)
theorem qauj : (.fieldLink RX9 11 "MarchHares$Work" "kinds" "[I" : Cond) ∈ wsX9_doStep := qth 266 (by decide +kernel)
theorem qM3 : (.fieldLink RX9 15 "MarchHares$Work" "first" "[I" : Cond) ∈ wsX9_doStep := qth 267 (by decide +kernel)
theorem qNj : (.fieldLink RX9 18 "MarchHares$Work" "second" "[I" : Cond) ∈ wsX9_doStep := qth 268 (by decide +kernel)
theorem qapQ : (.fieldLink RX9 21 "MarchHares$Work" "third" "[I" : Cond) ∈ wsX9_doStep := qth 269 (by decide +kernel)
set_option maxHeartbeats 4000000 in
set_option maxRecDepth 100000 in
theorem qaWb (l : Launch) (dC : Nat → ClassId) (dI : Nat → Nat → Nat) (cyB cyI cyJ cyP : ClassId) (a0 a2 jbU jnP jnX jnU jgC jgh jho sz : Nat) (jme jkw jjf joE ja4 ja0 jaG jaF jnW jpe jo1 jo2 jor jos jot jof jou jog joh : Value) (jdC : NI) (jnR joW : Int32) (joG jiX jiF jjg joK : NI) (p1 : Int32) {Q : NI → Prop} (hw : q18 jdC jnR joW joG jiX jiF jjg joK p1 Q) : Met l yX9_doStep wsX9_doStep ({ frames := 5, cells := 0, slots := 0, locals := 107 }) (va_Pc [.ref a0, .int p1, .ref a2] (cPc (dC, dI) (kT cyB cyI cyJ cyP) (qQE a0 jbU jgC jgh jho jme jkw jjf joE ja4 ja0 jaG jaF jbU cyI jdC a2 jnX jnW jnP jpe jnP jo1 jo2 jor jos jot jnU jof jou jog jnR joh joW jnX cyI joK jnU cyI joG jgC cyI jiX jgh cyI jiF jho cyI jjg) sz)) (va_Qv (fun (u : NI) => Q u) (cB (dC, dI) (kT cyB cyI cyJ cyP) (va_A (qQE a0 jbU jgC jgh jho jme jkw jjf joE ja4 ja0 jaG jaF jbU cyI jdC a2 jnX jnW jnP jpe jnP jo1 jo2 jor jos jot jnU jof jou jog jnR joh joW jnX cyI joK jnU cyI joG jgC cyI jiX jgh cyI jiF jho cyI jjg) sz) (fun u : NI => ((qQE a0 jbU jgC jgh jho jme jkw jjf joE ja4 ja0 jaG jaF jbU cyI jdC a2 jnX jnW jnP jpe jnP jo1 jo2 jor jos jot jnU jof jou jog jnR joh joW jnX cyI u jnU cyI joG jgC cyI jiX jgh cyI jiF jho cyI jjg) : va_W))) (va_A (qQE a0 jbU jgC jgh jho jme jkw jjf joE ja4 ja0 jaG jaF jbU cyI jdC a2 jnX jnW jnP jpe jnP jo1 jo2 jor jos jot jnU jof jou jog jnR joh joW jnX cyI joK jnU cyI joG jgC cyI jiX jgh cyI jiF jho cyI jjg) sz)) 0 0 (va_A (qQE a0 jbU jgC jgh jho jme jkw jjf joE ja4 ja0 jaG jaF jbU cyI jdC a2 jnX jnW jnP jpe jnP jo1 jo2 jor jos jot jnU jof jou jog jnR joh joW jnX cyI joK jnU cyI joG jgC cyI jiX jgh cyI jiF jho cyI jjg) sz) := by
  refine Met.ofW (cc := cX9_doStep) (maxL := 3) (ret := none) (by decide) rfl ?_
  intro p e s m args below meth c s₁ B hml hv
  obtain ⟨rfl, hsz, hP, hK, hD0, hNw⟩ := hv
  have hx := B.exec
  have hb := B.bytes
  have hr := B.returns
  have hts := atoms_spec (ws := wsX9_doStep) B.pre
  have hown : s.vm.findClass RX9 = some m.cls := findClass_of_methodNamed B.named
  have hlocks := B.notSynchronized
  subst hsz
  have hD := hD0.self (sz := s.heap.size)
  generalize hAe : va_A (qQE a0 jbU jgC jgh jho jme jkw jjf joE ja4 ja0 jaG jaF jbU cyI jdC a2 jnX jnW jnP jpe jnP jo1 jo2 jor jos jot jnU jof jou jog jnR joh joW jnX cyI joK jnU cyI joG jgC cyI jiX jgh cyI jiF jho cyI jjg) s.heap.size = A at hD ⊢
  have hA : ∀ q : Nat, s.heap.size ≤ q → A q := fun q h => by rw [← hAe]; exact Or.inr h
  have hS : va_S A s.heap s.heap [] := va_S.rf
  have hP : va_P (dC, dI) vwCl (qQE a0 jbU jgC jgh jho jme jkw jjf joE ja4 ja0 jaG jaF jbU cyI jdC a2 jnX jnW jnP jpe jnP jo1 jo2 jor jos jot jnU jof jou jog jnR joh joW jnX cyI joK jnU cyI joG jgC cyI jiX jgh cyI jiF jho cyI jjg) s.heap := hP
  have hl := lv_entry ([.ref a0, .int p1, .ref a2]) (n := 3) (nbq rfl)
  rw [lg_entry_eq]
  generalize (lg_sl ([.ref a0, .int p1, .ref a2]) ++ List.replicate (3 - (lg_sl ([.ref a0, .int p1, .ref a2])).length) Slot.unset).toArray = ls at hl ⊢
  have hl : lv_has ls 3 [(0, .ref a0), (1, .int p1), (2, .ref a2)] := hl
  have C0 : cfx p s m _ meth c cX9_doStep none wsX9_doStep RX9 3 A (dC, dI) (kT cyB cyI cyJ cyP) := ⟨hx, hb, hr, hts, hown, hlocks, hml, hA, hK, hNw⟩
  clear hAe
  obtain ⟨H, hH⟩ : ∃ H, H = s.heap := ⟨_, rfl⟩
  rw [← hH] at hP ⊢
  have hS : va_S A s.heap H [] := by rw [hH]; exact va_S.rf
  have hS := hS
  refine lv_aload_n hx hb (qaa qKV 0 rfl) rfl (lv_at hl 0 rfl) ?_
  refine va_get (D := (dC, dI)) (ci := 9) (v := .ref jbU) (C := RX9) (T := TX9) (N := 12) hx hb hts qtX hown hK hP 0 rfl rfl 0 (by decide) (hts _ qauj) (fun _ h9 => h9) rfl (qaa qKV 1 rfl) ?_
  refine lv_iload_n hx hb (qaa qKV 2 rfl) rfl (lv_at hl 1 rfl) ?_
  obtain ⟨hi9, hw⟩ := hw
  refine va_iald hx hb hK hP 1 1 rfl rfl hi9 (qaa qKV 3 rfl) ?_
  refine lv_topi (fun x1 ex1 => ?_)
  have hw := hw x1 ex1
  by_cases c2 : x1.toInt < 0 ∨ 2 < x1.toInt
  · have hw := hw.1 c2
    refine lv_tableOut (tgt := 95) hx hb dX9_doStep_6 c2 (by decide) ?_
    refine lv_aload_n hx hb (qaa qo4 5 rfl) rfl (lv_at hl 2 rfl) ?_
    obtain ⟨hCc, hPc, hDc, hFc⟩ := qac (ws' := (qa4E a2 jnX jnW jnP jpe jnP jo1 jo2 jor jos jot jnU jof jou jog jnR joh joW jnX cyI joK jnU cyI joG)) hP hD hS hA [2, 3, 4, 5] (by decide +kernel) rfl
    refine va_callv (va_runV (As := []) (rest := []) ⟨hx, hb, hml, hown, hts⟩ (qX2 l dC dI cyB cyI cyJ cyP a2 jnP jnX jnU H.size (jnW) (jpe) (jo1) (jo2) (jor) (jos) (jot) (jof) (jou) (jog) (joh) jnR joW joG joK hw) (cwV 0 hts gX9_doStep_X1_passDay rfl rfl rfl (by decide +kernel) ⟨nbq rfl, nbq rfl⟩) ⟨qab, va_recv (q := (RX1, TX1, 4)) hK hPc (ci := 1) (q0 := 0) rfl rfl, qae hPc hK hDc hNw⟩ rfl rfl hl.1 rfl (lv_room (nbq rfl)) (qaa qo4 6 rfl) ⟨nbq rfl, nbq rfl⟩) hS (fun q _ h => hFc q h) hFc (fun u t H1 locs ht hvm hw hB hz1 hk1 hS => ?_)
    obtain ⟨f3, rfl⟩ : ∃ z, z = u := ⟨_, rfl⟩
    obtain ⟨hP1, hK1, hD1⟩ := hB
    rw [ht] at hP1
    obtain ⟨hP, hD⟩ := qad (wr := (qa47 a0 jbU jgC jgh jho jme jkw jjf joE ja4 ja0 jaG jaF jbU cyI jdC jgC cyI jiX jgh cyI jiF jho cyI jjg)) (w1 := (qa4E a2 jnX jnW jnP jpe jnP jo1 jo2 jor jos jot jnU jof jou jog jnR joh joW jnX cyI f3 jnU cyI joG)) (wn := (qQE a0 jbU jgC jgh jho jme jkw jjf joE ja4 ja0 jaG jaF jbU cyI jdC a2 jnX jnW jnP jpe jnP jo1 jo2 jor jos jot jnU jof jou jog jnR joh joW jnX cyI f3 jnU cyI joG jgC cyI jiX jgh cyI jiF jho cyI jjg)) hP hD [2, 3, 4, 5] [0, 1, 6, 7, 8] [0, 1, 5, 6, 7, 8, 2, 3, 4] hCc rfl (by decide +kernel) (by decide +kernel) (by decide +kernel) rfl hk1 hFc hP1 hD1
    generalize H1 = H at hP hS ⊢
    exact ((W.vret hx hb hr (fun t ht hW => ⟨⟨(f3), rfl, hw, by rw [ht]; exact hP, va_K.moved hW.alike hK, hD⟩, hS.F ht⟩) hS.2.2 (qaa qo4 7 rfl)))
  · have hw := hw.2
    rcases qayU c2 with c2 | c2 | c2
    · have hw := hw.1 c2
      refine lv_tableIn (tgt := 32) (off := 26) hx hb dX9_doStep_6 (by rw [c2]; decide) (by rw [c2]; decide) (by rw [c2]; decide) (by decide) ?_
      refine lv_aload_n hx hb (qaa qhM 0 rfl) rfl (lv_at hl 2 rfl) ?_
      refine lv_aload_n hx hb (qaa qhM 1 rfl) rfl (lv_at hl 0 rfl) ?_
      refine va_get (D := (dC, dI)) (ci := 9) (v := .ref jgC) (C := RX9) (T := TX9) (N := 12) hx hb hts qtX hown hK hP 0 rfl rfl 1 (by decide) (hts _ qM3) (fun _ h9 => h9) rfl (qaa qhM 2 rfl) ?_
      refine lv_iload_n hx hb (qaa qhM 3 rfl) rfl (lv_at hl 1 rfl) ?_
      obtain ⟨hi9, hw⟩ := hw
      refine va_iald hx hb hK hP 6 1 rfl rfl hi9 (qaa qhM 4 rfl) ?_
      refine lv_topi (fun x4 ex4 => ?_)
      have hw := hw x4 ex4
      refine lv_aload_n hx hb (qaa qhM 5 rfl) rfl (lv_at hl 0 rfl) ?_
      refine va_get (D := (dC, dI)) (ci := 9) (v := .ref jgh) (C := RX9) (T := TX9) (N := 12) hx hb hts qtX hown hK hP 0 rfl rfl 2 (by decide) (hts _ qNj) (fun _ h9 => h9) rfl (qaa qhM 6 rfl) ?_
      refine lv_iload_n hx hb (qaa qhM 7 rfl) rfl (lv_at hl 1 rfl) ?_
      obtain ⟨hi9, hw⟩ := hw
      refine va_iald hx hb hK hP 7 1 rfl rfl hi9 (qaa qhM 8 rfl) ?_
      refine lv_topi (fun x5 ex5 => ?_)
      have hw := hw x5 ex5
      obtain ⟨hCc, hPc, hDc, hFc⟩ := qac (ws' := (qajR a2 jnX jnW jnP jpe jnX cyI joK)) hP hD hS hA [2, 4] (by decide +kernel) rfl
      refine va_callv (va_runV (As := [.int x4, .int x5]) (rest := []) ⟨hx, hb, hml, hown, hts⟩ (qaox l dC dI cyB cyI cyJ cyP a2 jnX H.size (jnW) (.ref jnP) (jpe) joK x4 x5 hw) (cwV 2 hts gX9_doStep_X1_leapTo rfl rfl rfl (by decide +kernel) ⟨nbq rfl, nbq rfl⟩) ⟨qab, va_recv (q := (RX1, TX1, 4)) hK hPc (ci := 1) (q0 := 0) rfl rfl, qae hPc hK hDc hNw⟩ rfl rfl hl.1 rfl (lv_room (nbq rfl)) (qaa qhM 9 rfl) ⟨nbq rfl, nbq rfl⟩) hS (fun q _ h => hFc q h) hFc (fun u t H1 locs ht hvm hw hB hz1 hk1 hS => ?_)
      obtain ⟨f6, rfl⟩ : ∃ z, z = u := ⟨_, rfl⟩
      obtain ⟨hP1, hK1, hD1⟩ := hB
      rw [ht] at hP1
      obtain ⟨hP, hD⟩ := qad (wr := (qaXu a0 jbU jgC jgh jho jme jkw jjf joE ja4 ja0 jaG jaF jbU cyI jdC jnP jo1 jo2 jor jos jot jnU jof jou jog jnR joh joW jnU cyI joG jgC cyI jiX jgh cyI jiF jho cyI jjg)) (w1 := (qajR a2 jnX jnW jnP jpe jnX cyI f6)) (wn := (qQE a0 jbU jgC jgh jho jme jkw jjf joE ja4 ja0 jaG jaF jbU cyI jdC a2 jnX jnW jnP jpe jnP jo1 jo2 jor jos jot jnU jof jou jog jnR joh joW jnX cyI f6 jnU cyI joG jgC cyI jiX jgh cyI jiF jho cyI jjg)) hP hD [2, 4] [0, 1, 3, 5, 6, 7, 8] [0, 1, 7, 2, 8, 3, 4, 5, 6] hCc rfl (by decide +kernel) (by decide +kernel) (by decide +kernel) rfl hk1 hFc hP1 hD1
      generalize H1 = H at hP hS ⊢
      refine lv_goto (tgt := 99) hx hb (qaa qhM 10 rfl) (by decide) ?_
      exact ((W.vret hx hb hr (fun t ht hW => ⟨⟨(f6), rfl, hw, by rw [ht]; exact hP, va_K.moved hW.alike hK, hD⟩, hS.F ht⟩) hS.2.2 (qaa qo4 7 rfl)))
    · have hw := hw.2.1 c2
      refine lv_tableIn (tgt := 51) (off := 45) hx hb dX9_doStep_6 (by rw [c2]; decide) (by rw [c2]; decide) (by rw [c2]; decide) (by decide) ?_
      refine lv_aload_n hx hb (qaa qhM 11 rfl) rfl (lv_at hl 2 rfl) ?_
      refine lv_aload_n hx hb (qaa qhM 12 rfl) rfl (lv_at hl 0 rfl) ?_
      refine va_get (D := (dC, dI)) (ci := 9) (v := .ref jgC) (C := RX9) (T := TX9) (N := 12) hx hb hts qtX hown hK hP 0 rfl rfl 1 (by decide) (hts _ qM3) (fun _ h9 => h9) rfl (qaa qhM 13 rfl) ?_
      refine lv_iload_n hx hb (qaa qhM 14 rfl) rfl (lv_at hl 1 rfl) ?_
      obtain ⟨hi9, hw⟩ := hw
      refine va_iald hx hb hK hP 6 1 rfl rfl hi9 (qaa qhM 15 rfl) ?_
      refine lv_topi (fun x7 ex7 => ?_)
      have hw := hw x7 ex7
      refine lv_aload_n hx hb (qaa qhQ 0 rfl) rfl (lv_at hl 0 rfl) ?_
      refine va_get (D := (dC, dI)) (ci := 9) (v := .ref jgh) (C := RX9) (T := TX9) (N := 12) hx hb hts qtX hown hK hP 0 rfl rfl 2 (by decide) (hts _ qNj) (fun _ h9 => h9) rfl (qaa qhQ 1 rfl) ?_
      refine lv_iload_n hx hb (qaa qhQ 2 rfl) rfl (lv_at hl 1 rfl) ?_
      obtain ⟨hi9, hw⟩ := hw
      refine va_iald hx hb hK hP 7 1 rfl rfl hi9 (qaa qhQ 3 rfl) ?_
      refine lv_topi (fun x8 ex8 => ?_)
      have hw := hw x8 ex8
      obtain ⟨hCc, hPc, hDc, hFc⟩ := qac (ws' := (qajR a2 jnX jnW jnP jpe jnX cyI joK)) hP hD hS hA [2, 4] (by decide +kernel) rfl
      refine va_callv (va_runV (As := [.int x7, .int x8]) (rest := []) ⟨hx, hb, hml, hown, hts⟩ (qazA l dC dI cyB cyI cyJ cyP a2 jnX H.size (jnW) (.ref jnP) (jpe) joK x7 x8 hw) (cwV 2 hts gX9_doStep_X1_fight rfl rfl rfl (by decide +kernel) ⟨nbq rfl, nbq rfl⟩) ⟨qab, va_recv (q := (RX1, TX1, 4)) hK hPc (ci := 1) (q0 := 0) rfl rfl, qae hPc hK hDc hNw⟩ rfl rfl hl.1 rfl (lv_room (nbq rfl)) (qaa qhQ 4 rfl) ⟨nbq rfl, nbq rfl⟩) hS (fun q _ h => hFc q h) hFc (fun u t H1 locs ht hvm hw hB hz1 hk1 hS => ?_)
      obtain ⟨f9, rfl⟩ : ∃ z, z = u := ⟨_, rfl⟩
      obtain ⟨hP1, hK1, hD1⟩ := hB
      rw [ht] at hP1
      obtain ⟨hP, hD⟩ := qad (wr := (qaXu a0 jbU jgC jgh jho jme jkw jjf joE ja4 ja0 jaG jaF jbU cyI jdC jnP jo1 jo2 jor jos jot jnU jof jou jog jnR joh joW jnU cyI joG jgC cyI jiX jgh cyI jiF jho cyI jjg)) (w1 := (qajR a2 jnX jnW jnP jpe jnX cyI f9)) (wn := (qQE a0 jbU jgC jgh jho jme jkw jjf joE ja4 ja0 jaG jaF jbU cyI jdC a2 jnX jnW jnP jpe jnP jo1 jo2 jor jos jot jnU jof jou jog jnR joh joW jnX cyI f9 jnU cyI joG jgC cyI jiX jgh cyI jiF jho cyI jjg)) hP hD [2, 4] [0, 1, 3, 5, 6, 7, 8] [0, 1, 7, 2, 8, 3, 4, 5, 6] hCc rfl (by decide +kernel) (by decide +kernel) (by decide +kernel) rfl hk1 hFc hP1 hD1
      generalize H1 = H at hP hS ⊢
      refine lv_goto (tgt := 99) hx hb (qaa qhQ 5 rfl) (by decide) ?_
      exact ((W.vret hx hb hr (fun t ht hW => ⟨⟨(f9), rfl, hw, by rw [ht]; exact hP, va_K.moved hW.alike hK, hD⟩, hS.F ht⟩) hS.2.2 (qaa qo4 7 rfl)))
    · have hw := hw.2.2 c2
      refine lv_tableIn (tgt := 70) (off := 64) hx hb dX9_doStep_6 (by rw [c2]; decide) (by rw [c2]; decide) (by rw [c2]; decide) (by decide) ?_
      refine lv_aload_n hx hb (qaa qhQ 6 rfl) rfl (lv_at hl 2 rfl) ?_
      refine lv_aload_n hx hb (qaa qhQ 7 rfl) rfl (lv_at hl 0 rfl) ?_
      refine va_get (D := (dC, dI)) (ci := 9) (v := .ref jgC) (C := RX9) (T := TX9) (N := 12) hx hb hts qtX hown hK hP 0 rfl rfl 1 (by decide) (hts _ qM3) (fun _ h9 => h9) rfl (qaa qhQ 8 rfl) ?_
      refine lv_iload_n hx hb (qaa qhQ 9 rfl) rfl (lv_at hl 1 rfl) ?_
      obtain ⟨hi9, hw⟩ := hw
      refine va_iald hx hb hK hP 6 1 rfl rfl hi9 (qaa qhQ 10 rfl) ?_
      refine lv_topi (fun x10 ex10 => ?_)
      have hw := hw x10 ex10
      refine lv_aload_n hx hb (qaa qhQ 11 rfl) rfl (lv_at hl 0 rfl) ?_
      refine va_get (D := (dC, dI)) (ci := 9) (v := .ref jgh) (C := RX9) (T := TX9) (N := 12) hx hb hts qtX hown hK hP 0 rfl rfl 2 (by decide) (hts _ qNj) (fun _ h9 => h9) rfl (qaa qhQ 12 rfl) ?_
      refine lv_iload_n hx hb (qaa qhQ 13 rfl) rfl (lv_at hl 1 rfl) ?_
      obtain ⟨hi9, hw⟩ := hw
      refine va_iald hx hb hK hP 7 1 rfl rfl hi9 (qaa qhQ 14 rfl) ?_
      refine lv_topi (fun x11 ex11 => ?_)
      have hw := hw x11 ex11
      refine lv_aload_n hx hb (qaa qhQ 15 rfl) rfl (lv_at hl 0 rfl) ?_
      refine va_get (D := (dC, dI)) (ci := 9) (v := .ref jho) (C := RX9) (T := TX9) (N := 12) hx hb hts qtX hown hK hP 0 rfl rfl 3 (by decide) (hts _ qapQ) (fun _ h9 => h9) rfl (qaa qo4 0 rfl) ?_
      refine lv_iload_n hx hb (qaa qo4 1 rfl) rfl (lv_at hl 1 rfl) ?_
      obtain ⟨hi9, hw⟩ := hw
      refine va_iald hx hb hK hP 8 1 rfl rfl hi9 (qaa qo4 2 rfl) ?_
      refine lv_topi (fun x12 ex12 => ?_)
      have hw := hw x12 ex12
      obtain ⟨hCc, hPc, hDc, hFc⟩ := qac (ws' := (qajR a2 jnX jnW jnP jpe jnX cyI joK)) hP hD hS hA [2, 4] (by decide +kernel) rfl
      refine va_callv (va_runV (As := [.int x10, .int x11, .int x12]) (rest := []) ⟨hx, hb, hml, hown, hts⟩ (qaQ1 l dC dI cyB cyI cyJ cyP a2 jnX H.size (jnW) (.ref jnP) (jpe) joK x10 x11 x12 hw) (cwV 3 hts gX9_doStep_X1_payBack rfl rfl rfl (by decide +kernel) ⟨nbq rfl, nbq rfl⟩) ⟨qab, va_recv (q := (RX1, TX1, 4)) hK hPc (ci := 1) (q0 := 0) rfl rfl, qae hPc hK hDc hNw⟩ rfl rfl hl.1 rfl (lv_room (nbq rfl)) (qaa qo4 3 rfl) ⟨nbq rfl, nbq rfl⟩) hS (fun q _ h => hFc q h) hFc (fun u t H1 locs ht hvm hw hB hz1 hk1 hS => ?_)
      obtain ⟨f13, rfl⟩ : ∃ z, z = u := ⟨_, rfl⟩
      obtain ⟨hP1, hK1, hD1⟩ := hB
      rw [ht] at hP1
      obtain ⟨hP, hD⟩ := qad (wr := (qaXu a0 jbU jgC jgh jho jme jkw jjf joE ja4 ja0 jaG jaF jbU cyI jdC jnP jo1 jo2 jor jos jot jnU jof jou jog jnR joh joW jnU cyI joG jgC cyI jiX jgh cyI jiF jho cyI jjg)) (w1 := (qajR a2 jnX jnW jnP jpe jnX cyI f13)) (wn := (qQE a0 jbU jgC jgh jho jme jkw jjf joE ja4 ja0 jaG jaF jbU cyI jdC a2 jnX jnW jnP jpe jnP jo1 jo2 jor jos jot jnU jof jou jog jnR joh joW jnX cyI f13 jnU cyI joG jgC cyI jiX jgh cyI jiF jho cyI jjg)) hP hD [2, 4] [0, 1, 3, 5, 6, 7, 8] [0, 1, 7, 2, 8, 3, 4, 5, 6] hCc rfl (by decide +kernel) (by decide +kernel) (by decide +kernel) rfl hk1 hFc hP1 hD1
      generalize H1 = H at hP hS ⊢
      refine lv_goto (tgt := 99) hx hb (qaa qo4 4 rfl) (by decide) ?_
      exact ((W.vret hx hb hr (fun t ht hW => ⟨⟨(f13), rfl, hw, by rw [ht]; exact hP, va_K.moved hW.alike hK, hD⟩, hS.F ht⟩) hS.2.2 (qaa qo4 7 rfl)))
theorem qrL : ∀ w ∈ u_ws RX9 TX9 12, w ∈ wsX9_runOn := uiM qui euX9 (by decide +kernel)
theorem qNd : (.fieldLink RX9 102 "MarchHares$Work" "refused" "I" : Cond) ∈ wsX9_runOn := qui 1684 (by decide +kernel)
theorem q1d : (.fieldLink RX9 11 "MarchHares$Work" "kinds" "[I" : Cond) ∈ wsX9_runOn := qui 266 (by decide +kernel)
theorem qaBw : (.fieldLink RX9 37 "MarchHares$Work" "length" "I" : Cond) ∈ wsX9_runOn := qui 1606 (by decide +kernel)
theorem qaA0 : (.fieldLink RX9 40 "MarchHares$Work" "open" "I" : Cond) ∈ wsX9_runOn := qui 1607 (by decide +kernel)
theorem qPN : (.fieldLink RX9 99 "MarchHares$Work" "done" "I" : Cond) ∈ wsX9_runOn := qui 1683 (by decide +kernel)
set_option maxHeartbeats 4000000 in
set_option maxRecDepth 100000 in
theorem qQx {p : Program} {l : Launch} {e : Env} {s : State} {m : MethodId} {args : Array Value} {below : List Frame} {meth : Method} {c : Code} {A : Nat → Prop} (dC : Nat → ClassId) (dI : Nat → Nat → Nat) (cyB cyI cyJ cyP : ClassId) (a0 a1 jbU jjO jgC jgh jjN jjs jjt jlL jjL jj7 jjM jjw jho jlt jlw : Nat) (jme ja4 ja0 jjP jky jkz jkA jkd jkB jna jke : Value) (jb7 : Int32) (jdC jiX jiF : NI) (jh5 jkF : Int32) (jkl jkm : NI) (jka : Int32) (jkx jkb jjg jl5 : NI) (Q : Int32 → Int32 → Int32 → NI → NI → NI → NI → Prop) (K22 : Int32 → Int32 → Int32 → NI → NI → NI → NI → Int32 → Int32 → Int32 → Prop) (hK22 : ∀ (H : Heap) (locs : List Loc) (ls : Array Slot) (jiW jmI jjF : Int32) (jkt jkS jkO jmk : NI) (l2 l3 l4 : Int32), va_P (dC, dI) vwCl (qoW a0 jbU jgC jgh jho jme jlw jb7 jjF ja4 ja0 jiW jmI jbU cyI jdC a1 jjO jjP jjN jlL jjO cyI jkO jgC cyI jiX jgh cyI jiF jjN jjs jjt jky jkz jkA jlt jkd jkB jna jh5 jke jkF jjs cyI jkl jjt cyI jkm jlL jjM jjw jj7 jjL jka jjL cyI jkt jj7 cyI jkS jjM cyI jkx jjw cyI jkb jho cyI jjg jlt cyI jl5 jlw cyI jmk) H → va_D A (qoW a0 jbU jgC jgh jho jme jlw jb7 jjF ja4 ja0 jiW jmI jbU cyI jdC a1 jjO jjP jjN jlL jjO cyI jkO jgC cyI jiX jgh cyI jiF jjN jjs jjt jky jkz jkA jlt jkd jkB jna jh5 jke jkF jjs cyI jkl jjt cyI jkm jlL jjM jjw jj7 jjL jka jjL cyI jkt jj7 cyI jkS jjM cyI jkx jjw cyI jkb jho cyI jjg jlt cyI jl5 jlw cyI jmk) → va_S A s.heap H locs → lv_has ls 5 [(0, .ref a0), (1, .ref a1), (2, .int l2), (3, .int l3), (4, .int l4)] → K22 jiW jmI jjF jkt jkS jkO jmk l2 l3 l4 → W p l e (headSpec wsX9_runOn ({ frames := 6, cells := 0, slots := 0, locals := 129 })).room s m args below meth c H locs 0 0 (MQ below (va_Qv (fun (u : Int32 × Int32 × Int32 × NI × NI × NI × NI) => Q u.1 u.2.1 u.2.2.1 u.2.2.2.1 u.2.2.2.2.1 u.2.2.2.2.2.1 u.2.2.2.2.2.2) (cB (dC, dI) (kT cyB cyI cyJ cyP) A (fun u : Int32 × Int32 × Int32 × NI × NI × NI × NI => ((qoW a0 jbU jgC jgh jho jme jlw jb7 u.2.2.1 ja4 ja0 u.1 u.2.1 jbU cyI jdC a1 jjO jjP jjN jlL jjO cyI u.2.2.2.2.2.1 jgC cyI jiX jgh cyI jiF jjN jjs jjt jky jkz jkA jlt jkd jkB jna jh5 jke jkF jjs cyI jkl jjt cyI jkm jlL jjM jjw jj7 jjL jka jjL cyI u.2.2.2.1 jj7 cyI u.2.2.2.2.1 jjM cyI jkx jjw cyI jkb jho cyI jjg jlt cyI jl5 jlw cyI u.2.2.2.2.2.2) : va_W))) A) args s 0 0 A) (F0 m 22 ls [])) (C0 : cfx p s m args meth c cX9_runOn none wsX9_runOn RX9 5 A (dC, dI) (kT cyB cyI cyJ cyP)) : ∀ (H : Heap) (locs : List Loc) (ls : Array Slot) (jiW jmI jjF : Int32) (jkt jkS jkO jmk : NI) (l2 l3 l4 : Int32), va_P (dC, dI) vwCl (qoW a0 jbU jgC jgh jho jme jlw jb7 jjF ja4 ja0 jiW jmI jbU cyI jdC a1 jjO jjP jjN jlL jjO cyI jkO jgC cyI jiX jgh cyI jiF jjN jjs jjt jky jkz jkA jlt jkd jkB jna jh5 jke jkF jjs cyI jkl jjt cyI jkm jlL jjM jjw jj7 jjL jka jjL cyI jkt jj7 cyI jkS jjM cyI jkx jjw cyI jkb jho cyI jjg jlt cyI jl5 jlw cyI jmk) H → va_D A (qoW a0 jbU jgC jgh jho jme jlw jb7 jjF ja4 ja0 jiW jmI jbU cyI jdC a1 jjO jjP jjN jlL jjO cyI jkO jgC cyI jiX jgh cyI jiF jjN jjs jjt jky jkz jkA jlt jkd jkB jna jh5 jke jkF jjs cyI jkl jjt cyI jkm jlL jjM jjw jj7 jjL jka jjL cyI jkt jj7 cyI jkS jjM cyI jkx jjw cyI jkb jho cyI jjg jlt cyI jl5 jlw cyI jmk) → va_S A s.heap H locs → lv_has ls 5 [(0, .ref a0), (1, .ref a1), (2, .int l2), (3, .int l3), (4, .int l4)] → qHl jb7 jdC jiX jiF jh5 jkF jkl jkm jka jkx jkb jjg jl5 Q K22 jiW jmI jjF jkt jkS jkO jmk l2 l3 l4 → W p l e (headSpec wsX9_runOn ({ frames := 6, cells := 0, slots := 0, locals := 129 })).room s m args below meth c H locs 0 0 (MQ below (va_Qv (fun (u : Int32 × Int32 × Int32 × NI × NI × NI × NI) => Q u.1 u.2.1 u.2.2.1 u.2.2.2.1 u.2.2.2.2.1 u.2.2.2.2.2.1 u.2.2.2.2.2.2) (cB (dC, dI) (kT cyB cyI cyJ cyP) A (fun u : Int32 × Int32 × Int32 × NI × NI × NI × NI => ((qoW a0 jbU jgC jgh jho jme jlw jb7 u.2.2.1 ja4 ja0 u.1 u.2.1 jbU cyI jdC a1 jjO jjP jjN jlL jjO cyI u.2.2.2.2.2.1 jgC cyI jiX jgh cyI jiF jjN jjs jjt jky jkz jkA jlt jkd jkB jna jh5 jke jkF jjs cyI jkl jjt cyI jkm jlL jjM jjw jj7 jjL jka jjL cyI u.2.2.2.1 jj7 cyI u.2.2.2.2.1 jjM cyI jkx jjw cyI jkb jho cyI jjg jlt cyI jl5 jlw cyI u.2.2.2.2.2.2) : va_W))) A) args s 0 0 A) (F0 m 127 ls []) := by
  obtain ⟨hx, hb, hr, hts, hown, hlocks, hml, hA, hK, hNw⟩ := id C0
  intro H locs ls jiW jmI jjF jkt jkS jkO jmk l2 l3 l4 hP hD hS hl hw
  obtain ⟨x23, ex23⟩ : ∃ y : Int32, y = l4 + 1 := ⟨_, rfl⟩
  have hw := hw x23 ex23
  refine lv_iinc (v := x23) (lv' := [(4, .int x23), (0, .ref a0), (1, .ref a1), (2, .int l2), (3, .int l3)]) hx hb (qaa qnY 7 rfl) hl (k := 4) rfl (by rw [ex23]; rfl) (by decide) rfl (fun ls hl => ?_)
  refine lv_goto (tgt := 22) hx hb (qaa qnY 8 rfl) (by decide) ?_
  exact hK22 _ _ _ jiW jmI jjF jkt jkS jkO jmk l2 l3 x23 hP hD hS (lv_sub hl [1, 2, 3, 4, 0] rfl) hw
set_option maxHeartbeats 4000000 in
set_option maxRecDepth 100000 in
theorem q3S {p : Program} {l : Launch} {e : Env} {s : State} {m : MethodId} {args : Array Value} {below : List Frame} {meth : Method} {c : Code} {A : Nat → Prop} (dC : Nat → ClassId) (dI : Nat → Nat → Nat) (cyB cyI cyJ cyP : ClassId) (a0 a1 jbU jjO jgC jgh jjN jjs jjt jlL jjL jj7 jjM jjw jho jlt jlw : Nat) (jme ja4 ja0 jjP jky jkz jkA jkd jkB jna jke : Value) (jb7 : Int32) (jdC jiX jiF : NI) (jh5 jkF : Int32) (jkl jkm : NI) (jka : Int32) (jkx jkb jjg jl5 : NI) (Q : Int32 → Int32 → Int32 → NI → NI → NI → NI → Prop) (K22 : Int32 → Int32 → Int32 → NI → NI → NI → NI → Int32 → Int32 → Int32 → Prop) (hK22 : ∀ (H : Heap) (locs : List Loc) (ls : Array Slot) (jiW jmI jjF : Int32) (jkt jkS jkO jmk : NI) (l2 l3 l4 : Int32), va_P (dC, dI) vwCl (qoW a0 jbU jgC jgh jho jme jlw jb7 jjF ja4 ja0 jiW jmI jbU cyI jdC a1 jjO jjP jjN jlL jjO cyI jkO jgC cyI jiX jgh cyI jiF jjN jjs jjt jky jkz jkA jlt jkd jkB jna jh5 jke jkF jjs cyI jkl jjt cyI jkm jlL jjM jjw jj7 jjL jka jjL cyI jkt jj7 cyI jkS jjM cyI jkx jjw cyI jkb jho cyI jjg jlt cyI jl5 jlw cyI jmk) H → va_D A (qoW a0 jbU jgC jgh jho jme jlw jb7 jjF ja4 ja0 jiW jmI jbU cyI jdC a1 jjO jjP jjN jlL jjO cyI jkO jgC cyI jiX jgh cyI jiF jjN jjs jjt jky jkz jkA jlt jkd jkB jna jh5 jke jkF jjs cyI jkl jjt cyI jkm jlL jjM jjw jj7 jjL jka jjL cyI jkt jj7 cyI jkS jjM cyI jkx jjw cyI jkb jho cyI jjg jlt cyI jl5 jlw cyI jmk) → va_S A s.heap H locs → lv_has ls 5 [(0, .ref a0), (1, .ref a1), (2, .int l2), (3, .int l3), (4, .int l4)] → K22 jiW jmI jjF jkt jkS jkO jmk l2 l3 l4 → W p l e (headSpec wsX9_runOn ({ frames := 6, cells := 0, slots := 0, locals := 129 })).room s m args below meth c H locs 0 0 (MQ below (va_Qv (fun (u : Int32 × Int32 × Int32 × NI × NI × NI × NI) => Q u.1 u.2.1 u.2.2.1 u.2.2.2.1 u.2.2.2.2.1 u.2.2.2.2.2.1 u.2.2.2.2.2.2) (cB (dC, dI) (kT cyB cyI cyJ cyP) A (fun u : Int32 × Int32 × Int32 × NI × NI × NI × NI => ((qoW a0 jbU jgC jgh jho jme jlw jb7 u.2.2.1 ja4 ja0 u.1 u.2.1 jbU cyI jdC a1 jjO jjP jjN jlL jjO cyI u.2.2.2.2.2.1 jgC cyI jiX jgh cyI jiF jjN jjs jjt jky jkz jkA jlt jkd jkB jna jh5 jke jkF jjs cyI jkl jjt cyI jkm jlL jjM jjw jj7 jjL jka jjL cyI u.2.2.2.1 jj7 cyI u.2.2.2.2.1 jjM cyI jkx jjw cyI jkb jho cyI jjg jlt cyI jl5 jlw cyI u.2.2.2.2.2.2) : va_W))) A) args s 0 0 A) (F0 m 22 ls [])) (C0 : cfx p s m args meth c cX9_runOn none wsX9_runOn RX9 5 A (dC, dI) (kT cyB cyI cyJ cyP)) : ∀ (H : Heap) (locs : List Loc) (ls : Array Slot) (jiW jmI jjF : Int32) (jkt jkS jkO jmk : NI) (l2 l3 l4 : Int32), va_P (dC, dI) vwCl (qoW a0 jbU jgC jgh jho jme jlw jb7 jjF ja4 ja0 jiW jmI jbU cyI jdC a1 jjO jjP jjN jlL jjO cyI jkO jgC cyI jiX jgh cyI jiF jjN jjs jjt jky jkz jkA jlt jkd jkB jna jh5 jke jkF jjs cyI jkl jjt cyI jkm jlL jjM jjw jj7 jjL jka jjL cyI jkt jj7 cyI jkS jjM cyI jkx jjw cyI jkb jho cyI jjg jlt cyI jl5 jlw cyI jmk) H → va_D A (qoW a0 jbU jgC jgh jho jme jlw jb7 jjF ja4 ja0 jiW jmI jbU cyI jdC a1 jjO jjP jjN jlL jjO cyI jkO jgC cyI jiX jgh cyI jiF jjN jjs jjt jky jkz jkA jlt jkd jkB jna jh5 jke jkF jjs cyI jkl jjt cyI jkm jlL jjM jjw jj7 jjL jka jjL cyI jkt jj7 cyI jkS jjM cyI jkx jjw cyI jkb jho cyI jjg jlt cyI jl5 jlw cyI jmk) → va_S A s.heap H locs → lv_has ls 5 [(0, .ref a0), (1, .ref a1), (2, .int l2), (3, .int l3), (4, .int l4)] → qQM jb7 jdC jiX jiF jh5 jkF jkl jkm jka jkx jkb jjg jl5 Q K22 jiW jmI jjF jkt jkS jkO jmk l2 l3 l4 → W p l e (headSpec wsX9_runOn ({ frames := 6, cells := 0, slots := 0, locals := 129 })).room s m args below meth c H locs 0 0 (MQ below (va_Qv (fun (u : Int32 × Int32 × Int32 × NI × NI × NI × NI) => Q u.1 u.2.1 u.2.2.1 u.2.2.2.1 u.2.2.2.2.1 u.2.2.2.2.2.1 u.2.2.2.2.2.2) (cB (dC, dI) (kT cyB cyI cyJ cyP) A (fun u : Int32 × Int32 × Int32 × NI × NI × NI × NI => ((qoW a0 jbU jgC jgh jho jme jlw jb7 u.2.2.1 ja4 ja0 u.1 u.2.1 jbU cyI jdC a1 jjO jjP jjN jlL jjO cyI u.2.2.2.2.2.1 jgC cyI jiX jgh cyI jiF jjN jjs jjt jky jkz jkA jlt jkd jkB jna jh5 jke jkF jjs cyI jkl jjt cyI jkm jlL jjM jjw jj7 jjL jka jjL cyI u.2.2.2.1 jj7 cyI u.2.2.2.2.1 jjM cyI jkx jjw cyI jkb jho cyI jjg jlt cyI jl5 jlw cyI u.2.2.2.2.2.2) : va_W))) A) args s 0 0 A) (F0 m 124 ls []) := by
  obtain ⟨hx, hb, hr, hts, hown, hlocks, hml, hA, hK, hNw⟩ := id C0
  intro H locs ls jiW jmI jjF jkt jkS jkO jmk l2 l3 l4 hP hD hS hl hw
  obtain ⟨x22, ex22⟩ : ∃ y : Int32, y = l3 + 1 := ⟨_, rfl⟩
  have hw := hw x22 ex22
  refine lv_iinc (v := x22) (lv' := [(3, .int x22), (0, .ref a0), (1, .ref a1), (2, .int l2), (4, .int l4)]) hx hb (qaa qnY 6 rfl) hl (k := 3) rfl (by rw [ex22]; rfl) (by decide) rfl (fun ls hl => ?_)
  exact qQx dC dI cyB cyI cyJ cyP a0 a1 jbU jjO jgC jgh jjN jjs jjt jlL jjL jj7 jjM jjw jho jlt jlw jme ja4 ja0 jjP jky jkz jkA jkd jkB jna jke jb7 jdC jiX jiF jh5 jkF jkl jkm jka jkx jkb jjg jl5 Q K22 hK22 C0 _ _ _ jiW jmI jjF jkt jkS jkO jmk l2 x22 l4 hP hD hS (lv_sub hl [1, 2, 3, 0, 4] rfl) hw
set_option maxHeartbeats 4000000 in
set_option maxRecDepth 100000 in
theorem qaJC {p : Program} {l : Launch} {e : Env} {s : State} {m : MethodId} {args : Array Value} {below : List Frame} {meth : Method} {c : Code} {A : Nat → Prop} (dC : Nat → ClassId) (dI : Nat → Nat → Nat) (cyB cyI cyJ cyP : ClassId) (a0 a1 jbU jjO jgC jgh jjN jjs jjt jlL jjL jj7 jjM jjw jho jlt jlw : Nat) (jme ja4 ja0 jjP jky jkz jkA jkd jkB jna jke : Value) (jb7 : Int32) (jdC jiX jiF : NI) (jh5 jkF : Int32) (jkl jkm : NI) (jka : Int32) (jkx jkb jjg jl5 : NI) (Q : Int32 → Int32 → Int32 → NI → NI → NI → NI → Prop) (C0 : cfx p s m args meth c cX9_runOn none wsX9_runOn RX9 5 A (dC, dI) (kT cyB cyI cyJ cyP)) : ∀ (n : Nat) (H : Heap) (locs : List Loc) (ls : Array Slot) (jiW jmI jjF : Int32) (jkt jkS jkO jmk : NI) (l2 l3 l4 : Int32), va_P (dC, dI) vwCl (qoW a0 jbU jgC jgh jho jme jlw jb7 jjF ja4 ja0 jiW jmI jbU cyI jdC a1 jjO jjP jjN jlL jjO cyI jkO jgC cyI jiX jgh cyI jiF jjN jjs jjt jky jkz jkA jlt jkd jkB jna jh5 jke jkF jjs cyI jkl jjt cyI jkm jlL jjM jjw jj7 jjL jka jjL cyI jkt jj7 cyI jkS jjM cyI jkx jjw cyI jkb jho cyI jjg jlt cyI jl5 jlw cyI jmk) H → va_D A (qoW a0 jbU jgC jgh jho jme jlw jb7 jjF ja4 ja0 jiW jmI jbU cyI jdC a1 jjO jjP jjN jlL jjO cyI jkO jgC cyI jiX jgh cyI jiF jjN jjs jjt jky jkz jkA jlt jkd jkB jna jh5 jke jkF jjs cyI jkl jjt cyI jkm jlL jjM jjw jj7 jjL jka jjL cyI jkt jj7 cyI jkS jjM cyI jkx jjw cyI jkb jho cyI jjg jlt cyI jl5 jlw cyI jmk) → va_S A s.heap H locs → lv_has ls 5 [(0, .ref a0), (1, .ref a1), (2, .int l2), (3, .int l3), (4, .int l4)] → qqw jb7 jdC jiX jiF jh5 jkF jkl jkm jka jkx jkb jjg jl5 Q n jiW jmI jjF jkt jkS jkO jmk l2 l3 l4 → W p l e (headSpec wsX9_runOn ({ frames := 6, cells := 0, slots := 0, locals := 129 })).room s m args below meth c H locs 0 0 (MQ below (va_Qv (fun (u : Int32 × Int32 × Int32 × NI × NI × NI × NI) => Q u.1 u.2.1 u.2.2.1 u.2.2.2.1 u.2.2.2.2.1 u.2.2.2.2.2.1 u.2.2.2.2.2.2) (cB (dC, dI) (kT cyB cyI cyJ cyP) A (fun u : Int32 × Int32 × Int32 × NI × NI × NI × NI => ((qoW a0 jbU jgC jgh jho jme jlw jb7 u.2.2.1 ja4 ja0 u.1 u.2.1 jbU cyI jdC a1 jjO jjP jjN jlL jjO cyI u.2.2.2.2.2.1 jgC cyI jiX jgh cyI jiF jjN jjs jjt jky jkz jkA jlt jkd jkB jna jh5 jke jkF jjs cyI jkl jjt cyI jkm jlL jjM jjw jj7 jjL jka jjL cyI u.2.2.2.1 jj7 cyI u.2.2.2.2.1 jjM cyI jkx jjw cyI jkb jho cyI jjg jlt cyI jl5 jlw cyI u.2.2.2.2.2.2) : va_W))) A) args s 0 0 A) (F0 m 22 ls []) := by
  obtain ⟨hx, hb, hr, hts, hown, hlocks, hml, hA, hK, hNw⟩ := id C0
  intro n
  induction n with
  | zero => intro H locs ls jiW jmI jjF jkt jkS jkO jmk l2 l3 l4 hP hD hS hl hw; exact False.elim hw
  | succ n ih =>
    intro H locs ls jiW jmI jjF jkt jkS jkO jmk l2 l3 l4 hP hD hS hl hw
    refine lv_iload hx hb (qaa qmF 15 rfl) (lv_at hl 4 rfl) ?_
    refine lv_sipush (v := 20000) hx hb (qaa qiS 0 rfl) (by decide) ?_
    refine lv_icmp_ge (tgt := 133) hx hb (qaa qiS 1 rfl) (by decide) (fun c1 => ?_) (fun c1 => ?_)
    · have hw := hw.1 c1
      exact ((W.vret hx hb hr (fun t ht hW => ⟨⟨(jiW, jmI, jjF, jkt, jkS, jkO, jmk), rfl, hw, by rw [ht]; exact hP, va_K.moved hW.alike hK, hD⟩, hS.F ht⟩) hS.2.2 (qaa qnY 9 rfl)))
    · have hw := hw.2 c1
      refine lv_iload_n hx hb (qaa qiS 2 rfl) rfl (lv_at hl 2 rfl) ?_
      refine lv_sipush (v := 200) hx hb (qaa qiS 3 rfl) (by decide) ?_
      refine lv_icmp_ge (tgt := 133) hx hb (qaa qiS 4 rfl) (by decide) (fun c2 => ?_) (fun c2 => ?_)
      · have hw := hw.1 c2
        exact ((W.vret hx hb hr (fun t ht hW => ⟨⟨(jiW, jmI, jjF, jkt, jkS, jkO, jmk), rfl, hw, by rw [ht]; exact hP, va_K.moved hW.alike hK, hD⟩, hS.F ht⟩) hS.2.2 (qaa qnY 9 rfl)))
      · have hw := hw.2 c2
        refine lv_iload_n hx hb (qaa qiS 5 rfl) rfl (lv_at hl 3 rfl) ?_
        refine lv_aload_n hx hb (qaa qiS 6 rfl) rfl (lv_at hl 0 rfl) ?_
        refine va_get (D := (dC, dI)) (ci := 9) (v := .int jb7) (C := RX9) (T := TX9) (N := 12) hx hb hts qrL hown hK hP 0 rfl rfl 6 (by decide) (hts _ qaBw) (fun _ h9 => h9) rfl (qaa qiS 7 rfl) ?_
        refine lv_icmp_ge (tgt := 133) hx hb (qaa qiS 8 rfl) (by decide) (fun c3 => ?_) (fun c3 => ?_)
        · have hw := hw.1 c3
          exact ((W.vret hx hb hr (fun t ht hW => ⟨⟨(jiW, jmI, jjF, jkt, jkS, jkO, jmk), rfl, hw, by rw [ht]; exact hP, va_K.moved hW.alike hK, hD⟩, hS.F ht⟩) hS.2.2 (qaa qnY 9 rfl)))
        · have hw := hw.2 c3
          refine lv_aload_n hx hb (qaa qiS 9 rfl) rfl (lv_at hl 0 rfl) ?_
          refine va_get (D := (dC, dI)) (ci := 9) (v := .ref jbU) (C := RX9) (T := TX9) (N := 12) hx hb hts qrL hown hK hP 0 rfl rfl 0 (by decide) (hts _ q1d) (fun _ h9 => h9) rfl (qaa qiS 10 rfl) ?_
          refine lv_iload_n hx hb (qaa qiS 11 rfl) rfl (lv_at hl 3 rfl) ?_
          obtain ⟨hi9, hw⟩ := hw
          refine va_iald hx hb hK hP 1 1 rfl rfl hi9 (qaa qiS 12 rfl) ?_
          refine lv_topi (fun x4 ex4 => ?_)
          have hw := hw x4 ex4
          refine lv_iconst (v := 5) hx hb (qaa qiS 13 rfl) (by decide) ?_
          refine lv_icmp_ne (tgt := 64) hx hb (qaa qiS 14 rfl) (by decide) (fun c5 => ?_) (fun c5 => ?_)
          · have hw := hw.1 c5
            obtain ⟨x6, ex6⟩ : ∃ y : Int32, y = l2 + 1 := ⟨_, rfl⟩
            have hw := hw x6 ex6
            refine lv_iinc (v := x6) (lv' := [(2, .int x6), (0, .ref a0), (1, .ref a1), (3, .int l3), (4, .int l4)]) hx hb (qaa qjX 4 rfl) hl (k := 2) rfl (by rw [ex6]; rfl) (by decide) rfl (fun ls hl => ?_)
            refine lv_aload_n hx hb (qaa qjX 5 rfl) rfl (lv_at hl 1 rfl) ?_
            refine va_get (D := (dC, dI)) (ci := 9) (v := .ref jbU) (C := RX9) (T := TX9) (N := 12) hx hb hts qrL hown hK hP 0 rfl rfl 0 (by decide) (hts _ q1d) (fun _ h9 => h9) rfl (qaa qjX 6 rfl) ?_
            refine lv_iload_n hx hb (qaa qjX 7 rfl) rfl (lv_at hl 3 rfl) ?_
            obtain ⟨hi9, hw⟩ := hw
            refine va_iald hx hb hK hP 1 1 rfl rfl hi9 (qaa qjX 8 rfl) ?_
            refine lv_topi (fun x7 ex7 => ?_)
            have hw := hw x7 ex7
            refine lv_iconst (v := 4) hx hb (qaa qjX 9 rfl) (by decide) ?_
            refine lv_icmp_ne (tgt := 86) hx hb (qaa qjX 10 rfl) (by decide) (fun c8 => ?_) (fun c8 => ?_)
            · have hw := hw.1 c8
              refine lv_aload_n hx hb (qaa qjZ 0 rfl) rfl (lv_at hl 1 rfl) ?_
              refine lv_iload_n hx hb (qaa qjZ 1 rfl) rfl (lv_at hl 3 rfl) ?_
              refine lv_aload_n hx hb (qaa qjZ 2 rfl) rfl (lv_at hl 2 rfl) ?_
              obtain ⟨hCc, hPc, hDc, hFc⟩ := qac (ws' := (qa6r a0 jbU jgC jgh jho jme jlw jb7 jjF ja4 ja0 jiW jmI jbU cyI jdC a1 jjO jjP jjN jlL jjO cyI jkO jgC cyI jiX jgh cyI jiF jjN jjs jjt jky jkz jkA jlt jkd jkB jna jh5 jke jkF jjs cyI jkl jjt cyI jkm jlL jjM jjw jj7 jjL jka jjL cyI jkt jj7 cyI jkS jjM cyI jkx jjw cyI jkb jho cyI jjg)) hP hD hS hA [0, 1, 2, 3, 4, 5, 6, 7, 8, 9, 10, 11, 12, 13, 14] (by decide +kernel) rfl
              refine va_calli (va_runV (As := [.int l3, .ref a1]) (rest := []) ⟨hx, hb, hml, hown, hts⟩ (qaAl l dC dI cyB cyI cyJ cyP a0 a1 jbU jjO jgC jgh jjN jjs jjt jlL jjL jj7 jjM jjw jho H.size (jme) (.ref jlw) (.int jb7) (.int jjF) (ja4) (ja0) (.int jiW) (.int jmI) (jjP) (jky) (jkz) (jkA) (.ref jlt) (jkd) (jkB) (jna) (jke) (.int jkF) jdC jkO jiX jiF jh5 jkl jkm jka jkx jkb jjg jkt jkS l3 hw) (cwV 2 hts gX9_runOn_X9_isAllowed rfl rfl rfl (by decide +kernel) ⟨nbq rfl, nbq rfl⟩) ⟨qab, va_recv (q := (RX9, TX9, 12)) hK hPc (ci := 9) (q0 := 0) rfl rfl, qae hPc hK hDc hNw⟩ rfl rfl hl.1 rfl (lv_room (nbq rfl)) (qaa qjZ 3 rfl) ⟨nbq rfl, nbq rfl⟩) hS (fun q _ h => hFc q h) hFc (fun r11 u t H1 locs ht hvm hw hB hz1 hk1 hS => ?_)
              obtain ⟨f9, f10⟩ := u
              obtain ⟨hP1, hK1, hD1⟩ := hB
              rw [ht] at hP1
              obtain ⟨hP, hD⟩ := qad (wr := [(jlt, .inl (cyI, 6, .inl jl5)), (jlw, .inl (cyI, 6, .inl jmk))]) (w1 := (qa6r a0 jbU jgC jgh jho jme jlw jb7 jjF ja4 ja0 jiW jmI jbU cyI jdC a1 jjO jjP jjN jlL jjO cyI jkO jgC cyI jiX jgh cyI jiF jjN jjs jjt jky jkz jkA jlt jkd jkB jna jh5 jke jkF jjs cyI jkl jjt cyI jkm jlL jjM jjw jj7 jjL jka jjL cyI f9 jj7 cyI f10 jjM cyI jkx jjw cyI jkb jho cyI jjg)) (wn := (qoW a0 jbU jgC jgh jho jme jlw jb7 jjF ja4 ja0 jiW jmI jbU cyI jdC a1 jjO jjP jjN jlL jjO cyI jkO jgC cyI jiX jgh cyI jiF jjN jjs jjt jky jkz jkA jlt jkd jkB jna jh5 jke jkF jjs cyI jkl jjt cyI jkm jlL jjM jjw jj7 jjL jka jjL cyI f9 jj7 cyI f10 jjM cyI jkx jjw cyI jkb jho cyI jjg jlt cyI jl5 jlw cyI jmk)) hP hD [0, 1, 2, 3, 4, 5, 6, 7, 8, 9, 10, 11, 12, 13, 14] [15, 16] [2, 3, 4, 5, 6, 7, 8, 9, 10, 11, 12, 13, 14, 15, 16, 0, 1] hCc rfl (by decide +kernel) (by decide +kernel) (by decide +kernel) rfl hk1 hFc hP1 hD1
              generalize H1 = H at hP hS ⊢
              refine lv_if_eq (tgt := 114) hx hb (qaa qjZ 4 rfl) (by decide) (fun c12 => ?_) (fun c12 => ?_)
              · have hw := hw.1 c12
                refine lv_aload_n hx hb (qaa qnY 0 rfl) rfl (lv_at hl 1 rfl) ?_
                refine lv_dup hx hb (qaa qnY 1 rfl) rfl ?_
                refine va_get (D := (dC, dI)) (ci := 9) (v := .int jmI) (C := RX9) (T := TX9) (N := 12) hx hb hts qrL hown hK hP 0 rfl rfl 11 (by decide) (hts _ qNd) (fun _ h9 => h9) rfl (qaa qnY 2 rfl) ?_
                refine lv_iconst (v := 1) hx hb (qaa qnY 3 rfl) (by decide) ?_
                refine lv_iadd hx hb (qaa qnY 4 rfl) ?_
                refine lv_topi (fun x13 ex13 => ?_)
                have hw := hw x13 ex13
                refine va_put (D := (dC, dI)) (ci := 9) (v := .int x13) (ty := .int) (C := RX9) (T := TX9) (N := 12) hx hb hts qrL tyX9 tyX9_ok nmX9 hown hK hP hD hS 0 rfl rfl 11 (by decide) (hts _ qNd) (fun _ h9 => h9) rfl (by decide +kernel) rfl rfl (nbq rfl) (qaa qnY 5 rfl) (fun H locs hP hD hS => ?_)
                have hP : va_P (dC, dI) vwCl (qoW a0 jbU jgC jgh jho jme jlw jb7 jjF ja4 ja0 jiW x13 jbU cyI jdC a1 jjO jjP jjN jlL jjO cyI jkO jgC cyI jiX jgh cyI jiF jjN jjs jjt jky jkz jkA jlt jkd jkB jna jh5 jke jkF jjs cyI jkl jjt cyI jkm jlL jjM jjw jj7 jjL jka jjL cyI f9 jj7 cyI f10 jjM cyI jkx jjw cyI jkb jho cyI jjg jlt cyI jl5 jlw cyI jmk) H := hP
                have hD : va_D A (qoW a0 jbU jgC jgh jho jme jlw jb7 jjF ja4 ja0 jiW x13 jbU cyI jdC a1 jjO jjP jjN jlL jjO cyI jkO jgC cyI jiX jgh cyI jiF jjN jjs jjt jky jkz jkA jlt jkd jkB jna jh5 jke jkF jjs cyI jkl jjt cyI jkm jlL jjM jjw jj7 jjL jka jjL cyI f9 jj7 cyI f10 jjM cyI jkx jjw cyI jkb jho cyI jjg jlt cyI jl5 jlw cyI jmk) := hD
                exact q3S dC dI cyB cyI cyJ cyP a0 a1 jbU jjO jgC jgh jjN jjs jjt jlL jjL jj7 jjM jjw jho jlt jlw jme ja4 ja0 jjP jky jkz jkA jkd jkB jna jke jb7 jdC jiX jiF jh5 jkF jkl jkm jka jkx jkb jjg jl5 Q (qqw jb7 jdC jiX jiF jh5 jkF jkl jkm jka jkx jkb jjg jl5 Q n) ih C0 _ _ _ jiW x13 jjF f9 f10 jkO jmk x6 l3 l4 hP hD hS (lv_sub hl [1, 2, 0, 3, 4] rfl) hw
              · have hw := hw.2 c12
                refine lv_aload_n hx hb (qaa qjZ 5 rfl) rfl (lv_at hl 1 rfl) ?_
                refine lv_iload_n hx hb (qaa qjZ 6 rfl) rfl (lv_at hl 3 rfl) ?_
                refine lv_aload_n hx hb (qaa qjZ 7 rfl) rfl (lv_at hl 2 rfl) ?_
                obtain ⟨hCc, hPc, hDc, hFc⟩ := qac (ws' := (qa9s a0 jbU jgC jgh jho jme jlw jb7 jjF ja4 ja0 jiW jmI jbU cyI jdC a1 jjO jjP jjN jlL jjN jjs jjt jky jkz jkA jlt jkd jkB jna jh5 jke jkF jjO cyI jkO jlt cyI jl5 jgC cyI jiX jgh cyI jiF jho cyI jjg)) hP hD hS hA [0, 1, 2, 6, 3, 15, 4, 5, 14] (by decide +kernel) rfl
                refine va_callv (va_runV (As := [.int l3, .ref a1]) (rest := []) ⟨hx, hb, hml, hown, hts⟩ (qaWb l dC dI cyB cyI cyJ cyP a0 a1 jbU jjN jjO jlt jgC jgh jho H.size (jme) (.ref jlw) (.int jb7) (.int jjF) (ja4) (ja0) (.int jiW) (.int jmI) (jjP) (.ref jlL) (.ref jjs) (.ref jjt) (jky) (jkz) (jkA) (jkd) (jkB) (jna) (jke) jdC jh5 jkF jl5 jiX jiF jjg jkO l3 hw) (cwV 2 hts gX9_runOn_X9_doStep rfl rfl rfl (by decide +kernel) ⟨nbq rfl, nbq rfl⟩) ⟨qab, va_recv (q := (RX9, TX9, 12)) hK hPc (ci := 9) (q0 := 0) rfl rfl, qae hPc hK hDc hNw⟩ rfl rfl hl.1 rfl (lv_room (nbq rfl)) (qaa qjZ 8 rfl) ⟨nbq rfl, nbq rfl⟩) hS (fun q _ h => hFc q h) hFc (fun u t H1 locs ht hvm hw hB hz1 hk1 hS => ?_)
                obtain ⟨f14, rfl⟩ : ∃ z, z = u := ⟨_, rfl⟩
                obtain ⟨hP1, hK1, hD1⟩ := hB
                rw [ht] at hP1
                obtain ⟨hP, hD⟩ := qad (wr := [(jjs, .inl (cyI, 8, .inl jkl)), (jjt, .inl (cyI, 8, .inl jkm)), (jlL, .inr (4, [.ref jjM, .ref jjw, .ref jj7, .ref jjL, .int jka])), (jjL, .inl (cyI, 8, .inl f9)), (jj7, .inl (cyI, 150, .inl f10)), (jjM, .inl (cyI, 150, .inl jkx)), (jjw, .inl (cyI, 150, .inl jkb)), (jlw, .inl (cyI, 6, .inl jmk))]) (w1 := (qa9s a0 jbU jgC jgh jho jme jlw jb7 jjF ja4 ja0 jiW jmI jbU cyI jdC a1 jjO jjP jjN jlL jjN jjs jjt jky jkz jkA jlt jkd jkB jna jh5 jke jkF jjO cyI f14 jlt cyI jl5 jgC cyI jiX jgh cyI jiF jho cyI jjg)) (wn := (qoW a0 jbU jgC jgh jho jme jlw jb7 jjF ja4 ja0 jiW jmI jbU cyI jdC a1 jjO jjP jjN jlL jjO cyI f14 jgC cyI jiX jgh cyI jiF jjN jjs jjt jky jkz jkA jlt jkd jkB jna jh5 jke jkF jjs cyI jkl jjt cyI jkm jlL jjM jjw jj7 jjL jka jjL cyI f9 jj7 cyI f10 jjM cyI jkx jjw cyI jkb jho cyI jjg jlt cyI jl5 jlw cyI jmk)) hP hD [0, 1, 2, 6, 3, 15, 4, 5, 14] [7, 8, 9, 10, 11, 12, 13, 16] [8, 9, 10, 12, 14, 15, 11, 0, 1, 2, 3, 4, 5, 6, 16, 13, 7] hCc rfl (by decide +kernel) (by decide +kernel) (by decide +kernel) rfl hk1 hFc hP1 hD1
                generalize H1 = H at hP hS ⊢
                refine lv_aload_n hx hb (qaa qjZ 9 rfl) rfl (lv_at hl 1 rfl) ?_
                refine lv_dup hx hb (qaa qjZ 10 rfl) rfl ?_
                refine va_get (D := (dC, dI)) (ci := 9) (v := .int jiW) (C := RX9) (T := TX9) (N := 12) hx hb hts qrL hown hK hP 0 rfl rfl 10 (by decide) (hts _ qPN) (fun _ h9 => h9) rfl (qaa qjZ 11 rfl) ?_
                refine lv_iconst (v := 1) hx hb (qaa qjZ 12 rfl) (by decide) ?_
                refine lv_iadd hx hb (qaa qjZ 13 rfl) ?_
                refine lv_topi (fun x15 ex15 => ?_)
                have hw := hw x15 ex15
                refine va_put (D := (dC, dI)) (ci := 9) (v := .int x15) (ty := .int) (C := RX9) (T := TX9) (N := 12) hx hb hts qrL tyX9 tyX9_ok nmX9 hown hK hP hD hS 0 rfl rfl 10 (by decide) (hts _ qPN) (fun _ h9 => h9) rfl (by decide +kernel) rfl rfl (nbq rfl) (qaa qjZ 14 rfl) (fun H locs hP hD hS => ?_)
                have hP : va_P (dC, dI) vwCl (qoW a0 jbU jgC jgh jho jme jlw jb7 jjF ja4 ja0 x15 jmI jbU cyI jdC a1 jjO jjP jjN jlL jjO cyI f14 jgC cyI jiX jgh cyI jiF jjN jjs jjt jky jkz jkA jlt jkd jkB jna jh5 jke jkF jjs cyI jkl jjt cyI jkm jlL jjM jjw jj7 jjL jka jjL cyI f9 jj7 cyI f10 jjM cyI jkx jjw cyI jkb jho cyI jjg jlt cyI jl5 jlw cyI jmk) H := hP
                have hD : va_D A (qoW a0 jbU jgC jgh jho jme jlw jb7 jjF ja4 ja0 x15 jmI jbU cyI jdC a1 jjO jjP jjN jlL jjO cyI f14 jgC cyI jiX jgh cyI jiF jjN jjs jjt jky jkz jkA jlt jkd jkB jna jh5 jke jkF jjs cyI jkl jjt cyI jkm jlL jjM jjw jj7 jjL jka jjL cyI f9 jj7 cyI f10 jjM cyI jkx jjw cyI jkb jho cyI jjg jlt cyI jl5 jlw cyI jmk) := hD
                refine lv_goto (tgt := 124) hx hb (qaa qjZ 15 rfl) (by decide) ?_
                exact q3S dC dI cyB cyI cyJ cyP a0 a1 jbU jjO jgC jgh jjN jjs jjt jlL jjL jj7 jjM jjw jho jlt jlw jme ja4 ja0 jjP jky jkz jkA jkd jkB jna jke jb7 jdC jiX jiF jh5 jkF jkl jkm jka jkx jkb jjg jl5 Q (qqw jb7 jdC jiX jiF jh5 jkF jkl jkm jka jkx jkb jjg jl5 Q n) ih C0 _ _ _ x15 jmI jjF f9 f10 f14 jmk x6 l3 l4 hP hD hS (lv_sub hl [1, 2, 0, 3, 4] rfl) hw
            · have hw := hw.2 c8
              refine lv_aload_n hx hb (qaa qjX 11 rfl) rfl (lv_at hl 1 rfl) ?_
              refine lv_iload_n hx hb (qaa qjX 12 rfl) rfl (lv_at hl 3 rfl) ?_
              obtain ⟨hCc, hPc, hDc, hFc⟩ := qac (ws' := (qbaa a0 jbU jgC jgh jho jme jlw jb7 jjF ja4 ja0 jiW jmI jgC cyI jiX jlw cyI jmk jgh cyI jiF)) hP hD hS hA [0, 4, 16, 5] (by decide +kernel) rfl
              refine va_calli (va_runV (As := [.int l3]) (rest := []) ⟨hx, hb, hml, hown, hts⟩ (qanm l dC dI cyB cyI cyJ cyP a0 jgC jlw jgh H.size (.ref jbU) (.ref jho) (jme) (.int jb7) (ja4) (ja0) (.int jiW) (.int jmI) jiX jiF jmk jjF l3 hw) (cwV 1 hts gX9_runOn_X9_behindAgain rfl rfl rfl (by decide +kernel) ⟨nbq rfl, nbq rfl⟩) ⟨qab, va_recv (q := (RX9, TX9, 12)) hK hPc (ci := 9) (q0 := 0) rfl rfl, qae hPc hK hDc hNw⟩ rfl rfl hl.1 rfl (lv_room (nbq rfl)) (qaa qjX 13 rfl) ⟨nbq rfl, nbq rfl⟩) hS (fun q _ h => hFc q h) hFc (fun r18 u t H1 locs ht hvm hw hB hz1 hk1 hS => ?_)
              obtain ⟨f16, x17⟩ := u
              obtain ⟨hP1, hK1, hD1⟩ := hB
              rw [ht] at hP1
              obtain ⟨hP, hD⟩ := qad (wr := [(jbU, .inl (cyI, 50, .inl jdC)), (a1, .inr (1, [.ref jjO, jjP, .ref jjN, .ref jlL])), (jjO, .inl (cyI, 64, .inl jkO)), (jjN, .inr (2, [.ref jjs, .ref jjt, jky, jkz, jkA, .ref jlt, jkd, jkB, jna, .int jh5, jke, .int jkF])), (jjs, .inl (cyI, 8, .inl jkl)), (jjt, .inl (cyI, 8, .inl jkm)), (jlL, .inr (4, [.ref jjM, .ref jjw, .ref jj7, .ref jjL, .int jka])), (jjL, .inl (cyI, 8, .inl jkt)), (jj7, .inl (cyI, 150, .inl jkS)), (jjM, .inl (cyI, 150, .inl jkx)), (jjw, .inl (cyI, 150, .inl jkb)), (jho, .inl (cyI, 50, .inl jjg)), (jlt, .inl (cyI, 6, .inl jl5))]) (w1 := (qbaa a0 jbU jgC jgh jho jme jlw jb7 x17 ja4 ja0 jiW jmI jgC cyI jiX jlw cyI f16 jgh cyI jiF)) (wn := (qoW a0 jbU jgC jgh jho jme jlw jb7 x17 ja4 ja0 jiW jmI jbU cyI jdC a1 jjO jjP jjN jlL jjO cyI jkO jgC cyI jiX jgh cyI jiF jjN jjs jjt jky jkz jkA jlt jkd jkB jna jh5 jke jkF jjs cyI jkl jjt cyI jkm jlL jjM jjw jj7 jjL jka jjL cyI jkt jj7 cyI jkS jjM cyI jkx jjw cyI jkb jho cyI jjg jlt cyI jl5 jlw cyI f16)) hP hD [0, 4, 16, 5] [1, 2, 3, 6, 7, 8, 9, 10, 11, 12, 13, 14, 15] [13, 0, 1, 2, 14, 16, 3, 4, 5, 6, 7, 8, 9, 10, 11, 12, 15] hCc rfl (by decide +kernel) (by decide +kernel) (by decide +kernel) rfl hk1 hFc hP1 hD1
              generalize H1 = H at hP hS ⊢
              refine lv_istore_n (lv' := [(3, .int r18), (2, .int x6), (0, .ref a0), (1, .ref a1), (4, .int l4)]) hx hb (qaa qjX 14 rfl) rfl hl (by decide) rfl (fun ls hl => ?_)
              refine lv_goto (tgt := 127) hx hb (qaa qjX 15 rfl) (by decide) ?_
              exact qQx dC dI cyB cyI cyJ cyP a0 a1 jbU jjO jgC jgh jjN jjs jjt jlL jjL jj7 jjM jjw jho jlt jlw jme ja4 ja0 jjP jky jkz jkA jkd jkB jna jke jb7 jdC jiX jiF jh5 jkF jkl jkm jka jkx jkb jjg jl5 Q (qqw jb7 jdC jiX jiF jh5 jkF jkl jkm jka jkx jkb jjg jl5 Q n) ih C0 _ _ _ jiW jmI x17 jkt jkS jkO f16 x6 r18 l4 hP hD hS (lv_sub hl [2, 3, 1, 0, 4] rfl) hw
          · have hw := hw.2 c5
            refine lv_aload_n hx hb (qaa qiS 15 rfl) rfl (lv_at hl 0 rfl) ?_
            refine lv_iload_n hx hb (qaa qjX 0 rfl) rfl (lv_at hl 3 rfl) ?_
            obtain ⟨hCc, hPc, hDc, hFc⟩ := qac (ws' := (qa8U a0 jbU jgC jgh jho jme jlw jb7 jjF ja4 ja0 jiW jmI jlw cyI jmk jgC cyI jiX)) hP hD hS hA [0, 16, 4] (by decide +kernel) rfl
            refine va_calli (va_runV (As := [.int l3]) (rest := []) ⟨hx, hb, hml, hown, hts⟩ (qaBL l dC dI cyB cyI cyJ cyP a0 jlw jgC H.size (.ref jbU) (.ref jgh) (.ref jho) (jme) (.int jb7) (ja4) (ja0) (.int jiW) (.int jmI) jiX jmk jjF l3 hw) (cwV 1 hts gX9_runOn_X9_behindEnd rfl rfl rfl (by decide +kernel) ⟨nbq rfl, nbq rfl⟩) ⟨qab, va_recv (q := (RX9, TX9, 12)) hK hPc (ci := 9) (q0 := 0) rfl rfl, qae hPc hK hDc hNw⟩ rfl rfl hl.1 rfl (lv_room (nbq rfl)) (qaa qjX 1 rfl) ⟨nbq rfl, nbq rfl⟩) hS (fun q _ h => hFc q h) hFc (fun r21 u t H1 locs ht hvm hw hB hz1 hk1 hS => ?_)
            obtain ⟨f19, x20⟩ := u
            obtain ⟨hP1, hK1, hD1⟩ := hB
            rw [ht] at hP1
            obtain ⟨hP, hD⟩ := qad (wr := [(jbU, .inl (cyI, 50, .inl jdC)), (a1, .inr (1, [.ref jjO, jjP, .ref jjN, .ref jlL])), (jjO, .inl (cyI, 64, .inl jkO)), (jgh, .inl (cyI, 50, .inl jiF)), (jjN, .inr (2, [.ref jjs, .ref jjt, jky, jkz, jkA, .ref jlt, jkd, jkB, jna, .int jh5, jke, .int jkF])), (jjs, .inl (cyI, 8, .inl jkl)), (jjt, .inl (cyI, 8, .inl jkm)), (jlL, .inr (4, [.ref jjM, .ref jjw, .ref jj7, .ref jjL, .int jka])), (jjL, .inl (cyI, 8, .inl jkt)), (jj7, .inl (cyI, 150, .inl jkS)), (jjM, .inl (cyI, 150, .inl jkx)), (jjw, .inl (cyI, 150, .inl jkb)), (jho, .inl (cyI, 50, .inl jjg)), (jlt, .inl (cyI, 6, .inl jl5))]) (w1 := (qa8U a0 jbU jgC jgh jho jme jlw jb7 x20 ja4 ja0 jiW jmI jlw cyI f19 jgC cyI jiX)) (wn := (qoW a0 jbU jgC jgh jho jme jlw jb7 x20 ja4 ja0 jiW jmI jbU cyI jdC a1 jjO jjP jjN jlL jjO cyI jkO jgC cyI jiX jgh cyI jiF jjN jjs jjt jky jkz jkA jlt jkd jkB jna jh5 jke jkF jjs cyI jkl jjt cyI jkm jlL jjM jjw jj7 jjL jka jjL cyI jkt jj7 cyI jkS jjM cyI jkx jjw cyI jkb jho cyI jjg jlt cyI jl5 jlw cyI f19)) hP hD [0, 16, 4] [1, 2, 3, 5, 6, 7, 8, 9, 10, 11, 12, 13, 14, 15] [14, 0, 1, 2, 16, 3, 4, 5, 6, 7, 8, 9, 10, 11, 12, 13, 15] hCc rfl (by decide +kernel) (by decide +kernel) (by decide +kernel) rfl hk1 hFc hP1 hD1
            generalize H1 = H at hP hS ⊢
            refine lv_istore_n (lv' := [(3, .int r21), (0, .ref a0), (1, .ref a1), (2, .int l2), (4, .int l4)]) hx hb (qaa qjX 2 rfl) rfl hl (by decide) rfl (fun ls hl => ?_)
            refine lv_goto (tgt := 127) hx hb (qaa qjX 3 rfl) (by decide) ?_
            exact qQx dC dI cyB cyI cyJ cyP a0 a1 jbU jjO jgC jgh jjN jjs jjt jlL jjL jj7 jjM jjw jho jlt jlw jme ja4 ja0 jjP jky jkz jkA jkd jkB jna jke jb7 jdC jiX jiF jh5 jkF jkl jkm jka jkx jkb jjg jl5 Q (qqw jb7 jdC jiX jiF jh5 jkF jkl jkm jka jkx jkb jjg jl5 Q n) ih C0 _ _ _ jiW jmI x20 jkt jkS jkO f19 l2 r21 l4 hP hD hS (lv_sub hl [1, 2, 3, 0, 4] rfl) hw
set_option maxHeartbeats 4000000 in
set_option maxRecDepth 100000 in
theorem qaZs (l : Launch) (dC : Nat → ClassId) (dI : Nat → Nat → Nat) (cyB cyI cyJ cyP : ClassId) (a0 a1 jbU jjO jgC jgh jjN jjs jjt jlL jjL jj7 jjM jjw jho jlt jlw sz : Nat) (jme ja4 ja0 jjP jky jkz jkA jkd jkB jna jke : Value) (jb7 : Int32) (jdC jiX jiF : NI) (jh5 jkF : Int32) (jkl jkm : NI) (jka : Int32) (jkx jkb jjg jl5 : NI) (jiW jmI jjF : Int32) (jkt jkS jkO jmk : NI) {Q : Int32 → Int32 → Int32 → NI → NI → NI → NI → Prop} (hw : qaa8 jb7 jdC jiX jiF jh5 jkF jkl jkm jka jkx jkb jjg jl5 jiW jmI jjF jkt jkS jkO jmk Q) : Met l yX9_runOn wsX9_runOn ({ frames := 6, cells := 0, slots := 0, locals := 129 }) (va_Pc [.ref a0, .ref a1] (cPc (dC, dI) (kT cyB cyI cyJ cyP) (qoW a0 jbU jgC jgh jho jme jlw jb7 jjF ja4 ja0 jiW jmI jbU cyI jdC a1 jjO jjP jjN jlL jjO cyI jkO jgC cyI jiX jgh cyI jiF jjN jjs jjt jky jkz jkA jlt jkd jkB jna jh5 jke jkF jjs cyI jkl jjt cyI jkm jlL jjM jjw jj7 jjL jka jjL cyI jkt jj7 cyI jkS jjM cyI jkx jjw cyI jkb jho cyI jjg jlt cyI jl5 jlw cyI jmk) sz)) (va_Qv (fun (u : Int32 × Int32 × Int32 × NI × NI × NI × NI) => Q u.1 u.2.1 u.2.2.1 u.2.2.2.1 u.2.2.2.2.1 u.2.2.2.2.2.1 u.2.2.2.2.2.2) (cB (dC, dI) (kT cyB cyI cyJ cyP) (va_A (qoW a0 jbU jgC jgh jho jme jlw jb7 jjF ja4 ja0 jiW jmI jbU cyI jdC a1 jjO jjP jjN jlL jjO cyI jkO jgC cyI jiX jgh cyI jiF jjN jjs jjt jky jkz jkA jlt jkd jkB jna jh5 jke jkF jjs cyI jkl jjt cyI jkm jlL jjM jjw jj7 jjL jka jjL cyI jkt jj7 cyI jkS jjM cyI jkx jjw cyI jkb jho cyI jjg jlt cyI jl5 jlw cyI jmk) sz) (fun u : Int32 × Int32 × Int32 × NI × NI × NI × NI => ((qoW a0 jbU jgC jgh jho jme jlw jb7 u.2.2.1 ja4 ja0 u.1 u.2.1 jbU cyI jdC a1 jjO jjP jjN jlL jjO cyI u.2.2.2.2.2.1 jgC cyI jiX jgh cyI jiF jjN jjs jjt jky jkz jkA jlt jkd jkB jna jh5 jke jkF jjs cyI jkl jjt cyI jkm jlL jjM jjw jj7 jjL jka jjL cyI u.2.2.2.1 jj7 cyI u.2.2.2.2.1 jjM cyI jkx jjw cyI jkb jho cyI jjg jlt cyI jl5 jlw cyI u.2.2.2.2.2.2) : va_W))) (va_A (qoW a0 jbU jgC jgh jho jme jlw jb7 jjF ja4 ja0 jiW jmI jbU cyI jdC a1 jjO jjP jjN jlL jjO cyI jkO jgC cyI jiX jgh cyI jiF jjN jjs jjt jky jkz jkA jlt jkd jkB jna jh5 jke jkF jjs cyI jkl jjt cyI jkm jlL jjM jjw jj7 jjL jka jjL cyI jkt jj7 cyI jkS jjM cyI jkx jjw cyI jkb jho cyI jjg jlt cyI jl5 jlw cyI jmk) sz)) 0 0 (va_A (qoW a0 jbU jgC jgh jho jme jlw jb7 jjF ja4 ja0 jiW jmI jbU cyI jdC a1 jjO jjP jjN jlL jjO cyI jkO jgC cyI jiX jgh cyI jiF jjN jjs jjt jky jkz jkA jlt jkd jkB jna jh5 jke jkF jjs cyI jkl jjt cyI jkm jlL jjM jjw jj7 jjL jka jjL cyI jkt jj7 cyI jkS jjM cyI jkx jjw cyI jkb jho cyI jjg jlt cyI jl5 jlw cyI jmk) sz) := by
  refine Met.ofW (cc := cX9_runOn) (maxL := 5) (ret := none) (by decide) rfl ?_
  intro p e s m args below meth c s₁ B hml hv
  obtain ⟨rfl, hsz, hP, hK, hD0, hNw⟩ := hv
  have hx := B.exec
  have hb := B.bytes
  have hr := B.returns
  have hts := atoms_spec (ws := wsX9_runOn) B.pre
  have hown : s.vm.findClass RX9 = some m.cls := findClass_of_methodNamed B.named
  have hlocks := B.notSynchronized
  subst hsz
  have hD := hD0.self (sz := s.heap.size)
  generalize hAe : va_A (qoW a0 jbU jgC jgh jho jme jlw jb7 jjF ja4 ja0 jiW jmI jbU cyI jdC a1 jjO jjP jjN jlL jjO cyI jkO jgC cyI jiX jgh cyI jiF jjN jjs jjt jky jkz jkA jlt jkd jkB jna jh5 jke jkF jjs cyI jkl jjt cyI jkm jlL jjM jjw jj7 jjL jka jjL cyI jkt jj7 cyI jkS jjM cyI jkx jjw cyI jkb jho cyI jjg jlt cyI jl5 jlw cyI jmk) s.heap.size = A at hD ⊢
  have hA : ∀ q : Nat, s.heap.size ≤ q → A q := fun q h => by rw [← hAe]; exact Or.inr h
  have hS : va_S A s.heap s.heap [] := va_S.rf
  have hP : va_P (dC, dI) vwCl (qoW a0 jbU jgC jgh jho jme jlw jb7 jjF ja4 ja0 jiW jmI jbU cyI jdC a1 jjO jjP jjN jlL jjO cyI jkO jgC cyI jiX jgh cyI jiF jjN jjs jjt jky jkz jkA jlt jkd jkB jna jh5 jke jkF jjs cyI jkl jjt cyI jkm jlL jjM jjw jj7 jjL jka jjL cyI jkt jj7 cyI jkS jjM cyI jkx jjw cyI jkb jho cyI jjg jlt cyI jl5 jlw cyI jmk) s.heap := hP
  have hl := lv_entry ([.ref a0, .ref a1]) (n := 5) (nbq rfl)
  rw [lg_entry_eq]
  generalize (lg_sl ([.ref a0, .ref a1]) ++ List.replicate (5 - (lg_sl ([.ref a0, .ref a1])).length) Slot.unset).toArray = ls at hl ⊢
  have hl : lv_has ls 5 [(0, .ref a0), (1, .ref a1)] := hl
  have C0 : cfx p s m _ meth c cX9_runOn none wsX9_runOn RX9 5 A (dC, dI) (kT cyB cyI cyJ cyP) := ⟨hx, hb, hr, hts, hown, hlocks, hml, hA, hK, hNw⟩
  clear hAe
  obtain ⟨H, hH⟩ : ∃ H, H = s.heap := ⟨_, rfl⟩
  rw [← hH] at hP ⊢
  have hS : va_S A s.heap H [] := by rw [hH]; exact va_S.rf
  have hS := hS
  refine lv_aload_n hx hb (qaa qmF 0 rfl) rfl (lv_at hl 0 rfl) ?_
  refine lv_iconst (v := 0) hx hb (qaa qmF 1 rfl) (by decide) ?_
  refine va_put (D := (dC, dI)) (ci := 9) (v := .int 0) (ty := .int) (C := RX9) (T := TX9) (N := 12) hx hb hts qrL tyX9 tyX9_ok nmX9 hown hK hP hD hS 0 rfl rfl 10 (by decide) (hts _ qPN) (fun _ h9 => h9) rfl (by decide +kernel) rfl rfl (nbq rfl) (qaa qmF 2 rfl) (fun H locs hP hD hS => ?_)
  have hP : va_P (dC, dI) vwCl (qoW a0 jbU jgC jgh jho jme jlw jb7 jjF ja4 ja0 0 jmI jbU cyI jdC a1 jjO jjP jjN jlL jjO cyI jkO jgC cyI jiX jgh cyI jiF jjN jjs jjt jky jkz jkA jlt jkd jkB jna jh5 jke jkF jjs cyI jkl jjt cyI jkm jlL jjM jjw jj7 jjL jka jjL cyI jkt jj7 cyI jkS jjM cyI jkx jjw cyI jkb jho cyI jjg jlt cyI jl5 jlw cyI jmk) H := hP
  have hD : va_D A (qoW a0 jbU jgC jgh jho jme jlw jb7 jjF ja4 ja0 0 jmI jbU cyI jdC a1 jjO jjP jjN jlL jjO cyI jkO jgC cyI jiX jgh cyI jiF jjN jjs jjt jky jkz jkA jlt jkd jkB jna jh5 jke jkF jjs cyI jkl jjt cyI jkm jlL jjM jjw jj7 jjL jka jjL cyI jkt jj7 cyI jkS jjM cyI jkx jjw cyI jkb jho cyI jjg jlt cyI jl5 jlw cyI jmk) := hD
  refine lv_aload_n hx hb (qaa qmF 3 rfl) rfl (lv_at hl 0 rfl) ?_
  refine lv_iconst (v := 0) hx hb (qaa qmF 4 rfl) (by decide) ?_
  refine va_put (D := (dC, dI)) (ci := 9) (v := .int 0) (ty := .int) (C := RX9) (T := TX9) (N := 12) hx hb hts qrL tyX9 tyX9_ok nmX9 hown hK hP hD hS 0 rfl rfl 11 (by decide) (hts _ qNd) (fun _ h9 => h9) rfl (by decide +kernel) rfl rfl (nbq rfl) (qaa qmF 5 rfl) (fun H locs hP hD hS => ?_)
  have hP : va_P (dC, dI) vwCl (qoW a0 jbU jgC jgh jho jme jlw jb7 jjF ja4 ja0 0 0 jbU cyI jdC a1 jjO jjP jjN jlL jjO cyI jkO jgC cyI jiX jgh cyI jiF jjN jjs jjt jky jkz jkA jlt jkd jkB jna jh5 jke jkF jjs cyI jkl jjt cyI jkm jlL jjM jjw jj7 jjL jka jjL cyI jkt jj7 cyI jkS jjM cyI jkx jjw cyI jkb jho cyI jjg jlt cyI jl5 jlw cyI jmk) H := hP
  have hD : va_D A (qoW a0 jbU jgC jgh jho jme jlw jb7 jjF ja4 ja0 0 0 jbU cyI jdC a1 jjO jjP jjN jlL jjO cyI jkO jgC cyI jiX jgh cyI jiF jjN jjs jjt jky jkz jkA jlt jkd jkB jna jh5 jke jkF jjs cyI jkl jjt cyI jkm jlL jjM jjw jj7 jjL jka jjL cyI jkt jj7 cyI jkS jjM cyI jkx jjw cyI jkb jho cyI jjg jlt cyI jl5 jlw cyI jmk) := hD
  refine lv_aload_n hx hb (qaa qmF 6 rfl) rfl (lv_at hl 0 rfl) ?_
  refine lv_iconst (v := 0) hx hb (qaa qmF 7 rfl) (by decide) ?_
  refine va_put (D := (dC, dI)) (ci := 9) (v := .int 0) (ty := .int) (C := RX9) (T := TX9) (N := 12) hx hb hts qrL tyX9 tyX9_ok nmX9 hown hK hP hD hS 0 rfl rfl 7 (by decide) (hts _ qaA0) (fun _ h9 => h9) rfl (by decide +kernel) rfl rfl (nbq rfl) (qaa qmF 8 rfl) (fun H locs hP hD hS => ?_)
  have hP : va_P (dC, dI) vwCl (qoW a0 jbU jgC jgh jho jme jlw jb7 0 ja4 ja0 0 0 jbU cyI jdC a1 jjO jjP jjN jlL jjO cyI jkO jgC cyI jiX jgh cyI jiF jjN jjs jjt jky jkz jkA jlt jkd jkB jna jh5 jke jkF jjs cyI jkl jjt cyI jkm jlL jjM jjw jj7 jjL jka jjL cyI jkt jj7 cyI jkS jjM cyI jkx jjw cyI jkb jho cyI jjg jlt cyI jl5 jlw cyI jmk) H := hP
  have hD : va_D A (qoW a0 jbU jgC jgh jho jme jlw jb7 0 ja4 ja0 0 0 jbU cyI jdC a1 jjO jjP jjN jlL jjO cyI jkO jgC cyI jiX jgh cyI jiF jjN jjs jjt jky jkz jkA jlt jkd jkB jna jh5 jke jkF jjs cyI jkl jjt cyI jkm jlL jjM jjw jj7 jjL jka jjL cyI jkt jj7 cyI jkS jjM cyI jkx jjw cyI jkb jho cyI jjg jlt cyI jl5 jlw cyI jmk) := hD
  refine lv_iconst (v := 0) hx hb (qaa qmF 9 rfl) (by decide) ?_
  refine lv_istore_n (lv' := [(2, .int 0), (0, .ref a0), (1, .ref a1)]) hx hb (qaa qmF 10 rfl) rfl hl (by decide) rfl (fun ls hl => ?_)
  refine lv_iconst (v := 0) hx hb (qaa qmF 11 rfl) (by decide) ?_
  refine lv_istore_n (lv' := [(3, .int 0), (2, .int 0), (0, .ref a0), (1, .ref a1)]) hx hb (qaa qmF 12 rfl) rfl hl (by decide) rfl (fun ls hl => ?_)
  refine lv_iconst (v := 0) hx hb (qaa qmF 13 rfl) (by decide) ?_
  refine lv_istore (lv' := [(4, .int 0), (3, .int 0), (2, .int 0), (0, .ref a0), (1, .ref a1)]) hx hb (qaa qmF 14 rfl) hl (by decide) rfl (fun ls hl => ?_)
  obtain ⟨n9, hw⟩ := hw
  exact qaJC dC dI cyB cyI cyJ cyP a0 a1 jbU jjO jgC jgh jjN jjs jjt jlL jjL jj7 jjM jjw jho jlt jlw jme ja4 ja0 jjP jky jkz jkA jkd jkB jna jke jb7 jdC jiX jiF jh5 jkF jkl jkm jka jkx jkb jjg jl5 Q C0 n9 _ _ _ 0 0 0 jkt jkS jkO jmk 0 0 0 hP hD hS (lv_sub hl [3, 4, 2, 1, 0] rfl) hw
theorem qMT : ∀ w ∈ u_ws RX10 TX10 19, w ∈ wsX10_would := uiM qxL qyE (by decide +kernel)
theorem qMo : (.fieldLink RX10 29 "MarchHares" "rule" "LMarchHares$Law;" : Cond) ∈ wsX10_would := qxL 65 (by decide +kernel)
set_option maxHeartbeats 4000000 in
set_option maxRecDepth 100000 in
theorem qaVH (l : Launch) (dC : Nat → ClassId) (dI : Nat → Nat → Nat) (cyB cyI cyJ cyP : ClassId) (a0 jb6 jcc jck jbW jbL sz : Nat) (jaK jfP ja1 jbc jbV ja3 jbH ja2 jbO jaq jac jbI jbl jbn jba jaa jbA : Value) (jdh : Int32) (jdN jdi : NI) (jbz : Int32) (jfl jfK : NI) (p1 p2 p3 p4 p5 p6 p7 p8 : Int32) {E : String → Int32 → NI → NI → Prop} {Q : Int32 → Int32 → NI → NI → Prop} (hw : q0Q jdh jdN jdi jbz jfl jfK p1 p2 p3 p4 p5 p6 p7 p8 E Q) : vx_Met l yX10_would wsX10_would ({ frames := 8, cells := 8, slots := 48, locals := 164 }) (va_Pc [.ref a0, .int p1, .int p2, .int p3, .int p4, .int p5, .int p6, .int p7, .int p8] (cPx l (dC, dI) (kT cyB cyI cyJ cyP) (qqp a0 jaK jfP ja1 jb6 jbc jbV ja3 jbH ja2 jbO jaq jac jbI jbl jbn jba jaa jbA jbz jb6 jbW jbL jck jcc jdh jcc cyI jfl jck cyI jfK jbW cyI jdN jbL cyI jdi) sz)) (va_Qi (fun (r : Int32) (u : Int32 × NI × NI) => Q r u.1 u.2.1 u.2.2) (cB (dC, dI) (kT cyB cyI cyJ cyP) (va_A (qqp a0 jaK jfP ja1 jb6 jbc jbV ja3 jbH ja2 jbO jaq jac jbI jbl jbn jba jaa jbA jbz jb6 jbW jbL jck jcc jdh jcc cyI jfl jck cyI jfK jbW cyI jdN jbL cyI jdi) sz) (fun u : Int32 × NI × NI => ((qqp a0 jaK jfP ja1 jb6 jbc jbV ja3 jbH ja2 jbO jaq jac jbI jbl jbn jba jaa jbA u.1 jb6 jbW jbL jck jcc jdh jcc cyI u.2.1 jck cyI u.2.2 jbW cyI jdN jbL cyI jdi) : va_W))) (va_A (qqp a0 jaK jfP ja1 jb6 jbc jbV ja3 jbH ja2 jbO jaq jac jbI jbl jbn jba jaa jbA jbz jb6 jbW jbL jck jcc jdh jcc cyI jfl jck cyI jfK jbW cyI jdN jbL cyI jdi) sz)) (vx_X (fun _ => True) (fun (en : String) (u : Int32 × NI × NI) (t : State) => E en u.1 u.2.1 u.2.2 ∧ cB (dC, dI) (kT cyB cyI cyJ cyP) (va_A (qqp a0 jaK jfP ja1 jb6 jbc jbV ja3 jbH ja2 jbO jaq jac jbI jbl jbn jba jaa jbA jbz jb6 jbW jbL jck jcc jdh jcc cyI jfl jck cyI jfK jbW cyI jdN jbL cyI jdi) sz) (fun u : Int32 × NI × NI => ((qqp a0 jaK jfP ja1 jb6 jbc jbV ja3 jbH ja2 jbO jaq jac jbI jbl jbn jba jaa jbA u.1 jb6 jbW jbL jck jcc jdh jcc cyI u.2.1 jck cyI u.2.2 jbW cyI jdN jbL cyI jdi) : va_W)) u t) (va_A (qqp a0 jaK jfP ja1 jb6 jbc jbV ja3 jbH ja2 jbO jaq jac jbI jbl jbn jba jaa jbA jbz jb6 jbW jbL jck jcc jdh jcc cyI jfl jck cyI jfK jbW cyI jdN jbL cyI jdi) sz)) 8 48 (va_A (qqp a0 jaK jfP ja1 jb6 jbc jbV ja3 jbH ja2 jbO jaq jac jbI jbl jbn jba jaa jbA jbz jb6 jbW jbL jck jcc jdh jcc cyI jfl jck cyI jfK jbW cyI jdN jbL cyI jdi) sz) := by
  refine vx_ofW (cc := cX10_would) (maxL := 9) (ret := (some .int)) (by decide) rfl ?_
  intro p e s m args below meth c s₁ B hml hnt hv
  obtain ⟨rfl, hsz, hP, hK, hD0, hNw, hXl, hXu, hXn, hXt⟩ := hv
  have hx := B.exec
  have hb := B.bytes
  have hr := B.returns
  have hts := atoms_spec (ws := wsX10_would) B.pre
  have hown : s.vm.findClass RX10 = some m.cls := findClass_of_methodNamed B.named
  have hlocks := B.notSynchronized
  subst hsz
  have hD := hD0.self (sz := s.heap.size)
  generalize hAe : va_A (qqp a0 jaK jfP ja1 jb6 jbc jbV ja3 jbH ja2 jbO jaq jac jbI jbl jbn jba jaa jbA jbz jb6 jbW jbL jck jcc jdh jcc cyI jfl jck cyI jfK jbW cyI jdN jbL cyI jdi) s.heap.size = A at hD hXu hXn ⊢
  have hA : ∀ q : Nat, s.heap.size ≤ q → A q := fun q h => by rw [← hAe]; exact Or.inr h
  have hS : va_S A s.heap s.heap [] := va_S.rf
  have hP : va_P (dC, dI) vwCl (qqp a0 jaK jfP ja1 jb6 jbc jbV ja3 jbH ja2 jbO jaq jac jbI jbl jbn jba jaa jbA jbz jb6 jbW jbL jck jcc jdh jcc cyI jfl jck cyI jfK jbW cyI jdN jbL cyI jdi) s.heap := hP
  have hl := lv_entry ([.ref a0, .int p1, .int p2, .int p3, .int p4, .int p5, .int p6, .int p7, .int p8]) (n := 9) (nbq rfl)
  rw [lg_entry_eq]
  generalize (lg_sl ([.ref a0, .int p1, .int p2, .int p3, .int p4, .int p5, .int p6, .int p7, .int p8]) ++ List.replicate (9 - (lg_sl ([.ref a0, .int p1, .int p2, .int p3, .int p4, .int p5, .int p6, .int p7, .int p8])).length) Slot.unset).toArray = ls at hl ⊢
  have hl : lv_has ls 9 [(0, .ref a0), (1, .int p1), (2, .int p2), (3, .int p3), (4, .int p4), (5, .int p5), (6, .int p6), (7, .int p7), (8, .int p8)] := hl
  have hY : cfY l s A := ⟨hXl, hXu, hXn, hXt⟩
  have hXs : cfX l s c A := ⟨hnt, hY⟩
  have C0 : cfx p s m _ meth c cX10_would (some .int) wsX10_would RX10 9 A (dC, dI) (kT cyB cyI cyJ cyP) ∧ cfX l s c A := ⟨⟨hx, hb, hr, hts, hown, hlocks, hml, hA, hK, hNw⟩, hXs⟩
  clear hAe
  obtain ⟨H, hH⟩ : ∃ H, H = s.heap := ⟨_, rfl⟩
  rw [← hH] at hP ⊢
  have hS : va_S A s.heap H [] := by rw [hH]; exact va_S.rf
  have hS := hS
  refine lv_aload_n hx hb (qaa qja 0 rfl) rfl (lv_at hl 0 rfl) ?_
  refine lv_iload_n hx hb (qaa qja 1 rfl) rfl (lv_at hl 1 rfl) ?_
  refine lv_iconst (v := 0) hx hb (qaa qja 2 rfl) (by decide) ?_
  refine lv_bipush (v := 9) hx hb (qaa qja 3 rfl) (by decide) ?_
  obtain ⟨hCc, hPc, hDc, hFc⟩ := qac (ws' := (quA a0 jaK jfP ja1 jb6 jbc jbV ja3 jbH ja2 jbO jaq jac jbI jbl jbn jba jaa jbA jbz)) hP hD hS hA [0] (by decide +kernel) rfl
  refine vx_callv (vx_runV (As := [.int p1, .int 0, .int 9]) (rest := []) ⟨hx, hb, hml, hown, hts⟩ (qaV l dC dI cyB cyI cyJ cyP a0 H.size (jaK) (jfP) (ja1) (.ref jb6) (jbc) (jbV) (ja3) (jbH) (ja2) (jbO) (jaq) (jac) (jbI) (jbl) (jbn) (jba) (jaa) (jbA) jbz p1 0 9 hw) (cwV 3 hts gX10_would_X10_needWithin rfl rfl rfl (by decide +kernel) ⟨nbq rfl, nbq rfl⟩) ⟨qau, va_recv (q := (RX10, TX10, 19)) hK hPc (ci := 10) (q0 := 0) rfl rfl, qbk hPc hK hDc hNw hY hS hFc⟩ rfl rfl hl.1 rfl (lv_room (nbq rfl)) (qaa qja 4 rfl) ⟨nbq rfl, nbq rfl⟩) hS (fun q _ h => hFc q h) hFc (fun q _ h => hFc q h) (fun en ce q9 u t H1 locs ht hvm hpx hB hz1 hk1 hS hc9 hv9 hcl9 => ?_) (fun u t H1 locs ht hvm hw hB hz1 hk1 hS => ?_)
  · obtain ⟨x1, rfl⟩ : ∃ z, z = u := ⟨_, rfl⟩
    obtain ⟨hw, hP1, hK1, hD1⟩ := hB
    rw [ht] at hP1
    obtain ⟨hP, hD⟩ := qad (wr := (qDk jb6 jbW jbL jck jcc jdh jcc cyI jfl jck cyI jfK jbW cyI jdN jbL cyI jdi)) (w1 := (quA a0 jaK jfP ja1 jb6 jbc jbV ja3 jbH ja2 jbO jaq jac jbI jbl jbn jba jaa jbA x1)) (wn := (qqp a0 jaK jfP ja1 jb6 jbc jbV ja3 jbH ja2 jbO jaq jac jbI jbl jbn jba jaa jbA x1 jb6 jbW jbL jck jcc jdh jcc cyI jfl jck cyI jfK jbW cyI jdN jbL cyI jdi)) hP hD [0] [1, 2, 3, 4, 5] [5, 0, 1, 2, 3, 4] hCc rfl (by decide +kernel) (by decide +kernel) (by decide +kernel) rfl hk1 hFc hP1 hD1
    generalize H1 = H at hP hS hc9 ⊢
    exact vx_out (fun x hx9 => (hXs.1 x hx9).elim) hlocks hc9 hv9 hcl9 (fun t2 ht2 hal2 => ⟨(x1, jfl, jfK), trivial, ⟨hw, by rw [ht2]; exact hP, va_K.moved hal2 hK, hD⟩, hS.F ht2⟩) hS.2.2 (nbq rfl) (nbq rfl)
  obtain ⟨x1, rfl⟩ : ∃ z, z = u := ⟨_, rfl⟩
  obtain ⟨hP1, hK1, hD1⟩ := hB
  rw [ht] at hP1
  obtain ⟨hP, hD⟩ := qad (wr := (qDk jb6 jbW jbL jck jcc jdh jcc cyI jfl jck cyI jfK jbW cyI jdN jbL cyI jdi)) (w1 := (quA a0 jaK jfP ja1 jb6 jbc jbV ja3 jbH ja2 jbO jaq jac jbI jbl jbn jba jaa jbA x1)) (wn := (qqp a0 jaK jfP ja1 jb6 jbc jbV ja3 jbH ja2 jbO jaq jac jbI jbl jbn jba jaa jbA x1 jb6 jbW jbL jck jcc jdh jcc cyI jfl jck cyI jfK jbW cyI jdN jbL cyI jdi)) hP hD [0] [1, 2, 3, 4, 5] [5, 0, 1, 2, 3, 4] hCc rfl (by decide +kernel) (by decide +kernel) (by decide +kernel) rfl hk1 hFc hP1 hD1
  generalize H1 = H at hP hS ⊢
  refine lv_aload_n hx hb (qaa qja 5 rfl) rfl (lv_at hl 0 rfl) ?_
  refine lv_iload_n hx hb (qaa qja 6 rfl) rfl (lv_at hl 2 rfl) ?_
  refine lv_iconst (v := 0) hx hb (qaa qja 7 rfl) (by decide) ?_
  refine lv_sipush (v := 999) hx hb (qaa qja 8 rfl) (by decide) ?_
  obtain ⟨hCc, hPc, hDc, hFc⟩ := qac (ws' := (quA a0 jaK jfP ja1 jb6 jbc jbV ja3 jbH ja2 jbO jaq jac jbI jbl jbn jba jaa jbA x1)) hP hD hS hA [0] (by decide +kernel) rfl
  refine vx_callv (vx_runV (As := [.int p2, .int 0, .int 999]) (rest := []) ⟨hx, hb, hml, hown, hts⟩ (qaV l dC dI cyB cyI cyJ cyP a0 H.size (jaK) (jfP) (ja1) (.ref jb6) (jbc) (jbV) (ja3) (jbH) (ja2) (jbO) (jaq) (jac) (jbI) (jbl) (jbn) (jba) (jaa) (jbA) x1 p2 0 999 hw) (cwV 3 hts gX10_would_X10_needWithin rfl rfl rfl (by decide +kernel) ⟨nbq rfl, nbq rfl⟩) ⟨qau, va_recv (q := (RX10, TX10, 19)) hK hPc (ci := 10) (q0 := 0) rfl rfl, qbk hPc hK hDc hNw hY hS hFc⟩ rfl rfl hl.1 rfl (lv_room (nbq rfl)) (qaa qja 9 rfl) ⟨nbq rfl, nbq rfl⟩) hS (fun q _ h => hFc q h) hFc (fun q _ h => hFc q h) (fun en ce q9 u t H1 locs ht hvm hpx hB hz1 hk1 hS hc9 hv9 hcl9 => ?_) (fun u t H1 locs ht hvm hw hB hz1 hk1 hS => ?_)
  · obtain ⟨x2, rfl⟩ : ∃ z, z = u := ⟨_, rfl⟩
    obtain ⟨hw, hP1, hK1, hD1⟩ := hB
    rw [ht] at hP1
    obtain ⟨hP, hD⟩ := qad (wr := (qDk jb6 jbW jbL jck jcc jdh jcc cyI jfl jck cyI jfK jbW cyI jdN jbL cyI jdi)) (w1 := (quA a0 jaK jfP ja1 jb6 jbc jbV ja3 jbH ja2 jbO jaq jac jbI jbl jbn jba jaa jbA x2)) (wn := (qqp a0 jaK jfP ja1 jb6 jbc jbV ja3 jbH ja2 jbO jaq jac jbI jbl jbn jba jaa jbA x2 jb6 jbW jbL jck jcc jdh jcc cyI jfl jck cyI jfK jbW cyI jdN jbL cyI jdi)) hP hD [0] [1, 2, 3, 4, 5] [5, 0, 1, 2, 3, 4] hCc rfl (by decide +kernel) (by decide +kernel) (by decide +kernel) rfl hk1 hFc hP1 hD1
    generalize H1 = H at hP hS hc9 ⊢
    exact vx_out (fun x hx9 => (hXs.1 x hx9).elim) hlocks hc9 hv9 hcl9 (fun t2 ht2 hal2 => ⟨(x2, jfl, jfK), trivial, ⟨hw, by rw [ht2]; exact hP, va_K.moved hal2 hK, hD⟩, hS.F ht2⟩) hS.2.2 (nbq rfl) (nbq rfl)
  obtain ⟨x2, rfl⟩ : ∃ z, z = u := ⟨_, rfl⟩
  obtain ⟨hP1, hK1, hD1⟩ := hB
  rw [ht] at hP1
  obtain ⟨hP, hD⟩ := qad (wr := (qDk jb6 jbW jbL jck jcc jdh jcc cyI jfl jck cyI jfK jbW cyI jdN jbL cyI jdi)) (w1 := (quA a0 jaK jfP ja1 jb6 jbc jbV ja3 jbH ja2 jbO jaq jac jbI jbl jbn jba jaa jbA x2)) (wn := (qqp a0 jaK jfP ja1 jb6 jbc jbV ja3 jbH ja2 jbO jaq jac jbI jbl jbn jba jaa jbA x2 jb6 jbW jbL jck jcc jdh jcc cyI jfl jck cyI jfK jbW cyI jdN jbL cyI jdi)) hP hD [0] [1, 2, 3, 4, 5] [5, 0, 1, 2, 3, 4] hCc rfl (by decide +kernel) (by decide +kernel) (by decide +kernel) rfl hk1 hFc hP1 hD1
  generalize H1 = H at hP hS ⊢
  refine lv_aload_n hx hb (qaa qja 10 rfl) rfl (lv_at hl 0 rfl) ?_
  refine lv_iload_n hx hb (qaa qja 11 rfl) rfl (lv_at hl 3 rfl) ?_
  refine lv_iconst (v := 0) hx hb (qaa qja 12 rfl) (by decide) ?_
  refine lv_sipush (v := 999) hx hb (qaa qja 13 rfl) (by decide) ?_
  obtain ⟨hCc, hPc, hDc, hFc⟩ := qac (ws' := (quA a0 jaK jfP ja1 jb6 jbc jbV ja3 jbH ja2 jbO jaq jac jbI jbl jbn jba jaa jbA x2)) hP hD hS hA [0] (by decide +kernel) rfl
  refine vx_callv (vx_runV (As := [.int p3, .int 0, .int 999]) (rest := []) ⟨hx, hb, hml, hown, hts⟩ (qaV l dC dI cyB cyI cyJ cyP a0 H.size (jaK) (jfP) (ja1) (.ref jb6) (jbc) (jbV) (ja3) (jbH) (ja2) (jbO) (jaq) (jac) (jbI) (jbl) (jbn) (jba) (jaa) (jbA) x2 p3 0 999 hw) (cwV 3 hts gX10_would_X10_needWithin rfl rfl rfl (by decide +kernel) ⟨nbq rfl, nbq rfl⟩) ⟨qau, va_recv (q := (RX10, TX10, 19)) hK hPc (ci := 10) (q0 := 0) rfl rfl, qbk hPc hK hDc hNw hY hS hFc⟩ rfl rfl hl.1 rfl (lv_room (nbq rfl)) (qaa qja 14 rfl) ⟨nbq rfl, nbq rfl⟩) hS (fun q _ h => hFc q h) hFc (fun q _ h => hFc q h) (fun en ce q9 u t H1 locs ht hvm hpx hB hz1 hk1 hS hc9 hv9 hcl9 => ?_) (fun u t H1 locs ht hvm hw hB hz1 hk1 hS => ?_)
  · obtain ⟨x3, rfl⟩ : ∃ z, z = u := ⟨_, rfl⟩
    obtain ⟨hw, hP1, hK1, hD1⟩ := hB
    rw [ht] at hP1
    obtain ⟨hP, hD⟩ := qad (wr := (qDk jb6 jbW jbL jck jcc jdh jcc cyI jfl jck cyI jfK jbW cyI jdN jbL cyI jdi)) (w1 := (quA a0 jaK jfP ja1 jb6 jbc jbV ja3 jbH ja2 jbO jaq jac jbI jbl jbn jba jaa jbA x3)) (wn := (qqp a0 jaK jfP ja1 jb6 jbc jbV ja3 jbH ja2 jbO jaq jac jbI jbl jbn jba jaa jbA x3 jb6 jbW jbL jck jcc jdh jcc cyI jfl jck cyI jfK jbW cyI jdN jbL cyI jdi)) hP hD [0] [1, 2, 3, 4, 5] [5, 0, 1, 2, 3, 4] hCc rfl (by decide +kernel) (by decide +kernel) (by decide +kernel) rfl hk1 hFc hP1 hD1
    generalize H1 = H at hP hS hc9 ⊢
    exact vx_out (fun x hx9 => (hXs.1 x hx9).elim) hlocks hc9 hv9 hcl9 (fun t2 ht2 hal2 => ⟨(x3, jfl, jfK), trivial, ⟨hw, by rw [ht2]; exact hP, va_K.moved hal2 hK, hD⟩, hS.F ht2⟩) hS.2.2 (nbq rfl) (nbq rfl)
  obtain ⟨x3, rfl⟩ : ∃ z, z = u := ⟨_, rfl⟩
  obtain ⟨hP1, hK1, hD1⟩ := hB
  rw [ht] at hP1
  obtain ⟨hP, hD⟩ := qad (wr := (qDk jb6 jbW jbL jck jcc jdh jcc cyI jfl jck cyI jfK jbW cyI jdN jbL cyI jdi)) (w1 := (quA a0 jaK jfP ja1 jb6 jbc jbV ja3 jbH ja2 jbO jaq jac jbI jbl jbn jba jaa jbA x3)) (wn := (qqp a0 jaK jfP ja1 jb6 jbc jbV ja3 jbH ja2 jbO jaq jac jbI jbl jbn jba jaa jbA x3 jb6 jbW jbL jck jcc jdh jcc cyI jfl jck cyI jfK jbW cyI jdN jbL cyI jdi)) hP hD [0] [1, 2, 3, 4, 5] [5, 0, 1, 2, 3, 4] hCc rfl (by decide +kernel) (by decide +kernel) (by decide +kernel) rfl hk1 hFc hP1 hD1
  generalize H1 = H at hP hS ⊢
  refine lv_aload_n hx hb (qaa qja 15 rfl) rfl (lv_at hl 0 rfl) ?_
  refine lv_iload hx hb (qaa qhz 0 rfl) (lv_at hl 4 rfl) ?_
  refine lv_iconst (v := 0) hx hb (qaa qhz 1 rfl) (by decide) ?_
  refine lv_sipush (v := 999) hx hb (qaa qhz 2 rfl) (by decide) ?_
  obtain ⟨hCc, hPc, hDc, hFc⟩ := qac (ws' := (quA a0 jaK jfP ja1 jb6 jbc jbV ja3 jbH ja2 jbO jaq jac jbI jbl jbn jba jaa jbA x3)) hP hD hS hA [0] (by decide +kernel) rfl
  refine vx_callv (vx_runV (As := [.int p4, .int 0, .int 999]) (rest := []) ⟨hx, hb, hml, hown, hts⟩ (qaV l dC dI cyB cyI cyJ cyP a0 H.size (jaK) (jfP) (ja1) (.ref jb6) (jbc) (jbV) (ja3) (jbH) (ja2) (jbO) (jaq) (jac) (jbI) (jbl) (jbn) (jba) (jaa) (jbA) x3 p4 0 999 hw) (cwV 3 hts gX10_would_X10_needWithin rfl rfl rfl (by decide +kernel) ⟨nbq rfl, nbq rfl⟩) ⟨qau, va_recv (q := (RX10, TX10, 19)) hK hPc (ci := 10) (q0 := 0) rfl rfl, qbk hPc hK hDc hNw hY hS hFc⟩ rfl rfl hl.1 rfl (lv_room (nbq rfl)) (qaa qhz 3 rfl) ⟨nbq rfl, nbq rfl⟩) hS (fun q _ h => hFc q h) hFc (fun q _ h => hFc q h) (fun en ce q9 u t H1 locs ht hvm hpx hB hz1 hk1 hS hc9 hv9 hcl9 => ?_) (fun u t H1 locs ht hvm hw hB hz1 hk1 hS => ?_)
  · obtain ⟨x4, rfl⟩ : ∃ z, z = u := ⟨_, rfl⟩
    obtain ⟨hw, hP1, hK1, hD1⟩ := hB
    rw [ht] at hP1
    obtain ⟨hP, hD⟩ := qad (wr := (qDk jb6 jbW jbL jck jcc jdh jcc cyI jfl jck cyI jfK jbW cyI jdN jbL cyI jdi)) (w1 := (quA a0 jaK jfP ja1 jb6 jbc jbV ja3 jbH ja2 jbO jaq jac jbI jbl jbn jba jaa jbA x4)) (wn := (qqp a0 jaK jfP ja1 jb6 jbc jbV ja3 jbH ja2 jbO jaq jac jbI jbl jbn jba jaa jbA x4 jb6 jbW jbL jck jcc jdh jcc cyI jfl jck cyI jfK jbW cyI jdN jbL cyI jdi)) hP hD [0] [1, 2, 3, 4, 5] [5, 0, 1, 2, 3, 4] hCc rfl (by decide +kernel) (by decide +kernel) (by decide +kernel) rfl hk1 hFc hP1 hD1
    generalize H1 = H at hP hS hc9 ⊢
    exact vx_out (fun x hx9 => (hXs.1 x hx9).elim) hlocks hc9 hv9 hcl9 (fun t2 ht2 hal2 => ⟨(x4, jfl, jfK), trivial, ⟨hw, by rw [ht2]; exact hP, va_K.moved hal2 hK, hD⟩, hS.F ht2⟩) hS.2.2 (nbq rfl) (nbq rfl)
  obtain ⟨x4, rfl⟩ : ∃ z, z = u := ⟨_, rfl⟩
  obtain ⟨hP1, hK1, hD1⟩ := hB
  rw [ht] at hP1
  obtain ⟨hP, hD⟩ := qad (wr := (qDk jb6 jbW jbL jck jcc jdh jcc cyI jfl jck cyI jfK jbW cyI jdN jbL cyI jdi)) (w1 := (quA a0 jaK jfP ja1 jb6 jbc jbV ja3 jbH ja2 jbO jaq jac jbI jbl jbn jba jaa jbA x4)) (wn := (qqp a0 jaK jfP ja1 jb6 jbc jbV ja3 jbH ja2 jbO jaq jac jbI jbl jbn jba jaa jbA x4 jb6 jbW jbL jck jcc jdh jcc cyI jfl jck cyI jfK jbW cyI jdN jbL cyI jdi)) hP hD [0] [1, 2, 3, 4, 5] [5, 0, 1, 2, 3, 4] hCc rfl (by decide +kernel) (by decide +kernel) (by decide +kernel) rfl hk1 hFc hP1 hD1
  generalize H1 = H at hP hS ⊢
  refine lv_aload_n hx hb (qaa qhz 4 rfl) rfl (lv_at hl 0 rfl) ?_
  refine lv_iload hx hb (qaa qhz 5 rfl) (lv_at hl 5 rfl) ?_
  refine lv_iconst (v := 0) hx hb (qaa qhz 6 rfl) (by decide) ?_
  refine lv_iconst (v := 5) hx hb (qaa qhz 7 rfl) (by decide) ?_
  obtain ⟨hCc, hPc, hDc, hFc⟩ := qac (ws' := (quA a0 jaK jfP ja1 jb6 jbc jbV ja3 jbH ja2 jbO jaq jac jbI jbl jbn jba jaa jbA x4)) hP hD hS hA [0] (by decide +kernel) rfl
  refine vx_callv (vx_runV (As := [.int p5, .int 0, .int 5]) (rest := []) ⟨hx, hb, hml, hown, hts⟩ (qaV l dC dI cyB cyI cyJ cyP a0 H.size (jaK) (jfP) (ja1) (.ref jb6) (jbc) (jbV) (ja3) (jbH) (ja2) (jbO) (jaq) (jac) (jbI) (jbl) (jbn) (jba) (jaa) (jbA) x4 p5 0 5 hw) (cwV 3 hts gX10_would_X10_needWithin rfl rfl rfl (by decide +kernel) ⟨nbq rfl, nbq rfl⟩) ⟨qau, va_recv (q := (RX10, TX10, 19)) hK hPc (ci := 10) (q0 := 0) rfl rfl, qbk hPc hK hDc hNw hY hS hFc⟩ rfl rfl hl.1 rfl (lv_room (nbq rfl)) (qaa qhz 8 rfl) ⟨nbq rfl, nbq rfl⟩) hS (fun q _ h => hFc q h) hFc (fun q _ h => hFc q h) (fun en ce q9 u t H1 locs ht hvm hpx hB hz1 hk1 hS hc9 hv9 hcl9 => ?_) (fun u t H1 locs ht hvm hw hB hz1 hk1 hS => ?_)
  · obtain ⟨x5, rfl⟩ : ∃ z, z = u := ⟨_, rfl⟩
    obtain ⟨hw, hP1, hK1, hD1⟩ := hB
    rw [ht] at hP1
    obtain ⟨hP, hD⟩ := qad (wr := (qDk jb6 jbW jbL jck jcc jdh jcc cyI jfl jck cyI jfK jbW cyI jdN jbL cyI jdi)) (w1 := (quA a0 jaK jfP ja1 jb6 jbc jbV ja3 jbH ja2 jbO jaq jac jbI jbl jbn jba jaa jbA x5)) (wn := (qqp a0 jaK jfP ja1 jb6 jbc jbV ja3 jbH ja2 jbO jaq jac jbI jbl jbn jba jaa jbA x5 jb6 jbW jbL jck jcc jdh jcc cyI jfl jck cyI jfK jbW cyI jdN jbL cyI jdi)) hP hD [0] [1, 2, 3, 4, 5] [5, 0, 1, 2, 3, 4] hCc rfl (by decide +kernel) (by decide +kernel) (by decide +kernel) rfl hk1 hFc hP1 hD1
    generalize H1 = H at hP hS hc9 ⊢
    exact vx_out (fun x hx9 => (hXs.1 x hx9).elim) hlocks hc9 hv9 hcl9 (fun t2 ht2 hal2 => ⟨(x5, jfl, jfK), trivial, ⟨hw, by rw [ht2]; exact hP, va_K.moved hal2 hK, hD⟩, hS.F ht2⟩) hS.2.2 (nbq rfl) (nbq rfl)
  obtain ⟨x5, rfl⟩ : ∃ z, z = u := ⟨_, rfl⟩
  obtain ⟨hP1, hK1, hD1⟩ := hB
  rw [ht] at hP1
  obtain ⟨hP, hD⟩ := qad (wr := (qDk jb6 jbW jbL jck jcc jdh jcc cyI jfl jck cyI jfK jbW cyI jdN jbL cyI jdi)) (w1 := (quA a0 jaK jfP ja1 jb6 jbc jbV ja3 jbH ja2 jbO jaq jac jbI jbl jbn jba jaa jbA x5)) (wn := (qqp a0 jaK jfP ja1 jb6 jbc jbV ja3 jbH ja2 jbO jaq jac jbI jbl jbn jba jaa jbA x5 jb6 jbW jbL jck jcc jdh jcc cyI jfl jck cyI jfK jbW cyI jdN jbL cyI jdi)) hP hD [0] [1, 2, 3, 4, 5] [5, 0, 1, 2, 3, 4] hCc rfl (by decide +kernel) (by decide +kernel) (by decide +kernel) rfl hk1 hFc hP1 hD1
  generalize H1 = H at hP hS ⊢
  refine lv_aload_n hx hb (qaa qhz 9 rfl) rfl (lv_at hl 0 rfl) ?_
  refine lv_iload hx hb (qaa qhz 10 rfl) (lv_at hl 6 rfl) ?_
  refine lv_iconst (v := 1) hx hb (qaa qhz 11 rfl) (by decide) ?_
  refine lv_bipush (v := 31) hx hb (qaa qhz 12 rfl) (by decide) ?_
  obtain ⟨hCc, hPc, hDc, hFc⟩ := qac (ws' := (quA a0 jaK jfP ja1 jb6 jbc jbV ja3 jbH ja2 jbO jaq jac jbI jbl jbn jba jaa jbA x5)) hP hD hS hA [0] (by decide +kernel) rfl
  refine vx_callv (vx_runV (As := [.int p6, .int 1, .int 31]) (rest := []) ⟨hx, hb, hml, hown, hts⟩ (qaV l dC dI cyB cyI cyJ cyP a0 H.size (jaK) (jfP) (ja1) (.ref jb6) (jbc) (jbV) (ja3) (jbH) (ja2) (jbO) (jaq) (jac) (jbI) (jbl) (jbn) (jba) (jaa) (jbA) x5 p6 1 31 hw) (cwV 3 hts gX10_would_X10_needWithin rfl rfl rfl (by decide +kernel) ⟨nbq rfl, nbq rfl⟩) ⟨qau, va_recv (q := (RX10, TX10, 19)) hK hPc (ci := 10) (q0 := 0) rfl rfl, qbk hPc hK hDc hNw hY hS hFc⟩ rfl rfl hl.1 rfl (lv_room (nbq rfl)) (qaa qhz 13 rfl) ⟨nbq rfl, nbq rfl⟩) hS (fun q _ h => hFc q h) hFc (fun q _ h => hFc q h) (fun en ce q9 u t H1 locs ht hvm hpx hB hz1 hk1 hS hc9 hv9 hcl9 => ?_) (fun u t H1 locs ht hvm hw hB hz1 hk1 hS => ?_)
  · obtain ⟨x6, rfl⟩ : ∃ z, z = u := ⟨_, rfl⟩
    obtain ⟨hw, hP1, hK1, hD1⟩ := hB
    rw [ht] at hP1
    obtain ⟨hP, hD⟩ := qad (wr := (qDk jb6 jbW jbL jck jcc jdh jcc cyI jfl jck cyI jfK jbW cyI jdN jbL cyI jdi)) (w1 := (quA a0 jaK jfP ja1 jb6 jbc jbV ja3 jbH ja2 jbO jaq jac jbI jbl jbn jba jaa jbA x6)) (wn := (qqp a0 jaK jfP ja1 jb6 jbc jbV ja3 jbH ja2 jbO jaq jac jbI jbl jbn jba jaa jbA x6 jb6 jbW jbL jck jcc jdh jcc cyI jfl jck cyI jfK jbW cyI jdN jbL cyI jdi)) hP hD [0] [1, 2, 3, 4, 5] [5, 0, 1, 2, 3, 4] hCc rfl (by decide +kernel) (by decide +kernel) (by decide +kernel) rfl hk1 hFc hP1 hD1
    generalize H1 = H at hP hS hc9 ⊢
    exact vx_out (fun x hx9 => (hXs.1 x hx9).elim) hlocks hc9 hv9 hcl9 (fun t2 ht2 hal2 => ⟨(x6, jfl, jfK), trivial, ⟨hw, by rw [ht2]; exact hP, va_K.moved hal2 hK, hD⟩, hS.F ht2⟩) hS.2.2 (nbq rfl) (nbq rfl)
  obtain ⟨x6, rfl⟩ : ∃ z, z = u := ⟨_, rfl⟩
  obtain ⟨hP1, hK1, hD1⟩ := hB
  rw [ht] at hP1
  obtain ⟨hP, hD⟩ := qad (wr := (qDk jb6 jbW jbL jck jcc jdh jcc cyI jfl jck cyI jfK jbW cyI jdN jbL cyI jdi)) (w1 := (quA a0 jaK jfP ja1 jb6 jbc jbV ja3 jbH ja2 jbO jaq jac jbI jbl jbn jba jaa jbA x6)) (wn := (qqp a0 jaK jfP ja1 jb6 jbc jbV ja3 jbH ja2 jbO jaq jac jbI jbl jbn jba jaa jbA x6 jb6 jbW jbL jck jcc jdh jcc cyI jfl jck cyI jfK jbW cyI jdN jbL cyI jdi)) hP hD [0] [1, 2, 3, 4, 5] [5, 0, 1, 2, 3, 4] hCc rfl (by decide +kernel) (by decide +kernel) (by decide +kernel) rfl hk1 hFc hP1 hD1
  generalize H1 = H at hP hS ⊢
  refine lv_aload_n hx hb (qaa qhz 14 rfl) rfl (lv_at hl 0 rfl) ?_
  refine lv_iload hx hb (qaa qhz 15 rfl) (lv_at hl 7 rfl) ?_
  refine lv_iconst (v := 0) hx hb (qaa qg7 0 rfl) (by decide) ?_
  refine lv_iconst (v := 5) hx hb (qaa qg7 1 rfl) (by decide) ?_
  obtain ⟨hCc, hPc, hDc, hFc⟩ := qac (ws' := (quA a0 jaK jfP ja1 jb6 jbc jbV ja3 jbH ja2 jbO jaq jac jbI jbl jbn jba jaa jbA x6)) hP hD hS hA [0] (by decide +kernel) rfl
  refine vx_callv (vx_runV (As := [.int p7, .int 0, .int 5]) (rest := []) ⟨hx, hb, hml, hown, hts⟩ (qaV l dC dI cyB cyI cyJ cyP a0 H.size (jaK) (jfP) (ja1) (.ref jb6) (jbc) (jbV) (ja3) (jbH) (ja2) (jbO) (jaq) (jac) (jbI) (jbl) (jbn) (jba) (jaa) (jbA) x6 p7 0 5 hw) (cwV 3 hts gX10_would_X10_needWithin rfl rfl rfl (by decide +kernel) ⟨nbq rfl, nbq rfl⟩) ⟨qau, va_recv (q := (RX10, TX10, 19)) hK hPc (ci := 10) (q0 := 0) rfl rfl, qbk hPc hK hDc hNw hY hS hFc⟩ rfl rfl hl.1 rfl (lv_room (nbq rfl)) (qaa qg7 2 rfl) ⟨nbq rfl, nbq rfl⟩) hS (fun q _ h => hFc q h) hFc (fun q _ h => hFc q h) (fun en ce q9 u t H1 locs ht hvm hpx hB hz1 hk1 hS hc9 hv9 hcl9 => ?_) (fun u t H1 locs ht hvm hw hB hz1 hk1 hS => ?_)
  · obtain ⟨x7, rfl⟩ : ∃ z, z = u := ⟨_, rfl⟩
    obtain ⟨hw, hP1, hK1, hD1⟩ := hB
    rw [ht] at hP1
    obtain ⟨hP, hD⟩ := qad (wr := (qDk jb6 jbW jbL jck jcc jdh jcc cyI jfl jck cyI jfK jbW cyI jdN jbL cyI jdi)) (w1 := (quA a0 jaK jfP ja1 jb6 jbc jbV ja3 jbH ja2 jbO jaq jac jbI jbl jbn jba jaa jbA x7)) (wn := (qqp a0 jaK jfP ja1 jb6 jbc jbV ja3 jbH ja2 jbO jaq jac jbI jbl jbn jba jaa jbA x7 jb6 jbW jbL jck jcc jdh jcc cyI jfl jck cyI jfK jbW cyI jdN jbL cyI jdi)) hP hD [0] [1, 2, 3, 4, 5] [5, 0, 1, 2, 3, 4] hCc rfl (by decide +kernel) (by decide +kernel) (by decide +kernel) rfl hk1 hFc hP1 hD1
    generalize H1 = H at hP hS hc9 ⊢
    exact vx_out (fun x hx9 => (hXs.1 x hx9).elim) hlocks hc9 hv9 hcl9 (fun t2 ht2 hal2 => ⟨(x7, jfl, jfK), trivial, ⟨hw, by rw [ht2]; exact hP, va_K.moved hal2 hK, hD⟩, hS.F ht2⟩) hS.2.2 (nbq rfl) (nbq rfl)
  obtain ⟨x7, rfl⟩ : ∃ z, z = u := ⟨_, rfl⟩
  obtain ⟨hP1, hK1, hD1⟩ := hB
  rw [ht] at hP1
  obtain ⟨hP, hD⟩ := qad (wr := (qDk jb6 jbW jbL jck jcc jdh jcc cyI jfl jck cyI jfK jbW cyI jdN jbL cyI jdi)) (w1 := (quA a0 jaK jfP ja1 jb6 jbc jbV ja3 jbH ja2 jbO jaq jac jbI jbl jbn jba jaa jbA x7)) (wn := (qqp a0 jaK jfP ja1 jb6 jbc jbV ja3 jbH ja2 jbO jaq jac jbI jbl jbn jba jaa jbA x7 jb6 jbW jbL jck jcc jdh jcc cyI jfl jck cyI jfK jbW cyI jdN jbL cyI jdi)) hP hD [0] [1, 2, 3, 4, 5] [5, 0, 1, 2, 3, 4] hCc rfl (by decide +kernel) (by decide +kernel) (by decide +kernel) rfl hk1 hFc hP1 hD1
  generalize H1 = H at hP hS ⊢
  refine lv_aload_n hx hb (qaa qg7 3 rfl) rfl (lv_at hl 0 rfl) ?_
  refine lv_iload hx hb (qaa qg7 4 rfl) (lv_at hl 8 rfl) ?_
  refine lv_iconst (v := 0) hx hb (qaa qg7 5 rfl) (by decide) ?_
  refine lv_sipush (v := 999) hx hb (qaa qg7 6 rfl) (by decide) ?_
  obtain ⟨hCc, hPc, hDc, hFc⟩ := qac (ws' := (quA a0 jaK jfP ja1 jb6 jbc jbV ja3 jbH ja2 jbO jaq jac jbI jbl jbn jba jaa jbA x7)) hP hD hS hA [0] (by decide +kernel) rfl
  refine vx_callv (vx_runV (As := [.int p8, .int 0, .int 999]) (rest := []) ⟨hx, hb, hml, hown, hts⟩ (qaV l dC dI cyB cyI cyJ cyP a0 H.size (jaK) (jfP) (ja1) (.ref jb6) (jbc) (jbV) (ja3) (jbH) (ja2) (jbO) (jaq) (jac) (jbI) (jbl) (jbn) (jba) (jaa) (jbA) x7 p8 0 999 hw) (cwV 3 hts gX10_would_X10_needWithin rfl rfl rfl (by decide +kernel) ⟨nbq rfl, nbq rfl⟩) ⟨qau, va_recv (q := (RX10, TX10, 19)) hK hPc (ci := 10) (q0 := 0) rfl rfl, qbk hPc hK hDc hNw hY hS hFc⟩ rfl rfl hl.1 rfl (lv_room (nbq rfl)) (qaa qg7 7 rfl) ⟨nbq rfl, nbq rfl⟩) hS (fun q _ h => hFc q h) hFc (fun q _ h => hFc q h) (fun en ce q9 u t H1 locs ht hvm hpx hB hz1 hk1 hS hc9 hv9 hcl9 => ?_) (fun u t H1 locs ht hvm hw hB hz1 hk1 hS => ?_)
  · obtain ⟨x8, rfl⟩ : ∃ z, z = u := ⟨_, rfl⟩
    obtain ⟨hw, hP1, hK1, hD1⟩ := hB
    rw [ht] at hP1
    obtain ⟨hP, hD⟩ := qad (wr := (qDk jb6 jbW jbL jck jcc jdh jcc cyI jfl jck cyI jfK jbW cyI jdN jbL cyI jdi)) (w1 := (quA a0 jaK jfP ja1 jb6 jbc jbV ja3 jbH ja2 jbO jaq jac jbI jbl jbn jba jaa jbA x8)) (wn := (qqp a0 jaK jfP ja1 jb6 jbc jbV ja3 jbH ja2 jbO jaq jac jbI jbl jbn jba jaa jbA x8 jb6 jbW jbL jck jcc jdh jcc cyI jfl jck cyI jfK jbW cyI jdN jbL cyI jdi)) hP hD [0] [1, 2, 3, 4, 5] [5, 0, 1, 2, 3, 4] hCc rfl (by decide +kernel) (by decide +kernel) (by decide +kernel) rfl hk1 hFc hP1 hD1
    generalize H1 = H at hP hS hc9 ⊢
    exact vx_out (fun x hx9 => (hXs.1 x hx9).elim) hlocks hc9 hv9 hcl9 (fun t2 ht2 hal2 => ⟨(x8, jfl, jfK), trivial, ⟨hw, by rw [ht2]; exact hP, va_K.moved hal2 hK, hD⟩, hS.F ht2⟩) hS.2.2 (nbq rfl) (nbq rfl)
  obtain ⟨x8, rfl⟩ : ∃ z, z = u := ⟨_, rfl⟩
  obtain ⟨hP1, hK1, hD1⟩ := hB
  rw [ht] at hP1
  obtain ⟨hP, hD⟩ := qad (wr := (qDk jb6 jbW jbL jck jcc jdh jcc cyI jfl jck cyI jfK jbW cyI jdN jbL cyI jdi)) (w1 := (quA a0 jaK jfP ja1 jb6 jbc jbV ja3 jbH ja2 jbO jaq jac jbI jbl jbn jba jaa jbA x8)) (wn := (qqp a0 jaK jfP ja1 jb6 jbc jbV ja3 jbH ja2 jbO jaq jac jbI jbl jbn jba jaa jbA x8 jb6 jbW jbL jck jcc jdh jcc cyI jfl jck cyI jfK jbW cyI jdN jbL cyI jdi)) hP hD [0] [1, 2, 3, 4, 5] [5, 0, 1, 2, 3, 4] hCc rfl (by decide +kernel) (by decide +kernel) (by decide +kernel) rfl hk1 hFc hP1 hD1
  generalize H1 = H at hP hS ⊢
  refine lv_aload_n hx hb (qaa qg7 8 rfl) rfl (lv_at hl 0 rfl) ?_
  refine va_get (D := (dC, dI)) (ci := 10) (v := .ref jb6) (C := RX10) (T := TX10) (N := 19) hx hb hts qMT hown hK hP 0 rfl rfl 3 (by decide) (hts _ qMo) (fun _ h9 => h9) rfl (qaa qg7 9 rfl) ?_
  refine lv_iload_n hx hb (qaa qg7 10 rfl) rfl (lv_at hl 1 rfl) ?_
  refine lv_iload_n hx hb (qaa qg7 11 rfl) rfl (lv_at hl 2 rfl) ?_
  refine lv_iload_n hx hb (qaa qg7 12 rfl) rfl (lv_at hl 3 rfl) ?_
  refine lv_iload hx hb (qaa qg7 13 rfl) (lv_at hl 4 rfl) ?_
  refine lv_iload hx hb (qaa qg7 14 rfl) (lv_at hl 5 rfl) ?_
  obtain ⟨hCc, hPc, hDc, hFc⟩ := qac (ws' := (qaPd jb6 jbW jbL jck jcc jdh jcc cyI jfl)) hP hD hS hA [1, 2] (by decide +kernel) rfl
  refine va_callv (va_runV (As := [.int p1, .int p2, .int p3, .int p4, .int p5]) (rest := []) ⟨hx, hb, hml, hown, hts⟩ (q7l l dC dI cyB cyI cyJ cyP jb6 jcc H.size (.ref jbW) (.ref jbL) (.ref jck) (.int jdh) jfl p1 p2 p3 p4 p5 hw) (cwV 5 hts gX10_would_X4_setFacts rfl rfl rfl (by decide +kernel) ⟨nbq rfl, nbq rfl⟩) ⟨qab, va_recv (q := (RX4, TX4, 5)) hK hPc (ci := 4) (q0 := 0) rfl rfl, qae hPc hK hDc hNw⟩ rfl rfl hl.1 rfl (lv_room (nbq rfl)) (qaa qg7 15 rfl) ⟨nbq rfl, nbq rfl⟩) hS (fun q _ h => hFc q h) hFc (fun u t H1 locs ht hvm hw hB hz1 hk1 hS => ?_)
  obtain ⟨f9, rfl⟩ : ∃ z, z = u := ⟨_, rfl⟩
  obtain ⟨hP1, hK1, hD1⟩ := hB
  rw [ht] at hP1
  obtain ⟨hP, hD⟩ := qad (wr := (qa8n a0 jaK jfP ja1 jb6 jbc jbV ja3 jbH ja2 jbO jaq jac jbI jbl jbn jba jaa jbA x8 jck cyI jfK jbW cyI jdN jbL cyI jdi)) (w1 := (qaPd jb6 jbW jbL jck jcc jdh jcc cyI f9)) (wn := (qqp a0 jaK jfP ja1 jb6 jbc jbV ja3 jbH ja2 jbO jaq jac jbI jbl jbn jba jaa jbA x8 jb6 jbW jbL jck jcc jdh jcc cyI f9 jck cyI jfK jbW cyI jdN jbL cyI jdi)) hP hD [1, 2] [0, 3, 4, 5] [0, 4, 5, 1, 2, 3] hCc rfl (by decide +kernel) (by decide +kernel) (by decide +kernel) rfl hk1 hFc hP1 hD1
  generalize H1 = H at hP hS ⊢
  refine lv_aload_n hx hb (qaa qqI 0 rfl) rfl (lv_at hl 0 rfl) ?_
  refine va_get (D := (dC, dI)) (ci := 10) (v := .ref jb6) (C := RX10) (T := TX10) (N := 19) hx hb hts qMT hown hK hP 0 rfl rfl 3 (by decide) (hts _ qMo) (fun _ h9 => h9) rfl (qaa qqI 1 rfl) ?_
  refine lv_iload hx hb (qaa qqI 2 rfl) (lv_at hl 6 rfl) ?_
  refine lv_iload hx hb (qaa qqI 3 rfl) (lv_at hl 7 rfl) ?_
  refine lv_iload hx hb (qaa qqI 4 rfl) (lv_at hl 8 rfl) ?_
  obtain ⟨hCc, hPc, hDc, hFc⟩ := qac (ws' := (qaPd jb6 jbW jbL jck jcc jdh jcc cyI f9)) hP hD hS hA [1, 2] (by decide +kernel) rfl
  refine va_callv (va_runV (As := [.int p6, .int p7, .int p8]) (rest := []) ⟨hx, hb, hml, hown, hts⟩ (q7v l dC dI cyB cyI cyJ cyP jb6 jcc H.size (.ref jbW) (.ref jbL) (.ref jck) (.int jdh) f9 p6 p7 p8 hw) (cwV 3 hts gX10_would_X4_setTimes rfl rfl rfl (by decide +kernel) ⟨nbq rfl, nbq rfl⟩) ⟨qab, va_recv (q := (RX4, TX4, 5)) hK hPc (ci := 4) (q0 := 0) rfl rfl, qae hPc hK hDc hNw⟩ rfl rfl hl.1 rfl (lv_room (nbq rfl)) (qaa qqI 5 rfl) ⟨nbq rfl, nbq rfl⟩) hS (fun q _ h => hFc q h) hFc (fun u t H1 locs ht hvm hw hB hz1 hk1 hS => ?_)
  obtain ⟨f10, rfl⟩ : ∃ z, z = u := ⟨_, rfl⟩
  obtain ⟨hP1, hK1, hD1⟩ := hB
  rw [ht] at hP1
  obtain ⟨hP, hD⟩ := qad (wr := (qa8n a0 jaK jfP ja1 jb6 jbc jbV ja3 jbH ja2 jbO jaq jac jbI jbl jbn jba jaa jbA x8 jck cyI jfK jbW cyI jdN jbL cyI jdi)) (w1 := (qaPd jb6 jbW jbL jck jcc jdh jcc cyI f10)) (wn := (qqp a0 jaK jfP ja1 jb6 jbc jbV ja3 jbH ja2 jbO jaq jac jbI jbl jbn jba jaa jbA x8 jb6 jbW jbL jck jcc jdh jcc cyI f10 jck cyI jfK jbW cyI jdN jbL cyI jdi)) hP hD [1, 2] [0, 3, 4, 5] [0, 4, 5, 1, 2, 3] hCc rfl (by decide +kernel) (by decide +kernel) (by decide +kernel) rfl hk1 hFc hP1 hD1
  generalize H1 = H at hP hS ⊢
  refine lv_aload_n hx hb (qaa qqI 6 rfl) rfl (lv_at hl 0 rfl) ?_
  refine va_get (D := (dC, dI)) (ci := 10) (v := .ref jb6) (C := RX10) (T := TX10) (N := 19) hx hb hts qMT hown hK hP 0 rfl rfl 3 (by decide) (hts _ qMo) (fun _ h9 => h9) rfl (qaa qqI 7 rfl) ?_
  obtain ⟨hCc, hPc, hDc, hFc⟩ := qac (ws' := (qakb jb6 jbW jbL jck jcc jdh jck cyI jfK jbW cyI jdN jbL cyI jdi jcc cyI f10)) hP hD hS hA [1, 3, 4, 5, 2] (by decide +kernel) rfl
  refine va_calli (va_runV (As := []) (rest := []) ⟨hx, hb, hml, hown, hts⟩ (qaxv l dC dI cyB cyI cyJ cyP jb6 jck jbW jcc jbL H.size jdh jdN jdi f10 jfK hw) (cwV 0 hts gX10_would_X4_reach rfl rfl rfl (by decide +kernel) ⟨nbq rfl, nbq rfl⟩) ⟨qab, va_recv (q := (RX4, TX4, 5)) hK hPc (ci := 4) (q0 := 0) rfl rfl, qae hPc hK hDc hNw⟩ rfl rfl hl.1 rfl (lv_room (nbq rfl)) (qaa qqI 8 rfl) ⟨nbq rfl, nbq rfl⟩) hS (fun q _ h => hFc q h) hFc (fun r12 u t H1 locs ht hvm hw hB hz1 hk1 hS => ?_)
  obtain ⟨f11, rfl⟩ : ∃ z, z = u := ⟨_, rfl⟩
  obtain ⟨hP1, hK1, hD1⟩ := hB
  rw [ht] at hP1
  obtain ⟨hP, hD⟩ := qad (wr := (quA a0 jaK jfP ja1 jb6 jbc jbV ja3 jbH ja2 jbO jaq jac jbI jbl jbn jba jaa jbA x8)) (w1 := (qakb jb6 jbW jbL jck jcc jdh jck cyI f11 jbW cyI jdN jbL cyI jdi jcc cyI f10)) (wn := (qqp a0 jaK jfP ja1 jb6 jbc jbV ja3 jbH ja2 jbO jaq jac jbI jbl jbn jba jaa jbA x8 jb6 jbW jbL jck jcc jdh jcc cyI f10 jck cyI f11 jbW cyI jdN jbL cyI jdi)) hP hD [1, 3, 4, 5, 2] [0] [0, 1, 5, 2, 3, 4] hCc rfl (by decide +kernel) (by decide +kernel) (by decide +kernel) rfl hk1 hFc hP1 hD1
  generalize H1 = H at hP hS ⊢
  exact vx_ret (W.widen (k := 8) (n := 48) (nbq rfl) (nbq rfl) (W.iret (v := r12) hx hb hr (fun t ht hW => ⟨⟨r12, (x8, f10, f11), rfl, hw, by rw [ht]; exact hP, va_K.moved hW.alike hK, hD⟩, hS.F ht⟩) hS.2.2 (qaa qqI 9 rfl)))
theorem qaBN : (.classLink RL 13 "java/lang/IllegalArgumentException" : Cond) ∈ wsL_would := qaev 595 (by decide +kernel)
theorem qaPn : (.codeWith yL_would cL_would 11 (some .int) [(0, 22, 25, 13)] : Cond) ∈ wsL_would := qaev 2890 (by decide +kernel)
set_option maxHeartbeats 4000000 in
set_option maxRecDepth 100000 in
theorem qa1l (l : Launch) (dC : Nat → ClassId) (dI : Nat → Nat → Nat) (cyB cyI cyJ cyP : ClassId) (a0 a9 jb6 jcc jck jbW jbL sz : Nat) (jaK jfP ja1 jbc jbV ja3 jbH ja2 jbO jaq jac jbI jbl jbn jba jaa jbA : Value) (n9 : Nat) (jdh : Int32) (jdN jdi : NI) (jbz : Int32) (jfl jfK : NI) (f9 : Nat → Int64) (p1 p2 p3 p4 p5 p6 p7 p8 : Int32) {Q : Int32 → Int32 → NI → NI → (Nat → Int64) → Prop} (hw : qaLN n9 jdh jdN jdi jbz jfl jfK f9 p1 p2 p3 p4 p5 p6 p7 p8 Q) : Met l yL_would wsL_would ({ frames := 9, cells := 8, slots := 48, locals := 192 }) (va_Pc [.ref a0, .int p1, .int p2, .int p3, .int p4, .int p5, .int p6, .int p7, .int p8, .ref a9] (cPx l (dC, dI) (kT cyB cyI cyJ cyP) (qL4 a0 jaK jfP ja1 jb6 jbc jbV ja3 jbH ja2 jbO jaq jac jbI jbl jbn jba jaa jbA jbz jb6 jbW jbL jck jcc jdh jcc cyI jfl jck cyI jfK jbW cyI jdN jbL cyI jdi a9 cyJ n9 f9) sz)) (va_Qi (fun (r : Int32) (u : Int32 × NI × NI × (Nat → Int64)) => Q r u.1 u.2.1 u.2.2.1 u.2.2.2) (cB (dC, dI) (kT cyB cyI cyJ cyP) (va_A (qL4 a0 jaK jfP ja1 jb6 jbc jbV ja3 jbH ja2 jbO jaq jac jbI jbl jbn jba jaa jbA jbz jb6 jbW jbL jck jcc jdh jcc cyI jfl jck cyI jfK jbW cyI jdN jbL cyI jdi a9 cyJ n9 f9) sz) (fun u : Int32 × NI × NI × (Nat → Int64) => ((qL4 a0 jaK jfP ja1 jb6 jbc jbV ja3 jbH ja2 jbO jaq jac jbI jbl jbn jba jaa jbA u.1 jb6 jbW jbL jck jcc jdh jcc cyI u.2.1 jck cyI u.2.2.1 jbW cyI jdN jbL cyI jdi a9 cyJ n9 u.2.2.2) : va_W))) (va_A (qL4 a0 jaK jfP ja1 jb6 jbc jbV ja3 jbH ja2 jbO jaq jac jbI jbl jbn jba jaa jbA jbz jb6 jbW jbL jck jcc jdh jcc cyI jfl jck cyI jfK jbW cyI jdN jbL cyI jdi a9 cyJ n9 f9) sz)) 8 48 (va_A (qL4 a0 jaK jfP ja1 jb6 jbc jbV ja3 jbH ja2 jbO jaq jac jbI jbl jbn jba jaa jbA jbz jb6 jbW jbL jck jcc jdh jcc cyI jfl jck cyI jfK jbW cyI jdN jbL cyI jdi a9 cyJ n9 f9) sz) := by
  refine va_MetW (cc := cL_would) (maxL := 11) (ret := (some .int)) (by decide) rfl ?_
  intro p e s m args below meth c s₁ B hml hv
  obtain ⟨rfl, hsz, hP, hK, hD0, hNw, hXl, hXu, hXn, hXt⟩ := hv
  have hx := B.exec
  have hb := B.bytes
  have hr := B.returns
  have hts := atoms_spec (ws := wsL_would) B.pre
  have hown : s.vm.findClass RL = some m.cls := findClass_of_methodNamed B.named
  have hlocks := B.notSynchronized
  subst hsz
  have hD := hD0.self (sz := s.heap.size)
  generalize hAe : va_A (qL4 a0 jaK jfP ja1 jb6 jbc jbV ja3 jbH ja2 jbO jaq jac jbI jbl jbn jba jaa jbA jbz jb6 jbW jbL jck jcc jdh jcc cyI jfl jck cyI jfK jbW cyI jdN jbL cyI jdi a9 cyJ n9 f9) s.heap.size = A at hD hXu hXn ⊢
  have hA : ∀ q : Nat, s.heap.size ≤ q → A q := fun q h => by rw [← hAe]; exact Or.inr h
  have hS : va_S A s.heap s.heap [] := va_S.rf
  have hP : va_P (dC, dI) vwCl (qL4 a0 jaK jfP ja1 jb6 jbc jbV ja3 jbH ja2 jbO jaq jac jbI jbl jbn jba jaa jbA jbz jb6 jbW jbL jck jcc jdh jcc cyI jfl jck cyI jfK jbW cyI jdN jbL cyI jdi a9 cyJ n9 f9) s.heap := hP
  have hl := lv_entry ([.ref a0, .int p1, .int p2, .int p3, .int p4, .int p5, .int p6, .int p7, .int p8, .ref a9]) (n := 11) (nbq rfl)
  rw [lg_entry_eq]
  generalize (lg_sl ([.ref a0, .int p1, .int p2, .int p3, .int p4, .int p5, .int p6, .int p7, .int p8, .ref a9]) ++ List.replicate (11 - (lg_sl ([.ref a0, .int p1, .int p2, .int p3, .int p4, .int p5, .int p6, .int p7, .int p8, .ref a9])).length) Slot.unset).toArray = ls at hl ⊢
  have hl : lv_has ls 11 [(0, .ref a0), (1, .int p1), (2, .int p2), (3, .int p3), (4, .int p4), (5, .int p5), (6, .int p6), (7, .int p7), (8, .int p8), (9, .ref a9)] := hl
  have hY : cfY l s A := ⟨hXl, hXu, hXn, hXt⟩
  have hTb := vx_table (x := yL_would) B (hts _ qaPn)
  clear hAe
  obtain ⟨H, hH⟩ : ∃ H, H = s.heap := ⟨_, rfl⟩
  rw [← hH] at hP ⊢
  have hS : va_S A s.heap H [] := by rw [hH]; exact va_S.rf
  have hS := hS
  refine lv_aload hx hb (qaa qoB 0 rfl) (lv_at hl 9 rfl) ?_
  refine lv_iconst (v := 0) hx hb (qaa qoB 1 rfl) (by decide) ?_
  refine lv_aload_n hx hb (qaa qoB 2 rfl) rfl (lv_at hl 0 rfl) ?_
  refine lv_iload_n hx hb (qaa qoB 3 rfl) rfl (lv_at hl 1 rfl) ?_
  refine lv_iload_n hx hb (qaa qoB 4 rfl) rfl (lv_at hl 2 rfl) ?_
  refine lv_iload_n hx hb (qaa qoB 5 rfl) rfl (lv_at hl 3 rfl) ?_
  refine lv_iload hx hb (qaa qoB 6 rfl) (lv_at hl 4 rfl) ?_
  refine lv_iload hx hb (qaa qoB 7 rfl) (lv_at hl 5 rfl) ?_
  refine lv_iload hx hb (qaa qoB 8 rfl) (lv_at hl 6 rfl) ?_
  refine lv_iload hx hb (qaa qoB 9 rfl) (lv_at hl 7 rfl) ?_
  refine lv_iload hx hb (qaa qoB 10 rfl) (lv_at hl 8 rfl) ?_
  obtain ⟨hCc, hPc, hDc, hFc⟩ := qac (ws' := (qqp a0 jaK jfP ja1 jb6 jbc jbV ja3 jbH ja2 jbO jaq jac jbI jbl jbn jba jaa jbA jbz jb6 jbW jbL jck jcc jdh jcc cyI jfl jck cyI jfK jbW cyI jdN jbL cyI jdi)) hP hD hS hA [0, 1, 2, 3, 4, 5] (by decide +kernel) rfl
  refine vx_calli (vx_runV (As := [.int p1, .int p2, .int p3, .int p4, .int p5, .int p6, .int p7, .int p8]) (rest := [.int 0, .ref a9]) ⟨hx, hb, hml, hown, hts⟩ (qaVH l dC dI cyB cyI cyJ cyP a0 jb6 jcc jck jbW jbL H.size (jaK) (jfP) (ja1) (jbc) (jbV) (ja3) (jbH) (ja2) (jbO) (jaq) (jac) (jbI) (jbl) (jbn) (jba) (jaa) (jbA) jdh jdN jdi jbz jfl jfK p1 p2 p3 p4 p5 p6 p7 p8 hw) (cwV 8 hts gL_would_X10_would rfl rfl rfl (by decide +kernel) ⟨nbq rfl, nbq rfl⟩) ⟨qau, va_recv (q := (RX10, TX10, 19)) hK hPc (ci := 10) (q0 := 0) rfl rfl, qbk hPc hK hDc hNw hY hS hFc⟩ rfl rfl hl.1 rfl (lv_room (nbq rfl)) (qaa qoB 11 rfl) ⟨nbq rfl, nbq rfl⟩) hS (fun q _ h => hFc q h) hFc (fun q _ h => hFc q h) (fun en ce qx9 u t H1 locs ht hvm hpx hB hz1 hk1 hS hc9 hv9 hcl9 => ?_) (fun r4 u t H1 locs ht hvm hw hB hz1 hk1 hS => ?_)
  · obtain ⟨x1, f2, f3⟩ := u
    obtain ⟨hw, hP1, hK1, hD1⟩ := hB
    rw [ht] at hP1
    obtain ⟨hP, hD⟩ := qad (wr := [(a9, .inl (cyJ, n9, .inr (.inl f9)))]) (w1 := (qqp a0 jaK jfP ja1 jb6 jbc jbV ja3 jbH ja2 jbO jaq jac jbI jbl jbn jba jaa jbA x1 jb6 jbW jbL jck jcc jdh jcc cyI f2 jck cyI f3 jbW cyI jdN jbL cyI jdi)) (wn := (qL4 a0 jaK jfP ja1 jb6 jbc jbV ja3 jbH ja2 jbO jaq jac jbI jbl jbn jba jaa jbA x1 jb6 jbW jbL jck jcc jdh jcc cyI f2 jck cyI f3 jbW cyI jdN jbL cyI jdi a9 cyJ n9 f9)) hP hD [0, 1, 2, 3, 4, 5] [6] [1, 2, 3, 4, 5, 6, 0] hCc rfl (by decide +kernel) (by decide +kernel) (by decide +kernel) rfl hk1 hFc hP1 hD1
    generalize H1 = H at hP hS hc9 ⊢
    obtain ⟨rfl, hw⟩ := hw
    refine vx_catch (own := RL) (name := "java/lang/IllegalArgumentException") hown [] ⟨0, 22, 25, 13⟩ [] (hTb.trans rfl) (fun z hz => nomatch hz) (by decide) (by decide) (hts _ qaBN) (va_Nw.use rfl (hY.2.2.2.1.2 _ (List.mem_of_getElem? (i := 0) rfl))) hc9 hv9 hcl9 ?_
    refine lv_astore (lv' := [(10, .ref qx9), (0, .ref a0), (1, .int p1), (2, .int p2), (3, .int p3), (4, .int p4), (5, .int p5), (6, .int p6), (7, .int p7), (8, .int p8), (9, .ref a9)]) hx hb (qaa qoB 15 rfl) hl (by decide) rfl (fun ls hl => ?_)
    refine lv_iconst (v := 1) hx hb (qaa qOi 0 rfl) (by decide) ?_
    exact (W.widen (k := 8) (n := 48) (nbq rfl) (nbq rfl) (W.iret (v := 1) hx hb hr (fun t ht hW => ⟨⟨1, (x1, f2, f3, f9), rfl, hw, by rw [ht]; exact hP, va_K.moved hW.alike hK, hD⟩, hS.F ht⟩) hS.2.2 (qaa qOi 1 rfl)))
  obtain ⟨x1, f2, f3⟩ := u
  obtain ⟨hP1, hK1, hD1⟩ := hB
  rw [ht] at hP1
  obtain ⟨hP, hD⟩ := va_join (wr := [(a9, .inl (cyJ, n9, .inr (.inl f9)))]) (w1 := (qqp a0 jaK jfP ja1 jb6 jbc jbV ja3 jbH ja2 jbO jaq jac jbI jbl jbn jba jaa jbA x1 jb6 jbW jbL jck jcc jdh jcc cyI f2 jck cyI f3 jbW cyI jdN jbL cyI jdi)) hP hD [0, 1, 2, 3, 4, 5] [6] rfl rfl (by decide) (by decide) hk1 hFc hP1 hD1
  have hP : va_P (dC, dI) vwCl (qL4 a0 jaK jfP ja1 jb6 jbc jbV ja3 jbH ja2 jbO jaq jac jbI jbl jbn jba jaa jbA x1 jb6 jbW jbL jck jcc jdh jcc cyI f2 jck cyI f3 jbW cyI jdN jbL cyI jdi a9 cyJ n9 f9) H1 := hP.sub [1, 2, 3, 4, 5, 6, 0] rfl
  have hD : va_D A (qL4 a0 jaK jfP ja1 jb6 jbc jbV ja3 jbH ja2 jbO jaq jac jbI jbl jbn jba jaa jbA x1 jb6 jbW jbL jck jcc jdh jcc cyI f2 jck cyI f3 jbW cyI jdN jbL cyI jdi a9 cyJ n9 f9) := hD.sub [1, 2, 3, 4, 5, 6, 0] (by decide) rfl
  generalize H1 = H at hP hS ⊢
  refine lv_i2l (v := r4.toInt64) hx hb (qaa qoB 12 rfl) rfl ?_
  refine lv_topl (fun x5 ex5 => ?_)
  have hw := hw x5 ex5
  obtain ⟨hi9, hw⟩ := hw
  refine va_last hx hb hK hP hD hS 6 2 rfl rfl hi9 (qaa qoB 13 rfl) (fun H locs hP hD hS => ?_)
  obtain ⟨f6, ef6⟩ : ∃ y : Nat → Int64, y = vp_updL f9 (0 : Int32).toNatClampNeg x5 := ⟨_, rfl⟩
  have hw := hw f6 ef6
  have hP : va_P (dC, dI) vwCl (qL4 a0 jaK jfP ja1 jb6 jbc jbV ja3 jbH ja2 jbO jaq jac jbI jbl jbn jba jaa jbA x1 jb6 jbW jbL jck jcc jdh jcc cyI f2 jck cyI f3 jbW cyI jdN jbL cyI jdi a9 cyJ n9 f6) H := by rw [ef6]; exact hP
  have hD : va_D A (qL4 a0 jaK jfP ja1 jb6 jbc jbV ja3 jbH ja2 jbO jaq jac jbI jbl jbn jba jaa jbA x1 jb6 jbW jbL jck jcc jdh jcc cyI f2 jck cyI f3 jbW cyI jdN jbL cyI jdi a9 cyJ n9 f6) := by rw [ef6]; exact hD
  refine lv_goto (tgt := 29) hx hb (qaa qoB 14 rfl) (by decide) ?_
  refine lv_iconst (v := 0) hx hb (qaa qOi 2 rfl) (by decide) ?_
  exact (W.widen (k := 8) (n := 48) (nbq rfl) (nbq rfl) (W.iret (v := 0) hx hb hr (fun t ht hW => ⟨⟨0, (x1, f2, f3, f6), rfl, hw, by rw [ht]; exact hP, va_K.moved hW.alike hK, hD⟩, hS.F ht⟩) hS.2.2 (qaa qOi 3 rfl)))
theorem qaNh : ∀ w ∈ u_ws RX0 TX0 2, w ∈ wsX0_init := uiM qLo euX0 (by decide +kernel)
theorem qaoM : (.arrayClass .int : Cond) ∈ wsX0_init := qLo 147 (by decide +kernel)
theorem qayr : (.code objectInit ⟨#[0xb1]⟩ 1 none : Cond) ∈ wsX0_init := qLo 12 (by decide +kernel)
theorem qaPf : (.fieldLink RX0 9 "MarchHares$Book" "seen" "[I" : Cond) ∈ wsX0_init := qLo 257 (by decide +kernel)
theorem qatb : (.instanceMethod objectInit : Cond) ∈ wsX0_init := qLo 11 (by decide +kernel)
theorem qaRh : (.methodLink RX0 3 objectInit : Cond) ∈ wsX0_init := qLo 256 (by decide +kernel)
set_option maxHeartbeats 4000000 in
set_option maxRecDepth 100000 in
theorem qaL3 (l : Launch) (dC : Nat → ClassId) (dI : Nat → Nat → Nat) (cyB cyI cyJ cyP : ClassId) (a0 sz : Nat) {Q : Int32 → NI → Prop} (hw : qant Q) : Met l yX0_init wsX0_init ({ frames := 1, cells := 1, slots := 8, locals := 24 }) (va_Pc [.ref a0] (cPc (dC, dI) (kT cyB cyI cyJ cyP) [(a0, .inr (0, [.null, .int 0]))] sz)) (va_Qv (fun (u : (Nat → Nat) × (Int32) × NI) => Q u.2.1 u.2.2) (cB (dC, dI) (kT cyB cyI cyJ cyP) (va_A [(a0, .inr (0, [.null, .int 0]))] sz) (fun u : (Nat → Nat) × (Int32) × NI => ((qakM a0 (u.1 0) u.2.1 (u.1 0) cyI u.2.2) : va_W))) (va_A [(a0, .inr (0, [.null, .int 0]))] sz)) 1 8 (va_A [(a0, .inr (0, [.null, .int 0]))] sz) := by
  refine Met.ofW (cc := cX0_init) (maxL := 1) (ret := none) (by decide) rfl ?_
  intro p e s m args below meth c s₁ B hml hv
  obtain ⟨rfl, hsz, hP, hK, hD0, hNw⟩ := hv
  have hx := B.exec
  have hb := B.bytes
  have hr := B.returns
  have hts := atoms_spec (ws := wsX0_init) B.pre
  have hown : s.vm.findClass RX0 = some m.cls := findClass_of_methodNamed B.named
  have hlocks := B.notSynchronized
  have hin : meth.name = "<init>" := (name_of_methodNamed B.named B.method).1
  subst hsz
  have hD := hD0.self (sz := s.heap.size)
  generalize hAe : va_A [(a0, .inr (0, [.null, .int 0]))] s.heap.size = A at hD ⊢
  have hA : ∀ q : Nat, s.heap.size ≤ q → A q := fun q h => by rw [← hAe]; exact Or.inr h
  have hS : va_S A s.heap s.heap [] := va_S.rf
  have hP : va_P (dC, dI) vwCl [(a0, .inr (0, [.null, .int 0]))] s.heap := hP
  have hl := lv_entry ([.ref a0]) (n := 1) (nbq rfl)
  rw [lg_entry_eq]
  generalize (lg_sl ([.ref a0]) ++ List.replicate (1 - (lg_sl ([.ref a0])).length) Slot.unset).toArray = ls at hl ⊢
  have hl : lv_has ls 1 [(0, .ref a0)] := hl
  clear hAe
  obtain ⟨H, hH⟩ : ∃ H, H = s.heap := ⟨_, rfl⟩
  rw [← hH] at hP ⊢
  have hS : va_S A s.heap H [] := by rw [hH]; exact va_S.rf
  refine lv_aload_n hx hb (qaa qSs 0 rfl) rfl (lv_at hl 0 rfl) ?_
  refine W.objInit hx hb hown (hts _ qaRh) (hts _ qatb) (hts _ qayr) rfl (by rw [hml]; exact hl.1) rfl (qaa qSs 1 rfl) (nbq rfl) (nbq rfl) ?_
  refine W.eq (g2 := F0 m 4 ls []) rfl ?_
  refine lv_aload_n hx hb (qaa qSs 2 rfl) rfl (lv_at hl 0 rfl) ?_
  refine lv_bipush (v := 8) hx hb (qaa qSs 3 rfl) (by decide) ?_
  refine va_newa (atype := .int) (ty := .int) (N' := 8) (a0 := (8, .inl (fun _ => 0))) hx hb (hts _ qaoM) rfl hK hP hD hS hA (fun _ => rfl) (by decide) (by decide) (by decide) (nbq rfl) (nbq rfl) dX0_init_7 (fun jjj cA9 H hK9 hP hD hS => ?_)
  obtain rfl := qkQ hK9
  have hP : va_P (dC, dI) vwCl (qa4f a0 0 jjj cyI (fun _ => 0)) H := hP
  have hD : va_D A (qa4f a0 0 jjj cyI (fun _ => 0)) := hD
  refine va_putF (D := (dC, dI)) (ci := 0) (v := .ref jjj) (ty := .array .int) (C := RX0) (T := TX0) (N := 2) hx hb hts qaNh tyX0 tyX0_ok nmX0 hown hK hP hD hS 0 rfl rfl 0 (by decide) (hts _ qaPf) (fun _ h9 => h9) rfl hin rfl (by decide +kernel) rfl rfl (nbq rfl) (qaa qSw 0 rfl) (fun H locs hP hD hS => ?_)
  have hP : va_P (dC, dI) vwCl (qakM a0 jjj 0 jjj cyI (fun _ => 0)) H := hP
  have hD : va_D A (qakM a0 jjj 0 jjj cyI (fun _ => 0)) := hD
  refine lv_aload_n hx hb (qaa qSw 1 rfl) rfl (lv_at hl 0 rfl) ?_
  obtain ⟨hCc, hPc, hDc, hFc⟩ := qac (ws' := (qakM a0 jjj 0 jjj cyI (fun _ => 0))) hP hD hS hA [0, 1] (by decide +kernel) rfl
  refine va_callv (va_runV (As := []) (rest := []) ⟨hx, hb, hml, hown, hts⟩ (qace l dC dI cyB cyI cyJ cyP a0 jjj H.size 0 (fun _ => 0) hw) (cwV 0 hts gX0_init_X0_clear rfl rfl rfl (by decide +kernel) ⟨nbq rfl, nbq rfl⟩) ⟨qab, va_recv (q := (RX0, TX0, 2)) hK hPc (ci := 0) (q0 := 0) rfl rfl, qae hPc hK hDc hNw⟩ rfl rfl hl.1 rfl (lv_room (nbq rfl)) (qaa qSw 2 rfl) ⟨nbq rfl, nbq rfl⟩) hS (fun q _ h => hFc q h) hFc (fun u t H1 locs ht hvm hw hB hz1 hk1 hS => ?_)
  obtain ⟨x1, f2⟩ := u
  obtain ⟨hP1, hK1, hD1⟩ := hB
  rw [ht] at hP1
  obtain ⟨hP, hD⟩ := qah (wr := []) (w1 := (qakM a0 jjj x1 jjj cyI f2)) (wn := (qakM a0 jjj x1 jjj cyI f2)) hP hD [0, 1] [] hCc rfl (by decide +kernel) (by decide +kernel) rfl hk1 hFc hP1 hD1
  generalize H1 = H at hP hS ⊢
  exact (W.widen (k := 1) (n := 8) (nbq rfl) (nbq rfl) (W.vret hx hb hr (fun t ht hW => ⟨⟨((adr [jjj]), x1, f2), rfl, hw, by rw [ht]; exact hP, va_K.moved hW.alike hK, hD⟩, hS.F ht⟩) hS.2.2 (qaa qSw 3 rfl)))
theorem qL3 : ∀ w ∈ u_ws RX10 TX10 19, w ∈ wsX10_count := uiM qB2 qyE (by decide +kernel)
theorem qawD : ∀ w ∈ u_ws RX5 TX5 2, w ∈ wsX10_count := uiM qB2 euX5 (by decide +kernel)
theorem qaBo : ∀ w ∈ u_ws RX8 TX8 7, w ∈ wsX10_count := uiM qB2 euX8 (by decide +kernel)
theorem qasD : (.fieldLink RX10 10 "MarchHares" "tape" "LMarchHares$Tape;" : Cond) ∈ wsX10_count := qB2 16 (by decide +kernel)
theorem qajo : (.fieldLink RX10 105 "MarchHares$Tape" "filled" "I" : Cond) ∈ wsX10_count := qB2 535 (by decide +kernel)
theorem qalR : (.fieldLink RX10 132 "MarchHares$Past" "kept" "I" : Cond) ∈ wsX10_count := qB2 641 (by decide +kernel)
theorem qanT : (.fieldLink RX10 135 "MarchHares" "imagesKept" "I" : Cond) ∈ wsX10_count := qB2 642 (by decide +kernel)
theorem qar4 : (.fieldLink RX10 68 "MarchHares" "past" "LMarchHares$Past;" : Cond) ∈ wsX10_count := qB2 84 (by decide +kernel)
set_option maxHeartbeats 4000000 in
set_option maxRecDepth 100000 in
theorem qaSR (l : Launch) (dC : Nat → ClassId) (dI : Nat → Nat → Nat) (cyB cyI cyJ cyP : ClassId) (a0 jaW jeG sz : Nat) (jfP ja1 jcp jbc jbV ja3 jbH ja2 jbO jac jbI jbl jbn jaa jbA jdD jok jnj jn8 jnw jnx jm1 jm2 : Value) (jkc jj0 jje p1 : Int32) {Q : Int32 → Prop} (hw : qanZ jkc jj0 jje p1 Q) : Met l yX10_count wsX10_count ({ frames := 0, cells := 0, slots := 0, locals := 0 }) (va_Pc [.ref a0, .int p1] (cPc (dC, dI) (kT cyB cyI cyJ cyP) (qaaO a0 jaW jfP ja1 jcp jbc jbV ja3 jbH ja2 jbO jeG jac jbI jbl jbn jkc jaa jbA jdD jaW jok jnj jn8 jnw jj0 jnx jm1 jeG jm2 jje) sz)) (va_Qi (fun (r : Int32) (_ : Unit) => Q r ) (cB (dC, dI) (kT cyB cyI cyJ cyP) (va_A (qaaO a0 jaW jfP ja1 jcp jbc jbV ja3 jbH ja2 jbO jeG jac jbI jbl jbn jkc jaa jbA jdD jaW jok jnj jn8 jnw jj0 jnx jm1 jeG jm2 jje) sz) (fun u : Unit => ((qaaO a0 jaW jfP ja1 jcp jbc jbV ja3 jbH ja2 jbO jeG jac jbI jbl jbn jkc jaa jbA jdD jaW jok jnj jn8 jnw jj0 jnx jm1 jeG jm2 jje) : va_W))) (va_A (qaaO a0 jaW jfP ja1 jcp jbc jbV ja3 jbH ja2 jbO jeG jac jbI jbl jbn jkc jaa jbA jdD jaW jok jnj jn8 jnw jj0 jnx jm1 jeG jm2 jje) sz)) 0 0 (va_A (qaaO a0 jaW jfP ja1 jcp jbc jbV ja3 jbH ja2 jbO jeG jac jbI jbl jbn jkc jaa jbA jdD jaW jok jnj jn8 jnw jj0 jnx jm1 jeG jm2 jje) sz) := by
  refine Met.ofW (cc := cX10_count) (maxL := 2) (ret := (some .int)) (by decide) rfl ?_
  intro p e s m args below meth c s₁ B hml hv
  obtain ⟨rfl, hsz, hP, hK, hD0, hNw⟩ := hv
  have hx := B.exec
  have hb := B.bytes
  have hr := B.returns
  have hts := atoms_spec (ws := wsX10_count) B.pre
  have hown : s.vm.findClass RX10 = some m.cls := findClass_of_methodNamed B.named
  have hlocks := B.notSynchronized
  subst hsz
  have hD := hD0.self (sz := s.heap.size)
  generalize hAe : va_A (qaaO a0 jaW jfP ja1 jcp jbc jbV ja3 jbH ja2 jbO jeG jac jbI jbl jbn jkc jaa jbA jdD jaW jok jnj jn8 jnw jj0 jnx jm1 jeG jm2 jje) s.heap.size = A at hD ⊢
  have hA : ∀ q : Nat, s.heap.size ≤ q → A q := fun q h => by rw [← hAe]; exact Or.inr h
  have hS : va_S A s.heap s.heap [] := va_S.rf
  have hP : va_P (dC, dI) vwCl (qaaO a0 jaW jfP ja1 jcp jbc jbV ja3 jbH ja2 jbO jeG jac jbI jbl jbn jkc jaa jbA jdD jaW jok jnj jn8 jnw jj0 jnx jm1 jeG jm2 jje) s.heap := hP
  have hl := lv_entry ([.ref a0, .int p1]) (n := 2) (nbq rfl)
  rw [lg_entry_eq]
  generalize (lg_sl ([.ref a0, .int p1]) ++ List.replicate (2 - (lg_sl ([.ref a0, .int p1])).length) Slot.unset).toArray = ls at hl ⊢
  have hl : lv_has ls 2 [(0, .ref a0), (1, .int p1)] := hl
  have C0 : cfx p s m _ meth c cX10_count (some .int) wsX10_count RX10 2 A (dC, dI) (kT cyB cyI cyJ cyP) := ⟨hx, hb, hr, hts, hown, hlocks, hml, hA, hK, hNw⟩
  clear hAe
  obtain ⟨H, hH⟩ : ∃ H, H = s.heap := ⟨_, rfl⟩
  rw [← hH] at hP ⊢
  have hS : va_S A s.heap H [] := by rw [hH]; exact va_S.rf
  have hS := hS
  refine lv_iload_n hx hb (qaa qaKx 0 rfl) rfl (lv_at hl 1 rfl) ?_
  by_cases c1 : p1.toInt < 0 ∨ 2 < p1.toInt
  · have hw := hw.1 c1
    refine lv_tableOut (tgt := 49) hx hb dX10_count_1 c1 (by decide) ?_
    refine lv_iconst (v := (-1)) hx hb (qaa qm4 11 rfl) (by decide) ?_
    exact ((W.iret (v := (-1)) hx hb hr (fun t ht hW => ⟨⟨(-1), (), rfl, hw, by rw [ht]; exact hP, va_K.moved hW.alike hK, hD⟩, hS.F ht⟩) hS.2.2 (qaa qm4 12 rfl)))
  · have hw := hw.2
    rcases qayU c1 with c1 | c1 | c1
    · have hw := hw.1 c1
      refine lv_tableIn (tgt := 28) (off := 27) hx hb dX10_count_1 (by rw [c1]; decide) (by rw [c1]; decide) (by rw [c1]; decide) (by decide) ?_
      refine lv_aload_n hx hb (qaa qm4 0 rfl) rfl (lv_at hl 0 rfl) ?_
      refine va_get (D := (dC, dI)) (ci := 10) (v := .int jkc) (C := RX10) (T := TX10) (N := 19) hx hb hts qL3 hown hK hP 0 rfl rfl 15 (by decide) (hts _ qanT) (fun _ h9 => h9) rfl (qaa qm4 1 rfl) ?_
      exact ((W.iret (v := jkc) hx hb hr (fun t ht hW => ⟨⟨jkc, (), rfl, hw, by rw [ht]; exact hP, va_K.moved hW.alike hK, hD⟩, hS.F ht⟩) hS.2.2 (qaa qm4 2 rfl)))
    · have hw := hw.2.1 c1
      refine lv_tableIn (tgt := 33) (off := 32) hx hb dX10_count_1 (by rw [c1]; decide) (by rw [c1]; decide) (by rw [c1]; decide) (by decide) ?_
      refine lv_aload_n hx hb (qaa qm4 3 rfl) rfl (lv_at hl 0 rfl) ?_
      refine va_get (D := (dC, dI)) (ci := 10) (v := .ref jaW) (C := RX10) (T := TX10) (N := 19) hx hb hts qL3 hown hK hP 0 rfl rfl 0 (by decide) (hts _ qasD) (fun _ h9 => h9) rfl (qaa qm4 4 rfl) ?_
      refine va_get (D := (dC, dI)) (ci := 8) (v := .int jj0) (C := RX8) (T := TX8) (N := 7) hx hb hts qaBo hown hK hP 1 rfl rfl 4 (by decide) (hts _ qajo) (fun _ h9 => h9) rfl (qaa qm4 5 rfl) ?_
      exact ((W.iret (v := jj0) hx hb hr (fun t ht hW => ⟨⟨jj0, (), rfl, hw, by rw [ht]; exact hP, va_K.moved hW.alike hK, hD⟩, hS.F ht⟩) hS.2.2 (qaa qm4 6 rfl)))
    · have hw := hw.2.2 c1
      refine lv_tableIn (tgt := 41) (off := 40) hx hb dX10_count_1 (by rw [c1]; decide) (by rw [c1]; decide) (by rw [c1]; decide) (by decide) ?_
      refine lv_aload_n hx hb (qaa qm4 7 rfl) rfl (lv_at hl 0 rfl) ?_
      refine va_get (D := (dC, dI)) (ci := 10) (v := .ref jeG) (C := RX10) (T := TX10) (N := 19) hx hb hts qL3 hown hK hP 0 rfl rfl 10 (by decide) (hts _ qar4) (fun _ h9 => h9) rfl (qaa qm4 8 rfl) ?_
      refine va_get (D := (dC, dI)) (ci := 5) (v := .int jje) (C := RX5) (T := TX5) (N := 2) hx hb hts qawD hown hK hP 2 rfl rfl 1 (by decide) (hts _ qalR) (fun _ h9 => h9) rfl (qaa qm4 9 rfl) ?_
      exact ((W.iret (v := jje) hx hb hr (fun t ht hW => ⟨⟨jje, (), rfl, hw, by rw [ht]; exact hP, va_K.moved hW.alike hK, hD⟩, hS.F ht⟩) hS.2.2 (qaa qm4 10 rfl)))
theorem qatC : ∀ w ∈ u_ws RX10 TX10 19, w ∈ wsX10_fault := uiM qWK qyE (by decide +kernel)
theorem qayG : ∀ w ∈ u_ws RX8 TX8 7, w ∈ wsX10_fault := uiM qWK euX8 (by decide +kernel)
theorem qaur : (.fieldLink RX10 10 "MarchHares" "tape" "LMarchHares$Tape;" : Cond) ∈ wsX10_fault := qWK 16 (by decide +kernel)
theorem qaji : (.fieldLink RX10 174 "MarchHares$Tape" "faultPlace" "I" : Cond) ∈ wsX10_fault := qWK 2452 (by decide +kernel)
set_option maxHeartbeats 4000000 in
set_option maxRecDepth 100000 in
theorem qaUG (l : Launch) (dC : Nat → ClassId) (dI : Nat → Nat → Nat) (cyB cyI cyJ cyP : ClassId) (a0 jaW sz : Nat) (jfP ja1 jcp jbc jbV ja3 jbH ja2 jbO jaq jac jbI jbl jbn jba jaa jbA jdD jok jnj jn8 jnw jpj jnx : Value) (jjE : Int32) {Q : Int32 → Prop} (hw : q2U jjE Q) : Met l yX10_fault wsX10_fault ({ frames := 0, cells := 0, slots := 0, locals := 0 }) (va_Pc [.ref a0] (cPc (dC, dI) (kT cyB cyI cyJ cyP) (qabM a0 jaW jfP ja1 jcp jbc jbV ja3 jbH ja2 jbO jaq jac jbI jbl jbn jba jaa jbA jdD jaW jok jnj jn8 jnw jpj jnx jjE) sz)) (va_Qi (fun (r : Int32) (_ : Unit) => Q r ) (cB (dC, dI) (kT cyB cyI cyJ cyP) (va_A (qabM a0 jaW jfP ja1 jcp jbc jbV ja3 jbH ja2 jbO jaq jac jbI jbl jbn jba jaa jbA jdD jaW jok jnj jn8 jnw jpj jnx jjE) sz) (fun u : Unit => ((qabM a0 jaW jfP ja1 jcp jbc jbV ja3 jbH ja2 jbO jaq jac jbI jbl jbn jba jaa jbA jdD jaW jok jnj jn8 jnw jpj jnx jjE) : va_W))) (va_A (qabM a0 jaW jfP ja1 jcp jbc jbV ja3 jbH ja2 jbO jaq jac jbI jbl jbn jba jaa jbA jdD jaW jok jnj jn8 jnw jpj jnx jjE) sz)) 0 0 (va_A (qabM a0 jaW jfP ja1 jcp jbc jbV ja3 jbH ja2 jbO jaq jac jbI jbl jbn jba jaa jbA jdD jaW jok jnj jn8 jnw jpj jnx jjE) sz) := by
  refine Met.ofW (cc := cX10_fault) (maxL := 1) (ret := (some .int)) (by decide) rfl ?_
  intro p e s m args below meth c s₁ B hml hv
  obtain ⟨rfl, hsz, hP, hK, hD0, hNw⟩ := hv
  have hx := B.exec
  have hb := B.bytes
  have hr := B.returns
  have hts := atoms_spec (ws := wsX10_fault) B.pre
  have hown : s.vm.findClass RX10 = some m.cls := findClass_of_methodNamed B.named
  have hlocks := B.notSynchronized
  subst hsz
  have hD := hD0.self (sz := s.heap.size)
  generalize hAe : va_A (qabM a0 jaW jfP ja1 jcp jbc jbV ja3 jbH ja2 jbO jaq jac jbI jbl jbn jba jaa jbA jdD jaW jok jnj jn8 jnw jpj jnx jjE) s.heap.size = A at hD ⊢
  have hA : ∀ q : Nat, s.heap.size ≤ q → A q := fun q h => by rw [← hAe]; exact Or.inr h
  have hS : va_S A s.heap s.heap [] := va_S.rf
  have hP : va_P (dC, dI) vwCl (qabM a0 jaW jfP ja1 jcp jbc jbV ja3 jbH ja2 jbO jaq jac jbI jbl jbn jba jaa jbA jdD jaW jok jnj jn8 jnw jpj jnx jjE) s.heap := hP
  have hl := lv_entry ([.ref a0]) (n := 1) (nbq rfl)
  rw [lg_entry_eq]
  generalize (lg_sl ([.ref a0]) ++ List.replicate (1 - (lg_sl ([.ref a0])).length) Slot.unset).toArray = ls at hl ⊢
  have hl : lv_has ls 1 [(0, .ref a0)] := hl
  have C0 : cfx p s m _ meth c cX10_fault (some .int) wsX10_fault RX10 1 A (dC, dI) (kT cyB cyI cyJ cyP) := ⟨hx, hb, hr, hts, hown, hlocks, hml, hA, hK, hNw⟩
  clear hAe
  obtain ⟨H, hH⟩ : ∃ H, H = s.heap := ⟨_, rfl⟩
  rw [← hH] at hP ⊢
  have hS : va_S A s.heap H [] := by rw [hH]; exact va_S.rf
  have hS := hS
  refine lv_aload_n hx hb (qaa qKH 0 rfl) rfl (lv_at hl 0 rfl) ?_
  refine va_get (D := (dC, dI)) (ci := 10) (v := .ref jaW) (C := RX10) (T := TX10) (N := 19) hx hb hts qatC hown hK hP 0 rfl rfl 0 (by decide) (hts _ qaur) (fun _ h9 => h9) rfl (qaa qKH 1 rfl) ?_
  refine va_get (D := (dC, dI)) (ci := 8) (v := .int jjE) (C := RX8) (T := TX8) (N := 7) hx hb hts qayG hown hK hP 1 rfl rfl 6 (by decide) (hts _ qaji) (fun _ h9 => h9) rfl (qaa qKH 2 rfl) ?_
  exact ((W.iret (v := jjE) hx hb hr (fun t ht hW => ⟨⟨jjE, (), rfl, hw, by rw [ht]; exact hP, va_K.moved hW.alike hK, hD⟩, hS.F ht⟩) hS.2.2 (qaa qKH 3 rfl)))
theorem qaug : ∀ w ∈ u_ws RX8 TX8 7, w ∈ wsX8_hasRoom := uiM qaog euX8 (by decide +kernel)
theorem qalf : (.fieldLink RX8 19 "MarchHares$Tape" "filled" "I" : Cond) ∈ wsX8_hasRoom := qaog 580 (by decide +kernel)
set_option maxHeartbeats 4000000 in
set_option maxRecDepth 100000 in
theorem qaO3 (l : Launch) (dC : Nat → ClassId) (dI : Nat → Nat → Nat) (cyB cyI cyJ cyP : ClassId) (a0 sz : Nat) (jn7 jjf jby jl9 jmS jkr : Value) (jnc : Int32) {Q : Int32 → Prop} (hw : qacO jnc Q) : Met l yX8_hasRoom wsX8_hasRoom ({ frames := 0, cells := 0, slots := 0, locals := 0 }) (va_Pc [.ref a0] (cPc (dC, dI) (kT cyB cyI cyJ cyP) (qaa7 a0 jn7 jjf jby jl9 jnc jmS jkr) sz)) (va_Qi (fun (r : Int32) (_ : Unit) => Q r ) (cB (dC, dI) (kT cyB cyI cyJ cyP) (va_A (qaa7 a0 jn7 jjf jby jl9 jnc jmS jkr) sz) (fun u : Unit => ((qaa7 a0 jn7 jjf jby jl9 jnc jmS jkr) : va_W))) (va_A (qaa7 a0 jn7 jjf jby jl9 jnc jmS jkr) sz)) 0 0 (va_A (qaa7 a0 jn7 jjf jby jl9 jnc jmS jkr) sz) := by
  refine Met.ofW (cc := cX8_hasRoom) (maxL := 1) (ret := (some .boolean)) (by decide) rfl ?_
  intro p e s m args below meth c s₁ B hml hv
  obtain ⟨rfl, hsz, hP, hK, hD0, hNw⟩ := hv
  have hx := B.exec
  have hb := B.bytes
  have hr := B.returns
  have hts := atoms_spec (ws := wsX8_hasRoom) B.pre
  have hown : s.vm.findClass RX8 = some m.cls := findClass_of_methodNamed B.named
  have hlocks := B.notSynchronized
  subst hsz
  have hD := hD0.self (sz := s.heap.size)
  generalize hAe : va_A (qaa7 a0 jn7 jjf jby jl9 jnc jmS jkr) s.heap.size = A at hD ⊢
  have hA : ∀ q : Nat, s.heap.size ≤ q → A q := fun q h => by rw [← hAe]; exact Or.inr h
  have hS : va_S A s.heap s.heap [] := va_S.rf
  have hP : va_P (dC, dI) vwCl (qaa7 a0 jn7 jjf jby jl9 jnc jmS jkr) s.heap := hP
  have hl := lv_entry ([.ref a0]) (n := 1) (nbq rfl)
  rw [lg_entry_eq]
  generalize (lg_sl ([.ref a0]) ++ List.replicate (1 - (lg_sl ([.ref a0])).length) Slot.unset).toArray = ls at hl ⊢
  have hl : lv_has ls 1 [(0, .ref a0)] := hl
  have C0 : cfx p s m _ meth c cX8_hasRoom (some .boolean) wsX8_hasRoom RX8 1 A (dC, dI) (kT cyB cyI cyJ cyP) := ⟨hx, hb, hr, hts, hown, hlocks, hml, hA, hK, hNw⟩
  clear hAe
  obtain ⟨H, hH⟩ : ∃ H, H = s.heap := ⟨_, rfl⟩
  rw [← hH] at hP ⊢
  have hS : va_S A s.heap H [] := by rw [hH]; exact va_S.rf
  have hS := hS
  refine lv_aload_n hx hb (qaa qo3 0 rfl) rfl (lv_at hl 0 rfl) ?_
  refine va_get (D := (dC, dI)) (ci := 8) (v := .int jnc) (C := RX8) (T := TX8) (N := 7) hx hb hts qaug hown hK hP 0 rfl rfl 4 (by decide) (hts _ qalf) (fun _ h9 => h9) rfl (qaa qo3 1 rfl) ?_
  refine lv_bipush (v := 20) hx hb (qaa qo3 2 rfl) (by decide) ?_
  refine lv_iadd hx hb (qaa qo3 3 rfl) ?_
  refine lv_sipush (v := 600) hx hb (qaa qo3 4 rfl) (by decide) ?_
  refine lv_icmp_gt (tgt := 17) hx hb (qaa qo3 5 rfl) (by decide) (fun c1 => ?_) (fun c1 => ?_)
  · have hw := hw.1 c1
    refine lv_iconst (v := 0) hx hb (qaa qo3 8 rfl) (by decide) ?_
    exact ((W.zret (v := 0) hx hb hr rfl (fun t ht hW => ⟨⟨0, (), rfl, hw, by rw [ht]; exact hP, va_K.moved hW.alike hK, hD⟩, hS.F ht⟩) hS.2.2 (qaa qo3 9 rfl)))
  · have hw := hw.2 c1
    refine lv_iconst (v := 1) hx hb (qaa qo3 6 rfl) (by decide) ?_
    refine lv_goto (tgt := 18) hx hb (qaa qo3 7 rfl) (by decide) ?_
    exact ((W.zret (v := 1) hx hb hr rfl (fun t ht hW => ⟨⟨1, (), rfl, hw, by rw [ht]; exact hP, va_K.moved hW.alike hK, hD⟩, hS.F ht⟩) hS.2.2 (qaa qo3 9 rfl)))
theorem qLP : ∀ w ∈ u_ws RX8 TX8 7, w ∈ wsX8_put := uiM qaNE euX8 (by decide +kernel)
theorem qaNn : (.fieldLink RX8 11 "MarchHares$Tape" "bytes" "[B" : Cond) ∈ wsX8_put := qaNE 142 (by decide +kernel)
theorem qNX : (.fieldLink RX8 19 "MarchHares$Tape" "filled" "I" : Cond) ∈ wsX8_put := qaNE 580 (by decide +kernel)
set_option maxHeartbeats 4000000 in
set_option maxRecDepth 100000 in
theorem qanY {p : Program} {l : Launch} {e : Env} {s : State} {m : MethodId} {args : Array Value} {below : List Frame} {meth : Method} {c : Code} {A : Nat → Prop} (dC : Nat → ClassId) (dI : Nat → Nat → Nat) (cyB cyI cyJ cyP : ClassId) (a0 jif : Nat) (jjf jby jl9 jmS jkr : Value) (Q : NI → Int32 → Prop) (K3 : NI → Int32 → Int32 → Int32 → Prop) (hK3 : ∀ (H : Heap) (locs : List Loc) (ls : Array Slot) (jjA : NI) (jnc l1 l2 : Int32), va_P (dC, dI) vwCl (qrE a0 jif jjf jby jl9 jnc jmS jkr jif cyB jjA) H → va_D A (qrE a0 jif jjf jby jl9 jnc jmS jkr jif cyB jjA) → va_S A s.heap H locs → lv_has ls 3 [(0, .ref a0), (1, .int l1), (2, .int l2)] → K3 jjA jnc l1 l2 → W p l e (headSpec wsX8_put ({ frames := 0, cells := 0, slots := 0, locals := 0 })).room s m args below meth c H locs 0 0 (MQ below (va_Qv (fun (u : NI × Int32) => Q u.1 u.2) (cB (dC, dI) (kT cyB cyI cyJ cyP) A (fun u : NI × Int32 => ((qrE a0 jif jjf jby jl9 u.2 jmS jkr jif cyB u.1) : va_W))) A) args s 0 0 A) (F0 m 3 ls [])) (C0 : cfx p s m args meth c cX8_put none wsX8_put RX8 3 A (dC, dI) (kT cyB cyI cyJ cyP)) : ∀ (H : Heap) (locs : List Loc) (ls : Array Slot) (jjA : NI) (jnc l1 l2 : Int32), va_P (dC, dI) vwCl (qrE a0 jif jjf jby jl9 jnc jmS jkr jif cyB jjA) H → va_D A (qrE a0 jif jjf jby jl9 jnc jmS jkr jif cyB jjA) → va_S A s.heap H locs → lv_has ls 3 [(0, .ref a0), (1, .int l1), (2, .int l2)] → q2I Q K3 jjA jnc l1 l2 → W p l e (headSpec wsX8_put ({ frames := 0, cells := 0, slots := 0, locals := 0 })).room s m args below meth c H locs 0 0 (MQ below (va_Qv (fun (u : NI × Int32) => Q u.1 u.2) (cB (dC, dI) (kT cyB cyI cyJ cyP) A (fun u : NI × Int32 => ((qrE a0 jif jjf jby jl9 u.2 jmS jkr jif cyB u.1) : va_W))) A) args s 0 0 A) (F0 m 40 ls []) := by
  obtain ⟨hx, hb, hr, hts, hown, hlocks, hml, hA, hK, hNw⟩ := id C0
  intro H locs ls jjA jnc l1 l2 hP hD hS hl hw
  obtain ⟨x6, ex6⟩ : ∃ y : Int32, y = l2 + (-8) := ⟨_, rfl⟩
  have hw := hw x6 ex6
  refine lv_iinc (v := x6) (lv' := [(2, .int x6), (0, .ref a0), (1, .int l1)]) hx hb (qaa qvg 7 rfl) hl (k := 2) rfl (by rw [ex6]; rfl) (by decide) rfl (fun ls hl => ?_)
  refine lv_goto (tgt := 3) hx hb (qaa qvg 8 rfl) (by decide) ?_
  exact hK3 _ _ _ jjA jnc l1 x6 hP hD hS (lv_sub hl [1, 2, 0] rfl) hw
set_option maxHeartbeats 4000000 in
set_option maxRecDepth 100000 in
theorem qaYr {p : Program} {l : Launch} {e : Env} {s : State} {m : MethodId} {args : Array Value} {below : List Frame} {meth : Method} {c : Code} {A : Nat → Prop} (dC : Nat → ClassId) (dI : Nat → Nat → Nat) (cyB cyI cyJ cyP : ClassId) (a0 jif : Nat) (jjf jby jl9 jmS jkr : Value) (Q : NI → Int32 → Prop) (C0 : cfx p s m args meth c cX8_put none wsX8_put RX8 3 A (dC, dI) (kT cyB cyI cyJ cyP)) : ∀ (n : Nat) (H : Heap) (locs : List Loc) (ls : Array Slot) (jjA : NI) (jnc l1 l2 : Int32), va_P (dC, dI) vwCl (qrE a0 jif jjf jby jl9 jnc jmS jkr jif cyB jjA) H → va_D A (qrE a0 jif jjf jby jl9 jnc jmS jkr jif cyB jjA) → va_S A s.heap H locs → lv_has ls 3 [(0, .ref a0), (1, .int l1), (2, .int l2)] → qFq Q n jjA jnc l1 l2 → W p l e (headSpec wsX8_put ({ frames := 0, cells := 0, slots := 0, locals := 0 })).room s m args below meth c H locs 0 0 (MQ below (va_Qv (fun (u : NI × Int32) => Q u.1 u.2) (cB (dC, dI) (kT cyB cyI cyJ cyP) A (fun u : NI × Int32 => ((qrE a0 jif jjf jby jl9 u.2 jmS jkr jif cyB u.1) : va_W))) A) args s 0 0 A) (F0 m 3 ls []) := by
  obtain ⟨hx, hb, hr, hts, hown, hlocks, hml, hA, hK, hNw⟩ := id C0
  intro n
  induction n with
  | zero => intro H locs ls jjA jnc l1 l2 hP hD hS hl hw; exact False.elim hw
  | succ n ih =>
    intro H locs ls jjA jnc l1 l2 hP hD hS hl hw
    refine lv_iload_n hx hb (qaa qp4 2 rfl) rfl (lv_at hl 2 rfl) ?_
    refine lv_if_lt (tgt := 46) hx hb (qaa qp4 3 rfl) (by decide) (fun c1 => ?_) (fun c1 => ?_)
    · have hw := hw.1 c1
      exact ((W.vret hx hb hr (fun t ht hW => ⟨⟨(jjA, jnc), rfl, hw, by rw [ht]; exact hP, va_K.moved hW.alike hK, hD⟩, hS.F ht⟩) hS.2.2 (qaa qvg 9 rfl)))
    · have hw := hw.2 c1
      refine lv_aload_n hx hb (qaa qp4 4 rfl) rfl (lv_at hl 0 rfl) ?_
      refine va_get (D := (dC, dI)) (ci := 8) (v := .int jnc) (C := RX8) (T := TX8) (N := 7) hx hb hts qLP hown hK hP 0 rfl rfl 4 (by decide) (hts _ qNX) (fun _ h9 => h9) rfl (qaa qp4 5 rfl) ?_
      refine lv_sipush (v := 600) hx hb (qaa qp4 6 rfl) (by decide) ?_
      refine lv_icmp_ge (tgt := 40) hx hb (qaa qp4 7 rfl) (by decide) (fun c2 => ?_) (fun c2 => ?_)
      · have hw := hw.1 c2
        exact qanY dC dI cyB cyI cyJ cyP a0 jif jjf jby jl9 jmS jkr Q (qFq Q n) ih C0 _ _ _ jjA jnc l1 l2 hP hD hS (lv_sub hl [0, 1, 2] rfl) hw
      · have hw := hw.2 c2
        refine lv_aload_n hx hb (qaa qp4 8 rfl) rfl (lv_at hl 0 rfl) ?_
        refine va_get (D := (dC, dI)) (ci := 8) (v := .ref jif) (C := RX8) (T := TX8) (N := 7) hx hb hts qLP hown hK hP 0 rfl rfl 0 (by decide) (hts _ qaNn) (fun _ h9 => h9) rfl (qaa qp4 9 rfl) ?_
        refine lv_aload_n hx hb (qaa qp4 10 rfl) rfl (lv_at hl 0 rfl) ?_
        refine va_get (D := (dC, dI)) (ci := 8) (v := .int jnc) (C := RX8) (T := TX8) (N := 7) hx hb hts qLP hown hK hP 0 rfl rfl 4 (by decide) (hts _ qNX) (fun _ h9 => h9) rfl (qaa qp4 11 rfl) ?_
        refine lv_iload_n hx hb (qaa qp4 12 rfl) rfl (lv_at hl 1 rfl) ?_
        refine lv_iload_n hx hb (qaa qp4 13 rfl) rfl (lv_at hl 2 rfl) ?_
        refine lv_ishr hx hb (qaa qp4 14 rfl) ?_
        refine lv_i2b (v := (l1 >>> (l2 &&& 31)).toInt8.toInt32) hx hb (qaa qp4 15 rfl) rfl ?_
        refine lv_topi (fun x3 ex3 => ?_)
        have hw := hw x3 ex3
        obtain ⟨hi9, hw⟩ := hw
        refine va_bast hx hb hK hP hD hS 1 0 rfl rfl hi9 (qaa qvg 0 rfl) (fun H locs hP hD hS => ?_)
        obtain ⟨f4, ef4⟩ : ∃ y : NI, y = upd jjA jnc.toNatClampNeg (vp_nar .byte x3) := ⟨_, rfl⟩
        have hw := hw f4 ef4
        have hP : va_P (dC, dI) vwCl (qrE a0 jif jjf jby jl9 jnc jmS jkr jif cyB f4) H := by rw [ef4]; exact hP
        have hD : va_D A (qrE a0 jif jjf jby jl9 jnc jmS jkr jif cyB f4) := by rw [ef4]; exact hD
        refine lv_aload_n hx hb (qaa qvg 1 rfl) rfl (lv_at hl 0 rfl) ?_
        refine lv_dup hx hb (qaa qvg 2 rfl) rfl ?_
        refine va_get (D := (dC, dI)) (ci := 8) (v := .int jnc) (C := RX8) (T := TX8) (N := 7) hx hb hts qLP hown hK hP 0 rfl rfl 4 (by decide) (hts _ qNX) (fun _ h9 => h9) rfl (qaa qvg 3 rfl) ?_
        refine lv_iconst (v := 1) hx hb (qaa qvg 4 rfl) (by decide) ?_
        refine lv_iadd hx hb (qaa qvg 5 rfl) ?_
        refine lv_topi (fun x5 ex5 => ?_)
        have hw := hw x5 ex5
        refine va_put (D := (dC, dI)) (ci := 8) (v := .int x5) (ty := .int) (C := RX8) (T := TX8) (N := 7) hx hb hts qLP tyX8 tyX8_ok nmX8 hown hK hP hD hS 0 rfl rfl 4 (by decide) (hts _ qNX) (fun _ h9 => h9) rfl (by decide +kernel) rfl rfl (nbq rfl) (qaa qvg 6 rfl) (fun H locs hP hD hS => ?_)
        have hP : va_P (dC, dI) vwCl (qrE a0 jif jjf jby jl9 x5 jmS jkr jif cyB f4) H := hP
        have hD : va_D A (qrE a0 jif jjf jby jl9 x5 jmS jkr jif cyB f4) := hD
        exact qanY dC dI cyB cyI cyJ cyP a0 jif jjf jby jl9 jmS jkr Q (qFq Q n) ih C0 _ _ _ f4 x5 l1 l2 hP hD hS (lv_sub hl [0, 1, 2] rfl) hw
set_option maxHeartbeats 4000000 in
set_option maxRecDepth 100000 in
theorem q2a (l : Launch) (dC : Nat → ClassId) (dI : Nat → Nat → Nat) (cyB cyI cyJ cyP : ClassId) (a0 jif sz : Nat) (jjf jby jl9 jmS jkr : Value) (jjA : NI) (jnc p1 : Int32) {Q : NI → Int32 → Prop} (hw : qOW jjA jnc p1 Q) : Met l yX8_put wsX8_put ({ frames := 0, cells := 0, slots := 0, locals := 0 }) (va_Pc [.ref a0, .int p1] (cPc (dC, dI) (kT cyB cyI cyJ cyP) (qrE a0 jif jjf jby jl9 jnc jmS jkr jif cyB jjA) sz)) (va_Qv (fun (u : NI × Int32) => Q u.1 u.2) (cB (dC, dI) (kT cyB cyI cyJ cyP) (va_A (qrE a0 jif jjf jby jl9 jnc jmS jkr jif cyB jjA) sz) (fun u : NI × Int32 => ((qrE a0 jif jjf jby jl9 u.2 jmS jkr jif cyB u.1) : va_W))) (va_A (qrE a0 jif jjf jby jl9 jnc jmS jkr jif cyB jjA) sz)) 0 0 (va_A (qrE a0 jif jjf jby jl9 jnc jmS jkr jif cyB jjA) sz) := by
  refine Met.ofW (cc := cX8_put) (maxL := 3) (ret := none) (by decide) rfl ?_
  intro p e s m args below meth c s₁ B hml hv
  obtain ⟨rfl, hsz, hP, hK, hD0, hNw⟩ := hv
  have hx := B.exec
  have hb := B.bytes
  have hr := B.returns
  have hts := atoms_spec (ws := wsX8_put) B.pre
  have hown : s.vm.findClass RX8 = some m.cls := findClass_of_methodNamed B.named
  have hlocks := B.notSynchronized
  subst hsz
  have hD := hD0.self (sz := s.heap.size)
  generalize hAe : va_A (qrE a0 jif jjf jby jl9 jnc jmS jkr jif cyB jjA) s.heap.size = A at hD ⊢
  have hA : ∀ q : Nat, s.heap.size ≤ q → A q := fun q h => by rw [← hAe]; exact Or.inr h
  have hS : va_S A s.heap s.heap [] := va_S.rf
  have hP : va_P (dC, dI) vwCl (qrE a0 jif jjf jby jl9 jnc jmS jkr jif cyB jjA) s.heap := hP
  have hl := lv_entry ([.ref a0, .int p1]) (n := 3) (nbq rfl)
  rw [lg_entry_eq]
  generalize (lg_sl ([.ref a0, .int p1]) ++ List.replicate (3 - (lg_sl ([.ref a0, .int p1])).length) Slot.unset).toArray = ls at hl ⊢
  have hl : lv_has ls 3 [(0, .ref a0), (1, .int p1)] := hl
  have C0 : cfx p s m _ meth c cX8_put none wsX8_put RX8 3 A (dC, dI) (kT cyB cyI cyJ cyP) := ⟨hx, hb, hr, hts, hown, hlocks, hml, hA, hK, hNw⟩
  clear hAe
  obtain ⟨H, hH⟩ : ∃ H, H = s.heap := ⟨_, rfl⟩
  rw [← hH] at hP ⊢
  have hS : va_S A s.heap H [] := by rw [hH]; exact va_S.rf
  have hS := hS
  refine lv_bipush (v := 24) hx hb (qaa qp4 0 rfl) (by decide) ?_
  refine lv_istore_n (lv' := [(2, .int 24), (0, .ref a0), (1, .int p1)]) hx hb (qaa qp4 1 rfl) rfl hl (by decide) rfl (fun ls hl => ?_)
  obtain ⟨n9, hw⟩ := hw
  exact qaYr dC dI cyB cyI cyJ cyP a0 jif jjf jby jl9 jmS jkr Q C0 n9 _ _ _ jjA jnc p1 24 hP hD hS (lv_sub hl [1, 2, 0] rfl) hw
theorem qvP : ∀ w ∈ u_ws RX10 TX10 19, w ∈ wsX10_feed := uiM qGy qyE (by decide +kernel)
theorem qaE3 : ∀ w ∈ u_ws RX8 TX8 7, w ∈ wsX10_feed := uiM qGy euX8 (by decide +kernel)
theorem qv6 : (.fieldLink RX10 10 "MarchHares" "tape" "LMarchHares$Tape;" : Cond) ∈ wsX10_feed := qGy 16 (by decide +kernel)
theorem qaso : (.fieldLink RX10 105 "MarchHares$Tape" "filled" "I" : Cond) ∈ wsX10_feed := qGy 535 (by decide +kernel)
set_option maxHeartbeats 4000000 in
set_option maxRecDepth 100000 in
theorem qaXx (l : Launch) (dC : Nat → ClassId) (dI : Nat → Nat → Nat) (cyB cyI cyJ cyP : ClassId) (a0 jaW jfZ sz : Nat) (jfP ja1 jcp jbc jbV ja3 jbH ja2 jbO jaq jac jbI jbl jbn jba jaa jbA jdD jnj jn8 jnw jnx jm1 : Value) (ji4 : NI) (jj0 p1 p2 p3 p4 p5 : Int32) {Q : Int32 → NI → Int32 → Prop} (hw : qabI ji4 jj0 p1 p2 p3 p4 p5 Q) : Met l yX10_feed wsX10_feed ({ frames := 1, cells := 0, slots := 0, locals := 22 }) (va_Pc [.ref a0, .int p1, .int p2, .int p3, .int p4, .int p5] (cPc (dC, dI) (kT cyB cyI cyJ cyP) (qJU a0 jaW jfP ja1 jcp jbc jbV ja3 jbH ja2 jbO jaq jac jbI jbl jbn jba jaa jbA jdD jaW jfZ jnj jn8 jnw jj0 jnx jm1 jfZ cyB ji4) sz)) (va_Qi (fun (r : Int32) (u : NI × Int32) => Q r u.1 u.2) (cB (dC, dI) (kT cyB cyI cyJ cyP) (va_A (qJU a0 jaW jfP ja1 jcp jbc jbV ja3 jbH ja2 jbO jaq jac jbI jbl jbn jba jaa jbA jdD jaW jfZ jnj jn8 jnw jj0 jnx jm1 jfZ cyB ji4) sz) (fun u : NI × Int32 => ((qJU a0 jaW jfP ja1 jcp jbc jbV ja3 jbH ja2 jbO jaq jac jbI jbl jbn jba jaa jbA jdD jaW jfZ jnj jn8 jnw u.2 jnx jm1 jfZ cyB u.1) : va_W))) (va_A (qJU a0 jaW jfP ja1 jcp jbc jbV ja3 jbH ja2 jbO jaq jac jbI jbl jbn jba jaa jbA jdD jaW jfZ jnj jn8 jnw jj0 jnx jm1 jfZ cyB ji4) sz)) 0 0 (va_A (qJU a0 jaW jfP ja1 jcp jbc jbV ja3 jbH ja2 jbO jaq jac jbI jbl jbn jba jaa jbA jdD jaW jfZ jnj jn8 jnw jj0 jnx jm1 jfZ cyB ji4) sz) := by
  refine Met.ofW (cc := cX10_feed) (maxL := 6) (ret := (some .int)) (by decide) rfl ?_
  intro p e s m args below meth c s₁ B hml hv
  obtain ⟨rfl, hsz, hP, hK, hD0, hNw⟩ := hv
  have hx := B.exec
  have hb := B.bytes
  have hr := B.returns
  have hts := atoms_spec (ws := wsX10_feed) B.pre
  have hown : s.vm.findClass RX10 = some m.cls := findClass_of_methodNamed B.named
  have hlocks := B.notSynchronized
  subst hsz
  have hD := hD0.self (sz := s.heap.size)
  generalize hAe : va_A (qJU a0 jaW jfP ja1 jcp jbc jbV ja3 jbH ja2 jbO jaq jac jbI jbl jbn jba jaa jbA jdD jaW jfZ jnj jn8 jnw jj0 jnx jm1 jfZ cyB ji4) s.heap.size = A at hD ⊢
  have hA : ∀ q : Nat, s.heap.size ≤ q → A q := fun q h => by rw [← hAe]; exact Or.inr h
  have hS : va_S A s.heap s.heap [] := va_S.rf
  have hP : va_P (dC, dI) vwCl (qJU a0 jaW jfP ja1 jcp jbc jbV ja3 jbH ja2 jbO jaq jac jbI jbl jbn jba jaa jbA jdD jaW jfZ jnj jn8 jnw jj0 jnx jm1 jfZ cyB ji4) s.heap := hP
  have hl := lv_entry ([.ref a0, .int p1, .int p2, .int p3, .int p4, .int p5]) (n := 6) (nbq rfl)
  rw [lg_entry_eq]
  generalize (lg_sl ([.ref a0, .int p1, .int p2, .int p3, .int p4, .int p5]) ++ List.replicate (6 - (lg_sl ([.ref a0, .int p1, .int p2, .int p3, .int p4, .int p5])).length) Slot.unset).toArray = ls at hl ⊢
  have hl : lv_has ls 6 [(0, .ref a0), (1, .int p1), (2, .int p2), (3, .int p3), (4, .int p4), (5, .int p5)] := hl
  have C0 : cfx p s m _ meth c cX10_feed (some .int) wsX10_feed RX10 6 A (dC, dI) (kT cyB cyI cyJ cyP) := ⟨hx, hb, hr, hts, hown, hlocks, hml, hA, hK, hNw⟩
  clear hAe
  obtain ⟨H, hH⟩ : ∃ H, H = s.heap := ⟨_, rfl⟩
  rw [← hH] at hP ⊢
  have hS : va_S A s.heap H [] := by rw [hH]; exact va_S.rf
  have hS := hS
  refine lv_aload_n hx hb (qaa qmp 0 rfl) rfl (lv_at hl 0 rfl) ?_
  refine va_get (D := (dC, dI)) (ci := 10) (v := .ref jaW) (C := RX10) (T := TX10) (N := 19) hx hb hts qvP hown hK hP 0 rfl rfl 0 (by decide) (hts _ qv6) (fun _ h9 => h9) rfl (qaa qmp 1 rfl) ?_
  obtain ⟨hCc, hPc, hDc, hFc⟩ := qac (ws' := (qbas jaW jfZ jnj jn8 jnw jj0 jnx jm1)) hP hD hS hA [1] (by decide +kernel) rfl
  refine va_calli (va_runV (As := []) (rest := []) ⟨hx, hb, hml, hown, hts⟩ (qaO3 l dC dI cyB cyI cyJ cyP jaW H.size (.ref jfZ) (jnj) (jn8) (jnw) (jnx) (jm1) jj0 hw) (cwV 0 hts gX10_feed_X8_hasRoom rfl rfl rfl (by decide +kernel) ⟨nbq rfl, nbq rfl⟩) ⟨qab, va_recv (q := (RX8, TX8, 7)) hK hPc (ci := 8) (q0 := 0) rfl rfl, qae hPc hK hDc hNw⟩ rfl rfl hl.1 rfl (lv_room (nbq rfl)) (qaa qmp 2 rfl) ⟨nbq rfl, nbq rfl⟩) hS (fun q _ h => hFc q h) hFc (fun r1 u t H1 locs ht hvm hw hB hz1 hk1 hS => ?_)
  obtain ⟨hP1, hK1, hD1⟩ := hB
  rw [ht] at hP1
  obtain ⟨hP, hD⟩ := qad (wr := [(a0, .inr (10, [.ref jaW, jfP, ja1, jcp, jbc, jbV, ja3, jbH, ja2, jbO, jaq, jac, jbI, jbl, jbn, jba, jaa, jbA, jdD])), (jfZ, .inl (cyB, 600, .inl ji4))]) (w1 := (qbas jaW jfZ jnj jn8 jnw jj0 jnx jm1)) (wn := (qJU a0 jaW jfP ja1 jcp jbc jbV ja3 jbH ja2 jbO jaq jac jbI jbl jbn jba jaa jbA jdD jaW jfZ jnj jn8 jnw jj0 jnx jm1 jfZ cyB ji4)) hP hD [1] [0, 2] [0, 2, 1] hCc rfl (by decide +kernel) (by decide +kernel) (by decide +kernel) rfl hk1 hFc hP1 hD1
  generalize H1 = H at hP hS ⊢
  refine lv_if_ne (tgt := 12) hx hb (qaa qmp 3 rfl) (by decide) (fun c2 => ?_) (fun c2 => ?_)
  · have hw := hw.1 c2
    refine lv_aload_n hx hb (qaa qmp 6 rfl) rfl (lv_at hl 0 rfl) ?_
    refine va_get (D := (dC, dI)) (ci := 10) (v := .ref jaW) (C := RX10) (T := TX10) (N := 19) hx hb hts qvP hown hK hP 0 rfl rfl 0 (by decide) (hts _ qv6) (fun _ h9 => h9) rfl (qaa qmp 7 rfl) ?_
    refine lv_iload_n hx hb (qaa qmp 8 rfl) rfl (lv_at hl 1 rfl) ?_
    obtain ⟨hCc, hPc, hDc, hFc⟩ := qac (ws' := (qrE jaW jfZ jnj jn8 jnw jj0 jnx jm1 jfZ cyB ji4)) hP hD hS hA [1, 2] (by decide +kernel) rfl
    refine va_callv (va_runV (As := [.int p1]) (rest := []) ⟨hx, hb, hml, hown, hts⟩ (q2a l dC dI cyB cyI cyJ cyP jaW jfZ H.size (jnj) (jn8) (jnw) (jnx) (jm1) ji4 jj0 p1 hw) (cwV 1 hts gX10_feed_X8_put rfl rfl rfl (by decide +kernel) ⟨nbq rfl, nbq rfl⟩) ⟨qab, va_recv (q := (RX8, TX8, 7)) hK hPc (ci := 8) (q0 := 0) rfl rfl, qae hPc hK hDc hNw⟩ rfl rfl hl.1 rfl (lv_room (nbq rfl)) (qaa qmp 9 rfl) ⟨nbq rfl, nbq rfl⟩) hS (fun q _ h => hFc q h) hFc (fun u t H1 locs ht hvm hw hB hz1 hk1 hS => ?_)
    obtain ⟨f3, x4⟩ := u
    obtain ⟨hP1, hK1, hD1⟩ := hB
    rw [ht] at hP1
    obtain ⟨hP, hD⟩ := qah (wr := (qay1 a0 jaW jfP ja1 jcp jbc jbV ja3 jbH ja2 jbO jaq jac jbI jbl jbn jba jaa jbA jdD)) (w1 := (qrE jaW jfZ jnj jn8 jnw x4 jnx jm1 jfZ cyB f3)) (wn := (qJU a0 jaW jfP ja1 jcp jbc jbV ja3 jbH ja2 jbO jaq jac jbI jbl jbn jba jaa jbA jdD jaW jfZ jnj jn8 jnw x4 jnx jm1 jfZ cyB f3)) hP hD [1, 2] [0] hCc rfl (by decide +kernel) (by decide +kernel) rfl hk1 hFc hP1 hD1
    generalize H1 = H at hP hS ⊢
    refine lv_aload_n hx hb (qaa qmp 10 rfl) rfl (lv_at hl 0 rfl) ?_
    refine va_get (D := (dC, dI)) (ci := 10) (v := .ref jaW) (C := RX10) (T := TX10) (N := 19) hx hb hts qvP hown hK hP 0 rfl rfl 0 (by decide) (hts _ qv6) (fun _ h9 => h9) rfl (qaa qmp 11 rfl) ?_
    refine lv_iload_n hx hb (qaa qmp 12 rfl) rfl (lv_at hl 2 rfl) ?_
    obtain ⟨hCc, hPc, hDc, hFc⟩ := qac (ws' := (qrE jaW jfZ jnj jn8 jnw x4 jnx jm1 jfZ cyB f3)) hP hD hS hA [1, 2] (by decide +kernel) rfl
    refine va_callv (va_runV (As := [.int p2]) (rest := []) ⟨hx, hb, hml, hown, hts⟩ (q2a l dC dI cyB cyI cyJ cyP jaW jfZ H.size (jnj) (jn8) (jnw) (jnx) (jm1) f3 x4 p2 hw) (cwV 1 hts gX10_feed_X8_put rfl rfl rfl (by decide +kernel) ⟨nbq rfl, nbq rfl⟩) ⟨qab, va_recv (q := (RX8, TX8, 7)) hK hPc (ci := 8) (q0 := 0) rfl rfl, qae hPc hK hDc hNw⟩ rfl rfl hl.1 rfl (lv_room (nbq rfl)) (qaa qmp 13 rfl) ⟨nbq rfl, nbq rfl⟩) hS (fun q _ h => hFc q h) hFc (fun u t H1 locs ht hvm hw hB hz1 hk1 hS => ?_)
    obtain ⟨f5, x6⟩ := u
    obtain ⟨hP1, hK1, hD1⟩ := hB
    rw [ht] at hP1
    obtain ⟨hP, hD⟩ := qah (wr := (qay1 a0 jaW jfP ja1 jcp jbc jbV ja3 jbH ja2 jbO jaq jac jbI jbl jbn jba jaa jbA jdD)) (w1 := (qrE jaW jfZ jnj jn8 jnw x6 jnx jm1 jfZ cyB f5)) (wn := (qJU a0 jaW jfP ja1 jcp jbc jbV ja3 jbH ja2 jbO jaq jac jbI jbl jbn jba jaa jbA jdD jaW jfZ jnj jn8 jnw x6 jnx jm1 jfZ cyB f5)) hP hD [1, 2] [0] hCc rfl (by decide +kernel) (by decide +kernel) rfl hk1 hFc hP1 hD1
    generalize H1 = H at hP hS ⊢
    refine lv_aload_n hx hb (qaa qmp 14 rfl) rfl (lv_at hl 0 rfl) ?_
    refine va_get (D := (dC, dI)) (ci := 10) (v := .ref jaW) (C := RX10) (T := TX10) (N := 19) hx hb hts qvP hown hK hP 0 rfl rfl 0 (by decide) (hts _ qv6) (fun _ h9 => h9) rfl (qaa qmp 15 rfl) ?_
    refine lv_iload_n hx hb (qaa qnm 0 rfl) rfl (lv_at hl 3 rfl) ?_
    obtain ⟨hCc, hPc, hDc, hFc⟩ := qac (ws' := (qrE jaW jfZ jnj jn8 jnw x6 jnx jm1 jfZ cyB f5)) hP hD hS hA [1, 2] (by decide +kernel) rfl
    refine va_callv (va_runV (As := [.int p3]) (rest := []) ⟨hx, hb, hml, hown, hts⟩ (q2a l dC dI cyB cyI cyJ cyP jaW jfZ H.size (jnj) (jn8) (jnw) (jnx) (jm1) f5 x6 p3 hw) (cwV 1 hts gX10_feed_X8_put rfl rfl rfl (by decide +kernel) ⟨nbq rfl, nbq rfl⟩) ⟨qab, va_recv (q := (RX8, TX8, 7)) hK hPc (ci := 8) (q0 := 0) rfl rfl, qae hPc hK hDc hNw⟩ rfl rfl hl.1 rfl (lv_room (nbq rfl)) (qaa qnm 1 rfl) ⟨nbq rfl, nbq rfl⟩) hS (fun q _ h => hFc q h) hFc (fun u t H1 locs ht hvm hw hB hz1 hk1 hS => ?_)
    obtain ⟨f7, x8⟩ := u
    obtain ⟨hP1, hK1, hD1⟩ := hB
    rw [ht] at hP1
    obtain ⟨hP, hD⟩ := qah (wr := (qay1 a0 jaW jfP ja1 jcp jbc jbV ja3 jbH ja2 jbO jaq jac jbI jbl jbn jba jaa jbA jdD)) (w1 := (qrE jaW jfZ jnj jn8 jnw x8 jnx jm1 jfZ cyB f7)) (wn := (qJU a0 jaW jfP ja1 jcp jbc jbV ja3 jbH ja2 jbO jaq jac jbI jbl jbn jba jaa jbA jdD jaW jfZ jnj jn8 jnw x8 jnx jm1 jfZ cyB f7)) hP hD [1, 2] [0] hCc rfl (by decide +kernel) (by decide +kernel) rfl hk1 hFc hP1 hD1
    generalize H1 = H at hP hS ⊢
    refine lv_aload_n hx hb (qaa qnm 2 rfl) rfl (lv_at hl 0 rfl) ?_
    refine va_get (D := (dC, dI)) (ci := 10) (v := .ref jaW) (C := RX10) (T := TX10) (N := 19) hx hb hts qvP hown hK hP 0 rfl rfl 0 (by decide) (hts _ qv6) (fun _ h9 => h9) rfl (qaa qnm 3 rfl) ?_
    refine lv_iload hx hb (qaa qnm 4 rfl) (lv_at hl 4 rfl) ?_
    obtain ⟨hCc, hPc, hDc, hFc⟩ := qac (ws' := (qrE jaW jfZ jnj jn8 jnw x8 jnx jm1 jfZ cyB f7)) hP hD hS hA [1, 2] (by decide +kernel) rfl
    refine va_callv (va_runV (As := [.int p4]) (rest := []) ⟨hx, hb, hml, hown, hts⟩ (q2a l dC dI cyB cyI cyJ cyP jaW jfZ H.size (jnj) (jn8) (jnw) (jnx) (jm1) f7 x8 p4 hw) (cwV 1 hts gX10_feed_X8_put rfl rfl rfl (by decide +kernel) ⟨nbq rfl, nbq rfl⟩) ⟨qab, va_recv (q := (RX8, TX8, 7)) hK hPc (ci := 8) (q0 := 0) rfl rfl, qae hPc hK hDc hNw⟩ rfl rfl hl.1 rfl (lv_room (nbq rfl)) (qaa qnm 5 rfl) ⟨nbq rfl, nbq rfl⟩) hS (fun q _ h => hFc q h) hFc (fun u t H1 locs ht hvm hw hB hz1 hk1 hS => ?_)
    obtain ⟨f9, x10⟩ := u
    obtain ⟨hP1, hK1, hD1⟩ := hB
    rw [ht] at hP1
    obtain ⟨hP, hD⟩ := qah (wr := (qay1 a0 jaW jfP ja1 jcp jbc jbV ja3 jbH ja2 jbO jaq jac jbI jbl jbn jba jaa jbA jdD)) (w1 := (qrE jaW jfZ jnj jn8 jnw x10 jnx jm1 jfZ cyB f9)) (wn := (qJU a0 jaW jfP ja1 jcp jbc jbV ja3 jbH ja2 jbO jaq jac jbI jbl jbn jba jaa jbA jdD jaW jfZ jnj jn8 jnw x10 jnx jm1 jfZ cyB f9)) hP hD [1, 2] [0] hCc rfl (by decide +kernel) (by decide +kernel) rfl hk1 hFc hP1 hD1
    generalize H1 = H at hP hS ⊢
    refine lv_aload_n hx hb (qaa qnm 6 rfl) rfl (lv_at hl 0 rfl) ?_
    refine va_get (D := (dC, dI)) (ci := 10) (v := .ref jaW) (C := RX10) (T := TX10) (N := 19) hx hb hts qvP hown hK hP 0 rfl rfl 0 (by decide) (hts _ qv6) (fun _ h9 => h9) rfl (qaa qnm 7 rfl) ?_
    refine lv_iload hx hb (qaa qnm 8 rfl) (lv_at hl 5 rfl) ?_
    obtain ⟨hCc, hPc, hDc, hFc⟩ := qac (ws' := (qrE jaW jfZ jnj jn8 jnw x10 jnx jm1 jfZ cyB f9)) hP hD hS hA [1, 2] (by decide +kernel) rfl
    refine va_callv (va_runV (As := [.int p5]) (rest := []) ⟨hx, hb, hml, hown, hts⟩ (q2a l dC dI cyB cyI cyJ cyP jaW jfZ H.size (jnj) (jn8) (jnw) (jnx) (jm1) f9 x10 p5 hw) (cwV 1 hts gX10_feed_X8_put rfl rfl rfl (by decide +kernel) ⟨nbq rfl, nbq rfl⟩) ⟨qab, va_recv (q := (RX8, TX8, 7)) hK hPc (ci := 8) (q0 := 0) rfl rfl, qae hPc hK hDc hNw⟩ rfl rfl hl.1 rfl (lv_room (nbq rfl)) (qaa qnm 9 rfl) ⟨nbq rfl, nbq rfl⟩) hS (fun q _ h => hFc q h) hFc (fun u t H1 locs ht hvm hw hB hz1 hk1 hS => ?_)
    obtain ⟨f11, x12⟩ := u
    obtain ⟨hP1, hK1, hD1⟩ := hB
    rw [ht] at hP1
    obtain ⟨hP, hD⟩ := qah (wr := (qay1 a0 jaW jfP ja1 jcp jbc jbV ja3 jbH ja2 jbO jaq jac jbI jbl jbn jba jaa jbA jdD)) (w1 := (qrE jaW jfZ jnj jn8 jnw x12 jnx jm1 jfZ cyB f11)) (wn := (qJU a0 jaW jfP ja1 jcp jbc jbV ja3 jbH ja2 jbO jaq jac jbI jbl jbn jba jaa jbA jdD jaW jfZ jnj jn8 jnw x12 jnx jm1 jfZ cyB f11)) hP hD [1, 2] [0] hCc rfl (by decide +kernel) (by decide +kernel) rfl hk1 hFc hP1 hD1
    generalize H1 = H at hP hS ⊢
    refine lv_aload_n hx hb (qaa qnm 10 rfl) rfl (lv_at hl 0 rfl) ?_
    refine va_get (D := (dC, dI)) (ci := 10) (v := .ref jaW) (C := RX10) (T := TX10) (N := 19) hx hb hts qvP hown hK hP 0 rfl rfl 0 (by decide) (hts _ qv6) (fun _ h9 => h9) rfl (qaa qnm 11 rfl) ?_
    refine va_get (D := (dC, dI)) (ci := 8) (v := .int x12) (C := RX8) (T := TX8) (N := 7) hx hb hts qaE3 hown hK hP 1 rfl rfl 4 (by decide) (hts _ qaso) (fun _ h9 => h9) rfl (qaa qnm 12 rfl) ?_
    exact ((W.iret (v := x12) hx hb hr (fun t ht hW => ⟨⟨x12, (f11, x12), rfl, hw, by rw [ht]; exact hP, va_K.moved hW.alike hK, hD⟩, hS.F ht⟩) hS.2.2 (qaa qnm 13 rfl)))
  · have hw := hw.2 c2
    refine lv_iconst (v := (-1)) hx hb (qaa qmp 4 rfl) (by decide) ?_
    exact ((W.iret (v := (-1)) hx hb hr (fun t ht hW => ⟨⟨(-1), (ji4, jj0), rfl, hw, by rw [ht]; exact hP, va_K.moved hW.alike hK, hD⟩, hS.F ht⟩) hS.2.2 (qaa qmp 5 rfl)))
theorem qyh : ∀ w ∈ u_ws RX5 TX5 2, w ∈ wsX5_copyFrom := uiM qzF euX5 (by decide +kernel)
theorem qag6 : (.initialized "java/lang/System" : Cond) ∈ wsX5_copyFrom := qzF 331 (by decide +kernel)
theorem qagp : (.native arraycopyName : Cond) ∈ wsX5_copyFrom := qzF 329 (by decide +kernel)
theorem qagn : (.static arraycopyName : Cond) ∈ wsX5_copyFrom := qzF 330 (by decide +kernel)
theorem qSJ : (.fieldLink RX5 11 "MarchHares$Past" "rows" "[I" : Cond) ∈ wsX5_copyFrom := qzF 335 (by decide +kernel)
theorem qHU : (.fieldLink RX5 17 "MarchHares$Past" "kept" "I" : Cond) ∈ wsX5_copyFrom := qzF 1676 (by decide +kernel)
theorem qacS : (.methodLink RX5 24 arraycopyName : Cond) ∈ wsX5_copyFrom := qzF 1678 (by decide +kernel)
set_option maxHeartbeats 4000000 in
set_option maxRecDepth 100000 in
theorem qpr (l : Launch) (dC : Nat → ClassId) (dI : Nat → Nat → Nat) (cyB cyI cyJ cyP : ClassId) (a0 a1 jpc jnO sz : Nat) (jo7 : Int32) (jpi joO : NI) (joH : Int32) {Q : NI → Int32 → Prop} (hw : qnk jo7 jpi joO joH Q) : Met l yX5_copyFrom wsX5_copyFrom ({ frames := 1, cells := 0, slots := 0, locals := 40 }) (va_Pc [.ref a0, .ref a1] (cPc (dC, dI) (kT cyB cyI cyJ cyP) (qB6 a0 jnO joH a1 jpc jo7 jpc cyI jpi jnO cyI joO) sz)) (va_Qv (fun (u : NI × Int32) => Q u.1 u.2) (cB (dC, dI) (kT cyB cyI cyJ cyP) (va_A (qB6 a0 jnO joH a1 jpc jo7 jpc cyI jpi jnO cyI joO) sz) (fun u : NI × Int32 => ((qB6 a0 jnO u.2 a1 jpc jo7 jpc cyI jpi jnO cyI u.1) : va_W))) (va_A (qB6 a0 jnO joH a1 jpc jo7 jpc cyI jpi jnO cyI joO) sz)) 0 0 (va_A (qB6 a0 jnO joH a1 jpc jo7 jpc cyI jpi jnO cyI joO) sz) := by
  refine Met.ofW (cc := cX5_copyFrom) (maxL := 2) (ret := none) (by decide) rfl ?_
  intro p e s m args below meth c s₁ B hml hv
  obtain ⟨rfl, hsz, hP, hK, hD0, hNw⟩ := hv
  have hx := B.exec
  have hb := B.bytes
  have hr := B.returns
  have hts := atoms_spec (ws := wsX5_copyFrom) B.pre
  have hown : s.vm.findClass RX5 = some m.cls := findClass_of_methodNamed B.named
  have hlocks := B.notSynchronized
  subst hsz
  have hD := hD0.self (sz := s.heap.size)
  generalize hAe : va_A (qB6 a0 jnO joH a1 jpc jo7 jpc cyI jpi jnO cyI joO) s.heap.size = A at hD ⊢
  have hA : ∀ q : Nat, s.heap.size ≤ q → A q := fun q h => by rw [← hAe]; exact Or.inr h
  have hS : va_S A s.heap s.heap [] := va_S.rf
  have hP : va_P (dC, dI) vwCl (qB6 a0 jnO joH a1 jpc jo7 jpc cyI jpi jnO cyI joO) s.heap := hP
  have hl := lv_entry ([.ref a0, .ref a1]) (n := 2) (nbq rfl)
  rw [lg_entry_eq]
  generalize (lg_sl ([.ref a0, .ref a1]) ++ List.replicate (2 - (lg_sl ([.ref a0, .ref a1])).length) Slot.unset).toArray = ls at hl ⊢
  have hl : lv_has ls 2 [(0, .ref a0), (1, .ref a1)] := hl
  have C0 : cfx p s m _ meth c cX5_copyFrom none wsX5_copyFrom RX5 2 A (dC, dI) (kT cyB cyI cyJ cyP) := ⟨hx, hb, hr, hts, hown, hlocks, hml, hA, hK, hNw⟩
  clear hAe
  obtain ⟨H, hH⟩ : ∃ H, H = s.heap := ⟨_, rfl⟩
  rw [← hH] at hP ⊢
  have hS : va_S A s.heap H [] := by rw [hH]; exact va_S.rf
  have hS := hS
  refine lv_aload_n hx hb (qaa qf8 0 rfl) rfl (lv_at hl 1 rfl) ?_
  refine va_get (D := (dC, dI)) (ci := 5) (v := .ref jpc) (C := RX5) (T := TX5) (N := 2) hx hb hts qyh hown hK hP 1 rfl rfl 0 (by decide) (hts _ qSJ) (fun _ h9 => h9) rfl (qaa qf8 1 rfl) ?_
  refine lv_iconst (v := 0) hx hb (qaa qf8 2 rfl) (by decide) ?_
  refine lv_aload_n hx hb (qaa qf8 3 rfl) rfl (lv_at hl 0 rfl) ?_
  refine va_get (D := (dC, dI)) (ci := 5) (v := .ref jnO) (C := RX5) (T := TX5) (N := 2) hx hb hts qyh hown hK hP 0 rfl rfl 0 (by decide) (hts _ qSJ) (fun _ h9 => h9) rfl (qaa qf8 4 rfl) ?_
  refine lv_iconst (v := 0) hx hb (qaa qf8 5 rfl) (by decide) ?_
  refine lv_aload_n hx hb (qaa qf8 6 rfl) rfl (lv_at hl 1 rfl) ?_
  refine va_get (D := (dC, dI)) (ci := 5) (v := .int jo7) (C := RX5) (T := TX5) (N := 2) hx hb hts qyh hown hK hP 1 rfl rfl 1 (by decide) (hts _ qHU) (fun _ h9 => h9) rfl (qaa qf8 7 rfl) ?_
  refine lv_bipush (v := 64) hx hb (qaa qf8 8 rfl) (by decide) ?_
  refine lv_imul hx hb (qaa qf8 9 rfl) ?_
  obtain ⟨hc29, hw⟩ := hw
  obtain ⟨hc39, hw⟩ := hw
  obtain ⟨hc49, hw⟩ := hw
  refine va_copyi hx hb (by rw [hml]; exact hl.1.symm) hown (hts _ qacS) (hts _ qagp) (hts _ qagn) (hts _ qag6) hK hP hD hS 2 3 1 1 rfl rfl rfl rfl rfl (by decide) (by decide) hc29 hc39 hc49 (fun _ _ => rfl) (nbq rfl) (nbq rfl) (qaa qf8 10 rfl) (fun H locs hP hD hS => ?_)
  obtain ⟨f1, ef1⟩ : ∃ y : NI, y = va_cpy jpi joO (0 : Int32).toNatClampNeg (0 : Int32).toNatClampNeg (jo7 * 64).toNatClampNeg := ⟨_, rfl⟩
  have hw := hw f1 ef1
  have hP : va_P (dC, dI) vwCl (qB6 a0 jnO joH a1 jpc jo7 jpc cyI jpi jnO cyI f1) H := by rw [ef1]; exact hP
  have hD : va_D A (qB6 a0 jnO joH a1 jpc jo7 jpc cyI jpi jnO cyI f1) := by rw [ef1]; exact hD
  refine lv_aload_n hx hb (qaa qf8 11 rfl) rfl (lv_at hl 0 rfl) ?_
  refine lv_aload_n hx hb (qaa qf8 12 rfl) rfl (lv_at hl 1 rfl) ?_
  refine va_get (D := (dC, dI)) (ci := 5) (v := .int jo7) (C := RX5) (T := TX5) (N := 2) hx hb hts qyh hown hK hP 1 rfl rfl 1 (by decide) (hts _ qHU) (fun _ h9 => h9) rfl (qaa qf8 13 rfl) ?_
  refine va_put (D := (dC, dI)) (ci := 5) (v := .int jo7) (ty := .int) (C := RX5) (T := TX5) (N := 2) hx hb hts qyh tyX5 tyX5_ok nmX5 hown hK hP hD hS 0 rfl rfl 1 (by decide) (hts _ qHU) (fun _ h9 => h9) rfl (by decide +kernel) rfl rfl (nbq rfl) (qaa qf8 14 rfl) (fun H locs hP hD hS => ?_)
  have hP : va_P (dC, dI) vwCl (qB6 a0 jnO jo7 a1 jpc jo7 jpc cyI jpi jnO cyI f1) H := hP
  have hD : va_D A (qB6 a0 jnO jo7 a1 jpc jo7 jpc cyI jpi jnO cyI f1) := hD
  exact ((W.vret hx hb hr (fun t ht hW => ⟨⟨(f1, jo7), rfl, hw, by rw [ht]; exact hP, va_K.moved hW.alike hK, hD⟩, hS.F ht⟩) hS.2.2 (qaa qf8 15 rfl)))
theorem qaw : ∀ w ∈ u_ws RX10 TX10 19, w ∈ wsX10_image := uiM qzX qyE (by decide +kernel)
theorem qa8 : (.fieldLink RX10 135 "MarchHares" "imagesKept" "I" : Cond) ∈ wsX10_image := qzX 642 (by decide +kernel)
theorem qqV : (.fieldLink RX10 58 "MarchHares" "now" "LMarchHares$Days;" : Cond) ∈ wsX10_image := qzX 79 (by decide +kernel)
theorem qL5 : (.fieldLink RX10 68 "MarchHares" "past" "LMarchHares$Past;" : Cond) ∈ wsX10_image := qzX 84 (by decide +kernel)
theorem qEI : (.fieldLink RX10 72 "MarchHares" "images" "[LMarchHares$Past;" : Cond) ∈ wsX10_image := qzX 85 (by decide +kernel)
set_option maxHeartbeats 4000000 in
set_option maxRecDepth 100000 in
theorem qaSO (l : Launch) (dC : Nat → ClassId) (dI : Nat → Nat → Nat) (cyB cyI cyJ cyP : ClassId) (a0 jjk jik jeG jhF jig jiq jiD jaT jbb jih jii sz : Nat) (jaK jfP ja1 jcp jbc jbV ja3 jbH jbO jbI jbl jbn jaa jbA jdD jbr jhD jfc : Value) (jje : Int32) (jkH jbQ jkU : NI) (jk0 jkc : Int32) (jkV : NI) (jk1 : Int32) (jkW : NI) (jk2 : Int32) {Q : Int32 → NI → Int32 → Int32 → NI → Int32 → NI → Int32 → Prop} (hw : q3c jje jkH jbQ jkU jk0 jkc jkV jk1 jkW jk2 Q) : Met l yX10_image wsX10_image ({ frames := 2, cells := 0, slots := 0, locals := 61 }) (va_Pc [.ref a0] (cPc (dC, dI) (kT cyB cyI cyJ cyP) (qoI a0 jaK jfP ja1 jcp jbc jbV ja3 jbH jaT jbO jeG jjk jbI jbl jbn jkc jaa jbA jdD jjk cyP (qgi jik jiq jiD) jik jig jk0 jeG jhF jje jhF cyI jkH jig cyI jkU jaT jbb jbr jhD jfc jbb cyI jbQ jiq jih jk1 jih cyI jkV jiD jii jk2 jii cyI jkW) sz)) (va_Qi (fun (r : Int32) (u : NI × Int32 × Int32 × NI × Int32 × NI × Int32) => Q r u.1 u.2.1 u.2.2.1 u.2.2.2.1 u.2.2.2.2.1 u.2.2.2.2.2.1 u.2.2.2.2.2.2) (cB (dC, dI) (kT cyB cyI cyJ cyP) (va_A (qoI a0 jaK jfP ja1 jcp jbc jbV ja3 jbH jaT jbO jeG jjk jbI jbl jbn jkc jaa jbA jdD jjk cyP (qgi jik jiq jiD) jik jig jk0 jeG jhF jje jhF cyI jkH jig cyI jkU jaT jbb jbr jhD jfc jbb cyI jbQ jiq jih jk1 jih cyI jkV jiD jii jk2 jii cyI jkW) sz) (fun u : NI × Int32 × Int32 × NI × Int32 × NI × Int32 => ((qoI a0 jaK jfP ja1 jcp jbc jbV ja3 jbH jaT jbO jeG jjk jbI jbl jbn u.2.2.1 jaa jbA jdD jjk cyP (qgi jik jiq jiD) jik jig u.2.1 jeG jhF jje jhF cyI jkH jig cyI u.1 jaT jbb jbr jhD jfc jbb cyI jbQ jiq jih u.2.2.2.2.1 jih cyI u.2.2.2.1 jiD jii u.2.2.2.2.2.2 jii cyI u.2.2.2.2.2.1) : va_W))) (va_A (qoI a0 jaK jfP ja1 jcp jbc jbV ja3 jbH jaT jbO jeG jjk jbI jbl jbn jkc jaa jbA jdD jjk cyP (qgi jik jiq jiD) jik jig jk0 jeG jhF jje jhF cyI jkH jig cyI jkU jaT jbb jbr jhD jfc jbb cyI jbQ jiq jih jk1 jih cyI jkV jiD jii jk2 jii cyI jkW) sz)) 0 0 (va_A (qoI a0 jaK jfP ja1 jcp jbc jbV ja3 jbH jaT jbO jeG jjk jbI jbl jbn jkc jaa jbA jdD jjk cyP (qgi jik jiq jiD) jik jig jk0 jeG jhF jje jhF cyI jkH jig cyI jkU jaT jbb jbr jhD jfc jbb cyI jbQ jiq jih jk1 jih cyI jkV jiD jii jk2 jii cyI jkW) sz) := by
  refine Met.ofW (cc := cX10_image) (maxL := 1) (ret := (some .int)) (by decide) rfl ?_
  intro p e s m args below meth c s₁ B hml hv
  obtain ⟨rfl, hsz, hP, hK, hD0, hNw⟩ := hv
  have hx := B.exec
  have hb := B.bytes
  have hr := B.returns
  have hts := atoms_spec (ws := wsX10_image) B.pre
  have hown : s.vm.findClass RX10 = some m.cls := findClass_of_methodNamed B.named
  have hlocks := B.notSynchronized
  subst hsz
  have hD := hD0.self (sz := s.heap.size)
  generalize hAe : va_A (qoI a0 jaK jfP ja1 jcp jbc jbV ja3 jbH jaT jbO jeG jjk jbI jbl jbn jkc jaa jbA jdD jjk cyP (qgi jik jiq jiD) jik jig jk0 jeG jhF jje jhF cyI jkH jig cyI jkU jaT jbb jbr jhD jfc jbb cyI jbQ jiq jih jk1 jih cyI jkV jiD jii jk2 jii cyI jkW) s.heap.size = A at hD ⊢
  have hA : ∀ q : Nat, s.heap.size ≤ q → A q := fun q h => by rw [← hAe]; exact Or.inr h
  have hS : va_S A s.heap s.heap [] := va_S.rf
  have hP : va_P (dC, dI) vwCl (qoI a0 jaK jfP ja1 jcp jbc jbV ja3 jbH jaT jbO jeG jjk jbI jbl jbn jkc jaa jbA jdD jjk cyP (qgi jik jiq jiD) jik jig jk0 jeG jhF jje jhF cyI jkH jig cyI jkU jaT jbb jbr jhD jfc jbb cyI jbQ jiq jih jk1 jih cyI jkV jiD jii jk2 jii cyI jkW) s.heap := hP
  have hl := lv_entry ([.ref a0]) (n := 1) (nbq rfl)
  rw [lg_entry_eq]
  generalize (lg_sl ([.ref a0]) ++ List.replicate (1 - (lg_sl ([.ref a0])).length) Slot.unset).toArray = ls at hl ⊢
  have hl : lv_has ls 1 [(0, .ref a0)] := hl
  have C0 : cfx p s m _ meth c cX10_image (some .int) wsX10_image RX10 1 A (dC, dI) (kT cyB cyI cyJ cyP) := ⟨hx, hb, hr, hts, hown, hlocks, hml, hA, hK, hNw⟩
  clear hAe
  obtain ⟨H, hH⟩ : ∃ H, H = s.heap := ⟨_, rfl⟩
  rw [← hH] at hP ⊢
  have hS : va_S A s.heap H [] := by rw [hH]; exact va_S.rf
  have hS := hS
  refine lv_aload_n hx hb (qaa qcg 0 rfl) rfl (lv_at hl 0 rfl) ?_
  refine va_get (D := (dC, dI)) (ci := 10) (v := .int jkc) (C := RX10) (T := TX10) (N := 19) hx hb hts qaw hown hK hP 0 rfl rfl 15 (by decide) (hts _ qa8) (fun _ h9 => h9) rfl (qaa qcg 1 rfl) ?_
  refine lv_iconst (v := 3) hx hb (qaa qcg 2 rfl) (by decide) ?_
  refine lv_icmp_lt (tgt := 10) hx hb (qaa qcg 3 rfl) (by decide) (fun c1 => ?_) (fun c1 => ?_)
  · have hw := hw.1 c1
    refine lv_aload_n hx hb (qaa qcg 6 rfl) rfl (lv_at hl 0 rfl) ?_
    refine va_get (D := (dC, dI)) (ci := 10) (v := .ref jjk) (C := RX10) (T := TX10) (N := 19) hx hb hts qaw hown hK hP 0 rfl rfl 11 (by decide) (hts _ qEI) (fun _ h9 => h9) rfl (qaa qcg 7 rfl) ?_
    refine lv_aload_n hx hb (qaa qcg 8 rfl) rfl (lv_at hl 0 rfl) ?_
    refine va_get (D := (dC, dI)) (ci := 10) (v := .int jkc) (C := RX10) (T := TX10) (N := 19) hx hb hts qaw hown hK hP 0 rfl rfl 15 (by decide) (hts _ qa8) (fun _ h9 => h9) rfl (qaa qcg 9 rfl) ?_
    obtain ⟨hi9, hw⟩ := hw
    refine va_aldq hx hb hK hP 1 3 rfl rfl hi9 (qaa qcg 10 rfl) ?_
    rcases in3 hi9 with c2 | c2 | c2
    · have hw := hw.1 c2
      rw [show va_rf (qgi jik jiq jiD jkc.toNatClampNeg) = .ref jik from by rw [c2]; rfl]
      refine lv_aload_n hx hb (qaa qcg 11 rfl) rfl (lv_at hl 0 rfl) ?_
      refine va_get (D := (dC, dI)) (ci := 10) (v := .ref jeG) (C := RX10) (T := TX10) (N := 19) hx hb hts qaw hown hK hP 0 rfl rfl 10 (by decide) (hts _ qL5) (fun _ h9 => h9) rfl (qaa qcg 12 rfl) ?_
      obtain ⟨hCc, hPc, hDc, hFc⟩ := qac (ws' := (qB6 jik jig jk0 jeG jhF jje jhF cyI jkH jig cyI jkU)) hP hD hS hA [2, 3, 4, 5] (by decide +kernel) rfl
      refine va_callv (va_runV (As := [.ref jeG]) (rest := []) ⟨hx, hb, hml, hown, hts⟩ (qpr l dC dI cyB cyI cyJ cyP jik jeG jhF jig H.size jje jkH jkU jk0 hw) (cwV 1 hts gX10_image_X5_copyFrom rfl rfl rfl (by decide +kernel) ⟨nbq rfl, nbq rfl⟩) ⟨qab, va_recv (q := (RX5, TX5, 2)) hK hPc (ci := 5) (q0 := 0) rfl rfl, qae hPc hK hDc hNw⟩ rfl rfl hl.1 rfl (lv_room (nbq rfl)) (qaa qcg 13 rfl) ⟨nbq rfl, nbq rfl⟩) hS (fun q _ h => hFc q h) hFc (fun u t H1 locs ht hvm hw hB hz1 hk1 hS => ?_)
      obtain ⟨f3, x4⟩ := u
      obtain ⟨hP1, hK1, hD1⟩ := hB
      rw [ht] at hP1
      obtain ⟨hP, hD⟩ := qad (wr := [(a0, .inr (10, [jaK, jfP, ja1, jcp, jbc, jbV, ja3, jbH, .ref jaT, jbO, .ref jeG, .ref jjk, jbI, jbl, jbn, .int jkc, jaa, jbA, jdD])), (jjk, .inl (cyP, 3, .inr (.inr (.inr (.inr (qgi jik jiq jiD)))))), (jaT, .inr (1, [.ref jbb, jbr, jhD, jfc])), (jbb, .inl (cyI, 64, .inl jbQ)), (jiq, .inr (5, [.ref jih, .int jk1])), (jih, .inl (cyI, 1088, .inl jkV)), (jiD, .inr (5, [.ref jii, .int jk2])), (jii, .inl (cyI, 1088, .inl jkW))]) (w1 := (qB6 jik jig x4 jeG jhF jje jhF cyI jkH jig cyI f3)) (wn := (qoI a0 jaK jfP ja1 jcp jbc jbV ja3 jbH jaT jbO jeG jjk jbI jbl jbn jkc jaa jbA jdD jjk cyP (qgi jik jiq jiD) jik jig x4 jeG jhF jje jhF cyI jkH jig cyI f3 jaT jbb jbr jhD jfc jbb cyI jbQ jiq jih jk1 jih cyI jkV jiD jii jk2 jii cyI jkW)) hP hD [2, 3, 4, 5] [0, 1, 6, 7, 8, 9, 10, 11] [0, 1, 8, 9, 10, 11, 2, 3, 4, 5, 6, 7] hCc rfl (by decide +kernel) (by decide +kernel) (by decide +kernel) rfl hk1 hFc hP1 hD1
      generalize H1 = H at hP hS ⊢
      refine lv_aload_n hx hb (qaa qcg 14 rfl) rfl (lv_at hl 0 rfl) ?_
      refine va_get (D := (dC, dI)) (ci := 10) (v := .ref jjk) (C := RX10) (T := TX10) (N := 19) hx hb hts qaw hown hK hP 0 rfl rfl 11 (by decide) (hts _ qEI) (fun _ h9 => h9) rfl (qaa qcg 15 rfl) ?_
      refine lv_aload_n hx hb (qaa qai 0 rfl) rfl (lv_at hl 0 rfl) ?_
      refine va_get (D := (dC, dI)) (ci := 10) (v := .int jkc) (C := RX10) (T := TX10) (N := 19) hx hb hts qaw hown hK hP 0 rfl rfl 15 (by decide) (hts _ qa8) (fun _ h9 => h9) rfl (qaa qai 1 rfl) ?_
      obtain ⟨hi9, hw⟩ := hw
      refine va_aldq hx hb hK hP 1 3 rfl rfl hi9 (qaa qai 2 rfl) ?_
      rcases in3 hi9 with c5 | c5 | c5
      · have hw := hw.1 c5
        rw [show va_rf (qgi jik jiq jiD jkc.toNatClampNeg) = .ref jik from by rw [c5]; rfl]
        refine lv_aload_n hx hb (qaa qai 3 rfl) rfl (lv_at hl 0 rfl) ?_
        refine va_get (D := (dC, dI)) (ci := 10) (v := .ref jaT) (C := RX10) (T := TX10) (N := 19) hx hb hts qaw hown hK hP 0 rfl rfl 8 (by decide) (hts _ qqV) (fun _ h9 => h9) rfl (qaa qai 4 rfl) ?_
        obtain ⟨hCc, hPc, hDc, hFc⟩ := qac (ws' := (qrR jik jig x4 jaT jbb jbr jhD jfc jbb cyI jbQ jig cyI f3)) hP hD hS hA [2, 6, 7, 5] (by decide +kernel) rfl
        refine va_callv (va_runV (As := [.ref jaT]) (rest := []) ⟨hx, hb, hml, hown, hts⟩ (qAD l dC dI cyB cyI cyJ cyP jik jaT jbb jig H.size (jbr) (jhD) (jfc) jbQ f3 x4 hw) (cwV 1 hts gX10_image_X5_push rfl rfl rfl (by decide +kernel) ⟨nbq rfl, nbq rfl⟩) ⟨qab, va_recv (q := (RX5, TX5, 2)) hK hPc (ci := 5) (q0 := 0) rfl rfl, qae hPc hK hDc hNw⟩ rfl rfl hl.1 rfl (lv_room (nbq rfl)) (qaa qai 5 rfl) ⟨nbq rfl, nbq rfl⟩) hS (fun q _ h => hFc q h) hFc (fun u t H1 locs ht hvm hw hB hz1 hk1 hS => ?_)
        obtain ⟨f6, x7⟩ := u
        obtain ⟨hP1, hK1, hD1⟩ := hB
        rw [ht] at hP1
        obtain ⟨hP, hD⟩ := qad (wr := (qaYR a0 jaK jfP ja1 jcp jbc jbV ja3 jbH jaT jbO jeG jjk jbI jbl jbn jkc jaa jbA jdD jjk cyP (qgi jik jiq jiD) jeG jhF jje jhF cyI jkH jiq jih jk1 jih cyI jkV jiD jii jk2 jii cyI jkW)) (w1 := (qrR jik jig x7 jaT jbb jbr jhD jfc jbb cyI jbQ jig cyI f6)) (wn := (qoI a0 jaK jfP ja1 jcp jbc jbV ja3 jbH jaT jbO jeG jjk jbI jbl jbn jkc jaa jbA jdD jjk cyP (qgi jik jiq jiD) jik jig x7 jeG jhF jje jhF cyI jkH jig cyI f6 jaT jbb jbr jhD jfc jbb cyI jbQ jiq jih jk1 jih cyI jkV jiD jii jk2 jii cyI jkW)) hP hD [2, 6, 7, 5] [0, 1, 3, 4, 8, 9, 10, 11] [0, 1, 8, 2, 3, 11, 9, 10, 4, 5, 6, 7] hCc rfl (by decide +kernel) (by decide +kernel) (by decide +kernel) rfl hk1 hFc hP1 hD1
        generalize H1 = H at hP hS ⊢
        refine lv_aload_n hx hb (qaa qai 6 rfl) rfl (lv_at hl 0 rfl) ?_
        refine lv_dup hx hb (qaa qai 7 rfl) rfl ?_
        refine va_get (D := (dC, dI)) (ci := 10) (v := .int jkc) (C := RX10) (T := TX10) (N := 19) hx hb hts qaw hown hK hP 0 rfl rfl 15 (by decide) (hts _ qa8) (fun _ h9 => h9) rfl (qaa qai 8 rfl) ?_
        refine lv_iconst (v := 1) hx hb (qaa qai 9 rfl) (by decide) ?_
        refine lv_iadd hx hb (qaa qai 10 rfl) ?_
        refine lv_topi (fun x8 ex8 => ?_)
        have hw := hw x8 ex8
        refine va_put (D := (dC, dI)) (ci := 10) (v := .int x8) (ty := .int) (C := RX10) (T := TX10) (N := 19) hx hb hts qaw tyX10 tyX10_ok nmX10 hown hK hP hD hS 0 rfl rfl 15 (by decide) (hts _ qa8) (fun _ h9 => h9) rfl (by decide +kernel) rfl rfl (nbq rfl) (qaa qai 11 rfl) (fun H locs hP hD hS => ?_)
        have hP : va_P (dC, dI) vwCl (qoI a0 jaK jfP ja1 jcp jbc jbV ja3 jbH jaT jbO jeG jjk jbI jbl jbn x8 jaa jbA jdD jjk cyP (qgi jik jiq jiD) jik jig x7 jeG jhF jje jhF cyI jkH jig cyI f6 jaT jbb jbr jhD jfc jbb cyI jbQ jiq jih jk1 jih cyI jkV jiD jii jk2 jii cyI jkW) H := hP
        have hD : va_D A (qoI a0 jaK jfP ja1 jcp jbc jbV ja3 jbH jaT jbO jeG jjk jbI jbl jbn x8 jaa jbA jdD jjk cyP (qgi jik jiq jiD) jik jig x7 jeG jhF jje jhF cyI jkH jig cyI f6 jaT jbb jbr jhD jfc jbb cyI jbQ jiq jih jk1 jih cyI jkV jiD jii jk2 jii cyI jkW) := hD
        refine lv_aload_n hx hb (qaa qai 12 rfl) rfl (lv_at hl 0 rfl) ?_
        refine va_get (D := (dC, dI)) (ci := 10) (v := .int x8) (C := RX10) (T := TX10) (N := 19) hx hb hts qaw hown hK hP 0 rfl rfl 15 (by decide) (hts _ qa8) (fun _ h9 => h9) rfl (qaa qai 13 rfl) ?_
        exact ((W.iret (v := x8) hx hb hr (fun t ht hW => ⟨⟨x8, (f6, x7, x8, jkV, jk1, jkW, jk2), rfl, hw, by rw [ht]; exact hP, va_K.moved hW.alike hK, hD⟩, hS.F ht⟩) hS.2.2 (qaa qai 14 rfl)))
      · have hw := hw.2.1 c5
        rw [show va_rf (qgi jik jiq jiD jkc.toNatClampNeg) = .ref jiq from by rw [c5]; rfl]
        refine lv_aload_n hx hb (qaa qai 3 rfl) rfl (lv_at hl 0 rfl) ?_
        refine va_get (D := (dC, dI)) (ci := 10) (v := .ref jaT) (C := RX10) (T := TX10) (N := 19) hx hb hts qaw hown hK hP 0 rfl rfl 8 (by decide) (hts _ qqV) (fun _ h9 => h9) rfl (qaa qai 4 rfl) ?_
        obtain ⟨hCc, hPc, hDc, hFc⟩ := qac (ws' := (qrR jiq jih jk1 jaT jbb jbr jhD jfc jbb cyI jbQ jih cyI jkV)) hP hD hS hA [8, 6, 7, 9] (by decide +kernel) rfl
        refine va_callv (va_runV (As := [.ref jaT]) (rest := []) ⟨hx, hb, hml, hown, hts⟩ (qAD l dC dI cyB cyI cyJ cyP jiq jaT jbb jih H.size (jbr) (jhD) (jfc) jbQ jkV jk1 hw) (cwV 1 hts gX10_image_X5_push rfl rfl rfl (by decide +kernel) ⟨nbq rfl, nbq rfl⟩) ⟨qab, va_recv (q := (RX5, TX5, 2)) hK hPc (ci := 5) (q0 := 0) rfl rfl, qae hPc hK hDc hNw⟩ rfl rfl hl.1 rfl (lv_room (nbq rfl)) (qaa qai 5 rfl) ⟨nbq rfl, nbq rfl⟩) hS (fun q _ h => hFc q h) hFc (fun u t H1 locs ht hvm hw hB hz1 hk1 hS => ?_)
        obtain ⟨f9, x10⟩ := u
        obtain ⟨hP1, hK1, hD1⟩ := hB
        rw [ht] at hP1
        obtain ⟨hP, hD⟩ := qad (wr := (qam2 a0 jaK jfP ja1 jcp jbc jbV ja3 jbH jaT jbO jeG jjk jbI jbl jbn jkc jaa jbA jdD jjk cyP (qgi jik jiq jiD) jik jig x4 jeG jhF jje jhF cyI jkH jig cyI f3 jiD jii jk2 jii cyI jkW)) (w1 := (qrR jiq jih x10 jaT jbb jbr jhD jfc jbb cyI jbQ jih cyI f9)) (wn := (qoI a0 jaK jfP ja1 jcp jbc jbV ja3 jbH jaT jbO jeG jjk jbI jbl jbn jkc jaa jbA jdD jjk cyP (qgi jik jiq jiD) jik jig x4 jeG jhF jje jhF cyI jkH jig cyI f3 jaT jbb jbr jhD jfc jbb cyI jbQ jiq jih x10 jih cyI f9 jiD jii jk2 jii cyI jkW)) hP hD [8, 6, 7, 9] [0, 1, 2, 3, 4, 5, 10, 11] [0, 1, 2, 3, 4, 5, 9, 10, 8, 11, 6, 7] hCc rfl (by decide +kernel) (by decide +kernel) (by decide +kernel) rfl hk1 hFc hP1 hD1
        generalize H1 = H at hP hS ⊢
        refine lv_aload_n hx hb (qaa qai 6 rfl) rfl (lv_at hl 0 rfl) ?_
        refine lv_dup hx hb (qaa qai 7 rfl) rfl ?_
        refine va_get (D := (dC, dI)) (ci := 10) (v := .int jkc) (C := RX10) (T := TX10) (N := 19) hx hb hts qaw hown hK hP 0 rfl rfl 15 (by decide) (hts _ qa8) (fun _ h9 => h9) rfl (qaa qai 8 rfl) ?_
        refine lv_iconst (v := 1) hx hb (qaa qai 9 rfl) (by decide) ?_
        refine lv_iadd hx hb (qaa qai 10 rfl) ?_
        refine lv_topi (fun x11 ex11 => ?_)
        have hw := hw x11 ex11
        refine va_put (D := (dC, dI)) (ci := 10) (v := .int x11) (ty := .int) (C := RX10) (T := TX10) (N := 19) hx hb hts qaw tyX10 tyX10_ok nmX10 hown hK hP hD hS 0 rfl rfl 15 (by decide) (hts _ qa8) (fun _ h9 => h9) rfl (by decide +kernel) rfl rfl (nbq rfl) (qaa qai 11 rfl) (fun H locs hP hD hS => ?_)
        have hP : va_P (dC, dI) vwCl (qoI a0 jaK jfP ja1 jcp jbc jbV ja3 jbH jaT jbO jeG jjk jbI jbl jbn x11 jaa jbA jdD jjk cyP (qgi jik jiq jiD) jik jig x4 jeG jhF jje jhF cyI jkH jig cyI f3 jaT jbb jbr jhD jfc jbb cyI jbQ jiq jih x10 jih cyI f9 jiD jii jk2 jii cyI jkW) H := hP
        have hD : va_D A (qoI a0 jaK jfP ja1 jcp jbc jbV ja3 jbH jaT jbO jeG jjk jbI jbl jbn x11 jaa jbA jdD jjk cyP (qgi jik jiq jiD) jik jig x4 jeG jhF jje jhF cyI jkH jig cyI f3 jaT jbb jbr jhD jfc jbb cyI jbQ jiq jih x10 jih cyI f9 jiD jii jk2 jii cyI jkW) := hD
        refine lv_aload_n hx hb (qaa qai 12 rfl) rfl (lv_at hl 0 rfl) ?_
        refine va_get (D := (dC, dI)) (ci := 10) (v := .int x11) (C := RX10) (T := TX10) (N := 19) hx hb hts qaw hown hK hP 0 rfl rfl 15 (by decide) (hts _ qa8) (fun _ h9 => h9) rfl (qaa qai 13 rfl) ?_
        exact ((W.iret (v := x11) hx hb hr (fun t ht hW => ⟨⟨x11, (f3, x4, x11, f9, x10, jkW, jk2), rfl, hw, by rw [ht]; exact hP, va_K.moved hW.alike hK, hD⟩, hS.F ht⟩) hS.2.2 (qaa qai 14 rfl)))
      · have hw := hw.2.2 c5
        rw [show va_rf (qgi jik jiq jiD jkc.toNatClampNeg) = .ref jiD from by rw [c5]; rfl]
        refine lv_aload_n hx hb (qaa qai 3 rfl) rfl (lv_at hl 0 rfl) ?_
        refine va_get (D := (dC, dI)) (ci := 10) (v := .ref jaT) (C := RX10) (T := TX10) (N := 19) hx hb hts qaw hown hK hP 0 rfl rfl 8 (by decide) (hts _ qqV) (fun _ h9 => h9) rfl (qaa qai 4 rfl) ?_
        obtain ⟨hCc, hPc, hDc, hFc⟩ := qac (ws' := (qrR jiD jii jk2 jaT jbb jbr jhD jfc jbb cyI jbQ jii cyI jkW)) hP hD hS hA [10, 6, 7, 11] (by decide +kernel) rfl
        refine va_callv (va_runV (As := [.ref jaT]) (rest := []) ⟨hx, hb, hml, hown, hts⟩ (qAD l dC dI cyB cyI cyJ cyP jiD jaT jbb jii H.size (jbr) (jhD) (jfc) jbQ jkW jk2 hw) (cwV 1 hts gX10_image_X5_push rfl rfl rfl (by decide +kernel) ⟨nbq rfl, nbq rfl⟩) ⟨qab, va_recv (q := (RX5, TX5, 2)) hK hPc (ci := 5) (q0 := 0) rfl rfl, qae hPc hK hDc hNw⟩ rfl rfl hl.1 rfl (lv_room (nbq rfl)) (qaa qai 5 rfl) ⟨nbq rfl, nbq rfl⟩) hS (fun q _ h => hFc q h) hFc (fun u t H1 locs ht hvm hw hB hz1 hk1 hS => ?_)
        obtain ⟨f12, x13⟩ := u
        obtain ⟨hP1, hK1, hD1⟩ := hB
        rw [ht] at hP1
        obtain ⟨hP, hD⟩ := qad (wr := (qam2 a0 jaK jfP ja1 jcp jbc jbV ja3 jbH jaT jbO jeG jjk jbI jbl jbn jkc jaa jbA jdD jjk cyP (qgi jik jiq jiD) jik jig x4 jeG jhF jje jhF cyI jkH jig cyI f3 jiq jih jk1 jih cyI jkV)) (w1 := (qrR jiD jii x13 jaT jbb jbr jhD jfc jbb cyI jbQ jii cyI f12)) (wn := (qoI a0 jaK jfP ja1 jcp jbc jbV ja3 jbH jaT jbO jeG jjk jbI jbl jbn jkc jaa jbA jdD jjk cyP (qgi jik jiq jiD) jik jig x4 jeG jhF jje jhF cyI jkH jig cyI f3 jaT jbb jbr jhD jfc jbb cyI jbQ jiq jih jk1 jih cyI jkV jiD jii x13 jii cyI f12)) hP hD [10, 6, 7, 11] [0, 1, 2, 3, 4, 5, 8, 9] [0, 1, 2, 3, 4, 5, 9, 10, 6, 7, 8, 11] hCc rfl (by decide +kernel) (by decide +kernel) (by decide +kernel) rfl hk1 hFc hP1 hD1
        generalize H1 = H at hP hS ⊢
        refine lv_aload_n hx hb (qaa qai 6 rfl) rfl (lv_at hl 0 rfl) ?_
        refine lv_dup hx hb (qaa qai 7 rfl) rfl ?_
        refine va_get (D := (dC, dI)) (ci := 10) (v := .int jkc) (C := RX10) (T := TX10) (N := 19) hx hb hts qaw hown hK hP 0 rfl rfl 15 (by decide) (hts _ qa8) (fun _ h9 => h9) rfl (qaa qai 8 rfl) ?_
        refine lv_iconst (v := 1) hx hb (qaa qai 9 rfl) (by decide) ?_
        refine lv_iadd hx hb (qaa qai 10 rfl) ?_
        refine lv_topi (fun x14 ex14 => ?_)
        have hw := hw x14 ex14
        refine va_put (D := (dC, dI)) (ci := 10) (v := .int x14) (ty := .int) (C := RX10) (T := TX10) (N := 19) hx hb hts qaw tyX10 tyX10_ok nmX10 hown hK hP hD hS 0 rfl rfl 15 (by decide) (hts _ qa8) (fun _ h9 => h9) rfl (by decide +kernel) rfl rfl (nbq rfl) (qaa qai 11 rfl) (fun H locs hP hD hS => ?_)
        have hP : va_P (dC, dI) vwCl (qoI a0 jaK jfP ja1 jcp jbc jbV ja3 jbH jaT jbO jeG jjk jbI jbl jbn x14 jaa jbA jdD jjk cyP (qgi jik jiq jiD) jik jig x4 jeG jhF jje jhF cyI jkH jig cyI f3 jaT jbb jbr jhD jfc jbb cyI jbQ jiq jih jk1 jih cyI jkV jiD jii x13 jii cyI f12) H := hP
        have hD : va_D A (qoI a0 jaK jfP ja1 jcp jbc jbV ja3 jbH jaT jbO jeG jjk jbI jbl jbn x14 jaa jbA jdD jjk cyP (qgi jik jiq jiD) jik jig x4 jeG jhF jje jhF cyI jkH jig cyI f3 jaT jbb jbr jhD jfc jbb cyI jbQ jiq jih jk1 jih cyI jkV jiD jii x13 jii cyI f12) := hD
        refine lv_aload_n hx hb (qaa qai 12 rfl) rfl (lv_at hl 0 rfl) ?_
        refine va_get (D := (dC, dI)) (ci := 10) (v := .int x14) (C := RX10) (T := TX10) (N := 19) hx hb hts qaw hown hK hP 0 rfl rfl 15 (by decide) (hts _ qa8) (fun _ h9 => h9) rfl (qaa qai 13 rfl) ?_
        exact ((W.iret (v := x14) hx hb hr (fun t ht hW => ⟨⟨x14, (f3, x4, x14, jkV, jk1, f12, x13), rfl, hw, by rw [ht]; exact hP, va_K.moved hW.alike hK, hD⟩, hS.F ht⟩) hS.2.2 (qaa qai 14 rfl)))
    · have hw := hw.2.1 c2
      rw [show va_rf (qgi jik jiq jiD jkc.toNatClampNeg) = .ref jiq from by rw [c2]; rfl]
      refine lv_aload_n hx hb (qaa qcg 11 rfl) rfl (lv_at hl 0 rfl) ?_
      refine va_get (D := (dC, dI)) (ci := 10) (v := .ref jeG) (C := RX10) (T := TX10) (N := 19) hx hb hts qaw hown hK hP 0 rfl rfl 10 (by decide) (hts _ qL5) (fun _ h9 => h9) rfl (qaa qcg 12 rfl) ?_
      obtain ⟨hCc, hPc, hDc, hFc⟩ := qac (ws' := (qB6 jiq jih jk1 jeG jhF jje jhF cyI jkH jih cyI jkV)) hP hD hS hA [8, 3, 4, 9] (by decide +kernel) rfl
      refine va_callv (va_runV (As := [.ref jeG]) (rest := []) ⟨hx, hb, hml, hown, hts⟩ (qpr l dC dI cyB cyI cyJ cyP jiq jeG jhF jih H.size jje jkH jkV jk1 hw) (cwV 1 hts gX10_image_X5_copyFrom rfl rfl rfl (by decide +kernel) ⟨nbq rfl, nbq rfl⟩) ⟨qab, va_recv (q := (RX5, TX5, 2)) hK hPc (ci := 5) (q0 := 0) rfl rfl, qae hPc hK hDc hNw⟩ rfl rfl hl.1 rfl (lv_room (nbq rfl)) (qaa qcg 13 rfl) ⟨nbq rfl, nbq rfl⟩) hS (fun q _ h => hFc q h) hFc (fun u t H1 locs ht hvm hw hB hz1 hk1 hS => ?_)
      obtain ⟨f15, x16⟩ := u
      obtain ⟨hP1, hK1, hD1⟩ := hB
      rw [ht] at hP1
      obtain ⟨hP, hD⟩ := qad (wr := (qa5i a0 jaK jfP ja1 jcp jbc jbV ja3 jbH jaT jbO jeG jjk jbI jbl jbn jkc jaa jbA jdD jjk cyP (qgi jik jiq jiD) jik jig jk0 jig cyI jkU jaT jbb jbr jhD jfc jbb cyI jbQ jiD jii jk2 jii cyI jkW)) (w1 := (qB6 jiq jih x16 jeG jhF jje jhF cyI jkH jih cyI f15)) (wn := (qoI a0 jaK jfP ja1 jcp jbc jbV ja3 jbH jaT jbO jeG jjk jbI jbl jbn jkc jaa jbA jdD jjk cyP (qgi jik jiq jiD) jik jig jk0 jeG jhF jje jhF cyI jkH jig cyI jkU jaT jbb jbr jhD jfc jbb cyI jbQ jiq jih x16 jih cyI f15 jiD jii jk2 jii cyI jkW)) hP hD [8, 3, 4, 9] [0, 1, 2, 5, 6, 7, 10, 11] [0, 1, 2, 9, 10, 3, 4, 5, 8, 11, 6, 7] hCc rfl (by decide +kernel) (by decide +kernel) (by decide +kernel) rfl hk1 hFc hP1 hD1
      generalize H1 = H at hP hS ⊢
      refine lv_aload_n hx hb (qaa qcg 14 rfl) rfl (lv_at hl 0 rfl) ?_
      refine va_get (D := (dC, dI)) (ci := 10) (v := .ref jjk) (C := RX10) (T := TX10) (N := 19) hx hb hts qaw hown hK hP 0 rfl rfl 11 (by decide) (hts _ qEI) (fun _ h9 => h9) rfl (qaa qcg 15 rfl) ?_
      refine lv_aload_n hx hb (qaa qai 0 rfl) rfl (lv_at hl 0 rfl) ?_
      refine va_get (D := (dC, dI)) (ci := 10) (v := .int jkc) (C := RX10) (T := TX10) (N := 19) hx hb hts qaw hown hK hP 0 rfl rfl 15 (by decide) (hts _ qa8) (fun _ h9 => h9) rfl (qaa qai 1 rfl) ?_
      obtain ⟨hi9, hw⟩ := hw
      refine va_aldq hx hb hK hP 1 3 rfl rfl hi9 (qaa qai 2 rfl) ?_
      rcases in3 hi9 with c17 | c17 | c17
      · have hw := hw.1 c17
        rw [show va_rf (qgi jik jiq jiD jkc.toNatClampNeg) = .ref jik from by rw [c17]; rfl]
        refine lv_aload_n hx hb (qaa qai 3 rfl) rfl (lv_at hl 0 rfl) ?_
        refine va_get (D := (dC, dI)) (ci := 10) (v := .ref jaT) (C := RX10) (T := TX10) (N := 19) hx hb hts qaw hown hK hP 0 rfl rfl 8 (by decide) (hts _ qqV) (fun _ h9 => h9) rfl (qaa qai 4 rfl) ?_
        obtain ⟨hCc, hPc, hDc, hFc⟩ := qac (ws' := (qrR jik jig jk0 jaT jbb jbr jhD jfc jbb cyI jbQ jig cyI jkU)) hP hD hS hA [2, 6, 7, 5] (by decide +kernel) rfl
        refine va_callv (va_runV (As := [.ref jaT]) (rest := []) ⟨hx, hb, hml, hown, hts⟩ (qAD l dC dI cyB cyI cyJ cyP jik jaT jbb jig H.size (jbr) (jhD) (jfc) jbQ jkU jk0 hw) (cwV 1 hts gX10_image_X5_push rfl rfl rfl (by decide +kernel) ⟨nbq rfl, nbq rfl⟩) ⟨qab, va_recv (q := (RX5, TX5, 2)) hK hPc (ci := 5) (q0 := 0) rfl rfl, qae hPc hK hDc hNw⟩ rfl rfl hl.1 rfl (lv_room (nbq rfl)) (qaa qai 5 rfl) ⟨nbq rfl, nbq rfl⟩) hS (fun q _ h => hFc q h) hFc (fun u t H1 locs ht hvm hw hB hz1 hk1 hS => ?_)
        obtain ⟨f18, x19⟩ := u
        obtain ⟨hP1, hK1, hD1⟩ := hB
        rw [ht] at hP1
        obtain ⟨hP, hD⟩ := qad (wr := (qaYR a0 jaK jfP ja1 jcp jbc jbV ja3 jbH jaT jbO jeG jjk jbI jbl jbn jkc jaa jbA jdD jjk cyP (qgi jik jiq jiD) jeG jhF jje jhF cyI jkH jiq jih x16 jih cyI f15 jiD jii jk2 jii cyI jkW)) (w1 := (qrR jik jig x19 jaT jbb jbr jhD jfc jbb cyI jbQ jig cyI f18)) (wn := (qoI a0 jaK jfP ja1 jcp jbc jbV ja3 jbH jaT jbO jeG jjk jbI jbl jbn jkc jaa jbA jdD jjk cyP (qgi jik jiq jiD) jik jig x19 jeG jhF jje jhF cyI jkH jig cyI f18 jaT jbb jbr jhD jfc jbb cyI jbQ jiq jih x16 jih cyI f15 jiD jii jk2 jii cyI jkW)) hP hD [2, 6, 7, 5] [0, 1, 3, 4, 8, 9, 10, 11] [0, 1, 8, 2, 3, 11, 9, 10, 4, 5, 6, 7] hCc rfl (by decide +kernel) (by decide +kernel) (by decide +kernel) rfl hk1 hFc hP1 hD1
        generalize H1 = H at hP hS ⊢
        refine lv_aload_n hx hb (qaa qai 6 rfl) rfl (lv_at hl 0 rfl) ?_
        refine lv_dup hx hb (qaa qai 7 rfl) rfl ?_
        refine va_get (D := (dC, dI)) (ci := 10) (v := .int jkc) (C := RX10) (T := TX10) (N := 19) hx hb hts qaw hown hK hP 0 rfl rfl 15 (by decide) (hts _ qa8) (fun _ h9 => h9) rfl (qaa qai 8 rfl) ?_
        refine lv_iconst (v := 1) hx hb (qaa qai 9 rfl) (by decide) ?_
        refine lv_iadd hx hb (qaa qai 10 rfl) ?_
        refine lv_topi (fun x20 ex20 => ?_)
        have hw := hw x20 ex20
        refine va_put (D := (dC, dI)) (ci := 10) (v := .int x20) (ty := .int) (C := RX10) (T := TX10) (N := 19) hx hb hts qaw tyX10 tyX10_ok nmX10 hown hK hP hD hS 0 rfl rfl 15 (by decide) (hts _ qa8) (fun _ h9 => h9) rfl (by decide +kernel) rfl rfl (nbq rfl) (qaa qai 11 rfl) (fun H locs hP hD hS => ?_)
        have hP : va_P (dC, dI) vwCl (qoI a0 jaK jfP ja1 jcp jbc jbV ja3 jbH jaT jbO jeG jjk jbI jbl jbn x20 jaa jbA jdD jjk cyP (qgi jik jiq jiD) jik jig x19 jeG jhF jje jhF cyI jkH jig cyI f18 jaT jbb jbr jhD jfc jbb cyI jbQ jiq jih x16 jih cyI f15 jiD jii jk2 jii cyI jkW) H := hP
        have hD : va_D A (qoI a0 jaK jfP ja1 jcp jbc jbV ja3 jbH jaT jbO jeG jjk jbI jbl jbn x20 jaa jbA jdD jjk cyP (qgi jik jiq jiD) jik jig x19 jeG jhF jje jhF cyI jkH jig cyI f18 jaT jbb jbr jhD jfc jbb cyI jbQ jiq jih x16 jih cyI f15 jiD jii jk2 jii cyI jkW) := hD
        refine lv_aload_n hx hb (qaa qai 12 rfl) rfl (lv_at hl 0 rfl) ?_
        refine va_get (D := (dC, dI)) (ci := 10) (v := .int x20) (C := RX10) (T := TX10) (N := 19) hx hb hts qaw hown hK hP 0 rfl rfl 15 (by decide) (hts _ qa8) (fun _ h9 => h9) rfl (qaa qai 13 rfl) ?_
        exact ((W.iret (v := x20) hx hb hr (fun t ht hW => ⟨⟨x20, (f18, x19, x20, f15, x16, jkW, jk2), rfl, hw, by rw [ht]; exact hP, va_K.moved hW.alike hK, hD⟩, hS.F ht⟩) hS.2.2 (qaa qai 14 rfl)))
      · have hw := hw.2.1 c17
        rw [show va_rf (qgi jik jiq jiD jkc.toNatClampNeg) = .ref jiq from by rw [c17]; rfl]
        refine lv_aload_n hx hb (qaa qai 3 rfl) rfl (lv_at hl 0 rfl) ?_
        refine va_get (D := (dC, dI)) (ci := 10) (v := .ref jaT) (C := RX10) (T := TX10) (N := 19) hx hb hts qaw hown hK hP 0 rfl rfl 8 (by decide) (hts _ qqV) (fun _ h9 => h9) rfl (qaa qai 4 rfl) ?_
        obtain ⟨hCc, hPc, hDc, hFc⟩ := qac (ws' := (qrR jiq jih x16 jaT jbb jbr jhD jfc jbb cyI jbQ jih cyI f15)) hP hD hS hA [8, 6, 7, 9] (by decide +kernel) rfl
        refine va_callv (va_runV (As := [.ref jaT]) (rest := []) ⟨hx, hb, hml, hown, hts⟩ (qAD l dC dI cyB cyI cyJ cyP jiq jaT jbb jih H.size (jbr) (jhD) (jfc) jbQ f15 x16 hw) (cwV 1 hts gX10_image_X5_push rfl rfl rfl (by decide +kernel) ⟨nbq rfl, nbq rfl⟩) ⟨qab, va_recv (q := (RX5, TX5, 2)) hK hPc (ci := 5) (q0 := 0) rfl rfl, qae hPc hK hDc hNw⟩ rfl rfl hl.1 rfl (lv_room (nbq rfl)) (qaa qai 5 rfl) ⟨nbq rfl, nbq rfl⟩) hS (fun q _ h => hFc q h) hFc (fun u t H1 locs ht hvm hw hB hz1 hk1 hS => ?_)
        obtain ⟨f21, x22⟩ := u
        obtain ⟨hP1, hK1, hD1⟩ := hB
        rw [ht] at hP1
        obtain ⟨hP, hD⟩ := qad (wr := (qam2 a0 jaK jfP ja1 jcp jbc jbV ja3 jbH jaT jbO jeG jjk jbI jbl jbn jkc jaa jbA jdD jjk cyP (qgi jik jiq jiD) jik jig jk0 jeG jhF jje jhF cyI jkH jig cyI jkU jiD jii jk2 jii cyI jkW)) (w1 := (qrR jiq jih x22 jaT jbb jbr jhD jfc jbb cyI jbQ jih cyI f21)) (wn := (qoI a0 jaK jfP ja1 jcp jbc jbV ja3 jbH jaT jbO jeG jjk jbI jbl jbn jkc jaa jbA jdD jjk cyP (qgi jik jiq jiD) jik jig jk0 jeG jhF jje jhF cyI jkH jig cyI jkU jaT jbb jbr jhD jfc jbb cyI jbQ jiq jih x22 jih cyI f21 jiD jii jk2 jii cyI jkW)) hP hD [8, 6, 7, 9] [0, 1, 2, 3, 4, 5, 10, 11] [0, 1, 2, 3, 4, 5, 9, 10, 8, 11, 6, 7] hCc rfl (by decide +kernel) (by decide +kernel) (by decide +kernel) rfl hk1 hFc hP1 hD1
        generalize H1 = H at hP hS ⊢
        refine lv_aload_n hx hb (qaa qai 6 rfl) rfl (lv_at hl 0 rfl) ?_
        refine lv_dup hx hb (qaa qai 7 rfl) rfl ?_
        refine va_get (D := (dC, dI)) (ci := 10) (v := .int jkc) (C := RX10) (T := TX10) (N := 19) hx hb hts qaw hown hK hP 0 rfl rfl 15 (by decide) (hts _ qa8) (fun _ h9 => h9) rfl (qaa qai 8 rfl) ?_
        refine lv_iconst (v := 1) hx hb (qaa qai 9 rfl) (by decide) ?_
        refine lv_iadd hx hb (qaa qai 10 rfl) ?_
        refine lv_topi (fun x23 ex23 => ?_)
        have hw := hw x23 ex23
        refine va_put (D := (dC, dI)) (ci := 10) (v := .int x23) (ty := .int) (C := RX10) (T := TX10) (N := 19) hx hb hts qaw tyX10 tyX10_ok nmX10 hown hK hP hD hS 0 rfl rfl 15 (by decide) (hts _ qa8) (fun _ h9 => h9) rfl (by decide +kernel) rfl rfl (nbq rfl) (qaa qai 11 rfl) (fun H locs hP hD hS => ?_)
        have hP : va_P (dC, dI) vwCl (qoI a0 jaK jfP ja1 jcp jbc jbV ja3 jbH jaT jbO jeG jjk jbI jbl jbn x23 jaa jbA jdD jjk cyP (qgi jik jiq jiD) jik jig jk0 jeG jhF jje jhF cyI jkH jig cyI jkU jaT jbb jbr jhD jfc jbb cyI jbQ jiq jih x22 jih cyI f21 jiD jii jk2 jii cyI jkW) H := hP
        have hD : va_D A (qoI a0 jaK jfP ja1 jcp jbc jbV ja3 jbH jaT jbO jeG jjk jbI jbl jbn x23 jaa jbA jdD jjk cyP (qgi jik jiq jiD) jik jig jk0 jeG jhF jje jhF cyI jkH jig cyI jkU jaT jbb jbr jhD jfc jbb cyI jbQ jiq jih x22 jih cyI f21 jiD jii jk2 jii cyI jkW) := hD
        refine lv_aload_n hx hb (qaa qai 12 rfl) rfl (lv_at hl 0 rfl) ?_
        refine va_get (D := (dC, dI)) (ci := 10) (v := .int x23) (C := RX10) (T := TX10) (N := 19) hx hb hts qaw hown hK hP 0 rfl rfl 15 (by decide) (hts _ qa8) (fun _ h9 => h9) rfl (qaa qai 13 rfl) ?_
        exact ((W.iret (v := x23) hx hb hr (fun t ht hW => ⟨⟨x23, (jkU, jk0, x23, f21, x22, jkW, jk2), rfl, hw, by rw [ht]; exact hP, va_K.moved hW.alike hK, hD⟩, hS.F ht⟩) hS.2.2 (qaa qai 14 rfl)))
      · have hw := hw.2.2 c17
        rw [show va_rf (qgi jik jiq jiD jkc.toNatClampNeg) = .ref jiD from by rw [c17]; rfl]
        refine lv_aload_n hx hb (qaa qai 3 rfl) rfl (lv_at hl 0 rfl) ?_
        refine va_get (D := (dC, dI)) (ci := 10) (v := .ref jaT) (C := RX10) (T := TX10) (N := 19) hx hb hts qaw hown hK hP 0 rfl rfl 8 (by decide) (hts _ qqV) (fun _ h9 => h9) rfl (qaa qai 4 rfl) ?_
        obtain ⟨hCc, hPc, hDc, hFc⟩ := qac (ws' := (qrR jiD jii jk2 jaT jbb jbr jhD jfc jbb cyI jbQ jii cyI jkW)) hP hD hS hA [10, 6, 7, 11] (by decide +kernel) rfl
        refine va_callv (va_runV (As := [.ref jaT]) (rest := []) ⟨hx, hb, hml, hown, hts⟩ (qAD l dC dI cyB cyI cyJ cyP jiD jaT jbb jii H.size (jbr) (jhD) (jfc) jbQ jkW jk2 hw) (cwV 1 hts gX10_image_X5_push rfl rfl rfl (by decide +kernel) ⟨nbq rfl, nbq rfl⟩) ⟨qab, va_recv (q := (RX5, TX5, 2)) hK hPc (ci := 5) (q0 := 0) rfl rfl, qae hPc hK hDc hNw⟩ rfl rfl hl.1 rfl (lv_room (nbq rfl)) (qaa qai 5 rfl) ⟨nbq rfl, nbq rfl⟩) hS (fun q _ h => hFc q h) hFc (fun u t H1 locs ht hvm hw hB hz1 hk1 hS => ?_)
        obtain ⟨f24, x25⟩ := u
        obtain ⟨hP1, hK1, hD1⟩ := hB
        rw [ht] at hP1
        obtain ⟨hP, hD⟩ := qad (wr := (qam2 a0 jaK jfP ja1 jcp jbc jbV ja3 jbH jaT jbO jeG jjk jbI jbl jbn jkc jaa jbA jdD jjk cyP (qgi jik jiq jiD) jik jig jk0 jeG jhF jje jhF cyI jkH jig cyI jkU jiq jih x16 jih cyI f15)) (w1 := (qrR jiD jii x25 jaT jbb jbr jhD jfc jbb cyI jbQ jii cyI f24)) (wn := (qoI a0 jaK jfP ja1 jcp jbc jbV ja3 jbH jaT jbO jeG jjk jbI jbl jbn jkc jaa jbA jdD jjk cyP (qgi jik jiq jiD) jik jig jk0 jeG jhF jje jhF cyI jkH jig cyI jkU jaT jbb jbr jhD jfc jbb cyI jbQ jiq jih x16 jih cyI f15 jiD jii x25 jii cyI f24)) hP hD [10, 6, 7, 11] [0, 1, 2, 3, 4, 5, 8, 9] [0, 1, 2, 3, 4, 5, 9, 10, 6, 7, 8, 11] hCc rfl (by decide +kernel) (by decide +kernel) (by decide +kernel) rfl hk1 hFc hP1 hD1
        generalize H1 = H at hP hS ⊢
        refine lv_aload_n hx hb (qaa qai 6 rfl) rfl (lv_at hl 0 rfl) ?_
        refine lv_dup hx hb (qaa qai 7 rfl) rfl ?_
        refine va_get (D := (dC, dI)) (ci := 10) (v := .int jkc) (C := RX10) (T := TX10) (N := 19) hx hb hts qaw hown hK hP 0 rfl rfl 15 (by decide) (hts _ qa8) (fun _ h9 => h9) rfl (qaa qai 8 rfl) ?_
        refine lv_iconst (v := 1) hx hb (qaa qai 9 rfl) (by decide) ?_
        refine lv_iadd hx hb (qaa qai 10 rfl) ?_
        refine lv_topi (fun x26 ex26 => ?_)
        have hw := hw x26 ex26
        refine va_put (D := (dC, dI)) (ci := 10) (v := .int x26) (ty := .int) (C := RX10) (T := TX10) (N := 19) hx hb hts qaw tyX10 tyX10_ok nmX10 hown hK hP hD hS 0 rfl rfl 15 (by decide) (hts _ qa8) (fun _ h9 => h9) rfl (by decide +kernel) rfl rfl (nbq rfl) (qaa qai 11 rfl) (fun H locs hP hD hS => ?_)
        have hP : va_P (dC, dI) vwCl (qoI a0 jaK jfP ja1 jcp jbc jbV ja3 jbH jaT jbO jeG jjk jbI jbl jbn x26 jaa jbA jdD jjk cyP (qgi jik jiq jiD) jik jig jk0 jeG jhF jje jhF cyI jkH jig cyI jkU jaT jbb jbr jhD jfc jbb cyI jbQ jiq jih x16 jih cyI f15 jiD jii x25 jii cyI f24) H := hP
        have hD : va_D A (qoI a0 jaK jfP ja1 jcp jbc jbV ja3 jbH jaT jbO jeG jjk jbI jbl jbn x26 jaa jbA jdD jjk cyP (qgi jik jiq jiD) jik jig jk0 jeG jhF jje jhF cyI jkH jig cyI jkU jaT jbb jbr jhD jfc jbb cyI jbQ jiq jih x16 jih cyI f15 jiD jii x25 jii cyI f24) := hD
        refine lv_aload_n hx hb (qaa qai 12 rfl) rfl (lv_at hl 0 rfl) ?_
        refine va_get (D := (dC, dI)) (ci := 10) (v := .int x26) (C := RX10) (T := TX10) (N := 19) hx hb hts qaw hown hK hP 0 rfl rfl 15 (by decide) (hts _ qa8) (fun _ h9 => h9) rfl (qaa qai 13 rfl) ?_
        exact ((W.iret (v := x26) hx hb hr (fun t ht hW => ⟨⟨x26, (jkU, jk0, x26, f15, x16, f24, x25), rfl, hw, by rw [ht]; exact hP, va_K.moved hW.alike hK, hD⟩, hS.F ht⟩) hS.2.2 (qaa qai 14 rfl)))
    · have hw := hw.2.2 c2
      rw [show va_rf (qgi jik jiq jiD jkc.toNatClampNeg) = .ref jiD from by rw [c2]; rfl]
      refine lv_aload_n hx hb (qaa qcg 11 rfl) rfl (lv_at hl 0 rfl) ?_
      refine va_get (D := (dC, dI)) (ci := 10) (v := .ref jeG) (C := RX10) (T := TX10) (N := 19) hx hb hts qaw hown hK hP 0 rfl rfl 10 (by decide) (hts _ qL5) (fun _ h9 => h9) rfl (qaa qcg 12 rfl) ?_
      obtain ⟨hCc, hPc, hDc, hFc⟩ := qac (ws' := (qB6 jiD jii jk2 jeG jhF jje jhF cyI jkH jii cyI jkW)) hP hD hS hA [10, 3, 4, 11] (by decide +kernel) rfl
      refine va_callv (va_runV (As := [.ref jeG]) (rest := []) ⟨hx, hb, hml, hown, hts⟩ (qpr l dC dI cyB cyI cyJ cyP jiD jeG jhF jii H.size jje jkH jkW jk2 hw) (cwV 1 hts gX10_image_X5_copyFrom rfl rfl rfl (by decide +kernel) ⟨nbq rfl, nbq rfl⟩) ⟨qab, va_recv (q := (RX5, TX5, 2)) hK hPc (ci := 5) (q0 := 0) rfl rfl, qae hPc hK hDc hNw⟩ rfl rfl hl.1 rfl (lv_room (nbq rfl)) (qaa qcg 13 rfl) ⟨nbq rfl, nbq rfl⟩) hS (fun q _ h => hFc q h) hFc (fun u t H1 locs ht hvm hw hB hz1 hk1 hS => ?_)
      obtain ⟨f27, x28⟩ := u
      obtain ⟨hP1, hK1, hD1⟩ := hB
      rw [ht] at hP1
      obtain ⟨hP, hD⟩ := qad (wr := (qa5i a0 jaK jfP ja1 jcp jbc jbV ja3 jbH jaT jbO jeG jjk jbI jbl jbn jkc jaa jbA jdD jjk cyP (qgi jik jiq jiD) jik jig jk0 jig cyI jkU jaT jbb jbr jhD jfc jbb cyI jbQ jiq jih jk1 jih cyI jkV)) (w1 := (qB6 jiD jii x28 jeG jhF jje jhF cyI jkH jii cyI f27)) (wn := (qoI a0 jaK jfP ja1 jcp jbc jbV ja3 jbH jaT jbO jeG jjk jbI jbl jbn jkc jaa jbA jdD jjk cyP (qgi jik jiq jiD) jik jig jk0 jeG jhF jje jhF cyI jkH jig cyI jkU jaT jbb jbr jhD jfc jbb cyI jbQ jiq jih jk1 jih cyI jkV jiD jii x28 jii cyI f27)) hP hD [10, 3, 4, 11] [0, 1, 2, 5, 6, 7, 8, 9] [0, 1, 2, 9, 10, 3, 4, 5, 6, 7, 8, 11] hCc rfl (by decide +kernel) (by decide +kernel) (by decide +kernel) rfl hk1 hFc hP1 hD1
      generalize H1 = H at hP hS ⊢
      refine lv_aload_n hx hb (qaa qcg 14 rfl) rfl (lv_at hl 0 rfl) ?_
      refine va_get (D := (dC, dI)) (ci := 10) (v := .ref jjk) (C := RX10) (T := TX10) (N := 19) hx hb hts qaw hown hK hP 0 rfl rfl 11 (by decide) (hts _ qEI) (fun _ h9 => h9) rfl (qaa qcg 15 rfl) ?_
      refine lv_aload_n hx hb (qaa qai 0 rfl) rfl (lv_at hl 0 rfl) ?_
      refine va_get (D := (dC, dI)) (ci := 10) (v := .int jkc) (C := RX10) (T := TX10) (N := 19) hx hb hts qaw hown hK hP 0 rfl rfl 15 (by decide) (hts _ qa8) (fun _ h9 => h9) rfl (qaa qai 1 rfl) ?_
      obtain ⟨hi9, hw⟩ := hw
      refine va_aldq hx hb hK hP 1 3 rfl rfl hi9 (qaa qai 2 rfl) ?_
      rcases in3 hi9 with c29 | c29 | c29
      · have hw := hw.1 c29
        rw [show va_rf (qgi jik jiq jiD jkc.toNatClampNeg) = .ref jik from by rw [c29]; rfl]
        refine lv_aload_n hx hb (qaa qai 3 rfl) rfl (lv_at hl 0 rfl) ?_
        refine va_get (D := (dC, dI)) (ci := 10) (v := .ref jaT) (C := RX10) (T := TX10) (N := 19) hx hb hts qaw hown hK hP 0 rfl rfl 8 (by decide) (hts _ qqV) (fun _ h9 => h9) rfl (qaa qai 4 rfl) ?_
        obtain ⟨hCc, hPc, hDc, hFc⟩ := qac (ws' := (qrR jik jig jk0 jaT jbb jbr jhD jfc jbb cyI jbQ jig cyI jkU)) hP hD hS hA [2, 6, 7, 5] (by decide +kernel) rfl
        refine va_callv (va_runV (As := [.ref jaT]) (rest := []) ⟨hx, hb, hml, hown, hts⟩ (qAD l dC dI cyB cyI cyJ cyP jik jaT jbb jig H.size (jbr) (jhD) (jfc) jbQ jkU jk0 hw) (cwV 1 hts gX10_image_X5_push rfl rfl rfl (by decide +kernel) ⟨nbq rfl, nbq rfl⟩) ⟨qab, va_recv (q := (RX5, TX5, 2)) hK hPc (ci := 5) (q0 := 0) rfl rfl, qae hPc hK hDc hNw⟩ rfl rfl hl.1 rfl (lv_room (nbq rfl)) (qaa qai 5 rfl) ⟨nbq rfl, nbq rfl⟩) hS (fun q _ h => hFc q h) hFc (fun u t H1 locs ht hvm hw hB hz1 hk1 hS => ?_)
        obtain ⟨f30, x31⟩ := u
        obtain ⟨hP1, hK1, hD1⟩ := hB
        rw [ht] at hP1
        obtain ⟨hP, hD⟩ := qad (wr := (qaYR a0 jaK jfP ja1 jcp jbc jbV ja3 jbH jaT jbO jeG jjk jbI jbl jbn jkc jaa jbA jdD jjk cyP (qgi jik jiq jiD) jeG jhF jje jhF cyI jkH jiq jih jk1 jih cyI jkV jiD jii x28 jii cyI f27)) (w1 := (qrR jik jig x31 jaT jbb jbr jhD jfc jbb cyI jbQ jig cyI f30)) (wn := (qoI a0 jaK jfP ja1 jcp jbc jbV ja3 jbH jaT jbO jeG jjk jbI jbl jbn jkc jaa jbA jdD jjk cyP (qgi jik jiq jiD) jik jig x31 jeG jhF jje jhF cyI jkH jig cyI f30 jaT jbb jbr jhD jfc jbb cyI jbQ jiq jih jk1 jih cyI jkV jiD jii x28 jii cyI f27)) hP hD [2, 6, 7, 5] [0, 1, 3, 4, 8, 9, 10, 11] [0, 1, 8, 2, 3, 11, 9, 10, 4, 5, 6, 7] hCc rfl (by decide +kernel) (by decide +kernel) (by decide +kernel) rfl hk1 hFc hP1 hD1
        generalize H1 = H at hP hS ⊢
        refine lv_aload_n hx hb (qaa qai 6 rfl) rfl (lv_at hl 0 rfl) ?_
        refine lv_dup hx hb (qaa qai 7 rfl) rfl ?_
        refine va_get (D := (dC, dI)) (ci := 10) (v := .int jkc) (C := RX10) (T := TX10) (N := 19) hx hb hts qaw hown hK hP 0 rfl rfl 15 (by decide) (hts _ qa8) (fun _ h9 => h9) rfl (qaa qai 8 rfl) ?_
        refine lv_iconst (v := 1) hx hb (qaa qai 9 rfl) (by decide) ?_
        refine lv_iadd hx hb (qaa qai 10 rfl) ?_
        refine lv_topi (fun x32 ex32 => ?_)
        have hw := hw x32 ex32
        refine va_put (D := (dC, dI)) (ci := 10) (v := .int x32) (ty := .int) (C := RX10) (T := TX10) (N := 19) hx hb hts qaw tyX10 tyX10_ok nmX10 hown hK hP hD hS 0 rfl rfl 15 (by decide) (hts _ qa8) (fun _ h9 => h9) rfl (by decide +kernel) rfl rfl (nbq rfl) (qaa qai 11 rfl) (fun H locs hP hD hS => ?_)
        have hP : va_P (dC, dI) vwCl (qoI a0 jaK jfP ja1 jcp jbc jbV ja3 jbH jaT jbO jeG jjk jbI jbl jbn x32 jaa jbA jdD jjk cyP (qgi jik jiq jiD) jik jig x31 jeG jhF jje jhF cyI jkH jig cyI f30 jaT jbb jbr jhD jfc jbb cyI jbQ jiq jih jk1 jih cyI jkV jiD jii x28 jii cyI f27) H := hP
        have hD : va_D A (qoI a0 jaK jfP ja1 jcp jbc jbV ja3 jbH jaT jbO jeG jjk jbI jbl jbn x32 jaa jbA jdD jjk cyP (qgi jik jiq jiD) jik jig x31 jeG jhF jje jhF cyI jkH jig cyI f30 jaT jbb jbr jhD jfc jbb cyI jbQ jiq jih jk1 jih cyI jkV jiD jii x28 jii cyI f27) := hD
        refine lv_aload_n hx hb (qaa qai 12 rfl) rfl (lv_at hl 0 rfl) ?_
        refine va_get (D := (dC, dI)) (ci := 10) (v := .int x32) (C := RX10) (T := TX10) (N := 19) hx hb hts qaw hown hK hP 0 rfl rfl 15 (by decide) (hts _ qa8) (fun _ h9 => h9) rfl (qaa qai 13 rfl) ?_
        exact ((W.iret (v := x32) hx hb hr (fun t ht hW => ⟨⟨x32, (f30, x31, x32, jkV, jk1, f27, x28), rfl, hw, by rw [ht]; exact hP, va_K.moved hW.alike hK, hD⟩, hS.F ht⟩) hS.2.2 (qaa qai 14 rfl)))
      · have hw := hw.2.1 c29
        rw [show va_rf (qgi jik jiq jiD jkc.toNatClampNeg) = .ref jiq from by rw [c29]; rfl]
        refine lv_aload_n hx hb (qaa qai 3 rfl) rfl (lv_at hl 0 rfl) ?_
        refine va_get (D := (dC, dI)) (ci := 10) (v := .ref jaT) (C := RX10) (T := TX10) (N := 19) hx hb hts qaw hown hK hP 0 rfl rfl 8 (by decide) (hts _ qqV) (fun _ h9 => h9) rfl (qaa qai 4 rfl) ?_
        obtain ⟨hCc, hPc, hDc, hFc⟩ := qac (ws' := (qrR jiq jih jk1 jaT jbb jbr jhD jfc jbb cyI jbQ jih cyI jkV)) hP hD hS hA [8, 6, 7, 9] (by decide +kernel) rfl
        refine va_callv (va_runV (As := [.ref jaT]) (rest := []) ⟨hx, hb, hml, hown, hts⟩ (qAD l dC dI cyB cyI cyJ cyP jiq jaT jbb jih H.size (jbr) (jhD) (jfc) jbQ jkV jk1 hw) (cwV 1 hts gX10_image_X5_push rfl rfl rfl (by decide +kernel) ⟨nbq rfl, nbq rfl⟩) ⟨qab, va_recv (q := (RX5, TX5, 2)) hK hPc (ci := 5) (q0 := 0) rfl rfl, qae hPc hK hDc hNw⟩ rfl rfl hl.1 rfl (lv_room (nbq rfl)) (qaa qai 5 rfl) ⟨nbq rfl, nbq rfl⟩) hS (fun q _ h => hFc q h) hFc (fun u t H1 locs ht hvm hw hB hz1 hk1 hS => ?_)
        obtain ⟨f33, x34⟩ := u
        obtain ⟨hP1, hK1, hD1⟩ := hB
        rw [ht] at hP1
        obtain ⟨hP, hD⟩ := qad (wr := (qam2 a0 jaK jfP ja1 jcp jbc jbV ja3 jbH jaT jbO jeG jjk jbI jbl jbn jkc jaa jbA jdD jjk cyP (qgi jik jiq jiD) jik jig jk0 jeG jhF jje jhF cyI jkH jig cyI jkU jiD jii x28 jii cyI f27)) (w1 := (qrR jiq jih x34 jaT jbb jbr jhD jfc jbb cyI jbQ jih cyI f33)) (wn := (qoI a0 jaK jfP ja1 jcp jbc jbV ja3 jbH jaT jbO jeG jjk jbI jbl jbn jkc jaa jbA jdD jjk cyP (qgi jik jiq jiD) jik jig jk0 jeG jhF jje jhF cyI jkH jig cyI jkU jaT jbb jbr jhD jfc jbb cyI jbQ jiq jih x34 jih cyI f33 jiD jii x28 jii cyI f27)) hP hD [8, 6, 7, 9] [0, 1, 2, 3, 4, 5, 10, 11] [0, 1, 2, 3, 4, 5, 9, 10, 8, 11, 6, 7] hCc rfl (by decide +kernel) (by decide +kernel) (by decide +kernel) rfl hk1 hFc hP1 hD1
        generalize H1 = H at hP hS ⊢
        refine lv_aload_n hx hb (qaa qai 6 rfl) rfl (lv_at hl 0 rfl) ?_
        refine lv_dup hx hb (qaa qai 7 rfl) rfl ?_
        refine va_get (D := (dC, dI)) (ci := 10) (v := .int jkc) (C := RX10) (T := TX10) (N := 19) hx hb hts qaw hown hK hP 0 rfl rfl 15 (by decide) (hts _ qa8) (fun _ h9 => h9) rfl (qaa qai 8 rfl) ?_
        refine lv_iconst (v := 1) hx hb (qaa qai 9 rfl) (by decide) ?_
        refine lv_iadd hx hb (qaa qai 10 rfl) ?_
        refine lv_topi (fun x35 ex35 => ?_)
        have hw := hw x35 ex35
        refine va_put (D := (dC, dI)) (ci := 10) (v := .int x35) (ty := .int) (C := RX10) (T := TX10) (N := 19) hx hb hts qaw tyX10 tyX10_ok nmX10 hown hK hP hD hS 0 rfl rfl 15 (by decide) (hts _ qa8) (fun _ h9 => h9) rfl (by decide +kernel) rfl rfl (nbq rfl) (qaa qai 11 rfl) (fun H locs hP hD hS => ?_)
        have hP : va_P (dC, dI) vwCl (qoI a0 jaK jfP ja1 jcp jbc jbV ja3 jbH jaT jbO jeG jjk jbI jbl jbn x35 jaa jbA jdD jjk cyP (qgi jik jiq jiD) jik jig jk0 jeG jhF jje jhF cyI jkH jig cyI jkU jaT jbb jbr jhD jfc jbb cyI jbQ jiq jih x34 jih cyI f33 jiD jii x28 jii cyI f27) H := hP
        have hD : va_D A (qoI a0 jaK jfP ja1 jcp jbc jbV ja3 jbH jaT jbO jeG jjk jbI jbl jbn x35 jaa jbA jdD jjk cyP (qgi jik jiq jiD) jik jig jk0 jeG jhF jje jhF cyI jkH jig cyI jkU jaT jbb jbr jhD jfc jbb cyI jbQ jiq jih x34 jih cyI f33 jiD jii x28 jii cyI f27) := hD
        refine lv_aload_n hx hb (qaa qai 12 rfl) rfl (lv_at hl 0 rfl) ?_
        refine va_get (D := (dC, dI)) (ci := 10) (v := .int x35) (C := RX10) (T := TX10) (N := 19) hx hb hts qaw hown hK hP 0 rfl rfl 15 (by decide) (hts _ qa8) (fun _ h9 => h9) rfl (qaa qai 13 rfl) ?_
        exact ((W.iret (v := x35) hx hb hr (fun t ht hW => ⟨⟨x35, (jkU, jk0, x35, f33, x34, f27, x28), rfl, hw, by rw [ht]; exact hP, va_K.moved hW.alike hK, hD⟩, hS.F ht⟩) hS.2.2 (qaa qai 14 rfl)))
      · have hw := hw.2.2 c29
        rw [show va_rf (qgi jik jiq jiD jkc.toNatClampNeg) = .ref jiD from by rw [c29]; rfl]
        refine lv_aload_n hx hb (qaa qai 3 rfl) rfl (lv_at hl 0 rfl) ?_
        refine va_get (D := (dC, dI)) (ci := 10) (v := .ref jaT) (C := RX10) (T := TX10) (N := 19) hx hb hts qaw hown hK hP 0 rfl rfl 8 (by decide) (hts _ qqV) (fun _ h9 => h9) rfl (qaa qai 4 rfl) ?_
        obtain ⟨hCc, hPc, hDc, hFc⟩ := qac (ws' := (qrR jiD jii x28 jaT jbb jbr jhD jfc jbb cyI jbQ jii cyI f27)) hP hD hS hA [10, 6, 7, 11] (by decide +kernel) rfl
        refine va_callv (va_runV (As := [.ref jaT]) (rest := []) ⟨hx, hb, hml, hown, hts⟩ (qAD l dC dI cyB cyI cyJ cyP jiD jaT jbb jii H.size (jbr) (jhD) (jfc) jbQ f27 x28 hw) (cwV 1 hts gX10_image_X5_push rfl rfl rfl (by decide +kernel) ⟨nbq rfl, nbq rfl⟩) ⟨qab, va_recv (q := (RX5, TX5, 2)) hK hPc (ci := 5) (q0 := 0) rfl rfl, qae hPc hK hDc hNw⟩ rfl rfl hl.1 rfl (lv_room (nbq rfl)) (qaa qai 5 rfl) ⟨nbq rfl, nbq rfl⟩) hS (fun q _ h => hFc q h) hFc (fun u t H1 locs ht hvm hw hB hz1 hk1 hS => ?_)
        obtain ⟨f36, x37⟩ := u
        obtain ⟨hP1, hK1, hD1⟩ := hB
        rw [ht] at hP1
        obtain ⟨hP, hD⟩ := qad (wr := (qam2 a0 jaK jfP ja1 jcp jbc jbV ja3 jbH jaT jbO jeG jjk jbI jbl jbn jkc jaa jbA jdD jjk cyP (qgi jik jiq jiD) jik jig jk0 jeG jhF jje jhF cyI jkH jig cyI jkU jiq jih jk1 jih cyI jkV)) (w1 := (qrR jiD jii x37 jaT jbb jbr jhD jfc jbb cyI jbQ jii cyI f36)) (wn := (qoI a0 jaK jfP ja1 jcp jbc jbV ja3 jbH jaT jbO jeG jjk jbI jbl jbn jkc jaa jbA jdD jjk cyP (qgi jik jiq jiD) jik jig jk0 jeG jhF jje jhF cyI jkH jig cyI jkU jaT jbb jbr jhD jfc jbb cyI jbQ jiq jih jk1 jih cyI jkV jiD jii x37 jii cyI f36)) hP hD [10, 6, 7, 11] [0, 1, 2, 3, 4, 5, 8, 9] [0, 1, 2, 3, 4, 5, 9, 10, 6, 7, 8, 11] hCc rfl (by decide +kernel) (by decide +kernel) (by decide +kernel) rfl hk1 hFc hP1 hD1
        generalize H1 = H at hP hS ⊢
        refine lv_aload_n hx hb (qaa qai 6 rfl) rfl (lv_at hl 0 rfl) ?_
        refine lv_dup hx hb (qaa qai 7 rfl) rfl ?_
        refine va_get (D := (dC, dI)) (ci := 10) (v := .int jkc) (C := RX10) (T := TX10) (N := 19) hx hb hts qaw hown hK hP 0 rfl rfl 15 (by decide) (hts _ qa8) (fun _ h9 => h9) rfl (qaa qai 8 rfl) ?_
        refine lv_iconst (v := 1) hx hb (qaa qai 9 rfl) (by decide) ?_
        refine lv_iadd hx hb (qaa qai 10 rfl) ?_
        refine lv_topi (fun x38 ex38 => ?_)
        have hw := hw x38 ex38
        refine va_put (D := (dC, dI)) (ci := 10) (v := .int x38) (ty := .int) (C := RX10) (T := TX10) (N := 19) hx hb hts qaw tyX10 tyX10_ok nmX10 hown hK hP hD hS 0 rfl rfl 15 (by decide) (hts _ qa8) (fun _ h9 => h9) rfl (by decide +kernel) rfl rfl (nbq rfl) (qaa qai 11 rfl) (fun H locs hP hD hS => ?_)
        have hP : va_P (dC, dI) vwCl (qoI a0 jaK jfP ja1 jcp jbc jbV ja3 jbH jaT jbO jeG jjk jbI jbl jbn x38 jaa jbA jdD jjk cyP (qgi jik jiq jiD) jik jig jk0 jeG jhF jje jhF cyI jkH jig cyI jkU jaT jbb jbr jhD jfc jbb cyI jbQ jiq jih jk1 jih cyI jkV jiD jii x37 jii cyI f36) H := hP
        have hD : va_D A (qoI a0 jaK jfP ja1 jcp jbc jbV ja3 jbH jaT jbO jeG jjk jbI jbl jbn x38 jaa jbA jdD jjk cyP (qgi jik jiq jiD) jik jig jk0 jeG jhF jje jhF cyI jkH jig cyI jkU jaT jbb jbr jhD jfc jbb cyI jbQ jiq jih jk1 jih cyI jkV jiD jii x37 jii cyI f36) := hD
        refine lv_aload_n hx hb (qaa qai 12 rfl) rfl (lv_at hl 0 rfl) ?_
        refine va_get (D := (dC, dI)) (ci := 10) (v := .int x38) (C := RX10) (T := TX10) (N := 19) hx hb hts qaw hown hK hP 0 rfl rfl 15 (by decide) (hts _ qa8) (fun _ h9 => h9) rfl (qaa qai 13 rfl) ?_
        exact ((W.iret (v := x38) hx hb hr (fun t ht hW => ⟨⟨x38, (jkU, jk0, x38, jkV, jk1, f36, x37), rfl, hw, by rw [ht]; exact hP, va_K.moved hW.alike hK, hD⟩, hS.F ht⟩) hS.2.2 (qaa qai 14 rfl)))
  · have hw := hw.2 c1
    refine lv_iconst (v := (-1)) hx hb (qaa qcg 4 rfl) (by decide) ?_
    exact ((W.iret (v := (-1)) hx hb hr (fun t ht hW => ⟨⟨(-1), (jkU, jk0, jkc, jkV, jk1, jkW, jk2), rfl, hw, by rw [ht]; exact hP, va_K.moved hW.alike hK, hD⟩, hS.F ht⟩) hS.2.2 (qaa qcg 5 rfl)))
theorem qaee : ∀ w ∈ u_ws RX8 TX8 7, w ∈ wsX8_init := uiM qP8 euX8 (by decide +kernel)
theorem qakq : (.arrayClass .byte : Cond) ∈ wsX8_init := qP8 141 (by decide +kernel)
theorem qaA5 : (.code objectInit ⟨#[0xb1]⟩ 1 none : Cond) ∈ wsX8_init := qP8 12 (by decide +kernel)
theorem qaGW : (.fieldLink RX8 11 "MarchHares$Tape" "bytes" "[B" : Cond) ∈ wsX8_init := qP8 142 (by decide +kernel)
theorem qaIN : (.fieldLink RX8 15 "MarchHares$Tape" "faultPlace" "I" : Cond) ∈ wsX8_init := qP8 143 (by decide +kernel)
theorem qatI : (.instanceMethod objectInit : Cond) ∈ wsX8_init := qP8 11 (by decide +kernel)
theorem qaMy : (.methodLink RX8 3 objectInit : Cond) ∈ wsX8_init := qP8 140 (by decide +kernel)
set_option maxHeartbeats 4000000 in
set_option maxRecDepth 100000 in
theorem qa18 (l : Launch) (dC : Nat → ClassId) (dI : Nat → Nat → Nat) (cyB cyI cyJ cyP : ClassId) (a0 sz : Nat) {Q : Prop} (hw : qaLD Q) : Met l yX8_init wsX8_init ({ frames := 1, cells := 1, slots := 600, locals := 24 }) (va_Pc [.ref a0] (cPc (dC, dI) (kT cyB cyI cyJ cyP) (qaiM a0 0 0 0 0 0 0) sz)) (va_Qv (fun (u : (Nat → Nat)) => Q ) (cB (dC, dI) (kT cyB cyI cyJ cyP) (va_A (qaiM a0 0 0 0 0 0 0) sz) (fun u : (Nat → Nat) => ((qaBR a0 (u 0) 0 0 0 0 0 (-1) (u 0) cyB (fun _ => 0)) : va_W))) (va_A (qaiM a0 0 0 0 0 0 0) sz)) 1 600 (va_A (qaiM a0 0 0 0 0 0 0) sz) := by
  refine Met.ofW (cc := cX8_init) (maxL := 1) (ret := none) (by decide) rfl ?_
  intro p e s m args below meth c s₁ B hml hv
  obtain ⟨rfl, hsz, hP, hK, hD0, hNw⟩ := hv
  have hx := B.exec
  have hb := B.bytes
  have hr := B.returns
  have hts := atoms_spec (ws := wsX8_init) B.pre
  have hown : s.vm.findClass RX8 = some m.cls := findClass_of_methodNamed B.named
  have hlocks := B.notSynchronized
  have hin : meth.name = "<init>" := (name_of_methodNamed B.named B.method).1
  subst hsz
  have hD := hD0.self (sz := s.heap.size)
  generalize hAe : va_A (qaiM a0 0 0 0 0 0 0) s.heap.size = A at hD ⊢
  have hA : ∀ q : Nat, s.heap.size ≤ q → A q := fun q h => by rw [← hAe]; exact Or.inr h
  have hS : va_S A s.heap s.heap [] := va_S.rf
  have hP : va_P (dC, dI) vwCl (qaiM a0 0 0 0 0 0 0) s.heap := hP
  have hl := lv_entry ([.ref a0]) (n := 1) (nbq rfl)
  rw [lg_entry_eq]
  generalize (lg_sl ([.ref a0]) ++ List.replicate (1 - (lg_sl ([.ref a0])).length) Slot.unset).toArray = ls at hl ⊢
  have hl : lv_has ls 1 [(0, .ref a0)] := hl
  clear hAe
  obtain ⟨H, hH⟩ : ∃ H, H = s.heap := ⟨_, rfl⟩
  rw [← hH] at hP ⊢
  have hS : va_S A s.heap H [] := by rw [hH]; exact va_S.rf
  refine lv_aload_n hx hb (qaa qSB 0 rfl) rfl (lv_at hl 0 rfl) ?_
  refine W.objInit hx hb hown (hts _ qaMy) (hts _ qatI) (hts _ qaA5) rfl (by rw [hml]; exact hl.1) rfl (qaa qSB 1 rfl) (nbq rfl) (nbq rfl) ?_
  refine W.eq (g2 := F0 m 4 ls []) rfl ?_
  refine lv_aload_n hx hb (qaa qSB 2 rfl) rfl (lv_at hl 0 rfl) ?_
  refine lv_sipush (v := 600) hx hb (qaa qSB 3 rfl) (by decide) ?_
  refine va_newa (atype := .byte) (ty := .byte) (N' := 600) (a0 := (600, .inl (fun _ => 0))) hx hb (hts _ qakq) rfl hK hP hD hS hA (fun _ => rfl) (by decide) (by decide) (by decide) (nbq rfl) (nbq rfl) dX8_init_8 (fun jif cA9 H hK9 hP hD hS => ?_)
  obtain rfl := qbg5 hK9
  have hP : va_P (dC, dI) vwCl (qa8A a0 0 0 0 0 0 0 jif cyB (fun _ => 0)) H := hP
  have hD : va_D A (qa8A a0 0 0 0 0 0 0 jif cyB (fun _ => 0)) := hD
  refine va_putF (D := (dC, dI)) (ci := 8) (v := .ref jif) (ty := .array .byte) (C := RX8) (T := TX8) (N := 7) hx hb hts qaee tyX8 tyX8_ok nmX8 hown hK hP hD hS 0 rfl rfl 0 (by decide) (hts _ qaGW) (fun _ h9 => h9) rfl hin rfl (by decide +kernel) rfl rfl (nbq rfl) (qaa qIp 0 rfl) (fun H locs hP hD hS => ?_)
  have hP : va_P (dC, dI) vwCl (qaBR a0 jif 0 0 0 0 0 0 jif cyB (fun _ => 0)) H := hP
  have hD : va_D A (qaBR a0 jif 0 0 0 0 0 0 jif cyB (fun _ => 0)) := hD
  refine lv_aload_n hx hb (qaa qIp 1 rfl) rfl (lv_at hl 0 rfl) ?_
  refine lv_iconst (v := (-1)) hx hb (qaa qIp 2 rfl) (by decide) ?_
  refine va_put (D := (dC, dI)) (ci := 8) (v := .int (-1)) (ty := .int) (C := RX8) (T := TX8) (N := 7) hx hb hts qaee tyX8 tyX8_ok nmX8 hown hK hP hD hS 0 rfl rfl 6 (by decide) (hts _ qaIN) (fun _ h9 => h9) rfl (by decide +kernel) rfl rfl (nbq rfl) (qaa qIp 3 rfl) (fun H locs hP hD hS => ?_)
  have hP : va_P (dC, dI) vwCl (qaBR a0 jif 0 0 0 0 0 (-1) jif cyB (fun _ => 0)) H := hP
  have hD : va_D A (qaBR a0 jif 0 0 0 0 0 (-1) jif cyB (fun _ => 0)) := hD
  exact (W.widen (k := 1) (n := 600) (nbq rfl) (nbq rfl) (W.vret hx hb hr (fun t ht hW => ⟨⟨(adr [jif]), rfl, hw, by rw [ht]; exact hP, va_K.moved hW.alike hK, hD⟩, hS.F ht⟩) hS.2.2 (qaa qIp 4 rfl)))
theorem qxv : ∀ w ∈ u_ws RX2 TX2 12, w ∈ wsX2_init := uiM qym qLg (by decide +kernel)
theorem qsC : (.arrayClass .int : Cond) ∈ wsX2_init := qym 147 (by decide +kernel)
theorem qaD4 : (.code objectInit ⟨#[0xb1]⟩ 1 none : Cond) ∈ wsX2_init := qym 12 (by decide +kernel)
theorem qaF7 : (.fieldLink RX2 15 "MarchHares$Down" "formY" "[I" : Cond) ∈ wsX2_init := qym 149 (by decide +kernel)
theorem qaEB : (.fieldLink RX2 18 "MarchHares$Down" "foxX" "[I" : Cond) ∈ wsX2_init := qym 150 (by decide +kernel)
theorem qaGN : (.fieldLink RX2 21 "MarchHares$Down" "foxY" "[I" : Cond) ∈ wsX2_init := qym 151 (by decide +kernel)
theorem qaEM : (.fieldLink RX2 24 "MarchHares$Down" "seat" "[I" : Cond) ∈ wsX2_init := qym 192 (by decide +kernel)
theorem qaIm : (.fieldLink RX2 27 "MarchHares$Down" "strength" "[I" : Cond) ∈ wsX2_init := qym 193 (by decide +kernel)
theorem qaIh : (.fieldLink RX2 30 "MarchHares$Down" "debts" "[I" : Cond) ∈ wsX2_init := qym 194 (by decide +kernel)
theorem qaKZ : (.fieldLink RX2 33 "MarchHares$Down" "near" "[I" : Cond) ∈ wsX2_init := qym 195 (by decide +kernel)
theorem qaPW : (.fieldLink RX2 9 "MarchHares$Down" "formX" "[I" : Cond) ∈ wsX2_init := qym 148 (by decide +kernel)
theorem qasF : (.instanceMethod objectInit : Cond) ∈ wsX2_init := qym 11 (by decide +kernel)
theorem qaMG : (.methodLink RX2 3 objectInit : Cond) ∈ wsX2_init := qym 146 (by decide +kernel)
set_option maxHeartbeats 4000000 in
set_option maxRecDepth 100000 in
theorem qaLE (l : Launch) (dC : Nat → ClassId) (dI : Nat → Nat → Nat) (cyB cyI cyJ cyP : ClassId) (a0 sz : Nat) {Q : Prop} (hw : qane Q) : Met l yX2_init wsX2_init ({ frames := 1, cells := 8, slots := 80, locals := 24 }) (va_Pc [.ref a0] (cPc (dC, dI) (kT cyB cyI cyJ cyP) (qaip a0 0 0 0 0) sz)) (va_Qv (fun (u : (Nat → Nat)) => Q ) (cB (dC, dI) (kT cyB cyI cyJ cyP) (va_A (qaip a0 0 0 0 0) sz) (fun u : (Nat → Nat) => ((qaYa a0 (u 0) (u 1) (u 2) (u 3) (u 4) (u 5) (u 6) (u 7) 0 0 0 0 (u 0) cyI (fun _ => 0) (u 1) cyI (fun _ => 0) (u 2) cyI (fun _ => 0) (u 3) cyI (fun _ => 0) (u 4) cyI (fun _ => 0) (u 5) cyI (fun _ => 0) (u 6) cyI (fun _ => 0) (u 7) cyI (fun _ => 0)) : va_W))) (va_A (qaip a0 0 0 0 0) sz)) 8 80 (va_A (qaip a0 0 0 0 0) sz) := by
  refine Met.ofW (cc := cX2_init) (maxL := 1) (ret := none) (by decide) rfl ?_
  intro p e s m args below meth c s₁ B hml hv
  obtain ⟨rfl, hsz, hP, hK, hD0, hNw⟩ := hv
  have hx := B.exec
  have hb := B.bytes
  have hr := B.returns
  have hts := atoms_spec (ws := wsX2_init) B.pre
  have hown : s.vm.findClass RX2 = some m.cls := findClass_of_methodNamed B.named
  have hlocks := B.notSynchronized
  have hin : meth.name = "<init>" := (name_of_methodNamed B.named B.method).1
  subst hsz
  have hD := hD0.self (sz := s.heap.size)
  generalize hAe : va_A (qaip a0 0 0 0 0) s.heap.size = A at hD ⊢
  have hA : ∀ q : Nat, s.heap.size ≤ q → A q := fun q h => by rw [← hAe]; exact Or.inr h
  have hS : va_S A s.heap s.heap [] := va_S.rf
  have hP : va_P (dC, dI) vwCl (qaip a0 0 0 0 0) s.heap := hP
  have hl := lv_entry ([.ref a0]) (n := 1) (nbq rfl)
  rw [lg_entry_eq]
  generalize (lg_sl ([.ref a0]) ++ List.replicate (1 - (lg_sl ([.ref a0])).length) Slot.unset).toArray = ls at hl ⊢
  have hl : lv_has ls 1 [(0, .ref a0)] := hl
  clear hAe
  obtain ⟨H, hH⟩ : ∃ H, H = s.heap := ⟨_, rfl⟩
  rw [← hH] at hP ⊢
  have hS : va_S A s.heap H [] := by rw [hH]; exact va_S.rf
  refine lv_aload_n hx hb (qaa qR2 0 rfl) rfl (lv_at hl 0 rfl) ?_
  refine W.objInit hx hb hown (hts _ qaMG) (hts _ qasF) (hts _ qaD4) rfl (by rw [hml]; exact hl.1) rfl (qaa qR2 1 rfl) (nbq rfl) (nbq rfl) ?_
  refine W.eq (g2 := F0 m 4 ls []) rfl ?_
  refine lv_aload_n hx hb (qaa qR2 2 rfl) rfl (lv_at hl 0 rfl) ?_
  refine lv_bipush (v := 8) hx hb (qaa qR2 3 rfl) (by decide) ?_
  refine va_newa (atype := .int) (ty := .int) (N' := 8) (a0 := (8, .inl (fun _ => 0))) hx hb (hts _ qsC) rfl hK hP hD hS hA (fun _ => rfl) (by decide) (by decide) (by decide) (nbq rfl) (nbq rfl) dX2_init_7 (fun jha cA9 H hK9 hP hD hS => ?_)
  obtain rfl := qkQ hK9
  have hP : va_P (dC, dI) vwCl (qa4k a0 0 0 0 0 jha cyI (fun _ => 0)) H := hP
  have hD : va_D A (qa4k a0 0 0 0 0 jha cyI (fun _ => 0)) := hD
  refine va_putF (D := (dC, dI)) (ci := 2) (v := .ref jha) (ty := .array .int) (C := RX2) (T := TX2) (N := 12) hx hb hts qxv tyX2 tyX2_ok nmX2 hown hK hP hD hS 0 rfl rfl 0 (by decide) (hts _ qaPW) (fun _ h9 => h9) rfl hin rfl (by decide +kernel) rfl rfl (nbq rfl) (qaa q4J 0 rfl) (fun H locs hP hD hS => ?_)
  have hP : va_P (dC, dI) vwCl (qa5t a0 jha 0 0 0 0 jha cyI (fun _ => 0)) H := hP
  have hD : va_D A (qa5t a0 jha 0 0 0 0 jha cyI (fun _ => 0)) := hD
  refine lv_aload_n hx hb (qaa q4J 1 rfl) rfl (lv_at hl 0 rfl) ?_
  refine lv_bipush (v := 8) hx hb (qaa q4J 2 rfl) (by decide) ?_
  refine va_newa (atype := .int) (ty := .int) (N' := 8) (a0 := (8, .inl (fun _ => 0))) hx hb (hts _ qsC) rfl hK hP hD hS hA (fun _ => rfl) (by decide) (by decide) (by decide) (nbq rfl) (nbq rfl) dX2_init_15 (fun jhi cA9 H hK9 hP hD hS => ?_)
  obtain rfl := qkQ hK9
  have hP : va_P (dC, dI) vwCl (qa8I a0 jha 0 0 0 0 jha cyI (fun _ => 0) jhi cyI (fun _ => 0)) H := hP
  have hD : va_D A (qa8I a0 jha 0 0 0 0 jha cyI (fun _ => 0) jhi cyI (fun _ => 0)) := hD
  refine va_putF (D := (dC, dI)) (ci := 2) (v := .ref jhi) (ty := .array .int) (C := RX2) (T := TX2) (N := 12) hx hb hts qxv tyX2 tyX2_ok nmX2 hown hK hP hD hS 0 rfl rfl 1 (by decide) (hts _ qaF7) (fun _ h9 => h9) rfl hin rfl (by decide +kernel) rfl rfl (nbq rfl) (qaa qXp 0 rfl) (fun H locs hP hD hS => ?_)
  have hP : va_P (dC, dI) vwCl (qa4Z a0 jha jhi 0 0 0 0 jha cyI (fun _ => 0) jhi cyI (fun _ => 0)) H := hP
  have hD : va_D A (qa4Z a0 jha jhi 0 0 0 0 jha cyI (fun _ => 0) jhi cyI (fun _ => 0)) := hD
  refine lv_aload_n hx hb (qaa qXp 1 rfl) rfl (lv_at hl 0 rfl) ?_
  refine lv_iconst (v := 4) hx hb (qaa qXp 2 rfl) (by decide) ?_
  refine va_newa (atype := .int) (ty := .int) (N' := 4) (a0 := (4, .inl (fun _ => 0))) hx hb (hts _ qsC) rfl hK hP hD hS hA (fun _ => rfl) (by decide) (by decide) (by decide) (nbq rfl) (nbq rfl) dX2_init_22 (fun jjQ cA9 H hK9 hP hD hS => ?_)
  obtain rfl := qkQ hK9
  have hP : va_P (dC, dI) vwCl (qa3j a0 jha jhi 0 0 0 0 jha cyI (fun _ => 0) jhi cyI (fun _ => 0) jjQ cyI (fun _ => 0)) H := hP
  have hD : va_D A (qa3j a0 jha jhi 0 0 0 0 jha cyI (fun _ => 0) jhi cyI (fun _ => 0) jjQ cyI (fun _ => 0)) := hD
  refine va_putF (D := (dC, dI)) (ci := 2) (v := .ref jjQ) (ty := .array .int) (C := RX2) (T := TX2) (N := 12) hx hb hts qxv tyX2 tyX2_ok nmX2 hown hK hP hD hS 0 rfl rfl 2 (by decide) (hts _ qaEB) (fun _ h9 => h9) rfl hin rfl (by decide +kernel) rfl rfl (nbq rfl) (qaa qYi 0 rfl) (fun H locs hP hD hS => ?_)
  have hP : va_P (dC, dI) vwCl (qa8f a0 jha jhi jjQ 0 0 0 0 jha cyI (fun _ => 0) jhi cyI (fun _ => 0) jjQ cyI (fun _ => 0)) H := hP
  have hD : va_D A (qa8f a0 jha jhi jjQ 0 0 0 0 jha cyI (fun _ => 0) jhi cyI (fun _ => 0) jjQ cyI (fun _ => 0)) := hD
  refine lv_aload_n hx hb (qaa qYi 1 rfl) rfl (lv_at hl 0 rfl) ?_
  refine lv_iconst (v := 4) hx hb (qaa qYi 2 rfl) (by decide) ?_
  refine va_newa (atype := .int) (ty := .int) (N' := 4) (a0 := (4, .inl (fun _ => 0))) hx hb (hts _ qsC) rfl hK hP hD hS hA (fun _ => rfl) (by decide) (by decide) (by decide) (nbq rfl) (nbq rfl) dX2_init_29 (fun jjU cA9 H hK9 hP hD hS => ?_)
  obtain rfl := qkQ hK9
  have hP : va_P (dC, dI) vwCl (qa6Z a0 jha jhi jjQ 0 0 0 0 jha cyI (fun _ => 0) jhi cyI (fun _ => 0) jjQ cyI (fun _ => 0) jjU cyI (fun _ => 0)) H := hP
  have hD : va_D A (qa6Z a0 jha jhi jjQ 0 0 0 0 jha cyI (fun _ => 0) jhi cyI (fun _ => 0) jjQ cyI (fun _ => 0) jjU cyI (fun _ => 0)) := hD
  refine va_putF (D := (dC, dI)) (ci := 2) (v := .ref jjU) (ty := .array .int) (C := RX2) (T := TX2) (N := 12) hx hb hts qxv tyX2 tyX2_ok nmX2 hown hK hP hD hS 0 rfl rfl 3 (by decide) (hts _ qaGN) (fun _ h9 => h9) rfl hin rfl (by decide +kernel) rfl rfl (nbq rfl) (qaa qXx 0 rfl) (fun H locs hP hD hS => ?_)
  have hP : va_P (dC, dI) vwCl (qa3S a0 jha jhi jjQ jjU 0 0 0 0 jha cyI (fun _ => 0) jhi cyI (fun _ => 0) jjQ cyI (fun _ => 0) jjU cyI (fun _ => 0)) H := hP
  have hD : va_D A (qa3S a0 jha jhi jjQ jjU 0 0 0 0 jha cyI (fun _ => 0) jhi cyI (fun _ => 0) jjQ cyI (fun _ => 0) jjU cyI (fun _ => 0)) := hD
  refine lv_aload_n hx hb (qaa qXx 1 rfl) rfl (lv_at hl 0 rfl) ?_
  refine lv_bipush (v := 6) hx hb (qaa qXx 2 rfl) (by decide) ?_
  refine va_newa (atype := .int) (ty := .int) (N' := 6) (a0 := (6, .inl (fun _ => 0))) hx hb (hts _ qsC) rfl hK hP hD hS hA (fun _ => rfl) (by decide) (by decide) (by decide) (nbq rfl) (nbq rfl) dX2_init_37 (fun jla cA9 H hK9 hP hD hS => ?_)
  obtain rfl := qkQ hK9
  have hP : va_P (dC, dI) vwCl (qa35 a0 jha jhi jjQ jjU 0 0 0 0 jha cyI (fun _ => 0) jhi cyI (fun _ => 0) jjQ cyI (fun _ => 0) jjU cyI (fun _ => 0) jla cyI (fun _ => 0)) H := hP
  have hD : va_D A (qa35 a0 jha jhi jjQ jjU 0 0 0 0 jha cyI (fun _ => 0) jhi cyI (fun _ => 0) jjQ cyI (fun _ => 0) jjU cyI (fun _ => 0) jla cyI (fun _ => 0)) := hD
  refine va_putF (D := (dC, dI)) (ci := 2) (v := .ref jla) (ty := .array .int) (C := RX2) (T := TX2) (N := 12) hx hb hts qxv tyX2 tyX2_ok nmX2 hown hK hP hD hS 0 rfl rfl 4 (by decide) (hts _ qaEM) (fun _ h9 => h9) rfl hin rfl (by decide +kernel) rfl rfl (nbq rfl) (qaa qW2 0 rfl) (fun H locs hP hD hS => ?_)
  have hP : va_P (dC, dI) vwCl (qa5k a0 jha jhi jjQ jjU jla 0 0 0 0 jha cyI (fun _ => 0) jhi cyI (fun _ => 0) jjQ cyI (fun _ => 0) jjU cyI (fun _ => 0) jla cyI (fun _ => 0)) H := hP
  have hD : va_D A (qa5k a0 jha jhi jjQ jjU jla 0 0 0 0 jha cyI (fun _ => 0) jhi cyI (fun _ => 0) jjQ cyI (fun _ => 0) jjU cyI (fun _ => 0) jla cyI (fun _ => 0)) := hD
  refine lv_aload_n hx hb (qaa qW2 1 rfl) rfl (lv_at hl 0 rfl) ?_
  refine lv_bipush (v := 6) hx hb (qaa qW2 2 rfl) (by decide) ?_
  refine va_newa (atype := .int) (ty := .int) (N' := 6) (a0 := (6, .inl (fun _ => 0))) hx hb (hts _ qsC) rfl hK hP hD hS hA (fun _ => rfl) (by decide) (by decide) (by decide) (nbq rfl) (nbq rfl) dX2_init_45 (fun jjy cA9 H hK9 hP hD hS => ?_)
  obtain rfl := qkQ hK9
  have hP : va_P (dC, dI) vwCl (qa7e a0 jha jhi jjQ jjU jla 0 0 0 0 jha cyI (fun _ => 0) jhi cyI (fun _ => 0) jjQ cyI (fun _ => 0) jjU cyI (fun _ => 0) jla cyI (fun _ => 0) jjy cyI (fun _ => 0)) H := hP
  have hD : va_D A (qa7e a0 jha jhi jjQ jjU jla 0 0 0 0 jha cyI (fun _ => 0) jhi cyI (fun _ => 0) jjQ cyI (fun _ => 0) jjU cyI (fun _ => 0) jla cyI (fun _ => 0) jjy cyI (fun _ => 0)) := hD
  refine va_putF (D := (dC, dI)) (ci := 2) (v := .ref jjy) (ty := .array .int) (C := RX2) (T := TX2) (N := 12) hx hb hts qxv tyX2 tyX2_ok nmX2 hown hK hP hD hS 0 rfl rfl 5 (by decide) (hts _ qaIm) (fun _ h9 => h9) rfl hin rfl (by decide +kernel) rfl rfl (nbq rfl) (qaa qWV 0 rfl) (fun H locs hP hD hS => ?_)
  have hP : va_P (dC, dI) vwCl (qa3F a0 jha jhi jjQ jjU jla jjy 0 0 0 0 jha cyI (fun _ => 0) jhi cyI (fun _ => 0) jjQ cyI (fun _ => 0) jjU cyI (fun _ => 0) jla cyI (fun _ => 0) jjy cyI (fun _ => 0)) H := hP
  have hD : va_D A (qa3F a0 jha jhi jjQ jjU jla jjy 0 0 0 0 jha cyI (fun _ => 0) jhi cyI (fun _ => 0) jjQ cyI (fun _ => 0) jjU cyI (fun _ => 0) jla cyI (fun _ => 0) jjy cyI (fun _ => 0)) := hD
  refine lv_aload_n hx hb (qaa qWV 1 rfl) rfl (lv_at hl 0 rfl) ?_
  refine lv_bipush (v := 36) hx hb (qaa qWV 2 rfl) (by decide) ?_
  refine va_newa (atype := .int) (ty := .int) (N' := 36) (a0 := (36, .inl (fun _ => 0))) hx hb (hts _ qsC) rfl hK hP hD hS hA (fun _ => rfl) (by decide) (by decide) (by decide) (nbq rfl) (nbq rfl) dX2_init_53 (fun jkT cA9 H hK9 hP hD hS => ?_)
  obtain rfl := qkQ hK9
  have hP : va_P (dC, dI) vwCl (qa5B a0 jha jhi jjQ jjU jla jjy 0 0 0 0 jha cyI (fun _ => 0) jhi cyI (fun _ => 0) jjQ cyI (fun _ => 0) jjU cyI (fun _ => 0) jla cyI (fun _ => 0) jjy cyI (fun _ => 0) jkT cyI (fun _ => 0)) H := hP
  have hD : va_D A (qa5B a0 jha jhi jjQ jjU jla jjy 0 0 0 0 jha cyI (fun _ => 0) jhi cyI (fun _ => 0) jjQ cyI (fun _ => 0) jjU cyI (fun _ => 0) jla cyI (fun _ => 0) jjy cyI (fun _ => 0) jkT cyI (fun _ => 0)) := hD
  refine va_putF (D := (dC, dI)) (ci := 2) (v := .ref jkT) (ty := .array .int) (C := RX2) (T := TX2) (N := 12) hx hb hts qxv tyX2 tyX2_ok nmX2 hown hK hP hD hS 0 rfl rfl 6 (by decide) (hts _ qaIh) (fun _ h9 => h9) rfl hin rfl (by decide +kernel) rfl rfl (nbq rfl) (qaa qYv 0 rfl) (fun H locs hP hD hS => ?_)
  have hP : va_P (dC, dI) vwCl (qa75 a0 jha jhi jjQ jjU jla jjy jkT 0 0 0 0 jha cyI (fun _ => 0) jhi cyI (fun _ => 0) jjQ cyI (fun _ => 0) jjU cyI (fun _ => 0) jla cyI (fun _ => 0) jjy cyI (fun _ => 0) jkT cyI (fun _ => 0)) H := hP
  have hD : va_D A (qa75 a0 jha jhi jjQ jjU jla jjy jkT 0 0 0 0 jha cyI (fun _ => 0) jhi cyI (fun _ => 0) jjQ cyI (fun _ => 0) jjU cyI (fun _ => 0) jla cyI (fun _ => 0) jjy cyI (fun _ => 0) jkT cyI (fun _ => 0)) := hD
  refine lv_aload_n hx hb (qaa qYv 1 rfl) rfl (lv_at hl 0 rfl) ?_
  refine lv_bipush (v := 8) hx hb (qaa qYv 2 rfl) (by decide) ?_
  refine va_newa (atype := .int) (ty := .int) (N' := 8) (a0 := (8, .inl (fun _ => 0))) hx hb (hts _ qsC) rfl hK hP hD hS hA (fun _ => rfl) (by decide) (by decide) (by decide) (nbq rfl) (nbq rfl) dX2_init_61 (fun jmE cA9 H hK9 hP hD hS => ?_)
  obtain rfl := qkQ hK9
  have hP : va_P (dC, dI) vwCl (qbah a0 jha jhi jjQ jjU jla jjy jkT 0 0 0 0 jha cyI (fun _ => 0) jhi cyI (fun _ => 0) jjQ cyI (fun _ => 0) jjU cyI (fun _ => 0) jla cyI (fun _ => 0) jjy cyI (fun _ => 0) jkT cyI (fun _ => 0) jmE cyI (fun _ => 0)) H := hP
  have hD : va_D A (qbah a0 jha jhi jjQ jjU jla jjy jkT 0 0 0 0 jha cyI (fun _ => 0) jhi cyI (fun _ => 0) jjQ cyI (fun _ => 0) jjU cyI (fun _ => 0) jla cyI (fun _ => 0) jjy cyI (fun _ => 0) jkT cyI (fun _ => 0) jmE cyI (fun _ => 0)) := hD
  refine va_putF (D := (dC, dI)) (ci := 2) (v := .ref jmE) (ty := .array .int) (C := RX2) (T := TX2) (N := 12) hx hb hts qxv tyX2 tyX2_ok nmX2 hown hK hP hD hS 0 rfl rfl 7 (by decide) (hts _ qaKZ) (fun _ h9 => h9) rfl hin rfl (by decide +kernel) rfl rfl (nbq rfl) (qaa qaex 0 rfl) (fun H locs hP hD hS => ?_)
  have hP : va_P (dC, dI) vwCl (qaYa a0 jha jhi jjQ jjU jla jjy jkT jmE 0 0 0 0 jha cyI (fun _ => 0) jhi cyI (fun _ => 0) jjQ cyI (fun _ => 0) jjU cyI (fun _ => 0) jla cyI (fun _ => 0) jjy cyI (fun _ => 0) jkT cyI (fun _ => 0) jmE cyI (fun _ => 0)) H := hP
  have hD : va_D A (qaYa a0 jha jhi jjQ jjU jla jjy jkT jmE 0 0 0 0 jha cyI (fun _ => 0) jhi cyI (fun _ => 0) jjQ cyI (fun _ => 0) jjU cyI (fun _ => 0) jla cyI (fun _ => 0) jjy cyI (fun _ => 0) jkT cyI (fun _ => 0) jmE cyI (fun _ => 0)) := hD
  exact (W.widen (k := 8) (n := 80) (nbq rfl) (nbq rfl) (W.vret hx hb hr (fun t ht hW => ⟨⟨(adr [jha, jhi, jjQ, jjU, jla, jjy, jkT, jmE]), rfl, hw, by rw [ht]; exact hP, va_K.moved hW.alike hK, hD⟩, hS.F ht⟩) hS.2.2 (qaa qaex 1 rfl)))
theorem qNY : ∀ w ∈ u_ws RX4 TX4 5, w ∈ wsX4_init := uiM qBQ euX4 (by decide +kernel)
theorem qE2 : (.arrayClass .int : Cond) ∈ wsX4_init := qBQ 147 (by decide +kernel)
theorem qaDz : (.code objectInit ⟨#[0xb1]⟩ 1 none : Cond) ∈ wsX4_init := qBQ 12 (by decide +kernel)
theorem qaHS : (.fieldLink RX4 15 "MarchHares$Law" "values" "[I" : Cond) ∈ wsX4_init := qBQ 201 (by decide +kernel)
theorem qaFK : (.fieldLink RX4 18 "MarchHares$Law" "pile" "[I" : Cond) ∈ wsX4_init := qBQ 202 (by decide +kernel)
theorem qaGL : (.fieldLink RX4 21 "MarchHares$Law" "facts" "[I" : Cond) ∈ wsX4_init := qBQ 203 (by decide +kernel)
theorem qaQE : (.fieldLink RX4 9 "MarchHares$Law" "kinds" "[I" : Cond) ∈ wsX4_init := qBQ 200 (by decide +kernel)
theorem qaq5 : (.instanceMethod objectInit : Cond) ∈ wsX4_init := qBQ 11 (by decide +kernel)
theorem qaPh : (.methodLink RX4 3 objectInit : Cond) ∈ wsX4_init := qBQ 199 (by decide +kernel)
set_option maxHeartbeats 4000000 in
set_option maxRecDepth 100000 in
theorem qaL8 (l : Launch) (dC : Nat → ClassId) (dI : Nat → Nat → Nat) (cyB cyI cyJ cyP : ClassId) (a0 sz : Nat) {Q : Int32 → NI → NI → Prop} (hw : qans Q) : Met l yX4_init wsX4_init ({ frames := 2, cells := 4, slots := 458, locals := 42 }) (va_Pc [.ref a0] (cPc (dC, dI) (kT cyB cyI cyJ cyP) (qak0 a0 0) sz)) (va_Qv (fun (u : (Nat → Nat) × (Int32) × NI × NI) => Q u.2.1 u.2.2.1 u.2.2.2) (cB (dC, dI) (kT cyB cyI cyJ cyP) (va_A (qak0 a0 0) sz) (fun u : (Nat → Nat) × (Int32) × NI × NI => ((qakb a0 (u.1 0) (u.1 1) (u.1 2) (u.1 3) u.2.1 (u.1 0) cyI u.2.2.1 (u.1 1) cyI u.2.2.2 (u.1 2) cyI (fun _ => 0) (u.1 3) cyI (fun _ => 0)) : va_W))) (va_A (qak0 a0 0) sz)) 4 458 (va_A (qak0 a0 0) sz) := by
  refine Met.ofW (cc := cX4_init) (maxL := 1) (ret := none) (by decide) rfl ?_
  intro p e s m args below meth c s₁ B hml hv
  obtain ⟨rfl, hsz, hP, hK, hD0, hNw⟩ := hv
  have hx := B.exec
  have hb := B.bytes
  have hr := B.returns
  have hts := atoms_spec (ws := wsX4_init) B.pre
  have hown : s.vm.findClass RX4 = some m.cls := findClass_of_methodNamed B.named
  have hlocks := B.notSynchronized
  have hin : meth.name = "<init>" := (name_of_methodNamed B.named B.method).1
  subst hsz
  have hD := hD0.self (sz := s.heap.size)
  generalize hAe : va_A (qak0 a0 0) s.heap.size = A at hD ⊢
  have hA : ∀ q : Nat, s.heap.size ≤ q → A q := fun q h => by rw [← hAe]; exact Or.inr h
  have hS : va_S A s.heap s.heap [] := va_S.rf
  have hP : va_P (dC, dI) vwCl (qak0 a0 0) s.heap := hP
  have hl := lv_entry ([.ref a0]) (n := 1) (nbq rfl)
  rw [lg_entry_eq]
  generalize (lg_sl ([.ref a0]) ++ List.replicate (1 - (lg_sl ([.ref a0])).length) Slot.unset).toArray = ls at hl ⊢
  have hl : lv_has ls 1 [(0, .ref a0)] := hl
  clear hAe
  obtain ⟨H, hH⟩ : ∃ H, H = s.heap := ⟨_, rfl⟩
  rw [← hH] at hP ⊢
  have hS : va_S A s.heap H [] := by rw [hH]; exact va_S.rf
  refine lv_aload_n hx hb (qaa qSL 0 rfl) rfl (lv_at hl 0 rfl) ?_
  refine W.objInit hx hb hown (hts _ qaPh) (hts _ qaq5) (hts _ qaDz) rfl (by rw [hml]; exact hl.1) rfl (qaa qSL 1 rfl) (nbq rfl) (nbq rfl) ?_
  refine W.eq (g2 := F0 m 4 ls []) rfl ?_
  refine lv_aload_n hx hb (qaa qSL 2 rfl) rfl (lv_at hl 0 rfl) ?_
  refine lv_sipush (v := 150) hx hb (qaa qSL 3 rfl) (by decide) ?_
  refine va_newa (atype := .int) (ty := .int) (N' := 150) (a0 := (150, .inl (fun _ => 0))) hx hb (hts _ qE2) rfl hK hP hD hS hA (fun _ => rfl) (by decide) (by decide) (by decide) (nbq rfl) (nbq rfl) dX4_init_8 (fun jbU cA9 H hK9 hP hD hS => ?_)
  obtain rfl := qkQ hK9
  have hP : va_P (dC, dI) vwCl (qbai a0 0 jbU cyI (fun _ => 0)) H := hP
  have hD : va_D A (qbai a0 0 jbU cyI (fun _ => 0)) := hD
  refine va_putF (D := (dC, dI)) (ci := 4) (v := .ref jbU) (ty := .array .int) (C := RX4) (T := TX4) (N := 5) hx hb hts qNY tyX4 tyX4_ok nmX4 hown hK hP hD hS 0 rfl rfl 0 (by decide) (hts _ qaQE) (fun _ h9 => h9) rfl hin rfl (by decide +kernel) rfl rfl (nbq rfl) (qaa qX6 0 rfl) (fun H locs hP hD hS => ?_)
  have hP : va_P (dC, dI) vwCl (qa9m a0 jbU 0 jbU cyI (fun _ => 0)) H := hP
  have hD : va_D A (qa9m a0 jbU 0 jbU cyI (fun _ => 0)) := hD
  refine lv_aload_n hx hb (qaa qX6 1 rfl) rfl (lv_at hl 0 rfl) ?_
  refine lv_sipush (v := 150) hx hb (qaa qX6 2 rfl) (by decide) ?_
  refine va_newa (atype := .int) (ty := .int) (N' := 150) (a0 := (150, .inl (fun _ => 0))) hx hb (hts _ qE2) rfl hK hP hD hS hA (fun _ => rfl) (by decide) (by decide) (by decide) (nbq rfl) (nbq rfl) dX4_init_17 (fun jcJ cA9 H hK9 hP hD hS => ?_)
  obtain rfl := qkQ hK9
  have hP : va_P (dC, dI) vwCl (qa6w a0 jbU 0 jbU cyI (fun _ => 0) jcJ cyI (fun _ => 0)) H := hP
  have hD : va_D A (qa6w a0 jbU 0 jbU cyI (fun _ => 0) jcJ cyI (fun _ => 0)) := hD
  refine va_putF (D := (dC, dI)) (ci := 4) (v := .ref jcJ) (ty := .array .int) (C := RX4) (T := TX4) (N := 5) hx hb hts qNY tyX4 tyX4_ok nmX4 hown hK hP hD hS 0 rfl rfl 1 (by decide) (hts _ qaHS) (fun _ h9 => h9) rfl hin rfl (by decide +kernel) rfl rfl (nbq rfl) (qaa qYk 0 rfl) (fun H locs hP hD hS => ?_)
  have hP : va_P (dC, dI) vwCl (qa5w a0 jbU jcJ 0 jbU cyI (fun _ => 0) jcJ cyI (fun _ => 0)) H := hP
  have hD : va_D A (qa5w a0 jbU jcJ 0 jbU cyI (fun _ => 0) jcJ cyI (fun _ => 0)) := hD
  refine lv_aload_n hx hb (qaa qYk 1 rfl) rfl (lv_at hl 0 rfl) ?_
  refine lv_sipush (v := 150) hx hb (qaa qYk 2 rfl) (by decide) ?_
  refine va_newa (atype := .int) (ty := .int) (N' := 150) (a0 := (150, .inl (fun _ => 0))) hx hb (hts _ qE2) rfl hK hP hD hS hA (fun _ => rfl) (by decide) (by decide) (by decide) (nbq rfl) (nbq rfl) dX4_init_26 (fun jmH cA9 H hK9 hP hD hS => ?_)
  obtain rfl := qkQ hK9
  have hP : va_P (dC, dI) vwCl (qa7j a0 jbU jcJ 0 jbU cyI (fun _ => 0) jcJ cyI (fun _ => 0) jmH cyI (fun _ => 0)) H := hP
  have hD : va_D A (qa7j a0 jbU jcJ 0 jbU cyI (fun _ => 0) jcJ cyI (fun _ => 0) jmH cyI (fun _ => 0)) := hD
  refine va_putF (D := (dC, dI)) (ci := 4) (v := .ref jmH) (ty := .array .int) (C := RX4) (T := TX4) (N := 5) hx hb hts qNY tyX4 tyX4_ok nmX4 hown hK hP hD hS 0 rfl rfl 2 (by decide) (hts _ qaFK) (fun _ h9 => h9) rfl hin rfl (by decide +kernel) rfl rfl (nbq rfl) (qaa qXB 0 rfl) (fun H locs hP hD hS => ?_)
  have hP : va_P (dC, dI) vwCl (qa3o a0 jbU jcJ jmH 0 jbU cyI (fun _ => 0) jcJ cyI (fun _ => 0) jmH cyI (fun _ => 0)) H := hP
  have hD : va_D A (qa3o a0 jbU jcJ jmH 0 jbU cyI (fun _ => 0) jcJ cyI (fun _ => 0) jmH cyI (fun _ => 0)) := hD
  refine lv_aload_n hx hb (qaa qXB 1 rfl) rfl (lv_at hl 0 rfl) ?_
  refine lv_bipush (v := 8) hx hb (qaa qXB 2 rfl) (by decide) ?_
  refine va_newa (atype := .int) (ty := .int) (N' := 8) (a0 := (8, .inl (fun _ => 0))) hx hb (hts _ qE2) rfl hK hP hD hS hA (fun _ => rfl) (by decide) (by decide) (by decide) (nbq rfl) (nbq rfl) dX4_init_34 (fun jbu cA9 H hK9 hP hD hS => ?_)
  obtain rfl := qkQ hK9
  have hP : va_P (dC, dI) vwCl (qa7v a0 jbU jcJ jmH 0 jbU cyI (fun _ => 0) jcJ cyI (fun _ => 0) jmH cyI (fun _ => 0) jbu cyI (fun _ => 0)) H := hP
  have hD : va_D A (qa7v a0 jbU jcJ jmH 0 jbU cyI (fun _ => 0) jcJ cyI (fun _ => 0) jmH cyI (fun _ => 0) jbu cyI (fun _ => 0)) := hD
  refine va_putF (D := (dC, dI)) (ci := 4) (v := .ref jbu) (ty := .array .int) (C := RX4) (T := TX4) (N := 5) hx hb hts qNY tyX4 tyX4_ok nmX4 hown hK hP hD hS 0 rfl rfl 3 (by decide) (hts _ qaGL) (fun _ h9 => h9) rfl hin rfl (by decide +kernel) rfl rfl (nbq rfl) (qaa qNZ 0 rfl) (fun H locs hP hD hS => ?_)
  have hP : va_P (dC, dI) vwCl (qakb a0 jbU jcJ jmH jbu 0 jbU cyI (fun _ => 0) jcJ cyI (fun _ => 0) jmH cyI (fun _ => 0) jbu cyI (fun _ => 0)) H := hP
  have hD : va_D A (qakb a0 jbU jcJ jmH jbu 0 jbU cyI (fun _ => 0) jcJ cyI (fun _ => 0) jmH cyI (fun _ => 0) jbu cyI (fun _ => 0)) := hD
  refine lv_aload_n hx hb (qaa qNZ 1 rfl) rfl (lv_at hl 0 rfl) ?_
  obtain ⟨hCc, hPc, hDc, hFc⟩ := qac (ws' := (qa8k a0 jbU jcJ jmH jbu 0 jbU cyI (fun _ => 0) jcJ cyI (fun _ => 0))) hP hD hS hA [0, 1, 2] (by decide +kernel) rfl
  refine va_callv (va_runV (As := []) (rest := []) ⟨hx, hb, hml, hown, hts⟩ (q7G l dC dI cyB cyI cyJ cyP a0 jbU jcJ H.size (.ref jmH) (.ref jbu) 0 (fun _ => 0) (fun _ => 0) hw) (cwV 0 hts gX4_init_X4_setPlain rfl rfl rfl (by decide +kernel) ⟨nbq rfl, nbq rfl⟩) ⟨qab, va_recv (q := (RX4, TX4, 5)) hK hPc (ci := 4) (q0 := 0) rfl rfl, qae hPc hK hDc hNw⟩ rfl rfl hl.1 rfl (lv_room (nbq rfl)) (qaa qNZ 2 rfl) ⟨nbq rfl, nbq rfl⟩) hS (fun q _ h => hFc q h) hFc (fun u t H1 locs ht hvm hw hB hz1 hk1 hS => ?_)
  obtain ⟨x1, f2, f3⟩ := u
  obtain ⟨hP1, hK1, hD1⟩ := hB
  rw [ht] at hP1
  obtain ⟨hP, hD⟩ := qad (wr := [(jmH, .inl (cyI, 150, .inl (fun _ => 0))), (jbu, .inl (cyI, 8, .inl (fun _ => 0)))]) (w1 := (qa8k a0 jbU jcJ jmH jbu x1 jbU cyI f2 jcJ cyI f3)) (wn := (qakb a0 jbU jcJ jmH jbu x1 jbU cyI f2 jcJ cyI f3 jmH cyI (fun _ => 0) jbu cyI (fun _ => 0))) hP hD [0, 1, 2] [3, 4] [2, 3, 4, 0, 1] hCc rfl (by decide +kernel) (by decide +kernel) (by decide +kernel) rfl hk1 hFc hP1 hD1
  generalize H1 = H at hP hS ⊢
  exact (W.widen (k := 4) (n := 458) (nbq rfl) (nbq rfl) (W.vret hx hb hr (fun t ht hW => ⟨⟨((adr [jbU, jcJ, jmH, jbu]), x1, f2, f3), rfl, hw, by rw [ht]; exact hP, va_K.moved hW.alike hK, hD⟩, hS.F ht⟩) hS.2.2 (qaa qNZ 3 rfl)))
theorem qC5 : ∀ w ∈ u_ws RX9 TX9 12, w ∈ wsX9_init := uiM qB9 euX9 (by decide +kernel)
theorem qwr : (.arrayClass .int : Cond) ∈ wsX9_init := qB9 147 (by decide +kernel)
theorem qazg : (.code objectInit ⟨#[0xb1]⟩ 1 none : Cond) ∈ wsX9_init := qB9 12 (by decide +kernel)
theorem qaEW : (.fieldLink RX9 11 "MarchHares$Work" "kinds" "[I" : Cond) ∈ wsX9_init := qB9 266 (by decide +kernel)
theorem qaEx : (.fieldLink RX9 15 "MarchHares$Work" "first" "[I" : Cond) ∈ wsX9_init := qB9 267 (by decide +kernel)
theorem qaJ6 : (.fieldLink RX9 18 "MarchHares$Work" "second" "[I" : Cond) ∈ wsX9_init := qB9 268 (by decide +kernel)
theorem qaGC : (.fieldLink RX9 21 "MarchHares$Work" "third" "[I" : Cond) ∈ wsX9_init := qB9 269 (by decide +kernel)
theorem qaFH : (.fieldLink RX9 24 "MarchHares$Work" "heads" "[I" : Cond) ∈ wsX9_init := qB9 270 (by decide +kernel)
theorem qaHI : (.fieldLink RX9 27 "MarchHares$Work" "rounds" "[I" : Cond) ∈ wsX9_init := qB9 271 (by decide +kernel)
theorem qaro : (.instanceMethod objectInit : Cond) ∈ wsX9_init := qB9 11 (by decide +kernel)
theorem qaQb : (.methodLink RX9 3 objectInit : Cond) ∈ wsX9_init := qB9 265 (by decide +kernel)
set_option maxHeartbeats 4000000 in
set_option maxRecDepth 100000 in
theorem qa1D (l : Launch) (dC : Nat → ClassId) (dI : Nat → Nat → Nat) (cyB cyI cyJ cyP : ClassId) (a0 sz : Nat) {Q : Prop} (hw : qaLS Q) : Met l yX9_init wsX9_init ({ frames := 1, cells := 6, slots := 212, locals := 24 }) (va_Pc [.ref a0] (cPc (dC, dI) (kT cyB cyI cyJ cyP) (qamG a0 0 0 0 0 0 0) sz)) (va_Qv (fun (u : (Nat → Nat)) => Q ) (cB (dC, dI) (kT cyB cyI cyJ cyP) (va_A (qamG a0 0 0 0 0 0 0) sz) (fun u : (Nat → Nat) => ((qaYQ a0 (u 0) (u 1) (u 2) (u 3) (u 4) (u 5) 0 0 0 0 0 0 (u 0) cyI (fun _ => 0) (u 1) cyI (fun _ => 0) (u 2) cyI (fun _ => 0) (u 3) cyI (fun _ => 0) (u 4) cyI (fun _ => 0) (u 5) cyI (fun _ => 0)) : va_W))) (va_A (qamG a0 0 0 0 0 0 0) sz)) 6 212 (va_A (qamG a0 0 0 0 0 0 0) sz) := by
  refine Met.ofW (cc := cX9_init) (maxL := 1) (ret := none) (by decide) rfl ?_
  intro p e s m args below meth c s₁ B hml hv
  obtain ⟨rfl, hsz, hP, hK, hD0, hNw⟩ := hv
  have hx := B.exec
  have hb := B.bytes
  have hr := B.returns
  have hts := atoms_spec (ws := wsX9_init) B.pre
  have hown : s.vm.findClass RX9 = some m.cls := findClass_of_methodNamed B.named
  have hlocks := B.notSynchronized
  have hin : meth.name = "<init>" := (name_of_methodNamed B.named B.method).1
  subst hsz
  have hD := hD0.self (sz := s.heap.size)
  generalize hAe : va_A (qamG a0 0 0 0 0 0 0) s.heap.size = A at hD ⊢
  have hA : ∀ q : Nat, s.heap.size ≤ q → A q := fun q h => by rw [← hAe]; exact Or.inr h
  have hS : va_S A s.heap s.heap [] := va_S.rf
  have hP : va_P (dC, dI) vwCl (qamG a0 0 0 0 0 0 0) s.heap := hP
  have hl := lv_entry ([.ref a0]) (n := 1) (nbq rfl)
  rw [lg_entry_eq]
  generalize (lg_sl ([.ref a0]) ++ List.replicate (1 - (lg_sl ([.ref a0])).length) Slot.unset).toArray = ls at hl ⊢
  have hl : lv_has ls 1 [(0, .ref a0)] := hl
  clear hAe
  obtain ⟨H, hH⟩ : ∃ H, H = s.heap := ⟨_, rfl⟩
  rw [← hH] at hP ⊢
  have hS : va_S A s.heap H [] := by rw [hH]; exact va_S.rf
  refine lv_aload_n hx hb (qaa qRK 0 rfl) rfl (lv_at hl 0 rfl) ?_
  refine W.objInit hx hb hown (hts _ qaQb) (hts _ qaro) (hts _ qazg) rfl (by rw [hml]; exact hl.1) rfl (qaa qRK 1 rfl) (nbq rfl) (nbq rfl) ?_
  refine W.eq (g2 := F0 m 4 ls []) rfl ?_
  refine lv_aload_n hx hb (qaa qRK 2 rfl) rfl (lv_at hl 0 rfl) ?_
  refine lv_bipush (v := 50) hx hb (qaa qRK 3 rfl) (by decide) ?_
  refine va_newa (atype := .int) (ty := .int) (N' := 50) (a0 := (50, .inl (fun _ => 0))) hx hb (hts _ qwr) rfl hK hP hD hS hA (fun _ => rfl) (by decide) (by decide) (by decide) (nbq rfl) (nbq rfl) dX9_init_7 (fun jbU cA9 H hK9 hP hD hS => ?_)
  obtain rfl := qkQ hK9
  have hP : va_P (dC, dI) vwCl (qa7y a0 0 0 0 0 0 0 jbU cyI (fun _ => 0)) H := hP
  have hD : va_D A (qa7y a0 0 0 0 0 0 0 jbU cyI (fun _ => 0)) := hD
  refine va_putF (D := (dC, dI)) (ci := 9) (v := .ref jbU) (ty := .array .int) (C := RX9) (T := TX9) (N := 12) hx hb hts qC5 tyX9 tyX9_ok nmX9 hown hK hP hD hS 0 rfl rfl 0 (by decide) (hts _ qaEW) (fun _ h9 => h9) rfl hin rfl (by decide +kernel) rfl rfl (nbq rfl) (qaa q3k 0 rfl) (fun H locs hP hD hS => ?_)
  have hP : va_P (dC, dI) vwCl (qa8h a0 jbU 0 0 0 0 0 0 jbU cyI (fun _ => 0)) H := hP
  have hD : va_D A (qa8h a0 jbU 0 0 0 0 0 0 jbU cyI (fun _ => 0)) := hD
  refine lv_aload_n hx hb (qaa q3k 1 rfl) rfl (lv_at hl 0 rfl) ?_
  refine lv_bipush (v := 50) hx hb (qaa q3k 2 rfl) (by decide) ?_
  refine va_newa (atype := .int) (ty := .int) (N' := 50) (a0 := (50, .inl (fun _ => 0))) hx hb (hts _ qwr) rfl hK hP hD hS hA (fun _ => rfl) (by decide) (by decide) (by decide) (nbq rfl) (nbq rfl) dX9_init_15 (fun jgC cA9 H hK9 hP hD hS => ?_)
  obtain rfl := qkQ hK9
  have hP : va_P (dC, dI) vwCl (qa6A a0 jbU 0 0 0 0 0 0 jbU cyI (fun _ => 0) jgC cyI (fun _ => 0)) H := hP
  have hD : va_D A (qa6A a0 jbU 0 0 0 0 0 0 jbU cyI (fun _ => 0) jgC cyI (fun _ => 0)) := hD
  refine va_putF (D := (dC, dI)) (ci := 9) (v := .ref jgC) (ty := .array .int) (C := RX9) (T := TX9) (N := 12) hx hb hts qC5 tyX9 tyX9_ok nmX9 hown hK hP hD hS 0 rfl rfl 1 (by decide) (hts _ qaEx) (fun _ h9 => h9) rfl hin rfl (by decide +kernel) rfl rfl (nbq rfl) (qaa qYC 0 rfl) (fun H locs hP hD hS => ?_)
  have hP : va_P (dC, dI) vwCl (qa7p a0 jbU jgC 0 0 0 0 0 0 jbU cyI (fun _ => 0) jgC cyI (fun _ => 0)) H := hP
  have hD : va_D A (qa7p a0 jbU jgC 0 0 0 0 0 0 jbU cyI (fun _ => 0) jgC cyI (fun _ => 0)) := hD
  refine lv_aload_n hx hb (qaa qYC 1 rfl) rfl (lv_at hl 0 rfl) ?_
  refine lv_bipush (v := 50) hx hb (qaa qYC 2 rfl) (by decide) ?_
  refine va_newa (atype := .int) (ty := .int) (N' := 50) (a0 := (50, .inl (fun _ => 0))) hx hb (hts _ qwr) rfl hK hP hD hS hA (fun _ => rfl) (by decide) (by decide) (by decide) (nbq rfl) (nbq rfl) dX9_init_23 (fun jgh cA9 H hK9 hP hD hS => ?_)
  obtain rfl := qkQ hK9
  have hP : va_P (dC, dI) vwCl (qa5n a0 jbU jgC 0 0 0 0 0 0 jbU cyI (fun _ => 0) jgC cyI (fun _ => 0) jgh cyI (fun _ => 0)) H := hP
  have hD : va_D A (qa5n a0 jbU jgC 0 0 0 0 0 0 jbU cyI (fun _ => 0) jgC cyI (fun _ => 0) jgh cyI (fun _ => 0)) := hD
  refine va_putF (D := (dC, dI)) (ci := 9) (v := .ref jgh) (ty := .array .int) (C := RX9) (T := TX9) (N := 12) hx hb hts qC5 tyX9 tyX9_ok nmX9 hown hK hP hD hS 0 rfl rfl 2 (by decide) (hts _ qaJ6) (fun _ h9 => h9) rfl hin rfl (by decide +kernel) rfl rfl (nbq rfl) (qaa qXy 0 rfl) (fun H locs hP hD hS => ?_)
  have hP : va_P (dC, dI) vwCl (qa4P a0 jbU jgC jgh 0 0 0 0 0 0 jbU cyI (fun _ => 0) jgC cyI (fun _ => 0) jgh cyI (fun _ => 0)) H := hP
  have hD : va_D A (qa4P a0 jbU jgC jgh 0 0 0 0 0 0 jbU cyI (fun _ => 0) jgC cyI (fun _ => 0) jgh cyI (fun _ => 0)) := hD
  refine lv_aload_n hx hb (qaa qXy 1 rfl) rfl (lv_at hl 0 rfl) ?_
  refine lv_bipush (v := 50) hx hb (qaa qXy 2 rfl) (by decide) ?_
  refine va_newa (atype := .int) (ty := .int) (N' := 50) (a0 := (50, .inl (fun _ => 0))) hx hb (hts _ qwr) rfl hK hP hD hS hA (fun _ => rfl) (by decide) (by decide) (by decide) (nbq rfl) (nbq rfl) dX9_init_31 (fun jho cA9 H hK9 hP hD hS => ?_)
  obtain rfl := qkQ hK9
  have hP : va_P (dC, dI) vwCl (qa5P a0 jbU jgC jgh 0 0 0 0 0 0 jbU cyI (fun _ => 0) jgC cyI (fun _ => 0) jgh cyI (fun _ => 0) jho cyI (fun _ => 0)) H := hP
  have hD : va_D A (qa5P a0 jbU jgC jgh 0 0 0 0 0 0 jbU cyI (fun _ => 0) jgC cyI (fun _ => 0) jgh cyI (fun _ => 0) jho cyI (fun _ => 0)) := hD
  refine va_putF (D := (dC, dI)) (ci := 9) (v := .ref jho) (ty := .array .int) (C := RX9) (T := TX9) (N := 12) hx hb hts qC5 tyX9 tyX9_ok nmX9 hown hK hP hD hS 0 rfl rfl 3 (by decide) (hts _ qaGC) (fun _ h9 => h9) rfl hin rfl (by decide +kernel) rfl rfl (nbq rfl) (qaa qWt 0 rfl) (fun H locs hP hD hS => ?_)
  have hP : va_P (dC, dI) vwCl (qa4b a0 jbU jgC jgh jho 0 0 0 0 0 0 jbU cyI (fun _ => 0) jgC cyI (fun _ => 0) jgh cyI (fun _ => 0) jho cyI (fun _ => 0)) H := hP
  have hD : va_D A (qa4b a0 jbU jgC jgh jho 0 0 0 0 0 0 jbU cyI (fun _ => 0) jgC cyI (fun _ => 0) jgh cyI (fun _ => 0) jho cyI (fun _ => 0)) := hD
  refine lv_aload_n hx hb (qaa qWt 1 rfl) rfl (lv_at hl 0 rfl) ?_
  refine lv_bipush (v := 6) hx hb (qaa qWt 2 rfl) (by decide) ?_
  refine va_newa (atype := .int) (ty := .int) (N' := 6) (a0 := (6, .inl (fun _ => 0))) hx hb (hts _ qwr) rfl hK hP hD hS hA (fun _ => rfl) (by decide) (by decide) (by decide) (nbq rfl) (nbq rfl) dX9_init_39 (fun jju cA9 H hK9 hP hD hS => ?_)
  obtain rfl := qkQ hK9
  have hP : va_P (dC, dI) vwCl (qa2R a0 jbU jgC jgh jho 0 0 0 0 0 0 jbU cyI (fun _ => 0) jgC cyI (fun _ => 0) jgh cyI (fun _ => 0) jho cyI (fun _ => 0) jju cyI (fun _ => 0)) H := hP
  have hD : va_D A (qa2R a0 jbU jgC jgh jho 0 0 0 0 0 0 jbU cyI (fun _ => 0) jgC cyI (fun _ => 0) jgh cyI (fun _ => 0) jho cyI (fun _ => 0) jju cyI (fun _ => 0)) := hD
  refine va_putF (D := (dC, dI)) (ci := 9) (v := .ref jju) (ty := .array .int) (C := RX9) (T := TX9) (N := 12) hx hb hts qC5 tyX9 tyX9_ok nmX9 hown hK hP hD hS 0 rfl rfl 4 (by decide) (hts _ qaFH) (fun _ h9 => h9) rfl hin rfl (by decide +kernel) rfl rfl (nbq rfl) (qaa qXN 0 rfl) (fun H locs hP hD hS => ?_)
  have hP : va_P (dC, dI) vwCl (qa7G a0 jbU jgC jgh jho jju 0 0 0 0 0 0 jbU cyI (fun _ => 0) jgC cyI (fun _ => 0) jgh cyI (fun _ => 0) jho cyI (fun _ => 0) jju cyI (fun _ => 0)) H := hP
  have hD : va_D A (qa7G a0 jbU jgC jgh jho jju 0 0 0 0 0 0 jbU cyI (fun _ => 0) jgC cyI (fun _ => 0) jgh cyI (fun _ => 0) jho cyI (fun _ => 0) jju cyI (fun _ => 0)) := hD
  refine lv_aload_n hx hb (qaa qXN 1 rfl) rfl (lv_at hl 0 rfl) ?_
  refine lv_bipush (v := 6) hx hb (qaa qXN 2 rfl) (by decide) ?_
  refine va_newa (atype := .int) (ty := .int) (N' := 6) (a0 := (6, .inl (fun _ => 0))) hx hb (hts _ qwr) rfl hK hP hD hS hA (fun _ => rfl) (by decide) (by decide) (by decide) (nbq rfl) (nbq rfl) dX9_init_47 (fun jlw cA9 H hK9 hP hD hS => ?_)
  obtain rfl := qkQ hK9
  have hP : va_P (dC, dI) vwCl (qa9x a0 jbU jgC jgh jho jju 0 0 0 0 0 0 jbU cyI (fun _ => 0) jgC cyI (fun _ => 0) jgh cyI (fun _ => 0) jho cyI (fun _ => 0) jju cyI (fun _ => 0) jlw cyI (fun _ => 0)) H := hP
  have hD : va_D A (qa9x a0 jbU jgC jgh jho jju 0 0 0 0 0 0 jbU cyI (fun _ => 0) jgC cyI (fun _ => 0) jgh cyI (fun _ => 0) jho cyI (fun _ => 0) jju cyI (fun _ => 0) jlw cyI (fun _ => 0)) := hD
  refine va_putF (D := (dC, dI)) (ci := 9) (v := .ref jlw) (ty := .array .int) (C := RX9) (T := TX9) (N := 12) hx hb hts qC5 tyX9 tyX9_ok nmX9 hown hK hP hD hS 0 rfl rfl 5 (by decide) (hts _ qaHI) (fun _ h9 => h9) rfl hin rfl (by decide +kernel) rfl rfl (nbq rfl) (qaa qagW 0 rfl) (fun H locs hP hD hS => ?_)
  have hP : va_P (dC, dI) vwCl (qaYQ a0 jbU jgC jgh jho jju jlw 0 0 0 0 0 0 jbU cyI (fun _ => 0) jgC cyI (fun _ => 0) jgh cyI (fun _ => 0) jho cyI (fun _ => 0) jju cyI (fun _ => 0) jlw cyI (fun _ => 0)) H := hP
  have hD : va_D A (qaYQ a0 jbU jgC jgh jho jju jlw 0 0 0 0 0 0 jbU cyI (fun _ => 0) jgC cyI (fun _ => 0) jgh cyI (fun _ => 0) jho cyI (fun _ => 0) jju cyI (fun _ => 0) jlw cyI (fun _ => 0)) := hD
  exact (W.widen (k := 6) (n := 212) (nbq rfl) (nbq rfl) (W.vret hx hb hr (fun t ht hW => ⟨⟨(adr [jbU, jgC, jgh, jho, jju, jlw]), rfl, hw, by rw [ht]; exact hP, va_K.moved hW.alike hK, hD⟩, hS.F ht⟩) hS.2.2 (qaa qagW 1 rfl)))
theorem qacF : ∀ w ∈ u_ws RX1 TX1 4, w ∈ wsX1_init := uiM qHA qV8 (by decide +kernel)
theorem qZd : (.arrayClass .int : Cond) ∈ wsX1_init := qHA 147 (by decide +kernel)
theorem qawg : (.code objectInit ⟨#[0xb1]⟩ 1 none : Cond) ∈ wsX1_init := qHA 12 (by decide +kernel)
theorem qaFk : (.fieldLink RX1 13 "MarchHares$Days" "row" "[I" : Cond) ∈ wsX1_init := qHA 276 (by decide +kernel)
theorem qaF2 : (.fieldLink RX1 17 "MarchHares$Days" "owedEach" "[I" : Cond) ∈ wsX1_init := qHA 277 (by decide +kernel)
theorem qap2 : (.instanceMethod objectInit : Cond) ∈ wsX1_init := qHA 11 (by decide +kernel)
theorem qaM4 : (.methodLink RX1 7 objectInit : Cond) ∈ wsX1_init := qHA 275 (by decide +kernel)
set_option maxHeartbeats 4000000 in
set_option maxRecDepth 100000 in
theorem qaL4 (l : Launch) (dC : Nat → ClassId) (dI : Nat → Nat → Nat) (cyB cyI cyJ cyP : ClassId) (a0 a1 a2 jmO jnd jmh sz : Nat) (jov jow jlD jlE jlF jnY jlf jlG : Value) (jnS : Int32) (jnV joi jmW : NI) {Q : NI → Prop} (hw : qaks jnS jnV joi jmW Q) : Met l yX1_init wsX1_init ({ frames := 2, cells := 2, slots := 70, locals := 63 }) (va_Pc [.ref a0, .ref a1, .ref a2] (cPc (dC, dI) (kT cyB cyI cyJ cyP) (qalX a0 a1 jov jow jlD jlE jnd jmh jmO jlF jnY jnS jlf jlG jmO cyI jnV jnd cyI joi jmh cyI jmW) sz)) (va_Qv (fun (u : (Nat → Nat) × NI) => Q u.2) (cB (dC, dI) (kT cyB cyI cyJ cyP) (va_A (qalX a0 a1 jov jow jlD jlE jnd jmh jmO jlF jnY jnS jlf jlG jmO cyI jnV jnd cyI joi jmh cyI jmW) sz) (fun u : (Nat → Nat) × NI => ((qa9j a0 (u.1 0) (u.1 1) a1 a2 a1 jov jow jlD jlE jnd jmh jmO jlF jnY jnS jlf jlG jmO cyI jnV jnd cyI joi jmh cyI jmW (u.1 0) cyI u.2 (u.1 1) cyI (fun _ => 0)) : va_W))) (va_A (qalX a0 a1 jov jow jlD jlE jnd jmh jmO jlF jnY jnS jlf jlG jmO cyI jnV jnd cyI joi jmh cyI jmW) sz)) 2 70 (va_A (qalX a0 a1 jov jow jlD jlE jnd jmh jmO jlF jnY jnS jlf jlG jmO cyI jnV jnd cyI joi jmh cyI jmW) sz) := by
  refine Met.ofW (cc := cX1_init) (maxL := 3) (ret := none) (by decide) rfl ?_
  intro p e s m args below meth c s₁ B hml hv
  obtain ⟨rfl, hsz, hP, hK, hD0, hNw⟩ := hv
  have hx := B.exec
  have hb := B.bytes
  have hr := B.returns
  have hts := atoms_spec (ws := wsX1_init) B.pre
  have hown : s.vm.findClass RX1 = some m.cls := findClass_of_methodNamed B.named
  have hlocks := B.notSynchronized
  have hin : meth.name = "<init>" := (name_of_methodNamed B.named B.method).1
  subst hsz
  have hD := hD0.self (sz := s.heap.size)
  generalize hAe : va_A (qalX a0 a1 jov jow jlD jlE jnd jmh jmO jlF jnY jnS jlf jlG jmO cyI jnV jnd cyI joi jmh cyI jmW) s.heap.size = A at hD ⊢
  have hA : ∀ q : Nat, s.heap.size ≤ q → A q := fun q h => by rw [← hAe]; exact Or.inr h
  have hS : va_S A s.heap s.heap [] := va_S.rf
  have hP : va_P (dC, dI) vwCl (qalX a0 a1 jov jow jlD jlE jnd jmh jmO jlF jnY jnS jlf jlG jmO cyI jnV jnd cyI joi jmh cyI jmW) s.heap := hP
  have hl := lv_entry ([.ref a0, .ref a1, .ref a2]) (n := 3) (nbq rfl)
  rw [lg_entry_eq]
  generalize (lg_sl ([.ref a0, .ref a1, .ref a2]) ++ List.replicate (3 - (lg_sl ([.ref a0, .ref a1, .ref a2])).length) Slot.unset).toArray = ls at hl ⊢
  have hl : lv_has ls 3 [(0, .ref a0), (1, .ref a1), (2, .ref a2)] := hl
  clear hAe
  obtain ⟨H, hH⟩ : ∃ H, H = s.heap := ⟨_, rfl⟩
  rw [← hH] at hP ⊢
  have hS : va_S A s.heap H [] := by rw [hH]; exact va_S.rf
  refine lv_aload_n hx hb (qaa qSC 0 rfl) rfl (lv_at hl 0 rfl) ?_
  refine W.objInit hx hb hown (hts _ qaM4) (hts _ qap2) (hts _ qawg) rfl (by rw [hml]; exact hl.1) rfl (qaa qSC 1 rfl) (nbq rfl) (nbq rfl) ?_
  refine W.eq (g2 := F0 m 4 ls []) rfl ?_
  refine lv_aload_n hx hb (qaa qSC 2 rfl) rfl (lv_at hl 0 rfl) ?_
  refine lv_bipush (v := 64) hx hb (qaa qSC 3 rfl) (by decide) ?_
  refine va_newa (atype := .int) (ty := .int) (N' := 64) (a0 := (64, .inl (fun _ => 0))) hx hb (hts _ qZd) rfl hK hP hD hS hA (fun _ => rfl) (by decide) (by decide) (by decide) (nbq rfl) (nbq rfl) dX1_init_7 (fun jch cA9 H hK9 hP hD hS => ?_)
  obtain rfl := qkQ hK9
  have hP : va_P (dC, dI) vwCl (qa66 a0 a1 jov jow jlD jlE jnd jmh jmO jlF jnY jnS jlf jlG jmO cyI jnV jnd cyI joi jmh cyI jmW jch cyI (fun _ => 0)) H := hP
  have hD : va_D A (qa66 a0 a1 jov jow jlD jlE jnd jmh jmO jlF jnY jnS jlf jlG jmO cyI jnV jnd cyI joi jmh cyI jmW jch cyI (fun _ => 0)) := hD
  refine va_putF (D := (dC, dI)) (ci := 1) (v := .ref jch) (ty := .array .int) (C := RX1) (T := TX1) (N := 4) hx hb hts qacF tyX1 tyX1_ok nmX1 hown hK hP hD hS 0 rfl rfl 0 (by decide) (hts _ qaFk) (fun _ h9 => h9) rfl hin rfl (by decide +kernel) rfl rfl (nbq rfl) (qaa q01 0 rfl) (fun H locs hP hD hS => ?_)
  have hP : va_P (dC, dI) vwCl (qa2X a0 jch a1 jov jow jlD jlE jnd jmh jmO jlF jnY jnS jlf jlG jmO cyI jnV jnd cyI joi jmh cyI jmW jch cyI (fun _ => 0)) H := hP
  have hD : va_D A (qa2X a0 jch a1 jov jow jlD jlE jnd jmh jmO jlF jnY jnS jlf jlG jmO cyI jnV jnd cyI joi jmh cyI jmW jch cyI (fun _ => 0)) := hD
  refine lv_aload_n hx hb (qaa q01 1 rfl) rfl (lv_at hl 0 rfl) ?_
  refine lv_bipush (v := 6) hx hb (qaa q01 2 rfl) (by decide) ?_
  refine va_newa (atype := .int) (ty := .int) (N' := 6) (a0 := (6, .inl (fun _ => 0))) hx hb (hts _ qZd) rfl hK hP hD hS hA (fun _ => rfl) (by decide) (by decide) (by decide) (nbq rfl) (nbq rfl) dX1_init_15 (fun jlN cA9 H hK9 hP hD hS => ?_)
  obtain rfl := qkQ hK9
  have hP : va_P (dC, dI) vwCl (qbad a0 jch a1 jov jow jlD jlE jnd jmh jmO jlF jnY jnS jlf jlG jmO cyI jnV jnd cyI joi jmh cyI jmW jch cyI (fun _ => 0) jlN cyI (fun _ => 0)) H := hP
  have hD : va_D A (qbad a0 jch a1 jov jow jlD jlE jnd jmh jmO jlF jnY jnS jlf jlG jmO cyI jnV jnd cyI joi jmh cyI jmW jch cyI (fun _ => 0) jlN cyI (fun _ => 0)) := hD
  refine va_putF (D := (dC, dI)) (ci := 1) (v := .ref jlN) (ty := .array .int) (C := RX1) (T := TX1) (N := 4) hx hb hts qacF tyX1 tyX1_ok nmX1 hown hK hP hD hS 0 rfl rfl 1 (by decide) (hts _ qaF2) (fun _ h9 => h9) rfl hin rfl (by decide +kernel) rfl rfl (nbq rfl) (qaa qC9 0 rfl) (fun H locs hP hD hS => ?_)
  have hP : va_P (dC, dI) vwCl (qa0O a0 jch jlN a1 jov jow jlD jlE jnd jmh jmO jlF jnY jnS jlf jlG jmO cyI jnV jnd cyI joi jmh cyI jmW jch cyI (fun _ => 0) jlN cyI (fun _ => 0)) H := hP
  have hD : va_D A (qa0O a0 jch jlN a1 jov jow jlD jlE jnd jmh jmO jlF jnY jnS jlf jlG jmO cyI jnV jnd cyI joi jmh cyI jmW jch cyI (fun _ => 0) jlN cyI (fun _ => 0)) := hD
  refine lv_aload_n hx hb (qaa qC9 1 rfl) rfl (lv_at hl 0 rfl) ?_
  refine lv_aload_n hx hb (qaa qC9 2 rfl) rfl (lv_at hl 1 rfl) ?_
  refine lv_aload_n hx hb (qaa qC9 3 rfl) rfl (lv_at hl 2 rfl) ?_
  obtain ⟨hCc, hPc, hDc, hFc⟩ := qac (ws' := (qbbt a0 jch jlN jch cyI (fun _ => 0) a1 jov jow jlD jlE jnd jmh jmO jlF jnY jnS jlf jlG jmO cyI jnV jnd cyI joi jmh cyI jmW)) hP hD hS hA [0, 5, 1, 2, 3, 4] (by decide +kernel) rfl
  refine va_callv (va_runV (As := [.ref a1, .ref a2]) (rest := []) ⟨hx, hb, hml, hown, hts⟩ (qaC2 l dC dI cyB cyI cyJ cyP a0 a1 a2 jch jmO jnd jmh H.size (.ref jlN) (.null) (.null) (jov) (jow) (jlD) (jlE) (jlF) (jnY) (jlf) (jlG) jnS jnV joi jmW (fun _ => 0) hw) (cwV 2 hts gX1_init_X1_begin rfl rfl rfl (by decide +kernel) ⟨nbq rfl, nbq rfl⟩) ⟨qab, va_recv (q := (RX1, TX1, 4)) hK hPc (ci := 1) (q0 := 0) rfl rfl, qae hPc hK hDc hNw⟩ rfl rfl hl.1 rfl (lv_room (nbq rfl)) (qaa qC9 4 rfl) ⟨nbq rfl, nbq rfl⟩) hS (fun q _ h => hFc q h) hFc (fun u t H1 locs ht hvm hw hB hz1 hk1 hS => ?_)
  obtain ⟨f1, rfl⟩ : ∃ z, z = u := ⟨_, rfl⟩
  obtain ⟨hP1, hK1, hD1⟩ := hB
  rw [ht] at hP1
  obtain ⟨hP, hD⟩ := qad (wr := (qa6W jlN cyI (fun _ => 0))) (w1 := [(a0, .inr (1, [.ref jch, .ref jlN, .ref a1, .ref a2])), (jch, .inl (cyI, 64, .inl f1)), (a1, .inr (2, [jov, jow, jlD, jlE, .ref jnd, .ref jmh, .ref jmO, jlF, jnY, .int jnS, jlf, jlG])), (jmO, .inl (cyI, 36, .inl jnV)), (jnd, .inl (cyI, 6, .inl joi)), (jmh, .inl (cyI, 6, .inl jmW))]) (wn := (qa9j a0 jch jlN a1 a2 a1 jov jow jlD jlE jnd jmh jmO jlF jnY jnS jlf jlG jmO cyI jnV jnd cyI joi jmh cyI jmW jch cyI f1 jlN cyI (fun _ => 0))) hP hD [0, 5, 1, 2, 3, 4] [6] [1, 3, 4, 5, 6, 2, 0] hCc rfl (by decide +kernel) (by decide +kernel) (by decide +kernel) rfl hk1 hFc hP1 hD1
  generalize H1 = H at hP hS ⊢
  exact (W.widen (k := 2) (n := 70) (nbq rfl) (nbq rfl) (W.vret hx hb hr (fun t ht hW => ⟨⟨((adr [jch, jlN]), f1), rfl, hw, by rw [ht]; exact hP, va_K.moved hW.alike hK, hD⟩, hS.F ht⟩) hS.2.2 (qaa qC9 5 rfl)))
